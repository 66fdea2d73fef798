section ZM6
variable {b : Nat} {e : Nat → Value} {D : va_G} {A : Nat → ClassId} {X : State → Prop}
abbrev mX0_foldField : rx_M := (RX0, cX0_foldField, 5, (some .boolean), false)
theorem vy_X0_foldField : rx_Y (zV b e D A X) yX0_foldField mX0_foldField 2 := ⟨zw2061, zw421, by decide, by decide +kernel, by decide +kernel, by decide +kernel⟩
noncomputable def vX0_foldField_53 : rx_K := o_ld rx_isR 0 (o_ld rx_isR 4 (o_getf 7 16 (o_putf rx_isI 0 16 (o_const 8 (o_ret1 rx_isZ)))))
set_option maxRecDepth 20000 in
theorem wX0_foldField_53 (hZ : zO b e D A X) : rx_OK (zV b e D A X) mX0_foldField 2 53 vX0_foldField_53 := by
  unfold vX0_foldField_53
  refine s_aload_n hZ.1 dX0_foldField_53 rfl ?_
  refine s_aload hZ.1 dX0_foldField_54 ?_
  refine yg7_16 dX0_foldField_56 zw1059 ?_
  refine yp0_16 hZ.1 dX0_foldField_59 zw679 ?_
  refine s_iconst dX0_foldField_62 (by decide +kernel) ?_
  exact s_zret rx_z_ok rfl dX0_foldField_63
noncomputable def vX0_foldField_51 : rx_K := o_const 0 (o_ret1 rx_isZ)
set_option maxRecDepth 20000 in
theorem wX0_foldField_51 (hZ : zO b e D A X) : rx_OK (zV b e D A X) mX0_foldField 2 51 vX0_foldField_51 := by
  unfold vX0_foldField_51
  refine s_iconst dX0_foldField_51 (by decide +kernel) ?_
  exact s_zret rx_z_ok rfl dX0_foldField_52
noncomputable def vX0_foldField_27 : rx_K := o_ld rx_isR 0 (o_getf 0 0 (o_ld rx_isR 4 (o_ld rx_isR 0 (o_getf 0 0 (o_getf 11 18 (o_ld rx_isI 1 (o_ld rx_isR 0 (o_getf 0 6 (o_callV 4 11 FX11_isLet_ (o_c1 rx_eq vX0_foldField_51 vX0_foldField_53))))))))))
set_option maxRecDepth 20000 in
theorem wX0_foldField_27 (hZ : zO b e D A X) : rx_OK (zV b e D A X) mX0_foldField 2 27 vX0_foldField_27 := by
  unfold vX0_foldField_27
  refine s_aload_n hZ.1 dX0_foldField_27 rfl ?_
  refine yg0_0 dX0_foldField_28 zw661 ?_
  refine s_aload hZ.1 dX0_foldField_31 ?_
  refine s_aload_n hZ.1 dX0_foldField_33 rfl ?_
  refine yg0_0 dX0_foldField_34 zw661 ?_
  refine yg11_18 dX0_foldField_37 zw1296 ?_
  refine s_iload_n hZ.1 dX0_foldField_40 rfl ?_
  refine s_aload_n hZ.1 dX0_foldField_41 rfl ?_
  refine yg0_6 dX0_foldField_42 zw669 ?_
  refine s_callV hZ.1 (Met_X11_isLet_ hZ) (Nat.le_of_ble_eq_true rfl) vy_X11_isLet_ zcl11 zw2072 zw2073 (Or.inl zw2071) dX0_foldField_45 ?_
  exact s_if_ne dX0_foldField_48 (by decide) (wX0_foldField_53 hZ) (wX0_foldField_51 hZ)
noncomputable def vX0_foldField_19 : rx_K := o_ld rx_isR 4 (o_getf 7 15 (o_c1 rx_eq vX0_foldField_51 vX0_foldField_27))
set_option maxRecDepth 20000 in
theorem wX0_foldField_19 (hZ : zO b e D A X) : rx_OK (zV b e D A X) mX0_foldField 2 19 vX0_foldField_19 := by
  unfold vX0_foldField_19
  refine s_aload hZ.1 dX0_foldField_19 ?_
  refine yg7_15 dX0_foldField_21 zw1052 ?_
  exact s_if_eq dX0_foldField_24 (by decide) (wX0_foldField_51 hZ) (wX0_foldField_27 hZ)
noncomputable def vX0_foldField_0 : rx_K := o_ld rx_isR 0 (o_getf 0 0 (o_ld rx_isI 1 (o_ld rx_isL 2 (o_const 147573952589676412897 (o_callV 3 11 FX11_fieldIn (o_st rx_isR 4 (o_ld rx_isR 4 (o_nul vX0_foldField_51 vX0_foldField_19))))))))
set_option maxRecDepth 20000 in
theorem wX0_foldField_0 (hZ : zO b e D A X) : rx_OK (zV b e D A X) mX0_foldField 2 0 vX0_foldField_0 := by
  unfold vX0_foldField_0
  refine s_aload_n hZ.1 dX0_foldField_0 rfl ?_
  refine yg0_0 dX0_foldField_1 zw661 ?_
  refine s_iload_n hZ.1 dX0_foldField_4 rfl ?_
  refine s_lload_n hZ.1 dX0_foldField_5 rfl ?_
  refine s_ldc2 dX0_foldField_6 zw2062 (by decide +kernel) ?_
  refine s_callV hZ.1 (Met_X11_fieldIn hZ) (Nat.le_of_ble_eq_true rfl) vy_X11_fieldIn zcl11 zw2064 zw2065 (Or.inl zw2063) dX0_foldField_9 ?_
  refine s_astore hZ.1 dX0_foldField_12 (Nat.le_of_ble_eq_true rfl) ?_
  refine s_aload hZ.1 dX0_foldField_14 ?_
  exact s_ifnull dX0_foldField_16 (by decide) (wX0_foldField_51 hZ) (wX0_foldField_19 hZ)
noncomputable def FX0_foldField : List Nat → rx_H → Option (Nat × rx_H) := rx_ent 5 vX0_foldField_0
theorem Met_X0_foldField (hZ : zO b e D A X) : rx_Met (zV b e D A X) 2 yX0_foldField mX0_foldField (FX0_foldField) := rx_entry hZ.1 (wX0_foldField_0 hZ) (by decide +kernel) rfl (fun h => by cases h)
abbrev mX0_fold : rx_M := (RX0, cX0_fold, 3, (some .boolean), false)
theorem vy_X0_fold : rx_Y (zV b e D A X) yX0_fold mX0_fold 1 := ⟨zw2057, zw421, by decide, by decide +kernel, by decide +kernel, by decide +kernel⟩
abbrev mX0_foldChain : rx_M := (RX0, cX0_foldChain, 4, (some .boolean), false)
theorem vy_X0_foldChain : rx_Y (zV b e D A X) yX0_foldChain mX0_foldChain 1 := ⟨zw2083, zw421, by decide, by decide +kernel, by decide +kernel, by decide +kernel⟩
abbrev mX0_foldCompare : rx_M := (RX0, cX0_foldCompare, 3, (some .boolean), false)
theorem vy_X0_foldCompare : rx_Y (zV b e D A X) yX0_foldCompare mX0_foldCompare 1 := ⟨zw2079, zw421, by decide, by decide +kernel, by decide +kernel, by decide +kernel⟩
abbrev vl3 : List (MethodName × rx_M) := [(yX0_fold, mX0_fold), (yX0_foldChain, mX0_foldChain), (yX0_foldCompare, mX0_foldCompare)]
noncomputable def vX0_fold_206 (g : Nat → List Nat → rx_H → Option (Nat × rx_H)) : rx_K := o_const 0 (o_ret1 rx_isZ)
set_option maxRecDepth 20000 in
theorem wX0_fold_206 {dn : Nat} {g : Nat → List Nat → rx_H → Option (Nat × rx_H)} (hZ : zO b e D A X) (hg : ∀ i y M, vl3[i]? = some (y, M) → rx_Met (zV b e D A X) dn y M (g i)) (hd : 3 ≤ dn) : rx_OK (zV b e D A X) mX0_fold (dn + 1) 206 (vX0_fold_206 g) := by
  unfold vX0_fold_206
  refine s_iconst dX0_fold_206 (by decide +kernel) ?_
  exact s_zret rx_z_ok rfl dX0_fold_207
noncomputable def vX0_fold_200 (g : Nat → List Nat → rx_H → Option (Nat × rx_H)) : rx_K := o_ld rx_isR 0 (o_ld rx_isR 1 (o_callV 1 0 (g 1) (o_ret1 rx_isZ)))
set_option maxRecDepth 20000 in
theorem wX0_fold_200 {dn : Nat} {g : Nat → List Nat → rx_H → Option (Nat × rx_H)} (hZ : zO b e D A X) (hg : ∀ i y M, vl3[i]? = some (y, M) → rx_Met (zV b e D A X) dn y M (g i)) (hd : 3 ≤ dn) : rx_OK (zV b e D A X) mX0_fold (dn + 1) 200 (vX0_fold_200 g) := by
  unfold vX0_fold_200
  refine s_aload_n hZ.1 dX0_fold_200 rfl ?_
  refine s_aload_n hZ.1 dX0_fold_201 rfl ?_
  refine s_callV hZ.1 (hg 1 _ _ rfl) (Nat.le_refl _) vy_X0_foldChain zcl0 zw2082 zw62 (Or.inl zw2080) dX0_fold_202 ?_
  exact s_zret rx_z_ok rfl dX0_fold_205
noncomputable def vX0_fold_194 (g : Nat → List Nat → rx_H → Option (Nat × rx_H)) : rx_K := o_ld rx_isR 0 (o_ld rx_isR 1 (o_callV 1 0 (g 2) (o_ret1 rx_isZ)))
set_option maxRecDepth 20000 in
theorem wX0_fold_194 {dn : Nat} {g : Nat → List Nat → rx_H → Option (Nat × rx_H)} (hZ : zO b e D A X) (hg : ∀ i y M, vl3[i]? = some (y, M) → rx_Met (zV b e D A X) dn y M (g i)) (hd : 3 ≤ dn) : rx_OK (zV b e D A X) mX0_fold (dn + 1) 194 (vX0_fold_194 g) := by
  unfold vX0_fold_194
  refine s_aload_n hZ.1 dX0_fold_194 rfl ?_
  refine s_aload_n hZ.1 dX0_fold_195 rfl ?_
  refine s_callV hZ.1 (hg 2 _ _ rfl) (Nat.le_refl _) vy_X0_foldCompare zcl0 zw2078 zw61 (Or.inl zw2076) dX0_fold_196 ?_
  exact s_zret rx_z_ok rfl dX0_fold_199
noncomputable def vX0_fold_193 (g : Nat → List Nat → rx_H → Option (Nat × rx_H)) : rx_K := o_ret1 rx_isZ
set_option maxRecDepth 20000 in
theorem wX0_fold_193 {dn : Nat} {g : Nat → List Nat → rx_H → Option (Nat × rx_H)} (hZ : zO b e D A X) (hg : ∀ i y M, vl3[i]? = some (y, M) → rx_Met (zV b e D A X) dn y M (g i)) (hd : 3 ≤ dn) : rx_OK (zV b e D A X) mX0_fold (dn + 1) 193 (vX0_fold_193 g) := by
  unfold vX0_fold_193
  exact s_zret rx_z_ok rfl dX0_fold_193
noncomputable def vX0_fold_192 (g : Nat → List Nat → rx_H → Option (Nat × rx_H)) : rx_K := o_const 0 ((vX0_fold_193 g))
set_option maxRecDepth 20000 in
theorem wX0_fold_192 {dn : Nat} {g : Nat → List Nat → rx_H → Option (Nat × rx_H)} (hZ : zO b e D A X) (hg : ∀ i y M, vl3[i]? = some (y, M) → rx_Met (zV b e D A X) dn y M (g i)) (hd : 3 ≤ dn) : rx_OK (zV b e D A X) mX0_fold (dn + 1) 192 (vX0_fold_192 g) := by
  unfold vX0_fold_192
  refine s_iconst dX0_fold_192 (by decide +kernel) ?_
  exact (wX0_fold_193 hZ hg hd)
noncomputable def vX0_fold_188 (g : Nat → List Nat → rx_H → Option (Nat × rx_H)) : rx_K := o_const 8 ((vX0_fold_193 g))
set_option maxRecDepth 20000 in
theorem wX0_fold_188 {dn : Nat} {g : Nat → List Nat → rx_H → Option (Nat × rx_H)} (hZ : zO b e D A X) (hg : ∀ i y M, vl3[i]? = some (y, M) → rx_Met (zV b e D A X) dn y M (g i)) (hd : 3 ≤ dn) : rx_OK (zV b e D A X) mX0_fold (dn + 1) 188 (vX0_fold_188 g) := by
  unfold vX0_fold_188
  refine s_iconst dX0_fold_188 (by decide +kernel) ?_
  exact s_goto dX0_fold_189 (by decide) (wX0_fold_193 hZ hg hd)
noncomputable def vX0_fold_168 (g : Nat → List Nat → rx_H → Option (Nat × rx_H)) : rx_K := o_ld rx_isR 0 (o_ld rx_isI 2 (o_ld rx_isR 0 (o_getf 0 2 (o_getf 9 4 (o_ld rx_isR 1 (o_getf 8 2 (o_ald 1 (o_callV 2 0 FX0_foldField (o_c1 rx_eq (vX0_fold_192 g) (vX0_fold_188 g))))))))))
set_option maxRecDepth 20000 in
theorem wX0_fold_168 {dn : Nat} {g : Nat → List Nat → rx_H → Option (Nat × rx_H)} (hZ : zO b e D A X) (hg : ∀ i y M, vl3[i]? = some (y, M) → rx_Met (zV b e D A X) dn y M (g i)) (hd : 3 ≤ dn) : rx_OK (zV b e D A X) mX0_fold (dn + 1) 168 (vX0_fold_168 g) := by
  unfold vX0_fold_168
  refine s_aload_n hZ.1 dX0_fold_168 rfl ?_
  refine s_iload_n hZ.1 dX0_fold_169 rfl ?_
  refine s_aload_n hZ.1 dX0_fold_170 rfl ?_
  refine yg0_2 dX0_fold_171 zw663 ?_
  refine yg9_4 dX0_fold_174 zw587 ?_
  refine s_aload_n hZ.1 dX0_fold_177 rfl ?_
  refine yg8_2 dX0_fold_178 zw465 ?_
  refine s_lald (tt := 1) rfl dX0_fold_181 ?_
  refine s_callV hZ.1 (Met_X0_foldField hZ) (Nat.succ_le_succ (Nat.le_trans (Nat.le_of_ble_eq_true rfl) hd)) vy_X0_foldField zcl0 zw2060 zw60 (Or.inl zw2058) dX0_fold_182 ?_
  exact s_if_eq dX0_fold_185 (by decide) (wX0_fold_192 hZ hg hd) (wX0_fold_188 hZ hg hd)
noncomputable def vX0_fold_153 (g : Nat → List Nat → rx_H → Option (Nat × rx_H)) : rx_K := o_ld rx_isR 0 (o_getf 0 0 (o_ld rx_isI 2 (o_ld rx_isR 0 (o_getf 0 6 (o_callV 2 11 FX11_isLet (o_c1 rx_eq (vX0_fold_192 g) (vX0_fold_168 g)))))))
set_option maxRecDepth 20000 in
theorem wX0_fold_153 {dn : Nat} {g : Nat → List Nat → rx_H → Option (Nat × rx_H)} (hZ : zO b e D A X) (hg : ∀ i y M, vl3[i]? = some (y, M) → rx_Met (zV b e D A X) dn y M (g i)) (hd : 3 ≤ dn) : rx_OK (zV b e D A X) mX0_fold (dn + 1) 153 (vX0_fold_153 g) := by
  unfold vX0_fold_153
  refine s_aload_n hZ.1 dX0_fold_153 rfl ?_
  refine yg0_0 dX0_fold_154 zw661 ?_
  refine s_iload_n hZ.1 dX0_fold_157 rfl ?_
  refine s_aload_n hZ.1 dX0_fold_158 rfl ?_
  refine yg0_6 dX0_fold_159 zw669 ?_
  refine s_callV hZ.1 (Met_X11_isLet hZ) (Nat.succ_le_succ (Nat.le_trans (Nat.le_of_ble_eq_true rfl) hd)) vy_X11_isLet zcl11 zw1945 zw1946 (Or.inl zw2075) dX0_fold_162 ?_
  exact s_if_eq dX0_fold_165 (by decide) (wX0_fold_192 hZ hg hd) (wX0_fold_168 hZ hg hd)
noncomputable def vX0_fold_129 (g : Nat → List Nat → rx_H → Option (Nat × rx_H)) : rx_K := o_ld rx_isR 0 (o_getf 0 0 (o_ld rx_isR 0 (o_getf 0 2 (o_getf 9 4 (o_ld rx_isR 1 (o_getf 8 1 (o_ald 1 (o_callV 1 11 FX11_find (o_st rx_isI 2 (o_ld rx_isI 2 (o_c1 rx_lt (vX0_fold_192 g) (vX0_fold_153 g))))))))))))
set_option maxRecDepth 20000 in
theorem wX0_fold_129 {dn : Nat} {g : Nat → List Nat → rx_H → Option (Nat × rx_H)} (hZ : zO b e D A X) (hg : ∀ i y M, vl3[i]? = some (y, M) → rx_Met (zV b e D A X) dn y M (g i)) (hd : 3 ≤ dn) : rx_OK (zV b e D A X) mX0_fold (dn + 1) 129 (vX0_fold_129 g) := by
  unfold vX0_fold_129
  refine s_aload_n hZ.1 dX0_fold_129 rfl ?_
  refine yg0_0 dX0_fold_130 zw661 ?_
  refine s_aload_n hZ.1 dX0_fold_133 rfl ?_
  refine yg0_2 dX0_fold_134 zw663 ?_
  refine yg9_4 dX0_fold_137 zw587 ?_
  refine s_aload_n hZ.1 dX0_fold_140 rfl ?_
  refine yg8_1 dX0_fold_141 zw462 ?_
  refine s_lald (tt := 1) rfl dX0_fold_144 ?_
  refine s_callV hZ.1 (Met_X11_find hZ) (Nat.succ_le_succ (Nat.le_trans (Nat.le_of_ble_eq_true rfl) hd)) vy_X11_find zcl11 zw1574 zw1575 (Or.inl zw2048) dX0_fold_145 ?_
  refine s_istore_n hZ.1 dX0_fold_148 rfl (Nat.le_of_ble_eq_true rfl) ?_
  refine s_iload_n hZ.1 dX0_fold_149 rfl ?_
  exact s_if_lt dX0_fold_150 (by decide) (wX0_fold_192 hZ hg hd) (wX0_fold_153 hZ hg hd)
noncomputable def vX0_fold_116 (g : Nat → List Nat → rx_H → Option (Nat × rx_H)) : rx_K := o_ld rx_isR 0 (o_ld rx_isR 0 (o_getf 0 6 (o_ld rx_isR 1 (o_getf 8 10 (o_callV 2 0 FX0_foldField (o_ret1 rx_isZ))))))
set_option maxRecDepth 20000 in
theorem wX0_fold_116 {dn : Nat} {g : Nat → List Nat → rx_H → Option (Nat × rx_H)} (hZ : zO b e D A X) (hg : ∀ i y M, vl3[i]? = some (y, M) → rx_Met (zV b e D A X) dn y M (g i)) (hd : 3 ≤ dn) : rx_OK (zV b e D A X) mX0_fold (dn + 1) 116 (vX0_fold_116 g) := by
  unfold vX0_fold_116
  refine s_aload_n hZ.1 dX0_fold_116 rfl ?_
  refine s_aload_n hZ.1 dX0_fold_117 rfl ?_
  refine yg0_6 dX0_fold_118 zw669 ?_
  refine s_aload_n hZ.1 dX0_fold_121 rfl ?_
  refine yg8_10 dX0_fold_122 zw495 ?_
  refine s_callV hZ.1 (Met_X0_foldField hZ) (Nat.succ_le_succ (Nat.le_trans (Nat.le_of_ble_eq_true rfl) hd)) vy_X0_foldField zcl0 zw2060 zw60 (Or.inl zw2058) dX0_fold_125 ?_
  exact s_zret rx_z_ok rfl dX0_fold_128
noncomputable def vX0_fold_107 (g : Nat → List Nat → rx_H → Option (Nat × rx_H)) : rx_K := o_ld rx_isR 0 (o_ld rx_isR 1 (o_getf 8 5 (o_callV 1 0 (g 0) (o_ret1 rx_isZ))))
set_option maxRecDepth 20000 in
theorem wX0_fold_107 {dn : Nat} {g : Nat → List Nat → rx_H → Option (Nat × rx_H)} (hZ : zO b e D A X) (hg : ∀ i y M, vl3[i]? = some (y, M) → rx_Met (zV b e D A X) dn y M (g i)) (hd : 3 ≤ dn) : rx_OK (zV b e D A X) mX0_fold (dn + 1) 107 (vX0_fold_107 g) := by
  unfold vX0_fold_107
  refine s_aload_n hZ.1 dX0_fold_107 rfl ?_
  refine s_aload_n hZ.1 dX0_fold_108 rfl ?_
  refine yg8_5 dX0_fold_109 zw475 ?_
  refine s_callV hZ.1 (hg 0 _ _ rfl) (Nat.le_refl _) vy_X0_fold zcl0 zw2056 zw59 (Or.inl zw2054) dX0_fold_112 ?_
  exact s_zret rx_z_ok rfl dX0_fold_115
noncomputable def vX0_fold_96 (g : Nat → List Nat → rx_H → Option (Nat × rx_H)) : rx_K := o_ld rx_isR 0 (o_ld rx_isR 1 (o_getf 8 10 (o_li (fun x => x.toInt32) (o_putf rx_isI 0 16 (o_const 8 (o_ret1 rx_isZ))))))
set_option maxRecDepth 20000 in
theorem wX0_fold_96 {dn : Nat} {g : Nat → List Nat → rx_H → Option (Nat × rx_H)} (hZ : zO b e D A X) (hg : ∀ i y M, vl3[i]? = some (y, M) → rx_Met (zV b e D A X) dn y M (g i)) (hd : 3 ≤ dn) : rx_OK (zV b e D A X) mX0_fold (dn + 1) 96 (vX0_fold_96 g) := by
  unfold vX0_fold_96
  refine s_aload_n hZ.1 dX0_fold_96 rfl ?_
  refine s_aload_n hZ.1 dX0_fold_97 rfl ?_
  refine yg8_10 dX0_fold_98 zw495 ?_
  refine s_l2i dX0_fold_101 ?_
  refine yp0_16 hZ.1 dX0_fold_102 zw679 ?_
  refine s_iconst dX0_fold_105 (by decide +kernel) ?_
  exact s_zret rx_z_ok rfl dX0_fold_106
noncomputable def vX0_fold_6 (g : Nat → List Nat → rx_H → Option (Nat × rx_H)) : rx_K := o_ld rx_isR 1 (o_getf 8 0 (o_sw 1 [96, 206, 206, 116, 206, 129, 206, 206, 206, 206, 206, 107, 206, 206, 206, 206, 200, 194] 206 (rx_pk [(96, (vX0_fold_96 g)), (107, (vX0_fold_107 g)), (116, (vX0_fold_116 g)), (129, (vX0_fold_129 g)), (194, (vX0_fold_194 g)), (200, (vX0_fold_200 g)), (206, (vX0_fold_206 g))])))
set_option maxRecDepth 20000 in
theorem wX0_fold_6 {dn : Nat} {g : Nat → List Nat → rx_H → Option (Nat × rx_H)} (hZ : zO b e D A X) (hg : ∀ i y M, vl3[i]? = some (y, M) → rx_Met (zV b e D A X) dn y M (g i)) (hd : 3 ≤ dn) : rx_OK (zV b e D A X) mX0_fold (dn + 1) 6 (vX0_fold_6 g) := by
  unfold vX0_fold_6
  refine s_aload_n hZ.1 dX0_fold_6 rfl ?_
  refine yg8_0 dX0_fold_7 zw458 ?_
  exact s_sw dX0_fold_10 (by decide) (by decide) (by decide) (by decide) (by decide) (fun b _ => (rx_pk_ok (List.forall_mem_cons.mpr ⟨(wX0_fold_96 hZ hg hd), List.forall_mem_cons.mpr ⟨(wX0_fold_107 hZ hg hd), List.forall_mem_cons.mpr ⟨(wX0_fold_116 hZ hg hd), List.forall_mem_cons.mpr ⟨(wX0_fold_129 hZ hg hd), List.forall_mem_cons.mpr ⟨(wX0_fold_194 hZ hg hd), List.forall_mem_cons.mpr ⟨(wX0_fold_200 hZ hg hd), List.forall_mem_cons.mpr ⟨(wX0_fold_206 hZ hg hd), fun _ h => absurd h List.not_mem_nil⟩⟩⟩⟩⟩⟩⟩)) b)
noncomputable def vX0_fold_4 (g : Nat → List Nat → rx_H → Option (Nat × rx_H)) : rx_K := o_const 0 (o_ret1 rx_isZ)
set_option maxRecDepth 20000 in
theorem wX0_fold_4 {dn : Nat} {g : Nat → List Nat → rx_H → Option (Nat × rx_H)} (hZ : zO b e D A X) (hg : ∀ i y M, vl3[i]? = some (y, M) → rx_Met (zV b e D A X) dn y M (g i)) (hd : 3 ≤ dn) : rx_OK (zV b e D A X) mX0_fold (dn + 1) 4 (vX0_fold_4 g) := by
  unfold vX0_fold_4
  refine s_iconst dX0_fold_4 (by decide +kernel) ?_
  exact s_zret rx_z_ok rfl dX0_fold_5
noncomputable def vX0_fold_0 (g : Nat → List Nat → rx_H → Option (Nat × rx_H)) : rx_K := o_ld rx_isR 1 (o_nul (vX0_fold_4 g) (vX0_fold_6 g))
set_option maxRecDepth 20000 in
theorem wX0_fold_0 {dn : Nat} {g : Nat → List Nat → rx_H → Option (Nat × rx_H)} (hZ : zO b e D A X) (hg : ∀ i y M, vl3[i]? = some (y, M) → rx_Met (zV b e D A X) dn y M (g i)) (hd : 3 ≤ dn) : rx_OK (zV b e D A X) mX0_fold (dn + 1) 0 (vX0_fold_0 g) := by
  unfold vX0_fold_0
  refine s_aload_n hZ.1 dX0_fold_0 rfl ?_
  exact s_ifnonnull dX0_fold_1 (by decide) (wX0_fold_6 hZ hg hd) (wX0_fold_4 hZ hg hd)
noncomputable def FX0_fold (g : Nat → List Nat → rx_H → Option (Nat × rx_H)) : List Nat → rx_H → Option (Nat × rx_H) := rx_ent 3 (vX0_fold_0 g)
theorem Met_X0_fold {dn : Nat} {g : Nat → List Nat → rx_H → Option (Nat × rx_H)} (hZ : zO b e D A X) (hg : ∀ i y M, vl3[i]? = some (y, M) → rx_Met (zV b e D A X) dn y M (g i)) (hd : 3 ≤ dn) : rx_Met (zV b e D A X) (dn + 1) yX0_fold mX0_fold (FX0_fold g) := rx_entry hZ.1 (wX0_fold_0 hZ hg hd) (by decide +kernel) rfl (fun h => by cases h)
noncomputable def vX0_foldChain_93 (g : Nat → List Nat → rx_H → Option (Nat × rx_H)) (j : Nat → rx_K) : rx_K := o_ld rx_isR 0 (o_ld rx_isI 2 (o_putf rx_isI 0 16 (o_const 8 (o_ret1 rx_isZ))))
set_option maxRecDepth 20000 in
theorem wX0_foldChain_93 {dn : Nat} {g : Nat → List Nat → rx_H → Option (Nat × rx_H)} (hZ : zO b e D A X) (hg : ∀ i y M, vl3[i]? = some (y, M) → rx_Met (zV b e D A X) dn y M (g i)) (hd : 3 ≤ dn) (j : Nat → rx_K) (hj : ∀ k pc, [26][k]? = some pc → rx_OK (zV b e D A X) mX0_foldChain (dn + 1) pc (j k)) : rx_OK (zV b e D A X) mX0_foldChain (dn + 1) 93 (vX0_foldChain_93 g j) := by
  unfold vX0_foldChain_93
  refine s_aload_n hZ.1 dX0_foldChain_93 rfl ?_
  refine s_iload_n hZ.1 dX0_foldChain_94 rfl ?_
  refine yp0_16 hZ.1 dX0_foldChain_95 zw679 ?_
  refine s_iconst dX0_foldChain_98 (by decide +kernel) ?_
  exact s_zret rx_z_ok rfl dX0_foldChain_99
noncomputable def vX0_foldChain_84 (g : Nat → List Nat → rx_H → Option (Nat × rx_H)) (j : Nat → rx_K) : rx_K := o_st rx_isI 2 (o_ld rx_isR 3 (o_getf 8 8 (o_st rx_isR 3 ((j 0)))))
set_option maxRecDepth 20000 in
theorem wX0_foldChain_84 {dn : Nat} {g : Nat → List Nat → rx_H → Option (Nat × rx_H)} (hZ : zO b e D A X) (hg : ∀ i y M, vl3[i]? = some (y, M) → rx_Met (zV b e D A X) dn y M (g i)) (hd : 3 ≤ dn) (j : Nat → rx_K) (hj : ∀ k pc, [26][k]? = some pc → rx_OK (zV b e D A X) mX0_foldChain (dn + 1) pc (j k)) : rx_OK (zV b e D A X) mX0_foldChain (dn + 1) 84 (vX0_foldChain_84 g j) := by
  unfold vX0_foldChain_84
  refine s_istore_n hZ.1 dX0_foldChain_84 rfl (Nat.le_of_ble_eq_true rfl) ?_
  refine s_aload_n hZ.1 dX0_foldChain_85 rfl ?_
  refine yg8_8 dX0_foldChain_86 zw487 ?_
  refine s_astore_n hZ.1 dX0_foldChain_89 rfl (Nat.le_of_ble_eq_true rfl) ?_
  exact s_goto dX0_foldChain_90 (by decide) (hj 0 26 rfl)
noncomputable def vX0_foldChain_78 (g : Nat → List Nat → rx_H → Option (Nat × rx_H)) (j : Nat → rx_K) : rx_K := o_ld rx_isI 2 (o_ld rx_isR 0 (o_getf 0 16 (o_bi (fun x y => x * y) ((vX0_foldChain_84 g j)))))
set_option maxRecDepth 20000 in
theorem wX0_foldChain_78 {dn : Nat} {g : Nat → List Nat → rx_H → Option (Nat × rx_H)} (hZ : zO b e D A X) (hg : ∀ i y M, vl3[i]? = some (y, M) → rx_Met (zV b e D A X) dn y M (g i)) (hd : 3 ≤ dn) (j : Nat → rx_K) (hj : ∀ k pc, [26][k]? = some pc → rx_OK (zV b e D A X) mX0_foldChain (dn + 1) pc (j k)) : rx_OK (zV b e D A X) mX0_foldChain (dn + 1) 78 (vX0_foldChain_78 g j) := by
  unfold vX0_foldChain_78
  refine s_iload_n hZ.1 dX0_foldChain_78 rfl ?_
  refine s_aload_n hZ.1 dX0_foldChain_79 rfl ?_
  refine yg0_16 dX0_foldChain_80 zw679 ?_
  refine s_imul dX0_foldChain_83 ?_
  exact (wX0_foldChain_84 hZ hg hd j hj)
noncomputable def vX0_foldChain_69 (g : Nat → List Nat → rx_H → Option (Nat × rx_H)) (j : Nat → rx_K) : rx_K := o_ld rx_isI 2 (o_ld rx_isR 0 (o_getf 0 16 (o_bi (fun x y => x - y) ((vX0_foldChain_84 g j)))))
set_option maxRecDepth 20000 in
theorem wX0_foldChain_69 {dn : Nat} {g : Nat → List Nat → rx_H → Option (Nat × rx_H)} (hZ : zO b e D A X) (hg : ∀ i y M, vl3[i]? = some (y, M) → rx_Met (zV b e D A X) dn y M (g i)) (hd : 3 ≤ dn) (j : Nat → rx_K) (hj : ∀ k pc, [26][k]? = some pc → rx_OK (zV b e D A X) mX0_foldChain (dn + 1) pc (j k)) : rx_OK (zV b e D A X) mX0_foldChain (dn + 1) 69 (vX0_foldChain_69 g j) := by
  unfold vX0_foldChain_69
  refine s_iload_n hZ.1 dX0_foldChain_69 rfl ?_
  refine s_aload_n hZ.1 dX0_foldChain_70 rfl ?_
  refine yg0_16 dX0_foldChain_71 zw679 ?_
  refine s_isub dX0_foldChain_74 ?_
  exact s_goto dX0_foldChain_75 (by decide) (wX0_foldChain_84 hZ hg hd j hj)
noncomputable def vX0_foldChain_59 (g : Nat → List Nat → rx_H → Option (Nat × rx_H)) (j : Nat → rx_K) : rx_K := o_ld rx_isR 3 (o_getf 8 3 (o_const 1160 (o_c2 rx_eq (vX0_foldChain_69 g j) (vX0_foldChain_78 g j))))
set_option maxRecDepth 20000 in
theorem wX0_foldChain_59 {dn : Nat} {g : Nat → List Nat → rx_H → Option (Nat × rx_H)} (hZ : zO b e D A X) (hg : ∀ i y M, vl3[i]? = some (y, M) → rx_Met (zV b e D A X) dn y M (g i)) (hd : 3 ≤ dn) (j : Nat → rx_K) (hj : ∀ k pc, [26][k]? = some pc → rx_OK (zV b e D A X) mX0_foldChain (dn + 1) pc (j k)) : rx_OK (zV b e D A X) mX0_foldChain (dn + 1) 59 (vX0_foldChain_59 g j) := by
  unfold vX0_foldChain_59
  refine s_aload_n hZ.1 dX0_foldChain_59 rfl ?_
  refine yg8_3 dX0_foldChain_60 zw468 ?_
  refine s_sipush dX0_foldChain_63 (by decide +kernel) ?_
  exact s_icmp_ne dX0_foldChain_66 (by decide) (wX0_foldChain_78 hZ hg hd j hj) (wX0_foldChain_69 hZ hg hd j hj)
noncomputable def vX0_foldChain_50 (g : Nat → List Nat → rx_H → Option (Nat × rx_H)) (j : Nat → rx_K) : rx_K := o_ld rx_isI 2 (o_ld rx_isR 0 (o_getf 0 16 (o_bi (fun x y => x + y) ((vX0_foldChain_84 g j)))))
set_option maxRecDepth 20000 in
theorem wX0_foldChain_50 {dn : Nat} {g : Nat → List Nat → rx_H → Option (Nat × rx_H)} (hZ : zO b e D A X) (hg : ∀ i y M, vl3[i]? = some (y, M) → rx_Met (zV b e D A X) dn y M (g i)) (hd : 3 ≤ dn) (j : Nat → rx_K) (hj : ∀ k pc, [26][k]? = some pc → rx_OK (zV b e D A X) mX0_foldChain (dn + 1) pc (j k)) : rx_OK (zV b e D A X) mX0_foldChain (dn + 1) 50 (vX0_foldChain_50 g j) := by
  unfold vX0_foldChain_50
  refine s_iload_n hZ.1 dX0_foldChain_50 rfl ?_
  refine s_aload_n hZ.1 dX0_foldChain_51 rfl ?_
  refine yg0_16 dX0_foldChain_52 zw679 ?_
  refine s_iadd dX0_foldChain_55 ?_
  exact s_goto dX0_foldChain_56 (by decide) (wX0_foldChain_84 hZ hg hd j hj)
noncomputable def vX0_foldChain_40 (g : Nat → List Nat → rx_H → Option (Nat × rx_H)) (j : Nat → rx_K) : rx_K := o_ld rx_isR 3 (o_getf 8 3 (o_const 1144 (o_c2 rx_eq (vX0_foldChain_50 g j) (vX0_foldChain_59 g j))))
set_option maxRecDepth 20000 in
theorem wX0_foldChain_40 {dn : Nat} {g : Nat → List Nat → rx_H → Option (Nat × rx_H)} (hZ : zO b e D A X) (hg : ∀ i y M, vl3[i]? = some (y, M) → rx_Met (zV b e D A X) dn y M (g i)) (hd : 3 ≤ dn) (j : Nat → rx_K) (hj : ∀ k pc, [26][k]? = some pc → rx_OK (zV b e D A X) mX0_foldChain (dn + 1) pc (j k)) : rx_OK (zV b e D A X) mX0_foldChain (dn + 1) 40 (vX0_foldChain_40 g j) := by
  unfold vX0_foldChain_40
  refine s_aload_n hZ.1 dX0_foldChain_40 rfl ?_
  refine yg8_3 dX0_foldChain_41 zw468 ?_
  refine s_sipush dX0_foldChain_44 (by decide +kernel) ?_
  exact s_icmp_ne dX0_foldChain_47 (by decide) (wX0_foldChain_59 hZ hg hd j hj) (wX0_foldChain_50 hZ hg hd j hj)
noncomputable def vX0_foldChain_38 (g : Nat → List Nat → rx_H → Option (Nat × rx_H)) (j : Nat → rx_K) : rx_K := o_const 0 (o_ret1 rx_isZ)
set_option maxRecDepth 20000 in
theorem wX0_foldChain_38 {dn : Nat} {g : Nat → List Nat → rx_H → Option (Nat × rx_H)} (hZ : zO b e D A X) (hg : ∀ i y M, vl3[i]? = some (y, M) → rx_Met (zV b e D A X) dn y M (g i)) (hd : 3 ≤ dn) (j : Nat → rx_K) (hj : ∀ k pc, [26][k]? = some pc → rx_OK (zV b e D A X) mX0_foldChain (dn + 1) pc (j k)) : rx_OK (zV b e D A X) mX0_foldChain (dn + 1) 38 (vX0_foldChain_38 g j) := by
  unfold vX0_foldChain_38
  refine s_iconst dX0_foldChain_38 (by decide +kernel) ?_
  exact s_zret rx_z_ok rfl dX0_foldChain_39
noncomputable def vX0_foldChain_30 (g : Nat → List Nat → rx_H → Option (Nat × rx_H)) (j : Nat → rx_K) : rx_K := o_ld rx_isR 0 (o_ld rx_isR 3 (o_callV 1 0 (g 0) (o_c1 rx_eq (vX0_foldChain_38 g j) (vX0_foldChain_40 g j))))
set_option maxRecDepth 20000 in
theorem wX0_foldChain_30 {dn : Nat} {g : Nat → List Nat → rx_H → Option (Nat × rx_H)} (hZ : zO b e D A X) (hg : ∀ i y M, vl3[i]? = some (y, M) → rx_Met (zV b e D A X) dn y M (g i)) (hd : 3 ≤ dn) (j : Nat → rx_K) (hj : ∀ k pc, [26][k]? = some pc → rx_OK (zV b e D A X) mX0_foldChain (dn + 1) pc (j k)) : rx_OK (zV b e D A X) mX0_foldChain (dn + 1) 30 (vX0_foldChain_30 g j) := by
  unfold vX0_foldChain_30
  refine s_aload_n hZ.1 dX0_foldChain_30 rfl ?_
  refine s_aload_n hZ.1 dX0_foldChain_31 rfl ?_
  refine s_callV hZ.1 (hg 0 _ _ rfl) (Nat.le_refl _) vy_X0_fold zcl0 zw2056 zw59 (Or.inl zw2054) dX0_foldChain_32 ?_
  exact s_if_ne dX0_foldChain_35 (by decide) (wX0_foldChain_40 hZ hg hd j hj) (wX0_foldChain_38 hZ hg hd j hj)
noncomputable def vX0_foldChain_26 (g : Nat → List Nat → rx_H → Option (Nat × rx_H)) (j : Nat → rx_K) : rx_K := o_ld rx_isR 3 (o_nul (vX0_foldChain_93 g j) (vX0_foldChain_30 g j))
set_option maxRecDepth 20000 in
theorem wX0_foldChain_26 {dn : Nat} {g : Nat → List Nat → rx_H → Option (Nat × rx_H)} (hZ : zO b e D A X) (hg : ∀ i y M, vl3[i]? = some (y, M) → rx_Met (zV b e D A X) dn y M (g i)) (hd : 3 ≤ dn) (j : Nat → rx_K) (hj : ∀ k pc, [26][k]? = some pc → rx_OK (zV b e D A X) mX0_foldChain (dn + 1) pc (j k)) : rx_OK (zV b e D A X) mX0_foldChain (dn + 1) 26 (vX0_foldChain_26 g j) := by
  unfold vX0_foldChain_26
  refine s_aload_n hZ.1 dX0_foldChain_26 rfl ?_
  exact s_ifnull dX0_foldChain_27 (by decide) (wX0_foldChain_93 hZ hg hd j hj) (wX0_foldChain_30 hZ hg hd j hj)
noncomputable def vX0_foldChain_13 (g : Nat → List Nat → rx_H → Option (Nat × rx_H)) (j : Nat → rx_K) : rx_K := o_ld rx_isR 0 (o_getf 0 16 (o_st rx_isI 2 (o_ld rx_isR 1 (o_getf 8 5 (o_getf 8 8 (o_st rx_isR 3 ((vX0_foldChain_26 g j))))))))
set_option maxRecDepth 20000 in
theorem wX0_foldChain_13 {dn : Nat} {g : Nat → List Nat → rx_H → Option (Nat × rx_H)} (hZ : zO b e D A X) (hg : ∀ i y M, vl3[i]? = some (y, M) → rx_Met (zV b e D A X) dn y M (g i)) (hd : 3 ≤ dn) (j : Nat → rx_K) (hj : ∀ k pc, [26][k]? = some pc → rx_OK (zV b e D A X) mX0_foldChain (dn + 1) pc (j k)) : rx_OK (zV b e D A X) mX0_foldChain (dn + 1) 13 (vX0_foldChain_13 g j) := by
  unfold vX0_foldChain_13
  refine s_aload_n hZ.1 dX0_foldChain_13 rfl ?_
  refine yg0_16 dX0_foldChain_14 zw679 ?_
  refine s_istore_n hZ.1 dX0_foldChain_17 rfl (Nat.le_of_ble_eq_true rfl) ?_
  refine s_aload_n hZ.1 dX0_foldChain_18 rfl ?_
  refine yg8_5 dX0_foldChain_19 zw475 ?_
  refine yg8_8 dX0_foldChain_22 zw487 ?_
  refine s_astore_n hZ.1 dX0_foldChain_25 rfl (Nat.le_of_ble_eq_true rfl) ?_
  exact (wX0_foldChain_26 hZ hg hd j hj)
noncomputable def vX0_foldChain_11 (g : Nat → List Nat → rx_H → Option (Nat × rx_H)) (j : Nat → rx_K) : rx_K := o_const 0 (o_ret1 rx_isZ)
set_option maxRecDepth 20000 in
theorem wX0_foldChain_11 {dn : Nat} {g : Nat → List Nat → rx_H → Option (Nat × rx_H)} (hZ : zO b e D A X) (hg : ∀ i y M, vl3[i]? = some (y, M) → rx_Met (zV b e D A X) dn y M (g i)) (hd : 3 ≤ dn) (j : Nat → rx_K) (hj : ∀ k pc, [26][k]? = some pc → rx_OK (zV b e D A X) mX0_foldChain (dn + 1) pc (j k)) : rx_OK (zV b e D A X) mX0_foldChain (dn + 1) 11 (vX0_foldChain_11 g j) := by
  unfold vX0_foldChain_11
  refine s_iconst dX0_foldChain_11 (by decide +kernel) ?_
  exact s_zret rx_z_ok rfl dX0_foldChain_12
noncomputable def vX0_foldChain_0 (g : Nat → List Nat → rx_H → Option (Nat × rx_H)) (j : Nat → rx_K) : rx_K := o_ld rx_isR 0 (o_ld rx_isR 1 (o_getf 8 5 (o_callV 1 0 (g 0) (o_c1 rx_eq (vX0_foldChain_11 g j) (vX0_foldChain_13 g j)))))
set_option maxRecDepth 20000 in
theorem wX0_foldChain_0 {dn : Nat} {g : Nat → List Nat → rx_H → Option (Nat × rx_H)} (hZ : zO b e D A X) (hg : ∀ i y M, vl3[i]? = some (y, M) → rx_Met (zV b e D A X) dn y M (g i)) (hd : 3 ≤ dn) (j : Nat → rx_K) (hj : ∀ k pc, [26][k]? = some pc → rx_OK (zV b e D A X) mX0_foldChain (dn + 1) pc (j k)) : rx_OK (zV b e D A X) mX0_foldChain (dn + 1) 0 (vX0_foldChain_0 g j) := by
  unfold vX0_foldChain_0
  refine s_aload_n hZ.1 dX0_foldChain_0 rfl ?_
  refine s_aload_n hZ.1 dX0_foldChain_1 rfl ?_
  refine yg8_5 dX0_foldChain_2 zw475 ?_
  refine s_callV hZ.1 (hg 0 _ _ rfl) (Nat.le_refl _) vy_X0_fold zcl0 zw2056 zw59 (Or.inl zw2054) dX0_foldChain_5 ?_
  exact s_if_ne dX0_foldChain_8 (by decide) (wX0_foldChain_13 hZ hg hd j hj) (wX0_foldChain_11 hZ hg hd j hj)
noncomputable def vhX0_foldChain (g : Nat → List Nat → rx_H → Option (Nat × rx_H)) (j : Nat → rx_K) : List rx_K := [vX0_foldChain_26 g j]
theorem vlX0_foldChain {dn : Nat} {g : Nat → List Nat → rx_H → Option (Nat × rx_H)} (hZ : zO b e D A X) (hg : ∀ i y M, vl3[i]? = some (y, M) → rx_Met (zV b e D A X) dn y M (g i)) (hd : 3 ≤ dn) : ∀ n k pc, [26][k]? = some pc → rx_OK (zV b e D A X) mX0_foldChain (dn + 1) pc (rx_J (vhX0_foldChain g) n k) := rx_loop fun j hj k pc h => by
  match k, h with
  | 0, h =>
    have e9 := Option.some.inj (show some 26 = some pc from h)
    subst e9
    exact wX0_foldChain_26 hZ hg hd j hj
  | _ + 1, h => exact absurd h (by simp)
noncomputable def FX0_foldChain (g : Nat → List Nat → rx_H → Option (Nat × rx_H)) : List Nat → rx_H → Option (Nat × rx_H) := rx_ent 4 (vX0_foldChain_0 g (rx_J (vhX0_foldChain g) 4000000000))
theorem Met_X0_foldChain {dn : Nat} {g : Nat → List Nat → rx_H → Option (Nat × rx_H)} (hZ : zO b e D A X) (hg : ∀ i y M, vl3[i]? = some (y, M) → rx_Met (zV b e D A X) dn y M (g i)) (hd : 3 ≤ dn) : rx_Met (zV b e D A X) (dn + 1) yX0_foldChain mX0_foldChain (FX0_foldChain g) := rx_entry hZ.1 (wX0_foldChain_0 hZ hg hd _ (vlX0_foldChain hZ hg hd 4000000000)) (by decide +kernel) rfl (fun h => by cases h)
noncomputable def vX0_foldCompare_66 (g : Nat → List Nat → rx_H → Option (Nat × rx_H)) : rx_K := o_putf rx_isI 0 16 (o_const 8 (o_ret1 rx_isZ))
set_option maxRecDepth 20000 in
theorem wX0_foldCompare_66 {dn : Nat} {g : Nat → List Nat → rx_H → Option (Nat × rx_H)} (hZ : zO b e D A X) (hg : ∀ i y M, vl3[i]? = some (y, M) → rx_Met (zV b e D A X) dn y M (g i)) (hd : 3 ≤ dn) : rx_OK (zV b e D A X) mX0_foldCompare (dn + 1) 66 (vX0_foldCompare_66 g) := by
  unfold vX0_foldCompare_66
  refine yp0_16 hZ.1 dX0_foldCompare_66 zw679 ?_
  refine s_iconst dX0_foldCompare_69 (by decide +kernel) ?_
  exact s_zret rx_z_ok rfl dX0_foldCompare_70
noncomputable def vX0_foldCompare_65 (g : Nat → List Nat → rx_H → Option (Nat × rx_H)) : rx_K := o_const 0 ((vX0_foldCompare_66 g))
set_option maxRecDepth 20000 in
theorem wX0_foldCompare_65 {dn : Nat} {g : Nat → List Nat → rx_H → Option (Nat × rx_H)} (hZ : zO b e D A X) (hg : ∀ i y M, vl3[i]? = some (y, M) → rx_Met (zV b e D A X) dn y M (g i)) (hd : 3 ≤ dn) : rx_OK (zV b e D A X) mX0_foldCompare (dn + 1) 65 (vX0_foldCompare_65 g) := by
  unfold vX0_foldCompare_65
  refine s_iconst dX0_foldCompare_65 (by decide +kernel) ?_
  exact (wX0_foldCompare_66 hZ hg hd)
noncomputable def vX0_foldCompare_61 (g : Nat → List Nat → rx_H → Option (Nat × rx_H)) : rx_K := o_const 8 ((vX0_foldCompare_66 g))
set_option maxRecDepth 20000 in
theorem wX0_foldCompare_61 {dn : Nat} {g : Nat → List Nat → rx_H → Option (Nat × rx_H)} (hZ : zO b e D A X) (hg : ∀ i y M, vl3[i]? = some (y, M) → rx_Met (zV b e D A X) dn y M (g i)) (hd : 3 ≤ dn) : rx_OK (zV b e D A X) mX0_foldCompare (dn + 1) 61 (vX0_foldCompare_61 g) := by
  unfold vX0_foldCompare_61
  refine s_iconst dX0_foldCompare_61 (by decide +kernel) ?_
  exact s_goto dX0_foldCompare_62 (by decide) (wX0_foldCompare_66 hZ hg hd)
noncomputable def vX0_foldCompare_53 (g : Nat → List Nat → rx_H → Option (Nat × rx_H)) : rx_K := o_ld rx_isI 2 (o_ld rx_isR 0 (o_getf 0 16 (o_c2 rx_eq (vX0_foldCompare_61 g) (vX0_foldCompare_65 g))))
set_option maxRecDepth 20000 in
theorem wX0_foldCompare_53 {dn : Nat} {g : Nat → List Nat → rx_H → Option (Nat × rx_H)} (hZ : zO b e D A X) (hg : ∀ i y M, vl3[i]? = some (y, M) → rx_Met (zV b e D A X) dn y M (g i)) (hd : 3 ≤ dn) : rx_OK (zV b e D A X) mX0_foldCompare (dn + 1) 53 (vX0_foldCompare_53 g) := by
  unfold vX0_foldCompare_53
  refine s_iload_n hZ.1 dX0_foldCompare_53 rfl ?_
  refine s_aload_n hZ.1 dX0_foldCompare_54 rfl ?_
  refine yg0_16 dX0_foldCompare_55 zw679 ?_
  exact s_icmp_ne dX0_foldCompare_58 (by decide) (wX0_foldCompare_65 hZ hg hd) (wX0_foldCompare_61 hZ hg hd)
noncomputable def vX0_foldCompare_50 (g : Nat → List Nat → rx_H → Option (Nat × rx_H)) : rx_K := (vX0_foldCompare_61 g)
set_option maxRecDepth 20000 in
theorem wX0_foldCompare_50 {dn : Nat} {g : Nat → List Nat → rx_H → Option (Nat × rx_H)} (hZ : zO b e D A X) (hg : ∀ i y M, vl3[i]? = some (y, M) → rx_Met (zV b e D A X) dn y M (g i)) (hd : 3 ≤ dn) : rx_OK (zV b e D A X) mX0_foldCompare (dn + 1) 50 (vX0_foldCompare_50 g) := by
  unfold vX0_foldCompare_50
  exact s_goto dX0_foldCompare_50 (by decide) (wX0_foldCompare_61 hZ hg hd)
noncomputable def vX0_foldCompare_42 (g : Nat → List Nat → rx_H → Option (Nat × rx_H)) : rx_K := o_ld rx_isI 2 (o_ld rx_isR 0 (o_getf 0 16 (o_c2 rx_lt (vX0_foldCompare_50 g) (vX0_foldCompare_65 g))))
set_option maxRecDepth 20000 in
theorem wX0_foldCompare_42 {dn : Nat} {g : Nat → List Nat → rx_H → Option (Nat × rx_H)} (hZ : zO b e D A X) (hg : ∀ i y M, vl3[i]? = some (y, M) → rx_Met (zV b e D A X) dn y M (g i)) (hd : 3 ≤ dn) : rx_OK (zV b e D A X) mX0_foldCompare (dn + 1) 42 (vX0_foldCompare_42 g) := by
  unfold vX0_foldCompare_42
  refine s_iload_n hZ.1 dX0_foldCompare_42 rfl ?_
  refine s_aload_n hZ.1 dX0_foldCompare_43 rfl ?_
  refine yg0_16 dX0_foldCompare_44 zw679 ?_
  exact s_icmp_ge dX0_foldCompare_47 (by decide) (wX0_foldCompare_65 hZ hg hd) (wX0_foldCompare_50 hZ hg hd)
noncomputable def vX0_foldCompare_31 (g : Nat → List Nat → rx_H → Option (Nat × rx_H)) : rx_K := o_ld rx_isR 0 (o_ld rx_isR 1 (o_getf 8 3 (o_const 1280 (o_c2 rx_eq (vX0_foldCompare_42 g) (vX0_foldCompare_53 g)))))
set_option maxRecDepth 20000 in
theorem wX0_foldCompare_31 {dn : Nat} {g : Nat → List Nat → rx_H → Option (Nat × rx_H)} (hZ : zO b e D A X) (hg : ∀ i y M, vl3[i]? = some (y, M) → rx_Met (zV b e D A X) dn y M (g i)) (hd : 3 ≤ dn) : rx_OK (zV b e D A X) mX0_foldCompare (dn + 1) 31 (vX0_foldCompare_31 g) := by
  unfold vX0_foldCompare_31
  refine s_aload_n hZ.1 dX0_foldCompare_31 rfl ?_
  refine s_aload_n hZ.1 dX0_foldCompare_32 rfl ?_
  refine yg8_3 dX0_foldCompare_33 zw468 ?_
  refine s_sipush dX0_foldCompare_36 (by decide +kernel) ?_
  exact s_icmp_ne dX0_foldCompare_39 (by decide) (wX0_foldCompare_53 hZ hg hd) (wX0_foldCompare_42 hZ hg hd)
noncomputable def vX0_foldCompare_29 (g : Nat → List Nat → rx_H → Option (Nat × rx_H)) : rx_K := o_const 0 (o_ret1 rx_isZ)
set_option maxRecDepth 20000 in
theorem wX0_foldCompare_29 {dn : Nat} {g : Nat → List Nat → rx_H → Option (Nat × rx_H)} (hZ : zO b e D A X) (hg : ∀ i y M, vl3[i]? = some (y, M) → rx_Met (zV b e D A X) dn y M (g i)) (hd : 3 ≤ dn) : rx_OK (zV b e D A X) mX0_foldCompare (dn + 1) 29 (vX0_foldCompare_29 g) := by
  unfold vX0_foldCompare_29
  refine s_iconst dX0_foldCompare_29 (by decide +kernel) ?_
  exact s_zret rx_z_ok rfl dX0_foldCompare_30
noncomputable def vX0_foldCompare_13 (g : Nat → List Nat → rx_H → Option (Nat × rx_H)) : rx_K := o_ld rx_isR 0 (o_getf 0 16 (o_st rx_isI 2 (o_ld rx_isR 0 (o_ld rx_isR 1 (o_getf 8 6 (o_callV 1 0 (g 0) (o_c1 rx_eq (vX0_foldCompare_29 g) (vX0_foldCompare_31 g))))))))
set_option maxRecDepth 20000 in
theorem wX0_foldCompare_13 {dn : Nat} {g : Nat → List Nat → rx_H → Option (Nat × rx_H)} (hZ : zO b e D A X) (hg : ∀ i y M, vl3[i]? = some (y, M) → rx_Met (zV b e D A X) dn y M (g i)) (hd : 3 ≤ dn) : rx_OK (zV b e D A X) mX0_foldCompare (dn + 1) 13 (vX0_foldCompare_13 g) := by
  unfold vX0_foldCompare_13
  refine s_aload_n hZ.1 dX0_foldCompare_13 rfl ?_
  refine yg0_16 dX0_foldCompare_14 zw679 ?_
  refine s_istore_n hZ.1 dX0_foldCompare_17 rfl (Nat.le_of_ble_eq_true rfl) ?_
  refine s_aload_n hZ.1 dX0_foldCompare_18 rfl ?_
  refine s_aload_n hZ.1 dX0_foldCompare_19 rfl ?_
  refine yg8_6 dX0_foldCompare_20 zw479 ?_
  refine s_callV hZ.1 (hg 0 _ _ rfl) (Nat.le_refl _) vy_X0_fold zcl0 zw2056 zw59 (Or.inl zw2054) dX0_foldCompare_23 ?_
  exact s_if_ne dX0_foldCompare_26 (by decide) (wX0_foldCompare_31 hZ hg hd) (wX0_foldCompare_29 hZ hg hd)
noncomputable def vX0_foldCompare_11 (g : Nat → List Nat → rx_H → Option (Nat × rx_H)) : rx_K := o_const 0 (o_ret1 rx_isZ)
set_option maxRecDepth 20000 in
theorem wX0_foldCompare_11 {dn : Nat} {g : Nat → List Nat → rx_H → Option (Nat × rx_H)} (hZ : zO b e D A X) (hg : ∀ i y M, vl3[i]? = some (y, M) → rx_Met (zV b e D A X) dn y M (g i)) (hd : 3 ≤ dn) : rx_OK (zV b e D A X) mX0_foldCompare (dn + 1) 11 (vX0_foldCompare_11 g) := by
  unfold vX0_foldCompare_11
  refine s_iconst dX0_foldCompare_11 (by decide +kernel) ?_
  exact s_zret rx_z_ok rfl dX0_foldCompare_12
noncomputable def vX0_foldCompare_0 (g : Nat → List Nat → rx_H → Option (Nat × rx_H)) : rx_K := o_ld rx_isR 0 (o_ld rx_isR 1 (o_getf 8 5 (o_callV 1 0 (g 0) (o_c1 rx_eq (vX0_foldCompare_11 g) (vX0_foldCompare_13 g)))))
set_option maxRecDepth 20000 in
theorem wX0_foldCompare_0 {dn : Nat} {g : Nat → List Nat → rx_H → Option (Nat × rx_H)} (hZ : zO b e D A X) (hg : ∀ i y M, vl3[i]? = some (y, M) → rx_Met (zV b e D A X) dn y M (g i)) (hd : 3 ≤ dn) : rx_OK (zV b e D A X) mX0_foldCompare (dn + 1) 0 (vX0_foldCompare_0 g) := by
  unfold vX0_foldCompare_0
  refine s_aload_n hZ.1 dX0_foldCompare_0 rfl ?_
  refine s_aload_n hZ.1 dX0_foldCompare_1 rfl ?_
  refine yg8_5 dX0_foldCompare_2 zw475 ?_
  refine s_callV hZ.1 (hg 0 _ _ rfl) (Nat.le_refl _) vy_X0_fold zcl0 zw2056 zw59 (Or.inl zw2054) dX0_foldCompare_5 ?_
  exact s_if_ne dX0_foldCompare_8 (by decide) (wX0_foldCompare_13 hZ hg hd) (wX0_foldCompare_11 hZ hg hd)
noncomputable def FX0_foldCompare (g : Nat → List Nat → rx_H → Option (Nat × rx_H)) : List Nat → rx_H → Option (Nat × rx_H) := rx_ent 3 (vX0_foldCompare_0 g)
theorem Met_X0_foldCompare {dn : Nat} {g : Nat → List Nat → rx_H → Option (Nat × rx_H)} (hZ : zO b e D A X) (hg : ∀ i y M, vl3[i]? = some (y, M) → rx_Met (zV b e D A X) dn y M (g i)) (hd : 3 ≤ dn) : rx_Met (zV b e D A X) (dn + 1) yX0_foldCompare mX0_foldCompare (FX0_foldCompare g) := rx_entry hZ.1 (wX0_foldCompare_0 hZ hg hd) (by decide +kernel) rfl (fun h => by cases h)
noncomputable def q3 (n : Nat) : Nat → List Nat → rx_H → Option (Nat × rx_H) := Nat.rec (fun _ _ _ => none) (fun _ ih i => rx_nth [FX0_fold ih, FX0_foldChain ih, FX0_foldCompare ih] i (fun _ _ => none)) n
theorem q3_ok (hZ : zO b e D A X) : ∀ n i y M, vl3[i]? = some (y, M) → rx_Met (zV b e D A X) (3 + n) y M (q3 n i)
  | 0 => fun i y M _ As h r h2 hf => by cases hf
  | n + 1 => fun i y M h => by
    match i, h with
    | 0, h => cases h; exact Met_X0_fold hZ (q3_ok hZ n) (Nat.le_add_right 3 n)
    | 1, h => cases h; exact Met_X0_foldChain hZ (q3_ok hZ n) (Nat.le_add_right 3 n)
    | 2, h => cases h; exact Met_X0_foldCompare hZ (q3_ok hZ n) (Nat.le_add_right 3 n)
    | _ + 3, h => exact absurd h (by simp)
abbrev mX0_constants : rx_M := (RX0, cX0_constants, 3, none, false)
theorem vy_X0_constants : rx_Y (zV b e D A X) yX0_constants mX0_constants 0 := ⟨zw2052, zw421, by decide, by decide +kernel, by decide +kernel, by decide +kernel⟩
noncomputable def vX0_constants_92 (j : Nat → rx_K) : rx_K := o_ret0
set_option maxRecDepth 20000 in
theorem wX0_constants_92 (hZ : zO b e D A X) (j : Nat → rx_K) (hj : ∀ k pc, [2][k]? = some pc → rx_OK (zV b e D A X) mX0_constants 204 pc (j k)) : rx_OK (zV b e D A X) mX0_constants 204 92 (vX0_constants_92 j) := by
  unfold vX0_constants_92
  exact s_vret rfl dX0_constants_92
noncomputable def vX0_constants_86 (j : Nat → rx_K) : rx_K := o_inc 1 (1) ((j 0))
set_option maxRecDepth 20000 in
theorem wX0_constants_86 (hZ : zO b e D A X) (j : Nat → rx_K) (hj : ∀ k pc, [2][k]? = some pc → rx_OK (zV b e D A X) mX0_constants 204 pc (j k)) : rx_OK (zV b e D A X) mX0_constants 204 86 (vX0_constants_86 j) := by
  unfold vX0_constants_86
  refine s_iinc hZ.1 dX0_constants_86 (Nat.le_of_ble_eq_true rfl) ?_
  exact s_goto dX0_constants_89 (by decide) (hj 0 2 rfl)
noncomputable def vX0_constants_73 (j : Nat → rx_K) : rx_K := o_ld rx_isR 2 (o_const 8 (o_putf rx_isZ 7 15 (o_ld rx_isR 2 (o_ld rx_isR 0 (o_getf 0 16 (o_putf rx_isI 7 16 ((vX0_constants_86 j))))))))
set_option maxRecDepth 20000 in
theorem wX0_constants_73 (hZ : zO b e D A X) (j : Nat → rx_K) (hj : ∀ k pc, [2][k]? = some pc → rx_OK (zV b e D A X) mX0_constants 204 pc (j k)) : rx_OK (zV b e D A X) mX0_constants 204 73 (vX0_constants_73 j) := by
  unfold vX0_constants_73
  refine s_aload_n hZ.1 dX0_constants_73 rfl ?_
  refine s_iconst dX0_constants_74 (by decide +kernel) ?_
  refine yp7_15 hZ.1 dX0_constants_75 zw1052 ?_
  refine s_aload_n hZ.1 dX0_constants_78 rfl ?_
  refine s_aload_n hZ.1 dX0_constants_79 rfl ?_
  refine yg0_16 dX0_constants_80 zw679 ?_
  refine yp7_16 hZ.1 dX0_constants_83 zw1059 ?_
  exact (wX0_constants_86 hZ j hj)
noncomputable def vX0_constants_62 (j : Nat → rx_K) : rx_K := o_ld rx_isR 0 (o_ld rx_isR 2 (o_getf 7 14 (o_callV 1 0 (q3 200 0) (o_c1 rx_eq (vX0_constants_86 j) (vX0_constants_73 j)))))
set_option maxRecDepth 20000 in
theorem wX0_constants_62 (hZ : zO b e D A X) (j : Nat → rx_K) (hj : ∀ k pc, [2][k]? = some pc → rx_OK (zV b e D A X) mX0_constants 204 pc (j k)) : rx_OK (zV b e D A X) mX0_constants 204 62 (vX0_constants_62 j) := by
  unfold vX0_constants_62
  refine s_aload_n hZ.1 dX0_constants_62 rfl ?_
  refine s_aload_n hZ.1 dX0_constants_63 rfl ?_
  refine yg7_14 dX0_constants_64 zw1047 ?_
  refine s_callV hZ.1 (q3_ok hZ 200 0 _ _ rfl) (Nat.le_of_ble_eq_true rfl) vy_X0_fold zcl0 zw2056 zw59 (Or.inl zw2054) dX0_constants_67 ?_
  exact s_if_eq dX0_constants_70 (by decide) (wX0_constants_86 hZ j hj) (wX0_constants_73 hZ j hj)
noncomputable def vX0_constants_55 (j : Nat → rx_K) : rx_K := o_ld rx_isR 2 (o_getf 7 14 (o_nul (vX0_constants_86 j) (vX0_constants_62 j)))
set_option maxRecDepth 20000 in
theorem wX0_constants_55 (hZ : zO b e D A X) (j : Nat → rx_K) (hj : ∀ k pc, [2][k]? = some pc → rx_OK (zV b e D A X) mX0_constants 204 pc (j k)) : rx_OK (zV b e D A X) mX0_constants 204 55 (vX0_constants_55 j) := by
  unfold vX0_constants_55
  refine s_aload_n hZ.1 dX0_constants_55 rfl ?_
  refine yg7_14 dX0_constants_56 zw1047 ?_
  exact s_ifnull dX0_constants_59 (by decide) (wX0_constants_86 hZ j hj) (wX0_constants_62 hZ j hj)
noncomputable def vX0_constants_44 (j : Nat → rx_K) : rx_K := o_ld rx_isR 2 (o_getf 7 8 (o_const 147573952589676412921 (o_bc (fun x y => lg_cmp x y) (o_c1 rx_eq (vX0_constants_55 j) (vX0_constants_86 j)))))
set_option maxRecDepth 20000 in
theorem wX0_constants_44 (hZ : zO b e D A X) (j : Nat → rx_K) (hj : ∀ k pc, [2][k]? = some pc → rx_OK (zV b e D A X) mX0_constants 204 pc (j k)) : rx_OK (zV b e D A X) mX0_constants 204 44 (vX0_constants_44 j) := by
  unfold vX0_constants_44
  refine s_aload_n hZ.1 dX0_constants_44 rfl ?_
  refine yg7_8 dX0_constants_45 zw1013 ?_
  refine s_ldc2 dX0_constants_48 zw2053 (by decide +kernel) ?_
  refine s_lcmp dX0_constants_51 ?_
  exact s_if_ne dX0_constants_52 (by decide) (wX0_constants_86 hZ j hj) (wX0_constants_55 hZ j hj)
noncomputable def vX0_constants_37 (j : Nat → rx_K) : rx_K := o_ld rx_isR 2 (o_getf 7 3 (o_c1 rx_eq (vX0_constants_86 j) (vX0_constants_44 j)))
set_option maxRecDepth 20000 in
theorem wX0_constants_37 (hZ : zO b e D A X) (j : Nat → rx_K) (hj : ∀ k pc, [2][k]? = some pc → rx_OK (zV b e D A X) mX0_constants 204 pc (j k)) : rx_OK (zV b e D A X) mX0_constants 204 37 (vX0_constants_37 j) := by
  unfold vX0_constants_37
  refine s_aload_n hZ.1 dX0_constants_37 rfl ?_
  refine yg7_3 dX0_constants_38 zw973 ?_
  exact s_if_eq dX0_constants_41 (by decide) (wX0_constants_86 hZ j hj) (wX0_constants_44 hZ j hj)
noncomputable def vX0_constants_30 (j : Nat → rx_K) : rx_K := o_ld rx_isR 2 (o_getf 7 2 (o_c1 rx_eq (vX0_constants_86 j) (vX0_constants_37 j)))
set_option maxRecDepth 20000 in
theorem wX0_constants_30 (hZ : zO b e D A X) (j : Nat → rx_K) (hj : ∀ k pc, [2][k]? = some pc → rx_OK (zV b e D A X) mX0_constants 204 pc (j k)) : rx_OK (zV b e D A X) mX0_constants 204 30 (vX0_constants_30 j) := by
  unfold vX0_constants_30
  refine s_aload_n hZ.1 dX0_constants_30 rfl ?_
  refine yg7_2 dX0_constants_31 zw963 ?_
  exact s_if_eq dX0_constants_34 (by decide) (wX0_constants_86 hZ j hj) (wX0_constants_37 hZ j hj)
noncomputable def vX0_constants_13 (j : Nat → rx_K) : rx_K := o_ld rx_isR 0 (o_getf 0 5 (o_getf 10 14 (o_ld rx_isI 1 (o_ald 5 (o_st rx_isR 2 (o_ld rx_isR 2 (o_getf 7 0 (o_c1 rx_eq (vX0_constants_30 j) (vX0_constants_86 j)))))))))
set_option maxRecDepth 20000 in
theorem wX0_constants_13 (hZ : zO b e D A X) (j : Nat → rx_K) (hj : ∀ k pc, [2][k]? = some pc → rx_OK (zV b e D A X) mX0_constants 204 pc (j k)) : rx_OK (zV b e D A X) mX0_constants 204 13 (vX0_constants_13 j) := by
  unfold vX0_constants_13
  refine s_aload_n hZ.1 dX0_constants_13 rfl ?_
  refine yg0_5 dX0_constants_14 zw668 ?_
  refine yg10_14 dX0_constants_17 zw860 ?_
  refine s_iload_n hZ.1 dX0_constants_20 rfl ?_
  refine s_aald (tt := 5) rfl rfl dX0_constants_21 ?_
  refine s_astore_n hZ.1 dX0_constants_22 rfl (Nat.le_of_ble_eq_true rfl) ?_
  refine s_aload_n hZ.1 dX0_constants_23 rfl ?_
  refine yg7_0 dX0_constants_24 zw945 ?_
  exact s_if_ne dX0_constants_27 (by decide) (wX0_constants_86 hZ j hj) (wX0_constants_30 hZ j hj)
noncomputable def vX0_constants_2 (j : Nat → rx_K) : rx_K := o_ld rx_isI 1 (o_ld rx_isR 0 (o_getf 0 5 (o_getf 10 15 (o_c2 rx_lt (vX0_constants_13 j) (vX0_constants_92 j)))))
set_option maxRecDepth 20000 in
theorem wX0_constants_2 (hZ : zO b e D A X) (j : Nat → rx_K) (hj : ∀ k pc, [2][k]? = some pc → rx_OK (zV b e D A X) mX0_constants 204 pc (j k)) : rx_OK (zV b e D A X) mX0_constants 204 2 (vX0_constants_2 j) := by
  unfold vX0_constants_2
  refine s_iload_n hZ.1 dX0_constants_2 rfl ?_
  refine s_aload_n hZ.1 dX0_constants_3 rfl ?_
  refine yg0_5 dX0_constants_4 zw668 ?_
  refine yg10_15 dX0_constants_7 zw868 ?_
  exact s_icmp_ge dX0_constants_10 (by decide) (wX0_constants_92 hZ j hj) (wX0_constants_13 hZ j hj)
noncomputable def vX0_constants_0 (j : Nat → rx_K) : rx_K := o_const 0 (o_st rx_isI 1 ((vX0_constants_2 j)))
set_option maxRecDepth 20000 in
theorem wX0_constants_0 (hZ : zO b e D A X) (j : Nat → rx_K) (hj : ∀ k pc, [2][k]? = some pc → rx_OK (zV b e D A X) mX0_constants 204 pc (j k)) : rx_OK (zV b e D A X) mX0_constants 204 0 (vX0_constants_0 j) := by
  unfold vX0_constants_0
  refine s_iconst dX0_constants_0 (by decide +kernel) ?_
  refine s_istore_n hZ.1 dX0_constants_1 rfl (Nat.le_of_ble_eq_true rfl) ?_
  exact (wX0_constants_2 hZ j hj)
noncomputable def vhX0_constants (j : Nat → rx_K) : List rx_K := [vX0_constants_2 j]
theorem vlX0_constants (hZ : zO b e D A X) : ∀ n k pc, [2][k]? = some pc → rx_OK (zV b e D A X) mX0_constants 204 pc (rx_J (vhX0_constants) n k) := rx_loop fun j hj k pc h => by
  match k, h with
  | 0, h =>
    have e9 := Option.some.inj (show some 2 = some pc from h)
    subst e9
    exact wX0_constants_2 hZ j hj
  | _ + 1, h => exact absurd h (by simp)
noncomputable def FX0_constants : List Nat → rx_H → Option (Nat × rx_H) := rx_ent 3 (vX0_constants_0 (rx_J (vhX0_constants) 4000000000))
theorem Met_X0_constants (hZ : zO b e D A X) : rx_Met (zV b e D A X) 204 yX0_constants mX0_constants (FX0_constants) := rx_entry hZ.1 (wX0_constants_0 hZ _ (vlX0_constants hZ 4000000000)) (by decide +kernel) rfl (fun h => by cases h)
abbrev mX0_judge : rx_M := (RX0, cX0_judge, 7, (some .boolean), false)
theorem vy_X0_judge : rx_Y (zV b e D A X) yX0_judge mX0_judge 3 := ⟨zw2047, zw421, by decide, by decide +kernel, by decide +kernel, by decide +kernel⟩
noncomputable def vX0_judge_286 (j : Nat → rx_K) : rx_K := o_ret1 rx_isZ
set_option maxRecDepth 20000 in
theorem wX0_judge_286 (hZ : zO b e D A X) (j : Nat → rx_K) (hj : ∀ k pc, [23, 80, 134, 176][k]? = some pc → rx_OK (zV b e D A X) mX0_judge 406 pc (j k)) : rx_OK (zV b e D A X) mX0_judge 406 286 (vX0_judge_286 j) := by
  unfold vX0_judge_286
  exact s_zret rx_z_ok rfl dX0_judge_286
noncomputable def vX0_judge_285 (j : Nat → rx_K) : rx_K := o_const 0 ((vX0_judge_286 j))
set_option maxRecDepth 20000 in
theorem wX0_judge_285 (hZ : zO b e D A X) (j : Nat → rx_K) (hj : ∀ k pc, [23, 80, 134, 176][k]? = some pc → rx_OK (zV b e D A X) mX0_judge 406 pc (j k)) : rx_OK (zV b e D A X) mX0_judge 406 285 (vX0_judge_285 j) := by
  unfold vX0_judge_285
  refine s_iconst dX0_judge_285 (by decide +kernel) ?_
  exact (wX0_judge_286 hZ j hj)
noncomputable def vX0_judge_281 (j : Nat → rx_K) : rx_K := o_const 8 ((vX0_judge_286 j))
set_option maxRecDepth 20000 in
theorem wX0_judge_281 (hZ : zO b e D A X) (j : Nat → rx_K) (hj : ∀ k pc, [23, 80, 134, 176][k]? = some pc → rx_OK (zV b e D A X) mX0_judge 406 pc (j k)) : rx_OK (zV b e D A X) mX0_judge 406 281 (vX0_judge_281 j) := by
  unfold vX0_judge_281
  refine s_iconst dX0_judge_281 (by decide +kernel) ?_
  exact s_goto dX0_judge_282 (by decide) (wX0_judge_286 hZ j hj)
noncomputable def vX0_judge_274 (j : Nat → rx_K) : rx_K := o_ld rx_isR 0 (o_getf 0 3 (o_c1 rx_eq (vX0_judge_281 j) (vX0_judge_285 j)))
set_option maxRecDepth 20000 in
theorem wX0_judge_274 (hZ : zO b e D A X) (j : Nat → rx_K) (hj : ∀ k pc, [23, 80, 134, 176][k]? = some pc → rx_OK (zV b e D A X) mX0_judge 406 pc (j k)) : rx_OK (zV b e D A X) mX0_judge 406 274 (vX0_judge_274 j) := by
  unfold vX0_judge_274
  refine s_aload_n hZ.1 dX0_judge_274 rfl ?_
  refine yg0_3 dX0_judge_275 zw664 ?_
  exact s_if_ne dX0_judge_278 (by decide) (wX0_judge_285 hZ j hj) (wX0_judge_281 hZ j hj)
noncomputable def vX0_judge_268 (j : Nat → rx_K) : rx_K := o_inc 4 (1) ((j 1))
set_option maxRecDepth 20000 in
theorem wX0_judge_268 (hZ : zO b e D A X) (j : Nat → rx_K) (hj : ∀ k pc, [23, 80, 134, 176][k]? = some pc → rx_OK (zV b e D A X) mX0_judge 406 pc (j k)) : rx_OK (zV b e D A X) mX0_judge 406 268 (vX0_judge_268 j) := by
  unfold vX0_judge_268
  refine s_iinc hZ.1 dX0_judge_268 (Nat.le_of_ble_eq_true rfl) ?_
  exact s_goto dX0_judge_271 (by decide) (hj 1 80 rfl)
noncomputable def vX0_judge_262 (j : Nat → rx_K) : rx_K := o_inc 5 (1) ((j 3))
set_option maxRecDepth 20000 in
theorem wX0_judge_262 (hZ : zO b e D A X) (j : Nat → rx_K) (hj : ∀ k pc, [23, 80, 134, 176][k]? = some pc → rx_OK (zV b e D A X) mX0_judge 406 pc (j k)) : rx_OK (zV b e D A X) mX0_judge 406 262 (vX0_judge_262 j) := by
  unfold vX0_judge_262
  refine s_iinc hZ.1 dX0_judge_262 (Nat.le_of_ble_eq_true rfl) ?_
  exact s_goto dX0_judge_265 (by decide) (hj 3 176 rfl)
noncomputable def vX0_judge_248 (j : Nat → rx_K) : rx_K := o_ld rx_isR 0 (o_const 144 (o_ld rx_isR 0 (o_getf 0 5 (o_getf 10 2 (o_callV 2 0 FX0_fail (o_pop ((vX0_judge_262 j))))))))
set_option maxRecDepth 20000 in
theorem wX0_judge_248 (hZ : zO b e D A X) (j : Nat → rx_K) (hj : ∀ k pc, [23, 80, 134, 176][k]? = some pc → rx_OK (zV b e D A X) mX0_judge 406 pc (j k)) : rx_OK (zV b e D A X) mX0_judge 406 248 (vX0_judge_248 j) := by
  unfold vX0_judge_248
  refine s_aload_n hZ.1 dX0_judge_248 rfl ?_
  refine s_bipush dX0_judge_249 (by decide +kernel) ?_
  refine s_aload_n hZ.1 dX0_judge_251 rfl ?_
  refine yg0_5 dX0_judge_252 zw668 ?_
  refine yg10_2 dX0_judge_255 zw780 ?_
  refine s_callV hZ.1 (Met_X0_fail hZ) (Nat.le_of_ble_eq_true rfl) vy_X0_fail zcl0 zw2095 zw65 (Or.inl zw2093) dX0_judge_258 ?_
  refine s_pop hZ.1 dX0_judge_261 ?_
  exact (wX0_judge_262 hZ j hj)
noncomputable def vX0_judge_224 (j : Nat → rx_K) : rx_K := o_ld rx_isR 0 (o_ld rx_isR 0 (o_getf 0 0 (o_getf 11 3 (o_ld rx_isR 0 (o_getf 0 6 (o_ald 0 (o_const 147573952589676412897 (o_const 3 (o_const 8 (o_callV 4 0 FX0_meant (o_nul (vX0_judge_248 j) (vX0_judge_262 j))))))))))))
set_option maxRecDepth 20000 in
theorem wX0_judge_224 (hZ : zO b e D A X) (j : Nat → rx_K) (hj : ∀ k pc, [23, 80, 134, 176][k]? = some pc → rx_OK (zV b e D A X) mX0_judge 406 pc (j k)) : rx_OK (zV b e D A X) mX0_judge 406 224 (vX0_judge_224 j) := by
  unfold vX0_judge_224
  refine s_aload_n hZ.1 dX0_judge_224 rfl ?_
  refine s_aload_n hZ.1 dX0_judge_225 rfl ?_
  refine yg0_0 dX0_judge_226 zw661 ?_
  refine yg11_3 dX0_judge_229 zw1263 ?_
  refine s_aload_n hZ.1 dX0_judge_232 rfl ?_
  refine yg0_6 dX0_judge_233 zw669 ?_
  refine s_iald (tt := 0) rfl dX0_judge_236 ?_
  refine s_ldc2 dX0_judge_237 zw2062 (by decide +kernel) ?_
  refine s_null dX0_judge_240 ?_
  refine s_iconst dX0_judge_241 (by decide +kernel) ?_
  refine s_callV hZ.1 (Met_X0_meant hZ) (Nat.le_of_ble_eq_true rfl) vy_X0_meant zcl0 zw2119 zw71 (Or.inl zw2117) dX0_judge_242 ?_
  exact s_ifnonnull dX0_judge_245 (by decide) (wX0_judge_262 hZ j hj) (wX0_judge_248 hZ j hj)
noncomputable def vX0_judge_216 (j : Nat → rx_K) : rx_K := o_ld rx_isR 6 (o_getf 7 6 (o_c1 rx_eq (vX0_judge_224 j) (vX0_judge_262 j)))
set_option maxRecDepth 20000 in
theorem wX0_judge_216 (hZ : zO b e D A X) (j : Nat → rx_K) (hj : ∀ k pc, [23, 80, 134, 176][k]? = some pc → rx_OK (zV b e D A X) mX0_judge 406 pc (j k)) : rx_OK (zV b e D A X) mX0_judge 406 216 (vX0_judge_216 j) := by
  unfold vX0_judge_216
  refine s_aload hZ.1 dX0_judge_216 ?_
  refine yg7_6 dX0_judge_218 zw997 ?_
  exact s_if_ne dX0_judge_221 (by decide) (wX0_judge_262 hZ j hj) (wX0_judge_224 hZ j hj)
noncomputable def vX0_judge_195 (j : Nat → rx_K) : rx_K := o_ld rx_isR 0 (o_getf 0 5 (o_getf 10 14 (o_ld rx_isI 5 (o_ald 5 (o_st rx_isR 6 (o_ld rx_isR 6 (o_getf 7 0 (o_const 16 (o_c2 rx_eq (vX0_judge_216 j) (vX0_judge_262 j))))))))))
set_option maxRecDepth 20000 in
theorem wX0_judge_195 (hZ : zO b e D A X) (j : Nat → rx_K) (hj : ∀ k pc, [23, 80, 134, 176][k]? = some pc → rx_OK (zV b e D A X) mX0_judge 406 pc (j k)) : rx_OK (zV b e D A X) mX0_judge 406 195 (vX0_judge_195 j) := by
  unfold vX0_judge_195
  refine s_aload_n hZ.1 dX0_judge_195 rfl ?_
  refine yg0_5 dX0_judge_196 zw668 ?_
  refine yg10_14 dX0_judge_199 zw860 ?_
  refine s_iload hZ.1 dX0_judge_202 ?_
  refine s_aald (tt := 5) rfl rfl dX0_judge_204 ?_
  refine s_astore hZ.1 dX0_judge_205 (Nat.le_of_ble_eq_true rfl) ?_
  refine s_aload hZ.1 dX0_judge_207 ?_
  refine yg7_0 dX0_judge_209 zw945 ?_
  refine s_iconst dX0_judge_212 (by decide +kernel) ?_
  exact s_icmp_ne dX0_judge_213 (by decide) (wX0_judge_262 hZ j hj) (wX0_judge_216 hZ j hj)
noncomputable def vX0_judge_188 (j : Nat → rx_K) : rx_K := o_ld rx_isR 0 (o_getf 0 3 (o_c1 rx_eq (vX0_judge_195 j) (vX0_judge_268 j)))
set_option maxRecDepth 20000 in
theorem wX0_judge_188 (hZ : zO b e D A X) (j : Nat → rx_K) (hj : ∀ k pc, [23, 80, 134, 176][k]? = some pc → rx_OK (zV b e D A X) mX0_judge 406 pc (j k)) : rx_OK (zV b e D A X) mX0_judge 406 188 (vX0_judge_188 j) := by
  unfold vX0_judge_188
  refine s_aload_n hZ.1 dX0_judge_188 rfl ?_
  refine yg0_3 dX0_judge_189 zw664 ?_
  exact s_if_ne dX0_judge_192 (by decide) (wX0_judge_268 hZ j hj) (wX0_judge_195 hZ j hj)
noncomputable def vX0_judge_176 (j : Nat → rx_K) : rx_K := o_ld rx_isI 5 (o_ld rx_isR 0 (o_getf 0 5 (o_getf 10 15 (o_c2 rx_lt (vX0_judge_188 j) (vX0_judge_268 j)))))
set_option maxRecDepth 20000 in
theorem wX0_judge_176 (hZ : zO b e D A X) (j : Nat → rx_K) (hj : ∀ k pc, [23, 80, 134, 176][k]? = some pc → rx_OK (zV b e D A X) mX0_judge 406 pc (j k)) : rx_OK (zV b e D A X) mX0_judge 406 176 (vX0_judge_176 j) := by
  unfold vX0_judge_176
  refine s_iload hZ.1 dX0_judge_176 ?_
  refine s_aload_n hZ.1 dX0_judge_178 rfl ?_
  refine yg0_5 dX0_judge_179 zw668 ?_
  refine yg10_15 dX0_judge_182 zw868 ?_
  exact s_icmp_ge dX0_judge_185 (by decide) (wX0_judge_268 hZ j hj) (wX0_judge_188 hZ j hj)
noncomputable def vX0_judge_173 (j : Nat → rx_K) : rx_K := o_const 0 (o_st rx_isI 5 ((vX0_judge_176 j)))
set_option maxRecDepth 20000 in
theorem wX0_judge_173 (hZ : zO b e D A X) (j : Nat → rx_K) (hj : ∀ k pc, [23, 80, 134, 176][k]? = some pc → rx_OK (zV b e D A X) mX0_judge 406 pc (j k)) : rx_OK (zV b e D A X) mX0_judge 406 173 (vX0_judge_173 j) := by
  unfold vX0_judge_173
  refine s_iconst dX0_judge_173 (by decide +kernel) ?_
  refine s_istore hZ.1 dX0_judge_174 (Nat.le_of_ble_eq_true rfl) ?_
  exact (wX0_judge_176 hZ j hj)
noncomputable def vX0_judge_153 (j : Nat → rx_K) : rx_K := o_ld rx_isR 0 (o_ld rx_isR 0 (o_getf 0 5 (o_getf 10 12 (o_ld rx_isI 5 (o_ald 5 (o_callV 1 0 FX0_body (o_inc 5 (1) ((j 2)))))))))
set_option maxRecDepth 20000 in
theorem wX0_judge_153 (hZ : zO b e D A X) (j : Nat → rx_K) (hj : ∀ k pc, [23, 80, 134, 176][k]? = some pc → rx_OK (zV b e D A X) mX0_judge 406 pc (j k)) : rx_OK (zV b e D A X) mX0_judge 406 153 (vX0_judge_153 j) := by
  unfold vX0_judge_153
  refine s_aload_n hZ.1 dX0_judge_153 rfl ?_
  refine s_aload_n hZ.1 dX0_judge_154 rfl ?_
  refine yg0_5 dX0_judge_155 zw668 ?_
  refine yg10_12 dX0_judge_158 zw849 ?_
  refine s_iload hZ.1 dX0_judge_161 ?_
  refine s_aald (tt := 5) rfl rfl dX0_judge_163 ?_
  refine s_callV hZ.1 (Met_X0_body hZ) (Nat.le_of_ble_eq_true rfl) vy_X0_body zcl0 zw2086 zw63 (Or.inl zw2084) dX0_judge_164 ?_
  refine s_iinc hZ.1 dX0_judge_167 (Nat.le_of_ble_eq_true rfl) ?_
  exact s_goto dX0_judge_170 (by decide) (hj 2 134 rfl)
noncomputable def vX0_judge_146 (j : Nat → rx_K) : rx_K := o_ld rx_isR 0 (o_getf 0 3 (o_c1 rx_eq (vX0_judge_153 j) (vX0_judge_173 j)))
set_option maxRecDepth 20000 in
theorem wX0_judge_146 (hZ : zO b e D A X) (j : Nat → rx_K) (hj : ∀ k pc, [23, 80, 134, 176][k]? = some pc → rx_OK (zV b e D A X) mX0_judge 406 pc (j k)) : rx_OK (zV b e D A X) mX0_judge 406 146 (vX0_judge_146 j) := by
  unfold vX0_judge_146
  refine s_aload_n hZ.1 dX0_judge_146 rfl ?_
  refine yg0_3 dX0_judge_147 zw664 ?_
  exact s_if_ne dX0_judge_150 (by decide) (wX0_judge_173 hZ j hj) (wX0_judge_153 hZ j hj)
noncomputable def vX0_judge_134 (j : Nat → rx_K) : rx_K := o_ld rx_isI 5 (o_ld rx_isR 0 (o_getf 0 5 (o_getf 10 13 (o_c2 rx_lt (vX0_judge_146 j) (vX0_judge_173 j)))))
set_option maxRecDepth 20000 in
theorem wX0_judge_134 (hZ : zO b e D A X) (j : Nat → rx_K) (hj : ∀ k pc, [23, 80, 134, 176][k]? = some pc → rx_OK (zV b e D A X) mX0_judge 406 pc (j k)) : rx_OK (zV b e D A X) mX0_judge 406 134 (vX0_judge_134 j) := by
  unfold vX0_judge_134
  refine s_iload hZ.1 dX0_judge_134 ?_
  refine s_aload_n hZ.1 dX0_judge_136 rfl ?_
  refine yg0_5 dX0_judge_137 zw668 ?_
  refine yg10_13 dX0_judge_140 zw855 ?_
  exact s_icmp_ge dX0_judge_143 (by decide) (wX0_judge_173 hZ j hj) (wX0_judge_146 hZ j hj)
noncomputable def vX0_judge_99 (j : Nat → rx_K) : rx_K := o_ld rx_isR 0 (o_ld rx_isR 0 (o_getf 0 1 (o_getf 1 2 (o_ld rx_isI 4 (o_ald 4 (o_putf rx_isR 0 5 (o_ld rx_isR 0 (o_ld rx_isR 0 (o_getf 0 0 (o_ld rx_isR 0 (o_getf 0 5 (o_getf 10 1 (o_callV 1 11 FX11_find (o_putf rx_isI 0 6 (o_const 0 (o_st rx_isI 5 ((vX0_judge_134 j))))))))))))))))))
set_option maxRecDepth 20000 in
theorem wX0_judge_99 (hZ : zO b e D A X) (j : Nat → rx_K) (hj : ∀ k pc, [23, 80, 134, 176][k]? = some pc → rx_OK (zV b e D A X) mX0_judge 406 pc (j k)) : rx_OK (zV b e D A X) mX0_judge 406 99 (vX0_judge_99 j) := by
  unfold vX0_judge_99
  refine s_aload_n hZ.1 dX0_judge_99 rfl ?_
  refine s_aload_n hZ.1 dX0_judge_100 rfl ?_
  refine yg0_1 dX0_judge_101 zw662 ?_
  refine yg1_2 dX0_judge_104 zw1118 ?_
  refine s_iload hZ.1 dX0_judge_107 ?_
  refine s_aald (tt := 4) rfl rfl dX0_judge_109 ?_
  refine yp0_5 hZ.1 dX0_judge_110 zw668 ?_
  refine s_aload_n hZ.1 dX0_judge_113 rfl ?_
  refine s_aload_n hZ.1 dX0_judge_114 rfl ?_
  refine yg0_0 dX0_judge_115 zw661 ?_
  refine s_aload_n hZ.1 dX0_judge_118 rfl ?_
  refine yg0_5 dX0_judge_119 zw668 ?_
  refine yg10_1 dX0_judge_122 zw771 ?_
  refine s_callV hZ.1 (Met_X11_find hZ) (Nat.le_of_ble_eq_true rfl) vy_X11_find zcl11 zw1574 zw1575 (Or.inl zw2048) dX0_judge_125 ?_
  refine yp0_6 hZ.1 dX0_judge_128 zw669 ?_
  refine s_iconst dX0_judge_131 (by decide +kernel) ?_
  refine s_istore hZ.1 dX0_judge_132 (Nat.le_of_ble_eq_true rfl) ?_
  exact (wX0_judge_134 hZ j hj)
noncomputable def vX0_judge_92 (j : Nat → rx_K) : rx_K := o_ld rx_isR 0 (o_getf 0 3 (o_c1 rx_eq (vX0_judge_99 j) (vX0_judge_274 j)))
set_option maxRecDepth 20000 in
theorem wX0_judge_92 (hZ : zO b e D A X) (j : Nat → rx_K) (hj : ∀ k pc, [23, 80, 134, 176][k]? = some pc → rx_OK (zV b e D A X) mX0_judge 406 pc (j k)) : rx_OK (zV b e D A X) mX0_judge 406 92 (vX0_judge_92 j) := by
  unfold vX0_judge_92
  refine s_aload_n hZ.1 dX0_judge_92 rfl ?_
  refine yg0_3 dX0_judge_93 zw664 ?_
  exact s_if_ne dX0_judge_96 (by decide) (wX0_judge_274 hZ j hj) (wX0_judge_99 hZ j hj)
noncomputable def vX0_judge_80 (j : Nat → rx_K) : rx_K := o_ld rx_isI 4 (o_ld rx_isR 0 (o_getf 0 1 (o_getf 1 3 (o_c2 rx_lt (vX0_judge_92 j) (vX0_judge_274 j)))))
set_option maxRecDepth 20000 in
theorem wX0_judge_80 (hZ : zO b e D A X) (j : Nat → rx_K) (hj : ∀ k pc, [23, 80, 134, 176][k]? = some pc → rx_OK (zV b e D A X) mX0_judge 406 pc (j k)) : rx_OK (zV b e D A X) mX0_judge 406 80 (vX0_judge_80 j) := by
  unfold vX0_judge_80
  refine s_iload hZ.1 dX0_judge_80 ?_
  refine s_aload_n hZ.1 dX0_judge_82 rfl ?_
  refine yg0_1 dX0_judge_83 zw662 ?_
  refine yg1_3 dX0_judge_86 zw1124 ?_
  exact s_icmp_ge dX0_judge_89 (by decide) (wX0_judge_274 hZ j hj) (wX0_judge_92 hZ j hj)
noncomputable def vX0_judge_77 (j : Nat → rx_K) : rx_K := o_const 0 (o_st rx_isI 4 ((vX0_judge_80 j)))
set_option maxRecDepth 20000 in
theorem wX0_judge_77 (hZ : zO b e D A X) (j : Nat → rx_K) (hj : ∀ k pc, [23, 80, 134, 176][k]? = some pc → rx_OK (zV b e D A X) mX0_judge 406 pc (j k)) : rx_OK (zV b e D A X) mX0_judge 406 77 (vX0_judge_77 j) := by
  unfold vX0_judge_77
  refine s_iconst dX0_judge_77 (by decide +kernel) ?_
  refine s_istore hZ.1 dX0_judge_78 (Nat.le_of_ble_eq_true rfl) ?_
  exact (wX0_judge_80 hZ j hj)
noncomputable def vX0_judge_35 (j : Nat → rx_K) : rx_K := o_ld rx_isR 0 (o_ld rx_isR 0 (o_getf 0 1 (o_getf 1 2 (o_ld rx_isI 4 (o_ald 4 (o_putf rx_isR 0 5 (o_ld rx_isR 0 (o_ld rx_isR 0 (o_getf 0 0 (o_ld rx_isR 0 (o_getf 0 5 (o_getf 10 1 (o_callV 1 11 FX11_find (o_putf rx_isI 0 6 (o_ld rx_isR 0 (o_callV 0 0 FX0_constants (o_inc 4 (1) ((j 0)))))))))))))))))))
set_option maxRecDepth 20000 in
theorem wX0_judge_35 (hZ : zO b e D A X) (j : Nat → rx_K) (hj : ∀ k pc, [23, 80, 134, 176][k]? = some pc → rx_OK (zV b e D A X) mX0_judge 406 pc (j k)) : rx_OK (zV b e D A X) mX0_judge 406 35 (vX0_judge_35 j) := by
  unfold vX0_judge_35
  refine s_aload_n hZ.1 dX0_judge_35 rfl ?_
  refine s_aload_n hZ.1 dX0_judge_36 rfl ?_
  refine yg0_1 dX0_judge_37 zw662 ?_
  refine yg1_2 dX0_judge_40 zw1118 ?_
  refine s_iload hZ.1 dX0_judge_43 ?_
  refine s_aald (tt := 4) rfl rfl dX0_judge_45 ?_
  refine yp0_5 hZ.1 dX0_judge_46 zw668 ?_
  refine s_aload_n hZ.1 dX0_judge_49 rfl ?_
  refine s_aload_n hZ.1 dX0_judge_50 rfl ?_
  refine yg0_0 dX0_judge_51 zw661 ?_
  refine s_aload_n hZ.1 dX0_judge_54 rfl ?_
  refine yg0_5 dX0_judge_55 zw668 ?_
  refine yg10_1 dX0_judge_58 zw771 ?_
  refine s_callV hZ.1 (Met_X11_find hZ) (Nat.le_of_ble_eq_true rfl) vy_X11_find zcl11 zw1574 zw1575 (Or.inl zw2048) dX0_judge_61 ?_
  refine yp0_6 hZ.1 dX0_judge_64 zw669 ?_
  refine s_aload_n hZ.1 dX0_judge_67 rfl ?_
  refine s_callV hZ.1 (Met_X0_constants hZ) (Nat.le_of_ble_eq_true rfl) vy_X0_constants zcl0 zw2051 zw58 (Or.inl zw2049) dX0_judge_68 ?_
  refine s_iinc hZ.1 dX0_judge_71 (Nat.le_of_ble_eq_true rfl) ?_
  exact s_goto dX0_judge_74 (by decide) (hj 0 23 rfl)
noncomputable def vX0_judge_23 (j : Nat → rx_K) : rx_K := o_ld rx_isI 4 (o_ld rx_isR 0 (o_getf 0 1 (o_getf 1 3 (o_c2 rx_lt (vX0_judge_35 j) (vX0_judge_77 j)))))
set_option maxRecDepth 20000 in
theorem wX0_judge_23 (hZ : zO b e D A X) (j : Nat → rx_K) (hj : ∀ k pc, [23, 80, 134, 176][k]? = some pc → rx_OK (zV b e D A X) mX0_judge 406 pc (j k)) : rx_OK (zV b e D A X) mX0_judge 406 23 (vX0_judge_23 j) := by
  unfold vX0_judge_23
  refine s_iload hZ.1 dX0_judge_23 ?_
  refine s_aload_n hZ.1 dX0_judge_25 rfl ?_
  refine yg0_1 dX0_judge_26 zw662 ?_
  refine yg1_3 dX0_judge_29 zw1124 ?_
  exact s_icmp_ge dX0_judge_32 (by decide) (wX0_judge_77 hZ j hj) (wX0_judge_35 hZ j hj)
noncomputable def vX0_judge_0 (j : Nat → rx_K) : rx_K := o_ld rx_isR 0 (o_ld rx_isR 1 (o_putf rx_isR 0 0 (o_ld rx_isR 0 (o_ld rx_isR 2 (o_putf rx_isR 0 1 (o_ld rx_isR 0 (o_ld rx_isR 3 (o_putf rx_isR 0 2 (o_ld rx_isR 0 (o_const 0 (o_putf rx_isI 0 3 (o_const 0 (o_st rx_isI 4 ((vX0_judge_23 j)))))))))))))))
set_option maxRecDepth 20000 in
theorem wX0_judge_0 (hZ : zO b e D A X) (j : Nat → rx_K) (hj : ∀ k pc, [23, 80, 134, 176][k]? = some pc → rx_OK (zV b e D A X) mX0_judge 406 pc (j k)) : rx_OK (zV b e D A X) mX0_judge 406 0 (vX0_judge_0 j) := by
  unfold vX0_judge_0
  refine s_aload_n hZ.1 dX0_judge_0 rfl ?_
  refine s_aload_n hZ.1 dX0_judge_1 rfl ?_
  refine yp0_0 hZ.1 dX0_judge_2 zw661 ?_
  refine s_aload_n hZ.1 dX0_judge_5 rfl ?_
  refine s_aload_n hZ.1 dX0_judge_6 rfl ?_
  refine yp0_1 hZ.1 dX0_judge_7 zw662 ?_
  refine s_aload_n hZ.1 dX0_judge_10 rfl ?_
  refine s_aload_n hZ.1 dX0_judge_11 rfl ?_
  refine yp0_2 hZ.1 dX0_judge_12 zw663 ?_
  refine s_aload_n hZ.1 dX0_judge_15 rfl ?_
  refine s_iconst dX0_judge_16 (by decide +kernel) ?_
  refine yp0_3 hZ.1 dX0_judge_17 zw664 ?_
  refine s_iconst dX0_judge_20 (by decide +kernel) ?_
  refine s_istore hZ.1 dX0_judge_21 (Nat.le_of_ble_eq_true rfl) ?_
  exact (wX0_judge_23 hZ j hj)
noncomputable def vhX0_judge (j : Nat → rx_K) : List rx_K := [vX0_judge_23 j, vX0_judge_80 j, vX0_judge_134 j, vX0_judge_176 j]
theorem vlX0_judge (hZ : zO b e D A X) : ∀ n k pc, [23, 80, 134, 176][k]? = some pc → rx_OK (zV b e D A X) mX0_judge 406 pc (rx_J (vhX0_judge) n k) := rx_loop fun j hj k pc h => by
  match k, h with
  | 0, h =>
    have e9 := Option.some.inj (show some 23 = some pc from h)
    subst e9
    exact wX0_judge_23 hZ j hj
  | 1, h =>
    have e9 := Option.some.inj (show some 80 = some pc from h)
    subst e9
    exact wX0_judge_80 hZ j hj
  | 2, h =>
    have e9 := Option.some.inj (show some 134 = some pc from h)
    subst e9
    exact wX0_judge_134 hZ j hj
  | 3, h =>
    have e9 := Option.some.inj (show some 176 = some pc from h)
    subst e9
    exact wX0_judge_176 hZ j hj
  | _ + 4, h => exact absurd h (by simp)
noncomputable def FX0_judge : List Nat → rx_H → Option (Nat × rx_H) := rx_ent 7 (vX0_judge_0 (rx_J (vhX0_judge) 4000000000))
theorem Met_X0_judge (hZ : zO b e D A X) : rx_Met (zV b e D A X) 406 yX0_judge mX0_judge (FX0_judge) := rx_entry hZ.1 (wX0_judge_0 hZ _ (vlX0_judge hZ 4000000000)) (by decide +kernel) rfl (fun h => by cases h)
abbrev mX7_init : rx_M := (RX7, cX7_init, 1, none, true)
theorem vy_X7_init : rx_Y (zV b e D A X) yX7_init mX7_init 0 := ⟨zw940, zw426, by decide, by decide +kernel, by decide +kernel, by decide +kernel⟩
noncomputable def vX7_init_0 : rx_K := o_ld rx_isR 0 (o_obj (o_ld rx_isR 0 (o_const 32 (o_newa 1 1 (o_putf rx_isR 7 10 (o_ret0))))))
set_option maxRecDepth 20000 in
theorem wX7_init_0 (hZ : zO b e D A X) : rx_OK (zV b e D A X) mX7_init 1 0 vX7_init_0 := by
  unfold vX7_init_0
  refine s_aload_n hZ.1 dX7_init_0 rfl ?_
  refine s_obj hZ.1 (Nat.le_of_ble_eq_true rfl) zw941 zw440 zw441 dX7_init_1 ?_
  refine s_aload_n hZ.1 dX7_init_4 rfl ?_
  refine s_iconst dX7_init_5 (by decide +kernel) ?_
  refine s_newa (tt := 1) (ty := .long) rfl rfl rfl rfl rfl (by decide) zw528 dX7_init_6 ?_
  refine yp7_10 hZ.1 rfl rfl dX7_init_8 zw1029 ?_
  exact s_vret rfl dX7_init_11
noncomputable def FX7_init : List Nat → rx_H → Option (Nat × rx_H) := rx_ent 1 vX7_init_0
theorem Met_X7_init (hZ : zO b e D A X) : rx_Met (zV b e D A X) 1 yX7_init mX7_init (FX7_init) := rx_entry hZ.1 (wX7_init_0 hZ) (by decide +kernel) rfl (fun _ => rfl)
abbrev mX10_init : rx_M := (RX10, cX10_init, 1, none, true)
theorem vy_X10_init : rx_Y (zV b e D A X) yX10_init mX10_init 0 := ⟨zw762, zw425, by decide, by decide +kernel, by decide +kernel, by decide +kernel⟩
noncomputable def vX10_init_0 : rx_K := o_ld rx_isR 0 (o_obj (o_ld rx_isR 0 (o_const 192 (o_newa 1 1 (o_putf rx_isR 10 10 (o_ld rx_isR 0 (o_const 24 (o_newa 0 0 (o_putf rx_isR 10 11 (o_ld rx_isR 0 (o_const 160 (o_newa 5 3 (o_putf rx_isR 10 12 (o_ld rx_isR 0 (o_const 264 (o_newa 5 3 (o_putf rx_isR 10 14 (o_ret0))))))))))))))))))
set_option maxRecDepth 20000 in
theorem wX10_init_0 (hZ : zO b e D A X) : rx_OK (zV b e D A X) mX10_init 1 0 vX10_init_0 := by
  unfold vX10_init_0
  refine s_aload_n hZ.1 dX10_init_0 rfl ?_
  refine s_obj hZ.1 (Nat.le_of_ble_eq_true rfl) zw763 zw440 zw441 dX10_init_1 ?_
  refine s_aload_n hZ.1 dX10_init_4 rfl ?_
  refine s_bipush dX10_init_5 (by decide +kernel) ?_
  refine s_newa (tt := 1) (ty := .long) rfl rfl rfl rfl rfl (by decide) zw528 dX10_init_7 ?_
  refine yp10_10 hZ.1 rfl rfl dX10_init_9 zw836 ?_
  refine s_aload_n hZ.1 dX10_init_12 rfl ?_
  refine s_iconst dX10_init_13 (by decide +kernel) ?_
  refine s_newa (tt := 0) (ty := .int) rfl rfl rfl rfl rfl (by decide) zw527 dX10_init_14 ?_
  refine yp10_11 hZ.1 rfl rfl dX10_init_16 zw838 ?_
  refine s_aload_n hZ.1 dX10_init_19 rfl ?_
  refine s_bipush dX10_init_20 (by decide +kernel) ?_
  refine s_anewa (tt := 5) rfl zw764 (zo_W5 hZ) dX10_init_22 ?_
  refine yp10_12 hZ.1 rfl rfl dX10_init_25 zw846 ?_
  refine s_aload_n hZ.1 dX10_init_28 rfl ?_
  refine s_bipush dX10_init_29 (by decide +kernel) ?_
  refine s_anewa (tt := 5) rfl zw764 (zo_W5 hZ) dX10_init_31 ?_
  refine yp10_14 hZ.1 rfl rfl dX10_init_34 zw858 ?_
  exact s_vret rfl dX10_init_37
noncomputable def FX10_init : List Nat → rx_H → Option (Nat × rx_H) := rx_ent 1 vX10_init_0
theorem Met_X10_init (hZ : zO b e D A X) : rx_Met (zV b e D A X) 1 yX10_init mX10_init (FX10_init) := rx_entry hZ.1 (wX10_init_0 hZ) (by decide +kernel) rfl (fun _ => rfl)
abbrev mX1_init : rx_M := (RX1, cX1_init, 8, none, true)
theorem vy_X1_init : rx_Y (zV b e D A X) yX1_init mX1_init 6 := ⟨zw756, zw424, by decide, by decide +kernel, by decide +kernel, by decide +kernel⟩
noncomputable def vX1_init_125 (j : Nat → rx_K) : rx_K := o_ld rx_isR 0 (o_ld rx_isI 5 (o_newa 5 3 (o_putf rx_isR 1 13 (o_ld rx_isR 0 (o_ld rx_isI 5 (o_newa 1 1 (o_putf rx_isR 1 14 (o_ld rx_isR 0 (o_ld rx_isI 6 (o_newa 0 0 (o_putf rx_isR 1 16 (o_ret0))))))))))))
set_option maxRecDepth 20000 in
theorem wX1_init_125 (hZ : zO b e D A X) (j : Nat → rx_K) (hj : ∀ k pc, [15, 52][k]? = some pc → rx_OK (zV b e D A X) mX1_init 2 pc (j k)) : rx_OK (zV b e D A X) mX1_init 2 125 (vX1_init_125 j) := by
  unfold vX1_init_125
  refine s_aload_n hZ.1 dX1_init_125 rfl ?_
  refine s_iload hZ.1 dX1_init_126 ?_
  refine s_anewa (tt := 5) rfl zw936 (zo_W5 hZ) dX1_init_128 ?_
  refine yp1_13 hZ.1 rfl rfl dX1_init_131 zw1156 ?_
  refine s_aload_n hZ.1 dX1_init_134 rfl ?_
  refine s_iload hZ.1 dX1_init_135 ?_
  refine s_newa (tt := 1) (ty := .long) rfl rfl rfl rfl rfl (by decide) zw528 dX1_init_137 ?_
  refine yp1_14 hZ.1 rfl rfl dX1_init_139 zw1160 ?_
  refine s_aload_n hZ.1 dX1_init_142 rfl ?_
  refine s_iload hZ.1 dX1_init_143 ?_
  refine s_newa (tt := 0) (ty := .int) rfl rfl rfl rfl rfl (by decide) zw527 dX1_init_145 ?_
  refine yp1_16 hZ.1 rfl rfl dX1_init_147 zw1168 ?_
  exact s_vret rfl dX1_init_150
noncomputable def vX1_init_78 (j : Nat → rx_K) : rx_K := o_ld rx_isR 0 (o_ld rx_isI 3 (o_newa 2 0 (o_putf rx_isR 1 6 (o_ld rx_isR 0 (o_ld rx_isI 4 (o_newa 0 0 (o_putf rx_isR 1 8 (o_ld rx_isR 0 (o_ld rx_isI 4 (o_newa 0 0 (o_putf rx_isR 1 9 (o_ld rx_isR 0 (o_ld rx_isI 5 (o_newa 0 0 (o_putf rx_isR 1 10 (o_ld rx_isR 0 (o_ld rx_isI 5 (o_newa 0 0 (o_putf rx_isR 1 11 (o_ld rx_isR 0 (o_ld rx_isI 5 (o_newa 1 1 (o_putf rx_isR 1 12 ((vX1_init_125 j)))))))))))))))))))))))))
set_option maxRecDepth 20000 in
theorem wX1_init_78 (hZ : zO b e D A X) (j : Nat → rx_K) (hj : ∀ k pc, [15, 52][k]? = some pc → rx_OK (zV b e D A X) mX1_init 2 pc (j k)) : rx_OK (zV b e D A X) mX1_init 2 78 (vX1_init_78 j) := by
  unfold vX1_init_78
  refine s_aload_n hZ.1 dX1_init_78 rfl ?_
  refine s_iload_n hZ.1 dX1_init_79 rfl ?_
  refine s_newa (tt := 2) (ty := .byte) rfl rfl rfl rfl rfl (by decide) zw526 dX1_init_80 ?_
  refine yp1_6 hZ.1 rfl rfl dX1_init_82 zw1129 ?_
  refine s_aload_n hZ.1 dX1_init_85 rfl ?_
  refine s_iload hZ.1 dX1_init_86 ?_
  refine s_newa (tt := 0) (ty := .int) rfl rfl rfl rfl rfl (by decide) zw527 dX1_init_88 ?_
  refine yp1_8 hZ.1 rfl rfl dX1_init_90 zw1136 ?_
  refine s_aload_n hZ.1 dX1_init_93 rfl ?_
  refine s_iload hZ.1 dX1_init_94 ?_
  refine s_newa (tt := 0) (ty := .int) rfl rfl rfl rfl rfl (by decide) zw527 dX1_init_96 ?_
  refine yp1_9 hZ.1 rfl rfl dX1_init_98 zw1140 ?_
  refine s_aload_n hZ.1 dX1_init_101 rfl ?_
  refine s_iload hZ.1 dX1_init_102 ?_
  refine s_newa (tt := 0) (ty := .int) rfl rfl rfl rfl rfl (by decide) zw527 dX1_init_104 ?_
  refine yp1_10 hZ.1 rfl rfl dX1_init_106 zw1144 ?_
  refine s_aload_n hZ.1 dX1_init_109 rfl ?_
  refine s_iload hZ.1 dX1_init_110 ?_
  refine s_newa (tt := 0) (ty := .int) rfl rfl rfl rfl rfl (by decide) zw527 dX1_init_112 ?_
  refine yp1_11 hZ.1 rfl rfl dX1_init_114 zw1149 ?_
  refine s_aload_n hZ.1 dX1_init_117 rfl ?_
  refine s_iload hZ.1 dX1_init_118 ?_
  refine s_newa (tt := 1) (ty := .long) rfl rfl rfl rfl rfl (by decide) zw528 dX1_init_120 ?_
  refine yp1_12 hZ.1 rfl rfl dX1_init_122 zw1152 ?_
  exact (wX1_init_125 hZ j hj)
noncomputable def vX1_init_58 (j : Nat → rx_K) : rx_K := o_ld rx_isR 0 (o_getf 1 4 (o_ld rx_isI 7 (o_new 7 19 zfs7 (o_dup (o_callI 0 FX7_init (o_aast 5 [7] (o_inc 7 (1) ((j 1)))))))))
set_option maxRecDepth 20000 in
theorem wX1_init_58 (hZ : zO b e D A X) (j : Nat → rx_K) (hj : ∀ k pc, [15, 52][k]? = some pc → rx_OK (zV b e D A X) mX1_init 2 pc (j k)) : rx_OK (zV b e D A X) mX1_init 2 58 (vX1_init_58 j) := by
  unfold vX1_init_58
  refine s_aload_n hZ.1 dX1_init_58 rfl ?_
  refine yg1_4 dX1_init_59 zw1127 ?_
  refine s_iload hZ.1 dX1_init_62 ?_
  refine s_new zcl7 zfk7 dX1_init_64 zw936 zw937 zw426 ?_
  refine s_dup hZ.1 dX1_init_67 ?_
  refine s_callI hZ.1 (Met_X7_init hZ) (Nat.le_of_ble_eq_true rfl) vy_X7_init rfl rfl zw939 (Or.inr ⟨_, zo_N938 hZ⟩) dX1_init_68 ?_
  refine s_aast (tt := 5) rfl zaa7 dX1_init_71 ?_
  refine s_iinc hZ.1 dX1_init_72 (Nat.le_of_ble_eq_true rfl) ?_
  exact s_goto dX1_init_75 (by decide) (hj 1 52 rfl)
noncomputable def vX1_init_52 (j : Nat → rx_K) : rx_K := o_ld rx_isI 7 (o_ld rx_isI 2 (o_c2 rx_lt (vX1_init_58 j) (vX1_init_78 j)))
set_option maxRecDepth 20000 in
theorem wX1_init_52 (hZ : zO b e D A X) (j : Nat → rx_K) (hj : ∀ k pc, [15, 52][k]? = some pc → rx_OK (zV b e D A X) mX1_init 2 pc (j k)) : rx_OK (zV b e D A X) mX1_init 2 52 (vX1_init_52 j) := by
  unfold vX1_init_52
  refine s_iload hZ.1 dX1_init_52 ?_
  refine s_iload_n hZ.1 dX1_init_54 rfl ?_
  exact s_icmp_ge dX1_init_55 (by decide) (wX1_init_78 hZ j hj) (wX1_init_58 hZ j hj)
noncomputable def vX1_init_41 (j : Nat → rx_K) : rx_K := o_ld rx_isR 0 (o_ld rx_isI 2 (o_newa 5 3 (o_putf rx_isR 1 4 (o_const 0 (o_st rx_isI 7 ((vX1_init_52 j)))))))
set_option maxRecDepth 20000 in
theorem wX1_init_41 (hZ : zO b e D A X) (j : Nat → rx_K) (hj : ∀ k pc, [15, 52][k]? = some pc → rx_OK (zV b e D A X) mX1_init 2 pc (j k)) : rx_OK (zV b e D A X) mX1_init 2 41 (vX1_init_41 j) := by
  unfold vX1_init_41
  refine s_aload_n hZ.1 dX1_init_41 rfl ?_
  refine s_iload_n hZ.1 dX1_init_42 rfl ?_
  refine s_anewa (tt := 5) rfl zw936 (zo_W5 hZ) dX1_init_43 ?_
  refine yp1_4 hZ.1 rfl rfl dX1_init_46 zw1127 ?_
  refine s_iconst dX1_init_49 (by decide +kernel) ?_
  refine s_istore hZ.1 dX1_init_50 (Nat.le_of_ble_eq_true rfl) ?_
  exact (wX1_init_52 hZ j hj)
noncomputable def vX1_init_21 (j : Nat → rx_K) : rx_K := o_ld rx_isR 0 (o_getf 1 2 (o_ld rx_isI 7 (o_new 10 21 zfs10 (o_dup (o_callI 0 FX10_init (o_aast 4 [10] (o_inc 7 (1) ((j 0)))))))))
set_option maxRecDepth 20000 in
theorem wX1_init_21 (hZ : zO b e D A X) (j : Nat → rx_K) (hj : ∀ k pc, [15, 52][k]? = some pc → rx_OK (zV b e D A X) mX1_init 2 pc (j k)) : rx_OK (zV b e D A X) mX1_init 2 21 (vX1_init_21 j) := by
  unfold vX1_init_21
  refine s_aload_n hZ.1 dX1_init_21 rfl ?_
  refine yg1_2 dX1_init_22 zw1113 ?_
  refine s_iload hZ.1 dX1_init_25 ?_
  refine s_new zcl10 zfk10 dX1_init_27 zw758 zw759 zw425 ?_
  refine s_dup hZ.1 dX1_init_30 ?_
  refine s_callI hZ.1 (Met_X10_init hZ) (Nat.le_of_ble_eq_true rfl) vy_X10_init rfl rfl zw761 (Or.inr ⟨_, zo_N760 hZ⟩) dX1_init_31 ?_
  refine s_aast (tt := 4) rfl zaa10 dX1_init_34 ?_
  refine s_iinc hZ.1 dX1_init_35 (Nat.le_of_ble_eq_true rfl) ?_
  exact s_goto dX1_init_38 (by decide) (hj 0 15 rfl)
noncomputable def vX1_init_15 (j : Nat → rx_K) : rx_K := o_ld rx_isI 7 (o_ld rx_isI 1 (o_c2 rx_lt (vX1_init_21 j) (vX1_init_41 j)))
set_option maxRecDepth 20000 in
theorem wX1_init_15 (hZ : zO b e D A X) (j : Nat → rx_K) (hj : ∀ k pc, [15, 52][k]? = some pc → rx_OK (zV b e D A X) mX1_init 2 pc (j k)) : rx_OK (zV b e D A X) mX1_init 2 15 (vX1_init_15 j) := by
  unfold vX1_init_15
  refine s_iload hZ.1 dX1_init_15 ?_
  refine s_iload_n hZ.1 dX1_init_17 rfl ?_
  exact s_icmp_ge dX1_init_18 (by decide) (wX1_init_41 hZ j hj) (wX1_init_21 hZ j hj)
noncomputable def vX1_init_0 (j : Nat → rx_K) : rx_K := o_ld rx_isR 0 (o_obj (o_ld rx_isR 0 (o_ld rx_isI 1 (o_newa 4 3 (o_putf rx_isR 1 2 (o_const 0 (o_st rx_isI 7 ((vX1_init_15 j)))))))))
set_option maxRecDepth 20000 in
theorem wX1_init_0 (hZ : zO b e D A X) (j : Nat → rx_K) (hj : ∀ k pc, [15, 52][k]? = some pc → rx_OK (zV b e D A X) mX1_init 2 pc (j k)) : rx_OK (zV b e D A X) mX1_init 2 0 (vX1_init_0 j) := by
  unfold vX1_init_0
  refine s_aload_n hZ.1 dX1_init_0 rfl ?_
  refine s_obj hZ.1 (Nat.le_of_ble_eq_true rfl) zw757 zw440 zw441 dX1_init_1 ?_
  refine s_aload_n hZ.1 dX1_init_4 rfl ?_
  refine s_iload_n hZ.1 dX1_init_5 rfl ?_
  refine s_anewa (tt := 4) rfl zw758 (zo_W4 hZ) dX1_init_6 ?_
  refine yp1_2 hZ.1 rfl rfl dX1_init_9 zw1113 ?_
  refine s_iconst dX1_init_12 (by decide +kernel) ?_
  refine s_istore hZ.1 dX1_init_13 (Nat.le_of_ble_eq_true rfl) ?_
  exact (wX1_init_15 hZ j hj)
noncomputable def vhX1_init (j : Nat → rx_K) : List rx_K := [vX1_init_15 j, vX1_init_52 j]
theorem vlX1_init (hZ : zO b e D A X) : ∀ n k pc, [15, 52][k]? = some pc → rx_OK (zV b e D A X) mX1_init 2 pc (rx_J (vhX1_init) n k) := rx_loop fun j hj k pc h => by
  match k, h with
  | 0, h =>
    have e9 := Option.some.inj (show some 15 = some pc from h)
    subst e9
    exact wX1_init_15 hZ j hj
  | 1, h =>
    have e9 := Option.some.inj (show some 52 = some pc from h)
    subst e9
    exact wX1_init_52 hZ j hj
  | _ + 2, h => exact absurd h (by simp)
noncomputable def FX1_init : List Nat → rx_H → Option (Nat × rx_H) := rx_ent 8 (vX1_init_0 (rx_J (vhX1_init) 4000000000))
theorem Met_X1_init (hZ : zO b e D A X) : rx_Met (zV b e D A X) 2 yX1_init mX1_init (FX1_init) := rx_entry hZ.1 (wX1_init_0 hZ _ (vlX1_init hZ 4000000000)) (by decide +kernel) rfl (fun _ => rfl)
abbrev mX1_clear : rx_M := (RX1, cX1_clear, 1, none, false)
theorem vy_X1_clear : rx_Y (zV b e D A X) yX1_clear mX1_clear 0 := ⟨zw1723, zw424, by decide, by decide +kernel, by decide +kernel, by decide +kernel⟩
noncomputable def vX1_clear_0 : rx_K := o_ld rx_isR 0 (o_const 0 (o_putf rx_isI 1 3 (o_ld rx_isR 0 (o_const 0 (o_putf rx_isI 1 5 (o_ld rx_isR 0 (o_const 0 (o_putf rx_isI 1 7 (o_ld rx_isR 0 (o_const 0 (o_putf rx_isI 1 15 (o_ld rx_isR 0 (o_const 0 (o_putf rx_isI 1 17 (o_ret0)))))))))))))))
set_option maxRecDepth 20000 in
theorem wX1_clear_0 (hZ : zO b e D A X) : rx_OK (zV b e D A X) mX1_clear 0 0 vX1_clear_0 := by
  unfold vX1_clear_0
  refine s_aload_n hZ.1 dX1_clear_0 rfl ?_
  refine s_iconst dX1_clear_1 (by decide +kernel) ?_
  refine yp1_3 hZ.1 dX1_clear_2 zw1120 ?_
  refine s_aload_n hZ.1 dX1_clear_5 rfl ?_
  refine s_iconst dX1_clear_6 (by decide +kernel) ?_
  refine yp1_5 hZ.1 dX1_clear_7 zw1128 ?_
  refine s_aload_n hZ.1 dX1_clear_10 rfl ?_
  refine s_iconst dX1_clear_11 (by decide +kernel) ?_
  refine yp1_7 hZ.1 dX1_clear_12 zw1133 ?_
  refine s_aload_n hZ.1 dX1_clear_15 rfl ?_
  refine s_iconst dX1_clear_16 (by decide +kernel) ?_
  refine yp1_15 hZ.1 dX1_clear_17 zw1164 ?_
  refine s_aload_n hZ.1 dX1_clear_20 rfl ?_
  refine s_iconst dX1_clear_21 (by decide +kernel) ?_
  refine yp1_17 hZ.1 dX1_clear_22 zw1171 ?_
  exact s_vret rfl dX1_clear_25
noncomputable def FX1_clear : List Nat → rx_H → Option (Nat × rx_H) := rx_ent 1 vX1_clear_0
theorem Met_X1_clear (hZ : zO b e D A X) : rx_Met (zV b e D A X) 0 yX1_clear mX1_clear (FX1_clear) := rx_entry hZ.1 (wX1_clear_0 hZ) (by decide +kernel) rfl (fun h => by cases h)
abbrev mJ7_fill_53178 : rx_M := (RJ7, cJ7_fill_53178, 4, none, false)
theorem vy_J7_fill_53178 : rx_Y (zV b e D A X) yJ7_fill_53178 mJ7_fill_53178 2 := ⟨zw1224, zw427, by decide, by decide +kernel, by decide +kernel, by decide +kernel⟩
noncomputable def vJ7_fill_53178_20 (j : Nat → rx_K) : rx_K := o_ret0
set_option maxRecDepth 20000 in
theorem wJ7_fill_53178_20 (hZ : zO b e D A X) (j : Nat → rx_K) (hj : ∀ k pc, [5][k]? = some pc → rx_OK (zV b e D A X) mJ7_fill_53178 0 pc (j k)) : rx_OK (zV b e D A X) mJ7_fill_53178 0 20 (vJ7_fill_53178_20 j) := by
  unfold vJ7_fill_53178_20
  exact s_vret rfl dJ7_fill_53178_20
noncomputable def vJ7_fill_53178_10 (j : Nat → rx_K) : rx_K := o_ld rx_isR 0 (o_ld rx_isI 2 (o_ld rx_isI 1 (o_ast 0 (fun v => v) rx_isI (o_inc 2 (1) ((j 0))))))
set_option maxRecDepth 20000 in
theorem wJ7_fill_53178_10 (hZ : zO b e D A X) (j : Nat → rx_K) (hj : ∀ k pc, [5][k]? = some pc → rx_OK (zV b e D A X) mJ7_fill_53178 0 pc (j k)) : rx_OK (zV b e D A X) mJ7_fill_53178 0 10 (vJ7_fill_53178_10 j) := by
  unfold vJ7_fill_53178_10
  refine s_aload_n hZ.1 dJ7_fill_53178_10 rfl ?_
  refine s_iload_n hZ.1 dJ7_fill_53178_11 rfl ?_
  refine s_iload_n hZ.1 dJ7_fill_53178_12 rfl ?_
  refine s_iast hZ.1 (tt := 0) rfl dJ7_fill_53178_13 ?_
  refine s_iinc hZ.1 dJ7_fill_53178_14 (Nat.le_of_ble_eq_true rfl) ?_
  exact s_goto dJ7_fill_53178_17 (by decide) (hj 0 5 rfl)
noncomputable def vJ7_fill_53178_5 (j : Nat → rx_K) : rx_K := o_ld rx_isI 2 (o_ld rx_isI 3 (o_c2 rx_lt (vJ7_fill_53178_10 j) (vJ7_fill_53178_20 j)))
set_option maxRecDepth 20000 in
theorem wJ7_fill_53178_5 (hZ : zO b e D A X) (j : Nat → rx_K) (hj : ∀ k pc, [5][k]? = some pc → rx_OK (zV b e D A X) mJ7_fill_53178 0 pc (j k)) : rx_OK (zV b e D A X) mJ7_fill_53178 0 5 (vJ7_fill_53178_5 j) := by
  unfold vJ7_fill_53178_5
  refine s_iload_n hZ.1 dJ7_fill_53178_5 rfl ?_
  refine s_iload_n hZ.1 dJ7_fill_53178_6 rfl ?_
  exact s_icmp_ge dJ7_fill_53178_7 (by decide) (wJ7_fill_53178_20 hZ j hj) (wJ7_fill_53178_10 hZ j hj)
noncomputable def vJ7_fill_53178_0 (j : Nat → rx_K) : rx_K := o_const 0 (o_st rx_isI 2 (o_ld rx_isR 0 (o_alen 0 (o_st rx_isI 3 ((vJ7_fill_53178_5 j))))))
set_option maxRecDepth 20000 in
theorem wJ7_fill_53178_0 (hZ : zO b e D A X) (j : Nat → rx_K) (hj : ∀ k pc, [5][k]? = some pc → rx_OK (zV b e D A X) mJ7_fill_53178 0 pc (j k)) : rx_OK (zV b e D A X) mJ7_fill_53178 0 0 (vJ7_fill_53178_0 j) := by
  unfold vJ7_fill_53178_0
  refine s_iconst dJ7_fill_53178_0 (by decide +kernel) ?_
  refine s_istore_n hZ.1 dJ7_fill_53178_1 rfl (Nat.le_of_ble_eq_true rfl) ?_
  refine s_aload_n hZ.1 dJ7_fill_53178_2 rfl ?_
  refine s_alen (tt := 0) rfl dJ7_fill_53178_3 ?_
  refine s_istore_n hZ.1 dJ7_fill_53178_4 rfl (Nat.le_of_ble_eq_true rfl) ?_
  exact (wJ7_fill_53178_5 hZ j hj)
noncomputable def vhJ7_fill_53178 (j : Nat → rx_K) : List rx_K := [vJ7_fill_53178_5 j]
theorem vlJ7_fill_53178 (hZ : zO b e D A X) : ∀ n k pc, [5][k]? = some pc → rx_OK (zV b e D A X) mJ7_fill_53178 0 pc (rx_J (vhJ7_fill_53178) n k) := rx_loop fun j hj k pc h => by
  match k, h with
  | 0, h =>
    have e9 := Option.some.inj (show some 5 = some pc from h)
    subst e9
    exact wJ7_fill_53178_5 hZ j hj
  | _ + 1, h => exact absurd h (by simp)
noncomputable def FJ7_fill_53178 : List Nat → rx_H → Option (Nat × rx_H) := rx_ent 4 (vJ7_fill_53178_0 (rx_J (vhJ7_fill_53178) 4000000000))
theorem Met_J7_fill_53178 (hZ : zO b e D A X) : rx_Met (zV b e D A X) 0 yJ7_fill_53178 mJ7_fill_53178 (FJ7_fill_53178) := rx_entry hZ.1 (wJ7_fill_53178_0 hZ _ (vlJ7_fill_53178 hZ 4000000000)) (by decide +kernel) rfl (fun h => by cases h)
abbrev mX10_clear : rx_M := (RX10, cX10_clear, 2, none, false)
theorem vy_X10_clear : rx_Y (zV b e D A X) yX10_clear mX10_clear 1 := ⟨zw1219, zw425, by decide, by decide +kernel, by decide +kernel, by decide +kernel⟩
noncomputable def vX10_clear_86 : rx_K := o_putf rx_isR 10 18 (o_ld rx_isR 0 (o_const 0 (o_putf rx_isI 10 19 (o_ld rx_isR 0 (o_const 0 (o_putf rx_isI 10 20 (o_ret0)))))))
set_option maxRecDepth 20000 in
theorem wX10_clear_86 (hZ : zO b e D A X) : rx_OK (zV b e D A X) mX10_clear 1 86 vX10_clear_86 := by
  unfold vX10_clear_86
  refine yp10_18 hZ.1 dX10_clear_86 zw883 ?_
  refine s_aload_n hZ.1 dX10_clear_89 rfl ?_
  refine s_iconst dX10_clear_90 (by decide +kernel) ?_
  refine yp10_19 hZ.1 dX10_clear_91 zw886 ?_
  refine s_aload_n hZ.1 dX10_clear_94 rfl ?_
  refine s_iconst dX10_clear_95 (by decide +kernel) ?_
  refine yp10_20 hZ.1 dX10_clear_96 zw890 ?_
  exact s_vret rfl dX10_clear_99
noncomputable def vX10_clear_42 : rx_K := o_ld rx_isR 0 (o_const 115324555267378511873 (o_putf rx_isL 10 8 (o_ld rx_isR 0 (o_const 147573952589676412897 (o_putf rx_isL 10 9 (o_ld rx_isR 0 (o_getf 10 11 (o_const 0 (o_callS 2 FJ7_fill_53178 (o_ld rx_isR 0 (o_const 0 (o_putf rx_isI 10 13 (o_ld rx_isR 0 (o_const 0 (o_putf rx_isI 10 15 (o_ld rx_isR 0 (o_const 0 (o_putf rx_isI 10 16 (o_ld rx_isR 0 (o_const 0 (o_putf rx_isI 10 17 (o_ld rx_isR 0 (o_const 3 (vX10_clear_86))))))))))))))))))))))))
set_option maxRecDepth 20000 in
theorem wX10_clear_42 (hZ : zO b e D A X) : rx_OK (zV b e D A X) mX10_clear 1 42 vX10_clear_42 := by
  unfold vX10_clear_42
  refine s_aload_n hZ.1 dX10_clear_42 rfl ?_
  refine s_ldc2 dX10_clear_43 zw1221 (by decide +kernel) ?_
  refine yp10_8 hZ.1 dX10_clear_46 zw822 ?_
  refine s_aload_n hZ.1 dX10_clear_49 rfl ?_
  refine s_ldc2 dX10_clear_50 zw1220 (by decide +kernel) ?_
  refine yp10_9 hZ.1 dX10_clear_53 zw829 ?_
  refine s_aload_n hZ.1 dX10_clear_56 rfl ?_
  refine yg10_11 dX10_clear_57 zw838 ?_
  refine s_iconst dX10_clear_60 (by decide +kernel) ?_
  refine s_callS hZ.1 (Met_J7_fill_53178 hZ) (Nat.le_of_ble_eq_true rfl) vy_J7_fill_53178 zw1223 (Or.inl zw1222) dX10_clear_61 ?_
  refine s_aload_n hZ.1 dX10_clear_64 rfl ?_
  refine s_iconst dX10_clear_65 (by decide +kernel) ?_
  refine yp10_13 hZ.1 dX10_clear_66 zw853 ?_
  refine s_aload_n hZ.1 dX10_clear_69 rfl ?_
  refine s_iconst dX10_clear_70 (by decide +kernel) ?_
  refine yp10_15 hZ.1 dX10_clear_71 zw866 ?_
  refine s_aload_n hZ.1 dX10_clear_74 rfl ?_
  refine s_iconst dX10_clear_75 (by decide +kernel) ?_
  refine yp10_16 hZ.1 dX10_clear_76 zw874 ?_
  refine s_aload_n hZ.1 dX10_clear_79 rfl ?_
  refine s_iconst dX10_clear_80 (by decide +kernel) ?_
  refine yp10_17 hZ.1 dX10_clear_81 zw880 ?_
  refine s_aload_n hZ.1 dX10_clear_84 rfl ?_
  refine s_null dX10_clear_85 ?_
  exact (wX10_clear_86 hZ)
noncomputable def vX10_clear_0 : rx_K := o_ld rx_isR 0 (o_ld rx_isR 1 (o_putf rx_isR 10 0 (o_ld rx_isR 0 (o_const 147573952589676412897 (o_putf rx_isL 10 1 (o_ld rx_isR 0 (o_const 0 (o_putf rx_isI 10 2 (o_ld rx_isR 0 (o_const 0 (o_putf rx_isZ 10 3 (o_ld rx_isR 0 (o_const 0 (o_putf rx_isZ 10 4 (o_ld rx_isR 0 (o_const 0 (o_putf rx_isZ 10 5 (o_ld rx_isR 0 (o_const 0 (o_putf rx_isZ 10 6 (o_ld rx_isR 0 (o_const 0 (o_putf rx_isZ 10 7 (vX10_clear_42))))))))))))))))))))))))
set_option maxRecDepth 20000 in
theorem wX10_clear_0 (hZ : zO b e D A X) : rx_OK (zV b e D A X) mX10_clear 1 0 vX10_clear_0 := by
  unfold vX10_clear_0
  refine s_aload_n hZ.1 dX10_clear_0 rfl ?_
  refine s_aload_n hZ.1 dX10_clear_1 rfl ?_
  refine yp10_0 hZ.1 dX10_clear_2 zw765 ?_
  refine s_aload_n hZ.1 dX10_clear_5 rfl ?_
  refine s_ldc2 dX10_clear_6 zw1220 (by decide +kernel) ?_
  refine yp10_1 hZ.1 dX10_clear_9 zw769 ?_
  refine s_aload_n hZ.1 dX10_clear_12 rfl ?_
  refine s_iconst dX10_clear_13 (by decide +kernel) ?_
  refine yp10_2 hZ.1 dX10_clear_14 zw778 ?_
  refine s_aload_n hZ.1 dX10_clear_17 rfl ?_
  refine s_iconst dX10_clear_18 (by decide +kernel) ?_
  refine yp10_3 hZ.1 dX10_clear_19 zw784 ?_
  refine s_aload_n hZ.1 dX10_clear_22 rfl ?_
  refine s_iconst dX10_clear_23 (by decide +kernel) ?_
  refine yp10_4 hZ.1 dX10_clear_24 zw790 ?_
  refine s_aload_n hZ.1 dX10_clear_27 rfl ?_
  refine s_iconst dX10_clear_28 (by decide +kernel) ?_
  refine yp10_5 hZ.1 dX10_clear_29 zw800 ?_
  refine s_aload_n hZ.1 dX10_clear_32 rfl ?_
  refine s_iconst dX10_clear_33 (by decide +kernel) ?_
  refine yp10_6 hZ.1 dX10_clear_34 zw807 ?_
  refine s_aload_n hZ.1 dX10_clear_37 rfl ?_
  refine s_iconst dX10_clear_38 (by decide +kernel) ?_
  refine yp10_7 hZ.1 dX10_clear_39 zw816 ?_
  exact (wX10_clear_42 hZ)
noncomputable def FX10_clear : List Nat → rx_H → Option (Nat × rx_H) := rx_ent 2 vX10_clear_0
theorem Met_X10_clear (hZ : zO b e D A X) : rx_Met (zV b e D A X) 1 yX10_clear mX10_clear (FX10_clear) := rx_entry hZ.1 (wX10_clear_0 hZ) (by decide +kernel) rfl (fun h => by cases h)
end ZM6

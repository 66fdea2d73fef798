section ZM0
variable {b : Nat} {e : Nat → Value} {D : va_G} {A : Nat → ClassId} {X : State → Prop}
abbrev mX0_init : rx_M := (RX0, cX0_init, 1, none, true)
theorem vy_X0_init : rx_Y (zV b e D A X) yX0_init mX0_init 0 := ⟨zw657, zw421, by decide, by decide +kernel, by decide +kernel, by decide +kernel⟩
noncomputable def vX0_init_0 : rx_K := o_ld rx_isR 0 (o_obj (o_ld rx_isR 0 (o_const 5600 (o_newa 1 1 (o_putf rx_isR 0 9 (o_ld rx_isR 0 (o_const 5600 (o_newa 1 1 (o_putf rx_isR 0 10 (o_ld rx_isR 0 (o_const 10240 (o_newa 5 3 (o_putf rx_isR 0 13 (o_ld rx_isR 0 (o_const 1040 (o_newa 0 0 (o_putf rx_isR 0 15 (o_ret0))))))))))))))))))
set_option maxRecDepth 20000 in
theorem wX0_init_0 (hZ : zO b e D A X) : rx_OK (zV b e D A X) mX0_init 1 0 vX0_init_0 := by
  unfold vX0_init_0
  refine s_aload_n hZ.1 dX0_init_0 rfl ?_
  refine s_obj hZ.1 (Nat.le_of_ble_eq_true rfl) zw658 zw440 zw441 dX0_init_1 ?_
  refine s_aload_n hZ.1 dX0_init_4 rfl ?_
  refine s_sipush dX0_init_5 (by decide +kernel) ?_
  refine s_newa (tt := 1) (ty := .long) rfl rfl rfl rfl rfl (by decide) zw528 dX0_init_8 ?_
  refine yp0_9 hZ.1 rfl rfl dX0_init_10 zw672 ?_
  refine s_aload_n hZ.1 dX0_init_13 rfl ?_
  refine s_sipush dX0_init_14 (by decide +kernel) ?_
  refine s_newa (tt := 1) (ty := .long) rfl rfl rfl rfl rfl (by decide) zw528 dX0_init_17 ?_
  refine yp0_10 hZ.1 rfl rfl dX0_init_19 zw673 ?_
  refine s_aload_n hZ.1 dX0_init_22 rfl ?_
  refine s_sipush dX0_init_23 (by decide +kernel) ?_
  refine s_anewa (tt := 5) rfl zw659 (zo_W5 hZ) dX0_init_26 ?_
  refine yp0_13 hZ.1 rfl rfl dX0_init_29 zw676 ?_
  refine s_aload_n hZ.1 dX0_init_32 rfl ?_
  refine s_sipush dX0_init_33 (by decide +kernel) ?_
  refine s_newa (tt := 0) (ty := .int) rfl rfl rfl rfl rfl (by decide) zw527 dX0_init_36 ?_
  refine yp0_15 hZ.1 rfl rfl dX0_init_38 zw678 ?_
  exact s_vret rfl dX0_init_41
noncomputable def FX0_init : List Nat → rx_H → Option (Nat × rx_H) := rx_ent 1 vX0_init_0
theorem Met_X0_init (hZ : zO b e D A X) : rx_Met (zV b e D A X) 1 yX0_init mX0_init (FX0_init) := rx_entry hZ.1 (wX0_init_0 hZ) (by decide +kernel) rfl (fun _ => rfl)
abbrev mX0_fail : rx_M := (RX0, cX0_fail, 3, (some .boolean), false)
theorem vy_X0_fail : rx_Y (zV b e D A X) yX0_fail mX0_fail 2 := ⟨zw2096, zw421, by decide, by decide +kernel, by decide +kernel, by decide +kernel⟩
noncomputable def vX0_fail_17 : rx_K := o_const 0 (o_ret1 rx_isZ)
set_option maxRecDepth 20000 in
theorem wX0_fail_17 (hZ : zO b e D A X) : rx_OK (zV b e D A X) mX0_fail 0 17 vX0_fail_17 := by
  unfold vX0_fail_17
  refine s_iconst dX0_fail_17 (by decide +kernel) ?_
  exact s_zret rx_z_ok rfl dX0_fail_18
noncomputable def vX0_fail_7 : rx_K := o_ld rx_isR 0 (o_ld rx_isI 1 (o_putf rx_isI 0 3 (o_ld rx_isR 0 (o_ld rx_isI 2 (o_putf rx_isI 0 4 (vX0_fail_17))))))
set_option maxRecDepth 20000 in
theorem wX0_fail_7 (hZ : zO b e D A X) : rx_OK (zV b e D A X) mX0_fail 0 7 vX0_fail_7 := by
  unfold vX0_fail_7
  refine s_aload_n hZ.1 dX0_fail_7 rfl ?_
  refine s_iload_n hZ.1 dX0_fail_8 rfl ?_
  refine yp0_3 hZ.1 dX0_fail_9 zw664 ?_
  refine s_aload_n hZ.1 dX0_fail_12 rfl ?_
  refine s_iload_n hZ.1 dX0_fail_13 rfl ?_
  refine yp0_4 hZ.1 dX0_fail_14 zw666 ?_
  exact (wX0_fail_17 hZ)
noncomputable def vX0_fail_0 : rx_K := o_ld rx_isR 0 (o_getf 0 3 (o_c1 rx_eq vX0_fail_7 vX0_fail_17))
set_option maxRecDepth 20000 in
theorem wX0_fail_0 (hZ : zO b e D A X) : rx_OK (zV b e D A X) mX0_fail 0 0 vX0_fail_0 := by
  unfold vX0_fail_0
  refine s_aload_n hZ.1 dX0_fail_0 rfl ?_
  refine yg0_3 dX0_fail_1 zw664 ?_
  exact s_if_ne dX0_fail_4 (by decide) (wX0_fail_17 hZ) (wX0_fail_7 hZ)
noncomputable def FX0_fail : List Nat → rx_H → Option (Nat × rx_H) := rx_ent 3 vX0_fail_0
theorem Met_X0_fail (hZ : zO b e D A X) : rx_Met (zV b e D A X) 0 yX0_fail mX0_fail (FX0_fail) := rx_entry hZ.1 (wX0_fail_0 hZ) (by decide +kernel) rfl (fun h => by cases h)
abbrev mX0_ends : rx_M := (RX0, cX0_ends, 2, (some .boolean), false)
theorem vy_X0_ends : rx_Y (zV b e D A X) yX0_ends mX0_ends 1 := ⟨zw2218, zw421, by decide, by decide +kernel, by decide +kernel, by decide +kernel⟩
abbrev vl0 : List (MethodName × rx_M) := [(yX0_ends, mX0_ends)]
noncomputable def vX0_ends_141 (g : Nat → List Nat → rx_H → Option (Nat × rx_H)) (j : Nat → rx_K) : rx_K := o_const 8 (o_ret1 rx_isZ)
set_option maxRecDepth 20000 in
theorem wX0_ends_141 {dn : Nat} {g : Nat → List Nat → rx_H → Option (Nat × rx_H)} (hZ : zO b e D A X) (hg : ∀ i y M, vl0[i]? = some (y, M) → rx_Met (zV b e D A X) dn y M (g i)) (hd : 0 ≤ dn) (j : Nat → rx_K) (hj : ∀ k pc, [59][k]? = some pc → rx_OK (zV b e D A X) mX0_ends (dn + 1) pc (j k)) : rx_OK (zV b e D A X) mX0_ends (dn + 1) 141 (vX0_ends_141 g j) := by
  unfold vX0_ends_141
  refine s_iconst dX0_ends_141 (by decide +kernel) ?_
  exact s_zret rx_z_ok rfl dX0_ends_142
noncomputable def vX0_ends_140 (g : Nat → List Nat → rx_H → Option (Nat × rx_H)) (j : Nat → rx_K) : rx_K := o_ret1 rx_isZ
set_option maxRecDepth 20000 in
theorem wX0_ends_140 {dn : Nat} {g : Nat → List Nat → rx_H → Option (Nat × rx_H)} (hZ : zO b e D A X) (hg : ∀ i y M, vl0[i]? = some (y, M) → rx_Met (zV b e D A X) dn y M (g i)) (hd : 0 ≤ dn) (j : Nat → rx_K) (hj : ∀ k pc, [59][k]? = some pc → rx_OK (zV b e D A X) mX0_ends (dn + 1) pc (j k)) : rx_OK (zV b e D A X) mX0_ends (dn + 1) 140 (vX0_ends_140 g j) := by
  unfold vX0_ends_140
  exact s_zret rx_z_ok rfl dX0_ends_140
noncomputable def vX0_ends_139 (g : Nat → List Nat → rx_H → Option (Nat × rx_H)) (j : Nat → rx_K) : rx_K := o_const 0 ((vX0_ends_140 g j))
set_option maxRecDepth 20000 in
theorem wX0_ends_139 {dn : Nat} {g : Nat → List Nat → rx_H → Option (Nat × rx_H)} (hZ : zO b e D A X) (hg : ∀ i y M, vl0[i]? = some (y, M) → rx_Met (zV b e D A X) dn y M (g i)) (hd : 0 ≤ dn) (j : Nat → rx_K) (hj : ∀ k pc, [59][k]? = some pc → rx_OK (zV b e D A X) mX0_ends (dn + 1) pc (j k)) : rx_OK (zV b e D A X) mX0_ends (dn + 1) 139 (vX0_ends_139 g j) := by
  unfold vX0_ends_139
  refine s_iconst dX0_ends_139 (by decide +kernel) ?_
  exact (wX0_ends_140 hZ hg hd j hj)
noncomputable def vX0_ends_135 (g : Nat → List Nat → rx_H → Option (Nat × rx_H)) (j : Nat → rx_K) : rx_K := o_const 8 ((vX0_ends_140 g j))
set_option maxRecDepth 20000 in
theorem wX0_ends_135 {dn : Nat} {g : Nat → List Nat → rx_H → Option (Nat × rx_H)} (hZ : zO b e D A X) (hg : ∀ i y M, vl0[i]? = some (y, M) → rx_Met (zV b e D A X) dn y M (g i)) (hd : 0 ≤ dn) (j : Nat → rx_K) (hj : ∀ k pc, [59][k]? = some pc → rx_OK (zV b e D A X) mX0_ends (dn + 1) pc (j k)) : rx_OK (zV b e D A X) mX0_ends (dn + 1) 135 (vX0_ends_135 g j) := by
  unfold vX0_ends_135
  refine s_iconst dX0_ends_135 (by decide +kernel) ?_
  exact s_goto dX0_ends_136 (by decide) (wX0_ends_140 hZ hg hd j hj)
noncomputable def vX0_ends_125 (g : Nat → List Nat → rx_H → Option (Nat × rx_H)) (j : Nat → rx_K) : rx_K := o_ld rx_isR 0 (o_getf 8 6 (o_callS 1 (g 0) (o_c1 rx_eq (vX0_ends_139 g j) (vX0_ends_135 g j))))
set_option maxRecDepth 20000 in
theorem wX0_ends_125 {dn : Nat} {g : Nat → List Nat → rx_H → Option (Nat × rx_H)} (hZ : zO b e D A X) (hg : ∀ i y M, vl0[i]? = some (y, M) → rx_Met (zV b e D A X) dn y M (g i)) (hd : 0 ≤ dn) (j : Nat → rx_K) (hj : ∀ k pc, [59][k]? = some pc → rx_OK (zV b e D A X) mX0_ends (dn + 1) pc (j k)) : rx_OK (zV b e D A X) mX0_ends (dn + 1) 125 (vX0_ends_125 g j) := by
  unfold vX0_ends_125
  refine s_aload_n hZ.1 dX0_ends_125 rfl ?_
  refine yg8_6 dX0_ends_126 zw479 ?_
  refine s_callS hZ.1 (hg 0 _ _ rfl) (Nat.le_refl _) vy_X0_ends zw2217 (Or.inl zw2216) dX0_ends_129 ?_
  exact s_if_eq dX0_ends_132 (by decide) (wX0_ends_139 hZ hg hd j hj) (wX0_ends_135 hZ hg hd j hj)
noncomputable def vX0_ends_115 (g : Nat → List Nat → rx_H → Option (Nat × rx_H)) (j : Nat → rx_K) : rx_K := o_ld rx_isR 0 (o_getf 8 5 (o_callS 1 (g 0) (o_c1 rx_eq (vX0_ends_125 g j) (vX0_ends_135 g j))))
set_option maxRecDepth 20000 in
theorem wX0_ends_115 {dn : Nat} {g : Nat → List Nat → rx_H → Option (Nat × rx_H)} (hZ : zO b e D A X) (hg : ∀ i y M, vl0[i]? = some (y, M) → rx_Met (zV b e D A X) dn y M (g i)) (hd : 0 ≤ dn) (j : Nat → rx_K) (hj : ∀ k pc, [59][k]? = some pc → rx_OK (zV b e D A X) mX0_ends (dn + 1) pc (j k)) : rx_OK (zV b e D A X) mX0_ends (dn + 1) 115 (vX0_ends_115 g j) := by
  unfold vX0_ends_115
  refine s_aload_n hZ.1 dX0_ends_115 rfl ?_
  refine yg8_5 dX0_ends_116 zw475 ?_
  refine s_callS hZ.1 (hg 0 _ _ rfl) (Nat.le_refl _) vy_X0_ends zw2217 (Or.inl zw2216) dX0_ends_119 ?_
  exact s_if_ne dX0_ends_122 (by decide) (wX0_ends_135 hZ hg hd j hj) (wX0_ends_125 hZ hg hd j hj)
noncomputable def vX0_ends_114 (g : Nat → List Nat → rx_H → Option (Nat × rx_H)) (j : Nat → rx_K) : rx_K := o_ret1 rx_isZ
set_option maxRecDepth 20000 in
theorem wX0_ends_114 {dn : Nat} {g : Nat → List Nat → rx_H → Option (Nat × rx_H)} (hZ : zO b e D A X) (hg : ∀ i y M, vl0[i]? = some (y, M) → rx_Met (zV b e D A X) dn y M (g i)) (hd : 0 ≤ dn) (j : Nat → rx_K) (hj : ∀ k pc, [59][k]? = some pc → rx_OK (zV b e D A X) mX0_ends (dn + 1) pc (j k)) : rx_OK (zV b e D A X) mX0_ends (dn + 1) 114 (vX0_ends_114 g j) := by
  unfold vX0_ends_114
  exact s_zret rx_z_ok rfl dX0_ends_114
noncomputable def vX0_ends_113 (g : Nat → List Nat → rx_H → Option (Nat × rx_H)) (j : Nat → rx_K) : rx_K := o_const 0 ((vX0_ends_114 g j))
set_option maxRecDepth 20000 in
theorem wX0_ends_113 {dn : Nat} {g : Nat → List Nat → rx_H → Option (Nat × rx_H)} (hZ : zO b e D A X) (hg : ∀ i y M, vl0[i]? = some (y, M) → rx_Met (zV b e D A X) dn y M (g i)) (hd : 0 ≤ dn) (j : Nat → rx_K) (hj : ∀ k pc, [59][k]? = some pc → rx_OK (zV b e D A X) mX0_ends (dn + 1) pc (j k)) : rx_OK (zV b e D A X) mX0_ends (dn + 1) 113 (vX0_ends_113 g j) := by
  unfold vX0_ends_113
  refine s_iconst dX0_ends_113 (by decide +kernel) ?_
  exact (wX0_ends_114 hZ hg hd j hj)
noncomputable def vX0_ends_109 (g : Nat → List Nat → rx_H → Option (Nat × rx_H)) (j : Nat → rx_K) : rx_K := o_const 8 ((vX0_ends_114 g j))
set_option maxRecDepth 20000 in
theorem wX0_ends_109 {dn : Nat} {g : Nat → List Nat → rx_H → Option (Nat × rx_H)} (hZ : zO b e D A X) (hg : ∀ i y M, vl0[i]? = some (y, M) → rx_Met (zV b e D A X) dn y M (g i)) (hd : 0 ≤ dn) (j : Nat → rx_K) (hj : ∀ k pc, [59][k]? = some pc → rx_OK (zV b e D A X) mX0_ends (dn + 1) pc (j k)) : rx_OK (zV b e D A X) mX0_ends (dn + 1) 109 (vX0_ends_109 g j) := by
  unfold vX0_ends_109
  refine s_iconst dX0_ends_109 (by decide +kernel) ?_
  exact s_goto dX0_ends_110 (by decide) (wX0_ends_114 hZ hg hd j hj)
noncomputable def vX0_ends_99 (g : Nat → List Nat → rx_H → Option (Nat × rx_H)) (j : Nat → rx_K) : rx_K := o_ld rx_isR 0 (o_getf 8 7 (o_callS 1 (g 0) (o_c1 rx_eq (vX0_ends_113 g j) (vX0_ends_109 g j))))
set_option maxRecDepth 20000 in
theorem wX0_ends_99 {dn : Nat} {g : Nat → List Nat → rx_H → Option (Nat × rx_H)} (hZ : zO b e D A X) (hg : ∀ i y M, vl0[i]? = some (y, M) → rx_Met (zV b e D A X) dn y M (g i)) (hd : 0 ≤ dn) (j : Nat → rx_K) (hj : ∀ k pc, [59][k]? = some pc → rx_OK (zV b e D A X) mX0_ends (dn + 1) pc (j k)) : rx_OK (zV b e D A X) mX0_ends (dn + 1) 99 (vX0_ends_99 g j) := by
  unfold vX0_ends_99
  refine s_aload_n hZ.1 dX0_ends_99 rfl ?_
  refine yg8_7 dX0_ends_100 zw484 ?_
  refine s_callS hZ.1 (hg 0 _ _ rfl) (Nat.le_refl _) vy_X0_ends zw2217 (Or.inl zw2216) dX0_ends_103 ?_
  exact s_if_eq dX0_ends_106 (by decide) (wX0_ends_113 hZ hg hd j hj) (wX0_ends_109 hZ hg hd j hj)
noncomputable def vX0_ends_89 (g : Nat → List Nat → rx_H → Option (Nat × rx_H)) (j : Nat → rx_K) : rx_K := o_ld rx_isR 0 (o_getf 8 6 (o_callS 1 (g 0) (o_c1 rx_eq (vX0_ends_99 g j) (vX0_ends_109 g j))))
set_option maxRecDepth 20000 in
theorem wX0_ends_89 {dn : Nat} {g : Nat → List Nat → rx_H → Option (Nat × rx_H)} (hZ : zO b e D A X) (hg : ∀ i y M, vl0[i]? = some (y, M) → rx_Met (zV b e D A X) dn y M (g i)) (hd : 0 ≤ dn) (j : Nat → rx_K) (hj : ∀ k pc, [59][k]? = some pc → rx_OK (zV b e D A X) mX0_ends (dn + 1) pc (j k)) : rx_OK (zV b e D A X) mX0_ends (dn + 1) 89 (vX0_ends_89 g j) := by
  unfold vX0_ends_89
  refine s_aload_n hZ.1 dX0_ends_89 rfl ?_
  refine yg8_6 dX0_ends_90 zw479 ?_
  refine s_callS hZ.1 (hg 0 _ _ rfl) (Nat.le_refl _) vy_X0_ends zw2217 (Or.inl zw2216) dX0_ends_93 ?_
  exact s_if_ne dX0_ends_96 (by decide) (wX0_ends_109 hZ hg hd j hj) (wX0_ends_99 hZ hg hd j hj)
noncomputable def vX0_ends_82 (g : Nat → List Nat → rx_H → Option (Nat × rx_H)) (j : Nat → rx_K) : rx_K := o_ld rx_isR 0 (o_getf 8 7 (o_nul (vX0_ends_109 g j) (vX0_ends_89 g j)))
set_option maxRecDepth 20000 in
theorem wX0_ends_82 {dn : Nat} {g : Nat → List Nat → rx_H → Option (Nat × rx_H)} (hZ : zO b e D A X) (hg : ∀ i y M, vl0[i]? = some (y, M) → rx_Met (zV b e D A X) dn y M (g i)) (hd : 0 ≤ dn) (j : Nat → rx_K) (hj : ∀ k pc, [59][k]? = some pc → rx_OK (zV b e D A X) mX0_ends (dn + 1) pc (j k)) : rx_OK (zV b e D A X) mX0_ends (dn + 1) 82 (vX0_ends_82 g j) := by
  unfold vX0_ends_82
  refine s_aload_n hZ.1 dX0_ends_82 rfl ?_
  refine yg8_7 dX0_ends_83 zw484 ?_
  exact s_ifnull dX0_ends_86 (by decide) (wX0_ends_109 hZ hg hd j hj) (wX0_ends_89 hZ hg hd j hj)
noncomputable def vX0_ends_80 (g : Nat → List Nat → rx_H → Option (Nat × rx_H)) (j : Nat → rx_K) : rx_K := o_const 8 (o_ret1 rx_isZ)
set_option maxRecDepth 20000 in
theorem wX0_ends_80 {dn : Nat} {g : Nat → List Nat → rx_H → Option (Nat × rx_H)} (hZ : zO b e D A X) (hg : ∀ i y M, vl0[i]? = some (y, M) → rx_Met (zV b e D A X) dn y M (g i)) (hd : 0 ≤ dn) (j : Nat → rx_K) (hj : ∀ k pc, [59][k]? = some pc → rx_OK (zV b e D A X) mX0_ends (dn + 1) pc (j k)) : rx_OK (zV b e D A X) mX0_ends (dn + 1) 80 (vX0_ends_80 g j) := by
  unfold vX0_ends_80
  refine s_iconst dX0_ends_80 (by decide +kernel) ?_
  exact s_zret rx_z_ok rfl dX0_ends_81
noncomputable def vX0_ends_72 (g : Nat → List Nat → rx_H → Option (Nat × rx_H)) (j : Nat → rx_K) : rx_K := o_ld rx_isR 1 (o_getf 8 8 (o_st rx_isR 1 ((j 0))))
set_option maxRecDepth 20000 in
theorem wX0_ends_72 {dn : Nat} {g : Nat → List Nat → rx_H → Option (Nat × rx_H)} (hZ : zO b e D A X) (hg : ∀ i y M, vl0[i]? = some (y, M) → rx_Met (zV b e D A X) dn y M (g i)) (hd : 0 ≤ dn) (j : Nat → rx_K) (hj : ∀ k pc, [59][k]? = some pc → rx_OK (zV b e D A X) mX0_ends (dn + 1) pc (j k)) : rx_OK (zV b e D A X) mX0_ends (dn + 1) 72 (vX0_ends_72 g j) := by
  unfold vX0_ends_72
  refine s_aload_n hZ.1 dX0_ends_72 rfl ?_
  refine yg8_8 dX0_ends_73 zw487 ?_
  refine s_astore_n hZ.1 dX0_ends_76 rfl (Nat.le_of_ble_eq_true rfl) ?_
  exact s_goto dX0_ends_77 (by decide) (hj 0 59 rfl)
noncomputable def vX0_ends_70 (g : Nat → List Nat → rx_H → Option (Nat × rx_H)) (j : Nat → rx_K) : rx_K := o_const 0 (o_ret1 rx_isZ)
set_option maxRecDepth 20000 in
theorem wX0_ends_70 {dn : Nat} {g : Nat → List Nat → rx_H → Option (Nat × rx_H)} (hZ : zO b e D A X) (hg : ∀ i y M, vl0[i]? = some (y, M) → rx_Met (zV b e D A X) dn y M (g i)) (hd : 0 ≤ dn) (j : Nat → rx_K) (hj : ∀ k pc, [59][k]? = some pc → rx_OK (zV b e D A X) mX0_ends (dn + 1) pc (j k)) : rx_OK (zV b e D A X) mX0_ends (dn + 1) 70 (vX0_ends_70 g j) := by
  unfold vX0_ends_70
  refine s_iconst dX0_ends_70 (by decide +kernel) ?_
  exact s_zret rx_z_ok rfl dX0_ends_71
noncomputable def vX0_ends_63 (g : Nat → List Nat → rx_H → Option (Nat × rx_H)) (j : Nat → rx_K) : rx_K := o_ld rx_isR 1 (o_callS 1 (g 0) (o_c1 rx_eq (vX0_ends_70 g j) (vX0_ends_72 g j)))
set_option maxRecDepth 20000 in
theorem wX0_ends_63 {dn : Nat} {g : Nat → List Nat → rx_H → Option (Nat × rx_H)} (hZ : zO b e D A X) (hg : ∀ i y M, vl0[i]? = some (y, M) → rx_Met (zV b e D A X) dn y M (g i)) (hd : 0 ≤ dn) (j : Nat → rx_K) (hj : ∀ k pc, [59][k]? = some pc → rx_OK (zV b e D A X) mX0_ends (dn + 1) pc (j k)) : rx_OK (zV b e D A X) mX0_ends (dn + 1) 63 (vX0_ends_63 g j) := by
  unfold vX0_ends_63
  refine s_aload_n hZ.1 dX0_ends_63 rfl ?_
  refine s_callS hZ.1 (hg 0 _ _ rfl) (Nat.le_refl _) vy_X0_ends zw2217 (Or.inl zw2216) dX0_ends_64 ?_
  exact s_if_ne dX0_ends_67 (by decide) (wX0_ends_72 hZ hg hd j hj) (wX0_ends_70 hZ hg hd j hj)
noncomputable def vX0_ends_59 (g : Nat → List Nat → rx_H → Option (Nat × rx_H)) (j : Nat → rx_K) : rx_K := o_ld rx_isR 1 (o_nul (vX0_ends_80 g j) (vX0_ends_63 g j))
set_option maxRecDepth 20000 in
theorem wX0_ends_59 {dn : Nat} {g : Nat → List Nat → rx_H → Option (Nat × rx_H)} (hZ : zO b e D A X) (hg : ∀ i y M, vl0[i]? = some (y, M) → rx_Met (zV b e D A X) dn y M (g i)) (hd : 0 ≤ dn) (j : Nat → rx_K) (hj : ∀ k pc, [59][k]? = some pc → rx_OK (zV b e D A X) mX0_ends (dn + 1) pc (j k)) : rx_OK (zV b e D A X) mX0_ends (dn + 1) 59 (vX0_ends_59 g j) := by
  unfold vX0_ends_59
  refine s_aload_n hZ.1 dX0_ends_59 rfl ?_
  exact s_ifnull dX0_ends_60 (by decide) (wX0_ends_80 hZ hg hd j hj) (wX0_ends_63 hZ hg hd j hj)
noncomputable def vX0_ends_54 (g : Nat → List Nat → rx_H → Option (Nat × rx_H)) (j : Nat → rx_K) : rx_K := o_ld rx_isR 0 (o_getf 8 5 (o_st rx_isR 1 ((vX0_ends_59 g j))))
set_option maxRecDepth 20000 in
theorem wX0_ends_54 {dn : Nat} {g : Nat → List Nat → rx_H → Option (Nat × rx_H)} (hZ : zO b e D A X) (hg : ∀ i y M, vl0[i]? = some (y, M) → rx_Met (zV b e D A X) dn y M (g i)) (hd : 0 ≤ dn) (j : Nat → rx_K) (hj : ∀ k pc, [59][k]? = some pc → rx_OK (zV b e D A X) mX0_ends (dn + 1) pc (j k)) : rx_OK (zV b e D A X) mX0_ends (dn + 1) 54 (vX0_ends_54 g j) := by
  unfold vX0_ends_54
  refine s_aload_n hZ.1 dX0_ends_54 rfl ?_
  refine yg8_5 dX0_ends_55 zw475 ?_
  refine s_astore_n hZ.1 dX0_ends_58 rfl (Nat.le_of_ble_eq_true rfl) ?_
  exact (wX0_ends_59 hZ hg hd j hj)
noncomputable def vX0_ends_52 (g : Nat → List Nat → rx_H → Option (Nat × rx_H)) (j : Nat → rx_K) : rx_K := o_const 0 (o_ret1 rx_isZ)
set_option maxRecDepth 20000 in
theorem wX0_ends_52 {dn : Nat} {g : Nat → List Nat → rx_H → Option (Nat × rx_H)} (hZ : zO b e D A X) (hg : ∀ i y M, vl0[i]? = some (y, M) → rx_Met (zV b e D A X) dn y M (g i)) (hd : 0 ≤ dn) (j : Nat → rx_K) (hj : ∀ k pc, [59][k]? = some pc → rx_OK (zV b e D A X) mX0_ends (dn + 1) pc (j k)) : rx_OK (zV b e D A X) mX0_ends (dn + 1) 52 (vX0_ends_52 g j) := by
  unfold vX0_ends_52
  refine s_iconst dX0_ends_52 (by decide +kernel) ?_
  exact s_zret rx_z_ok rfl dX0_ends_53
noncomputable def vX0_ends_6 (g : Nat → List Nat → rx_H → Option (Nat × rx_H)) (j : Nat → rx_K) : rx_K := o_ld rx_isR 0 (o_getf 8 0 (o_sw 30 [54, 141, 82, 141, 52, 52, 115] 141 (rx_pk [(52, (vX0_ends_52 g j)), (54, (vX0_ends_54 g j)), (82, (vX0_ends_82 g j)), (115, (vX0_ends_115 g j)), (141, (vX0_ends_141 g j))])))
set_option maxRecDepth 20000 in
theorem wX0_ends_6 {dn : Nat} {g : Nat → List Nat → rx_H → Option (Nat × rx_H)} (hZ : zO b e D A X) (hg : ∀ i y M, vl0[i]? = some (y, M) → rx_Met (zV b e D A X) dn y M (g i)) (hd : 0 ≤ dn) (j : Nat → rx_K) (hj : ∀ k pc, [59][k]? = some pc → rx_OK (zV b e D A X) mX0_ends (dn + 1) pc (j k)) : rx_OK (zV b e D A X) mX0_ends (dn + 1) 6 (vX0_ends_6 g j) := by
  unfold vX0_ends_6
  refine s_aload_n hZ.1 dX0_ends_6 rfl ?_
  refine yg8_0 dX0_ends_7 zw458 ?_
  exact s_sw dX0_ends_10 (by decide) (by decide) (by decide) (by decide) (by decide) (fun b _ => (rx_pk_ok (List.forall_mem_cons.mpr ⟨(wX0_ends_52 hZ hg hd j hj), List.forall_mem_cons.mpr ⟨(wX0_ends_54 hZ hg hd j hj), List.forall_mem_cons.mpr ⟨(wX0_ends_82 hZ hg hd j hj), List.forall_mem_cons.mpr ⟨(wX0_ends_115 hZ hg hd j hj), List.forall_mem_cons.mpr ⟨(wX0_ends_141 hZ hg hd j hj), fun _ h => absurd h List.not_mem_nil⟩⟩⟩⟩⟩)) b)
noncomputable def vX0_ends_4 (g : Nat → List Nat → rx_H → Option (Nat × rx_H)) (j : Nat → rx_K) : rx_K := o_const 8 (o_ret1 rx_isZ)
set_option maxRecDepth 20000 in
theorem wX0_ends_4 {dn : Nat} {g : Nat → List Nat → rx_H → Option (Nat × rx_H)} (hZ : zO b e D A X) (hg : ∀ i y M, vl0[i]? = some (y, M) → rx_Met (zV b e D A X) dn y M (g i)) (hd : 0 ≤ dn) (j : Nat → rx_K) (hj : ∀ k pc, [59][k]? = some pc → rx_OK (zV b e D A X) mX0_ends (dn + 1) pc (j k)) : rx_OK (zV b e D A X) mX0_ends (dn + 1) 4 (vX0_ends_4 g j) := by
  unfold vX0_ends_4
  refine s_iconst dX0_ends_4 (by decide +kernel) ?_
  exact s_zret rx_z_ok rfl dX0_ends_5
noncomputable def vX0_ends_0 (g : Nat → List Nat → rx_H → Option (Nat × rx_H)) (j : Nat → rx_K) : rx_K := o_ld rx_isR 0 (o_nul (vX0_ends_4 g j) (vX0_ends_6 g j))
set_option maxRecDepth 20000 in
theorem wX0_ends_0 {dn : Nat} {g : Nat → List Nat → rx_H → Option (Nat × rx_H)} (hZ : zO b e D A X) (hg : ∀ i y M, vl0[i]? = some (y, M) → rx_Met (zV b e D A X) dn y M (g i)) (hd : 0 ≤ dn) (j : Nat → rx_K) (hj : ∀ k pc, [59][k]? = some pc → rx_OK (zV b e D A X) mX0_ends (dn + 1) pc (j k)) : rx_OK (zV b e D A X) mX0_ends (dn + 1) 0 (vX0_ends_0 g j) := by
  unfold vX0_ends_0
  refine s_aload_n hZ.1 dX0_ends_0 rfl ?_
  exact s_ifnonnull dX0_ends_1 (by decide) (wX0_ends_6 hZ hg hd j hj) (wX0_ends_4 hZ hg hd j hj)
noncomputable def vhX0_ends (g : Nat → List Nat → rx_H → Option (Nat × rx_H)) (j : Nat → rx_K) : List rx_K := [vX0_ends_59 g j]
theorem vlX0_ends {dn : Nat} {g : Nat → List Nat → rx_H → Option (Nat × rx_H)} (hZ : zO b e D A X) (hg : ∀ i y M, vl0[i]? = some (y, M) → rx_Met (zV b e D A X) dn y M (g i)) (hd : 0 ≤ dn) : ∀ n k pc, [59][k]? = some pc → rx_OK (zV b e D A X) mX0_ends (dn + 1) pc (rx_J (vhX0_ends g) n k) := rx_loop fun j hj k pc h => by
  match k, h with
  | 0, h =>
    have e9 := Option.some.inj (show some 59 = some pc from h)
    subst e9
    exact wX0_ends_59 hZ hg hd j hj
  | _ + 1, h => exact absurd h (by simp)
noncomputable def FX0_ends (g : Nat → List Nat → rx_H → Option (Nat × rx_H)) : List Nat → rx_H → Option (Nat × rx_H) := rx_ent 2 (vX0_ends_0 g (rx_J (vhX0_ends g) 4000000000))
theorem Met_X0_ends {dn : Nat} {g : Nat → List Nat → rx_H → Option (Nat × rx_H)} (hZ : zO b e D A X) (hg : ∀ i y M, vl0[i]? = some (y, M) → rx_Met (zV b e D A X) dn y M (g i)) (hd : 0 ≤ dn) : rx_Met (zV b e D A X) (dn + 1) yX0_ends mX0_ends (FX0_ends g) := rx_entry hZ.1 (wX0_ends_0 hZ hg hd _ (vlX0_ends hZ hg hd 4000000000)) (by decide +kernel) rfl (fun h => by cases h)
noncomputable def q0 (n : Nat) : Nat → List Nat → rx_H → Option (Nat × rx_H) := Nat.rec (fun _ _ _ => none) (fun _ ih i => rx_nth [FX0_ends ih] i (fun _ _ => none)) n
theorem q0_ok (hZ : zO b e D A X) : ∀ n i y M, vl0[i]? = some (y, M) → rx_Met (zV b e D A X) (0 + n) y M (q0 n i)
  | 0 => fun i y M _ As h r h2 hf => by cases hf
  | n + 1 => fun i y M h => by
    match i, h with
    | 0, h => cases h; exact Met_X0_ends hZ (q0_ok hZ n) (Nat.le_add_right 0 n)
    | _ + 1, h => exact absurd h (by simp)
abbrev mX0_calls : rx_M := (RX0, cX0_calls, 4, (some .boolean), false)
theorem vy_X0_calls : rx_Y (zV b e D A X) yX0_calls mX0_calls 3 := ⟨zw2135, zw421, by decide, by decide +kernel, by decide +kernel, by decide +kernel⟩
noncomputable def vX0_calls_15 : rx_K := o_ld rx_isR 1 (o_ld rx_isR 3 (o_putf rx_isR 8 11 (o_ld rx_isR 1 (o_ld rx_isR 3 (o_getf 7 8 (o_putf rx_isL 8 9 (o_ld rx_isR 1 (o_ld rx_isR 0 (o_getf 0 0 (o_getf 11 1 (o_ld rx_isI 2 (o_ald 4 (o_getf 10 1 (o_putf rx_isL 8 10 (o_const 8 (o_ret1 rx_isZ))))))))))))))))
set_option maxRecDepth 20000 in
theorem wX0_calls_15 (hZ : zO b e D A X) : rx_OK (zV b e D A X) mX0_calls 1 15 vX0_calls_15 := by
  unfold vX0_calls_15
  refine s_aload_n hZ.1 dX0_calls_15 rfl ?_
  refine s_aload_n hZ.1 dX0_calls_16 rfl ?_
  refine yp8_11 hZ.1 dX0_calls_17 zw500 ?_
  refine s_aload_n hZ.1 dX0_calls_20 rfl ?_
  refine s_aload_n hZ.1 dX0_calls_21 rfl ?_
  refine yg7_8 dX0_calls_22 zw1013 ?_
  refine yp8_9 hZ.1 dX0_calls_25 zw492 ?_
  refine s_aload_n hZ.1 dX0_calls_28 rfl ?_
  refine s_aload_n hZ.1 dX0_calls_29 rfl ?_
  refine yg0_0 dX0_calls_30 zw661 ?_
  refine yg11_1 dX0_calls_33 zw1257 ?_
  refine s_iload_n hZ.1 dX0_calls_36 rfl ?_
  refine s_aald (tt := 4) rfl rfl dX0_calls_37 ?_
  refine yg10_1 dX0_calls_38 zw771 ?_
  refine yp8_10 hZ.1 dX0_calls_41 zw495 ?_
  refine s_iconst dX0_calls_44 (by decide +kernel) ?_
  exact s_zret rx_z_ok rfl dX0_calls_45
noncomputable def vX0_calls_4 : rx_K := o_ld rx_isR 0 (o_const 96 (o_ld rx_isR 1 (o_getf 8 2 (o_callV 2 0 FX0_fail (o_ret1 rx_isZ)))))
set_option maxRecDepth 20000 in
theorem wX0_calls_4 (hZ : zO b e D A X) : rx_OK (zV b e D A X) mX0_calls 1 4 vX0_calls_4 := by
  unfold vX0_calls_4
  refine s_aload_n hZ.1 dX0_calls_4 rfl ?_
  refine s_bipush dX0_calls_5 (by decide +kernel) ?_
  refine s_aload_n hZ.1 dX0_calls_7 rfl ?_
  refine yg8_2 dX0_calls_8 zw465 ?_
  refine s_callV hZ.1 (Met_X0_fail hZ) (Nat.le_of_ble_eq_true rfl) vy_X0_fail zcl0 zw2095 zw65 (Or.inl zw2093) dX0_calls_11 ?_
  exact s_zret rx_z_ok rfl dX0_calls_14
noncomputable def vX0_calls_0 : rx_K := o_ld rx_isR 3 (o_nul vX0_calls_4 vX0_calls_15)
set_option maxRecDepth 20000 in
theorem wX0_calls_0 (hZ : zO b e D A X) : rx_OK (zV b e D A X) mX0_calls 1 0 vX0_calls_0 := by
  unfold vX0_calls_0
  refine s_aload_n hZ.1 dX0_calls_0 rfl ?_
  exact s_ifnonnull dX0_calls_1 (by decide) (wX0_calls_15 hZ) (wX0_calls_4 hZ)
noncomputable def FX0_calls : List Nat → rx_H → Option (Nat × rx_H) := rx_ent 4 vX0_calls_0
theorem Met_X0_calls (hZ : zO b e D A X) : rx_Met (zV b e D A X) 1 yX0_calls mX0_calls (FX0_calls) := rx_entry hZ.1 (wX0_calls_0 hZ) (by decide +kernel) rfl (fun h => by cases h)
abbrev mX11_fits : rx_M := (RX11, cX11_fits, 8, (some .boolean), false)
theorem vy_X11_fits : rx_Y (zV b e D A X) yX11_fits mX11_fits 2 := ⟨zw1980, zw423, by decide, by decide +kernel, by decide +kernel, by decide +kernel⟩
noncomputable def vX11_fits_226 (j : Nat → rx_K) : rx_K := o_ret1 rx_isZ
set_option maxRecDepth 20000 in
theorem wX11_fits_226 (hZ : zO b e D A X) (j : Nat → rx_K) (hj : ∀ k pc, [113][k]? = some pc → rx_OK (zV b e D A X) mX11_fits 0 pc (j k)) : rx_OK (zV b e D A X) mX11_fits 0 226 (vX11_fits_226 j) := by
  unfold vX11_fits_226
  exact s_zret rx_z_ok rfl dX11_fits_226
noncomputable def vX11_fits_225 (j : Nat → rx_K) : rx_K := o_const 0 ((vX11_fits_226 j))
set_option maxRecDepth 20000 in
theorem wX11_fits_225 (hZ : zO b e D A X) (j : Nat → rx_K) (hj : ∀ k pc, [113][k]? = some pc → rx_OK (zV b e D A X) mX11_fits 0 pc (j k)) : rx_OK (zV b e D A X) mX11_fits 0 225 (vX11_fits_225 j) := by
  unfold vX11_fits_225
  refine s_iconst dX11_fits_225 (by decide +kernel) ?_
  exact (wX11_fits_226 hZ j hj)
noncomputable def vX11_fits_221 (j : Nat → rx_K) : rx_K := o_const 8 ((vX11_fits_226 j))
set_option maxRecDepth 20000 in
theorem wX11_fits_221 (hZ : zO b e D A X) (j : Nat → rx_K) (hj : ∀ k pc, [113][k]? = some pc → rx_OK (zV b e D A X) mX11_fits 0 pc (j k)) : rx_OK (zV b e D A X) mX11_fits 0 221 (vX11_fits_221 j) := by
  unfold vX11_fits_221
  refine s_iconst dX11_fits_221 (by decide +kernel) ?_
  exact s_goto dX11_fits_222 (by decide) (wX11_fits_226 hZ j hj)
noncomputable def vX11_fits_208 (j : Nat → rx_K) : rx_K := o_ld rx_isR 0 (o_getf 11 1 (o_ld rx_isI 5 (o_ald 4 (o_getf 10 4 (o_c1 rx_eq (vX11_fits_225 j) (vX11_fits_221 j))))))
set_option maxRecDepth 20000 in
theorem wX11_fits_208 (hZ : zO b e D A X) (j : Nat → rx_K) (hj : ∀ k pc, [113][k]? = some pc → rx_OK (zV b e D A X) mX11_fits 0 pc (j k)) : rx_OK (zV b e D A X) mX11_fits 0 208 (vX11_fits_208 j) := by
  unfold vX11_fits_208
  refine s_aload_n hZ.1 dX11_fits_208 rfl ?_
  refine yg11_1 dX11_fits_209 zw1252 ?_
  refine s_iload hZ.1 dX11_fits_212 ?_
  refine s_aald (tt := 4) rfl rfl dX11_fits_214 ?_
  refine yg10_4 dX11_fits_215 zw793 ?_
  exact s_if_eq dX11_fits_218 (by decide) (wX11_fits_225 hZ j hj) (wX11_fits_221 hZ j hj)
noncomputable def vX11_fits_203 (j : Nat → rx_K) : rx_K := o_ld rx_isI 6 (o_c1 rx_eq (vX11_fits_208 j) (vX11_fits_225 j))
set_option maxRecDepth 20000 in
theorem wX11_fits_203 (hZ : zO b e D A X) (j : Nat → rx_K) (hj : ∀ k pc, [113][k]? = some pc → rx_OK (zV b e D A X) mX11_fits 0 pc (j k)) : rx_OK (zV b e D A X) mX11_fits 0 203 (vX11_fits_203 j) := by
  unfold vX11_fits_203
  refine s_iload hZ.1 dX11_fits_203 ?_
  exact s_if_ne dX11_fits_205 (by decide) (wX11_fits_225 hZ j hj) (wX11_fits_208 hZ j hj)
noncomputable def vX11_fits_186 (j : Nat → rx_K) : rx_K := o_ld rx_isR 0 (o_getf 11 9 (o_ld rx_isI 5 (o_ald 1 (o_ld rx_isI 6 (o_bs (fun x y => (x.toUInt64 >>> (y.toInt64.toUInt64 &&& Int64.toUInt64 63)).toInt64) (o_const 9 (o_bl (fun x y => x &&& y) (o_const 1 (o_bc (fun x y => lg_cmp x y) (o_c1 rx_eq (vX11_fits_203 j) (vX11_fits_221 j)))))))))))
set_option maxRecDepth 20000 in
theorem wX11_fits_186 (hZ : zO b e D A X) (j : Nat → rx_K) (hj : ∀ k pc, [113][k]? = some pc → rx_OK (zV b e D A X) mX11_fits 0 pc (j k)) : rx_OK (zV b e D A X) mX11_fits 0 186 (vX11_fits_186 j) := by
  unfold vX11_fits_186
  refine s_aload_n hZ.1 dX11_fits_186 rfl ?_
  refine yg11_9 dX11_fits_187 zw1281 ?_
  refine s_iload hZ.1 dX11_fits_190 ?_
  refine s_lald (tt := 1) rfl dX11_fits_192 ?_
  refine s_iload hZ.1 dX11_fits_193 ?_
  refine s_lushr dX11_fits_195 ?_
  refine s_lconst dX11_fits_196 (by decide +kernel) ?_
  refine s_land dX11_fits_197 ?_
  refine s_lconst dX11_fits_198 (by decide +kernel) ?_
  refine s_lcmp dX11_fits_199 ?_
  exact s_if_ne dX11_fits_200 (by decide) (wX11_fits_221 hZ j hj) (wX11_fits_203 hZ j hj)
noncomputable def vX11_fits_181 (j : Nat → rx_K) : rx_K := o_ld rx_isI 6 (o_c1 rx_lt (vX11_fits_225 j) (vX11_fits_186 j))
set_option maxRecDepth 20000 in
theorem wX11_fits_181 (hZ : zO b e D A X) (j : Nat → rx_K) (hj : ∀ k pc, [113][k]? = some pc → rx_OK (zV b e D A X) mX11_fits 0 pc (j k)) : rx_OK (zV b e D A X) mX11_fits 0 181 (vX11_fits_181 j) := by
  unfold vX11_fits_181
  refine s_iload hZ.1 dX11_fits_181 ?_
  exact s_if_lt dX11_fits_183 (by decide) (wX11_fits_225 hZ j hj) (wX11_fits_186 hZ j hj)
noncomputable def vX11_fits_176 (j : Nat → rx_K) : rx_K := o_ld rx_isI 5 (o_c1 rx_lt (vX11_fits_225 j) (vX11_fits_181 j))
set_option maxRecDepth 20000 in
theorem wX11_fits_176 (hZ : zO b e D A X) (j : Nat → rx_K) (hj : ∀ k pc, [113][k]? = some pc → rx_OK (zV b e D A X) mX11_fits 0 pc (j k)) : rx_OK (zV b e D A X) mX11_fits 0 176 (vX11_fits_176 j) := by
  unfold vX11_fits_176
  refine s_iload hZ.1 dX11_fits_176 ?_
  exact s_if_lt dX11_fits_178 (by decide) (wX11_fits_225 hZ j hj) (wX11_fits_181 hZ j hj)
noncomputable def vX11_fits_168 (j : Nat → rx_K) : rx_K := o_st rx_isI 6 (o_inc 7 (1) ((j 0)))
set_option maxRecDepth 20000 in
theorem wX11_fits_168 (hZ : zO b e D A X) (j : Nat → rx_K) (hj : ∀ k pc, [113][k]? = some pc → rx_OK (zV b e D A X) mX11_fits 0 pc (j k)) : rx_OK (zV b e D A X) mX11_fits 0 168 (vX11_fits_168 j) := by
  unfold vX11_fits_168
  refine s_istore hZ.1 dX11_fits_168 (Nat.le_of_ble_eq_true rfl) ?_
  refine s_iinc hZ.1 dX11_fits_170 (Nat.le_of_ble_eq_true rfl) ?_
  exact s_goto dX11_fits_173 (by decide) (hj 0 113 rfl)
noncomputable def vX11_fits_166 (j : Nat → rx_K) : rx_K := o_ld rx_isI 6 ((vX11_fits_168 j))
set_option maxRecDepth 20000 in
theorem wX11_fits_166 (hZ : zO b e D A X) (j : Nat → rx_K) (hj : ∀ k pc, [113][k]? = some pc → rx_OK (zV b e D A X) mX11_fits 0 pc (j k)) : rx_OK (zV b e D A X) mX11_fits 0 166 (vX11_fits_166 j) := by
  unfold vX11_fits_166
  refine s_iload hZ.1 dX11_fits_166 ?_
  exact (wX11_fits_168 hZ j hj)
noncomputable def vX11_fits_161 (j : Nat → rx_K) : rx_K := o_ld rx_isI 7 ((vX11_fits_168 j))
set_option maxRecDepth 20000 in
theorem wX11_fits_161 (hZ : zO b e D A X) (j : Nat → rx_K) (hj : ∀ k pc, [113][k]? = some pc → rx_OK (zV b e D A X) mX11_fits 0 pc (j k)) : rx_OK (zV b e D A X) mX11_fits 0 161 (vX11_fits_161 j) := by
  unfold vX11_fits_161
  refine s_iload hZ.1 dX11_fits_161 ?_
  exact s_goto dX11_fits_163 (by decide) (wX11_fits_168 hZ j hj)
noncomputable def vX11_fits_144 (j : Nat → rx_K) : rx_K := o_st rx_isI 5 (o_ld rx_isR 0 (o_getf 11 1 (o_ld rx_isI 7 (o_ald 4 (o_getf 10 1 (o_ld rx_isL 3 (o_bc (fun x y => lg_cmp x y) (o_c1 rx_eq (vX11_fits_161 j) (vX11_fits_166 j)))))))))
set_option maxRecDepth 20000 in
theorem wX11_fits_144 (hZ : zO b e D A X) (j : Nat → rx_K) (hj : ∀ k pc, [113][k]? = some pc → rx_OK (zV b e D A X) mX11_fits 0 pc (j k)) : rx_OK (zV b e D A X) mX11_fits 0 144 (vX11_fits_144 j) := by
  unfold vX11_fits_144
  refine s_istore hZ.1 dX11_fits_144 (Nat.le_of_ble_eq_true rfl) ?_
  refine s_aload_n hZ.1 dX11_fits_146 rfl ?_
  refine yg11_1 dX11_fits_147 zw1252 ?_
  refine s_iload hZ.1 dX11_fits_150 ?_
  refine s_aald (tt := 4) rfl rfl dX11_fits_152 ?_
  refine yg10_1 dX11_fits_153 zw768 ?_
  refine s_lload_n hZ.1 dX11_fits_156 rfl ?_
  refine s_lcmp dX11_fits_157 ?_
  exact s_if_ne dX11_fits_158 (by decide) (wX11_fits_166 hZ j hj) (wX11_fits_161 hZ j hj)
noncomputable def vX11_fits_142 (j : Nat → rx_K) : rx_K := o_ld rx_isI 5 ((vX11_fits_144 j))
set_option maxRecDepth 20000 in
theorem wX11_fits_142 (hZ : zO b e D A X) (j : Nat → rx_K) (hj : ∀ k pc, [113][k]? = some pc → rx_OK (zV b e D A X) mX11_fits 0 pc (j k)) : rx_OK (zV b e D A X) mX11_fits 0 142 (vX11_fits_142 j) := by
  unfold vX11_fits_142
  refine s_iload hZ.1 dX11_fits_142 ?_
  exact (wX11_fits_144 hZ j hj)
noncomputable def vX11_fits_137 (j : Nat → rx_K) : rx_K := o_ld rx_isI 7 ((vX11_fits_144 j))
set_option maxRecDepth 20000 in
theorem wX11_fits_137 (hZ : zO b e D A X) (j : Nat → rx_K) (hj : ∀ k pc, [113][k]? = some pc → rx_OK (zV b e D A X) mX11_fits 0 pc (j k)) : rx_OK (zV b e D A X) mX11_fits 0 137 (vX11_fits_137 j) := by
  unfold vX11_fits_137
  refine s_iload hZ.1 dX11_fits_137 ?_
  exact s_goto dX11_fits_139 (by decide) (wX11_fits_144 hZ j hj)
noncomputable def vX11_fits_122 (j : Nat → rx_K) : rx_K := o_ld rx_isR 0 (o_getf 11 1 (o_ld rx_isI 7 (o_ald 4 (o_getf 10 1 (o_ld rx_isL 1 (o_bc (fun x y => lg_cmp x y) (o_c1 rx_eq (vX11_fits_137 j) (vX11_fits_142 j))))))))
set_option maxRecDepth 20000 in
theorem wX11_fits_122 (hZ : zO b e D A X) (j : Nat → rx_K) (hj : ∀ k pc, [113][k]? = some pc → rx_OK (zV b e D A X) mX11_fits 0 pc (j k)) : rx_OK (zV b e D A X) mX11_fits 0 122 (vX11_fits_122 j) := by
  unfold vX11_fits_122
  refine s_aload_n hZ.1 dX11_fits_122 rfl ?_
  refine yg11_1 dX11_fits_123 zw1252 ?_
  refine s_iload hZ.1 dX11_fits_126 ?_
  refine s_aald (tt := 4) rfl rfl dX11_fits_128 ?_
  refine yg10_1 dX11_fits_129 zw768 ?_
  refine s_lload_n hZ.1 dX11_fits_132 rfl ?_
  refine s_lcmp dX11_fits_133 ?_
  exact s_if_ne dX11_fits_134 (by decide) (wX11_fits_142 hZ j hj) (wX11_fits_137 hZ j hj)
noncomputable def vX11_fits_113 (j : Nat → rx_K) : rx_K := o_ld rx_isI 7 (o_ld rx_isR 0 (o_getf 11 2 (o_c2 rx_lt (vX11_fits_122 j) (vX11_fits_176 j))))
set_option maxRecDepth 20000 in
theorem wX11_fits_113 (hZ : zO b e D A X) (j : Nat → rx_K) (hj : ∀ k pc, [113][k]? = some pc → rx_OK (zV b e D A X) mX11_fits 0 pc (j k)) : rx_OK (zV b e D A X) mX11_fits 0 113 (vX11_fits_113 j) := by
  unfold vX11_fits_113
  refine s_iload hZ.1 dX11_fits_113 ?_
  refine s_aload_n hZ.1 dX11_fits_115 rfl ?_
  refine yg11_2 dX11_fits_116 zw1260 ?_
  exact s_icmp_ge dX11_fits_119 (by decide) (wX11_fits_176 hZ j hj) (wX11_fits_122 hZ j hj)
noncomputable def vX11_fits_108 (j : Nat → rx_K) : rx_K := o_st rx_isI 6 (o_const 16 (o_st rx_isI 7 ((vX11_fits_113 j))))
set_option maxRecDepth 20000 in
theorem wX11_fits_108 (hZ : zO b e D A X) (j : Nat → rx_K) (hj : ∀ k pc, [113][k]? = some pc → rx_OK (zV b e D A X) mX11_fits 0 pc (j k)) : rx_OK (zV b e D A X) mX11_fits 0 108 (vX11_fits_108 j) := by
  unfold vX11_fits_108
  refine s_istore hZ.1 dX11_fits_108 (Nat.le_of_ble_eq_true rfl) ?_
  refine s_iconst dX11_fits_110 (by decide +kernel) ?_
  refine s_istore hZ.1 dX11_fits_111 (Nat.le_of_ble_eq_true rfl) ?_
  exact (wX11_fits_113 hZ j hj)
noncomputable def vX11_fits_106 (j : Nat → rx_K) : rx_K := o_const 34359738352 ((vX11_fits_108 j))
set_option maxRecDepth 20000 in
theorem wX11_fits_106 (hZ : zO b e D A X) (j : Nat → rx_K) (hj : ∀ k pc, [113][k]? = some pc → rx_OK (zV b e D A X) mX11_fits 0 pc (j k)) : rx_OK (zV b e D A X) mX11_fits 0 106 (vX11_fits_106 j) := by
  unfold vX11_fits_106
  refine s_bipush dX11_fits_106 (by decide +kernel) ?_
  exact (wX11_fits_108 hZ j hj)
noncomputable def vX11_fits_102 (j : Nat → rx_K) : rx_K := o_const 8 ((vX11_fits_108 j))
set_option maxRecDepth 20000 in
theorem wX11_fits_102 (hZ : zO b e D A X) (j : Nat → rx_K) (hj : ∀ k pc, [113][k]? = some pc → rx_OK (zV b e D A X) mX11_fits 0 pc (j k)) : rx_OK (zV b e D A X) mX11_fits 0 102 (vX11_fits_102 j) := by
  unfold vX11_fits_102
  refine s_iconst dX11_fits_102 (by decide +kernel) ?_
  exact s_goto dX11_fits_103 (by decide) (wX11_fits_108 hZ j hj)
noncomputable def vX11_fits_94 (j : Nat → rx_K) : rx_K := o_ld rx_isL 3 (o_const 116472515775520833537 (o_bc (fun x y => lg_cmp x y) (o_c1 rx_eq (vX11_fits_102 j) (vX11_fits_106 j))))
set_option maxRecDepth 20000 in
theorem wX11_fits_94 (hZ : zO b e D A X) (j : Nat → rx_K) (hj : ∀ k pc, [113][k]? = some pc → rx_OK (zV b e D A X) mX11_fits 0 pc (j k)) : rx_OK (zV b e D A X) mX11_fits 0 94 (vX11_fits_94 j) := by
  unfold vX11_fits_94
  refine s_lload_n hZ.1 dX11_fits_94 rfl ?_
  refine s_ldc2 dX11_fits_95 zw1247 (by decide +kernel) ?_
  refine s_lcmp dX11_fits_98 ?_
  exact s_if_ne dX11_fits_99 (by decide) (wX11_fits_106 hZ j hj) (wX11_fits_102 hZ j hj)
noncomputable def vX11_fits_90 (j : Nat → rx_K) : rx_K := o_const 0 ((vX11_fits_108 j))
set_option maxRecDepth 20000 in
theorem wX11_fits_90 (hZ : zO b e D A X) (j : Nat → rx_K) (hj : ∀ k pc, [113][k]? = some pc → rx_OK (zV b e D A X) mX11_fits 0 pc (j k)) : rx_OK (zV b e D A X) mX11_fits 0 90 (vX11_fits_90 j) := by
  unfold vX11_fits_90
  refine s_iconst dX11_fits_90 (by decide +kernel) ?_
  exact s_goto dX11_fits_91 (by decide) (wX11_fits_108 hZ j hj)
noncomputable def vX11_fits_80 (j : Nat → rx_K) : rx_K := o_st rx_isI 5 (o_ld rx_isL 3 (o_const 115324555267378511873 (o_bc (fun x y => lg_cmp x y) (o_c1 rx_eq (vX11_fits_90 j) (vX11_fits_94 j)))))
set_option maxRecDepth 20000 in
theorem wX11_fits_80 (hZ : zO b e D A X) (j : Nat → rx_K) (hj : ∀ k pc, [113][k]? = some pc → rx_OK (zV b e D A X) mX11_fits 0 pc (j k)) : rx_OK (zV b e D A X) mX11_fits 0 80 (vX11_fits_80 j) := by
  unfold vX11_fits_80
  refine s_istore hZ.1 dX11_fits_80 (Nat.le_of_ble_eq_true rfl) ?_
  refine s_lload_n hZ.1 dX11_fits_82 rfl ?_
  refine s_ldc2 dX11_fits_83 zw1225 (by decide +kernel) ?_
  refine s_lcmp dX11_fits_86 ?_
  exact s_if_ne dX11_fits_87 (by decide) (wX11_fits_94 hZ j hj) (wX11_fits_90 hZ j hj)
noncomputable def vX11_fits_78 (j : Nat → rx_K) : rx_K := o_const 34359738352 ((vX11_fits_80 j))
set_option maxRecDepth 20000 in
theorem wX11_fits_78 (hZ : zO b e D A X) (j : Nat → rx_K) (hj : ∀ k pc, [113][k]? = some pc → rx_OK (zV b e D A X) mX11_fits 0 pc (j k)) : rx_OK (zV b e D A X) mX11_fits 0 78 (vX11_fits_78 j) := by
  unfold vX11_fits_78
  refine s_bipush dX11_fits_78 (by decide +kernel) ?_
  exact (wX11_fits_80 hZ j hj)
noncomputable def vX11_fits_74 (j : Nat → rx_K) : rx_K := o_const 8 ((vX11_fits_80 j))
set_option maxRecDepth 20000 in
theorem wX11_fits_74 (hZ : zO b e D A X) (j : Nat → rx_K) (hj : ∀ k pc, [113][k]? = some pc → rx_OK (zV b e D A X) mX11_fits 0 pc (j k)) : rx_OK (zV b e D A X) mX11_fits 0 74 (vX11_fits_74 j) := by
  unfold vX11_fits_74
  refine s_iconst dX11_fits_74 (by decide +kernel) ?_
  exact s_goto dX11_fits_75 (by decide) (wX11_fits_80 hZ j hj)
noncomputable def vX11_fits_66 (j : Nat → rx_K) : rx_K := o_ld rx_isL 1 (o_const 116472515775520833537 (o_bc (fun x y => lg_cmp x y) (o_c1 rx_eq (vX11_fits_74 j) (vX11_fits_78 j))))
set_option maxRecDepth 20000 in
theorem wX11_fits_66 (hZ : zO b e D A X) (j : Nat → rx_K) (hj : ∀ k pc, [113][k]? = some pc → rx_OK (zV b e D A X) mX11_fits 0 pc (j k)) : rx_OK (zV b e D A X) mX11_fits 0 66 (vX11_fits_66 j) := by
  unfold vX11_fits_66
  refine s_lload_n hZ.1 dX11_fits_66 rfl ?_
  refine s_ldc2 dX11_fits_67 zw1247 (by decide +kernel) ?_
  refine s_lcmp dX11_fits_70 ?_
  exact s_if_ne dX11_fits_71 (by decide) (wX11_fits_78 hZ j hj) (wX11_fits_74 hZ j hj)
noncomputable def vX11_fits_62 (j : Nat → rx_K) : rx_K := o_const 0 ((vX11_fits_80 j))
set_option maxRecDepth 20000 in
theorem wX11_fits_62 (hZ : zO b e D A X) (j : Nat → rx_K) (hj : ∀ k pc, [113][k]? = some pc → rx_OK (zV b e D A X) mX11_fits 0 pc (j k)) : rx_OK (zV b e D A X) mX11_fits 0 62 (vX11_fits_62 j) := by
  unfold vX11_fits_62
  refine s_iconst dX11_fits_62 (by decide +kernel) ?_
  exact s_goto dX11_fits_63 (by decide) (wX11_fits_80 hZ j hj)
noncomputable def vX11_fits_54 (j : Nat → rx_K) : rx_K := o_ld rx_isL 1 (o_const 115324555267378511873 (o_bc (fun x y => lg_cmp x y) (o_c1 rx_eq (vX11_fits_62 j) (vX11_fits_66 j))))
set_option maxRecDepth 20000 in
theorem wX11_fits_54 (hZ : zO b e D A X) (j : Nat → rx_K) (hj : ∀ k pc, [113][k]? = some pc → rx_OK (zV b e D A X) mX11_fits 0 pc (j k)) : rx_OK (zV b e D A X) mX11_fits 0 54 (vX11_fits_54 j) := by
  unfold vX11_fits_54
  refine s_lload_n hZ.1 dX11_fits_54 rfl ?_
  refine s_ldc2 dX11_fits_55 zw1225 (by decide +kernel) ?_
  refine s_lcmp dX11_fits_58 ?_
  exact s_if_ne dX11_fits_59 (by decide) (wX11_fits_66 hZ j hj) (wX11_fits_62 hZ j hj)
noncomputable def vX11_fits_52 (j : Nat → rx_K) : rx_K := o_const 8 (o_ret1 rx_isZ)
set_option maxRecDepth 20000 in
theorem wX11_fits_52 (hZ : zO b e D A X) (j : Nat → rx_K) (hj : ∀ k pc, [113][k]? = some pc → rx_OK (zV b e D A X) mX11_fits 0 pc (j k)) : rx_OK (zV b e D A X) mX11_fits 0 52 (vX11_fits_52 j) := by
  unfold vX11_fits_52
  refine s_iconst dX11_fits_52 (by decide +kernel) ?_
  exact s_zret rx_z_ok rfl dX11_fits_53
noncomputable def vX11_fits_44 (j : Nat → rx_K) : rx_K := o_ld rx_isL 1 (o_const 147573952589676412913 (o_bc (fun x y => lg_cmp x y) (o_c1 rx_eq (vX11_fits_52 j) (vX11_fits_54 j))))
set_option maxRecDepth 20000 in
theorem wX11_fits_44 (hZ : zO b e D A X) (j : Nat → rx_K) (hj : ∀ k pc, [113][k]? = some pc → rx_OK (zV b e D A X) mX11_fits 0 pc (j k)) : rx_OK (zV b e D A X) mX11_fits 0 44 (vX11_fits_44 j) := by
  unfold vX11_fits_44
  refine s_lload_n hZ.1 dX11_fits_44 rfl ?_
  refine s_ldc2 dX11_fits_45 zw1982 (by decide +kernel) ?_
  refine s_lcmp dX11_fits_48 ?_
  exact s_if_ne dX11_fits_49 (by decide) (wX11_fits_54 hZ j hj) (wX11_fits_52 hZ j hj)
noncomputable def vX11_fits_42 (j : Nat → rx_K) : rx_K := o_const 0 (o_ret1 rx_isZ)
set_option maxRecDepth 20000 in
theorem wX11_fits_42 (hZ : zO b e D A X) (j : Nat → rx_K) (hj : ∀ k pc, [113][k]? = some pc → rx_OK (zV b e D A X) mX11_fits 0 pc (j k)) : rx_OK (zV b e D A X) mX11_fits 0 42 (vX11_fits_42 j) := by
  unfold vX11_fits_42
  refine s_iconst dX11_fits_42 (by decide +kernel) ?_
  exact s_zret rx_z_ok rfl dX11_fits_43
noncomputable def vX11_fits_34 (j : Nat → rx_K) : rx_K := o_ld rx_isL 3 (o_const 147573952589676412921 (o_bc (fun x y => lg_cmp x y) (o_c1 rx_eq (vX11_fits_42 j) (vX11_fits_44 j))))
set_option maxRecDepth 20000 in
theorem wX11_fits_34 (hZ : zO b e D A X) (j : Nat → rx_K) (hj : ∀ k pc, [113][k]? = some pc → rx_OK (zV b e D A X) mX11_fits 0 pc (j k)) : rx_OK (zV b e D A X) mX11_fits 0 34 (vX11_fits_34 j) := by
  unfold vX11_fits_34
  refine s_lload_n hZ.1 dX11_fits_34 rfl ?_
  refine s_ldc2 dX11_fits_35 zw1249 (by decide +kernel) ?_
  refine s_lcmp dX11_fits_38 ?_
  exact s_if_ne dX11_fits_39 (by decide) (wX11_fits_44 hZ j hj) (wX11_fits_42 hZ j hj)
noncomputable def vX11_fits_26 (j : Nat → rx_K) : rx_K := o_ld rx_isL 1 (o_const 147573952589676412921 (o_bc (fun x y => lg_cmp x y) (o_c1 rx_eq (vX11_fits_42 j) (vX11_fits_34 j))))
set_option maxRecDepth 20000 in
theorem wX11_fits_26 (hZ : zO b e D A X) (j : Nat → rx_K) (hj : ∀ k pc, [113][k]? = some pc → rx_OK (zV b e D A X) mX11_fits 0 pc (j k)) : rx_OK (zV b e D A X) mX11_fits 0 26 (vX11_fits_26 j) := by
  unfold vX11_fits_26
  refine s_lload_n hZ.1 dX11_fits_26 rfl ?_
  refine s_ldc2 dX11_fits_27 zw1249 (by decide +kernel) ?_
  refine s_lcmp dX11_fits_30 ?_
  exact s_if_eq dX11_fits_31 (by decide) (wX11_fits_42 hZ j hj) (wX11_fits_34 hZ j hj)
noncomputable def vX11_fits_24 (j : Nat → rx_K) : rx_K := o_const 8 (o_ret1 rx_isZ)
set_option maxRecDepth 20000 in
theorem wX11_fits_24 (hZ : zO b e D A X) (j : Nat → rx_K) (hj : ∀ k pc, [113][k]? = some pc → rx_OK (zV b e D A X) mX11_fits 0 pc (j k)) : rx_OK (zV b e D A X) mX11_fits 0 24 (vX11_fits_24 j) := by
  unfold vX11_fits_24
  refine s_iconst dX11_fits_24 (by decide +kernel) ?_
  exact s_zret rx_z_ok rfl dX11_fits_25
noncomputable def vX11_fits_18 (j : Nat → rx_K) : rx_K := o_ld rx_isL 1 (o_ld rx_isL 3 (o_bc (fun x y => lg_cmp x y) (o_c1 rx_eq (vX11_fits_24 j) (vX11_fits_26 j))))
set_option maxRecDepth 20000 in
theorem wX11_fits_18 (hZ : zO b e D A X) (j : Nat → rx_K) (hj : ∀ k pc, [113][k]? = some pc → rx_OK (zV b e D A X) mX11_fits 0 pc (j k)) : rx_OK (zV b e D A X) mX11_fits 0 18 (vX11_fits_18 j) := by
  unfold vX11_fits_18
  refine s_lload_n hZ.1 dX11_fits_18 rfl ?_
  refine s_lload_n hZ.1 dX11_fits_19 rfl ?_
  refine s_lcmp dX11_fits_20 ?_
  exact s_if_ne dX11_fits_21 (by decide) (wX11_fits_26 hZ j hj) (wX11_fits_24 hZ j hj)
noncomputable def vX11_fits_16 (j : Nat → rx_K) : rx_K := o_const 0 (o_ret1 rx_isZ)
set_option maxRecDepth 20000 in
theorem wX11_fits_16 (hZ : zO b e D A X) (j : Nat → rx_K) (hj : ∀ k pc, [113][k]? = some pc → rx_OK (zV b e D A X) mX11_fits 0 pc (j k)) : rx_OK (zV b e D A X) mX11_fits 0 16 (vX11_fits_16 j) := by
  unfold vX11_fits_16
  refine s_iconst dX11_fits_16 (by decide +kernel) ?_
  exact s_zret rx_z_ok rfl dX11_fits_17
noncomputable def vX11_fits_8 (j : Nat → rx_K) : rx_K := o_ld rx_isL 3 (o_const 147573952589676412905 (o_bc (fun x y => lg_cmp x y) (o_c1 rx_eq (vX11_fits_16 j) (vX11_fits_18 j))))
set_option maxRecDepth 20000 in
theorem wX11_fits_8 (hZ : zO b e D A X) (j : Nat → rx_K) (hj : ∀ k pc, [113][k]? = some pc → rx_OK (zV b e D A X) mX11_fits 0 pc (j k)) : rx_OK (zV b e D A X) mX11_fits 0 8 (vX11_fits_8 j) := by
  unfold vX11_fits_8
  refine s_lload_n hZ.1 dX11_fits_8 rfl ?_
  refine s_ldc2 dX11_fits_9 zw1981 (by decide +kernel) ?_
  refine s_lcmp dX11_fits_12 ?_
  exact s_if_ne dX11_fits_13 (by decide) (wX11_fits_18 hZ j hj) (wX11_fits_16 hZ j hj)
noncomputable def vX11_fits_0 (j : Nat → rx_K) : rx_K := o_ld rx_isL 1 (o_const 147573952589676412905 (o_bc (fun x y => lg_cmp x y) (o_c1 rx_eq (vX11_fits_16 j) (vX11_fits_8 j))))
set_option maxRecDepth 20000 in
theorem wX11_fits_0 (hZ : zO b e D A X) (j : Nat → rx_K) (hj : ∀ k pc, [113][k]? = some pc → rx_OK (zV b e D A X) mX11_fits 0 pc (j k)) : rx_OK (zV b e D A X) mX11_fits 0 0 (vX11_fits_0 j) := by
  unfold vX11_fits_0
  refine s_lload_n hZ.1 dX11_fits_0 rfl ?_
  refine s_ldc2 dX11_fits_1 zw1981 (by decide +kernel) ?_
  refine s_lcmp dX11_fits_4 ?_
  exact s_if_eq dX11_fits_5 (by decide) (wX11_fits_16 hZ j hj) (wX11_fits_8 hZ j hj)
noncomputable def vhX11_fits (j : Nat → rx_K) : List rx_K := [vX11_fits_113 j]
theorem vlX11_fits (hZ : zO b e D A X) : ∀ n k pc, [113][k]? = some pc → rx_OK (zV b e D A X) mX11_fits 0 pc (rx_J (vhX11_fits) n k) := rx_loop fun j hj k pc h => by
  match k, h with
  | 0, h =>
    have e9 := Option.some.inj (show some 113 = some pc from h)
    subst e9
    exact wX11_fits_113 hZ j hj
  | _ + 1, h => exact absurd h (by simp)
noncomputable def FX11_fits : List Nat → rx_H → Option (Nat × rx_H) := rx_ent 8 (vX11_fits_0 (rx_J (vhX11_fits) 4000000000))
theorem Met_X11_fits (hZ : zO b e D A X) : rx_Met (zV b e D A X) 0 yX11_fits mX11_fits (FX11_fits) := rx_entry hZ.1 (wX11_fits_0 hZ _ (vlX11_fits hZ 4000000000)) (by decide +kernel) rfl (fun h => by cases h)
abbrev mX0_wanted : rx_M := (RX0, cX0_wanted, 4, (some .boolean), false)
theorem vy_X0_wanted : rx_Y (zV b e D A X) yX0_wanted mX0_wanted 2 := ⟨zw2169, zw421, by decide, by decide +kernel, by decide +kernel, by decide +kernel⟩
noncomputable def vX0_wanted_33 : rx_K := o_ret1 rx_isZ
set_option maxRecDepth 20000 in
theorem wX0_wanted_33 (hZ : zO b e D A X) : rx_OK (zV b e D A X) mX0_wanted 1 33 vX0_wanted_33 := by
  unfold vX0_wanted_33
  exact s_zret rx_z_ok rfl dX0_wanted_33
noncomputable def vX0_wanted_32 : rx_K := o_const 0 (vX0_wanted_33)
set_option maxRecDepth 20000 in
theorem wX0_wanted_32 (hZ : zO b e D A X) : rx_OK (zV b e D A X) mX0_wanted 1 32 vX0_wanted_32 := by
  unfold vX0_wanted_32
  refine s_iconst dX0_wanted_32 (by decide +kernel) ?_
  exact (wX0_wanted_33 hZ)
noncomputable def vX0_wanted_28 : rx_K := o_const 8 (vX0_wanted_33)
set_option maxRecDepth 20000 in
theorem wX0_wanted_28 (hZ : zO b e D A X) : rx_OK (zV b e D A X) mX0_wanted 1 28 vX0_wanted_28 := by
  unfold vX0_wanted_28
  refine s_iconst dX0_wanted_28 (by decide +kernel) ?_
  exact s_goto dX0_wanted_29 (by decide) (wX0_wanted_33 hZ)
noncomputable def vX0_wanted_15 : rx_K := o_ld rx_isR 0 (o_const 104 (o_ld rx_isR 1 (o_getf 8 1 (o_callV 2 0 FX0_fail (o_c1 rx_eq vX0_wanted_32 vX0_wanted_28)))))
set_option maxRecDepth 20000 in
theorem wX0_wanted_15 (hZ : zO b e D A X) : rx_OK (zV b e D A X) mX0_wanted 1 15 vX0_wanted_15 := by
  unfold vX0_wanted_15
  refine s_aload_n hZ.1 dX0_wanted_15 rfl ?_
  refine s_bipush dX0_wanted_16 (by decide +kernel) ?_
  refine s_aload_n hZ.1 dX0_wanted_18 rfl ?_
  refine yg8_1 dX0_wanted_19 zw462 ?_
  refine s_callV hZ.1 (Met_X0_fail hZ) (Nat.le_of_ble_eq_true rfl) vy_X0_fail zcl0 zw2095 zw65 (Or.inl zw2093) dX0_wanted_22 ?_
  exact s_if_eq dX0_wanted_25 (by decide) (wX0_wanted_32 hZ) (wX0_wanted_28 hZ)
noncomputable def vX0_wanted_0 : rx_K := o_ld rx_isR 0 (o_getf 0 0 (o_ld rx_isR 1 (o_getf 8 9 (o_ld rx_isL 2 (o_callV 2 11 FX11_fits (o_c1 rx_eq vX0_wanted_15 vX0_wanted_28))))))
set_option maxRecDepth 20000 in
theorem wX0_wanted_0 (hZ : zO b e D A X) : rx_OK (zV b e D A X) mX0_wanted 1 0 vX0_wanted_0 := by
  unfold vX0_wanted_0
  refine s_aload_n hZ.1 dX0_wanted_0 rfl ?_
  refine yg0_0 dX0_wanted_1 zw661 ?_
  refine s_aload_n hZ.1 dX0_wanted_4 rfl ?_
  refine yg8_9 dX0_wanted_5 zw492 ?_
  refine s_lload_n hZ.1 dX0_wanted_8 rfl ?_
  refine s_callV hZ.1 (Met_X11_fits hZ) (Nat.le_of_ble_eq_true rfl) vy_X11_fits zcl11 zw1978 zw1979 (Or.inl zw2130) dX0_wanted_9 ?_
  exact s_if_ne dX0_wanted_12 (by decide) (wX0_wanted_28 hZ) (wX0_wanted_15 hZ)
noncomputable def FX0_wanted : List Nat → rx_H → Option (Nat × rx_H) := rx_ent 4 vX0_wanted_0
theorem Met_X0_wanted (hZ : zO b e D A X) : rx_Met (zV b e D A X) 1 yX0_wanted mX0_wanted (FX0_wanted) := rx_entry hZ.1 (wX0_wanted_0 hZ) (by decide +kernel) rfl (fun h => by cases h)
abbrev mX10_field : rx_M := (RX10, cX10_field, 7, (some (.object "LinkHouse$Member")), false)
theorem vy_X10_field : rx_Y (zV b e D A X) yX10_field mX10_field 2 := ⟨zw2070, zw425, by decide, by decide +kernel, by decide +kernel, by decide +kernel⟩
noncomputable def vX10_field_66 (j : Nat → rx_K) : rx_K := o_const 3 (o_ret1 rx_isR)
set_option maxRecDepth 20000 in
theorem wX10_field_66 (hZ : zO b e D A X) (j : Nat → rx_K) (hj : ∀ k pc, [3][k]? = some pc → rx_OK (zV b e D A X) mX10_field 0 pc (j k)) : rx_OK (zV b e D A X) mX10_field 0 66 (vX10_field_66 j) := by
  unfold vX10_field_66
  refine s_null dX10_field_66 ?_
  exact s_aret hZ.1 rfl (Or.inl ⟨_, rfl⟩) dX10_field_67
noncomputable def vX10_field_60 (j : Nat → rx_K) : rx_K := o_inc 5 (1) ((j 0))
set_option maxRecDepth 20000 in
theorem wX10_field_60 (hZ : zO b e D A X) (j : Nat → rx_K) (hj : ∀ k pc, [3][k]? = some pc → rx_OK (zV b e D A X) mX10_field 0 pc (j k)) : rx_OK (zV b e D A X) mX10_field 0 60 (vX10_field_60 j) := by
  unfold vX10_field_60
  refine s_iinc hZ.1 dX10_field_60 (Nat.le_of_ble_eq_true rfl) ?_
  exact s_goto dX10_field_63 (by decide) (hj 0 3 rfl)
noncomputable def vX10_field_57 (j : Nat → rx_K) : rx_K := o_ld rx_isR 6 (o_ret1 rx_isR)
set_option maxRecDepth 20000 in
theorem wX10_field_57 (hZ : zO b e D A X) (j : Nat → rx_K) (hj : ∀ k pc, [3][k]? = some pc → rx_OK (zV b e D A X) mX10_field 0 pc (j k)) : rx_OK (zV b e D A X) mX10_field 0 57 (vX10_field_57 j) := by
  unfold vX10_field_57
  refine s_aload hZ.1 dX10_field_57 ?_
  exact s_aret hZ.1 rfl (Or.inl ⟨_, rfl⟩) dX10_field_59
noncomputable def vX10_field_47 (j : Nat → rx_K) : rx_K := o_ld rx_isR 6 (o_getf 7 8 (o_ld rx_isL 3 (o_bc (fun x y => lg_cmp x y) (o_c1 rx_eq (vX10_field_57 j) (vX10_field_60 j)))))
set_option maxRecDepth 20000 in
theorem wX10_field_47 (hZ : zO b e D A X) (j : Nat → rx_K) (hj : ∀ k pc, [3][k]? = some pc → rx_OK (zV b e D A X) mX10_field 0 pc (j k)) : rx_OK (zV b e D A X) mX10_field 0 47 (vX10_field_47 j) := by
  unfold vX10_field_47
  refine s_aload hZ.1 dX10_field_47 ?_
  refine yg7_8 dX10_field_49 zw1015 ?_
  refine s_lload_n hZ.1 dX10_field_52 rfl ?_
  refine s_lcmp dX10_field_53 ?_
  exact s_if_ne dX10_field_54 (by decide) (wX10_field_60 hZ j hj) (wX10_field_57 hZ j hj)
noncomputable def vX10_field_39 (j : Nat → rx_K) : rx_K := o_ld rx_isL 3 (o_const 147573952589676412897 (o_bc (fun x y => lg_cmp x y) (o_c1 rx_eq (vX10_field_57 j) (vX10_field_47 j))))
set_option maxRecDepth 20000 in
theorem wX10_field_39 (hZ : zO b e D A X) (j : Nat → rx_K) (hj : ∀ k pc, [3][k]? = some pc → rx_OK (zV b e D A X) mX10_field 0 pc (j k)) : rx_OK (zV b e D A X) mX10_field 0 39 (vX10_field_39 j) := by
  unfold vX10_field_39
  refine s_lload_n hZ.1 dX10_field_39 rfl ?_
  refine s_ldc2 dX10_field_40 zw1220 (by decide +kernel) ?_
  refine s_lcmp dX10_field_43 ?_
  exact s_if_eq dX10_field_44 (by decide) (wX10_field_57 hZ j hj) (wX10_field_47 hZ j hj)
noncomputable def vX10_field_29 (j : Nat → rx_K) : rx_K := o_ld rx_isR 6 (o_getf 7 7 (o_ld rx_isL 1 (o_bc (fun x y => lg_cmp x y) (o_c1 rx_eq (vX10_field_39 j) (vX10_field_60 j)))))
set_option maxRecDepth 20000 in
theorem wX10_field_29 (hZ : zO b e D A X) (j : Nat → rx_K) (hj : ∀ k pc, [3][k]? = some pc → rx_OK (zV b e D A X) mX10_field 0 pc (j k)) : rx_OK (zV b e D A X) mX10_field 0 29 (vX10_field_29 j) := by
  unfold vX10_field_29
  refine s_aload hZ.1 dX10_field_29 ?_
  refine yg7_7 dX10_field_31 zw1004 ?_
  refine s_lload_n hZ.1 dX10_field_34 rfl ?_
  refine s_lcmp dX10_field_35 ?_
  exact s_if_ne dX10_field_36 (by decide) (wX10_field_60 hZ j hj) (wX10_field_39 hZ j hj)
noncomputable def vX10_field_12 (j : Nat → rx_K) : rx_K := o_ld rx_isR 0 (o_getf 10 14 (o_ld rx_isI 5 (o_ald 5 (o_st rx_isR 6 (o_ld rx_isR 6 (o_getf 7 0 (o_c1 rx_eq (vX10_field_29 j) (vX10_field_60 j))))))))
set_option maxRecDepth 20000 in
theorem wX10_field_12 (hZ : zO b e D A X) (j : Nat → rx_K) (hj : ∀ k pc, [3][k]? = some pc → rx_OK (zV b e D A X) mX10_field 0 pc (j k)) : rx_OK (zV b e D A X) mX10_field 0 12 (vX10_field_12 j) := by
  unfold vX10_field_12
  refine s_aload_n hZ.1 dX10_field_12 rfl ?_
  refine yg10_14 dX10_field_13 zw858 ?_
  refine s_iload hZ.1 dX10_field_16 ?_
  refine s_aald (tt := 5) rfl rfl dX10_field_18 ?_
  refine s_astore hZ.1 dX10_field_19 (Nat.le_of_ble_eq_true rfl) ?_
  refine s_aload hZ.1 dX10_field_21 ?_
  refine yg7_0 dX10_field_23 zw947 ?_
  exact s_if_ne dX10_field_26 (by decide) (wX10_field_60 hZ j hj) (wX10_field_29 hZ j hj)
noncomputable def vX10_field_3 (j : Nat → rx_K) : rx_K := o_ld rx_isI 5 (o_ld rx_isR 0 (o_getf 10 15 (o_c2 rx_lt (vX10_field_12 j) (vX10_field_66 j))))
set_option maxRecDepth 20000 in
theorem wX10_field_3 (hZ : zO b e D A X) (j : Nat → rx_K) (hj : ∀ k pc, [3][k]? = some pc → rx_OK (zV b e D A X) mX10_field 0 pc (j k)) : rx_OK (zV b e D A X) mX10_field 0 3 (vX10_field_3 j) := by
  unfold vX10_field_3
  refine s_iload hZ.1 dX10_field_3 ?_
  refine s_aload_n hZ.1 dX10_field_5 rfl ?_
  refine yg10_15 dX10_field_6 zw866 ?_
  exact s_icmp_ge dX10_field_9 (by decide) (wX10_field_66 hZ j hj) (wX10_field_12 hZ j hj)
noncomputable def vX10_field_0 (j : Nat → rx_K) : rx_K := o_const 0 (o_st rx_isI 5 ((vX10_field_3 j)))
set_option maxRecDepth 20000 in
theorem wX10_field_0 (hZ : zO b e D A X) (j : Nat → rx_K) (hj : ∀ k pc, [3][k]? = some pc → rx_OK (zV b e D A X) mX10_field 0 pc (j k)) : rx_OK (zV b e D A X) mX10_field 0 0 (vX10_field_0 j) := by
  unfold vX10_field_0
  refine s_iconst dX10_field_0 (by decide +kernel) ?_
  refine s_istore hZ.1 dX10_field_1 (Nat.le_of_ble_eq_true rfl) ?_
  exact (wX10_field_3 hZ j hj)
noncomputable def vhX10_field (j : Nat → rx_K) : List rx_K := [vX10_field_3 j]
theorem vlX10_field (hZ : zO b e D A X) : ∀ n k pc, [3][k]? = some pc → rx_OK (zV b e D A X) mX10_field 0 pc (rx_J (vhX10_field) n k) := rx_loop fun j hj k pc h => by
  match k, h with
  | 0, h =>
    have e9 := Option.some.inj (show some 3 = some pc from h)
    subst e9
    exact wX10_field_3 hZ j hj
  | _ + 1, h => exact absurd h (by simp)
noncomputable def FX10_field : List Nat → rx_H → Option (Nat × rx_H) := rx_ent 7 (vX10_field_0 (rx_J (vhX10_field) 4000000000))
theorem Met_X10_field (hZ : zO b e D A X) : rx_Met (zV b e D A X) 0 yX10_field mX10_field (FX10_field) := rx_entry hZ.1 (wX10_field_0 hZ _ (vlX10_field hZ 4000000000)) (by decide +kernel) rfl (fun h => by cases h)
abbrev mX11_fieldIn : rx_M := (RX11, cX11_fieldIn, 14, (some (.object "LinkHouse$Member")), false)
theorem vy_X11_fieldIn : rx_Y (zV b e D A X) yX11_fieldIn mX11_fieldIn 3 := ⟨zw2066, zw423, by decide, by decide +kernel, by decide +kernel, by decide +kernel⟩
noncomputable def vX11_fieldIn_255 (j : Nat → rx_K) : rx_K := o_ld rx_isR 9 (o_ret1 rx_isR)
set_option maxRecDepth 20000 in
theorem wX11_fieldIn_255 (hZ : zO b e D A X) (j : Nat → rx_K) (hj : ∀ k pc, [56][k]? = some pc → rx_OK (zV b e D A X) mX11_fieldIn 1 pc (j k)) : rx_OK (zV b e D A X) mX11_fieldIn 1 255 (vX11_fieldIn_255 j) := by
  unfold vX11_fieldIn_255
  refine s_aload hZ.1 dX11_fieldIn_255 ?_
  exact s_aret hZ.1 rfl (Or.inl ⟨_, rfl⟩) dX11_fieldIn_257
noncomputable def vX11_fieldIn_249 (j : Nat → rx_K) : rx_K := o_inc 10 (1) ((j 0))
set_option maxRecDepth 20000 in
theorem wX11_fieldIn_249 (hZ : zO b e D A X) (j : Nat → rx_K) (hj : ∀ k pc, [56][k]? = some pc → rx_OK (zV b e D A X) mX11_fieldIn 1 pc (j k)) : rx_OK (zV b e D A X) mX11_fieldIn 1 249 (vX11_fieldIn_249 j) := by
  unfold vX11_fieldIn_249
  refine s_iinc hZ.1 dX11_fieldIn_249 (Nat.le_of_ble_eq_true rfl) ?_
  exact s_goto dX11_fieldIn_252 (by decide) (hj 0 56 rfl)
noncomputable def vX11_fieldIn_219 (j : Nat → rx_K) : rx_K := o_dup (o_getf 11 15 (o_const 8 (o_bi (fun x y => x + y) (o_putf rx_isI 11 15 (o_ld rx_isR 0 (o_ld rx_isI 13 (o_putf rx_isI 11 18 (o_ld rx_isR 0 (o_getf 11 1 (o_ld rx_isI 13 (o_ald 4 (o_ld rx_isL 2 (o_ld rx_isL 4 (o_callV 2 10 FX10_field (o_st rx_isR 9 ((vX11_fieldIn_249 j)))))))))))))))))
set_option maxRecDepth 20000 in
theorem wX11_fieldIn_219 (hZ : zO b e D A X) (j : Nat → rx_K) (hj : ∀ k pc, [56][k]? = some pc → rx_OK (zV b e D A X) mX11_fieldIn 1 pc (j k)) : rx_OK (zV b e D A X) mX11_fieldIn 1 219 (vX11_fieldIn_219 j) := by
  unfold vX11_fieldIn_219
  refine s_dup hZ.1 dX11_fieldIn_219 ?_
  refine yg11_15 dX11_fieldIn_220 zw1291 ?_
  refine s_iconst dX11_fieldIn_223 (by decide +kernel) ?_
  refine s_iadd dX11_fieldIn_224 ?_
  refine yp11_15 hZ.1 dX11_fieldIn_225 zw1291 ?_
  refine s_aload_n hZ.1 dX11_fieldIn_228 rfl ?_
  refine s_iload hZ.1 dX11_fieldIn_229 ?_
  refine yp11_18 hZ.1 dX11_fieldIn_231 zw1297 ?_
  refine s_aload_n hZ.1 dX11_fieldIn_234 rfl ?_
  refine yg11_1 dX11_fieldIn_235 zw1252 ?_
  refine s_iload hZ.1 dX11_fieldIn_238 ?_
  refine s_aald (tt := 4) rfl rfl dX11_fieldIn_240 ?_
  refine s_lload_n hZ.1 dX11_fieldIn_241 rfl ?_
  refine s_lload hZ.1 dX11_fieldIn_242 ?_
  refine s_callV hZ.1 (Met_X10_field hZ) (Nat.le_of_ble_eq_true rfl) vy_X10_field zcl10 zw2068 zw2069 (Or.inl zw2067) dX11_fieldIn_244 ?_
  refine s_astore hZ.1 dX11_fieldIn_247 (Nat.le_of_ble_eq_true rfl) ?_
  exact (wX11_fieldIn_249 hZ j hj)
noncomputable def vX11_fieldIn_178 (j : Nat → rx_K) : rx_K := o_ld rx_isL 6 (o_const 9 (o_ld rx_isI 13 (o_bs (fun x y => x <<< (y.toInt64 &&& 63)) (o_bl (fun x y => x ||| y) (o_stL 6 (o_ld rx_isR 0 (o_getf 11 12 (o_ld rx_isI 8 (o_ld rx_isI 13 (o_ast 0 (fun v => v) rx_isI (o_ld rx_isR 0 (o_getf 11 13 (o_ld rx_isI 8 (o_const 0 (o_ast 0 (fun v => v) rx_isI (o_inc 8 (1) (o_ld rx_isR 0 (o_getf 11 14 (o_ld rx_isR 0 (o_getf 11 15 (o_ld rx_isI 13 (o_ast 0 (fun v => v) rx_isI (o_ld rx_isR 0 ((vX11_fieldIn_219 j)))))))))))))))))))))))))
set_option maxRecDepth 20000 in
theorem wX11_fieldIn_178 (hZ : zO b e D A X) (j : Nat → rx_K) (hj : ∀ k pc, [56][k]? = some pc → rx_OK (zV b e D A X) mX11_fieldIn 1 pc (j k)) : rx_OK (zV b e D A X) mX11_fieldIn 1 178 (vX11_fieldIn_178 j) := by
  unfold vX11_fieldIn_178
  refine s_lload hZ.1 dX11_fieldIn_178 ?_
  refine s_lconst dX11_fieldIn_180 (by decide +kernel) ?_
  refine s_iload hZ.1 dX11_fieldIn_181 ?_
  refine s_lshl dX11_fieldIn_183 ?_
  refine s_lor dX11_fieldIn_184 ?_
  refine s_lstore hZ.1 dX11_fieldIn_185 (Nat.le_of_ble_eq_true rfl) ?_
  refine s_aload_n hZ.1 dX11_fieldIn_187 rfl ?_
  refine yg11_12 dX11_fieldIn_188 zw1287 ?_
  refine s_iload hZ.1 dX11_fieldIn_191 ?_
  refine s_iload hZ.1 dX11_fieldIn_193 ?_
  refine s_iast hZ.1 (tt := 0) rfl dX11_fieldIn_195 ?_
  refine s_aload_n hZ.1 dX11_fieldIn_196 rfl ?_
  refine yg11_13 dX11_fieldIn_197 zw1288 ?_
  refine s_iload hZ.1 dX11_fieldIn_200 ?_
  refine s_iconst dX11_fieldIn_202 (by decide +kernel) ?_
  refine s_iast hZ.1 (tt := 0) rfl dX11_fieldIn_203 ?_
  refine s_iinc hZ.1 dX11_fieldIn_204 (Nat.le_of_ble_eq_true rfl) ?_
  refine s_aload_n hZ.1 dX11_fieldIn_207 rfl ?_
  refine yg11_14 dX11_fieldIn_208 zw1289 ?_
  refine s_aload_n hZ.1 dX11_fieldIn_211 rfl ?_
  refine yg11_15 dX11_fieldIn_212 zw1291 ?_
  refine s_iload hZ.1 dX11_fieldIn_215 ?_
  refine s_iast hZ.1 (tt := 0) rfl dX11_fieldIn_217 ?_
  refine s_aload_n hZ.1 dX11_fieldIn_218 rfl ?_
  exact (wX11_fieldIn_219 hZ j hj)
noncomputable def vX11_fieldIn_166 (j : Nat → rx_K) : rx_K := o_ld rx_isL 6 (o_ld rx_isI 13 (o_bs (fun x y => (x.toUInt64 >>> (y.toInt64.toUInt64 &&& Int64.toUInt64 63)).toInt64) (o_const 9 (o_bl (fun x y => x &&& y) (o_const 1 (o_bc (fun x y => lg_cmp x y) (o_c1 rx_eq (vX11_fieldIn_178 j) (vX11_fieldIn_249 j))))))))
set_option maxRecDepth 20000 in
theorem wX11_fieldIn_166 (hZ : zO b e D A X) (j : Nat → rx_K) (hj : ∀ k pc, [56][k]? = some pc → rx_OK (zV b e D A X) mX11_fieldIn 1 pc (j k)) : rx_OK (zV b e D A X) mX11_fieldIn 1 166 (vX11_fieldIn_166 j) := by
  unfold vX11_fieldIn_166
  refine s_lload hZ.1 dX11_fieldIn_166 ?_
  refine s_iload hZ.1 dX11_fieldIn_168 ?_
  refine s_lushr dX11_fieldIn_170 ?_
  refine s_lconst dX11_fieldIn_171 (by decide +kernel) ?_
  refine s_land dX11_fieldIn_172 ?_
  refine s_lconst dX11_fieldIn_173 (by decide +kernel) ?_
  refine s_lcmp dX11_fieldIn_174 ?_
  exact s_if_ne dX11_fieldIn_175 (by decide) (wX11_fieldIn_249 hZ j hj) (wX11_fieldIn_178 hZ j hj)
noncomputable def vX11_fieldIn_161 (j : Nat → rx_K) : rx_K := o_ld rx_isI 13 (o_c1 rx_lt (vX11_fieldIn_249 j) (vX11_fieldIn_166 j))
set_option maxRecDepth 20000 in
theorem wX11_fieldIn_161 (hZ : zO b e D A X) (j : Nat → rx_K) (hj : ∀ k pc, [56][k]? = some pc → rx_OK (zV b e D A X) mX11_fieldIn 1 pc (j k)) : rx_OK (zV b e D A X) mX11_fieldIn 1 161 (vX11_fieldIn_161 j) := by
  unfold vX11_fieldIn_161
  refine s_iload hZ.1 dX11_fieldIn_161 ?_
  exact s_if_lt dX11_fieldIn_163 (by decide) (wX11_fieldIn_249 hZ j hj) (wX11_fieldIn_166 hZ j hj)
noncomputable def vX11_fieldIn_155 (j : Nat → rx_K) : rx_K := o_inc 8 (-1) ((vX11_fieldIn_249 j))
set_option maxRecDepth 20000 in
theorem wX11_fieldIn_155 (hZ : zO b e D A X) (j : Nat → rx_K) (hj : ∀ k pc, [56][k]? = some pc → rx_OK (zV b e D A X) mX11_fieldIn 1 pc (j k)) : rx_OK (zV b e D A X) mX11_fieldIn 1 155 (vX11_fieldIn_155 j) := by
  unfold vX11_fieldIn_155
  refine s_iinc hZ.1 dX11_fieldIn_155 (Nat.le_of_ble_eq_true rfl) ?_
  exact s_goto dX11_fieldIn_158 (by decide) (wX11_fieldIn_249 hZ j hj)
noncomputable def vX11_fieldIn_147 (j : Nat → rx_K) : rx_K := o_st rx_isI 13 (o_ld rx_isI 12 (o_const 32 (o_c2 (fun h x y => rx_lt h y x) (vX11_fieldIn_155 j) (vX11_fieldIn_161 j))))
set_option maxRecDepth 20000 in
theorem wX11_fieldIn_147 (hZ : zO b e D A X) (j : Nat → rx_K) (hj : ∀ k pc, [56][k]? = some pc → rx_OK (zV b e D A X) mX11_fieldIn 1 pc (j k)) : rx_OK (zV b e D A X) mX11_fieldIn 1 147 (vX11_fieldIn_147 j) := by
  unfold vX11_fieldIn_147
  refine s_istore hZ.1 dX11_fieldIn_147 (Nat.le_of_ble_eq_true rfl) ?_
  refine s_iload hZ.1 dX11_fieldIn_149 ?_
  refine s_iconst dX11_fieldIn_151 (by decide +kernel) ?_
  exact s_icmp_le dX11_fieldIn_152 (by decide) (wX11_fieldIn_161 hZ j hj) (wX11_fieldIn_155 hZ j hj)
noncomputable def vX11_fieldIn_145 (j : Nat → rx_K) : rx_K := o_const 34359738352 ((vX11_fieldIn_147 j))
set_option maxRecDepth 20000 in
theorem wX11_fieldIn_145 (hZ : zO b e D A X) (j : Nat → rx_K) (hj : ∀ k pc, [56][k]? = some pc → rx_OK (zV b e D A X) mX11_fieldIn 1 pc (j k)) : rx_OK (zV b e D A X) mX11_fieldIn 1 145 (vX11_fieldIn_145 j) := by
  unfold vX11_fieldIn_145
  refine s_bipush dX11_fieldIn_145 (by decide +kernel) ?_
  exact (wX11_fieldIn_147 hZ j hj)
noncomputable def vX11_fieldIn_135 (j : Nat → rx_K) : rx_K := o_ld rx_isR 0 (o_getf 11 3 (o_ld rx_isI 11 (o_ald 0 ((vX11_fieldIn_147 j)))))
set_option maxRecDepth 20000 in
theorem wX11_fieldIn_135 (hZ : zO b e D A X) (j : Nat → rx_K) (hj : ∀ k pc, [56][k]? = some pc → rx_OK (zV b e D A X) mX11_fieldIn 1 pc (j k)) : rx_OK (zV b e D A X) mX11_fieldIn 1 135 (vX11_fieldIn_135 j) := by
  unfold vX11_fieldIn_135
  refine s_aload_n hZ.1 dX11_fieldIn_135 rfl ?_
  refine yg11_3 dX11_fieldIn_136 zw1262 ?_
  refine s_iload hZ.1 dX11_fieldIn_139 ?_
  refine s_iald (tt := 0) rfl dX11_fieldIn_141 ?_
  exact s_goto dX11_fieldIn_142 (by decide) (wX11_fieldIn_147 hZ j hj)
noncomputable def vX11_fieldIn_129 (j : Nat → rx_K) : rx_K := o_ld rx_isI 12 (o_const 32 (o_c2 rx_eq (vX11_fieldIn_135 j) (vX11_fieldIn_145 j)))
set_option maxRecDepth 20000 in
theorem wX11_fieldIn_129 (hZ : zO b e D A X) (j : Nat → rx_K) (hj : ∀ k pc, [56][k]? = some pc → rx_OK (zV b e D A X) mX11_fieldIn 1 pc (j k)) : rx_OK (zV b e D A X) mX11_fieldIn 1 129 (vX11_fieldIn_129 j) := by
  unfold vX11_fieldIn_129
  refine s_iload hZ.1 dX11_fieldIn_129 ?_
  refine s_iconst dX11_fieldIn_131 (by decide +kernel) ?_
  exact s_icmp_ne dX11_fieldIn_132 (by decide) (wX11_fieldIn_145 hZ j hj) (wX11_fieldIn_135 hZ j hj)
noncomputable def vX11_fieldIn_114 (j : Nat → rx_K) : rx_K := o_ld rx_isR 0 (o_getf 11 5 (o_ld rx_isI 11 (o_const 32 (o_bi (fun x y => x * y) (o_ld rx_isI 12 (o_bi (fun x y => x + y) (o_ald 0 ((vX11_fieldIn_147 j)))))))))
set_option maxRecDepth 20000 in
theorem wX11_fieldIn_114 (hZ : zO b e D A X) (j : Nat → rx_K) (hj : ∀ k pc, [56][k]? = some pc → rx_OK (zV b e D A X) mX11_fieldIn 1 pc (j k)) : rx_OK (zV b e D A X) mX11_fieldIn 1 114 (vX11_fieldIn_114 j) := by
  unfold vX11_fieldIn_114
  refine s_aload_n hZ.1 dX11_fieldIn_114 rfl ?_
  refine yg11_5 dX11_fieldIn_115 zw1272 ?_
  refine s_iload hZ.1 dX11_fieldIn_118 ?_
  refine s_iconst dX11_fieldIn_120 (by decide +kernel) ?_
  refine s_imul dX11_fieldIn_121 ?_
  refine s_iload hZ.1 dX11_fieldIn_122 ?_
  refine s_iadd dX11_fieldIn_124 ?_
  refine s_iald (tt := 0) rfl dX11_fieldIn_125 ?_
  exact s_goto dX11_fieldIn_126 (by decide) (wX11_fieldIn_147 hZ j hj)
noncomputable def vX11_fieldIn_108 (j : Nat → rx_K) : rx_K := o_ld rx_isI 12 (o_const 32 (o_c2 rx_lt (vX11_fieldIn_114 j) (vX11_fieldIn_129 j)))
set_option maxRecDepth 20000 in
theorem wX11_fieldIn_108 (hZ : zO b e D A X) (j : Nat → rx_K) (hj : ∀ k pc, [56][k]? = some pc → rx_OK (zV b e D A X) mX11_fieldIn 1 pc (j k)) : rx_OK (zV b e D A X) mX11_fieldIn 1 108 (vX11_fieldIn_108 j) := by
  unfold vX11_fieldIn_108
  refine s_iload hZ.1 dX11_fieldIn_108 ?_
  refine s_iconst dX11_fieldIn_110 (by decide +kernel) ?_
  exact s_icmp_ge dX11_fieldIn_111 (by decide) (wX11_fieldIn_129 hZ j hj) (wX11_fieldIn_114 hZ j hj)
noncomputable def vX11_fieldIn_73 (j : Nat → rx_K) : rx_K := o_ld rx_isR 0 (o_getf 11 12 (o_ld rx_isI 8 (o_const 8 (o_bi (fun x y => x - y) (o_ald 0 (o_st rx_isI 11 (o_ld rx_isR 0 (o_getf 11 13 (o_ld rx_isI 8 (o_const 8 (o_bi (fun x y => x - y) (o_ald 0 (o_st rx_isI 12 (o_ld rx_isR 0 (o_getf 11 13 (o_ld rx_isI 8 (o_const 8 (o_bi (fun x y => x - y) (o_dup2 (o_ald 0 (o_const 8 (o_bi (fun x y => x + y) (o_ast 0 (fun v => v) rx_isI ((vX11_fieldIn_108 j)))))))))))))))))))))))))
set_option maxRecDepth 20000 in
theorem wX11_fieldIn_73 (hZ : zO b e D A X) (j : Nat → rx_K) (hj : ∀ k pc, [56][k]? = some pc → rx_OK (zV b e D A X) mX11_fieldIn 1 pc (j k)) : rx_OK (zV b e D A X) mX11_fieldIn 1 73 (vX11_fieldIn_73 j) := by
  unfold vX11_fieldIn_73
  refine s_aload_n hZ.1 dX11_fieldIn_73 rfl ?_
  refine yg11_12 dX11_fieldIn_74 zw1287 ?_
  refine s_iload hZ.1 dX11_fieldIn_77 ?_
  refine s_iconst dX11_fieldIn_79 (by decide +kernel) ?_
  refine s_isub dX11_fieldIn_80 ?_
  refine s_iald (tt := 0) rfl dX11_fieldIn_81 ?_
  refine s_istore hZ.1 dX11_fieldIn_82 (Nat.le_of_ble_eq_true rfl) ?_
  refine s_aload_n hZ.1 dX11_fieldIn_84 rfl ?_
  refine yg11_13 dX11_fieldIn_85 zw1288 ?_
  refine s_iload hZ.1 dX11_fieldIn_88 ?_
  refine s_iconst dX11_fieldIn_90 (by decide +kernel) ?_
  refine s_isub dX11_fieldIn_91 ?_
  refine s_iald (tt := 0) rfl dX11_fieldIn_92 ?_
  refine s_istore hZ.1 dX11_fieldIn_93 (Nat.le_of_ble_eq_true rfl) ?_
  refine s_aload_n hZ.1 dX11_fieldIn_95 rfl ?_
  refine yg11_13 dX11_fieldIn_96 zw1288 ?_
  refine s_iload hZ.1 dX11_fieldIn_99 ?_
  refine s_iconst dX11_fieldIn_101 (by decide +kernel) ?_
  refine s_isub dX11_fieldIn_102 ?_
  refine s_dup2 hZ.1 dX11_fieldIn_103 ?_
  refine s_iald (tt := 0) rfl dX11_fieldIn_104 ?_
  refine s_iconst dX11_fieldIn_105 (by decide +kernel) ?_
  refine s_iadd dX11_fieldIn_106 ?_
  refine s_iast hZ.1 (tt := 0) rfl dX11_fieldIn_107 ?_
  exact (wX11_fieldIn_108 hZ j hj)
noncomputable def vX11_fieldIn_68 (j : Nat → rx_K) : rx_K := o_ld rx_isR 9 (o_nul (vX11_fieldIn_73 j) (vX11_fieldIn_255 j))
set_option maxRecDepth 20000 in
theorem wX11_fieldIn_68 (hZ : zO b e D A X) (j : Nat → rx_K) (hj : ∀ k pc, [56][k]? = some pc → rx_OK (zV b e D A X) mX11_fieldIn 1 pc (j k)) : rx_OK (zV b e D A X) mX11_fieldIn 1 68 (vX11_fieldIn_68 j) := by
  unfold vX11_fieldIn_68
  refine s_aload hZ.1 dX11_fieldIn_68 ?_
  exact s_ifnonnull dX11_fieldIn_70 (by decide) (wX11_fieldIn_255 hZ j hj) (wX11_fieldIn_73 hZ j hj)
noncomputable def vX11_fieldIn_63 (j : Nat → rx_K) : rx_K := o_ld rx_isI 8 (o_c1 (fun h x y => rx_lt h y x) (vX11_fieldIn_68 j) (vX11_fieldIn_255 j))
set_option maxRecDepth 20000 in
theorem wX11_fieldIn_63 (hZ : zO b e D A X) (j : Nat → rx_K) (hj : ∀ k pc, [56][k]? = some pc → rx_OK (zV b e D A X) mX11_fieldIn 1 pc (j k)) : rx_OK (zV b e D A X) mX11_fieldIn 1 63 (vX11_fieldIn_63 j) := by
  unfold vX11_fieldIn_63
  refine s_iload hZ.1 dX11_fieldIn_63 ?_
  exact s_if_le dX11_fieldIn_65 (by decide) (wX11_fieldIn_255 hZ j hj) (wX11_fieldIn_68 hZ j hj)
noncomputable def vX11_fieldIn_56 (j : Nat → rx_K) : rx_K := o_ld rx_isI 10 (o_const 800000000 (o_c2 rx_lt (vX11_fieldIn_63 j) (vX11_fieldIn_255 j)))
set_option maxRecDepth 20000 in
theorem wX11_fieldIn_56 (hZ : zO b e D A X) (j : Nat → rx_K) (hj : ∀ k pc, [56][k]? = some pc → rx_OK (zV b e D A X) mX11_fieldIn 1 pc (j k)) : rx_OK (zV b e D A X) mX11_fieldIn 1 56 (vX11_fieldIn_56 j) := by
  unfold vX11_fieldIn_56
  refine s_iload hZ.1 dX11_fieldIn_56 ?_
  refine s_ldc dX11_fieldIn_58 zw1987 (by decide +kernel) ?_
  exact s_icmp_ge dX11_fieldIn_60 (by decide) (wX11_fieldIn_255 hZ j hj) (wX11_fieldIn_63 hZ j hj)
noncomputable def vX11_fieldIn_34 (j : Nat → rx_K) : rx_K := o_ld rx_isR 0 (o_ld rx_isI 1 (o_putf rx_isI 11 18 (o_ld rx_isR 0 (o_getf 11 1 (o_ld rx_isI 1 (o_ald 4 (o_ld rx_isL 2 (o_ld rx_isL 4 (o_callV 2 10 FX10_field (o_st rx_isR 9 (o_const 0 (o_st rx_isI 10 ((vX11_fieldIn_56 j))))))))))))))
set_option maxRecDepth 20000 in
theorem wX11_fieldIn_34 (hZ : zO b e D A X) (j : Nat → rx_K) (hj : ∀ k pc, [56][k]? = some pc → rx_OK (zV b e D A X) mX11_fieldIn 1 pc (j k)) : rx_OK (zV b e D A X) mX11_fieldIn 1 34 (vX11_fieldIn_34 j) := by
  unfold vX11_fieldIn_34
  refine s_aload_n hZ.1 dX11_fieldIn_34 rfl ?_
  refine s_iload_n hZ.1 dX11_fieldIn_35 rfl ?_
  refine yp11_18 hZ.1 dX11_fieldIn_36 zw1297 ?_
  refine s_aload_n hZ.1 dX11_fieldIn_39 rfl ?_
  refine yg11_1 dX11_fieldIn_40 zw1252 ?_
  refine s_iload_n hZ.1 dX11_fieldIn_43 rfl ?_
  refine s_aald (tt := 4) rfl rfl dX11_fieldIn_44 ?_
  refine s_lload_n hZ.1 dX11_fieldIn_45 rfl ?_
  refine s_lload hZ.1 dX11_fieldIn_46 ?_
  refine s_callV hZ.1 (Met_X10_field hZ) (Nat.le_of_ble_eq_true rfl) vy_X10_field zcl10 zw2068 zw2069 (Or.inl zw2067) dX11_fieldIn_48 ?_
  refine s_astore hZ.1 dX11_fieldIn_51 (Nat.le_of_ble_eq_true rfl) ?_
  refine s_iconst dX11_fieldIn_53 (by decide +kernel) ?_
  refine s_istore hZ.1 dX11_fieldIn_54 (Nat.le_of_ble_eq_true rfl) ?_
  exact (wX11_fieldIn_56 hZ j hj)
noncomputable def vX11_fieldIn_0 (j : Nat → rx_K) : rx_K := o_const 9 (o_ld rx_isI 1 (o_bs (fun x y => x <<< (y.toInt64 &&& 63)) (o_stL 6 (o_const 8 (o_st rx_isI 8 (o_ld rx_isR 0 (o_getf 11 12 (o_const 0 (o_ld rx_isI 1 (o_ast 0 (fun v => v) rx_isI (o_ld rx_isR 0 (o_getf 11 13 (o_const 0 (o_const 0 (o_ast 0 (fun v => v) rx_isI (o_ld rx_isR 0 (o_const 8 (o_putf rx_isI 11 15 (o_ld rx_isR 0 (o_getf 11 14 (o_const 0 (o_ld rx_isI 1 (o_ast 0 (fun v => v) rx_isI ((vX11_fieldIn_34 j)))))))))))))))))))))))))
set_option maxRecDepth 20000 in
theorem wX11_fieldIn_0 (hZ : zO b e D A X) (j : Nat → rx_K) (hj : ∀ k pc, [56][k]? = some pc → rx_OK (zV b e D A X) mX11_fieldIn 1 pc (j k)) : rx_OK (zV b e D A X) mX11_fieldIn 1 0 (vX11_fieldIn_0 j) := by
  unfold vX11_fieldIn_0
  refine s_lconst dX11_fieldIn_0 (by decide +kernel) ?_
  refine s_iload_n hZ.1 dX11_fieldIn_1 rfl ?_
  refine s_lshl dX11_fieldIn_2 ?_
  refine s_lstore hZ.1 dX11_fieldIn_3 (Nat.le_of_ble_eq_true rfl) ?_
  refine s_iconst dX11_fieldIn_5 (by decide +kernel) ?_
  refine s_istore hZ.1 dX11_fieldIn_6 (Nat.le_of_ble_eq_true rfl) ?_
  refine s_aload_n hZ.1 dX11_fieldIn_8 rfl ?_
  refine yg11_12 dX11_fieldIn_9 zw1287 ?_
  refine s_iconst dX11_fieldIn_12 (by decide +kernel) ?_
  refine s_iload_n hZ.1 dX11_fieldIn_13 rfl ?_
  refine s_iast hZ.1 (tt := 0) rfl dX11_fieldIn_14 ?_
  refine s_aload_n hZ.1 dX11_fieldIn_15 rfl ?_
  refine yg11_13 dX11_fieldIn_16 zw1288 ?_
  refine s_iconst dX11_fieldIn_19 (by decide +kernel) ?_
  refine s_iconst dX11_fieldIn_20 (by decide +kernel) ?_
  refine s_iast hZ.1 (tt := 0) rfl dX11_fieldIn_21 ?_
  refine s_aload_n hZ.1 dX11_fieldIn_22 rfl ?_
  refine s_iconst dX11_fieldIn_23 (by decide +kernel) ?_
  refine yp11_15 hZ.1 dX11_fieldIn_24 zw1291 ?_
  refine s_aload_n hZ.1 dX11_fieldIn_27 rfl ?_
  refine yg11_14 dX11_fieldIn_28 zw1289 ?_
  refine s_iconst dX11_fieldIn_31 (by decide +kernel) ?_
  refine s_iload_n hZ.1 dX11_fieldIn_32 rfl ?_
  refine s_iast hZ.1 (tt := 0) rfl dX11_fieldIn_33 ?_
  exact (wX11_fieldIn_34 hZ j hj)
noncomputable def vhX11_fieldIn (j : Nat → rx_K) : List rx_K := [vX11_fieldIn_56 j]
theorem vlX11_fieldIn (hZ : zO b e D A X) : ∀ n k pc, [56][k]? = some pc → rx_OK (zV b e D A X) mX11_fieldIn 1 pc (rx_J (vhX11_fieldIn) n k) := rx_loop fun j hj k pc h => by
  match k, h with
  | 0, h =>
    have e9 := Option.some.inj (show some 56 = some pc from h)
    subst e9
    exact wX11_fieldIn_56 hZ j hj
  | _ + 1, h => exact absurd h (by simp)
noncomputable def FX11_fieldIn : List Nat → rx_H → Option (Nat × rx_H) := rx_ent 14 (vX11_fieldIn_0 (rx_J (vhX11_fieldIn) 4000000000))
theorem Met_X11_fieldIn (hZ : zO b e D A X) : rx_Met (zV b e D A X) 1 yX11_fieldIn mX11_fieldIn (FX11_fieldIn) := rx_entry hZ.1 (wX11_fieldIn_0 hZ _ (vlX11_fieldIn hZ 4000000000)) (by decide +kernel) rfl (fun h => by cases h)
abbrev mX11_isLet_ : rx_M := (RX11, cX11_isLet_, 5, (some .boolean), false)
theorem vy_X11_isLet_ : rx_Y (zV b e D A X) yX11_isLet_ mX11_isLet_ 4 := ⟨zw2074, zw423, by decide, by decide +kernel, by decide +kernel, by decide +kernel⟩
noncomputable def vX11_isLet__156 : rx_K := o_ret1 rx_isZ
set_option maxRecDepth 20000 in
theorem wX11_isLet__156 (hZ : zO b e D A X) : rx_OK (zV b e D A X) mX11_isLet_ 0 156 vX11_isLet__156 := by
  unfold vX11_isLet__156
  exact s_zret rx_z_ok rfl dX11_isLet__156
noncomputable def vX11_isLet__155 : rx_K := o_const 0 (vX11_isLet__156)
set_option maxRecDepth 20000 in
theorem wX11_isLet__155 (hZ : zO b e D A X) : rx_OK (zV b e D A X) mX11_isLet_ 0 155 vX11_isLet__155 := by
  unfold vX11_isLet__155
  refine s_iconst dX11_isLet__155 (by decide +kernel) ?_
  exact (wX11_isLet__156 hZ)
noncomputable def vX11_isLet__151 : rx_K := o_const 8 (vX11_isLet__156)
set_option maxRecDepth 20000 in
theorem wX11_isLet__151 (hZ : zO b e D A X) : rx_OK (zV b e D A X) mX11_isLet_ 0 151 vX11_isLet__151 := by
  unfold vX11_isLet__151
  refine s_iconst dX11_isLet__151 (by decide +kernel) ?_
  exact s_goto dX11_isLet__152 (by decide) (wX11_isLet__156 hZ)
noncomputable def vX11_isLet__135 : rx_K := o_ld rx_isR 0 (o_getf 11 9 (o_ld rx_isI 4 (o_ald 1 (o_ld rx_isI 3 (o_bs (fun x y => (x.toUInt64 >>> (y.toInt64.toUInt64 &&& Int64.toUInt64 63)).toInt64) (o_const 9 (o_bl (fun x y => x &&& y) (o_const 1 (o_bc (fun x y => lg_cmp x y) (o_c1 rx_eq vX11_isLet__155 vX11_isLet__151))))))))))
set_option maxRecDepth 20000 in
theorem wX11_isLet__135 (hZ : zO b e D A X) : rx_OK (zV b e D A X) mX11_isLet_ 0 135 vX11_isLet__135 := by
  unfold vX11_isLet__135
  refine s_aload_n hZ.1 dX11_isLet__135 rfl ?_
  refine yg11_9 dX11_isLet__136 zw1281 ?_
  refine s_iload hZ.1 dX11_isLet__139 ?_
  refine s_lald (tt := 1) rfl dX11_isLet__141 ?_
  refine s_iload_n hZ.1 dX11_isLet__142 rfl ?_
  refine s_lushr dX11_isLet__143 ?_
  refine s_lconst dX11_isLet__144 (by decide +kernel) ?_
  refine s_land dX11_isLet__145 ?_
  refine s_lconst dX11_isLet__146 (by decide +kernel) ?_
  refine s_lcmp dX11_isLet__147 ?_
  exact s_if_eq dX11_isLet__148 (by decide) (wX11_isLet__155 hZ) (wX11_isLet__151 hZ)
noncomputable def vX11_isLet__119 : rx_K := o_ld rx_isR 0 (o_getf 11 9 (o_ld rx_isI 3 (o_ald 1 (o_ld rx_isI 4 (o_bs (fun x y => (x.toUInt64 >>> (y.toInt64.toUInt64 &&& Int64.toUInt64 63)).toInt64) (o_const 9 (o_bl (fun x y => x &&& y) (o_const 1 (o_bc (fun x y => lg_cmp x y) (o_c1 rx_eq vX11_isLet__135 vX11_isLet__151))))))))))
set_option maxRecDepth 20000 in
theorem wX11_isLet__119 (hZ : zO b e D A X) : rx_OK (zV b e D A X) mX11_isLet_ 0 119 vX11_isLet__119 := by
  unfold vX11_isLet__119
  refine s_aload_n hZ.1 dX11_isLet__119 rfl ?_
  refine yg11_9 dX11_isLet__120 zw1281 ?_
  refine s_iload_n hZ.1 dX11_isLet__123 rfl ?_
  refine s_lald (tt := 1) rfl dX11_isLet__124 ?_
  refine s_iload hZ.1 dX11_isLet__125 ?_
  refine s_lushr dX11_isLet__127 ?_
  refine s_lconst dX11_isLet__128 (by decide +kernel) ?_
  refine s_land dX11_isLet__129 ?_
  refine s_lconst dX11_isLet__130 (by decide +kernel) ?_
  refine s_lcmp dX11_isLet__131 ?_
  exact s_if_ne dX11_isLet__132 (by decide) (wX11_isLet__151 hZ) (wX11_isLet__135 hZ)
noncomputable def vX11_isLet__113 : rx_K := o_ld rx_isI 3 (o_ld rx_isI 4 (o_c2 rx_eq vX11_isLet__151 vX11_isLet__119))
set_option maxRecDepth 20000 in
theorem wX11_isLet__113 (hZ : zO b e D A X) : rx_OK (zV b e D A X) mX11_isLet_ 0 113 vX11_isLet__113 := by
  unfold vX11_isLet__113
  refine s_iload_n hZ.1 dX11_isLet__113 rfl ?_
  refine s_iload hZ.1 dX11_isLet__114 ?_
  exact s_icmp_eq dX11_isLet__116 (by decide) (wX11_isLet__151 hZ) (wX11_isLet__119 hZ)
noncomputable def vX11_isLet__106 : rx_K := o_ld rx_isR 1 (o_getf 7 2 (o_c1 rx_eq vX11_isLet__113 vX11_isLet__151))
set_option maxRecDepth 20000 in
theorem wX11_isLet__106 (hZ : zO b e D A X) : rx_OK (zV b e D A X) mX11_isLet_ 0 106 vX11_isLet__106 := by
  unfold vX11_isLet__106
  refine s_aload_n hZ.1 dX11_isLet__106 rfl ?_
  refine yg7_2 dX11_isLet__107 zw967 ?_
  exact s_if_ne dX11_isLet__110 (by decide) (wX11_isLet__151 hZ) (wX11_isLet__113 hZ)
noncomputable def vX11_isLet__90 : rx_K := o_ld rx_isR 0 (o_getf 11 9 (o_ld rx_isI 4 (o_ald 1 (o_ld rx_isI 2 (o_bs (fun x y => (x.toUInt64 >>> (y.toInt64.toUInt64 &&& Int64.toUInt64 63)).toInt64) (o_const 9 (o_bl (fun x y => x &&& y) (o_const 1 (o_bc (fun x y => lg_cmp x y) (o_c1 rx_eq vX11_isLet__155 vX11_isLet__106))))))))))
set_option maxRecDepth 20000 in
theorem wX11_isLet__90 (hZ : zO b e D A X) : rx_OK (zV b e D A X) mX11_isLet_ 0 90 vX11_isLet__90 := by
  unfold vX11_isLet__90
  refine s_aload_n hZ.1 dX11_isLet__90 rfl ?_
  refine yg11_9 dX11_isLet__91 zw1281 ?_
  refine s_iload hZ.1 dX11_isLet__94 ?_
  refine s_lald (tt := 1) rfl dX11_isLet__96 ?_
  refine s_iload_n hZ.1 dX11_isLet__97 rfl ?_
  refine s_lushr dX11_isLet__98 ?_
  refine s_lconst dX11_isLet__99 (by decide +kernel) ?_
  refine s_land dX11_isLet__100 ?_
  refine s_lconst dX11_isLet__101 (by decide +kernel) ?_
  refine s_lcmp dX11_isLet__102 ?_
  exact s_if_eq dX11_isLet__103 (by decide) (wX11_isLet__155 hZ) (wX11_isLet__106 hZ)
noncomputable def vX11_isLet__84 : rx_K := o_ld rx_isI 4 (o_ld rx_isI 2 (o_c2 rx_eq vX11_isLet__106 vX11_isLet__90))
set_option maxRecDepth 20000 in
theorem wX11_isLet__84 (hZ : zO b e D A X) : rx_OK (zV b e D A X) mX11_isLet_ 0 84 vX11_isLet__84 := by
  unfold vX11_isLet__84
  refine s_iload hZ.1 dX11_isLet__84 ?_
  refine s_iload_n hZ.1 dX11_isLet__86 rfl ?_
  exact s_icmp_eq dX11_isLet__87 (by decide) (wX11_isLet__106 hZ) (wX11_isLet__90 hZ)
noncomputable def vX11_isLet__76 : rx_K := o_ld rx_isR 1 (o_getf 7 1 (o_const 16 (o_c2 rx_eq vX11_isLet__84 vX11_isLet__155)))
set_option maxRecDepth 20000 in
theorem wX11_isLet__76 (hZ : zO b e D A X) : rx_OK (zV b e D A X) mX11_isLet_ 0 76 vX11_isLet__76 := by
  unfold vX11_isLet__76
  refine s_aload_n hZ.1 dX11_isLet__76 rfl ?_
  refine yg7_1 dX11_isLet__77 zw953 ?_
  refine s_iconst dX11_isLet__80 (by decide +kernel) ?_
  exact s_icmp_ne dX11_isLet__81 (by decide) (wX11_isLet__155 hZ) (wX11_isLet__84 hZ)
noncomputable def vX11_isLet__74 : rx_K := o_const 8 (o_ret1 rx_isZ)
set_option maxRecDepth 20000 in
theorem wX11_isLet__74 (hZ : zO b e D A X) : rx_OK (zV b e D A X) mX11_isLet_ 0 74 vX11_isLet__74 := by
  unfold vX11_isLet__74
  refine s_iconst dX11_isLet__74 (by decide +kernel) ?_
  exact s_zret rx_z_ok rfl dX11_isLet__75
noncomputable def vX11_isLet__45 : rx_K := o_ld rx_isR 0 (o_getf 11 1 (o_ld rx_isI 4 (o_ald 4 (o_getf 10 1 (o_const 472 (o_bs (fun x y => (x.toUInt64 >>> (y.toInt64.toUInt64 &&& Int64.toUInt64 63)).toInt64) (o_ld rx_isR 0 (o_getf 11 1 (o_ld rx_isI 2 (o_ald 4 (o_getf 10 1 (o_const 472 (o_bs (fun x y => (x.toUInt64 >>> (y.toInt64.toUInt64 &&& Int64.toUInt64 63)).toInt64) (o_bc (fun x y => lg_cmp x y) (o_c1 rx_eq vX11_isLet__74 vX11_isLet__76)))))))))))))))
set_option maxRecDepth 20000 in
theorem wX11_isLet__45 (hZ : zO b e D A X) : rx_OK (zV b e D A X) mX11_isLet_ 0 45 vX11_isLet__45 := by
  unfold vX11_isLet__45
  refine s_aload_n hZ.1 dX11_isLet__45 rfl ?_
  refine yg11_1 dX11_isLet__46 zw1252 ?_
  refine s_iload hZ.1 dX11_isLet__49 ?_
  refine s_aald (tt := 4) rfl rfl dX11_isLet__51 ?_
  refine yg10_1 dX11_isLet__52 zw768 ?_
  refine s_bipush dX11_isLet__55 (by decide +kernel) ?_
  refine s_lushr dX11_isLet__57 ?_
  refine s_aload_n hZ.1 dX11_isLet__58 rfl ?_
  refine yg11_1 dX11_isLet__59 zw1252 ?_
  refine s_iload_n hZ.1 dX11_isLet__62 rfl ?_
  refine s_aald (tt := 4) rfl rfl dX11_isLet__63 ?_
  refine yg10_1 dX11_isLet__64 zw768 ?_
  refine s_bipush dX11_isLet__67 (by decide +kernel) ?_
  refine s_lushr dX11_isLet__69 ?_
  refine s_lcmp dX11_isLet__70 ?_
  exact s_if_ne dX11_isLet__71 (by decide) (wX11_isLet__76 hZ) (wX11_isLet__74 hZ)
noncomputable def vX11_isLet__44 : rx_K := o_ret1 rx_isZ
set_option maxRecDepth 20000 in
theorem wX11_isLet__44 (hZ : zO b e D A X) : rx_OK (zV b e D A X) mX11_isLet_ 0 44 vX11_isLet__44 := by
  unfold vX11_isLet__44
  exact s_zret rx_z_ok rfl dX11_isLet__44
noncomputable def vX11_isLet__43 : rx_K := o_const 0 (vX11_isLet__44)
set_option maxRecDepth 20000 in
theorem wX11_isLet__43 (hZ : zO b e D A X) : rx_OK (zV b e D A X) mX11_isLet_ 0 43 vX11_isLet__43 := by
  unfold vX11_isLet__43
  refine s_iconst dX11_isLet__43 (by decide +kernel) ?_
  exact (wX11_isLet__44 hZ)
noncomputable def vX11_isLet__39 : rx_K := o_const 8 (vX11_isLet__44)
set_option maxRecDepth 20000 in
theorem wX11_isLet__39 (hZ : zO b e D A X) : rx_OK (zV b e D A X) mX11_isLet_ 0 39 vX11_isLet__39 := by
  unfold vX11_isLet__39
  refine s_iconst dX11_isLet__39 (by decide +kernel) ?_
  exact s_goto dX11_isLet__40 (by decide) (wX11_isLet__44 hZ)
noncomputable def vX11_isLet__23 : rx_K := o_ld rx_isR 0 (o_getf 11 8 (o_ld rx_isI 4 (o_ald 0 (o_ld rx_isR 0 (o_getf 11 8 (o_ld rx_isI 2 (o_ald 0 (o_c2 rx_eq vX11_isLet__39 vX11_isLet__43))))))))
set_option maxRecDepth 20000 in
theorem wX11_isLet__23 (hZ : zO b e D A X) : rx_OK (zV b e D A X) mX11_isLet_ 0 23 vX11_isLet__23 := by
  unfold vX11_isLet__23
  refine s_aload_n hZ.1 dX11_isLet__23 rfl ?_
  refine yg11_8 dX11_isLet__24 zw1279 ?_
  refine s_iload hZ.1 dX11_isLet__27 ?_
  refine s_iald (tt := 0) rfl dX11_isLet__29 ?_
  refine s_aload_n hZ.1 dX11_isLet__30 rfl ?_
  refine yg11_8 dX11_isLet__31 zw1279 ?_
  refine s_iload_n hZ.1 dX11_isLet__34 rfl ?_
  refine s_iald (tt := 0) rfl dX11_isLet__35 ?_
  exact s_icmp_ne dX11_isLet__36 (by decide) (wX11_isLet__43 hZ) (wX11_isLet__39 hZ)
noncomputable def vX11_isLet__17 : rx_K := o_ld rx_isI 4 (o_ld rx_isI 2 (o_c2 rx_eq vX11_isLet__39 vX11_isLet__23))
set_option maxRecDepth 20000 in
theorem wX11_isLet__17 (hZ : zO b e D A X) : rx_OK (zV b e D A X) mX11_isLet_ 0 17 vX11_isLet__17 := by
  unfold vX11_isLet__17
  refine s_iload hZ.1 dX11_isLet__17 ?_
  refine s_iload_n hZ.1 dX11_isLet__19 rfl ?_
  exact s_icmp_eq dX11_isLet__20 (by decide) (wX11_isLet__39 hZ) (wX11_isLet__23 hZ)
noncomputable def vX11_isLet__10 : rx_K := o_ld rx_isR 1 (o_getf 7 1 (o_c1 rx_eq vX11_isLet__17 vX11_isLet__45))
set_option maxRecDepth 20000 in
theorem wX11_isLet__10 (hZ : zO b e D A X) : rx_OK (zV b e D A X) mX11_isLet_ 0 10 vX11_isLet__10 := by
  unfold vX11_isLet__10
  refine s_aload_n hZ.1 dX11_isLet__10 rfl ?_
  refine yg7_1 dX11_isLet__11 zw953 ?_
  exact s_if_ne dX11_isLet__14 (by decide) (wX11_isLet__45 hZ) (wX11_isLet__17 hZ)
noncomputable def vX11_isLet__8 : rx_K := o_const 8 (o_ret1 rx_isZ)
set_option maxRecDepth 20000 in
theorem wX11_isLet__8 (hZ : zO b e D A X) : rx_OK (zV b e D A X) mX11_isLet_ 0 8 vX11_isLet__8 := by
  unfold vX11_isLet__8
  refine s_iconst dX11_isLet__8 (by decide +kernel) ?_
  exact s_zret rx_z_ok rfl dX11_isLet__9
noncomputable def vX11_isLet__0 : rx_K := o_ld rx_isR 1 (o_getf 7 1 (o_const 24 (o_c2 rx_eq vX11_isLet__8 vX11_isLet__10)))
set_option maxRecDepth 20000 in
theorem wX11_isLet__0 (hZ : zO b e D A X) : rx_OK (zV b e D A X) mX11_isLet_ 0 0 vX11_isLet__0 := by
  unfold vX11_isLet__0
  refine s_aload_n hZ.1 dX11_isLet__0 rfl ?_
  refine yg7_1 dX11_isLet__1 zw953 ?_
  refine s_iconst dX11_isLet__4 (by decide +kernel) ?_
  exact s_icmp_ne dX11_isLet__5 (by decide) (wX11_isLet__10 hZ) (wX11_isLet__8 hZ)
noncomputable def FX11_isLet_ : List Nat → rx_H → Option (Nat × rx_H) := rx_ent 5 vX11_isLet__0
theorem Met_X11_isLet_ (hZ : zO b e D A X) : rx_Met (zV b e D A X) 0 yX11_isLet_ mX11_isLet_ (FX11_isLet_) := rx_entry hZ.1 (wX11_isLet__0 hZ) (by decide +kernel) rfl (fun h => by cases h)
end ZM0

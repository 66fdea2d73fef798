section ZM57
variable {b : Nat} {e : Nat → Value} {D : va_G} {A : Nat → ClassId} {X : State → Prop}
noncomputable def vX13_usesLeaf_187 (g : Nat → List Nat → rx_H → Option (Nat × rx_H)) : rx_K := o_ret0
set_option maxRecDepth 20000 in
theorem wX13_usesLeaf_187 {dn : Nat} {g : Nat → List Nat → rx_H → Option (Nat × rx_H)} (hZ : zO b e D A X) (hg : ∀ i y M, vl16[i]? = some (y, M) → rx_Met (zV b e D A X) dn y M (g i)) (hd : 3 ≤ dn) : rx_OK (zV b e D A X) mX13_usesLeaf (dn + 1) 187 (vX13_usesLeaf_187 g) := by
  unfold vX13_usesLeaf_187
  exact s_vret rfl dX13_usesLeaf_187
noncomputable def vX13_usesLeaf_154 (g : Nat → List Nat → rx_H → Option (Nat × rx_H)) : rx_K := o_ld rx_isR 0 (o_ld rx_isR 0 (o_getf 13 77 (o_ld rx_isI 1 (o_ald 0 (o_callV 1 13 (g 1) (o_ld rx_isR 0 (o_getf 13 87 (o_ld rx_isI 1 (o_ld rx_isR 0 (o_const 104 (o_ld rx_isR 0 (o_getf 13 75 (o_ld rx_isI 1 (o_ald 1 (o_const 1 (o_const 1 (o_callV 4 13 FX13_useFor (o_ast 0 (fun v => v) rx_isI ((vX13_usesLeaf_187 g))))))))))))))))))))
set_option maxRecDepth 20000 in
theorem wX13_usesLeaf_154 {dn : Nat} {g : Nat → List Nat → rx_H → Option (Nat × rx_H)} (hZ : zO b e D A X) (hg : ∀ i y M, vl16[i]? = some (y, M) → rx_Met (zV b e D A X) dn y M (g i)) (hd : 3 ≤ dn) : rx_OK (zV b e D A X) mX13_usesLeaf (dn + 1) 154 (vX13_usesLeaf_154 g) := by
  unfold vX13_usesLeaf_154
  refine s_aload_n hZ.1 dX13_usesLeaf_154 rfl ?_
  refine s_aload_n hZ.1 dX13_usesLeaf_155 rfl ?_
  refine yg13_77 dX13_usesLeaf_156 zw4198 ?_
  refine s_iload_n hZ.1 dX13_usesLeaf_159 rfl ?_
  refine s_iald (tt := 0) rfl dX13_usesLeaf_160 ?_
  refine s_callV hZ.1 (hg 1 _ _ rfl) (Nat.le_refl _) vy_X13_usesE zcl13 zw3537 zw308 (Or.inl zw3535) dX13_usesLeaf_161 ?_
  refine s_aload_n hZ.1 dX13_usesLeaf_164 rfl ?_
  refine yg13_87 dX13_usesLeaf_165 zw4208 ?_
  refine s_iload_n hZ.1 dX13_usesLeaf_168 rfl ?_
  refine s_aload_n hZ.1 dX13_usesLeaf_169 rfl ?_
  refine s_bipush dX13_usesLeaf_170 (by decide +kernel) ?_
  refine s_aload_n hZ.1 dX13_usesLeaf_172 rfl ?_
  refine yg13_75 dX13_usesLeaf_173 zw4196 ?_
  refine s_iload_n hZ.1 dX13_usesLeaf_176 rfl ?_
  refine s_lald (tt := 1) rfl dX13_usesLeaf_177 ?_
  refine s_lconst dX13_usesLeaf_178 (by decide +kernel) ?_
  refine s_lconst dX13_usesLeaf_179 (by decide +kernel) ?_
  refine s_callV hZ.1 (Met_X13_useFor hZ) (Nat.succ_le_succ (Nat.le_trans (Nat.le_of_ble_eq_true rfl) hd)) vy_X13_useFor zcl13 zw3513 zw302 (Or.inl zw3511) dX13_usesLeaf_180 ?_
  refine s_iast hZ.1 (tt := 0) rfl dX13_usesLeaf_183 ?_
  exact s_goto dX13_usesLeaf_184 (by decide) (wX13_usesLeaf_187 hZ hg hd)
noncomputable def vX13_usesLeaf_137 (g : Nat → List Nat → rx_H → Option (Nat × rx_H)) : rx_K := o_ld rx_isI 1 (o_const 16 (o_ld rx_isR 0 (o_getf 13 75 (o_ld rx_isI 1 (o_ald 1 (o_const 1 (o_const 1 (o_callV 5 13 FX13_useOf (o_ast 0 (fun v => v) rx_isI ((vX13_usesLeaf_187 g)))))))))))
set_option maxRecDepth 20000 in
theorem wX13_usesLeaf_137 {dn : Nat} {g : Nat → List Nat → rx_H → Option (Nat × rx_H)} (hZ : zO b e D A X) (hg : ∀ i y M, vl16[i]? = some (y, M) → rx_Met (zV b e D A X) dn y M (g i)) (hd : 3 ≤ dn) : rx_OK (zV b e D A X) mX13_usesLeaf (dn + 1) 137 (vX13_usesLeaf_137 g) := by
  unfold vX13_usesLeaf_137
  refine s_iload_n hZ.1 dX13_usesLeaf_137 rfl ?_
  refine s_iconst dX13_usesLeaf_138 (by decide +kernel) ?_
  refine s_aload_n hZ.1 dX13_usesLeaf_139 rfl ?_
  refine yg13_75 dX13_usesLeaf_140 zw4196 ?_
  refine s_iload_n hZ.1 dX13_usesLeaf_143 rfl ?_
  refine s_lald (tt := 1) rfl dX13_usesLeaf_144 ?_
  refine s_lconst dX13_usesLeaf_145 (by decide +kernel) ?_
  refine s_lconst dX13_usesLeaf_146 (by decide +kernel) ?_
  refine s_callV hZ.1 (Met_X13_useOf hZ) (Nat.succ_le_succ (Nat.le_trans (Nat.le_of_ble_eq_true rfl) hd)) vy_X13_useOf zcl13 zw3561 zw314 (Or.inl zw3559) dX13_usesLeaf_147 ?_
  refine s_iast hZ.1 (tt := 0) rfl dX13_usesLeaf_150 ?_
  exact s_goto dX13_usesLeaf_151 (by decide) (wX13_usesLeaf_187 hZ hg hd)
noncomputable def vX13_usesLeaf_101 (g : Nat → List Nat → rx_H → Option (Nat × rx_H)) : rx_K := o_ld rx_isR 0 (o_getf 13 87 (o_ld rx_isI 1 (o_ld rx_isR 0 (o_const 8 (o_ld rx_isR 0 (o_getf 13 75 (o_ld rx_isI 1 (o_ald 1 (o_const 1 (o_const 1 (o_callV 4 13 FX13_useFor (o_ast 0 (fun v => v) rx_isI (o_ld rx_isR 0 (o_ld rx_isR 0 (o_getf 13 78 (o_ld rx_isI 1 (o_ald 0 (o_ld rx_isI 1 (o_callV 2 13 (g 0) (o_ld rx_isR 0 (o_getf 13 88 (o_ld rx_isI 1 (o_ld rx_isR 0 ((vX13_usesLeaf_137 g)))))))))))))))))))))))))
set_option maxRecDepth 20000 in
theorem wX13_usesLeaf_101 {dn : Nat} {g : Nat → List Nat → rx_H → Option (Nat × rx_H)} (hZ : zO b e D A X) (hg : ∀ i y M, vl16[i]? = some (y, M) → rx_Met (zV b e D A X) dn y M (g i)) (hd : 3 ≤ dn) : rx_OK (zV b e D A X) mX13_usesLeaf (dn + 1) 101 (vX13_usesLeaf_101 g) := by
  unfold vX13_usesLeaf_101
  refine s_aload_n hZ.1 dX13_usesLeaf_101 rfl ?_
  refine yg13_87 dX13_usesLeaf_102 zw4208 ?_
  refine s_iload_n hZ.1 dX13_usesLeaf_105 rfl ?_
  refine s_aload_n hZ.1 dX13_usesLeaf_106 rfl ?_
  refine s_iconst dX13_usesLeaf_107 (by decide +kernel) ?_
  refine s_aload_n hZ.1 dX13_usesLeaf_108 rfl ?_
  refine yg13_75 dX13_usesLeaf_109 zw4196 ?_
  refine s_iload_n hZ.1 dX13_usesLeaf_112 rfl ?_
  refine s_lald (tt := 1) rfl dX13_usesLeaf_113 ?_
  refine s_lconst dX13_usesLeaf_114 (by decide +kernel) ?_
  refine s_lconst dX13_usesLeaf_115 (by decide +kernel) ?_
  refine s_callV hZ.1 (Met_X13_useFor hZ) (Nat.succ_le_succ (Nat.le_trans (Nat.le_of_ble_eq_true rfl) hd)) vy_X13_useFor zcl13 zw3513 zw302 (Or.inl zw3511) dX13_usesLeaf_116 ?_
  refine s_iast hZ.1 (tt := 0) rfl dX13_usesLeaf_119 ?_
  refine s_aload_n hZ.1 dX13_usesLeaf_120 rfl ?_
  refine s_aload_n hZ.1 dX13_usesLeaf_121 rfl ?_
  refine yg13_78 dX13_usesLeaf_122 zw4199 ?_
  refine s_iload_n hZ.1 dX13_usesLeaf_125 rfl ?_
  refine s_iald (tt := 0) rfl dX13_usesLeaf_126 ?_
  refine s_iload_n hZ.1 dX13_usesLeaf_127 rfl ?_
  refine s_callV hZ.1 (hg 0 _ _ rfl) (Nat.le_refl _) vy_X13_usesArgs zcl13 zw3549 zw311 (Or.inl zw3547) dX13_usesLeaf_128 ?_
  refine s_aload_n hZ.1 dX13_usesLeaf_131 rfl ?_
  refine yg13_88 dX13_usesLeaf_132 zw4209 ?_
  refine s_iload_n hZ.1 dX13_usesLeaf_135 rfl ?_
  refine s_aload_n hZ.1 dX13_usesLeaf_136 rfl ?_
  exact (wX13_usesLeaf_137 hZ hg hd)
noncomputable def vX13_usesLeaf_76 (g : Nat → List Nat → rx_H → Option (Nat × rx_H)) : rx_K := o_ld rx_isR 0 (o_ld rx_isR 0 (o_getf 13 78 (o_ld rx_isI 1 (o_ald 0 (o_ld rx_isI 1 (o_callV 2 13 (g 0) (o_ld rx_isR 0 (o_getf 13 87 (o_ld rx_isI 1 (o_ld rx_isR 0 (o_ld rx_isI 1 (o_callV 1 13 FX13_callUse (o_ast 0 (fun v => v) rx_isI ((vX13_usesLeaf_187 g)))))))))))))))
set_option maxRecDepth 20000 in
theorem wX13_usesLeaf_76 {dn : Nat} {g : Nat → List Nat → rx_H → Option (Nat × rx_H)} (hZ : zO b e D A X) (hg : ∀ i y M, vl16[i]? = some (y, M) → rx_Met (zV b e D A X) dn y M (g i)) (hd : 3 ≤ dn) : rx_OK (zV b e D A X) mX13_usesLeaf (dn + 1) 76 (vX13_usesLeaf_76 g) := by
  unfold vX13_usesLeaf_76
  refine s_aload_n hZ.1 dX13_usesLeaf_76 rfl ?_
  refine s_aload_n hZ.1 dX13_usesLeaf_77 rfl ?_
  refine yg13_78 dX13_usesLeaf_78 zw4199 ?_
  refine s_iload_n hZ.1 dX13_usesLeaf_81 rfl ?_
  refine s_iald (tt := 0) rfl dX13_usesLeaf_82 ?_
  refine s_iload_n hZ.1 dX13_usesLeaf_83 rfl ?_
  refine s_callV hZ.1 (hg 0 _ _ rfl) (Nat.le_refl _) vy_X13_usesArgs zcl13 zw3549 zw311 (Or.inl zw3547) dX13_usesLeaf_84 ?_
  refine s_aload_n hZ.1 dX13_usesLeaf_87 rfl ?_
  refine yg13_87 dX13_usesLeaf_88 zw4208 ?_
  refine s_iload_n hZ.1 dX13_usesLeaf_91 rfl ?_
  refine s_aload_n hZ.1 dX13_usesLeaf_92 rfl ?_
  refine s_iload_n hZ.1 dX13_usesLeaf_93 rfl ?_
  refine s_callV hZ.1 (Met_X13_callUse hZ) (Nat.succ_le_succ (Nat.le_trans (Nat.le_of_ble_eq_true rfl) hd)) vy_X13_callUse zcl13 zw3557 zw313 (Or.inl zw3555) dX13_usesLeaf_94 ?_
  refine s_iast hZ.1 (tt := 0) rfl dX13_usesLeaf_97 ?_
  exact s_goto dX13_usesLeaf_98 (by decide) (wX13_usesLeaf_187 hZ hg hd)
noncomputable def vX13_usesLeaf_61 (g : Nat → List Nat → rx_H → Option (Nat × rx_H)) : rx_K := o_ld rx_isR 0 (o_getf 13 87 (o_ld rx_isI 1 (o_ld rx_isR 0 (o_ld rx_isI 1 (o_const 24 (o_callV 2 13 FX13_fieldUse (o_ast 0 (fun v => v) rx_isI ((vX13_usesLeaf_187 g)))))))))
set_option maxRecDepth 20000 in
theorem wX13_usesLeaf_61 {dn : Nat} {g : Nat → List Nat → rx_H → Option (Nat × rx_H)} (hZ : zO b e D A X) (hg : ∀ i y M, vl16[i]? = some (y, M) → rx_Met (zV b e D A X) dn y M (g i)) (hd : 3 ≤ dn) : rx_OK (zV b e D A X) mX13_usesLeaf (dn + 1) 61 (vX13_usesLeaf_61 g) := by
  unfold vX13_usesLeaf_61
  refine s_aload_n hZ.1 dX13_usesLeaf_61 rfl ?_
  refine yg13_87 dX13_usesLeaf_62 zw4208 ?_
  refine s_iload_n hZ.1 dX13_usesLeaf_65 rfl ?_
  refine s_aload_n hZ.1 dX13_usesLeaf_66 rfl ?_
  refine s_iload_n hZ.1 dX13_usesLeaf_67 rfl ?_
  refine s_iconst dX13_usesLeaf_68 (by decide +kernel) ?_
  refine s_callV hZ.1 (Met_X13_fieldUse hZ) (Nat.succ_le_succ (Nat.le_trans (Nat.le_of_ble_eq_true rfl) hd)) vy_X13_fieldUse zcl13 zw3545 zw310 (Or.inl zw3543) dX13_usesLeaf_69 ?_
  refine s_iast hZ.1 (tt := 0) rfl dX13_usesLeaf_72 ?_
  exact s_goto dX13_usesLeaf_73 (by decide) (wX13_usesLeaf_187 hZ hg hd)
noncomputable def vX13_usesLeaf_52 (g : Nat → List Nat → rx_H → Option (Nat × rx_H)) : rx_K := o_ld rx_isR 0 (o_getf 13 82 (o_ld rx_isI 1 (o_ald 0 (o_c1 rx_lt (vX13_usesLeaf_61 g) (vX13_usesLeaf_187 g)))))
set_option maxRecDepth 20000 in
theorem wX13_usesLeaf_52 {dn : Nat} {g : Nat → List Nat → rx_H → Option (Nat × rx_H)} (hZ : zO b e D A X) (hg : ∀ i y M, vl16[i]? = some (y, M) → rx_Met (zV b e D A X) dn y M (g i)) (hd : 3 ≤ dn) : rx_OK (zV b e D A X) mX13_usesLeaf (dn + 1) 52 (vX13_usesLeaf_52 g) := by
  unfold vX13_usesLeaf_52
  refine s_aload_n hZ.1 dX13_usesLeaf_52 rfl ?_
  refine yg13_82 dX13_usesLeaf_53 zw4203 ?_
  refine s_iload_n hZ.1 dX13_usesLeaf_56 rfl ?_
  refine s_iald (tt := 0) rfl dX13_usesLeaf_57 ?_
  exact s_if_ge dX13_usesLeaf_58 (by decide) (wX13_usesLeaf_187 hZ hg hd) (wX13_usesLeaf_61 hZ hg hd)
noncomputable def vX13_usesLeaf_0 (g : Nat → List Nat → rx_H → Option (Nat × rx_H)) : rx_K := o_ld rx_isR 0 (o_getf 13 70 (o_ld rx_isI 1 (o_ald 0 (o_sw 3 [52, 76, 52, 76, 76, 76, 101, 154] 187 (rx_pk [(52, (vX13_usesLeaf_52 g)), (76, (vX13_usesLeaf_76 g)), (101, (vX13_usesLeaf_101 g)), (154, (vX13_usesLeaf_154 g)), (187, (vX13_usesLeaf_187 g))])))))
set_option maxRecDepth 20000 in
theorem wX13_usesLeaf_0 {dn : Nat} {g : Nat → List Nat → rx_H → Option (Nat × rx_H)} (hZ : zO b e D A X) (hg : ∀ i y M, vl16[i]? = some (y, M) → rx_Met (zV b e D A X) dn y M (g i)) (hd : 3 ≤ dn) : rx_OK (zV b e D A X) mX13_usesLeaf (dn + 1) 0 (vX13_usesLeaf_0 g) := by
  unfold vX13_usesLeaf_0
  refine s_aload_n hZ.1 dX13_usesLeaf_0 rfl ?_
  refine yg13_70 dX13_usesLeaf_1 zw4191 ?_
  refine s_iload_n hZ.1 dX13_usesLeaf_4 rfl ?_
  refine s_iald (tt := 0) rfl dX13_usesLeaf_5 ?_
  exact s_sw dX13_usesLeaf_6 (by decide) (by decide) (by decide) (by decide) (by decide) (fun b _ => (rx_pk_ok (List.forall_mem_cons.mpr ⟨(wX13_usesLeaf_52 hZ hg hd), List.forall_mem_cons.mpr ⟨(wX13_usesLeaf_76 hZ hg hd), List.forall_mem_cons.mpr ⟨(wX13_usesLeaf_101 hZ hg hd), List.forall_mem_cons.mpr ⟨(wX13_usesLeaf_154 hZ hg hd), List.forall_mem_cons.mpr ⟨(wX13_usesLeaf_187 hZ hg hd), fun _ h => absurd h List.not_mem_nil⟩⟩⟩⟩⟩)) b)
noncomputable def FX13_usesLeaf (g : Nat → List Nat → rx_H → Option (Nat × rx_H)) : List Nat → rx_H → Option (Nat × rx_H) := rx_ent 2 (vX13_usesLeaf_0 g)
theorem Met_X13_usesLeaf {dn : Nat} {g : Nat → List Nat → rx_H → Option (Nat × rx_H)} (hZ : zO b e D A X) (hg : ∀ i y M, vl16[i]? = some (y, M) → rx_Met (zV b e D A X) dn y M (g i)) (hd : 3 ≤ dn) : rx_Met (zV b e D A X) (dn + 1) yX13_usesLeaf mX13_usesLeaf (FX13_usesLeaf g) := rx_entry hZ.1 (wX13_usesLeaf_0 hZ hg hd) (by decide +kernel) rfl (fun h => by cases h)
noncomputable def q16 (n : Nat) : Nat → List Nat → rx_H → Option (Nat × rx_H) := Nat.rec (fun _ _ _ => none) (fun _ ih i => rx_nth [FX13_usesArgs ih, FX13_usesE ih, FX13_usesLeaf ih] i (fun _ _ => none)) n
theorem q16_ok (hZ : zO b e D A X) : ∀ n i y M, vl16[i]? = some (y, M) → rx_Met (zV b e D A X) (3 + n) y M (q16 n i)
  | 0 => fun i y M _ As h r h2 hf => by cases hf
  | n + 1 => fun i y M h => by
    match i, h with
    | 0, h => cases h; exact Met_X13_usesArgs hZ (q16_ok hZ n) (Nat.le_add_right 3 n)
    | 1, h => cases h; exact Met_X13_usesE hZ (q16_ok hZ n) (Nat.le_add_right 3 n)
    | 2, h => cases h; exact Met_X13_usesLeaf hZ (q16_ok hZ n) (Nat.le_add_right 3 n)
    | _ + 3, h => exact absurd h (by simp)
abbrev mX13_usesPut : rx_M := (RX13, cX13_usesPut, 3, none, false)
theorem vy_X13_usesPut : rx_Y (zV b e D A X) yX13_usesPut mX13_usesPut 1 := ⟨zw3570, zw431, by decide, by decide +kernel, by decide +kernel, by decide +kernel⟩
noncomputable def vX13_usesPut_75 : rx_K := o_ret0
set_option maxRecDepth 20000 in
theorem wX13_usesPut_75 (hZ : zO b e D A X) : rx_OK (zV b e D A X) mX13_usesPut 204 75 vX13_usesPut_75 := by
  unfold vX13_usesPut_75
  exact s_vret rfl dX13_usesPut_75
noncomputable def vX13_usesPut_63 : rx_K := o_ld rx_isR 0 (o_getf 13 87 (o_ld rx_isI 1 (o_ld rx_isR 0 (o_ld rx_isI 2 (o_const 32 (o_callV 2 13 FX13_fieldUse (o_ast 0 (fun v => v) rx_isI (vX13_usesPut_75))))))))
set_option maxRecDepth 20000 in
theorem wX13_usesPut_63 (hZ : zO b e D A X) : rx_OK (zV b e D A X) mX13_usesPut 204 63 vX13_usesPut_63 := by
  unfold vX13_usesPut_63
  refine s_aload_n hZ.1 dX13_usesPut_63 rfl ?_
  refine yg13_87 dX13_usesPut_64 zw4208 ?_
  refine s_iload_n hZ.1 dX13_usesPut_67 rfl ?_
  refine s_aload_n hZ.1 dX13_usesPut_68 rfl ?_
  refine s_iload_n hZ.1 dX13_usesPut_69 rfl ?_
  refine s_iconst dX13_usesPut_70 (by decide +kernel) ?_
  refine s_callV hZ.1 (Met_X13_fieldUse hZ) (Nat.le_of_ble_eq_true rfl) vy_X13_fieldUse zcl13 zw3545 zw310 (Or.inl zw3543) dX13_usesPut_71 ?_
  refine s_iast hZ.1 (tt := 0) rfl dX13_usesPut_74 ?_
  exact (wX13_usesPut_75 hZ)
noncomputable def vX13_usesPut_28 : rx_K := o_ld rx_isR 0 (o_ld rx_isR 0 (o_getf 13 78 (o_ld rx_isI 1 (o_ald 0 (o_callV 1 13 (q16 200 1) (o_ld rx_isR 0 (o_ld rx_isR 0 (o_getf 13 78 (o_ld rx_isI 1 (o_ald 0 (o_ld rx_isR 0 (o_getf 13 84 (o_ld rx_isI 2 (o_ald 1 (o_callV 2 13 FX13_fit (o_ld rx_isR 0 (o_getf 13 82 (o_ld rx_isI 2 (o_ald 0 (o_c1 rx_lt vX13_usesPut_63 vX13_usesPut_75))))))))))))))))))))
set_option maxRecDepth 20000 in
theorem wX13_usesPut_28 (hZ : zO b e D A X) : rx_OK (zV b e D A X) mX13_usesPut 204 28 vX13_usesPut_28 := by
  unfold vX13_usesPut_28
  refine s_aload_n hZ.1 dX13_usesPut_28 rfl ?_
  refine s_aload_n hZ.1 dX13_usesPut_29 rfl ?_
  refine yg13_78 dX13_usesPut_30 zw4199 ?_
  refine s_iload_n hZ.1 dX13_usesPut_33 rfl ?_
  refine s_iald (tt := 0) rfl dX13_usesPut_34 ?_
  refine s_callV hZ.1 (q16_ok hZ 200 1 _ _ rfl) (Nat.le_of_ble_eq_true rfl) vy_X13_usesE zcl13 zw3537 zw308 (Or.inl zw3535) dX13_usesPut_35 ?_
  refine s_aload_n hZ.1 dX13_usesPut_38 rfl ?_
  refine s_aload_n hZ.1 dX13_usesPut_39 rfl ?_
  refine yg13_78 dX13_usesPut_40 zw4199 ?_
  refine s_iload_n hZ.1 dX13_usesPut_43 rfl ?_
  refine s_iald (tt := 0) rfl dX13_usesPut_44 ?_
  refine s_aload_n hZ.1 dX13_usesPut_45 rfl ?_
  refine yg13_84 dX13_usesPut_46 zw4205 ?_
  refine s_iload_n hZ.1 dX13_usesPut_49 rfl ?_
  refine s_lald (tt := 1) rfl dX13_usesPut_50 ?_
  refine s_callV hZ.1 (Met_X13_fit hZ) (Nat.le_of_ble_eq_true rfl) vy_X13_fit zcl13 zw3553 zw312 (Or.inl zw3551) dX13_usesPut_51 ?_
  refine s_aload_n hZ.1 dX13_usesPut_54 rfl ?_
  refine yg13_82 dX13_usesPut_55 zw4203 ?_
  refine s_iload_n hZ.1 dX13_usesPut_58 rfl ?_
  refine s_iald (tt := 0) rfl dX13_usesPut_59 ?_
  exact s_if_ge dX13_usesPut_60 (by decide) (wX13_usesPut_75 hZ) (wX13_usesPut_63 hZ)
noncomputable def vX13_usesPut_18 : rx_K := o_ld rx_isR 0 (o_ld rx_isR 0 (o_getf 13 77 (o_ld rx_isI 2 (o_ald 0 (o_callV 1 13 (q16 200 1) (vX13_usesPut_28))))))
set_option maxRecDepth 20000 in
theorem wX13_usesPut_18 (hZ : zO b e D A X) : rx_OK (zV b e D A X) mX13_usesPut 204 18 vX13_usesPut_18 := by
  unfold vX13_usesPut_18
  refine s_aload_n hZ.1 dX13_usesPut_18 rfl ?_
  refine s_aload_n hZ.1 dX13_usesPut_19 rfl ?_
  refine yg13_77 dX13_usesPut_20 zw4198 ?_
  refine s_iload_n hZ.1 dX13_usesPut_23 rfl ?_
  refine s_iald (tt := 0) rfl dX13_usesPut_24 ?_
  refine s_callV hZ.1 (q16_ok hZ 200 1 _ _ rfl) (Nat.le_of_ble_eq_true rfl) vy_X13_usesE zcl13 zw3537 zw308 (Or.inl zw3535) dX13_usesPut_25 ?_
  exact (wX13_usesPut_28 hZ)
noncomputable def vX13_usesPut_0 : rx_K := o_ld rx_isR 0 (o_getf 13 77 (o_ld rx_isI 1 (o_ald 0 (o_st rx_isI 2 (o_ld rx_isR 0 (o_getf 13 70 (o_ld rx_isI 2 (o_ald 0 (o_const 96 (o_c2 rx_eq vX13_usesPut_18 vX13_usesPut_28))))))))))
set_option maxRecDepth 20000 in
theorem wX13_usesPut_0 (hZ : zO b e D A X) : rx_OK (zV b e D A X) mX13_usesPut 204 0 vX13_usesPut_0 := by
  unfold vX13_usesPut_0
  refine s_aload_n hZ.1 dX13_usesPut_0 rfl ?_
  refine yg13_77 dX13_usesPut_1 zw4198 ?_
  refine s_iload_n hZ.1 dX13_usesPut_4 rfl ?_
  refine s_iald (tt := 0) rfl dX13_usesPut_5 ?_
  refine s_istore_n hZ.1 dX13_usesPut_6 rfl (Nat.le_of_ble_eq_true rfl) ?_
  refine s_aload_n hZ.1 dX13_usesPut_7 rfl ?_
  refine yg13_70 dX13_usesPut_8 zw4191 ?_
  refine s_iload_n hZ.1 dX13_usesPut_11 rfl ?_
  refine s_iald (tt := 0) rfl dX13_usesPut_12 ?_
  refine s_bipush dX13_usesPut_13 (by decide +kernel) ?_
  exact s_icmp_ne dX13_usesPut_15 (by decide) (wX13_usesPut_28 hZ) (wX13_usesPut_18 hZ)
noncomputable def FX13_usesPut : List Nat → rx_H → Option (Nat × rx_H) := rx_ent 3 vX13_usesPut_0
theorem Met_X13_usesPut (hZ : zO b e D A X) : rx_Met (zV b e D A X) 204 yX13_usesPut mX13_usesPut (FX13_usesPut) := rx_entry hZ.1 (wX13_usesPut_0 hZ) (by decide +kernel) rfl (fun h => by cases h)
abbrev mX13_usesS : rx_M := (RX13, cX13_usesS, 3, none, false)
theorem vy_X13_usesS : rx_Y (zV b e D A X) yX13_usesS mX13_usesS 1 := ⟨zw3566, zw431, by decide, by decide +kernel, by decide +kernel, by decide +kernel⟩
abbrev vl17 : List (MethodName × rx_M) := [(yX13_usesS, mX13_usesS)]
noncomputable def vX13_usesS_354 (g : Nat → List Nat → rx_H → Option (Nat × rx_H)) (j : Nat → rx_K) : rx_K := o_ret0
set_option maxRecDepth 20000 in
theorem wX13_usesS_354 {dn : Nat} {g : Nat → List Nat → rx_H → Option (Nat × rx_H)} (hZ : zO b e D A X) (hg : ∀ i y M, vl17[i]? = some (y, M) → rx_Met (zV b e D A X) dn y M (g i)) (hd : 205 ≤ dn) (j : Nat → rx_K) (hj : ∀ k pc, [71][k]? = some pc → rx_OK (zV b e D A X) mX13_usesS (dn + 1) pc (j k)) : rx_OK (zV b e D A X) mX13_usesS (dn + 1) 354 (vX13_usesS_354 g j) := by
  unfold vX13_usesS_354
  exact s_vret rfl dX13_usesS_354
noncomputable def vX13_usesS_344 (g : Nat → List Nat → rx_H → Option (Nat × rx_H)) (j : Nat → rx_K) : rx_K := o_ld rx_isR 0 (o_ld rx_isR 0 (o_getf 13 77 (o_ld rx_isI 1 (o_ald 0 (o_callV 1 13 (q16 200 1) ((vX13_usesS_354 g j)))))))
set_option maxRecDepth 20000 in
theorem wX13_usesS_344 {dn : Nat} {g : Nat → List Nat → rx_H → Option (Nat × rx_H)} (hZ : zO b e D A X) (hg : ∀ i y M, vl17[i]? = some (y, M) → rx_Met (zV b e D A X) dn y M (g i)) (hd : 205 ≤ dn) (j : Nat → rx_K) (hj : ∀ k pc, [71][k]? = some pc → rx_OK (zV b e D A X) mX13_usesS (dn + 1) pc (j k)) : rx_OK (zV b e D A X) mX13_usesS (dn + 1) 344 (vX13_usesS_344 g j) := by
  unfold vX13_usesS_344
  refine s_aload_n hZ.1 dX13_usesS_344 rfl ?_
  refine s_aload_n hZ.1 dX13_usesS_345 rfl ?_
  refine yg13_77 dX13_usesS_346 zw4198 ?_
  refine s_iload_n hZ.1 dX13_usesS_349 rfl ?_
  refine s_iald (tt := 0) rfl dX13_usesS_350 ?_
  refine s_callV hZ.1 (q16_ok hZ 200 1 _ _ rfl) (Nat.succ_le_succ (Nat.le_trans (Nat.le_of_ble_eq_true rfl) hd)) vy_X13_usesE zcl13 zw3537 zw308 (Or.inl zw3535) dX13_usesS_351 ?_
  exact (wX13_usesS_354 hZ hg hd j hj)
noncomputable def vX13_usesS_336 (g : Nat → List Nat → rx_H → Option (Nat × rx_H)) (j : Nat → rx_K) : rx_K := o_ld rx_isR 0 (o_ld rx_isI 1 (o_callV 1 13 FX13_usesPut ((vX13_usesS_354 g j))))
set_option maxRecDepth 20000 in
theorem wX13_usesS_336 {dn : Nat} {g : Nat → List Nat → rx_H → Option (Nat × rx_H)} (hZ : zO b e D A X) (hg : ∀ i y M, vl17[i]? = some (y, M) → rx_Met (zV b e D A X) dn y M (g i)) (hd : 205 ≤ dn) (j : Nat → rx_K) (hj : ∀ k pc, [71][k]? = some pc → rx_OK (zV b e D A X) mX13_usesS (dn + 1) pc (j k)) : rx_OK (zV b e D A X) mX13_usesS (dn + 1) 336 (vX13_usesS_336 g j) := by
  unfold vX13_usesS_336
  refine s_aload_n hZ.1 dX13_usesS_336 rfl ?_
  refine s_iload_n hZ.1 dX13_usesS_337 rfl ?_
  refine s_callV hZ.1 (Met_X13_usesPut hZ) (Nat.succ_le_succ (Nat.le_trans (Nat.le_of_ble_eq_true rfl) hd)) vy_X13_usesPut zcl13 zw3569 zw316 (Or.inl zw3567) dX13_usesS_338 ?_
  exact s_goto dX13_usesS_341 (by decide) (wX13_usesS_354 hZ hg hd j hj)
noncomputable def vX13_usesS_332 (g : Nat → List Nat → rx_H → Option (Nat × rx_H)) (j : Nat → rx_K) : rx_K := o_ast 0 (fun v => v) rx_isI ((vX13_usesS_354 g j))
set_option maxRecDepth 20000 in
theorem wX13_usesS_332 {dn : Nat} {g : Nat → List Nat → rx_H → Option (Nat × rx_H)} (hZ : zO b e D A X) (hg : ∀ i y M, vl17[i]? = some (y, M) → rx_Met (zV b e D A X) dn y M (g i)) (hd : 205 ≤ dn) (j : Nat → rx_K) (hj : ∀ k pc, [71][k]? = some pc → rx_OK (zV b e D A X) mX13_usesS (dn + 1) pc (j k)) : rx_OK (zV b e D A X) mX13_usesS (dn + 1) 332 (vX13_usesS_332 g j) := by
  unfold vX13_usesS_332
  refine s_iast hZ.1 (tt := 0) rfl dX13_usesS_332 ?_
  exact s_goto dX13_usesS_333 (by decide) (wX13_usesS_354 hZ hg hd j hj)
noncomputable def vX13_usesS_315 (g : Nat → List Nat → rx_H → Option (Nat × rx_H)) (j : Nat → rx_K) : rx_K := o_ld rx_isR 0 (o_ld rx_isI 1 (o_const 16 (o_ld rx_isR 0 (o_getf 13 28 (o_ld rx_isR 0 (o_getf 13 109 (o_ald 1 (o_const 1 (o_const 1 (o_callV 5 13 FX13_useOf ((vX13_usesS_332 g j))))))))))))
set_option maxRecDepth 20000 in
theorem wX13_usesS_315 {dn : Nat} {g : Nat → List Nat → rx_H → Option (Nat × rx_H)} (hZ : zO b e D A X) (hg : ∀ i y M, vl17[i]? = some (y, M) → rx_Met (zV b e D A X) dn y M (g i)) (hd : 205 ≤ dn) (j : Nat → rx_K) (hj : ∀ k pc, [71][k]? = some pc → rx_OK (zV b e D A X) mX13_usesS (dn + 1) pc (j k)) : rx_OK (zV b e D A X) mX13_usesS (dn + 1) 315 (vX13_usesS_315 g j) := by
  unfold vX13_usesS_315
  refine s_aload_n hZ.1 dX13_usesS_315 rfl ?_
  refine s_iload_n hZ.1 dX13_usesS_316 rfl ?_
  refine s_iconst dX13_usesS_317 (by decide +kernel) ?_
  refine s_aload_n hZ.1 dX13_usesS_318 rfl ?_
  refine yg13_28 dX13_usesS_319 zw4149 ?_
  refine s_aload_n hZ.1 dX13_usesS_322 rfl ?_
  refine yg13_109 dX13_usesS_323 zw4229 ?_
  refine s_lald (tt := 1) rfl dX13_usesS_326 ?_
  refine s_lconst dX13_usesS_327 (by decide +kernel) ?_
  refine s_lconst dX13_usesS_328 (by decide +kernel) ?_
  refine s_callV hZ.1 (Met_X13_useOf hZ) (Nat.succ_le_succ (Nat.le_trans (Nat.le_of_ble_eq_true rfl) hd)) vy_X13_useOf zcl13 zw3561 zw314 (Or.inl zw3559) dX13_usesS_329 ?_
  exact (wX13_usesS_332 hZ hg hd j hj)
noncomputable def vX13_usesS_310 (g : Nat → List Nat → rx_H → Option (Nat × rx_H)) (j : Nat → rx_K) : rx_K := o_const 34359738352 ((vX13_usesS_332 g j))
set_option maxRecDepth 20000 in
theorem wX13_usesS_310 {dn : Nat} {g : Nat → List Nat → rx_H → Option (Nat × rx_H)} (hZ : zO b e D A X) (hg : ∀ i y M, vl17[i]? = some (y, M) → rx_Met (zV b e D A X) dn y M (g i)) (hd : 205 ≤ dn) (j : Nat → rx_K) (hj : ∀ k pc, [71][k]? = some pc → rx_OK (zV b e D A X) mX13_usesS (dn + 1) pc (j k)) : rx_OK (zV b e D A X) mX13_usesS (dn + 1) 310 (vX13_usesS_310 g j) := by
  unfold vX13_usesS_310
  refine s_bipush dX13_usesS_310 (by decide +kernel) ?_
  exact s_goto dX13_usesS_312 (by decide) (wX13_usesS_332 hZ hg hd j hj)
noncomputable def vX13_usesS_280 (g : Nat → List Nat → rx_H → Option (Nat × rx_H)) (j : Nat → rx_K) : rx_K := o_ld rx_isR 0 (o_ld rx_isR 0 (o_getf 13 77 (o_ld rx_isI 1 (o_ald 0 (o_ld rx_isI 1 (o_callV 2 13 (q16 200 0) (o_ld rx_isR 0 (o_getf 13 87 (o_ld rx_isI 1 (o_ld rx_isR 0 (o_ld rx_isR 0 (o_getf 13 109 (o_callV 1 13 FX13_parent (o_const 1632 (o_c2 rx_eq (vX13_usesS_310 g j) (vX13_usesS_315 g j))))))))))))))))
set_option maxRecDepth 20000 in
theorem wX13_usesS_280 {dn : Nat} {g : Nat → List Nat → rx_H → Option (Nat × rx_H)} (hZ : zO b e D A X) (hg : ∀ i y M, vl17[i]? = some (y, M) → rx_Met (zV b e D A X) dn y M (g i)) (hd : 205 ≤ dn) (j : Nat → rx_K) (hj : ∀ k pc, [71][k]? = some pc → rx_OK (zV b e D A X) mX13_usesS (dn + 1) pc (j k)) : rx_OK (zV b e D A X) mX13_usesS (dn + 1) 280 (vX13_usesS_280 g j) := by
  unfold vX13_usesS_280
  refine s_aload_n hZ.1 dX13_usesS_280 rfl ?_
  refine s_aload_n hZ.1 dX13_usesS_281 rfl ?_
  refine yg13_77 dX13_usesS_282 zw4198 ?_
  refine s_iload_n hZ.1 dX13_usesS_285 rfl ?_
  refine s_iald (tt := 0) rfl dX13_usesS_286 ?_
  refine s_iload_n hZ.1 dX13_usesS_287 rfl ?_
  refine s_callV hZ.1 (q16_ok hZ 200 0 _ _ rfl) (Nat.succ_le_succ (Nat.le_trans (Nat.le_of_ble_eq_true rfl) hd)) vy_X13_usesArgs zcl13 zw3549 zw311 (Or.inl zw3547) dX13_usesS_288 ?_
  refine s_aload_n hZ.1 dX13_usesS_291 rfl ?_
  refine yg13_87 dX13_usesS_292 zw4208 ?_
  refine s_iload_n hZ.1 dX13_usesS_295 rfl ?_
  refine s_aload_n hZ.1 dX13_usesS_296 rfl ?_
  refine s_aload_n hZ.1 dX13_usesS_297 rfl ?_
  refine yg13_109 dX13_usesS_298 zw4229 ?_
  refine s_callV hZ.1 (Met_X13_parent hZ) (Nat.succ_le_succ (Nat.le_trans (Nat.le_of_ble_eq_true rfl) hd)) vy_X13_parent zcl13 zw3220 zw233 (Or.inl zw3218) dX13_usesS_301 ?_
  refine s_sipush dX13_usesS_304 (by decide +kernel) ?_
  exact s_icmp_ne dX13_usesS_307 (by decide) (wX13_usesS_315 hZ hg hd j hj) (wX13_usesS_310 hZ hg hd j hj)
noncomputable def vX13_usesS_274 (g : Nat → List Nat → rx_H → Option (Nat × rx_H)) (j : Nat → rx_K) : rx_K := o_callV 1 13 (g 0) ((vX13_usesS_354 g j))
set_option maxRecDepth 20000 in
theorem wX13_usesS_274 {dn : Nat} {g : Nat → List Nat → rx_H → Option (Nat × rx_H)} (hZ : zO b e D A X) (hg : ∀ i y M, vl17[i]? = some (y, M) → rx_Met (zV b e D A X) dn y M (g i)) (hd : 205 ≤ dn) (j : Nat → rx_K) (hj : ∀ k pc, [71][k]? = some pc → rx_OK (zV b e D A X) mX13_usesS (dn + 1) pc (j k)) : rx_OK (zV b e D A X) mX13_usesS (dn + 1) 274 (vX13_usesS_274 g j) := by
  unfold vX13_usesS_274
  refine s_callV hZ.1 (hg 0 _ _ rfl) (Nat.le_refl _) vy_X13_usesS zcl13 zw3565 zw315 (Or.inl zw3563) dX13_usesS_274 ?_
  exact s_goto dX13_usesS_277 (by decide) (wX13_usesS_354 hZ hg hd j hj)
noncomputable def vX13_usesS_237 (g : Nat → List Nat → rx_H → Option (Nat × rx_H)) (j : Nat → rx_K) : rx_K := o_ld rx_isR 0 (o_ld rx_isR 0 (o_getf 13 77 (o_ld rx_isI 1 (o_ald 0 (o_callV 1 13 (g 0) (o_ld rx_isR 0 (o_getf 13 87 (o_ld rx_isI 1 (o_ld rx_isR 0 (o_const 120 (o_ld rx_isR 0 (o_getf 13 75 (o_ld rx_isI 1 (o_ald 1 (o_const 1 (o_const 1 (o_callV 4 13 FX13_useFor (o_ast 0 (fun v => v) rx_isI (o_ld rx_isR 0 (o_ld rx_isR 0 (o_getf 13 78 (o_ld rx_isI 1 (o_ald 0 ((vX13_usesS_274 g j)))))))))))))))))))))))))
set_option maxRecDepth 20000 in
theorem wX13_usesS_237 {dn : Nat} {g : Nat → List Nat → rx_H → Option (Nat × rx_H)} (hZ : zO b e D A X) (hg : ∀ i y M, vl17[i]? = some (y, M) → rx_Met (zV b e D A X) dn y M (g i)) (hd : 205 ≤ dn) (j : Nat → rx_K) (hj : ∀ k pc, [71][k]? = some pc → rx_OK (zV b e D A X) mX13_usesS (dn + 1) pc (j k)) : rx_OK (zV b e D A X) mX13_usesS (dn + 1) 237 (vX13_usesS_237 g j) := by
  unfold vX13_usesS_237
  refine s_aload_n hZ.1 dX13_usesS_237 rfl ?_
  refine s_aload_n hZ.1 dX13_usesS_238 rfl ?_
  refine yg13_77 dX13_usesS_239 zw4198 ?_
  refine s_iload_n hZ.1 dX13_usesS_242 rfl ?_
  refine s_iald (tt := 0) rfl dX13_usesS_243 ?_
  refine s_callV hZ.1 (hg 0 _ _ rfl) (Nat.le_refl _) vy_X13_usesS zcl13 zw3565 zw315 (Or.inl zw3563) dX13_usesS_244 ?_
  refine s_aload_n hZ.1 dX13_usesS_247 rfl ?_
  refine yg13_87 dX13_usesS_248 zw4208 ?_
  refine s_iload_n hZ.1 dX13_usesS_251 rfl ?_
  refine s_aload_n hZ.1 dX13_usesS_252 rfl ?_
  refine s_bipush dX13_usesS_253 (by decide +kernel) ?_
  refine s_aload_n hZ.1 dX13_usesS_255 rfl ?_
  refine yg13_75 dX13_usesS_256 zw4196 ?_
  refine s_iload_n hZ.1 dX13_usesS_259 rfl ?_
  refine s_lald (tt := 1) rfl dX13_usesS_260 ?_
  refine s_lconst dX13_usesS_261 (by decide +kernel) ?_
  refine s_lconst dX13_usesS_262 (by decide +kernel) ?_
  refine s_callV hZ.1 (Met_X13_useFor hZ) (Nat.succ_le_succ (Nat.le_trans (Nat.le_of_ble_eq_true rfl) hd)) vy_X13_useFor zcl13 zw3513 zw302 (Or.inl zw3511) dX13_usesS_263 ?_
  refine s_iast hZ.1 (tt := 0) rfl dX13_usesS_266 ?_
  refine s_aload_n hZ.1 dX13_usesS_267 rfl ?_
  refine s_aload_n hZ.1 dX13_usesS_268 rfl ?_
  refine yg13_78 dX13_usesS_269 zw4199 ?_
  refine s_iload_n hZ.1 dX13_usesS_272 rfl ?_
  refine s_iald (tt := 0) rfl dX13_usesS_273 ?_
  exact (wX13_usesS_274 hZ hg hd j hj)
noncomputable def vX13_usesS_211 (g : Nat → List Nat → rx_H → Option (Nat × rx_H)) (j : Nat → rx_K) : rx_K := o_ld rx_isR 0 (o_ld rx_isR 0 (o_getf 13 77 (o_ld rx_isI 1 (o_ald 0 (o_callV 1 13 (q16 200 1) (o_ld rx_isR 0 (o_ld rx_isR 0 (o_getf 13 77 (o_ld rx_isI 1 (o_ald 0 (o_const 18446744073765230689 (o_callV 2 13 FX13_fit ((vX13_usesS_354 g j))))))))))))))
set_option maxRecDepth 20000 in
theorem wX13_usesS_211 {dn : Nat} {g : Nat → List Nat → rx_H → Option (Nat × rx_H)} (hZ : zO b e D A X) (hg : ∀ i y M, vl17[i]? = some (y, M) → rx_Met (zV b e D A X) dn y M (g i)) (hd : 205 ≤ dn) (j : Nat → rx_K) (hj : ∀ k pc, [71][k]? = some pc → rx_OK (zV b e D A X) mX13_usesS (dn + 1) pc (j k)) : rx_OK (zV b e D A X) mX13_usesS (dn + 1) 211 (vX13_usesS_211 g j) := by
  unfold vX13_usesS_211
  refine s_aload_n hZ.1 dX13_usesS_211 rfl ?_
  refine s_aload_n hZ.1 dX13_usesS_212 rfl ?_
  refine yg13_77 dX13_usesS_213 zw4198 ?_
  refine s_iload_n hZ.1 dX13_usesS_216 rfl ?_
  refine s_iald (tt := 0) rfl dX13_usesS_217 ?_
  refine s_callV hZ.1 (q16_ok hZ 200 1 _ _ rfl) (Nat.succ_le_succ (Nat.le_trans (Nat.le_of_ble_eq_true rfl) hd)) vy_X13_usesE zcl13 zw3537 zw308 (Or.inl zw3535) dX13_usesS_218 ?_
  refine s_aload_n hZ.1 dX13_usesS_221 rfl ?_
  refine s_aload_n hZ.1 dX13_usesS_222 rfl ?_
  refine yg13_77 dX13_usesS_223 zw4198 ?_
  refine s_iload_n hZ.1 dX13_usesS_226 rfl ?_
  refine s_iald (tt := 0) rfl dX13_usesS_227 ?_
  refine s_ldc2 dX13_usesS_228 zw3189 (by decide +kernel) ?_
  refine s_callV hZ.1 (Met_X13_fit hZ) (Nat.succ_le_succ (Nat.le_trans (Nat.le_of_ble_eq_true rfl) hd)) vy_X13_fit zcl13 zw3553 zw312 (Or.inl zw3551) dX13_usesS_231 ?_
  exact s_goto dX13_usesS_234 (by decide) (wX13_usesS_354 hZ hg hd j hj)
noncomputable def vX13_usesS_179 (g : Nat → List Nat → rx_H → Option (Nat × rx_H)) (j : Nat → rx_K) : rx_K := o_ld rx_isR 0 (o_ld rx_isR 0 (o_getf 13 77 (o_ld rx_isI 1 (o_ald 0 (o_callV 1 13 (q16 200 1) (o_ld rx_isR 0 (o_ld rx_isR 0 (o_getf 13 77 (o_ld rx_isI 1 (o_ald 0 (o_ld rx_isR 0 (o_getf 13 53 (o_ld rx_isR 0 (o_getf 13 110 (o_ald 1 (o_callV 2 13 FX13_fit ((vX13_usesS_354 g j))))))))))))))))))
set_option maxRecDepth 20000 in
theorem wX13_usesS_179 {dn : Nat} {g : Nat → List Nat → rx_H → Option (Nat × rx_H)} (hZ : zO b e D A X) (hg : ∀ i y M, vl17[i]? = some (y, M) → rx_Met (zV b e D A X) dn y M (g i)) (hd : 205 ≤ dn) (j : Nat → rx_K) (hj : ∀ k pc, [71][k]? = some pc → rx_OK (zV b e D A X) mX13_usesS (dn + 1) pc (j k)) : rx_OK (zV b e D A X) mX13_usesS (dn + 1) 179 (vX13_usesS_179 g j) := by
  unfold vX13_usesS_179
  refine s_aload_n hZ.1 dX13_usesS_179 rfl ?_
  refine s_aload_n hZ.1 dX13_usesS_180 rfl ?_
  refine yg13_77 dX13_usesS_181 zw4198 ?_
  refine s_iload_n hZ.1 dX13_usesS_184 rfl ?_
  refine s_iald (tt := 0) rfl dX13_usesS_185 ?_
  refine s_callV hZ.1 (q16_ok hZ 200 1 _ _ rfl) (Nat.succ_le_succ (Nat.le_trans (Nat.le_of_ble_eq_true rfl) hd)) vy_X13_usesE zcl13 zw3537 zw308 (Or.inl zw3535) dX13_usesS_186 ?_
  refine s_aload_n hZ.1 dX13_usesS_189 rfl ?_
  refine s_aload_n hZ.1 dX13_usesS_190 rfl ?_
  refine yg13_77 dX13_usesS_191 zw4198 ?_
  refine s_iload_n hZ.1 dX13_usesS_194 rfl ?_
  refine s_iald (tt := 0) rfl dX13_usesS_195 ?_
  refine s_aload_n hZ.1 dX13_usesS_196 rfl ?_
  refine yg13_53 dX13_usesS_197 zw4174 ?_
  refine s_aload_n hZ.1 dX13_usesS_200 rfl ?_
  refine yg13_110 dX13_usesS_201 zw4230 ?_
  refine s_lald (tt := 1) rfl dX13_usesS_204 ?_
  refine s_callV hZ.1 (Met_X13_fit hZ) (Nat.succ_le_succ (Nat.le_trans (Nat.le_of_ble_eq_true rfl) hd)) vy_X13_fit zcl13 zw3553 zw312 (Or.inl zw3551) dX13_usesS_205 ?_
  exact s_goto dX13_usesS_208 (by decide) (wX13_usesS_354 hZ hg hd j hj)
noncomputable def vX13_usesS_168 (g : Nat → List Nat → rx_H → Option (Nat × rx_H)) (j : Nat → rx_K) : rx_K := o_ld rx_isR 0 (o_getf 13 77 (o_ld rx_isI 1 (o_ald 0 (o_const 34359738352 (o_c2 rx_eq (vX13_usesS_354 g j) (vX13_usesS_179 g j))))))
set_option maxRecDepth 20000 in
theorem wX13_usesS_168 {dn : Nat} {g : Nat → List Nat → rx_H → Option (Nat × rx_H)} (hZ : zO b e D A X) (hg : ∀ i y M, vl17[i]? = some (y, M) → rx_Met (zV b e D A X) dn y M (g i)) (hd : 205 ≤ dn) (j : Nat → rx_K) (hj : ∀ k pc, [71][k]? = some pc → rx_OK (zV b e D A X) mX13_usesS (dn + 1) pc (j k)) : rx_OK (zV b e D A X) mX13_usesS (dn + 1) 168 (vX13_usesS_168 g j) := by
  unfold vX13_usesS_168
  refine s_aload_n hZ.1 dX13_usesS_168 rfl ?_
  refine yg13_77 dX13_usesS_169 zw4198 ?_
  refine s_iload_n hZ.1 dX13_usesS_172 rfl ?_
  refine s_iald (tt := 0) rfl dX13_usesS_173 ?_
  refine s_bipush dX13_usesS_174 (by decide +kernel) ?_
  exact s_icmp_eq dX13_usesS_176 (by decide) (wX13_usesS_354 hZ hg hd j hj) (wX13_usesS_179 hZ hg hd j hj)
noncomputable def vX13_usesS_155 (g : Nat → List Nat → rx_H → Option (Nat × rx_H)) (j : Nat → rx_K) : rx_K := o_ld rx_isR 0 (o_ld rx_isR 0 (o_getf 13 79 (o_ld rx_isI 1 (o_ald 0 (o_callV 1 13 (g 0) ((vX13_usesS_354 g j)))))))
set_option maxRecDepth 20000 in
theorem wX13_usesS_155 {dn : Nat} {g : Nat → List Nat → rx_H → Option (Nat × rx_H)} (hZ : zO b e D A X) (hg : ∀ i y M, vl17[i]? = some (y, M) → rx_Met (zV b e D A X) dn y M (g i)) (hd : 205 ≤ dn) (j : Nat → rx_K) (hj : ∀ k pc, [71][k]? = some pc → rx_OK (zV b e D A X) mX13_usesS (dn + 1) pc (j k)) : rx_OK (zV b e D A X) mX13_usesS (dn + 1) 155 (vX13_usesS_155 g j) := by
  unfold vX13_usesS_155
  refine s_aload_n hZ.1 dX13_usesS_155 rfl ?_
  refine s_aload_n hZ.1 dX13_usesS_156 rfl ?_
  refine yg13_79 dX13_usesS_157 zw4200 ?_
  refine s_iload_n hZ.1 dX13_usesS_160 rfl ?_
  refine s_iald (tt := 0) rfl dX13_usesS_161 ?_
  refine s_callV hZ.1 (hg 0 _ _ rfl) (Nat.le_refl _) vy_X13_usesS zcl13 zw3565 zw315 (Or.inl zw3563) dX13_usesS_162 ?_
  exact s_goto dX13_usesS_165 (by decide) (wX13_usesS_354 hZ hg hd j hj)
noncomputable def vX13_usesS_124 (g : Nat → List Nat → rx_H → Option (Nat × rx_H)) (j : Nat → rx_K) : rx_K := o_ld rx_isR 0 (o_ld rx_isR 0 (o_getf 13 77 (o_ld rx_isI 1 (o_ald 0 (o_callV 1 13 (q16 200 1) (o_ld rx_isR 0 (o_ld rx_isR 0 (o_getf 13 78 (o_ld rx_isI 1 (o_ald 0 (o_callV 1 13 (g 0) (o_ld rx_isR 0 (o_getf 13 79 (o_ld rx_isI 1 (o_ald 0 (o_const 34359738352 (o_c2 rx_eq (vX13_usesS_354 g j) (vX13_usesS_155 g j))))))))))))))))))
set_option maxRecDepth 20000 in
theorem wX13_usesS_124 {dn : Nat} {g : Nat → List Nat → rx_H → Option (Nat × rx_H)} (hZ : zO b e D A X) (hg : ∀ i y M, vl17[i]? = some (y, M) → rx_Met (zV b e D A X) dn y M (g i)) (hd : 205 ≤ dn) (j : Nat → rx_K) (hj : ∀ k pc, [71][k]? = some pc → rx_OK (zV b e D A X) mX13_usesS (dn + 1) pc (j k)) : rx_OK (zV b e D A X) mX13_usesS (dn + 1) 124 (vX13_usesS_124 g j) := by
  unfold vX13_usesS_124
  refine s_aload_n hZ.1 dX13_usesS_124 rfl ?_
  refine s_aload_n hZ.1 dX13_usesS_125 rfl ?_
  refine yg13_77 dX13_usesS_126 zw4198 ?_
  refine s_iload_n hZ.1 dX13_usesS_129 rfl ?_
  refine s_iald (tt := 0) rfl dX13_usesS_130 ?_
  refine s_callV hZ.1 (q16_ok hZ 200 1 _ _ rfl) (Nat.succ_le_succ (Nat.le_trans (Nat.le_of_ble_eq_true rfl) hd)) vy_X13_usesE zcl13 zw3537 zw308 (Or.inl zw3535) dX13_usesS_131 ?_
  refine s_aload_n hZ.1 dX13_usesS_134 rfl ?_
  refine s_aload_n hZ.1 dX13_usesS_135 rfl ?_
  refine yg13_78 dX13_usesS_136 zw4199 ?_
  refine s_iload_n hZ.1 dX13_usesS_139 rfl ?_
  refine s_iald (tt := 0) rfl dX13_usesS_140 ?_
  refine s_callV hZ.1 (hg 0 _ _ rfl) (Nat.le_refl _) vy_X13_usesS zcl13 zw3565 zw315 (Or.inl zw3563) dX13_usesS_141 ?_
  refine s_aload_n hZ.1 dX13_usesS_144 rfl ?_
  refine yg13_79 dX13_usesS_145 zw4200 ?_
  refine s_iload_n hZ.1 dX13_usesS_148 rfl ?_
  refine s_iald (tt := 0) rfl dX13_usesS_149 ?_
  refine s_bipush dX13_usesS_150 (by decide +kernel) ?_
  exact s_icmp_eq dX13_usesS_152 (by decide) (wX13_usesS_354 hZ hg hd j hj) (wX13_usesS_155 hZ hg hd j hj)
noncomputable def vX13_usesS_95 (g : Nat → List Nat → rx_H → Option (Nat × rx_H)) (j : Nat → rx_K) : rx_K := o_ld rx_isR 0 (o_ld rx_isR 0 (o_getf 13 77 (o_ld rx_isI 1 (o_ald 0 (o_callV 1 13 (q16 200 1) (o_ld rx_isR 0 (o_ld rx_isR 0 (o_getf 13 77 (o_ld rx_isI 1 (o_ald 0 (o_ld rx_isR 0 (o_getf 13 76 (o_ld rx_isI 1 (o_ald 1 (o_callV 2 13 FX13_fit ((vX13_usesS_354 g j)))))))))))))))))
set_option maxRecDepth 20000 in
theorem wX13_usesS_95 {dn : Nat} {g : Nat → List Nat → rx_H → Option (Nat × rx_H)} (hZ : zO b e D A X) (hg : ∀ i y M, vl17[i]? = some (y, M) → rx_Met (zV b e D A X) dn y M (g i)) (hd : 205 ≤ dn) (j : Nat → rx_K) (hj : ∀ k pc, [71][k]? = some pc → rx_OK (zV b e D A X) mX13_usesS (dn + 1) pc (j k)) : rx_OK (zV b e D A X) mX13_usesS (dn + 1) 95 (vX13_usesS_95 g j) := by
  unfold vX13_usesS_95
  refine s_aload_n hZ.1 dX13_usesS_95 rfl ?_
  refine s_aload_n hZ.1 dX13_usesS_96 rfl ?_
  refine yg13_77 dX13_usesS_97 zw4198 ?_
  refine s_iload_n hZ.1 dX13_usesS_100 rfl ?_
  refine s_iald (tt := 0) rfl dX13_usesS_101 ?_
  refine s_callV hZ.1 (q16_ok hZ 200 1 _ _ rfl) (Nat.succ_le_succ (Nat.le_trans (Nat.le_of_ble_eq_true rfl) hd)) vy_X13_usesE zcl13 zw3537 zw308 (Or.inl zw3535) dX13_usesS_102 ?_
  refine s_aload_n hZ.1 dX13_usesS_105 rfl ?_
  refine s_aload_n hZ.1 dX13_usesS_106 rfl ?_
  refine yg13_77 dX13_usesS_107 zw4198 ?_
  refine s_iload_n hZ.1 dX13_usesS_110 rfl ?_
  refine s_iald (tt := 0) rfl dX13_usesS_111 ?_
  refine s_aload_n hZ.1 dX13_usesS_112 rfl ?_
  refine yg13_76 dX13_usesS_113 zw4197 ?_
  refine s_iload_n hZ.1 dX13_usesS_116 rfl ?_
  refine s_lald (tt := 1) rfl dX13_usesS_117 ?_
  refine s_callV hZ.1 (Met_X13_fit hZ) (Nat.succ_le_succ (Nat.le_trans (Nat.le_of_ble_eq_true rfl) hd)) vy_X13_fit zcl13 zw3553 zw312 (Or.inl zw3551) dX13_usesS_118 ?_
  exact s_goto dX13_usesS_121 (by decide) (wX13_usesS_354 hZ hg hd j hj)
noncomputable def vX13_usesS_92 (g : Nat → List Nat → rx_H → Option (Nat × rx_H)) (j : Nat → rx_K) : rx_K := (vX13_usesS_354 g j)
set_option maxRecDepth 20000 in
theorem wX13_usesS_92 {dn : Nat} {g : Nat → List Nat → rx_H → Option (Nat × rx_H)} (hZ : zO b e D A X) (hg : ∀ i y M, vl17[i]? = some (y, M) → rx_Met (zV b e D A X) dn y M (g i)) (hd : 205 ≤ dn) (j : Nat → rx_K) (hj : ∀ k pc, [71][k]? = some pc → rx_OK (zV b e D A X) mX13_usesS (dn + 1) pc (j k)) : rx_OK (zV b e D A X) mX13_usesS (dn + 1) 92 (vX13_usesS_92 g j) := by
  unfold vX13_usesS_92
  exact s_goto dX13_usesS_92 (by decide) (wX13_usesS_354 hZ hg hd j hj)
noncomputable def vX13_usesS_77 (g : Nat → List Nat → rx_H → Option (Nat × rx_H)) (j : Nat → rx_K) : rx_K := o_ld rx_isR 0 (o_ld rx_isI 2 (o_callV 1 13 (g 0) (o_ld rx_isR 0 (o_getf 13 80 (o_ld rx_isI 2 (o_ald 0 (o_st rx_isI 2 ((j 0)))))))))
set_option maxRecDepth 20000 in
theorem wX13_usesS_77 {dn : Nat} {g : Nat → List Nat → rx_H → Option (Nat × rx_H)} (hZ : zO b e D A X) (hg : ∀ i y M, vl17[i]? = some (y, M) → rx_Met (zV b e D A X) dn y M (g i)) (hd : 205 ≤ dn) (j : Nat → rx_K) (hj : ∀ k pc, [71][k]? = some pc → rx_OK (zV b e D A X) mX13_usesS (dn + 1) pc (j k)) : rx_OK (zV b e D A X) mX13_usesS (dn + 1) 77 (vX13_usesS_77 g j) := by
  unfold vX13_usesS_77
  refine s_aload_n hZ.1 dX13_usesS_77 rfl ?_
  refine s_iload_n hZ.1 dX13_usesS_78 rfl ?_
  refine s_callV hZ.1 (hg 0 _ _ rfl) (Nat.le_refl _) vy_X13_usesS zcl13 zw3565 zw315 (Or.inl zw3563) dX13_usesS_79 ?_
  refine s_aload_n hZ.1 dX13_usesS_82 rfl ?_
  refine yg13_80 dX13_usesS_83 zw4201 ?_
  refine s_iload_n hZ.1 dX13_usesS_86 rfl ?_
  refine s_iald (tt := 0) rfl dX13_usesS_87 ?_
  refine s_istore_n hZ.1 dX13_usesS_88 rfl (Nat.le_of_ble_eq_true rfl) ?_
  exact s_goto dX13_usesS_89 (by decide) (hj 0 71 rfl)
noncomputable def vX13_usesS_71 (g : Nat → List Nat → rx_H → Option (Nat × rx_H)) (j : Nat → rx_K) : rx_K := o_ld rx_isI 2 (o_const 34359738352 (o_c2 rx_eq (vX13_usesS_92 g j) (vX13_usesS_77 g j)))
set_option maxRecDepth 20000 in
theorem wX13_usesS_71 {dn : Nat} {g : Nat → List Nat → rx_H → Option (Nat × rx_H)} (hZ : zO b e D A X) (hg : ∀ i y M, vl17[i]? = some (y, M) → rx_Met (zV b e D A X) dn y M (g i)) (hd : 205 ≤ dn) (j : Nat → rx_K) (hj : ∀ k pc, [71][k]? = some pc → rx_OK (zV b e D A X) mX13_usesS (dn + 1) pc (j k)) : rx_OK (zV b e D A X) mX13_usesS (dn + 1) 71 (vX13_usesS_71 g j) := by
  unfold vX13_usesS_71
  refine s_iload_n hZ.1 dX13_usesS_71 rfl ?_
  refine s_bipush dX13_usesS_72 (by decide +kernel) ?_
  exact s_icmp_eq dX13_usesS_74 (by decide) (wX13_usesS_92 hZ hg hd j hj) (wX13_usesS_77 hZ hg hd j hj)
noncomputable def vX13_usesS_64 (g : Nat → List Nat → rx_H → Option (Nat × rx_H)) (j : Nat → rx_K) : rx_K := o_ld rx_isR 0 (o_getf 13 77 (o_ld rx_isI 1 (o_ald 0 (o_st rx_isI 2 ((vX13_usesS_71 g j))))))
set_option maxRecDepth 20000 in
theorem wX13_usesS_64 {dn : Nat} {g : Nat → List Nat → rx_H → Option (Nat × rx_H)} (hZ : zO b e D A X) (hg : ∀ i y M, vl17[i]? = some (y, M) → rx_Met (zV b e D A X) dn y M (g i)) (hd : 205 ≤ dn) (j : Nat → rx_K) (hj : ∀ k pc, [71][k]? = some pc → rx_OK (zV b e D A X) mX13_usesS (dn + 1) pc (j k)) : rx_OK (zV b e D A X) mX13_usesS (dn + 1) 64 (vX13_usesS_64 g j) := by
  unfold vX13_usesS_64
  refine s_aload_n hZ.1 dX13_usesS_64 rfl ?_
  refine yg13_77 dX13_usesS_65 zw4198 ?_
  refine s_iload_n hZ.1 dX13_usesS_68 rfl ?_
  refine s_iald (tt := 0) rfl dX13_usesS_69 ?_
  refine s_istore_n hZ.1 dX13_usesS_70 rfl (Nat.le_of_ble_eq_true rfl) ?_
  exact (wX13_usesS_71 hZ hg hd j hj)
noncomputable def vX13_usesS_0 (g : Nat → List Nat → rx_H → Option (Nat × rx_H)) (j : Nat → rx_K) : rx_K := o_ld rx_isR 0 (o_getf 13 70 (o_ld rx_isI 1 (o_ald 0 (o_sw 20 [64, 95, 124, 124, 168, 211, 237, 344, 280, 344, 336] 344 (rx_pk [(64, (vX13_usesS_64 g j)), (95, (vX13_usesS_95 g j)), (124, (vX13_usesS_124 g j)), (168, (vX13_usesS_168 g j)), (211, (vX13_usesS_211 g j)), (237, (vX13_usesS_237 g j)), (280, (vX13_usesS_280 g j)), (336, (vX13_usesS_336 g j)), (344, (vX13_usesS_344 g j))])))))
set_option maxRecDepth 20000 in
theorem wX13_usesS_0 {dn : Nat} {g : Nat → List Nat → rx_H → Option (Nat × rx_H)} (hZ : zO b e D A X) (hg : ∀ i y M, vl17[i]? = some (y, M) → rx_Met (zV b e D A X) dn y M (g i)) (hd : 205 ≤ dn) (j : Nat → rx_K) (hj : ∀ k pc, [71][k]? = some pc → rx_OK (zV b e D A X) mX13_usesS (dn + 1) pc (j k)) : rx_OK (zV b e D A X) mX13_usesS (dn + 1) 0 (vX13_usesS_0 g j) := by
  unfold vX13_usesS_0
  refine s_aload_n hZ.1 dX13_usesS_0 rfl ?_
  refine yg13_70 dX13_usesS_1 zw4191 ?_
  refine s_iload_n hZ.1 dX13_usesS_4 rfl ?_
  refine s_iald (tt := 0) rfl dX13_usesS_5 ?_
  exact s_sw dX13_usesS_6 (by decide) (by decide) (by decide) (by decide) (by decide) (fun b _ => (rx_pk_ok (List.forall_mem_cons.mpr ⟨(wX13_usesS_64 hZ hg hd j hj), List.forall_mem_cons.mpr ⟨(wX13_usesS_95 hZ hg hd j hj), List.forall_mem_cons.mpr ⟨(wX13_usesS_124 hZ hg hd j hj), List.forall_mem_cons.mpr ⟨(wX13_usesS_168 hZ hg hd j hj), List.forall_mem_cons.mpr ⟨(wX13_usesS_211 hZ hg hd j hj), List.forall_mem_cons.mpr ⟨(wX13_usesS_237 hZ hg hd j hj), List.forall_mem_cons.mpr ⟨(wX13_usesS_280 hZ hg hd j hj), List.forall_mem_cons.mpr ⟨(wX13_usesS_336 hZ hg hd j hj), List.forall_mem_cons.mpr ⟨(wX13_usesS_344 hZ hg hd j hj), fun _ h => absurd h List.not_mem_nil⟩⟩⟩⟩⟩⟩⟩⟩⟩)) b)
noncomputable def vhX13_usesS (g : Nat → List Nat → rx_H → Option (Nat × rx_H)) (j : Nat → rx_K) : List rx_K := [vX13_usesS_71 g j]
theorem vlX13_usesS {dn : Nat} {g : Nat → List Nat → rx_H → Option (Nat × rx_H)} (hZ : zO b e D A X) (hg : ∀ i y M, vl17[i]? = some (y, M) → rx_Met (zV b e D A X) dn y M (g i)) (hd : 205 ≤ dn) : ∀ n k pc, [71][k]? = some pc → rx_OK (zV b e D A X) mX13_usesS (dn + 1) pc (rx_J (vhX13_usesS g) n k) := rx_loop fun j hj k pc h => by
  match k, h with
  | 0, h =>
    have e9 := Option.some.inj (show some 71 = some pc from h)
    subst e9
    exact wX13_usesS_71 hZ hg hd j hj
  | _ + 1, h => exact absurd h (by simp)
noncomputable def FX13_usesS (g : Nat → List Nat → rx_H → Option (Nat × rx_H)) : List Nat → rx_H → Option (Nat × rx_H) := rx_ent 3 (vX13_usesS_0 g (rx_J (vhX13_usesS g) 4000000000))
theorem Met_X13_usesS {dn : Nat} {g : Nat → List Nat → rx_H → Option (Nat × rx_H)} (hZ : zO b e D A X) (hg : ∀ i y M, vl17[i]? = some (y, M) → rx_Met (zV b e D A X) dn y M (g i)) (hd : 205 ≤ dn) : rx_Met (zV b e D A X) (dn + 1) yX13_usesS mX13_usesS (FX13_usesS g) := rx_entry hZ.1 (wX13_usesS_0 hZ hg hd _ (vlX13_usesS hZ hg hd 4000000000)) (by decide +kernel) rfl (fun h => by cases h)
noncomputable def q17 (n : Nat) : Nat → List Nat → rx_H → Option (Nat × rx_H) := Nat.rec (fun _ _ _ => none) (fun _ ih i => rx_nth [FX13_usesS ih] i (fun _ _ => none)) n
theorem q17_ok (hZ : zO b e D A X) : ∀ n i y M, vl17[i]? = some (y, M) → rx_Met (zV b e D A X) (205 + n) y M (q17 n i)
  | 0 => fun i y M _ As h r h2 hf => by cases hf
  | n + 1 => fun i y M h => by
    match i, h with
    | 0, h => cases h; exact Met_X13_usesS hZ (q17_ok hZ n) (Nat.le_add_right 205 n)
    | _ + 1, h => exact absurd h (by simp)
abbrev mX13_usesOf : rx_M := (RX13, cX13_usesOf, 4, none, false)
theorem vy_X13_usesOf : rx_Y (zV b e D A X) yX13_usesOf mX13_usesOf 1 := ⟨zw3510, zw431, by decide, by decide +kernel, by decide +kernel, by decide +kernel⟩
noncomputable def vX13_usesOf_272 (j : Nat → rx_K) : rx_K := o_ret0
set_option maxRecDepth 20000 in
theorem wX13_usesOf_272 (hZ : zO b e D A X) (j : Nat → rx_K) (hj : ∀ k pc, [38, 75][k]? = some pc → rx_OK (zV b e D A X) mX13_usesOf 406 pc (j k)) : rx_OK (zV b e D A X) mX13_usesOf 406 272 (vX13_usesOf_272 j) := by
  unfold vX13_usesOf_272
  exact s_vret rfl dX13_usesOf_272
noncomputable def vX13_usesOf_266 (j : Nat → rx_K) : rx_K := o_inc 2 (1) ((j 1))
set_option maxRecDepth 20000 in
theorem wX13_usesOf_266 (hZ : zO b e D A X) (j : Nat → rx_K) (hj : ∀ k pc, [38, 75][k]? = some pc → rx_OK (zV b e D A X) mX13_usesOf 406 pc (j k)) : rx_OK (zV b e D A X) mX13_usesOf 406 266 (vX13_usesOf_266 j) := by
  unfold vX13_usesOf_266
  refine s_iinc hZ.1 dX13_usesOf_266 (Nat.le_of_ble_eq_true rfl) ?_
  exact s_goto dX13_usesOf_269 (by decide) (hj 1 75 rfl)
noncomputable def vX13_usesOf_256 (j : Nat → rx_K) : rx_K := o_ld rx_isR 0 (o_ld rx_isR 0 (o_getf 13 61 (o_ld rx_isI 3 (o_ald 0 (o_callV 1 13 (q17 200 0) ((vX13_usesOf_266 j)))))))
set_option maxRecDepth 20000 in
theorem wX13_usesOf_256 (hZ : zO b e D A X) (j : Nat → rx_K) (hj : ∀ k pc, [38, 75][k]? = some pc → rx_OK (zV b e D A X) mX13_usesOf 406 pc (j k)) : rx_OK (zV b e D A X) mX13_usesOf 406 256 (vX13_usesOf_256 j) := by
  unfold vX13_usesOf_256
  refine s_aload_n hZ.1 dX13_usesOf_256 rfl ?_
  refine s_aload_n hZ.1 dX13_usesOf_257 rfl ?_
  refine yg13_61 dX13_usesOf_258 zw4182 ?_
  refine s_iload_n hZ.1 dX13_usesOf_261 rfl ?_
  refine s_iald (tt := 0) rfl dX13_usesOf_262 ?_
  refine s_callV hZ.1 (q17_ok hZ 200 0 _ _ rfl) (Nat.le_of_ble_eq_true rfl) vy_X13_usesS zcl13 zw3565 zw315 (Or.inl zw3563) dX13_usesOf_263 ?_
  exact (wX13_usesOf_266 hZ j hj)
noncomputable def vX13_usesOf_245 (j : Nat → rx_K) : rx_K := o_ld rx_isR 0 (o_getf 13 61 (o_ld rx_isI 3 (o_ald 0 (o_const 34359738352 (o_c2 rx_eq (vX13_usesOf_266 j) (vX13_usesOf_256 j))))))
set_option maxRecDepth 20000 in
theorem wX13_usesOf_245 (hZ : zO b e D A X) (j : Nat → rx_K) (hj : ∀ k pc, [38, 75][k]? = some pc → rx_OK (zV b e D A X) mX13_usesOf 406 pc (j k)) : rx_OK (zV b e D A X) mX13_usesOf 406 245 (vX13_usesOf_245 j) := by
  unfold vX13_usesOf_245
  refine s_aload_n hZ.1 dX13_usesOf_245 rfl ?_
  refine yg13_61 dX13_usesOf_246 zw4182 ?_
  refine s_iload_n hZ.1 dX13_usesOf_249 rfl ?_
  refine s_iald (tt := 0) rfl dX13_usesOf_250 ?_
  refine s_bipush dX13_usesOf_251 (by decide +kernel) ?_
  exact s_icmp_eq dX13_usesOf_253 (by decide) (wX13_usesOf_266 hZ j hj) (wX13_usesOf_256 hZ j hj)
noncomputable def vX13_usesOf_244 (j : Nat → rx_K) : rx_K := o_ast 0 (fun v => v) rx_isI ((vX13_usesOf_245 j))
set_option maxRecDepth 20000 in
theorem wX13_usesOf_244 (hZ : zO b e D A X) (j : Nat → rx_K) (hj : ∀ k pc, [38, 75][k]? = some pc → rx_OK (zV b e D A X) mX13_usesOf 406 pc (j k)) : rx_OK (zV b e D A X) mX13_usesOf 406 244 (vX13_usesOf_244 j) := by
  unfold vX13_usesOf_244
  refine s_iast hZ.1 (tt := 0) rfl dX13_usesOf_244 ?_
  exact (wX13_usesOf_245 hZ j hj)
noncomputable def vX13_usesOf_231 (j : Nat → rx_K) : rx_K := o_ld rx_isR 0 (o_const 16 (o_ld rx_isR 0 (o_getf 13 28 (o_ld rx_isI 1 (o_ald 1 (o_const 1 (o_const 1 (o_callV 4 13 FX13_useFor ((vX13_usesOf_244 j))))))))))
set_option maxRecDepth 20000 in
theorem wX13_usesOf_231 (hZ : zO b e D A X) (j : Nat → rx_K) (hj : ∀ k pc, [38, 75][k]? = some pc → rx_OK (zV b e D A X) mX13_usesOf 406 pc (j k)) : rx_OK (zV b e D A X) mX13_usesOf 406 231 (vX13_usesOf_231 j) := by
  unfold vX13_usesOf_231
  refine s_aload_n hZ.1 dX13_usesOf_231 rfl ?_
  refine s_iconst dX13_usesOf_232 (by decide +kernel) ?_
  refine s_aload_n hZ.1 dX13_usesOf_233 rfl ?_
  refine yg13_28 dX13_usesOf_234 zw4149 ?_
  refine s_iload_n hZ.1 dX13_usesOf_237 rfl ?_
  refine s_lald (tt := 1) rfl dX13_usesOf_238 ?_
  refine s_lconst dX13_usesOf_239 (by decide +kernel) ?_
  refine s_lconst dX13_usesOf_240 (by decide +kernel) ?_
  refine s_callV hZ.1 (Met_X13_useFor hZ) (Nat.le_of_ble_eq_true rfl) vy_X13_useFor zcl13 zw3513 zw302 (Or.inl zw3511) dX13_usesOf_241 ?_
  exact (wX13_usesOf_244 hZ j hj)
noncomputable def vX13_usesOf_226 (j : Nat → rx_K) : rx_K := o_const 34359738352 ((vX13_usesOf_244 j))
set_option maxRecDepth 20000 in
theorem wX13_usesOf_226 (hZ : zO b e D A X) (j : Nat → rx_K) (hj : ∀ k pc, [38, 75][k]? = some pc → rx_OK (zV b e D A X) mX13_usesOf 406 pc (j k)) : rx_OK (zV b e D A X) mX13_usesOf 406 226 (vX13_usesOf_226 j) := by
  unfold vX13_usesOf_226
  refine s_bipush dX13_usesOf_226 (by decide +kernel) ?_
  exact s_goto dX13_usesOf_228 (by decide) (wX13_usesOf_244 hZ j hj)
noncomputable def vX13_usesOf_210 (j : Nat → rx_K) : rx_K := o_ld rx_isR 0 (o_getf 13 67 (o_ld rx_isI 3 (o_ld rx_isR 0 (o_ld rx_isI 1 (o_callV 1 13 FX13_parent (o_const 1632 (o_c2 rx_eq (vX13_usesOf_226 j) (vX13_usesOf_231 j))))))))
set_option maxRecDepth 20000 in
theorem wX13_usesOf_210 (hZ : zO b e D A X) (j : Nat → rx_K) (hj : ∀ k pc, [38, 75][k]? = some pc → rx_OK (zV b e D A X) mX13_usesOf 406 pc (j k)) : rx_OK (zV b e D A X) mX13_usesOf 406 210 (vX13_usesOf_210 j) := by
  unfold vX13_usesOf_210
  refine s_aload_n hZ.1 dX13_usesOf_210 rfl ?_
  refine yg13_67 dX13_usesOf_211 zw4188 ?_
  refine s_iload_n hZ.1 dX13_usesOf_214 rfl ?_
  refine s_aload_n hZ.1 dX13_usesOf_215 rfl ?_
  refine s_iload_n hZ.1 dX13_usesOf_216 rfl ?_
  refine s_callV hZ.1 (Met_X13_parent hZ) (Nat.le_of_ble_eq_true rfl) vy_X13_parent zcl13 zw3220 zw233 (Or.inl zw3218) dX13_usesOf_217 ?_
  refine s_sipush dX13_usesOf_220 (by decide +kernel) ?_
  exact s_icmp_ne dX13_usesOf_223 (by decide) (wX13_usesOf_231 hZ j hj) (wX13_usesOf_226 hZ j hj)
noncomputable def vX13_usesOf_202 (j : Nat → rx_K) : rx_K := o_ld rx_isR 0 (o_ld rx_isI 3 (o_callV 1 13 FX13_beginsBySuper (o_c1 rx_eq (vX13_usesOf_210 j) (vX13_usesOf_245 j))))
set_option maxRecDepth 20000 in
theorem wX13_usesOf_202 (hZ : zO b e D A X) (j : Nat → rx_K) (hj : ∀ k pc, [38, 75][k]? = some pc → rx_OK (zV b e D A X) mX13_usesOf 406 pc (j k)) : rx_OK (zV b e D A X) mX13_usesOf 406 202 (vX13_usesOf_202 j) := by
  unfold vX13_usesOf_202
  refine s_aload_n hZ.1 dX13_usesOf_202 rfl ?_
  refine s_iload_n hZ.1 dX13_usesOf_203 rfl ?_
  refine s_callV hZ.1 (Met_X13_beginsBySuper hZ) (Nat.le_of_ble_eq_true rfl) vy_X13_beginsBySuper zcl13 zw3481 zw294 (Or.inl zw3479) dX13_usesOf_204 ?_
  exact s_if_ne dX13_usesOf_207 (by decide) (wX13_usesOf_245 hZ j hj) (wX13_usesOf_210 hZ j hj)
noncomputable def vX13_usesOf_192 (j : Nat → rx_K) : rx_K := o_ld rx_isR 0 (o_getf 13 42 (o_ld rx_isI 3 (o_ald 0 (o_const 16 (o_c2 rx_eq (vX13_usesOf_202 j) (vX13_usesOf_245 j))))))
set_option maxRecDepth 20000 in
theorem wX13_usesOf_192 (hZ : zO b e D A X) (j : Nat → rx_K) (hj : ∀ k pc, [38, 75][k]? = some pc → rx_OK (zV b e D A X) mX13_usesOf 406 pc (j k)) : rx_OK (zV b e D A X) mX13_usesOf 406 192 (vX13_usesOf_192 j) := by
  unfold vX13_usesOf_192
  refine s_aload_n hZ.1 dX13_usesOf_192 rfl ?_
  refine yg13_42 dX13_usesOf_193 zw4163 ?_
  refine s_iload_n hZ.1 dX13_usesOf_196 rfl ?_
  refine s_iald (tt := 0) rfl dX13_usesOf_197 ?_
  refine s_iconst dX13_usesOf_198 (by decide +kernel) ?_
  exact s_icmp_ne dX13_usesOf_199 (by decide) (wX13_usesOf_245 hZ j hj) (wX13_usesOf_202 hZ j hj)
noncomputable def vX13_usesOf_163 (j : Nat → rx_K) : rx_K := o_ld rx_isR 0 (o_ld rx_isR 0 (o_getf 13 60 (o_ld rx_isI 3 (o_ald 0 (o_callV 1 13 (q16 200 1) (o_ld rx_isR 0 (o_ld rx_isR 0 (o_getf 13 60 (o_ld rx_isI 3 (o_ald 0 (o_ld rx_isR 0 (o_getf 13 53 (o_ld rx_isI 3 (o_ald 1 (o_callV 2 13 FX13_fit ((vX13_usesOf_266 j)))))))))))))))))
set_option maxRecDepth 20000 in
theorem wX13_usesOf_163 (hZ : zO b e D A X) (j : Nat → rx_K) (hj : ∀ k pc, [38, 75][k]? = some pc → rx_OK (zV b e D A X) mX13_usesOf 406 pc (j k)) : rx_OK (zV b e D A X) mX13_usesOf 406 163 (vX13_usesOf_163 j) := by
  unfold vX13_usesOf_163
  refine s_aload_n hZ.1 dX13_usesOf_163 rfl ?_
  refine s_aload_n hZ.1 dX13_usesOf_164 rfl ?_
  refine yg13_60 dX13_usesOf_165 zw4181 ?_
  refine s_iload_n hZ.1 dX13_usesOf_168 rfl ?_
  refine s_iald (tt := 0) rfl dX13_usesOf_169 ?_
  refine s_callV hZ.1 (q16_ok hZ 200 1 _ _ rfl) (Nat.le_of_ble_eq_true rfl) vy_X13_usesE zcl13 zw3537 zw308 (Or.inl zw3535) dX13_usesOf_170 ?_
  refine s_aload_n hZ.1 dX13_usesOf_173 rfl ?_
  refine s_aload_n hZ.1 dX13_usesOf_174 rfl ?_
  refine yg13_60 dX13_usesOf_175 zw4181 ?_
  refine s_iload_n hZ.1 dX13_usesOf_178 rfl ?_
  refine s_iald (tt := 0) rfl dX13_usesOf_179 ?_
  refine s_aload_n hZ.1 dX13_usesOf_180 rfl ?_
  refine yg13_53 dX13_usesOf_181 zw4174 ?_
  refine s_iload_n hZ.1 dX13_usesOf_184 rfl ?_
  refine s_lald (tt := 1) rfl dX13_usesOf_185 ?_
  refine s_callV hZ.1 (Met_X13_fit hZ) (Nat.le_of_ble_eq_true rfl) vy_X13_fit zcl13 zw3553 zw312 (Or.inl zw3551) dX13_usesOf_186 ?_
  exact s_goto dX13_usesOf_189 (by decide) (wX13_usesOf_266 hZ j hj)
noncomputable def vX13_usesOf_152 (j : Nat → rx_K) : rx_K := o_ld rx_isR 0 (o_getf 13 60 (o_ld rx_isI 3 (o_ald 0 (o_const 34359738352 (o_c2 rx_eq (vX13_usesOf_266 j) (vX13_usesOf_163 j))))))
set_option maxRecDepth 20000 in
theorem wX13_usesOf_152 (hZ : zO b e D A X) (j : Nat → rx_K) (hj : ∀ k pc, [38, 75][k]? = some pc → rx_OK (zV b e D A X) mX13_usesOf 406 pc (j k)) : rx_OK (zV b e D A X) mX13_usesOf 406 152 (vX13_usesOf_152 j) := by
  unfold vX13_usesOf_152
  refine s_aload_n hZ.1 dX13_usesOf_152 rfl ?_
  refine yg13_60 dX13_usesOf_153 zw4181 ?_
  refine s_iload_n hZ.1 dX13_usesOf_156 rfl ?_
  refine s_iald (tt := 0) rfl dX13_usesOf_157 ?_
  refine s_bipush dX13_usesOf_158 (by decide +kernel) ?_
  exact s_icmp_eq dX13_usesOf_160 (by decide) (wX13_usesOf_266 hZ j hj) (wX13_usesOf_163 hZ j hj)
noncomputable def vX13_usesOf_139 (j : Nat → rx_K) : rx_K := o_ld rx_isR 0 (o_ld rx_isR 0 (o_getf 13 60 (o_ld rx_isI 3 (o_ald 0 (o_callV 1 13 (q15 200 0) ((vX13_usesOf_266 j)))))))
set_option maxRecDepth 20000 in
theorem wX13_usesOf_139 (hZ : zO b e D A X) (j : Nat → rx_K) (hj : ∀ k pc, [38, 75][k]? = some pc → rx_OK (zV b e D A X) mX13_usesOf 406 pc (j k)) : rx_OK (zV b e D A X) mX13_usesOf 406 139 (vX13_usesOf_139 j) := by
  unfold vX13_usesOf_139
  refine s_aload_n hZ.1 dX13_usesOf_139 rfl ?_
  refine s_aload_n hZ.1 dX13_usesOf_140 rfl ?_
  refine yg13_60 dX13_usesOf_141 zw4181 ?_
  refine s_iload_n hZ.1 dX13_usesOf_144 rfl ?_
  refine s_iald (tt := 0) rfl dX13_usesOf_145 ?_
  refine s_callV hZ.1 (q15_ok hZ 200 0 _ _ rfl) (Nat.le_of_ble_eq_true rfl) vy_X13_copies zcl13 zw3529 zw306 (Or.inl zw3527) dX13_usesOf_146 ?_
  exact s_goto dX13_usesOf_149 (by decide) (wX13_usesOf_266 hZ j hj)
noncomputable def vX13_usesOf_130 (j : Nat → rx_K) : rx_K := o_ld rx_isR 0 (o_getf 13 64 (o_ld rx_isI 3 (o_ald 3 (o_c1 rx_eq (vX13_usesOf_152 j) (vX13_usesOf_139 j)))))
set_option maxRecDepth 20000 in
theorem wX13_usesOf_130 (hZ : zO b e D A X) (j : Nat → rx_K) (hj : ∀ k pc, [38, 75][k]? = some pc → rx_OK (zV b e D A X) mX13_usesOf 406 pc (j k)) : rx_OK (zV b e D A X) mX13_usesOf 406 130 (vX13_usesOf_130 j) := by
  unfold vX13_usesOf_130
  refine s_aload_n hZ.1 dX13_usesOf_130 rfl ?_
  refine yg13_64 dX13_usesOf_131 zw4185 ?_
  refine s_iload_n hZ.1 dX13_usesOf_134 rfl ?_
  refine s_zald (tt := 3) rfl dX13_usesOf_135 ?_
  exact s_if_eq dX13_usesOf_136 (by decide) (wX13_usesOf_152 hZ j hj) (wX13_usesOf_139 hZ j hj)
noncomputable def vX13_usesOf_121 (j : Nat → rx_K) : rx_K := o_ld rx_isR 0 (o_getf 13 42 (o_ld rx_isI 3 (o_ald 0 (o_c1 rx_eq (vX13_usesOf_130 j) (vX13_usesOf_192 j)))))
set_option maxRecDepth 20000 in
theorem wX13_usesOf_121 (hZ : zO b e D A X) (j : Nat → rx_K) (hj : ∀ k pc, [38, 75][k]? = some pc → rx_OK (zV b e D A X) mX13_usesOf 406 pc (j k)) : rx_OK (zV b e D A X) mX13_usesOf 406 121 (vX13_usesOf_121 j) := by
  unfold vX13_usesOf_121
  refine s_aload_n hZ.1 dX13_usesOf_121 rfl ?_
  refine yg13_42 dX13_usesOf_122 zw4163 ?_
  refine s_iload_n hZ.1 dX13_usesOf_125 rfl ?_
  refine s_iald (tt := 0) rfl dX13_usesOf_126 ?_
  exact s_if_ne dX13_usesOf_127 (by decide) (wX13_usesOf_192 hZ j hj) (wX13_usesOf_130 hZ j hj)
noncomputable def vX13_usesOf_106 (j : Nat → rx_K) : rx_K := o_ld rx_isR 0 (o_getf 13 67 (o_ld rx_isI 3 (o_ld rx_isR 0 (o_ld rx_isI 1 (o_ld rx_isI 3 (o_callV 2 13 FX13_bridgeUse (o_ast 0 (fun v => v) rx_isI ((vX13_usesOf_266 j)))))))))
set_option maxRecDepth 20000 in
theorem wX13_usesOf_106 (hZ : zO b e D A X) (j : Nat → rx_K) (hj : ∀ k pc, [38, 75][k]? = some pc → rx_OK (zV b e D A X) mX13_usesOf 406 pc (j k)) : rx_OK (zV b e D A X) mX13_usesOf 406 106 (vX13_usesOf_106 j) := by
  unfold vX13_usesOf_106
  refine s_aload_n hZ.1 dX13_usesOf_106 rfl ?_
  refine yg13_67 dX13_usesOf_107 zw4188 ?_
  refine s_iload_n hZ.1 dX13_usesOf_110 rfl ?_
  refine s_aload_n hZ.1 dX13_usesOf_111 rfl ?_
  refine s_iload_n hZ.1 dX13_usesOf_112 rfl ?_
  refine s_iload_n hZ.1 dX13_usesOf_113 rfl ?_
  refine s_callV hZ.1 (Met_X13_bridgeUse hZ) (Nat.le_of_ble_eq_true rfl) vy_X13_bridgeUse zcl13 zw3525 zw305 (Or.inl zw3523) dX13_usesOf_114 ?_
  refine s_iast hZ.1 (tt := 0) rfl dX13_usesOf_117 ?_
  exact s_goto dX13_usesOf_118 (by decide) (wX13_usesOf_266 hZ j hj)
noncomputable def vX13_usesOf_85 (j : Nat → rx_K) : rx_K := o_ld rx_isI 1 (o_const 272 (o_bi (fun x y => x * y) (o_ld rx_isI 2 (o_bi (fun x y => x + y) (o_st rx_isI 3 (o_ld rx_isR 0 (o_ld rx_isI 3 (o_putf rx_isI 13 110 (o_ld rx_isR 0 (o_getf 13 49 (o_ld rx_isI 3 (o_ald 3 (o_c1 rx_eq (vX13_usesOf_121 j) (vX13_usesOf_106 j))))))))))))))
set_option maxRecDepth 20000 in
theorem wX13_usesOf_85 (hZ : zO b e D A X) (j : Nat → rx_K) (hj : ∀ k pc, [38, 75][k]? = some pc → rx_OK (zV b e D A X) mX13_usesOf 406 pc (j k)) : rx_OK (zV b e D A X) mX13_usesOf 406 85 (vX13_usesOf_85 j) := by
  unfold vX13_usesOf_85
  refine s_iload_n hZ.1 dX13_usesOf_85 rfl ?_
  refine s_bipush dX13_usesOf_86 (by decide +kernel) ?_
  refine s_imul dX13_usesOf_88 ?_
  refine s_iload_n hZ.1 dX13_usesOf_89 rfl ?_
  refine s_iadd dX13_usesOf_90 ?_
  refine s_istore_n hZ.1 dX13_usesOf_91 rfl (Nat.le_of_ble_eq_true rfl) ?_
  refine s_aload_n hZ.1 dX13_usesOf_92 rfl ?_
  refine s_iload_n hZ.1 dX13_usesOf_93 rfl ?_
  refine yp13_110 hZ.1 dX13_usesOf_94 zw4230 ?_
  refine s_aload_n hZ.1 dX13_usesOf_97 rfl ?_
  refine yg13_49 dX13_usesOf_98 zw4170 ?_
  refine s_iload_n hZ.1 dX13_usesOf_101 rfl ?_
  refine s_zald (tt := 3) rfl dX13_usesOf_102 ?_
  exact s_if_eq dX13_usesOf_103 (by decide) (wX13_usesOf_121 hZ j hj) (wX13_usesOf_106 hZ j hj)
noncomputable def vX13_usesOf_75 (j : Nat → rx_K) : rx_K := o_ld rx_isI 2 (o_ld rx_isR 0 (o_getf 13 41 (o_ld rx_isI 1 (o_ald 0 (o_c2 rx_lt (vX13_usesOf_85 j) (vX13_usesOf_272 j))))))
set_option maxRecDepth 20000 in
theorem wX13_usesOf_75 (hZ : zO b e D A X) (j : Nat → rx_K) (hj : ∀ k pc, [38, 75][k]? = some pc → rx_OK (zV b e D A X) mX13_usesOf 406 pc (j k)) : rx_OK (zV b e D A X) mX13_usesOf 406 75 (vX13_usesOf_75 j) := by
  unfold vX13_usesOf_75
  refine s_iload_n hZ.1 dX13_usesOf_75 rfl ?_
  refine s_aload_n hZ.1 dX13_usesOf_76 rfl ?_
  refine yg13_41 dX13_usesOf_77 zw4162 ?_
  refine s_iload_n hZ.1 dX13_usesOf_80 rfl ?_
  refine s_iald (tt := 0) rfl dX13_usesOf_81 ?_
  exact s_icmp_ge dX13_usesOf_82 (by decide) (wX13_usesOf_272 hZ j hj) (wX13_usesOf_85 hZ j hj)
noncomputable def vX13_usesOf_73 (j : Nat → rx_K) : rx_K := o_const 0 (o_st rx_isI 2 ((vX13_usesOf_75 j)))
set_option maxRecDepth 20000 in
theorem wX13_usesOf_73 (hZ : zO b e D A X) (j : Nat → rx_K) (hj : ∀ k pc, [38, 75][k]? = some pc → rx_OK (zV b e D A X) mX13_usesOf 406 pc (j k)) : rx_OK (zV b e D A X) mX13_usesOf 406 73 (vX13_usesOf_73 j) := by
  unfold vX13_usesOf_73
  refine s_iconst dX13_usesOf_73 (by decide +kernel) ?_
  refine s_istore_n hZ.1 dX13_usesOf_74 rfl (Nat.le_of_ble_eq_true rfl) ?_
  exact (wX13_usesOf_75 hZ j hj)
noncomputable def vX13_usesOf_48 (j : Nat → rx_K) : rx_K := o_ld rx_isR 0 (o_const 152 (o_ld rx_isR 0 (o_getf 13 30 (o_const 32 (o_ld rx_isI 1 (o_bi (fun x y => x * y) (o_ld rx_isI 2 (o_bi (fun x y => x + y) (o_ald 1 (o_const 1 (o_const 1 (o_callV 4 13 FX13_useFor (o_pop (o_inc 2 (1) ((j 0))))))))))))))))
set_option maxRecDepth 20000 in
theorem wX13_usesOf_48 (hZ : zO b e D A X) (j : Nat → rx_K) (hj : ∀ k pc, [38, 75][k]? = some pc → rx_OK (zV b e D A X) mX13_usesOf 406 pc (j k)) : rx_OK (zV b e D A X) mX13_usesOf 406 48 (vX13_usesOf_48 j) := by
  unfold vX13_usesOf_48
  refine s_aload_n hZ.1 dX13_usesOf_48 rfl ?_
  refine s_bipush dX13_usesOf_49 (by decide +kernel) ?_
  refine s_aload_n hZ.1 dX13_usesOf_51 rfl ?_
  refine yg13_30 dX13_usesOf_52 zw4151 ?_
  refine s_iconst dX13_usesOf_55 (by decide +kernel) ?_
  refine s_iload_n hZ.1 dX13_usesOf_56 rfl ?_
  refine s_imul dX13_usesOf_57 ?_
  refine s_iload_n hZ.1 dX13_usesOf_58 rfl ?_
  refine s_iadd dX13_usesOf_59 ?_
  refine s_lald (tt := 1) rfl dX13_usesOf_60 ?_
  refine s_lconst dX13_usesOf_61 (by decide +kernel) ?_
  refine s_lconst dX13_usesOf_62 (by decide +kernel) ?_
  refine s_callV hZ.1 (Met_X13_useFor hZ) (Nat.le_of_ble_eq_true rfl) vy_X13_useFor zcl13 zw3513 zw302 (Or.inl zw3511) dX13_usesOf_63 ?_
  refine s_pop hZ.1 dX13_usesOf_66 ?_
  refine s_iinc hZ.1 dX13_usesOf_67 (Nat.le_of_ble_eq_true rfl) ?_
  exact s_goto dX13_usesOf_70 (by decide) (hj 0 38 rfl)
noncomputable def vX13_usesOf_38 (j : Nat → rx_K) : rx_K := o_ld rx_isI 2 (o_ld rx_isR 0 (o_getf 13 32 (o_ld rx_isI 1 (o_ald 0 (o_c2 rx_lt (vX13_usesOf_48 j) (vX13_usesOf_73 j))))))
set_option maxRecDepth 20000 in
theorem wX13_usesOf_38 (hZ : zO b e D A X) (j : Nat → rx_K) (hj : ∀ k pc, [38, 75][k]? = some pc → rx_OK (zV b e D A X) mX13_usesOf 406 pc (j k)) : rx_OK (zV b e D A X) mX13_usesOf 406 38 (vX13_usesOf_38 j) := by
  unfold vX13_usesOf_38
  refine s_iload_n hZ.1 dX13_usesOf_38 rfl ?_
  refine s_aload_n hZ.1 dX13_usesOf_39 rfl ?_
  refine yg13_32 dX13_usesOf_40 zw4153 ?_
  refine s_iload_n hZ.1 dX13_usesOf_43 rfl ?_
  refine s_iald (tt := 0) rfl dX13_usesOf_44 ?_
  exact s_icmp_ge dX13_usesOf_45 (by decide) (wX13_usesOf_73 hZ j hj) (wX13_usesOf_48 hZ j hj)
noncomputable def vX13_usesOf_36 (j : Nat → rx_K) : rx_K := o_const 0 (o_st rx_isI 2 ((vX13_usesOf_38 j)))
set_option maxRecDepth 20000 in
theorem wX13_usesOf_36 (hZ : zO b e D A X) (j : Nat → rx_K) (hj : ∀ k pc, [38, 75][k]? = some pc → rx_OK (zV b e D A X) mX13_usesOf 406 pc (j k)) : rx_OK (zV b e D A X) mX13_usesOf 406 36 (vX13_usesOf_36 j) := by
  unfold vX13_usesOf_36
  refine s_iconst dX13_usesOf_36 (by decide +kernel) ?_
  refine s_istore_n hZ.1 dX13_usesOf_37 rfl (Nat.le_of_ble_eq_true rfl) ?_
  exact (wX13_usesOf_38 hZ j hj)
noncomputable def vX13_usesOf_21 (j : Nat → rx_K) : rx_K := o_ld rx_isR 0 (o_const 144 (o_ld rx_isR 0 (o_getf 13 28 (o_ld rx_isI 1 (o_ald 1 (o_const 1 (o_const 1 (o_callV 4 13 FX13_useFor (o_pop ((vX13_usesOf_36 j)))))))))))
set_option maxRecDepth 20000 in
theorem wX13_usesOf_21 (hZ : zO b e D A X) (j : Nat → rx_K) (hj : ∀ k pc, [38, 75][k]? = some pc → rx_OK (zV b e D A X) mX13_usesOf 406 pc (j k)) : rx_OK (zV b e D A X) mX13_usesOf 406 21 (vX13_usesOf_21 j) := by
  unfold vX13_usesOf_21
  refine s_aload_n hZ.1 dX13_usesOf_21 rfl ?_
  refine s_bipush dX13_usesOf_22 (by decide +kernel) ?_
  refine s_aload_n hZ.1 dX13_usesOf_24 rfl ?_
  refine yg13_28 dX13_usesOf_25 zw4149 ?_
  refine s_iload_n hZ.1 dX13_usesOf_28 rfl ?_
  refine s_lald (tt := 1) rfl dX13_usesOf_29 ?_
  refine s_lconst dX13_usesOf_30 (by decide +kernel) ?_
  refine s_lconst dX13_usesOf_31 (by decide +kernel) ?_
  refine s_callV hZ.1 (Met_X13_useFor hZ) (Nat.le_of_ble_eq_true rfl) vy_X13_useFor zcl13 zw3513 zw302 (Or.inl zw3511) dX13_usesOf_32 ?_
  refine s_pop hZ.1 dX13_usesOf_35 ?_
  exact (wX13_usesOf_36 hZ j hj)
noncomputable def vX13_usesOf_0 (j : Nat → rx_K) : rx_K := o_ld rx_isR 0 (o_ld rx_isI 1 (o_putf rx_isI 13 109 (o_ld rx_isR 0 (o_const 0 (o_putf rx_isI 13 108 (o_ld rx_isR 0 (o_getf 13 28 (o_ld rx_isI 1 (o_ald 1 (o_const 1 (o_bc (fun x y => lg_cmp x y) (o_c1 rx_eq (vX13_usesOf_36 j) (vX13_usesOf_21 j)))))))))))))
set_option maxRecDepth 20000 in
theorem wX13_usesOf_0 (hZ : zO b e D A X) (j : Nat → rx_K) (hj : ∀ k pc, [38, 75][k]? = some pc → rx_OK (zV b e D A X) mX13_usesOf 406 pc (j k)) : rx_OK (zV b e D A X) mX13_usesOf 406 0 (vX13_usesOf_0 j) := by
  unfold vX13_usesOf_0
  refine s_aload_n hZ.1 dX13_usesOf_0 rfl ?_
  refine s_iload_n hZ.1 dX13_usesOf_1 rfl ?_
  refine yp13_109 hZ.1 dX13_usesOf_2 zw4229 ?_
  refine s_aload_n hZ.1 dX13_usesOf_5 rfl ?_
  refine s_iconst dX13_usesOf_6 (by decide +kernel) ?_
  refine yp13_108 hZ.1 dX13_usesOf_7 zw4228 ?_
  refine s_aload_n hZ.1 dX13_usesOf_10 rfl ?_
  refine yg13_28 dX13_usesOf_11 zw4149 ?_
  refine s_iload_n hZ.1 dX13_usesOf_14 rfl ?_
  refine s_lald (tt := 1) rfl dX13_usesOf_15 ?_
  refine s_lconst dX13_usesOf_16 (by decide +kernel) ?_
  refine s_lcmp dX13_usesOf_17 ?_
  exact s_if_eq dX13_usesOf_18 (by decide) (wX13_usesOf_36 hZ j hj) (wX13_usesOf_21 hZ j hj)
noncomputable def vhX13_usesOf (j : Nat → rx_K) : List rx_K := [vX13_usesOf_38 j, vX13_usesOf_75 j]
theorem vlX13_usesOf (hZ : zO b e D A X) : ∀ n k pc, [38, 75][k]? = some pc → rx_OK (zV b e D A X) mX13_usesOf 406 pc (rx_J (vhX13_usesOf) n k) := rx_loop fun j hj k pc h => by
  match k, h with
  | 0, h =>
    have e9 := Option.some.inj (show some 38 = some pc from h)
    subst e9
    exact wX13_usesOf_38 hZ j hj
  | 1, h =>
    have e9 := Option.some.inj (show some 75 = some pc from h)
    subst e9
    exact wX13_usesOf_75 hZ j hj
  | _ + 2, h => exact absurd h (by simp)
noncomputable def FX13_usesOf : List Nat → rx_H → Option (Nat × rx_H) := rx_ent 4 (vX13_usesOf_0 (rx_J (vhX13_usesOf) 4000000000))
theorem Met_X13_usesOf (hZ : zO b e D A X) : rx_Met (zV b e D A X) 406 yX13_usesOf mX13_usesOf (FX13_usesOf) := rx_entry hZ.1 (wX13_usesOf_0 hZ _ (vlX13_usesOf hZ 4000000000)) (by decide +kernel) rfl (fun h => by cases h)
abbrev mX13_usesOfAll : rx_M := (RX13, cX13_usesOfAll, 2, none, false)
theorem vy_X13_usesOfAll : rx_Y (zV b e D A X) yX13_usesOfAll mX13_usesOfAll 0 := ⟨zw3506, zw431, by decide, by decide +kernel, by decide +kernel, by decide +kernel⟩
noncomputable def vX13_usesOfAll_44 (j : Nat → rx_K) : rx_K := o_ret0
set_option maxRecDepth 20000 in
theorem wX13_usesOfAll_44 (hZ : zO b e D A X) (j : Nat → rx_K) (hj : ∀ k pc, [12][k]? = some pc → rx_OK (zV b e D A X) mX13_usesOfAll 407 pc (j k)) : rx_OK (zV b e D A X) mX13_usesOfAll 407 44 (vX13_usesOfAll_44 j) := by
  unfold vX13_usesOfAll_44
  exact s_vret rfl dX13_usesOfAll_44
noncomputable def vX13_usesOfAll_25 (j : Nat → rx_K) : rx_K := o_ld rx_isR 0 (o_ld rx_isR 0 (o_getf 13 19 (o_const 96 (o_bi (fun x y => x * y) (o_ld rx_isI 1 (o_bi (fun x y => x + y) (o_callV 1 13 FX13_usesOf (o_inc 1 (1) ((j 0))))))))))
set_option maxRecDepth 20000 in
theorem wX13_usesOfAll_25 (hZ : zO b e D A X) (j : Nat → rx_K) (hj : ∀ k pc, [12][k]? = some pc → rx_OK (zV b e D A X) mX13_usesOfAll 407 pc (j k)) : rx_OK (zV b e D A X) mX13_usesOfAll 407 25 (vX13_usesOfAll_25 j) := by
  unfold vX13_usesOfAll_25
  refine s_aload_n hZ.1 dX13_usesOfAll_25 rfl ?_
  refine s_aload_n hZ.1 dX13_usesOfAll_26 rfl ?_
  refine yg13_19 dX13_usesOfAll_27 zw4140 ?_
  refine s_bipush dX13_usesOfAll_30 (by decide +kernel) ?_
  refine s_imul dX13_usesOfAll_32 ?_
  refine s_iload_n hZ.1 dX13_usesOfAll_33 rfl ?_
  refine s_iadd dX13_usesOfAll_34 ?_
  refine s_callV hZ.1 (Met_X13_usesOf hZ) (Nat.le_of_ble_eq_true rfl) vy_X13_usesOf zcl13 zw3509 zw301 (Or.inl zw3507) dX13_usesOfAll_35 ?_
  refine s_iinc hZ.1 dX13_usesOfAll_38 (Nat.le_of_ble_eq_true rfl) ?_
  exact s_goto dX13_usesOfAll_41 (by decide) (hj 0 12 rfl)
noncomputable def vX13_usesOfAll_12 (j : Nat → rx_K) : rx_K := o_ld rx_isI 1 (o_ld rx_isR 0 (o_getf 13 23 (o_ld rx_isR 0 (o_getf 13 19 (o_ald 0 (o_c2 rx_lt (vX13_usesOfAll_25 j) (vX13_usesOfAll_44 j)))))))
set_option maxRecDepth 20000 in
theorem wX13_usesOfAll_12 (hZ : zO b e D A X) (j : Nat → rx_K) (hj : ∀ k pc, [12][k]? = some pc → rx_OK (zV b e D A X) mX13_usesOfAll 407 pc (j k)) : rx_OK (zV b e D A X) mX13_usesOfAll 407 12 (vX13_usesOfAll_12 j) := by
  unfold vX13_usesOfAll_12
  refine s_iload_n hZ.1 dX13_usesOfAll_12 rfl ?_
  refine s_aload_n hZ.1 dX13_usesOfAll_13 rfl ?_
  refine yg13_23 dX13_usesOfAll_14 zw4144 ?_
  refine s_aload_n hZ.1 dX13_usesOfAll_17 rfl ?_
  refine yg13_19 dX13_usesOfAll_18 zw4140 ?_
  refine s_iald (tt := 0) rfl dX13_usesOfAll_21 ?_
  exact s_icmp_ge dX13_usesOfAll_22 (by decide) (wX13_usesOfAll_44 hZ j hj) (wX13_usesOfAll_25 hZ j hj)
noncomputable def vX13_usesOfAll_0 (j : Nat → rx_K) : rx_K := o_ld rx_isR 0 (o_getf 13 118 (o_ld rx_isR 0 (o_getf 13 19 (o_const 0 (o_ast 0 (fun v => v) rx_isI (o_const 0 (o_st rx_isI 1 ((vX13_usesOfAll_12 j)))))))))
set_option maxRecDepth 20000 in
theorem wX13_usesOfAll_0 (hZ : zO b e D A X) (j : Nat → rx_K) (hj : ∀ k pc, [12][k]? = some pc → rx_OK (zV b e D A X) mX13_usesOfAll 407 pc (j k)) : rx_OK (zV b e D A X) mX13_usesOfAll 407 0 (vX13_usesOfAll_0 j) := by
  unfold vX13_usesOfAll_0
  refine s_aload_n hZ.1 dX13_usesOfAll_0 rfl ?_
  refine yg13_118 dX13_usesOfAll_1 zw4238 ?_
  refine s_aload_n hZ.1 dX13_usesOfAll_4 rfl ?_
  refine yg13_19 dX13_usesOfAll_5 zw4140 ?_
  refine s_iconst dX13_usesOfAll_8 (by decide +kernel) ?_
  refine s_iast hZ.1 (tt := 0) rfl dX13_usesOfAll_9 ?_
  refine s_iconst dX13_usesOfAll_10 (by decide +kernel) ?_
  refine s_istore_n hZ.1 dX13_usesOfAll_11 rfl (Nat.le_of_ble_eq_true rfl) ?_
  exact (wX13_usesOfAll_12 hZ j hj)
noncomputable def vhX13_usesOfAll (j : Nat → rx_K) : List rx_K := [vX13_usesOfAll_12 j]
theorem vlX13_usesOfAll (hZ : zO b e D A X) : ∀ n k pc, [12][k]? = some pc → rx_OK (zV b e D A X) mX13_usesOfAll 407 pc (rx_J (vhX13_usesOfAll) n k) := rx_loop fun j hj k pc h => by
  match k, h with
  | 0, h =>
    have e9 := Option.some.inj (show some 12 = some pc from h)
    subst e9
    exact wX13_usesOfAll_12 hZ j hj
  | _ + 1, h => exact absurd h (by simp)
noncomputable def FX13_usesOfAll : List Nat → rx_H → Option (Nat × rx_H) := rx_ent 2 (vX13_usesOfAll_0 (rx_J (vhX13_usesOfAll) 4000000000))
theorem Met_X13_usesOfAll (hZ : zO b e D A X) : rx_Met (zV b e D A X) 407 yX13_usesOfAll mX13_usesOfAll (FX13_usesOfAll) := rx_entry hZ.1 (wX13_usesOfAll_0 hZ _ (vlX13_usesOfAll hZ 4000000000)) (by decide +kernel) rfl (fun h => by cases h)
abbrev mX13_isLib : rx_M := (RX13, cX13_isLib, 2, (some .boolean), false)
theorem vy_X13_isLib : rx_Y (zV b e D A X) yX13_isLib mX13_isLib 1 := ⟨zw2933, zw431, by decide, by decide +kernel, by decide +kernel, by decide +kernel⟩
noncomputable def vX13_isLib_14 : rx_K := o_ret1 rx_isZ
set_option maxRecDepth 20000 in
theorem wX13_isLib_14 (hZ : zO b e D A X) : rx_OK (zV b e D A X) mX13_isLib 0 14 vX13_isLib_14 := by
  unfold vX13_isLib_14
  exact s_zret rx_z_ok rfl dX13_isLib_14
noncomputable def vX13_isLib_13 : rx_K := o_const 0 (vX13_isLib_14)
set_option maxRecDepth 20000 in
theorem wX13_isLib_13 (hZ : zO b e D A X) : rx_OK (zV b e D A X) mX13_isLib 0 13 vX13_isLib_13 := by
  unfold vX13_isLib_13
  refine s_iconst dX13_isLib_13 (by decide +kernel) ?_
  exact (wX13_isLib_14 hZ)
noncomputable def vX13_isLib_9 : rx_K := o_const 8 (vX13_isLib_14)
set_option maxRecDepth 20000 in
theorem wX13_isLib_9 (hZ : zO b e D A X) : rx_OK (zV b e D A X) mX13_isLib 0 9 vX13_isLib_9 := by
  unfold vX13_isLib_9
  refine s_iconst dX13_isLib_9 (by decide +kernel) ?_
  exact s_goto dX13_isLib_10 (by decide) (wX13_isLib_14 hZ)
noncomputable def vX13_isLib_4 : rx_K := o_ld rx_isI 1 (o_const 40 (o_c2 rx_lt vX13_isLib_9 vX13_isLib_13))
set_option maxRecDepth 20000 in
theorem wX13_isLib_4 (hZ : zO b e D A X) : rx_OK (zV b e D A X) mX13_isLib 0 4 vX13_isLib_4 := by
  unfold vX13_isLib_4
  refine s_iload_n hZ.1 dX13_isLib_4 rfl ?_
  refine s_iconst dX13_isLib_5 (by decide +kernel) ?_
  exact s_icmp_ge dX13_isLib_6 (by decide) (wX13_isLib_13 hZ) (wX13_isLib_9 hZ)
noncomputable def vX13_isLib_0 : rx_K := o_ld rx_isI 1 (o_c1 rx_lt vX13_isLib_13 vX13_isLib_4)
set_option maxRecDepth 20000 in
theorem wX13_isLib_0 (hZ : zO b e D A X) : rx_OK (zV b e D A X) mX13_isLib 0 0 vX13_isLib_0 := by
  unfold vX13_isLib_0
  refine s_iload_n hZ.1 dX13_isLib_0 rfl ?_
  exact s_if_lt dX13_isLib_1 (by decide) (wX13_isLib_13 hZ) (wX13_isLib_4 hZ)
noncomputable def FX13_isLib : List Nat → rx_H → Option (Nat × rx_H) := rx_ent 2 vX13_isLib_0
theorem Met_X13_isLib (hZ : zO b e D A X) : rx_Met (zV b e D A X) 0 yX13_isLib mX13_isLib (FX13_isLib) := rx_entry hZ.1 (wX13_isLib_0 hZ) (by decide +kernel) rfl (fun h => by cases h)
abbrev mX13_judgeAll : rx_M := (RX13, cX13_judgeAll, 1, none, false)
theorem vy_X13_judgeAll : rx_Y (zV b e D A X) yX13_judgeAll mX13_judgeAll 0 := ⟨zw3163, zw431, by decide, by decide +kernel, by decide +kernel, by decide +kernel⟩
noncomputable def vX13_judgeAll_82 : rx_K := o_ld rx_isR 0 (o_const 34359738352 (o_putf rx_isI 13 91 (o_ret0)))
set_option maxRecDepth 20000 in
theorem wX13_judgeAll_82 (hZ : zO b e D A X) : rx_OK (zV b e D A X) mX13_judgeAll 578 82 vX13_judgeAll_82 := by
  unfold vX13_judgeAll_82
  refine s_aload_n hZ.1 dX13_judgeAll_82 rfl ?_
  refine s_bipush dX13_judgeAll_83 (by decide +kernel) ?_
  refine yp13_91 hZ.1 dX13_judgeAll_85 zw4212 ?_
  exact s_vret rfl dX13_judgeAll_88
noncomputable def vX13_judgeAll_78 : rx_K := o_ld rx_isR 0 (o_callV 0 13 FX13_usesOfAll (vX13_judgeAll_82))
set_option maxRecDepth 20000 in
theorem wX13_judgeAll_78 (hZ : zO b e D A X) : rx_OK (zV b e D A X) mX13_judgeAll 578 78 vX13_judgeAll_78 := by
  unfold vX13_judgeAll_78
  refine s_aload_n hZ.1 dX13_judgeAll_78 rfl ?_
  refine s_callV hZ.1 (Met_X13_usesOfAll hZ) (Nat.le_of_ble_eq_true rfl) vy_X13_usesOfAll zcl13 zw3505 zw300 (Or.inl zw3503) dX13_judgeAll_79 ?_
  exact (wX13_judgeAll_82 hZ)
noncomputable def vX13_judgeAll_71 : rx_K := o_ld rx_isR 0 (o_getf 13 20 (o_c1 rx_eq vX13_judgeAll_78 vX13_judgeAll_82))
set_option maxRecDepth 20000 in
theorem wX13_judgeAll_71 (hZ : zO b e D A X) : rx_OK (zV b e D A X) mX13_judgeAll 578 71 vX13_judgeAll_71 := by
  unfold vX13_judgeAll_71
  refine s_aload_n hZ.1 dX13_judgeAll_71 rfl ?_
  refine yg13_20 dX13_judgeAll_72 zw4141 ?_
  exact s_if_ne dX13_judgeAll_75 (by decide) (wX13_judgeAll_82 hZ) (wX13_judgeAll_78 hZ)
noncomputable def vX13_judgeAll_63 : rx_K := o_ld rx_isR 0 (o_callV 0 13 FX13_constants (o_ld rx_isR 0 (o_callV 0 13 FX13_bodies (vX13_judgeAll_71))))
set_option maxRecDepth 20000 in
theorem wX13_judgeAll_63 (hZ : zO b e D A X) : rx_OK (zV b e D A X) mX13_judgeAll 578 63 vX13_judgeAll_63 := by
  unfold vX13_judgeAll_63
  refine s_aload_n hZ.1 dX13_judgeAll_63 rfl ?_
  refine s_callV hZ.1 (Met_X13_constants hZ) (Nat.le_of_ble_eq_true rfl) vy_X13_constants zcl13 zw3331 zw259 (Or.inl zw3329) dX13_judgeAll_64 ?_
  refine s_aload_n hZ.1 dX13_judgeAll_67 rfl ?_
  refine s_callV hZ.1 (Met_X13_bodies hZ) (Nat.le_of_ble_eq_true rfl) vy_X13_bodies zcl13 zw3390 zw272 (Or.inl zw3388) dX13_judgeAll_68 ?_
  exact (wX13_judgeAll_71 hZ)
noncomputable def vX13_judgeAll_56 : rx_K := o_ld rx_isR 0 (o_getf 13 20 (o_c1 rx_eq vX13_judgeAll_63 vX13_judgeAll_71))
set_option maxRecDepth 20000 in
theorem wX13_judgeAll_56 (hZ : zO b e D A X) : rx_OK (zV b e D A X) mX13_judgeAll 578 56 vX13_judgeAll_56 := by
  unfold vX13_judgeAll_56
  refine s_aload_n hZ.1 dX13_judgeAll_56 rfl ?_
  refine yg13_20 dX13_judgeAll_57 zw4141 ?_
  exact s_if_ne dX13_judgeAll_60 (by decide) (wX13_judgeAll_71 hZ) (wX13_judgeAll_63 hZ)
noncomputable def vX13_judgeAll_52 : rx_K := o_ld rx_isR 0 (o_callV 0 13 FX13_lacking (vX13_judgeAll_56))
set_option maxRecDepth 20000 in
theorem wX13_judgeAll_52 (hZ : zO b e D A X) : rx_OK (zV b e D A X) mX13_judgeAll 578 52 vX13_judgeAll_52 := by
  unfold vX13_judgeAll_52
  refine s_aload_n hZ.1 dX13_judgeAll_52 rfl ?_
  refine s_callV hZ.1 (Met_X13_lacking hZ) (Nat.le_of_ble_eq_true rfl) vy_X13_lacking zcl13 zw3307 zw253 (Or.inl zw3305) dX13_judgeAll_53 ?_
  exact (wX13_judgeAll_56 hZ)
noncomputable def vX13_judgeAll_45 : rx_K := o_ld rx_isR 0 (o_getf 13 20 (o_c1 rx_eq vX13_judgeAll_52 vX13_judgeAll_56))
set_option maxRecDepth 20000 in
theorem wX13_judgeAll_45 (hZ : zO b e D A X) : rx_OK (zV b e D A X) mX13_judgeAll 578 45 vX13_judgeAll_45 := by
  unfold vX13_judgeAll_45
  refine s_aload_n hZ.1 dX13_judgeAll_45 rfl ?_
  refine yg13_20 dX13_judgeAll_46 zw4141 ?_
  exact s_if_ne dX13_judgeAll_49 (by decide) (wX13_judgeAll_56 hZ) (wX13_judgeAll_52 hZ)
noncomputable def vX13_judgeAll_41 : rx_K := o_ld rx_isR 0 (o_callV 0 13 FX13_makersAndBridges (vX13_judgeAll_45))
set_option maxRecDepth 20000 in
theorem wX13_judgeAll_41 (hZ : zO b e D A X) : rx_OK (zV b e D A X) mX13_judgeAll 578 41 vX13_judgeAll_41 := by
  unfold vX13_judgeAll_41
  refine s_aload_n hZ.1 dX13_judgeAll_41 rfl ?_
  refine s_callV hZ.1 (Met_X13_makersAndBridges hZ) (Nat.le_of_ble_eq_true rfl) vy_X13_makersAndBridges zcl13 zw3283 zw247 (Or.inl zw3281) dX13_judgeAll_42 ?_
  exact (wX13_judgeAll_45 hZ)
noncomputable def vX13_judgeAll_34 : rx_K := o_ld rx_isR 0 (o_getf 13 20 (o_c1 rx_eq vX13_judgeAll_41 vX13_judgeAll_45))
set_option maxRecDepth 20000 in
theorem wX13_judgeAll_34 (hZ : zO b e D A X) : rx_OK (zV b e D A X) mX13_judgeAll 578 34 vX13_judgeAll_34 := by
  unfold vX13_judgeAll_34
  refine s_aload_n hZ.1 dX13_judgeAll_34 rfl ?_
  refine yg13_20 dX13_judgeAll_35 zw4141 ?_
  exact s_if_ne dX13_judgeAll_38 (by decide) (wX13_judgeAll_45 hZ) (wX13_judgeAll_41 hZ)
noncomputable def vX13_judgeAll_30 : rx_K := o_ld rx_isR 0 (o_callV 0 13 FX13_againstAbove (vX13_judgeAll_34))
set_option maxRecDepth 20000 in
theorem wX13_judgeAll_30 (hZ : zO b e D A X) : rx_OK (zV b e D A X) mX13_judgeAll 578 30 vX13_judgeAll_30 := by
  unfold vX13_judgeAll_30
  refine s_aload_n hZ.1 dX13_judgeAll_30 rfl ?_
  refine s_callV hZ.1 (Met_X13_againstAbove hZ) (Nat.le_of_ble_eq_true rfl) vy_X13_againstAbove zcl13 zw3247 zw239 (Or.inl zw3245) dX13_judgeAll_31 ?_
  exact (wX13_judgeAll_34 hZ)
noncomputable def vX13_judgeAll_23 : rx_K := o_ld rx_isR 0 (o_getf 13 20 (o_c1 rx_eq vX13_judgeAll_30 vX13_judgeAll_34))
set_option maxRecDepth 20000 in
theorem wX13_judgeAll_23 (hZ : zO b e D A X) : rx_OK (zV b e D A X) mX13_judgeAll 578 23 vX13_judgeAll_23 := by
  unfold vX13_judgeAll_23
  refine s_aload_n hZ.1 dX13_judgeAll_23 rfl ?_
  refine yg13_20 dX13_judgeAll_24 zw4141 ?_
  exact s_if_ne dX13_judgeAll_27 (by decide) (wX13_judgeAll_34 hZ) (wX13_judgeAll_30 hZ)
noncomputable def vX13_judgeAll_19 : rx_K := o_ld rx_isR 0 (o_callV 0 13 FX13_membersOf (vX13_judgeAll_23))
set_option maxRecDepth 20000 in
theorem wX13_judgeAll_19 (hZ : zO b e D A X) : rx_OK (zV b e D A X) mX13_judgeAll 578 19 vX13_judgeAll_19 := by
  unfold vX13_judgeAll_19
  refine s_aload_n hZ.1 dX13_judgeAll_19 rfl ?_
  refine s_callV hZ.1 (Met_X13_membersOf hZ) (Nat.le_of_ble_eq_true rfl) vy_X13_membersOf zcl13 zw3224 zw234 (Or.inl zw3222) dX13_judgeAll_20 ?_
  exact (wX13_judgeAll_23 hZ)
noncomputable def vX13_judgeAll_0 : rx_K := o_ld rx_isR 0 (o_ld rx_isR 0 (o_getf 13 19 (o_putf rx_isI 13 91 (o_ld rx_isR 0 (o_callV 0 13 FX13_heads (o_ld rx_isR 0 (o_getf 13 20 (o_c1 rx_eq vX13_judgeAll_19 vX13_judgeAll_23))))))))
set_option maxRecDepth 20000 in
theorem wX13_judgeAll_0 (hZ : zO b e D A X) : rx_OK (zV b e D A X) mX13_judgeAll 578 0 vX13_judgeAll_0 := by
  unfold vX13_judgeAll_0
  refine s_aload_n hZ.1 dX13_judgeAll_0 rfl ?_
  refine s_aload_n hZ.1 dX13_judgeAll_1 rfl ?_
  refine yg13_19 dX13_judgeAll_2 zw4140 ?_
  refine yp13_91 hZ.1 dX13_judgeAll_5 zw4212 ?_
  refine s_aload_n hZ.1 dX13_judgeAll_8 rfl ?_
  refine s_callV hZ.1 (Met_X13_heads hZ) (Nat.le_of_ble_eq_true rfl) vy_X13_heads zcl13 zw3166 zw223 (Or.inl zw3164) dX13_judgeAll_9 ?_
  refine s_aload_n hZ.1 dX13_judgeAll_12 rfl ?_
  refine yg13_20 dX13_judgeAll_13 zw4141 ?_
  exact s_if_ne dX13_judgeAll_16 (by decide) (wX13_judgeAll_23 hZ) (wX13_judgeAll_19 hZ)
noncomputable def FX13_judgeAll : List Nat → rx_H → Option (Nat × rx_H) := rx_ent 1 vX13_judgeAll_0
theorem Met_X13_judgeAll (hZ : zO b e D A X) : rx_Met (zV b e D A X) 578 yX13_judgeAll mX13_judgeAll (FX13_judgeAll) := rx_entry hZ.1 (wX13_judgeAll_0 hZ) (by decide +kernel) rfl (fun h => by cases h)
end ZM57

section ZM66
variable {b : Nat} {e : Nat → Value} {D : va_G} {A : Nat → ClassId} {X : State → Prop}
noncomputable def vX13_invoke_185 (g : Nat → List Nat → rx_H → Option (Nat × rx_H)) : rx_K := o_putf rx_isI 13 164 (o_ld rx_isR 0 (o_ld rx_isI 5 (o_putf rx_isI 13 155 (o_ld rx_isR 0 (o_dup (o_getf 13 162 (o_const 8 (o_bi (fun x y => x - y) (o_putf rx_isI 13 162 (o_ld rx_isI 6 (o_ret1 rx_isI)))))))))))
set_option maxRecDepth 20000 in
theorem wX13_invoke_185 {dn : Nat} {g : Nat → List Nat → rx_H → Option (Nat × rx_H)} (hZ : zO b e D A X) (hg : ∀ i y M, vl19[i]? = some (y, M) → rx_Met (zV b e D A X) dn y M (g i)) (hd : 333 ≤ dn) : rx_OK (zV b e D A X) mX13_invoke (dn + 1) 185 (vX13_invoke_185 g) := by
  unfold vX13_invoke_185
  refine yp13_164 hZ.1 dX13_invoke_185 zw4284 ?_
  refine s_aload_n hZ.1 dX13_invoke_188 rfl ?_
  refine s_iload hZ.1 dX13_invoke_189 ?_
  refine yp13_155 hZ.1 dX13_invoke_191 zw4275 ?_
  refine s_aload_n hZ.1 dX13_invoke_194 rfl ?_
  refine s_dup hZ.1 dX13_invoke_195 ?_
  refine yg13_162 dX13_invoke_196 zw4282 ?_
  refine s_iconst dX13_invoke_199 (by decide +kernel) ?_
  refine s_isub dX13_invoke_200 ?_
  refine yp13_162 hZ.1 dX13_invoke_201 zw4282 ?_
  refine s_iload hZ.1 dX13_invoke_204 ?_
  exact s_iret hZ.1 rfl dX13_invoke_206
noncomputable def vX13_invoke_181 (g : Nat → List Nat → rx_H → Option (Nat × rx_H)) : rx_K := o_ld rx_isR 0 (o_getf 13 164 ((vX13_invoke_185 g)))
set_option maxRecDepth 20000 in
theorem wX13_invoke_181 {dn : Nat} {g : Nat → List Nat → rx_H → Option (Nat × rx_H)} (hZ : zO b e D A X) (hg : ∀ i y M, vl19[i]? = some (y, M) → rx_Met (zV b e D A X) dn y M (g i)) (hd : 333 ≤ dn) : rx_OK (zV b e D A X) mX13_invoke (dn + 1) 181 (vX13_invoke_181 g) := by
  unfold vX13_invoke_181
  refine s_aload_n hZ.1 dX13_invoke_181 rfl ?_
  refine yg13_164 dX13_invoke_182 zw4284 ?_
  exact (wX13_invoke_185 hZ hg hd)
noncomputable def vX13_invoke_177 (g : Nat → List Nat → rx_H → Option (Nat × rx_H)) : rx_K := o_const 0 ((vX13_invoke_185 g))
set_option maxRecDepth 20000 in
theorem wX13_invoke_177 {dn : Nat} {g : Nat → List Nat → rx_H → Option (Nat × rx_H)} (hZ : zO b e D A X) (hg : ∀ i y M, vl19[i]? = some (y, M) → rx_Met (zV b e D A X) dn y M (g i)) (hd : 333 ≤ dn) : rx_OK (zV b e D A X) mX13_invoke (dn + 1) 177 (vX13_invoke_177 g) := by
  unfold vX13_invoke_177
  refine s_iconst dX13_invoke_177 (by decide +kernel) ?_
  exact s_goto dX13_invoke_178 (by decide) (wX13_invoke_185 hZ hg hd)
noncomputable def vX13_invoke_168 (g : Nat → List Nat → rx_H → Option (Nat × rx_H)) : rx_K := o_ld rx_isR 0 (o_ld rx_isR 0 (o_getf 13 164 (o_const 8 (o_c2 rx_eq (vX13_invoke_177 g) (vX13_invoke_181 g)))))
set_option maxRecDepth 20000 in
theorem wX13_invoke_168 {dn : Nat} {g : Nat → List Nat → rx_H → Option (Nat × rx_H)} (hZ : zO b e D A X) (hg : ∀ i y M, vl19[i]? = some (y, M) → rx_Met (zV b e D A X) dn y M (g i)) (hd : 333 ≤ dn) : rx_OK (zV b e D A X) mX13_invoke (dn + 1) 168 (vX13_invoke_168 g) := by
  unfold vX13_invoke_168
  refine s_aload_n hZ.1 dX13_invoke_168 rfl ?_
  refine s_aload_n hZ.1 dX13_invoke_169 rfl ?_
  refine yg13_164 dX13_invoke_170 zw4284 ?_
  refine s_iconst dX13_invoke_173 (by decide +kernel) ?_
  exact s_icmp_ne dX13_invoke_174 (by decide) (wX13_invoke_181 hZ hg hd) (wX13_invoke_177 hZ hg hd)
noncomputable def vX13_invoke_166 (g : Nat → List Nat → rx_H → Option (Nat × rx_H)) : rx_K := o_st rx_isI 6 ((vX13_invoke_168 g))
set_option maxRecDepth 20000 in
theorem wX13_invoke_166 {dn : Nat} {g : Nat → List Nat → rx_H → Option (Nat × rx_H)} (hZ : zO b e D A X) (hg : ∀ i y M, vl19[i]? = some (y, M) → rx_Met (zV b e D A X) dn y M (g i)) (hd : 333 ≤ dn) : rx_OK (zV b e D A X) mX13_invoke (dn + 1) 166 (vX13_invoke_166 g) := by
  unfold vX13_invoke_166
  refine s_istore hZ.1 dX13_invoke_166 (Nat.le_of_ble_eq_true rfl) ?_
  exact (wX13_invoke_168 hZ hg hd)
noncomputable def vX13_invoke_165 (g : Nat → List Nat → rx_H → Option (Nat × rx_H)) : rx_K := o_const 0 ((vX13_invoke_166 g))
set_option maxRecDepth 20000 in
theorem wX13_invoke_165 {dn : Nat} {g : Nat → List Nat → rx_H → Option (Nat × rx_H)} (hZ : zO b e D A X) (hg : ∀ i y M, vl19[i]? = some (y, M) → rx_Met (zV b e D A X) dn y M (g i)) (hd : 333 ≤ dn) : rx_OK (zV b e D A X) mX13_invoke (dn + 1) 165 (vX13_invoke_165 g) := by
  unfold vX13_invoke_165
  refine s_iconst dX13_invoke_165 (by decide +kernel) ?_
  exact (wX13_invoke_166 hZ hg hd)
noncomputable def vX13_invoke_158 (g : Nat → List Nat → rx_H → Option (Nat × rx_H)) : rx_K := o_ld rx_isR 0 (o_getf 13 166 ((vX13_invoke_166 g)))
set_option maxRecDepth 20000 in
theorem wX13_invoke_158 {dn : Nat} {g : Nat → List Nat → rx_H → Option (Nat × rx_H)} (hZ : zO b e D A X) (hg : ∀ i y M, vl19[i]? = some (y, M) → rx_Met (zV b e D A X) dn y M (g i)) (hd : 333 ≤ dn) : rx_OK (zV b e D A X) mX13_invoke (dn + 1) 158 (vX13_invoke_158 g) := by
  unfold vX13_invoke_158
  refine s_aload_n hZ.1 dX13_invoke_158 rfl ?_
  refine yg13_166 dX13_invoke_159 zw4286 ?_
  exact s_goto dX13_invoke_162 (by decide) (wX13_invoke_166 hZ hg hd)
noncomputable def vX13_invoke_136 (g : Nat → List Nat → rx_H → Option (Nat × rx_H)) : rx_K := o_ld rx_isR 0 (o_ld rx_isR 0 (o_getf 13 61 (o_ld rx_isI 1 (o_ald 0 (o_ld rx_isI 4 (o_ld rx_isI 2 (o_ld rx_isI 3 (o_callV 4 13 (g 8) (o_ld rx_isR 0 (o_getf 13 164 (o_const 8 (o_c2 rx_eq (vX13_invoke_158 g) (vX13_invoke_165 g)))))))))))))
set_option maxRecDepth 20000 in
theorem wX13_invoke_136 {dn : Nat} {g : Nat → List Nat → rx_H → Option (Nat × rx_H)} (hZ : zO b e D A X) (hg : ∀ i y M, vl19[i]? = some (y, M) → rx_Met (zV b e D A X) dn y M (g i)) (hd : 333 ≤ dn) : rx_OK (zV b e D A X) mX13_invoke (dn + 1) 136 (vX13_invoke_136 g) := by
  unfold vX13_invoke_136
  refine s_aload_n hZ.1 dX13_invoke_136 rfl ?_
  refine s_aload_n hZ.1 dX13_invoke_137 rfl ?_
  refine yg13_61 dX13_invoke_138 zw4182 ?_
  refine s_iload_n hZ.1 dX13_invoke_141 rfl ?_
  refine s_iald (tt := 0) rfl dX13_invoke_142 ?_
  refine s_iload hZ.1 dX13_invoke_143 ?_
  refine s_iload_n hZ.1 dX13_invoke_145 rfl ?_
  refine s_iload_n hZ.1 dX13_invoke_146 rfl ?_
  refine s_callV hZ.1 (hg 8 _ _ rfl) (Nat.le_refl _) vy_X13_exec zcl13 zw3924 zw378 (Or.inl zw3922) dX13_invoke_147 ?_
  refine s_aload_n hZ.1 dX13_invoke_150 rfl ?_
  refine yg13_164 dX13_invoke_151 zw4284 ?_
  refine s_iconst dX13_invoke_154 (by decide +kernel) ?_
  exact s_icmp_ne dX13_invoke_155 (by decide) (wX13_invoke_165 hZ hg hd) (wX13_invoke_158 hZ hg hd)
noncomputable def vX13_invoke_126 (g : Nat → List Nat → rx_H → Option (Nat × rx_H)) : rx_K := o_ld rx_isR 0 (o_ld rx_isI 1 (o_ld rx_isI 2 (o_ld rx_isI 3 (o_callV 3 13 (g 13) ((vX13_invoke_168 g))))))
set_option maxRecDepth 20000 in
theorem wX13_invoke_126 {dn : Nat} {g : Nat → List Nat → rx_H → Option (Nat × rx_H)} (hZ : zO b e D A X) (hg : ∀ i y M, vl19[i]? = some (y, M) → rx_Met (zV b e D A X) dn y M (g i)) (hd : 333 ≤ dn) : rx_OK (zV b e D A X) mX13_invoke (dn + 1) 126 (vX13_invoke_126 g) := by
  unfold vX13_invoke_126
  refine s_aload_n hZ.1 dX13_invoke_126 rfl ?_
  refine s_iload_n hZ.1 dX13_invoke_127 rfl ?_
  refine s_iload_n hZ.1 dX13_invoke_128 rfl ?_
  refine s_iload_n hZ.1 dX13_invoke_129 rfl ?_
  refine s_callV hZ.1 (hg 13 _ _ rfl) (Nat.le_refl _) vy_X13_runMaker zcl13 zw3920 zw377 (Or.inl zw3918) dX13_invoke_130 ?_
  exact s_goto dX13_invoke_133 (by decide) (wX13_invoke_168 hZ hg hd)
noncomputable def vX13_invoke_116 (g : Nat → List Nat → rx_H → Option (Nat × rx_H)) : rx_K := o_ld rx_isR 0 (o_getf 13 42 (o_ld rx_isI 1 (o_ald 0 (o_const 16 (o_c2 rx_eq (vX13_invoke_126 g) (vX13_invoke_136 g))))))
set_option maxRecDepth 20000 in
theorem wX13_invoke_116 {dn : Nat} {g : Nat → List Nat → rx_H → Option (Nat × rx_H)} (hZ : zO b e D A X) (hg : ∀ i y M, vl19[i]? = some (y, M) → rx_Met (zV b e D A X) dn y M (g i)) (hd : 333 ≤ dn) : rx_OK (zV b e D A X) mX13_invoke (dn + 1) 116 (vX13_invoke_116 g) := by
  unfold vX13_invoke_116
  refine s_aload_n hZ.1 dX13_invoke_116 rfl ?_
  refine yg13_42 dX13_invoke_117 zw4163 ?_
  refine s_iload_n hZ.1 dX13_invoke_120 rfl ?_
  refine s_iald (tt := 0) rfl dX13_invoke_121 ?_
  refine s_iconst dX13_invoke_122 (by decide +kernel) ?_
  exact s_icmp_ne dX13_invoke_123 (by decide) (wX13_invoke_136 hZ hg hd) (wX13_invoke_126 hZ hg hd)
noncomputable def vX13_invoke_104 (g : Nat → List Nat → rx_H → Option (Nat × rx_H)) : rx_K := o_ld rx_isR 0 (o_ld rx_isI 1 (o_ld rx_isI 2 (o_ld rx_isI 3 (o_callV 3 13 (g 0) (o_st rx_isI 6 ((vX13_invoke_168 g)))))))
set_option maxRecDepth 20000 in
theorem wX13_invoke_104 {dn : Nat} {g : Nat → List Nat → rx_H → Option (Nat × rx_H)} (hZ : zO b e D A X) (hg : ∀ i y M, vl19[i]? = some (y, M) → rx_Met (zV b e D A X) dn y M (g i)) (hd : 333 ≤ dn) : rx_OK (zV b e D A X) mX13_invoke (dn + 1) 104 (vX13_invoke_104 g) := by
  unfold vX13_invoke_104
  refine s_aload_n hZ.1 dX13_invoke_104 rfl ?_
  refine s_iload_n hZ.1 dX13_invoke_105 rfl ?_
  refine s_iload_n hZ.1 dX13_invoke_106 rfl ?_
  refine s_iload_n hZ.1 dX13_invoke_107 rfl ?_
  refine s_callV hZ.1 (hg 0 _ _ rfl) (Nat.le_refl _) vy_X13_alongBridge zcl13 zw3912 zw375 (Or.inl zw3910) dX13_invoke_108 ?_
  refine s_istore hZ.1 dX13_invoke_111 (Nat.le_of_ble_eq_true rfl) ?_
  exact s_goto dX13_invoke_113 (by decide) (wX13_invoke_168 hZ hg hd)
noncomputable def vX13_invoke_64 (g : Nat → List Nat → rx_H → Option (Nat × rx_H)) : rx_K := o_ld rx_isR 0 (o_dup (o_getf 13 162 (o_const 8 (o_bi (fun x y => x + y) (o_putf rx_isI 13 162 (o_ld rx_isR 0 (o_getf 13 155 (o_st rx_isI 5 (o_ld rx_isR 0 (o_ld rx_isI 3 (o_ld rx_isR 0 (o_getf 13 68 (o_ld rx_isI 1 (o_ald 0 (o_bi (fun x y => x + y) (o_putf rx_isI 13 155 (o_const 0 (o_st rx_isI 6 (o_ld rx_isR 0 (o_getf 13 49 (o_ld rx_isI 1 (o_ald 3 (o_c1 rx_eq (vX13_invoke_116 g) (vX13_invoke_104 g))))))))))))))))))))))))
set_option maxRecDepth 20000 in
theorem wX13_invoke_64 {dn : Nat} {g : Nat → List Nat → rx_H → Option (Nat × rx_H)} (hZ : zO b e D A X) (hg : ∀ i y M, vl19[i]? = some (y, M) → rx_Met (zV b e D A X) dn y M (g i)) (hd : 333 ≤ dn) : rx_OK (zV b e D A X) mX13_invoke (dn + 1) 64 (vX13_invoke_64 g) := by
  unfold vX13_invoke_64
  refine s_aload_n hZ.1 dX13_invoke_64 rfl ?_
  refine s_dup hZ.1 dX13_invoke_65 ?_
  refine yg13_162 dX13_invoke_66 zw4282 ?_
  refine s_iconst dX13_invoke_69 (by decide +kernel) ?_
  refine s_iadd dX13_invoke_70 ?_
  refine yp13_162 hZ.1 dX13_invoke_71 zw4282 ?_
  refine s_aload_n hZ.1 dX13_invoke_74 rfl ?_
  refine yg13_155 dX13_invoke_75 zw4275 ?_
  refine s_istore hZ.1 dX13_invoke_78 (Nat.le_of_ble_eq_true rfl) ?_
  refine s_aload_n hZ.1 dX13_invoke_80 rfl ?_
  refine s_iload_n hZ.1 dX13_invoke_81 rfl ?_
  refine s_aload_n hZ.1 dX13_invoke_82 rfl ?_
  refine yg13_68 dX13_invoke_83 zw4189 ?_
  refine s_iload_n hZ.1 dX13_invoke_86 rfl ?_
  refine s_iald (tt := 0) rfl dX13_invoke_87 ?_
  refine s_iadd dX13_invoke_88 ?_
  refine yp13_155 hZ.1 dX13_invoke_89 zw4275 ?_
  refine s_iconst dX13_invoke_92 (by decide +kernel) ?_
  refine s_istore hZ.1 dX13_invoke_93 (Nat.le_of_ble_eq_true rfl) ?_
  refine s_aload_n hZ.1 dX13_invoke_95 rfl ?_
  refine yg13_49 dX13_invoke_96 zw4170 ?_
  refine s_iload_n hZ.1 dX13_invoke_99 rfl ?_
  refine s_zald (tt := 3) rfl dX13_invoke_100 ?_
  exact s_if_eq dX13_invoke_101 (by decide) (wX13_invoke_116 hZ hg hd) (wX13_invoke_104 hZ hg hd)
noncomputable def vX13_invoke_62 (g : Nat → List Nat → rx_H → Option (Nat × rx_H)) : rx_K := o_const 0 (o_ret1 rx_isI)
set_option maxRecDepth 20000 in
theorem wX13_invoke_62 {dn : Nat} {g : Nat → List Nat → rx_H → Option (Nat × rx_H)} (hZ : zO b e D A X) (hg : ∀ i y M, vl19[i]? = some (y, M) → rx_Met (zV b e D A X) dn y M (g i)) (hd : 333 ≤ dn) : rx_OK (zV b e D A X) mX13_invoke (dn + 1) 62 (vX13_invoke_62 g) := by
  unfold vX13_invoke_62
  refine s_iconst dX13_invoke_62 (by decide +kernel) ?_
  exact s_iret hZ.1 rfl dX13_invoke_63
noncomputable def vX13_invoke_55 (g : Nat → List Nat → rx_H → Option (Nat × rx_H)) : rx_K := o_ld rx_isR 0 (o_callV 0 13 FX13_steps (o_c1 rx_eq (vX13_invoke_62 g) (vX13_invoke_64 g)))
set_option maxRecDepth 20000 in
theorem wX13_invoke_55 {dn : Nat} {g : Nat → List Nat → rx_H → Option (Nat × rx_H)} (hZ : zO b e D A X) (hg : ∀ i y M, vl19[i]? = some (y, M) → rx_Met (zV b e D A X) dn y M (g i)) (hd : 333 ≤ dn) : rx_OK (zV b e D A X) mX13_invoke (dn + 1) 55 (vX13_invoke_55 g) := by
  unfold vX13_invoke_55
  refine s_aload_n hZ.1 dX13_invoke_55 rfl ?_
  refine s_callV hZ.1 (Met_X13_steps hZ) (Nat.succ_le_succ (Nat.le_trans (Nat.le_of_ble_eq_true rfl) hd)) vy_X13_steps zcl13 zw3908 zw374 (Or.inl zw3906) dX13_invoke_56 ?_
  exact s_if_ne dX13_invoke_59 (by decide) (wX13_invoke_64 hZ hg hd) (wX13_invoke_62 hZ hg hd)
noncomputable def vX13_invoke_48 (g : Nat → List Nat → rx_H → Option (Nat × rx_H)) : rx_K := o_ld rx_isR 0 (o_const 120 (o_callV 1 13 FX13_fail (o_ret1 rx_isI)))
set_option maxRecDepth 20000 in
theorem wX13_invoke_48 {dn : Nat} {g : Nat → List Nat → rx_H → Option (Nat × rx_H)} (hZ : zO b e D A X) (hg : ∀ i y M, vl19[i]? = some (y, M) → rx_Met (zV b e D A X) dn y M (g i)) (hd : 333 ≤ dn) : rx_OK (zV b e D A X) mX13_invoke (dn + 1) 48 (vX13_invoke_48 g) := by
  unfold vX13_invoke_48
  refine s_aload_n hZ.1 dX13_invoke_48 rfl ?_
  refine s_bipush dX13_invoke_49 (by decide +kernel) ?_
  refine s_callV hZ.1 (Met_X13_fail hZ) (Nat.succ_le_succ (Nat.le_trans (Nat.le_of_ble_eq_true rfl) hd)) vy_X13_fail zcl13 zw3820 zw352 (Or.inl zw3818) dX13_invoke_51 ?_
  exact s_iret hZ.1 rfl dX13_invoke_54
noncomputable def vX13_invoke_39 (g : Nat → List Nat → rx_H → Option (Nat × rx_H)) : rx_K := o_ld rx_isR 0 (o_getf 13 162 (o_const 192 (o_c2 rx_eq (vX13_invoke_48 g) (vX13_invoke_55 g))))
set_option maxRecDepth 20000 in
theorem wX13_invoke_39 {dn : Nat} {g : Nat → List Nat → rx_H → Option (Nat × rx_H)} (hZ : zO b e D A X) (hg : ∀ i y M, vl19[i]? = some (y, M) → rx_Met (zV b e D A X) dn y M (g i)) (hd : 333 ≤ dn) : rx_OK (zV b e D A X) mX13_invoke (dn + 1) 39 (vX13_invoke_39 g) := by
  unfold vX13_invoke_39
  refine s_aload_n hZ.1 dX13_invoke_39 rfl ?_
  refine yg13_162 dX13_invoke_40 zw4282 ?_
  refine s_bipush dX13_invoke_43 (by decide +kernel) ?_
  exact s_icmp_ne dX13_invoke_45 (by decide) (wX13_invoke_55 hZ hg hd) (wX13_invoke_48 hZ hg hd)
noncomputable def vX13_invoke_29 (g : Nat → List Nat → rx_H → Option (Nat × rx_H)) : rx_K := o_ld rx_isR 0 (o_getf 13 163 (o_const 160000 (o_c2 rx_lt (vX13_invoke_39 g) (vX13_invoke_55 g))))
set_option maxRecDepth 20000 in
theorem wX13_invoke_29 {dn : Nat} {g : Nat → List Nat → rx_H → Option (Nat × rx_H)} (hZ : zO b e D A X) (hg : ∀ i y M, vl19[i]? = some (y, M) → rx_Met (zV b e D A X) dn y M (g i)) (hd : 333 ≤ dn) : rx_OK (zV b e D A X) mX13_invoke (dn + 1) 29 (vX13_invoke_29 g) := by
  unfold vX13_invoke_29
  refine s_aload_n hZ.1 dX13_invoke_29 rfl ?_
  refine yg13_163 dX13_invoke_30 zw4283 ?_
  refine s_sipush dX13_invoke_33 (by decide +kernel) ?_
  exact s_icmp_ge dX13_invoke_36 (by decide) (wX13_invoke_55 hZ hg hd) (wX13_invoke_39 hZ hg hd)
noncomputable def vX13_invoke_27 (g : Nat → List Nat → rx_H → Option (Nat × rx_H)) : rx_K := o_const 0 (o_ret1 rx_isI)
set_option maxRecDepth 20000 in
theorem wX13_invoke_27 {dn : Nat} {g : Nat → List Nat → rx_H → Option (Nat × rx_H)} (hZ : zO b e D A X) (hg : ∀ i y M, vl19[i]? = some (y, M) → rx_Met (zV b e D A X) dn y M (g i)) (hd : 333 ≤ dn) : rx_OK (zV b e D A X) mX13_invoke (dn + 1) 27 (vX13_invoke_27 g) := by
  unfold vX13_invoke_27
  refine s_iconst dX13_invoke_27 (by decide +kernel) ?_
  exact s_iret hZ.1 rfl dX13_invoke_28
noncomputable def vX13_invoke_17 (g : Nat → List Nat → rx_H → Option (Nat × rx_H)) : rx_K := o_ld rx_isI 4 (o_const 96 (o_bin (fun x y => x / y) (o_const 136 (o_c2 rx_eq (vX13_invoke_27 g) (vX13_invoke_29 g)))))
set_option maxRecDepth 20000 in
theorem wX13_invoke_17 {dn : Nat} {g : Nat → List Nat → rx_H → Option (Nat × rx_H)} (hZ : zO b e D A X) (hg : ∀ i y M, vl19[i]? = some (y, M) → rx_Met (zV b e D A X) dn y M (g i)) (hd : 333 ≤ dn) : rx_OK (zV b e D A X) mX13_invoke (dn + 1) 17 (vX13_invoke_17 g) := by
  unfold vX13_invoke_17
  refine s_iload hZ.1 dX13_invoke_17 ?_
  refine s_bipush dX13_invoke_19 (by decide +kernel) ?_
  refine s_idiv dX13_invoke_21 ?_
  refine s_bipush dX13_invoke_22 (by decide +kernel) ?_
  exact s_icmp_ne dX13_invoke_24 (by decide) (wX13_invoke_29 hZ hg hd) (wX13_invoke_27 hZ hg hd)
noncomputable def vX13_invoke_0 (g : Nat → List Nat → rx_H → Option (Nat × rx_H)) : rx_K := o_ld rx_isR 0 (o_ld rx_isI 1 (o_callV 1 13 FX13_classOfMember (o_st rx_isI 4 (o_ld rx_isR 0 (o_getf 13 42 (o_ld rx_isI 1 (o_ald 0 (o_const 16 (o_c2 rx_eq (vX13_invoke_17 g) (vX13_invoke_29 g))))))))))
set_option maxRecDepth 20000 in
theorem wX13_invoke_0 {dn : Nat} {g : Nat → List Nat → rx_H → Option (Nat × rx_H)} (hZ : zO b e D A X) (hg : ∀ i y M, vl19[i]? = some (y, M) → rx_Met (zV b e D A X) dn y M (g i)) (hd : 333 ≤ dn) : rx_OK (zV b e D A X) mX13_invoke (dn + 1) 0 (vX13_invoke_0 g) := by
  unfold vX13_invoke_0
  refine s_aload_n hZ.1 dX13_invoke_0 rfl ?_
  refine s_iload_n hZ.1 dX13_invoke_1 rfl ?_
  refine s_callV hZ.1 (Met_X13_classOfMember hZ) (Nat.succ_le_succ (Nat.le_trans (Nat.le_of_ble_eq_true rfl) hd)) vy_X13_classOfMember zcl13 zw3255 zw241 (Or.inl zw3253) dX13_invoke_2 ?_
  refine s_istore hZ.1 dX13_invoke_5 (Nat.le_of_ble_eq_true rfl) ?_
  refine s_aload_n hZ.1 dX13_invoke_7 rfl ?_
  refine yg13_42 dX13_invoke_8 zw4163 ?_
  refine s_iload_n hZ.1 dX13_invoke_11 rfl ?_
  refine s_iald (tt := 0) rfl dX13_invoke_12 ?_
  refine s_iconst dX13_invoke_13 (by decide +kernel) ?_
  exact s_icmp_ne dX13_invoke_14 (by decide) (wX13_invoke_29 hZ hg hd) (wX13_invoke_17 hZ hg hd)
noncomputable def FX13_invoke (g : Nat → List Nat → rx_H → Option (Nat × rx_H)) : List Nat → rx_H → Option (Nat × rx_H) := rx_ent 7 (vX13_invoke_0 g)
theorem Met_X13_invoke {dn : Nat} {g : Nat → List Nat → rx_H → Option (Nat × rx_H)} (hZ : zO b e D A X) (hg : ∀ i y M, vl19[i]? = some (y, M) → rx_Met (zV b e D A X) dn y M (g i)) (hd : 333 ≤ dn) : rx_Met (zV b e D A X) (dn + 1) yX13_invoke mX13_invoke (FX13_invoke g) := rx_entry hZ.1 (wX13_invoke_0 hZ hg hd) (by decide +kernel) rfl (fun h => by cases h)
noncomputable def vX13_runMaker_259 (g : Nat → List Nat → rx_H → Option (Nat × rx_H)) (j : Nat → rx_K) : rx_K := o_ret0
set_option maxRecDepth 20000 in
theorem wX13_runMaker_259 {dn : Nat} {g : Nat → List Nat → rx_H → Option (Nat × rx_H)} (hZ : zO b e D A X) (hg : ∀ i y M, vl19[i]? = some (y, M) → rx_Met (zV b e D A X) dn y M (g i)) (hd : 333 ≤ dn) (j : Nat → rx_K) (hj : ∀ k pc, [118, 223][k]? = some pc → rx_OK (zV b e D A X) mX13_runMaker (dn + 1) pc (j k)) : rx_OK (zV b e D A X) mX13_runMaker (dn + 1) 259 (vX13_runMaker_259 g j) := by
  unfold vX13_runMaker_259
  exact s_vret rfl dX13_runMaker_259
noncomputable def vX13_runMaker_237 (g : Nat → List Nat → rx_H → Option (Nat × rx_H)) (j : Nat → rx_K) : rx_K := o_ld rx_isR 0 (o_ld rx_isI 5 (o_ld rx_isI 4 (o_ld rx_isI 2 (o_ld rx_isI 3 (o_callV 4 13 (g 8) (o_ld rx_isR 0 (o_getf 13 80 (o_ld rx_isI 5 (o_ald 0 (o_st rx_isI 5 ((j 1))))))))))))
set_option maxRecDepth 20000 in
theorem wX13_runMaker_237 {dn : Nat} {g : Nat → List Nat → rx_H → Option (Nat × rx_H)} (hZ : zO b e D A X) (hg : ∀ i y M, vl19[i]? = some (y, M) → rx_Met (zV b e D A X) dn y M (g i)) (hd : 333 ≤ dn) (j : Nat → rx_K) (hj : ∀ k pc, [118, 223][k]? = some pc → rx_OK (zV b e D A X) mX13_runMaker (dn + 1) pc (j k)) : rx_OK (zV b e D A X) mX13_runMaker (dn + 1) 237 (vX13_runMaker_237 g j) := by
  unfold vX13_runMaker_237
  refine s_aload_n hZ.1 dX13_runMaker_237 rfl ?_
  refine s_iload hZ.1 dX13_runMaker_238 ?_
  refine s_iload hZ.1 dX13_runMaker_240 ?_
  refine s_iload_n hZ.1 dX13_runMaker_242 rfl ?_
  refine s_iload_n hZ.1 dX13_runMaker_243 rfl ?_
  refine s_callV hZ.1 (hg 8 _ _ rfl) (Nat.le_refl _) vy_X13_exec zcl13 zw3924 zw378 (Or.inl zw3922) dX13_runMaker_244 ?_
  refine s_aload_n hZ.1 dX13_runMaker_247 rfl ?_
  refine yg13_80 dX13_runMaker_248 zw4201 ?_
  refine s_iload hZ.1 dX13_runMaker_251 ?_
  refine s_iald (tt := 0) rfl dX13_runMaker_253 ?_
  refine s_istore hZ.1 dX13_runMaker_254 (Nat.le_of_ble_eq_true rfl) ?_
  exact s_goto dX13_runMaker_256 (by decide) (hj 1 223 rfl)
noncomputable def vX13_runMaker_230 (g : Nat → List Nat → rx_H → Option (Nat × rx_H)) (j : Nat → rx_K) : rx_K := o_ld rx_isR 0 (o_getf 13 164 (o_c1 rx_eq (vX13_runMaker_237 g j) (vX13_runMaker_259 g j)))
set_option maxRecDepth 20000 in
theorem wX13_runMaker_230 {dn : Nat} {g : Nat → List Nat → rx_H → Option (Nat × rx_H)} (hZ : zO b e D A X) (hg : ∀ i y M, vl19[i]? = some (y, M) → rx_Met (zV b e D A X) dn y M (g i)) (hd : 333 ≤ dn) (j : Nat → rx_K) (hj : ∀ k pc, [118, 223][k]? = some pc → rx_OK (zV b e D A X) mX13_runMaker (dn + 1) pc (j k)) : rx_OK (zV b e D A X) mX13_runMaker (dn + 1) 230 (vX13_runMaker_230 g j) := by
  unfold vX13_runMaker_230
  refine s_aload_n hZ.1 dX13_runMaker_230 rfl ?_
  refine yg13_164 dX13_runMaker_231 zw4284 ?_
  exact s_if_ne dX13_runMaker_234 (by decide) (wX13_runMaker_259 hZ hg hd j hj) (wX13_runMaker_237 hZ hg hd j hj)
noncomputable def vX13_runMaker_223 (g : Nat → List Nat → rx_H → Option (Nat × rx_H)) (j : Nat → rx_K) : rx_K := o_ld rx_isI 5 (o_const 34359738352 (o_c2 rx_eq (vX13_runMaker_259 g j) (vX13_runMaker_230 g j)))
set_option maxRecDepth 20000 in
theorem wX13_runMaker_223 {dn : Nat} {g : Nat → List Nat → rx_H → Option (Nat × rx_H)} (hZ : zO b e D A X) (hg : ∀ i y M, vl19[i]? = some (y, M) → rx_Met (zV b e D A X) dn y M (g i)) (hd : 333 ≤ dn) (j : Nat → rx_K) (hj : ∀ k pc, [118, 223][k]? = some pc → rx_OK (zV b e D A X) mX13_runMaker (dn + 1) pc (j k)) : rx_OK (zV b e D A X) mX13_runMaker (dn + 1) 223 (vX13_runMaker_223 g j) := by
  unfold vX13_runMaker_223
  refine s_iload hZ.1 dX13_runMaker_223 ?_
  refine s_bipush dX13_runMaker_225 (by decide +kernel) ?_
  exact s_icmp_eq dX13_runMaker_227 (by decide) (wX13_runMaker_259 hZ hg hd j hj) (wX13_runMaker_230 hZ hg hd j hj)
noncomputable def vX13_runMaker_217 (g : Nat → List Nat → rx_H → Option (Nat × rx_H)) (j : Nat → rx_K) : rx_K := o_inc 6 (1) ((j 0))
set_option maxRecDepth 20000 in
theorem wX13_runMaker_217 {dn : Nat} {g : Nat → List Nat → rx_H → Option (Nat × rx_H)} (hZ : zO b e D A X) (hg : ∀ i y M, vl19[i]? = some (y, M) → rx_Met (zV b e D A X) dn y M (g i)) (hd : 333 ≤ dn) (j : Nat → rx_K) (hj : ∀ k pc, [118, 223][k]? = some pc → rx_OK (zV b e D A X) mX13_runMaker (dn + 1) pc (j k)) : rx_OK (zV b e D A X) mX13_runMaker (dn + 1) 217 (vX13_runMaker_217 g j) := by
  unfold vX13_runMaker_217
  refine s_iinc hZ.1 dX13_runMaker_217 (Nat.le_of_ble_eq_true rfl) ?_
  exact s_goto dX13_runMaker_220 (by decide) (hj 0 118 rfl)
noncomputable def vX13_runMaker_203 (g : Nat → List Nat → rx_H → Option (Nat × rx_H)) (j : Nat → rx_K) : rx_K := o_ld rx_isR 0 (o_getf 13 152 (o_ld rx_isR 0 (o_ld rx_isI 2 (o_ld rx_isI 7 (o_callV 2 13 FX13_cellOf (o_ld rx_isI 8 (o_ast 0 (fun v => v) rx_isI ((vX13_runMaker_217 g j)))))))))
set_option maxRecDepth 20000 in
theorem wX13_runMaker_203 {dn : Nat} {g : Nat → List Nat → rx_H → Option (Nat × rx_H)} (hZ : zO b e D A X) (hg : ∀ i y M, vl19[i]? = some (y, M) → rx_Met (zV b e D A X) dn y M (g i)) (hd : 333 ≤ dn) (j : Nat → rx_K) (hj : ∀ k pc, [118, 223][k]? = some pc → rx_OK (zV b e D A X) mX13_runMaker (dn + 1) pc (j k)) : rx_OK (zV b e D A X) mX13_runMaker (dn + 1) 203 (vX13_runMaker_203 g j) := by
  unfold vX13_runMaker_203
  refine s_aload_n hZ.1 dX13_runMaker_203 rfl ?_
  refine yg13_152 dX13_runMaker_204 zw4272 ?_
  refine s_aload_n hZ.1 dX13_runMaker_207 rfl ?_
  refine s_iload_n hZ.1 dX13_runMaker_208 rfl ?_
  refine s_iload hZ.1 dX13_runMaker_209 ?_
  refine s_callV hZ.1 (Met_X13_cellOf hZ) (Nat.succ_le_succ (Nat.le_trans (Nat.le_of_ble_eq_true rfl) hd)) vy_X13_cellOf zcl13 zw3876 zw366 (Or.inl zw3874) dX13_runMaker_211 ?_
  refine s_iload hZ.1 dX13_runMaker_214 ?_
  refine s_iast hZ.1 (tt := 0) rfl dX13_runMaker_216 ?_
  exact (wX13_runMaker_217 hZ hg hd j hj)
noncomputable def vX13_runMaker_179 (g : Nat → List Nat → rx_H → Option (Nat × rx_H)) (j : Nat → rx_K) : rx_K := o_ld rx_isR 0 (o_ld rx_isR 0 (o_getf 13 60 (o_ld rx_isI 7 (o_ald 0 (o_ld rx_isI 4 (o_ld rx_isI 2 (o_ld rx_isI 3 (o_callV 4 13 (g 3) (o_st rx_isI 8 (o_ld rx_isR 0 (o_getf 13 164 (o_c1 rx_eq (vX13_runMaker_203 g j) (vX13_runMaker_217 g j)))))))))))))
set_option maxRecDepth 20000 in
theorem wX13_runMaker_179 {dn : Nat} {g : Nat → List Nat → rx_H → Option (Nat × rx_H)} (hZ : zO b e D A X) (hg : ∀ i y M, vl19[i]? = some (y, M) → rx_Met (zV b e D A X) dn y M (g i)) (hd : 333 ≤ dn) (j : Nat → rx_K) (hj : ∀ k pc, [118, 223][k]? = some pc → rx_OK (zV b e D A X) mX13_runMaker (dn + 1) pc (j k)) : rx_OK (zV b e D A X) mX13_runMaker (dn + 1) 179 (vX13_runMaker_179 g j) := by
  unfold vX13_runMaker_179
  refine s_aload_n hZ.1 dX13_runMaker_179 rfl ?_
  refine s_aload_n hZ.1 dX13_runMaker_180 rfl ?_
  refine yg13_60 dX13_runMaker_181 zw4181 ?_
  refine s_iload hZ.1 dX13_runMaker_184 ?_
  refine s_iald (tt := 0) rfl dX13_runMaker_186 ?_
  refine s_iload hZ.1 dX13_runMaker_187 ?_
  refine s_iload_n hZ.1 dX13_runMaker_189 rfl ?_
  refine s_iload_n hZ.1 dX13_runMaker_190 rfl ?_
  refine s_callV hZ.1 (hg 3 _ _ rfl) (Nat.le_refl _) vy_X13_eval zcl13 zw3852 zw360 (Or.inl zw3850) dX13_runMaker_191 ?_
  refine s_istore hZ.1 dX13_runMaker_194 (Nat.le_of_ble_eq_true rfl) ?_
  refine s_aload_n hZ.1 dX13_runMaker_196 rfl ?_
  refine yg13_164 dX13_runMaker_197 zw4284 ?_
  exact s_if_ne dX13_runMaker_200 (by decide) (wX13_runMaker_217 hZ hg hd j hj) (wX13_runMaker_203 hZ hg hd j hj)
noncomputable def vX13_runMaker_167 (g : Nat → List Nat → rx_H → Option (Nat × rx_H)) (j : Nat → rx_K) : rx_K := o_ld rx_isR 0 (o_getf 13 60 (o_ld rx_isI 7 (o_ald 0 (o_const 34359738352 (o_c2 rx_eq (vX13_runMaker_217 g j) (vX13_runMaker_179 g j))))))
set_option maxRecDepth 20000 in
theorem wX13_runMaker_167 {dn : Nat} {g : Nat → List Nat → rx_H → Option (Nat × rx_H)} (hZ : zO b e D A X) (hg : ∀ i y M, vl19[i]? = some (y, M) → rx_Met (zV b e D A X) dn y M (g i)) (hd : 333 ≤ dn) (j : Nat → rx_K) (hj : ∀ k pc, [118, 223][k]? = some pc → rx_OK (zV b e D A X) mX13_runMaker (dn + 1) pc (j k)) : rx_OK (zV b e D A X) mX13_runMaker (dn + 1) 167 (vX13_runMaker_167 g j) := by
  unfold vX13_runMaker_167
  refine s_aload_n hZ.1 dX13_runMaker_167 rfl ?_
  refine yg13_60 dX13_runMaker_168 zw4181 ?_
  refine s_iload hZ.1 dX13_runMaker_171 ?_
  refine s_iald (tt := 0) rfl dX13_runMaker_173 ?_
  refine s_bipush dX13_runMaker_174 (by decide +kernel) ?_
  exact s_icmp_eq dX13_runMaker_176 (by decide) (wX13_runMaker_217 hZ hg hd j hj) (wX13_runMaker_179 hZ hg hd j hj)
noncomputable def vX13_runMaker_157 (g : Nat → List Nat → rx_H → Option (Nat × rx_H)) (j : Nat → rx_K) : rx_K := o_ld rx_isR 0 (o_getf 13 45 (o_ld rx_isI 7 (o_ald 3 (o_c1 rx_eq (vX13_runMaker_167 g j) (vX13_runMaker_217 g j)))))
set_option maxRecDepth 20000 in
theorem wX13_runMaker_157 {dn : Nat} {g : Nat → List Nat → rx_H → Option (Nat × rx_H)} (hZ : zO b e D A X) (hg : ∀ i y M, vl19[i]? = some (y, M) → rx_Met (zV b e D A X) dn y M (g i)) (hd : 333 ≤ dn) (j : Nat → rx_K) (hj : ∀ k pc, [118, 223][k]? = some pc → rx_OK (zV b e D A X) mX13_runMaker (dn + 1) pc (j k)) : rx_OK (zV b e D A X) mX13_runMaker (dn + 1) 157 (vX13_runMaker_157 g j) := by
  unfold vX13_runMaker_157
  refine s_aload_n hZ.1 dX13_runMaker_157 rfl ?_
  refine yg13_45 dX13_runMaker_158 zw4166 ?_
  refine s_iload hZ.1 dX13_runMaker_161 ?_
  refine s_zald (tt := 3) rfl dX13_runMaker_163 ?_
  exact s_if_ne dX13_runMaker_164 (by decide) (wX13_runMaker_217 hZ hg hd j hj) (wX13_runMaker_167 hZ hg hd j hj)
noncomputable def vX13_runMaker_137 (g : Nat → List Nat → rx_H → Option (Nat × rx_H)) (j : Nat → rx_K) : rx_K := o_ld rx_isI 4 (o_const 272 (o_bi (fun x y => x * y) (o_ld rx_isI 6 (o_bi (fun x y => x + y) (o_st rx_isI 7 (o_ld rx_isR 0 (o_getf 13 42 (o_ld rx_isI 7 (o_ald 0 (o_c1 rx_eq (vX13_runMaker_157 g j) (vX13_runMaker_217 g j)))))))))))
set_option maxRecDepth 20000 in
theorem wX13_runMaker_137 {dn : Nat} {g : Nat → List Nat → rx_H → Option (Nat × rx_H)} (hZ : zO b e D A X) (hg : ∀ i y M, vl19[i]? = some (y, M) → rx_Met (zV b e D A X) dn y M (g i)) (hd : 333 ≤ dn) (j : Nat → rx_K) (hj : ∀ k pc, [118, 223][k]? = some pc → rx_OK (zV b e D A X) mX13_runMaker (dn + 1) pc (j k)) : rx_OK (zV b e D A X) mX13_runMaker (dn + 1) 137 (vX13_runMaker_137 g j) := by
  unfold vX13_runMaker_137
  refine s_iload hZ.1 dX13_runMaker_137 ?_
  refine s_bipush dX13_runMaker_139 (by decide +kernel) ?_
  refine s_imul dX13_runMaker_141 ?_
  refine s_iload hZ.1 dX13_runMaker_142 ?_
  refine s_iadd dX13_runMaker_144 ?_
  refine s_istore hZ.1 dX13_runMaker_145 (Nat.le_of_ble_eq_true rfl) ?_
  refine s_aload_n hZ.1 dX13_runMaker_147 rfl ?_
  refine yg13_42 dX13_runMaker_148 zw4163 ?_
  refine s_iload hZ.1 dX13_runMaker_151 ?_
  refine s_iald (tt := 0) rfl dX13_runMaker_153 ?_
  exact s_if_ne dX13_runMaker_154 (by decide) (wX13_runMaker_217 hZ hg hd j hj) (wX13_runMaker_157 hZ hg hd j hj)
noncomputable def vX13_runMaker_130 (g : Nat → List Nat → rx_H → Option (Nat × rx_H)) (j : Nat → rx_K) : rx_K := o_ld rx_isR 0 (o_getf 13 164 (o_c1 rx_eq (vX13_runMaker_137 g j) (vX13_runMaker_223 g j)))
set_option maxRecDepth 20000 in
theorem wX13_runMaker_130 {dn : Nat} {g : Nat → List Nat → rx_H → Option (Nat × rx_H)} (hZ : zO b e D A X) (hg : ∀ i y M, vl19[i]? = some (y, M) → rx_Met (zV b e D A X) dn y M (g i)) (hd : 333 ≤ dn) (j : Nat → rx_K) (hj : ∀ k pc, [118, 223][k]? = some pc → rx_OK (zV b e D A X) mX13_runMaker (dn + 1) pc (j k)) : rx_OK (zV b e D A X) mX13_runMaker (dn + 1) 130 (vX13_runMaker_130 g j) := by
  unfold vX13_runMaker_130
  refine s_aload_n hZ.1 dX13_runMaker_130 rfl ?_
  refine yg13_164 dX13_runMaker_131 zw4284 ?_
  exact s_if_ne dX13_runMaker_134 (by decide) (wX13_runMaker_223 hZ hg hd j hj) (wX13_runMaker_137 hZ hg hd j hj)
noncomputable def vX13_runMaker_118 (g : Nat → List Nat → rx_H → Option (Nat × rx_H)) (j : Nat → rx_K) : rx_K := o_ld rx_isI 6 (o_ld rx_isR 0 (o_getf 13 41 (o_ld rx_isI 4 (o_ald 0 (o_c2 rx_lt (vX13_runMaker_130 g j) (vX13_runMaker_223 g j))))))
set_option maxRecDepth 20000 in
theorem wX13_runMaker_118 {dn : Nat} {g : Nat → List Nat → rx_H → Option (Nat × rx_H)} (hZ : zO b e D A X) (hg : ∀ i y M, vl19[i]? = some (y, M) → rx_Met (zV b e D A X) dn y M (g i)) (hd : 333 ≤ dn) (j : Nat → rx_K) (hj : ∀ k pc, [118, 223][k]? = some pc → rx_OK (zV b e D A X) mX13_runMaker (dn + 1) pc (j k)) : rx_OK (zV b e D A X) mX13_runMaker (dn + 1) 118 (vX13_runMaker_118 g j) := by
  unfold vX13_runMaker_118
  refine s_iload hZ.1 dX13_runMaker_118 ?_
  refine s_aload_n hZ.1 dX13_runMaker_120 rfl ?_
  refine yg13_41 dX13_runMaker_121 zw4162 ?_
  refine s_iload hZ.1 dX13_runMaker_124 ?_
  refine s_iald (tt := 0) rfl dX13_runMaker_126 ?_
  exact s_icmp_ge dX13_runMaker_127 (by decide) (wX13_runMaker_223 hZ hg hd j hj) (wX13_runMaker_130 hZ hg hd j hj)
noncomputable def vX13_runMaker_115 (g : Nat → List Nat → rx_H → Option (Nat × rx_H)) (j : Nat → rx_K) : rx_K := o_const 0 (o_st rx_isI 6 ((vX13_runMaker_118 g j)))
set_option maxRecDepth 20000 in
theorem wX13_runMaker_115 {dn : Nat} {g : Nat → List Nat → rx_H → Option (Nat × rx_H)} (hZ : zO b e D A X) (hg : ∀ i y M, vl19[i]? = some (y, M) → rx_Met (zV b e D A X) dn y M (g i)) (hd : 333 ≤ dn) (j : Nat → rx_K) (hj : ∀ k pc, [118, 223][k]? = some pc → rx_OK (zV b e D A X) mX13_runMaker (dn + 1) pc (j k)) : rx_OK (zV b e D A X) mX13_runMaker (dn + 1) 115 (vX13_runMaker_115 g j) := by
  unfold vX13_runMaker_115
  refine s_iconst dX13_runMaker_115 (by decide +kernel) ?_
  refine s_istore hZ.1 dX13_runMaker_116 (Nat.le_of_ble_eq_true rfl) ?_
  exact (wX13_runMaker_118 hZ hg hd j hj)
noncomputable def vX13_runMaker_101 (g : Nat → List Nat → rx_H → Option (Nat × rx_H)) (j : Nat → rx_K) : rx_K := o_ld rx_isR 0 (o_ld rx_isR 0 (o_getf 13 140 (o_ld rx_isI 2 (o_ld rx_isR 0 (o_getf 13 155 (o_callV 3 13 (g 12) (o_pop ((vX13_runMaker_115 g j)))))))))
set_option maxRecDepth 20000 in
theorem wX13_runMaker_101 {dn : Nat} {g : Nat → List Nat → rx_H → Option (Nat × rx_H)} (hZ : zO b e D A X) (hg : ∀ i y M, vl19[i]? = some (y, M) → rx_Met (zV b e D A X) dn y M (g i)) (hd : 333 ≤ dn) (j : Nat → rx_K) (hj : ∀ k pc, [118, 223][k]? = some pc → rx_OK (zV b e D A X) mX13_runMaker (dn + 1) pc (j k)) : rx_OK (zV b e D A X) mX13_runMaker (dn + 1) 101 (vX13_runMaker_101 g j) := by
  unfold vX13_runMaker_101
  refine s_aload_n hZ.1 dX13_runMaker_101 rfl ?_
  refine s_aload_n hZ.1 dX13_runMaker_102 rfl ?_
  refine yg13_140 dX13_runMaker_103 zw4260 ?_
  refine s_iload_n hZ.1 dX13_runMaker_106 rfl ?_
  refine s_aload_n hZ.1 dX13_runMaker_107 rfl ?_
  refine yg13_155 dX13_runMaker_108 zw4275 ?_
  refine s_callV hZ.1 (hg 12 _ _ rfl) (Nat.le_refl _) vy_X13_invoke zcl13 zw3904 zw373 (Or.inl zw3902) dX13_runMaker_111 ?_
  refine s_pop hZ.1 dX13_runMaker_114 ?_
  exact (wX13_runMaker_115 hZ hg hd j hj)
noncomputable def vX13_runMaker_88 (g : Nat → List Nat → rx_H → Option (Nat × rx_H)) (j : Nat → rx_K) : rx_K := o_ld rx_isR 0 (o_ld rx_isR 0 (o_getf 13 67 (o_ld rx_isI 1 (o_ald 0 (o_callV 1 13 FX13_asks (o_c1 rx_eq (vX13_runMaker_115 g j) (vX13_runMaker_101 g j)))))))
set_option maxRecDepth 20000 in
theorem wX13_runMaker_88 {dn : Nat} {g : Nat → List Nat → rx_H → Option (Nat × rx_H)} (hZ : zO b e D A X) (hg : ∀ i y M, vl19[i]? = some (y, M) → rx_Met (zV b e D A X) dn y M (g i)) (hd : 333 ≤ dn) (j : Nat → rx_K) (hj : ∀ k pc, [118, 223][k]? = some pc → rx_OK (zV b e D A X) mX13_runMaker (dn + 1) pc (j k)) : rx_OK (zV b e D A X) mX13_runMaker (dn + 1) 88 (vX13_runMaker_88 g j) := by
  unfold vX13_runMaker_88
  refine s_aload_n hZ.1 dX13_runMaker_88 rfl ?_
  refine s_aload_n hZ.1 dX13_runMaker_89 rfl ?_
  refine yg13_67 dX13_runMaker_90 zw4188 ?_
  refine s_iload_n hZ.1 dX13_runMaker_93 rfl ?_
  refine s_iald (tt := 0) rfl dX13_runMaker_94 ?_
  refine s_callV hZ.1 (Met_X13_asks hZ) (Nat.succ_le_succ (Nat.le_trans (Nat.le_of_ble_eq_true rfl) hd)) vy_X13_asks zcl13 zw3868 zw364 (Or.inl zw3866) dX13_runMaker_95 ?_
  exact s_if_eq dX13_runMaker_98 (by decide) (wX13_runMaker_115 hZ hg hd j hj) (wX13_runMaker_101 hZ hg hd j hj)
noncomputable def vX13_runMaker_77 (g : Nat → List Nat → rx_H → Option (Nat × rx_H)) (j : Nat → rx_K) : rx_K := o_ld rx_isR 0 (o_getf 13 67 (o_ld rx_isI 1 (o_ald 0 (o_const 34359738352 (o_c2 rx_eq (vX13_runMaker_115 g j) (vX13_runMaker_88 g j))))))
set_option maxRecDepth 20000 in
theorem wX13_runMaker_77 {dn : Nat} {g : Nat → List Nat → rx_H → Option (Nat × rx_H)} (hZ : zO b e D A X) (hg : ∀ i y M, vl19[i]? = some (y, M) → rx_Met (zV b e D A X) dn y M (g i)) (hd : 333 ≤ dn) (j : Nat → rx_K) (hj : ∀ k pc, [118, 223][k]? = some pc → rx_OK (zV b e D A X) mX13_runMaker (dn + 1) pc (j k)) : rx_OK (zV b e D A X) mX13_runMaker (dn + 1) 77 (vX13_runMaker_77 g j) := by
  unfold vX13_runMaker_77
  refine s_aload_n hZ.1 dX13_runMaker_77 rfl ?_
  refine yg13_67 dX13_runMaker_78 zw4188 ?_
  refine s_iload_n hZ.1 dX13_runMaker_81 rfl ?_
  refine s_iald (tt := 0) rfl dX13_runMaker_82 ?_
  refine s_bipush dX13_runMaker_83 (by decide +kernel) ?_
  exact s_icmp_eq dX13_runMaker_85 (by decide) (wX13_runMaker_115 hZ hg hd j hj) (wX13_runMaker_88 hZ hg hd j hj)
noncomputable def vX13_runMaker_55 (g : Nat → List Nat → rx_H → Option (Nat × rx_H)) (j : Nat → rx_K) : rx_K := o_ld rx_isR 0 (o_ld rx_isI 5 (o_ld rx_isI 4 (o_ld rx_isI 2 (o_ld rx_isI 3 (o_callV 4 13 (g 8) (o_ld rx_isR 0 (o_getf 13 80 (o_ld rx_isI 5 (o_ald 0 (o_st rx_isI 5 ((vX13_runMaker_115 g j))))))))))))
set_option maxRecDepth 20000 in
theorem wX13_runMaker_55 {dn : Nat} {g : Nat → List Nat → rx_H → Option (Nat × rx_H)} (hZ : zO b e D A X) (hg : ∀ i y M, vl19[i]? = some (y, M) → rx_Met (zV b e D A X) dn y M (g i)) (hd : 333 ≤ dn) (j : Nat → rx_K) (hj : ∀ k pc, [118, 223][k]? = some pc → rx_OK (zV b e D A X) mX13_runMaker (dn + 1) pc (j k)) : rx_OK (zV b e D A X) mX13_runMaker (dn + 1) 55 (vX13_runMaker_55 g j) := by
  unfold vX13_runMaker_55
  refine s_aload_n hZ.1 dX13_runMaker_55 rfl ?_
  refine s_iload hZ.1 dX13_runMaker_56 ?_
  refine s_iload hZ.1 dX13_runMaker_58 ?_
  refine s_iload_n hZ.1 dX13_runMaker_60 rfl ?_
  refine s_iload_n hZ.1 dX13_runMaker_61 rfl ?_
  refine s_callV hZ.1 (hg 8 _ _ rfl) (Nat.le_refl _) vy_X13_exec zcl13 zw3924 zw378 (Or.inl zw3922) dX13_runMaker_62 ?_
  refine s_aload_n hZ.1 dX13_runMaker_65 rfl ?_
  refine yg13_80 dX13_runMaker_66 zw4201 ?_
  refine s_iload hZ.1 dX13_runMaker_69 ?_
  refine s_iald (tt := 0) rfl dX13_runMaker_71 ?_
  refine s_istore hZ.1 dX13_runMaker_72 (Nat.le_of_ble_eq_true rfl) ?_
  exact s_goto dX13_runMaker_74 (by decide) (wX13_runMaker_115 hZ hg hd j hj)
noncomputable def vX13_runMaker_43 (g : Nat → List Nat → rx_H → Option (Nat × rx_H)) (j : Nat → rx_K) : rx_K := o_ld rx_isR 0 (o_getf 13 70 (o_ld rx_isI 5 (o_ald 0 (o_const 224 (o_c2 rx_eq (vX13_runMaker_55 g j) (vX13_runMaker_77 g j))))))
set_option maxRecDepth 20000 in
theorem wX13_runMaker_43 {dn : Nat} {g : Nat → List Nat → rx_H → Option (Nat × rx_H)} (hZ : zO b e D A X) (hg : ∀ i y M, vl19[i]? = some (y, M) → rx_Met (zV b e D A X) dn y M (g i)) (hd : 333 ≤ dn) (j : Nat → rx_K) (hj : ∀ k pc, [118, 223][k]? = some pc → rx_OK (zV b e D A X) mX13_runMaker (dn + 1) pc (j k)) : rx_OK (zV b e D A X) mX13_runMaker (dn + 1) 43 (vX13_runMaker_43 g j) := by
  unfold vX13_runMaker_43
  refine s_aload_n hZ.1 dX13_runMaker_43 rfl ?_
  refine yg13_70 dX13_runMaker_44 zw4191 ?_
  refine s_iload hZ.1 dX13_runMaker_47 ?_
  refine s_iald (tt := 0) rfl dX13_runMaker_49 ?_
  refine s_bipush dX13_runMaker_50 (by decide +kernel) ?_
  exact s_icmp_ne dX13_runMaker_52 (by decide) (wX13_runMaker_77 hZ hg hd j hj) (wX13_runMaker_55 hZ hg hd j hj)
noncomputable def vX13_runMaker_34 (g : Nat → List Nat → rx_H → Option (Nat × rx_H)) (j : Nat → rx_K) : rx_K := o_st rx_isI 5 (o_ld rx_isI 5 (o_const 34359738352 (o_c2 rx_eq (vX13_runMaker_77 g j) (vX13_runMaker_43 g j))))
set_option maxRecDepth 20000 in
theorem wX13_runMaker_34 {dn : Nat} {g : Nat → List Nat → rx_H → Option (Nat × rx_H)} (hZ : zO b e D A X) (hg : ∀ i y M, vl19[i]? = some (y, M) → rx_Met (zV b e D A X) dn y M (g i)) (hd : 333 ≤ dn) (j : Nat → rx_K) (hj : ∀ k pc, [118, 223][k]? = some pc → rx_OK (zV b e D A X) mX13_runMaker (dn + 1) pc (j k)) : rx_OK (zV b e D A X) mX13_runMaker (dn + 1) 34 (vX13_runMaker_34 g j) := by
  unfold vX13_runMaker_34
  refine s_istore hZ.1 dX13_runMaker_34 (Nat.le_of_ble_eq_true rfl) ?_
  refine s_iload hZ.1 dX13_runMaker_36 ?_
  refine s_bipush dX13_runMaker_38 (by decide +kernel) ?_
  exact s_icmp_eq dX13_runMaker_40 (by decide) (wX13_runMaker_77 hZ hg hd j hj) (wX13_runMaker_43 hZ hg hd j hj)
noncomputable def vX13_runMaker_23 (g : Nat → List Nat → rx_H → Option (Nat × rx_H)) (j : Nat → rx_K) : rx_K := o_ld rx_isR 0 (o_getf 13 77 (o_ld rx_isR 0 (o_getf 13 61 (o_ld rx_isI 1 (o_ald 0 (o_ald 0 ((vX13_runMaker_34 g j))))))))
set_option maxRecDepth 20000 in
theorem wX13_runMaker_23 {dn : Nat} {g : Nat → List Nat → rx_H → Option (Nat × rx_H)} (hZ : zO b e D A X) (hg : ∀ i y M, vl19[i]? = some (y, M) → rx_Met (zV b e D A X) dn y M (g i)) (hd : 333 ≤ dn) (j : Nat → rx_K) (hj : ∀ k pc, [118, 223][k]? = some pc → rx_OK (zV b e D A X) mX13_runMaker (dn + 1) pc (j k)) : rx_OK (zV b e D A X) mX13_runMaker (dn + 1) 23 (vX13_runMaker_23 g j) := by
  unfold vX13_runMaker_23
  refine s_aload_n hZ.1 dX13_runMaker_23 rfl ?_
  refine yg13_77 dX13_runMaker_24 zw4198 ?_
  refine s_aload_n hZ.1 dX13_runMaker_27 rfl ?_
  refine yg13_61 dX13_runMaker_28 zw4182 ?_
  refine s_iload_n hZ.1 dX13_runMaker_31 rfl ?_
  refine s_iald (tt := 0) rfl dX13_runMaker_32 ?_
  refine s_iald (tt := 0) rfl dX13_runMaker_33 ?_
  exact (wX13_runMaker_34 hZ hg hd j hj)
noncomputable def vX13_runMaker_18 (g : Nat → List Nat → rx_H → Option (Nat × rx_H)) (j : Nat → rx_K) : rx_K := o_const 34359738352 ((vX13_runMaker_34 g j))
set_option maxRecDepth 20000 in
theorem wX13_runMaker_18 {dn : Nat} {g : Nat → List Nat → rx_H → Option (Nat × rx_H)} (hZ : zO b e D A X) (hg : ∀ i y M, vl19[i]? = some (y, M) → rx_Met (zV b e D A X) dn y M (g i)) (hd : 333 ≤ dn) (j : Nat → rx_K) (hj : ∀ k pc, [118, 223][k]? = some pc → rx_OK (zV b e D A X) mX13_runMaker (dn + 1) pc (j k)) : rx_OK (zV b e D A X) mX13_runMaker (dn + 1) 18 (vX13_runMaker_18 g j) := by
  unfold vX13_runMaker_18
  refine s_bipush dX13_runMaker_18 (by decide +kernel) ?_
  exact s_goto dX13_runMaker_20 (by decide) (wX13_runMaker_34 hZ hg hd j hj)
noncomputable def vX13_runMaker_0 (g : Nat → List Nat → rx_H → Option (Nat × rx_H)) (j : Nat → rx_K) : rx_K := o_ld rx_isR 0 (o_ld rx_isI 1 (o_callV 1 13 FX13_classOfMember (o_st rx_isI 4 (o_ld rx_isR 0 (o_getf 13 61 (o_ld rx_isI 1 (o_ald 0 (o_const 34359738352 (o_c2 rx_eq (vX13_runMaker_18 g j) (vX13_runMaker_23 g j))))))))))
set_option maxRecDepth 20000 in
theorem wX13_runMaker_0 {dn : Nat} {g : Nat → List Nat → rx_H → Option (Nat × rx_H)} (hZ : zO b e D A X) (hg : ∀ i y M, vl19[i]? = some (y, M) → rx_Met (zV b e D A X) dn y M (g i)) (hd : 333 ≤ dn) (j : Nat → rx_K) (hj : ∀ k pc, [118, 223][k]? = some pc → rx_OK (zV b e D A X) mX13_runMaker (dn + 1) pc (j k)) : rx_OK (zV b e D A X) mX13_runMaker (dn + 1) 0 (vX13_runMaker_0 g j) := by
  unfold vX13_runMaker_0
  refine s_aload_n hZ.1 dX13_runMaker_0 rfl ?_
  refine s_iload_n hZ.1 dX13_runMaker_1 rfl ?_
  refine s_callV hZ.1 (Met_X13_classOfMember hZ) (Nat.succ_le_succ (Nat.le_trans (Nat.le_of_ble_eq_true rfl) hd)) vy_X13_classOfMember zcl13 zw3255 zw241 (Or.inl zw3253) dX13_runMaker_2 ?_
  refine s_istore hZ.1 dX13_runMaker_5 (Nat.le_of_ble_eq_true rfl) ?_
  refine s_aload_n hZ.1 dX13_runMaker_7 rfl ?_
  refine yg13_61 dX13_runMaker_8 zw4182 ?_
  refine s_iload_n hZ.1 dX13_runMaker_11 rfl ?_
  refine s_iald (tt := 0) rfl dX13_runMaker_12 ?_
  refine s_bipush dX13_runMaker_13 (by decide +kernel) ?_
  exact s_icmp_ne dX13_runMaker_15 (by decide) (wX13_runMaker_23 hZ hg hd j hj) (wX13_runMaker_18 hZ hg hd j hj)
noncomputable def vhX13_runMaker (g : Nat → List Nat → rx_H → Option (Nat × rx_H)) (j : Nat → rx_K) : List rx_K := [vX13_runMaker_118 g j, vX13_runMaker_223 g j]
theorem vlX13_runMaker {dn : Nat} {g : Nat → List Nat → rx_H → Option (Nat × rx_H)} (hZ : zO b e D A X) (hg : ∀ i y M, vl19[i]? = some (y, M) → rx_Met (zV b e D A X) dn y M (g i)) (hd : 333 ≤ dn) : ∀ n k pc, [118, 223][k]? = some pc → rx_OK (zV b e D A X) mX13_runMaker (dn + 1) pc (rx_J (vhX13_runMaker g) n k) := rx_loop fun j hj k pc h => by
  match k, h with
  | 0, h =>
    have e9 := Option.some.inj (show some 118 = some pc from h)
    subst e9
    exact wX13_runMaker_118 hZ hg hd j hj
  | 1, h =>
    have e9 := Option.some.inj (show some 223 = some pc from h)
    subst e9
    exact wX13_runMaker_223 hZ hg hd j hj
  | _ + 2, h => exact absurd h (by simp)
noncomputable def FX13_runMaker (g : Nat → List Nat → rx_H → Option (Nat × rx_H)) : List Nat → rx_H → Option (Nat × rx_H) := rx_ent 9 (vX13_runMaker_0 g (rx_J (vhX13_runMaker g) 4000000000))
theorem Met_X13_runMaker {dn : Nat} {g : Nat → List Nat → rx_H → Option (Nat × rx_H)} (hZ : zO b e D A X) (hg : ∀ i y M, vl19[i]? = some (y, M) → rx_Met (zV b e D A X) dn y M (g i)) (hd : 333 ≤ dn) : rx_Met (zV b e D A X) (dn + 1) yX13_runMaker mX13_runMaker (FX13_runMaker g) := rx_entry hZ.1 (wX13_runMaker_0 hZ hg hd _ (vlX13_runMaker hZ hg hd 4000000000)) (by decide +kernel) rfl (fun h => by cases h)
noncomputable def vX13_start_179 (g : Nat → List Nat → rx_H → Option (Nat × rx_H)) : rx_K := o_callV 3 13 FX13_becomes (o_ret0)
set_option maxRecDepth 20000 in
theorem wX13_start_179 {dn : Nat} {g : Nat → List Nat → rx_H → Option (Nat × rx_H)} (hZ : zO b e D A X) (hg : ∀ i y M, vl19[i]? = some (y, M) → rx_Met (zV b e D A X) dn y M (g i)) (hd : 333 ≤ dn) : rx_OK (zV b e D A X) mX13_start (dn + 1) 179 (vX13_start_179 g) := by
  unfold vX13_start_179
  refine s_callV hZ.1 (Met_X13_becomes hZ) (Nat.succ_le_succ (Nat.le_trans (Nat.le_of_ble_eq_true rfl) hd)) vy_X13_becomes zcl13 zw3375 zw269 (Or.inl zw3373) dX13_start_179 ?_
  exact s_vret rfl dX13_start_182
noncomputable def vX13_start_177 (g : Nat → List Nat → rx_H → Option (Nat × rx_H)) : rx_K := o_const 72 ((vX13_start_179 g))
set_option maxRecDepth 20000 in
theorem wX13_start_177 {dn : Nat} {g : Nat → List Nat → rx_H → Option (Nat × rx_H)} (hZ : zO b e D A X) (hg : ∀ i y M, vl19[i]? = some (y, M) → rx_Met (zV b e D A X) dn y M (g i)) (hd : 333 ≤ dn) : rx_OK (zV b e D A X) mX13_start (dn + 1) 177 (vX13_start_177 g) := by
  unfold vX13_start_177
  refine s_bipush dX13_start_177 (by decide +kernel) ?_
  exact (wX13_start_179 hZ hg hd)
noncomputable def vX13_start_173 (g : Nat → List Nat → rx_H → Option (Nat × rx_H)) : rx_K := o_const 0 ((vX13_start_179 g))
set_option maxRecDepth 20000 in
theorem wX13_start_173 {dn : Nat} {g : Nat → List Nat → rx_H → Option (Nat × rx_H)} (hZ : zO b e D A X) (hg : ∀ i y M, vl19[i]? = some (y, M) → rx_Met (zV b e D A X) dn y M (g i)) (hd : 333 ≤ dn) : rx_OK (zV b e D A X) mX13_start (dn + 1) 173 (vX13_start_173 g) := by
  unfold vX13_start_173
  refine s_iconst dX13_start_173 (by decide +kernel) ?_
  exact s_goto dX13_start_174 (by decide) (wX13_start_179 hZ hg hd)
noncomputable def vX13_start_166 (g : Nat → List Nat → rx_H → Option (Nat × rx_H)) : rx_K := o_ld rx_isR 0 (o_getf 13 164 (o_c1 rx_eq (vX13_start_173 g) (vX13_start_177 g)))
set_option maxRecDepth 20000 in
theorem wX13_start_166 {dn : Nat} {g : Nat → List Nat → rx_H → Option (Nat × rx_H)} (hZ : zO b e D A X) (hg : ∀ i y M, vl19[i]? = some (y, M) → rx_Met (zV b e D A X) dn y M (g i)) (hd : 333 ≤ dn) : rx_OK (zV b e D A X) mX13_start (dn + 1) 166 (vX13_start_166 g) := by
  unfold vX13_start_166
  refine s_aload_n hZ.1 dX13_start_166 rfl ?_
  refine yg13_164 dX13_start_167 zw4284 ?_
  exact s_if_ne dX13_start_170 (by decide) (wX13_start_177 hZ hg hd) (wX13_start_173 hZ hg hd)
noncomputable def vX13_start_164 (g : Nat → List Nat → rx_H → Option (Nat × rx_H)) : rx_K := o_const 56 ((vX13_start_166 g))
set_option maxRecDepth 20000 in
theorem wX13_start_164 {dn : Nat} {g : Nat → List Nat → rx_H → Option (Nat × rx_H)} (hZ : zO b e D A X) (hg : ∀ i y M, vl19[i]? = some (y, M) → rx_Met (zV b e D A X) dn y M (g i)) (hd : 333 ≤ dn) : rx_OK (zV b e D A X) mX13_start (dn + 1) 164 (vX13_start_164 g) := by
  unfold vX13_start_164
  refine s_bipush dX13_start_164 (by decide +kernel) ?_
  exact (wX13_start_166 hZ hg hd)
noncomputable def vX13_start_160 (g : Nat → List Nat → rx_H → Option (Nat × rx_H)) : rx_K := o_const 32 ((vX13_start_166 g))
set_option maxRecDepth 20000 in
theorem wX13_start_160 {dn : Nat} {g : Nat → List Nat → rx_H → Option (Nat × rx_H)} (hZ : zO b e D A X) (hg : ∀ i y M, vl19[i]? = some (y, M) → rx_Met (zV b e D A X) dn y M (g i)) (hd : 333 ≤ dn) : rx_OK (zV b e D A X) mX13_start (dn + 1) 160 (vX13_start_160 g) := by
  unfold vX13_start_160
  refine s_iconst dX13_start_160 (by decide +kernel) ?_
  exact s_goto dX13_start_161 (by decide) (wX13_start_166 hZ hg hd)
noncomputable def vX13_start_151 (g : Nat → List Nat → rx_H → Option (Nat × rx_H)) : rx_K := o_ld rx_isR 0 (o_ld rx_isI 1 (o_ld rx_isR 0 (o_getf 13 164 (o_c1 rx_eq (vX13_start_160 g) (vX13_start_164 g)))))
set_option maxRecDepth 20000 in
theorem wX13_start_151 {dn : Nat} {g : Nat → List Nat → rx_H → Option (Nat × rx_H)} (hZ : zO b e D A X) (hg : ∀ i y M, vl19[i]? = some (y, M) → rx_Met (zV b e D A X) dn y M (g i)) (hd : 333 ≤ dn) : rx_OK (zV b e D A X) mX13_start (dn + 1) 151 (vX13_start_151 g) := by
  unfold vX13_start_151
  refine s_aload_n hZ.1 dX13_start_151 rfl ?_
  refine s_iload_n hZ.1 dX13_start_152 rfl ?_
  refine s_aload_n hZ.1 dX13_start_153 rfl ?_
  refine yg13_164 dX13_start_154 zw4284 ?_
  exact s_if_ne dX13_start_157 (by decide) (wX13_start_164 hZ hg hd) (wX13_start_160 hZ hg hd)
noncomputable def vX13_start_144 (g : Nat → List Nat → rx_H → Option (Nat × rx_H)) : rx_K := o_ld rx_isR 0 (o_const 64 (o_callV 1 13 FX13_fail (o_pop ((vX13_start_151 g)))))
set_option maxRecDepth 20000 in
theorem wX13_start_144 {dn : Nat} {g : Nat → List Nat → rx_H → Option (Nat × rx_H)} (hZ : zO b e D A X) (hg : ∀ i y M, vl19[i]? = some (y, M) → rx_Met (zV b e D A X) dn y M (g i)) (hd : 333 ≤ dn) : rx_OK (zV b e D A X) mX13_start (dn + 1) 144 (vX13_start_144 g) := by
  unfold vX13_start_144
  refine s_aload_n hZ.1 dX13_start_144 rfl ?_
  refine s_bipush dX13_start_145 (by decide +kernel) ?_
  refine s_callV hZ.1 (Met_X13_fail hZ) (Nat.succ_le_succ (Nat.le_trans (Nat.le_of_ble_eq_true rfl) hd)) vy_X13_fail zcl13 zw3820 zw352 (Or.inl zw3818) dX13_start_147 ?_
  refine s_pop hZ.1 dX13_start_150 ?_
  exact (wX13_start_151 hZ hg hd)
noncomputable def vX13_start_126 (g : Nat → List Nat → rx_H → Option (Nat × rx_H)) : rx_K := o_ld rx_isR 0 (o_dup (o_getf 13 162 (o_const 8 (o_bi (fun x y => x - y) (o_putf rx_isI 13 162 (o_ld rx_isR 0 (o_getf 13 164 (o_const 16 (o_c2 rx_eq (vX13_start_144 g) (vX13_start_151 g))))))))))
set_option maxRecDepth 20000 in
theorem wX13_start_126 {dn : Nat} {g : Nat → List Nat → rx_H → Option (Nat × rx_H)} (hZ : zO b e D A X) (hg : ∀ i y M, vl19[i]? = some (y, M) → rx_Met (zV b e D A X) dn y M (g i)) (hd : 333 ≤ dn) : rx_OK (zV b e D A X) mX13_start (dn + 1) 126 (vX13_start_126 g) := by
  unfold vX13_start_126
  refine s_aload_n hZ.1 dX13_start_126 rfl ?_
  refine s_dup hZ.1 dX13_start_127 ?_
  refine yg13_162 dX13_start_128 zw4282 ?_
  refine s_iconst dX13_start_131 (by decide +kernel) ?_
  refine s_isub dX13_start_132 ?_
  refine yp13_162 hZ.1 dX13_start_133 zw4282 ?_
  refine s_aload_n hZ.1 dX13_start_136 rfl ?_
  refine yg13_164 dX13_start_137 zw4284 ?_
  refine s_iconst dX13_start_140 (by decide +kernel) ?_
  exact s_icmp_ne dX13_start_141 (by decide) (wX13_start_151 hZ hg hd) (wX13_start_144 hZ hg hd)
noncomputable def vX13_start_121 (g : Nat → List Nat → rx_H → Option (Nat × rx_H)) : rx_K := o_ld rx_isR 0 (o_ld rx_isI 1 (o_callV 1 13 (g 16) ((vX13_start_126 g))))
set_option maxRecDepth 20000 in
theorem wX13_start_121 {dn : Nat} {g : Nat → List Nat → rx_H → Option (Nat × rx_H)} (hZ : zO b e D A X) (hg : ∀ i y M, vl19[i]? = some (y, M) → rx_Met (zV b e D A X) dn y M (g i)) (hd : 333 ≤ dn) : rx_OK (zV b e D A X) mX13_start (dn + 1) 121 (vX13_start_121 g) := by
  unfold vX13_start_121
  refine s_aload_n hZ.1 dX13_start_121 rfl ?_
  refine s_iload_n hZ.1 dX13_start_122 rfl ?_
  refine s_callV hZ.1 (hg 16 _ _ rfl) (Nat.le_refl _) vy_X13_startSelf zcl13 zw3848 zw359 (Or.inl zw3846) dX13_start_123 ?_
  exact (wX13_start_126 hZ hg hd)
noncomputable def vX13_start_114 (g : Nat → List Nat → rx_H → Option (Nat × rx_H)) : rx_K := o_ld rx_isR 0 (o_getf 13 164 (o_c1 rx_eq (vX13_start_121 g) (vX13_start_126 g)))
set_option maxRecDepth 20000 in
theorem wX13_start_114 {dn : Nat} {g : Nat → List Nat → rx_H → Option (Nat × rx_H)} (hZ : zO b e D A X) (hg : ∀ i y M, vl19[i]? = some (y, M) → rx_Met (zV b e D A X) dn y M (g i)) (hd : 333 ≤ dn) : rx_OK (zV b e D A X) mX13_start (dn + 1) 114 (vX13_start_114 g) := by
  unfold vX13_start_114
  refine s_aload_n hZ.1 dX13_start_114 rfl ?_
  refine yg13_164 dX13_start_115 zw4284 ?_
  exact s_if_ne dX13_start_118 (by decide) (wX13_start_126 hZ hg hd) (wX13_start_121 hZ hg hd)
noncomputable def vX13_start_109 (g : Nat → List Nat → rx_H → Option (Nat × rx_H)) : rx_K := o_ld rx_isR 0 (o_ld rx_isI 1 (o_callV 1 13 (g 15) ((vX13_start_114 g))))
set_option maxRecDepth 20000 in
theorem wX13_start_109 {dn : Nat} {g : Nat → List Nat → rx_H → Option (Nat × rx_H)} (hZ : zO b e D A X) (hg : ∀ i y M, vl19[i]? = some (y, M) → rx_Met (zV b e D A X) dn y M (g i)) (hd : 333 ≤ dn) : rx_OK (zV b e D A X) mX13_start (dn + 1) 109 (vX13_start_109 g) := by
  unfold vX13_start_109
  refine s_aload_n hZ.1 dX13_start_109 rfl ?_
  refine s_iload_n hZ.1 dX13_start_110 rfl ?_
  refine s_callV hZ.1 (hg 15 _ _ rfl) (Nat.le_refl _) vy_X13_startFaces zcl13 zw3836 zw356 (Or.inl zw3834) dX13_start_111 ?_
  exact (wX13_start_114 hZ hg hd)
noncomputable def vX13_start_101 (g : Nat → List Nat → rx_H → Option (Nat × rx_H)) : rx_K := o_ld rx_isR 0 (o_ld rx_isI 1 (o_callV 1 13 FX13_isFace (o_c1 rx_eq (vX13_start_109 g) (vX13_start_114 g))))
set_option maxRecDepth 20000 in
theorem wX13_start_101 {dn : Nat} {g : Nat → List Nat → rx_H → Option (Nat × rx_H)} (hZ : zO b e D A X) (hg : ∀ i y M, vl19[i]? = some (y, M) → rx_Met (zV b e D A X) dn y M (g i)) (hd : 333 ≤ dn) : rx_OK (zV b e D A X) mX13_start (dn + 1) 101 (vX13_start_101 g) := by
  unfold vX13_start_101
  refine s_aload_n hZ.1 dX13_start_101 rfl ?_
  refine s_iload_n hZ.1 dX13_start_102 rfl ?_
  refine s_callV hZ.1 (Met_X13_isFace hZ) (Nat.succ_le_succ (Nat.le_trans (Nat.le_of_ble_eq_true rfl) hd)) vy_X13_isFace zcl13 zw3192 zw227 (Or.inl zw3190) dX13_start_103 ?_
  exact s_if_ne dX13_start_106 (by decide) (wX13_start_114 hZ hg hd) (wX13_start_109 hZ hg hd)
noncomputable def vX13_start_92 (g : Nat → List Nat → rx_H → Option (Nat × rx_H)) : rx_K := o_ld rx_isR 0 (o_ld rx_isR 0 (o_ld rx_isI 1 (o_callV 1 13 FX13_parent (o_callV 1 13 (g 14) ((vX13_start_101 g))))))
set_option maxRecDepth 20000 in
theorem wX13_start_92 {dn : Nat} {g : Nat → List Nat → rx_H → Option (Nat × rx_H)} (hZ : zO b e D A X) (hg : ∀ i y M, vl19[i]? = some (y, M) → rx_Met (zV b e D A X) dn y M (g i)) (hd : 333 ≤ dn) : rx_OK (zV b e D A X) mX13_start (dn + 1) 92 (vX13_start_92 g) := by
  unfold vX13_start_92
  refine s_aload_n hZ.1 dX13_start_92 rfl ?_
  refine s_aload_n hZ.1 dX13_start_93 rfl ?_
  refine s_iload_n hZ.1 dX13_start_94 rfl ?_
  refine s_callV hZ.1 (Met_X13_parent hZ) (Nat.succ_le_succ (Nat.le_trans (Nat.le_of_ble_eq_true rfl) hd)) vy_X13_parent zcl13 zw3220 zw233 (Or.inl zw3218) dX13_start_95 ?_
  refine s_callV hZ.1 (hg 14 _ _ rfl) (Nat.le_refl _) vy_X13_start zcl13 zw3816 zw351 (Or.inl zw3814) dX13_start_98 ?_
  exact (wX13_start_101 hZ hg hd)
noncomputable def vX13_start_65 (g : Nat → List Nat → rx_H → Option (Nat × rx_H)) : rx_K := o_ld rx_isR 0 (o_ld rx_isI 1 (o_const 24 (o_const 0 (o_callV 3 13 FX13_becomes (o_ld rx_isR 0 (o_dup (o_getf 13 162 (o_const 8 (o_bi (fun x y => x + y) (o_putf rx_isI 13 162 (o_ld rx_isR 0 (o_ld rx_isI 1 (o_callV 1 13 FX13_parent (o_const 34359738352 (o_c2 rx_eq (vX13_start_101 g) (vX13_start_92 g))))))))))))))))
set_option maxRecDepth 20000 in
theorem wX13_start_65 {dn : Nat} {g : Nat → List Nat → rx_H → Option (Nat × rx_H)} (hZ : zO b e D A X) (hg : ∀ i y M, vl19[i]? = some (y, M) → rx_Met (zV b e D A X) dn y M (g i)) (hd : 333 ≤ dn) : rx_OK (zV b e D A X) mX13_start (dn + 1) 65 (vX13_start_65 g) := by
  unfold vX13_start_65
  refine s_aload_n hZ.1 dX13_start_65 rfl ?_
  refine s_iload_n hZ.1 dX13_start_66 rfl ?_
  refine s_iconst dX13_start_67 (by decide +kernel) ?_
  refine s_iconst dX13_start_68 (by decide +kernel) ?_
  refine s_callV hZ.1 (Met_X13_becomes hZ) (Nat.succ_le_succ (Nat.le_trans (Nat.le_of_ble_eq_true rfl) hd)) vy_X13_becomes zcl13 zw3375 zw269 (Or.inl zw3373) dX13_start_69 ?_
  refine s_aload_n hZ.1 dX13_start_72 rfl ?_
  refine s_dup hZ.1 dX13_start_73 ?_
  refine yg13_162 dX13_start_74 zw4282 ?_
  refine s_iconst dX13_start_77 (by decide +kernel) ?_
  refine s_iadd dX13_start_78 ?_
  refine yp13_162 hZ.1 dX13_start_79 zw4282 ?_
  refine s_aload_n hZ.1 dX13_start_82 rfl ?_
  refine s_iload_n hZ.1 dX13_start_83 rfl ?_
  refine s_callV hZ.1 (Met_X13_parent hZ) (Nat.succ_le_succ (Nat.le_trans (Nat.le_of_ble_eq_true rfl) hd)) vy_X13_parent zcl13 zw3220 zw233 (Or.inl zw3218) dX13_start_84 ?_
  refine s_bipush dX13_start_87 (by decide +kernel) ?_
  exact s_icmp_eq dX13_start_89 (by decide) (wX13_start_101 hZ hg hd) (wX13_start_92 hZ hg hd)
noncomputable def vX13_start_58 (g : Nat → List Nat → rx_H → Option (Nat × rx_H)) : rx_K := o_ld rx_isR 0 (o_ld rx_isI 3 (o_callV 1 13 FX13_fail (o_pop (o_ret0))))
set_option maxRecDepth 20000 in
theorem wX13_start_58 {dn : Nat} {g : Nat → List Nat → rx_H → Option (Nat × rx_H)} (hZ : zO b e D A X) (hg : ∀ i y M, vl19[i]? = some (y, M) → rx_Met (zV b e D A X) dn y M (g i)) (hd : 333 ≤ dn) : rx_OK (zV b e D A X) mX13_start (dn + 1) 58 (vX13_start_58 g) := by
  unfold vX13_start_58
  refine s_aload_n hZ.1 dX13_start_58 rfl ?_
  refine s_iload_n hZ.1 dX13_start_59 rfl ?_
  refine s_callV hZ.1 (Met_X13_fail hZ) (Nat.succ_le_succ (Nat.le_trans (Nat.le_of_ble_eq_true rfl) hd)) vy_X13_fail zcl13 zw3820 zw352 (Or.inl zw3818) dX13_start_60 ?_
  refine s_pop hZ.1 dX13_start_63 ?_
  exact s_vret rfl dX13_start_64
noncomputable def vX13_start_48 (g : Nat → List Nat → rx_H → Option (Nat × rx_H)) : rx_K := o_ld rx_isR 0 (o_ld rx_isI 1 (o_callV 1 13 (q18 160 0) (o_st rx_isI 3 (o_ld rx_isI 3 (o_c1 rx_eq (vX13_start_65 g) (vX13_start_58 g))))))
set_option maxRecDepth 20000 in
theorem wX13_start_48 {dn : Nat} {g : Nat → List Nat → rx_H → Option (Nat × rx_H)} (hZ : zO b e D A X) (hg : ∀ i y M, vl19[i]? = some (y, M) → rx_Met (zV b e D A X) dn y M (g i)) (hd : 333 ≤ dn) : rx_OK (zV b e D A X) mX13_start (dn + 1) 48 (vX13_start_48 g) := by
  unfold vX13_start_48
  refine s_aload_n hZ.1 dX13_start_48 rfl ?_
  refine s_iload_n hZ.1 dX13_start_49 rfl ?_
  refine s_callV hZ.1 (q18_ok hZ 160 0 _ _ rfl) (Nat.succ_le_succ (Nat.le_trans (Nat.le_of_ble_eq_true rfl) hd)) vy_X13_link zcl13 zw3824 zw353 (Or.inl zw3822) dX13_start_50 ?_
  refine s_istore_n hZ.1 dX13_start_53 rfl (Nat.le_of_ble_eq_true rfl) ?_
  refine s_iload_n hZ.1 dX13_start_54 rfl ?_
  exact s_if_eq dX13_start_55 (by decide) (wX13_start_65 hZ hg hd) (wX13_start_58 hZ hg hd)
noncomputable def vX13_start_40 (g : Nat → List Nat → rx_H → Option (Nat × rx_H)) : rx_K := o_ld rx_isR 0 (o_const 120 (o_callV 1 13 FX13_fail (o_pop (o_ret0))))
set_option maxRecDepth 20000 in
theorem wX13_start_40 {dn : Nat} {g : Nat → List Nat → rx_H → Option (Nat × rx_H)} (hZ : zO b e D A X) (hg : ∀ i y M, vl19[i]? = some (y, M) → rx_Met (zV b e D A X) dn y M (g i)) (hd : 333 ≤ dn) : rx_OK (zV b e D A X) mX13_start (dn + 1) 40 (vX13_start_40 g) := by
  unfold vX13_start_40
  refine s_aload_n hZ.1 dX13_start_40 rfl ?_
  refine s_bipush dX13_start_41 (by decide +kernel) ?_
  refine s_callV hZ.1 (Met_X13_fail hZ) (Nat.succ_le_succ (Nat.le_trans (Nat.le_of_ble_eq_true rfl) hd)) vy_X13_fail zcl13 zw3820 zw352 (Or.inl zw3818) dX13_start_43 ?_
  refine s_pop hZ.1 dX13_start_46 ?_
  exact s_vret rfl dX13_start_47
noncomputable def vX13_start_31 (g : Nat → List Nat → rx_H → Option (Nat × rx_H)) : rx_K := o_ld rx_isR 0 (o_getf 13 162 (o_const 192 (o_c2 rx_eq (vX13_start_40 g) (vX13_start_48 g))))
set_option maxRecDepth 20000 in
theorem wX13_start_31 {dn : Nat} {g : Nat → List Nat → rx_H → Option (Nat × rx_H)} (hZ : zO b e D A X) (hg : ∀ i y M, vl19[i]? = some (y, M) → rx_Met (zV b e D A X) dn y M (g i)) (hd : 333 ≤ dn) : rx_OK (zV b e D A X) mX13_start (dn + 1) 31 (vX13_start_31 g) := by
  unfold vX13_start_31
  refine s_aload_n hZ.1 dX13_start_31 rfl ?_
  refine yg13_162 dX13_start_32 zw4282 ?_
  refine s_bipush dX13_start_35 (by decide +kernel) ?_
  exact s_icmp_ne dX13_start_37 (by decide) (wX13_start_48 hZ hg hd) (wX13_start_40 hZ hg hd)
noncomputable def vX13_start_23 (g : Nat → List Nat → rx_H → Option (Nat × rx_H)) : rx_K := o_ld rx_isR 0 (o_const 72 (o_callV 1 13 FX13_fail (o_pop (o_ret0))))
set_option maxRecDepth 20000 in
theorem wX13_start_23 {dn : Nat} {g : Nat → List Nat → rx_H → Option (Nat × rx_H)} (hZ : zO b e D A X) (hg : ∀ i y M, vl19[i]? = some (y, M) → rx_Met (zV b e D A X) dn y M (g i)) (hd : 333 ≤ dn) : rx_OK (zV b e D A X) mX13_start (dn + 1) 23 (vX13_start_23 g) := by
  unfold vX13_start_23
  refine s_aload_n hZ.1 dX13_start_23 rfl ?_
  refine s_bipush dX13_start_24 (by decide +kernel) ?_
  refine s_callV hZ.1 (Met_X13_fail hZ) (Nat.succ_le_succ (Nat.le_trans (Nat.le_of_ble_eq_true rfl) hd)) vy_X13_fail zcl13 zw3820 zw352 (Or.inl zw3818) dX13_start_26 ?_
  refine s_pop hZ.1 dX13_start_29 ?_
  exact s_vret rfl dX13_start_30
noncomputable def vX13_start_17 (g : Nat → List Nat → rx_H → Option (Nat × rx_H)) : rx_K := o_ld rx_isI 2 (o_const 56 (o_c2 rx_eq (vX13_start_23 g) (vX13_start_31 g)))
set_option maxRecDepth 20000 in
theorem wX13_start_17 {dn : Nat} {g : Nat → List Nat → rx_H → Option (Nat × rx_H)} (hZ : zO b e D A X) (hg : ∀ i y M, vl19[i]? = some (y, M) → rx_Met (zV b e D A X) dn y M (g i)) (hd : 333 ≤ dn) : rx_OK (zV b e D A X) mX13_start (dn + 1) 17 (vX13_start_17 g) := by
  unfold vX13_start_17
  refine s_iload_n hZ.1 dX13_start_17 rfl ?_
  refine s_bipush dX13_start_18 (by decide +kernel) ?_
  exact s_icmp_ne dX13_start_20 (by decide) (wX13_start_31 hZ hg hd) (wX13_start_23 hZ hg hd)
noncomputable def vX13_start_16 (g : Nat → List Nat → rx_H → Option (Nat × rx_H)) : rx_K := o_ret0
set_option maxRecDepth 20000 in
theorem wX13_start_16 {dn : Nat} {g : Nat → List Nat → rx_H → Option (Nat × rx_H)} (hZ : zO b e D A X) (hg : ∀ i y M, vl19[i]? = some (y, M) → rx_Met (zV b e D A X) dn y M (g i)) (hd : 333 ≤ dn) : rx_OK (zV b e D A X) mX13_start (dn + 1) 16 (vX13_start_16 g) := by
  unfold vX13_start_16
  exact s_vret rfl dX13_start_16
noncomputable def vX13_start_11 (g : Nat → List Nat → rx_H → Option (Nat × rx_H)) : rx_K := o_ld rx_isI 2 (o_const 24 (o_c2 rx_eq (vX13_start_16 g) (vX13_start_17 g)))
set_option maxRecDepth 20000 in
theorem wX13_start_11 {dn : Nat} {g : Nat → List Nat → rx_H → Option (Nat × rx_H)} (hZ : zO b e D A X) (hg : ∀ i y M, vl19[i]? = some (y, M) → rx_Met (zV b e D A X) dn y M (g i)) (hd : 333 ≤ dn) : rx_OK (zV b e D A X) mX13_start (dn + 1) 11 (vX13_start_11 g) := by
  unfold vX13_start_11
  refine s_iload_n hZ.1 dX13_start_11 rfl ?_
  refine s_iconst dX13_start_12 (by decide +kernel) ?_
  exact s_icmp_ne dX13_start_13 (by decide) (wX13_start_17 hZ hg hd) (wX13_start_16 hZ hg hd)
noncomputable def vX13_start_0 (g : Nat → List Nat → rx_H → Option (Nat × rx_H)) : rx_K := o_ld rx_isR 0 (o_ld rx_isI 1 (o_callV 1 13 FX13_stateOf (o_st rx_isI 2 (o_ld rx_isI 2 (o_const 32 (o_c2 rx_eq (vX13_start_16 g) (vX13_start_11 g)))))))
set_option maxRecDepth 20000 in
theorem wX13_start_0 {dn : Nat} {g : Nat → List Nat → rx_H → Option (Nat × rx_H)} (hZ : zO b e D A X) (hg : ∀ i y M, vl19[i]? = some (y, M) → rx_Met (zV b e D A X) dn y M (g i)) (hd : 333 ≤ dn) : rx_OK (zV b e D A X) mX13_start (dn + 1) 0 (vX13_start_0 g) := by
  unfold vX13_start_0
  refine s_aload_n hZ.1 dX13_start_0 rfl ?_
  refine s_iload_n hZ.1 dX13_start_1 rfl ?_
  refine s_callV hZ.1 (Met_X13_stateOf hZ) (Nat.succ_le_succ (Nat.le_trans (Nat.le_of_ble_eq_true rfl) hd)) vy_X13_stateOf zcl13 zw3371 zw268 (Or.inl zw3369) dX13_start_2 ?_
  refine s_istore_n hZ.1 dX13_start_5 rfl (Nat.le_of_ble_eq_true rfl) ?_
  refine s_iload_n hZ.1 dX13_start_6 rfl ?_
  refine s_iconst dX13_start_7 (by decide +kernel) ?_
  exact s_icmp_eq dX13_start_8 (by decide) (wX13_start_16 hZ hg hd) (wX13_start_11 hZ hg hd)
noncomputable def FX13_start (g : Nat → List Nat → rx_H → Option (Nat × rx_H)) : List Nat → rx_H → Option (Nat × rx_H) := rx_ent 4 (vX13_start_0 g)
theorem Met_X13_start {dn : Nat} {g : Nat → List Nat → rx_H → Option (Nat × rx_H)} (hZ : zO b e D A X) (hg : ∀ i y M, vl19[i]? = some (y, M) → rx_Met (zV b e D A X) dn y M (g i)) (hd : 333 ≤ dn) : rx_Met (zV b e D A X) (dn + 1) yX13_start mX13_start (FX13_start g) := rx_entry hZ.1 (wX13_start_0 hZ hg hd) (by decide +kernel) rfl (fun h => by cases h)
noncomputable def vX13_startFaces_146 (g : Nat → List Nat → rx_H → Option (Nat × rx_H)) (j : Nat → rx_K) : rx_K := o_ret0
set_option maxRecDepth 20000 in
theorem wX13_startFaces_146 {dn : Nat} {g : Nat → List Nat → rx_H → Option (Nat × rx_H)} (hZ : zO b e D A X) (hg : ∀ i y M, vl19[i]? = some (y, M) → rx_Met (zV b e D A X) dn y M (g i)) (hd : 333 ≤ dn) (j : Nat → rx_K) (hj : ∀ k pc, [25][k]? = some pc → rx_OK (zV b e D A X) mX13_startFaces (dn + 1) pc (j k)) : rx_OK (zV b e D A X) mX13_startFaces (dn + 1) 146 (vX13_startFaces_146 g j) := by
  unfold vX13_startFaces_146
  exact s_vret rfl dX13_startFaces_146
noncomputable def vX13_startFaces_143 (g : Nat → List Nat → rx_H → Option (Nat × rx_H)) (j : Nat → rx_K) : rx_K := (j 0)
set_option maxRecDepth 20000 in
theorem wX13_startFaces_143 {dn : Nat} {g : Nat → List Nat → rx_H → Option (Nat × rx_H)} (hZ : zO b e D A X) (hg : ∀ i y M, vl19[i]? = some (y, M) → rx_Met (zV b e D A X) dn y M (g i)) (hd : 333 ≤ dn) (j : Nat → rx_K) (hj : ∀ k pc, [25][k]? = some pc → rx_OK (zV b e D A X) mX13_startFaces (dn + 1) pc (j k)) : rx_OK (zV b e D A X) mX13_startFaces (dn + 1) 143 (vX13_startFaces_143 g j) := by
  unfold vX13_startFaces_143
  exact s_goto dX13_startFaces_143 (by decide) (hj 0 25 rfl)
noncomputable def vX13_startFaces_104 (g : Nat → List Nat → rx_H → Option (Nat × rx_H)) (j : Nat → rx_K) : rx_K := o_ld rx_isR 0 (o_getf 13 170 (o_ld rx_isI 5 (o_ld rx_isI 3 (o_ast 0 (fun v => v) rx_isI (o_ld rx_isR 0 (o_getf 13 172 (o_ld rx_isR 0 (o_getf 13 173 (o_const 16 (o_ld rx_isI 5 (o_bi (fun x y => x * y) (o_const 8 (o_bi (fun x y => x + y) (o_ast 0 (fun v => v) rx_isI (o_ld rx_isR 0 (o_dup (o_getf 13 173 (o_const 8 (o_bi (fun x y => x + y) (o_putf rx_isI 13 173 (o_ld rx_isR 0 (o_ld rx_isI 5 (o_callV 1 13 FX13_pushFaces ((vX13_startFaces_143 g j)))))))))))))))))))))))))
set_option maxRecDepth 20000 in
theorem wX13_startFaces_104 {dn : Nat} {g : Nat → List Nat → rx_H → Option (Nat × rx_H)} (hZ : zO b e D A X) (hg : ∀ i y M, vl19[i]? = some (y, M) → rx_Met (zV b e D A X) dn y M (g i)) (hd : 333 ≤ dn) (j : Nat → rx_K) (hj : ∀ k pc, [25][k]? = some pc → rx_OK (zV b e D A X) mX13_startFaces (dn + 1) pc (j k)) : rx_OK (zV b e D A X) mX13_startFaces (dn + 1) 104 (vX13_startFaces_104 g j) := by
  unfold vX13_startFaces_104
  refine s_aload_n hZ.1 dX13_startFaces_104 rfl ?_
  refine yg13_170 dX13_startFaces_105 zw4290 ?_
  refine s_iload hZ.1 dX13_startFaces_108 ?_
  refine s_iload_n hZ.1 dX13_startFaces_110 rfl ?_
  refine s_iast hZ.1 (tt := 0) rfl dX13_startFaces_111 ?_
  refine s_aload_n hZ.1 dX13_startFaces_112 rfl ?_
  refine yg13_172 dX13_startFaces_113 zw4292 ?_
  refine s_aload_n hZ.1 dX13_startFaces_116 rfl ?_
  refine yg13_173 dX13_startFaces_117 zw4293 ?_
  refine s_iconst dX13_startFaces_120 (by decide +kernel) ?_
  refine s_iload hZ.1 dX13_startFaces_121 ?_
  refine s_imul dX13_startFaces_123 ?_
  refine s_iconst dX13_startFaces_124 (by decide +kernel) ?_
  refine s_iadd dX13_startFaces_125 ?_
  refine s_iast hZ.1 (tt := 0) rfl dX13_startFaces_126 ?_
  refine s_aload_n hZ.1 dX13_startFaces_127 rfl ?_
  refine s_dup hZ.1 dX13_startFaces_128 ?_
  refine yg13_173 dX13_startFaces_129 zw4293 ?_
  refine s_iconst dX13_startFaces_132 (by decide +kernel) ?_
  refine s_iadd dX13_startFaces_133 ?_
  refine yp13_173 hZ.1 dX13_startFaces_134 zw4293 ?_
  refine s_aload_n hZ.1 dX13_startFaces_137 rfl ?_
  refine s_iload hZ.1 dX13_startFaces_138 ?_
  refine s_callV hZ.1 (Met_X13_pushFaces hZ) (Nat.succ_le_succ (Nat.le_trans (Nat.le_of_ble_eq_true rfl) hd)) vy_X13_pushFaces zcl13 zw3840 zw357 (Or.inl zw3838) dX13_startFaces_140 ?_
  exact (wX13_startFaces_143 hZ hg hd j hj)
noncomputable def vX13_startFaces_93 (g : Nat → List Nat → rx_H → Option (Nat × rx_H)) (j : Nat → rx_K) : rx_K := o_ld rx_isR 0 (o_getf 13 170 (o_ld rx_isI 5 (o_ald 0 (o_ld rx_isI 3 (o_c2 rx_eq (vX13_startFaces_143 g j) (vX13_startFaces_104 g j))))))
set_option maxRecDepth 20000 in
theorem wX13_startFaces_93 {dn : Nat} {g : Nat → List Nat → rx_H → Option (Nat × rx_H)} (hZ : zO b e D A X) (hg : ∀ i y M, vl19[i]? = some (y, M) → rx_Met (zV b e D A X) dn y M (g i)) (hd : 333 ≤ dn) (j : Nat → rx_K) (hj : ∀ k pc, [25][k]? = some pc → rx_OK (zV b e D A X) mX13_startFaces (dn + 1) pc (j k)) : rx_OK (zV b e D A X) mX13_startFaces (dn + 1) 93 (vX13_startFaces_93 g j) := by
  unfold vX13_startFaces_93
  refine s_aload_n hZ.1 dX13_startFaces_93 rfl ?_
  refine yg13_170 dX13_startFaces_94 zw4290 ?_
  refine s_iload hZ.1 dX13_startFaces_97 ?_
  refine s_iald (tt := 0) rfl dX13_startFaces_99 ?_
  refine s_iload_n hZ.1 dX13_startFaces_100 rfl ?_
  exact s_icmp_eq dX13_startFaces_101 (by decide) (wX13_startFaces_143 hZ hg hd j hj) (wX13_startFaces_104 hZ hg hd j hj)
noncomputable def vX13_startFaces_84 (g : Nat → List Nat → rx_H → Option (Nat × rx_H)) (j : Nat → rx_K) : rx_K := o_ld rx_isR 0 (o_ld rx_isI 5 (o_callV 1 13 (g 14) ((vX13_startFaces_143 g j))))
set_option maxRecDepth 20000 in
theorem wX13_startFaces_84 {dn : Nat} {g : Nat → List Nat → rx_H → Option (Nat × rx_H)} (hZ : zO b e D A X) (hg : ∀ i y M, vl19[i]? = some (y, M) → rx_Met (zV b e D A X) dn y M (g i)) (hd : 333 ≤ dn) (j : Nat → rx_K) (hj : ∀ k pc, [25][k]? = some pc → rx_OK (zV b e D A X) mX13_startFaces (dn + 1) pc (j k)) : rx_OK (zV b e D A X) mX13_startFaces (dn + 1) 84 (vX13_startFaces_84 g j) := by
  unfold vX13_startFaces_84
  refine s_aload_n hZ.1 dX13_startFaces_84 rfl ?_
  refine s_iload hZ.1 dX13_startFaces_85 ?_
  refine s_callV hZ.1 (hg 14 _ _ rfl) (Nat.le_refl _) vy_X13_start zcl13 zw3816 zw351 (Or.inl zw3814) dX13_startFaces_87 ?_
  exact s_goto dX13_startFaces_90 (by decide) (wX13_startFaces_143 hZ hg hd j hj)
noncomputable def vX13_startFaces_75 (g : Nat → List Nat → rx_H → Option (Nat × rx_H)) (j : Nat → rx_K) : rx_K := o_ld rx_isR 0 (o_ld rx_isI 5 (o_callV 1 13 FX13_hasBody (o_c1 rx_eq (vX13_startFaces_143 g j) (vX13_startFaces_84 g j))))
set_option maxRecDepth 20000 in
theorem wX13_startFaces_75 {dn : Nat} {g : Nat → List Nat → rx_H → Option (Nat × rx_H)} (hZ : zO b e D A X) (hg : ∀ i y M, vl19[i]? = some (y, M) → rx_Met (zV b e D A X) dn y M (g i)) (hd : 333 ≤ dn) (j : Nat → rx_K) (hj : ∀ k pc, [25][k]? = some pc → rx_OK (zV b e D A X) mX13_startFaces (dn + 1) pc (j k)) : rx_OK (zV b e D A X) mX13_startFaces (dn + 1) 75 (vX13_startFaces_75 g j) := by
  unfold vX13_startFaces_75
  refine s_aload_n hZ.1 dX13_startFaces_75 rfl ?_
  refine s_iload hZ.1 dX13_startFaces_76 ?_
  refine s_callV hZ.1 (Met_X13_hasBody hZ) (Nat.succ_le_succ (Nat.le_trans (Nat.le_of_ble_eq_true rfl) hd)) vy_X13_hasBody zcl13 zw3844 zw358 (Or.inl zw3842) dX13_startFaces_78 ?_
  exact s_if_eq dX13_startFaces_81 (by decide) (wX13_startFaces_143 hZ hg hd j hj) (wX13_startFaces_84 hZ hg hd j hj)
noncomputable def vX13_startFaces_68 (g : Nat → List Nat → rx_H → Option (Nat × rx_H)) (j : Nat → rx_K) : rx_K := o_ld rx_isR 0 (o_getf 13 164 (o_c1 rx_eq (vX13_startFaces_75 g j) (vX13_startFaces_143 g j)))
set_option maxRecDepth 20000 in
theorem wX13_startFaces_68 {dn : Nat} {g : Nat → List Nat → rx_H → Option (Nat × rx_H)} (hZ : zO b e D A X) (hg : ∀ i y M, vl19[i]? = some (y, M) → rx_Met (zV b e D A X) dn y M (g i)) (hd : 333 ≤ dn) (j : Nat → rx_K) (hj : ∀ k pc, [25][k]? = some pc → rx_OK (zV b e D A X) mX13_startFaces (dn + 1) pc (j k)) : rx_OK (zV b e D A X) mX13_startFaces (dn + 1) 68 (vX13_startFaces_68 g j) := by
  unfold vX13_startFaces_68
  refine s_aload_n hZ.1 dX13_startFaces_68 rfl ?_
  refine yg13_164 dX13_startFaces_69 zw4284 ?_
  exact s_if_ne dX13_startFaces_72 (by decide) (wX13_startFaces_143 hZ hg hd j hj) (wX13_startFaces_75 hZ hg hd j hj)
noncomputable def vX13_startFaces_33 (g : Nat → List Nat → rx_H → Option (Nat × rx_H)) (j : Nat → rx_K) : rx_K := o_ld rx_isR 0 (o_dup (o_getf 13 173 (o_const 8 (o_bi (fun x y => x - y) (o_putf rx_isI 13 173 (o_ld rx_isR 0 (o_getf 13 172 (o_ld rx_isR 0 (o_getf 13 173 (o_ald 0 (o_st rx_isI 4 (o_ld rx_isI 4 (o_const 16 (o_bin (fun x y => x / y) (o_st rx_isI 5 (o_ld rx_isI 4 (o_const 16 (o_bin (fun x y => x - x / y * y) (o_const 8 (o_c2 rx_eq (vX13_startFaces_68 g j) (vX13_startFaces_93 g j)))))))))))))))))))))
set_option maxRecDepth 20000 in
theorem wX13_startFaces_33 {dn : Nat} {g : Nat → List Nat → rx_H → Option (Nat × rx_H)} (hZ : zO b e D A X) (hg : ∀ i y M, vl19[i]? = some (y, M) → rx_Met (zV b e D A X) dn y M (g i)) (hd : 333 ≤ dn) (j : Nat → rx_K) (hj : ∀ k pc, [25][k]? = some pc → rx_OK (zV b e D A X) mX13_startFaces (dn + 1) pc (j k)) : rx_OK (zV b e D A X) mX13_startFaces (dn + 1) 33 (vX13_startFaces_33 g j) := by
  unfold vX13_startFaces_33
  refine s_aload_n hZ.1 dX13_startFaces_33 rfl ?_
  refine s_dup hZ.1 dX13_startFaces_34 ?_
  refine yg13_173 dX13_startFaces_35 zw4293 ?_
  refine s_iconst dX13_startFaces_38 (by decide +kernel) ?_
  refine s_isub dX13_startFaces_39 ?_
  refine yp13_173 hZ.1 dX13_startFaces_40 zw4293 ?_
  refine s_aload_n hZ.1 dX13_startFaces_43 rfl ?_
  refine yg13_172 dX13_startFaces_44 zw4292 ?_
  refine s_aload_n hZ.1 dX13_startFaces_47 rfl ?_
  refine yg13_173 dX13_startFaces_48 zw4293 ?_
  refine s_iald (tt := 0) rfl dX13_startFaces_51 ?_
  refine s_istore hZ.1 dX13_startFaces_52 (Nat.le_of_ble_eq_true rfl) ?_
  refine s_iload hZ.1 dX13_startFaces_54 ?_
  refine s_iconst dX13_startFaces_56 (by decide +kernel) ?_
  refine s_idiv dX13_startFaces_57 ?_
  refine s_istore hZ.1 dX13_startFaces_58 (Nat.le_of_ble_eq_true rfl) ?_
  refine s_iload hZ.1 dX13_startFaces_60 ?_
  refine s_iconst dX13_startFaces_62 (by decide +kernel) ?_
  refine s_irem dX13_startFaces_63 ?_
  refine s_iconst dX13_startFaces_64 (by decide +kernel) ?_
  exact s_icmp_ne dX13_startFaces_65 (by decide) (wX13_startFaces_93 hZ hg hd j hj) (wX13_startFaces_68 hZ hg hd j hj)
noncomputable def vX13_startFaces_25 (g : Nat → List Nat → rx_H → Option (Nat × rx_H)) (j : Nat → rx_K) : rx_K := o_ld rx_isR 0 (o_getf 13 173 (o_ld rx_isI 2 (o_c2 (fun h x y => rx_lt h y x) (vX13_startFaces_33 g j) (vX13_startFaces_146 g j))))
set_option maxRecDepth 20000 in
theorem wX13_startFaces_25 {dn : Nat} {g : Nat → List Nat → rx_H → Option (Nat × rx_H)} (hZ : zO b e D A X) (hg : ∀ i y M, vl19[i]? = some (y, M) → rx_Met (zV b e D A X) dn y M (g i)) (hd : 333 ≤ dn) (j : Nat → rx_K) (hj : ∀ k pc, [25][k]? = some pc → rx_OK (zV b e D A X) mX13_startFaces (dn + 1) pc (j k)) : rx_OK (zV b e D A X) mX13_startFaces (dn + 1) 25 (vX13_startFaces_25 g j) := by
  unfold vX13_startFaces_25
  refine s_aload_n hZ.1 dX13_startFaces_25 rfl ?_
  refine yg13_173 dX13_startFaces_26 zw4293 ?_
  refine s_iload_n hZ.1 dX13_startFaces_29 rfl ?_
  exact s_icmp_le dX13_startFaces_30 (by decide) (wX13_startFaces_146 hZ hg hd j hj) (wX13_startFaces_33 hZ hg hd j hj)
noncomputable def vX13_startFaces_0 (g : Nat → List Nat → rx_H → Option (Nat × rx_H)) (j : Nat → rx_K) : rx_K := o_ld rx_isR 0 (o_getf 13 173 (o_st rx_isI 2 (o_ld rx_isR 0 (o_dup (o_getf 13 171 (o_const 8 (o_bi (fun x y => x + y) (o_putf rx_isI 13 171 (o_ld rx_isR 0 (o_getf 13 171 (o_st rx_isI 3 (o_ld rx_isR 0 (o_ld rx_isI 1 (o_callV 1 13 FX13_pushFaces ((vX13_startFaces_25 g j))))))))))))))))
set_option maxRecDepth 20000 in
theorem wX13_startFaces_0 {dn : Nat} {g : Nat → List Nat → rx_H → Option (Nat × rx_H)} (hZ : zO b e D A X) (hg : ∀ i y M, vl19[i]? = some (y, M) → rx_Met (zV b e D A X) dn y M (g i)) (hd : 333 ≤ dn) (j : Nat → rx_K) (hj : ∀ k pc, [25][k]? = some pc → rx_OK (zV b e D A X) mX13_startFaces (dn + 1) pc (j k)) : rx_OK (zV b e D A X) mX13_startFaces (dn + 1) 0 (vX13_startFaces_0 g j) := by
  unfold vX13_startFaces_0
  refine s_aload_n hZ.1 dX13_startFaces_0 rfl ?_
  refine yg13_173 dX13_startFaces_1 zw4293 ?_
  refine s_istore_n hZ.1 dX13_startFaces_4 rfl (Nat.le_of_ble_eq_true rfl) ?_
  refine s_aload_n hZ.1 dX13_startFaces_5 rfl ?_
  refine s_dup hZ.1 dX13_startFaces_6 ?_
  refine yg13_171 dX13_startFaces_7 zw4291 ?_
  refine s_iconst dX13_startFaces_10 (by decide +kernel) ?_
  refine s_iadd dX13_startFaces_11 ?_
  refine yp13_171 hZ.1 dX13_startFaces_12 zw4291 ?_
  refine s_aload_n hZ.1 dX13_startFaces_15 rfl ?_
  refine yg13_171 dX13_startFaces_16 zw4291 ?_
  refine s_istore_n hZ.1 dX13_startFaces_19 rfl (Nat.le_of_ble_eq_true rfl) ?_
  refine s_aload_n hZ.1 dX13_startFaces_20 rfl ?_
  refine s_iload_n hZ.1 dX13_startFaces_21 rfl ?_
  refine s_callV hZ.1 (Met_X13_pushFaces hZ) (Nat.succ_le_succ (Nat.le_trans (Nat.le_of_ble_eq_true rfl) hd)) vy_X13_pushFaces zcl13 zw3840 zw357 (Or.inl zw3838) dX13_startFaces_22 ?_
  exact (wX13_startFaces_25 hZ hg hd j hj)
noncomputable def vhX13_startFaces (g : Nat → List Nat → rx_H → Option (Nat × rx_H)) (j : Nat → rx_K) : List rx_K := [vX13_startFaces_25 g j]
theorem vlX13_startFaces {dn : Nat} {g : Nat → List Nat → rx_H → Option (Nat × rx_H)} (hZ : zO b e D A X) (hg : ∀ i y M, vl19[i]? = some (y, M) → rx_Met (zV b e D A X) dn y M (g i)) (hd : 333 ≤ dn) : ∀ n k pc, [25][k]? = some pc → rx_OK (zV b e D A X) mX13_startFaces (dn + 1) pc (rx_J (vhX13_startFaces g) n k) := rx_loop fun j hj k pc h => by
  match k, h with
  | 0, h =>
    have e9 := Option.some.inj (show some 25 = some pc from h)
    subst e9
    exact wX13_startFaces_25 hZ hg hd j hj
  | _ + 1, h => exact absurd h (by simp)
noncomputable def FX13_startFaces (g : Nat → List Nat → rx_H → Option (Nat × rx_H)) : List Nat → rx_H → Option (Nat × rx_H) := rx_ent 6 (vX13_startFaces_0 g (rx_J (vhX13_startFaces g) 4000000000))
theorem Met_X13_startFaces {dn : Nat} {g : Nat → List Nat → rx_H → Option (Nat × rx_H)} (hZ : zO b e D A X) (hg : ∀ i y M, vl19[i]? = some (y, M) → rx_Met (zV b e D A X) dn y M (g i)) (hd : 333 ≤ dn) : rx_Met (zV b e D A X) (dn + 1) yX13_startFaces mX13_startFaces (FX13_startFaces g) := rx_entry hZ.1 (wX13_startFaces_0 hZ hg hd _ (vlX13_startFaces hZ hg hd 4000000000)) (by decide +kernel) rfl (fun h => by cases h)
end ZM66

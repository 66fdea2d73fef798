section ZM67
variable {b : Nat} {e : Nat → Value} {D : va_G} {A : Nat → ClassId} {X : State → Prop}
noncomputable def vX13_startSelf_230 (g : Nat → List Nat → rx_H → Option (Nat × rx_H)) (j : Nat → rx_K) : rx_K := o_ret0
set_option maxRecDepth 20000 in
theorem wX13_startSelf_230 {dn : Nat} {g : Nat → List Nat → rx_H → Option (Nat × rx_H)} (hZ : zO b e D A X) (hg : ∀ i y M, vl19[i]? = some (y, M) → rx_Met (zV b e D A X) dn y M (g i)) (hd : 333 ≤ dn) (j : Nat → rx_K) (hj : ∀ k pc, [2, 57][k]? = some pc → rx_OK (zV b e D A X) mX13_startSelf (dn + 1) pc (j k)) : rx_OK (zV b e D A X) mX13_startSelf (dn + 1) 230 (vX13_startSelf_230 g j) := by
  unfold vX13_startSelf_230
  exact s_vret rfl dX13_startSelf_230
noncomputable def vX13_startSelf_218 (g : Nat → List Nat → rx_H → Option (Nat × rx_H)) (j : Nat → rx_K) : rx_K := o_ld rx_isR 0 (o_ld rx_isI 4 (o_putf rx_isI 13 155 (o_inc 2 (1) ((j 1)))))
set_option maxRecDepth 20000 in
theorem wX13_startSelf_218 {dn : Nat} {g : Nat → List Nat → rx_H → Option (Nat × rx_H)} (hZ : zO b e D A X) (hg : ∀ i y M, vl19[i]? = some (y, M) → rx_Met (zV b e D A X) dn y M (g i)) (hd : 333 ≤ dn) (j : Nat → rx_K) (hj : ∀ k pc, [2, 57][k]? = some pc → rx_OK (zV b e D A X) mX13_startSelf (dn + 1) pc (j k)) : rx_OK (zV b e D A X) mX13_startSelf (dn + 1) 218 (vX13_startSelf_218 g j) := by
  unfold vX13_startSelf_218
  refine s_aload_n hZ.1 dX13_startSelf_218 rfl ?_
  refine s_iload hZ.1 dX13_startSelf_219 ?_
  refine yp13_155 hZ.1 dX13_startSelf_221 zw4275 ?_
  refine s_iinc hZ.1 dX13_startSelf_224 (Nat.le_of_ble_eq_true rfl) ?_
  exact s_goto dX13_startSelf_227 (by decide) (hj 1 57 rfl)
noncomputable def vX13_startSelf_215 (g : Nat → List Nat → rx_H → Option (Nat × rx_H)) (j : Nat → rx_K) : rx_K := o_putf rx_isI 13 164 ((vX13_startSelf_218 g j))
set_option maxRecDepth 20000 in
theorem wX13_startSelf_215 {dn : Nat} {g : Nat → List Nat → rx_H → Option (Nat × rx_H)} (hZ : zO b e D A X) (hg : ∀ i y M, vl19[i]? = some (y, M) → rx_Met (zV b e D A X) dn y M (g i)) (hd : 333 ≤ dn) (j : Nat → rx_K) (hj : ∀ k pc, [2, 57][k]? = some pc → rx_OK (zV b e D A X) mX13_startSelf (dn + 1) pc (j k)) : rx_OK (zV b e D A X) mX13_startSelf (dn + 1) 215 (vX13_startSelf_215 g j) := by
  unfold vX13_startSelf_215
  refine yp13_164 hZ.1 dX13_startSelf_215 zw4284 ?_
  exact (wX13_startSelf_218 hZ hg hd j hj)
noncomputable def vX13_startSelf_211 (g : Nat → List Nat → rx_H → Option (Nat × rx_H)) (j : Nat → rx_K) : rx_K := o_ld rx_isR 0 (o_getf 13 164 ((vX13_startSelf_215 g j)))
set_option maxRecDepth 20000 in
theorem wX13_startSelf_211 {dn : Nat} {g : Nat → List Nat → rx_H → Option (Nat × rx_H)} (hZ : zO b e D A X) (hg : ∀ i y M, vl19[i]? = some (y, M) → rx_Met (zV b e D A X) dn y M (g i)) (hd : 333 ≤ dn) (j : Nat → rx_K) (hj : ∀ k pc, [2, 57][k]? = some pc → rx_OK (zV b e D A X) mX13_startSelf (dn + 1) pc (j k)) : rx_OK (zV b e D A X) mX13_startSelf (dn + 1) 211 (vX13_startSelf_211 g j) := by
  unfold vX13_startSelf_211
  refine s_aload_n hZ.1 dX13_startSelf_211 rfl ?_
  refine yg13_164 dX13_startSelf_212 zw4284 ?_
  exact (wX13_startSelf_215 hZ hg hd j hj)
noncomputable def vX13_startSelf_207 (g : Nat → List Nat → rx_H → Option (Nat × rx_H)) (j : Nat → rx_K) : rx_K := o_const 0 ((vX13_startSelf_215 g j))
set_option maxRecDepth 20000 in
theorem wX13_startSelf_207 {dn : Nat} {g : Nat → List Nat → rx_H → Option (Nat × rx_H)} (hZ : zO b e D A X) (hg : ∀ i y M, vl19[i]? = some (y, M) → rx_Met (zV b e D A X) dn y M (g i)) (hd : 333 ≤ dn) (j : Nat → rx_K) (hj : ∀ k pc, [2, 57][k]? = some pc → rx_OK (zV b e D A X) mX13_startSelf (dn + 1) pc (j k)) : rx_OK (zV b e D A X) mX13_startSelf (dn + 1) 207 (vX13_startSelf_207 g j) := by
  unfold vX13_startSelf_207
  refine s_iconst dX13_startSelf_207 (by decide +kernel) ?_
  exact s_goto dX13_startSelf_208 (by decide) (wX13_startSelf_215 hZ hg hd j hj)
noncomputable def vX13_startSelf_184 (g : Nat → List Nat → rx_H → Option (Nat × rx_H)) (j : Nat → rx_K) : rx_K := o_ld rx_isR 0 (o_ld rx_isR 0 (o_getf 13 61 (o_ld rx_isI 3 (o_ald 0 (o_ld rx_isI 1 (o_const 0 (o_ld rx_isI 4 (o_callV 4 13 (g 8) (o_ld rx_isR 0 (o_ld rx_isR 0 (o_getf 13 164 (o_const 8 (o_c2 rx_eq (vX13_startSelf_207 g j) (vX13_startSelf_211 g j))))))))))))))
set_option maxRecDepth 20000 in
theorem wX13_startSelf_184 {dn : Nat} {g : Nat → List Nat → rx_H → Option (Nat × rx_H)} (hZ : zO b e D A X) (hg : ∀ i y M, vl19[i]? = some (y, M) → rx_Met (zV b e D A X) dn y M (g i)) (hd : 333 ≤ dn) (j : Nat → rx_K) (hj : ∀ k pc, [2, 57][k]? = some pc → rx_OK (zV b e D A X) mX13_startSelf (dn + 1) pc (j k)) : rx_OK (zV b e D A X) mX13_startSelf (dn + 1) 184 (vX13_startSelf_184 g j) := by
  unfold vX13_startSelf_184
  refine s_aload_n hZ.1 dX13_startSelf_184 rfl ?_
  refine s_aload_n hZ.1 dX13_startSelf_185 rfl ?_
  refine yg13_61 dX13_startSelf_186 zw4182 ?_
  refine s_iload_n hZ.1 dX13_startSelf_189 rfl ?_
  refine s_iald (tt := 0) rfl dX13_startSelf_190 ?_
  refine s_iload_n hZ.1 dX13_startSelf_191 rfl ?_
  refine s_iconst dX13_startSelf_192 (by decide +kernel) ?_
  refine s_iload hZ.1 dX13_startSelf_193 ?_
  refine s_callV hZ.1 (hg 8 _ _ rfl) (Nat.le_refl _) vy_X13_exec zcl13 zw3924 zw378 (Or.inl zw3922) dX13_startSelf_195 ?_
  refine s_aload_n hZ.1 dX13_startSelf_198 rfl ?_
  refine s_aload_n hZ.1 dX13_startSelf_199 rfl ?_
  refine yg13_164 dX13_startSelf_200 zw4284 ?_
  refine s_iconst dX13_startSelf_203 (by decide +kernel) ?_
  exact s_icmp_ne dX13_startSelf_204 (by decide) (wX13_startSelf_211 hZ hg hd j hj) (wX13_startSelf_207 hZ hg hd j hj)
noncomputable def vX13_startSelf_174 (g : Nat → List Nat → rx_H → Option (Nat × rx_H)) (j : Nat → rx_K) : rx_K := o_ld rx_isR 0 (o_getf 13 42 (o_ld rx_isI 3 (o_ald 0 (o_const 24 (o_c2 rx_eq (vX13_startSelf_184 g j) (vX13_startSelf_218 g j))))))
set_option maxRecDepth 20000 in
theorem wX13_startSelf_174 {dn : Nat} {g : Nat → List Nat → rx_H → Option (Nat × rx_H)} (hZ : zO b e D A X) (hg : ∀ i y M, vl19[i]? = some (y, M) → rx_Met (zV b e D A X) dn y M (g i)) (hd : 333 ≤ dn) (j : Nat → rx_K) (hj : ∀ k pc, [2, 57][k]? = some pc → rx_OK (zV b e D A X) mX13_startSelf (dn + 1) pc (j k)) : rx_OK (zV b e D A X) mX13_startSelf (dn + 1) 174 (vX13_startSelf_174 g j) := by
  unfold vX13_startSelf_174
  refine s_aload_n hZ.1 dX13_startSelf_174 rfl ?_
  refine yg13_42 dX13_startSelf_175 zw4163 ?_
  refine s_iload_n hZ.1 dX13_startSelf_178 rfl ?_
  refine s_iald (tt := 0) rfl dX13_startSelf_179 ?_
  refine s_iconst dX13_startSelf_180 (by decide +kernel) ?_
  exact s_icmp_ne dX13_startSelf_181 (by decide) (wX13_startSelf_218 hZ hg hd j hj) (wX13_startSelf_184 hZ hg hd j hj)
noncomputable def vX13_startSelf_171 (g : Nat → List Nat → rx_H → Option (Nat × rx_H)) (j : Nat → rx_K) : rx_K := (vX13_startSelf_218 g j)
set_option maxRecDepth 20000 in
theorem wX13_startSelf_171 {dn : Nat} {g : Nat → List Nat → rx_H → Option (Nat × rx_H)} (hZ : zO b e D A X) (hg : ∀ i y M, vl19[i]? = some (y, M) → rx_Met (zV b e D A X) dn y M (g i)) (hd : 333 ≤ dn) (j : Nat → rx_K) (hj : ∀ k pc, [2, 57][k]? = some pc → rx_OK (zV b e D A X) mX13_startSelf (dn + 1) pc (j k)) : rx_OK (zV b e D A X) mX13_startSelf (dn + 1) 171 (vX13_startSelf_171 g j) := by
  unfold vX13_startSelf_171
  exact s_goto dX13_startSelf_171 (by decide) (wX13_startSelf_218 hZ hg hd j hj)
noncomputable def vX13_startSelf_163 (g : Nat → List Nat → rx_H → Option (Nat × rx_H)) (j : Nat → rx_K) : rx_K := o_ld rx_isR 0 (o_getf 13 148 (o_ld rx_isI 3 (o_ld rx_isI 5 (o_ast 0 (fun v => v) rx_isI ((vX13_startSelf_171 g j))))))
set_option maxRecDepth 20000 in
theorem wX13_startSelf_163 {dn : Nat} {g : Nat → List Nat → rx_H → Option (Nat × rx_H)} (hZ : zO b e D A X) (hg : ∀ i y M, vl19[i]? = some (y, M) → rx_Met (zV b e D A X) dn y M (g i)) (hd : 333 ≤ dn) (j : Nat → rx_K) (hj : ∀ k pc, [2, 57][k]? = some pc → rx_OK (zV b e D A X) mX13_startSelf (dn + 1) pc (j k)) : rx_OK (zV b e D A X) mX13_startSelf (dn + 1) 163 (vX13_startSelf_163 g j) := by
  unfold vX13_startSelf_163
  refine s_aload_n hZ.1 dX13_startSelf_163 rfl ?_
  refine yg13_148 dX13_startSelf_164 zw4268 ?_
  refine s_iload_n hZ.1 dX13_startSelf_167 rfl ?_
  refine s_iload hZ.1 dX13_startSelf_168 ?_
  refine s_iast hZ.1 (tt := 0) rfl dX13_startSelf_170 ?_
  exact (wX13_startSelf_171 hZ hg hd j hj)
noncomputable def vX13_startSelf_140 (g : Nat → List Nat → rx_H → Option (Nat × rx_H)) (j : Nat → rx_K) : rx_K := o_ld rx_isR 0 (o_ld rx_isR 0 (o_getf 13 60 (o_ld rx_isI 3 (o_ald 0 (o_ld rx_isI 1 (o_const 0 (o_ld rx_isI 4 (o_callV 4 13 (g 3) (o_st rx_isI 5 (o_ld rx_isR 0 (o_getf 13 164 (o_c1 rx_eq (vX13_startSelf_163 g j) (vX13_startSelf_171 g j)))))))))))))
set_option maxRecDepth 20000 in
theorem wX13_startSelf_140 {dn : Nat} {g : Nat → List Nat → rx_H → Option (Nat × rx_H)} (hZ : zO b e D A X) (hg : ∀ i y M, vl19[i]? = some (y, M) → rx_Met (zV b e D A X) dn y M (g i)) (hd : 333 ≤ dn) (j : Nat → rx_K) (hj : ∀ k pc, [2, 57][k]? = some pc → rx_OK (zV b e D A X) mX13_startSelf (dn + 1) pc (j k)) : rx_OK (zV b e D A X) mX13_startSelf (dn + 1) 140 (vX13_startSelf_140 g j) := by
  unfold vX13_startSelf_140
  refine s_aload_n hZ.1 dX13_startSelf_140 rfl ?_
  refine s_aload_n hZ.1 dX13_startSelf_141 rfl ?_
  refine yg13_60 dX13_startSelf_142 zw4181 ?_
  refine s_iload_n hZ.1 dX13_startSelf_145 rfl ?_
  refine s_iald (tt := 0) rfl dX13_startSelf_146 ?_
  refine s_iload_n hZ.1 dX13_startSelf_147 rfl ?_
  refine s_iconst dX13_startSelf_148 (by decide +kernel) ?_
  refine s_iload hZ.1 dX13_startSelf_149 ?_
  refine s_callV hZ.1 (hg 3 _ _ rfl) (Nat.le_refl _) vy_X13_eval zcl13 zw3852 zw360 (Or.inl zw3850) dX13_startSelf_151 ?_
  refine s_istore hZ.1 dX13_startSelf_154 (Nat.le_of_ble_eq_true rfl) ?_
  refine s_aload_n hZ.1 dX13_startSelf_156 rfl ?_
  refine yg13_164 dX13_startSelf_157 zw4284 ?_
  exact s_if_ne dX13_startSelf_160 (by decide) (wX13_startSelf_171 hZ hg hd j hj) (wX13_startSelf_163 hZ hg hd j hj)
noncomputable def vX13_startSelf_129 (g : Nat → List Nat → rx_H → Option (Nat × rx_H)) (j : Nat → rx_K) : rx_K := o_ld rx_isR 0 (o_getf 13 60 (o_ld rx_isI 3 (o_ald 0 (o_const 34359738352 (o_c2 rx_eq (vX13_startSelf_174 g j) (vX13_startSelf_140 g j))))))
set_option maxRecDepth 20000 in
theorem wX13_startSelf_129 {dn : Nat} {g : Nat → List Nat → rx_H → Option (Nat × rx_H)} (hZ : zO b e D A X) (hg : ∀ i y M, vl19[i]? = some (y, M) → rx_Met (zV b e D A X) dn y M (g i)) (hd : 333 ≤ dn) (j : Nat → rx_K) (hj : ∀ k pc, [2, 57][k]? = some pc → rx_OK (zV b e D A X) mX13_startSelf (dn + 1) pc (j k)) : rx_OK (zV b e D A X) mX13_startSelf (dn + 1) 129 (vX13_startSelf_129 g j) := by
  unfold vX13_startSelf_129
  refine s_aload_n hZ.1 dX13_startSelf_129 rfl ?_
  refine yg13_60 dX13_startSelf_130 zw4181 ?_
  refine s_iload_n hZ.1 dX13_startSelf_133 rfl ?_
  refine s_iald (tt := 0) rfl dX13_startSelf_134 ?_
  refine s_bipush dX13_startSelf_135 (by decide +kernel) ?_
  exact s_icmp_eq dX13_startSelf_137 (by decide) (wX13_startSelf_174 hZ hg hd j hj) (wX13_startSelf_140 hZ hg hd j hj)
noncomputable def vX13_startSelf_120 (g : Nat → List Nat → rx_H → Option (Nat × rx_H)) (j : Nat → rx_K) : rx_K := o_ld rx_isR 0 (o_getf 13 64 (o_ld rx_isI 3 (o_ald 3 (o_c1 rx_eq (vX13_startSelf_129 g j) (vX13_startSelf_174 g j)))))
set_option maxRecDepth 20000 in
theorem wX13_startSelf_120 {dn : Nat} {g : Nat → List Nat → rx_H → Option (Nat × rx_H)} (hZ : zO b e D A X) (hg : ∀ i y M, vl19[i]? = some (y, M) → rx_Met (zV b e D A X) dn y M (g i)) (hd : 333 ≤ dn) (j : Nat → rx_K) (hj : ∀ k pc, [2, 57][k]? = some pc → rx_OK (zV b e D A X) mX13_startSelf (dn + 1) pc (j k)) : rx_OK (zV b e D A X) mX13_startSelf (dn + 1) 120 (vX13_startSelf_120 g j) := by
  unfold vX13_startSelf_120
  refine s_aload_n hZ.1 dX13_startSelf_120 rfl ?_
  refine yg13_64 dX13_startSelf_121 zw4185 ?_
  refine s_iload_n hZ.1 dX13_startSelf_124 rfl ?_
  refine s_zald (tt := 3) rfl dX13_startSelf_125 ?_
  exact s_if_ne dX13_startSelf_126 (by decide) (wX13_startSelf_174 hZ hg hd j hj) (wX13_startSelf_129 hZ hg hd j hj)
noncomputable def vX13_startSelf_111 (g : Nat → List Nat → rx_H → Option (Nat × rx_H)) (j : Nat → rx_K) : rx_K := o_ld rx_isR 0 (o_getf 13 45 (o_ld rx_isI 3 (o_ald 3 (o_c1 rx_eq (vX13_startSelf_174 g j) (vX13_startSelf_120 g j)))))
set_option maxRecDepth 20000 in
theorem wX13_startSelf_111 {dn : Nat} {g : Nat → List Nat → rx_H → Option (Nat × rx_H)} (hZ : zO b e D A X) (hg : ∀ i y M, vl19[i]? = some (y, M) → rx_Met (zV b e D A X) dn y M (g i)) (hd : 333 ≤ dn) (j : Nat → rx_K) (hj : ∀ k pc, [2, 57][k]? = some pc → rx_OK (zV b e D A X) mX13_startSelf (dn + 1) pc (j k)) : rx_OK (zV b e D A X) mX13_startSelf (dn + 1) 111 (vX13_startSelf_111 g j) := by
  unfold vX13_startSelf_111
  refine s_aload_n hZ.1 dX13_startSelf_111 rfl ?_
  refine yg13_45 dX13_startSelf_112 zw4166 ?_
  refine s_iload_n hZ.1 dX13_startSelf_115 rfl ?_
  refine s_zald (tt := 3) rfl dX13_startSelf_116 ?_
  exact s_if_eq dX13_startSelf_117 (by decide) (wX13_startSelf_174 hZ hg hd j hj) (wX13_startSelf_120 hZ hg hd j hj)
noncomputable def vX13_startSelf_74 (g : Nat → List Nat → rx_H → Option (Nat × rx_H)) (j : Nat → rx_K) : rx_K := o_ld rx_isI 1 (o_const 272 (o_bi (fun x y => x * y) (o_ld rx_isI 2 (o_bi (fun x y => x + y) (o_st rx_isI 3 (o_ld rx_isR 0 (o_getf 13 155 (o_st rx_isI 4 (o_ld rx_isR 0 (o_dup (o_getf 13 155 (o_ld rx_isR 0 (o_getf 13 68 (o_ld rx_isI 3 (o_ald 0 (o_bi (fun x y => x + y) (o_putf rx_isI 13 155 (o_ld rx_isR 0 (o_getf 13 42 (o_ld rx_isI 3 (o_ald 0 (o_c1 rx_eq (vX13_startSelf_111 g j) (vX13_startSelf_174 g j)))))))))))))))))))))))
set_option maxRecDepth 20000 in
theorem wX13_startSelf_74 {dn : Nat} {g : Nat → List Nat → rx_H → Option (Nat × rx_H)} (hZ : zO b e D A X) (hg : ∀ i y M, vl19[i]? = some (y, M) → rx_Met (zV b e D A X) dn y M (g i)) (hd : 333 ≤ dn) (j : Nat → rx_K) (hj : ∀ k pc, [2, 57][k]? = some pc → rx_OK (zV b e D A X) mX13_startSelf (dn + 1) pc (j k)) : rx_OK (zV b e D A X) mX13_startSelf (dn + 1) 74 (vX13_startSelf_74 g j) := by
  unfold vX13_startSelf_74
  refine s_iload_n hZ.1 dX13_startSelf_74 rfl ?_
  refine s_bipush dX13_startSelf_75 (by decide +kernel) ?_
  refine s_imul dX13_startSelf_77 ?_
  refine s_iload_n hZ.1 dX13_startSelf_78 rfl ?_
  refine s_iadd dX13_startSelf_79 ?_
  refine s_istore_n hZ.1 dX13_startSelf_80 rfl (Nat.le_of_ble_eq_true rfl) ?_
  refine s_aload_n hZ.1 dX13_startSelf_81 rfl ?_
  refine yg13_155 dX13_startSelf_82 zw4275 ?_
  refine s_istore hZ.1 dX13_startSelf_85 (Nat.le_of_ble_eq_true rfl) ?_
  refine s_aload_n hZ.1 dX13_startSelf_87 rfl ?_
  refine s_dup hZ.1 dX13_startSelf_88 ?_
  refine yg13_155 dX13_startSelf_89 zw4275 ?_
  refine s_aload_n hZ.1 dX13_startSelf_92 rfl ?_
  refine yg13_68 dX13_startSelf_93 zw4189 ?_
  refine s_iload_n hZ.1 dX13_startSelf_96 rfl ?_
  refine s_iald (tt := 0) rfl dX13_startSelf_97 ?_
  refine s_iadd dX13_startSelf_98 ?_
  refine yp13_155 hZ.1 dX13_startSelf_99 zw4275 ?_
  refine s_aload_n hZ.1 dX13_startSelf_102 rfl ?_
  refine yg13_42 dX13_startSelf_103 zw4163 ?_
  refine s_iload_n hZ.1 dX13_startSelf_106 rfl ?_
  refine s_iald (tt := 0) rfl dX13_startSelf_107 ?_
  exact s_if_ne dX13_startSelf_108 (by decide) (wX13_startSelf_174 hZ hg hd j hj) (wX13_startSelf_111 hZ hg hd j hj)
noncomputable def vX13_startSelf_67 (g : Nat → List Nat → rx_H → Option (Nat × rx_H)) (j : Nat → rx_K) : rx_K := o_ld rx_isR 0 (o_getf 13 164 (o_c1 rx_eq (vX13_startSelf_74 g j) (vX13_startSelf_230 g j)))
set_option maxRecDepth 20000 in
theorem wX13_startSelf_67 {dn : Nat} {g : Nat → List Nat → rx_H → Option (Nat × rx_H)} (hZ : zO b e D A X) (hg : ∀ i y M, vl19[i]? = some (y, M) → rx_Met (zV b e D A X) dn y M (g i)) (hd : 333 ≤ dn) (j : Nat → rx_K) (hj : ∀ k pc, [2, 57][k]? = some pc → rx_OK (zV b e D A X) mX13_startSelf (dn + 1) pc (j k)) : rx_OK (zV b e D A X) mX13_startSelf (dn + 1) 67 (vX13_startSelf_67 g j) := by
  unfold vX13_startSelf_67
  refine s_aload_n hZ.1 dX13_startSelf_67 rfl ?_
  refine yg13_164 dX13_startSelf_68 zw4284 ?_
  exact s_if_ne dX13_startSelf_71 (by decide) (wX13_startSelf_230 hZ hg hd j hj) (wX13_startSelf_74 hZ hg hd j hj)
noncomputable def vX13_startSelf_57 (g : Nat → List Nat → rx_H → Option (Nat × rx_H)) (j : Nat → rx_K) : rx_K := o_ld rx_isI 2 (o_ld rx_isR 0 (o_getf 13 41 (o_ld rx_isI 1 (o_ald 0 (o_c2 rx_lt (vX13_startSelf_67 g j) (vX13_startSelf_230 g j))))))
set_option maxRecDepth 20000 in
theorem wX13_startSelf_57 {dn : Nat} {g : Nat → List Nat → rx_H → Option (Nat × rx_H)} (hZ : zO b e D A X) (hg : ∀ i y M, vl19[i]? = some (y, M) → rx_Met (zV b e D A X) dn y M (g i)) (hd : 333 ≤ dn) (j : Nat → rx_K) (hj : ∀ k pc, [2, 57][k]? = some pc → rx_OK (zV b e D A X) mX13_startSelf (dn + 1) pc (j k)) : rx_OK (zV b e D A X) mX13_startSelf (dn + 1) 57 (vX13_startSelf_57 g j) := by
  unfold vX13_startSelf_57
  refine s_iload_n hZ.1 dX13_startSelf_57 rfl ?_
  refine s_aload_n hZ.1 dX13_startSelf_58 rfl ?_
  refine yg13_41 dX13_startSelf_59 zw4162 ?_
  refine s_iload_n hZ.1 dX13_startSelf_62 rfl ?_
  refine s_iald (tt := 0) rfl dX13_startSelf_63 ?_
  exact s_icmp_ge dX13_startSelf_64 (by decide) (wX13_startSelf_230 hZ hg hd j hj) (wX13_startSelf_67 hZ hg hd j hj)
noncomputable def vX13_startSelf_55 (g : Nat → List Nat → rx_H → Option (Nat × rx_H)) (j : Nat → rx_K) : rx_K := o_const 0 (o_st rx_isI 2 ((vX13_startSelf_57 g j)))
set_option maxRecDepth 20000 in
theorem wX13_startSelf_55 {dn : Nat} {g : Nat → List Nat → rx_H → Option (Nat × rx_H)} (hZ : zO b e D A X) (hg : ∀ i y M, vl19[i]? = some (y, M) → rx_Met (zV b e D A X) dn y M (g i)) (hd : 333 ≤ dn) (j : Nat → rx_K) (hj : ∀ k pc, [2, 57][k]? = some pc → rx_OK (zV b e D A X) mX13_startSelf (dn + 1) pc (j k)) : rx_OK (zV b e D A X) mX13_startSelf (dn + 1) 55 (vX13_startSelf_55 g j) := by
  unfold vX13_startSelf_55
  refine s_iconst dX13_startSelf_55 (by decide +kernel) ?_
  refine s_istore_n hZ.1 dX13_startSelf_56 rfl (Nat.le_of_ble_eq_true rfl) ?_
  exact (wX13_startSelf_57 hZ hg hd j hj)
noncomputable def vX13_startSelf_49 (g : Nat → List Nat → rx_H → Option (Nat × rx_H)) (j : Nat → rx_K) : rx_K := o_inc 2 (1) ((j 0))
set_option maxRecDepth 20000 in
theorem wX13_startSelf_49 {dn : Nat} {g : Nat → List Nat → rx_H → Option (Nat × rx_H)} (hZ : zO b e D A X) (hg : ∀ i y M, vl19[i]? = some (y, M) → rx_Met (zV b e D A X) dn y M (g i)) (hd : 333 ≤ dn) (j : Nat → rx_K) (hj : ∀ k pc, [2, 57][k]? = some pc → rx_OK (zV b e D A X) mX13_startSelf (dn + 1) pc (j k)) : rx_OK (zV b e D A X) mX13_startSelf (dn + 1) 49 (vX13_startSelf_49 g j) := by
  unfold vX13_startSelf_49
  refine s_iinc hZ.1 dX13_startSelf_49 (Nat.le_of_ble_eq_true rfl) ?_
  exact s_goto dX13_startSelf_52 (by decide) (hj 0 2 rfl)
noncomputable def vX13_startSelf_37 (g : Nat → List Nat → rx_H → Option (Nat × rx_H)) (j : Nat → rx_K) : rx_K := o_ld rx_isR 0 (o_getf 13 148 (o_ld rx_isI 3 (o_ld rx_isR 0 (o_getf 13 65 (o_ld rx_isI 3 (o_ald 0 (o_ast 0 (fun v => v) rx_isI ((vX13_startSelf_49 g j)))))))))
set_option maxRecDepth 20000 in
theorem wX13_startSelf_37 {dn : Nat} {g : Nat → List Nat → rx_H → Option (Nat × rx_H)} (hZ : zO b e D A X) (hg : ∀ i y M, vl19[i]? = some (y, M) → rx_Met (zV b e D A X) dn y M (g i)) (hd : 333 ≤ dn) (j : Nat → rx_K) (hj : ∀ k pc, [2, 57][k]? = some pc → rx_OK (zV b e D A X) mX13_startSelf (dn + 1) pc (j k)) : rx_OK (zV b e D A X) mX13_startSelf (dn + 1) 37 (vX13_startSelf_37 g j) := by
  unfold vX13_startSelf_37
  refine s_aload_n hZ.1 dX13_startSelf_37 rfl ?_
  refine yg13_148 dX13_startSelf_38 zw4268 ?_
  refine s_iload_n hZ.1 dX13_startSelf_41 rfl ?_
  refine s_aload_n hZ.1 dX13_startSelf_42 rfl ?_
  refine yg13_65 dX13_startSelf_43 zw4186 ?_
  refine s_iload_n hZ.1 dX13_startSelf_46 rfl ?_
  refine s_iald (tt := 0) rfl dX13_startSelf_47 ?_
  refine s_iast hZ.1 (tt := 0) rfl dX13_startSelf_48 ?_
  exact (wX13_startSelf_49 hZ hg hd j hj)
noncomputable def vX13_startSelf_28 (g : Nat → List Nat → rx_H → Option (Nat × rx_H)) (j : Nat → rx_K) : rx_K := o_ld rx_isR 0 (o_getf 13 64 (o_ld rx_isI 3 (o_ald 3 (o_c1 rx_eq (vX13_startSelf_49 g j) (vX13_startSelf_37 g j)))))
set_option maxRecDepth 20000 in
theorem wX13_startSelf_28 {dn : Nat} {g : Nat → List Nat → rx_H → Option (Nat × rx_H)} (hZ : zO b e D A X) (hg : ∀ i y M, vl19[i]? = some (y, M) → rx_Met (zV b e D A X) dn y M (g i)) (hd : 333 ≤ dn) (j : Nat → rx_K) (hj : ∀ k pc, [2, 57][k]? = some pc → rx_OK (zV b e D A X) mX13_startSelf (dn + 1) pc (j k)) : rx_OK (zV b e D A X) mX13_startSelf (dn + 1) 28 (vX13_startSelf_28 g j) := by
  unfold vX13_startSelf_28
  refine s_aload_n hZ.1 dX13_startSelf_28 rfl ?_
  refine yg13_64 dX13_startSelf_29 zw4185 ?_
  refine s_iload_n hZ.1 dX13_startSelf_32 rfl ?_
  refine s_zald (tt := 3) rfl dX13_startSelf_33 ?_
  exact s_if_eq dX13_startSelf_34 (by decide) (wX13_startSelf_49 hZ hg hd j hj) (wX13_startSelf_37 hZ hg hd j hj)
noncomputable def vX13_startSelf_12 (g : Nat → List Nat → rx_H → Option (Nat × rx_H)) (j : Nat → rx_K) : rx_K := o_ld rx_isI 1 (o_const 272 (o_bi (fun x y => x * y) (o_ld rx_isI 2 (o_bi (fun x y => x + y) (o_st rx_isI 3 (o_ld rx_isR 0 (o_getf 13 42 (o_ld rx_isI 3 (o_ald 0 (o_c1 rx_eq (vX13_startSelf_28 g j) (vX13_startSelf_49 g j)))))))))))
set_option maxRecDepth 20000 in
theorem wX13_startSelf_12 {dn : Nat} {g : Nat → List Nat → rx_H → Option (Nat × rx_H)} (hZ : zO b e D A X) (hg : ∀ i y M, vl19[i]? = some (y, M) → rx_Met (zV b e D A X) dn y M (g i)) (hd : 333 ≤ dn) (j : Nat → rx_K) (hj : ∀ k pc, [2, 57][k]? = some pc → rx_OK (zV b e D A X) mX13_startSelf (dn + 1) pc (j k)) : rx_OK (zV b e D A X) mX13_startSelf (dn + 1) 12 (vX13_startSelf_12 g j) := by
  unfold vX13_startSelf_12
  refine s_iload_n hZ.1 dX13_startSelf_12 rfl ?_
  refine s_bipush dX13_startSelf_13 (by decide +kernel) ?_
  refine s_imul dX13_startSelf_15 ?_
  refine s_iload_n hZ.1 dX13_startSelf_16 rfl ?_
  refine s_iadd dX13_startSelf_17 ?_
  refine s_istore_n hZ.1 dX13_startSelf_18 rfl (Nat.le_of_ble_eq_true rfl) ?_
  refine s_aload_n hZ.1 dX13_startSelf_19 rfl ?_
  refine yg13_42 dX13_startSelf_20 zw4163 ?_
  refine s_iload_n hZ.1 dX13_startSelf_23 rfl ?_
  refine s_iald (tt := 0) rfl dX13_startSelf_24 ?_
  exact s_if_ne dX13_startSelf_25 (by decide) (wX13_startSelf_49 hZ hg hd j hj) (wX13_startSelf_28 hZ hg hd j hj)
noncomputable def vX13_startSelf_2 (g : Nat → List Nat → rx_H → Option (Nat × rx_H)) (j : Nat → rx_K) : rx_K := o_ld rx_isI 2 (o_ld rx_isR 0 (o_getf 13 41 (o_ld rx_isI 1 (o_ald 0 (o_c2 rx_lt (vX13_startSelf_12 g j) (vX13_startSelf_55 g j))))))
set_option maxRecDepth 20000 in
theorem wX13_startSelf_2 {dn : Nat} {g : Nat → List Nat → rx_H → Option (Nat × rx_H)} (hZ : zO b e D A X) (hg : ∀ i y M, vl19[i]? = some (y, M) → rx_Met (zV b e D A X) dn y M (g i)) (hd : 333 ≤ dn) (j : Nat → rx_K) (hj : ∀ k pc, [2, 57][k]? = some pc → rx_OK (zV b e D A X) mX13_startSelf (dn + 1) pc (j k)) : rx_OK (zV b e D A X) mX13_startSelf (dn + 1) 2 (vX13_startSelf_2 g j) := by
  unfold vX13_startSelf_2
  refine s_iload_n hZ.1 dX13_startSelf_2 rfl ?_
  refine s_aload_n hZ.1 dX13_startSelf_3 rfl ?_
  refine yg13_41 dX13_startSelf_4 zw4162 ?_
  refine s_iload_n hZ.1 dX13_startSelf_7 rfl ?_
  refine s_iald (tt := 0) rfl dX13_startSelf_8 ?_
  exact s_icmp_ge dX13_startSelf_9 (by decide) (wX13_startSelf_55 hZ hg hd j hj) (wX13_startSelf_12 hZ hg hd j hj)
noncomputable def vX13_startSelf_0 (g : Nat → List Nat → rx_H → Option (Nat × rx_H)) (j : Nat → rx_K) : rx_K := o_const 0 (o_st rx_isI 2 ((vX13_startSelf_2 g j)))
set_option maxRecDepth 20000 in
theorem wX13_startSelf_0 {dn : Nat} {g : Nat → List Nat → rx_H → Option (Nat × rx_H)} (hZ : zO b e D A X) (hg : ∀ i y M, vl19[i]? = some (y, M) → rx_Met (zV b e D A X) dn y M (g i)) (hd : 333 ≤ dn) (j : Nat → rx_K) (hj : ∀ k pc, [2, 57][k]? = some pc → rx_OK (zV b e D A X) mX13_startSelf (dn + 1) pc (j k)) : rx_OK (zV b e D A X) mX13_startSelf (dn + 1) 0 (vX13_startSelf_0 g j) := by
  unfold vX13_startSelf_0
  refine s_iconst dX13_startSelf_0 (by decide +kernel) ?_
  refine s_istore_n hZ.1 dX13_startSelf_1 rfl (Nat.le_of_ble_eq_true rfl) ?_
  exact (wX13_startSelf_2 hZ hg hd j hj)
noncomputable def vhX13_startSelf (g : Nat → List Nat → rx_H → Option (Nat × rx_H)) (j : Nat → rx_K) : List rx_K := [vX13_startSelf_2 g j, vX13_startSelf_57 g j]
theorem vlX13_startSelf {dn : Nat} {g : Nat → List Nat → rx_H → Option (Nat × rx_H)} (hZ : zO b e D A X) (hg : ∀ i y M, vl19[i]? = some (y, M) → rx_Met (zV b e D A X) dn y M (g i)) (hd : 333 ≤ dn) : ∀ n k pc, [2, 57][k]? = some pc → rx_OK (zV b e D A X) mX13_startSelf (dn + 1) pc (rx_J (vhX13_startSelf g) n k) := rx_loop fun j hj k pc h => by
  match k, h with
  | 0, h =>
    have e9 := Option.some.inj (show some 2 = some pc from h)
    subst e9
    exact wX13_startSelf_2 hZ hg hd j hj
  | 1, h =>
    have e9 := Option.some.inj (show some 57 = some pc from h)
    subst e9
    exact wX13_startSelf_57 hZ hg hd j hj
  | _ + 2, h => exact absurd h (by simp)
noncomputable def FX13_startSelf (g : Nat → List Nat → rx_H → Option (Nat × rx_H)) : List Nat → rx_H → Option (Nat × rx_H) := rx_ent 6 (vX13_startSelf_0 g (rx_J (vhX13_startSelf g) 4000000000))
theorem Met_X13_startSelf {dn : Nat} {g : Nat → List Nat → rx_H → Option (Nat × rx_H)} (hZ : zO b e D A X) (hg : ∀ i y M, vl19[i]? = some (y, M) → rx_Met (zV b e D A X) dn y M (g i)) (hd : 333 ≤ dn) : rx_Met (zV b e D A X) (dn + 1) yX13_startSelf mX13_startSelf (FX13_startSelf g) := rx_entry hZ.1 (wX13_startSelf_0 hZ hg hd _ (vlX13_startSelf hZ hg hd 4000000000)) (by decide +kernel) rfl (fun h => by cases h)
noncomputable def q19 (n : Nat) : Nat → List Nat → rx_H → Option (Nat × rx_H) := Nat.rec (fun _ _ _ => none) (fun _ ih i => rx_nth [FX13_alongBridge ih, FX13_callBy ih, FX13_caught ih, FX13_eval ih, FX13_evalArgs ih, FX13_evalCall ih, FX13_evalNew ih, FX13_evalNode ih, FX13_exec ih, FX13_execOther ih, FX13_execPut ih, FX13_getStatic ih, FX13_invoke ih, FX13_runMaker ih, FX13_start ih, FX13_startFaces ih, FX13_startSelf ih] i (fun _ _ => none)) n
theorem q19_ok (hZ : zO b e D A X) : ∀ n i y M, vl19[i]? = some (y, M) → rx_Met (zV b e D A X) (333 + n) y M (q19 n i)
  | 0 => fun i y M _ As h r h2 hf => by cases hf
  | n + 1 => fun i y M h => by
    match i, h with
    | 0, h => cases h; exact Met_X13_alongBridge hZ (q19_ok hZ n) (Nat.le_add_right 333 n)
    | 1, h => cases h; exact Met_X13_callBy hZ (q19_ok hZ n) (Nat.le_add_right 333 n)
    | 2, h => cases h; exact Met_X13_caught hZ (q19_ok hZ n) (Nat.le_add_right 333 n)
    | 3, h => cases h; exact Met_X13_eval hZ (q19_ok hZ n) (Nat.le_add_right 333 n)
    | 4, h => cases h; exact Met_X13_evalArgs hZ (q19_ok hZ n) (Nat.le_add_right 333 n)
    | 5, h => cases h; exact Met_X13_evalCall hZ (q19_ok hZ n) (Nat.le_add_right 333 n)
    | 6, h => cases h; exact Met_X13_evalNew hZ (q19_ok hZ n) (Nat.le_add_right 333 n)
    | 7, h => cases h; exact Met_X13_evalNode hZ (q19_ok hZ n) (Nat.le_add_right 333 n)
    | 8, h => cases h; exact Met_X13_exec hZ (q19_ok hZ n) (Nat.le_add_right 333 n)
    | 9, h => cases h; exact Met_X13_execOther hZ (q19_ok hZ n) (Nat.le_add_right 333 n)
    | 10, h => cases h; exact Met_X13_execPut hZ (q19_ok hZ n) (Nat.le_add_right 333 n)
    | 11, h => cases h; exact Met_X13_getStatic hZ (q19_ok hZ n) (Nat.le_add_right 333 n)
    | 12, h => cases h; exact Met_X13_invoke hZ (q19_ok hZ n) (Nat.le_add_right 333 n)
    | 13, h => cases h; exact Met_X13_runMaker hZ (q19_ok hZ n) (Nat.le_add_right 333 n)
    | 14, h => cases h; exact Met_X13_start hZ (q19_ok hZ n) (Nat.le_add_right 333 n)
    | 15, h => cases h; exact Met_X13_startFaces hZ (q19_ok hZ n) (Nat.le_add_right 333 n)
    | 16, h => cases h; exact Met_X13_startSelf hZ (q19_ok hZ n) (Nat.le_add_right 333 n)
    | _ + 17, h => exact absurd h (by simp)
abbrev mX13_named : rx_M := (RX13, cX13_named, 10, (some .int), false)
theorem vy_X13_named : rx_Y (zV b e D A X) yX13_named mX13_named 0 := ⟨zw3813, zw431, by decide, by decide +kernel, by decide +kernel, by decide +kernel⟩
noncomputable def vX13_named_352 (j : Nat → rx_K) : rx_K := o_const 34359738352 (o_ret1 rx_isI)
set_option maxRecDepth 20000 in
theorem wX13_named_352 (hZ : zO b e D A X) (j : Nat → rx_K) (hj : ∀ k pc, [63, 162, 258][k]? = some pc → rx_OK (zV b e D A X) mX13_named 2 pc (j k)) : rx_OK (zV b e D A X) mX13_named 2 352 (vX13_named_352 j) := by
  unfold vX13_named_352
  refine s_bipush dX13_named_352 (by decide +kernel) ?_
  exact s_iret hZ.1 rfl dX13_named_354
noncomputable def vX13_named_346 (j : Nat → rx_K) : rx_K := o_inc 8 (1) ((j 2))
set_option maxRecDepth 20000 in
theorem wX13_named_346 (hZ : zO b e D A X) (j : Nat → rx_K) (hj : ∀ k pc, [63, 162, 258][k]? = some pc → rx_OK (zV b e D A X) mX13_named 2 pc (j k)) : rx_OK (zV b e D A X) mX13_named 2 346 (vX13_named_346 j) := by
  unfold vX13_named_346
  refine s_iinc hZ.1 dX13_named_346 (Nat.le_of_ble_eq_true rfl) ?_
  exact s_goto dX13_named_349 (by decide) (hj 2 258 rfl)
noncomputable def vX13_named_343 (j : Nat → rx_K) : rx_K := o_ld rx_isI 9 (o_ret1 rx_isI)
set_option maxRecDepth 20000 in
theorem wX13_named_343 (hZ : zO b e D A X) (j : Nat → rx_K) (hj : ∀ k pc, [63, 162, 258][k]? = some pc → rx_OK (zV b e D A X) mX13_named 2 pc (j k)) : rx_OK (zV b e D A X) mX13_named 2 343 (vX13_named_343 j) := by
  unfold vX13_named_343
  refine s_iload hZ.1 dX13_named_343 ?_
  exact s_iret hZ.1 rfl dX13_named_345
noncomputable def vX13_named_331 (j : Nat → rx_K) : rx_K := o_ld rx_isR 0 (o_getf 13 61 (o_ld rx_isI 9 (o_ald 0 (o_const 34359738352 (o_c2 rx_eq (vX13_named_346 j) (vX13_named_343 j))))))
set_option maxRecDepth 20000 in
theorem wX13_named_331 (hZ : zO b e D A X) (j : Nat → rx_K) (hj : ∀ k pc, [63, 162, 258][k]? = some pc → rx_OK (zV b e D A X) mX13_named 2 pc (j k)) : rx_OK (zV b e D A X) mX13_named 2 331 (vX13_named_331 j) := by
  unfold vX13_named_331
  refine s_aload_n hZ.1 dX13_named_331 rfl ?_
  refine yg13_61 dX13_named_332 zw4182 ?_
  refine s_iload hZ.1 dX13_named_335 ?_
  refine s_iald (tt := 0) rfl dX13_named_337 ?_
  refine s_bipush dX13_named_338 (by decide +kernel) ?_
  exact s_icmp_eq dX13_named_340 (by decide) (wX13_named_346 hZ j hj) (wX13_named_343 hZ j hj)
noncomputable def vX13_named_321 (j : Nat → rx_K) : rx_K := o_ld rx_isR 0 (o_getf 13 45 (o_ld rx_isI 9 (o_ald 3 (o_c1 rx_eq (vX13_named_346 j) (vX13_named_331 j)))))
set_option maxRecDepth 20000 in
theorem wX13_named_321 (hZ : zO b e D A X) (j : Nat → rx_K) (hj : ∀ k pc, [63, 162, 258][k]? = some pc → rx_OK (zV b e D A X) mX13_named 2 pc (j k)) : rx_OK (zV b e D A X) mX13_named 2 321 (vX13_named_321 j) := by
  unfold vX13_named_321
  refine s_aload_n hZ.1 dX13_named_321 rfl ?_
  refine yg13_45 dX13_named_322 zw4166 ?_
  refine s_iload hZ.1 dX13_named_325 ?_
  refine s_zald (tt := 3) rfl dX13_named_327 ?_
  exact s_if_eq dX13_named_328 (by decide) (wX13_named_346 hZ j hj) (wX13_named_331 hZ j hj)
noncomputable def vX13_named_311 (j : Nat → rx_K) : rx_K := o_ld rx_isR 0 (o_getf 13 55 (o_ld rx_isI 9 (o_ald 0 (o_c1 rx_eq (vX13_named_321 j) (vX13_named_346 j)))))
set_option maxRecDepth 20000 in
theorem wX13_named_311 (hZ : zO b e D A X) (j : Nat → rx_K) (hj : ∀ k pc, [63, 162, 258][k]? = some pc → rx_OK (zV b e D A X) mX13_named 2 pc (j k)) : rx_OK (zV b e D A X) mX13_named 2 311 (vX13_named_311 j) := by
  unfold vX13_named_311
  refine s_aload_n hZ.1 dX13_named_311 rfl ?_
  refine yg13_55 dX13_named_312 zw4176 ?_
  refine s_iload hZ.1 dX13_named_315 ?_
  refine s_iald (tt := 0) rfl dX13_named_317 ?_
  exact s_if_ne dX13_named_318 (by decide) (wX13_named_346 hZ j hj) (wX13_named_321 hZ j hj)
noncomputable def vX13_named_298 (j : Nat → rx_K) : rx_K := o_ld rx_isR 0 (o_getf 13 51 (o_ld rx_isI 9 (o_ald 1 (o_ld rx_isL 5 (o_bc (fun x y => lg_cmp x y) (o_c1 rx_eq (vX13_named_311 j) (vX13_named_346 j)))))))
set_option maxRecDepth 20000 in
theorem wX13_named_298 (hZ : zO b e D A X) (j : Nat → rx_K) (hj : ∀ k pc, [63, 162, 258][k]? = some pc → rx_OK (zV b e D A X) mX13_named 2 pc (j k)) : rx_OK (zV b e D A X) mX13_named 2 298 (vX13_named_298 j) := by
  unfold vX13_named_298
  refine s_aload_n hZ.1 dX13_named_298 rfl ?_
  refine yg13_51 dX13_named_299 zw4172 ?_
  refine s_iload hZ.1 dX13_named_302 ?_
  refine s_lald (tt := 1) rfl dX13_named_304 ?_
  refine s_lload hZ.1 dX13_named_305 ?_
  refine s_lcmp dX13_named_307 ?_
  exact s_if_ne dX13_named_308 (by decide) (wX13_named_346 hZ j hj) (wX13_named_311 hZ j hj)
noncomputable def vX13_named_277 (j : Nat → rx_K) : rx_K := o_ld rx_isI 7 (o_const 272 (o_bi (fun x y => x * y) (o_ld rx_isI 8 (o_bi (fun x y => x + y) (o_st rx_isI 9 (o_ld rx_isR 0 (o_getf 13 42 (o_ld rx_isI 9 (o_ald 0 (o_const 8 (o_c2 rx_eq (vX13_named_298 j) (vX13_named_346 j))))))))))))
set_option maxRecDepth 20000 in
theorem wX13_named_277 (hZ : zO b e D A X) (j : Nat → rx_K) (hj : ∀ k pc, [63, 162, 258][k]? = some pc → rx_OK (zV b e D A X) mX13_named 2 pc (j k)) : rx_OK (zV b e D A X) mX13_named 2 277 (vX13_named_277 j) := by
  unfold vX13_named_277
  refine s_iload hZ.1 dX13_named_277 ?_
  refine s_bipush dX13_named_279 (by decide +kernel) ?_
  refine s_imul dX13_named_281 ?_
  refine s_iload hZ.1 dX13_named_282 ?_
  refine s_iadd dX13_named_284 ?_
  refine s_istore hZ.1 dX13_named_285 (Nat.le_of_ble_eq_true rfl) ?_
  refine s_aload_n hZ.1 dX13_named_287 rfl ?_
  refine yg13_42 dX13_named_288 zw4163 ?_
  refine s_iload hZ.1 dX13_named_291 ?_
  refine s_iald (tt := 0) rfl dX13_named_293 ?_
  refine s_iconst dX13_named_294 (by decide +kernel) ?_
  exact s_icmp_ne dX13_named_295 (by decide) (wX13_named_346 hZ j hj) (wX13_named_298 hZ j hj)
noncomputable def vX13_named_265 (j : Nat → rx_K) : rx_K := o_ld rx_isI 8 (o_ld rx_isR 0 (o_getf 13 41 (o_ld rx_isI 7 (o_ald 0 (o_c2 rx_lt (vX13_named_277 j) (vX13_named_352 j))))))
set_option maxRecDepth 20000 in
theorem wX13_named_265 (hZ : zO b e D A X) (j : Nat → rx_K) (hj : ∀ k pc, [63, 162, 258][k]? = some pc → rx_OK (zV b e D A X) mX13_named 2 pc (j k)) : rx_OK (zV b e D A X) mX13_named 2 265 (vX13_named_265 j) := by
  unfold vX13_named_265
  refine s_iload hZ.1 dX13_named_265 ?_
  refine s_aload_n hZ.1 dX13_named_267 rfl ?_
  refine yg13_41 dX13_named_268 zw4162 ?_
  refine s_iload hZ.1 dX13_named_271 ?_
  refine s_iald (tt := 0) rfl dX13_named_273 ?_
  exact s_icmp_ge dX13_named_274 (by decide) (wX13_named_352 hZ j hj) (wX13_named_277 hZ j hj)
noncomputable def vX13_named_258 (j : Nat → rx_K) : rx_K := o_ld rx_isI 7 (o_const 34359738352 (o_c2 rx_eq (vX13_named_352 j) (vX13_named_265 j)))
set_option maxRecDepth 20000 in
theorem wX13_named_258 (hZ : zO b e D A X) (j : Nat → rx_K) (hj : ∀ k pc, [63, 162, 258][k]? = some pc → rx_OK (zV b e D A X) mX13_named 2 pc (j k)) : rx_OK (zV b e D A X) mX13_named 2 258 (vX13_named_258 j) := by
  unfold vX13_named_258
  refine s_iload hZ.1 dX13_named_258 ?_
  refine s_bipush dX13_named_260 (by decide +kernel) ?_
  exact s_icmp_eq dX13_named_262 (by decide) (wX13_named_352 hZ j hj) (wX13_named_265 hZ j hj)
noncomputable def vX13_named_253 (j : Nat → rx_K) : rx_K := o_st rx_isI 7 (o_const 0 (o_st rx_isI 8 ((vX13_named_258 j))))
set_option maxRecDepth 20000 in
theorem wX13_named_253 (hZ : zO b e D A X) (j : Nat → rx_K) (hj : ∀ k pc, [63, 162, 258][k]? = some pc → rx_OK (zV b e D A X) mX13_named 2 pc (j k)) : rx_OK (zV b e D A X) mX13_named 2 253 (vX13_named_253 j) := by
  unfold vX13_named_253
  refine s_istore hZ.1 dX13_named_253 (Nat.le_of_ble_eq_true rfl) ?_
  refine s_iconst dX13_named_255 (by decide +kernel) ?_
  refine s_istore hZ.1 dX13_named_256 (Nat.le_of_ble_eq_true rfl) ?_
  exact (wX13_named_258 hZ j hj)
noncomputable def vX13_named_244 (j : Nat → rx_K) : rx_K := o_ld rx_isR 0 (o_ld rx_isL 3 (o_const 18446744073709551617 (o_bl (fun x y => x ||| y) (o_callV 1 13 FX13_find ((vX13_named_253 j))))))
set_option maxRecDepth 20000 in
theorem wX13_named_244 (hZ : zO b e D A X) (j : Nat → rx_K) (hj : ∀ k pc, [63, 162, 258][k]? = some pc → rx_OK (zV b e D A X) mX13_named 2 pc (j k)) : rx_OK (zV b e D A X) mX13_named 2 244 (vX13_named_244 j) := by
  unfold vX13_named_244
  refine s_aload_n hZ.1 dX13_named_244 rfl ?_
  refine s_lload_n hZ.1 dX13_named_245 rfl ?_
  refine s_ldc2 dX13_named_246 zw2959 (by decide +kernel) ?_
  refine s_lor dX13_named_249 ?_
  refine s_callV hZ.1 (Met_X13_find hZ) (Nat.le_of_ble_eq_true rfl) vy_X13_find zcl13 zw3186 zw226 (Or.inl zw3184) dX13_named_250 ?_
  exact (wX13_named_253 hZ j hj)
noncomputable def vX13_named_239 (j : Nat → rx_K) : rx_K := o_const 34359738352 ((vX13_named_253 j))
set_option maxRecDepth 20000 in
theorem wX13_named_239 (hZ : zO b e D A X) (j : Nat → rx_K) (hj : ∀ k pc, [63, 162, 258][k]? = some pc → rx_OK (zV b e D A X) mX13_named 2 pc (j k)) : rx_OK (zV b e D A X) mX13_named 2 239 (vX13_named_239 j) := by
  unfold vX13_named_239
  refine s_bipush dX13_named_239 (by decide +kernel) ?_
  exact s_goto dX13_named_241 (by decide) (wX13_named_253 hZ j hj)
noncomputable def vX13_named_230 (j : Nat → rx_K) : rx_K := o_ld rx_isR 0 (o_ld rx_isL 5 (o_callV 1 13 FX13_isWord (o_c1 rx_eq (vX13_named_244 j) (vX13_named_239 j))))
set_option maxRecDepth 20000 in
theorem wX13_named_230 (hZ : zO b e D A X) (j : Nat → rx_K) (hj : ∀ k pc, [63, 162, 258][k]? = some pc → rx_OK (zV b e D A X) mX13_named 2 pc (j k)) : rx_OK (zV b e D A X) mX13_named 2 230 (vX13_named_230 j) := by
  unfold vX13_named_230
  refine s_aload_n hZ.1 dX13_named_230 rfl ?_
  refine s_lload hZ.1 dX13_named_231 ?_
  refine s_callV hZ.1 (Met_X13_isWord hZ) (Nat.le_of_ble_eq_true rfl) vy_X13_isWord zcl13 zw2962 zw181 (Or.inl zw2960) dX13_named_233 ?_
  exact s_if_eq dX13_named_236 (by decide) (wX13_named_244 hZ j hj) (wX13_named_239 hZ j hj)
noncomputable def vX13_named_222 (j : Nat → rx_K) : rx_K := o_ld rx_isI 2 (o_ld rx_isI 1 (o_bi (fun x y => x - y) (o_const 88 (o_c2 (fun h x y => rx_lt h y x) (vX13_named_239 j) (vX13_named_230 j)))))
set_option maxRecDepth 20000 in
theorem wX13_named_222 (hZ : zO b e D A X) (j : Nat → rx_K) (hj : ∀ k pc, [63, 162, 258][k]? = some pc → rx_OK (zV b e D A X) mX13_named 2 pc (j k)) : rx_OK (zV b e D A X) mX13_named 2 222 (vX13_named_222 j) := by
  unfold vX13_named_222
  refine s_iload_n hZ.1 dX13_named_222 rfl ?_
  refine s_iload_n hZ.1 dX13_named_223 rfl ?_
  refine s_isub dX13_named_224 ?_
  refine s_bipush dX13_named_225 (by decide +kernel) ?_
  exact s_icmp_gt dX13_named_227 (by decide) (wX13_named_239 hZ j hj) (wX13_named_230 hZ j hj)
noncomputable def vX13_named_214 (j : Nat → rx_K) : rx_K := o_ld rx_isI 2 (o_ld rx_isR 0 (o_getf 13 1 (o_c2 rx_lt (vX13_named_239 j) (vX13_named_222 j))))
set_option maxRecDepth 20000 in
theorem wX13_named_214 (hZ : zO b e D A X) (j : Nat → rx_K) (hj : ∀ k pc, [63, 162, 258][k]? = some pc → rx_OK (zV b e D A X) mX13_named 2 pc (j k)) : rx_OK (zV b e D A X) mX13_named 2 214 (vX13_named_214 j) := by
  unfold vX13_named_214
  refine s_iload_n hZ.1 dX13_named_214 rfl ?_
  refine s_aload_n hZ.1 dX13_named_215 rfl ?_
  refine yg13_1 dX13_named_216 zw4122 ?_
  exact s_icmp_lt dX13_named_219 (by decide) (wX13_named_239 hZ j hj) (wX13_named_222 hZ j hj)
noncomputable def vX13_named_190 (j : Nat → rx_K) : rx_K := o_ld rx_isL 5 (o_const 48 (o_bs (fun x y => x <<< (y.toInt64 &&& 63)) (o_ld rx_isR 0 (o_getf 13 0 (o_ld rx_isI 2 (o_ald 0 (o_callS 1 FX13_sym (o_il (fun x => x.toInt64) (o_bl (fun x y => x ||| y) (o_stL 5 (o_inc 2 (1) ((j 1)))))))))))))
set_option maxRecDepth 20000 in
theorem wX13_named_190 (hZ : zO b e D A X) (j : Nat → rx_K) (hj : ∀ k pc, [63, 162, 258][k]? = some pc → rx_OK (zV b e D A X) mX13_named 2 pc (j k)) : rx_OK (zV b e D A X) mX13_named 2 190 (vX13_named_190 j) := by
  unfold vX13_named_190
  refine s_lload hZ.1 dX13_named_190 ?_
  refine s_bipush dX13_named_192 (by decide +kernel) ?_
  refine s_lshl dX13_named_194 ?_
  refine s_aload_n hZ.1 dX13_named_195 rfl ?_
  refine yg13_0 dX13_named_196 zw4121 ?_
  refine s_iload_n hZ.1 dX13_named_199 rfl ?_
  refine s_iald (tt := 0) rfl dX13_named_200 ?_
  refine s_callS hZ.1 (Met_X13_sym hZ) (Nat.le_of_ble_eq_true rfl) vy_X13_sym zw2957 (Or.inl zw2956) dX13_named_201 ?_
  refine s_i2l dX13_named_204 ?_
  refine s_lor dX13_named_205 ?_
  refine s_lstore hZ.1 dX13_named_206 (Nat.le_of_ble_eq_true rfl) ?_
  refine s_iinc hZ.1 dX13_named_208 (Nat.le_of_ble_eq_true rfl) ?_
  exact s_goto dX13_named_211 (by decide) (hj 1 162 rfl)
noncomputable def vX13_named_182 (j : Nat → rx_K) : rx_K := o_ld rx_isI 2 (o_ld rx_isI 1 (o_bi (fun x y => x - y) (o_const 96 (o_c2 rx_lt (vX13_named_190 j) (vX13_named_214 j)))))
set_option maxRecDepth 20000 in
theorem wX13_named_182 (hZ : zO b e D A X) (j : Nat → rx_K) (hj : ∀ k pc, [63, 162, 258][k]? = some pc → rx_OK (zV b e D A X) mX13_named 2 pc (j k)) : rx_OK (zV b e D A X) mX13_named 2 182 (vX13_named_182 j) := by
  unfold vX13_named_182
  refine s_iload_n hZ.1 dX13_named_182 rfl ?_
  refine s_iload_n hZ.1 dX13_named_183 rfl ?_
  refine s_isub dX13_named_184 ?_
  refine s_bipush dX13_named_185 (by decide +kernel) ?_
  exact s_icmp_ge dX13_named_187 (by decide) (wX13_named_214 hZ j hj) (wX13_named_190 hZ j hj)
noncomputable def vX13_named_170 (j : Nat → rx_K) : rx_K := o_ld rx_isR 0 (o_getf 13 0 (o_ld rx_isI 2 (o_ald 0 (o_callS 1 FX13_sym (o_c1 rx_eq (vX13_named_214 j) (vX13_named_182 j))))))
set_option maxRecDepth 20000 in
theorem wX13_named_170 (hZ : zO b e D A X) (j : Nat → rx_K) (hj : ∀ k pc, [63, 162, 258][k]? = some pc → rx_OK (zV b e D A X) mX13_named 2 pc (j k)) : rx_OK (zV b e D A X) mX13_named 2 170 (vX13_named_170 j) := by
  unfold vX13_named_170
  refine s_aload_n hZ.1 dX13_named_170 rfl ?_
  refine yg13_0 dX13_named_171 zw4121 ?_
  refine s_iload_n hZ.1 dX13_named_174 rfl ?_
  refine s_iald (tt := 0) rfl dX13_named_175 ?_
  refine s_callS hZ.1 (Met_X13_sym hZ) (Nat.le_of_ble_eq_true rfl) vy_X13_sym zw2957 (Or.inl zw2956) dX13_named_176 ?_
  exact s_if_eq dX13_named_179 (by decide) (wX13_named_214 hZ j hj) (wX13_named_182 hZ j hj)
noncomputable def vX13_named_162 (j : Nat → rx_K) : rx_K := o_ld rx_isI 2 (o_ld rx_isR 0 (o_getf 13 1 (o_c2 rx_lt (vX13_named_170 j) (vX13_named_214 j))))
set_option maxRecDepth 20000 in
theorem wX13_named_162 (hZ : zO b e D A X) (j : Nat → rx_K) (hj : ∀ k pc, [63, 162, 258][k]? = some pc → rx_OK (zV b e D A X) mX13_named 2 pc (j k)) : rx_OK (zV b e D A X) mX13_named 2 162 (vX13_named_162 j) := by
  unfold vX13_named_162
  refine s_iload_n hZ.1 dX13_named_162 rfl ?_
  refine s_aload_n hZ.1 dX13_named_163 rfl ?_
  refine yg13_1 dX13_named_164 zw4122 ?_
  exact s_icmp_ge dX13_named_167 (by decide) (wX13_named_214 hZ j hj) (wX13_named_170 hZ j hj)
noncomputable def vX13_named_155 (j : Nat → rx_K) : rx_K := o_ld rx_isI 1 (o_const 8 (o_bi (fun x y => x + y) (o_st rx_isI 2 (o_const 1 (o_stL 5 ((vX13_named_162 j)))))))
set_option maxRecDepth 20000 in
theorem wX13_named_155 (hZ : zO b e D A X) (j : Nat → rx_K) (hj : ∀ k pc, [63, 162, 258][k]? = some pc → rx_OK (zV b e D A X) mX13_named 2 pc (j k)) : rx_OK (zV b e D A X) mX13_named 2 155 (vX13_named_155 j) := by
  unfold vX13_named_155
  refine s_iload_n hZ.1 dX13_named_155 rfl ?_
  refine s_iconst dX13_named_156 (by decide +kernel) ?_
  refine s_iadd dX13_named_157 ?_
  refine s_istore_n hZ.1 dX13_named_158 rfl (Nat.le_of_ble_eq_true rfl) ?_
  refine s_lconst dX13_named_159 (by decide +kernel) ?_
  refine s_lstore hZ.1 dX13_named_160 (Nat.le_of_ble_eq_true rfl) ?_
  exact (wX13_named_162 hZ j hj)
noncomputable def vX13_named_152 (j : Nat → rx_K) : rx_K := o_const 34359738352 (o_ret1 rx_isI)
set_option maxRecDepth 20000 in
theorem wX13_named_152 (hZ : zO b e D A X) (j : Nat → rx_K) (hj : ∀ k pc, [63, 162, 258][k]? = some pc → rx_OK (zV b e D A X) mX13_named 2 pc (j k)) : rx_OK (zV b e D A X) mX13_named 2 152 (vX13_named_152 j) := by
  unfold vX13_named_152
  refine s_bipush dX13_named_152 (by decide +kernel) ?_
  exact s_iret hZ.1 rfl dX13_named_154
noncomputable def vX13_named_138 (j : Nat → rx_K) : rx_K := o_ld rx_isR 0 (o_getf 13 0 (o_ld rx_isI 1 (o_const 8 (o_bi (fun x y => x + y) (o_ald 0 (o_callS 1 FX13_isSmall (o_c1 rx_eq (vX13_named_152 j) (vX13_named_155 j))))))))
set_option maxRecDepth 20000 in
theorem wX13_named_138 (hZ : zO b e D A X) (j : Nat → rx_K) (hj : ∀ k pc, [63, 162, 258][k]? = some pc → rx_OK (zV b e D A X) mX13_named 2 pc (j k)) : rx_OK (zV b e D A X) mX13_named 2 138 (vX13_named_138 j) := by
  unfold vX13_named_138
  refine s_aload_n hZ.1 dX13_named_138 rfl ?_
  refine yg13_0 dX13_named_139 zw4121 ?_
  refine s_iload_n hZ.1 dX13_named_142 rfl ?_
  refine s_iconst dX13_named_143 (by decide +kernel) ?_
  refine s_iadd dX13_named_144 ?_
  refine s_iald (tt := 0) rfl dX13_named_145 ?_
  refine s_callS hZ.1 (Met_X13_isSmall hZ) (Nat.le_of_ble_eq_true rfl) vy_X13_isSmall zw2947 (Or.inl zw2946) dX13_named_146 ?_
  exact s_if_ne dX13_named_149 (by decide) (wX13_named_155 hZ j hj) (wX13_named_152 hZ j hj)
noncomputable def vX13_named_127 (j : Nat → rx_K) : rx_K := o_ld rx_isR 0 (o_getf 13 0 (o_ld rx_isI 1 (o_ald 0 (o_const 368 (o_c2 rx_eq (vX13_named_138 j) (vX13_named_152 j))))))
set_option maxRecDepth 20000 in
theorem wX13_named_127 (hZ : zO b e D A X) (j : Nat → rx_K) (hj : ∀ k pc, [63, 162, 258][k]? = some pc → rx_OK (zV b e D A X) mX13_named 2 pc (j k)) : rx_OK (zV b e D A X) mX13_named 2 127 (vX13_named_127 j) := by
  unfold vX13_named_127
  refine s_aload_n hZ.1 dX13_named_127 rfl ?_
  refine yg13_0 dX13_named_128 zw4121 ?_
  refine s_iload_n hZ.1 dX13_named_131 rfl ?_
  refine s_iald (tt := 0) rfl dX13_named_132 ?_
  refine s_bipush dX13_named_133 (by decide +kernel) ?_
  exact s_icmp_ne dX13_named_135 (by decide) (wX13_named_152 hZ j hj) (wX13_named_138 hZ j hj)
noncomputable def vX13_named_117 (j : Nat → rx_K) : rx_K := o_ld rx_isI 1 (o_const 8 (o_bi (fun x y => x + y) (o_ld rx_isR 0 (o_getf 13 1 (o_c2 rx_lt (vX13_named_127 j) (vX13_named_152 j))))))
set_option maxRecDepth 20000 in
theorem wX13_named_117 (hZ : zO b e D A X) (j : Nat → rx_K) (hj : ∀ k pc, [63, 162, 258][k]? = some pc → rx_OK (zV b e D A X) mX13_named 2 pc (j k)) : rx_OK (zV b e D A X) mX13_named 2 117 (vX13_named_117 j) := by
  unfold vX13_named_117
  refine s_iload_n hZ.1 dX13_named_117 rfl ?_
  refine s_iconst dX13_named_118 (by decide +kernel) ?_
  refine s_iadd dX13_named_119 ?_
  refine s_aload_n hZ.1 dX13_named_120 rfl ?_
  refine yg13_1 dX13_named_121 zw4122 ?_
  exact s_icmp_ge dX13_named_124 (by decide) (wX13_named_152 hZ j hj) (wX13_named_127 hZ j hj)
noncomputable def vX13_named_111 (j : Nat → rx_K) : rx_K := o_ld rx_isI 1 (o_const 88 (o_c2 (fun h x y => rx_lt h y x) (vX13_named_152 j) (vX13_named_117 j)))
set_option maxRecDepth 20000 in
theorem wX13_named_111 (hZ : zO b e D A X) (j : Nat → rx_K) (hj : ∀ k pc, [63, 162, 258][k]? = some pc → rx_OK (zV b e D A X) mX13_named 2 pc (j k)) : rx_OK (zV b e D A X) mX13_named 2 111 (vX13_named_111 j) := by
  unfold vX13_named_111
  refine s_iload_n hZ.1 dX13_named_111 rfl ?_
  refine s_bipush dX13_named_112 (by decide +kernel) ?_
  exact s_icmp_gt dX13_named_114 (by decide) (wX13_named_152 hZ j hj) (wX13_named_117 hZ j hj)
noncomputable def vX13_named_89 (j : Nat → rx_K) : rx_K := o_ld rx_isL 3 (o_const 48 (o_bs (fun x y => x <<< (y.toInt64 &&& 63)) (o_ld rx_isR 0 (o_getf 13 0 (o_ld rx_isI 1 (o_ald 0 (o_callS 1 FX13_sym (o_il (fun x => x.toInt64) (o_bl (fun x y => x ||| y) (o_stL 3 (o_inc 1 (1) ((j 0)))))))))))))
set_option maxRecDepth 20000 in
theorem wX13_named_89 (hZ : zO b e D A X) (j : Nat → rx_K) (hj : ∀ k pc, [63, 162, 258][k]? = some pc → rx_OK (zV b e D A X) mX13_named 2 pc (j k)) : rx_OK (zV b e D A X) mX13_named 2 89 (vX13_named_89 j) := by
  unfold vX13_named_89
  refine s_lload_n hZ.1 dX13_named_89 rfl ?_
  refine s_bipush dX13_named_90 (by decide +kernel) ?_
  refine s_lshl dX13_named_92 ?_
  refine s_aload_n hZ.1 dX13_named_93 rfl ?_
  refine yg13_0 dX13_named_94 zw4121 ?_
  refine s_iload_n hZ.1 dX13_named_97 rfl ?_
  refine s_iald (tt := 0) rfl dX13_named_98 ?_
  refine s_callS hZ.1 (Met_X13_sym hZ) (Nat.le_of_ble_eq_true rfl) vy_X13_sym zw2957 (Or.inl zw2956) dX13_named_99 ?_
  refine s_i2l dX13_named_102 ?_
  refine s_lor dX13_named_103 ?_
  refine s_lstore_n hZ.1 dX13_named_104 rfl (Nat.le_of_ble_eq_true rfl) ?_
  refine s_iinc hZ.1 dX13_named_105 (Nat.le_of_ble_eq_true rfl) ?_
  exact s_goto dX13_named_108 (by decide) (hj 0 63 rfl)
noncomputable def vX13_named_83 (j : Nat → rx_K) : rx_K := o_ld rx_isI 1 (o_const 96 (o_c2 rx_lt (vX13_named_89 j) (vX13_named_111 j)))
set_option maxRecDepth 20000 in
theorem wX13_named_83 (hZ : zO b e D A X) (j : Nat → rx_K) (hj : ∀ k pc, [63, 162, 258][k]? = some pc → rx_OK (zV b e D A X) mX13_named 2 pc (j k)) : rx_OK (zV b e D A X) mX13_named 2 83 (vX13_named_83 j) := by
  unfold vX13_named_83
  refine s_iload_n hZ.1 dX13_named_83 rfl ?_
  refine s_bipush dX13_named_84 (by decide +kernel) ?_
  exact s_icmp_ge dX13_named_86 (by decide) (wX13_named_111 hZ j hj) (wX13_named_89 hZ j hj)
noncomputable def vX13_named_71 (j : Nat → rx_K) : rx_K := o_ld rx_isR 0 (o_getf 13 0 (o_ld rx_isI 1 (o_ald 0 (o_callS 1 FX13_sym (o_c1 rx_eq (vX13_named_111 j) (vX13_named_83 j))))))
set_option maxRecDepth 20000 in
theorem wX13_named_71 (hZ : zO b e D A X) (j : Nat → rx_K) (hj : ∀ k pc, [63, 162, 258][k]? = some pc → rx_OK (zV b e D A X) mX13_named 2 pc (j k)) : rx_OK (zV b e D A X) mX13_named 2 71 (vX13_named_71 j) := by
  unfold vX13_named_71
  refine s_aload_n hZ.1 dX13_named_71 rfl ?_
  refine yg13_0 dX13_named_72 zw4121 ?_
  refine s_iload_n hZ.1 dX13_named_75 rfl ?_
  refine s_iald (tt := 0) rfl dX13_named_76 ?_
  refine s_callS hZ.1 (Met_X13_sym hZ) (Nat.le_of_ble_eq_true rfl) vy_X13_sym zw2957 (Or.inl zw2956) dX13_named_77 ?_
  exact s_if_eq dX13_named_80 (by decide) (wX13_named_111 hZ j hj) (wX13_named_83 hZ j hj)
noncomputable def vX13_named_63 (j : Nat → rx_K) : rx_K := o_ld rx_isI 1 (o_ld rx_isR 0 (o_getf 13 1 (o_c2 rx_lt (vX13_named_71 j) (vX13_named_111 j))))
set_option maxRecDepth 20000 in
theorem wX13_named_63 (hZ : zO b e D A X) (j : Nat → rx_K) (hj : ∀ k pc, [63, 162, 258][k]? = some pc → rx_OK (zV b e D A X) mX13_named 2 pc (j k)) : rx_OK (zV b e D A X) mX13_named 2 63 (vX13_named_63 j) := by
  unfold vX13_named_63
  refine s_iload_n hZ.1 dX13_named_63 rfl ?_
  refine s_aload_n hZ.1 dX13_named_64 rfl ?_
  refine yg13_1 dX13_named_65 zw4122 ?_
  exact s_icmp_ge dX13_named_68 (by decide) (wX13_named_111 hZ j hj) (wX13_named_71 hZ j hj)
noncomputable def vX13_named_50 (j : Nat → rx_K) : rx_K := o_ld rx_isR 0 (o_getf 13 0 (o_const 0 (o_ald 0 (o_callS 1 FX13_sym (o_il (fun x => x.toInt64) (o_stL 3 (o_const 16 (o_st rx_isI 1 ((vX13_named_63 j))))))))))
set_option maxRecDepth 20000 in
theorem wX13_named_50 (hZ : zO b e D A X) (j : Nat → rx_K) (hj : ∀ k pc, [63, 162, 258][k]? = some pc → rx_OK (zV b e D A X) mX13_named 2 pc (j k)) : rx_OK (zV b e D A X) mX13_named 2 50 (vX13_named_50 j) := by
  unfold vX13_named_50
  refine s_aload_n hZ.1 dX13_named_50 rfl ?_
  refine yg13_0 dX13_named_51 zw4121 ?_
  refine s_iconst dX13_named_54 (by decide +kernel) ?_
  refine s_iald (tt := 0) rfl dX13_named_55 ?_
  refine s_callS hZ.1 (Met_X13_sym hZ) (Nat.le_of_ble_eq_true rfl) vy_X13_sym zw2957 (Or.inl zw2956) dX13_named_56 ?_
  refine s_i2l dX13_named_59 ?_
  refine s_lstore_n hZ.1 dX13_named_60 rfl (Nat.le_of_ble_eq_true rfl) ?_
  refine s_iconst dX13_named_61 (by decide +kernel) ?_
  refine s_istore_n hZ.1 dX13_named_62 rfl (Nat.le_of_ble_eq_true rfl) ?_
  exact (wX13_named_63 hZ j hj)
noncomputable def vX13_named_47 (j : Nat → rx_K) : rx_K := o_const 34359738352 (o_ret1 rx_isI)
set_option maxRecDepth 20000 in
theorem wX13_named_47 (hZ : zO b e D A X) (j : Nat → rx_K) (hj : ∀ k pc, [63, 162, 258][k]? = some pc → rx_OK (zV b e D A X) mX13_named 2 pc (j k)) : rx_OK (zV b e D A X) mX13_named 2 47 (vX13_named_47 j) := by
  unfold vX13_named_47
  refine s_bipush dX13_named_47 (by decide +kernel) ?_
  exact s_iret hZ.1 rfl dX13_named_49
noncomputable def vX13_named_35 (j : Nat → rx_K) : rx_K := o_ld rx_isR 0 (o_getf 13 0 (o_const 16 (o_ald 0 (o_callS 1 FX13_isGreat (o_c1 rx_eq (vX13_named_47 j) (vX13_named_50 j))))))
set_option maxRecDepth 20000 in
theorem wX13_named_35 (hZ : zO b e D A X) (j : Nat → rx_K) (hj : ∀ k pc, [63, 162, 258][k]? = some pc → rx_OK (zV b e D A X) mX13_named 2 pc (j k)) : rx_OK (zV b e D A X) mX13_named 2 35 (vX13_named_35 j) := by
  unfold vX13_named_35
  refine s_aload_n hZ.1 dX13_named_35 rfl ?_
  refine yg13_0 dX13_named_36 zw4121 ?_
  refine s_iconst dX13_named_39 (by decide +kernel) ?_
  refine s_iald (tt := 0) rfl dX13_named_40 ?_
  refine s_callS hZ.1 (Met_X13_isGreat hZ) (Nat.le_of_ble_eq_true rfl) vy_X13_isGreat zw2950 (Or.inl zw2949) dX13_named_41 ?_
  exact s_if_ne dX13_named_44 (by decide) (wX13_named_50 hZ j hj) (wX13_named_47 hZ j hj)
noncomputable def vX13_named_24 (j : Nat → rx_K) : rx_K := o_ld rx_isR 0 (o_getf 13 0 (o_const 8 (o_ald 0 (o_const 368 (o_c2 rx_eq (vX13_named_35 j) (vX13_named_47 j))))))
set_option maxRecDepth 20000 in
theorem wX13_named_24 (hZ : zO b e D A X) (j : Nat → rx_K) (hj : ∀ k pc, [63, 162, 258][k]? = some pc → rx_OK (zV b e D A X) mX13_named 2 pc (j k)) : rx_OK (zV b e D A X) mX13_named 2 24 (vX13_named_24 j) := by
  unfold vX13_named_24
  refine s_aload_n hZ.1 dX13_named_24 rfl ?_
  refine yg13_0 dX13_named_25 zw4121 ?_
  refine s_iconst dX13_named_28 (by decide +kernel) ?_
  refine s_iald (tt := 0) rfl dX13_named_29 ?_
  refine s_bipush dX13_named_30 (by decide +kernel) ?_
  exact s_icmp_ne dX13_named_32 (by decide) (wX13_named_47 hZ j hj) (wX13_named_35 hZ j hj)
noncomputable def vX13_named_12 (j : Nat → rx_K) : rx_K := o_ld rx_isR 0 (o_getf 13 0 (o_const 0 (o_ald 0 (o_callS 1 FX13_isSmall (o_c1 rx_eq (vX13_named_47 j) (vX13_named_24 j))))))
set_option maxRecDepth 20000 in
theorem wX13_named_12 (hZ : zO b e D A X) (j : Nat → rx_K) (hj : ∀ k pc, [63, 162, 258][k]? = some pc → rx_OK (zV b e D A X) mX13_named 2 pc (j k)) : rx_OK (zV b e D A X) mX13_named 2 12 (vX13_named_12 j) := by
  unfold vX13_named_12
  refine s_aload_n hZ.1 dX13_named_12 rfl ?_
  refine yg13_0 dX13_named_13 zw4121 ?_
  refine s_iconst dX13_named_16 (by decide +kernel) ?_
  refine s_iald (tt := 0) rfl dX13_named_17 ?_
  refine s_callS hZ.1 (Met_X13_isSmall hZ) (Nat.le_of_ble_eq_true rfl) vy_X13_isSmall zw2947 (Or.inl zw2946) dX13_named_18 ?_
  exact s_if_eq dX13_named_21 (by decide) (wX13_named_47 hZ j hj) (wX13_named_24 hZ j hj)
noncomputable def vX13_named_0 (j : Nat → rx_K) : rx_K := o_const 0 (o_st rx_isI 1 (o_const 0 (o_st rx_isI 2 (o_ld rx_isR 0 (o_getf 13 1 (o_const 40 (o_c2 rx_lt (vX13_named_47 j) (vX13_named_12 j))))))))
set_option maxRecDepth 20000 in
theorem wX13_named_0 (hZ : zO b e D A X) (j : Nat → rx_K) (hj : ∀ k pc, [63, 162, 258][k]? = some pc → rx_OK (zV b e D A X) mX13_named 2 pc (j k)) : rx_OK (zV b e D A X) mX13_named 2 0 (vX13_named_0 j) := by
  unfold vX13_named_0
  refine s_iconst dX13_named_0 (by decide +kernel) ?_
  refine s_istore_n hZ.1 dX13_named_1 rfl (Nat.le_of_ble_eq_true rfl) ?_
  refine s_iconst dX13_named_2 (by decide +kernel) ?_
  refine s_istore_n hZ.1 dX13_named_3 rfl (Nat.le_of_ble_eq_true rfl) ?_
  refine s_aload_n hZ.1 dX13_named_4 rfl ?_
  refine yg13_1 dX13_named_5 zw4122 ?_
  refine s_iconst dX13_named_8 (by decide +kernel) ?_
  exact s_icmp_lt dX13_named_9 (by decide) (wX13_named_47 hZ j hj) (wX13_named_12 hZ j hj)
noncomputable def vhX13_named (j : Nat → rx_K) : List rx_K := [vX13_named_63 j, vX13_named_162 j, vX13_named_258 j]
theorem vlX13_named (hZ : zO b e D A X) : ∀ n k pc, [63, 162, 258][k]? = some pc → rx_OK (zV b e D A X) mX13_named 2 pc (rx_J (vhX13_named) n k) := rx_loop fun j hj k pc h => by
  match k, h with
  | 0, h =>
    have e9 := Option.some.inj (show some 63 = some pc from h)
    subst e9
    exact wX13_named_63 hZ j hj
  | 1, h =>
    have e9 := Option.some.inj (show some 162 = some pc from h)
    subst e9
    exact wX13_named_162 hZ j hj
  | 2, h =>
    have e9 := Option.some.inj (show some 258 = some pc from h)
    subst e9
    exact wX13_named_258 hZ j hj
  | _ + 3, h => exact absurd h (by simp)
noncomputable def FX13_named : List Nat → rx_H → Option (Nat × rx_H) := rx_ent 10 (vX13_named_0 (rx_J (vhX13_named) 4000000000))
theorem Met_X13_named (hZ : zO b e D A X) : rx_Met (zV b e D A X) 2 yX13_named mX13_named (FX13_named) := rx_entry hZ.1 (wX13_named_0 hZ _ (vlX13_named hZ 4000000000)) (by decide +kernel) rfl (fun h => by cases h)
abbrev mX13_run : rx_M := (RX13, cX13_run, 3, (some .int), false)
theorem vy_X13_run : rx_Y (zV b e D A X) yX13_run mX13_run 0 := ⟨zw3809, zw431, by decide, by decide +kernel, by decide +kernel, by decide +kernel⟩
noncomputable def vX13_run_136 : rx_K := o_ret1 rx_isI
set_option maxRecDepth 20000 in
theorem wX13_run_136 (hZ : zO b e D A X) : rx_OK (zV b e D A X) mX13_run 1234 136 vX13_run_136 := by
  unfold vX13_run_136
  exact s_iret hZ.1 rfl dX13_run_136
noncomputable def vX13_run_135 : rx_K := o_const 8 (vX13_run_136)
set_option maxRecDepth 20000 in
theorem wX13_run_135 (hZ : zO b e D A X) : rx_OK (zV b e D A X) mX13_run 1234 135 vX13_run_135 := by
  unfold vX13_run_135
  refine s_iconst dX13_run_135 (by decide +kernel) ?_
  exact (wX13_run_136 hZ)
noncomputable def vX13_run_131 : rx_K := o_const 16 (vX13_run_136)
set_option maxRecDepth 20000 in
theorem wX13_run_131 (hZ : zO b e D A X) : rx_OK (zV b e D A X) mX13_run 1234 131 vX13_run_131 := by
  unfold vX13_run_131
  refine s_iconst dX13_run_131 (by decide +kernel) ?_
  exact s_goto dX13_run_132 (by decide) (wX13_run_136 hZ)
noncomputable def vX13_run_120 : rx_K := o_putf rx_isI 13 167 (o_ld rx_isR 0 (o_getf 13 164 (o_const 16 (o_c2 rx_eq vX13_run_131 vX13_run_135))))
set_option maxRecDepth 20000 in
theorem wX13_run_120 (hZ : zO b e D A X) : rx_OK (zV b e D A X) mX13_run 1234 120 vX13_run_120 := by
  unfold vX13_run_120
  refine yp13_167 hZ.1 dX13_run_120 zw4287 ?_
  refine s_aload_n hZ.1 dX13_run_123 rfl ?_
  refine yg13_164 dX13_run_124 zw4284 ?_
  refine s_iconst dX13_run_127 (by decide +kernel) ?_
  exact s_icmp_ne dX13_run_128 (by decide) (wX13_run_135 hZ) (wX13_run_131 hZ)
noncomputable def vX13_run_119 : rx_K := o_ld rx_isI 2 (vX13_run_120)
set_option maxRecDepth 20000 in
theorem wX13_run_119 (hZ : zO b e D A X) : rx_OK (zV b e D A X) mX13_run 1234 119 vX13_run_119 := by
  unfold vX13_run_119
  refine s_iload_n hZ.1 dX13_run_119 rfl ?_
  exact (wX13_run_120 hZ)
noncomputable def vX13_run_112 : rx_K := o_ld rx_isR 0 (o_getf 13 166 (vX13_run_120))
set_option maxRecDepth 20000 in
theorem wX13_run_112 (hZ : zO b e D A X) : rx_OK (zV b e D A X) mX13_run 1234 112 vX13_run_112 := by
  unfold vX13_run_112
  refine s_aload_n hZ.1 dX13_run_112 rfl ?_
  refine yg13_166 dX13_run_113 zw4286 ?_
  exact s_goto dX13_run_116 (by decide) (wX13_run_120 hZ)
noncomputable def vX13_run_103 : rx_K := o_ld rx_isR 0 (o_ld rx_isR 0 (o_getf 13 164 (o_const 16 (o_c2 rx_eq vX13_run_112 vX13_run_119))))
set_option maxRecDepth 20000 in
theorem wX13_run_103 (hZ : zO b e D A X) : rx_OK (zV b e D A X) mX13_run 1234 103 vX13_run_103 := by
  unfold vX13_run_103
  refine s_aload_n hZ.1 dX13_run_103 rfl ?_
  refine s_aload_n hZ.1 dX13_run_104 rfl ?_
  refine yg13_164 dX13_run_105 zw4284 ?_
  refine s_iconst dX13_run_108 (by decide +kernel) ?_
  exact s_icmp_ne dX13_run_109 (by decide) (wX13_run_119 hZ) (wX13_run_112 hZ)
noncomputable def vX13_run_95 : rx_K := o_const 34359738288 (o_ld rx_isR 0 (o_getf 13 165 (o_bi (fun x y => x - y) (o_ret1 rx_isI))))
set_option maxRecDepth 20000 in
theorem wX13_run_95 (hZ : zO b e D A X) : rx_OK (zV b e D A X) mX13_run 1234 95 vX13_run_95 := by
  unfold vX13_run_95
  refine s_bipush dX13_run_95 (by decide +kernel) ?_
  refine s_aload_n hZ.1 dX13_run_97 rfl ?_
  refine yg13_165 dX13_run_98 zw4285 ?_
  refine s_isub dX13_run_101 ?_
  exact s_iret hZ.1 rfl dX13_run_102
noncomputable def vX13_run_86 : rx_K := o_st rx_isI 2 (o_ld rx_isR 0 (o_getf 13 164 (o_const 24 (o_c2 rx_eq vX13_run_95 vX13_run_103))))
set_option maxRecDepth 20000 in
theorem wX13_run_86 (hZ : zO b e D A X) : rx_OK (zV b e D A X) mX13_run 1234 86 vX13_run_86 := by
  unfold vX13_run_86
  refine s_istore_n hZ.1 dX13_run_86 rfl (Nat.le_of_ble_eq_true rfl) ?_
  refine s_aload_n hZ.1 dX13_run_87 rfl ?_
  refine yg13_164 dX13_run_88 zw4284 ?_
  refine s_iconst dX13_run_91 (by decide +kernel) ?_
  exact s_icmp_ne dX13_run_92 (by decide) (wX13_run_103 hZ) (wX13_run_95 hZ)
noncomputable def vX13_run_85 : rx_K := o_const 0 (vX13_run_86)
set_option maxRecDepth 20000 in
theorem wX13_run_85 (hZ : zO b e D A X) : rx_OK (zV b e D A X) mX13_run 1234 85 vX13_run_85 := by
  unfold vX13_run_85
  refine s_iconst dX13_run_85 (by decide +kernel) ?_
  exact (wX13_run_86 hZ)
noncomputable def vX13_run_75 : rx_K := o_ld rx_isR 0 (o_ld rx_isI 1 (o_const 0 (o_const 0 (o_callV 3 13 (q19 900 12) (vX13_run_86)))))
set_option maxRecDepth 20000 in
theorem wX13_run_75 (hZ : zO b e D A X) : rx_OK (zV b e D A X) mX13_run 1234 75 vX13_run_75 := by
  unfold vX13_run_75
  refine s_aload_n hZ.1 dX13_run_75 rfl ?_
  refine s_iload_n hZ.1 dX13_run_76 rfl ?_
  refine s_iconst dX13_run_77 (by decide +kernel) ?_
  refine s_iconst dX13_run_78 (by decide +kernel) ?_
  refine s_callV hZ.1 (q19_ok hZ 900 12 _ _ rfl) (Nat.le_of_ble_eq_true rfl) vy_X13_invoke zcl13 zw3904 zw373 (Or.inl zw3902) dX13_run_79 ?_
  exact s_goto dX13_run_82 (by decide) (wX13_run_86 hZ)
noncomputable def vX13_run_59 : rx_K := o_ld rx_isR 0 (o_ld rx_isR 0 (o_ld rx_isI 1 (o_callV 1 13 FX13_classOfMember (o_callV 1 13 (q19 900 14) (o_ld rx_isR 0 (o_getf 13 164 (o_c1 rx_eq vX13_run_75 vX13_run_85)))))))
set_option maxRecDepth 20000 in
theorem wX13_run_59 (hZ : zO b e D A X) : rx_OK (zV b e D A X) mX13_run 1234 59 vX13_run_59 := by
  unfold vX13_run_59
  refine s_aload_n hZ.1 dX13_run_59 rfl ?_
  refine s_aload_n hZ.1 dX13_run_60 rfl ?_
  refine s_iload_n hZ.1 dX13_run_61 rfl ?_
  refine s_callV hZ.1 (Met_X13_classOfMember hZ) (Nat.le_of_ble_eq_true rfl) vy_X13_classOfMember zcl13 zw3255 zw241 (Or.inl zw3253) dX13_run_62 ?_
  refine s_callV hZ.1 (q19_ok hZ 900 14 _ _ rfl) (Nat.le_of_ble_eq_true rfl) vy_X13_start zcl13 zw3816 zw351 (Or.inl zw3814) dX13_run_65 ?_
  refine s_aload_n hZ.1 dX13_run_68 rfl ?_
  refine yg13_164 dX13_run_69 zw4284 ?_
  exact s_if_ne dX13_run_72 (by decide) (wX13_run_85 hZ) (wX13_run_75 hZ)
noncomputable def vX13_run_19 : rx_K := o_ld rx_isR 0 (o_const 0 (o_putf rx_isI 13 163 (o_ld rx_isR 0 (o_const 0 (o_putf rx_isI 13 169 (o_ld rx_isR 0 (o_const 0 (o_putf rx_isI 13 167 (o_ld rx_isR 0 (o_const 0 (o_putf rx_isI 13 162 (o_ld rx_isR 0 (o_const 0 (o_putf rx_isI 13 155 (o_ld rx_isR 0 (o_const 0 (o_putf rx_isI 13 161 (o_ld rx_isR 0 (o_const 0 (o_putf rx_isI 13 173 (o_ld rx_isR 0 (o_const 0 (o_putf rx_isI 13 164 (vX13_run_59))))))))))))))))))))))))
set_option maxRecDepth 20000 in
theorem wX13_run_19 (hZ : zO b e D A X) : rx_OK (zV b e D A X) mX13_run 1234 19 vX13_run_19 := by
  unfold vX13_run_19
  refine s_aload_n hZ.1 dX13_run_19 rfl ?_
  refine s_iconst dX13_run_20 (by decide +kernel) ?_
  refine yp13_163 hZ.1 dX13_run_21 zw4283 ?_
  refine s_aload_n hZ.1 dX13_run_24 rfl ?_
  refine s_iconst dX13_run_25 (by decide +kernel) ?_
  refine yp13_169 hZ.1 dX13_run_26 zw4289 ?_
  refine s_aload_n hZ.1 dX13_run_29 rfl ?_
  refine s_iconst dX13_run_30 (by decide +kernel) ?_
  refine yp13_167 hZ.1 dX13_run_31 zw4287 ?_
  refine s_aload_n hZ.1 dX13_run_34 rfl ?_
  refine s_iconst dX13_run_35 (by decide +kernel) ?_
  refine yp13_162 hZ.1 dX13_run_36 zw4282 ?_
  refine s_aload_n hZ.1 dX13_run_39 rfl ?_
  refine s_iconst dX13_run_40 (by decide +kernel) ?_
  refine yp13_155 hZ.1 dX13_run_41 zw4275 ?_
  refine s_aload_n hZ.1 dX13_run_44 rfl ?_
  refine s_iconst dX13_run_45 (by decide +kernel) ?_
  refine yp13_161 hZ.1 dX13_run_46 zw4281 ?_
  refine s_aload_n hZ.1 dX13_run_49 rfl ?_
  refine s_iconst dX13_run_50 (by decide +kernel) ?_
  refine yp13_173 hZ.1 dX13_run_51 zw4293 ?_
  refine s_aload_n hZ.1 dX13_run_54 rfl ?_
  refine s_iconst dX13_run_55 (by decide +kernel) ?_
  refine yp13_164 hZ.1 dX13_run_56 zw4284 ?_
  exact (wX13_run_59 hZ)
noncomputable def vX13_run_16 : rx_K := o_const 34359738352 (o_ret1 rx_isI)
set_option maxRecDepth 20000 in
theorem wX13_run_16 (hZ : zO b e D A X) : rx_OK (zV b e D A X) mX13_run 1234 16 vX13_run_16 := by
  unfold vX13_run_16
  refine s_bipush dX13_run_16 (by decide +kernel) ?_
  exact s_iret hZ.1 rfl dX13_run_18
noncomputable def vX13_run_0 : rx_K := o_ld rx_isR 0 (o_callV 0 13 FX13_named (o_st rx_isI 1 (o_ld rx_isR 0 (o_const 0 (o_putf rx_isI 13 1 (o_ld rx_isI 1 (o_const 34359738352 (o_c2 rx_eq vX13_run_16 vX13_run_19))))))))
set_option maxRecDepth 20000 in
theorem wX13_run_0 (hZ : zO b e D A X) : rx_OK (zV b e D A X) mX13_run 1234 0 vX13_run_0 := by
  unfold vX13_run_0
  refine s_aload_n hZ.1 dX13_run_0 rfl ?_
  refine s_callV hZ.1 (Met_X13_named hZ) (Nat.le_of_ble_eq_true rfl) vy_X13_named zcl13 zw3812 zw350 (Or.inl zw3810) dX13_run_1 ?_
  refine s_istore_n hZ.1 dX13_run_4 rfl (Nat.le_of_ble_eq_true rfl) ?_
  refine s_aload_n hZ.1 dX13_run_5 rfl ?_
  refine s_iconst dX13_run_6 (by decide +kernel) ?_
  refine yp13_1 hZ.1 dX13_run_7 zw4122 ?_
  refine s_iload_n hZ.1 dX13_run_10 rfl ?_
  refine s_bipush dX13_run_11 (by decide +kernel) ?_
  exact s_icmp_ne dX13_run_13 (by decide) (wX13_run_19 hZ) (wX13_run_16 hZ)
noncomputable def FX13_run : List Nat → rx_H → Option (Nat × rx_H) := rx_ent 3 vX13_run_0
theorem Met_X13_run (hZ : zO b e D A X) : rx_Met (zV b e D A X) 1234 yX13_run mX13_run (FX13_run) := rx_entry hZ.1 (wX13_run_0 hZ) (by decide +kernel) rfl (fun h => by cases h)
abbrev mX13_value : rx_M := (RX13, cX13_value, 1, (some .int), false)
theorem vy_X13_value : rx_Y (zV b e D A X) yX13_value mX13_value 0 := ⟨zw3957, zw431, by decide, by decide +kernel, by decide +kernel, by decide +kernel⟩
noncomputable def vX13_value_0 : rx_K := o_ld rx_isR 0 (o_getf 13 167 (o_ret1 rx_isI))
set_option maxRecDepth 20000 in
theorem wX13_value_0 (hZ : zO b e D A X) : rx_OK (zV b e D A X) mX13_value 0 0 vX13_value_0 := by
  unfold vX13_value_0
  refine s_aload_n hZ.1 dX13_value_0 rfl ?_
  refine yg13_167 dX13_value_1 zw4287 ?_
  exact s_iret hZ.1 rfl dX13_value_4
noncomputable def FX13_value : List Nat → rx_H → Option (Nat × rx_H) := rx_ent 1 vX13_value_0
theorem Met_X13_value (hZ : zO b e D A X) : rx_Met (zV b e D A X) 0 yX13_value mX13_value (FX13_value) := rx_entry hZ.1 (wX13_value_0 hZ) (by decide +kernel) rfl (fun h => by cases h)
abbrev mX13_told : rx_M := (RX13, cX13_told, 2, (some .int), false)
theorem vy_X13_told : rx_Y (zV b e D A X) yX13_told mX13_told 1 := ⟨zw3961, zw431, by decide, by decide +kernel, by decide +kernel, by decide +kernel⟩
noncomputable def vX13_told_91 : rx_K := o_ld rx_isR 0 (o_getf 13 10 (o_ret1 rx_isI))
set_option maxRecDepth 20000 in
theorem wX13_told_91 (hZ : zO b e D A X) : rx_OK (zV b e D A X) mX13_told 0 91 vX13_told_91 := by
  unfold vX13_told_91
  refine s_aload_n hZ.1 dX13_told_91 rfl ?_
  refine yg13_10 dX13_told_92 zw4131 ?_
  exact s_iret hZ.1 rfl dX13_told_95
noncomputable def vX13_told_86 : rx_K := o_ld rx_isR 0 (o_getf 13 1 (o_ret1 rx_isI))
set_option maxRecDepth 20000 in
theorem wX13_told_86 (hZ : zO b e D A X) : rx_OK (zV b e D A X) mX13_told 0 86 vX13_told_86 := by
  unfold vX13_told_86
  refine s_aload_n hZ.1 dX13_told_86 rfl ?_
  refine yg13_1 dX13_told_87 zw4122 ?_
  exact s_iret hZ.1 rfl dX13_told_90
noncomputable def vX13_told_81 : rx_K := o_ld rx_isR 0 (o_getf 13 129 (o_ret1 rx_isI))
set_option maxRecDepth 20000 in
theorem wX13_told_81 (hZ : zO b e D A X) : rx_OK (zV b e D A X) mX13_told 0 81 vX13_told_81 := by
  unfold vX13_told_81
  refine s_aload_n hZ.1 dX13_told_81 rfl ?_
  refine yg13_129 dX13_told_82 zw4249 ?_
  exact s_iret hZ.1 rfl dX13_told_85
noncomputable def vX13_told_76 : rx_K := o_ld rx_isR 0 (o_getf 13 136 (o_ret1 rx_isI))
set_option maxRecDepth 20000 in
theorem wX13_told_76 (hZ : zO b e D A X) : rx_OK (zV b e D A X) mX13_told 0 76 vX13_told_76 := by
  unfold vX13_told_76
  refine s_aload_n hZ.1 dX13_told_76 rfl ?_
  refine yg13_136 dX13_told_77 zw4256 ?_
  exact s_iret hZ.1 rfl dX13_told_80
noncomputable def vX13_told_71 : rx_K := o_ld rx_isR 0 (o_getf 13 153 (o_ret1 rx_isI))
set_option maxRecDepth 20000 in
theorem wX13_told_71 (hZ : zO b e D A X) : rx_OK (zV b e D A X) mX13_told 0 71 vX13_told_71 := by
  unfold vX13_told_71
  refine s_aload_n hZ.1 dX13_told_71 rfl ?_
  refine yg13_153 dX13_told_72 zw4273 ?_
  exact s_iret hZ.1 rfl dX13_told_75
noncomputable def vX13_told_66 : rx_K := o_ld rx_isR 0 (o_getf 13 151 (o_ret1 rx_isI))
set_option maxRecDepth 20000 in
theorem wX13_told_66 (hZ : zO b e D A X) : rx_OK (zV b e D A X) mX13_told 0 66 vX13_told_66 := by
  unfold vX13_told_66
  refine s_aload_n hZ.1 dX13_told_66 rfl ?_
  refine yg13_151 dX13_told_67 zw4271 ?_
  exact s_iret hZ.1 rfl dX13_told_70
noncomputable def vX13_told_61 : rx_K := o_ld rx_isR 0 (o_getf 13 169 (o_ret1 rx_isI))
set_option maxRecDepth 20000 in
theorem wX13_told_61 (hZ : zO b e D A X) : rx_OK (zV b e D A X) mX13_told 0 61 vX13_told_61 := by
  unfold vX13_told_61
  refine s_aload_n hZ.1 dX13_told_61 rfl ?_
  refine yg13_169 dX13_told_62 zw4289 ?_
  exact s_iret hZ.1 rfl dX13_told_65
noncomputable def vX13_told_56 : rx_K := o_ld rx_isR 0 (o_getf 13 163 (o_ret1 rx_isI))
set_option maxRecDepth 20000 in
theorem wX13_told_56 (hZ : zO b e D A X) : rx_OK (zV b e D A X) mX13_told 0 56 vX13_told_56 := by
  unfold vX13_told_56
  refine s_aload_n hZ.1 dX13_told_56 rfl ?_
  refine yg13_163 dX13_told_57 zw4283 ?_
  exact s_iret hZ.1 rfl dX13_told_60
noncomputable def vX13_told_12 : rx_K := o_ld rx_isI 1 (o_sw 0 [56, 61, 66, 71, 76, 81, 86] 91 (rx_pk [(56, vX13_told_56), (61, vX13_told_61), (66, vX13_told_66), (71, vX13_told_71), (76, vX13_told_76), (81, vX13_told_81), (86, vX13_told_86), (91, vX13_told_91)]))
set_option maxRecDepth 20000 in
theorem wX13_told_12 (hZ : zO b e D A X) : rx_OK (zV b e D A X) mX13_told 0 12 vX13_told_12 := by
  unfold vX13_told_12
  refine s_iload_n hZ.1 dX13_told_12 rfl ?_
  exact s_sw dX13_told_13 (by decide) (by decide) (by decide) (by decide) (by decide) (fun b _ => (rx_pk_ok (List.forall_mem_cons.mpr ⟨(wX13_told_56 hZ), List.forall_mem_cons.mpr ⟨(wX13_told_61 hZ), List.forall_mem_cons.mpr ⟨(wX13_told_66 hZ), List.forall_mem_cons.mpr ⟨(wX13_told_71 hZ), List.forall_mem_cons.mpr ⟨(wX13_told_76 hZ), List.forall_mem_cons.mpr ⟨(wX13_told_81 hZ), List.forall_mem_cons.mpr ⟨(wX13_told_86 hZ), List.forall_mem_cons.mpr ⟨(wX13_told_91 hZ), fun _ h => absurd h List.not_mem_nil⟩⟩⟩⟩⟩⟩⟩⟩)) b)
noncomputable def vX13_told_10 : rx_K := o_const 34359738360 (o_ret1 rx_isI)
set_option maxRecDepth 20000 in
theorem wX13_told_10 (hZ : zO b e D A X) : rx_OK (zV b e D A X) mX13_told 0 10 vX13_told_10 := by
  unfold vX13_told_10
  refine s_iconst dX13_told_10 (by decide +kernel) ?_
  exact s_iret hZ.1 rfl dX13_told_11
noncomputable def vX13_told_4 : rx_K := o_ld rx_isI 1 (o_const 56 (o_c2 (fun h x y => rx_lt h y x) vX13_told_10 vX13_told_12))
set_option maxRecDepth 20000 in
theorem wX13_told_4 (hZ : zO b e D A X) : rx_OK (zV b e D A X) mX13_told 0 4 vX13_told_4 := by
  unfold vX13_told_4
  refine s_iload_n hZ.1 dX13_told_4 rfl ?_
  refine s_bipush dX13_told_5 (by decide +kernel) ?_
  exact s_icmp_le dX13_told_7 (by decide) (wX13_told_12 hZ) (wX13_told_10 hZ)
noncomputable def vX13_told_0 : rx_K := o_ld rx_isI 1 (o_c1 rx_lt vX13_told_10 vX13_told_4)
set_option maxRecDepth 20000 in
theorem wX13_told_0 (hZ : zO b e D A X) : rx_OK (zV b e D A X) mX13_told 0 0 vX13_told_0 := by
  unfold vX13_told_0
  refine s_iload_n hZ.1 dX13_told_0 rfl ?_
  exact s_if_lt dX13_told_1 (by decide) (wX13_told_10 hZ) (wX13_told_4 hZ)
noncomputable def FX13_told : List Nat → rx_H → Option (Nat × rx_H) := rx_ent 2 vX13_told_0
theorem Met_X13_told (hZ : zO b e D A X) : rx_Met (zV b e D A X) 0 yX13_told mX13_told (FX13_told) := rx_entry hZ.1 (wX13_told_0 hZ) (by decide +kernel) rfl (fun h => by cases h)
abbrev mX13_number : rx_M := (RX13, cX13_number, 2, (some .int), false)
theorem vy_X13_number : rx_Y (zV b e D A X) yX13_number mX13_number 1 := ⟨zw3965, zw431, by decide, by decide +kernel, by decide +kernel, by decide +kernel⟩
noncomputable def vX13_number_22 : rx_K := o_ret1 rx_isI
set_option maxRecDepth 20000 in
theorem wX13_number_22 (hZ : zO b e D A X) : rx_OK (zV b e D A X) mX13_number 0 22 vX13_number_22 := by
  unfold vX13_number_22
  exact s_iret hZ.1 rfl dX13_number_22
noncomputable def vX13_number_16 : rx_K := o_ld rx_isR 0 (o_getf 13 168 (o_ld rx_isI 1 (o_ald 0 (vX13_number_22))))
set_option maxRecDepth 20000 in
theorem wX13_number_16 (hZ : zO b e D A X) : rx_OK (zV b e D A X) mX13_number 0 16 vX13_number_16 := by
  unfold vX13_number_16
  refine s_aload_n hZ.1 dX13_number_16 rfl ?_
  refine yg13_168 dX13_number_17 zw4288 ?_
  refine s_iload_n hZ.1 dX13_number_20 rfl ?_
  refine s_iald (tt := 0) rfl dX13_number_21 ?_
  exact (wX13_number_22 hZ)
noncomputable def vX13_number_12 : rx_K := o_const 0 (vX13_number_22)
set_option maxRecDepth 20000 in
theorem wX13_number_12 (hZ : zO b e D A X) : rx_OK (zV b e D A X) mX13_number 0 12 vX13_number_12 := by
  unfold vX13_number_12
  refine s_iconst dX13_number_12 (by decide +kernel) ?_
  exact s_goto dX13_number_13 (by decide) (wX13_number_22 hZ)
noncomputable def vX13_number_4 : rx_K := o_ld rx_isI 1 (o_ld rx_isR 0 (o_getf 13 169 (o_c2 rx_lt vX13_number_16 vX13_number_12)))
set_option maxRecDepth 20000 in
theorem wX13_number_4 (hZ : zO b e D A X) : rx_OK (zV b e D A X) mX13_number 0 4 vX13_number_4 := by
  unfold vX13_number_4
  refine s_iload_n hZ.1 dX13_number_4 rfl ?_
  refine s_aload_n hZ.1 dX13_number_5 rfl ?_
  refine yg13_169 dX13_number_6 zw4289 ?_
  exact s_icmp_lt dX13_number_9 (by decide) (wX13_number_16 hZ) (wX13_number_12 hZ)
noncomputable def vX13_number_0 : rx_K := o_ld rx_isI 1 (o_c1 rx_lt vX13_number_12 vX13_number_4)
set_option maxRecDepth 20000 in
theorem wX13_number_0 (hZ : zO b e D A X) : rx_OK (zV b e D A X) mX13_number 0 0 vX13_number_0 := by
  unfold vX13_number_0
  refine s_iload_n hZ.1 dX13_number_0 rfl ?_
  exact s_if_lt dX13_number_1 (by decide) (wX13_number_12 hZ) (wX13_number_4 hZ)
noncomputable def FX13_number : List Nat → rx_H → Option (Nat × rx_H) := rx_ent 2 vX13_number_0
theorem Met_X13_number (hZ : zO b e D A X) : rx_Met (zV b e D A X) 0 yX13_number mX13_number (FX13_number) := rx_entry hZ.1 (wX13_number_0 hZ) (by decide +kernel) rfl (fun h => by cases h)
abbrev mX13_event_ : rx_M := (RX13, cX13_event_, 2, (some .int), false)
theorem vy_X13_event_ : rx_Y (zV b e D A X) yX13_event_ mX13_event_ 1 := ⟨zw3969, zw431, by decide, by decide +kernel, by decide +kernel, by decide +kernel⟩
noncomputable def vX13_event__22 : rx_K := o_ret1 rx_isI
set_option maxRecDepth 20000 in
theorem wX13_event__22 (hZ : zO b e D A X) : rx_OK (zV b e D A X) mX13_event_ 0 22 vX13_event__22 := by
  unfold vX13_event__22
  exact s_iret hZ.1 rfl dX13_event__22
noncomputable def vX13_event__16 : rx_K := o_ld rx_isR 0 (o_getf 13 135 (o_ld rx_isI 1 (o_ald 0 (vX13_event__22))))
set_option maxRecDepth 20000 in
theorem wX13_event__16 (hZ : zO b e D A X) : rx_OK (zV b e D A X) mX13_event_ 0 16 vX13_event__16 := by
  unfold vX13_event__16
  refine s_aload_n hZ.1 dX13_event__16 rfl ?_
  refine yg13_135 dX13_event__17 zw4255 ?_
  refine s_iload_n hZ.1 dX13_event__20 rfl ?_
  refine s_iald (tt := 0) rfl dX13_event__21 ?_
  exact (wX13_event__22 hZ)
noncomputable def vX13_event__12 : rx_K := o_const 34359738360 (vX13_event__22)
set_option maxRecDepth 20000 in
theorem wX13_event__12 (hZ : zO b e D A X) : rx_OK (zV b e D A X) mX13_event_ 0 12 vX13_event__12 := by
  unfold vX13_event__12
  refine s_iconst dX13_event__12 (by decide +kernel) ?_
  exact s_goto dX13_event__13 (by decide) (wX13_event__22 hZ)
noncomputable def vX13_event__4 : rx_K := o_ld rx_isI 1 (o_ld rx_isR 0 (o_getf 13 136 (o_c2 rx_lt vX13_event__16 vX13_event__12)))
set_option maxRecDepth 20000 in
theorem wX13_event__4 (hZ : zO b e D A X) : rx_OK (zV b e D A X) mX13_event_ 0 4 vX13_event__4 := by
  unfold vX13_event__4
  refine s_iload_n hZ.1 dX13_event__4 rfl ?_
  refine s_aload_n hZ.1 dX13_event__5 rfl ?_
  refine yg13_136 dX13_event__6 zw4256 ?_
  exact s_icmp_lt dX13_event__9 (by decide) (wX13_event__16 hZ) (wX13_event__12 hZ)
noncomputable def vX13_event__0 : rx_K := o_ld rx_isI 1 (o_c1 rx_lt vX13_event__12 vX13_event__4)
set_option maxRecDepth 20000 in
theorem wX13_event__0 (hZ : zO b e D A X) : rx_OK (zV b e D A X) mX13_event_ 0 0 vX13_event__0 := by
  unfold vX13_event__0
  refine s_iload_n hZ.1 dX13_event__0 rfl ?_
  exact s_if_lt dX13_event__1 (by decide) (wX13_event__12 hZ) (wX13_event__4 hZ)
noncomputable def FX13_event_ : List Nat → rx_H → Option (Nat × rx_H) := rx_ent 2 vX13_event__0
theorem Met_X13_event_ (hZ : zO b e D A X) : rx_Met (zV b e D A X) 0 yX13_event_ mX13_event_ (FX13_event_) := rx_entry hZ.1 (wX13_event__0 hZ) (by decide +kernel) rfl (fun h => by cases h)
abbrev mX13_name : rx_M := (RX13, cX13_name, 2, (some .int), false)
theorem vy_X13_name : rx_Y (zV b e D A X) yX13_name mX13_name 1 := ⟨zw3973, zw431, by decide, by decide +kernel, by decide +kernel, by decide +kernel⟩
noncomputable def vX13_name_14 : rx_K := o_ld rx_isR 0 (o_const 0 (o_putf rx_isI 13 3 (o_ld rx_isR 0 (o_ld rx_isR 0 (o_getf 13 24 (o_ld rx_isR 0 (o_getf 13 130 (o_ld rx_isI 1 (o_ald 0 (o_ald 1 (o_callV 1 13 FX13_outName (o_ld rx_isR 0 (o_getf 13 3 (o_ret1 rx_isI))))))))))))))
set_option maxRecDepth 20000 in
theorem wX13_name_14 (hZ : zO b e D A X) : rx_OK (zV b e D A X) mX13_name 2 14 vX13_name_14 := by
  unfold vX13_name_14
  refine s_aload_n hZ.1 dX13_name_14 rfl ?_
  refine s_iconst dX13_name_15 (by decide +kernel) ?_
  refine yp13_3 hZ.1 dX13_name_16 zw4124 ?_
  refine s_aload_n hZ.1 dX13_name_19 rfl ?_
  refine s_aload_n hZ.1 dX13_name_20 rfl ?_
  refine yg13_24 dX13_name_21 zw4145 ?_
  refine s_aload_n hZ.1 dX13_name_24 rfl ?_
  refine yg13_130 dX13_name_25 zw4250 ?_
  refine s_iload_n hZ.1 dX13_name_28 rfl ?_
  refine s_iald (tt := 0) rfl dX13_name_29 ?_
  refine s_lald (tt := 1) rfl dX13_name_30 ?_
  refine s_callV hZ.1 (Met_X13_outName hZ) (Nat.le_of_ble_eq_true rfl) vy_X13_outName zcl13 zw3656 zw328 (Or.inl zw3654) dX13_name_31 ?_
  refine s_aload_n hZ.1 dX13_name_34 rfl ?_
  refine yg13_3 dX13_name_35 zw4124 ?_
  exact s_iret hZ.1 rfl dX13_name_38
noncomputable def vX13_name_12 : rx_K := o_const 34359738360 (o_ret1 rx_isI)
set_option maxRecDepth 20000 in
theorem wX13_name_12 (hZ : zO b e D A X) : rx_OK (zV b e D A X) mX13_name 2 12 vX13_name_12 := by
  unfold vX13_name_12
  refine s_iconst dX13_name_12 (by decide +kernel) ?_
  exact s_iret hZ.1 rfl dX13_name_13
noncomputable def vX13_name_4 : rx_K := o_ld rx_isI 1 (o_ld rx_isR 0 (o_getf 13 129 (o_c2 rx_lt vX13_name_14 vX13_name_12)))
set_option maxRecDepth 20000 in
theorem wX13_name_4 (hZ : zO b e D A X) : rx_OK (zV b e D A X) mX13_name 2 4 vX13_name_4 := by
  unfold vX13_name_4
  refine s_iload_n hZ.1 dX13_name_4 rfl ?_
  refine s_aload_n hZ.1 dX13_name_5 rfl ?_
  refine yg13_129 dX13_name_6 zw4249 ?_
  exact s_icmp_lt dX13_name_9 (by decide) (wX13_name_14 hZ) (wX13_name_12 hZ)
noncomputable def vX13_name_0 : rx_K := o_ld rx_isI 1 (o_c1 rx_lt vX13_name_12 vX13_name_4)
set_option maxRecDepth 20000 in
theorem wX13_name_0 (hZ : zO b e D A X) : rx_OK (zV b e D A X) mX13_name 2 0 vX13_name_0 := by
  unfold vX13_name_0
  refine s_iload_n hZ.1 dX13_name_0 rfl ?_
  exact s_if_lt dX13_name_1 (by decide) (wX13_name_12 hZ) (wX13_name_4 hZ)
noncomputable def FX13_name : List Nat → rx_H → Option (Nat × rx_H) := rx_ent 2 vX13_name_0
theorem Met_X13_name (hZ : zO b e D A X) : rx_Met (zV b e D A X) 2 yX13_name mX13_name (FX13_name) := rx_entry hZ.1 (wX13_name_0 hZ) (by decide +kernel) rfl (fun h => by cases h)
abbrev mX13_state : rx_M := (RX13, cX13_state, 2, (some .int), false)
theorem vy_X13_state : rx_Y (zV b e D A X) yX13_state mX13_state 1 := ⟨zw3977, zw431, by decide, by decide +kernel, by decide +kernel, by decide +kernel⟩
noncomputable def vX13_state_22 : rx_K := o_ret1 rx_isI
set_option maxRecDepth 20000 in
theorem wX13_state_22 (hZ : zO b e D A X) : rx_OK (zV b e D A X) mX13_state 0 22 vX13_state_22 := by
  unfold vX13_state_22
  exact s_iret hZ.1 rfl dX13_state_22
noncomputable def vX13_state_16 : rx_K := o_ld rx_isR 0 (o_getf 13 132 (o_ld rx_isI 1 (o_ald 0 (vX13_state_22))))
set_option maxRecDepth 20000 in
theorem wX13_state_16 (hZ : zO b e D A X) : rx_OK (zV b e D A X) mX13_state 0 16 vX13_state_16 := by
  unfold vX13_state_16
  refine s_aload_n hZ.1 dX13_state_16 rfl ?_
  refine yg13_132 dX13_state_17 zw4252 ?_
  refine s_iload_n hZ.1 dX13_state_20 rfl ?_
  refine s_iald (tt := 0) rfl dX13_state_21 ?_
  exact (wX13_state_22 hZ)
noncomputable def vX13_state_12 : rx_K := o_const 34359738360 (vX13_state_22)
set_option maxRecDepth 20000 in
theorem wX13_state_12 (hZ : zO b e D A X) : rx_OK (zV b e D A X) mX13_state 0 12 vX13_state_12 := by
  unfold vX13_state_12
  refine s_iconst dX13_state_12 (by decide +kernel) ?_
  exact s_goto dX13_state_13 (by decide) (wX13_state_22 hZ)
noncomputable def vX13_state_4 : rx_K := o_ld rx_isI 1 (o_ld rx_isR 0 (o_getf 13 129 (o_c2 rx_lt vX13_state_16 vX13_state_12)))
set_option maxRecDepth 20000 in
theorem wX13_state_4 (hZ : zO b e D A X) : rx_OK (zV b e D A X) mX13_state 0 4 vX13_state_4 := by
  unfold vX13_state_4
  refine s_iload_n hZ.1 dX13_state_4 rfl ?_
  refine s_aload_n hZ.1 dX13_state_5 rfl ?_
  refine yg13_129 dX13_state_6 zw4249 ?_
  exact s_icmp_lt dX13_state_9 (by decide) (wX13_state_16 hZ) (wX13_state_12 hZ)
noncomputable def vX13_state_0 : rx_K := o_ld rx_isI 1 (o_c1 rx_lt vX13_state_12 vX13_state_4)
set_option maxRecDepth 20000 in
theorem wX13_state_0 (hZ : zO b e D A X) : rx_OK (zV b e D A X) mX13_state 0 0 vX13_state_0 := by
  unfold vX13_state_0
  refine s_iload_n hZ.1 dX13_state_0 rfl ?_
  exact s_if_lt dX13_state_1 (by decide) (wX13_state_12 hZ) (wX13_state_4 hZ)
noncomputable def FX13_state : List Nat → rx_H → Option (Nat × rx_H) := rx_ent 2 vX13_state_0
theorem Met_X13_state (hZ : zO b e D A X) : rx_Met (zV b e D A X) 0 yX13_state mX13_state (FX13_state) := rx_entry hZ.1 (wX13_state_0 hZ) (by decide +kernel) rfl (fun h => by cases h)
abbrev mX13_classOf : rx_M := (RX13, cX13_classOf, 2, (some .int), false)
theorem vy_X13_classOf : rx_Y (zV b e D A X) yX13_classOf mX13_classOf 1 := ⟨zw3981, zw431, by decide, by decide +kernel, by decide +kernel, by decide +kernel⟩
noncomputable def vX13_classOf_28 : rx_K := o_ret1 rx_isI
set_option maxRecDepth 20000 in
theorem wX13_classOf_28 (hZ : zO b e D A X) : rx_OK (zV b e D A X) mX13_classOf 0 28 vX13_classOf_28 := by
  unfold vX13_classOf_28
  exact s_iret hZ.1 rfl dX13_classOf_28
noncomputable def vX13_classOf_17 : rx_K := o_ld rx_isR 0 (o_getf 13 131 (o_ld rx_isR 0 (o_getf 13 149 (o_ld rx_isI 1 (o_ald 0 (o_ald 0 (vX13_classOf_28)))))))
set_option maxRecDepth 20000 in
theorem wX13_classOf_17 (hZ : zO b e D A X) : rx_OK (zV b e D A X) mX13_classOf 0 17 vX13_classOf_17 := by
  unfold vX13_classOf_17
  refine s_aload_n hZ.1 dX13_classOf_17 rfl ?_
  refine yg13_131 dX13_classOf_18 zw4251 ?_
  refine s_aload_n hZ.1 dX13_classOf_21 rfl ?_
  refine yg13_149 dX13_classOf_22 zw4269 ?_
  refine s_iload_n hZ.1 dX13_classOf_25 rfl ?_
  refine s_iald (tt := 0) rfl dX13_classOf_26 ?_
  refine s_iald (tt := 0) rfl dX13_classOf_27 ?_
  exact (wX13_classOf_28 hZ)
noncomputable def vX13_classOf_13 : rx_K := o_const 34359738360 (vX13_classOf_28)
set_option maxRecDepth 20000 in
theorem wX13_classOf_13 (hZ : zO b e D A X) : rx_OK (zV b e D A X) mX13_classOf 0 13 vX13_classOf_13 := by
  unfold vX13_classOf_13
  refine s_iconst dX13_classOf_13 (by decide +kernel) ?_
  exact s_goto dX13_classOf_14 (by decide) (wX13_classOf_28 hZ)
noncomputable def vX13_classOf_5 : rx_K := o_ld rx_isI 1 (o_ld rx_isR 0 (o_getf 13 151 (o_c2 (fun h x y => rx_lt h y x) vX13_classOf_13 vX13_classOf_17)))
set_option maxRecDepth 20000 in
theorem wX13_classOf_5 (hZ : zO b e D A X) : rx_OK (zV b e D A X) mX13_classOf 0 5 vX13_classOf_5 := by
  unfold vX13_classOf_5
  refine s_iload_n hZ.1 dX13_classOf_5 rfl ?_
  refine s_aload_n hZ.1 dX13_classOf_6 rfl ?_
  refine yg13_151 dX13_classOf_7 zw4271 ?_
  exact s_icmp_le dX13_classOf_10 (by decide) (wX13_classOf_17 hZ) (wX13_classOf_13 hZ)
noncomputable def vX13_classOf_0 : rx_K := o_ld rx_isI 1 (o_const 8 (o_c2 rx_lt vX13_classOf_13 vX13_classOf_5))
set_option maxRecDepth 20000 in
theorem wX13_classOf_0 (hZ : zO b e D A X) : rx_OK (zV b e D A X) mX13_classOf 0 0 vX13_classOf_0 := by
  unfold vX13_classOf_0
  refine s_iload_n hZ.1 dX13_classOf_0 rfl ?_
  refine s_iconst dX13_classOf_1 (by decide +kernel) ?_
  exact s_icmp_lt dX13_classOf_2 (by decide) (wX13_classOf_13 hZ) (wX13_classOf_5 hZ)
noncomputable def FX13_classOf : List Nat → rx_H → Option (Nat × rx_H) := rx_ent 2 vX13_classOf_0
theorem Met_X13_classOf (hZ : zO b e D A X) : rx_Met (zV b e D A X) 0 yX13_classOf mX13_classOf (FX13_classOf) := rx_entry hZ.1 (wX13_classOf_0 hZ) (by decide +kernel) rfl (fun h => by cases h)
end ZM67

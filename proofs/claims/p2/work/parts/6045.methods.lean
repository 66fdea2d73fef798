section ZM45
variable {b : Nat} {e : Nat → Value} {D : va_G} {A : Nat → ClassId} {X : State → Prop}
abbrev mX13_parents : rx_M := (RX13, cX13_parents, 5, (some .int), false)
theorem vy_X13_parents : rx_Y (zV b e D A X) yX13_parents mX13_parents 2 := ⟨zw3260, zw431, by decide, by decide +kernel, by decide +kernel, by decide +kernel⟩
noncomputable def vX13_parents_41 (j : Nat → rx_K) : rx_K := o_ld rx_isI 3 (o_ret1 rx_isI)
set_option maxRecDepth 20000 in
theorem wX13_parents_41 (hZ : zO b e D A X) (j : Nat → rx_K) (hj : ∀ k pc, [5][k]? = some pc → rx_OK (zV b e D A X) mX13_parents 3 pc (j k)) : rx_OK (zV b e D A X) mX13_parents 3 41 (vX13_parents_41 j) := by
  unfold vX13_parents_41
  refine s_iload_n hZ.1 dX13_parents_41 rfl ?_
  exact s_iret hZ.1 rfl dX13_parents_42
noncomputable def vX13_parents_22 (j : Nat → rx_K) : rx_K := o_ld rx_isR 2 (o_ld rx_isI 3 (o_inc 3 (1) (o_ld rx_isI 4 (o_ast 0 (fun v => v) rx_isI (o_ld rx_isR 0 (o_ld rx_isI 4 (o_callV 1 13 FX13_parent (o_st rx_isI 4 ((j 0))))))))))
set_option maxRecDepth 20000 in
theorem wX13_parents_22 (hZ : zO b e D A X) (j : Nat → rx_K) (hj : ∀ k pc, [5][k]? = some pc → rx_OK (zV b e D A X) mX13_parents 3 pc (j k)) : rx_OK (zV b e D A X) mX13_parents 3 22 (vX13_parents_22 j) := by
  unfold vX13_parents_22
  refine s_aload_n hZ.1 dX13_parents_22 rfl ?_
  refine s_iload_n hZ.1 dX13_parents_23 rfl ?_
  refine s_iinc hZ.1 dX13_parents_24 (Nat.le_of_ble_eq_true rfl) ?_
  refine s_iload hZ.1 dX13_parents_27 ?_
  refine s_iast hZ.1 (tt := 0) rfl dX13_parents_29 ?_
  refine s_aload_n hZ.1 dX13_parents_30 rfl ?_
  refine s_iload hZ.1 dX13_parents_31 ?_
  refine s_callV hZ.1 (Met_X13_parent hZ) (Nat.le_of_ble_eq_true rfl) vy_X13_parent zcl13 zw3220 zw233 (Or.inl zw3218) dX13_parents_33 ?_
  refine s_istore hZ.1 dX13_parents_36 (Nat.le_of_ble_eq_true rfl) ?_
  exact s_goto dX13_parents_38 (by decide) (hj 0 5 rfl)
noncomputable def vX13_parents_12 (j : Nat → rx_K) : rx_K := o_ld rx_isR 2 (o_ld rx_isI 3 (o_ld rx_isI 4 (o_callS 3 FX13_stoodBefore (o_c1 rx_eq (vX13_parents_22 j) (vX13_parents_41 j)))))
set_option maxRecDepth 20000 in
theorem wX13_parents_12 (hZ : zO b e D A X) (j : Nat → rx_K) (hj : ∀ k pc, [5][k]? = some pc → rx_OK (zV b e D A X) mX13_parents 3 pc (j k)) : rx_OK (zV b e D A X) mX13_parents 3 12 (vX13_parents_12 j) := by
  unfold vX13_parents_12
  refine s_aload_n hZ.1 dX13_parents_12 rfl ?_
  refine s_iload_n hZ.1 dX13_parents_13 rfl ?_
  refine s_iload hZ.1 dX13_parents_14 ?_
  refine s_callS hZ.1 (Met_X13_stoodBefore hZ) (Nat.le_of_ble_eq_true rfl) vy_X13_stoodBefore zw3262 (Or.inl zw3261) dX13_parents_16 ?_
  exact s_if_ne dX13_parents_19 (by decide) (wX13_parents_41 hZ j hj) (wX13_parents_22 hZ j hj)
noncomputable def vX13_parents_5 (j : Nat → rx_K) : rx_K := o_ld rx_isI 4 (o_const 34359738352 (o_c2 rx_eq (vX13_parents_41 j) (vX13_parents_12 j)))
set_option maxRecDepth 20000 in
theorem wX13_parents_5 (hZ : zO b e D A X) (j : Nat → rx_K) (hj : ∀ k pc, [5][k]? = some pc → rx_OK (zV b e D A X) mX13_parents 3 pc (j k)) : rx_OK (zV b e D A X) mX13_parents 3 5 (vX13_parents_5 j) := by
  unfold vX13_parents_5
  refine s_iload hZ.1 dX13_parents_5 ?_
  refine s_bipush dX13_parents_7 (by decide +kernel) ?_
  exact s_icmp_eq dX13_parents_9 (by decide) (wX13_parents_41 hZ j hj) (wX13_parents_12 hZ j hj)
noncomputable def vX13_parents_0 (j : Nat → rx_K) : rx_K := o_const 0 (o_st rx_isI 3 (o_ld rx_isI 1 (o_st rx_isI 4 ((vX13_parents_5 j)))))
set_option maxRecDepth 20000 in
theorem wX13_parents_0 (hZ : zO b e D A X) (j : Nat → rx_K) (hj : ∀ k pc, [5][k]? = some pc → rx_OK (zV b e D A X) mX13_parents 3 pc (j k)) : rx_OK (zV b e D A X) mX13_parents 3 0 (vX13_parents_0 j) := by
  unfold vX13_parents_0
  refine s_iconst dX13_parents_0 (by decide +kernel) ?_
  refine s_istore_n hZ.1 dX13_parents_1 rfl (Nat.le_of_ble_eq_true rfl) ?_
  refine s_iload_n hZ.1 dX13_parents_2 rfl ?_
  refine s_istore hZ.1 dX13_parents_3 (Nat.le_of_ble_eq_true rfl) ?_
  exact (wX13_parents_5 hZ j hj)
noncomputable def vhX13_parents (j : Nat → rx_K) : List rx_K := [vX13_parents_5 j]
theorem vlX13_parents (hZ : zO b e D A X) : ∀ n k pc, [5][k]? = some pc → rx_OK (zV b e D A X) mX13_parents 3 pc (rx_J (vhX13_parents) n k) := rx_loop fun j hj k pc h => by
  match k, h with
  | 0, h =>
    have e9 := Option.some.inj (show some 5 = some pc from h)
    subst e9
    exact wX13_parents_5 hZ j hj
  | _ + 1, h => exact absurd h (by simp)
noncomputable def FX13_parents : List Nat → rx_H → Option (Nat × rx_H) := rx_ent 5 (vX13_parents_0 (rx_J (vhX13_parents) 4000000000))
theorem Met_X13_parents (hZ : zO b e D A X) : rx_Met (zV b e D A X) 3 yX13_parents mX13_parents (FX13_parents) := rx_entry hZ.1 (wX13_parents_0 hZ _ (vlX13_parents hZ 4000000000)) (by decide +kernel) rfl (fun h => by cases h)
abbrev mX13_newStamp : rx_M := (RX13, cX13_newStamp, 2, none, false)
theorem vy_X13_newStamp : rx_Y (zV b e D A X) yX13_newStamp mX13_newStamp 0 := ⟨zw3216, zw431, by decide, by decide +kernel, by decide +kernel, by decide +kernel⟩
noncomputable def vX13_newStamp_44 (j : Nat → rx_K) : rx_K := o_ld rx_isR 0 (o_dup (o_getf 13 95 (o_const 8 (o_bi (fun x y => x + y) (o_putf rx_isI 13 95 (o_ret0))))))
set_option maxRecDepth 20000 in
theorem wX13_newStamp_44 (hZ : zO b e D A X) (j : Nat → rx_K) (hj : ∀ k pc, [12][k]? = some pc → rx_OK (zV b e D A X) mX13_newStamp 0 pc (j k)) : rx_OK (zV b e D A X) mX13_newStamp 0 44 (vX13_newStamp_44 j) := by
  unfold vX13_newStamp_44
  refine s_aload_n hZ.1 dX13_newStamp_44 rfl ?_
  refine s_dup hZ.1 dX13_newStamp_45 ?_
  refine yg13_95 dX13_newStamp_46 zw4216 ?_
  refine s_iconst dX13_newStamp_49 (by decide +kernel) ?_
  refine s_iadd dX13_newStamp_50 ?_
  refine yp13_95 hZ.1 dX13_newStamp_51 zw4216 ?_
  exact s_vret rfl dX13_newStamp_54
noncomputable def vX13_newStamp_39 (j : Nat → rx_K) : rx_K := o_ld rx_isR 0 (o_const 0 (o_putf rx_isI 13 95 ((vX13_newStamp_44 j))))
set_option maxRecDepth 20000 in
theorem wX13_newStamp_39 (hZ : zO b e D A X) (j : Nat → rx_K) (hj : ∀ k pc, [12][k]? = some pc → rx_OK (zV b e D A X) mX13_newStamp 0 pc (j k)) : rx_OK (zV b e D A X) mX13_newStamp 0 39 (vX13_newStamp_39 j) := by
  unfold vX13_newStamp_39
  refine s_aload_n hZ.1 dX13_newStamp_39 rfl ?_
  refine s_iconst dX13_newStamp_40 (by decide +kernel) ?_
  refine yp13_95 hZ.1 dX13_newStamp_41 zw4216 ?_
  exact (wX13_newStamp_44 hZ j hj)
noncomputable def vX13_newStamp_19 (j : Nat → rx_K) : rx_K := o_ld rx_isR 0 (o_getf 13 93 (o_ld rx_isI 1 (o_const 0 (o_ast 0 (fun v => v) rx_isI (o_ld rx_isR 0 (o_getf 13 94 (o_ld rx_isI 1 (o_const 0 (o_ast 0 (fun v => v) rx_isI (o_inc 1 (1) ((j 0))))))))))))
set_option maxRecDepth 20000 in
theorem wX13_newStamp_19 (hZ : zO b e D A X) (j : Nat → rx_K) (hj : ∀ k pc, [12][k]? = some pc → rx_OK (zV b e D A X) mX13_newStamp 0 pc (j k)) : rx_OK (zV b e D A X) mX13_newStamp 0 19 (vX13_newStamp_19 j) := by
  unfold vX13_newStamp_19
  refine s_aload_n hZ.1 dX13_newStamp_19 rfl ?_
  refine yg13_93 dX13_newStamp_20 zw4214 ?_
  refine s_iload_n hZ.1 dX13_newStamp_23 rfl ?_
  refine s_iconst dX13_newStamp_24 (by decide +kernel) ?_
  refine s_iast hZ.1 (tt := 0) rfl dX13_newStamp_25 ?_
  refine s_aload_n hZ.1 dX13_newStamp_26 rfl ?_
  refine yg13_94 dX13_newStamp_27 zw4215 ?_
  refine s_iload_n hZ.1 dX13_newStamp_30 rfl ?_
  refine s_iconst dX13_newStamp_31 (by decide +kernel) ?_
  refine s_iast hZ.1 (tt := 0) rfl dX13_newStamp_32 ?_
  refine s_iinc hZ.1 dX13_newStamp_33 (Nat.le_of_ble_eq_true rfl) ?_
  exact s_goto dX13_newStamp_36 (by decide) (hj 0 12 rfl)
noncomputable def vX13_newStamp_12 (j : Nat → rx_K) : rx_K := o_ld rx_isI 1 (o_const 1728 (o_c2 rx_lt (vX13_newStamp_19 j) (vX13_newStamp_39 j)))
set_option maxRecDepth 20000 in
theorem wX13_newStamp_12 (hZ : zO b e D A X) (j : Nat → rx_K) (hj : ∀ k pc, [12][k]? = some pc → rx_OK (zV b e D A X) mX13_newStamp 0 pc (j k)) : rx_OK (zV b e D A X) mX13_newStamp 0 12 (vX13_newStamp_12 j) := by
  unfold vX13_newStamp_12
  refine s_iload_n hZ.1 dX13_newStamp_12 rfl ?_
  refine s_sipush dX13_newStamp_13 (by decide +kernel) ?_
  exact s_icmp_ge dX13_newStamp_16 (by decide) (wX13_newStamp_39 hZ j hj) (wX13_newStamp_19 hZ j hj)
noncomputable def vX13_newStamp_10 (j : Nat → rx_K) : rx_K := o_const 0 (o_st rx_isI 1 ((vX13_newStamp_12 j)))
set_option maxRecDepth 20000 in
theorem wX13_newStamp_10 (hZ : zO b e D A X) (j : Nat → rx_K) (hj : ∀ k pc, [12][k]? = some pc → rx_OK (zV b e D A X) mX13_newStamp 0 pc (j k)) : rx_OK (zV b e D A X) mX13_newStamp 0 10 (vX13_newStamp_10 j) := by
  unfold vX13_newStamp_10
  refine s_iconst dX13_newStamp_10 (by decide +kernel) ?_
  refine s_istore_n hZ.1 dX13_newStamp_11 rfl (Nat.le_of_ble_eq_true rfl) ?_
  exact (wX13_newStamp_12 hZ j hj)
noncomputable def vX13_newStamp_0 (j : Nat → rx_K) : rx_K := o_ld rx_isR 0 (o_getf 13 95 (o_const 17179869176 (o_c2 rx_eq (vX13_newStamp_10 j) (vX13_newStamp_44 j))))
set_option maxRecDepth 20000 in
theorem wX13_newStamp_0 (hZ : zO b e D A X) (j : Nat → rx_K) (hj : ∀ k pc, [12][k]? = some pc → rx_OK (zV b e D A X) mX13_newStamp 0 pc (j k)) : rx_OK (zV b e D A X) mX13_newStamp 0 0 (vX13_newStamp_0 j) := by
  unfold vX13_newStamp_0
  refine s_aload_n hZ.1 dX13_newStamp_0 rfl ?_
  refine yg13_95 dX13_newStamp_1 zw4216 ?_
  refine s_ldcw dX13_newStamp_4 zw3217 (by decide +kernel) ?_
  exact s_icmp_ne dX13_newStamp_7 (by decide) (wX13_newStamp_44 hZ j hj) (wX13_newStamp_10 hZ j hj)
noncomputable def vhX13_newStamp (j : Nat → rx_K) : List rx_K := [vX13_newStamp_12 j]
theorem vlX13_newStamp (hZ : zO b e D A X) : ∀ n k pc, [12][k]? = some pc → rx_OK (zV b e D A X) mX13_newStamp 0 pc (rx_J (vhX13_newStamp) n k) := rx_loop fun j hj k pc h => by
  match k, h with
  | 0, h =>
    have e9 := Option.some.inj (show some 12 = some pc from h)
    subst e9
    exact wX13_newStamp_12 hZ j hj
  | _ + 1, h => exact absurd h (by simp)
noncomputable def FX13_newStamp : List Nat → rx_H → Option (Nat × rx_H) := rx_ent 2 (vX13_newStamp_0 (rx_J (vhX13_newStamp) 4000000000))
theorem Met_X13_newStamp (hZ : zO b e D A X) : rx_Met (zV b e D A X) 0 yX13_newStamp mX13_newStamp (FX13_newStamp) := rx_entry hZ.1 (wX13_newStamp_0 hZ _ (vlX13_newStamp hZ 4000000000)) (by decide +kernel) rfl (fun h => by cases h)
abbrev mX13_allFaces : rx_M := (RX13, cX13_allFaces, 9, (some .int), false)
theorem vy_X13_allFaces : rx_Y (zV b e D A X) yX13_allFaces mX13_allFaces 2 := ⟨zw3271, zw431, by decide, by decide +kernel, by decide +kernel, by decide +kernel⟩
noncomputable def vX13_allFaces_227 (j : Nat → rx_K) : rx_K := o_ld rx_isI 3 (o_ret1 rx_isI)
set_option maxRecDepth 20000 in
theorem wX13_allFaces_227 (hZ : zO b e D A X) (j : Nat → rx_K) (hj : ∀ k pc, [24, 174][k]? = some pc → rx_OK (zV b e D A X) mX13_allFaces 3 pc (j k)) : rx_OK (zV b e D A X) mX13_allFaces 3 227 (vX13_allFaces_227 j) := by
  unfold vX13_allFaces_227
  refine s_iload_n hZ.1 dX13_allFaces_227 rfl ?_
  exact s_iret hZ.1 rfl dX13_allFaces_228
noncomputable def vX13_allFaces_224 (j : Nat → rx_K) : rx_K := (j 0)
set_option maxRecDepth 20000 in
theorem wX13_allFaces_224 (hZ : zO b e D A X) (j : Nat → rx_K) (hj : ∀ k pc, [24, 174][k]? = some pc → rx_OK (zV b e D A X) mX13_allFaces 3 pc (j k)) : rx_OK (zV b e D A X) mX13_allFaces 3 224 (vX13_allFaces_224 j) := by
  unfold vX13_allFaces_224
  exact s_goto dX13_allFaces_224 (by decide) (hj 0 24 rfl)
noncomputable def vX13_allFaces_218 (j : Nat → rx_K) : rx_K := o_inc 7 (-1) ((j 1))
set_option maxRecDepth 20000 in
theorem wX13_allFaces_218 (hZ : zO b e D A X) (j : Nat → rx_K) (hj : ∀ k pc, [24, 174][k]? = some pc → rx_OK (zV b e D A X) mX13_allFaces 3 pc (j k)) : rx_OK (zV b e D A X) mX13_allFaces 3 218 (vX13_allFaces_218 j) := by
  unfold vX13_allFaces_218
  refine s_iinc hZ.1 dX13_allFaces_218 (Nat.le_of_ble_eq_true rfl) ?_
  exact s_goto dX13_allFaces_221 (by decide) (hj 1 174 rfl)
noncomputable def vX13_allFaces_204 (j : Nat → rx_K) : rx_K := o_ld rx_isR 0 (o_getf 13 96 (o_ld rx_isI 4 (o_inc 4 (1) (o_const 16 (o_ld rx_isI 8 (o_bi (fun x y => x * y) (o_ast 0 (fun v => v) rx_isI ((vX13_allFaces_218 j)))))))))
set_option maxRecDepth 20000 in
theorem wX13_allFaces_204 (hZ : zO b e D A X) (j : Nat → rx_K) (hj : ∀ k pc, [24, 174][k]? = some pc → rx_OK (zV b e D A X) mX13_allFaces 3 pc (j k)) : rx_OK (zV b e D A X) mX13_allFaces 3 204 (vX13_allFaces_204 j) := by
  unfold vX13_allFaces_204
  refine s_aload_n hZ.1 dX13_allFaces_204 rfl ?_
  refine yg13_96 dX13_allFaces_205 zw4217 ?_
  refine s_iload hZ.1 dX13_allFaces_208 ?_
  refine s_iinc hZ.1 dX13_allFaces_210 (Nat.le_of_ble_eq_true rfl) ?_
  refine s_iconst dX13_allFaces_213 (by decide +kernel) ?_
  refine s_iload hZ.1 dX13_allFaces_214 ?_
  refine s_imul dX13_allFaces_216 ?_
  refine s_iast hZ.1 (tt := 0) rfl dX13_allFaces_217 ?_
  exact (wX13_allFaces_218 hZ j hj)
noncomputable def vX13_allFaces_179 (j : Nat → rx_K) : rx_K := o_ld rx_isR 0 (o_ld rx_isR 0 (o_getf 13 30 (o_const 32 (o_ld rx_isI 5 (o_bi (fun x y => x * y) (o_ld rx_isI 7 (o_bi (fun x y => x + y) (o_ald 1 (o_callV 1 13 FX13_find (o_st rx_isI 8 (o_ld rx_isI 8 (o_const 34359738352 (o_c2 rx_eq (vX13_allFaces_218 j) (vX13_allFaces_204 j))))))))))))))
set_option maxRecDepth 20000 in
theorem wX13_allFaces_179 (hZ : zO b e D A X) (j : Nat → rx_K) (hj : ∀ k pc, [24, 174][k]? = some pc → rx_OK (zV b e D A X) mX13_allFaces 3 pc (j k)) : rx_OK (zV b e D A X) mX13_allFaces 3 179 (vX13_allFaces_179 j) := by
  unfold vX13_allFaces_179
  refine s_aload_n hZ.1 dX13_allFaces_179 rfl ?_
  refine s_aload_n hZ.1 dX13_allFaces_180 rfl ?_
  refine yg13_30 dX13_allFaces_181 zw4151 ?_
  refine s_iconst dX13_allFaces_184 (by decide +kernel) ?_
  refine s_iload hZ.1 dX13_allFaces_185 ?_
  refine s_imul dX13_allFaces_187 ?_
  refine s_iload hZ.1 dX13_allFaces_188 ?_
  refine s_iadd dX13_allFaces_190 ?_
  refine s_lald (tt := 1) rfl dX13_allFaces_191 ?_
  refine s_callV hZ.1 (Met_X13_find hZ) (Nat.le_of_ble_eq_true rfl) vy_X13_find zcl13 zw3186 zw226 (Or.inl zw3184) dX13_allFaces_192 ?_
  refine s_istore hZ.1 dX13_allFaces_195 (Nat.le_of_ble_eq_true rfl) ?_
  refine s_iload hZ.1 dX13_allFaces_197 ?_
  refine s_bipush dX13_allFaces_199 (by decide +kernel) ?_
  exact s_icmp_eq dX13_allFaces_201 (by decide) (wX13_allFaces_218 hZ j hj) (wX13_allFaces_204 hZ j hj)
noncomputable def vX13_allFaces_174 (j : Nat → rx_K) : rx_K := o_ld rx_isI 7 (o_c1 rx_lt (vX13_allFaces_224 j) (vX13_allFaces_179 j))
set_option maxRecDepth 20000 in
theorem wX13_allFaces_174 (hZ : zO b e D A X) (j : Nat → rx_K) (hj : ∀ k pc, [24, 174][k]? = some pc → rx_OK (zV b e D A X) mX13_allFaces 3 pc (j k)) : rx_OK (zV b e D A X) mX13_allFaces 3 174 (vX13_allFaces_174 j) := by
  unfold vX13_allFaces_174
  refine s_iload hZ.1 dX13_allFaces_174 ?_
  exact s_if_lt dX13_allFaces_176 (by decide) (wX13_allFaces_224 hZ j hj) (wX13_allFaces_179 hZ j hj)
noncomputable def vX13_allFaces_163 (j : Nat → rx_K) : rx_K := o_ld rx_isR 0 (o_getf 13 32 (o_ld rx_isI 5 (o_ald 0 (o_const 8 (o_bi (fun x y => x - y) (o_st rx_isI 7 ((vX13_allFaces_174 j))))))))
set_option maxRecDepth 20000 in
theorem wX13_allFaces_163 (hZ : zO b e D A X) (j : Nat → rx_K) (hj : ∀ k pc, [24, 174][k]? = some pc → rx_OK (zV b e D A X) mX13_allFaces 3 pc (j k)) : rx_OK (zV b e D A X) mX13_allFaces 3 163 (vX13_allFaces_163 j) := by
  unfold vX13_allFaces_163
  refine s_aload_n hZ.1 dX13_allFaces_163 rfl ?_
  refine yg13_32 dX13_allFaces_164 zw4153 ?_
  refine s_iload hZ.1 dX13_allFaces_167 ?_
  refine s_iald (tt := 0) rfl dX13_allFaces_169 ?_
  refine s_iconst dX13_allFaces_170 (by decide +kernel) ?_
  refine s_isub dX13_allFaces_171 ?_
  refine s_istore hZ.1 dX13_allFaces_172 (Nat.le_of_ble_eq_true rfl) ?_
  exact (wX13_allFaces_174 hZ j hj)
noncomputable def vX13_allFaces_147 (j : Nat → rx_K) : rx_K := o_ld rx_isR 0 (o_getf 13 96 (o_ld rx_isI 4 (o_inc 4 (1) (o_const 16 (o_ld rx_isI 6 (o_bi (fun x y => x * y) (o_const 8 (o_bi (fun x y => x + y) (o_ast 0 (fun v => v) rx_isI ((vX13_allFaces_163 j)))))))))))
set_option maxRecDepth 20000 in
theorem wX13_allFaces_147 (hZ : zO b e D A X) (j : Nat → rx_K) (hj : ∀ k pc, [24, 174][k]? = some pc → rx_OK (zV b e D A X) mX13_allFaces 3 pc (j k)) : rx_OK (zV b e D A X) mX13_allFaces 3 147 (vX13_allFaces_147 j) := by
  unfold vX13_allFaces_147
  refine s_aload_n hZ.1 dX13_allFaces_147 rfl ?_
  refine yg13_96 dX13_allFaces_148 zw4217 ?_
  refine s_iload hZ.1 dX13_allFaces_151 ?_
  refine s_iinc hZ.1 dX13_allFaces_153 (Nat.le_of_ble_eq_true rfl) ?_
  refine s_iconst dX13_allFaces_156 (by decide +kernel) ?_
  refine s_iload hZ.1 dX13_allFaces_157 ?_
  refine s_imul dX13_allFaces_159 ?_
  refine s_iconst dX13_allFaces_160 (by decide +kernel) ?_
  refine s_iadd dX13_allFaces_161 ?_
  refine s_iast hZ.1 (tt := 0) rfl dX13_allFaces_162 ?_
  exact (wX13_allFaces_163 hZ j hj)
noncomputable def vX13_allFaces_121 (j : Nat → rx_K) : rx_K := o_ld rx_isR 0 (o_getf 13 94 (o_ld rx_isI 5 (o_ld rx_isR 0 (o_getf 13 95 (o_ast 0 (fun v => v) rx_isI (o_ld rx_isR 0 (o_ld rx_isI 5 (o_callV 1 13 FX13_parent (o_st rx_isI 6 (o_ld rx_isI 6 (o_const 34359738352 (o_c2 rx_eq (vX13_allFaces_163 j) (vX13_allFaces_147 j)))))))))))))
set_option maxRecDepth 20000 in
theorem wX13_allFaces_121 (hZ : zO b e D A X) (j : Nat → rx_K) (hj : ∀ k pc, [24, 174][k]? = some pc → rx_OK (zV b e D A X) mX13_allFaces 3 pc (j k)) : rx_OK (zV b e D A X) mX13_allFaces 3 121 (vX13_allFaces_121 j) := by
  unfold vX13_allFaces_121
  refine s_aload_n hZ.1 dX13_allFaces_121 rfl ?_
  refine yg13_94 dX13_allFaces_122 zw4215 ?_
  refine s_iload hZ.1 dX13_allFaces_125 ?_
  refine s_aload_n hZ.1 dX13_allFaces_127 rfl ?_
  refine yg13_95 dX13_allFaces_128 zw4216 ?_
  refine s_iast hZ.1 (tt := 0) rfl dX13_allFaces_131 ?_
  refine s_aload_n hZ.1 dX13_allFaces_132 rfl ?_
  refine s_iload hZ.1 dX13_allFaces_133 ?_
  refine s_callV hZ.1 (Met_X13_parent hZ) (Nat.le_of_ble_eq_true rfl) vy_X13_parent zcl13 zw3220 zw233 (Or.inl zw3218) dX13_allFaces_135 ?_
  refine s_istore hZ.1 dX13_allFaces_138 (Nat.le_of_ble_eq_true rfl) ?_
  refine s_iload hZ.1 dX13_allFaces_140 ?_
  refine s_bipush dX13_allFaces_142 (by decide +kernel) ?_
  exact s_icmp_eq dX13_allFaces_144 (by decide) (wX13_allFaces_163 hZ j hj) (wX13_allFaces_147 hZ j hj)
noncomputable def vX13_allFaces_107 (j : Nat → rx_K) : rx_K := o_ld rx_isR 0 (o_getf 13 94 (o_ld rx_isI 5 (o_ald 0 (o_ld rx_isR 0 (o_getf 13 95 (o_c2 rx_eq (vX13_allFaces_224 j) (vX13_allFaces_121 j)))))))
set_option maxRecDepth 20000 in
theorem wX13_allFaces_107 (hZ : zO b e D A X) (j : Nat → rx_K) (hj : ∀ k pc, [24, 174][k]? = some pc → rx_OK (zV b e D A X) mX13_allFaces 3 pc (j k)) : rx_OK (zV b e D A X) mX13_allFaces 3 107 (vX13_allFaces_107 j) := by
  unfold vX13_allFaces_107
  refine s_aload_n hZ.1 dX13_allFaces_107 rfl ?_
  refine yg13_94 dX13_allFaces_108 zw4215 ?_
  refine s_iload hZ.1 dX13_allFaces_111 ?_
  refine s_iald (tt := 0) rfl dX13_allFaces_113 ?_
  refine s_aload_n hZ.1 dX13_allFaces_114 rfl ?_
  refine yg13_95 dX13_allFaces_115 zw4216 ?_
  exact s_icmp_eq dX13_allFaces_118 (by decide) (wX13_allFaces_224 hZ j hj) (wX13_allFaces_121 hZ j hj)
noncomputable def vX13_allFaces_69 (j : Nat → rx_K) : rx_K := o_ld rx_isR 0 (o_getf 13 93 (o_ld rx_isI 5 (o_ld rx_isR 0 (o_getf 13 95 (o_ast 0 (fun v => v) rx_isI (o_ld rx_isR 2 (o_ld rx_isI 3 (o_inc 3 (1) (o_ld rx_isI 5 (o_ast 0 (fun v => v) rx_isI (o_ld rx_isR 0 (o_getf 13 96 (o_ld rx_isI 4 (o_inc 4 (1) (o_const 16 (o_ld rx_isI 5 (o_bi (fun x y => x * y) (o_const 8 (o_bi (fun x y => x + y) (o_ast 0 (fun v => v) rx_isI ((vX13_allFaces_224 j))))))))))))))))))))))
set_option maxRecDepth 20000 in
theorem wX13_allFaces_69 (hZ : zO b e D A X) (j : Nat → rx_K) (hj : ∀ k pc, [24, 174][k]? = some pc → rx_OK (zV b e D A X) mX13_allFaces 3 pc (j k)) : rx_OK (zV b e D A X) mX13_allFaces 3 69 (vX13_allFaces_69 j) := by
  unfold vX13_allFaces_69
  refine s_aload_n hZ.1 dX13_allFaces_69 rfl ?_
  refine yg13_93 dX13_allFaces_70 zw4214 ?_
  refine s_iload hZ.1 dX13_allFaces_73 ?_
  refine s_aload_n hZ.1 dX13_allFaces_75 rfl ?_
  refine yg13_95 dX13_allFaces_76 zw4216 ?_
  refine s_iast hZ.1 (tt := 0) rfl dX13_allFaces_79 ?_
  refine s_aload_n hZ.1 dX13_allFaces_80 rfl ?_
  refine s_iload_n hZ.1 dX13_allFaces_81 rfl ?_
  refine s_iinc hZ.1 dX13_allFaces_82 (Nat.le_of_ble_eq_true rfl) ?_
  refine s_iload hZ.1 dX13_allFaces_85 ?_
  refine s_iast hZ.1 (tt := 0) rfl dX13_allFaces_87 ?_
  refine s_aload_n hZ.1 dX13_allFaces_88 rfl ?_
  refine yg13_96 dX13_allFaces_89 zw4217 ?_
  refine s_iload hZ.1 dX13_allFaces_92 ?_
  refine s_iinc hZ.1 dX13_allFaces_94 (Nat.le_of_ble_eq_true rfl) ?_
  refine s_iconst dX13_allFaces_97 (by decide +kernel) ?_
  refine s_iload hZ.1 dX13_allFaces_98 ?_
  refine s_imul dX13_allFaces_100 ?_
  refine s_iconst dX13_allFaces_101 (by decide +kernel) ?_
  refine s_iadd dX13_allFaces_102 ?_
  refine s_iast hZ.1 (tt := 0) rfl dX13_allFaces_103 ?_
  exact s_goto dX13_allFaces_104 (by decide) (wX13_allFaces_224 hZ j hj)
noncomputable def vX13_allFaces_55 (j : Nat → rx_K) : rx_K := o_ld rx_isR 0 (o_getf 13 93 (o_ld rx_isI 5 (o_ald 0 (o_ld rx_isR 0 (o_getf 13 95 (o_c2 rx_eq (vX13_allFaces_224 j) (vX13_allFaces_69 j)))))))
set_option maxRecDepth 20000 in
theorem wX13_allFaces_55 (hZ : zO b e D A X) (j : Nat → rx_K) (hj : ∀ k pc, [24, 174][k]? = some pc → rx_OK (zV b e D A X) mX13_allFaces 3 pc (j k)) : rx_OK (zV b e D A X) mX13_allFaces 3 55 (vX13_allFaces_55 j) := by
  unfold vX13_allFaces_55
  refine s_aload_n hZ.1 dX13_allFaces_55 rfl ?_
  refine yg13_93 dX13_allFaces_56 zw4214 ?_
  refine s_iload hZ.1 dX13_allFaces_59 ?_
  refine s_iald (tt := 0) rfl dX13_allFaces_61 ?_
  refine s_aload_n hZ.1 dX13_allFaces_62 rfl ?_
  refine yg13_95 dX13_allFaces_63 zw4216 ?_
  exact s_icmp_eq dX13_allFaces_66 (by decide) (wX13_allFaces_224 hZ j hj) (wX13_allFaces_69 hZ j hj)
noncomputable def vX13_allFaces_29 (j : Nat → rx_K) : rx_K := o_inc 4 (-1) (o_ld rx_isR 0 (o_getf 13 96 (o_ld rx_isI 4 (o_ald 0 (o_const 16 (o_bin (fun x y => x / y) (o_st rx_isI 5 (o_ld rx_isR 0 (o_getf 13 96 (o_ld rx_isI 4 (o_ald 0 (o_const 16 (o_bin (fun x y => x - x / y * y) (o_c1 rx_eq (vX13_allFaces_55 j) (vX13_allFaces_107 j)))))))))))))))
set_option maxRecDepth 20000 in
theorem wX13_allFaces_29 (hZ : zO b e D A X) (j : Nat → rx_K) (hj : ∀ k pc, [24, 174][k]? = some pc → rx_OK (zV b e D A X) mX13_allFaces 3 pc (j k)) : rx_OK (zV b e D A X) mX13_allFaces 3 29 (vX13_allFaces_29 j) := by
  unfold vX13_allFaces_29
  refine s_iinc hZ.1 dX13_allFaces_29 (Nat.le_of_ble_eq_true rfl) ?_
  refine s_aload_n hZ.1 dX13_allFaces_32 rfl ?_
  refine yg13_96 dX13_allFaces_33 zw4217 ?_
  refine s_iload hZ.1 dX13_allFaces_36 ?_
  refine s_iald (tt := 0) rfl dX13_allFaces_38 ?_
  refine s_iconst dX13_allFaces_39 (by decide +kernel) ?_
  refine s_idiv dX13_allFaces_40 ?_
  refine s_istore hZ.1 dX13_allFaces_41 (Nat.le_of_ble_eq_true rfl) ?_
  refine s_aload_n hZ.1 dX13_allFaces_43 rfl ?_
  refine yg13_96 dX13_allFaces_44 zw4217 ?_
  refine s_iload hZ.1 dX13_allFaces_47 ?_
  refine s_iald (tt := 0) rfl dX13_allFaces_49 ?_
  refine s_iconst dX13_allFaces_50 (by decide +kernel) ?_
  refine s_irem dX13_allFaces_51 ?_
  exact s_if_ne dX13_allFaces_52 (by decide) (wX13_allFaces_107 hZ j hj) (wX13_allFaces_55 hZ j hj)
noncomputable def vX13_allFaces_24 (j : Nat → rx_K) : rx_K := o_ld rx_isI 4 (o_c1 (fun h x y => rx_lt h y x) (vX13_allFaces_29 j) (vX13_allFaces_227 j))
set_option maxRecDepth 20000 in
theorem wX13_allFaces_24 (hZ : zO b e D A X) (j : Nat → rx_K) (hj : ∀ k pc, [24, 174][k]? = some pc → rx_OK (zV b e D A X) mX13_allFaces 3 pc (j k)) : rx_OK (zV b e D A X) mX13_allFaces 3 24 (vX13_allFaces_24 j) := by
  unfold vX13_allFaces_24
  refine s_iload hZ.1 dX13_allFaces_24 ?_
  exact s_if_le dX13_allFaces_26 (by decide) (wX13_allFaces_227 hZ j hj) (wX13_allFaces_29 hZ j hj)
noncomputable def vX13_allFaces_0 (j : Nat → rx_K) : rx_K := o_ld rx_isR 0 (o_callV 0 13 FX13_newStamp (o_const 0 (o_st rx_isI 3 (o_const 0 (o_st rx_isI 4 (o_ld rx_isR 0 (o_getf 13 96 (o_ld rx_isI 4 (o_inc 4 (1) (o_const 16 (o_ld rx_isI 1 (o_bi (fun x y => x * y) (o_const 8 (o_bi (fun x y => x + y) (o_ast 0 (fun v => v) rx_isI ((vX13_allFaces_24 j)))))))))))))))))
set_option maxRecDepth 20000 in
theorem wX13_allFaces_0 (hZ : zO b e D A X) (j : Nat → rx_K) (hj : ∀ k pc, [24, 174][k]? = some pc → rx_OK (zV b e D A X) mX13_allFaces 3 pc (j k)) : rx_OK (zV b e D A X) mX13_allFaces 3 0 (vX13_allFaces_0 j) := by
  unfold vX13_allFaces_0
  refine s_aload_n hZ.1 dX13_allFaces_0 rfl ?_
  refine s_callV hZ.1 (Met_X13_newStamp hZ) (Nat.le_of_ble_eq_true rfl) vy_X13_newStamp zcl13 zw3215 zw232 (Or.inl zw3213) dX13_allFaces_1 ?_
  refine s_iconst dX13_allFaces_4 (by decide +kernel) ?_
  refine s_istore_n hZ.1 dX13_allFaces_5 rfl (Nat.le_of_ble_eq_true rfl) ?_
  refine s_iconst dX13_allFaces_6 (by decide +kernel) ?_
  refine s_istore hZ.1 dX13_allFaces_7 (Nat.le_of_ble_eq_true rfl) ?_
  refine s_aload_n hZ.1 dX13_allFaces_9 rfl ?_
  refine yg13_96 dX13_allFaces_10 zw4217 ?_
  refine s_iload hZ.1 dX13_allFaces_13 ?_
  refine s_iinc hZ.1 dX13_allFaces_15 (Nat.le_of_ble_eq_true rfl) ?_
  refine s_iconst dX13_allFaces_18 (by decide +kernel) ?_
  refine s_iload_n hZ.1 dX13_allFaces_19 rfl ?_
  refine s_imul dX13_allFaces_20 ?_
  refine s_iconst dX13_allFaces_21 (by decide +kernel) ?_
  refine s_iadd dX13_allFaces_22 ?_
  refine s_iast hZ.1 (tt := 0) rfl dX13_allFaces_23 ?_
  exact (wX13_allFaces_24 hZ j hj)
noncomputable def vhX13_allFaces (j : Nat → rx_K) : List rx_K := [vX13_allFaces_24 j, vX13_allFaces_174 j]
theorem vlX13_allFaces (hZ : zO b e D A X) : ∀ n k pc, [24, 174][k]? = some pc → rx_OK (zV b e D A X) mX13_allFaces 3 pc (rx_J (vhX13_allFaces) n k) := rx_loop fun j hj k pc h => by
  match k, h with
  | 0, h =>
    have e9 := Option.some.inj (show some 24 = some pc from h)
    subst e9
    exact wX13_allFaces_24 hZ j hj
  | 1, h =>
    have e9 := Option.some.inj (show some 174 = some pc from h)
    subst e9
    exact wX13_allFaces_174 hZ j hj
  | _ + 2, h => exact absurd h (by simp)
noncomputable def FX13_allFaces : List Nat → rx_H → Option (Nat × rx_H) := rx_ent 9 (vX13_allFaces_0 (rx_J (vhX13_allFaces) 4000000000))
theorem Met_X13_allFaces (hZ : zO b e D A X) : rx_Met (zV b e D A X) 3 yX13_allFaces mX13_allFaces (FX13_allFaces) := rx_entry hZ.1 (wX13_allFaces_0 hZ _ (vlX13_allFaces hZ 4000000000)) (by decide +kernel) rfl (fun h => by cases h)
abbrev mX13_isHeir : rx_M := (RX13, cX13_isHeir, 9, (some .boolean), false)
theorem vy_X13_isHeir : rx_Y (zV b e D A X) yX13_isHeir mX13_isHeir 2 := ⟨zw3212, zw431, by decide, by decide +kernel, by decide +kernel, by decide +kernel⟩
noncomputable def vX13_isHeir_188 (j : Nat → rx_K) : rx_K := o_ld rx_isI 4 (o_ret1 rx_isZ)
set_option maxRecDepth 20000 in
theorem wX13_isHeir_188 (hZ : zO b e D A X) (j : Nat → rx_K) (hj : ∀ k pc, [19, 106][k]? = some pc → rx_OK (zV b e D A X) mX13_isHeir 3 pc (j k)) : rx_OK (zV b e D A X) mX13_isHeir 3 188 (vX13_isHeir_188 j) := by
  unfold vX13_isHeir_188
  refine s_iload hZ.1 dX13_isHeir_188 ?_
  exact s_zret rx_z_ok rfl dX13_isHeir_190
noncomputable def vX13_isHeir_185 (j : Nat → rx_K) : rx_K := (j 0)
set_option maxRecDepth 20000 in
theorem wX13_isHeir_185 (hZ : zO b e D A X) (j : Nat → rx_K) (hj : ∀ k pc, [19, 106][k]? = some pc → rx_OK (zV b e D A X) mX13_isHeir 3 pc (j k)) : rx_OK (zV b e D A X) mX13_isHeir 3 185 (vX13_isHeir_185 j) := by
  unfold vX13_isHeir_185
  exact s_goto dX13_isHeir_185 (by decide) (hj 0 19 rfl)
noncomputable def vX13_isHeir_179 (j : Nat → rx_K) : rx_K := o_inc 7 (1) ((j 1))
set_option maxRecDepth 20000 in
theorem wX13_isHeir_179 (hZ : zO b e D A X) (j : Nat → rx_K) (hj : ∀ k pc, [19, 106][k]? = some pc → rx_OK (zV b e D A X) mX13_isHeir 3 pc (j k)) : rx_OK (zV b e D A X) mX13_isHeir 3 179 (vX13_isHeir_179 j) := by
  unfold vX13_isHeir_179
  refine s_iinc hZ.1 dX13_isHeir_179 (Nat.le_of_ble_eq_true rfl) ?_
  exact s_goto dX13_isHeir_182 (by decide) (hj 1 106 rfl)
noncomputable def vX13_isHeir_168 (j : Nat → rx_K) : rx_K := o_ld rx_isR 0 (o_getf 13 96 (o_ld rx_isI 3 (o_inc 3 (1) (o_ld rx_isI 8 (o_ast 0 (fun v => v) rx_isI ((vX13_isHeir_179 j)))))))
set_option maxRecDepth 20000 in
theorem wX13_isHeir_168 (hZ : zO b e D A X) (j : Nat → rx_K) (hj : ∀ k pc, [19, 106][k]? = some pc → rx_OK (zV b e D A X) mX13_isHeir 3 pc (j k)) : rx_OK (zV b e D A X) mX13_isHeir 3 168 (vX13_isHeir_168 j) := by
  unfold vX13_isHeir_168
  refine s_aload_n hZ.1 dX13_isHeir_168 rfl ?_
  refine yg13_96 dX13_isHeir_169 zw4217 ?_
  refine s_iload_n hZ.1 dX13_isHeir_172 rfl ?_
  refine s_iinc hZ.1 dX13_isHeir_173 (Nat.le_of_ble_eq_true rfl) ?_
  refine s_iload hZ.1 dX13_isHeir_176 ?_
  refine s_iast hZ.1 (tt := 0) rfl dX13_isHeir_178 ?_
  exact (wX13_isHeir_179 hZ j hj)
noncomputable def vX13_isHeir_159 (j : Nat → rx_K) : rx_K := o_st rx_isI 4 (o_ld rx_isI 8 (o_const 34359738352 (o_c2 rx_eq (vX13_isHeir_179 j) (vX13_isHeir_168 j))))
set_option maxRecDepth 20000 in
theorem wX13_isHeir_159 (hZ : zO b e D A X) (j : Nat → rx_K) (hj : ∀ k pc, [19, 106][k]? = some pc → rx_OK (zV b e D A X) mX13_isHeir 3 pc (j k)) : rx_OK (zV b e D A X) mX13_isHeir 3 159 (vX13_isHeir_159 j) := by
  unfold vX13_isHeir_159
  refine s_istore hZ.1 dX13_isHeir_159 (Nat.le_of_ble_eq_true rfl) ?_
  refine s_iload hZ.1 dX13_isHeir_161 ?_
  refine s_bipush dX13_isHeir_163 (by decide +kernel) ?_
  exact s_icmp_eq dX13_isHeir_165 (by decide) (wX13_isHeir_179 hZ j hj) (wX13_isHeir_168 hZ j hj)
noncomputable def vX13_isHeir_158 (j : Nat → rx_K) : rx_K := o_const 0 ((vX13_isHeir_159 j))
set_option maxRecDepth 20000 in
theorem wX13_isHeir_158 (hZ : zO b e D A X) (j : Nat → rx_K) (hj : ∀ k pc, [19, 106][k]? = some pc → rx_OK (zV b e D A X) mX13_isHeir 3 pc (j k)) : rx_OK (zV b e D A X) mX13_isHeir 3 158 (vX13_isHeir_158 j) := by
  unfold vX13_isHeir_158
  refine s_iconst dX13_isHeir_158 (by decide +kernel) ?_
  exact (wX13_isHeir_159 hZ j hj)
noncomputable def vX13_isHeir_154 (j : Nat → rx_K) : rx_K := o_const 8 ((vX13_isHeir_159 j))
set_option maxRecDepth 20000 in
theorem wX13_isHeir_154 (hZ : zO b e D A X) (j : Nat → rx_K) (hj : ∀ k pc, [19, 106][k]? = some pc → rx_OK (zV b e D A X) mX13_isHeir 3 pc (j k)) : rx_OK (zV b e D A X) mX13_isHeir 3 154 (vX13_isHeir_154 j) := by
  unfold vX13_isHeir_154
  refine s_iconst dX13_isHeir_154 (by decide +kernel) ?_
  exact s_goto dX13_isHeir_155 (by decide) (wX13_isHeir_159 hZ j hj)
noncomputable def vX13_isHeir_147 (j : Nat → rx_K) : rx_K := o_ld rx_isI 8 (o_const 34359738352 (o_c2 rx_eq (vX13_isHeir_158 j) (vX13_isHeir_154 j)))
set_option maxRecDepth 20000 in
theorem wX13_isHeir_147 (hZ : zO b e D A X) (j : Nat → rx_K) (hj : ∀ k pc, [19, 106][k]? = some pc → rx_OK (zV b e D A X) mX13_isHeir 3 pc (j k)) : rx_OK (zV b e D A X) mX13_isHeir 3 147 (vX13_isHeir_147 j) := by
  unfold vX13_isHeir_147
  refine s_iload hZ.1 dX13_isHeir_147 ?_
  refine s_bipush dX13_isHeir_149 (by decide +kernel) ?_
  exact s_icmp_eq dX13_isHeir_151 (by decide) (wX13_isHeir_158 hZ j hj) (wX13_isHeir_154 hZ j hj)
noncomputable def vX13_isHeir_141 (j : Nat → rx_K) : rx_K := o_ld rx_isI 8 (o_ld rx_isI 2 (o_c2 rx_eq (vX13_isHeir_147 j) (vX13_isHeir_158 j)))
set_option maxRecDepth 20000 in
theorem wX13_isHeir_141 (hZ : zO b e D A X) (j : Nat → rx_K) (hj : ∀ k pc, [19, 106][k]? = some pc → rx_OK (zV b e D A X) mX13_isHeir 3 pc (j k)) : rx_OK (zV b e D A X) mX13_isHeir 3 141 (vX13_isHeir_141 j) := by
  unfold vX13_isHeir_141
  refine s_iload hZ.1 dX13_isHeir_141 ?_
  refine s_iload_n hZ.1 dX13_isHeir_143 rfl ?_
  exact s_icmp_ne dX13_isHeir_144 (by decide) (wX13_isHeir_158 hZ j hj) (wX13_isHeir_147 hZ j hj)
noncomputable def vX13_isHeir_118 (j : Nat → rx_K) : rx_K := o_ld rx_isR 0 (o_ld rx_isR 0 (o_getf 13 30 (o_const 32 (o_ld rx_isI 5 (o_bi (fun x y => x * y) (o_ld rx_isI 7 (o_bi (fun x y => x + y) (o_ald 1 (o_callV 1 13 FX13_find (o_st rx_isI 8 (o_ld rx_isI 4 (o_c1 rx_eq (vX13_isHeir_141 j) (vX13_isHeir_154 j)))))))))))))
set_option maxRecDepth 20000 in
theorem wX13_isHeir_118 (hZ : zO b e D A X) (j : Nat → rx_K) (hj : ∀ k pc, [19, 106][k]? = some pc → rx_OK (zV b e D A X) mX13_isHeir 3 pc (j k)) : rx_OK (zV b e D A X) mX13_isHeir 3 118 (vX13_isHeir_118 j) := by
  unfold vX13_isHeir_118
  refine s_aload_n hZ.1 dX13_isHeir_118 rfl ?_
  refine s_aload_n hZ.1 dX13_isHeir_119 rfl ?_
  refine yg13_30 dX13_isHeir_120 zw4151 ?_
  refine s_iconst dX13_isHeir_123 (by decide +kernel) ?_
  refine s_iload hZ.1 dX13_isHeir_124 ?_
  refine s_imul dX13_isHeir_126 ?_
  refine s_iload hZ.1 dX13_isHeir_127 ?_
  refine s_iadd dX13_isHeir_129 ?_
  refine s_lald (tt := 1) rfl dX13_isHeir_130 ?_
  refine s_callV hZ.1 (Met_X13_find hZ) (Nat.le_of_ble_eq_true rfl) vy_X13_find zcl13 zw3186 zw226 (Or.inl zw3184) dX13_isHeir_131 ?_
  refine s_istore hZ.1 dX13_isHeir_134 (Nat.le_of_ble_eq_true rfl) ?_
  refine s_iload hZ.1 dX13_isHeir_136 ?_
  exact s_if_ne dX13_isHeir_138 (by decide) (wX13_isHeir_154 hZ j hj) (wX13_isHeir_141 hZ j hj)
noncomputable def vX13_isHeir_106 (j : Nat → rx_K) : rx_K := o_ld rx_isI 7 (o_ld rx_isR 0 (o_getf 13 32 (o_ld rx_isI 5 (o_ald 0 (o_c2 rx_lt (vX13_isHeir_118 j) (vX13_isHeir_185 j))))))
set_option maxRecDepth 20000 in
theorem wX13_isHeir_106 (hZ : zO b e D A X) (j : Nat → rx_K) (hj : ∀ k pc, [19, 106][k]? = some pc → rx_OK (zV b e D A X) mX13_isHeir 3 pc (j k)) : rx_OK (zV b e D A X) mX13_isHeir 3 106 (vX13_isHeir_106 j) := by
  unfold vX13_isHeir_106
  refine s_iload hZ.1 dX13_isHeir_106 ?_
  refine s_aload_n hZ.1 dX13_isHeir_108 rfl ?_
  refine yg13_32 dX13_isHeir_109 zw4153 ?_
  refine s_iload hZ.1 dX13_isHeir_112 ?_
  refine s_iald (tt := 0) rfl dX13_isHeir_114 ?_
  exact s_icmp_ge dX13_isHeir_115 (by decide) (wX13_isHeir_185 hZ j hj) (wX13_isHeir_118 hZ j hj)
noncomputable def vX13_isHeir_103 (j : Nat → rx_K) : rx_K := o_const 0 (o_st rx_isI 7 ((vX13_isHeir_106 j)))
set_option maxRecDepth 20000 in
theorem wX13_isHeir_103 (hZ : zO b e D A X) (j : Nat → rx_K) (hj : ∀ k pc, [19, 106][k]? = some pc → rx_OK (zV b e D A X) mX13_isHeir 3 pc (j k)) : rx_OK (zV b e D A X) mX13_isHeir 3 103 (vX13_isHeir_103 j) := by
  unfold vX13_isHeir_103
  refine s_iconst dX13_isHeir_103 (by decide +kernel) ?_
  refine s_istore hZ.1 dX13_isHeir_104 (Nat.le_of_ble_eq_true rfl) ?_
  exact (wX13_isHeir_106 hZ j hj)
noncomputable def vX13_isHeir_92 (j : Nat → rx_K) : rx_K := o_ld rx_isR 0 (o_getf 13 96 (o_ld rx_isI 3 (o_inc 3 (1) (o_ld rx_isI 6 (o_ast 0 (fun v => v) rx_isI ((vX13_isHeir_103 j)))))))
set_option maxRecDepth 20000 in
theorem wX13_isHeir_92 (hZ : zO b e D A X) (j : Nat → rx_K) (hj : ∀ k pc, [19, 106][k]? = some pc → rx_OK (zV b e D A X) mX13_isHeir 3 pc (j k)) : rx_OK (zV b e D A X) mX13_isHeir 3 92 (vX13_isHeir_92 j) := by
  unfold vX13_isHeir_92
  refine s_aload_n hZ.1 dX13_isHeir_92 rfl ?_
  refine yg13_96 dX13_isHeir_93 zw4217 ?_
  refine s_iload_n hZ.1 dX13_isHeir_96 rfl ?_
  refine s_iinc hZ.1 dX13_isHeir_97 (Nat.le_of_ble_eq_true rfl) ?_
  refine s_iload hZ.1 dX13_isHeir_100 ?_
  refine s_iast hZ.1 (tt := 0) rfl dX13_isHeir_102 ?_
  exact (wX13_isHeir_103 hZ j hj)
noncomputable def vX13_isHeir_83 (j : Nat → rx_K) : rx_K := o_st rx_isI 4 (o_ld rx_isI 6 (o_const 34359738352 (o_c2 rx_eq (vX13_isHeir_103 j) (vX13_isHeir_92 j))))
set_option maxRecDepth 20000 in
theorem wX13_isHeir_83 (hZ : zO b e D A X) (j : Nat → rx_K) (hj : ∀ k pc, [19, 106][k]? = some pc → rx_OK (zV b e D A X) mX13_isHeir 3 pc (j k)) : rx_OK (zV b e D A X) mX13_isHeir 3 83 (vX13_isHeir_83 j) := by
  unfold vX13_isHeir_83
  refine s_istore hZ.1 dX13_isHeir_83 (Nat.le_of_ble_eq_true rfl) ?_
  refine s_iload hZ.1 dX13_isHeir_85 ?_
  refine s_bipush dX13_isHeir_87 (by decide +kernel) ?_
  exact s_icmp_eq dX13_isHeir_89 (by decide) (wX13_isHeir_103 hZ j hj) (wX13_isHeir_92 hZ j hj)
noncomputable def vX13_isHeir_82 (j : Nat → rx_K) : rx_K := o_const 0 ((vX13_isHeir_83 j))
set_option maxRecDepth 20000 in
theorem wX13_isHeir_82 (hZ : zO b e D A X) (j : Nat → rx_K) (hj : ∀ k pc, [19, 106][k]? = some pc → rx_OK (zV b e D A X) mX13_isHeir 3 pc (j k)) : rx_OK (zV b e D A X) mX13_isHeir 3 82 (vX13_isHeir_82 j) := by
  unfold vX13_isHeir_82
  refine s_iconst dX13_isHeir_82 (by decide +kernel) ?_
  exact (wX13_isHeir_83 hZ j hj)
noncomputable def vX13_isHeir_78 (j : Nat → rx_K) : rx_K := o_const 8 ((vX13_isHeir_83 j))
set_option maxRecDepth 20000 in
theorem wX13_isHeir_78 (hZ : zO b e D A X) (j : Nat → rx_K) (hj : ∀ k pc, [19, 106][k]? = some pc → rx_OK (zV b e D A X) mX13_isHeir 3 pc (j k)) : rx_OK (zV b e D A X) mX13_isHeir 3 78 (vX13_isHeir_78 j) := by
  unfold vX13_isHeir_78
  refine s_iconst dX13_isHeir_78 (by decide +kernel) ?_
  exact s_goto dX13_isHeir_79 (by decide) (wX13_isHeir_83 hZ j hj)
noncomputable def vX13_isHeir_53 (j : Nat → rx_K) : rx_K := o_ld rx_isR 0 (o_getf 13 94 (o_ld rx_isI 5 (o_ld rx_isR 0 (o_getf 13 95 (o_ast 0 (fun v => v) rx_isI (o_ld rx_isR 0 (o_ld rx_isI 5 (o_callV 1 13 FX13_parent (o_st rx_isI 6 (o_ld rx_isI 6 (o_ld rx_isI 2 (o_c2 rx_eq (vX13_isHeir_78 j) (vX13_isHeir_82 j)))))))))))))
set_option maxRecDepth 20000 in
theorem wX13_isHeir_53 (hZ : zO b e D A X) (j : Nat → rx_K) (hj : ∀ k pc, [19, 106][k]? = some pc → rx_OK (zV b e D A X) mX13_isHeir 3 pc (j k)) : rx_OK (zV b e D A X) mX13_isHeir 3 53 (vX13_isHeir_53 j) := by
  unfold vX13_isHeir_53
  refine s_aload_n hZ.1 dX13_isHeir_53 rfl ?_
  refine yg13_94 dX13_isHeir_54 zw4215 ?_
  refine s_iload hZ.1 dX13_isHeir_57 ?_
  refine s_aload_n hZ.1 dX13_isHeir_59 rfl ?_
  refine yg13_95 dX13_isHeir_60 zw4216 ?_
  refine s_iast hZ.1 (tt := 0) rfl dX13_isHeir_63 ?_
  refine s_aload_n hZ.1 dX13_isHeir_64 rfl ?_
  refine s_iload hZ.1 dX13_isHeir_65 ?_
  refine s_callV hZ.1 (Met_X13_parent hZ) (Nat.le_of_ble_eq_true rfl) vy_X13_parent zcl13 zw3220 zw233 (Or.inl zw3218) dX13_isHeir_67 ?_
  refine s_istore hZ.1 dX13_isHeir_70 (Nat.le_of_ble_eq_true rfl) ?_
  refine s_iload hZ.1 dX13_isHeir_72 ?_
  refine s_iload_n hZ.1 dX13_isHeir_74 rfl ?_
  exact s_icmp_ne dX13_isHeir_75 (by decide) (wX13_isHeir_82 hZ j hj) (wX13_isHeir_78 hZ j hj)
noncomputable def vX13_isHeir_28 (j : Nat → rx_K) : rx_K := o_inc 3 (-1) (o_ld rx_isR 0 (o_getf 13 96 (o_ld rx_isI 3 (o_ald 0 (o_st rx_isI 5 (o_ld rx_isR 0 (o_getf 13 94 (o_ld rx_isI 5 (o_ald 0 (o_ld rx_isR 0 (o_getf 13 95 (o_c2 rx_eq (vX13_isHeir_185 j) (vX13_isHeir_53 j)))))))))))))
set_option maxRecDepth 20000 in
theorem wX13_isHeir_28 (hZ : zO b e D A X) (j : Nat → rx_K) (hj : ∀ k pc, [19, 106][k]? = some pc → rx_OK (zV b e D A X) mX13_isHeir 3 pc (j k)) : rx_OK (zV b e D A X) mX13_isHeir 3 28 (vX13_isHeir_28 j) := by
  unfold vX13_isHeir_28
  refine s_iinc hZ.1 dX13_isHeir_28 (Nat.le_of_ble_eq_true rfl) ?_
  refine s_aload_n hZ.1 dX13_isHeir_31 rfl ?_
  refine yg13_96 dX13_isHeir_32 zw4217 ?_
  refine s_iload_n hZ.1 dX13_isHeir_35 rfl ?_
  refine s_iald (tt := 0) rfl dX13_isHeir_36 ?_
  refine s_istore hZ.1 dX13_isHeir_37 (Nat.le_of_ble_eq_true rfl) ?_
  refine s_aload_n hZ.1 dX13_isHeir_39 rfl ?_
  refine yg13_94 dX13_isHeir_40 zw4215 ?_
  refine s_iload hZ.1 dX13_isHeir_43 ?_
  refine s_iald (tt := 0) rfl dX13_isHeir_45 ?_
  refine s_aload_n hZ.1 dX13_isHeir_46 rfl ?_
  refine yg13_95 dX13_isHeir_47 zw4216 ?_
  exact s_icmp_eq dX13_isHeir_50 (by decide) (wX13_isHeir_185 hZ j hj) (wX13_isHeir_53 hZ j hj)
noncomputable def vX13_isHeir_23 (j : Nat → rx_K) : rx_K := o_ld rx_isI 4 (o_c1 rx_eq (vX13_isHeir_28 j) (vX13_isHeir_188 j))
set_option maxRecDepth 20000 in
theorem wX13_isHeir_23 (hZ : zO b e D A X) (j : Nat → rx_K) (hj : ∀ k pc, [19, 106][k]? = some pc → rx_OK (zV b e D A X) mX13_isHeir 3 pc (j k)) : rx_OK (zV b e D A X) mX13_isHeir 3 23 (vX13_isHeir_23 j) := by
  unfold vX13_isHeir_23
  refine s_iload hZ.1 dX13_isHeir_23 ?_
  exact s_if_ne dX13_isHeir_25 (by decide) (wX13_isHeir_188 hZ j hj) (wX13_isHeir_28 hZ j hj)
noncomputable def vX13_isHeir_19 (j : Nat → rx_K) : rx_K := o_ld rx_isI 3 (o_c1 (fun h x y => rx_lt h y x) (vX13_isHeir_23 j) (vX13_isHeir_188 j))
set_option maxRecDepth 20000 in
theorem wX13_isHeir_19 (hZ : zO b e D A X) (j : Nat → rx_K) (hj : ∀ k pc, [19, 106][k]? = some pc → rx_OK (zV b e D A X) mX13_isHeir 3 pc (j k)) : rx_OK (zV b e D A X) mX13_isHeir 3 19 (vX13_isHeir_19 j) := by
  unfold vX13_isHeir_19
  refine s_iload_n hZ.1 dX13_isHeir_19 rfl ?_
  exact s_if_le dX13_isHeir_20 (by decide) (wX13_isHeir_188 hZ j hj) (wX13_isHeir_23 hZ j hj)
noncomputable def vX13_isHeir_0 (j : Nat → rx_K) : rx_K := o_ld rx_isR 0 (o_callV 0 13 FX13_newStamp (o_const 0 (o_st rx_isI 3 (o_ld rx_isR 0 (o_getf 13 96 (o_ld rx_isI 3 (o_inc 3 (1) (o_ld rx_isI 1 (o_ast 0 (fun v => v) rx_isI (o_const 0 (o_st rx_isI 4 ((vX13_isHeir_19 j)))))))))))))
set_option maxRecDepth 20000 in
theorem wX13_isHeir_0 (hZ : zO b e D A X) (j : Nat → rx_K) (hj : ∀ k pc, [19, 106][k]? = some pc → rx_OK (zV b e D A X) mX13_isHeir 3 pc (j k)) : rx_OK (zV b e D A X) mX13_isHeir 3 0 (vX13_isHeir_0 j) := by
  unfold vX13_isHeir_0
  refine s_aload_n hZ.1 dX13_isHeir_0 rfl ?_
  refine s_callV hZ.1 (Met_X13_newStamp hZ) (Nat.le_of_ble_eq_true rfl) vy_X13_newStamp zcl13 zw3215 zw232 (Or.inl zw3213) dX13_isHeir_1 ?_
  refine s_iconst dX13_isHeir_4 (by decide +kernel) ?_
  refine s_istore_n hZ.1 dX13_isHeir_5 rfl (Nat.le_of_ble_eq_true rfl) ?_
  refine s_aload_n hZ.1 dX13_isHeir_6 rfl ?_
  refine yg13_96 dX13_isHeir_7 zw4217 ?_
  refine s_iload_n hZ.1 dX13_isHeir_10 rfl ?_
  refine s_iinc hZ.1 dX13_isHeir_11 (Nat.le_of_ble_eq_true rfl) ?_
  refine s_iload_n hZ.1 dX13_isHeir_14 rfl ?_
  refine s_iast hZ.1 (tt := 0) rfl dX13_isHeir_15 ?_
  refine s_iconst dX13_isHeir_16 (by decide +kernel) ?_
  refine s_istore hZ.1 dX13_isHeir_17 (Nat.le_of_ble_eq_true rfl) ?_
  exact (wX13_isHeir_19 hZ j hj)
noncomputable def vhX13_isHeir (j : Nat → rx_K) : List rx_K := [vX13_isHeir_19 j, vX13_isHeir_106 j]
theorem vlX13_isHeir (hZ : zO b e D A X) : ∀ n k pc, [19, 106][k]? = some pc → rx_OK (zV b e D A X) mX13_isHeir 3 pc (rx_J (vhX13_isHeir) n k) := rx_loop fun j hj k pc h => by
  match k, h with
  | 0, h =>
    have e9 := Option.some.inj (show some 19 = some pc from h)
    subst e9
    exact wX13_isHeir_19 hZ j hj
  | 1, h =>
    have e9 := Option.some.inj (show some 106 = some pc from h)
    subst e9
    exact wX13_isHeir_106 hZ j hj
  | _ + 2, h => exact absurd h (by simp)
noncomputable def FX13_isHeir : List Nat → rx_H → Option (Nat × rx_H) := rx_ent 9 (vX13_isHeir_0 (rx_J (vhX13_isHeir) 4000000000))
theorem Met_X13_isHeir (hZ : zO b e D A X) : rx_Met (zV b e D A X) 3 yX13_isHeir mX13_isHeir (FX13_isHeir) := rx_entry hZ.1 (wX13_isHeir_0 hZ _ (vlX13_isHeir hZ 4000000000)) (by decide +kernel) rfl (fun h => by cases h)
abbrev mX13_fits : rx_M := (RX13, cX13_fits, 7, (some .boolean), false)
theorem vy_X13_fits : rx_Y (zV b e D A X) yX13_fits mX13_fits 2 := ⟨zw3279, zw431, by decide, by decide +kernel, by decide +kernel, by decide +kernel⟩
noncomputable def vX13_fits_126 : rx_K := o_ret1 rx_isZ
set_option maxRecDepth 20000 in
theorem wX13_fits_126 (hZ : zO b e D A X) : rx_OK (zV b e D A X) mX13_fits 4 126 vX13_fits_126 := by
  unfold vX13_fits_126
  exact s_zret rx_z_ok rfl dX13_fits_126
noncomputable def vX13_fits_125 : rx_K := o_const 0 (vX13_fits_126)
set_option maxRecDepth 20000 in
theorem wX13_fits_125 (hZ : zO b e D A X) : rx_OK (zV b e D A X) mX13_fits 4 125 vX13_fits_125 := by
  unfold vX13_fits_125
  refine s_iconst dX13_fits_125 (by decide +kernel) ?_
  exact (wX13_fits_126 hZ)
noncomputable def vX13_fits_121 : rx_K := o_const 8 (vX13_fits_126)
set_option maxRecDepth 20000 in
theorem wX13_fits_121 (hZ : zO b e D A X) : rx_OK (zV b e D A X) mX13_fits 4 121 vX13_fits_121 := by
  unfold vX13_fits_121
  refine s_iconst dX13_fits_121 (by decide +kernel) ?_
  exact s_goto dX13_fits_122 (by decide) (wX13_fits_126 hZ)
noncomputable def vX13_fits_110 : rx_K := o_ld rx_isR 0 (o_ld rx_isI 5 (o_ld rx_isI 6 (o_callV 2 13 FX13_isHeir (o_c1 rx_eq vX13_fits_125 vX13_fits_121))))
set_option maxRecDepth 20000 in
theorem wX13_fits_110 (hZ : zO b e D A X) : rx_OK (zV b e D A X) mX13_fits 4 110 vX13_fits_110 := by
  unfold vX13_fits_110
  refine s_aload_n hZ.1 dX13_fits_110 rfl ?_
  refine s_iload hZ.1 dX13_fits_111 ?_
  refine s_iload hZ.1 dX13_fits_113 ?_
  refine s_callV hZ.1 (Met_X13_isHeir hZ) (Nat.le_of_ble_eq_true rfl) vy_X13_isHeir zcl13 zw3211 zw231 (Or.inl zw3209) dX13_fits_115 ?_
  exact s_if_eq dX13_fits_118 (by decide) (wX13_fits_125 hZ) (wX13_fits_121 hZ)
noncomputable def vX13_fits_101 : rx_K := o_ld rx_isR 0 (o_ld rx_isI 5 (o_callV 1 13 FX13_isFace (o_c1 rx_eq vX13_fits_110 vX13_fits_121)))
set_option maxRecDepth 20000 in
theorem wX13_fits_101 (hZ : zO b e D A X) : rx_OK (zV b e D A X) mX13_fits 4 101 vX13_fits_101 := by
  unfold vX13_fits_101
  refine s_aload_n hZ.1 dX13_fits_101 rfl ?_
  refine s_iload hZ.1 dX13_fits_102 ?_
  refine s_callV hZ.1 (Met_X13_isFace hZ) (Nat.le_of_ble_eq_true rfl) vy_X13_isFace zcl13 zw3192 zw227 (Or.inl zw3190) dX13_fits_104 ?_
  exact s_if_ne dX13_fits_107 (by decide) (wX13_fits_121 hZ) (wX13_fits_110 hZ)
noncomputable def vX13_fits_93 : rx_K := o_ld rx_isI 6 (o_const 1632 (o_c2 rx_eq vX13_fits_101 vX13_fits_110))
set_option maxRecDepth 20000 in
theorem wX13_fits_93 (hZ : zO b e D A X) : rx_OK (zV b e D A X) mX13_fits 4 93 vX13_fits_93 := by
  unfold vX13_fits_93
  refine s_iload hZ.1 dX13_fits_93 ?_
  refine s_sipush dX13_fits_95 (by decide +kernel) ?_
  exact s_icmp_ne dX13_fits_98 (by decide) (wX13_fits_110 hZ) (wX13_fits_101 hZ)
noncomputable def vX13_fits_86 : rx_K := o_ld rx_isI 6 (o_const 34359738352 (o_c2 rx_eq vX13_fits_125 vX13_fits_93))
set_option maxRecDepth 20000 in
theorem wX13_fits_86 (hZ : zO b e D A X) : rx_OK (zV b e D A X) mX13_fits 4 86 vX13_fits_86 := by
  unfold vX13_fits_86
  refine s_iload hZ.1 dX13_fits_86 ?_
  refine s_bipush dX13_fits_88 (by decide +kernel) ?_
  exact s_icmp_eq dX13_fits_90 (by decide) (wX13_fits_125 hZ) (wX13_fits_93 hZ)
noncomputable def vX13_fits_65 : rx_K := o_ld rx_isR 0 (o_ld rx_isL 1 (o_callV 1 13 FX13_find (o_st rx_isI 5 (o_ld rx_isR 0 (o_ld rx_isL 3 (o_callV 1 13 FX13_find (o_st rx_isI 6 (o_ld rx_isI 5 (o_const 34359738352 (o_c2 rx_eq vX13_fits_125 vX13_fits_86))))))))))
set_option maxRecDepth 20000 in
theorem wX13_fits_65 (hZ : zO b e D A X) : rx_OK (zV b e D A X) mX13_fits 4 65 vX13_fits_65 := by
  unfold vX13_fits_65
  refine s_aload_n hZ.1 dX13_fits_65 rfl ?_
  refine s_lload_n hZ.1 dX13_fits_66 rfl ?_
  refine s_callV hZ.1 (Met_X13_find hZ) (Nat.le_of_ble_eq_true rfl) vy_X13_find zcl13 zw3186 zw226 (Or.inl zw3184) dX13_fits_67 ?_
  refine s_istore hZ.1 dX13_fits_70 (Nat.le_of_ble_eq_true rfl) ?_
  refine s_aload_n hZ.1 dX13_fits_72 rfl ?_
  refine s_lload_n hZ.1 dX13_fits_73 rfl ?_
  refine s_callV hZ.1 (Met_X13_find hZ) (Nat.le_of_ble_eq_true rfl) vy_X13_find zcl13 zw3186 zw226 (Or.inl zw3184) dX13_fits_74 ?_
  refine s_istore hZ.1 dX13_fits_77 (Nat.le_of_ble_eq_true rfl) ?_
  refine s_iload hZ.1 dX13_fits_79 ?_
  refine s_bipush dX13_fits_81 (by decide +kernel) ?_
  exact s_icmp_eq dX13_fits_83 (by decide) (wX13_fits_125 hZ) (wX13_fits_86 hZ)
noncomputable def vX13_fits_64 : rx_K := o_ret1 rx_isZ
set_option maxRecDepth 20000 in
theorem wX13_fits_64 (hZ : zO b e D A X) : rx_OK (zV b e D A X) mX13_fits 4 64 vX13_fits_64 := by
  unfold vX13_fits_64
  exact s_zret rx_z_ok rfl dX13_fits_64
noncomputable def vX13_fits_63 : rx_K := o_const 0 (vX13_fits_64)
set_option maxRecDepth 20000 in
theorem wX13_fits_63 (hZ : zO b e D A X) : rx_OK (zV b e D A X) mX13_fits 4 63 vX13_fits_63 := by
  unfold vX13_fits_63
  refine s_iconst dX13_fits_63 (by decide +kernel) ?_
  exact (wX13_fits_64 hZ)
noncomputable def vX13_fits_59 : rx_K := o_const 8 (vX13_fits_64)
set_option maxRecDepth 20000 in
theorem wX13_fits_59 (hZ : zO b e D A X) : rx_OK (zV b e D A X) mX13_fits 4 59 vX13_fits_59 := by
  unfold vX13_fits_59
  refine s_iconst dX13_fits_59 (by decide +kernel) ?_
  exact s_goto dX13_fits_60 (by decide) (wX13_fits_64 hZ)
noncomputable def vX13_fits_52 : rx_K := o_ld rx_isL 3 (o_callS 1 FX13_isC (o_c1 rx_eq vX13_fits_63 vX13_fits_59))
set_option maxRecDepth 20000 in
theorem wX13_fits_52 (hZ : zO b e D A X) : rx_OK (zV b e D A X) mX13_fits 4 52 vX13_fits_52 := by
  unfold vX13_fits_52
  refine s_lload_n hZ.1 dX13_fits_52 rfl ?_
  refine s_callS hZ.1 (Met_X13_isC hZ) (Nat.le_of_ble_eq_true rfl) vy_X13_isC zw3239 (Or.inl zw3238) dX13_fits_53 ?_
  exact s_if_eq dX13_fits_56 (by decide) (wX13_fits_63 hZ) (wX13_fits_59 hZ)
noncomputable def vX13_fits_44 : rx_K := o_ld rx_isL 1 (o_const 25 (o_bc (fun x y => lg_cmp x y) (o_c1 rx_eq vX13_fits_52 vX13_fits_63)))
set_option maxRecDepth 20000 in
theorem wX13_fits_44 (hZ : zO b e D A X) : rx_OK (zV b e D A X) mX13_fits 4 44 vX13_fits_44 := by
  unfold vX13_fits_44
  refine s_lload_n hZ.1 dX13_fits_44 rfl ?_
  refine s_ldc2 dX13_fits_45 zw3280 (by decide +kernel) ?_
  refine s_lcmp dX13_fits_48 ?_
  exact s_if_ne dX13_fits_49 (by decide) (wX13_fits_63 hZ) (wX13_fits_52 hZ)
noncomputable def vX13_fits_37 : rx_K := o_ld rx_isL 3 (o_callS 1 FX13_isC (o_c1 rx_eq vX13_fits_44 vX13_fits_65))
set_option maxRecDepth 20000 in
theorem wX13_fits_37 (hZ : zO b e D A X) : rx_OK (zV b e D A X) mX13_fits 4 37 vX13_fits_37 := by
  unfold vX13_fits_37
  refine s_lload_n hZ.1 dX13_fits_37 rfl ?_
  refine s_callS hZ.1 (Met_X13_isC hZ) (Nat.le_of_ble_eq_true rfl) vy_X13_isC zw3239 (Or.inl zw3238) dX13_fits_38 ?_
  exact s_if_ne dX13_fits_41 (by decide) (wX13_fits_65 hZ) (wX13_fits_44 hZ)
noncomputable def vX13_fits_30 : rx_K := o_ld rx_isL 1 (o_callS 1 FX13_isC (o_c1 rx_eq vX13_fits_44 vX13_fits_37))
set_option maxRecDepth 20000 in
theorem wX13_fits_30 (hZ : zO b e D A X) : rx_OK (zV b e D A X) mX13_fits 4 30 vX13_fits_30 := by
  unfold vX13_fits_30
  refine s_lload_n hZ.1 dX13_fits_30 rfl ?_
  refine s_callS hZ.1 (Met_X13_isC hZ) (Nat.le_of_ble_eq_true rfl) vy_X13_isC zw3239 (Or.inl zw3238) dX13_fits_31 ?_
  exact s_if_eq dX13_fits_34 (by decide) (wX13_fits_44 hZ) (wX13_fits_37 hZ)
noncomputable def vX13_fits_22 : rx_K := o_ld rx_isL 1 (o_const 25 (o_bc (fun x y => lg_cmp x y) (o_c1 rx_eq vX13_fits_44 vX13_fits_30)))
set_option maxRecDepth 20000 in
theorem wX13_fits_22 (hZ : zO b e D A X) : rx_OK (zV b e D A X) mX13_fits 4 22 vX13_fits_22 := by
  unfold vX13_fits_22
  refine s_lload_n hZ.1 dX13_fits_22 rfl ?_
  refine s_ldc2 dX13_fits_23 zw3280 (by decide +kernel) ?_
  refine s_lcmp dX13_fits_26 ?_
  exact s_if_eq dX13_fits_27 (by decide) (wX13_fits_44 hZ) (wX13_fits_30 hZ)
noncomputable def vX13_fits_20 : rx_K := o_const 8 (o_ret1 rx_isZ)
set_option maxRecDepth 20000 in
theorem wX13_fits_20 (hZ : zO b e D A X) : rx_OK (zV b e D A X) mX13_fits 4 20 vX13_fits_20 := by
  unfold vX13_fits_20
  refine s_iconst dX13_fits_20 (by decide +kernel) ?_
  exact s_zret rx_z_ok rfl dX13_fits_21
noncomputable def vX13_fits_14 : rx_K := o_ld rx_isL 1 (o_ld rx_isL 3 (o_bc (fun x y => lg_cmp x y) (o_c1 rx_eq vX13_fits_20 vX13_fits_22)))
set_option maxRecDepth 20000 in
theorem wX13_fits_14 (hZ : zO b e D A X) : rx_OK (zV b e D A X) mX13_fits 4 14 vX13_fits_14 := by
  unfold vX13_fits_14
  refine s_lload_n hZ.1 dX13_fits_14 rfl ?_
  refine s_lload_n hZ.1 dX13_fits_15 rfl ?_
  refine s_lcmp dX13_fits_16 ?_
  exact s_if_ne dX13_fits_17 (by decide) (wX13_fits_22 hZ) (wX13_fits_20 hZ)
noncomputable def vX13_fits_12 : rx_K := o_const 0 (o_ret1 rx_isZ)
set_option maxRecDepth 20000 in
theorem wX13_fits_12 (hZ : zO b e D A X) : rx_OK (zV b e D A X) mX13_fits 4 12 vX13_fits_12 := by
  unfold vX13_fits_12
  refine s_iconst dX13_fits_12 (by decide +kernel) ?_
  exact s_zret rx_z_ok rfl dX13_fits_13
noncomputable def vX13_fits_6 : rx_K := o_ld rx_isL 3 (o_const 9 (o_bc (fun x y => lg_cmp x y) (o_c1 rx_eq vX13_fits_12 vX13_fits_14)))
set_option maxRecDepth 20000 in
theorem wX13_fits_6 (hZ : zO b e D A X) : rx_OK (zV b e D A X) mX13_fits 4 6 vX13_fits_6 := by
  unfold vX13_fits_6
  refine s_lload_n hZ.1 dX13_fits_6 rfl ?_
  refine s_lconst dX13_fits_7 (by decide +kernel) ?_
  refine s_lcmp dX13_fits_8 ?_
  exact s_if_ne dX13_fits_9 (by decide) (wX13_fits_14 hZ) (wX13_fits_12 hZ)
noncomputable def vX13_fits_0 : rx_K := o_ld rx_isL 1 (o_const 9 (o_bc (fun x y => lg_cmp x y) (o_c1 rx_eq vX13_fits_12 vX13_fits_6)))
set_option maxRecDepth 20000 in
theorem wX13_fits_0 (hZ : zO b e D A X) : rx_OK (zV b e D A X) mX13_fits 4 0 vX13_fits_0 := by
  unfold vX13_fits_0
  refine s_lload_n hZ.1 dX13_fits_0 rfl ?_
  refine s_lconst dX13_fits_1 (by decide +kernel) ?_
  refine s_lcmp dX13_fits_2 ?_
  exact s_if_eq dX13_fits_3 (by decide) (wX13_fits_12 hZ) (wX13_fits_6 hZ)
noncomputable def FX13_fits : List Nat → rx_H → Option (Nat × rx_H) := rx_ent 7 vX13_fits_0
theorem Met_X13_fits (hZ : zO b e D A X) : rx_Met (zV b e D A X) 4 yX13_fits mX13_fits (FX13_fits) := rx_entry hZ.1 (wX13_fits_0 hZ) (by decide +kernel) rfl (fun h => by cases h)
abbrev mX13_isLet : rx_M := (RX13, cX13_isLet, 3, (some .boolean), false)
theorem vy_X13_isLet : rx_Y (zV b e D A X) yX13_isLet mX13_isLet 2 := ⟨zw3201, zw431, by decide, by decide +kernel, by decide +kernel, by decide +kernel⟩
noncomputable def vX13_isLet_23 : rx_K := o_ret1 rx_isZ
set_option maxRecDepth 20000 in
theorem wX13_isLet_23 (hZ : zO b e D A X) : rx_OK (zV b e D A X) mX13_isLet 3 23 vX13_isLet_23 := by
  unfold vX13_isLet_23
  exact s_zret rx_z_ok rfl dX13_isLet_23
noncomputable def vX13_isLet_22 : rx_K := o_const 0 (vX13_isLet_23)
set_option maxRecDepth 20000 in
theorem wX13_isLet_22 (hZ : zO b e D A X) : rx_OK (zV b e D A X) mX13_isLet 3 22 vX13_isLet_22 := by
  unfold vX13_isLet_22
  refine s_iconst dX13_isLet_22 (by decide +kernel) ?_
  exact (wX13_isLet_23 hZ)
noncomputable def vX13_isLet_18 : rx_K := o_const 8 (vX13_isLet_23)
set_option maxRecDepth 20000 in
theorem wX13_isLet_18 (hZ : zO b e D A X) : rx_OK (zV b e D A X) mX13_isLet 3 18 vX13_isLet_18 := by
  unfold vX13_isLet_18
  refine s_iconst dX13_isLet_18 (by decide +kernel) ?_
  exact s_goto dX13_isLet_19 (by decide) (wX13_isLet_23 hZ)
noncomputable def vX13_isLet_9 : rx_K := o_ld rx_isR 0 (o_ld rx_isI 1 (o_ld rx_isI 2 (o_callV 2 13 FX13_onePackage (o_c1 rx_eq vX13_isLet_22 vX13_isLet_18))))
set_option maxRecDepth 20000 in
theorem wX13_isLet_9 (hZ : zO b e D A X) : rx_OK (zV b e D A X) mX13_isLet 3 9 vX13_isLet_9 := by
  unfold vX13_isLet_9
  refine s_aload_n hZ.1 dX13_isLet_9 rfl ?_
  refine s_iload_n hZ.1 dX13_isLet_10 rfl ?_
  refine s_iload_n hZ.1 dX13_isLet_11 rfl ?_
  refine s_callV hZ.1 (Met_X13_onePackage hZ) (Nat.le_of_ble_eq_true rfl) vy_X13_onePackage zcl13 zw3204 zw230 (Or.inl zw3202) dX13_isLet_12 ?_
  exact s_if_eq dX13_isLet_15 (by decide) (wX13_isLet_22 hZ) (wX13_isLet_18 hZ)
noncomputable def vX13_isLet_0 : rx_K := o_ld rx_isR 0 (o_getf 13 26 (o_ld rx_isI 1 (o_ald 3 (o_c1 rx_eq vX13_isLet_9 vX13_isLet_18))))
set_option maxRecDepth 20000 in
theorem wX13_isLet_0 (hZ : zO b e D A X) : rx_OK (zV b e D A X) mX13_isLet 3 0 vX13_isLet_0 := by
  unfold vX13_isLet_0
  refine s_aload_n hZ.1 dX13_isLet_0 rfl ?_
  refine yg13_26 dX13_isLet_1 zw4147 ?_
  refine s_iload_n hZ.1 dX13_isLet_4 rfl ?_
  refine s_zald (tt := 3) rfl dX13_isLet_5 ?_
  exact s_if_ne dX13_isLet_6 (by decide) (wX13_isLet_18 hZ) (wX13_isLet_9 hZ)
noncomputable def FX13_isLet : List Nat → rx_H → Option (Nat × rx_H) := rx_ent 3 vX13_isLet_0
theorem Met_X13_isLet (hZ : zO b e D A X) : rx_Met (zV b e D A X) 3 yX13_isLet mX13_isLet (FX13_isLet) := rx_entry hZ.1 (wX13_isLet_0 hZ) (by decide +kernel) rfl (fun h => by cases h)
abbrev mX13_stands : rx_M := (RX13, cX13_stands, 7, (some .boolean), false)
theorem vy_X13_stands : rx_Y (zV b e D A X) yX13_stands mX13_stands 4 := ⟨zw3208, zw431, by decide, by decide +kernel, by decide +kernel, by decide +kernel⟩
noncomputable def vX13_stands_41 (j : Nat → rx_K) : rx_K := o_ld rx_isI 5 (o_ret1 rx_isZ)
set_option maxRecDepth 20000 in
theorem wX13_stands_41 (hZ : zO b e D A X) (j : Nat → rx_K) (hj : ∀ k pc, [6][k]? = some pc → rx_OK (zV b e D A X) mX13_stands 0 pc (j k)) : rx_OK (zV b e D A X) mX13_stands 0 41 (vX13_stands_41 j) := by
  unfold vX13_stands_41
  refine s_iload hZ.1 dX13_stands_41 ?_
  exact s_zret rx_z_ok rfl dX13_stands_43
noncomputable def vX13_stands_33 (j : Nat → rx_K) : rx_K := o_st rx_isI 5 (o_inc 6 (1) ((j 0)))
set_option maxRecDepth 20000 in
theorem wX13_stands_33 (hZ : zO b e D A X) (j : Nat → rx_K) (hj : ∀ k pc, [6][k]? = some pc → rx_OK (zV b e D A X) mX13_stands 0 pc (j k)) : rx_OK (zV b e D A X) mX13_stands 0 33 (vX13_stands_33 j) := by
  unfold vX13_stands_33
  refine s_istore hZ.1 dX13_stands_33 (Nat.le_of_ble_eq_true rfl) ?_
  refine s_iinc hZ.1 dX13_stands_35 (Nat.le_of_ble_eq_true rfl) ?_
  exact s_goto dX13_stands_38 (by decide) (hj 0 6 rfl)
noncomputable def vX13_stands_32 (j : Nat → rx_K) : rx_K := o_const 0 ((vX13_stands_33 j))
set_option maxRecDepth 20000 in
theorem wX13_stands_32 (hZ : zO b e D A X) (j : Nat → rx_K) (hj : ∀ k pc, [6][k]? = some pc → rx_OK (zV b e D A X) mX13_stands 0 pc (j k)) : rx_OK (zV b e D A X) mX13_stands 0 32 (vX13_stands_32 j) := by
  unfold vX13_stands_32
  refine s_iconst dX13_stands_32 (by decide +kernel) ?_
  exact (wX13_stands_33 hZ j hj)
noncomputable def vX13_stands_28 (j : Nat → rx_K) : rx_K := o_const 8 ((vX13_stands_33 j))
set_option maxRecDepth 20000 in
theorem wX13_stands_28 (hZ : zO b e D A X) (j : Nat → rx_K) (hj : ∀ k pc, [6][k]? = some pc → rx_OK (zV b e D A X) mX13_stands 0 pc (j k)) : rx_OK (zV b e D A X) mX13_stands 0 28 (vX13_stands_28 j) := by
  unfold vX13_stands_28
  refine s_iconst dX13_stands_28 (by decide +kernel) ?_
  exact s_goto dX13_stands_29 (by decide) (wX13_stands_33 hZ j hj)
noncomputable def vX13_stands_17 (j : Nat → rx_K) : rx_K := o_ld rx_isR 0 (o_ld rx_isI 1 (o_ld rx_isI 6 (o_bi (fun x y => x + y) (o_ald 1 (o_ld rx_isL 3 (o_bc (fun x y => lg_cmp x y) (o_c1 rx_eq (vX13_stands_28 j) (vX13_stands_32 j))))))))
set_option maxRecDepth 20000 in
theorem wX13_stands_17 (hZ : zO b e D A X) (j : Nat → rx_K) (hj : ∀ k pc, [6][k]? = some pc → rx_OK (zV b e D A X) mX13_stands 0 pc (j k)) : rx_OK (zV b e D A X) mX13_stands 0 17 (vX13_stands_17 j) := by
  unfold vX13_stands_17
  refine s_aload_n hZ.1 dX13_stands_17 rfl ?_
  refine s_iload_n hZ.1 dX13_stands_18 rfl ?_
  refine s_iload hZ.1 dX13_stands_19 ?_
  refine s_iadd dX13_stands_21 ?_
  refine s_lald (tt := 1) rfl dX13_stands_22 ?_
  refine s_lload_n hZ.1 dX13_stands_23 rfl ?_
  refine s_lcmp dX13_stands_24 ?_
  exact s_if_ne dX13_stands_25 (by decide) (wX13_stands_32 hZ j hj) (wX13_stands_28 hZ j hj)
noncomputable def vX13_stands_12 (j : Nat → rx_K) : rx_K := o_ld rx_isI 5 (o_c1 rx_eq (vX13_stands_17 j) (vX13_stands_28 j))
set_option maxRecDepth 20000 in
theorem wX13_stands_12 (hZ : zO b e D A X) (j : Nat → rx_K) (hj : ∀ k pc, [6][k]? = some pc → rx_OK (zV b e D A X) mX13_stands 0 pc (j k)) : rx_OK (zV b e D A X) mX13_stands 0 12 (vX13_stands_12 j) := by
  unfold vX13_stands_12
  refine s_iload hZ.1 dX13_stands_12 ?_
  exact s_if_ne dX13_stands_14 (by decide) (wX13_stands_28 hZ j hj) (wX13_stands_17 hZ j hj)
noncomputable def vX13_stands_6 (j : Nat → rx_K) : rx_K := o_ld rx_isI 6 (o_ld rx_isI 2 (o_c2 rx_lt (vX13_stands_12 j) (vX13_stands_41 j)))
set_option maxRecDepth 20000 in
theorem wX13_stands_6 (hZ : zO b e D A X) (j : Nat → rx_K) (hj : ∀ k pc, [6][k]? = some pc → rx_OK (zV b e D A X) mX13_stands 0 pc (j k)) : rx_OK (zV b e D A X) mX13_stands 0 6 (vX13_stands_6 j) := by
  unfold vX13_stands_6
  refine s_iload hZ.1 dX13_stands_6 ?_
  refine s_iload_n hZ.1 dX13_stands_8 rfl ?_
  exact s_icmp_ge dX13_stands_9 (by decide) (wX13_stands_41 hZ j hj) (wX13_stands_12 hZ j hj)
noncomputable def vX13_stands_0 (j : Nat → rx_K) : rx_K := o_const 0 (o_st rx_isI 5 (o_const 0 (o_st rx_isI 6 ((vX13_stands_6 j)))))
set_option maxRecDepth 20000 in
theorem wX13_stands_0 (hZ : zO b e D A X) (j : Nat → rx_K) (hj : ∀ k pc, [6][k]? = some pc → rx_OK (zV b e D A X) mX13_stands 0 pc (j k)) : rx_OK (zV b e D A X) mX13_stands 0 0 (vX13_stands_0 j) := by
  unfold vX13_stands_0
  refine s_iconst dX13_stands_0 (by decide +kernel) ?_
  refine s_istore hZ.1 dX13_stands_1 (Nat.le_of_ble_eq_true rfl) ?_
  refine s_iconst dX13_stands_3 (by decide +kernel) ?_
  refine s_istore hZ.1 dX13_stands_4 (Nat.le_of_ble_eq_true rfl) ?_
  exact (wX13_stands_6 hZ j hj)
noncomputable def vhX13_stands (j : Nat → rx_K) : List rx_K := [vX13_stands_6 j]
theorem vlX13_stands (hZ : zO b e D A X) : ∀ n k pc, [6][k]? = some pc → rx_OK (zV b e D A X) mX13_stands 0 pc (rx_J (vhX13_stands) n k) := rx_loop fun j hj k pc h => by
  match k, h with
  | 0, h =>
    have e9 := Option.some.inj (show some 6 = some pc from h)
    subst e9
    exact wX13_stands_6 hZ j hj
  | _ + 1, h => exact absurd h (by simp)
noncomputable def FX13_stands : List Nat → rx_H → Option (Nat × rx_H) := rx_ent 7 (vX13_stands_0 (rx_J (vhX13_stands) 4000000000))
theorem Met_X13_stands (hZ : zO b e D A X) : rx_Met (zV b e D A X) 0 yX13_stands mX13_stands (FX13_stands) := rx_entry hZ.1 (wX13_stands_0 hZ _ (vlX13_stands hZ 4000000000)) (by decide +kernel) rfl (fun h => by cases h)
abbrev mX13_event : rx_M := (RX13, cX13_event, 3, none, false)
theorem vy_X13_event : rx_Y (zV b e D A X) yX13_event mX13_event 2 := ⟨zw3380, zw431, by decide, by decide +kernel, by decide +kernel, by decide +kernel⟩
noncomputable def vX13_event_43 : rx_K := o_ret0
set_option maxRecDepth 20000 in
theorem wX13_event_43 (hZ : zO b e D A X) : rx_OK (zV b e D A X) mX13_event 0 43 vX13_event_43 := by
  unfold vX13_event_43
  exact s_vret rfl dX13_event_43
noncomputable def vX13_event_13 : rx_K := o_ld rx_isR 0 (o_getf 13 135 (o_ld rx_isR 0 (o_getf 13 136 (o_const 800 (o_ld rx_isR 0 (o_getf 13 131 (o_ld rx_isI 1 (o_ald 0 (o_bi (fun x y => x * y) (o_ld rx_isI 2 (o_bi (fun x y => x + y) (o_ast 0 (fun v => v) rx_isI (o_ld rx_isR 0 (o_dup (o_getf 13 136 (o_const 8 (o_bi (fun x y => x + y) (o_putf rx_isI 13 136 (vX13_event_43)))))))))))))))))))
set_option maxRecDepth 20000 in
theorem wX13_event_13 (hZ : zO b e D A X) : rx_OK (zV b e D A X) mX13_event 0 13 vX13_event_13 := by
  unfold vX13_event_13
  refine s_aload_n hZ.1 dX13_event_13 rfl ?_
  refine yg13_135 dX13_event_14 zw4255 ?_
  refine s_aload_n hZ.1 dX13_event_17 rfl ?_
  refine yg13_136 dX13_event_18 zw4256 ?_
  refine s_bipush dX13_event_21 (by decide +kernel) ?_
  refine s_aload_n hZ.1 dX13_event_23 rfl ?_
  refine yg13_131 dX13_event_24 zw4251 ?_
  refine s_iload_n hZ.1 dX13_event_27 rfl ?_
  refine s_iald (tt := 0) rfl dX13_event_28 ?_
  refine s_imul dX13_event_29 ?_
  refine s_iload_n hZ.1 dX13_event_30 rfl ?_
  refine s_iadd dX13_event_31 ?_
  refine s_iast hZ.1 (tt := 0) rfl dX13_event_32 ?_
  refine s_aload_n hZ.1 dX13_event_33 rfl ?_
  refine s_dup hZ.1 dX13_event_34 ?_
  refine yg13_136 dX13_event_35 zw4256 ?_
  refine s_iconst dX13_event_38 (by decide +kernel) ?_
  refine s_iadd dX13_event_39 ?_
  refine yp13_136 hZ.1 dX13_event_40 zw4256 ?_
  exact (wX13_event_43 hZ)
noncomputable def vX13_event_7 : rx_K := o_ld rx_isI 2 (o_const 64 (o_c2 rx_eq vX13_event_43 vX13_event_13))
set_option maxRecDepth 20000 in
theorem wX13_event_7 (hZ : zO b e D A X) : rx_OK (zV b e D A X) mX13_event 0 7 vX13_event_7 := by
  unfold vX13_event_7
  refine s_iload_n hZ.1 dX13_event_7 rfl ?_
  refine s_bipush dX13_event_8 (by decide +kernel) ?_
  exact s_icmp_eq dX13_event_10 (by decide) (wX13_event_43 hZ) (wX13_event_13 hZ)
noncomputable def vX13_event_0 : rx_K := o_ld rx_isR 0 (o_getf 13 134 (o_c1 rx_eq vX13_event_7 vX13_event_43))
set_option maxRecDepth 20000 in
theorem wX13_event_0 (hZ : zO b e D A X) : rx_OK (zV b e D A X) mX13_event 0 0 vX13_event_0 := by
  unfold vX13_event_0
  refine s_aload_n hZ.1 dX13_event_0 rfl ?_
  refine yg13_134 dX13_event_1 zw4254 ?_
  exact s_if_ne dX13_event_4 (by decide) (wX13_event_43 hZ) (wX13_event_7 hZ)
noncomputable def FX13_event : List Nat → rx_H → Option (Nat × rx_H) := rx_ent 3 vX13_event_0
theorem Met_X13_event (hZ : zO b e D A X) : rx_Met (zV b e D A X) 0 yX13_event mX13_event (FX13_event) := rx_entry hZ.1 (wX13_event_0 hZ) (by decide +kernel) rfl (fun h => by cases h)
abbrev mX13_becomes : rx_M := (RX13, cX13_becomes, 4, none, false)
theorem vy_X13_becomes : rx_Y (zV b e D A X) yX13_becomes mX13_becomes 3 := ⟨zw3376, zw431, by decide, by decide +kernel, by decide +kernel, by decide +kernel⟩
noncomputable def vX13_becomes_36 : rx_K := o_ld rx_isI 2 (o_callV 2 13 FX13_event (o_ret0))
set_option maxRecDepth 20000 in
theorem wX13_becomes_36 (hZ : zO b e D A X) : rx_OK (zV b e D A X) mX13_becomes 1 36 vX13_becomes_36 := by
  unfold vX13_becomes_36
  refine s_iload_n hZ.1 dX13_becomes_36 rfl ?_
  refine s_callV hZ.1 (Met_X13_event hZ) (Nat.le_of_ble_eq_true rfl) vy_X13_event zcl13 zw3379 zw270 (Or.inl zw3377) dX13_becomes_37 ?_
  exact s_vret rfl dX13_becomes_40
noncomputable def vX13_becomes_0 : rx_K := o_ld rx_isR 0 (o_getf 13 132 (o_ld rx_isR 0 (o_getf 13 134 (o_ld rx_isR 0 (o_getf 13 131 (o_ld rx_isI 1 (o_ald 0 (o_bi (fun x y => x + y) (o_ld rx_isI 2 (o_ast 0 (fun v => v) rx_isI (o_ld rx_isR 0 (o_getf 13 133 (o_ld rx_isR 0 (o_getf 13 134 (o_ld rx_isR 0 (o_getf 13 131 (o_ld rx_isI 1 (o_ald 0 (o_bi (fun x y => x + y) (o_ld rx_isI 3 (o_ast 0 (fun v => v) rx_isI (o_ld rx_isR 0 (o_ld rx_isI 1 (vX13_becomes_36))))))))))))))))))))))))
set_option maxRecDepth 20000 in
theorem wX13_becomes_0 (hZ : zO b e D A X) : rx_OK (zV b e D A X) mX13_becomes 1 0 vX13_becomes_0 := by
  unfold vX13_becomes_0
  refine s_aload_n hZ.1 dX13_becomes_0 rfl ?_
  refine yg13_132 dX13_becomes_1 zw4252 ?_
  refine s_aload_n hZ.1 dX13_becomes_4 rfl ?_
  refine yg13_134 dX13_becomes_5 zw4254 ?_
  refine s_aload_n hZ.1 dX13_becomes_8 rfl ?_
  refine yg13_131 dX13_becomes_9 zw4251 ?_
  refine s_iload_n hZ.1 dX13_becomes_12 rfl ?_
  refine s_iald (tt := 0) rfl dX13_becomes_13 ?_
  refine s_iadd dX13_becomes_14 ?_
  refine s_iload_n hZ.1 dX13_becomes_15 rfl ?_
  refine s_iast hZ.1 (tt := 0) rfl dX13_becomes_16 ?_
  refine s_aload_n hZ.1 dX13_becomes_17 rfl ?_
  refine yg13_133 dX13_becomes_18 zw4253 ?_
  refine s_aload_n hZ.1 dX13_becomes_21 rfl ?_
  refine yg13_134 dX13_becomes_22 zw4254 ?_
  refine s_aload_n hZ.1 dX13_becomes_25 rfl ?_
  refine yg13_131 dX13_becomes_26 zw4251 ?_
  refine s_iload_n hZ.1 dX13_becomes_29 rfl ?_
  refine s_iald (tt := 0) rfl dX13_becomes_30 ?_
  refine s_iadd dX13_becomes_31 ?_
  refine s_iload_n hZ.1 dX13_becomes_32 rfl ?_
  refine s_iast hZ.1 (tt := 0) rfl dX13_becomes_33 ?_
  refine s_aload_n hZ.1 dX13_becomes_34 rfl ?_
  refine s_iload_n hZ.1 dX13_becomes_35 rfl ?_
  exact (wX13_becomes_36 hZ)
noncomputable def FX13_becomes : List Nat → rx_H → Option (Nat × rx_H) := rx_ent 4 vX13_becomes_0
theorem Met_X13_becomes (hZ : zO b e D A X) : rx_Met (zV b e D A X) 1 yX13_becomes mX13_becomes (FX13_becomes) := rx_entry hZ.1 (wX13_becomes_0 hZ) (by decide +kernel) rfl (fun h => by cases h)
abbrev mX13_letsBelow : rx_M := (RX13, cX13_letsBelow, 3, (some .boolean), false)
theorem vy_X13_letsBelow : rx_Y (zV b e D A X) yX13_letsBelow mX13_letsBelow 2 := ⟨zw3197, zw431, by decide, by decide +kernel, by decide +kernel, by decide +kernel⟩
noncomputable def vX13_letsBelow_49 : rx_K := o_ret1 rx_isZ
set_option maxRecDepth 20000 in
theorem wX13_letsBelow_49 (hZ : zO b e D A X) : rx_OK (zV b e D A X) mX13_letsBelow 4 49 vX13_letsBelow_49 := by
  unfold vX13_letsBelow_49
  exact s_zret rx_z_ok rfl dX13_letsBelow_49
noncomputable def vX13_letsBelow_48 : rx_K := o_const 0 (vX13_letsBelow_49)
set_option maxRecDepth 20000 in
theorem wX13_letsBelow_48 (hZ : zO b e D A X) : rx_OK (zV b e D A X) mX13_letsBelow 4 48 vX13_letsBelow_48 := by
  unfold vX13_letsBelow_48
  refine s_iconst dX13_letsBelow_48 (by decide +kernel) ?_
  exact (wX13_letsBelow_49 hZ)
noncomputable def vX13_letsBelow_44 : rx_K := o_const 8 (vX13_letsBelow_49)
set_option maxRecDepth 20000 in
theorem wX13_letsBelow_44 (hZ : zO b e D A X) : rx_OK (zV b e D A X) mX13_letsBelow 4 44 vX13_letsBelow_44 := by
  unfold vX13_letsBelow_44
  refine s_iconst dX13_letsBelow_44 (by decide +kernel) ?_
  exact s_goto dX13_letsBelow_45 (by decide) (wX13_letsBelow_49 hZ)
noncomputable def vX13_letsBelow_18 : rx_K := o_ld rx_isR 0 (o_getf 13 38 (o_const 64 (o_ld rx_isI 1 (o_bi (fun x y => x * y) (o_ld rx_isR 0 (o_getf 13 40 (o_ld rx_isI 1 (o_ald 0 (o_ld rx_isR 0 (o_getf 13 24 (o_ld rx_isI 2 (o_ald 1 (o_callS 4 FX13_stands (o_c1 rx_eq vX13_letsBelow_48 vX13_letsBelow_44))))))))))))))
set_option maxRecDepth 20000 in
theorem wX13_letsBelow_18 (hZ : zO b e D A X) : rx_OK (zV b e D A X) mX13_letsBelow 4 18 vX13_letsBelow_18 := by
  unfold vX13_letsBelow_18
  refine s_aload_n hZ.1 dX13_letsBelow_18 rfl ?_
  refine yg13_38 dX13_letsBelow_19 zw4159 ?_
  refine s_bipush dX13_letsBelow_22 (by decide +kernel) ?_
  refine s_iload_n hZ.1 dX13_letsBelow_24 rfl ?_
  refine s_imul dX13_letsBelow_25 ?_
  refine s_aload_n hZ.1 dX13_letsBelow_26 rfl ?_
  refine yg13_40 dX13_letsBelow_27 zw4161 ?_
  refine s_iload_n hZ.1 dX13_letsBelow_30 rfl ?_
  refine s_iald (tt := 0) rfl dX13_letsBelow_31 ?_
  refine s_aload_n hZ.1 dX13_letsBelow_32 rfl ?_
  refine yg13_24 dX13_letsBelow_33 zw4145 ?_
  refine s_iload_n hZ.1 dX13_letsBelow_36 rfl ?_
  refine s_lald (tt := 1) rfl dX13_letsBelow_37 ?_
  refine s_callS hZ.1 (Met_X13_stands hZ) (Nat.le_of_ble_eq_true rfl) vy_X13_stands zw3207 (Or.inl zw3206) dX13_letsBelow_38 ?_
  exact s_if_eq dX13_letsBelow_41 (by decide) (wX13_letsBelow_48 hZ) (wX13_letsBelow_44 hZ)
noncomputable def vX13_letsBelow_9 : rx_K := o_ld rx_isR 0 (o_getf 13 40 (o_ld rx_isI 1 (o_ald 0 (o_c1 rx_eq vX13_letsBelow_44 vX13_letsBelow_18))))
set_option maxRecDepth 20000 in
theorem wX13_letsBelow_9 (hZ : zO b e D A X) : rx_OK (zV b e D A X) mX13_letsBelow 4 9 vX13_letsBelow_9 := by
  unfold vX13_letsBelow_9
  refine s_aload_n hZ.1 dX13_letsBelow_9 rfl ?_
  refine yg13_40 dX13_letsBelow_10 zw4161 ?_
  refine s_iload_n hZ.1 dX13_letsBelow_13 rfl ?_
  refine s_iald (tt := 0) rfl dX13_letsBelow_14 ?_
  exact s_if_eq dX13_letsBelow_15 (by decide) (wX13_letsBelow_44 hZ) (wX13_letsBelow_18 hZ)
noncomputable def vX13_letsBelow_0 : rx_K := o_ld rx_isR 0 (o_ld rx_isI 1 (o_ld rx_isI 2 (o_callV 2 13 FX13_isLet (o_c1 rx_eq vX13_letsBelow_48 vX13_letsBelow_9))))
set_option maxRecDepth 20000 in
theorem wX13_letsBelow_0 (hZ : zO b e D A X) : rx_OK (zV b e D A X) mX13_letsBelow 4 0 vX13_letsBelow_0 := by
  unfold vX13_letsBelow_0
  refine s_aload_n hZ.1 dX13_letsBelow_0 rfl ?_
  refine s_iload_n hZ.1 dX13_letsBelow_1 rfl ?_
  refine s_iload_n hZ.1 dX13_letsBelow_2 rfl ?_
  refine s_callV hZ.1 (Met_X13_isLet hZ) (Nat.le_of_ble_eq_true rfl) vy_X13_isLet zcl13 zw3200 zw229 (Or.inl zw3198) dX13_letsBelow_3 ?_
  exact s_if_eq dX13_letsBelow_6 (by decide) (wX13_letsBelow_48 hZ) (wX13_letsBelow_9 hZ)
noncomputable def FX13_letsBelow : List Nat → rx_H → Option (Nat × rx_H) := rx_ent 3 vX13_letsBelow_0
theorem Met_X13_letsBelow (hZ : zO b e D A X) : rx_Met (zV b e D A X) 4 yX13_letsBelow mX13_letsBelow (FX13_letsBelow) := rx_entry hZ.1 (wX13_letsBelow_0 hZ) (by decide +kernel) rfl (fun h => by cases h)
abbrev mX13_stateOf : rx_M := (RX13, cX13_stateOf, 2, (some .int), false)
theorem vy_X13_stateOf : rx_Y (zV b e D A X) yX13_stateOf mX13_stateOf 1 := ⟨zw3372, zw431, by decide, by decide +kernel, by decide +kernel, by decide +kernel⟩
noncomputable def vX13_stateOf_0 : rx_K := o_ld rx_isR 0 (o_getf 13 132 (o_ld rx_isR 0 (o_getf 13 134 (o_ld rx_isR 0 (o_getf 13 131 (o_ld rx_isI 1 (o_ald 0 (o_bi (fun x y => x + y) (o_ald 0 (o_ret1 rx_isI))))))))))
set_option maxRecDepth 20000 in
theorem wX13_stateOf_0 (hZ : zO b e D A X) : rx_OK (zV b e D A X) mX13_stateOf 0 0 vX13_stateOf_0 := by
  unfold vX13_stateOf_0
  refine s_aload_n hZ.1 dX13_stateOf_0 rfl ?_
  refine yg13_132 dX13_stateOf_1 zw4252 ?_
  refine s_aload_n hZ.1 dX13_stateOf_4 rfl ?_
  refine yg13_134 dX13_stateOf_5 zw4254 ?_
  refine s_aload_n hZ.1 dX13_stateOf_8 rfl ?_
  refine yg13_131 dX13_stateOf_9 zw4251 ?_
  refine s_iload_n hZ.1 dX13_stateOf_12 rfl ?_
  refine s_iald (tt := 0) rfl dX13_stateOf_13 ?_
  refine s_iadd dX13_stateOf_14 ?_
  refine s_iald (tt := 0) rfl dX13_stateOf_15 ?_
  exact s_iret hZ.1 rfl dX13_stateOf_16
noncomputable def FX13_stateOf : List Nat → rx_H → Option (Nat × rx_H) := rx_ent 2 vX13_stateOf_0
theorem Met_X13_stateOf (hZ : zO b e D A X) : rx_Met (zV b e D A X) 0 yX13_stateOf mX13_stateOf (FX13_stateOf) := rx_entry hZ.1 (wX13_stateOf_0 hZ) (by decide +kernel) rfl (fun h => by cases h)
abbrev mX13_load : rx_M := (RX13, cX13_load, 4, (some .int), false)
theorem vy_X13_load : rx_Y (zV b e D A X) yX13_load mX13_load 1 := ⟨zw3368, zw431, by decide, by decide +kernel, by decide +kernel, by decide +kernel⟩
abbrev mX13_loadAbove : rx_M := (RX13, cX13_loadAbove, 5, (some .int), false)
theorem vy_X13_loadAbove : rx_Y (zV b e D A X) yX13_loadAbove mX13_loadAbove 1 := ⟨zw3384, zw431, by decide, by decide +kernel, by decide +kernel, by decide +kernel⟩
abbrev vl10 : List (MethodName × rx_M) := [(yX13_load, mX13_load), (yX13_loadAbove, mX13_loadAbove)]
noncomputable def vX13_load_77 (g : Nat → List Nat → rx_H → Option (Nat × rx_H)) : rx_K := o_ret1 rx_isI
set_option maxRecDepth 20000 in
theorem wX13_load_77 {dn : Nat} {g : Nat → List Nat → rx_H → Option (Nat × rx_H)} (hZ : zO b e D A X) (hg : ∀ i y M, vl10[i]? = some (y, M) → rx_Met (zV b e D A X) dn y M (g i)) (hd : 5 ≤ dn) : rx_OK (zV b e D A X) mX13_load (dn + 1) 77 (vX13_load_77 g) := by
  unfold vX13_load_77
  exact s_iret hZ.1 rfl dX13_load_77
noncomputable def vX13_load_76 (g : Nat → List Nat → rx_H → Option (Nat × rx_H)) : rx_K := o_const 0 ((vX13_load_77 g))
set_option maxRecDepth 20000 in
theorem wX13_load_76 {dn : Nat} {g : Nat → List Nat → rx_H → Option (Nat × rx_H)} (hZ : zO b e D A X) (hg : ∀ i y M, vl10[i]? = some (y, M) → rx_Met (zV b e D A X) dn y M (g i)) (hd : 5 ≤ dn) : rx_OK (zV b e D A X) mX13_load (dn + 1) 76 (vX13_load_76 g) := by
  unfold vX13_load_76
  refine s_iconst dX13_load_76 (by decide +kernel) ?_
  exact (wX13_load_77 hZ hg hd)
noncomputable def vX13_load_57 (g : Nat → List Nat → rx_H → Option (Nat × rx_H)) : rx_K := o_ld rx_isR 0 (o_getf 13 133 (o_ld rx_isR 0 (o_getf 13 134 (o_ld rx_isR 0 (o_getf 13 131 (o_ld rx_isI 1 (o_ald 0 (o_bi (fun x y => x + y) (o_ald 0 ((vX13_load_77 g)))))))))))
set_option maxRecDepth 20000 in
theorem wX13_load_57 {dn : Nat} {g : Nat → List Nat → rx_H → Option (Nat × rx_H)} (hZ : zO b e D A X) (hg : ∀ i y M, vl10[i]? = some (y, M) → rx_Met (zV b e D A X) dn y M (g i)) (hd : 5 ≤ dn) : rx_OK (zV b e D A X) mX13_load (dn + 1) 57 (vX13_load_57 g) := by
  unfold vX13_load_57
  refine s_aload_n hZ.1 dX13_load_57 rfl ?_
  refine yg13_133 dX13_load_58 zw4253 ?_
  refine s_aload_n hZ.1 dX13_load_61 rfl ?_
  refine yg13_134 dX13_load_62 zw4254 ?_
  refine s_aload_n hZ.1 dX13_load_65 rfl ?_
  refine yg13_131 dX13_load_66 zw4251 ?_
  refine s_iload_n hZ.1 dX13_load_69 rfl ?_
  refine s_iald (tt := 0) rfl dX13_load_70 ?_
  refine s_iadd dX13_load_71 ?_
  refine s_iald (tt := 0) rfl dX13_load_72 ?_
  exact s_goto dX13_load_73 (by decide) (wX13_load_77 hZ hg hd)
noncomputable def vX13_load_52 (g : Nat → List Nat → rx_H → Option (Nat × rx_H)) : rx_K := o_ld rx_isI 2 (o_const 40 (o_c2 rx_eq (vX13_load_57 g) (vX13_load_76 g)))
set_option maxRecDepth 20000 in
theorem wX13_load_52 {dn : Nat} {g : Nat → List Nat → rx_H → Option (Nat × rx_H)} (hZ : zO b e D A X) (hg : ∀ i y M, vl10[i]? = some (y, M) → rx_Met (zV b e D A X) dn y M (g i)) (hd : 5 ≤ dn) : rx_OK (zV b e D A X) mX13_load (dn + 1) 52 (vX13_load_52 g) := by
  unfold vX13_load_52
  refine s_iload_n hZ.1 dX13_load_52 rfl ?_
  refine s_iconst dX13_load_53 (by decide +kernel) ?_
  exact s_icmp_ne dX13_load_54 (by decide) (wX13_load_76 hZ hg hd) (wX13_load_57 hZ hg hd)
noncomputable def vX13_load_47 (g : Nat → List Nat → rx_H → Option (Nat × rx_H)) : rx_K := o_const 80 ((vX13_load_77 g))
set_option maxRecDepth 20000 in
theorem wX13_load_47 {dn : Nat} {g : Nat → List Nat → rx_H → Option (Nat × rx_H)} (hZ : zO b e D A X) (hg : ∀ i y M, vl10[i]? = some (y, M) → rx_Met (zV b e D A X) dn y M (g i)) (hd : 5 ≤ dn) : rx_OK (zV b e D A X) mX13_load (dn + 1) 47 (vX13_load_47 g) := by
  unfold vX13_load_47
  refine s_bipush dX13_load_47 (by decide +kernel) ?_
  exact s_goto dX13_load_49 (by decide) (wX13_load_77 hZ hg hd)
noncomputable def vX13_load_41 (g : Nat → List Nat → rx_H → Option (Nat × rx_H)) : rx_K := o_ld rx_isI 2 (o_const 64 (o_c2 rx_eq (vX13_load_47 g) (vX13_load_52 g)))
set_option maxRecDepth 20000 in
theorem wX13_load_41 {dn : Nat} {g : Nat → List Nat → rx_H → Option (Nat × rx_H)} (hZ : zO b e D A X) (hg : ∀ i y M, vl10[i]? = some (y, M) → rx_Met (zV b e D A X) dn y M (g i)) (hd : 5 ≤ dn) : rx_OK (zV b e D A X) mX13_load (dn + 1) 41 (vX13_load_41 g) := by
  unfold vX13_load_41
  refine s_iload_n hZ.1 dX13_load_41 rfl ?_
  refine s_bipush dX13_load_42 (by decide +kernel) ?_
  exact s_icmp_ne dX13_load_44 (by decide) (wX13_load_52 hZ hg hd) (wX13_load_47 hZ hg hd)
noncomputable def vX13_load_35 (g : Nat → List Nat → rx_H → Option (Nat × rx_H)) : rx_K := o_ld rx_isI 3 (o_callV 3 13 FX13_becomes (o_ld rx_isI 3 (o_ret1 rx_isI)))
set_option maxRecDepth 20000 in
theorem wX13_load_35 {dn : Nat} {g : Nat → List Nat → rx_H → Option (Nat × rx_H)} (hZ : zO b e D A X) (hg : ∀ i y M, vl10[i]? = some (y, M) → rx_Met (zV b e D A X) dn y M (g i)) (hd : 5 ≤ dn) : rx_OK (zV b e D A X) mX13_load (dn + 1) 35 (vX13_load_35 g) := by
  unfold vX13_load_35
  refine s_iload_n hZ.1 dX13_load_35 rfl ?_
  refine s_callV hZ.1 (Met_X13_becomes hZ) (Nat.succ_le_succ (Nat.le_trans (Nat.le_of_ble_eq_true rfl) hd)) vy_X13_becomes zcl13 zw3375 zw269 (Or.inl zw3373) dX13_load_36 ?_
  refine s_iload_n hZ.1 dX13_load_39 rfl ?_
  exact s_iret hZ.1 rfl dX13_load_40
noncomputable def vX13_load_34 (g : Nat → List Nat → rx_H → Option (Nat × rx_H)) : rx_K := o_const 40 ((vX13_load_35 g))
set_option maxRecDepth 20000 in
theorem wX13_load_34 {dn : Nat} {g : Nat → List Nat → rx_H → Option (Nat × rx_H)} (hZ : zO b e D A X) (hg : ∀ i y M, vl10[i]? = some (y, M) → rx_Met (zV b e D A X) dn y M (g i)) (hd : 5 ≤ dn) : rx_OK (zV b e D A X) mX13_load (dn + 1) 34 (vX13_load_34 g) := by
  unfold vX13_load_34
  refine s_iconst dX13_load_34 (by decide +kernel) ?_
  exact (wX13_load_35 hZ hg hd)
noncomputable def vX13_load_30 (g : Nat → List Nat → rx_H → Option (Nat × rx_H)) : rx_K := o_const 8 ((vX13_load_35 g))
set_option maxRecDepth 20000 in
theorem wX13_load_30 {dn : Nat} {g : Nat → List Nat → rx_H → Option (Nat × rx_H)} (hZ : zO b e D A X) (hg : ∀ i y M, vl10[i]? = some (y, M) → rx_Met (zV b e D A X) dn y M (g i)) (hd : 5 ≤ dn) : rx_OK (zV b e D A X) mX13_load (dn + 1) 30 (vX13_load_30 g) := by
  unfold vX13_load_30
  refine s_iconst dX13_load_30 (by decide +kernel) ?_
  exact s_goto dX13_load_31 (by decide) (wX13_load_35 hZ hg hd)
noncomputable def vX13_load_10 (g : Nat → List Nat → rx_H → Option (Nat × rx_H)) : rx_K := o_ld rx_isR 0 (o_ld rx_isI 1 (o_const 64 (o_const 0 (o_callV 3 13 FX13_becomes (o_ld rx_isR 0 (o_ld rx_isI 1 (o_callV 1 13 (g 1) (o_st rx_isI 3 (o_ld rx_isR 0 (o_ld rx_isI 1 (o_ld rx_isI 3 (o_c1 rx_eq (vX13_load_30 g) (vX13_load_34 g)))))))))))))
set_option maxRecDepth 20000 in
theorem wX13_load_10 {dn : Nat} {g : Nat → List Nat → rx_H → Option (Nat × rx_H)} (hZ : zO b e D A X) (hg : ∀ i y M, vl10[i]? = some (y, M) → rx_Met (zV b e D A X) dn y M (g i)) (hd : 5 ≤ dn) : rx_OK (zV b e D A X) mX13_load (dn + 1) 10 (vX13_load_10 g) := by
  unfold vX13_load_10
  refine s_aload_n hZ.1 dX13_load_10 rfl ?_
  refine s_iload_n hZ.1 dX13_load_11 rfl ?_
  refine s_bipush dX13_load_12 (by decide +kernel) ?_
  refine s_iconst dX13_load_14 (by decide +kernel) ?_
  refine s_callV hZ.1 (Met_X13_becomes hZ) (Nat.succ_le_succ (Nat.le_trans (Nat.le_of_ble_eq_true rfl) hd)) vy_X13_becomes zcl13 zw3375 zw269 (Or.inl zw3373) dX13_load_15 ?_
  refine s_aload_n hZ.1 dX13_load_18 rfl ?_
  refine s_iload_n hZ.1 dX13_load_19 rfl ?_
  refine s_callV hZ.1 (hg 1 _ _ rfl) (Nat.le_refl _) vy_X13_loadAbove zcl13 zw3383 zw271 (Or.inl zw3381) dX13_load_20 ?_
  refine s_istore_n hZ.1 dX13_load_23 rfl (Nat.le_of_ble_eq_true rfl) ?_
  refine s_aload_n hZ.1 dX13_load_24 rfl ?_
  refine s_iload_n hZ.1 dX13_load_25 rfl ?_
  refine s_iload_n hZ.1 dX13_load_26 rfl ?_
  exact s_if_ne dX13_load_27 (by decide) (wX13_load_34 hZ hg hd) (wX13_load_30 hZ hg hd)
noncomputable def vX13_load_0 (g : Nat → List Nat → rx_H → Option (Nat × rx_H)) : rx_K := o_ld rx_isR 0 (o_ld rx_isI 1 (o_callV 1 13 FX13_stateOf (o_st rx_isI 2 (o_ld rx_isI 2 (o_c1 rx_eq (vX13_load_10 g) (vX13_load_41 g))))))
set_option maxRecDepth 20000 in
theorem wX13_load_0 {dn : Nat} {g : Nat → List Nat → rx_H → Option (Nat × rx_H)} (hZ : zO b e D A X) (hg : ∀ i y M, vl10[i]? = some (y, M) → rx_Met (zV b e D A X) dn y M (g i)) (hd : 5 ≤ dn) : rx_OK (zV b e D A X) mX13_load (dn + 1) 0 (vX13_load_0 g) := by
  unfold vX13_load_0
  refine s_aload_n hZ.1 dX13_load_0 rfl ?_
  refine s_iload_n hZ.1 dX13_load_1 rfl ?_
  refine s_callV hZ.1 (Met_X13_stateOf hZ) (Nat.succ_le_succ (Nat.le_trans (Nat.le_of_ble_eq_true rfl) hd)) vy_X13_stateOf zcl13 zw3371 zw268 (Or.inl zw3369) dX13_load_2 ?_
  refine s_istore_n hZ.1 dX13_load_5 rfl (Nat.le_of_ble_eq_true rfl) ?_
  refine s_iload_n hZ.1 dX13_load_6 rfl ?_
  exact s_if_ne dX13_load_7 (by decide) (wX13_load_41 hZ hg hd) (wX13_load_10 hZ hg hd)
noncomputable def FX13_load (g : Nat → List Nat → rx_H → Option (Nat × rx_H)) : List Nat → rx_H → Option (Nat × rx_H) := rx_ent 4 (vX13_load_0 g)
theorem Met_X13_load {dn : Nat} {g : Nat → List Nat → rx_H → Option (Nat × rx_H)} (hZ : zO b e D A X) (hg : ∀ i y M, vl10[i]? = some (y, M) → rx_Met (zV b e D A X) dn y M (g i)) (hd : 5 ≤ dn) : rx_Met (zV b e D A X) (dn + 1) yX13_load mX13_load (FX13_load g) := rx_entry hZ.1 (wX13_load_0 hZ hg hd) (by decide +kernel) rfl (fun h => by cases h)
end ZM45

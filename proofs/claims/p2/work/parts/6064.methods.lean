section ZM64
variable {b : Nat} {e : Nat → Value} {D : va_G} {A : Nat → ClassId} {X : State → Prop}
noncomputable def vX13_eval_105 (g : Nat → List Nat → rx_H → Option (Nat × rx_H)) (j : Nat → rx_K) : rx_K := o_ld rx_isI 6 (o_ret1 rx_isI)
set_option maxRecDepth 20000 in
theorem wX13_eval_105 {dn : Nat} {g : Nat → List Nat → rx_H → Option (Nat × rx_H)} (hZ : zO b e D A X) (hg : ∀ i y M, vl19[i]? = some (y, M) → rx_Met (zV b e D A X) dn y M (g i)) (hd : 333 ≤ dn) (j : Nat → rx_K) (hj : ∀ k pc, [14][k]? = some pc → rx_OK (zV b e D A X) mX13_eval (dn + 1) pc (j k)) : rx_OK (zV b e D A X) mX13_eval (dn + 1) 105 (vX13_eval_105 g j) := by
  unfold vX13_eval_105
  refine s_iload hZ.1 dX13_eval_105 ?_
  exact s_iret hZ.1 rfl dX13_eval_107
noncomputable def vX13_eval_102 (g : Nat → List Nat → rx_H → Option (Nat × rx_H)) (j : Nat → rx_K) : rx_K := (j 0)
set_option maxRecDepth 20000 in
theorem wX13_eval_102 {dn : Nat} {g : Nat → List Nat → rx_H → Option (Nat × rx_H)} (hZ : zO b e D A X) (hg : ∀ i y M, vl19[i]? = some (y, M) → rx_Met (zV b e D A X) dn y M (g i)) (hd : 333 ≤ dn) (j : Nat → rx_K) (hj : ∀ k pc, [14][k]? = some pc → rx_OK (zV b e D A X) mX13_eval (dn + 1) pc (j k)) : rx_OK (zV b e D A X) mX13_eval (dn + 1) 102 (vX13_eval_102 g j) := by
  unfold vX13_eval_102
  exact s_goto dX13_eval_102 (by decide) (hj 0 14 rfl)
noncomputable def vX13_eval_89 (g : Nat → List Nat → rx_H → Option (Nat × rx_H)) (j : Nat → rx_K) : rx_K := o_putf rx_isI 13 155 (o_ld rx_isR 0 (o_dup (o_getf 13 161 (o_const 8 (o_bi (fun x y => x - y) (o_putf rx_isI 13 161 ((vX13_eval_102 g j))))))))
set_option maxRecDepth 20000 in
theorem wX13_eval_89 {dn : Nat} {g : Nat → List Nat → rx_H → Option (Nat × rx_H)} (hZ : zO b e D A X) (hg : ∀ i y M, vl19[i]? = some (y, M) → rx_Met (zV b e D A X) dn y M (g i)) (hd : 333 ≤ dn) (j : Nat → rx_K) (hj : ∀ k pc, [14][k]? = some pc → rx_OK (zV b e D A X) mX13_eval (dn + 1) pc (j k)) : rx_OK (zV b e D A X) mX13_eval (dn + 1) 89 (vX13_eval_89 g j) := by
  unfold vX13_eval_89
  refine yp13_155 hZ.1 dX13_eval_89 zw4275 ?_
  refine s_aload_n hZ.1 dX13_eval_92 rfl ?_
  refine s_dup hZ.1 dX13_eval_93 ?_
  refine yg13_161 dX13_eval_94 zw4281 ?_
  refine s_iconst dX13_eval_97 (by decide +kernel) ?_
  refine s_isub dX13_eval_98 ?_
  refine yp13_161 hZ.1 dX13_eval_99 zw4281 ?_
  exact (wX13_eval_102 hZ hg hd j hj)
noncomputable def vX13_eval_82 (g : Nat → List Nat → rx_H → Option (Nat × rx_H)) (j : Nat → rx_K) : rx_K := o_ld rx_isR 0 (o_getf 13 159 (o_ld rx_isI 7 (o_ald 0 ((vX13_eval_89 g j)))))
set_option maxRecDepth 20000 in
theorem wX13_eval_82 {dn : Nat} {g : Nat → List Nat → rx_H → Option (Nat × rx_H)} (hZ : zO b e D A X) (hg : ∀ i y M, vl19[i]? = some (y, M) → rx_Met (zV b e D A X) dn y M (g i)) (hd : 333 ≤ dn) (j : Nat → rx_K) (hj : ∀ k pc, [14][k]? = some pc → rx_OK (zV b e D A X) mX13_eval (dn + 1) pc (j k)) : rx_OK (zV b e D A X) mX13_eval (dn + 1) 82 (vX13_eval_82 g j) := by
  unfold vX13_eval_82
  refine s_aload_n hZ.1 dX13_eval_82 rfl ?_
  refine yg13_159 dX13_eval_83 zw4279 ?_
  refine s_iload hZ.1 dX13_eval_86 ?_
  refine s_iald (tt := 0) rfl dX13_eval_88 ?_
  exact (wX13_eval_89 hZ hg hd j hj)
noncomputable def vX13_eval_75 (g : Nat → List Nat → rx_H → Option (Nat × rx_H)) (j : Nat → rx_K) : rx_K := o_ld rx_isR 0 (o_getf 13 155 ((vX13_eval_89 g j)))
set_option maxRecDepth 20000 in
theorem wX13_eval_75 {dn : Nat} {g : Nat → List Nat → rx_H → Option (Nat × rx_H)} (hZ : zO b e D A X) (hg : ∀ i y M, vl19[i]? = some (y, M) → rx_Met (zV b e D A X) dn y M (g i)) (hd : 333 ≤ dn) (j : Nat → rx_K) (hj : ∀ k pc, [14][k]? = some pc → rx_OK (zV b e D A X) mX13_eval (dn + 1) pc (j k)) : rx_OK (zV b e D A X) mX13_eval (dn + 1) 75 (vX13_eval_75 g j) := by
  unfold vX13_eval_75
  refine s_aload_n hZ.1 dX13_eval_75 rfl ?_
  refine yg13_155 dX13_eval_76 zw4275 ?_
  exact s_goto dX13_eval_79 (by decide) (wX13_eval_89 hZ hg hd j hj)
noncomputable def vX13_eval_62 (g : Nat → List Nat → rx_H → Option (Nat × rx_H)) (j : Nat → rx_K) : rx_K := o_ld rx_isR 0 (o_ld rx_isR 0 (o_getf 13 159 (o_ld rx_isI 7 (o_ald 0 (o_const 34359738352 (o_c2 rx_eq (vX13_eval_75 g j) (vX13_eval_82 g j)))))))
set_option maxRecDepth 20000 in
theorem wX13_eval_62 {dn : Nat} {g : Nat → List Nat → rx_H → Option (Nat × rx_H)} (hZ : zO b e D A X) (hg : ∀ i y M, vl19[i]? = some (y, M) → rx_Met (zV b e D A X) dn y M (g i)) (hd : 333 ≤ dn) (j : Nat → rx_K) (hj : ∀ k pc, [14][k]? = some pc → rx_OK (zV b e D A X) mX13_eval (dn + 1) pc (j k)) : rx_OK (zV b e D A X) mX13_eval (dn + 1) 62 (vX13_eval_62 g j) := by
  unfold vX13_eval_62
  refine s_aload_n hZ.1 dX13_eval_62 rfl ?_
  refine s_aload_n hZ.1 dX13_eval_63 rfl ?_
  refine yg13_159 dX13_eval_64 zw4279 ?_
  refine s_iload hZ.1 dX13_eval_67 ?_
  refine s_iald (tt := 0) rfl dX13_eval_69 ?_
  refine s_bipush dX13_eval_70 (by decide +kernel) ?_
  exact s_icmp_ne dX13_eval_72 (by decide) (wX13_eval_82 hZ hg hd j hj) (wX13_eval_75 hZ hg hd j hj)
noncomputable def vX13_eval_38 (g : Nat → List Nat → rx_H → Option (Nat × rx_H)) (j : Nat → rx_K) : rx_K := o_ld rx_isR 0 (o_ld rx_isI 7 (o_ld rx_isR 0 (o_getf 13 156 (o_ld rx_isI 7 (o_ald 0 (o_ld rx_isI 6 (o_ld rx_isI 2 (o_ld rx_isI 3 (o_ld rx_isI 4 (o_callV 6 13 (g 7) (o_st rx_isI 6 ((vX13_eval_102 g j)))))))))))))
set_option maxRecDepth 20000 in
theorem wX13_eval_38 {dn : Nat} {g : Nat → List Nat → rx_H → Option (Nat × rx_H)} (hZ : zO b e D A X) (hg : ∀ i y M, vl19[i]? = some (y, M) → rx_Met (zV b e D A X) dn y M (g i)) (hd : 333 ≤ dn) (j : Nat → rx_K) (hj : ∀ k pc, [14][k]? = some pc → rx_OK (zV b e D A X) mX13_eval (dn + 1) pc (j k)) : rx_OK (zV b e D A X) mX13_eval (dn + 1) 38 (vX13_eval_38 g j) := by
  unfold vX13_eval_38
  refine s_aload_n hZ.1 dX13_eval_38 rfl ?_
  refine s_iload hZ.1 dX13_eval_39 ?_
  refine s_aload_n hZ.1 dX13_eval_41 rfl ?_
  refine yg13_156 dX13_eval_42 zw4276 ?_
  refine s_iload hZ.1 dX13_eval_45 ?_
  refine s_iald (tt := 0) rfl dX13_eval_47 ?_
  refine s_iload hZ.1 dX13_eval_48 ?_
  refine s_iload_n hZ.1 dX13_eval_50 rfl ?_
  refine s_iload_n hZ.1 dX13_eval_51 rfl ?_
  refine s_iload hZ.1 dX13_eval_52 ?_
  refine s_callV hZ.1 (hg 7 _ _ rfl) (Nat.le_refl _) vy_X13_evalNode zcl13 zw3860 zw362 (Or.inl zw3858) dX13_eval_54 ?_
  refine s_istore hZ.1 dX13_eval_57 (Nat.le_of_ble_eq_true rfl) ?_
  exact s_goto dX13_eval_59 (by decide) (wX13_eval_102 hZ hg hd j hj)
noncomputable def vX13_eval_23 (g : Nat → List Nat → rx_H → Option (Nat × rx_H)) (j : Nat → rx_K) : rx_K := o_ld rx_isR 0 (o_getf 13 161 (o_const 8 (o_bi (fun x y => x - y) (o_st rx_isI 7 (o_ld rx_isR 0 (o_getf 13 164 (o_c1 rx_eq (vX13_eval_38 g j) (vX13_eval_62 g j))))))))
set_option maxRecDepth 20000 in
theorem wX13_eval_23 {dn : Nat} {g : Nat → List Nat → rx_H → Option (Nat × rx_H)} (hZ : zO b e D A X) (hg : ∀ i y M, vl19[i]? = some (y, M) → rx_Met (zV b e D A X) dn y M (g i)) (hd : 333 ≤ dn) (j : Nat → rx_K) (hj : ∀ k pc, [14][k]? = some pc → rx_OK (zV b e D A X) mX13_eval (dn + 1) pc (j k)) : rx_OK (zV b e D A X) mX13_eval (dn + 1) 23 (vX13_eval_23 g j) := by
  unfold vX13_eval_23
  refine s_aload_n hZ.1 dX13_eval_23 rfl ?_
  refine yg13_161 dX13_eval_24 zw4281 ?_
  refine s_iconst dX13_eval_27 (by decide +kernel) ?_
  refine s_isub dX13_eval_28 ?_
  refine s_istore hZ.1 dX13_eval_29 (Nat.le_of_ble_eq_true rfl) ?_
  refine s_aload_n hZ.1 dX13_eval_31 rfl ?_
  refine yg13_164 dX13_eval_32 zw4284 ?_
  exact s_if_ne dX13_eval_35 (by decide) (wX13_eval_62 hZ hg hd j hj) (wX13_eval_38 hZ hg hd j hj)
noncomputable def vX13_eval_14 (g : Nat → List Nat → rx_H → Option (Nat × rx_H)) (j : Nat → rx_K) : rx_K := o_ld rx_isR 0 (o_getf 13 161 (o_ld rx_isI 5 (o_c2 (fun h x y => rx_lt h y x) (vX13_eval_23 g j) (vX13_eval_105 g j))))
set_option maxRecDepth 20000 in
theorem wX13_eval_14 {dn : Nat} {g : Nat → List Nat → rx_H → Option (Nat × rx_H)} (hZ : zO b e D A X) (hg : ∀ i y M, vl19[i]? = some (y, M) → rx_Met (zV b e D A X) dn y M (g i)) (hd : 333 ≤ dn) (j : Nat → rx_K) (hj : ∀ k pc, [14][k]? = some pc → rx_OK (zV b e D A X) mX13_eval (dn + 1) pc (j k)) : rx_OK (zV b e D A X) mX13_eval (dn + 1) 14 (vX13_eval_14 g j) := by
  unfold vX13_eval_14
  refine s_aload_n hZ.1 dX13_eval_14 rfl ?_
  refine yg13_161 dX13_eval_15 zw4281 ?_
  refine s_iload hZ.1 dX13_eval_18 ?_
  exact s_icmp_le dX13_eval_20 (by decide) (wX13_eval_105 hZ hg hd j hj) (wX13_eval_23 hZ hg hd j hj)
noncomputable def vX13_eval_0 (g : Nat → List Nat → rx_H → Option (Nat × rx_H)) (j : Nat → rx_K) : rx_K := o_ld rx_isR 0 (o_getf 13 161 (o_st rx_isI 5 (o_const 0 (o_st rx_isI 6 (o_ld rx_isR 0 (o_ld rx_isI 1 (o_callV 1 13 FX13_push ((vX13_eval_14 g j)))))))))
set_option maxRecDepth 20000 in
theorem wX13_eval_0 {dn : Nat} {g : Nat → List Nat → rx_H → Option (Nat × rx_H)} (hZ : zO b e D A X) (hg : ∀ i y M, vl19[i]? = some (y, M) → rx_Met (zV b e D A X) dn y M (g i)) (hd : 333 ≤ dn) (j : Nat → rx_K) (hj : ∀ k pc, [14][k]? = some pc → rx_OK (zV b e D A X) mX13_eval (dn + 1) pc (j k)) : rx_OK (zV b e D A X) mX13_eval (dn + 1) 0 (vX13_eval_0 g j) := by
  unfold vX13_eval_0
  refine s_aload_n hZ.1 dX13_eval_0 rfl ?_
  refine yg13_161 dX13_eval_1 zw4281 ?_
  refine s_istore hZ.1 dX13_eval_4 (Nat.le_of_ble_eq_true rfl) ?_
  refine s_iconst dX13_eval_6 (by decide +kernel) ?_
  refine s_istore hZ.1 dX13_eval_7 (Nat.le_of_ble_eq_true rfl) ?_
  refine s_aload_n hZ.1 dX13_eval_9 rfl ?_
  refine s_iload_n hZ.1 dX13_eval_10 rfl ?_
  refine s_callV hZ.1 (Met_X13_push hZ) (Nat.succ_le_succ (Nat.le_trans (Nat.le_of_ble_eq_true rfl) hd)) vy_X13_push zcl13 zw3856 zw361 (Or.inl zw3854) dX13_eval_11 ?_
  exact (wX13_eval_14 hZ hg hd j hj)
noncomputable def vhX13_eval (g : Nat → List Nat → rx_H → Option (Nat × rx_H)) (j : Nat → rx_K) : List rx_K := [vX13_eval_14 g j]
theorem vlX13_eval {dn : Nat} {g : Nat → List Nat → rx_H → Option (Nat × rx_H)} (hZ : zO b e D A X) (hg : ∀ i y M, vl19[i]? = some (y, M) → rx_Met (zV b e D A X) dn y M (g i)) (hd : 333 ≤ dn) : ∀ n k pc, [14][k]? = some pc → rx_OK (zV b e D A X) mX13_eval (dn + 1) pc (rx_J (vhX13_eval g) n k) := rx_loop fun j hj k pc h => by
  match k, h with
  | 0, h =>
    have e9 := Option.some.inj (show some 14 = some pc from h)
    subst e9
    exact wX13_eval_14 hZ hg hd j hj
  | _ + 1, h => exact absurd h (by simp)
noncomputable def FX13_eval (g : Nat → List Nat → rx_H → Option (Nat × rx_H)) : List Nat → rx_H → Option (Nat × rx_H) := rx_ent 8 (vX13_eval_0 g (rx_J (vhX13_eval g) 4000000000))
theorem Met_X13_eval {dn : Nat} {g : Nat → List Nat → rx_H → Option (Nat × rx_H)} (hZ : zO b e D A X) (hg : ∀ i y M, vl19[i]? = some (y, M) → rx_Met (zV b e D A X) dn y M (g i)) (hd : 333 ≤ dn) : rx_Met (zV b e D A X) (dn + 1) yX13_eval mX13_eval (FX13_eval g) := rx_entry hZ.1 (wX13_eval_0 hZ hg hd _ (vlX13_eval hZ hg hd 4000000000)) (by decide +kernel) rfl (fun h => by cases h)
noncomputable def vX13_evalArgs_68 (g : Nat → List Nat → rx_H → Option (Nat × rx_H)) (j : Nat → rx_K) : rx_K := o_ld rx_isI 5 (o_ret1 rx_isI)
set_option maxRecDepth 20000 in
theorem wX13_evalArgs_68 {dn : Nat} {g : Nat → List Nat → rx_H → Option (Nat × rx_H)} (hZ : zO b e D A X) (hg : ∀ i y M, vl19[i]? = some (y, M) → rx_Met (zV b e D A X) dn y M (g i)) (hd : 333 ≤ dn) (j : Nat → rx_K) (hj : ∀ k pc, [9][k]? = some pc → rx_OK (zV b e D A X) mX13_evalArgs (dn + 1) pc (j k)) : rx_OK (zV b e D A X) mX13_evalArgs (dn + 1) 68 (vX13_evalArgs_68 g j) := by
  unfold vX13_evalArgs_68
  refine s_iload hZ.1 dX13_evalArgs_68 ?_
  exact s_iret hZ.1 rfl dX13_evalArgs_70
noncomputable def vX13_evalArgs_65 (g : Nat → List Nat → rx_H → Option (Nat × rx_H)) (j : Nat → rx_K) : rx_K := (j 0)
set_option maxRecDepth 20000 in
theorem wX13_evalArgs_65 {dn : Nat} {g : Nat → List Nat → rx_H → Option (Nat × rx_H)} (hZ : zO b e D A X) (hg : ∀ i y M, vl19[i]? = some (y, M) → rx_Met (zV b e D A X) dn y M (g i)) (hd : 333 ≤ dn) (j : Nat → rx_K) (hj : ∀ k pc, [9][k]? = some pc → rx_OK (zV b e D A X) mX13_evalArgs (dn + 1) pc (j k)) : rx_OK (zV b e D A X) mX13_evalArgs (dn + 1) 65 (vX13_evalArgs_65 g j) := by
  unfold vX13_evalArgs_65
  exact s_goto dX13_evalArgs_65 (by decide) (hj 0 9 rfl)
noncomputable def vX13_evalArgs_23 (g : Nat → List Nat → rx_H → Option (Nat × rx_H)) (j : Nat → rx_K) : rx_K := o_ld rx_isR 0 (o_ld rx_isI 6 (o_ld rx_isI 2 (o_ld rx_isI 3 (o_ld rx_isI 4 (o_callV 4 13 (g 3) (o_st rx_isI 7 (o_ld rx_isR 0 (o_getf 13 154 (o_ld rx_isR 0 (o_getf 13 155 (o_ld rx_isI 7 (o_ast 0 (fun v => v) rx_isI (o_ld rx_isR 0 (o_dup (o_getf 13 155 (o_const 8 (o_bi (fun x y => x + y) (o_putf rx_isI 13 155 (o_ld rx_isR 0 (o_getf 13 80 (o_ld rx_isI 6 (o_ald 0 (o_st rx_isI 6 ((vX13_evalArgs_65 g j)))))))))))))))))))))))))
set_option maxRecDepth 20000 in
theorem wX13_evalArgs_23 {dn : Nat} {g : Nat → List Nat → rx_H → Option (Nat × rx_H)} (hZ : zO b e D A X) (hg : ∀ i y M, vl19[i]? = some (y, M) → rx_Met (zV b e D A X) dn y M (g i)) (hd : 333 ≤ dn) (j : Nat → rx_K) (hj : ∀ k pc, [9][k]? = some pc → rx_OK (zV b e D A X) mX13_evalArgs (dn + 1) pc (j k)) : rx_OK (zV b e D A X) mX13_evalArgs (dn + 1) 23 (vX13_evalArgs_23 g j) := by
  unfold vX13_evalArgs_23
  refine s_aload_n hZ.1 dX13_evalArgs_23 rfl ?_
  refine s_iload hZ.1 dX13_evalArgs_24 ?_
  refine s_iload_n hZ.1 dX13_evalArgs_26 rfl ?_
  refine s_iload_n hZ.1 dX13_evalArgs_27 rfl ?_
  refine s_iload hZ.1 dX13_evalArgs_28 ?_
  refine s_callV hZ.1 (hg 3 _ _ rfl) (Nat.le_refl _) vy_X13_eval zcl13 zw3852 zw360 (Or.inl zw3850) dX13_evalArgs_30 ?_
  refine s_istore hZ.1 dX13_evalArgs_33 (Nat.le_of_ble_eq_true rfl) ?_
  refine s_aload_n hZ.1 dX13_evalArgs_35 rfl ?_
  refine yg13_154 dX13_evalArgs_36 zw4274 ?_
  refine s_aload_n hZ.1 dX13_evalArgs_39 rfl ?_
  refine yg13_155 dX13_evalArgs_40 zw4275 ?_
  refine s_iload hZ.1 dX13_evalArgs_43 ?_
  refine s_iast hZ.1 (tt := 0) rfl dX13_evalArgs_45 ?_
  refine s_aload_n hZ.1 dX13_evalArgs_46 rfl ?_
  refine s_dup hZ.1 dX13_evalArgs_47 ?_
  refine yg13_155 dX13_evalArgs_48 zw4275 ?_
  refine s_iconst dX13_evalArgs_51 (by decide +kernel) ?_
  refine s_iadd dX13_evalArgs_52 ?_
  refine yp13_155 hZ.1 dX13_evalArgs_53 zw4275 ?_
  refine s_aload_n hZ.1 dX13_evalArgs_56 rfl ?_
  refine yg13_80 dX13_evalArgs_57 zw4201 ?_
  refine s_iload hZ.1 dX13_evalArgs_60 ?_
  refine s_iald (tt := 0) rfl dX13_evalArgs_62 ?_
  refine s_istore hZ.1 dX13_evalArgs_63 (Nat.le_of_ble_eq_true rfl) ?_
  exact (wX13_evalArgs_65 hZ hg hd j hj)
noncomputable def vX13_evalArgs_16 (g : Nat → List Nat → rx_H → Option (Nat × rx_H)) (j : Nat → rx_K) : rx_K := o_ld rx_isR 0 (o_getf 13 164 (o_c1 rx_eq (vX13_evalArgs_23 g j) (vX13_evalArgs_68 g j)))
set_option maxRecDepth 20000 in
theorem wX13_evalArgs_16 {dn : Nat} {g : Nat → List Nat → rx_H → Option (Nat × rx_H)} (hZ : zO b e D A X) (hg : ∀ i y M, vl19[i]? = some (y, M) → rx_Met (zV b e D A X) dn y M (g i)) (hd : 333 ≤ dn) (j : Nat → rx_K) (hj : ∀ k pc, [9][k]? = some pc → rx_OK (zV b e D A X) mX13_evalArgs (dn + 1) pc (j k)) : rx_OK (zV b e D A X) mX13_evalArgs (dn + 1) 16 (vX13_evalArgs_16 g j) := by
  unfold vX13_evalArgs_16
  refine s_aload_n hZ.1 dX13_evalArgs_16 rfl ?_
  refine yg13_164 dX13_evalArgs_17 zw4284 ?_
  exact s_if_ne dX13_evalArgs_20 (by decide) (wX13_evalArgs_68 hZ hg hd j hj) (wX13_evalArgs_23 hZ hg hd j hj)
noncomputable def vX13_evalArgs_9 (g : Nat → List Nat → rx_H → Option (Nat × rx_H)) (j : Nat → rx_K) : rx_K := o_ld rx_isI 6 (o_const 34359738352 (o_c2 rx_eq (vX13_evalArgs_68 g j) (vX13_evalArgs_16 g j)))
set_option maxRecDepth 20000 in
theorem wX13_evalArgs_9 {dn : Nat} {g : Nat → List Nat → rx_H → Option (Nat × rx_H)} (hZ : zO b e D A X) (hg : ∀ i y M, vl19[i]? = some (y, M) → rx_Met (zV b e D A X) dn y M (g i)) (hd : 333 ≤ dn) (j : Nat → rx_K) (hj : ∀ k pc, [9][k]? = some pc → rx_OK (zV b e D A X) mX13_evalArgs (dn + 1) pc (j k)) : rx_OK (zV b e D A X) mX13_evalArgs (dn + 1) 9 (vX13_evalArgs_9 g j) := by
  unfold vX13_evalArgs_9
  refine s_iload hZ.1 dX13_evalArgs_9 ?_
  refine s_bipush dX13_evalArgs_11 (by decide +kernel) ?_
  exact s_icmp_eq dX13_evalArgs_13 (by decide) (wX13_evalArgs_68 hZ hg hd j hj) (wX13_evalArgs_16 hZ hg hd j hj)
noncomputable def vX13_evalArgs_0 (g : Nat → List Nat → rx_H → Option (Nat × rx_H)) (j : Nat → rx_K) : rx_K := o_ld rx_isR 0 (o_getf 13 155 (o_st rx_isI 5 (o_ld rx_isI 1 (o_st rx_isI 6 ((vX13_evalArgs_9 g j))))))
set_option maxRecDepth 20000 in
theorem wX13_evalArgs_0 {dn : Nat} {g : Nat → List Nat → rx_H → Option (Nat × rx_H)} (hZ : zO b e D A X) (hg : ∀ i y M, vl19[i]? = some (y, M) → rx_Met (zV b e D A X) dn y M (g i)) (hd : 333 ≤ dn) (j : Nat → rx_K) (hj : ∀ k pc, [9][k]? = some pc → rx_OK (zV b e D A X) mX13_evalArgs (dn + 1) pc (j k)) : rx_OK (zV b e D A X) mX13_evalArgs (dn + 1) 0 (vX13_evalArgs_0 g j) := by
  unfold vX13_evalArgs_0
  refine s_aload_n hZ.1 dX13_evalArgs_0 rfl ?_
  refine yg13_155 dX13_evalArgs_1 zw4275 ?_
  refine s_istore hZ.1 dX13_evalArgs_4 (Nat.le_of_ble_eq_true rfl) ?_
  refine s_iload_n hZ.1 dX13_evalArgs_6 rfl ?_
  refine s_istore hZ.1 dX13_evalArgs_7 (Nat.le_of_ble_eq_true rfl) ?_
  exact (wX13_evalArgs_9 hZ hg hd j hj)
noncomputable def vhX13_evalArgs (g : Nat → List Nat → rx_H → Option (Nat × rx_H)) (j : Nat → rx_K) : List rx_K := [vX13_evalArgs_9 g j]
theorem vlX13_evalArgs {dn : Nat} {g : Nat → List Nat → rx_H → Option (Nat × rx_H)} (hZ : zO b e D A X) (hg : ∀ i y M, vl19[i]? = some (y, M) → rx_Met (zV b e D A X) dn y M (g i)) (hd : 333 ≤ dn) : ∀ n k pc, [9][k]? = some pc → rx_OK (zV b e D A X) mX13_evalArgs (dn + 1) pc (rx_J (vhX13_evalArgs g) n k) := rx_loop fun j hj k pc h => by
  match k, h with
  | 0, h =>
    have e9 := Option.some.inj (show some 9 = some pc from h)
    subst e9
    exact wX13_evalArgs_9 hZ hg hd j hj
  | _ + 1, h => exact absurd h (by simp)
noncomputable def FX13_evalArgs (g : Nat → List Nat → rx_H → Option (Nat × rx_H)) : List Nat → rx_H → Option (Nat × rx_H) := rx_ent 8 (vX13_evalArgs_0 g (rx_J (vhX13_evalArgs g) 4000000000))
theorem Met_X13_evalArgs {dn : Nat} {g : Nat → List Nat → rx_H → Option (Nat × rx_H)} (hZ : zO b e D A X) (hg : ∀ i y M, vl19[i]? = some (y, M) → rx_Met (zV b e D A X) dn y M (g i)) (hd : 333 ≤ dn) : rx_Met (zV b e D A X) (dn + 1) yX13_evalArgs mX13_evalArgs (FX13_evalArgs g) := rx_entry hZ.1 (wX13_evalArgs_0 hZ hg hd _ (vlX13_evalArgs hZ hg hd 4000000000)) (by decide +kernel) rfl (fun h => by cases h)
noncomputable def vX13_evalCall_229 (g : Nat → List Nat → rx_H → Option (Nat × rx_H)) : rx_K := o_ld rx_isR 0 (o_ld rx_isI 5 (o_putf rx_isI 13 155 (o_ld rx_isR 0 (o_dup (o_getf 13 161 (o_const 8 (o_bi (fun x y => x - y) (o_putf rx_isI 13 161 (o_ld rx_isI 6 (o_ret1 rx_isI))))))))))
set_option maxRecDepth 20000 in
theorem wX13_evalCall_229 {dn : Nat} {g : Nat → List Nat → rx_H → Option (Nat × rx_H)} (hZ : zO b e D A X) (hg : ∀ i y M, vl19[i]? = some (y, M) → rx_Met (zV b e D A X) dn y M (g i)) (hd : 333 ≤ dn) : rx_OK (zV b e D A X) mX13_evalCall (dn + 1) 229 (vX13_evalCall_229 g) := by
  unfold vX13_evalCall_229
  refine s_aload_n hZ.1 dX13_evalCall_229 rfl ?_
  refine s_iload hZ.1 dX13_evalCall_230 ?_
  refine yp13_155 hZ.1 dX13_evalCall_232 zw4275 ?_
  refine s_aload_n hZ.1 dX13_evalCall_235 rfl ?_
  refine s_dup hZ.1 dX13_evalCall_236 ?_
  refine yg13_161 dX13_evalCall_237 zw4281 ?_
  refine s_iconst dX13_evalCall_240 (by decide +kernel) ?_
  refine s_isub dX13_evalCall_241 ?_
  refine yp13_161 hZ.1 dX13_evalCall_242 zw4281 ?_
  refine s_iload hZ.1 dX13_evalCall_245 ?_
  exact s_iret hZ.1 rfl dX13_evalCall_247
noncomputable def vX13_evalCall_222 (g : Nat → List Nat → rx_H → Option (Nat × rx_H)) : rx_K := o_ld rx_isI 5 (o_callV 3 13 (g 1) (o_st rx_isI 6 ((vX13_evalCall_229 g))))
set_option maxRecDepth 20000 in
theorem wX13_evalCall_222 {dn : Nat} {g : Nat → List Nat → rx_H → Option (Nat × rx_H)} (hZ : zO b e D A X) (hg : ∀ i y M, vl19[i]? = some (y, M) → rx_Met (zV b e D A X) dn y M (g i)) (hd : 333 ≤ dn) : rx_OK (zV b e D A X) mX13_evalCall (dn + 1) 222 (vX13_evalCall_222 g) := by
  unfold vX13_evalCall_222
  refine s_iload hZ.1 dX13_evalCall_222 ?_
  refine s_callV hZ.1 (hg 1 _ _ rfl) (Nat.le_refl _) vy_X13_callBy zcl13 zw3916 zw376 (Or.inl zw3914) dX13_evalCall_224 ?_
  refine s_istore hZ.1 dX13_evalCall_227 (Nat.le_of_ble_eq_true rfl) ?_
  exact (wX13_evalCall_229 hZ hg hd)
noncomputable def vX13_evalCall_220 (g : Nat → List Nat → rx_H → Option (Nat × rx_H)) : rx_K := o_ld rx_isI 4 ((vX13_evalCall_222 g))
set_option maxRecDepth 20000 in
theorem wX13_evalCall_220 {dn : Nat} {g : Nat → List Nat → rx_H → Option (Nat × rx_H)} (hZ : zO b e D A X) (hg : ∀ i y M, vl19[i]? = some (y, M) → rx_Met (zV b e D A X) dn y M (g i)) (hd : 333 ≤ dn) : rx_OK (zV b e D A X) mX13_evalCall (dn + 1) 220 (vX13_evalCall_220 g) := by
  unfold vX13_evalCall_220
  refine s_iload hZ.1 dX13_evalCall_220 ?_
  exact (wX13_evalCall_222 hZ hg hd)
noncomputable def vX13_evalCall_211 (g : Nat → List Nat → rx_H → Option (Nat × rx_H)) : rx_K := o_ld rx_isR 0 (o_getf 13 158 (o_ld rx_isI 1 (o_ald 0 ((vX13_evalCall_222 g)))))
set_option maxRecDepth 20000 in
theorem wX13_evalCall_211 {dn : Nat} {g : Nat → List Nat → rx_H → Option (Nat × rx_H)} (hZ : zO b e D A X) (hg : ∀ i y M, vl19[i]? = some (y, M) → rx_Met (zV b e D A X) dn y M (g i)) (hd : 333 ≤ dn) : rx_OK (zV b e D A X) mX13_evalCall (dn + 1) 211 (vX13_evalCall_211 g) := by
  unfold vX13_evalCall_211
  refine s_aload_n hZ.1 dX13_evalCall_211 rfl ?_
  refine yg13_158 dX13_evalCall_212 zw4278 ?_
  refine s_iload_n hZ.1 dX13_evalCall_215 rfl ?_
  refine s_iald (tt := 0) rfl dX13_evalCall_216 ?_
  exact s_goto dX13_evalCall_217 (by decide) (wX13_evalCall_222 hZ hg hd)
noncomputable def vX13_evalCall_193 (g : Nat → List Nat → rx_H → Option (Nat × rx_H)) : rx_K := o_ld rx_isR 0 (o_ld rx_isR 0 (o_getf 13 87 (o_ld rx_isI 2 (o_ald 0 (o_ld rx_isR 0 (o_getf 13 70 (o_ld rx_isI 2 (o_ald 0 (o_const 104 (o_c2 rx_eq (vX13_evalCall_211 g) (vX13_evalCall_220 g)))))))))))
set_option maxRecDepth 20000 in
theorem wX13_evalCall_193 {dn : Nat} {g : Nat → List Nat → rx_H → Option (Nat × rx_H)} (hZ : zO b e D A X) (hg : ∀ i y M, vl19[i]? = some (y, M) → rx_Met (zV b e D A X) dn y M (g i)) (hd : 333 ≤ dn) : rx_OK (zV b e D A X) mX13_evalCall (dn + 1) 193 (vX13_evalCall_193 g) := by
  unfold vX13_evalCall_193
  refine s_aload_n hZ.1 dX13_evalCall_193 rfl ?_
  refine s_aload_n hZ.1 dX13_evalCall_194 rfl ?_
  refine yg13_87 dX13_evalCall_195 zw4208 ?_
  refine s_iload_n hZ.1 dX13_evalCall_198 rfl ?_
  refine s_iald (tt := 0) rfl dX13_evalCall_199 ?_
  refine s_aload_n hZ.1 dX13_evalCall_200 rfl ?_
  refine yg13_70 dX13_evalCall_201 zw4191 ?_
  refine s_iload_n hZ.1 dX13_evalCall_204 rfl ?_
  refine s_iald (tt := 0) rfl dX13_evalCall_205 ?_
  refine s_bipush dX13_evalCall_206 (by decide +kernel) ?_
  exact s_icmp_ne dX13_evalCall_208 (by decide) (wX13_evalCall_220 hZ hg hd) (wX13_evalCall_211 hZ hg hd)
noncomputable def vX13_evalCall_188 (g : Nat → List Nat → rx_H → Option (Nat × rx_H)) : rx_K := o_st rx_isI 6 ((vX13_evalCall_229 g))
set_option maxRecDepth 20000 in
theorem wX13_evalCall_188 {dn : Nat} {g : Nat → List Nat → rx_H → Option (Nat × rx_H)} (hZ : zO b e D A X) (hg : ∀ i y M, vl19[i]? = some (y, M) → rx_Met (zV b e D A X) dn y M (g i)) (hd : 333 ≤ dn) : rx_OK (zV b e D A X) mX13_evalCall (dn + 1) 188 (vX13_evalCall_188 g) := by
  unfold vX13_evalCall_188
  refine s_istore hZ.1 dX13_evalCall_188 (Nat.le_of_ble_eq_true rfl) ?_
  exact s_goto dX13_evalCall_190 (by decide) (wX13_evalCall_229 hZ hg hd)
noncomputable def vX13_evalCall_187 (g : Nat → List Nat → rx_H → Option (Nat × rx_H)) : rx_K := o_const 0 ((vX13_evalCall_188 g))
set_option maxRecDepth 20000 in
theorem wX13_evalCall_187 {dn : Nat} {g : Nat → List Nat → rx_H → Option (Nat × rx_H)} (hZ : zO b e D A X) (hg : ∀ i y M, vl19[i]? = some (y, M) → rx_Met (zV b e D A X) dn y M (g i)) (hd : 333 ≤ dn) : rx_OK (zV b e D A X) mX13_evalCall (dn + 1) 187 (vX13_evalCall_187 g) := by
  unfold vX13_evalCall_187
  refine s_iconst dX13_evalCall_187 (by decide +kernel) ?_
  exact (wX13_evalCall_188 hZ hg hd)
noncomputable def vX13_evalCall_172 (g : Nat → List Nat → rx_H → Option (Nat × rx_H)) : rx_K := o_ld rx_isR 0 (o_ld rx_isR 0 (o_getf 13 140 (o_ld rx_isI 4 (o_ld rx_isI 5 (o_callV 3 13 (g 12) ((vX13_evalCall_188 g)))))))
set_option maxRecDepth 20000 in
theorem wX13_evalCall_172 {dn : Nat} {g : Nat → List Nat → rx_H → Option (Nat × rx_H)} (hZ : zO b e D A X) (hg : ∀ i y M, vl19[i]? = some (y, M) → rx_Met (zV b e D A X) dn y M (g i)) (hd : 333 ≤ dn) : rx_OK (zV b e D A X) mX13_evalCall (dn + 1) 172 (vX13_evalCall_172 g) := by
  unfold vX13_evalCall_172
  refine s_aload_n hZ.1 dX13_evalCall_172 rfl ?_
  refine s_aload_n hZ.1 dX13_evalCall_173 rfl ?_
  refine yg13_140 dX13_evalCall_174 zw4260 ?_
  refine s_iload hZ.1 dX13_evalCall_177 ?_
  refine s_iload hZ.1 dX13_evalCall_179 ?_
  refine s_callV hZ.1 (hg 12 _ _ rfl) (Nat.le_refl _) vy_X13_invoke zcl13 zw3904 zw373 (Or.inl zw3902) dX13_evalCall_181 ?_
  exact s_goto dX13_evalCall_184 (by decide) (wX13_evalCall_188 hZ hg hd)
noncomputable def vX13_evalCall_159 (g : Nat → List Nat → rx_H → Option (Nat × rx_H)) : rx_K := o_ld rx_isR 0 (o_ld rx_isR 0 (o_getf 13 87 (o_ld rx_isI 2 (o_ald 0 (o_callV 1 13 FX13_asks (o_c1 rx_eq (vX13_evalCall_187 g) (vX13_evalCall_172 g)))))))
set_option maxRecDepth 20000 in
theorem wX13_evalCall_159 {dn : Nat} {g : Nat → List Nat → rx_H → Option (Nat × rx_H)} (hZ : zO b e D A X) (hg : ∀ i y M, vl19[i]? = some (y, M) → rx_Met (zV b e D A X) dn y M (g i)) (hd : 333 ≤ dn) : rx_OK (zV b e D A X) mX13_evalCall (dn + 1) 159 (vX13_evalCall_159 g) := by
  unfold vX13_evalCall_159
  refine s_aload_n hZ.1 dX13_evalCall_159 rfl ?_
  refine s_aload_n hZ.1 dX13_evalCall_160 rfl ?_
  refine yg13_87 dX13_evalCall_161 zw4208 ?_
  refine s_iload_n hZ.1 dX13_evalCall_164 rfl ?_
  refine s_iald (tt := 0) rfl dX13_evalCall_165 ?_
  refine s_callV hZ.1 (Met_X13_asks hZ) (Nat.succ_le_succ (Nat.le_trans (Nat.le_of_ble_eq_true rfl) hd)) vy_X13_asks zcl13 zw3868 zw364 (Or.inl zw3866) dX13_evalCall_166 ?_
  exact s_if_eq dX13_evalCall_169 (by decide) (wX13_evalCall_187 hZ hg hd) (wX13_evalCall_172 hZ hg hd)
noncomputable def vX13_evalCall_148 (g : Nat → List Nat → rx_H → Option (Nat × rx_H)) : rx_K := o_ld rx_isR 0 (o_getf 13 70 (o_ld rx_isI 2 (o_ald 0 (o_const 56 (o_c2 rx_eq (vX13_evalCall_159 g) (vX13_evalCall_193 g))))))
set_option maxRecDepth 20000 in
theorem wX13_evalCall_148 {dn : Nat} {g : Nat → List Nat → rx_H → Option (Nat × rx_H)} (hZ : zO b e D A X) (hg : ∀ i y M, vl19[i]? = some (y, M) → rx_Met (zV b e D A X) dn y M (g i)) (hd : 333 ≤ dn) : rx_OK (zV b e D A X) mX13_evalCall (dn + 1) 148 (vX13_evalCall_148 g) := by
  unfold vX13_evalCall_148
  refine s_aload_n hZ.1 dX13_evalCall_148 rfl ?_
  refine yg13_70 dX13_evalCall_149 zw4191 ?_
  refine s_iload_n hZ.1 dX13_evalCall_152 rfl ?_
  refine s_iald (tt := 0) rfl dX13_evalCall_153 ?_
  refine s_bipush dX13_evalCall_154 (by decide +kernel) ?_
  exact s_icmp_ne dX13_evalCall_156 (by decide) (wX13_evalCall_193 hZ hg hd) (wX13_evalCall_159 hZ hg hd)
noncomputable def vX13_evalCall_137 (g : Nat → List Nat → rx_H → Option (Nat × rx_H)) : rx_K := o_ld rx_isR 0 (o_getf 13 70 (o_ld rx_isI 2 (o_ald 0 (o_const 64 (o_c2 rx_eq (vX13_evalCall_159 g) (vX13_evalCall_148 g))))))
set_option maxRecDepth 20000 in
theorem wX13_evalCall_137 {dn : Nat} {g : Nat → List Nat → rx_H → Option (Nat × rx_H)} (hZ : zO b e D A X) (hg : ∀ i y M, vl19[i]? = some (y, M) → rx_Met (zV b e D A X) dn y M (g i)) (hd : 333 ≤ dn) : rx_OK (zV b e D A X) mX13_evalCall (dn + 1) 137 (vX13_evalCall_137 g) := by
  unfold vX13_evalCall_137
  refine s_aload_n hZ.1 dX13_evalCall_137 rfl ?_
  refine yg13_70 dX13_evalCall_138 zw4191 ?_
  refine s_iload_n hZ.1 dX13_evalCall_141 rfl ?_
  refine s_iald (tt := 0) rfl dX13_evalCall_142 ?_
  refine s_bipush dX13_evalCall_143 (by decide +kernel) ?_
  exact s_icmp_eq dX13_evalCall_145 (by decide) (wX13_evalCall_159 hZ hg hd) (wX13_evalCall_148 hZ hg hd)
noncomputable def vX13_evalCall_126 (g : Nat → List Nat → rx_H → Option (Nat × rx_H)) : rx_K := o_ld rx_isR 0 (o_getf 13 158 (o_ld rx_isI 1 (o_ald 0 (o_st rx_isI 6 ((vX13_evalCall_229 g))))))
set_option maxRecDepth 20000 in
theorem wX13_evalCall_126 {dn : Nat} {g : Nat → List Nat → rx_H → Option (Nat × rx_H)} (hZ : zO b e D A X) (hg : ∀ i y M, vl19[i]? = some (y, M) → rx_Met (zV b e D A X) dn y M (g i)) (hd : 333 ≤ dn) : rx_OK (zV b e D A X) mX13_evalCall (dn + 1) 126 (vX13_evalCall_126 g) := by
  unfold vX13_evalCall_126
  refine s_aload_n hZ.1 dX13_evalCall_126 rfl ?_
  refine yg13_158 dX13_evalCall_127 zw4278 ?_
  refine s_iload_n hZ.1 dX13_evalCall_130 rfl ?_
  refine s_iald (tt := 0) rfl dX13_evalCall_131 ?_
  refine s_istore hZ.1 dX13_evalCall_132 (Nat.le_of_ble_eq_true rfl) ?_
  exact s_goto dX13_evalCall_134 (by decide) (wX13_evalCall_229 hZ hg hd)
noncomputable def vX13_evalCall_109 (g : Nat → List Nat → rx_H → Option (Nat × rx_H)) : rx_K := o_ld rx_isR 0 (o_ld rx_isR 0 (o_getf 13 140 (o_ld rx_isR 0 (o_getf 13 158 (o_ld rx_isI 1 (o_ald 0 (o_ld rx_isI 5 (o_callV 3 13 (g 12) (o_pop ((vX13_evalCall_126 g)))))))))))
set_option maxRecDepth 20000 in
theorem wX13_evalCall_109 {dn : Nat} {g : Nat → List Nat → rx_H → Option (Nat × rx_H)} (hZ : zO b e D A X) (hg : ∀ i y M, vl19[i]? = some (y, M) → rx_Met (zV b e D A X) dn y M (g i)) (hd : 333 ≤ dn) : rx_OK (zV b e D A X) mX13_evalCall (dn + 1) 109 (vX13_evalCall_109 g) := by
  unfold vX13_evalCall_109
  refine s_aload_n hZ.1 dX13_evalCall_109 rfl ?_
  refine s_aload_n hZ.1 dX13_evalCall_110 rfl ?_
  refine yg13_140 dX13_evalCall_111 zw4260 ?_
  refine s_aload_n hZ.1 dX13_evalCall_114 rfl ?_
  refine yg13_158 dX13_evalCall_115 zw4278 ?_
  refine s_iload_n hZ.1 dX13_evalCall_118 rfl ?_
  refine s_iald (tt := 0) rfl dX13_evalCall_119 ?_
  refine s_iload hZ.1 dX13_evalCall_120 ?_
  refine s_callV hZ.1 (hg 12 _ _ rfl) (Nat.le_refl _) vy_X13_invoke zcl13 zw3904 zw373 (Or.inl zw3902) dX13_evalCall_122 ?_
  refine s_pop hZ.1 dX13_evalCall_125 ?_
  exact (wX13_evalCall_126 hZ hg hd)
noncomputable def vX13_evalCall_96 (g : Nat → List Nat → rx_H → Option (Nat × rx_H)) : rx_K := o_ld rx_isR 0 (o_ld rx_isR 0 (o_getf 13 88 (o_ld rx_isI 2 (o_ald 0 (o_callV 1 13 FX13_asks (o_c1 rx_eq (vX13_evalCall_126 g) (vX13_evalCall_109 g)))))))
set_option maxRecDepth 20000 in
theorem wX13_evalCall_96 {dn : Nat} {g : Nat → List Nat → rx_H → Option (Nat × rx_H)} (hZ : zO b e D A X) (hg : ∀ i y M, vl19[i]? = some (y, M) → rx_Met (zV b e D A X) dn y M (g i)) (hd : 333 ≤ dn) : rx_OK (zV b e D A X) mX13_evalCall (dn + 1) 96 (vX13_evalCall_96 g) := by
  unfold vX13_evalCall_96
  refine s_aload_n hZ.1 dX13_evalCall_96 rfl ?_
  refine s_aload_n hZ.1 dX13_evalCall_97 rfl ?_
  refine yg13_88 dX13_evalCall_98 zw4209 ?_
  refine s_iload_n hZ.1 dX13_evalCall_101 rfl ?_
  refine s_iald (tt := 0) rfl dX13_evalCall_102 ?_
  refine s_callV hZ.1 (Met_X13_asks hZ) (Nat.succ_le_succ (Nat.le_trans (Nat.le_of_ble_eq_true rfl) hd)) vy_X13_asks zcl13 zw3868 zw364 (Or.inl zw3866) dX13_evalCall_103 ?_
  exact s_if_eq dX13_evalCall_106 (by decide) (wX13_evalCall_126 hZ hg hd) (wX13_evalCall_109 hZ hg hd)
noncomputable def vX13_evalCall_77 (g : Nat → List Nat → rx_H → Option (Nat × rx_H)) : rx_K := o_ld rx_isR 0 (o_getf 13 159 (o_ld rx_isI 1 (o_ald 0 (o_st rx_isI 5 (o_ld rx_isR 0 (o_getf 13 70 (o_ld rx_isI 2 (o_ald 0 (o_const 72 (o_c2 rx_eq (vX13_evalCall_96 g) (vX13_evalCall_137 g)))))))))))
set_option maxRecDepth 20000 in
theorem wX13_evalCall_77 {dn : Nat} {g : Nat → List Nat → rx_H → Option (Nat × rx_H)} (hZ : zO b e D A X) (hg : ∀ i y M, vl19[i]? = some (y, M) → rx_Met (zV b e D A X) dn y M (g i)) (hd : 333 ≤ dn) : rx_OK (zV b e D A X) mX13_evalCall (dn + 1) 77 (vX13_evalCall_77 g) := by
  unfold vX13_evalCall_77
  refine s_aload_n hZ.1 dX13_evalCall_77 rfl ?_
  refine yg13_159 dX13_evalCall_78 zw4279 ?_
  refine s_iload_n hZ.1 dX13_evalCall_81 rfl ?_
  refine s_iald (tt := 0) rfl dX13_evalCall_82 ?_
  refine s_istore hZ.1 dX13_evalCall_83 (Nat.le_of_ble_eq_true rfl) ?_
  refine s_aload_n hZ.1 dX13_evalCall_85 rfl ?_
  refine yg13_70 dX13_evalCall_86 zw4191 ?_
  refine s_iload_n hZ.1 dX13_evalCall_89 rfl ?_
  refine s_iald (tt := 0) rfl dX13_evalCall_90 ?_
  refine s_bipush dX13_evalCall_91 (by decide +kernel) ?_
  exact s_icmp_ne dX13_evalCall_93 (by decide) (wX13_evalCall_137 hZ hg hd) (wX13_evalCall_96 hZ hg hd)
noncomputable def vX13_evalCall_41 (g : Nat → List Nat → rx_H → Option (Nat × rx_H)) : rx_K := o_ld rx_isR 0 (o_getf 13 160 (o_ld rx_isI 1 (o_ald 0 (o_st rx_isI 5 (o_ld rx_isR 0 (o_getf 13 160 (o_ld rx_isI 1 (o_ld rx_isR 0 (o_getf 13 80 (o_ld rx_isI 5 (o_ald 0 (o_ast 0 (fun v => v) rx_isI (o_ld rx_isR 0 (o_getf 13 157 (o_ld rx_isI 1 (o_const 24 (o_ast 0 (fun v => v) rx_isI (o_ld rx_isR 0 (o_ld rx_isI 5 (o_callV 1 13 FX13_push (o_ld rx_isI 3 (o_ret1 rx_isI))))))))))))))))))))))
set_option maxRecDepth 20000 in
theorem wX13_evalCall_41 {dn : Nat} {g : Nat → List Nat → rx_H → Option (Nat × rx_H)} (hZ : zO b e D A X) (hg : ∀ i y M, vl19[i]? = some (y, M) → rx_Met (zV b e D A X) dn y M (g i)) (hd : 333 ≤ dn) : rx_OK (zV b e D A X) mX13_evalCall (dn + 1) 41 (vX13_evalCall_41 g) := by
  unfold vX13_evalCall_41
  refine s_aload_n hZ.1 dX13_evalCall_41 rfl ?_
  refine yg13_160 dX13_evalCall_42 zw4280 ?_
  refine s_iload_n hZ.1 dX13_evalCall_45 rfl ?_
  refine s_iald (tt := 0) rfl dX13_evalCall_46 ?_
  refine s_istore hZ.1 dX13_evalCall_47 (Nat.le_of_ble_eq_true rfl) ?_
  refine s_aload_n hZ.1 dX13_evalCall_49 rfl ?_
  refine yg13_160 dX13_evalCall_50 zw4280 ?_
  refine s_iload_n hZ.1 dX13_evalCall_53 rfl ?_
  refine s_aload_n hZ.1 dX13_evalCall_54 rfl ?_
  refine yg13_80 dX13_evalCall_55 zw4201 ?_
  refine s_iload hZ.1 dX13_evalCall_58 ?_
  refine s_iald (tt := 0) rfl dX13_evalCall_60 ?_
  refine s_iast hZ.1 (tt := 0) rfl dX13_evalCall_61 ?_
  refine s_aload_n hZ.1 dX13_evalCall_62 rfl ?_
  refine yg13_157 dX13_evalCall_63 zw4277 ?_
  refine s_iload_n hZ.1 dX13_evalCall_66 rfl ?_
  refine s_iconst dX13_evalCall_67 (by decide +kernel) ?_
  refine s_iast hZ.1 (tt := 0) rfl dX13_evalCall_68 ?_
  refine s_aload_n hZ.1 dX13_evalCall_69 rfl ?_
  refine s_iload hZ.1 dX13_evalCall_70 ?_
  refine s_callV hZ.1 (Met_X13_push hZ) (Nat.succ_le_succ (Nat.le_trans (Nat.le_of_ble_eq_true rfl) hd)) vy_X13_push zcl13 zw3856 zw361 (Or.inl zw3854) dX13_evalCall_72 ?_
  refine s_iload_n hZ.1 dX13_evalCall_75 rfl ?_
  exact s_iret hZ.1 rfl dX13_evalCall_76
noncomputable def vX13_evalCall_30 (g : Nat → List Nat → rx_H → Option (Nat × rx_H)) : rx_K := o_ld rx_isR 0 (o_getf 13 160 (o_ld rx_isI 1 (o_ald 0 (o_const 34359738352 (o_c2 rx_eq (vX13_evalCall_77 g) (vX13_evalCall_41 g))))))
set_option maxRecDepth 20000 in
theorem wX13_evalCall_30 {dn : Nat} {g : Nat → List Nat → rx_H → Option (Nat × rx_H)} (hZ : zO b e D A X) (hg : ∀ i y M, vl19[i]? = some (y, M) → rx_Met (zV b e D A X) dn y M (g i)) (hd : 333 ≤ dn) : rx_OK (zV b e D A X) mX13_evalCall (dn + 1) 30 (vX13_evalCall_30 g) := by
  unfold vX13_evalCall_30
  refine s_aload_n hZ.1 dX13_evalCall_30 rfl ?_
  refine yg13_160 dX13_evalCall_31 zw4280 ?_
  refine s_iload_n hZ.1 dX13_evalCall_34 rfl ?_
  refine s_iald (tt := 0) rfl dX13_evalCall_35 ?_
  refine s_bipush dX13_evalCall_36 (by decide +kernel) ?_
  exact s_icmp_eq dX13_evalCall_38 (by decide) (wX13_evalCall_77 hZ hg hd) (wX13_evalCall_41 hZ hg hd)
noncomputable def vX13_evalCall_10 (g : Nat → List Nat → rx_H → Option (Nat × rx_H)) : rx_K := o_ld rx_isR 0 (o_getf 13 154 (o_ld rx_isR 0 (o_getf 13 155 (o_ld rx_isI 3 (o_ast 0 (fun v => v) rx_isI (o_ld rx_isR 0 (o_dup (o_getf 13 155 (o_const 8 (o_bi (fun x y => x + y) (o_putf rx_isI 13 155 ((vX13_evalCall_30 g)))))))))))))
set_option maxRecDepth 20000 in
theorem wX13_evalCall_10 {dn : Nat} {g : Nat → List Nat → rx_H → Option (Nat × rx_H)} (hZ : zO b e D A X) (hg : ∀ i y M, vl19[i]? = some (y, M) → rx_Met (zV b e D A X) dn y M (g i)) (hd : 333 ≤ dn) : rx_OK (zV b e D A X) mX13_evalCall (dn + 1) 10 (vX13_evalCall_10 g) := by
  unfold vX13_evalCall_10
  refine s_aload_n hZ.1 dX13_evalCall_10 rfl ?_
  refine yg13_154 dX13_evalCall_11 zw4274 ?_
  refine s_aload_n hZ.1 dX13_evalCall_14 rfl ?_
  refine yg13_155 dX13_evalCall_15 zw4275 ?_
  refine s_iload_n hZ.1 dX13_evalCall_18 rfl ?_
  refine s_iast hZ.1 (tt := 0) rfl dX13_evalCall_19 ?_
  refine s_aload_n hZ.1 dX13_evalCall_20 rfl ?_
  refine s_dup hZ.1 dX13_evalCall_21 ?_
  refine yg13_155 dX13_evalCall_22 zw4275 ?_
  refine s_iconst dX13_evalCall_25 (by decide +kernel) ?_
  refine s_iadd dX13_evalCall_26 ?_
  refine yp13_155 hZ.1 dX13_evalCall_27 zw4275 ?_
  exact (wX13_evalCall_30 hZ hg hd)
noncomputable def vX13_evalCall_0 (g : Nat → List Nat → rx_H → Option (Nat × rx_H)) : rx_K := o_ld rx_isR 0 (o_getf 13 157 (o_ld rx_isI 1 (o_ald 0 (o_const 24 (o_c2 rx_eq (vX13_evalCall_10 g) (vX13_evalCall_30 g))))))
set_option maxRecDepth 20000 in
theorem wX13_evalCall_0 {dn : Nat} {g : Nat → List Nat → rx_H → Option (Nat × rx_H)} (hZ : zO b e D A X) (hg : ∀ i y M, vl19[i]? = some (y, M) → rx_Met (zV b e D A X) dn y M (g i)) (hd : 333 ≤ dn) : rx_OK (zV b e D A X) mX13_evalCall (dn + 1) 0 (vX13_evalCall_0 g) := by
  unfold vX13_evalCall_0
  refine s_aload_n hZ.1 dX13_evalCall_0 rfl ?_
  refine yg13_157 dX13_evalCall_1 zw4277 ?_
  refine s_iload_n hZ.1 dX13_evalCall_4 rfl ?_
  refine s_iald (tt := 0) rfl dX13_evalCall_5 ?_
  refine s_iconst dX13_evalCall_6 (by decide +kernel) ?_
  exact s_icmp_ne dX13_evalCall_7 (by decide) (wX13_evalCall_30 hZ hg hd) (wX13_evalCall_10 hZ hg hd)
noncomputable def FX13_evalCall (g : Nat → List Nat → rx_H → Option (Nat × rx_H)) : List Nat → rx_H → Option (Nat × rx_H) := rx_ent 7 (vX13_evalCall_0 g)
theorem Met_X13_evalCall {dn : Nat} {g : Nat → List Nat → rx_H → Option (Nat × rx_H)} (hZ : zO b e D A X) (hg : ∀ i y M, vl19[i]? = some (y, M) → rx_Met (zV b e D A X) dn y M (g i)) (hd : 333 ≤ dn) : rx_Met (zV b e D A X) (dn + 1) yX13_evalCall mX13_evalCall (FX13_evalCall g) := rx_entry hZ.1 (wX13_evalCall_0 hZ hg hd) (by decide +kernel) rfl (fun h => by cases h)
noncomputable def vX13_evalNew_89 (g : Nat → List Nat → rx_H → Option (Nat × rx_H)) : rx_K := o_ld rx_isR 0 (o_getf 13 158 (o_ld rx_isI 1 (o_ld rx_isI 4 (o_ast 0 (fun v => v) rx_isI (o_ld rx_isR 0 (o_ld rx_isI 1 (o_ld rx_isR 0 (o_getf 13 78 (o_ld rx_isI 2 (o_ald 0 (o_callV 2 13 FX13_beginArgs (o_ld rx_isI 4 (o_ret1 rx_isI)))))))))))))
set_option maxRecDepth 20000 in
theorem wX13_evalNew_89 {dn : Nat} {g : Nat → List Nat → rx_H → Option (Nat × rx_H)} (hZ : zO b e D A X) (hg : ∀ i y M, vl19[i]? = some (y, M) → rx_Met (zV b e D A X) dn y M (g i)) (hd : 333 ≤ dn) : rx_OK (zV b e D A X) mX13_evalNew (dn + 1) 89 (vX13_evalNew_89 g) := by
  unfold vX13_evalNew_89
  refine s_aload_n hZ.1 dX13_evalNew_89 rfl ?_
  refine yg13_158 dX13_evalNew_90 zw4278 ?_
  refine s_iload_n hZ.1 dX13_evalNew_93 rfl ?_
  refine s_iload hZ.1 dX13_evalNew_94 ?_
  refine s_iast hZ.1 (tt := 0) rfl dX13_evalNew_96 ?_
  refine s_aload_n hZ.1 dX13_evalNew_97 rfl ?_
  refine s_iload_n hZ.1 dX13_evalNew_98 rfl ?_
  refine s_aload_n hZ.1 dX13_evalNew_99 rfl ?_
  refine yg13_78 dX13_evalNew_100 zw4199 ?_
  refine s_iload_n hZ.1 dX13_evalNew_103 rfl ?_
  refine s_iald (tt := 0) rfl dX13_evalNew_104 ?_
  refine s_callV hZ.1 (Met_X13_beginArgs hZ) (Nat.succ_le_succ (Nat.le_trans (Nat.le_of_ble_eq_true rfl) hd)) vy_X13_beginArgs zcl13 zw3896 zw371 (Or.inl zw3894) dX13_evalNew_105 ?_
  refine s_iload hZ.1 dX13_evalNew_108 ?_
  exact s_iret hZ.1 rfl dX13_evalNew_110
noncomputable def vX13_evalNew_77 (g : Nat → List Nat → rx_H → Option (Nat × rx_H)) : rx_K := o_ld rx_isR 0 (o_dup (o_getf 13 161 (o_const 8 (o_bi (fun x y => x - y) (o_putf rx_isI 13 161 (o_const 0 (o_ret1 rx_isI)))))))
set_option maxRecDepth 20000 in
theorem wX13_evalNew_77 {dn : Nat} {g : Nat → List Nat → rx_H → Option (Nat × rx_H)} (hZ : zO b e D A X) (hg : ∀ i y M, vl19[i]? = some (y, M) → rx_Met (zV b e D A X) dn y M (g i)) (hd : 333 ≤ dn) : rx_OK (zV b e D A X) mX13_evalNew (dn + 1) 77 (vX13_evalNew_77 g) := by
  unfold vX13_evalNew_77
  refine s_aload_n hZ.1 dX13_evalNew_77 rfl ?_
  refine s_dup hZ.1 dX13_evalNew_78 ?_
  refine yg13_161 dX13_evalNew_79 zw4281 ?_
  refine s_iconst dX13_evalNew_82 (by decide +kernel) ?_
  refine s_isub dX13_evalNew_83 ?_
  refine yp13_161 hZ.1 dX13_evalNew_84 zw4281 ?_
  refine s_iconst dX13_evalNew_87 (by decide +kernel) ?_
  exact s_iret hZ.1 rfl dX13_evalNew_88
noncomputable def vX13_evalNew_70 (g : Nat → List Nat → rx_H → Option (Nat × rx_H)) : rx_K := o_ld rx_isR 0 (o_getf 13 164 (o_c1 rx_eq (vX13_evalNew_89 g) (vX13_evalNew_77 g)))
set_option maxRecDepth 20000 in
theorem wX13_evalNew_70 {dn : Nat} {g : Nat → List Nat → rx_H → Option (Nat × rx_H)} (hZ : zO b e D A X) (hg : ∀ i y M, vl19[i]? = some (y, M) → rx_Met (zV b e D A X) dn y M (g i)) (hd : 333 ≤ dn) : rx_OK (zV b e D A X) mX13_evalNew (dn + 1) 70 (vX13_evalNew_70 g) := by
  unfold vX13_evalNew_70
  refine s_aload_n hZ.1 dX13_evalNew_70 rfl ?_
  refine yg13_164 dX13_evalNew_71 zw4284 ?_
  exact s_if_eq dX13_evalNew_74 (by decide) (wX13_evalNew_89 hZ hg hd) (wX13_evalNew_77 hZ hg hd)
noncomputable def vX13_evalNew_62 (g : Nat → List Nat → rx_H → Option (Nat × rx_H)) : rx_K := o_st rx_isI 4 (o_ld rx_isI 3 (o_const 34359738352 (o_c2 rx_eq (vX13_evalNew_77 g) (vX13_evalNew_70 g))))
set_option maxRecDepth 20000 in
theorem wX13_evalNew_62 {dn : Nat} {g : Nat → List Nat → rx_H → Option (Nat × rx_H)} (hZ : zO b e D A X) (hg : ∀ i y M, vl19[i]? = some (y, M) → rx_Met (zV b e D A X) dn y M (g i)) (hd : 333 ≤ dn) : rx_OK (zV b e D A X) mX13_evalNew (dn + 1) 62 (vX13_evalNew_62 g) := by
  unfold vX13_evalNew_62
  refine s_istore hZ.1 dX13_evalNew_62 (Nat.le_of_ble_eq_true rfl) ?_
  refine s_iload_n hZ.1 dX13_evalNew_64 rfl ?_
  refine s_bipush dX13_evalNew_65 (by decide +kernel) ?_
  exact s_icmp_eq dX13_evalNew_67 (by decide) (wX13_evalNew_77 hZ hg hd) (wX13_evalNew_70 hZ hg hd)
noncomputable def vX13_evalNew_61 (g : Nat → List Nat → rx_H → Option (Nat × rx_H)) : rx_K := o_const 0 ((vX13_evalNew_62 g))
set_option maxRecDepth 20000 in
theorem wX13_evalNew_61 {dn : Nat} {g : Nat → List Nat → rx_H → Option (Nat × rx_H)} (hZ : zO b e D A X) (hg : ∀ i y M, vl19[i]? = some (y, M) → rx_Met (zV b e D A X) dn y M (g i)) (hd : 333 ≤ dn) : rx_OK (zV b e D A X) mX13_evalNew (dn + 1) 61 (vX13_evalNew_61 g) := by
  unfold vX13_evalNew_61
  refine s_iconst dX13_evalNew_61 (by decide +kernel) ?_
  exact (wX13_evalNew_62 hZ hg hd)
noncomputable def vX13_evalNew_53 (g : Nat → List Nat → rx_H → Option (Nat × rx_H)) : rx_K := o_ld rx_isR 0 (o_ld rx_isI 3 (o_callV 1 13 FX13_newObject ((vX13_evalNew_62 g))))
set_option maxRecDepth 20000 in
theorem wX13_evalNew_53 {dn : Nat} {g : Nat → List Nat → rx_H → Option (Nat × rx_H)} (hZ : zO b e D A X) (hg : ∀ i y M, vl19[i]? = some (y, M) → rx_Met (zV b e D A X) dn y M (g i)) (hd : 333 ≤ dn) : rx_OK (zV b e D A X) mX13_evalNew (dn + 1) 53 (vX13_evalNew_53 g) := by
  unfold vX13_evalNew_53
  refine s_aload_n hZ.1 dX13_evalNew_53 rfl ?_
  refine s_iload_n hZ.1 dX13_evalNew_54 rfl ?_
  refine s_callV hZ.1 (Met_X13_newObject hZ) (Nat.succ_le_succ (Nat.le_trans (Nat.le_of_ble_eq_true rfl) hd)) vy_X13_newObject zcl13 zw3948 zw384 (Or.inl zw3946) dX13_evalNew_55 ?_
  exact s_goto dX13_evalNew_58 (by decide) (wX13_evalNew_62 hZ hg hd)
noncomputable def vX13_evalNew_46 (g : Nat → List Nat → rx_H → Option (Nat × rx_H)) : rx_K := o_ld rx_isR 0 (o_getf 13 164 (o_c1 rx_eq (vX13_evalNew_53 g) (vX13_evalNew_61 g)))
set_option maxRecDepth 20000 in
theorem wX13_evalNew_46 {dn : Nat} {g : Nat → List Nat → rx_H → Option (Nat × rx_H)} (hZ : zO b e D A X) (hg : ∀ i y M, vl19[i]? = some (y, M) → rx_Met (zV b e D A X) dn y M (g i)) (hd : 333 ≤ dn) : rx_OK (zV b e D A X) mX13_evalNew (dn + 1) 46 (vX13_evalNew_46 g) := by
  unfold vX13_evalNew_46
  refine s_aload_n hZ.1 dX13_evalNew_46 rfl ?_
  refine yg13_164 dX13_evalNew_47 zw4284 ?_
  exact s_if_ne dX13_evalNew_50 (by decide) (wX13_evalNew_61 hZ hg hd) (wX13_evalNew_53 hZ hg hd)
noncomputable def vX13_evalNew_40 (g : Nat → List Nat → rx_H → Option (Nat × rx_H)) : rx_K := o_ld rx_isI 3 (o_const 34359738352 (o_c2 rx_eq (vX13_evalNew_61 g) (vX13_evalNew_46 g)))
set_option maxRecDepth 20000 in
theorem wX13_evalNew_40 {dn : Nat} {g : Nat → List Nat → rx_H → Option (Nat × rx_H)} (hZ : zO b e D A X) (hg : ∀ i y M, vl19[i]? = some (y, M) → rx_Met (zV b e D A X) dn y M (g i)) (hd : 333 ≤ dn) : rx_OK (zV b e D A X) mX13_evalNew (dn + 1) 40 (vX13_evalNew_40 g) := by
  unfold vX13_evalNew_40
  refine s_iload_n hZ.1 dX13_evalNew_40 rfl ?_
  refine s_bipush dX13_evalNew_41 (by decide +kernel) ?_
  exact s_icmp_eq dX13_evalNew_43 (by decide) (wX13_evalNew_61 hZ hg hd) (wX13_evalNew_46 hZ hg hd)
noncomputable def vX13_evalNew_35 (g : Nat → List Nat → rx_H → Option (Nat × rx_H)) : rx_K := o_ld rx_isR 0 (o_ld rx_isI 3 (o_callV 1 13 (g 14) ((vX13_evalNew_40 g))))
set_option maxRecDepth 20000 in
theorem wX13_evalNew_35 {dn : Nat} {g : Nat → List Nat → rx_H → Option (Nat × rx_H)} (hZ : zO b e D A X) (hg : ∀ i y M, vl19[i]? = some (y, M) → rx_Met (zV b e D A X) dn y M (g i)) (hd : 333 ≤ dn) : rx_OK (zV b e D A X) mX13_evalNew (dn + 1) 35 (vX13_evalNew_35 g) := by
  unfold vX13_evalNew_35
  refine s_aload_n hZ.1 dX13_evalNew_35 rfl ?_
  refine s_iload_n hZ.1 dX13_evalNew_36 rfl ?_
  refine s_callV hZ.1 (hg 14 _ _ rfl) (Nat.le_refl _) vy_X13_start zcl13 zw3816 zw351 (Or.inl zw3814) dX13_evalNew_37 ?_
  exact (wX13_evalNew_40 hZ hg hd)
noncomputable def vX13_evalNew_28 (g : Nat → List Nat → rx_H → Option (Nat × rx_H)) : rx_K := o_st rx_isI 3 (o_ld rx_isI 3 (o_const 34359738352 (o_c2 rx_eq (vX13_evalNew_40 g) (vX13_evalNew_35 g))))
set_option maxRecDepth 20000 in
theorem wX13_evalNew_28 {dn : Nat} {g : Nat → List Nat → rx_H → Option (Nat × rx_H)} (hZ : zO b e D A X) (hg : ∀ i y M, vl19[i]? = some (y, M) → rx_Met (zV b e D A X) dn y M (g i)) (hd : 333 ≤ dn) : rx_OK (zV b e D A X) mX13_evalNew (dn + 1) 28 (vX13_evalNew_28 g) := by
  unfold vX13_evalNew_28
  refine s_istore_n hZ.1 dX13_evalNew_28 rfl (Nat.le_of_ble_eq_true rfl) ?_
  refine s_iload_n hZ.1 dX13_evalNew_29 rfl ?_
  refine s_bipush dX13_evalNew_30 (by decide +kernel) ?_
  exact s_icmp_eq dX13_evalNew_32 (by decide) (wX13_evalNew_40 hZ hg hd) (wX13_evalNew_35 hZ hg hd)
noncomputable def vX13_evalNew_26 (g : Nat → List Nat → rx_H → Option (Nat × rx_H)) : rx_K := o_const 34359738352 ((vX13_evalNew_28 g))
set_option maxRecDepth 20000 in
theorem wX13_evalNew_26 {dn : Nat} {g : Nat → List Nat → rx_H → Option (Nat × rx_H)} (hZ : zO b e D A X) (hg : ∀ i y M, vl19[i]? = some (y, M) → rx_Met (zV b e D A X) dn y M (g i)) (hd : 333 ≤ dn) : rx_OK (zV b e D A X) mX13_evalNew (dn + 1) 26 (vX13_evalNew_26 g) := by
  unfold vX13_evalNew_26
  refine s_bipush dX13_evalNew_26 (by decide +kernel) ?_
  exact (wX13_evalNew_28 hZ hg hd)
noncomputable def vX13_evalNew_13 (g : Nat → List Nat → rx_H → Option (Nat × rx_H)) : rx_K := o_ld rx_isR 0 (o_ld rx_isR 0 (o_getf 13 75 (o_ld rx_isI 2 (o_ald 1 (o_callV 1 13 FX13_find ((vX13_evalNew_28 g)))))))
set_option maxRecDepth 20000 in
theorem wX13_evalNew_13 {dn : Nat} {g : Nat → List Nat → rx_H → Option (Nat × rx_H)} (hZ : zO b e D A X) (hg : ∀ i y M, vl19[i]? = some (y, M) → rx_Met (zV b e D A X) dn y M (g i)) (hd : 333 ≤ dn) : rx_OK (zV b e D A X) mX13_evalNew (dn + 1) 13 (vX13_evalNew_13 g) := by
  unfold vX13_evalNew_13
  refine s_aload_n hZ.1 dX13_evalNew_13 rfl ?_
  refine s_aload_n hZ.1 dX13_evalNew_14 rfl ?_
  refine yg13_75 dX13_evalNew_15 zw4196 ?_
  refine s_iload_n hZ.1 dX13_evalNew_18 rfl ?_
  refine s_lald (tt := 1) rfl dX13_evalNew_19 ?_
  refine s_callV hZ.1 (Met_X13_find hZ) (Nat.succ_le_succ (Nat.le_trans (Nat.le_of_ble_eq_true rfl) hd)) vy_X13_find zcl13 zw3186 zw226 (Or.inl zw3184) dX13_evalNew_20 ?_
  exact s_goto dX13_evalNew_23 (by decide) (wX13_evalNew_28 hZ hg hd)
noncomputable def vX13_evalNew_0 (g : Nat → List Nat → rx_H → Option (Nat × rx_H)) : rx_K := o_ld rx_isR 0 (o_ld rx_isR 0 (o_getf 13 87 (o_ld rx_isI 2 (o_ald 0 (o_callV 1 13 FX13_asks (o_c1 rx_eq (vX13_evalNew_26 g) (vX13_evalNew_13 g)))))))
set_option maxRecDepth 20000 in
theorem wX13_evalNew_0 {dn : Nat} {g : Nat → List Nat → rx_H → Option (Nat × rx_H)} (hZ : zO b e D A X) (hg : ∀ i y M, vl19[i]? = some (y, M) → rx_Met (zV b e D A X) dn y M (g i)) (hd : 333 ≤ dn) : rx_OK (zV b e D A X) mX13_evalNew (dn + 1) 0 (vX13_evalNew_0 g) := by
  unfold vX13_evalNew_0
  refine s_aload_n hZ.1 dX13_evalNew_0 rfl ?_
  refine s_aload_n hZ.1 dX13_evalNew_1 rfl ?_
  refine yg13_87 dX13_evalNew_2 zw4208 ?_
  refine s_iload_n hZ.1 dX13_evalNew_5 rfl ?_
  refine s_iald (tt := 0) rfl dX13_evalNew_6 ?_
  refine s_callV hZ.1 (Met_X13_asks hZ) (Nat.succ_le_succ (Nat.le_trans (Nat.le_of_ble_eq_true rfl) hd)) vy_X13_asks zcl13 zw3868 zw364 (Or.inl zw3866) dX13_evalNew_7 ?_
  exact s_if_eq dX13_evalNew_10 (by decide) (wX13_evalNew_26 hZ hg hd) (wX13_evalNew_13 hZ hg hd)
noncomputable def FX13_evalNew (g : Nat → List Nat → rx_H → Option (Nat × rx_H)) : List Nat → rx_H → Option (Nat × rx_H) := rx_ent 5 (vX13_evalNew_0 g)
theorem Met_X13_evalNew {dn : Nat} {g : Nat → List Nat → rx_H → Option (Nat × rx_H)} (hZ : zO b e D A X) (hg : ∀ i y M, vl19[i]? = some (y, M) → rx_Met (zV b e D A X) dn y M (g i)) (hd : 333 ≤ dn) : rx_Met (zV b e D A X) (dn + 1) yX13_evalNew mX13_evalNew (FX13_evalNew g) := rx_entry hZ.1 (wX13_evalNew_0 hZ hg hd) (by decide +kernel) rfl (fun h => by cases h)
noncomputable def vX13_evalNode_445 (g : Nat → List Nat → rx_H → Option (Nat × rx_H)) : rx_K := o_ld rx_isR 0 (o_ld rx_isI 1 (o_ld rx_isI 2 (o_ld rx_isI 3 (o_ld rx_isI 5 (o_callV 4 13 (g 5) (o_ret1 rx_isI))))))
set_option maxRecDepth 20000 in
theorem wX13_evalNode_445 {dn : Nat} {g : Nat → List Nat → rx_H → Option (Nat × rx_H)} (hZ : zO b e D A X) (hg : ∀ i y M, vl19[i]? = some (y, M) → rx_Met (zV b e D A X) dn y M (g i)) (hd : 333 ≤ dn) : rx_OK (zV b e D A X) mX13_evalNode (dn + 1) 445 (vX13_evalNode_445 g) := by
  unfold vX13_evalNode_445
  refine s_aload_n hZ.1 dX13_evalNode_445 rfl ?_
  refine s_iload_n hZ.1 dX13_evalNode_446 rfl ?_
  refine s_iload_n hZ.1 dX13_evalNode_447 rfl ?_
  refine s_iload_n hZ.1 dX13_evalNode_448 rfl ?_
  refine s_iload hZ.1 dX13_evalNode_449 ?_
  refine s_callV hZ.1 (hg 5 _ _ rfl) (Nat.le_refl _) vy_X13_evalCall zcl13 zw3900 zw372 (Or.inl zw3898) dX13_evalNode_451 ?_
  exact s_iret hZ.1 rfl dX13_evalNode_454
noncomputable def vX13_evalNode_432 (g : Nat → List Nat → rx_H → Option (Nat × rx_H)) : rx_K := o_ld rx_isR 0 (o_ld rx_isI 1 (o_ld rx_isR 0 (o_getf 13 78 (o_ld rx_isI 2 (o_ald 0 (o_callV 2 13 FX13_beginArgs (o_ld rx_isI 3 (o_ret1 rx_isI))))))))
set_option maxRecDepth 20000 in
theorem wX13_evalNode_432 {dn : Nat} {g : Nat → List Nat → rx_H → Option (Nat × rx_H)} (hZ : zO b e D A X) (hg : ∀ i y M, vl19[i]? = some (y, M) → rx_Met (zV b e D A X) dn y M (g i)) (hd : 333 ≤ dn) : rx_OK (zV b e D A X) mX13_evalNode (dn + 1) 432 (vX13_evalNode_432 g) := by
  unfold vX13_evalNode_432
  refine s_aload_n hZ.1 dX13_evalNode_432 rfl ?_
  refine s_iload_n hZ.1 dX13_evalNode_433 rfl ?_
  refine s_aload_n hZ.1 dX13_evalNode_434 rfl ?_
  refine yg13_78 dX13_evalNode_435 zw4199 ?_
  refine s_iload_n hZ.1 dX13_evalNode_438 rfl ?_
  refine s_iald (tt := 0) rfl dX13_evalNode_439 ?_
  refine s_callV hZ.1 (Met_X13_beginArgs hZ) (Nat.succ_le_succ (Nat.le_trans (Nat.le_of_ble_eq_true rfl) hd)) vy_X13_beginArgs zcl13 zw3896 zw371 (Or.inl zw3894) dX13_evalNode_440 ?_
  refine s_iload_n hZ.1 dX13_evalNode_443 rfl ?_
  exact s_iret hZ.1 rfl dX13_evalNode_444
noncomputable def vX13_evalNode_427 (g : Nat → List Nat → rx_H → Option (Nat × rx_H)) : rx_K := o_ld rx_isI 7 (o_c1 rx_eq (vX13_evalNode_432 g) (vX13_evalNode_445 g))
set_option maxRecDepth 20000 in
theorem wX13_evalNode_427 {dn : Nat} {g : Nat → List Nat → rx_H → Option (Nat × rx_H)} (hZ : zO b e D A X) (hg : ∀ i y M, vl19[i]? = some (y, M) → rx_Met (zV b e D A X) dn y M (g i)) (hd : 333 ≤ dn) : rx_OK (zV b e D A X) mX13_evalNode (dn + 1) 427 (vX13_evalNode_427 g) := by
  unfold vX13_evalNode_427
  refine s_iload hZ.1 dX13_evalNode_427 ?_
  exact s_if_ne dX13_evalNode_429 (by decide) (wX13_evalNode_445 hZ hg hd) (wX13_evalNode_432 hZ hg hd)
noncomputable def vX13_evalNode_419 (g : Nat → List Nat → rx_H → Option (Nat × rx_H)) : rx_K := o_ld rx_isR 0 (o_ld rx_isI 1 (o_ld rx_isI 2 (o_ld rx_isI 3 (o_callV 3 13 FX13_evalTwo (o_ret1 rx_isI)))))
set_option maxRecDepth 20000 in
theorem wX13_evalNode_419 {dn : Nat} {g : Nat → List Nat → rx_H → Option (Nat × rx_H)} (hZ : zO b e D A X) (hg : ∀ i y M, vl19[i]? = some (y, M) → rx_Met (zV b e D A X) dn y M (g i)) (hd : 333 ≤ dn) : rx_OK (zV b e D A X) mX13_evalNode (dn + 1) 419 (vX13_evalNode_419 g) := by
  unfold vX13_evalNode_419
  refine s_aload_n hZ.1 dX13_evalNode_419 rfl ?_
  refine s_iload_n hZ.1 dX13_evalNode_420 rfl ?_
  refine s_iload_n hZ.1 dX13_evalNode_421 rfl ?_
  refine s_iload_n hZ.1 dX13_evalNode_422 rfl ?_
  refine s_callV hZ.1 (Met_X13_evalTwo hZ) (Nat.succ_le_succ (Nat.le_trans (Nat.le_of_ble_eq_true rfl) hd)) vy_X13_evalTwo zcl13 zw3952 zw385 (Or.inl zw3950) dX13_evalNode_423 ?_
  exact s_iret hZ.1 rfl dX13_evalNode_426
noncomputable def vX13_evalNode_407 (g : Nat → List Nat → rx_H → Option (Nat × rx_H)) : rx_K := o_ld rx_isR 0 (o_getf 13 70 (o_ld rx_isI 2 (o_ald 0 (o_callS 1 FX13_isTwo (o_c1 rx_eq (vX13_evalNode_427 g) (vX13_evalNode_419 g))))))
set_option maxRecDepth 20000 in
theorem wX13_evalNode_407 {dn : Nat} {g : Nat → List Nat → rx_H → Option (Nat × rx_H)} (hZ : zO b e D A X) (hg : ∀ i y M, vl19[i]? = some (y, M) → rx_Met (zV b e D A X) dn y M (g i)) (hd : 333 ≤ dn) : rx_OK (zV b e D A X) mX13_evalNode (dn + 1) 407 (vX13_evalNode_407 g) := by
  unfold vX13_evalNode_407
  refine s_aload_n hZ.1 dX13_evalNode_407 rfl ?_
  refine yg13_70 dX13_evalNode_408 zw4191 ?_
  refine s_iload_n hZ.1 dX13_evalNode_411 rfl ?_
  refine s_iald (tt := 0) rfl dX13_evalNode_412 ?_
  refine s_callS hZ.1 (Met_X13_isTwo hZ) (Nat.succ_le_succ (Nat.le_trans (Nat.le_of_ble_eq_true rfl) hd)) vy_X13_isTwo zw3338 (Or.inl zw3337) dX13_evalNode_413 ?_
  exact s_if_eq dX13_evalNode_416 (by decide) (wX13_evalNode_427 hZ hg hd) (wX13_evalNode_419 hZ hg hd)
noncomputable def vX13_evalNode_406 (g : Nat → List Nat → rx_H → Option (Nat × rx_H)) : rx_K := o_ret1 rx_isI
set_option maxRecDepth 20000 in
theorem wX13_evalNode_406 {dn : Nat} {g : Nat → List Nat → rx_H → Option (Nat × rx_H)} (hZ : zO b e D A X) (hg : ∀ i y M, vl19[i]? = some (y, M) → rx_Met (zV b e D A X) dn y M (g i)) (hd : 333 ≤ dn) : rx_OK (zV b e D A X) mX13_evalNode (dn + 1) 406 (vX13_evalNode_406 g) := by
  unfold vX13_evalNode_406
  exact s_iret hZ.1 rfl dX13_evalNode_406
noncomputable def vX13_evalNode_397 (g : Nat → List Nat → rx_H → Option (Nat × rx_H)) : rx_K := o_ld rx_isR 0 (o_ld rx_isI 1 (o_ld rx_isI 2 (o_ld rx_isI 3 (o_ld rx_isI 5 (o_callV 4 13 (g 5) ((vX13_evalNode_406 g)))))))
set_option maxRecDepth 20000 in
theorem wX13_evalNode_397 {dn : Nat} {g : Nat → List Nat → rx_H → Option (Nat × rx_H)} (hZ : zO b e D A X) (hg : ∀ i y M, vl19[i]? = some (y, M) → rx_Met (zV b e D A X) dn y M (g i)) (hd : 333 ≤ dn) : rx_OK (zV b e D A X) mX13_evalNode (dn + 1) 397 (vX13_evalNode_397 g) := by
  unfold vX13_evalNode_397
  refine s_aload_n hZ.1 dX13_evalNode_397 rfl ?_
  refine s_iload_n hZ.1 dX13_evalNode_398 rfl ?_
  refine s_iload_n hZ.1 dX13_evalNode_399 rfl ?_
  refine s_iload_n hZ.1 dX13_evalNode_400 rfl ?_
  refine s_iload hZ.1 dX13_evalNode_401 ?_
  refine s_callV hZ.1 (hg 5 _ _ rfl) (Nat.le_refl _) vy_X13_evalCall zcl13 zw3900 zw372 (Or.inl zw3898) dX13_evalNode_403 ?_
  exact (wX13_evalNode_406 hZ hg hd)
noncomputable def vX13_evalNode_388 (g : Nat → List Nat → rx_H → Option (Nat × rx_H)) : rx_K := o_ld rx_isR 0 (o_ld rx_isI 1 (o_ld rx_isI 2 (o_callV 2 13 (g 6) ((vX13_evalNode_406 g)))))
set_option maxRecDepth 20000 in
theorem wX13_evalNode_388 {dn : Nat} {g : Nat → List Nat → rx_H → Option (Nat × rx_H)} (hZ : zO b e D A X) (hg : ∀ i y M, vl19[i]? = some (y, M) → rx_Met (zV b e D A X) dn y M (g i)) (hd : 333 ≤ dn) : rx_OK (zV b e D A X) mX13_evalNode (dn + 1) 388 (vX13_evalNode_388 g) := by
  unfold vX13_evalNode_388
  refine s_aload_n hZ.1 dX13_evalNode_388 rfl ?_
  refine s_iload_n hZ.1 dX13_evalNode_389 rfl ?_
  refine s_iload_n hZ.1 dX13_evalNode_390 rfl ?_
  refine s_callV hZ.1 (hg 6 _ _ rfl) (Nat.le_refl _) vy_X13_evalNew zcl13 zw3944 zw383 (Or.inl zw3942) dX13_evalNode_391 ?_
  exact s_goto dX13_evalNode_394 (by decide) (wX13_evalNode_406 hZ hg hd)
noncomputable def vX13_evalNode_383 (g : Nat → List Nat → rx_H → Option (Nat × rx_H)) : rx_K := o_ld rx_isI 7 (o_c1 rx_eq (vX13_evalNode_388 g) (vX13_evalNode_397 g))
set_option maxRecDepth 20000 in
theorem wX13_evalNode_383 {dn : Nat} {g : Nat → List Nat → rx_H → Option (Nat × rx_H)} (hZ : zO b e D A X) (hg : ∀ i y M, vl19[i]? = some (y, M) → rx_Met (zV b e D A X) dn y M (g i)) (hd : 333 ≤ dn) : rx_OK (zV b e D A X) mX13_evalNode (dn + 1) 383 (vX13_evalNode_383 g) := by
  unfold vX13_evalNode_383
  refine s_iload hZ.1 dX13_evalNode_383 ?_
  exact s_if_ne dX13_evalNode_385 (by decide) (wX13_evalNode_397 hZ hg hd) (wX13_evalNode_388 hZ hg hd)
noncomputable def vX13_evalNode_373 (g : Nat → List Nat → rx_H → Option (Nat × rx_H)) : rx_K := o_ld rx_isR 0 (o_ld rx_isI 1 (o_ld rx_isI 2 (o_ld rx_isI 3 (o_ld rx_isI 5 (o_callV 4 13 (g 5) (o_ret1 rx_isI))))))
set_option maxRecDepth 20000 in
theorem wX13_evalNode_373 {dn : Nat} {g : Nat → List Nat → rx_H → Option (Nat × rx_H)} (hZ : zO b e D A X) (hg : ∀ i y M, vl19[i]? = some (y, M) → rx_Met (zV b e D A X) dn y M (g i)) (hd : 333 ≤ dn) : rx_OK (zV b e D A X) mX13_evalNode (dn + 1) 373 (vX13_evalNode_373 g) := by
  unfold vX13_evalNode_373
  refine s_aload_n hZ.1 dX13_evalNode_373 rfl ?_
  refine s_iload_n hZ.1 dX13_evalNode_374 rfl ?_
  refine s_iload_n hZ.1 dX13_evalNode_375 rfl ?_
  refine s_iload_n hZ.1 dX13_evalNode_376 rfl ?_
  refine s_iload hZ.1 dX13_evalNode_377 ?_
  refine s_callV hZ.1 (hg 5 _ _ rfl) (Nat.le_refl _) vy_X13_evalCall zcl13 zw3900 zw372 (Or.inl zw3898) dX13_evalNode_379 ?_
  exact s_iret hZ.1 rfl dX13_evalNode_382
noncomputable def vX13_evalNode_353 (g : Nat → List Nat → rx_H → Option (Nat × rx_H)) : rx_K := o_ld rx_isR 0 (o_getf 13 158 (o_ld rx_isI 1 (o_ld rx_isI 3 (o_ast 0 (fun v => v) rx_isI (o_ld rx_isR 0 (o_ld rx_isI 1 (o_ld rx_isR 0 (o_getf 13 78 (o_ld rx_isI 2 (o_ald 0 (o_callV 2 13 FX13_beginArgs (o_ld rx_isI 3 (o_ret1 rx_isI)))))))))))))
set_option maxRecDepth 20000 in
theorem wX13_evalNode_353 {dn : Nat} {g : Nat → List Nat → rx_H → Option (Nat × rx_H)} (hZ : zO b e D A X) (hg : ∀ i y M, vl19[i]? = some (y, M) → rx_Met (zV b e D A X) dn y M (g i)) (hd : 333 ≤ dn) : rx_OK (zV b e D A X) mX13_evalNode (dn + 1) 353 (vX13_evalNode_353 g) := by
  unfold vX13_evalNode_353
  refine s_aload_n hZ.1 dX13_evalNode_353 rfl ?_
  refine yg13_158 dX13_evalNode_354 zw4278 ?_
  refine s_iload_n hZ.1 dX13_evalNode_357 rfl ?_
  refine s_iload_n hZ.1 dX13_evalNode_358 rfl ?_
  refine s_iast hZ.1 (tt := 0) rfl dX13_evalNode_359 ?_
  refine s_aload_n hZ.1 dX13_evalNode_360 rfl ?_
  refine s_iload_n hZ.1 dX13_evalNode_361 rfl ?_
  refine s_aload_n hZ.1 dX13_evalNode_362 rfl ?_
  refine yg13_78 dX13_evalNode_363 zw4199 ?_
  refine s_iload_n hZ.1 dX13_evalNode_366 rfl ?_
  refine s_iald (tt := 0) rfl dX13_evalNode_367 ?_
  refine s_callV hZ.1 (Met_X13_beginArgs hZ) (Nat.succ_le_succ (Nat.le_trans (Nat.le_of_ble_eq_true rfl) hd)) vy_X13_beginArgs zcl13 zw3896 zw371 (Or.inl zw3894) dX13_evalNode_368 ?_
  refine s_iload_n hZ.1 dX13_evalNode_371 rfl ?_
  exact s_iret hZ.1 rfl dX13_evalNode_372
noncomputable def vX13_evalNode_347 (g : Nat → List Nat → rx_H → Option (Nat × rx_H)) : rx_K := o_ld rx_isI 7 (o_const 8 (o_c2 rx_eq (vX13_evalNode_353 g) (vX13_evalNode_373 g)))
set_option maxRecDepth 20000 in
theorem wX13_evalNode_347 {dn : Nat} {g : Nat → List Nat → rx_H → Option (Nat × rx_H)} (hZ : zO b e D A X) (hg : ∀ i y M, vl19[i]? = some (y, M) → rx_Met (zV b e D A X) dn y M (g i)) (hd : 333 ≤ dn) : rx_OK (zV b e D A X) mX13_evalNode (dn + 1) 347 (vX13_evalNode_347 g) := by
  unfold vX13_evalNode_347
  refine s_iload hZ.1 dX13_evalNode_347 ?_
  refine s_iconst dX13_evalNode_349 (by decide +kernel) ?_
  exact s_icmp_ne dX13_evalNode_350 (by decide) (wX13_evalNode_373 hZ hg hd) (wX13_evalNode_353 hZ hg hd)
noncomputable def vX13_evalNode_328 (g : Nat → List Nat → rx_H → Option (Nat × rx_H)) : rx_K := o_ld rx_isR 0 (o_getf 13 157 (o_ld rx_isI 1 (o_const 8 (o_ast 0 (fun v => v) rx_isI (o_ld rx_isR 0 (o_ld rx_isR 0 (o_getf 13 77 (o_ld rx_isI 2 (o_ald 0 (o_callV 1 13 FX13_push (o_ld rx_isI 3 (o_ret1 rx_isI))))))))))))
set_option maxRecDepth 20000 in
theorem wX13_evalNode_328 {dn : Nat} {g : Nat → List Nat → rx_H → Option (Nat × rx_H)} (hZ : zO b e D A X) (hg : ∀ i y M, vl19[i]? = some (y, M) → rx_Met (zV b e D A X) dn y M (g i)) (hd : 333 ≤ dn) : rx_OK (zV b e D A X) mX13_evalNode (dn + 1) 328 (vX13_evalNode_328 g) := by
  unfold vX13_evalNode_328
  refine s_aload_n hZ.1 dX13_evalNode_328 rfl ?_
  refine yg13_157 dX13_evalNode_329 zw4277 ?_
  refine s_iload_n hZ.1 dX13_evalNode_332 rfl ?_
  refine s_iconst dX13_evalNode_333 (by decide +kernel) ?_
  refine s_iast hZ.1 (tt := 0) rfl dX13_evalNode_334 ?_
  refine s_aload_n hZ.1 dX13_evalNode_335 rfl ?_
  refine s_aload_n hZ.1 dX13_evalNode_336 rfl ?_
  refine yg13_77 dX13_evalNode_337 zw4198 ?_
  refine s_iload_n hZ.1 dX13_evalNode_340 rfl ?_
  refine s_iald (tt := 0) rfl dX13_evalNode_341 ?_
  refine s_callV hZ.1 (Met_X13_push hZ) (Nat.succ_le_succ (Nat.le_trans (Nat.le_of_ble_eq_true rfl) hd)) vy_X13_push zcl13 zw3856 zw361 (Or.inl zw3854) dX13_evalNode_342 ?_
  refine s_iload_n hZ.1 dX13_evalNode_345 rfl ?_
  exact s_iret hZ.1 rfl dX13_evalNode_346
noncomputable def vX13_evalNode_323 (g : Nat → List Nat → rx_H → Option (Nat × rx_H)) : rx_K := o_ld rx_isI 7 (o_c1 rx_eq (vX13_evalNode_328 g) (vX13_evalNode_347 g))
set_option maxRecDepth 20000 in
theorem wX13_evalNode_323 {dn : Nat} {g : Nat → List Nat → rx_H → Option (Nat × rx_H)} (hZ : zO b e D A X) (hg : ∀ i y M, vl19[i]? = some (y, M) → rx_Met (zV b e D A X) dn y M (g i)) (hd : 333 ≤ dn) : rx_OK (zV b e D A X) mX13_evalNode (dn + 1) 323 (vX13_evalNode_323 g) := by
  unfold vX13_evalNode_323
  refine s_iload hZ.1 dX13_evalNode_323 ?_
  exact s_if_ne dX13_evalNode_325 (by decide) (wX13_evalNode_347 hZ hg hd) (wX13_evalNode_328 hZ hg hd)
noncomputable def vX13_evalNode_322 (g : Nat → List Nat → rx_H → Option (Nat × rx_H)) : rx_K := o_ret1 rx_isI
set_option maxRecDepth 20000 in
theorem wX13_evalNode_322 {dn : Nat} {g : Nat → List Nat → rx_H → Option (Nat × rx_H)} (hZ : zO b e D A X) (hg : ∀ i y M, vl19[i]? = some (y, M) → rx_Met (zV b e D A X) dn y M (g i)) (hd : 333 ≤ dn) : rx_OK (zV b e D A X) mX13_evalNode (dn + 1) 322 (vX13_evalNode_322 g) := by
  unfold vX13_evalNode_322
  exact s_iret hZ.1 rfl dX13_evalNode_322
noncomputable def vX13_evalNode_316 (g : Nat → List Nat → rx_H → Option (Nat × rx_H)) : rx_K := o_ld rx_isR 0 (o_ld rx_isI 2 (o_ld rx_isI 3 (o_callV 2 13 FX13_cast ((vX13_evalNode_322 g)))))
set_option maxRecDepth 20000 in
theorem wX13_evalNode_316 {dn : Nat} {g : Nat → List Nat → rx_H → Option (Nat × rx_H)} (hZ : zO b e D A X) (hg : ∀ i y M, vl19[i]? = some (y, M) → rx_Met (zV b e D A X) dn y M (g i)) (hd : 333 ≤ dn) : rx_OK (zV b e D A X) mX13_evalNode (dn + 1) 316 (vX13_evalNode_316 g) := by
  unfold vX13_evalNode_316
  refine s_aload_n hZ.1 dX13_evalNode_316 rfl ?_
  refine s_iload_n hZ.1 dX13_evalNode_317 rfl ?_
  refine s_iload_n hZ.1 dX13_evalNode_318 rfl ?_
  refine s_callV hZ.1 (Met_X13_cast hZ) (Nat.succ_le_succ (Nat.le_trans (Nat.le_of_ble_eq_true rfl) hd)) vy_X13_cast zcl13 zw3892 zw370 (Or.inl zw3890) dX13_evalNode_319 ?_
  exact (wX13_evalNode_322 hZ hg hd)
noncomputable def vX13_evalNode_307 (g : Nat → List Nat → rx_H → Option (Nat × rx_H)) : rx_K := o_ld rx_isR 0 (o_ld rx_isI 2 (o_ld rx_isI 3 (o_callV 2 13 FX13_asked ((vX13_evalNode_322 g)))))
set_option maxRecDepth 20000 in
theorem wX13_evalNode_307 {dn : Nat} {g : Nat → List Nat → rx_H → Option (Nat × rx_H)} (hZ : zO b e D A X) (hg : ∀ i y M, vl19[i]? = some (y, M) → rx_Met (zV b e D A X) dn y M (g i)) (hd : 333 ≤ dn) : rx_OK (zV b e D A X) mX13_evalNode (dn + 1) 307 (vX13_evalNode_307 g) := by
  unfold vX13_evalNode_307
  refine s_aload_n hZ.1 dX13_evalNode_307 rfl ?_
  refine s_iload_n hZ.1 dX13_evalNode_308 rfl ?_
  refine s_iload_n hZ.1 dX13_evalNode_309 rfl ?_
  refine s_callV hZ.1 (Met_X13_asked hZ) (Nat.succ_le_succ (Nat.le_trans (Nat.le_of_ble_eq_true rfl) hd)) vy_X13_asked zcl13 zw3884 zw368 (Or.inl zw3882) dX13_evalNode_310 ?_
  exact s_goto dX13_evalNode_313 (by decide) (wX13_evalNode_322 hZ hg hd)
noncomputable def vX13_evalNode_296 (g : Nat → List Nat → rx_H → Option (Nat × rx_H)) : rx_K := o_ld rx_isR 0 (o_getf 13 70 (o_ld rx_isI 2 (o_ald 0 (o_const 112 (o_c2 rx_eq (vX13_evalNode_307 g) (vX13_evalNode_316 g))))))
set_option maxRecDepth 20000 in
theorem wX13_evalNode_296 {dn : Nat} {g : Nat → List Nat → rx_H → Option (Nat × rx_H)} (hZ : zO b e D A X) (hg : ∀ i y M, vl19[i]? = some (y, M) → rx_Met (zV b e D A X) dn y M (g i)) (hd : 333 ≤ dn) : rx_OK (zV b e D A X) mX13_evalNode (dn + 1) 296 (vX13_evalNode_296 g) := by
  unfold vX13_evalNode_296
  refine s_aload_n hZ.1 dX13_evalNode_296 rfl ?_
  refine yg13_70 dX13_evalNode_297 zw4191 ?_
  refine s_iload_n hZ.1 dX13_evalNode_300 rfl ?_
  refine s_iald (tt := 0) rfl dX13_evalNode_301 ?_
  refine s_bipush dX13_evalNode_302 (by decide +kernel) ?_
  exact s_icmp_ne dX13_evalNode_304 (by decide) (wX13_evalNode_316 hZ hg hd) (wX13_evalNode_307 hZ hg hd)
noncomputable def vX13_evalNode_282 (g : Nat → List Nat → rx_H → Option (Nat × rx_H)) : rx_K := o_ld rx_isR 0 (o_ld rx_isR 0 (o_getf 13 87 (o_ld rx_isI 2 (o_ald 0 (o_ld rx_isI 3 (o_callV 2 13 FX13_getOf ((vX13_evalNode_322 g))))))))
set_option maxRecDepth 20000 in
theorem wX13_evalNode_282 {dn : Nat} {g : Nat → List Nat → rx_H → Option (Nat × rx_H)} (hZ : zO b e D A X) (hg : ∀ i y M, vl19[i]? = some (y, M) → rx_Met (zV b e D A X) dn y M (g i)) (hd : 333 ≤ dn) : rx_OK (zV b e D A X) mX13_evalNode (dn + 1) 282 (vX13_evalNode_282 g) := by
  unfold vX13_evalNode_282
  refine s_aload_n hZ.1 dX13_evalNode_282 rfl ?_
  refine s_aload_n hZ.1 dX13_evalNode_283 rfl ?_
  refine yg13_87 dX13_evalNode_284 zw4208 ?_
  refine s_iload_n hZ.1 dX13_evalNode_287 rfl ?_
  refine s_iald (tt := 0) rfl dX13_evalNode_288 ?_
  refine s_iload_n hZ.1 dX13_evalNode_289 rfl ?_
  refine s_callV hZ.1 (Met_X13_getOf hZ) (Nat.succ_le_succ (Nat.le_trans (Nat.le_of_ble_eq_true rfl) hd)) vy_X13_getOf zcl13 zw3872 zw365 (Or.inl zw3870) dX13_evalNode_290 ?_
  exact s_goto dX13_evalNode_293 (by decide) (wX13_evalNode_322 hZ hg hd)
noncomputable def vX13_evalNode_261 (g : Nat → List Nat → rx_H → Option (Nat × rx_H)) : rx_K := o_ld rx_isR 0 (o_dup (o_getf 13 161 (o_const 8 (o_bi (fun x y => x - y) (o_putf rx_isI 13 161 (o_ld rx_isR 0 (o_getf 13 70 (o_ld rx_isI 2 (o_ald 0 (o_const 96 (o_c2 rx_eq (vX13_evalNode_282 g) (vX13_evalNode_296 g))))))))))))
set_option maxRecDepth 20000 in
theorem wX13_evalNode_261 {dn : Nat} {g : Nat → List Nat → rx_H → Option (Nat × rx_H)} (hZ : zO b e D A X) (hg : ∀ i y M, vl19[i]? = some (y, M) → rx_Met (zV b e D A X) dn y M (g i)) (hd : 333 ≤ dn) : rx_OK (zV b e D A X) mX13_evalNode (dn + 1) 261 (vX13_evalNode_261 g) := by
  unfold vX13_evalNode_261
  refine s_aload_n hZ.1 dX13_evalNode_261 rfl ?_
  refine s_dup hZ.1 dX13_evalNode_262 ?_
  refine yg13_161 dX13_evalNode_263 zw4281 ?_
  refine s_iconst dX13_evalNode_266 (by decide +kernel) ?_
  refine s_isub dX13_evalNode_267 ?_
  refine yp13_161 hZ.1 dX13_evalNode_268 zw4281 ?_
  refine s_aload_n hZ.1 dX13_evalNode_271 rfl ?_
  refine yg13_70 dX13_evalNode_272 zw4191 ?_
  refine s_iload_n hZ.1 dX13_evalNode_275 rfl ?_
  refine s_iald (tt := 0) rfl dX13_evalNode_276 ?_
  refine s_bipush dX13_evalNode_277 (by decide +kernel) ?_
  exact s_icmp_ne dX13_evalNode_279 (by decide) (wX13_evalNode_296 hZ hg hd) (wX13_evalNode_282 hZ hg hd)
noncomputable def vX13_evalNode_242 (g : Nat → List Nat → rx_H → Option (Nat × rx_H)) : rx_K := o_ld rx_isR 0 (o_getf 13 157 (o_ld rx_isI 1 (o_const 8 (o_ast 0 (fun v => v) rx_isI (o_ld rx_isR 0 (o_ld rx_isR 0 (o_getf 13 77 (o_ld rx_isI 2 (o_ald 0 (o_callV 1 13 FX13_push (o_ld rx_isI 3 (o_ret1 rx_isI))))))))))))
set_option maxRecDepth 20000 in
theorem wX13_evalNode_242 {dn : Nat} {g : Nat → List Nat → rx_H → Option (Nat × rx_H)} (hZ : zO b e D A X) (hg : ∀ i y M, vl19[i]? = some (y, M) → rx_Met (zV b e D A X) dn y M (g i)) (hd : 333 ≤ dn) : rx_OK (zV b e D A X) mX13_evalNode (dn + 1) 242 (vX13_evalNode_242 g) := by
  unfold vX13_evalNode_242
  refine s_aload_n hZ.1 dX13_evalNode_242 rfl ?_
  refine yg13_157 dX13_evalNode_243 zw4277 ?_
  refine s_iload_n hZ.1 dX13_evalNode_246 rfl ?_
  refine s_iconst dX13_evalNode_247 (by decide +kernel) ?_
  refine s_iast hZ.1 (tt := 0) rfl dX13_evalNode_248 ?_
  refine s_aload_n hZ.1 dX13_evalNode_249 rfl ?_
  refine s_aload_n hZ.1 dX13_evalNode_250 rfl ?_
  refine yg13_77 dX13_evalNode_251 zw4198 ?_
  refine s_iload_n hZ.1 dX13_evalNode_254 rfl ?_
  refine s_iald (tt := 0) rfl dX13_evalNode_255 ?_
  refine s_callV hZ.1 (Met_X13_push hZ) (Nat.succ_le_succ (Nat.le_trans (Nat.le_of_ble_eq_true rfl) hd)) vy_X13_push zcl13 zw3856 zw361 (Or.inl zw3854) dX13_evalNode_256 ?_
  refine s_iload_n hZ.1 dX13_evalNode_259 rfl ?_
  exact s_iret hZ.1 rfl dX13_evalNode_260
noncomputable def vX13_evalNode_237 (g : Nat → List Nat → rx_H → Option (Nat × rx_H)) : rx_K := o_ld rx_isI 7 (o_c1 rx_eq (vX13_evalNode_242 g) (vX13_evalNode_261 g))
set_option maxRecDepth 20000 in
theorem wX13_evalNode_237 {dn : Nat} {g : Nat → List Nat → rx_H → Option (Nat × rx_H)} (hZ : zO b e D A X) (hg : ∀ i y M, vl19[i]? = some (y, M) → rx_Met (zV b e D A X) dn y M (g i)) (hd : 333 ≤ dn) : rx_OK (zV b e D A X) mX13_evalNode (dn + 1) 237 (vX13_evalNode_237 g) := by
  unfold vX13_evalNode_237
  refine s_iload hZ.1 dX13_evalNode_237 ?_
  exact s_if_ne dX13_evalNode_239 (by decide) (wX13_evalNode_261 hZ hg hd) (wX13_evalNode_242 hZ hg hd)
noncomputable def vX13_evalNode_223 (g : Nat → List Nat → rx_H → Option (Nat × rx_H)) : rx_K := o_ld rx_isR 0 (o_getf 13 156 (o_ld rx_isI 1 (o_ld rx_isR 0 (o_getf 13 77 (o_ld rx_isI 2 (o_ald 0 (o_ast 0 (fun v => v) rx_isI (o_ld rx_isI 3 (o_ret1 rx_isI)))))))))
set_option maxRecDepth 20000 in
theorem wX13_evalNode_223 {dn : Nat} {g : Nat → List Nat → rx_H → Option (Nat × rx_H)} (hZ : zO b e D A X) (hg : ∀ i y M, vl19[i]? = some (y, M) → rx_Met (zV b e D A X) dn y M (g i)) (hd : 333 ≤ dn) : rx_OK (zV b e D A X) mX13_evalNode (dn + 1) 223 (vX13_evalNode_223 g) := by
  unfold vX13_evalNode_223
  refine s_aload_n hZ.1 dX13_evalNode_223 rfl ?_
  refine yg13_156 dX13_evalNode_224 zw4276 ?_
  refine s_iload_n hZ.1 dX13_evalNode_227 rfl ?_
  refine s_aload_n hZ.1 dX13_evalNode_228 rfl ?_
  refine yg13_77 dX13_evalNode_229 zw4198 ?_
  refine s_iload_n hZ.1 dX13_evalNode_232 rfl ?_
  refine s_iald (tt := 0) rfl dX13_evalNode_233 ?_
  refine s_iast hZ.1 (tt := 0) rfl dX13_evalNode_234 ?_
  refine s_iload_n hZ.1 dX13_evalNode_235 rfl ?_
  exact s_iret hZ.1 rfl dX13_evalNode_236
noncomputable def vX13_evalNode_222 (g : Nat → List Nat → rx_H → Option (Nat × rx_H)) : rx_K := o_ret1 rx_isI
set_option maxRecDepth 20000 in
theorem wX13_evalNode_222 {dn : Nat} {g : Nat → List Nat → rx_H → Option (Nat × rx_H)} (hZ : zO b e D A X) (hg : ∀ i y M, vl19[i]? = some (y, M) → rx_Met (zV b e D A X) dn y M (g i)) (hd : 333 ≤ dn) : rx_OK (zV b e D A X) mX13_evalNode (dn + 1) 222 (vX13_evalNode_222 g) := by
  unfold vX13_evalNode_222
  exact s_iret hZ.1 rfl dX13_evalNode_222
noncomputable def vX13_evalNode_210 (g : Nat → List Nat → rx_H → Option (Nat × rx_H)) : rx_K := o_ld rx_isR 0 (o_ld rx_isR 0 (o_getf 13 87 (o_ld rx_isI 2 (o_ald 0 (o_ld rx_isI 5 (o_callV 2 13 FX13_getOf ((vX13_evalNode_222 g))))))))
set_option maxRecDepth 20000 in
theorem wX13_evalNode_210 {dn : Nat} {g : Nat → List Nat → rx_H → Option (Nat × rx_H)} (hZ : zO b e D A X) (hg : ∀ i y M, vl19[i]? = some (y, M) → rx_Met (zV b e D A X) dn y M (g i)) (hd : 333 ≤ dn) : rx_OK (zV b e D A X) mX13_evalNode (dn + 1) 210 (vX13_evalNode_210 g) := by
  unfold vX13_evalNode_210
  refine s_aload_n hZ.1 dX13_evalNode_210 rfl ?_
  refine s_aload_n hZ.1 dX13_evalNode_211 rfl ?_
  refine yg13_87 dX13_evalNode_212 zw4208 ?_
  refine s_iload_n hZ.1 dX13_evalNode_215 rfl ?_
  refine s_iald (tt := 0) rfl dX13_evalNode_216 ?_
  refine s_iload hZ.1 dX13_evalNode_217 ?_
  refine s_callV hZ.1 (Met_X13_getOf hZ) (Nat.succ_le_succ (Nat.le_trans (Nat.le_of_ble_eq_true rfl) hd)) vy_X13_getOf zcl13 zw3872 zw365 (Or.inl zw3870) dX13_evalNode_219 ?_
  exact (wX13_evalNode_222 hZ hg hd)
noncomputable def vX13_evalNode_197 (g : Nat → List Nat → rx_H → Option (Nat × rx_H)) : rx_K := o_ld rx_isR 0 (o_ld rx_isR 0 (o_getf 13 87 (o_ld rx_isI 2 (o_ald 0 (o_callV 1 13 (g 11) ((vX13_evalNode_222 g)))))))
set_option maxRecDepth 20000 in
theorem wX13_evalNode_197 {dn : Nat} {g : Nat → List Nat → rx_H → Option (Nat × rx_H)} (hZ : zO b e D A X) (hg : ∀ i y M, vl19[i]? = some (y, M) → rx_Met (zV b e D A X) dn y M (g i)) (hd : 333 ≤ dn) : rx_OK (zV b e D A X) mX13_evalNode (dn + 1) 197 (vX13_evalNode_197 g) := by
  unfold vX13_evalNode_197
  refine s_aload_n hZ.1 dX13_evalNode_197 rfl ?_
  refine s_aload_n hZ.1 dX13_evalNode_198 rfl ?_
  refine yg13_87 dX13_evalNode_199 zw4208 ?_
  refine s_iload_n hZ.1 dX13_evalNode_202 rfl ?_
  refine s_iald (tt := 0) rfl dX13_evalNode_203 ?_
  refine s_callV hZ.1 (hg 11 _ _ rfl) (Nat.le_refl _) vy_X13_getStatic zcl13 zw3864 zw363 (Or.inl zw3862) dX13_evalNode_204 ?_
  exact s_goto dX13_evalNode_207 (by decide) (wX13_evalNode_222 hZ hg hd)
noncomputable def vX13_evalNode_186 (g : Nat → List Nat → rx_H → Option (Nat × rx_H)) : rx_K := o_ld rx_isR 0 (o_getf 13 82 (o_ld rx_isI 2 (o_ald 0 (o_const 34359738280 (o_c2 rx_eq (vX13_evalNode_197 g) (vX13_evalNode_210 g))))))
set_option maxRecDepth 20000 in
theorem wX13_evalNode_186 {dn : Nat} {g : Nat → List Nat → rx_H → Option (Nat × rx_H)} (hZ : zO b e D A X) (hg : ∀ i y M, vl19[i]? = some (y, M) → rx_Met (zV b e D A X) dn y M (g i)) (hd : 333 ≤ dn) : rx_OK (zV b e D A X) mX13_evalNode (dn + 1) 186 (vX13_evalNode_186 g) := by
  unfold vX13_evalNode_186
  refine s_aload_n hZ.1 dX13_evalNode_186 rfl ?_
  refine yg13_82 dX13_evalNode_187 zw4203 ?_
  refine s_iload_n hZ.1 dX13_evalNode_190 rfl ?_
  refine s_iald (tt := 0) rfl dX13_evalNode_191 ?_
  refine s_bipush dX13_evalNode_192 (by decide +kernel) ?_
  exact s_icmp_ne dX13_evalNode_194 (by decide) (wX13_evalNode_210 hZ hg hd) (wX13_evalNode_197 hZ hg hd)
noncomputable def vX13_evalNode_177 (g : Nat → List Nat → rx_H → Option (Nat × rx_H)) : rx_K := o_ld rx_isR 0 (o_getf 13 81 (o_ld rx_isI 2 (o_ald 0 ((vX13_evalNode_222 g)))))
set_option maxRecDepth 20000 in
theorem wX13_evalNode_177 {dn : Nat} {g : Nat → List Nat → rx_H → Option (Nat × rx_H)} (hZ : zO b e D A X) (hg : ∀ i y M, vl19[i]? = some (y, M) → rx_Met (zV b e D A X) dn y M (g i)) (hd : 333 ≤ dn) : rx_OK (zV b e D A X) mX13_evalNode (dn + 1) 177 (vX13_evalNode_177 g) := by
  unfold vX13_evalNode_177
  refine s_aload_n hZ.1 dX13_evalNode_177 rfl ?_
  refine yg13_81 dX13_evalNode_178 zw4202 ?_
  refine s_iload_n hZ.1 dX13_evalNode_181 rfl ?_
  refine s_iald (tt := 0) rfl dX13_evalNode_182 ?_
  exact s_goto dX13_evalNode_183 (by decide) (wX13_evalNode_222 hZ hg hd)
noncomputable def vX13_evalNode_166 (g : Nat → List Nat → rx_H → Option (Nat × rx_H)) : rx_K := o_ld rx_isR 0 (o_getf 13 82 (o_ld rx_isI 2 (o_ald 0 (o_const 34359738288 (o_c2 rx_eq (vX13_evalNode_177 g) (vX13_evalNode_186 g))))))
set_option maxRecDepth 20000 in
theorem wX13_evalNode_166 {dn : Nat} {g : Nat → List Nat → rx_H → Option (Nat × rx_H)} (hZ : zO b e D A X) (hg : ∀ i y M, vl19[i]? = some (y, M) → rx_Met (zV b e D A X) dn y M (g i)) (hd : 333 ≤ dn) : rx_OK (zV b e D A X) mX13_evalNode (dn + 1) 166 (vX13_evalNode_166 g) := by
  unfold vX13_evalNode_166
  refine s_aload_n hZ.1 dX13_evalNode_166 rfl ?_
  refine yg13_82 dX13_evalNode_167 zw4203 ?_
  refine s_iload_n hZ.1 dX13_evalNode_170 rfl ?_
  refine s_iald (tt := 0) rfl dX13_evalNode_171 ?_
  refine s_bipush dX13_evalNode_172 (by decide +kernel) ?_
  exact s_icmp_ne dX13_evalNode_174 (by decide) (wX13_evalNode_186 hZ hg hd) (wX13_evalNode_177 hZ hg hd)
noncomputable def vX13_evalNode_149 (g : Nat → List Nat → rx_H → Option (Nat × rx_H)) : rx_K := o_ld rx_isR 0 (o_getf 13 154 (o_ld rx_isI 6 (o_ld rx_isR 0 (o_getf 13 82 (o_ld rx_isI 2 (o_ald 0 (o_bi (fun x y => x + y) (o_ald 0 ((vX13_evalNode_222 g))))))))))
set_option maxRecDepth 20000 in
theorem wX13_evalNode_149 {dn : Nat} {g : Nat → List Nat → rx_H → Option (Nat × rx_H)} (hZ : zO b e D A X) (hg : ∀ i y M, vl19[i]? = some (y, M) → rx_Met (zV b e D A X) dn y M (g i)) (hd : 333 ≤ dn) : rx_OK (zV b e D A X) mX13_evalNode (dn + 1) 149 (vX13_evalNode_149 g) := by
  unfold vX13_evalNode_149
  refine s_aload_n hZ.1 dX13_evalNode_149 rfl ?_
  refine yg13_154 dX13_evalNode_150 zw4274 ?_
  refine s_iload hZ.1 dX13_evalNode_153 ?_
  refine s_aload_n hZ.1 dX13_evalNode_155 rfl ?_
  refine yg13_82 dX13_evalNode_156 zw4203 ?_
  refine s_iload_n hZ.1 dX13_evalNode_159 rfl ?_
  refine s_iald (tt := 0) rfl dX13_evalNode_160 ?_
  refine s_iadd dX13_evalNode_161 ?_
  refine s_iald (tt := 0) rfl dX13_evalNode_162 ?_
  exact s_goto dX13_evalNode_163 (by decide) (wX13_evalNode_222 hZ hg hd)
noncomputable def vX13_evalNode_130 (g : Nat → List Nat → rx_H → Option (Nat × rx_H)) : rx_K := o_ld rx_isR 0 (o_dup (o_getf 13 161 (o_const 8 (o_bi (fun x y => x - y) (o_putf rx_isI 13 161 (o_ld rx_isR 0 (o_getf 13 82 (o_ld rx_isI 2 (o_ald 0 (o_c1 rx_lt (vX13_evalNode_166 g) (vX13_evalNode_149 g)))))))))))
set_option maxRecDepth 20000 in
theorem wX13_evalNode_130 {dn : Nat} {g : Nat → List Nat → rx_H → Option (Nat × rx_H)} (hZ : zO b e D A X) (hg : ∀ i y M, vl19[i]? = some (y, M) → rx_Met (zV b e D A X) dn y M (g i)) (hd : 333 ≤ dn) : rx_OK (zV b e D A X) mX13_evalNode (dn + 1) 130 (vX13_evalNode_130 g) := by
  unfold vX13_evalNode_130
  refine s_aload_n hZ.1 dX13_evalNode_130 rfl ?_
  refine s_dup hZ.1 dX13_evalNode_131 ?_
  refine yg13_161 dX13_evalNode_132 zw4281 ?_
  refine s_iconst dX13_evalNode_135 (by decide +kernel) ?_
  refine s_isub dX13_evalNode_136 ?_
  refine yp13_161 hZ.1 dX13_evalNode_137 zw4281 ?_
  refine s_aload_n hZ.1 dX13_evalNode_140 rfl ?_
  refine yg13_82 dX13_evalNode_141 zw4203 ?_
  refine s_iload_n hZ.1 dX13_evalNode_144 rfl ?_
  refine s_iald (tt := 0) rfl dX13_evalNode_145 ?_
  exact s_if_lt dX13_evalNode_146 (by decide) (wX13_evalNode_166 hZ hg hd) (wX13_evalNode_149 hZ hg hd)
noncomputable def vX13_evalNode_117 (g : Nat → List Nat → rx_H → Option (Nat × rx_H)) : rx_K := o_ld rx_isR 0 (o_dup (o_getf 13 161 (o_const 8 (o_bi (fun x y => x - y) (o_putf rx_isI 13 161 (o_ld rx_isI 5 (o_ret1 rx_isI)))))))
set_option maxRecDepth 20000 in
theorem wX13_evalNode_117 {dn : Nat} {g : Nat → List Nat → rx_H → Option (Nat × rx_H)} (hZ : zO b e D A X) (hg : ∀ i y M, vl19[i]? = some (y, M) → rx_Met (zV b e D A X) dn y M (g i)) (hd : 333 ≤ dn) : rx_OK (zV b e D A X) mX13_evalNode (dn + 1) 117 (vX13_evalNode_117 g) := by
  unfold vX13_evalNode_117
  refine s_aload_n hZ.1 dX13_evalNode_117 rfl ?_
  refine s_dup hZ.1 dX13_evalNode_118 ?_
  refine yg13_161 dX13_evalNode_119 zw4281 ?_
  refine s_iconst dX13_evalNode_122 (by decide +kernel) ?_
  refine s_isub dX13_evalNode_123 ?_
  refine yp13_161 hZ.1 dX13_evalNode_124 zw4281 ?_
  refine s_iload hZ.1 dX13_evalNode_127 ?_
  exact s_iret hZ.1 rfl dX13_evalNode_129
noncomputable def vX13_evalNode_105 (g : Nat → List Nat → rx_H → Option (Nat × rx_H)) : rx_K := o_ld rx_isR 0 (o_dup (o_getf 13 161 (o_const 8 (o_bi (fun x y => x - y) (o_putf rx_isI 13 161 (o_const 0 (o_ret1 rx_isI)))))))
set_option maxRecDepth 20000 in
theorem wX13_evalNode_105 {dn : Nat} {g : Nat → List Nat → rx_H → Option (Nat × rx_H)} (hZ : zO b e D A X) (hg : ∀ i y M, vl19[i]? = some (y, M) → rx_Met (zV b e D A X) dn y M (g i)) (hd : 333 ≤ dn) : rx_OK (zV b e D A X) mX13_evalNode (dn + 1) 105 (vX13_evalNode_105 g) := by
  unfold vX13_evalNode_105
  refine s_aload_n hZ.1 dX13_evalNode_105 rfl ?_
  refine s_dup hZ.1 dX13_evalNode_106 ?_
  refine yg13_161 dX13_evalNode_107 zw4281 ?_
  refine s_iconst dX13_evalNode_110 (by decide +kernel) ?_
  refine s_isub dX13_evalNode_111 ?_
  refine yp13_161 hZ.1 dX13_evalNode_112 zw4281 ?_
  refine s_iconst dX13_evalNode_115 (by decide +kernel) ?_
  exact s_iret hZ.1 rfl dX13_evalNode_116
noncomputable def vX13_evalNode_88 (g : Nat → List Nat → rx_H → Option (Nat × rx_H)) : rx_K := o_ld rx_isR 0 (o_dup (o_getf 13 161 (o_const 8 (o_bi (fun x y => x - y) (o_putf rx_isI 13 161 (o_ld rx_isR 0 (o_getf 13 81 (o_ld rx_isI 2 (o_ald 0 (o_ret1 rx_isI))))))))))
set_option maxRecDepth 20000 in
theorem wX13_evalNode_88 {dn : Nat} {g : Nat → List Nat → rx_H → Option (Nat × rx_H)} (hZ : zO b e D A X) (hg : ∀ i y M, vl19[i]? = some (y, M) → rx_Met (zV b e D A X) dn y M (g i)) (hd : 333 ≤ dn) : rx_OK (zV b e D A X) mX13_evalNode (dn + 1) 88 (vX13_evalNode_88 g) := by
  unfold vX13_evalNode_88
  refine s_aload_n hZ.1 dX13_evalNode_88 rfl ?_
  refine s_dup hZ.1 dX13_evalNode_89 ?_
  refine yg13_161 dX13_evalNode_90 zw4281 ?_
  refine s_iconst dX13_evalNode_93 (by decide +kernel) ?_
  refine s_isub dX13_evalNode_94 ?_
  refine yp13_161 hZ.1 dX13_evalNode_95 zw4281 ?_
  refine s_aload_n hZ.1 dX13_evalNode_98 rfl ?_
  refine yg13_81 dX13_evalNode_99 zw4202 ?_
  refine s_iload_n hZ.1 dX13_evalNode_102 rfl ?_
  refine s_iald (tt := 0) rfl dX13_evalNode_103 ?_
  exact s_iret hZ.1 rfl dX13_evalNode_104
noncomputable def vX13_evalNode_0 (g : Nat → List Nat → rx_H → Option (Nat × rx_H)) : rx_K := o_ld rx_isR 0 (o_getf 13 157 (o_ld rx_isI 1 (o_ald 0 (o_st rx_isI 7 (o_ld rx_isR 0 (o_getf 13 70 (o_ld rx_isI 2 (o_ald 0 (o_sw 0 [88, 105, 117, 130, 407, 130, 407, 407, 407, 383, 237, 223, 237, 323, 237] 407 (rx_pk [(88, (vX13_evalNode_88 g)), (105, (vX13_evalNode_105 g)), (117, (vX13_evalNode_117 g)), (130, (vX13_evalNode_130 g)), (223, (vX13_evalNode_223 g)), (237, (vX13_evalNode_237 g)), (323, (vX13_evalNode_323 g)), (383, (vX13_evalNode_383 g)), (407, (vX13_evalNode_407 g))]))))))))))
set_option maxRecDepth 20000 in
theorem wX13_evalNode_0 {dn : Nat} {g : Nat → List Nat → rx_H → Option (Nat × rx_H)} (hZ : zO b e D A X) (hg : ∀ i y M, vl19[i]? = some (y, M) → rx_Met (zV b e D A X) dn y M (g i)) (hd : 333 ≤ dn) : rx_OK (zV b e D A X) mX13_evalNode (dn + 1) 0 (vX13_evalNode_0 g) := by
  unfold vX13_evalNode_0
  refine s_aload_n hZ.1 dX13_evalNode_0 rfl ?_
  refine yg13_157 dX13_evalNode_1 zw4277 ?_
  refine s_iload_n hZ.1 dX13_evalNode_4 rfl ?_
  refine s_iald (tt := 0) rfl dX13_evalNode_5 ?_
  refine s_istore hZ.1 dX13_evalNode_6 (Nat.le_of_ble_eq_true rfl) ?_
  refine s_aload_n hZ.1 dX13_evalNode_8 rfl ?_
  refine yg13_70 dX13_evalNode_9 zw4191 ?_
  refine s_iload_n hZ.1 dX13_evalNode_12 rfl ?_
  refine s_iald (tt := 0) rfl dX13_evalNode_13 ?_
  exact s_sw dX13_evalNode_14 (by decide) (by decide) (by decide) (by decide) (by decide) (fun b _ => (rx_pk_ok (List.forall_mem_cons.mpr ⟨(wX13_evalNode_88 hZ hg hd), List.forall_mem_cons.mpr ⟨(wX13_evalNode_105 hZ hg hd), List.forall_mem_cons.mpr ⟨(wX13_evalNode_117 hZ hg hd), List.forall_mem_cons.mpr ⟨(wX13_evalNode_130 hZ hg hd), List.forall_mem_cons.mpr ⟨(wX13_evalNode_223 hZ hg hd), List.forall_mem_cons.mpr ⟨(wX13_evalNode_237 hZ hg hd), List.forall_mem_cons.mpr ⟨(wX13_evalNode_323 hZ hg hd), List.forall_mem_cons.mpr ⟨(wX13_evalNode_383 hZ hg hd), List.forall_mem_cons.mpr ⟨(wX13_evalNode_407 hZ hg hd), fun _ h => absurd h List.not_mem_nil⟩⟩⟩⟩⟩⟩⟩⟩⟩)) b)
noncomputable def FX13_evalNode (g : Nat → List Nat → rx_H → Option (Nat × rx_H)) : List Nat → rx_H → Option (Nat × rx_H) := rx_ent 8 (vX13_evalNode_0 g)
theorem Met_X13_evalNode {dn : Nat} {g : Nat → List Nat → rx_H → Option (Nat × rx_H)} (hZ : zO b e D A X) (hg : ∀ i y M, vl19[i]? = some (y, M) → rx_Met (zV b e D A X) dn y M (g i)) (hd : 333 ≤ dn) : rx_Met (zV b e D A X) (dn + 1) yX13_evalNode mX13_evalNode (FX13_evalNode g) := rx_entry hZ.1 (wX13_evalNode_0 hZ hg hd) (by decide +kernel) rfl (fun h => by cases h)
end ZM64

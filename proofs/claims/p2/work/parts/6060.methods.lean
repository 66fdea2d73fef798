section ZM60
variable {b : Nat} {e : Nat → Value} {D : va_G} {A : Nat → ClassId} {X : State → Prop}
abbrev mX13_askMaker : rx_M := (RX13, cX13_askMaker, 5, (some .int), false)
theorem vy_X13_askMaker : rx_Y (zV b e D A X) yX13_askMaker mX13_askMaker 2 := ⟨zw3741, zw431, by decide, by decide +kernel, by decide +kernel, by decide +kernel⟩
noncomputable def vX13_askMaker_101 (j : Nat → rx_K) : rx_K := o_ret1 rx_isI
set_option maxRecDepth 20000 in
theorem wX13_askMaker_101 (hZ : zO b e D A X) (j : Nat → rx_K) (hj : ∀ k pc, [17][k]? = some pc → rx_OK (zV b e D A X) mX13_askMaker 169 pc (j k)) : rx_OK (zV b e D A X) mX13_askMaker 169 101 (vX13_askMaker_101 j) := by
  unfold vX13_askMaker_101
  exact s_iret hZ.1 rfl dX13_askMaker_101
noncomputable def vX13_askMaker_100 (j : Nat → rx_K) : rx_K := o_const 16 ((vX13_askMaker_101 j))
set_option maxRecDepth 20000 in
theorem wX13_askMaker_100 (hZ : zO b e D A X) (j : Nat → rx_K) (hj : ∀ k pc, [17][k]? = some pc → rx_OK (zV b e D A X) mX13_askMaker 169 pc (j k)) : rx_OK (zV b e D A X) mX13_askMaker 169 100 (vX13_askMaker_100 j) := by
  unfold vX13_askMaker_100
  refine s_iconst dX13_askMaker_100 (by decide +kernel) ?_
  exact (wX13_askMaker_101 hZ j hj)
noncomputable def vX13_askMaker_96 (j : Nat → rx_K) : rx_K := o_const 0 ((vX13_askMaker_101 j))
set_option maxRecDepth 20000 in
theorem wX13_askMaker_96 (hZ : zO b e D A X) (j : Nat → rx_K) (hj : ∀ k pc, [17][k]? = some pc → rx_OK (zV b e D A X) mX13_askMaker 169 pc (j k)) : rx_OK (zV b e D A X) mX13_askMaker 169 96 (vX13_askMaker_96 j) := by
  unfold vX13_askMaker_96
  refine s_iconst dX13_askMaker_96 (by decide +kernel) ?_
  exact s_goto dX13_askMaker_97 (by decide) (wX13_askMaker_101 hZ j hj)
noncomputable def vX13_askMaker_83 (j : Nat → rx_K) : rx_K := o_ld rx_isR 0 (o_ld rx_isR 0 (o_getf 13 140 (o_ld rx_isI 1 (o_ld rx_isI 2 (o_callV 3 13 FX13_isLetMember (o_c1 rx_eq (vX13_askMaker_100 j) (vX13_askMaker_96 j)))))))
set_option maxRecDepth 20000 in
theorem wX13_askMaker_83 (hZ : zO b e D A X) (j : Nat → rx_K) (hj : ∀ k pc, [17][k]? = some pc → rx_OK (zV b e D A X) mX13_askMaker 169 pc (j k)) : rx_OK (zV b e D A X) mX13_askMaker 169 83 (vX13_askMaker_83 j) := by
  unfold vX13_askMaker_83
  refine s_aload_n hZ.1 dX13_askMaker_83 rfl ?_
  refine s_aload_n hZ.1 dX13_askMaker_84 rfl ?_
  refine yg13_140 dX13_askMaker_85 zw4260 ?_
  refine s_iload_n hZ.1 dX13_askMaker_88 rfl ?_
  refine s_iload_n hZ.1 dX13_askMaker_89 rfl ?_
  refine s_callV hZ.1 (Met_X13_isLetMember hZ) (Nat.le_of_ble_eq_true rfl) vy_X13_isLetMember zcl13 zw3355 zw264 (Or.inl zw3353) dX13_askMaker_90 ?_
  exact s_if_eq dX13_askMaker_93 (by decide) (wX13_askMaker_100 hZ j hj) (wX13_askMaker_96 hZ j hj)
noncomputable def vX13_askMaker_79 (j : Nat → rx_K) : rx_K := o_const 40 ((vX13_askMaker_101 j))
set_option maxRecDepth 20000 in
theorem wX13_askMaker_79 (hZ : zO b e D A X) (j : Nat → rx_K) (hj : ∀ k pc, [17][k]? = some pc → rx_OK (zV b e D A X) mX13_askMaker 169 pc (j k)) : rx_OK (zV b e D A X) mX13_askMaker 169 79 (vX13_askMaker_79 j) := by
  unfold vX13_askMaker_79
  refine s_iconst dX13_askMaker_79 (by decide +kernel) ?_
  exact s_goto dX13_askMaker_80 (by decide) (wX13_askMaker_101 hZ j hj)
noncomputable def vX13_askMaker_70 (j : Nat → rx_K) : rx_K := o_ld rx_isR 0 (o_getf 13 140 (o_const 34359738352 (o_c2 rx_eq (vX13_askMaker_79 j) (vX13_askMaker_83 j))))
set_option maxRecDepth 20000 in
theorem wX13_askMaker_70 (hZ : zO b e D A X) (j : Nat → rx_K) (hj : ∀ k pc, [17][k]? = some pc → rx_OK (zV b e D A X) mX13_askMaker 169 pc (j k)) : rx_OK (zV b e D A X) mX13_askMaker 169 70 (vX13_askMaker_70 j) := by
  unfold vX13_askMaker_70
  refine s_aload_n hZ.1 dX13_askMaker_70 rfl ?_
  refine yg13_140 dX13_askMaker_71 zw4260 ?_
  refine s_bipush dX13_askMaker_74 (by decide +kernel) ?_
  exact s_icmp_ne dX13_askMaker_76 (by decide) (wX13_askMaker_83 hZ j hj) (wX13_askMaker_79 hZ j hj)
noncomputable def vX13_askMaker_64 (j : Nat → rx_K) : rx_K := o_inc 3 (1) ((j 0))
set_option maxRecDepth 20000 in
theorem wX13_askMaker_64 (hZ : zO b e D A X) (j : Nat → rx_K) (hj : ∀ k pc, [17][k]? = some pc → rx_OK (zV b e D A X) mX13_askMaker 169 pc (j k)) : rx_OK (zV b e D A X) mX13_askMaker 169 64 (vX13_askMaker_64 j) := by
  unfold vX13_askMaker_64
  refine s_iinc hZ.1 dX13_askMaker_64 (Nat.le_of_ble_eq_true rfl) ?_
  exact s_goto dX13_askMaker_67 (by decide) (hj 0 17 rfl)
noncomputable def vX13_askMaker_58 (j : Nat → rx_K) : rx_K := o_ld rx_isR 0 (o_ld rx_isI 4 (o_putf rx_isI 13 140 ((vX13_askMaker_64 j))))
set_option maxRecDepth 20000 in
theorem wX13_askMaker_58 (hZ : zO b e D A X) (j : Nat → rx_K) (hj : ∀ k pc, [17][k]? = some pc → rx_OK (zV b e D A X) mX13_askMaker 169 pc (j k)) : rx_OK (zV b e D A X) mX13_askMaker 169 58 (vX13_askMaker_58 j) := by
  unfold vX13_askMaker_58
  refine s_aload_n hZ.1 dX13_askMaker_58 rfl ?_
  refine s_iload hZ.1 dX13_askMaker_59 ?_
  refine yp13_140 hZ.1 dX13_askMaker_61 zw4260 ?_
  exact (wX13_askMaker_64 hZ j hj)
noncomputable def vX13_askMaker_46 (j : Nat → rx_K) : rx_K := o_ld rx_isR 0 (o_ld rx_isI 4 (o_const 58744 (o_callV 2 13 FX13_sameParams (o_c1 rx_eq (vX13_askMaker_64 j) (vX13_askMaker_58 j)))))
set_option maxRecDepth 20000 in
theorem wX13_askMaker_46 (hZ : zO b e D A X) (j : Nat → rx_K) (hj : ∀ k pc, [17][k]? = some pc → rx_OK (zV b e D A X) mX13_askMaker 169 pc (j k)) : rx_OK (zV b e D A X) mX13_askMaker 169 46 (vX13_askMaker_46 j) := by
  unfold vX13_askMaker_46
  refine s_aload_n hZ.1 dX13_askMaker_46 rfl ?_
  refine s_iload hZ.1 dX13_askMaker_47 ?_
  refine s_sipush dX13_askMaker_49 (by decide +kernel) ?_
  refine s_callV hZ.1 (Met_X13_sameParams hZ) (Nat.le_of_ble_eq_true rfl) vy_X13_sameParams zcl13 zw3243 zw238 (Or.inl zw3241) dX13_askMaker_52 ?_
  exact s_if_eq dX13_askMaker_55 (by decide) (wX13_askMaker_64 hZ j hj) (wX13_askMaker_58 hZ j hj)
noncomputable def vX13_askMaker_27 (j : Nat → rx_K) : rx_K := o_ld rx_isI 1 (o_const 272 (o_bi (fun x y => x * y) (o_ld rx_isI 3 (o_bi (fun x y => x + y) (o_st rx_isI 4 (o_ld rx_isR 0 (o_getf 13 42 (o_ld rx_isI 4 (o_ald 0 (o_const 16 (o_c2 rx_eq (vX13_askMaker_46 j) (vX13_askMaker_64 j))))))))))))
set_option maxRecDepth 20000 in
theorem wX13_askMaker_27 (hZ : zO b e D A X) (j : Nat → rx_K) (hj : ∀ k pc, [17][k]? = some pc → rx_OK (zV b e D A X) mX13_askMaker 169 pc (j k)) : rx_OK (zV b e D A X) mX13_askMaker 169 27 (vX13_askMaker_27 j) := by
  unfold vX13_askMaker_27
  refine s_iload_n hZ.1 dX13_askMaker_27 rfl ?_
  refine s_bipush dX13_askMaker_28 (by decide +kernel) ?_
  refine s_imul dX13_askMaker_30 ?_
  refine s_iload_n hZ.1 dX13_askMaker_31 rfl ?_
  refine s_iadd dX13_askMaker_32 ?_
  refine s_istore hZ.1 dX13_askMaker_33 (Nat.le_of_ble_eq_true rfl) ?_
  refine s_aload_n hZ.1 dX13_askMaker_35 rfl ?_
  refine yg13_42 dX13_askMaker_36 zw4163 ?_
  refine s_iload hZ.1 dX13_askMaker_39 ?_
  refine s_iald (tt := 0) rfl dX13_askMaker_41 ?_
  refine s_iconst dX13_askMaker_42 (by decide +kernel) ?_
  exact s_icmp_ne dX13_askMaker_43 (by decide) (wX13_askMaker_64 hZ j hj) (wX13_askMaker_46 hZ j hj)
noncomputable def vX13_askMaker_17 (j : Nat → rx_K) : rx_K := o_ld rx_isI 3 (o_ld rx_isR 0 (o_getf 13 41 (o_ld rx_isI 1 (o_ald 0 (o_c2 rx_lt (vX13_askMaker_27 j) (vX13_askMaker_70 j))))))
set_option maxRecDepth 20000 in
theorem wX13_askMaker_17 (hZ : zO b e D A X) (j : Nat → rx_K) (hj : ∀ k pc, [17][k]? = some pc → rx_OK (zV b e D A X) mX13_askMaker 169 pc (j k)) : rx_OK (zV b e D A X) mX13_askMaker 169 17 (vX13_askMaker_17 j) := by
  unfold vX13_askMaker_17
  refine s_iload_n hZ.1 dX13_askMaker_17 rfl ?_
  refine s_aload_n hZ.1 dX13_askMaker_18 rfl ?_
  refine yg13_41 dX13_askMaker_19 zw4162 ?_
  refine s_iload_n hZ.1 dX13_askMaker_22 rfl ?_
  refine s_iald (tt := 0) rfl dX13_askMaker_23 ?_
  exact s_icmp_ge dX13_askMaker_24 (by decide) (wX13_askMaker_70 hZ j hj) (wX13_askMaker_27 hZ j hj)
noncomputable def vX13_askMaker_10 (j : Nat → rx_K) : rx_K := o_ld rx_isR 0 (o_ld rx_isI 1 (o_callV 1 13 FX13_see (o_const 0 (o_st rx_isI 3 ((vX13_askMaker_17 j))))))
set_option maxRecDepth 20000 in
theorem wX13_askMaker_10 (hZ : zO b e D A X) (j : Nat → rx_K) (hj : ∀ k pc, [17][k]? = some pc → rx_OK (zV b e D A X) mX13_askMaker 169 pc (j k)) : rx_OK (zV b e D A X) mX13_askMaker 169 10 (vX13_askMaker_10 j) := by
  unfold vX13_askMaker_10
  refine s_aload_n hZ.1 dX13_askMaker_10 rfl ?_
  refine s_iload_n hZ.1 dX13_askMaker_11 rfl ?_
  refine s_callV hZ.1 (Met_X13_see hZ) (Nat.le_of_ble_eq_true rfl) vy_X13_see zcl13 zw3744 zw342 (Or.inl zw3742) dX13_askMaker_12 ?_
  refine s_iconst dX13_askMaker_15 (by decide +kernel) ?_
  refine s_istore_n hZ.1 dX13_askMaker_16 rfl (Nat.le_of_ble_eq_true rfl) ?_
  exact (wX13_askMaker_17 hZ j hj)
noncomputable def vX13_askMaker_8 (j : Nat → rx_K) : rx_K := o_const 24 (o_ret1 rx_isI)
set_option maxRecDepth 20000 in
theorem wX13_askMaker_8 (hZ : zO b e D A X) (j : Nat → rx_K) (hj : ∀ k pc, [17][k]? = some pc → rx_OK (zV b e D A X) mX13_askMaker 169 pc (j k)) : rx_OK (zV b e D A X) mX13_askMaker 169 8 (vX13_askMaker_8 j) := by
  unfold vX13_askMaker_8
  refine s_iconst dX13_askMaker_8 (by decide +kernel) ?_
  exact s_iret hZ.1 rfl dX13_askMaker_9
noncomputable def vX13_askMaker_0 (j : Nat → rx_K) : rx_K := o_ld rx_isR 0 (o_ld rx_isI 1 (o_callV 1 13 FX13_isFace (o_c1 rx_eq (vX13_askMaker_10 j) (vX13_askMaker_8 j))))
set_option maxRecDepth 20000 in
theorem wX13_askMaker_0 (hZ : zO b e D A X) (j : Nat → rx_K) (hj : ∀ k pc, [17][k]? = some pc → rx_OK (zV b e D A X) mX13_askMaker 169 pc (j k)) : rx_OK (zV b e D A X) mX13_askMaker 169 0 (vX13_askMaker_0 j) := by
  unfold vX13_askMaker_0
  refine s_aload_n hZ.1 dX13_askMaker_0 rfl ?_
  refine s_iload_n hZ.1 dX13_askMaker_1 rfl ?_
  refine s_callV hZ.1 (Met_X13_isFace hZ) (Nat.le_of_ble_eq_true rfl) vy_X13_isFace zcl13 zw3192 zw227 (Or.inl zw3190) dX13_askMaker_2 ?_
  exact s_if_eq dX13_askMaker_5 (by decide) (wX13_askMaker_10 hZ j hj) (wX13_askMaker_8 hZ j hj)
noncomputable def vhX13_askMaker (j : Nat → rx_K) : List rx_K := [vX13_askMaker_17 j]
theorem vlX13_askMaker (hZ : zO b e D A X) : ∀ n k pc, [17][k]? = some pc → rx_OK (zV b e D A X) mX13_askMaker 169 pc (rx_J (vhX13_askMaker) n k) := rx_loop fun j hj k pc h => by
  match k, h with
  | 0, h =>
    have e9 := Option.some.inj (show some 17 = some pc from h)
    subst e9
    exact wX13_askMaker_17 hZ j hj
  | _ + 1, h => exact absurd h (by simp)
noncomputable def FX13_askMaker : List Nat → rx_H → Option (Nat × rx_H) := rx_ent 5 (vX13_askMaker_0 (rx_J (vhX13_askMaker) 4000000000))
theorem Met_X13_askMaker (hZ : zO b e D A X) : rx_Met (zV b e D A X) 169 yX13_askMaker mX13_askMaker (FX13_askMaker) := rx_entry hZ.1 (wX13_askMaker_0 hZ _ (vlX13_askMaker hZ 4000000000)) (by decide +kernel) rfl (fun h => by cases h)
abbrev mX13_askCalled : rx_M := (RX13, cX13_askCalled, 5, (some .int), false)
theorem vy_X13_askCalled : rx_Y (zV b e D A X) yX13_askCalled mX13_askCalled 2 := ⟨zw3765, zw431, by decide, by decide +kernel, by decide +kernel, by decide +kernel⟩
noncomputable def vX13_askCalled_78 : rx_K := o_ld rx_isR 0 (o_ld rx_isI 4 (o_putf rx_isI 13 140 (o_const 0 (o_ret1 rx_isI))))
set_option maxRecDepth 20000 in
theorem wX13_askCalled_78 (hZ : zO b e D A X) : rx_OK (zV b e D A X) mX13_askCalled 5 78 vX13_askCalled_78 := by
  unfold vX13_askCalled_78
  refine s_aload_n hZ.1 dX13_askCalled_78 rfl ?_
  refine s_iload hZ.1 dX13_askCalled_79 ?_
  refine yp13_140 hZ.1 dX13_askCalled_81 zw4260 ?_
  refine s_iconst dX13_askCalled_84 (by decide +kernel) ?_
  exact s_iret hZ.1 rfl dX13_askCalled_85
noncomputable def vX13_askCalled_75 : rx_K := o_const 48 (o_ret1 rx_isI)
set_option maxRecDepth 20000 in
theorem wX13_askCalled_75 (hZ : zO b e D A X) : rx_OK (zV b e D A X) mX13_askCalled 5 75 vX13_askCalled_75 := by
  unfold vX13_askCalled_75
  refine s_bipush dX13_askCalled_75 (by decide +kernel) ?_
  exact s_iret hZ.1 rfl dX13_askCalled_77
noncomputable def vX13_askCalled_65 : rx_K := o_ld rx_isR 0 (o_getf 13 47 (o_ld rx_isI 4 (o_ald 3 (o_c1 rx_eq vX13_askCalled_78 vX13_askCalled_75))))
set_option maxRecDepth 20000 in
theorem wX13_askCalled_65 (hZ : zO b e D A X) : rx_OK (zV b e D A X) mX13_askCalled 5 65 vX13_askCalled_65 := by
  unfold vX13_askCalled_65
  refine s_aload_n hZ.1 dX13_askCalled_65 rfl ?_
  refine yg13_47 dX13_askCalled_66 zw4168 ?_
  refine s_iload hZ.1 dX13_askCalled_69 ?_
  refine s_zald (tt := 3) rfl dX13_askCalled_71 ?_
  exact s_if_eq dX13_askCalled_72 (by decide) (wX13_askCalled_78 hZ) (wX13_askCalled_75 hZ)
noncomputable def vX13_askCalled_56 : rx_K := o_st rx_isI 4 (o_ld rx_isI 4 (o_const 34359738352 (o_c2 rx_eq vX13_askCalled_75 vX13_askCalled_65)))
set_option maxRecDepth 20000 in
theorem wX13_askCalled_56 (hZ : zO b e D A X) : rx_OK (zV b e D A X) mX13_askCalled 5 56 vX13_askCalled_56 := by
  unfold vX13_askCalled_56
  refine s_istore hZ.1 dX13_askCalled_56 (Nat.le_of_ble_eq_true rfl) ?_
  refine s_iload hZ.1 dX13_askCalled_58 ?_
  refine s_bipush dX13_askCalled_60 (by decide +kernel) ?_
  exact s_icmp_eq dX13_askCalled_62 (by decide) (wX13_askCalled_75 hZ) (wX13_askCalled_65 hZ)
noncomputable def vX13_askCalled_54 : rx_K := o_const 34359738352 (vX13_askCalled_56)
set_option maxRecDepth 20000 in
theorem wX13_askCalled_54 (hZ : zO b e D A X) : rx_OK (zV b e D A X) mX13_askCalled 5 54 vX13_askCalled_54 := by
  unfold vX13_askCalled_54
  refine s_bipush dX13_askCalled_54 (by decide +kernel) ?_
  exact (wX13_askCalled_56 hZ)
noncomputable def vX13_askCalled_47 : rx_K := o_ld rx_isR 0 (o_getf 13 102 (vX13_askCalled_56))
set_option maxRecDepth 20000 in
theorem wX13_askCalled_47 (hZ : zO b e D A X) : rx_OK (zV b e D A X) mX13_askCalled 5 47 vX13_askCalled_47 := by
  unfold vX13_askCalled_47
  refine s_aload_n hZ.1 dX13_askCalled_47 rfl ?_
  refine yg13_102 dX13_askCalled_48 zw4222 ?_
  exact s_goto dX13_askCalled_51 (by decide) (wX13_askCalled_56 hZ)
noncomputable def vX13_askCalled_42 : rx_K := o_ld rx_isI 3 (o_const 8 (o_c2 rx_eq vX13_askCalled_47 vX13_askCalled_54))
set_option maxRecDepth 20000 in
theorem wX13_askCalled_42 (hZ : zO b e D A X) : rx_OK (zV b e D A X) mX13_askCalled 5 42 vX13_askCalled_42 := by
  unfold vX13_askCalled_42
  refine s_iload_n hZ.1 dX13_askCalled_42 rfl ?_
  refine s_iconst dX13_askCalled_43 (by decide +kernel) ?_
  exact s_icmp_ne dX13_askCalled_44 (by decide) (wX13_askCalled_54 hZ) (wX13_askCalled_47 hZ)
noncomputable def vX13_askCalled_38 : rx_K := o_ld rx_isI 1 (vX13_askCalled_56)
set_option maxRecDepth 20000 in
theorem wX13_askCalled_38 (hZ : zO b e D A X) : rx_OK (zV b e D A X) mX13_askCalled 5 38 vX13_askCalled_38 := by
  unfold vX13_askCalled_38
  refine s_iload_n hZ.1 dX13_askCalled_38 rfl ?_
  exact s_goto dX13_askCalled_39 (by decide) (wX13_askCalled_56 hZ)
noncomputable def vX13_askCalled_32 : rx_K := o_ld rx_isI 1 (o_const 34359738352 (o_c2 rx_eq vX13_askCalled_42 vX13_askCalled_38))
set_option maxRecDepth 20000 in
theorem wX13_askCalled_32 (hZ : zO b e D A X) : rx_OK (zV b e D A X) mX13_askCalled 5 32 vX13_askCalled_32 := by
  unfold vX13_askCalled_32
  refine s_iload_n hZ.1 dX13_askCalled_32 rfl ?_
  refine s_bipush dX13_askCalled_33 (by decide +kernel) ?_
  exact s_icmp_eq dX13_askCalled_35 (by decide) (wX13_askCalled_42 hZ) (wX13_askCalled_38 hZ)
noncomputable def vX13_askCalled_30 : rx_K := o_const 24 (o_ret1 rx_isI)
set_option maxRecDepth 20000 in
theorem wX13_askCalled_30 (hZ : zO b e D A X) : rx_OK (zV b e D A X) mX13_askCalled 5 30 vX13_askCalled_30 := by
  unfold vX13_askCalled_30
  refine s_iconst dX13_askCalled_30 (by decide +kernel) ?_
  exact s_iret hZ.1 rfl dX13_askCalled_31
noncomputable def vX13_askCalled_24 : rx_K := o_st rx_isI 3 (o_ld rx_isI 3 (o_const 8 (o_c2 (fun h x y => rx_lt h y x) vX13_askCalled_30 vX13_askCalled_32)))
set_option maxRecDepth 20000 in
theorem wX13_askCalled_24 (hZ : zO b e D A X) : rx_OK (zV b e D A X) mX13_askCalled 5 24 vX13_askCalled_24 := by
  unfold vX13_askCalled_24
  refine s_istore_n hZ.1 dX13_askCalled_24 rfl (Nat.le_of_ble_eq_true rfl) ?_
  refine s_iload_n hZ.1 dX13_askCalled_25 rfl ?_
  refine s_iconst dX13_askCalled_26 (by decide +kernel) ?_
  exact s_icmp_le dX13_askCalled_27 (by decide) (wX13_askCalled_32 hZ) (wX13_askCalled_30 hZ)
noncomputable def vX13_askCalled_16 : rx_K := o_ld rx_isR 0 (o_ld rx_isI 2 (o_const 58744 (o_callV 2 13 FX13_mostSpecial (vX13_askCalled_24))))
set_option maxRecDepth 20000 in
theorem wX13_askCalled_16 (hZ : zO b e D A X) : rx_OK (zV b e D A X) mX13_askCalled 5 16 vX13_askCalled_16 := by
  unfold vX13_askCalled_16
  refine s_aload_n hZ.1 dX13_askCalled_16 rfl ?_
  refine s_iload_n hZ.1 dX13_askCalled_17 rfl ?_
  refine s_sipush dX13_askCalled_18 (by decide +kernel) ?_
  refine s_callV hZ.1 (Met_X13_mostSpecial hZ) (Nat.le_of_ble_eq_true rfl) vy_X13_mostSpecial zcl13 zw3327 zw258 (Or.inl zw3325) dX13_askCalled_21 ?_
  exact (wX13_askCalled_24 hZ)
noncomputable def vX13_askCalled_12 : rx_K := o_const 0 (vX13_askCalled_24)
set_option maxRecDepth 20000 in
theorem wX13_askCalled_12 (hZ : zO b e D A X) : rx_OK (zV b e D A X) mX13_askCalled 5 12 vX13_askCalled_12 := by
  unfold vX13_askCalled_12
  refine s_iconst dX13_askCalled_12 (by decide +kernel) ?_
  exact s_goto dX13_askCalled_13 (by decide) (wX13_askCalled_24 hZ)
noncomputable def vX13_askCalled_6 : rx_K := o_ld rx_isI 2 (o_const 34359738352 (o_c2 rx_eq vX13_askCalled_12 vX13_askCalled_16))
set_option maxRecDepth 20000 in
theorem wX13_askCalled_6 (hZ : zO b e D A X) : rx_OK (zV b e D A X) mX13_askCalled 5 6 vX13_askCalled_6 := by
  unfold vX13_askCalled_6
  refine s_iload_n hZ.1 dX13_askCalled_6 rfl ?_
  refine s_bipush dX13_askCalled_7 (by decide +kernel) ?_
  exact s_icmp_ne dX13_askCalled_9 (by decide) (wX13_askCalled_16 hZ) (wX13_askCalled_12 hZ)
noncomputable def vX13_askCalled_0 : rx_K := o_ld rx_isI 1 (o_const 34359738352 (o_c2 rx_eq vX13_askCalled_6 vX13_askCalled_12))
set_option maxRecDepth 20000 in
theorem wX13_askCalled_0 (hZ : zO b e D A X) : rx_OK (zV b e D A X) mX13_askCalled 5 0 vX13_askCalled_0 := by
  unfold vX13_askCalled_0
  refine s_iload_n hZ.1 dX13_askCalled_0 rfl ?_
  refine s_bipush dX13_askCalled_1 (by decide +kernel) ?_
  exact s_icmp_ne dX13_askCalled_3 (by decide) (wX13_askCalled_12 hZ) (wX13_askCalled_6 hZ)
noncomputable def FX13_askCalled : List Nat → rx_H → Option (Nat × rx_H) := rx_ent 5 vX13_askCalled_0
theorem Met_X13_askCalled (hZ : zO b e D A X) : rx_Met (zV b e D A X) 5 yX13_askCalled mX13_askCalled (FX13_askCalled) := rx_entry hZ.1 (wX13_askCalled_0 hZ) (by decide +kernel) rfl (fun h => by cases h)
abbrev mX13_askFaceSuper : rx_M := (RX13, cX13_askFaceSuper, 3, (some .int), false)
theorem vy_X13_askFaceSuper : rx_Y (zV b e D A X) yX13_askFaceSuper mX13_askFaceSuper 1 := ⟨zw3769, zw431, by decide, by decide +kernel, by decide +kernel, by decide +kernel⟩
noncomputable def vX13_askFaceSuper_31 : rx_K := o_ld rx_isI 1 (o_callV 2 13 FX13_askCalled (o_ret1 rx_isI))
set_option maxRecDepth 20000 in
theorem wX13_askFaceSuper_31 (hZ : zO b e D A X) : rx_OK (zV b e D A X) mX13_askFaceSuper 6 31 vX13_askFaceSuper_31 := by
  unfold vX13_askFaceSuper_31
  refine s_iload_n hZ.1 dX13_askFaceSuper_31 rfl ?_
  refine s_callV hZ.1 (Met_X13_askCalled hZ) (Nat.le_of_ble_eq_true rfl) vy_X13_askCalled zcl13 zw3764 zw347 (Or.inl zw3762) dX13_askFaceSuper_32 ?_
  exact s_iret hZ.1 rfl dX13_askFaceSuper_35
noncomputable def vX13_askFaceSuper_29 : rx_K := o_const 34359738352 (vX13_askFaceSuper_31)
set_option maxRecDepth 20000 in
theorem wX13_askFaceSuper_29 (hZ : zO b e D A X) : rx_OK (zV b e D A X) mX13_askFaceSuper 6 29 vX13_askFaceSuper_29 := by
  unfold vX13_askFaceSuper_29
  refine s_bipush dX13_askFaceSuper_29 (by decide +kernel) ?_
  exact (wX13_askFaceSuper_31 hZ)
noncomputable def vX13_askFaceSuper_25 : rx_K := o_ld rx_isI 2 (vX13_askFaceSuper_31)
set_option maxRecDepth 20000 in
theorem wX13_askFaceSuper_25 (hZ : zO b e D A X) : rx_OK (zV b e D A X) mX13_askFaceSuper 6 25 vX13_askFaceSuper_25 := by
  unfold vX13_askFaceSuper_25
  refine s_iload_n hZ.1 dX13_askFaceSuper_25 rfl ?_
  exact s_goto dX13_askFaceSuper_26 (by decide) (wX13_askFaceSuper_31 hZ)
noncomputable def vX13_askFaceSuper_16 : rx_K := o_ld rx_isR 0 (o_getf 13 45 (o_ld rx_isI 2 (o_ald 3 (o_c1 rx_eq vX13_askFaceSuper_25 vX13_askFaceSuper_29))))
set_option maxRecDepth 20000 in
theorem wX13_askFaceSuper_16 (hZ : zO b e D A X) : rx_OK (zV b e D A X) mX13_askFaceSuper 6 16 vX13_askFaceSuper_16 := by
  unfold vX13_askFaceSuper_16
  refine s_aload_n hZ.1 dX13_askFaceSuper_16 rfl ?_
  refine yg13_45 dX13_askFaceSuper_17 zw4166 ?_
  refine s_iload_n hZ.1 dX13_askFaceSuper_20 rfl ?_
  refine s_zald (tt := 3) rfl dX13_askFaceSuper_21 ?_
  exact s_if_ne dX13_askFaceSuper_22 (by decide) (wX13_askFaceSuper_29 hZ) (wX13_askFaceSuper_25 hZ)
noncomputable def vX13_askFaceSuper_0 : rx_K := o_ld rx_isR 0 (o_ld rx_isI 1 (o_const 58744 (o_callV 2 13 FX13_ownMethod (o_st rx_isI 2 (o_ld rx_isR 0 (o_ld rx_isI 2 (o_const 34359738352 (o_c2 rx_eq vX13_askFaceSuper_29 vX13_askFaceSuper_16))))))))
set_option maxRecDepth 20000 in
theorem wX13_askFaceSuper_0 (hZ : zO b e D A X) : rx_OK (zV b e D A X) mX13_askFaceSuper 6 0 vX13_askFaceSuper_0 := by
  unfold vX13_askFaceSuper_0
  refine s_aload_n hZ.1 dX13_askFaceSuper_0 rfl ?_
  refine s_iload_n hZ.1 dX13_askFaceSuper_1 rfl ?_
  refine s_sipush dX13_askFaceSuper_2 (by decide +kernel) ?_
  refine s_callV hZ.1 (Met_X13_ownMethod hZ) (Nat.le_of_ble_eq_true rfl) vy_X13_ownMethod zcl13 zw3319 zw256 (Or.inl zw3317) dX13_askFaceSuper_5 ?_
  refine s_istore_n hZ.1 dX13_askFaceSuper_8 rfl (Nat.le_of_ble_eq_true rfl) ?_
  refine s_aload_n hZ.1 dX13_askFaceSuper_9 rfl ?_
  refine s_iload_n hZ.1 dX13_askFaceSuper_10 rfl ?_
  refine s_bipush dX13_askFaceSuper_11 (by decide +kernel) ?_
  exact s_icmp_eq dX13_askFaceSuper_13 (by decide) (wX13_askFaceSuper_29 hZ) (wX13_askFaceSuper_16 hZ)
noncomputable def FX13_askFaceSuper : List Nat → rx_H → Option (Nat × rx_H) := rx_ent 3 vX13_askFaceSuper_0
theorem Met_X13_askFaceSuper (hZ : zO b e D A X) : rx_Met (zV b e D A X) 6 yX13_askFaceSuper mX13_askFaceSuper (FX13_askFaceSuper) := rx_entry hZ.1 (wX13_askFaceSuper_0 hZ) (by decide +kernel) rfl (fun h => by cases h)
abbrev mX13_askSuper : rx_M := (RX13, cX13_askSuper, 5, (some .int), false)
theorem vy_X13_askSuper : rx_Y (zV b e D A X) yX13_askSuper mX13_askSuper 1 := ⟨zw3761, zw431, by decide, by decide +kernel, by decide +kernel, by decide +kernel⟩
noncomputable def vX13_askSuper_61 (j : Nat → rx_K) : rx_K := o_ld rx_isR 0 (o_ld rx_isI 3 (o_ld rx_isI 1 (o_callV 2 13 FX13_askCalled (o_ret1 rx_isI))))
set_option maxRecDepth 20000 in
theorem wX13_askSuper_61 (hZ : zO b e D A X) (j : Nat → rx_K) (hj : ∀ k pc, [5][k]? = some pc → rx_OK (zV b e D A X) mX13_askSuper 6 pc (j k)) : rx_OK (zV b e D A X) mX13_askSuper 6 61 (vX13_askSuper_61 j) := by
  unfold vX13_askSuper_61
  refine s_aload_n hZ.1 dX13_askSuper_61 rfl ?_
  refine s_iload_n hZ.1 dX13_askSuper_62 rfl ?_
  refine s_iload_n hZ.1 dX13_askSuper_63 rfl ?_
  refine s_callV hZ.1 (Met_X13_askCalled hZ) (Nat.le_of_ble_eq_true rfl) vy_X13_askCalled zcl13 zw3764 zw347 (Or.inl zw3762) dX13_askSuper_64 ?_
  exact s_iret hZ.1 rfl dX13_askSuper_67
noncomputable def vX13_askSuper_51 (j : Nat → rx_K) : rx_K := o_st rx_isI 3 (o_ld rx_isR 0 (o_ld rx_isI 2 (o_callV 1 13 FX13_parent (o_st rx_isI 2 ((j 0))))))
set_option maxRecDepth 20000 in
theorem wX13_askSuper_51 (hZ : zO b e D A X) (j : Nat → rx_K) (hj : ∀ k pc, [5][k]? = some pc → rx_OK (zV b e D A X) mX13_askSuper 6 pc (j k)) : rx_OK (zV b e D A X) mX13_askSuper 6 51 (vX13_askSuper_51 j) := by
  unfold vX13_askSuper_51
  refine s_istore_n hZ.1 dX13_askSuper_51 rfl (Nat.le_of_ble_eq_true rfl) ?_
  refine s_aload_n hZ.1 dX13_askSuper_52 rfl ?_
  refine s_iload_n hZ.1 dX13_askSuper_53 rfl ?_
  refine s_callV hZ.1 (Met_X13_parent hZ) (Nat.le_of_ble_eq_true rfl) vy_X13_parent zcl13 zw3220 zw233 (Or.inl zw3218) dX13_askSuper_54 ?_
  refine s_istore_n hZ.1 dX13_askSuper_57 rfl (Nat.le_of_ble_eq_true rfl) ?_
  exact s_goto dX13_askSuper_58 (by decide) (hj 0 5 rfl)
noncomputable def vX13_askSuper_49 (j : Nat → rx_K) : rx_K := o_const 34359738352 ((vX13_askSuper_51 j))
set_option maxRecDepth 20000 in
theorem wX13_askSuper_49 (hZ : zO b e D A X) (j : Nat → rx_K) (hj : ∀ k pc, [5][k]? = some pc → rx_OK (zV b e D A X) mX13_askSuper 6 pc (j k)) : rx_OK (zV b e D A X) mX13_askSuper 6 49 (vX13_askSuper_49 j) := by
  unfold vX13_askSuper_49
  refine s_bipush dX13_askSuper_49 (by decide +kernel) ?_
  exact (wX13_askSuper_51 hZ j hj)
noncomputable def vX13_askSuper_44 (j : Nat → rx_K) : rx_K := o_ld rx_isI 4 ((vX13_askSuper_51 j))
set_option maxRecDepth 20000 in
theorem wX13_askSuper_44 (hZ : zO b e D A X) (j : Nat → rx_K) (hj : ∀ k pc, [5][k]? = some pc → rx_OK (zV b e D A X) mX13_askSuper 6 pc (j k)) : rx_OK (zV b e D A X) mX13_askSuper 6 44 (vX13_askSuper_44 j) := by
  unfold vX13_askSuper_44
  refine s_iload hZ.1 dX13_askSuper_44 ?_
  exact s_goto dX13_askSuper_46 (by decide) (wX13_askSuper_51 hZ j hj)
noncomputable def vX13_askSuper_34 (j : Nat → rx_K) : rx_K := o_ld rx_isR 0 (o_getf 13 45 (o_ld rx_isI 4 (o_ald 3 (o_c1 rx_eq (vX13_askSuper_44 j) (vX13_askSuper_49 j)))))
set_option maxRecDepth 20000 in
theorem wX13_askSuper_34 (hZ : zO b e D A X) (j : Nat → rx_K) (hj : ∀ k pc, [5][k]? = some pc → rx_OK (zV b e D A X) mX13_askSuper 6 pc (j k)) : rx_OK (zV b e D A X) mX13_askSuper 6 34 (vX13_askSuper_34 j) := by
  unfold vX13_askSuper_34
  refine s_aload_n hZ.1 dX13_askSuper_34 rfl ?_
  refine yg13_45 dX13_askSuper_35 zw4166 ?_
  refine s_iload hZ.1 dX13_askSuper_38 ?_
  refine s_zald (tt := 3) rfl dX13_askSuper_40 ?_
  exact s_if_ne dX13_askSuper_41 (by decide) (wX13_askSuper_49 hZ j hj) (wX13_askSuper_44 hZ j hj)
noncomputable def vX13_askSuper_17 (j : Nat → rx_K) : rx_K := o_ld rx_isR 0 (o_ld rx_isI 2 (o_const 58744 (o_callV 2 13 FX13_ownMethod (o_st rx_isI 4 (o_ld rx_isI 4 (o_const 34359738352 (o_c2 rx_eq (vX13_askSuper_49 j) (vX13_askSuper_34 j))))))))
set_option maxRecDepth 20000 in
theorem wX13_askSuper_17 (hZ : zO b e D A X) (j : Nat → rx_K) (hj : ∀ k pc, [5][k]? = some pc → rx_OK (zV b e D A X) mX13_askSuper 6 pc (j k)) : rx_OK (zV b e D A X) mX13_askSuper 6 17 (vX13_askSuper_17 j) := by
  unfold vX13_askSuper_17
  refine s_aload_n hZ.1 dX13_askSuper_17 rfl ?_
  refine s_iload_n hZ.1 dX13_askSuper_18 rfl ?_
  refine s_sipush dX13_askSuper_19 (by decide +kernel) ?_
  refine s_callV hZ.1 (Met_X13_ownMethod hZ) (Nat.le_of_ble_eq_true rfl) vy_X13_ownMethod zcl13 zw3319 zw256 (Or.inl zw3317) dX13_askSuper_22 ?_
  refine s_istore hZ.1 dX13_askSuper_25 (Nat.le_of_ble_eq_true rfl) ?_
  refine s_iload hZ.1 dX13_askSuper_27 ?_
  refine s_bipush dX13_askSuper_29 (by decide +kernel) ?_
  exact s_icmp_eq dX13_askSuper_31 (by decide) (wX13_askSuper_49 hZ j hj) (wX13_askSuper_34 hZ j hj)
noncomputable def vX13_askSuper_11 (j : Nat → rx_K) : rx_K := o_ld rx_isI 3 (o_const 34359738352 (o_c2 rx_eq (vX13_askSuper_17 j) (vX13_askSuper_61 j)))
set_option maxRecDepth 20000 in
theorem wX13_askSuper_11 (hZ : zO b e D A X) (j : Nat → rx_K) (hj : ∀ k pc, [5][k]? = some pc → rx_OK (zV b e D A X) mX13_askSuper 6 pc (j k)) : rx_OK (zV b e D A X) mX13_askSuper 6 11 (vX13_askSuper_11 j) := by
  unfold vX13_askSuper_11
  refine s_iload_n hZ.1 dX13_askSuper_11 rfl ?_
  refine s_bipush dX13_askSuper_12 (by decide +kernel) ?_
  exact s_icmp_ne dX13_askSuper_14 (by decide) (wX13_askSuper_61 hZ j hj) (wX13_askSuper_17 hZ j hj)
noncomputable def vX13_askSuper_5 (j : Nat → rx_K) : rx_K := o_ld rx_isI 2 (o_const 34359738352 (o_c2 rx_eq (vX13_askSuper_61 j) (vX13_askSuper_11 j)))
set_option maxRecDepth 20000 in
theorem wX13_askSuper_5 (hZ : zO b e D A X) (j : Nat → rx_K) (hj : ∀ k pc, [5][k]? = some pc → rx_OK (zV b e D A X) mX13_askSuper 6 pc (j k)) : rx_OK (zV b e D A X) mX13_askSuper 6 5 (vX13_askSuper_5 j) := by
  unfold vX13_askSuper_5
  refine s_iload_n hZ.1 dX13_askSuper_5 rfl ?_
  refine s_bipush dX13_askSuper_6 (by decide +kernel) ?_
  exact s_icmp_eq dX13_askSuper_8 (by decide) (wX13_askSuper_61 hZ j hj) (wX13_askSuper_11 hZ j hj)
noncomputable def vX13_askSuper_0 (j : Nat → rx_K) : rx_K := o_ld rx_isI 1 (o_st rx_isI 2 (o_const 34359738352 (o_st rx_isI 3 ((vX13_askSuper_5 j)))))
set_option maxRecDepth 20000 in
theorem wX13_askSuper_0 (hZ : zO b e D A X) (j : Nat → rx_K) (hj : ∀ k pc, [5][k]? = some pc → rx_OK (zV b e D A X) mX13_askSuper 6 pc (j k)) : rx_OK (zV b e D A X) mX13_askSuper 6 0 (vX13_askSuper_0 j) := by
  unfold vX13_askSuper_0
  refine s_iload_n hZ.1 dX13_askSuper_0 rfl ?_
  refine s_istore_n hZ.1 dX13_askSuper_1 rfl (Nat.le_of_ble_eq_true rfl) ?_
  refine s_bipush dX13_askSuper_2 (by decide +kernel) ?_
  refine s_istore_n hZ.1 dX13_askSuper_4 rfl (Nat.le_of_ble_eq_true rfl) ?_
  exact (wX13_askSuper_5 hZ j hj)
noncomputable def vhX13_askSuper (j : Nat → rx_K) : List rx_K := [vX13_askSuper_5 j]
theorem vlX13_askSuper (hZ : zO b e D A X) : ∀ n k pc, [5][k]? = some pc → rx_OK (zV b e D A X) mX13_askSuper 6 pc (rx_J (vhX13_askSuper) n k) := rx_loop fun j hj k pc h => by
  match k, h with
  | 0, h =>
    have e9 := Option.some.inj (show some 5 = some pc from h)
    subst e9
    exact wX13_askSuper_5 hZ j hj
  | _ + 1, h => exact absurd h (by simp)
noncomputable def FX13_askSuper : List Nat → rx_H → Option (Nat × rx_H) := rx_ent 5 (vX13_askSuper_0 (rx_J (vhX13_askSuper) 4000000000))
theorem Met_X13_askSuper (hZ : zO b e D A X) : rx_Met (zV b e D A X) 6 yX13_askSuper mX13_askSuper (FX13_askSuper) := rx_entry hZ.1 (wX13_askSuper_0 hZ _ (vlX13_askSuper hZ 4000000000)) (by decide +kernel) rfl (fun h => by cases h)
abbrev mX13_methodOf : rx_M := (RX13, cX13_methodOf, 7, (some .int), false)
theorem vy_X13_methodOf : rx_Y (zV b e D A X) yX13_methodOf mX13_methodOf 1 := ⟨zw3757, zw431, by decide, by decide +kernel, by decide +kernel, by decide +kernel⟩
noncomputable def vX13_methodOf_148 (j : Nat → rx_K) : rx_K := o_ret1 rx_isI
set_option maxRecDepth 20000 in
theorem wX13_methodOf_148 (hZ : zO b e D A X) (j : Nat → rx_K) (hj : ∀ k pc, [2, 56][k]? = some pc → rx_OK (zV b e D A X) mX13_methodOf 5 pc (j k)) : rx_OK (zV b e D A X) mX13_methodOf 5 148 (vX13_methodOf_148 j) := by
  unfold vX13_methodOf_148
  exact s_iret hZ.1 rfl dX13_methodOf_148
noncomputable def vX13_methodOf_146 (j : Nat → rx_K) : rx_K := o_ld rx_isI 4 ((vX13_methodOf_148 j))
set_option maxRecDepth 20000 in
theorem wX13_methodOf_146 (hZ : zO b e D A X) (j : Nat → rx_K) (hj : ∀ k pc, [2, 56][k]? = some pc → rx_OK (zV b e D A X) mX13_methodOf 5 pc (j k)) : rx_OK (zV b e D A X) mX13_methodOf 5 146 (vX13_methodOf_146 j) := by
  unfold vX13_methodOf_146
  refine s_iload hZ.1 dX13_methodOf_146 ?_
  exact (wX13_methodOf_148 hZ j hj)
noncomputable def vX13_methodOf_139 (j : Nat → rx_K) : rx_K := o_ld rx_isR 0 (o_getf 13 102 ((vX13_methodOf_148 j)))
set_option maxRecDepth 20000 in
theorem wX13_methodOf_139 (hZ : zO b e D A X) (j : Nat → rx_K) (hj : ∀ k pc, [2, 56][k]? = some pc → rx_OK (zV b e D A X) mX13_methodOf 5 pc (j k)) : rx_OK (zV b e D A X) mX13_methodOf 5 139 (vX13_methodOf_139 j) := by
  unfold vX13_methodOf_139
  refine s_aload_n hZ.1 dX13_methodOf_139 rfl ?_
  refine yg13_102 dX13_methodOf_140 zw4222 ?_
  exact s_goto dX13_methodOf_143 (by decide) (wX13_methodOf_148 hZ j hj)
noncomputable def vX13_methodOf_127 (j : Nat → rx_K) : rx_K := o_ld rx_isR 0 (o_ld rx_isI 1 (o_const 58744 (o_callV 2 13 FX13_mostSpecial (o_const 8 (o_c2 rx_eq (vX13_methodOf_139 j) (vX13_methodOf_146 j))))))
set_option maxRecDepth 20000 in
theorem wX13_methodOf_127 (hZ : zO b e D A X) (j : Nat → rx_K) (hj : ∀ k pc, [2, 56][k]? = some pc → rx_OK (zV b e D A X) mX13_methodOf 5 pc (j k)) : rx_OK (zV b e D A X) mX13_methodOf 5 127 (vX13_methodOf_127 j) := by
  unfold vX13_methodOf_127
  refine s_aload_n hZ.1 dX13_methodOf_127 rfl ?_
  refine s_iload_n hZ.1 dX13_methodOf_128 rfl ?_
  refine s_sipush dX13_methodOf_129 (by decide +kernel) ?_
  refine s_callV hZ.1 (Met_X13_mostSpecial hZ) (Nat.le_of_ble_eq_true rfl) vy_X13_mostSpecial zcl13 zw3327 zw258 (Or.inl zw3325) dX13_methodOf_132 ?_
  refine s_iconst dX13_methodOf_135 (by decide +kernel) ?_
  exact s_icmp_ne dX13_methodOf_136 (by decide) (wX13_methodOf_146 hZ j hj) (wX13_methodOf_139 hZ j hj)
noncomputable def vX13_methodOf_119 (j : Nat → rx_K) : rx_K := o_st rx_isI 4 (o_inc 5 (1) ((j 1)))
set_option maxRecDepth 20000 in
theorem wX13_methodOf_119 (hZ : zO b e D A X) (j : Nat → rx_K) (hj : ∀ k pc, [2, 56][k]? = some pc → rx_OK (zV b e D A X) mX13_methodOf 5 pc (j k)) : rx_OK (zV b e D A X) mX13_methodOf 5 119 (vX13_methodOf_119 j) := by
  unfold vX13_methodOf_119
  refine s_istore hZ.1 dX13_methodOf_119 (Nat.le_of_ble_eq_true rfl) ?_
  refine s_iinc hZ.1 dX13_methodOf_121 (Nat.le_of_ble_eq_true rfl) ?_
  exact s_goto dX13_methodOf_124 (by decide) (hj 1 56 rfl)
noncomputable def vX13_methodOf_117 (j : Nat → rx_K) : rx_K := o_ld rx_isI 4 ((vX13_methodOf_119 j))
set_option maxRecDepth 20000 in
theorem wX13_methodOf_117 (hZ : zO b e D A X) (j : Nat → rx_K) (hj : ∀ k pc, [2, 56][k]? = some pc → rx_OK (zV b e D A X) mX13_methodOf 5 pc (j k)) : rx_OK (zV b e D A X) mX13_methodOf 5 117 (vX13_methodOf_117 j) := by
  unfold vX13_methodOf_117
  refine s_iload hZ.1 dX13_methodOf_117 ?_
  exact (wX13_methodOf_119 hZ j hj)
noncomputable def vX13_methodOf_112 (j : Nat → rx_K) : rx_K := o_ld rx_isI 6 ((vX13_methodOf_119 j))
set_option maxRecDepth 20000 in
theorem wX13_methodOf_112 (hZ : zO b e D A X) (j : Nat → rx_K) (hj : ∀ k pc, [2, 56][k]? = some pc → rx_OK (zV b e D A X) mX13_methodOf 5 pc (j k)) : rx_OK (zV b e D A X) mX13_methodOf 5 112 (vX13_methodOf_112 j) := by
  unfold vX13_methodOf_112
  refine s_iload hZ.1 dX13_methodOf_112 ?_
  exact s_goto dX13_methodOf_114 (by decide) (wX13_methodOf_119 hZ j hj)
noncomputable def vX13_methodOf_103 (j : Nat → rx_K) : rx_K := o_ld rx_isR 0 (o_ld rx_isI 6 (o_callV 1 13 FX13_isFree (o_c1 rx_eq (vX13_methodOf_117 j) (vX13_methodOf_112 j))))
set_option maxRecDepth 20000 in
theorem wX13_methodOf_103 (hZ : zO b e D A X) (j : Nat → rx_K) (hj : ∀ k pc, [2, 56][k]? = some pc → rx_OK (zV b e D A X) mX13_methodOf 5 pc (j k)) : rx_OK (zV b e D A X) mX13_methodOf 5 103 (vX13_methodOf_103 j) := by
  unfold vX13_methodOf_103
  refine s_aload_n hZ.1 dX13_methodOf_103 rfl ?_
  refine s_iload hZ.1 dX13_methodOf_104 ?_
  refine s_callV hZ.1 (Met_X13_isFree hZ) (Nat.le_of_ble_eq_true rfl) vy_X13_isFree zcl13 zw3291 zw249 (Or.inl zw3289) dX13_methodOf_106 ?_
  exact s_if_eq dX13_methodOf_109 (by decide) (wX13_methodOf_117 hZ j hj) (wX13_methodOf_112 hZ j hj)
noncomputable def vX13_methodOf_96 (j : Nat → rx_K) : rx_K := o_ld rx_isI 6 (o_const 34359738352 (o_c2 rx_eq (vX13_methodOf_117 j) (vX13_methodOf_103 j)))
set_option maxRecDepth 20000 in
theorem wX13_methodOf_96 (hZ : zO b e D A X) (j : Nat → rx_K) (hj : ∀ k pc, [2, 56][k]? = some pc → rx_OK (zV b e D A X) mX13_methodOf 5 pc (j k)) : rx_OK (zV b e D A X) mX13_methodOf 5 96 (vX13_methodOf_96 j) := by
  unfold vX13_methodOf_96
  refine s_iload hZ.1 dX13_methodOf_96 ?_
  refine s_bipush dX13_methodOf_98 (by decide +kernel) ?_
  exact s_icmp_eq dX13_methodOf_100 (by decide) (wX13_methodOf_117 hZ j hj) (wX13_methodOf_103 hZ j hj)
noncomputable def vX13_methodOf_62 (j : Nat → rx_K) : rx_K := o_ld rx_isR 0 (o_ld rx_isR 0 (o_getf 13 143 (o_ld rx_isI 5 (o_ald 0 (o_callV 1 13 FX13_see (o_ld rx_isR 0 (o_ld rx_isR 0 (o_getf 13 143 (o_ld rx_isI 5 (o_ald 0 (o_const 58744 (o_callV 2 13 FX13_ownMethod (o_st rx_isI 6 (o_ld rx_isI 4 (o_const 34359738352 (o_c2 rx_eq (vX13_methodOf_96 j) (vX13_methodOf_117 j)))))))))))))))))
set_option maxRecDepth 20000 in
theorem wX13_methodOf_62 (hZ : zO b e D A X) (j : Nat → rx_K) (hj : ∀ k pc, [2, 56][k]? = some pc → rx_OK (zV b e D A X) mX13_methodOf 5 pc (j k)) : rx_OK (zV b e D A X) mX13_methodOf 5 62 (vX13_methodOf_62 j) := by
  unfold vX13_methodOf_62
  refine s_aload_n hZ.1 dX13_methodOf_62 rfl ?_
  refine s_aload_n hZ.1 dX13_methodOf_63 rfl ?_
  refine yg13_143 dX13_methodOf_64 zw4263 ?_
  refine s_iload hZ.1 dX13_methodOf_67 ?_
  refine s_iald (tt := 0) rfl dX13_methodOf_69 ?_
  refine s_callV hZ.1 (Met_X13_see hZ) (Nat.le_of_ble_eq_true rfl) vy_X13_see zcl13 zw3744 zw342 (Or.inl zw3742) dX13_methodOf_70 ?_
  refine s_aload_n hZ.1 dX13_methodOf_73 rfl ?_
  refine s_aload_n hZ.1 dX13_methodOf_74 rfl ?_
  refine yg13_143 dX13_methodOf_75 zw4263 ?_
  refine s_iload hZ.1 dX13_methodOf_78 ?_
  refine s_iald (tt := 0) rfl dX13_methodOf_80 ?_
  refine s_sipush dX13_methodOf_81 (by decide +kernel) ?_
  refine s_callV hZ.1 (Met_X13_ownMethod hZ) (Nat.le_of_ble_eq_true rfl) vy_X13_ownMethod zcl13 zw3319 zw256 (Or.inl zw3317) dX13_methodOf_84 ?_
  refine s_istore hZ.1 dX13_methodOf_87 (Nat.le_of_ble_eq_true rfl) ?_
  refine s_iload hZ.1 dX13_methodOf_89 ?_
  refine s_bipush dX13_methodOf_91 (by decide +kernel) ?_
  exact s_icmp_ne dX13_methodOf_93 (by decide) (wX13_methodOf_117 hZ j hj) (wX13_methodOf_96 hZ j hj)
noncomputable def vX13_methodOf_56 (j : Nat → rx_K) : rx_K := o_ld rx_isI 5 (o_ld rx_isI 3 (o_c2 rx_lt (vX13_methodOf_62 j) (vX13_methodOf_127 j)))
set_option maxRecDepth 20000 in
theorem wX13_methodOf_56 (hZ : zO b e D A X) (j : Nat → rx_K) (hj : ∀ k pc, [2, 56][k]? = some pc → rx_OK (zV b e D A X) mX13_methodOf 5 pc (j k)) : rx_OK (zV b e D A X) mX13_methodOf 5 56 (vX13_methodOf_56 j) := by
  unfold vX13_methodOf_56
  refine s_iload hZ.1 dX13_methodOf_56 ?_
  refine s_iload_n hZ.1 dX13_methodOf_58 rfl ?_
  exact s_icmp_ge dX13_methodOf_59 (by decide) (wX13_methodOf_127 hZ j hj) (wX13_methodOf_62 hZ j hj)
noncomputable def vX13_methodOf_39 (j : Nat → rx_K) : rx_K := o_ld rx_isR 0 (o_ld rx_isI 1 (o_ld rx_isR 0 (o_getf 13 143 (o_callV 2 13 FX13_allFaces (o_st rx_isI 3 (o_const 34359738352 (o_st rx_isI 4 (o_const 0 (o_st rx_isI 5 ((vX13_methodOf_56 j)))))))))))
set_option maxRecDepth 20000 in
theorem wX13_methodOf_39 (hZ : zO b e D A X) (j : Nat → rx_K) (hj : ∀ k pc, [2, 56][k]? = some pc → rx_OK (zV b e D A X) mX13_methodOf 5 pc (j k)) : rx_OK (zV b e D A X) mX13_methodOf 5 39 (vX13_methodOf_39 j) := by
  unfold vX13_methodOf_39
  refine s_aload_n hZ.1 dX13_methodOf_39 rfl ?_
  refine s_iload_n hZ.1 dX13_methodOf_40 rfl ?_
  refine s_aload_n hZ.1 dX13_methodOf_41 rfl ?_
  refine yg13_143 dX13_methodOf_42 zw4263 ?_
  refine s_callV hZ.1 (Met_X13_allFaces hZ) (Nat.le_of_ble_eq_true rfl) vy_X13_allFaces zcl13 zw3270 zw244 (Or.inl zw3268) dX13_methodOf_45 ?_
  refine s_istore_n hZ.1 dX13_methodOf_48 rfl (Nat.le_of_ble_eq_true rfl) ?_
  refine s_bipush dX13_methodOf_49 (by decide +kernel) ?_
  refine s_istore hZ.1 dX13_methodOf_51 (Nat.le_of_ble_eq_true rfl) ?_
  refine s_iconst dX13_methodOf_53 (by decide +kernel) ?_
  refine s_istore hZ.1 dX13_methodOf_54 (Nat.le_of_ble_eq_true rfl) ?_
  exact (wX13_methodOf_56 hZ j hj)
noncomputable def vX13_methodOf_30 (j : Nat → rx_K) : rx_K := o_ld rx_isR 0 (o_ld rx_isI 2 (o_callV 1 13 FX13_parent (o_st rx_isI 2 ((j 0)))))
set_option maxRecDepth 20000 in
theorem wX13_methodOf_30 (hZ : zO b e D A X) (j : Nat → rx_K) (hj : ∀ k pc, [2, 56][k]? = some pc → rx_OK (zV b e D A X) mX13_methodOf 5 pc (j k)) : rx_OK (zV b e D A X) mX13_methodOf 5 30 (vX13_methodOf_30 j) := by
  unfold vX13_methodOf_30
  refine s_aload_n hZ.1 dX13_methodOf_30 rfl ?_
  refine s_iload_n hZ.1 dX13_methodOf_31 rfl ?_
  refine s_callV hZ.1 (Met_X13_parent hZ) (Nat.le_of_ble_eq_true rfl) vy_X13_parent zcl13 zw3220 zw233 (Or.inl zw3218) dX13_methodOf_32 ?_
  refine s_istore_n hZ.1 dX13_methodOf_35 rfl (Nat.le_of_ble_eq_true rfl) ?_
  exact s_goto dX13_methodOf_36 (by decide) (hj 0 2 rfl)
noncomputable def vX13_methodOf_28 (j : Nat → rx_K) : rx_K := o_ld rx_isI 3 (o_ret1 rx_isI)
set_option maxRecDepth 20000 in
theorem wX13_methodOf_28 (hZ : zO b e D A X) (j : Nat → rx_K) (hj : ∀ k pc, [2, 56][k]? = some pc → rx_OK (zV b e D A X) mX13_methodOf 5 pc (j k)) : rx_OK (zV b e D A X) mX13_methodOf 5 28 (vX13_methodOf_28 j) := by
  unfold vX13_methodOf_28
  refine s_iload_n hZ.1 dX13_methodOf_28 rfl ?_
  exact s_iret hZ.1 rfl dX13_methodOf_29
noncomputable def vX13_methodOf_8 (j : Nat → rx_K) : rx_K := o_ld rx_isR 0 (o_ld rx_isI 2 (o_callV 1 13 FX13_see (o_ld rx_isR 0 (o_ld rx_isI 2 (o_const 58744 (o_callV 2 13 FX13_ownMethod (o_st rx_isI 3 (o_ld rx_isI 3 (o_const 34359738352 (o_c2 rx_eq (vX13_methodOf_30 j) (vX13_methodOf_28 j)))))))))))
set_option maxRecDepth 20000 in
theorem wX13_methodOf_8 (hZ : zO b e D A X) (j : Nat → rx_K) (hj : ∀ k pc, [2, 56][k]? = some pc → rx_OK (zV b e D A X) mX13_methodOf 5 pc (j k)) : rx_OK (zV b e D A X) mX13_methodOf 5 8 (vX13_methodOf_8 j) := by
  unfold vX13_methodOf_8
  refine s_aload_n hZ.1 dX13_methodOf_8 rfl ?_
  refine s_iload_n hZ.1 dX13_methodOf_9 rfl ?_
  refine s_callV hZ.1 (Met_X13_see hZ) (Nat.le_of_ble_eq_true rfl) vy_X13_see zcl13 zw3744 zw342 (Or.inl zw3742) dX13_methodOf_10 ?_
  refine s_aload_n hZ.1 dX13_methodOf_13 rfl ?_
  refine s_iload_n hZ.1 dX13_methodOf_14 rfl ?_
  refine s_sipush dX13_methodOf_15 (by decide +kernel) ?_
  refine s_callV hZ.1 (Met_X13_ownMethod hZ) (Nat.le_of_ble_eq_true rfl) vy_X13_ownMethod zcl13 zw3319 zw256 (Or.inl zw3317) dX13_methodOf_18 ?_
  refine s_istore_n hZ.1 dX13_methodOf_21 rfl (Nat.le_of_ble_eq_true rfl) ?_
  refine s_iload_n hZ.1 dX13_methodOf_22 rfl ?_
  refine s_bipush dX13_methodOf_23 (by decide +kernel) ?_
  exact s_icmp_eq dX13_methodOf_25 (by decide) (wX13_methodOf_30 hZ j hj) (wX13_methodOf_28 hZ j hj)
noncomputable def vX13_methodOf_2 (j : Nat → rx_K) : rx_K := o_ld rx_isI 2 (o_const 34359738352 (o_c2 rx_eq (vX13_methodOf_39 j) (vX13_methodOf_8 j)))
set_option maxRecDepth 20000 in
theorem wX13_methodOf_2 (hZ : zO b e D A X) (j : Nat → rx_K) (hj : ∀ k pc, [2, 56][k]? = some pc → rx_OK (zV b e D A X) mX13_methodOf 5 pc (j k)) : rx_OK (zV b e D A X) mX13_methodOf 5 2 (vX13_methodOf_2 j) := by
  unfold vX13_methodOf_2
  refine s_iload_n hZ.1 dX13_methodOf_2 rfl ?_
  refine s_bipush dX13_methodOf_3 (by decide +kernel) ?_
  exact s_icmp_eq dX13_methodOf_5 (by decide) (wX13_methodOf_39 hZ j hj) (wX13_methodOf_8 hZ j hj)
noncomputable def vX13_methodOf_0 (j : Nat → rx_K) : rx_K := o_ld rx_isI 1 (o_st rx_isI 2 ((vX13_methodOf_2 j)))
set_option maxRecDepth 20000 in
theorem wX13_methodOf_0 (hZ : zO b e D A X) (j : Nat → rx_K) (hj : ∀ k pc, [2, 56][k]? = some pc → rx_OK (zV b e D A X) mX13_methodOf 5 pc (j k)) : rx_OK (zV b e D A X) mX13_methodOf 5 0 (vX13_methodOf_0 j) := by
  unfold vX13_methodOf_0
  refine s_iload_n hZ.1 dX13_methodOf_0 rfl ?_
  refine s_istore_n hZ.1 dX13_methodOf_1 rfl (Nat.le_of_ble_eq_true rfl) ?_
  exact (wX13_methodOf_2 hZ j hj)
noncomputable def vhX13_methodOf (j : Nat → rx_K) : List rx_K := [vX13_methodOf_2 j, vX13_methodOf_56 j]
theorem vlX13_methodOf (hZ : zO b e D A X) : ∀ n k pc, [2, 56][k]? = some pc → rx_OK (zV b e D A X) mX13_methodOf 5 pc (rx_J (vhX13_methodOf) n k) := rx_loop fun j hj k pc h => by
  match k, h with
  | 0, h =>
    have e9 := Option.some.inj (show some 2 = some pc from h)
    subst e9
    exact wX13_methodOf_2 hZ j hj
  | 1, h =>
    have e9 := Option.some.inj (show some 56 = some pc from h)
    subst e9
    exact wX13_methodOf_56 hZ j hj
  | _ + 2, h => exact absurd h (by simp)
noncomputable def FX13_methodOf : List Nat → rx_H → Option (Nat × rx_H) := rx_ent 7 (vX13_methodOf_0 (rx_J (vhX13_methodOf) 4000000000))
theorem Met_X13_methodOf (hZ : zO b e D A X) : rx_Met (zV b e D A X) 5 yX13_methodOf mX13_methodOf (FX13_methodOf) := rx_entry hZ.1 (wX13_methodOf_0 hZ _ (vlX13_methodOf hZ 4000000000)) (by decide +kernel) rfl (fun h => by cases h)
abbrev mX13_askMethod : rx_M := (RX13, cX13_askMethod, 7, (some .int), false)
theorem vy_X13_askMethod : rx_Y (zV b e D A X) yX13_askMethod mX13_askMethod 3 := ⟨zw3753, zw431, by decide, by decide +kernel, by decide +kernel, by decide +kernel⟩
noncomputable def vX13_askMethod_156 : rx_K := o_ret1 rx_isI
set_option maxRecDepth 20000 in
theorem wX13_askMethod_156 (hZ : zO b e D A X) : rx_OK (zV b e D A X) mX13_askMethod 169 156 vX13_askMethod_156 := by
  unfold vX13_askMethod_156
  exact s_iret hZ.1 rfl dX13_askMethod_156
noncomputable def vX13_askMethod_151 : rx_K := o_ld rx_isR 0 (o_ld rx_isI 2 (o_callV 1 13 FX13_askFaceSuper (vX13_askMethod_156)))
set_option maxRecDepth 20000 in
theorem wX13_askMethod_151 (hZ : zO b e D A X) : rx_OK (zV b e D A X) mX13_askMethod 169 151 vX13_askMethod_151 := by
  unfold vX13_askMethod_151
  refine s_aload_n hZ.1 dX13_askMethod_151 rfl ?_
  refine s_iload_n hZ.1 dX13_askMethod_152 rfl ?_
  refine s_callV hZ.1 (Met_X13_askFaceSuper hZ) (Nat.le_of_ble_eq_true rfl) vy_X13_askFaceSuper zcl13 zw3768 zw348 (Or.inl zw3766) dX13_askMethod_153 ?_
  exact (wX13_askMethod_156 hZ)
noncomputable def vX13_askMethod_139 : rx_K := o_ld rx_isR 0 (o_ld rx_isR 0 (o_ld rx_isI 3 (o_callV 1 13 FX13_parent (o_callV 1 13 FX13_askSuper (vX13_askMethod_156)))))
set_option maxRecDepth 20000 in
theorem wX13_askMethod_139 (hZ : zO b e D A X) : rx_OK (zV b e D A X) mX13_askMethod 169 139 vX13_askMethod_139 := by
  unfold vX13_askMethod_139
  refine s_aload_n hZ.1 dX13_askMethod_139 rfl ?_
  refine s_aload_n hZ.1 dX13_askMethod_140 rfl ?_
  refine s_iload_n hZ.1 dX13_askMethod_141 rfl ?_
  refine s_callV hZ.1 (Met_X13_parent hZ) (Nat.le_of_ble_eq_true rfl) vy_X13_parent zcl13 zw3220 zw233 (Or.inl zw3218) dX13_askMethod_142 ?_
  refine s_callV hZ.1 (Met_X13_askSuper hZ) (Nat.le_of_ble_eq_true rfl) vy_X13_askSuper zcl13 zw3760 zw346 (Or.inl zw3758) dX13_askMethod_145 ?_
  exact s_goto dX13_askMethod_148 (by decide) (wX13_askMethod_156 hZ)
noncomputable def vX13_askMethod_133 : rx_K := o_ld rx_isI 1 (o_const 88 (o_c2 rx_eq vX13_askMethod_139 vX13_askMethod_151))
set_option maxRecDepth 20000 in
theorem wX13_askMethod_133 (hZ : zO b e D A X) : rx_OK (zV b e D A X) mX13_askMethod 169 133 vX13_askMethod_133 := by
  unfold vX13_askMethod_133
  refine s_iload_n hZ.1 dX13_askMethod_133 rfl ?_
  refine s_bipush dX13_askMethod_134 (by decide +kernel) ?_
  exact s_icmp_ne dX13_askMethod_136 (by decide) (wX13_askMethod_151 hZ) (wX13_askMethod_139 hZ)
noncomputable def vX13_askMethod_129 : rx_K := o_const 0 (vX13_askMethod_156)
set_option maxRecDepth 20000 in
theorem wX13_askMethod_129 (hZ : zO b e D A X) : rx_OK (zV b e D A X) mX13_askMethod 169 129 vX13_askMethod_129 := by
  unfold vX13_askMethod_129
  refine s_iconst dX13_askMethod_129 (by decide +kernel) ?_
  exact s_goto dX13_askMethod_130 (by decide) (wX13_askMethod_156 hZ)
noncomputable def vX13_askMethod_124 : rx_K := o_ld rx_isI 6 (o_c1 rx_eq vX13_askMethod_129 vX13_askMethod_133)
set_option maxRecDepth 20000 in
theorem wX13_askMethod_124 (hZ : zO b e D A X) : rx_OK (zV b e D A X) mX13_askMethod 169 124 vX13_askMethod_124 := by
  unfold vX13_askMethod_124
  refine s_iload hZ.1 dX13_askMethod_124 ?_
  exact s_if_ne dX13_askMethod_126 (by decide) (wX13_askMethod_133 hZ) (wX13_askMethod_129 hZ)
noncomputable def vX13_askMethod_122 : rx_K := o_const 24 (o_ret1 rx_isI)
set_option maxRecDepth 20000 in
theorem wX13_askMethod_122 (hZ : zO b e D A X) : rx_OK (zV b e D A X) mX13_askMethod 169 122 vX13_askMethod_122 := by
  unfold vX13_askMethod_122
  refine s_iconst dX13_askMethod_122 (by decide +kernel) ?_
  exact s_iret hZ.1 rfl dX13_askMethod_123
noncomputable def vX13_askMethod_119 : rx_K := o_c2 rx_eq vX13_askMethod_124 vX13_askMethod_122
set_option maxRecDepth 20000 in
theorem wX13_askMethod_119 (hZ : zO b e D A X) : rx_OK (zV b e D A X) mX13_askMethod 169 119 vX13_askMethod_119 := by
  unfold vX13_askMethod_119
  exact s_icmp_eq dX13_askMethod_119 (by decide) (wX13_askMethod_124 hZ) (wX13_askMethod_122 hZ)
noncomputable def vX13_askMethod_118 : rx_K := o_const 0 (vX13_askMethod_119)
set_option maxRecDepth 20000 in
theorem wX13_askMethod_118 (hZ : zO b e D A X) : rx_OK (zV b e D A X) mX13_askMethod 169 118 vX13_askMethod_118 := by
  unfold vX13_askMethod_118
  refine s_iconst dX13_askMethod_118 (by decide +kernel) ?_
  exact (wX13_askMethod_119 hZ)
noncomputable def vX13_askMethod_114 : rx_K := o_const 8 (vX13_askMethod_119)
set_option maxRecDepth 20000 in
theorem wX13_askMethod_114 (hZ : zO b e D A X) : rx_OK (zV b e D A X) mX13_askMethod 169 114 vX13_askMethod_114 := by
  unfold vX13_askMethod_114
  refine s_iconst dX13_askMethod_114 (by decide +kernel) ?_
  exact s_goto dX13_askMethod_115 (by decide) (wX13_askMethod_119 hZ)
noncomputable def vX13_askMethod_108 : rx_K := o_ld rx_isI 1 (o_const 80 (o_c2 rx_eq vX13_askMethod_114 vX13_askMethod_118))
set_option maxRecDepth 20000 in
theorem wX13_askMethod_108 (hZ : zO b e D A X) : rx_OK (zV b e D A X) mX13_askMethod 169 108 vX13_askMethod_108 := by
  unfold vX13_askMethod_108
  refine s_iload_n hZ.1 dX13_askMethod_108 rfl ?_
  refine s_bipush dX13_askMethod_109 (by decide +kernel) ?_
  exact s_icmp_ne dX13_askMethod_111 (by decide) (wX13_askMethod_118 hZ) (wX13_askMethod_114 hZ)
noncomputable def vX13_askMethod_95 : rx_K := o_ld rx_isR 0 (o_getf 13 45 (o_ld rx_isI 5 (o_ald 3 (o_ld rx_isI 1 (o_const 72 (o_c2 rx_eq vX13_askMethod_114 vX13_askMethod_108))))))
set_option maxRecDepth 20000 in
theorem wX13_askMethod_95 (hZ : zO b e D A X) : rx_OK (zV b e D A X) mX13_askMethod 169 95 vX13_askMethod_95 := by
  unfold vX13_askMethod_95
  refine s_aload_n hZ.1 dX13_askMethod_95 rfl ?_
  refine yg13_45 dX13_askMethod_96 zw4166 ?_
  refine s_iload hZ.1 dX13_askMethod_99 ?_
  refine s_zald (tt := 3) rfl dX13_askMethod_101 ?_
  refine s_iload_n hZ.1 dX13_askMethod_102 rfl ?_
  refine s_bipush dX13_askMethod_103 (by decide +kernel) ?_
  exact s_icmp_eq dX13_askMethod_105 (by decide) (wX13_askMethod_114 hZ) (wX13_askMethod_108 hZ)
noncomputable def vX13_askMethod_93 : rx_K := o_const 16 (o_ret1 rx_isI)
set_option maxRecDepth 20000 in
theorem wX13_askMethod_93 (hZ : zO b e D A X) : rx_OK (zV b e D A X) mX13_askMethod 169 93 vX13_askMethod_93 := by
  unfold vX13_askMethod_93
  refine s_iconst dX13_askMethod_93 (by decide +kernel) ?_
  exact s_iret hZ.1 rfl dX13_askMethod_94
noncomputable def vX13_askMethod_82 : rx_K := o_ld rx_isR 0 (o_ld rx_isI 5 (o_ld rx_isI 2 (o_ld rx_isI 3 (o_callV 3 13 FX13_isLetMember (o_c1 rx_eq vX13_askMethod_93 vX13_askMethod_95)))))
set_option maxRecDepth 20000 in
theorem wX13_askMethod_82 (hZ : zO b e D A X) : rx_OK (zV b e D A X) mX13_askMethod 169 82 vX13_askMethod_82 := by
  unfold vX13_askMethod_82
  refine s_aload_n hZ.1 dX13_askMethod_82 rfl ?_
  refine s_iload hZ.1 dX13_askMethod_83 ?_
  refine s_iload_n hZ.1 dX13_askMethod_85 rfl ?_
  refine s_iload_n hZ.1 dX13_askMethod_86 rfl ?_
  refine s_callV hZ.1 (Met_X13_isLetMember hZ) (Nat.le_of_ble_eq_true rfl) vy_X13_isLetMember zcl13 zw3355 zw264 (Or.inl zw3353) dX13_askMethod_87 ?_
  exact s_if_ne dX13_askMethod_90 (by decide) (wX13_askMethod_95 hZ) (wX13_askMethod_93 hZ)
noncomputable def vX13_askMethod_80 : rx_K := o_const 40 (o_ret1 rx_isI)
set_option maxRecDepth 20000 in
theorem wX13_askMethod_80 (hZ : zO b e D A X) : rx_OK (zV b e D A X) mX13_askMethod 169 80 vX13_askMethod_80 := by
  unfold vX13_askMethod_80
  refine s_iconst dX13_askMethod_80 (by decide +kernel) ?_
  exact s_iret hZ.1 rfl dX13_askMethod_81
noncomputable def vX13_askMethod_70 : rx_K := o_putf rx_isI 13 140 (o_ld rx_isI 5 (o_const 34359738352 (o_c2 rx_eq vX13_askMethod_80 vX13_askMethod_82)))
set_option maxRecDepth 20000 in
theorem wX13_askMethod_70 (hZ : zO b e D A X) : rx_OK (zV b e D A X) mX13_askMethod 169 70 vX13_askMethod_70 := by
  unfold vX13_askMethod_70
  refine yp13_140 hZ.1 dX13_askMethod_70 zw4260 ?_
  refine s_iload hZ.1 dX13_askMethod_73 ?_
  refine s_bipush dX13_askMethod_75 (by decide +kernel) ?_
  exact s_icmp_ne dX13_askMethod_77 (by decide) (wX13_askMethod_82 hZ) (wX13_askMethod_80 hZ)
noncomputable def vX13_askMethod_68 : rx_K := o_ld rx_isI 5 (vX13_askMethod_70)
set_option maxRecDepth 20000 in
theorem wX13_askMethod_68 (hZ : zO b e D A X) : rx_OK (zV b e D A X) mX13_askMethod 169 68 vX13_askMethod_68 := by
  unfold vX13_askMethod_68
  refine s_iload hZ.1 dX13_askMethod_68 ?_
  exact (wX13_askMethod_70 hZ)
noncomputable def vX13_askMethod_63 : rx_K := o_const 34359738352 (vX13_askMethod_70)
set_option maxRecDepth 20000 in
theorem wX13_askMethod_63 (hZ : zO b e D A X) : rx_OK (zV b e D A X) mX13_askMethod 169 63 vX13_askMethod_63 := by
  unfold vX13_askMethod_63
  refine s_bipush dX13_askMethod_63 (by decide +kernel) ?_
  exact s_goto dX13_askMethod_65 (by decide) (wX13_askMethod_70 hZ)
noncomputable def vX13_askMethod_55 : rx_K := o_st rx_isI 6 (o_ld rx_isR 0 (o_ld rx_isI 6 (o_c1 rx_eq vX13_askMethod_68 vX13_askMethod_63)))
set_option maxRecDepth 20000 in
theorem wX13_askMethod_55 (hZ : zO b e D A X) : rx_OK (zV b e D A X) mX13_askMethod 169 55 vX13_askMethod_55 := by
  unfold vX13_askMethod_55
  refine s_istore hZ.1 dX13_askMethod_55 (Nat.le_of_ble_eq_true rfl) ?_
  refine s_aload_n hZ.1 dX13_askMethod_57 rfl ?_
  refine s_iload hZ.1 dX13_askMethod_58 ?_
  exact s_if_eq dX13_askMethod_60 (by decide) (wX13_askMethod_68 hZ) (wX13_askMethod_63 hZ)
noncomputable def vX13_askMethod_54 : rx_K := o_const 0 (vX13_askMethod_55)
set_option maxRecDepth 20000 in
theorem wX13_askMethod_54 (hZ : zO b e D A X) : rx_OK (zV b e D A X) mX13_askMethod 169 54 vX13_askMethod_54 := by
  unfold vX13_askMethod_54
  refine s_iconst dX13_askMethod_54 (by decide +kernel) ?_
  exact (wX13_askMethod_55 hZ)
noncomputable def vX13_askMethod_50 : rx_K := o_const 8 (vX13_askMethod_55)
set_option maxRecDepth 20000 in
theorem wX13_askMethod_50 (hZ : zO b e D A X) : rx_OK (zV b e D A X) mX13_askMethod 169 50 vX13_askMethod_50 := by
  unfold vX13_askMethod_50
  refine s_iconst dX13_askMethod_50 (by decide +kernel) ?_
  exact s_goto dX13_askMethod_51 (by decide) (wX13_askMethod_55 hZ)
noncomputable def vX13_askMethod_37 : rx_K := o_ld rx_isR 0 (o_ld rx_isI 2 (o_callV 1 13 FX13_methodOf (o_st rx_isI 5 (o_ld rx_isI 1 (o_const 88 (o_c2 rx_lt vX13_askMethod_54 vX13_askMethod_50))))))
set_option maxRecDepth 20000 in
theorem wX13_askMethod_37 (hZ : zO b e D A X) : rx_OK (zV b e D A X) mX13_askMethod 169 37 vX13_askMethod_37 := by
  unfold vX13_askMethod_37
  refine s_aload_n hZ.1 dX13_askMethod_37 rfl ?_
  refine s_iload_n hZ.1 dX13_askMethod_38 rfl ?_
  refine s_callV hZ.1 (Met_X13_methodOf hZ) (Nat.le_of_ble_eq_true rfl) vy_X13_methodOf zcl13 zw3756 zw345 (Or.inl zw3754) dX13_askMethod_39 ?_
  refine s_istore hZ.1 dX13_askMethod_42 (Nat.le_of_ble_eq_true rfl) ?_
  refine s_iload_n hZ.1 dX13_askMethod_44 rfl ?_
  refine s_bipush dX13_askMethod_45 (by decide +kernel) ?_
  exact s_icmp_lt dX13_askMethod_47 (by decide) (wX13_askMethod_54 hZ) (wX13_askMethod_50 hZ)
noncomputable def vX13_askMethod_35 : rx_K := o_const 24 (o_ret1 rx_isI)
set_option maxRecDepth 20000 in
theorem wX13_askMethod_35 (hZ : zO b e D A X) : rx_OK (zV b e D A X) mX13_askMethod 169 35 vX13_askMethod_35 := by
  unfold vX13_askMethod_35
  refine s_iconst dX13_askMethod_35 (by decide +kernel) ?_
  exact s_iret hZ.1 rfl dX13_askMethod_36
noncomputable def vX13_askMethod_23 : rx_K := o_st rx_isI 4 (o_ld rx_isR 0 (o_ld rx_isI 2 (o_callV 1 13 FX13_isFace (o_ld rx_isI 4 (o_c2 rx_eq vX13_askMethod_37 vX13_askMethod_35)))))
set_option maxRecDepth 20000 in
theorem wX13_askMethod_23 (hZ : zO b e D A X) : rx_OK (zV b e D A X) mX13_askMethod 169 23 vX13_askMethod_23 := by
  unfold vX13_askMethod_23
  refine s_istore hZ.1 dX13_askMethod_23 (Nat.le_of_ble_eq_true rfl) ?_
  refine s_aload_n hZ.1 dX13_askMethod_25 rfl ?_
  refine s_iload_n hZ.1 dX13_askMethod_26 rfl ?_
  refine s_callV hZ.1 (Met_X13_isFace hZ) (Nat.le_of_ble_eq_true rfl) vy_X13_isFace zcl13 zw3192 zw227 (Or.inl zw3190) dX13_askMethod_27 ?_
  refine s_iload hZ.1 dX13_askMethod_30 ?_
  exact s_icmp_eq dX13_askMethod_32 (by decide) (wX13_askMethod_37 hZ) (wX13_askMethod_35 hZ)
noncomputable def vX13_askMethod_22 : rx_K := o_const 0 (vX13_askMethod_23)
set_option maxRecDepth 20000 in
theorem wX13_askMethod_22 (hZ : zO b e D A X) : rx_OK (zV b e D A X) mX13_askMethod 169 22 vX13_askMethod_22 := by
  unfold vX13_askMethod_22
  refine s_iconst dX13_askMethod_22 (by decide +kernel) ?_
  exact (wX13_askMethod_23 hZ)
noncomputable def vX13_askMethod_18 : rx_K := o_const 8 (vX13_askMethod_23)
set_option maxRecDepth 20000 in
theorem wX13_askMethod_18 (hZ : zO b e D A X) : rx_OK (zV b e D A X) mX13_askMethod 169 18 vX13_askMethod_18 := by
  unfold vX13_askMethod_18
  refine s_iconst dX13_askMethod_18 (by decide +kernel) ?_
  exact s_goto dX13_askMethod_19 (by decide) (wX13_askMethod_23 hZ)
noncomputable def vX13_askMethod_12 : rx_K := o_ld rx_isI 1 (o_const 96 (o_c2 rx_eq vX13_askMethod_18 vX13_askMethod_22))
set_option maxRecDepth 20000 in
theorem wX13_askMethod_12 (hZ : zO b e D A X) : rx_OK (zV b e D A X) mX13_askMethod 169 12 vX13_askMethod_12 := by
  unfold vX13_askMethod_12
  refine s_iload_n hZ.1 dX13_askMethod_12 rfl ?_
  refine s_bipush dX13_askMethod_13 (by decide +kernel) ?_
  exact s_icmp_ne dX13_askMethod_15 (by decide) (wX13_askMethod_22 hZ) (wX13_askMethod_18 hZ)
noncomputable def vX13_askMethod_6 : rx_K := o_ld rx_isI 1 (o_const 80 (o_c2 rx_eq vX13_askMethod_18 vX13_askMethod_12))
set_option maxRecDepth 20000 in
theorem wX13_askMethod_6 (hZ : zO b e D A X) : rx_OK (zV b e D A X) mX13_askMethod 169 6 vX13_askMethod_6 := by
  unfold vX13_askMethod_6
  refine s_iload_n hZ.1 dX13_askMethod_6 rfl ?_
  refine s_bipush dX13_askMethod_7 (by decide +kernel) ?_
  exact s_icmp_eq dX13_askMethod_9 (by decide) (wX13_askMethod_18 hZ) (wX13_askMethod_12 hZ)
noncomputable def vX13_askMethod_0 : rx_K := o_ld rx_isI 1 (o_const 64 (o_c2 rx_eq vX13_askMethod_18 vX13_askMethod_6))
set_option maxRecDepth 20000 in
theorem wX13_askMethod_0 (hZ : zO b e D A X) : rx_OK (zV b e D A X) mX13_askMethod 169 0 vX13_askMethod_0 := by
  unfold vX13_askMethod_0
  refine s_iload_n hZ.1 dX13_askMethod_0 rfl ?_
  refine s_bipush dX13_askMethod_1 (by decide +kernel) ?_
  exact s_icmp_eq dX13_askMethod_3 (by decide) (wX13_askMethod_18 hZ) (wX13_askMethod_6 hZ)
noncomputable def FX13_askMethod : List Nat → rx_H → Option (Nat × rx_H) := rx_ent 7 vX13_askMethod_0
theorem Met_X13_askMethod (hZ : zO b e D A X) : rx_Met (zV b e D A X) 169 yX13_askMethod mX13_askMethod (FX13_askMethod) := rx_entry hZ.1 (wX13_askMethod_0 hZ) (by decide +kernel) rfl (fun h => by cases h)
abbrev mX13_askClass : rx_M := (RX13, cX13_askClass, 8, (some .int), false)
theorem vy_X13_askClass : rx_Y (zV b e D A X) yX13_askClass mX13_askClass 2 := ⟨zw3737, zw431, by decide, by decide +kernel, by decide +kernel, by decide +kernel⟩
noncomputable def vX13_askClass_269 (j : Nat → rx_K) : rx_K := o_ret1 rx_isI
set_option maxRecDepth 20000 in
theorem wX13_askClass_269 (hZ : zO b e D A X) (j : Nat → rx_K) (hj : ∀ k pc, [187][k]? = some pc → rx_OK (zV b e D A X) mX13_askClass 170 pc (j k)) : rx_OK (zV b e D A X) mX13_askClass 170 269 (vX13_askClass_269 j) := by
  unfold vX13_askClass_269
  exact s_iret hZ.1 rfl dX13_askClass_269
noncomputable def vX13_askClass_260 (j : Nat → rx_K) : rx_K := o_ld rx_isR 0 (o_ld rx_isI 6 (o_ld rx_isI 4 (o_ld rx_isI 3 (o_callV 3 13 FX13_askMethod ((vX13_askClass_269 j))))))
set_option maxRecDepth 20000 in
theorem wX13_askClass_260 (hZ : zO b e D A X) (j : Nat → rx_K) (hj : ∀ k pc, [187][k]? = some pc → rx_OK (zV b e D A X) mX13_askClass 170 pc (j k)) : rx_OK (zV b e D A X) mX13_askClass 170 260 (vX13_askClass_260 j) := by
  unfold vX13_askClass_260
  refine s_aload_n hZ.1 dX13_askClass_260 rfl ?_
  refine s_iload hZ.1 dX13_askClass_261 ?_
  refine s_iload hZ.1 dX13_askClass_263 ?_
  refine s_iload_n hZ.1 dX13_askClass_265 rfl ?_
  refine s_callV hZ.1 (Met_X13_askMethod hZ) (Nat.le_of_ble_eq_true rfl) vy_X13_askMethod zcl13 zw3752 zw344 (Or.inl zw3750) dX13_askClass_266 ?_
  exact (wX13_askClass_269 hZ j hj)
noncomputable def vX13_askClass_249 (j : Nat → rx_K) : rx_K := o_ld rx_isR 0 (o_ld rx_isI 1 (o_ld rx_isI 4 (o_ld rx_isI 3 (o_callV 3 13 FX13_askField ((vX13_askClass_269 j))))))
set_option maxRecDepth 20000 in
theorem wX13_askClass_249 (hZ : zO b e D A X) (j : Nat → rx_K) (hj : ∀ k pc, [187][k]? = some pc → rx_OK (zV b e D A X) mX13_askClass 170 pc (j k)) : rx_OK (zV b e D A X) mX13_askClass 170 249 (vX13_askClass_249 j) := by
  unfold vX13_askClass_249
  refine s_aload_n hZ.1 dX13_askClass_249 rfl ?_
  refine s_iload_n hZ.1 dX13_askClass_250 rfl ?_
  refine s_iload hZ.1 dX13_askClass_251 ?_
  refine s_iload_n hZ.1 dX13_askClass_253 rfl ?_
  refine s_callV hZ.1 (Met_X13_askField hZ) (Nat.le_of_ble_eq_true rfl) vy_X13_askField zcl13 zw3748 zw343 (Or.inl zw3746) dX13_askClass_254 ?_
  exact s_goto dX13_askClass_257 (by decide) (wX13_askClass_269 hZ j hj)
noncomputable def vX13_askClass_242 (j : Nat → rx_K) : rx_K := o_ld rx_isI 6 (o_const 48 (o_c2 (fun h x y => rx_lt h y x) (vX13_askClass_260 j) (vX13_askClass_249 j)))
set_option maxRecDepth 20000 in
theorem wX13_askClass_242 (hZ : zO b e D A X) (j : Nat → rx_K) (hj : ∀ k pc, [187][k]? = some pc → rx_OK (zV b e D A X) mX13_askClass 170 pc (j k)) : rx_OK (zV b e D A X) mX13_askClass 170 242 (vX13_askClass_242 j) := by
  unfold vX13_askClass_242
  refine s_iload hZ.1 dX13_askClass_242 ?_
  refine s_bipush dX13_askClass_244 (by decide +kernel) ?_
  exact s_icmp_gt dX13_askClass_246 (by decide) (wX13_askClass_260 hZ j hj) (wX13_askClass_249 hZ j hj)
noncomputable def vX13_askClass_232 (j : Nat → rx_K) : rx_K := o_ld rx_isR 0 (o_ld rx_isI 4 (o_ld rx_isI 3 (o_callV 2 13 FX13_askMaker ((vX13_askClass_269 j)))))
set_option maxRecDepth 20000 in
theorem wX13_askClass_232 (hZ : zO b e D A X) (j : Nat → rx_K) (hj : ∀ k pc, [187][k]? = some pc → rx_OK (zV b e D A X) mX13_askClass 170 pc (j k)) : rx_OK (zV b e D A X) mX13_askClass 170 232 (vX13_askClass_232 j) := by
  unfold vX13_askClass_232
  refine s_aload_n hZ.1 dX13_askClass_232 rfl ?_
  refine s_iload hZ.1 dX13_askClass_233 ?_
  refine s_iload_n hZ.1 dX13_askClass_235 rfl ?_
  refine s_callV hZ.1 (Met_X13_askMaker hZ) (Nat.le_of_ble_eq_true rfl) vy_X13_askMaker zcl13 zw3740 zw341 (Or.inl zw3738) dX13_askClass_236 ?_
  exact s_goto dX13_askClass_239 (by decide) (wX13_askClass_269 hZ j hj)
noncomputable def vX13_askClass_226 (j : Nat → rx_K) : rx_K := o_ld rx_isI 6 (o_const 16 (o_c2 rx_eq (vX13_askClass_232 j) (vX13_askClass_242 j)))
set_option maxRecDepth 20000 in
theorem wX13_askClass_226 (hZ : zO b e D A X) (j : Nat → rx_K) (hj : ∀ k pc, [187][k]? = some pc → rx_OK (zV b e D A X) mX13_askClass 170 pc (j k)) : rx_OK (zV b e D A X) mX13_askClass 170 226 (vX13_askClass_226 j) := by
  unfold vX13_askClass_226
  refine s_iload hZ.1 dX13_askClass_226 ?_
  refine s_iconst dX13_askClass_228 (by decide +kernel) ?_
  exact s_icmp_ne dX13_askClass_229 (by decide) (wX13_askClass_242 hZ j hj) (wX13_askClass_232 hZ j hj)
noncomputable def vX13_askClass_198 (j : Nat → rx_K) : rx_K := o_ld rx_isR 0 (o_getf 13 56 (o_const 234976 (o_ld rx_isI 7 (o_bi (fun x y => x + y) (o_ld rx_isR 0 (o_getf 13 125 (o_const 32 (o_ld rx_isI 1 (o_bi (fun x y => x * y) (o_ld rx_isI 7 (o_bi (fun x y => x + y) (o_ald 1 (o_ast 1 (fun v => v) rx_isL (o_inc 7 (1) ((j 0))))))))))))))))
set_option maxRecDepth 20000 in
theorem wX13_askClass_198 (hZ : zO b e D A X) (j : Nat → rx_K) (hj : ∀ k pc, [187][k]? = some pc → rx_OK (zV b e D A X) mX13_askClass 170 pc (j k)) : rx_OK (zV b e D A X) mX13_askClass 170 198 (vX13_askClass_198 j) := by
  unfold vX13_askClass_198
  refine s_aload_n hZ.1 dX13_askClass_198 rfl ?_
  refine yg13_56 dX13_askClass_199 zw4177 ?_
  refine s_sipush dX13_askClass_202 (by decide +kernel) ?_
  refine s_iload hZ.1 dX13_askClass_205 ?_
  refine s_iadd dX13_askClass_207 ?_
  refine s_aload_n hZ.1 dX13_askClass_208 rfl ?_
  refine yg13_125 dX13_askClass_209 zw4245 ?_
  refine s_iconst dX13_askClass_212 (by decide +kernel) ?_
  refine s_iload_n hZ.1 dX13_askClass_213 rfl ?_
  refine s_imul dX13_askClass_214 ?_
  refine s_iload hZ.1 dX13_askClass_215 ?_
  refine s_iadd dX13_askClass_217 ?_
  refine s_lald (tt := 1) rfl dX13_askClass_218 ?_
  refine s_last (tt := 1) rfl dX13_askClass_219 ?_
  refine s_iinc hZ.1 dX13_askClass_220 (Nat.le_of_ble_eq_true rfl) ?_
  exact s_goto dX13_askClass_223 (by decide) (hj 0 187 rfl)
noncomputable def vX13_askClass_187 (j : Nat → rx_K) : rx_K := o_ld rx_isI 7 (o_ld rx_isR 0 (o_getf 13 124 (o_ld rx_isI 1 (o_ald 0 (o_c2 rx_lt (vX13_askClass_198 j) (vX13_askClass_226 j))))))
set_option maxRecDepth 20000 in
theorem wX13_askClass_187 (hZ : zO b e D A X) (j : Nat → rx_K) (hj : ∀ k pc, [187][k]? = some pc → rx_OK (zV b e D A X) mX13_askClass 170 pc (j k)) : rx_OK (zV b e D A X) mX13_askClass 170 187 (vX13_askClass_187 j) := by
  unfold vX13_askClass_187
  refine s_iload hZ.1 dX13_askClass_187 ?_
  refine s_aload_n hZ.1 dX13_askClass_189 rfl ?_
  refine yg13_124 dX13_askClass_190 zw4244 ?_
  refine s_iload_n hZ.1 dX13_askClass_193 rfl ?_
  refine s_iald (tt := 0) rfl dX13_askClass_194 ?_
  exact s_icmp_ge dX13_askClass_195 (by decide) (wX13_askClass_226 hZ j hj) (wX13_askClass_198 hZ j hj)
noncomputable def vX13_askClass_184 (j : Nat → rx_K) : rx_K := o_const 0 (o_st rx_isI 7 ((vX13_askClass_187 j)))
set_option maxRecDepth 20000 in
theorem wX13_askClass_184 (hZ : zO b e D A X) (j : Nat → rx_K) (hj : ∀ k pc, [187][k]? = some pc → rx_OK (zV b e D A X) mX13_askClass 170 pc (j k)) : rx_OK (zV b e D A X) mX13_askClass 170 184 (vX13_askClass_184 j) := by
  unfold vX13_askClass_184
  refine s_iconst dX13_askClass_184 (by decide +kernel) ?_
  refine s_istore hZ.1 dX13_askClass_185 (Nat.le_of_ble_eq_true rfl) ?_
  exact (wX13_askClass_187 hZ j hj)
noncomputable def vX13_askClass_142 (j : Nat → rx_K) : rx_K := o_ld rx_isR 0 (o_getf 13 51 (o_const 58744 (o_ld rx_isR 0 (o_getf 13 122 (o_ld rx_isI 1 (o_ald 1 (o_ast 1 (fun v => v) rx_isL (o_ld rx_isR 0 (o_getf 13 53 (o_const 58744 (o_ld rx_isR 0 (o_getf 13 123 (o_ld rx_isI 1 (o_ald 1 (o_ast 1 (fun v => v) rx_isL (o_ld rx_isR 0 (o_getf 13 55 (o_const 58744 (o_ld rx_isR 0 (o_getf 13 124 (o_ld rx_isI 1 (o_ald 0 (o_ast 0 (fun v => v) rx_isI ((vX13_askClass_184 j)))))))))))))))))))))))))
set_option maxRecDepth 20000 in
theorem wX13_askClass_142 (hZ : zO b e D A X) (j : Nat → rx_K) (hj : ∀ k pc, [187][k]? = some pc → rx_OK (zV b e D A X) mX13_askClass 170 pc (j k)) : rx_OK (zV b e D A X) mX13_askClass 170 142 (vX13_askClass_142 j) := by
  unfold vX13_askClass_142
  refine s_aload_n hZ.1 dX13_askClass_142 rfl ?_
  refine yg13_51 dX13_askClass_143 zw4172 ?_
  refine s_sipush dX13_askClass_146 (by decide +kernel) ?_
  refine s_aload_n hZ.1 dX13_askClass_149 rfl ?_
  refine yg13_122 dX13_askClass_150 zw4242 ?_
  refine s_iload_n hZ.1 dX13_askClass_153 rfl ?_
  refine s_lald (tt := 1) rfl dX13_askClass_154 ?_
  refine s_last (tt := 1) rfl dX13_askClass_155 ?_
  refine s_aload_n hZ.1 dX13_askClass_156 rfl ?_
  refine yg13_53 dX13_askClass_157 zw4174 ?_
  refine s_sipush dX13_askClass_160 (by decide +kernel) ?_
  refine s_aload_n hZ.1 dX13_askClass_163 rfl ?_
  refine yg13_123 dX13_askClass_164 zw4243 ?_
  refine s_iload_n hZ.1 dX13_askClass_167 rfl ?_
  refine s_lald (tt := 1) rfl dX13_askClass_168 ?_
  refine s_last (tt := 1) rfl dX13_askClass_169 ?_
  refine s_aload_n hZ.1 dX13_askClass_170 rfl ?_
  refine yg13_55 dX13_askClass_171 zw4176 ?_
  refine s_sipush dX13_askClass_174 (by decide +kernel) ?_
  refine s_aload_n hZ.1 dX13_askClass_177 rfl ?_
  refine yg13_124 dX13_askClass_178 zw4244 ?_
  refine s_iload_n hZ.1 dX13_askClass_181 rfl ?_
  refine s_iald (tt := 0) rfl dX13_askClass_182 ?_
  refine s_iast hZ.1 (tt := 0) rfl dX13_askClass_183 ?_
  exact (wX13_askClass_184 hZ j hj)
noncomputable def vX13_askClass_140 (j : Nat → rx_K) : rx_K := o_const 0 (o_ret1 rx_isI)
set_option maxRecDepth 20000 in
theorem wX13_askClass_140 (hZ : zO b e D A X) (j : Nat → rx_K) (hj : ∀ k pc, [187][k]? = some pc → rx_OK (zV b e D A X) mX13_askClass 170 pc (j k)) : rx_OK (zV b e D A X) mX13_askClass 170 140 (vX13_askClass_140 j) := by
  unfold vX13_askClass_140
  refine s_iconst dX13_askClass_140 (by decide +kernel) ?_
  exact s_iret hZ.1 rfl dX13_askClass_141
noncomputable def vX13_askClass_133 (j : Nat → rx_K) : rx_K := o_ld rx_isI 6 (o_const 104 (o_c2 rx_lt (vX13_askClass_142 j) (vX13_askClass_140 j)))
set_option maxRecDepth 20000 in
theorem wX13_askClass_133 (hZ : zO b e D A X) (j : Nat → rx_K) (hj : ∀ k pc, [187][k]? = some pc → rx_OK (zV b e D A X) mX13_askClass 170 pc (j k)) : rx_OK (zV b e D A X) mX13_askClass 170 133 (vX13_askClass_133 j) := by
  unfold vX13_askClass_133
  refine s_iload hZ.1 dX13_askClass_133 ?_
  refine s_bipush dX13_askClass_135 (by decide +kernel) ?_
  exact s_icmp_lt dX13_askClass_137 (by decide) (wX13_askClass_142 hZ j hj) (wX13_askClass_140 hZ j hj)
noncomputable def vX13_askClass_132 (j : Nat → rx_K) : rx_K := o_ret1 rx_isI
set_option maxRecDepth 20000 in
theorem wX13_askClass_132 (hZ : zO b e D A X) (j : Nat → rx_K) (hj : ∀ k pc, [187][k]? = some pc → rx_OK (zV b e D A X) mX13_askClass 170 pc (j k)) : rx_OK (zV b e D A X) mX13_askClass 170 132 (vX13_askClass_132 j) := by
  unfold vX13_askClass_132
  exact s_iret hZ.1 rfl dX13_askClass_132
noncomputable def vX13_askClass_131 (j : Nat → rx_K) : rx_K := o_const 0 ((vX13_askClass_132 j))
set_option maxRecDepth 20000 in
theorem wX13_askClass_131 (hZ : zO b e D A X) (j : Nat → rx_K) (hj : ∀ k pc, [187][k]? = some pc → rx_OK (zV b e D A X) mX13_askClass 170 pc (j k)) : rx_OK (zV b e D A X) mX13_askClass 170 131 (vX13_askClass_131 j) := by
  unfold vX13_askClass_131
  refine s_iconst dX13_askClass_131 (by decide +kernel) ?_
  exact (wX13_askClass_132 hZ j hj)
noncomputable def vX13_askClass_126 (j : Nat → rx_K) : rx_K := o_const 56 ((vX13_askClass_132 j))
set_option maxRecDepth 20000 in
theorem wX13_askClass_126 (hZ : zO b e D A X) (j : Nat → rx_K) (hj : ∀ k pc, [187][k]? = some pc → rx_OK (zV b e D A X) mX13_askClass 170 pc (j k)) : rx_OK (zV b e D A X) mX13_askClass 170 126 (vX13_askClass_126 j) := by
  unfold vX13_askClass_126
  refine s_bipush dX13_askClass_126 (by decide +kernel) ?_
  exact s_goto dX13_askClass_128 (by decide) (wX13_askClass_132 hZ j hj)
noncomputable def vX13_askClass_115 (j : Nat → rx_K) : rx_K := o_ld rx_isR 0 (o_getf 13 27 (o_ld rx_isI 4 (o_ald 0 (o_const 16 (o_c2 rx_eq (vX13_askClass_126 j) (vX13_askClass_131 j))))))
set_option maxRecDepth 20000 in
theorem wX13_askClass_115 (hZ : zO b e D A X) (j : Nat → rx_K) (hj : ∀ k pc, [187][k]? = some pc → rx_OK (zV b e D A X) mX13_askClass 170 pc (j k)) : rx_OK (zV b e D A X) mX13_askClass 170 115 (vX13_askClass_115 j) := by
  unfold vX13_askClass_115
  refine s_aload_n hZ.1 dX13_askClass_115 rfl ?_
  refine yg13_27 dX13_askClass_116 zw4148 ?_
  refine s_iload hZ.1 dX13_askClass_119 ?_
  refine s_iald (tt := 0) rfl dX13_askClass_121 ?_
  refine s_iconst dX13_askClass_122 (by decide +kernel) ?_
  exact s_icmp_ne dX13_askClass_123 (by decide) (wX13_askClass_131 hZ j hj) (wX13_askClass_126 hZ j hj)
noncomputable def vX13_askClass_106 (j : Nat → rx_K) : rx_K := o_ld rx_isR 0 (o_ld rx_isI 4 (o_callV 1 13 FX13_isFace (o_c1 rx_eq (vX13_askClass_115 j) (vX13_askClass_126 j))))
set_option maxRecDepth 20000 in
theorem wX13_askClass_106 (hZ : zO b e D A X) (j : Nat → rx_K) (hj : ∀ k pc, [187][k]? = some pc → rx_OK (zV b e D A X) mX13_askClass 170 pc (j k)) : rx_OK (zV b e D A X) mX13_askClass 170 106 (vX13_askClass_106 j) := by
  unfold vX13_askClass_106
  refine s_aload_n hZ.1 dX13_askClass_106 rfl ?_
  refine s_iload hZ.1 dX13_askClass_107 ?_
  refine s_callV hZ.1 (Met_X13_isFace hZ) (Nat.le_of_ble_eq_true rfl) vy_X13_isFace zcl13 zw3192 zw227 (Or.inl zw3190) dX13_askClass_109 ?_
  exact s_if_ne dX13_askClass_112 (by decide) (wX13_askClass_126 hZ j hj) (wX13_askClass_115 hZ j hj)
noncomputable def vX13_askClass_100 (j : Nat → rx_K) : rx_K := o_ld rx_isI 6 (o_const 8 (o_c2 rx_eq (vX13_askClass_106 j) (vX13_askClass_133 j)))
set_option maxRecDepth 20000 in
theorem wX13_askClass_100 (hZ : zO b e D A X) (j : Nat → rx_K) (hj : ∀ k pc, [187][k]? = some pc → rx_OK (zV b e D A X) mX13_askClass 170 pc (j k)) : rx_OK (zV b e D A X) mX13_askClass 170 100 (vX13_askClass_100 j) := by
  unfold vX13_askClass_100
  refine s_iload hZ.1 dX13_askClass_100 ?_
  refine s_iconst dX13_askClass_102 (by decide +kernel) ?_
  exact s_icmp_ne dX13_askClass_103 (by decide) (wX13_askClass_133 hZ j hj) (wX13_askClass_106 hZ j hj)
noncomputable def vX13_askClass_98 (j : Nat → rx_K) : rx_K := o_const 16 (o_ret1 rx_isI)
set_option maxRecDepth 20000 in
theorem wX13_askClass_98 (hZ : zO b e D A X) (j : Nat → rx_K) (hj : ∀ k pc, [187][k]? = some pc → rx_OK (zV b e D A X) mX13_askClass 170 pc (j k)) : rx_OK (zV b e D A X) mX13_askClass 170 98 (vX13_askClass_98 j) := by
  unfold vX13_askClass_98
  refine s_iconst dX13_askClass_98 (by decide +kernel) ?_
  exact s_iret hZ.1 rfl dX13_askClass_99
noncomputable def vX13_askClass_88 (j : Nat → rx_K) : rx_K := o_ld rx_isR 0 (o_ld rx_isI 4 (o_ld rx_isI 3 (o_callV 2 13 FX13_isLet (o_c1 rx_eq (vX13_askClass_98 j) (vX13_askClass_100 j)))))
set_option maxRecDepth 20000 in
theorem wX13_askClass_88 (hZ : zO b e D A X) (j : Nat → rx_K) (hj : ∀ k pc, [187][k]? = some pc → rx_OK (zV b e D A X) mX13_askClass 170 pc (j k)) : rx_OK (zV b e D A X) mX13_askClass 170 88 (vX13_askClass_88 j) := by
  unfold vX13_askClass_88
  refine s_aload_n hZ.1 dX13_askClass_88 rfl ?_
  refine s_iload hZ.1 dX13_askClass_89 ?_
  refine s_iload_n hZ.1 dX13_askClass_91 rfl ?_
  refine s_callV hZ.1 (Met_X13_isLet hZ) (Nat.le_of_ble_eq_true rfl) vy_X13_isLet zcl13 zw3200 zw229 (Or.inl zw3198) dX13_askClass_92 ?_
  exact s_if_ne dX13_askClass_95 (by decide) (wX13_askClass_100 hZ j hj) (wX13_askClass_98 hZ j hj)
noncomputable def vX13_askClass_84 (j : Nat → rx_K) : rx_K := o_ld rx_isI 2 (o_c1 rx_eq (vX13_askClass_88 j) (vX13_askClass_100 j))
set_option maxRecDepth 20000 in
theorem wX13_askClass_84 (hZ : zO b e D A X) (j : Nat → rx_K) (hj : ∀ k pc, [187][k]? = some pc → rx_OK (zV b e D A X) mX13_askClass 170 pc (j k)) : rx_OK (zV b e D A X) mX13_askClass 170 84 (vX13_askClass_84 j) := by
  unfold vX13_askClass_84
  refine s_iload_n hZ.1 dX13_askClass_84 rfl ?_
  exact s_if_ne dX13_askClass_85 (by decide) (wX13_askClass_100 hZ j hj) (wX13_askClass_88 hZ j hj)
noncomputable def vX13_askClass_81 (j : Nat → rx_K) : rx_K := o_const 88 (o_ret1 rx_isI)
set_option maxRecDepth 20000 in
theorem wX13_askClass_81 (hZ : zO b e D A X) (j : Nat → rx_K) (hj : ∀ k pc, [187][k]? = some pc → rx_OK (zV b e D A X) mX13_askClass 170 pc (j k)) : rx_OK (zV b e D A X) mX13_askClass 170 81 (vX13_askClass_81 j) := by
  unfold vX13_askClass_81
  refine s_bipush dX13_askClass_81 (by decide +kernel) ?_
  exact s_iret hZ.1 rfl dX13_askClass_83
noncomputable def vX13_askClass_69 (j : Nat → rx_K) : rx_K := o_ld rx_isR 0 (o_ld rx_isI 4 (o_const 1640 (o_callV 2 13 FX13_isHeir (o_c1 rx_eq (vX13_askClass_81 j) (vX13_askClass_84 j)))))
set_option maxRecDepth 20000 in
theorem wX13_askClass_69 (hZ : zO b e D A X) (j : Nat → rx_K) (hj : ∀ k pc, [187][k]? = some pc → rx_OK (zV b e D A X) mX13_askClass 170 pc (j k)) : rx_OK (zV b e D A X) mX13_askClass 170 69 (vX13_askClass_69 j) := by
  unfold vX13_askClass_69
  refine s_aload_n hZ.1 dX13_askClass_69 rfl ?_
  refine s_iload hZ.1 dX13_askClass_70 ?_
  refine s_sipush dX13_askClass_72 (by decide +kernel) ?_
  refine s_callV hZ.1 (Met_X13_isHeir hZ) (Nat.le_of_ble_eq_true rfl) vy_X13_isHeir zcl13 zw3211 zw231 (Or.inl zw3209) dX13_askClass_75 ?_
  exact s_if_ne dX13_askClass_78 (by decide) (wX13_askClass_84 hZ j hj) (wX13_askClass_81 hZ j hj)
noncomputable def vX13_askClass_61 (j : Nat → rx_K) : rx_K := o_ld rx_isI 4 (o_const 1640 (o_c2 rx_eq (vX13_askClass_84 j) (vX13_askClass_69 j)))
set_option maxRecDepth 20000 in
theorem wX13_askClass_61 (hZ : zO b e D A X) (j : Nat → rx_K) (hj : ∀ k pc, [187][k]? = some pc → rx_OK (zV b e D A X) mX13_askClass 170 pc (j k)) : rx_OK (zV b e D A X) mX13_askClass 170 61 (vX13_askClass_61 j) := by
  unfold vX13_askClass_61
  refine s_iload hZ.1 dX13_askClass_61 ?_
  refine s_sipush dX13_askClass_63 (by decide +kernel) ?_
  exact s_icmp_eq dX13_askClass_66 (by decide) (wX13_askClass_84 hZ j hj) (wX13_askClass_69 hZ j hj)
noncomputable def vX13_askClass_46 (j : Nat → rx_K) : rx_K := o_ld rx_isR 0 (o_getf 13 119 (o_ld rx_isI 1 (o_ald 0 (o_st rx_isI 6 (o_ld rx_isI 6 (o_const 120 (o_c2 rx_eq (vX13_askClass_61 j) (vX13_askClass_84 j))))))))
set_option maxRecDepth 20000 in
theorem wX13_askClass_46 (hZ : zO b e D A X) (j : Nat → rx_K) (hj : ∀ k pc, [187][k]? = some pc → rx_OK (zV b e D A X) mX13_askClass 170 pc (j k)) : rx_OK (zV b e D A X) mX13_askClass 170 46 (vX13_askClass_46 j) := by
  unfold vX13_askClass_46
  refine s_aload_n hZ.1 dX13_askClass_46 rfl ?_
  refine yg13_119 dX13_askClass_47 zw4239 ?_
  refine s_iload_n hZ.1 dX13_askClass_50 rfl ?_
  refine s_iald (tt := 0) rfl dX13_askClass_51 ?_
  refine s_istore hZ.1 dX13_askClass_52 (Nat.le_of_ble_eq_true rfl) ?_
  refine s_iload hZ.1 dX13_askClass_54 ?_
  refine s_bipush dX13_askClass_56 (by decide +kernel) ?_
  exact s_icmp_ne dX13_askClass_58 (by decide) (wX13_askClass_84 hZ j hj) (wX13_askClass_61 hZ j hj)
noncomputable def vX13_askClass_43 (j : Nat → rx_K) : rx_K := o_ld rx_isI 5 (o_ret1 rx_isI)
set_option maxRecDepth 20000 in
theorem wX13_askClass_43 (hZ : zO b e D A X) (j : Nat → rx_K) (hj : ∀ k pc, [187][k]? = some pc → rx_OK (zV b e D A X) mX13_askClass 170 pc (j k)) : rx_OK (zV b e D A X) mX13_askClass 170 43 (vX13_askClass_43 j) := by
  unfold vX13_askClass_43
  refine s_iload hZ.1 dX13_askClass_43 ?_
  exact s_iret hZ.1 rfl dX13_askClass_45
noncomputable def vX13_askClass_36 (j : Nat → rx_K) : rx_K := o_st rx_isI 5 (o_ld rx_isI 5 (o_c1 rx_eq (vX13_askClass_46 j) (vX13_askClass_43 j)))
set_option maxRecDepth 20000 in
theorem wX13_askClass_36 (hZ : zO b e D A X) (j : Nat → rx_K) (hj : ∀ k pc, [187][k]? = some pc → rx_OK (zV b e D A X) mX13_askClass 170 pc (j k)) : rx_OK (zV b e D A X) mX13_askClass 170 36 (vX13_askClass_36 j) := by
  unfold vX13_askClass_36
  refine s_istore hZ.1 dX13_askClass_36 (Nat.le_of_ble_eq_true rfl) ?_
  refine s_iload hZ.1 dX13_askClass_38 ?_
  exact s_if_eq dX13_askClass_40 (by decide) (wX13_askClass_46 hZ j hj) (wX13_askClass_43 hZ j hj)
noncomputable def vX13_askClass_30 (j : Nat → rx_K) : rx_K := o_ld rx_isR 0 (o_ld rx_isI 4 (o_callV 1 13 (q10 160 0) ((vX13_askClass_36 j))))
set_option maxRecDepth 20000 in
theorem wX13_askClass_30 (hZ : zO b e D A X) (j : Nat → rx_K) (hj : ∀ k pc, [187][k]? = some pc → rx_OK (zV b e D A X) mX13_askClass 170 pc (j k)) : rx_OK (zV b e D A X) mX13_askClass 170 30 (vX13_askClass_30 j) := by
  unfold vX13_askClass_30
  refine s_aload_n hZ.1 dX13_askClass_30 rfl ?_
  refine s_iload hZ.1 dX13_askClass_31 ?_
  refine s_callV hZ.1 (q10_ok hZ 160 0 _ _ rfl) (Nat.le_of_ble_eq_true rfl) vy_X13_load zcl13 zw3367 zw267 (Or.inl zw3365) dX13_askClass_33 ?_
  exact (wX13_askClass_36 hZ j hj)
noncomputable def vX13_askClass_26 (j : Nat → rx_K) : rx_K := o_const 8 ((vX13_askClass_36 j))
set_option maxRecDepth 20000 in
theorem wX13_askClass_26 (hZ : zO b e D A X) (j : Nat → rx_K) (hj : ∀ k pc, [187][k]? = some pc → rx_OK (zV b e D A X) mX13_askClass 170 pc (j k)) : rx_OK (zV b e D A X) mX13_askClass 170 26 (vX13_askClass_26 j) := by
  unfold vX13_askClass_26
  refine s_iconst dX13_askClass_26 (by decide +kernel) ?_
  exact s_goto dX13_askClass_27 (by decide) (wX13_askClass_36 hZ j hj)
noncomputable def vX13_askClass_0 (j : Nat → rx_K) : rx_K := o_ld rx_isR 0 (o_getf 13 120 (o_ld rx_isI 1 (o_ald 0 (o_st rx_isI 3 (o_ld rx_isR 0 (o_ld rx_isR 0 (o_getf 13 121 (o_ld rx_isI 1 (o_ald 1 (o_callV 1 13 FX13_find (o_st rx_isI 4 (o_ld rx_isI 4 (o_const 34359738352 (o_c2 rx_eq (vX13_askClass_26 j) (vX13_askClass_30 j)))))))))))))))
set_option maxRecDepth 20000 in
theorem wX13_askClass_0 (hZ : zO b e D A X) (j : Nat → rx_K) (hj : ∀ k pc, [187][k]? = some pc → rx_OK (zV b e D A X) mX13_askClass 170 pc (j k)) : rx_OK (zV b e D A X) mX13_askClass 170 0 (vX13_askClass_0 j) := by
  unfold vX13_askClass_0
  refine s_aload_n hZ.1 dX13_askClass_0 rfl ?_
  refine yg13_120 dX13_askClass_1 zw4240 ?_
  refine s_iload_n hZ.1 dX13_askClass_4 rfl ?_
  refine s_iald (tt := 0) rfl dX13_askClass_5 ?_
  refine s_istore_n hZ.1 dX13_askClass_6 rfl (Nat.le_of_ble_eq_true rfl) ?_
  refine s_aload_n hZ.1 dX13_askClass_7 rfl ?_
  refine s_aload_n hZ.1 dX13_askClass_8 rfl ?_
  refine yg13_121 dX13_askClass_9 zw4241 ?_
  refine s_iload_n hZ.1 dX13_askClass_12 rfl ?_
  refine s_lald (tt := 1) rfl dX13_askClass_13 ?_
  refine s_callV hZ.1 (Met_X13_find hZ) (Nat.le_of_ble_eq_true rfl) vy_X13_find zcl13 zw3186 zw226 (Or.inl zw3184) dX13_askClass_14 ?_
  refine s_istore hZ.1 dX13_askClass_17 (Nat.le_of_ble_eq_true rfl) ?_
  refine s_iload hZ.1 dX13_askClass_19 ?_
  refine s_bipush dX13_askClass_21 (by decide +kernel) ?_
  exact s_icmp_ne dX13_askClass_23 (by decide) (wX13_askClass_30 hZ j hj) (wX13_askClass_26 hZ j hj)
noncomputable def vhX13_askClass (j : Nat → rx_K) : List rx_K := [vX13_askClass_187 j]
theorem vlX13_askClass (hZ : zO b e D A X) : ∀ n k pc, [187][k]? = some pc → rx_OK (zV b e D A X) mX13_askClass 170 pc (rx_J (vhX13_askClass) n k) := rx_loop fun j hj k pc h => by
  match k, h with
  | 0, h =>
    have e9 := Option.some.inj (show some 187 = some pc from h)
    subst e9
    exact wX13_askClass_187 hZ j hj
  | _ + 1, h => exact absurd h (by simp)
noncomputable def FX13_askClass : List Nat → rx_H → Option (Nat × rx_H) := rx_ent 8 (vX13_askClass_0 (rx_J (vhX13_askClass) 4000000000))
theorem Met_X13_askClass (hZ : zO b e D A X) : rx_Met (zV b e D A X) 170 yX13_askClass mX13_askClass (FX13_askClass) := rx_entry hZ.1 (wX13_askClass_0 hZ _ (vlX13_askClass hZ 4000000000)) (by decide +kernel) rfl (fun h => by cases h)
abbrev mX13_askFit : rx_M := (RX13, cX13_askFit, 5, (some .int), false)
theorem vy_X13_askFit : rx_Y (zV b e D A X) yX13_askFit mX13_askFit 1 := ⟨zw3733, zw431, by decide, by decide +kernel, by decide +kernel, by decide +kernel⟩
noncomputable def vX13_askFit_101 : rx_K := o_ret1 rx_isI
set_option maxRecDepth 20000 in
theorem wX13_askFit_101 (hZ : zO b e D A X) : rx_OK (zV b e D A X) mX13_askFit 166 101 vX13_askFit_101 := by
  unfold vX13_askFit_101
  exact s_iret hZ.1 rfl dX13_askFit_101
noncomputable def vX13_askFit_99 : rx_K := o_const 88 (vX13_askFit_101)
set_option maxRecDepth 20000 in
theorem wX13_askFit_99 (hZ : zO b e D A X) : rx_OK (zV b e D A X) mX13_askFit 166 99 vX13_askFit_99 := by
  unfold vX13_askFit_99
  refine s_bipush dX13_askFit_99 (by decide +kernel) ?_
  exact (wX13_askFit_101 hZ)
noncomputable def vX13_askFit_95 : rx_K := o_const 0 (vX13_askFit_101)
set_option maxRecDepth 20000 in
theorem wX13_askFit_95 (hZ : zO b e D A X) : rx_OK (zV b e D A X) mX13_askFit 166 95 vX13_askFit_95 := by
  unfold vX13_askFit_95
  refine s_iconst dX13_askFit_95 (by decide +kernel) ?_
  exact s_goto dX13_askFit_96 (by decide) (wX13_askFit_101 hZ)
noncomputable def vX13_askFit_85 : rx_K := o_ld rx_isR 0 (o_ld rx_isI 4 (o_ld rx_isI 2 (o_callV 2 13 FX13_isHeir (o_c1 rx_eq vX13_askFit_99 vX13_askFit_95))))
set_option maxRecDepth 20000 in
theorem wX13_askFit_85 (hZ : zO b e D A X) : rx_OK (zV b e D A X) mX13_askFit 166 85 vX13_askFit_85 := by
  unfold vX13_askFit_85
  refine s_aload_n hZ.1 dX13_askFit_85 rfl ?_
  refine s_iload hZ.1 dX13_askFit_86 ?_
  refine s_iload_n hZ.1 dX13_askFit_88 rfl ?_
  refine s_callV hZ.1 (Met_X13_isHeir hZ) (Nat.le_of_ble_eq_true rfl) vy_X13_isHeir zcl13 zw3211 zw231 (Or.inl zw3209) dX13_askFit_89 ?_
  exact s_if_eq dX13_askFit_92 (by decide) (wX13_askFit_99 hZ) (wX13_askFit_95 hZ)
noncomputable def vX13_askFit_79 : rx_K := o_ld rx_isI 4 (o_ld rx_isI 2 (o_c2 rx_eq vX13_askFit_95 vX13_askFit_85))
set_option maxRecDepth 20000 in
theorem wX13_askFit_79 (hZ : zO b e D A X) : rx_OK (zV b e D A X) mX13_askFit 166 79 vX13_askFit_79 := by
  unfold vX13_askFit_79
  refine s_iload hZ.1 dX13_askFit_79 ?_
  refine s_iload_n hZ.1 dX13_askFit_81 rfl ?_
  exact s_icmp_eq dX13_askFit_82 (by decide) (wX13_askFit_95 hZ) (wX13_askFit_85 hZ)
noncomputable def vX13_askFit_75 : rx_K := o_ld rx_isI 3 (vX13_askFit_101)
set_option maxRecDepth 20000 in
theorem wX13_askFit_75 (hZ : zO b e D A X) : rx_OK (zV b e D A X) mX13_askFit 166 75 vX13_askFit_75 := by
  unfold vX13_askFit_75
  refine s_iload_n hZ.1 dX13_askFit_75 rfl ?_
  exact s_goto dX13_askFit_76 (by decide) (wX13_askFit_101 hZ)
noncomputable def vX13_askFit_70 : rx_K := o_st rx_isI 3 (o_ld rx_isI 3 (o_c1 rx_eq vX13_askFit_79 vX13_askFit_75))
set_option maxRecDepth 20000 in
theorem wX13_askFit_70 (hZ : zO b e D A X) : rx_OK (zV b e D A X) mX13_askFit 166 70 vX13_askFit_70 := by
  unfold vX13_askFit_70
  refine s_istore_n hZ.1 dX13_askFit_70 rfl (Nat.le_of_ble_eq_true rfl) ?_
  refine s_iload_n hZ.1 dX13_askFit_71 rfl ?_
  exact s_if_eq dX13_askFit_72 (by decide) (wX13_askFit_79 hZ) (wX13_askFit_75 hZ)
noncomputable def vX13_askFit_64 : rx_K := o_ld rx_isR 0 (o_ld rx_isI 4 (o_callV 1 13 (q10 160 0) (vX13_askFit_70)))
set_option maxRecDepth 20000 in
theorem wX13_askFit_64 (hZ : zO b e D A X) : rx_OK (zV b e D A X) mX13_askFit 166 64 vX13_askFit_64 := by
  unfold vX13_askFit_64
  refine s_aload_n hZ.1 dX13_askFit_64 rfl ?_
  refine s_iload hZ.1 dX13_askFit_65 ?_
  refine s_callV hZ.1 (q10_ok hZ 160 0 _ _ rfl) (Nat.le_of_ble_eq_true rfl) vy_X13_load zcl13 zw3367 zw267 (Or.inl zw3365) dX13_askFit_67 ?_
  exact (wX13_askFit_70 hZ)
noncomputable def vX13_askFit_60 : rx_K := o_const 8 (vX13_askFit_70)
set_option maxRecDepth 20000 in
theorem wX13_askFit_60 (hZ : zO b e D A X) : rx_OK (zV b e D A X) mX13_askFit 166 60 vX13_askFit_60 := by
  unfold vX13_askFit_60
  refine s_iconst dX13_askFit_60 (by decide +kernel) ?_
  exact s_goto dX13_askFit_61 (by decide) (wX13_askFit_70 hZ)
noncomputable def vX13_askFit_41 : rx_K := o_ld rx_isR 0 (o_ld rx_isR 0 (o_getf 13 121 (o_ld rx_isI 1 (o_ald 1 (o_callV 1 13 FX13_find (o_st rx_isI 4 (o_ld rx_isI 4 (o_const 34359738352 (o_c2 rx_eq vX13_askFit_60 vX13_askFit_64)))))))))
set_option maxRecDepth 20000 in
theorem wX13_askFit_41 (hZ : zO b e D A X) : rx_OK (zV b e D A X) mX13_askFit 166 41 vX13_askFit_41 := by
  unfold vX13_askFit_41
  refine s_aload_n hZ.1 dX13_askFit_41 rfl ?_
  refine s_aload_n hZ.1 dX13_askFit_42 rfl ?_
  refine yg13_121 dX13_askFit_43 zw4241 ?_
  refine s_iload_n hZ.1 dX13_askFit_46 rfl ?_
  refine s_lald (tt := 1) rfl dX13_askFit_47 ?_
  refine s_callV hZ.1 (Met_X13_find hZ) (Nat.le_of_ble_eq_true rfl) vy_X13_find zcl13 zw3186 zw226 (Or.inl zw3184) dX13_askFit_48 ?_
  refine s_istore hZ.1 dX13_askFit_51 (Nat.le_of_ble_eq_true rfl) ?_
  refine s_iload hZ.1 dX13_askFit_53 ?_
  refine s_bipush dX13_askFit_55 (by decide +kernel) ?_
  exact s_icmp_ne dX13_askFit_57 (by decide) (wX13_askFit_64 hZ) (wX13_askFit_60 hZ)
noncomputable def vX13_askFit_39 : rx_K := o_ld rx_isI 3 (o_ret1 rx_isI)
set_option maxRecDepth 20000 in
theorem wX13_askFit_39 (hZ : zO b e D A X) : rx_OK (zV b e D A X) mX13_askFit 166 39 vX13_askFit_39 := by
  unfold vX13_askFit_39
  refine s_iload_n hZ.1 dX13_askFit_39 rfl ?_
  exact s_iret hZ.1 rfl dX13_askFit_40
noncomputable def vX13_askFit_31 : rx_K := o_ld rx_isR 0 (o_ld rx_isI 2 (o_callV 1 13 FX13_isFace (o_c1 rx_eq vX13_askFit_41 vX13_askFit_39)))
set_option maxRecDepth 20000 in
theorem wX13_askFit_31 (hZ : zO b e D A X) : rx_OK (zV b e D A X) mX13_askFit 166 31 vX13_askFit_31 := by
  unfold vX13_askFit_31
  refine s_aload_n hZ.1 dX13_askFit_31 rfl ?_
  refine s_iload_n hZ.1 dX13_askFit_32 rfl ?_
  refine s_callV hZ.1 (Met_X13_isFace hZ) (Nat.le_of_ble_eq_true rfl) vy_X13_isFace zcl13 zw3192 zw227 (Or.inl zw3190) dX13_askFit_33 ?_
  exact s_if_eq dX13_askFit_36 (by decide) (wX13_askFit_41 hZ) (wX13_askFit_39 hZ)
noncomputable def vX13_askFit_26 : rx_K := o_st rx_isI 3 (o_ld rx_isI 3 (o_c1 rx_eq vX13_askFit_31 vX13_askFit_39))
set_option maxRecDepth 20000 in
theorem wX13_askFit_26 (hZ : zO b e D A X) : rx_OK (zV b e D A X) mX13_askFit 166 26 vX13_askFit_26 := by
  unfold vX13_askFit_26
  refine s_istore_n hZ.1 dX13_askFit_26 rfl (Nat.le_of_ble_eq_true rfl) ?_
  refine s_iload_n hZ.1 dX13_askFit_27 rfl ?_
  exact s_if_ne dX13_askFit_28 (by decide) (wX13_askFit_39 hZ) (wX13_askFit_31 hZ)
noncomputable def vX13_askFit_21 : rx_K := o_ld rx_isR 0 (o_ld rx_isI 2 (o_callV 1 13 (q10 160 0) (vX13_askFit_26)))
set_option maxRecDepth 20000 in
theorem wX13_askFit_21 (hZ : zO b e D A X) : rx_OK (zV b e D A X) mX13_askFit 166 21 vX13_askFit_21 := by
  unfold vX13_askFit_21
  refine s_aload_n hZ.1 dX13_askFit_21 rfl ?_
  refine s_iload_n hZ.1 dX13_askFit_22 rfl ?_
  refine s_callV hZ.1 (q10_ok hZ 160 0 _ _ rfl) (Nat.le_of_ble_eq_true rfl) vy_X13_load zcl13 zw3367 zw267 (Or.inl zw3365) dX13_askFit_23 ?_
  exact (wX13_askFit_26 hZ)
noncomputable def vX13_askFit_17 : rx_K := o_const 8 (vX13_askFit_26)
set_option maxRecDepth 20000 in
theorem wX13_askFit_17 (hZ : zO b e D A X) : rx_OK (zV b e D A X) mX13_askFit 166 17 vX13_askFit_17 := by
  unfold vX13_askFit_17
  refine s_iconst dX13_askFit_17 (by decide +kernel) ?_
  exact s_goto dX13_askFit_18 (by decide) (wX13_askFit_26 hZ)
noncomputable def vX13_askFit_0 : rx_K := o_ld rx_isR 0 (o_ld rx_isR 0 (o_getf 13 126 (o_ld rx_isI 1 (o_ald 1 (o_callV 1 13 FX13_find (o_st rx_isI 2 (o_ld rx_isI 2 (o_const 34359738352 (o_c2 rx_eq vX13_askFit_17 vX13_askFit_21)))))))))
set_option maxRecDepth 20000 in
theorem wX13_askFit_0 (hZ : zO b e D A X) : rx_OK (zV b e D A X) mX13_askFit 166 0 vX13_askFit_0 := by
  unfold vX13_askFit_0
  refine s_aload_n hZ.1 dX13_askFit_0 rfl ?_
  refine s_aload_n hZ.1 dX13_askFit_1 rfl ?_
  refine yg13_126 dX13_askFit_2 zw4246 ?_
  refine s_iload_n hZ.1 dX13_askFit_5 rfl ?_
  refine s_lald (tt := 1) rfl dX13_askFit_6 ?_
  refine s_callV hZ.1 (Met_X13_find hZ) (Nat.le_of_ble_eq_true rfl) vy_X13_find zcl13 zw3186 zw226 (Or.inl zw3184) dX13_askFit_7 ?_
  refine s_istore_n hZ.1 dX13_askFit_10 rfl (Nat.le_of_ble_eq_true rfl) ?_
  refine s_iload_n hZ.1 dX13_askFit_11 rfl ?_
  refine s_bipush dX13_askFit_12 (by decide +kernel) ?_
  exact s_icmp_ne dX13_askFit_14 (by decide) (wX13_askFit_21 hZ) (wX13_askFit_17 hZ)
noncomputable def FX13_askFit : List Nat → rx_H → Option (Nat × rx_H) := rx_ent 5 vX13_askFit_0
theorem Met_X13_askFit (hZ : zO b e D A X) : rx_Met (zV b e D A X) 166 yX13_askFit mX13_askFit (FX13_askFit) := rx_entry hZ.1 (wX13_askFit_0 hZ) (by decide +kernel) rfl (fun h => by cases h)
end ZM60

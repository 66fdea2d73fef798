section ZM71
variable {b : Nat} {e : Nat → Value} {D : va_G} {A : Nat → ClassId} {X : State → Prop}
abbrev mX13_weight : rx_M := (RX13, cX13_weight, 2, (some .int), false)
theorem vy_X13_weight : rx_Y (zV b e D A X) yX13_weight mX13_weight 1 := ⟨zw4065, zw431, by decide, by decide +kernel, by decide +kernel, by decide +kernel⟩
noncomputable def vX13_weight_47 (j : Nat → rx_K) : rx_K := o_const 16 (o_ret1 rx_isI)
set_option maxRecDepth 20000 in
theorem wX13_weight_47 (hZ : zO b e D A X) (j : Nat → rx_K) (hj : ∀ k pc, [22][k]? = some pc → rx_OK (zV b e D A X) mX13_weight 0 pc (j k)) : rx_OK (zV b e D A X) mX13_weight 0 47 (vX13_weight_47 j) := by
  unfold vX13_weight_47
  refine s_iconst dX13_weight_47 (by decide +kernel) ?_
  exact s_iret hZ.1 rfl dX13_weight_48
noncomputable def vX13_weight_41 (j : Nat → rx_K) : rx_K := o_inc 1 (1) ((j 0))
set_option maxRecDepth 20000 in
theorem wX13_weight_41 (hZ : zO b e D A X) (j : Nat → rx_K) (hj : ∀ k pc, [22][k]? = some pc → rx_OK (zV b e D A X) mX13_weight 0 pc (j k)) : rx_OK (zV b e D A X) mX13_weight 0 41 (vX13_weight_41 j) := by
  unfold vX13_weight_41
  refine s_iinc hZ.1 dX13_weight_41 (Nat.le_of_ble_eq_true rfl) ?_
  exact s_goto dX13_weight_44 (by decide) (hj 0 22 rfl)
noncomputable def vX13_weight_39 (j : Nat → rx_K) : rx_K := o_const 24 (o_ret1 rx_isI)
set_option maxRecDepth 20000 in
theorem wX13_weight_39 (hZ : zO b e D A X) (j : Nat → rx_K) (hj : ∀ k pc, [22][k]? = some pc → rx_OK (zV b e D A X) mX13_weight 0 pc (j k)) : rx_OK (zV b e D A X) mX13_weight 0 39 (vX13_weight_39 j) := by
  unfold vX13_weight_39
  refine s_iconst dX13_weight_39 (by decide +kernel) ?_
  exact s_iret hZ.1 rfl dX13_weight_40
noncomputable def vX13_weight_30 (j : Nat → rx_K) : rx_K := o_const 3204 (o_ld rx_isI 1 (o_xald 400 zbsG (o_ld rx_isI 0 (o_c2 rx_eq (vX13_weight_39 j) (vX13_weight_41 j)))))
set_option maxRecDepth 20000 in
theorem wX13_weight_30 (hZ : zO b e D A X) (j : Nat → rx_K) (hj : ∀ k pc, [22][k]? = some pc → rx_OK (zV b e D A X) mX13_weight 0 pc (j k)) : rx_OK (zV b e D A X) mX13_weight 0 30 (vX13_weight_30 j) := by
  unfold vX13_weight_30
  refine s_gets (c := 3204) (zo_G hZ) (Or.inl rfl) zw4066 dX13_weight_30 ?_
  refine s_iload_n hZ.1 dX13_weight_33 rfl ?_
  refine s_xiw (by decide +kernel) (zo_GB hZ) dX13_weight_34 ?_
  refine s_iload_n hZ.1 dX13_weight_35 rfl ?_
  exact s_icmp_ne dX13_weight_36 (by decide) (wX13_weight_41 hZ j hj) (wX13_weight_39 hZ j hj)
noncomputable def vX13_weight_22 (j : Nat → rx_K) : rx_K := o_ld rx_isI 1 (o_const 3204 (o_xv 400 176 (o_c2 rx_lt (vX13_weight_30 j) (vX13_weight_47 j))))
set_option maxRecDepth 20000 in
theorem wX13_weight_22 (hZ : zO b e D A X) (j : Nat → rx_K) (hj : ∀ k pc, [22][k]? = some pc → rx_OK (zV b e D A X) mX13_weight 0 pc (j k)) : rx_OK (zV b e D A X) mX13_weight 0 22 (vX13_weight_22 j) := by
  unfold vX13_weight_22
  refine s_iload_n hZ.1 dX13_weight_22 rfl ?_
  refine s_gets (c := 3204) (zo_G hZ) (Or.inl rfl) zw4066 dX13_weight_23 ?_
  refine s_xalen (n := 22) (zo_GB hZ) dX13_weight_26 ?_
  exact s_icmp_ge dX13_weight_27 (by decide) (wX13_weight_47 hZ j hj) (wX13_weight_30 hZ j hj)
noncomputable def vX13_weight_20 (j : Nat → rx_K) : rx_K := o_const 0 (o_st rx_isI 1 ((vX13_weight_22 j)))
set_option maxRecDepth 20000 in
theorem wX13_weight_20 (hZ : zO b e D A X) (j : Nat → rx_K) (hj : ∀ k pc, [22][k]? = some pc → rx_OK (zV b e D A X) mX13_weight 0 pc (j k)) : rx_OK (zV b e D A X) mX13_weight 0 20 (vX13_weight_20 j) := by
  unfold vX13_weight_20
  refine s_iconst dX13_weight_20 (by decide +kernel) ?_
  refine s_istore_n hZ.1 dX13_weight_21 rfl (Nat.le_of_ble_eq_true rfl) ?_
  exact (wX13_weight_22 hZ j hj)
noncomputable def vX13_weight_18 (j : Nat → rx_K) : rx_K := o_const 8 (o_ret1 rx_isI)
set_option maxRecDepth 20000 in
theorem wX13_weight_18 (hZ : zO b e D A X) (j : Nat → rx_K) (hj : ∀ k pc, [22][k]? = some pc → rx_OK (zV b e D A X) mX13_weight 0 pc (j k)) : rx_OK (zV b e D A X) mX13_weight 0 18 (vX13_weight_18 j) := by
  unfold vX13_weight_18
  refine s_iconst dX13_weight_18 (by decide +kernel) ?_
  exact s_iret hZ.1 rfl dX13_weight_19
noncomputable def vX13_weight_12 (j : Nat → rx_K) : rx_K := o_ld rx_isI 0 (o_const 480 (o_c2 rx_eq (vX13_weight_18 j) (vX13_weight_20 j)))
set_option maxRecDepth 20000 in
theorem wX13_weight_12 (hZ : zO b e D A X) (j : Nat → rx_K) (hj : ∀ k pc, [22][k]? = some pc → rx_OK (zV b e D A X) mX13_weight 0 pc (j k)) : rx_OK (zV b e D A X) mX13_weight 0 12 (vX13_weight_12 j) := by
  unfold vX13_weight_12
  refine s_iload_n hZ.1 dX13_weight_12 rfl ?_
  refine s_bipush dX13_weight_13 (by decide +kernel) ?_
  exact s_icmp_ne dX13_weight_15 (by decide) (wX13_weight_20 hZ j hj) (wX13_weight_18 hZ j hj)
noncomputable def vX13_weight_6 (j : Nat → rx_K) : rx_K := o_ld rx_isI 0 (o_const 424 (o_c2 rx_eq (vX13_weight_18 j) (vX13_weight_12 j)))
set_option maxRecDepth 20000 in
theorem wX13_weight_6 (hZ : zO b e D A X) (j : Nat → rx_K) (hj : ∀ k pc, [22][k]? = some pc → rx_OK (zV b e D A X) mX13_weight 0 pc (j k)) : rx_OK (zV b e D A X) mX13_weight 0 6 (vX13_weight_6 j) := by
  unfold vX13_weight_6
  refine s_iload_n hZ.1 dX13_weight_6 rfl ?_
  refine s_bipush dX13_weight_7 (by decide +kernel) ?_
  exact s_icmp_eq dX13_weight_9 (by decide) (wX13_weight_18 hZ j hj) (wX13_weight_12 hZ j hj)
noncomputable def vX13_weight_0 (j : Nat → rx_K) : rx_K := o_ld rx_isI 0 (o_const 312 (o_c2 rx_eq (vX13_weight_18 j) (vX13_weight_6 j)))
set_option maxRecDepth 20000 in
theorem wX13_weight_0 (hZ : zO b e D A X) (j : Nat → rx_K) (hj : ∀ k pc, [22][k]? = some pc → rx_OK (zV b e D A X) mX13_weight 0 pc (j k)) : rx_OK (zV b e D A X) mX13_weight 0 0 (vX13_weight_0 j) := by
  unfold vX13_weight_0
  refine s_iload_n hZ.1 dX13_weight_0 rfl ?_
  refine s_bipush dX13_weight_1 (by decide +kernel) ?_
  exact s_icmp_eq dX13_weight_3 (by decide) (wX13_weight_18 hZ j hj) (wX13_weight_6 hZ j hj)
noncomputable def vhX13_weight (j : Nat → rx_K) : List rx_K := [vX13_weight_22 j]
theorem vlX13_weight (hZ : zO b e D A X) : ∀ n k pc, [22][k]? = some pc → rx_OK (zV b e D A X) mX13_weight 0 pc (rx_J (vhX13_weight) n k) := rx_loop fun j hj k pc h => by
  match k, h with
  | 0, h =>
    have e9 := Option.some.inj (show some 22 = some pc from h)
    subst e9
    exact wX13_weight_22 hZ j hj
  | _ + 1, h => exact absurd h (by simp)
noncomputable def FX13_weight : List Nat → rx_H → Option (Nat × rx_H) := rx_ent 2 (vX13_weight_0 (rx_J (vhX13_weight) 4000000000))
theorem Met_X13_weight (hZ : zO b e D A X) : rx_Met (zV b e D A X) 0 yX13_weight mX13_weight (FX13_weight) := rx_entry hZ.1 (wX13_weight_0 hZ _ (vlX13_weight hZ 4000000000)) (by decide +kernel) rfl (fun h => by cases h)
abbrev mX13_word : rx_M := (RX13, cX13_word, 10, (some .int), false)
theorem vy_X13_word : rx_Y (zV b e D A X) yX13_word mX13_word 3 := ⟨zw4061, zw431, by decide, by decide +kernel, by decide +kernel, by decide +kernel⟩
noncomputable def vX13_word_114 (j : Nat → rx_K) : rx_K := o_ld rx_isR 0 (o_ld rx_isI 6 (o_putf rx_isI 13 175 (o_ld rx_isR 0 (o_getf 13 178 (o_const 0 (o_ld rx_isR 0 (o_getf 13 174 (o_const 0 (o_const 40 (o_ld rx_isI 6 (o_bi (fun x y => x * y) (o_copy 0 rx_isI (o_ld rx_isI 7 (o_ret1 rx_isI))))))))))))))
set_option maxRecDepth 20000 in
theorem wX13_word_114 (hZ : zO b e D A X) (j : Nat → rx_K) (hj : ∀ k pc, [69][k]? = some pc → rx_OK (zV b e D A X) mX13_word 6 pc (j k)) : rx_OK (zV b e D A X) mX13_word 6 114 (vX13_word_114 j) := by
  unfold vX13_word_114
  refine s_aload_n hZ.1 dX13_word_114 rfl ?_
  refine s_iload hZ.1 dX13_word_115 ?_
  refine yp13_175 hZ.1 dX13_word_117 zw4295 ?_
  refine s_aload_n hZ.1 dX13_word_120 rfl ?_
  refine yg13_178 dX13_word_121 zw4298 ?_
  refine s_iconst dX13_word_124 (by decide +kernel) ?_
  refine s_aload_n hZ.1 dX13_word_125 rfl ?_
  refine yg13_174 dX13_word_126 zw4294 ?_
  refine s_iconst dX13_word_129 (by decide +kernel) ?_
  refine s_iconst dX13_word_130 (by decide +kernel) ?_
  refine s_iload hZ.1 dX13_word_131 ?_
  refine s_imul dX13_word_133 ?_
  refine s_copy hZ.1 (tt := 0) (ty := .int) rfl rfl (fun c h => Or.inl (rx_isI_v hZ.1 h).2) rfl (by decide) zw4062 zw1692 zw1691 zw433 dX13_word_134 ?_
  refine s_iload hZ.1 dX13_word_137 ?_
  exact s_iret hZ.1 rfl dX13_word_139
noncomputable def vX13_word_106 (j : Nat → rx_K) : rx_K := o_st rx_isI 7 (o_inc 8 (1) ((j 0)))
set_option maxRecDepth 20000 in
theorem wX13_word_106 (hZ : zO b e D A X) (j : Nat → rx_K) (hj : ∀ k pc, [69][k]? = some pc → rx_OK (zV b e D A X) mX13_word 6 pc (j k)) : rx_OK (zV b e D A X) mX13_word 6 106 (vX13_word_106 j) := by
  unfold vX13_word_106
  refine s_istore hZ.1 dX13_word_106 (Nat.le_of_ble_eq_true rfl) ?_
  refine s_iinc hZ.1 dX13_word_108 (Nat.le_of_ble_eq_true rfl) ?_
  exact s_goto dX13_word_111 (by decide) (hj 0 69 rfl)
noncomputable def vX13_word_104 (j : Nat → rx_K) : rx_K := o_ld rx_isI 9 ((vX13_word_106 j))
set_option maxRecDepth 20000 in
theorem wX13_word_104 (hZ : zO b e D A X) (j : Nat → rx_K) (hj : ∀ k pc, [69][k]? = some pc → rx_OK (zV b e D A X) mX13_word 6 pc (j k)) : rx_OK (zV b e D A X) mX13_word 6 104 (vX13_word_104 j) := by
  unfold vX13_word_104
  refine s_iload hZ.1 dX13_word_104 ?_
  exact (wX13_word_106 hZ j hj)
noncomputable def vX13_word_99 (j : Nat → rx_K) : rx_K := o_ld rx_isI 7 ((vX13_word_106 j))
set_option maxRecDepth 20000 in
theorem wX13_word_99 (hZ : zO b e D A X) (j : Nat → rx_K) (hj : ∀ k pc, [69][k]? = some pc → rx_OK (zV b e D A X) mX13_word 6 pc (j k)) : rx_OK (zV b e D A X) mX13_word 6 99 (vX13_word_99 j) := by
  unfold vX13_word_99
  refine s_iload hZ.1 dX13_word_99 ?_
  exact s_goto dX13_word_101 (by decide) (wX13_word_106 hZ j hj)
noncomputable def vX13_word_78 (j : Nat → rx_K) : rx_K := o_ld rx_isR 0 (o_getf 13 174 (o_const 40 (o_ld rx_isI 8 (o_bi (fun x y => x * y) (o_ald 0 (o_callS 1 FX13_weight (o_st rx_isI 9 (o_ld rx_isI 7 (o_ld rx_isI 9 (o_c2 (fun h x y => rx_lt h y x) (vX13_word_99 j) (vX13_word_104 j)))))))))))
set_option maxRecDepth 20000 in
theorem wX13_word_78 (hZ : zO b e D A X) (j : Nat → rx_K) (hj : ∀ k pc, [69][k]? = some pc → rx_OK (zV b e D A X) mX13_word 6 pc (j k)) : rx_OK (zV b e D A X) mX13_word 6 78 (vX13_word_78 j) := by
  unfold vX13_word_78
  refine s_aload_n hZ.1 dX13_word_78 rfl ?_
  refine yg13_174 dX13_word_79 zw4294 ?_
  refine s_iconst dX13_word_82 (by decide +kernel) ?_
  refine s_iload hZ.1 dX13_word_83 ?_
  refine s_imul dX13_word_85 ?_
  refine s_iald (tt := 0) rfl dX13_word_86 ?_
  refine s_callS hZ.1 (Met_X13_weight hZ) (Nat.le_of_ble_eq_true rfl) vy_X13_weight zw4064 (Or.inl zw4063) dX13_word_87 ?_
  refine s_istore hZ.1 dX13_word_90 (Nat.le_of_ble_eq_true rfl) ?_
  refine s_iload hZ.1 dX13_word_92 ?_
  refine s_iload hZ.1 dX13_word_94 ?_
  exact s_icmp_le dX13_word_96 (by decide) (wX13_word_104 hZ j hj) (wX13_word_99 hZ j hj)
noncomputable def vX13_word_69 (j : Nat → rx_K) : rx_K := o_ld rx_isI 8 (o_ld rx_isR 0 (o_getf 13 175 (o_c2 rx_lt (vX13_word_78 j) (vX13_word_114 j))))
set_option maxRecDepth 20000 in
theorem wX13_word_69 (hZ : zO b e D A X) (j : Nat → rx_K) (hj : ∀ k pc, [69][k]? = some pc → rx_OK (zV b e D A X) mX13_word 6 pc (j k)) : rx_OK (zV b e D A X) mX13_word 6 69 (vX13_word_69 j) := by
  unfold vX13_word_69
  refine s_iload hZ.1 dX13_word_69 ?_
  refine s_aload_n hZ.1 dX13_word_71 rfl ?_
  refine yg13_175 dX13_word_72 zw4295 ?_
  exact s_icmp_ge dX13_word_75 (by decide) (wX13_word_114 hZ j hj) (wX13_word_78 hZ j hj)
noncomputable def vX13_word_32 (j : Nat → rx_K) : rx_K := o_ld rx_isR 0 (o_getf 13 175 (o_st rx_isI 6 (o_ld rx_isR 0 (o_getf 13 174 (o_const 0 (o_ld rx_isR 0 (o_getf 13 178 (o_const 0 (o_const 40 (o_ld rx_isI 6 (o_bi (fun x y => x * y) (o_copy 0 rx_isI (o_ld rx_isR 0 (o_ld rx_isI 4 (o_ld rx_isI 5 (o_callV 2 13 FX13_compare (o_const 0 (o_st rx_isI 7 (o_const 0 (o_st rx_isI 8 ((vX13_word_69 j))))))))))))))))))))))
set_option maxRecDepth 20000 in
theorem wX13_word_32 (hZ : zO b e D A X) (j : Nat → rx_K) (hj : ∀ k pc, [69][k]? = some pc → rx_OK (zV b e D A X) mX13_word 6 pc (j k)) : rx_OK (zV b e D A X) mX13_word 6 32 (vX13_word_32 j) := by
  unfold vX13_word_32
  refine s_aload_n hZ.1 dX13_word_32 rfl ?_
  refine yg13_175 dX13_word_33 zw4295 ?_
  refine s_istore hZ.1 dX13_word_36 (Nat.le_of_ble_eq_true rfl) ?_
  refine s_aload_n hZ.1 dX13_word_38 rfl ?_
  refine yg13_174 dX13_word_39 zw4294 ?_
  refine s_iconst dX13_word_42 (by decide +kernel) ?_
  refine s_aload_n hZ.1 dX13_word_43 rfl ?_
  refine yg13_178 dX13_word_44 zw4298 ?_
  refine s_iconst dX13_word_47 (by decide +kernel) ?_
  refine s_iconst dX13_word_48 (by decide +kernel) ?_
  refine s_iload hZ.1 dX13_word_49 ?_
  refine s_imul dX13_word_51 ?_
  refine s_copy hZ.1 (tt := 0) (ty := .int) rfl rfl (fun c h => Or.inl (rx_isI_v hZ.1 h).2) rfl (by decide) zw4062 zw1692 zw1691 zw433 dX13_word_52 ?_
  refine s_aload_n hZ.1 dX13_word_55 rfl ?_
  refine s_iload hZ.1 dX13_word_56 ?_
  refine s_iload hZ.1 dX13_word_58 ?_
  refine s_callV hZ.1 (Met_X13_compare hZ) (Nat.le_of_ble_eq_true rfl) vy_X13_compare zcl13 zw3992 zw386 (Or.inl zw3990) dX13_word_60 ?_
  refine s_iconst dX13_word_63 (by decide +kernel) ?_
  refine s_istore hZ.1 dX13_word_64 (Nat.le_of_ble_eq_true rfl) ?_
  refine s_iconst dX13_word_66 (by decide +kernel) ?_
  refine s_istore hZ.1 dX13_word_67 (Nat.le_of_ble_eq_true rfl) ?_
  exact (wX13_word_69 hZ j hj)
noncomputable def vX13_word_30 (j : Nat → rx_K) : rx_K := o_const 34359738360 (o_ret1 rx_isI)
set_option maxRecDepth 20000 in
theorem wX13_word_30 (hZ : zO b e D A X) (j : Nat → rx_K) (hj : ∀ k pc, [69][k]? = some pc → rx_OK (zV b e D A X) mX13_word 6 pc (j k)) : rx_OK (zV b e D A X) mX13_word 6 30 (vX13_word_30 j) := by
  unfold vX13_word_30
  refine s_iconst dX13_word_30 (by decide +kernel) ?_
  exact s_iret hZ.1 rfl dX13_word_31
noncomputable def vX13_word_23 (j : Nat → rx_K) : rx_K := o_ld rx_isI 5 (o_const 34359738352 (o_c2 rx_eq (vX13_word_30 j) (vX13_word_32 j)))
set_option maxRecDepth 20000 in
theorem wX13_word_23 (hZ : zO b e D A X) (j : Nat → rx_K) (hj : ∀ k pc, [69][k]? = some pc → rx_OK (zV b e D A X) mX13_word 6 pc (j k)) : rx_OK (zV b e D A X) mX13_word 6 23 (vX13_word_23 j) := by
  unfold vX13_word_23
  refine s_iload hZ.1 dX13_word_23 ?_
  refine s_bipush dX13_word_25 (by decide +kernel) ?_
  exact s_icmp_ne dX13_word_27 (by decide) (wX13_word_32 hZ j hj) (wX13_word_30 hZ j hj)
noncomputable def vX13_word_0 (j : Nat → rx_K) : rx_K := o_ld rx_isR 0 (o_ld rx_isI 1 (o_ld rx_isI 2 (o_callV 2 13 FX13_slotAt (o_st rx_isI 4 (o_ld rx_isR 0 (o_ld rx_isI 1 (o_ld rx_isI 3 (o_callV 2 13 FX13_slotAt (o_st rx_isI 5 (o_ld rx_isI 4 (o_const 34359738352 (o_c2 rx_eq (vX13_word_30 j) (vX13_word_23 j)))))))))))))
set_option maxRecDepth 20000 in
theorem wX13_word_0 (hZ : zO b e D A X) (j : Nat → rx_K) (hj : ∀ k pc, [69][k]? = some pc → rx_OK (zV b e D A X) mX13_word 6 pc (j k)) : rx_OK (zV b e D A X) mX13_word 6 0 (vX13_word_0 j) := by
  unfold vX13_word_0
  refine s_aload_n hZ.1 dX13_word_0 rfl ?_
  refine s_iload_n hZ.1 dX13_word_1 rfl ?_
  refine s_iload_n hZ.1 dX13_word_2 rfl ?_
  refine s_callV hZ.1 (Met_X13_slotAt hZ) (Nat.le_of_ble_eq_true rfl) vy_X13_slotAt zcl13 zw3585 zw317 (Or.inl zw3583) dX13_word_3 ?_
  refine s_istore hZ.1 dX13_word_6 (Nat.le_of_ble_eq_true rfl) ?_
  refine s_aload_n hZ.1 dX13_word_8 rfl ?_
  refine s_iload_n hZ.1 dX13_word_9 rfl ?_
  refine s_iload_n hZ.1 dX13_word_10 rfl ?_
  refine s_callV hZ.1 (Met_X13_slotAt hZ) (Nat.le_of_ble_eq_true rfl) vy_X13_slotAt zcl13 zw3585 zw317 (Or.inl zw3583) dX13_word_11 ?_
  refine s_istore hZ.1 dX13_word_14 (Nat.le_of_ble_eq_true rfl) ?_
  refine s_iload hZ.1 dX13_word_16 ?_
  refine s_bipush dX13_word_18 (by decide +kernel) ?_
  exact s_icmp_eq dX13_word_20 (by decide) (wX13_word_30 hZ j hj) (wX13_word_23 hZ j hj)
noncomputable def vhX13_word (j : Nat → rx_K) : List rx_K := [vX13_word_69 j]
theorem vlX13_word (hZ : zO b e D A X) : ∀ n k pc, [69][k]? = some pc → rx_OK (zV b e D A X) mX13_word 6 pc (rx_J (vhX13_word) n k) := rx_loop fun j hj k pc h => by
  match k, h with
  | 0, h =>
    have e9 := Option.some.inj (show some 69 = some pc from h)
    subst e9
    exact wX13_word_69 hZ j hj
  | _ + 1, h => exact absurd h (by simp)
noncomputable def FX13_word : List Nat → rx_H → Option (Nat × rx_H) := rx_ent 10 (vX13_word_0 (rx_J (vhX13_word) 4000000000))
theorem Met_X13_word (hZ : zO b e D A X) : rx_Met (zV b e D A X) 6 yX13_word mX13_word (FX13_word) := rx_entry hZ.1 (wX13_word_0 hZ _ (vlX13_word hZ 4000000000)) (by decide +kernel) rfl (fun h => by cases h)
abbrev mX13_bridgesOf : rx_M := (RX13, cX13_bridgesOf, 4, (some .int), false)
theorem vy_X13_bridgesOf : rx_Y (zV b e D A X) yX13_bridgesOf mX13_bridgesOf 1 := ⟨zw4079, zw431, by decide, by decide +kernel, by decide +kernel, by decide +kernel⟩
noncomputable def vX13_bridgesOf_42 (j : Nat → rx_K) : rx_K := o_ld rx_isI 2 (o_ret1 rx_isI)
set_option maxRecDepth 20000 in
theorem wX13_bridgesOf_42 (hZ : zO b e D A X) (j : Nat → rx_K) (hj : ∀ k pc, [4][k]? = some pc → rx_OK (zV b e D A X) mX13_bridgesOf 0 pc (j k)) : rx_OK (zV b e D A X) mX13_bridgesOf 0 42 (vX13_bridgesOf_42 j) := by
  unfold vX13_bridgesOf_42
  refine s_iload_n hZ.1 dX13_bridgesOf_42 rfl ?_
  exact s_iret hZ.1 rfl dX13_bridgesOf_43
noncomputable def vX13_bridgesOf_34 (j : Nat → rx_K) : rx_K := o_bi (fun x y => x + y) (o_st rx_isI 2 (o_inc 3 (1) ((j 0))))
set_option maxRecDepth 20000 in
theorem wX13_bridgesOf_34 (hZ : zO b e D A X) (j : Nat → rx_K) (hj : ∀ k pc, [4][k]? = some pc → rx_OK (zV b e D A X) mX13_bridgesOf 0 pc (j k)) : rx_OK (zV b e D A X) mX13_bridgesOf 0 34 (vX13_bridgesOf_34 j) := by
  unfold vX13_bridgesOf_34
  refine s_iadd dX13_bridgesOf_34 ?_
  refine s_istore_n hZ.1 dX13_bridgesOf_35 rfl (Nat.le_of_ble_eq_true rfl) ?_
  refine s_iinc hZ.1 dX13_bridgesOf_36 (Nat.le_of_ble_eq_true rfl) ?_
  exact s_goto dX13_bridgesOf_39 (by decide) (hj 0 4 rfl)
noncomputable def vX13_bridgesOf_33 (j : Nat → rx_K) : rx_K := o_const 0 ((vX13_bridgesOf_34 j))
set_option maxRecDepth 20000 in
theorem wX13_bridgesOf_33 (hZ : zO b e D A X) (j : Nat → rx_K) (hj : ∀ k pc, [4][k]? = some pc → rx_OK (zV b e D A X) mX13_bridgesOf 0 pc (j k)) : rx_OK (zV b e D A X) mX13_bridgesOf 0 33 (vX13_bridgesOf_33 j) := by
  unfold vX13_bridgesOf_33
  refine s_iconst dX13_bridgesOf_33 (by decide +kernel) ?_
  exact (wX13_bridgesOf_34 hZ j hj)
noncomputable def vX13_bridgesOf_29 (j : Nat → rx_K) : rx_K := o_const 8 ((vX13_bridgesOf_34 j))
set_option maxRecDepth 20000 in
theorem wX13_bridgesOf_29 (hZ : zO b e D A X) (j : Nat → rx_K) (hj : ∀ k pc, [4][k]? = some pc → rx_OK (zV b e D A X) mX13_bridgesOf 0 pc (j k)) : rx_OK (zV b e D A X) mX13_bridgesOf 0 29 (vX13_bridgesOf_29 j) := by
  unfold vX13_bridgesOf_29
  refine s_iconst dX13_bridgesOf_29 (by decide +kernel) ?_
  exact s_goto dX13_bridgesOf_30 (by decide) (wX13_bridgesOf_34 hZ j hj)
noncomputable def vX13_bridgesOf_14 (j : Nat → rx_K) : rx_K := o_ld rx_isI 2 (o_ld rx_isR 0 (o_getf 13 49 (o_ld rx_isI 1 (o_const 272 (o_bi (fun x y => x * y) (o_ld rx_isI 3 (o_bi (fun x y => x + y) (o_ald 3 (o_c1 rx_eq (vX13_bridgesOf_33 j) (vX13_bridgesOf_29 j))))))))))
set_option maxRecDepth 20000 in
theorem wX13_bridgesOf_14 (hZ : zO b e D A X) (j : Nat → rx_K) (hj : ∀ k pc, [4][k]? = some pc → rx_OK (zV b e D A X) mX13_bridgesOf 0 pc (j k)) : rx_OK (zV b e D A X) mX13_bridgesOf 0 14 (vX13_bridgesOf_14 j) := by
  unfold vX13_bridgesOf_14
  refine s_iload_n hZ.1 dX13_bridgesOf_14 rfl ?_
  refine s_aload_n hZ.1 dX13_bridgesOf_15 rfl ?_
  refine yg13_49 dX13_bridgesOf_16 zw4170 ?_
  refine s_iload_n hZ.1 dX13_bridgesOf_19 rfl ?_
  refine s_bipush dX13_bridgesOf_20 (by decide +kernel) ?_
  refine s_imul dX13_bridgesOf_22 ?_
  refine s_iload_n hZ.1 dX13_bridgesOf_23 rfl ?_
  refine s_iadd dX13_bridgesOf_24 ?_
  refine s_zald (tt := 3) rfl dX13_bridgesOf_25 ?_
  exact s_if_eq dX13_bridgesOf_26 (by decide) (wX13_bridgesOf_33 hZ j hj) (wX13_bridgesOf_29 hZ j hj)
noncomputable def vX13_bridgesOf_4 (j : Nat → rx_K) : rx_K := o_ld rx_isI 3 (o_ld rx_isR 0 (o_getf 13 41 (o_ld rx_isI 1 (o_ald 0 (o_c2 rx_lt (vX13_bridgesOf_14 j) (vX13_bridgesOf_42 j))))))
set_option maxRecDepth 20000 in
theorem wX13_bridgesOf_4 (hZ : zO b e D A X) (j : Nat → rx_K) (hj : ∀ k pc, [4][k]? = some pc → rx_OK (zV b e D A X) mX13_bridgesOf 0 pc (j k)) : rx_OK (zV b e D A X) mX13_bridgesOf 0 4 (vX13_bridgesOf_4 j) := by
  unfold vX13_bridgesOf_4
  refine s_iload_n hZ.1 dX13_bridgesOf_4 rfl ?_
  refine s_aload_n hZ.1 dX13_bridgesOf_5 rfl ?_
  refine yg13_41 dX13_bridgesOf_6 zw4162 ?_
  refine s_iload_n hZ.1 dX13_bridgesOf_9 rfl ?_
  refine s_iald (tt := 0) rfl dX13_bridgesOf_10 ?_
  exact s_icmp_ge dX13_bridgesOf_11 (by decide) (wX13_bridgesOf_42 hZ j hj) (wX13_bridgesOf_14 hZ j hj)
noncomputable def vX13_bridgesOf_0 (j : Nat → rx_K) : rx_K := o_const 0 (o_st rx_isI 2 (o_const 0 (o_st rx_isI 3 ((vX13_bridgesOf_4 j)))))
set_option maxRecDepth 20000 in
theorem wX13_bridgesOf_0 (hZ : zO b e D A X) (j : Nat → rx_K) (hj : ∀ k pc, [4][k]? = some pc → rx_OK (zV b e D A X) mX13_bridgesOf 0 pc (j k)) : rx_OK (zV b e D A X) mX13_bridgesOf 0 0 (vX13_bridgesOf_0 j) := by
  unfold vX13_bridgesOf_0
  refine s_iconst dX13_bridgesOf_0 (by decide +kernel) ?_
  refine s_istore_n hZ.1 dX13_bridgesOf_1 rfl (Nat.le_of_ble_eq_true rfl) ?_
  refine s_iconst dX13_bridgesOf_2 (by decide +kernel) ?_
  refine s_istore_n hZ.1 dX13_bridgesOf_3 rfl (Nat.le_of_ble_eq_true rfl) ?_
  exact (wX13_bridgesOf_4 hZ j hj)
noncomputable def vhX13_bridgesOf (j : Nat → rx_K) : List rx_K := [vX13_bridgesOf_4 j]
theorem vlX13_bridgesOf (hZ : zO b e D A X) : ∀ n k pc, [4][k]? = some pc → rx_OK (zV b e D A X) mX13_bridgesOf 0 pc (rx_J (vhX13_bridgesOf) n k) := rx_loop fun j hj k pc h => by
  match k, h with
  | 0, h =>
    have e9 := Option.some.inj (show some 4 = some pc from h)
    subst e9
    exact wX13_bridgesOf_4 hZ j hj
  | _ + 1, h => exact absurd h (by simp)
noncomputable def FX13_bridgesOf : List Nat → rx_H → Option (Nat × rx_H) := rx_ent 4 (vX13_bridgesOf_0 (rx_J (vhX13_bridgesOf) 4000000000))
theorem Met_X13_bridgesOf (hZ : zO b e D A X) : rx_Met (zV b e D A X) 0 yX13_bridgesOf mX13_bridgesOf (FX13_bridgesOf) := rx_entry hZ.1 (wX13_bridgesOf_0 hZ _ (vlX13_bridgesOf hZ 4000000000)) (by decide +kernel) rfl (fun h => by cases h)
abbrev mX13_copyClasses : rx_M := (RX13, cX13_copyClasses, 3, none, false)
theorem vy_X13_copyClasses : rx_Y (zV b e D A X) yX13_copyClasses mX13_copyClasses 2 := ⟨zw4087, zw431, by decide, by decide +kernel, by decide +kernel, by decide +kernel⟩
noncomputable def vX13_copyClasses_174 : rx_K := o_ld rx_isI 2 (o_bi (fun x y => x * y) (o_const 768 (o_copy 1 rx_isL (o_ld rx_isR 0 (o_getf 13 40 (o_ld rx_isI 1 (o_ld rx_isR 0 (o_getf 13 40 (o_ld rx_isI 2 (o_const 96 (o_copy 0 rx_isI (o_ld rx_isR 0 (o_getf 13 41 (o_ld rx_isI 1 (o_ld rx_isR 0 (o_getf 13 41 (o_ld rx_isI 2 (o_const 96 (o_copy 0 rx_isI (o_ret0))))))))))))))))))))
set_option maxRecDepth 20000 in
theorem wX13_copyClasses_174 (hZ : zO b e D A X) : rx_OK (zV b e D A X) mX13_copyClasses 1 174 vX13_copyClasses_174 := by
  unfold vX13_copyClasses_174
  refine s_iload_n hZ.1 dX13_copyClasses_174 rfl ?_
  refine s_imul dX13_copyClasses_175 ?_
  refine s_bipush dX13_copyClasses_176 (by decide +kernel) ?_
  refine s_copy hZ.1 (tt := 1) (ty := .long) rfl rfl (fun c h => Or.inr ⟨_, (rx_isL_v h).2⟩) rfl (by decide) zw4062 zw1692 zw1691 zw433 dX13_copyClasses_178 ?_
  refine s_aload_n hZ.1 dX13_copyClasses_181 rfl ?_
  refine yg13_40 dX13_copyClasses_182 zw4161 ?_
  refine s_iload_n hZ.1 dX13_copyClasses_185 rfl ?_
  refine s_aload_n hZ.1 dX13_copyClasses_186 rfl ?_
  refine yg13_40 dX13_copyClasses_187 zw4161 ?_
  refine s_iload_n hZ.1 dX13_copyClasses_190 rfl ?_
  refine s_bipush dX13_copyClasses_191 (by decide +kernel) ?_
  refine s_copy hZ.1 (tt := 0) (ty := .int) rfl rfl (fun c h => Or.inl (rx_isI_v hZ.1 h).2) rfl (by decide) zw4062 zw1692 zw1691 zw433 dX13_copyClasses_193 ?_
  refine s_aload_n hZ.1 dX13_copyClasses_196 rfl ?_
  refine yg13_41 dX13_copyClasses_197 zw4162 ?_
  refine s_iload_n hZ.1 dX13_copyClasses_200 rfl ?_
  refine s_aload_n hZ.1 dX13_copyClasses_201 rfl ?_
  refine yg13_41 dX13_copyClasses_202 zw4162 ?_
  refine s_iload_n hZ.1 dX13_copyClasses_205 rfl ?_
  refine s_bipush dX13_copyClasses_206 (by decide +kernel) ?_
  refine s_copy hZ.1 (tt := 0) (ty := .int) rfl rfl (fun c h => Or.inl (rx_isI_v hZ.1 h).2) rfl (by decide) zw4062 zw1692 zw1691 zw433 dX13_copyClasses_208 ?_
  exact s_vret rfl dX13_copyClasses_211
noncomputable def vX13_copyClasses_131 : rx_K := o_bi (fun x y => x * y) (o_ld rx_isR 0 (o_getf 13 35 (o_const 64 (o_ld rx_isI 2 (o_bi (fun x y => x * y) (o_const 768 (o_copy 1 rx_isL (o_ld rx_isR 0 (o_getf 13 37 (o_ld rx_isI 1 (o_ld rx_isR 0 (o_getf 13 37 (o_ld rx_isI 2 (o_const 96 (o_copy 0 rx_isI (o_ld rx_isR 0 (o_getf 13 38 (o_const 64 (o_ld rx_isI 1 (o_bi (fun x y => x * y) (o_ld rx_isR 0 (o_getf 13 38 (o_const 64 (vX13_copyClasses_174))))))))))))))))))))))))
set_option maxRecDepth 20000 in
theorem wX13_copyClasses_131 (hZ : zO b e D A X) : rx_OK (zV b e D A X) mX13_copyClasses 1 131 vX13_copyClasses_131 := by
  unfold vX13_copyClasses_131
  refine s_imul dX13_copyClasses_131 ?_
  refine s_aload_n hZ.1 dX13_copyClasses_132 rfl ?_
  refine yg13_35 dX13_copyClasses_133 zw4156 ?_
  refine s_bipush dX13_copyClasses_136 (by decide +kernel) ?_
  refine s_iload_n hZ.1 dX13_copyClasses_138 rfl ?_
  refine s_imul dX13_copyClasses_139 ?_
  refine s_bipush dX13_copyClasses_140 (by decide +kernel) ?_
  refine s_copy hZ.1 (tt := 1) (ty := .long) rfl rfl (fun c h => Or.inr ⟨_, (rx_isL_v h).2⟩) rfl (by decide) zw4062 zw1692 zw1691 zw433 dX13_copyClasses_142 ?_
  refine s_aload_n hZ.1 dX13_copyClasses_145 rfl ?_
  refine yg13_37 dX13_copyClasses_146 zw4158 ?_
  refine s_iload_n hZ.1 dX13_copyClasses_149 rfl ?_
  refine s_aload_n hZ.1 dX13_copyClasses_150 rfl ?_
  refine yg13_37 dX13_copyClasses_151 zw4158 ?_
  refine s_iload_n hZ.1 dX13_copyClasses_154 rfl ?_
  refine s_bipush dX13_copyClasses_155 (by decide +kernel) ?_
  refine s_copy hZ.1 (tt := 0) (ty := .int) rfl rfl (fun c h => Or.inl (rx_isI_v hZ.1 h).2) rfl (by decide) zw4062 zw1692 zw1691 zw433 dX13_copyClasses_157 ?_
  refine s_aload_n hZ.1 dX13_copyClasses_160 rfl ?_
  refine yg13_38 dX13_copyClasses_161 zw4159 ?_
  refine s_bipush dX13_copyClasses_164 (by decide +kernel) ?_
  refine s_iload_n hZ.1 dX13_copyClasses_166 rfl ?_
  refine s_imul dX13_copyClasses_167 ?_
  refine s_aload_n hZ.1 dX13_copyClasses_168 rfl ?_
  refine yg13_38 dX13_copyClasses_169 zw4159 ?_
  refine s_bipush dX13_copyClasses_172 (by decide +kernel) ?_
  exact (wX13_copyClasses_174 hZ)
noncomputable def vX13_copyClasses_87 : rx_K := o_ld rx_isI 2 (o_bi (fun x y => x * y) (o_const 384 (o_copy 1 rx_isL (o_ld rx_isR 0 (o_getf 13 32 (o_ld rx_isI 1 (o_ld rx_isR 0 (o_getf 13 32 (o_ld rx_isI 2 (o_const 96 (o_copy 0 rx_isI (o_ld rx_isR 0 (o_getf 13 33 (o_ld rx_isI 1 (o_ld rx_isR 0 (o_getf 13 33 (o_ld rx_isI 2 (o_const 96 (o_copy 1 rx_isL (o_ld rx_isR 0 (o_getf 13 35 (o_const 64 (o_ld rx_isI 1 (vX13_copyClasses_131))))))))))))))))))))))))
set_option maxRecDepth 20000 in
theorem wX13_copyClasses_87 (hZ : zO b e D A X) : rx_OK (zV b e D A X) mX13_copyClasses 1 87 vX13_copyClasses_87 := by
  unfold vX13_copyClasses_87
  refine s_iload_n hZ.1 dX13_copyClasses_87 rfl ?_
  refine s_imul dX13_copyClasses_88 ?_
  refine s_bipush dX13_copyClasses_89 (by decide +kernel) ?_
  refine s_copy hZ.1 (tt := 1) (ty := .long) rfl rfl (fun c h => Or.inr ⟨_, (rx_isL_v h).2⟩) rfl (by decide) zw4062 zw1692 zw1691 zw433 dX13_copyClasses_91 ?_
  refine s_aload_n hZ.1 dX13_copyClasses_94 rfl ?_
  refine yg13_32 dX13_copyClasses_95 zw4153 ?_
  refine s_iload_n hZ.1 dX13_copyClasses_98 rfl ?_
  refine s_aload_n hZ.1 dX13_copyClasses_99 rfl ?_
  refine yg13_32 dX13_copyClasses_100 zw4153 ?_
  refine s_iload_n hZ.1 dX13_copyClasses_103 rfl ?_
  refine s_bipush dX13_copyClasses_104 (by decide +kernel) ?_
  refine s_copy hZ.1 (tt := 0) (ty := .int) rfl rfl (fun c h => Or.inl (rx_isI_v hZ.1 h).2) rfl (by decide) zw4062 zw1692 zw1691 zw433 dX13_copyClasses_106 ?_
  refine s_aload_n hZ.1 dX13_copyClasses_109 rfl ?_
  refine yg13_33 dX13_copyClasses_110 zw4154 ?_
  refine s_iload_n hZ.1 dX13_copyClasses_113 rfl ?_
  refine s_aload_n hZ.1 dX13_copyClasses_114 rfl ?_
  refine yg13_33 dX13_copyClasses_115 zw4154 ?_
  refine s_iload_n hZ.1 dX13_copyClasses_118 rfl ?_
  refine s_bipush dX13_copyClasses_119 (by decide +kernel) ?_
  refine s_copy hZ.1 (tt := 1) (ty := .long) rfl rfl (fun c h => Or.inr ⟨_, (rx_isL_v h).2⟩) rfl (by decide) zw4062 zw1692 zw1691 zw433 dX13_copyClasses_121 ?_
  refine s_aload_n hZ.1 dX13_copyClasses_124 rfl ?_
  refine yg13_35 dX13_copyClasses_125 zw4156 ?_
  refine s_bipush dX13_copyClasses_128 (by decide +kernel) ?_
  refine s_iload_n hZ.1 dX13_copyClasses_130 rfl ?_
  exact (wX13_copyClasses_131 hZ)
noncomputable def vX13_copyClasses_45 : rx_K := o_ld rx_isR 0 (o_getf 13 27 (o_ld rx_isI 1 (o_ld rx_isR 0 (o_getf 13 27 (o_ld rx_isI 2 (o_const 96 (o_copy 0 rx_isI (o_ld rx_isR 0 (o_getf 13 28 (o_ld rx_isI 1 (o_ld rx_isR 0 (o_getf 13 28 (o_ld rx_isI 2 (o_const 96 (o_copy 1 rx_isL (o_ld rx_isR 0 (o_getf 13 30 (o_const 32 (o_ld rx_isI 1 (o_bi (fun x y => x * y) (o_ld rx_isR 0 (o_getf 13 30 (o_const 32 (vX13_copyClasses_87))))))))))))))))))))))))
set_option maxRecDepth 20000 in
theorem wX13_copyClasses_45 (hZ : zO b e D A X) : rx_OK (zV b e D A X) mX13_copyClasses 1 45 vX13_copyClasses_45 := by
  unfold vX13_copyClasses_45
  refine s_aload_n hZ.1 dX13_copyClasses_45 rfl ?_
  refine yg13_27 dX13_copyClasses_46 zw4148 ?_
  refine s_iload_n hZ.1 dX13_copyClasses_49 rfl ?_
  refine s_aload_n hZ.1 dX13_copyClasses_50 rfl ?_
  refine yg13_27 dX13_copyClasses_51 zw4148 ?_
  refine s_iload_n hZ.1 dX13_copyClasses_54 rfl ?_
  refine s_bipush dX13_copyClasses_55 (by decide +kernel) ?_
  refine s_copy hZ.1 (tt := 0) (ty := .int) rfl rfl (fun c h => Or.inl (rx_isI_v hZ.1 h).2) rfl (by decide) zw4062 zw1692 zw1691 zw433 dX13_copyClasses_57 ?_
  refine s_aload_n hZ.1 dX13_copyClasses_60 rfl ?_
  refine yg13_28 dX13_copyClasses_61 zw4149 ?_
  refine s_iload_n hZ.1 dX13_copyClasses_64 rfl ?_
  refine s_aload_n hZ.1 dX13_copyClasses_65 rfl ?_
  refine yg13_28 dX13_copyClasses_66 zw4149 ?_
  refine s_iload_n hZ.1 dX13_copyClasses_69 rfl ?_
  refine s_bipush dX13_copyClasses_70 (by decide +kernel) ?_
  refine s_copy hZ.1 (tt := 1) (ty := .long) rfl rfl (fun c h => Or.inr ⟨_, (rx_isL_v h).2⟩) rfl (by decide) zw4062 zw1692 zw1691 zw433 dX13_copyClasses_72 ?_
  refine s_aload_n hZ.1 dX13_copyClasses_75 rfl ?_
  refine yg13_30 dX13_copyClasses_76 zw4151 ?_
  refine s_iconst dX13_copyClasses_79 (by decide +kernel) ?_
  refine s_iload_n hZ.1 dX13_copyClasses_80 rfl ?_
  refine s_imul dX13_copyClasses_81 ?_
  refine s_aload_n hZ.1 dX13_copyClasses_82 rfl ?_
  refine yg13_30 dX13_copyClasses_83 zw4151 ?_
  refine s_iconst dX13_copyClasses_86 (by decide +kernel) ?_
  exact (wX13_copyClasses_87 hZ)
noncomputable def vX13_copyClasses_0 : rx_K := o_ld rx_isR 0 (o_getf 13 24 (o_ld rx_isI 1 (o_ld rx_isR 0 (o_getf 13 24 (o_ld rx_isI 2 (o_const 96 (o_copy 1 rx_isL (o_ld rx_isR 0 (o_getf 13 25 (o_ld rx_isI 1 (o_ld rx_isR 0 (o_getf 13 25 (o_ld rx_isI 2 (o_const 96 (o_copy 0 rx_isI (o_ld rx_isR 0 (o_getf 13 26 (o_ld rx_isI 1 (o_ld rx_isR 0 (o_getf 13 26 (o_ld rx_isI 2 (o_const 96 (o_copy 3 (rx_chk .boolean) (vX13_copyClasses_45))))))))))))))))))))))))
set_option maxRecDepth 20000 in
theorem wX13_copyClasses_0 (hZ : zO b e D A X) : rx_OK (zV b e D A X) mX13_copyClasses 1 0 vX13_copyClasses_0 := by
  unfold vX13_copyClasses_0
  refine s_aload_n hZ.1 dX13_copyClasses_0 rfl ?_
  refine yg13_24 dX13_copyClasses_1 zw4145 ?_
  refine s_iload_n hZ.1 dX13_copyClasses_4 rfl ?_
  refine s_aload_n hZ.1 dX13_copyClasses_5 rfl ?_
  refine yg13_24 dX13_copyClasses_6 zw4145 ?_
  refine s_iload_n hZ.1 dX13_copyClasses_9 rfl ?_
  refine s_bipush dX13_copyClasses_10 (by decide +kernel) ?_
  refine s_copy hZ.1 (tt := 1) (ty := .long) rfl rfl (fun c h => Or.inr ⟨_, (rx_isL_v h).2⟩) rfl (by decide) zw4062 zw1692 zw1691 zw433 dX13_copyClasses_12 ?_
  refine s_aload_n hZ.1 dX13_copyClasses_15 rfl ?_
  refine yg13_25 dX13_copyClasses_16 zw4146 ?_
  refine s_iload_n hZ.1 dX13_copyClasses_19 rfl ?_
  refine s_aload_n hZ.1 dX13_copyClasses_20 rfl ?_
  refine yg13_25 dX13_copyClasses_21 zw4146 ?_
  refine s_iload_n hZ.1 dX13_copyClasses_24 rfl ?_
  refine s_bipush dX13_copyClasses_25 (by decide +kernel) ?_
  refine s_copy hZ.1 (tt := 0) (ty := .int) rfl rfl (fun c h => Or.inl (rx_isI_v hZ.1 h).2) rfl (by decide) zw4062 zw1692 zw1691 zw433 dX13_copyClasses_27 ?_
  refine s_aload_n hZ.1 dX13_copyClasses_30 rfl ?_
  refine yg13_26 dX13_copyClasses_31 zw4147 ?_
  refine s_iload_n hZ.1 dX13_copyClasses_34 rfl ?_
  refine s_aload_n hZ.1 dX13_copyClasses_35 rfl ?_
  refine yg13_26 dX13_copyClasses_36 zw4147 ?_
  refine s_iload_n hZ.1 dX13_copyClasses_39 rfl ?_
  refine s_bipush dX13_copyClasses_40 (by decide +kernel) ?_
  refine s_copy hZ.1 (tt := 3) (ty := .boolean) rfl rfl (fun c h => Or.inl ⟨_, rx_v_0 (z_chkZ8 h)⟩) rfl (by decide) zw4062 zw1692 zw1691 zw433 dX13_copyClasses_42 ?_
  exact (wX13_copyClasses_45 hZ)
noncomputable def FX13_copyClasses : List Nat → rx_H → Option (Nat × rx_H) := rx_ent 3 vX13_copyClasses_0
theorem Met_X13_copyClasses (hZ : zO b e D A X) : rx_Met (zV b e D A X) 1 yX13_copyClasses mX13_copyClasses (FX13_copyClasses) := rx_entry hZ.1 (wX13_copyClasses_0 hZ) (by decide +kernel) rfl (fun h => by cases h)
abbrev mX13_copyMembers : rx_M := (RX13, cX13_copyMembers, 6, none, false)
theorem vy_X13_copyMembers : rx_Y (zV b e D A X) yX13_copyMembers mX13_copyMembers 2 := ⟨zw4091, zw431, by decide, by decide +kernel, by decide +kernel, by decide +kernel⟩
noncomputable def vX13_copyMembers_396 (j : Nat → rx_K) : rx_K := o_ret0
set_option maxRecDepth 20000 in
theorem wX13_copyMembers_396 (hZ : zO b e D A X) (j : Nat → rx_K) (hj : ∀ k pc, [304][k]? = some pc → rx_OK (zV b e D A X) mX13_copyMembers 1 pc (j k)) : rx_OK (zV b e D A X) mX13_copyMembers 1 396 (vX13_copyMembers_396 j) := by
  unfold vX13_copyMembers_396
  exact s_vret rfl dX13_copyMembers_396
noncomputable def vX13_copyMembers_389 (j : Nat → rx_K) : rx_K := o_ast 0 (fun v => v) rx_isI (o_inc 5 (1) ((j 0)))
set_option maxRecDepth 20000 in
theorem wX13_copyMembers_389 (hZ : zO b e D A X) (j : Nat → rx_K) (hj : ∀ k pc, [304][k]? = some pc → rx_OK (zV b e D A X) mX13_copyMembers 1 pc (j k)) : rx_OK (zV b e D A X) mX13_copyMembers 1 389 (vX13_copyMembers_389 j) := by
  unfold vX13_copyMembers_389
  refine s_iast hZ.1 (tt := 0) rfl dX13_copyMembers_389 ?_
  refine s_iinc hZ.1 dX13_copyMembers_390 (Nat.le_of_ble_eq_true rfl) ?_
  exact s_goto dX13_copyMembers_393 (by decide) (hj 0 304 rfl)
noncomputable def vX13_copyMembers_377 (j : Nat → rx_K) : rx_K := o_ld rx_isR 0 (o_getf 13 61 (o_ld rx_isI 1 (o_ld rx_isI 5 (o_bi (fun x y => x + y) (o_ald 0 (o_ld rx_isI 4 (o_bi (fun x y => x + y) ((vX13_copyMembers_389 j)))))))))
set_option maxRecDepth 20000 in
theorem wX13_copyMembers_377 (hZ : zO b e D A X) (j : Nat → rx_K) (hj : ∀ k pc, [304][k]? = some pc → rx_OK (zV b e D A X) mX13_copyMembers 1 pc (j k)) : rx_OK (zV b e D A X) mX13_copyMembers 1 377 (vX13_copyMembers_377 j) := by
  unfold vX13_copyMembers_377
  refine s_aload_n hZ.1 dX13_copyMembers_377 rfl ?_
  refine yg13_61 dX13_copyMembers_378 zw4182 ?_
  refine s_iload_n hZ.1 dX13_copyMembers_381 rfl ?_
  refine s_iload hZ.1 dX13_copyMembers_382 ?_
  refine s_iadd dX13_copyMembers_384 ?_
  refine s_iald (tt := 0) rfl dX13_copyMembers_385 ?_
  refine s_iload hZ.1 dX13_copyMembers_386 ?_
  refine s_iadd dX13_copyMembers_388 ?_
  exact (wX13_copyMembers_389 hZ j hj)
noncomputable def vX13_copyMembers_372 (j : Nat → rx_K) : rx_K := o_const 34359738352 ((vX13_copyMembers_389 j))
set_option maxRecDepth 20000 in
theorem wX13_copyMembers_372 (hZ : zO b e D A X) (j : Nat → rx_K) (hj : ∀ k pc, [304][k]? = some pc → rx_OK (zV b e D A X) mX13_copyMembers 1 pc (j k)) : rx_OK (zV b e D A X) mX13_copyMembers 1 372 (vX13_copyMembers_372 j) := by
  unfold vX13_copyMembers_372
  refine s_bipush dX13_copyMembers_372 (by decide +kernel) ?_
  exact s_goto dX13_copyMembers_374 (by decide) (wX13_copyMembers_389 hZ j hj)
noncomputable def vX13_copyMembers_349 (j : Nat → rx_K) : rx_K := o_ast 0 (fun v => v) rx_isI (o_ld rx_isR 0 (o_getf 13 61 (o_ld rx_isI 2 (o_ld rx_isI 5 (o_bi (fun x y => x + y) (o_ld rx_isR 0 (o_getf 13 61 (o_ld rx_isI 1 (o_ld rx_isI 5 (o_bi (fun x y => x + y) (o_ald 0 (o_const 34359738352 (o_c2 rx_eq (vX13_copyMembers_372 j) (vX13_copyMembers_377 j))))))))))))))
set_option maxRecDepth 20000 in
theorem wX13_copyMembers_349 (hZ : zO b e D A X) (j : Nat → rx_K) (hj : ∀ k pc, [304][k]? = some pc → rx_OK (zV b e D A X) mX13_copyMembers 1 pc (j k)) : rx_OK (zV b e D A X) mX13_copyMembers 1 349 (vX13_copyMembers_349 j) := by
  unfold vX13_copyMembers_349
  refine s_iast hZ.1 (tt := 0) rfl dX13_copyMembers_349 ?_
  refine s_aload_n hZ.1 dX13_copyMembers_350 rfl ?_
  refine yg13_61 dX13_copyMembers_351 zw4182 ?_
  refine s_iload_n hZ.1 dX13_copyMembers_354 rfl ?_
  refine s_iload hZ.1 dX13_copyMembers_355 ?_
  refine s_iadd dX13_copyMembers_357 ?_
  refine s_aload_n hZ.1 dX13_copyMembers_358 rfl ?_
  refine yg13_61 dX13_copyMembers_359 zw4182 ?_
  refine s_iload_n hZ.1 dX13_copyMembers_362 rfl ?_
  refine s_iload hZ.1 dX13_copyMembers_363 ?_
  refine s_iadd dX13_copyMembers_365 ?_
  refine s_iald (tt := 0) rfl dX13_copyMembers_366 ?_
  refine s_bipush dX13_copyMembers_367 (by decide +kernel) ?_
  exact s_icmp_ne dX13_copyMembers_369 (by decide) (wX13_copyMembers_377 hZ j hj) (wX13_copyMembers_372 hZ j hj)
noncomputable def vX13_copyMembers_337 (j : Nat → rx_K) : rx_K := o_ld rx_isR 0 (o_getf 13 60 (o_ld rx_isI 1 (o_ld rx_isI 5 (o_bi (fun x y => x + y) (o_ald 0 (o_ld rx_isI 4 (o_bi (fun x y => x + y) ((vX13_copyMembers_349 j)))))))))
set_option maxRecDepth 20000 in
theorem wX13_copyMembers_337 (hZ : zO b e D A X) (j : Nat → rx_K) (hj : ∀ k pc, [304][k]? = some pc → rx_OK (zV b e D A X) mX13_copyMembers 1 pc (j k)) : rx_OK (zV b e D A X) mX13_copyMembers 1 337 (vX13_copyMembers_337 j) := by
  unfold vX13_copyMembers_337
  refine s_aload_n hZ.1 dX13_copyMembers_337 rfl ?_
  refine yg13_60 dX13_copyMembers_338 zw4181 ?_
  refine s_iload_n hZ.1 dX13_copyMembers_341 rfl ?_
  refine s_iload hZ.1 dX13_copyMembers_342 ?_
  refine s_iadd dX13_copyMembers_344 ?_
  refine s_iald (tt := 0) rfl dX13_copyMembers_345 ?_
  refine s_iload hZ.1 dX13_copyMembers_346 ?_
  refine s_iadd dX13_copyMembers_348 ?_
  exact (wX13_copyMembers_349 hZ j hj)
noncomputable def vX13_copyMembers_332 (j : Nat → rx_K) : rx_K := o_const 34359738352 ((vX13_copyMembers_349 j))
set_option maxRecDepth 20000 in
theorem wX13_copyMembers_332 (hZ : zO b e D A X) (j : Nat → rx_K) (hj : ∀ k pc, [304][k]? = some pc → rx_OK (zV b e D A X) mX13_copyMembers 1 pc (j k)) : rx_OK (zV b e D A X) mX13_copyMembers 1 332 (vX13_copyMembers_332 j) := by
  unfold vX13_copyMembers_332
  refine s_bipush dX13_copyMembers_332 (by decide +kernel) ?_
  exact s_goto dX13_copyMembers_334 (by decide) (wX13_copyMembers_349 hZ j hj)
noncomputable def vX13_copyMembers_310 (j : Nat → rx_K) : rx_K := o_ld rx_isR 0 (o_getf 13 60 (o_ld rx_isI 2 (o_ld rx_isI 5 (o_bi (fun x y => x + y) (o_ld rx_isR 0 (o_getf 13 60 (o_ld rx_isI 1 (o_ld rx_isI 5 (o_bi (fun x y => x + y) (o_ald 0 (o_const 34359738352 (o_c2 rx_eq (vX13_copyMembers_332 j) (vX13_copyMembers_337 j)))))))))))))
set_option maxRecDepth 20000 in
theorem wX13_copyMembers_310 (hZ : zO b e D A X) (j : Nat → rx_K) (hj : ∀ k pc, [304][k]? = some pc → rx_OK (zV b e D A X) mX13_copyMembers 1 pc (j k)) : rx_OK (zV b e D A X) mX13_copyMembers 1 310 (vX13_copyMembers_310 j) := by
  unfold vX13_copyMembers_310
  refine s_aload_n hZ.1 dX13_copyMembers_310 rfl ?_
  refine yg13_60 dX13_copyMembers_311 zw4181 ?_
  refine s_iload_n hZ.1 dX13_copyMembers_314 rfl ?_
  refine s_iload hZ.1 dX13_copyMembers_315 ?_
  refine s_iadd dX13_copyMembers_317 ?_
  refine s_aload_n hZ.1 dX13_copyMembers_318 rfl ?_
  refine yg13_60 dX13_copyMembers_319 zw4181 ?_
  refine s_iload_n hZ.1 dX13_copyMembers_322 rfl ?_
  refine s_iload hZ.1 dX13_copyMembers_323 ?_
  refine s_iadd dX13_copyMembers_325 ?_
  refine s_iald (tt := 0) rfl dX13_copyMembers_326 ?_
  refine s_bipush dX13_copyMembers_327 (by decide +kernel) ?_
  exact s_icmp_ne dX13_copyMembers_329 (by decide) (wX13_copyMembers_337 hZ j hj) (wX13_copyMembers_332 hZ j hj)
noncomputable def vX13_copyMembers_304 (j : Nat → rx_K) : rx_K := o_ld rx_isI 5 (o_ld rx_isI 3 (o_c2 rx_lt (vX13_copyMembers_310 j) (vX13_copyMembers_396 j)))
set_option maxRecDepth 20000 in
theorem wX13_copyMembers_304 (hZ : zO b e D A X) (j : Nat → rx_K) (hj : ∀ k pc, [304][k]? = some pc → rx_OK (zV b e D A X) mX13_copyMembers 1 pc (j k)) : rx_OK (zV b e D A X) mX13_copyMembers 1 304 (vX13_copyMembers_304 j) := by
  unfold vX13_copyMembers_304
  refine s_iload hZ.1 dX13_copyMembers_304 ?_
  refine s_iload_n hZ.1 dX13_copyMembers_306 rfl ?_
  exact s_icmp_ge dX13_copyMembers_307 (by decide) (wX13_copyMembers_396 hZ j hj) (wX13_copyMembers_310 hZ j hj)
noncomputable def vX13_copyMembers_290 (j : Nat → rx_K) : rx_K := o_ld rx_isI 2 (o_ld rx_isI 1 (o_bi (fun x y => x - y) (o_ld rx_isI 3 (o_bin (fun x y => x / y) (o_const 13600 (o_bi (fun x y => x * y) (o_st rx_isI 4 (o_const 0 (o_st rx_isI 5 ((vX13_copyMembers_304 j)))))))))))
set_option maxRecDepth 20000 in
theorem wX13_copyMembers_290 (hZ : zO b e D A X) (j : Nat → rx_K) (hj : ∀ k pc, [304][k]? = some pc → rx_OK (zV b e D A X) mX13_copyMembers 1 pc (j k)) : rx_OK (zV b e D A X) mX13_copyMembers 1 290 (vX13_copyMembers_290 j) := by
  unfold vX13_copyMembers_290
  refine s_iload_n hZ.1 dX13_copyMembers_290 rfl ?_
  refine s_iload_n hZ.1 dX13_copyMembers_291 rfl ?_
  refine s_isub dX13_copyMembers_292 ?_
  refine s_iload_n hZ.1 dX13_copyMembers_293 rfl ?_
  refine s_idiv dX13_copyMembers_294 ?_
  refine s_sipush dX13_copyMembers_295 (by decide +kernel) ?_
  refine s_imul dX13_copyMembers_298 ?_
  refine s_istore hZ.1 dX13_copyMembers_299 (Nat.le_of_ble_eq_true rfl) ?_
  refine s_iconst dX13_copyMembers_301 (by decide +kernel) ?_
  refine s_istore hZ.1 dX13_copyMembers_302 (Nat.le_of_ble_eq_true rfl) ?_
  exact (wX13_copyMembers_304 hZ j hj)
noncomputable def vX13_copyMembers_248 (j : Nat → rx_K) : rx_K := o_ld rx_isR 0 (o_getf 13 66 (o_ld rx_isI 1 (o_ld rx_isR 0 (o_getf 13 66 (o_ld rx_isI 2 (o_ld rx_isI 3 (o_copy 1 rx_isL (o_ld rx_isR 0 (o_getf 13 67 (o_ld rx_isI 1 (o_ld rx_isR 0 (o_getf 13 67 (o_ld rx_isI 2 (o_ld rx_isI 3 (o_copy 0 rx_isI (o_ld rx_isR 0 (o_getf 13 68 (o_ld rx_isI 1 (o_ld rx_isR 0 (o_getf 13 68 (o_ld rx_isI 2 (o_ld rx_isI 3 (o_copy 0 rx_isI ((vX13_copyMembers_290 j)))))))))))))))))))))))))
set_option maxRecDepth 20000 in
theorem wX13_copyMembers_248 (hZ : zO b e D A X) (j : Nat → rx_K) (hj : ∀ k pc, [304][k]? = some pc → rx_OK (zV b e D A X) mX13_copyMembers 1 pc (j k)) : rx_OK (zV b e D A X) mX13_copyMembers 1 248 (vX13_copyMembers_248 j) := by
  unfold vX13_copyMembers_248
  refine s_aload_n hZ.1 dX13_copyMembers_248 rfl ?_
  refine yg13_66 dX13_copyMembers_249 zw4187 ?_
  refine s_iload_n hZ.1 dX13_copyMembers_252 rfl ?_
  refine s_aload_n hZ.1 dX13_copyMembers_253 rfl ?_
  refine yg13_66 dX13_copyMembers_254 zw4187 ?_
  refine s_iload_n hZ.1 dX13_copyMembers_257 rfl ?_
  refine s_iload_n hZ.1 dX13_copyMembers_258 rfl ?_
  refine s_copy hZ.1 (tt := 1) (ty := .long) rfl rfl (fun c h => Or.inr ⟨_, (rx_isL_v h).2⟩) rfl (by decide) zw4062 zw1692 zw1691 zw433 dX13_copyMembers_259 ?_
  refine s_aload_n hZ.1 dX13_copyMembers_262 rfl ?_
  refine yg13_67 dX13_copyMembers_263 zw4188 ?_
  refine s_iload_n hZ.1 dX13_copyMembers_266 rfl ?_
  refine s_aload_n hZ.1 dX13_copyMembers_267 rfl ?_
  refine yg13_67 dX13_copyMembers_268 zw4188 ?_
  refine s_iload_n hZ.1 dX13_copyMembers_271 rfl ?_
  refine s_iload_n hZ.1 dX13_copyMembers_272 rfl ?_
  refine s_copy hZ.1 (tt := 0) (ty := .int) rfl rfl (fun c h => Or.inl (rx_isI_v hZ.1 h).2) rfl (by decide) zw4062 zw1692 zw1691 zw433 dX13_copyMembers_273 ?_
  refine s_aload_n hZ.1 dX13_copyMembers_276 rfl ?_
  refine yg13_68 dX13_copyMembers_277 zw4189 ?_
  refine s_iload_n hZ.1 dX13_copyMembers_280 rfl ?_
  refine s_aload_n hZ.1 dX13_copyMembers_281 rfl ?_
  refine yg13_68 dX13_copyMembers_282 zw4189 ?_
  refine s_iload_n hZ.1 dX13_copyMembers_285 rfl ?_
  refine s_iload_n hZ.1 dX13_copyMembers_286 rfl ?_
  refine s_copy hZ.1 (tt := 0) (ty := .int) rfl rfl (fun c h => Or.inl (rx_isI_v hZ.1 h).2) rfl (by decide) zw4062 zw1692 zw1691 zw433 dX13_copyMembers_287 ?_
  exact (wX13_copyMembers_290 hZ j hj)
noncomputable def vX13_copyMembers_206 (j : Nat → rx_K) : rx_K := o_ld rx_isR 0 (o_getf 13 63 (o_ld rx_isI 1 (o_ld rx_isR 0 (o_getf 13 63 (o_ld rx_isI 2 (o_ld rx_isI 3 (o_copy 0 rx_isI (o_ld rx_isR 0 (o_getf 13 64 (o_ld rx_isI 1 (o_ld rx_isR 0 (o_getf 13 64 (o_ld rx_isI 2 (o_ld rx_isI 3 (o_copy 3 (rx_chk .boolean) (o_ld rx_isR 0 (o_getf 13 65 (o_ld rx_isI 1 (o_ld rx_isR 0 (o_getf 13 65 (o_ld rx_isI 2 (o_ld rx_isI 3 (o_copy 0 rx_isI ((vX13_copyMembers_248 j)))))))))))))))))))))))))
set_option maxRecDepth 20000 in
theorem wX13_copyMembers_206 (hZ : zO b e D A X) (j : Nat → rx_K) (hj : ∀ k pc, [304][k]? = some pc → rx_OK (zV b e D A X) mX13_copyMembers 1 pc (j k)) : rx_OK (zV b e D A X) mX13_copyMembers 1 206 (vX13_copyMembers_206 j) := by
  unfold vX13_copyMembers_206
  refine s_aload_n hZ.1 dX13_copyMembers_206 rfl ?_
  refine yg13_63 dX13_copyMembers_207 zw4184 ?_
  refine s_iload_n hZ.1 dX13_copyMembers_210 rfl ?_
  refine s_aload_n hZ.1 dX13_copyMembers_211 rfl ?_
  refine yg13_63 dX13_copyMembers_212 zw4184 ?_
  refine s_iload_n hZ.1 dX13_copyMembers_215 rfl ?_
  refine s_iload_n hZ.1 dX13_copyMembers_216 rfl ?_
  refine s_copy hZ.1 (tt := 0) (ty := .int) rfl rfl (fun c h => Or.inl (rx_isI_v hZ.1 h).2) rfl (by decide) zw4062 zw1692 zw1691 zw433 dX13_copyMembers_217 ?_
  refine s_aload_n hZ.1 dX13_copyMembers_220 rfl ?_
  refine yg13_64 dX13_copyMembers_221 zw4185 ?_
  refine s_iload_n hZ.1 dX13_copyMembers_224 rfl ?_
  refine s_aload_n hZ.1 dX13_copyMembers_225 rfl ?_
  refine yg13_64 dX13_copyMembers_226 zw4185 ?_
  refine s_iload_n hZ.1 dX13_copyMembers_229 rfl ?_
  refine s_iload_n hZ.1 dX13_copyMembers_230 rfl ?_
  refine s_copy hZ.1 (tt := 3) (ty := .boolean) rfl rfl (fun c h => Or.inl ⟨_, rx_v_0 (z_chkZ8 h)⟩) rfl (by decide) zw4062 zw1692 zw1691 zw433 dX13_copyMembers_231 ?_
  refine s_aload_n hZ.1 dX13_copyMembers_234 rfl ?_
  refine yg13_65 dX13_copyMembers_235 zw4186 ?_
  refine s_iload_n hZ.1 dX13_copyMembers_238 rfl ?_
  refine s_aload_n hZ.1 dX13_copyMembers_239 rfl ?_
  refine yg13_65 dX13_copyMembers_240 zw4186 ?_
  refine s_iload_n hZ.1 dX13_copyMembers_243 rfl ?_
  refine s_iload_n hZ.1 dX13_copyMembers_244 rfl ?_
  refine s_copy hZ.1 (tt := 0) (ty := .int) rfl rfl (fun c h => Or.inl (rx_isI_v hZ.1 h).2) rfl (by decide) zw4062 zw1692 zw1691 zw433 dX13_copyMembers_245 ?_
  exact (wX13_copyMembers_248 hZ j hj)
noncomputable def vX13_copyMembers_168 (j : Nat → rx_K) : rx_K := o_ld rx_isI 3 (o_copy 0 rx_isI (o_ld rx_isR 0 (o_getf 13 56 (o_const 32 (o_ld rx_isI 1 (o_bi (fun x y => x * y) (o_ld rx_isR 0 (o_getf 13 56 (o_const 32 (o_ld rx_isI 2 (o_bi (fun x y => x * y) (o_const 32 (o_ld rx_isI 3 (o_bi (fun x y => x * y) (o_copy 1 rx_isL (o_ld rx_isR 0 (o_getf 13 62 (o_ld rx_isI 1 (o_ld rx_isR 0 (o_getf 13 62 (o_ld rx_isI 2 (o_ld rx_isI 3 (o_copy 0 rx_isI ((vX13_copyMembers_206 j)))))))))))))))))))))))))
set_option maxRecDepth 20000 in
theorem wX13_copyMembers_168 (hZ : zO b e D A X) (j : Nat → rx_K) (hj : ∀ k pc, [304][k]? = some pc → rx_OK (zV b e D A X) mX13_copyMembers 1 pc (j k)) : rx_OK (zV b e D A X) mX13_copyMembers 1 168 (vX13_copyMembers_168 j) := by
  unfold vX13_copyMembers_168
  refine s_iload_n hZ.1 dX13_copyMembers_168 rfl ?_
  refine s_copy hZ.1 (tt := 0) (ty := .int) rfl rfl (fun c h => Or.inl (rx_isI_v hZ.1 h).2) rfl (by decide) zw4062 zw1692 zw1691 zw433 dX13_copyMembers_169 ?_
  refine s_aload_n hZ.1 dX13_copyMembers_172 rfl ?_
  refine yg13_56 dX13_copyMembers_173 zw4177 ?_
  refine s_iconst dX13_copyMembers_176 (by decide +kernel) ?_
  refine s_iload_n hZ.1 dX13_copyMembers_177 rfl ?_
  refine s_imul dX13_copyMembers_178 ?_
  refine s_aload_n hZ.1 dX13_copyMembers_179 rfl ?_
  refine yg13_56 dX13_copyMembers_180 zw4177 ?_
  refine s_iconst dX13_copyMembers_183 (by decide +kernel) ?_
  refine s_iload_n hZ.1 dX13_copyMembers_184 rfl ?_
  refine s_imul dX13_copyMembers_185 ?_
  refine s_iconst dX13_copyMembers_186 (by decide +kernel) ?_
  refine s_iload_n hZ.1 dX13_copyMembers_187 rfl ?_
  refine s_imul dX13_copyMembers_188 ?_
  refine s_copy hZ.1 (tt := 1) (ty := .long) rfl rfl (fun c h => Or.inr ⟨_, (rx_isL_v h).2⟩) rfl (by decide) zw4062 zw1692 zw1691 zw433 dX13_copyMembers_189 ?_
  refine s_aload_n hZ.1 dX13_copyMembers_192 rfl ?_
  refine yg13_62 dX13_copyMembers_193 zw4183 ?_
  refine s_iload_n hZ.1 dX13_copyMembers_196 rfl ?_
  refine s_aload_n hZ.1 dX13_copyMembers_197 rfl ?_
  refine yg13_62 dX13_copyMembers_198 zw4183 ?_
  refine s_iload_n hZ.1 dX13_copyMembers_201 rfl ?_
  refine s_iload_n hZ.1 dX13_copyMembers_202 rfl ?_
  refine s_copy hZ.1 (tt := 0) (ty := .int) rfl rfl (fun c h => Or.inl (rx_isI_v hZ.1 h).2) rfl (by decide) zw4062 zw1692 zw1691 zw433 dX13_copyMembers_203 ?_
  exact (wX13_copyMembers_206 hZ j hj)
noncomputable def vX13_copyMembers_126 (j : Nat → rx_K) : rx_K := o_ld rx_isI 3 (o_copy 3 (rx_chk .boolean) (o_ld rx_isR 0 (o_getf 13 51 (o_ld rx_isI 1 (o_ld rx_isR 0 (o_getf 13 51 (o_ld rx_isI 2 (o_ld rx_isI 3 (o_copy 1 rx_isL (o_ld rx_isR 0 (o_getf 13 53 (o_ld rx_isI 1 (o_ld rx_isR 0 (o_getf 13 53 (o_ld rx_isI 2 (o_ld rx_isI 3 (o_copy 1 rx_isL (o_ld rx_isR 0 (o_getf 13 55 (o_ld rx_isI 1 (o_ld rx_isR 0 (o_getf 13 55 (o_ld rx_isI 2 ((vX13_copyMembers_168 j)))))))))))))))))))))))))
set_option maxRecDepth 20000 in
theorem wX13_copyMembers_126 (hZ : zO b e D A X) (j : Nat → rx_K) (hj : ∀ k pc, [304][k]? = some pc → rx_OK (zV b e D A X) mX13_copyMembers 1 pc (j k)) : rx_OK (zV b e D A X) mX13_copyMembers 1 126 (vX13_copyMembers_126 j) := by
  unfold vX13_copyMembers_126
  refine s_iload_n hZ.1 dX13_copyMembers_126 rfl ?_
  refine s_copy hZ.1 (tt := 3) (ty := .boolean) rfl rfl (fun c h => Or.inl ⟨_, rx_v_0 (z_chkZ8 h)⟩) rfl (by decide) zw4062 zw1692 zw1691 zw433 dX13_copyMembers_127 ?_
  refine s_aload_n hZ.1 dX13_copyMembers_130 rfl ?_
  refine yg13_51 dX13_copyMembers_131 zw4172 ?_
  refine s_iload_n hZ.1 dX13_copyMembers_134 rfl ?_
  refine s_aload_n hZ.1 dX13_copyMembers_135 rfl ?_
  refine yg13_51 dX13_copyMembers_136 zw4172 ?_
  refine s_iload_n hZ.1 dX13_copyMembers_139 rfl ?_
  refine s_iload_n hZ.1 dX13_copyMembers_140 rfl ?_
  refine s_copy hZ.1 (tt := 1) (ty := .long) rfl rfl (fun c h => Or.inr ⟨_, (rx_isL_v h).2⟩) rfl (by decide) zw4062 zw1692 zw1691 zw433 dX13_copyMembers_141 ?_
  refine s_aload_n hZ.1 dX13_copyMembers_144 rfl ?_
  refine yg13_53 dX13_copyMembers_145 zw4174 ?_
  refine s_iload_n hZ.1 dX13_copyMembers_148 rfl ?_
  refine s_aload_n hZ.1 dX13_copyMembers_149 rfl ?_
  refine yg13_53 dX13_copyMembers_150 zw4174 ?_
  refine s_iload_n hZ.1 dX13_copyMembers_153 rfl ?_
  refine s_iload_n hZ.1 dX13_copyMembers_154 rfl ?_
  refine s_copy hZ.1 (tt := 1) (ty := .long) rfl rfl (fun c h => Or.inr ⟨_, (rx_isL_v h).2⟩) rfl (by decide) zw4062 zw1692 zw1691 zw433 dX13_copyMembers_155 ?_
  refine s_aload_n hZ.1 dX13_copyMembers_158 rfl ?_
  refine yg13_55 dX13_copyMembers_159 zw4176 ?_
  refine s_iload_n hZ.1 dX13_copyMembers_162 rfl ?_
  refine s_aload_n hZ.1 dX13_copyMembers_163 rfl ?_
  refine yg13_55 dX13_copyMembers_164 zw4176 ?_
  refine s_iload_n hZ.1 dX13_copyMembers_167 rfl ?_
  exact (wX13_copyMembers_168 hZ j hj)
noncomputable def vX13_copyMembers_84 (j : Nat → rx_K) : rx_K := o_ld rx_isI 3 (o_copy 3 (rx_chk .boolean) (o_ld rx_isR 0 (o_getf 13 48 (o_ld rx_isI 1 (o_ld rx_isR 0 (o_getf 13 48 (o_ld rx_isI 2 (o_ld rx_isI 3 (o_copy 3 (rx_chk .boolean) (o_ld rx_isR 0 (o_getf 13 49 (o_ld rx_isI 1 (o_ld rx_isR 0 (o_getf 13 49 (o_ld rx_isI 2 (o_ld rx_isI 3 (o_copy 3 (rx_chk .boolean) (o_ld rx_isR 0 (o_getf 13 50 (o_ld rx_isI 1 (o_ld rx_isR 0 (o_getf 13 50 (o_ld rx_isI 2 ((vX13_copyMembers_126 j)))))))))))))))))))))))))
set_option maxRecDepth 20000 in
theorem wX13_copyMembers_84 (hZ : zO b e D A X) (j : Nat → rx_K) (hj : ∀ k pc, [304][k]? = some pc → rx_OK (zV b e D A X) mX13_copyMembers 1 pc (j k)) : rx_OK (zV b e D A X) mX13_copyMembers 1 84 (vX13_copyMembers_84 j) := by
  unfold vX13_copyMembers_84
  refine s_iload_n hZ.1 dX13_copyMembers_84 rfl ?_
  refine s_copy hZ.1 (tt := 3) (ty := .boolean) rfl rfl (fun c h => Or.inl ⟨_, rx_v_0 (z_chkZ8 h)⟩) rfl (by decide) zw4062 zw1692 zw1691 zw433 dX13_copyMembers_85 ?_
  refine s_aload_n hZ.1 dX13_copyMembers_88 rfl ?_
  refine yg13_48 dX13_copyMembers_89 zw4169 ?_
  refine s_iload_n hZ.1 dX13_copyMembers_92 rfl ?_
  refine s_aload_n hZ.1 dX13_copyMembers_93 rfl ?_
  refine yg13_48 dX13_copyMembers_94 zw4169 ?_
  refine s_iload_n hZ.1 dX13_copyMembers_97 rfl ?_
  refine s_iload_n hZ.1 dX13_copyMembers_98 rfl ?_
  refine s_copy hZ.1 (tt := 3) (ty := .boolean) rfl rfl (fun c h => Or.inl ⟨_, rx_v_0 (z_chkZ8 h)⟩) rfl (by decide) zw4062 zw1692 zw1691 zw433 dX13_copyMembers_99 ?_
  refine s_aload_n hZ.1 dX13_copyMembers_102 rfl ?_
  refine yg13_49 dX13_copyMembers_103 zw4170 ?_
  refine s_iload_n hZ.1 dX13_copyMembers_106 rfl ?_
  refine s_aload_n hZ.1 dX13_copyMembers_107 rfl ?_
  refine yg13_49 dX13_copyMembers_108 zw4170 ?_
  refine s_iload_n hZ.1 dX13_copyMembers_111 rfl ?_
  refine s_iload_n hZ.1 dX13_copyMembers_112 rfl ?_
  refine s_copy hZ.1 (tt := 3) (ty := .boolean) rfl rfl (fun c h => Or.inl ⟨_, rx_v_0 (z_chkZ8 h)⟩) rfl (by decide) zw4062 zw1692 zw1691 zw433 dX13_copyMembers_113 ?_
  refine s_aload_n hZ.1 dX13_copyMembers_116 rfl ?_
  refine yg13_50 dX13_copyMembers_117 zw4171 ?_
  refine s_iload_n hZ.1 dX13_copyMembers_120 rfl ?_
  refine s_aload_n hZ.1 dX13_copyMembers_121 rfl ?_
  refine yg13_50 dX13_copyMembers_122 zw4171 ?_
  refine s_iload_n hZ.1 dX13_copyMembers_125 rfl ?_
  exact (wX13_copyMembers_126 hZ j hj)
noncomputable def vX13_copyMembers_42 (j : Nat → rx_K) : rx_K := o_ld rx_isI 3 (o_copy 0 rx_isI (o_ld rx_isR 0 (o_getf 13 45 (o_ld rx_isI 1 (o_ld rx_isR 0 (o_getf 13 45 (o_ld rx_isI 2 (o_ld rx_isI 3 (o_copy 3 (rx_chk .boolean) (o_ld rx_isR 0 (o_getf 13 46 (o_ld rx_isI 1 (o_ld rx_isR 0 (o_getf 13 46 (o_ld rx_isI 2 (o_ld rx_isI 3 (o_copy 3 (rx_chk .boolean) (o_ld rx_isR 0 (o_getf 13 47 (o_ld rx_isI 1 (o_ld rx_isR 0 (o_getf 13 47 (o_ld rx_isI 2 ((vX13_copyMembers_84 j)))))))))))))))))))))))))
set_option maxRecDepth 20000 in
theorem wX13_copyMembers_42 (hZ : zO b e D A X) (j : Nat → rx_K) (hj : ∀ k pc, [304][k]? = some pc → rx_OK (zV b e D A X) mX13_copyMembers 1 pc (j k)) : rx_OK (zV b e D A X) mX13_copyMembers 1 42 (vX13_copyMembers_42 j) := by
  unfold vX13_copyMembers_42
  refine s_iload_n hZ.1 dX13_copyMembers_42 rfl ?_
  refine s_copy hZ.1 (tt := 0) (ty := .int) rfl rfl (fun c h => Or.inl (rx_isI_v hZ.1 h).2) rfl (by decide) zw4062 zw1692 zw1691 zw433 dX13_copyMembers_43 ?_
  refine s_aload_n hZ.1 dX13_copyMembers_46 rfl ?_
  refine yg13_45 dX13_copyMembers_47 zw4166 ?_
  refine s_iload_n hZ.1 dX13_copyMembers_50 rfl ?_
  refine s_aload_n hZ.1 dX13_copyMembers_51 rfl ?_
  refine yg13_45 dX13_copyMembers_52 zw4166 ?_
  refine s_iload_n hZ.1 dX13_copyMembers_55 rfl ?_
  refine s_iload_n hZ.1 dX13_copyMembers_56 rfl ?_
  refine s_copy hZ.1 (tt := 3) (ty := .boolean) rfl rfl (fun c h => Or.inl ⟨_, rx_v_0 (z_chkZ8 h)⟩) rfl (by decide) zw4062 zw1692 zw1691 zw433 dX13_copyMembers_57 ?_
  refine s_aload_n hZ.1 dX13_copyMembers_60 rfl ?_
  refine yg13_46 dX13_copyMembers_61 zw4167 ?_
  refine s_iload_n hZ.1 dX13_copyMembers_64 rfl ?_
  refine s_aload_n hZ.1 dX13_copyMembers_65 rfl ?_
  refine yg13_46 dX13_copyMembers_66 zw4167 ?_
  refine s_iload_n hZ.1 dX13_copyMembers_69 rfl ?_
  refine s_iload_n hZ.1 dX13_copyMembers_70 rfl ?_
  refine s_copy hZ.1 (tt := 3) (ty := .boolean) rfl rfl (fun c h => Or.inl ⟨_, rx_v_0 (z_chkZ8 h)⟩) rfl (by decide) zw4062 zw1692 zw1691 zw433 dX13_copyMembers_71 ?_
  refine s_aload_n hZ.1 dX13_copyMembers_74 rfl ?_
  refine yg13_47 dX13_copyMembers_75 zw4168 ?_
  refine s_iload_n hZ.1 dX13_copyMembers_78 rfl ?_
  refine s_aload_n hZ.1 dX13_copyMembers_79 rfl ?_
  refine yg13_47 dX13_copyMembers_80 zw4168 ?_
  refine s_iload_n hZ.1 dX13_copyMembers_83 rfl ?_
  exact (wX13_copyMembers_84 hZ j hj)
noncomputable def vX13_copyMembers_0 (j : Nat → rx_K) : rx_K := o_const 3264 (o_st rx_isI 3 (o_ld rx_isR 0 (o_getf 13 42 (o_ld rx_isI 1 (o_ld rx_isR 0 (o_getf 13 42 (o_ld rx_isI 2 (o_ld rx_isI 3 (o_copy 0 rx_isI (o_ld rx_isR 0 (o_getf 13 43 (o_ld rx_isI 1 (o_ld rx_isR 0 (o_getf 13 43 (o_ld rx_isI 2 (o_ld rx_isI 3 (o_copy 0 rx_isI (o_ld rx_isR 0 (o_getf 13 44 (o_ld rx_isI 1 (o_ld rx_isR 0 (o_getf 13 44 (o_ld rx_isI 2 ((vX13_copyMembers_42 j)))))))))))))))))))))))))
set_option maxRecDepth 20000 in
theorem wX13_copyMembers_0 (hZ : zO b e D A X) (j : Nat → rx_K) (hj : ∀ k pc, [304][k]? = some pc → rx_OK (zV b e D A X) mX13_copyMembers 1 pc (j k)) : rx_OK (zV b e D A X) mX13_copyMembers 1 0 (vX13_copyMembers_0 j) := by
  unfold vX13_copyMembers_0
  refine s_sipush dX13_copyMembers_0 (by decide +kernel) ?_
  refine s_istore_n hZ.1 dX13_copyMembers_3 rfl (Nat.le_of_ble_eq_true rfl) ?_
  refine s_aload_n hZ.1 dX13_copyMembers_4 rfl ?_
  refine yg13_42 dX13_copyMembers_5 zw4163 ?_
  refine s_iload_n hZ.1 dX13_copyMembers_8 rfl ?_
  refine s_aload_n hZ.1 dX13_copyMembers_9 rfl ?_
  refine yg13_42 dX13_copyMembers_10 zw4163 ?_
  refine s_iload_n hZ.1 dX13_copyMembers_13 rfl ?_
  refine s_iload_n hZ.1 dX13_copyMembers_14 rfl ?_
  refine s_copy hZ.1 (tt := 0) (ty := .int) rfl rfl (fun c h => Or.inl (rx_isI_v hZ.1 h).2) rfl (by decide) zw4062 zw1692 zw1691 zw433 dX13_copyMembers_15 ?_
  refine s_aload_n hZ.1 dX13_copyMembers_18 rfl ?_
  refine yg13_43 dX13_copyMembers_19 zw4164 ?_
  refine s_iload_n hZ.1 dX13_copyMembers_22 rfl ?_
  refine s_aload_n hZ.1 dX13_copyMembers_23 rfl ?_
  refine yg13_43 dX13_copyMembers_24 zw4164 ?_
  refine s_iload_n hZ.1 dX13_copyMembers_27 rfl ?_
  refine s_iload_n hZ.1 dX13_copyMembers_28 rfl ?_
  refine s_copy hZ.1 (tt := 0) (ty := .int) rfl rfl (fun c h => Or.inl (rx_isI_v hZ.1 h).2) rfl (by decide) zw4062 zw1692 zw1691 zw433 dX13_copyMembers_29 ?_
  refine s_aload_n hZ.1 dX13_copyMembers_32 rfl ?_
  refine yg13_44 dX13_copyMembers_33 zw4165 ?_
  refine s_iload_n hZ.1 dX13_copyMembers_36 rfl ?_
  refine s_aload_n hZ.1 dX13_copyMembers_37 rfl ?_
  refine yg13_44 dX13_copyMembers_38 zw4165 ?_
  refine s_iload_n hZ.1 dX13_copyMembers_41 rfl ?_
  exact (wX13_copyMembers_42 hZ j hj)
noncomputable def vhX13_copyMembers (j : Nat → rx_K) : List rx_K := [vX13_copyMembers_304 j]
theorem vlX13_copyMembers (hZ : zO b e D A X) : ∀ n k pc, [304][k]? = some pc → rx_OK (zV b e D A X) mX13_copyMembers 1 pc (rx_J (vhX13_copyMembers) n k) := rx_loop fun j hj k pc h => by
  match k, h with
  | 0, h =>
    have e9 := Option.some.inj (show some 304 = some pc from h)
    subst e9
    exact wX13_copyMembers_304 hZ j hj
  | _ + 1, h => exact absurd h (by simp)
noncomputable def FX13_copyMembers : List Nat → rx_H → Option (Nat × rx_H) := rx_ent 6 (vX13_copyMembers_0 (rx_J (vhX13_copyMembers) 4000000000))
theorem Met_X13_copyMembers (hZ : zO b e D A X) : rx_Met (zV b e D A X) 1 yX13_copyMembers mX13_copyMembers (FX13_copyMembers) := rx_entry hZ.1 (wX13_copyMembers_0 hZ _ (vlX13_copyMembers hZ 4000000000)) (by decide +kernel) rfl (fun h => by cases h)
abbrev mX13_copyNodes : rx_M := (RX13, cX13_copyNodes, 5, none, false)
theorem vy_X13_copyNodes : rx_Y (zV b e D A X) yX13_copyNodes mX13_copyNodes 2 := ⟨zw4095, zw431, by decide, by decide +kernel, by decide +kernel, by decide +kernel⟩
noncomputable def vX13_copyNodes_387 (j : Nat → rx_K) : rx_K := o_ret0
set_option maxRecDepth 20000 in
theorem wX13_copyNodes_387 (hZ : zO b e D A X) (j : Nat → rx_K) (hj : ∀ k pc, [203][k]? = some pc → rx_OK (zV b e D A X) mX13_copyNodes 1 pc (j k)) : rx_OK (zV b e D A X) mX13_copyNodes 1 387 (vX13_copyNodes_387 j) := by
  unfold vX13_copyNodes_387
  exact s_vret rfl dX13_copyNodes_387
noncomputable def vX13_copyNodes_380 (j : Nat → rx_K) : rx_K := o_ast 0 (fun v => v) rx_isI (o_inc 4 (1) ((j 0)))
set_option maxRecDepth 20000 in
theorem wX13_copyNodes_380 (hZ : zO b e D A X) (j : Nat → rx_K) (hj : ∀ k pc, [203][k]? = some pc → rx_OK (zV b e D A X) mX13_copyNodes 1 pc (j k)) : rx_OK (zV b e D A X) mX13_copyNodes 1 380 (vX13_copyNodes_380 j) := by
  unfold vX13_copyNodes_380
  refine s_iast hZ.1 (tt := 0) rfl dX13_copyNodes_380 ?_
  refine s_iinc hZ.1 dX13_copyNodes_381 (Nat.le_of_ble_eq_true rfl) ?_
  exact s_goto dX13_copyNodes_384 (by decide) (hj 0 203 rfl)
noncomputable def vX13_copyNodes_378 (j : Nat → rx_K) : rx_K := o_const 34359738352 ((vX13_copyNodes_380 j))
set_option maxRecDepth 20000 in
theorem wX13_copyNodes_378 (hZ : zO b e D A X) (j : Nat → rx_K) (hj : ∀ k pc, [203][k]? = some pc → rx_OK (zV b e D A X) mX13_copyNodes 1 pc (j k)) : rx_OK (zV b e D A X) mX13_copyNodes 1 378 (vX13_copyNodes_378 j) := by
  unfold vX13_copyNodes_378
  refine s_bipush dX13_copyNodes_378 (by decide +kernel) ?_
  exact (wX13_copyNodes_380 hZ j hj)
noncomputable def vX13_copyNodes_364 (j : Nat → rx_K) : rx_K := o_ld rx_isR 0 (o_getf 13 79 (o_ld rx_isI 1 (o_ld rx_isI 4 (o_bi (fun x y => x + y) (o_ald 0 (o_ld rx_isI 3 (o_bi (fun x y => x + y) ((vX13_copyNodes_380 j)))))))))
set_option maxRecDepth 20000 in
theorem wX13_copyNodes_364 (hZ : zO b e D A X) (j : Nat → rx_K) (hj : ∀ k pc, [203][k]? = some pc → rx_OK (zV b e D A X) mX13_copyNodes 1 pc (j k)) : rx_OK (zV b e D A X) mX13_copyNodes 1 364 (vX13_copyNodes_364 j) := by
  unfold vX13_copyNodes_364
  refine s_aload_n hZ.1 dX13_copyNodes_364 rfl ?_
  refine yg13_79 dX13_copyNodes_365 zw4200 ?_
  refine s_iload_n hZ.1 dX13_copyNodes_368 rfl ?_
  refine s_iload hZ.1 dX13_copyNodes_369 ?_
  refine s_iadd dX13_copyNodes_371 ?_
  refine s_iald (tt := 0) rfl dX13_copyNodes_372 ?_
  refine s_iload_n hZ.1 dX13_copyNodes_373 rfl ?_
  refine s_iadd dX13_copyNodes_374 ?_
  exact s_goto dX13_copyNodes_375 (by decide) (wX13_copyNodes_380 hZ j hj)
noncomputable def vX13_copyNodes_350 (j : Nat → rx_K) : rx_K := o_ld rx_isR 0 (o_getf 13 79 (o_ld rx_isI 1 (o_ld rx_isI 4 (o_bi (fun x y => x + y) (o_ald 0 (o_const 34359738352 (o_c2 rx_eq (vX13_copyNodes_378 j) (vX13_copyNodes_364 j))))))))
set_option maxRecDepth 20000 in
theorem wX13_copyNodes_350 (hZ : zO b e D A X) (j : Nat → rx_K) (hj : ∀ k pc, [203][k]? = some pc → rx_OK (zV b e D A X) mX13_copyNodes 1 pc (j k)) : rx_OK (zV b e D A X) mX13_copyNodes 1 350 (vX13_copyNodes_350 j) := by
  unfold vX13_copyNodes_350
  refine s_aload_n hZ.1 dX13_copyNodes_350 rfl ?_
  refine yg13_79 dX13_copyNodes_351 zw4200 ?_
  refine s_iload_n hZ.1 dX13_copyNodes_354 rfl ?_
  refine s_iload hZ.1 dX13_copyNodes_355 ?_
  refine s_iadd dX13_copyNodes_357 ?_
  refine s_iald (tt := 0) rfl dX13_copyNodes_358 ?_
  refine s_bipush dX13_copyNodes_359 (by decide +kernel) ?_
  exact s_icmp_eq dX13_copyNodes_361 (by decide) (wX13_copyNodes_378 hZ j hj) (wX13_copyNodes_364 hZ j hj)
noncomputable def vX13_copyNodes_327 (j : Nat → rx_K) : rx_K := o_ast 0 (fun v => v) rx_isI (o_ld rx_isR 0 (o_getf 13 79 (o_ld rx_isI 2 (o_ld rx_isI 4 (o_bi (fun x y => x + y) (o_ld rx_isR 0 (o_getf 13 70 (o_ld rx_isI 1 (o_ld rx_isI 4 (o_bi (fun x y => x + y) (o_ald 0 (o_const 176 (o_c2 rx_eq (vX13_copyNodes_350 j) (vX13_copyNodes_378 j))))))))))))))
set_option maxRecDepth 20000 in
theorem wX13_copyNodes_327 (hZ : zO b e D A X) (j : Nat → rx_K) (hj : ∀ k pc, [203][k]? = some pc → rx_OK (zV b e D A X) mX13_copyNodes 1 pc (j k)) : rx_OK (zV b e D A X) mX13_copyNodes 1 327 (vX13_copyNodes_327 j) := by
  unfold vX13_copyNodes_327
  refine s_iast hZ.1 (tt := 0) rfl dX13_copyNodes_327 ?_
  refine s_aload_n hZ.1 dX13_copyNodes_328 rfl ?_
  refine yg13_79 dX13_copyNodes_329 zw4200 ?_
  refine s_iload_n hZ.1 dX13_copyNodes_332 rfl ?_
  refine s_iload hZ.1 dX13_copyNodes_333 ?_
  refine s_iadd dX13_copyNodes_335 ?_
  refine s_aload_n hZ.1 dX13_copyNodes_336 rfl ?_
  refine yg13_70 dX13_copyNodes_337 zw4191 ?_
  refine s_iload_n hZ.1 dX13_copyNodes_340 rfl ?_
  refine s_iload hZ.1 dX13_copyNodes_341 ?_
  refine s_iadd dX13_copyNodes_343 ?_
  refine s_iald (tt := 0) rfl dX13_copyNodes_344 ?_
  refine s_bipush dX13_copyNodes_345 (by decide +kernel) ?_
  exact s_icmp_ne dX13_copyNodes_347 (by decide) (wX13_copyNodes_378 hZ j hj) (wX13_copyNodes_350 hZ j hj)
noncomputable def vX13_copyNodes_316 (j : Nat → rx_K) : rx_K := o_ld rx_isR 0 (o_getf 13 80 (o_ld rx_isI 1 (o_ld rx_isI 4 (o_bi (fun x y => x + y) (o_ald 0 (o_ld rx_isI 3 (o_bi (fun x y => x + y) ((vX13_copyNodes_327 j)))))))))
set_option maxRecDepth 20000 in
theorem wX13_copyNodes_316 (hZ : zO b e D A X) (j : Nat → rx_K) (hj : ∀ k pc, [203][k]? = some pc → rx_OK (zV b e D A X) mX13_copyNodes 1 pc (j k)) : rx_OK (zV b e D A X) mX13_copyNodes 1 316 (vX13_copyNodes_316 j) := by
  unfold vX13_copyNodes_316
  refine s_aload_n hZ.1 dX13_copyNodes_316 rfl ?_
  refine yg13_80 dX13_copyNodes_317 zw4201 ?_
  refine s_iload_n hZ.1 dX13_copyNodes_320 rfl ?_
  refine s_iload hZ.1 dX13_copyNodes_321 ?_
  refine s_iadd dX13_copyNodes_323 ?_
  refine s_iald (tt := 0) rfl dX13_copyNodes_324 ?_
  refine s_iload_n hZ.1 dX13_copyNodes_325 rfl ?_
  refine s_iadd dX13_copyNodes_326 ?_
  exact (wX13_copyNodes_327 hZ j hj)
noncomputable def vX13_copyNodes_311 (j : Nat → rx_K) : rx_K := o_const 34359738352 ((vX13_copyNodes_327 j))
set_option maxRecDepth 20000 in
theorem wX13_copyNodes_311 (hZ : zO b e D A X) (j : Nat → rx_K) (hj : ∀ k pc, [203][k]? = some pc → rx_OK (zV b e D A X) mX13_copyNodes 1 pc (j k)) : rx_OK (zV b e D A X) mX13_copyNodes 1 311 (vX13_copyNodes_311 j) := by
  unfold vX13_copyNodes_311
  refine s_bipush dX13_copyNodes_311 (by decide +kernel) ?_
  exact s_goto dX13_copyNodes_313 (by decide) (wX13_copyNodes_327 hZ j hj)
noncomputable def vX13_copyNodes_288 (j : Nat → rx_K) : rx_K := o_ast 0 (fun v => v) rx_isI (o_ld rx_isR 0 (o_getf 13 80 (o_ld rx_isI 2 (o_ld rx_isI 4 (o_bi (fun x y => x + y) (o_ld rx_isR 0 (o_getf 13 80 (o_ld rx_isI 1 (o_ld rx_isI 4 (o_bi (fun x y => x + y) (o_ald 0 (o_const 34359738352 (o_c2 rx_eq (vX13_copyNodes_311 j) (vX13_copyNodes_316 j))))))))))))))
set_option maxRecDepth 20000 in
theorem wX13_copyNodes_288 (hZ : zO b e D A X) (j : Nat → rx_K) (hj : ∀ k pc, [203][k]? = some pc → rx_OK (zV b e D A X) mX13_copyNodes 1 pc (j k)) : rx_OK (zV b e D A X) mX13_copyNodes 1 288 (vX13_copyNodes_288 j) := by
  unfold vX13_copyNodes_288
  refine s_iast hZ.1 (tt := 0) rfl dX13_copyNodes_288 ?_
  refine s_aload_n hZ.1 dX13_copyNodes_289 rfl ?_
  refine yg13_80 dX13_copyNodes_290 zw4201 ?_
  refine s_iload_n hZ.1 dX13_copyNodes_293 rfl ?_
  refine s_iload hZ.1 dX13_copyNodes_294 ?_
  refine s_iadd dX13_copyNodes_296 ?_
  refine s_aload_n hZ.1 dX13_copyNodes_297 rfl ?_
  refine yg13_80 dX13_copyNodes_298 zw4201 ?_
  refine s_iload_n hZ.1 dX13_copyNodes_301 rfl ?_
  refine s_iload hZ.1 dX13_copyNodes_302 ?_
  refine s_iadd dX13_copyNodes_304 ?_
  refine s_iald (tt := 0) rfl dX13_copyNodes_305 ?_
  refine s_bipush dX13_copyNodes_306 (by decide +kernel) ?_
  exact s_icmp_ne dX13_copyNodes_308 (by decide) (wX13_copyNodes_316 hZ j hj) (wX13_copyNodes_311 hZ j hj)
noncomputable def vX13_copyNodes_277 (j : Nat → rx_K) : rx_K := o_ld rx_isR 0 (o_getf 13 78 (o_ld rx_isI 1 (o_ld rx_isI 4 (o_bi (fun x y => x + y) (o_ald 0 (o_ld rx_isI 3 (o_bi (fun x y => x + y) ((vX13_copyNodes_288 j)))))))))
set_option maxRecDepth 20000 in
theorem wX13_copyNodes_277 (hZ : zO b e D A X) (j : Nat → rx_K) (hj : ∀ k pc, [203][k]? = some pc → rx_OK (zV b e D A X) mX13_copyNodes 1 pc (j k)) : rx_OK (zV b e D A X) mX13_copyNodes 1 277 (vX13_copyNodes_277 j) := by
  unfold vX13_copyNodes_277
  refine s_aload_n hZ.1 dX13_copyNodes_277 rfl ?_
  refine yg13_78 dX13_copyNodes_278 zw4199 ?_
  refine s_iload_n hZ.1 dX13_copyNodes_281 rfl ?_
  refine s_iload hZ.1 dX13_copyNodes_282 ?_
  refine s_iadd dX13_copyNodes_284 ?_
  refine s_iald (tt := 0) rfl dX13_copyNodes_285 ?_
  refine s_iload_n hZ.1 dX13_copyNodes_286 rfl ?_
  refine s_iadd dX13_copyNodes_287 ?_
  exact (wX13_copyNodes_288 hZ j hj)
noncomputable def vX13_copyNodes_272 (j : Nat → rx_K) : rx_K := o_const 34359738352 ((vX13_copyNodes_288 j))
set_option maxRecDepth 20000 in
theorem wX13_copyNodes_272 (hZ : zO b e D A X) (j : Nat → rx_K) (hj : ∀ k pc, [203][k]? = some pc → rx_OK (zV b e D A X) mX13_copyNodes 1 pc (j k)) : rx_OK (zV b e D A X) mX13_copyNodes 1 272 (vX13_copyNodes_272 j) := by
  unfold vX13_copyNodes_272
  refine s_bipush dX13_copyNodes_272 (by decide +kernel) ?_
  exact s_goto dX13_copyNodes_274 (by decide) (wX13_copyNodes_288 hZ j hj)
noncomputable def vX13_copyNodes_249 (j : Nat → rx_K) : rx_K := o_ast 0 (fun v => v) rx_isI (o_ld rx_isR 0 (o_getf 13 78 (o_ld rx_isI 2 (o_ld rx_isI 4 (o_bi (fun x y => x + y) (o_ld rx_isR 0 (o_getf 13 78 (o_ld rx_isI 1 (o_ld rx_isI 4 (o_bi (fun x y => x + y) (o_ald 0 (o_const 34359738352 (o_c2 rx_eq (vX13_copyNodes_272 j) (vX13_copyNodes_277 j))))))))))))))
set_option maxRecDepth 20000 in
theorem wX13_copyNodes_249 (hZ : zO b e D A X) (j : Nat → rx_K) (hj : ∀ k pc, [203][k]? = some pc → rx_OK (zV b e D A X) mX13_copyNodes 1 pc (j k)) : rx_OK (zV b e D A X) mX13_copyNodes 1 249 (vX13_copyNodes_249 j) := by
  unfold vX13_copyNodes_249
  refine s_iast hZ.1 (tt := 0) rfl dX13_copyNodes_249 ?_
  refine s_aload_n hZ.1 dX13_copyNodes_250 rfl ?_
  refine yg13_78 dX13_copyNodes_251 zw4199 ?_
  refine s_iload_n hZ.1 dX13_copyNodes_254 rfl ?_
  refine s_iload hZ.1 dX13_copyNodes_255 ?_
  refine s_iadd dX13_copyNodes_257 ?_
  refine s_aload_n hZ.1 dX13_copyNodes_258 rfl ?_
  refine yg13_78 dX13_copyNodes_259 zw4199 ?_
  refine s_iload_n hZ.1 dX13_copyNodes_262 rfl ?_
  refine s_iload hZ.1 dX13_copyNodes_263 ?_
  refine s_iadd dX13_copyNodes_265 ?_
  refine s_iald (tt := 0) rfl dX13_copyNodes_266 ?_
  refine s_bipush dX13_copyNodes_267 (by decide +kernel) ?_
  exact s_icmp_ne dX13_copyNodes_269 (by decide) (wX13_copyNodes_277 hZ j hj) (wX13_copyNodes_272 hZ j hj)
noncomputable def vX13_copyNodes_238 (j : Nat → rx_K) : rx_K := o_ld rx_isR 0 (o_getf 13 77 (o_ld rx_isI 1 (o_ld rx_isI 4 (o_bi (fun x y => x + y) (o_ald 0 (o_ld rx_isI 3 (o_bi (fun x y => x + y) ((vX13_copyNodes_249 j)))))))))
set_option maxRecDepth 20000 in
theorem wX13_copyNodes_238 (hZ : zO b e D A X) (j : Nat → rx_K) (hj : ∀ k pc, [203][k]? = some pc → rx_OK (zV b e D A X) mX13_copyNodes 1 pc (j k)) : rx_OK (zV b e D A X) mX13_copyNodes 1 238 (vX13_copyNodes_238 j) := by
  unfold vX13_copyNodes_238
  refine s_aload_n hZ.1 dX13_copyNodes_238 rfl ?_
  refine yg13_77 dX13_copyNodes_239 zw4198 ?_
  refine s_iload_n hZ.1 dX13_copyNodes_242 rfl ?_
  refine s_iload hZ.1 dX13_copyNodes_243 ?_
  refine s_iadd dX13_copyNodes_245 ?_
  refine s_iald (tt := 0) rfl dX13_copyNodes_246 ?_
  refine s_iload_n hZ.1 dX13_copyNodes_247 rfl ?_
  refine s_iadd dX13_copyNodes_248 ?_
  exact (wX13_copyNodes_249 hZ j hj)
noncomputable def vX13_copyNodes_233 (j : Nat → rx_K) : rx_K := o_const 34359738352 ((vX13_copyNodes_249 j))
set_option maxRecDepth 20000 in
theorem wX13_copyNodes_233 (hZ : zO b e D A X) (j : Nat → rx_K) (hj : ∀ k pc, [203][k]? = some pc → rx_OK (zV b e D A X) mX13_copyNodes 1 pc (j k)) : rx_OK (zV b e D A X) mX13_copyNodes 1 233 (vX13_copyNodes_233 j) := by
  unfold vX13_copyNodes_233
  refine s_bipush dX13_copyNodes_233 (by decide +kernel) ?_
  exact s_goto dX13_copyNodes_235 (by decide) (wX13_copyNodes_249 hZ j hj)
noncomputable def vX13_copyNodes_211 (j : Nat → rx_K) : rx_K := o_ld rx_isR 0 (o_getf 13 77 (o_ld rx_isI 2 (o_ld rx_isI 4 (o_bi (fun x y => x + y) (o_ld rx_isR 0 (o_getf 13 77 (o_ld rx_isI 1 (o_ld rx_isI 4 (o_bi (fun x y => x + y) (o_ald 0 (o_const 34359738352 (o_c2 rx_eq (vX13_copyNodes_233 j) (vX13_copyNodes_238 j)))))))))))))
set_option maxRecDepth 20000 in
theorem wX13_copyNodes_211 (hZ : zO b e D A X) (j : Nat → rx_K) (hj : ∀ k pc, [203][k]? = some pc → rx_OK (zV b e D A X) mX13_copyNodes 1 pc (j k)) : rx_OK (zV b e D A X) mX13_copyNodes 1 211 (vX13_copyNodes_211 j) := by
  unfold vX13_copyNodes_211
  refine s_aload_n hZ.1 dX13_copyNodes_211 rfl ?_
  refine yg13_77 dX13_copyNodes_212 zw4198 ?_
  refine s_iload_n hZ.1 dX13_copyNodes_215 rfl ?_
  refine s_iload hZ.1 dX13_copyNodes_216 ?_
  refine s_iadd dX13_copyNodes_218 ?_
  refine s_aload_n hZ.1 dX13_copyNodes_219 rfl ?_
  refine yg13_77 dX13_copyNodes_220 zw4198 ?_
  refine s_iload_n hZ.1 dX13_copyNodes_223 rfl ?_
  refine s_iload hZ.1 dX13_copyNodes_224 ?_
  refine s_iadd dX13_copyNodes_226 ?_
  refine s_iald (tt := 0) rfl dX13_copyNodes_227 ?_
  refine s_bipush dX13_copyNodes_228 (by decide +kernel) ?_
  exact s_icmp_ne dX13_copyNodes_230 (by decide) (wX13_copyNodes_238 hZ j hj) (wX13_copyNodes_233 hZ j hj)
noncomputable def vX13_copyNodes_203 (j : Nat → rx_K) : rx_K := o_ld rx_isI 4 (o_const 13600 (o_c2 rx_lt (vX13_copyNodes_211 j) (vX13_copyNodes_387 j)))
set_option maxRecDepth 20000 in
theorem wX13_copyNodes_203 (hZ : zO b e D A X) (j : Nat → rx_K) (hj : ∀ k pc, [203][k]? = some pc → rx_OK (zV b e D A X) mX13_copyNodes 1 pc (j k)) : rx_OK (zV b e D A X) mX13_copyNodes 1 203 (vX13_copyNodes_203 j) := by
  unfold vX13_copyNodes_203
  refine s_iload hZ.1 dX13_copyNodes_203 ?_
  refine s_sipush dX13_copyNodes_205 (by decide +kernel) ?_
  exact s_icmp_ge dX13_copyNodes_208 (by decide) (wX13_copyNodes_387 hZ j hj) (wX13_copyNodes_211 hZ j hj)
noncomputable def vX13_copyNodes_186 (j : Nat → rx_K) : rx_K := o_getf 13 88 (o_ld rx_isI 2 (o_const 13600 (o_copy 0 rx_isI (o_ld rx_isI 2 (o_ld rx_isI 1 (o_bi (fun x y => x - y) (o_st rx_isI 3 (o_const 0 (o_st rx_isI 4 ((vX13_copyNodes_203 j)))))))))))
set_option maxRecDepth 20000 in
theorem wX13_copyNodes_186 (hZ : zO b e D A X) (j : Nat → rx_K) (hj : ∀ k pc, [203][k]? = some pc → rx_OK (zV b e D A X) mX13_copyNodes 1 pc (j k)) : rx_OK (zV b e D A X) mX13_copyNodes 1 186 (vX13_copyNodes_186 j) := by
  unfold vX13_copyNodes_186
  refine yg13_88 dX13_copyNodes_186 zw4209 ?_
  refine s_iload_n hZ.1 dX13_copyNodes_189 rfl ?_
  refine s_sipush dX13_copyNodes_190 (by decide +kernel) ?_
  refine s_copy hZ.1 (tt := 0) (ty := .int) rfl rfl (fun c h => Or.inl (rx_isI_v hZ.1 h).2) rfl (by decide) zw4062 zw1692 zw1691 zw433 dX13_copyNodes_193 ?_
  refine s_iload_n hZ.1 dX13_copyNodes_196 rfl ?_
  refine s_iload_n hZ.1 dX13_copyNodes_197 rfl ?_
  refine s_isub dX13_copyNodes_198 ?_
  refine s_istore_n hZ.1 dX13_copyNodes_199 rfl (Nat.le_of_ble_eq_true rfl) ?_
  refine s_iconst dX13_copyNodes_200 (by decide +kernel) ?_
  refine s_istore hZ.1 dX13_copyNodes_201 (Nat.le_of_ble_eq_true rfl) ?_
  exact (wX13_copyNodes_203 hZ j hj)
noncomputable def vX13_copyNodes_144 (j : Nat → rx_K) : rx_K := o_ld rx_isR 0 (o_getf 13 86 (o_const 32 (o_ld rx_isI 1 (o_bi (fun x y => x * y) (o_ld rx_isR 0 (o_getf 13 86 (o_const 32 (o_ld rx_isI 2 (o_bi (fun x y => x * y) (o_const 54400 (o_copy 1 rx_isL (o_ld rx_isR 0 (o_getf 13 87 (o_ld rx_isI 1 (o_ld rx_isR 0 (o_getf 13 87 (o_ld rx_isI 2 (o_const 13600 (o_copy 0 rx_isI (o_ld rx_isR 0 (o_getf 13 88 (o_ld rx_isI 1 (o_ld rx_isR 0 ((vX13_copyNodes_186 j)))))))))))))))))))))))))
set_option maxRecDepth 20000 in
theorem wX13_copyNodes_144 (hZ : zO b e D A X) (j : Nat → rx_K) (hj : ∀ k pc, [203][k]? = some pc → rx_OK (zV b e D A X) mX13_copyNodes 1 pc (j k)) : rx_OK (zV b e D A X) mX13_copyNodes 1 144 (vX13_copyNodes_144 j) := by
  unfold vX13_copyNodes_144
  refine s_aload_n hZ.1 dX13_copyNodes_144 rfl ?_
  refine yg13_86 dX13_copyNodes_145 zw4207 ?_
  refine s_iconst dX13_copyNodes_148 (by decide +kernel) ?_
  refine s_iload_n hZ.1 dX13_copyNodes_149 rfl ?_
  refine s_imul dX13_copyNodes_150 ?_
  refine s_aload_n hZ.1 dX13_copyNodes_151 rfl ?_
  refine yg13_86 dX13_copyNodes_152 zw4207 ?_
  refine s_iconst dX13_copyNodes_155 (by decide +kernel) ?_
  refine s_iload_n hZ.1 dX13_copyNodes_156 rfl ?_
  refine s_imul dX13_copyNodes_157 ?_
  refine s_sipush dX13_copyNodes_158 (by decide +kernel) ?_
  refine s_copy hZ.1 (tt := 1) (ty := .long) rfl rfl (fun c h => Or.inr ⟨_, (rx_isL_v h).2⟩) rfl (by decide) zw4062 zw1692 zw1691 zw433 dX13_copyNodes_161 ?_
  refine s_aload_n hZ.1 dX13_copyNodes_164 rfl ?_
  refine yg13_87 dX13_copyNodes_165 zw4208 ?_
  refine s_iload_n hZ.1 dX13_copyNodes_168 rfl ?_
  refine s_aload_n hZ.1 dX13_copyNodes_169 rfl ?_
  refine yg13_87 dX13_copyNodes_170 zw4208 ?_
  refine s_iload_n hZ.1 dX13_copyNodes_173 rfl ?_
  refine s_sipush dX13_copyNodes_174 (by decide +kernel) ?_
  refine s_copy hZ.1 (tt := 0) (ty := .int) rfl rfl (fun c h => Or.inl (rx_isI_v hZ.1 h).2) rfl (by decide) zw4062 zw1692 zw1691 zw433 dX13_copyNodes_177 ?_
  refine s_aload_n hZ.1 dX13_copyNodes_180 rfl ?_
  refine yg13_88 dX13_copyNodes_181 zw4209 ?_
  refine s_iload_n hZ.1 dX13_copyNodes_184 rfl ?_
  refine s_aload_n hZ.1 dX13_copyNodes_185 rfl ?_
  exact (wX13_copyNodes_186 hZ j hj)
noncomputable def vX13_copyNodes_96 (j : Nat → rx_K) : rx_K := o_ld rx_isR 0 (o_getf 13 83 (o_ld rx_isI 1 (o_ld rx_isR 0 (o_getf 13 83 (o_ld rx_isI 2 (o_const 13600 (o_copy 1 rx_isL (o_ld rx_isR 0 (o_getf 13 84 (o_ld rx_isI 1 (o_ld rx_isR 0 (o_getf 13 84 (o_ld rx_isI 2 (o_const 13600 (o_copy 1 rx_isL (o_ld rx_isR 0 (o_getf 13 85 (o_ld rx_isI 1 (o_ld rx_isR 0 (o_getf 13 85 (o_ld rx_isI 2 (o_const 13600 (o_copy 0 rx_isI ((vX13_copyNodes_144 j)))))))))))))))))))))))))
set_option maxRecDepth 20000 in
theorem wX13_copyNodes_96 (hZ : zO b e D A X) (j : Nat → rx_K) (hj : ∀ k pc, [203][k]? = some pc → rx_OK (zV b e D A X) mX13_copyNodes 1 pc (j k)) : rx_OK (zV b e D A X) mX13_copyNodes 1 96 (vX13_copyNodes_96 j) := by
  unfold vX13_copyNodes_96
  refine s_aload_n hZ.1 dX13_copyNodes_96 rfl ?_
  refine yg13_83 dX13_copyNodes_97 zw4204 ?_
  refine s_iload_n hZ.1 dX13_copyNodes_100 rfl ?_
  refine s_aload_n hZ.1 dX13_copyNodes_101 rfl ?_
  refine yg13_83 dX13_copyNodes_102 zw4204 ?_
  refine s_iload_n hZ.1 dX13_copyNodes_105 rfl ?_
  refine s_sipush dX13_copyNodes_106 (by decide +kernel) ?_
  refine s_copy hZ.1 (tt := 1) (ty := .long) rfl rfl (fun c h => Or.inr ⟨_, (rx_isL_v h).2⟩) rfl (by decide) zw4062 zw1692 zw1691 zw433 dX13_copyNodes_109 ?_
  refine s_aload_n hZ.1 dX13_copyNodes_112 rfl ?_
  refine yg13_84 dX13_copyNodes_113 zw4205 ?_
  refine s_iload_n hZ.1 dX13_copyNodes_116 rfl ?_
  refine s_aload_n hZ.1 dX13_copyNodes_117 rfl ?_
  refine yg13_84 dX13_copyNodes_118 zw4205 ?_
  refine s_iload_n hZ.1 dX13_copyNodes_121 rfl ?_
  refine s_sipush dX13_copyNodes_122 (by decide +kernel) ?_
  refine s_copy hZ.1 (tt := 1) (ty := .long) rfl rfl (fun c h => Or.inr ⟨_, (rx_isL_v h).2⟩) rfl (by decide) zw4062 zw1692 zw1691 zw433 dX13_copyNodes_125 ?_
  refine s_aload_n hZ.1 dX13_copyNodes_128 rfl ?_
  refine yg13_85 dX13_copyNodes_129 zw4206 ?_
  refine s_iload_n hZ.1 dX13_copyNodes_132 rfl ?_
  refine s_aload_n hZ.1 dX13_copyNodes_133 rfl ?_
  refine yg13_85 dX13_copyNodes_134 zw4206 ?_
  refine s_iload_n hZ.1 dX13_copyNodes_137 rfl ?_
  refine s_sipush dX13_copyNodes_138 (by decide +kernel) ?_
  refine s_copy hZ.1 (tt := 0) (ty := .int) rfl rfl (fun c h => Or.inl (rx_isI_v hZ.1 h).2) rfl (by decide) zw4062 zw1692 zw1691 zw433 dX13_copyNodes_141 ?_
  exact (wX13_copyNodes_144 hZ j hj)
noncomputable def vX13_copyNodes_48 (j : Nat → rx_K) : rx_K := o_ld rx_isR 0 (o_getf 13 76 (o_ld rx_isI 1 (o_ld rx_isR 0 (o_getf 13 76 (o_ld rx_isI 2 (o_const 13600 (o_copy 1 rx_isL (o_ld rx_isR 0 (o_getf 13 81 (o_ld rx_isI 1 (o_ld rx_isR 0 (o_getf 13 81 (o_ld rx_isI 2 (o_const 13600 (o_copy 0 rx_isI (o_ld rx_isR 0 (o_getf 13 82 (o_ld rx_isI 1 (o_ld rx_isR 0 (o_getf 13 82 (o_ld rx_isI 2 (o_const 13600 (o_copy 0 rx_isI ((vX13_copyNodes_96 j)))))))))))))))))))))))))
set_option maxRecDepth 20000 in
theorem wX13_copyNodes_48 (hZ : zO b e D A X) (j : Nat → rx_K) (hj : ∀ k pc, [203][k]? = some pc → rx_OK (zV b e D A X) mX13_copyNodes 1 pc (j k)) : rx_OK (zV b e D A X) mX13_copyNodes 1 48 (vX13_copyNodes_48 j) := by
  unfold vX13_copyNodes_48
  refine s_aload_n hZ.1 dX13_copyNodes_48 rfl ?_
  refine yg13_76 dX13_copyNodes_49 zw4197 ?_
  refine s_iload_n hZ.1 dX13_copyNodes_52 rfl ?_
  refine s_aload_n hZ.1 dX13_copyNodes_53 rfl ?_
  refine yg13_76 dX13_copyNodes_54 zw4197 ?_
  refine s_iload_n hZ.1 dX13_copyNodes_57 rfl ?_
  refine s_sipush dX13_copyNodes_58 (by decide +kernel) ?_
  refine s_copy hZ.1 (tt := 1) (ty := .long) rfl rfl (fun c h => Or.inr ⟨_, (rx_isL_v h).2⟩) rfl (by decide) zw4062 zw1692 zw1691 zw433 dX13_copyNodes_61 ?_
  refine s_aload_n hZ.1 dX13_copyNodes_64 rfl ?_
  refine yg13_81 dX13_copyNodes_65 zw4202 ?_
  refine s_iload_n hZ.1 dX13_copyNodes_68 rfl ?_
  refine s_aload_n hZ.1 dX13_copyNodes_69 rfl ?_
  refine yg13_81 dX13_copyNodes_70 zw4202 ?_
  refine s_iload_n hZ.1 dX13_copyNodes_73 rfl ?_
  refine s_sipush dX13_copyNodes_74 (by decide +kernel) ?_
  refine s_copy hZ.1 (tt := 0) (ty := .int) rfl rfl (fun c h => Or.inl (rx_isI_v hZ.1 h).2) rfl (by decide) zw4062 zw1692 zw1691 zw433 dX13_copyNodes_77 ?_
  refine s_aload_n hZ.1 dX13_copyNodes_80 rfl ?_
  refine yg13_82 dX13_copyNodes_81 zw4203 ?_
  refine s_iload_n hZ.1 dX13_copyNodes_84 rfl ?_
  refine s_aload_n hZ.1 dX13_copyNodes_85 rfl ?_
  refine yg13_82 dX13_copyNodes_86 zw4203 ?_
  refine s_iload_n hZ.1 dX13_copyNodes_89 rfl ?_
  refine s_sipush dX13_copyNodes_90 (by decide +kernel) ?_
  refine s_copy hZ.1 (tt := 0) (ty := .int) rfl rfl (fun c h => Or.inl (rx_isI_v hZ.1 h).2) rfl (by decide) zw4062 zw1692 zw1691 zw433 dX13_copyNodes_93 ?_
  exact (wX13_copyNodes_96 hZ j hj)
noncomputable def vX13_copyNodes_0 (j : Nat → rx_K) : rx_K := o_ld rx_isR 0 (o_getf 13 70 (o_ld rx_isI 1 (o_ld rx_isR 0 (o_getf 13 70 (o_ld rx_isI 2 (o_const 13600 (o_copy 0 rx_isI (o_ld rx_isR 0 (o_getf 13 74 (o_ld rx_isI 1 (o_ld rx_isR 0 (o_getf 13 74 (o_ld rx_isI 2 (o_const 13600 (o_copy 1 rx_isL (o_ld rx_isR 0 (o_getf 13 75 (o_ld rx_isI 1 (o_ld rx_isR 0 (o_getf 13 75 (o_ld rx_isI 2 (o_const 13600 (o_copy 1 rx_isL ((vX13_copyNodes_48 j)))))))))))))))))))))))))
set_option maxRecDepth 20000 in
theorem wX13_copyNodes_0 (hZ : zO b e D A X) (j : Nat → rx_K) (hj : ∀ k pc, [203][k]? = some pc → rx_OK (zV b e D A X) mX13_copyNodes 1 pc (j k)) : rx_OK (zV b e D A X) mX13_copyNodes 1 0 (vX13_copyNodes_0 j) := by
  unfold vX13_copyNodes_0
  refine s_aload_n hZ.1 dX13_copyNodes_0 rfl ?_
  refine yg13_70 dX13_copyNodes_1 zw4191 ?_
  refine s_iload_n hZ.1 dX13_copyNodes_4 rfl ?_
  refine s_aload_n hZ.1 dX13_copyNodes_5 rfl ?_
  refine yg13_70 dX13_copyNodes_6 zw4191 ?_
  refine s_iload_n hZ.1 dX13_copyNodes_9 rfl ?_
  refine s_sipush dX13_copyNodes_10 (by decide +kernel) ?_
  refine s_copy hZ.1 (tt := 0) (ty := .int) rfl rfl (fun c h => Or.inl (rx_isI_v hZ.1 h).2) rfl (by decide) zw4062 zw1692 zw1691 zw433 dX13_copyNodes_13 ?_
  refine s_aload_n hZ.1 dX13_copyNodes_16 rfl ?_
  refine yg13_74 dX13_copyNodes_17 zw4195 ?_
  refine s_iload_n hZ.1 dX13_copyNodes_20 rfl ?_
  refine s_aload_n hZ.1 dX13_copyNodes_21 rfl ?_
  refine yg13_74 dX13_copyNodes_22 zw4195 ?_
  refine s_iload_n hZ.1 dX13_copyNodes_25 rfl ?_
  refine s_sipush dX13_copyNodes_26 (by decide +kernel) ?_
  refine s_copy hZ.1 (tt := 1) (ty := .long) rfl rfl (fun c h => Or.inr ⟨_, (rx_isL_v h).2⟩) rfl (by decide) zw4062 zw1692 zw1691 zw433 dX13_copyNodes_29 ?_
  refine s_aload_n hZ.1 dX13_copyNodes_32 rfl ?_
  refine yg13_75 dX13_copyNodes_33 zw4196 ?_
  refine s_iload_n hZ.1 dX13_copyNodes_36 rfl ?_
  refine s_aload_n hZ.1 dX13_copyNodes_37 rfl ?_
  refine yg13_75 dX13_copyNodes_38 zw4196 ?_
  refine s_iload_n hZ.1 dX13_copyNodes_41 rfl ?_
  refine s_sipush dX13_copyNodes_42 (by decide +kernel) ?_
  refine s_copy hZ.1 (tt := 1) (ty := .long) rfl rfl (fun c h => Or.inr ⟨_, (rx_isL_v h).2⟩) rfl (by decide) zw4062 zw1692 zw1691 zw433 dX13_copyNodes_45 ?_
  exact (wX13_copyNodes_48 hZ j hj)
noncomputable def vhX13_copyNodes (j : Nat → rx_K) : List rx_K := [vX13_copyNodes_203 j]
theorem vlX13_copyNodes (hZ : zO b e D A X) : ∀ n k pc, [203][k]? = some pc → rx_OK (zV b e D A X) mX13_copyNodes 1 pc (rx_J (vhX13_copyNodes) n k) := rx_loop fun j hj k pc h => by
  match k, h with
  | 0, h =>
    have e9 := Option.some.inj (show some 203 = some pc from h)
    subst e9
    exact wX13_copyNodes_203 hZ j hj
  | _ + 1, h => exact absurd h (by simp)
noncomputable def FX13_copyNodes : List Nat → rx_H → Option (Nat × rx_H) := rx_ent 5 (vX13_copyNodes_0 (rx_J (vhX13_copyNodes) 4000000000))
theorem Met_X13_copyNodes (hZ : zO b e D A X) : rx_Met (zV b e D A X) 1 yX13_copyNodes mX13_copyNodes (FX13_copyNodes) := rx_entry hZ.1 (wX13_copyNodes_0 hZ _ (vlX13_copyNodes hZ 4000000000)) (by decide +kernel) rfl (fun h => by cases h)
end ZM71

section ZM7
variable {b : Nat} {e : Nat → Value} {D : va_G} {A : Nat → ClassId} {X : State → Prop}
abbrev mX1_newRow : rx_M := (RX1, cX1_newRow, 2, (some (.object "LinkHouse$Row")), false)
theorem vy_X1_newRow : rx_Y (zV b e D A X) yX1_newRow mX1_newRow 0 := ⟨zw1215, zw424, by decide, by decide +kernel, by decide +kernel, by decide +kernel⟩
noncomputable def vX1_newRow_14 : rx_K := o_ld rx_isR 0 (o_getf 1 2 (o_ld rx_isR 0 (o_getf 1 3 (o_ald 4 (o_st rx_isR 1 (o_ld rx_isR 0 (o_dup (o_getf 1 3 (o_const 8 (o_bi (fun x y => x + y) (o_putf rx_isI 1 3 (o_ld rx_isR 1 (o_ld rx_isR 0 (o_callV 1 10 FX10_clear (o_ld rx_isR 1 (o_ret1 rx_isR))))))))))))))))
set_option maxRecDepth 20000 in
theorem wX1_newRow_14 (hZ : zO b e D A X) : rx_OK (zV b e D A X) mX1_newRow 2 14 vX1_newRow_14 := by
  unfold vX1_newRow_14
  refine s_aload_n hZ.1 dX1_newRow_14 rfl ?_
  refine yg1_2 dX1_newRow_15 zw1113 ?_
  refine s_aload_n hZ.1 dX1_newRow_18 rfl ?_
  refine yg1_3 dX1_newRow_19 zw1120 ?_
  refine s_aald (tt := 4) rfl rfl dX1_newRow_22 ?_
  refine s_astore_n hZ.1 dX1_newRow_23 rfl (Nat.le_of_ble_eq_true rfl) ?_
  refine s_aload_n hZ.1 dX1_newRow_24 rfl ?_
  refine s_dup hZ.1 dX1_newRow_25 ?_
  refine yg1_3 dX1_newRow_26 zw1120 ?_
  refine s_iconst dX1_newRow_29 (by decide +kernel) ?_
  refine s_iadd dX1_newRow_30 ?_
  refine yp1_3 hZ.1 dX1_newRow_31 zw1120 ?_
  refine s_aload_n hZ.1 dX1_newRow_34 rfl ?_
  refine s_aload_n hZ.1 dX1_newRow_35 rfl ?_
  refine s_callV hZ.1 (Met_X10_clear hZ) (Nat.le_of_ble_eq_true rfl) vy_X10_clear zcl10 zw1217 zw1218 (Or.inl zw1216) dX1_newRow_36 ?_
  refine s_aload_n hZ.1 dX1_newRow_39 rfl ?_
  exact s_aret hZ.1 rfl (Or.inl ⟨_, rfl⟩) dX1_newRow_40
noncomputable def vX1_newRow_12 : rx_K := o_const 3 (o_ret1 rx_isR)
set_option maxRecDepth 20000 in
theorem wX1_newRow_12 (hZ : zO b e D A X) : rx_OK (zV b e D A X) mX1_newRow 2 12 vX1_newRow_12 := by
  unfold vX1_newRow_12
  refine s_null dX1_newRow_12 ?_
  exact s_aret hZ.1 rfl (Or.inl ⟨_, rfl⟩) dX1_newRow_13
noncomputable def vX1_newRow_0 : rx_K := o_ld rx_isR 0 (o_getf 1 3 (o_ld rx_isR 0 (o_getf 1 2 (o_alen 4 (o_c2 rx_lt vX1_newRow_14 vX1_newRow_12)))))
set_option maxRecDepth 20000 in
theorem wX1_newRow_0 (hZ : zO b e D A X) : rx_OK (zV b e D A X) mX1_newRow 2 0 vX1_newRow_0 := by
  unfold vX1_newRow_0
  refine s_aload_n hZ.1 dX1_newRow_0 rfl ?_
  refine yg1_3 dX1_newRow_1 zw1120 ?_
  refine s_aload_n hZ.1 dX1_newRow_4 rfl ?_
  refine yg1_2 dX1_newRow_5 zw1113 ?_
  refine s_alen (tt := 4) rfl dX1_newRow_8 ?_
  exact s_icmp_lt dX1_newRow_9 (by decide) (wX1_newRow_14 hZ) (wX1_newRow_12 hZ)
noncomputable def FX1_newRow : List Nat → rx_H → Option (Nat × rx_H) := rx_ent 2 vX1_newRow_0
theorem Met_X1_newRow (hZ : zO b e D A X) : rx_Met (zV b e D A X) 2 yX1_newRow mX1_newRow (FX1_newRow) := rx_entry hZ.1 (wX1_newRow_0 hZ) (by decide +kernel) rfl (fun h => by cases h)
abbrev mJ7_fill_d0a16 : rx_M := (RJ7, cJ7_fill_d0a16, 5, none, false)
theorem vy_J7_fill_d0a16 : rx_Y (zV b e D A X) yJ7_fill_d0a16 mJ7_fill_d0a16 2 := ⟨zw1239, zw427, by decide, by decide +kernel, by decide +kernel, by decide +kernel⟩
noncomputable def vJ7_fill_d0a16_22 (j : Nat → rx_K) : rx_K := o_ret0
set_option maxRecDepth 20000 in
theorem wJ7_fill_d0a16_22 (hZ : zO b e D A X) (j : Nat → rx_K) (hj : ∀ k pc, [6][k]? = some pc → rx_OK (zV b e D A X) mJ7_fill_d0a16 0 pc (j k)) : rx_OK (zV b e D A X) mJ7_fill_d0a16 0 22 (vJ7_fill_d0a16_22 j) := by
  unfold vJ7_fill_d0a16_22
  exact s_vret rfl dJ7_fill_d0a16_22
noncomputable def vJ7_fill_d0a16_12 (j : Nat → rx_K) : rx_K := o_ld rx_isR 0 (o_ld rx_isI 3 (o_ld rx_isL 1 (o_ast 1 (fun v => v) rx_isL (o_inc 3 (1) ((j 0))))))
set_option maxRecDepth 20000 in
theorem wJ7_fill_d0a16_12 (hZ : zO b e D A X) (j : Nat → rx_K) (hj : ∀ k pc, [6][k]? = some pc → rx_OK (zV b e D A X) mJ7_fill_d0a16 0 pc (j k)) : rx_OK (zV b e D A X) mJ7_fill_d0a16 0 12 (vJ7_fill_d0a16_12 j) := by
  unfold vJ7_fill_d0a16_12
  refine s_aload_n hZ.1 dJ7_fill_d0a16_12 rfl ?_
  refine s_iload_n hZ.1 dJ7_fill_d0a16_13 rfl ?_
  refine s_lload_n hZ.1 dJ7_fill_d0a16_14 rfl ?_
  refine s_last (tt := 1) rfl dJ7_fill_d0a16_15 ?_
  refine s_iinc hZ.1 dJ7_fill_d0a16_16 (Nat.le_of_ble_eq_true rfl) ?_
  exact s_goto dJ7_fill_d0a16_19 (by decide) (hj 0 6 rfl)
noncomputable def vJ7_fill_d0a16_6 (j : Nat → rx_K) : rx_K := o_ld rx_isI 3 (o_ld rx_isI 4 (o_c2 rx_lt (vJ7_fill_d0a16_12 j) (vJ7_fill_d0a16_22 j)))
set_option maxRecDepth 20000 in
theorem wJ7_fill_d0a16_6 (hZ : zO b e D A X) (j : Nat → rx_K) (hj : ∀ k pc, [6][k]? = some pc → rx_OK (zV b e D A X) mJ7_fill_d0a16 0 pc (j k)) : rx_OK (zV b e D A X) mJ7_fill_d0a16 0 6 (vJ7_fill_d0a16_6 j) := by
  unfold vJ7_fill_d0a16_6
  refine s_iload_n hZ.1 dJ7_fill_d0a16_6 rfl ?_
  refine s_iload hZ.1 dJ7_fill_d0a16_7 ?_
  exact s_icmp_ge dJ7_fill_d0a16_9 (by decide) (wJ7_fill_d0a16_22 hZ j hj) (wJ7_fill_d0a16_12 hZ j hj)
noncomputable def vJ7_fill_d0a16_0 (j : Nat → rx_K) : rx_K := o_const 0 (o_st rx_isI 3 (o_ld rx_isR 0 (o_alen 1 (o_st rx_isI 4 ((vJ7_fill_d0a16_6 j))))))
set_option maxRecDepth 20000 in
theorem wJ7_fill_d0a16_0 (hZ : zO b e D A X) (j : Nat → rx_K) (hj : ∀ k pc, [6][k]? = some pc → rx_OK (zV b e D A X) mJ7_fill_d0a16 0 pc (j k)) : rx_OK (zV b e D A X) mJ7_fill_d0a16 0 0 (vJ7_fill_d0a16_0 j) := by
  unfold vJ7_fill_d0a16_0
  refine s_iconst dJ7_fill_d0a16_0 (by decide +kernel) ?_
  refine s_istore_n hZ.1 dJ7_fill_d0a16_1 rfl (Nat.le_of_ble_eq_true rfl) ?_
  refine s_aload_n hZ.1 dJ7_fill_d0a16_2 rfl ?_
  refine s_alen (tt := 1) rfl dJ7_fill_d0a16_3 ?_
  refine s_istore hZ.1 dJ7_fill_d0a16_4 (Nat.le_of_ble_eq_true rfl) ?_
  exact (wJ7_fill_d0a16_6 hZ j hj)
noncomputable def vhJ7_fill_d0a16 (j : Nat → rx_K) : List rx_K := [vJ7_fill_d0a16_6 j]
theorem vlJ7_fill_d0a16 (hZ : zO b e D A X) : ∀ n k pc, [6][k]? = some pc → rx_OK (zV b e D A X) mJ7_fill_d0a16 0 pc (rx_J (vhJ7_fill_d0a16) n k) := rx_loop fun j hj k pc h => by
  match k, h with
  | 0, h =>
    have e9 := Option.some.inj (show some 6 = some pc from h)
    subst e9
    exact wJ7_fill_d0a16_6 hZ j hj
  | _ + 1, h => exact absurd h (by simp)
noncomputable def FJ7_fill_d0a16 : List Nat → rx_H → Option (Nat × rx_H) := rx_ent 5 (vJ7_fill_d0a16_0 (rx_J (vhJ7_fill_d0a16) 4000000000))
theorem Met_J7_fill_d0a16 (hZ : zO b e D A X) : rx_Met (zV b e D A X) 0 yJ7_fill_d0a16 mJ7_fill_d0a16 (FJ7_fill_d0a16) := rx_entry hZ.1 (wJ7_fill_d0a16_0 hZ _ (vlJ7_fill_d0a16 hZ 4000000000)) (by decide +kernel) rfl (fun h => by cases h)
abbrev mX7_clear : rx_M := (RX7, cX7_clear, 1, none, false)
theorem vy_X7_clear : rx_Y (zV b e D A X) yX7_clear mX7_clear 0 := ⟨zw1234, zw426, by decide, by decide +kernel, by decide +kernel, by decide +kernel⟩
noncomputable def vX7_clear_86 : rx_K := o_putf rx_isZ 7 15 (o_ld rx_isR 0 (o_const 0 (o_putf rx_isI 7 16 (o_ld rx_isR 0 (o_const 0 (o_putf rx_isI 7 17 (o_ld rx_isR 0 (o_const 0 (o_putf rx_isI 7 18 (o_ret0))))))))))
set_option maxRecDepth 20000 in
theorem wX7_clear_86 (hZ : zO b e D A X) : rx_OK (zV b e D A X) mX7_clear 1 86 vX7_clear_86 := by
  unfold vX7_clear_86
  refine yp7_15 hZ.1 dX7_clear_86 zw1051 ?_
  refine s_aload_n hZ.1 dX7_clear_89 rfl ?_
  refine s_iconst dX7_clear_90 (by decide +kernel) ?_
  refine yp7_16 hZ.1 dX7_clear_91 zw1058 ?_
  refine s_aload_n hZ.1 dX7_clear_94 rfl ?_
  refine s_iconst dX7_clear_95 (by decide +kernel) ?_
  refine yp7_17 hZ.1 dX7_clear_96 zw1065 ?_
  refine s_aload_n hZ.1 dX7_clear_99 rfl ?_
  refine s_iconst dX7_clear_100 (by decide +kernel) ?_
  refine yp7_18 hZ.1 dX7_clear_101 zw1068 ?_
  exact s_vret rfl dX7_clear_104
noncomputable def vX7_clear_42 : rx_K := o_ld rx_isR 0 (o_const 147573952589676412905 (o_putf rx_isL 7 8 (o_ld rx_isR 0 (o_const 0 (o_putf rx_isI 7 9 (o_ld rx_isR 0 (o_getf 7 10 (o_const 147573952589676412897 (o_callS 2 FJ7_fill_d0a16 (o_ld rx_isR 0 (o_const 0 (o_putf rx_isI 7 11 (o_ld rx_isR 0 (o_const 0 (o_putf rx_isI 7 12 (o_ld rx_isR 0 (o_const 0 (o_putf rx_isI 7 13 (o_ld rx_isR 0 (o_const 3 (o_putf rx_isR 7 14 (o_ld rx_isR 0 (o_const 0 (vX7_clear_86))))))))))))))))))))))))
set_option maxRecDepth 20000 in
theorem wX7_clear_42 (hZ : zO b e D A X) : rx_OK (zV b e D A X) mX7_clear 1 42 vX7_clear_42 := by
  unfold vX7_clear_42
  refine s_aload_n hZ.1 dX7_clear_42 rfl ?_
  refine s_ldc2 dX7_clear_43 zw1236 (by decide +kernel) ?_
  refine yp7_8 hZ.1 dX7_clear_46 zw1012 ?_
  refine s_aload_n hZ.1 dX7_clear_49 rfl ?_
  refine s_iconst dX7_clear_50 (by decide +kernel) ?_
  refine yp7_9 hZ.1 dX7_clear_51 zw1021 ?_
  refine s_aload_n hZ.1 dX7_clear_54 rfl ?_
  refine yg7_10 dX7_clear_55 zw1029 ?_
  refine s_ldc2 dX7_clear_58 zw1235 (by decide +kernel) ?_
  refine s_callS hZ.1 (Met_J7_fill_d0a16 hZ) (Nat.le_of_ble_eq_true rfl) vy_J7_fill_d0a16 zw1238 (Or.inl zw1237) dX7_clear_61 ?_
  refine s_aload_n hZ.1 dX7_clear_64 rfl ?_
  refine s_iconst dX7_clear_65 (by decide +kernel) ?_
  refine yp7_11 hZ.1 dX7_clear_66 zw1036 ?_
  refine s_aload_n hZ.1 dX7_clear_69 rfl ?_
  refine s_iconst dX7_clear_70 (by decide +kernel) ?_
  refine yp7_12 hZ.1 dX7_clear_71 zw1040 ?_
  refine s_aload_n hZ.1 dX7_clear_74 rfl ?_
  refine s_iconst dX7_clear_75 (by decide +kernel) ?_
  refine yp7_13 hZ.1 dX7_clear_76 zw1043 ?_
  refine s_aload_n hZ.1 dX7_clear_79 rfl ?_
  refine s_null dX7_clear_80 ?_
  refine yp7_14 hZ.1 dX7_clear_81 zw1046 ?_
  refine s_aload_n hZ.1 dX7_clear_84 rfl ?_
  refine s_iconst dX7_clear_85 (by decide +kernel) ?_
  exact (wX7_clear_86 hZ)
noncomputable def vX7_clear_0 : rx_K := o_ld rx_isR 0 (o_const 0 (o_putf rx_isI 7 0 (o_ld rx_isR 0 (o_const 8 (o_putf rx_isI 7 1 (o_ld rx_isR 0 (o_const 0 (o_putf rx_isZ 7 2 (o_ld rx_isR 0 (o_const 0 (o_putf rx_isZ 7 3 (o_ld rx_isR 0 (o_const 0 (o_putf rx_isZ 7 4 (o_ld rx_isR 0 (o_const 0 (o_putf rx_isZ 7 5 (o_ld rx_isR 0 (o_const 0 (o_putf rx_isZ 7 6 (o_ld rx_isR 0 (o_const 147573952589676412897 (o_putf rx_isL 7 7 (vX7_clear_42))))))))))))))))))))))))
set_option maxRecDepth 20000 in
theorem wX7_clear_0 (hZ : zO b e D A X) : rx_OK (zV b e D A X) mX7_clear 1 0 vX7_clear_0 := by
  unfold vX7_clear_0
  refine s_aload_n hZ.1 dX7_clear_0 rfl ?_
  refine s_iconst dX7_clear_1 (by decide +kernel) ?_
  refine yp7_0 hZ.1 dX7_clear_2 zw942 ?_
  refine s_aload_n hZ.1 dX7_clear_5 rfl ?_
  refine s_iconst dX7_clear_6 (by decide +kernel) ?_
  refine yp7_1 hZ.1 dX7_clear_7 zw954 ?_
  refine s_aload_n hZ.1 dX7_clear_10 rfl ?_
  refine s_iconst dX7_clear_11 (by decide +kernel) ?_
  refine yp7_2 hZ.1 dX7_clear_12 zw961 ?_
  refine s_aload_n hZ.1 dX7_clear_15 rfl ?_
  refine s_iconst dX7_clear_16 (by decide +kernel) ?_
  refine yp7_3 hZ.1 dX7_clear_17 zw972 ?_
  refine s_aload_n hZ.1 dX7_clear_20 rfl ?_
  refine s_iconst dX7_clear_21 (by decide +kernel) ?_
  refine yp7_4 hZ.1 dX7_clear_22 zw979 ?_
  refine s_aload_n hZ.1 dX7_clear_25 rfl ?_
  refine s_iconst dX7_clear_26 (by decide +kernel) ?_
  refine yp7_5 hZ.1 dX7_clear_27 zw988 ?_
  refine s_aload_n hZ.1 dX7_clear_30 rfl ?_
  refine s_iconst dX7_clear_31 (by decide +kernel) ?_
  refine yp7_6 hZ.1 dX7_clear_32 zw995 ?_
  refine s_aload_n hZ.1 dX7_clear_35 rfl ?_
  refine s_ldc2 dX7_clear_36 zw1235 (by decide +kernel) ?_
  refine yp7_7 hZ.1 dX7_clear_39 zw1003 ?_
  exact (wX7_clear_42 hZ)
noncomputable def FX7_clear : List Nat → rx_H → Option (Nat × rx_H) := rx_ent 1 vX7_clear_0
theorem Met_X7_clear (hZ : zO b e D A X) : rx_Met (zV b e D A X) 1 yX7_clear mX7_clear (FX7_clear) := rx_entry hZ.1 (wX7_clear_0 hZ) (by decide +kernel) rfl (fun h => by cases h)
abbrev mX1_newMember : rx_M := (RX1, cX1_newMember, 2, (some (.object "LinkHouse$Member")), false)
theorem vy_X1_newMember : rx_Y (zV b e D A X) yX1_newMember mX1_newMember 0 := ⟨zw1230, zw424, by decide, by decide +kernel, by decide +kernel, by decide +kernel⟩
noncomputable def vX1_newMember_23 : rx_K := o_ld rx_isR 0 (o_getf 1 4 (o_ld rx_isR 0 (o_getf 1 5 (o_ald 5 (o_st rx_isR 1 (o_ld rx_isR 0 (o_dup (o_getf 1 5 (o_const 8 (o_bi (fun x y => x + y) (o_putf rx_isI 1 5 (o_ld rx_isR 1 (o_callV 0 7 FX7_clear (o_ld rx_isR 1 (o_ret1 rx_isR)))))))))))))))
set_option maxRecDepth 20000 in
theorem wX1_newMember_23 (hZ : zO b e D A X) : rx_OK (zV b e D A X) mX1_newMember 2 23 vX1_newMember_23 := by
  unfold vX1_newMember_23
  refine s_aload_n hZ.1 dX1_newMember_23 rfl ?_
  refine yg1_4 dX1_newMember_24 zw1127 ?_
  refine s_aload_n hZ.1 dX1_newMember_27 rfl ?_
  refine yg1_5 dX1_newMember_28 zw1128 ?_
  refine s_aald (tt := 5) rfl rfl dX1_newMember_31 ?_
  refine s_astore_n hZ.1 dX1_newMember_32 rfl (Nat.le_of_ble_eq_true rfl) ?_
  refine s_aload_n hZ.1 dX1_newMember_33 rfl ?_
  refine s_dup hZ.1 dX1_newMember_34 ?_
  refine yg1_5 dX1_newMember_35 zw1128 ?_
  refine s_iconst dX1_newMember_38 (by decide +kernel) ?_
  refine s_iadd dX1_newMember_39 ?_
  refine yp1_5 hZ.1 dX1_newMember_40 zw1128 ?_
  refine s_aload_n hZ.1 dX1_newMember_43 rfl ?_
  refine s_callV hZ.1 (Met_X7_clear hZ) (Nat.le_of_ble_eq_true rfl) vy_X7_clear zcl7 zw1232 zw1233 (Or.inl zw1231) dX1_newMember_44 ?_
  refine s_aload_n hZ.1 dX1_newMember_47 rfl ?_
  exact s_aret hZ.1 rfl (Or.inl ⟨_, rfl⟩) dX1_newMember_48
noncomputable def vX1_newMember_12 : rx_K := o_ld rx_isR 0 (o_ld rx_isR 0 (o_getf 1 4 (o_alen 5 (o_const 8 (o_bi (fun x y => x - y) (o_putf rx_isI 1 5 (vX1_newMember_23)))))))
set_option maxRecDepth 20000 in
theorem wX1_newMember_12 (hZ : zO b e D A X) : rx_OK (zV b e D A X) mX1_newMember 2 12 vX1_newMember_12 := by
  unfold vX1_newMember_12
  refine s_aload_n hZ.1 dX1_newMember_12 rfl ?_
  refine s_aload_n hZ.1 dX1_newMember_13 rfl ?_
  refine yg1_4 dX1_newMember_14 zw1127 ?_
  refine s_alen (tt := 5) rfl dX1_newMember_17 ?_
  refine s_iconst dX1_newMember_18 (by decide +kernel) ?_
  refine s_isub dX1_newMember_19 ?_
  refine yp1_5 hZ.1 dX1_newMember_20 zw1128 ?_
  exact (wX1_newMember_23 hZ)
noncomputable def vX1_newMember_0 : rx_K := o_ld rx_isR 0 (o_getf 1 5 (o_ld rx_isR 0 (o_getf 1 4 (o_alen 5 (o_c2 rx_lt vX1_newMember_23 vX1_newMember_12)))))
set_option maxRecDepth 20000 in
theorem wX1_newMember_0 (hZ : zO b e D A X) : rx_OK (zV b e D A X) mX1_newMember 2 0 vX1_newMember_0 := by
  unfold vX1_newMember_0
  refine s_aload_n hZ.1 dX1_newMember_0 rfl ?_
  refine yg1_5 dX1_newMember_1 zw1128 ?_
  refine s_aload_n hZ.1 dX1_newMember_4 rfl ?_
  refine yg1_4 dX1_newMember_5 zw1127 ?_
  refine s_alen (tt := 5) rfl dX1_newMember_8 ?_
  exact s_icmp_lt dX1_newMember_9 (by decide) (wX1_newMember_23 hZ) (wX1_newMember_12 hZ)
noncomputable def FX1_newMember : List Nat → rx_H → Option (Nat × rx_H) := rx_ent 2 vX1_newMember_0
theorem Met_X1_newMember (hZ : zO b e D A X) : rx_Met (zV b e D A X) 2 yX1_newMember mX1_newMember (FX1_newMember) := rx_entry hZ.1 (wX1_newMember_0 hZ) (by decide +kernel) rfl (fun h => by cases h)
abbrev mX1_indexOf : rx_M := (RX1, cX1_indexOf, 3, (some .int), false)
theorem vy_X1_indexOf : rx_Y (zV b e D A X) yX1_indexOf mX1_indexOf 1 := ⟨zw2606, zw424, by decide, by decide +kernel, by decide +kernel, by decide +kernel⟩
noncomputable def vX1_indexOf_28 (j : Nat → rx_K) : rx_K := o_const 34359738352 (o_ret1 rx_isI)
set_option maxRecDepth 20000 in
theorem wX1_indexOf_28 (hZ : zO b e D A X) (j : Nat → rx_K) (hj : ∀ k pc, [2][k]? = some pc → rx_OK (zV b e D A X) mX1_indexOf 0 pc (j k)) : rx_OK (zV b e D A X) mX1_indexOf 0 28 (vX1_indexOf_28 j) := by
  unfold vX1_indexOf_28
  refine s_bipush dX1_indexOf_28 (by decide +kernel) ?_
  exact s_iret hZ.1 rfl dX1_indexOf_30
noncomputable def vX1_indexOf_22 (j : Nat → rx_K) : rx_K := o_inc 2 (1) ((j 0))
set_option maxRecDepth 20000 in
theorem wX1_indexOf_22 (hZ : zO b e D A X) (j : Nat → rx_K) (hj : ∀ k pc, [2][k]? = some pc → rx_OK (zV b e D A X) mX1_indexOf 0 pc (j k)) : rx_OK (zV b e D A X) mX1_indexOf 0 22 (vX1_indexOf_22 j) := by
  unfold vX1_indexOf_22
  refine s_iinc hZ.1 dX1_indexOf_22 (Nat.le_of_ble_eq_true rfl) ?_
  exact s_goto dX1_indexOf_25 (by decide) (hj 0 2 rfl)
noncomputable def vX1_indexOf_20 (j : Nat → rx_K) : rx_K := o_ld rx_isI 2 (o_ret1 rx_isI)
set_option maxRecDepth 20000 in
theorem wX1_indexOf_20 (hZ : zO b e D A X) (j : Nat → rx_K) (hj : ∀ k pc, [2][k]? = some pc → rx_OK (zV b e D A X) mX1_indexOf 0 pc (j k)) : rx_OK (zV b e D A X) mX1_indexOf 0 20 (vX1_indexOf_20 j) := by
  unfold vX1_indexOf_20
  refine s_iload_n hZ.1 dX1_indexOf_20 rfl ?_
  exact s_iret hZ.1 rfl dX1_indexOf_21
noncomputable def vX1_indexOf_10 (j : Nat → rx_K) : rx_K := o_ld rx_isR 0 (o_getf 1 2 (o_ld rx_isI 2 (o_ald 4 (o_ld rx_isR 1 (o_acmp (vX1_indexOf_20 j) (vX1_indexOf_22 j))))))
set_option maxRecDepth 20000 in
theorem wX1_indexOf_10 (hZ : zO b e D A X) (j : Nat → rx_K) (hj : ∀ k pc, [2][k]? = some pc → rx_OK (zV b e D A X) mX1_indexOf 0 pc (j k)) : rx_OK (zV b e D A X) mX1_indexOf 0 10 (vX1_indexOf_10 j) := by
  unfold vX1_indexOf_10
  refine s_aload_n hZ.1 dX1_indexOf_10 rfl ?_
  refine yg1_2 dX1_indexOf_11 zw1113 ?_
  refine s_iload_n hZ.1 dX1_indexOf_14 rfl ?_
  refine s_aald (tt := 4) rfl rfl dX1_indexOf_15 ?_
  refine s_aload_n hZ.1 dX1_indexOf_16 rfl ?_
  exact s_acmp_ne hZ.1 dX1_indexOf_17 (by decide) (wX1_indexOf_22 hZ j hj) (wX1_indexOf_20 hZ j hj)
noncomputable def vX1_indexOf_2 (j : Nat → rx_K) : rx_K := o_ld rx_isI 2 (o_ld rx_isR 0 (o_getf 1 3 (o_c2 rx_lt (vX1_indexOf_10 j) (vX1_indexOf_28 j))))
set_option maxRecDepth 20000 in
theorem wX1_indexOf_2 (hZ : zO b e D A X) (j : Nat → rx_K) (hj : ∀ k pc, [2][k]? = some pc → rx_OK (zV b e D A X) mX1_indexOf 0 pc (j k)) : rx_OK (zV b e D A X) mX1_indexOf 0 2 (vX1_indexOf_2 j) := by
  unfold vX1_indexOf_2
  refine s_iload_n hZ.1 dX1_indexOf_2 rfl ?_
  refine s_aload_n hZ.1 dX1_indexOf_3 rfl ?_
  refine yg1_3 dX1_indexOf_4 zw1120 ?_
  exact s_icmp_ge dX1_indexOf_7 (by decide) (wX1_indexOf_28 hZ j hj) (wX1_indexOf_10 hZ j hj)
noncomputable def vX1_indexOf_0 (j : Nat → rx_K) : rx_K := o_const 0 (o_st rx_isI 2 ((vX1_indexOf_2 j)))
set_option maxRecDepth 20000 in
theorem wX1_indexOf_0 (hZ : zO b e D A X) (j : Nat → rx_K) (hj : ∀ k pc, [2][k]? = some pc → rx_OK (zV b e D A X) mX1_indexOf 0 pc (j k)) : rx_OK (zV b e D A X) mX1_indexOf 0 0 (vX1_indexOf_0 j) := by
  unfold vX1_indexOf_0
  refine s_iconst dX1_indexOf_0 (by decide +kernel) ?_
  refine s_istore_n hZ.1 dX1_indexOf_1 rfl (Nat.le_of_ble_eq_true rfl) ?_
  exact (wX1_indexOf_2 hZ j hj)
noncomputable def vhX1_indexOf (j : Nat → rx_K) : List rx_K := [vX1_indexOf_2 j]
theorem vlX1_indexOf (hZ : zO b e D A X) : ∀ n k pc, [2][k]? = some pc → rx_OK (zV b e D A X) mX1_indexOf 0 pc (rx_J (vhX1_indexOf) n k) := rx_loop fun j hj k pc h => by
  match k, h with
  | 0, h =>
    have e9 := Option.some.inj (show some 2 = some pc from h)
    subst e9
    exact wX1_indexOf_2 hZ j hj
  | _ + 1, h => exact absurd h (by simp)
noncomputable def FX1_indexOf : List Nat → rx_H → Option (Nat × rx_H) := rx_ent 3 (vX1_indexOf_0 (rx_J (vhX1_indexOf) 4000000000))
theorem Met_X1_indexOf (hZ : zO b e D A X) : rx_Met (zV b e D A X) 0 yX1_indexOf mX1_indexOf (FX1_indexOf) := rx_entry hZ.1 (wX1_indexOf_0 hZ _ (vlX1_indexOf hZ 4000000000)) (by decide +kernel) rfl (fun h => by cases h)
abbrev mX1_named : rx_M := (RX1, cX1_named, 4, (some (.object "LinkHouse$Row")), false)
theorem vy_X1_named : rx_Y (zV b e D A X) yX1_named mX1_named 1 := ⟨zw1916, zw424, by decide, by decide +kernel, by decide +kernel, by decide +kernel⟩
noncomputable def vX1_named_37 (j : Nat → rx_K) : rx_K := o_const 3 (o_ret1 rx_isR)
set_option maxRecDepth 20000 in
theorem wX1_named_37 (hZ : zO b e D A X) (j : Nat → rx_K) (hj : ∀ k pc, [2][k]? = some pc → rx_OK (zV b e D A X) mX1_named 0 pc (j k)) : rx_OK (zV b e D A X) mX1_named 0 37 (vX1_named_37 j) := by
  unfold vX1_named_37
  refine s_null dX1_named_37 ?_
  exact s_aret hZ.1 rfl (Or.inl ⟨_, rfl⟩) dX1_named_38
noncomputable def vX1_named_31 (j : Nat → rx_K) : rx_K := o_inc 3 (1) ((j 0))
set_option maxRecDepth 20000 in
theorem wX1_named_31 (hZ : zO b e D A X) (j : Nat → rx_K) (hj : ∀ k pc, [2][k]? = some pc → rx_OK (zV b e D A X) mX1_named 0 pc (j k)) : rx_OK (zV b e D A X) mX1_named 0 31 (vX1_named_31 j) := by
  unfold vX1_named_31
  refine s_iinc hZ.1 dX1_named_31 (Nat.le_of_ble_eq_true rfl) ?_
  exact s_goto dX1_named_34 (by decide) (hj 0 2 rfl)
noncomputable def vX1_named_24 (j : Nat → rx_K) : rx_K := o_ld rx_isR 0 (o_getf 1 2 (o_ld rx_isI 3 (o_ald 4 (o_ret1 rx_isR))))
set_option maxRecDepth 20000 in
theorem wX1_named_24 (hZ : zO b e D A X) (j : Nat → rx_K) (hj : ∀ k pc, [2][k]? = some pc → rx_OK (zV b e D A X) mX1_named 0 pc (j k)) : rx_OK (zV b e D A X) mX1_named 0 24 (vX1_named_24 j) := by
  unfold vX1_named_24
  refine s_aload_n hZ.1 dX1_named_24 rfl ?_
  refine yg1_2 dX1_named_25 zw1113 ?_
  refine s_iload_n hZ.1 dX1_named_28 rfl ?_
  refine s_aald (tt := 4) rfl rfl dX1_named_29 ?_
  exact s_aret hZ.1 rfl (Or.inl ⟨_, rfl⟩) dX1_named_30
noncomputable def vX1_named_10 (j : Nat → rx_K) : rx_K := o_ld rx_isR 0 (o_getf 1 2 (o_ld rx_isI 3 (o_ald 4 (o_getf 10 1 (o_ld rx_isL 1 (o_bc (fun x y => lg_cmp x y) (o_c1 rx_eq (vX1_named_24 j) (vX1_named_31 j))))))))
set_option maxRecDepth 20000 in
theorem wX1_named_10 (hZ : zO b e D A X) (j : Nat → rx_K) (hj : ∀ k pc, [2][k]? = some pc → rx_OK (zV b e D A X) mX1_named 0 pc (j k)) : rx_OK (zV b e D A X) mX1_named 0 10 (vX1_named_10 j) := by
  unfold vX1_named_10
  refine s_aload_n hZ.1 dX1_named_10 rfl ?_
  refine yg1_2 dX1_named_11 zw1113 ?_
  refine s_iload_n hZ.1 dX1_named_14 rfl ?_
  refine s_aald (tt := 4) rfl rfl dX1_named_15 ?_
  refine yg10_1 dX1_named_16 zw773 ?_
  refine s_lload_n hZ.1 dX1_named_19 rfl ?_
  refine s_lcmp dX1_named_20 ?_
  exact s_if_ne dX1_named_21 (by decide) (wX1_named_31 hZ j hj) (wX1_named_24 hZ j hj)
noncomputable def vX1_named_2 (j : Nat → rx_K) : rx_K := o_ld rx_isI 3 (o_ld rx_isR 0 (o_getf 1 3 (o_c2 rx_lt (vX1_named_10 j) (vX1_named_37 j))))
set_option maxRecDepth 20000 in
theorem wX1_named_2 (hZ : zO b e D A X) (j : Nat → rx_K) (hj : ∀ k pc, [2][k]? = some pc → rx_OK (zV b e D A X) mX1_named 0 pc (j k)) : rx_OK (zV b e D A X) mX1_named 0 2 (vX1_named_2 j) := by
  unfold vX1_named_2
  refine s_iload_n hZ.1 dX1_named_2 rfl ?_
  refine s_aload_n hZ.1 dX1_named_3 rfl ?_
  refine yg1_3 dX1_named_4 zw1120 ?_
  exact s_icmp_ge dX1_named_7 (by decide) (wX1_named_37 hZ j hj) (wX1_named_10 hZ j hj)
noncomputable def vX1_named_0 (j : Nat → rx_K) : rx_K := o_const 0 (o_st rx_isI 3 ((vX1_named_2 j)))
set_option maxRecDepth 20000 in
theorem wX1_named_0 (hZ : zO b e D A X) (j : Nat → rx_K) (hj : ∀ k pc, [2][k]? = some pc → rx_OK (zV b e D A X) mX1_named 0 pc (j k)) : rx_OK (zV b e D A X) mX1_named 0 0 (vX1_named_0 j) := by
  unfold vX1_named_0
  refine s_iconst dX1_named_0 (by decide +kernel) ?_
  refine s_istore_n hZ.1 dX1_named_1 rfl (Nat.le_of_ble_eq_true rfl) ?_
  exact (wX1_named_2 hZ j hj)
noncomputable def vhX1_named (j : Nat → rx_K) : List rx_K := [vX1_named_2 j]
theorem vlX1_named (hZ : zO b e D A X) : ∀ n k pc, [2][k]? = some pc → rx_OK (zV b e D A X) mX1_named 0 pc (rx_J (vhX1_named) n k) := rx_loop fun j hj k pc h => by
  match k, h with
  | 0, h =>
    have e9 := Option.some.inj (show some 2 = some pc from h)
    subst e9
    exact wX1_named_2 hZ j hj
  | _ + 1, h => exact absurd h (by simp)
noncomputable def FX1_named : List Nat → rx_H → Option (Nat × rx_H) := rx_ent 4 (vX1_named_0 (rx_J (vhX1_named) 4000000000))
theorem Met_X1_named (hZ : zO b e D A X) : rx_Met (zV b e D A X) 0 yX1_named mX1_named (FX1_named) := rx_entry hZ.1 (wX1_named_0 hZ _ (vlX1_named hZ 4000000000)) (by decide +kernel) rfl (fun h => by cases h)
abbrev mX1_emit : rx_M := (RX1, cX1_emit, 3, (some .int), false)
theorem vy_X1_emit : rx_Y (zV b e D A X) yX1_emit mX1_emit 2 := ⟨zw2256, zw424, by decide, by decide +kernel, by decide +kernel, by decide +kernel⟩
noncomputable def vX1_emit_55 : rx_K := o_ret1 rx_isI
set_option maxRecDepth 20000 in
theorem wX1_emit_55 (hZ : zO b e D A X) : rx_OK (zV b e D A X) mX1_emit 0 55 vX1_emit_55 := by
  unfold vX1_emit_55
  exact s_iret hZ.1 rfl dX1_emit_55
noncomputable def vX1_emit_17 : rx_K := o_ld rx_isR 0 (o_getf 1 16 (o_ld rx_isR 0 (o_getf 1 17 (o_ld rx_isI 1 (o_ast 0 (fun v => v) rx_isI (o_ld rx_isR 0 (o_getf 1 16 (o_ld rx_isR 0 (o_getf 1 17 (o_const 8 (o_bi (fun x y => x + y) (o_ld rx_isI 2 (o_ast 0 (fun v => v) rx_isI (o_ld rx_isR 0 (o_dup (o_getf 1 17 (o_const 16 (o_bi (fun x y => x + y) (o_putf rx_isI 1 17 (o_ld rx_isR 0 (o_getf 1 17 (o_const 8 (o_bi (fun x y => x - y) (vX1_emit_55))))))))))))))))))))))))
set_option maxRecDepth 20000 in
theorem wX1_emit_17 (hZ : zO b e D A X) : rx_OK (zV b e D A X) mX1_emit 0 17 vX1_emit_17 := by
  unfold vX1_emit_17
  refine s_aload_n hZ.1 dX1_emit_17 rfl ?_
  refine yg1_16 dX1_emit_18 zw1168 ?_
  refine s_aload_n hZ.1 dX1_emit_21 rfl ?_
  refine yg1_17 dX1_emit_22 zw1171 ?_
  refine s_iload_n hZ.1 dX1_emit_25 rfl ?_
  refine s_iast hZ.1 (tt := 0) rfl dX1_emit_26 ?_
  refine s_aload_n hZ.1 dX1_emit_27 rfl ?_
  refine yg1_16 dX1_emit_28 zw1168 ?_
  refine s_aload_n hZ.1 dX1_emit_31 rfl ?_
  refine yg1_17 dX1_emit_32 zw1171 ?_
  refine s_iconst dX1_emit_35 (by decide +kernel) ?_
  refine s_iadd dX1_emit_36 ?_
  refine s_iload_n hZ.1 dX1_emit_37 rfl ?_
  refine s_iast hZ.1 (tt := 0) rfl dX1_emit_38 ?_
  refine s_aload_n hZ.1 dX1_emit_39 rfl ?_
  refine s_dup hZ.1 dX1_emit_40 ?_
  refine yg1_17 dX1_emit_41 zw1171 ?_
  refine s_iconst dX1_emit_44 (by decide +kernel) ?_
  refine s_iadd dX1_emit_45 ?_
  refine yp1_17 hZ.1 dX1_emit_46 zw1171 ?_
  refine s_aload_n hZ.1 dX1_emit_49 rfl ?_
  refine yg1_17 dX1_emit_50 zw1171 ?_
  refine s_iconst dX1_emit_53 (by decide +kernel) ?_
  refine s_isub dX1_emit_54 ?_
  exact (wX1_emit_55 hZ)
noncomputable def vX1_emit_14 : rx_K := o_const 34359738352 (o_ret1 rx_isI)
set_option maxRecDepth 20000 in
theorem wX1_emit_14 (hZ : zO b e D A X) : rx_OK (zV b e D A X) mX1_emit 0 14 vX1_emit_14 := by
  unfold vX1_emit_14
  refine s_bipush dX1_emit_14 (by decide +kernel) ?_
  exact s_iret hZ.1 rfl dX1_emit_16
noncomputable def vX1_emit_0 : rx_K := o_ld rx_isR 0 (o_getf 1 17 (o_const 16 (o_bi (fun x y => x + y) (o_ld rx_isR 0 (o_getf 1 16 (o_alen 0 (o_c2 (fun h x y => rx_lt h y x) vX1_emit_14 vX1_emit_17)))))))
set_option maxRecDepth 20000 in
theorem wX1_emit_0 (hZ : zO b e D A X) : rx_OK (zV b e D A X) mX1_emit 0 0 vX1_emit_0 := by
  unfold vX1_emit_0
  refine s_aload_n hZ.1 dX1_emit_0 rfl ?_
  refine yg1_17 dX1_emit_1 zw1171 ?_
  refine s_iconst dX1_emit_4 (by decide +kernel) ?_
  refine s_iadd dX1_emit_5 ?_
  refine s_aload_n hZ.1 dX1_emit_6 rfl ?_
  refine yg1_16 dX1_emit_7 zw1168 ?_
  refine s_alen (tt := 0) rfl dX1_emit_10 ?_
  exact s_icmp_le dX1_emit_11 (by decide) (wX1_emit_17 hZ) (wX1_emit_14 hZ)
noncomputable def FX1_emit : List Nat → rx_H → Option (Nat × rx_H) := rx_ent 3 vX1_emit_0
theorem Met_X1_emit (hZ : zO b e D A X) : rx_Met (zV b e D A X) 0 yX1_emit mX1_emit (FX1_emit) := rx_entry hZ.1 (wX1_emit_0 hZ) (by decide +kernel) rfl (fun h => by cases h)
abbrev mX1_patch : rx_M := (RX1, cX1_patch, 2, none, false)
theorem vy_X1_patch : rx_Y (zV b e D A X) yX1_patch mX1_patch 1 := ⟨zw2289, zw424, by decide, by decide +kernel, by decide +kernel, by decide +kernel⟩
noncomputable def vX1_patch_23 : rx_K := o_ret0
set_option maxRecDepth 20000 in
theorem wX1_patch_23 (hZ : zO b e D A X) : rx_OK (zV b e D A X) mX1_patch 0 23 vX1_patch_23 := by
  unfold vX1_patch_23
  exact s_vret rfl dX1_patch_23
noncomputable def vX1_patch_13 : rx_K := o_ld rx_isR 0 (o_getf 1 16 (o_ld rx_isI 1 (o_ld rx_isR 0 (o_getf 1 17 (o_ast 0 (fun v => v) rx_isI (vX1_patch_23))))))
set_option maxRecDepth 20000 in
theorem wX1_patch_13 (hZ : zO b e D A X) : rx_OK (zV b e D A X) mX1_patch 0 13 vX1_patch_13 := by
  unfold vX1_patch_13
  refine s_aload_n hZ.1 dX1_patch_13 rfl ?_
  refine yg1_16 dX1_patch_14 zw1168 ?_
  refine s_iload_n hZ.1 dX1_patch_17 rfl ?_
  refine s_aload_n hZ.1 dX1_patch_18 rfl ?_
  refine yg1_17 dX1_patch_19 zw1171 ?_
  refine s_iast hZ.1 (tt := 0) rfl dX1_patch_22 ?_
  exact (wX1_patch_23 hZ)
noncomputable def vX1_patch_4 : rx_K := o_ld rx_isI 1 (o_ld rx_isR 0 (o_getf 1 16 (o_alen 0 (o_c2 rx_lt vX1_patch_13 vX1_patch_23))))
set_option maxRecDepth 20000 in
theorem wX1_patch_4 (hZ : zO b e D A X) : rx_OK (zV b e D A X) mX1_patch 0 4 vX1_patch_4 := by
  unfold vX1_patch_4
  refine s_iload_n hZ.1 dX1_patch_4 rfl ?_
  refine s_aload_n hZ.1 dX1_patch_5 rfl ?_
  refine yg1_16 dX1_patch_6 zw1168 ?_
  refine s_alen (tt := 0) rfl dX1_patch_9 ?_
  exact s_icmp_ge dX1_patch_10 (by decide) (wX1_patch_23 hZ) (wX1_patch_13 hZ)
noncomputable def vX1_patch_0 : rx_K := o_ld rx_isI 1 (o_c1 rx_lt vX1_patch_23 vX1_patch_4)
set_option maxRecDepth 20000 in
theorem wX1_patch_0 (hZ : zO b e D A X) : rx_OK (zV b e D A X) mX1_patch 0 0 vX1_patch_0 := by
  unfold vX1_patch_0
  refine s_iload_n hZ.1 dX1_patch_0 rfl ?_
  exact s_if_lt dX1_patch_1 (by decide) (wX1_patch_23 hZ) (wX1_patch_4 hZ)
noncomputable def FX1_patch : List Nat → rx_H → Option (Nat × rx_H) := rx_ent 2 vX1_patch_0
theorem Met_X1_patch (hZ : zO b e D A X) : rx_Met (zV b e D A X) 0 yX1_patch mX1_patch (FX1_patch) := rx_entry hZ.1 (wX1_patch_0 hZ) (by decide +kernel) rfl (fun h => by cases h)
abbrev mX2_init : rx_M := (RX2, cX2_init, 1, none, true)
theorem vy_X2_init : rx_Y (zV b e D A X) yX2_init mX2_init 0 := ⟨zw1427, zw429, by decide, by decide +kernel, by decide +kernel, by decide +kernel⟩
noncomputable def vX2_init_0 : rx_K := o_ld rx_isR 0 (o_obj (o_ld rx_isR 0 (o_const 64000 (o_newa 0 0 (o_putf rx_isR 2 3 (o_ld rx_isR 0 (o_const 5600 (o_newa 0 0 (o_putf rx_isR 2 8 (o_ld rx_isR 0 (o_const 5600 (o_newa 0 0 (o_putf rx_isR 2 9 (o_ret0))))))))))))))
set_option maxRecDepth 20000 in
theorem wX2_init_0 (hZ : zO b e D A X) : rx_OK (zV b e D A X) mX2_init 1 0 vX2_init_0 := by
  unfold vX2_init_0
  refine s_aload_n hZ.1 dX2_init_0 rfl ?_
  refine s_obj hZ.1 (Nat.le_of_ble_eq_true rfl) zw1428 zw440 zw441 dX2_init_1 ?_
  refine s_aload_n hZ.1 dX2_init_4 rfl ?_
  refine s_sipush dX2_init_5 (by decide +kernel) ?_
  refine s_newa (tt := 0) (ty := .int) rfl rfl rfl rfl rfl (by decide) zw527 dX2_init_8 ?_
  refine yp2_3 hZ.1 rfl rfl dX2_init_10 zw1432 ?_
  refine s_aload_n hZ.1 dX2_init_13 rfl ?_
  refine s_sipush dX2_init_14 (by decide +kernel) ?_
  refine s_newa (tt := 0) (ty := .int) rfl rfl rfl rfl rfl (by decide) zw527 dX2_init_17 ?_
  refine yp2_8 hZ.1 rfl rfl dX2_init_19 zw1440 ?_
  refine s_aload_n hZ.1 dX2_init_22 rfl ?_
  refine s_sipush dX2_init_23 (by decide +kernel) ?_
  refine s_newa (tt := 0) (ty := .int) rfl rfl rfl rfl rfl (by decide) zw527 dX2_init_26 ?_
  refine yp2_9 hZ.1 rfl rfl dX2_init_28 zw1441 ?_
  exact s_vret rfl dX2_init_31
noncomputable def FX2_init : List Nat → rx_H → Option (Nat × rx_H) := rx_ent 1 vX2_init_0
theorem Met_X2_init (hZ : zO b e D A X) : rx_Met (zV b e D A X) 1 yX2_init mX2_init (FX2_init) := rx_entry hZ.1 (wX2_init_0 hZ) (by decide +kernel) rfl (fun _ => rfl)
abbrev mX2_breaks : rx_M := (RX2, cX2_breaks, 1, (some .boolean), false)
theorem vy_X2_breaks : rx_Y (zV b e D A X) yX2_breaks mX2_breaks 1 := ⟨zw2613, zw429, by decide, by decide +kernel, by decide +kernel, by decide +kernel⟩
noncomputable def vX2_breaks_222 : rx_K := o_const 0 (o_ret1 rx_isZ)
set_option maxRecDepth 20000 in
theorem wX2_breaks_222 (hZ : zO b e D A X) : rx_OK (zV b e D A X) mX2_breaks 0 222 vX2_breaks_222 := by
  unfold vX2_breaks_222
  refine s_iconst dX2_breaks_222 (by decide +kernel) ?_
  exact s_zret rx_z_ok rfl dX2_breaks_223
noncomputable def vX2_breaks_220 : rx_K := o_const 8 (o_ret1 rx_isZ)
set_option maxRecDepth 20000 in
theorem wX2_breaks_220 (hZ : zO b e D A X) : rx_OK (zV b e D A X) mX2_breaks 0 220 vX2_breaks_220 := by
  unfold vX2_breaks_220
  refine s_iconst dX2_breaks_220 (by decide +kernel) ?_
  exact s_zret rx_z_ok rfl dX2_breaks_221
noncomputable def vX2_breaks_0 : rx_K := o_ld rx_isI 0 (o_sw 1 [220, 220, 220, 222, 220, 222, 220, 222, 220, 220, 222, 222, 220, 222, 222, 222, 222, 222, 222, 220, 220, 220, 220, 222, 220, 222, 222, 222, 222, 220, 220, 220, 220, 222, 220, 222, 220, 222, 222, 222, 220, 222, 222, 222, 222, 222, 222, 222, 222, 220, 220] 222 (rx_pk [(220, vX2_breaks_220), (222, vX2_breaks_222)]))
set_option maxRecDepth 20000 in
theorem wX2_breaks_0 (hZ : zO b e D A X) : rx_OK (zV b e D A X) mX2_breaks 0 0 vX2_breaks_0 := by
  unfold vX2_breaks_0
  refine s_iload_n hZ.1 dX2_breaks_0 rfl ?_
  exact s_sw dX2_breaks_1 (by decide) (by decide) (by decide) (by decide) (by decide) (fun b _ => (rx_pk_ok (List.forall_mem_cons.mpr ⟨(wX2_breaks_220 hZ), List.forall_mem_cons.mpr ⟨(wX2_breaks_222 hZ), fun _ h => absurd h List.not_mem_nil⟩⟩)) b)
noncomputable def FX2_breaks : List Nat → rx_H → Option (Nat × rx_H) := rx_ent 1 vX2_breaks_0
theorem Met_X2_breaks (hZ : zO b e D A X) : rx_Met (zV b e D A X) 0 yX2_breaks mX2_breaks (FX2_breaks) := rx_entry hZ.1 (wX2_breaks_0 hZ) (by decide +kernel) rfl (fun h => by cases h)
abbrev mX2_note : rx_M := (RX2, cX2_note, 5, (some .int), false)
theorem vy_X2_note : rx_Y (zV b e D A X) yX2_note mX2_note 3 := ⟨zw2610, zw429, by decide, by decide +kernel, by decide +kernel, by decide +kernel⟩
noncomputable def vX2_note_164 : rx_K := o_const 8 (o_ret1 rx_isI)
set_option maxRecDepth 20000 in
theorem wX2_note_164 (hZ : zO b e D A X) : rx_OK (zV b e D A X) mX2_note 1 164 vX2_note_164 := by
  unfold vX2_note_164
  refine s_iconst dX2_note_164 (by decide +kernel) ?_
  exact s_iret hZ.1 rfl dX2_note_165
noncomputable def vX2_note_152 : rx_K := o_ld rx_isI 3 (o_ast 0 (fun v => v) rx_isI (o_ld rx_isR 0 (o_dup (o_getf 2 4 (o_const 8 (o_bi (fun x y => x + y) (o_putf rx_isI 2 4 (vX2_note_164))))))))
set_option maxRecDepth 20000 in
theorem wX2_note_152 (hZ : zO b e D A X) : rx_OK (zV b e D A X) mX2_note 1 152 vX2_note_152 := by
  unfold vX2_note_152
  refine s_iload_n hZ.1 dX2_note_152 rfl ?_
  refine s_iast hZ.1 (tt := 0) rfl dX2_note_153 ?_
  refine s_aload_n hZ.1 dX2_note_154 rfl ?_
  refine s_dup hZ.1 dX2_note_155 ?_
  refine yg2_4 dX2_note_156 zw1434 ?_
  refine s_iconst dX2_note_159 (by decide +kernel) ?_
  refine s_iadd dX2_note_160 ?_
  refine yp2_4 hZ.1 dX2_note_161 zw1434 ?_
  exact (wX2_note_164 hZ)
noncomputable def vX2_note_118 : rx_K := o_bi (fun x y => x * y) (o_const 16 (o_bi (fun x y => x + y) (o_ld rx_isR 0 (o_getf 2 7 (o_ast 0 (fun v => v) rx_isI (o_ld rx_isR 0 (o_getf 2 3 (o_const 40 (o_ld rx_isR 0 (o_getf 2 4 (o_bi (fun x y => x * y) (o_const 24 (o_bi (fun x y => x + y) (o_ld rx_isI 2 (o_ast 0 (fun v => v) rx_isI (o_ld rx_isR 0 (o_getf 2 3 (o_const 40 (o_ld rx_isR 0 (o_getf 2 4 (o_bi (fun x y => x * y) (o_const 32 (o_bi (fun x y => x + y) (vX2_note_152))))))))))))))))))))))))
set_option maxRecDepth 20000 in
theorem wX2_note_118 (hZ : zO b e D A X) : rx_OK (zV b e D A X) mX2_note 1 118 vX2_note_118 := by
  unfold vX2_note_118
  refine s_imul dX2_note_118 ?_
  refine s_iconst dX2_note_119 (by decide +kernel) ?_
  refine s_iadd dX2_note_120 ?_
  refine s_aload_n hZ.1 dX2_note_121 rfl ?_
  refine yg2_7 dX2_note_122 zw1439 ?_
  refine s_iast hZ.1 (tt := 0) rfl dX2_note_125 ?_
  refine s_aload_n hZ.1 dX2_note_126 rfl ?_
  refine yg2_3 dX2_note_127 zw1432 ?_
  refine s_iconst dX2_note_130 (by decide +kernel) ?_
  refine s_aload_n hZ.1 dX2_note_131 rfl ?_
  refine yg2_4 dX2_note_132 zw1434 ?_
  refine s_imul dX2_note_135 ?_
  refine s_iconst dX2_note_136 (by decide +kernel) ?_
  refine s_iadd dX2_note_137 ?_
  refine s_iload_n hZ.1 dX2_note_138 rfl ?_
  refine s_iast hZ.1 (tt := 0) rfl dX2_note_139 ?_
  refine s_aload_n hZ.1 dX2_note_140 rfl ?_
  refine yg2_3 dX2_note_141 zw1432 ?_
  refine s_iconst dX2_note_144 (by decide +kernel) ?_
  refine s_aload_n hZ.1 dX2_note_145 rfl ?_
  refine yg2_4 dX2_note_146 zw1434 ?_
  refine s_imul dX2_note_149 ?_
  refine s_iconst dX2_note_150 (by decide +kernel) ?_
  refine s_iadd dX2_note_151 ?_
  exact (wX2_note_152 hZ)
noncomputable def vX2_note_80 : rx_K := o_ld rx_isR 0 (o_getf 2 3 (o_const 40 (o_ld rx_isR 0 (o_getf 2 4 (o_bi (fun x y => x * y) (o_ld rx_isI 1 (o_ast 0 (fun v => v) rx_isI (o_ld rx_isR 0 (o_getf 2 3 (o_const 40 (o_ld rx_isR 0 (o_getf 2 4 (o_bi (fun x y => x * y) (o_const 8 (o_bi (fun x y => x + y) (o_ld rx_isR 0 (o_getf 2 6 (o_ast 0 (fun v => v) rx_isI (o_ld rx_isR 0 (o_getf 2 3 (o_const 40 (o_ld rx_isR 0 (o_getf 2 4 (vX2_note_118))))))))))))))))))))))))
set_option maxRecDepth 20000 in
theorem wX2_note_80 (hZ : zO b e D A X) : rx_OK (zV b e D A X) mX2_note 1 80 vX2_note_80 := by
  unfold vX2_note_80
  refine s_aload_n hZ.1 dX2_note_80 rfl ?_
  refine yg2_3 dX2_note_81 zw1432 ?_
  refine s_iconst dX2_note_84 (by decide +kernel) ?_
  refine s_aload_n hZ.1 dX2_note_85 rfl ?_
  refine yg2_4 dX2_note_86 zw1434 ?_
  refine s_imul dX2_note_89 ?_
  refine s_iload_n hZ.1 dX2_note_90 rfl ?_
  refine s_iast hZ.1 (tt := 0) rfl dX2_note_91 ?_
  refine s_aload_n hZ.1 dX2_note_92 rfl ?_
  refine yg2_3 dX2_note_93 zw1432 ?_
  refine s_iconst dX2_note_96 (by decide +kernel) ?_
  refine s_aload_n hZ.1 dX2_note_97 rfl ?_
  refine yg2_4 dX2_note_98 zw1434 ?_
  refine s_imul dX2_note_101 ?_
  refine s_iconst dX2_note_102 (by decide +kernel) ?_
  refine s_iadd dX2_note_103 ?_
  refine s_aload_n hZ.1 dX2_note_104 rfl ?_
  refine yg2_6 dX2_note_105 zw1438 ?_
  refine s_iast hZ.1 (tt := 0) rfl dX2_note_108 ?_
  refine s_aload_n hZ.1 dX2_note_109 rfl ?_
  refine yg2_3 dX2_note_110 zw1432 ?_
  refine s_iconst dX2_note_113 (by decide +kernel) ?_
  refine s_aload_n hZ.1 dX2_note_114 rfl ?_
  refine yg2_4 dX2_note_115 zw1434 ?_
  exact (wX2_note_118 hZ)
noncomputable def vX2_note_64 : rx_K := o_const 40 (o_ld rx_isR 0 (o_getf 2 4 (o_bi (fun x y => x * y) (o_const 40 (o_bi (fun x y => x + y) (o_ld rx_isR 0 (o_getf 2 3 (o_alen 0 (o_c2 (fun h x y => rx_lt h y x) vX2_note_164 vX2_note_80)))))))))
set_option maxRecDepth 20000 in
theorem wX2_note_64 (hZ : zO b e D A X) : rx_OK (zV b e D A X) mX2_note 1 64 vX2_note_64 := by
  unfold vX2_note_64
  refine s_iconst dX2_note_64 (by decide +kernel) ?_
  refine s_aload_n hZ.1 dX2_note_65 rfl ?_
  refine yg2_4 dX2_note_66 zw1434 ?_
  refine s_imul dX2_note_69 ?_
  refine s_iconst dX2_note_70 (by decide +kernel) ?_
  refine s_iadd dX2_note_71 ?_
  refine s_aload_n hZ.1 dX2_note_72 rfl ?_
  refine yg2_3 dX2_note_73 zw1432 ?_
  refine s_alen (tt := 0) rfl dX2_note_76 ?_
  exact s_icmp_gt dX2_note_77 (by decide) (wX2_note_164 hZ) (wX2_note_80 hZ)
noncomputable def vX2_note_51 : rx_K := o_mm z_max (o_putf rx_isI 2 5 (o_ld rx_isR 0 (o_getf 2 2 (o_c1 rx_eq vX2_note_164 vX2_note_64))))
set_option maxRecDepth 20000 in
theorem wX2_note_51 (hZ : zO b e D A X) : rx_OK (zV b e D A X) mX2_note 1 51 vX2_note_51 := by
  unfold vX2_note_51
  refine s_mmax hZ.1 (Nat.le_of_ble_eq_true rfl) zw2614 zw2179 zw432 zmath_max dX2_note_51 ?_
  refine yp2_5 hZ.1 dX2_note_54 zw1436 ?_
  refine s_aload_n hZ.1 dX2_note_57 rfl ?_
  refine yg2_2 dX2_note_58 zw1431 ?_
  exact s_if_eq dX2_note_61 (by decide) (wX2_note_164 hZ) (wX2_note_64 hZ)
noncomputable def vX2_note_50 : rx_K := o_const 16 (vX2_note_51)
set_option maxRecDepth 20000 in
theorem wX2_note_50 (hZ : zO b e D A X) : rx_OK (zV b e D A X) mX2_note 1 50 vX2_note_50 := by
  unfold vX2_note_50
  refine s_iconst dX2_note_50 (by decide +kernel) ?_
  exact (wX2_note_51 hZ)
noncomputable def vX2_note_46 : rx_K := o_const 24 (vX2_note_51)
set_option maxRecDepth 20000 in
theorem wX2_note_46 (hZ : zO b e D A X) : rx_OK (zV b e D A X) mX2_note 1 46 vX2_note_46 := by
  unfold vX2_note_46
  refine s_iconst dX2_note_46 (by decide +kernel) ?_
  exact s_goto dX2_note_47 (by decide) (wX2_note_51 hZ)
noncomputable def vX2_note_39 : rx_K := o_ld rx_isI 1 (o_callS 1 FX2_breaks (o_c1 rx_eq vX2_note_50 vX2_note_46))
set_option maxRecDepth 20000 in
theorem wX2_note_39 (hZ : zO b e D A X) : rx_OK (zV b e D A X) mX2_note 1 39 vX2_note_39 := by
  unfold vX2_note_39
  refine s_iload_n hZ.1 dX2_note_39 rfl ?_
  refine s_callS hZ.1 (Met_X2_breaks hZ) (Nat.le_of_ble_eq_true rfl) vy_X2_breaks zw2612 (Or.inl zw2611) dX2_note_40 ?_
  exact s_if_eq dX2_note_43 (by decide) (wX2_note_50 hZ) (wX2_note_46 hZ)
noncomputable def vX2_note_35 : rx_K := o_const 8 (vX2_note_51)
set_option maxRecDepth 20000 in
theorem wX2_note_35 (hZ : zO b e D A X) : rx_OK (zV b e D A X) mX2_note 1 35 vX2_note_35 := by
  unfold vX2_note_35
  refine s_iconst dX2_note_35 (by decide +kernel) ?_
  exact s_goto dX2_note_36 (by decide) (wX2_note_51 hZ)
noncomputable def vX2_note_23 : rx_K := o_st rx_isI 4 (o_ld rx_isR 0 (o_ld rx_isR 0 (o_getf 2 5 (o_ld rx_isI 4 (o_c1 rx_eq vX2_note_39 vX2_note_35)))))
set_option maxRecDepth 20000 in
theorem wX2_note_23 (hZ : zO b e D A X) : rx_OK (zV b e D A X) mX2_note 1 23 vX2_note_23 := by
  unfold vX2_note_23
  refine s_istore hZ.1 dX2_note_23 (Nat.le_of_ble_eq_true rfl) ?_
  refine s_aload_n hZ.1 dX2_note_25 rfl ?_
  refine s_aload_n hZ.1 dX2_note_26 rfl ?_
  refine yg2_5 dX2_note_27 zw1436 ?_
  refine s_iload hZ.1 dX2_note_30 ?_
  exact s_if_eq dX2_note_32 (by decide) (wX2_note_39 hZ) (wX2_note_35 hZ)
noncomputable def vX2_note_22 : rx_K := o_const 0 (vX2_note_23)
set_option maxRecDepth 20000 in
theorem wX2_note_22 (hZ : zO b e D A X) : rx_OK (zV b e D A X) mX2_note 1 22 vX2_note_22 := by
  unfold vX2_note_22
  refine s_iconst dX2_note_22 (by decide +kernel) ?_
  exact (wX2_note_23 hZ)
noncomputable def vX2_note_18 : rx_K := o_const 8 (vX2_note_23)
set_option maxRecDepth 20000 in
theorem wX2_note_18 (hZ : zO b e D A X) : rx_OK (zV b e D A X) mX2_note 1 18 vX2_note_18 := by
  unfold vX2_note_18
  refine s_iconst dX2_note_18 (by decide +kernel) ?_
  exact s_goto dX2_note_19 (by decide) (wX2_note_23 hZ)
noncomputable def vX2_note_12 : rx_K := o_ld rx_isI 1 (o_const 480 (o_c2 rx_eq vX2_note_18 vX2_note_22))
set_option maxRecDepth 20000 in
theorem wX2_note_12 (hZ : zO b e D A X) : rx_OK (zV b e D A X) mX2_note 1 12 vX2_note_12 := by
  unfold vX2_note_12
  refine s_iload_n hZ.1 dX2_note_12 rfl ?_
  refine s_bipush dX2_note_13 (by decide +kernel) ?_
  exact s_icmp_ne dX2_note_15 (by decide) (wX2_note_22 hZ) (wX2_note_18 hZ)
noncomputable def vX2_note_6 : rx_K := o_ld rx_isI 1 (o_const 424 (o_c2 rx_eq vX2_note_18 vX2_note_12))
set_option maxRecDepth 20000 in
theorem wX2_note_6 (hZ : zO b e D A X) : rx_OK (zV b e D A X) mX2_note 1 6 vX2_note_6 := by
  unfold vX2_note_6
  refine s_iload_n hZ.1 dX2_note_6 rfl ?_
  refine s_bipush dX2_note_7 (by decide +kernel) ?_
  exact s_icmp_eq dX2_note_9 (by decide) (wX2_note_18 hZ) (wX2_note_12 hZ)
noncomputable def vX2_note_0 : rx_K := o_ld rx_isI 1 (o_const 312 (o_c2 rx_eq vX2_note_18 vX2_note_6))
set_option maxRecDepth 20000 in
theorem wX2_note_0 (hZ : zO b e D A X) : rx_OK (zV b e D A X) mX2_note 1 0 vX2_note_0 := by
  unfold vX2_note_0
  refine s_iload_n hZ.1 dX2_note_0 rfl ?_
  refine s_bipush dX2_note_1 (by decide +kernel) ?_
  exact s_icmp_eq dX2_note_3 (by decide) (wX2_note_18 hZ) (wX2_note_6 hZ)
noncomputable def FX2_note : List Nat → rx_H → Option (Nat × rx_H) := rx_ent 5 vX2_note_0
theorem Met_X2_note (hZ : zO b e D A X) : rx_Met (zV b e D A X) 1 yX2_note mX2_note (FX2_note) := rx_entry hZ.1 (wX2_note_0 hZ) (by decide +kernel) rfl (fun h => by cases h)
abbrev mX10_listedAt : rx_M := (RX10, cX10_listedAt, 3, (some .long), false)
theorem vy_X10_listedAt : rx_Y (zV b e D A X) yX10_listedAt mX10_listedAt 2 := ⟨zw1588, zw425, by decide, by decide +kernel, by decide +kernel, by decide +kernel⟩
noncomputable def vX10_listedAt_0 : rx_K := o_ld rx_isR 0 (o_getf 10 10 (o_ld rx_isI 1 (o_const 64 (o_bi (fun x y => x * y) (o_ld rx_isI 2 (o_bi (fun x y => x + y) (o_ald 1 (o_ret1 rx_isL))))))))
set_option maxRecDepth 20000 in
theorem wX10_listedAt_0 (hZ : zO b e D A X) : rx_OK (zV b e D A X) mX10_listedAt 0 0 vX10_listedAt_0 := by
  unfold vX10_listedAt_0
  refine s_aload_n hZ.1 dX10_listedAt_0 rfl ?_
  refine yg10_10 dX10_listedAt_1 zw836 ?_
  refine s_iload_n hZ.1 dX10_listedAt_4 rfl ?_
  refine s_bipush dX10_listedAt_5 (by decide +kernel) ?_
  refine s_imul dX10_listedAt_7 ?_
  refine s_iload_n hZ.1 dX10_listedAt_8 rfl ?_
  refine s_iadd dX10_listedAt_9 ?_
  refine s_lald (tt := 1) rfl dX10_listedAt_10 ?_
  exact s_lret rfl dX10_listedAt_11
noncomputable def FX10_listedAt : List Nat → rx_H → Option (Nat × rx_H) := rx_ent 3 vX10_listedAt_0
theorem Met_X10_listedAt (hZ : zO b e D A X) : rx_Met (zV b e D A X) 0 yX10_listedAt mX10_listedAt (FX10_listedAt) := rx_entry hZ.1 (wX10_listedAt_0 hZ) (by decide +kernel) rfl (fun h => by cases h)
abbrev mX2_faces : rx_M := (RX2, cX2_faces, 5, (some .int), false)
theorem vy_X2_faces : rx_Y (zV b e D A X) yX2_faces mX2_faces 2 := ⟨zw2626, zw429, by decide, by decide +kernel, by decide +kernel, by decide +kernel⟩
noncomputable def vX2_faces_133 (j : Nat → rx_K) : rx_K := o_bi (fun x y => x + y) (o_ret1 rx_isI)
set_option maxRecDepth 20000 in
theorem wX2_faces_133 (hZ : zO b e D A X) (j : Nat → rx_K) (hj : ∀ k pc, [5, 57][k]? = some pc → rx_OK (zV b e D A X) mX2_faces 2 pc (j k)) : rx_OK (zV b e D A X) mX2_faces 2 133 (vX2_faces_133 j) := by
  unfold vX2_faces_133
  refine s_iadd dX2_faces_133 ?_
  exact s_iret hZ.1 rfl dX2_faces_134
noncomputable def vX2_faces_132 (j : Nat → rx_K) : rx_K := o_const 0 ((vX2_faces_133 j))
set_option maxRecDepth 20000 in
theorem wX2_faces_132 (hZ : zO b e D A X) (j : Nat → rx_K) (hj : ∀ k pc, [5, 57][k]? = some pc → rx_OK (zV b e D A X) mX2_faces 2 pc (j k)) : rx_OK (zV b e D A X) mX2_faces 2 132 (vX2_faces_132 j) := by
  unfold vX2_faces_132
  refine s_iconst dX2_faces_132 (by decide +kernel) ?_
  exact (wX2_faces_133 hZ j hj)
noncomputable def vX2_faces_119 (j : Nat → rx_K) : rx_K := o_ld rx_isR 0 (o_const 96 (o_const 34359738352 (o_const 34359738352 (o_callV 3 2 FX2_note ((vX2_faces_133 j))))))
set_option maxRecDepth 20000 in
theorem wX2_faces_119 (hZ : zO b e D A X) (j : Nat → rx_K) (hj : ∀ k pc, [5, 57][k]? = some pc → rx_OK (zV b e D A X) mX2_faces 2 pc (j k)) : rx_OK (zV b e D A X) mX2_faces 2 119 (vX2_faces_119 j) := by
  unfold vX2_faces_119
  refine s_aload_n hZ.1 dX2_faces_119 rfl ?_
  refine s_bipush dX2_faces_120 (by decide +kernel) ?_
  refine s_bipush dX2_faces_122 (by decide +kernel) ?_
  refine s_bipush dX2_faces_124 (by decide +kernel) ?_
  refine s_callV hZ.1 (Met_X2_note hZ) (Nat.le_of_ble_eq_true rfl) vy_X2_note zcl2 zw2609 zw140 (Or.inl zw2607) dX2_faces_126 ?_
  exact s_goto dX2_faces_129 (by decide) (wX2_faces_133 hZ j hj)
noncomputable def vX2_faces_106 (j : Nat → rx_K) : rx_K := o_ld rx_isI 3 (o_ld rx_isR 1 (o_getf 10 9 (o_ld rx_isR 2 (o_getf 10 9 (o_bc (fun x y => lg_cmp x y) (o_c1 rx_eq (vX2_faces_132 j) (vX2_faces_119 j)))))))
set_option maxRecDepth 20000 in
theorem wX2_faces_106 (hZ : zO b e D A X) (j : Nat → rx_K) (hj : ∀ k pc, [5, 57][k]? = some pc → rx_OK (zV b e D A X) mX2_faces 2 pc (j k)) : rx_OK (zV b e D A X) mX2_faces 2 106 (vX2_faces_106 j) := by
  unfold vX2_faces_106
  refine s_iload_n hZ.1 dX2_faces_106 rfl ?_
  refine s_aload_n hZ.1 dX2_faces_107 rfl ?_
  refine yg10_9 dX2_faces_108 zw832 ?_
  refine s_aload_n hZ.1 dX2_faces_111 rfl ?_
  refine yg10_9 dX2_faces_112 zw832 ?_
  refine s_lcmp dX2_faces_115 ?_
  exact s_if_eq dX2_faces_116 (by decide) (wX2_faces_132 hZ j hj) (wX2_faces_119 hZ j hj)
noncomputable def vX2_faces_98 (j : Nat → rx_K) : rx_K := o_bi (fun x y => x + y) (o_st rx_isI 3 (o_inc 4 (1) ((j 1))))
set_option maxRecDepth 20000 in
theorem wX2_faces_98 (hZ : zO b e D A X) (j : Nat → rx_K) (hj : ∀ k pc, [5, 57][k]? = some pc → rx_OK (zV b e D A X) mX2_faces 2 pc (j k)) : rx_OK (zV b e D A X) mX2_faces 2 98 (vX2_faces_98 j) := by
  unfold vX2_faces_98
  refine s_iadd dX2_faces_98 ?_
  refine s_istore_n hZ.1 dX2_faces_99 rfl (Nat.le_of_ble_eq_true rfl) ?_
  refine s_iinc hZ.1 dX2_faces_100 (Nat.le_of_ble_eq_true rfl) ?_
  exact s_goto dX2_faces_103 (by decide) (hj 1 57 rfl)
noncomputable def vX2_faces_88 (j : Nat → rx_K) : rx_K := o_ld rx_isR 0 (o_const 88 (o_const 34359738352 (o_const 34359738352 (o_callV 3 2 FX2_note ((vX2_faces_98 j))))))
set_option maxRecDepth 20000 in
theorem wX2_faces_88 (hZ : zO b e D A X) (j : Nat → rx_K) (hj : ∀ k pc, [5, 57][k]? = some pc → rx_OK (zV b e D A X) mX2_faces 2 pc (j k)) : rx_OK (zV b e D A X) mX2_faces 2 88 (vX2_faces_88 j) := by
  unfold vX2_faces_88
  refine s_aload_n hZ.1 dX2_faces_88 rfl ?_
  refine s_bipush dX2_faces_89 (by decide +kernel) ?_
  refine s_bipush dX2_faces_91 (by decide +kernel) ?_
  refine s_bipush dX2_faces_93 (by decide +kernel) ?_
  refine s_callV hZ.1 (Met_X2_note hZ) (Nat.le_of_ble_eq_true rfl) vy_X2_note zcl2 zw2609 zw140 (Or.inl zw2607) dX2_faces_95 ?_
  exact (wX2_faces_98 hZ j hj)
noncomputable def vX2_faces_84 (j : Nat → rx_K) : rx_K := o_const 0 ((vX2_faces_98 j))
set_option maxRecDepth 20000 in
theorem wX2_faces_84 (hZ : zO b e D A X) (j : Nat → rx_K) (hj : ∀ k pc, [5, 57][k]? = some pc → rx_OK (zV b e D A X) mX2_faces 2 pc (j k)) : rx_OK (zV b e D A X) mX2_faces 2 84 (vX2_faces_84 j) := by
  unfold vX2_faces_84
  refine s_iconst dX2_faces_84 (by decide +kernel) ?_
  exact s_goto dX2_faces_85 (by decide) (wX2_faces_98 hZ j hj)
noncomputable def vX2_faces_68 (j : Nat → rx_K) : rx_K := o_ld rx_isI 3 (o_ld rx_isR 1 (o_const 0 (o_ld rx_isR 2 (o_const 0 (o_ld rx_isI 4 (o_callV 2 10 FX10_listedAt (o_callV 2 10 FX10_has (o_c1 rx_eq (vX2_faces_88 j) (vX2_faces_84 j)))))))))
set_option maxRecDepth 20000 in
theorem wX2_faces_68 (hZ : zO b e D A X) (j : Nat → rx_K) (hj : ∀ k pc, [5, 57][k]? = some pc → rx_OK (zV b e D A X) mX2_faces 2 pc (j k)) : rx_OK (zV b e D A X) mX2_faces 2 68 (vX2_faces_68 j) := by
  unfold vX2_faces_68
  refine s_iload_n hZ.1 dX2_faces_68 rfl ?_
  refine s_aload_n hZ.1 dX2_faces_69 rfl ?_
  refine s_iconst dX2_faces_70 (by decide +kernel) ?_
  refine s_aload_n hZ.1 dX2_faces_71 rfl ?_
  refine s_iconst dX2_faces_72 (by decide +kernel) ?_
  refine s_iload hZ.1 dX2_faces_73 ?_
  refine s_callV hZ.1 (Met_X10_listedAt hZ) (Nat.le_of_ble_eq_true rfl) vy_X10_listedAt zcl10 zw1586 zw1587 (Or.inl zw2627) dX2_faces_75 ?_
  refine s_callV hZ.1 (Met_X10_has hZ) (Nat.le_of_ble_eq_true rfl) vy_X10_has zcl10 zw1578 zw1579 (Or.inl zw2628) dX2_faces_78 ?_
  exact s_if_eq dX2_faces_81 (by decide) (wX2_faces_88 hZ j hj) (wX2_faces_84 hZ j hj)
noncomputable def vX2_faces_57 (j : Nat → rx_K) : rx_K := o_ld rx_isI 4 (o_ld rx_isR 2 (o_getf 10 11 (o_const 0 (o_ald 0 (o_c2 rx_lt (vX2_faces_68 j) (vX2_faces_106 j))))))
set_option maxRecDepth 20000 in
theorem wX2_faces_57 (hZ : zO b e D A X) (j : Nat → rx_K) (hj : ∀ k pc, [5, 57][k]? = some pc → rx_OK (zV b e D A X) mX2_faces 2 pc (j k)) : rx_OK (zV b e D A X) mX2_faces 2 57 (vX2_faces_57 j) := by
  unfold vX2_faces_57
  refine s_iload hZ.1 dX2_faces_57 ?_
  refine s_aload_n hZ.1 dX2_faces_59 rfl ?_
  refine yg10_11 dX2_faces_60 zw842 ?_
  refine s_iconst dX2_faces_63 (by decide +kernel) ?_
  refine s_iald (tt := 0) rfl dX2_faces_64 ?_
  exact s_icmp_ge dX2_faces_65 (by decide) (wX2_faces_106 hZ j hj) (wX2_faces_68 hZ j hj)
noncomputable def vX2_faces_54 (j : Nat → rx_K) : rx_K := o_const 0 (o_st rx_isI 4 ((vX2_faces_57 j)))
set_option maxRecDepth 20000 in
theorem wX2_faces_54 (hZ : zO b e D A X) (j : Nat → rx_K) (hj : ∀ k pc, [5, 57][k]? = some pc → rx_OK (zV b e D A X) mX2_faces 2 pc (j k)) : rx_OK (zV b e D A X) mX2_faces 2 54 (vX2_faces_54 j) := by
  unfold vX2_faces_54
  refine s_iconst dX2_faces_54 (by decide +kernel) ?_
  refine s_istore hZ.1 dX2_faces_55 (Nat.le_of_ble_eq_true rfl) ?_
  exact (wX2_faces_57 hZ j hj)
noncomputable def vX2_faces_46 (j : Nat → rx_K) : rx_K := o_bi (fun x y => x + y) (o_st rx_isI 3 (o_inc 4 (1) ((j 0))))
set_option maxRecDepth 20000 in
theorem wX2_faces_46 (hZ : zO b e D A X) (j : Nat → rx_K) (hj : ∀ k pc, [5, 57][k]? = some pc → rx_OK (zV b e D A X) mX2_faces 2 pc (j k)) : rx_OK (zV b e D A X) mX2_faces 2 46 (vX2_faces_46 j) := by
  unfold vX2_faces_46
  refine s_iadd dX2_faces_46 ?_
  refine s_istore_n hZ.1 dX2_faces_47 rfl (Nat.le_of_ble_eq_true rfl) ?_
  refine s_iinc hZ.1 dX2_faces_48 (Nat.le_of_ble_eq_true rfl) ?_
  exact s_goto dX2_faces_51 (by decide) (hj 0 5 rfl)
noncomputable def vX2_faces_36 (j : Nat → rx_K) : rx_K := o_ld rx_isR 0 (o_const 80 (o_const 34359738352 (o_const 34359738352 (o_callV 3 2 FX2_note ((vX2_faces_46 j))))))
set_option maxRecDepth 20000 in
theorem wX2_faces_36 (hZ : zO b e D A X) (j : Nat → rx_K) (hj : ∀ k pc, [5, 57][k]? = some pc → rx_OK (zV b e D A X) mX2_faces 2 pc (j k)) : rx_OK (zV b e D A X) mX2_faces 2 36 (vX2_faces_36 j) := by
  unfold vX2_faces_36
  refine s_aload_n hZ.1 dX2_faces_36 rfl ?_
  refine s_bipush dX2_faces_37 (by decide +kernel) ?_
  refine s_bipush dX2_faces_39 (by decide +kernel) ?_
  refine s_bipush dX2_faces_41 (by decide +kernel) ?_
  refine s_callV hZ.1 (Met_X2_note hZ) (Nat.le_of_ble_eq_true rfl) vy_X2_note zcl2 zw2609 zw140 (Or.inl zw2607) dX2_faces_43 ?_
  exact (wX2_faces_46 hZ j hj)
noncomputable def vX2_faces_32 (j : Nat → rx_K) : rx_K := o_const 0 ((vX2_faces_46 j))
set_option maxRecDepth 20000 in
theorem wX2_faces_32 (hZ : zO b e D A X) (j : Nat → rx_K) (hj : ∀ k pc, [5, 57][k]? = some pc → rx_OK (zV b e D A X) mX2_faces 2 pc (j k)) : rx_OK (zV b e D A X) mX2_faces 2 32 (vX2_faces_32 j) := by
  unfold vX2_faces_32
  refine s_iconst dX2_faces_32 (by decide +kernel) ?_
  exact s_goto dX2_faces_33 (by decide) (wX2_faces_46 hZ j hj)
noncomputable def vX2_faces_16 (j : Nat → rx_K) : rx_K := o_ld rx_isI 3 (o_ld rx_isR 2 (o_const 0 (o_ld rx_isR 1 (o_const 0 (o_ld rx_isI 4 (o_callV 2 10 FX10_listedAt (o_callV 2 10 FX10_has (o_c1 rx_eq (vX2_faces_36 j) (vX2_faces_32 j)))))))))
set_option maxRecDepth 20000 in
theorem wX2_faces_16 (hZ : zO b e D A X) (j : Nat → rx_K) (hj : ∀ k pc, [5, 57][k]? = some pc → rx_OK (zV b e D A X) mX2_faces 2 pc (j k)) : rx_OK (zV b e D A X) mX2_faces 2 16 (vX2_faces_16 j) := by
  unfold vX2_faces_16
  refine s_iload_n hZ.1 dX2_faces_16 rfl ?_
  refine s_aload_n hZ.1 dX2_faces_17 rfl ?_
  refine s_iconst dX2_faces_18 (by decide +kernel) ?_
  refine s_aload_n hZ.1 dX2_faces_19 rfl ?_
  refine s_iconst dX2_faces_20 (by decide +kernel) ?_
  refine s_iload hZ.1 dX2_faces_21 ?_
  refine s_callV hZ.1 (Met_X10_listedAt hZ) (Nat.le_of_ble_eq_true rfl) vy_X10_listedAt zcl10 zw1586 zw1587 (Or.inl zw2627) dX2_faces_23 ?_
  refine s_callV hZ.1 (Met_X10_has hZ) (Nat.le_of_ble_eq_true rfl) vy_X10_has zcl10 zw1578 zw1579 (Or.inl zw2628) dX2_faces_26 ?_
  exact s_if_eq dX2_faces_29 (by decide) (wX2_faces_36 hZ j hj) (wX2_faces_32 hZ j hj)
noncomputable def vX2_faces_5 (j : Nat → rx_K) : rx_K := o_ld rx_isI 4 (o_ld rx_isR 1 (o_getf 10 11 (o_const 0 (o_ald 0 (o_c2 rx_lt (vX2_faces_16 j) (vX2_faces_54 j))))))
set_option maxRecDepth 20000 in
theorem wX2_faces_5 (hZ : zO b e D A X) (j : Nat → rx_K) (hj : ∀ k pc, [5, 57][k]? = some pc → rx_OK (zV b e D A X) mX2_faces 2 pc (j k)) : rx_OK (zV b e D A X) mX2_faces 2 5 (vX2_faces_5 j) := by
  unfold vX2_faces_5
  refine s_iload hZ.1 dX2_faces_5 ?_
  refine s_aload_n hZ.1 dX2_faces_7 rfl ?_
  refine yg10_11 dX2_faces_8 zw842 ?_
  refine s_iconst dX2_faces_11 (by decide +kernel) ?_
  refine s_iald (tt := 0) rfl dX2_faces_12 ?_
  exact s_icmp_ge dX2_faces_13 (by decide) (wX2_faces_54 hZ j hj) (wX2_faces_16 hZ j hj)
noncomputable def vX2_faces_0 (j : Nat → rx_K) : rx_K := o_const 0 (o_st rx_isI 3 (o_const 0 (o_st rx_isI 4 ((vX2_faces_5 j)))))
set_option maxRecDepth 20000 in
theorem wX2_faces_0 (hZ : zO b e D A X) (j : Nat → rx_K) (hj : ∀ k pc, [5, 57][k]? = some pc → rx_OK (zV b e D A X) mX2_faces 2 pc (j k)) : rx_OK (zV b e D A X) mX2_faces 2 0 (vX2_faces_0 j) := by
  unfold vX2_faces_0
  refine s_iconst dX2_faces_0 (by decide +kernel) ?_
  refine s_istore_n hZ.1 dX2_faces_1 rfl (Nat.le_of_ble_eq_true rfl) ?_
  refine s_iconst dX2_faces_2 (by decide +kernel) ?_
  refine s_istore hZ.1 dX2_faces_3 (Nat.le_of_ble_eq_true rfl) ?_
  exact (wX2_faces_5 hZ j hj)
noncomputable def vhX2_faces (j : Nat → rx_K) : List rx_K := [vX2_faces_5 j, vX2_faces_57 j]
theorem vlX2_faces (hZ : zO b e D A X) : ∀ n k pc, [5, 57][k]? = some pc → rx_OK (zV b e D A X) mX2_faces 2 pc (rx_J (vhX2_faces) n k) := rx_loop fun j hj k pc h => by
  match k, h with
  | 0, h =>
    have e9 := Option.some.inj (show some 5 = some pc from h)
    subst e9
    exact wX2_faces_5 hZ j hj
  | 1, h =>
    have e9 := Option.some.inj (show some 57 = some pc from h)
    subst e9
    exact wX2_faces_57 hZ j hj
  | _ + 2, h => exact absurd h (by simp)
noncomputable def FX2_faces : List Nat → rx_H → Option (Nat × rx_H) := rx_ent 5 (vX2_faces_0 (rx_J (vhX2_faces) 4000000000))
theorem Met_X2_faces (hZ : zO b e D A X) : rx_Met (zV b e D A X) 2 yX2_faces mX2_faces (FX2_faces) := rx_entry hZ.1 (wX2_faces_0 hZ _ (vlX2_faces hZ 4000000000)) (by decide +kernel) rfl (fun h => by cases h)
abbrev mX2_access : rx_M := (RX2, cX2_access, 6, (some .int), false)
theorem vy_X2_access : rx_Y (zV b e D A X) yX2_access mX2_access 5 := ⟨zw2649, zw429, by decide, by decide +kernel, by decide +kernel, by decide +kernel⟩
noncomputable def vX2_access_29 : rx_K := o_ret1 rx_isI
set_option maxRecDepth 20000 in
theorem wX2_access_29 (hZ : zO b e D A X) : rx_OK (zV b e D A X) mX2_access 2 29 vX2_access_29 := by
  unfold vX2_access_29
  exact s_iret hZ.1 rfl dX2_access_29
noncomputable def vX2_access_22 : rx_K := o_ld rx_isI 4 (o_ld rx_isI 5 (o_callV 3 2 FX2_note (vX2_access_29)))
set_option maxRecDepth 20000 in
theorem wX2_access_22 (hZ : zO b e D A X) : rx_OK (zV b e D A X) mX2_access 2 22 vX2_access_22 := by
  unfold vX2_access_22
  refine s_iload hZ.1 dX2_access_22 ?_
  refine s_iload hZ.1 dX2_access_24 ?_
  refine s_callV hZ.1 (Met_X2_note hZ) (Nat.le_of_ble_eq_true rfl) vy_X2_note zcl2 zw2609 zw140 (Or.inl zw2607) dX2_access_26 ?_
  exact (wX2_access_29 hZ)
noncomputable def vX2_access_19 : rx_K := o_ld rx_isI 3 (o_const 8 (o_bi (fun x y => x + y) (vX2_access_22)))
set_option maxRecDepth 20000 in
theorem wX2_access_19 (hZ : zO b e D A X) : rx_OK (zV b e D A X) mX2_access 2 19 vX2_access_19 := by
  unfold vX2_access_19
  refine s_iload_n hZ.1 dX2_access_19 rfl ?_
  refine s_iconst dX2_access_20 (by decide +kernel) ?_
  refine s_iadd dX2_access_21 ?_
  exact (wX2_access_22 hZ)
noncomputable def vX2_access_15 : rx_K := o_ld rx_isI 3 (vX2_access_22)
set_option maxRecDepth 20000 in
theorem wX2_access_15 (hZ : zO b e D A X) : rx_OK (zV b e D A X) mX2_access 2 15 vX2_access_15 := by
  unfold vX2_access_15
  refine s_iload_n hZ.1 dX2_access_15 rfl ?_
  exact s_goto dX2_access_16 (by decide) (wX2_access_22 hZ)
noncomputable def vX2_access_9 : rx_K := o_ld rx_isR 0 (o_ld rx_isI 2 (o_ld rx_isI 1 (o_c2 rx_lt vX2_access_15 vX2_access_19)))
set_option maxRecDepth 20000 in
theorem wX2_access_9 (hZ : zO b e D A X) : rx_OK (zV b e D A X) mX2_access 2 9 vX2_access_9 := by
  unfold vX2_access_9
  refine s_aload_n hZ.1 dX2_access_9 rfl ?_
  refine s_iload_n hZ.1 dX2_access_10 rfl ?_
  refine s_iload_n hZ.1 dX2_access_11 rfl ?_
  exact s_icmp_ge dX2_access_12 (by decide) (wX2_access_19 hZ) (wX2_access_15 hZ)
noncomputable def vX2_access_5 : rx_K := o_const 0 (vX2_access_29)
set_option maxRecDepth 20000 in
theorem wX2_access_5 (hZ : zO b e D A X) : rx_OK (zV b e D A X) mX2_access 2 5 vX2_access_5 := by
  unfold vX2_access_5
  refine s_iconst dX2_access_5 (by decide +kernel) ?_
  exact s_goto dX2_access_6 (by decide) (wX2_access_29 hZ)
noncomputable def vX2_access_0 : rx_K := o_ld rx_isI 1 (o_ld rx_isI 2 (o_c2 rx_eq vX2_access_5 vX2_access_9))
set_option maxRecDepth 20000 in
theorem wX2_access_0 (hZ : zO b e D A X) : rx_OK (zV b e D A X) mX2_access 2 0 vX2_access_0 := by
  unfold vX2_access_0
  refine s_iload_n hZ.1 dX2_access_0 rfl ?_
  refine s_iload_n hZ.1 dX2_access_1 rfl ?_
  exact s_icmp_ne dX2_access_2 (by decide) (wX2_access_9 hZ) (wX2_access_5 hZ)
noncomputable def FX2_access : List Nat → rx_H → Option (Nat × rx_H) := rx_ent 6 vX2_access_0
theorem Met_X2_access (hZ : zO b e D A X) : rx_Met (zV b e D A X) 2 yX2_access mX2_access (FX2_access) := rx_entry hZ.1 (wX2_access_0 hZ) (by decide +kernel) rfl (fun h => by cases h)
abbrev mX2_turned : rx_M := (RX2, cX2_turned, 6, (some .int), false)
theorem vy_X2_turned : rx_Y (zV b e D A X) yX2_turned mX2_turned 5 := ⟨zw2622, zw429, by decide, by decide +kernel, by decide +kernel, by decide +kernel⟩
noncomputable def vX2_turned_28 : rx_K := o_ret1 rx_isI
set_option maxRecDepth 20000 in
theorem wX2_turned_28 (hZ : zO b e D A X) : rx_OK (zV b e D A X) mX2_turned 2 28 vX2_turned_28 := by
  unfold vX2_turned_28
  exact s_iret hZ.1 rfl dX2_turned_28
noncomputable def vX2_turned_21 : rx_K := o_ld rx_isI 4 (o_ld rx_isI 5 (o_callV 3 2 FX2_note (vX2_turned_28)))
set_option maxRecDepth 20000 in
theorem wX2_turned_21 (hZ : zO b e D A X) : rx_OK (zV b e D A X) mX2_turned 2 21 vX2_turned_21 := by
  unfold vX2_turned_21
  refine s_iload hZ.1 dX2_turned_21 ?_
  refine s_iload hZ.1 dX2_turned_23 ?_
  refine s_callV hZ.1 (Met_X2_note hZ) (Nat.le_of_ble_eq_true rfl) vy_X2_note zcl2 zw2609 zw140 (Or.inl zw2607) dX2_turned_25 ?_
  exact (wX2_turned_28 hZ)
noncomputable def vX2_turned_18 : rx_K := o_ld rx_isI 3 (o_const 8 (o_bi (fun x y => x + y) (vX2_turned_21)))
set_option maxRecDepth 20000 in
theorem wX2_turned_18 (hZ : zO b e D A X) : rx_OK (zV b e D A X) mX2_turned 2 18 vX2_turned_18 := by
  unfold vX2_turned_18
  refine s_iload_n hZ.1 dX2_turned_18 rfl ?_
  refine s_iconst dX2_turned_19 (by decide +kernel) ?_
  refine s_iadd dX2_turned_20 ?_
  exact (wX2_turned_21 hZ)
noncomputable def vX2_turned_14 : rx_K := o_ld rx_isI 3 (vX2_turned_21)
set_option maxRecDepth 20000 in
theorem wX2_turned_14 (hZ : zO b e D A X) : rx_OK (zV b e D A X) mX2_turned 2 14 vX2_turned_14 := by
  unfold vX2_turned_14
  refine s_iload_n hZ.1 dX2_turned_14 rfl ?_
  exact s_goto dX2_turned_15 (by decide) (wX2_turned_21 hZ)
noncomputable def vX2_turned_9 : rx_K := o_ld rx_isR 0 (o_ld rx_isI 2 (o_c1 rx_eq vX2_turned_18 vX2_turned_14))
set_option maxRecDepth 20000 in
theorem wX2_turned_9 (hZ : zO b e D A X) : rx_OK (zV b e D A X) mX2_turned 2 9 vX2_turned_9 := by
  unfold vX2_turned_9
  refine s_aload_n hZ.1 dX2_turned_9 rfl ?_
  refine s_iload_n hZ.1 dX2_turned_10 rfl ?_
  exact s_if_eq dX2_turned_11 (by decide) (wX2_turned_18 hZ) (wX2_turned_14 hZ)
noncomputable def vX2_turned_5 : rx_K := o_const 0 (vX2_turned_28)
set_option maxRecDepth 20000 in
theorem wX2_turned_5 (hZ : zO b e D A X) : rx_OK (zV b e D A X) mX2_turned 2 5 vX2_turned_5 := by
  unfold vX2_turned_5
  refine s_iconst dX2_turned_5 (by decide +kernel) ?_
  exact s_goto dX2_turned_6 (by decide) (wX2_turned_28 hZ)
noncomputable def vX2_turned_0 : rx_K := o_ld rx_isI 1 (o_ld rx_isI 2 (o_c2 rx_eq vX2_turned_5 vX2_turned_9))
set_option maxRecDepth 20000 in
theorem wX2_turned_0 (hZ : zO b e D A X) : rx_OK (zV b e D A X) mX2_turned 2 0 vX2_turned_0 := by
  unfold vX2_turned_0
  refine s_iload_n hZ.1 dX2_turned_0 rfl ?_
  refine s_iload_n hZ.1 dX2_turned_1 rfl ?_
  exact s_icmp_ne dX2_turned_2 (by decide) (wX2_turned_9 hZ) (wX2_turned_5 hZ)
noncomputable def FX2_turned : List Nat → rx_H → Option (Nat × rx_H) := rx_ent 6 vX2_turned_0
theorem Met_X2_turned (hZ : zO b e D A X) : rx_Met (zV b e D A X) 2 yX2_turned mX2_turned (FX2_turned) := rx_entry hZ.1 (wX2_turned_0 hZ) (by decide +kernel) rfl (fun h => by cases h)
abbrev mX2_field : rx_M := (RX2, cX2_field, 7, (some .int), false)
theorem vy_X2_field : rx_Y (zV b e D A X) yX2_field mX2_field 4 := ⟨zw2645, zw429, by decide, by decide +kernel, by decide +kernel, by decide +kernel⟩
noncomputable def vX2_field_161 : rx_K := o_bi (fun x y => x + y) (o_ret1 rx_isI)
set_option maxRecDepth 20000 in
theorem wX2_field_161 (hZ : zO b e D A X) : rx_OK (zV b e D A X) mX2_field 3 161 vX2_field_161 := by
  unfold vX2_field_161
  refine s_iadd dX2_field_161 ?_
  exact s_iret hZ.1 rfl dX2_field_162
noncomputable def vX2_field_160 : rx_K := o_const 0 (vX2_field_161)
set_option maxRecDepth 20000 in
theorem wX2_field_160 (hZ : zO b e D A X) : rx_OK (zV b e D A X) mX2_field 3 160 vX2_field_160 := by
  unfold vX2_field_160
  refine s_iconst dX2_field_160 (by decide +kernel) ?_
  exact (wX2_field_161 hZ)
noncomputable def vX2_field_148 : rx_K := o_ld rx_isR 0 (o_const 216 (o_ld rx_isI 3 (o_ld rx_isI 4 (o_callV 3 2 FX2_note (vX2_field_161)))))
set_option maxRecDepth 20000 in
theorem wX2_field_148 (hZ : zO b e D A X) : rx_OK (zV b e D A X) mX2_field 3 148 vX2_field_148 := by
  unfold vX2_field_148
  refine s_aload_n hZ.1 dX2_field_148 rfl ?_
  refine s_bipush dX2_field_149 (by decide +kernel) ?_
  refine s_iload_n hZ.1 dX2_field_151 rfl ?_
  refine s_iload hZ.1 dX2_field_152 ?_
  refine s_callV hZ.1 (Met_X2_note hZ) (Nat.le_of_ble_eq_true rfl) vy_X2_note zcl2 zw2609 zw140 (Or.inl zw2607) dX2_field_154 ?_
  exact s_goto dX2_field_157 (by decide) (wX2_field_161 hZ)
noncomputable def vX2_field_139 : rx_K := o_st rx_isI 6 (o_ld rx_isI 5 (o_ld rx_isI 6 (o_c1 rx_eq vX2_field_160 vX2_field_148)))
set_option maxRecDepth 20000 in
theorem wX2_field_139 (hZ : zO b e D A X) : rx_OK (zV b e D A X) mX2_field 3 139 vX2_field_139 := by
  unfold vX2_field_139
  refine s_istore hZ.1 dX2_field_139 (Nat.le_of_ble_eq_true rfl) ?_
  refine s_iload hZ.1 dX2_field_141 ?_
  refine s_iload hZ.1 dX2_field_143 ?_
  exact s_if_eq dX2_field_145 (by decide) (wX2_field_160 hZ) (wX2_field_148 hZ)
noncomputable def vX2_field_138 : rx_K := o_const 0 (vX2_field_139)
set_option maxRecDepth 20000 in
theorem wX2_field_138 (hZ : zO b e D A X) : rx_OK (zV b e D A X) mX2_field 3 138 vX2_field_138 := by
  unfold vX2_field_138
  refine s_iconst dX2_field_138 (by decide +kernel) ?_
  exact (wX2_field_139 hZ)
noncomputable def vX2_field_134 : rx_K := o_const 8 (vX2_field_139)
set_option maxRecDepth 20000 in
theorem wX2_field_134 (hZ : zO b e D A X) : rx_OK (zV b e D A X) mX2_field 3 134 vX2_field_134 := by
  unfold vX2_field_134
  refine s_iconst dX2_field_134 (by decide +kernel) ?_
  exact s_goto dX2_field_135 (by decide) (wX2_field_139 hZ)
noncomputable def vX2_field_123 : rx_K := o_ld rx_isR 1 (o_getf 7 16 (o_ld rx_isR 2 (o_getf 7 16 (o_c2 rx_eq vX2_field_138 vX2_field_134))))
set_option maxRecDepth 20000 in
theorem wX2_field_123 (hZ : zO b e D A X) : rx_OK (zV b e D A X) mX2_field 3 123 vX2_field_123 := by
  unfold vX2_field_123
  refine s_aload_n hZ.1 dX2_field_123 rfl ?_
  refine yg7_16 dX2_field_124 zw1060 ?_
  refine s_aload_n hZ.1 dX2_field_127 rfl ?_
  refine yg7_16 dX2_field_128 zw1060 ?_
  exact s_icmp_eq dX2_field_131 (by decide) (wX2_field_138 hZ) (wX2_field_134 hZ)
noncomputable def vX2_field_116 : rx_K := o_ld rx_isR 1 (o_getf 7 15 (o_c1 rx_eq vX2_field_138 vX2_field_123))
set_option maxRecDepth 20000 in
theorem wX2_field_116 (hZ : zO b e D A X) : rx_OK (zV b e D A X) mX2_field 3 116 vX2_field_116 := by
  unfold vX2_field_116
  refine s_aload_n hZ.1 dX2_field_116 rfl ?_
  refine yg7_15 dX2_field_117 zw1054 ?_
  exact s_if_eq dX2_field_120 (by decide) (wX2_field_138 hZ) (wX2_field_123 hZ)
noncomputable def vX2_field_109 : rx_K := o_ld rx_isR 2 (o_getf 7 15 (o_c2 rx_eq vX2_field_116 vX2_field_134))
set_option maxRecDepth 20000 in
theorem wX2_field_109 (hZ : zO b e D A X) : rx_OK (zV b e D A X) mX2_field 3 109 vX2_field_109 := by
  unfold vX2_field_109
  refine s_aload_n hZ.1 dX2_field_109 rfl ?_
  refine yg7_15 dX2_field_110 zw1054 ?_
  exact s_icmp_ne dX2_field_113 (by decide) (wX2_field_134 hZ) (wX2_field_116 hZ)
noncomputable def vX2_field_64 : rx_K := o_ld rx_isR 0 (o_ld rx_isR 1 (o_getf 7 3 (o_ld rx_isR 2 (o_getf 7 3 (o_const 184 (o_ld rx_isI 3 (o_ld rx_isI 4 (o_callV 5 2 FX2_turned (o_st rx_isI 5 (o_ld rx_isI 5 (o_ld rx_isR 0 (o_ld rx_isR 1 (o_getf 7 1 (o_ld rx_isR 2 (o_getf 7 1 (o_const 200 (o_ld rx_isI 3 (o_ld rx_isI 4 (o_callV 5 2 FX2_access (o_bi (fun x y => x + y) (o_st rx_isI 5 (o_ld rx_isR 1 (o_getf 7 15 (vX2_field_109))))))))))))))))))))))))
set_option maxRecDepth 20000 in
theorem wX2_field_64 (hZ : zO b e D A X) : rx_OK (zV b e D A X) mX2_field 3 64 vX2_field_64 := by
  unfold vX2_field_64
  refine s_aload_n hZ.1 dX2_field_64 rfl ?_
  refine s_aload_n hZ.1 dX2_field_65 rfl ?_
  refine yg7_3 dX2_field_66 zw976 ?_
  refine s_aload_n hZ.1 dX2_field_69 rfl ?_
  refine yg7_3 dX2_field_70 zw976 ?_
  refine s_bipush dX2_field_73 (by decide +kernel) ?_
  refine s_iload_n hZ.1 dX2_field_75 rfl ?_
  refine s_iload hZ.1 dX2_field_76 ?_
  refine s_callV hZ.1 (Met_X2_turned hZ) (Nat.le_of_ble_eq_true rfl) vy_X2_turned zcl2 zw2621 zw142 (Or.inl zw2619) dX2_field_78 ?_
  refine s_istore hZ.1 dX2_field_81 (Nat.le_of_ble_eq_true rfl) ?_
  refine s_iload hZ.1 dX2_field_83 ?_
  refine s_aload_n hZ.1 dX2_field_85 rfl ?_
  refine s_aload_n hZ.1 dX2_field_86 rfl ?_
  refine yg7_1 dX2_field_87 zw956 ?_
  refine s_aload_n hZ.1 dX2_field_90 rfl ?_
  refine yg7_1 dX2_field_91 zw956 ?_
  refine s_bipush dX2_field_94 (by decide +kernel) ?_
  refine s_iload_n hZ.1 dX2_field_96 rfl ?_
  refine s_iload hZ.1 dX2_field_97 ?_
  refine s_callV hZ.1 (Met_X2_access hZ) (Nat.le_of_ble_eq_true rfl) vy_X2_access zcl2 zw2648 zw147 (Or.inl zw2646) dX2_field_99 ?_
  refine s_iadd dX2_field_102 ?_
  refine s_istore hZ.1 dX2_field_103 (Nat.le_of_ble_eq_true rfl) ?_
  refine s_aload_n hZ.1 dX2_field_105 rfl ?_
  refine yg7_15 dX2_field_106 zw1054 ?_
  exact (wX2_field_109 hZ)
noncomputable def vX2_field_61 : rx_K := o_ld rx_isI 5 (o_ret1 rx_isI)
set_option maxRecDepth 20000 in
theorem wX2_field_61 (hZ : zO b e D A X) : rx_OK (zV b e D A X) mX2_field 3 61 vX2_field_61 := by
  unfold vX2_field_61
  refine s_iload hZ.1 dX2_field_61 ?_
  exact s_iret hZ.1 rfl dX2_field_63
noncomputable def vX2_field_53 : rx_K := o_bi (fun x y => x + y) (o_st rx_isI 5 (o_ld rx_isI 5 (o_c1 (fun h x y => rx_lt h y x) vX2_field_61 vX2_field_64)))
set_option maxRecDepth 20000 in
theorem wX2_field_53 (hZ : zO b e D A X) : rx_OK (zV b e D A X) mX2_field 3 53 vX2_field_53 := by
  unfold vX2_field_53
  refine s_iadd dX2_field_53 ?_
  refine s_istore hZ.1 dX2_field_54 (Nat.le_of_ble_eq_true rfl) ?_
  refine s_iload hZ.1 dX2_field_56 ?_
  exact s_if_le dX2_field_58 (by decide) (wX2_field_64 hZ) (wX2_field_61 hZ)
noncomputable def vX2_field_52 : rx_K := o_const 0 (vX2_field_53)
set_option maxRecDepth 20000 in
theorem wX2_field_52 (hZ : zO b e D A X) : rx_OK (zV b e D A X) mX2_field 3 52 vX2_field_52 := by
  unfold vX2_field_52
  refine s_iconst dX2_field_52 (by decide +kernel) ?_
  exact (wX2_field_53 hZ)
noncomputable def vX2_field_40 : rx_K := o_ld rx_isR 0 (o_const 176 (o_ld rx_isI 3 (o_ld rx_isI 4 (o_callV 3 2 FX2_note (vX2_field_53)))))
set_option maxRecDepth 20000 in
theorem wX2_field_40 (hZ : zO b e D A X) : rx_OK (zV b e D A X) mX2_field 3 40 vX2_field_40 := by
  unfold vX2_field_40
  refine s_aload_n hZ.1 dX2_field_40 rfl ?_
  refine s_bipush dX2_field_41 (by decide +kernel) ?_
  refine s_iload_n hZ.1 dX2_field_43 rfl ?_
  refine s_iload hZ.1 dX2_field_44 ?_
  refine s_callV hZ.1 (Met_X2_note hZ) (Nat.le_of_ble_eq_true rfl) vy_X2_note zcl2 zw2609 zw140 (Or.inl zw2607) dX2_field_46 ?_
  exact s_goto dX2_field_49 (by decide) (wX2_field_53 hZ)
noncomputable def vX2_field_25 : rx_K := o_st rx_isI 5 (o_ld rx_isI 5 (o_ld rx_isR 1 (o_getf 7 2 (o_ld rx_isR 2 (o_getf 7 2 (o_c2 rx_eq vX2_field_52 vX2_field_40))))))
set_option maxRecDepth 20000 in
theorem wX2_field_25 (hZ : zO b e D A X) : rx_OK (zV b e D A X) mX2_field 3 25 vX2_field_25 := by
  unfold vX2_field_25
  refine s_istore hZ.1 dX2_field_25 (Nat.le_of_ble_eq_true rfl) ?_
  refine s_iload hZ.1 dX2_field_27 ?_
  refine s_aload_n hZ.1 dX2_field_29 rfl ?_
  refine yg7_2 dX2_field_30 zw966 ?_
  refine s_aload_n hZ.1 dX2_field_33 rfl ?_
  refine yg7_2 dX2_field_34 zw966 ?_
  exact s_icmp_eq dX2_field_37 (by decide) (wX2_field_52 hZ) (wX2_field_40 hZ)
noncomputable def vX2_field_24 : rx_K := o_const 0 (vX2_field_25)
set_option maxRecDepth 20000 in
theorem wX2_field_24 (hZ : zO b e D A X) : rx_OK (zV b e D A X) mX2_field 3 24 vX2_field_24 := by
  unfold vX2_field_24
  refine s_iconst dX2_field_24 (by decide +kernel) ?_
  exact (wX2_field_25 hZ)
noncomputable def vX2_field_12 : rx_K := o_ld rx_isR 0 (o_const 168 (o_ld rx_isI 3 (o_ld rx_isI 4 (o_callV 3 2 FX2_note (vX2_field_25)))))
set_option maxRecDepth 20000 in
theorem wX2_field_12 (hZ : zO b e D A X) : rx_OK (zV b e D A X) mX2_field 3 12 vX2_field_12 := by
  unfold vX2_field_12
  refine s_aload_n hZ.1 dX2_field_12 rfl ?_
  refine s_bipush dX2_field_13 (by decide +kernel) ?_
  refine s_iload_n hZ.1 dX2_field_15 rfl ?_
  refine s_iload hZ.1 dX2_field_16 ?_
  refine s_callV hZ.1 (Met_X2_note hZ) (Nat.le_of_ble_eq_true rfl) vy_X2_note zcl2 zw2609 zw140 (Or.inl zw2607) dX2_field_18 ?_
  exact s_goto dX2_field_21 (by decide) (wX2_field_25 hZ)
noncomputable def vX2_field_0 : rx_K := o_ld rx_isR 1 (o_getf 7 8 (o_ld rx_isR 2 (o_getf 7 8 (o_bc (fun x y => lg_cmp x y) (o_c1 rx_eq vX2_field_24 vX2_field_12)))))
set_option maxRecDepth 20000 in
theorem wX2_field_0 (hZ : zO b e D A X) : rx_OK (zV b e D A X) mX2_field 3 0 vX2_field_0 := by
  unfold vX2_field_0
  refine s_aload_n hZ.1 dX2_field_0 rfl ?_
  refine yg7_8 dX2_field_1 zw1017 ?_
  refine s_aload_n hZ.1 dX2_field_4 rfl ?_
  refine yg7_8 dX2_field_5 zw1017 ?_
  refine s_lcmp dX2_field_8 ?_
  exact s_if_eq dX2_field_9 (by decide) (wX2_field_24 hZ) (wX2_field_12 hZ)
noncomputable def FX2_field : List Nat → rx_H → Option (Nat × rx_H) := rx_ent 7 vX2_field_0
theorem Met_X2_field (hZ : zO b e D A X) : rx_Met (zV b e D A X) 3 yX2_field mX2_field (FX2_field) := rx_entry hZ.1 (wX2_field_0 hZ) (by decide +kernel) rfl (fun h => by cases h)
abbrev mX2_indexIn : rx_M := (RX2, cX2_indexIn, 3, (some .int), false)
theorem vy_X2_indexIn : rx_Y (zV b e D A X) yX2_indexIn mX2_indexIn 2 := ⟨zw2641, zw429, by decide, by decide +kernel, by decide +kernel, by decide +kernel⟩
noncomputable def vX2_indexIn_28 (j : Nat → rx_K) : rx_K := o_const 34359738352 (o_ret1 rx_isI)
set_option maxRecDepth 20000 in
theorem wX2_indexIn_28 (hZ : zO b e D A X) (j : Nat → rx_K) (hj : ∀ k pc, [2][k]? = some pc → rx_OK (zV b e D A X) mX2_indexIn 0 pc (j k)) : rx_OK (zV b e D A X) mX2_indexIn 0 28 (vX2_indexIn_28 j) := by
  unfold vX2_indexIn_28
  refine s_bipush dX2_indexIn_28 (by decide +kernel) ?_
  exact s_iret hZ.1 rfl dX2_indexIn_30
noncomputable def vX2_indexIn_22 (j : Nat → rx_K) : rx_K := o_inc 2 (1) ((j 0))
set_option maxRecDepth 20000 in
theorem wX2_indexIn_22 (hZ : zO b e D A X) (j : Nat → rx_K) (hj : ∀ k pc, [2][k]? = some pc → rx_OK (zV b e D A X) mX2_indexIn 0 pc (j k)) : rx_OK (zV b e D A X) mX2_indexIn 0 22 (vX2_indexIn_22 j) := by
  unfold vX2_indexIn_22
  refine s_iinc hZ.1 dX2_indexIn_22 (Nat.le_of_ble_eq_true rfl) ?_
  exact s_goto dX2_indexIn_25 (by decide) (hj 0 2 rfl)
noncomputable def vX2_indexIn_20 (j : Nat → rx_K) : rx_K := o_ld rx_isI 2 (o_ret1 rx_isI)
set_option maxRecDepth 20000 in
theorem wX2_indexIn_20 (hZ : zO b e D A X) (j : Nat → rx_K) (hj : ∀ k pc, [2][k]? = some pc → rx_OK (zV b e D A X) mX2_indexIn 0 pc (j k)) : rx_OK (zV b e D A X) mX2_indexIn 0 20 (vX2_indexIn_20 j) := by
  unfold vX2_indexIn_20
  refine s_iload_n hZ.1 dX2_indexIn_20 rfl ?_
  exact s_iret hZ.1 rfl dX2_indexIn_21
noncomputable def vX2_indexIn_10 (j : Nat → rx_K) : rx_K := o_ld rx_isR 0 (o_getf 10 14 (o_ld rx_isI 2 (o_ald 5 (o_ld rx_isR 1 (o_acmp (vX2_indexIn_20 j) (vX2_indexIn_22 j))))))
set_option maxRecDepth 20000 in
theorem wX2_indexIn_10 (hZ : zO b e D A X) (j : Nat → rx_K) (hj : ∀ k pc, [2][k]? = some pc → rx_OK (zV b e D A X) mX2_indexIn 0 pc (j k)) : rx_OK (zV b e D A X) mX2_indexIn 0 10 (vX2_indexIn_10 j) := by
  unfold vX2_indexIn_10
  refine s_aload_n hZ.1 dX2_indexIn_10 rfl ?_
  refine yg10_14 dX2_indexIn_11 zw861 ?_
  refine s_iload_n hZ.1 dX2_indexIn_14 rfl ?_
  refine s_aald (tt := 5) rfl rfl dX2_indexIn_15 ?_
  refine s_aload_n hZ.1 dX2_indexIn_16 rfl ?_
  exact s_acmp_ne hZ.1 dX2_indexIn_17 (by decide) (wX2_indexIn_22 hZ j hj) (wX2_indexIn_20 hZ j hj)
noncomputable def vX2_indexIn_2 (j : Nat → rx_K) : rx_K := o_ld rx_isI 2 (o_ld rx_isR 0 (o_getf 10 15 (o_c2 rx_lt (vX2_indexIn_10 j) (vX2_indexIn_28 j))))
set_option maxRecDepth 20000 in
theorem wX2_indexIn_2 (hZ : zO b e D A X) (j : Nat → rx_K) (hj : ∀ k pc, [2][k]? = some pc → rx_OK (zV b e D A X) mX2_indexIn 0 pc (j k)) : rx_OK (zV b e D A X) mX2_indexIn 0 2 (vX2_indexIn_2 j) := by
  unfold vX2_indexIn_2
  refine s_iload_n hZ.1 dX2_indexIn_2 rfl ?_
  refine s_aload_n hZ.1 dX2_indexIn_3 rfl ?_
  refine yg10_15 dX2_indexIn_4 zw869 ?_
  exact s_icmp_ge dX2_indexIn_7 (by decide) (wX2_indexIn_28 hZ j hj) (wX2_indexIn_10 hZ j hj)
noncomputable def vX2_indexIn_0 (j : Nat → rx_K) : rx_K := o_const 0 (o_st rx_isI 2 ((vX2_indexIn_2 j)))
set_option maxRecDepth 20000 in
theorem wX2_indexIn_0 (hZ : zO b e D A X) (j : Nat → rx_K) (hj : ∀ k pc, [2][k]? = some pc → rx_OK (zV b e D A X) mX2_indexIn 0 pc (j k)) : rx_OK (zV b e D A X) mX2_indexIn 0 0 (vX2_indexIn_0 j) := by
  unfold vX2_indexIn_0
  refine s_iconst dX2_indexIn_0 (by decide +kernel) ?_
  refine s_istore_n hZ.1 dX2_indexIn_1 rfl (Nat.le_of_ble_eq_true rfl) ?_
  exact (wX2_indexIn_2 hZ j hj)
noncomputable def vhX2_indexIn (j : Nat → rx_K) : List rx_K := [vX2_indexIn_2 j]
theorem vlX2_indexIn (hZ : zO b e D A X) : ∀ n k pc, [2][k]? = some pc → rx_OK (zV b e D A X) mX2_indexIn 0 pc (rx_J (vhX2_indexIn) n k) := rx_loop fun j hj k pc h => by
  match k, h with
  | 0, h =>
    have e9 := Option.some.inj (show some 2 = some pc from h)
    subst e9
    exact wX2_indexIn_2 hZ j hj
  | _ + 1, h => exact absurd h (by simp)
noncomputable def FX2_indexIn : List Nat → rx_H → Option (Nat × rx_H) := rx_ent 3 (vX2_indexIn_0 (rx_J (vhX2_indexIn) 4000000000))
theorem Met_X2_indexIn (hZ : zO b e D A X) : rx_Met (zV b e D A X) 0 yX2_indexIn mX2_indexIn (FX2_indexIn) := rx_entry hZ.1 (wX2_indexIn_0 hZ _ (vlX2_indexIn hZ 4000000000)) (by decide +kernel) rfl (fun h => by cases h)
abbrev mX2_fields : rx_M := (RX2, cX2_fields, 7, (some .int), false)
theorem vy_X2_fields : rx_Y (zV b e D A X) yX2_fields mX2_fields 2 := ⟨zw2636, zw429, by decide, by decide +kernel, by decide +kernel, by decide +kernel⟩
noncomputable def vX2_fields_155 (j : Nat → rx_K) : rx_K := o_ld rx_isI 3 (o_ret1 rx_isI)
set_option maxRecDepth 20000 in
theorem wX2_fields_155 (hZ : zO b e D A X) (j : Nat → rx_K) (hj : ∀ k pc, [5, 91][k]? = some pc → rx_OK (zV b e D A X) mX2_fields 4 pc (j k)) : rx_OK (zV b e D A X) mX2_fields 4 155 (vX2_fields_155 j) := by
  unfold vX2_fields_155
  refine s_iload_n hZ.1 dX2_fields_155 rfl ?_
  exact s_iret hZ.1 rfl dX2_fields_156
noncomputable def vX2_fields_147 (j : Nat → rx_K) : rx_K := o_bi (fun x y => x + y) (o_st rx_isI 3 (o_inc 4 (1) ((j 1))))
set_option maxRecDepth 20000 in
theorem wX2_fields_147 (hZ : zO b e D A X) (j : Nat → rx_K) (hj : ∀ k pc, [5, 91][k]? = some pc → rx_OK (zV b e D A X) mX2_fields 4 pc (j k)) : rx_OK (zV b e D A X) mX2_fields 4 147 (vX2_fields_147 j) := by
  unfold vX2_fields_147
  refine s_iadd dX2_fields_147 ?_
  refine s_istore_n hZ.1 dX2_fields_148 rfl (Nat.le_of_ble_eq_true rfl) ?_
  refine s_iinc hZ.1 dX2_fields_149 (Nat.le_of_ble_eq_true rfl) ?_
  exact s_goto dX2_fields_152 (by decide) (hj 1 91 rfl)
noncomputable def vX2_fields_146 (j : Nat → rx_K) : rx_K := o_const 0 ((vX2_fields_147 j))
set_option maxRecDepth 20000 in
theorem wX2_fields_146 (hZ : zO b e D A X) (j : Nat → rx_K) (hj : ∀ k pc, [5, 91][k]? = some pc → rx_OK (zV b e D A X) mX2_fields 4 pc (j k)) : rx_OK (zV b e D A X) mX2_fields 4 146 (vX2_fields_146 j) := by
  unfold vX2_fields_146
  refine s_iconst dX2_fields_146 (by decide +kernel) ?_
  exact (wX2_fields_147 hZ j hj)
noncomputable def vX2_fields_133 (j : Nat → rx_K) : rx_K := o_ld rx_isR 0 (o_const 224 (o_const 34359738352 (o_ld rx_isI 4 (o_callV 3 2 FX2_note ((vX2_fields_147 j))))))
set_option maxRecDepth 20000 in
theorem wX2_fields_133 (hZ : zO b e D A X) (j : Nat → rx_K) (hj : ∀ k pc, [5, 91][k]? = some pc → rx_OK (zV b e D A X) mX2_fields 4 pc (j k)) : rx_OK (zV b e D A X) mX2_fields 4 133 (vX2_fields_133 j) := by
  unfold vX2_fields_133
  refine s_aload_n hZ.1 dX2_fields_133 rfl ?_
  refine s_bipush dX2_fields_134 (by decide +kernel) ?_
  refine s_bipush dX2_fields_136 (by decide +kernel) ?_
  refine s_iload hZ.1 dX2_fields_138 ?_
  refine s_callV hZ.1 (Met_X2_note hZ) (Nat.le_of_ble_eq_true rfl) vy_X2_note zcl2 zw2609 zw140 (Or.inl zw2607) dX2_fields_140 ?_
  exact s_goto dX2_fields_143 (by decide) (wX2_fields_147 hZ j hj)
noncomputable def vX2_fields_118 (j : Nat → rx_K) : rx_K := o_ld rx_isR 1 (o_ld rx_isR 5 (o_getf 7 7 (o_const 147573952589676412897 (o_callV 2 10 FX10_field (o_nul (vX2_fields_133 j) (vX2_fields_146 j))))))
set_option maxRecDepth 20000 in
theorem wX2_fields_118 (hZ : zO b e D A X) (j : Nat → rx_K) (hj : ∀ k pc, [5, 91][k]? = some pc → rx_OK (zV b e D A X) mX2_fields 4 pc (j k)) : rx_OK (zV b e D A X) mX2_fields 4 118 (vX2_fields_118 j) := by
  unfold vX2_fields_118
  refine s_aload_n hZ.1 dX2_fields_118 rfl ?_
  refine s_aload hZ.1 dX2_fields_119 ?_
  refine yg7_7 dX2_fields_121 zw1005 ?_
  refine s_ldc2 dX2_fields_124 zw2637 (by decide +kernel) ?_
  refine s_callV hZ.1 (Met_X10_field hZ) (Nat.le_of_ble_eq_true rfl) vy_X10_field zcl10 zw2068 zw2069 (Or.inl zw2638) dX2_fields_127 ?_
  exact s_ifnonnull dX2_fields_130 (by decide) (wX2_fields_146 hZ j hj) (wX2_fields_133 hZ j hj)
noncomputable def vX2_fields_100 (j : Nat → rx_K) : rx_K := o_ld rx_isR 2 (o_getf 10 14 (o_ld rx_isI 4 (o_ald 5 (o_st rx_isR 5 (o_ld rx_isI 3 (o_ld rx_isR 5 (o_getf 7 0 (o_c1 rx_eq (vX2_fields_118 j) (vX2_fields_146 j)))))))))
set_option maxRecDepth 20000 in
theorem wX2_fields_100 (hZ : zO b e D A X) (j : Nat → rx_K) (hj : ∀ k pc, [5, 91][k]? = some pc → rx_OK (zV b e D A X) mX2_fields 4 pc (j k)) : rx_OK (zV b e D A X) mX2_fields 4 100 (vX2_fields_100 j) := by
  unfold vX2_fields_100
  refine s_aload_n hZ.1 dX2_fields_100 rfl ?_
  refine yg10_14 dX2_fields_101 zw861 ?_
  refine s_iload hZ.1 dX2_fields_104 ?_
  refine s_aald (tt := 5) rfl rfl dX2_fields_106 ?_
  refine s_astore hZ.1 dX2_fields_107 (Nat.le_of_ble_eq_true rfl) ?_
  refine s_iload_n hZ.1 dX2_fields_109 rfl ?_
  refine s_aload hZ.1 dX2_fields_110 ?_
  refine yg7_0 dX2_fields_112 zw948 ?_
  exact s_if_ne dX2_fields_115 (by decide) (wX2_fields_146 hZ j hj) (wX2_fields_118 hZ j hj)
noncomputable def vX2_fields_91 (j : Nat → rx_K) : rx_K := o_ld rx_isI 4 (o_ld rx_isR 2 (o_getf 10 15 (o_c2 rx_lt (vX2_fields_100 j) (vX2_fields_155 j))))
set_option maxRecDepth 20000 in
theorem wX2_fields_91 (hZ : zO b e D A X) (j : Nat → rx_K) (hj : ∀ k pc, [5, 91][k]? = some pc → rx_OK (zV b e D A X) mX2_fields 4 pc (j k)) : rx_OK (zV b e D A X) mX2_fields 4 91 (vX2_fields_91 j) := by
  unfold vX2_fields_91
  refine s_iload hZ.1 dX2_fields_91 ?_
  refine s_aload_n hZ.1 dX2_fields_93 rfl ?_
  refine yg10_15 dX2_fields_94 zw869 ?_
  exact s_icmp_ge dX2_fields_97 (by decide) (wX2_fields_155 hZ j hj) (wX2_fields_100 hZ j hj)
noncomputable def vX2_fields_88 (j : Nat → rx_K) : rx_K := o_const 0 (o_st rx_isI 4 ((vX2_fields_91 j)))
set_option maxRecDepth 20000 in
theorem wX2_fields_88 (hZ : zO b e D A X) (j : Nat → rx_K) (hj : ∀ k pc, [5, 91][k]? = some pc → rx_OK (zV b e D A X) mX2_fields 4 pc (j k)) : rx_OK (zV b e D A X) mX2_fields 4 88 (vX2_fields_88 j) := by
  unfold vX2_fields_88
  refine s_iconst dX2_fields_88 (by decide +kernel) ?_
  refine s_istore hZ.1 dX2_fields_89 (Nat.le_of_ble_eq_true rfl) ?_
  exact (wX2_fields_91 hZ j hj)
noncomputable def vX2_fields_82 (j : Nat → rx_K) : rx_K := o_inc 4 (1) ((j 0))
set_option maxRecDepth 20000 in
theorem wX2_fields_82 (hZ : zO b e D A X) (j : Nat → rx_K) (hj : ∀ k pc, [5, 91][k]? = some pc → rx_OK (zV b e D A X) mX2_fields 4 pc (j k)) : rx_OK (zV b e D A X) mX2_fields 4 82 (vX2_fields_82 j) := by
  unfold vX2_fields_82
  refine s_iinc hZ.1 dX2_fields_82 (Nat.le_of_ble_eq_true rfl) ?_
  exact s_goto dX2_fields_85 (by decide) (hj 0 5 rfl)
noncomputable def vX2_fields_80 (j : Nat → rx_K) : rx_K := o_bi (fun x y => x + y) (o_st rx_isI 3 ((vX2_fields_82 j)))
set_option maxRecDepth 20000 in
theorem wX2_fields_80 (hZ : zO b e D A X) (j : Nat → rx_K) (hj : ∀ k pc, [5, 91][k]? = some pc → rx_OK (zV b e D A X) mX2_fields 4 pc (j k)) : rx_OK (zV b e D A X) mX2_fields 4 80 (vX2_fields_80 j) := by
  unfold vX2_fields_80
  refine s_iadd dX2_fields_80 ?_
  refine s_istore_n hZ.1 dX2_fields_81 rfl (Nat.le_of_ble_eq_true rfl) ?_
  exact (wX2_fields_82 hZ j hj)
noncomputable def vX2_fields_64 (j : Nat → rx_K) : rx_K := o_ld rx_isR 0 (o_ld rx_isR 5 (o_ld rx_isR 6 (o_ld rx_isI 4 (o_ld rx_isR 2 (o_ld rx_isR 6 (o_callS 2 FX2_indexIn (o_callV 4 2 FX2_field ((vX2_fields_80 j)))))))))
set_option maxRecDepth 20000 in
theorem wX2_fields_64 (hZ : zO b e D A X) (j : Nat → rx_K) (hj : ∀ k pc, [5, 91][k]? = some pc → rx_OK (zV b e D A X) mX2_fields 4 pc (j k)) : rx_OK (zV b e D A X) mX2_fields 4 64 (vX2_fields_64 j) := by
  unfold vX2_fields_64
  refine s_aload_n hZ.1 dX2_fields_64 rfl ?_
  refine s_aload hZ.1 dX2_fields_65 ?_
  refine s_aload hZ.1 dX2_fields_67 ?_
  refine s_iload hZ.1 dX2_fields_69 ?_
  refine s_aload_n hZ.1 dX2_fields_71 rfl ?_
  refine s_aload hZ.1 dX2_fields_72 ?_
  refine s_callS hZ.1 (Met_X2_indexIn hZ) (Nat.le_of_ble_eq_true rfl) vy_X2_indexIn zw2640 (Or.inl zw2639) dX2_fields_74 ?_
  refine s_callV hZ.1 (Met_X2_field hZ) (Nat.le_of_ble_eq_true rfl) vy_X2_field zcl2 zw2644 zw146 (Or.inl zw2642) dX2_fields_77 ?_
  exact (wX2_fields_80 hZ j hj)
noncomputable def vX2_fields_51 (j : Nat → rx_K) : rx_K := o_ld rx_isR 0 (o_const 160 (o_ld rx_isI 4 (o_const 34359738352 (o_callV 3 2 FX2_note ((vX2_fields_80 j))))))
set_option maxRecDepth 20000 in
theorem wX2_fields_51 (hZ : zO b e D A X) (j : Nat → rx_K) (hj : ∀ k pc, [5, 91][k]? = some pc → rx_OK (zV b e D A X) mX2_fields 4 pc (j k)) : rx_OK (zV b e D A X) mX2_fields 4 51 (vX2_fields_51 j) := by
  unfold vX2_fields_51
  refine s_aload_n hZ.1 dX2_fields_51 rfl ?_
  refine s_bipush dX2_fields_52 (by decide +kernel) ?_
  refine s_iload hZ.1 dX2_fields_54 ?_
  refine s_bipush dX2_fields_56 (by decide +kernel) ?_
  refine s_callV hZ.1 (Met_X2_note hZ) (Nat.le_of_ble_eq_true rfl) vy_X2_note zcl2 zw2609 zw140 (Or.inl zw2607) dX2_fields_58 ?_
  exact s_goto dX2_fields_61 (by decide) (wX2_fields_80 hZ j hj)
noncomputable def vX2_fields_31 (j : Nat → rx_K) : rx_K := o_ld rx_isR 2 (o_ld rx_isR 5 (o_getf 7 7 (o_const 147573952589676412897 (o_callV 2 10 FX10_field (o_st rx_isR 6 (o_ld rx_isI 3 (o_ld rx_isR 6 (o_nul (vX2_fields_51 j) (vX2_fields_64 j)))))))))
set_option maxRecDepth 20000 in
theorem wX2_fields_31 (hZ : zO b e D A X) (j : Nat → rx_K) (hj : ∀ k pc, [5, 91][k]? = some pc → rx_OK (zV b e D A X) mX2_fields 4 pc (j k)) : rx_OK (zV b e D A X) mX2_fields 4 31 (vX2_fields_31 j) := by
  unfold vX2_fields_31
  refine s_aload_n hZ.1 dX2_fields_31 rfl ?_
  refine s_aload hZ.1 dX2_fields_32 ?_
  refine yg7_7 dX2_fields_34 zw1005 ?_
  refine s_ldc2 dX2_fields_37 zw2637 (by decide +kernel) ?_
  refine s_callV hZ.1 (Met_X10_field hZ) (Nat.le_of_ble_eq_true rfl) vy_X10_field zcl10 zw2068 zw2069 (Or.inl zw2638) dX2_fields_40 ?_
  refine s_astore hZ.1 dX2_fields_43 (Nat.le_of_ble_eq_true rfl) ?_
  refine s_iload_n hZ.1 dX2_fields_45 rfl ?_
  refine s_aload hZ.1 dX2_fields_46 ?_
  exact s_ifnonnull dX2_fields_48 (by decide) (wX2_fields_64 hZ j hj) (wX2_fields_51 hZ j hj)
noncomputable def vX2_fields_14 (j : Nat → rx_K) : rx_K := o_ld rx_isR 1 (o_getf 10 14 (o_ld rx_isI 4 (o_ald 5 (o_st rx_isR 5 (o_ld rx_isR 5 (o_getf 7 0 (o_c1 rx_eq (vX2_fields_31 j) (vX2_fields_82 j))))))))
set_option maxRecDepth 20000 in
theorem wX2_fields_14 (hZ : zO b e D A X) (j : Nat → rx_K) (hj : ∀ k pc, [5, 91][k]? = some pc → rx_OK (zV b e D A X) mX2_fields 4 pc (j k)) : rx_OK (zV b e D A X) mX2_fields 4 14 (vX2_fields_14 j) := by
  unfold vX2_fields_14
  refine s_aload_n hZ.1 dX2_fields_14 rfl ?_
  refine yg10_14 dX2_fields_15 zw861 ?_
  refine s_iload hZ.1 dX2_fields_18 ?_
  refine s_aald (tt := 5) rfl rfl dX2_fields_20 ?_
  refine s_astore hZ.1 dX2_fields_21 (Nat.le_of_ble_eq_true rfl) ?_
  refine s_aload hZ.1 dX2_fields_23 ?_
  refine yg7_0 dX2_fields_25 zw948 ?_
  exact s_if_ne dX2_fields_28 (by decide) (wX2_fields_82 hZ j hj) (wX2_fields_31 hZ j hj)
noncomputable def vX2_fields_5 (j : Nat → rx_K) : rx_K := o_ld rx_isI 4 (o_ld rx_isR 1 (o_getf 10 15 (o_c2 rx_lt (vX2_fields_14 j) (vX2_fields_88 j))))
set_option maxRecDepth 20000 in
theorem wX2_fields_5 (hZ : zO b e D A X) (j : Nat → rx_K) (hj : ∀ k pc, [5, 91][k]? = some pc → rx_OK (zV b e D A X) mX2_fields 4 pc (j k)) : rx_OK (zV b e D A X) mX2_fields 4 5 (vX2_fields_5 j) := by
  unfold vX2_fields_5
  refine s_iload hZ.1 dX2_fields_5 ?_
  refine s_aload_n hZ.1 dX2_fields_7 rfl ?_
  refine yg10_15 dX2_fields_8 zw869 ?_
  exact s_icmp_ge dX2_fields_11 (by decide) (wX2_fields_88 hZ j hj) (wX2_fields_14 hZ j hj)
noncomputable def vX2_fields_0 (j : Nat → rx_K) : rx_K := o_const 0 (o_st rx_isI 3 (o_const 0 (o_st rx_isI 4 ((vX2_fields_5 j)))))
set_option maxRecDepth 20000 in
theorem wX2_fields_0 (hZ : zO b e D A X) (j : Nat → rx_K) (hj : ∀ k pc, [5, 91][k]? = some pc → rx_OK (zV b e D A X) mX2_fields 4 pc (j k)) : rx_OK (zV b e D A X) mX2_fields 4 0 (vX2_fields_0 j) := by
  unfold vX2_fields_0
  refine s_iconst dX2_fields_0 (by decide +kernel) ?_
  refine s_istore_n hZ.1 dX2_fields_1 rfl (Nat.le_of_ble_eq_true rfl) ?_
  refine s_iconst dX2_fields_2 (by decide +kernel) ?_
  refine s_istore hZ.1 dX2_fields_3 (Nat.le_of_ble_eq_true rfl) ?_
  exact (wX2_fields_5 hZ j hj)
noncomputable def vhX2_fields (j : Nat → rx_K) : List rx_K := [vX2_fields_5 j, vX2_fields_91 j]
theorem vlX2_fields (hZ : zO b e D A X) : ∀ n k pc, [5, 91][k]? = some pc → rx_OK (zV b e D A X) mX2_fields 4 pc (rx_J (vhX2_fields) n k) := rx_loop fun j hj k pc h => by
  match k, h with
  | 0, h =>
    have e9 := Option.some.inj (show some 5 = some pc from h)
    subst e9
    exact wX2_fields_5 hZ j hj
  | 1, h =>
    have e9 := Option.some.inj (show some 91 = some pc from h)
    subst e9
    exact wX2_fields_91 hZ j hj
  | _ + 2, h => exact absurd h (by simp)
noncomputable def FX2_fields : List Nat → rx_H → Option (Nat × rx_H) := rx_ent 7 (vX2_fields_0 (rx_J (vhX2_fields) 4000000000))
theorem Met_X2_fields (hZ : zO b e D A X) : rx_Met (zV b e D A X) 4 yX2_fields mX2_fields (FX2_fields) := rx_entry hZ.1 (wX2_fields_0 hZ _ (vlX2_fields hZ 4000000000)) (by decide +kernel) rfl (fun h => by cases h)
end ZM7

section ZM32
variable {b : Nat} {e : Nat → Value} {D : va_G} {A : Nat → ClassId} {X : State → Prop}
abbrev mX12_tellList : rx_M := (RX12, cX12_tellList, 5, none, false)
theorem vy_X12_tellList : rx_Y (zV b e D A X) yX12_tellList mX12_tellList 3 := ⟨zw2415, zw413, by decide, by decide +kernel, by decide +kernel, by decide +kernel⟩
noncomputable def vX12_tellList_47 (j : Nat → rx_K) : rx_K := o_ret0
set_option maxRecDepth 20000 in
theorem wX12_tellList_47 (hZ : zO b e D A X) (j : Nat → rx_K) (hj : ∀ k pc, [3][k]? = some pc → rx_OK (zV b e D A X) mX12_tellList 6 pc (j k)) : rx_OK (zV b e D A X) mX12_tellList 6 47 (vX12_tellList_47 j) := by
  unfold vX12_tellList_47
  exact s_vret rfl dX12_tellList_47
noncomputable def vX12_tellList_27 (j : Nat → rx_K) : rx_K := o_callV 1 12 FX12_tellText (o_ld rx_isR 0 (o_ld rx_isR 1 (o_ld rx_isI 2 (o_ld rx_isI 4 (o_callV 2 10 FX10_listedAt (o_callV 1 12 FX12_tellType (o_inc 4 (1) ((j 0)))))))))
set_option maxRecDepth 20000 in
theorem wX12_tellList_27 (hZ : zO b e D A X) (j : Nat → rx_K) (hj : ∀ k pc, [3][k]? = some pc → rx_OK (zV b e D A X) mX12_tellList 6 pc (j k)) : rx_OK (zV b e D A X) mX12_tellList 6 27 (vX12_tellList_27 j) := by
  unfold vX12_tellList_27
  refine s_callV hZ.1 (Met_X12_tellText hZ) (Nat.le_of_ble_eq_true rfl) vy_X12_tellText zcl12 zw2384 zw115 (Or.inl zw2382) dX12_tellList_27 ?_
  refine s_aload_n hZ.1 dX12_tellList_30 rfl ?_
  refine s_aload_n hZ.1 dX12_tellList_31 rfl ?_
  refine s_iload_n hZ.1 dX12_tellList_32 rfl ?_
  refine s_iload hZ.1 dX12_tellList_33 ?_
  refine s_callV hZ.1 (Met_X10_listedAt hZ) (Nat.le_of_ble_eq_true rfl) vy_X10_listedAt zcl10 zw1586 zw1587 (Or.inl zw2417) dX12_tellList_35 ?_
  refine s_callV hZ.1 (Met_X12_tellType hZ) (Nat.le_of_ble_eq_true rfl) vy_X12_tellType zcl12 zw2398 zw117 (Or.inl zw2396) dX12_tellList_38 ?_
  refine s_iinc hZ.1 dX12_tellList_41 (Nat.le_of_ble_eq_true rfl) ?_
  exact s_goto dX12_tellList_44 (by decide) (hj 0 3 rfl)
noncomputable def vX12_tellList_24 (j : Nat → rx_K) : rx_K := o_const 244 ((vX12_tellList_27 j))
set_option maxRecDepth 20000 in
theorem wX12_tellList_24 (hZ : zO b e D A X) (j : Nat → rx_K) (hj : ∀ k pc, [3][k]? = some pc → rx_OK (zV b e D A X) mX12_tellList 6 pc (j k)) : rx_OK (zV b e D A X) mX12_tellList 6 24 (vX12_tellList_24 j) := by
  unfold vX12_tellList_24
  refine s_ldcwS (k := 30) (zo_R30 hZ) dX12_tellList_24 ?_
  exact (wX12_tellList_27 hZ j hj)
noncomputable def vX12_tellList_20 (j : Nat → rx_K) : rx_K := o_ld rx_isR 3 ((vX12_tellList_27 j))
set_option maxRecDepth 20000 in
theorem wX12_tellList_20 (hZ : zO b e D A X) (j : Nat → rx_K) (hj : ∀ k pc, [3][k]? = some pc → rx_OK (zV b e D A X) mX12_tellList 6 pc (j k)) : rx_OK (zV b e D A X) mX12_tellList 6 20 (vX12_tellList_20 j) := by
  unfold vX12_tellList_20
  refine s_aload_n hZ.1 dX12_tellList_20 rfl ?_
  exact s_goto dX12_tellList_21 (by decide) (wX12_tellList_27 hZ j hj)
noncomputable def vX12_tellList_14 (j : Nat → rx_K) : rx_K := o_ld rx_isR 0 (o_ld rx_isI 4 (o_c1 rx_eq (vX12_tellList_20 j) (vX12_tellList_24 j)))
set_option maxRecDepth 20000 in
theorem wX12_tellList_14 (hZ : zO b e D A X) (j : Nat → rx_K) (hj : ∀ k pc, [3][k]? = some pc → rx_OK (zV b e D A X) mX12_tellList 6 pc (j k)) : rx_OK (zV b e D A X) mX12_tellList 6 14 (vX12_tellList_14 j) := by
  unfold vX12_tellList_14
  refine s_aload_n hZ.1 dX12_tellList_14 rfl ?_
  refine s_iload hZ.1 dX12_tellList_15 ?_
  exact s_if_ne dX12_tellList_17 (by decide) (wX12_tellList_24 hZ j hj) (wX12_tellList_20 hZ j hj)
noncomputable def vX12_tellList_3 (j : Nat → rx_K) : rx_K := o_ld rx_isI 4 (o_ld rx_isR 1 (o_getf 10 11 (o_ld rx_isI 2 (o_ald 0 (o_c2 rx_lt (vX12_tellList_14 j) (vX12_tellList_47 j))))))
set_option maxRecDepth 20000 in
theorem wX12_tellList_3 (hZ : zO b e D A X) (j : Nat → rx_K) (hj : ∀ k pc, [3][k]? = some pc → rx_OK (zV b e D A X) mX12_tellList 6 pc (j k)) : rx_OK (zV b e D A X) mX12_tellList 6 3 (vX12_tellList_3 j) := by
  unfold vX12_tellList_3
  refine s_iload hZ.1 dX12_tellList_3 ?_
  refine s_aload_n hZ.1 dX12_tellList_5 rfl ?_
  refine yg10_11 dX12_tellList_6 zw845 ?_
  refine s_iload_n hZ.1 dX12_tellList_9 rfl ?_
  refine s_iald (tt := 0) rfl dX12_tellList_10 ?_
  exact s_icmp_ge dX12_tellList_11 (by decide) (wX12_tellList_47 hZ j hj) (wX12_tellList_14 hZ j hj)
noncomputable def vX12_tellList_0 (j : Nat → rx_K) : rx_K := o_const 0 (o_st rx_isI 4 ((vX12_tellList_3 j)))
set_option maxRecDepth 20000 in
theorem wX12_tellList_0 (hZ : zO b e D A X) (j : Nat → rx_K) (hj : ∀ k pc, [3][k]? = some pc → rx_OK (zV b e D A X) mX12_tellList 6 pc (j k)) : rx_OK (zV b e D A X) mX12_tellList 6 0 (vX12_tellList_0 j) := by
  unfold vX12_tellList_0
  refine s_iconst dX12_tellList_0 (by decide +kernel) ?_
  refine s_istore hZ.1 dX12_tellList_1 (Nat.le_of_ble_eq_true rfl) ?_
  exact (wX12_tellList_3 hZ j hj)
noncomputable def vhX12_tellList (j : Nat → rx_K) : List rx_K := [vX12_tellList_3 j]
theorem vlX12_tellList (hZ : zO b e D A X) : ∀ n k pc, [3][k]? = some pc → rx_OK (zV b e D A X) mX12_tellList 6 pc (rx_J (vhX12_tellList) n k) := rx_loop fun j hj k pc h => by
  match k, h with
  | 0, h =>
    have e9 := Option.some.inj (show some 3 = some pc from h)
    subst e9
    exact wX12_tellList_3 hZ j hj
  | _ + 1, h => exact absurd h (by simp)
noncomputable def FX12_tellList : List Nat → rx_H → Option (Nat × rx_H) := rx_ent 5 (vX12_tellList_0 (rx_J (vhX12_tellList) 4000000000))
theorem Met_X12_tellList (hZ : zO b e D A X) : rx_Met (zV b e D A X) 6 yX12_tellList mX12_tellList (FX12_tellList) := rx_entry hZ.1 (wX12_tellList_0 hZ _ (vlX12_tellList hZ 4000000000)) (by decide +kernel) rfl (fun h => by cases h)
abbrev mX12_tellHead : rx_M := (RX12, cX12_tellHead, 2, none, false)
theorem vy_X12_tellHead : rx_Y (zV b e D A X) yX12_tellHead mX12_tellHead 1 := ⟨zw2379, zw413, by decide, by decide +kernel, by decide +kernel, by decide +kernel⟩
noncomputable def vX12_tellHead_137 : rx_K := o_ld rx_isR 0 (o_ld rx_isR 1 (o_const 8 (o_const 164 (o_callV 3 12 FX12_tellList (o_ld rx_isR 0 (o_ld rx_isR 1 (o_const 16 (o_const 180 (o_callV 3 12 FX12_tellList (o_ret0))))))))))
set_option maxRecDepth 20000 in
theorem wX12_tellHead_137 (hZ : zO b e D A X) : rx_OK (zV b e D A X) mX12_tellHead 7 137 vX12_tellHead_137 := by
  unfold vX12_tellHead_137
  refine s_aload_n hZ.1 dX12_tellHead_137 rfl ?_
  refine s_aload_n hZ.1 dX12_tellHead_138 rfl ?_
  refine s_iconst dX12_tellHead_139 (by decide +kernel) ?_
  refine s_ldcwS (k := 20) (zo_R20 hZ) dX12_tellHead_140 ?_
  refine s_callV hZ.1 (Met_X12_tellList hZ) (Nat.le_of_ble_eq_true rfl) vy_X12_tellList zcl12 zw2414 zw119 (Or.inl zw2412) dX12_tellHead_143 ?_
  refine s_aload_n hZ.1 dX12_tellHead_146 rfl ?_
  refine s_aload_n hZ.1 dX12_tellHead_147 rfl ?_
  refine s_iconst dX12_tellHead_148 (by decide +kernel) ?_
  refine s_ldcwS (k := 22) (zo_R22 hZ) dX12_tellHead_149 ?_
  refine s_callV hZ.1 (Met_X12_tellList hZ) (Nat.le_of_ble_eq_true rfl) vy_X12_tellList zcl12 zw2414 zw119 (Or.inl zw2412) dX12_tellHead_152 ?_
  exact s_vret rfl dX12_tellHead_155
noncomputable def vX12_tellHead_122 : rx_K := o_ld rx_isR 0 (o_const 148 (o_callV 1 12 FX12_tellText (o_ld rx_isR 0 (o_ld rx_isR 1 (o_getf 10 9 (o_callV 1 12 FX12_tellType (vX12_tellHead_137)))))))
set_option maxRecDepth 20000 in
theorem wX12_tellHead_122 (hZ : zO b e D A X) : rx_OK (zV b e D A X) mX12_tellHead 7 122 vX12_tellHead_122 := by
  unfold vX12_tellHead_122
  refine s_aload_n hZ.1 dX12_tellHead_122 rfl ?_
  refine s_ldcwS (k := 18) (zo_R18 hZ) dX12_tellHead_123 ?_
  refine s_callV hZ.1 (Met_X12_tellText hZ) (Nat.le_of_ble_eq_true rfl) vy_X12_tellText zcl12 zw2384 zw115 (Or.inl zw2382) dX12_tellHead_126 ?_
  refine s_aload_n hZ.1 dX12_tellHead_129 rfl ?_
  refine s_aload_n hZ.1 dX12_tellHead_130 rfl ?_
  refine yg10_9 dX12_tellHead_131 zw835 ?_
  refine s_callV hZ.1 (Met_X12_tellType hZ) (Nat.le_of_ble_eq_true rfl) vy_X12_tellType zcl12 zw2398 zw117 (Or.inl zw2396) dX12_tellHead_134 ?_
  exact (wX12_tellHead_137 hZ)
noncomputable def vX12_tellHead_102 : rx_K := o_ld rx_isR 0 (o_ld rx_isR 1 (o_const 0 (o_const 132 (o_callV 3 12 FX12_tellList (o_ld rx_isR 1 (o_getf 10 9 (o_const 147573952589676412897 (o_bc (fun x y => lg_cmp x y) (o_c1 rx_eq vX12_tellHead_137 vX12_tellHead_122)))))))))
set_option maxRecDepth 20000 in
theorem wX12_tellHead_102 (hZ : zO b e D A X) : rx_OK (zV b e D A X) mX12_tellHead 7 102 vX12_tellHead_102 := by
  unfold vX12_tellHead_102
  refine s_aload_n hZ.1 dX12_tellHead_102 rfl ?_
  refine s_aload_n hZ.1 dX12_tellHead_103 rfl ?_
  refine s_iconst dX12_tellHead_104 (by decide +kernel) ?_
  refine s_ldcwS (k := 16) (zo_R16 hZ) dX12_tellHead_105 ?_
  refine s_callV hZ.1 (Met_X12_tellList hZ) (Nat.le_of_ble_eq_true rfl) vy_X12_tellList zcl12 zw2414 zw119 (Or.inl zw2412) dX12_tellHead_108 ?_
  refine s_aload_n hZ.1 dX12_tellHead_111 rfl ?_
  refine yg10_9 dX12_tellHead_112 zw835 ?_
  refine s_ldc2 dX12_tellHead_115 zw2418 (by decide +kernel) ?_
  refine s_lcmp dX12_tellHead_118 ?_
  exact s_if_eq dX12_tellHead_119 (by decide) (wX12_tellHead_137 hZ) (wX12_tellHead_122 hZ)
noncomputable def vX12_tellHead_87 : rx_K := o_ld rx_isR 0 (o_const 116 (o_callV 1 12 FX12_tellText (o_ld rx_isR 0 (o_ld rx_isR 1 (o_getf 10 8 (o_callV 1 12 FX12_tellType (vX12_tellHead_102)))))))
set_option maxRecDepth 20000 in
theorem wX12_tellHead_87 (hZ : zO b e D A X) : rx_OK (zV b e D A X) mX12_tellHead 7 87 vX12_tellHead_87 := by
  unfold vX12_tellHead_87
  refine s_aload_n hZ.1 dX12_tellHead_87 rfl ?_
  refine s_ldcwS (k := 14) (zo_R14 hZ) dX12_tellHead_88 ?_
  refine s_callV hZ.1 (Met_X12_tellText hZ) (Nat.le_of_ble_eq_true rfl) vy_X12_tellText zcl12 zw2384 zw115 (Or.inl zw2382) dX12_tellHead_91 ?_
  refine s_aload_n hZ.1 dX12_tellHead_94 rfl ?_
  refine s_aload_n hZ.1 dX12_tellHead_95 rfl ?_
  refine yg10_8 dX12_tellHead_96 zw828 ?_
  refine s_callV hZ.1 (Met_X12_tellType hZ) (Nat.le_of_ble_eq_true rfl) vy_X12_tellType zcl12 zw2398 zw117 (Or.inl zw2396) dX12_tellHead_99 ?_
  exact (wX12_tellHead_102 hZ)
noncomputable def vX12_tellHead_69 : rx_K := o_callV 1 12 FX12_tellText (o_ld rx_isR 0 (o_ld rx_isR 1 (o_getf 10 1 (o_callV 1 12 FX12_tellType (o_ld rx_isR 1 (o_getf 10 7 (o_c1 rx_eq vX12_tellHead_102 vX12_tellHead_87)))))))
set_option maxRecDepth 20000 in
theorem wX12_tellHead_69 (hZ : zO b e D A X) : rx_OK (zV b e D A X) mX12_tellHead 7 69 vX12_tellHead_69 := by
  unfold vX12_tellHead_69
  refine s_callV hZ.1 (Met_X12_tellText hZ) (Nat.le_of_ble_eq_true rfl) vy_X12_tellText zcl12 zw2384 zw115 (Or.inl zw2382) dX12_tellHead_69 ?_
  refine s_aload_n hZ.1 dX12_tellHead_72 rfl ?_
  refine s_aload_n hZ.1 dX12_tellHead_73 rfl ?_
  refine yg10_1 dX12_tellHead_74 zw777 ?_
  refine s_callV hZ.1 (Met_X12_tellType hZ) (Nat.le_of_ble_eq_true rfl) vy_X12_tellType zcl12 zw2398 zw117 (Or.inl zw2396) dX12_tellHead_77 ?_
  refine s_aload_n hZ.1 dX12_tellHead_80 rfl ?_
  refine yg10_7 dX12_tellHead_81 zw820 ?_
  exact s_if_eq dX12_tellHead_84 (by decide) (wX12_tellHead_102 hZ) (wX12_tellHead_87 hZ)
noncomputable def vX12_tellHead_66 : rx_K := o_const 196 (vX12_tellHead_69)
set_option maxRecDepth 20000 in
theorem wX12_tellHead_66 (hZ : zO b e D A X) : rx_OK (zV b e D A X) mX12_tellHead 7 66 vX12_tellHead_66 := by
  unfold vX12_tellHead_66
  refine s_ldcwS (k := 24) (zo_R24 hZ) dX12_tellHead_66 ?_
  exact (wX12_tellHead_69 hZ)
noncomputable def vX12_tellHead_60 : rx_K := o_const 100 (vX12_tellHead_69)
set_option maxRecDepth 20000 in
theorem wX12_tellHead_60 (hZ : zO b e D A X) : rx_OK (zV b e D A X) mX12_tellHead 7 60 vX12_tellHead_60 := by
  unfold vX12_tellHead_60
  refine s_ldcwS (k := 12) (zo_R12 hZ) dX12_tellHead_60 ?_
  exact s_goto dX12_tellHead_63 (by decide) (wX12_tellHead_69 hZ)
noncomputable def vX12_tellHead_49 : rx_K := o_callV 1 12 FX12_tellText (o_ld rx_isR 0 (o_ld rx_isR 1 (o_getf 10 4 (o_c1 rx_eq vX12_tellHead_66 vX12_tellHead_60))))
set_option maxRecDepth 20000 in
theorem wX12_tellHead_49 (hZ : zO b e D A X) : rx_OK (zV b e D A X) mX12_tellHead 7 49 vX12_tellHead_49 := by
  unfold vX12_tellHead_49
  refine s_callV hZ.1 (Met_X12_tellText hZ) (Nat.le_of_ble_eq_true rfl) vy_X12_tellText zcl12 zw2384 zw115 (Or.inl zw2382) dX12_tellHead_49 ?_
  refine s_aload_n hZ.1 dX12_tellHead_52 rfl ?_
  refine s_aload_n hZ.1 dX12_tellHead_53 rfl ?_
  refine yg10_4 dX12_tellHead_54 zw798 ?_
  exact s_if_eq dX12_tellHead_57 (by decide) (wX12_tellHead_66 hZ) (wX12_tellHead_60 hZ)
noncomputable def vX12_tellHead_46 : rx_K := o_const 228 (vX12_tellHead_49)
set_option maxRecDepth 20000 in
theorem wX12_tellHead_46 (hZ : zO b e D A X) : rx_OK (zV b e D A X) mX12_tellHead 7 46 vX12_tellHead_46 := by
  unfold vX12_tellHead_46
  refine s_ldcwS (k := 28) (zo_R28 hZ) dX12_tellHead_46 ?_
  exact (wX12_tellHead_49 hZ)
noncomputable def vX12_tellHead_40 : rx_K := o_const 212 (vX12_tellHead_49)
set_option maxRecDepth 20000 in
theorem wX12_tellHead_40 (hZ : zO b e D A X) : rx_OK (zV b e D A X) mX12_tellHead 7 40 vX12_tellHead_40 := by
  unfold vX12_tellHead_40
  refine s_ldcwS (k := 26) (zo_R26 hZ) dX12_tellHead_40 ?_
  exact s_goto dX12_tellHead_43 (by decide) (wX12_tellHead_49 hZ)
noncomputable def vX12_tellHead_33 : rx_K := o_ld rx_isR 1 (o_getf 10 6 (o_c1 rx_eq vX12_tellHead_46 vX12_tellHead_40))
set_option maxRecDepth 20000 in
theorem wX12_tellHead_33 (hZ : zO b e D A X) : rx_OK (zV b e D A X) mX12_tellHead 7 33 vX12_tellHead_33 := by
  unfold vX12_tellHead_33
  refine s_aload_n hZ.1 dX12_tellHead_33 rfl ?_
  refine yg10_6 dX12_tellHead_34 zw813 ?_
  exact s_if_eq dX12_tellHead_37 (by decide) (wX12_tellHead_46 hZ) (wX12_tellHead_40 hZ)
noncomputable def vX12_tellHead_27 : rx_K := o_const 84 (vX12_tellHead_49)
set_option maxRecDepth 20000 in
theorem wX12_tellHead_27 (hZ : zO b e D A X) : rx_OK (zV b e D A X) mX12_tellHead 7 27 vX12_tellHead_27 := by
  unfold vX12_tellHead_27
  refine s_ldcwS (k := 10) (zo_R10 hZ) dX12_tellHead_27 ?_
  exact s_goto dX12_tellHead_30 (by decide) (wX12_tellHead_49 hZ)
noncomputable def vX12_tellHead_16 : rx_K := o_callV 1 12 FX12_tellText (o_ld rx_isR 0 (o_ld rx_isR 1 (o_getf 10 5 (o_c1 rx_eq vX12_tellHead_33 vX12_tellHead_27))))
set_option maxRecDepth 20000 in
theorem wX12_tellHead_16 (hZ : zO b e D A X) : rx_OK (zV b e D A X) mX12_tellHead 7 16 vX12_tellHead_16 := by
  unfold vX12_tellHead_16
  refine s_callV hZ.1 (Met_X12_tellText hZ) (Nat.le_of_ble_eq_true rfl) vy_X12_tellText zcl12 zw2384 zw115 (Or.inl zw2382) dX12_tellHead_16 ?_
  refine s_aload_n hZ.1 dX12_tellHead_19 rfl ?_
  refine s_aload_n hZ.1 dX12_tellHead_20 rfl ?_
  refine yg10_5 dX12_tellHead_21 zw806 ?_
  exact s_if_eq dX12_tellHead_24 (by decide) (wX12_tellHead_33 hZ) (wX12_tellHead_27 hZ)
noncomputable def vX12_tellHead_13 : rx_K := o_const 228 (vX12_tellHead_16)
set_option maxRecDepth 20000 in
theorem wX12_tellHead_13 (hZ : zO b e D A X) : rx_OK (zV b e D A X) mX12_tellHead 7 13 vX12_tellHead_13 := by
  unfold vX12_tellHead_13
  refine s_ldcwS (k := 28) (zo_R28 hZ) dX12_tellHead_13 ?_
  exact (wX12_tellHead_16 hZ)
noncomputable def vX12_tellHead_8 : rx_K := o_const 68 (vX12_tellHead_16)
set_option maxRecDepth 20000 in
theorem wX12_tellHead_8 (hZ : zO b e D A X) : rx_OK (zV b e D A X) mX12_tellHead 7 8 vX12_tellHead_8 := by
  unfold vX12_tellHead_8
  refine s_ldcS (k := 8) (zo_R8 hZ) dX12_tellHead_8 ?_
  exact s_goto dX12_tellHead_10 (by decide) (wX12_tellHead_16 hZ)
noncomputable def vX12_tellHead_0 : rx_K := o_ld rx_isR 0 (o_ld rx_isR 1 (o_getf 10 3 (o_c1 rx_eq vX12_tellHead_13 vX12_tellHead_8)))
set_option maxRecDepth 20000 in
theorem wX12_tellHead_0 (hZ : zO b e D A X) : rx_OK (zV b e D A X) mX12_tellHead 7 0 vX12_tellHead_0 := by
  unfold vX12_tellHead_0
  refine s_aload_n hZ.1 dX12_tellHead_0 rfl ?_
  refine s_aload_n hZ.1 dX12_tellHead_1 rfl ?_
  refine yg10_3 dX12_tellHead_2 zw789 ?_
  exact s_if_eq dX12_tellHead_5 (by decide) (wX12_tellHead_13 hZ) (wX12_tellHead_8 hZ)
noncomputable def FX12_tellHead : List Nat → rx_H → Option (Nat × rx_H) := rx_ent 2 vX12_tellHead_0
theorem Met_X12_tellHead (hZ : zO b e D A X) : rx_Met (zV b e D A X) 7 yX12_tellHead mX12_tellHead (FX12_tellHead) := rx_entry hZ.1 (wX12_tellHead_0 hZ) (by decide +kernel) rfl (fun h => by cases h)
abbrev mX12_tellName : rx_M := (RX12, cX12_tellName, 3, none, false)
theorem vy_X12_tellName : rx_Y (zV b e D A X) yX12_tellName mX12_tellName 1 := ⟨zw2441, zw413, by decide, by decide +kernel, by decide +kernel, by decide +kernel⟩
noncomputable def vX12_tellName_0 : rx_K := o_ld rx_isR 0 (o_const 776 (o_ld rx_isL 1 (o_const 432 (o_bs (fun x y => (x.toUInt64 >>> (y.toInt64.toUInt64 &&& Int64.toUInt64 63)).toInt64) (o_const 249 (o_bl (fun x y => x &&& y) (o_li (fun x => x.toInt32) (o_bi (fun x y => x + y) (o_callV 1 12 FX12_tellByte (o_ld rx_isR 0 (o_ld rx_isL 1 (o_callV 1 12 FX12_tellLetters (o_ret0)))))))))))))
set_option maxRecDepth 20000 in
theorem wX12_tellName_0 (hZ : zO b e D A X) : rx_OK (zV b e D A X) mX12_tellName 2 0 vX12_tellName_0 := by
  unfold vX12_tellName_0
  refine s_aload_n hZ.1 dX12_tellName_0 rfl ?_
  refine s_bipush dX12_tellName_1 (by decide +kernel) ?_
  refine s_lload_n hZ.1 dX12_tellName_3 rfl ?_
  refine s_bipush dX12_tellName_4 (by decide +kernel) ?_
  refine s_lushr dX12_tellName_6 ?_
  refine s_ldc2 dX12_tellName_7 zw2404 (by decide +kernel) ?_
  refine s_land dX12_tellName_10 ?_
  refine s_l2i dX12_tellName_11 ?_
  refine s_iadd dX12_tellName_12 ?_
  refine s_callV hZ.1 (Met_X12_tellByte hZ) (Nat.le_of_ble_eq_true rfl) vy_X12_tellByte zcl12 zw2390 zw116 (Or.inl zw2388) dX12_tellName_13 ?_
  refine s_aload_n hZ.1 dX12_tellName_16 rfl ?_
  refine s_lload_n hZ.1 dX12_tellName_17 rfl ?_
  refine s_callV hZ.1 (Met_X12_tellLetters hZ) (Nat.le_of_ble_eq_true rfl) vy_X12_tellLetters zcl12 zw2407 zw118 (Or.inl zw2405) dX12_tellName_18 ?_
  exact s_vret rfl dX12_tellName_21
noncomputable def FX12_tellName : List Nat → rx_H → Option (Nat × rx_H) := rx_ent 3 vX12_tellName_0
theorem Met_X12_tellName (hZ : zO b e D A X) : rx_Met (zV b e D A X) 2 yX12_tellName mX12_tellName (FX12_tellName) := rx_entry hZ.1 (wX12_tellName_0 hZ) (by decide +kernel) rfl (fun h => by cases h)
abbrev mX12_tellNumber : rx_M := (RX12, cX12_tellNumber, 8, none, false)
theorem vy_X12_tellNumber : rx_Y (zV b e D A X) yX12_tellNumber mX12_tellNumber 1 := ⟨zw2446, zw413, by decide, by decide +kernel, by decide +kernel, by decide +kernel⟩
noncomputable def vX12_tellNumber_110 (j : Nat → rx_K) : rx_K := o_ret0
set_option maxRecDepth 20000 in
theorem wX12_tellNumber_110 (hZ : zO b e D A X) (j : Nat → rx_K) (hj : ∀ k pc, [19, 66][k]? = some pc → rx_OK (zV b e D A X) mX12_tellNumber 1 pc (j k)) : rx_OK (zV b e D A X) mX12_tellNumber 1 110 (vX12_tellNumber_110 j) := by
  unfold vX12_tellNumber_110
  exact s_vret rfl dX12_tellNumber_110
noncomputable def vX12_tellNumber_80 (j : Nat → rx_K) : rx_K := o_ld rx_isR 0 (o_const 384 (o_ld rx_isL 3 (o_ld rx_isL 5 (o_bln (fun x y => x / y) (o_const 81 (o_bln (fun x y => x - x / y * y) (o_li (fun x => x.toInt32) (o_bi (fun x y => x + y) (o_callV 1 12 FX12_tellByte (o_ld rx_isL 5 (o_const 81 (o_bln (fun x y => x / y) (o_stL 5 (o_inc 7 (1) ((j 1))))))))))))))))
set_option maxRecDepth 20000 in
theorem wX12_tellNumber_80 (hZ : zO b e D A X) (j : Nat → rx_K) (hj : ∀ k pc, [19, 66][k]? = some pc → rx_OK (zV b e D A X) mX12_tellNumber 1 pc (j k)) : rx_OK (zV b e D A X) mX12_tellNumber 1 80 (vX12_tellNumber_80 j) := by
  unfold vX12_tellNumber_80
  refine s_aload_n hZ.1 dX12_tellNumber_80 rfl ?_
  refine s_bipush dX12_tellNumber_81 (by decide +kernel) ?_
  refine s_lload_n hZ.1 dX12_tellNumber_83 rfl ?_
  refine s_lload hZ.1 dX12_tellNumber_84 ?_
  refine s_ldiv dX12_tellNumber_86 ?_
  refine s_ldc2 dX12_tellNumber_87 zw2447 (by decide +kernel) ?_
  refine s_lrem dX12_tellNumber_90 ?_
  refine s_l2i dX12_tellNumber_91 ?_
  refine s_iadd dX12_tellNumber_92 ?_
  refine s_callV hZ.1 (Met_X12_tellByte hZ) (Nat.le_of_ble_eq_true rfl) vy_X12_tellByte zcl12 zw2390 zw116 (Or.inl zw2388) dX12_tellNumber_93 ?_
  refine s_lload hZ.1 dX12_tellNumber_96 ?_
  refine s_ldc2 dX12_tellNumber_98 zw2447 (by decide +kernel) ?_
  refine s_ldiv dX12_tellNumber_101 ?_
  refine s_lstore hZ.1 dX12_tellNumber_102 (Nat.le_of_ble_eq_true rfl) ?_
  refine s_iinc hZ.1 dX12_tellNumber_104 (Nat.le_of_ble_eq_true rfl) ?_
  exact s_goto dX12_tellNumber_107 (by decide) (hj 1 66 rfl)
noncomputable def vX12_tellNumber_73 (j : Nat → rx_K) : rx_K := o_ld rx_isL 5 (o_const 1 (o_bc (fun x y => lg_cmp x y) (o_c1 (fun h x y => rx_lt h y x) (vX12_tellNumber_80 j) (vX12_tellNumber_110 j))))
set_option maxRecDepth 20000 in
theorem wX12_tellNumber_73 (hZ : zO b e D A X) (j : Nat → rx_K) (hj : ∀ k pc, [19, 66][k]? = some pc → rx_OK (zV b e D A X) mX12_tellNumber 1 pc (j k)) : rx_OK (zV b e D A X) mX12_tellNumber 1 73 (vX12_tellNumber_73 j) := by
  unfold vX12_tellNumber_73
  refine s_lload hZ.1 dX12_tellNumber_73 ?_
  refine s_lconst dX12_tellNumber_75 (by decide +kernel) ?_
  refine s_lcmp dX12_tellNumber_76 ?_
  exact s_if_le dX12_tellNumber_77 (by decide) (wX12_tellNumber_110 hZ j hj) (wX12_tellNumber_80 hZ j hj)
noncomputable def vX12_tellNumber_66 (j : Nat → rx_K) : rx_K := o_ld rx_isI 7 (o_const 152 (o_c2 rx_lt (vX12_tellNumber_73 j) (vX12_tellNumber_110 j)))
set_option maxRecDepth 20000 in
theorem wX12_tellNumber_66 (hZ : zO b e D A X) (j : Nat → rx_K) (hj : ∀ k pc, [19, 66][k]? = some pc → rx_OK (zV b e D A X) mX12_tellNumber 1 pc (j k)) : rx_OK (zV b e D A X) mX12_tellNumber 1 66 (vX12_tellNumber_66 j) := by
  unfold vX12_tellNumber_66
  refine s_iload hZ.1 dX12_tellNumber_66 ?_
  refine s_bipush dX12_tellNumber_68 (by decide +kernel) ?_
  exact s_icmp_ge dX12_tellNumber_70 (by decide) (wX12_tellNumber_110 hZ j hj) (wX12_tellNumber_73 hZ j hj)
noncomputable def vX12_tellNumber_63 (j : Nat → rx_K) : rx_K := o_const 0 (o_st rx_isI 7 ((vX12_tellNumber_66 j)))
set_option maxRecDepth 20000 in
theorem wX12_tellNumber_63 (hZ : zO b e D A X) (j : Nat → rx_K) (hj : ∀ k pc, [19, 66][k]? = some pc → rx_OK (zV b e D A X) mX12_tellNumber 1 pc (j k)) : rx_OK (zV b e D A X) mX12_tellNumber 1 63 (vX12_tellNumber_63 j) := by
  unfold vX12_tellNumber_63
  refine s_iconst dX12_tellNumber_63 (by decide +kernel) ?_
  refine s_istore hZ.1 dX12_tellNumber_64 (Nat.le_of_ble_eq_true rfl) ?_
  exact (wX12_tellNumber_66 hZ j hj)
noncomputable def vX12_tellNumber_57 (j : Nat → rx_K) : rx_K := o_ld rx_isR 0 (o_const 360 (o_callV 1 12 FX12_tellByte ((vX12_tellNumber_63 j))))
set_option maxRecDepth 20000 in
theorem wX12_tellNumber_57 (hZ : zO b e D A X) (j : Nat → rx_K) (hj : ∀ k pc, [19, 66][k]? = some pc → rx_OK (zV b e D A X) mX12_tellNumber 1 pc (j k)) : rx_OK (zV b e D A X) mX12_tellNumber 1 57 (vX12_tellNumber_57 j) := by
  unfold vX12_tellNumber_57
  refine s_aload_n hZ.1 dX12_tellNumber_57 rfl ?_
  refine s_bipush dX12_tellNumber_58 (by decide +kernel) ?_
  refine s_callV hZ.1 (Met_X12_tellByte hZ) (Nat.le_of_ble_eq_true rfl) vy_X12_tellByte zcl12 zw2390 zw116 (Or.inl zw2388) dX12_tellNumber_60 ?_
  exact (wX12_tellNumber_63 hZ j hj)
noncomputable def vX12_tellNumber_51 (j : Nat → rx_K) : rx_K := o_ld rx_isL 1 (o_const 1 (o_bc (fun x y => lg_cmp x y) (o_c1 rx_lt (vX12_tellNumber_57 j) (vX12_tellNumber_63 j))))
set_option maxRecDepth 20000 in
theorem wX12_tellNumber_51 (hZ : zO b e D A X) (j : Nat → rx_K) (hj : ∀ k pc, [19, 66][k]? = some pc → rx_OK (zV b e D A X) mX12_tellNumber 1 pc (j k)) : rx_OK (zV b e D A X) mX12_tellNumber 1 51 (vX12_tellNumber_51 j) := by
  unfold vX12_tellNumber_51
  refine s_lload_n hZ.1 dX12_tellNumber_51 rfl ?_
  refine s_lconst dX12_tellNumber_52 (by decide +kernel) ?_
  refine s_lcmp dX12_tellNumber_53 ?_
  exact s_if_ge dX12_tellNumber_54 (by decide) (wX12_tellNumber_63 hZ j hj) (wX12_tellNumber_57 hZ j hj)
noncomputable def vX12_tellNumber_37 (j : Nat → rx_K) : rx_K := o_ld rx_isL 5 (o_const 81 (o_bl (fun x y => x * y) (o_stL 5 (o_inc 7 (1) ((j 0))))))
set_option maxRecDepth 20000 in
theorem wX12_tellNumber_37 (hZ : zO b e D A X) (j : Nat → rx_K) (hj : ∀ k pc, [19, 66][k]? = some pc → rx_OK (zV b e D A X) mX12_tellNumber 1 pc (j k)) : rx_OK (zV b e D A X) mX12_tellNumber 1 37 (vX12_tellNumber_37 j) := by
  unfold vX12_tellNumber_37
  refine s_lload hZ.1 dX12_tellNumber_37 ?_
  refine s_ldc2 dX12_tellNumber_39 zw2447 (by decide +kernel) ?_
  refine s_lmul dX12_tellNumber_42 ?_
  refine s_lstore hZ.1 dX12_tellNumber_43 (Nat.le_of_ble_eq_true rfl) ?_
  refine s_iinc hZ.1 dX12_tellNumber_45 (Nat.le_of_ble_eq_true rfl) ?_
  exact s_goto dX12_tellNumber_48 (by decide) (hj 0 19 rfl)
noncomputable def vX12_tellNumber_26 (j : Nat → rx_K) : rx_K := o_ld rx_isL 5 (o_ld rx_isL 3 (o_const 81 (o_bln (fun x y => x / y) (o_bc (fun x y => lg_cmp x y) (o_c1 (fun h x y => rx_lt h y x) (vX12_tellNumber_51 j) (vX12_tellNumber_37 j))))))
set_option maxRecDepth 20000 in
theorem wX12_tellNumber_26 (hZ : zO b e D A X) (j : Nat → rx_K) (hj : ∀ k pc, [19, 66][k]? = some pc → rx_OK (zV b e D A X) mX12_tellNumber 1 pc (j k)) : rx_OK (zV b e D A X) mX12_tellNumber 1 26 (vX12_tellNumber_26 j) := by
  unfold vX12_tellNumber_26
  refine s_lload hZ.1 dX12_tellNumber_26 ?_
  refine s_lload_n hZ.1 dX12_tellNumber_28 rfl ?_
  refine s_ldc2 dX12_tellNumber_29 zw2447 (by decide +kernel) ?_
  refine s_ldiv dX12_tellNumber_32 ?_
  refine s_lcmp dX12_tellNumber_33 ?_
  exact s_if_gt dX12_tellNumber_34 (by decide) (wX12_tellNumber_51 hZ j hj) (wX12_tellNumber_37 hZ j hj)
noncomputable def vX12_tellNumber_19 (j : Nat → rx_K) : rx_K := o_ld rx_isI 7 (o_const 144 (o_c2 rx_lt (vX12_tellNumber_26 j) (vX12_tellNumber_51 j)))
set_option maxRecDepth 20000 in
theorem wX12_tellNumber_19 (hZ : zO b e D A X) (j : Nat → rx_K) (hj : ∀ k pc, [19, 66][k]? = some pc → rx_OK (zV b e D A X) mX12_tellNumber 1 pc (j k)) : rx_OK (zV b e D A X) mX12_tellNumber 1 19 (vX12_tellNumber_19 j) := by
  unfold vX12_tellNumber_19
  refine s_iload hZ.1 dX12_tellNumber_19 ?_
  refine s_bipush dX12_tellNumber_21 (by decide +kernel) ?_
  exact s_icmp_ge dX12_tellNumber_23 (by decide) (wX12_tellNumber_51 hZ j hj) (wX12_tellNumber_26 hZ j hj)
noncomputable def vX12_tellNumber_12 (j : Nat → rx_K) : rx_K := o_stL 3 (o_const 9 (o_stL 5 (o_const 0 (o_st rx_isI 7 ((vX12_tellNumber_19 j))))))
set_option maxRecDepth 20000 in
theorem wX12_tellNumber_12 (hZ : zO b e D A X) (j : Nat → rx_K) (hj : ∀ k pc, [19, 66][k]? = some pc → rx_OK (zV b e D A X) mX12_tellNumber 1 pc (j k)) : rx_OK (zV b e D A X) mX12_tellNumber 1 12 (vX12_tellNumber_12 j) := by
  unfold vX12_tellNumber_12
  refine s_lstore_n hZ.1 dX12_tellNumber_12 rfl (Nat.le_of_ble_eq_true rfl) ?_
  refine s_lconst dX12_tellNumber_13 (by decide +kernel) ?_
  refine s_lstore hZ.1 dX12_tellNumber_14 (Nat.le_of_ble_eq_true rfl) ?_
  refine s_iconst dX12_tellNumber_16 (by decide +kernel) ?_
  refine s_istore hZ.1 dX12_tellNumber_17 (Nat.le_of_ble_eq_true rfl) ?_
  exact (wX12_tellNumber_19 hZ j hj)
noncomputable def vX12_tellNumber_11 (j : Nat → rx_K) : rx_K := o_ld rx_isL 1 ((vX12_tellNumber_12 j))
set_option maxRecDepth 20000 in
theorem wX12_tellNumber_11 (hZ : zO b e D A X) (j : Nat → rx_K) (hj : ∀ k pc, [19, 66][k]? = some pc → rx_OK (zV b e D A X) mX12_tellNumber 1 pc (j k)) : rx_OK (zV b e D A X) mX12_tellNumber 1 11 (vX12_tellNumber_11 j) := by
  unfold vX12_tellNumber_11
  refine s_lload_n hZ.1 dX12_tellNumber_11 rfl ?_
  exact (wX12_tellNumber_12 hZ j hj)
noncomputable def vX12_tellNumber_6 (j : Nat → rx_K) : rx_K := o_ld rx_isL 1 (o_ul (fun x => -x) ((vX12_tellNumber_12 j)))
set_option maxRecDepth 20000 in
theorem wX12_tellNumber_6 (hZ : zO b e D A X) (j : Nat → rx_K) (hj : ∀ k pc, [19, 66][k]? = some pc → rx_OK (zV b e D A X) mX12_tellNumber 1 pc (j k)) : rx_OK (zV b e D A X) mX12_tellNumber 1 6 (vX12_tellNumber_6 j) := by
  unfold vX12_tellNumber_6
  refine s_lload_n hZ.1 dX12_tellNumber_6 rfl ?_
  refine s_lneg dX12_tellNumber_7 ?_
  exact s_goto dX12_tellNumber_8 (by decide) (wX12_tellNumber_12 hZ j hj)
noncomputable def vX12_tellNumber_0 (j : Nat → rx_K) : rx_K := o_ld rx_isL 1 (o_const 1 (o_bc (fun x y => lg_cmp x y) (o_c1 rx_lt (vX12_tellNumber_6 j) (vX12_tellNumber_11 j))))
set_option maxRecDepth 20000 in
theorem wX12_tellNumber_0 (hZ : zO b e D A X) (j : Nat → rx_K) (hj : ∀ k pc, [19, 66][k]? = some pc → rx_OK (zV b e D A X) mX12_tellNumber 1 pc (j k)) : rx_OK (zV b e D A X) mX12_tellNumber 1 0 (vX12_tellNumber_0 j) := by
  unfold vX12_tellNumber_0
  refine s_lload_n hZ.1 dX12_tellNumber_0 rfl ?_
  refine s_lconst dX12_tellNumber_1 (by decide +kernel) ?_
  refine s_lcmp dX12_tellNumber_2 ?_
  exact s_if_ge dX12_tellNumber_3 (by decide) (wX12_tellNumber_11 hZ j hj) (wX12_tellNumber_6 hZ j hj)
noncomputable def vhX12_tellNumber (j : Nat → rx_K) : List rx_K := [vX12_tellNumber_19 j, vX12_tellNumber_66 j]
theorem vlX12_tellNumber (hZ : zO b e D A X) : ∀ n k pc, [19, 66][k]? = some pc → rx_OK (zV b e D A X) mX12_tellNumber 1 pc (rx_J (vhX12_tellNumber) n k) := rx_loop fun j hj k pc h => by
  match k, h with
  | 0, h =>
    have e9 := Option.some.inj (show some 19 = some pc from h)
    subst e9
    exact wX12_tellNumber_19 hZ j hj
  | 1, h =>
    have e9 := Option.some.inj (show some 66 = some pc from h)
    subst e9
    exact wX12_tellNumber_66 hZ j hj
  | _ + 2, h => exact absurd h (by simp)
noncomputable def FX12_tellNumber : List Nat → rx_H → Option (Nat × rx_H) := rx_ent 8 (vX12_tellNumber_0 (rx_J (vhX12_tellNumber) 4000000000))
theorem Met_X12_tellNumber (hZ : zO b e D A X) : rx_Met (zV b e D A X) 1 yX12_tellNumber mX12_tellNumber (FX12_tellNumber) := rx_entry hZ.1 (wX12_tellNumber_0 hZ _ (vlX12_tellNumber hZ 4000000000)) (by decide +kernel) rfl (fun h => by cases h)
abbrev mX12_tellParams : rx_M := (RX12, cX12_tellParams, 3, none, false)
theorem vy_X12_tellParams : rx_Y (zV b e D A X) yX12_tellParams mX12_tellParams 1 := ⟨zw2434, zw413, by decide, by decide +kernel, by decide +kernel, by decide +kernel⟩
noncomputable def vX12_tellParams_50 (j : Nat → rx_K) : rx_K := o_ld rx_isR 0 (o_const 420 (o_callV 1 12 FX12_tellText (o_ret0)))
set_option maxRecDepth 20000 in
theorem wX12_tellParams_50 (hZ : zO b e D A X) (j : Nat → rx_K) (hj : ∀ k pc, [9][k]? = some pc → rx_OK (zV b e D A X) mX12_tellParams 6 pc (j k)) : rx_OK (zV b e D A X) mX12_tellParams 6 50 (vX12_tellParams_50 j) := by
  unfold vX12_tellParams_50
  refine s_aload_n hZ.1 dX12_tellParams_50 rfl ?_
  refine s_ldcwS (k := 52) (zo_R52 hZ) dX12_tellParams_51 ?_
  refine s_callV hZ.1 (Met_X12_tellText hZ) (Nat.le_of_ble_eq_true rfl) vy_X12_tellText zcl12 zw2384 zw115 (Or.inl zw2382) dX12_tellParams_54 ?_
  exact s_vret rfl dX12_tellParams_57
noncomputable def vX12_tellParams_31 (j : Nat → rx_K) : rx_K := o_callV 1 12 FX12_tellText (o_ld rx_isR 0 (o_ld rx_isR 1 (o_getf 7 10 (o_ld rx_isI 2 (o_ald 1 (o_callV 1 12 FX12_tellType (o_inc 2 (1) ((j 0)))))))))
set_option maxRecDepth 20000 in
theorem wX12_tellParams_31 (hZ : zO b e D A X) (j : Nat → rx_K) (hj : ∀ k pc, [9][k]? = some pc → rx_OK (zV b e D A X) mX12_tellParams 6 pc (j k)) : rx_OK (zV b e D A X) mX12_tellParams 6 31 (vX12_tellParams_31 j) := by
  unfold vX12_tellParams_31
  refine s_callV hZ.1 (Met_X12_tellText hZ) (Nat.le_of_ble_eq_true rfl) vy_X12_tellText zcl12 zw2384 zw115 (Or.inl zw2382) dX12_tellParams_31 ?_
  refine s_aload_n hZ.1 dX12_tellParams_34 rfl ?_
  refine s_aload_n hZ.1 dX12_tellParams_35 rfl ?_
  refine yg7_10 dX12_tellParams_36 zw1035 ?_
  refine s_iload_n hZ.1 dX12_tellParams_39 rfl ?_
  refine s_lald (tt := 1) rfl dX12_tellParams_40 ?_
  refine s_callV hZ.1 (Met_X12_tellType hZ) (Nat.le_of_ble_eq_true rfl) vy_X12_tellType zcl12 zw2398 zw117 (Or.inl zw2396) dX12_tellParams_41 ?_
  refine s_iinc hZ.1 dX12_tellParams_44 (Nat.le_of_ble_eq_true rfl) ?_
  exact s_goto dX12_tellParams_47 (by decide) (hj 0 9 rfl)
noncomputable def vX12_tellParams_28 (j : Nat → rx_K) : rx_K := o_const 244 ((vX12_tellParams_31 j))
set_option maxRecDepth 20000 in
theorem wX12_tellParams_28 (hZ : zO b e D A X) (j : Nat → rx_K) (hj : ∀ k pc, [9][k]? = some pc → rx_OK (zV b e D A X) mX12_tellParams 6 pc (j k)) : rx_OK (zV b e D A X) mX12_tellParams 6 28 (vX12_tellParams_28 j) := by
  unfold vX12_tellParams_28
  refine s_ldcwS (k := 30) (zo_R30 hZ) dX12_tellParams_28 ?_
  exact (wX12_tellParams_31 hZ j hj)
noncomputable def vX12_tellParams_22 (j : Nat → rx_K) : rx_K := o_const 228 ((vX12_tellParams_31 j))
set_option maxRecDepth 20000 in
theorem wX12_tellParams_22 (hZ : zO b e D A X) (j : Nat → rx_K) (hj : ∀ k pc, [9][k]? = some pc → rx_OK (zV b e D A X) mX12_tellParams 6 pc (j k)) : rx_OK (zV b e D A X) mX12_tellParams 6 22 (vX12_tellParams_22 j) := by
  unfold vX12_tellParams_22
  refine s_ldcwS (k := 28) (zo_R28 hZ) dX12_tellParams_22 ?_
  exact s_goto dX12_tellParams_25 (by decide) (wX12_tellParams_31 hZ j hj)
noncomputable def vX12_tellParams_17 (j : Nat → rx_K) : rx_K := o_ld rx_isR 0 (o_ld rx_isI 2 (o_c1 rx_eq (vX12_tellParams_22 j) (vX12_tellParams_28 j)))
set_option maxRecDepth 20000 in
theorem wX12_tellParams_17 (hZ : zO b e D A X) (j : Nat → rx_K) (hj : ∀ k pc, [9][k]? = some pc → rx_OK (zV b e D A X) mX12_tellParams 6 pc (j k)) : rx_OK (zV b e D A X) mX12_tellParams 6 17 (vX12_tellParams_17 j) := by
  unfold vX12_tellParams_17
  refine s_aload_n hZ.1 dX12_tellParams_17 rfl ?_
  refine s_iload_n hZ.1 dX12_tellParams_18 rfl ?_
  exact s_if_ne dX12_tellParams_19 (by decide) (wX12_tellParams_28 hZ j hj) (wX12_tellParams_22 hZ j hj)
noncomputable def vX12_tellParams_9 (j : Nat → rx_K) : rx_K := o_ld rx_isI 2 (o_ld rx_isR 1 (o_getf 7 9 (o_c2 rx_lt (vX12_tellParams_17 j) (vX12_tellParams_50 j))))
set_option maxRecDepth 20000 in
theorem wX12_tellParams_9 (hZ : zO b e D A X) (j : Nat → rx_K) (hj : ∀ k pc, [9][k]? = some pc → rx_OK (zV b e D A X) mX12_tellParams 6 pc (j k)) : rx_OK (zV b e D A X) mX12_tellParams 6 9 (vX12_tellParams_9 j) := by
  unfold vX12_tellParams_9
  refine s_iload_n hZ.1 dX12_tellParams_9 rfl ?_
  refine s_aload_n hZ.1 dX12_tellParams_10 rfl ?_
  refine yg7_9 dX12_tellParams_11 zw1028 ?_
  exact s_icmp_ge dX12_tellParams_14 (by decide) (wX12_tellParams_50 hZ j hj) (wX12_tellParams_17 hZ j hj)
noncomputable def vX12_tellParams_0 (j : Nat → rx_K) : rx_K := o_ld rx_isR 0 (o_const 404 (o_callV 1 12 FX12_tellText (o_const 0 (o_st rx_isI 2 ((vX12_tellParams_9 j))))))
set_option maxRecDepth 20000 in
theorem wX12_tellParams_0 (hZ : zO b e D A X) (j : Nat → rx_K) (hj : ∀ k pc, [9][k]? = some pc → rx_OK (zV b e D A X) mX12_tellParams 6 pc (j k)) : rx_OK (zV b e D A X) mX12_tellParams 6 0 (vX12_tellParams_0 j) := by
  unfold vX12_tellParams_0
  refine s_aload_n hZ.1 dX12_tellParams_0 rfl ?_
  refine s_ldcwS (k := 50) (zo_R50 hZ) dX12_tellParams_1 ?_
  refine s_callV hZ.1 (Met_X12_tellText hZ) (Nat.le_of_ble_eq_true rfl) vy_X12_tellText zcl12 zw2384 zw115 (Or.inl zw2382) dX12_tellParams_4 ?_
  refine s_iconst dX12_tellParams_7 (by decide +kernel) ?_
  refine s_istore_n hZ.1 dX12_tellParams_8 rfl (Nat.le_of_ble_eq_true rfl) ?_
  exact (wX12_tellParams_9 hZ j hj)
noncomputable def vhX12_tellParams (j : Nat → rx_K) : List rx_K := [vX12_tellParams_9 j]
theorem vlX12_tellParams (hZ : zO b e D A X) : ∀ n k pc, [9][k]? = some pc → rx_OK (zV b e D A X) mX12_tellParams 6 pc (rx_J (vhX12_tellParams) n k) := rx_loop fun j hj k pc h => by
  match k, h with
  | 0, h =>
    have e9 := Option.some.inj (show some 9 = some pc from h)
    subst e9
    exact wX12_tellParams_9 hZ j hj
  | _ + 1, h => exact absurd h (by simp)
noncomputable def FX12_tellParams : List Nat → rx_H → Option (Nat × rx_H) := rx_ent 3 (vX12_tellParams_0 (rx_J (vhX12_tellParams) 4000000000))
theorem Met_X12_tellParams (hZ : zO b e D A X) : rx_Met (zV b e D A X) 6 yX12_tellParams mX12_tellParams (FX12_tellParams) := rx_entry hZ.1 (wX12_tellParams_0 hZ _ (vlX12_tellParams hZ 4000000000)) (by decide +kernel) rfl (fun h => by cases h)
abbrev mX12_tellMember : rx_M := (RX12, cX12_tellMember, 2, none, false)
theorem vy_X12_tellMember : rx_Y (zV b e D A X) yX12_tellMember mX12_tellMember 1 := ⟨zw2425, zw413, by decide, by decide +kernel, by decide +kernel, by decide +kernel⟩
noncomputable def vX12_tellMember_203 : rx_K := o_ret0
set_option maxRecDepth 20000 in
theorem wX12_tellMember_203 (hZ : zO b e D A X) : rx_OK (zV b e D A X) mX12_tellMember 7 203 vX12_tellMember_203 := by
  unfold vX12_tellMember_203
  exact s_vret rfl dX12_tellMember_203
noncomputable def vX12_tellMember_187 : rx_K := o_ld rx_isR 0 (o_const 324 (o_callV 1 12 FX12_tellText (o_ld rx_isR 0 (o_ld rx_isR 1 (o_getf 7 16 (o_il (fun x => x.toInt64) (o_callV 1 12 FX12_tellNumber (vX12_tellMember_203))))))))
set_option maxRecDepth 20000 in
theorem wX12_tellMember_187 (hZ : zO b e D A X) : rx_OK (zV b e D A X) mX12_tellMember 7 187 vX12_tellMember_187 := by
  unfold vX12_tellMember_187
  refine s_aload_n hZ.1 dX12_tellMember_187 rfl ?_
  refine s_ldcwS (k := 40) (zo_R40 hZ) dX12_tellMember_188 ?_
  refine s_callV hZ.1 (Met_X12_tellText hZ) (Nat.le_of_ble_eq_true rfl) vy_X12_tellText zcl12 zw2384 zw115 (Or.inl zw2382) dX12_tellMember_191 ?_
  refine s_aload_n hZ.1 dX12_tellMember_194 rfl ?_
  refine s_aload_n hZ.1 dX12_tellMember_195 rfl ?_
  refine yg7_16 dX12_tellMember_196 zw1064 ?_
  refine s_i2l dX12_tellMember_199 ?_
  refine s_callV hZ.1 (Met_X12_tellNumber hZ) (Nat.le_of_ble_eq_true rfl) vy_X12_tellNumber zcl12 zw2445 zw123 (Or.inl zw2443) dX12_tellMember_200 ?_
  exact (wX12_tellMember_203 hZ)
noncomputable def vX12_tellMember_180 : rx_K := o_ld rx_isR 1 (o_getf 7 15 (o_c1 rx_eq vX12_tellMember_203 vX12_tellMember_187))
set_option maxRecDepth 20000 in
theorem wX12_tellMember_180 (hZ : zO b e D A X) : rx_OK (zV b e D A X) mX12_tellMember 7 180 vX12_tellMember_180 := by
  unfold vX12_tellMember_180
  refine s_aload_n hZ.1 dX12_tellMember_180 rfl ?_
  refine yg7_15 dX12_tellMember_181 zw1057 ?_
  exact s_if_eq dX12_tellMember_184 (by decide) (wX12_tellMember_203 hZ) (wX12_tellMember_187 hZ)
noncomputable def vX12_tellMember_172 : rx_K := o_ld rx_isR 0 (o_ld rx_isR 1 (o_callV 1 12 FX12_tellParams (vX12_tellMember_203)))
set_option maxRecDepth 20000 in
theorem wX12_tellMember_172 (hZ : zO b e D A X) : rx_OK (zV b e D A X) mX12_tellMember 7 172 vX12_tellMember_172 := by
  unfold vX12_tellMember_172
  refine s_aload_n hZ.1 dX12_tellMember_172 rfl ?_
  refine s_aload_n hZ.1 dX12_tellMember_173 rfl ?_
  refine s_callV hZ.1 (Met_X12_tellParams hZ) (Nat.le_of_ble_eq_true rfl) vy_X12_tellParams zcl12 zw2433 zw121 (Or.inl zw2431) dX12_tellMember_174 ?_
  exact s_goto dX12_tellMember_177 (by decide) (wX12_tellMember_203 hZ)
noncomputable def vX12_tellMember_141 : rx_K := o_ld rx_isR 0 (o_ld rx_isR 1 (o_getf 7 8 (o_callV 1 12 FX12_tellType (o_ld rx_isR 0 (o_const 308 (o_callV 1 12 FX12_tellText (o_ld rx_isR 0 (o_ld rx_isR 1 (o_getf 7 7 (o_callV 1 12 FX12_tellName (o_ld rx_isR 1 (o_getf 7 0 (o_const 8 (o_c2 rx_eq vX12_tellMember_172 vX12_tellMember_180))))))))))))))
set_option maxRecDepth 20000 in
theorem wX12_tellMember_141 (hZ : zO b e D A X) : rx_OK (zV b e D A X) mX12_tellMember 7 141 vX12_tellMember_141 := by
  unfold vX12_tellMember_141
  refine s_aload_n hZ.1 dX12_tellMember_141 rfl ?_
  refine s_aload_n hZ.1 dX12_tellMember_142 rfl ?_
  refine yg7_8 dX12_tellMember_143 zw1020 ?_
  refine s_callV hZ.1 (Met_X12_tellType hZ) (Nat.le_of_ble_eq_true rfl) vy_X12_tellType zcl12 zw2398 zw117 (Or.inl zw2396) dX12_tellMember_146 ?_
  refine s_aload_n hZ.1 dX12_tellMember_149 rfl ?_
  refine s_ldcwS (k := 38) (zo_R38 hZ) dX12_tellMember_150 ?_
  refine s_callV hZ.1 (Met_X12_tellText hZ) (Nat.le_of_ble_eq_true rfl) vy_X12_tellText zcl12 zw2384 zw115 (Or.inl zw2382) dX12_tellMember_153 ?_
  refine s_aload_n hZ.1 dX12_tellMember_156 rfl ?_
  refine s_aload_n hZ.1 dX12_tellMember_157 rfl ?_
  refine yg7_7 dX12_tellMember_158 zw1010 ?_
  refine s_callV hZ.1 (Met_X12_tellName hZ) (Nat.le_of_ble_eq_true rfl) vy_X12_tellName zcl12 zw2440 zw122 (Or.inl zw2438) dX12_tellMember_161 ?_
  refine s_aload_n hZ.1 dX12_tellMember_164 rfl ?_
  refine yg7_0 dX12_tellMember_165 zw952 ?_
  refine s_iconst dX12_tellMember_168 (by decide +kernel) ?_
  exact s_icmp_ne dX12_tellMember_169 (by decide) (wX12_tellMember_180 hZ) (wX12_tellMember_172 hZ)
noncomputable def vX12_tellMember_128 : rx_K := o_ld rx_isR 0 (o_const 292 (o_callV 1 12 FX12_tellText (o_ld rx_isR 0 (o_ld rx_isR 1 (o_callV 1 12 FX12_tellParams (o_ret0))))))
set_option maxRecDepth 20000 in
theorem wX12_tellMember_128 (hZ : zO b e D A X) : rx_OK (zV b e D A X) mX12_tellMember 7 128 vX12_tellMember_128 := by
  unfold vX12_tellMember_128
  refine s_aload_n hZ.1 dX12_tellMember_128 rfl ?_
  refine s_ldcwS (k := 36) (zo_R36 hZ) dX12_tellMember_129 ?_
  refine s_callV hZ.1 (Met_X12_tellText hZ) (Nat.le_of_ble_eq_true rfl) vy_X12_tellText zcl12 zw2384 zw115 (Or.inl zw2382) dX12_tellMember_132 ?_
  refine s_aload_n hZ.1 dX12_tellMember_135 rfl ?_
  refine s_aload_n hZ.1 dX12_tellMember_136 rfl ?_
  refine s_callV hZ.1 (Met_X12_tellParams hZ) (Nat.le_of_ble_eq_true rfl) vy_X12_tellParams zcl12 zw2433 zw121 (Or.inl zw2431) dX12_tellMember_137 ?_
  exact s_vret rfl dX12_tellMember_140
noncomputable def vX12_tellMember_117 : rx_K := o_callV 1 12 FX12_tellText (o_ld rx_isR 1 (o_getf 7 0 (o_const 16 (o_c2 rx_eq vX12_tellMember_128 vX12_tellMember_141))))
set_option maxRecDepth 20000 in
theorem wX12_tellMember_117 (hZ : zO b e D A X) : rx_OK (zV b e D A X) mX12_tellMember 7 117 vX12_tellMember_117 := by
  unfold vX12_tellMember_117
  refine s_callV hZ.1 (Met_X12_tellText hZ) (Nat.le_of_ble_eq_true rfl) vy_X12_tellText zcl12 zw2384 zw115 (Or.inl zw2382) dX12_tellMember_117 ?_
  refine s_aload_n hZ.1 dX12_tellMember_120 rfl ?_
  refine yg7_0 dX12_tellMember_121 zw952 ?_
  refine s_iconst dX12_tellMember_124 (by decide +kernel) ?_
  exact s_icmp_ne dX12_tellMember_125 (by decide) (wX12_tellMember_141 hZ) (wX12_tellMember_128 hZ)
noncomputable def vX12_tellMember_114 : rx_K := o_const 228 (vX12_tellMember_117)
set_option maxRecDepth 20000 in
theorem wX12_tellMember_114 (hZ : zO b e D A X) : rx_OK (zV b e D A X) mX12_tellMember 7 114 vX12_tellMember_114 := by
  unfold vX12_tellMember_114
  refine s_ldcwS (k := 28) (zo_R28 hZ) dX12_tellMember_114 ?_
  exact (wX12_tellMember_117 hZ)
noncomputable def vX12_tellMember_108 : rx_K := o_const 212 (vX12_tellMember_117)
set_option maxRecDepth 20000 in
theorem wX12_tellMember_108 (hZ : zO b e D A X) : rx_OK (zV b e D A X) mX12_tellMember 7 108 vX12_tellMember_108 := by
  unfold vX12_tellMember_108
  refine s_ldcwS (k := 26) (zo_R26 hZ) dX12_tellMember_108 ?_
  exact s_goto dX12_tellMember_111 (by decide) (wX12_tellMember_117 hZ)
noncomputable def vX12_tellMember_101 : rx_K := o_ld rx_isR 1 (o_getf 7 4 (o_c1 rx_eq vX12_tellMember_114 vX12_tellMember_108))
set_option maxRecDepth 20000 in
theorem wX12_tellMember_101 (hZ : zO b e D A X) : rx_OK (zV b e D A X) mX12_tellMember 7 101 vX12_tellMember_101 := by
  unfold vX12_tellMember_101
  refine s_aload_n hZ.1 dX12_tellMember_101 rfl ?_
  refine yg7_4 dX12_tellMember_102 zw986 ?_
  exact s_if_eq dX12_tellMember_105 (by decide) (wX12_tellMember_114 hZ) (wX12_tellMember_108 hZ)
noncomputable def vX12_tellMember_95 : rx_K := o_const 84 (vX12_tellMember_117)
set_option maxRecDepth 20000 in
theorem wX12_tellMember_95 (hZ : zO b e D A X) : rx_OK (zV b e D A X) mX12_tellMember 7 95 vX12_tellMember_95 := by
  unfold vX12_tellMember_95
  refine s_ldcwS (k := 10) (zo_R10 hZ) dX12_tellMember_95 ?_
  exact s_goto dX12_tellMember_98 (by decide) (wX12_tellMember_117 hZ)
noncomputable def vX12_tellMember_84 : rx_K := o_callV 1 12 FX12_tellText (o_ld rx_isR 0 (o_ld rx_isR 1 (o_getf 7 3 (o_c1 rx_eq vX12_tellMember_101 vX12_tellMember_95))))
set_option maxRecDepth 20000 in
theorem wX12_tellMember_84 (hZ : zO b e D A X) : rx_OK (zV b e D A X) mX12_tellMember 7 84 vX12_tellMember_84 := by
  unfold vX12_tellMember_84
  refine s_callV hZ.1 (Met_X12_tellText hZ) (Nat.le_of_ble_eq_true rfl) vy_X12_tellText zcl12 zw2384 zw115 (Or.inl zw2382) dX12_tellMember_84 ?_
  refine s_aload_n hZ.1 dX12_tellMember_87 rfl ?_
  refine s_aload_n hZ.1 dX12_tellMember_88 rfl ?_
  refine yg7_3 dX12_tellMember_89 zw978 ?_
  exact s_if_eq dX12_tellMember_92 (by decide) (wX12_tellMember_101 hZ) (wX12_tellMember_95 hZ)
noncomputable def vX12_tellMember_81 : rx_K := o_const 228 (vX12_tellMember_84)
set_option maxRecDepth 20000 in
theorem wX12_tellMember_81 (hZ : zO b e D A X) : rx_OK (zV b e D A X) mX12_tellMember 7 81 vX12_tellMember_81 := by
  unfold vX12_tellMember_81
  refine s_ldcwS (k := 28) (zo_R28 hZ) dX12_tellMember_81 ?_
  exact (wX12_tellMember_84 hZ)
noncomputable def vX12_tellMember_75 : rx_K := o_const 276 (vX12_tellMember_84)
set_option maxRecDepth 20000 in
theorem wX12_tellMember_75 (hZ : zO b e D A X) : rx_OK (zV b e D A X) mX12_tellMember 7 75 vX12_tellMember_75 := by
  unfold vX12_tellMember_75
  refine s_ldcwS (k := 34) (zo_R34 hZ) dX12_tellMember_75 ?_
  exact s_goto dX12_tellMember_78 (by decide) (wX12_tellMember_84 hZ)
noncomputable def vX12_tellMember_64 : rx_K := o_callV 1 12 FX12_tellText (o_ld rx_isR 0 (o_ld rx_isR 1 (o_getf 7 2 (o_c1 rx_eq vX12_tellMember_81 vX12_tellMember_75))))
set_option maxRecDepth 20000 in
theorem wX12_tellMember_64 (hZ : zO b e D A X) : rx_OK (zV b e D A X) mX12_tellMember 7 64 vX12_tellMember_64 := by
  unfold vX12_tellMember_64
  refine s_callV hZ.1 (Met_X12_tellText hZ) (Nat.le_of_ble_eq_true rfl) vy_X12_tellText zcl12 zw2384 zw115 (Or.inl zw2382) dX12_tellMember_64 ?_
  refine s_aload_n hZ.1 dX12_tellMember_67 rfl ?_
  refine s_aload_n hZ.1 dX12_tellMember_68 rfl ?_
  refine yg7_2 dX12_tellMember_69 zw971 ?_
  exact s_if_eq dX12_tellMember_72 (by decide) (wX12_tellMember_81 hZ) (wX12_tellMember_75 hZ)
noncomputable def vX12_tellMember_61 : rx_K := o_const 228 (vX12_tellMember_64)
set_option maxRecDepth 20000 in
theorem wX12_tellMember_61 (hZ : zO b e D A X) : rx_OK (zV b e D A X) mX12_tellMember 7 61 vX12_tellMember_61 := by
  unfold vX12_tellMember_61
  refine s_ldcwS (k := 28) (zo_R28 hZ) dX12_tellMember_61 ?_
  exact (wX12_tellMember_64 hZ)
noncomputable def vX12_tellMember_55 : rx_K := o_const 356 (vX12_tellMember_64)
set_option maxRecDepth 20000 in
theorem wX12_tellMember_55 (hZ : zO b e D A X) : rx_OK (zV b e D A X) mX12_tellMember 7 55 vX12_tellMember_55 := by
  unfold vX12_tellMember_55
  refine s_ldcwS (k := 44) (zo_R44 hZ) dX12_tellMember_55 ?_
  exact s_goto dX12_tellMember_58 (by decide) (wX12_tellMember_64 hZ)
noncomputable def vX12_tellMember_48 : rx_K := o_ld rx_isR 1 (o_getf 7 1 (o_c1 rx_eq vX12_tellMember_55 vX12_tellMember_61))
set_option maxRecDepth 20000 in
theorem wX12_tellMember_48 (hZ : zO b e D A X) : rx_OK (zV b e D A X) mX12_tellMember 7 48 vX12_tellMember_48 := by
  unfold vX12_tellMember_48
  refine s_aload_n hZ.1 dX12_tellMember_48 rfl ?_
  refine yg7_1 dX12_tellMember_49 zw960 ?_
  exact s_if_ne dX12_tellMember_52 (by decide) (wX12_tellMember_61 hZ) (wX12_tellMember_55 hZ)
noncomputable def vX12_tellMember_42 : rx_K := o_const 340 (vX12_tellMember_64)
set_option maxRecDepth 20000 in
theorem wX12_tellMember_42 (hZ : zO b e D A X) : rx_OK (zV b e D A X) mX12_tellMember 7 42 vX12_tellMember_42 := by
  unfold vX12_tellMember_42
  refine s_ldcwS (k := 42) (zo_R42 hZ) dX12_tellMember_42 ?_
  exact s_goto dX12_tellMember_45 (by decide) (wX12_tellMember_64 hZ)
noncomputable def vX12_tellMember_34 : rx_K := o_ld rx_isR 1 (o_getf 7 1 (o_const 16 (o_c2 rx_eq vX12_tellMember_42 vX12_tellMember_48)))
set_option maxRecDepth 20000 in
theorem wX12_tellMember_34 (hZ : zO b e D A X) : rx_OK (zV b e D A X) mX12_tellMember 7 34 vX12_tellMember_34 := by
  unfold vX12_tellMember_34
  refine s_aload_n hZ.1 dX12_tellMember_34 rfl ?_
  refine yg7_1 dX12_tellMember_35 zw960 ?_
  refine s_iconst dX12_tellMember_38 (by decide +kernel) ?_
  exact s_icmp_ne dX12_tellMember_39 (by decide) (wX12_tellMember_48 hZ) (wX12_tellMember_42 hZ)
noncomputable def vX12_tellMember_29 : rx_K := o_const 68 (vX12_tellMember_64)
set_option maxRecDepth 20000 in
theorem wX12_tellMember_29 (hZ : zO b e D A X) : rx_OK (zV b e D A X) mX12_tellMember 7 29 vX12_tellMember_29 := by
  unfold vX12_tellMember_29
  refine s_ldcS (k := 8) (zo_R8 hZ) dX12_tellMember_29 ?_
  exact s_goto dX12_tellMember_31 (by decide) (wX12_tellMember_64 hZ)
noncomputable def vX12_tellMember_17 : rx_K := o_callV 1 12 FX12_tellText (o_ld rx_isR 0 (o_ld rx_isR 1 (o_getf 7 1 (o_const 24 (o_c2 rx_eq vX12_tellMember_29 vX12_tellMember_34)))))
set_option maxRecDepth 20000 in
theorem wX12_tellMember_17 (hZ : zO b e D A X) : rx_OK (zV b e D A X) mX12_tellMember 7 17 vX12_tellMember_17 := by
  unfold vX12_tellMember_17
  refine s_callV hZ.1 (Met_X12_tellText hZ) (Nat.le_of_ble_eq_true rfl) vy_X12_tellText zcl12 zw2384 zw115 (Or.inl zw2382) dX12_tellMember_17 ?_
  refine s_aload_n hZ.1 dX12_tellMember_20 rfl ?_
  refine s_aload_n hZ.1 dX12_tellMember_21 rfl ?_
  refine yg7_1 dX12_tellMember_22 zw960 ?_
  refine s_iconst dX12_tellMember_25 (by decide +kernel) ?_
  exact s_icmp_ne dX12_tellMember_26 (by decide) (wX12_tellMember_34 hZ) (wX12_tellMember_29 hZ)
noncomputable def vX12_tellMember_14 : rx_K := o_const 228 (vX12_tellMember_17)
set_option maxRecDepth 20000 in
theorem wX12_tellMember_14 (hZ : zO b e D A X) : rx_OK (zV b e D A X) mX12_tellMember 7 14 vX12_tellMember_14 := by
  unfold vX12_tellMember_14
  refine s_ldcwS (k := 28) (zo_R28 hZ) dX12_tellMember_14 ?_
  exact (wX12_tellMember_17 hZ)
noncomputable def vX12_tellMember_8 : rx_K := o_const 260 (vX12_tellMember_17)
set_option maxRecDepth 20000 in
theorem wX12_tellMember_8 (hZ : zO b e D A X) : rx_OK (zV b e D A X) mX12_tellMember 7 8 vX12_tellMember_8 := by
  unfold vX12_tellMember_8
  refine s_ldcwS (k := 32) (zo_R32 hZ) dX12_tellMember_8 ?_
  exact s_goto dX12_tellMember_11 (by decide) (wX12_tellMember_17 hZ)
noncomputable def vX12_tellMember_0 : rx_K := o_ld rx_isR 0 (o_ld rx_isR 1 (o_getf 7 5 (o_c1 rx_eq vX12_tellMember_14 vX12_tellMember_8)))
set_option maxRecDepth 20000 in
theorem wX12_tellMember_0 (hZ : zO b e D A X) : rx_OK (zV b e D A X) mX12_tellMember 7 0 vX12_tellMember_0 := by
  unfold vX12_tellMember_0
  refine s_aload_n hZ.1 dX12_tellMember_0 rfl ?_
  refine s_aload_n hZ.1 dX12_tellMember_1 rfl ?_
  refine yg7_5 dX12_tellMember_2 zw993 ?_
  exact s_if_eq dX12_tellMember_5 (by decide) (wX12_tellMember_14 hZ) (wX12_tellMember_8 hZ)
noncomputable def FX12_tellMember : List Nat → rx_H → Option (Nat × rx_H) := rx_ent 2 vX12_tellMember_0
theorem Met_X12_tellMember (hZ : zO b e D A X) : rx_Met (zV b e D A X) 7 yX12_tellMember mX12_tellMember (FX12_tellMember) := rx_entry hZ.1 (wX12_tellMember_0 hZ) (by decide +kernel) rfl (fun h => by cases h)
abbrev mX12_shape : rx_M := (RX12, cX12_shape, 6, (some .int), false)
theorem vy_X12_shape : rx_Y (zV b e D A X) yX12_shape mX12_shape 4 := ⟨zw2375, zw413, by decide, by decide +kernel, by decide +kernel, by decide +kernel⟩
noncomputable def vX12_shape_71 : rx_K := o_ld rx_isR 0 (o_getf 12 3 (o_ret1 rx_isI))
set_option maxRecDepth 20000 in
theorem wX12_shape_71 (hZ : zO b e D A X) : rx_OK (zV b e D A X) mX12_shape 8 71 vX12_shape_71 := by
  unfold vX12_shape_71
  refine s_aload_n hZ.1 dX12_shape_71 rfl ?_
  refine yg12_3 dX12_shape_72 zw1606 ?_
  exact s_iret hZ.1 rfl dX12_shape_75
noncomputable def vX12_shape_59 : rx_K := o_ld rx_isR 0 (o_ld rx_isR 5 (o_getf 10 14 (o_ld rx_isI 4 (o_ald 5 (o_callV 1 12 FX12_tellMember (vX12_shape_71))))))
set_option maxRecDepth 20000 in
theorem wX12_shape_59 (hZ : zO b e D A X) : rx_OK (zV b e D A X) mX12_shape 8 59 vX12_shape_59 := by
  unfold vX12_shape_59
  refine s_aload_n hZ.1 dX12_shape_59 rfl ?_
  refine s_aload hZ.1 dX12_shape_60 ?_
  refine yg10_14 dX12_shape_62 zw865 ?_
  refine s_iload hZ.1 dX12_shape_65 ?_
  refine s_aald (tt := 5) rfl rfl dX12_shape_67 ?_
  refine s_callV hZ.1 (Met_X12_tellMember hZ) (Nat.le_of_ble_eq_true rfl) vy_X12_tellMember zcl12 zw2424 zw120 (Or.inl zw2422) dX12_shape_68 ?_
  exact (wX12_shape_71 hZ)
noncomputable def vX12_shape_50 : rx_K := o_ld rx_isR 0 (o_ld rx_isR 5 (o_callV 1 12 FX12_tellHead (vX12_shape_71)))
set_option maxRecDepth 20000 in
theorem wX12_shape_50 (hZ : zO b e D A X) : rx_OK (zV b e D A X) mX12_shape 8 50 vX12_shape_50 := by
  unfold vX12_shape_50
  refine s_aload_n hZ.1 dX12_shape_50 rfl ?_
  refine s_aload hZ.1 dX12_shape_51 ?_
  refine s_callV hZ.1 (Met_X12_tellHead hZ) (Nat.le_of_ble_eq_true rfl) vy_X12_tellHead zcl12 zw2378 zw114 (Or.inl zw2376) dX12_shape_53 ?_
  exact s_goto dX12_shape_56 (by decide) (wX12_shape_71 hZ)
noncomputable def vX12_shape_38 : rx_K := o_ld rx_isR 0 (o_const 0 (o_putf rx_isI 12 3 (o_ld rx_isI 4 (o_const 34359738352 (o_c2 rx_eq vX12_shape_50 vX12_shape_59)))))
set_option maxRecDepth 20000 in
theorem wX12_shape_38 (hZ : zO b e D A X) : rx_OK (zV b e D A X) mX12_shape 8 38 vX12_shape_38 := by
  unfold vX12_shape_38
  refine s_aload_n hZ.1 dX12_shape_38 rfl ?_
  refine s_iconst dX12_shape_39 (by decide +kernel) ?_
  refine yp12_3 hZ.1 dX12_shape_40 zw1606 ?_
  refine s_iload hZ.1 dX12_shape_43 ?_
  refine s_bipush dX12_shape_45 (by decide +kernel) ?_
  exact s_icmp_ne dX12_shape_47 (by decide) (wX12_shape_59 hZ) (wX12_shape_50 hZ)
noncomputable def vX12_shape_36 : rx_K := o_const 34359738360 (o_ret1 rx_isI)
set_option maxRecDepth 20000 in
theorem wX12_shape_36 (hZ : zO b e D A X) : rx_OK (zV b e D A X) mX12_shape 8 36 vX12_shape_36 := by
  unfold vX12_shape_36
  refine s_iconst dX12_shape_36 (by decide +kernel) ?_
  exact s_iret hZ.1 rfl dX12_shape_37
noncomputable def vX12_shape_26 : rx_K := o_ld rx_isI 4 (o_ld rx_isR 5 (o_getf 10 15 (o_c2 rx_lt vX12_shape_38 vX12_shape_36)))
set_option maxRecDepth 20000 in
theorem wX12_shape_26 (hZ : zO b e D A X) : rx_OK (zV b e D A X) mX12_shape 8 26 vX12_shape_26 := by
  unfold vX12_shape_26
  refine s_iload hZ.1 dX12_shape_26 ?_
  refine s_aload hZ.1 dX12_shape_28 ?_
  refine yg10_15 dX12_shape_30 zw873 ?_
  exact s_icmp_lt dX12_shape_33 (by decide) (wX12_shape_38 hZ) (wX12_shape_36 hZ)
noncomputable def vX12_shape_21 : rx_K := o_ld rx_isI 4 (o_c1 rx_lt vX12_shape_36 vX12_shape_26)
set_option maxRecDepth 20000 in
theorem wX12_shape_21 (hZ : zO b e D A X) : rx_OK (zV b e D A X) mX12_shape 8 21 vX12_shape_21 := by
  unfold vX12_shape_21
  refine s_iload hZ.1 dX12_shape_21 ?_
  exact s_if_lt dX12_shape_23 (by decide) (wX12_shape_36 hZ) (wX12_shape_26 hZ)
noncomputable def vX12_shape_14 : rx_K := o_ld rx_isI 4 (o_const 34359738352 (o_c2 rx_eq vX12_shape_38 vX12_shape_21))
set_option maxRecDepth 20000 in
theorem wX12_shape_14 (hZ : zO b e D A X) : rx_OK (zV b e D A X) mX12_shape 8 14 vX12_shape_14 := by
  unfold vX12_shape_14
  refine s_iload hZ.1 dX12_shape_14 ?_
  refine s_bipush dX12_shape_16 (by decide +kernel) ?_
  exact s_icmp_eq dX12_shape_18 (by decide) (wX12_shape_38 hZ) (wX12_shape_21 hZ)
noncomputable def vX12_shape_0 : rx_K := o_ld rx_isR 0 (o_ld rx_isI 1 (o_ld rx_isI 2 (o_ld rx_isI 3 (o_callV 3 12 FX12_rowOf (o_st rx_isR 5 (o_ld rx_isR 5 (o_nul vX12_shape_36 vX12_shape_14)))))))
set_option maxRecDepth 20000 in
theorem wX12_shape_0 (hZ : zO b e D A X) : rx_OK (zV b e D A X) mX12_shape 8 0 vX12_shape_0 := by
  unfold vX12_shape_0
  refine s_aload_n hZ.1 dX12_shape_0 rfl ?_
  refine s_iload_n hZ.1 dX12_shape_1 rfl ?_
  refine s_iload_n hZ.1 dX12_shape_2 rfl ?_
  refine s_iload_n hZ.1 dX12_shape_3 rfl ?_
  refine s_callV hZ.1 (Met_X12_rowOf hZ) (Nat.le_of_ble_eq_true rfl) vy_X12_rowOf zcl12 zw2370 zw113 (Or.inl zw2368) dX12_shape_4 ?_
  refine s_astore hZ.1 dX12_shape_7 (Nat.le_of_ble_eq_true rfl) ?_
  refine s_aload hZ.1 dX12_shape_9 ?_
  exact s_ifnull dX12_shape_11 (by decide) (wX12_shape_36 hZ) (wX12_shape_14 hZ)
noncomputable def FX12_shape : List Nat → rx_H → Option (Nat × rx_H) := rx_ent 6 vX12_shape_0
theorem Met_X12_shape (hZ : zO b e D A X) : rx_Met (zV b e D A X) 8 yX12_shape mX12_shape (FX12_shape) := rx_entry hZ.1 (wX12_shape_0 hZ) (by decide +kernel) rfl (fun h => by cases h)
abbrev mX12_tellUsed : rx_M := (RX12, cX12_tellUsed, 4, none, false)
theorem vy_X12_tellUsed : rx_Y (zV b e D A X) yX12_tellUsed mX12_tellUsed 2 := ⟨zw2467, zw413, by decide, by decide +kernel, by decide +kernel, by decide +kernel⟩
noncomputable def vX12_tellUsed_64 : rx_K := o_ld rx_isR 0 (o_ld rx_isR 3 (o_getf 7 8 (o_callV 1 12 FX12_tellType (o_ret0))))
set_option maxRecDepth 20000 in
theorem wX12_tellUsed_64 (hZ : zO b e D A X) : rx_OK (zV b e D A X) mX12_tellUsed 7 64 vX12_tellUsed_64 := by
  unfold vX12_tellUsed_64
  refine s_aload_n hZ.1 dX12_tellUsed_64 rfl ?_
  refine s_aload_n hZ.1 dX12_tellUsed_65 rfl ?_
  refine yg7_8 dX12_tellUsed_66 zw1020 ?_
  refine s_callV hZ.1 (Met_X12_tellType hZ) (Nat.le_of_ble_eq_true rfl) vy_X12_tellType zcl12 zw2398 zw117 (Or.inl zw2396) dX12_tellUsed_69 ?_
  exact s_vret rfl dX12_tellUsed_72
noncomputable def vX12_tellUsed_57 : rx_K := o_ld rx_isR 0 (o_const 452 (o_callV 1 12 FX12_tellText (vX12_tellUsed_64)))
set_option maxRecDepth 20000 in
theorem wX12_tellUsed_57 (hZ : zO b e D A X) : rx_OK (zV b e D A X) mX12_tellUsed 7 57 vX12_tellUsed_57 := by
  unfold vX12_tellUsed_57
  refine s_aload_n hZ.1 dX12_tellUsed_57 rfl ?_
  refine s_ldcwS (k := 56) (zo_R56 hZ) dX12_tellUsed_58 ?_
  refine s_callV hZ.1 (Met_X12_tellText hZ) (Nat.le_of_ble_eq_true rfl) vy_X12_tellText zcl12 zw2384 zw115 (Or.inl zw2382) dX12_tellUsed_61 ?_
  exact (wX12_tellUsed_64 hZ)
noncomputable def vX12_tellUsed_49 : rx_K := o_ld rx_isR 0 (o_ld rx_isR 3 (o_callV 1 12 FX12_tellParams (vX12_tellUsed_64)))
set_option maxRecDepth 20000 in
theorem wX12_tellUsed_49 (hZ : zO b e D A X) : rx_OK (zV b e D A X) mX12_tellUsed 7 49 vX12_tellUsed_49 := by
  unfold vX12_tellUsed_49
  refine s_aload_n hZ.1 dX12_tellUsed_49 rfl ?_
  refine s_aload_n hZ.1 dX12_tellUsed_50 rfl ?_
  refine s_callV hZ.1 (Met_X12_tellParams hZ) (Nat.le_of_ble_eq_true rfl) vy_X12_tellParams zcl12 zw2433 zw121 (Or.inl zw2431) dX12_tellUsed_51 ?_
  exact s_goto dX12_tellUsed_54 (by decide) (wX12_tellUsed_64 hZ)
noncomputable def vX12_tellUsed_33 : rx_K := o_ld rx_isR 0 (o_ld rx_isR 3 (o_getf 7 7 (o_callV 1 12 FX12_tellName (o_ld rx_isR 3 (o_getf 7 0 (o_const 8 (o_c2 rx_eq vX12_tellUsed_49 vX12_tellUsed_57)))))))
set_option maxRecDepth 20000 in
theorem wX12_tellUsed_33 (hZ : zO b e D A X) : rx_OK (zV b e D A X) mX12_tellUsed 7 33 vX12_tellUsed_33 := by
  unfold vX12_tellUsed_33
  refine s_aload_n hZ.1 dX12_tellUsed_33 rfl ?_
  refine s_aload_n hZ.1 dX12_tellUsed_34 rfl ?_
  refine yg7_7 dX12_tellUsed_35 zw1010 ?_
  refine s_callV hZ.1 (Met_X12_tellName hZ) (Nat.le_of_ble_eq_true rfl) vy_X12_tellName zcl12 zw2440 zw122 (Or.inl zw2438) dX12_tellUsed_38 ?_
  refine s_aload_n hZ.1 dX12_tellUsed_41 rfl ?_
  refine yg7_0 dX12_tellUsed_42 zw952 ?_
  refine s_iconst dX12_tellUsed_45 (by decide +kernel) ?_
  exact s_icmp_ne dX12_tellUsed_46 (by decide) (wX12_tellUsed_57 hZ) (wX12_tellUsed_49 hZ)
noncomputable def vX12_tellUsed_20 : rx_K := o_ld rx_isR 0 (o_const 292 (o_callV 1 12 FX12_tellText (o_ld rx_isR 0 (o_ld rx_isR 3 (o_callV 1 12 FX12_tellParams (o_ret0))))))
set_option maxRecDepth 20000 in
theorem wX12_tellUsed_20 (hZ : zO b e D A X) : rx_OK (zV b e D A X) mX12_tellUsed 7 20 vX12_tellUsed_20 := by
  unfold vX12_tellUsed_20
  refine s_aload_n hZ.1 dX12_tellUsed_20 rfl ?_
  refine s_ldcwS (k := 36) (zo_R36 hZ) dX12_tellUsed_21 ?_
  refine s_callV hZ.1 (Met_X12_tellText hZ) (Nat.le_of_ble_eq_true rfl) vy_X12_tellText zcl12 zw2384 zw115 (Or.inl zw2382) dX12_tellUsed_24 ?_
  refine s_aload_n hZ.1 dX12_tellUsed_27 rfl ?_
  refine s_aload_n hZ.1 dX12_tellUsed_28 rfl ?_
  refine s_callV hZ.1 (Met_X12_tellParams hZ) (Nat.le_of_ble_eq_true rfl) vy_X12_tellParams zcl12 zw2433 zw121 (Or.inl zw2431) dX12_tellUsed_29 ?_
  exact s_vret rfl dX12_tellUsed_32
noncomputable def vX12_tellUsed_0 : rx_K := o_ld rx_isR 0 (o_ld rx_isL 1 (o_callV 1 12 FX12_tellType (o_ld rx_isR 0 (o_const 436 (o_callV 1 12 FX12_tellText (o_ld rx_isR 3 (o_getf 7 0 (o_const 16 (o_c2 rx_eq vX12_tellUsed_20 vX12_tellUsed_33)))))))))
set_option maxRecDepth 20000 in
theorem wX12_tellUsed_0 (hZ : zO b e D A X) : rx_OK (zV b e D A X) mX12_tellUsed 7 0 vX12_tellUsed_0 := by
  unfold vX12_tellUsed_0
  refine s_aload_n hZ.1 dX12_tellUsed_0 rfl ?_
  refine s_lload_n hZ.1 dX12_tellUsed_1 rfl ?_
  refine s_callV hZ.1 (Met_X12_tellType hZ) (Nat.le_of_ble_eq_true rfl) vy_X12_tellType zcl12 zw2398 zw117 (Or.inl zw2396) dX12_tellUsed_2 ?_
  refine s_aload_n hZ.1 dX12_tellUsed_5 rfl ?_
  refine s_ldcwS (k := 54) (zo_R54 hZ) dX12_tellUsed_6 ?_
  refine s_callV hZ.1 (Met_X12_tellText hZ) (Nat.le_of_ble_eq_true rfl) vy_X12_tellText zcl12 zw2384 zw115 (Or.inl zw2382) dX12_tellUsed_9 ?_
  refine s_aload_n hZ.1 dX12_tellUsed_12 rfl ?_
  refine yg7_0 dX12_tellUsed_13 zw952 ?_
  refine s_iconst dX12_tellUsed_16 (by decide +kernel) ?_
  exact s_icmp_ne dX12_tellUsed_17 (by decide) (wX12_tellUsed_33 hZ) (wX12_tellUsed_20 hZ)
noncomputable def FX12_tellUsed : List Nat → rx_H → Option (Nat × rx_H) := rx_ent 4 vX12_tellUsed_0
theorem Met_X12_tellUsed (hZ : zO b e D A X) : rx_Met (zV b e D A X) 7 yX12_tellUsed mX12_tellUsed (FX12_tellUsed) := rx_entry hZ.1 (wX12_tellUsed_0 hZ) (by decide +kernel) rfl (fun h => by cases h)
abbrev mX12_uses : rx_M := (RX12, cX12_uses, 4, (some .int), false)
theorem vy_X12_uses : rx_Y (zV b e D A X) yX12_uses mX12_uses 2 := ⟨zw2451, zw413, by decide, by decide +kernel, by decide +kernel, by decide +kernel⟩
noncomputable def vX12_uses_19 : rx_K := o_ret1 rx_isI
set_option maxRecDepth 20000 in
theorem wX12_uses_19 (hZ : zO b e D A X) : rx_OK (zV b e D A X) mX12_uses 2 19 vX12_uses_19 := by
  unfold vX12_uses_19
  exact s_iret hZ.1 rfl dX12_uses_19
noncomputable def vX12_uses_15 : rx_K := o_ld rx_isR 3 (o_getf 1 15 (vX12_uses_19))
set_option maxRecDepth 20000 in
theorem wX12_uses_15 (hZ : zO b e D A X) : rx_OK (zV b e D A X) mX12_uses 2 15 vX12_uses_15 := by
  unfold vX12_uses_15
  refine s_aload_n hZ.1 dX12_uses_15 rfl ?_
  refine yg1_15 dX12_uses_16 zw1167 ?_
  exact (wX12_uses_19 hZ)
noncomputable def vX12_uses_11 : rx_K := o_const 34359738360 (vX12_uses_19)
set_option maxRecDepth 20000 in
theorem wX12_uses_11 (hZ : zO b e D A X) : rx_OK (zV b e D A X) mX12_uses 2 11 vX12_uses_11 := by
  unfold vX12_uses_11
  refine s_iconst dX12_uses_11 (by decide +kernel) ?_
  exact s_goto dX12_uses_12 (by decide) (wX12_uses_19 hZ)
noncomputable def vX12_uses_0 : rx_K := o_ld rx_isR 0 (o_ld rx_isI 1 (o_ld rx_isI 2 (o_callV 2 12 FX12_buildOf (o_st rx_isR 3 (o_ld rx_isR 3 (o_nul vX12_uses_11 vX12_uses_15))))))
set_option maxRecDepth 20000 in
theorem wX12_uses_0 (hZ : zO b e D A X) : rx_OK (zV b e D A X) mX12_uses 2 0 vX12_uses_0 := by
  unfold vX12_uses_0
  refine s_aload_n hZ.1 dX12_uses_0 rfl ?_
  refine s_iload_n hZ.1 dX12_uses_1 rfl ?_
  refine s_iload_n hZ.1 dX12_uses_2 rfl ?_
  refine s_callV hZ.1 (Met_X12_buildOf hZ) (Nat.le_of_ble_eq_true rfl) vy_X12_buildOf zcl12 zw1559 zw1 (Or.inl zw1557) dX12_uses_3 ?_
  refine s_astore_n hZ.1 dX12_uses_6 rfl (Nat.le_of_ble_eq_true rfl) ?_
  refine s_aload_n hZ.1 dX12_uses_7 rfl ?_
  exact s_ifnonnull dX12_uses_8 (by decide) (wX12_uses_15 hZ) (wX12_uses_11 hZ)
noncomputable def FX12_uses : List Nat → rx_H → Option (Nat × rx_H) := rx_ent 4 vX12_uses_0
theorem Met_X12_uses (hZ : zO b e D A X) : rx_Met (zV b e D A X) 2 yX12_uses mX12_uses (FX12_uses) := rx_entry hZ.1 (wX12_uses_0 hZ) (by decide +kernel) rfl (fun h => by cases h)
abbrev mX12_hasUse : rx_M := (RX12, cX12_hasUse, 2, (some .boolean), false)
theorem vy_X12_hasUse : rx_Y (zV b e D A X) yX12_hasUse mX12_hasUse 2 := ⟨zw2458, zw413, by decide, by decide +kernel, by decide +kernel, by decide +kernel⟩
noncomputable def vX12_hasUse_21 : rx_K := o_ret1 rx_isZ
set_option maxRecDepth 20000 in
theorem wX12_hasUse_21 (hZ : zO b e D A X) : rx_OK (zV b e D A X) mX12_hasUse 0 21 vX12_hasUse_21 := by
  unfold vX12_hasUse_21
  exact s_zret rx_z_ok rfl dX12_hasUse_21
noncomputable def vX12_hasUse_20 : rx_K := o_const 0 (vX12_hasUse_21)
set_option maxRecDepth 20000 in
theorem wX12_hasUse_20 (hZ : zO b e D A X) : rx_OK (zV b e D A X) mX12_hasUse 0 20 vX12_hasUse_20 := by
  unfold vX12_hasUse_20
  refine s_iconst dX12_hasUse_20 (by decide +kernel) ?_
  exact (wX12_hasUse_21 hZ)
noncomputable def vX12_hasUse_16 : rx_K := o_const 8 (vX12_hasUse_21)
set_option maxRecDepth 20000 in
theorem wX12_hasUse_16 (hZ : zO b e D A X) : rx_OK (zV b e D A X) mX12_hasUse 0 16 vX12_hasUse_16 := by
  unfold vX12_hasUse_16
  refine s_iconst dX12_hasUse_16 (by decide +kernel) ?_
  exact s_goto dX12_hasUse_17 (by decide) (wX12_hasUse_21 hZ)
noncomputable def vX12_hasUse_8 : rx_K := o_ld rx_isI 1 (o_ld rx_isR 0 (o_getf 1 15 (o_c2 rx_lt vX12_hasUse_16 vX12_hasUse_20)))
set_option maxRecDepth 20000 in
theorem wX12_hasUse_8 (hZ : zO b e D A X) : rx_OK (zV b e D A X) mX12_hasUse 0 8 vX12_hasUse_8 := by
  unfold vX12_hasUse_8
  refine s_iload_n hZ.1 dX12_hasUse_8 rfl ?_
  refine s_aload_n hZ.1 dX12_hasUse_9 rfl ?_
  refine yg1_15 dX12_hasUse_10 zw1167 ?_
  exact s_icmp_ge dX12_hasUse_13 (by decide) (wX12_hasUse_20 hZ) (wX12_hasUse_16 hZ)
noncomputable def vX12_hasUse_4 : rx_K := o_ld rx_isI 1 (o_c1 rx_lt vX12_hasUse_20 vX12_hasUse_8)
set_option maxRecDepth 20000 in
theorem wX12_hasUse_4 (hZ : zO b e D A X) : rx_OK (zV b e D A X) mX12_hasUse 0 4 vX12_hasUse_4 := by
  unfold vX12_hasUse_4
  refine s_iload_n hZ.1 dX12_hasUse_4 rfl ?_
  exact s_if_lt dX12_hasUse_5 (by decide) (wX12_hasUse_20 hZ) (wX12_hasUse_8 hZ)
noncomputable def vX12_hasUse_0 : rx_K := o_ld rx_isR 0 (o_nul vX12_hasUse_20 vX12_hasUse_4)
set_option maxRecDepth 20000 in
theorem wX12_hasUse_0 (hZ : zO b e D A X) : rx_OK (zV b e D A X) mX12_hasUse 0 0 vX12_hasUse_0 := by
  unfold vX12_hasUse_0
  refine s_aload_n hZ.1 dX12_hasUse_0 rfl ?_
  exact s_ifnull dX12_hasUse_1 (by decide) (wX12_hasUse_20 hZ) (wX12_hasUse_4 hZ)
noncomputable def FX12_hasUse : List Nat → rx_H → Option (Nat × rx_H) := rx_ent 2 vX12_hasUse_0
theorem Met_X12_hasUse (hZ : zO b e D A X) : rx_Met (zV b e D A X) 0 yX12_hasUse mX12_hasUse (FX12_hasUse) := rx_entry hZ.1 (wX12_hasUse_0 hZ) (by decide +kernel) rfl (fun h => by cases h)
abbrev mX12_use : rx_M := (RX12, cX12_use, 6, (some .int), false)
theorem vy_X12_use : rx_Y (zV b e D A X) yX12_use mX12_use 4 := ⟨zw2455, zw413, by decide, by decide +kernel, by decide +kernel, by decide +kernel⟩
noncomputable def vX12_use_52 : rx_K := o_ret1 rx_isI
set_option maxRecDepth 20000 in
theorem wX12_use_52 (hZ : zO b e D A X) : rx_OK (zV b e D A X) mX12_use 2 52 vX12_use_52 := by
  unfold vX12_use_52
  exact s_iret hZ.1 rfl dX12_use_52
noncomputable def vX12_use_45 : rx_K := o_ld rx_isR 5 (o_getf 1 11 (o_ld rx_isI 3 (o_ald 0 (vX12_use_52))))
set_option maxRecDepth 20000 in
theorem wX12_use_45 (hZ : zO b e D A X) : rx_OK (zV b e D A X) mX12_use 2 45 vX12_use_45 := by
  unfold vX12_use_45
  refine s_aload hZ.1 dX12_use_45 ?_
  refine yg1_11 dX12_use_47 zw1151 ?_
  refine s_iload_n hZ.1 dX12_use_50 rfl ?_
  refine s_iald (tt := 0) rfl dX12_use_51 ?_
  exact (wX12_use_52 hZ)
noncomputable def vX12_use_35 : rx_K := o_ld rx_isR 5 (o_getf 1 10 (o_ld rx_isI 3 (o_ald 0 (vX12_use_52))))
set_option maxRecDepth 20000 in
theorem wX12_use_35 (hZ : zO b e D A X) : rx_OK (zV b e D A X) mX12_use 2 35 vX12_use_35 := by
  unfold vX12_use_35
  refine s_aload hZ.1 dX12_use_35 ?_
  refine yg1_10 dX12_use_37 zw1148 ?_
  refine s_iload_n hZ.1 dX12_use_40 rfl ?_
  refine s_iald (tt := 0) rfl dX12_use_41 ?_
  exact s_goto dX12_use_42 (by decide) (wX12_use_52 hZ)
noncomputable def vX12_use_30 : rx_K := o_ld rx_isI 4 (o_c1 rx_eq vX12_use_35 vX12_use_45)
set_option maxRecDepth 20000 in
theorem wX12_use_30 (hZ : zO b e D A X) : rx_OK (zV b e D A X) mX12_use 2 30 vX12_use_30 := by
  unfold vX12_use_30
  refine s_iload hZ.1 dX12_use_30 ?_
  exact s_if_ne dX12_use_32 (by decide) (wX12_use_45 hZ) (wX12_use_35 hZ)
noncomputable def vX12_use_28 : rx_K := o_const 34359738360 (o_ret1 rx_isI)
set_option maxRecDepth 20000 in
theorem wX12_use_28 (hZ : zO b e D A X) : rx_OK (zV b e D A X) mX12_use 2 28 vX12_use_28 := by
  unfold vX12_use_28
  refine s_iconst dX12_use_28 (by decide +kernel) ?_
  exact s_iret hZ.1 rfl dX12_use_29
noncomputable def vX12_use_22 : rx_K := o_ld rx_isI 4 (o_const 8 (o_c2 (fun h x y => rx_lt h y x) vX12_use_28 vX12_use_30))
set_option maxRecDepth 20000 in
theorem wX12_use_22 (hZ : zO b e D A X) : rx_OK (zV b e D A X) mX12_use 2 22 vX12_use_22 := by
  unfold vX12_use_22
  refine s_iload hZ.1 dX12_use_22 ?_
  refine s_iconst dX12_use_24 (by decide +kernel) ?_
  exact s_icmp_le dX12_use_25 (by decide) (wX12_use_30 hZ) (wX12_use_28 hZ)
noncomputable def vX12_use_17 : rx_K := o_ld rx_isI 4 (o_c1 rx_lt vX12_use_28 vX12_use_22)
set_option maxRecDepth 20000 in
theorem wX12_use_17 (hZ : zO b e D A X) : rx_OK (zV b e D A X) mX12_use 2 17 vX12_use_17 := by
  unfold vX12_use_17
  refine s_iload hZ.1 dX12_use_17 ?_
  exact s_if_lt dX12_use_19 (by decide) (wX12_use_28 hZ) (wX12_use_22 hZ)
noncomputable def vX12_use_0 : rx_K := o_ld rx_isR 0 (o_ld rx_isI 1 (o_ld rx_isI 2 (o_callV 2 12 FX12_buildOf (o_st rx_isR 5 (o_ld rx_isR 5 (o_ld rx_isI 3 (o_callS 2 FX12_hasUse (o_c1 rx_eq vX12_use_28 vX12_use_17))))))))
set_option maxRecDepth 20000 in
theorem wX12_use_0 (hZ : zO b e D A X) : rx_OK (zV b e D A X) mX12_use 2 0 vX12_use_0 := by
  unfold vX12_use_0
  refine s_aload_n hZ.1 dX12_use_0 rfl ?_
  refine s_iload_n hZ.1 dX12_use_1 rfl ?_
  refine s_iload_n hZ.1 dX12_use_2 rfl ?_
  refine s_callV hZ.1 (Met_X12_buildOf hZ) (Nat.le_of_ble_eq_true rfl) vy_X12_buildOf zcl12 zw1559 zw1 (Or.inl zw1557) dX12_use_3 ?_
  refine s_astore hZ.1 dX12_use_6 (Nat.le_of_ble_eq_true rfl) ?_
  refine s_aload hZ.1 dX12_use_8 ?_
  refine s_iload_n hZ.1 dX12_use_10 rfl ?_
  refine s_callS hZ.1 (Met_X12_hasUse hZ) (Nat.le_of_ble_eq_true rfl) vy_X12_hasUse zw2457 (Or.inl zw2456) dX12_use_11 ?_
  exact s_if_eq dX12_use_14 (by decide) (wX12_use_28 hZ) (wX12_use_17 hZ)
noncomputable def FX12_use : List Nat → rx_H → Option (Nat × rx_H) := rx_ent 6 vX12_use_0
theorem Met_X12_use (hZ : zO b e D A X) : rx_Met (zV b e D A X) 2 yX12_use mX12_use (FX12_use) := rx_entry hZ.1 (wX12_use_0 hZ) (by decide +kernel) rfl (fun h => by cases h)
abbrev mX12_tell : rx_M := (RX12, cX12_tell, 7, (some .int), false)
theorem vy_X12_tell : rx_Y (zV b e D A X) yX12_tell mX12_tell 3 := ⟨zw2462, zw413, by decide, by decide +kernel, by decide +kernel, by decide +kernel⟩
noncomputable def vX12_tell_173 : rx_K := o_ld rx_isR 0 (o_getf 12 3 (o_ret1 rx_isI))
set_option maxRecDepth 20000 in
theorem wX12_tell_173 (hZ : zO b e D A X) : rx_OK (zV b e D A X) mX12_tell 8 173 vX12_tell_173 := by
  unfold vX12_tell_173
  refine s_aload_n hZ.1 dX12_tell_173 rfl ?_
  refine yg12_3 dX12_tell_174 zw1606 ?_
  exact s_iret hZ.1 rfl dX12_tell_177
noncomputable def vX12_tell_155 : rx_K := o_ld rx_isR 0 (o_const 468 (o_callV 1 12 FX12_tellText (o_ld rx_isR 0 (o_ld rx_isR 4 (o_getf 1 14 (o_ld rx_isI 3 (o_ald 1 (o_callV 1 12 FX12_tellType (vX12_tell_173)))))))))
set_option maxRecDepth 20000 in
theorem wX12_tell_155 (hZ : zO b e D A X) : rx_OK (zV b e D A X) mX12_tell 8 155 vX12_tell_155 := by
  unfold vX12_tell_155
  refine s_aload_n hZ.1 dX12_tell_155 rfl ?_
  refine s_ldcwS (k := 58) (zo_R58 hZ) dX12_tell_156 ?_
  refine s_callV hZ.1 (Met_X12_tellText hZ) (Nat.le_of_ble_eq_true rfl) vy_X12_tellText zcl12 zw2384 zw115 (Or.inl zw2382) dX12_tell_159 ?_
  refine s_aload_n hZ.1 dX12_tell_162 rfl ?_
  refine s_aload hZ.1 dX12_tell_163 ?_
  refine yg1_14 dX12_tell_165 zw1163 ?_
  refine s_iload_n hZ.1 dX12_tell_168 rfl ?_
  refine s_lald (tt := 1) rfl dX12_tell_169 ?_
  refine s_callV hZ.1 (Met_X12_tellType hZ) (Nat.le_of_ble_eq_true rfl) vy_X12_tellType zcl12 zw2398 zw117 (Or.inl zw2396) dX12_tell_170 ?_
  exact (wX12_tell_173 hZ)
noncomputable def vX12_tell_137 : rx_K := o_ld rx_isR 0 (o_ld rx_isR 4 (o_getf 1 12 (o_ld rx_isI 3 (o_ald 1 (o_callV 1 12 FX12_tellType (o_ld rx_isI 5 (o_const 136 (o_c2 rx_eq vX12_tell_155 vX12_tell_173))))))))
set_option maxRecDepth 20000 in
theorem wX12_tell_137 (hZ : zO b e D A X) : rx_OK (zV b e D A X) mX12_tell 8 137 vX12_tell_137 := by
  unfold vX12_tell_137
  refine s_aload_n hZ.1 dX12_tell_137 rfl ?_
  refine s_aload hZ.1 dX12_tell_138 ?_
  refine yg1_12 dX12_tell_140 zw1155 ?_
  refine s_iload_n hZ.1 dX12_tell_143 rfl ?_
  refine s_lald (tt := 1) rfl dX12_tell_144 ?_
  refine s_callV hZ.1 (Met_X12_tellType hZ) (Nat.le_of_ble_eq_true rfl) vy_X12_tellType zcl12 zw2398 zw117 (Or.inl zw2396) dX12_tell_145 ?_
  refine s_iload hZ.1 dX12_tell_148 ?_
  refine s_bipush dX12_tell_150 (by decide +kernel) ?_
  exact s_icmp_ne dX12_tell_152 (by decide) (wX12_tell_173 hZ) (wX12_tell_155 hZ)
noncomputable def vX12_tell_121 : rx_K := o_ld rx_isR 0 (o_ld rx_isR 4 (o_getf 1 12 (o_ld rx_isI 3 (o_ald 1 (o_ld rx_isR 6 (o_callV 2 12 FX12_tellUsed (vX12_tell_173)))))))
set_option maxRecDepth 20000 in
theorem wX12_tell_121 (hZ : zO b e D A X) : rx_OK (zV b e D A X) mX12_tell 8 121 vX12_tell_121 := by
  unfold vX12_tell_121
  refine s_aload_n hZ.1 dX12_tell_121 rfl ?_
  refine s_aload hZ.1 dX12_tell_122 ?_
  refine yg1_12 dX12_tell_124 zw1155 ?_
  refine s_iload_n hZ.1 dX12_tell_127 rfl ?_
  refine s_lald (tt := 1) rfl dX12_tell_128 ?_
  refine s_aload hZ.1 dX12_tell_129 ?_
  refine s_callV hZ.1 (Met_X12_tellUsed hZ) (Nat.le_of_ble_eq_true rfl) vy_X12_tellUsed zcl12 zw2466 zw124 (Or.inl zw2464) dX12_tell_131 ?_
  exact s_goto dX12_tell_134 (by decide) (wX12_tell_173 hZ)
noncomputable def vX12_tell_116 : rx_K := o_ld rx_isR 6 (o_nul vX12_tell_137 vX12_tell_121)
set_option maxRecDepth 20000 in
theorem wX12_tell_116 (hZ : zO b e D A X) : rx_OK (zV b e D A X) mX12_tell 8 116 vX12_tell_116 := by
  unfold vX12_tell_116
  refine s_aload hZ.1 dX12_tell_116 ?_
  exact s_ifnull dX12_tell_118 (by decide) (wX12_tell_137 hZ) (wX12_tell_121 hZ)
noncomputable def vX12_tell_68 : rx_K := o_ld rx_isR 0 (o_ld rx_isR 4 (o_getf 1 12 (o_ld rx_isI 3 (o_ald 1 (o_callV 1 12 FX12_tellType (o_ld rx_isR 0 (o_const 436 (o_callV 1 12 FX12_tellText (o_ld rx_isR 0 (o_ld rx_isR 6 (o_getf 7 7 (o_callV 1 12 FX12_tellName (o_ld rx_isR 0 (o_const 324 (o_callV 1 12 FX12_tellText (o_ld rx_isR 0 (o_ld rx_isR 4 (o_getf 1 14 (o_ld rx_isI 3 (o_ald 1 (o_callV 1 12 FX12_tellNumber (vX12_tell_173))))))))))))))))))))))
set_option maxRecDepth 20000 in
theorem wX12_tell_68 (hZ : zO b e D A X) : rx_OK (zV b e D A X) mX12_tell 8 68 vX12_tell_68 := by
  unfold vX12_tell_68
  refine s_aload_n hZ.1 dX12_tell_68 rfl ?_
  refine s_aload hZ.1 dX12_tell_69 ?_
  refine yg1_12 dX12_tell_71 zw1155 ?_
  refine s_iload_n hZ.1 dX12_tell_74 rfl ?_
  refine s_lald (tt := 1) rfl dX12_tell_75 ?_
  refine s_callV hZ.1 (Met_X12_tellType hZ) (Nat.le_of_ble_eq_true rfl) vy_X12_tellType zcl12 zw2398 zw117 (Or.inl zw2396) dX12_tell_76 ?_
  refine s_aload_n hZ.1 dX12_tell_79 rfl ?_
  refine s_ldcwS (k := 54) (zo_R54 hZ) dX12_tell_80 ?_
  refine s_callV hZ.1 (Met_X12_tellText hZ) (Nat.le_of_ble_eq_true rfl) vy_X12_tellText zcl12 zw2384 zw115 (Or.inl zw2382) dX12_tell_83 ?_
  refine s_aload_n hZ.1 dX12_tell_86 rfl ?_
  refine s_aload hZ.1 dX12_tell_87 ?_
  refine yg7_7 dX12_tell_89 zw1010 ?_
  refine s_callV hZ.1 (Met_X12_tellName hZ) (Nat.le_of_ble_eq_true rfl) vy_X12_tellName zcl12 zw2440 zw122 (Or.inl zw2438) dX12_tell_92 ?_
  refine s_aload_n hZ.1 dX12_tell_95 rfl ?_
  refine s_ldcwS (k := 40) (zo_R40 hZ) dX12_tell_96 ?_
  refine s_callV hZ.1 (Met_X12_tellText hZ) (Nat.le_of_ble_eq_true rfl) vy_X12_tellText zcl12 zw2384 zw115 (Or.inl zw2382) dX12_tell_99 ?_
  refine s_aload_n hZ.1 dX12_tell_102 rfl ?_
  refine s_aload hZ.1 dX12_tell_103 ?_
  refine yg1_14 dX12_tell_105 zw1163 ?_
  refine s_iload_n hZ.1 dX12_tell_108 rfl ?_
  refine s_lald (tt := 1) rfl dX12_tell_109 ?_
  refine s_callV hZ.1 (Met_X12_tellNumber hZ) (Nat.le_of_ble_eq_true rfl) vy_X12_tellNumber zcl12 zw2445 zw123 (Or.inl zw2443) dX12_tell_110 ?_
  exact s_goto dX12_tell_113 (by decide) (wX12_tell_173 hZ)
noncomputable def vX12_tell_63 : rx_K := o_ld rx_isR 6 (o_nul vX12_tell_116 vX12_tell_68)
set_option maxRecDepth 20000 in
theorem wX12_tell_63 (hZ : zO b e D A X) : rx_OK (zV b e D A X) mX12_tell 8 63 vX12_tell_63 := by
  unfold vX12_tell_63
  refine s_aload hZ.1 dX12_tell_63 ?_
  exact s_ifnull dX12_tell_65 (by decide) (wX12_tell_116 hZ) (wX12_tell_68 hZ)
noncomputable def vX12_tell_19 : rx_K := o_ld rx_isR 0 (o_const 0 (o_putf rx_isI 12 3 (o_ld rx_isR 4 (o_getf 1 10 (o_ld rx_isI 3 (o_ald 0 (o_st rx_isI 5 (o_ld rx_isR 4 (o_getf 1 13 (o_ld rx_isI 3 (o_ald 5 (o_st rx_isR 6 (o_ld rx_isR 0 (o_ld rx_isI 5 (o_il (fun x => x.toInt64) (o_callV 1 12 FX12_tellNumber (o_ld rx_isR 0 (o_const 308 (o_callV 1 12 FX12_tellText (o_ld rx_isI 5 (o_const 128 (o_c2 rx_eq vX12_tell_63 vX12_tell_116))))))))))))))))))))))
set_option maxRecDepth 20000 in
theorem wX12_tell_19 (hZ : zO b e D A X) : rx_OK (zV b e D A X) mX12_tell 8 19 vX12_tell_19 := by
  unfold vX12_tell_19
  refine s_aload_n hZ.1 dX12_tell_19 rfl ?_
  refine s_iconst dX12_tell_20 (by decide +kernel) ?_
  refine yp12_3 hZ.1 dX12_tell_21 zw1606 ?_
  refine s_aload hZ.1 dX12_tell_24 ?_
  refine yg1_10 dX12_tell_26 zw1148 ?_
  refine s_iload_n hZ.1 dX12_tell_29 rfl ?_
  refine s_iald (tt := 0) rfl dX12_tell_30 ?_
  refine s_istore hZ.1 dX12_tell_31 (Nat.le_of_ble_eq_true rfl) ?_
  refine s_aload hZ.1 dX12_tell_33 ?_
  refine yg1_13 dX12_tell_35 zw1159 ?_
  refine s_iload_n hZ.1 dX12_tell_38 rfl ?_
  refine s_aald (tt := 5) rfl rfl dX12_tell_39 ?_
  refine s_astore hZ.1 dX12_tell_40 (Nat.le_of_ble_eq_true rfl) ?_
  refine s_aload_n hZ.1 dX12_tell_42 rfl ?_
  refine s_iload hZ.1 dX12_tell_43 ?_
  refine s_i2l dX12_tell_45 ?_
  refine s_callV hZ.1 (Met_X12_tellNumber hZ) (Nat.le_of_ble_eq_true rfl) vy_X12_tellNumber zcl12 zw2445 zw123 (Or.inl zw2443) dX12_tell_46 ?_
  refine s_aload_n hZ.1 dX12_tell_49 rfl ?_
  refine s_ldcwS (k := 38) (zo_R38 hZ) dX12_tell_50 ?_
  refine s_callV hZ.1 (Met_X12_tellText hZ) (Nat.le_of_ble_eq_true rfl) vy_X12_tellText zcl12 zw2384 zw115 (Or.inl zw2382) dX12_tell_53 ?_
  refine s_iload hZ.1 dX12_tell_56 ?_
  refine s_bipush dX12_tell_58 (by decide +kernel) ?_
  exact s_icmp_ne dX12_tell_60 (by decide) (wX12_tell_116 hZ) (wX12_tell_63 hZ)
noncomputable def vX12_tell_17 : rx_K := o_const 34359738360 (o_ret1 rx_isI)
set_option maxRecDepth 20000 in
theorem wX12_tell_17 (hZ : zO b e D A X) : rx_OK (zV b e D A X) mX12_tell 8 17 vX12_tell_17 := by
  unfold vX12_tell_17
  refine s_iconst dX12_tell_17 (by decide +kernel) ?_
  exact s_iret hZ.1 rfl dX12_tell_18
noncomputable def vX12_tell_0 : rx_K := o_ld rx_isR 0 (o_ld rx_isI 1 (o_ld rx_isI 2 (o_callV 2 12 FX12_buildOf (o_st rx_isR 4 (o_ld rx_isR 4 (o_ld rx_isI 3 (o_callS 2 FX12_hasUse (o_c1 rx_eq vX12_tell_17 vX12_tell_19))))))))
set_option maxRecDepth 20000 in
theorem wX12_tell_0 (hZ : zO b e D A X) : rx_OK (zV b e D A X) mX12_tell 8 0 vX12_tell_0 := by
  unfold vX12_tell_0
  refine s_aload_n hZ.1 dX12_tell_0 rfl ?_
  refine s_iload_n hZ.1 dX12_tell_1 rfl ?_
  refine s_iload_n hZ.1 dX12_tell_2 rfl ?_
  refine s_callV hZ.1 (Met_X12_buildOf hZ) (Nat.le_of_ble_eq_true rfl) vy_X12_buildOf zcl12 zw1559 zw1 (Or.inl zw1557) dX12_tell_3 ?_
  refine s_astore hZ.1 dX12_tell_6 (Nat.le_of_ble_eq_true rfl) ?_
  refine s_aload hZ.1 dX12_tell_8 ?_
  refine s_iload_n hZ.1 dX12_tell_10 rfl ?_
  refine s_callS hZ.1 (Met_X12_hasUse hZ) (Nat.le_of_ble_eq_true rfl) vy_X12_hasUse zw2457 (Or.inl zw2456) dX12_tell_11 ?_
  exact s_if_ne dX12_tell_14 (by decide) (wX12_tell_19 hZ) (wX12_tell_17 hZ)
noncomputable def FX12_tell : List Nat → rx_H → Option (Nat × rx_H) := rx_ent 7 vX12_tell_0
theorem Met_X12_tell (hZ : zO b e D A X) : rx_Met (zV b e D A X) 8 yX12_tell mX12_tell (FX12_tell) := rx_entry hZ.1 (wX12_tell_0 hZ) (by decide +kernel) rfl (fun h => by cases h)
abbrev mX12_whereUsed : rx_M := (RX12, cX12_whereUsed, 7, (some .int), false)
theorem vy_X12_whereUsed : rx_Y (zV b e D A X) yX12_whereUsed mX12_whereUsed 3 := ⟨zw2477, zw413, by decide, by decide +kernel, by decide +kernel, by decide +kernel⟩
noncomputable def vX12_whereUsed_82 : rx_K := o_ret1 rx_isI
set_option maxRecDepth 20000 in
theorem wX12_whereUsed_82 (hZ : zO b e D A X) : rx_OK (zV b e D A X) mX12_whereUsed 2 82 vX12_whereUsed_82 := by
  unfold vX12_whereUsed_82
  exact s_iret hZ.1 rfl dX12_whereUsed_82
noncomputable def vX12_whereUsed_80 : rx_K := o_const 34359738352 (vX12_whereUsed_82)
set_option maxRecDepth 20000 in
theorem wX12_whereUsed_80 (hZ : zO b e D A X) : rx_OK (zV b e D A X) mX12_whereUsed 2 80 vX12_whereUsed_80 := by
  unfold vX12_whereUsed_80
  refine s_bipush dX12_whereUsed_80 (by decide +kernel) ?_
  exact (wX12_whereUsed_82 hZ)
noncomputable def vX12_whereUsed_75 : rx_K := o_ld rx_isI 6 (vX12_whereUsed_82)
set_option maxRecDepth 20000 in
theorem wX12_whereUsed_75 (hZ : zO b e D A X) : rx_OK (zV b e D A X) mX12_whereUsed 2 75 vX12_whereUsed_75 := by
  unfold vX12_whereUsed_75
  refine s_iload hZ.1 dX12_whereUsed_75 ?_
  exact s_goto dX12_whereUsed_77 (by decide) (wX12_whereUsed_82 hZ)
noncomputable def vX12_whereUsed_60 : rx_K := o_ld rx_isR 0 (o_getf 12 13 (o_getf 11 1 (o_ld rx_isI 6 (o_ald 4 (o_ld rx_isR 5 (o_acmp vX12_whereUsed_75 vX12_whereUsed_80))))))
set_option maxRecDepth 20000 in
theorem wX12_whereUsed_60 (hZ : zO b e D A X) : rx_OK (zV b e D A X) mX12_whereUsed 2 60 vX12_whereUsed_60 := by
  unfold vX12_whereUsed_60
  refine s_aload_n hZ.1 dX12_whereUsed_60 rfl ?_
  refine yg12_13 dX12_whereUsed_61 zw1616 ?_
  refine yg11_1 dX12_whereUsed_64 zw1258 ?_
  refine s_iload hZ.1 dX12_whereUsed_67 ?_
  refine s_aald (tt := 4) rfl rfl dX12_whereUsed_69 ?_
  refine s_aload hZ.1 dX12_whereUsed_70 ?_
  exact s_acmp_ne hZ.1 dX12_whereUsed_72 (by decide) (wX12_whereUsed_80 hZ) (wX12_whereUsed_75 hZ)
noncomputable def vX12_whereUsed_26 : rx_K := o_ld rx_isR 4 (o_getf 1 2 (o_ld rx_isR 4 (o_getf 1 11 (o_ld rx_isI 3 (o_ald 0 (o_ald 4 (o_st rx_isR 5 (o_ld rx_isR 0 (o_getf 12 13 (o_ld rx_isR 5 (o_getf 10 1 (o_callV 1 11 FX11_find (o_st rx_isI 6 (o_ld rx_isI 6 (o_c1 rx_lt vX12_whereUsed_80 vX12_whereUsed_60)))))))))))))))
set_option maxRecDepth 20000 in
theorem wX12_whereUsed_26 (hZ : zO b e D A X) : rx_OK (zV b e D A X) mX12_whereUsed 2 26 vX12_whereUsed_26 := by
  unfold vX12_whereUsed_26
  refine s_aload hZ.1 dX12_whereUsed_26 ?_
  refine yg1_2 dX12_whereUsed_28 zw1119 ?_
  refine s_aload hZ.1 dX12_whereUsed_31 ?_
  refine yg1_11 dX12_whereUsed_33 zw1151 ?_
  refine s_iload_n hZ.1 dX12_whereUsed_36 rfl ?_
  refine s_iald (tt := 0) rfl dX12_whereUsed_37 ?_
  refine s_aald (tt := 4) rfl rfl dX12_whereUsed_38 ?_
  refine s_astore hZ.1 dX12_whereUsed_39 (Nat.le_of_ble_eq_true rfl) ?_
  refine s_aload_n hZ.1 dX12_whereUsed_41 rfl ?_
  refine yg12_13 dX12_whereUsed_42 zw1616 ?_
  refine s_aload hZ.1 dX12_whereUsed_45 ?_
  refine yg10_1 dX12_whereUsed_47 zw777 ?_
  refine s_callV hZ.1 (Met_X11_find hZ) (Nat.le_of_ble_eq_true rfl) vy_X11_find zcl11 zw1574 zw1575 (Or.inl zw2478) dX12_whereUsed_50 ?_
  refine s_istore hZ.1 dX12_whereUsed_53 (Nat.le_of_ble_eq_true rfl) ?_
  refine s_iload hZ.1 dX12_whereUsed_55 ?_
  exact s_if_lt dX12_whereUsed_57 (by decide) (wX12_whereUsed_80 hZ) (wX12_whereUsed_60 hZ)
noncomputable def vX12_whereUsed_23 : rx_K := o_const 34359738352 (o_ret1 rx_isI)
set_option maxRecDepth 20000 in
theorem wX12_whereUsed_23 (hZ : zO b e D A X) : rx_OK (zV b e D A X) mX12_whereUsed 2 23 vX12_whereUsed_23 := by
  unfold vX12_whereUsed_23
  refine s_bipush dX12_whereUsed_23 (by decide +kernel) ?_
  exact s_iret hZ.1 rfl dX12_whereUsed_25
noncomputable def vX12_whereUsed_13 : rx_K := o_ld rx_isR 0 (o_getf 12 6 (o_ld rx_isI 1 (o_ald 0 (o_ld rx_isI 2 (o_c2 rx_eq vX12_whereUsed_26 vX12_whereUsed_23)))))
set_option maxRecDepth 20000 in
theorem wX12_whereUsed_13 (hZ : zO b e D A X) : rx_OK (zV b e D A X) mX12_whereUsed 2 13 vX12_whereUsed_13 := by
  unfold vX12_whereUsed_13
  refine s_aload_n hZ.1 dX12_whereUsed_13 rfl ?_
  refine yg12_6 dX12_whereUsed_14 zw1609 ?_
  refine s_iload_n hZ.1 dX12_whereUsed_17 rfl ?_
  refine s_iald (tt := 0) rfl dX12_whereUsed_18 ?_
  refine s_iload_n hZ.1 dX12_whereUsed_19 rfl ?_
  exact s_icmp_eq dX12_whereUsed_20 (by decide) (wX12_whereUsed_26 hZ) (wX12_whereUsed_23 hZ)
noncomputable def vX12_whereUsed_0 : rx_K := o_ld rx_isR 0 (o_ld rx_isI 1 (o_ld rx_isI 2 (o_callV 2 12 FX12_buildOf (o_st rx_isR 4 (o_ld rx_isR 4 (o_nul vX12_whereUsed_23 vX12_whereUsed_13))))))
set_option maxRecDepth 20000 in
theorem wX12_whereUsed_0 (hZ : zO b e D A X) : rx_OK (zV b e D A X) mX12_whereUsed 2 0 vX12_whereUsed_0 := by
  unfold vX12_whereUsed_0
  refine s_aload_n hZ.1 dX12_whereUsed_0 rfl ?_
  refine s_iload_n hZ.1 dX12_whereUsed_1 rfl ?_
  refine s_iload_n hZ.1 dX12_whereUsed_2 rfl ?_
  refine s_callV hZ.1 (Met_X12_buildOf hZ) (Nat.le_of_ble_eq_true rfl) vy_X12_buildOf zcl12 zw1559 zw1 (Or.inl zw1557) dX12_whereUsed_3 ?_
  refine s_astore hZ.1 dX12_whereUsed_6 (Nat.le_of_ble_eq_true rfl) ?_
  refine s_aload hZ.1 dX12_whereUsed_8 ?_
  exact s_ifnull dX12_whereUsed_10 (by decide) (wX12_whereUsed_23 hZ) (wX12_whereUsed_13 hZ)
noncomputable def FX12_whereUsed : List Nat → rx_H → Option (Nat × rx_H) := rx_ent 7 vX12_whereUsed_0
theorem Met_X12_whereUsed (hZ : zO b e D A X) : rx_Met (zV b e D A X) 2 yX12_whereUsed mX12_whereUsed (FX12_whereUsed) := rx_entry hZ.1 (wX12_whereUsed_0 hZ) (by decide +kernel) rfl (fun h => by cases h)
abbrev mX12_meet : rx_M := (RX12, cX12_meet, 5, (some .int), false)
theorem vy_X12_meet : rx_Y (zV b e D A X) yX12_meet mX12_meet 3 := ⟨zw2473, zw413, by decide, by decide +kernel, by decide +kernel, by decide +kernel⟩
noncomputable def vX12_meet_32 : rx_K := o_ld rx_isR 0 (o_getf 12 15 (o_ld rx_isR 0 (o_getf 12 13 (o_callV 1 5 FX5_clear (o_ld rx_isR 0 (o_getf 12 15 (o_ld rx_isI 4 (o_ld rx_isI 3 (o_ld rx_isR 0 (o_getf 12 13 (o_getf 11 1 (o_ld rx_isI 4 (o_ald 4 (o_getf 10 16 (o_bi (fun x y => x - y) (o_callV 2 5 FX5_ask (o_ret1 rx_isI)))))))))))))))))
set_option maxRecDepth 20000 in
theorem wX12_meet_32 (hZ : zO b e D A X) : rx_OK (zV b e D A X) mX12_meet 6 32 vX12_meet_32 := by
  unfold vX12_meet_32
  refine s_aload_n hZ.1 dX12_meet_32 rfl ?_
  refine yg12_15 dX12_meet_33 zw1618 ?_
  refine s_aload_n hZ.1 dX12_meet_36 rfl ?_
  refine yg12_13 dX12_meet_37 zw1616 ?_
  refine s_callV hZ.1 (Met_X5_clear hZ) (Nat.le_of_ble_eq_true rfl) vy_X5_clear zcl5 zw1598 zw1599 (Or.inl zw2479) dX12_meet_40 ?_
  refine s_aload_n hZ.1 dX12_meet_43 rfl ?_
  refine yg12_15 dX12_meet_44 zw1618 ?_
  refine s_iload hZ.1 dX12_meet_47 ?_
  refine s_iload_n hZ.1 dX12_meet_49 rfl ?_
  refine s_aload_n hZ.1 dX12_meet_50 rfl ?_
  refine yg12_13 dX12_meet_51 zw1616 ?_
  refine yg11_1 dX12_meet_54 zw1258 ?_
  refine s_iload hZ.1 dX12_meet_57 ?_
  refine s_aald (tt := 4) rfl rfl dX12_meet_59 ?_
  refine yg10_16 dX12_meet_60 zw878 ?_
  refine s_isub dX12_meet_63 ?_
  refine s_callV hZ.1 (Met_X5_ask hZ) (Nat.le_of_ble_eq_true rfl) vy_X5_ask zcl5 zw2481 zw2482 (Or.inl zw2480) dX12_meet_64 ?_
  exact s_iret hZ.1 rfl dX12_meet_67
noncomputable def vX12_meet_29 : rx_K := o_const 34359738352 (o_ret1 rx_isI)
set_option maxRecDepth 20000 in
theorem wX12_meet_29 (hZ : zO b e D A X) : rx_OK (zV b e D A X) mX12_meet 6 29 vX12_meet_29 := by
  unfold vX12_meet_29
  refine s_bipush dX12_meet_29 (by decide +kernel) ?_
  exact s_iret hZ.1 rfl dX12_meet_31
noncomputable def vX12_meet_15 : rx_K := o_ld rx_isR 0 (o_ld rx_isI 1 (o_ld rx_isI 2 (o_ld rx_isI 3 (o_callV 3 12 FX12_whereUsed (o_st rx_isI 4 (o_ld rx_isI 4 (o_c1 rx_lt vX12_meet_29 vX12_meet_32)))))))
set_option maxRecDepth 20000 in
theorem wX12_meet_15 (hZ : zO b e D A X) : rx_OK (zV b e D A X) mX12_meet 6 15 vX12_meet_15 := by
  unfold vX12_meet_15
  refine s_aload_n hZ.1 dX12_meet_15 rfl ?_
  refine s_iload_n hZ.1 dX12_meet_16 rfl ?_
  refine s_iload_n hZ.1 dX12_meet_17 rfl ?_
  refine s_iload_n hZ.1 dX12_meet_18 rfl ?_
  refine s_callV hZ.1 (Met_X12_whereUsed hZ) (Nat.le_of_ble_eq_true rfl) vy_X12_whereUsed zcl12 zw2476 zw125 (Or.inl zw2474) dX12_meet_19 ?_
  refine s_istore hZ.1 dX12_meet_22 (Nat.le_of_ble_eq_true rfl) ?_
  refine s_iload hZ.1 dX12_meet_24 ?_
  exact s_if_ge dX12_meet_26 (by decide) (wX12_meet_32 hZ) (wX12_meet_29 hZ)
noncomputable def vX12_meet_13 : rx_K := o_const 34359738360 (o_ret1 rx_isI)
set_option maxRecDepth 20000 in
theorem wX12_meet_13 (hZ : zO b e D A X) : rx_OK (zV b e D A X) mX12_meet 6 13 vX12_meet_13 := by
  unfold vX12_meet_13
  refine s_iconst dX12_meet_13 (by decide +kernel) ?_
  exact s_iret hZ.1 rfl dX12_meet_14
noncomputable def vX12_meet_0 : rx_K := o_ld rx_isR 0 (o_ld rx_isI 1 (o_ld rx_isI 2 (o_callV 2 12 FX12_buildOf (o_ld rx_isI 3 (o_callS 2 FX12_hasUse (o_c1 rx_eq vX12_meet_13 vX12_meet_15))))))
set_option maxRecDepth 20000 in
theorem wX12_meet_0 (hZ : zO b e D A X) : rx_OK (zV b e D A X) mX12_meet 6 0 vX12_meet_0 := by
  unfold vX12_meet_0
  refine s_aload_n hZ.1 dX12_meet_0 rfl ?_
  refine s_iload_n hZ.1 dX12_meet_1 rfl ?_
  refine s_iload_n hZ.1 dX12_meet_2 rfl ?_
  refine s_callV hZ.1 (Met_X12_buildOf hZ) (Nat.le_of_ble_eq_true rfl) vy_X12_buildOf zcl12 zw1559 zw1 (Or.inl zw1557) dX12_meet_3 ?_
  refine s_iload_n hZ.1 dX12_meet_6 rfl ?_
  refine s_callS hZ.1 (Met_X12_hasUse hZ) (Nat.le_of_ble_eq_true rfl) vy_X12_hasUse zw2457 (Or.inl zw2456) dX12_meet_7 ?_
  exact s_if_ne dX12_meet_10 (by decide) (wX12_meet_15 hZ) (wX12_meet_13 hZ)
noncomputable def FX12_meet : List Nat → rx_H → Option (Nat × rx_H) := rx_ent 5 vX12_meet_0
theorem Met_X12_meet (hZ : zO b e D A X) : rx_Met (zV b e D A X) 6 yX12_meet mX12_meet (FX12_meet) := rx_entry hZ.1 (wX12_meet_0 hZ) (by decide +kernel) rfl (fun h => by cases h)
end ZM32

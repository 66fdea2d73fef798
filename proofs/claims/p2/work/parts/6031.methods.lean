section ZM31
variable {b : Nat} {e : Nat → Value} {D : va_G} {A : Nat → ClassId} {X : State → Prop}
abbrev mX12_make : rx_M := (RX12, cX12_make, 5, (some .int), false)
theorem vy_X12_make : rx_Y (zV b e D A X) yX12_make mX12_make 1 := ⟨zw1708, zw413, by decide, by decide +kernel, by decide +kernel, by decide +kernel⟩
noncomputable def vX12_make_209 (j : Nat → rx_K) : rx_K := o_ld rx_isR 0 (o_getf 12 11 (o_ld rx_isR 0 (o_getf 12 14 (o_ld rx_isR 3 (o_callV 2 3 FX3_write (o_ld rx_isR 0 (o_getf 12 8 (o_callV 0 9 FX9_keep (o_ld rx_isR 0 (o_const 34359738352 (o_putf rx_isI 12 12 (o_ld rx_isR 0 (o_ld rx_isR 3 (o_ld rx_isI 1 (o_callV 2 12 FX12_keep (o_ret1 rx_isI))))))))))))))))
set_option maxRecDepth 20000 in
theorem wX12_make_209 (hZ : zO b e D A X) (j : Nat → rx_K) (hj : ∀ k pc, [88][k]? = some pc → rx_OK (zV b e D A X) mX12_make 407 pc (j k)) : rx_OK (zV b e D A X) mX12_make 407 209 (vX12_make_209 j) := by
  unfold vX12_make_209
  refine s_aload_n hZ.1 dX12_make_209 rfl ?_
  refine yg12_11 dX12_make_210 zw1614 ?_
  refine s_aload_n hZ.1 dX12_make_213 rfl ?_
  refine yg12_14 dX12_make_214 zw1617 ?_
  refine s_aload_n hZ.1 dX12_make_217 rfl ?_
  refine s_callV hZ.1 (Met_X3_write hZ) (Nat.le_of_ble_eq_true rfl) vy_X3_write zcl3 zw2220 zw2221 (Or.inl zw2219) dX12_make_218 ?_
  refine s_aload_n hZ.1 dX12_make_221 rfl ?_
  refine yg12_8 dX12_make_222 zw1611 ?_
  refine s_callV hZ.1 (Met_X9_keep hZ) (Nat.le_of_ble_eq_true rfl) vy_X9_keep zcl9 zw2331 zw2332 (Or.inl zw2330) dX12_make_225 ?_
  refine s_aload_n hZ.1 dX12_make_228 rfl ?_
  refine s_bipush dX12_make_229 (by decide +kernel) ?_
  refine yp12_12 hZ.1 dX12_make_231 zw1615 ?_
  refine s_aload_n hZ.1 dX12_make_234 rfl ?_
  refine s_aload_n hZ.1 dX12_make_235 rfl ?_
  refine s_iload_n hZ.1 dX12_make_236 rfl ?_
  refine s_callV hZ.1 (Met_X12_keep hZ) (Nat.le_of_ble_eq_true rfl) vy_X12_keep zcl12 zw2338 zw111 (Or.inl zw2336) dX12_make_237 ?_
  exact s_iret hZ.1 rfl dX12_make_240
noncomputable def vX12_make_190 (j : Nat → rx_K) : rx_K := o_ld rx_isR 0 (o_ld rx_isR 0 (o_getf 12 10 (o_getf 0 3 (o_ld rx_isR 0 (o_getf 12 10 (o_getf 0 4 (o_callV 2 12 FX12_faulted (o_ret1 rx_isI))))))))
set_option maxRecDepth 20000 in
theorem wX12_make_190 (hZ : zO b e D A X) (j : Nat → rx_K) (hj : ∀ k pc, [88][k]? = some pc → rx_OK (zV b e D A X) mX12_make 407 pc (j k)) : rx_OK (zV b e D A X) mX12_make 407 190 (vX12_make_190 j) := by
  unfold vX12_make_190
  refine s_aload_n hZ.1 dX12_make_190 rfl ?_
  refine s_aload_n hZ.1 dX12_make_191 rfl ?_
  refine yg12_10 dX12_make_192 zw1613 ?_
  refine yg0_3 dX12_make_195 zw665 ?_
  refine s_aload_n hZ.1 dX12_make_198 rfl ?_
  refine yg12_10 dX12_make_199 zw1613 ?_
  refine yg0_4 dX12_make_202 zw667 ?_
  refine s_callV hZ.1 (Met_X12_faulted hZ) (Nat.le_of_ble_eq_true rfl) vy_X12_faulted zcl12 zw1886 zw41 (Or.inl zw1884) dX12_make_205 ?_
  exact s_iret hZ.1 rfl dX12_make_208
noncomputable def vX12_make_171 (j : Nat → rx_K) : rx_K := o_ld rx_isR 0 (o_getf 12 10 (o_ld rx_isR 0 (o_getf 12 14 (o_ld rx_isR 3 (o_ld rx_isR 0 (o_getf 12 8 (o_callV 3 0 FX0_judge (o_c1 rx_eq (vX12_make_190 j) (vX12_make_209 j)))))))))
set_option maxRecDepth 20000 in
theorem wX12_make_171 (hZ : zO b e D A X) (j : Nat → rx_K) (hj : ∀ k pc, [88][k]? = some pc → rx_OK (zV b e D A X) mX12_make 407 pc (j k)) : rx_OK (zV b e D A X) mX12_make 407 171 (vX12_make_171 j) := by
  unfold vX12_make_171
  refine s_aload_n hZ.1 dX12_make_171 rfl ?_
  refine yg12_10 dX12_make_172 zw1613 ?_
  refine s_aload_n hZ.1 dX12_make_175 rfl ?_
  refine yg12_14 dX12_make_176 zw1617 ?_
  refine s_aload_n hZ.1 dX12_make_179 rfl ?_
  refine s_aload_n hZ.1 dX12_make_180 rfl ?_
  refine yg12_8 dX12_make_181 zw1611 ?_
  refine s_callV hZ.1 (Met_X0_judge hZ) (Nat.le_of_ble_eq_true rfl) vy_X0_judge zcl0 zw2045 zw2046 (Or.inl zw2044) dX12_make_184 ?_
  exact s_if_ne dX12_make_187 (by decide) (wX12_make_209 hZ j hj) (wX12_make_190 hZ j hj)
noncomputable def vX12_make_152 (j : Nat → rx_K) : rx_K := o_ld rx_isR 0 (o_ld rx_isR 0 (o_getf 12 9 (o_getf 4 2 (o_ld rx_isR 0 (o_getf 12 9 (o_getf 4 3 (o_callV 2 12 FX12_faulted (o_ret1 rx_isI))))))))
set_option maxRecDepth 20000 in
theorem wX12_make_152 (hZ : zO b e D A X) (j : Nat → rx_K) (hj : ∀ k pc, [88][k]? = some pc → rx_OK (zV b e D A X) mX12_make 407 pc (j k)) : rx_OK (zV b e D A X) mX12_make 407 152 (vX12_make_152 j) := by
  unfold vX12_make_152
  refine s_aload_n hZ.1 dX12_make_152 rfl ?_
  refine s_aload_n hZ.1 dX12_make_153 rfl ?_
  refine yg12_9 dX12_make_154 zw1612 ?_
  refine yg4_2 dX12_make_157 zw641 ?_
  refine s_aload_n hZ.1 dX12_make_160 rfl ?_
  refine yg12_9 dX12_make_161 zw1612 ?_
  refine yg4_3 dX12_make_164 zw643 ?_
  refine s_callV hZ.1 (Met_X12_faulted hZ) (Nat.le_of_ble_eq_true rfl) vy_X12_faulted zcl12 zw1886 zw41 (Or.inl zw1884) dX12_make_167 ?_
  exact s_iret hZ.1 rfl dX12_make_170
noncomputable def vX12_make_130 (j : Nat → rx_K) : rx_K := o_ld rx_isR 0 (o_getf 12 14 (o_callV 0 11 FX11_settle (o_ld rx_isR 0 (o_getf 12 9 (o_ld rx_isR 0 (o_getf 12 14 (o_ld rx_isR 3 (o_callV 2 4 FX4_judge (o_c1 rx_eq (vX12_make_152 j) (vX12_make_171 j))))))))))
set_option maxRecDepth 20000 in
theorem wX12_make_130 (hZ : zO b e D A X) (j : Nat → rx_K) (hj : ∀ k pc, [88][k]? = some pc → rx_OK (zV b e D A X) mX12_make 407 pc (j k)) : rx_OK (zV b e D A X) mX12_make 407 130 (vX12_make_130 j) := by
  unfold vX12_make_130
  refine s_aload_n hZ.1 dX12_make_130 rfl ?_
  refine yg12_14 dX12_make_131 zw1617 ?_
  refine s_callV hZ.1 (Met_X11_settle hZ) (Nat.le_of_ble_eq_true rfl) vy_X11_settle zcl11 zw1570 zw1571 (Or.inl zw1569) dX12_make_134 ?_
  refine s_aload_n hZ.1 dX12_make_137 rfl ?_
  refine yg12_9 dX12_make_138 zw1612 ?_
  refine s_aload_n hZ.1 dX12_make_141 rfl ?_
  refine yg12_14 dX12_make_142 zw1617 ?_
  refine s_aload_n hZ.1 dX12_make_145 rfl ?_
  refine s_callV hZ.1 (Met_X4_judge hZ) (Nat.le_of_ble_eq_true rfl) vy_X4_judge zcl4 zw1889 zw1890 (Or.inl zw1888) dX12_make_146 ?_
  exact s_if_ne dX12_make_149 (by decide) (wX12_make_171 hZ j hj) (wX12_make_152 hZ j hj)
noncomputable def vX12_make_121 (j : Nat → rx_K) : rx_K := o_callV 1 11 FX11_enter (o_inc 4 (1) ((j 0)))
set_option maxRecDepth 20000 in
theorem wX12_make_121 (hZ : zO b e D A X) (j : Nat → rx_K) (hj : ∀ k pc, [88][k]? = some pc → rx_OK (zV b e D A X) mX12_make 407 pc (j k)) : rx_OK (zV b e D A X) mX12_make 407 121 (vX12_make_121 j) := by
  unfold vX12_make_121
  refine s_callV hZ.1 (Met_X11_enter hZ) (Nat.le_of_ble_eq_true rfl) vy_X11_enter zcl11 zw1566 zw1567 (Or.inl zw1565) dX12_make_121 ?_
  refine s_iinc hZ.1 dX12_make_124 (Nat.le_of_ble_eq_true rfl) ?_
  exact s_goto dX12_make_127 (by decide) (hj 0 88 rfl)
noncomputable def vX12_make_108 (j : Nat → rx_K) : rx_K := o_ld rx_isR 0 (o_ld rx_isI 4 (o_ld rx_isR 0 (o_getf 12 6 (o_ld rx_isI 4 (o_ald 0 (o_callV 2 12 FX12_buildOf ((vX12_make_121 j))))))))
set_option maxRecDepth 20000 in
theorem wX12_make_108 (hZ : zO b e D A X) (j : Nat → rx_K) (hj : ∀ k pc, [88][k]? = some pc → rx_OK (zV b e D A X) mX12_make 407 pc (j k)) : rx_OK (zV b e D A X) mX12_make 407 108 (vX12_make_108 j) := by
  unfold vX12_make_108
  refine s_aload_n hZ.1 dX12_make_108 rfl ?_
  refine s_iload hZ.1 dX12_make_109 ?_
  refine s_aload_n hZ.1 dX12_make_111 rfl ?_
  refine yg12_6 dX12_make_112 zw1609 ?_
  refine s_iload hZ.1 dX12_make_115 ?_
  refine s_iald (tt := 0) rfl dX12_make_117 ?_
  refine s_callV hZ.1 (Met_X12_buildOf hZ) (Nat.le_of_ble_eq_true rfl) vy_X12_buildOf zcl12 zw1559 zw1 (Or.inl zw1557) dX12_make_118 ?_
  exact (wX12_make_121 hZ j hj)
noncomputable def vX12_make_104 (j : Nat → rx_K) : rx_K := o_const 3 ((vX12_make_121 j))
set_option maxRecDepth 20000 in
theorem wX12_make_104 (hZ : zO b e D A X) (j : Nat → rx_K) (hj : ∀ k pc, [88][k]? = some pc → rx_OK (zV b e D A X) mX12_make 407 pc (j k)) : rx_OK (zV b e D A X) mX12_make 407 104 (vX12_make_104 j) := by
  unfold vX12_make_104
  refine s_null dX12_make_104 ?_
  exact s_goto dX12_make_105 (by decide) (wX12_make_121 hZ j hj)
noncomputable def vX12_make_94 (j : Nat → rx_K) : rx_K := o_ld rx_isR 0 (o_getf 12 14 (o_ld rx_isI 4 (o_ld rx_isI 1 (o_c2 rx_eq (vX12_make_104 j) (vX12_make_108 j)))))
set_option maxRecDepth 20000 in
theorem wX12_make_94 (hZ : zO b e D A X) (j : Nat → rx_K) (hj : ∀ k pc, [88][k]? = some pc → rx_OK (zV b e D A X) mX12_make 407 pc (j k)) : rx_OK (zV b e D A X) mX12_make 407 94 (vX12_make_94 j) := by
  unfold vX12_make_94
  refine s_aload_n hZ.1 dX12_make_94 rfl ?_
  refine yg12_14 dX12_make_95 zw1617 ?_
  refine s_iload hZ.1 dX12_make_98 ?_
  refine s_iload_n hZ.1 dX12_make_100 rfl ?_
  exact s_icmp_ne dX12_make_101 (by decide) (wX12_make_108 hZ j hj) (wX12_make_104 hZ j hj)
noncomputable def vX12_make_88 (j : Nat → rx_K) : rx_K := o_ld rx_isI 4 (o_const 40 (o_c2 rx_lt (vX12_make_94 j) (vX12_make_130 j)))
set_option maxRecDepth 20000 in
theorem wX12_make_88 (hZ : zO b e D A X) (j : Nat → rx_K) (hj : ∀ k pc, [88][k]? = some pc → rx_OK (zV b e D A X) mX12_make 407 pc (j k)) : rx_OK (zV b e D A X) mX12_make 407 88 (vX12_make_88 j) := by
  unfold vX12_make_88
  refine s_iload hZ.1 dX12_make_88 ?_
  refine s_iconst dX12_make_90 (by decide +kernel) ?_
  exact s_icmp_ge dX12_make_91 (by decide) (wX12_make_130 hZ j hj) (wX12_make_94 hZ j hj)
noncomputable def vX12_make_70 (j : Nat → rx_K) : rx_K := o_ld rx_isR 0 (o_getf 12 14 (o_callV 0 11 FX11_clear (o_ld rx_isR 0 (o_getf 12 14 (o_ld rx_isR 3 (o_callV 1 11 FX11_enter (o_const 0 (o_st rx_isI 4 ((vX12_make_88 j))))))))))
set_option maxRecDepth 20000 in
theorem wX12_make_70 (hZ : zO b e D A X) (j : Nat → rx_K) (hj : ∀ k pc, [88][k]? = some pc → rx_OK (zV b e D A X) mX12_make 407 pc (j k)) : rx_OK (zV b e D A X) mX12_make 407 70 (vX12_make_70 j) := by
  unfold vX12_make_70
  refine s_aload_n hZ.1 dX12_make_70 rfl ?_
  refine yg12_14 dX12_make_71 zw1617 ?_
  refine s_callV hZ.1 (Met_X11_clear hZ) (Nat.le_of_ble_eq_true rfl) vy_X11_clear zcl11 zw1554 zw1555 (Or.inl zw1553) dX12_make_74 ?_
  refine s_aload_n hZ.1 dX12_make_77 rfl ?_
  refine yg12_14 dX12_make_78 zw1617 ?_
  refine s_aload_n hZ.1 dX12_make_81 rfl ?_
  refine s_callV hZ.1 (Met_X11_enter hZ) (Nat.le_of_ble_eq_true rfl) vy_X11_enter zcl11 zw1566 zw1567 (Or.inl zw1565) dX12_make_82 ?_
  refine s_iconst dX12_make_85 (by decide +kernel) ?_
  refine s_istore hZ.1 dX12_make_86 (Nat.le_of_ble_eq_true rfl) ?_
  exact (wX12_make_88 hZ j hj)
noncomputable def vX12_make_51 (j : Nat → rx_K) : rx_K := o_ld rx_isR 0 (o_ld rx_isR 0 (o_getf 12 8 (o_getf 9 9 (o_ld rx_isR 0 (o_getf 12 8 (o_getf 9 10 (o_callV 2 12 FX12_faulted (o_ret1 rx_isI))))))))
set_option maxRecDepth 20000 in
theorem wX12_make_51 (hZ : zO b e D A X) (j : Nat → rx_K) (hj : ∀ k pc, [88][k]? = some pc → rx_OK (zV b e D A X) mX12_make 407 pc (j k)) : rx_OK (zV b e D A X) mX12_make 407 51 (vX12_make_51 j) := by
  unfold vX12_make_51
  refine s_aload_n hZ.1 dX12_make_51 rfl ?_
  refine s_aload_n hZ.1 dX12_make_52 rfl ?_
  refine yg12_8 dX12_make_53 zw1611 ?_
  refine yg9_9 dX12_make_56 zw594 ?_
  refine s_aload_n hZ.1 dX12_make_59 rfl ?_
  refine yg12_8 dX12_make_60 zw1611 ?_
  refine yg9_10 dX12_make_63 zw596 ?_
  refine s_callV hZ.1 (Met_X12_faulted hZ) (Nat.le_of_ble_eq_true rfl) vy_X12_faulted zcl12 zw1886 zw41 (Or.inl zw1884) dX12_make_66 ?_
  exact s_iret hZ.1 rfl dX12_make_69
noncomputable def vX12_make_20 (j : Nat → rx_K) : rx_K := o_ld rx_isR 0 (o_getf 12 1 (o_st rx_isI 2 (o_ld rx_isR 0 (o_const 0 (o_putf rx_isI 12 1 (o_ld rx_isR 0 (o_callV 0 12 FX12_unused (o_st rx_isR 3 (o_ld rx_isR 0 (o_getf 12 8 (o_ld rx_isR 3 (o_ld rx_isR 0 (o_getf 12 0 (o_ld rx_isI 2 (o_callV 3 9 FX9_read (o_c1 rx_eq (vX12_make_51 j) (vX12_make_70 j)))))))))))))))))
set_option maxRecDepth 20000 in
theorem wX12_make_20 (hZ : zO b e D A X) (j : Nat → rx_K) (hj : ∀ k pc, [88][k]? = some pc → rx_OK (zV b e D A X) mX12_make 407 pc (j k)) : rx_OK (zV b e D A X) mX12_make 407 20 (vX12_make_20 j) := by
  unfold vX12_make_20
  refine s_aload_n hZ.1 dX12_make_20 rfl ?_
  refine yg12_1 dX12_make_21 zw1604 ?_
  refine s_istore_n hZ.1 dX12_make_24 rfl (Nat.le_of_ble_eq_true rfl) ?_
  refine s_aload_n hZ.1 dX12_make_25 rfl ?_
  refine s_iconst dX12_make_26 (by decide +kernel) ?_
  refine yp12_1 hZ.1 dX12_make_27 zw1604 ?_
  refine s_aload_n hZ.1 dX12_make_30 rfl ?_
  refine s_callV hZ.1 (Met_X12_unused hZ) (Nat.le_of_ble_eq_true rfl) vy_X12_unused zcl12 zw1685 zw6 (Or.inl zw1683) dX12_make_31 ?_
  refine s_astore_n hZ.1 dX12_make_34 rfl (Nat.le_of_ble_eq_true rfl) ?_
  refine s_aload_n hZ.1 dX12_make_35 rfl ?_
  refine yg12_8 dX12_make_36 zw1611 ?_
  refine s_aload_n hZ.1 dX12_make_39 rfl ?_
  refine s_aload_n hZ.1 dX12_make_40 rfl ?_
  refine yg12_0 dX12_make_41 zw1603 ?_
  refine s_iload_n hZ.1 dX12_make_44 rfl ?_
  refine s_callV hZ.1 (Met_X9_read hZ) (Nat.le_of_ble_eq_true rfl) vy_X9_read zcl9 zw1717 zw1718 (Or.inl zw1716) dX12_make_45 ?_
  exact s_if_ne dX12_make_48 (by decide) (wX12_make_70 hZ j hj) (wX12_make_51 hZ j hj)
noncomputable def vX12_make_17 (j : Nat → rx_K) : rx_K := o_const 34359738344 (o_ret1 rx_isI)
set_option maxRecDepth 20000 in
theorem wX12_make_17 (hZ : zO b e D A X) (j : Nat → rx_K) (hj : ∀ k pc, [88][k]? = some pc → rx_OK (zV b e D A X) mX12_make 407 pc (j k)) : rx_OK (zV b e D A X) mX12_make 407 17 (vX12_make_17 j) := by
  unfold vX12_make_17
  refine s_bipush dX12_make_17 (by decide +kernel) ?_
  exact s_iret hZ.1 rfl dX12_make_19
noncomputable def vX12_make_9 (j : Nat → rx_K) : rx_K := o_ld rx_isR 0 (o_ld rx_isI 1 (o_callV 1 12 FX12_isFull (o_c1 rx_eq (vX12_make_20 j) (vX12_make_17 j))))
set_option maxRecDepth 20000 in
theorem wX12_make_9 (hZ : zO b e D A X) (j : Nat → rx_K) (hj : ∀ k pc, [88][k]? = some pc → rx_OK (zV b e D A X) mX12_make 407 pc (j k)) : rx_OK (zV b e D A X) mX12_make 407 9 (vX12_make_9 j) := by
  unfold vX12_make_9
  refine s_aload_n hZ.1 dX12_make_9 rfl ?_
  refine s_iload_n hZ.1 dX12_make_10 rfl ?_
  refine s_callV hZ.1 (Met_X12_isFull hZ) (Nat.le_of_ble_eq_true rfl) vy_X12_isFull zcl12 zw1714 zw7 (Or.inl zw1712) dX12_make_11 ?_
  exact s_if_eq dX12_make_14 (by decide) (wX12_make_20 hZ j hj) (wX12_make_17 hZ j hj)
noncomputable def vX12_make_7 (j : Nat → rx_K) : rx_K := o_const 34359738360 (o_ret1 rx_isI)
set_option maxRecDepth 20000 in
theorem wX12_make_7 (hZ : zO b e D A X) (j : Nat → rx_K) (hj : ∀ k pc, [88][k]? = some pc → rx_OK (zV b e D A X) mX12_make 407 pc (j k)) : rx_OK (zV b e D A X) mX12_make 407 7 (vX12_make_7 j) := by
  unfold vX12_make_7
  refine s_iconst dX12_make_7 (by decide +kernel) ?_
  exact s_iret hZ.1 rfl dX12_make_8
noncomputable def vX12_make_0 (j : Nat → rx_K) : rx_K := o_ld rx_isI 1 (o_callS 1 FX12_isLibrary (o_c1 rx_eq (vX12_make_7 j) (vX12_make_9 j)))
set_option maxRecDepth 20000 in
theorem wX12_make_0 (hZ : zO b e D A X) (j : Nat → rx_K) (hj : ∀ k pc, [88][k]? = some pc → rx_OK (zV b e D A X) mX12_make 407 pc (j k)) : rx_OK (zV b e D A X) mX12_make 407 0 (vX12_make_0 j) := by
  unfold vX12_make_0
  refine s_iload_n hZ.1 dX12_make_0 rfl ?_
  refine s_callS hZ.1 (Met_X12_isLibrary hZ) (Nat.le_of_ble_eq_true rfl) vy_X12_isLibrary zw1710 (Or.inl zw1709) dX12_make_1 ?_
  exact s_if_ne dX12_make_4 (by decide) (wX12_make_9 hZ j hj) (wX12_make_7 hZ j hj)
noncomputable def vhX12_make (j : Nat → rx_K) : List rx_K := [vX12_make_88 j]
theorem vlX12_make (hZ : zO b e D A X) : ∀ n k pc, [88][k]? = some pc → rx_OK (zV b e D A X) mX12_make 407 pc (rx_J (vhX12_make) n k) := rx_loop fun j hj k pc h => by
  match k, h with
  | 0, h =>
    have e9 := Option.some.inj (show some 88 = some pc from h)
    subst e9
    exact wX12_make_88 hZ j hj
  | _ + 1, h => exact absurd h (by simp)
noncomputable def FX12_make : List Nat → rx_H → Option (Nat × rx_H) := rx_ent 5 (vX12_make_0 (rx_J (vhX12_make) 4000000000))
theorem Met_X12_make (hZ : zO b e D A X) : rx_Met (zV b e D A X) 407 yX12_make mX12_make (FX12_make) := rx_entry hZ.1 (wX12_make_0 hZ _ (vlX12_make hZ 4000000000)) (by decide +kernel) rfl (fun h => by cases h)
abbrev mX12_place : rx_M := (RX12, cX12_place, 1, (some .int), false)
theorem vy_X12_place : rx_Y (zV b e D A X) yX12_place mX12_place 0 := ⟨zw2343, zw413, by decide, by decide +kernel, by decide +kernel, by decide +kernel⟩
noncomputable def vX12_place_0 : rx_K := o_ld rx_isR 0 (o_getf 12 12 (o_ret1 rx_isI))
set_option maxRecDepth 20000 in
theorem wX12_place_0 (hZ : zO b e D A X) : rx_OK (zV b e D A X) mX12_place 0 0 vX12_place_0 := by
  unfold vX12_place_0
  refine s_aload_n hZ.1 dX12_place_0 rfl ?_
  refine yg12_12 dX12_place_1 zw1615 ?_
  exact s_iret hZ.1 rfl dX12_place_4
noncomputable def FX12_place : List Nat → rx_H → Option (Nat × rx_H) := rx_ent 1 vX12_place_0
theorem Met_X12_place (hZ : zO b e D A X) : rx_Met (zV b e D A X) 0 yX12_place mX12_place (FX12_place) := rx_entry hZ.1 (wX12_place_0 hZ) (by decide +kernel) rfl (fun h => by cases h)
abbrev mX12_builds : rx_M := (RX12, cX12_builds, 2, (some .int), false)
theorem vy_X12_builds : rx_Y (zV b e D A X) yX12_builds mX12_builds 1 := ⟨zw2347, zw413, by decide, by decide +kernel, by decide +kernel, by decide +kernel⟩
noncomputable def vX12_builds_17 : rx_K := o_ret1 rx_isI
set_option maxRecDepth 20000 in
theorem wX12_builds_17 (hZ : zO b e D A X) : rx_OK (zV b e D A X) mX12_builds 1 17 vX12_builds_17 := by
  unfold vX12_builds_17
  exact s_iret hZ.1 rfl dX12_builds_17
noncomputable def vX12_builds_16 : rx_K := o_const 34359738360 (vX12_builds_17)
set_option maxRecDepth 20000 in
theorem wX12_builds_16 (hZ : zO b e D A X) : rx_OK (zV b e D A X) mX12_builds 1 16 vX12_builds_16 := by
  unfold vX12_builds_16
  refine s_iconst dX12_builds_16 (by decide +kernel) ?_
  exact (wX12_builds_17 hZ)
noncomputable def vX12_builds_7 : rx_K := o_ld rx_isR 0 (o_getf 12 5 (o_ld rx_isI 1 (o_ald 0 (vX12_builds_17))))
set_option maxRecDepth 20000 in
theorem wX12_builds_7 (hZ : zO b e D A X) : rx_OK (zV b e D A X) mX12_builds 1 7 vX12_builds_7 := by
  unfold vX12_builds_7
  refine s_aload_n hZ.1 dX12_builds_7 rfl ?_
  refine yg12_5 dX12_builds_8 zw1608 ?_
  refine s_iload_n hZ.1 dX12_builds_11 rfl ?_
  refine s_iald (tt := 0) rfl dX12_builds_12 ?_
  exact s_goto dX12_builds_13 (by decide) (wX12_builds_17 hZ)
noncomputable def vX12_builds_0 : rx_K := o_ld rx_isI 1 (o_callS 1 FX12_isLibrary (o_c1 rx_eq vX12_builds_16 vX12_builds_7))
set_option maxRecDepth 20000 in
theorem wX12_builds_0 (hZ : zO b e D A X) : rx_OK (zV b e D A X) mX12_builds 1 0 vX12_builds_0 := by
  unfold vX12_builds_0
  refine s_iload_n hZ.1 dX12_builds_0 rfl ?_
  refine s_callS hZ.1 (Met_X12_isLibrary hZ) (Nat.le_of_ble_eq_true rfl) vy_X12_isLibrary zw1710 (Or.inl zw1709) dX12_builds_1 ?_
  exact s_if_eq dX12_builds_4 (by decide) (wX12_builds_16 hZ) (wX12_builds_7 hZ)
noncomputable def FX12_builds : List Nat → rx_H → Option (Nat × rx_H) := rx_ent 2 vX12_builds_0
theorem Met_X12_builds (hZ : zO b e D A X) : rx_Met (zV b e D A X) 1 yX12_builds mX12_builds (FX12_builds) := rx_entry hZ.1 (wX12_builds_0 hZ) (by decide +kernel) rfl (fun h => by cases h)
abbrev mX12_renewWorld : rx_M := (RX12, cX12_renewWorld, 1, none, false)
theorem vy_X12_renewWorld : rx_Y (zV b e D A X) yX12_renewWorld mX12_renewWorld 0 := ⟨zw2355, zw413, by decide, by decide +kernel, by decide +kernel, by decide +kernel⟩
noncomputable def vX12_renewWorld_0 : rx_K := o_ld rx_isR 0 (o_ld rx_isR 0 (o_getf 12 13 (o_ld rx_isR 0 (o_getf 12 6 (o_callV 2 12 FX12_gather (o_ld rx_isR 0 (o_getf 12 20 (o_ld rx_isR 0 (o_getf 12 13 (o_callV 1 6 FX6_clear (o_ld rx_isR 0 (o_const 0 (o_putf rx_isI 12 18 (o_ret0))))))))))))))
set_option maxRecDepth 20000 in
theorem wX12_renewWorld_0 (hZ : zO b e D A X) : rx_OK (zV b e D A X) mX12_renewWorld 4 0 vX12_renewWorld_0 := by
  unfold vX12_renewWorld_0
  refine s_aload_n hZ.1 dX12_renewWorld_0 rfl ?_
  refine s_aload_n hZ.1 dX12_renewWorld_1 rfl ?_
  refine yg12_13 dX12_renewWorld_2 zw1616 ?_
  refine s_aload_n hZ.1 dX12_renewWorld_5 rfl ?_
  refine yg12_6 dX12_renewWorld_6 zw1609 ?_
  refine s_callV hZ.1 (Met_X12_gather hZ) (Nat.le_of_ble_eq_true rfl) vy_X12_gather zcl12 zw1551 zw0 (Or.inl zw1549) dX12_renewWorld_9 ?_
  refine s_aload_n hZ.1 dX12_renewWorld_12 rfl ?_
  refine yg12_20 dX12_renewWorld_13 zw1623 ?_
  refine s_aload_n hZ.1 dX12_renewWorld_16 rfl ?_
  refine yg12_13 dX12_renewWorld_17 zw1616 ?_
  refine s_callV hZ.1 (Met_X6_clear hZ) (Nat.le_of_ble_eq_true rfl) vy_X6_clear zcl6 zw1594 zw1595 (Or.inl zw1593) dX12_renewWorld_20 ?_
  refine s_aload_n hZ.1 dX12_renewWorld_23 rfl ?_
  refine s_iconst dX12_renewWorld_24 (by decide +kernel) ?_
  refine yp12_18 hZ.1 dX12_renewWorld_25 zw1621 ?_
  exact s_vret rfl dX12_renewWorld_28
noncomputable def FX12_renewWorld : List Nat → rx_H → Option (Nat × rx_H) := rx_ent 1 vX12_renewWorld_0
theorem Met_X12_renewWorld (hZ : zO b e D A X) : rx_Met (zV b e D A X) 4 yX12_renewWorld mX12_renewWorld (FX12_renewWorld) := rx_entry hZ.1 (wX12_renewWorld_0 hZ) (by decide +kernel) rfl (fun h => by cases h)
abbrev mX12_pick : rx_M := (RX12, cX12_pick, 4, (some .int), false)
theorem vy_X12_pick : rx_Y (zV b e D A X) yX12_pick mX12_pick 2 := ⟨zw2351, zw413, by decide, by decide +kernel, by decide +kernel, by decide +kernel⟩
noncomputable def vX12_pick_24 : rx_K := o_ld rx_isR 0 (o_getf 12 6 (o_ld rx_isI 1 (o_ald 0 (o_st rx_isI 3 (o_ld rx_isR 0 (o_getf 12 6 (o_ld rx_isI 1 (o_ld rx_isI 2 (o_ast 0 (fun v => v) rx_isI (o_ld rx_isR 0 (o_callV 0 12 FX12_renewWorld (o_ld rx_isI 3 (o_ret1 rx_isI)))))))))))))
set_option maxRecDepth 20000 in
theorem wX12_pick_24 (hZ : zO b e D A X) : rx_OK (zV b e D A X) mX12_pick 5 24 vX12_pick_24 := by
  unfold vX12_pick_24
  refine s_aload_n hZ.1 dX12_pick_24 rfl ?_
  refine yg12_6 dX12_pick_25 zw1609 ?_
  refine s_iload_n hZ.1 dX12_pick_28 rfl ?_
  refine s_iald (tt := 0) rfl dX12_pick_29 ?_
  refine s_istore_n hZ.1 dX12_pick_30 rfl (Nat.le_of_ble_eq_true rfl) ?_
  refine s_aload_n hZ.1 dX12_pick_31 rfl ?_
  refine yg12_6 dX12_pick_32 zw1609 ?_
  refine s_iload_n hZ.1 dX12_pick_35 rfl ?_
  refine s_iload_n hZ.1 dX12_pick_36 rfl ?_
  refine s_iast hZ.1 (tt := 0) rfl dX12_pick_37 ?_
  refine s_aload_n hZ.1 dX12_pick_38 rfl ?_
  refine s_callV hZ.1 (Met_X12_renewWorld hZ) (Nat.le_of_ble_eq_true rfl) vy_X12_renewWorld zcl12 zw2354 zw112 (Or.inl zw2352) dX12_pick_39 ?_
  refine s_iload_n hZ.1 dX12_pick_42 rfl ?_
  exact s_iret hZ.1 rfl dX12_pick_43
noncomputable def vX12_pick_22 : rx_K := o_const 34359738360 (o_ret1 rx_isI)
set_option maxRecDepth 20000 in
theorem wX12_pick_22 (hZ : zO b e D A X) : rx_OK (zV b e D A X) mX12_pick 5 22 vX12_pick_22 := by
  unfold vX12_pick_22
  refine s_iconst dX12_pick_22 (by decide +kernel) ?_
  exact s_iret hZ.1 rfl dX12_pick_23
noncomputable def vX12_pick_13 : rx_K := o_ld rx_isR 0 (o_ld rx_isI 1 (o_ld rx_isI 2 (o_callV 2 12 FX12_buildOf (o_nul vX12_pick_22 vX12_pick_24))))
set_option maxRecDepth 20000 in
theorem wX12_pick_13 (hZ : zO b e D A X) : rx_OK (zV b e D A X) mX12_pick 5 13 vX12_pick_13 := by
  unfold vX12_pick_13
  refine s_aload_n hZ.1 dX12_pick_13 rfl ?_
  refine s_iload_n hZ.1 dX12_pick_14 rfl ?_
  refine s_iload_n hZ.1 dX12_pick_15 rfl ?_
  refine s_callV hZ.1 (Met_X12_buildOf hZ) (Nat.le_of_ble_eq_true rfl) vy_X12_buildOf zcl12 zw1559 zw1 (Or.inl zw1557) dX12_pick_16 ?_
  exact s_ifnonnull dX12_pick_19 (by decide) (wX12_pick_24 hZ) (wX12_pick_22 hZ)
noncomputable def vX12_pick_7 : rx_K := o_ld rx_isI 2 (o_const 34359738352 (o_c2 rx_eq vX12_pick_24 vX12_pick_13))
set_option maxRecDepth 20000 in
theorem wX12_pick_7 (hZ : zO b e D A X) : rx_OK (zV b e D A X) mX12_pick 5 7 vX12_pick_7 := by
  unfold vX12_pick_7
  refine s_iload_n hZ.1 dX12_pick_7 rfl ?_
  refine s_bipush dX12_pick_8 (by decide +kernel) ?_
  exact s_icmp_eq dX12_pick_10 (by decide) (wX12_pick_24 hZ) (wX12_pick_13 hZ)
noncomputable def vX12_pick_0 : rx_K := o_ld rx_isI 1 (o_callS 1 FX12_isLibrary (o_c1 rx_eq vX12_pick_22 vX12_pick_7))
set_option maxRecDepth 20000 in
theorem wX12_pick_0 (hZ : zO b e D A X) : rx_OK (zV b e D A X) mX12_pick 5 0 vX12_pick_0 := by
  unfold vX12_pick_0
  refine s_iload_n hZ.1 dX12_pick_0 rfl ?_
  refine s_callS hZ.1 (Met_X12_isLibrary hZ) (Nat.le_of_ble_eq_true rfl) vy_X12_isLibrary zw1710 (Or.inl zw1709) dX12_pick_1 ?_
  exact s_if_eq dX12_pick_4 (by decide) (wX12_pick_22 hZ) (wX12_pick_7 hZ)
noncomputable def FX12_pick : List Nat → rx_H → Option (Nat × rx_H) := rx_ent 4 vX12_pick_0
theorem Met_X12_pick (hZ : zO b e D A X) : rx_Met (zV b e D A X) 5 yX12_pick mX12_pick (FX12_pick) := rx_entry hZ.1 (wX12_pick_0 hZ) (by decide +kernel) rfl (fun h => by cases h)
abbrev mX12_picked : rx_M := (RX12, cX12_picked, 2, (some .int), false)
theorem vy_X12_picked : rx_Y (zV b e D A X) yX12_picked mX12_picked 1 := ⟨zw2359, zw413, by decide, by decide +kernel, by decide +kernel, by decide +kernel⟩
noncomputable def vX12_picked_17 : rx_K := o_ret1 rx_isI
set_option maxRecDepth 20000 in
theorem wX12_picked_17 (hZ : zO b e D A X) : rx_OK (zV b e D A X) mX12_picked 1 17 vX12_picked_17 := by
  unfold vX12_picked_17
  exact s_iret hZ.1 rfl dX12_picked_17
noncomputable def vX12_picked_16 : rx_K := o_const 34359738360 (vX12_picked_17)
set_option maxRecDepth 20000 in
theorem wX12_picked_16 (hZ : zO b e D A X) : rx_OK (zV b e D A X) mX12_picked 1 16 vX12_picked_16 := by
  unfold vX12_picked_16
  refine s_iconst dX12_picked_16 (by decide +kernel) ?_
  exact (wX12_picked_17 hZ)
noncomputable def vX12_picked_7 : rx_K := o_ld rx_isR 0 (o_getf 12 6 (o_ld rx_isI 1 (o_ald 0 (vX12_picked_17))))
set_option maxRecDepth 20000 in
theorem wX12_picked_7 (hZ : zO b e D A X) : rx_OK (zV b e D A X) mX12_picked 1 7 vX12_picked_7 := by
  unfold vX12_picked_7
  refine s_aload_n hZ.1 dX12_picked_7 rfl ?_
  refine yg12_6 dX12_picked_8 zw1609 ?_
  refine s_iload_n hZ.1 dX12_picked_11 rfl ?_
  refine s_iald (tt := 0) rfl dX12_picked_12 ?_
  exact s_goto dX12_picked_13 (by decide) (wX12_picked_17 hZ)
noncomputable def vX12_picked_0 : rx_K := o_ld rx_isI 1 (o_callS 1 FX12_isLibrary (o_c1 rx_eq vX12_picked_16 vX12_picked_7))
set_option maxRecDepth 20000 in
theorem wX12_picked_0 (hZ : zO b e D A X) : rx_OK (zV b e D A X) mX12_picked 1 0 vX12_picked_0 := by
  unfold vX12_picked_0
  refine s_iload_n hZ.1 dX12_picked_0 rfl ?_
  refine s_callS hZ.1 (Met_X12_isLibrary hZ) (Nat.le_of_ble_eq_true rfl) vy_X12_isLibrary zw1710 (Or.inl zw1709) dX12_picked_1 ?_
  exact s_if_eq dX12_picked_4 (by decide) (wX12_picked_16 hZ) (wX12_picked_7 hZ)
noncomputable def FX12_picked : List Nat → rx_H → Option (Nat × rx_H) := rx_ent 2 vX12_picked_0
theorem Met_X12_picked (hZ : zO b e D A X) : rx_Met (zV b e D A X) 1 yX12_picked mX12_picked (FX12_picked) := rx_entry hZ.1 (wX12_picked_0 hZ) (by decide +kernel) rfl (fun h => by cases h)
abbrev mX12_classes : rx_M := (RX12, cX12_classes, 4, (some .int), false)
theorem vy_X12_classes : rx_Y (zV b e D A X) yX12_classes mX12_classes 2 := ⟨zw2363, zw413, by decide, by decide +kernel, by decide +kernel, by decide +kernel⟩
noncomputable def vX12_classes_19 : rx_K := o_ret1 rx_isI
set_option maxRecDepth 20000 in
theorem wX12_classes_19 (hZ : zO b e D A X) : rx_OK (zV b e D A X) mX12_classes 2 19 vX12_classes_19 := by
  unfold vX12_classes_19
  exact s_iret hZ.1 rfl dX12_classes_19
noncomputable def vX12_classes_15 : rx_K := o_ld rx_isR 3 (o_getf 1 3 (vX12_classes_19))
set_option maxRecDepth 20000 in
theorem wX12_classes_15 (hZ : zO b e D A X) : rx_OK (zV b e D A X) mX12_classes 2 15 vX12_classes_15 := by
  unfold vX12_classes_15
  refine s_aload_n hZ.1 dX12_classes_15 rfl ?_
  refine yg1_3 dX12_classes_16 zw1126 ?_
  exact (wX12_classes_19 hZ)
noncomputable def vX12_classes_11 : rx_K := o_const 34359738360 (vX12_classes_19)
set_option maxRecDepth 20000 in
theorem wX12_classes_11 (hZ : zO b e D A X) : rx_OK (zV b e D A X) mX12_classes 2 11 vX12_classes_11 := by
  unfold vX12_classes_11
  refine s_iconst dX12_classes_11 (by decide +kernel) ?_
  exact s_goto dX12_classes_12 (by decide) (wX12_classes_19 hZ)
noncomputable def vX12_classes_0 : rx_K := o_ld rx_isR 0 (o_ld rx_isI 1 (o_ld rx_isI 2 (o_callV 2 12 FX12_buildOf (o_st rx_isR 3 (o_ld rx_isR 3 (o_nul vX12_classes_11 vX12_classes_15))))))
set_option maxRecDepth 20000 in
theorem wX12_classes_0 (hZ : zO b e D A X) : rx_OK (zV b e D A X) mX12_classes 2 0 vX12_classes_0 := by
  unfold vX12_classes_0
  refine s_aload_n hZ.1 dX12_classes_0 rfl ?_
  refine s_iload_n hZ.1 dX12_classes_1 rfl ?_
  refine s_iload_n hZ.1 dX12_classes_2 rfl ?_
  refine s_callV hZ.1 (Met_X12_buildOf hZ) (Nat.le_of_ble_eq_true rfl) vy_X12_buildOf zcl12 zw1559 zw1 (Or.inl zw1557) dX12_classes_3 ?_
  refine s_astore_n hZ.1 dX12_classes_6 rfl (Nat.le_of_ble_eq_true rfl) ?_
  refine s_aload_n hZ.1 dX12_classes_7 rfl ?_
  exact s_ifnonnull dX12_classes_8 (by decide) (wX12_classes_15 hZ) (wX12_classes_11 hZ)
noncomputable def FX12_classes : List Nat → rx_H → Option (Nat × rx_H) := rx_ent 4 vX12_classes_0
theorem Met_X12_classes (hZ : zO b e D A X) : rx_Met (zV b e D A X) 2 yX12_classes mX12_classes (FX12_classes) := rx_entry hZ.1 (wX12_classes_0 hZ) (by decide +kernel) rfl (fun h => by cases h)
abbrev mX12_members : rx_M := (RX12, cX12_members, 5, (some .int), false)
theorem vy_X12_members : rx_Y (zV b e D A X) yX12_members mX12_members 3 := ⟨zw2367, zw413, by decide, by decide +kernel, by decide +kernel, by decide +kernel⟩
noncomputable def vX12_members_23 : rx_K := o_ret1 rx_isI
set_option maxRecDepth 20000 in
theorem wX12_members_23 (hZ : zO b e D A X) : rx_OK (zV b e D A X) mX12_members 3 23 vX12_members_23 := by
  unfold vX12_members_23
  exact s_iret hZ.1 rfl dX12_members_23
noncomputable def vX12_members_18 : rx_K := o_ld rx_isR 4 (o_getf 10 15 (vX12_members_23))
set_option maxRecDepth 20000 in
theorem wX12_members_18 (hZ : zO b e D A X) : rx_OK (zV b e D A X) mX12_members 3 18 vX12_members_18 := by
  unfold vX12_members_18
  refine s_aload hZ.1 dX12_members_18 ?_
  refine yg10_15 dX12_members_20 zw873 ?_
  exact (wX12_members_23 hZ)
noncomputable def vX12_members_14 : rx_K := o_const 34359738360 (vX12_members_23)
set_option maxRecDepth 20000 in
theorem wX12_members_14 (hZ : zO b e D A X) : rx_OK (zV b e D A X) mX12_members 3 14 vX12_members_14 := by
  unfold vX12_members_14
  refine s_iconst dX12_members_14 (by decide +kernel) ?_
  exact s_goto dX12_members_15 (by decide) (wX12_members_23 hZ)
noncomputable def vX12_members_0 : rx_K := o_ld rx_isR 0 (o_ld rx_isI 1 (o_ld rx_isI 2 (o_ld rx_isI 3 (o_callV 3 12 FX12_rowOf (o_st rx_isR 4 (o_ld rx_isR 4 (o_nul vX12_members_14 vX12_members_18)))))))
set_option maxRecDepth 20000 in
theorem wX12_members_0 (hZ : zO b e D A X) : rx_OK (zV b e D A X) mX12_members 3 0 vX12_members_0 := by
  unfold vX12_members_0
  refine s_aload_n hZ.1 dX12_members_0 rfl ?_
  refine s_iload_n hZ.1 dX12_members_1 rfl ?_
  refine s_iload_n hZ.1 dX12_members_2 rfl ?_
  refine s_iload_n hZ.1 dX12_members_3 rfl ?_
  refine s_callV hZ.1 (Met_X12_rowOf hZ) (Nat.le_of_ble_eq_true rfl) vy_X12_rowOf zcl12 zw2370 zw113 (Or.inl zw2368) dX12_members_4 ?_
  refine s_astore hZ.1 dX12_members_7 (Nat.le_of_ble_eq_true rfl) ?_
  refine s_aload hZ.1 dX12_members_9 ?_
  exact s_ifnonnull dX12_members_11 (by decide) (wX12_members_18 hZ) (wX12_members_14 hZ)
noncomputable def FX12_members : List Nat → rx_H → Option (Nat × rx_H) := rx_ent 5 vX12_members_0
theorem Met_X12_members (hZ : zO b e D A X) : rx_Met (zV b e D A X) 3 yX12_members mX12_members (FX12_members) := rx_entry hZ.1 (wX12_members_0 hZ) (by decide +kernel) rfl (fun h => by cases h)
abbrev mX12_tellByte : rx_M := (RX12, cX12_tellByte, 2, none, false)
theorem vy_X12_tellByte : rx_Y (zV b e D A X) yX12_tellByte mX12_tellByte 1 := ⟨zw2391, zw413, by decide, by decide +kernel, by decide +kernel, by decide +kernel⟩
noncomputable def vX12_tellByte_31 : rx_K := o_ret0
set_option maxRecDepth 20000 in
theorem wX12_tellByte_31 (hZ : zO b e D A X) : rx_OK (zV b e D A X) mX12_tellByte 0 31 vX12_tellByte_31 := by
  unfold vX12_tellByte_31
  exact s_vret rfl dX12_tellByte_31
noncomputable def vX12_tellByte_10 : rx_K := o_ld rx_isR 0 (o_getf 12 2 (o_ld rx_isR 0 (o_getf 12 3 (o_ld rx_isI 1 (o_ui (fun x => x.toInt8.toInt32) (o_ast 2 rx_nb rx_isB (o_ld rx_isR 0 (o_dup (o_getf 12 3 (o_const 8 (o_bi (fun x y => x + y) (o_putf rx_isI 12 3 (vX12_tellByte_31)))))))))))))
set_option maxRecDepth 20000 in
theorem wX12_tellByte_10 (hZ : zO b e D A X) : rx_OK (zV b e D A X) mX12_tellByte 0 10 vX12_tellByte_10 := by
  unfold vX12_tellByte_10
  refine s_aload_n hZ.1 dX12_tellByte_10 rfl ?_
  refine yg12_2 dX12_tellByte_11 zw1605 ?_
  refine s_aload_n hZ.1 dX12_tellByte_14 rfl ?_
  refine yg12_3 dX12_tellByte_15 zw1606 ?_
  refine s_iload_n hZ.1 dX12_tellByte_18 rfl ?_
  refine s_i2b dX12_tellByte_19 ?_
  refine s_bast (tt := 2) rfl dX12_tellByte_20 ?_
  refine s_aload_n hZ.1 dX12_tellByte_21 rfl ?_
  refine s_dup hZ.1 dX12_tellByte_22 ?_
  refine yg12_3 dX12_tellByte_23 zw1606 ?_
  refine s_iconst dX12_tellByte_26 (by decide +kernel) ?_
  refine s_iadd dX12_tellByte_27 ?_
  refine yp12_3 hZ.1 dX12_tellByte_28 zw1606 ?_
  exact (wX12_tellByte_31 hZ)
noncomputable def vX12_tellByte_0 : rx_K := o_ld rx_isR 0 (o_getf 12 3 (o_const 4800 (o_c2 rx_lt vX12_tellByte_10 vX12_tellByte_31)))
set_option maxRecDepth 20000 in
theorem wX12_tellByte_0 (hZ : zO b e D A X) : rx_OK (zV b e D A X) mX12_tellByte 0 0 vX12_tellByte_0 := by
  unfold vX12_tellByte_0
  refine s_aload_n hZ.1 dX12_tellByte_0 rfl ?_
  refine yg12_3 dX12_tellByte_1 zw1606 ?_
  refine s_sipush dX12_tellByte_4 (by decide +kernel) ?_
  exact s_icmp_ge dX12_tellByte_7 (by decide) (wX12_tellByte_31 hZ) (wX12_tellByte_10 hZ)
noncomputable def FX12_tellByte : List Nat → rx_H → Option (Nat × rx_H) := rx_ent 2 vX12_tellByte_0
theorem Met_X12_tellByte (hZ : zO b e D A X) : rx_Met (zV b e D A X) 0 yX12_tellByte mX12_tellByte (FX12_tellByte) := rx_entry hZ.1 (wX12_tellByte_0 hZ) (by decide +kernel) rfl (fun h => by cases h)
abbrev mX12_tellText : rx_M := (RX12, cX12_tellText, 3, none, false)
theorem vy_X12_tellText : rx_Y (zV b e D A X) yX12_tellText mX12_tellText 1 := ⟨zw2385, zw413, by decide, by decide +kernel, by decide +kernel, by decide +kernel⟩
noncomputable def vX12_tellText_25 (j : Nat → rx_K) : rx_K := o_ret0
set_option maxRecDepth 20000 in
theorem wX12_tellText_25 (hZ : zO b e D A X) (j : Nat → rx_K) (hj : ∀ k pc, [2][k]? = some pc → rx_OK (zV b e D A X) mX12_tellText 4 pc (j k)) : rx_OK (zV b e D A X) mX12_tellText 4 25 (vX12_tellText_25 j) := by
  unfold vX12_tellText_25
  exact s_vret rfl dX12_tellText_25
noncomputable def vX12_tellText_16 (j : Nat → rx_K) : rx_K := o_callV 1 12 FX12_tellByte (o_inc 2 (1) ((j 0)))
set_option maxRecDepth 20000 in
theorem wX12_tellText_16 (hZ : zO b e D A X) (j : Nat → rx_K) (hj : ∀ k pc, [2][k]? = some pc → rx_OK (zV b e D A X) mX12_tellText 4 pc (j k)) : rx_OK (zV b e D A X) mX12_tellText 4 16 (vX12_tellText_16 j) := by
  unfold vX12_tellText_16
  refine s_callV hZ.1 (Met_X12_tellByte hZ) (Nat.le_of_ble_eq_true rfl) vy_X12_tellByte zcl12 zw2390 zw116 (Or.inl zw2388) dX12_tellText_16 ?_
  refine s_iinc hZ.1 dX12_tellText_19 (Nat.le_of_ble_eq_true rfl) ?_
  exact s_goto dX12_tellText_22 (by decide) (hj 0 2 rfl)
noncomputable def vX12_tellText_10 (j : Nat → rx_K) : rx_K := o_ld rx_isR 0 (o_ld rx_isR 1 (o_ld rx_isI 2 (o_alt (zqn 1 6) (o_callX 1 6 FJ0_charAt_5068e ((vX12_tellText_16 j))) (o_alt (zqn 1 8) (o_callX 1 8 FJ0_charAt_5068e ((vX12_tellText_16 j))) (o_alt (zqn 1 10) (o_callX 1 10 FJ0_charAt_5068e ((vX12_tellText_16 j))) (o_alt (zqn 1 12) (o_callX 1 12 FJ0_charAt_5068e ((vX12_tellText_16 j))) (o_alt (zqn 1 14) (o_callX 1 14 FJ0_charAt_5068e ((vX12_tellText_16 j))) (o_alt (zqn 1 16) (o_callX 1 16 FJ0_charAt_5068e ((vX12_tellText_16 j))) (o_alt (zqn 1 18) (o_callX 1 18 FJ0_charAt_5068e ((vX12_tellText_16 j))) (o_alt (zqn 1 20) (o_callX 1 20 FJ0_charAt_5068e ((vX12_tellText_16 j))) (o_alt (zqn 1 22) (o_callX 1 22 FJ0_charAt_5068e ((vX12_tellText_16 j))) (o_alt (zqn 1 24) (o_callX 1 24 FJ0_charAt_5068e ((vX12_tellText_16 j))) (o_alt (zqn 1 26) (o_callX 1 26 FJ0_charAt_5068e ((vX12_tellText_16 j))) (o_alt (zqn 1 28) (o_callX 1 28 FJ0_charAt_5068e ((vX12_tellText_16 j))) (o_alt (zqn 1 30) (o_callX 1 30 FJ0_charAt_5068e ((vX12_tellText_16 j))) (o_alt (zqn 1 32) (o_callX 1 32 FJ0_charAt_5068e ((vX12_tellText_16 j))) (o_alt (zqn 1 34) (o_callX 1 34 FJ0_charAt_5068e ((vX12_tellText_16 j))) (o_alt (zqn 1 36) (o_callX 1 36 FJ0_charAt_5068e ((vX12_tellText_16 j))) (o_alt (zqn 1 38) (o_callX 1 38 FJ0_charAt_5068e ((vX12_tellText_16 j))) (o_alt (zqn 1 40) (o_callX 1 40 FJ0_charAt_5068e ((vX12_tellText_16 j))) (o_alt (zqn 1 42) (o_callX 1 42 FJ0_charAt_5068e ((vX12_tellText_16 j))) (o_alt (zqn 1 44) (o_callX 1 44 FJ0_charAt_5068e ((vX12_tellText_16 j))) (o_alt (zqn 1 46) (o_callX 1 46 FJ0_charAt_5068e ((vX12_tellText_16 j))) (o_alt (zqn 1 48) (o_callX 1 48 FJ0_charAt_5068e ((vX12_tellText_16 j))) (o_alt (zqn 1 50) (o_callX 1 50 FJ0_charAt_5068e ((vX12_tellText_16 j))) (o_alt (zqn 1 52) (o_callX 1 52 FJ0_charAt_5068e ((vX12_tellText_16 j))) (o_alt (zqn 1 54) (o_callX 1 54 FJ0_charAt_5068e ((vX12_tellText_16 j))) (o_alt (zqn 1 56) (o_callX 1 56 FJ0_charAt_5068e ((vX12_tellText_16 j))) (o_alt (zqn 1 58) (o_callX 1 58 FJ0_charAt_5068e ((vX12_tellText_16 j))) (o_alt (zqn 1 60) (o_callX 1 60 FJ0_charAt_5068e ((vX12_tellText_16 j))) (o_alt (zqn 1 62) (o_callX 1 62 FJ0_charAt_5068e ((vX12_tellText_16 j))) (o_alt (zqn 1 64) (o_callX 1 64 FJ0_charAt_5068e ((vX12_tellText_16 j))) (o_alt (zqn 1 66) (o_callX 1 66 FJ0_charAt_5068e ((vX12_tellText_16 j))) (o_alt (zqn 1 68) (o_callX 1 68 FJ0_charAt_5068e ((vX12_tellText_16 j))) (o_alt (zqn 1 70) (o_callX 1 70 FJ0_charAt_5068e ((vX12_tellText_16 j))) (o_alt (zqn 1 72) (o_callX 1 72 FJ0_charAt_5068e ((vX12_tellText_16 j))) (o_alt (zqn 1 74) (o_callX 1 74 FJ0_charAt_5068e ((vX12_tellText_16 j))) (o_alt (zqn 1 76) (o_callX 1 76 FJ0_charAt_5068e ((vX12_tellText_16 j))) (o_alt (zqn 1 78) (o_callX 1 78 FJ0_charAt_5068e ((vX12_tellText_16 j))) (o_alt (zqn 1 80) (o_callX 1 80 FJ0_charAt_5068e ((vX12_tellText_16 j))) (o_alt (zqn 1 82) (o_callX 1 82 FJ0_charAt_5068e ((vX12_tellText_16 j))) (o_alt (zqn 1 84) (o_callX 1 84 FJ0_charAt_5068e ((vX12_tellText_16 j))) (o_alt (zqn 1 86) (o_callX 1 86 FJ0_charAt_5068e ((vX12_tellText_16 j))) (o_alt (zqn 1 88) (o_callX 1 88 FJ0_charAt_5068e ((vX12_tellText_16 j))) (o_alt (zqn 1 90) (o_callX 1 90 FJ0_charAt_5068e ((vX12_tellText_16 j))) (o_alt (zqn 1 92) (o_callX 1 92 FJ0_charAt_5068e ((vX12_tellText_16 j))) (o_alt (zqn 1 94) (o_callX 1 94 FJ0_charAt_5068e ((vX12_tellText_16 j))) (o_alt (zqn 1 96) (o_callX 1 96 FJ0_charAt_5068e ((vX12_tellText_16 j))) (o_alt (zqn 1 98) (o_callX 1 98 FJ0_charAt_5068e ((vX12_tellText_16 j))) (o_alt (zqn 1 100) (o_callX 1 100 FJ0_charAt_5068e ((vX12_tellText_16 j))) (o_alt (zqn 1 102) (o_callX 1 102 FJ0_charAt_5068e ((vX12_tellText_16 j))) (o_alt (zqn 1 104) (o_callX 1 104 FJ0_charAt_5068e ((vX12_tellText_16 j))) (o_alt (zqn 1 106) (o_callX 1 106 FJ0_charAt_5068e ((vX12_tellText_16 j))) (o_alt (zqn 1 108) (o_callX 1 108 FJ0_charAt_5068e ((vX12_tellText_16 j))) (o_alt (zqn 1 110) (o_callX 1 110 FJ0_charAt_5068e ((vX12_tellText_16 j))) (o_alt (zqn 1 112) (o_callX 1 112 FJ0_charAt_5068e ((vX12_tellText_16 j))) (o_alt (zqn 1 114) (o_callX 1 114 FJ0_charAt_5068e ((vX12_tellText_16 j))) (o_alt (zqn 1 116) (o_callX 1 116 FJ0_charAt_5068e ((vX12_tellText_16 j))) (o_alt (zqn 1 118) (o_callX 1 118 FJ0_charAt_5068e ((vX12_tellText_16 j))) (o_alt (zqn 1 120) (o_callX 1 120 FJ0_charAt_5068e ((vX12_tellText_16 j))) (o_alt (zqn 1 122) (o_callX 1 122 FJ0_charAt_5068e ((vX12_tellText_16 j))) (o_alt (zqn 1 124) (o_callX 1 124 FJ0_charAt_5068e ((vX12_tellText_16 j))) (o_alt (zqn 1 126) (o_callX 1 126 FJ0_charAt_5068e ((vX12_tellText_16 j))) (o_alt (zqn 1 128) (o_callX 1 128 FJ0_charAt_5068e ((vX12_tellText_16 j))) (o_alt (zqn 1 130) (o_callX 1 130 FJ0_charAt_5068e ((vX12_tellText_16 j))) (o_alt (zqn 1 132) (o_callX 1 132 FJ0_charAt_5068e ((vX12_tellText_16 j))) (o_alt (zqn 1 134) (o_callX 1 134 FJ0_charAt_5068e ((vX12_tellText_16 j))) (o_alt (zqn 1 136) (o_callX 1 136 FJ0_charAt_5068e ((vX12_tellText_16 j))) (o_alt (zqn 1 138) (o_callX 1 138 FJ0_charAt_5068e ((vX12_tellText_16 j))) (o_alt (zqn 1 140) (o_callX 1 140 FJ0_charAt_5068e ((vX12_tellText_16 j))) (o_alt (zqn 1 142) (o_callX 1 142 FJ0_charAt_5068e ((vX12_tellText_16 j))) (o_alt (zqn 1 144) (o_callX 1 144 FJ0_charAt_5068e ((vX12_tellText_16 j))) (o_alt (zqn 1 146) (o_callX 1 146 FJ0_charAt_5068e ((vX12_tellText_16 j))) (o_alt (zqn 1 148) (o_callX 1 148 FJ0_charAt_5068e ((vX12_tellText_16 j))) (o_alt (zqn 1 150) (o_callX 1 150 FJ0_charAt_5068e ((vX12_tellText_16 j))) (o_alt (zqn 1 152) (o_callX 1 152 FJ0_charAt_5068e ((vX12_tellText_16 j))) (o_alt (zqn 1 154) (o_callX 1 154 FJ0_charAt_5068e ((vX12_tellText_16 j))) (o_alt (zqn 1 156) (o_callX 1 156 FJ0_charAt_5068e ((vX12_tellText_16 j))) (o_alt (zqn 1 158) (o_callX 1 158 FJ0_charAt_5068e ((vX12_tellText_16 j))) (o_none))))))))))))))))))))))))))))))))))))))))))))))))))))))))))))))))))))))))))))))))
set_option maxRecDepth 20000 in
theorem wX12_tellText_10 (hZ : zO b e D A X) (j : Nat → rx_K) (hj : ∀ k pc, [2][k]? = some pc → rx_OK (zV b e D A X) mX12_tellText 4 pc (j k)) : rx_OK (zV b e D A X) mX12_tellText 4 10 (vX12_tellText_10 j) := by
  unfold vX12_tellText_10
  refine s_aload_n hZ.1 dX12_tellText_10 rfl ?_
  refine s_aload_n hZ.1 dX12_tellText_11 rfl ?_
  refine s_iload_n hZ.1 dX12_tellText_12 rfl ?_
  exact (s_alt (s_callX hZ.1 (Met_J0_charAt_5068e hZ) (Nat.le_of_ble_eq_true rfl) vy_J0_charAt_5068e (zo_O6 hZ) zw541 zw542 zw2387 dX12_tellText_13 (wX12_tellText_16 hZ j hj)) (s_alt (s_callX hZ.1 (Met_J0_charAt_5068e hZ) (Nat.le_of_ble_eq_true rfl) vy_J0_charAt_5068e (zo_O8 hZ) zw541 zw542 zw2387 dX12_tellText_13 (wX12_tellText_16 hZ j hj)) (s_alt (s_callX hZ.1 (Met_J0_charAt_5068e hZ) (Nat.le_of_ble_eq_true rfl) vy_J0_charAt_5068e (zo_O10 hZ) zw541 zw542 zw2387 dX12_tellText_13 (wX12_tellText_16 hZ j hj)) (s_alt (s_callX hZ.1 (Met_J0_charAt_5068e hZ) (Nat.le_of_ble_eq_true rfl) vy_J0_charAt_5068e (zo_O12 hZ) zw541 zw542 zw2387 dX12_tellText_13 (wX12_tellText_16 hZ j hj)) (s_alt (s_callX hZ.1 (Met_J0_charAt_5068e hZ) (Nat.le_of_ble_eq_true rfl) vy_J0_charAt_5068e (zo_O14 hZ) zw541 zw542 zw2387 dX12_tellText_13 (wX12_tellText_16 hZ j hj)) (s_alt (s_callX hZ.1 (Met_J0_charAt_5068e hZ) (Nat.le_of_ble_eq_true rfl) vy_J0_charAt_5068e (zo_O16 hZ) zw541 zw542 zw2387 dX12_tellText_13 (wX12_tellText_16 hZ j hj)) (s_alt (s_callX hZ.1 (Met_J0_charAt_5068e hZ) (Nat.le_of_ble_eq_true rfl) vy_J0_charAt_5068e (zo_O18 hZ) zw541 zw542 zw2387 dX12_tellText_13 (wX12_tellText_16 hZ j hj)) (s_alt (s_callX hZ.1 (Met_J0_charAt_5068e hZ) (Nat.le_of_ble_eq_true rfl) vy_J0_charAt_5068e (zo_O20 hZ) zw541 zw542 zw2387 dX12_tellText_13 (wX12_tellText_16 hZ j hj)) (s_alt (s_callX hZ.1 (Met_J0_charAt_5068e hZ) (Nat.le_of_ble_eq_true rfl) vy_J0_charAt_5068e (zo_O22 hZ) zw541 zw542 zw2387 dX12_tellText_13 (wX12_tellText_16 hZ j hj)) (s_alt (s_callX hZ.1 (Met_J0_charAt_5068e hZ) (Nat.le_of_ble_eq_true rfl) vy_J0_charAt_5068e (zo_O24 hZ) zw541 zw542 zw2387 dX12_tellText_13 (wX12_tellText_16 hZ j hj)) (s_alt (s_callX hZ.1 (Met_J0_charAt_5068e hZ) (Nat.le_of_ble_eq_true rfl) vy_J0_charAt_5068e (zo_O26 hZ) zw541 zw542 zw2387 dX12_tellText_13 (wX12_tellText_16 hZ j hj)) (s_alt (s_callX hZ.1 (Met_J0_charAt_5068e hZ) (Nat.le_of_ble_eq_true rfl) vy_J0_charAt_5068e (zo_O28 hZ) zw541 zw542 zw2387 dX12_tellText_13 (wX12_tellText_16 hZ j hj)) (s_alt (s_callX hZ.1 (Met_J0_charAt_5068e hZ) (Nat.le_of_ble_eq_true rfl) vy_J0_charAt_5068e (zo_O30 hZ) zw541 zw542 zw2387 dX12_tellText_13 (wX12_tellText_16 hZ j hj)) (s_alt (s_callX hZ.1 (Met_J0_charAt_5068e hZ) (Nat.le_of_ble_eq_true rfl) vy_J0_charAt_5068e (zo_O32 hZ) zw541 zw542 zw2387 dX12_tellText_13 (wX12_tellText_16 hZ j hj)) (s_alt (s_callX hZ.1 (Met_J0_charAt_5068e hZ) (Nat.le_of_ble_eq_true rfl) vy_J0_charAt_5068e (zo_O34 hZ) zw541 zw542 zw2387 dX12_tellText_13 (wX12_tellText_16 hZ j hj)) (s_alt (s_callX hZ.1 (Met_J0_charAt_5068e hZ) (Nat.le_of_ble_eq_true rfl) vy_J0_charAt_5068e (zo_O36 hZ) zw541 zw542 zw2387 dX12_tellText_13 (wX12_tellText_16 hZ j hj)) (s_alt (s_callX hZ.1 (Met_J0_charAt_5068e hZ) (Nat.le_of_ble_eq_true rfl) vy_J0_charAt_5068e (zo_O38 hZ) zw541 zw542 zw2387 dX12_tellText_13 (wX12_tellText_16 hZ j hj)) (s_alt (s_callX hZ.1 (Met_J0_charAt_5068e hZ) (Nat.le_of_ble_eq_true rfl) vy_J0_charAt_5068e (zo_O40 hZ) zw541 zw542 zw2387 dX12_tellText_13 (wX12_tellText_16 hZ j hj)) (s_alt (s_callX hZ.1 (Met_J0_charAt_5068e hZ) (Nat.le_of_ble_eq_true rfl) vy_J0_charAt_5068e (zo_O42 hZ) zw541 zw542 zw2387 dX12_tellText_13 (wX12_tellText_16 hZ j hj)) (s_alt (s_callX hZ.1 (Met_J0_charAt_5068e hZ) (Nat.le_of_ble_eq_true rfl) vy_J0_charAt_5068e (zo_O44 hZ) zw541 zw542 zw2387 dX12_tellText_13 (wX12_tellText_16 hZ j hj)) (s_alt (s_callX hZ.1 (Met_J0_charAt_5068e hZ) (Nat.le_of_ble_eq_true rfl) vy_J0_charAt_5068e (zo_O46 hZ) zw541 zw542 zw2387 dX12_tellText_13 (wX12_tellText_16 hZ j hj)) (s_alt (s_callX hZ.1 (Met_J0_charAt_5068e hZ) (Nat.le_of_ble_eq_true rfl) vy_J0_charAt_5068e (zo_O48 hZ) zw541 zw542 zw2387 dX12_tellText_13 (wX12_tellText_16 hZ j hj)) (s_alt (s_callX hZ.1 (Met_J0_charAt_5068e hZ) (Nat.le_of_ble_eq_true rfl) vy_J0_charAt_5068e (zo_O50 hZ) zw541 zw542 zw2387 dX12_tellText_13 (wX12_tellText_16 hZ j hj)) (s_alt (s_callX hZ.1 (Met_J0_charAt_5068e hZ) (Nat.le_of_ble_eq_true rfl) vy_J0_charAt_5068e (zo_O52 hZ) zw541 zw542 zw2387 dX12_tellText_13 (wX12_tellText_16 hZ j hj)) (s_alt (s_callX hZ.1 (Met_J0_charAt_5068e hZ) (Nat.le_of_ble_eq_true rfl) vy_J0_charAt_5068e (zo_O54 hZ) zw541 zw542 zw2387 dX12_tellText_13 (wX12_tellText_16 hZ j hj)) (s_alt (s_callX hZ.1 (Met_J0_charAt_5068e hZ) (Nat.le_of_ble_eq_true rfl) vy_J0_charAt_5068e (zo_O56 hZ) zw541 zw542 zw2387 dX12_tellText_13 (wX12_tellText_16 hZ j hj)) (s_alt (s_callX hZ.1 (Met_J0_charAt_5068e hZ) (Nat.le_of_ble_eq_true rfl) vy_J0_charAt_5068e (zo_O58 hZ) zw541 zw542 zw2387 dX12_tellText_13 (wX12_tellText_16 hZ j hj)) (s_alt (s_callX hZ.1 (Met_J0_charAt_5068e hZ) (Nat.le_of_ble_eq_true rfl) vy_J0_charAt_5068e (zo_O60 hZ) zw541 zw542 zw2387 dX12_tellText_13 (wX12_tellText_16 hZ j hj)) (s_alt (s_callX hZ.1 (Met_J0_charAt_5068e hZ) (Nat.le_of_ble_eq_true rfl) vy_J0_charAt_5068e (zo_O62 hZ) zw541 zw542 zw2387 dX12_tellText_13 (wX12_tellText_16 hZ j hj)) (s_alt (s_callX hZ.1 (Met_J0_charAt_5068e hZ) (Nat.le_of_ble_eq_true rfl) vy_J0_charAt_5068e (zo_O64 hZ) zw541 zw542 zw2387 dX12_tellText_13 (wX12_tellText_16 hZ j hj)) (s_alt (s_callX hZ.1 (Met_J0_charAt_5068e hZ) (Nat.le_of_ble_eq_true rfl) vy_J0_charAt_5068e (zo_O66 hZ) zw541 zw542 zw2387 dX12_tellText_13 (wX12_tellText_16 hZ j hj)) (s_alt (s_callX hZ.1 (Met_J0_charAt_5068e hZ) (Nat.le_of_ble_eq_true rfl) vy_J0_charAt_5068e (zo_O68 hZ) zw541 zw542 zw2387 dX12_tellText_13 (wX12_tellText_16 hZ j hj)) (s_alt (s_callX hZ.1 (Met_J0_charAt_5068e hZ) (Nat.le_of_ble_eq_true rfl) vy_J0_charAt_5068e (zo_O70 hZ) zw541 zw542 zw2387 dX12_tellText_13 (wX12_tellText_16 hZ j hj)) (s_alt (s_callX hZ.1 (Met_J0_charAt_5068e hZ) (Nat.le_of_ble_eq_true rfl) vy_J0_charAt_5068e (zo_O72 hZ) zw541 zw542 zw2387 dX12_tellText_13 (wX12_tellText_16 hZ j hj)) (s_alt (s_callX hZ.1 (Met_J0_charAt_5068e hZ) (Nat.le_of_ble_eq_true rfl) vy_J0_charAt_5068e (zo_O74 hZ) zw541 zw542 zw2387 dX12_tellText_13 (wX12_tellText_16 hZ j hj)) (s_alt (s_callX hZ.1 (Met_J0_charAt_5068e hZ) (Nat.le_of_ble_eq_true rfl) vy_J0_charAt_5068e (zo_O76 hZ) zw541 zw542 zw2387 dX12_tellText_13 (wX12_tellText_16 hZ j hj)) (s_alt (s_callX hZ.1 (Met_J0_charAt_5068e hZ) (Nat.le_of_ble_eq_true rfl) vy_J0_charAt_5068e (zo_O78 hZ) zw541 zw542 zw2387 dX12_tellText_13 (wX12_tellText_16 hZ j hj)) (s_alt (s_callX hZ.1 (Met_J0_charAt_5068e hZ) (Nat.le_of_ble_eq_true rfl) vy_J0_charAt_5068e (zo_O80 hZ) zw541 zw542 zw2387 dX12_tellText_13 (wX12_tellText_16 hZ j hj)) (s_alt (s_callX hZ.1 (Met_J0_charAt_5068e hZ) (Nat.le_of_ble_eq_true rfl) vy_J0_charAt_5068e (zo_O82 hZ) zw541 zw542 zw2387 dX12_tellText_13 (wX12_tellText_16 hZ j hj)) (s_alt (s_callX hZ.1 (Met_J0_charAt_5068e hZ) (Nat.le_of_ble_eq_true rfl) vy_J0_charAt_5068e (zo_O84 hZ) zw541 zw542 zw2387 dX12_tellText_13 (wX12_tellText_16 hZ j hj)) (s_alt (s_callX hZ.1 (Met_J0_charAt_5068e hZ) (Nat.le_of_ble_eq_true rfl) vy_J0_charAt_5068e (zo_O86 hZ) zw541 zw542 zw2387 dX12_tellText_13 (wX12_tellText_16 hZ j hj)) (s_alt (s_callX hZ.1 (Met_J0_charAt_5068e hZ) (Nat.le_of_ble_eq_true rfl) vy_J0_charAt_5068e (zo_O88 hZ) zw541 zw542 zw2387 dX12_tellText_13 (wX12_tellText_16 hZ j hj)) (s_alt (s_callX hZ.1 (Met_J0_charAt_5068e hZ) (Nat.le_of_ble_eq_true rfl) vy_J0_charAt_5068e (zo_O90 hZ) zw541 zw542 zw2387 dX12_tellText_13 (wX12_tellText_16 hZ j hj)) (s_alt (s_callX hZ.1 (Met_J0_charAt_5068e hZ) (Nat.le_of_ble_eq_true rfl) vy_J0_charAt_5068e (zo_O92 hZ) zw541 zw542 zw2387 dX12_tellText_13 (wX12_tellText_16 hZ j hj)) (s_alt (s_callX hZ.1 (Met_J0_charAt_5068e hZ) (Nat.le_of_ble_eq_true rfl) vy_J0_charAt_5068e (zo_O94 hZ) zw541 zw542 zw2387 dX12_tellText_13 (wX12_tellText_16 hZ j hj)) (s_alt (s_callX hZ.1 (Met_J0_charAt_5068e hZ) (Nat.le_of_ble_eq_true rfl) vy_J0_charAt_5068e (zo_O96 hZ) zw541 zw542 zw2387 dX12_tellText_13 (wX12_tellText_16 hZ j hj)) (s_alt (s_callX hZ.1 (Met_J0_charAt_5068e hZ) (Nat.le_of_ble_eq_true rfl) vy_J0_charAt_5068e (zo_O98 hZ) zw541 zw542 zw2387 dX12_tellText_13 (wX12_tellText_16 hZ j hj)) (s_alt (s_callX hZ.1 (Met_J0_charAt_5068e hZ) (Nat.le_of_ble_eq_true rfl) vy_J0_charAt_5068e (zo_O100 hZ) zw541 zw542 zw2387 dX12_tellText_13 (wX12_tellText_16 hZ j hj)) (s_alt (s_callX hZ.1 (Met_J0_charAt_5068e hZ) (Nat.le_of_ble_eq_true rfl) vy_J0_charAt_5068e (zo_O102 hZ) zw541 zw542 zw2387 dX12_tellText_13 (wX12_tellText_16 hZ j hj)) (s_alt (s_callX hZ.1 (Met_J0_charAt_5068e hZ) (Nat.le_of_ble_eq_true rfl) vy_J0_charAt_5068e (zo_O104 hZ) zw541 zw542 zw2387 dX12_tellText_13 (wX12_tellText_16 hZ j hj)) (s_alt (s_callX hZ.1 (Met_J0_charAt_5068e hZ) (Nat.le_of_ble_eq_true rfl) vy_J0_charAt_5068e (zo_O106 hZ) zw541 zw542 zw2387 dX12_tellText_13 (wX12_tellText_16 hZ j hj)) (s_alt (s_callX hZ.1 (Met_J0_charAt_5068e hZ) (Nat.le_of_ble_eq_true rfl) vy_J0_charAt_5068e (zo_O108 hZ) zw541 zw542 zw2387 dX12_tellText_13 (wX12_tellText_16 hZ j hj)) (s_alt (s_callX hZ.1 (Met_J0_charAt_5068e hZ) (Nat.le_of_ble_eq_true rfl) vy_J0_charAt_5068e (zo_O110 hZ) zw541 zw542 zw2387 dX12_tellText_13 (wX12_tellText_16 hZ j hj)) (s_alt (s_callX hZ.1 (Met_J0_charAt_5068e hZ) (Nat.le_of_ble_eq_true rfl) vy_J0_charAt_5068e (zo_O112 hZ) zw541 zw542 zw2387 dX12_tellText_13 (wX12_tellText_16 hZ j hj)) (s_alt (s_callX hZ.1 (Met_J0_charAt_5068e hZ) (Nat.le_of_ble_eq_true rfl) vy_J0_charAt_5068e (zo_O114 hZ) zw541 zw542 zw2387 dX12_tellText_13 (wX12_tellText_16 hZ j hj)) (s_alt (s_callX hZ.1 (Met_J0_charAt_5068e hZ) (Nat.le_of_ble_eq_true rfl) vy_J0_charAt_5068e (zo_O116 hZ) zw541 zw542 zw2387 dX12_tellText_13 (wX12_tellText_16 hZ j hj)) (s_alt (s_callX hZ.1 (Met_J0_charAt_5068e hZ) (Nat.le_of_ble_eq_true rfl) vy_J0_charAt_5068e (zo_O118 hZ) zw541 zw542 zw2387 dX12_tellText_13 (wX12_tellText_16 hZ j hj)) (s_alt (s_callX hZ.1 (Met_J0_charAt_5068e hZ) (Nat.le_of_ble_eq_true rfl) vy_J0_charAt_5068e (zo_O120 hZ) zw541 zw542 zw2387 dX12_tellText_13 (wX12_tellText_16 hZ j hj)) (s_alt (s_callX hZ.1 (Met_J0_charAt_5068e hZ) (Nat.le_of_ble_eq_true rfl) vy_J0_charAt_5068e (zo_O122 hZ) zw541 zw542 zw2387 dX12_tellText_13 (wX12_tellText_16 hZ j hj)) (s_alt (s_callX hZ.1 (Met_J0_charAt_5068e hZ) (Nat.le_of_ble_eq_true rfl) vy_J0_charAt_5068e (zo_O124 hZ) zw541 zw542 zw2387 dX12_tellText_13 (wX12_tellText_16 hZ j hj)) (s_alt (s_callX hZ.1 (Met_J0_charAt_5068e hZ) (Nat.le_of_ble_eq_true rfl) vy_J0_charAt_5068e (zo_O126 hZ) zw541 zw542 zw2387 dX12_tellText_13 (wX12_tellText_16 hZ j hj)) (s_alt (s_callX hZ.1 (Met_J0_charAt_5068e hZ) (Nat.le_of_ble_eq_true rfl) vy_J0_charAt_5068e (zo_O128 hZ) zw541 zw542 zw2387 dX12_tellText_13 (wX12_tellText_16 hZ j hj)) (s_alt (s_callX hZ.1 (Met_J0_charAt_5068e hZ) (Nat.le_of_ble_eq_true rfl) vy_J0_charAt_5068e (zo_O130 hZ) zw541 zw542 zw2387 dX12_tellText_13 (wX12_tellText_16 hZ j hj)) (s_alt (s_callX hZ.1 (Met_J0_charAt_5068e hZ) (Nat.le_of_ble_eq_true rfl) vy_J0_charAt_5068e (zo_O132 hZ) zw541 zw542 zw2387 dX12_tellText_13 (wX12_tellText_16 hZ j hj)) (s_alt (s_callX hZ.1 (Met_J0_charAt_5068e hZ) (Nat.le_of_ble_eq_true rfl) vy_J0_charAt_5068e (zo_O134 hZ) zw541 zw542 zw2387 dX12_tellText_13 (wX12_tellText_16 hZ j hj)) (s_alt (s_callX hZ.1 (Met_J0_charAt_5068e hZ) (Nat.le_of_ble_eq_true rfl) vy_J0_charAt_5068e (zo_O136 hZ) zw541 zw542 zw2387 dX12_tellText_13 (wX12_tellText_16 hZ j hj)) (s_alt (s_callX hZ.1 (Met_J0_charAt_5068e hZ) (Nat.le_of_ble_eq_true rfl) vy_J0_charAt_5068e (zo_O138 hZ) zw541 zw542 zw2387 dX12_tellText_13 (wX12_tellText_16 hZ j hj)) (s_alt (s_callX hZ.1 (Met_J0_charAt_5068e hZ) (Nat.le_of_ble_eq_true rfl) vy_J0_charAt_5068e (zo_O140 hZ) zw541 zw542 zw2387 dX12_tellText_13 (wX12_tellText_16 hZ j hj)) (s_alt (s_callX hZ.1 (Met_J0_charAt_5068e hZ) (Nat.le_of_ble_eq_true rfl) vy_J0_charAt_5068e (zo_O142 hZ) zw541 zw542 zw2387 dX12_tellText_13 (wX12_tellText_16 hZ j hj)) (s_alt (s_callX hZ.1 (Met_J0_charAt_5068e hZ) (Nat.le_of_ble_eq_true rfl) vy_J0_charAt_5068e (zo_O144 hZ) zw541 zw542 zw2387 dX12_tellText_13 (wX12_tellText_16 hZ j hj)) (s_alt (s_callX hZ.1 (Met_J0_charAt_5068e hZ) (Nat.le_of_ble_eq_true rfl) vy_J0_charAt_5068e (zo_O146 hZ) zw541 zw542 zw2387 dX12_tellText_13 (wX12_tellText_16 hZ j hj)) (s_alt (s_callX hZ.1 (Met_J0_charAt_5068e hZ) (Nat.le_of_ble_eq_true rfl) vy_J0_charAt_5068e (zo_O148 hZ) zw541 zw542 zw2387 dX12_tellText_13 (wX12_tellText_16 hZ j hj)) (s_alt (s_callX hZ.1 (Met_J0_charAt_5068e hZ) (Nat.le_of_ble_eq_true rfl) vy_J0_charAt_5068e (zo_O150 hZ) zw541 zw542 zw2387 dX12_tellText_13 (wX12_tellText_16 hZ j hj)) (s_alt (s_callX hZ.1 (Met_J0_charAt_5068e hZ) (Nat.le_of_ble_eq_true rfl) vy_J0_charAt_5068e (zo_O152 hZ) zw541 zw542 zw2387 dX12_tellText_13 (wX12_tellText_16 hZ j hj)) (s_alt (s_callX hZ.1 (Met_J0_charAt_5068e hZ) (Nat.le_of_ble_eq_true rfl) vy_J0_charAt_5068e (zo_O154 hZ) zw541 zw542 zw2387 dX12_tellText_13 (wX12_tellText_16 hZ j hj)) (s_alt (s_callX hZ.1 (Met_J0_charAt_5068e hZ) (Nat.le_of_ble_eq_true rfl) vy_J0_charAt_5068e (zo_O156 hZ) zw541 zw542 zw2387 dX12_tellText_13 (wX12_tellText_16 hZ j hj)) (s_alt (s_callX hZ.1 (Met_J0_charAt_5068e hZ) (Nat.le_of_ble_eq_true rfl) vy_J0_charAt_5068e (zo_O158 hZ) zw541 zw542 zw2387 dX12_tellText_13 (wX12_tellText_16 hZ j hj)) s_none)))))))))))))))))))))))))))))))))))))))))))))))))))))))))))))))))))))))))))))
noncomputable def vX12_tellText_7 (j : Nat → rx_K) : rx_K := o_c2 rx_lt (vX12_tellText_10 j) (vX12_tellText_25 j)
set_option maxRecDepth 20000 in
theorem wX12_tellText_7 (hZ : zO b e D A X) (j : Nat → rx_K) (hj : ∀ k pc, [2][k]? = some pc → rx_OK (zV b e D A X) mX12_tellText 4 pc (j k)) : rx_OK (zV b e D A X) mX12_tellText 4 7 (vX12_tellText_7 j) := by
  unfold vX12_tellText_7
  exact s_icmp_ge dX12_tellText_7 (by decide) (wX12_tellText_25 hZ j hj) (wX12_tellText_10 hZ j hj)
noncomputable def vX12_tellText_2 (j : Nat → rx_K) : rx_K := o_ld rx_isI 2 (o_ld rx_isR 1 (o_alt (zqn 0 6) (o_callX 0 6 FJ0_length_8abf5 ((vX12_tellText_7 j))) (o_alt (zqn 0 8) (o_callX 0 8 FJ0_length_8abf5 ((vX12_tellText_7 j))) (o_alt (zqn 0 10) (o_callX 0 10 FJ0_length_8abf5 ((vX12_tellText_7 j))) (o_alt (zqn 0 12) (o_callX 0 12 FJ0_length_8abf5 ((vX12_tellText_7 j))) (o_alt (zqn 0 14) (o_callX 0 14 FJ0_length_8abf5 ((vX12_tellText_7 j))) (o_alt (zqn 0 16) (o_callX 0 16 FJ0_length_8abf5 ((vX12_tellText_7 j))) (o_alt (zqn 0 18) (o_callX 0 18 FJ0_length_8abf5 ((vX12_tellText_7 j))) (o_alt (zqn 0 20) (o_callX 0 20 FJ0_length_8abf5 ((vX12_tellText_7 j))) (o_alt (zqn 0 22) (o_callX 0 22 FJ0_length_8abf5 ((vX12_tellText_7 j))) (o_alt (zqn 0 24) (o_callX 0 24 FJ0_length_8abf5 ((vX12_tellText_7 j))) (o_alt (zqn 0 26) (o_callX 0 26 FJ0_length_8abf5 ((vX12_tellText_7 j))) (o_alt (zqn 0 28) (o_callX 0 28 FJ0_length_8abf5 ((vX12_tellText_7 j))) (o_alt (zqn 0 30) (o_callX 0 30 FJ0_length_8abf5 ((vX12_tellText_7 j))) (o_alt (zqn 0 32) (o_callX 0 32 FJ0_length_8abf5 ((vX12_tellText_7 j))) (o_alt (zqn 0 34) (o_callX 0 34 FJ0_length_8abf5 ((vX12_tellText_7 j))) (o_alt (zqn 0 36) (o_callX 0 36 FJ0_length_8abf5 ((vX12_tellText_7 j))) (o_alt (zqn 0 38) (o_callX 0 38 FJ0_length_8abf5 ((vX12_tellText_7 j))) (o_alt (zqn 0 40) (o_callX 0 40 FJ0_length_8abf5 ((vX12_tellText_7 j))) (o_alt (zqn 0 42) (o_callX 0 42 FJ0_length_8abf5 ((vX12_tellText_7 j))) (o_alt (zqn 0 44) (o_callX 0 44 FJ0_length_8abf5 ((vX12_tellText_7 j))) (o_alt (zqn 0 46) (o_callX 0 46 FJ0_length_8abf5 ((vX12_tellText_7 j))) (o_alt (zqn 0 48) (o_callX 0 48 FJ0_length_8abf5 ((vX12_tellText_7 j))) (o_alt (zqn 0 50) (o_callX 0 50 FJ0_length_8abf5 ((vX12_tellText_7 j))) (o_alt (zqn 0 52) (o_callX 0 52 FJ0_length_8abf5 ((vX12_tellText_7 j))) (o_alt (zqn 0 54) (o_callX 0 54 FJ0_length_8abf5 ((vX12_tellText_7 j))) (o_alt (zqn 0 56) (o_callX 0 56 FJ0_length_8abf5 ((vX12_tellText_7 j))) (o_alt (zqn 0 58) (o_callX 0 58 FJ0_length_8abf5 ((vX12_tellText_7 j))) (o_alt (zqn 0 60) (o_callX 0 60 FJ0_length_8abf5 ((vX12_tellText_7 j))) (o_alt (zqn 0 62) (o_callX 0 62 FJ0_length_8abf5 ((vX12_tellText_7 j))) (o_alt (zqn 0 64) (o_callX 0 64 FJ0_length_8abf5 ((vX12_tellText_7 j))) (o_alt (zqn 0 66) (o_callX 0 66 FJ0_length_8abf5 ((vX12_tellText_7 j))) (o_alt (zqn 0 68) (o_callX 0 68 FJ0_length_8abf5 ((vX12_tellText_7 j))) (o_alt (zqn 0 70) (o_callX 0 70 FJ0_length_8abf5 ((vX12_tellText_7 j))) (o_alt (zqn 0 72) (o_callX 0 72 FJ0_length_8abf5 ((vX12_tellText_7 j))) (o_alt (zqn 0 74) (o_callX 0 74 FJ0_length_8abf5 ((vX12_tellText_7 j))) (o_alt (zqn 0 76) (o_callX 0 76 FJ0_length_8abf5 ((vX12_tellText_7 j))) (o_alt (zqn 0 78) (o_callX 0 78 FJ0_length_8abf5 ((vX12_tellText_7 j))) (o_alt (zqn 0 80) (o_callX 0 80 FJ0_length_8abf5 ((vX12_tellText_7 j))) (o_alt (zqn 0 82) (o_callX 0 82 FJ0_length_8abf5 ((vX12_tellText_7 j))) (o_alt (zqn 0 84) (o_callX 0 84 FJ0_length_8abf5 ((vX12_tellText_7 j))) (o_alt (zqn 0 86) (o_callX 0 86 FJ0_length_8abf5 ((vX12_tellText_7 j))) (o_alt (zqn 0 88) (o_callX 0 88 FJ0_length_8abf5 ((vX12_tellText_7 j))) (o_alt (zqn 0 90) (o_callX 0 90 FJ0_length_8abf5 ((vX12_tellText_7 j))) (o_alt (zqn 0 92) (o_callX 0 92 FJ0_length_8abf5 ((vX12_tellText_7 j))) (o_alt (zqn 0 94) (o_callX 0 94 FJ0_length_8abf5 ((vX12_tellText_7 j))) (o_alt (zqn 0 96) (o_callX 0 96 FJ0_length_8abf5 ((vX12_tellText_7 j))) (o_alt (zqn 0 98) (o_callX 0 98 FJ0_length_8abf5 ((vX12_tellText_7 j))) (o_alt (zqn 0 100) (o_callX 0 100 FJ0_length_8abf5 ((vX12_tellText_7 j))) (o_alt (zqn 0 102) (o_callX 0 102 FJ0_length_8abf5 ((vX12_tellText_7 j))) (o_alt (zqn 0 104) (o_callX 0 104 FJ0_length_8abf5 ((vX12_tellText_7 j))) (o_alt (zqn 0 106) (o_callX 0 106 FJ0_length_8abf5 ((vX12_tellText_7 j))) (o_alt (zqn 0 108) (o_callX 0 108 FJ0_length_8abf5 ((vX12_tellText_7 j))) (o_alt (zqn 0 110) (o_callX 0 110 FJ0_length_8abf5 ((vX12_tellText_7 j))) (o_alt (zqn 0 112) (o_callX 0 112 FJ0_length_8abf5 ((vX12_tellText_7 j))) (o_alt (zqn 0 114) (o_callX 0 114 FJ0_length_8abf5 ((vX12_tellText_7 j))) (o_alt (zqn 0 116) (o_callX 0 116 FJ0_length_8abf5 ((vX12_tellText_7 j))) (o_alt (zqn 0 118) (o_callX 0 118 FJ0_length_8abf5 ((vX12_tellText_7 j))) (o_alt (zqn 0 120) (o_callX 0 120 FJ0_length_8abf5 ((vX12_tellText_7 j))) (o_alt (zqn 0 122) (o_callX 0 122 FJ0_length_8abf5 ((vX12_tellText_7 j))) (o_alt (zqn 0 124) (o_callX 0 124 FJ0_length_8abf5 ((vX12_tellText_7 j))) (o_alt (zqn 0 126) (o_callX 0 126 FJ0_length_8abf5 ((vX12_tellText_7 j))) (o_alt (zqn 0 128) (o_callX 0 128 FJ0_length_8abf5 ((vX12_tellText_7 j))) (o_alt (zqn 0 130) (o_callX 0 130 FJ0_length_8abf5 ((vX12_tellText_7 j))) (o_alt (zqn 0 132) (o_callX 0 132 FJ0_length_8abf5 ((vX12_tellText_7 j))) (o_alt (zqn 0 134) (o_callX 0 134 FJ0_length_8abf5 ((vX12_tellText_7 j))) (o_alt (zqn 0 136) (o_callX 0 136 FJ0_length_8abf5 ((vX12_tellText_7 j))) (o_alt (zqn 0 138) (o_callX 0 138 FJ0_length_8abf5 ((vX12_tellText_7 j))) (o_alt (zqn 0 140) (o_callX 0 140 FJ0_length_8abf5 ((vX12_tellText_7 j))) (o_alt (zqn 0 142) (o_callX 0 142 FJ0_length_8abf5 ((vX12_tellText_7 j))) (o_alt (zqn 0 144) (o_callX 0 144 FJ0_length_8abf5 ((vX12_tellText_7 j))) (o_alt (zqn 0 146) (o_callX 0 146 FJ0_length_8abf5 ((vX12_tellText_7 j))) (o_alt (zqn 0 148) (o_callX 0 148 FJ0_length_8abf5 ((vX12_tellText_7 j))) (o_alt (zqn 0 150) (o_callX 0 150 FJ0_length_8abf5 ((vX12_tellText_7 j))) (o_alt (zqn 0 152) (o_callX 0 152 FJ0_length_8abf5 ((vX12_tellText_7 j))) (o_alt (zqn 0 154) (o_callX 0 154 FJ0_length_8abf5 ((vX12_tellText_7 j))) (o_alt (zqn 0 156) (o_callX 0 156 FJ0_length_8abf5 ((vX12_tellText_7 j))) (o_alt (zqn 0 158) (o_callX 0 158 FJ0_length_8abf5 ((vX12_tellText_7 j))) (o_none)))))))))))))))))))))))))))))))))))))))))))))))))))))))))))))))))))))))))))))))
set_option maxRecDepth 20000 in
theorem wX12_tellText_2 (hZ : zO b e D A X) (j : Nat → rx_K) (hj : ∀ k pc, [2][k]? = some pc → rx_OK (zV b e D A X) mX12_tellText 4 pc (j k)) : rx_OK (zV b e D A X) mX12_tellText 4 2 (vX12_tellText_2 j) := by
  unfold vX12_tellText_2
  refine s_iload_n hZ.1 dX12_tellText_2 rfl ?_
  refine s_aload_n hZ.1 dX12_tellText_3 rfl ?_
  exact (s_alt (s_callX hZ.1 (Met_J0_length_8abf5 hZ) (Nat.le_of_ble_eq_true rfl) vy_J0_length_8abf5 (zo_O6 hZ) zw531 zw532 zw2386 dX12_tellText_4 (wX12_tellText_7 hZ j hj)) (s_alt (s_callX hZ.1 (Met_J0_length_8abf5 hZ) (Nat.le_of_ble_eq_true rfl) vy_J0_length_8abf5 (zo_O8 hZ) zw531 zw532 zw2386 dX12_tellText_4 (wX12_tellText_7 hZ j hj)) (s_alt (s_callX hZ.1 (Met_J0_length_8abf5 hZ) (Nat.le_of_ble_eq_true rfl) vy_J0_length_8abf5 (zo_O10 hZ) zw531 zw532 zw2386 dX12_tellText_4 (wX12_tellText_7 hZ j hj)) (s_alt (s_callX hZ.1 (Met_J0_length_8abf5 hZ) (Nat.le_of_ble_eq_true rfl) vy_J0_length_8abf5 (zo_O12 hZ) zw531 zw532 zw2386 dX12_tellText_4 (wX12_tellText_7 hZ j hj)) (s_alt (s_callX hZ.1 (Met_J0_length_8abf5 hZ) (Nat.le_of_ble_eq_true rfl) vy_J0_length_8abf5 (zo_O14 hZ) zw531 zw532 zw2386 dX12_tellText_4 (wX12_tellText_7 hZ j hj)) (s_alt (s_callX hZ.1 (Met_J0_length_8abf5 hZ) (Nat.le_of_ble_eq_true rfl) vy_J0_length_8abf5 (zo_O16 hZ) zw531 zw532 zw2386 dX12_tellText_4 (wX12_tellText_7 hZ j hj)) (s_alt (s_callX hZ.1 (Met_J0_length_8abf5 hZ) (Nat.le_of_ble_eq_true rfl) vy_J0_length_8abf5 (zo_O18 hZ) zw531 zw532 zw2386 dX12_tellText_4 (wX12_tellText_7 hZ j hj)) (s_alt (s_callX hZ.1 (Met_J0_length_8abf5 hZ) (Nat.le_of_ble_eq_true rfl) vy_J0_length_8abf5 (zo_O20 hZ) zw531 zw532 zw2386 dX12_tellText_4 (wX12_tellText_7 hZ j hj)) (s_alt (s_callX hZ.1 (Met_J0_length_8abf5 hZ) (Nat.le_of_ble_eq_true rfl) vy_J0_length_8abf5 (zo_O22 hZ) zw531 zw532 zw2386 dX12_tellText_4 (wX12_tellText_7 hZ j hj)) (s_alt (s_callX hZ.1 (Met_J0_length_8abf5 hZ) (Nat.le_of_ble_eq_true rfl) vy_J0_length_8abf5 (zo_O24 hZ) zw531 zw532 zw2386 dX12_tellText_4 (wX12_tellText_7 hZ j hj)) (s_alt (s_callX hZ.1 (Met_J0_length_8abf5 hZ) (Nat.le_of_ble_eq_true rfl) vy_J0_length_8abf5 (zo_O26 hZ) zw531 zw532 zw2386 dX12_tellText_4 (wX12_tellText_7 hZ j hj)) (s_alt (s_callX hZ.1 (Met_J0_length_8abf5 hZ) (Nat.le_of_ble_eq_true rfl) vy_J0_length_8abf5 (zo_O28 hZ) zw531 zw532 zw2386 dX12_tellText_4 (wX12_tellText_7 hZ j hj)) (s_alt (s_callX hZ.1 (Met_J0_length_8abf5 hZ) (Nat.le_of_ble_eq_true rfl) vy_J0_length_8abf5 (zo_O30 hZ) zw531 zw532 zw2386 dX12_tellText_4 (wX12_tellText_7 hZ j hj)) (s_alt (s_callX hZ.1 (Met_J0_length_8abf5 hZ) (Nat.le_of_ble_eq_true rfl) vy_J0_length_8abf5 (zo_O32 hZ) zw531 zw532 zw2386 dX12_tellText_4 (wX12_tellText_7 hZ j hj)) (s_alt (s_callX hZ.1 (Met_J0_length_8abf5 hZ) (Nat.le_of_ble_eq_true rfl) vy_J0_length_8abf5 (zo_O34 hZ) zw531 zw532 zw2386 dX12_tellText_4 (wX12_tellText_7 hZ j hj)) (s_alt (s_callX hZ.1 (Met_J0_length_8abf5 hZ) (Nat.le_of_ble_eq_true rfl) vy_J0_length_8abf5 (zo_O36 hZ) zw531 zw532 zw2386 dX12_tellText_4 (wX12_tellText_7 hZ j hj)) (s_alt (s_callX hZ.1 (Met_J0_length_8abf5 hZ) (Nat.le_of_ble_eq_true rfl) vy_J0_length_8abf5 (zo_O38 hZ) zw531 zw532 zw2386 dX12_tellText_4 (wX12_tellText_7 hZ j hj)) (s_alt (s_callX hZ.1 (Met_J0_length_8abf5 hZ) (Nat.le_of_ble_eq_true rfl) vy_J0_length_8abf5 (zo_O40 hZ) zw531 zw532 zw2386 dX12_tellText_4 (wX12_tellText_7 hZ j hj)) (s_alt (s_callX hZ.1 (Met_J0_length_8abf5 hZ) (Nat.le_of_ble_eq_true rfl) vy_J0_length_8abf5 (zo_O42 hZ) zw531 zw532 zw2386 dX12_tellText_4 (wX12_tellText_7 hZ j hj)) (s_alt (s_callX hZ.1 (Met_J0_length_8abf5 hZ) (Nat.le_of_ble_eq_true rfl) vy_J0_length_8abf5 (zo_O44 hZ) zw531 zw532 zw2386 dX12_tellText_4 (wX12_tellText_7 hZ j hj)) (s_alt (s_callX hZ.1 (Met_J0_length_8abf5 hZ) (Nat.le_of_ble_eq_true rfl) vy_J0_length_8abf5 (zo_O46 hZ) zw531 zw532 zw2386 dX12_tellText_4 (wX12_tellText_7 hZ j hj)) (s_alt (s_callX hZ.1 (Met_J0_length_8abf5 hZ) (Nat.le_of_ble_eq_true rfl) vy_J0_length_8abf5 (zo_O48 hZ) zw531 zw532 zw2386 dX12_tellText_4 (wX12_tellText_7 hZ j hj)) (s_alt (s_callX hZ.1 (Met_J0_length_8abf5 hZ) (Nat.le_of_ble_eq_true rfl) vy_J0_length_8abf5 (zo_O50 hZ) zw531 zw532 zw2386 dX12_tellText_4 (wX12_tellText_7 hZ j hj)) (s_alt (s_callX hZ.1 (Met_J0_length_8abf5 hZ) (Nat.le_of_ble_eq_true rfl) vy_J0_length_8abf5 (zo_O52 hZ) zw531 zw532 zw2386 dX12_tellText_4 (wX12_tellText_7 hZ j hj)) (s_alt (s_callX hZ.1 (Met_J0_length_8abf5 hZ) (Nat.le_of_ble_eq_true rfl) vy_J0_length_8abf5 (zo_O54 hZ) zw531 zw532 zw2386 dX12_tellText_4 (wX12_tellText_7 hZ j hj)) (s_alt (s_callX hZ.1 (Met_J0_length_8abf5 hZ) (Nat.le_of_ble_eq_true rfl) vy_J0_length_8abf5 (zo_O56 hZ) zw531 zw532 zw2386 dX12_tellText_4 (wX12_tellText_7 hZ j hj)) (s_alt (s_callX hZ.1 (Met_J0_length_8abf5 hZ) (Nat.le_of_ble_eq_true rfl) vy_J0_length_8abf5 (zo_O58 hZ) zw531 zw532 zw2386 dX12_tellText_4 (wX12_tellText_7 hZ j hj)) (s_alt (s_callX hZ.1 (Met_J0_length_8abf5 hZ) (Nat.le_of_ble_eq_true rfl) vy_J0_length_8abf5 (zo_O60 hZ) zw531 zw532 zw2386 dX12_tellText_4 (wX12_tellText_7 hZ j hj)) (s_alt (s_callX hZ.1 (Met_J0_length_8abf5 hZ) (Nat.le_of_ble_eq_true rfl) vy_J0_length_8abf5 (zo_O62 hZ) zw531 zw532 zw2386 dX12_tellText_4 (wX12_tellText_7 hZ j hj)) (s_alt (s_callX hZ.1 (Met_J0_length_8abf5 hZ) (Nat.le_of_ble_eq_true rfl) vy_J0_length_8abf5 (zo_O64 hZ) zw531 zw532 zw2386 dX12_tellText_4 (wX12_tellText_7 hZ j hj)) (s_alt (s_callX hZ.1 (Met_J0_length_8abf5 hZ) (Nat.le_of_ble_eq_true rfl) vy_J0_length_8abf5 (zo_O66 hZ) zw531 zw532 zw2386 dX12_tellText_4 (wX12_tellText_7 hZ j hj)) (s_alt (s_callX hZ.1 (Met_J0_length_8abf5 hZ) (Nat.le_of_ble_eq_true rfl) vy_J0_length_8abf5 (zo_O68 hZ) zw531 zw532 zw2386 dX12_tellText_4 (wX12_tellText_7 hZ j hj)) (s_alt (s_callX hZ.1 (Met_J0_length_8abf5 hZ) (Nat.le_of_ble_eq_true rfl) vy_J0_length_8abf5 (zo_O70 hZ) zw531 zw532 zw2386 dX12_tellText_4 (wX12_tellText_7 hZ j hj)) (s_alt (s_callX hZ.1 (Met_J0_length_8abf5 hZ) (Nat.le_of_ble_eq_true rfl) vy_J0_length_8abf5 (zo_O72 hZ) zw531 zw532 zw2386 dX12_tellText_4 (wX12_tellText_7 hZ j hj)) (s_alt (s_callX hZ.1 (Met_J0_length_8abf5 hZ) (Nat.le_of_ble_eq_true rfl) vy_J0_length_8abf5 (zo_O74 hZ) zw531 zw532 zw2386 dX12_tellText_4 (wX12_tellText_7 hZ j hj)) (s_alt (s_callX hZ.1 (Met_J0_length_8abf5 hZ) (Nat.le_of_ble_eq_true rfl) vy_J0_length_8abf5 (zo_O76 hZ) zw531 zw532 zw2386 dX12_tellText_4 (wX12_tellText_7 hZ j hj)) (s_alt (s_callX hZ.1 (Met_J0_length_8abf5 hZ) (Nat.le_of_ble_eq_true rfl) vy_J0_length_8abf5 (zo_O78 hZ) zw531 zw532 zw2386 dX12_tellText_4 (wX12_tellText_7 hZ j hj)) (s_alt (s_callX hZ.1 (Met_J0_length_8abf5 hZ) (Nat.le_of_ble_eq_true rfl) vy_J0_length_8abf5 (zo_O80 hZ) zw531 zw532 zw2386 dX12_tellText_4 (wX12_tellText_7 hZ j hj)) (s_alt (s_callX hZ.1 (Met_J0_length_8abf5 hZ) (Nat.le_of_ble_eq_true rfl) vy_J0_length_8abf5 (zo_O82 hZ) zw531 zw532 zw2386 dX12_tellText_4 (wX12_tellText_7 hZ j hj)) (s_alt (s_callX hZ.1 (Met_J0_length_8abf5 hZ) (Nat.le_of_ble_eq_true rfl) vy_J0_length_8abf5 (zo_O84 hZ) zw531 zw532 zw2386 dX12_tellText_4 (wX12_tellText_7 hZ j hj)) (s_alt (s_callX hZ.1 (Met_J0_length_8abf5 hZ) (Nat.le_of_ble_eq_true rfl) vy_J0_length_8abf5 (zo_O86 hZ) zw531 zw532 zw2386 dX12_tellText_4 (wX12_tellText_7 hZ j hj)) (s_alt (s_callX hZ.1 (Met_J0_length_8abf5 hZ) (Nat.le_of_ble_eq_true rfl) vy_J0_length_8abf5 (zo_O88 hZ) zw531 zw532 zw2386 dX12_tellText_4 (wX12_tellText_7 hZ j hj)) (s_alt (s_callX hZ.1 (Met_J0_length_8abf5 hZ) (Nat.le_of_ble_eq_true rfl) vy_J0_length_8abf5 (zo_O90 hZ) zw531 zw532 zw2386 dX12_tellText_4 (wX12_tellText_7 hZ j hj)) (s_alt (s_callX hZ.1 (Met_J0_length_8abf5 hZ) (Nat.le_of_ble_eq_true rfl) vy_J0_length_8abf5 (zo_O92 hZ) zw531 zw532 zw2386 dX12_tellText_4 (wX12_tellText_7 hZ j hj)) (s_alt (s_callX hZ.1 (Met_J0_length_8abf5 hZ) (Nat.le_of_ble_eq_true rfl) vy_J0_length_8abf5 (zo_O94 hZ) zw531 zw532 zw2386 dX12_tellText_4 (wX12_tellText_7 hZ j hj)) (s_alt (s_callX hZ.1 (Met_J0_length_8abf5 hZ) (Nat.le_of_ble_eq_true rfl) vy_J0_length_8abf5 (zo_O96 hZ) zw531 zw532 zw2386 dX12_tellText_4 (wX12_tellText_7 hZ j hj)) (s_alt (s_callX hZ.1 (Met_J0_length_8abf5 hZ) (Nat.le_of_ble_eq_true rfl) vy_J0_length_8abf5 (zo_O98 hZ) zw531 zw532 zw2386 dX12_tellText_4 (wX12_tellText_7 hZ j hj)) (s_alt (s_callX hZ.1 (Met_J0_length_8abf5 hZ) (Nat.le_of_ble_eq_true rfl) vy_J0_length_8abf5 (zo_O100 hZ) zw531 zw532 zw2386 dX12_tellText_4 (wX12_tellText_7 hZ j hj)) (s_alt (s_callX hZ.1 (Met_J0_length_8abf5 hZ) (Nat.le_of_ble_eq_true rfl) vy_J0_length_8abf5 (zo_O102 hZ) zw531 zw532 zw2386 dX12_tellText_4 (wX12_tellText_7 hZ j hj)) (s_alt (s_callX hZ.1 (Met_J0_length_8abf5 hZ) (Nat.le_of_ble_eq_true rfl) vy_J0_length_8abf5 (zo_O104 hZ) zw531 zw532 zw2386 dX12_tellText_4 (wX12_tellText_7 hZ j hj)) (s_alt (s_callX hZ.1 (Met_J0_length_8abf5 hZ) (Nat.le_of_ble_eq_true rfl) vy_J0_length_8abf5 (zo_O106 hZ) zw531 zw532 zw2386 dX12_tellText_4 (wX12_tellText_7 hZ j hj)) (s_alt (s_callX hZ.1 (Met_J0_length_8abf5 hZ) (Nat.le_of_ble_eq_true rfl) vy_J0_length_8abf5 (zo_O108 hZ) zw531 zw532 zw2386 dX12_tellText_4 (wX12_tellText_7 hZ j hj)) (s_alt (s_callX hZ.1 (Met_J0_length_8abf5 hZ) (Nat.le_of_ble_eq_true rfl) vy_J0_length_8abf5 (zo_O110 hZ) zw531 zw532 zw2386 dX12_tellText_4 (wX12_tellText_7 hZ j hj)) (s_alt (s_callX hZ.1 (Met_J0_length_8abf5 hZ) (Nat.le_of_ble_eq_true rfl) vy_J0_length_8abf5 (zo_O112 hZ) zw531 zw532 zw2386 dX12_tellText_4 (wX12_tellText_7 hZ j hj)) (s_alt (s_callX hZ.1 (Met_J0_length_8abf5 hZ) (Nat.le_of_ble_eq_true rfl) vy_J0_length_8abf5 (zo_O114 hZ) zw531 zw532 zw2386 dX12_tellText_4 (wX12_tellText_7 hZ j hj)) (s_alt (s_callX hZ.1 (Met_J0_length_8abf5 hZ) (Nat.le_of_ble_eq_true rfl) vy_J0_length_8abf5 (zo_O116 hZ) zw531 zw532 zw2386 dX12_tellText_4 (wX12_tellText_7 hZ j hj)) (s_alt (s_callX hZ.1 (Met_J0_length_8abf5 hZ) (Nat.le_of_ble_eq_true rfl) vy_J0_length_8abf5 (zo_O118 hZ) zw531 zw532 zw2386 dX12_tellText_4 (wX12_tellText_7 hZ j hj)) (s_alt (s_callX hZ.1 (Met_J0_length_8abf5 hZ) (Nat.le_of_ble_eq_true rfl) vy_J0_length_8abf5 (zo_O120 hZ) zw531 zw532 zw2386 dX12_tellText_4 (wX12_tellText_7 hZ j hj)) (s_alt (s_callX hZ.1 (Met_J0_length_8abf5 hZ) (Nat.le_of_ble_eq_true rfl) vy_J0_length_8abf5 (zo_O122 hZ) zw531 zw532 zw2386 dX12_tellText_4 (wX12_tellText_7 hZ j hj)) (s_alt (s_callX hZ.1 (Met_J0_length_8abf5 hZ) (Nat.le_of_ble_eq_true rfl) vy_J0_length_8abf5 (zo_O124 hZ) zw531 zw532 zw2386 dX12_tellText_4 (wX12_tellText_7 hZ j hj)) (s_alt (s_callX hZ.1 (Met_J0_length_8abf5 hZ) (Nat.le_of_ble_eq_true rfl) vy_J0_length_8abf5 (zo_O126 hZ) zw531 zw532 zw2386 dX12_tellText_4 (wX12_tellText_7 hZ j hj)) (s_alt (s_callX hZ.1 (Met_J0_length_8abf5 hZ) (Nat.le_of_ble_eq_true rfl) vy_J0_length_8abf5 (zo_O128 hZ) zw531 zw532 zw2386 dX12_tellText_4 (wX12_tellText_7 hZ j hj)) (s_alt (s_callX hZ.1 (Met_J0_length_8abf5 hZ) (Nat.le_of_ble_eq_true rfl) vy_J0_length_8abf5 (zo_O130 hZ) zw531 zw532 zw2386 dX12_tellText_4 (wX12_tellText_7 hZ j hj)) (s_alt (s_callX hZ.1 (Met_J0_length_8abf5 hZ) (Nat.le_of_ble_eq_true rfl) vy_J0_length_8abf5 (zo_O132 hZ) zw531 zw532 zw2386 dX12_tellText_4 (wX12_tellText_7 hZ j hj)) (s_alt (s_callX hZ.1 (Met_J0_length_8abf5 hZ) (Nat.le_of_ble_eq_true rfl) vy_J0_length_8abf5 (zo_O134 hZ) zw531 zw532 zw2386 dX12_tellText_4 (wX12_tellText_7 hZ j hj)) (s_alt (s_callX hZ.1 (Met_J0_length_8abf5 hZ) (Nat.le_of_ble_eq_true rfl) vy_J0_length_8abf5 (zo_O136 hZ) zw531 zw532 zw2386 dX12_tellText_4 (wX12_tellText_7 hZ j hj)) (s_alt (s_callX hZ.1 (Met_J0_length_8abf5 hZ) (Nat.le_of_ble_eq_true rfl) vy_J0_length_8abf5 (zo_O138 hZ) zw531 zw532 zw2386 dX12_tellText_4 (wX12_tellText_7 hZ j hj)) (s_alt (s_callX hZ.1 (Met_J0_length_8abf5 hZ) (Nat.le_of_ble_eq_true rfl) vy_J0_length_8abf5 (zo_O140 hZ) zw531 zw532 zw2386 dX12_tellText_4 (wX12_tellText_7 hZ j hj)) (s_alt (s_callX hZ.1 (Met_J0_length_8abf5 hZ) (Nat.le_of_ble_eq_true rfl) vy_J0_length_8abf5 (zo_O142 hZ) zw531 zw532 zw2386 dX12_tellText_4 (wX12_tellText_7 hZ j hj)) (s_alt (s_callX hZ.1 (Met_J0_length_8abf5 hZ) (Nat.le_of_ble_eq_true rfl) vy_J0_length_8abf5 (zo_O144 hZ) zw531 zw532 zw2386 dX12_tellText_4 (wX12_tellText_7 hZ j hj)) (s_alt (s_callX hZ.1 (Met_J0_length_8abf5 hZ) (Nat.le_of_ble_eq_true rfl) vy_J0_length_8abf5 (zo_O146 hZ) zw531 zw532 zw2386 dX12_tellText_4 (wX12_tellText_7 hZ j hj)) (s_alt (s_callX hZ.1 (Met_J0_length_8abf5 hZ) (Nat.le_of_ble_eq_true rfl) vy_J0_length_8abf5 (zo_O148 hZ) zw531 zw532 zw2386 dX12_tellText_4 (wX12_tellText_7 hZ j hj)) (s_alt (s_callX hZ.1 (Met_J0_length_8abf5 hZ) (Nat.le_of_ble_eq_true rfl) vy_J0_length_8abf5 (zo_O150 hZ) zw531 zw532 zw2386 dX12_tellText_4 (wX12_tellText_7 hZ j hj)) (s_alt (s_callX hZ.1 (Met_J0_length_8abf5 hZ) (Nat.le_of_ble_eq_true rfl) vy_J0_length_8abf5 (zo_O152 hZ) zw531 zw532 zw2386 dX12_tellText_4 (wX12_tellText_7 hZ j hj)) (s_alt (s_callX hZ.1 (Met_J0_length_8abf5 hZ) (Nat.le_of_ble_eq_true rfl) vy_J0_length_8abf5 (zo_O154 hZ) zw531 zw532 zw2386 dX12_tellText_4 (wX12_tellText_7 hZ j hj)) (s_alt (s_callX hZ.1 (Met_J0_length_8abf5 hZ) (Nat.le_of_ble_eq_true rfl) vy_J0_length_8abf5 (zo_O156 hZ) zw531 zw532 zw2386 dX12_tellText_4 (wX12_tellText_7 hZ j hj)) (s_alt (s_callX hZ.1 (Met_J0_length_8abf5 hZ) (Nat.le_of_ble_eq_true rfl) vy_J0_length_8abf5 (zo_O158 hZ) zw531 zw532 zw2386 dX12_tellText_4 (wX12_tellText_7 hZ j hj)) s_none)))))))))))))))))))))))))))))))))))))))))))))))))))))))))))))))))))))))))))))
noncomputable def vX12_tellText_0 (j : Nat → rx_K) : rx_K := o_const 0 (o_st rx_isI 2 ((vX12_tellText_2 j)))
set_option maxRecDepth 20000 in
theorem wX12_tellText_0 (hZ : zO b e D A X) (j : Nat → rx_K) (hj : ∀ k pc, [2][k]? = some pc → rx_OK (zV b e D A X) mX12_tellText 4 pc (j k)) : rx_OK (zV b e D A X) mX12_tellText 4 0 (vX12_tellText_0 j) := by
  unfold vX12_tellText_0
  refine s_iconst dX12_tellText_0 (by decide +kernel) ?_
  refine s_istore_n hZ.1 dX12_tellText_1 rfl (Nat.le_of_ble_eq_true rfl) ?_
  exact (wX12_tellText_2 hZ j hj)
noncomputable def vhX12_tellText (j : Nat → rx_K) : List rx_K := [vX12_tellText_2 j]
theorem vlX12_tellText (hZ : zO b e D A X) : ∀ n k pc, [2][k]? = some pc → rx_OK (zV b e D A X) mX12_tellText 4 pc (rx_J (vhX12_tellText) n k) := rx_loop fun j hj k pc h => by
  match k, h with
  | 0, h =>
    have e9 := Option.some.inj (show some 2 = some pc from h)
    subst e9
    exact wX12_tellText_2 hZ j hj
  | _ + 1, h => exact absurd h (by simp)
noncomputable def FX12_tellText : List Nat → rx_H → Option (Nat × rx_H) := rx_ent 3 (vX12_tellText_0 (rx_J (vhX12_tellText) 4000000000))
theorem Met_X12_tellText (hZ : zO b e D A X) : rx_Met (zV b e D A X) 4 yX12_tellText mX12_tellText (FX12_tellText) := rx_entry hZ.1 (wX12_tellText_0 hZ _ (vlX12_tellText hZ 4000000000)) (by decide +kernel) rfl (fun h => by cases h)
abbrev mX12_tellLetters : rx_M := (RX12, cX12_tellLetters, 5, none, false)
theorem vy_X12_tellLetters : rx_Y (zV b e D A X) yX12_tellLetters mX12_tellLetters 1 := ⟨zw2408, zw413, by decide, by decide +kernel, by decide +kernel, by decide +kernel⟩
noncomputable def vX12_tellLetters_75 (j : Nat → rx_K) : rx_K := o_ret0
set_option maxRecDepth 20000 in
theorem wX12_tellLetters_75 (hZ : zO b e D A X) (j : Nat → rx_K) (hj : ∀ k pc, [3][k]? = some pc → rx_OK (zV b e D A X) mX12_tellLetters 1 pc (j k)) : rx_OK (zV b e D A X) mX12_tellLetters 1 75 (vX12_tellLetters_75 j) := by
  unfold vX12_tellLetters_75
  exact s_vret rfl dX12_tellLetters_75
noncomputable def vX12_tellLetters_69 (j : Nat → rx_K) : rx_K := o_inc 3 (-6) ((j 0))
set_option maxRecDepth 20000 in
theorem wX12_tellLetters_69 (hZ : zO b e D A X) (j : Nat → rx_K) (hj : ∀ k pc, [3][k]? = some pc → rx_OK (zV b e D A X) mX12_tellLetters 1 pc (j k)) : rx_OK (zV b e D A X) mX12_tellLetters 1 69 (vX12_tellLetters_69 j) := by
  unfold vX12_tellLetters_69
  refine s_iinc hZ.1 dX12_tellLetters_69 (Nat.le_of_ble_eq_true rfl) ?_
  exact s_goto dX12_tellLetters_72 (by decide) (hj 0 3 rfl)
noncomputable def vX12_tellLetters_66 (j : Nat → rx_K) : rx_K := o_callV 1 12 FX12_tellByte ((vX12_tellLetters_69 j))
set_option maxRecDepth 20000 in
theorem wX12_tellLetters_66 (hZ : zO b e D A X) (j : Nat → rx_K) (hj : ∀ k pc, [3][k]? = some pc → rx_OK (zV b e D A X) mX12_tellLetters 1 pc (j k)) : rx_OK (zV b e D A X) mX12_tellLetters 1 66 (vX12_tellLetters_66 j) := by
  unfold vX12_tellLetters_66
  refine s_callV hZ.1 (Met_X12_tellByte hZ) (Nat.le_of_ble_eq_true rfl) vy_X12_tellByte zcl12 zw2390 zw116 (Or.inl zw2388) dX12_tellLetters_66 ?_
  exact (wX12_tellLetters_69 hZ j hj)
noncomputable def vX12_tellLetters_58 (j : Nat → rx_K) : rx_K := o_const 384 (o_ld rx_isI 4 (o_bi (fun x y => x + y) (o_const 424 (o_bi (fun x y => x - y) ((vX12_tellLetters_66 j))))))
set_option maxRecDepth 20000 in
theorem wX12_tellLetters_58 (hZ : zO b e D A X) (j : Nat → rx_K) (hj : ∀ k pc, [3][k]? = some pc → rx_OK (zV b e D A X) mX12_tellLetters 1 pc (j k)) : rx_OK (zV b e D A X) mX12_tellLetters 1 58 (vX12_tellLetters_58 j) := by
  unfold vX12_tellLetters_58
  refine s_bipush dX12_tellLetters_58 (by decide +kernel) ?_
  refine s_iload hZ.1 dX12_tellLetters_60 ?_
  refine s_iadd dX12_tellLetters_62 ?_
  refine s_bipush dX12_tellLetters_63 (by decide +kernel) ?_
  refine s_isub dX12_tellLetters_65 ?_
  exact (wX12_tellLetters_66 hZ j hj)
noncomputable def vX12_tellLetters_47 (j : Nat → rx_K) : rx_K := o_const 520 (o_ld rx_isI 4 (o_bi (fun x y => x + y) (o_const 216 (o_bi (fun x y => x - y) ((vX12_tellLetters_66 j))))))
set_option maxRecDepth 20000 in
theorem wX12_tellLetters_47 (hZ : zO b e D A X) (j : Nat → rx_K) (hj : ∀ k pc, [3][k]? = some pc → rx_OK (zV b e D A X) mX12_tellLetters 1 pc (j k)) : rx_OK (zV b e D A X) mX12_tellLetters 1 47 (vX12_tellLetters_47 j) := by
  unfold vX12_tellLetters_47
  refine s_bipush dX12_tellLetters_47 (by decide +kernel) ?_
  refine s_iload hZ.1 dX12_tellLetters_49 ?_
  refine s_iadd dX12_tellLetters_51 ?_
  refine s_bipush dX12_tellLetters_52 (by decide +kernel) ?_
  refine s_isub dX12_tellLetters_54 ?_
  exact s_goto dX12_tellLetters_55 (by decide) (wX12_tellLetters_66 hZ j hj)
noncomputable def vX12_tellLetters_40 (j : Nat → rx_K) : rx_K := o_ld rx_isI 4 (o_const 416 (o_c2 (fun h x y => rx_lt h y x) (vX12_tellLetters_58 j) (vX12_tellLetters_47 j)))
set_option maxRecDepth 20000 in
theorem wX12_tellLetters_40 (hZ : zO b e D A X) (j : Nat → rx_K) (hj : ∀ k pc, [3][k]? = some pc → rx_OK (zV b e D A X) mX12_tellLetters 1 pc (j k)) : rx_OK (zV b e D A X) mX12_tellLetters 1 40 (vX12_tellLetters_40 j) := by
  unfold vX12_tellLetters_40
  refine s_iload hZ.1 dX12_tellLetters_40 ?_
  refine s_bipush dX12_tellLetters_42 (by decide +kernel) ?_
  exact s_icmp_gt dX12_tellLetters_44 (by decide) (wX12_tellLetters_58 hZ j hj) (wX12_tellLetters_47 hZ j hj)
noncomputable def vX12_tellLetters_30 (j : Nat → rx_K) : rx_K := o_const 776 (o_ld rx_isI 4 (o_bi (fun x y => x + y) (o_const 8 (o_bi (fun x y => x - y) ((vX12_tellLetters_66 j))))))
set_option maxRecDepth 20000 in
theorem wX12_tellLetters_30 (hZ : zO b e D A X) (j : Nat → rx_K) (hj : ∀ k pc, [3][k]? = some pc → rx_OK (zV b e D A X) mX12_tellLetters 1 pc (j k)) : rx_OK (zV b e D A X) mX12_tellLetters 1 30 (vX12_tellLetters_30 j) := by
  unfold vX12_tellLetters_30
  refine s_bipush dX12_tellLetters_30 (by decide +kernel) ?_
  refine s_iload hZ.1 dX12_tellLetters_32 ?_
  refine s_iadd dX12_tellLetters_34 ?_
  refine s_iconst dX12_tellLetters_35 (by decide +kernel) ?_
  refine s_isub dX12_tellLetters_36 ?_
  exact s_goto dX12_tellLetters_37 (by decide) (wX12_tellLetters_66 hZ j hj)
noncomputable def vX12_tellLetters_22 (j : Nat → rx_K) : rx_K := o_ld rx_isR 0 (o_ld rx_isI 4 (o_const 208 (o_c2 (fun h x y => rx_lt h y x) (vX12_tellLetters_40 j) (vX12_tellLetters_30 j))))
set_option maxRecDepth 20000 in
theorem wX12_tellLetters_22 (hZ : zO b e D A X) (j : Nat → rx_K) (hj : ∀ k pc, [3][k]? = some pc → rx_OK (zV b e D A X) mX12_tellLetters 1 pc (j k)) : rx_OK (zV b e D A X) mX12_tellLetters 1 22 (vX12_tellLetters_22 j) := by
  unfold vX12_tellLetters_22
  refine s_aload_n hZ.1 dX12_tellLetters_22 rfl ?_
  refine s_iload hZ.1 dX12_tellLetters_23 ?_
  refine s_bipush dX12_tellLetters_25 (by decide +kernel) ?_
  exact s_icmp_gt dX12_tellLetters_27 (by decide) (wX12_tellLetters_40 hZ j hj) (wX12_tellLetters_30 hZ j hj)
noncomputable def vX12_tellLetters_7 (j : Nat → rx_K) : rx_K := o_ld rx_isL 1 (o_ld rx_isI 3 (o_bs (fun x y => (x.toUInt64 >>> (y.toInt64.toUInt64 &&& Int64.toUInt64 63)).toInt64) (o_const 505 (o_bl (fun x y => x &&& y) (o_li (fun x => x.toInt32) (o_st rx_isI 4 (o_ld rx_isI 4 (o_c1 (fun h x y => rx_lt h y x) (vX12_tellLetters_22 j) (vX12_tellLetters_69 j)))))))))
set_option maxRecDepth 20000 in
theorem wX12_tellLetters_7 (hZ : zO b e D A X) (j : Nat → rx_K) (hj : ∀ k pc, [3][k]? = some pc → rx_OK (zV b e D A X) mX12_tellLetters 1 pc (j k)) : rx_OK (zV b e D A X) mX12_tellLetters 1 7 (vX12_tellLetters_7 j) := by
  unfold vX12_tellLetters_7
  refine s_lload_n hZ.1 dX12_tellLetters_7 rfl ?_
  refine s_iload_n hZ.1 dX12_tellLetters_8 rfl ?_
  refine s_lushr dX12_tellLetters_9 ?_
  refine s_ldc2 dX12_tellLetters_10 zw2409 (by decide +kernel) ?_
  refine s_land dX12_tellLetters_13 ?_
  refine s_l2i dX12_tellLetters_14 ?_
  refine s_istore hZ.1 dX12_tellLetters_15 (Nat.le_of_ble_eq_true rfl) ?_
  refine s_iload hZ.1 dX12_tellLetters_17 ?_
  exact s_if_le dX12_tellLetters_19 (by decide) (wX12_tellLetters_69 hZ j hj) (wX12_tellLetters_22 hZ j hj)
noncomputable def vX12_tellLetters_3 (j : Nat → rx_K) : rx_K := o_ld rx_isI 3 (o_c1 rx_lt (vX12_tellLetters_75 j) (vX12_tellLetters_7 j))
set_option maxRecDepth 20000 in
theorem wX12_tellLetters_3 (hZ : zO b e D A X) (j : Nat → rx_K) (hj : ∀ k pc, [3][k]? = some pc → rx_OK (zV b e D A X) mX12_tellLetters 1 pc (j k)) : rx_OK (zV b e D A X) mX12_tellLetters 1 3 (vX12_tellLetters_3 j) := by
  unfold vX12_tellLetters_3
  refine s_iload_n hZ.1 dX12_tellLetters_3 rfl ?_
  exact s_if_lt dX12_tellLetters_4 (by decide) (wX12_tellLetters_75 hZ j hj) (wX12_tellLetters_7 hZ j hj)
noncomputable def vX12_tellLetters_0 (j : Nat → rx_K) : rx_K := o_const 384 (o_st rx_isI 3 ((vX12_tellLetters_3 j)))
set_option maxRecDepth 20000 in
theorem wX12_tellLetters_0 (hZ : zO b e D A X) (j : Nat → rx_K) (hj : ∀ k pc, [3][k]? = some pc → rx_OK (zV b e D A X) mX12_tellLetters 1 pc (j k)) : rx_OK (zV b e D A X) mX12_tellLetters 1 0 (vX12_tellLetters_0 j) := by
  unfold vX12_tellLetters_0
  refine s_bipush dX12_tellLetters_0 (by decide +kernel) ?_
  refine s_istore_n hZ.1 dX12_tellLetters_2 rfl (Nat.le_of_ble_eq_true rfl) ?_
  exact (wX12_tellLetters_3 hZ j hj)
noncomputable def vhX12_tellLetters (j : Nat → rx_K) : List rx_K := [vX12_tellLetters_3 j]
theorem vlX12_tellLetters (hZ : zO b e D A X) : ∀ n k pc, [3][k]? = some pc → rx_OK (zV b e D A X) mX12_tellLetters 1 pc (rx_J (vhX12_tellLetters) n k) := rx_loop fun j hj k pc h => by
  match k, h with
  | 0, h =>
    have e9 := Option.some.inj (show some 3 = some pc from h)
    subst e9
    exact wX12_tellLetters_3 hZ j hj
  | _ + 1, h => exact absurd h (by simp)
noncomputable def FX12_tellLetters : List Nat → rx_H → Option (Nat × rx_H) := rx_ent 5 (vX12_tellLetters_0 (rx_J (vhX12_tellLetters) 4000000000))
theorem Met_X12_tellLetters (hZ : zO b e D A X) : rx_Met (zV b e D A X) 1 yX12_tellLetters mX12_tellLetters (FX12_tellLetters) := rx_entry hZ.1 (wX12_tellLetters_0 hZ _ (vlX12_tellLetters hZ 4000000000)) (by decide +kernel) rfl (fun h => by cases h)
abbrev mX12_tellType : rx_M := (RX12, cX12_tellType, 3, none, false)
theorem vy_X12_tellType : rx_Y (zV b e D A X) yX12_tellType mX12_tellType 1 := ⟨zw2399, zw413, by decide, by decide +kernel, by decide +kernel, by decide +kernel⟩
noncomputable def vX12_tellType_77 : rx_K := o_ret0
set_option maxRecDepth 20000 in
theorem wX12_tellType_77 (hZ : zO b e D A X) : rx_OK (zV b e D A X) mX12_tellType 5 77 vX12_tellType_77 := by
  unfold vX12_tellType_77
  exact s_vret rfl dX12_tellType_77
noncomputable def vX12_tellType_38 : rx_K := o_ld rx_isR 0 (o_const 776 (o_ld rx_isL 1 (o_const 472 (o_bs (fun x y => (x.toUInt64 >>> (y.toInt64.toUInt64 &&& Int64.toUInt64 63)).toInt64) (o_li (fun x => x.toInt32) (o_bi (fun x y => x + y) (o_callV 1 12 FX12_tellByte (o_ld rx_isR 0 (o_const 368 (o_callV 1 12 FX12_tellByte (o_ld rx_isR 0 (o_const 520 (o_ld rx_isL 1 (o_const 432 (o_bs (fun x y => (x.toUInt64 >>> (y.toInt64.toUInt64 &&& Int64.toUInt64 63)).toInt64) (o_const 249 (o_bl (fun x y => x &&& y) (o_li (fun x => x.toInt32) (o_bi (fun x y => x + y) (o_callV 1 12 FX12_tellByte (o_ld rx_isR 0 (o_ld rx_isL 1 (o_callV 1 12 FX12_tellLetters (vX12_tellType_77))))))))))))))))))))))))
set_option maxRecDepth 20000 in
theorem wX12_tellType_38 (hZ : zO b e D A X) : rx_OK (zV b e D A X) mX12_tellType 5 38 vX12_tellType_38 := by
  unfold vX12_tellType_38
  refine s_aload_n hZ.1 dX12_tellType_38 rfl ?_
  refine s_bipush dX12_tellType_39 (by decide +kernel) ?_
  refine s_lload_n hZ.1 dX12_tellType_41 rfl ?_
  refine s_bipush dX12_tellType_42 (by decide +kernel) ?_
  refine s_lushr dX12_tellType_44 ?_
  refine s_l2i dX12_tellType_45 ?_
  refine s_iadd dX12_tellType_46 ?_
  refine s_callV hZ.1 (Met_X12_tellByte hZ) (Nat.le_of_ble_eq_true rfl) vy_X12_tellByte zcl12 zw2390 zw116 (Or.inl zw2388) dX12_tellType_47 ?_
  refine s_aload_n hZ.1 dX12_tellType_50 rfl ?_
  refine s_bipush dX12_tellType_51 (by decide +kernel) ?_
  refine s_callV hZ.1 (Met_X12_tellByte hZ) (Nat.le_of_ble_eq_true rfl) vy_X12_tellByte zcl12 zw2390 zw116 (Or.inl zw2388) dX12_tellType_53 ?_
  refine s_aload_n hZ.1 dX12_tellType_56 rfl ?_
  refine s_bipush dX12_tellType_57 (by decide +kernel) ?_
  refine s_lload_n hZ.1 dX12_tellType_59 rfl ?_
  refine s_bipush dX12_tellType_60 (by decide +kernel) ?_
  refine s_lushr dX12_tellType_62 ?_
  refine s_ldc2 dX12_tellType_63 zw2404 (by decide +kernel) ?_
  refine s_land dX12_tellType_66 ?_
  refine s_l2i dX12_tellType_67 ?_
  refine s_iadd dX12_tellType_68 ?_
  refine s_callV hZ.1 (Met_X12_tellByte hZ) (Nat.le_of_ble_eq_true rfl) vy_X12_tellByte zcl12 zw2390 zw116 (Or.inl zw2388) dX12_tellType_69 ?_
  refine s_aload_n hZ.1 dX12_tellType_72 rfl ?_
  refine s_lload_n hZ.1 dX12_tellType_73 rfl ?_
  refine s_callV hZ.1 (Met_X12_tellLetters hZ) (Nat.le_of_ble_eq_true rfl) vy_X12_tellLetters zcl12 zw2407 zw118 (Or.inl zw2405) dX12_tellType_74 ?_
  exact (wX12_tellType_77 hZ)
noncomputable def vX12_tellType_34 : rx_K := o_callV 1 12 FX12_tellText (o_ret0)
set_option maxRecDepth 20000 in
theorem wX12_tellType_34 (hZ : zO b e D A X) : rx_OK (zV b e D A X) mX12_tellType 5 34 vX12_tellType_34 := by
  unfold vX12_tellType_34
  refine s_callV hZ.1 (Met_X12_tellText hZ) (Nat.le_of_ble_eq_true rfl) vy_X12_tellText zcl12 zw2384 zw115 (Or.inl zw2382) dX12_tellType_34 ?_
  exact s_vret rfl dX12_tellType_37
noncomputable def vX12_tellType_31 : rx_K := o_const 388 (vX12_tellType_34)
set_option maxRecDepth 20000 in
theorem wX12_tellType_31 (hZ : zO b e D A X) : rx_OK (zV b e D A X) mX12_tellType 5 31 vX12_tellType_31 := by
  unfold vX12_tellType_31
  refine s_ldcwS (k := 48) (zo_R48 hZ) dX12_tellType_31 ?_
  exact (wX12_tellType_34 hZ)
noncomputable def vX12_tellType_25 : rx_K := o_const 372 (vX12_tellType_34)
set_option maxRecDepth 20000 in
theorem wX12_tellType_25 (hZ : zO b e D A X) : rx_OK (zV b e D A X) mX12_tellType 5 25 vX12_tellType_25 := by
  unfold vX12_tellType_25
  refine s_ldcwS (k := 46) (zo_R46 hZ) dX12_tellType_25 ?_
  exact s_goto dX12_tellType_28 (by decide) (wX12_tellType_34 hZ)
noncomputable def vX12_tellType_16 : rx_K := o_ld rx_isR 0 (o_ld rx_isL 1 (o_const 147573952589676412921 (o_bc (fun x y => lg_cmp x y) (o_c1 rx_eq vX12_tellType_25 vX12_tellType_31))))
set_option maxRecDepth 20000 in
theorem wX12_tellType_16 (hZ : zO b e D A X) : rx_OK (zV b e D A X) mX12_tellType 5 16 vX12_tellType_16 := by
  unfold vX12_tellType_16
  refine s_aload_n hZ.1 dX12_tellType_16 rfl ?_
  refine s_lload_n hZ.1 dX12_tellType_17 rfl ?_
  refine s_ldc2 dX12_tellType_18 zw2400 (by decide +kernel) ?_
  refine s_lcmp dX12_tellType_21 ?_
  exact s_if_ne dX12_tellType_22 (by decide) (wX12_tellType_31 hZ) (wX12_tellType_25 hZ)
noncomputable def vX12_tellType_8 : rx_K := o_ld rx_isL 1 (o_const 147573952589676412905 (o_bc (fun x y => lg_cmp x y) (o_c1 rx_eq vX12_tellType_16 vX12_tellType_38)))
set_option maxRecDepth 20000 in
theorem wX12_tellType_8 (hZ : zO b e D A X) : rx_OK (zV b e D A X) mX12_tellType 5 8 vX12_tellType_8 := by
  unfold vX12_tellType_8
  refine s_lload_n hZ.1 dX12_tellType_8 rfl ?_
  refine s_ldc2 dX12_tellType_9 zw2401 (by decide +kernel) ?_
  refine s_lcmp dX12_tellType_12 ?_
  exact s_if_ne dX12_tellType_13 (by decide) (wX12_tellType_38 hZ) (wX12_tellType_16 hZ)
noncomputable def vX12_tellType_0 : rx_K := o_ld rx_isL 1 (o_const 147573952589676412921 (o_bc (fun x y => lg_cmp x y) (o_c1 rx_eq vX12_tellType_16 vX12_tellType_8)))
set_option maxRecDepth 20000 in
theorem wX12_tellType_0 (hZ : zO b e D A X) : rx_OK (zV b e D A X) mX12_tellType 5 0 vX12_tellType_0 := by
  unfold vX12_tellType_0
  refine s_lload_n hZ.1 dX12_tellType_0 rfl ?_
  refine s_ldc2 dX12_tellType_1 zw2400 (by decide +kernel) ?_
  refine s_lcmp dX12_tellType_4 ?_
  exact s_if_eq dX12_tellType_5 (by decide) (wX12_tellType_16 hZ) (wX12_tellType_8 hZ)
noncomputable def FX12_tellType : List Nat → rx_H → Option (Nat × rx_H) := rx_ent 3 vX12_tellType_0
theorem Met_X12_tellType (hZ : zO b e D A X) : rx_Met (zV b e D A X) 5 yX12_tellType mX12_tellType (FX12_tellType) := rx_entry hZ.1 (wX12_tellType_0 hZ) (by decide +kernel) rfl (fun h => by cases h)
end ZM31

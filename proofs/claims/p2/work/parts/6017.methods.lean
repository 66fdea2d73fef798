section ZM17
variable {b : Nat} {e : Nat → Value} {D : va_G} {A : Nat → ClassId} {X : State → Prop}
abbrev mX5_askCatch : rx_M := (RX5, cX5_askCatch, 5, (some .int), false)
theorem vy_X5_askCatch : rx_Y (zV b e D A X) yX5_askCatch mX5_askCatch 1 := ⟨zw2513, zw428, by decide, by decide +kernel, by decide +kernel, by decide +kernel⟩
noncomputable def vX5_askCatch_58 : rx_K := o_ret1 rx_isI
set_option maxRecDepth 20000 in
theorem wX5_askCatch_58 (hZ : zO b e D A X) : rx_OK (zV b e D A X) mX5_askCatch 2 58 vX5_askCatch_58 := by
  unfold vX5_askCatch_58
  exact s_iret hZ.1 rfl dX5_askCatch_58
noncomputable def vX5_askCatch_56 : rx_K := o_const 88 (vX5_askCatch_58)
set_option maxRecDepth 20000 in
theorem wX5_askCatch_56 (hZ : zO b e D A X) : rx_OK (zV b e D A X) mX5_askCatch 2 56 vX5_askCatch_56 := by
  unfold vX5_askCatch_56
  refine s_bipush dX5_askCatch_56 (by decide +kernel) ?_
  exact (wX5_askCatch_58 hZ)
noncomputable def vX5_askCatch_51 : rx_K := o_ld rx_isI 4 (vX5_askCatch_58)
set_option maxRecDepth 20000 in
theorem wX5_askCatch_51 (hZ : zO b e D A X) : rx_OK (zV b e D A X) mX5_askCatch 2 51 vX5_askCatch_51 := by
  unfold vX5_askCatch_51
  refine s_iload hZ.1 dX5_askCatch_51 ?_
  exact s_goto dX5_askCatch_53 (by decide) (wX5_askCatch_58 hZ)
noncomputable def vX5_askCatch_39 : rx_K := o_ld rx_isR 0 (o_getf 5 0 (o_ld rx_isI 3 (o_const 8 (o_callV 2 11 FX11_heir (o_c1 rx_eq vX5_askCatch_56 vX5_askCatch_51)))))
set_option maxRecDepth 20000 in
theorem wX5_askCatch_39 (hZ : zO b e D A X) : rx_OK (zV b e D A X) mX5_askCatch 2 39 vX5_askCatch_39 := by
  unfold vX5_askCatch_39
  refine s_aload_n hZ.1 dX5_askCatch_39 rfl ?_
  refine yg5_0 dX5_askCatch_40 zw1350 ?_
  refine s_iload_n hZ.1 dX5_askCatch_43 rfl ?_
  refine s_iconst dX5_askCatch_44 (by decide +kernel) ?_
  refine s_callV hZ.1 (Met_X11_heir hZ) (Nat.le_of_ble_eq_true rfl) vy_X11_heir zcl11 zw1918 zw1919 (Or.inl zw2509) dX5_askCatch_45 ?_
  exact s_if_eq dX5_askCatch_48 (by decide) (wX5_askCatch_56 hZ) (wX5_askCatch_51 hZ)
noncomputable def vX5_askCatch_34 : rx_K := o_ld rx_isI 3 (o_const 8 (o_c2 rx_eq vX5_askCatch_51 vX5_askCatch_39))
set_option maxRecDepth 20000 in
theorem wX5_askCatch_34 (hZ : zO b e D A X) : rx_OK (zV b e D A X) mX5_askCatch 2 34 vX5_askCatch_34 := by
  unfold vX5_askCatch_34
  refine s_iload_n hZ.1 dX5_askCatch_34 rfl ?_
  refine s_iconst dX5_askCatch_35 (by decide +kernel) ?_
  exact s_icmp_eq dX5_askCatch_36 (by decide) (wX5_askCatch_51 hZ) (wX5_askCatch_39 hZ)
noncomputable def vX5_askCatch_27 : rx_K := o_st rx_isI 4 (o_ld rx_isI 4 (o_c1 rx_eq vX5_askCatch_34 vX5_askCatch_51))
set_option maxRecDepth 20000 in
theorem wX5_askCatch_27 (hZ : zO b e D A X) : rx_OK (zV b e D A X) mX5_askCatch 2 27 vX5_askCatch_27 := by
  unfold vX5_askCatch_27
  refine s_istore hZ.1 dX5_askCatch_27 (Nat.le_of_ble_eq_true rfl) ?_
  refine s_iload hZ.1 dX5_askCatch_29 ?_
  exact s_if_ne dX5_askCatch_31 (by decide) (wX5_askCatch_51 hZ) (wX5_askCatch_34 hZ)
noncomputable def vX5_askCatch_22 : rx_K := o_ld rx_isR 0 (o_ld rx_isI 3 (o_callV 1 5 FX5_load (vX5_askCatch_27)))
set_option maxRecDepth 20000 in
theorem wX5_askCatch_22 (hZ : zO b e D A X) : rx_OK (zV b e D A X) mX5_askCatch 2 22 vX5_askCatch_22 := by
  unfold vX5_askCatch_22
  refine s_aload_n hZ.1 dX5_askCatch_22 rfl ?_
  refine s_iload_n hZ.1 dX5_askCatch_23 rfl ?_
  refine s_callV hZ.1 (Met_X5_load hZ) (Nat.le_of_ble_eq_true rfl) vy_X5_load zcl5 zw2493 zw2494 (Or.inl zw2492) dX5_askCatch_24 ?_
  exact (wX5_askCatch_27 hZ)
noncomputable def vX5_askCatch_18 : rx_K := o_const 8 (vX5_askCatch_27)
set_option maxRecDepth 20000 in
theorem wX5_askCatch_18 (hZ : zO b e D A X) : rx_OK (zV b e D A X) mX5_askCatch 2 18 vX5_askCatch_18 := by
  unfold vX5_askCatch_18
  refine s_iconst dX5_askCatch_18 (by decide +kernel) ?_
  exact s_goto dX5_askCatch_19 (by decide) (wX5_askCatch_27 hZ)
noncomputable def vX5_askCatch_0 : rx_K := o_ld rx_isR 0 (o_getf 5 0 (o_ld rx_isL 1 (o_callV 1 11 FX11_find (o_st rx_isI 3 (o_ld rx_isR 0 (o_ld rx_isI 3 (o_putf rx_isI 5 14 (o_ld rx_isI 3 (o_c1 rx_lt vX5_askCatch_18 vX5_askCatch_22)))))))))
set_option maxRecDepth 20000 in
theorem wX5_askCatch_0 (hZ : zO b e D A X) : rx_OK (zV b e D A X) mX5_askCatch 2 0 vX5_askCatch_0 := by
  unfold vX5_askCatch_0
  refine s_aload_n hZ.1 dX5_askCatch_0 rfl ?_
  refine yg5_0 dX5_askCatch_1 zw1350 ?_
  refine s_lload_n hZ.1 dX5_askCatch_4 rfl ?_
  refine s_callV hZ.1 (Met_X11_find hZ) (Nat.le_of_ble_eq_true rfl) vy_X11_find zcl11 zw1574 zw1575 (Or.inl zw2489) dX5_askCatch_5 ?_
  refine s_istore_n hZ.1 dX5_askCatch_8 rfl (Nat.le_of_ble_eq_true rfl) ?_
  refine s_aload_n hZ.1 dX5_askCatch_9 rfl ?_
  refine s_iload_n hZ.1 dX5_askCatch_10 rfl ?_
  refine yp5_14 hZ.1 dX5_askCatch_11 zw1373 ?_
  refine s_iload_n hZ.1 dX5_askCatch_14 rfl ?_
  exact s_if_ge dX5_askCatch_15 (by decide) (wX5_askCatch_22 hZ) (wX5_askCatch_18 hZ)
noncomputable def FX5_askCatch : List Nat → rx_H → Option (Nat × rx_H) := rx_ent 5 vX5_askCatch_0
theorem Met_X5_askCatch (hZ : zO b e D A X) : rx_Met (zV b e D A X) 2 yX5_askCatch mX5_askCatch (FX5_askCatch) := rx_entry hZ.1 (wX5_askCatch_0 hZ) (by decide +kernel) rfl (fun h => by cases h)
abbrev mX5_askFit : rx_M := (RX5, cX5_askFit, 8, (some .int), false)
theorem vy_X5_askFit : rx_Y (zV b e D A X) yX5_askFit mX5_askFit 2 := ⟨zw2508, zw428, by decide, by decide +kernel, by decide +kernel, by decide +kernel⟩
noncomputable def vX5_askFit_111 : rx_K := o_ret1 rx_isI
set_option maxRecDepth 20000 in
theorem wX5_askFit_111 (hZ : zO b e D A X) : rx_OK (zV b e D A X) mX5_askFit 2 111 vX5_askFit_111 := by
  unfold vX5_askFit_111
  exact s_iret hZ.1 rfl dX5_askFit_111
noncomputable def vX5_askFit_109 : rx_K := o_const 88 (vX5_askFit_111)
set_option maxRecDepth 20000 in
theorem wX5_askFit_109 (hZ : zO b e D A X) : rx_OK (zV b e D A X) mX5_askFit 2 109 vX5_askFit_109 := by
  unfold vX5_askFit_109
  refine s_bipush dX5_askFit_109 (by decide +kernel) ?_
  exact (wX5_askFit_111 hZ)
noncomputable def vX5_askFit_104 : rx_K := o_ld rx_isI 6 (vX5_askFit_111)
set_option maxRecDepth 20000 in
theorem wX5_askFit_104 (hZ : zO b e D A X) : rx_OK (zV b e D A X) mX5_askFit 2 104 vX5_askFit_104 := by
  unfold vX5_askFit_104
  refine s_iload hZ.1 dX5_askFit_104 ?_
  exact s_goto dX5_askFit_106 (by decide) (wX5_askFit_111 hZ)
noncomputable def vX5_askFit_90 : rx_K := o_ld rx_isR 0 (o_getf 5 0 (o_ld rx_isI 7 (o_ld rx_isI 5 (o_callV 2 11 FX11_heir (o_c1 rx_eq vX5_askFit_109 vX5_askFit_104)))))
set_option maxRecDepth 20000 in
theorem wX5_askFit_90 (hZ : zO b e D A X) : rx_OK (zV b e D A X) mX5_askFit 2 90 vX5_askFit_90 := by
  unfold vX5_askFit_90
  refine s_aload_n hZ.1 dX5_askFit_90 rfl ?_
  refine yg5_0 dX5_askFit_91 zw1350 ?_
  refine s_iload hZ.1 dX5_askFit_94 ?_
  refine s_iload hZ.1 dX5_askFit_96 ?_
  refine s_callV hZ.1 (Met_X11_heir hZ) (Nat.le_of_ble_eq_true rfl) vy_X11_heir zcl11 zw1918 zw1919 (Or.inl zw2509) dX5_askFit_98 ?_
  exact s_if_eq dX5_askFit_101 (by decide) (wX5_askFit_109 hZ) (wX5_askFit_104 hZ)
noncomputable def vX5_askFit_83 : rx_K := o_ld rx_isI 7 (o_ld rx_isI 5 (o_c2 rx_eq vX5_askFit_104 vX5_askFit_90))
set_option maxRecDepth 20000 in
theorem wX5_askFit_83 (hZ : zO b e D A X) : rx_OK (zV b e D A X) mX5_askFit 2 83 vX5_askFit_83 := by
  unfold vX5_askFit_83
  refine s_iload hZ.1 dX5_askFit_83 ?_
  refine s_iload hZ.1 dX5_askFit_85 ?_
  exact s_icmp_eq dX5_askFit_87 (by decide) (wX5_askFit_104 hZ) (wX5_askFit_90 hZ)
noncomputable def vX5_askFit_76 : rx_K := o_st rx_isI 6 (o_ld rx_isI 6 (o_c1 rx_eq vX5_askFit_83 vX5_askFit_104))
set_option maxRecDepth 20000 in
theorem wX5_askFit_76 (hZ : zO b e D A X) : rx_OK (zV b e D A X) mX5_askFit 2 76 vX5_askFit_76 := by
  unfold vX5_askFit_76
  refine s_istore hZ.1 dX5_askFit_76 (Nat.le_of_ble_eq_true rfl) ?_
  refine s_iload hZ.1 dX5_askFit_78 ?_
  exact s_if_ne dX5_askFit_80 (by decide) (wX5_askFit_104 hZ) (wX5_askFit_83 hZ)
noncomputable def vX5_askFit_70 : rx_K := o_ld rx_isR 0 (o_ld rx_isI 7 (o_callV 1 5 FX5_load (vX5_askFit_76)))
set_option maxRecDepth 20000 in
theorem wX5_askFit_70 (hZ : zO b e D A X) : rx_OK (zV b e D A X) mX5_askFit 2 70 vX5_askFit_70 := by
  unfold vX5_askFit_70
  refine s_aload_n hZ.1 dX5_askFit_70 rfl ?_
  refine s_iload hZ.1 dX5_askFit_71 ?_
  refine s_callV hZ.1 (Met_X5_load hZ) (Nat.le_of_ble_eq_true rfl) vy_X5_load zcl5 zw2493 zw2494 (Or.inl zw2492) dX5_askFit_73 ?_
  exact (wX5_askFit_76 hZ)
noncomputable def vX5_askFit_66 : rx_K := o_const 8 (vX5_askFit_76)
set_option maxRecDepth 20000 in
theorem wX5_askFit_66 (hZ : zO b e D A X) : rx_OK (zV b e D A X) mX5_askFit 2 66 vX5_askFit_66 := by
  unfold vX5_askFit_66
  refine s_iconst dX5_askFit_66 (by decide +kernel) ?_
  exact s_goto dX5_askFit_67 (by decide) (wX5_askFit_76 hZ)
noncomputable def vX5_askFit_51 : rx_K := o_ld rx_isR 0 (o_getf 5 0 (o_ld rx_isL 1 (o_callV 1 11 FX11_find (o_st rx_isI 7 (o_ld rx_isI 7 (o_c1 rx_lt vX5_askFit_66 vX5_askFit_70))))))
set_option maxRecDepth 20000 in
theorem wX5_askFit_51 (hZ : zO b e D A X) : rx_OK (zV b e D A X) mX5_askFit 2 51 vX5_askFit_51 := by
  unfold vX5_askFit_51
  refine s_aload_n hZ.1 dX5_askFit_51 rfl ?_
  refine yg5_0 dX5_askFit_52 zw1350 ?_
  refine s_lload_n hZ.1 dX5_askFit_55 rfl ?_
  refine s_callV hZ.1 (Met_X11_find hZ) (Nat.le_of_ble_eq_true rfl) vy_X11_find zcl11 zw1574 zw1575 (Or.inl zw2489) dX5_askFit_56 ?_
  refine s_istore hZ.1 dX5_askFit_59 (Nat.le_of_ble_eq_true rfl) ?_
  refine s_iload hZ.1 dX5_askFit_61 ?_
  exact s_if_ge dX5_askFit_63 (by decide) (wX5_askFit_70 hZ) (wX5_askFit_66 hZ)
noncomputable def vX5_askFit_48 : rx_K := o_ld rx_isI 6 (o_ret1 rx_isI)
set_option maxRecDepth 20000 in
theorem wX5_askFit_48 (hZ : zO b e D A X) : rx_OK (zV b e D A X) mX5_askFit 2 48 vX5_askFit_48 := by
  unfold vX5_askFit_48
  refine s_iload hZ.1 dX5_askFit_48 ?_
  exact s_iret hZ.1 rfl dX5_askFit_50
noncomputable def vX5_askFit_32 : rx_K := o_ld rx_isR 0 (o_getf 5 0 (o_getf 11 1 (o_ld rx_isI 5 (o_ald 4 (o_getf 10 4 (o_c1 rx_eq vX5_askFit_51 vX5_askFit_48))))))
set_option maxRecDepth 20000 in
theorem wX5_askFit_32 (hZ : zO b e D A X) : rx_OK (zV b e D A X) mX5_askFit 2 32 vX5_askFit_32 := by
  unfold vX5_askFit_32
  refine s_aload_n hZ.1 dX5_askFit_32 rfl ?_
  refine yg5_0 dX5_askFit_33 zw1350 ?_
  refine yg11_1 dX5_askFit_36 zw1253 ?_
  refine s_iload hZ.1 dX5_askFit_39 ?_
  refine s_aald (tt := 4) rfl rfl dX5_askFit_41 ?_
  refine yg10_4 dX5_askFit_42 zw794 ?_
  exact s_if_eq dX5_askFit_45 (by decide) (wX5_askFit_51 hZ) (wX5_askFit_48 hZ)
noncomputable def vX5_askFit_25 : rx_K := o_st rx_isI 6 (o_ld rx_isI 6 (o_c1 rx_eq vX5_askFit_32 vX5_askFit_48))
set_option maxRecDepth 20000 in
theorem wX5_askFit_25 (hZ : zO b e D A X) : rx_OK (zV b e D A X) mX5_askFit 2 25 vX5_askFit_25 := by
  unfold vX5_askFit_25
  refine s_istore hZ.1 dX5_askFit_25 (Nat.le_of_ble_eq_true rfl) ?_
  refine s_iload hZ.1 dX5_askFit_27 ?_
  exact s_if_ne dX5_askFit_29 (by decide) (wX5_askFit_48 hZ) (wX5_askFit_32 hZ)
noncomputable def vX5_askFit_19 : rx_K := o_ld rx_isR 0 (o_ld rx_isI 5 (o_callV 1 5 FX5_load (vX5_askFit_25)))
set_option maxRecDepth 20000 in
theorem wX5_askFit_19 (hZ : zO b e D A X) : rx_OK (zV b e D A X) mX5_askFit 2 19 vX5_askFit_19 := by
  unfold vX5_askFit_19
  refine s_aload_n hZ.1 dX5_askFit_19 rfl ?_
  refine s_iload hZ.1 dX5_askFit_20 ?_
  refine s_callV hZ.1 (Met_X5_load hZ) (Nat.le_of_ble_eq_true rfl) vy_X5_load zcl5 zw2493 zw2494 (Or.inl zw2492) dX5_askFit_22 ?_
  exact (wX5_askFit_25 hZ)
noncomputable def vX5_askFit_15 : rx_K := o_const 8 (vX5_askFit_25)
set_option maxRecDepth 20000 in
theorem wX5_askFit_15 (hZ : zO b e D A X) : rx_OK (zV b e D A X) mX5_askFit 2 15 vX5_askFit_15 := by
  unfold vX5_askFit_15
  refine s_iconst dX5_askFit_15 (by decide +kernel) ?_
  exact s_goto dX5_askFit_16 (by decide) (wX5_askFit_25 hZ)
noncomputable def vX5_askFit_0 : rx_K := o_ld rx_isR 0 (o_getf 5 0 (o_ld rx_isL 3 (o_callV 1 11 FX11_find (o_st rx_isI 5 (o_ld rx_isI 5 (o_c1 rx_lt vX5_askFit_15 vX5_askFit_19))))))
set_option maxRecDepth 20000 in
theorem wX5_askFit_0 (hZ : zO b e D A X) : rx_OK (zV b e D A X) mX5_askFit 2 0 vX5_askFit_0 := by
  unfold vX5_askFit_0
  refine s_aload_n hZ.1 dX5_askFit_0 rfl ?_
  refine yg5_0 dX5_askFit_1 zw1350 ?_
  refine s_lload_n hZ.1 dX5_askFit_4 rfl ?_
  refine s_callV hZ.1 (Met_X11_find hZ) (Nat.le_of_ble_eq_true rfl) vy_X11_find zcl11 zw1574 zw1575 (Or.inl zw2489) dX5_askFit_5 ?_
  refine s_istore hZ.1 dX5_askFit_8 (Nat.le_of_ble_eq_true rfl) ?_
  refine s_iload hZ.1 dX5_askFit_10 ?_
  exact s_if_ge dX5_askFit_12 (by decide) (wX5_askFit_19 hZ) (wX5_askFit_15 hZ)
noncomputable def FX5_askFit : List Nat → rx_H → Option (Nat × rx_H) := rx_ent 8 vX5_askFit_0
theorem Met_X5_askFit (hZ : zO b e D A X) : rx_Met (zV b e D A X) 2 yX5_askFit mX5_askFit (FX5_askFit) := rx_entry hZ.1 (wX5_askFit_0 hZ) (by decide +kernel) rfl (fun h => by cases h)
abbrev mX5_linkOwn : rx_M := (RX5, cX5_linkOwn, 8, (some .int), false)
theorem vy_X5_linkOwn : rx_Y (zV b e D A X) yX5_linkOwn mX5_linkOwn 1 := ⟨zw2760, zw428, by decide, by decide +kernel, by decide +kernel, by decide +kernel⟩
noncomputable def vX5_linkOwn_265 (j : Nat → rx_K) : rx_K := o_const 0 (o_ret1 rx_isI)
set_option maxRecDepth 20000 in
theorem wX5_linkOwn_265 (hZ : zO b e D A X) (j : Nat → rx_K) (hj : ∀ k pc, [12, 49, 175][k]? = some pc → rx_OK (zV b e D A X) mX5_linkOwn 3 pc (j k)) : rx_OK (zV b e D A X) mX5_linkOwn 3 265 (vX5_linkOwn_265 j) := by
  unfold vX5_linkOwn_265
  refine s_iconst dX5_linkOwn_265 (by decide +kernel) ?_
  exact s_iret hZ.1 rfl dX5_linkOwn_266
noncomputable def vX5_linkOwn_259 (j : Nat → rx_K) : rx_K := o_inc 4 (1) ((j 2))
set_option maxRecDepth 20000 in
theorem wX5_linkOwn_259 (hZ : zO b e D A X) (j : Nat → rx_K) (hj : ∀ k pc, [12, 49, 175][k]? = some pc → rx_OK (zV b e D A X) mX5_linkOwn 3 pc (j k)) : rx_OK (zV b e D A X) mX5_linkOwn 3 259 (vX5_linkOwn_259 j) := by
  unfold vX5_linkOwn_259
  refine s_iinc hZ.1 dX5_linkOwn_259 (Nat.le_of_ble_eq_true rfl) ?_
  exact s_goto dX5_linkOwn_262 (by decide) (hj 2 175 rfl)
noncomputable def vX5_linkOwn_256 (j : Nat → rx_K) : rx_K := o_ld rx_isI 5 (o_ret1 rx_isI)
set_option maxRecDepth 20000 in
theorem wX5_linkOwn_256 (hZ : zO b e D A X) (j : Nat → rx_K) (hj : ∀ k pc, [12, 49, 175][k]? = some pc → rx_OK (zV b e D A X) mX5_linkOwn 3 pc (j k)) : rx_OK (zV b e D A X) mX5_linkOwn 3 256 (vX5_linkOwn_256 j) := by
  unfold vX5_linkOwn_256
  refine s_iload hZ.1 dX5_linkOwn_256 ?_
  exact s_iret hZ.1 rfl dX5_linkOwn_258
noncomputable def vX5_linkOwn_249 (j : Nat → rx_K) : rx_K := o_st rx_isI 5 (o_ld rx_isI 5 (o_c1 rx_eq (vX5_linkOwn_259 j) (vX5_linkOwn_256 j)))
set_option maxRecDepth 20000 in
theorem wX5_linkOwn_249 (hZ : zO b e D A X) (j : Nat → rx_K) (hj : ∀ k pc, [12, 49, 175][k]? = some pc → rx_OK (zV b e D A X) mX5_linkOwn 3 pc (j k)) : rx_OK (zV b e D A X) mX5_linkOwn 3 249 (vX5_linkOwn_249 j) := by
  unfold vX5_linkOwn_249
  refine s_istore hZ.1 dX5_linkOwn_249 (Nat.le_of_ble_eq_true rfl) ?_
  refine s_iload hZ.1 dX5_linkOwn_251 ?_
  exact s_if_eq dX5_linkOwn_253 (by decide) (wX5_linkOwn_259 hZ j hj) (wX5_linkOwn_256 hZ j hj)
noncomputable def vX5_linkOwn_248 (j : Nat → rx_K) : rx_K := o_const 0 ((vX5_linkOwn_249 j))
set_option maxRecDepth 20000 in
theorem wX5_linkOwn_248 (hZ : zO b e D A X) (j : Nat → rx_K) (hj : ∀ k pc, [12, 49, 175][k]? = some pc → rx_OK (zV b e D A X) mX5_linkOwn 3 pc (j k)) : rx_OK (zV b e D A X) mX5_linkOwn 3 248 (vX5_linkOwn_248 j) := by
  unfold vX5_linkOwn_248
  refine s_iconst dX5_linkOwn_248 (by decide +kernel) ?_
  exact (wX5_linkOwn_249 hZ j hj)
noncomputable def vX5_linkOwn_234 (j : Nat → rx_K) : rx_K := o_ld rx_isR 0 (o_ld rx_isR 3 (o_getf 1 12 (o_ld rx_isI 4 (o_ald 1 (o_callV 1 5 FX5_askCatch ((vX5_linkOwn_249 j)))))))
set_option maxRecDepth 20000 in
theorem wX5_linkOwn_234 (hZ : zO b e D A X) (j : Nat → rx_K) (hj : ∀ k pc, [12, 49, 175][k]? = some pc → rx_OK (zV b e D A X) mX5_linkOwn 3 pc (j k)) : rx_OK (zV b e D A X) mX5_linkOwn 3 234 (vX5_linkOwn_234 j) := by
  unfold vX5_linkOwn_234
  refine s_aload_n hZ.1 dX5_linkOwn_234 rfl ?_
  refine s_aload_n hZ.1 dX5_linkOwn_235 rfl ?_
  refine yg1_12 dX5_linkOwn_236 zw1154 ?_
  refine s_iload hZ.1 dX5_linkOwn_239 ?_
  refine s_lald (tt := 1) rfl dX5_linkOwn_241 ?_
  refine s_callV hZ.1 (Met_X5_askCatch hZ) (Nat.le_of_ble_eq_true rfl) vy_X5_askCatch zcl5 zw2512 zw129 (Or.inl zw2510) dX5_linkOwn_242 ?_
  exact s_goto dX5_linkOwn_245 (by decide) (wX5_linkOwn_249 hZ j hj)
noncomputable def vX5_linkOwn_222 (j : Nat → rx_K) : rx_K := o_ld rx_isR 3 (o_getf 1 10 (o_ld rx_isI 4 (o_ald 0 (o_const 120 (o_c2 rx_eq (vX5_linkOwn_234 j) (vX5_linkOwn_248 j))))))
set_option maxRecDepth 20000 in
theorem wX5_linkOwn_222 (hZ : zO b e D A X) (j : Nat → rx_K) (hj : ∀ k pc, [12, 49, 175][k]? = some pc → rx_OK (zV b e D A X) mX5_linkOwn 3 pc (j k)) : rx_OK (zV b e D A X) mX5_linkOwn 3 222 (vX5_linkOwn_222 j) := by
  unfold vX5_linkOwn_222
  refine s_aload_n hZ.1 dX5_linkOwn_222 rfl ?_
  refine yg1_10 dX5_linkOwn_223 zw1146 ?_
  refine s_iload hZ.1 dX5_linkOwn_226 ?_
  refine s_iald (tt := 0) rfl dX5_linkOwn_228 ?_
  refine s_bipush dX5_linkOwn_229 (by decide +kernel) ?_
  exact s_icmp_ne dX5_linkOwn_231 (by decide) (wX5_linkOwn_248 hZ j hj) (wX5_linkOwn_234 hZ j hj)
noncomputable def vX5_linkOwn_201 (j : Nat → rx_K) : rx_K := o_ld rx_isR 0 (o_ld rx_isR 3 (o_getf 1 12 (o_ld rx_isI 4 (o_ald 1 (o_ld rx_isR 3 (o_getf 1 14 (o_ld rx_isI 4 (o_ald 1 (o_callV 2 5 FX5_askFit ((vX5_linkOwn_249 j)))))))))))
set_option maxRecDepth 20000 in
theorem wX5_linkOwn_201 (hZ : zO b e D A X) (j : Nat → rx_K) (hj : ∀ k pc, [12, 49, 175][k]? = some pc → rx_OK (zV b e D A X) mX5_linkOwn 3 pc (j k)) : rx_OK (zV b e D A X) mX5_linkOwn 3 201 (vX5_linkOwn_201 j) := by
  unfold vX5_linkOwn_201
  refine s_aload_n hZ.1 dX5_linkOwn_201 rfl ?_
  refine s_aload_n hZ.1 dX5_linkOwn_202 rfl ?_
  refine yg1_12 dX5_linkOwn_203 zw1154 ?_
  refine s_iload hZ.1 dX5_linkOwn_206 ?_
  refine s_lald (tt := 1) rfl dX5_linkOwn_208 ?_
  refine s_aload_n hZ.1 dX5_linkOwn_209 rfl ?_
  refine yg1_14 dX5_linkOwn_210 zw1162 ?_
  refine s_iload hZ.1 dX5_linkOwn_213 ?_
  refine s_lald (tt := 1) rfl dX5_linkOwn_215 ?_
  refine s_callV hZ.1 (Met_X5_askFit hZ) (Nat.le_of_ble_eq_true rfl) vy_X5_askFit zcl5 zw2507 zw128 (Or.inl zw2505) dX5_linkOwn_216 ?_
  exact s_goto dX5_linkOwn_219 (by decide) (wX5_linkOwn_249 hZ j hj)
noncomputable def vX5_linkOwn_189 (j : Nat → rx_K) : rx_K := o_ld rx_isR 3 (o_getf 1 10 (o_ld rx_isI 4 (o_ald 0 (o_const 136 (o_c2 rx_eq (vX5_linkOwn_201 j) (vX5_linkOwn_222 j))))))
set_option maxRecDepth 20000 in
theorem wX5_linkOwn_189 (hZ : zO b e D A X) (j : Nat → rx_K) (hj : ∀ k pc, [12, 49, 175][k]? = some pc → rx_OK (zV b e D A X) mX5_linkOwn 3 pc (j k)) : rx_OK (zV b e D A X) mX5_linkOwn 3 189 (vX5_linkOwn_189 j) := by
  unfold vX5_linkOwn_189
  refine s_aload_n hZ.1 dX5_linkOwn_189 rfl ?_
  refine yg1_10 dX5_linkOwn_190 zw1146 ?_
  refine s_iload hZ.1 dX5_linkOwn_193 ?_
  refine s_iald (tt := 0) rfl dX5_linkOwn_195 ?_
  refine s_bipush dX5_linkOwn_196 (by decide +kernel) ?_
  exact s_icmp_ne dX5_linkOwn_198 (by decide) (wX5_linkOwn_222 hZ j hj) (wX5_linkOwn_201 hZ j hj)
noncomputable def vX5_linkOwn_175 (j : Nat → rx_K) : rx_K := o_ld rx_isI 4 (o_ld rx_isR 2 (o_getf 10 16 (o_ld rx_isR 2 (o_getf 10 17 (o_bi (fun x y => x + y) (o_c2 rx_lt (vX5_linkOwn_189 j) (vX5_linkOwn_265 j)))))))
set_option maxRecDepth 20000 in
theorem wX5_linkOwn_175 (hZ : zO b e D A X) (j : Nat → rx_K) (hj : ∀ k pc, [12, 49, 175][k]? = some pc → rx_OK (zV b e D A X) mX5_linkOwn 3 pc (j k)) : rx_OK (zV b e D A X) mX5_linkOwn 3 175 (vX5_linkOwn_175 j) := by
  unfold vX5_linkOwn_175
  refine s_iload hZ.1 dX5_linkOwn_175 ?_
  refine s_aload_n hZ.1 dX5_linkOwn_177 rfl ?_
  refine yg10_16 dX5_linkOwn_178 zw876 ?_
  refine s_aload_n hZ.1 dX5_linkOwn_181 rfl ?_
  refine yg10_17 dX5_linkOwn_182 zw879 ?_
  refine s_iadd dX5_linkOwn_185 ?_
  exact s_icmp_ge dX5_linkOwn_186 (by decide) (wX5_linkOwn_265 hZ j hj) (wX5_linkOwn_189 hZ j hj)
noncomputable def vX5_linkOwn_164 (j : Nat → rx_K) : rx_K := o_ld rx_isR 2 (o_getf 10 0 (o_st rx_isR 3 (o_ld rx_isR 2 (o_getf 10 16 (o_st rx_isI 4 ((vX5_linkOwn_175 j)))))))
set_option maxRecDepth 20000 in
theorem wX5_linkOwn_164 (hZ : zO b e D A X) (j : Nat → rx_K) (hj : ∀ k pc, [12, 49, 175][k]? = some pc → rx_OK (zV b e D A X) mX5_linkOwn 3 pc (j k)) : rx_OK (zV b e D A X) mX5_linkOwn 3 164 (vX5_linkOwn_164 j) := by
  unfold vX5_linkOwn_164
  refine s_aload_n hZ.1 dX5_linkOwn_164 rfl ?_
  refine yg10_0 dX5_linkOwn_165 zw767 ?_
  refine s_astore_n hZ.1 dX5_linkOwn_168 rfl (Nat.le_of_ble_eq_true rfl) ?_
  refine s_aload_n hZ.1 dX5_linkOwn_169 rfl ?_
  refine yg10_16 dX5_linkOwn_170 zw876 ?_
  refine s_istore hZ.1 dX5_linkOwn_173 (Nat.le_of_ble_eq_true rfl) ?_
  exact (wX5_linkOwn_175 hZ j hj)
noncomputable def vX5_linkOwn_158 (j : Nat → rx_K) : rx_K := o_inc 3 (1) ((j 0))
set_option maxRecDepth 20000 in
theorem wX5_linkOwn_158 (hZ : zO b e D A X) (j : Nat → rx_K) (hj : ∀ k pc, [12, 49, 175][k]? = some pc → rx_OK (zV b e D A X) mX5_linkOwn 3 pc (j k)) : rx_OK (zV b e D A X) mX5_linkOwn 3 158 (vX5_linkOwn_158 j) := by
  unfold vX5_linkOwn_158
  refine s_iinc hZ.1 dX5_linkOwn_158 (Nat.le_of_ble_eq_true rfl) ?_
  exact s_goto dX5_linkOwn_161 (by decide) (hj 0 12 rfl)
noncomputable def vX5_linkOwn_140 (j : Nat → rx_K) : rx_K := o_ld rx_isR 0 (o_getf 5 0 (o_getf 11 3 (o_ld rx_isI 5 (o_ald 0 (o_st rx_isI 5 (o_inc 6 (1) ((j 1))))))))
set_option maxRecDepth 20000 in
theorem wX5_linkOwn_140 (hZ : zO b e D A X) (j : Nat → rx_K) (hj : ∀ k pc, [12, 49, 175][k]? = some pc → rx_OK (zV b e D A X) mX5_linkOwn 3 pc (j k)) : rx_OK (zV b e D A X) mX5_linkOwn 3 140 (vX5_linkOwn_140 j) := by
  unfold vX5_linkOwn_140
  refine s_aload_n hZ.1 dX5_linkOwn_140 rfl ?_
  refine yg5_0 dX5_linkOwn_141 zw1350 ?_
  refine yg11_3 dX5_linkOwn_144 zw1264 ?_
  refine s_iload hZ.1 dX5_linkOwn_147 ?_
  refine s_iald (tt := 0) rfl dX5_linkOwn_149 ?_
  refine s_istore hZ.1 dX5_linkOwn_150 (Nat.le_of_ble_eq_true rfl) ?_
  refine s_iinc hZ.1 dX5_linkOwn_152 (Nat.le_of_ble_eq_true rfl) ?_
  exact s_goto dX5_linkOwn_155 (by decide) (hj 1 49 rfl)
noncomputable def vX5_linkOwn_138 (j : Nat → rx_K) : rx_K := o_const 24 (o_ret1 rx_isI)
set_option maxRecDepth 20000 in
theorem wX5_linkOwn_138 (hZ : zO b e D A X) (j : Nat → rx_K) (hj : ∀ k pc, [12, 49, 175][k]? = some pc → rx_OK (zV b e D A X) mX5_linkOwn 3 pc (j k)) : rx_OK (zV b e D A X) mX5_linkOwn 3 138 (vX5_linkOwn_138 j) := by
  unfold vX5_linkOwn_138
  refine s_iconst dX5_linkOwn_138 (by decide +kernel) ?_
  exact s_iret hZ.1 rfl dX5_linkOwn_139
noncomputable def vX5_linkOwn_123 (j : Nat → rx_K) : rx_K := o_ld rx_isR 0 (o_getf 5 0 (o_ld rx_isI 1 (o_ld rx_isI 5 (o_ld rx_isR 7 (o_callV 3 11 FX11_overrides (o_c1 rx_eq (vX5_linkOwn_140 j) (vX5_linkOwn_138 j)))))))
set_option maxRecDepth 20000 in
theorem wX5_linkOwn_123 (hZ : zO b e D A X) (j : Nat → rx_K) (hj : ∀ k pc, [12, 49, 175][k]? = some pc → rx_OK (zV b e D A X) mX5_linkOwn 3 pc (j k)) : rx_OK (zV b e D A X) mX5_linkOwn 3 123 (vX5_linkOwn_123 j) := by
  unfold vX5_linkOwn_123
  refine s_aload_n hZ.1 dX5_linkOwn_123 rfl ?_
  refine yg5_0 dX5_linkOwn_124 zw1350 ?_
  refine s_iload_n hZ.1 dX5_linkOwn_127 rfl ?_
  refine s_iload hZ.1 dX5_linkOwn_128 ?_
  refine s_aload hZ.1 dX5_linkOwn_130 ?_
  refine s_callV hZ.1 (Met_X11_overrides hZ) (Nat.le_of_ble_eq_true rfl) vy_X11_overrides zcl11 zw2036 zw2037 (Or.inl zw2761) dX5_linkOwn_132 ?_
  exact s_if_eq dX5_linkOwn_135 (by decide) (wX5_linkOwn_140 hZ j hj) (wX5_linkOwn_138 hZ j hj)
noncomputable def vX5_linkOwn_115 (j : Nat → rx_K) : rx_K := o_ld rx_isR 7 (o_callV 0 7 FX7_ofObjects (o_c1 rx_eq (vX5_linkOwn_140 j) (vX5_linkOwn_123 j)))
set_option maxRecDepth 20000 in
theorem wX5_linkOwn_115 (hZ : zO b e D A X) (j : Nat → rx_K) (hj : ∀ k pc, [12, 49, 175][k]? = some pc → rx_OK (zV b e D A X) mX5_linkOwn 3 pc (j k)) : rx_OK (zV b e D A X) mX5_linkOwn 3 115 (vX5_linkOwn_115 j) := by
  unfold vX5_linkOwn_115
  refine s_aload hZ.1 dX5_linkOwn_115 ?_
  refine s_callV hZ.1 (Met_X7_ofObjects hZ) (Nat.le_of_ble_eq_true rfl) vy_X7_ofObjects zcl7 zw2003 zw2004 (Or.inl zw2543) dX5_linkOwn_117 ?_
  exact s_if_eq dX5_linkOwn_120 (by decide) (wX5_linkOwn_140 hZ j hj) (wX5_linkOwn_123 hZ j hj)
noncomputable def vX5_linkOwn_107 (j : Nat → rx_K) : rx_K := o_ld rx_isR 7 (o_getf 7 3 (o_c1 rx_eq (vX5_linkOwn_140 j) (vX5_linkOwn_115 j)))
set_option maxRecDepth 20000 in
theorem wX5_linkOwn_107 (hZ : zO b e D A X) (j : Nat → rx_K) (hj : ∀ k pc, [12, 49, 175][k]? = some pc → rx_OK (zV b e D A X) mX5_linkOwn 3 pc (j k)) : rx_OK (zV b e D A X) mX5_linkOwn 3 107 (vX5_linkOwn_107 j) := by
  unfold vX5_linkOwn_107
  refine s_aload hZ.1 dX5_linkOwn_107 ?_
  refine yg7_3 dX5_linkOwn_109 zw975 ?_
  exact s_if_eq dX5_linkOwn_112 (by decide) (wX5_linkOwn_140 hZ j hj) (wX5_linkOwn_115 hZ j hj)
noncomputable def vX5_linkOwn_85 (j : Nat → rx_K) : rx_K := o_ld rx_isR 0 (o_getf 5 0 (o_getf 11 1 (o_ld rx_isI 5 (o_ald 4 (o_ld rx_isR 4 (o_callV 1 10 FX10_method (o_st rx_isR 7 (o_ld rx_isR 7 (o_nul (vX5_linkOwn_140 j) (vX5_linkOwn_107 j))))))))))
set_option maxRecDepth 20000 in
theorem wX5_linkOwn_85 (hZ : zO b e D A X) (j : Nat → rx_K) (hj : ∀ k pc, [12, 49, 175][k]? = some pc → rx_OK (zV b e D A X) mX5_linkOwn 3 pc (j k)) : rx_OK (zV b e D A X) mX5_linkOwn 3 85 (vX5_linkOwn_85 j) := by
  unfold vX5_linkOwn_85
  refine s_aload_n hZ.1 dX5_linkOwn_85 rfl ?_
  refine yg5_0 dX5_linkOwn_86 zw1350 ?_
  refine yg11_1 dX5_linkOwn_89 zw1253 ?_
  refine s_iload hZ.1 dX5_linkOwn_92 ?_
  refine s_aald (tt := 4) rfl rfl dX5_linkOwn_94 ?_
  refine s_aload hZ.1 dX5_linkOwn_95 ?_
  refine s_callV hZ.1 (Met_X10_method hZ) (Nat.le_of_ble_eq_true rfl) vy_X10_method zcl10 zw2011 zw2012 (Or.inl zw2540) dX5_linkOwn_97 ?_
  refine s_astore hZ.1 dX5_linkOwn_100 (Nat.le_of_ble_eq_true rfl) ?_
  refine s_aload hZ.1 dX5_linkOwn_102 ?_
  exact s_ifnull dX5_linkOwn_104 (by decide) (wX5_linkOwn_140 hZ j hj) (wX5_linkOwn_107 hZ j hj)
noncomputable def vX5_linkOwn_77 (j : Nat → rx_K) : rx_K := o_ld rx_isR 4 (o_callV 0 7 FX7_ofObjects (o_c1 rx_eq (vX5_linkOwn_158 j) (vX5_linkOwn_85 j)))
set_option maxRecDepth 20000 in
theorem wX5_linkOwn_77 (hZ : zO b e D A X) (j : Nat → rx_K) (hj : ∀ k pc, [12, 49, 175][k]? = some pc → rx_OK (zV b e D A X) mX5_linkOwn 3 pc (j k)) : rx_OK (zV b e D A X) mX5_linkOwn 3 77 (vX5_linkOwn_77 j) := by
  unfold vX5_linkOwn_77
  refine s_aload hZ.1 dX5_linkOwn_77 ?_
  refine s_callV hZ.1 (Met_X7_ofObjects hZ) (Nat.le_of_ble_eq_true rfl) vy_X7_ofObjects zcl7 zw2003 zw2004 (Or.inl zw2543) dX5_linkOwn_79 ?_
  exact s_if_eq dX5_linkOwn_82 (by decide) (wX5_linkOwn_158 hZ j hj) (wX5_linkOwn_85 hZ j hj)
noncomputable def vX5_linkOwn_68 (j : Nat → rx_K) : rx_K := o_ld rx_isR 4 (o_getf 7 0 (o_const 8 (o_c2 rx_eq (vX5_linkOwn_77 j) (vX5_linkOwn_158 j))))
set_option maxRecDepth 20000 in
theorem wX5_linkOwn_68 (hZ : zO b e D A X) (j : Nat → rx_K) (hj : ∀ k pc, [12, 49, 175][k]? = some pc → rx_OK (zV b e D A X) mX5_linkOwn 3 pc (j k)) : rx_OK (zV b e D A X) mX5_linkOwn 3 68 (vX5_linkOwn_68 j) := by
  unfold vX5_linkOwn_68
  refine s_aload hZ.1 dX5_linkOwn_68 ?_
  refine yg7_0 dX5_linkOwn_70 zw949 ?_
  refine s_iconst dX5_linkOwn_73 (by decide +kernel) ?_
  exact s_icmp_ne dX5_linkOwn_74 (by decide) (wX5_linkOwn_158 hZ j hj) (wX5_linkOwn_77 hZ j hj)
noncomputable def vX5_linkOwn_63 (j : Nat → rx_K) : rx_K := o_ld rx_isI 5 (o_c1 rx_lt (vX5_linkOwn_158 j) (vX5_linkOwn_68 j))
set_option maxRecDepth 20000 in
theorem wX5_linkOwn_63 (hZ : zO b e D A X) (j : Nat → rx_K) (hj : ∀ k pc, [12, 49, 175][k]? = some pc → rx_OK (zV b e D A X) mX5_linkOwn 3 pc (j k)) : rx_OK (zV b e D A X) mX5_linkOwn 3 63 (vX5_linkOwn_63 j) := by
  unfold vX5_linkOwn_63
  refine s_iload hZ.1 dX5_linkOwn_63 ?_
  exact s_if_lt dX5_linkOwn_65 (by decide) (wX5_linkOwn_158 hZ j hj) (wX5_linkOwn_68 hZ j hj)
noncomputable def vX5_linkOwn_49 (j : Nat → rx_K) : rx_K := o_ld rx_isI 6 (o_ld rx_isR 0 (o_getf 5 0 (o_getf 11 4 (o_ld rx_isI 1 (o_ald 0 (o_c2 rx_lt (vX5_linkOwn_63 j) (vX5_linkOwn_158 j)))))))
set_option maxRecDepth 20000 in
theorem wX5_linkOwn_49 (hZ : zO b e D A X) (j : Nat → rx_K) (hj : ∀ k pc, [12, 49, 175][k]? = some pc → rx_OK (zV b e D A X) mX5_linkOwn 3 pc (j k)) : rx_OK (zV b e D A X) mX5_linkOwn 3 49 (vX5_linkOwn_49 j) := by
  unfold vX5_linkOwn_49
  refine s_iload hZ.1 dX5_linkOwn_49 ?_
  refine s_aload_n hZ.1 dX5_linkOwn_51 rfl ?_
  refine yg5_0 dX5_linkOwn_52 zw1350 ?_
  refine yg11_4 dX5_linkOwn_55 zw1268 ?_
  refine s_iload_n hZ.1 dX5_linkOwn_58 rfl ?_
  refine s_iald (tt := 0) rfl dX5_linkOwn_59 ?_
  exact s_icmp_ge dX5_linkOwn_60 (by decide) (wX5_linkOwn_158 hZ j hj) (wX5_linkOwn_63 hZ j hj)
noncomputable def vX5_linkOwn_27 (j : Nat → rx_K) : rx_K := o_ld rx_isR 2 (o_getf 10 14 (o_ld rx_isI 3 (o_ald 5 (o_st rx_isR 4 (o_ld rx_isR 0 (o_getf 5 0 (o_getf 11 3 (o_ld rx_isI 1 (o_ald 0 (o_st rx_isI 5 (o_const 0 (o_st rx_isI 6 ((vX5_linkOwn_49 j))))))))))))))
set_option maxRecDepth 20000 in
theorem wX5_linkOwn_27 (hZ : zO b e D A X) (j : Nat → rx_K) (hj : ∀ k pc, [12, 49, 175][k]? = some pc → rx_OK (zV b e D A X) mX5_linkOwn 3 pc (j k)) : rx_OK (zV b e D A X) mX5_linkOwn 3 27 (vX5_linkOwn_27 j) := by
  unfold vX5_linkOwn_27
  refine s_aload_n hZ.1 dX5_linkOwn_27 rfl ?_
  refine yg10_14 dX5_linkOwn_28 zw862 ?_
  refine s_iload_n hZ.1 dX5_linkOwn_31 rfl ?_
  refine s_aald (tt := 5) rfl rfl dX5_linkOwn_32 ?_
  refine s_astore hZ.1 dX5_linkOwn_33 (Nat.le_of_ble_eq_true rfl) ?_
  refine s_aload_n hZ.1 dX5_linkOwn_35 rfl ?_
  refine yg5_0 dX5_linkOwn_36 zw1350 ?_
  refine yg11_3 dX5_linkOwn_39 zw1264 ?_
  refine s_iload_n hZ.1 dX5_linkOwn_42 rfl ?_
  refine s_iald (tt := 0) rfl dX5_linkOwn_43 ?_
  refine s_istore hZ.1 dX5_linkOwn_44 (Nat.le_of_ble_eq_true rfl) ?_
  refine s_iconst dX5_linkOwn_46 (by decide +kernel) ?_
  refine s_istore hZ.1 dX5_linkOwn_47 (Nat.le_of_ble_eq_true rfl) ?_
  exact (wX5_linkOwn_49 hZ j hj)
noncomputable def vX5_linkOwn_20 (j : Nat → rx_K) : rx_K := o_ld rx_isR 2 (o_getf 10 4 (o_c1 rx_eq (vX5_linkOwn_27 j) (vX5_linkOwn_164 j)))
set_option maxRecDepth 20000 in
theorem wX5_linkOwn_20 (hZ : zO b e D A X) (j : Nat → rx_K) (hj : ∀ k pc, [12, 49, 175][k]? = some pc → rx_OK (zV b e D A X) mX5_linkOwn 3 pc (j k)) : rx_OK (zV b e D A X) mX5_linkOwn 3 20 (vX5_linkOwn_20 j) := by
  unfold vX5_linkOwn_20
  refine s_aload_n hZ.1 dX5_linkOwn_20 rfl ?_
  refine yg10_4 dX5_linkOwn_21 zw794 ?_
  exact s_if_ne dX5_linkOwn_24 (by decide) (wX5_linkOwn_164 hZ j hj) (wX5_linkOwn_27 hZ j hj)
noncomputable def vX5_linkOwn_12 (j : Nat → rx_K) : rx_K := o_ld rx_isI 3 (o_ld rx_isR 2 (o_getf 10 15 (o_c2 rx_lt (vX5_linkOwn_20 j) (vX5_linkOwn_164 j))))
set_option maxRecDepth 20000 in
theorem wX5_linkOwn_12 (hZ : zO b e D A X) (j : Nat → rx_K) (hj : ∀ k pc, [12, 49, 175][k]? = some pc → rx_OK (zV b e D A X) mX5_linkOwn 3 pc (j k)) : rx_OK (zV b e D A X) mX5_linkOwn 3 12 (vX5_linkOwn_12 j) := by
  unfold vX5_linkOwn_12
  refine s_iload_n hZ.1 dX5_linkOwn_12 rfl ?_
  refine s_aload_n hZ.1 dX5_linkOwn_13 rfl ?_
  refine yg10_15 dX5_linkOwn_14 zw870 ?_
  exact s_icmp_ge dX5_linkOwn_17 (by decide) (wX5_linkOwn_164 hZ j hj) (wX5_linkOwn_20 hZ j hj)
noncomputable def vX5_linkOwn_0 (j : Nat → rx_K) : rx_K := o_ld rx_isR 0 (o_getf 5 0 (o_getf 11 1 (o_ld rx_isI 1 (o_ald 4 (o_st rx_isR 2 (o_const 0 (o_st rx_isI 3 ((vX5_linkOwn_12 j)))))))))
set_option maxRecDepth 20000 in
theorem wX5_linkOwn_0 (hZ : zO b e D A X) (j : Nat → rx_K) (hj : ∀ k pc, [12, 49, 175][k]? = some pc → rx_OK (zV b e D A X) mX5_linkOwn 3 pc (j k)) : rx_OK (zV b e D A X) mX5_linkOwn 3 0 (vX5_linkOwn_0 j) := by
  unfold vX5_linkOwn_0
  refine s_aload_n hZ.1 dX5_linkOwn_0 rfl ?_
  refine yg5_0 dX5_linkOwn_1 zw1350 ?_
  refine yg11_1 dX5_linkOwn_4 zw1253 ?_
  refine s_iload_n hZ.1 dX5_linkOwn_7 rfl ?_
  refine s_aald (tt := 4) rfl rfl dX5_linkOwn_8 ?_
  refine s_astore_n hZ.1 dX5_linkOwn_9 rfl (Nat.le_of_ble_eq_true rfl) ?_
  refine s_iconst dX5_linkOwn_10 (by decide +kernel) ?_
  refine s_istore_n hZ.1 dX5_linkOwn_11 rfl (Nat.le_of_ble_eq_true rfl) ?_
  exact (wX5_linkOwn_12 hZ j hj)
noncomputable def vhX5_linkOwn (j : Nat → rx_K) : List rx_K := [vX5_linkOwn_12 j, vX5_linkOwn_49 j, vX5_linkOwn_175 j]
theorem vlX5_linkOwn (hZ : zO b e D A X) : ∀ n k pc, [12, 49, 175][k]? = some pc → rx_OK (zV b e D A X) mX5_linkOwn 3 pc (rx_J (vhX5_linkOwn) n k) := rx_loop fun j hj k pc h => by
  match k, h with
  | 0, h =>
    have e9 := Option.some.inj (show some 12 = some pc from h)
    subst e9
    exact wX5_linkOwn_12 hZ j hj
  | 1, h =>
    have e9 := Option.some.inj (show some 49 = some pc from h)
    subst e9
    exact wX5_linkOwn_49 hZ j hj
  | 2, h =>
    have e9 := Option.some.inj (show some 175 = some pc from h)
    subst e9
    exact wX5_linkOwn_175 hZ j hj
  | _ + 3, h => exact absurd h (by simp)
noncomputable def FX5_linkOwn : List Nat → rx_H → Option (Nat × rx_H) := rx_ent 8 (vX5_linkOwn_0 (rx_J (vhX5_linkOwn) 4000000000))
theorem Met_X5_linkOwn (hZ : zO b e D A X) : rx_Met (zV b e D A X) 3 yX5_linkOwn mX5_linkOwn (FX5_linkOwn) := rx_entry hZ.1 (wX5_linkOwn_0 hZ _ (vlX5_linkOwn hZ 4000000000)) (by decide +kernel) rfl (fun h => by cases h)
abbrev mX5_link : rx_M := (RX5, cX5_link, 9, (some .int), false)
theorem vy_X5_link : rx_Y (zV b e D A X) yX5_link mX5_link 1 := ⟨zw2756, zw428, by decide, by decide +kernel, by decide +kernel, by decide +kernel⟩
noncomputable def vX5_link_317 (j : Nat → rx_K) : rx_K := o_ret1 rx_isI
set_option maxRecDepth 20000 in
theorem wX5_link_317 (hZ : zO b e D A X) (j : Nat → rx_K) (hj : ∀ k pc, [41][k]? = some pc → rx_OK (zV b e D A X) mX5_link 4 pc (j k)) : rx_OK (zV b e D A X) mX5_link 4 317 (vX5_link_317 j) := by
  unfold vX5_link_317
  exact s_iret hZ.1 rfl dX5_link_317
noncomputable def vX5_link_316 (j : Nat → rx_K) : rx_K := o_ld rx_isI 3 ((vX5_link_317 j))
set_option maxRecDepth 20000 in
theorem wX5_link_316 (hZ : zO b e D A X) (j : Nat → rx_K) (hj : ∀ k pc, [41][k]? = some pc → rx_OK (zV b e D A X) mX5_link 4 pc (j k)) : rx_OK (zV b e D A X) mX5_link 4 316 (vX5_link_316 j) := by
  unfold vX5_link_316
  refine s_iload_n hZ.1 dX5_link_316 rfl ?_
  exact (wX5_link_317 hZ j hj)
noncomputable def vX5_link_307 (j : Nat → rx_K) : rx_K := o_ld rx_isR 0 (o_getf 5 2 (o_ld rx_isI 1 (o_ald 0 ((vX5_link_317 j)))))
set_option maxRecDepth 20000 in
theorem wX5_link_307 (hZ : zO b e D A X) (j : Nat → rx_K) (hj : ∀ k pc, [41][k]? = some pc → rx_OK (zV b e D A X) mX5_link 4 pc (j k)) : rx_OK (zV b e D A X) mX5_link 4 307 (vX5_link_307 j) := by
  unfold vX5_link_307
  refine s_aload_n hZ.1 dX5_link_307 rfl ?_
  refine yg5_2 dX5_link_308 zw1354 ?_
  refine s_iload_n hZ.1 dX5_link_311 rfl ?_
  refine s_iald (tt := 0) rfl dX5_link_312 ?_
  exact s_goto dX5_link_313 (by decide) (wX5_link_317 hZ j hj)
noncomputable def vX5_link_297 (j : Nat → rx_K) : rx_K := o_ld rx_isR 0 (o_getf 5 1 (o_ld rx_isI 1 (o_ald 0 (o_const 40 (o_c2 rx_eq (vX5_link_307 j) (vX5_link_316 j))))))
set_option maxRecDepth 20000 in
theorem wX5_link_297 (hZ : zO b e D A X) (j : Nat → rx_K) (hj : ∀ k pc, [41][k]? = some pc → rx_OK (zV b e D A X) mX5_link 4 pc (j k)) : rx_OK (zV b e D A X) mX5_link 4 297 (vX5_link_297 j) := by
  unfold vX5_link_297
  refine s_aload_n hZ.1 dX5_link_297 rfl ?_
  refine yg5_1 dX5_link_298 zw1351 ?_
  refine s_iload_n hZ.1 dX5_link_301 rfl ?_
  refine s_iald (tt := 0) rfl dX5_link_302 ?_
  refine s_iconst dX5_link_303 (by decide +kernel) ?_
  exact s_icmp_ne dX5_link_304 (by decide) (wX5_link_316 hZ j hj) (wX5_link_307 hZ j hj)
noncomputable def vX5_link_286 (j : Nat → rx_K) : rx_K := o_ld rx_isR 0 (o_getf 5 1 (o_ld rx_isI 1 (o_ald 0 (o_const 48 (o_c2 rx_eq (vX5_link_307 j) (vX5_link_297 j))))))
set_option maxRecDepth 20000 in
theorem wX5_link_286 (hZ : zO b e D A X) (j : Nat → rx_K) (hj : ∀ k pc, [41][k]? = some pc → rx_OK (zV b e D A X) mX5_link 4 pc (j k)) : rx_OK (zV b e D A X) mX5_link 4 286 (vX5_link_286 j) := by
  unfold vX5_link_286
  refine s_aload_n hZ.1 dX5_link_286 rfl ?_
  refine yg5_1 dX5_link_287 zw1351 ?_
  refine s_iload_n hZ.1 dX5_link_290 rfl ?_
  refine s_iald (tt := 0) rfl dX5_link_291 ?_
  refine s_bipush dX5_link_292 (by decide +kernel) ?_
  exact s_icmp_eq dX5_link_294 (by decide) (wX5_link_307 hZ j hj) (wX5_link_297 hZ j hj)
noncomputable def vX5_link_280 (j : Nat → rx_K) : rx_K := o_inc 4 (1) ((j 0))
set_option maxRecDepth 20000 in
theorem wX5_link_280 (hZ : zO b e D A X) (j : Nat → rx_K) (hj : ∀ k pc, [41][k]? = some pc → rx_OK (zV b e D A X) mX5_link 4 pc (j k)) : rx_OK (zV b e D A X) mX5_link 4 280 (vX5_link_280 j) := by
  unfold vX5_link_280
  refine s_iinc hZ.1 dX5_link_280 (Nat.le_of_ble_eq_true rfl) ?_
  exact s_goto dX5_link_283 (by decide) (hj 0 41 rfl)
noncomputable def vX5_link_255 (j : Nat → rx_K) : rx_K := o_ast 0 (fun v => v) rx_isI (o_ld rx_isR 0 (o_getf 5 2 (o_ld rx_isI 5 (o_ld rx_isI 3 (o_ast 0 (fun v => v) rx_isI (o_ld rx_isR 0 (o_ld rx_isI 5 (o_ld rx_isR 0 (o_getf 5 1 (o_ld rx_isI 5 (o_ald 0 (o_callV 2 5 FX5_tellEvent (o_inc 2 (-1) ((vX5_link_280 j)))))))))))))))
set_option maxRecDepth 20000 in
theorem wX5_link_255 (hZ : zO b e D A X) (j : Nat → rx_K) (hj : ∀ k pc, [41][k]? = some pc → rx_OK (zV b e D A X) mX5_link 4 pc (j k)) : rx_OK (zV b e D A X) mX5_link 4 255 (vX5_link_255 j) := by
  unfold vX5_link_255
  refine s_iast hZ.1 (tt := 0) rfl dX5_link_255 ?_
  refine s_aload_n hZ.1 dX5_link_256 rfl ?_
  refine yg5_2 dX5_link_257 zw1354 ?_
  refine s_iload hZ.1 dX5_link_260 ?_
  refine s_iload_n hZ.1 dX5_link_262 rfl ?_
  refine s_iast hZ.1 (tt := 0) rfl dX5_link_263 ?_
  refine s_aload_n hZ.1 dX5_link_264 rfl ?_
  refine s_iload hZ.1 dX5_link_265 ?_
  refine s_aload_n hZ.1 dX5_link_267 rfl ?_
  refine yg5_1 dX5_link_268 zw1351 ?_
  refine s_iload hZ.1 dX5_link_271 ?_
  refine s_iald (tt := 0) rfl dX5_link_273 ?_
  refine s_callV hZ.1 (Met_X5_tellEvent hZ) (Nat.le_of_ble_eq_true rfl) vy_X5_tellEvent zcl5 zw2502 zw2503 (Or.inl zw2501) dX5_link_274 ?_
  refine s_iinc hZ.1 dX5_link_277 (Nat.le_of_ble_eq_true rfl) ?_
  exact (wX5_link_280 hZ j hj)
noncomputable def vX5_link_253 (j : Nat → rx_K) : rx_K := o_const 48 ((vX5_link_255 j))
set_option maxRecDepth 20000 in
theorem wX5_link_253 (hZ : zO b e D A X) (j : Nat → rx_K) (hj : ∀ k pc, [41][k]? = some pc → rx_OK (zV b e D A X) mX5_link 4 pc (j k)) : rx_OK (zV b e D A X) mX5_link 4 253 (vX5_link_253 j) := by
  unfold vX5_link_253
  refine s_bipush dX5_link_253 (by decide +kernel) ?_
  exact (wX5_link_255 hZ j hj)
noncomputable def vX5_link_249 (j : Nat → rx_K) : rx_K := o_const 16 ((vX5_link_255 j))
set_option maxRecDepth 20000 in
theorem wX5_link_249 (hZ : zO b e D A X) (j : Nat → rx_K) (hj : ∀ k pc, [41][k]? = some pc → rx_OK (zV b e D A X) mX5_link 4 pc (j k)) : rx_OK (zV b e D A X) mX5_link 4 249 (vX5_link_249 j) := by
  unfold vX5_link_249
  refine s_iconst dX5_link_249 (by decide +kernel) ?_
  exact s_goto dX5_link_250 (by decide) (wX5_link_255 hZ j hj)
noncomputable def vX5_link_239 (j : Nat → rx_K) : rx_K := o_ld rx_isR 0 (o_getf 5 1 (o_ld rx_isI 5 (o_ld rx_isI 3 (o_c1 rx_eq (vX5_link_249 j) (vX5_link_253 j)))))
set_option maxRecDepth 20000 in
theorem wX5_link_239 (hZ : zO b e D A X) (j : Nat → rx_K) (hj : ∀ k pc, [41][k]? = some pc → rx_OK (zV b e D A X) mX5_link 4 pc (j k)) : rx_OK (zV b e D A X) mX5_link 4 239 (vX5_link_239 j) := by
  unfold vX5_link_239
  refine s_aload_n hZ.1 dX5_link_239 rfl ?_
  refine yg5_1 dX5_link_240 zw1351 ?_
  refine s_iload hZ.1 dX5_link_243 ?_
  refine s_iload_n hZ.1 dX5_link_245 rfl ?_
  exact s_if_ne dX5_link_246 (by decide) (wX5_link_253 hZ j hj) (wX5_link_249 hZ j hj)
noncomputable def vX5_link_235 (j : Nat → rx_K) : rx_K := o_ld rx_isI 3 (o_c1 rx_eq (vX5_link_280 j) (vX5_link_239 j))
set_option maxRecDepth 20000 in
theorem wX5_link_235 (hZ : zO b e D A X) (j : Nat → rx_K) (hj : ∀ k pc, [41][k]? = some pc → rx_OK (zV b e D A X) mX5_link 4 pc (j k)) : rx_OK (zV b e D A X) mX5_link 4 235 (vX5_link_235 j) := by
  unfold vX5_link_235
  refine s_iload_n hZ.1 dX5_link_235 rfl ?_
  exact s_if_eq dX5_link_236 (by decide) (wX5_link_280 hZ j hj) (wX5_link_239 hZ j hj)
noncomputable def vX5_link_229 (j : Nat → rx_K) : rx_K := o_st rx_isI 3 (o_ld rx_isI 8 (o_c1 rx_eq (vX5_link_235 j) (vX5_link_239 j)))
set_option maxRecDepth 20000 in
theorem wX5_link_229 (hZ : zO b e D A X) (j : Nat → rx_K) (hj : ∀ k pc, [41][k]? = some pc → rx_OK (zV b e D A X) mX5_link 4 pc (j k)) : rx_OK (zV b e D A X) mX5_link 4 229 (vX5_link_229 j) := by
  unfold vX5_link_229
  refine s_istore_n hZ.1 dX5_link_229 rfl (Nat.le_of_ble_eq_true rfl) ?_
  refine s_iload hZ.1 dX5_link_230 ?_
  exact s_if_ne dX5_link_232 (by decide) (wX5_link_239 hZ j hj) (wX5_link_235 hZ j hj)
noncomputable def vX5_link_228 (j : Nat → rx_K) : rx_K := o_const 0 ((vX5_link_229 j))
set_option maxRecDepth 20000 in
theorem wX5_link_228 (hZ : zO b e D A X) (j : Nat → rx_K) (hj : ∀ k pc, [41][k]? = some pc → rx_OK (zV b e D A X) mX5_link 4 pc (j k)) : rx_OK (zV b e D A X) mX5_link 4 228 (vX5_link_228 j) := by
  unfold vX5_link_228
  refine s_iconst dX5_link_228 (by decide +kernel) ?_
  exact (wX5_link_229 hZ j hj)
noncomputable def vX5_link_218 (j : Nat → rx_K) : rx_K := o_ld rx_isR 0 (o_getf 5 2 (o_ld rx_isI 7 (o_ald 0 ((vX5_link_229 j)))))
set_option maxRecDepth 20000 in
theorem wX5_link_218 (hZ : zO b e D A X) (j : Nat → rx_K) (hj : ∀ k pc, [41][k]? = some pc → rx_OK (zV b e D A X) mX5_link 4 pc (j k)) : rx_OK (zV b e D A X) mX5_link 4 218 (vX5_link_218 j) := by
  unfold vX5_link_218
  refine s_aload_n hZ.1 dX5_link_218 rfl ?_
  refine yg5_2 dX5_link_219 zw1354 ?_
  refine s_iload hZ.1 dX5_link_222 ?_
  refine s_iald (tt := 0) rfl dX5_link_224 ?_
  exact s_goto dX5_link_225 (by decide) (wX5_link_229 hZ j hj)
noncomputable def vX5_link_206 (j : Nat → rx_K) : rx_K := o_ld rx_isR 0 (o_getf 5 1 (o_ld rx_isI 7 (o_ald 0 (o_const 48 (o_c2 rx_eq (vX5_link_218 j) (vX5_link_228 j))))))
set_option maxRecDepth 20000 in
theorem wX5_link_206 (hZ : zO b e D A X) (j : Nat → rx_K) (hj : ∀ k pc, [41][k]? = some pc → rx_OK (zV b e D A X) mX5_link 4 pc (j k)) : rx_OK (zV b e D A X) mX5_link 4 206 (vX5_link_206 j) := by
  unfold vX5_link_206
  refine s_aload_n hZ.1 dX5_link_206 rfl ?_
  refine yg5_1 dX5_link_207 zw1351 ?_
  refine s_iload hZ.1 dX5_link_210 ?_
  refine s_iald (tt := 0) rfl dX5_link_212 ?_
  refine s_bipush dX5_link_213 (by decide +kernel) ?_
  exact s_icmp_ne dX5_link_215 (by decide) (wX5_link_228 hZ j hj) (wX5_link_218 hZ j hj)
noncomputable def vX5_link_201 (j : Nat → rx_K) : rx_K := o_ld rx_isI 7 (o_c1 rx_lt (vX5_link_228 j) (vX5_link_206 j))
set_option maxRecDepth 20000 in
theorem wX5_link_201 (hZ : zO b e D A X) (j : Nat → rx_K) (hj : ∀ k pc, [41][k]? = some pc → rx_OK (zV b e D A X) mX5_link 4 pc (j k)) : rx_OK (zV b e D A X) mX5_link 4 201 (vX5_link_201 j) := by
  unfold vX5_link_201
  refine s_iload hZ.1 dX5_link_201 ?_
  exact s_if_lt dX5_link_203 (by decide) (wX5_link_228 hZ j hj) (wX5_link_206 hZ j hj)
noncomputable def vX5_link_192 (j : Nat → rx_K) : rx_K := o_ld rx_isR 0 (o_ld rx_isI 5 (o_callV 1 5 FX5_linkOwn ((vX5_link_229 j))))
set_option maxRecDepth 20000 in
theorem wX5_link_192 (hZ : zO b e D A X) (j : Nat → rx_K) (hj : ∀ k pc, [41][k]? = some pc → rx_OK (zV b e D A X) mX5_link 4 pc (j k)) : rx_OK (zV b e D A X) mX5_link 4 192 (vX5_link_192 j) := by
  unfold vX5_link_192
  refine s_aload_n hZ.1 dX5_link_192 rfl ?_
  refine s_iload hZ.1 dX5_link_193 ?_
  refine s_callV hZ.1 (Met_X5_linkOwn hZ) (Nat.le_of_ble_eq_true rfl) vy_X5_linkOwn zcl5 zw2759 zw156 (Or.inl zw2757) dX5_link_195 ?_
  exact s_goto dX5_link_198 (by decide) (wX5_link_229 hZ j hj)
noncomputable def vX5_link_175 (j : Nat → rx_K) : rx_K := o_ld rx_isR 0 (o_getf 5 10 (o_ld rx_isI 2 (o_const 8 (o_bi (fun x y => x - y) (o_dup2 (o_ald 0 (o_const 8 (o_bi (fun x y => x + y) (o_ast 0 (fun v => v) rx_isI (o_ld rx_isI 8 (o_c1 rx_eq (vX5_link_201 j) (vX5_link_192 j))))))))))))
set_option maxRecDepth 20000 in
theorem wX5_link_175 (hZ : zO b e D A X) (j : Nat → rx_K) (hj : ∀ k pc, [41][k]? = some pc → rx_OK (zV b e D A X) mX5_link 4 pc (j k)) : rx_OK (zV b e D A X) mX5_link 4 175 (vX5_link_175 j) := by
  unfold vX5_link_175
  refine s_aload_n hZ.1 dX5_link_175 rfl ?_
  refine yg5_10 dX5_link_176 zw1365 ?_
  refine s_iload_n hZ.1 dX5_link_179 rfl ?_
  refine s_iconst dX5_link_180 (by decide +kernel) ?_
  refine s_isub dX5_link_181 ?_
  refine s_dup2 hZ.1 dX5_link_182 ?_
  refine s_iald (tt := 0) rfl dX5_link_183 ?_
  refine s_iconst dX5_link_184 (by decide +kernel) ?_
  refine s_iadd dX5_link_185 ?_
  refine s_iast hZ.1 (tt := 0) rfl dX5_link_186 ?_
  refine s_iload hZ.1 dX5_link_187 ?_
  exact s_if_eq dX5_link_189 (by decide) (wX5_link_201 hZ j hj) (wX5_link_192 hZ j hj)
noncomputable def vX5_link_154 (j : Nat → rx_K) : rx_K := o_ld rx_isR 0 (o_getf 5 9 (o_ld rx_isI 2 (o_ld rx_isI 7 (o_ast 0 (fun v => v) rx_isI (o_ld rx_isR 0 (o_getf 5 10 (o_ld rx_isI 2 (o_const 0 (o_ast 0 (fun v => v) rx_isI (o_inc 2 (1) ((vX5_link_280 j))))))))))))
set_option maxRecDepth 20000 in
theorem wX5_link_154 (hZ : zO b e D A X) (j : Nat → rx_K) (hj : ∀ k pc, [41][k]? = some pc → rx_OK (zV b e D A X) mX5_link 4 pc (j k)) : rx_OK (zV b e D A X) mX5_link 4 154 (vX5_link_154 j) := by
  unfold vX5_link_154
  refine s_aload_n hZ.1 dX5_link_154 rfl ?_
  refine yg5_9 dX5_link_155 zw1364 ?_
  refine s_iload_n hZ.1 dX5_link_158 rfl ?_
  refine s_iload hZ.1 dX5_link_159 ?_
  refine s_iast hZ.1 (tt := 0) rfl dX5_link_161 ?_
  refine s_aload_n hZ.1 dX5_link_162 rfl ?_
  refine yg5_10 dX5_link_163 zw1365 ?_
  refine s_iload_n hZ.1 dX5_link_166 rfl ?_
  refine s_iconst dX5_link_167 (by decide +kernel) ?_
  refine s_iast hZ.1 (tt := 0) rfl dX5_link_168 ?_
  refine s_iinc hZ.1 dX5_link_169 (Nat.le_of_ble_eq_true rfl) ?_
  exact s_goto dX5_link_172 (by decide) (wX5_link_280 hZ j hj)
noncomputable def vX5_link_143 (j : Nat → rx_K) : rx_K := o_ld rx_isR 0 (o_getf 5 1 (o_ld rx_isI 7 (o_ald 0 (o_const 8 (o_c2 rx_eq (vX5_link_154 j) (vX5_link_175 j))))))
set_option maxRecDepth 20000 in
theorem wX5_link_143 (hZ : zO b e D A X) (j : Nat → rx_K) (hj : ∀ k pc, [41][k]? = some pc → rx_OK (zV b e D A X) mX5_link 4 pc (j k)) : rx_OK (zV b e D A X) mX5_link 4 143 (vX5_link_143 j) := by
  unfold vX5_link_143
  refine s_aload_n hZ.1 dX5_link_143 rfl ?_
  refine yg5_1 dX5_link_144 zw1351 ?_
  refine s_iload hZ.1 dX5_link_147 ?_
  refine s_iald (tt := 0) rfl dX5_link_149 ?_
  refine s_iconst dX5_link_150 (by decide +kernel) ?_
  exact s_icmp_ne dX5_link_151 (by decide) (wX5_link_175 hZ j hj) (wX5_link_154 hZ j hj)
noncomputable def vX5_link_138 (j : Nat → rx_K) : rx_K := o_ld rx_isI 7 (o_c1 rx_lt (vX5_link_175 j) (vX5_link_143 j))
set_option maxRecDepth 20000 in
theorem wX5_link_138 (hZ : zO b e D A X) (j : Nat → rx_K) (hj : ∀ k pc, [41][k]? = some pc → rx_OK (zV b e D A X) mX5_link 4 pc (j k)) : rx_OK (zV b e D A X) mX5_link 4 138 (vX5_link_138 j) := by
  unfold vX5_link_138
  refine s_iload hZ.1 dX5_link_138 ?_
  exact s_if_lt dX5_link_140 (by decide) (wX5_link_175 hZ j hj) (wX5_link_143 hZ j hj)
noncomputable def vX5_link_131 (j : Nat → rx_K) : rx_K := o_st rx_isI 8 (o_ld rx_isI 8 (o_c1 rx_eq (vX5_link_138 j) (vX5_link_175 j)))
set_option maxRecDepth 20000 in
theorem wX5_link_131 (hZ : zO b e D A X) (j : Nat → rx_K) (hj : ∀ k pc, [41][k]? = some pc → rx_OK (zV b e D A X) mX5_link 4 pc (j k)) : rx_OK (zV b e D A X) mX5_link 4 131 (vX5_link_131 j) := by
  unfold vX5_link_131
  refine s_istore hZ.1 dX5_link_131 (Nat.le_of_ble_eq_true rfl) ?_
  refine s_iload hZ.1 dX5_link_133 ?_
  exact s_if_ne dX5_link_135 (by decide) (wX5_link_175 hZ j hj) (wX5_link_138 hZ j hj)
noncomputable def vX5_link_130 (j : Nat → rx_K) : rx_K := o_const 0 ((vX5_link_131 j))
set_option maxRecDepth 20000 in
theorem wX5_link_130 (hZ : zO b e D A X) (j : Nat → rx_K) (hj : ∀ k pc, [41][k]? = some pc → rx_OK (zV b e D A X) mX5_link 4 pc (j k)) : rx_OK (zV b e D A X) mX5_link 4 130 (vX5_link_130 j) := by
  unfold vX5_link_130
  refine s_iconst dX5_link_130 (by decide +kernel) ?_
  exact (wX5_link_131 hZ j hj)
noncomputable def vX5_link_126 (j : Nat → rx_K) : rx_K := o_const 8 ((vX5_link_131 j))
set_option maxRecDepth 20000 in
theorem wX5_link_126 (hZ : zO b e D A X) (j : Nat → rx_K) (hj : ∀ k pc, [41][k]? = some pc → rx_OK (zV b e D A X) mX5_link 4 pc (j k)) : rx_OK (zV b e D A X) mX5_link 4 126 (vX5_link_126 j) := by
  unfold vX5_link_126
  refine s_iconst dX5_link_126 (by decide +kernel) ?_
  exact s_goto dX5_link_127 (by decide) (wX5_link_131 hZ j hj)
noncomputable def vX5_link_118 (j : Nat → rx_K) : rx_K := o_st rx_isI 7 (o_ld rx_isI 6 (o_const 32 (o_c2 (fun h x y => rx_lt h y x) (vX5_link_126 j) (vX5_link_130 j))))
set_option maxRecDepth 20000 in
theorem wX5_link_118 (hZ : zO b e D A X) (j : Nat → rx_K) (hj : ∀ k pc, [41][k]? = some pc → rx_OK (zV b e D A X) mX5_link 4 pc (j k)) : rx_OK (zV b e D A X) mX5_link 4 118 (vX5_link_118 j) := by
  unfold vX5_link_118
  refine s_istore hZ.1 dX5_link_118 (Nat.le_of_ble_eq_true rfl) ?_
  refine s_iload hZ.1 dX5_link_120 ?_
  refine s_iconst dX5_link_122 (by decide +kernel) ?_
  exact s_icmp_le dX5_link_123 (by decide) (wX5_link_130 hZ j hj) (wX5_link_126 hZ j hj)
noncomputable def vX5_link_116 (j : Nat → rx_K) : rx_K := o_const 34359738352 ((vX5_link_118 j))
set_option maxRecDepth 20000 in
theorem wX5_link_116 (hZ : zO b e D A X) (j : Nat → rx_K) (hj : ∀ k pc, [41][k]? = some pc → rx_OK (zV b e D A X) mX5_link 4 pc (j k)) : rx_OK (zV b e D A X) mX5_link 4 116 (vX5_link_116 j) := by
  unfold vX5_link_116
  refine s_bipush dX5_link_116 (by decide +kernel) ?_
  exact (wX5_link_118 hZ j hj)
noncomputable def vX5_link_96 (j : Nat → rx_K) : rx_K := o_ld rx_isR 0 (o_getf 5 0 (o_getf 11 5 (o_ld rx_isI 5 (o_const 32 (o_bi (fun x y => x * y) (o_ld rx_isI 6 (o_bi (fun x y => x + y) (o_const 8 (o_bi (fun x y => x - y) (o_ald 0 ((vX5_link_118 j))))))))))))
set_option maxRecDepth 20000 in
theorem wX5_link_96 (hZ : zO b e D A X) (j : Nat → rx_K) (hj : ∀ k pc, [41][k]? = some pc → rx_OK (zV b e D A X) mX5_link 4 pc (j k)) : rx_OK (zV b e D A X) mX5_link 4 96 (vX5_link_96 j) := by
  unfold vX5_link_96
  refine s_aload_n hZ.1 dX5_link_96 rfl ?_
  refine yg5_0 dX5_link_97 zw1350 ?_
  refine yg11_5 dX5_link_100 zw1273 ?_
  refine s_iload hZ.1 dX5_link_103 ?_
  refine s_iconst dX5_link_105 (by decide +kernel) ?_
  refine s_imul dX5_link_106 ?_
  refine s_iload hZ.1 dX5_link_107 ?_
  refine s_iadd dX5_link_109 ?_
  refine s_iconst dX5_link_110 (by decide +kernel) ?_
  refine s_isub dX5_link_111 ?_
  refine s_iald (tt := 0) rfl dX5_link_112 ?_
  exact s_goto dX5_link_113 (by decide) (wX5_link_118 hZ j hj)
noncomputable def vX5_link_90 (j : Nat → rx_K) : rx_K := o_ld rx_isI 6 (o_const 32 (o_c2 (fun h x y => rx_lt h y x) (vX5_link_116 j) (vX5_link_96 j)))
set_option maxRecDepth 20000 in
theorem wX5_link_90 (hZ : zO b e D A X) (j : Nat → rx_K) (hj : ∀ k pc, [41][k]? = some pc → rx_OK (zV b e D A X) mX5_link 4 pc (j k)) : rx_OK (zV b e D A X) mX5_link 4 90 (vX5_link_90 j) := by
  unfold vX5_link_90
  refine s_iload hZ.1 dX5_link_90 ?_
  refine s_iconst dX5_link_92 (by decide +kernel) ?_
  exact s_icmp_gt dX5_link_93 (by decide) (wX5_link_116 hZ j hj) (wX5_link_96 hZ j hj)
noncomputable def vX5_link_77 (j : Nat → rx_K) : rx_K := o_ld rx_isR 0 (o_getf 5 0 (o_getf 11 3 (o_ld rx_isI 5 (o_ald 0 ((vX5_link_118 j))))))
set_option maxRecDepth 20000 in
theorem wX5_link_77 (hZ : zO b e D A X) (j : Nat → rx_K) (hj : ∀ k pc, [41][k]? = some pc → rx_OK (zV b e D A X) mX5_link 4 pc (j k)) : rx_OK (zV b e D A X) mX5_link 4 77 (vX5_link_77 j) := by
  unfold vX5_link_77
  refine s_aload_n hZ.1 dX5_link_77 rfl ?_
  refine yg5_0 dX5_link_78 zw1350 ?_
  refine yg11_3 dX5_link_81 zw1264 ?_
  refine s_iload hZ.1 dX5_link_84 ?_
  refine s_iald (tt := 0) rfl dX5_link_86 ?_
  exact s_goto dX5_link_87 (by decide) (wX5_link_118 hZ j hj)
noncomputable def vX5_link_52 (j : Nat → rx_K) : rx_K := o_ld rx_isR 0 (o_getf 5 9 (o_ld rx_isI 2 (o_const 8 (o_bi (fun x y => x - y) (o_ald 0 (o_st rx_isI 5 (o_ld rx_isR 0 (o_getf 5 10 (o_ld rx_isI 2 (o_const 8 (o_bi (fun x y => x - y) (o_ald 0 (o_st rx_isI 6 (o_ld rx_isI 6 (o_c1 rx_eq (vX5_link_77 j) (vX5_link_90 j))))))))))))))))
set_option maxRecDepth 20000 in
theorem wX5_link_52 (hZ : zO b e D A X) (j : Nat → rx_K) (hj : ∀ k pc, [41][k]? = some pc → rx_OK (zV b e D A X) mX5_link 4 pc (j k)) : rx_OK (zV b e D A X) mX5_link 4 52 (vX5_link_52 j) := by
  unfold vX5_link_52
  refine s_aload_n hZ.1 dX5_link_52 rfl ?_
  refine yg5_9 dX5_link_53 zw1364 ?_
  refine s_iload_n hZ.1 dX5_link_56 rfl ?_
  refine s_iconst dX5_link_57 (by decide +kernel) ?_
  refine s_isub dX5_link_58 ?_
  refine s_iald (tt := 0) rfl dX5_link_59 ?_
  refine s_istore hZ.1 dX5_link_60 (Nat.le_of_ble_eq_true rfl) ?_
  refine s_aload_n hZ.1 dX5_link_62 rfl ?_
  refine yg5_10 dX5_link_63 zw1365 ?_
  refine s_iload_n hZ.1 dX5_link_66 rfl ?_
  refine s_iconst dX5_link_67 (by decide +kernel) ?_
  refine s_isub dX5_link_68 ?_
  refine s_iald (tt := 0) rfl dX5_link_69 ?_
  refine s_istore hZ.1 dX5_link_70 (Nat.le_of_ble_eq_true rfl) ?_
  refine s_iload hZ.1 dX5_link_72 ?_
  exact s_if_ne dX5_link_74 (by decide) (wX5_link_90 hZ j hj) (wX5_link_77 hZ j hj)
noncomputable def vX5_link_48 (j : Nat → rx_K) : rx_K := o_ld rx_isI 2 (o_c1 (fun h x y => rx_lt h y x) (vX5_link_52 j) (vX5_link_286 j))
set_option maxRecDepth 20000 in
theorem wX5_link_48 (hZ : zO b e D A X) (j : Nat → rx_K) (hj : ∀ k pc, [41][k]? = some pc → rx_OK (zV b e D A X) mX5_link 4 pc (j k)) : rx_OK (zV b e D A X) mX5_link 4 48 (vX5_link_48 j) := by
  unfold vX5_link_48
  refine s_iload_n hZ.1 dX5_link_48 rfl ?_
  exact s_if_le dX5_link_49 (by decide) (wX5_link_286 hZ j hj) (wX5_link_52 hZ j hj)
noncomputable def vX5_link_41 (j : Nat → rx_K) : rx_K := o_ld rx_isI 4 (o_const 800000000 (o_c2 rx_lt (vX5_link_48 j) (vX5_link_286 j)))
set_option maxRecDepth 20000 in
theorem wX5_link_41 (hZ : zO b e D A X) (j : Nat → rx_K) (hj : ∀ k pc, [41][k]? = some pc → rx_OK (zV b e D A X) mX5_link 4 pc (j k)) : rx_OK (zV b e D A X) mX5_link 4 41 (vX5_link_41 j) := by
  unfold vX5_link_41
  refine s_iload hZ.1 dX5_link_41 ?_
  refine s_ldc dX5_link_43 zw2500 (by decide +kernel) ?_
  exact s_icmp_ge dX5_link_45 (by decide) (wX5_link_286 hZ j hj) (wX5_link_48 hZ j hj)
noncomputable def vX5_link_38 (j : Nat → rx_K) : rx_K := o_const 0 (o_st rx_isI 4 ((vX5_link_41 j)))
set_option maxRecDepth 20000 in
theorem wX5_link_38 (hZ : zO b e D A X) (j : Nat → rx_K) (hj : ∀ k pc, [41][k]? = some pc → rx_OK (zV b e D A X) mX5_link 4 pc (j k)) : rx_OK (zV b e D A X) mX5_link 4 38 (vX5_link_38 j) := by
  unfold vX5_link_38
  refine s_iconst dX5_link_38 (by decide +kernel) ?_
  refine s_istore hZ.1 dX5_link_39 (Nat.le_of_ble_eq_true rfl) ?_
  exact (wX5_link_41 hZ j hj)
noncomputable def vX5_link_22 (j : Nat → rx_K) : rx_K := o_ld rx_isR 0 (o_getf 5 9 (o_const 0 (o_ld rx_isI 1 (o_ast 0 (fun v => v) rx_isI (o_ld rx_isR 0 (o_getf 5 10 (o_const 0 (o_const 0 (o_ast 0 (fun v => v) rx_isI (o_const 8 (o_st rx_isI 2 ((vX5_link_38 j)))))))))))))
set_option maxRecDepth 20000 in
theorem wX5_link_22 (hZ : zO b e D A X) (j : Nat → rx_K) (hj : ∀ k pc, [41][k]? = some pc → rx_OK (zV b e D A X) mX5_link 4 pc (j k)) : rx_OK (zV b e D A X) mX5_link 4 22 (vX5_link_22 j) := by
  unfold vX5_link_22
  refine s_aload_n hZ.1 dX5_link_22 rfl ?_
  refine yg5_9 dX5_link_23 zw1364 ?_
  refine s_iconst dX5_link_26 (by decide +kernel) ?_
  refine s_iload_n hZ.1 dX5_link_27 rfl ?_
  refine s_iast hZ.1 (tt := 0) rfl dX5_link_28 ?_
  refine s_aload_n hZ.1 dX5_link_29 rfl ?_
  refine yg5_10 dX5_link_30 zw1365 ?_
  refine s_iconst dX5_link_33 (by decide +kernel) ?_
  refine s_iconst dX5_link_34 (by decide +kernel) ?_
  refine s_iast hZ.1 (tt := 0) rfl dX5_link_35 ?_
  refine s_iconst dX5_link_36 (by decide +kernel) ?_
  refine s_istore_n hZ.1 dX5_link_37 rfl (Nat.le_of_ble_eq_true rfl) ?_
  exact (wX5_link_38 hZ j hj)
noncomputable def vX5_link_12 (j : Nat → rx_K) : rx_K := o_ld rx_isR 0 (o_getf 5 1 (o_ld rx_isI 1 (o_ald 0 (o_const 8 (o_c2 rx_eq (vX5_link_22 j) (vX5_link_38 j))))))
set_option maxRecDepth 20000 in
theorem wX5_link_12 (hZ : zO b e D A X) (j : Nat → rx_K) (hj : ∀ k pc, [41][k]? = some pc → rx_OK (zV b e D A X) mX5_link 4 pc (j k)) : rx_OK (zV b e D A X) mX5_link 4 12 (vX5_link_12 j) := by
  unfold vX5_link_12
  refine s_aload_n hZ.1 dX5_link_12 rfl ?_
  refine yg5_1 dX5_link_13 zw1351 ?_
  refine s_iload_n hZ.1 dX5_link_16 rfl ?_
  refine s_iald (tt := 0) rfl dX5_link_17 ?_
  refine s_iconst dX5_link_18 (by decide +kernel) ?_
  exact s_icmp_ne dX5_link_19 (by decide) (wX5_link_38 hZ j hj) (wX5_link_22 hZ j hj)
noncomputable def vX5_link_0 (j : Nat → rx_K) : rx_K := o_const 0 (o_st rx_isI 2 (o_ld rx_isR 0 (o_ld rx_isI 1 (o_callV 1 5 FX5_load (o_st rx_isI 3 (o_ld rx_isI 3 (o_c1 rx_eq (vX5_link_12 j) (vX5_link_38 j))))))))
set_option maxRecDepth 20000 in
theorem wX5_link_0 (hZ : zO b e D A X) (j : Nat → rx_K) (hj : ∀ k pc, [41][k]? = some pc → rx_OK (zV b e D A X) mX5_link 4 pc (j k)) : rx_OK (zV b e D A X) mX5_link 4 0 (vX5_link_0 j) := by
  unfold vX5_link_0
  refine s_iconst dX5_link_0 (by decide +kernel) ?_
  refine s_istore_n hZ.1 dX5_link_1 rfl (Nat.le_of_ble_eq_true rfl) ?_
  refine s_aload_n hZ.1 dX5_link_2 rfl ?_
  refine s_iload_n hZ.1 dX5_link_3 rfl ?_
  refine s_callV hZ.1 (Met_X5_load hZ) (Nat.le_of_ble_eq_true rfl) vy_X5_load zcl5 zw2493 zw2494 (Or.inl zw2492) dX5_link_4 ?_
  refine s_istore_n hZ.1 dX5_link_7 rfl (Nat.le_of_ble_eq_true rfl) ?_
  refine s_iload_n hZ.1 dX5_link_8 rfl ?_
  exact s_if_ne dX5_link_9 (by decide) (wX5_link_38 hZ j hj) (wX5_link_12 hZ j hj)
noncomputable def vhX5_link (j : Nat → rx_K) : List rx_K := [vX5_link_41 j]
theorem vlX5_link (hZ : zO b e D A X) : ∀ n k pc, [41][k]? = some pc → rx_OK (zV b e D A X) mX5_link 4 pc (rx_J (vhX5_link) n k) := rx_loop fun j hj k pc h => by
  match k, h with
  | 0, h =>
    have e9 := Option.some.inj (show some 41 = some pc from h)
    subst e9
    exact wX5_link_41 hZ j hj
  | _ + 1, h => exact absurd h (by simp)
noncomputable def FX5_link : List Nat → rx_H → Option (Nat × rx_H) := rx_ent 9 (vX5_link_0 (rx_J (vhX5_link) 4000000000))
theorem Met_X5_link (hZ : zO b e D A X) : rx_Met (zV b e D A X) 4 yX5_link mX5_link (FX5_link) := rx_entry hZ.1 (wX5_link_0 hZ _ (vlX5_link hZ 4000000000)) (by decide +kernel) rfl (fun h => by cases h)
abbrev mX5_askCopy : rx_M := (RX5, cX5_askCopy, 8, (some .int), false)
theorem vy_X5_askCopy : rx_Y (zV b e D A X) yX5_askCopy mX5_askCopy 3 := ⟨zw2488, zw428, by decide, by decide +kernel, by decide +kernel, by decide +kernel⟩
noncomputable def vX5_askCopy_72 : rx_K := o_ret1 rx_isI
set_option maxRecDepth 20000 in
theorem wX5_askCopy_72 (hZ : zO b e D A X) : rx_OK (zV b e D A X) mX5_askCopy 2 72 vX5_askCopy_72 := by
  unfold vX5_askCopy_72
  exact s_iret hZ.1 rfl dX5_askCopy_72
noncomputable def vX5_askCopy_70 : rx_K := o_const 136 (vX5_askCopy_72)
set_option maxRecDepth 20000 in
theorem wX5_askCopy_70 (hZ : zO b e D A X) : rx_OK (zV b e D A X) mX5_askCopy 2 70 vX5_askCopy_70 := by
  unfold vX5_askCopy_70
  refine s_bipush dX5_askCopy_70 (by decide +kernel) ?_
  exact (wX5_askCopy_72 hZ)
noncomputable def vX5_askCopy_66 : rx_K := o_const 0 (vX5_askCopy_72)
set_option maxRecDepth 20000 in
theorem wX5_askCopy_66 (hZ : zO b e D A X) : rx_OK (zV b e D A X) mX5_askCopy 2 66 vX5_askCopy_66 := by
  unfold vX5_askCopy_66
  refine s_iconst dX5_askCopy_66 (by decide +kernel) ?_
  exact s_goto dX5_askCopy_67 (by decide) (wX5_askCopy_72 hZ)
noncomputable def vX5_askCopy_54 : rx_K := o_ld rx_isR 7 (o_getf 7 16 (o_il (fun x => x.toInt64) (o_ld rx_isL 4 (o_bc (fun x y => lg_cmp x y) (o_c1 rx_eq vX5_askCopy_66 vX5_askCopy_70)))))
set_option maxRecDepth 20000 in
theorem wX5_askCopy_54 (hZ : zO b e D A X) : rx_OK (zV b e D A X) mX5_askCopy 2 54 vX5_askCopy_54 := by
  unfold vX5_askCopy_54
  refine s_aload hZ.1 dX5_askCopy_54 ?_
  refine yg7_16 dX5_askCopy_56 zw1063 ?_
  refine s_i2l dX5_askCopy_59 ?_
  refine s_lload hZ.1 dX5_askCopy_60 ?_
  refine s_lcmp dX5_askCopy_62 ?_
  exact s_if_ne dX5_askCopy_63 (by decide) (wX5_askCopy_70 hZ) (wX5_askCopy_66 hZ)
noncomputable def vX5_askCopy_46 : rx_K := o_ld rx_isR 7 (o_getf 7 15 (o_c1 rx_eq vX5_askCopy_70 vX5_askCopy_54))
set_option maxRecDepth 20000 in
theorem wX5_askCopy_46 (hZ : zO b e D A X) : rx_OK (zV b e D A X) mX5_askCopy 2 46 vX5_askCopy_46 := by
  unfold vX5_askCopy_46
  refine s_aload hZ.1 dX5_askCopy_46 ?_
  refine yg7_15 dX5_askCopy_48 zw1056 ?_
  exact s_if_eq dX5_askCopy_51 (by decide) (wX5_askCopy_70 hZ) (wX5_askCopy_54 hZ)
noncomputable def vX5_askCopy_39 : rx_K := o_st rx_isR 7 (o_ld rx_isR 7 (o_nul vX5_askCopy_70 vX5_askCopy_46))
set_option maxRecDepth 20000 in
theorem wX5_askCopy_39 (hZ : zO b e D A X) : rx_OK (zV b e D A X) mX5_askCopy 2 39 vX5_askCopy_39 := by
  unfold vX5_askCopy_39
  refine s_astore hZ.1 dX5_askCopy_39 (Nat.le_of_ble_eq_true rfl) ?_
  refine s_aload hZ.1 dX5_askCopy_41 ?_
  exact s_ifnull dX5_askCopy_43 (by decide) (wX5_askCopy_70 hZ) (wX5_askCopy_46 hZ)
noncomputable def vX5_askCopy_23 : rx_K := o_ld rx_isR 0 (o_getf 5 0 (o_ld rx_isI 6 (o_ld rx_isR 3 (o_getf 7 7 (o_const 147573952589676412921 (o_callV 3 11 FX11_fieldIn (vX5_askCopy_39)))))))
set_option maxRecDepth 20000 in
theorem wX5_askCopy_23 (hZ : zO b e D A X) : rx_OK (zV b e D A X) mX5_askCopy 2 23 vX5_askCopy_23 := by
  unfold vX5_askCopy_23
  refine s_aload_n hZ.1 dX5_askCopy_23 rfl ?_
  refine yg5_0 dX5_askCopy_24 zw1350 ?_
  refine s_iload hZ.1 dX5_askCopy_27 ?_
  refine s_aload_n hZ.1 dX5_askCopy_29 rfl ?_
  refine yg7_7 dX5_askCopy_30 zw1007 ?_
  refine s_ldc2 dX5_askCopy_33 zw2490 (by decide +kernel) ?_
  refine s_callV hZ.1 (Met_X11_fieldIn hZ) (Nat.le_of_ble_eq_true rfl) vy_X11_fieldIn zcl11 zw2064 zw2065 (Or.inl zw2491) dX5_askCopy_36 ?_
  exact (wX5_askCopy_39 hZ)
noncomputable def vX5_askCopy_19 : rx_K := o_const 3 (vX5_askCopy_39)
set_option maxRecDepth 20000 in
theorem wX5_askCopy_19 (hZ : zO b e D A X) : rx_OK (zV b e D A X) mX5_askCopy 2 19 vX5_askCopy_19 := by
  unfold vX5_askCopy_19
  refine s_null dX5_askCopy_19 ?_
  exact s_goto dX5_askCopy_20 (by decide) (wX5_askCopy_39 hZ)
noncomputable def vX5_askCopy_15 : rx_K := o_ld rx_isR 3 (o_nul vX5_askCopy_19 vX5_askCopy_23)
set_option maxRecDepth 20000 in
theorem wX5_askCopy_15 (hZ : zO b e D A X) : rx_OK (zV b e D A X) mX5_askCopy 2 15 vX5_askCopy_15 := by
  unfold vX5_askCopy_15
  refine s_aload_n hZ.1 dX5_askCopy_15 rfl ?_
  exact s_ifnonnull dX5_askCopy_16 (by decide) (wX5_askCopy_23 hZ) (wX5_askCopy_19 hZ)
noncomputable def vX5_askCopy_0 : rx_K := o_ld rx_isR 0 (o_getf 5 0 (o_ld rx_isL 1 (o_callV 1 11 FX11_find (o_st rx_isI 6 (o_ld rx_isI 6 (o_c1 rx_lt vX5_askCopy_19 vX5_askCopy_15))))))
set_option maxRecDepth 20000 in
theorem wX5_askCopy_0 (hZ : zO b e D A X) : rx_OK (zV b e D A X) mX5_askCopy 2 0 vX5_askCopy_0 := by
  unfold vX5_askCopy_0
  refine s_aload_n hZ.1 dX5_askCopy_0 rfl ?_
  refine yg5_0 dX5_askCopy_1 zw1350 ?_
  refine s_lload_n hZ.1 dX5_askCopy_4 rfl ?_
  refine s_callV hZ.1 (Met_X11_find hZ) (Nat.le_of_ble_eq_true rfl) vy_X11_find zcl11 zw1574 zw1575 (Or.inl zw2489) dX5_askCopy_5 ?_
  refine s_istore hZ.1 dX5_askCopy_8 (Nat.le_of_ble_eq_true rfl) ?_
  refine s_iload hZ.1 dX5_askCopy_10 ?_
  exact s_if_lt dX5_askCopy_12 (by decide) (wX5_askCopy_19 hZ) (wX5_askCopy_15 hZ)
noncomputable def FX5_askCopy : List Nat → rx_H → Option (Nat × rx_H) := rx_ent 8 vX5_askCopy_0
theorem Met_X5_askCopy (hZ : zO b e D A X) : rx_Met (zV b e D A X) 2 yX5_askCopy mX5_askCopy (FX5_askCopy) := rx_entry hZ.1 (wX5_askCopy_0 hZ) (by decide +kernel) rfl (fun h => by cases h)
abbrev mX5_isLet : rx_M := (RX5, cX5_isLet, 7, (some .boolean), false)
theorem vy_X5_isLet : rx_Y (zV b e D A X) yX5_isLet mX5_isLet 4 := ⟨zw2526, zw428, by decide, by decide +kernel, by decide +kernel, by decide +kernel⟩
noncomputable def vX5_isLet_128 : rx_K := o_ret1 rx_isZ
set_option maxRecDepth 20000 in
theorem wX5_isLet_128 (hZ : zO b e D A X) : rx_OK (zV b e D A X) mX5_isLet 2 128 vX5_isLet_128 := by
  unfold vX5_isLet_128
  exact s_zret rx_z_ok rfl dX5_isLet_128
noncomputable def vX5_isLet_127 : rx_K := o_const 0 (vX5_isLet_128)
set_option maxRecDepth 20000 in
theorem wX5_isLet_127 (hZ : zO b e D A X) : rx_OK (zV b e D A X) mX5_isLet 2 127 vX5_isLet_127 := by
  unfold vX5_isLet_127
  refine s_iconst dX5_isLet_127 (by decide +kernel) ?_
  exact (wX5_isLet_128 hZ)
noncomputable def vX5_isLet_123 : rx_K := o_const 8 (vX5_isLet_128)
set_option maxRecDepth 20000 in
theorem wX5_isLet_123 (hZ : zO b e D A X) : rx_OK (zV b e D A X) mX5_isLet 2 123 vX5_isLet_123 := by
  unfold vX5_isLet_123
  refine s_iconst dX5_isLet_123 (by decide +kernel) ?_
  exact s_goto dX5_isLet_124 (by decide) (wX5_isLet_128 hZ)
noncomputable def vX5_isLet_114 : rx_K := o_st rx_isI 6 (o_ld rx_isI 5 (o_ld rx_isI 6 (o_c2 rx_eq vX5_isLet_123 vX5_isLet_127)))
set_option maxRecDepth 20000 in
theorem wX5_isLet_114 (hZ : zO b e D A X) : rx_OK (zV b e D A X) mX5_isLet 2 114 vX5_isLet_114 := by
  unfold vX5_isLet_114
  refine s_istore hZ.1 dX5_isLet_114 (Nat.le_of_ble_eq_true rfl) ?_
  refine s_iload hZ.1 dX5_isLet_116 ?_
  refine s_iload hZ.1 dX5_isLet_118 ?_
  exact s_icmp_ne dX5_isLet_120 (by decide) (wX5_isLet_127 hZ) (wX5_isLet_123 hZ)
noncomputable def vX5_isLet_113 : rx_K := o_ld rx_isI 2 (vX5_isLet_114)
set_option maxRecDepth 20000 in
theorem wX5_isLet_113 (hZ : zO b e D A X) : rx_OK (zV b e D A X) mX5_isLet 2 113 vX5_isLet_113 := by
  unfold vX5_isLet_113
  refine s_iload_n hZ.1 dX5_isLet_113 rfl ?_
  exact (wX5_isLet_114 hZ)
noncomputable def vX5_isLet_101 : rx_K := o_ld rx_isR 0 (o_getf 5 0 (o_getf 11 8 (o_ld rx_isI 2 (o_ald 0 (vX5_isLet_114)))))
set_option maxRecDepth 20000 in
theorem wX5_isLet_101 (hZ : zO b e D A X) : rx_OK (zV b e D A X) mX5_isLet 2 101 vX5_isLet_101 := by
  unfold vX5_isLet_101
  refine s_aload_n hZ.1 dX5_isLet_101 rfl ?_
  refine yg5_0 dX5_isLet_102 zw1350 ?_
  refine yg11_8 dX5_isLet_105 zw1280 ?_
  refine s_iload_n hZ.1 dX5_isLet_108 rfl ?_
  refine s_iald (tt := 0) rfl dX5_isLet_109 ?_
  exact s_goto dX5_isLet_110 (by decide) (wX5_isLet_114 hZ)
noncomputable def vX5_isLet_85 : rx_K := o_ld rx_isR 0 (o_ld rx_isR 0 (o_getf 5 0 (o_getf 11 7 (o_ld rx_isI 2 (o_ald 0 (o_callV 1 5 FX5_load (o_c1 rx_eq vX5_isLet_101 vX5_isLet_113)))))))
set_option maxRecDepth 20000 in
theorem wX5_isLet_85 (hZ : zO b e D A X) : rx_OK (zV b e D A X) mX5_isLet 2 85 vX5_isLet_85 := by
  unfold vX5_isLet_85
  refine s_aload_n hZ.1 dX5_isLet_85 rfl ?_
  refine s_aload_n hZ.1 dX5_isLet_86 rfl ?_
  refine yg5_0 dX5_isLet_87 zw1350 ?_
  refine yg11_7 dX5_isLet_90 zw1278 ?_
  refine s_iload_n hZ.1 dX5_isLet_93 rfl ?_
  refine s_iald (tt := 0) rfl dX5_isLet_94 ?_
  refine s_callV hZ.1 (Met_X5_load hZ) (Nat.le_of_ble_eq_true rfl) vy_X5_load zcl5 zw2493 zw2494 (Or.inl zw2492) dX5_isLet_95 ?_
  exact s_if_ne dX5_isLet_98 (by decide) (wX5_isLet_113 hZ) (wX5_isLet_101 hZ)
noncomputable def vX5_isLet_71 : rx_K := o_st rx_isI 5 (o_ld rx_isR 0 (o_getf 5 0 (o_getf 11 7 (o_ld rx_isI 2 (o_ald 0 (o_c1 rx_lt vX5_isLet_113 vX5_isLet_85))))))
set_option maxRecDepth 20000 in
theorem wX5_isLet_71 (hZ : zO b e D A X) : rx_OK (zV b e D A X) mX5_isLet 2 71 vX5_isLet_71 := by
  unfold vX5_isLet_71
  refine s_istore hZ.1 dX5_isLet_71 (Nat.le_of_ble_eq_true rfl) ?_
  refine s_aload_n hZ.1 dX5_isLet_73 rfl ?_
  refine yg5_0 dX5_isLet_74 zw1350 ?_
  refine yg11_7 dX5_isLet_77 zw1278 ?_
  refine s_iload_n hZ.1 dX5_isLet_80 rfl ?_
  refine s_iald (tt := 0) rfl dX5_isLet_81 ?_
  exact s_if_lt dX5_isLet_82 (by decide) (wX5_isLet_113 hZ) (wX5_isLet_85 hZ)
noncomputable def vX5_isLet_69 : rx_K := o_ld rx_isI 4 (vX5_isLet_71)
set_option maxRecDepth 20000 in
theorem wX5_isLet_69 (hZ : zO b e D A X) : rx_OK (zV b e D A X) mX5_isLet 2 69 vX5_isLet_69 := by
  unfold vX5_isLet_69
  refine s_iload hZ.1 dX5_isLet_69 ?_
  exact (wX5_isLet_71 hZ)
noncomputable def vX5_isLet_56 : rx_K := o_ld rx_isR 0 (o_getf 5 0 (o_getf 11 8 (o_ld rx_isI 4 (o_ald 0 (vX5_isLet_71)))))
set_option maxRecDepth 20000 in
theorem wX5_isLet_56 (hZ : zO b e D A X) : rx_OK (zV b e D A X) mX5_isLet 2 56 vX5_isLet_56 := by
  unfold vX5_isLet_56
  refine s_aload_n hZ.1 dX5_isLet_56 rfl ?_
  refine yg5_0 dX5_isLet_57 zw1350 ?_
  refine yg11_8 dX5_isLet_60 zw1280 ?_
  refine s_iload hZ.1 dX5_isLet_63 ?_
  refine s_iald (tt := 0) rfl dX5_isLet_65 ?_
  exact s_goto dX5_isLet_66 (by decide) (wX5_isLet_71 hZ)
noncomputable def vX5_isLet_39 : rx_K := o_ld rx_isR 0 (o_ld rx_isR 0 (o_getf 5 0 (o_getf 11 7 (o_ld rx_isI 4 (o_ald 0 (o_callV 1 5 FX5_load (o_c1 rx_eq vX5_isLet_56 vX5_isLet_69)))))))
set_option maxRecDepth 20000 in
theorem wX5_isLet_39 (hZ : zO b e D A X) : rx_OK (zV b e D A X) mX5_isLet 2 39 vX5_isLet_39 := by
  unfold vX5_isLet_39
  refine s_aload_n hZ.1 dX5_isLet_39 rfl ?_
  refine s_aload_n hZ.1 dX5_isLet_40 rfl ?_
  refine yg5_0 dX5_isLet_41 zw1350 ?_
  refine yg11_7 dX5_isLet_44 zw1278 ?_
  refine s_iload hZ.1 dX5_isLet_47 ?_
  refine s_iald (tt := 0) rfl dX5_isLet_49 ?_
  refine s_callV hZ.1 (Met_X5_load hZ) (Nat.le_of_ble_eq_true rfl) vy_X5_load zcl5 zw2493 zw2494 (Or.inl zw2492) dX5_isLet_50 ?_
  exact s_if_ne dX5_isLet_53 (by decide) (wX5_isLet_69 hZ) (wX5_isLet_56 hZ)
noncomputable def vX5_isLet_26 : rx_K := o_ld rx_isR 0 (o_getf 5 0 (o_getf 11 7 (o_ld rx_isI 4 (o_ald 0 (o_c1 rx_lt vX5_isLet_69 vX5_isLet_39)))))
set_option maxRecDepth 20000 in
theorem wX5_isLet_26 (hZ : zO b e D A X) : rx_OK (zV b e D A X) mX5_isLet 2 26 vX5_isLet_26 := by
  unfold vX5_isLet_26
  refine s_aload_n hZ.1 dX5_isLet_26 rfl ?_
  refine yg5_0 dX5_isLet_27 zw1350 ?_
  refine yg11_7 dX5_isLet_30 zw1278 ?_
  refine s_iload hZ.1 dX5_isLet_33 ?_
  refine s_iald (tt := 0) rfl dX5_isLet_35 ?_
  exact s_if_lt dX5_isLet_36 (by decide) (wX5_isLet_69 hZ) (wX5_isLet_39 hZ)
noncomputable def vX5_isLet_13 : rx_K := o_ld rx_isR 0 (o_getf 5 0 (o_ld rx_isR 1 (o_ld rx_isI 2 (o_ld rx_isI 3 (o_ld rx_isI 4 (o_callV 4 11 FX11_isLet_ (o_ret1 rx_isZ)))))))
set_option maxRecDepth 20000 in
theorem wX5_isLet_13 (hZ : zO b e D A X) : rx_OK (zV b e D A X) mX5_isLet 2 13 vX5_isLet_13 := by
  unfold vX5_isLet_13
  refine s_aload_n hZ.1 dX5_isLet_13 rfl ?_
  refine yg5_0 dX5_isLet_14 zw1350 ?_
  refine s_aload_n hZ.1 dX5_isLet_17 rfl ?_
  refine s_iload_n hZ.1 dX5_isLet_18 rfl ?_
  refine s_iload_n hZ.1 dX5_isLet_19 rfl ?_
  refine s_iload hZ.1 dX5_isLet_20 ?_
  refine s_callV hZ.1 (Met_X11_isLet_ hZ) (Nat.le_of_ble_eq_true rfl) vy_X11_isLet_ zcl11 zw2072 zw2073 (Or.inl zw2527) dX5_isLet_22 ?_
  exact s_zret rx_z_ok rfl dX5_isLet_25
noncomputable def vX5_isLet_7 : rx_K := o_ld rx_isI 4 (o_ld rx_isI 2 (o_c2 rx_eq vX5_isLet_13 vX5_isLet_26))
set_option maxRecDepth 20000 in
theorem wX5_isLet_7 (hZ : zO b e D A X) : rx_OK (zV b e D A X) mX5_isLet 2 7 vX5_isLet_7 := by
  unfold vX5_isLet_7
  refine s_iload hZ.1 dX5_isLet_7 ?_
  refine s_iload_n hZ.1 dX5_isLet_9 rfl ?_
  exact s_icmp_ne dX5_isLet_10 (by decide) (wX5_isLet_26 hZ) (wX5_isLet_13 hZ)
noncomputable def vX5_isLet_0 : rx_K := o_ld rx_isR 1 (o_getf 7 1 (o_c1 rx_eq vX5_isLet_7 vX5_isLet_13))
set_option maxRecDepth 20000 in
theorem wX5_isLet_0 (hZ : zO b e D A X) : rx_OK (zV b e D A X) mX5_isLet 2 0 vX5_isLet_0 := by
  unfold vX5_isLet_0
  refine s_aload_n hZ.1 dX5_isLet_0 rfl ?_
  refine yg7_1 dX5_isLet_1 zw957 ?_
  exact s_if_ne dX5_isLet_4 (by decide) (wX5_isLet_13 hZ) (wX5_isLet_7 hZ)
noncomputable def FX5_isLet : List Nat → rx_H → Option (Nat × rx_H) := rx_ent 7 vX5_isLet_0
theorem Met_X5_isLet (hZ : zO b e D A X) : rx_Met (zV b e D A X) 2 yX5_isLet mX5_isLet (FX5_isLet) := rx_entry hZ.1 (wX5_isLet_0 hZ) (by decide +kernel) rfl (fun h => by cases h)
abbrev mX5_askField : rx_M := (RX5, cX5_askField, 6, (some .int), false)
theorem vy_X5_askField : rx_Y (zV b e D A X) yX5_askField mX5_askField 4 := ⟨zw2531, zw428, by decide, by decide +kernel, by decide +kernel, by decide +kernel⟩
noncomputable def vX5_askField_183 (j : Nat → rx_K) : rx_K := o_ret1 rx_isI
set_option maxRecDepth 20000 in
theorem wX5_askField_183 (hZ : zO b e D A X) (j : Nat → rx_K) (hj : ∀ k pc, [36][k]? = some pc → rx_OK (zV b e D A X) mX5_askField 3 pc (j k)) : rx_OK (zV b e D A X) mX5_askField 3 183 (vX5_askField_183 j) := by
  unfold vX5_askField_183
  exact s_iret hZ.1 rfl dX5_askField_183
noncomputable def vX5_askField_182 (j : Nat → rx_K) : rx_K := o_const 0 ((vX5_askField_183 j))
set_option maxRecDepth 20000 in
theorem wX5_askField_182 (hZ : zO b e D A X) (j : Nat → rx_K) (hj : ∀ k pc, [36][k]? = some pc → rx_OK (zV b e D A X) mX5_askField 3 pc (j k)) : rx_OK (zV b e D A X) mX5_askField 3 182 (vX5_askField_182 j) := by
  unfold vX5_askField_182
  refine s_iconst dX5_askField_182 (by decide +kernel) ?_
  exact (wX5_askField_183 hZ j hj)
noncomputable def vX5_askField_178 (j : Nat → rx_K) : rx_K := o_const 16 ((vX5_askField_183 j))
set_option maxRecDepth 20000 in
theorem wX5_askField_178 (hZ : zO b e D A X) (j : Nat → rx_K) (hj : ∀ k pc, [36][k]? = some pc → rx_OK (zV b e D A X) mX5_askField 3 pc (j k)) : rx_OK (zV b e D A X) mX5_askField 3 178 (vX5_askField_178 j) := by
  unfold vX5_askField_178
  refine s_iconst dX5_askField_178 (by decide +kernel) ?_
  exact s_goto dX5_askField_179 (by decide) (wX5_askField_183 hZ j hj)
noncomputable def vX5_askField_170 (j : Nat → rx_K) : rx_K := o_ld rx_isR 0 (o_getf 5 12 (o_ld rx_isI 1 (o_c2 rx_eq (vX5_askField_182 j) (vX5_askField_178 j))))
set_option maxRecDepth 20000 in
theorem wX5_askField_170 (hZ : zO b e D A X) (j : Nat → rx_K) (hj : ∀ k pc, [36][k]? = some pc → rx_OK (zV b e D A X) mX5_askField 3 pc (j k)) : rx_OK (zV b e D A X) mX5_askField 3 170 (vX5_askField_170 j) := by
  unfold vX5_askField_170
  refine s_aload_n hZ.1 dX5_askField_170 rfl ?_
  refine yg5_12 dX5_askField_171 zw1369 ?_
  refine s_iload_n hZ.1 dX5_askField_174 rfl ?_
  exact s_icmp_eq dX5_askField_175 (by decide) (wX5_askField_182 hZ j hj) (wX5_askField_178 hZ j hj)
noncomputable def vX5_askField_160 (j : Nat → rx_K) : rx_K := o_ld rx_isR 0 (o_getf 5 11 (o_getf 7 3 (o_c1 rx_eq (vX5_askField_182 j) (vX5_askField_170 j))))
set_option maxRecDepth 20000 in
theorem wX5_askField_160 (hZ : zO b e D A X) (j : Nat → rx_K) (hj : ∀ k pc, [36][k]? = some pc → rx_OK (zV b e D A X) mX5_askField 3 pc (j k)) : rx_OK (zV b e D A X) mX5_askField 3 160 (vX5_askField_160 j) := by
  unfold vX5_askField_160
  refine s_aload_n hZ.1 dX5_askField_160 rfl ?_
  refine yg5_11 dX5_askField_161 zw1366 ?_
  refine yg7_3 dX5_askField_164 zw975 ?_
  exact s_if_eq dX5_askField_167 (by decide) (wX5_askField_182 hZ j hj) (wX5_askField_170 hZ j hj)
noncomputable def vX5_askField_153 (j : Nat → rx_K) : rx_K := o_st rx_isI 5 (o_ld rx_isI 5 (o_c1 rx_eq (vX5_askField_182 j) (vX5_askField_160 j)))
set_option maxRecDepth 20000 in
theorem wX5_askField_153 (hZ : zO b e D A X) (j : Nat → rx_K) (hj : ∀ k pc, [36][k]? = some pc → rx_OK (zV b e D A X) mX5_askField 3 pc (j k)) : rx_OK (zV b e D A X) mX5_askField 3 153 (vX5_askField_153 j) := by
  unfold vX5_askField_153
  refine s_istore hZ.1 dX5_askField_153 (Nat.le_of_ble_eq_true rfl) ?_
  refine s_iload hZ.1 dX5_askField_155 ?_
  exact s_if_eq dX5_askField_157 (by decide) (wX5_askField_182 hZ j hj) (wX5_askField_160 hZ j hj)
noncomputable def vX5_askField_152 (j : Nat → rx_K) : rx_K := o_const 0 ((vX5_askField_153 j))
set_option maxRecDepth 20000 in
theorem wX5_askField_152 (hZ : zO b e D A X) (j : Nat → rx_K) (hj : ∀ k pc, [36][k]? = some pc → rx_OK (zV b e D A X) mX5_askField 3 pc (j k)) : rx_OK (zV b e D A X) mX5_askField 3 152 (vX5_askField_152 j) := by
  unfold vX5_askField_152
  refine s_iconst dX5_askField_152 (by decide +kernel) ?_
  exact (wX5_askField_153 hZ j hj)
noncomputable def vX5_askField_148 (j : Nat → rx_K) : rx_K := o_const 8 ((vX5_askField_153 j))
set_option maxRecDepth 20000 in
theorem wX5_askField_148 (hZ : zO b e D A X) (j : Nat → rx_K) (hj : ∀ k pc, [36][k]? = some pc → rx_OK (zV b e D A X) mX5_askField 3 pc (j k)) : rx_OK (zV b e D A X) mX5_askField 3 148 (vX5_askField_148 j) := by
  unfold vX5_askField_148
  refine s_iconst dX5_askField_148 (by decide +kernel) ?_
  exact s_goto dX5_askField_149 (by decide) (wX5_askField_153 hZ j hj)
noncomputable def vX5_askField_142 (j : Nat → rx_K) : rx_K := o_ld rx_isI 3 (o_const 48 (o_c2 rx_eq (vX5_askField_148 j) (vX5_askField_152 j)))
set_option maxRecDepth 20000 in
theorem wX5_askField_142 (hZ : zO b e D A X) (j : Nat → rx_K) (hj : ∀ k pc, [36][k]? = some pc → rx_OK (zV b e D A X) mX5_askField 3 pc (j k)) : rx_OK (zV b e D A X) mX5_askField 3 142 (vX5_askField_142 j) := by
  unfold vX5_askField_142
  refine s_iload_n hZ.1 dX5_askField_142 rfl ?_
  refine s_bipush dX5_askField_143 (by decide +kernel) ?_
  exact s_icmp_ne dX5_askField_145 (by decide) (wX5_askField_152 hZ j hj) (wX5_askField_148 hZ j hj)
noncomputable def vX5_askField_137 (j : Nat → rx_K) : rx_K := o_ld rx_isI 3 (o_const 32 (o_c2 rx_eq (vX5_askField_148 j) (vX5_askField_142 j)))
set_option maxRecDepth 20000 in
theorem wX5_askField_137 (hZ : zO b e D A X) (j : Nat → rx_K) (hj : ∀ k pc, [36][k]? = some pc → rx_OK (zV b e D A X) mX5_askField 3 pc (j k)) : rx_OK (zV b e D A X) mX5_askField 3 137 (vX5_askField_137 j) := by
  unfold vX5_askField_137
  refine s_iload_n hZ.1 dX5_askField_137 rfl ?_
  refine s_iconst dX5_askField_138 (by decide +kernel) ?_
  exact s_icmp_eq dX5_askField_139 (by decide) (wX5_askField_148 hZ j hj) (wX5_askField_142 hZ j hj)
noncomputable def vX5_askField_135 (j : Nat → rx_K) : rx_K := o_const 24 (o_ret1 rx_isI)
set_option maxRecDepth 20000 in
theorem wX5_askField_135 (hZ : zO b e D A X) (j : Nat → rx_K) (hj : ∀ k pc, [36][k]? = some pc → rx_OK (zV b e D A X) mX5_askField 3 pc (j k)) : rx_OK (zV b e D A X) mX5_askField 3 135 (vX5_askField_135 j) := by
  unfold vX5_askField_135
  refine s_iconst dX5_askField_135 (by decide +kernel) ?_
  exact s_iret hZ.1 rfl dX5_askField_136
noncomputable def vX5_askField_132 (j : Nat → rx_K) : rx_K := o_c2 rx_eq (vX5_askField_135 j) (vX5_askField_137 j)
set_option maxRecDepth 20000 in
theorem wX5_askField_132 (hZ : zO b e D A X) (j : Nat → rx_K) (hj : ∀ k pc, [36][k]? = some pc → rx_OK (zV b e D A X) mX5_askField 3 pc (j k)) : rx_OK (zV b e D A X) mX5_askField 3 132 (vX5_askField_132 j) := by
  unfold vX5_askField_132
  exact s_icmp_ne dX5_askField_132 (by decide) (wX5_askField_137 hZ j hj) (wX5_askField_135 hZ j hj)
noncomputable def vX5_askField_131 (j : Nat → rx_K) : rx_K := o_const 0 ((vX5_askField_132 j))
set_option maxRecDepth 20000 in
theorem wX5_askField_131 (hZ : zO b e D A X) (j : Nat → rx_K) (hj : ∀ k pc, [36][k]? = some pc → rx_OK (zV b e D A X) mX5_askField 3 pc (j k)) : rx_OK (zV b e D A X) mX5_askField 3 131 (vX5_askField_131 j) := by
  unfold vX5_askField_131
  refine s_iconst dX5_askField_131 (by decide +kernel) ?_
  exact (wX5_askField_132 hZ j hj)
noncomputable def vX5_askField_127 (j : Nat → rx_K) : rx_K := o_const 8 ((vX5_askField_132 j))
set_option maxRecDepth 20000 in
theorem wX5_askField_127 (hZ : zO b e D A X) (j : Nat → rx_K) (hj : ∀ k pc, [36][k]? = some pc → rx_OK (zV b e D A X) mX5_askField 3 pc (j k)) : rx_OK (zV b e D A X) mX5_askField 3 127 (vX5_askField_127 j) := by
  unfold vX5_askField_127
  refine s_iconst dX5_askField_127 (by decide +kernel) ?_
  exact s_goto dX5_askField_128 (by decide) (wX5_askField_132 hZ j hj)
noncomputable def vX5_askField_122 (j : Nat → rx_K) : rx_K := o_ld rx_isI 3 (o_const 32 (o_c2 rx_eq (vX5_askField_127 j) (vX5_askField_131 j)))
set_option maxRecDepth 20000 in
theorem wX5_askField_122 (hZ : zO b e D A X) (j : Nat → rx_K) (hj : ∀ k pc, [36][k]? = some pc → rx_OK (zV b e D A X) mX5_askField 3 pc (j k)) : rx_OK (zV b e D A X) mX5_askField 3 122 (vX5_askField_122 j) := by
  unfold vX5_askField_122
  refine s_iload_n hZ.1 dX5_askField_122 rfl ?_
  refine s_iconst dX5_askField_123 (by decide +kernel) ?_
  exact s_icmp_ne dX5_askField_124 (by decide) (wX5_askField_131 hZ j hj) (wX5_askField_127 hZ j hj)
noncomputable def vX5_askField_110 (j : Nat → rx_K) : rx_K := o_ld rx_isR 0 (o_getf 5 11 (o_getf 7 2 (o_ld rx_isI 3 (o_const 24 (o_c2 rx_eq (vX5_askField_127 j) (vX5_askField_122 j))))))
set_option maxRecDepth 20000 in
theorem wX5_askField_110 (hZ : zO b e D A X) (j : Nat → rx_K) (hj : ∀ k pc, [36][k]? = some pc → rx_OK (zV b e D A X) mX5_askField 3 pc (j k)) : rx_OK (zV b e D A X) mX5_askField 3 110 (vX5_askField_110 j) := by
  unfold vX5_askField_110
  refine s_aload_n hZ.1 dX5_askField_110 rfl ?_
  refine yg5_11 dX5_askField_111 zw1366 ?_
  refine yg7_2 dX5_askField_114 zw969 ?_
  refine s_iload_n hZ.1 dX5_askField_117 rfl ?_
  refine s_iconst dX5_askField_118 (by decide +kernel) ?_
  exact s_icmp_eq dX5_askField_119 (by decide) (wX5_askField_127 hZ j hj) (wX5_askField_122 hZ j hj)
noncomputable def vX5_askField_108 (j : Nat → rx_K) : rx_K := o_const 16 (o_ret1 rx_isI)
set_option maxRecDepth 20000 in
theorem wX5_askField_108 (hZ : zO b e D A X) (j : Nat → rx_K) (hj : ∀ k pc, [36][k]? = some pc → rx_OK (zV b e D A X) mX5_askField 3 pc (j k)) : rx_OK (zV b e D A X) mX5_askField 3 108 (vX5_askField_108 j) := by
  unfold vX5_askField_108
  refine s_iconst dX5_askField_108 (by decide +kernel) ?_
  exact s_iret hZ.1 rfl dX5_askField_109
noncomputable def vX5_askField_91 (j : Nat → rx_K) : rx_K := o_ld rx_isR 0 (o_ld rx_isR 0 (o_getf 5 11 (o_ld rx_isR 0 (o_getf 5 12 (o_ld rx_isI 2 (o_ld rx_isI 1 (o_callV 4 5 FX5_isLet (o_c1 rx_eq (vX5_askField_108 j) (vX5_askField_110 j)))))))))
set_option maxRecDepth 20000 in
theorem wX5_askField_91 (hZ : zO b e D A X) (j : Nat → rx_K) (hj : ∀ k pc, [36][k]? = some pc → rx_OK (zV b e D A X) mX5_askField 3 pc (j k)) : rx_OK (zV b e D A X) mX5_askField 3 91 (vX5_askField_91 j) := by
  unfold vX5_askField_91
  refine s_aload_n hZ.1 dX5_askField_91 rfl ?_
  refine s_aload_n hZ.1 dX5_askField_92 rfl ?_
  refine yg5_11 dX5_askField_93 zw1366 ?_
  refine s_aload_n hZ.1 dX5_askField_96 rfl ?_
  refine yg5_12 dX5_askField_97 zw1369 ?_
  refine s_iload_n hZ.1 dX5_askField_100 rfl ?_
  refine s_iload_n hZ.1 dX5_askField_101 rfl ?_
  refine s_callV hZ.1 (Met_X5_isLet hZ) (Nat.le_of_ble_eq_true rfl) vy_X5_isLet zcl5 zw2525 zw131 (Or.inl zw2523) dX5_askField_102 ?_
  exact s_if_ne dX5_askField_105 (by decide) (wX5_askField_110 hZ j hj) (wX5_askField_108 hZ j hj)
noncomputable def vX5_askField_89 (j : Nat → rx_K) : rx_K := o_const 32 (o_ret1 rx_isI)
set_option maxRecDepth 20000 in
theorem wX5_askField_89 (hZ : zO b e D A X) (j : Nat → rx_K) (hj : ∀ k pc, [36][k]? = some pc → rx_OK (zV b e D A X) mX5_askField 3 pc (j k)) : rx_OK (zV b e D A X) mX5_askField 3 89 (vX5_askField_89 j) := by
  unfold vX5_askField_89
  refine s_iconst dX5_askField_89 (by decide +kernel) ?_
  exact s_iret hZ.1 rfl dX5_askField_90
noncomputable def vX5_askField_71 (j : Nat → rx_K) : rx_K := o_ld rx_isR 0 (o_ld rx_isR 0 (o_getf 5 0 (o_getf 11 15 (o_putf rx_isI 5 16 (o_ld rx_isR 0 (o_getf 5 11 (o_nul (vX5_askField_89 j) (vX5_askField_91 j))))))))
set_option maxRecDepth 20000 in
theorem wX5_askField_71 (hZ : zO b e D A X) (j : Nat → rx_K) (hj : ∀ k pc, [36][k]? = some pc → rx_OK (zV b e D A X) mX5_askField 3 pc (j k)) : rx_OK (zV b e D A X) mX5_askField 3 71 (vX5_askField_71 j) := by
  unfold vX5_askField_71
  refine s_aload_n hZ.1 dX5_askField_71 rfl ?_
  refine s_aload_n hZ.1 dX5_askField_72 rfl ?_
  refine yg5_0 dX5_askField_73 zw1350 ?_
  refine yg11_15 dX5_askField_76 zw1292 ?_
  refine yp5_16 hZ.1 dX5_askField_79 zw1377 ?_
  refine s_aload_n hZ.1 dX5_askField_82 rfl ?_
  refine yg5_11 dX5_askField_83 zw1366 ?_
  exact s_ifnonnull dX5_askField_86 (by decide) (wX5_askField_91 hZ j hj) (wX5_askField_89 hZ j hj)
noncomputable def vX5_askField_48 (j : Nat → rx_K) : rx_K := o_ld rx_isR 0 (o_getf 5 15 (o_ld rx_isI 5 (o_ld rx_isR 0 (o_getf 5 0 (o_getf 11 14 (o_ld rx_isI 5 (o_ald 0 (o_ast 0 (fun v => v) rx_isI (o_inc 5 (1) ((j 0)))))))))))
set_option maxRecDepth 20000 in
theorem wX5_askField_48 (hZ : zO b e D A X) (j : Nat → rx_K) (hj : ∀ k pc, [36][k]? = some pc → rx_OK (zV b e D A X) mX5_askField 3 pc (j k)) : rx_OK (zV b e D A X) mX5_askField 3 48 (vX5_askField_48 j) := by
  unfold vX5_askField_48
  refine s_aload_n hZ.1 dX5_askField_48 rfl ?_
  refine yg5_15 dX5_askField_49 zw1375 ?_
  refine s_iload hZ.1 dX5_askField_52 ?_
  refine s_aload_n hZ.1 dX5_askField_54 rfl ?_
  refine yg5_0 dX5_askField_55 zw1350 ?_
  refine yg11_14 dX5_askField_58 zw1290 ?_
  refine s_iload hZ.1 dX5_askField_61 ?_
  refine s_iald (tt := 0) rfl dX5_askField_63 ?_
  refine s_iast hZ.1 (tt := 0) rfl dX5_askField_64 ?_
  refine s_iinc hZ.1 dX5_askField_65 (Nat.le_of_ble_eq_true rfl) ?_
  exact s_goto dX5_askField_68 (by decide) (hj 0 36 rfl)
noncomputable def vX5_askField_36 (j : Nat → rx_K) : rx_K := o_ld rx_isI 5 (o_ld rx_isR 0 (o_getf 5 0 (o_getf 11 15 (o_c2 rx_lt (vX5_askField_48 j) (vX5_askField_71 j)))))
set_option maxRecDepth 20000 in
theorem wX5_askField_36 (hZ : zO b e D A X) (j : Nat → rx_K) (hj : ∀ k pc, [36][k]? = some pc → rx_OK (zV b e D A X) mX5_askField 3 pc (j k)) : rx_OK (zV b e D A X) mX5_askField 3 36 (vX5_askField_36 j) := by
  unfold vX5_askField_36
  refine s_iload hZ.1 dX5_askField_36 ?_
  refine s_aload_n hZ.1 dX5_askField_38 rfl ?_
  refine yg5_0 dX5_askField_39 zw1350 ?_
  refine yg11_15 dX5_askField_42 zw1292 ?_
  exact s_icmp_ge dX5_askField_45 (by decide) (wX5_askField_71 hZ j hj) (wX5_askField_48 hZ j hj)
noncomputable def vX5_askField_0 (j : Nat → rx_K) : rx_K := o_ld rx_isR 0 (o_ld rx_isR 0 (o_getf 5 0 (o_ld rx_isI 2 (o_ld rx_isR 4 (o_getf 7 7 (o_ld rx_isR 4 (o_getf 7 8 (o_callV 3 11 FX11_fieldIn (o_putf rx_isR 5 11 (o_ld rx_isR 0 (o_ld rx_isR 0 (o_getf 5 0 (o_getf 11 18 (o_putf rx_isI 5 12 (o_const 0 (o_st rx_isI 5 ((vX5_askField_36 j))))))))))))))))))
set_option maxRecDepth 20000 in
theorem wX5_askField_0 (hZ : zO b e D A X) (j : Nat → rx_K) (hj : ∀ k pc, [36][k]? = some pc → rx_OK (zV b e D A X) mX5_askField 3 pc (j k)) : rx_OK (zV b e D A X) mX5_askField 3 0 (vX5_askField_0 j) := by
  unfold vX5_askField_0
  refine s_aload_n hZ.1 dX5_askField_0 rfl ?_
  refine s_aload_n hZ.1 dX5_askField_1 rfl ?_
  refine yg5_0 dX5_askField_2 zw1350 ?_
  refine s_iload_n hZ.1 dX5_askField_5 rfl ?_
  refine s_aload hZ.1 dX5_askField_6 ?_
  refine yg7_7 dX5_askField_8 zw1007 ?_
  refine s_aload hZ.1 dX5_askField_11 ?_
  refine yg7_8 dX5_askField_13 zw1018 ?_
  refine s_callV hZ.1 (Met_X11_fieldIn hZ) (Nat.le_of_ble_eq_true rfl) vy_X11_fieldIn zcl11 zw2064 zw2065 (Or.inl zw2491) dX5_askField_16 ?_
  refine yp5_11 hZ.1 dX5_askField_19 zw1366 ?_
  refine s_aload_n hZ.1 dX5_askField_22 rfl ?_
  refine s_aload_n hZ.1 dX5_askField_23 rfl ?_
  refine yg5_0 dX5_askField_24 zw1350 ?_
  refine yg11_18 dX5_askField_27 zw1298 ?_
  refine yp5_12 hZ.1 dX5_askField_30 zw1369 ?_
  refine s_iconst dX5_askField_33 (by decide +kernel) ?_
  refine s_istore hZ.1 dX5_askField_34 (Nat.le_of_ble_eq_true rfl) ?_
  exact (wX5_askField_36 hZ j hj)
noncomputable def vhX5_askField (j : Nat → rx_K) : List rx_K := [vX5_askField_36 j]
theorem vlX5_askField (hZ : zO b e D A X) : ∀ n k pc, [36][k]? = some pc → rx_OK (zV b e D A X) mX5_askField 3 pc (rx_J (vhX5_askField) n k) := rx_loop fun j hj k pc h => by
  match k, h with
  | 0, h =>
    have e9 := Option.some.inj (show some 36 = some pc from h)
    subst e9
    exact wX5_askField_36 hZ j hj
  | _ + 1, h => exact absurd h (by simp)
noncomputable def FX5_askField : List Nat → rx_H → Option (Nat × rx_H) := rx_ent 6 (vX5_askField_0 (rx_J (vhX5_askField) 4000000000))
theorem Met_X5_askField (hZ : zO b e D A X) : rx_Met (zV b e D A X) 3 yX5_askField mX5_askField (FX5_askField) := rx_entry hZ.1 (wX5_askField_0 hZ _ (vlX5_askField hZ 4000000000)) (by decide +kernel) rfl (fun h => by cases h)
end ZM17

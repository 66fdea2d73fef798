section ZQ0
variable {b : Nat} {e : Nat → Value} {D : va_G} {A : Nat → ClassId} {X : State → Prop}
noncomputable def bX8_init_0 : rx_K := q_ld q_isR 0 (q_obj (o_ret0))
set_option maxRecDepth 20000 in
theorem kX8_init_0 (hZ : zO b e D A X) : rx_OK (zV b e D A X) mX8_init 1 0 bX8_init_0 := by
  unfold bX8_init_0
  refine rx_by (e_ldR _ _) (s_aload_n hZ.1 dX8_init_0 rfl ?_)
  refine rx_by (e_obj _) (s_obj hZ.1 (by decide) zw456 zw440 zw441 dX8_init_1 ?_)
  exact s_vret rfl dX8_init_4
noncomputable def fX8_init : List Nat → rx_H → Option (Nat × rx_H) := rx_ent 1 bX8_init_0
theorem met_X8_init (hZ : zO b e D A X) : rx_Met (zV b e D A X) 1 yX8_init mX8_init fX8_init := rx_entry hZ.1 (kX8_init_0 hZ) (by decide +kernel) rfl (fun _ => rfl)
theorem zy_X8_init : rx_Y (zV b e D A X) yX8_init mX8_init 0 := ⟨zw455, zw415, by decide, by decide +kernel, by decide +kernel, by decide +kernel⟩
noncomputable def bJ0_coder_7d493_14 : rx_K := o_ret1 rx_isY
set_option maxRecDepth 20000 in
theorem kJ0_coder_7d493_14 (hZ : zO b e D A X) : rx_OK (zV b e D A X) mJ0_coder_7d493 0 14 bJ0_coder_7d493_14 := by
  unfold bJ0_coder_7d493_14
  exact s_zret rx_y_ok rfl dJ0_coder_7d493_14
noncomputable def bJ0_coder_7d493_10 : rx_K := bJ0_coder_7d493_14
set_option maxRecDepth 20000 in
theorem kJ0_coder_7d493_10 (hZ : zO b e D A X) : rx_OK (zV b e D A X) mJ0_coder_7d493 0 10 bJ0_coder_7d493_10 := by
  unfold bJ0_coder_7d493_10
  exact s_goto dJ0_coder_7d493_10 (by decide) (kJ0_coder_7d493_14 hZ)
noncomputable def bJ0_coder_7d493_6 : rx_K := q_ld q_isR 0 (o_alt (zq0 6) (o_xv 6 0 (bJ0_coder_7d493_10)) (o_alt (zq0 64) (o_xv 64 0 (bJ0_coder_7d493_10)) (o_alt (zq0 122) (o_xv 122 0 (bJ0_coder_7d493_10)) (o_none))))
set_option maxRecDepth 20000 in
theorem kJ0_coder_7d493_6 (hZ : zO b e D A X) : rx_OK (zV b e D A X) mJ0_coder_7d493 0 6 bJ0_coder_7d493_6 := by
  unfold bJ0_coder_7d493_6
  refine rx_by (e_ldR _ _) (s_aload_n hZ.1 dJ0_coder_7d493_6 rfl ?_)
  exact (s_alt (s_xgetf (zo_C6 hZ) (Or.inl rfl) zw4663 dJ0_coder_7d493_7 (kJ0_coder_7d493_10 hZ)) (s_alt (s_xgetf (zo_C64 hZ) (Or.inl rfl) zw4663 dJ0_coder_7d493_7 (kJ0_coder_7d493_10 hZ)) (s_alt (s_xgetf (zo_C122 hZ) (Or.inl rfl) zw4663 dJ0_coder_7d493_7 (kJ0_coder_7d493_10 hZ)) s_none)))
noncomputable def bJ0_coder_7d493_0 : rx_K := o_const 8 (q_eq1 o_none bJ0_coder_7d493_6)
set_option maxRecDepth 20000 in
theorem kJ0_coder_7d493_0 (hZ : zO b e D A X) : rx_OK (zV b e D A X) mJ0_coder_7d493 0 0 bJ0_coder_7d493_0 := by
  unfold bJ0_coder_7d493_0
  refine s_gets (c := 8) (zo_K hZ) (Or.inl rfl) zw538 dJ0_coder_7d493_0 ?_
  exact rx_by (e_eq1 _ _) (s_if_eq dJ0_coder_7d493_3 (by decide) (s_none (pc := 13)) (kJ0_coder_7d493_6 hZ))
noncomputable def fJ0_coder_7d493 : List Nat → rx_H → Option (Nat × rx_H) := rx_ent 1 bJ0_coder_7d493_0
theorem met_J0_coder_7d493 (hZ : zO b e D A X) : rx_Met (zV b e D A X) 0 yJ0_coder_7d493 mJ0_coder_7d493 fJ0_coder_7d493 := rx_entry hZ.1 (kJ0_coder_7d493_0 hZ) (by decide +kernel) rfl (fun h => by cases h)
theorem zy_J0_coder_7d493 : rx_Y (zV b e D A X) yJ0_coder_7d493 mJ0_coder_7d493 0 := ⟨zw537, zw416, by decide, by decide +kernel, by decide +kernel, by decide +kernel⟩
noncomputable def bJ0_length_8abf5_9 : rx_K := o_bi (fun x y => x >>> (y &&& 31)) (o_ret1 rx_isI)
set_option maxRecDepth 20000 in
theorem kJ0_length_8abf5_9 (hZ : zO b e D A X) : rx_OK (zV b e D A X) mJ0_length_8abf5 1 9 bJ0_length_8abf5_9 := by
  unfold bJ0_length_8abf5_9
  refine s_ishr dJ0_length_8abf5_9 ?_
  exact s_iret hZ.1 rfl dJ0_length_8abf5_10
noncomputable def bJ0_length_8abf5_5 : rx_K := q_ld q_isR 0 (o_alt (zqn 0 6) (o_callX 0 6 fJ0_coder_7d493 (bJ0_length_8abf5_9)) (o_alt (zqn 0 64) (o_callX 0 64 fJ0_coder_7d493 (bJ0_length_8abf5_9)) (o_alt (zqn 0 122) (o_callX 0 122 fJ0_coder_7d493 (bJ0_length_8abf5_9)) (o_none))))
set_option maxRecDepth 20000 in
theorem kJ0_length_8abf5_5 (hZ : zO b e D A X) : rx_OK (zV b e D A X) mJ0_length_8abf5 1 5 bJ0_length_8abf5_5 := by
  unfold bJ0_length_8abf5_5
  refine rx_by (e_ldR _ _) (s_aload_n hZ.1 dJ0_length_8abf5_5 rfl ?_)
  exact (s_alt (s_callX hZ.1 (met_J0_coder_7d493 hZ) (by decide) zy_J0_coder_7d493 (zo_O6 hZ) zw535 zw536 zw534 dJ0_length_8abf5_6 (kJ0_length_8abf5_9 hZ)) (s_alt (s_callX hZ.1 (met_J0_coder_7d493 hZ) (by decide) zy_J0_coder_7d493 (zo_O64 hZ) zw535 zw536 zw534 dJ0_length_8abf5_6 (kJ0_length_8abf5_9 hZ)) (s_alt (s_callX hZ.1 (met_J0_coder_7d493 hZ) (by decide) zy_J0_coder_7d493 (zo_O122 hZ) zw535 zw536 zw534 dJ0_length_8abf5_6 (kJ0_length_8abf5_9 hZ)) s_none)))
noncomputable def bJ0_length_8abf5_4 : rx_K := o_alt (zq0 7) (o_xv 7 1160 (bJ0_length_8abf5_5)) (o_alt (zq0 65) (o_xv 65 1168 (bJ0_length_8abf5_5)) (o_alt (zq0 123) (o_xv 123 32 (bJ0_length_8abf5_5)) (o_none)))
set_option maxRecDepth 20000 in
theorem kJ0_length_8abf5_4 (hZ : zO b e D A X) : rx_OK (zV b e D A X) mJ0_length_8abf5 1 4 bJ0_length_8abf5_4 := by
  unfold bJ0_length_8abf5_4
  exact (s_alt (s_xalen (n := 145) (zo_B7 hZ) dJ0_length_8abf5_4 (kJ0_length_8abf5_5 hZ)) (s_alt (s_xalen (n := 146) (zo_B65 hZ) dJ0_length_8abf5_4 (kJ0_length_8abf5_5 hZ)) (s_alt (s_xalen (n := 4) (zo_B123 hZ) dJ0_length_8abf5_4 (kJ0_length_8abf5_5 hZ)) s_none)))
noncomputable def bJ0_length_8abf5_0 : rx_K := q_ld q_isR 0 (o_alt (zq0 6) (o_xv 6 60 (bJ0_length_8abf5_4)) (o_alt (zq0 64) (o_xv 64 524 (bJ0_length_8abf5_4)) (o_alt (zq0 122) (o_xv 122 988 (bJ0_length_8abf5_4)) (o_none))))
set_option maxRecDepth 20000 in
theorem kJ0_length_8abf5_0 (hZ : zO b e D A X) : rx_OK (zV b e D A X) mJ0_length_8abf5 1 0 bJ0_length_8abf5_0 := by
  unfold bJ0_length_8abf5_0
  refine rx_by (e_ldR _ _) (s_aload_n hZ.1 dJ0_length_8abf5_0 rfl ?_)
  exact (s_alt (s_xgetf (zo_V6 hZ) (Or.inl rfl) zw4662 dJ0_length_8abf5_1 (kJ0_length_8abf5_4 hZ)) (s_alt (s_xgetf (zo_V64 hZ) (Or.inl rfl) zw4662 dJ0_length_8abf5_1 (kJ0_length_8abf5_4 hZ)) (s_alt (s_xgetf (zo_V122 hZ) (Or.inl rfl) zw4662 dJ0_length_8abf5_1 (kJ0_length_8abf5_4 hZ)) s_none)))
noncomputable def fJ0_length_8abf5 : List Nat → rx_H → Option (Nat × rx_H) := rx_ent 1 bJ0_length_8abf5_0
theorem met_J0_length_8abf5 (hZ : zO b e D A X) : rx_Met (zV b e D A X) 1 yJ0_length_8abf5 mJ0_length_8abf5 fJ0_length_8abf5 := rx_entry hZ.1 (kJ0_length_8abf5_0 hZ) (by decide +kernel) rfl (fun h => by cases h)
theorem zy_J0_length_8abf5 : rx_Y (zV b e D A X) yJ0_length_8abf5 mJ0_length_8abf5 0 := ⟨zw533, zw416, by decide, by decide +kernel, by decide +kernel, by decide +kernel⟩
noncomputable def bJ0_isLatin1_aae02_18 : rx_K := o_ret1 rx_isZ
set_option maxRecDepth 20000 in
theorem kJ0_isLatin1_aae02_18 (hZ : zO b e D A X) : rx_OK (zV b e D A X) mJ0_isLatin1_aae02 0 18 bJ0_isLatin1_aae02_18 := by
  unfold bJ0_isLatin1_aae02_18
  exact s_zret rx_z_ok rfl dJ0_isLatin1_aae02_18
noncomputable def bJ0_isLatin1_aae02_13 : rx_K := o_const 8 (bJ0_isLatin1_aae02_18)
set_option maxRecDepth 20000 in
theorem kJ0_isLatin1_aae02_13 (hZ : zO b e D A X) : rx_OK (zV b e D A X) mJ0_isLatin1_aae02 0 13 bJ0_isLatin1_aae02_13 := by
  unfold bJ0_isLatin1_aae02_13
  refine s_iconst dJ0_isLatin1_aae02_13 (by decide +kernel) ?_
  exact s_goto dJ0_isLatin1_aae02_14 (by decide) (kJ0_isLatin1_aae02_18 hZ)
noncomputable def bJ0_isLatin1_aae02_10 : rx_K := q_eq1 bJ0_isLatin1_aae02_13 o_none
set_option maxRecDepth 20000 in
theorem kJ0_isLatin1_aae02_10 (hZ : zO b e D A X) : rx_OK (zV b e D A X) mJ0_isLatin1_aae02 0 10 bJ0_isLatin1_aae02_10 := by
  unfold bJ0_isLatin1_aae02_10
  exact rx_by (e_eq1 _ _) (s_if_ne dJ0_isLatin1_aae02_10 (by decide) (s_none (pc := 17)) (kJ0_isLatin1_aae02_13 hZ))
noncomputable def bJ0_isLatin1_aae02_6 : rx_K := q_ld q_isR 0 (o_alt (zq0 6) (o_xv 6 0 (bJ0_isLatin1_aae02_10)) (o_alt (zq0 64) (o_xv 64 0 (bJ0_isLatin1_aae02_10)) (o_alt (zq0 122) (o_xv 122 0 (bJ0_isLatin1_aae02_10)) (o_none))))
set_option maxRecDepth 20000 in
theorem kJ0_isLatin1_aae02_6 (hZ : zO b e D A X) : rx_OK (zV b e D A X) mJ0_isLatin1_aae02 0 6 bJ0_isLatin1_aae02_6 := by
  unfold bJ0_isLatin1_aae02_6
  refine rx_by (e_ldR _ _) (s_aload_n hZ.1 dJ0_isLatin1_aae02_6 rfl ?_)
  exact (s_alt (s_xgetf (zo_C6 hZ) (Or.inl rfl) zw4663 dJ0_isLatin1_aae02_7 (kJ0_isLatin1_aae02_10 hZ)) (s_alt (s_xgetf (zo_C64 hZ) (Or.inl rfl) zw4663 dJ0_isLatin1_aae02_7 (kJ0_isLatin1_aae02_10 hZ)) (s_alt (s_xgetf (zo_C122 hZ) (Or.inl rfl) zw4663 dJ0_isLatin1_aae02_7 (kJ0_isLatin1_aae02_10 hZ)) s_none)))
noncomputable def bJ0_isLatin1_aae02_0 : rx_K := o_const 8 (q_eq1 o_none bJ0_isLatin1_aae02_6)
set_option maxRecDepth 20000 in
theorem kJ0_isLatin1_aae02_0 (hZ : zO b e D A X) : rx_OK (zV b e D A X) mJ0_isLatin1_aae02 0 0 bJ0_isLatin1_aae02_0 := by
  unfold bJ0_isLatin1_aae02_0
  refine s_gets (c := 8) (zo_K hZ) (Or.inl rfl) zw538 dJ0_isLatin1_aae02_0 ?_
  exact rx_by (e_eq1 _ _) (s_if_eq dJ0_isLatin1_aae02_3 (by decide) (s_none (pc := 17)) (kJ0_isLatin1_aae02_6 hZ))
noncomputable def fJ0_isLatin1_aae02 : List Nat → rx_H → Option (Nat × rx_H) := rx_ent 1 bJ0_isLatin1_aae02_0
theorem met_J0_isLatin1_aae02 (hZ : zO b e D A X) : rx_Met (zV b e D A X) 0 yJ0_isLatin1_aae02 mJ0_isLatin1_aae02 fJ0_isLatin1_aae02 := rx_entry hZ.1 (kJ0_isLatin1_aae02_0 hZ) (by decide +kernel) rfl (fun h => by cases h)
theorem zy_J0_isLatin1_aae02 : rx_Y (zV b e D A X) yJ0_isLatin1_aae02 mJ0_isLatin1_aae02 0 := ⟨zw547, zw416, by decide, by decide +kernel, by decide +kernel, by decide +kernel⟩
noncomputable def bJ3_checkIndex_8e157_16 : rx_K := q_ld q_isI 0 (o_ret1 rx_isI)
set_option maxRecDepth 20000 in
theorem kJ3_checkIndex_8e157_16 (hZ : zO b e D A X) : rx_OK (zV b e D A X) mJ3_checkIndex_8e157 0 16 bJ3_checkIndex_8e157_16 := by
  unfold bJ3_checkIndex_8e157_16
  refine rx_by (e_ldI _ _) (s_iload_n hZ.1 dJ3_checkIndex_8e157_16 rfl ?_)
  exact s_iret hZ.1 rfl dJ3_checkIndex_8e157_17
noncomputable def bJ3_checkIndex_8e157_4 : rx_K := q_ld q_isI 0 (q_ld q_isI 1 (q_lt2 bJ3_checkIndex_8e157_16 o_none))
set_option maxRecDepth 20000 in
theorem kJ3_checkIndex_8e157_4 (hZ : zO b e D A X) : rx_OK (zV b e D A X) mJ3_checkIndex_8e157 0 4 bJ3_checkIndex_8e157_4 := by
  unfold bJ3_checkIndex_8e157_4
  refine rx_by (e_ldI _ _) (s_iload_n hZ.1 dJ3_checkIndex_8e157_4 rfl ?_)
  refine rx_by (e_ldI _ _) (s_iload_n hZ.1 dJ3_checkIndex_8e157_5 rfl ?_)
  exact rx_by (e_lt2 _ _) (s_icmp_lt dJ3_checkIndex_8e157_6 (by decide) (kJ3_checkIndex_8e157_16 hZ) (s_none (pc := 9)))
noncomputable def bJ3_checkIndex_8e157_0 : rx_K := q_ld q_isI 0 (q_lt1 o_none bJ3_checkIndex_8e157_4)
set_option maxRecDepth 20000 in
theorem kJ3_checkIndex_8e157_0 (hZ : zO b e D A X) : rx_OK (zV b e D A X) mJ3_checkIndex_8e157 0 0 bJ3_checkIndex_8e157_0 := by
  unfold bJ3_checkIndex_8e157_0
  refine rx_by (e_ldI _ _) (s_iload_n hZ.1 dJ3_checkIndex_8e157_0 rfl ?_)
  exact rx_by (e_lt1 _ _) (s_if_lt dJ3_checkIndex_8e157_1 (by decide) (s_none (pc := 9)) (kJ3_checkIndex_8e157_4 hZ))
noncomputable def fJ3_checkIndex_8e157 : List Nat → rx_H → Option (Nat × rx_H) := rx_ent 3 bJ3_checkIndex_8e157_0
theorem met_J3_checkIndex_8e157 (hZ : zO b e D A X) : rx_Met (zV b e D A X) 0 yJ3_checkIndex_8e157 mJ3_checkIndex_8e157 fJ3_checkIndex_8e157 := rx_entry hZ.1 (kJ3_checkIndex_8e157_0 hZ) (by decide +kernel) rfl (fun h => by cases h)
theorem zy_J3_checkIndex_8e157 : rx_Y (zV b e D A X) yJ3_checkIndex_8e157 mJ3_checkIndex_8e157 3 := ⟨zw558, zw418, by decide, by decide +kernel, by decide +kernel, by decide +kernel⟩
noncomputable def bJ0_checkIndex_df160_0 : rx_K := q_ld q_isI 0 (q_ld q_isI 1 (o_const 44 (o_callS 3 fJ3_checkIndex_8e157 (o_pop (o_ret0)))))
set_option maxRecDepth 20000 in
theorem kJ0_checkIndex_df160_0 (hZ : zO b e D A X) : rx_OK (zV b e D A X) mJ0_checkIndex_df160 1 0 bJ0_checkIndex_df160_0 := by
  unfold bJ0_checkIndex_df160_0
  refine rx_by (e_ldI _ _) (s_iload_n hZ.1 dJ0_checkIndex_df160_0 rfl ?_)
  refine rx_by (e_ldI _ _) (s_iload_n hZ.1 dJ0_checkIndex_df160_1 rfl ?_)
  refine s_gets (c := 44) (zo_F hZ) (Or.inl rfl) zw554 dJ0_checkIndex_df160_2 ?_
  refine s_callS hZ.1 (met_J3_checkIndex_8e157 hZ) (by decide) zy_J3_checkIndex_8e157 zw557 (Or.inl zw556) dJ0_checkIndex_df160_5 ?_
  refine s_pop hZ.1 dJ0_checkIndex_df160_8 ?_
  exact s_vret rfl dJ0_checkIndex_df160_9
noncomputable def fJ0_checkIndex_df160 : List Nat → rx_H → Option (Nat × rx_H) := rx_ent 2 bJ0_checkIndex_df160_0
theorem met_J0_checkIndex_df160 (hZ : zO b e D A X) : rx_Met (zV b e D A X) 1 yJ0_checkIndex_df160 mJ0_checkIndex_df160 fJ0_checkIndex_df160 := rx_entry hZ.1 (kJ0_checkIndex_df160_0 hZ) (by decide +kernel) rfl (fun h => by cases h)
theorem zy_J0_checkIndex_df160 : rx_Y (zV b e D A X) yJ0_checkIndex_df160 mJ0_checkIndex_df160 2 := ⟨zw553, zw416, by decide, by decide +kernel, by decide +kernel, by decide +kernel⟩
noncomputable def bJ1_charAt_3b067_9 : rx_K := o_const 2040 (o_iandX (o_ui (fun x => (x.toUInt32 % 65536).toInt32) (o_ret1 rx_isC)))
set_option maxRecDepth 20000 in
theorem kJ1_charAt_3b067_9 (hZ : zO b e D A X) : rx_OK (zV b e D A X) mJ1_charAt_3b067 2 9 bJ1_charAt_3b067_9 := by
  unfold bJ1_charAt_3b067_9
  refine s_sipush dJ1_charAt_3b067_9 (by decide +kernel) ?_
  refine s_iandX dJ1_charAt_3b067_12 ?_
  refine s_i2c dJ1_charAt_3b067_13 ?_
  exact s_zret rx_c_ok rfl dJ1_charAt_3b067_14
noncomputable def bJ1_charAt_3b067_3 : rx_K := o_callS 2 fJ0_checkIndex_df160 (q_ld q_isR 0 (q_ld q_isI 1 (o_alt (zq1 7) (o_xald 7 zbs7 (bJ1_charAt_3b067_9)) (o_alt (zq1 65) (o_xald 65 zbs65 (bJ1_charAt_3b067_9)) (o_alt (zq1 123) (o_xald 123 zbs123 (bJ1_charAt_3b067_9)) (o_none))))))
set_option maxRecDepth 20000 in
theorem kJ1_charAt_3b067_3 (hZ : zO b e D A X) : rx_OK (zV b e D A X) mJ1_charAt_3b067 2 3 bJ1_charAt_3b067_3 := by
  unfold bJ1_charAt_3b067_3
  refine s_callS hZ.1 (met_J0_checkIndex_df160 hZ) (by decide) zy_J0_checkIndex_df160 zw552 (Or.inl zw551) dJ1_charAt_3b067_3 ?_
  refine rx_by (e_ldR _ _) (s_aload_n hZ.1 dJ1_charAt_3b067_6 rfl ?_)
  refine rx_by (e_ldI _ _) (s_iload_n hZ.1 dJ1_charAt_3b067_7 rfl ?_)
  exact (s_alt (s_xbald (by decide +kernel) (zo_B7 hZ) dJ1_charAt_3b067_8 (kJ1_charAt_3b067_9 hZ)) (s_alt (s_xbald (by decide +kernel) (zo_B65 hZ) dJ1_charAt_3b067_8 (kJ1_charAt_3b067_9 hZ)) (s_alt (s_xbald (by decide +kernel) (zo_B123 hZ) dJ1_charAt_3b067_8 (kJ1_charAt_3b067_9 hZ)) s_none)))
noncomputable def bJ1_charAt_3b067_0 : rx_K := q_ld q_isI 1 (q_ld q_isR 0 (o_alt (zq0 7) (o_xv 7 1160 (bJ1_charAt_3b067_3)) (o_alt (zq0 65) (o_xv 65 1168 (bJ1_charAt_3b067_3)) (o_alt (zq0 123) (o_xv 123 32 (bJ1_charAt_3b067_3)) (o_none)))))
set_option maxRecDepth 20000 in
theorem kJ1_charAt_3b067_0 (hZ : zO b e D A X) : rx_OK (zV b e D A X) mJ1_charAt_3b067 2 0 bJ1_charAt_3b067_0 := by
  unfold bJ1_charAt_3b067_0
  refine rx_by (e_ldI _ _) (s_iload_n hZ.1 dJ1_charAt_3b067_0 rfl ?_)
  refine rx_by (e_ldR _ _) (s_aload_n hZ.1 dJ1_charAt_3b067_1 rfl ?_)
  exact (s_alt (s_xalen (n := 145) (zo_B7 hZ) dJ1_charAt_3b067_2 (kJ1_charAt_3b067_3 hZ)) (s_alt (s_xalen (n := 146) (zo_B65 hZ) dJ1_charAt_3b067_2 (kJ1_charAt_3b067_3 hZ)) (s_alt (s_xalen (n := 4) (zo_B123 hZ) dJ1_charAt_3b067_2 (kJ1_charAt_3b067_3 hZ)) s_none)))
noncomputable def fJ1_charAt_3b067 : List Nat → rx_H → Option (Nat × rx_H) := rx_ent 2 bJ1_charAt_3b067_0
theorem met_J1_charAt_3b067 (hZ : zO b e D A X) : rx_Met (zV b e D A X) 2 yJ1_charAt_3b067 mJ1_charAt_3b067 fJ1_charAt_3b067 := rx_entry hZ.1 (kJ1_charAt_3b067_0 hZ) (by decide +kernel) rfl (fun h => by cases h)
theorem zy_J1_charAt_3b067 : rx_Y (zV b e D A X) yJ1_charAt_3b067 mJ1_charAt_3b067 2 := ⟨zw550, zw417, by decide, by decide +kernel, by decide +kernel, by decide +kernel⟩
noncomputable def bJ0_charAt_5068e_11 : rx_K := q_ld q_isI 1 (o_callS 2 fJ1_charAt_3b067 (o_ret1 rx_isC))
set_option maxRecDepth 20000 in
theorem kJ0_charAt_5068e_11 (hZ : zO b e D A X) : rx_OK (zV b e D A X) mJ0_charAt_5068e 3 11 bJ0_charAt_5068e_11 := by
  unfold bJ0_charAt_5068e_11
  refine rx_by (e_ldI _ _) (s_iload_n hZ.1 dJ0_charAt_5068e_11 rfl ?_)
  refine s_callS hZ.1 (met_J1_charAt_3b067 hZ) (by decide) zy_J1_charAt_3b067 zw549 (Or.inl zw548) dJ0_charAt_5068e_12 ?_
  exact s_zret rx_c_ok rfl dJ0_charAt_5068e_15
noncomputable def bJ0_charAt_5068e_7 : rx_K := q_ld q_isR 0 (o_alt (zq0 6) (o_xv 6 60 (bJ0_charAt_5068e_11)) (o_alt (zq0 64) (o_xv 64 524 (bJ0_charAt_5068e_11)) (o_alt (zq0 122) (o_xv 122 988 (bJ0_charAt_5068e_11)) (o_none))))
set_option maxRecDepth 20000 in
theorem kJ0_charAt_5068e_7 (hZ : zO b e D A X) : rx_OK (zV b e D A X) mJ0_charAt_5068e 3 7 bJ0_charAt_5068e_7 := by
  unfold bJ0_charAt_5068e_7
  refine rx_by (e_ldR _ _) (s_aload_n hZ.1 dJ0_charAt_5068e_7 rfl ?_)
  exact (s_alt (s_xgetf (zo_V6 hZ) (Or.inl rfl) zw4662 dJ0_charAt_5068e_8 (kJ0_charAt_5068e_11 hZ)) (s_alt (s_xgetf (zo_V64 hZ) (Or.inl rfl) zw4662 dJ0_charAt_5068e_8 (kJ0_charAt_5068e_11 hZ)) (s_alt (s_xgetf (zo_V122 hZ) (Or.inl rfl) zw4662 dJ0_charAt_5068e_8 (kJ0_charAt_5068e_11 hZ)) s_none)))
noncomputable def bJ0_charAt_5068e_4 : rx_K := q_eq1 o_none bJ0_charAt_5068e_7
set_option maxRecDepth 20000 in
theorem kJ0_charAt_5068e_4 (hZ : zO b e D A X) : rx_OK (zV b e D A X) mJ0_charAt_5068e 3 4 bJ0_charAt_5068e_4 := by
  unfold bJ0_charAt_5068e_4
  exact rx_by (e_eq1 _ _) (s_if_eq dJ0_charAt_5068e_4 (by decide) (s_none (pc := 16)) (kJ0_charAt_5068e_7 hZ))
noncomputable def bJ0_charAt_5068e_0 : rx_K := q_ld q_isR 0 (o_alt (zqn 0 6) (o_callX 0 6 fJ0_isLatin1_aae02 (bJ0_charAt_5068e_4)) (o_alt (zqn 0 64) (o_callX 0 64 fJ0_isLatin1_aae02 (bJ0_charAt_5068e_4)) (o_alt (zqn 0 122) (o_callX 0 122 fJ0_isLatin1_aae02 (bJ0_charAt_5068e_4)) (o_none))))
set_option maxRecDepth 20000 in
theorem kJ0_charAt_5068e_0 (hZ : zO b e D A X) : rx_OK (zV b e D A X) mJ0_charAt_5068e 3 0 bJ0_charAt_5068e_0 := by
  unfold bJ0_charAt_5068e_0
  refine rx_by (e_ldR _ _) (s_aload_n hZ.1 dJ0_charAt_5068e_0 rfl ?_)
  exact (s_alt (s_callX hZ.1 (met_J0_isLatin1_aae02 hZ) (by decide) zy_J0_isLatin1_aae02 (zo_O6 hZ) zw545 zw546 zw544 dJ0_charAt_5068e_1 (kJ0_charAt_5068e_4 hZ)) (s_alt (s_callX hZ.1 (met_J0_isLatin1_aae02 hZ) (by decide) zy_J0_isLatin1_aae02 (zo_O64 hZ) zw545 zw546 zw544 dJ0_charAt_5068e_1 (kJ0_charAt_5068e_4 hZ)) (s_alt (s_callX hZ.1 (met_J0_isLatin1_aae02 hZ) (by decide) zy_J0_isLatin1_aae02 (zo_O122 hZ) zw545 zw546 zw544 dJ0_charAt_5068e_1 (kJ0_charAt_5068e_4 hZ)) s_none)))
noncomputable def fJ0_charAt_5068e : List Nat → rx_H → Option (Nat × rx_H) := rx_ent 2 bJ0_charAt_5068e_0
theorem met_J0_charAt_5068e (hZ : zO b e D A X) : rx_Met (zV b e D A X) 3 yJ0_charAt_5068e mJ0_charAt_5068e fJ0_charAt_5068e := rx_entry hZ.1 (kJ0_charAt_5068e_0 hZ) (by decide +kernel) rfl (fun h => by cases h)
theorem zy_J0_charAt_5068e : rx_Y (zV b e D A X) yJ0_charAt_5068e mJ0_charAt_5068e 1 := ⟨zw543, zw416, by decide, by decide +kernel, by decide +kernel, by decide +kernel⟩
noncomputable def bX9_sixBits_12 : rx_K := q_ld q_isI 0 (o_const 776 (q_bi q_Fsub (o_const 8 (q_bi q_Fadd (o_il (fun x => x.toInt64) (o_ret1 rx_isL))))))
set_option maxRecDepth 20000 in
theorem kX9_sixBits_12 (hZ : zO b e D A X) : rx_OK (zV b e D A X) mX9_sixBits 0 12 bX9_sixBits_12 := by
  unfold bX9_sixBits_12
  refine rx_by (e_ldI _ _) (s_iload_n hZ.1 dX9_sixBits_12 rfl ?_)
  refine s_bipush dX9_sixBits_13 (by decide +kernel) ?_
  refine rx_by (e_sub _) (s_isub dX9_sixBits_15 ?_)
  refine s_iconst dX9_sixBits_16 (by decide +kernel) ?_
  refine rx_by (e_add _) (s_iadd dX9_sixBits_17 ?_)
  refine s_i2l dX9_sixBits_18 ?_
  exact s_lret rfl dX9_sixBits_19
noncomputable def bX9_sixBits_6 : rx_K := q_ld q_isI 0 (o_const 976 (q_gt2 o_none bX9_sixBits_12))
set_option maxRecDepth 20000 in
theorem kX9_sixBits_6 (hZ : zO b e D A X) : rx_OK (zV b e D A X) mX9_sixBits 0 6 bX9_sixBits_6 := by
  unfold bX9_sixBits_6
  refine rx_by (e_ldI _ _) (s_iload_n hZ.1 dX9_sixBits_6 rfl ?_)
  refine s_bipush dX9_sixBits_7 (by decide +kernel) ?_
  exact rx_by (e_gt2 _ _) (s_icmp_gt dX9_sixBits_9 (by decide) (s_none (pc := 20)) (kX9_sixBits_12 hZ))
noncomputable def bX9_sixBits_0 : rx_K := q_ld q_isI 0 (o_const 776 (q_lt2 o_none bX9_sixBits_6))
set_option maxRecDepth 20000 in
theorem kX9_sixBits_0 (hZ : zO b e D A X) : rx_OK (zV b e D A X) mX9_sixBits 0 0 bX9_sixBits_0 := by
  unfold bX9_sixBits_0
  refine rx_by (e_ldI _ _) (s_iload_n hZ.1 dX9_sixBits_0 rfl ?_)
  refine s_bipush dX9_sixBits_1 (by decide +kernel) ?_
  exact rx_by (e_lt2 _ _) (s_icmp_lt dX9_sixBits_3 (by decide) (s_none (pc := 20)) (kX9_sixBits_6 hZ))
noncomputable def fX9_sixBits : List Nat → rx_H → Option (Nat × rx_H) := rx_ent 1 bX9_sixBits_0
theorem met_X9_sixBits (hZ : zO b e D A X) : rx_Met (zV b e D A X) 0 yX9_sixBits mX9_sixBits fX9_sixBits := rx_entry hZ.1 (kX9_sixBits_0 hZ) (by decide +kernel) rfl (fun h => by cases h)
theorem zy_X9_sixBits : rx_Y (zV b e D A X) yX9_sixBits mX9_sixBits 1 := ⟨zw580, zw414, by decide, by decide +kernel, by decide +kernel, by decide +kernel⟩
noncomputable def bX9_init_180 (j : Nat → rx_K) : rx_K := o_ret0
set_option maxRecDepth 20000 in
theorem kX9_init_180 (hZ : zO b e D A X) (j : Nat → rx_K) (hj : ∀ k pc, [60, 92][k]? = some pc → rx_OK (zV b e D A X) mX9_init 4 pc (j k)) : rx_OK (zV b e D A X) mX9_init 4 180 (bX9_init_180 j) := by
  unfold bX9_init_180
  exact s_vret rfl dX9_init_180
noncomputable def bX9_init_174 (j : Nat → rx_K) : rx_K := q_inc 3 8 ((j 1))
set_option maxRecDepth 20000 in
theorem kX9_init_174 (hZ : zO b e D A X) (j : Nat → rx_K) (hj : ∀ k pc, [60, 92][k]? = some pc → rx_OK (zV b e D A X) mX9_init 4 pc (j k)) : rx_OK (zV b e D A X) mX9_init 4 174 (bX9_init_174 j) := by
  unfold bX9_init_174
  refine rx_by (e_inc (by decide +kernel) _) (s_iinc hZ.1 dX9_init_174 (Nat.le_of_ble_eq_true rfl) ?_)
  exact s_goto dX9_init_177 (by decide) (hj 1 92 rfl)
noncomputable def bX9_init_155 (j : Nat → rx_K) : rx_K := q_ld q_isR 0 (q_getf 9 0 (q_ld q_isI 1 (o_dup2 (q_ald 1 (q_ld q_isI 4 (o_callS 1 fX9_sixBits (q_ld q_isI 2 (o_bs (fun x y => x <<< (y.toInt64 &&& 63)) (o_bl (fun x y => x ||| y) (p_ast 1 (fun v => v) q_isL (q_inc 2 34359738320 ((bX9_init_174 j)))))))))))))
set_option maxRecDepth 20000 in
theorem kX9_init_155 (hZ : zO b e D A X) (j : Nat → rx_K) (hj : ∀ k pc, [60, 92][k]? = some pc → rx_OK (zV b e D A X) mX9_init 4 pc (j k)) : rx_OK (zV b e D A X) mX9_init 4 155 (bX9_init_155 j) := by
  unfold bX9_init_155
  refine rx_by (e_ldR _ _) (s_aload_n hZ.1 dX9_init_155 rfl ?_)
  refine zg9_0 dX9_init_156 zw581 ?_
  refine rx_by (e_ldI _ _) (s_iload_n hZ.1 dX9_init_159 rfl ?_)
  refine s_dup2 hZ.1 dX9_init_160 ?_
  refine rx_by (e_ald _ _) (s_lald (tt := 1) rfl dX9_init_161 ?_)
  refine rx_by (e_ldI _ _) (s_iload hZ.1 dX9_init_162 ?_)
  refine s_callS hZ.1 (met_X9_sixBits hZ) (by decide) zy_X9_sixBits zw579 (Or.inl zw578) dX9_init_164 ?_
  refine rx_by (e_ldI _ _) (s_iload_n hZ.1 dX9_init_167 rfl ?_)
  refine s_lshl dX9_init_168 ?_
  refine s_lor dX9_init_169 ?_
  refine rx_by2 (l_ast _ _ _ _) (s_last (tt := 1) rfl dX9_init_170 ?_)
  refine rx_by (e_inc (by decide +kernel) _) (s_iinc hZ.1 dX9_init_171 (Nat.le_of_ble_eq_true rfl) ?_)
  exact (kX9_init_174 hZ j hj)
noncomputable def bX9_init_134 (j : Nat → rx_K) : rx_K := q_ld q_isR 0 (q_getf 9 0 (q_ld q_isI 1 (q_ld q_isI 4 (o_const 776 (q_bi q_Fsub (o_il (fun x => x.toInt64) (o_const 432 (o_bs (fun x y => x <<< (y.toInt64 &&& 63)) (p_ast 1 (fun v => v) q_isL (o_const 384 (q_st q_isI 2 ((bX9_init_174 j)))))))))))))
set_option maxRecDepth 20000 in
theorem kX9_init_134 (hZ : zO b e D A X) (j : Nat → rx_K) (hj : ∀ k pc, [60, 92][k]? = some pc → rx_OK (zV b e D A X) mX9_init 4 pc (j k)) : rx_OK (zV b e D A X) mX9_init 4 134 (bX9_init_134 j) := by
  unfold bX9_init_134
  refine rx_by (e_ldR _ _) (s_aload_n hZ.1 dX9_init_134 rfl ?_)
  refine zg9_0 dX9_init_135 zw581 ?_
  refine rx_by (e_ldI _ _) (s_iload_n hZ.1 dX9_init_138 rfl ?_)
  refine rx_by (e_ldI _ _) (s_iload hZ.1 dX9_init_139 ?_)
  refine s_bipush dX9_init_141 (by decide +kernel) ?_
  refine rx_by (e_sub _) (s_isub dX9_init_143 ?_)
  refine s_i2l dX9_init_144 ?_
  refine s_bipush dX9_init_145 (by decide +kernel) ?_
  refine s_lshl dX9_init_147 ?_
  refine rx_by2 (l_ast _ _ _ _) (s_last (tt := 1) rfl dX9_init_148 ?_)
  refine s_bipush dX9_init_149 (by decide +kernel) ?_
  refine rx_by (e_stI _ _) (s_istore_n hZ.1 dX9_init_151 rfl (Nat.le_of_ble_eq_true rfl) ?_)
  exact s_goto dX9_init_152 (by decide) (kX9_init_174 hZ j hj)
noncomputable def bX9_init_130 (j : Nat → rx_K) : rx_K := q_ld q_isI 2 (q_eq1 (bX9_init_134 j) (bX9_init_155 j))
set_option maxRecDepth 20000 in
theorem kX9_init_130 (hZ : zO b e D A X) (j : Nat → rx_K) (hj : ∀ k pc, [60, 92][k]? = some pc → rx_OK (zV b e D A X) mX9_init 4 pc (j k)) : rx_OK (zV b e D A X) mX9_init 4 130 (bX9_init_130 j) := by
  unfold bX9_init_130
  refine rx_by (e_ldI _ _) (s_iload_n hZ.1 dX9_init_130 rfl ?_)
  exact rx_by (e_eq1 _ _) (s_if_ne dX9_init_131 (by decide) (kX9_init_155 hZ j hj) (kX9_init_134 hZ j hj))
noncomputable def bX9_init_122 (j : Nat → rx_K) : rx_K := q_inc 1 8 (o_const 0 (q_st q_isI 2 ((bX9_init_174 j))))
set_option maxRecDepth 20000 in
theorem kX9_init_122 (hZ : zO b e D A X) (j : Nat → rx_K) (hj : ∀ k pc, [60, 92][k]? = some pc → rx_OK (zV b e D A X) mX9_init 4 pc (j k)) : rx_OK (zV b e D A X) mX9_init 4 122 (bX9_init_122 j) := by
  unfold bX9_init_122
  refine rx_by (e_inc (by decide +kernel) _) (s_iinc hZ.1 dX9_init_122 (Nat.le_of_ble_eq_true rfl) ?_)
  refine s_iconst dX9_init_125 (by decide +kernel) ?_
  refine rx_by (e_stI _ _) (s_istore_n hZ.1 dX9_init_126 rfl (Nat.le_of_ble_eq_true rfl) ?_)
  exact s_goto dX9_init_127 (by decide) (kX9_init_174 hZ j hj)
noncomputable def bX9_init_107 (j : Nat → rx_K) : rx_K := o_const 52 (q_ld q_isI 3 (o_callX 1 6 fJ0_charAt_5068e (q_st q_isI 4 (q_ld q_isI 4 (o_const 256 (q_eq2 (bX9_init_122 j) (bX9_init_130 j)))))))
set_option maxRecDepth 20000 in
theorem kX9_init_107 (hZ : zO b e D A X) (j : Nat → rx_K) (hj : ∀ k pc, [60, 92][k]? = some pc → rx_OK (zV b e D A X) mX9_init 4 pc (j k)) : rx_OK (zV b e D A X) mX9_init 4 107 (bX9_init_107 j) := by
  unfold bX9_init_107
  refine s_ldcS (k := 6) (zo_R6 hZ) dX9_init_107 ?_
  refine rx_by (e_ldI _ _) (s_iload_n hZ.1 dX9_init_109 rfl ?_)
  refine s_callX hZ.1 (met_J0_charAt_5068e hZ) (by decide) zy_J0_charAt_5068e (zo_O6 hZ) zw541 zw542 zw540 dX9_init_110 ?_
  refine rx_by (e_stI _ _) (s_istore hZ.1 dX9_init_113 (Nat.le_of_ble_eq_true rfl) ?_)
  refine rx_by (e_ldI _ _) (s_iload hZ.1 dX9_init_115 ?_)
  refine s_bipush dX9_init_117 (by decide +kernel) ?_
  exact rx_by (e_eq2 _ _) (s_icmp_ne dX9_init_119 (by decide) (kX9_init_130 hZ j hj) (kX9_init_122 hZ j hj))
noncomputable def bX9_init_101 (j : Nat → rx_K) : rx_K := q_ld q_isI 1 (o_const 240 (q_lt2 (bX9_init_107 j) (bX9_init_180 j)))
set_option maxRecDepth 20000 in
theorem kX9_init_101 (hZ : zO b e D A X) (j : Nat → rx_K) (hj : ∀ k pc, [60, 92][k]? = some pc → rx_OK (zV b e D A X) mX9_init 4 pc (j k)) : rx_OK (zV b e D A X) mX9_init 4 101 (bX9_init_101 j) := by
  unfold bX9_init_101
  refine rx_by (e_ldI _ _) (s_iload_n hZ.1 dX9_init_101 rfl ?_)
  refine s_bipush dX9_init_102 (by decide +kernel) ?_
  exact rx_by (e_lt2 _ _) (s_icmp_ge dX9_init_104 (by decide) (kX9_init_180 hZ j hj) (kX9_init_107 hZ j hj))
noncomputable def bX9_init_92 (j : Nat → rx_K) : rx_K := q_ld q_isI 3 (o_const 52 (o_callX 0 6 fJ0_length_8abf5 (q_lt2 (bX9_init_101 j) (bX9_init_180 j))))
set_option maxRecDepth 20000 in
theorem kX9_init_92 (hZ : zO b e D A X) (j : Nat → rx_K) (hj : ∀ k pc, [60, 92][k]? = some pc → rx_OK (zV b e D A X) mX9_init 4 pc (j k)) : rx_OK (zV b e D A X) mX9_init 4 92 (bX9_init_92 j) := by
  unfold bX9_init_92
  refine rx_by (e_ldI _ _) (s_iload_n hZ.1 dX9_init_92 rfl ?_)
  refine s_ldcS (k := 6) (zo_R6 hZ) dX9_init_93 ?_
  refine s_callX hZ.1 (met_J0_length_8abf5 hZ) (by decide) zy_J0_length_8abf5 (zo_O6 hZ) zw531 zw532 zw530 dX9_init_95 ?_
  exact rx_by (e_lt2 _ _) (s_icmp_ge dX9_init_98 (by decide) (kX9_init_180 hZ j hj) (kX9_init_101 hZ j hj))
noncomputable def bX9_init_86 (j : Nat → rx_K) : rx_K := o_const 0 (q_st q_isI 1 (o_const 0 (q_st q_isI 2 (o_const 0 (q_st q_isI 3 ((bX9_init_92 j)))))))
set_option maxRecDepth 20000 in
theorem kX9_init_86 (hZ : zO b e D A X) (j : Nat → rx_K) (hj : ∀ k pc, [60, 92][k]? = some pc → rx_OK (zV b e D A X) mX9_init 4 pc (j k)) : rx_OK (zV b e D A X) mX9_init 4 86 (bX9_init_86 j) := by
  unfold bX9_init_86
  refine s_iconst dX9_init_86 (by decide +kernel) ?_
  refine rx_by (e_stI _ _) (s_istore_n hZ.1 dX9_init_87 rfl (Nat.le_of_ble_eq_true rfl) ?_)
  refine s_iconst dX9_init_88 (by decide +kernel) ?_
  refine rx_by (e_stI _ _) (s_istore_n hZ.1 dX9_init_89 rfl (Nat.le_of_ble_eq_true rfl) ?_)
  refine s_iconst dX9_init_90 (by decide +kernel) ?_
  refine rx_by (e_stI _ _) (s_istore_n hZ.1 dX9_init_91 rfl (Nat.le_of_ble_eq_true rfl) ?_)
  exact (kX9_init_92 hZ j hj)
noncomputable def bX9_init_67 (j : Nat → rx_K) : rx_K := q_ld q_isR 0 (q_getf 9 13 (q_ld q_isI 1 (p_new 8 12 zfs8 (q_dup (o_callI 0 fX8_init (p_aast 7 8 (q_inc 1 8 ((j 0)))))))))
set_option maxRecDepth 20000 in
theorem kX9_init_67 (hZ : zO b e D A X) (j : Nat → rx_K) (hj : ∀ k pc, [60, 92][k]? = some pc → rx_OK (zV b e D A X) mX9_init 4 pc (j k)) : rx_OK (zV b e D A X) mX9_init 4 67 (bX9_init_67 j) := by
  unfold bX9_init_67
  refine rx_by (e_ldR _ _) (s_aload_n hZ.1 dX9_init_67 rfl ?_)
  refine zg9_13 dX9_init_68 zw599 ?_
  refine rx_by (e_ldI _ _) (s_iload_n hZ.1 dX9_init_71 rfl ?_)
  refine rx_by2 (l_new _ _ _ _) (s_new zcl8 zfk8 dX9_init_72 zw450 zw452 zw415 ?_)
  refine rx_by (e_dup _) (s_dup hZ.1 dX9_init_75 ?_)
  refine s_callI hZ.1 (met_X8_init hZ) (by decide) zy_X8_init rfl rfl zw454 (Or.inr ⟨_, zo_N453 hZ⟩) dX9_init_76 ?_
  refine rx_by2 (l_aast _ _ _) (s_aast (tt := 7) rfl zaa8 dX9_init_79 ?_)
  refine rx_by (e_inc (by decide +kernel) _) (s_iinc hZ.1 dX9_init_80 (Nat.le_of_ble_eq_true rfl) ?_)
  exact s_goto dX9_init_83 (by decide) (hj 0 60 rfl)
noncomputable def bX9_init_60 (j : Nat → rx_K) : rx_K := q_ld q_isI 1 (o_const 6400 (q_lt2 (bX9_init_67 j) (bX9_init_86 j)))
set_option maxRecDepth 20000 in
theorem kX9_init_60 (hZ : zO b e D A X) (j : Nat → rx_K) (hj : ∀ k pc, [60, 92][k]? = some pc → rx_OK (zV b e D A X) mX9_init 4 pc (j k)) : rx_OK (zV b e D A X) mX9_init 4 60 (bX9_init_60 j) := by
  unfold bX9_init_60
  refine rx_by (e_ldI _ _) (s_iload_n hZ.1 dX9_init_60 rfl ?_)
  refine s_sipush dX9_init_61 (by decide +kernel) ?_
  exact rx_by (e_lt2 _ _) (s_icmp_ge dX9_init_64 (by decide) (kX9_init_86 hZ j hj) (kX9_init_67 hZ j hj))
noncomputable def bX9_init_52 (j : Nat → rx_K) : rx_K := p_newa 7 3 (p_putf q_isR 9 13 (o_const 0 (q_st q_isI 1 ((bX9_init_60 j)))))
set_option maxRecDepth 20000 in
theorem kX9_init_52 (hZ : zO b e D A X) (j : Nat → rx_K) (hj : ∀ k pc, [60, 92][k]? = some pc → rx_OK (zV b e D A X) mX9_init 4 pc (j k)) : rx_OK (zV b e D A X) mX9_init 4 52 (bX9_init_52 j) := by
  unfold bX9_init_52
  refine rx_by2 (l_newa _ _ _) (s_anewa (tt := 7) rfl zw450 (zo_W7 hZ) dX9_init_52 ?_)
  refine zp9_13 hZ.1 rfl rfl dX9_init_55 zw599 ?_
  refine s_iconst dX9_init_58 (by decide +kernel) ?_
  refine rx_by (e_stI _ _) (s_istore_n hZ.1 dX9_init_59 rfl (Nat.le_of_ble_eq_true rfl) ?_)
  exact (kX9_init_60 hZ j hj)
noncomputable def bX9_init_0 (j : Nat → rx_K) : rx_K := q_ld q_isR 0 (q_obj (q_ld q_isR 0 (o_const 240 (p_newa 1 1 (p_putf q_isR 9 0 (q_ld q_isR 0 (o_const 5632 (p_newa 0 0 (p_putf q_isR 9 1 (q_ld q_isR 0 (o_const 5632 (p_newa 0 0 (p_putf q_isR 9 2 (q_ld q_isR 0 (o_const 5632 (p_newa 0 0 (p_putf q_isR 9 3 (q_ld q_isR 0 (o_const 5632 (p_newa 1 1 (p_putf q_isR 9 4 (q_ld q_isR 0 (o_const 6400 ((bX9_init_52 j)))))))))))))))))))))))))
set_option maxRecDepth 20000 in
theorem kX9_init_0 (hZ : zO b e D A X) (j : Nat → rx_K) (hj : ∀ k pc, [60, 92][k]? = some pc → rx_OK (zV b e D A X) mX9_init 4 pc (j k)) : rx_OK (zV b e D A X) mX9_init 4 0 (bX9_init_0 j) := by
  unfold bX9_init_0
  refine rx_by (e_ldR _ _) (s_aload_n hZ.1 dX9_init_0 rfl ?_)
  refine rx_by (e_obj _) (s_obj hZ.1 (by decide) zw449 zw440 zw441 dX9_init_1 ?_)
  refine rx_by (e_ldR _ _) (s_aload_n hZ.1 dX9_init_4 rfl ?_)
  refine s_bipush dX9_init_5 (by decide +kernel) ?_
  refine rx_by2 (l_newa _ _ _) (s_newa (tt := 1) (ty := .long) rfl rfl rfl rfl rfl (by decide) zw528 dX9_init_7 ?_)
  refine zp9_0 hZ.1 rfl rfl dX9_init_9 zw581 ?_
  refine rx_by (e_ldR _ _) (s_aload_n hZ.1 dX9_init_12 rfl ?_)
  refine s_sipush dX9_init_13 (by decide +kernel) ?_
  refine rx_by2 (l_newa _ _ _) (s_newa (tt := 0) (ty := .int) rfl rfl rfl rfl rfl (by decide) zw527 dX9_init_16 ?_)
  refine zp9_1 hZ.1 rfl rfl dX9_init_18 zw582 ?_
  refine rx_by (e_ldR _ _) (s_aload_n hZ.1 dX9_init_21 rfl ?_)
  refine s_sipush dX9_init_22 (by decide +kernel) ?_
  refine rx_by2 (l_newa _ _ _) (s_newa (tt := 0) (ty := .int) rfl rfl rfl rfl rfl (by decide) zw527 dX9_init_25 ?_)
  refine zp9_2 hZ.1 rfl rfl dX9_init_27 zw583 ?_
  refine rx_by (e_ldR _ _) (s_aload_n hZ.1 dX9_init_30 rfl ?_)
  refine s_sipush dX9_init_31 (by decide +kernel) ?_
  refine rx_by2 (l_newa _ _ _) (s_newa (tt := 0) (ty := .int) rfl rfl rfl rfl rfl (by decide) zw527 dX9_init_34 ?_)
  refine zp9_3 hZ.1 rfl rfl dX9_init_36 zw585 ?_
  refine rx_by (e_ldR _ _) (s_aload_n hZ.1 dX9_init_39 rfl ?_)
  refine s_sipush dX9_init_40 (by decide +kernel) ?_
  refine rx_by2 (l_newa _ _ _) (s_newa (tt := 1) (ty := .long) rfl rfl rfl rfl rfl (by decide) zw528 dX9_init_43 ?_)
  refine zp9_4 hZ.1 rfl rfl dX9_init_45 zw586 ?_
  refine rx_by (e_ldR _ _) (s_aload_n hZ.1 dX9_init_48 rfl ?_)
  refine s_sipush dX9_init_49 (by decide +kernel) ?_
  exact (kX9_init_52 hZ j hj)
noncomputable def hX9_init (j : Nat → rx_K) : List rx_K := [bX9_init_60 j, bX9_init_92 j]
theorem lX9_init (hZ : zO b e D A X) : ∀ n k pc, [60, 92][k]? = some pc → rx_OK (zV b e D A X) mX9_init 4 pc (rx_J hX9_init n k) := rx_loop fun j hj k pc h => by
  match k, h with
  | 0, h =>
    have e9 := Option.some.inj (show some 60 = some pc from h)
    subst e9
    exact kX9_init_60 hZ j hj
  | 1, h =>
    have e9 := Option.some.inj (show some 92 = some pc from h)
    subst e9
    exact kX9_init_92 hZ j hj
  | _ + 2, h => exact absurd h (by simp)
noncomputable def fX9_init : List Nat → rx_H → Option (Nat × rx_H) := rx_ent 5 (bX9_init_0 (rx_J hX9_init 1000000))
theorem met_X9_init (hZ : zO b e D A X) : rx_Met (zV b e D A X) 4 yX9_init mX9_init fX9_init := rx_entry hZ.1 (kX9_init_0 hZ _ (lX9_init hZ 1000000)) (by decide +kernel) rfl (fun _ => rfl)
theorem zy_X9_init : rx_Y (zV b e D A X) yX9_init mX9_init 0 := ⟨zw448, zw414, by decide, by decide +kernel, by decide +kernel, by decide +kernel⟩
noncomputable def bX4_init_0 : rx_K := q_ld q_isR 0 (q_obj (o_ret0))
set_option maxRecDepth 20000 in
theorem kX4_init_0 (hZ : zO b e D A X) : rx_OK (zV b e D A X) mX4_init 1 0 bX4_init_0 := by
  unfold bX4_init_0
  refine rx_by (e_ldR _ _) (s_aload_n hZ.1 dX4_init_0 rfl ?_)
  refine rx_by (e_obj _) (s_obj hZ.1 (by decide) zw637 zw440 zw441 dX4_init_1 ?_)
  exact s_vret rfl dX4_init_4
noncomputable def fX4_init : List Nat → rx_H → Option (Nat × rx_H) := rx_ent 1 bX4_init_0
theorem met_X4_init (hZ : zO b e D A X) : rx_Met (zV b e D A X) 1 yX4_init mX4_init fX4_init := rx_entry hZ.1 (kX4_init_0 hZ) (by decide +kernel) rfl (fun _ => rfl)
theorem zy_X4_init : rx_Y (zV b e D A X) yX4_init mX4_init 0 := ⟨zw636, zw420, by decide, by decide +kernel, by decide +kernel, by decide +kernel⟩
noncomputable def bX0_init_0 : rx_K := q_ld q_isR 0 (q_obj (q_ld q_isR 0 (o_const 5600 (p_newa 1 1 (p_putf q_isR 0 9 (q_ld q_isR 0 (o_const 5600 (p_newa 1 1 (p_putf q_isR 0 10 (q_ld q_isR 0 (o_const 10240 (p_newa 5 3 (p_putf q_isR 0 13 (q_ld q_isR 0 (o_const 1040 (p_newa 0 0 (p_putf q_isR 0 15 (o_ret0))))))))))))))))))
set_option maxRecDepth 20000 in
theorem kX0_init_0 (hZ : zO b e D A X) : rx_OK (zV b e D A X) mX0_init 1 0 bX0_init_0 := by
  unfold bX0_init_0
  refine rx_by (e_ldR _ _) (s_aload_n hZ.1 dX0_init_0 rfl ?_)
  refine rx_by (e_obj _) (s_obj hZ.1 (by decide) zw658 zw440 zw441 dX0_init_1 ?_)
  refine rx_by (e_ldR _ _) (s_aload_n hZ.1 dX0_init_4 rfl ?_)
  refine s_sipush dX0_init_5 (by decide +kernel) ?_
  refine rx_by2 (l_newa _ _ _) (s_newa (tt := 1) (ty := .long) rfl rfl rfl rfl rfl (by decide) zw528 dX0_init_8 ?_)
  refine zp0_9 hZ.1 rfl rfl dX0_init_10 zw672 ?_
  refine rx_by (e_ldR _ _) (s_aload_n hZ.1 dX0_init_13 rfl ?_)
  refine s_sipush dX0_init_14 (by decide +kernel) ?_
  refine rx_by2 (l_newa _ _ _) (s_newa (tt := 1) (ty := .long) rfl rfl rfl rfl rfl (by decide) zw528 dX0_init_17 ?_)
  refine zp0_10 hZ.1 rfl rfl dX0_init_19 zw673 ?_
  refine rx_by (e_ldR _ _) (s_aload_n hZ.1 dX0_init_22 rfl ?_)
  refine s_sipush dX0_init_23 (by decide +kernel) ?_
  refine rx_by2 (l_newa _ _ _) (s_anewa (tt := 5) rfl zw659 (zo_W5 hZ) dX0_init_26 ?_)
  refine zp0_13 hZ.1 rfl rfl dX0_init_29 zw676 ?_
  refine rx_by (e_ldR _ _) (s_aload_n hZ.1 dX0_init_32 rfl ?_)
  refine s_sipush dX0_init_33 (by decide +kernel) ?_
  refine rx_by2 (l_newa _ _ _) (s_newa (tt := 0) (ty := .int) rfl rfl rfl rfl rfl (by decide) zw527 dX0_init_36 ?_)
  refine zp0_15 hZ.1 rfl rfl dX0_init_38 zw678 ?_
  exact s_vret rfl dX0_init_41
noncomputable def fX0_init : List Nat → rx_H → Option (Nat × rx_H) := rx_ent 1 bX0_init_0
theorem met_X0_init (hZ : zO b e D A X) : rx_Met (zV b e D A X) 1 yX0_init mX0_init fX0_init := rx_entry hZ.1 (kX0_init_0 hZ) (by decide +kernel) rfl (fun _ => rfl)
theorem zy_X0_init : rx_Y (zV b e D A X) yX0_init mX0_init 0 := ⟨zw657, zw421, by decide, by decide +kernel, by decide +kernel, by decide +kernel⟩
noncomputable def bX3_init_0 : rx_K := q_ld q_isR 0 (q_obj (o_ret0))
set_option maxRecDepth 20000 in
theorem kX3_init_0 (hZ : zO b e D A X) : rx_OK (zV b e D A X) mX3_init 1 0 bX3_init_0 := by
  unfold bX3_init_0
  refine rx_by (e_ldR _ _) (s_aload_n hZ.1 dX3_init_0 rfl ?_)
  refine rx_by (e_obj _) (s_obj hZ.1 (by decide) zw720 zw440 zw441 dX3_init_1 ?_)
  exact s_vret rfl dX3_init_4
noncomputable def fX3_init : List Nat → rx_H → Option (Nat × rx_H) := rx_ent 1 bX3_init_0
theorem met_X3_init (hZ : zO b e D A X) : rx_Met (zV b e D A X) 1 yX3_init mX3_init fX3_init := rx_entry hZ.1 (kX3_init_0 hZ) (by decide +kernel) rfl (fun _ => rfl)
theorem zy_X3_init : rx_Y (zV b e D A X) yX3_init mX3_init 0 := ⟨zw719, zw422, by decide, by decide +kernel, by decide +kernel, by decide +kernel⟩
noncomputable def bX10_init_0 : rx_K := q_ld q_isR 0 (q_obj (q_ld q_isR 0 (o_const 192 (p_newa 1 1 (p_putf q_isR 10 10 (q_ld q_isR 0 (o_const 24 (p_newa 0 0 (p_putf q_isR 10 11 (q_ld q_isR 0 (o_const 160 (p_newa 5 3 (p_putf q_isR 10 12 (q_ld q_isR 0 (o_const 264 (p_newa 5 3 (p_putf q_isR 10 14 (o_ret0))))))))))))))))))
set_option maxRecDepth 20000 in
theorem kX10_init_0 (hZ : zO b e D A X) : rx_OK (zV b e D A X) mX10_init 1 0 bX10_init_0 := by
  unfold bX10_init_0
  refine rx_by (e_ldR _ _) (s_aload_n hZ.1 dX10_init_0 rfl ?_)
  refine rx_by (e_obj _) (s_obj hZ.1 (by decide) zw763 zw440 zw441 dX10_init_1 ?_)
  refine rx_by (e_ldR _ _) (s_aload_n hZ.1 dX10_init_4 rfl ?_)
  refine s_bipush dX10_init_5 (by decide +kernel) ?_
  refine rx_by2 (l_newa _ _ _) (s_newa (tt := 1) (ty := .long) rfl rfl rfl rfl rfl (by decide) zw528 dX10_init_7 ?_)
  refine zp10_10 hZ.1 rfl rfl dX10_init_9 zw836 ?_
  refine rx_by (e_ldR _ _) (s_aload_n hZ.1 dX10_init_12 rfl ?_)
  refine s_iconst dX10_init_13 (by decide +kernel) ?_
  refine rx_by2 (l_newa _ _ _) (s_newa (tt := 0) (ty := .int) rfl rfl rfl rfl rfl (by decide) zw527 dX10_init_14 ?_)
  refine zp10_11 hZ.1 rfl rfl dX10_init_16 zw838 ?_
  refine rx_by (e_ldR _ _) (s_aload_n hZ.1 dX10_init_19 rfl ?_)
  refine s_bipush dX10_init_20 (by decide +kernel) ?_
  refine rx_by2 (l_newa _ _ _) (s_anewa (tt := 5) rfl zw764 (zo_W5 hZ) dX10_init_22 ?_)
  refine zp10_12 hZ.1 rfl rfl dX10_init_25 zw846 ?_
  refine rx_by (e_ldR _ _) (s_aload_n hZ.1 dX10_init_28 rfl ?_)
  refine s_bipush dX10_init_29 (by decide +kernel) ?_
  refine rx_by2 (l_newa _ _ _) (s_anewa (tt := 5) rfl zw764 (zo_W5 hZ) dX10_init_31 ?_)
  refine zp10_14 hZ.1 rfl rfl dX10_init_34 zw858 ?_
  exact s_vret rfl dX10_init_37
noncomputable def fX10_init : List Nat → rx_H → Option (Nat × rx_H) := rx_ent 1 bX10_init_0
theorem met_X10_init (hZ : zO b e D A X) : rx_Met (zV b e D A X) 1 yX10_init mX10_init fX10_init := rx_entry hZ.1 (kX10_init_0 hZ) (by decide +kernel) rfl (fun _ => rfl)
theorem zy_X10_init : rx_Y (zV b e D A X) yX10_init mX10_init 0 := ⟨zw762, zw425, by decide, by decide +kernel, by decide +kernel, by decide +kernel⟩
noncomputable def bX7_init_0 : rx_K := q_ld q_isR 0 (q_obj (q_ld q_isR 0 (o_const 32 (p_newa 1 1 (p_putf q_isR 7 10 (o_ret0))))))
set_option maxRecDepth 20000 in
theorem kX7_init_0 (hZ : zO b e D A X) : rx_OK (zV b e D A X) mX7_init 1 0 bX7_init_0 := by
  unfold bX7_init_0
  refine rx_by (e_ldR _ _) (s_aload_n hZ.1 dX7_init_0 rfl ?_)
  refine rx_by (e_obj _) (s_obj hZ.1 (by decide) zw941 zw440 zw441 dX7_init_1 ?_)
  refine rx_by (e_ldR _ _) (s_aload_n hZ.1 dX7_init_4 rfl ?_)
  refine s_iconst dX7_init_5 (by decide +kernel) ?_
  refine rx_by2 (l_newa _ _ _) (s_newa (tt := 1) (ty := .long) rfl rfl rfl rfl rfl (by decide) zw528 dX7_init_6 ?_)
  refine zp7_10 hZ.1 rfl rfl dX7_init_8 zw1029 ?_
  exact s_vret rfl dX7_init_11
noncomputable def fX7_init : List Nat → rx_H → Option (Nat × rx_H) := rx_ent 1 bX7_init_0
theorem met_X7_init (hZ : zO b e D A X) : rx_Met (zV b e D A X) 1 yX7_init mX7_init fX7_init := rx_entry hZ.1 (kX7_init_0 hZ) (by decide +kernel) rfl (fun _ => rfl)
theorem zy_X7_init : rx_Y (zV b e D A X) yX7_init mX7_init 0 := ⟨zw940, zw426, by decide, by decide +kernel, by decide +kernel, by decide +kernel⟩
noncomputable def bX1_init_125 (j : Nat → rx_K) : rx_K := q_ld q_isR 0 (q_ld q_isI 5 (p_newa 5 3 (p_putf q_isR 1 13 (q_ld q_isR 0 (q_ld q_isI 5 (p_newa 1 1 (p_putf q_isR 1 14 (q_ld q_isR 0 (q_ld q_isI 6 (p_newa 0 0 (p_putf q_isR 1 16 (o_ret0))))))))))))
set_option maxRecDepth 20000 in
theorem kX1_init_125 (hZ : zO b e D A X) (j : Nat → rx_K) (hj : ∀ k pc, [15, 52][k]? = some pc → rx_OK (zV b e D A X) mX1_init 2 pc (j k)) : rx_OK (zV b e D A X) mX1_init 2 125 (bX1_init_125 j) := by
  unfold bX1_init_125
  refine rx_by (e_ldR _ _) (s_aload_n hZ.1 dX1_init_125 rfl ?_)
  refine rx_by (e_ldI _ _) (s_iload hZ.1 dX1_init_126 ?_)
  refine rx_by2 (l_newa _ _ _) (s_anewa (tt := 5) rfl zw936 (zo_W5 hZ) dX1_init_128 ?_)
  refine zp1_13 hZ.1 rfl rfl dX1_init_131 zw1156 ?_
  refine rx_by (e_ldR _ _) (s_aload_n hZ.1 dX1_init_134 rfl ?_)
  refine rx_by (e_ldI _ _) (s_iload hZ.1 dX1_init_135 ?_)
  refine rx_by2 (l_newa _ _ _) (s_newa (tt := 1) (ty := .long) rfl rfl rfl rfl rfl (by decide) zw528 dX1_init_137 ?_)
  refine zp1_14 hZ.1 rfl rfl dX1_init_139 zw1160 ?_
  refine rx_by (e_ldR _ _) (s_aload_n hZ.1 dX1_init_142 rfl ?_)
  refine rx_by (e_ldI _ _) (s_iload hZ.1 dX1_init_143 ?_)
  refine rx_by2 (l_newa _ _ _) (s_newa (tt := 0) (ty := .int) rfl rfl rfl rfl rfl (by decide) zw527 dX1_init_145 ?_)
  refine zp1_16 hZ.1 rfl rfl dX1_init_147 zw1168 ?_
  exact s_vret rfl dX1_init_150
noncomputable def bX1_init_78 (j : Nat → rx_K) : rx_K := q_ld q_isR 0 (q_ld q_isI 3 (p_newa 2 0 (p_putf q_isR 1 6 (q_ld q_isR 0 (q_ld q_isI 4 (p_newa 0 0 (p_putf q_isR 1 8 (q_ld q_isR 0 (q_ld q_isI 4 (p_newa 0 0 (p_putf q_isR 1 9 (q_ld q_isR 0 (q_ld q_isI 5 (p_newa 0 0 (p_putf q_isR 1 10 (q_ld q_isR 0 (q_ld q_isI 5 (p_newa 0 0 (p_putf q_isR 1 11 (q_ld q_isR 0 (q_ld q_isI 5 (p_newa 1 1 (p_putf q_isR 1 12 ((bX1_init_125 j)))))))))))))))))))))))))
set_option maxRecDepth 20000 in
theorem kX1_init_78 (hZ : zO b e D A X) (j : Nat → rx_K) (hj : ∀ k pc, [15, 52][k]? = some pc → rx_OK (zV b e D A X) mX1_init 2 pc (j k)) : rx_OK (zV b e D A X) mX1_init 2 78 (bX1_init_78 j) := by
  unfold bX1_init_78
  refine rx_by (e_ldR _ _) (s_aload_n hZ.1 dX1_init_78 rfl ?_)
  refine rx_by (e_ldI _ _) (s_iload_n hZ.1 dX1_init_79 rfl ?_)
  refine rx_by2 (l_newa _ _ _) (s_newa (tt := 2) (ty := .byte) rfl rfl rfl rfl rfl (by decide) zw526 dX1_init_80 ?_)
  refine zp1_6 hZ.1 rfl rfl dX1_init_82 zw1129 ?_
  refine rx_by (e_ldR _ _) (s_aload_n hZ.1 dX1_init_85 rfl ?_)
  refine rx_by (e_ldI _ _) (s_iload hZ.1 dX1_init_86 ?_)
  refine rx_by2 (l_newa _ _ _) (s_newa (tt := 0) (ty := .int) rfl rfl rfl rfl rfl (by decide) zw527 dX1_init_88 ?_)
  refine zp1_8 hZ.1 rfl rfl dX1_init_90 zw1136 ?_
  refine rx_by (e_ldR _ _) (s_aload_n hZ.1 dX1_init_93 rfl ?_)
  refine rx_by (e_ldI _ _) (s_iload hZ.1 dX1_init_94 ?_)
  refine rx_by2 (l_newa _ _ _) (s_newa (tt := 0) (ty := .int) rfl rfl rfl rfl rfl (by decide) zw527 dX1_init_96 ?_)
  refine zp1_9 hZ.1 rfl rfl dX1_init_98 zw1140 ?_
  refine rx_by (e_ldR _ _) (s_aload_n hZ.1 dX1_init_101 rfl ?_)
  refine rx_by (e_ldI _ _) (s_iload hZ.1 dX1_init_102 ?_)
  refine rx_by2 (l_newa _ _ _) (s_newa (tt := 0) (ty := .int) rfl rfl rfl rfl rfl (by decide) zw527 dX1_init_104 ?_)
  refine zp1_10 hZ.1 rfl rfl dX1_init_106 zw1144 ?_
  refine rx_by (e_ldR _ _) (s_aload_n hZ.1 dX1_init_109 rfl ?_)
  refine rx_by (e_ldI _ _) (s_iload hZ.1 dX1_init_110 ?_)
  refine rx_by2 (l_newa _ _ _) (s_newa (tt := 0) (ty := .int) rfl rfl rfl rfl rfl (by decide) zw527 dX1_init_112 ?_)
  refine zp1_11 hZ.1 rfl rfl dX1_init_114 zw1149 ?_
  refine rx_by (e_ldR _ _) (s_aload_n hZ.1 dX1_init_117 rfl ?_)
  refine rx_by (e_ldI _ _) (s_iload hZ.1 dX1_init_118 ?_)
  refine rx_by2 (l_newa _ _ _) (s_newa (tt := 1) (ty := .long) rfl rfl rfl rfl rfl (by decide) zw528 dX1_init_120 ?_)
  refine zp1_12 hZ.1 rfl rfl dX1_init_122 zw1152 ?_
  exact (kX1_init_125 hZ j hj)
noncomputable def bX1_init_58 (j : Nat → rx_K) : rx_K := q_ld q_isR 0 (q_getf 1 4 (q_ld q_isI 7 (p_new 7 19 zfs7 (q_dup (o_callI 0 fX7_init (p_aast 5 7 (q_inc 7 8 ((j 1)))))))))
set_option maxRecDepth 20000 in
theorem kX1_init_58 (hZ : zO b e D A X) (j : Nat → rx_K) (hj : ∀ k pc, [15, 52][k]? = some pc → rx_OK (zV b e D A X) mX1_init 2 pc (j k)) : rx_OK (zV b e D A X) mX1_init 2 58 (bX1_init_58 j) := by
  unfold bX1_init_58
  refine rx_by (e_ldR _ _) (s_aload_n hZ.1 dX1_init_58 rfl ?_)
  refine zg1_4 dX1_init_59 zw1127 ?_
  refine rx_by (e_ldI _ _) (s_iload hZ.1 dX1_init_62 ?_)
  refine rx_by2 (l_new _ _ _ _) (s_new zcl7 zfk7 dX1_init_64 zw936 zw937 zw426 ?_)
  refine rx_by (e_dup _) (s_dup hZ.1 dX1_init_67 ?_)
  refine s_callI hZ.1 (met_X7_init hZ) (by decide) zy_X7_init rfl rfl zw939 (Or.inr ⟨_, zo_N938 hZ⟩) dX1_init_68 ?_
  refine rx_by2 (l_aast _ _ _) (s_aast (tt := 5) rfl zaa7 dX1_init_71 ?_)
  refine rx_by (e_inc (by decide +kernel) _) (s_iinc hZ.1 dX1_init_72 (Nat.le_of_ble_eq_true rfl) ?_)
  exact s_goto dX1_init_75 (by decide) (hj 1 52 rfl)
noncomputable def bX1_init_52 (j : Nat → rx_K) : rx_K := q_ld q_isI 7 (q_ld q_isI 2 (q_lt2 (bX1_init_58 j) (bX1_init_78 j)))
set_option maxRecDepth 20000 in
theorem kX1_init_52 (hZ : zO b e D A X) (j : Nat → rx_K) (hj : ∀ k pc, [15, 52][k]? = some pc → rx_OK (zV b e D A X) mX1_init 2 pc (j k)) : rx_OK (zV b e D A X) mX1_init 2 52 (bX1_init_52 j) := by
  unfold bX1_init_52
  refine rx_by (e_ldI _ _) (s_iload hZ.1 dX1_init_52 ?_)
  refine rx_by (e_ldI _ _) (s_iload_n hZ.1 dX1_init_54 rfl ?_)
  exact rx_by (e_lt2 _ _) (s_icmp_ge dX1_init_55 (by decide) (kX1_init_78 hZ j hj) (kX1_init_58 hZ j hj))
noncomputable def bX1_init_41 (j : Nat → rx_K) : rx_K := q_ld q_isR 0 (q_ld q_isI 2 (p_newa 5 3 (p_putf q_isR 1 4 (o_const 0 (q_st q_isI 7 ((bX1_init_52 j)))))))
set_option maxRecDepth 20000 in
theorem kX1_init_41 (hZ : zO b e D A X) (j : Nat → rx_K) (hj : ∀ k pc, [15, 52][k]? = some pc → rx_OK (zV b e D A X) mX1_init 2 pc (j k)) : rx_OK (zV b e D A X) mX1_init 2 41 (bX1_init_41 j) := by
  unfold bX1_init_41
  refine rx_by (e_ldR _ _) (s_aload_n hZ.1 dX1_init_41 rfl ?_)
  refine rx_by (e_ldI _ _) (s_iload_n hZ.1 dX1_init_42 rfl ?_)
  refine rx_by2 (l_newa _ _ _) (s_anewa (tt := 5) rfl zw936 (zo_W5 hZ) dX1_init_43 ?_)
  refine zp1_4 hZ.1 rfl rfl dX1_init_46 zw1127 ?_
  refine s_iconst dX1_init_49 (by decide +kernel) ?_
  refine rx_by (e_stI _ _) (s_istore hZ.1 dX1_init_50 (Nat.le_of_ble_eq_true rfl) ?_)
  exact (kX1_init_52 hZ j hj)
noncomputable def bX1_init_21 (j : Nat → rx_K) : rx_K := q_ld q_isR 0 (q_getf 1 2 (q_ld q_isI 7 (p_new 10 21 zfs10 (q_dup (o_callI 0 fX10_init (p_aast 4 10 (q_inc 7 8 ((j 0)))))))))
set_option maxRecDepth 20000 in
theorem kX1_init_21 (hZ : zO b e D A X) (j : Nat → rx_K) (hj : ∀ k pc, [15, 52][k]? = some pc → rx_OK (zV b e D A X) mX1_init 2 pc (j k)) : rx_OK (zV b e D A X) mX1_init 2 21 (bX1_init_21 j) := by
  unfold bX1_init_21
  refine rx_by (e_ldR _ _) (s_aload_n hZ.1 dX1_init_21 rfl ?_)
  refine zg1_2 dX1_init_22 zw1113 ?_
  refine rx_by (e_ldI _ _) (s_iload hZ.1 dX1_init_25 ?_)
  refine rx_by2 (l_new _ _ _ _) (s_new zcl10 zfk10 dX1_init_27 zw758 zw759 zw425 ?_)
  refine rx_by (e_dup _) (s_dup hZ.1 dX1_init_30 ?_)
  refine s_callI hZ.1 (met_X10_init hZ) (by decide) zy_X10_init rfl rfl zw761 (Or.inr ⟨_, zo_N760 hZ⟩) dX1_init_31 ?_
  refine rx_by2 (l_aast _ _ _) (s_aast (tt := 4) rfl zaa10 dX1_init_34 ?_)
  refine rx_by (e_inc (by decide +kernel) _) (s_iinc hZ.1 dX1_init_35 (Nat.le_of_ble_eq_true rfl) ?_)
  exact s_goto dX1_init_38 (by decide) (hj 0 15 rfl)
noncomputable def bX1_init_15 (j : Nat → rx_K) : rx_K := q_ld q_isI 7 (q_ld q_isI 1 (q_lt2 (bX1_init_21 j) (bX1_init_41 j)))
set_option maxRecDepth 20000 in
theorem kX1_init_15 (hZ : zO b e D A X) (j : Nat → rx_K) (hj : ∀ k pc, [15, 52][k]? = some pc → rx_OK (zV b e D A X) mX1_init 2 pc (j k)) : rx_OK (zV b e D A X) mX1_init 2 15 (bX1_init_15 j) := by
  unfold bX1_init_15
  refine rx_by (e_ldI _ _) (s_iload hZ.1 dX1_init_15 ?_)
  refine rx_by (e_ldI _ _) (s_iload_n hZ.1 dX1_init_17 rfl ?_)
  exact rx_by (e_lt2 _ _) (s_icmp_ge dX1_init_18 (by decide) (kX1_init_41 hZ j hj) (kX1_init_21 hZ j hj))
noncomputable def bX1_init_0 (j : Nat → rx_K) : rx_K := q_ld q_isR 0 (q_obj (q_ld q_isR 0 (q_ld q_isI 1 (p_newa 4 3 (p_putf q_isR 1 2 (o_const 0 (q_st q_isI 7 ((bX1_init_15 j)))))))))
set_option maxRecDepth 20000 in
theorem kX1_init_0 (hZ : zO b e D A X) (j : Nat → rx_K) (hj : ∀ k pc, [15, 52][k]? = some pc → rx_OK (zV b e D A X) mX1_init 2 pc (j k)) : rx_OK (zV b e D A X) mX1_init 2 0 (bX1_init_0 j) := by
  unfold bX1_init_0
  refine rx_by (e_ldR _ _) (s_aload_n hZ.1 dX1_init_0 rfl ?_)
  refine rx_by (e_obj _) (s_obj hZ.1 (by decide) zw757 zw440 zw441 dX1_init_1 ?_)
  refine rx_by (e_ldR _ _) (s_aload_n hZ.1 dX1_init_4 rfl ?_)
  refine rx_by (e_ldI _ _) (s_iload_n hZ.1 dX1_init_5 rfl ?_)
  refine rx_by2 (l_newa _ _ _) (s_anewa (tt := 4) rfl zw758 (zo_W4 hZ) dX1_init_6 ?_)
  refine zp1_2 hZ.1 rfl rfl dX1_init_9 zw1113 ?_
  refine s_iconst dX1_init_12 (by decide +kernel) ?_
  refine rx_by (e_stI _ _) (s_istore hZ.1 dX1_init_13 (Nat.le_of_ble_eq_true rfl) ?_)
  exact (kX1_init_15 hZ j hj)
noncomputable def hX1_init (j : Nat → rx_K) : List rx_K := [bX1_init_15 j, bX1_init_52 j]
theorem lX1_init (hZ : zO b e D A X) : ∀ n k pc, [15, 52][k]? = some pc → rx_OK (zV b e D A X) mX1_init 2 pc (rx_J hX1_init n k) := rx_loop fun j hj k pc h => by
  match k, h with
  | 0, h =>
    have e9 := Option.some.inj (show some 15 = some pc from h)
    subst e9
    exact kX1_init_15 hZ j hj
  | 1, h =>
    have e9 := Option.some.inj (show some 52 = some pc from h)
    subst e9
    exact kX1_init_52 hZ j hj
  | _ + 2, h => exact absurd h (by simp)
noncomputable def fX1_init : List Nat → rx_H → Option (Nat × rx_H) := rx_ent 8 (bX1_init_0 (rx_J hX1_init 1000000))
theorem met_X1_init (hZ : zO b e D A X) : rx_Met (zV b e D A X) 2 yX1_init mX1_init fX1_init := rx_entry hZ.1 (kX1_init_0 hZ _ (lX1_init hZ 1000000)) (by decide +kernel) rfl (fun _ => rfl)
theorem zy_X1_init : rx_Y (zV b e D A X) yX1_init mX1_init 6 := ⟨zw756, zw424, by decide, by decide +kernel, by decide +kernel, by decide +kernel⟩
noncomputable def bJ7_fill_53178_20 (j : Nat → rx_K) : rx_K := o_ret0
set_option maxRecDepth 20000 in
theorem kJ7_fill_53178_20 (hZ : zO b e D A X) (j : Nat → rx_K) (hj : ∀ k pc, [5][k]? = some pc → rx_OK (zV b e D A X) mJ7_fill_53178 0 pc (j k)) : rx_OK (zV b e D A X) mJ7_fill_53178 0 20 (bJ7_fill_53178_20 j) := by
  unfold bJ7_fill_53178_20
  exact s_vret rfl dJ7_fill_53178_20
noncomputable def bJ7_fill_53178_10 (j : Nat → rx_K) : rx_K := q_ld q_isR 0 (q_ld q_isI 2 (q_ld q_isI 1 (p_ast 0 (fun v => v) q_isI (q_inc 2 8 ((j 0))))))
set_option maxRecDepth 20000 in
theorem kJ7_fill_53178_10 (hZ : zO b e D A X) (j : Nat → rx_K) (hj : ∀ k pc, [5][k]? = some pc → rx_OK (zV b e D A X) mJ7_fill_53178 0 pc (j k)) : rx_OK (zV b e D A X) mJ7_fill_53178 0 10 (bJ7_fill_53178_10 j) := by
  unfold bJ7_fill_53178_10
  refine rx_by (e_ldR _ _) (s_aload_n hZ.1 dJ7_fill_53178_10 rfl ?_)
  refine rx_by (e_ldI _ _) (s_iload_n hZ.1 dJ7_fill_53178_11 rfl ?_)
  refine rx_by (e_ldI _ _) (s_iload_n hZ.1 dJ7_fill_53178_12 rfl ?_)
  refine rx_by2 (l_astI _ _ _) (s_iast hZ.1 (tt := 0) rfl dJ7_fill_53178_13 ?_)
  refine rx_by (e_inc (by decide +kernel) _) (s_iinc hZ.1 dJ7_fill_53178_14 (Nat.le_of_ble_eq_true rfl) ?_)
  exact s_goto dJ7_fill_53178_17 (by decide) (hj 0 5 rfl)
noncomputable def bJ7_fill_53178_5 (j : Nat → rx_K) : rx_K := q_ld q_isI 2 (q_ld q_isI 3 (q_lt2 (bJ7_fill_53178_10 j) (bJ7_fill_53178_20 j)))
set_option maxRecDepth 20000 in
theorem kJ7_fill_53178_5 (hZ : zO b e D A X) (j : Nat → rx_K) (hj : ∀ k pc, [5][k]? = some pc → rx_OK (zV b e D A X) mJ7_fill_53178 0 pc (j k)) : rx_OK (zV b e D A X) mJ7_fill_53178 0 5 (bJ7_fill_53178_5 j) := by
  unfold bJ7_fill_53178_5
  refine rx_by (e_ldI _ _) (s_iload_n hZ.1 dJ7_fill_53178_5 rfl ?_)
  refine rx_by (e_ldI _ _) (s_iload_n hZ.1 dJ7_fill_53178_6 rfl ?_)
  exact rx_by (e_lt2 _ _) (s_icmp_ge dJ7_fill_53178_7 (by decide) (kJ7_fill_53178_20 hZ j hj) (kJ7_fill_53178_10 hZ j hj))
noncomputable def bJ7_fill_53178_0 (j : Nat → rx_K) : rx_K := o_const 0 (q_st q_isI 2 (q_ld q_isR 0 (o_alen 0 (q_st q_isI 3 ((bJ7_fill_53178_5 j))))))
set_option maxRecDepth 20000 in
theorem kJ7_fill_53178_0 (hZ : zO b e D A X) (j : Nat → rx_K) (hj : ∀ k pc, [5][k]? = some pc → rx_OK (zV b e D A X) mJ7_fill_53178 0 pc (j k)) : rx_OK (zV b e D A X) mJ7_fill_53178 0 0 (bJ7_fill_53178_0 j) := by
  unfold bJ7_fill_53178_0
  refine s_iconst dJ7_fill_53178_0 (by decide +kernel) ?_
  refine rx_by (e_stI _ _) (s_istore_n hZ.1 dJ7_fill_53178_1 rfl (Nat.le_of_ble_eq_true rfl) ?_)
  refine rx_by (e_ldR _ _) (s_aload_n hZ.1 dJ7_fill_53178_2 rfl ?_)
  refine s_alen (tt := 0) rfl dJ7_fill_53178_3 ?_
  refine rx_by (e_stI _ _) (s_istore_n hZ.1 dJ7_fill_53178_4 rfl (Nat.le_of_ble_eq_true rfl) ?_)
  exact (kJ7_fill_53178_5 hZ j hj)
noncomputable def hJ7_fill_53178 (j : Nat → rx_K) : List rx_K := [bJ7_fill_53178_5 j]
theorem lJ7_fill_53178 (hZ : zO b e D A X) : ∀ n k pc, [5][k]? = some pc → rx_OK (zV b e D A X) mJ7_fill_53178 0 pc (rx_J hJ7_fill_53178 n k) := rx_loop fun j hj k pc h => by
  match k, h with
  | 0, h =>
    have e9 := Option.some.inj (show some 5 = some pc from h)
    subst e9
    exact kJ7_fill_53178_5 hZ j hj
  | _ + 1, h => exact absurd h (by simp)
noncomputable def fJ7_fill_53178 : List Nat → rx_H → Option (Nat × rx_H) := rx_ent 4 (bJ7_fill_53178_0 (rx_J hJ7_fill_53178 1000000))
theorem met_J7_fill_53178 (hZ : zO b e D A X) : rx_Met (zV b e D A X) 0 yJ7_fill_53178 mJ7_fill_53178 fJ7_fill_53178 := rx_entry hZ.1 (kJ7_fill_53178_0 hZ _ (lJ7_fill_53178 hZ 1000000)) (by decide +kernel) rfl (fun h => by cases h)
theorem zy_J7_fill_53178 : rx_Y (zV b e D A X) yJ7_fill_53178 mJ7_fill_53178 2 := ⟨zw1224, zw427, by decide, by decide +kernel, by decide +kernel, by decide +kernel⟩
noncomputable def bX10_clear_86 : rx_K := p_putf q_isR 10 18 (q_ld q_isR 0 (o_const 0 (p_putf q_isI 10 19 (q_ld q_isR 0 (o_const 0 (p_putf q_isI 10 20 (o_ret0)))))))
set_option maxRecDepth 20000 in
theorem kX10_clear_86 (hZ : zO b e D A X) : rx_OK (zV b e D A X) mX10_clear 1 86 bX10_clear_86 := by
  unfold bX10_clear_86
  refine zp10_18 hZ.1 dX10_clear_86 zw883 ?_
  refine rx_by (e_ldR _ _) (s_aload_n hZ.1 dX10_clear_89 rfl ?_)
  refine s_iconst dX10_clear_90 (by decide +kernel) ?_
  refine zp10_19 hZ.1 dX10_clear_91 zw886 ?_
  refine rx_by (e_ldR _ _) (s_aload_n hZ.1 dX10_clear_94 rfl ?_)
  refine s_iconst dX10_clear_95 (by decide +kernel) ?_
  refine zp10_20 hZ.1 dX10_clear_96 zw890 ?_
  exact s_vret rfl dX10_clear_99
noncomputable def bX10_clear_42 : rx_K := q_ld q_isR 0 (o_const 115324555267378511873 (p_putf q_isL 10 8 (q_ld q_isR 0 (o_const 147573952589676412897 (p_putf q_isL 10 9 (q_ld q_isR 0 (q_getf 10 11 (o_const 0 (o_callS 2 fJ7_fill_53178 (q_ld q_isR 0 (o_const 0 (p_putf q_isI 10 13 (q_ld q_isR 0 (o_const 0 (p_putf q_isI 10 15 (q_ld q_isR 0 (o_const 0 (p_putf q_isI 10 16 (q_ld q_isR 0 (o_const 0 (p_putf q_isI 10 17 (q_ld q_isR 0 (o_const 3 (bX10_clear_86))))))))))))))))))))))))
set_option maxRecDepth 20000 in
theorem kX10_clear_42 (hZ : zO b e D A X) : rx_OK (zV b e D A X) mX10_clear 1 42 bX10_clear_42 := by
  unfold bX10_clear_42
  refine rx_by (e_ldR _ _) (s_aload_n hZ.1 dX10_clear_42 rfl ?_)
  refine s_ldc2 dX10_clear_43 zw1221 (by decide +kernel) ?_
  refine zp10_8 hZ.1 dX10_clear_46 zw822 ?_
  refine rx_by (e_ldR _ _) (s_aload_n hZ.1 dX10_clear_49 rfl ?_)
  refine s_ldc2 dX10_clear_50 zw1220 (by decide +kernel) ?_
  refine zp10_9 hZ.1 dX10_clear_53 zw829 ?_
  refine rx_by (e_ldR _ _) (s_aload_n hZ.1 dX10_clear_56 rfl ?_)
  refine zg10_11 dX10_clear_57 zw838 ?_
  refine s_iconst dX10_clear_60 (by decide +kernel) ?_
  refine s_callS hZ.1 (met_J7_fill_53178 hZ) (by decide) zy_J7_fill_53178 zw1223 (Or.inl zw1222) dX10_clear_61 ?_
  refine rx_by (e_ldR _ _) (s_aload_n hZ.1 dX10_clear_64 rfl ?_)
  refine s_iconst dX10_clear_65 (by decide +kernel) ?_
  refine zp10_13 hZ.1 dX10_clear_66 zw853 ?_
  refine rx_by (e_ldR _ _) (s_aload_n hZ.1 dX10_clear_69 rfl ?_)
  refine s_iconst dX10_clear_70 (by decide +kernel) ?_
  refine zp10_15 hZ.1 dX10_clear_71 zw866 ?_
  refine rx_by (e_ldR _ _) (s_aload_n hZ.1 dX10_clear_74 rfl ?_)
  refine s_iconst dX10_clear_75 (by decide +kernel) ?_
  refine zp10_16 hZ.1 dX10_clear_76 zw874 ?_
  refine rx_by (e_ldR _ _) (s_aload_n hZ.1 dX10_clear_79 rfl ?_)
  refine s_iconst dX10_clear_80 (by decide +kernel) ?_
  refine zp10_17 hZ.1 dX10_clear_81 zw880 ?_
  refine rx_by (e_ldR _ _) (s_aload_n hZ.1 dX10_clear_84 rfl ?_)
  refine s_null dX10_clear_85 ?_
  exact (kX10_clear_86 hZ)
noncomputable def bX10_clear_0 : rx_K := q_ld q_isR 0 (q_ld q_isR 1 (p_putf q_isR 10 0 (q_ld q_isR 0 (o_const 147573952589676412897 (p_putf q_isL 10 1 (q_ld q_isR 0 (o_const 0 (p_putf q_isI 10 2 (q_ld q_isR 0 (o_const 0 (p_putf rx_isZ 10 3 (q_ld q_isR 0 (o_const 0 (p_putf rx_isZ 10 4 (q_ld q_isR 0 (o_const 0 (p_putf rx_isZ 10 5 (q_ld q_isR 0 (o_const 0 (p_putf rx_isZ 10 6 (q_ld q_isR 0 (o_const 0 (p_putf rx_isZ 10 7 (bX10_clear_42))))))))))))))))))))))))
set_option maxRecDepth 20000 in
theorem kX10_clear_0 (hZ : zO b e D A X) : rx_OK (zV b e D A X) mX10_clear 1 0 bX10_clear_0 := by
  unfold bX10_clear_0
  refine rx_by (e_ldR _ _) (s_aload_n hZ.1 dX10_clear_0 rfl ?_)
  refine rx_by (e_ldR _ _) (s_aload_n hZ.1 dX10_clear_1 rfl ?_)
  refine zp10_0 hZ.1 dX10_clear_2 zw765 ?_
  refine rx_by (e_ldR _ _) (s_aload_n hZ.1 dX10_clear_5 rfl ?_)
  refine s_ldc2 dX10_clear_6 zw1220 (by decide +kernel) ?_
  refine zp10_1 hZ.1 dX10_clear_9 zw769 ?_
  refine rx_by (e_ldR _ _) (s_aload_n hZ.1 dX10_clear_12 rfl ?_)
  refine s_iconst dX10_clear_13 (by decide +kernel) ?_
  refine zp10_2 hZ.1 dX10_clear_14 zw778 ?_
  refine rx_by (e_ldR _ _) (s_aload_n hZ.1 dX10_clear_17 rfl ?_)
  refine s_iconst dX10_clear_18 (by decide +kernel) ?_
  refine zp10_3 hZ.1 dX10_clear_19 zw784 ?_
  refine rx_by (e_ldR _ _) (s_aload_n hZ.1 dX10_clear_22 rfl ?_)
  refine s_iconst dX10_clear_23 (by decide +kernel) ?_
  refine zp10_4 hZ.1 dX10_clear_24 zw790 ?_
  refine rx_by (e_ldR _ _) (s_aload_n hZ.1 dX10_clear_27 rfl ?_)
  refine s_iconst dX10_clear_28 (by decide +kernel) ?_
  refine zp10_5 hZ.1 dX10_clear_29 zw800 ?_
  refine rx_by (e_ldR _ _) (s_aload_n hZ.1 dX10_clear_32 rfl ?_)
  refine s_iconst dX10_clear_33 (by decide +kernel) ?_
  refine zp10_6 hZ.1 dX10_clear_34 zw807 ?_
  refine rx_by (e_ldR _ _) (s_aload_n hZ.1 dX10_clear_37 rfl ?_)
  refine s_iconst dX10_clear_38 (by decide +kernel) ?_
  refine zp10_7 hZ.1 dX10_clear_39 zw816 ?_
  exact (kX10_clear_42 hZ)
noncomputable def fX10_clear : List Nat → rx_H → Option (Nat × rx_H) := rx_ent 2 bX10_clear_0
theorem met_X10_clear (hZ : zO b e D A X) : rx_Met (zV b e D A X) 1 yX10_clear mX10_clear fX10_clear := rx_entry hZ.1 (kX10_clear_0 hZ) (by decide +kernel) rfl (fun h => by cases h)
theorem zy_X10_clear : rx_Y (zV b e D A X) yX10_clear mX10_clear 1 := ⟨zw1219, zw425, by decide, by decide +kernel, by decide +kernel, by decide +kernel⟩
noncomputable def bX1_newRow_14 : rx_K := q_ld q_isR 0 (q_getf 1 2 (q_ld q_isR 0 (q_getf 1 3 (q_ald 4 (q_st q_isR 1 (q_ld q_isR 0 (q_dup (q_getf 1 3 (o_const 8 (q_bi q_Fadd (p_putf q_isI 1 3 (q_ld q_isR 1 (q_ld q_isR 0 (o_callV 1 10 fX10_clear (q_ld q_isR 1 (o_ret1 rx_isR))))))))))))))))
set_option maxRecDepth 20000 in
theorem kX1_newRow_14 (hZ : zO b e D A X) : rx_OK (zV b e D A X) mX1_newRow 2 14 bX1_newRow_14 := by
  unfold bX1_newRow_14
  refine rx_by (e_ldR _ _) (s_aload_n hZ.1 dX1_newRow_14 rfl ?_)
  refine zg1_2 dX1_newRow_15 zw1113 ?_
  refine rx_by (e_ldR _ _) (s_aload_n hZ.1 dX1_newRow_18 rfl ?_)
  refine zg1_3 dX1_newRow_19 zw1120 ?_
  refine rx_by (e_ald _ _) (s_aald (tt := 4) rfl rfl dX1_newRow_22 ?_)
  refine rx_by (e_stR _ _) (s_astore_n hZ.1 dX1_newRow_23 rfl (Nat.le_of_ble_eq_true rfl) ?_)
  refine rx_by (e_ldR _ _) (s_aload_n hZ.1 dX1_newRow_24 rfl ?_)
  refine rx_by (e_dup _) (s_dup hZ.1 dX1_newRow_25 ?_)
  refine zg1_3 dX1_newRow_26 zw1120 ?_
  refine s_iconst dX1_newRow_29 (by decide +kernel) ?_
  refine rx_by (e_add _) (s_iadd dX1_newRow_30 ?_)
  refine zp1_3 hZ.1 dX1_newRow_31 zw1120 ?_
  refine rx_by (e_ldR _ _) (s_aload_n hZ.1 dX1_newRow_34 rfl ?_)
  refine rx_by (e_ldR _ _) (s_aload_n hZ.1 dX1_newRow_35 rfl ?_)
  refine s_callV hZ.1 (met_X10_clear hZ) (by decide) zy_X10_clear zcl10 zw1217 zw1218 (Or.inl zw1216) dX1_newRow_36 ?_
  refine rx_by (e_ldR _ _) (s_aload_n hZ.1 dX1_newRow_39 rfl ?_)
  exact s_aret hZ.1 rfl (Or.inl ⟨_, rfl⟩) dX1_newRow_40
noncomputable def bX1_newRow_0 : rx_K := q_ld q_isR 0 (q_getf 1 3 (q_ld q_isR 0 (q_getf 1 2 (o_alen 4 (q_lt2 bX1_newRow_14 o_none)))))
set_option maxRecDepth 20000 in
theorem kX1_newRow_0 (hZ : zO b e D A X) : rx_OK (zV b e D A X) mX1_newRow 2 0 bX1_newRow_0 := by
  unfold bX1_newRow_0
  refine rx_by (e_ldR _ _) (s_aload_n hZ.1 dX1_newRow_0 rfl ?_)
  refine zg1_3 dX1_newRow_1 zw1120 ?_
  refine rx_by (e_ldR _ _) (s_aload_n hZ.1 dX1_newRow_4 rfl ?_)
  refine zg1_2 dX1_newRow_5 zw1113 ?_
  refine s_alen (tt := 4) rfl dX1_newRow_8 ?_
  exact rx_by (e_lt2 _ _) (s_icmp_lt dX1_newRow_9 (by decide) (kX1_newRow_14 hZ) (s_none (pc := 12)))
noncomputable def fX1_newRow : List Nat → rx_H → Option (Nat × rx_H) := rx_ent 2 bX1_newRow_0
theorem met_X1_newRow (hZ : zO b e D A X) : rx_Met (zV b e D A X) 2 yX1_newRow mX1_newRow fX1_newRow := rx_entry hZ.1 (kX1_newRow_0 hZ) (by decide +kernel) rfl (fun h => by cases h)
theorem zy_X1_newRow : rx_Y (zV b e D A X) yX1_newRow mX1_newRow 0 := ⟨zw1215, zw424, by decide, by decide +kernel, by decide +kernel, by decide +kernel⟩
noncomputable def bJ7_fill_d0a16_22 (j : Nat → rx_K) : rx_K := o_ret0
set_option maxRecDepth 20000 in
theorem kJ7_fill_d0a16_22 (hZ : zO b e D A X) (j : Nat → rx_K) (hj : ∀ k pc, [6][k]? = some pc → rx_OK (zV b e D A X) mJ7_fill_d0a16 0 pc (j k)) : rx_OK (zV b e D A X) mJ7_fill_d0a16 0 22 (bJ7_fill_d0a16_22 j) := by
  unfold bJ7_fill_d0a16_22
  exact s_vret rfl dJ7_fill_d0a16_22
noncomputable def bJ7_fill_d0a16_12 (j : Nat → rx_K) : rx_K := q_ld q_isR 0 (q_ld q_isI 3 (q_ld q_isL 1 (p_ast 1 (fun v => v) q_isL (q_inc 3 8 ((j 0))))))
set_option maxRecDepth 20000 in
theorem kJ7_fill_d0a16_12 (hZ : zO b e D A X) (j : Nat → rx_K) (hj : ∀ k pc, [6][k]? = some pc → rx_OK (zV b e D A X) mJ7_fill_d0a16 0 pc (j k)) : rx_OK (zV b e D A X) mJ7_fill_d0a16 0 12 (bJ7_fill_d0a16_12 j) := by
  unfold bJ7_fill_d0a16_12
  refine rx_by (e_ldR _ _) (s_aload_n hZ.1 dJ7_fill_d0a16_12 rfl ?_)
  refine rx_by (e_ldI _ _) (s_iload_n hZ.1 dJ7_fill_d0a16_13 rfl ?_)
  refine rx_by (e_ld _ _ _) (s_lload_n hZ.1 dJ7_fill_d0a16_14 rfl ?_)
  refine rx_by2 (l_ast _ _ _ _) (s_last (tt := 1) rfl dJ7_fill_d0a16_15 ?_)
  refine rx_by (e_inc (by decide +kernel) _) (s_iinc hZ.1 dJ7_fill_d0a16_16 (Nat.le_of_ble_eq_true rfl) ?_)
  exact s_goto dJ7_fill_d0a16_19 (by decide) (hj 0 6 rfl)
noncomputable def bJ7_fill_d0a16_6 (j : Nat → rx_K) : rx_K := q_ld q_isI 3 (q_ld q_isI 4 (q_lt2 (bJ7_fill_d0a16_12 j) (bJ7_fill_d0a16_22 j)))
set_option maxRecDepth 20000 in
theorem kJ7_fill_d0a16_6 (hZ : zO b e D A X) (j : Nat → rx_K) (hj : ∀ k pc, [6][k]? = some pc → rx_OK (zV b e D A X) mJ7_fill_d0a16 0 pc (j k)) : rx_OK (zV b e D A X) mJ7_fill_d0a16 0 6 (bJ7_fill_d0a16_6 j) := by
  unfold bJ7_fill_d0a16_6
  refine rx_by (e_ldI _ _) (s_iload_n hZ.1 dJ7_fill_d0a16_6 rfl ?_)
  refine rx_by (e_ldI _ _) (s_iload hZ.1 dJ7_fill_d0a16_7 ?_)
  exact rx_by (e_lt2 _ _) (s_icmp_ge dJ7_fill_d0a16_9 (by decide) (kJ7_fill_d0a16_22 hZ j hj) (kJ7_fill_d0a16_12 hZ j hj))
noncomputable def bJ7_fill_d0a16_0 (j : Nat → rx_K) : rx_K := o_const 0 (q_st q_isI 3 (q_ld q_isR 0 (o_alen 1 (q_st q_isI 4 ((bJ7_fill_d0a16_6 j))))))
set_option maxRecDepth 20000 in
theorem kJ7_fill_d0a16_0 (hZ : zO b e D A X) (j : Nat → rx_K) (hj : ∀ k pc, [6][k]? = some pc → rx_OK (zV b e D A X) mJ7_fill_d0a16 0 pc (j k)) : rx_OK (zV b e D A X) mJ7_fill_d0a16 0 0 (bJ7_fill_d0a16_0 j) := by
  unfold bJ7_fill_d0a16_0
  refine s_iconst dJ7_fill_d0a16_0 (by decide +kernel) ?_
  refine rx_by (e_stI _ _) (s_istore_n hZ.1 dJ7_fill_d0a16_1 rfl (Nat.le_of_ble_eq_true rfl) ?_)
  refine rx_by (e_ldR _ _) (s_aload_n hZ.1 dJ7_fill_d0a16_2 rfl ?_)
  refine s_alen (tt := 1) rfl dJ7_fill_d0a16_3 ?_
  refine rx_by (e_stI _ _) (s_istore hZ.1 dJ7_fill_d0a16_4 (Nat.le_of_ble_eq_true rfl) ?_)
  exact (kJ7_fill_d0a16_6 hZ j hj)
noncomputable def hJ7_fill_d0a16 (j : Nat → rx_K) : List rx_K := [bJ7_fill_d0a16_6 j]
theorem lJ7_fill_d0a16 (hZ : zO b e D A X) : ∀ n k pc, [6][k]? = some pc → rx_OK (zV b e D A X) mJ7_fill_d0a16 0 pc (rx_J hJ7_fill_d0a16 n k) := rx_loop fun j hj k pc h => by
  match k, h with
  | 0, h =>
    have e9 := Option.some.inj (show some 6 = some pc from h)
    subst e9
    exact kJ7_fill_d0a16_6 hZ j hj
  | _ + 1, h => exact absurd h (by simp)
noncomputable def fJ7_fill_d0a16 : List Nat → rx_H → Option (Nat × rx_H) := rx_ent 5 (bJ7_fill_d0a16_0 (rx_J hJ7_fill_d0a16 1000000))
theorem met_J7_fill_d0a16 (hZ : zO b e D A X) : rx_Met (zV b e D A X) 0 yJ7_fill_d0a16 mJ7_fill_d0a16 fJ7_fill_d0a16 := rx_entry hZ.1 (kJ7_fill_d0a16_0 hZ _ (lJ7_fill_d0a16 hZ 1000000)) (by decide +kernel) rfl (fun h => by cases h)
theorem zy_J7_fill_d0a16 : rx_Y (zV b e D A X) yJ7_fill_d0a16 mJ7_fill_d0a16 2 := ⟨zw1239, zw427, by decide, by decide +kernel, by decide +kernel, by decide +kernel⟩
noncomputable def bX7_clear_86 : rx_K := p_putf rx_isZ 7 15 (q_ld q_isR 0 (o_const 0 (p_putf q_isI 7 16 (q_ld q_isR 0 (o_const 0 (p_putf q_isI 7 17 (q_ld q_isR 0 (o_const 0 (p_putf q_isI 7 18 (o_ret0))))))))))
set_option maxRecDepth 20000 in
theorem kX7_clear_86 (hZ : zO b e D A X) : rx_OK (zV b e D A X) mX7_clear 1 86 bX7_clear_86 := by
  unfold bX7_clear_86
  refine zp7_15 hZ.1 dX7_clear_86 zw1051 ?_
  refine rx_by (e_ldR _ _) (s_aload_n hZ.1 dX7_clear_89 rfl ?_)
  refine s_iconst dX7_clear_90 (by decide +kernel) ?_
  refine zp7_16 hZ.1 dX7_clear_91 zw1058 ?_
  refine rx_by (e_ldR _ _) (s_aload_n hZ.1 dX7_clear_94 rfl ?_)
  refine s_iconst dX7_clear_95 (by decide +kernel) ?_
  refine zp7_17 hZ.1 dX7_clear_96 zw1065 ?_
  refine rx_by (e_ldR _ _) (s_aload_n hZ.1 dX7_clear_99 rfl ?_)
  refine s_iconst dX7_clear_100 (by decide +kernel) ?_
  refine zp7_18 hZ.1 dX7_clear_101 zw1068 ?_
  exact s_vret rfl dX7_clear_104
noncomputable def bX7_clear_42 : rx_K := q_ld q_isR 0 (o_const 147573952589676412905 (p_putf q_isL 7 8 (q_ld q_isR 0 (o_const 0 (p_putf q_isI 7 9 (q_ld q_isR 0 (q_getf 7 10 (o_const 147573952589676412897 (o_callS 2 fJ7_fill_d0a16 (q_ld q_isR 0 (o_const 0 (p_putf q_isI 7 11 (q_ld q_isR 0 (o_const 0 (p_putf q_isI 7 12 (q_ld q_isR 0 (o_const 0 (p_putf q_isI 7 13 (q_ld q_isR 0 (o_const 3 (p_putf q_isR 7 14 (q_ld q_isR 0 (o_const 0 (bX7_clear_86))))))))))))))))))))))))
set_option maxRecDepth 20000 in
theorem kX7_clear_42 (hZ : zO b e D A X) : rx_OK (zV b e D A X) mX7_clear 1 42 bX7_clear_42 := by
  unfold bX7_clear_42
  refine rx_by (e_ldR _ _) (s_aload_n hZ.1 dX7_clear_42 rfl ?_)
  refine s_ldc2 dX7_clear_43 zw1236 (by decide +kernel) ?_
  refine zp7_8 hZ.1 dX7_clear_46 zw1012 ?_
  refine rx_by (e_ldR _ _) (s_aload_n hZ.1 dX7_clear_49 rfl ?_)
  refine s_iconst dX7_clear_50 (by decide +kernel) ?_
  refine zp7_9 hZ.1 dX7_clear_51 zw1021 ?_
  refine rx_by (e_ldR _ _) (s_aload_n hZ.1 dX7_clear_54 rfl ?_)
  refine zg7_10 dX7_clear_55 zw1029 ?_
  refine s_ldc2 dX7_clear_58 zw1235 (by decide +kernel) ?_
  refine s_callS hZ.1 (met_J7_fill_d0a16 hZ) (by decide) zy_J7_fill_d0a16 zw1238 (Or.inl zw1237) dX7_clear_61 ?_
  refine rx_by (e_ldR _ _) (s_aload_n hZ.1 dX7_clear_64 rfl ?_)
  refine s_iconst dX7_clear_65 (by decide +kernel) ?_
  refine zp7_11 hZ.1 dX7_clear_66 zw1036 ?_
  refine rx_by (e_ldR _ _) (s_aload_n hZ.1 dX7_clear_69 rfl ?_)
  refine s_iconst dX7_clear_70 (by decide +kernel) ?_
  refine zp7_12 hZ.1 dX7_clear_71 zw1040 ?_
  refine rx_by (e_ldR _ _) (s_aload_n hZ.1 dX7_clear_74 rfl ?_)
  refine s_iconst dX7_clear_75 (by decide +kernel) ?_
  refine zp7_13 hZ.1 dX7_clear_76 zw1043 ?_
  refine rx_by (e_ldR _ _) (s_aload_n hZ.1 dX7_clear_79 rfl ?_)
  refine s_null dX7_clear_80 ?_
  refine zp7_14 hZ.1 dX7_clear_81 zw1046 ?_
  refine rx_by (e_ldR _ _) (s_aload_n hZ.1 dX7_clear_84 rfl ?_)
  refine s_iconst dX7_clear_85 (by decide +kernel) ?_
  exact (kX7_clear_86 hZ)
noncomputable def bX7_clear_0 : rx_K := q_ld q_isR 0 (o_const 0 (p_putf q_isI 7 0 (q_ld q_isR 0 (o_const 8 (p_putf q_isI 7 1 (q_ld q_isR 0 (o_const 0 (p_putf rx_isZ 7 2 (q_ld q_isR 0 (o_const 0 (p_putf rx_isZ 7 3 (q_ld q_isR 0 (o_const 0 (p_putf rx_isZ 7 4 (q_ld q_isR 0 (o_const 0 (p_putf rx_isZ 7 5 (q_ld q_isR 0 (o_const 0 (p_putf rx_isZ 7 6 (q_ld q_isR 0 (o_const 147573952589676412897 (p_putf q_isL 7 7 (bX7_clear_42))))))))))))))))))))))))
set_option maxRecDepth 20000 in
theorem kX7_clear_0 (hZ : zO b e D A X) : rx_OK (zV b e D A X) mX7_clear 1 0 bX7_clear_0 := by
  unfold bX7_clear_0
  refine rx_by (e_ldR _ _) (s_aload_n hZ.1 dX7_clear_0 rfl ?_)
  refine s_iconst dX7_clear_1 (by decide +kernel) ?_
  refine zp7_0 hZ.1 dX7_clear_2 zw942 ?_
  refine rx_by (e_ldR _ _) (s_aload_n hZ.1 dX7_clear_5 rfl ?_)
  refine s_iconst dX7_clear_6 (by decide +kernel) ?_
  refine zp7_1 hZ.1 dX7_clear_7 zw954 ?_
  refine rx_by (e_ldR _ _) (s_aload_n hZ.1 dX7_clear_10 rfl ?_)
  refine s_iconst dX7_clear_11 (by decide +kernel) ?_
  refine zp7_2 hZ.1 dX7_clear_12 zw961 ?_
  refine rx_by (e_ldR _ _) (s_aload_n hZ.1 dX7_clear_15 rfl ?_)
  refine s_iconst dX7_clear_16 (by decide +kernel) ?_
  refine zp7_3 hZ.1 dX7_clear_17 zw972 ?_
  refine rx_by (e_ldR _ _) (s_aload_n hZ.1 dX7_clear_20 rfl ?_)
  refine s_iconst dX7_clear_21 (by decide +kernel) ?_
  refine zp7_4 hZ.1 dX7_clear_22 zw979 ?_
  refine rx_by (e_ldR _ _) (s_aload_n hZ.1 dX7_clear_25 rfl ?_)
  refine s_iconst dX7_clear_26 (by decide +kernel) ?_
  refine zp7_5 hZ.1 dX7_clear_27 zw988 ?_
  refine rx_by (e_ldR _ _) (s_aload_n hZ.1 dX7_clear_30 rfl ?_)
  refine s_iconst dX7_clear_31 (by decide +kernel) ?_
  refine zp7_6 hZ.1 dX7_clear_32 zw995 ?_
  refine rx_by (e_ldR _ _) (s_aload_n hZ.1 dX7_clear_35 rfl ?_)
  refine s_ldc2 dX7_clear_36 zw1235 (by decide +kernel) ?_
  refine zp7_7 hZ.1 dX7_clear_39 zw1003 ?_
  exact (kX7_clear_42 hZ)
noncomputable def fX7_clear : List Nat → rx_H → Option (Nat × rx_H) := rx_ent 1 bX7_clear_0
theorem met_X7_clear (hZ : zO b e D A X) : rx_Met (zV b e D A X) 1 yX7_clear mX7_clear fX7_clear := rx_entry hZ.1 (kX7_clear_0 hZ) (by decide +kernel) rfl (fun h => by cases h)
theorem zy_X7_clear : rx_Y (zV b e D A X) yX7_clear mX7_clear 0 := ⟨zw1234, zw426, by decide, by decide +kernel, by decide +kernel, by decide +kernel⟩
noncomputable def bX1_newMember_23 : rx_K := q_ld q_isR 0 (q_getf 1 4 (q_ld q_isR 0 (q_getf 1 5 (q_ald 5 (q_st q_isR 1 (q_ld q_isR 0 (q_dup (q_getf 1 5 (o_const 8 (q_bi q_Fadd (p_putf q_isI 1 5 (q_ld q_isR 1 (o_callV 0 7 fX7_clear (q_ld q_isR 1 (o_ret1 rx_isR)))))))))))))))
set_option maxRecDepth 20000 in
theorem kX1_newMember_23 (hZ : zO b e D A X) : rx_OK (zV b e D A X) mX1_newMember 2 23 bX1_newMember_23 := by
  unfold bX1_newMember_23
  refine rx_by (e_ldR _ _) (s_aload_n hZ.1 dX1_newMember_23 rfl ?_)
  refine zg1_4 dX1_newMember_24 zw1127 ?_
  refine rx_by (e_ldR _ _) (s_aload_n hZ.1 dX1_newMember_27 rfl ?_)
  refine zg1_5 dX1_newMember_28 zw1128 ?_
  refine rx_by (e_ald _ _) (s_aald (tt := 5) rfl rfl dX1_newMember_31 ?_)
  refine rx_by (e_stR _ _) (s_astore_n hZ.1 dX1_newMember_32 rfl (Nat.le_of_ble_eq_true rfl) ?_)
  refine rx_by (e_ldR _ _) (s_aload_n hZ.1 dX1_newMember_33 rfl ?_)
  refine rx_by (e_dup _) (s_dup hZ.1 dX1_newMember_34 ?_)
  refine zg1_5 dX1_newMember_35 zw1128 ?_
  refine s_iconst dX1_newMember_38 (by decide +kernel) ?_
  refine rx_by (e_add _) (s_iadd dX1_newMember_39 ?_)
  refine zp1_5 hZ.1 dX1_newMember_40 zw1128 ?_
  refine rx_by (e_ldR _ _) (s_aload_n hZ.1 dX1_newMember_43 rfl ?_)
  refine s_callV hZ.1 (met_X7_clear hZ) (by decide) zy_X7_clear zcl7 zw1232 zw1233 (Or.inl zw1231) dX1_newMember_44 ?_
  refine rx_by (e_ldR _ _) (s_aload_n hZ.1 dX1_newMember_47 rfl ?_)
  exact s_aret hZ.1 rfl (Or.inl ⟨_, rfl⟩) dX1_newMember_48
noncomputable def bX1_newMember_0 : rx_K := q_ld q_isR 0 (q_getf 1 5 (q_ld q_isR 0 (q_getf 1 4 (o_alen 5 (q_lt2 bX1_newMember_23 o_none)))))
set_option maxRecDepth 20000 in
theorem kX1_newMember_0 (hZ : zO b e D A X) : rx_OK (zV b e D A X) mX1_newMember 2 0 bX1_newMember_0 := by
  unfold bX1_newMember_0
  refine rx_by (e_ldR _ _) (s_aload_n hZ.1 dX1_newMember_0 rfl ?_)
  refine zg1_5 dX1_newMember_1 zw1128 ?_
  refine rx_by (e_ldR _ _) (s_aload_n hZ.1 dX1_newMember_4 rfl ?_)
  refine zg1_4 dX1_newMember_5 zw1127 ?_
  refine s_alen (tt := 5) rfl dX1_newMember_8 ?_
  exact rx_by (e_lt2 _ _) (s_icmp_lt dX1_newMember_9 (by decide) (kX1_newMember_23 hZ) (s_none (pc := 12)))
noncomputable def fX1_newMember : List Nat → rx_H → Option (Nat × rx_H) := rx_ent 2 bX1_newMember_0
theorem met_X1_newMember (hZ : zO b e D A X) : rx_Met (zV b e D A X) 2 yX1_newMember mX1_newMember fX1_newMember := rx_entry hZ.1 (kX1_newMember_0 hZ) (by decide +kernel) rfl (fun h => by cases h)
theorem zy_X1_newMember : rx_Y (zV b e D A X) yX1_newMember mX1_newMember 0 := ⟨zw1230, zw424, by decide, by decide +kernel, by decide +kernel, by decide +kernel⟩
noncomputable def bX11_openMaker_0 : rx_K := q_ld q_isR 0 (o_const 16 (p_putf q_isI 7 0 (q_ld q_isR 0 (o_const 24 (p_putf q_isI 7 1 (q_ld q_isR 0 (o_ret1 rx_isR)))))))
set_option maxRecDepth 20000 in
theorem kX11_openMaker_0 (hZ : zO b e D A X) : rx_OK (zV b e D A X) mX11_openMaker 0 0 bX11_openMaker_0 := by
  unfold bX11_openMaker_0
  refine rx_by (e_ldR _ _) (s_aload_n hZ.1 dX11_openMaker_0 rfl ?_)
  refine s_iconst dX11_openMaker_1 (by decide +kernel) ?_
  refine zp7_0 hZ.1 dX11_openMaker_2 zw943 ?_
  refine rx_by (e_ldR _ _) (s_aload_n hZ.1 dX11_openMaker_5 rfl ?_)
  refine s_iconst dX11_openMaker_6 (by decide +kernel) ?_
  refine zp7_1 hZ.1 dX11_openMaker_7 zw953 ?_
  refine rx_by (e_ldR _ _) (s_aload_n hZ.1 dX11_openMaker_10 rfl ?_)
  exact s_aret hZ.1 rfl (Or.inl ⟨_, rfl⟩) dX11_openMaker_11
noncomputable def fX11_openMaker : List Nat → rx_H → Option (Nat × rx_H) := rx_ent 1 bX11_openMaker_0
theorem met_X11_openMaker (hZ : zO b e D A X) : rx_Met (zV b e D A X) 0 yX11_openMaker mX11_openMaker fX11_openMaker := rx_entry hZ.1 (kX11_openMaker_0 hZ) (by decide +kernel) rfl (fun h => by cases h)
theorem zy_X11_openMaker : rx_Y (zV b e D A X) yX11_openMaker mX11_openMaker 1 := ⟨zw1242, zw423, by decide, by decide +kernel, by decide +kernel, by decide +kernel⟩
noncomputable def bX10_add_32 : rx_K := o_ret0
set_option maxRecDepth 20000 in
theorem kX10_add_32 (hZ : zO b e D A X) : rx_OK (zV b e D A X) mX10_add 0 32 bX10_add_32 := by
  unfold bX10_add_32
  exact s_vret rfl dX10_add_32
noncomputable def bX10_add_12 : rx_K := q_ld q_isR 0 (q_getf 10 14 (q_ld q_isR 0 (q_getf 10 15 (q_ld q_isR 1 (p_aast 5 7 (q_ld q_isR 0 (q_dup (q_getf 10 15 (o_const 8 (q_bi q_Fadd (p_putf q_isI 10 15 (bX10_add_32))))))))))))
set_option maxRecDepth 20000 in
theorem kX10_add_12 (hZ : zO b e D A X) : rx_OK (zV b e D A X) mX10_add 0 12 bX10_add_12 := by
  unfold bX10_add_12
  refine rx_by (e_ldR _ _) (s_aload_n hZ.1 dX10_add_12 rfl ?_)
  refine zg10_14 dX10_add_13 zw858 ?_
  refine rx_by (e_ldR _ _) (s_aload_n hZ.1 dX10_add_16 rfl ?_)
  refine zg10_15 dX10_add_17 zw866 ?_
  refine rx_by (e_ldR _ _) (s_aload_n hZ.1 dX10_add_20 rfl ?_)
  refine rx_by2 (l_aast _ _ _) (s_aast (tt := 5) rfl zaa7 dX10_add_21 ?_)
  refine rx_by (e_ldR _ _) (s_aload_n hZ.1 dX10_add_22 rfl ?_)
  refine rx_by (e_dup _) (s_dup hZ.1 dX10_add_23 ?_)
  refine zg10_15 dX10_add_24 zw866 ?_
  refine s_iconst dX10_add_27 (by decide +kernel) ?_
  refine rx_by (e_add _) (s_iadd dX10_add_28 ?_)
  refine zp10_15 hZ.1 dX10_add_29 zw866 ?_
  exact (kX10_add_32 hZ)
noncomputable def bX10_add_0 : rx_K := q_ld q_isR 0 (q_getf 10 15 (q_ld q_isR 0 (q_getf 10 14 (o_alen 5 (q_lt2 bX10_add_12 bX10_add_32)))))
set_option maxRecDepth 20000 in
theorem kX10_add_0 (hZ : zO b e D A X) : rx_OK (zV b e D A X) mX10_add 0 0 bX10_add_0 := by
  unfold bX10_add_0
  refine rx_by (e_ldR _ _) (s_aload_n hZ.1 dX10_add_0 rfl ?_)
  refine zg10_15 dX10_add_1 zw866 ?_
  refine rx_by (e_ldR _ _) (s_aload_n hZ.1 dX10_add_4 rfl ?_)
  refine zg10_14 dX10_add_5 zw858 ?_
  refine s_alen (tt := 5) rfl dX10_add_8 ?_
  exact rx_by (e_lt2 _ _) (s_icmp_ge dX10_add_9 (by decide) (kX10_add_32 hZ) (kX10_add_12 hZ))
noncomputable def fX10_add : List Nat → rx_H → Option (Nat × rx_H) := rx_ent 2 bX10_add_0
theorem met_X10_add (hZ : zO b e D A X) : rx_Met (zV b e D A X) 0 yX10_add mX10_add fX10_add := rx_entry hZ.1 (kX10_add_0 hZ) (by decide +kernel) rfl (fun h => by cases h)
theorem zy_X10_add : rx_Y (zV b e D A X) yX10_add mX10_add 1 := ⟨zw1246, zw425, by decide, by decide +kernel, by decide +kernel, by decide +kernel⟩
end ZQ0

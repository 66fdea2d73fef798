section ZM25
variable {b : Nat} {e : Nat → Value} {D : va_G} {A : Nat → ClassId} {X : State → Prop}
noncomputable def vX9_ofClass_104 (g : Nat → List Nat → rx_H → Option (Nat × rx_H)) : rx_K := o_ld rx_isR 1 (o_ret1 rx_isR)
set_option maxRecDepth 20000 in
theorem wX9_ofClass_104 {dn : Nat} {g : Nat → List Nat → rx_H → Option (Nat × rx_H)} (hZ : zO b e D A X) (hg : ∀ i y M, vl6[i]? = some (y, M) → rx_Met (zV b e D A X) dn y M (g i)) (hd : 2 ≤ dn) : rx_OK (zV b e D A X) mX9_ofClass (dn + 1) 104 (vX9_ofClass_104 g) := by
  unfold vX9_ofClass_104
  refine s_aload_n hZ.1 dX9_ofClass_104 rfl ?_
  exact s_aret hZ.1 rfl (Or.inl ⟨_, rfl⟩) dX9_ofClass_105
noncomputable def vX9_ofClass_103 (g : Nat → List Nat → rx_H → Option (Nat × rx_H)) : rx_K := o_ret1 rx_isR
set_option maxRecDepth 20000 in
theorem wX9_ofClass_103 {dn : Nat} {g : Nat → List Nat → rx_H → Option (Nat × rx_H)} (hZ : zO b e D A X) (hg : ∀ i y M, vl6[i]? = some (y, M) → rx_Met (zV b e D A X) dn y M (g i)) (hd : 2 ≤ dn) : rx_OK (zV b e D A X) mX9_ofClass (dn + 1) 103 (vX9_ofClass_103 g) := by
  unfold vX9_ofClass_103
  exact s_aret hZ.1 rfl (Or.inl ⟨_, rfl⟩) dX9_ofClass_103
noncomputable def vX9_ofClass_102 (g : Nat → List Nat → rx_H → Option (Nat × rx_H)) : rx_K := o_const 3 ((vX9_ofClass_103 g))
set_option maxRecDepth 20000 in
theorem wX9_ofClass_102 {dn : Nat} {g : Nat → List Nat → rx_H → Option (Nat × rx_H)} (hZ : zO b e D A X) (hg : ∀ i y M, vl6[i]? = some (y, M) → rx_Met (zV b e D A X) dn y M (g i)) (hd : 2 ≤ dn) : rx_OK (zV b e D A X) mX9_ofClass (dn + 1) 102 (vX9_ofClass_102 g) := by
  unfold vX9_ofClass_102
  refine s_null dX9_ofClass_102 ?_
  exact (wX9_ofClass_103 hZ hg hd)
noncomputable def vX9_ofClass_98 (g : Nat → List Nat → rx_H → Option (Nat × rx_H)) : rx_K := o_ld rx_isR 1 ((vX9_ofClass_103 g))
set_option maxRecDepth 20000 in
theorem wX9_ofClass_98 {dn : Nat} {g : Nat → List Nat → rx_H → Option (Nat × rx_H)} (hZ : zO b e D A X) (hg : ∀ i y M, vl6[i]? = some (y, M) → rx_Met (zV b e D A X) dn y M (g i)) (hd : 2 ≤ dn) : rx_OK (zV b e D A X) mX9_ofClass (dn + 1) 98 (vX9_ofClass_98 g) := by
  unfold vX9_ofClass_98
  refine s_aload_n hZ.1 dX9_ofClass_98 rfl ?_
  exact s_goto dX9_ofClass_99 (by decide) (wX9_ofClass_103 hZ hg hd)
noncomputable def vX9_ofClass_83 (g : Nat → List Nat → rx_H → Option (Nat × rx_H)) : rx_K := o_ld rx_isR 1 (o_const 56 (o_putf rx_isI 8 0 (o_ld rx_isR 0 (o_ld rx_isR 1 (o_ld rx_isI 2 (o_callV 2 9 (g 0) (o_c1 rx_eq (vX9_ofClass_102 g) (vX9_ofClass_98 g))))))))
set_option maxRecDepth 20000 in
theorem wX9_ofClass_83 {dn : Nat} {g : Nat → List Nat → rx_H → Option (Nat × rx_H)} (hZ : zO b e D A X) (hg : ∀ i y M, vl6[i]? = some (y, M) → rx_Met (zV b e D A X) dn y M (g i)) (hd : 2 ≤ dn) : rx_OK (zV b e D A X) mX9_ofClass (dn + 1) 83 (vX9_ofClass_83 g) := by
  unfold vX9_ofClass_83
  refine s_aload_n hZ.1 dX9_ofClass_83 rfl ?_
  refine s_bipush dX9_ofClass_84 (by decide +kernel) ?_
  refine yp8_0 hZ.1 dX9_ofClass_86 zw460 ?_
  refine s_aload_n hZ.1 dX9_ofClass_89 rfl ?_
  refine s_aload_n hZ.1 dX9_ofClass_90 rfl ?_
  refine s_iload_n hZ.1 dX9_ofClass_91 rfl ?_
  refine s_callV hZ.1 (hg 0 _ _ rfl) (Nat.le_refl _) vy_X9_args zcl9 zw1831 zw28 (Or.inl zw1829) dX9_ofClass_92 ?_
  exact s_if_eq dX9_ofClass_95 (by decide) (wX9_ofClass_102 hZ hg hd) (wX9_ofClass_98 hZ hg hd)
noncomputable def vX9_ofClass_73 (g : Nat → List Nat → rx_H → Option (Nat × rx_H)) : rx_K := o_ld rx_isR 0 (o_callV 0 9 FX9_now (o_const 1120 (o_c2 rx_eq (vX9_ofClass_83 g) (vX9_ofClass_104 g))))
set_option maxRecDepth 20000 in
theorem wX9_ofClass_73 {dn : Nat} {g : Nat → List Nat → rx_H → Option (Nat × rx_H)} (hZ : zO b e D A X) (hg : ∀ i y M, vl6[i]? = some (y, M) → rx_Met (zV b e D A X) dn y M (g i)) (hd : 2 ≤ dn) : rx_OK (zV b e D A X) mX9_ofClass (dn + 1) 73 (vX9_ofClass_73 g) := by
  unfold vX9_ofClass_73
  refine s_aload_n hZ.1 dX9_ofClass_73 rfl ?_
  refine s_callV hZ.1 (Met_X9_now hZ) (Nat.succ_le_succ (Nat.le_trans (Nat.le_of_ble_eq_true rfl) hd)) vy_X9_now zcl9 zw1746 zw12 (Or.inl zw1744) dX9_ofClass_74 ?_
  refine s_sipush dX9_ofClass_77 (by decide +kernel) ?_
  exact s_icmp_ne dX9_ofClass_80 (by decide) (wX9_ofClass_104 hZ hg hd) (wX9_ofClass_83 hZ hg hd)
noncomputable def vX9_ofClass_71 (g : Nat → List Nat → rx_H → Option (Nat × rx_H)) : rx_K := o_const 3 (o_ret1 rx_isR)
set_option maxRecDepth 20000 in
theorem wX9_ofClass_71 {dn : Nat} {g : Nat → List Nat → rx_H → Option (Nat × rx_H)} (hZ : zO b e D A X) (hg : ∀ i y M, vl6[i]? = some (y, M) → rx_Met (zV b e D A X) dn y M (g i)) (hd : 2 ≤ dn) : rx_OK (zV b e D A X) mX9_ofClass (dn + 1) 71 (vX9_ofClass_71 g) := by
  unfold vX9_ofClass_71
  refine s_null dX9_ofClass_71 ?_
  exact s_aret hZ.1 rfl (Or.inl ⟨_, rfl⟩) dX9_ofClass_72
noncomputable def vX9_ofClass_55 (g : Nat → List Nat → rx_H → Option (Nat × rx_H)) : rx_K := o_ld rx_isR 1 (o_ld rx_isR 0 (o_getf 9 8 (o_putf rx_isI 8 2 (o_ld rx_isR 0 (o_const 24 (o_callV 1 9 FX9_need (o_c1 rx_eq (vX9_ofClass_71 g) (vX9_ofClass_73 g))))))))
set_option maxRecDepth 20000 in
theorem wX9_ofClass_55 {dn : Nat} {g : Nat → List Nat → rx_H → Option (Nat × rx_H)} (hZ : zO b e D A X) (hg : ∀ i y M, vl6[i]? = some (y, M) → rx_Met (zV b e D A X) dn y M (g i)) (hd : 2 ≤ dn) : rx_OK (zV b e D A X) mX9_ofClass (dn + 1) 55 (vX9_ofClass_55 g) := by
  unfold vX9_ofClass_55
  refine s_aload_n hZ.1 dX9_ofClass_55 rfl ?_
  refine s_aload_n hZ.1 dX9_ofClass_56 rfl ?_
  refine yg9_8 dX9_ofClass_57 zw592 ?_
  refine yp8_2 hZ.1 dX9_ofClass_60 zw466 ?_
  refine s_aload_n hZ.1 dX9_ofClass_63 rfl ?_
  refine s_iconst dX9_ofClass_64 (by decide +kernel) ?_
  refine s_callV hZ.1 (Met_X9_need hZ) (Nat.succ_le_succ (Nat.le_trans (Nat.le_of_ble_eq_true rfl) hd)) vy_X9_need zcl9 zw1779 zw19 (Or.inl zw1777) dX9_ofClass_65 ?_
  exact s_if_ne dX9_ofClass_68 (by decide) (wX9_ofClass_73 hZ hg hd) (wX9_ofClass_71 hZ hg hd)
noncomputable def vX9_ofClass_54 (g : Nat → List Nat → rx_H → Option (Nat × rx_H)) : rx_K := o_ret1 rx_isR
set_option maxRecDepth 20000 in
theorem wX9_ofClass_54 {dn : Nat} {g : Nat → List Nat → rx_H → Option (Nat × rx_H)} (hZ : zO b e D A X) (hg : ∀ i y M, vl6[i]? = some (y, M) → rx_Met (zV b e D A X) dn y M (g i)) (hd : 2 ≤ dn) : rx_OK (zV b e D A X) mX9_ofClass (dn + 1) 54 (vX9_ofClass_54 g) := by
  unfold vX9_ofClass_54
  exact s_aret hZ.1 rfl (Or.inl ⟨_, rfl⟩) dX9_ofClass_54
noncomputable def vX9_ofClass_53 (g : Nat → List Nat → rx_H → Option (Nat × rx_H)) : rx_K := o_const 3 ((vX9_ofClass_54 g))
set_option maxRecDepth 20000 in
theorem wX9_ofClass_53 {dn : Nat} {g : Nat → List Nat → rx_H → Option (Nat × rx_H)} (hZ : zO b e D A X) (hg : ∀ i y M, vl6[i]? = some (y, M) → rx_Met (zV b e D A X) dn y M (g i)) (hd : 2 ≤ dn) : rx_OK (zV b e D A X) mX9_ofClass (dn + 1) 53 (vX9_ofClass_53 g) := by
  unfold vX9_ofClass_53
  refine s_null dX9_ofClass_53 ?_
  exact (wX9_ofClass_54 hZ hg hd)
noncomputable def vX9_ofClass_49 (g : Nat → List Nat → rx_H → Option (Nat × rx_H)) : rx_K := o_ld rx_isR 1 ((vX9_ofClass_54 g))
set_option maxRecDepth 20000 in
theorem wX9_ofClass_49 {dn : Nat} {g : Nat → List Nat → rx_H → Option (Nat × rx_H)} (hZ : zO b e D A X) (hg : ∀ i y M, vl6[i]? = some (y, M) → rx_Met (zV b e D A X) dn y M (g i)) (hd : 2 ≤ dn) : rx_OK (zV b e D A X) mX9_ofClass (dn + 1) 49 (vX9_ofClass_49 g) := by
  unfold vX9_ofClass_49
  refine s_aload_n hZ.1 dX9_ofClass_49 rfl ?_
  exact s_goto dX9_ofClass_50 (by decide) (wX9_ofClass_54 hZ hg hd)
noncomputable def vX9_ofClass_40 (g : Nat → List Nat → rx_H → Option (Nat × rx_H)) : rx_K := o_ld rx_isR 0 (o_ld rx_isR 1 (o_ld rx_isI 2 (o_callV 2 9 (g 7) (o_c1 rx_eq (vX9_ofClass_53 g) (vX9_ofClass_49 g)))))
set_option maxRecDepth 20000 in
theorem wX9_ofClass_40 {dn : Nat} {g : Nat → List Nat → rx_H → Option (Nat × rx_H)} (hZ : zO b e D A X) (hg : ∀ i y M, vl6[i]? = some (y, M) → rx_Met (zV b e D A X) dn y M (g i)) (hd : 2 ≤ dn) : rx_OK (zV b e D A X) mX9_ofClass (dn + 1) 40 (vX9_ofClass_40 g) := by
  unfold vX9_ofClass_40
  refine s_aload_n hZ.1 dX9_ofClass_40 rfl ?_
  refine s_aload_n hZ.1 dX9_ofClass_41 rfl ?_
  refine s_iload_n hZ.1 dX9_ofClass_42 rfl ?_
  refine s_callV hZ.1 (hg 7 _ _ rfl) (Nat.le_refl _) vy_X9_superCall zcl9 zw1855 zw34 (Or.inl zw1853) dX9_ofClass_43 ?_
  exact s_if_eq dX9_ofClass_46 (by decide) (wX9_ofClass_53 hZ hg hd) (wX9_ofClass_49 hZ hg hd)
noncomputable def vX9_ofClass_27 (g : Nat → List Nat → rx_H → Option (Nat × rx_H)) : rx_K := o_ld rx_isR 1 (o_const 64 (o_putf rx_isI 8 0 (o_ld rx_isR 0 (o_callV 0 9 FX9_take (o_c1 rx_eq (vX9_ofClass_53 g) (vX9_ofClass_40 g))))))
set_option maxRecDepth 20000 in
theorem wX9_ofClass_27 {dn : Nat} {g : Nat → List Nat → rx_H → Option (Nat × rx_H)} (hZ : zO b e D A X) (hg : ∀ i y M, vl6[i]? = some (y, M) → rx_Met (zV b e D A X) dn y M (g i)) (hd : 2 ≤ dn) : rx_OK (zV b e D A X) mX9_ofClass (dn + 1) 27 (vX9_ofClass_27 g) := by
  unfold vX9_ofClass_27
  refine s_aload_n hZ.1 dX9_ofClass_27 rfl ?_
  refine s_bipush dX9_ofClass_28 (by decide +kernel) ?_
  refine yp8_0 hZ.1 dX9_ofClass_30 zw460 ?_
  refine s_aload_n hZ.1 dX9_ofClass_33 rfl ?_
  refine s_callV hZ.1 (Met_X9_take hZ) (Nat.succ_le_succ (Nat.le_trans (Nat.le_of_ble_eq_true rfl) hd)) vy_X9_take zcl9 zw1754 zw14 (Or.inl zw1752) dX9_ofClass_34 ?_
  exact s_if_eq dX9_ofClass_37 (by decide) (wX9_ofClass_53 hZ hg hd) (wX9_ofClass_40 hZ hg hd)
noncomputable def vX9_ofClass_18 (g : Nat → List Nat → rx_H → Option (Nat × rx_H)) : rx_K := o_ld rx_isR 0 (o_callV 0 9 FX9_now (o_const 304 (o_c2 rx_eq (vX9_ofClass_27 g) (vX9_ofClass_55 g))))
set_option maxRecDepth 20000 in
theorem wX9_ofClass_18 {dn : Nat} {g : Nat → List Nat → rx_H → Option (Nat × rx_H)} (hZ : zO b e D A X) (hg : ∀ i y M, vl6[i]? = some (y, M) → rx_Met (zV b e D A X) dn y M (g i)) (hd : 2 ≤ dn) : rx_OK (zV b e D A X) mX9_ofClass (dn + 1) 18 (vX9_ofClass_18 g) := by
  unfold vX9_ofClass_18
  refine s_aload_n hZ.1 dX9_ofClass_18 rfl ?_
  refine s_callV hZ.1 (Met_X9_now hZ) (Nat.succ_le_succ (Nat.le_trans (Nat.le_of_ble_eq_true rfl) hd)) vy_X9_now zcl9 zw1746 zw12 (Or.inl zw1744) dX9_ofClass_19 ?_
  refine s_bipush dX9_ofClass_22 (by decide +kernel) ?_
  exact s_icmp_ne dX9_ofClass_24 (by decide) (wX9_ofClass_55 hZ hg hd) (wX9_ofClass_27 hZ hg hd)
noncomputable def vX9_ofClass_16 (g : Nat → List Nat → rx_H → Option (Nat × rx_H)) : rx_K := o_const 3 (o_ret1 rx_isR)
set_option maxRecDepth 20000 in
theorem wX9_ofClass_16 {dn : Nat} {g : Nat → List Nat → rx_H → Option (Nat × rx_H)} (hZ : zO b e D A X) (hg : ∀ i y M, vl6[i]? = some (y, M) → rx_Met (zV b e D A X) dn y M (g i)) (hd : 2 ≤ dn) : rx_OK (zV b e D A X) mX9_ofClass (dn + 1) 16 (vX9_ofClass_16 g) := by
  unfold vX9_ofClass_16
  refine s_null dX9_ofClass_16 ?_
  exact s_aret hZ.1 rfl (Or.inl ⟨_, rfl⟩) dX9_ofClass_17
noncomputable def vX9_ofClass_0 (g : Nat → List Nat → rx_H → Option (Nat × rx_H)) : rx_K := o_ld rx_isR 1 (o_const 48 (o_putf rx_isI 8 0 (o_ld rx_isR 0 (o_const 1168 (o_callV 1 9 FX9_need (o_c1 rx_eq (vX9_ofClass_16 g) (vX9_ofClass_18 g)))))))
set_option maxRecDepth 20000 in
theorem wX9_ofClass_0 {dn : Nat} {g : Nat → List Nat → rx_H → Option (Nat × rx_H)} (hZ : zO b e D A X) (hg : ∀ i y M, vl6[i]? = some (y, M) → rx_Met (zV b e D A X) dn y M (g i)) (hd : 2 ≤ dn) : rx_OK (zV b e D A X) mX9_ofClass (dn + 1) 0 (vX9_ofClass_0 g) := by
  unfold vX9_ofClass_0
  refine s_aload_n hZ.1 dX9_ofClass_0 rfl ?_
  refine s_bipush dX9_ofClass_1 (by decide +kernel) ?_
  refine yp8_0 hZ.1 dX9_ofClass_3 zw460 ?_
  refine s_aload_n hZ.1 dX9_ofClass_6 rfl ?_
  refine s_sipush dX9_ofClass_7 (by decide +kernel) ?_
  refine s_callV hZ.1 (Met_X9_need hZ) (Nat.succ_le_succ (Nat.le_trans (Nat.le_of_ble_eq_true rfl) hd)) vy_X9_need zcl9 zw1779 zw19 (Or.inl zw1777) dX9_ofClass_10 ?_
  exact s_if_ne dX9_ofClass_13 (by decide) (wX9_ofClass_18 hZ hg hd) (wX9_ofClass_16 hZ hg hd)
noncomputable def FX9_ofClass (g : Nat → List Nat → rx_H → Option (Nat × rx_H)) : List Nat → rx_H → Option (Nat × rx_H) := rx_ent 3 (vX9_ofClass_0 g)
theorem Met_X9_ofClass {dn : Nat} {g : Nat → List Nat → rx_H → Option (Nat × rx_H)} (hZ : zO b e D A X) (hg : ∀ i y M, vl6[i]? = some (y, M) → rx_Met (zV b e D A X) dn y M (g i)) (hd : 2 ≤ dn) : rx_Met (zV b e D A X) (dn + 1) yX9_ofClass mX9_ofClass (FX9_ofClass g) := rx_entry hZ.1 (wX9_ofClass_0 hZ hg hd) (by decide +kernel) rfl (fun h => by cases h)
noncomputable def vX9_round_153 (g : Nat → List Nat → rx_H → Option (Nat × rx_H)) : rx_K := o_ret1 rx_isR
set_option maxRecDepth 20000 in
theorem wX9_round_153 {dn : Nat} {g : Nat → List Nat → rx_H → Option (Nat × rx_H)} (hZ : zO b e D A X) (hg : ∀ i y M, vl6[i]? = some (y, M) → rx_Met (zV b e D A X) dn y M (g i)) (hd : 2 ≤ dn) : rx_OK (zV b e D A X) mX9_round (dn + 1) 153 (vX9_round_153 g) := by
  unfold vX9_round_153
  exact s_aret hZ.1 rfl (Or.inl ⟨_, rfl⟩) dX9_round_153
noncomputable def vX9_round_152 (g : Nat → List Nat → rx_H → Option (Nat × rx_H)) : rx_K := o_const 3 ((vX9_round_153 g))
set_option maxRecDepth 20000 in
theorem wX9_round_152 {dn : Nat} {g : Nat → List Nat → rx_H → Option (Nat × rx_H)} (hZ : zO b e D A X) (hg : ∀ i y M, vl6[i]? = some (y, M) → rx_Met (zV b e D A X) dn y M (g i)) (hd : 2 ≤ dn) : rx_OK (zV b e D A X) mX9_round (dn + 1) 152 (vX9_round_152 g) := by
  unfold vX9_round_152
  refine s_null dX9_round_152 ?_
  exact (wX9_round_153 hZ hg hd)
noncomputable def vX9_round_148 (g : Nat → List Nat → rx_H → Option (Nat × rx_H)) : rx_K := o_ld rx_isR 1 ((vX9_round_153 g))
set_option maxRecDepth 20000 in
theorem wX9_round_148 {dn : Nat} {g : Nat → List Nat → rx_H → Option (Nat × rx_H)} (hZ : zO b e D A X) (hg : ∀ i y M, vl6[i]? = some (y, M) → rx_Met (zV b e D A X) dn y M (g i)) (hd : 2 ≤ dn) : rx_OK (zV b e D A X) mX9_round (dn + 1) 148 (vX9_round_148 g) := by
  unfold vX9_round_148
  refine s_aload_n hZ.1 dX9_round_148 rfl ?_
  exact s_goto dX9_round_149 (by decide) (wX9_round_153 hZ hg hd)
noncomputable def vX9_round_138 (g : Nat → List Nat → rx_H → Option (Nat × rx_H)) : rx_K := o_ld rx_isR 0 (o_const 1128 (o_callV 1 9 FX9_need (o_c1 rx_eq (vX9_round_152 g) (vX9_round_148 g))))
set_option maxRecDepth 20000 in
theorem wX9_round_138 {dn : Nat} {g : Nat → List Nat → rx_H → Option (Nat × rx_H)} (hZ : zO b e D A X) (hg : ∀ i y M, vl6[i]? = some (y, M) → rx_Met (zV b e D A X) dn y M (g i)) (hd : 2 ≤ dn) : rx_OK (zV b e D A X) mX9_round (dn + 1) 138 (vX9_round_138 g) := by
  unfold vX9_round_138
  refine s_aload_n hZ.1 dX9_round_138 rfl ?_
  refine s_sipush dX9_round_139 (by decide +kernel) ?_
  refine s_callV hZ.1 (Met_X9_need hZ) (Nat.succ_le_succ (Nat.le_trans (Nat.le_of_ble_eq_true rfl) hd)) vy_X9_need zcl9 zw1779 zw19 (Or.inl zw1777) dX9_round_142 ?_
  exact s_if_eq dX9_round_145 (by decide) (wX9_round_152 hZ hg hd) (wX9_round_148 hZ hg hd)
noncomputable def vX9_round_116 (g : Nat → List Nat → rx_H → Option (Nat × rx_H)) : rx_K := o_ld rx_isR 1 (o_const 96 (o_putf rx_isI 8 0 (o_ld rx_isR 1 (o_ld rx_isR 0 (o_ld rx_isI 2 (o_callV 1 9 (g 3) (o_putf rx_isR 8 5 (o_ld rx_isR 1 (o_getf 8 5 (o_nul (vX9_round_152 g) (vX9_round_138 g)))))))))))
set_option maxRecDepth 20000 in
theorem wX9_round_116 {dn : Nat} {g : Nat → List Nat → rx_H → Option (Nat × rx_H)} (hZ : zO b e D A X) (hg : ∀ i y M, vl6[i]? = some (y, M) → rx_Met (zV b e D A X) dn y M (g i)) (hd : 2 ≤ dn) : rx_OK (zV b e D A X) mX9_round (dn + 1) 116 (vX9_round_116 g) := by
  unfold vX9_round_116
  refine s_aload_n hZ.1 dX9_round_116 rfl ?_
  refine s_bipush dX9_round_117 (by decide +kernel) ?_
  refine yp8_0 hZ.1 dX9_round_119 zw460 ?_
  refine s_aload_n hZ.1 dX9_round_122 rfl ?_
  refine s_aload_n hZ.1 dX9_round_123 rfl ?_
  refine s_iload_n hZ.1 dX9_round_124 rfl ?_
  refine s_callV hZ.1 (hg 3 _ _ rfl) (Nat.le_refl _) vy_X9_expr zcl9 zw1835 zw29 (Or.inl zw1833) dX9_round_125 ?_
  refine yp8_5 hZ.1 dX9_round_128 zw477 ?_
  refine s_aload_n hZ.1 dX9_round_131 rfl ?_
  refine yg8_5 dX9_round_132 zw477 ?_
  exact s_ifnull dX9_round_135 (by decide) (wX9_round_152 hZ hg hd) (wX9_round_138 hZ hg hd)
noncomputable def vX9_round_115 (g : Nat → List Nat → rx_H → Option (Nat × rx_H)) : rx_K := o_ret1 rx_isR
set_option maxRecDepth 20000 in
theorem wX9_round_115 {dn : Nat} {g : Nat → List Nat → rx_H → Option (Nat × rx_H)} (hZ : zO b e D A X) (hg : ∀ i y M, vl6[i]? = some (y, M) → rx_Met (zV b e D A X) dn y M (g i)) (hd : 2 ≤ dn) : rx_OK (zV b e D A X) mX9_round (dn + 1) 115 (vX9_round_115 g) := by
  unfold vX9_round_115
  exact s_aret hZ.1 rfl (Or.inl ⟨_, rfl⟩) dX9_round_115
noncomputable def vX9_round_114 (g : Nat → List Nat → rx_H → Option (Nat × rx_H)) : rx_K := o_ld rx_isR 1 ((vX9_round_115 g))
set_option maxRecDepth 20000 in
theorem wX9_round_114 {dn : Nat} {g : Nat → List Nat → rx_H → Option (Nat × rx_H)} (hZ : zO b e D A X) (hg : ∀ i y M, vl6[i]? = some (y, M) → rx_Met (zV b e D A X) dn y M (g i)) (hd : 2 ≤ dn) : rx_OK (zV b e D A X) mX9_round (dn + 1) 114 (vX9_round_114 g) := by
  unfold vX9_round_114
  refine s_aload_n hZ.1 dX9_round_114 rfl ?_
  exact (wX9_round_115 hZ hg hd)
noncomputable def vX9_round_110 (g : Nat → List Nat → rx_H → Option (Nat × rx_H)) : rx_K := o_const 3 ((vX9_round_115 g))
set_option maxRecDepth 20000 in
theorem wX9_round_110 {dn : Nat} {g : Nat → List Nat → rx_H → Option (Nat × rx_H)} (hZ : zO b e D A X) (hg : ∀ i y M, vl6[i]? = some (y, M) → rx_Met (zV b e D A X) dn y M (g i)) (hd : 2 ≤ dn) : rx_OK (zV b e D A X) mX9_round (dn + 1) 110 (vX9_round_110 g) := by
  unfold vX9_round_110
  refine s_null dX9_round_110 ?_
  exact s_goto dX9_round_111 (by decide) (wX9_round_115 hZ hg hd)
noncomputable def vX9_round_92 (g : Nat → List Nat → rx_H → Option (Nat × rx_H)) : rx_K := o_ld rx_isR 1 (o_ld rx_isR 0 (o_ld rx_isI 2 (o_const 8 (o_bi (fun x y => x + y) (o_callV 1 9 (g 8) (o_putf rx_isR 8 5 (o_ld rx_isR 1 (o_getf 8 5 (o_nul (vX9_round_110 g) (vX9_round_114 g))))))))))
set_option maxRecDepth 20000 in
theorem wX9_round_92 {dn : Nat} {g : Nat → List Nat → rx_H → Option (Nat × rx_H)} (hZ : zO b e D A X) (hg : ∀ i y M, vl6[i]? = some (y, M) → rx_Met (zV b e D A X) dn y M (g i)) (hd : 2 ≤ dn) : rx_OK (zV b e D A X) mX9_round (dn + 1) 92 (vX9_round_92 g) := by
  unfold vX9_round_92
  refine s_aload_n hZ.1 dX9_round_92 rfl ?_
  refine s_aload_n hZ.1 dX9_round_93 rfl ?_
  refine s_iload_n hZ.1 dX9_round_94 rfl ?_
  refine s_iconst dX9_round_95 (by decide +kernel) ?_
  refine s_iadd dX9_round_96 ?_
  refine s_callV hZ.1 (hg 8 _ _ rfl) (Nat.le_refl _) vy_X9_unit zcl9 zw1843 zw31 (Or.inl zw1841) dX9_round_97 ?_
  refine yp8_5 hZ.1 dX9_round_100 zw477 ?_
  refine s_aload_n hZ.1 dX9_round_103 rfl ?_
  refine yg8_5 dX9_round_104 zw477 ?_
  exact s_ifnonnull dX9_round_107 (by decide) (wX9_round_114 hZ hg hd) (wX9_round_110 hZ hg hd)
noncomputable def vX9_round_84 (g : Nat → List Nat → rx_H → Option (Nat × rx_H)) : rx_K := o_ld rx_isR 0 (o_const 24 (o_callV 1 9 FX9_stop (o_pop (o_const 3 (o_ret1 rx_isR)))))
set_option maxRecDepth 20000 in
theorem wX9_round_84 {dn : Nat} {g : Nat → List Nat → rx_H → Option (Nat × rx_H)} (hZ : zO b e D A X) (hg : ∀ i y M, vl6[i]? = some (y, M) → rx_Met (zV b e D A X) dn y M (g i)) (hd : 2 ≤ dn) : rx_OK (zV b e D A X) mX9_round (dn + 1) 84 (vX9_round_84 g) := by
  unfold vX9_round_84
  refine s_aload_n hZ.1 dX9_round_84 rfl ?_
  refine s_iconst dX9_round_85 (by decide +kernel) ?_
  refine s_callV hZ.1 (Met_X9_stop hZ) (Nat.succ_le_succ (Nat.le_trans (Nat.le_of_ble_eq_true rfl) hd)) vy_X9_stop zcl9 zw1758 zw15 (Or.inl zw1756) dX9_round_86 ?_
  refine s_pop hZ.1 dX9_round_89 ?_
  refine s_null dX9_round_90 ?_
  exact s_aret hZ.1 rfl (Or.inl ⟨_, rfl⟩) dX9_round_91
noncomputable def vX9_round_78 (g : Nat → List Nat → rx_H → Option (Nat × rx_H)) : rx_K := o_ld rx_isI 2 (o_const 96 (o_c2 rx_lt (vX9_round_92 g) (vX9_round_84 g)))
set_option maxRecDepth 20000 in
theorem wX9_round_78 {dn : Nat} {g : Nat → List Nat → rx_H → Option (Nat × rx_H)} (hZ : zO b e D A X) (hg : ∀ i y M, vl6[i]? = some (y, M) → rx_Met (zV b e D A X) dn y M (g i)) (hd : 2 ≤ dn) : rx_OK (zV b e D A X) mX9_round (dn + 1) 78 (vX9_round_78 g) := by
  unfold vX9_round_78
  refine s_iload_n hZ.1 dX9_round_78 rfl ?_
  refine s_bipush dX9_round_79 (by decide +kernel) ?_
  exact s_icmp_lt dX9_round_81 (by decide) (wX9_round_92 hZ hg hd) (wX9_round_84 hZ hg hd)
noncomputable def vX9_round_71 (g : Nat → List Nat → rx_H → Option (Nat × rx_H)) : rx_K := o_ld rx_isR 0 (o_callV 0 9 FX9_miss (o_pop (o_const 3 (o_ret1 rx_isR))))
set_option maxRecDepth 20000 in
theorem wX9_round_71 {dn : Nat} {g : Nat → List Nat → rx_H → Option (Nat × rx_H)} (hZ : zO b e D A X) (hg : ∀ i y M, vl6[i]? = some (y, M) → rx_Met (zV b e D A X) dn y M (g i)) (hd : 2 ≤ dn) : rx_OK (zV b e D A X) mX9_round (dn + 1) 71 (vX9_round_71 g) := by
  unfold vX9_round_71
  refine s_aload_n hZ.1 dX9_round_71 rfl ?_
  refine s_callV hZ.1 (Met_X9_miss hZ) (Nat.succ_le_succ (Nat.le_trans (Nat.le_of_ble_eq_true rfl) hd)) vy_X9_miss zcl9 zw1762 zw16 (Or.inl zw1760) dX9_round_72 ?_
  refine s_pop hZ.1 dX9_round_75 ?_
  refine s_null dX9_round_76 ?_
  exact s_aret hZ.1 rfl (Or.inl ⟨_, rfl⟩) dX9_round_77
noncomputable def vX9_round_61 (g : Nat → List Nat → rx_H → Option (Nat × rx_H)) : rx_K := o_ld rx_isR 0 (o_callV 0 9 FX9_now (o_callS 1 FX9_beginsE (o_c1 rx_eq (vX9_round_71 g) (vX9_round_78 g))))
set_option maxRecDepth 20000 in
theorem wX9_round_61 {dn : Nat} {g : Nat → List Nat → rx_H → Option (Nat × rx_H)} (hZ : zO b e D A X) (hg : ∀ i y M, vl6[i]? = some (y, M) → rx_Met (zV b e D A X) dn y M (g i)) (hd : 2 ≤ dn) : rx_OK (zV b e D A X) mX9_round (dn + 1) 61 (vX9_round_61 g) := by
  unfold vX9_round_61
  refine s_aload_n hZ.1 dX9_round_61 rfl ?_
  refine s_callV hZ.1 (Met_X9_now hZ) (Nat.succ_le_succ (Nat.le_trans (Nat.le_of_ble_eq_true rfl) hd)) vy_X9_now zcl9 zw1746 zw12 (Or.inl zw1744) dX9_round_62 ?_
  refine s_callS hZ.1 (Met_X9_beginsE hZ) (Nat.succ_le_succ (Nat.le_trans (Nat.le_of_ble_eq_true rfl) hd)) vy_X9_beginsE zw1823 (Or.inl zw1822) dX9_round_65 ?_
  exact s_if_ne dX9_round_68 (by decide) (wX9_round_78 hZ hg hd) (wX9_round_71 hZ hg hd)
noncomputable def vX9_round_59 (g : Nat → List Nat → rx_H → Option (Nat × rx_H)) : rx_K := o_const 3 (o_ret1 rx_isR)
set_option maxRecDepth 20000 in
theorem wX9_round_59 {dn : Nat} {g : Nat → List Nat → rx_H → Option (Nat × rx_H)} (hZ : zO b e D A X) (hg : ∀ i y M, vl6[i]? = some (y, M) → rx_Met (zV b e D A X) dn y M (g i)) (hd : 2 ≤ dn) : rx_OK (zV b e D A X) mX9_round (dn + 1) 59 (vX9_round_59 g) := by
  unfold vX9_round_59
  refine s_null dX9_round_59 ?_
  exact s_aret hZ.1 rfl (Or.inl ⟨_, rfl⟩) dX9_round_60
noncomputable def vX9_round_52 (g : Nat → List Nat → rx_H → Option (Nat × rx_H)) : rx_K := o_ld rx_isR 0 (o_callV 0 9 FX9_take (o_c1 rx_eq (vX9_round_59 g) (vX9_round_61 g)))
set_option maxRecDepth 20000 in
theorem wX9_round_52 {dn : Nat} {g : Nat → List Nat → rx_H → Option (Nat × rx_H)} (hZ : zO b e D A X) (hg : ∀ i y M, vl6[i]? = some (y, M) → rx_Met (zV b e D A X) dn y M (g i)) (hd : 2 ≤ dn) : rx_OK (zV b e D A X) mX9_round (dn + 1) 52 (vX9_round_52 g) := by
  unfold vX9_round_52
  refine s_aload_n hZ.1 dX9_round_52 rfl ?_
  refine s_callV hZ.1 (Met_X9_take hZ) (Nat.succ_le_succ (Nat.le_trans (Nat.le_of_ble_eq_true rfl) hd)) vy_X9_take zcl9 zw1754 zw14 (Or.inl zw1752) dX9_round_53 ?_
  exact s_if_ne dX9_round_56 (by decide) (wX9_round_61 hZ hg hd) (wX9_round_59 hZ hg hd)
noncomputable def vX9_round_18 (g : Nat → List Nat → rx_H → Option (Nat × rx_H)) : rx_K := o_ld rx_isR 1 (o_const 88 (o_putf rx_isI 8 0 (o_ld rx_isR 1 (o_ld rx_isR 0 (o_getf 9 8 (o_putf rx_isI 8 2 (o_ld rx_isR 1 (o_ld rx_isR 0 (o_getf 9 4 (o_ld rx_isR 0 (o_getf 9 8 (o_ald 1 (o_putf rx_isL 8 10 (o_ld rx_isR 0 (o_callV 0 9 FX9_take (o_c1 rx_eq (vX9_round_59 g) (vX9_round_52 g)))))))))))))))))
set_option maxRecDepth 20000 in
theorem wX9_round_18 {dn : Nat} {g : Nat → List Nat → rx_H → Option (Nat × rx_H)} (hZ : zO b e D A X) (hg : ∀ i y M, vl6[i]? = some (y, M) → rx_Met (zV b e D A X) dn y M (g i)) (hd : 2 ≤ dn) : rx_OK (zV b e D A X) mX9_round (dn + 1) 18 (vX9_round_18 g) := by
  unfold vX9_round_18
  refine s_aload_n hZ.1 dX9_round_18 rfl ?_
  refine s_bipush dX9_round_19 (by decide +kernel) ?_
  refine yp8_0 hZ.1 dX9_round_21 zw460 ?_
  refine s_aload_n hZ.1 dX9_round_24 rfl ?_
  refine s_aload_n hZ.1 dX9_round_25 rfl ?_
  refine yg9_8 dX9_round_26 zw592 ?_
  refine yp8_2 hZ.1 dX9_round_29 zw466 ?_
  refine s_aload_n hZ.1 dX9_round_32 rfl ?_
  refine s_aload_n hZ.1 dX9_round_33 rfl ?_
  refine yg9_4 dX9_round_34 zw586 ?_
  refine s_aload_n hZ.1 dX9_round_37 rfl ?_
  refine yg9_8 dX9_round_38 zw592 ?_
  refine s_lald (tt := 1) rfl dX9_round_41 ?_
  refine yp8_10 hZ.1 dX9_round_42 zw497 ?_
  refine s_aload_n hZ.1 dX9_round_45 rfl ?_
  refine s_callV hZ.1 (Met_X9_take hZ) (Nat.succ_le_succ (Nat.le_trans (Nat.le_of_ble_eq_true rfl) hd)) vy_X9_take zcl9 zw1754 zw14 (Or.inl zw1752) dX9_round_46 ?_
  exact s_if_eq dX9_round_49 (by decide) (wX9_round_59 hZ hg hd) (wX9_round_52 hZ hg hd)
noncomputable def vX9_round_8 (g : Nat → List Nat → rx_H → Option (Nat × rx_H)) : rx_K := o_ld rx_isR 0 (o_callV 0 9 FX9_behind (o_const 1128 (o_c2 rx_eq (vX9_round_18 g) (vX9_round_116 g))))
set_option maxRecDepth 20000 in
theorem wX9_round_8 {dn : Nat} {g : Nat → List Nat → rx_H → Option (Nat × rx_H)} (hZ : zO b e D A X) (hg : ∀ i y M, vl6[i]? = some (y, M) → rx_Met (zV b e D A X) dn y M (g i)) (hd : 2 ≤ dn) : rx_OK (zV b e D A X) mX9_round (dn + 1) 8 (vX9_round_8 g) := by
  unfold vX9_round_8
  refine s_aload_n hZ.1 dX9_round_8 rfl ?_
  refine s_callV hZ.1 (Met_X9_behind hZ) (Nat.succ_le_succ (Nat.le_trans (Nat.le_of_ble_eq_true rfl) hd)) vy_X9_behind zcl9 zw1827 zw27 (Or.inl zw1825) dX9_round_9 ?_
  refine s_sipush dX9_round_12 (by decide +kernel) ?_
  exact s_icmp_ne dX9_round_15 (by decide) (wX9_round_116 hZ hg hd) (wX9_round_18 hZ hg hd)
noncomputable def vX9_round_0 (g : Nat → List Nat → rx_H → Option (Nat × rx_H)) : rx_K := o_ld rx_isR 0 (o_callV 0 9 FX9_now (o_const 16 (o_c2 rx_eq (vX9_round_8 g) (vX9_round_116 g))))
set_option maxRecDepth 20000 in
theorem wX9_round_0 {dn : Nat} {g : Nat → List Nat → rx_H → Option (Nat × rx_H)} (hZ : zO b e D A X) (hg : ∀ i y M, vl6[i]? = some (y, M) → rx_Met (zV b e D A X) dn y M (g i)) (hd : 2 ≤ dn) : rx_OK (zV b e D A X) mX9_round (dn + 1) 0 (vX9_round_0 g) := by
  unfold vX9_round_0
  refine s_aload_n hZ.1 dX9_round_0 rfl ?_
  refine s_callV hZ.1 (Met_X9_now hZ) (Nat.succ_le_succ (Nat.le_trans (Nat.le_of_ble_eq_true rfl) hd)) vy_X9_now zcl9 zw1746 zw12 (Or.inl zw1744) dX9_round_1 ?_
  refine s_iconst dX9_round_4 (by decide +kernel) ?_
  exact s_icmp_ne dX9_round_5 (by decide) (wX9_round_116 hZ hg hd) (wX9_round_8 hZ hg hd)
noncomputable def FX9_round (g : Nat → List Nat → rx_H → Option (Nat × rx_H)) : List Nat → rx_H → Option (Nat × rx_H) := rx_ent 3 (vX9_round_0 g)
theorem Met_X9_round {dn : Nat} {g : Nat → List Nat → rx_H → Option (Nat × rx_H)} (hZ : zO b e D A X) (hg : ∀ i y M, vl6[i]? = some (y, M) → rx_Met (zV b e D A X) dn y M (g i)) (hd : 2 ≤ dn) : rx_Met (zV b e D A X) (dn + 1) yX9_round mX9_round (FX9_round g) := rx_entry hZ.1 (wX9_round_0 hZ hg hd) (by decide +kernel) rfl (fun h => by cases h)
noncomputable def vX9_superCall_42 (g : Nat → List Nat → rx_H → Option (Nat × rx_H)) : rx_K := o_ret1 rx_isZ
set_option maxRecDepth 20000 in
theorem wX9_superCall_42 {dn : Nat} {g : Nat → List Nat → rx_H → Option (Nat × rx_H)} (hZ : zO b e D A X) (hg : ∀ i y M, vl6[i]? = some (y, M) → rx_Met (zV b e D A X) dn y M (g i)) (hd : 2 ≤ dn) : rx_OK (zV b e D A X) mX9_superCall (dn + 1) 42 (vX9_superCall_42 g) := by
  unfold vX9_superCall_42
  exact s_zret rx_z_ok rfl dX9_superCall_42
noncomputable def vX9_superCall_41 (g : Nat → List Nat → rx_H → Option (Nat × rx_H)) : rx_K := o_const 0 ((vX9_superCall_42 g))
set_option maxRecDepth 20000 in
theorem wX9_superCall_41 {dn : Nat} {g : Nat → List Nat → rx_H → Option (Nat × rx_H)} (hZ : zO b e D A X) (hg : ∀ i y M, vl6[i]? = some (y, M) → rx_Met (zV b e D A X) dn y M (g i)) (hd : 2 ≤ dn) : rx_OK (zV b e D A X) mX9_superCall (dn + 1) 41 (vX9_superCall_41 g) := by
  unfold vX9_superCall_41
  refine s_iconst dX9_superCall_41 (by decide +kernel) ?_
  exact (wX9_superCall_42 hZ hg hd)
noncomputable def vX9_superCall_37 (g : Nat → List Nat → rx_H → Option (Nat × rx_H)) : rx_K := o_const 8 ((vX9_superCall_42 g))
set_option maxRecDepth 20000 in
theorem wX9_superCall_37 {dn : Nat} {g : Nat → List Nat → rx_H → Option (Nat × rx_H)} (hZ : zO b e D A X) (hg : ∀ i y M, vl6[i]? = some (y, M) → rx_Met (zV b e D A X) dn y M (g i)) (hd : 2 ≤ dn) : rx_OK (zV b e D A X) mX9_superCall (dn + 1) 37 (vX9_superCall_37 g) := by
  unfold vX9_superCall_37
  refine s_iconst dX9_superCall_37 (by decide +kernel) ?_
  exact s_goto dX9_superCall_38 (by decide) (wX9_superCall_42 hZ hg hd)
noncomputable def vX9_superCall_28 (g : Nat → List Nat → rx_H → Option (Nat × rx_H)) : rx_K := o_ld rx_isR 0 (o_ld rx_isR 1 (o_ld rx_isI 2 (o_callV 2 9 (g 0) (o_c1 rx_eq (vX9_superCall_41 g) (vX9_superCall_37 g)))))
set_option maxRecDepth 20000 in
theorem wX9_superCall_28 {dn : Nat} {g : Nat → List Nat → rx_H → Option (Nat × rx_H)} (hZ : zO b e D A X) (hg : ∀ i y M, vl6[i]? = some (y, M) → rx_Met (zV b e D A X) dn y M (g i)) (hd : 2 ≤ dn) : rx_OK (zV b e D A X) mX9_superCall (dn + 1) 28 (vX9_superCall_28 g) := by
  unfold vX9_superCall_28
  refine s_aload_n hZ.1 dX9_superCall_28 rfl ?_
  refine s_aload_n hZ.1 dX9_superCall_29 rfl ?_
  refine s_iload_n hZ.1 dX9_superCall_30 rfl ?_
  refine s_callV hZ.1 (hg 0 _ _ rfl) (Nat.le_refl _) vy_X9_args zcl9 zw1831 zw28 (Or.inl zw1829) dX9_superCall_31 ?_
  exact s_if_eq dX9_superCall_34 (by decide) (wX9_superCall_41 hZ hg hd) (wX9_superCall_37 hZ hg hd)
noncomputable def vX9_superCall_12 (g : Nat → List Nat → rx_H → Option (Nat × rx_H)) : rx_K := o_ld rx_isR 1 (o_ld rx_isR 0 (o_getf 9 8 (o_putf rx_isI 8 2 (o_ld rx_isR 0 (o_const 24 (o_callV 1 9 FX9_need (o_c1 rx_eq (vX9_superCall_41 g) (vX9_superCall_28 g))))))))
set_option maxRecDepth 20000 in
theorem wX9_superCall_12 {dn : Nat} {g : Nat → List Nat → rx_H → Option (Nat × rx_H)} (hZ : zO b e D A X) (hg : ∀ i y M, vl6[i]? = some (y, M) → rx_Met (zV b e D A X) dn y M (g i)) (hd : 2 ≤ dn) : rx_OK (zV b e D A X) mX9_superCall (dn + 1) 12 (vX9_superCall_12 g) := by
  unfold vX9_superCall_12
  refine s_aload_n hZ.1 dX9_superCall_12 rfl ?_
  refine s_aload_n hZ.1 dX9_superCall_13 rfl ?_
  refine yg9_8 dX9_superCall_14 zw592 ?_
  refine yp8_2 hZ.1 dX9_superCall_17 zw466 ?_
  refine s_aload_n hZ.1 dX9_superCall_20 rfl ?_
  refine s_iconst dX9_superCall_21 (by decide +kernel) ?_
  refine s_callV hZ.1 (Met_X9_need hZ) (Nat.succ_le_succ (Nat.le_trans (Nat.le_of_ble_eq_true rfl) hd)) vy_X9_need zcl9 zw1779 zw19 (Or.inl zw1777) dX9_superCall_22 ?_
  exact s_if_eq dX9_superCall_25 (by decide) (wX9_superCall_41 hZ hg hd) (wX9_superCall_28 hZ hg hd)
noncomputable def vX9_superCall_10 (g : Nat → List Nat → rx_H → Option (Nat × rx_H)) : rx_K := o_const 0 (o_ret1 rx_isZ)
set_option maxRecDepth 20000 in
theorem wX9_superCall_10 {dn : Nat} {g : Nat → List Nat → rx_H → Option (Nat × rx_H)} (hZ : zO b e D A X) (hg : ∀ i y M, vl6[i]? = some (y, M) → rx_Met (zV b e D A X) dn y M (g i)) (hd : 2 ≤ dn) : rx_OK (zV b e D A X) mX9_superCall (dn + 1) 10 (vX9_superCall_10 g) := by
  unfold vX9_superCall_10
  refine s_iconst dX9_superCall_10 (by decide +kernel) ?_
  exact s_zret rx_z_ok rfl dX9_superCall_11
noncomputable def vX9_superCall_0 (g : Nat → List Nat → rx_H → Option (Nat × rx_H)) : rx_K := o_ld rx_isR 0 (o_const 1168 (o_callV 1 9 FX9_need (o_c1 rx_eq (vX9_superCall_10 g) (vX9_superCall_12 g))))
set_option maxRecDepth 20000 in
theorem wX9_superCall_0 {dn : Nat} {g : Nat → List Nat → rx_H → Option (Nat × rx_H)} (hZ : zO b e D A X) (hg : ∀ i y M, vl6[i]? = some (y, M) → rx_Met (zV b e D A X) dn y M (g i)) (hd : 2 ≤ dn) : rx_OK (zV b e D A X) mX9_superCall (dn + 1) 0 (vX9_superCall_0 g) := by
  unfold vX9_superCall_0
  refine s_aload_n hZ.1 dX9_superCall_0 rfl ?_
  refine s_sipush dX9_superCall_1 (by decide +kernel) ?_
  refine s_callV hZ.1 (Met_X9_need hZ) (Nat.succ_le_succ (Nat.le_trans (Nat.le_of_ble_eq_true rfl) hd)) vy_X9_need zcl9 zw1779 zw19 (Or.inl zw1777) dX9_superCall_4 ?_
  exact s_if_ne dX9_superCall_7 (by decide) (wX9_superCall_12 hZ hg hd) (wX9_superCall_10 hZ hg hd)
noncomputable def FX9_superCall (g : Nat → List Nat → rx_H → Option (Nat × rx_H)) : List Nat → rx_H → Option (Nat × rx_H) := rx_ent 3 (vX9_superCall_0 g)
theorem Met_X9_superCall {dn : Nat} {g : Nat → List Nat → rx_H → Option (Nat × rx_H)} (hZ : zO b e D A X) (hg : ∀ i y M, vl6[i]? = some (y, M) → rx_Met (zV b e D A X) dn y M (g i)) (hd : 2 ≤ dn) : rx_Met (zV b e D A X) (dn + 1) yX9_superCall mX9_superCall (FX9_superCall g) := rx_entry hZ.1 (wX9_superCall_0 hZ hg hd) (by decide +kernel) rfl (fun h => by cases h)
noncomputable def vX9_unit_125 (g : Nat → List Nat → rx_H → Option (Nat × rx_H)) (j : Nat → rx_K) : rx_K := o_ret1 rx_isR
set_option maxRecDepth 20000 in
theorem wX9_unit_125 {dn : Nat} {g : Nat → List Nat → rx_H → Option (Nat × rx_H)} (hZ : zO b e D A X) (hg : ∀ i y M, vl6[i]? = some (y, M) → rx_Met (zV b e D A X) dn y M (g i)) (hd : 2 ≤ dn) (j : Nat → rx_K) (hj : ∀ k pc, [14][k]? = some pc → rx_OK (zV b e D A X) mX9_unit (dn + 1) pc (j k)) : rx_OK (zV b e D A X) mX9_unit (dn + 1) 125 (vX9_unit_125 g j) := by
  unfold vX9_unit_125
  exact s_aret hZ.1 rfl (Or.inl ⟨_, rfl⟩) dX9_unit_125
noncomputable def vX9_unit_124 (g : Nat → List Nat → rx_H → Option (Nat × rx_H)) (j : Nat → rx_K) : rx_K := o_const 3 ((vX9_unit_125 g j))
set_option maxRecDepth 20000 in
theorem wX9_unit_124 {dn : Nat} {g : Nat → List Nat → rx_H → Option (Nat × rx_H)} (hZ : zO b e D A X) (hg : ∀ i y M, vl6[i]? = some (y, M) → rx_Met (zV b e D A X) dn y M (g i)) (hd : 2 ≤ dn) (j : Nat → rx_K) (hj : ∀ k pc, [14][k]? = some pc → rx_OK (zV b e D A X) mX9_unit (dn + 1) pc (j k)) : rx_OK (zV b e D A X) mX9_unit (dn + 1) 124 (vX9_unit_124 g j) := by
  unfold vX9_unit_124
  refine s_null dX9_unit_124 ?_
  exact (wX9_unit_125 hZ hg hd j hj)
noncomputable def vX9_unit_120 (g : Nat → List Nat → rx_H → Option (Nat × rx_H)) (j : Nat → rx_K) : rx_K := o_ld rx_isR 3 ((vX9_unit_125 g j))
set_option maxRecDepth 20000 in
theorem wX9_unit_120 {dn : Nat} {g : Nat → List Nat → rx_H → Option (Nat × rx_H)} (hZ : zO b e D A X) (hg : ∀ i y M, vl6[i]? = some (y, M) → rx_Met (zV b e D A X) dn y M (g i)) (hd : 2 ≤ dn) (j : Nat → rx_K) (hj : ∀ k pc, [14][k]? = some pc → rx_OK (zV b e D A X) mX9_unit (dn + 1) pc (j k)) : rx_OK (zV b e D A X) mX9_unit (dn + 1) 120 (vX9_unit_120 g j) := by
  unfold vX9_unit_120
  refine s_aload_n hZ.1 dX9_unit_120 rfl ?_
  exact s_goto dX9_unit_121 (by decide) (wX9_unit_125 hZ hg hd j hj)
noncomputable def vX9_unit_113 (g : Nat → List Nat → rx_H → Option (Nat × rx_H)) (j : Nat → rx_K) : rx_K := o_ld rx_isR 0 (o_getf 9 9 (o_c1 rx_eq (vX9_unit_120 g j) (vX9_unit_124 g j)))
set_option maxRecDepth 20000 in
theorem wX9_unit_113 {dn : Nat} {g : Nat → List Nat → rx_H → Option (Nat × rx_H)} (hZ : zO b e D A X) (hg : ∀ i y M, vl6[i]? = some (y, M) → rx_Met (zV b e D A X) dn y M (g i)) (hd : 2 ≤ dn) (j : Nat → rx_K) (hj : ∀ k pc, [14][k]? = some pc → rx_OK (zV b e D A X) mX9_unit (dn + 1) pc (j k)) : rx_OK (zV b e D A X) mX9_unit (dn + 1) 113 (vX9_unit_113 g j) := by
  unfold vX9_unit_113
  refine s_aload_n hZ.1 dX9_unit_113 rfl ?_
  refine yg9_9 dX9_unit_114 zw593 ?_
  exact s_if_ne dX9_unit_117 (by decide) (wX9_unit_124 hZ hg hd j hj) (wX9_unit_120 hZ hg hd j hj)
noncomputable def vX9_unit_103 (g : Nat → List Nat → rx_H → Option (Nat × rx_H)) (j : Nat → rx_K) : rx_K := o_ld rx_isR 6 (o_st rx_isR 4 (o_inc 5 (1) ((j 0))))
set_option maxRecDepth 20000 in
theorem wX9_unit_103 {dn : Nat} {g : Nat → List Nat → rx_H → Option (Nat × rx_H)} (hZ : zO b e D A X) (hg : ∀ i y M, vl6[i]? = some (y, M) → rx_Met (zV b e D A X) dn y M (g i)) (hd : 2 ≤ dn) (j : Nat → rx_K) (hj : ∀ k pc, [14][k]? = some pc → rx_OK (zV b e D A X) mX9_unit (dn + 1) pc (j k)) : rx_OK (zV b e D A X) mX9_unit (dn + 1) 103 (vX9_unit_103 g j) := by
  unfold vX9_unit_103
  refine s_aload hZ.1 dX9_unit_103 ?_
  refine s_astore hZ.1 dX9_unit_105 (Nat.le_of_ble_eq_true rfl) ?_
  refine s_iinc hZ.1 dX9_unit_107 (Nat.le_of_ble_eq_true rfl) ?_
  exact s_goto dX9_unit_110 (by decide) (hj 0 14 rfl)
noncomputable def vX9_unit_96 (g : Nat → List Nat → rx_H → Option (Nat × rx_H)) (j : Nat → rx_K) : rx_K := o_ld rx_isR 4 (o_ld rx_isR 6 (o_putf rx_isR 8 8 ((vX9_unit_103 g j))))
set_option maxRecDepth 20000 in
theorem wX9_unit_96 {dn : Nat} {g : Nat → List Nat → rx_H → Option (Nat × rx_H)} (hZ : zO b e D A X) (hg : ∀ i y M, vl6[i]? = some (y, M) → rx_Met (zV b e D A X) dn y M (g i)) (hd : 2 ≤ dn) (j : Nat → rx_K) (hj : ∀ k pc, [14][k]? = some pc → rx_OK (zV b e D A X) mX9_unit (dn + 1) pc (j k)) : rx_OK (zV b e D A X) mX9_unit (dn + 1) 96 (vX9_unit_96 g j) := by
  unfold vX9_unit_96
  refine s_aload hZ.1 dX9_unit_96 ?_
  refine s_aload hZ.1 dX9_unit_98 ?_
  refine yp8_8 hZ.1 dX9_unit_100 zw489 ?_
  exact (wX9_unit_103 hZ hg hd j hj)
noncomputable def vX9_unit_78 (g : Nat → List Nat → rx_H → Option (Nat × rx_H)) (j : Nat → rx_K) : rx_K := o_callV 2 9 FX9_node (o_st rx_isR 3 (o_ld rx_isR 3 (o_ld rx_isR 2 (o_putf rx_isR 8 5 (o_ld rx_isR 3 (o_ld rx_isR 6 (o_putf rx_isR 8 6 ((vX9_unit_103 g j)))))))))
set_option maxRecDepth 20000 in
theorem wX9_unit_78 {dn : Nat} {g : Nat → List Nat → rx_H → Option (Nat × rx_H)} (hZ : zO b e D A X) (hg : ∀ i y M, vl6[i]? = some (y, M) → rx_Met (zV b e D A X) dn y M (g i)) (hd : 2 ≤ dn) (j : Nat → rx_K) (hj : ∀ k pc, [14][k]? = some pc → rx_OK (zV b e D A X) mX9_unit (dn + 1) pc (j k)) : rx_OK (zV b e D A X) mX9_unit (dn + 1) 78 (vX9_unit_78 g j) := by
  unfold vX9_unit_78
  refine s_callV hZ.1 (Met_X9_node hZ) (Nat.succ_le_succ (Nat.le_trans (Nat.le_of_ble_eq_true rfl) hd)) vy_X9_node zcl9 zw1811 zw25 (Or.inl zw1809) dX9_unit_78 ?_
  refine s_astore_n hZ.1 dX9_unit_81 rfl (Nat.le_of_ble_eq_true rfl) ?_
  refine s_aload_n hZ.1 dX9_unit_82 rfl ?_
  refine s_aload_n hZ.1 dX9_unit_83 rfl ?_
  refine yp8_5 hZ.1 dX9_unit_84 zw477 ?_
  refine s_aload_n hZ.1 dX9_unit_87 rfl ?_
  refine s_aload hZ.1 dX9_unit_88 ?_
  refine yp8_6 hZ.1 dX9_unit_90 zw481 ?_
  exact s_goto dX9_unit_93 (by decide) (wX9_unit_103 hZ hg hd j hj)
noncomputable def vX9_unit_74 (g : Nat → List Nat → rx_H → Option (Nat × rx_H)) (j : Nat → rx_K) : rx_K := o_ld rx_isR 2 (o_getf 8 1 ((vX9_unit_78 g j)))
set_option maxRecDepth 20000 in
theorem wX9_unit_74 {dn : Nat} {g : Nat → List Nat → rx_H → Option (Nat × rx_H)} (hZ : zO b e D A X) (hg : ∀ i y M, vl6[i]? = some (y, M) → rx_Met (zV b e D A X) dn y M (g i)) (hd : 2 ≤ dn) (j : Nat → rx_K) (hj : ∀ k pc, [14][k]? = some pc → rx_OK (zV b e D A X) mX9_unit (dn + 1) pc (j k)) : rx_OK (zV b e D A X) mX9_unit (dn + 1) 74 (vX9_unit_74 g j) := by
  unfold vX9_unit_74
  refine s_aload_n hZ.1 dX9_unit_74 rfl ?_
  refine yg8_1 dX9_unit_75 zw463 ?_
  exact (wX9_unit_78 hZ hg hd j hj)
noncomputable def vX9_unit_67 (g : Nat → List Nat → rx_H → Option (Nat × rx_H)) (j : Nat → rx_K) : rx_K := o_ld rx_isR 0 (o_getf 9 8 ((vX9_unit_78 g j)))
set_option maxRecDepth 20000 in
theorem wX9_unit_67 {dn : Nat} {g : Nat → List Nat → rx_H → Option (Nat × rx_H)} (hZ : zO b e D A X) (hg : ∀ i y M, vl6[i]? = some (y, M) → rx_Met (zV b e D A X) dn y M (g i)) (hd : 2 ≤ dn) (j : Nat → rx_K) (hj : ∀ k pc, [14][k]? = some pc → rx_OK (zV b e D A X) mX9_unit (dn + 1) pc (j k)) : rx_OK (zV b e D A X) mX9_unit (dn + 1) 67 (vX9_unit_67 g j) := by
  unfold vX9_unit_67
  refine s_aload_n hZ.1 dX9_unit_67 rfl ?_
  refine yg9_8 dX9_unit_68 zw592 ?_
  exact s_goto dX9_unit_71 (by decide) (wX9_unit_78 hZ hg hd j hj)
noncomputable def vX9_unit_60 (g : Nat → List Nat → rx_H → Option (Nat × rx_H)) (j : Nat → rx_K) : rx_K := o_ld rx_isR 0 (o_const 104 (o_ld rx_isR 2 (o_nul (vX9_unit_67 g j) (vX9_unit_74 g j))))
set_option maxRecDepth 20000 in
theorem wX9_unit_60 {dn : Nat} {g : Nat → List Nat → rx_H → Option (Nat × rx_H)} (hZ : zO b e D A X) (hg : ∀ i y M, vl6[i]? = some (y, M) → rx_Met (zV b e D A X) dn y M (g i)) (hd : 2 ≤ dn) (j : Nat → rx_K) (hj : ∀ k pc, [14][k]? = some pc → rx_OK (zV b e D A X) mX9_unit (dn + 1) pc (j k)) : rx_OK (zV b e D A X) mX9_unit (dn + 1) 60 (vX9_unit_60 g j) := by
  unfold vX9_unit_60
  refine s_aload_n hZ.1 dX9_unit_60 rfl ?_
  refine s_bipush dX9_unit_61 (by decide +kernel) ?_
  refine s_aload_n hZ.1 dX9_unit_63 rfl ?_
  exact s_ifnonnull dX9_unit_64 (by decide) (wX9_unit_74 hZ hg hd j hj) (wX9_unit_67 hZ hg hd j hj)
noncomputable def vX9_unit_48 (g : Nat → List Nat → rx_H → Option (Nat × rx_H)) (j : Nat → rx_K) : rx_K := o_ld rx_isR 0 (o_ld rx_isI 1 (o_callV 1 9 (g 1) (o_st rx_isR 6 (o_ld rx_isR 4 (o_nul (vX9_unit_60 g j) (vX9_unit_96 g j))))))
set_option maxRecDepth 20000 in
theorem wX9_unit_48 {dn : Nat} {g : Nat → List Nat → rx_H → Option (Nat × rx_H)} (hZ : zO b e D A X) (hg : ∀ i y M, vl6[i]? = some (y, M) → rx_Met (zV b e D A X) dn y M (g i)) (hd : 2 ≤ dn) (j : Nat → rx_K) (hj : ∀ k pc, [14][k]? = some pc → rx_OK (zV b e D A X) mX9_unit (dn + 1) pc (j k)) : rx_OK (zV b e D A X) mX9_unit (dn + 1) 48 (vX9_unit_48 g j) := by
  unfold vX9_unit_48
  refine s_aload_n hZ.1 dX9_unit_48 rfl ?_
  refine s_iload_n hZ.1 dX9_unit_49 rfl ?_
  refine s_callV hZ.1 (hg 1 _ _ rfl) (Nat.le_refl _) vy_X9_behindUnit zcl9 zw1863 zw36 (Or.inl zw1861) dX9_unit_50 ?_
  refine s_astore hZ.1 dX9_unit_53 (Nat.le_of_ble_eq_true rfl) ?_
  refine s_aload hZ.1 dX9_unit_55 ?_
  exact s_ifnonnull dX9_unit_57 (by decide) (wX9_unit_96 hZ hg hd j hj) (wX9_unit_60 hZ hg hd j hj)
noncomputable def vX9_unit_39 (g : Nat → List Nat → rx_H → Option (Nat × rx_H)) (j : Nat → rx_K) : rx_K := o_ld rx_isR 0 (o_callV 0 9 FX9_now (o_const 312 (o_c2 rx_eq (vX9_unit_48 g j) (vX9_unit_113 g j))))
set_option maxRecDepth 20000 in
theorem wX9_unit_39 {dn : Nat} {g : Nat → List Nat → rx_H → Option (Nat × rx_H)} (hZ : zO b e D A X) (hg : ∀ i y M, vl6[i]? = some (y, M) → rx_Met (zV b e D A X) dn y M (g i)) (hd : 2 ≤ dn) (j : Nat → rx_K) (hj : ∀ k pc, [14][k]? = some pc → rx_OK (zV b e D A X) mX9_unit (dn + 1) pc (j k)) : rx_OK (zV b e D A X) mX9_unit (dn + 1) 39 (vX9_unit_39 g j) := by
  unfold vX9_unit_39
  refine s_aload_n hZ.1 dX9_unit_39 rfl ?_
  refine s_callV hZ.1 (Met_X9_now hZ) (Nat.succ_le_succ (Nat.le_trans (Nat.le_of_ble_eq_true rfl) hd)) vy_X9_now zcl9 zw1746 zw12 (Or.inl zw1744) dX9_unit_40 ?_
  refine s_bipush dX9_unit_43 (by decide +kernel) ?_
  exact s_icmp_ne dX9_unit_45 (by decide) (wX9_unit_113 hZ hg hd j hj) (wX9_unit_48 hZ hg hd j hj)
noncomputable def vX9_unit_29 (g : Nat → List Nat → rx_H → Option (Nat × rx_H)) (j : Nat → rx_K) : rx_K := o_ld rx_isR 0 (o_callV 0 9 FX9_now (o_const 1168 (o_c2 rx_eq (vX9_unit_48 g j) (vX9_unit_39 g j))))
set_option maxRecDepth 20000 in
theorem wX9_unit_29 {dn : Nat} {g : Nat → List Nat → rx_H → Option (Nat × rx_H)} (hZ : zO b e D A X) (hg : ∀ i y M, vl6[i]? = some (y, M) → rx_Met (zV b e D A X) dn y M (g i)) (hd : 2 ≤ dn) (j : Nat → rx_K) (hj : ∀ k pc, [14][k]? = some pc → rx_OK (zV b e D A X) mX9_unit (dn + 1) pc (j k)) : rx_OK (zV b e D A X) mX9_unit (dn + 1) 29 (vX9_unit_29 g j) := by
  unfold vX9_unit_29
  refine s_aload_n hZ.1 dX9_unit_29 rfl ?_
  refine s_callV hZ.1 (Met_X9_now hZ) (Nat.succ_le_succ (Nat.le_trans (Nat.le_of_ble_eq_true rfl) hd)) vy_X9_now zcl9 zw1746 zw12 (Or.inl zw1744) dX9_unit_30 ?_
  refine s_sipush dX9_unit_33 (by decide +kernel) ?_
  exact s_icmp_eq dX9_unit_36 (by decide) (wX9_unit_48 hZ hg hd j hj) (wX9_unit_39 hZ hg hd j hj)
noncomputable def vX9_unit_22 (g : Nat → List Nat → rx_H → Option (Nat × rx_H)) (j : Nat → rx_K) : rx_K := o_ld rx_isR 0 (o_getf 9 9 (o_c1 rx_eq (vX9_unit_29 g j) (vX9_unit_113 g j)))
set_option maxRecDepth 20000 in
theorem wX9_unit_22 {dn : Nat} {g : Nat → List Nat → rx_H → Option (Nat × rx_H)} (hZ : zO b e D A X) (hg : ∀ i y M, vl6[i]? = some (y, M) → rx_Met (zV b e D A X) dn y M (g i)) (hd : 2 ≤ dn) (j : Nat → rx_K) (hj : ∀ k pc, [14][k]? = some pc → rx_OK (zV b e D A X) mX9_unit (dn + 1) pc (j k)) : rx_OK (zV b e D A X) mX9_unit (dn + 1) 22 (vX9_unit_22 g j) := by
  unfold vX9_unit_22
  refine s_aload_n hZ.1 dX9_unit_22 rfl ?_
  refine yg9_9 dX9_unit_23 zw593 ?_
  exact s_if_ne dX9_unit_26 (by decide) (wX9_unit_113 hZ hg hd j hj) (wX9_unit_29 hZ hg hd j hj)
noncomputable def vX9_unit_14 (g : Nat → List Nat → rx_H → Option (Nat × rx_H)) (j : Nat → rx_K) : rx_K := o_ld rx_isI 5 (o_const 5600 (o_c2 rx_lt (vX9_unit_22 g j) (vX9_unit_113 g j)))
set_option maxRecDepth 20000 in
theorem wX9_unit_14 {dn : Nat} {g : Nat → List Nat → rx_H → Option (Nat × rx_H)} (hZ : zO b e D A X) (hg : ∀ i y M, vl6[i]? = some (y, M) → rx_Met (zV b e D A X) dn y M (g i)) (hd : 2 ≤ dn) (j : Nat → rx_K) (hj : ∀ k pc, [14][k]? = some pc → rx_OK (zV b e D A X) mX9_unit (dn + 1) pc (j k)) : rx_OK (zV b e D A X) mX9_unit (dn + 1) 14 (vX9_unit_14 g j) := by
  unfold vX9_unit_14
  refine s_iload hZ.1 dX9_unit_14 ?_
  refine s_sipush dX9_unit_16 (by decide +kernel) ?_
  exact s_icmp_ge dX9_unit_19 (by decide) (wX9_unit_113 hZ hg hd j hj) (wX9_unit_22 hZ hg hd j hj)
noncomputable def vX9_unit_0 (g : Nat → List Nat → rx_H → Option (Nat × rx_H)) (j : Nat → rx_K) : rx_K := o_ld rx_isR 0 (o_ld rx_isI 1 (o_callV 1 9 (g 4) (o_st rx_isR 2 (o_ld rx_isR 2 (o_st rx_isR 3 (o_const 3 (o_st rx_isR 4 (o_const 0 (o_st rx_isI 5 ((vX9_unit_14 g j)))))))))))
set_option maxRecDepth 20000 in
theorem wX9_unit_0 {dn : Nat} {g : Nat → List Nat → rx_H → Option (Nat × rx_H)} (hZ : zO b e D A X) (hg : ∀ i y M, vl6[i]? = some (y, M) → rx_Met (zV b e D A X) dn y M (g i)) (hd : 2 ≤ dn) (j : Nat → rx_K) (hj : ∀ k pc, [14][k]? = some pc → rx_OK (zV b e D A X) mX9_unit (dn + 1) pc (j k)) : rx_OK (zV b e D A X) mX9_unit (dn + 1) 0 (vX9_unit_0 g j) := by
  unfold vX9_unit_0
  refine s_aload_n hZ.1 dX9_unit_0 rfl ?_
  refine s_iload_n hZ.1 dX9_unit_1 rfl ?_
  refine s_callV hZ.1 (hg 4 _ _ rfl) (Nat.le_refl _) vy_X9_front zcl9 zw1847 zw32 (Or.inl zw1845) dX9_unit_2 ?_
  refine s_astore_n hZ.1 dX9_unit_5 rfl (Nat.le_of_ble_eq_true rfl) ?_
  refine s_aload_n hZ.1 dX9_unit_6 rfl ?_
  refine s_astore_n hZ.1 dX9_unit_7 rfl (Nat.le_of_ble_eq_true rfl) ?_
  refine s_null dX9_unit_8 ?_
  refine s_astore hZ.1 dX9_unit_9 (Nat.le_of_ble_eq_true rfl) ?_
  refine s_iconst dX9_unit_11 (by decide +kernel) ?_
  refine s_istore hZ.1 dX9_unit_12 (Nat.le_of_ble_eq_true rfl) ?_
  exact (wX9_unit_14 hZ hg hd j hj)
noncomputable def vhX9_unit (g : Nat → List Nat → rx_H → Option (Nat × rx_H)) (j : Nat → rx_K) : List rx_K := [vX9_unit_14 g j]
theorem vlX9_unit {dn : Nat} {g : Nat → List Nat → rx_H → Option (Nat × rx_H)} (hZ : zO b e D A X) (hg : ∀ i y M, vl6[i]? = some (y, M) → rx_Met (zV b e D A X) dn y M (g i)) (hd : 2 ≤ dn) : ∀ n k pc, [14][k]? = some pc → rx_OK (zV b e D A X) mX9_unit (dn + 1) pc (rx_J (vhX9_unit g) n k) := rx_loop fun j hj k pc h => by
  match k, h with
  | 0, h =>
    have e9 := Option.some.inj (show some 14 = some pc from h)
    subst e9
    exact wX9_unit_14 hZ hg hd j hj
  | _ + 1, h => exact absurd h (by simp)
noncomputable def FX9_unit (g : Nat → List Nat → rx_H → Option (Nat × rx_H)) : List Nat → rx_H → Option (Nat × rx_H) := rx_ent 7 (vX9_unit_0 g (rx_J (vhX9_unit g) 4000000000))
theorem Met_X9_unit {dn : Nat} {g : Nat → List Nat → rx_H → Option (Nat × rx_H)} (hZ : zO b e D A X) (hg : ∀ i y M, vl6[i]? = some (y, M) → rx_Met (zV b e D A X) dn y M (g i)) (hd : 2 ≤ dn) : rx_Met (zV b e D A X) (dn + 1) yX9_unit mX9_unit (FX9_unit g) := rx_entry hZ.1 (wX9_unit_0 hZ hg hd _ (vlX9_unit hZ hg hd 4000000000)) (by decide +kernel) rfl (fun h => by cases h)
noncomputable def q6 (n : Nat) : Nat → List Nat → rx_H → Option (Nat × rx_H) := Nat.rec (fun _ _ _ => none) (fun _ ih i => rx_nth [FX9_args ih, FX9_behindUnit ih, FX9_chain ih, FX9_expr ih, FX9_front ih, FX9_ofClass ih, FX9_round ih, FX9_superCall ih, FX9_unit ih] i (fun _ _ => none)) n
theorem q6_ok (hZ : zO b e D A X) : ∀ n i y M, vl6[i]? = some (y, M) → rx_Met (zV b e D A X) (2 + n) y M (q6 n i)
  | 0 => fun i y M _ As h r h2 hf => by cases hf
  | n + 1 => fun i y M h => by
    match i, h with
    | 0, h => cases h; exact Met_X9_args hZ (q6_ok hZ n) (Nat.le_add_right 2 n)
    | 1, h => cases h; exact Met_X9_behindUnit hZ (q6_ok hZ n) (Nat.le_add_right 2 n)
    | 2, h => cases h; exact Met_X9_chain hZ (q6_ok hZ n) (Nat.le_add_right 2 n)
    | 3, h => cases h; exact Met_X9_expr hZ (q6_ok hZ n) (Nat.le_add_right 2 n)
    | 4, h => cases h; exact Met_X9_front hZ (q6_ok hZ n) (Nat.le_add_right 2 n)
    | 5, h => cases h; exact Met_X9_ofClass hZ (q6_ok hZ n) (Nat.le_add_right 2 n)
    | 6, h => cases h; exact Met_X9_round hZ (q6_ok hZ n) (Nat.le_add_right 2 n)
    | 7, h => cases h; exact Met_X9_superCall hZ (q6_ok hZ n) (Nat.le_add_right 2 n)
    | 8, h => cases h; exact Met_X9_unit hZ (q6_ok hZ n) (Nat.le_add_right 2 n)
    | _ + 9, h => exact absurd h (by simp)
abbrev mX9_simple : rx_M := (RX9, cX9_simple, 3, (some (.object "LinkHouse$Node")), false)
theorem vy_X9_simple : rx_Y (zV b e D A X) yX9_simple mX9_simple 1 := ⟨zw1871, zw414, by decide, by decide +kernel, by decide +kernel, by decide +kernel⟩
noncomputable def vX9_simple_81 : rx_K := o_ret1 rx_isR
set_option maxRecDepth 20000 in
theorem wX9_simple_81 (hZ : zO b e D A X) : rx_OK (zV b e D A X) mX9_simple 203 81 vX9_simple_81 := by
  unfold vX9_simple_81
  exact s_aret hZ.1 rfl (Or.inl ⟨_, rfl⟩) dX9_simple_81
noncomputable def vX9_simple_80 : rx_K := o_const 3 (vX9_simple_81)
set_option maxRecDepth 20000 in
theorem wX9_simple_80 (hZ : zO b e D A X) : rx_OK (zV b e D A X) mX9_simple 203 80 vX9_simple_80 := by
  unfold vX9_simple_80
  refine s_null dX9_simple_80 ?_
  exact (wX9_simple_81 hZ)
noncomputable def vX9_simple_76 : rx_K := o_ld rx_isR 2 (vX9_simple_81)
set_option maxRecDepth 20000 in
theorem wX9_simple_76 (hZ : zO b e D A X) : rx_OK (zV b e D A X) mX9_simple 203 76 vX9_simple_76 := by
  unfold vX9_simple_76
  refine s_aload_n hZ.1 dX9_simple_76 rfl ?_
  exact s_goto dX9_simple_77 (by decide) (wX9_simple_81 hZ)
noncomputable def vX9_simple_66 : rx_K := o_ld rx_isR 0 (o_const 1272 (o_callV 1 9 FX9_need (o_c1 rx_eq vX9_simple_80 vX9_simple_76)))
set_option maxRecDepth 20000 in
theorem wX9_simple_66 (hZ : zO b e D A X) : rx_OK (zV b e D A X) mX9_simple 203 66 vX9_simple_66 := by
  unfold vX9_simple_66
  refine s_aload_n hZ.1 dX9_simple_66 rfl ?_
  refine s_sipush dX9_simple_67 (by decide +kernel) ?_
  refine s_callV hZ.1 (Met_X9_need hZ) (Nat.le_of_ble_eq_true rfl) vy_X9_need zcl9 zw1779 zw19 (Or.inl zw1777) dX9_simple_70 ?_
  exact s_if_eq dX9_simple_73 (by decide) (wX9_simple_80 hZ) (wX9_simple_76 hZ)
noncomputable def vX9_simple_59 : rx_K := o_ld rx_isR 0 (o_getf 9 9 (o_c1 rx_eq vX9_simple_66 vX9_simple_80))
set_option maxRecDepth 20000 in
theorem wX9_simple_59 (hZ : zO b e D A X) : rx_OK (zV b e D A X) mX9_simple 203 59 vX9_simple_59 := by
  unfold vX9_simple_59
  refine s_aload_n hZ.1 dX9_simple_59 rfl ?_
  refine yg9_9 dX9_simple_60 zw593 ?_
  exact s_if_ne dX9_simple_63 (by decide) (wX9_simple_80 hZ) (wX9_simple_66 hZ)
noncomputable def vX9_simple_44 : rx_K := o_ld rx_isR 2 (o_const 312 (o_putf rx_isI 8 0 (o_ld rx_isR 2 (o_ld rx_isR 0 (o_ld rx_isI 1 (o_callV 1 9 (q6 200 3) (o_putf rx_isR 8 6 (vX9_simple_59))))))))
set_option maxRecDepth 20000 in
theorem wX9_simple_44 (hZ : zO b e D A X) : rx_OK (zV b e D A X) mX9_simple 203 44 vX9_simple_44 := by
  unfold vX9_simple_44
  refine s_aload_n hZ.1 dX9_simple_44 rfl ?_
  refine s_bipush dX9_simple_45 (by decide +kernel) ?_
  refine yp8_0 hZ.1 dX9_simple_47 zw460 ?_
  refine s_aload_n hZ.1 dX9_simple_50 rfl ?_
  refine s_aload_n hZ.1 dX9_simple_51 rfl ?_
  refine s_iload_n hZ.1 dX9_simple_52 rfl ?_
  refine s_callV hZ.1 (q6_ok hZ 200 3 _ _ rfl) (Nat.le_of_ble_eq_true rfl) vy_X9_expr zcl9 zw1835 zw29 (Or.inl zw1833) dX9_simple_53 ?_
  refine yp8_6 hZ.1 dX9_simple_56 zw481 ?_
  exact (wX9_simple_59 hZ)
noncomputable def vX9_simple_37 : rx_K := o_ld rx_isR 0 (o_callV 0 9 FX9_take (o_c1 rx_eq vX9_simple_59 vX9_simple_44))
set_option maxRecDepth 20000 in
theorem wX9_simple_37 (hZ : zO b e D A X) : rx_OK (zV b e D A X) mX9_simple 203 37 vX9_simple_37 := by
  unfold vX9_simple_37
  refine s_aload_n hZ.1 dX9_simple_37 rfl ?_
  refine s_callV hZ.1 (Met_X9_take hZ) (Nat.le_of_ble_eq_true rfl) vy_X9_take zcl9 zw1754 zw14 (Or.inl zw1752) dX9_simple_38 ?_
  exact s_if_eq dX9_simple_41 (by decide) (wX9_simple_59 hZ) (wX9_simple_44 hZ)
noncomputable def vX9_simple_27 : rx_K := o_ld rx_isR 0 (o_callV 0 9 FX9_now (o_const 1288 (o_c2 rx_eq vX9_simple_37 vX9_simple_59)))
set_option maxRecDepth 20000 in
theorem wX9_simple_27 (hZ : zO b e D A X) : rx_OK (zV b e D A X) mX9_simple 203 27 vX9_simple_27 := by
  unfold vX9_simple_27
  refine s_aload_n hZ.1 dX9_simple_27 rfl ?_
  refine s_callV hZ.1 (Met_X9_now hZ) (Nat.le_of_ble_eq_true rfl) vy_X9_now zcl9 zw1746 zw12 (Or.inl zw1744) dX9_simple_28 ?_
  refine s_sipush dX9_simple_31 (by decide +kernel) ?_
  exact s_icmp_ne dX9_simple_34 (by decide) (wX9_simple_59 hZ) (wX9_simple_37 hZ)
noncomputable def vX9_simple_0 : rx_K := o_ld rx_isR 0 (o_const 320 (o_ld rx_isR 0 (o_getf 9 8 (o_callV 2 9 FX9_node (o_st rx_isR 2 (o_ld rx_isR 2 (o_ld rx_isR 0 (o_ld rx_isI 1 (o_callV 1 9 (q6 200 3) (o_putf rx_isR 8 5 (o_ld rx_isR 2 (o_getf 8 5 (o_nul vX9_simple_59 vX9_simple_27)))))))))))))
set_option maxRecDepth 20000 in
theorem wX9_simple_0 (hZ : zO b e D A X) : rx_OK (zV b e D A X) mX9_simple 203 0 vX9_simple_0 := by
  unfold vX9_simple_0
  refine s_aload_n hZ.1 dX9_simple_0 rfl ?_
  refine s_bipush dX9_simple_1 (by decide +kernel) ?_
  refine s_aload_n hZ.1 dX9_simple_3 rfl ?_
  refine yg9_8 dX9_simple_4 zw592 ?_
  refine s_callV hZ.1 (Met_X9_node hZ) (Nat.le_of_ble_eq_true rfl) vy_X9_node zcl9 zw1811 zw25 (Or.inl zw1809) dX9_simple_7 ?_
  refine s_astore_n hZ.1 dX9_simple_10 rfl (Nat.le_of_ble_eq_true rfl) ?_
  refine s_aload_n hZ.1 dX9_simple_11 rfl ?_
  refine s_aload_n hZ.1 dX9_simple_12 rfl ?_
  refine s_iload_n hZ.1 dX9_simple_13 rfl ?_
  refine s_callV hZ.1 (q6_ok hZ 200 3 _ _ rfl) (Nat.le_of_ble_eq_true rfl) vy_X9_expr zcl9 zw1835 zw29 (Or.inl zw1833) dX9_simple_14 ?_
  refine yp8_5 hZ.1 dX9_simple_17 zw477 ?_
  refine s_aload_n hZ.1 dX9_simple_20 rfl ?_
  refine yg8_5 dX9_simple_21 zw477 ?_
  exact s_ifnull dX9_simple_24 (by decide) (wX9_simple_59 hZ) (wX9_simple_27 hZ)
noncomputable def FX9_simple : List Nat → rx_H → Option (Nat × rx_H) := rx_ent 3 vX9_simple_0
theorem Met_X9_simple (hZ : zO b e D A X) : rx_Met (zV b e D A X) 203 yX9_simple mX9_simple (FX9_simple) := rx_entry hZ.1 (wX9_simple_0 hZ) (by decide +kernel) rfl (fun h => by cases h)
abbrev mX9_block : rx_M := (RX9, cX9_block, 6, (some (.object "LinkHouse$Node")), false)
theorem vy_X9_block : rx_Y (zV b e D A X) yX9_block mX9_block 1 := ⟨zw1808, zw414, by decide, by decide +kernel, by decide +kernel, by decide +kernel⟩
abbrev mX9_statement : rx_M := (RX9, cX9_statement, 5, (some (.object "LinkHouse$Node")), false)
theorem vy_X9_statement : rx_Y (zV b e D A X) yX9_statement mX9_statement 1 := ⟨zw1821, zw414, by decide, by decide +kernel, by decide +kernel, by decide +kernel⟩
abbrev mX9_tested : rx_M := (RX9, cX9_tested, 4, (some (.object "LinkHouse$Node")), false)
theorem vy_X9_tested : rx_Y (zV b e D A X) yX9_tested mX9_tested 3 := ⟨zw1879, zw414, by decide, by decide +kernel, by decide +kernel, by decide +kernel⟩
abbrev mX9_tried : rx_M := (RX9, cX9_tried, 3, (some (.object "LinkHouse$Node")), false)
theorem vy_X9_tried : rx_Y (zV b e D A X) yX9_tried mX9_tried 2 := ⟨zw1883, zw414, by decide, by decide +kernel, by decide +kernel, by decide +kernel⟩
abbrev mX9_worded : rx_M := (RX9, cX9_worded, 4, (some (.object "LinkHouse$Node")), false)
theorem vy_X9_worded : rx_Y (zV b e D A X) yX9_worded mX9_worded 2 := ⟨zw1875, zw414, by decide, by decide +kernel, by decide +kernel, by decide +kernel⟩
abbrev vl7 : List (MethodName × rx_M) := [(yX9_block, mX9_block), (yX9_statement, mX9_statement), (yX9_tested, mX9_tested), (yX9_tried, mX9_tried), (yX9_worded, mX9_worded)]
noncomputable def vX9_block_133 (g : Nat → List Nat → rx_H → Option (Nat × rx_H)) (j : Nat → rx_K) : rx_K := o_ret1 rx_isR
set_option maxRecDepth 20000 in
theorem wX9_block_133 {dn : Nat} {g : Nat → List Nat → rx_H → Option (Nat × rx_H)} (hZ : zO b e D A X) (hg : ∀ i y M, vl7[i]? = some (y, M) → rx_Met (zV b e D A X) dn y M (g i)) (hd : 204 ≤ dn) (j : Nat → rx_K) (hj : ∀ k pc, [52][k]? = some pc → rx_OK (zV b e D A X) mX9_block (dn + 1) pc (j k)) : rx_OK (zV b e D A X) mX9_block (dn + 1) 133 (vX9_block_133 g j) := by
  unfold vX9_block_133
  exact s_aret hZ.1 rfl (Or.inl ⟨_, rfl⟩) dX9_block_133
noncomputable def vX9_block_132 (g : Nat → List Nat → rx_H → Option (Nat × rx_H)) (j : Nat → rx_K) : rx_K := o_const 3 ((vX9_block_133 g j))
set_option maxRecDepth 20000 in
theorem wX9_block_132 {dn : Nat} {g : Nat → List Nat → rx_H → Option (Nat × rx_H)} (hZ : zO b e D A X) (hg : ∀ i y M, vl7[i]? = some (y, M) → rx_Met (zV b e D A X) dn y M (g i)) (hd : 204 ≤ dn) (j : Nat → rx_K) (hj : ∀ k pc, [52][k]? = some pc → rx_OK (zV b e D A X) mX9_block (dn + 1) pc (j k)) : rx_OK (zV b e D A X) mX9_block (dn + 1) 132 (vX9_block_132 g j) := by
  unfold vX9_block_132
  refine s_null dX9_block_132 ?_
  exact (wX9_block_133 hZ hg hd j hj)
noncomputable def vX9_block_128 (g : Nat → List Nat → rx_H → Option (Nat × rx_H)) (j : Nat → rx_K) : rx_K := o_ld rx_isR 2 ((vX9_block_133 g j))
set_option maxRecDepth 20000 in
theorem wX9_block_128 {dn : Nat} {g : Nat → List Nat → rx_H → Option (Nat × rx_H)} (hZ : zO b e D A X) (hg : ∀ i y M, vl7[i]? = some (y, M) → rx_Met (zV b e D A X) dn y M (g i)) (hd : 204 ≤ dn) (j : Nat → rx_K) (hj : ∀ k pc, [52][k]? = some pc → rx_OK (zV b e D A X) mX9_block (dn + 1) pc (j k)) : rx_OK (zV b e D A X) mX9_block (dn + 1) 128 (vX9_block_128 g j) := by
  unfold vX9_block_128
  refine s_aload_n hZ.1 dX9_block_128 rfl ?_
  exact s_goto dX9_block_129 (by decide) (wX9_block_133 hZ hg hd j hj)
noncomputable def vX9_block_121 (g : Nat → List Nat → rx_H → Option (Nat × rx_H)) (j : Nat → rx_K) : rx_K := o_ld rx_isR 0 (o_callV 0 9 FX9_take (o_c1 rx_eq (vX9_block_132 g j) (vX9_block_128 g j)))
set_option maxRecDepth 20000 in
theorem wX9_block_121 {dn : Nat} {g : Nat → List Nat → rx_H → Option (Nat × rx_H)} (hZ : zO b e D A X) (hg : ∀ i y M, vl7[i]? = some (y, M) → rx_Met (zV b e D A X) dn y M (g i)) (hd : 204 ≤ dn) (j : Nat → rx_K) (hj : ∀ k pc, [52][k]? = some pc → rx_OK (zV b e D A X) mX9_block (dn + 1) pc (j k)) : rx_OK (zV b e D A X) mX9_block (dn + 1) 121 (vX9_block_121 g j) := by
  unfold vX9_block_121
  refine s_aload_n hZ.1 dX9_block_121 rfl ?_
  refine s_callV hZ.1 (Met_X9_take hZ) (Nat.succ_le_succ (Nat.le_trans (Nat.le_of_ble_eq_true rfl) hd)) vy_X9_take zcl9 zw1754 zw14 (Or.inl zw1752) dX9_block_122 ?_
  exact s_if_eq dX9_block_125 (by decide) (wX9_block_132 hZ hg hd j hj) (wX9_block_128 hZ hg hd j hj)
noncomputable def vX9_block_114 (g : Nat → List Nat → rx_H → Option (Nat × rx_H)) (j : Nat → rx_K) : rx_K := o_ld rx_isR 0 (o_getf 9 9 (o_c1 rx_eq (vX9_block_121 g j) (vX9_block_132 g j)))
set_option maxRecDepth 20000 in
theorem wX9_block_114 {dn : Nat} {g : Nat → List Nat → rx_H → Option (Nat × rx_H)} (hZ : zO b e D A X) (hg : ∀ i y M, vl7[i]? = some (y, M) → rx_Met (zV b e D A X) dn y M (g i)) (hd : 204 ≤ dn) (j : Nat → rx_K) (hj : ∀ k pc, [52][k]? = some pc → rx_OK (zV b e D A X) mX9_block (dn + 1) pc (j k)) : rx_OK (zV b e D A X) mX9_block (dn + 1) 114 (vX9_block_114 g j) := by
  unfold vX9_block_114
  refine s_aload_n hZ.1 dX9_block_114 rfl ?_
  refine yg9_9 dX9_block_115 zw593 ?_
  exact s_if_ne dX9_block_118 (by decide) (wX9_block_132 hZ hg hd j hj) (wX9_block_121 hZ hg hd j hj)
noncomputable def vX9_block_105 (g : Nat → List Nat → rx_H → Option (Nat × rx_H)) (j : Nat → rx_K) : rx_K := o_ld rx_isR 5 (o_st rx_isR 3 (o_inc 4 (1) ((j 0))))
set_option maxRecDepth 20000 in
theorem wX9_block_105 {dn : Nat} {g : Nat → List Nat → rx_H → Option (Nat × rx_H)} (hZ : zO b e D A X) (hg : ∀ i y M, vl7[i]? = some (y, M) → rx_Met (zV b e D A X) dn y M (g i)) (hd : 204 ≤ dn) (j : Nat → rx_K) (hj : ∀ k pc, [52][k]? = some pc → rx_OK (zV b e D A X) mX9_block (dn + 1) pc (j k)) : rx_OK (zV b e D A X) mX9_block (dn + 1) 105 (vX9_block_105 g j) := by
  unfold vX9_block_105
  refine s_aload hZ.1 dX9_block_105 ?_
  refine s_astore_n hZ.1 dX9_block_107 rfl (Nat.le_of_ble_eq_true rfl) ?_
  refine s_iinc hZ.1 dX9_block_108 (Nat.le_of_ble_eq_true rfl) ?_
  exact s_goto dX9_block_111 (by decide) (hj 0 52 rfl)
noncomputable def vX9_block_99 (g : Nat → List Nat → rx_H → Option (Nat × rx_H)) (j : Nat → rx_K) : rx_K := o_ld rx_isR 3 (o_ld rx_isR 5 (o_putf rx_isR 8 8 ((vX9_block_105 g j))))
set_option maxRecDepth 20000 in
theorem wX9_block_99 {dn : Nat} {g : Nat → List Nat → rx_H → Option (Nat × rx_H)} (hZ : zO b e D A X) (hg : ∀ i y M, vl7[i]? = some (y, M) → rx_Met (zV b e D A X) dn y M (g i)) (hd : 204 ≤ dn) (j : Nat → rx_K) (hj : ∀ k pc, [52][k]? = some pc → rx_OK (zV b e D A X) mX9_block (dn + 1) pc (j k)) : rx_OK (zV b e D A X) mX9_block (dn + 1) 99 (vX9_block_99 g j) := by
  unfold vX9_block_99
  refine s_aload_n hZ.1 dX9_block_99 rfl ?_
  refine s_aload hZ.1 dX9_block_100 ?_
  refine yp8_8 hZ.1 dX9_block_102 zw489 ?_
  exact (wX9_block_105 hZ hg hd j hj)
noncomputable def vX9_block_90 (g : Nat → List Nat → rx_H → Option (Nat × rx_H)) (j : Nat → rx_K) : rx_K := o_ld rx_isR 2 (o_ld rx_isR 5 (o_putf rx_isR 8 5 ((vX9_block_105 g j))))
set_option maxRecDepth 20000 in
theorem wX9_block_90 {dn : Nat} {g : Nat → List Nat → rx_H → Option (Nat × rx_H)} (hZ : zO b e D A X) (hg : ∀ i y M, vl7[i]? = some (y, M) → rx_Met (zV b e D A X) dn y M (g i)) (hd : 204 ≤ dn) (j : Nat → rx_K) (hj : ∀ k pc, [52][k]? = some pc → rx_OK (zV b e D A X) mX9_block (dn + 1) pc (j k)) : rx_OK (zV b e D A X) mX9_block (dn + 1) 90 (vX9_block_90 g j) := by
  unfold vX9_block_90
  refine s_aload_n hZ.1 dX9_block_90 rfl ?_
  refine s_aload hZ.1 dX9_block_91 ?_
  refine yp8_5 hZ.1 dX9_block_93 zw477 ?_
  exact s_goto dX9_block_96 (by decide) (wX9_block_105 hZ hg hd j hj)
noncomputable def vX9_block_77 (g : Nat → List Nat → rx_H → Option (Nat × rx_H)) (j : Nat → rx_K) : rx_K := o_ld rx_isR 0 (o_ld rx_isI 1 (o_const 8 (o_bi (fun x y => x + y) (o_callV 1 9 (g 1) (o_st rx_isR 5 (o_ld rx_isR 3 (o_nul (vX9_block_90 g j) (vX9_block_99 g j))))))))
set_option maxRecDepth 20000 in
theorem wX9_block_77 {dn : Nat} {g : Nat → List Nat → rx_H → Option (Nat × rx_H)} (hZ : zO b e D A X) (hg : ∀ i y M, vl7[i]? = some (y, M) → rx_Met (zV b e D A X) dn y M (g i)) (hd : 204 ≤ dn) (j : Nat → rx_K) (hj : ∀ k pc, [52][k]? = some pc → rx_OK (zV b e D A X) mX9_block (dn + 1) pc (j k)) : rx_OK (zV b e D A X) mX9_block (dn + 1) 77 (vX9_block_77 g j) := by
  unfold vX9_block_77
  refine s_aload_n hZ.1 dX9_block_77 rfl ?_
  refine s_iload_n hZ.1 dX9_block_78 rfl ?_
  refine s_iconst dX9_block_79 (by decide +kernel) ?_
  refine s_iadd dX9_block_80 ?_
  refine s_callV hZ.1 (hg 1 _ _ rfl) (Nat.le_refl _) vy_X9_statement zcl9 zw1820 zw26 (Or.inl zw1818) dX9_block_81 ?_
  refine s_astore hZ.1 dX9_block_84 (Nat.le_of_ble_eq_true rfl) ?_
  refine s_aload_n hZ.1 dX9_block_86 rfl ?_
  exact s_ifnonnull dX9_block_87 (by decide) (wX9_block_99 hZ hg hd j hj) (wX9_block_90 hZ hg hd j hj)
noncomputable def vX9_block_67 (g : Nat → List Nat → rx_H → Option (Nat × rx_H)) (j : Nat → rx_K) : rx_K := o_ld rx_isR 0 (o_callV 0 9 FX9_now (o_const 1800 (o_c2 rx_eq (vX9_block_114 g j) (vX9_block_77 g j))))
set_option maxRecDepth 20000 in
theorem wX9_block_67 {dn : Nat} {g : Nat → List Nat → rx_H → Option (Nat × rx_H)} (hZ : zO b e D A X) (hg : ∀ i y M, vl7[i]? = some (y, M) → rx_Met (zV b e D A X) dn y M (g i)) (hd : 204 ≤ dn) (j : Nat → rx_K) (hj : ∀ k pc, [52][k]? = some pc → rx_OK (zV b e D A X) mX9_block (dn + 1) pc (j k)) : rx_OK (zV b e D A X) mX9_block (dn + 1) 67 (vX9_block_67 g j) := by
  unfold vX9_block_67
  refine s_aload_n hZ.1 dX9_block_67 rfl ?_
  refine s_callV hZ.1 (Met_X9_now hZ) (Nat.succ_le_succ (Nat.le_trans (Nat.le_of_ble_eq_true rfl) hd)) vy_X9_now zcl9 zw1746 zw12 (Or.inl zw1744) dX9_block_68 ?_
  refine s_sipush dX9_block_71 (by decide +kernel) ?_
  exact s_icmp_eq dX9_block_74 (by decide) (wX9_block_114 hZ hg hd j hj) (wX9_block_77 hZ hg hd j hj)
noncomputable def vX9_block_60 (g : Nat → List Nat → rx_H → Option (Nat × rx_H)) (j : Nat → rx_K) : rx_K := o_ld rx_isR 0 (o_getf 9 9 (o_c1 rx_eq (vX9_block_67 g j) (vX9_block_114 g j)))
set_option maxRecDepth 20000 in
theorem wX9_block_60 {dn : Nat} {g : Nat → List Nat → rx_H → Option (Nat × rx_H)} (hZ : zO b e D A X) (hg : ∀ i y M, vl7[i]? = some (y, M) → rx_Met (zV b e D A X) dn y M (g i)) (hd : 204 ≤ dn) (j : Nat → rx_K) (hj : ∀ k pc, [52][k]? = some pc → rx_OK (zV b e D A X) mX9_block (dn + 1) pc (j k)) : rx_OK (zV b e D A X) mX9_block (dn + 1) 60 (vX9_block_60 g j) := by
  unfold vX9_block_60
  refine s_aload_n hZ.1 dX9_block_60 rfl ?_
  refine yg9_9 dX9_block_61 zw593 ?_
  exact s_if_ne dX9_block_64 (by decide) (wX9_block_114 hZ hg hd j hj) (wX9_block_67 hZ hg hd j hj)
noncomputable def vX9_block_52 (g : Nat → List Nat → rx_H → Option (Nat × rx_H)) (j : Nat → rx_K) : rx_K := o_ld rx_isI 4 (o_const 5600 (o_c2 (fun h x y => rx_lt h y x) (vX9_block_114 g j) (vX9_block_60 g j)))
set_option maxRecDepth 20000 in
theorem wX9_block_52 {dn : Nat} {g : Nat → List Nat → rx_H → Option (Nat × rx_H)} (hZ : zO b e D A X) (hg : ∀ i y M, vl7[i]? = some (y, M) → rx_Met (zV b e D A X) dn y M (g i)) (hd : 204 ≤ dn) (j : Nat → rx_K) (hj : ∀ k pc, [52][k]? = some pc → rx_OK (zV b e D A X) mX9_block (dn + 1) pc (j k)) : rx_OK (zV b e D A X) mX9_block (dn + 1) 52 (vX9_block_52 g j) := by
  unfold vX9_block_52
  refine s_iload hZ.1 dX9_block_52 ?_
  refine s_sipush dX9_block_54 (by decide +kernel) ?_
  exact s_icmp_gt dX9_block_57 (by decide) (wX9_block_114 hZ hg hd j hj) (wX9_block_60 hZ hg hd j hj)
noncomputable def vX9_block_31 (g : Nat → List Nat → rx_H → Option (Nat × rx_H)) (j : Nat → rx_K) : rx_K := o_ld rx_isR 0 (o_const 240 (o_ld rx_isR 0 (o_getf 9 8 (o_callV 2 9 FX9_node (o_st rx_isR 2 (o_ld rx_isR 0 (o_callV 0 9 FX9_take (o_pop (o_const 3 (o_st rx_isR 3 (o_const 0 (o_st rx_isI 4 ((vX9_block_52 g j))))))))))))))
set_option maxRecDepth 20000 in
theorem wX9_block_31 {dn : Nat} {g : Nat → List Nat → rx_H → Option (Nat × rx_H)} (hZ : zO b e D A X) (hg : ∀ i y M, vl7[i]? = some (y, M) → rx_Met (zV b e D A X) dn y M (g i)) (hd : 204 ≤ dn) (j : Nat → rx_K) (hj : ∀ k pc, [52][k]? = some pc → rx_OK (zV b e D A X) mX9_block (dn + 1) pc (j k)) : rx_OK (zV b e D A X) mX9_block (dn + 1) 31 (vX9_block_31 g j) := by
  unfold vX9_block_31
  refine s_aload_n hZ.1 dX9_block_31 rfl ?_
  refine s_bipush dX9_block_32 (by decide +kernel) ?_
  refine s_aload_n hZ.1 dX9_block_34 rfl ?_
  refine yg9_8 dX9_block_35 zw592 ?_
  refine s_callV hZ.1 (Met_X9_node hZ) (Nat.succ_le_succ (Nat.le_trans (Nat.le_of_ble_eq_true rfl) hd)) vy_X9_node zcl9 zw1811 zw25 (Or.inl zw1809) dX9_block_38 ?_
  refine s_astore_n hZ.1 dX9_block_41 rfl (Nat.le_of_ble_eq_true rfl) ?_
  refine s_aload_n hZ.1 dX9_block_42 rfl ?_
  refine s_callV hZ.1 (Met_X9_take hZ) (Nat.succ_le_succ (Nat.le_trans (Nat.le_of_ble_eq_true rfl) hd)) vy_X9_take zcl9 zw1754 zw14 (Or.inl zw1752) dX9_block_43 ?_
  refine s_pop hZ.1 dX9_block_46 ?_
  refine s_null dX9_block_47 ?_
  refine s_astore_n hZ.1 dX9_block_48 rfl (Nat.le_of_ble_eq_true rfl) ?_
  refine s_iconst dX9_block_49 (by decide +kernel) ?_
  refine s_istore hZ.1 dX9_block_50 (Nat.le_of_ble_eq_true rfl) ?_
  exact (wX9_block_52 hZ hg hd j hj)
noncomputable def vX9_block_23 (g : Nat → List Nat → rx_H → Option (Nat × rx_H)) (j : Nat → rx_K) : rx_K := o_ld rx_isR 0 (o_const 24 (o_callV 1 9 FX9_stop (o_pop (o_const 3 (o_ret1 rx_isR)))))
set_option maxRecDepth 20000 in
theorem wX9_block_23 {dn : Nat} {g : Nat → List Nat → rx_H → Option (Nat × rx_H)} (hZ : zO b e D A X) (hg : ∀ i y M, vl7[i]? = some (y, M) → rx_Met (zV b e D A X) dn y M (g i)) (hd : 204 ≤ dn) (j : Nat → rx_K) (hj : ∀ k pc, [52][k]? = some pc → rx_OK (zV b e D A X) mX9_block (dn + 1) pc (j k)) : rx_OK (zV b e D A X) mX9_block (dn + 1) 23 (vX9_block_23 g j) := by
  unfold vX9_block_23
  refine s_aload_n hZ.1 dX9_block_23 rfl ?_
  refine s_iconst dX9_block_24 (by decide +kernel) ?_
  refine s_callV hZ.1 (Met_X9_stop hZ) (Nat.succ_le_succ (Nat.le_trans (Nat.le_of_ble_eq_true rfl) hd)) vy_X9_stop zcl9 zw1758 zw15 (Or.inl zw1756) dX9_block_25 ?_
  refine s_pop hZ.1 dX9_block_28 ?_
  refine s_null dX9_block_29 ?_
  exact s_aret hZ.1 rfl (Or.inl ⟨_, rfl⟩) dX9_block_30
noncomputable def vX9_block_17 (g : Nat → List Nat → rx_H → Option (Nat × rx_H)) (j : Nat → rx_K) : rx_K := o_ld rx_isI 1 (o_const 96 (o_c2 rx_lt (vX9_block_31 g j) (vX9_block_23 g j)))
set_option maxRecDepth 20000 in
theorem wX9_block_17 {dn : Nat} {g : Nat → List Nat → rx_H → Option (Nat × rx_H)} (hZ : zO b e D A X) (hg : ∀ i y M, vl7[i]? = some (y, M) → rx_Met (zV b e D A X) dn y M (g i)) (hd : 204 ≤ dn) (j : Nat → rx_K) (hj : ∀ k pc, [52][k]? = some pc → rx_OK (zV b e D A X) mX9_block (dn + 1) pc (j k)) : rx_OK (zV b e D A X) mX9_block (dn + 1) 17 (vX9_block_17 g j) := by
  unfold vX9_block_17
  refine s_iload_n hZ.1 dX9_block_17 rfl ?_
  refine s_bipush dX9_block_18 (by decide +kernel) ?_
  exact s_icmp_lt dX9_block_20 (by decide) (wX9_block_31 hZ hg hd j hj) (wX9_block_23 hZ hg hd j hj)
noncomputable def vX9_block_10 (g : Nat → List Nat → rx_H → Option (Nat × rx_H)) (j : Nat → rx_K) : rx_K := o_ld rx_isR 0 (o_callV 0 9 FX9_miss (o_pop (o_const 3 (o_ret1 rx_isR))))
set_option maxRecDepth 20000 in
theorem wX9_block_10 {dn : Nat} {g : Nat → List Nat → rx_H → Option (Nat × rx_H)} (hZ : zO b e D A X) (hg : ∀ i y M, vl7[i]? = some (y, M) → rx_Met (zV b e D A X) dn y M (g i)) (hd : 204 ≤ dn) (j : Nat → rx_K) (hj : ∀ k pc, [52][k]? = some pc → rx_OK (zV b e D A X) mX9_block (dn + 1) pc (j k)) : rx_OK (zV b e D A X) mX9_block (dn + 1) 10 (vX9_block_10 g j) := by
  unfold vX9_block_10
  refine s_aload_n hZ.1 dX9_block_10 rfl ?_
  refine s_callV hZ.1 (Met_X9_miss hZ) (Nat.succ_le_succ (Nat.le_trans (Nat.le_of_ble_eq_true rfl) hd)) vy_X9_miss zcl9 zw1762 zw16 (Or.inl zw1760) dX9_block_11 ?_
  refine s_pop hZ.1 dX9_block_14 ?_
  refine s_null dX9_block_15 ?_
  exact s_aret hZ.1 rfl (Or.inl ⟨_, rfl⟩) dX9_block_16
noncomputable def vX9_block_0 (g : Nat → List Nat → rx_H → Option (Nat × rx_H)) (j : Nat → rx_K) : rx_K := o_ld rx_isR 0 (o_callV 0 9 FX9_now (o_const 1784 (o_c2 rx_eq (vX9_block_17 g j) (vX9_block_10 g j))))
set_option maxRecDepth 20000 in
theorem wX9_block_0 {dn : Nat} {g : Nat → List Nat → rx_H → Option (Nat × rx_H)} (hZ : zO b e D A X) (hg : ∀ i y M, vl7[i]? = some (y, M) → rx_Met (zV b e D A X) dn y M (g i)) (hd : 204 ≤ dn) (j : Nat → rx_K) (hj : ∀ k pc, [52][k]? = some pc → rx_OK (zV b e D A X) mX9_block (dn + 1) pc (j k)) : rx_OK (zV b e D A X) mX9_block (dn + 1) 0 (vX9_block_0 g j) := by
  unfold vX9_block_0
  refine s_aload_n hZ.1 dX9_block_0 rfl ?_
  refine s_callV hZ.1 (Met_X9_now hZ) (Nat.succ_le_succ (Nat.le_trans (Nat.le_of_ble_eq_true rfl) hd)) vy_X9_now zcl9 zw1746 zw12 (Or.inl zw1744) dX9_block_1 ?_
  refine s_sipush dX9_block_4 (by decide +kernel) ?_
  exact s_icmp_eq dX9_block_7 (by decide) (wX9_block_17 hZ hg hd j hj) (wX9_block_10 hZ hg hd j hj)
noncomputable def vhX9_block (g : Nat → List Nat → rx_H → Option (Nat × rx_H)) (j : Nat → rx_K) : List rx_K := [vX9_block_52 g j]
theorem vlX9_block {dn : Nat} {g : Nat → List Nat → rx_H → Option (Nat × rx_H)} (hZ : zO b e D A X) (hg : ∀ i y M, vl7[i]? = some (y, M) → rx_Met (zV b e D A X) dn y M (g i)) (hd : 204 ≤ dn) : ∀ n k pc, [52][k]? = some pc → rx_OK (zV b e D A X) mX9_block (dn + 1) pc (rx_J (vhX9_block g) n k) := rx_loop fun j hj k pc h => by
  match k, h with
  | 0, h =>
    have e9 := Option.some.inj (show some 52 = some pc from h)
    subst e9
    exact wX9_block_52 hZ hg hd j hj
  | _ + 1, h => exact absurd h (by simp)
noncomputable def FX9_block (g : Nat → List Nat → rx_H → Option (Nat × rx_H)) : List Nat → rx_H → Option (Nat × rx_H) := rx_ent 6 (vX9_block_0 g (rx_J (vhX9_block g) 4000000000))
theorem Met_X9_block {dn : Nat} {g : Nat → List Nat → rx_H → Option (Nat × rx_H)} (hZ : zO b e D A X) (hg : ∀ i y M, vl7[i]? = some (y, M) → rx_Met (zV b e D A X) dn y M (g i)) (hd : 204 ≤ dn) : rx_Met (zV b e D A X) (dn + 1) yX9_block mX9_block (FX9_block g) := rx_entry hZ.1 (wX9_block_0 hZ hg hd _ (vlX9_block hZ hg hd 4000000000)) (by decide +kernel) rfl (fun h => by cases h)
end ZM25

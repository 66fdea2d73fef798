section ZM23
variable {b : Nat} {e : Nat → Value} {D : va_G} {A : Nat → ClassId} {X : State → Prop}
abbrev mX9_init : rx_M := (RX9, cX9_init, 5, none, true)
theorem vy_X9_init : rx_Y (zV b e D A X) yX9_init mX9_init 0 := ⟨zw448, zw414, by decide, by decide +kernel, by decide +kernel, by decide +kernel⟩
noncomputable def vX9_init_180 (j : Nat → rx_K) : rx_K := o_ret0
set_option maxRecDepth 20000 in
theorem wX9_init_180 (hZ : zO b e D A X) (j : Nat → rx_K) (hj : ∀ k pc, [60, 92][k]? = some pc → rx_OK (zV b e D A X) mX9_init 4 pc (j k)) : rx_OK (zV b e D A X) mX9_init 4 180 (vX9_init_180 j) := by
  unfold vX9_init_180
  exact s_vret rfl dX9_init_180
noncomputable def vX9_init_174 (j : Nat → rx_K) : rx_K := o_inc 3 (1) ((j 1))
set_option maxRecDepth 20000 in
theorem wX9_init_174 (hZ : zO b e D A X) (j : Nat → rx_K) (hj : ∀ k pc, [60, 92][k]? = some pc → rx_OK (zV b e D A X) mX9_init 4 pc (j k)) : rx_OK (zV b e D A X) mX9_init 4 174 (vX9_init_174 j) := by
  unfold vX9_init_174
  refine s_iinc hZ.1 dX9_init_174 (Nat.le_of_ble_eq_true rfl) ?_
  exact s_goto dX9_init_177 (by decide) (hj 1 92 rfl)
noncomputable def vX9_init_155 (j : Nat → rx_K) : rx_K := o_ld rx_isR 0 (o_getf 9 0 (o_ld rx_isI 1 (o_dup2 (o_ald 1 (o_ld rx_isI 4 (o_callS 1 FX9_sixBits (o_ld rx_isI 2 (o_bs (fun x y => x <<< (y.toInt64 &&& 63)) (o_bl (fun x y => x ||| y) (o_ast 1 (fun v => v) rx_isL (o_inc 2 (-6) ((vX9_init_174 j)))))))))))))
set_option maxRecDepth 20000 in
theorem wX9_init_155 (hZ : zO b e D A X) (j : Nat → rx_K) (hj : ∀ k pc, [60, 92][k]? = some pc → rx_OK (zV b e D A X) mX9_init 4 pc (j k)) : rx_OK (zV b e D A X) mX9_init 4 155 (vX9_init_155 j) := by
  unfold vX9_init_155
  refine s_aload_n hZ.1 dX9_init_155 rfl ?_
  refine yg9_0 dX9_init_156 zw581 ?_
  refine s_iload_n hZ.1 dX9_init_159 rfl ?_
  refine s_dup2 hZ.1 dX9_init_160 ?_
  refine s_lald (tt := 1) rfl dX9_init_161 ?_
  refine s_iload hZ.1 dX9_init_162 ?_
  refine s_callS hZ.1 (Met_X9_sixBits hZ) (Nat.le_of_ble_eq_true rfl) vy_X9_sixBits zw579 (Or.inl zw578) dX9_init_164 ?_
  refine s_iload_n hZ.1 dX9_init_167 rfl ?_
  refine s_lshl dX9_init_168 ?_
  refine s_lor dX9_init_169 ?_
  refine s_last (tt := 1) rfl dX9_init_170 ?_
  refine s_iinc hZ.1 dX9_init_171 (Nat.le_of_ble_eq_true rfl) ?_
  exact (wX9_init_174 hZ j hj)
noncomputable def vX9_init_134 (j : Nat → rx_K) : rx_K := o_ld rx_isR 0 (o_getf 9 0 (o_ld rx_isI 1 (o_ld rx_isI 4 (o_const 776 (o_bi (fun x y => x - y) (o_il (fun x => x.toInt64) (o_const 432 (o_bs (fun x y => x <<< (y.toInt64 &&& 63)) (o_ast 1 (fun v => v) rx_isL (o_const 384 (o_st rx_isI 2 ((vX9_init_174 j)))))))))))))
set_option maxRecDepth 20000 in
theorem wX9_init_134 (hZ : zO b e D A X) (j : Nat → rx_K) (hj : ∀ k pc, [60, 92][k]? = some pc → rx_OK (zV b e D A X) mX9_init 4 pc (j k)) : rx_OK (zV b e D A X) mX9_init 4 134 (vX9_init_134 j) := by
  unfold vX9_init_134
  refine s_aload_n hZ.1 dX9_init_134 rfl ?_
  refine yg9_0 dX9_init_135 zw581 ?_
  refine s_iload_n hZ.1 dX9_init_138 rfl ?_
  refine s_iload hZ.1 dX9_init_139 ?_
  refine s_bipush dX9_init_141 (by decide +kernel) ?_
  refine s_isub dX9_init_143 ?_
  refine s_i2l dX9_init_144 ?_
  refine s_bipush dX9_init_145 (by decide +kernel) ?_
  refine s_lshl dX9_init_147 ?_
  refine s_last (tt := 1) rfl dX9_init_148 ?_
  refine s_bipush dX9_init_149 (by decide +kernel) ?_
  refine s_istore_n hZ.1 dX9_init_151 rfl (Nat.le_of_ble_eq_true rfl) ?_
  exact s_goto dX9_init_152 (by decide) (wX9_init_174 hZ j hj)
noncomputable def vX9_init_130 (j : Nat → rx_K) : rx_K := o_ld rx_isI 2 (o_c1 rx_eq (vX9_init_134 j) (vX9_init_155 j))
set_option maxRecDepth 20000 in
theorem wX9_init_130 (hZ : zO b e D A X) (j : Nat → rx_K) (hj : ∀ k pc, [60, 92][k]? = some pc → rx_OK (zV b e D A X) mX9_init 4 pc (j k)) : rx_OK (zV b e D A X) mX9_init 4 130 (vX9_init_130 j) := by
  unfold vX9_init_130
  refine s_iload_n hZ.1 dX9_init_130 rfl ?_
  exact s_if_ne dX9_init_131 (by decide) (wX9_init_155 hZ j hj) (wX9_init_134 hZ j hj)
noncomputable def vX9_init_122 (j : Nat → rx_K) : rx_K := o_inc 1 (1) (o_const 0 (o_st rx_isI 2 ((vX9_init_174 j))))
set_option maxRecDepth 20000 in
theorem wX9_init_122 (hZ : zO b e D A X) (j : Nat → rx_K) (hj : ∀ k pc, [60, 92][k]? = some pc → rx_OK (zV b e D A X) mX9_init 4 pc (j k)) : rx_OK (zV b e D A X) mX9_init 4 122 (vX9_init_122 j) := by
  unfold vX9_init_122
  refine s_iinc hZ.1 dX9_init_122 (Nat.le_of_ble_eq_true rfl) ?_
  refine s_iconst dX9_init_125 (by decide +kernel) ?_
  refine s_istore_n hZ.1 dX9_init_126 rfl (Nat.le_of_ble_eq_true rfl) ?_
  exact s_goto dX9_init_127 (by decide) (wX9_init_174 hZ j hj)
noncomputable def vX9_init_113 (j : Nat → rx_K) : rx_K := o_st rx_isI 4 (o_ld rx_isI 4 (o_const 256 (o_c2 rx_eq (vX9_init_122 j) (vX9_init_130 j))))
set_option maxRecDepth 20000 in
theorem wX9_init_113 (hZ : zO b e D A X) (j : Nat → rx_K) (hj : ∀ k pc, [60, 92][k]? = some pc → rx_OK (zV b e D A X) mX9_init 4 pc (j k)) : rx_OK (zV b e D A X) mX9_init 4 113 (vX9_init_113 j) := by
  unfold vX9_init_113
  refine s_istore hZ.1 dX9_init_113 (Nat.le_of_ble_eq_true rfl) ?_
  refine s_iload hZ.1 dX9_init_115 ?_
  refine s_bipush dX9_init_117 (by decide +kernel) ?_
  exact s_icmp_ne dX9_init_119 (by decide) (wX9_init_130 hZ j hj) (wX9_init_122 hZ j hj)
noncomputable def vX9_init_107 (j : Nat → rx_K) : rx_K := o_const 52 (o_ld rx_isI 3 (o_alt (zqn 1 6) (o_callX 1 6 FJ0_charAt_5068e ((vX9_init_113 j))) (o_alt (zqn 1 8) (o_callX 1 8 FJ0_charAt_5068e ((vX9_init_113 j))) (o_alt (zqn 1 10) (o_callX 1 10 FJ0_charAt_5068e ((vX9_init_113 j))) (o_alt (zqn 1 12) (o_callX 1 12 FJ0_charAt_5068e ((vX9_init_113 j))) (o_alt (zqn 1 14) (o_callX 1 14 FJ0_charAt_5068e ((vX9_init_113 j))) (o_alt (zqn 1 16) (o_callX 1 16 FJ0_charAt_5068e ((vX9_init_113 j))) (o_alt (zqn 1 18) (o_callX 1 18 FJ0_charAt_5068e ((vX9_init_113 j))) (o_alt (zqn 1 20) (o_callX 1 20 FJ0_charAt_5068e ((vX9_init_113 j))) (o_alt (zqn 1 22) (o_callX 1 22 FJ0_charAt_5068e ((vX9_init_113 j))) (o_alt (zqn 1 24) (o_callX 1 24 FJ0_charAt_5068e ((vX9_init_113 j))) (o_alt (zqn 1 26) (o_callX 1 26 FJ0_charAt_5068e ((vX9_init_113 j))) (o_alt (zqn 1 28) (o_callX 1 28 FJ0_charAt_5068e ((vX9_init_113 j))) (o_alt (zqn 1 30) (o_callX 1 30 FJ0_charAt_5068e ((vX9_init_113 j))) (o_alt (zqn 1 32) (o_callX 1 32 FJ0_charAt_5068e ((vX9_init_113 j))) (o_alt (zqn 1 34) (o_callX 1 34 FJ0_charAt_5068e ((vX9_init_113 j))) (o_alt (zqn 1 36) (o_callX 1 36 FJ0_charAt_5068e ((vX9_init_113 j))) (o_alt (zqn 1 38) (o_callX 1 38 FJ0_charAt_5068e ((vX9_init_113 j))) (o_alt (zqn 1 40) (o_callX 1 40 FJ0_charAt_5068e ((vX9_init_113 j))) (o_alt (zqn 1 42) (o_callX 1 42 FJ0_charAt_5068e ((vX9_init_113 j))) (o_alt (zqn 1 44) (o_callX 1 44 FJ0_charAt_5068e ((vX9_init_113 j))) (o_alt (zqn 1 46) (o_callX 1 46 FJ0_charAt_5068e ((vX9_init_113 j))) (o_alt (zqn 1 48) (o_callX 1 48 FJ0_charAt_5068e ((vX9_init_113 j))) (o_alt (zqn 1 50) (o_callX 1 50 FJ0_charAt_5068e ((vX9_init_113 j))) (o_alt (zqn 1 52) (o_callX 1 52 FJ0_charAt_5068e ((vX9_init_113 j))) (o_alt (zqn 1 54) (o_callX 1 54 FJ0_charAt_5068e ((vX9_init_113 j))) (o_alt (zqn 1 56) (o_callX 1 56 FJ0_charAt_5068e ((vX9_init_113 j))) (o_alt (zqn 1 58) (o_callX 1 58 FJ0_charAt_5068e ((vX9_init_113 j))) (o_alt (zqn 1 60) (o_callX 1 60 FJ0_charAt_5068e ((vX9_init_113 j))) (o_alt (zqn 1 62) (o_callX 1 62 FJ0_charAt_5068e ((vX9_init_113 j))) (o_alt (zqn 1 64) (o_callX 1 64 FJ0_charAt_5068e ((vX9_init_113 j))) (o_alt (zqn 1 66) (o_callX 1 66 FJ0_charAt_5068e ((vX9_init_113 j))) (o_alt (zqn 1 68) (o_callX 1 68 FJ0_charAt_5068e ((vX9_init_113 j))) (o_alt (zqn 1 70) (o_callX 1 70 FJ0_charAt_5068e ((vX9_init_113 j))) (o_alt (zqn 1 72) (o_callX 1 72 FJ0_charAt_5068e ((vX9_init_113 j))) (o_alt (zqn 1 74) (o_callX 1 74 FJ0_charAt_5068e ((vX9_init_113 j))) (o_alt (zqn 1 76) (o_callX 1 76 FJ0_charAt_5068e ((vX9_init_113 j))) (o_alt (zqn 1 78) (o_callX 1 78 FJ0_charAt_5068e ((vX9_init_113 j))) (o_alt (zqn 1 80) (o_callX 1 80 FJ0_charAt_5068e ((vX9_init_113 j))) (o_alt (zqn 1 82) (o_callX 1 82 FJ0_charAt_5068e ((vX9_init_113 j))) (o_alt (zqn 1 84) (o_callX 1 84 FJ0_charAt_5068e ((vX9_init_113 j))) (o_alt (zqn 1 86) (o_callX 1 86 FJ0_charAt_5068e ((vX9_init_113 j))) (o_alt (zqn 1 88) (o_callX 1 88 FJ0_charAt_5068e ((vX9_init_113 j))) (o_alt (zqn 1 90) (o_callX 1 90 FJ0_charAt_5068e ((vX9_init_113 j))) (o_alt (zqn 1 92) (o_callX 1 92 FJ0_charAt_5068e ((vX9_init_113 j))) (o_alt (zqn 1 94) (o_callX 1 94 FJ0_charAt_5068e ((vX9_init_113 j))) (o_alt (zqn 1 96) (o_callX 1 96 FJ0_charAt_5068e ((vX9_init_113 j))) (o_alt (zqn 1 98) (o_callX 1 98 FJ0_charAt_5068e ((vX9_init_113 j))) (o_alt (zqn 1 100) (o_callX 1 100 FJ0_charAt_5068e ((vX9_init_113 j))) (o_alt (zqn 1 102) (o_callX 1 102 FJ0_charAt_5068e ((vX9_init_113 j))) (o_alt (zqn 1 104) (o_callX 1 104 FJ0_charAt_5068e ((vX9_init_113 j))) (o_alt (zqn 1 106) (o_callX 1 106 FJ0_charAt_5068e ((vX9_init_113 j))) (o_alt (zqn 1 108) (o_callX 1 108 FJ0_charAt_5068e ((vX9_init_113 j))) (o_alt (zqn 1 110) (o_callX 1 110 FJ0_charAt_5068e ((vX9_init_113 j))) (o_alt (zqn 1 112) (o_callX 1 112 FJ0_charAt_5068e ((vX9_init_113 j))) (o_alt (zqn 1 114) (o_callX 1 114 FJ0_charAt_5068e ((vX9_init_113 j))) (o_alt (zqn 1 116) (o_callX 1 116 FJ0_charAt_5068e ((vX9_init_113 j))) (o_alt (zqn 1 118) (o_callX 1 118 FJ0_charAt_5068e ((vX9_init_113 j))) (o_alt (zqn 1 120) (o_callX 1 120 FJ0_charAt_5068e ((vX9_init_113 j))) (o_alt (zqn 1 122) (o_callX 1 122 FJ0_charAt_5068e ((vX9_init_113 j))) (o_alt (zqn 1 124) (o_callX 1 124 FJ0_charAt_5068e ((vX9_init_113 j))) (o_alt (zqn 1 126) (o_callX 1 126 FJ0_charAt_5068e ((vX9_init_113 j))) (o_alt (zqn 1 128) (o_callX 1 128 FJ0_charAt_5068e ((vX9_init_113 j))) (o_alt (zqn 1 130) (o_callX 1 130 FJ0_charAt_5068e ((vX9_init_113 j))) (o_alt (zqn 1 132) (o_callX 1 132 FJ0_charAt_5068e ((vX9_init_113 j))) (o_alt (zqn 1 134) (o_callX 1 134 FJ0_charAt_5068e ((vX9_init_113 j))) (o_alt (zqn 1 136) (o_callX 1 136 FJ0_charAt_5068e ((vX9_init_113 j))) (o_alt (zqn 1 138) (o_callX 1 138 FJ0_charAt_5068e ((vX9_init_113 j))) (o_alt (zqn 1 140) (o_callX 1 140 FJ0_charAt_5068e ((vX9_init_113 j))) (o_alt (zqn 1 142) (o_callX 1 142 FJ0_charAt_5068e ((vX9_init_113 j))) (o_alt (zqn 1 144) (o_callX 1 144 FJ0_charAt_5068e ((vX9_init_113 j))) (o_alt (zqn 1 146) (o_callX 1 146 FJ0_charAt_5068e ((vX9_init_113 j))) (o_alt (zqn 1 148) (o_callX 1 148 FJ0_charAt_5068e ((vX9_init_113 j))) (o_alt (zqn 1 150) (o_callX 1 150 FJ0_charAt_5068e ((vX9_init_113 j))) (o_alt (zqn 1 152) (o_callX 1 152 FJ0_charAt_5068e ((vX9_init_113 j))) (o_alt (zqn 1 154) (o_callX 1 154 FJ0_charAt_5068e ((vX9_init_113 j))) (o_alt (zqn 1 156) (o_callX 1 156 FJ0_charAt_5068e ((vX9_init_113 j))) (o_alt (zqn 1 158) (o_callX 1 158 FJ0_charAt_5068e ((vX9_init_113 j))) (o_none)))))))))))))))))))))))))))))))))))))))))))))))))))))))))))))))))))))))))))))))
set_option maxRecDepth 20000 in
theorem wX9_init_107 (hZ : zO b e D A X) (j : Nat → rx_K) (hj : ∀ k pc, [60, 92][k]? = some pc → rx_OK (zV b e D A X) mX9_init 4 pc (j k)) : rx_OK (zV b e D A X) mX9_init 4 107 (vX9_init_107 j) := by
  unfold vX9_init_107
  refine s_ldcS (k := 6) (zo_R6 hZ) dX9_init_107 ?_
  refine s_iload_n hZ.1 dX9_init_109 rfl ?_
  exact (s_alt (s_callX hZ.1 (Met_J0_charAt_5068e hZ) (Nat.le_of_ble_eq_true rfl) vy_J0_charAt_5068e (zo_O6 hZ) zw541 zw542 zw540 dX9_init_110 (wX9_init_113 hZ j hj)) (s_alt (s_callX hZ.1 (Met_J0_charAt_5068e hZ) (Nat.le_of_ble_eq_true rfl) vy_J0_charAt_5068e (zo_O8 hZ) zw541 zw542 zw540 dX9_init_110 (wX9_init_113 hZ j hj)) (s_alt (s_callX hZ.1 (Met_J0_charAt_5068e hZ) (Nat.le_of_ble_eq_true rfl) vy_J0_charAt_5068e (zo_O10 hZ) zw541 zw542 zw540 dX9_init_110 (wX9_init_113 hZ j hj)) (s_alt (s_callX hZ.1 (Met_J0_charAt_5068e hZ) (Nat.le_of_ble_eq_true rfl) vy_J0_charAt_5068e (zo_O12 hZ) zw541 zw542 zw540 dX9_init_110 (wX9_init_113 hZ j hj)) (s_alt (s_callX hZ.1 (Met_J0_charAt_5068e hZ) (Nat.le_of_ble_eq_true rfl) vy_J0_charAt_5068e (zo_O14 hZ) zw541 zw542 zw540 dX9_init_110 (wX9_init_113 hZ j hj)) (s_alt (s_callX hZ.1 (Met_J0_charAt_5068e hZ) (Nat.le_of_ble_eq_true rfl) vy_J0_charAt_5068e (zo_O16 hZ) zw541 zw542 zw540 dX9_init_110 (wX9_init_113 hZ j hj)) (s_alt (s_callX hZ.1 (Met_J0_charAt_5068e hZ) (Nat.le_of_ble_eq_true rfl) vy_J0_charAt_5068e (zo_O18 hZ) zw541 zw542 zw540 dX9_init_110 (wX9_init_113 hZ j hj)) (s_alt (s_callX hZ.1 (Met_J0_charAt_5068e hZ) (Nat.le_of_ble_eq_true rfl) vy_J0_charAt_5068e (zo_O20 hZ) zw541 zw542 zw540 dX9_init_110 (wX9_init_113 hZ j hj)) (s_alt (s_callX hZ.1 (Met_J0_charAt_5068e hZ) (Nat.le_of_ble_eq_true rfl) vy_J0_charAt_5068e (zo_O22 hZ) zw541 zw542 zw540 dX9_init_110 (wX9_init_113 hZ j hj)) (s_alt (s_callX hZ.1 (Met_J0_charAt_5068e hZ) (Nat.le_of_ble_eq_true rfl) vy_J0_charAt_5068e (zo_O24 hZ) zw541 zw542 zw540 dX9_init_110 (wX9_init_113 hZ j hj)) (s_alt (s_callX hZ.1 (Met_J0_charAt_5068e hZ) (Nat.le_of_ble_eq_true rfl) vy_J0_charAt_5068e (zo_O26 hZ) zw541 zw542 zw540 dX9_init_110 (wX9_init_113 hZ j hj)) (s_alt (s_callX hZ.1 (Met_J0_charAt_5068e hZ) (Nat.le_of_ble_eq_true rfl) vy_J0_charAt_5068e (zo_O28 hZ) zw541 zw542 zw540 dX9_init_110 (wX9_init_113 hZ j hj)) (s_alt (s_callX hZ.1 (Met_J0_charAt_5068e hZ) (Nat.le_of_ble_eq_true rfl) vy_J0_charAt_5068e (zo_O30 hZ) zw541 zw542 zw540 dX9_init_110 (wX9_init_113 hZ j hj)) (s_alt (s_callX hZ.1 (Met_J0_charAt_5068e hZ) (Nat.le_of_ble_eq_true rfl) vy_J0_charAt_5068e (zo_O32 hZ) zw541 zw542 zw540 dX9_init_110 (wX9_init_113 hZ j hj)) (s_alt (s_callX hZ.1 (Met_J0_charAt_5068e hZ) (Nat.le_of_ble_eq_true rfl) vy_J0_charAt_5068e (zo_O34 hZ) zw541 zw542 zw540 dX9_init_110 (wX9_init_113 hZ j hj)) (s_alt (s_callX hZ.1 (Met_J0_charAt_5068e hZ) (Nat.le_of_ble_eq_true rfl) vy_J0_charAt_5068e (zo_O36 hZ) zw541 zw542 zw540 dX9_init_110 (wX9_init_113 hZ j hj)) (s_alt (s_callX hZ.1 (Met_J0_charAt_5068e hZ) (Nat.le_of_ble_eq_true rfl) vy_J0_charAt_5068e (zo_O38 hZ) zw541 zw542 zw540 dX9_init_110 (wX9_init_113 hZ j hj)) (s_alt (s_callX hZ.1 (Met_J0_charAt_5068e hZ) (Nat.le_of_ble_eq_true rfl) vy_J0_charAt_5068e (zo_O40 hZ) zw541 zw542 zw540 dX9_init_110 (wX9_init_113 hZ j hj)) (s_alt (s_callX hZ.1 (Met_J0_charAt_5068e hZ) (Nat.le_of_ble_eq_true rfl) vy_J0_charAt_5068e (zo_O42 hZ) zw541 zw542 zw540 dX9_init_110 (wX9_init_113 hZ j hj)) (s_alt (s_callX hZ.1 (Met_J0_charAt_5068e hZ) (Nat.le_of_ble_eq_true rfl) vy_J0_charAt_5068e (zo_O44 hZ) zw541 zw542 zw540 dX9_init_110 (wX9_init_113 hZ j hj)) (s_alt (s_callX hZ.1 (Met_J0_charAt_5068e hZ) (Nat.le_of_ble_eq_true rfl) vy_J0_charAt_5068e (zo_O46 hZ) zw541 zw542 zw540 dX9_init_110 (wX9_init_113 hZ j hj)) (s_alt (s_callX hZ.1 (Met_J0_charAt_5068e hZ) (Nat.le_of_ble_eq_true rfl) vy_J0_charAt_5068e (zo_O48 hZ) zw541 zw542 zw540 dX9_init_110 (wX9_init_113 hZ j hj)) (s_alt (s_callX hZ.1 (Met_J0_charAt_5068e hZ) (Nat.le_of_ble_eq_true rfl) vy_J0_charAt_5068e (zo_O50 hZ) zw541 zw542 zw540 dX9_init_110 (wX9_init_113 hZ j hj)) (s_alt (s_callX hZ.1 (Met_J0_charAt_5068e hZ) (Nat.le_of_ble_eq_true rfl) vy_J0_charAt_5068e (zo_O52 hZ) zw541 zw542 zw540 dX9_init_110 (wX9_init_113 hZ j hj)) (s_alt (s_callX hZ.1 (Met_J0_charAt_5068e hZ) (Nat.le_of_ble_eq_true rfl) vy_J0_charAt_5068e (zo_O54 hZ) zw541 zw542 zw540 dX9_init_110 (wX9_init_113 hZ j hj)) (s_alt (s_callX hZ.1 (Met_J0_charAt_5068e hZ) (Nat.le_of_ble_eq_true rfl) vy_J0_charAt_5068e (zo_O56 hZ) zw541 zw542 zw540 dX9_init_110 (wX9_init_113 hZ j hj)) (s_alt (s_callX hZ.1 (Met_J0_charAt_5068e hZ) (Nat.le_of_ble_eq_true rfl) vy_J0_charAt_5068e (zo_O58 hZ) zw541 zw542 zw540 dX9_init_110 (wX9_init_113 hZ j hj)) (s_alt (s_callX hZ.1 (Met_J0_charAt_5068e hZ) (Nat.le_of_ble_eq_true rfl) vy_J0_charAt_5068e (zo_O60 hZ) zw541 zw542 zw540 dX9_init_110 (wX9_init_113 hZ j hj)) (s_alt (s_callX hZ.1 (Met_J0_charAt_5068e hZ) (Nat.le_of_ble_eq_true rfl) vy_J0_charAt_5068e (zo_O62 hZ) zw541 zw542 zw540 dX9_init_110 (wX9_init_113 hZ j hj)) (s_alt (s_callX hZ.1 (Met_J0_charAt_5068e hZ) (Nat.le_of_ble_eq_true rfl) vy_J0_charAt_5068e (zo_O64 hZ) zw541 zw542 zw540 dX9_init_110 (wX9_init_113 hZ j hj)) (s_alt (s_callX hZ.1 (Met_J0_charAt_5068e hZ) (Nat.le_of_ble_eq_true rfl) vy_J0_charAt_5068e (zo_O66 hZ) zw541 zw542 zw540 dX9_init_110 (wX9_init_113 hZ j hj)) (s_alt (s_callX hZ.1 (Met_J0_charAt_5068e hZ) (Nat.le_of_ble_eq_true rfl) vy_J0_charAt_5068e (zo_O68 hZ) zw541 zw542 zw540 dX9_init_110 (wX9_init_113 hZ j hj)) (s_alt (s_callX hZ.1 (Met_J0_charAt_5068e hZ) (Nat.le_of_ble_eq_true rfl) vy_J0_charAt_5068e (zo_O70 hZ) zw541 zw542 zw540 dX9_init_110 (wX9_init_113 hZ j hj)) (s_alt (s_callX hZ.1 (Met_J0_charAt_5068e hZ) (Nat.le_of_ble_eq_true rfl) vy_J0_charAt_5068e (zo_O72 hZ) zw541 zw542 zw540 dX9_init_110 (wX9_init_113 hZ j hj)) (s_alt (s_callX hZ.1 (Met_J0_charAt_5068e hZ) (Nat.le_of_ble_eq_true rfl) vy_J0_charAt_5068e (zo_O74 hZ) zw541 zw542 zw540 dX9_init_110 (wX9_init_113 hZ j hj)) (s_alt (s_callX hZ.1 (Met_J0_charAt_5068e hZ) (Nat.le_of_ble_eq_true rfl) vy_J0_charAt_5068e (zo_O76 hZ) zw541 zw542 zw540 dX9_init_110 (wX9_init_113 hZ j hj)) (s_alt (s_callX hZ.1 (Met_J0_charAt_5068e hZ) (Nat.le_of_ble_eq_true rfl) vy_J0_charAt_5068e (zo_O78 hZ) zw541 zw542 zw540 dX9_init_110 (wX9_init_113 hZ j hj)) (s_alt (s_callX hZ.1 (Met_J0_charAt_5068e hZ) (Nat.le_of_ble_eq_true rfl) vy_J0_charAt_5068e (zo_O80 hZ) zw541 zw542 zw540 dX9_init_110 (wX9_init_113 hZ j hj)) (s_alt (s_callX hZ.1 (Met_J0_charAt_5068e hZ) (Nat.le_of_ble_eq_true rfl) vy_J0_charAt_5068e (zo_O82 hZ) zw541 zw542 zw540 dX9_init_110 (wX9_init_113 hZ j hj)) (s_alt (s_callX hZ.1 (Met_J0_charAt_5068e hZ) (Nat.le_of_ble_eq_true rfl) vy_J0_charAt_5068e (zo_O84 hZ) zw541 zw542 zw540 dX9_init_110 (wX9_init_113 hZ j hj)) (s_alt (s_callX hZ.1 (Met_J0_charAt_5068e hZ) (Nat.le_of_ble_eq_true rfl) vy_J0_charAt_5068e (zo_O86 hZ) zw541 zw542 zw540 dX9_init_110 (wX9_init_113 hZ j hj)) (s_alt (s_callX hZ.1 (Met_J0_charAt_5068e hZ) (Nat.le_of_ble_eq_true rfl) vy_J0_charAt_5068e (zo_O88 hZ) zw541 zw542 zw540 dX9_init_110 (wX9_init_113 hZ j hj)) (s_alt (s_callX hZ.1 (Met_J0_charAt_5068e hZ) (Nat.le_of_ble_eq_true rfl) vy_J0_charAt_5068e (zo_O90 hZ) zw541 zw542 zw540 dX9_init_110 (wX9_init_113 hZ j hj)) (s_alt (s_callX hZ.1 (Met_J0_charAt_5068e hZ) (Nat.le_of_ble_eq_true rfl) vy_J0_charAt_5068e (zo_O92 hZ) zw541 zw542 zw540 dX9_init_110 (wX9_init_113 hZ j hj)) (s_alt (s_callX hZ.1 (Met_J0_charAt_5068e hZ) (Nat.le_of_ble_eq_true rfl) vy_J0_charAt_5068e (zo_O94 hZ) zw541 zw542 zw540 dX9_init_110 (wX9_init_113 hZ j hj)) (s_alt (s_callX hZ.1 (Met_J0_charAt_5068e hZ) (Nat.le_of_ble_eq_true rfl) vy_J0_charAt_5068e (zo_O96 hZ) zw541 zw542 zw540 dX9_init_110 (wX9_init_113 hZ j hj)) (s_alt (s_callX hZ.1 (Met_J0_charAt_5068e hZ) (Nat.le_of_ble_eq_true rfl) vy_J0_charAt_5068e (zo_O98 hZ) zw541 zw542 zw540 dX9_init_110 (wX9_init_113 hZ j hj)) (s_alt (s_callX hZ.1 (Met_J0_charAt_5068e hZ) (Nat.le_of_ble_eq_true rfl) vy_J0_charAt_5068e (zo_O100 hZ) zw541 zw542 zw540 dX9_init_110 (wX9_init_113 hZ j hj)) (s_alt (s_callX hZ.1 (Met_J0_charAt_5068e hZ) (Nat.le_of_ble_eq_true rfl) vy_J0_charAt_5068e (zo_O102 hZ) zw541 zw542 zw540 dX9_init_110 (wX9_init_113 hZ j hj)) (s_alt (s_callX hZ.1 (Met_J0_charAt_5068e hZ) (Nat.le_of_ble_eq_true rfl) vy_J0_charAt_5068e (zo_O104 hZ) zw541 zw542 zw540 dX9_init_110 (wX9_init_113 hZ j hj)) (s_alt (s_callX hZ.1 (Met_J0_charAt_5068e hZ) (Nat.le_of_ble_eq_true rfl) vy_J0_charAt_5068e (zo_O106 hZ) zw541 zw542 zw540 dX9_init_110 (wX9_init_113 hZ j hj)) (s_alt (s_callX hZ.1 (Met_J0_charAt_5068e hZ) (Nat.le_of_ble_eq_true rfl) vy_J0_charAt_5068e (zo_O108 hZ) zw541 zw542 zw540 dX9_init_110 (wX9_init_113 hZ j hj)) (s_alt (s_callX hZ.1 (Met_J0_charAt_5068e hZ) (Nat.le_of_ble_eq_true rfl) vy_J0_charAt_5068e (zo_O110 hZ) zw541 zw542 zw540 dX9_init_110 (wX9_init_113 hZ j hj)) (s_alt (s_callX hZ.1 (Met_J0_charAt_5068e hZ) (Nat.le_of_ble_eq_true rfl) vy_J0_charAt_5068e (zo_O112 hZ) zw541 zw542 zw540 dX9_init_110 (wX9_init_113 hZ j hj)) (s_alt (s_callX hZ.1 (Met_J0_charAt_5068e hZ) (Nat.le_of_ble_eq_true rfl) vy_J0_charAt_5068e (zo_O114 hZ) zw541 zw542 zw540 dX9_init_110 (wX9_init_113 hZ j hj)) (s_alt (s_callX hZ.1 (Met_J0_charAt_5068e hZ) (Nat.le_of_ble_eq_true rfl) vy_J0_charAt_5068e (zo_O116 hZ) zw541 zw542 zw540 dX9_init_110 (wX9_init_113 hZ j hj)) (s_alt (s_callX hZ.1 (Met_J0_charAt_5068e hZ) (Nat.le_of_ble_eq_true rfl) vy_J0_charAt_5068e (zo_O118 hZ) zw541 zw542 zw540 dX9_init_110 (wX9_init_113 hZ j hj)) (s_alt (s_callX hZ.1 (Met_J0_charAt_5068e hZ) (Nat.le_of_ble_eq_true rfl) vy_J0_charAt_5068e (zo_O120 hZ) zw541 zw542 zw540 dX9_init_110 (wX9_init_113 hZ j hj)) (s_alt (s_callX hZ.1 (Met_J0_charAt_5068e hZ) (Nat.le_of_ble_eq_true rfl) vy_J0_charAt_5068e (zo_O122 hZ) zw541 zw542 zw540 dX9_init_110 (wX9_init_113 hZ j hj)) (s_alt (s_callX hZ.1 (Met_J0_charAt_5068e hZ) (Nat.le_of_ble_eq_true rfl) vy_J0_charAt_5068e (zo_O124 hZ) zw541 zw542 zw540 dX9_init_110 (wX9_init_113 hZ j hj)) (s_alt (s_callX hZ.1 (Met_J0_charAt_5068e hZ) (Nat.le_of_ble_eq_true rfl) vy_J0_charAt_5068e (zo_O126 hZ) zw541 zw542 zw540 dX9_init_110 (wX9_init_113 hZ j hj)) (s_alt (s_callX hZ.1 (Met_J0_charAt_5068e hZ) (Nat.le_of_ble_eq_true rfl) vy_J0_charAt_5068e (zo_O128 hZ) zw541 zw542 zw540 dX9_init_110 (wX9_init_113 hZ j hj)) (s_alt (s_callX hZ.1 (Met_J0_charAt_5068e hZ) (Nat.le_of_ble_eq_true rfl) vy_J0_charAt_5068e (zo_O130 hZ) zw541 zw542 zw540 dX9_init_110 (wX9_init_113 hZ j hj)) (s_alt (s_callX hZ.1 (Met_J0_charAt_5068e hZ) (Nat.le_of_ble_eq_true rfl) vy_J0_charAt_5068e (zo_O132 hZ) zw541 zw542 zw540 dX9_init_110 (wX9_init_113 hZ j hj)) (s_alt (s_callX hZ.1 (Met_J0_charAt_5068e hZ) (Nat.le_of_ble_eq_true rfl) vy_J0_charAt_5068e (zo_O134 hZ) zw541 zw542 zw540 dX9_init_110 (wX9_init_113 hZ j hj)) (s_alt (s_callX hZ.1 (Met_J0_charAt_5068e hZ) (Nat.le_of_ble_eq_true rfl) vy_J0_charAt_5068e (zo_O136 hZ) zw541 zw542 zw540 dX9_init_110 (wX9_init_113 hZ j hj)) (s_alt (s_callX hZ.1 (Met_J0_charAt_5068e hZ) (Nat.le_of_ble_eq_true rfl) vy_J0_charAt_5068e (zo_O138 hZ) zw541 zw542 zw540 dX9_init_110 (wX9_init_113 hZ j hj)) (s_alt (s_callX hZ.1 (Met_J0_charAt_5068e hZ) (Nat.le_of_ble_eq_true rfl) vy_J0_charAt_5068e (zo_O140 hZ) zw541 zw542 zw540 dX9_init_110 (wX9_init_113 hZ j hj)) (s_alt (s_callX hZ.1 (Met_J0_charAt_5068e hZ) (Nat.le_of_ble_eq_true rfl) vy_J0_charAt_5068e (zo_O142 hZ) zw541 zw542 zw540 dX9_init_110 (wX9_init_113 hZ j hj)) (s_alt (s_callX hZ.1 (Met_J0_charAt_5068e hZ) (Nat.le_of_ble_eq_true rfl) vy_J0_charAt_5068e (zo_O144 hZ) zw541 zw542 zw540 dX9_init_110 (wX9_init_113 hZ j hj)) (s_alt (s_callX hZ.1 (Met_J0_charAt_5068e hZ) (Nat.le_of_ble_eq_true rfl) vy_J0_charAt_5068e (zo_O146 hZ) zw541 zw542 zw540 dX9_init_110 (wX9_init_113 hZ j hj)) (s_alt (s_callX hZ.1 (Met_J0_charAt_5068e hZ) (Nat.le_of_ble_eq_true rfl) vy_J0_charAt_5068e (zo_O148 hZ) zw541 zw542 zw540 dX9_init_110 (wX9_init_113 hZ j hj)) (s_alt (s_callX hZ.1 (Met_J0_charAt_5068e hZ) (Nat.le_of_ble_eq_true rfl) vy_J0_charAt_5068e (zo_O150 hZ) zw541 zw542 zw540 dX9_init_110 (wX9_init_113 hZ j hj)) (s_alt (s_callX hZ.1 (Met_J0_charAt_5068e hZ) (Nat.le_of_ble_eq_true rfl) vy_J0_charAt_5068e (zo_O152 hZ) zw541 zw542 zw540 dX9_init_110 (wX9_init_113 hZ j hj)) (s_alt (s_callX hZ.1 (Met_J0_charAt_5068e hZ) (Nat.le_of_ble_eq_true rfl) vy_J0_charAt_5068e (zo_O154 hZ) zw541 zw542 zw540 dX9_init_110 (wX9_init_113 hZ j hj)) (s_alt (s_callX hZ.1 (Met_J0_charAt_5068e hZ) (Nat.le_of_ble_eq_true rfl) vy_J0_charAt_5068e (zo_O156 hZ) zw541 zw542 zw540 dX9_init_110 (wX9_init_113 hZ j hj)) (s_alt (s_callX hZ.1 (Met_J0_charAt_5068e hZ) (Nat.le_of_ble_eq_true rfl) vy_J0_charAt_5068e (zo_O158 hZ) zw541 zw542 zw540 dX9_init_110 (wX9_init_113 hZ j hj)) s_none)))))))))))))))))))))))))))))))))))))))))))))))))))))))))))))))))))))))))))))
noncomputable def vX9_init_101 (j : Nat → rx_K) : rx_K := o_ld rx_isI 1 (o_const 240 (o_c2 rx_lt (vX9_init_107 j) (vX9_init_180 j)))
set_option maxRecDepth 20000 in
theorem wX9_init_101 (hZ : zO b e D A X) (j : Nat → rx_K) (hj : ∀ k pc, [60, 92][k]? = some pc → rx_OK (zV b e D A X) mX9_init 4 pc (j k)) : rx_OK (zV b e D A X) mX9_init 4 101 (vX9_init_101 j) := by
  unfold vX9_init_101
  refine s_iload_n hZ.1 dX9_init_101 rfl ?_
  refine s_bipush dX9_init_102 (by decide +kernel) ?_
  exact s_icmp_ge dX9_init_104 (by decide) (wX9_init_180 hZ j hj) (wX9_init_107 hZ j hj)
noncomputable def vX9_init_98 (j : Nat → rx_K) : rx_K := o_c2 rx_lt (vX9_init_101 j) (vX9_init_180 j)
set_option maxRecDepth 20000 in
theorem wX9_init_98 (hZ : zO b e D A X) (j : Nat → rx_K) (hj : ∀ k pc, [60, 92][k]? = some pc → rx_OK (zV b e D A X) mX9_init 4 pc (j k)) : rx_OK (zV b e D A X) mX9_init 4 98 (vX9_init_98 j) := by
  unfold vX9_init_98
  exact s_icmp_ge dX9_init_98 (by decide) (wX9_init_180 hZ j hj) (wX9_init_101 hZ j hj)
noncomputable def vX9_init_92 (j : Nat → rx_K) : rx_K := o_ld rx_isI 3 (o_const 52 (o_alt (zqn 0 6) (o_callX 0 6 FJ0_length_8abf5 ((vX9_init_98 j))) (o_alt (zqn 0 8) (o_callX 0 8 FJ0_length_8abf5 ((vX9_init_98 j))) (o_alt (zqn 0 10) (o_callX 0 10 FJ0_length_8abf5 ((vX9_init_98 j))) (o_alt (zqn 0 12) (o_callX 0 12 FJ0_length_8abf5 ((vX9_init_98 j))) (o_alt (zqn 0 14) (o_callX 0 14 FJ0_length_8abf5 ((vX9_init_98 j))) (o_alt (zqn 0 16) (o_callX 0 16 FJ0_length_8abf5 ((vX9_init_98 j))) (o_alt (zqn 0 18) (o_callX 0 18 FJ0_length_8abf5 ((vX9_init_98 j))) (o_alt (zqn 0 20) (o_callX 0 20 FJ0_length_8abf5 ((vX9_init_98 j))) (o_alt (zqn 0 22) (o_callX 0 22 FJ0_length_8abf5 ((vX9_init_98 j))) (o_alt (zqn 0 24) (o_callX 0 24 FJ0_length_8abf5 ((vX9_init_98 j))) (o_alt (zqn 0 26) (o_callX 0 26 FJ0_length_8abf5 ((vX9_init_98 j))) (o_alt (zqn 0 28) (o_callX 0 28 FJ0_length_8abf5 ((vX9_init_98 j))) (o_alt (zqn 0 30) (o_callX 0 30 FJ0_length_8abf5 ((vX9_init_98 j))) (o_alt (zqn 0 32) (o_callX 0 32 FJ0_length_8abf5 ((vX9_init_98 j))) (o_alt (zqn 0 34) (o_callX 0 34 FJ0_length_8abf5 ((vX9_init_98 j))) (o_alt (zqn 0 36) (o_callX 0 36 FJ0_length_8abf5 ((vX9_init_98 j))) (o_alt (zqn 0 38) (o_callX 0 38 FJ0_length_8abf5 ((vX9_init_98 j))) (o_alt (zqn 0 40) (o_callX 0 40 FJ0_length_8abf5 ((vX9_init_98 j))) (o_alt (zqn 0 42) (o_callX 0 42 FJ0_length_8abf5 ((vX9_init_98 j))) (o_alt (zqn 0 44) (o_callX 0 44 FJ0_length_8abf5 ((vX9_init_98 j))) (o_alt (zqn 0 46) (o_callX 0 46 FJ0_length_8abf5 ((vX9_init_98 j))) (o_alt (zqn 0 48) (o_callX 0 48 FJ0_length_8abf5 ((vX9_init_98 j))) (o_alt (zqn 0 50) (o_callX 0 50 FJ0_length_8abf5 ((vX9_init_98 j))) (o_alt (zqn 0 52) (o_callX 0 52 FJ0_length_8abf5 ((vX9_init_98 j))) (o_alt (zqn 0 54) (o_callX 0 54 FJ0_length_8abf5 ((vX9_init_98 j))) (o_alt (zqn 0 56) (o_callX 0 56 FJ0_length_8abf5 ((vX9_init_98 j))) (o_alt (zqn 0 58) (o_callX 0 58 FJ0_length_8abf5 ((vX9_init_98 j))) (o_alt (zqn 0 60) (o_callX 0 60 FJ0_length_8abf5 ((vX9_init_98 j))) (o_alt (zqn 0 62) (o_callX 0 62 FJ0_length_8abf5 ((vX9_init_98 j))) (o_alt (zqn 0 64) (o_callX 0 64 FJ0_length_8abf5 ((vX9_init_98 j))) (o_alt (zqn 0 66) (o_callX 0 66 FJ0_length_8abf5 ((vX9_init_98 j))) (o_alt (zqn 0 68) (o_callX 0 68 FJ0_length_8abf5 ((vX9_init_98 j))) (o_alt (zqn 0 70) (o_callX 0 70 FJ0_length_8abf5 ((vX9_init_98 j))) (o_alt (zqn 0 72) (o_callX 0 72 FJ0_length_8abf5 ((vX9_init_98 j))) (o_alt (zqn 0 74) (o_callX 0 74 FJ0_length_8abf5 ((vX9_init_98 j))) (o_alt (zqn 0 76) (o_callX 0 76 FJ0_length_8abf5 ((vX9_init_98 j))) (o_alt (zqn 0 78) (o_callX 0 78 FJ0_length_8abf5 ((vX9_init_98 j))) (o_alt (zqn 0 80) (o_callX 0 80 FJ0_length_8abf5 ((vX9_init_98 j))) (o_alt (zqn 0 82) (o_callX 0 82 FJ0_length_8abf5 ((vX9_init_98 j))) (o_alt (zqn 0 84) (o_callX 0 84 FJ0_length_8abf5 ((vX9_init_98 j))) (o_alt (zqn 0 86) (o_callX 0 86 FJ0_length_8abf5 ((vX9_init_98 j))) (o_alt (zqn 0 88) (o_callX 0 88 FJ0_length_8abf5 ((vX9_init_98 j))) (o_alt (zqn 0 90) (o_callX 0 90 FJ0_length_8abf5 ((vX9_init_98 j))) (o_alt (zqn 0 92) (o_callX 0 92 FJ0_length_8abf5 ((vX9_init_98 j))) (o_alt (zqn 0 94) (o_callX 0 94 FJ0_length_8abf5 ((vX9_init_98 j))) (o_alt (zqn 0 96) (o_callX 0 96 FJ0_length_8abf5 ((vX9_init_98 j))) (o_alt (zqn 0 98) (o_callX 0 98 FJ0_length_8abf5 ((vX9_init_98 j))) (o_alt (zqn 0 100) (o_callX 0 100 FJ0_length_8abf5 ((vX9_init_98 j))) (o_alt (zqn 0 102) (o_callX 0 102 FJ0_length_8abf5 ((vX9_init_98 j))) (o_alt (zqn 0 104) (o_callX 0 104 FJ0_length_8abf5 ((vX9_init_98 j))) (o_alt (zqn 0 106) (o_callX 0 106 FJ0_length_8abf5 ((vX9_init_98 j))) (o_alt (zqn 0 108) (o_callX 0 108 FJ0_length_8abf5 ((vX9_init_98 j))) (o_alt (zqn 0 110) (o_callX 0 110 FJ0_length_8abf5 ((vX9_init_98 j))) (o_alt (zqn 0 112) (o_callX 0 112 FJ0_length_8abf5 ((vX9_init_98 j))) (o_alt (zqn 0 114) (o_callX 0 114 FJ0_length_8abf5 ((vX9_init_98 j))) (o_alt (zqn 0 116) (o_callX 0 116 FJ0_length_8abf5 ((vX9_init_98 j))) (o_alt (zqn 0 118) (o_callX 0 118 FJ0_length_8abf5 ((vX9_init_98 j))) (o_alt (zqn 0 120) (o_callX 0 120 FJ0_length_8abf5 ((vX9_init_98 j))) (o_alt (zqn 0 122) (o_callX 0 122 FJ0_length_8abf5 ((vX9_init_98 j))) (o_alt (zqn 0 124) (o_callX 0 124 FJ0_length_8abf5 ((vX9_init_98 j))) (o_alt (zqn 0 126) (o_callX 0 126 FJ0_length_8abf5 ((vX9_init_98 j))) (o_alt (zqn 0 128) (o_callX 0 128 FJ0_length_8abf5 ((vX9_init_98 j))) (o_alt (zqn 0 130) (o_callX 0 130 FJ0_length_8abf5 ((vX9_init_98 j))) (o_alt (zqn 0 132) (o_callX 0 132 FJ0_length_8abf5 ((vX9_init_98 j))) (o_alt (zqn 0 134) (o_callX 0 134 FJ0_length_8abf5 ((vX9_init_98 j))) (o_alt (zqn 0 136) (o_callX 0 136 FJ0_length_8abf5 ((vX9_init_98 j))) (o_alt (zqn 0 138) (o_callX 0 138 FJ0_length_8abf5 ((vX9_init_98 j))) (o_alt (zqn 0 140) (o_callX 0 140 FJ0_length_8abf5 ((vX9_init_98 j))) (o_alt (zqn 0 142) (o_callX 0 142 FJ0_length_8abf5 ((vX9_init_98 j))) (o_alt (zqn 0 144) (o_callX 0 144 FJ0_length_8abf5 ((vX9_init_98 j))) (o_alt (zqn 0 146) (o_callX 0 146 FJ0_length_8abf5 ((vX9_init_98 j))) (o_alt (zqn 0 148) (o_callX 0 148 FJ0_length_8abf5 ((vX9_init_98 j))) (o_alt (zqn 0 150) (o_callX 0 150 FJ0_length_8abf5 ((vX9_init_98 j))) (o_alt (zqn 0 152) (o_callX 0 152 FJ0_length_8abf5 ((vX9_init_98 j))) (o_alt (zqn 0 154) (o_callX 0 154 FJ0_length_8abf5 ((vX9_init_98 j))) (o_alt (zqn 0 156) (o_callX 0 156 FJ0_length_8abf5 ((vX9_init_98 j))) (o_alt (zqn 0 158) (o_callX 0 158 FJ0_length_8abf5 ((vX9_init_98 j))) (o_none)))))))))))))))))))))))))))))))))))))))))))))))))))))))))))))))))))))))))))))))
set_option maxRecDepth 20000 in
theorem wX9_init_92 (hZ : zO b e D A X) (j : Nat → rx_K) (hj : ∀ k pc, [60, 92][k]? = some pc → rx_OK (zV b e D A X) mX9_init 4 pc (j k)) : rx_OK (zV b e D A X) mX9_init 4 92 (vX9_init_92 j) := by
  unfold vX9_init_92
  refine s_iload_n hZ.1 dX9_init_92 rfl ?_
  refine s_ldcS (k := 6) (zo_R6 hZ) dX9_init_93 ?_
  exact (s_alt (s_callX hZ.1 (Met_J0_length_8abf5 hZ) (Nat.le_of_ble_eq_true rfl) vy_J0_length_8abf5 (zo_O6 hZ) zw531 zw532 zw530 dX9_init_95 (wX9_init_98 hZ j hj)) (s_alt (s_callX hZ.1 (Met_J0_length_8abf5 hZ) (Nat.le_of_ble_eq_true rfl) vy_J0_length_8abf5 (zo_O8 hZ) zw531 zw532 zw530 dX9_init_95 (wX9_init_98 hZ j hj)) (s_alt (s_callX hZ.1 (Met_J0_length_8abf5 hZ) (Nat.le_of_ble_eq_true rfl) vy_J0_length_8abf5 (zo_O10 hZ) zw531 zw532 zw530 dX9_init_95 (wX9_init_98 hZ j hj)) (s_alt (s_callX hZ.1 (Met_J0_length_8abf5 hZ) (Nat.le_of_ble_eq_true rfl) vy_J0_length_8abf5 (zo_O12 hZ) zw531 zw532 zw530 dX9_init_95 (wX9_init_98 hZ j hj)) (s_alt (s_callX hZ.1 (Met_J0_length_8abf5 hZ) (Nat.le_of_ble_eq_true rfl) vy_J0_length_8abf5 (zo_O14 hZ) zw531 zw532 zw530 dX9_init_95 (wX9_init_98 hZ j hj)) (s_alt (s_callX hZ.1 (Met_J0_length_8abf5 hZ) (Nat.le_of_ble_eq_true rfl) vy_J0_length_8abf5 (zo_O16 hZ) zw531 zw532 zw530 dX9_init_95 (wX9_init_98 hZ j hj)) (s_alt (s_callX hZ.1 (Met_J0_length_8abf5 hZ) (Nat.le_of_ble_eq_true rfl) vy_J0_length_8abf5 (zo_O18 hZ) zw531 zw532 zw530 dX9_init_95 (wX9_init_98 hZ j hj)) (s_alt (s_callX hZ.1 (Met_J0_length_8abf5 hZ) (Nat.le_of_ble_eq_true rfl) vy_J0_length_8abf5 (zo_O20 hZ) zw531 zw532 zw530 dX9_init_95 (wX9_init_98 hZ j hj)) (s_alt (s_callX hZ.1 (Met_J0_length_8abf5 hZ) (Nat.le_of_ble_eq_true rfl) vy_J0_length_8abf5 (zo_O22 hZ) zw531 zw532 zw530 dX9_init_95 (wX9_init_98 hZ j hj)) (s_alt (s_callX hZ.1 (Met_J0_length_8abf5 hZ) (Nat.le_of_ble_eq_true rfl) vy_J0_length_8abf5 (zo_O24 hZ) zw531 zw532 zw530 dX9_init_95 (wX9_init_98 hZ j hj)) (s_alt (s_callX hZ.1 (Met_J0_length_8abf5 hZ) (Nat.le_of_ble_eq_true rfl) vy_J0_length_8abf5 (zo_O26 hZ) zw531 zw532 zw530 dX9_init_95 (wX9_init_98 hZ j hj)) (s_alt (s_callX hZ.1 (Met_J0_length_8abf5 hZ) (Nat.le_of_ble_eq_true rfl) vy_J0_length_8abf5 (zo_O28 hZ) zw531 zw532 zw530 dX9_init_95 (wX9_init_98 hZ j hj)) (s_alt (s_callX hZ.1 (Met_J0_length_8abf5 hZ) (Nat.le_of_ble_eq_true rfl) vy_J0_length_8abf5 (zo_O30 hZ) zw531 zw532 zw530 dX9_init_95 (wX9_init_98 hZ j hj)) (s_alt (s_callX hZ.1 (Met_J0_length_8abf5 hZ) (Nat.le_of_ble_eq_true rfl) vy_J0_length_8abf5 (zo_O32 hZ) zw531 zw532 zw530 dX9_init_95 (wX9_init_98 hZ j hj)) (s_alt (s_callX hZ.1 (Met_J0_length_8abf5 hZ) (Nat.le_of_ble_eq_true rfl) vy_J0_length_8abf5 (zo_O34 hZ) zw531 zw532 zw530 dX9_init_95 (wX9_init_98 hZ j hj)) (s_alt (s_callX hZ.1 (Met_J0_length_8abf5 hZ) (Nat.le_of_ble_eq_true rfl) vy_J0_length_8abf5 (zo_O36 hZ) zw531 zw532 zw530 dX9_init_95 (wX9_init_98 hZ j hj)) (s_alt (s_callX hZ.1 (Met_J0_length_8abf5 hZ) (Nat.le_of_ble_eq_true rfl) vy_J0_length_8abf5 (zo_O38 hZ) zw531 zw532 zw530 dX9_init_95 (wX9_init_98 hZ j hj)) (s_alt (s_callX hZ.1 (Met_J0_length_8abf5 hZ) (Nat.le_of_ble_eq_true rfl) vy_J0_length_8abf5 (zo_O40 hZ) zw531 zw532 zw530 dX9_init_95 (wX9_init_98 hZ j hj)) (s_alt (s_callX hZ.1 (Met_J0_length_8abf5 hZ) (Nat.le_of_ble_eq_true rfl) vy_J0_length_8abf5 (zo_O42 hZ) zw531 zw532 zw530 dX9_init_95 (wX9_init_98 hZ j hj)) (s_alt (s_callX hZ.1 (Met_J0_length_8abf5 hZ) (Nat.le_of_ble_eq_true rfl) vy_J0_length_8abf5 (zo_O44 hZ) zw531 zw532 zw530 dX9_init_95 (wX9_init_98 hZ j hj)) (s_alt (s_callX hZ.1 (Met_J0_length_8abf5 hZ) (Nat.le_of_ble_eq_true rfl) vy_J0_length_8abf5 (zo_O46 hZ) zw531 zw532 zw530 dX9_init_95 (wX9_init_98 hZ j hj)) (s_alt (s_callX hZ.1 (Met_J0_length_8abf5 hZ) (Nat.le_of_ble_eq_true rfl) vy_J0_length_8abf5 (zo_O48 hZ) zw531 zw532 zw530 dX9_init_95 (wX9_init_98 hZ j hj)) (s_alt (s_callX hZ.1 (Met_J0_length_8abf5 hZ) (Nat.le_of_ble_eq_true rfl) vy_J0_length_8abf5 (zo_O50 hZ) zw531 zw532 zw530 dX9_init_95 (wX9_init_98 hZ j hj)) (s_alt (s_callX hZ.1 (Met_J0_length_8abf5 hZ) (Nat.le_of_ble_eq_true rfl) vy_J0_length_8abf5 (zo_O52 hZ) zw531 zw532 zw530 dX9_init_95 (wX9_init_98 hZ j hj)) (s_alt (s_callX hZ.1 (Met_J0_length_8abf5 hZ) (Nat.le_of_ble_eq_true rfl) vy_J0_length_8abf5 (zo_O54 hZ) zw531 zw532 zw530 dX9_init_95 (wX9_init_98 hZ j hj)) (s_alt (s_callX hZ.1 (Met_J0_length_8abf5 hZ) (Nat.le_of_ble_eq_true rfl) vy_J0_length_8abf5 (zo_O56 hZ) zw531 zw532 zw530 dX9_init_95 (wX9_init_98 hZ j hj)) (s_alt (s_callX hZ.1 (Met_J0_length_8abf5 hZ) (Nat.le_of_ble_eq_true rfl) vy_J0_length_8abf5 (zo_O58 hZ) zw531 zw532 zw530 dX9_init_95 (wX9_init_98 hZ j hj)) (s_alt (s_callX hZ.1 (Met_J0_length_8abf5 hZ) (Nat.le_of_ble_eq_true rfl) vy_J0_length_8abf5 (zo_O60 hZ) zw531 zw532 zw530 dX9_init_95 (wX9_init_98 hZ j hj)) (s_alt (s_callX hZ.1 (Met_J0_length_8abf5 hZ) (Nat.le_of_ble_eq_true rfl) vy_J0_length_8abf5 (zo_O62 hZ) zw531 zw532 zw530 dX9_init_95 (wX9_init_98 hZ j hj)) (s_alt (s_callX hZ.1 (Met_J0_length_8abf5 hZ) (Nat.le_of_ble_eq_true rfl) vy_J0_length_8abf5 (zo_O64 hZ) zw531 zw532 zw530 dX9_init_95 (wX9_init_98 hZ j hj)) (s_alt (s_callX hZ.1 (Met_J0_length_8abf5 hZ) (Nat.le_of_ble_eq_true rfl) vy_J0_length_8abf5 (zo_O66 hZ) zw531 zw532 zw530 dX9_init_95 (wX9_init_98 hZ j hj)) (s_alt (s_callX hZ.1 (Met_J0_length_8abf5 hZ) (Nat.le_of_ble_eq_true rfl) vy_J0_length_8abf5 (zo_O68 hZ) zw531 zw532 zw530 dX9_init_95 (wX9_init_98 hZ j hj)) (s_alt (s_callX hZ.1 (Met_J0_length_8abf5 hZ) (Nat.le_of_ble_eq_true rfl) vy_J0_length_8abf5 (zo_O70 hZ) zw531 zw532 zw530 dX9_init_95 (wX9_init_98 hZ j hj)) (s_alt (s_callX hZ.1 (Met_J0_length_8abf5 hZ) (Nat.le_of_ble_eq_true rfl) vy_J0_length_8abf5 (zo_O72 hZ) zw531 zw532 zw530 dX9_init_95 (wX9_init_98 hZ j hj)) (s_alt (s_callX hZ.1 (Met_J0_length_8abf5 hZ) (Nat.le_of_ble_eq_true rfl) vy_J0_length_8abf5 (zo_O74 hZ) zw531 zw532 zw530 dX9_init_95 (wX9_init_98 hZ j hj)) (s_alt (s_callX hZ.1 (Met_J0_length_8abf5 hZ) (Nat.le_of_ble_eq_true rfl) vy_J0_length_8abf5 (zo_O76 hZ) zw531 zw532 zw530 dX9_init_95 (wX9_init_98 hZ j hj)) (s_alt (s_callX hZ.1 (Met_J0_length_8abf5 hZ) (Nat.le_of_ble_eq_true rfl) vy_J0_length_8abf5 (zo_O78 hZ) zw531 zw532 zw530 dX9_init_95 (wX9_init_98 hZ j hj)) (s_alt (s_callX hZ.1 (Met_J0_length_8abf5 hZ) (Nat.le_of_ble_eq_true rfl) vy_J0_length_8abf5 (zo_O80 hZ) zw531 zw532 zw530 dX9_init_95 (wX9_init_98 hZ j hj)) (s_alt (s_callX hZ.1 (Met_J0_length_8abf5 hZ) (Nat.le_of_ble_eq_true rfl) vy_J0_length_8abf5 (zo_O82 hZ) zw531 zw532 zw530 dX9_init_95 (wX9_init_98 hZ j hj)) (s_alt (s_callX hZ.1 (Met_J0_length_8abf5 hZ) (Nat.le_of_ble_eq_true rfl) vy_J0_length_8abf5 (zo_O84 hZ) zw531 zw532 zw530 dX9_init_95 (wX9_init_98 hZ j hj)) (s_alt (s_callX hZ.1 (Met_J0_length_8abf5 hZ) (Nat.le_of_ble_eq_true rfl) vy_J0_length_8abf5 (zo_O86 hZ) zw531 zw532 zw530 dX9_init_95 (wX9_init_98 hZ j hj)) (s_alt (s_callX hZ.1 (Met_J0_length_8abf5 hZ) (Nat.le_of_ble_eq_true rfl) vy_J0_length_8abf5 (zo_O88 hZ) zw531 zw532 zw530 dX9_init_95 (wX9_init_98 hZ j hj)) (s_alt (s_callX hZ.1 (Met_J0_length_8abf5 hZ) (Nat.le_of_ble_eq_true rfl) vy_J0_length_8abf5 (zo_O90 hZ) zw531 zw532 zw530 dX9_init_95 (wX9_init_98 hZ j hj)) (s_alt (s_callX hZ.1 (Met_J0_length_8abf5 hZ) (Nat.le_of_ble_eq_true rfl) vy_J0_length_8abf5 (zo_O92 hZ) zw531 zw532 zw530 dX9_init_95 (wX9_init_98 hZ j hj)) (s_alt (s_callX hZ.1 (Met_J0_length_8abf5 hZ) (Nat.le_of_ble_eq_true rfl) vy_J0_length_8abf5 (zo_O94 hZ) zw531 zw532 zw530 dX9_init_95 (wX9_init_98 hZ j hj)) (s_alt (s_callX hZ.1 (Met_J0_length_8abf5 hZ) (Nat.le_of_ble_eq_true rfl) vy_J0_length_8abf5 (zo_O96 hZ) zw531 zw532 zw530 dX9_init_95 (wX9_init_98 hZ j hj)) (s_alt (s_callX hZ.1 (Met_J0_length_8abf5 hZ) (Nat.le_of_ble_eq_true rfl) vy_J0_length_8abf5 (zo_O98 hZ) zw531 zw532 zw530 dX9_init_95 (wX9_init_98 hZ j hj)) (s_alt (s_callX hZ.1 (Met_J0_length_8abf5 hZ) (Nat.le_of_ble_eq_true rfl) vy_J0_length_8abf5 (zo_O100 hZ) zw531 zw532 zw530 dX9_init_95 (wX9_init_98 hZ j hj)) (s_alt (s_callX hZ.1 (Met_J0_length_8abf5 hZ) (Nat.le_of_ble_eq_true rfl) vy_J0_length_8abf5 (zo_O102 hZ) zw531 zw532 zw530 dX9_init_95 (wX9_init_98 hZ j hj)) (s_alt (s_callX hZ.1 (Met_J0_length_8abf5 hZ) (Nat.le_of_ble_eq_true rfl) vy_J0_length_8abf5 (zo_O104 hZ) zw531 zw532 zw530 dX9_init_95 (wX9_init_98 hZ j hj)) (s_alt (s_callX hZ.1 (Met_J0_length_8abf5 hZ) (Nat.le_of_ble_eq_true rfl) vy_J0_length_8abf5 (zo_O106 hZ) zw531 zw532 zw530 dX9_init_95 (wX9_init_98 hZ j hj)) (s_alt (s_callX hZ.1 (Met_J0_length_8abf5 hZ) (Nat.le_of_ble_eq_true rfl) vy_J0_length_8abf5 (zo_O108 hZ) zw531 zw532 zw530 dX9_init_95 (wX9_init_98 hZ j hj)) (s_alt (s_callX hZ.1 (Met_J0_length_8abf5 hZ) (Nat.le_of_ble_eq_true rfl) vy_J0_length_8abf5 (zo_O110 hZ) zw531 zw532 zw530 dX9_init_95 (wX9_init_98 hZ j hj)) (s_alt (s_callX hZ.1 (Met_J0_length_8abf5 hZ) (Nat.le_of_ble_eq_true rfl) vy_J0_length_8abf5 (zo_O112 hZ) zw531 zw532 zw530 dX9_init_95 (wX9_init_98 hZ j hj)) (s_alt (s_callX hZ.1 (Met_J0_length_8abf5 hZ) (Nat.le_of_ble_eq_true rfl) vy_J0_length_8abf5 (zo_O114 hZ) zw531 zw532 zw530 dX9_init_95 (wX9_init_98 hZ j hj)) (s_alt (s_callX hZ.1 (Met_J0_length_8abf5 hZ) (Nat.le_of_ble_eq_true rfl) vy_J0_length_8abf5 (zo_O116 hZ) zw531 zw532 zw530 dX9_init_95 (wX9_init_98 hZ j hj)) (s_alt (s_callX hZ.1 (Met_J0_length_8abf5 hZ) (Nat.le_of_ble_eq_true rfl) vy_J0_length_8abf5 (zo_O118 hZ) zw531 zw532 zw530 dX9_init_95 (wX9_init_98 hZ j hj)) (s_alt (s_callX hZ.1 (Met_J0_length_8abf5 hZ) (Nat.le_of_ble_eq_true rfl) vy_J0_length_8abf5 (zo_O120 hZ) zw531 zw532 zw530 dX9_init_95 (wX9_init_98 hZ j hj)) (s_alt (s_callX hZ.1 (Met_J0_length_8abf5 hZ) (Nat.le_of_ble_eq_true rfl) vy_J0_length_8abf5 (zo_O122 hZ) zw531 zw532 zw530 dX9_init_95 (wX9_init_98 hZ j hj)) (s_alt (s_callX hZ.1 (Met_J0_length_8abf5 hZ) (Nat.le_of_ble_eq_true rfl) vy_J0_length_8abf5 (zo_O124 hZ) zw531 zw532 zw530 dX9_init_95 (wX9_init_98 hZ j hj)) (s_alt (s_callX hZ.1 (Met_J0_length_8abf5 hZ) (Nat.le_of_ble_eq_true rfl) vy_J0_length_8abf5 (zo_O126 hZ) zw531 zw532 zw530 dX9_init_95 (wX9_init_98 hZ j hj)) (s_alt (s_callX hZ.1 (Met_J0_length_8abf5 hZ) (Nat.le_of_ble_eq_true rfl) vy_J0_length_8abf5 (zo_O128 hZ) zw531 zw532 zw530 dX9_init_95 (wX9_init_98 hZ j hj)) (s_alt (s_callX hZ.1 (Met_J0_length_8abf5 hZ) (Nat.le_of_ble_eq_true rfl) vy_J0_length_8abf5 (zo_O130 hZ) zw531 zw532 zw530 dX9_init_95 (wX9_init_98 hZ j hj)) (s_alt (s_callX hZ.1 (Met_J0_length_8abf5 hZ) (Nat.le_of_ble_eq_true rfl) vy_J0_length_8abf5 (zo_O132 hZ) zw531 zw532 zw530 dX9_init_95 (wX9_init_98 hZ j hj)) (s_alt (s_callX hZ.1 (Met_J0_length_8abf5 hZ) (Nat.le_of_ble_eq_true rfl) vy_J0_length_8abf5 (zo_O134 hZ) zw531 zw532 zw530 dX9_init_95 (wX9_init_98 hZ j hj)) (s_alt (s_callX hZ.1 (Met_J0_length_8abf5 hZ) (Nat.le_of_ble_eq_true rfl) vy_J0_length_8abf5 (zo_O136 hZ) zw531 zw532 zw530 dX9_init_95 (wX9_init_98 hZ j hj)) (s_alt (s_callX hZ.1 (Met_J0_length_8abf5 hZ) (Nat.le_of_ble_eq_true rfl) vy_J0_length_8abf5 (zo_O138 hZ) zw531 zw532 zw530 dX9_init_95 (wX9_init_98 hZ j hj)) (s_alt (s_callX hZ.1 (Met_J0_length_8abf5 hZ) (Nat.le_of_ble_eq_true rfl) vy_J0_length_8abf5 (zo_O140 hZ) zw531 zw532 zw530 dX9_init_95 (wX9_init_98 hZ j hj)) (s_alt (s_callX hZ.1 (Met_J0_length_8abf5 hZ) (Nat.le_of_ble_eq_true rfl) vy_J0_length_8abf5 (zo_O142 hZ) zw531 zw532 zw530 dX9_init_95 (wX9_init_98 hZ j hj)) (s_alt (s_callX hZ.1 (Met_J0_length_8abf5 hZ) (Nat.le_of_ble_eq_true rfl) vy_J0_length_8abf5 (zo_O144 hZ) zw531 zw532 zw530 dX9_init_95 (wX9_init_98 hZ j hj)) (s_alt (s_callX hZ.1 (Met_J0_length_8abf5 hZ) (Nat.le_of_ble_eq_true rfl) vy_J0_length_8abf5 (zo_O146 hZ) zw531 zw532 zw530 dX9_init_95 (wX9_init_98 hZ j hj)) (s_alt (s_callX hZ.1 (Met_J0_length_8abf5 hZ) (Nat.le_of_ble_eq_true rfl) vy_J0_length_8abf5 (zo_O148 hZ) zw531 zw532 zw530 dX9_init_95 (wX9_init_98 hZ j hj)) (s_alt (s_callX hZ.1 (Met_J0_length_8abf5 hZ) (Nat.le_of_ble_eq_true rfl) vy_J0_length_8abf5 (zo_O150 hZ) zw531 zw532 zw530 dX9_init_95 (wX9_init_98 hZ j hj)) (s_alt (s_callX hZ.1 (Met_J0_length_8abf5 hZ) (Nat.le_of_ble_eq_true rfl) vy_J0_length_8abf5 (zo_O152 hZ) zw531 zw532 zw530 dX9_init_95 (wX9_init_98 hZ j hj)) (s_alt (s_callX hZ.1 (Met_J0_length_8abf5 hZ) (Nat.le_of_ble_eq_true rfl) vy_J0_length_8abf5 (zo_O154 hZ) zw531 zw532 zw530 dX9_init_95 (wX9_init_98 hZ j hj)) (s_alt (s_callX hZ.1 (Met_J0_length_8abf5 hZ) (Nat.le_of_ble_eq_true rfl) vy_J0_length_8abf5 (zo_O156 hZ) zw531 zw532 zw530 dX9_init_95 (wX9_init_98 hZ j hj)) (s_alt (s_callX hZ.1 (Met_J0_length_8abf5 hZ) (Nat.le_of_ble_eq_true rfl) vy_J0_length_8abf5 (zo_O158 hZ) zw531 zw532 zw530 dX9_init_95 (wX9_init_98 hZ j hj)) s_none)))))))))))))))))))))))))))))))))))))))))))))))))))))))))))))))))))))))))))))
noncomputable def vX9_init_86 (j : Nat → rx_K) : rx_K := o_const 0 (o_st rx_isI 1 (o_const 0 (o_st rx_isI 2 (o_const 0 (o_st rx_isI 3 ((vX9_init_92 j)))))))
set_option maxRecDepth 20000 in
theorem wX9_init_86 (hZ : zO b e D A X) (j : Nat → rx_K) (hj : ∀ k pc, [60, 92][k]? = some pc → rx_OK (zV b e D A X) mX9_init 4 pc (j k)) : rx_OK (zV b e D A X) mX9_init 4 86 (vX9_init_86 j) := by
  unfold vX9_init_86
  refine s_iconst dX9_init_86 (by decide +kernel) ?_
  refine s_istore_n hZ.1 dX9_init_87 rfl (Nat.le_of_ble_eq_true rfl) ?_
  refine s_iconst dX9_init_88 (by decide +kernel) ?_
  refine s_istore_n hZ.1 dX9_init_89 rfl (Nat.le_of_ble_eq_true rfl) ?_
  refine s_iconst dX9_init_90 (by decide +kernel) ?_
  refine s_istore_n hZ.1 dX9_init_91 rfl (Nat.le_of_ble_eq_true rfl) ?_
  exact (wX9_init_92 hZ j hj)
noncomputable def vX9_init_67 (j : Nat → rx_K) : rx_K := o_ld rx_isR 0 (o_getf 9 13 (o_ld rx_isI 1 (o_new 8 12 zfs8 (o_dup (o_callI 0 FX8_init (o_aast 7 [8] (o_inc 1 (1) ((j 0)))))))))
set_option maxRecDepth 20000 in
theorem wX9_init_67 (hZ : zO b e D A X) (j : Nat → rx_K) (hj : ∀ k pc, [60, 92][k]? = some pc → rx_OK (zV b e D A X) mX9_init 4 pc (j k)) : rx_OK (zV b e D A X) mX9_init 4 67 (vX9_init_67 j) := by
  unfold vX9_init_67
  refine s_aload_n hZ.1 dX9_init_67 rfl ?_
  refine yg9_13 dX9_init_68 zw599 ?_
  refine s_iload_n hZ.1 dX9_init_71 rfl ?_
  refine s_new zcl8 zfk8 dX9_init_72 zw450 zw452 zw415 ?_
  refine s_dup hZ.1 dX9_init_75 ?_
  refine s_callI hZ.1 (Met_X8_init hZ) (Nat.le_of_ble_eq_true rfl) vy_X8_init rfl rfl zw454 (Or.inr ⟨_, zo_N453 hZ⟩) dX9_init_76 ?_
  refine s_aast (tt := 7) rfl zaa8 dX9_init_79 ?_
  refine s_iinc hZ.1 dX9_init_80 (Nat.le_of_ble_eq_true rfl) ?_
  exact s_goto dX9_init_83 (by decide) (hj 0 60 rfl)
noncomputable def vX9_init_60 (j : Nat → rx_K) : rx_K := o_ld rx_isI 1 (o_const 6400 (o_c2 rx_lt (vX9_init_67 j) (vX9_init_86 j)))
set_option maxRecDepth 20000 in
theorem wX9_init_60 (hZ : zO b e D A X) (j : Nat → rx_K) (hj : ∀ k pc, [60, 92][k]? = some pc → rx_OK (zV b e D A X) mX9_init 4 pc (j k)) : rx_OK (zV b e D A X) mX9_init 4 60 (vX9_init_60 j) := by
  unfold vX9_init_60
  refine s_iload_n hZ.1 dX9_init_60 rfl ?_
  refine s_sipush dX9_init_61 (by decide +kernel) ?_
  exact s_icmp_ge dX9_init_64 (by decide) (wX9_init_86 hZ j hj) (wX9_init_67 hZ j hj)
noncomputable def vX9_init_52 (j : Nat → rx_K) : rx_K := o_newa 7 3 (o_putf rx_isR 9 13 (o_const 0 (o_st rx_isI 1 ((vX9_init_60 j)))))
set_option maxRecDepth 20000 in
theorem wX9_init_52 (hZ : zO b e D A X) (j : Nat → rx_K) (hj : ∀ k pc, [60, 92][k]? = some pc → rx_OK (zV b e D A X) mX9_init 4 pc (j k)) : rx_OK (zV b e D A X) mX9_init 4 52 (vX9_init_52 j) := by
  unfold vX9_init_52
  refine s_anewa (tt := 7) rfl zw450 (zo_W7 hZ) dX9_init_52 ?_
  refine yp9_13 hZ.1 rfl rfl dX9_init_55 zw599 ?_
  refine s_iconst dX9_init_58 (by decide +kernel) ?_
  refine s_istore_n hZ.1 dX9_init_59 rfl (Nat.le_of_ble_eq_true rfl) ?_
  exact (wX9_init_60 hZ j hj)
noncomputable def vX9_init_0 (j : Nat → rx_K) : rx_K := o_ld rx_isR 0 (o_obj (o_ld rx_isR 0 (o_const 240 (o_newa 1 1 (o_putf rx_isR 9 0 (o_ld rx_isR 0 (o_const 5632 (o_newa 0 0 (o_putf rx_isR 9 1 (o_ld rx_isR 0 (o_const 5632 (o_newa 0 0 (o_putf rx_isR 9 2 (o_ld rx_isR 0 (o_const 5632 (o_newa 0 0 (o_putf rx_isR 9 3 (o_ld rx_isR 0 (o_const 5632 (o_newa 1 1 (o_putf rx_isR 9 4 (o_ld rx_isR 0 (o_const 6400 ((vX9_init_52 j)))))))))))))))))))))))))
set_option maxRecDepth 20000 in
theorem wX9_init_0 (hZ : zO b e D A X) (j : Nat → rx_K) (hj : ∀ k pc, [60, 92][k]? = some pc → rx_OK (zV b e D A X) mX9_init 4 pc (j k)) : rx_OK (zV b e D A X) mX9_init 4 0 (vX9_init_0 j) := by
  unfold vX9_init_0
  refine s_aload_n hZ.1 dX9_init_0 rfl ?_
  refine s_obj hZ.1 (Nat.le_of_ble_eq_true rfl) zw449 zw440 zw441 dX9_init_1 ?_
  refine s_aload_n hZ.1 dX9_init_4 rfl ?_
  refine s_bipush dX9_init_5 (by decide +kernel) ?_
  refine s_newa (tt := 1) (ty := .long) rfl rfl rfl rfl rfl (by decide) zw528 dX9_init_7 ?_
  refine yp9_0 hZ.1 rfl rfl dX9_init_9 zw581 ?_
  refine s_aload_n hZ.1 dX9_init_12 rfl ?_
  refine s_sipush dX9_init_13 (by decide +kernel) ?_
  refine s_newa (tt := 0) (ty := .int) rfl rfl rfl rfl rfl (by decide) zw527 dX9_init_16 ?_
  refine yp9_1 hZ.1 rfl rfl dX9_init_18 zw582 ?_
  refine s_aload_n hZ.1 dX9_init_21 rfl ?_
  refine s_sipush dX9_init_22 (by decide +kernel) ?_
  refine s_newa (tt := 0) (ty := .int) rfl rfl rfl rfl rfl (by decide) zw527 dX9_init_25 ?_
  refine yp9_2 hZ.1 rfl rfl dX9_init_27 zw583 ?_
  refine s_aload_n hZ.1 dX9_init_30 rfl ?_
  refine s_sipush dX9_init_31 (by decide +kernel) ?_
  refine s_newa (tt := 0) (ty := .int) rfl rfl rfl rfl rfl (by decide) zw527 dX9_init_34 ?_
  refine yp9_3 hZ.1 rfl rfl dX9_init_36 zw585 ?_
  refine s_aload_n hZ.1 dX9_init_39 rfl ?_
  refine s_sipush dX9_init_40 (by decide +kernel) ?_
  refine s_newa (tt := 1) (ty := .long) rfl rfl rfl rfl rfl (by decide) zw528 dX9_init_43 ?_
  refine yp9_4 hZ.1 rfl rfl dX9_init_45 zw586 ?_
  refine s_aload_n hZ.1 dX9_init_48 rfl ?_
  refine s_sipush dX9_init_49 (by decide +kernel) ?_
  exact (wX9_init_52 hZ j hj)
noncomputable def vhX9_init (j : Nat → rx_K) : List rx_K := [vX9_init_60 j, vX9_init_92 j]
theorem vlX9_init (hZ : zO b e D A X) : ∀ n k pc, [60, 92][k]? = some pc → rx_OK (zV b e D A X) mX9_init 4 pc (rx_J (vhX9_init) n k) := rx_loop fun j hj k pc h => by
  match k, h with
  | 0, h =>
    have e9 := Option.some.inj (show some 60 = some pc from h)
    subst e9
    exact wX9_init_60 hZ j hj
  | 1, h =>
    have e9 := Option.some.inj (show some 92 = some pc from h)
    subst e9
    exact wX9_init_92 hZ j hj
  | _ + 2, h => exact absurd h (by simp)
noncomputable def FX9_init : List Nat → rx_H → Option (Nat × rx_H) := rx_ent 5 (vX9_init_0 (rx_J (vhX9_init) 4000000000))
theorem Met_X9_init (hZ : zO b e D A X) : rx_Met (zV b e D A X) 4 yX9_init mX9_init (FX9_init) := rx_entry hZ.1 (wX9_init_0 hZ _ (vlX9_init hZ 4000000000)) (by decide +kernel) rfl (fun _ => rfl)
abbrev mX9_miss : rx_M := (RX9, cX9_miss, 1, (some .boolean), false)
theorem vy_X9_miss : rx_Y (zV b e D A X) yX9_miss mX9_miss 0 := ⟨zw1763, zw414, by decide, by decide +kernel, by decide +kernel, by decide +kernel⟩
noncomputable def vX9_miss_48 : rx_K := o_const 0 (o_ret1 rx_isZ)
set_option maxRecDepth 20000 in
theorem wX9_miss_48 (hZ : zO b e D A X) : rx_OK (zV b e D A X) mX9_miss 0 48 vX9_miss_48 := by
  unfold vX9_miss_48
  refine s_iconst dX9_miss_48 (by decide +kernel) ?_
  exact s_zret rx_z_ok rfl dX9_miss_49
noncomputable def vX9_miss_37 : rx_K := o_putf rx_isI 9 9 (o_ld rx_isR 0 (o_ld rx_isR 0 (o_getf 9 8 (o_putf rx_isI 9 10 (vX9_miss_48)))))
set_option maxRecDepth 20000 in
theorem wX9_miss_37 (hZ : zO b e D A X) : rx_OK (zV b e D A X) mX9_miss 0 37 vX9_miss_37 := by
  unfold vX9_miss_37
  refine yp9_9 hZ.1 dX9_miss_37 zw593 ?_
  refine s_aload_n hZ.1 dX9_miss_40 rfl ?_
  refine s_aload_n hZ.1 dX9_miss_41 rfl ?_
  refine yg9_8 dX9_miss_42 zw592 ?_
  refine yp9_10 hZ.1 dX9_miss_45 zw595 ?_
  exact (wX9_miss_48 hZ)
noncomputable def vX9_miss_36 : rx_K := o_const 16 (vX9_miss_37)
set_option maxRecDepth 20000 in
theorem wX9_miss_36 (hZ : zO b e D A X) : rx_OK (zV b e D A X) mX9_miss 0 36 vX9_miss_36 := by
  unfold vX9_miss_36
  refine s_iconst dX9_miss_36 (by decide +kernel) ?_
  exact (wX9_miss_37 hZ)
noncomputable def vX9_miss_32 : rx_K := o_const 8 (vX9_miss_37)
set_option maxRecDepth 20000 in
theorem wX9_miss_32 (hZ : zO b e D A X) : rx_OK (zV b e D A X) mX9_miss 0 32 vX9_miss_32 := by
  unfold vX9_miss_32
  refine s_iconst dX9_miss_32 (by decide +kernel) ?_
  exact s_goto dX9_miss_33 (by decide) (wX9_miss_37 hZ)
noncomputable def vX9_miss_19 : rx_K := o_ld rx_isR 0 (o_getf 9 1 (o_ld rx_isR 0 (o_getf 9 8 (o_ald 0 (o_const 8 (o_c2 rx_eq vX9_miss_32 vX9_miss_36))))))
set_option maxRecDepth 20000 in
theorem wX9_miss_19 (hZ : zO b e D A X) : rx_OK (zV b e D A X) mX9_miss 0 19 vX9_miss_19 := by
  unfold vX9_miss_19
  refine s_aload_n hZ.1 dX9_miss_19 rfl ?_
  refine yg9_1 dX9_miss_20 zw582 ?_
  refine s_aload_n hZ.1 dX9_miss_23 rfl ?_
  refine yg9_8 dX9_miss_24 zw592 ?_
  refine s_iald (tt := 0) rfl dX9_miss_27 ?_
  refine s_iconst dX9_miss_28 (by decide +kernel) ?_
  exact s_icmp_ne dX9_miss_29 (by decide) (wX9_miss_36 hZ) (wX9_miss_32 hZ)
noncomputable def vX9_miss_7 : rx_K := o_ld rx_isR 0 (o_ld rx_isR 0 (o_getf 9 8 (o_ld rx_isR 0 (o_getf 9 5 (o_c2 (fun h x y => rx_lt h y x) vX9_miss_36 vX9_miss_19)))))
set_option maxRecDepth 20000 in
theorem wX9_miss_7 (hZ : zO b e D A X) : rx_OK (zV b e D A X) mX9_miss 0 7 vX9_miss_7 := by
  unfold vX9_miss_7
  refine s_aload_n hZ.1 dX9_miss_7 rfl ?_
  refine s_aload_n hZ.1 dX9_miss_8 rfl ?_
  refine yg9_8 dX9_miss_9 zw592 ?_
  refine s_aload_n hZ.1 dX9_miss_12 rfl ?_
  refine yg9_5 dX9_miss_13 zw589 ?_
  exact s_icmp_gt dX9_miss_16 (by decide) (wX9_miss_36 hZ) (wX9_miss_19 hZ)
noncomputable def vX9_miss_0 : rx_K := o_ld rx_isR 0 (o_getf 9 9 (o_c1 rx_eq vX9_miss_7 vX9_miss_48))
set_option maxRecDepth 20000 in
theorem wX9_miss_0 (hZ : zO b e D A X) : rx_OK (zV b e D A X) mX9_miss 0 0 vX9_miss_0 := by
  unfold vX9_miss_0
  refine s_aload_n hZ.1 dX9_miss_0 rfl ?_
  refine yg9_9 dX9_miss_1 zw593 ?_
  exact s_if_ne dX9_miss_4 (by decide) (wX9_miss_48 hZ) (wX9_miss_7 hZ)
noncomputable def FX9_miss : List Nat → rx_H → Option (Nat × rx_H) := rx_ent 1 vX9_miss_0
theorem Met_X9_miss (hZ : zO b e D A X) : rx_Met (zV b e D A X) 0 yX9_miss mX9_miss (FX9_miss) := rx_entry hZ.1 (wX9_miss_0 hZ) (by decide +kernel) rfl (fun h => by cases h)
abbrev mX9_stop : rx_M := (RX9, cX9_stop, 2, (some .boolean), false)
theorem vy_X9_stop : rx_Y (zV b e D A X) yX9_stop mX9_stop 1 := ⟨zw1759, zw414, by decide, by decide +kernel, by decide +kernel, by decide +kernel⟩
noncomputable def vX9_stop_20 : rx_K := o_const 0 (o_ret1 rx_isZ)
set_option maxRecDepth 20000 in
theorem wX9_stop_20 (hZ : zO b e D A X) : rx_OK (zV b e D A X) mX9_stop 0 20 vX9_stop_20 := by
  unfold vX9_stop_20
  refine s_iconst dX9_stop_20 (by decide +kernel) ?_
  exact s_zret rx_z_ok rfl dX9_stop_21
noncomputable def vX9_stop_7 : rx_K := o_ld rx_isR 0 (o_ld rx_isI 1 (o_putf rx_isI 9 9 (o_ld rx_isR 0 (o_ld rx_isR 0 (o_getf 9 8 (o_putf rx_isI 9 10 (vX9_stop_20)))))))
set_option maxRecDepth 20000 in
theorem wX9_stop_7 (hZ : zO b e D A X) : rx_OK (zV b e D A X) mX9_stop 0 7 vX9_stop_7 := by
  unfold vX9_stop_7
  refine s_aload_n hZ.1 dX9_stop_7 rfl ?_
  refine s_iload_n hZ.1 dX9_stop_8 rfl ?_
  refine yp9_9 hZ.1 dX9_stop_9 zw593 ?_
  refine s_aload_n hZ.1 dX9_stop_12 rfl ?_
  refine s_aload_n hZ.1 dX9_stop_13 rfl ?_
  refine yg9_8 dX9_stop_14 zw592 ?_
  refine yp9_10 hZ.1 dX9_stop_17 zw595 ?_
  exact (wX9_stop_20 hZ)
noncomputable def vX9_stop_0 : rx_K := o_ld rx_isR 0 (o_getf 9 9 (o_c1 rx_eq vX9_stop_7 vX9_stop_20))
set_option maxRecDepth 20000 in
theorem wX9_stop_0 (hZ : zO b e D A X) : rx_OK (zV b e D A X) mX9_stop 0 0 vX9_stop_0 := by
  unfold vX9_stop_0
  refine s_aload_n hZ.1 dX9_stop_0 rfl ?_
  refine yg9_9 dX9_stop_1 zw593 ?_
  exact s_if_ne dX9_stop_4 (by decide) (wX9_stop_20 hZ) (wX9_stop_7 hZ)
noncomputable def FX9_stop : List Nat → rx_H → Option (Nat × rx_H) := rx_ent 2 vX9_stop_0
theorem Met_X9_stop (hZ : zO b e D A X) : rx_Met (zV b e D A X) 0 yX9_stop mX9_stop (FX9_stop) := rx_entry hZ.1 (wX9_stop_0 hZ) (by decide +kernel) rfl (fun h => by cases h)
abbrev mX9_need : rx_M := (RX9, cX9_need, 2, (some .boolean), false)
theorem vy_X9_need : rx_Y (zV b e D A X) yX9_need mX9_need 1 := ⟨zw1780, zw414, by decide, by decide +kernel, by decide +kernel, by decide +kernel⟩
noncomputable def vX9_need_45 : rx_K := o_ld rx_isR 0 (o_dup (o_getf 9 8 (o_const 8 (o_bi (fun x y => x + y) (o_putf rx_isI 9 8 (o_const 8 (o_ret1 rx_isZ)))))))
set_option maxRecDepth 20000 in
theorem wX9_need_45 (hZ : zO b e D A X) : rx_OK (zV b e D A X) mX9_need 1 45 vX9_need_45 := by
  unfold vX9_need_45
  refine s_aload_n hZ.1 dX9_need_45 rfl ?_
  refine s_dup hZ.1 dX9_need_46 ?_
  refine yg9_8 dX9_need_47 zw592 ?_
  refine s_iconst dX9_need_50 (by decide +kernel) ?_
  refine s_iadd dX9_need_51 ?_
  refine yp9_8 hZ.1 dX9_need_52 zw592 ?_
  refine s_iconst dX9_need_55 (by decide +kernel) ?_
  exact s_zret rx_z_ok rfl dX9_need_56
noncomputable def vX9_need_39 : rx_K := o_ld rx_isR 0 (o_const 24 (o_callV 1 9 FX9_stop (o_ret1 rx_isZ)))
set_option maxRecDepth 20000 in
theorem wX9_need_39 (hZ : zO b e D A X) : rx_OK (zV b e D A X) mX9_need 1 39 vX9_need_39 := by
  unfold vX9_need_39
  refine s_aload_n hZ.1 dX9_need_39 rfl ?_
  refine s_iconst dX9_need_40 (by decide +kernel) ?_
  refine s_callV hZ.1 (Met_X9_stop hZ) (Nat.le_of_ble_eq_true rfl) vy_X9_stop zcl9 zw1758 zw15 (Or.inl zw1756) dX9_need_41 ?_
  exact s_zret rx_z_ok rfl dX9_need_44
noncomputable def vX9_need_29 : rx_K := o_ld rx_isR 0 (o_getf 9 8 (o_const 5600 (o_c2 rx_lt vX9_need_45 vX9_need_39)))
set_option maxRecDepth 20000 in
theorem wX9_need_29 (hZ : zO b e D A X) : rx_OK (zV b e D A X) mX9_need 1 29 vX9_need_29 := by
  unfold vX9_need_29
  refine s_aload_n hZ.1 dX9_need_29 rfl ?_
  refine yg9_8 dX9_need_30 zw592 ?_
  refine s_sipush dX9_need_33 (by decide +kernel) ?_
  exact s_icmp_lt dX9_need_36 (by decide) (wX9_need_45 hZ) (wX9_need_39 hZ)
noncomputable def vX9_need_24 : rx_K := o_ld rx_isR 0 (o_callV 0 9 FX9_miss (o_ret1 rx_isZ))
set_option maxRecDepth 20000 in
theorem wX9_need_24 (hZ : zO b e D A X) : rx_OK (zV b e D A X) mX9_need 1 24 vX9_need_24 := by
  unfold vX9_need_24
  refine s_aload_n hZ.1 dX9_need_24 rfl ?_
  refine s_callV hZ.1 (Met_X9_miss hZ) (Nat.le_of_ble_eq_true rfl) vy_X9_miss zcl9 zw1762 zw16 (Or.inl zw1760) dX9_need_25 ?_
  exact s_zret rx_z_ok rfl dX9_need_28
noncomputable def vX9_need_11 : rx_K := o_ld rx_isR 0 (o_getf 9 1 (o_ld rx_isR 0 (o_getf 9 8 (o_ald 0 (o_ld rx_isI 1 (o_c2 rx_eq vX9_need_29 vX9_need_24))))))
set_option maxRecDepth 20000 in
theorem wX9_need_11 (hZ : zO b e D A X) : rx_OK (zV b e D A X) mX9_need 1 11 vX9_need_11 := by
  unfold vX9_need_11
  refine s_aload_n hZ.1 dX9_need_11 rfl ?_
  refine yg9_1 dX9_need_12 zw582 ?_
  refine s_aload_n hZ.1 dX9_need_15 rfl ?_
  refine yg9_8 dX9_need_16 zw592 ?_
  refine s_iald (tt := 0) rfl dX9_need_19 ?_
  refine s_iload_n hZ.1 dX9_need_20 rfl ?_
  exact s_icmp_eq dX9_need_21 (by decide) (wX9_need_29 hZ) (wX9_need_24 hZ)
noncomputable def vX9_need_0 : rx_K := o_ld rx_isR 0 (o_getf 9 8 (o_ld rx_isR 0 (o_getf 9 5 (o_c2 (fun h x y => rx_lt h y x) vX9_need_24 vX9_need_11))))
set_option maxRecDepth 20000 in
theorem wX9_need_0 (hZ : zO b e D A X) : rx_OK (zV b e D A X) mX9_need 1 0 vX9_need_0 := by
  unfold vX9_need_0
  refine s_aload_n hZ.1 dX9_need_0 rfl ?_
  refine yg9_8 dX9_need_1 zw592 ?_
  refine s_aload_n hZ.1 dX9_need_4 rfl ?_
  refine yg9_5 dX9_need_5 zw589 ?_
  exact s_icmp_gt dX9_need_8 (by decide) (wX9_need_24 hZ) (wX9_need_11 hZ)
noncomputable def FX9_need : List Nat → rx_H → Option (Nat × rx_H) := rx_ent 2 vX9_need_0
theorem Met_X9_need (hZ : zO b e D A X) : rx_Met (zV b e D A X) 1 yX9_need mX9_need (FX9_need) := rx_entry hZ.1 (wX9_need_0 hZ) (by decide +kernel) rfl (fun h => by cases h)
abbrev mX9_now : rx_M := (RX9, cX9_now, 1, (some .int), false)
theorem vy_X9_now : rx_Y (zV b e D A X) yX9_now mX9_now 0 := ⟨zw1747, zw414, by decide, by decide +kernel, by decide +kernel, by decide +kernel⟩
noncomputable def vX9_now_24 : rx_K := o_ret1 rx_isI
set_option maxRecDepth 20000 in
theorem wX9_now_24 (hZ : zO b e D A X) : rx_OK (zV b e D A X) mX9_now 0 24 vX9_now_24 := by
  unfold vX9_now_24
  exact s_iret hZ.1 rfl dX9_now_24
noncomputable def vX9_now_23 : rx_K := o_const 0 (vX9_now_24)
set_option maxRecDepth 20000 in
theorem wX9_now_23 (hZ : zO b e D A X) : rx_OK (zV b e D A X) mX9_now 0 23 vX9_now_23 := by
  unfold vX9_now_23
  refine s_iconst dX9_now_23 (by decide +kernel) ?_
  exact (wX9_now_24 hZ)
noncomputable def vX9_now_11 : rx_K := o_ld rx_isR 0 (o_getf 9 1 (o_ld rx_isR 0 (o_getf 9 8 (o_ald 0 (vX9_now_24)))))
set_option maxRecDepth 20000 in
theorem wX9_now_11 (hZ : zO b e D A X) : rx_OK (zV b e D A X) mX9_now 0 11 vX9_now_11 := by
  unfold vX9_now_11
  refine s_aload_n hZ.1 dX9_now_11 rfl ?_
  refine yg9_1 dX9_now_12 zw582 ?_
  refine s_aload_n hZ.1 dX9_now_15 rfl ?_
  refine yg9_8 dX9_now_16 zw592 ?_
  refine s_iald (tt := 0) rfl dX9_now_19 ?_
  exact s_goto dX9_now_20 (by decide) (wX9_now_24 hZ)
noncomputable def vX9_now_0 : rx_K := o_ld rx_isR 0 (o_getf 9 8 (o_ld rx_isR 0 (o_getf 9 5 (o_c2 (fun h x y => rx_lt h y x) vX9_now_23 vX9_now_11))))
set_option maxRecDepth 20000 in
theorem wX9_now_0 (hZ : zO b e D A X) : rx_OK (zV b e D A X) mX9_now 0 0 vX9_now_0 := by
  unfold vX9_now_0
  refine s_aload_n hZ.1 dX9_now_0 rfl ?_
  refine yg9_8 dX9_now_1 zw592 ?_
  refine s_aload_n hZ.1 dX9_now_4 rfl ?_
  refine yg9_5 dX9_now_5 zw589 ?_
  exact s_icmp_gt dX9_now_8 (by decide) (wX9_now_23 hZ) (wX9_now_11 hZ)
noncomputable def FX9_now : List Nat → rx_H → Option (Nat × rx_H) := rx_ent 1 vX9_now_0
theorem Met_X9_now (hZ : zO b e D A X) : rx_Met (zV b e D A X) 0 yX9_now mX9_now (FX9_now) := rx_entry hZ.1 (wX9_now_0 hZ) (by decide +kernel) rfl (fun h => by cases h)
abbrev mX9_node : rx_M := (RX9, cX9_node, 4, (some (.object "LinkHouse$Node")), false)
theorem vy_X9_node : rx_Y (zV b e D A X) yX9_node mX9_node 2 := ⟨zw1812, zw414, by decide, by decide +kernel, by decide +kernel, by decide +kernel⟩
noncomputable def vX9_node_23 : rx_K := o_ld rx_isR 0 (o_getf 9 13 (o_ld rx_isR 0 (o_getf 9 14 (o_ald 7 (o_st rx_isR 3 (o_ld rx_isR 0 (o_dup (o_getf 9 14 (o_const 8 (o_bi (fun x y => x + y) (o_putf rx_isI 9 14 (o_ld rx_isR 3 (o_ld rx_isI 1 (o_ld rx_isI 2 (o_callV 2 8 FX8_clear (o_ld rx_isR 3 (o_ret1 rx_isR)))))))))))))))))
set_option maxRecDepth 20000 in
theorem wX9_node_23 (hZ : zO b e D A X) : rx_OK (zV b e D A X) mX9_node 1 23 vX9_node_23 := by
  unfold vX9_node_23
  refine s_aload_n hZ.1 dX9_node_23 rfl ?_
  refine yg9_13 dX9_node_24 zw599 ?_
  refine s_aload_n hZ.1 dX9_node_27 rfl ?_
  refine yg9_14 dX9_node_28 zw600 ?_
  refine s_aald (tt := 7) rfl rfl dX9_node_31 ?_
  refine s_astore_n hZ.1 dX9_node_32 rfl (Nat.le_of_ble_eq_true rfl) ?_
  refine s_aload_n hZ.1 dX9_node_33 rfl ?_
  refine s_dup hZ.1 dX9_node_34 ?_
  refine yg9_14 dX9_node_35 zw600 ?_
  refine s_iconst dX9_node_38 (by decide +kernel) ?_
  refine s_iadd dX9_node_39 ?_
  refine yp9_14 hZ.1 dX9_node_40 zw600 ?_
  refine s_aload_n hZ.1 dX9_node_43 rfl ?_
  refine s_iload_n hZ.1 dX9_node_44 rfl ?_
  refine s_iload_n hZ.1 dX9_node_45 rfl ?_
  refine s_callV hZ.1 (Met_X8_clear hZ) (Nat.le_of_ble_eq_true rfl) vy_X8_clear zcl8 zw1814 zw1815 (Or.inl zw1813) dX9_node_46 ?_
  refine s_aload_n hZ.1 dX9_node_49 rfl ?_
  exact s_aret hZ.1 rfl (Or.inl ⟨_, rfl⟩) dX9_node_50
noncomputable def vX9_node_12 : rx_K := o_ld rx_isR 0 (o_ld rx_isR 0 (o_getf 9 13 (o_alen 7 (o_const 8 (o_bi (fun x y => x - y) (o_putf rx_isI 9 14 (vX9_node_23)))))))
set_option maxRecDepth 20000 in
theorem wX9_node_12 (hZ : zO b e D A X) : rx_OK (zV b e D A X) mX9_node 1 12 vX9_node_12 := by
  unfold vX9_node_12
  refine s_aload_n hZ.1 dX9_node_12 rfl ?_
  refine s_aload_n hZ.1 dX9_node_13 rfl ?_
  refine yg9_13 dX9_node_14 zw599 ?_
  refine s_alen (tt := 7) rfl dX9_node_17 ?_
  refine s_iconst dX9_node_18 (by decide +kernel) ?_
  refine s_isub dX9_node_19 ?_
  refine yp9_14 hZ.1 dX9_node_20 zw600 ?_
  exact (wX9_node_23 hZ)
noncomputable def vX9_node_0 : rx_K := o_ld rx_isR 0 (o_getf 9 14 (o_ld rx_isR 0 (o_getf 9 13 (o_alen 7 (o_c2 rx_lt vX9_node_23 vX9_node_12)))))
set_option maxRecDepth 20000 in
theorem wX9_node_0 (hZ : zO b e D A X) : rx_OK (zV b e D A X) mX9_node 1 0 vX9_node_0 := by
  unfold vX9_node_0
  refine s_aload_n hZ.1 dX9_node_0 rfl ?_
  refine yg9_14 dX9_node_1 zw600 ?_
  refine s_aload_n hZ.1 dX9_node_4 rfl ?_
  refine yg9_13 dX9_node_5 zw599 ?_
  refine s_alen (tt := 7) rfl dX9_node_8 ?_
  exact s_icmp_lt dX9_node_9 (by decide) (wX9_node_23 hZ) (wX9_node_12 hZ)
noncomputable def FX9_node : List Nat → rx_H → Option (Nat × rx_H) := rx_ent 4 vX9_node_0
theorem Met_X9_node (hZ : zO b e D A X) : rx_Met (zV b e D A X) 1 yX9_node mX9_node (FX9_node) := rx_entry hZ.1 (wX9_node_0 hZ) (by decide +kernel) rfl (fun h => by cases h)
abbrev mX9_beginsE : rx_M := (RX9, cX9_beginsE, 1, (some .boolean), false)
theorem vy_X9_beginsE : rx_Y (zV b e D A X) yX9_beginsE mX9_beginsE 1 := ⟨zw1824, zw414, by decide, by decide +kernel, by decide +kernel, by decide +kernel⟩
noncomputable def vX9_beginsE_51 : rx_K := o_ret1 rx_isZ
set_option maxRecDepth 20000 in
theorem wX9_beginsE_51 (hZ : zO b e D A X) : rx_OK (zV b e D A X) mX9_beginsE 0 51 vX9_beginsE_51 := by
  unfold vX9_beginsE_51
  exact s_zret rx_z_ok rfl dX9_beginsE_51
noncomputable def vX9_beginsE_50 : rx_K := o_const 0 (vX9_beginsE_51)
set_option maxRecDepth 20000 in
theorem wX9_beginsE_50 (hZ : zO b e D A X) : rx_OK (zV b e D A X) mX9_beginsE 0 50 vX9_beginsE_50 := by
  unfold vX9_beginsE_50
  refine s_iconst dX9_beginsE_50 (by decide +kernel) ?_
  exact (wX9_beginsE_51 hZ)
noncomputable def vX9_beginsE_46 : rx_K := o_const 8 (vX9_beginsE_51)
set_option maxRecDepth 20000 in
theorem wX9_beginsE_46 (hZ : zO b e D A X) : rx_OK (zV b e D A X) mX9_beginsE 0 46 vX9_beginsE_46 := by
  unfold vX9_beginsE_46
  refine s_iconst dX9_beginsE_46 (by decide +kernel) ?_
  exact s_goto dX9_beginsE_47 (by decide) (wX9_beginsE_51 hZ)
noncomputable def vX9_beginsE_39 : rx_K := o_ld rx_isI 0 (o_const 1120 (o_c2 rx_eq vX9_beginsE_46 vX9_beginsE_50))
set_option maxRecDepth 20000 in
theorem wX9_beginsE_39 (hZ : zO b e D A X) : rx_OK (zV b e D A X) mX9_beginsE 0 39 vX9_beginsE_39 := by
  unfold vX9_beginsE_39
  refine s_iload_n hZ.1 dX9_beginsE_39 rfl ?_
  refine s_sipush dX9_beginsE_40 (by decide +kernel) ?_
  exact s_icmp_ne dX9_beginsE_43 (by decide) (wX9_beginsE_50 hZ) (wX9_beginsE_46 hZ)
noncomputable def vX9_beginsE_33 : rx_K := o_ld rx_isI 0 (o_const 200 (o_c2 rx_eq vX9_beginsE_46 vX9_beginsE_39))
set_option maxRecDepth 20000 in
theorem wX9_beginsE_33 (hZ : zO b e D A X) : rx_OK (zV b e D A X) mX9_beginsE 0 33 vX9_beginsE_33 := by
  unfold vX9_beginsE_33
  refine s_iload_n hZ.1 dX9_beginsE_33 rfl ?_
  refine s_bipush dX9_beginsE_34 (by decide +kernel) ?_
  exact s_icmp_eq dX9_beginsE_36 (by decide) (wX9_beginsE_46 hZ) (wX9_beginsE_39 hZ)
noncomputable def vX9_beginsE_27 : rx_K := o_ld rx_isI 0 (o_const 304 (o_c2 rx_eq vX9_beginsE_46 vX9_beginsE_33))
set_option maxRecDepth 20000 in
theorem wX9_beginsE_27 (hZ : zO b e D A X) : rx_OK (zV b e D A X) mX9_beginsE 0 27 vX9_beginsE_27 := by
  unfold vX9_beginsE_27
  refine s_iload_n hZ.1 dX9_beginsE_27 rfl ?_
  refine s_bipush dX9_beginsE_28 (by decide +kernel) ?_
  exact s_icmp_eq dX9_beginsE_30 (by decide) (wX9_beginsE_46 hZ) (wX9_beginsE_33 hZ)
noncomputable def vX9_beginsE_21 : rx_K := o_ld rx_isI 0 (o_const 296 (o_c2 rx_eq vX9_beginsE_46 vX9_beginsE_27))
set_option maxRecDepth 20000 in
theorem wX9_beginsE_21 (hZ : zO b e D A X) : rx_OK (zV b e D A X) mX9_beginsE 0 21 vX9_beginsE_21 := by
  unfold vX9_beginsE_21
  refine s_iload_n hZ.1 dX9_beginsE_21 rfl ?_
  refine s_bipush dX9_beginsE_22 (by decide +kernel) ?_
  exact s_icmp_eq dX9_beginsE_24 (by decide) (wX9_beginsE_46 hZ) (wX9_beginsE_27 hZ)
noncomputable def vX9_beginsE_15 : rx_K := o_ld rx_isI 0 (o_const 288 (o_c2 rx_eq vX9_beginsE_46 vX9_beginsE_21))
set_option maxRecDepth 20000 in
theorem wX9_beginsE_15 (hZ : zO b e D A X) : rx_OK (zV b e D A X) mX9_beginsE 0 15 vX9_beginsE_15 := by
  unfold vX9_beginsE_15
  refine s_iload_n hZ.1 dX9_beginsE_15 rfl ?_
  refine s_bipush dX9_beginsE_16 (by decide +kernel) ?_
  exact s_icmp_eq dX9_beginsE_18 (by decide) (wX9_beginsE_46 hZ) (wX9_beginsE_21 hZ)
noncomputable def vX9_beginsE_10 : rx_K := o_ld rx_isI 0 (o_const 16 (o_c2 rx_eq vX9_beginsE_46 vX9_beginsE_15))
set_option maxRecDepth 20000 in
theorem wX9_beginsE_10 (hZ : zO b e D A X) : rx_OK (zV b e D A X) mX9_beginsE 0 10 vX9_beginsE_10 := by
  unfold vX9_beginsE_10
  refine s_iload_n hZ.1 dX9_beginsE_10 rfl ?_
  refine s_iconst dX9_beginsE_11 (by decide +kernel) ?_
  exact s_icmp_eq dX9_beginsE_12 (by decide) (wX9_beginsE_46 hZ) (wX9_beginsE_15 hZ)
noncomputable def vX9_beginsE_5 : rx_K := o_ld rx_isI 0 (o_const 24 (o_c2 rx_eq vX9_beginsE_46 vX9_beginsE_10))
set_option maxRecDepth 20000 in
theorem wX9_beginsE_5 (hZ : zO b e D A X) : rx_OK (zV b e D A X) mX9_beginsE 0 5 vX9_beginsE_5 := by
  unfold vX9_beginsE_5
  refine s_iload_n hZ.1 dX9_beginsE_5 rfl ?_
  refine s_iconst dX9_beginsE_6 (by decide +kernel) ?_
  exact s_icmp_eq dX9_beginsE_7 (by decide) (wX9_beginsE_46 hZ) (wX9_beginsE_10 hZ)
noncomputable def vX9_beginsE_0 : rx_K := o_ld rx_isI 0 (o_const 32 (o_c2 rx_eq vX9_beginsE_46 vX9_beginsE_5))
set_option maxRecDepth 20000 in
theorem wX9_beginsE_0 (hZ : zO b e D A X) : rx_OK (zV b e D A X) mX9_beginsE 0 0 vX9_beginsE_0 := by
  unfold vX9_beginsE_0
  refine s_iload_n hZ.1 dX9_beginsE_0 rfl ?_
  refine s_iconst dX9_beginsE_1 (by decide +kernel) ?_
  exact s_icmp_eq dX9_beginsE_2 (by decide) (wX9_beginsE_46 hZ) (wX9_beginsE_5 hZ)
noncomputable def FX9_beginsE : List Nat → rx_H → Option (Nat × rx_H) := rx_ent 1 vX9_beginsE_0
theorem Met_X9_beginsE (hZ : zO b e D A X) : rx_Met (zV b e D A X) 0 yX9_beginsE mX9_beginsE (FX9_beginsE) := rx_entry hZ.1 (wX9_beginsE_0 hZ) (by decide +kernel) rfl (fun h => by cases h)
abbrev mX9_isChained : rx_M := (RX9, cX9_isChained, 2, (some .boolean), false)
theorem vy_X9_isChained : rx_Y (zV b e D A X) yX9_isChained mX9_isChained 2 := ⟨zw1867, zw414, by decide, by decide +kernel, by decide +kernel, by decide +kernel⟩
noncomputable def vX9_isChained_38 : rx_K := o_ret1 rx_isZ
set_option maxRecDepth 20000 in
theorem wX9_isChained_38 (hZ : zO b e D A X) : rx_OK (zV b e D A X) mX9_isChained 0 38 vX9_isChained_38 := by
  unfold vX9_isChained_38
  exact s_zret rx_z_ok rfl dX9_isChained_38
noncomputable def vX9_isChained_37 : rx_K := o_const 0 (vX9_isChained_38)
set_option maxRecDepth 20000 in
theorem wX9_isChained_37 (hZ : zO b e D A X) : rx_OK (zV b e D A X) mX9_isChained 0 37 vX9_isChained_37 := by
  unfold vX9_isChained_37
  refine s_iconst dX9_isChained_37 (by decide +kernel) ?_
  exact (wX9_isChained_38 hZ)
noncomputable def vX9_isChained_33 : rx_K := o_const 8 (vX9_isChained_38)
set_option maxRecDepth 20000 in
theorem wX9_isChained_33 (hZ : zO b e D A X) : rx_OK (zV b e D A X) mX9_isChained 0 33 vX9_isChained_33 := by
  unfold vX9_isChained_33
  refine s_iconst dX9_isChained_33 (by decide +kernel) ?_
  exact s_goto dX9_isChained_34 (by decide) (wX9_isChained_38 hZ)
noncomputable def vX9_isChained_26 : rx_K := o_ld rx_isI 0 (o_const 1136 (o_c2 rx_eq vX9_isChained_33 vX9_isChained_37))
set_option maxRecDepth 20000 in
theorem wX9_isChained_26 (hZ : zO b e D A X) : rx_OK (zV b e D A X) mX9_isChained 0 26 vX9_isChained_26 := by
  unfold vX9_isChained_26
  refine s_iload_n hZ.1 dX9_isChained_26 rfl ?_
  refine s_sipush dX9_isChained_27 (by decide +kernel) ?_
  exact s_icmp_ne dX9_isChained_30 (by decide) (wX9_isChained_37 hZ) (wX9_isChained_33 hZ)
noncomputable def vX9_isChained_22 : rx_K := o_const 0 (vX9_isChained_38)
set_option maxRecDepth 20000 in
theorem wX9_isChained_22 (hZ : zO b e D A X) : rx_OK (zV b e D A X) mX9_isChained 0 22 vX9_isChained_22 := by
  unfold vX9_isChained_22
  refine s_iconst dX9_isChained_22 (by decide +kernel) ?_
  exact s_goto dX9_isChained_23 (by decide) (wX9_isChained_38 hZ)
noncomputable def vX9_isChained_18 : rx_K := o_const 8 (vX9_isChained_38)
set_option maxRecDepth 20000 in
theorem wX9_isChained_18 (hZ : zO b e D A X) : rx_OK (zV b e D A X) mX9_isChained 0 18 vX9_isChained_18 := by
  unfold vX9_isChained_18
  refine s_iconst dX9_isChained_18 (by decide +kernel) ?_
  exact s_goto dX9_isChained_19 (by decide) (wX9_isChained_38 hZ)
noncomputable def vX9_isChained_11 : rx_K := o_ld rx_isI 0 (o_const 1160 (o_c2 rx_eq vX9_isChained_18 vX9_isChained_22))
set_option maxRecDepth 20000 in
theorem wX9_isChained_11 (hZ : zO b e D A X) : rx_OK (zV b e D A X) mX9_isChained 0 11 vX9_isChained_11 := by
  unfold vX9_isChained_11
  refine s_iload_n hZ.1 dX9_isChained_11 rfl ?_
  refine s_sipush dX9_isChained_12 (by decide +kernel) ?_
  exact s_icmp_ne dX9_isChained_15 (by decide) (wX9_isChained_22 hZ) (wX9_isChained_18 hZ)
noncomputable def vX9_isChained_4 : rx_K := o_ld rx_isI 0 (o_const 1144 (o_c2 rx_eq vX9_isChained_18 vX9_isChained_11))
set_option maxRecDepth 20000 in
theorem wX9_isChained_4 (hZ : zO b e D A X) : rx_OK (zV b e D A X) mX9_isChained 0 4 vX9_isChained_4 := by
  unfold vX9_isChained_4
  refine s_iload_n hZ.1 dX9_isChained_4 rfl ?_
  refine s_sipush dX9_isChained_5 (by decide +kernel) ?_
  exact s_icmp_eq dX9_isChained_8 (by decide) (wX9_isChained_18 hZ) (wX9_isChained_11 hZ)
noncomputable def vX9_isChained_0 : rx_K := o_ld rx_isI 1 (o_c1 rx_eq vX9_isChained_26 vX9_isChained_4)
set_option maxRecDepth 20000 in
theorem wX9_isChained_0 (hZ : zO b e D A X) : rx_OK (zV b e D A X) mX9_isChained 0 0 vX9_isChained_0 := by
  unfold vX9_isChained_0
  refine s_iload_n hZ.1 dX9_isChained_0 rfl ?_
  exact s_if_eq dX9_isChained_1 (by decide) (wX9_isChained_26 hZ) (wX9_isChained_4 hZ)
noncomputable def FX9_isChained : List Nat → rx_H → Option (Nat × rx_H) := rx_ent 2 vX9_isChained_0
theorem Met_X9_isChained (hZ : zO b e D A X) : rx_Met (zV b e D A X) 0 yX9_isChained mX9_isChained (FX9_isChained) := rx_entry hZ.1 (wX9_isChained_0 hZ) (by decide +kernel) rfl (fun h => by cases h)
abbrev mX9_take : rx_M := (RX9, cX9_take, 1, (some .boolean), false)
theorem vy_X9_take : rx_Y (zV b e D A X) yX9_take mX9_take 0 := ⟨zw1755, zw414, by decide, by decide +kernel, by decide +kernel, by decide +kernel⟩
noncomputable def vX9_take_16 : rx_K := o_ld rx_isR 0 (o_dup (o_getf 9 8 (o_const 8 (o_bi (fun x y => x + y) (o_putf rx_isI 9 8 (o_const 8 (o_ret1 rx_isZ)))))))
set_option maxRecDepth 20000 in
theorem wX9_take_16 (hZ : zO b e D A X) : rx_OK (zV b e D A X) mX9_take 1 16 vX9_take_16 := by
  unfold vX9_take_16
  refine s_aload_n hZ.1 dX9_take_16 rfl ?_
  refine s_dup hZ.1 dX9_take_17 ?_
  refine yg9_8 dX9_take_18 zw592 ?_
  refine s_iconst dX9_take_21 (by decide +kernel) ?_
  refine s_iadd dX9_take_22 ?_
  refine yp9_8 hZ.1 dX9_take_23 zw592 ?_
  refine s_iconst dX9_take_26 (by decide +kernel) ?_
  exact s_zret rx_z_ok rfl dX9_take_27
noncomputable def vX9_take_10 : rx_K := o_ld rx_isR 0 (o_const 24 (o_callV 1 9 FX9_stop (o_ret1 rx_isZ)))
set_option maxRecDepth 20000 in
theorem wX9_take_10 (hZ : zO b e D A X) : rx_OK (zV b e D A X) mX9_take 1 10 vX9_take_10 := by
  unfold vX9_take_10
  refine s_aload_n hZ.1 dX9_take_10 rfl ?_
  refine s_iconst dX9_take_11 (by decide +kernel) ?_
  refine s_callV hZ.1 (Met_X9_stop hZ) (Nat.le_of_ble_eq_true rfl) vy_X9_stop zcl9 zw1758 zw15 (Or.inl zw1756) dX9_take_12 ?_
  exact s_zret rx_z_ok rfl dX9_take_15
noncomputable def vX9_take_0 : rx_K := o_ld rx_isR 0 (o_getf 9 8 (o_const 5600 (o_c2 rx_lt vX9_take_16 vX9_take_10)))
set_option maxRecDepth 20000 in
theorem wX9_take_0 (hZ : zO b e D A X) : rx_OK (zV b e D A X) mX9_take 1 0 vX9_take_0 := by
  unfold vX9_take_0
  refine s_aload_n hZ.1 dX9_take_0 rfl ?_
  refine yg9_8 dX9_take_1 zw592 ?_
  refine s_sipush dX9_take_4 (by decide +kernel) ?_
  exact s_icmp_lt dX9_take_7 (by decide) (wX9_take_16 hZ) (wX9_take_10 hZ)
noncomputable def FX9_take : List Nat → rx_H → Option (Nat × rx_H) := rx_ent 1 vX9_take_0
theorem Met_X9_take (hZ : zO b e D A X) : rx_Met (zV b e D A X) 1 yX9_take mX9_take (FX9_take) := rx_entry hZ.1 (wX9_take_0 hZ) (by decide +kernel) rfl (fun h => by cases h)
abbrev mX9_behind : rx_M := (RX9, cX9_behind, 1, (some .int), false)
theorem vy_X9_behind : rx_Y (zV b e D A X) yX9_behind mX9_behind 0 := ⟨zw1828, zw414, by decide, by decide +kernel, by decide +kernel, by decide +kernel⟩
noncomputable def vX9_behind_28 : rx_K := o_ret1 rx_isI
set_option maxRecDepth 20000 in
theorem wX9_behind_28 (hZ : zO b e D A X) : rx_OK (zV b e D A X) mX9_behind 0 28 vX9_behind_28 := by
  unfold vX9_behind_28
  exact s_iret hZ.1 rfl dX9_behind_28
noncomputable def vX9_behind_27 : rx_K := o_const 0 (vX9_behind_28)
set_option maxRecDepth 20000 in
theorem wX9_behind_27 (hZ : zO b e D A X) : rx_OK (zV b e D A X) mX9_behind 0 27 vX9_behind_27 := by
  unfold vX9_behind_27
  refine s_iconst dX9_behind_27 (by decide +kernel) ?_
  exact (wX9_behind_28 hZ)
noncomputable def vX9_behind_13 : rx_K := o_ld rx_isR 0 (o_getf 9 1 (o_ld rx_isR 0 (o_getf 9 8 (o_const 8 (o_bi (fun x y => x + y) (o_ald 0 (vX9_behind_28)))))))
set_option maxRecDepth 20000 in
theorem wX9_behind_13 (hZ : zO b e D A X) : rx_OK (zV b e D A X) mX9_behind 0 13 vX9_behind_13 := by
  unfold vX9_behind_13
  refine s_aload_n hZ.1 dX9_behind_13 rfl ?_
  refine yg9_1 dX9_behind_14 zw582 ?_
  refine s_aload_n hZ.1 dX9_behind_17 rfl ?_
  refine yg9_8 dX9_behind_18 zw592 ?_
  refine s_iconst dX9_behind_21 (by decide +kernel) ?_
  refine s_iadd dX9_behind_22 ?_
  refine s_iald (tt := 0) rfl dX9_behind_23 ?_
  exact s_goto dX9_behind_24 (by decide) (wX9_behind_28 hZ)
noncomputable def vX9_behind_0 : rx_K := o_ld rx_isR 0 (o_getf 9 8 (o_const 8 (o_bi (fun x y => x + y) (o_ld rx_isR 0 (o_getf 9 5 (o_c2 (fun h x y => rx_lt h y x) vX9_behind_27 vX9_behind_13))))))
set_option maxRecDepth 20000 in
theorem wX9_behind_0 (hZ : zO b e D A X) : rx_OK (zV b e D A X) mX9_behind 0 0 vX9_behind_0 := by
  unfold vX9_behind_0
  refine s_aload_n hZ.1 dX9_behind_0 rfl ?_
  refine yg9_8 dX9_behind_1 zw592 ?_
  refine s_iconst dX9_behind_4 (by decide +kernel) ?_
  refine s_iadd dX9_behind_5 ?_
  refine s_aload_n hZ.1 dX9_behind_6 rfl ?_
  refine yg9_5 dX9_behind_7 zw589 ?_
  exact s_icmp_gt dX9_behind_10 (by decide) (wX9_behind_27 hZ) (wX9_behind_13 hZ)
noncomputable def FX9_behind : List Nat → rx_H → Option (Nat × rx_H) := rx_ent 1 vX9_behind_0
theorem Met_X9_behind (hZ : zO b e D A X) : rx_Met (zV b e D A X) 0 yX9_behind mX9_behind (FX9_behind) := rx_entry hZ.1 (wX9_behind_0 hZ) (by decide +kernel) rfl (fun h => by cases h)
abbrev mX9_args : rx_M := (RX9, cX9_args, 7, (some .boolean), false)
theorem vy_X9_args : rx_Y (zV b e D A X) yX9_args mX9_args 2 := ⟨zw1832, zw414, by decide, by decide +kernel, by decide +kernel, by decide +kernel⟩
abbrev mX9_behindUnit : rx_M := (RX9, cX9_behindUnit, 4, (some (.object "LinkHouse$Node")), false)
theorem vy_X9_behindUnit : rx_Y (zV b e D A X) yX9_behindUnit mX9_behindUnit 1 := ⟨zw1864, zw414, by decide, by decide +kernel, by decide +kernel, by decide +kernel⟩
abbrev mX9_chain : rx_M := (RX9, cX9_chain, 8, (some (.object "LinkHouse$Node")), false)
theorem vy_X9_chain : rx_Y (zV b e D A X) yX9_chain mX9_chain 2 := ⟨zw1840, zw414, by decide, by decide +kernel, by decide +kernel, by decide +kernel⟩
abbrev mX9_expr : rx_M := (RX9, cX9_expr, 4, (some (.object "LinkHouse$Node")), false)
theorem vy_X9_expr : rx_Y (zV b e D A X) yX9_expr mX9_expr 1 := ⟨zw1836, zw414, by decide, by decide +kernel, by decide +kernel, by decide +kernel⟩
abbrev mX9_front : rx_M := (RX9, cX9_front, 4, (some (.object "LinkHouse$Node")), false)
theorem vy_X9_front : rx_Y (zV b e D A X) yX9_front mX9_front 1 := ⟨zw1848, zw414, by decide, by decide +kernel, by decide +kernel, by decide +kernel⟩
abbrev mX9_ofClass : rx_M := (RX9, cX9_ofClass, 3, (some (.object "LinkHouse$Node")), false)
theorem vy_X9_ofClass : rx_Y (zV b e D A X) yX9_ofClass mX9_ofClass 2 := ⟨zw1852, zw414, by decide, by decide +kernel, by decide +kernel, by decide +kernel⟩
abbrev mX9_round : rx_M := (RX9, cX9_round, 3, (some (.object "LinkHouse$Node")), false)
theorem vy_X9_round : rx_Y (zV b e D A X) yX9_round mX9_round 2 := ⟨zw1860, zw414, by decide, by decide +kernel, by decide +kernel, by decide +kernel⟩
abbrev mX9_superCall : rx_M := (RX9, cX9_superCall, 3, (some .boolean), false)
theorem vy_X9_superCall : rx_Y (zV b e D A X) yX9_superCall mX9_superCall 2 := ⟨zw1856, zw414, by decide, by decide +kernel, by decide +kernel, by decide +kernel⟩
abbrev mX9_unit : rx_M := (RX9, cX9_unit, 7, (some (.object "LinkHouse$Node")), false)
theorem vy_X9_unit : rx_Y (zV b e D A X) yX9_unit mX9_unit 1 := ⟨zw1844, zw414, by decide, by decide +kernel, by decide +kernel, by decide +kernel⟩
abbrev vl6 : List (MethodName × rx_M) := [(yX9_args, mX9_args), (yX9_behindUnit, mX9_behindUnit), (yX9_chain, mX9_chain), (yX9_expr, mX9_expr), (yX9_front, mX9_front), (yX9_ofClass, mX9_ofClass), (yX9_round, mX9_round), (yX9_superCall, mX9_superCall), (yX9_unit, mX9_unit)]
end ZM23

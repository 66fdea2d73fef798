section DE
def PX4_head_273 (J : Nat → List Int → gS → (Int → gS → Prop) → Prop) (l1 : Int) (l2 : Int) (l3 : Int) (l4 : Int) (l5 : Int) (l6 : Int) (l7 : Int) (G : gS) (Q : Int → gS → Prop) : Prop :=
  (inI (l3 + 1) ∧ PX4_fail 5 (l3 + 1) G (fun r111 G110 => (0 ≤ r111 ∧ r111 ≤ 1) → Q (r111) G110))
set_option maxRecDepth 20000 in
theorem TX4_head_273 {j : Nat → rx_K} {J : Nat → List Int → gS → (Int → gS → Prop) → Prop} {l1 : Int} {l2 : Int} {l3 : Int} {l4 : Int} {l5 : Int} {l6 : Int} {l7 : Int} {G : gS} {Q : Int → gS → Prop} (hl2 : inI l2) (hl3 : inI l3) (hl4 : inI l4) (hl5 : inI l5) (hl6 : inI l6) (hl7 : inI l7) (hj0 : ∀ (l1 : Int) (l2 : Int) (l3 : Int) (l4 : Nat) (l5 : Nat) (l6 : Nat) (l7 : Nat) (G : gS), (inI l2) → (inI l3) → (l4 % 8 ≠ 1) → (l5 % 8 ≠ 1) → (l6 % 8 ≠ 1) → (l7 % 8 ≠ 1) → J 0 [l1, l2, l3] G Q → Tg W0 (j 0) [rf (814), rf (l1), cI (l2), cI (l3), l4, l5, l6, l7] [] G (fun r G => ∃ v, r = cI v ∧ (0 ≤ v ∧ v ≤ 1) ∧ Q v G)) (hj1 : ∀ (l1 : Int) (l2 : Int) (l3 : Int) (l4 : Int) (l5 : Nat) (l6 : Nat) (l7 : Nat) (G : gS), (inI l2) → (inI l3) → (inI l4) → (l5 % 8 ≠ 1) → (l6 % 8 ≠ 1) → (l7 % 8 ≠ 1) → J 1 [l1, l2, l3, l4] G Q → Tg W0 (j 1) [rf (814), rf (l1), cI (l2), cI (l3), cI (l4), l5, l6, l7] [] G (fun r G => ∃ v, r = cI v ∧ (0 ≤ v ∧ v ≤ 1) ∧ Q v G)) (hj2 : ∀ (l1 : Int) (l2 : Int) (l3 : Int) (l4 : Int) (l5 : Int) (l6 : Int) (l7 : Int) (G : gS), (inI l2) → (inI l3) → (inI l4) → (inI l5) → (inI l6) → (inI l7) → J 2 [l1, l2, l3, l4, l5, l6, l7] G Q → Tg W0 (j 2) [rf (814), rf (l1), cI (l2), cI (l3), cI (l4), cI (l5), cI (l6), cI (l7)] [] G (fun r G => ∃ v, r = cI v ∧ (0 ≤ v ∧ v ≤ 1) ∧ Q v G)) (h : PX4_head_273 J l1 l2 l3 l4 l5 l6 l7 G Q) : Tg W0 (vX4_head_273 j) [rf (814), rf (l1), cI (l2), cI (l3), cI (l4), cI (l5), cI (l6), cI (l7)] [] G (fun r G => ∃ v, r = cI v ∧ (0 ≤ v ∧ v ≤ 1) ∧ Q v G) := by
  unfold PX4_head_273 at h
  unfold vX4_head_273
  refine g_ld (v := rf _) rfl (is_R _) ?_
  refine g_const (v := cI (5)) rfl ?_
  refine g_ld (v := cI _) rfl (is_I _) ?_
  refine g_const (v := cI (1)) rfl ?_
  refine g_add ?_
  obtain ⟨q109, h⟩ := h
  refine g_callV (As := [_, _]) (ci := 4) oC4 (fun _ => rfl) ?_
  refine g_go1 (Nat.le_of_ble_eq_true rfl) (Tn_w (TX4_fail ⟨by omega, by omega⟩ q109 h) fun _ G110 ⟨r111, e, i112, h⟩ => ?_)
  subst e
  refine ⟨n7_I _, ?_⟩
  replace h := h i112
  exact g_ret1 (is_Z i112) ⟨_, rfl, i112, h⟩
def PX4_head_228 (J : Nat → List Int → gS → (Int → gS → Prop) → Prop) (l1 : Int) (l2 : Int) (l3 : Int) (l4 : Int) (l5 : Int) (l6 : Int) (l7 : Int) (s0 : Int) (s1 : Int) (G : gS) (Q : Int → gS → Prop) : Prop :=
  (inI (ior s0 s1) → (inI (l7 + 1) ∧ J 2 [l1, l2, l3, l4, l5, ior s0 s1, l7 + 1] G Q))
set_option maxRecDepth 20000 in
theorem TX4_head_228 {j : Nat → rx_K} {J : Nat → List Int → gS → (Int → gS → Prop) → Prop} {l1 : Int} {l2 : Int} {l3 : Int} {l4 : Int} {l5 : Int} {l6 : Int} {l7 : Int} {s0 : Int} {s1 : Int} {G : gS} {Q : Int → gS → Prop} (hl2 : inI l2) (hl3 : inI l3) (hl4 : inI l4) (hl5 : inI l5) (hl6 : inI l6) (hl7 : inI l7) (hs0 : inI s0) (hs1 : inI s1) (hj0 : ∀ (l1 : Int) (l2 : Int) (l3 : Int) (l4 : Nat) (l5 : Nat) (l6 : Nat) (l7 : Nat) (G : gS), (inI l2) → (inI l3) → (l4 % 8 ≠ 1) → (l5 % 8 ≠ 1) → (l6 % 8 ≠ 1) → (l7 % 8 ≠ 1) → J 0 [l1, l2, l3] G Q → Tg W0 (j 0) [rf (814), rf (l1), cI (l2), cI (l3), l4, l5, l6, l7] [] G (fun r G => ∃ v, r = cI v ∧ (0 ≤ v ∧ v ≤ 1) ∧ Q v G)) (hj1 : ∀ (l1 : Int) (l2 : Int) (l3 : Int) (l4 : Int) (l5 : Nat) (l6 : Nat) (l7 : Nat) (G : gS), (inI l2) → (inI l3) → (inI l4) → (l5 % 8 ≠ 1) → (l6 % 8 ≠ 1) → (l7 % 8 ≠ 1) → J 1 [l1, l2, l3, l4] G Q → Tg W0 (j 1) [rf (814), rf (l1), cI (l2), cI (l3), cI (l4), l5, l6, l7] [] G (fun r G => ∃ v, r = cI v ∧ (0 ≤ v ∧ v ≤ 1) ∧ Q v G)) (hj2 : ∀ (l1 : Int) (l2 : Int) (l3 : Int) (l4 : Int) (l5 : Int) (l6 : Int) (l7 : Int) (G : gS), (inI l2) → (inI l3) → (inI l4) → (inI l5) → (inI l6) → (inI l7) → J 2 [l1, l2, l3, l4, l5, l6, l7] G Q → Tg W0 (j 2) [rf (814), rf (l1), cI (l2), cI (l3), cI (l4), cI (l5), cI (l6), cI (l7)] [] G (fun r G => ∃ v, r = cI v ∧ (0 ≤ v ∧ v ≤ 1) ∧ Q v G)) (h : PX4_head_228 J l1 l2 l3 l4 l5 l6 l7 s0 s1 G Q) : Tg W0 (vX4_head_228 j) [rf (814), rf (l1), cI (l2), cI (l3), cI (l4), cI (l5), cI (l6), cI (l7)] [cI (s1), cI (s0)] G (fun r G => ∃ v, r = cI v ∧ (0 ≤ v ∧ v ≤ 1) ∧ Q v G) := by
  unfold PX4_head_228 at h
  unfold vX4_head_228
  refine g_ior fun i107 => ?_
  replace h := h i107
  refine g_st (lv' := [_, _, _, _, _, _, _, _]) (is_I _) (Nat.le_of_ble_eq_true rfl) (Or.inr (n1_I _)) rfl ?_
  refine g_inc (lv' := [_, _, _, _, _, _, _, _]) rfl (Nat.le_of_ble_eq_true rfl) (Or.inr (n1_I _)) rfl ?_
  obtain ⟨q108, h⟩ := h
  exact hj2 _ _ _ _ _ _ _ _ hl2 hl3 hl4 hl5 i107 q108 h
def PX4_head_196 (J : Nat → List Int → gS → (Int → gS → Prop) → Prop) (l1 : Int) (l2 : Int) (l3 : Int) (l4 : Int) (l5 : Int) (l6 : Int) (l7 : Int) (G : gS) (Q : Int → gS → Prop) : Prop :=
  ((l7 < l4 → (isO W0 10 (l1) ∧ PX10_listedAt l1 0 l7 G (fun r85 G84 => inL r85 → PX10_listedAt l1 0 l4 G84 (fun r88 G87 => inL r88 → ((r85 = r88 → PX4_head_228 J l1 l2 l3 l4 l5 l6 l7 l6 1 G87 Q) ∧ (¬ (r85 = r88) → PX4_head_228 J l1 l2 l3 l4 l5 l6 l7 l6 0 G87 Q)))))) ∧ (¬ (l7 < l4) → ((l6 = 0 → ((l5 < 0 → PX4_head_273 J l1 l2 l3 l4 l5 l6 l7 G Q) ∧ (¬ (l5 < 0) → ((G 814 0 = -1 ∨ isO W0 11 (G 814 0)) → (isO W0 11 (G 814 0) ∧ ((0 : Int) ≤ l5 ∧ ((l5 : Int) < 64 ∧ (((G ((G 814 0) + 1) l5 = -1 ∨ isO W0 10 (G ((G 814 0) + 1) l5)) ∧ ∀ v, W0.2 ((G 814 0) + 1) l5 = some v → G ((G 814 0) + 1) l5 = v) → (isO W0 10 (G ((G 814 0) + 1) l5) ∧ ((0 ≤ G (G ((G 814 0) + 1) l5) 4 ∧ G (G ((G 814 0) + 1) l5) 4 ≤ 1) → ((G (G ((G 814 0) + 1) l5) 4 = 0 → PX4_head_273 J l1 l2 l3 l4 l5 l6 l7 G Q) ∧ (¬ (G (G ((G 814 0) + 1) l5) 4 = 0) → PX4_barred l5 l1 G (fun r102 G101 => (0 ≤ r102 ∧ r102 ≤ 1) → ((r102 = 0 → (inI (l3 + 2) ∧ (inI (l4 + 1) ∧ J 1 [l1, l2, l3 + 2, l4 + 1] G101 Q))) ∧ (¬ (r102 = 0) → PX4_head_273 J l1 l2 l3 l4 l5 l6 l7 G101 Q))))))))))))))) ∧ (¬ (l6 = 0) → PX4_head_273 J l1 l2 l3 l4 l5 l6 l7 G Q))))
set_option maxRecDepth 20000 in
theorem TX4_head_196 {j : Nat → rx_K} {J : Nat → List Int → gS → (Int → gS → Prop) → Prop} {l1 : Int} {l2 : Int} {l3 : Int} {l4 : Int} {l5 : Int} {l6 : Int} {l7 : Int} {G : gS} {Q : Int → gS → Prop} (hl2 : inI l2) (hl3 : inI l3) (hl4 : inI l4) (hl5 : inI l5) (hl6 : inI l6) (hl7 : inI l7) (hj0 : ∀ (l1 : Int) (l2 : Int) (l3 : Int) (l4 : Nat) (l5 : Nat) (l6 : Nat) (l7 : Nat) (G : gS), (inI l2) → (inI l3) → (l4 % 8 ≠ 1) → (l5 % 8 ≠ 1) → (l6 % 8 ≠ 1) → (l7 % 8 ≠ 1) → J 0 [l1, l2, l3] G Q → Tg W0 (j 0) [rf (814), rf (l1), cI (l2), cI (l3), l4, l5, l6, l7] [] G (fun r G => ∃ v, r = cI v ∧ (0 ≤ v ∧ v ≤ 1) ∧ Q v G)) (hj1 : ∀ (l1 : Int) (l2 : Int) (l3 : Int) (l4 : Int) (l5 : Nat) (l6 : Nat) (l7 : Nat) (G : gS), (inI l2) → (inI l3) → (inI l4) → (l5 % 8 ≠ 1) → (l6 % 8 ≠ 1) → (l7 % 8 ≠ 1) → J 1 [l1, l2, l3, l4] G Q → Tg W0 (j 1) [rf (814), rf (l1), cI (l2), cI (l3), cI (l4), l5, l6, l7] [] G (fun r G => ∃ v, r = cI v ∧ (0 ≤ v ∧ v ≤ 1) ∧ Q v G)) (hj2 : ∀ (l1 : Int) (l2 : Int) (l3 : Int) (l4 : Int) (l5 : Int) (l6 : Int) (l7 : Int) (G : gS), (inI l2) → (inI l3) → (inI l4) → (inI l5) → (inI l6) → (inI l7) → J 2 [l1, l2, l3, l4, l5, l6, l7] G Q → Tg W0 (j 2) [rf (814), rf (l1), cI (l2), cI (l3), cI (l4), cI (l5), cI (l6), cI (l7)] [] G (fun r G => ∃ v, r = cI v ∧ (0 ≤ v ∧ v ≤ 1) ∧ Q v G)) (h : PX4_head_196 J l1 l2 l3 l4 l5 l6 l7 G Q) : Tg W0 (vX4_head_196 j) [rf (814), rf (l1), cI (l2), cI (l3), cI (l4), cI (l5), cI (l6), cI (l7)] [] G (fun r G => ∃ v, r = cI v ∧ (0 ≤ v ∧ v ≤ 1) ∧ Q v G) := by
  unfold PX4_head_196 at h
  unfold vX4_head_196
  refine g_ld (v := cI _) rfl (is_I _) ?_
  refine g_ld (v := cI _) rfl (is_I _) ?_
  refine g_lt2 hl7 hl4 (fun b82 => ?_) (fun b82 => ?_)
  · replace h := h.1 b82
    unfold vX4_head_203
    refine g_ld (v := cI _) rfl (is_I _) ?_
    refine g_ld (v := rf _) rfl (is_R _) ?_
    refine g_const (v := cI (0)) rfl ?_
    refine g_ld (v := cI _) rfl (is_I _) ?_
    obtain ⟨q83, h⟩ := h
    refine g_callV (As := [_, _]) (ci := 10) q83 (fun _ => rfl) ?_
    refine g_go1 (by simp only [cs_c, cs_0, ct_I, ct_L, ct_R]; exact Nat.le_of_ble_eq_true rfl) (Tn_w (TX10_listedAt ⟨by omega, by omega⟩ hl7 h) fun _ G84 ⟨r85, e, i86, h⟩ => ?_)
    subst e
    refine ⟨n7_L _, ?_⟩
    replace h := h i86
    refine g_ld (v := rf _) rfl (is_R _) ?_
    refine g_const (v := cI (0)) rfl ?_
    refine g_ld (v := cI _) rfl (is_I _) ?_
    refine g_callV (As := [_, _]) (ci := 10) q83 (fun _ => rfl) ?_
    refine g_go1 (by simp only [cs_c, cs_0, ct_I, ct_L, ct_R]; exact Nat.le_of_ble_eq_true rfl) (Tn_w (TX10_listedAt ⟨by omega, by omega⟩ hl4 h) fun _ G87 ⟨r88, e, i89, h⟩ => ?_)
    subst e
    refine ⟨n7_L _, ?_⟩
    replace h := h i89
    refine g_leq i86 i89 (fun b90 => ?_) (fun b90 => ?_)
    · replace h := h.1 b90
      unfold vX4_head_223
      refine g_const (v := cI (1)) rfl ?_
      exact TX4_head_228 hl2 hl3 hl4 hl5 hl6 hl7 hl6 ⟨by omega, by omega⟩ hj0 hj1 hj2 h
    · replace h := h.2 b90
      unfold vX4_head_227
      refine g_const (v := cI (0)) rfl ?_
      exact TX4_head_228 hl2 hl3 hl4 hl5 hl6 hl7 hl6 ⟨by omega, by omega⟩ hj0 hj1 hj2 h
  · replace h := h.2 b82
    unfold vX4_head_237
    refine g_ld (v := cI _) rfl (is_I _) ?_
    refine g_eq1 hl6 (fun b91 => ?_) (fun b91 => ?_)
    · replace h := h.1 b91
      unfold vX4_head_242
      refine g_ld (v := cI _) rfl (is_I _) ?_
      refine g_lt1 hl5 (fun b92 => ?_) (fun b92 => ?_)
      · replace h := h.1 b92
        exact TX4_head_273 hl2 hl3 hl4 hl5 hl6 hl7 hj0 hj1 hj2 h
      · replace h := h.2 b92
        unfold vX4_head_247
        refine g_ld (v := rf _) rfl (is_R _) ?_
        refine g_getR (kz := 0) (c := 11) oC4 rfl (Nat.le_of_ble_eq_true rfl) rfl (by decide) fun i93 => ?_
        replace h := h i93
        obtain ⟨q94, h⟩ := h
        refine g_getF q94 (ff11_1 q94).1 rfl (Nat.le_of_ble_eq_true rfl) (Nat.le_of_ble_eq_true rfl) ?_
        refine g_ld (v := cI _) rfl (is_I _) ?_
        obtain ⟨q95, q96, h⟩ := h
        refine g_aldRF (c := 10) (ff11_1 q94).2 q95 q96 rfl (by decide) fun i97 => ?_
        replace h := h i97
        obtain ⟨q98, h⟩ := h
        refine g_getZ (kz := 4) q98 rfl (Nat.le_of_ble_eq_true rfl) rfl fun i99 => ?_
        replace h := h i99
        refine g_eq1 ⟨by omega, by omega⟩ (fun b100 => ?_) (fun b100 => ?_)
        · replace h := h.1 b100
          exact TX4_head_273 hl2 hl3 hl4 hl5 hl6 hl7 hj0 hj1 hj2 h
        · replace h := h.2 b100
          unfold vX4_head_263
          refine g_ld (v := rf _) rfl (is_R _) ?_
          refine g_ld (v := cI _) rfl (is_I _) ?_
          refine g_ld (v := rf _) rfl (is_R _) ?_
          refine g_callV (As := [_, _]) (ci := 4) oC4 (fun _ => rfl) ?_
          refine g_go1 (Nat.le_of_ble_eq_true rfl) (Tn_w (TX4_barred hl5 h) fun _ G101 ⟨r102, e, i103, h⟩ => ?_)
          subst e
          refine ⟨n7_I _, ?_⟩
          replace h := h i103
          refine g_eq1 ⟨by omega, by omega⟩ (fun b104 => ?_) (fun b104 => ?_)
          · replace h := h.1 b104
            unfold vX4_head_282
            refine g_inc (lv' := [_, _, _, _, _, _, _, _]) rfl (Nat.le_of_ble_eq_true rfl) (Or.inr (n1_I _)) rfl ?_
            obtain ⟨q105, h⟩ := h
            refine g_inc (lv' := [_, _, _, _, _, _, _, _]) rfl (Nat.le_of_ble_eq_true rfl) (Or.inr (n1_I _)) rfl ?_
            obtain ⟨q106, h⟩ := h
            exact hj1 _ _ _ _ _ _ _ _ hl2 q105 q106 (n1_I _) (n1_I _) (n1_I _) h
          · replace h := h.2 b104
            exact TX4_head_273 hl2 hl3 hl4 hl5 hl6 hl7 hj0 hj1 hj2 h
    · replace h := h.2 b91
      exact TX4_head_273 hl2 hl3 hl4 hl5 hl6 hl7 hj0 hj1 hj2 h
def PX4_head_163 (J : Nat → List Int → gS → (Int → gS → Prop) → Prop) (l1 : Int) (l2 : Int) (l3 : Int) (l4 : Int) (G : gS) (Q : Int → gS → Prop) : Prop :=
  (isO W0 10 (l1) ∧ ((0 : Int) ≤ 0 ∧ ((0 : Int) < 3 ∧ (inI (G (l1 + 2) 0) → ((l4 < G (l1 + 2) 0 → ((G 814 0 = -1 ∨ isO W0 11 (G 814 0)) → PX10_listedAt l1 0 l4 G (fun r73 G72 => inL r73 → (isO W0 11 (G 814 0) ∧ PX11_find (G 814 0) r73 G72 (fun r77 G76 => inI r77 → PX4_head_196 J l1 l2 l3 l4 r77 0 0 G76 Q))))) ∧ (¬ (l4 < G (l1 + 2) 0) → PX4_within l1 l3 G (fun r80 G79 => (0 ≤ r80 ∧ r80 ≤ 1) → Q (r80) G79)))))))
set_option maxRecDepth 20000 in
theorem TX4_head_163 {j : Nat → rx_K} {J : Nat → List Int → gS → (Int → gS → Prop) → Prop} {l1 : Int} {l2 : Int} {l3 : Int} {l4 : Int} {l5 : Nat} {l6 : Nat} {l7 : Nat} {G : gS} {Q : Int → gS → Prop} (hl2 : inI l2) (hl3 : inI l3) (hl4 : inI l4) (hl5 : l5 % 8 ≠ 1) (hl6 : l6 % 8 ≠ 1) (hl7 : l7 % 8 ≠ 1) (hj0 : ∀ (l1 : Int) (l2 : Int) (l3 : Int) (l4 : Nat) (l5 : Nat) (l6 : Nat) (l7 : Nat) (G : gS), (inI l2) → (inI l3) → (l4 % 8 ≠ 1) → (l5 % 8 ≠ 1) → (l6 % 8 ≠ 1) → (l7 % 8 ≠ 1) → J 0 [l1, l2, l3] G Q → Tg W0 (j 0) [rf (814), rf (l1), cI (l2), cI (l3), l4, l5, l6, l7] [] G (fun r G => ∃ v, r = cI v ∧ (0 ≤ v ∧ v ≤ 1) ∧ Q v G)) (hj1 : ∀ (l1 : Int) (l2 : Int) (l3 : Int) (l4 : Int) (l5 : Nat) (l6 : Nat) (l7 : Nat) (G : gS), (inI l2) → (inI l3) → (inI l4) → (l5 % 8 ≠ 1) → (l6 % 8 ≠ 1) → (l7 % 8 ≠ 1) → J 1 [l1, l2, l3, l4] G Q → Tg W0 (j 1) [rf (814), rf (l1), cI (l2), cI (l3), cI (l4), l5, l6, l7] [] G (fun r G => ∃ v, r = cI v ∧ (0 ≤ v ∧ v ≤ 1) ∧ Q v G)) (hj2 : ∀ (l1 : Int) (l2 : Int) (l3 : Int) (l4 : Int) (l5 : Int) (l6 : Int) (l7 : Int) (G : gS), (inI l2) → (inI l3) → (inI l4) → (inI l5) → (inI l6) → (inI l7) → J 2 [l1, l2, l3, l4, l5, l6, l7] G Q → Tg W0 (j 2) [rf (814), rf (l1), cI (l2), cI (l3), cI (l4), cI (l5), cI (l6), cI (l7)] [] G (fun r G => ∃ v, r = cI v ∧ (0 ≤ v ∧ v ≤ 1) ∧ Q v G)) (h : PX4_head_163 J l1 l2 l3 l4 G Q) : Tg W0 (vX4_head_163 j) [rf (814), rf (l1), cI (l2), cI (l3), cI (l4), l5, l6, l7] [] G (fun r G => ∃ v, r = cI v ∧ (0 ≤ v ∧ v ≤ 1) ∧ Q v G) := by
  unfold PX4_head_163 at h
  unfold vX4_head_163
  refine g_ld (v := cI _) rfl (is_I _) ?_
  refine g_ld (v := rf _) rfl (is_R _) ?_
  obtain ⟨q66, h⟩ := h
  refine g_getF q66 (ff10_11 q66).1 rfl (Nat.le_of_ble_eq_true rfl) (Nat.le_of_ble_eq_true rfl) ?_
  refine g_const (v := cI (0)) rfl ?_
  obtain ⟨q67, q68, h⟩ := h
  refine g_aldI (ff10_11 q66).2 q67 q68 rfl fun i69 => ?_
  replace h := h i69
  refine g_lt2 hl4 i69 (fun b70 => ?_) (fun b70 => ?_)
  · replace h := h.1 b70
    unfold vX4_head_174
    refine g_ld (v := rf _) rfl (is_R _) ?_
    refine g_getR (kz := 0) (c := 11) oC4 rfl (Nat.le_of_ble_eq_true rfl) rfl (by decide) fun i71 => ?_
    replace h := h i71
    refine g_ld (v := rf _) rfl (is_R _) ?_
    refine g_const (v := cI (0)) rfl ?_
    refine g_ld (v := cI _) rfl (is_I _) ?_
    refine g_callV (As := [_, _]) (ci := 10) q66 (fun _ => rfl) ?_
    refine g_go1 (by simp only [cs_c, cs_0, ct_I, ct_L, ct_R]; exact Nat.le_of_ble_eq_true rfl) (Tn_w (TX10_listedAt ⟨by omega, by omega⟩ hl4 h) fun _ G72 ⟨r73, e, i74, h⟩ => ?_)
    subst e
    refine ⟨n7_L _, ?_⟩
    replace h := h i74
    obtain ⟨q75, h⟩ := h
    refine g_callV (As := [_]) (ci := 11) q75 (fun _ => rfl) ?_
    refine g_go1 (Nat.le_of_ble_eq_true rfl) (Tn_w (TX11_find i74 h) fun _ G76 ⟨r77, e, i78, h⟩ => ?_)
    subst e
    refine ⟨n7_I _, ?_⟩
    replace h := h i78
    refine g_st (lv' := [_, _, _, _, _, _, _, _]) (is_I _) (Nat.le_of_ble_eq_true rfl) (Or.inr (n1_I _)) rfl ?_
    refine g_const (v := cI (0)) rfl ?_
    refine g_st (lv' := [_, _, _, _, _, _, _, _]) (is_I _) (Nat.le_of_ble_eq_true rfl) (Or.inr (n1_I _)) rfl ?_
    refine g_const (v := cI (0)) rfl ?_
    refine g_st (lv' := [_, _, _, _, _, _, _, _]) (is_I _) (Nat.le_of_ble_eq_true rfl) (Or.inr (n1_I _)) rfl ?_
    exact TX4_head_196 hl2 hl3 hl4 i78 ⟨by omega, by omega⟩ ⟨by omega, by omega⟩ hj0 hj1 hj2 h
  · replace h := h.2 b70
    unfold vX4_head_291
    refine g_ld (v := rf _) rfl (is_R _) ?_
    refine g_ld (v := rf _) rfl (is_R _) ?_
    refine g_ld (v := cI _) rfl (is_I _) ?_
    refine g_callV (As := [_, _]) (ci := 4) oC4 (fun _ => rfl) ?_
    refine g_go1 (Nat.le_of_ble_eq_true rfl) (Tn_w (TX4_within hl3 h) fun _ G79 ⟨r80, e, i81, h⟩ => ?_)
    subst e
    refine ⟨n7_I _, ?_⟩
    replace h := h i81
    exact g_ret1 (is_Z i81) ⟨_, rfl, i81, h⟩
def PX4_head_160 (J : Nat → List Int → gS → (Int → gS → Prop) → Prop) (l1 : Int) (l2 : Int) (l3 : Int) (G : gS) (Q : Int → gS → Prop) : Prop :=
  PX4_head_163 J l1 l2 l3 0 G Q
set_option maxRecDepth 20000 in
theorem TX4_head_160 {j : Nat → rx_K} {J : Nat → List Int → gS → (Int → gS → Prop) → Prop} {l1 : Int} {l2 : Int} {l3 : Int} {l4 : Nat} {l5 : Nat} {l6 : Nat} {l7 : Nat} {G : gS} {Q : Int → gS → Prop} (hl2 : inI l2) (hl3 : inI l3) (hl4 : l4 % 8 ≠ 1) (hl5 : l5 % 8 ≠ 1) (hl6 : l6 % 8 ≠ 1) (hl7 : l7 % 8 ≠ 1) (hj0 : ∀ (l1 : Int) (l2 : Int) (l3 : Int) (l4 : Nat) (l5 : Nat) (l6 : Nat) (l7 : Nat) (G : gS), (inI l2) → (inI l3) → (l4 % 8 ≠ 1) → (l5 % 8 ≠ 1) → (l6 % 8 ≠ 1) → (l7 % 8 ≠ 1) → J 0 [l1, l2, l3] G Q → Tg W0 (j 0) [rf (814), rf (l1), cI (l2), cI (l3), l4, l5, l6, l7] [] G (fun r G => ∃ v, r = cI v ∧ (0 ≤ v ∧ v ≤ 1) ∧ Q v G)) (hj1 : ∀ (l1 : Int) (l2 : Int) (l3 : Int) (l4 : Int) (l5 : Nat) (l6 : Nat) (l7 : Nat) (G : gS), (inI l2) → (inI l3) → (inI l4) → (l5 % 8 ≠ 1) → (l6 % 8 ≠ 1) → (l7 % 8 ≠ 1) → J 1 [l1, l2, l3, l4] G Q → Tg W0 (j 1) [rf (814), rf (l1), cI (l2), cI (l3), cI (l4), l5, l6, l7] [] G (fun r G => ∃ v, r = cI v ∧ (0 ≤ v ∧ v ≤ 1) ∧ Q v G)) (hj2 : ∀ (l1 : Int) (l2 : Int) (l3 : Int) (l4 : Int) (l5 : Int) (l6 : Int) (l7 : Int) (G : gS), (inI l2) → (inI l3) → (inI l4) → (inI l5) → (inI l6) → (inI l7) → J 2 [l1, l2, l3, l4, l5, l6, l7] G Q → Tg W0 (j 2) [rf (814), rf (l1), cI (l2), cI (l3), cI (l4), cI (l5), cI (l6), cI (l7)] [] G (fun r G => ∃ v, r = cI v ∧ (0 ≤ v ∧ v ≤ 1) ∧ Q v G)) (h : PX4_head_160 J l1 l2 l3 G Q) : Tg W0 (vX4_head_160 j) [rf (814), rf (l1), cI (l2), cI (l3), l4, l5, l6, l7] [] G (fun r G => ∃ v, r = cI v ∧ (0 ≤ v ∧ v ≤ 1) ∧ Q v G) := by
  unfold PX4_head_160 at h
  unfold vX4_head_160
  refine g_const (v := cI (0)) rfl ?_
  refine g_st (lv' := [_, _, _, _, _, _, _, _]) (is_I _) (Nat.le_of_ble_eq_true rfl) (Or.inr (n1_I _)) rfl ?_
  exact TX4_head_163 hl2 hl3 ⟨by omega, by omega⟩ hl5 hl6 hl7 hj0 hj1 hj2 h
def PX4_head_148 (J : Nat → List Int → gS → (Int → gS → Prop) → Prop) (l1 : Int) (l2 : Int) (l3 : Int) (l4 : Int) (G : gS) (Q : Int → gS → Prop) : Prop :=
  (inI (l3 + 1) ∧ PX4_fail 5 (l3 + 1) G (fun r64 G63 => (0 ≤ r64 ∧ r64 ≤ 1) → Q (r64) G63))
set_option maxRecDepth 20000 in
theorem TX4_head_148 {j : Nat → rx_K} {J : Nat → List Int → gS → (Int → gS → Prop) → Prop} {l1 : Int} {l2 : Int} {l3 : Int} {l4 : Int} {l5 : Nat} {l6 : Nat} {l7 : Nat} {G : gS} {Q : Int → gS → Prop} (hl2 : inI l2) (hl3 : inI l3) (hl4 : inI l4) (hl5 : l5 % 8 ≠ 1) (hl6 : l6 % 8 ≠ 1) (hl7 : l7 % 8 ≠ 1) (hj0 : ∀ (l1 : Int) (l2 : Int) (l3 : Int) (l4 : Nat) (l5 : Nat) (l6 : Nat) (l7 : Nat) (G : gS), (inI l2) → (inI l3) → (l4 % 8 ≠ 1) → (l5 % 8 ≠ 1) → (l6 % 8 ≠ 1) → (l7 % 8 ≠ 1) → J 0 [l1, l2, l3] G Q → Tg W0 (j 0) [rf (814), rf (l1), cI (l2), cI (l3), l4, l5, l6, l7] [] G (fun r G => ∃ v, r = cI v ∧ (0 ≤ v ∧ v ≤ 1) ∧ Q v G)) (hj1 : ∀ (l1 : Int) (l2 : Int) (l3 : Int) (l4 : Int) (l5 : Nat) (l6 : Nat) (l7 : Nat) (G : gS), (inI l2) → (inI l3) → (inI l4) → (l5 % 8 ≠ 1) → (l6 % 8 ≠ 1) → (l7 % 8 ≠ 1) → J 1 [l1, l2, l3, l4] G Q → Tg W0 (j 1) [rf (814), rf (l1), cI (l2), cI (l3), cI (l4), l5, l6, l7] [] G (fun r G => ∃ v, r = cI v ∧ (0 ≤ v ∧ v ≤ 1) ∧ Q v G)) (hj2 : ∀ (l1 : Int) (l2 : Int) (l3 : Int) (l4 : Int) (l5 : Int) (l6 : Int) (l7 : Int) (G : gS), (inI l2) → (inI l3) → (inI l4) → (inI l5) → (inI l6) → (inI l7) → J 2 [l1, l2, l3, l4, l5, l6, l7] G Q → Tg W0 (j 2) [rf (814), rf (l1), cI (l2), cI (l3), cI (l4), cI (l5), cI (l6), cI (l7)] [] G (fun r G => ∃ v, r = cI v ∧ (0 ≤ v ∧ v ≤ 1) ∧ Q v G)) (h : PX4_head_148 J l1 l2 l3 l4 G Q) : Tg W0 (vX4_head_148 j) [rf (814), rf (l1), cI (l2), cI (l3), cI (l4), l5, l6, l7] [] G (fun r G => ∃ v, r = cI v ∧ (0 ≤ v ∧ v ≤ 1) ∧ Q v G) := by
  unfold PX4_head_148 at h
  unfold vX4_head_148
  refine g_ld (v := rf _) rfl (is_R _) ?_
  refine g_const (v := cI (5)) rfl ?_
  refine g_ld (v := cI _) rfl (is_I _) ?_
  refine g_const (v := cI (1)) rfl ?_
  refine g_add ?_
  obtain ⟨q62, h⟩ := h
  refine g_callV (As := [_, _]) (ci := 4) oC4 (fun _ => rfl) ?_
  refine g_go1 (Nat.le_of_ble_eq_true rfl) (Tn_w (TX4_fail ⟨by omega, by omega⟩ q62 h) fun _ G63 ⟨r64, e, i65, h⟩ => ?_)
  subst e
  refine ⟨n7_I _, ?_⟩
  replace h := h i65
  exact g_ret1 (is_Z i65) ⟨_, rfl, i65, h⟩
def PX4_head_2 (J : Nat → List Int → gS → (Int → gS → Prop) → Prop) (l1 : Int) (l2 : Int) (l3 : Int) (G : gS) (Q : Int → gS → Prop) : Prop :=
  ((l3 < l2 → ((G 814 1 = -1 ∨ isO W0 1 (G 814 1)) → (isO W0 1 (G 814 1) ∧ (((G (G 814 1) 2 = -1 ∨ ∃ n, isA W0 4 n (G (G 814 1) 2)) ∧ ∀ v, W0.2 (G 814 1) 2 = some v → G (G 814 1) 2 = v) → (∃ n5, isA W0 4 n5 (G (G 814 1) 2) ∧ ((0 : Int) ≤ l3 ∧ ((l3 : Int) < n5 ∧ (((G (G (G 814 1) 2) l3 = -1 ∨ isO W0 10 (G (G (G 814 1) 2) l3)) ∧ ∀ v, W0.2 (G (G 814 1) 2) l3 = some v → G (G (G 814 1) 2) l3 = v) → (isO W0 10 (G (G (G 814 1) 2) l3) ∧ (inL (G (G (G (G 814 1) 2) l3) 1) → (isO W0 10 (l1) ∧ (inL (G l1 1) → ((G (G (G (G 814 1) 2) l3) 1 = G l1 1 → (inI (G l1 2) → PX4_fail 4 (G l1 2) G (fun r17 G16 => (0 ≤ r17 ∧ r17 ≤ 1) → Q (r17) G16))) ∧ (¬ (G (G (G (G 814 1) 2) l3) 1 = G l1 1) → (inI (l3 + 1) ∧ J 0 [l1, l2, l3 + 1] G Q))))))))))))))) ∧ (¬ (l3 < l2) → (isO W0 10 (l1) ∧ (inL (G l1 1) → (inL (lush (G l1 1) 59) → ((lush (G l1 1) 59 = 25 → (inI (G l1 2) → PX4_fail 4 (G l1 2) G (fun r26 G25 => (0 ≤ r26 ∧ r26 ≤ 1) → Q (r26) G25))) ∧ (¬ (lush (G l1 1) 59 = 25) → (inI (G l1 2) → (inI ((G l1 2) + 1) ∧ ((0 ≤ G l1 7 ∧ G l1 7 ≤ 1) → ((G l1 7 = 0 → PX4_head_160 J l1 l2 ((G l1 2) + 1) G Q) ∧ (¬ (G l1 7 = 0) → ((G 814 0 = -1 ∨ isO W0 11 (G 814 0)) → (inL (G l1 8) → (isO W0 11 (G 814 0) ∧ PX11_find (G 814 0) (G l1 8) G (fun r36 G35 => inI r36 → ((0 ≤ G35 l1 4 ∧ G35 l1 4 ≤ 1) → ((G35 l1 4 = 0 → ((r36 < 0 → PX4_head_148 J l1 l2 ((G l1 2) + 1) r36 G35 Q) ∧ (¬ (r36 < 0) → ((G35 814 0 = -1 ∨ isO W0 11 (G35 814 0)) → (isO W0 11 (G35 814 0) ∧ ((0 : Int) ≤ r36 ∧ ((r36 : Int) < 64 ∧ (((G35 ((G35 814 0) + 1) r36 = -1 ∨ isO W0 10 (G35 ((G35 814 0) + 1) r36)) ∧ ∀ v, W0.2 ((G35 814 0) + 1) r36 = some v → G35 ((G35 814 0) + 1) r36 = v) → (isO W0 10 (G35 ((G35 814 0) + 1) r36) ∧ ((0 ≤ G35 (G35 ((G35 814 0) + 1) r36) 4 ∧ G35 (G35 ((G35 814 0) + 1) r36) 4 ≤ 1) → ((G35 (G35 ((G35 814 0) + 1) r36) 4 = 0 → ((G35 814 0 = -1 ∨ isO W0 11 (G35 814 0)) → (isO W0 11 (G35 814 0) ∧ ((0 : Int) ≤ r36 ∧ ((r36 : Int) < 64 ∧ (((G35 ((G35 814 0) + 1) r36 = -1 ∨ isO W0 10 (G35 ((G35 814 0) + 1) r36)) ∧ ∀ v, W0.2 ((G35 814 0) + 1) r36 = some v → G35 ((G35 814 0) + 1) r36 = v) → (isO W0 10 (G35 ((G35 814 0) + 1) r36) ∧ ((0 ≤ G35 (G35 ((G35 814 0) + 1) r36) 5 ∧ G35 (G35 ((G35 814 0) + 1) r36) 5 ≤ 1) → ((G35 (G35 ((G35 814 0) + 1) r36) 5 = 0 → PX4_barred r36 l1 G35 (fun r58 G57 => (0 ≤ r58 ∧ r58 ≤ 1) → ((r58 = 0 → (inI (((G l1 2) + 1) + 2) ∧ PX4_head_160 J l1 l2 (((G l1 2) + 1) + 2) G57 Q)) ∧ (¬ (r58 = 0) → PX4_head_148 J l1 l2 ((G l1 2) + 1) r36 G57 Q)))) ∧ (¬ (G35 (G35 ((G35 814 0) + 1) r36) 5 = 0) → PX4_head_148 J l1 l2 ((G l1 2) + 1) r36 G35 Q)))))))))) ∧ (¬ (G35 (G35 ((G35 814 0) + 1) r36) 4 = 0) → PX4_head_148 J l1 l2 ((G l1 2) + 1) r36 G35 Q)))))))))))) ∧ (¬ (G35 l1 4 = 0) → PX4_head_148 J l1 l2 ((G l1 2) + 1) r36 G35 Q)))))))))))))))))))
set_option maxRecDepth 20000 in
theorem TX4_head_2 {j : Nat → rx_K} {J : Nat → List Int → gS → (Int → gS → Prop) → Prop} {l1 : Int} {l2 : Int} {l3 : Int} {l4 : Nat} {l5 : Nat} {l6 : Nat} {l7 : Nat} {G : gS} {Q : Int → gS → Prop} (hl2 : inI l2) (hl3 : inI l3) (hl4 : l4 % 8 ≠ 1) (hl5 : l5 % 8 ≠ 1) (hl6 : l6 % 8 ≠ 1) (hl7 : l7 % 8 ≠ 1) (hj0 : ∀ (l1 : Int) (l2 : Int) (l3 : Int) (l4 : Nat) (l5 : Nat) (l6 : Nat) (l7 : Nat) (G : gS), (inI l2) → (inI l3) → (l4 % 8 ≠ 1) → (l5 % 8 ≠ 1) → (l6 % 8 ≠ 1) → (l7 % 8 ≠ 1) → J 0 [l1, l2, l3] G Q → Tg W0 (j 0) [rf (814), rf (l1), cI (l2), cI (l3), l4, l5, l6, l7] [] G (fun r G => ∃ v, r = cI v ∧ (0 ≤ v ∧ v ≤ 1) ∧ Q v G)) (hj1 : ∀ (l1 : Int) (l2 : Int) (l3 : Int) (l4 : Int) (l5 : Nat) (l6 : Nat) (l7 : Nat) (G : gS), (inI l2) → (inI l3) → (inI l4) → (l5 % 8 ≠ 1) → (l6 % 8 ≠ 1) → (l7 % 8 ≠ 1) → J 1 [l1, l2, l3, l4] G Q → Tg W0 (j 1) [rf (814), rf (l1), cI (l2), cI (l3), cI (l4), l5, l6, l7] [] G (fun r G => ∃ v, r = cI v ∧ (0 ≤ v ∧ v ≤ 1) ∧ Q v G)) (hj2 : ∀ (l1 : Int) (l2 : Int) (l3 : Int) (l4 : Int) (l5 : Int) (l6 : Int) (l7 : Int) (G : gS), (inI l2) → (inI l3) → (inI l4) → (inI l5) → (inI l6) → (inI l7) → J 2 [l1, l2, l3, l4, l5, l6, l7] G Q → Tg W0 (j 2) [rf (814), rf (l1), cI (l2), cI (l3), cI (l4), cI (l5), cI (l6), cI (l7)] [] G (fun r G => ∃ v, r = cI v ∧ (0 ≤ v ∧ v ≤ 1) ∧ Q v G)) (h : PX4_head_2 J l1 l2 l3 G Q) : Tg W0 (vX4_head_2 j) [rf (814), rf (l1), cI (l2), cI (l3), l4, l5, l6, l7] [] G (fun r G => ∃ v, r = cI v ∧ (0 ≤ v ∧ v ≤ 1) ∧ Q v G) := by
  unfold PX4_head_2 at h
  unfold vX4_head_2
  refine g_ld (v := cI _) rfl (is_I _) ?_
  refine g_ld (v := cI _) rfl (is_I _) ?_
  refine g_lt2 hl3 hl2 (fun b1 => ?_) (fun b1 => ?_)
  · replace h := h.1 b1
    unfold vX4_head_7
    refine g_ld (v := rf _) rfl (is_R _) ?_
    refine g_getR (kz := 1) (c := 1) oC4 rfl (Nat.le_of_ble_eq_true rfl) rfl (by decide) fun i2 => ?_
    replace h := h i2
    obtain ⟨q3, h⟩ := h
    refine g_getAF (kz := 2) (c := 4) q3 rfl (Nat.le_of_ble_eq_true rfl) rfl fun i4 => ?_
    replace h := h i4
    refine g_ld (v := cI _) rfl (is_I _) ?_
    obtain ⟨n5, q6, h⟩ := h
    obtain ⟨q7, q8, h⟩ := h
    refine g_aldRF (c := 10) q6 q7 q8 rfl (by decide) fun i9 => ?_
    replace h := h i9
    obtain ⟨q10, h⟩ := h
    refine g_getL (kz := 1) q10 rfl (Nat.le_of_ble_eq_true rfl) rfl fun i11 => ?_
    replace h := h i11
    refine g_ld (v := rf _) rfl (is_R _) ?_
    obtain ⟨q12, h⟩ := h
    refine g_getL (kz := 1) q12 rfl (Nat.le_of_ble_eq_true rfl) rfl fun i13 => ?_
    replace h := h i13
    refine g_leq i11 i13 (fun b14 => ?_) (fun b14 => ?_)
    · replace h := h.1 b14
      unfold vX4_head_27
      refine g_ld (v := rf _) rfl (is_R _) ?_
      refine g_const (v := cI (4)) rfl ?_
      refine g_ld (v := rf _) rfl (is_R _) ?_
      refine g_getI (kz := 2) q12 rfl (Nat.le_of_ble_eq_true rfl) rfl fun i15 => ?_
      replace h := h i15
      refine g_callV (As := [_, _]) (ci := 4) oC4 (fun _ => rfl) ?_
      refine g_go1 (Nat.le_of_ble_eq_true rfl) (Tn_w (TX4_fail ⟨by omega, by omega⟩ i15 h) fun _ G16 ⟨r17, e, i18, h⟩ => ?_)
      subst e
      refine ⟨n7_I _, ?_⟩
      replace h := h i18
      exact g_ret1 (is_Z i18) ⟨_, rfl, i18, h⟩
    · replace h := h.2 b14
      unfold vX4_head_37
      refine g_inc (lv' := [_, _, _, _, _, _, _, _]) rfl (Nat.le_of_ble_eq_true rfl) (Or.inr (n1_I _)) rfl ?_
      obtain ⟨q19, h⟩ := h
      exact hj0 _ _ _ _ _ _ _ _ hl2 q19 hl4 hl5 hl6 hl7 h
  · replace h := h.2 b1
    unfold vX4_head_43
    refine g_ld (v := rf _) rfl (is_R _) ?_
    obtain ⟨q20, h⟩ := h
    refine g_getL (kz := 1) q20 rfl (Nat.le_of_ble_eq_true rfl) rfl fun i21 => ?_
    replace h := h i21
    refine g_const (v := cI (59)) rfl ?_
    refine g_lush fun i22 => ?_
    replace h := h i22
    refine g_const (v := cL (25)) rfl ?_
    refine g_leq i22 ⟨by omega, by omega⟩ (fun b23 => ?_) (fun b23 => ?_)
    · replace h := h.1 b23
      unfold vX4_head_57
      refine g_ld (v := rf _) rfl (is_R _) ?_
      refine g_const (v := cI (4)) rfl ?_
      refine g_ld (v := rf _) rfl (is_R _) ?_
      refine g_getI (kz := 2) q20 rfl (Nat.le_of_ble_eq_true rfl) rfl fun i24 => ?_
      replace h := h i24
      refine g_callV (As := [_, _]) (ci := 4) oC4 (fun _ => rfl) ?_
      refine g_go1 (Nat.le_of_ble_eq_true rfl) (Tn_w (TX4_fail ⟨by omega, by omega⟩ i24 h) fun _ G25 ⟨r26, e, i27, h⟩ => ?_)
      subst e
      refine ⟨n7_I _, ?_⟩
      replace h := h i27
      exact g_ret1 (is_Z i27) ⟨_, rfl, i27, h⟩
    · replace h := h.2 b23
      unfold vX4_head_67
      refine g_ld (v := rf _) rfl (is_R _) ?_
      refine g_getI (kz := 2) q20 rfl (Nat.le_of_ble_eq_true rfl) rfl fun i28 => ?_
      replace h := h i28
      refine g_const (v := cI (1)) rfl ?_
      refine g_add ?_
      refine g_st (lv' := [_, _, _, _, _, _, _, _]) (is_I _) (Nat.le_of_ble_eq_true rfl) (Or.inr (n1_I _)) rfl ?_
      obtain ⟨q29, h⟩ := h
      refine g_ld (v := rf _) rfl (is_R _) ?_
      refine g_getZ (kz := 7) q20 rfl (Nat.le_of_ble_eq_true rfl) rfl fun i30 => ?_
      replace h := h i30
      refine g_eq1 ⟨by omega, by omega⟩ (fun b31 => ?_) (fun b31 => ?_)
      · replace h := h.1 b31
        exact TX4_head_160 hl2 q29 hl4 hl5 hl6 hl7 hj0 hj1 hj2 h
      · replace h := h.2 b31
        unfold vX4_head_81
        refine g_ld (v := rf _) rfl (is_R _) ?_
        refine g_getR (kz := 0) (c := 11) oC4 rfl (Nat.le_of_ble_eq_true rfl) rfl (by decide) fun i32 => ?_
        replace h := h i32
        refine g_ld (v := rf _) rfl (is_R _) ?_
        refine g_getL (kz := 8) q20 rfl (Nat.le_of_ble_eq_true rfl) rfl fun i33 => ?_
        replace h := h i33
        obtain ⟨q34, h⟩ := h
        refine g_callV (As := [_]) (ci := 11) q34 (fun _ => rfl) ?_
        refine g_go1 (Nat.le_of_ble_eq_true rfl) (Tn_w (TX11_find i33 h) fun _ G35 ⟨r36, e, i37, h⟩ => ?_)
        subst e
        refine ⟨n7_I _, ?_⟩
        replace h := h i37
        refine g_st (lv' := [_, _, _, _, _, _, _, _]) (is_I _) (Nat.le_of_ble_eq_true rfl) (Or.inr (n1_I _)) rfl ?_
        refine g_ld (v := rf _) rfl (is_R _) ?_
        refine g_getZ (kz := 4) q20 rfl (Nat.le_of_ble_eq_true rfl) rfl fun i38 => ?_
        replace h := h i38
        refine g_eq1 ⟨by omega, by omega⟩ (fun b39 => ?_) (fun b39 => ?_)
        · replace h := h.1 b39
          unfold vX4_head_101
          refine g_ld (v := cI _) rfl (is_I _) ?_
          refine g_lt1 i37 (fun b40 => ?_) (fun b40 => ?_)
          · replace h := h.1 b40
            exact TX4_head_148 hl2 q29 i37 hl5 hl6 hl7 hj0 hj1 hj2 h
          · replace h := h.2 b40
            unfold vX4_head_106
            refine g_ld (v := rf _) rfl (is_R _) ?_
            refine g_getR (kz := 0) (c := 11) oC4 rfl (Nat.le_of_ble_eq_true rfl) rfl (by decide) fun i41 => ?_
            replace h := h i41
            obtain ⟨q42, h⟩ := h
            refine g_getF q42 (ff11_1 q42).1 rfl (Nat.le_of_ble_eq_true rfl) (Nat.le_of_ble_eq_true rfl) ?_
            refine g_ld (v := cI _) rfl (is_I _) ?_
            obtain ⟨q43, q44, h⟩ := h
            refine g_aldRF (c := 10) (ff11_1 q42).2 q43 q44 rfl (by decide) fun i45 => ?_
            replace h := h i45
            obtain ⟨q46, h⟩ := h
            refine g_getZ (kz := 4) q46 rfl (Nat.le_of_ble_eq_true rfl) rfl fun i47 => ?_
            replace h := h i47
            refine g_eq1 ⟨by omega, by omega⟩ (fun b48 => ?_) (fun b48 => ?_)
            · replace h := h.1 b48
              unfold vX4_head_122
              refine g_ld (v := rf _) rfl (is_R _) ?_
              refine g_getR (kz := 0) (c := 11) oC4 rfl (Nat.le_of_ble_eq_true rfl) rfl (by decide) fun i49 => ?_
              replace h := h i49
              obtain ⟨q50, h⟩ := h
              refine g_getF q50 (ff11_1 q50).1 rfl (Nat.le_of_ble_eq_true rfl) (Nat.le_of_ble_eq_true rfl) ?_
              refine g_ld (v := cI _) rfl (is_I _) ?_
              obtain ⟨q51, q52, h⟩ := h
              refine g_aldRF (c := 10) (ff11_1 q50).2 q51 q52 rfl (by decide) fun i53 => ?_
              replace h := h i53
              obtain ⟨q54, h⟩ := h
              refine g_getZ (kz := 5) q54 rfl (Nat.le_of_ble_eq_true rfl) rfl fun i55 => ?_
              replace h := h i55
              refine g_eq1 ⟨by omega, by omega⟩ (fun b56 => ?_) (fun b56 => ?_)
              · replace h := h.1 b56
                unfold vX4_head_138
                refine g_ld (v := rf _) rfl (is_R _) ?_
                refine g_ld (v := cI _) rfl (is_I _) ?_
                refine g_ld (v := rf _) rfl (is_R _) ?_
                refine g_callV (As := [_, _]) (ci := 4) oC4 (fun _ => rfl) ?_
                refine g_go1 (Nat.le_of_ble_eq_true rfl) (Tn_w (TX4_barred i37 h) fun _ G57 ⟨r58, e, i59, h⟩ => ?_)
                subst e
                refine ⟨n7_I _, ?_⟩
                replace h := h i59
                refine g_eq1 ⟨by omega, by omega⟩ (fun b60 => ?_) (fun b60 => ?_)
                · replace h := h.1 b60
                  unfold vX4_head_157
                  refine g_inc (lv' := [_, _, _, _, _, _, _, _]) rfl (Nat.le_of_ble_eq_true rfl) (Or.inr (n1_I _)) rfl ?_
                  obtain ⟨q61, h⟩ := h
                  exact TX4_head_160 hl2 q61 (n1_I _) hl5 hl6 hl7 hj0 hj1 hj2 h
                · replace h := h.2 b60
                  exact TX4_head_148 hl2 q29 i37 hl5 hl6 hl7 hj0 hj1 hj2 h
              · replace h := h.2 b56
                exact TX4_head_148 hl2 q29 i37 hl5 hl6 hl7 hj0 hj1 hj2 h
            · replace h := h.2 b48
              exact TX4_head_148 hl2 q29 i37 hl5 hl6 hl7 hj0 hj1 hj2 h
        · replace h := h.2 b39
          exact TX4_head_148 hl2 q29 i37 hl5 hl6 hl7 hj0 hj1 hj2 h
def PX4_head_0 (J : Nat → List Int → gS → (Int → gS → Prop) → Prop) (a1 : Int) (a2 : Int) (G : gS) (Q : Int → gS → Prop) : Prop :=
  PX4_head_2 J a1 a2 0 G Q
set_option maxRecDepth 20000 in
theorem TX4_head_0 {j : Nat → rx_K} {J : Nat → List Int → gS → (Int → gS → Prop) → Prop} {a1 : Int} {a2 : Int} {G : gS} {Q : Int → gS → Prop} (ha2 : inI a2) (hj0 : ∀ (l1 : Int) (l2 : Int) (l3 : Int) (l4 : Nat) (l5 : Nat) (l6 : Nat) (l7 : Nat) (G : gS), (inI l2) → (inI l3) → (l4 % 8 ≠ 1) → (l5 % 8 ≠ 1) → (l6 % 8 ≠ 1) → (l7 % 8 ≠ 1) → J 0 [l1, l2, l3] G Q → Tg W0 (j 0) [rf (814), rf (l1), cI (l2), cI (l3), l4, l5, l6, l7] [] G (fun r G => ∃ v, r = cI v ∧ (0 ≤ v ∧ v ≤ 1) ∧ Q v G)) (hj1 : ∀ (l1 : Int) (l2 : Int) (l3 : Int) (l4 : Int) (l5 : Nat) (l6 : Nat) (l7 : Nat) (G : gS), (inI l2) → (inI l3) → (inI l4) → (l5 % 8 ≠ 1) → (l6 % 8 ≠ 1) → (l7 % 8 ≠ 1) → J 1 [l1, l2, l3, l4] G Q → Tg W0 (j 1) [rf (814), rf (l1), cI (l2), cI (l3), cI (l4), l5, l6, l7] [] G (fun r G => ∃ v, r = cI v ∧ (0 ≤ v ∧ v ≤ 1) ∧ Q v G)) (hj2 : ∀ (l1 : Int) (l2 : Int) (l3 : Int) (l4 : Int) (l5 : Int) (l6 : Int) (l7 : Int) (G : gS), (inI l2) → (inI l3) → (inI l4) → (inI l5) → (inI l6) → (inI l7) → J 2 [l1, l2, l3, l4, l5, l6, l7] G Q → Tg W0 (j 2) [rf (814), rf (l1), cI (l2), cI (l3), cI (l4), cI (l5), cI (l6), cI (l7)] [] G (fun r G => ∃ v, r = cI v ∧ (0 ≤ v ∧ v ≤ 1) ∧ Q v G)) (h : PX4_head_0 J a1 a2 G Q) : Tg W0 (vX4_head_0 j) [rf (814), rf (a1), cI (a2), 7, 7, 7, 7, 7] [] G (fun r G => ∃ v, r = cI v ∧ (0 ≤ v ∧ v ≤ 1) ∧ Q v G) := by
  unfold PX4_head_0 at h
  unfold vX4_head_0
  refine g_const (v := cI (0)) rfl ?_
  refine g_st (lv' := [_, _, _, _, _, _, _, _]) (is_I _) (Nat.le_of_ble_eq_true rfl) (Or.inr (n1_I _)) rfl ?_
  exact TX4_head_2 ha2 ⟨by omega, by omega⟩ (show 7 % 8 ≠ 1 by decide) (show 7 % 8 ≠ 1 by decide) (show 7 % 8 ≠ 1 by decide) (show 7 % 8 ≠ 1 by decide) hj0 hj1 hj2 h
def PX4_head_J : Nat → Nat → List Int → gS → (Int → gS → Prop) → Prop
  | 0, _, _, _, _ => False
  | f + 1, h, L, G, Q => match h, L with
    | 0, [l1, l2, l3] => PX4_head_2 (PX4_head_J f) l1 l2 l3 G Q
    | 1, [l1, l2, l3, l4] => PX4_head_163 (PX4_head_J f) l1 l2 l3 l4 G Q
    | 2, [l1, l2, l3, l4, l5, l6, l7] => PX4_head_196 (PX4_head_J f) l1 l2 l3 l4 l5 l6 l7 G Q
    | _, _ => False
theorem TX4_head_J {Q : Int → gS → Prop} : ∀ f N : Nat, f ≤ N → (∀ (l1 : Int) (l2 : Int) (l3 : Int) (l4 : Nat) (l5 : Nat) (l6 : Nat) (l7 : Nat) (G : gS), (inI l2) → (inI l3) → (l4 % 8 ≠ 1) → (l5 % 8 ≠ 1) → (l6 % 8 ≠ 1) → (l7 % 8 ≠ 1) → (PX4_head_J f) 0 [l1, l2, l3] G Q → Tg W0 (rx_J vhX4_head N 0) [rf (814), rf (l1), cI (l2), cI (l3), l4, l5, l6, l7] [] G (fun r G => ∃ v, r = cI v ∧ (0 ≤ v ∧ v ≤ 1) ∧ Q v G)) ∧ (∀ (l1 : Int) (l2 : Int) (l3 : Int) (l4 : Int) (l5 : Nat) (l6 : Nat) (l7 : Nat) (G : gS), (inI l2) → (inI l3) → (inI l4) → (l5 % 8 ≠ 1) → (l6 % 8 ≠ 1) → (l7 % 8 ≠ 1) → (PX4_head_J f) 1 [l1, l2, l3, l4] G Q → Tg W0 (rx_J vhX4_head N 1) [rf (814), rf (l1), cI (l2), cI (l3), cI (l4), l5, l6, l7] [] G (fun r G => ∃ v, r = cI v ∧ (0 ≤ v ∧ v ≤ 1) ∧ Q v G)) ∧ (∀ (l1 : Int) (l2 : Int) (l3 : Int) (l4 : Int) (l5 : Int) (l6 : Int) (l7 : Int) (G : gS), (inI l2) → (inI l3) → (inI l4) → (inI l5) → (inI l6) → (inI l7) → (PX4_head_J f) 2 [l1, l2, l3, l4, l5, l6, l7] G Q → Tg W0 (rx_J vhX4_head N 2) [rf (814), rf (l1), cI (l2), cI (l3), cI (l4), cI (l5), cI (l6), cI (l7)] [] G (fun r G => ∃ v, r = cI v ∧ (0 ≤ v ∧ v ≤ 1) ∧ Q v G)) := by
  intro f
  induction f with
  | zero => exact fun N _ => ⟨fun _ _ _ _ _ _ _ _ _ _ _ _ _ _ h => h.elim, fun _ _ _ _ _ _ _ _ _ _ _ _ _ _ h => h.elim, fun _ _ _ _ _ _ _ _ _ _ _ _ _ _ h => h.elim⟩
  | succ f ih =>
    intro N hN
    obtain ⟨M, rfl⟩ : ∃ M, N = M + 1 := ⟨N - 1, by omega⟩
    have ih := ih M (by omega)
    exact ⟨fun _ _ _ _ _ _ _ _ hl2 hl3 hl4 hl5 hl6 hl7 h => show Tg W0 (vX4_head_2 (rx_J vhX4_head M)) _ _ _ _ from TX4_head_2 hl2 hl3 hl4 hl5 hl6 hl7 ih.1 ih.2.1 ih.2.2 h, fun _ _ _ _ _ _ _ _ hl2 hl3 hl4 hl5 hl6 hl7 h => show Tg W0 (vX4_head_163 (rx_J vhX4_head M)) _ _ _ _ from TX4_head_163 hl2 hl3 hl4 hl5 hl6 hl7 ih.1 ih.2.1 ih.2.2 h, fun _ _ _ _ _ _ _ _ hl2 hl3 hl4 hl5 hl6 hl7 h => show Tg W0 (vX4_head_196 (rx_J vhX4_head M)) _ _ _ _ from TX4_head_196 hl2 hl3 hl4 hl5 hl6 hl7 ih.1 ih.2.1 ih.2.2 h⟩
def PX4_head (a1 : Int) (a2 : Int) (G : gS) (Q : Int → gS → Prop) : Prop := ∃ f : Nat, f ≤ 4000000000 ∧ PX4_head_0 (PX4_head_J f) a1 a2 G Q
theorem TX4_head {a1 : Int} {a2 : Int} {G : gS} {Q : Int → gS → Prop} (ha2 : inI a2) (h : PX4_head a1 a2 G Q) : Tn W0 FX4_head [rf (814), rf (a1), cI (a2)] G (fun r G => ∃ v, r = cI v ∧ (0 ≤ v ∧ v ≤ 1) ∧ Q v G) := by
  obtain ⟨f, hf, h⟩ := h
  have hJ := TX4_head_J (Q := Q) f 4000000000 hf
  unfold FX4_head
  refine g_ent (lv' := [rf (814), rf (a1), cI (a2), 7, 7, 7, 7, 7]) (flR (flR (flI fl0))) (Nat.le_of_ble_eq_true rfl) rfl ?_
  exact TX4_head_0 ha2 hJ.1 hJ.2.1 hJ.2.2 h
def PX10_hasMaker_2 (J : Nat → List Int → gS → (Int → gS → Prop) → Prop) (o : Int) (l1 : Int) (G : gS) (Q : Int → gS → Prop) : Prop :=
  (isO W0 10 (o) ∧ (inI (G o 15) → ((l1 < G o 15 → ((0 : Int) ≤ l1 ∧ ((l1 : Int) < 33 ∧ (((G (o + 4) l1 = -1 ∨ isO W0 7 (G (o + 4) l1)) ∧ ∀ v, W0.2 (o + 4) l1 = some v → G (o + 4) l1 = v) → (isO W0 7 (G (o + 4) l1) ∧ (inI (G (G (o + 4) l1) 0) → ((G (G (o + 4) l1) 0 = 2 → Q (1) G) ∧ (¬ (G (G (o + 4) l1) 0 = 2) → (inI (l1 + 1) ∧ J 0 [o, l1 + 1] G Q))))))))) ∧ (¬ (l1 < G o 15) → Q (0) G))))
set_option maxRecDepth 20000 in
theorem TX10_hasMaker_2 {j : Nat → rx_K} {J : Nat → List Int → gS → (Int → gS → Prop) → Prop} {o : Int} {l1 : Int} {G : gS} {Q : Int → gS → Prop} (hl1 : inI l1) (hj0 : ∀ (o : Int) (l1 : Int) (G : gS), (inI l1) → J 0 [o, l1] G Q → Tg W0 (j 0) [rf (o), cI (l1)] [] G (fun r G => ∃ v, r = cI v ∧ (0 ≤ v ∧ v ≤ 1) ∧ Q v G)) (h : PX10_hasMaker_2 J o l1 G Q) : Tg W0 (vX10_hasMaker_2 j) [rf (o), cI (l1)] [] G (fun r G => ∃ v, r = cI v ∧ (0 ≤ v ∧ v ≤ 1) ∧ Q v G) := by
  unfold PX10_hasMaker_2 at h
  unfold vX10_hasMaker_2
  refine g_ld (v := cI _) rfl (is_I _) ?_
  refine g_ld (v := rf _) rfl (is_R _) ?_
  obtain ⟨q1, h⟩ := h
  refine g_getI (kz := 15) q1 rfl (Nat.le_of_ble_eq_true rfl) rfl fun i2 => ?_
  replace h := h i2
  refine g_lt2 hl1 i2 (fun b3 => ?_) (fun b3 => ?_)
  · replace h := h.1 b3
    unfold vX10_hasMaker_10
    refine g_ld (v := rf _) rfl (is_R _) ?_
    refine g_getF q1 (ff10_14 q1).1 rfl (Nat.le_of_ble_eq_true rfl) (Nat.le_of_ble_eq_true rfl) ?_
    refine g_ld (v := cI _) rfl (is_I _) ?_
    obtain ⟨q4, q5, h⟩ := h
    refine g_aldRF (c := 7) (ff10_14 q1).2 q4 q5 rfl (by decide) fun i6 => ?_
    replace h := h i6
    obtain ⟨q7, h⟩ := h
    refine g_getI (kz := 0) q7 rfl (Nat.le_of_ble_eq_true rfl) rfl fun i8 => ?_
    replace h := h i8
    refine g_const (v := cI (2)) rfl ?_
    refine g_eq2 i8 ⟨by omega, by omega⟩ (fun b9 => ?_) (fun b9 => ?_)
    · replace h := h.1 b9
      unfold vX10_hasMaker_23
      refine g_const (v := cI (1)) rfl ?_
      exact g_ret1 (is_Z (by omega)) ⟨_, rfl, (by omega), h⟩
    · replace h := h.2 b9
      unfold vX10_hasMaker_25
      refine g_inc (lv' := [_, _]) rfl (Nat.le_of_ble_eq_true rfl) (Or.inr (n1_R _)) rfl ?_
      obtain ⟨q10, h⟩ := h
      exact hj0 _ _ _ q10 h
  · replace h := h.2 b3
    unfold vX10_hasMaker_31
    refine g_const (v := cI (0)) rfl ?_
    exact g_ret1 (is_Z (by omega)) ⟨_, rfl, (by omega), h⟩
def PX10_hasMaker_0 (J : Nat → List Int → gS → (Int → gS → Prop) → Prop) (o : Int) (G : gS) (Q : Int → gS → Prop) : Prop :=
  PX10_hasMaker_2 J o 0 G Q
set_option maxRecDepth 20000 in
theorem TX10_hasMaker_0 {j : Nat → rx_K} {J : Nat → List Int → gS → (Int → gS → Prop) → Prop} {o : Int} {G : gS} {Q : Int → gS → Prop}  (hj0 : ∀ (o : Int) (l1 : Int) (G : gS), (inI l1) → J 0 [o, l1] G Q → Tg W0 (j 0) [rf (o), cI (l1)] [] G (fun r G => ∃ v, r = cI v ∧ (0 ≤ v ∧ v ≤ 1) ∧ Q v G)) (h : PX10_hasMaker_0 J o G Q) : Tg W0 (vX10_hasMaker_0 j) [rf (o), 7] [] G (fun r G => ∃ v, r = cI v ∧ (0 ≤ v ∧ v ≤ 1) ∧ Q v G) := by
  unfold PX10_hasMaker_0 at h
  unfold vX10_hasMaker_0
  refine g_const (v := cI (0)) rfl ?_
  refine g_st (lv' := [_, _]) (is_I _) (Nat.le_of_ble_eq_true rfl) (Or.inr (n1_R _)) rfl ?_
  exact TX10_hasMaker_2 ⟨by omega, by omega⟩ hj0 h
def PX10_hasMaker_J : Nat → Nat → List Int → gS → (Int → gS → Prop) → Prop
  | 0, _, _, _, _ => False
  | f + 1, h, L, G, Q => match h, L with
    | 0, [o, l1] => PX10_hasMaker_2 (PX10_hasMaker_J f) o l1 G Q
    | _, _ => False
theorem TX10_hasMaker_J {Q : Int → gS → Prop} : ∀ f N : Nat, f ≤ N → (∀ (o : Int) (l1 : Int) (G : gS), (inI l1) → (PX10_hasMaker_J f) 0 [o, l1] G Q → Tg W0 (rx_J vhX10_hasMaker N 0) [rf (o), cI (l1)] [] G (fun r G => ∃ v, r = cI v ∧ (0 ≤ v ∧ v ≤ 1) ∧ Q v G)) := by
  intro f
  induction f with
  | zero => exact fun N _ => fun _ _ _ _ h => h.elim
  | succ f ih =>
    intro N hN
    obtain ⟨M, rfl⟩ : ∃ M, N = M + 1 := ⟨N - 1, by omega⟩
    have ih := ih M (by omega)
    exact fun _ _ _ hl1 h => show Tg W0 (vX10_hasMaker_2 (rx_J vhX10_hasMaker M)) _ _ _ _ from TX10_hasMaker_2 hl1 ih h
def PX10_hasMaker (o : Int) (G : gS) (Q : Int → gS → Prop) : Prop := ∃ f : Nat, f ≤ 4000000000 ∧ PX10_hasMaker_0 (PX10_hasMaker_J f) o G Q
theorem TX10_hasMaker {o : Int} {G : gS} {Q : Int → gS → Prop}  (h : PX10_hasMaker o G Q) : Tn W0 FX10_hasMaker [rf (o)] G (fun r G => ∃ v, r = cI v ∧ (0 ≤ v ∧ v ≤ 1) ∧ Q v G) := by
  obtain ⟨f, hf, h⟩ := h
  have hJ := TX10_hasMaker_J (Q := Q) f 4000000000 hf
  unfold FX10_hasMaker
  refine g_ent (lv' := [rf (o), 7]) (flR fl0) (Nat.le_of_ble_eq_true rfl) rfl ?_
  exact TX10_hasMaker_0  hJ h
def PX4_oddInClass_64 (l0 : Int) (l1 : Int) (s0 : Int) (G : gS) (Q : Int → gS → Prop) : Prop :=
  ((0 ≤ s0 ∧ s0 ≤ 1) ∧ Q (s0) G)
set_option maxRecDepth 20000 in
theorem TX4_oddInClass_64 {l0 : Int} {l1 : Int} {s0 : Int} {G : gS} {Q : Int → gS → Prop} (hs0 : inI s0) (h : PX4_oddInClass_64 l0 l1 s0 G Q) : Tg W0 vX4_oddInClass_64 [rf (l0), rf (l1)] [cI (s0)] G (fun r G => ∃ v, r = cI v ∧ (0 ≤ v ∧ v ≤ 1) ∧ Q v G) := by
  unfold PX4_oddInClass_64 at h
  unfold vX4_oddInClass_64
  obtain ⟨q19, h⟩ := h
  exact g_ret1 (is_Z q19) ⟨_, rfl, q19, h⟩
def PX4_oddInClass_63 (l0 : Int) (l1 : Int) (G : gS) (Q : Int → gS → Prop) : Prop :=
  PX4_oddInClass_64 l0 l1 0 G Q
set_option maxRecDepth 20000 in
theorem TX4_oddInClass_63 {l0 : Int} {l1 : Int} {G : gS} {Q : Int → gS → Prop}  (h : PX4_oddInClass_63 l0 l1 G Q) : Tg W0 vX4_oddInClass_63 [rf (l0), rf (l1)] [] G (fun r G => ∃ v, r = cI v ∧ (0 ≤ v ∧ v ≤ 1) ∧ Q v G) := by
  unfold PX4_oddInClass_63 at h
  unfold vX4_oddInClass_63
  refine g_const (v := cI (0)) rfl ?_
  exact TX4_oddInClass_64 ⟨by omega, by omega⟩ h
def PX4_oddInClass_59 (l0 : Int) (l1 : Int) (G : gS) (Q : Int → gS → Prop) : Prop :=
  PX4_oddInClass_64 l0 l1 1 G Q
set_option maxRecDepth 20000 in
theorem TX4_oddInClass_59 {l0 : Int} {l1 : Int} {G : gS} {Q : Int → gS → Prop}  (h : PX4_oddInClass_59 l0 l1 G Q) : Tg W0 vX4_oddInClass_59 [rf (l0), rf (l1)] [] G (fun r G => ∃ v, r = cI v ∧ (0 ≤ v ∧ v ≤ 1) ∧ Q v G) := by
  unfold PX4_oddInClass_59 at h
  unfold vX4_oddInClass_59
  refine g_const (v := cI (1)) rfl ?_
  exact TX4_oddInClass_64 ⟨by omega, by omega⟩ h
def PX4_oddInClass_0 (a0 : Int) (a1 : Int) (G : gS) (Q : Int → gS → Prop) : Prop :=
  (isO W0 7 (a1) ∧ (inI (G a1 0) → ((G a1 0 = 0 → ((0 ≤ G a1 4 ∧ G a1 4 ≤ 1) → Q (G a1 4) G)) ∧ (¬ (G a1 0 = 0) → (inI (G a1 0) → ((G a1 0 = 1 → ((0 ≤ G a1 4 ∧ G a1 4 ≤ 1) → ((0 ≤ G a1 6 ∧ G a1 6 ≤ 1) → ((G a1 4 = G a1 6 → PX4_oddInClass_59 a0 a1 G Q) ∧ (¬ (G a1 4 = G a1 6) → ((0 ≤ G a1 4 ∧ G a1 4 ≤ 1) → ((G a1 4 = 0 → PX4_oddInClass_63 a0 a1 G Q) ∧ (¬ (G a1 4 = 0) → (inI (G a1 1) → ((G a1 1 = 0 → PX4_oddInClass_59 a0 a1 G Q) ∧ (¬ (G a1 1 = 0) → ((0 ≤ G a1 2 ∧ G a1 2 ≤ 1) → ((G a1 2 = 0 → (isO W0 10 (a0) ∧ ((0 ≤ G a0 6 ∧ G a0 6 ≤ 1) → ((G a0 6 = 0 → PX4_oddInClass_59 a0 a1 G Q) ∧ (¬ (G a0 6 = 0) → PX4_oddInClass_63 a0 a1 G Q))))) ∧ (¬ (G a1 2 = 0) → PX4_oddInClass_59 a0 a1 G Q)))))))))))))) ∧ (¬ (G a1 0 = 1) → PX4_oddInClass_63 a0 a1 G Q)))))))
set_option maxRecDepth 20000 in
theorem TX4_oddInClass_0 {a0 : Int} {a1 : Int} {G : gS} {Q : Int → gS → Prop}  (h : PX4_oddInClass_0 a0 a1 G Q) : Tg W0 vX4_oddInClass_0 [rf (a0), rf (a1)] [] G (fun r G => ∃ v, r = cI v ∧ (0 ≤ v ∧ v ≤ 1) ∧ Q v G) := by
  unfold PX4_oddInClass_0 at h
  unfold vX4_oddInClass_0
  refine g_ld (v := rf _) rfl (is_R _) ?_
  obtain ⟨q1, h⟩ := h
  refine g_getI (kz := 0) q1 rfl (Nat.le_of_ble_eq_true rfl) rfl fun i2 => ?_
  replace h := h i2
  refine g_eq1 i2 (fun b3 => ?_) (fun b3 => ?_)
  · replace h := h.1 b3
    unfold vX4_oddInClass_7
    refine g_ld (v := rf _) rfl (is_R _) ?_
    refine g_getZ (kz := 4) q1 rfl (Nat.le_of_ble_eq_true rfl) rfl fun i4 => ?_
    replace h := h i4
    exact g_ret1 (is_Z i4) ⟨_, rfl, i4, h⟩
  · replace h := h.2 b3
    unfold vX4_oddInClass_12
    refine g_ld (v := rf _) rfl (is_R _) ?_
    refine g_getI (kz := 0) q1 rfl (Nat.le_of_ble_eq_true rfl) rfl fun i5 => ?_
    replace h := h i5
    refine g_const (v := cI (1)) rfl ?_
    refine g_eq2 i5 ⟨by omega, by omega⟩ (fun b6 => ?_) (fun b6 => ?_)
    · replace h := h.1 b6
      unfold vX4_oddInClass_20
      refine g_ld (v := rf _) rfl (is_R _) ?_
      refine g_getZ (kz := 4) q1 rfl (Nat.le_of_ble_eq_true rfl) rfl fun i7 => ?_
      replace h := h i7
      refine g_ld (v := rf _) rfl (is_R _) ?_
      refine g_getZ (kz := 6) q1 rfl (Nat.le_of_ble_eq_true rfl) rfl fun i8 => ?_
      replace h := h i8
      refine g_eq2 ⟨by omega, by omega⟩ ⟨by omega, by omega⟩ (fun b9 => ?_) (fun b9 => ?_)
      · replace h := h.1 b9
        exact TX4_oddInClass_59  h
      · replace h := h.2 b9
        unfold vX4_oddInClass_31
        refine g_ld (v := rf _) rfl (is_R _) ?_
        refine g_getZ (kz := 4) q1 rfl (Nat.le_of_ble_eq_true rfl) rfl fun i10 => ?_
        replace h := h i10
        refine g_eq1 ⟨by omega, by omega⟩ (fun b11 => ?_) (fun b11 => ?_)
        · replace h := h.1 b11
          exact TX4_oddInClass_63  h
        · replace h := h.2 b11
          unfold vX4_oddInClass_38
          refine g_ld (v := rf _) rfl (is_R _) ?_
          refine g_getI (kz := 1) q1 rfl (Nat.le_of_ble_eq_true rfl) rfl fun i12 => ?_
          replace h := h i12
          refine g_eq1 i12 (fun b13 => ?_) (fun b13 => ?_)
          · replace h := h.1 b13
            exact TX4_oddInClass_59  h
          · replace h := h.2 b13
            unfold vX4_oddInClass_45
            refine g_ld (v := rf _) rfl (is_R _) ?_
            refine g_getZ (kz := 2) q1 rfl (Nat.le_of_ble_eq_true rfl) rfl fun i14 => ?_
            replace h := h i14
            refine g_eq1 ⟨by omega, by omega⟩ (fun b15 => ?_) (fun b15 => ?_)
            · replace h := h.1 b15
              unfold vX4_oddInClass_52
              refine g_ld (v := rf _) rfl (is_R _) ?_
              obtain ⟨q16, h⟩ := h
              refine g_getZ (kz := 6) q16 rfl (Nat.le_of_ble_eq_true rfl) rfl fun i17 => ?_
              replace h := h i17
              refine g_eq1 ⟨by omega, by omega⟩ (fun b18 => ?_) (fun b18 => ?_)
              · replace h := h.1 b18
                exact TX4_oddInClass_59  h
              · replace h := h.2 b18
                exact TX4_oddInClass_63  h
            · replace h := h.2 b15
              exact TX4_oddInClass_59  h
    · replace h := h.2 b6
      exact TX4_oddInClass_63  h
abbrev PX4_oddInClass (a0 : Int) (a1 : Int) (G : gS) (Q : Int → gS → Prop) : Prop := PX4_oddInClass_0 a0 a1 G Q
theorem TX4_oddInClass {a0 : Int} {a1 : Int} {G : gS} {Q : Int → gS → Prop}  (h : PX4_oddInClass a0 a1 G Q) : Tn W0 FX4_oddInClass [rf (a0), rf (a1)] G (fun r G => ∃ v, r = cI v ∧ (0 ≤ v ∧ v ≤ 1) ∧ Q v G) := by
  unfold FX4_oddInClass
  refine g_ent (lv' := [rf (a0), rf (a1)]) (flR (flR fl0)) (Nat.le_of_ble_eq_true rfl) rfl ?_
  exact TX4_oddInClass_0  h
def PX4_oddInFace_105 (l0 : Int) (s0 : Int) (G : gS) (Q : Int → gS → Prop) : Prop :=
  ((0 ≤ s0 ∧ s0 ≤ 1) ∧ Q (s0) G)
set_option maxRecDepth 20000 in
theorem TX4_oddInFace_105 {l0 : Int} {s0 : Int} {G : gS} {Q : Int → gS → Prop} (hs0 : inI s0) (h : PX4_oddInFace_105 l0 s0 G Q) : Tg W0 vX4_oddInFace_105 [rf (l0)] [cI (s0)] G (fun r G => ∃ v, r = cI v ∧ (0 ≤ v ∧ v ≤ 1) ∧ Q v G) := by
  unfold PX4_oddInFace_105 at h
  unfold vX4_oddInFace_105
  obtain ⟨q30, h⟩ := h
  exact g_ret1 (is_Z q30) ⟨_, rfl, q30, h⟩
def PX4_oddInFace_104 (l0 : Int) (G : gS) (Q : Int → gS → Prop) : Prop :=
  PX4_oddInFace_105 l0 0 G Q
set_option maxRecDepth 20000 in
theorem TX4_oddInFace_104 {l0 : Int} {G : gS} {Q : Int → gS → Prop}  (h : PX4_oddInFace_104 l0 G Q) : Tg W0 vX4_oddInFace_104 [rf (l0)] [] G (fun r G => ∃ v, r = cI v ∧ (0 ≤ v ∧ v ≤ 1) ∧ Q v G) := by
  unfold PX4_oddInFace_104 at h
  unfold vX4_oddInFace_104
  refine g_const (v := cI (0)) rfl ?_
  exact TX4_oddInFace_105 ⟨by omega, by omega⟩ h
def PX4_oddInFace_100 (l0 : Int) (G : gS) (Q : Int → gS → Prop) : Prop :=
  PX4_oddInFace_105 l0 1 G Q
set_option maxRecDepth 20000 in
theorem TX4_oddInFace_100 {l0 : Int} {G : gS} {Q : Int → gS → Prop}  (h : PX4_oddInFace_100 l0 G Q) : Tg W0 vX4_oddInFace_100 [rf (l0)] [] G (fun r G => ∃ v, r = cI v ∧ (0 ≤ v ∧ v ≤ 1) ∧ Q v G) := by
  unfold PX4_oddInFace_100 at h
  unfold vX4_oddInFace_100
  refine g_const (v := cI (1)) rfl ?_
  exact TX4_oddInFace_105 ⟨by omega, by omega⟩ h
def PX4_oddInFace_79 (l0 : Int) (G : gS) (Q : Int → gS → Prop) : Prop :=
  (isO W0 7 (l0) ∧ ((0 ≤ G l0 6 ∧ G l0 6 ≤ 1) → ((G l0 6 = 0 → ((0 ≤ G l0 2 ∧ G l0 2 ≤ 1) → ((G l0 2 = 0 → (inI (G l0 1) → ((G l0 1 = 0 → PX4_oddInFace_100 l0 G Q) ∧ (¬ (G l0 1 = 0) → PX4_oddInFace_104 l0 G Q)))) ∧ (¬ (G l0 2 = 0) → PX4_oddInFace_100 l0 G Q)))) ∧ (¬ (G l0 6 = 0) → PX4_oddInFace_104 l0 G Q))))
set_option maxRecDepth 20000 in
theorem TX4_oddInFace_79 {l0 : Int} {G : gS} {Q : Int → gS → Prop}  (h : PX4_oddInFace_79 l0 G Q) : Tg W0 vX4_oddInFace_79 [rf (l0)] [] G (fun r G => ∃ v, r = cI v ∧ (0 ≤ v ∧ v ≤ 1) ∧ Q v G) := by
  unfold PX4_oddInFace_79 at h
  unfold vX4_oddInFace_79
  refine g_ld (v := rf _) rfl (is_R _) ?_
  obtain ⟨q23, h⟩ := h
  refine g_getZ (kz := 6) q23 rfl (Nat.le_of_ble_eq_true rfl) rfl fun i24 => ?_
  replace h := h i24
  refine g_eq1 ⟨by omega, by omega⟩ (fun b25 => ?_) (fun b25 => ?_)
  · replace h := h.1 b25
    unfold vX4_oddInFace_86
    refine g_ld (v := rf _) rfl (is_R _) ?_
    refine g_getZ (kz := 2) q23 rfl (Nat.le_of_ble_eq_true rfl) rfl fun i26 => ?_
    replace h := h i26
    refine g_eq1 ⟨by omega, by omega⟩ (fun b27 => ?_) (fun b27 => ?_)
    · replace h := h.1 b27
      unfold vX4_oddInFace_93
      refine g_ld (v := rf _) rfl (is_R _) ?_
      refine g_getI (kz := 1) q23 rfl (Nat.le_of_ble_eq_true rfl) rfl fun i28 => ?_
      replace h := h i28
      refine g_eq1 i28 (fun b29 => ?_) (fun b29 => ?_)
      · replace h := h.1 b29
        exact TX4_oddInFace_100  h
      · replace h := h.2 b29
        exact TX4_oddInFace_104  h
    · replace h := h.2 b27
      exact TX4_oddInFace_100  h
  · replace h := h.2 b25
    exact TX4_oddInFace_104  h
def PX4_oddInFace_41 (l0 : Int) (s0 : Int) (G : gS) (Q : Int → gS → Prop) : Prop :=
  ((0 ≤ s0 ∧ s0 ≤ 1) ∧ Q (s0) G)
set_option maxRecDepth 20000 in
theorem TX4_oddInFace_41 {l0 : Int} {s0 : Int} {G : gS} {Q : Int → gS → Prop} (hs0 : inI s0) (h : PX4_oddInFace_41 l0 s0 G Q) : Tg W0 vX4_oddInFace_41 [rf (l0)] [cI (s0)] G (fun r G => ∃ v, r = cI v ∧ (0 ≤ v ∧ v ≤ 1) ∧ Q v G) := by
  unfold PX4_oddInFace_41 at h
  unfold vX4_oddInFace_41
  obtain ⟨q22, h⟩ := h
  exact g_ret1 (is_Z q22) ⟨_, rfl, q22, h⟩
def PX4_oddInFace_36 (l0 : Int) (G : gS) (Q : Int → gS → Prop) : Prop :=
  PX4_oddInFace_41 l0 1 G Q
set_option maxRecDepth 20000 in
theorem TX4_oddInFace_36 {l0 : Int} {G : gS} {Q : Int → gS → Prop}  (h : PX4_oddInFace_36 l0 G Q) : Tg W0 vX4_oddInFace_36 [rf (l0)] [] G (fun r G => ∃ v, r = cI v ∧ (0 ≤ v ∧ v ≤ 1) ∧ Q v G) := by
  unfold PX4_oddInFace_36 at h
  unfold vX4_oddInFace_36
  refine g_const (v := cI (1)) rfl ?_
  exact TX4_oddInFace_41 ⟨by omega, by omega⟩ h
def PX4_oddInFace_0 (a0 : Int) (G : gS) (Q : Int → gS → Prop) : Prop :=
  (isO W0 7 (a0) ∧ (inI (G a0 0) → ((G a0 0 = 0 → ((0 ≤ G a0 4 ∧ G a0 4 ≤ 1) → ((G a0 4 = 0 → (inI (G a0 1) → ((G a0 1 = 0 → PX4_oddInFace_36 a0 G Q) ∧ (¬ (G a0 1 = 0) → (inI (G a0 1) → ((G a0 1 = 2 → PX4_oddInFace_36 a0 G Q) ∧ (¬ (G a0 1 = 2) → ((G a0 14 = -1 ∨ isO W0 8 (G a0 14)) → ((G a0 14 < 0 → PX4_oddInFace_36 a0 G Q) ∧ (0 ≤ G a0 14 → PX4_oddInFace_41 a0 0 G Q)))))))))) ∧ (¬ (G a0 4 = 0) → PX4_oddInFace_36 a0 G Q)))) ∧ (¬ (G a0 0 = 0) → (inI (G a0 0) → ((G a0 0 = 1 → (inI (G a0 1) → ((G a0 1 = 2 → PX4_oddInFace_100 a0 G Q) ∧ (¬ (G a0 1 = 2) → ((0 ≤ G a0 3 ∧ G a0 3 ≤ 1) → ((G a0 3 = 0 → ((0 ≤ G a0 4 ∧ G a0 4 ≤ 1) → ((G a0 4 = 0 → PX4_oddInFace_79 a0 G Q) ∧ (¬ (G a0 4 = 0) → ((0 ≤ G a0 6 ∧ G a0 6 ≤ 1) → ((G a0 6 = 0 → PX4_oddInFace_79 a0 G Q) ∧ (¬ (G a0 6 = 0) → PX4_oddInFace_100 a0 G Q))))))) ∧ (¬ (G a0 3 = 0) → PX4_oddInFace_100 a0 G Q))))))) ∧ (¬ (G a0 0 = 1) → PX4_oddInFace_100 a0 G Q)))))))
set_option maxRecDepth 20000 in
theorem TX4_oddInFace_0 {a0 : Int} {G : gS} {Q : Int → gS → Prop}  (h : PX4_oddInFace_0 a0 G Q) : Tg W0 vX4_oddInFace_0 [rf (a0)] [] G (fun r G => ∃ v, r = cI v ∧ (0 ≤ v ∧ v ≤ 1) ∧ Q v G) := by
  unfold PX4_oddInFace_0 at h
  unfold vX4_oddInFace_0
  refine g_ld (v := rf _) rfl (is_R _) ?_
  obtain ⟨q1, h⟩ := h
  refine g_getI (kz := 0) q1 rfl (Nat.le_of_ble_eq_true rfl) rfl fun i2 => ?_
  replace h := h i2
  refine g_eq1 i2 (fun b3 => ?_) (fun b3 => ?_)
  · replace h := h.1 b3
    unfold vX4_oddInFace_7
    refine g_ld (v := rf _) rfl (is_R _) ?_
    refine g_getZ (kz := 4) q1 rfl (Nat.le_of_ble_eq_true rfl) rfl fun i4 => ?_
    replace h := h i4
    refine g_eq1 ⟨by omega, by omega⟩ (fun b5 => ?_) (fun b5 => ?_)
    · replace h := h.1 b5
      unfold vX4_oddInFace_14
      refine g_ld (v := rf _) rfl (is_R _) ?_
      refine g_getI (kz := 1) q1 rfl (Nat.le_of_ble_eq_true rfl) rfl fun i6 => ?_
      replace h := h i6
      refine g_eq1 i6 (fun b7 => ?_) (fun b7 => ?_)
      · replace h := h.1 b7
        exact TX4_oddInFace_36  h
      · replace h := h.2 b7
        unfold vX4_oddInFace_21
        refine g_ld (v := rf _) rfl (is_R _) ?_
        refine g_getI (kz := 1) q1 rfl (Nat.le_of_ble_eq_true rfl) rfl fun i8 => ?_
        replace h := h i8
        refine g_const (v := cI (2)) rfl ?_
        refine g_eq2 i8 ⟨by omega, by omega⟩ (fun b9 => ?_) (fun b9 => ?_)
        · replace h := h.1 b9
          exact TX4_oddInFace_36  h
        · replace h := h.2 b9
          unfold vX4_oddInFace_29
          refine g_ld (v := rf _) rfl (is_R _) ?_
          refine g_getR (kz := 14) (c := 8) q1 rfl (Nat.le_of_ble_eq_true rfl) rfl (by decide) fun i10 => ?_
          replace h := h i10
          refine g_nul (fun b11 => ?_) (fun b11 => ?_)
          · replace h := h.1 b11
            exact TX4_oddInFace_36  h
          · replace h := h.2 b11
            unfold vX4_oddInFace_40
            refine g_const (v := cI (0)) rfl ?_
            exact TX4_oddInFace_41 ⟨by omega, by omega⟩ h
    · replace h := h.2 b5
      exact TX4_oddInFace_36  h
  · replace h := h.2 b3
    unfold vX4_oddInFace_42
    refine g_ld (v := rf _) rfl (is_R _) ?_
    refine g_getI (kz := 0) q1 rfl (Nat.le_of_ble_eq_true rfl) rfl fun i12 => ?_
    replace h := h i12
    refine g_const (v := cI (1)) rfl ?_
    refine g_eq2 i12 ⟨by omega, by omega⟩ (fun b13 => ?_) (fun b13 => ?_)
    · replace h := h.1 b13
      unfold vX4_oddInFace_50
      refine g_ld (v := rf _) rfl (is_R _) ?_
      refine g_getI (kz := 1) q1 rfl (Nat.le_of_ble_eq_true rfl) rfl fun i14 => ?_
      replace h := h i14
      refine g_const (v := cI (2)) rfl ?_
      refine g_eq2 i14 ⟨by omega, by omega⟩ (fun b15 => ?_) (fun b15 => ?_)
      · replace h := h.1 b15
        exact TX4_oddInFace_100  h
      · replace h := h.2 b15
        unfold vX4_oddInFace_58
        refine g_ld (v := rf _) rfl (is_R _) ?_
        refine g_getZ (kz := 3) q1 rfl (Nat.le_of_ble_eq_true rfl) rfl fun i16 => ?_
        replace h := h i16
        refine g_eq1 ⟨by omega, by omega⟩ (fun b17 => ?_) (fun b17 => ?_)
        · replace h := h.1 b17
          unfold vX4_oddInFace_65
          refine g_ld (v := rf _) rfl (is_R _) ?_
          refine g_getZ (kz := 4) q1 rfl (Nat.le_of_ble_eq_true rfl) rfl fun i18 => ?_
          replace h := h i18
          refine g_eq1 ⟨by omega, by omega⟩ (fun b19 => ?_) (fun b19 => ?_)
          · replace h := h.1 b19
            exact TX4_oddInFace_79  h
          · replace h := h.2 b19
            unfold vX4_oddInFace_72
            refine g_ld (v := rf _) rfl (is_R _) ?_
            refine g_getZ (kz := 6) q1 rfl (Nat.le_of_ble_eq_true rfl) rfl fun i20 => ?_
            replace h := h i20
            refine g_eq1 ⟨by omega, by omega⟩ (fun b21 => ?_) (fun b21 => ?_)
            · replace h := h.1 b21
              exact TX4_oddInFace_79  h
            · replace h := h.2 b21
              exact TX4_oddInFace_100  h
        · replace h := h.2 b17
          exact TX4_oddInFace_100  h
    · replace h := h.2 b13
      exact TX4_oddInFace_100  h
abbrev PX4_oddInFace (a0 : Int) (G : gS) (Q : Int → gS → Prop) : Prop := PX4_oddInFace_0 a0 G Q
theorem TX4_oddInFace {a0 : Int} {G : gS} {Q : Int → gS → Prop}  (h : PX4_oddInFace a0 G Q) : Tn W0 FX4_oddInFace [rf (a0)] G (fun r G => ∃ v, r = cI v ∧ (0 ≤ v ∧ v ≤ 1) ∧ Q v G) := by
  unfold FX4_oddInFace
  refine g_ent (lv' := [rf (a0)]) (flR fl0) (Nat.le_of_ble_eq_true rfl) rfl ?_
  exact TX4_oddInFace_0  h
def PX4_settleInFace_61 (l0 : Int) (G : gS) (Q : Int → gS → Prop) : Prop :=
  Q 0 G
set_option maxRecDepth 20000 in
theorem TX4_settleInFace_61 {l0 : Int} {G : gS} {Q : Int → gS → Prop}  (h : PX4_settleInFace_61 l0 G Q) : Tg W0 vX4_settleInFace_61 [rf (l0)] [] G (fun r G => r = 7 ∧ Q 0 G) := by
  unfold PX4_settleInFace_61 at h
  unfold vX4_settleInFace_61
  exact g_ret0 ⟨rfl, h⟩
def PX4_settleInFace_58 (l0 : Int) (s0 : Int) (s1 : Int) (G : gS) (Q : Int → gS → Prop) : Prop :=
  (isO W0 7 (s0) ∧ ((0 ≤ s1 ∧ s1 ≤ 1) ∧ (∀ G17 : gS, G17 = uG G s0 4 (s1) → PX4_settleInFace_61 l0 G17 Q)))
set_option maxRecDepth 20000 in
theorem TX4_settleInFace_58 {l0 : Int} {s0 : Int} {s1 : Int} {G : gS} {Q : Int → gS → Prop} (hs1 : inI s1) (h : PX4_settleInFace_58 l0 s0 s1 G Q) : Tg W0 vX4_settleInFace_58 [rf (l0)] [cI (s1), rf (s0)] G (fun r G => r = 7 ∧ Q 0 G) := by
  unfold PX4_settleInFace_58 at h
  unfold vX4_settleInFace_58
  obtain ⟨q15, h⟩ := h
  obtain ⟨q16, h⟩ := h
  refine g_putZ (kz := 4) q15 rfl (Nat.le_of_ble_eq_true rfl) rfl q16 (nf7_4 q15) ?_
  replace h := h _ rfl
  exact TX4_settleInFace_61  h
def PX4_settleInFace_42 (l0 : Int) (s0 : Int) (s1 : Int) (G : gS) (Q : Int → gS → Prop) : Prop :=
  (isO W0 7 (s0) ∧ (∀ G11 : gS, G11 = uG G s0 1 (s1) → (isO W0 7 (l0) ∧ ((0 ≤ G11 l0 6 ∧ G11 l0 6 ≤ 1) → ((G11 l0 6 = 0 → PX4_settleInFace_58 l0 l0 1 G11 Q) ∧ (¬ (G11 l0 6 = 0) → PX4_settleInFace_58 l0 l0 0 G11 Q))))))
set_option maxRecDepth 20000 in
theorem TX4_settleInFace_42 {l0 : Int} {s0 : Int} {s1 : Int} {G : gS} {Q : Int → gS → Prop} (hs1 : inI s1) (h : PX4_settleInFace_42 l0 s0 s1 G Q) : Tg W0 vX4_settleInFace_42 [rf (l0)] [cI (s1), rf (s0)] G (fun r G => r = 7 ∧ Q 0 G) := by
  unfold PX4_settleInFace_42 at h
  unfold vX4_settleInFace_42
  obtain ⟨q10, h⟩ := h
  refine g_putI (kz := 1) q10 rfl (Nat.le_of_ble_eq_true rfl) rfl hs1 (nf7_1 q10) ?_
  replace h := h _ rfl
  refine g_ld (v := rf _) rfl (is_R _) ?_
  refine g_ld (v := rf _) rfl (is_R _) ?_
  obtain ⟨q12, h⟩ := h
  refine g_getZ (kz := 6) q12 rfl (Nat.le_of_ble_eq_true rfl) rfl fun i13 => ?_
  replace h := h i13
  refine g_eq1 ⟨by omega, by omega⟩ (fun b14 => ?_) (fun b14 => ?_)
  · replace h := h.1 b14
    unfold vX4_settleInFace_53
    refine g_const (v := cI (1)) rfl ?_
    exact TX4_settleInFace_58 ⟨by omega, by omega⟩ h
  · replace h := h.2 b14
    unfold vX4_settleInFace_57
    refine g_const (v := cI (0)) rfl ?_
    exact TX4_settleInFace_58 ⟨by omega, by omega⟩ h
def PX4_settleInFace_0 (a0 : Int) (G : gS) (Q : Int → gS → Prop) : Prop :=
  (isO W0 7 (a0) ∧ (inI (G a0 0) → ((G a0 0 = 0 → (∀ G4 : gS, G4 = uG G a0 1 (3) → (∀ G5 : gS, G5 = uG G4 a0 2 (1) → (∀ G6 : gS, G6 = uG G5 a0 3 (1) → PX4_settleInFace_61 a0 G6 Q)))) ∧ (¬ (G a0 0 = 0) → (inI (G a0 1) → ((G a0 1 = 1 → PX4_settleInFace_42 a0 a0 3 G Q) ∧ (¬ (G a0 1 = 1) → (inI (G a0 1) → PX4_settleInFace_42 a0 a0 (G a0 1) G Q))))))))
set_option maxRecDepth 20000 in
theorem TX4_settleInFace_0 {a0 : Int} {G : gS} {Q : Int → gS → Prop}  (h : PX4_settleInFace_0 a0 G Q) : Tg W0 vX4_settleInFace_0 [rf (a0)] [] G (fun r G => r = 7 ∧ Q 0 G) := by
  unfold PX4_settleInFace_0 at h
  unfold vX4_settleInFace_0
  refine g_ld (v := rf _) rfl (is_R _) ?_
  obtain ⟨q1, h⟩ := h
  refine g_getI (kz := 0) q1 rfl (Nat.le_of_ble_eq_true rfl) rfl fun i2 => ?_
  replace h := h i2
  refine g_eq1 i2 (fun b3 => ?_) (fun b3 => ?_)
  · replace h := h.1 b3
    unfold vX4_settleInFace_7
    refine g_ld (v := rf _) rfl (is_R _) ?_
    refine g_const (v := cI (3)) rfl ?_
    refine g_putI (kz := 1) q1 rfl (Nat.le_of_ble_eq_true rfl) rfl ⟨by omega, by omega⟩ (nf7_1 q1) ?_
    replace h := h _ rfl
    refine g_ld (v := rf _) rfl (is_R _) ?_
    refine g_const (v := cI (1)) rfl ?_
    refine g_putZ (kz := 2) q1 rfl (Nat.le_of_ble_eq_true rfl) rfl (by omega) (nf7_2 q1) ?_
    replace h := h _ rfl
    refine g_ld (v := rf _) rfl (is_R _) ?_
    refine g_const (v := cI (1)) rfl ?_
    refine g_putZ (kz := 3) q1 rfl (Nat.le_of_ble_eq_true rfl) rfl (by omega) (nf7_3 q1) ?_
    replace h := h _ rfl
    exact TX4_settleInFace_61  h
  · replace h := h.2 b3
    unfold vX4_settleInFace_25
    refine g_ld (v := rf _) rfl (is_R _) ?_
    refine g_ld (v := rf _) rfl (is_R _) ?_
    refine g_getI (kz := 1) q1 rfl (Nat.le_of_ble_eq_true rfl) rfl fun i7 => ?_
    replace h := h i7
    refine g_const (v := cI (1)) rfl ?_
    refine g_eq2 i7 ⟨by omega, by omega⟩ (fun b8 => ?_) (fun b8 => ?_)
    · replace h := h.1 b8
      unfold vX4_settleInFace_34
      refine g_const (v := cI (3)) rfl ?_
      exact TX4_settleInFace_42 ⟨by omega, by omega⟩ h
    · replace h := h.2 b8
      unfold vX4_settleInFace_38
      refine g_ld (v := rf _) rfl (is_R _) ?_
      refine g_getI (kz := 1) q1 rfl (Nat.le_of_ble_eq_true rfl) rfl fun i9 => ?_
      replace h := h i9
      exact TX4_settleInFace_42 i9 h
abbrev PX4_settleInFace (a0 : Int) (G : gS) (Q : Int → gS → Prop) : Prop := PX4_settleInFace_0 a0 G Q
theorem TX4_settleInFace {a0 : Int} {G : gS} {Q : Int → gS → Prop}  (h : PX4_settleInFace a0 G Q) : Tn W0 FX4_settleInFace [rf (a0)] G (fun r G => r = 7 ∧ Q 0 G) := by
  unfold FX4_settleInFace
  refine g_ent (lv' := [rf (a0)]) (flR fl0) (Nat.le_of_ble_eq_true rfl) rfl ?_
  exact TX4_settleInFace_0  h
def PX4_twice_86 (J : Nat → List Int → gS → (Int → gS → Prop) → Prop) (l1 : Int) (l2 : Int) (l3 : Int) (G : gS) (Q : Int → gS → Prop) : Prop :=
  Q 0 G
set_option maxRecDepth 20000 in
theorem TX4_twice_86 {j : Nat → rx_K} {J : Nat → List Int → gS → (Int → gS → Prop) → Prop} {l1 : Int} {l2 : Int} {l3 : Int} {l4 : Nat} {G : gS} {Q : Int → gS → Prop} (hl3 : inI l3) (hl4 : l4 % 8 ≠ 1) (hj0 : ∀ (l1 : Int) (l2 : Int) (l3 : Int) (l4 : Nat) (G : gS), (inI l3) → (l4 % 8 ≠ 1) → J 0 [l1, l2, l3] G Q → Tg W0 (j 0) [rf (814), rf (l1), rf (l2), cI (l3), l4] [] G (fun r G => r = 7 ∧ Q 0 G)) (h : PX4_twice_86 J l1 l2 l3 G Q) : Tg W0 (vX4_twice_86 j) [rf (814), rf (l1), rf (l2), cI (l3), l4] [] G (fun r G => r = 7 ∧ Q 0 G) := by
  unfold PX4_twice_86 at h
  unfold vX4_twice_86
  exact g_ret0 ⟨rfl, h⟩
def PX4_twice_80 (J : Nat → List Int → gS → (Int → gS → Prop) → Prop) (l1 : Int) (l2 : Int) (l3 : Int) (l4 : Int) (G : gS) (Q : Int → gS → Prop) : Prop :=
  (inI (l3 + 1) ∧ J 0 [l1, l2, l3 + 1] G Q)
set_option maxRecDepth 20000 in
theorem TX4_twice_80 {j : Nat → rx_K} {J : Nat → List Int → gS → (Int → gS → Prop) → Prop} {l1 : Int} {l2 : Int} {l3 : Int} {l4 : Int} {G : gS} {Q : Int → gS → Prop} (hl3 : inI l3) (hj0 : ∀ (l1 : Int) (l2 : Int) (l3 : Int) (l4 : Nat) (G : gS), (inI l3) → (l4 % 8 ≠ 1) → J 0 [l1, l2, l3] G Q → Tg W0 (j 0) [rf (814), rf (l1), rf (l2), cI (l3), l4] [] G (fun r G => r = 7 ∧ Q 0 G)) (h : PX4_twice_80 J l1 l2 l3 l4 G Q) : Tg W0 (vX4_twice_80 j) [rf (814), rf (l1), rf (l2), cI (l3), rf (l4)] [] G (fun r G => r = 7 ∧ Q 0 G) := by
  unfold PX4_twice_80 at h
  unfold vX4_twice_80
  refine g_inc (lv' := [_, _, _, _, _]) rfl (Nat.le_of_ble_eq_true rfl) (Or.inr (n1_R _)) rfl ?_
  obtain ⟨q32, h⟩ := h
  exact hj0 _ _ _ _ _ q32 (n1_R _) h
def PX4_twice_69 (J : Nat → List Int → gS → (Int → gS → Prop) → Prop) (l1 : Int) (l2 : Int) (l3 : Int) (l4 : Int) (G : gS) (Q : Int → gS → Prop) : Prop :=
  (isO W0 7 (l2) ∧ (inI (G l2 11) → PX4_fail 6 (G l2 11) G (fun r30 G29 => (0 ≤ r30 ∧ r30 ≤ 1) → PX4_twice_80 J l1 l2 l3 l4 G29 Q)))
set_option maxRecDepth 20000 in
theorem TX4_twice_69 {j : Nat → rx_K} {J : Nat → List Int → gS → (Int → gS → Prop) → Prop} {l1 : Int} {l2 : Int} {l3 : Int} {l4 : Int} {G : gS} {Q : Int → gS → Prop} (hl3 : inI l3) (hj0 : ∀ (l1 : Int) (l2 : Int) (l3 : Int) (l4 : Nat) (G : gS), (inI l3) → (l4 % 8 ≠ 1) → J 0 [l1, l2, l3] G Q → Tg W0 (j 0) [rf (814), rf (l1), rf (l2), cI (l3), l4] [] G (fun r G => r = 7 ∧ Q 0 G)) (h : PX4_twice_69 J l1 l2 l3 l4 G Q) : Tg W0 (vX4_twice_69 j) [rf (814), rf (l1), rf (l2), cI (l3), rf (l4)] [] G (fun r G => r = 7 ∧ Q 0 G) := by
  unfold PX4_twice_69 at h
  unfold vX4_twice_69
  refine g_ld (v := rf _) rfl (is_R _) ?_
  refine g_const (v := cI (6)) rfl ?_
  refine g_ld (v := rf _) rfl (is_R _) ?_
  obtain ⟨q27, h⟩ := h
  refine g_getI (kz := 11) q27 rfl (Nat.le_of_ble_eq_true rfl) rfl fun i28 => ?_
  replace h := h i28
  refine g_callV (As := [_, _]) (ci := 4) oC4 (fun _ => rfl) ?_
  refine g_go1 (Nat.le_of_ble_eq_true rfl) (Tn_w (TX4_fail ⟨by omega, by omega⟩ i28 h) fun _ G29 ⟨r30, e, i31, h⟩ => ?_)
  subst e
  refine ⟨n7_I _, ?_⟩
  replace h := h i31
  refine g_pop (ct_I _) ?_
  exact TX4_twice_80 hl3 hj0 h
def PX4_twice_2 (J : Nat → List Int → gS → (Int → gS → Prop) → Prop) (l1 : Int) (l2 : Int) (l3 : Int) (G : gS) (Q : Int → gS → Prop) : Prop :=
  (isO W0 10 (l1) ∧ (inI (G l1 15) → ((l3 < G l1 15 → ((0 : Int) ≤ l3 ∧ ((l3 : Int) < 33 ∧ (((G (l1 + 4) l3 = -1 ∨ isO W0 7 (G (l1 + 4) l3)) ∧ ∀ v, W0.2 (l1 + 4) l3 = some v → G (l1 + 4) l3 = v) → ((-1 : Int) ≤ G (l1 + 4) l3 ∧ ((-1 : Int) ≤ l2 ∧ ((G (l1 + 4) l3 = l2 → PX4_twice_86 J l1 l2 l3 G Q) ∧ (¬ (G (l1 + 4) l3 = l2) → ((0 : Int) ≤ l3 ∧ ((l3 : Int) < 33 ∧ (((G (l1 + 4) l3 = -1 ∨ isO W0 7 (G (l1 + 4) l3)) ∧ ∀ v, W0.2 (l1 + 4) l3 = some v → G (l1 + 4) l3 = v) → (isO W0 7 (G (l1 + 4) l3) ∧ (inI (G (G (l1 + 4) l3) 0) → (isO W0 7 (l2) ∧ (inI (G l2 0) → ((G (G (l1 + 4) l3) 0 = G l2 0 → (inL (G (G (l1 + 4) l3) 7) → (inL (G l2 7) → ((G (G (l1 + 4) l3) 7 = G l2 7 → (inI (G l2 0) → ((G l2 0 = 0 → PX4_twice_69 J l1 l2 l3 (G (l1 + 4) l3) G Q) ∧ (¬ (G l2 0 = 0) → PX7_sameParams (G (l1 + 4) l3) l2 G (fun r24 G23 => (0 ≤ r24 ∧ r24 ≤ 1) → ((r24 = 0 → PX4_twice_80 J l1 l2 l3 (G (l1 + 4) l3) G23 Q) ∧ (¬ (r24 = 0) → PX4_twice_69 J l1 l2 l3 (G (l1 + 4) l3) G23 Q))))))) ∧ (¬ (G (G (l1 + 4) l3) 7 = G l2 7) → PX4_twice_80 J l1 l2 l3 (G (l1 + 4) l3) G Q))))) ∧ (¬ (G (G (l1 + 4) l3) 0 = G l2 0) → PX4_twice_80 J l1 l2 l3 (G (l1 + 4) l3) G Q))))))))))))))))) ∧ (¬ (l3 < G l1 15) → PX4_twice_86 J l1 l2 l3 G Q))))
set_option maxRecDepth 20000 in
theorem TX4_twice_2 {j : Nat → rx_K} {J : Nat → List Int → gS → (Int → gS → Prop) → Prop} {l1 : Int} {l2 : Int} {l3 : Int} {l4 : Nat} {G : gS} {Q : Int → gS → Prop} (hl3 : inI l3) (hl4 : l4 % 8 ≠ 1) (hj0 : ∀ (l1 : Int) (l2 : Int) (l3 : Int) (l4 : Nat) (G : gS), (inI l3) → (l4 % 8 ≠ 1) → J 0 [l1, l2, l3] G Q → Tg W0 (j 0) [rf (814), rf (l1), rf (l2), cI (l3), l4] [] G (fun r G => r = 7 ∧ Q 0 G)) (h : PX4_twice_2 J l1 l2 l3 G Q) : Tg W0 (vX4_twice_2 j) [rf (814), rf (l1), rf (l2), cI (l3), l4] [] G (fun r G => r = 7 ∧ Q 0 G) := by
  unfold PX4_twice_2 at h
  unfold vX4_twice_2
  refine g_ld (v := cI _) rfl (is_I _) ?_
  refine g_ld (v := rf _) rfl (is_R _) ?_
  obtain ⟨q1, h⟩ := h
  refine g_getI (kz := 15) q1 rfl (Nat.le_of_ble_eq_true rfl) rfl fun i2 => ?_
  replace h := h i2
  refine g_lt2 hl3 i2 (fun b3 => ?_) (fun b3 => ?_)
  · replace h := h.1 b3
    unfold vX4_twice_10
    refine g_ld (v := rf _) rfl (is_R _) ?_
    refine g_getF q1 (ff10_14 q1).1 rfl (Nat.le_of_ble_eq_true rfl) (Nat.le_of_ble_eq_true rfl) ?_
    refine g_ld (v := cI _) rfl (is_I _) ?_
    obtain ⟨q4, q5, h⟩ := h
    refine g_aldRF (c := 7) (ff10_14 q1).2 q4 q5 rfl (by decide) fun i6 => ?_
    replace h := h i6
    refine g_ld (v := rf _) rfl (is_R _) ?_
    obtain ⟨q7, q8, h⟩ := h
    refine g_acmp q7 q8 (fun b9 => ?_) (fun b9 => ?_)
    · replace h := h.1 b9
      exact TX4_twice_86 hl3 hl4 hj0 h
    · replace h := h.2 b9
      unfold vX4_twice_20
      refine g_ld (v := rf _) rfl (is_R _) ?_
      refine g_getF q1 (ff10_14 q1).1 rfl (Nat.le_of_ble_eq_true rfl) (Nat.le_of_ble_eq_true rfl) ?_
      refine g_ld (v := cI _) rfl (is_I _) ?_
      obtain ⟨q10, q11, h⟩ := h
      refine g_aldRF (c := 7) (ff10_14 q1).2 q10 q11 rfl (by decide) fun i12 => ?_
      replace h := h i12
      refine g_st (lv' := [_, _, _, _, _]) (is_R _) (Nat.le_of_ble_eq_true rfl) (Or.inr (n1_I _)) rfl ?_
      refine g_ld (v := rf _) rfl (is_R _) ?_
      obtain ⟨q13, h⟩ := h
      refine g_getI (kz := 0) q13 rfl (Nat.le_of_ble_eq_true rfl) rfl fun i14 => ?_
      replace h := h i14
      refine g_ld (v := rf _) rfl (is_R _) ?_
      obtain ⟨q15, h⟩ := h
      refine g_getI (kz := 0) q15 rfl (Nat.le_of_ble_eq_true rfl) rfl fun i16 => ?_
      replace h := h i16
      refine g_eq2 i14 i16 (fun b17 => ?_) (fun b17 => ?_)
      · replace h := h.1 b17
        unfold vX4_twice_40
        refine g_ld (v := rf _) rfl (is_R _) ?_
        refine g_getL (kz := 7) q13 rfl (Nat.le_of_ble_eq_true rfl) rfl fun i18 => ?_
        replace h := h i18
        refine g_ld (v := rf _) rfl (is_R _) ?_
        refine g_getL (kz := 7) q15 rfl (Nat.le_of_ble_eq_true rfl) rfl fun i19 => ?_
        replace h := h i19
        refine g_leq i18 i19 (fun b20 => ?_) (fun b20 => ?_)
        · replace h := h.1 b20
          unfold vX4_twice_53
          refine g_ld (v := rf _) rfl (is_R _) ?_
          refine g_getI (kz := 0) q15 rfl (Nat.le_of_ble_eq_true rfl) rfl fun i21 => ?_
          replace h := h i21
          refine g_eq1 i21 (fun b22 => ?_) (fun b22 => ?_)
          · replace h := h.1 b22
            exact TX4_twice_69 hl3 hj0 h
          · replace h := h.2 b22
            unfold vX4_twice_60
            refine g_ld (v := rf _) rfl (is_R _) ?_
            refine g_ld (v := rf _) rfl (is_R _) ?_
            refine g_callV (As := [_]) (ci := 7) q13 (fun _ => rfl) ?_
            refine g_go1 (Nat.le_of_ble_eq_true rfl) (Tn_w (TX7_sameParams  h) fun _ G23 ⟨r24, e, i25, h⟩ => ?_)
            subst e
            refine ⟨n7_I _, ?_⟩
            replace h := h i25
            refine g_eq1 ⟨by omega, by omega⟩ (fun b26 => ?_) (fun b26 => ?_)
            · replace h := h.1 b26
              exact TX4_twice_80 hl3 hj0 h
            · replace h := h.2 b26
              exact TX4_twice_69 hl3 hj0 h
        · replace h := h.2 b20
          exact TX4_twice_80 hl3 hj0 h
      · replace h := h.2 b17
        exact TX4_twice_80 hl3 hj0 h
  · replace h := h.2 b3
    exact TX4_twice_86 hl3 hl4 hj0 h
def PX4_twice_0 (J : Nat → List Int → gS → (Int → gS → Prop) → Prop) (a1 : Int) (a2 : Int) (G : gS) (Q : Int → gS → Prop) : Prop :=
  PX4_twice_2 J a1 a2 0 G Q
set_option maxRecDepth 20000 in
theorem TX4_twice_0 {j : Nat → rx_K} {J : Nat → List Int → gS → (Int → gS → Prop) → Prop} {a1 : Int} {a2 : Int} {G : gS} {Q : Int → gS → Prop}  (hj0 : ∀ (l1 : Int) (l2 : Int) (l3 : Int) (l4 : Nat) (G : gS), (inI l3) → (l4 % 8 ≠ 1) → J 0 [l1, l2, l3] G Q → Tg W0 (j 0) [rf (814), rf (l1), rf (l2), cI (l3), l4] [] G (fun r G => r = 7 ∧ Q 0 G)) (h : PX4_twice_0 J a1 a2 G Q) : Tg W0 (vX4_twice_0 j) [rf (814), rf (a1), rf (a2), 7, 7] [] G (fun r G => r = 7 ∧ Q 0 G) := by
  unfold PX4_twice_0 at h
  unfold vX4_twice_0
  refine g_const (v := cI (0)) rfl ?_
  refine g_st (lv' := [_, _, _, _, _]) (is_I _) (Nat.le_of_ble_eq_true rfl) (Or.inr (n1_R _)) rfl ?_
  exact TX4_twice_2 ⟨by omega, by omega⟩ (show 7 % 8 ≠ 1 by decide) hj0 h
def PX4_twice_J : Nat → Nat → List Int → gS → (Int → gS → Prop) → Prop
  | 0, _, _, _, _ => False
  | f + 1, h, L, G, Q => match h, L with
    | 0, [l1, l2, l3] => PX4_twice_2 (PX4_twice_J f) l1 l2 l3 G Q
    | _, _ => False
theorem TX4_twice_J {Q : Int → gS → Prop} : ∀ f N : Nat, f ≤ N → (∀ (l1 : Int) (l2 : Int) (l3 : Int) (l4 : Nat) (G : gS), (inI l3) → (l4 % 8 ≠ 1) → (PX4_twice_J f) 0 [l1, l2, l3] G Q → Tg W0 (rx_J vhX4_twice N 0) [rf (814), rf (l1), rf (l2), cI (l3), l4] [] G (fun r G => r = 7 ∧ Q 0 G)) := by
  intro f
  induction f with
  | zero => exact fun N _ => fun _ _ _ _ _ _ _ h => h.elim
  | succ f ih =>
    intro N hN
    obtain ⟨M, rfl⟩ : ∃ M, N = M + 1 := ⟨N - 1, by omega⟩
    have ih := ih M (by omega)
    exact fun _ _ _ _ _ hl3 hl4 h => show Tg W0 (vX4_twice_2 (rx_J vhX4_twice M)) _ _ _ _ from TX4_twice_2 hl3 hl4 ih h
def PX4_twice (a1 : Int) (a2 : Int) (G : gS) (Q : Int → gS → Prop) : Prop := ∃ f : Nat, f ≤ 4000000000 ∧ PX4_twice_0 (PX4_twice_J f) a1 a2 G Q
theorem TX4_twice {a1 : Int} {a2 : Int} {G : gS} {Q : Int → gS → Prop}  (h : PX4_twice a1 a2 G Q) : Tn W0 FX4_twice [rf (814), rf (a1), rf (a2)] G (fun r G => r = 7 ∧ Q 0 G) := by
  obtain ⟨f, hf, h⟩ := h
  have hJ := TX4_twice_J (Q := Q) f 4000000000 hf
  unfold FX4_twice
  refine g_ent (lv' := [rf (814), rf (a1), rf (a2), 7, 7]) (flR (flR (flR fl0))) (Nat.le_of_ble_eq_true rfl) rfl ?_
  exact TX4_twice_0  hJ h
def PX4_isType_51 (l1 : Int) (l3 : Int) (l4 : Int) (s0 : Int) (G : gS) (Q : Int → gS → Prop) : Prop :=
  ((0 ≤ s0 ∧ s0 ≤ 1) ∧ Q (s0) G)
set_option maxRecDepth 20000 in
theorem TX4_isType_51 {l1 : Int} {l2 : Nat} {l3 : Int} {l4 : Int} {s0 : Int} {G : gS} {Q : Int → gS → Prop} (hl1 : inL l1) (hl2 : l2 % 8 ≠ 1) (hl3 : inI l3) (hl4 : inI l4) (hs0 : inI s0) (h : PX4_isType_51 l1 l3 l4 s0 G Q) : Tg W0 vX4_isType_51 [rf (814), cL (l1), l2, cI (l3), cI (l4)] [cI (s0)] G (fun r G => ∃ v, r = cI v ∧ (0 ≤ v ∧ v ≤ 1) ∧ Q v G) := by
  unfold PX4_isType_51 at h
  unfold vX4_isType_51
  obtain ⟨q15, h⟩ := h
  exact g_ret1 (is_Z q15) ⟨_, rfl, q15, h⟩
def PX4_isType_50 (l1 : Int) (l3 : Int) (l4 : Int) (G : gS) (Q : Int → gS → Prop) : Prop :=
  PX4_isType_51 l1 l3 l4 0 G Q
set_option maxRecDepth 20000 in
theorem TX4_isType_50 {l1 : Int} {l2 : Nat} {l3 : Int} {l4 : Int} {G : gS} {Q : Int → gS → Prop} (hl1 : inL l1) (hl2 : l2 % 8 ≠ 1) (hl3 : inI l3) (hl4 : inI l4) (h : PX4_isType_50 l1 l3 l4 G Q) : Tg W0 vX4_isType_50 [rf (814), cL (l1), l2, cI (l3), cI (l4)] [] G (fun r G => ∃ v, r = cI v ∧ (0 ≤ v ∧ v ≤ 1) ∧ Q v G) := by
  unfold PX4_isType_50 at h
  unfold vX4_isType_50
  refine g_const (v := cI (0)) rfl ?_
  exact TX4_isType_51 hl1 hl2 hl3 hl4 ⟨by omega, by omega⟩ h
def PX4_isType_16 (l1 : Int) (l3 : Int) (G : gS) (Q : Int → gS → Prop) : Prop :=
  Q (1) G
set_option maxRecDepth 20000 in
theorem TX4_isType_16 {l1 : Int} {l2 : Nat} {l3 : Int} {l4 : Nat} {G : gS} {Q : Int → gS → Prop} (hl1 : inL l1) (hl2 : l2 % 8 ≠ 1) (hl3 : inI l3) (hl4 : l4 % 8 ≠ 1) (h : PX4_isType_16 l1 l3 G Q) : Tg W0 vX4_isType_16 [rf (814), cL (l1), l2, cI (l3), l4] [] G (fun r G => ∃ v, r = cI v ∧ (0 ≤ v ∧ v ≤ 1) ∧ Q v G) := by
  unfold PX4_isType_16 at h
  unfold vX4_isType_16
  refine g_const (v := cI (1)) rfl ?_
  exact g_ret1 (is_Z (by omega)) ⟨_, rfl, (by omega), h⟩
def PX4_isType_0 (a1 : Int) (a3 : Int) (G : gS) (Q : Int → gS → Prop) : Prop :=
  ((a1 = -1 → PX4_isType_16 a1 a3 G Q) ∧ (¬ (a1 = -1) → ((a1 = -3 → PX4_isType_16 a1 a3 G Q) ∧ (¬ (a1 = -3) → ((G 814 0 = -1 ∨ isO W0 11 (G 814 0)) → (isO W0 11 (G 814 0) ∧ PX11_find (G 814 0) a1 G (fun r6 G5 => inI r6 → ((r6 < 0 → PX4_isType_50 a1 a3 r6 G5 Q) ∧ (¬ (r6 < 0) → ((G5 814 0 = -1 ∨ isO W0 11 (G5 814 0)) → (isO W0 11 (G5 814 0) ∧ PX11_isLet (G5 814 0) r6 a3 G5 (fun r12 G11 => (0 ≤ r12 ∧ r12 ≤ 1) → ((r12 = 0 → PX4_isType_50 a1 a3 r6 G11 Q) ∧ (¬ (r12 = 0) → PX4_isType_51 a1 a3 r6 1 G11 Q))))))))))))))
set_option maxRecDepth 20000 in
theorem TX4_isType_0 {a1 : Int} {a3 : Int} {G : gS} {Q : Int → gS → Prop} (ha1 : inL a1) (ha3 : inI a3) (h : PX4_isType_0 a1 a3 G Q) : Tg W0 vX4_isType_0 [rf (814), cL (a1), 7, cI (a3), 7] [] G (fun r G => ∃ v, r = cI v ∧ (0 ≤ v ∧ v ≤ 1) ∧ Q v G) := by
  unfold PX4_isType_0 at h
  unfold vX4_isType_0
  refine g_ld (v := cL _) rfl (is_L _) ?_
  refine g_const (v := cL (-1)) rfl ?_
  refine g_leq ha1 ⟨by omega, by omega⟩ (fun b1 => ?_) (fun b1 => ?_)
  · replace h := h.1 b1
    exact TX4_isType_16 ha1 (show 7 % 8 ≠ 1 by decide) ha3 (show 7 % 8 ≠ 1 by decide) h
  · replace h := h.2 b1
    unfold vX4_isType_8
    refine g_ld (v := cL _) rfl (is_L _) ?_
    refine g_const (v := cL (-3)) rfl ?_
    refine g_leq ha1 ⟨by omega, by omega⟩ (fun b2 => ?_) (fun b2 => ?_)
    · replace h := h.1 b2
      exact TX4_isType_16 ha1 (show 7 % 8 ≠ 1 by decide) ha3 (show 7 % 8 ≠ 1 by decide) h
    · replace h := h.2 b2
      unfold vX4_isType_18
      refine g_ld (v := rf _) rfl (is_R _) ?_
      refine g_getR (kz := 0) (c := 11) oC4 rfl (Nat.le_of_ble_eq_true rfl) rfl (by decide) fun i3 => ?_
      replace h := h i3
      refine g_ld (v := cL _) rfl (is_L _) ?_
      obtain ⟨q4, h⟩ := h
      refine g_callV (As := [_]) (ci := 11) q4 (fun _ => rfl) ?_
      refine g_go1 (Nat.le_of_ble_eq_true rfl) (Tn_w (TX11_find ha1 h) fun _ G5 ⟨r6, e, i7, h⟩ => ?_)
      subst e
      refine ⟨n7_I _, ?_⟩
      replace h := h i7
      refine g_st (lv' := [_, _, _, _, _]) (is_I _) (Nat.le_of_ble_eq_true rfl) (Or.inr (n1_I _)) rfl ?_
      refine g_ld (v := cI _) rfl (is_I _) ?_
      refine g_lt1 i7 (fun b8 => ?_) (fun b8 => ?_)
      · replace h := h.1 b8
        exact TX4_isType_50 ha1 (show 7 % 8 ≠ 1 by decide) ha3 i7 h
      · replace h := h.2 b8
        unfold vX4_isType_33
        refine g_ld (v := rf _) rfl (is_R _) ?_
        refine g_getR (kz := 0) (c := 11) oC4 rfl (Nat.le_of_ble_eq_true rfl) rfl (by decide) fun i9 => ?_
        replace h := h i9
        refine g_ld (v := cI _) rfl (is_I _) ?_
        refine g_ld (v := cI _) rfl (is_I _) ?_
        obtain ⟨q10, h⟩ := h
        refine g_callV (As := [_, _]) (ci := 11) q10 (fun _ => rfl) ?_
        refine g_go1 (Nat.le_of_ble_eq_true rfl) (Tn_w (TX11_isLet i7 ha3 h) fun _ G11 ⟨r12, e, i13, h⟩ => ?_)
        subst e
        refine ⟨n7_I _, ?_⟩
        replace h := h i13
        refine g_eq1 ⟨by omega, by omega⟩ (fun b14 => ?_) (fun b14 => ?_)
        · replace h := h.1 b14
          exact TX4_isType_50 ha1 (show 7 % 8 ≠ 1 by decide) ha3 i7 h
        · replace h := h.2 b14
          unfold vX4_isType_46
          refine g_const (v := cI (1)) rfl ?_
          exact TX4_isType_51 ha1 (show 7 % 8 ≠ 1 by decide) ha3 i7 ⟨by omega, by omega⟩ h
abbrev PX4_isType (a1 : Int) (a3 : Int) (G : gS) (Q : Int → gS → Prop) : Prop := PX4_isType_0 a1 a3 G Q
theorem TX4_isType {a1 : Int} {a3 : Int} {G : gS} {Q : Int → gS → Prop} (ha1 : inL a1) (ha3 : inI a3) (h : PX4_isType a1 a3 G Q) : Tn W0 FX4_isType [rf (814), cL (a1), cI (a3)] G (fun r G => ∃ v, r = cI v ∧ (0 ≤ v ∧ v ≤ 1) ∧ Q v G) := by
  unfold FX4_isType
  refine g_ent (lv' := [rf (814), cL (a1), 7, cI (a3), 7]) (flR (flL (flI fl0))) (Nat.le_of_ble_eq_true rfl) rfl ?_
  exact TX4_isType_0 ha1 ha3 h
def PX4_types_74 (J : Nat → List Int → gS → (Int → gS → Prop) → Prop) (l1 : Int) (l2 : Int) (l3 : Int) (G : gS) (Q : Int → gS → Prop) : Prop :=
  (inI (l3 + 1) ∧ J 0 [l1, l2, l3 + 1] G Q)
set_option maxRecDepth 20000 in
theorem TX4_types_74 {j : Nat → rx_K} {J : Nat → List Int → gS → (Int → gS → Prop) → Prop} {l1 : Int} {l2 : Int} {l3 : Int} {G : gS} {Q : Int → gS → Prop} (hl2 : inI l2) (hl3 : inI l3) (hj0 : ∀ (l1 : Int) (l2 : Int) (l3 : Int) (G : gS), (inI l2) → (inI l3) → J 0 [l1, l2, l3] G Q → Tg W0 (j 0) [rf (814), rf (l1), cI (l2), cI (l3)] [] G (fun r G => r = 7 ∧ Q 0 G)) (h : PX4_types_74 J l1 l2 l3 G Q) : Tg W0 (vX4_types_74 j) [rf (814), rf (l1), cI (l2), cI (l3)] [] G (fun r G => r = 7 ∧ Q 0 G) := by
  unfold PX4_types_74 at h
  unfold vX4_types_74
  refine g_inc (lv' := [_, _, _, _]) rfl (Nat.le_of_ble_eq_true rfl) (Or.inr (n1_I _)) rfl ?_
  obtain ⟨q29, h⟩ := h
  exact hj0 _ _ _ _ hl2 q29 h
def PX4_types_35 (J : Nat → List Int → gS → (Int → gS → Prop) → Prop) (l1 : Int) (l2 : Int) (l3 : Int) (G : gS) (Q : Int → gS → Prop) : Prop :=
  (isO W0 7 (l1) ∧ (inI (G l1 9) → ((l3 < G l1 9 → ((0 : Int) ≤ l3 ∧ ((l3 : Int) < 4 ∧ (inL (G (l1 + 1) l3) → PX4_isType (G (l1 + 1) l3) l2 G (fun r21 G20 => (0 ≤ r21 ∧ r21 ≤ 1) → ((r21 = 0 → (inI (G20 l1 11) → (inI (((G20 l1 11) + 2) + (3 * l3)) ∧ PX4_fail 7 (((G20 l1 11) + 2) + (3 * l3)) G20 (fun r27 G26 => (0 ≤ r27 ∧ r27 ≤ 1) → PX4_types_74 J l1 l2 l3 G26 Q)))) ∧ (¬ (r21 = 0) → PX4_types_74 J l1 l2 l3 G20 Q))))))) ∧ (¬ (l3 < G l1 9) → Q 0 G))))
set_option maxRecDepth 20000 in
theorem TX4_types_35 {j : Nat → rx_K} {J : Nat → List Int → gS → (Int → gS → Prop) → Prop} {l1 : Int} {l2 : Int} {l3 : Int} {G : gS} {Q : Int → gS → Prop} (hl2 : inI l2) (hl3 : inI l3) (hj0 : ∀ (l1 : Int) (l2 : Int) (l3 : Int) (G : gS), (inI l2) → (inI l3) → J 0 [l1, l2, l3] G Q → Tg W0 (j 0) [rf (814), rf (l1), cI (l2), cI (l3)] [] G (fun r G => r = 7 ∧ Q 0 G)) (h : PX4_types_35 J l1 l2 l3 G Q) : Tg W0 (vX4_types_35 j) [rf (814), rf (l1), cI (l2), cI (l3)] [] G (fun r G => r = 7 ∧ Q 0 G) := by
  unfold PX4_types_35 at h
  unfold vX4_types_35
  refine g_ld (v := cI _) rfl (is_I _) ?_
  refine g_ld (v := rf _) rfl (is_R _) ?_
  obtain ⟨q14, h⟩ := h
  refine g_getI (kz := 9) q14 rfl (Nat.le_of_ble_eq_true rfl) rfl fun i15 => ?_
  replace h := h i15
  refine g_lt2 hl3 i15 (fun b16 => ?_) (fun b16 => ?_)
  · replace h := h.1 b16
    unfold vX4_types_43
    refine g_ld (v := rf _) rfl (is_R _) ?_
    refine g_ld (v := rf _) rfl (is_R _) ?_
    refine g_getF q14 (ff7_10 q14).1 rfl (Nat.le_of_ble_eq_true rfl) (Nat.le_of_ble_eq_true rfl) ?_
    refine g_ld (v := cI _) rfl (is_I _) ?_
    obtain ⟨q17, q18, h⟩ := h
    refine g_aldL (ff7_10 q14).2 q17 q18 rfl fun i19 => ?_
    replace h := h i19
    refine g_ld (v := cI _) rfl (is_I _) ?_
    refine g_callV (As := [_, _]) (ci := 4) oC4 (fun _ => rfl) ?_
    refine g_go1 (Nat.le_of_ble_eq_true rfl) (Tn_w (TX4_isType i19 hl2 h) fun _ G20 ⟨r21, e, i22, h⟩ => ?_)
    subst e
    refine ⟨n7_I _, ?_⟩
    replace h := h i22
    refine g_eq1 ⟨by omega, by omega⟩ (fun b23 => ?_) (fun b23 => ?_)
    · replace h := h.1 b23
      unfold vX4_types_57
      refine g_ld (v := rf _) rfl (is_R _) ?_
      refine g_const (v := cI (7)) rfl ?_
      refine g_ld (v := rf _) rfl (is_R _) ?_
      refine g_getI (kz := 11) q14 rfl (Nat.le_of_ble_eq_true rfl) rfl fun i24 => ?_
      replace h := h i24
      refine g_const (v := cI (2)) rfl ?_
      refine g_add ?_
      refine g_const (v := cI (3)) rfl ?_
      refine g_ld (v := cI _) rfl (is_I _) ?_
      refine g_mul ?_
      refine g_add ?_
      obtain ⟨q25, h⟩ := h
      refine g_callV (As := [_, _]) (ci := 4) oC4 (fun _ => rfl) ?_
      refine g_go1 (Nat.le_of_ble_eq_true rfl) (Tn_w (TX4_fail ⟨by omega, by omega⟩ q25 h) fun _ G26 ⟨r27, e, i28, h⟩ => ?_)
      subst e
      refine ⟨n7_I _, ?_⟩
      replace h := h i28
      refine g_pop (ct_I _) ?_
      exact TX4_types_74 hl2 hl3 hj0 h
    · replace h := h.2 b23
      exact TX4_types_74 hl2 hl3 hj0 h
  · replace h := h.2 b16
    unfold vX4_types_80
    exact g_ret0 ⟨rfl, h⟩
def PX4_types_33 (J : Nat → List Int → gS → (Int → gS → Prop) → Prop) (l1 : Int) (l2 : Int) (G : gS) (Q : Int → gS → Prop) : Prop :=
  PX4_types_35 J l1 l2 0 G Q
set_option maxRecDepth 20000 in
theorem TX4_types_33 {j : Nat → rx_K} {J : Nat → List Int → gS → (Int → gS → Prop) → Prop} {l1 : Int} {l2 : Int} {l3 : Nat} {G : gS} {Q : Int → gS → Prop} (hl2 : inI l2) (hl3 : l3 % 8 ≠ 1) (hj0 : ∀ (l1 : Int) (l2 : Int) (l3 : Int) (G : gS), (inI l2) → (inI l3) → J 0 [l1, l2, l3] G Q → Tg W0 (j 0) [rf (814), rf (l1), cI (l2), cI (l3)] [] G (fun r G => r = 7 ∧ Q 0 G)) (h : PX4_types_33 J l1 l2 G Q) : Tg W0 (vX4_types_33 j) [rf (814), rf (l1), cI (l2), l3] [] G (fun r G => r = 7 ∧ Q 0 G) := by
  unfold PX4_types_33 at h
  unfold vX4_types_33
  refine g_const (v := cI (0)) rfl ?_
  refine g_st (lv' := [_, _, _, _]) (is_I _) (Nat.le_of_ble_eq_true rfl) (Or.inr (n1_I _)) rfl ?_
  exact TX4_types_35 hl2 ⟨by omega, by omega⟩ hj0 h
def PX4_types_0 (J : Nat → List Int → gS → (Int → gS → Prop) → Prop) (a1 : Int) (a2 : Int) (G : gS) (Q : Int → gS → Prop) : Prop :=
  (isO W0 7 (a1) ∧ (inI (G a1 0) → ((G a1 0 = 2 → PX4_types_33 J a1 a2 G Q) ∧ (¬ (G a1 0 = 2) → (inL (G a1 8) → PX4_isType (G a1 8) a2 G (fun r6 G5 => (0 ≤ r6 ∧ r6 ≤ 1) → ((r6 = 0 → (inI (G5 a1 11) → (inI ((G5 a1 11) - 1) ∧ PX4_fail 7 ((G5 a1 11) - 1) G5 (fun r12 G11 => (0 ≤ r12 ∧ r12 ≤ 1) → PX4_types_33 J a1 a2 G11 Q)))) ∧ (¬ (r6 = 0) → PX4_types_33 J a1 a2 G5 Q))))))))
set_option maxRecDepth 20000 in
theorem TX4_types_0 {j : Nat → rx_K} {J : Nat → List Int → gS → (Int → gS → Prop) → Prop} {a1 : Int} {a2 : Int} {G : gS} {Q : Int → gS → Prop} (ha2 : inI a2) (hj0 : ∀ (l1 : Int) (l2 : Int) (l3 : Int) (G : gS), (inI l2) → (inI l3) → J 0 [l1, l2, l3] G Q → Tg W0 (j 0) [rf (814), rf (l1), cI (l2), cI (l3)] [] G (fun r G => r = 7 ∧ Q 0 G)) (h : PX4_types_0 J a1 a2 G Q) : Tg W0 (vX4_types_0 j) [rf (814), rf (a1), cI (a2), 7] [] G (fun r G => r = 7 ∧ Q 0 G) := by
  unfold PX4_types_0 at h
  unfold vX4_types_0
  refine g_ld (v := rf _) rfl (is_R _) ?_
  obtain ⟨q1, h⟩ := h
  refine g_getI (kz := 0) q1 rfl (Nat.le_of_ble_eq_true rfl) rfl fun i2 => ?_
  replace h := h i2
  refine g_const (v := cI (2)) rfl ?_
  refine g_eq2 i2 ⟨by omega, by omega⟩ (fun b3 => ?_) (fun b3 => ?_)
  · replace h := h.1 b3
    exact TX4_types_33 ha2 (show 7 % 8 ≠ 1 by decide) hj0 h
  · replace h := h.2 b3
    unfold vX4_types_8
    refine g_ld (v := rf _) rfl (is_R _) ?_
    refine g_ld (v := rf _) rfl (is_R _) ?_
    refine g_getL (kz := 8) q1 rfl (Nat.le_of_ble_eq_true rfl) rfl fun i4 => ?_
    replace h := h i4
    refine g_ld (v := cI _) rfl (is_I _) ?_
    refine g_callV (As := [_, _]) (ci := 4) oC4 (fun _ => rfl) ?_
    refine g_go1 (Nat.le_of_ble_eq_true rfl) (Tn_w (TX4_isType i4 ha2 h) fun _ G5 ⟨r6, e, i7, h⟩ => ?_)
    subst e
    refine ⟨n7_I _, ?_⟩
    replace h := h i7
    refine g_eq1 ⟨by omega, by omega⟩ (fun b8 => ?_) (fun b8 => ?_)
    · replace h := h.1 b8
      unfold vX4_types_20
      refine g_ld (v := rf _) rfl (is_R _) ?_
      refine g_const (v := cI (7)) rfl ?_
      refine g_ld (v := rf _) rfl (is_R _) ?_
      refine g_getI (kz := 11) q1 rfl (Nat.le_of_ble_eq_true rfl) rfl fun i9 => ?_
      replace h := h i9
      refine g_const (v := cI (1)) rfl ?_
      refine g_sub ?_
      obtain ⟨q10, h⟩ := h
      refine g_callV (As := [_, _]) (ci := 4) oC4 (fun _ => rfl) ?_
      refine g_go1 (Nat.le_of_ble_eq_true rfl) (Tn_w (TX4_fail ⟨by omega, by omega⟩ q10 h) fun _ G11 ⟨r12, e, i13, h⟩ => ?_)
      subst e
      refine ⟨n7_I _, ?_⟩
      replace h := h i13
      refine g_pop (ct_I _) ?_
      exact TX4_types_33 ha2 (show 7 % 8 ≠ 1 by decide) hj0 h
    · replace h := h.2 b8
      exact TX4_types_33 ha2 (show 7 % 8 ≠ 1 by decide) hj0 h
def PX4_types_J : Nat → Nat → List Int → gS → (Int → gS → Prop) → Prop
  | 0, _, _, _, _ => False
  | f + 1, h, L, G, Q => match h, L with
    | 0, [l1, l2, l3] => PX4_types_35 (PX4_types_J f) l1 l2 l3 G Q
    | _, _ => False
theorem TX4_types_J {Q : Int → gS → Prop} : ∀ f N : Nat, f ≤ N → (∀ (l1 : Int) (l2 : Int) (l3 : Int) (G : gS), (inI l2) → (inI l3) → (PX4_types_J f) 0 [l1, l2, l3] G Q → Tg W0 (rx_J vhX4_types N 0) [rf (814), rf (l1), cI (l2), cI (l3)] [] G (fun r G => r = 7 ∧ Q 0 G)) := by
  intro f
  induction f with
  | zero => exact fun N _ => fun _ _ _ _ _ _ h => h.elim
  | succ f ih =>
    intro N hN
    obtain ⟨M, rfl⟩ : ∃ M, N = M + 1 := ⟨N - 1, by omega⟩
    have ih := ih M (by omega)
    exact fun _ _ _ _ hl2 hl3 h => show Tg W0 (vX4_types_35 (rx_J vhX4_types M)) _ _ _ _ from TX4_types_35 hl2 hl3 ih h
def PX4_types (a1 : Int) (a2 : Int) (G : gS) (Q : Int → gS → Prop) : Prop := ∃ f : Nat, f ≤ 4000000000 ∧ PX4_types_0 (PX4_types_J f) a1 a2 G Q
theorem TX4_types {a1 : Int} {a2 : Int} {G : gS} {Q : Int → gS → Prop} (ha2 : inI a2) (h : PX4_types a1 a2 G Q) : Tn W0 FX4_types [rf (814), rf (a1), cI (a2)] G (fun r G => r = 7 ∧ Q 0 G) := by
  obtain ⟨f, hf, h⟩ := h
  have hJ := TX4_types_J (Q := Q) f 4000000000 hf
  unfold FX4_types
  refine g_ent (lv' := [rf (814), rf (a1), cI (a2), 7]) (flR (flR (flI fl0))) (Nat.le_of_ble_eq_true rfl) rfl ?_
  exact TX4_types_0 ha2 hJ h
def PX4_items_106 (J : Nat → List Int → gS → (Int → gS → Prop) → Prop) (l1 : Int) (l2 : Int) (l3 : Int) (G : gS) (Q : Int → gS → Prop) : Prop :=
  Q 0 G
set_option maxRecDepth 20000 in
theorem TX4_items_106 {j : Nat → rx_K} {J : Nat → List Int → gS → (Int → gS → Prop) → Prop} {l1 : Int} {l2 : Int} {l3 : Int} {l4 : Nat} {G : gS} {Q : Int → gS → Prop} (hl2 : inI l2) (hl3 : inI l3) (hl4 : l4 % 8 ≠ 1) (hj0 : ∀ (l1 : Int) (l2 : Int) (l3 : Int) (l4 : Nat) (G : gS), (inI l2) → (inI l3) → (l4 % 8 ≠ 1) → J 0 [l1, l2, l3] G Q → Tg W0 (j 0) [rf (814), rf (l1), cI (l2), cI (l3), l4] [] G (fun r G => r = 7 ∧ Q 0 G)) (h : PX4_items_106 J l1 l2 l3 G Q) : Tg W0 (vX4_items_106 j) [rf (814), rf (l1), cI (l2), cI (l3), l4] [] G (fun r G => r = 7 ∧ Q 0 G) := by
  unfold PX4_items_106 at h
  unfold vX4_items_106
  exact g_ret0 ⟨rfl, h⟩
def PX4_items_100 (J : Nat → List Int → gS → (Int → gS → Prop) → Prop) (l1 : Int) (l2 : Int) (l3 : Int) (l4 : Int) (G : gS) (Q : Int → gS → Prop) : Prop :=
  (inI (l3 + 1) ∧ J 0 [l1, l2, l3 + 1] G Q)
set_option maxRecDepth 20000 in
theorem TX4_items_100 {j : Nat → rx_K} {J : Nat → List Int → gS → (Int → gS → Prop) → Prop} {l1 : Int} {l2 : Int} {l3 : Int} {l4 : Int} {G : gS} {Q : Int → gS → Prop} (hl2 : inI l2) (hl3 : inI l3) (hj0 : ∀ (l1 : Int) (l2 : Int) (l3 : Int) (l4 : Nat) (G : gS), (inI l2) → (inI l3) → (l4 % 8 ≠ 1) → J 0 [l1, l2, l3] G Q → Tg W0 (j 0) [rf (814), rf (l1), cI (l2), cI (l3), l4] [] G (fun r G => r = 7 ∧ Q 0 G)) (h : PX4_items_100 J l1 l2 l3 l4 G Q) : Tg W0 (vX4_items_100 j) [rf (814), rf (l1), cI (l2), cI (l3), rf (l4)] [] G (fun r G => r = 7 ∧ Q 0 G) := by
  unfold PX4_items_100 at h
  unfold vX4_items_100
  refine g_inc (lv' := [_, _, _, _, _]) rfl (Nat.le_of_ble_eq_true rfl) (Or.inr (n1_I _)) rfl ?_
  obtain ⟨q36, h⟩ := h
  exact hj0 _ _ _ _ _ hl2 q36 (n1_R _) h
def PX4_items_77 (J : Nat → List Int → gS → (Int → gS → Prop) → Prop) (l1 : Int) (l2 : Int) (l3 : Int) (l4 : Int) (G : gS) (Q : Int → gS → Prop) : Prop :=
  (isO W0 7 (l4) ∧ (inI (G l4 0) → ((G l4 0 = 3 → PX4_items_100 J l1 l2 l3 l4 G Q) ∧ (¬ (G l4 0 = 3) → PX4_types l4 l2 G (fun _ G32 => PX4_twice l1 l4 G32 (fun _ G34 => PX4_items_100 J l1 l2 l3 l4 G34 Q))))))
set_option maxRecDepth 20000 in
theorem TX4_items_77 {j : Nat → rx_K} {J : Nat → List Int → gS → (Int → gS → Prop) → Prop} {l1 : Int} {l2 : Int} {l3 : Int} {l4 : Int} {G : gS} {Q : Int → gS → Prop} (hl2 : inI l2) (hl3 : inI l3) (hj0 : ∀ (l1 : Int) (l2 : Int) (l3 : Int) (l4 : Nat) (G : gS), (inI l2) → (inI l3) → (l4 % 8 ≠ 1) → J 0 [l1, l2, l3] G Q → Tg W0 (j 0) [rf (814), rf (l1), cI (l2), cI (l3), l4] [] G (fun r G => r = 7 ∧ Q 0 G)) (h : PX4_items_77 J l1 l2 l3 l4 G Q) : Tg W0 (vX4_items_77 j) [rf (814), rf (l1), cI (l2), cI (l3), rf (l4)] [] G (fun r G => r = 7 ∧ Q 0 G) := by
  unfold PX4_items_77 at h
  unfold vX4_items_77
  refine g_ld (v := rf _) rfl (is_R _) ?_
  obtain ⟨q29, h⟩ := h
  refine g_getI (kz := 0) q29 rfl (Nat.le_of_ble_eq_true rfl) rfl fun i30 => ?_
  replace h := h i30
  refine g_const (v := cI (3)) rfl ?_
  refine g_eq2 i30 ⟨by omega, by omega⟩ (fun b31 => ?_) (fun b31 => ?_)
  · replace h := h.1 b31
    exact TX4_items_100 hl2 hl3 hj0 h
  · replace h := h.2 b31
    unfold vX4_items_86
    refine g_ld (v := rf _) rfl (is_R _) ?_
    refine g_ld (v := rf _) rfl (is_R _) ?_
    refine g_ld (v := cI _) rfl (is_I _) ?_
    refine g_callV (As := [_, _]) (ci := 4) oC4 (fun _ => rfl) ?_
    refine g_go0 (Nat.le_of_ble_eq_true rfl) (Tn_w (TX4_types hl2 h) fun _ G32 ⟨e, h⟩ => ⟨e, ?_⟩)
    refine g_ld (v := rf _) rfl (is_R _) ?_
    refine g_ld (v := rf _) rfl (is_R _) ?_
    refine g_ld (v := rf _) rfl (is_R _) ?_
    refine g_callV (As := [_, _]) (ci := 4) oC4 (fun _ => rfl) ?_
    refine g_go0 (Nat.le_of_ble_eq_true rfl) (Tn_w (TX4_twice  h) fun _ G34 ⟨e, h⟩ => ⟨e, ?_⟩)
    exact TX4_items_100 hl2 hl3 hj0 h
def PX4_items_65 (J : Nat → List Int → gS → (Int → gS → Prop) → Prop) (l1 : Int) (l2 : Int) (l3 : Int) (l4 : Int) (G : gS) (Q : Int → gS → Prop) : Prop :=
  (isO W0 10 (l1) ∧ ((0 ≤ G l1 4 ∧ G l1 4 ≤ 1) → ((G l1 4 = 0 → PX4_items_77 J l1 l2 l3 l4 G Q) ∧ (¬ (G l1 4 = 0) → PX4_settleInFace l4 G (fun _ G22 => PX4_items_77 J l1 l2 l3 l4 G22 Q)))))
set_option maxRecDepth 20000 in
theorem TX4_items_65 {j : Nat → rx_K} {J : Nat → List Int → gS → (Int → gS → Prop) → Prop} {l1 : Int} {l2 : Int} {l3 : Int} {l4 : Int} {G : gS} {Q : Int → gS → Prop} (hl2 : inI l2) (hl3 : inI l3) (hj0 : ∀ (l1 : Int) (l2 : Int) (l3 : Int) (l4 : Nat) (G : gS), (inI l2) → (inI l3) → (l4 % 8 ≠ 1) → J 0 [l1, l2, l3] G Q → Tg W0 (j 0) [rf (814), rf (l1), cI (l2), cI (l3), l4] [] G (fun r G => r = 7 ∧ Q 0 G)) (h : PX4_items_65 J l1 l2 l3 l4 G Q) : Tg W0 (vX4_items_65 j) [rf (814), rf (l1), cI (l2), cI (l3), rf (l4)] [] G (fun r G => r = 7 ∧ Q 0 G) := by
  unfold PX4_items_65 at h
  unfold vX4_items_65
  refine g_ld (v := rf _) rfl (is_R _) ?_
  obtain ⟨q19, h⟩ := h
  refine g_getZ (kz := 4) q19 rfl (Nat.le_of_ble_eq_true rfl) rfl fun i20 => ?_
  replace h := h i20
  refine g_eq1 ⟨by omega, by omega⟩ (fun b21 => ?_) (fun b21 => ?_)
  · replace h := h.1 b21
    exact TX4_items_77 hl2 hl3 hj0 h
  · replace h := h.2 b21
    unfold vX4_items_72
    refine g_ld (v := rf _) rfl (is_R _) ?_
    refine g_callS (As := [_]) (fun _ => rfl) ?_
    refine g_go0 (Nat.le_of_ble_eq_true rfl) (Tn_w (TX4_settleInFace  h) fun _ G22 ⟨e, h⟩ => ⟨e, ?_⟩)
    exact TX4_items_77 hl2 hl3 hj0 h
def PX4_items_52 (J : Nat → List Int → gS → (Int → gS → Prop) → Prop) (l1 : Int) (l2 : Int) (l3 : Int) (l4 : Int) (G : gS) (Q : Int → gS → Prop) : Prop :=
  (isO W0 7 (l4) ∧ (inI (G l4 11) → PX4_fail 8 (G l4 11) G (fun r27 G26 => (0 ≤ r27 ∧ r27 ≤ 1) → Q 0 G26)))
set_option maxRecDepth 20000 in
theorem TX4_items_52 {j : Nat → rx_K} {J : Nat → List Int → gS → (Int → gS → Prop) → Prop} {l1 : Int} {l2 : Int} {l3 : Int} {l4 : Int} {G : gS} {Q : Int → gS → Prop} (hl2 : inI l2) (hl3 : inI l3) (hj0 : ∀ (l1 : Int) (l2 : Int) (l3 : Int) (l4 : Nat) (G : gS), (inI l2) → (inI l3) → (l4 % 8 ≠ 1) → J 0 [l1, l2, l3] G Q → Tg W0 (j 0) [rf (814), rf (l1), cI (l2), cI (l3), l4] [] G (fun r G => r = 7 ∧ Q 0 G)) (h : PX4_items_52 J l1 l2 l3 l4 G Q) : Tg W0 (vX4_items_52 j) [rf (814), rf (l1), cI (l2), cI (l3), rf (l4)] [] G (fun r G => r = 7 ∧ Q 0 G) := by
  unfold PX4_items_52 at h
  unfold vX4_items_52
  refine g_ld (v := rf _) rfl (is_R _) ?_
  refine g_const (v := cI (8)) rfl ?_
  refine g_ld (v := rf _) rfl (is_R _) ?_
  obtain ⟨q24, h⟩ := h
  refine g_getI (kz := 11) q24 rfl (Nat.le_of_ble_eq_true rfl) rfl fun i25 => ?_
  replace h := h i25
  refine g_callV (As := [_, _]) (ci := 4) oC4 (fun _ => rfl) ?_
  refine g_go1 (Nat.le_of_ble_eq_true rfl) (Tn_w (TX4_fail ⟨by omega, by omega⟩ i25 h) fun _ G26 ⟨r27, e, i28, h⟩ => ?_)
  subst e
  refine ⟨n7_I _, ?_⟩
  replace h := h i28
  refine g_pop (ct_I _) ?_
  exact g_ret0 ⟨rfl, h⟩
def PX4_items_2 (J : Nat → List Int → gS → (Int → gS → Prop) → Prop) (l1 : Int) (l2 : Int) (l3 : Int) (G : gS) (Q : Int → gS → Prop) : Prop :=
  (isO W0 10 (l1) ∧ (inI (G l1 13) → ((l3 < G l1 13 → (inI (G 814 2) → ((G 814 2 = 0 → ((0 : Int) ≤ l3 ∧ ((l3 : Int) < 20 ∧ (((G (l1 + 3) l3 = -1 ∨ isO W0 7 (G (l1 + 3) l3)) ∧ ∀ v, W0.2 (l1 + 3) l3 = some v → G (l1 + 3) l3 = v) → ((0 ≤ G l1 4 ∧ G l1 4 ≤ 1) → ((G l1 4 = 0 → PX4_oddInClass l1 (G (l1 + 3) l3) G (fun r12 G11 => (0 ≤ r12 ∧ r12 ≤ 1) → ((r12 = 0 → PX4_items_65 J l1 l2 l3 (G (l1 + 3) l3) G11 Q) ∧ (¬ (r12 = 0) → PX4_items_52 J l1 l2 l3 (G (l1 + 3) l3) G11 Q)))) ∧ (¬ (G l1 4 = 0) → PX4_oddInFace (G (l1 + 3) l3) G (fun r16 G15 => (0 ≤ r16 ∧ r16 ≤ 1) → ((r16 = 0 → PX4_items_65 J l1 l2 l3 (G (l1 + 3) l3) G15 Q) ∧ (¬ (r16 = 0) → PX4_items_52 J l1 l2 l3 (G (l1 + 3) l3) G15 Q)))))))))) ∧ (¬ (G 814 2 = 0) → PX4_items_106 J l1 l2 l3 G Q)))) ∧ (¬ (l3 < G l1 13) → PX4_items_106 J l1 l2 l3 G Q))))
set_option maxRecDepth 20000 in
theorem TX4_items_2 {j : Nat → rx_K} {J : Nat → List Int → gS → (Int → gS → Prop) → Prop} {l1 : Int} {l2 : Int} {l3 : Int} {l4 : Nat} {G : gS} {Q : Int → gS → Prop} (hl2 : inI l2) (hl3 : inI l3) (hl4 : l4 % 8 ≠ 1) (hj0 : ∀ (l1 : Int) (l2 : Int) (l3 : Int) (l4 : Nat) (G : gS), (inI l2) → (inI l3) → (l4 % 8 ≠ 1) → J 0 [l1, l2, l3] G Q → Tg W0 (j 0) [rf (814), rf (l1), cI (l2), cI (l3), l4] [] G (fun r G => r = 7 ∧ Q 0 G)) (h : PX4_items_2 J l1 l2 l3 G Q) : Tg W0 (vX4_items_2 j) [rf (814), rf (l1), cI (l2), cI (l3), l4] [] G (fun r G => r = 7 ∧ Q 0 G) := by
  unfold PX4_items_2 at h
  unfold vX4_items_2
  refine g_ld (v := cI _) rfl (is_I _) ?_
  refine g_ld (v := rf _) rfl (is_R _) ?_
  obtain ⟨q1, h⟩ := h
  refine g_getI (kz := 13) q1 rfl (Nat.le_of_ble_eq_true rfl) rfl fun i2 => ?_
  replace h := h i2
  refine g_lt2 hl3 i2 (fun b3 => ?_) (fun b3 => ?_)
  · replace h := h.1 b3
    unfold vX4_items_10
    refine g_ld (v := rf _) rfl (is_R _) ?_
    refine g_getI (kz := 2) oC4 rfl (Nat.le_of_ble_eq_true rfl) rfl fun i4 => ?_
    replace h := h i4
    refine g_eq1 i4 (fun b5 => ?_) (fun b5 => ?_)
    · replace h := h.1 b5
      unfold vX4_items_17
      refine g_ld (v := rf _) rfl (is_R _) ?_
      refine g_getF q1 (ff10_12 q1).1 rfl (Nat.le_of_ble_eq_true rfl) (Nat.le_of_ble_eq_true rfl) ?_
      refine g_ld (v := cI _) rfl (is_I _) ?_
      obtain ⟨q6, q7, h⟩ := h
      refine g_aldRF (c := 7) (ff10_12 q1).2 q6 q7 rfl (by decide) fun i8 => ?_
      replace h := h i8
      refine g_st (lv' := [_, _, _, _, _]) (is_R _) (Nat.le_of_ble_eq_true rfl) (Or.inr (n1_I _)) rfl ?_
      refine g_ld (v := rf _) rfl (is_R _) ?_
      refine g_getZ (kz := 4) q1 rfl (Nat.le_of_ble_eq_true rfl) rfl fun i9 => ?_
      replace h := h i9
      refine g_eq1 ⟨by omega, by omega⟩ (fun b10 => ?_) (fun b10 => ?_)
      · replace h := h.1 b10
        unfold vX4_items_43
        refine g_ld (v := rf _) rfl (is_R _) ?_
        refine g_ld (v := rf _) rfl (is_R _) ?_
        refine g_callS (As := [_, _]) (fun _ => rfl) ?_
        refine g_go1 (Nat.le_of_ble_eq_true rfl) (Tn_w (TX4_oddInClass  h) fun _ G11 ⟨r12, e, i13, h⟩ => ?_)
        subst e
        refine ⟨n7_I _, ?_⟩
        replace h := h i13
        refine g_eq1 ⟨by omega, by omega⟩ (fun b14 => ?_) (fun b14 => ?_)
        · replace h := h.1 b14
          exact TX4_items_65 hl2 hl3 hj0 h
        · replace h := h.2 b14
          exact TX4_items_52 hl2 hl3 hj0 h
      · replace h := h.2 b10
        unfold vX4_items_32
        refine g_ld (v := rf _) rfl (is_R _) ?_
        refine g_callS (As := [_]) (fun _ => rfl) ?_
        refine g_go1 (Nat.le_of_ble_eq_true rfl) (Tn_w (TX4_oddInFace  h) fun _ G15 ⟨r16, e, i17, h⟩ => ?_)
        subst e
        refine ⟨n7_I _, ?_⟩
        replace h := h i17
        refine g_eq1 ⟨by omega, by omega⟩ (fun b18 => ?_) (fun b18 => ?_)
        · replace h := h.1 b18
          exact TX4_items_65 hl2 hl3 hj0 h
        · replace h := h.2 b18
          unfold vX4_items_40
          exact TX4_items_52 hl2 hl3 hj0 h
    · replace h := h.2 b5
      exact TX4_items_106 hl2 hl3 hl4 hj0 h
  · replace h := h.2 b3
    exact TX4_items_106 hl2 hl3 hl4 hj0 h
def PX4_items_0 (J : Nat → List Int → gS → (Int → gS → Prop) → Prop) (a1 : Int) (a2 : Int) (G : gS) (Q : Int → gS → Prop) : Prop :=
  PX4_items_2 J a1 a2 0 G Q
set_option maxRecDepth 20000 in
theorem TX4_items_0 {j : Nat → rx_K} {J : Nat → List Int → gS → (Int → gS → Prop) → Prop} {a1 : Int} {a2 : Int} {G : gS} {Q : Int → gS → Prop} (ha2 : inI a2) (hj0 : ∀ (l1 : Int) (l2 : Int) (l3 : Int) (l4 : Nat) (G : gS), (inI l2) → (inI l3) → (l4 % 8 ≠ 1) → J 0 [l1, l2, l3] G Q → Tg W0 (j 0) [rf (814), rf (l1), cI (l2), cI (l3), l4] [] G (fun r G => r = 7 ∧ Q 0 G)) (h : PX4_items_0 J a1 a2 G Q) : Tg W0 (vX4_items_0 j) [rf (814), rf (a1), cI (a2), 7, 7] [] G (fun r G => r = 7 ∧ Q 0 G) := by
  unfold PX4_items_0 at h
  unfold vX4_items_0
  refine g_const (v := cI (0)) rfl ?_
  refine g_st (lv' := [_, _, _, _, _]) (is_I _) (Nat.le_of_ble_eq_true rfl) (Or.inr (n1_I _)) rfl ?_
  exact TX4_items_2 ha2 ⟨by omega, by omega⟩ (show 7 % 8 ≠ 1 by decide) hj0 h
def PX4_items_J : Nat → Nat → List Int → gS → (Int → gS → Prop) → Prop
  | 0, _, _, _, _ => False
  | f + 1, h, L, G, Q => match h, L with
    | 0, [l1, l2, l3] => PX4_items_2 (PX4_items_J f) l1 l2 l3 G Q
    | _, _ => False
theorem TX4_items_J {Q : Int → gS → Prop} : ∀ f N : Nat, f ≤ N → (∀ (l1 : Int) (l2 : Int) (l3 : Int) (l4 : Nat) (G : gS), (inI l2) → (inI l3) → (l4 % 8 ≠ 1) → (PX4_items_J f) 0 [l1, l2, l3] G Q → Tg W0 (rx_J vhX4_items N 0) [rf (814), rf (l1), cI (l2), cI (l3), l4] [] G (fun r G => r = 7 ∧ Q 0 G)) := by
  intro f
  induction f with
  | zero => exact fun N _ => fun _ _ _ _ _ _ _ _ h => h.elim
  | succ f ih =>
    intro N hN
    obtain ⟨M, rfl⟩ : ∃ M, N = M + 1 := ⟨N - 1, by omega⟩
    have ih := ih M (by omega)
    exact fun _ _ _ _ _ hl2 hl3 hl4 h => show Tg W0 (vX4_items_2 (rx_J vhX4_items M)) _ _ _ _ from TX4_items_2 hl2 hl3 hl4 ih h
def PX4_items (a1 : Int) (a2 : Int) (G : gS) (Q : Int → gS → Prop) : Prop := ∃ f : Nat, f ≤ 4000000000 ∧ PX4_items_0 (PX4_items_J f) a1 a2 G Q
theorem TX4_items {a1 : Int} {a2 : Int} {G : gS} {Q : Int → gS → Prop} (ha2 : inI a2) (h : PX4_items a1 a2 G Q) : Tn W0 FX4_items [rf (814), rf (a1), cI (a2)] G (fun r G => r = 7 ∧ Q 0 G) := by
  obtain ⟨f, hf, h⟩ := h
  have hJ := TX4_items_J (Q := Q) f 4000000000 hf
  unfold FX4_items
  refine g_ent (lv' := [rf (814), rf (a1), cI (a2), 7, 7]) (flR (flR (flI fl0))) (Nat.le_of_ble_eq_true rfl) rfl ?_
  exact TX4_items_0 ha2 hJ h
end DE

section DE
def PX2_compare_328 (J : Nat → List Int → gS → (Int → gS → Prop) → Prop) (l1 : Int) (l2 : Int) (l3 : Int) (l4 : Int) (s0 : Int) (s1 : Int) (G : gS) (Q : Int → gS → Prop) : Prop :=
  (inI (s0 + s1) ∧ (inI (G 934 7) → (inI ((G 934 7) + 1) ∧ (∀ G116 : gS, G116 = uG G 934 7 ((G 934 7) + 1) → J 1 [l1, l2, l3, s0 + s1] G116 Q))))
set_option maxRecDepth 20000 in
theorem TX2_compare_328 {j : Nat → rx_K} {J : Nat → List Int → gS → (Int → gS → Prop) → Prop} {l1 : Int} {l2 : Int} {l3 : Int} {l4 : Int} {l5 : Nat} {l6 : Nat} {s0 : Int} {s1 : Int} {G : gS} {Q : Int → gS → Prop} (hl3 : inI l3) (hl4 : inI l4) (hl5 : l5 % 8 ≠ 1) (hl6 : l6 % 8 ≠ 1) (hs0 : inI s0) (hs1 : inI s1) (hj0 : ∀ (l1 : Int) (l2 : Int) (l3 : Int) (l4 : Int) (l5 : Nat) (l6 : Nat) (G : gS), (inI l3) → (inI l4) → (l5 % 8 ≠ 1) → (l6 % 8 ≠ 1) → J 0 [l1, l2, l3, l4] G Q → Tg W0 (j 0) [rf (934), rf (l1), rf (l2), cI (l3), cI (l4), l5, l6] [] G (fun r G => ∃ v, r = cI v ∧ inI v ∧ Q v G)) (hj1 : ∀ (l1 : Int) (l2 : Int) (l3 : Int) (l4 : Int) (l5 : Nat) (l6 : Nat) (G : gS), (inI l3) → (inI l4) → (l5 % 8 ≠ 1) → (l6 % 8 ≠ 1) → J 1 [l1, l2, l3, l4] G Q → Tg W0 (j 1) [rf (934), rf (l1), rf (l2), cI (l3), cI (l4), l5, l6] [] G (fun r G => ∃ v, r = cI v ∧ inI v ∧ Q v G)) (h : PX2_compare_328 J l1 l2 l3 l4 s0 s1 G Q) : Tg W0 (vX2_compare_328 j) [rf (934), rf (l1), rf (l2), cI (l3), cI (l4), l5, l6] [cI (s1), cI (s0)] G (fun r G => ∃ v, r = cI v ∧ inI v ∧ Q v G) := by
  unfold PX2_compare_328 at h
  unfold vX2_compare_328
  refine g_add ?_
  refine g_st (lv' := [_, _, _, _, _, _, _]) (is_I _) (Nat.le_of_ble_eq_true rfl) (Or.inr (n1_I _)) rfl ?_
  obtain ⟨q113, h⟩ := h
  refine g_ld (v := rf _) rfl (is_R _) ?_
  refine g_dup (ct_R _) ?_
  refine g_getI (kz := 7) oC2 rfl (Nat.le_of_ble_eq_true rfl) rfl fun i114 => ?_
  replace h := h i114
  refine g_const (v := cI (1)) rfl ?_
  refine g_add ?_
  obtain ⟨q115, h⟩ := h
  refine g_putI (kz := 7) oC2 rfl (Nat.le_of_ble_eq_true rfl) rfl q115 (zfin_no (c := 934) (j := 7) rfl) ?_
  replace h := h _ rfl
  exact hj1 _ _ _ _ _ _ _ hl3 q113 hl5 hl6 h
def PX2_compare_273 (J : Nat → List Int → gS → (Int → gS → Prop) → Prop) (l1 : Int) (l2 : Int) (l3 : Int) (l4 : Int) (G : gS) (Q : Int → gS → Prop) : Prop :=
  (inI (G 934 7) → ((G 934 1 = -1 ∨ isO W0 1 (G 934 1)) → (isO W0 1 (G 934 1) ∧ (inI (G (G 934 1) 3) → ((G 934 7 < G (G 934 1) 3 → ((G 934 0 = -1 ∨ isO W0 1 (G 934 0)) → ((G 934 1 = -1 ∨ isO W0 1 (G 934 1)) → (isO W0 1 (G 934 1) ∧ (((G (G 934 1) 2 = -1 ∨ ∃ n, isA W0 4 n (G (G 934 1) 2)) ∧ ∀ v, W0.2 (G 934 1) 2 = some v → G (G 934 1) 2 = v) → (inI (G 934 7) → (∃ n94, isA W0 4 n94 (G (G 934 1) 2) ∧ ((0 : Int) ≤ G 934 7 ∧ ((G 934 7 : Int) < n94 ∧ (((G (G (G 934 1) 2) (G 934 7) = -1 ∨ isO W0 10 (G (G (G 934 1) 2) (G 934 7))) ∧ ∀ v, W0.2 (G (G 934 1) 2) (G 934 7) = some v → G (G (G 934 1) 2) (G 934 7) = v) → (isO W0 10 (G (G (G 934 1) 2) (G 934 7)) ∧ (inL (G (G (G (G 934 1) 2) (G 934 7)) 1) → (isO W0 1 (G 934 0) ∧ PX1_named (G 934 0) (G (G (G (G 934 1) 2) (G 934 7)) 1) G (fun r103 G102 => ((r103 < 0 → PX2_note 70 (-2) (-2) G102 (fun r107 G106 => inI r107 → PX2_compare_328 J l1 l2 l3 l4 l4 r107 G106 Q)) ∧ (0 ≤ r103 → PX2_compare_328 J l1 l2 l3 l4 l4 0 G102 Q)))))))))))))))) ∧ (¬ (G 934 7 < G (G 934 1) 3) → Q (l4) G))))))
set_option maxRecDepth 20000 in
theorem TX2_compare_273 {j : Nat → rx_K} {J : Nat → List Int → gS → (Int → gS → Prop) → Prop} {l1 : Int} {l2 : Int} {l3 : Int} {l4 : Int} {l5 : Nat} {l6 : Nat} {G : gS} {Q : Int → gS → Prop} (hl3 : inI l3) (hl4 : inI l4) (hl5 : l5 % 8 ≠ 1) (hl6 : l6 % 8 ≠ 1) (hj0 : ∀ (l1 : Int) (l2 : Int) (l3 : Int) (l4 : Int) (l5 : Nat) (l6 : Nat) (G : gS), (inI l3) → (inI l4) → (l5 % 8 ≠ 1) → (l6 % 8 ≠ 1) → J 0 [l1, l2, l3, l4] G Q → Tg W0 (j 0) [rf (934), rf (l1), rf (l2), cI (l3), cI (l4), l5, l6] [] G (fun r G => ∃ v, r = cI v ∧ inI v ∧ Q v G)) (hj1 : ∀ (l1 : Int) (l2 : Int) (l3 : Int) (l4 : Int) (l5 : Nat) (l6 : Nat) (G : gS), (inI l3) → (inI l4) → (l5 % 8 ≠ 1) → (l6 % 8 ≠ 1) → J 1 [l1, l2, l3, l4] G Q → Tg W0 (j 1) [rf (934), rf (l1), rf (l2), cI (l3), cI (l4), l5, l6] [] G (fun r G => ∃ v, r = cI v ∧ inI v ∧ Q v G)) (h : PX2_compare_273 J l1 l2 l3 l4 G Q) : Tg W0 (vX2_compare_273 j) [rf (934), rf (l1), rf (l2), cI (l3), cI (l4), l5, l6] [] G (fun r G => ∃ v, r = cI v ∧ inI v ∧ Q v G) := by
  unfold PX2_compare_273 at h
  unfold vX2_compare_273
  refine g_ld (v := rf _) rfl (is_R _) ?_
  refine g_getI (kz := 7) oC2 rfl (Nat.le_of_ble_eq_true rfl) rfl fun i84 => ?_
  replace h := h i84
  refine g_ld (v := rf _) rfl (is_R _) ?_
  refine g_getR (kz := 1) (c := 1) oC2 rfl (Nat.le_of_ble_eq_true rfl) rfl (by decide) fun i85 => ?_
  replace h := h i85
  obtain ⟨q86, h⟩ := h
  refine g_getI (kz := 3) q86 rfl (Nat.le_of_ble_eq_true rfl) rfl fun i87 => ?_
  replace h := h i87
  refine g_lt2 i84 i87 (fun b88 => ?_) (fun b88 => ?_)
  · replace h := h.1 b88
    unfold vX2_compare_287
    refine g_ld (v := cI _) rfl (is_I _) ?_
    refine g_ld (v := rf _) rfl (is_R _) ?_
    refine g_getR (kz := 0) (c := 1) oC2 rfl (Nat.le_of_ble_eq_true rfl) rfl (by decide) fun i89 => ?_
    replace h := h i89
    refine g_ld (v := rf _) rfl (is_R _) ?_
    refine g_getR (kz := 1) (c := 1) oC2 rfl (Nat.le_of_ble_eq_true rfl) rfl (by decide) fun i90 => ?_
    replace h := h i90
    obtain ⟨q91, h⟩ := h
    refine g_getAF (kz := 2) (c := 4) q91 rfl (Nat.le_of_ble_eq_true rfl) rfl fun i92 => ?_
    replace h := h i92
    refine g_ld (v := rf _) rfl (is_R _) ?_
    refine g_getI (kz := 7) oC2 rfl (Nat.le_of_ble_eq_true rfl) rfl fun i93 => ?_
    replace h := h i93
    obtain ⟨n94, q95, h⟩ := h
    obtain ⟨q96, q97, h⟩ := h
    refine g_aldRF (c := 10) q95 q96 q97 rfl (by decide) fun i98 => ?_
    replace h := h i98
    obtain ⟨q99, h⟩ := h
    refine g_getL (kz := 1) q99 rfl (Nat.le_of_ble_eq_true rfl) rfl fun i100 => ?_
    replace h := h i100
    obtain ⟨q101, h⟩ := h
    refine g_callV (As := [_]) (ci := 1) q101 (fun _ => rfl) ?_
    refine g_go1 (by simp only [cs_c, cs_0, ct_I, ct_L, ct_R]; exact Nat.le_of_ble_eq_true rfl) (Tn_w (TX1_named i100 h) fun _ G102 ⟨r103, e, h⟩ => ?_)
    subst e
    refine ⟨n7_R _, ?_⟩
    refine g_nul (fun b105 => ?_) (fun b105 => ?_)
    · replace h := h.1 b105
      unfold vX2_compare_314
      refine g_ld (v := rf _) rfl (is_R _) ?_
      refine g_const (v := cI (70)) rfl ?_
      refine g_const (v := cI (-2)) rfl ?_
      refine g_const (v := cI (-2)) rfl ?_
      refine g_callV (As := [_, _, _]) (ci := 2) oC2 (fun _ => rfl) ?_
      refine g_go1 (by simp only [cs_c, cs_0, ct_I, ct_L, ct_R]; exact Nat.le_of_ble_eq_true rfl) (Tn_w (TX2_note ⟨by omega, by omega⟩ ⟨by omega, by omega⟩ ⟨by omega, by omega⟩ h) fun _ G106 ⟨r107, e, i108, h⟩ => ?_)
      subst e
      refine ⟨n7_I _, ?_⟩
      replace h := h i108
      exact TX2_compare_328 hl3 hl4 hl5 hl6 hl4 i108 hj0 hj1 h
    · replace h := h.2 b105
      unfold vX2_compare_327
      refine g_const (v := cI (0)) rfl ?_
      exact TX2_compare_328 hl3 hl4 hl5 hl6 hl4 ⟨by omega, by omega⟩ hj0 hj1 h
  · replace h := h.2 b88
    unfold vX2_compare_344
    refine g_ld (v := cI _) rfl (is_I _) ?_
    exact g_ret1 (is_I _) ⟨_, rfl, hl4, h⟩
def PX2_compare_249 (J : Nat → List Int → gS → (Int → gS → Prop) → Prop) (l1 : Int) (l2 : Int) (l3 : Int) (l4 : Int) (l5 : Int) (l6 : Int) (G : gS) (Q : Int → gS → Prop) : Prop :=
  (inI (G 934 6) → (inI ((G 934 6) + 1) ∧ (∀ G111 : gS, G111 = uG G 934 6 ((G 934 6) + 1) → J 0 [l1, l2, l3, l4] G111 Q)))
set_option maxRecDepth 20000 in
theorem TX2_compare_249 {j : Nat → rx_K} {J : Nat → List Int → gS → (Int → gS → Prop) → Prop} {l1 : Int} {l2 : Int} {l3 : Int} {l4 : Int} {l5 : Int} {l6 : Int} {G : gS} {Q : Int → gS → Prop} (hl3 : inI l3) (hl4 : inI l4) (hj0 : ∀ (l1 : Int) (l2 : Int) (l3 : Int) (l4 : Int) (l5 : Nat) (l6 : Nat) (G : gS), (inI l3) → (inI l4) → (l5 % 8 ≠ 1) → (l6 % 8 ≠ 1) → J 0 [l1, l2, l3, l4] G Q → Tg W0 (j 0) [rf (934), rf (l1), rf (l2), cI (l3), cI (l4), l5, l6] [] G (fun r G => ∃ v, r = cI v ∧ inI v ∧ Q v G)) (hj1 : ∀ (l1 : Int) (l2 : Int) (l3 : Int) (l4 : Int) (l5 : Nat) (l6 : Nat) (G : gS), (inI l3) → (inI l4) → (l5 % 8 ≠ 1) → (l6 % 8 ≠ 1) → J 1 [l1, l2, l3, l4] G Q → Tg W0 (j 1) [rf (934), rf (l1), rf (l2), cI (l3), cI (l4), l5, l6] [] G (fun r G => ∃ v, r = cI v ∧ inI v ∧ Q v G)) (h : PX2_compare_249 J l1 l2 l3 l4 l5 l6 G Q) : Tg W0 (vX2_compare_249 j) [rf (934), rf (l1), rf (l2), cI (l3), cI (l4), rf (l5), rf (l6)] [] G (fun r G => ∃ v, r = cI v ∧ inI v ∧ Q v G) := by
  unfold PX2_compare_249 at h
  unfold vX2_compare_249
  refine g_ld (v := rf _) rfl (is_R _) ?_
  refine g_dup (ct_R _) ?_
  refine g_getI (kz := 6) oC2 rfl (Nat.le_of_ble_eq_true rfl) rfl fun i109 => ?_
  replace h := h i109
  refine g_const (v := cI (1)) rfl ?_
  refine g_add ?_
  obtain ⟨q110, h⟩ := h
  refine g_putI (kz := 6) oC2 rfl (Nat.le_of_ble_eq_true rfl) rfl q110 (zfin_no (c := 934) (j := 6) rfl) ?_
  replace h := h _ rfl
  exact hj0 _ _ _ _ _ _ _ hl3 hl4 (n1_R _) (n1_R _) h
def PX2_compare_246 (J : Nat → List Int → gS → (Int → gS → Prop) → Prop) (l1 : Int) (l2 : Int) (l3 : Int) (l4 : Int) (l5 : Int) (l6 : Int) (s0 : Int) (s1 : Int) (G : gS) (Q : Int → gS → Prop) : Prop :=
  (inI (s0 + s1) ∧ PX2_compare_249 J l1 l2 l3 (s0 + s1) l5 l6 G Q)
set_option maxRecDepth 20000 in
theorem TX2_compare_246 {j : Nat → rx_K} {J : Nat → List Int → gS → (Int → gS → Prop) → Prop} {l1 : Int} {l2 : Int} {l3 : Int} {l4 : Int} {l5 : Int} {l6 : Int} {s0 : Int} {s1 : Int} {G : gS} {Q : Int → gS → Prop} (hl3 : inI l3) (hl4 : inI l4) (hs0 : inI s0) (hs1 : inI s1) (hj0 : ∀ (l1 : Int) (l2 : Int) (l3 : Int) (l4 : Int) (l5 : Nat) (l6 : Nat) (G : gS), (inI l3) → (inI l4) → (l5 % 8 ≠ 1) → (l6 % 8 ≠ 1) → J 0 [l1, l2, l3, l4] G Q → Tg W0 (j 0) [rf (934), rf (l1), rf (l2), cI (l3), cI (l4), l5, l6] [] G (fun r G => ∃ v, r = cI v ∧ inI v ∧ Q v G)) (hj1 : ∀ (l1 : Int) (l2 : Int) (l3 : Int) (l4 : Int) (l5 : Nat) (l6 : Nat) (G : gS), (inI l3) → (inI l4) → (l5 % 8 ≠ 1) → (l6 % 8 ≠ 1) → J 1 [l1, l2, l3, l4] G Q → Tg W0 (j 1) [rf (934), rf (l1), rf (l2), cI (l3), cI (l4), l5, l6] [] G (fun r G => ∃ v, r = cI v ∧ inI v ∧ Q v G)) (h : PX2_compare_246 J l1 l2 l3 l4 l5 l6 s0 s1 G Q) : Tg W0 (vX2_compare_246 j) [rf (934), rf (l1), rf (l2), cI (l3), cI (l4), rf (l5), rf (l6)] [cI (s1), cI (s0)] G (fun r G => ∃ v, r = cI v ∧ inI v ∧ Q v G) := by
  unfold PX2_compare_246 at h
  unfold vX2_compare_246
  refine g_add ?_
  refine g_st (lv' := [_, _, _, _, _, _, _]) (is_I _) (Nat.le_of_ble_eq_true rfl) (Or.inr (n1_I _)) rfl ?_
  obtain ⟨q112, h⟩ := h
  exact TX2_compare_249 hl3 q112 hj0 hj1 h
def PX2_compare_106 (J : Nat → List Int → gS → (Int → gS → Prop) → Prop) (l1 : Int) (l2 : Int) (l3 : Int) (l4 : Int) (l5 : Int) (l6 : Int) (s0 : Int) (s1 : Int) (G : gS) (Q : Int → gS → Prop) : Prop :=
  (isO W0 2 (s0) ∧ (∀ G43 : gS, G43 = uG G s0 7 (s1) → ((l6 < 0 → PX2_note 1 (-2) (-2) G43 (fun r46 G45 => inI r46 → (inI (l4 + r46) ∧ PX2_compare_249 J l1 l2 l3 (l4 + r46) l5 l6 G45 Q))) ∧ (0 ≤ l6 → (isO W0 10 (l5) ∧ ((0 ≤ G43 l5 4 ∧ G43 l5 4 ≤ 1) → (isO W0 10 (l6) ∧ ((0 ≤ G43 l6 4 ∧ G43 l6 4 ≤ 1) → ((G43 l5 4 = G43 l6 4 → PX2_heads l5 l6 G43 (fun r55 G54 => inI r55 → PX2_faces l5 l6 G54 (fun r58 G57 => inI r58 → PX2_only l5 l6 G57 (fun r61 G60 => inI r61 → PX2_fields l5 l6 G60 (fun r64 G63 => inI r64 → PX2_methods l5 l6 G63 (fun r67 G66 => inI r67 → PX2_makers l5 l6 G66 (fun r70 G69 => inI r70 → (inI (l4 + (((((r55 + r58) + r61) + r64) + r67) + r70)) ∧ PX2_sameStarts l5 l6 G69 (fun r74 G73 => (0 ≤ r74 ∧ r74 ≤ 1) → ((r74 = 0 → PX2_note 60 (-2) (-2) G73 (fun r78 G77 => inI r78 → PX2_compare_246 J l1 l2 l3 (l4 + (((((r55 + r58) + r61) + r64) + r67) + r70)) l5 l6 (l4 + (((((r55 + r58) + r61) + r64) + r67) + r70)) r78 G77 Q)) ∧ (¬ (r74 = 0) → PX2_compare_246 J l1 l2 l3 (l4 + (((((r55 + r58) + r61) + r64) + r67) + r70)) l5 l6 (l4 + (((((r55 + r58) + r61) + r64) + r67) + r70)) 0 G73 Q))))))))))) ∧ (¬ (G43 l5 4 = G43 l6 4) → PX2_note 2 (-2) (-2) G43 (fun r81 G80 => inI r81 → (inI (l4 + r81) ∧ PX2_compare_249 J l1 l2 l3 (l4 + r81) l5 l6 G80 Q))))))))))))
set_option maxRecDepth 20000 in
theorem TX2_compare_106 {j : Nat → rx_K} {J : Nat → List Int → gS → (Int → gS → Prop) → Prop} {l1 : Int} {l2 : Int} {l3 : Int} {l4 : Int} {l5 : Int} {l6 : Int} {s0 : Int} {s1 : Int} {G : gS} {Q : Int → gS → Prop} (hl3 : inI l3) (hl4 : inI l4) (hs1 : inI s1) (hj0 : ∀ (l1 : Int) (l2 : Int) (l3 : Int) (l4 : Int) (l5 : Nat) (l6 : Nat) (G : gS), (inI l3) → (inI l4) → (l5 % 8 ≠ 1) → (l6 % 8 ≠ 1) → J 0 [l1, l2, l3, l4] G Q → Tg W0 (j 0) [rf (934), rf (l1), rf (l2), cI (l3), cI (l4), l5, l6] [] G (fun r G => ∃ v, r = cI v ∧ inI v ∧ Q v G)) (hj1 : ∀ (l1 : Int) (l2 : Int) (l3 : Int) (l4 : Int) (l5 : Nat) (l6 : Nat) (G : gS), (inI l3) → (inI l4) → (l5 % 8 ≠ 1) → (l6 % 8 ≠ 1) → J 1 [l1, l2, l3, l4] G Q → Tg W0 (j 1) [rf (934), rf (l1), rf (l2), cI (l3), cI (l4), l5, l6] [] G (fun r G => ∃ v, r = cI v ∧ inI v ∧ Q v G)) (h : PX2_compare_106 J l1 l2 l3 l4 l5 l6 s0 s1 G Q) : Tg W0 (vX2_compare_106 j) [rf (934), rf (l1), rf (l2), cI (l3), cI (l4), rf (l5), rf (l6)] [cI (s1), rf (s0)] G (fun r G => ∃ v, r = cI v ∧ inI v ∧ Q v G) := by
  unfold PX2_compare_106 at h
  unfold vX2_compare_106
  obtain ⟨q42, h⟩ := h
  refine g_putI (kz := 7) q42 rfl (Nat.le_of_ble_eq_true rfl) rfl hs1 (by rw [one2 q42]; exact zfin_no (c := 934) (j := 7) rfl) ?_
  replace h := h _ rfl
  refine g_ld (v := rf _) rfl (is_R _) ?_
  refine g_nul (fun b44 => ?_) (fun b44 => ?_)
  · replace h := h.1 b44
    unfold vX2_compare_114
    refine g_ld (v := cI _) rfl (is_I _) ?_
    refine g_ld (v := rf _) rfl (is_R _) ?_
    refine g_const (v := cI (1)) rfl ?_
    refine g_const (v := cI (-2)) rfl ?_
    refine g_const (v := cI (-2)) rfl ?_
    refine g_callV (As := [_, _, _]) (ci := 2) oC2 (fun _ => rfl) ?_
    refine g_go1 (by simp only [cs_c, cs_0, ct_I, ct_L, ct_R]; exact Nat.le_of_ble_eq_true rfl) (Tn_w (TX2_note ⟨by omega, by omega⟩ ⟨by omega, by omega⟩ ⟨by omega, by omega⟩ h) fun _ G45 ⟨r46, e, i47, h⟩ => ?_)
    subst e
    refine ⟨n7_I _, ?_⟩
    replace h := h i47
    refine g_add ?_
    refine g_st (lv' := [_, _, _, _, _, _, _]) (is_I _) (Nat.le_of_ble_eq_true rfl) (Or.inr (n1_I _)) rfl ?_
    obtain ⟨q48, h⟩ := h
    exact TX2_compare_249 hl3 q48 hj0 hj1 h
  · replace h := h.2 b44
    unfold vX2_compare_131
    refine g_ld (v := rf _) rfl (is_R _) ?_
    obtain ⟨q49, h⟩ := h
    refine g_getZ (kz := 4) q49 rfl (Nat.le_of_ble_eq_true rfl) rfl fun i50 => ?_
    replace h := h i50
    refine g_ld (v := rf _) rfl (is_R _) ?_
    obtain ⟨q51, h⟩ := h
    refine g_getZ (kz := 4) q51 rfl (Nat.le_of_ble_eq_true rfl) rfl fun i52 => ?_
    replace h := h i52
    refine g_eq2 ⟨by omega, by omega⟩ ⟨by omega, by omega⟩ (fun b53 => ?_) (fun b53 => ?_)
    · replace h := h.1 b53
      unfold vX2_compare_161
      refine g_ld (v := cI _) rfl (is_I _) ?_
      refine g_ld (v := rf _) rfl (is_R _) ?_
      refine g_ld (v := rf _) rfl (is_R _) ?_
      refine g_ld (v := rf _) rfl (is_R _) ?_
      refine g_callV (As := [_, _]) (ci := 2) oC2 (fun _ => rfl) ?_
      refine g_go1 (by simp only [cs_c, cs_0, ct_I, ct_L, ct_R]; exact Nat.le_of_ble_eq_true rfl) (Tn_w (TX2_heads  h) fun _ G54 ⟨r55, e, i56, h⟩ => ?_)
      subst e
      refine ⟨n7_I _, ?_⟩
      replace h := h i56
      refine g_ld (v := rf _) rfl (is_R _) ?_
      refine g_ld (v := rf _) rfl (is_R _) ?_
      refine g_ld (v := rf _) rfl (is_R _) ?_
      refine g_callV (As := [_, _]) (ci := 2) oC2 (fun _ => rfl) ?_
      refine g_go1 (by simp only [cs_c, cs_0, ct_I, ct_L, ct_R]; exact Nat.le_of_ble_eq_true rfl) (Tn_w (TX2_faces  h) fun _ G57 ⟨r58, e, i59, h⟩ => ?_)
      subst e
      refine ⟨n7_I _, ?_⟩
      replace h := h i59
      refine g_add ?_
      refine g_ld (v := rf _) rfl (is_R _) ?_
      refine g_ld (v := rf _) rfl (is_R _) ?_
      refine g_ld (v := rf _) rfl (is_R _) ?_
      refine g_callV (As := [_, _]) (ci := 2) oC2 (fun _ => rfl) ?_
      refine g_go1 (by simp only [cs_c, cs_0, ct_I, ct_L, ct_R]; exact Nat.le_of_ble_eq_true rfl) (Tn_w (TX2_only  h) fun _ G60 ⟨r61, e, i62, h⟩ => ?_)
      subst e
      refine ⟨n7_I _, ?_⟩
      replace h := h i62
      refine g_add ?_
      refine g_ld (v := rf _) rfl (is_R _) ?_
      refine g_ld (v := rf _) rfl (is_R _) ?_
      refine g_ld (v := rf _) rfl (is_R _) ?_
      refine g_callV (As := [_, _]) (ci := 2) oC2 (fun _ => rfl) ?_
      refine g_go1 (by simp only [cs_c, cs_0, ct_I, ct_L, ct_R]; exact Nat.le_of_ble_eq_true rfl) (Tn_w (TX2_fields  h) fun _ G63 ⟨r64, e, i65, h⟩ => ?_)
      subst e
      refine ⟨n7_I _, ?_⟩
      replace h := h i65
      refine g_add ?_
      refine g_ld (v := rf _) rfl (is_R _) ?_
      refine g_ld (v := rf _) rfl (is_R _) ?_
      refine g_ld (v := rf _) rfl (is_R _) ?_
      refine g_callV (As := [_, _]) (ci := 2) oC2 (fun _ => rfl) ?_
      refine g_go1 (by simp only [cs_c, cs_0, ct_I, ct_L, ct_R]; exact Nat.le_of_ble_eq_true rfl) (Tn_w (TX2_methods  h) fun _ G66 ⟨r67, e, i68, h⟩ => ?_)
      subst e
      refine ⟨n7_I _, ?_⟩
      replace h := h i68
      unfold vX2_compare_206
      refine g_add ?_
      refine g_ld (v := rf _) rfl (is_R _) ?_
      refine g_ld (v := rf _) rfl (is_R _) ?_
      refine g_ld (v := rf _) rfl (is_R _) ?_
      refine g_callV (As := [_, _]) (ci := 2) oC2 (fun _ => rfl) ?_
      refine g_go1 (by simp only [cs_c, cs_0, ct_I, ct_L, ct_R]; exact Nat.le_of_ble_eq_true rfl) (Tn_w (TX2_makers  h) fun _ G69 ⟨r70, e, i71, h⟩ => ?_)
      subst e
      refine ⟨n7_I _, ?_⟩
      replace h := h i71
      refine g_add ?_
      refine g_add ?_
      refine g_st (lv' := [_, _, _, _, _, _, _]) (is_I _) (Nat.le_of_ble_eq_true rfl) (Or.inr (n1_I _)) rfl ?_
      obtain ⟨q72, h⟩ := h
      refine g_ld (v := cI _) rfl (is_I _) ?_
      refine g_ld (v := rf _) rfl (is_R _) ?_
      refine g_ld (v := rf _) rfl (is_R _) ?_
      refine g_ld (v := rf _) rfl (is_R _) ?_
      refine g_callV (As := [_, _]) (ci := 2) oC2 (fun _ => rfl) ?_
      refine g_go1 (by simp only [cs_c, cs_0, ct_I, ct_L, ct_R]; exact Nat.le_of_ble_eq_true rfl) (Tn_w (TX2_sameStarts  h) fun _ G73 ⟨r74, e, i75, h⟩ => ?_)
      subst e
      refine ⟨n7_I _, ?_⟩
      replace h := h i75
      refine g_eq1 ⟨by omega, by omega⟩ (fun b76 => ?_) (fun b76 => ?_)
      · replace h := h.1 b76
        unfold vX2_compare_236
        refine g_ld (v := rf _) rfl (is_R _) ?_
        refine g_const (v := cI (60)) rfl ?_
        refine g_const (v := cI (-2)) rfl ?_
        refine g_const (v := cI (-2)) rfl ?_
        refine g_callV (As := [_, _, _]) (ci := 2) oC2 (fun _ => rfl) ?_
        refine g_go1 (by simp only [cs_c, cs_0, ct_I, ct_L, ct_R]; exact Nat.le_of_ble_eq_true rfl) (Tn_w (TX2_note ⟨by omega, by omega⟩ ⟨by omega, by omega⟩ ⟨by omega, by omega⟩ h) fun _ G77 ⟨r78, e, i79, h⟩ => ?_)
        subst e
        refine ⟨n7_I _, ?_⟩
        replace h := h i79
        exact TX2_compare_246 hl3 q72 q72 i79 hj0 hj1 h
      · replace h := h.2 b76
        unfold vX2_compare_232
        refine g_const (v := cI (0)) rfl ?_
        exact TX2_compare_246 hl3 q72 q72 ⟨by omega, by omega⟩ hj0 hj1 h
    · replace h := h.2 b53
      unfold vX2_compare_144
      refine g_ld (v := cI _) rfl (is_I _) ?_
      refine g_ld (v := rf _) rfl (is_R _) ?_
      refine g_const (v := cI (2)) rfl ?_
      refine g_const (v := cI (-2)) rfl ?_
      refine g_const (v := cI (-2)) rfl ?_
      refine g_callV (As := [_, _, _]) (ci := 2) oC2 (fun _ => rfl) ?_
      refine g_go1 (by simp only [cs_c, cs_0, ct_I, ct_L, ct_R]; exact Nat.le_of_ble_eq_true rfl) (Tn_w (TX2_note ⟨by omega, by omega⟩ ⟨by omega, by omega⟩ ⟨by omega, by omega⟩ h) fun _ G80 ⟨r81, e, i82, h⟩ => ?_)
      subst e
      refine ⟨n7_I _, ?_⟩
      replace h := h i82
      refine g_add ?_
      refine g_st (lv' := [_, _, _, _, _, _, _]) (is_I _) (Nat.le_of_ble_eq_true rfl) (Or.inr (n1_I _)) rfl ?_
      obtain ⟨q83, h⟩ := h
      exact TX2_compare_249 hl3 q83 hj0 hj1 h
def PX2_compare_44 (J : Nat → List Int → gS → (Int → gS → Prop) → Prop) (l1 : Int) (l2 : Int) (l3 : Int) (l4 : Int) (G : gS) (Q : Int → gS → Prop) : Prop :=
  (inI (G 934 6) → ((G 934 0 = -1 ∨ isO W0 1 (G 934 0)) → (isO W0 1 (G 934 0) ∧ (inI (G (G 934 0) 3) → ((G 934 6 < G (G 934 0) 3 → ((G 934 0 = -1 ∨ isO W0 1 (G 934 0)) → (isO W0 1 (G 934 0) ∧ (((G (G 934 0) 2 = -1 ∨ ∃ n, isA W0 4 n (G (G 934 0) 2)) ∧ ∀ v, W0.2 (G 934 0) 2 = some v → G (G 934 0) 2 = v) → (inI (G 934 6) → (∃ n22, isA W0 4 n22 (G (G 934 0) 2) ∧ ((0 : Int) ≤ G 934 6 ∧ ((G 934 6 : Int) < n22 ∧ (((G (G (G 934 0) 2) (G 934 6) = -1 ∨ isO W0 10 (G (G (G 934 0) 2) (G 934 6))) ∧ ∀ v, W0.2 (G (G 934 0) 2) (G 934 6) = some v → G (G (G 934 0) 2) (G 934 6) = v) → ((G 934 1 = -1 ∨ isO W0 1 (G 934 1)) → (isO W0 10 (G (G (G 934 0) 2) (G 934 6)) ∧ (inL (G (G (G (G 934 0) 2) (G 934 6)) 1) → (isO W0 1 (G 934 1) ∧ PX1_named (G 934 1) (G (G (G (G 934 0) 2) (G 934 6)) 1) G (fun r32 G31 => ((r32 < 0 → PX2_compare_106 J l1 l2 l3 l4 (G (G (G 934 0) 2) (G 934 6)) r32 934 (-2) G31 Q) ∧ (0 ≤ r32 → ((G31 934 1 = -1 ∨ isO W0 1 (G31 934 1)) → (isO W0 1 (G31 934 1) ∧ PX1_indexOf (G31 934 1) r32 G31 (fun r38 G37 => inI r38 → PX2_compare_106 J l1 l2 l3 l4 (G (G (G 934 0) 2) (G 934 6)) r32 934 r38 G37 Q))))))))))))))))))) ∧ (¬ (G 934 6 < G (G 934 0) 3) → (∀ G40 : gS, G40 = uG G 934 6 (-2) → (∀ G41 : gS, G41 = uG G40 934 7 (0) → PX2_compare_273 J l1 l2 l3 l4 G41 Q))))))))
set_option maxRecDepth 20000 in
theorem TX2_compare_44 {j : Nat → rx_K} {J : Nat → List Int → gS → (Int → gS → Prop) → Prop} {l1 : Int} {l2 : Int} {l3 : Int} {l4 : Int} {l5 : Nat} {l6 : Nat} {G : gS} {Q : Int → gS → Prop} (hl3 : inI l3) (hl4 : inI l4) (hl5 : l5 % 8 ≠ 1) (hl6 : l6 % 8 ≠ 1) (hj0 : ∀ (l1 : Int) (l2 : Int) (l3 : Int) (l4 : Int) (l5 : Nat) (l6 : Nat) (G : gS), (inI l3) → (inI l4) → (l5 % 8 ≠ 1) → (l6 % 8 ≠ 1) → J 0 [l1, l2, l3, l4] G Q → Tg W0 (j 0) [rf (934), rf (l1), rf (l2), cI (l3), cI (l4), l5, l6] [] G (fun r G => ∃ v, r = cI v ∧ inI v ∧ Q v G)) (hj1 : ∀ (l1 : Int) (l2 : Int) (l3 : Int) (l4 : Int) (l5 : Nat) (l6 : Nat) (G : gS), (inI l3) → (inI l4) → (l5 % 8 ≠ 1) → (l6 % 8 ≠ 1) → J 1 [l1, l2, l3, l4] G Q → Tg W0 (j 1) [rf (934), rf (l1), rf (l2), cI (l3), cI (l4), l5, l6] [] G (fun r G => ∃ v, r = cI v ∧ inI v ∧ Q v G)) (h : PX2_compare_44 J l1 l2 l3 l4 G Q) : Tg W0 (vX2_compare_44 j) [rf (934), rf (l1), rf (l2), cI (l3), cI (l4), l5, l6] [] G (fun r G => ∃ v, r = cI v ∧ inI v ∧ Q v G) := by
  unfold PX2_compare_44 at h
  unfold vX2_compare_44
  refine g_ld (v := rf _) rfl (is_R _) ?_
  refine g_getI (kz := 6) oC2 rfl (Nat.le_of_ble_eq_true rfl) rfl fun i13 => ?_
  replace h := h i13
  refine g_ld (v := rf _) rfl (is_R _) ?_
  refine g_getR (kz := 0) (c := 1) oC2 rfl (Nat.le_of_ble_eq_true rfl) rfl (by decide) fun i14 => ?_
  replace h := h i14
  obtain ⟨q15, h⟩ := h
  refine g_getI (kz := 3) q15 rfl (Nat.le_of_ble_eq_true rfl) rfl fun i16 => ?_
  replace h := h i16
  refine g_lt2 i13 i16 (fun b17 => ?_) (fun b17 => ?_)
  · replace h := h.1 b17
    unfold vX2_compare_58
    refine g_ld (v := rf _) rfl (is_R _) ?_
    refine g_getR (kz := 0) (c := 1) oC2 rfl (Nat.le_of_ble_eq_true rfl) rfl (by decide) fun i18 => ?_
    replace h := h i18
    obtain ⟨q19, h⟩ := h
    refine g_getAF (kz := 2) (c := 4) q19 rfl (Nat.le_of_ble_eq_true rfl) rfl fun i20 => ?_
    replace h := h i20
    refine g_ld (v := rf _) rfl (is_R _) ?_
    refine g_getI (kz := 6) oC2 rfl (Nat.le_of_ble_eq_true rfl) rfl fun i21 => ?_
    replace h := h i21
    obtain ⟨n22, q23, h⟩ := h
    obtain ⟨q24, q25, h⟩ := h
    refine g_aldRF (c := 10) q23 q24 q25 rfl (by decide) fun i26 => ?_
    replace h := h i26
    refine g_st (lv' := [_, _, _, _, _, _, _]) (is_R _) (Nat.le_of_ble_eq_true rfl) (Or.inr (n1_I _)) rfl ?_
    refine g_ld (v := rf _) rfl (is_R _) ?_
    refine g_getR (kz := 1) (c := 1) oC2 rfl (Nat.le_of_ble_eq_true rfl) rfl (by decide) fun i27 => ?_
    replace h := h i27
    refine g_ld (v := rf _) rfl (is_R _) ?_
    obtain ⟨q28, h⟩ := h
    refine g_getL (kz := 1) q28 rfl (Nat.le_of_ble_eq_true rfl) rfl fun i29 => ?_
    replace h := h i29
    obtain ⟨q30, h⟩ := h
    refine g_callV (As := [_]) (ci := 1) q30 (fun _ => rfl) ?_
    refine g_go1 (Nat.le_of_ble_eq_true rfl) (Tn_w (TX1_named i29 h) fun _ G31 ⟨r32, e, h⟩ => ?_)
    subst e
    refine ⟨n7_R _, ?_⟩
    refine g_st (lv' := [_, _, _, _, _, _, _]) (is_R _) (Nat.le_of_ble_eq_true rfl) (Or.inr (n1_R _)) rfl ?_
    refine g_ld (v := rf _) rfl (is_R _) ?_
    refine g_ld (v := rf _) rfl (is_R _) ?_
    refine g_nul (fun b34 => ?_) (fun b34 => ?_)
    · replace h := h.1 b34
      unfold vX2_compare_92
      refine g_const (v := cI (-2)) rfl ?_
      exact TX2_compare_106 hl3 hl4 ⟨by omega, by omega⟩ hj0 hj1 h
    · replace h := h.2 b34
      unfold vX2_compare_97
      refine g_ld (v := rf _) rfl (is_R _) ?_
      refine g_getR (kz := 1) (c := 1) oC2 rfl (Nat.le_of_ble_eq_true rfl) rfl (by decide) fun i35 => ?_
      replace h := h i35
      refine g_ld (v := rf _) rfl (is_R _) ?_
      obtain ⟨q36, h⟩ := h
      refine g_callV (As := [_]) (ci := 1) q36 (fun _ => rfl) ?_
      refine g_go1 (by simp only [cs_c, cs_0, ct_I, ct_L, ct_R]; exact Nat.le_of_ble_eq_true rfl) (Tn_w (TX1_indexOf  h) fun _ G37 ⟨r38, e, i39, h⟩ => ?_)
      subst e
      refine ⟨n7_I _, ?_⟩
      replace h := h i39
      exact TX2_compare_106 hl3 hl4 i39 hj0 hj1 h
  · replace h := h.2 b17
    unfold vX2_compare_262
    refine g_ld (v := rf _) rfl (is_R _) ?_
    refine g_const (v := cI (-2)) rfl ?_
    refine g_putI (kz := 6) oC2 rfl (Nat.le_of_ble_eq_true rfl) rfl ⟨by omega, by omega⟩ (zfin_no (c := 934) (j := 6) rfl) ?_
    replace h := h _ rfl
    refine g_ld (v := rf _) rfl (is_R _) ?_
    refine g_const (v := cI (0)) rfl ?_
    refine g_putI (kz := 7) oC2 rfl (Nat.le_of_ble_eq_true rfl) rfl ⟨by omega, by omega⟩ (zfin_no (c := 934) (j := 7) rfl) ?_
    replace h := h _ rfl
    exact TX2_compare_273 hl3 hl4 hl5 hl6 hj0 hj1 h
def PX2_compare_36 (J : Nat → List Int → gS → (Int → gS → Prop) → Prop) (l1 : Int) (l2 : Int) (l3 : Int) (l4 : Int) (s0 : Int) (s1 : Int) (G : gS) (Q : Int → gS → Prop) : Prop :=
  (isO W0 2 (s0) ∧ (∀ G11 : gS, G11 = uG G s0 4 (s1) → (∀ G12 : gS, G12 = uG G11 934 6 (0) → PX2_compare_44 J l1 l2 l3 l4 G12 Q)))
set_option maxRecDepth 20000 in
theorem TX2_compare_36 {j : Nat → rx_K} {J : Nat → List Int → gS → (Int → gS → Prop) → Prop} {l1 : Int} {l2 : Int} {l3 : Int} {l4 : Int} {l5 : Nat} {l6 : Nat} {s0 : Int} {s1 : Int} {G : gS} {Q : Int → gS → Prop} (hl3 : inI l3) (hl4 : inI l4) (hl5 : l5 % 8 ≠ 1) (hl6 : l6 % 8 ≠ 1) (hs1 : inI s1) (hj0 : ∀ (l1 : Int) (l2 : Int) (l3 : Int) (l4 : Int) (l5 : Nat) (l6 : Nat) (G : gS), (inI l3) → (inI l4) → (l5 % 8 ≠ 1) → (l6 % 8 ≠ 1) → J 0 [l1, l2, l3, l4] G Q → Tg W0 (j 0) [rf (934), rf (l1), rf (l2), cI (l3), cI (l4), l5, l6] [] G (fun r G => ∃ v, r = cI v ∧ inI v ∧ Q v G)) (hj1 : ∀ (l1 : Int) (l2 : Int) (l3 : Int) (l4 : Int) (l5 : Nat) (l6 : Nat) (G : gS), (inI l3) → (inI l4) → (l5 % 8 ≠ 1) → (l6 % 8 ≠ 1) → J 1 [l1, l2, l3, l4] G Q → Tg W0 (j 1) [rf (934), rf (l1), rf (l2), cI (l3), cI (l4), l5, l6] [] G (fun r G => ∃ v, r = cI v ∧ inI v ∧ Q v G)) (h : PX2_compare_36 J l1 l2 l3 l4 s0 s1 G Q) : Tg W0 (vX2_compare_36 j) [rf (934), rf (l1), rf (l2), cI (l3), cI (l4), l5, l6] [cI (s1), rf (s0)] G (fun r G => ∃ v, r = cI v ∧ inI v ∧ Q v G) := by
  unfold PX2_compare_36 at h
  unfold vX2_compare_36
  obtain ⟨q10, h⟩ := h
  refine g_putI (kz := 4) q10 rfl (Nat.le_of_ble_eq_true rfl) rfl hs1 (by rw [one2 q10]; exact zfin_no (c := 934) (j := 4) rfl) ?_
  replace h := h _ rfl
  refine g_ld (v := rf _) rfl (is_R _) ?_
  refine g_const (v := cI (0)) rfl ?_
  refine g_putI (kz := 6) oC2 rfl (Nat.le_of_ble_eq_true rfl) rfl ⟨by omega, by omega⟩ (zfin_no (c := 934) (j := 6) rfl) ?_
  replace h := h _ rfl
  exact TX2_compare_44 hl3 hl4 hl5 hl6 hj0 hj1 h
def PX2_compare_0 (J : Nat → List Int → gS → (Int → gS → Prop) → Prop) (a1 : Int) (a2 : Int) (a3 : Int) (G : gS) (Q : Int → gS → Prop) : Prop :=
  ((a1 = -1 ∨ isO W0 1 (a1)) ∧ (∀ G2 : gS, G2 = uG G 934 0 (a1) → ((a2 = -1 ∨ isO W0 1 (a2)) ∧ (∀ G4 : gS, G4 = uG G2 934 1 (a2) → ((0 ≤ a3 ∧ a3 ≤ 1) ∧ (∀ G6 : gS, G6 = uG G4 934 2 (a3) → (∀ G7 : gS, G7 = uG G6 934 5 (0) → ((a3 = 0 → (inI (G7 934 4) → PX2_compare_36 J a1 a2 a3 0 934 (G7 934 4) G7 Q)) ∧ (¬ (a3 = 0) → PX2_compare_36 J a1 a2 a3 0 934 0 G7 Q)))))))))
set_option maxRecDepth 20000 in
theorem TX2_compare_0 {j : Nat → rx_K} {J : Nat → List Int → gS → (Int → gS → Prop) → Prop} {a1 : Int} {a2 : Int} {a3 : Int} {G : gS} {Q : Int → gS → Prop} (ha3 : inI a3) (hj0 : ∀ (l1 : Int) (l2 : Int) (l3 : Int) (l4 : Int) (l5 : Nat) (l6 : Nat) (G : gS), (inI l3) → (inI l4) → (l5 % 8 ≠ 1) → (l6 % 8 ≠ 1) → J 0 [l1, l2, l3, l4] G Q → Tg W0 (j 0) [rf (934), rf (l1), rf (l2), cI (l3), cI (l4), l5, l6] [] G (fun r G => ∃ v, r = cI v ∧ inI v ∧ Q v G)) (hj1 : ∀ (l1 : Int) (l2 : Int) (l3 : Int) (l4 : Int) (l5 : Nat) (l6 : Nat) (G : gS), (inI l3) → (inI l4) → (l5 % 8 ≠ 1) → (l6 % 8 ≠ 1) → J 1 [l1, l2, l3, l4] G Q → Tg W0 (j 1) [rf (934), rf (l1), rf (l2), cI (l3), cI (l4), l5, l6] [] G (fun r G => ∃ v, r = cI v ∧ inI v ∧ Q v G)) (h : PX2_compare_0 J a1 a2 a3 G Q) : Tg W0 (vX2_compare_0 j) [rf (934), rf (a1), rf (a2), cI (a3), 7, 7, 7] [] G (fun r G => ∃ v, r = cI v ∧ inI v ∧ Q v G) := by
  unfold PX2_compare_0 at h
  unfold vX2_compare_0
  refine g_ld (v := rf _) rfl (is_R _) ?_
  refine g_ld (v := rf _) rfl (is_R _) ?_
  obtain ⟨q1, h⟩ := h
  refine g_putR (kz := 0) (c := 1) oC2 rfl (Nat.le_of_ble_eq_true rfl) rfl (by decide) q1 (zfin_no (c := 934) (j := 0) rfl) ?_
  replace h := h _ rfl
  refine g_ld (v := rf _) rfl (is_R _) ?_
  refine g_ld (v := rf _) rfl (is_R _) ?_
  obtain ⟨q3, h⟩ := h
  refine g_putR (kz := 1) (c := 1) oC2 rfl (Nat.le_of_ble_eq_true rfl) rfl (by decide) q3 (zfin_no (c := 934) (j := 1) rfl) ?_
  replace h := h _ rfl
  refine g_ld (v := rf _) rfl (is_R _) ?_
  refine g_ld (v := cI _) rfl (is_I _) ?_
  obtain ⟨q5, h⟩ := h
  refine g_putZ (kz := 2) oC2 rfl (Nat.le_of_ble_eq_true rfl) rfl q5 (zfin_no (c := 934) (j := 2) rfl) ?_
  replace h := h _ rfl
  refine g_const (v := cI (0)) rfl ?_
  refine g_st (lv' := [_, _, _, _, _, _, _]) (is_I _) (Nat.le_of_ble_eq_true rfl) (Or.inr (n1_I _)) rfl ?_
  refine g_ld (v := rf _) rfl (is_R _) ?_
  refine g_const (v := cI (0)) rfl ?_
  refine g_putI (kz := 5) oC2 rfl (Nat.le_of_ble_eq_true rfl) rfl ⟨by omega, by omega⟩ (zfin_no (c := 934) (j := 5) rfl) ?_
  replace h := h _ rfl
  refine g_ld (v := rf _) rfl (is_R _) ?_
  refine g_ld (v := cI _) rfl (is_I _) ?_
  refine g_eq1 ha3 (fun b8 => ?_) (fun b8 => ?_)
  · replace h := h.1 b8
    unfold vX2_compare_32
    refine g_ld (v := rf _) rfl (is_R _) ?_
    refine g_getI (kz := 4) oC2 rfl (Nat.le_of_ble_eq_true rfl) rfl fun i9 => ?_
    replace h := h i9
    exact TX2_compare_36 ha3 ⟨by omega, by omega⟩ (show 7 % 8 ≠ 1 by decide) (show 7 % 8 ≠ 1 by decide) i9 hj0 hj1 h
  · replace h := h.2 b8
    unfold vX2_compare_28
    refine g_const (v := cI (0)) rfl ?_
    exact TX2_compare_36 ha3 ⟨by omega, by omega⟩ (show 7 % 8 ≠ 1 by decide) (show 7 % 8 ≠ 1 by decide) ⟨by omega, by omega⟩ hj0 hj1 h
def PX2_compare_J : Nat → Nat → List Int → gS → (Int → gS → Prop) → Prop
  | 0, _, _, _, _ => False
  | f + 1, h, L, G, Q => match h, L with
    | 0, [l1, l2, l3, l4] => PX2_compare_44 (PX2_compare_J f) l1 l2 l3 l4 G Q
    | 1, [l1, l2, l3, l4] => PX2_compare_273 (PX2_compare_J f) l1 l2 l3 l4 G Q
    | _, _ => False
theorem TX2_compare_J {Q : Int → gS → Prop} : ∀ f N : Nat, f ≤ N → (∀ (l1 : Int) (l2 : Int) (l3 : Int) (l4 : Int) (l5 : Nat) (l6 : Nat) (G : gS), (inI l3) → (inI l4) → (l5 % 8 ≠ 1) → (l6 % 8 ≠ 1) → (PX2_compare_J f) 0 [l1, l2, l3, l4] G Q → Tg W0 (rx_J vhX2_compare N 0) [rf (934), rf (l1), rf (l2), cI (l3), cI (l4), l5, l6] [] G (fun r G => ∃ v, r = cI v ∧ inI v ∧ Q v G)) ∧ (∀ (l1 : Int) (l2 : Int) (l3 : Int) (l4 : Int) (l5 : Nat) (l6 : Nat) (G : gS), (inI l3) → (inI l4) → (l5 % 8 ≠ 1) → (l6 % 8 ≠ 1) → (PX2_compare_J f) 1 [l1, l2, l3, l4] G Q → Tg W0 (rx_J vhX2_compare N 1) [rf (934), rf (l1), rf (l2), cI (l3), cI (l4), l5, l6] [] G (fun r G => ∃ v, r = cI v ∧ inI v ∧ Q v G)) := by
  intro f
  induction f with
  | zero => exact fun N _ => ⟨fun _ _ _ _ _ _ _ _ _ _ _ h => h.elim, fun _ _ _ _ _ _ _ _ _ _ _ h => h.elim⟩
  | succ f ih =>
    intro N hN
    obtain ⟨M, rfl⟩ : ∃ M, N = M + 1 := ⟨N - 1, by omega⟩
    have ih := ih M (by omega)
    exact ⟨fun _ _ _ _ _ _ _ hl3 hl4 hl5 hl6 h => show Tg W0 (vX2_compare_44 (rx_J vhX2_compare M)) _ _ _ _ from TX2_compare_44 hl3 hl4 hl5 hl6 ih.1 ih.2 h, fun _ _ _ _ _ _ _ hl3 hl4 hl5 hl6 h => show Tg W0 (vX2_compare_273 (rx_J vhX2_compare M)) _ _ _ _ from TX2_compare_273 hl3 hl4 hl5 hl6 ih.1 ih.2 h⟩
def PX2_compare (a1 : Int) (a2 : Int) (a3 : Int) (G : gS) (Q : Int → gS → Prop) : Prop := ∃ f : Nat, f ≤ 4000000000 ∧ PX2_compare_0 (PX2_compare_J f) a1 a2 a3 G Q
theorem TX2_compare {a1 : Int} {a2 : Int} {a3 : Int} {G : gS} {Q : Int → gS → Prop} (ha3 : inI a3) (h : PX2_compare a1 a2 a3 G Q) : Tn W0 FX2_compare [rf (934), rf (a1), rf (a2), cI (a3)] G (fun r G => ∃ v, r = cI v ∧ inI v ∧ Q v G) := by
  obtain ⟨f, hf, h⟩ := h
  have hJ := TX2_compare_J (Q := Q) f 4000000000 hf
  unfold FX2_compare
  refine g_ent (lv' := [rf (934), rf (a1), rf (a2), cI (a3), 7, 7, 7]) (flR (flR (flR (flI fl0)))) (Nat.le_of_ble_eq_true rfl) rfl ?_
  exact TX2_compare_0 ha3 hJ.1 hJ.2 h
def PX3_openStart_30  (G : gS) (Q : Int → gS → Prop) : Prop :=
  ((G 820 1 = -1 ∨ isO W0 1 (G 820 1)) → (inI (G 820 5) → (isO W0 1 (G 820 1) ∧ PX1_patch (G 820 1) (G 820 5) G (fun _ G18 => Q 0 G18))))
set_option maxRecDepth 20000 in
theorem TX3_openStart_30  {G : gS} {Q : Int → gS → Prop}  (h : PX3_openStart_30  G Q) : Tg W0 vX3_openStart_30 [rf (820)] [] G (fun r G => r = 7 ∧ Q 0 G) := by
  unfold PX3_openStart_30 at h
  unfold vX3_openStart_30
  refine g_ld (v := rf _) rfl (is_R _) ?_
  refine g_getR (kz := 1) (c := 1) oC3 rfl (Nat.le_of_ble_eq_true rfl) rfl (by decide) fun i15 => ?_
  replace h := h i15
  refine g_ld (v := rf _) rfl (is_R _) ?_
  refine g_getI (kz := 5) oC3 rfl (Nat.le_of_ble_eq_true rfl) rfl fun i16 => ?_
  replace h := h i16
  obtain ⟨q17, h⟩ := h
  refine g_callV (As := [_]) (ci := 1) q17 (fun _ => rfl) ?_
  refine g_go0 (Nat.le_of_ble_eq_true rfl) (Tn_w (TX1_patch i16 h) fun _ G18 ⟨e, h⟩ => ⟨e, ?_⟩)
  exact g_ret0 ⟨rfl, h⟩
def PX3_openStart_0  (G : gS) (Q : Int → gS → Prop) : Prop :=
  ((G 820 2 = -1 ∨ isO W0 10 (G 820 2)) → (isO W0 10 (G 820 2) ∧ ((G (G 820 2) 18 = -1 ∨ isO W0 7 (G (G 820 2) 18)) → (isO W0 7 (G (G 820 2) 18) ∧ (inI (G (G (G 820 2) 18) 17) → ((G (G (G 820 2) 18) 17 < 0 → ((G 820 2 = -1 ∨ isO W0 10 (G 820 2)) → (isO W0 10 (G 820 2) ∧ ((G (G 820 2) 18 = -1 ∨ isO W0 7 (G (G 820 2) 18)) → ((G 820 1 = -1 ∨ isO W0 1 (G 820 1)) → (isO W0 1 (G 820 1) ∧ (inI (G (G 820 1) 17) → (isO W0 7 (G (G 820 2) 18) ∧ (∀ G14 : gS, G14 = uG G (G (G 820 2) 18) 17 (G (G 820 1) 17) → PX3_openStart_30  G14 Q))))))))) ∧ (¬ (G (G (G 820 2) 18) 17 < 0) → PX3_openStart_30  G Q)))))))
set_option maxRecDepth 20000 in
theorem TX3_openStart_0  {G : gS} {Q : Int → gS → Prop}  (h : PX3_openStart_0  G Q) : Tg W0 vX3_openStart_0 [rf (820)] [] G (fun r G => r = 7 ∧ Q 0 G) := by
  unfold PX3_openStart_0 at h
  unfold vX3_openStart_0
  refine g_ld (v := rf _) rfl (is_R _) ?_
  refine g_getR (kz := 2) (c := 10) oC3 rfl (Nat.le_of_ble_eq_true rfl) rfl (by decide) fun i1 => ?_
  replace h := h i1
  obtain ⟨q2, h⟩ := h
  refine g_getR (kz := 18) (c := 7) q2 rfl (Nat.le_of_ble_eq_true rfl) rfl (by decide) fun i3 => ?_
  replace h := h i3
  obtain ⟨q4, h⟩ := h
  refine g_getI (kz := 17) q4 rfl (Nat.le_of_ble_eq_true rfl) rfl fun i5 => ?_
  replace h := h i5
  refine g_lt1 i5 (fun b6 => ?_) (fun b6 => ?_)
  · replace h := h.1 b6
    unfold vX3_openStart_13
    refine g_ld (v := rf _) rfl (is_R _) ?_
    refine g_getR (kz := 2) (c := 10) oC3 rfl (Nat.le_of_ble_eq_true rfl) rfl (by decide) fun i7 => ?_
    replace h := h i7
    obtain ⟨q8, h⟩ := h
    refine g_getR (kz := 18) (c := 7) q8 rfl (Nat.le_of_ble_eq_true rfl) rfl (by decide) fun i9 => ?_
    replace h := h i9
    refine g_ld (v := rf _) rfl (is_R _) ?_
    refine g_getR (kz := 1) (c := 1) oC3 rfl (Nat.le_of_ble_eq_true rfl) rfl (by decide) fun i10 => ?_
    replace h := h i10
    obtain ⟨q11, h⟩ := h
    refine g_getI (kz := 17) q11 rfl (Nat.le_of_ble_eq_true rfl) rfl fun i12 => ?_
    replace h := h i12
    obtain ⟨q13, h⟩ := h
    refine g_putI (kz := 17) q13 rfl (Nat.le_of_ble_eq_true rfl) rfl i12 (nf7_17 q13) ?_
    replace h := h _ rfl
    exact TX3_openStart_30  h
  · replace h := h.2 b6
    exact TX3_openStart_30  h
abbrev PX3_openStart  (G : gS) (Q : Int → gS → Prop) : Prop := PX3_openStart_0  G Q
theorem TX3_openStart  {G : gS} {Q : Int → gS → Prop}  (h : PX3_openStart  G Q) : Tn W0 FX3_openStart [rf (820)] G (fun r G => r = 7 ∧ Q 0 G) := by
  unfold FX3_openStart
  refine g_ent (lv' := [rf (820)]) (flR fl0) (Nat.le_of_ble_eq_true rfl) rfl ?_
  exact TX3_openStart_0  h
def PX3_isFit_71 (l0 : Int) (l2 : Int) (l4 : Int) (s0 : Int) (G : gS) (Q : Int → gS → Prop) : Prop :=
  ((0 ≤ s0 ∧ s0 ≤ 1) ∧ Q (s0) G)
set_option maxRecDepth 20000 in
theorem TX3_isFit_71 {l0 : Int} {l1 : Nat} {l2 : Int} {l3 : Nat} {l4 : Int} {s0 : Int} {G : gS} {Q : Int → gS → Prop} (hl0 : inL l0) (hl1 : l1 % 8 ≠ 1) (hl2 : inL l2) (hl3 : l3 % 8 ≠ 1) (hl4 : inI l4) (hs0 : inI s0) (h : PX3_isFit_71 l0 l2 l4 s0 G Q) : Tg W0 vX3_isFit_71 [cL (l0), l1, cL (l2), l3, cI (l4)] [cI (s0)] G (fun r G => ∃ v, r = cI v ∧ (0 ≤ v ∧ v ≤ 1) ∧ Q v G) := by
  unfold PX3_isFit_71 at h
  unfold vX3_isFit_71
  obtain ⟨q9, h⟩ := h
  exact g_ret1 (is_Z q9) ⟨_, rfl, q9, h⟩
def PX3_isFit_70 (l0 : Int) (l2 : Int) (l4 : Int) (G : gS) (Q : Int → gS → Prop) : Prop :=
  PX3_isFit_71 l0 l2 l4 0 G Q
set_option maxRecDepth 20000 in
theorem TX3_isFit_70 {l0 : Int} {l1 : Nat} {l2 : Int} {l3 : Nat} {l4 : Int} {G : gS} {Q : Int → gS → Prop} (hl0 : inL l0) (hl1 : l1 % 8 ≠ 1) (hl2 : inL l2) (hl3 : l3 % 8 ≠ 1) (hl4 : inI l4) (h : PX3_isFit_70 l0 l2 l4 G Q) : Tg W0 vX3_isFit_70 [cL (l0), l1, cL (l2), l3, cI (l4)] [] G (fun r G => ∃ v, r = cI v ∧ (0 ≤ v ∧ v ≤ 1) ∧ Q v G) := by
  unfold PX3_isFit_70 at h
  unfold vX3_isFit_70
  refine g_const (v := cI (0)) rfl ?_
  exact TX3_isFit_71 hl0 hl1 hl2 hl3 hl4 ⟨by omega, by omega⟩ h
def PX3_isFit_45 (l0 : Int) (l2 : Int) (s0 : Int) (G : gS) (Q : Int → gS → Prop) : Prop :=
  ((s0 = 0 → PX3_isFit_70 l0 l2 s0 G Q) ∧ (¬ (s0 = 0) → ((l0 = l2 → PX3_isFit_70 l0 l2 s0 G Q) ∧ (¬ (l0 = l2) → ((l2 = -4031174665287237632 → PX3_isFit_70 l0 l2 s0 G Q) ∧ (¬ (l2 = -4031174665287237632) → PX3_isFit_71 l0 l2 s0 1 G Q))))))
set_option maxRecDepth 20000 in
theorem TX3_isFit_45 {l0 : Int} {l1 : Nat} {l2 : Int} {l3 : Nat} {l4 : Nat} {s0 : Int} {G : gS} {Q : Int → gS → Prop} (hl0 : inL l0) (hl1 : l1 % 8 ≠ 1) (hl2 : inL l2) (hl3 : l3 % 8 ≠ 1) (hl4 : l4 % 8 ≠ 1) (hs0 : inI s0) (h : PX3_isFit_45 l0 l2 s0 G Q) : Tg W0 vX3_isFit_45 [cL (l0), l1, cL (l2), l3, l4] [cI (s0)] G (fun r G => ∃ v, r = cI v ∧ (0 ≤ v ∧ v ≤ 1) ∧ Q v G) := by
  unfold PX3_isFit_45 at h
  unfold vX3_isFit_45
  refine g_st (lv' := [_, _, _, _, _]) (is_I _) (Nat.le_of_ble_eq_true rfl) (Or.inr hl3) rfl ?_
  refine g_ld (v := cI _) rfl (is_I _) ?_
  refine g_eq1 hs0 (fun b6 => ?_) (fun b6 => ?_)
  · replace h := h.1 b6
    exact TX3_isFit_70 hl0 hl1 hl2 hl3 hs0 h
  · replace h := h.2 b6
    unfold vX3_isFit_52
    refine g_ld (v := cL _) rfl (is_L _) ?_
    refine g_ld (v := cL _) rfl (is_L _) ?_
    refine g_leq hl0 hl2 (fun b7 => ?_) (fun b7 => ?_)
    · replace h := h.1 b7
      exact TX3_isFit_70 hl0 hl1 hl2 hl3 hs0 h
    · replace h := h.2 b7
      unfold vX3_isFit_58
      refine g_ld (v := cL _) rfl (is_L _) ?_
      refine g_const (v := cL (-4031174665287237632)) rfl ?_
      refine g_leq hl2 ⟨by omega, by omega⟩ (fun b8 => ?_) (fun b8 => ?_)
      · replace h := h.1 b8
        exact TX3_isFit_70 hl0 hl1 hl2 hl3 hs0 h
      · replace h := h.2 b8
        unfold vX3_isFit_66
        refine g_const (v := cI (1)) rfl ?_
        exact TX3_isFit_71 hl0 hl1 hl2 hl3 hs0 ⟨by omega, by omega⟩ h
def PX3_isFit_44 (l0 : Int) (l2 : Int) (G : gS) (Q : Int → gS → Prop) : Prop :=
  PX3_isFit_45 l0 l2 0 G Q
set_option maxRecDepth 20000 in
theorem TX3_isFit_44 {l0 : Int} {l1 : Nat} {l2 : Int} {l3 : Nat} {l4 : Nat} {G : gS} {Q : Int → gS → Prop} (hl0 : inL l0) (hl1 : l1 % 8 ≠ 1) (hl2 : inL l2) (hl3 : l3 % 8 ≠ 1) (hl4 : l4 % 8 ≠ 1) (h : PX3_isFit_44 l0 l2 G Q) : Tg W0 vX3_isFit_44 [cL (l0), l1, cL (l2), l3, l4] [] G (fun r G => ∃ v, r = cI v ∧ (0 ≤ v ∧ v ≤ 1) ∧ Q v G) := by
  unfold PX3_isFit_44 at h
  unfold vX3_isFit_44
  refine g_const (v := cI (0)) rfl ?_
  exact TX3_isFit_45 hl0 hl1 hl2 hl3 hl4 ⟨by omega, by omega⟩ h
def PX3_isFit_0 (a0 : Int) (a2 : Int) (G : gS) (Q : Int → gS → Prop) : Prop :=
  ((a0 = -1 → PX3_isFit_44 a0 a2 G Q) ∧ (¬ (a0 = -1) → ((a0 = -3 → PX3_isFit_44 a0 a2 G Q) ∧ (¬ (a0 = -3) → ((a0 = -2 → PX3_isFit_44 a0 a2 G Q) ∧ (¬ (a0 = -2) → ((a2 = -1 → PX3_isFit_44 a0 a2 G Q) ∧ (¬ (a2 = -1) → ((a2 = -3 → PX3_isFit_44 a0 a2 G Q) ∧ (¬ (a2 = -3) → PX3_isFit_45 a0 a2 1 G Q))))))))))
set_option maxRecDepth 20000 in
theorem TX3_isFit_0 {a0 : Int} {a2 : Int} {G : gS} {Q : Int → gS → Prop} (ha0 : inL a0) (ha2 : inL a2) (h : PX3_isFit_0 a0 a2 G Q) : Tg W0 vX3_isFit_0 [cL (a0), 7, cL (a2), 7, 7] [] G (fun r G => ∃ v, r = cI v ∧ (0 ≤ v ∧ v ≤ 1) ∧ Q v G) := by
  unfold PX3_isFit_0 at h
  unfold vX3_isFit_0
  refine g_ld (v := cL _) rfl (is_L _) ?_
  refine g_const (v := cL (-1)) rfl ?_
  refine g_leq ha0 ⟨by omega, by omega⟩ (fun b1 => ?_) (fun b1 => ?_)
  · replace h := h.1 b1
    exact TX3_isFit_44 ha0 (show 7 % 8 ≠ 1 by decide) ha2 (show 7 % 8 ≠ 1 by decide) (show 7 % 8 ≠ 1 by decide) h
  · replace h := h.2 b1
    unfold vX3_isFit_8
    refine g_ld (v := cL _) rfl (is_L _) ?_
    refine g_const (v := cL (-3)) rfl ?_
    refine g_leq ha0 ⟨by omega, by omega⟩ (fun b2 => ?_) (fun b2 => ?_)
    · replace h := h.1 b2
      exact TX3_isFit_44 ha0 (show 7 % 8 ≠ 1 by decide) ha2 (show 7 % 8 ≠ 1 by decide) (show 7 % 8 ≠ 1 by decide) h
    · replace h := h.2 b2
      unfold vX3_isFit_16
      refine g_ld (v := cL _) rfl (is_L _) ?_
      refine g_const (v := cL (-2)) rfl ?_
      refine g_leq ha0 ⟨by omega, by omega⟩ (fun b3 => ?_) (fun b3 => ?_)
      · replace h := h.1 b3
        exact TX3_isFit_44 ha0 (show 7 % 8 ≠ 1 by decide) ha2 (show 7 % 8 ≠ 1 by decide) (show 7 % 8 ≠ 1 by decide) h
      · replace h := h.2 b3
        unfold vX3_isFit_24
        refine g_ld (v := cL _) rfl (is_L _) ?_
        refine g_const (v := cL (-1)) rfl ?_
        refine g_leq ha2 ⟨by omega, by omega⟩ (fun b4 => ?_) (fun b4 => ?_)
        · replace h := h.1 b4
          exact TX3_isFit_44 ha0 (show 7 % 8 ≠ 1 by decide) ha2 (show 7 % 8 ≠ 1 by decide) (show 7 % 8 ≠ 1 by decide) h
        · replace h := h.2 b4
          unfold vX3_isFit_32
          refine g_ld (v := cL _) rfl (is_L _) ?_
          refine g_const (v := cL (-3)) rfl ?_
          refine g_leq ha2 ⟨by omega, by omega⟩ (fun b5 => ?_) (fun b5 => ?_)
          · replace h := h.1 b5
            exact TX3_isFit_44 ha0 (show 7 % 8 ≠ 1 by decide) ha2 (show 7 % 8 ≠ 1 by decide) (show 7 % 8 ≠ 1 by decide) h
          · replace h := h.2 b5
            unfold vX3_isFit_40
            refine g_const (v := cI (1)) rfl ?_
            exact TX3_isFit_45 ha0 (show 7 % 8 ≠ 1 by decide) ha2 (show 7 % 8 ≠ 1 by decide) (show 7 % 8 ≠ 1 by decide) ⟨by omega, by omega⟩ h
abbrev PX3_isFit (a0 : Int) (a2 : Int) (G : gS) (Q : Int → gS → Prop) : Prop := PX3_isFit_0 a0 a2 G Q
theorem TX3_isFit {a0 : Int} {a2 : Int} {G : gS} {Q : Int → gS → Prop} (ha0 : inL a0) (ha2 : inL a2) (h : PX3_isFit a0 a2 G Q) : Tn W0 FX3_isFit [cL (a0), cL (a2)] G (fun r G => ∃ v, r = cI v ∧ (0 ≤ v ∧ v ≤ 1) ∧ Q v G) := by
  unfold FX3_isFit
  refine g_ent (lv' := [cL (a0), 7, cL (a2), 7, 7]) (flL (flL fl0)) (Nat.le_of_ble_eq_true rfl) rfl ?_
  exact TX3_isFit_0 ha0 ha2 h
def PX7_like_104 (o : Int) (l1 : Int) (s0 : Int) (G : gS) (Q : Int → gS → Prop) : Prop :=
  ((0 ≤ s0 ∧ s0 ≤ 1) ∧ Q (s0) G)
set_option maxRecDepth 20000 in
theorem TX7_like_104 {o : Int} {l1 : Int} {s0 : Int} {G : gS} {Q : Int → gS → Prop} (hs0 : inI s0) (h : PX7_like_104 o l1 s0 G Q) : Tg W0 vX7_like_104 [rf (o), rf (l1)] [cI (s0)] G (fun r G => ∃ v, r = cI v ∧ (0 ≤ v ∧ v ≤ 1) ∧ Q v G) := by
  unfold PX7_like_104 at h
  unfold vX7_like_104
  obtain ⟨q40, h⟩ := h
  exact g_ret1 (is_Z q40) ⟨_, rfl, q40, h⟩
def PX7_like_103 (o : Int) (l1 : Int) (G : gS) (Q : Int → gS → Prop) : Prop :=
  PX7_like_104 o l1 0 G Q
set_option maxRecDepth 20000 in
theorem TX7_like_103 {o : Int} {l1 : Int} {G : gS} {Q : Int → gS → Prop}  (h : PX7_like_103 o l1 G Q) : Tg W0 vX7_like_103 [rf (o), rf (l1)] [] G (fun r G => ∃ v, r = cI v ∧ (0 ≤ v ∧ v ≤ 1) ∧ Q v G) := by
  unfold PX7_like_103 at h
  unfold vX7_like_103
  refine g_const (v := cI (0)) rfl ?_
  exact TX7_like_104 ⟨by omega, by omega⟩ h
def PX7_like_0 (o : Int) (a1 : Int) (G : gS) (Q : Int → gS → Prop) : Prop :=
  (isO W0 7 (o) ∧ (inL (G o 7) → (isO W0 7 (a1) ∧ (inL (G a1 7) → ((G o 7 = G a1 7 → (inL (G o 8) → (inL (G a1 8) → ((G o 8 = G a1 8 → (inI (G o 9) → (inI (G a1 9) → ((G o 9 = G a1 9 → ((0 : Int) ≤ 0 ∧ ((0 : Int) < 4 ∧ (inL (G (o + 1) 0) → ((0 : Int) ≤ 0 ∧ ((0 : Int) < 4 ∧ (inL (G (a1 + 1) 0) → ((G (o + 1) 0 = G (a1 + 1) 0 → ((0 : Int) ≤ 1 ∧ ((1 : Int) < 4 ∧ (inL (G (o + 1) 1) → ((0 : Int) ≤ 1 ∧ ((1 : Int) < 4 ∧ (inL (G (a1 + 1) 1) → ((G (o + 1) 1 = G (a1 + 1) 1 → ((0 : Int) ≤ 2 ∧ ((2 : Int) < 4 ∧ (inL (G (o + 1) 2) → ((0 : Int) ≤ 2 ∧ ((2 : Int) < 4 ∧ (inL (G (a1 + 1) 2) → ((G (o + 1) 2 = G (a1 + 1) 2 → ((0 : Int) ≤ 3 ∧ ((3 : Int) < 4 ∧ (inL (G (o + 1) 3) → ((0 : Int) ≤ 3 ∧ ((3 : Int) < 4 ∧ (inL (G (a1 + 1) 3) → ((G (o + 1) 3 = G (a1 + 1) 3 → PX7_like_104 o a1 1 G Q) ∧ (¬ (G (o + 1) 3 = G (a1 + 1) 3) → PX7_like_103 o a1 G Q))))))))) ∧ (¬ (G (o + 1) 2 = G (a1 + 1) 2) → PX7_like_103 o a1 G Q))))))))) ∧ (¬ (G (o + 1) 1 = G (a1 + 1) 1) → PX7_like_103 o a1 G Q))))))))) ∧ (¬ (G (o + 1) 0 = G (a1 + 1) 0) → PX7_like_103 o a1 G Q))))))))) ∧ (¬ (G o 9 = G a1 9) → PX7_like_103 o a1 G Q))))) ∧ (¬ (G o 8 = G a1 8) → PX7_like_103 o a1 G Q))))) ∧ (¬ (G o 7 = G a1 7) → PX7_like_103 o a1 G Q))))))
set_option maxRecDepth 20000 in
theorem TX7_like_0 {o : Int} {a1 : Int} {G : gS} {Q : Int → gS → Prop}  (h : PX7_like_0 o a1 G Q) : Tg W0 vX7_like_0 [rf (o), rf (a1)] [] G (fun r G => ∃ v, r = cI v ∧ (0 ≤ v ∧ v ≤ 1) ∧ Q v G) := by
  unfold PX7_like_0 at h
  unfold vX7_like_0
  refine g_ld (v := rf _) rfl (is_R _) ?_
  obtain ⟨q1, h⟩ := h
  refine g_getL (kz := 7) q1 rfl (Nat.le_of_ble_eq_true rfl) rfl fun i2 => ?_
  replace h := h i2
  refine g_ld (v := rf _) rfl (is_R _) ?_
  obtain ⟨q3, h⟩ := h
  refine g_getL (kz := 7) q3 rfl (Nat.le_of_ble_eq_true rfl) rfl fun i4 => ?_
  replace h := h i4
  refine g_leq i2 i4 (fun b5 => ?_) (fun b5 => ?_)
  · replace h := h.1 b5
    unfold vX7_like_12
    refine g_ld (v := rf _) rfl (is_R _) ?_
    refine g_getL (kz := 8) q1 rfl (Nat.le_of_ble_eq_true rfl) rfl fun i6 => ?_
    replace h := h i6
    refine g_ld (v := rf _) rfl (is_R _) ?_
    refine g_getL (kz := 8) q3 rfl (Nat.le_of_ble_eq_true rfl) rfl fun i7 => ?_
    replace h := h i7
    refine g_leq i6 i7 (fun b8 => ?_) (fun b8 => ?_)
    · replace h := h.1 b8
      unfold vX7_like_24
      refine g_ld (v := rf _) rfl (is_R _) ?_
      refine g_getI (kz := 9) q1 rfl (Nat.le_of_ble_eq_true rfl) rfl fun i9 => ?_
      replace h := h i9
      refine g_ld (v := rf _) rfl (is_R _) ?_
      refine g_getI (kz := 9) q3 rfl (Nat.le_of_ble_eq_true rfl) rfl fun i10 => ?_
      replace h := h i10
      refine g_eq2 i9 i10 (fun b11 => ?_) (fun b11 => ?_)
      · replace h := h.1 b11
        unfold vX7_like_35
        refine g_ld (v := rf _) rfl (is_R _) ?_
        refine g_getF q1 (ff7_10 q1).1 rfl (Nat.le_of_ble_eq_true rfl) (Nat.le_of_ble_eq_true rfl) ?_
        refine g_const (v := cI (0)) rfl ?_
        obtain ⟨q12, q13, h⟩ := h
        refine g_aldL (ff7_10 q1).2 q12 q13 rfl fun i14 => ?_
        replace h := h i14
        refine g_ld (v := rf _) rfl (is_R _) ?_
        refine g_getF q3 (ff7_10 q3).1 rfl (Nat.le_of_ble_eq_true rfl) (Nat.le_of_ble_eq_true rfl) ?_
        refine g_const (v := cI (0)) rfl ?_
        obtain ⟨q15, q16, h⟩ := h
        refine g_aldL (ff7_10 q3).2 q15 q16 rfl fun i17 => ?_
        replace h := h i17
        refine g_leq i14 i17 (fun b18 => ?_) (fun b18 => ?_)
        · replace h := h.1 b18
          unfold vX7_like_51
          refine g_ld (v := rf _) rfl (is_R _) ?_
          refine g_getF q1 (ff7_10 q1).1 rfl (Nat.le_of_ble_eq_true rfl) (Nat.le_of_ble_eq_true rfl) ?_
          refine g_const (v := cI (1)) rfl ?_
          obtain ⟨q19, q20, h⟩ := h
          refine g_aldL (ff7_10 q1).2 q19 q20 rfl fun i21 => ?_
          replace h := h i21
          refine g_ld (v := rf _) rfl (is_R _) ?_
          refine g_getF q3 (ff7_10 q3).1 rfl (Nat.le_of_ble_eq_true rfl) (Nat.le_of_ble_eq_true rfl) ?_
          refine g_const (v := cI (1)) rfl ?_
          obtain ⟨q22, q23, h⟩ := h
          refine g_aldL (ff7_10 q3).2 q22 q23 rfl fun i24 => ?_
          replace h := h i24
          refine g_leq i21 i24 (fun b25 => ?_) (fun b25 => ?_)
          · replace h := h.1 b25
            unfold vX7_like_67
            refine g_ld (v := rf _) rfl (is_R _) ?_
            refine g_getF q1 (ff7_10 q1).1 rfl (Nat.le_of_ble_eq_true rfl) (Nat.le_of_ble_eq_true rfl) ?_
            refine g_const (v := cI (2)) rfl ?_
            obtain ⟨q26, q27, h⟩ := h
            refine g_aldL (ff7_10 q1).2 q26 q27 rfl fun i28 => ?_
            replace h := h i28
            refine g_ld (v := rf _) rfl (is_R _) ?_
            refine g_getF q3 (ff7_10 q3).1 rfl (Nat.le_of_ble_eq_true rfl) (Nat.le_of_ble_eq_true rfl) ?_
            refine g_const (v := cI (2)) rfl ?_
            obtain ⟨q29, q30, h⟩ := h
            refine g_aldL (ff7_10 q3).2 q29 q30 rfl fun i31 => ?_
            replace h := h i31
            refine g_leq i28 i31 (fun b32 => ?_) (fun b32 => ?_)
            · replace h := h.1 b32
              unfold vX7_like_83
              refine g_ld (v := rf _) rfl (is_R _) ?_
              refine g_getF q1 (ff7_10 q1).1 rfl (Nat.le_of_ble_eq_true rfl) (Nat.le_of_ble_eq_true rfl) ?_
              refine g_const (v := cI (3)) rfl ?_
              obtain ⟨q33, q34, h⟩ := h
              refine g_aldL (ff7_10 q1).2 q33 q34 rfl fun i35 => ?_
              replace h := h i35
              refine g_ld (v := rf _) rfl (is_R _) ?_
              refine g_getF q3 (ff7_10 q3).1 rfl (Nat.le_of_ble_eq_true rfl) (Nat.le_of_ble_eq_true rfl) ?_
              refine g_const (v := cI (3)) rfl ?_
              obtain ⟨q36, q37, h⟩ := h
              refine g_aldL (ff7_10 q3).2 q36 q37 rfl fun i38 => ?_
              replace h := h i38
              refine g_leq i35 i38 (fun b39 => ?_) (fun b39 => ?_)
              · replace h := h.1 b39
                unfold vX7_like_99
                refine g_const (v := cI (1)) rfl ?_
                exact TX7_like_104 ⟨by omega, by omega⟩ h
              · replace h := h.2 b39
                exact TX7_like_103  h
            · replace h := h.2 b32
              exact TX7_like_103  h
          · replace h := h.2 b25
            exact TX7_like_103  h
        · replace h := h.2 b18
          exact TX7_like_103  h
      · replace h := h.2 b11
        exact TX7_like_103  h
    · replace h := h.2 b8
      exact TX7_like_103  h
  · replace h := h.2 b5
    exact TX7_like_103  h
abbrev PX7_like (o : Int) (a1 : Int) (G : gS) (Q : Int → gS → Prop) : Prop := PX7_like_0 o a1 G Q
theorem TX7_like {o : Int} {a1 : Int} {G : gS} {Q : Int → gS → Prop}  (h : PX7_like o a1 G Q) : Tn W0 FX7_like [rf (o), rf (a1)] G (fun r G => ∃ v, r = cI v ∧ (0 ≤ v ∧ v ≤ 1) ∧ Q v G) := by
  unfold FX7_like
  refine g_ent (lv' := [rf (o), rf (a1)]) (flR (flR fl0)) (Nat.le_of_ble_eq_true rfl) rfl ?_
  exact TX7_like_0  h
def PX3_useOf_167 (J : Nat → List Int → gS → (Int → gS → Prop) → Prop) (l1 : Int) (l2 : Int) (l4 : Int) (l5 : Int) (l7 : Int) (G : gS) (Q : Int → gS → Prop) : Prop :=
  Q (0) G
set_option maxRecDepth 20000 in
theorem TX3_useOf_167 {j : Nat → rx_K} {J : Nat → List Int → gS → (Int → gS → Prop) → Prop} {l1 : Int} {l2 : Int} {l3 : Nat} {l4 : Int} {l5 : Int} {l6 : Nat} {l7 : Int} {l8 : Nat} {G : gS} {Q : Int → gS → Prop} (hl1 : inI l1) (hl2 : inL l2) (hl3 : l3 % 8 ≠ 1) (hl5 : inL l5) (hl6 : l6 % 8 ≠ 1) (hl7 : inI l7) (hl8 : l8 % 8 ≠ 1) (hj0 : ∀ (l1 : Int) (l2 : Int) (l3 : Nat) (l4 : Int) (l5 : Int) (l6 : Nat) (l7 : Int) (l8 : Nat) (G : gS), (inI l1) → (inL l2) → (l3 % 8 ≠ 1) → (inL l5) → (l6 % 8 ≠ 1) → (inI l7) → (l8 % 8 ≠ 1) → J 0 [l1, l2, l4, l5, l7] G Q → Tg W0 (j 0) [rf (820), cI (l1), cL (l2), l3, rf (l4), cL (l5), l6, cI (l7), l8] [] G (fun r G => ∃ v, r = cI v ∧ inI v ∧ Q v G)) (h : PX3_useOf_167 J l1 l2 l4 l5 l7 G Q) : Tg W0 (vX3_useOf_167 j) [rf (820), cI (l1), cL (l2), l3, rf (l4), cL (l5), l6, cI (l7), l8] [] G (fun r G => ∃ v, r = cI v ∧ inI v ∧ Q v G) := by
  unfold PX3_useOf_167 at h
  unfold vX3_useOf_167
  refine g_const (v := cI (0)) rfl ?_
  exact g_ret1 (is_I _) ⟨_, rfl, ⟨by omega, by omega⟩, h⟩
def PX3_useOf_142 (J : Nat → List Int → gS → (Int → gS → Prop) → Prop) (l1 : Int) (l2 : Int) (l4 : Int) (l5 : Int) (l7 : Int) (s0 : Int) (G : gS) (Q : Int → gS → Prop) : Prop :=
  ((s0 = 0 → ((G 820 1 = -1 ∨ isO W0 1 (G 820 1)) → (isO W0 1 (G 820 1) ∧ (inI (G (G 820 1) 15) → ((G 820 1 = -1 ∨ isO W0 1 (G 820 1)) → (isO W0 1 (G 820 1) ∧ (((G (G 820 1) 10 = -1 ∨ ∃ n, isA W0 0 n (G (G 820 1) 10)) ∧ ∀ v, W0.2 (G 820 1) 10 = some v → G (G 820 1) 10 = v) → (∃ n70, isA W0 0 n70 (G (G 820 1) 10) ∧ (inI (n70) ∧ ((G (G 820 1) 15 < n70 → ((G 820 1 = -1 ∨ isO W0 1 (G 820 1)) → (isO W0 1 (G 820 1) ∧ (inI (G (G 820 1) 15) → ((G 820 1 = -1 ∨ isO W0 1 (G 820 1)) → (isO W0 1 (G 820 1) ∧ (((G (G 820 1) 10 = -1 ∨ ∃ n, isA W0 0 n (G (G 820 1) 10)) ∧ ∀ v, W0.2 (G 820 1) 10 = some v → G (G 820 1) 10 = v) → (∃ n80, isA W0 0 n80 (G (G 820 1) 10) ∧ ((0 : Int) ≤ G (G 820 1) 15 ∧ ((G (G 820 1) 15 : Int) < n80 ∧ (∀ G84 : gS, G84 = uG G (G (G 820 1) 10) (G (G 820 1) 15) (l1) → ((G84 820 1 = -1 ∨ isO W0 1 (G84 820 1)) → (isO W0 1 (G84 820 1) ∧ (((G84 (G84 820 1) 11 = -1 ∨ ∃ n, isA W0 0 n (G84 (G84 820 1) 11)) ∧ ∀ v, W0.2 (G84 820 1) 11 = some v → G84 (G84 820 1) 11 = v) → (inI (G84 820 3) → (∃ n89, isA W0 0 n89 (G84 (G84 820 1) 11) ∧ ((0 : Int) ≤ G (G 820 1) 15 ∧ ((G (G 820 1) 15 : Int) < n89 ∧ (∀ G93 : gS, G93 = uG G84 (G84 (G84 820 1) 11) (G (G 820 1) 15) (G84 820 3) → ((G93 820 1 = -1 ∨ isO W0 1 (G93 820 1)) → (isO W0 1 (G93 820 1) ∧ (((G93 (G93 820 1) 12 = -1 ∨ ∃ n, isA W0 1 n (G93 (G93 820 1) 12)) ∧ ∀ v, W0.2 (G93 820 1) 12 = some v → G93 (G93 820 1) 12 = v) → (∃ n97, isA W0 1 n97 (G93 (G93 820 1) 12) ∧ ((0 : Int) ≤ G (G 820 1) 15 ∧ ((G (G 820 1) 15 : Int) < n97 ∧ (∀ G101 : gS, G101 = uG G93 (G93 (G93 820 1) 12) (G (G 820 1) 15) (l2) → ((G101 820 1 = -1 ∨ isO W0 1 (G101 820 1)) → (isO W0 1 (G101 820 1) ∧ (((G101 (G101 820 1) 13 = -1 ∨ ∃ n, isA W0 5 n (G101 (G101 820 1) 13)) ∧ ∀ v, W0.2 (G101 820 1) 13 = some v → G101 (G101 820 1) 13 = v) → (∃ n105, isA W0 5 n105 (G101 (G101 820 1) 13) ∧ ((0 : Int) ≤ G (G 820 1) 15 ∧ ((G (G 820 1) 15 : Int) < n105 ∧ (W0.2 (G101 (G101 820 1) 13) (G (G 820 1) 15) = none ∧ ((l4 = -1 ∨ isO W0 7 (l4)) ∧ (∀ G111 : gS, G111 = uG G101 (G101 (G101 820 1) 13) (G (G 820 1) 15) (l4) → ((G111 820 1 = -1 ∨ isO W0 1 (G111 820 1)) → (isO W0 1 (G111 820 1) ∧ (((G111 (G111 820 1) 14 = -1 ∨ ∃ n, isA W0 1 n (G111 (G111 820 1) 14)) ∧ ∀ v, W0.2 (G111 820 1) 14 = some v → G111 (G111 820 1) 14 = v) → (∃ n115, isA W0 1 n115 (G111 (G111 820 1) 14) ∧ ((0 : Int) ≤ G (G 820 1) 15 ∧ ((G (G 820 1) 15 : Int) < n115 ∧ (∀ G119 : gS, G119 = uG G111 (G111 (G111 820 1) 14) (G (G 820 1) 15) (l5) → ((G119 820 1 = -1 ∨ isO W0 1 (G119 820 1)) → (isO W0 1 (G119 820 1) ∧ (inI (G119 (G119 820 1) 15) → (inI ((G119 (G119 820 1) 15) + 1) ∧ (∀ G124 : gS, G124 = uG G119 (G119 820 1) 15 ((G119 (G119 820 1) 15) + 1) → ((G124 820 2 = -1 ∨ isO W0 10 (G124 820 2)) → (isO W0 10 (G124 820 2) ∧ (inI (G124 (G124 820 2) 16) → (inI ((G (G 820 1) 15) - (G124 (G124 820 2) 16)) ∧ Q ((G (G 820 1) 15) - (G124 (G124 820 2) 16)) G124))))))))))))))))))))))))))))))))))))))))))))))))))) ∧ (¬ (G (G 820 1) 15 < n70) → PX3_useOf_167 J l1 l2 l4 l5 s0 G Q))))))))))) ∧ (¬ (s0 = 0) → PX3_useOf_167 J l1 l2 l4 l5 s0 G Q))
set_option maxRecDepth 20000 in
theorem TX3_useOf_142 {j : Nat → rx_K} {J : Nat → List Int → gS → (Int → gS → Prop) → Prop} {l1 : Int} {l2 : Int} {l3 : Nat} {l4 : Int} {l5 : Int} {l6 : Nat} {l7 : Int} {l8 : Nat} {s0 : Int} {G : gS} {Q : Int → gS → Prop} (hl1 : inI l1) (hl2 : inL l2) (hl3 : l3 % 8 ≠ 1) (hl5 : inL l5) (hl6 : l6 % 8 ≠ 1) (hl7 : inI l7) (hl8 : l8 % 8 ≠ 1) (hs0 : inI s0) (hj0 : ∀ (l1 : Int) (l2 : Int) (l3 : Nat) (l4 : Int) (l5 : Int) (l6 : Nat) (l7 : Int) (l8 : Nat) (G : gS), (inI l1) → (inL l2) → (l3 % 8 ≠ 1) → (inL l5) → (l6 % 8 ≠ 1) → (inI l7) → (l8 % 8 ≠ 1) → J 0 [l1, l2, l4, l5, l7] G Q → Tg W0 (j 0) [rf (820), cI (l1), cL (l2), l3, rf (l4), cL (l5), l6, cI (l7), l8] [] G (fun r G => ∃ v, r = cI v ∧ inI v ∧ Q v G)) (h : PX3_useOf_142 J l1 l2 l4 l5 l7 s0 G Q) : Tg W0 (vX3_useOf_142 j) [rf (820), cI (l1), cL (l2), l3, rf (l4), cL (l5), l6, cI (l7), l8] [cI (s0)] G (fun r G => ∃ v, r = cI v ∧ inI v ∧ Q v G) := by
  unfold PX3_useOf_142 at h
  unfold vX3_useOf_142
  refine g_st (lv' := [_, _, _, _, _, _, _, _, _]) (is_I _) (Nat.le_of_ble_eq_true rfl) (Or.inr hl6) rfl ?_
  refine g_ld (v := cI _) rfl (is_I _) ?_
  refine g_eq1 hs0 (fun b63 => ?_) (fun b63 => ?_)
  · replace h := h.1 b63
    unfold vX3_useOf_149
    refine g_ld (v := rf _) rfl (is_R _) ?_
    refine g_getR (kz := 1) (c := 1) oC3 rfl (Nat.le_of_ble_eq_true rfl) rfl (by decide) fun i64 => ?_
    replace h := h i64
    obtain ⟨q65, h⟩ := h
    refine g_getI (kz := 15) q65 rfl (Nat.le_of_ble_eq_true rfl) rfl fun i66 => ?_
    replace h := h i66
    refine g_ld (v := rf _) rfl (is_R _) ?_
    refine g_getR (kz := 1) (c := 1) oC3 rfl (Nat.le_of_ble_eq_true rfl) rfl (by decide) fun i67 => ?_
    replace h := h i67
    obtain ⟨q68, h⟩ := h
    refine g_getAF (kz := 10) (c := 0) q68 rfl (Nat.le_of_ble_eq_true rfl) rfl fun i69 => ?_
    replace h := h i69
    obtain ⟨n70, q71, h⟩ := h
    refine g_alen q71 ?_
    obtain ⟨q72, h⟩ := h
    refine g_lt2 i66 q72 (fun b73 => ?_) (fun b73 => ?_)
    · replace h := h.1 b73
      unfold vX3_useOf_169
      refine g_ld (v := rf _) rfl (is_R _) ?_
      refine g_getR (kz := 1) (c := 1) oC3 rfl (Nat.le_of_ble_eq_true rfl) rfl (by decide) fun i74 => ?_
      replace h := h i74
      obtain ⟨q75, h⟩ := h
      refine g_getI (kz := 15) q75 rfl (Nat.le_of_ble_eq_true rfl) rfl fun i76 => ?_
      replace h := h i76
      refine g_st (lv' := [_, _, _, _, _, _, _, _, _]) (is_I _) (Nat.le_of_ble_eq_true rfl) (Or.inr (n1_I _)) rfl ?_
      refine g_ld (v := rf _) rfl (is_R _) ?_
      refine g_getR (kz := 1) (c := 1) oC3 rfl (Nat.le_of_ble_eq_true rfl) rfl (by decide) fun i77 => ?_
      replace h := h i77
      obtain ⟨q78, h⟩ := h
      refine g_getAF (kz := 10) (c := 0) q78 rfl (Nat.le_of_ble_eq_true rfl) rfl fun i79 => ?_
      replace h := h i79
      refine g_ld (v := cI _) rfl (is_I _) ?_
      refine g_ld (v := cI _) rfl (is_I _) ?_
      obtain ⟨n80, q81, h⟩ := h
      obtain ⟨q82, q83, h⟩ := h
      refine g_astI q81 q82 q83 hl1 (nfI q81) ?_
      replace h := h _ rfl
      refine g_ld (v := rf _) rfl (is_R _) ?_
      refine g_getR (kz := 1) (c := 1) oC3 rfl (Nat.le_of_ble_eq_true rfl) rfl (by decide) fun i85 => ?_
      replace h := h i85
      obtain ⟨q86, h⟩ := h
      refine g_getAF (kz := 11) (c := 0) q86 rfl (Nat.le_of_ble_eq_true rfl) rfl fun i87 => ?_
      replace h := h i87
      refine g_ld (v := cI _) rfl (is_I _) ?_
      refine g_ld (v := rf _) rfl (is_R _) ?_
      refine g_getI (kz := 3) oC3 rfl (Nat.le_of_ble_eq_true rfl) rfl fun i88 => ?_
      replace h := h i88
      obtain ⟨n89, q90, h⟩ := h
      obtain ⟨q91, q92, h⟩ := h
      refine g_astI q90 q91 q92 i88 (nfI q90) ?_
      replace h := h _ rfl
      refine g_ld (v := rf _) rfl (is_R _) ?_
      refine g_getR (kz := 1) (c := 1) oC3 rfl (Nat.le_of_ble_eq_true rfl) rfl (by decide) fun i94 => ?_
      replace h := h i94
      obtain ⟨q95, h⟩ := h
      refine g_getAF (kz := 12) (c := 1) q95 rfl (Nat.le_of_ble_eq_true rfl) rfl fun i96 => ?_
      replace h := h i96
      refine g_ld (v := cI _) rfl (is_I _) ?_
      refine g_ld (v := cL _) rfl (is_L _) ?_
      obtain ⟨n97, q98, h⟩ := h
      obtain ⟨q99, q100, h⟩ := h
      refine g_astL q98 q99 q100 hl2 (nfL q98) ?_
      replace h := h _ rfl
      refine g_ld (v := rf _) rfl (is_R _) ?_
      unfold vX3_useOf_215
      refine g_getR (kz := 1) (c := 1) oC3 rfl (Nat.le_of_ble_eq_true rfl) rfl (by decide) fun i102 => ?_
      replace h := h i102
      obtain ⟨q103, h⟩ := h
      refine g_getAF (kz := 13) (c := 5) q103 rfl (Nat.le_of_ble_eq_true rfl) rfl fun i104 => ?_
      replace h := h i104
      refine g_ld (v := cI _) rfl (is_I _) ?_
      refine g_ld (v := rf _) rfl (is_R _) ?_
      obtain ⟨n105, q106, h⟩ := h
      obtain ⟨q107, q108, q109, h⟩ := h
      obtain ⟨q110, h⟩ := h
      refine g_aastR (c := 7) q106 q107 q108 rfl (by decide) q110 q109 ?_
      replace h := h _ rfl
      refine g_ld (v := rf _) rfl (is_R _) ?_
      refine g_getR (kz := 1) (c := 1) oC3 rfl (Nat.le_of_ble_eq_true rfl) rfl (by decide) fun i112 => ?_
      replace h := h i112
      obtain ⟨q113, h⟩ := h
      refine g_getAF (kz := 14) (c := 1) q113 rfl (Nat.le_of_ble_eq_true rfl) rfl fun i114 => ?_
      replace h := h i114
      refine g_ld (v := cI _) rfl (is_I _) ?_
      refine g_ld (v := cL _) rfl (is_L _) ?_
      obtain ⟨n115, q116, h⟩ := h
      obtain ⟨q117, q118, h⟩ := h
      refine g_astL q116 q117 q118 hl5 (nfL q116) ?_
      replace h := h _ rfl
      refine g_ld (v := rf _) rfl (is_R _) ?_
      refine g_getR (kz := 1) (c := 1) oC3 rfl (Nat.le_of_ble_eq_true rfl) rfl (by decide) fun i120 => ?_
      replace h := h i120
      refine g_dup (ct_R _) ?_
      obtain ⟨q121, h⟩ := h
      refine g_getI (kz := 15) q121 rfl (Nat.le_of_ble_eq_true rfl) rfl fun i122 => ?_
      replace h := h i122
      refine g_const (v := cI (1)) rfl ?_
      refine g_add ?_
      obtain ⟨q123, h⟩ := h
      refine g_putI (kz := 15) q121 rfl (Nat.le_of_ble_eq_true rfl) rfl q123 (nf1_15 q121) ?_
      replace h := h _ rfl
      refine g_ld (v := cI _) rfl (is_I _) ?_
      refine g_ld (v := rf _) rfl (is_R _) ?_
      refine g_getR (kz := 2) (c := 10) oC3 rfl (Nat.le_of_ble_eq_true rfl) rfl (by decide) fun i125 => ?_
      replace h := h i125
      obtain ⟨q126, h⟩ := h
      refine g_getI (kz := 16) q126 rfl (Nat.le_of_ble_eq_true rfl) rfl fun i127 => ?_
      replace h := h i127
      refine g_sub ?_
      obtain ⟨q128, h⟩ := h
      exact g_ret1 (is_I _) ⟨_, rfl, q128, h⟩
    · replace h := h.2 b73
      exact TX3_useOf_167 hl1 hl2 hl3 hl5 hl6 hs0 hl8 hj0 h
  · replace h := h.2 b63
    exact TX3_useOf_167 hl1 hl2 hl3 hl5 hl6 hs0 hl8 hj0 h
def PX3_useOf_141 (J : Nat → List Int → gS → (Int → gS → Prop) → Prop) (l1 : Int) (l2 : Int) (l4 : Int) (l5 : Int) (l7 : Int) (G : gS) (Q : Int → gS → Prop) : Prop :=
  PX3_useOf_142 J l1 l2 l4 l5 l7 0 G Q
set_option maxRecDepth 20000 in
theorem TX3_useOf_141 {j : Nat → rx_K} {J : Nat → List Int → gS → (Int → gS → Prop) → Prop} {l1 : Int} {l2 : Int} {l3 : Nat} {l4 : Int} {l5 : Int} {l6 : Nat} {l7 : Int} {l8 : Nat} {G : gS} {Q : Int → gS → Prop} (hl1 : inI l1) (hl2 : inL l2) (hl3 : l3 % 8 ≠ 1) (hl5 : inL l5) (hl6 : l6 % 8 ≠ 1) (hl7 : inI l7) (hl8 : l8 % 8 ≠ 1) (hj0 : ∀ (l1 : Int) (l2 : Int) (l3 : Nat) (l4 : Int) (l5 : Int) (l6 : Nat) (l7 : Int) (l8 : Nat) (G : gS), (inI l1) → (inL l2) → (l3 % 8 ≠ 1) → (inL l5) → (l6 % 8 ≠ 1) → (inI l7) → (l8 % 8 ≠ 1) → J 0 [l1, l2, l4, l5, l7] G Q → Tg W0 (j 0) [rf (820), cI (l1), cL (l2), l3, rf (l4), cL (l5), l6, cI (l7), l8] [] G (fun r G => ∃ v, r = cI v ∧ inI v ∧ Q v G)) (h : PX3_useOf_141 J l1 l2 l4 l5 l7 G Q) : Tg W0 (vX3_useOf_141 j) [rf (820), cI (l1), cL (l2), l3, rf (l4), cL (l5), l6, cI (l7), l8] [] G (fun r G => ∃ v, r = cI v ∧ inI v ∧ Q v G) := by
  unfold PX3_useOf_141 at h
  unfold vX3_useOf_141
  refine g_const (v := cI (0)) rfl ?_
  exact TX3_useOf_142 hl1 hl2 hl3 hl5 hl6 hl7 hl8 ⟨by omega, by omega⟩ hj0 h
def PX3_useOf_116 (J : Nat → List Int → gS → (Int → gS → Prop) → Prop) (l1 : Int) (l2 : Int) (l4 : Int) (l5 : Int) (l7 : Int) (l8 : Int) (G : gS) (Q : Int → gS → Prop) : Prop :=
  (inI (l7 + 1) ∧ J 0 [l1, l2, l4, l5, l7 + 1] G Q)
set_option maxRecDepth 20000 in
theorem TX3_useOf_116 {j : Nat → rx_K} {J : Nat → List Int → gS → (Int → gS → Prop) → Prop} {l1 : Int} {l2 : Int} {l3 : Nat} {l4 : Int} {l5 : Int} {l6 : Nat} {l7 : Int} {l8 : Int} {G : gS} {Q : Int → gS → Prop} (hl1 : inI l1) (hl2 : inL l2) (hl3 : l3 % 8 ≠ 1) (hl5 : inL l5) (hl6 : l6 % 8 ≠ 1) (hl7 : inI l7) (hj0 : ∀ (l1 : Int) (l2 : Int) (l3 : Nat) (l4 : Int) (l5 : Int) (l6 : Nat) (l7 : Int) (l8 : Nat) (G : gS), (inI l1) → (inL l2) → (l3 % 8 ≠ 1) → (inL l5) → (l6 % 8 ≠ 1) → (inI l7) → (l8 % 8 ≠ 1) → J 0 [l1, l2, l4, l5, l7] G Q → Tg W0 (j 0) [rf (820), cI (l1), cL (l2), l3, rf (l4), cL (l5), l6, cI (l7), l8] [] G (fun r G => ∃ v, r = cI v ∧ inI v ∧ Q v G)) (h : PX3_useOf_116 J l1 l2 l4 l5 l7 l8 G Q) : Tg W0 (vX3_useOf_116 j) [rf (820), cI (l1), cL (l2), l3, rf (l4), cL (l5), l6, cI (l7), rf (l8)] [] G (fun r G => ∃ v, r = cI v ∧ inI v ∧ Q v G) := by
  unfold PX3_useOf_116 at h
  unfold vX3_useOf_116
  refine g_inc (lv' := [_, _, _, _, _, _, _, _, _]) rfl (Nat.le_of_ble_eq_true rfl) (Or.inr hl6) rfl ?_
  obtain ⟨q62, h⟩ := h
  exact hj0 _ _ _ _ _ _ _ _ _ hl1 hl2 hl3 hl5 hl6 q62 (n1_R _) h
def PX3_useOf_105 (J : Nat → List Int → gS → (Int → gS → Prop) → Prop) (l1 : Int) (l2 : Int) (l4 : Int) (l5 : Int) (l7 : Int) (l8 : Int) (G : gS) (Q : Int → gS → Prop) : Prop :=
  ((G 820 2 = -1 ∨ isO W0 10 (G 820 2)) → (isO W0 10 (G 820 2) ∧ (inI (G (G 820 2) 16) → (inI (l7 - (G (G 820 2) 16)) ∧ Q (l7 - (G (G 820 2) 16)) G))))
set_option maxRecDepth 20000 in
theorem TX3_useOf_105 {j : Nat → rx_K} {J : Nat → List Int → gS → (Int → gS → Prop) → Prop} {l1 : Int} {l2 : Int} {l3 : Nat} {l4 : Int} {l5 : Int} {l6 : Nat} {l7 : Int} {l8 : Int} {G : gS} {Q : Int → gS → Prop} (hl1 : inI l1) (hl2 : inL l2) (hl3 : l3 % 8 ≠ 1) (hl5 : inL l5) (hl6 : l6 % 8 ≠ 1) (hl7 : inI l7) (hj0 : ∀ (l1 : Int) (l2 : Int) (l3 : Nat) (l4 : Int) (l5 : Int) (l6 : Nat) (l7 : Int) (l8 : Nat) (G : gS), (inI l1) → (inL l2) → (l3 % 8 ≠ 1) → (inL l5) → (l6 % 8 ≠ 1) → (inI l7) → (l8 % 8 ≠ 1) → J 0 [l1, l2, l4, l5, l7] G Q → Tg W0 (j 0) [rf (820), cI (l1), cL (l2), l3, rf (l4), cL (l5), l6, cI (l7), l8] [] G (fun r G => ∃ v, r = cI v ∧ inI v ∧ Q v G)) (h : PX3_useOf_105 J l1 l2 l4 l5 l7 l8 G Q) : Tg W0 (vX3_useOf_105 j) [rf (820), cI (l1), cL (l2), l3, rf (l4), cL (l5), l6, cI (l7), rf (l8)] [] G (fun r G => ∃ v, r = cI v ∧ inI v ∧ Q v G) := by
  unfold PX3_useOf_105 at h
  unfold vX3_useOf_105
  refine g_ld (v := cI _) rfl (is_I _) ?_
  refine g_ld (v := rf _) rfl (is_R _) ?_
  refine g_getR (kz := 2) (c := 10) oC3 rfl (Nat.le_of_ble_eq_true rfl) rfl (by decide) fun i58 => ?_
  replace h := h i58
  obtain ⟨q59, h⟩ := h
  refine g_getI (kz := 16) q59 rfl (Nat.le_of_ble_eq_true rfl) rfl fun i60 => ?_
  replace h := h i60
  refine g_sub ?_
  obtain ⟨q61, h⟩ := h
  exact g_ret1 (is_I _) ⟨_, rfl, q61, h⟩
def PX3_useOf_9 (J : Nat → List Int → gS → (Int → gS → Prop) → Prop) (l1 : Int) (l2 : Int) (l4 : Int) (l5 : Int) (l7 : Int) (G : gS) (Q : Int → gS → Prop) : Prop :=
  ((G 820 1 = -1 ∨ isO W0 1 (G 820 1)) → (isO W0 1 (G 820 1) ∧ (inI (G (G 820 1) 15) → ((l7 < G (G 820 1) 15 → ((G 820 1 = -1 ∨ isO W0 1 (G 820 1)) → (isO W0 1 (G 820 1) ∧ (((G (G 820 1) 13 = -1 ∨ ∃ n, isA W0 5 n (G (G 820 1) 13)) ∧ ∀ v, W0.2 (G 820 1) 13 = some v → G (G 820 1) 13 = v) → (∃ n11, isA W0 5 n11 (G (G 820 1) 13) ∧ ((0 : Int) ≤ l7 ∧ ((l7 : Int) < n11 ∧ (((G (G (G 820 1) 13) l7 = -1 ∨ isO W0 7 (G (G (G 820 1) 13) l7)) ∧ ∀ v, W0.2 (G (G 820 1) 13) l7 = some v → G (G (G 820 1) 13) l7 = v) → ((G 820 1 = -1 ∨ isO W0 1 (G 820 1)) → (isO W0 1 (G 820 1) ∧ (((G (G 820 1) 10 = -1 ∨ ∃ n, isA W0 0 n (G (G 820 1) 10)) ∧ ∀ v, W0.2 (G 820 1) 10 = some v → G (G 820 1) 10 = v) → (∃ n19, isA W0 0 n19 (G (G 820 1) 10) ∧ ((0 : Int) ≤ l7 ∧ ((l7 : Int) < n19 ∧ (inI (G (G (G 820 1) 10) l7) → ((G (G (G 820 1) 10) l7 = l1 → ((G 820 1 = -1 ∨ isO W0 1 (G 820 1)) → (isO W0 1 (G 820 1) ∧ (((G (G 820 1) 12 = -1 ∨ ∃ n, isA W0 1 n (G (G 820 1) 12)) ∧ ∀ v, W0.2 (G 820 1) 12 = some v → G (G 820 1) 12 = v) → (∃ n28, isA W0 1 n28 (G (G 820 1) 12) ∧ ((0 : Int) ≤ l7 ∧ ((l7 : Int) < n28 ∧ (inL (G (G (G 820 1) 12) l7) → ((G (G (G 820 1) 12) l7 = l2 → ((G 820 1 = -1 ∨ isO W0 1 (G 820 1)) → (isO W0 1 (G 820 1) ∧ (((G (G 820 1) 14 = -1 ∨ ∃ n, isA W0 1 n (G (G 820 1) 14)) ∧ ∀ v, W0.2 (G 820 1) 14 = some v → G (G 820 1) 14 = v) → (∃ n37, isA W0 1 n37 (G (G 820 1) 14) ∧ ((0 : Int) ≤ l7 ∧ ((l7 : Int) < n37 ∧ (inL (G (G (G 820 1) 14) l7) → ((G (G (G 820 1) 14) l7 = l5 → ((-1 : Int) ≤ G (G (G 820 1) 13) l7 ∧ ((-1 : Int) ≤ l4 ∧ ((G (G (G 820 1) 13) l7 = l4 → PX3_useOf_105 J l1 l2 l4 l5 l7 (G (G (G 820 1) 13) l7) G Q) ∧ (¬ (G (G (G 820 1) 13) l7 = l4) → ((G (G (G 820 1) 13) l7 < 0 → PX3_useOf_116 J l1 l2 l4 l5 l7 (G (G (G 820 1) 13) l7) G Q) ∧ (0 ≤ G (G (G 820 1) 13) l7 → ((l4 < 0 → PX3_useOf_116 J l1 l2 l4 l5 l7 (G (G (G 820 1) 13) l7) G Q) ∧ (0 ≤ l4 → (isO W0 7 (G (G (G 820 1) 13) l7) ∧ PX7_like (G (G (G 820 1) 13) l7) l4 G (fun r50 G49 => (0 ≤ r50 ∧ r50 ≤ 1) → ((r50 = 0 → PX3_useOf_116 J l1 l2 l4 l5 l7 (G (G (G 820 1) 13) l7) G49 Q) ∧ (¬ (r50 = 0) → PX3_useOf_105 J l1 l2 l4 l5 l7 (G (G (G 820 1) 13) l7) G49 Q))))))))))))) ∧ (¬ (G (G (G 820 1) 14) l7 = l5) → PX3_useOf_116 J l1 l2 l4 l5 l7 (G (G (G 820 1) 13) l7) G Q)))))))))) ∧ (¬ (G (G (G 820 1) 12) l7 = l2) → PX3_useOf_116 J l1 l2 l4 l5 l7 (G (G (G 820 1) 13) l7) G Q)))))))))) ∧ (¬ (G (G (G 820 1) 10) l7 = l1) → PX3_useOf_116 J l1 l2 l4 l5 l7 (G (G (G 820 1) 13) l7) G Q))))))))))))))))) ∧ (¬ (l7 < G (G 820 1) 15) → ((l1 = 17 → PX3_isFit l2 l5 G (fun r55 G54 => (0 ≤ r55 ∧ r55 ≤ 1) → ((r55 = 0 → PX3_useOf_142 J l1 l2 l4 l5 l7 1 G54 Q) ∧ (¬ (r55 = 0) → PX3_useOf_141 J l1 l2 l4 l5 l7 G54 Q)))) ∧ (¬ (l1 = 17) → PX3_useOf_141 J l1 l2 l4 l5 l7 G Q)))))))
set_option maxRecDepth 20000 in
theorem TX3_useOf_9 {j : Nat → rx_K} {J : Nat → List Int → gS → (Int → gS → Prop) → Prop} {l1 : Int} {l2 : Int} {l3 : Nat} {l4 : Int} {l5 : Int} {l6 : Nat} {l7 : Int} {l8 : Nat} {G : gS} {Q : Int → gS → Prop} (hl1 : inI l1) (hl2 : inL l2) (hl3 : l3 % 8 ≠ 1) (hl5 : inL l5) (hl6 : l6 % 8 ≠ 1) (hl7 : inI l7) (hl8 : l8 % 8 ≠ 1) (hj0 : ∀ (l1 : Int) (l2 : Int) (l3 : Nat) (l4 : Int) (l5 : Int) (l6 : Nat) (l7 : Int) (l8 : Nat) (G : gS), (inI l1) → (inL l2) → (l3 % 8 ≠ 1) → (inL l5) → (l6 % 8 ≠ 1) → (inI l7) → (l8 % 8 ≠ 1) → J 0 [l1, l2, l4, l5, l7] G Q → Tg W0 (j 0) [rf (820), cI (l1), cL (l2), l3, rf (l4), cL (l5), l6, cI (l7), l8] [] G (fun r G => ∃ v, r = cI v ∧ inI v ∧ Q v G)) (h : PX3_useOf_9 J l1 l2 l4 l5 l7 G Q) : Tg W0 (vX3_useOf_9 j) [rf (820), cI (l1), cL (l2), l3, rf (l4), cL (l5), l6, cI (l7), l8] [] G (fun r G => ∃ v, r = cI v ∧ inI v ∧ Q v G) := by
  unfold PX3_useOf_9 at h
  unfold vX3_useOf_9
  refine g_ld (v := cI _) rfl (is_I _) ?_
  refine g_ld (v := rf _) rfl (is_R _) ?_
  refine g_getR (kz := 1) (c := 1) oC3 rfl (Nat.le_of_ble_eq_true rfl) rfl (by decide) fun i4 => ?_
  replace h := h i4
  obtain ⟨q5, h⟩ := h
  refine g_getI (kz := 15) q5 rfl (Nat.le_of_ble_eq_true rfl) rfl fun i6 => ?_
  replace h := h i6
  refine g_lt2 hl7 i6 (fun b7 => ?_) (fun b7 => ?_)
  · replace h := h.1 b7
    unfold vX3_useOf_21
    refine g_ld (v := rf _) rfl (is_R _) ?_
    refine g_getR (kz := 1) (c := 1) oC3 rfl (Nat.le_of_ble_eq_true rfl) rfl (by decide) fun i8 => ?_
    replace h := h i8
    obtain ⟨q9, h⟩ := h
    refine g_getAF (kz := 13) (c := 5) q9 rfl (Nat.le_of_ble_eq_true rfl) rfl fun i10 => ?_
    replace h := h i10
    refine g_ld (v := cI _) rfl (is_I _) ?_
    obtain ⟨n11, q12, h⟩ := h
    obtain ⟨q13, q14, h⟩ := h
    refine g_aldRF (c := 7) q12 q13 q14 rfl (by decide) fun i15 => ?_
    replace h := h i15
    refine g_st (lv' := [_, _, _, _, _, _, _, _, _]) (is_R _) (Nat.le_of_ble_eq_true rfl) (Or.inr (n1_I _)) rfl ?_
    refine g_ld (v := rf _) rfl (is_R _) ?_
    refine g_getR (kz := 1) (c := 1) oC3 rfl (Nat.le_of_ble_eq_true rfl) rfl (by decide) fun i16 => ?_
    replace h := h i16
    obtain ⟨q17, h⟩ := h
    refine g_getAF (kz := 10) (c := 0) q17 rfl (Nat.le_of_ble_eq_true rfl) rfl fun i18 => ?_
    replace h := h i18
    refine g_ld (v := cI _) rfl (is_I _) ?_
    obtain ⟨n19, q20, h⟩ := h
    obtain ⟨q21, q22, h⟩ := h
    refine g_aldI q20 q21 q22 rfl fun i23 => ?_
    replace h := h i23
    refine g_ld (v := cI _) rfl (is_I _) ?_
    refine g_eq2 i23 hl1 (fun b24 => ?_) (fun b24 => ?_)
    · replace h := h.1 b24
      unfold vX3_useOf_47
      refine g_ld (v := rf _) rfl (is_R _) ?_
      refine g_getR (kz := 1) (c := 1) oC3 rfl (Nat.le_of_ble_eq_true rfl) rfl (by decide) fun i25 => ?_
      replace h := h i25
      obtain ⟨q26, h⟩ := h
      refine g_getAF (kz := 12) (c := 1) q26 rfl (Nat.le_of_ble_eq_true rfl) rfl fun i27 => ?_
      replace h := h i27
      refine g_ld (v := cI _) rfl (is_I _) ?_
      obtain ⟨n28, q29, h⟩ := h
      obtain ⟨q30, q31, h⟩ := h
      refine g_aldL q29 q30 q31 rfl fun i32 => ?_
      replace h := h i32
      refine g_ld (v := cL _) rfl (is_L _) ?_
      refine g_leq i32 hl2 (fun b33 => ?_) (fun b33 => ?_)
      · replace h := h.1 b33
        unfold vX3_useOf_62
        refine g_ld (v := rf _) rfl (is_R _) ?_
        refine g_getR (kz := 1) (c := 1) oC3 rfl (Nat.le_of_ble_eq_true rfl) rfl (by decide) fun i34 => ?_
        replace h := h i34
        obtain ⟨q35, h⟩ := h
        refine g_getAF (kz := 14) (c := 1) q35 rfl (Nat.le_of_ble_eq_true rfl) rfl fun i36 => ?_
        replace h := h i36
        refine g_ld (v := cI _) rfl (is_I _) ?_
        obtain ⟨n37, q38, h⟩ := h
        obtain ⟨q39, q40, h⟩ := h
        refine g_aldL q38 q39 q40 rfl fun i41 => ?_
        replace h := h i41
        refine g_ld (v := cL _) rfl (is_L _) ?_
        refine g_leq i41 hl5 (fun b42 => ?_) (fun b42 => ?_)
        · replace h := h.1 b42
          unfold vX3_useOf_78
          refine g_ld (v := rf _) rfl (is_R _) ?_
          refine g_ld (v := rf _) rfl (is_R _) ?_
          obtain ⟨q43, q44, h⟩ := h
          refine g_acmp q43 q44 (fun b45 => ?_) (fun b45 => ?_)
          · replace h := h.1 b45
            exact TX3_useOf_105 hl1 hl2 hl3 hl5 hl6 hl7 hj0 h
          · replace h := h.2 b45
            unfold vX3_useOf_85
            refine g_ld (v := rf _) rfl (is_R _) ?_
            refine g_nul (fun b46 => ?_) (fun b46 => ?_)
            · replace h := h.1 b46
              exact TX3_useOf_116 hl1 hl2 hl3 hl5 hl6 hl7 hj0 h
            · replace h := h.2 b46
              unfold vX3_useOf_90
              refine g_ld (v := rf _) rfl (is_R _) ?_
              refine g_nul (fun b47 => ?_) (fun b47 => ?_)
              · replace h := h.1 b47
                exact TX3_useOf_116 hl1 hl2 hl3 hl5 hl6 hl7 hj0 h
              · replace h := h.2 b47
                unfold vX3_useOf_95
                refine g_ld (v := rf _) rfl (is_R _) ?_
                refine g_ld (v := rf _) rfl (is_R _) ?_
                obtain ⟨q48, h⟩ := h
                refine g_callV (As := [_]) (ci := 7) q48 (fun _ => rfl) ?_
                refine g_go1 (Nat.le_of_ble_eq_true rfl) (Tn_w (TX7_like  h) fun _ G49 ⟨r50, e, i51, h⟩ => ?_)
                subst e
                refine ⟨n7_I _, ?_⟩
                replace h := h i51
                refine g_eq1 ⟨by omega, by omega⟩ (fun b52 => ?_) (fun b52 => ?_)
                · replace h := h.1 b52
                  exact TX3_useOf_116 hl1 hl2 hl3 hl5 hl6 hl7 hj0 h
                · replace h := h.2 b52
                  exact TX3_useOf_105 hl1 hl2 hl3 hl5 hl6 hl7 hj0 h
        · replace h := h.2 b42
          exact TX3_useOf_116 hl1 hl2 hl3 hl5 hl6 hl7 hj0 h
      · replace h := h.2 b33
        exact TX3_useOf_116 hl1 hl2 hl3 hl5 hl6 hl7 hj0 h
    · replace h := h.2 b24
      exact TX3_useOf_116 hl1 hl2 hl3 hl5 hl6 hl7 hj0 h
  · replace h := h.2 b7
    unfold vX3_useOf_122
    refine g_ld (v := cI _) rfl (is_I _) ?_
    refine g_const (v := cI (17)) rfl ?_
    refine g_eq2 hl1 ⟨by omega, by omega⟩ (fun b53 => ?_) (fun b53 => ?_)
    · replace h := h.1 b53
      unfold vX3_useOf_128
      refine g_ld (v := cL _) rfl (is_L _) ?_
      refine g_ld (v := cL _) rfl (is_L _) ?_
      refine g_callS (As := [_, _]) (fun _ => rfl) ?_
      refine g_go1 (Nat.le_of_ble_eq_true rfl) (Tn_w (TX3_isFit hl2 hl5 h) fun _ G54 ⟨r55, e, i56, h⟩ => ?_)
      subst e
      refine ⟨n7_I _, ?_⟩
      replace h := h i56
      refine g_eq1 ⟨by omega, by omega⟩ (fun b57 => ?_) (fun b57 => ?_)
      · replace h := h.1 b57
        unfold vX3_useOf_137
        refine g_const (v := cI (1)) rfl ?_
        exact TX3_useOf_142 hl1 hl2 hl3 hl5 hl6 hl7 hl8 ⟨by omega, by omega⟩ hj0 h
      · replace h := h.2 b57
        exact TX3_useOf_141 hl1 hl2 hl3 hl5 hl6 hl7 hl8 hj0 h
    · replace h := h.2 b53
      exact TX3_useOf_141 hl1 hl2 hl3 hl5 hl6 hl7 hl8 hj0 h
def PX3_useOf_0 (J : Nat → List Int → gS → (Int → gS → Prop) → Prop) (a1 : Int) (a2 : Int) (a4 : Int) (a5 : Int) (G : gS) (Q : Int → gS → Prop) : Prop :=
  ((G 820 2 = -1 ∨ isO W0 10 (G 820 2)) → (isO W0 10 (G 820 2) ∧ (inI (G (G 820 2) 16) → PX3_useOf_9 J a1 a2 a4 a5 (G (G 820 2) 16) G Q)))
set_option maxRecDepth 20000 in
theorem TX3_useOf_0 {j : Nat → rx_K} {J : Nat → List Int → gS → (Int → gS → Prop) → Prop} {a1 : Int} {a2 : Int} {a4 : Int} {a5 : Int} {G : gS} {Q : Int → gS → Prop} (ha1 : inI a1) (ha2 : inL a2) (ha5 : inL a5) (hj0 : ∀ (l1 : Int) (l2 : Int) (l3 : Nat) (l4 : Int) (l5 : Int) (l6 : Nat) (l7 : Int) (l8 : Nat) (G : gS), (inI l1) → (inL l2) → (l3 % 8 ≠ 1) → (inL l5) → (l6 % 8 ≠ 1) → (inI l7) → (l8 % 8 ≠ 1) → J 0 [l1, l2, l4, l5, l7] G Q → Tg W0 (j 0) [rf (820), cI (l1), cL (l2), l3, rf (l4), cL (l5), l6, cI (l7), l8] [] G (fun r G => ∃ v, r = cI v ∧ inI v ∧ Q v G)) (h : PX3_useOf_0 J a1 a2 a4 a5 G Q) : Tg W0 (vX3_useOf_0 j) [rf (820), cI (a1), cL (a2), 7, rf (a4), cL (a5), 7, 7, 7] [] G (fun r G => ∃ v, r = cI v ∧ inI v ∧ Q v G) := by
  unfold PX3_useOf_0 at h
  unfold vX3_useOf_0
  refine g_ld (v := rf _) rfl (is_R _) ?_
  refine g_getR (kz := 2) (c := 10) oC3 rfl (Nat.le_of_ble_eq_true rfl) rfl (by decide) fun i1 => ?_
  replace h := h i1
  obtain ⟨q2, h⟩ := h
  refine g_getI (kz := 16) q2 rfl (Nat.le_of_ble_eq_true rfl) rfl fun i3 => ?_
  replace h := h i3
  refine g_st (lv' := [_, _, _, _, _, _, _, _, _]) (is_I _) (Nat.le_of_ble_eq_true rfl) (Or.inr (show 7 % 8 ≠ 1 by decide)) rfl ?_
  exact TX3_useOf_9 ha1 ha2 (show 7 % 8 ≠ 1 by decide) ha5 (show 7 % 8 ≠ 1 by decide) i3 (show 7 % 8 ≠ 1 by decide) hj0 h
def PX3_useOf_J : Nat → Nat → List Int → gS → (Int → gS → Prop) → Prop
  | 0, _, _, _, _ => False
  | f + 1, h, L, G, Q => match h, L with
    | 0, [l1, l2, l4, l5, l7] => PX3_useOf_9 (PX3_useOf_J f) l1 l2 l4 l5 l7 G Q
    | _, _ => False
theorem TX3_useOf_J {Q : Int → gS → Prop} : ∀ f N : Nat, f ≤ N → (∀ (l1 : Int) (l2 : Int) (l3 : Nat) (l4 : Int) (l5 : Int) (l6 : Nat) (l7 : Int) (l8 : Nat) (G : gS), (inI l1) → (inL l2) → (l3 % 8 ≠ 1) → (inL l5) → (l6 % 8 ≠ 1) → (inI l7) → (l8 % 8 ≠ 1) → (PX3_useOf_J f) 0 [l1, l2, l4, l5, l7] G Q → Tg W0 (rx_J vhX3_useOf N 0) [rf (820), cI (l1), cL (l2), l3, rf (l4), cL (l5), l6, cI (l7), l8] [] G (fun r G => ∃ v, r = cI v ∧ inI v ∧ Q v G)) := by
  intro f
  induction f with
  | zero => exact fun N _ => fun _ _ _ _ _ _ _ _ _ _ _ _ _ _ _ _ h => h.elim
  | succ f ih =>
    intro N hN
    obtain ⟨M, rfl⟩ : ∃ M, N = M + 1 := ⟨N - 1, by omega⟩
    have ih := ih M (by omega)
    exact fun _ _ _ _ _ _ _ _ _ hl1 hl2 hl3 hl5 hl6 hl7 hl8 h => show Tg W0 (vX3_useOf_9 (rx_J vhX3_useOf M)) _ _ _ _ from TX3_useOf_9 hl1 hl2 hl3 hl5 hl6 hl7 hl8 ih h
def PX3_useOf (a1 : Int) (a2 : Int) (a4 : Int) (a5 : Int) (G : gS) (Q : Int → gS → Prop) : Prop := ∃ f : Nat, f ≤ 4000000000 ∧ PX3_useOf_0 (PX3_useOf_J f) a1 a2 a4 a5 G Q
theorem TX3_useOf {a1 : Int} {a2 : Int} {a4 : Int} {a5 : Int} {G : gS} {Q : Int → gS → Prop} (ha1 : inI a1) (ha2 : inL a2) (ha5 : inL a5) (h : PX3_useOf a1 a2 a4 a5 G Q) : Tn W0 FX3_useOf [rf (820), cI (a1), cL (a2), rf (a4), cL (a5)] G (fun r G => ∃ v, r = cI v ∧ inI v ∧ Q v G) := by
  obtain ⟨f, hf, h⟩ := h
  have hJ := TX3_useOf_J (Q := Q) f 4000000000 hf
  unfold FX3_useOf
  refine g_ent (lv' := [rf (820), cI (a1), cL (a2), 7, rf (a4), cL (a5), 7, 7, 7]) (flR (flI (flL (flR (flL fl0))))) (Nat.le_of_ble_eq_true rfl) rfl ?_
  exact TX3_useOf_0 ha1 ha2 ha5 hJ h
def PX3_callSort_70 (l1 : Int) (l3 : Int) (l4 : Int) (l5 : Int) (s0 : Int) (G : gS) (Q : Int → gS → Prop) : Prop :=
  Q (s0) G
set_option maxRecDepth 20000 in
theorem TX3_callSort_70 {l1 : Int} {l2 : Nat} {l3 : Int} {l4 : Int} {l5 : Int} {s0 : Int} {G : gS} {Q : Int → gS → Prop} (hl1 : inL l1) (hl2 : l2 % 8 ≠ 1) (hl4 : inI l4) (hl5 : inI l5) (hs0 : inI s0) (h : PX3_callSort_70 l1 l3 l4 l5 s0 G Q) : Tg W0 vX3_callSort_70 [rf (820), cL (l1), l2, rf (l3), cI (l4), cI (l5)] [cI (s0)] G (fun r G => ∃ v, r = cI v ∧ inI v ∧ Q v G) := by
  unfold PX3_callSort_70 at h
  unfold vX3_callSort_70
  exact g_ret1 (is_I _) ⟨_, rfl, hs0, h⟩
def PX3_callSort_57 (l1 : Int) (l3 : Int) (l4 : Int) (l5 : Int) (s0 : Int) (G : gS) (Q : Int → gS → Prop) : Prop :=
  Q (s0) G
set_option maxRecDepth 20000 in
theorem TX3_callSort_57 {l1 : Int} {l2 : Nat} {l3 : Int} {l4 : Int} {l5 : Int} {s0 : Int} {G : gS} {Q : Int → gS → Prop} (hl1 : inL l1) (hl2 : l2 % 8 ≠ 1) (hl4 : inI l4) (hl5 : inI l5) (hs0 : inI s0) (h : PX3_callSort_57 l1 l3 l4 l5 s0 G Q) : Tg W0 vX3_callSort_57 [rf (820), cL (l1), l2, rf (l3), cI (l4), cI (l5)] [cI (s0)] G (fun r G => ∃ v, r = cI v ∧ inI v ∧ Q v G) := by
  unfold PX3_callSort_57 at h
  unfold vX3_callSort_57
  exact g_ret1 (is_I _) ⟨_, rfl, hs0, h⟩
def PX3_callSort_36 (l1 : Int) (l3 : Int) (l4 : Int) (s0 : Int) (G : gS) (Q : Int → gS → Prop) : Prop :=
  (isO W0 7 (l3) ∧ ((0 ≤ G l3 2 ∧ G l3 2 ≤ 1) → ((G l3 2 = 0 → ((s0 = 0 → PX3_callSort_70 l1 l3 l4 s0 7 G Q) ∧ (¬ (s0 = 0) → PX3_callSort_70 l1 l3 l4 s0 8 G Q))) ∧ (¬ (G l3 2 = 0) → ((s0 = 0 → PX3_callSort_57 l1 l3 l4 s0 9 G Q) ∧ (¬ (s0 = 0) → PX3_callSort_57 l1 l3 l4 s0 10 G Q))))))
set_option maxRecDepth 20000 in
theorem TX3_callSort_36 {l1 : Int} {l2 : Nat} {l3 : Int} {l4 : Int} {l5 : Nat} {s0 : Int} {G : gS} {Q : Int → gS → Prop} (hl1 : inL l1) (hl2 : l2 % 8 ≠ 1) (hl4 : inI l4) (hl5 : l5 % 8 ≠ 1) (hs0 : inI s0) (h : PX3_callSort_36 l1 l3 l4 s0 G Q) : Tg W0 vX3_callSort_36 [rf (820), cL (l1), l2, rf (l3), cI (l4), l5] [cI (s0)] G (fun r G => ∃ v, r = cI v ∧ inI v ∧ Q v G) := by
  unfold PX3_callSort_36 at h
  unfold vX3_callSort_36
  refine g_st (lv' := [_, _, _, _, _, _]) (is_I _) (Nat.le_of_ble_eq_true rfl) (Or.inr (n1_I _)) rfl ?_
  refine g_ld (v := rf _) rfl (is_R _) ?_
  obtain ⟨q15, h⟩ := h
  refine g_getZ (kz := 2) q15 rfl (Nat.le_of_ble_eq_true rfl) rfl fun i16 => ?_
  replace h := h i16
  refine g_eq1 ⟨by omega, by omega⟩ (fun b17 => ?_) (fun b17 => ?_)
  · replace h := h.1 b17
    unfold vX3_callSort_58
    refine g_ld (v := cI _) rfl (is_I _) ?_
    refine g_eq1 hs0 (fun b18 => ?_) (fun b18 => ?_)
    · replace h := h.1 b18
      unfold vX3_callSort_68
      refine g_const (v := cI (7)) rfl ?_
      exact TX3_callSort_70 hl1 hl2 hl4 hs0 ⟨by omega, by omega⟩ h
    · replace h := h.2 b18
      unfold vX3_callSort_63
      refine g_const (v := cI (8)) rfl ?_
      exact TX3_callSort_70 hl1 hl2 hl4 hs0 ⟨by omega, by omega⟩ h
  · replace h := h.2 b17
    unfold vX3_callSort_45
    refine g_ld (v := cI _) rfl (is_I _) ?_
    refine g_eq1 hs0 (fun b19 => ?_) (fun b19 => ?_)
    · replace h := h.1 b19
      unfold vX3_callSort_55
      refine g_const (v := cI (9)) rfl ?_
      exact TX3_callSort_57 hl1 hl2 hl4 hs0 ⟨by omega, by omega⟩ h
    · replace h := h.2 b19
      unfold vX3_callSort_50
      refine g_const (v := cI (10)) rfl ?_
      exact TX3_callSort_57 hl1 hl2 hl4 hs0 ⟨by omega, by omega⟩ h
def PX3_callSort_35 (l1 : Int) (l3 : Int) (l4 : Int) (G : gS) (Q : Int → gS → Prop) : Prop :=
  PX3_callSort_36 l1 l3 l4 0 G Q
set_option maxRecDepth 20000 in
theorem TX3_callSort_35 {l1 : Int} {l2 : Nat} {l3 : Int} {l4 : Int} {l5 : Nat} {G : gS} {Q : Int → gS → Prop} (hl1 : inL l1) (hl2 : l2 % 8 ≠ 1) (hl4 : inI l4) (hl5 : l5 % 8 ≠ 1) (h : PX3_callSort_35 l1 l3 l4 G Q) : Tg W0 vX3_callSort_35 [rf (820), cL (l1), l2, rf (l3), cI (l4), l5] [] G (fun r G => ∃ v, r = cI v ∧ inI v ∧ Q v G) := by
  unfold PX3_callSort_35 at h
  unfold vX3_callSort_35
  refine g_const (v := cI (0)) rfl ?_
  exact TX3_callSort_36 hl1 hl2 hl4 hl5 ⟨by omega, by omega⟩ h
def PX3_callSort_0 (a1 : Int) (a3 : Int) (G : gS) (Q : Int → gS → Prop) : Prop :=
  ((G 820 0 = -1 ∨ isO W0 11 (G 820 0)) → (isO W0 11 (G 820 0) ∧ PX11_find (G 820 0) a1 G (fun r4 G3 => inI r4 → ((r4 < 0 → PX3_callSort_35 a1 a3 r4 G3 Q) ∧ (¬ (r4 < 0) → ((G3 820 0 = -1 ∨ isO W0 11 (G3 820 0)) → (isO W0 11 (G3 820 0) ∧ ((0 : Int) ≤ r4 ∧ ((r4 : Int) < 64 ∧ (((G3 ((G3 820 0) + 1) r4 = -1 ∨ isO W0 10 (G3 ((G3 820 0) + 1) r4)) ∧ ∀ v, W0.2 ((G3 820 0) + 1) r4 = some v → G3 ((G3 820 0) + 1) r4 = v) → (isO W0 10 (G3 ((G3 820 0) + 1) r4) ∧ ((0 ≤ G3 (G3 ((G3 820 0) + 1) r4) 4 ∧ G3 (G3 ((G3 820 0) + 1) r4) 4 ≤ 1) → ((G3 (G3 ((G3 820 0) + 1) r4) 4 = 0 → PX3_callSort_35 a1 a3 r4 G3 Q) ∧ (¬ (G3 (G3 ((G3 820 0) + 1) r4) 4 = 0) → PX3_callSort_36 a1 a3 r4 1 G3 Q))))))))))))))
set_option maxRecDepth 20000 in
theorem TX3_callSort_0 {a1 : Int} {a3 : Int} {G : gS} {Q : Int → gS → Prop} (ha1 : inL a1) (h : PX3_callSort_0 a1 a3 G Q) : Tg W0 vX3_callSort_0 [rf (820), cL (a1), 7, rf (a3), 7, 7] [] G (fun r G => ∃ v, r = cI v ∧ inI v ∧ Q v G) := by
  unfold PX3_callSort_0 at h
  unfold vX3_callSort_0
  refine g_ld (v := rf _) rfl (is_R _) ?_
  refine g_getR (kz := 0) (c := 11) oC3 rfl (Nat.le_of_ble_eq_true rfl) rfl (by decide) fun i1 => ?_
  replace h := h i1
  refine g_ld (v := cL _) rfl (is_L _) ?_
  obtain ⟨q2, h⟩ := h
  refine g_callV (As := [_]) (ci := 11) q2 (fun _ => rfl) ?_
  refine g_go1 (Nat.le_of_ble_eq_true rfl) (Tn_w (TX11_find ha1 h) fun _ G3 ⟨r4, e, i5, h⟩ => ?_)
  subst e
  refine ⟨n7_I _, ?_⟩
  replace h := h i5
  refine g_st (lv' := [_, _, _, _, _, _]) (is_I _) (Nat.le_of_ble_eq_true rfl) (Or.inr (n1_R _)) rfl ?_
  refine g_ld (v := cI _) rfl (is_I _) ?_
  refine g_lt1 i5 (fun b6 => ?_) (fun b6 => ?_)
  · replace h := h.1 b6
    exact TX3_callSort_35 ha1 (show 7 % 8 ≠ 1 by decide) i5 (show 7 % 8 ≠ 1 by decide) h
  · replace h := h.2 b6
    unfold vX3_callSort_15
    refine g_ld (v := rf _) rfl (is_R _) ?_
    refine g_getR (kz := 0) (c := 11) oC3 rfl (Nat.le_of_ble_eq_true rfl) rfl (by decide) fun i7 => ?_
    replace h := h i7
    obtain ⟨q8, h⟩ := h
    refine g_getF q8 (ff11_1 q8).1 rfl (Nat.le_of_ble_eq_true rfl) (Nat.le_of_ble_eq_true rfl) ?_
    refine g_ld (v := cI _) rfl (is_I _) ?_
    obtain ⟨q9, q10, h⟩ := h
    refine g_aldRF (c := 10) (ff11_1 q8).2 q9 q10 rfl (by decide) fun i11 => ?_
    replace h := h i11
    obtain ⟨q12, h⟩ := h
    refine g_getZ (kz := 4) q12 rfl (Nat.le_of_ble_eq_true rfl) rfl fun i13 => ?_
    replace h := h i13
    refine g_eq1 ⟨by omega, by omega⟩ (fun b14 => ?_) (fun b14 => ?_)
    · replace h := h.1 b14
      exact TX3_callSort_35 ha1 (show 7 % 8 ≠ 1 by decide) i5 (show 7 % 8 ≠ 1 by decide) h
    · replace h := h.2 b14
      unfold vX3_callSort_31
      refine g_const (v := cI (1)) rfl ?_
      exact TX3_callSort_36 ha1 (show 7 % 8 ≠ 1 by decide) i5 (show 7 % 8 ≠ 1 by decide) ⟨by omega, by omega⟩ h
abbrev PX3_callSort (a1 : Int) (a3 : Int) (G : gS) (Q : Int → gS → Prop) : Prop := PX3_callSort_0 a1 a3 G Q
theorem TX3_callSort {a1 : Int} {a3 : Int} {G : gS} {Q : Int → gS → Prop} (ha1 : inL a1) (h : PX3_callSort a1 a3 G Q) : Tn W0 FX3_callSort [rf (820), cL (a1), rf (a3)] G (fun r G => ∃ v, r = cI v ∧ inI v ∧ Q v G) := by
  unfold FX3_callSort
  refine g_ent (lv' := [rf (820), cL (a1), 7, rf (a3), 7, 7]) (flR (flL (flR fl0))) (Nat.le_of_ble_eq_true rfl) rfl ?_
  exact TX3_callSort_0 ha1 h
def PX3_got_131 (l1 : Int) (l2 : Int) (G : gS) (Q : Int → gS → Prop) : Prop :=
  Q 0 G
set_option maxRecDepth 20000 in
theorem TX3_got_131 {l1 : Int} {l2 : Int} {G : gS} {Q : Int → gS → Prop}  (h : PX3_got_131 l1 l2 G Q) : Tg W0 vX3_got_131 [rf (820), rf (l1), rf (l2)] [] G (fun r G => r = 7 ∧ Q 0 G) := by
  unfold PX3_got_131 at h
  unfold vX3_got_131
  exact g_ret0 ⟨rfl, h⟩
def PX3_got_0 (a1 : Int) (G : gS) (Q : Int → gS → Prop) : Prop :=
  (isO W0 8 (a1) ∧ ((G a1 11 = -1 ∨ isO W0 7 (G a1 11)) → ((G a1 11 < 0 → ((G 820 1 = -1 ∨ isO W0 1 (G 820 1)) → (inI (G a1 4) → (isO W0 1 (G 820 1) ∧ PX1_emit (G 820 1) 3 (G a1 4) G (fun r8 G7 => inI r8 → PX3_got_131 a1 (G a1 11) G7 Q))))) ∧ (0 ≤ G a1 11 → (isO W0 7 (G a1 11) ∧ ((0 ≤ G (G a1 11) 15 ∧ G (G a1 11) 15 ≤ 1) → ((G (G a1 11) 15 = 0 → ((0 ≤ G (G a1 11) 2 ∧ G (G a1 11) 2 ≤ 1) → ((G (G a1 11) 2 = 0 → ((G 820 1 = -1 ∨ isO W0 1 (G 820 1)) → (isO W0 1 (G 820 1) ∧ PX1_emit (G 820 1) 3 0 G (fun r18 G17 => inI r18 → ((G17 820 1 = -1 ∨ isO W0 1 (G17 820 1)) → (inL (G17 a1 10) → PX3_useOf 3 (G17 a1 10) (G a1 11) (-4) G17 (fun r23 G22 => inI r23 → (isO W0 1 (G17 820 1) ∧ PX1_emit (G17 820 1) 30 r23 G22 (fun r27 G26 => inI r27 → PX3_got_131 a1 (G a1 11) G26 Q))))))))) ∧ (¬ (G (G a1 11) 2 = 0) → ((G 820 1 = -1 ∨ isO W0 1 (G 820 1)) → (inL (G a1 10) → PX3_useOf 5 (G a1 10) (G a1 11) (-4) G (fun r32 G31 => inI r32 → (isO W0 1 (G 820 1) ∧ PX1_emit (G 820 1) 32 r32 G31 (fun r36 G35 => inI r36 → PX3_got_131 a1 (G a1 11) G35 Q))))))))) ∧ (¬ (G (G a1 11) 15 = 0) → (inL (G a1 10) → (inI (G (G a1 11) 16) → PX3_useOf 16 (G a1 10) (G a1 11) (G (G a1 11) 16) G (fun r41 G40 => inI r41 → ((G40 820 1 = -1 ∨ isO W0 1 (G40 820 1)) → (inI (G40 (G a1 11) 16) → (isO W0 1 (G40 820 1) ∧ PX1_emit (G40 820 1) 2 (G40 (G a1 11) 16) G40 (fun r47 G46 => inI r47 → PX3_got_131 a1 (G a1 11) G46 Q)))))))))))))))
set_option maxRecDepth 20000 in
theorem TX3_got_0 {a1 : Int} {G : gS} {Q : Int → gS → Prop}  (h : PX3_got_0 a1 G Q) : Tg W0 vX3_got_0 [rf (820), rf (a1), 7] [] G (fun r G => r = 7 ∧ Q 0 G) := by
  unfold PX3_got_0 at h
  unfold vX3_got_0
  refine g_ld (v := rf _) rfl (is_R _) ?_
  obtain ⟨q1, h⟩ := h
  refine g_getR (kz := 11) (c := 7) q1 rfl (Nat.le_of_ble_eq_true rfl) rfl (by decide) fun i2 => ?_
  replace h := h i2
  refine g_st (lv' := [_, _, _]) (is_R _) (Nat.le_of_ble_eq_true rfl) (Or.inr (n1_R _)) rfl ?_
  refine g_ld (v := rf _) rfl (is_R _) ?_
  refine g_nul (fun b3 => ?_) (fun b3 => ?_)
  · replace h := h.1 b3
    unfold vX3_got_9
    refine g_ld (v := rf _) rfl (is_R _) ?_
    refine g_getR (kz := 1) (c := 1) oC3 rfl (Nat.le_of_ble_eq_true rfl) rfl (by decide) fun i4 => ?_
    replace h := h i4
    refine g_const (v := cI (3)) rfl ?_
    refine g_ld (v := rf _) rfl (is_R _) ?_
    refine g_getI (kz := 4) q1 rfl (Nat.le_of_ble_eq_true rfl) rfl fun i5 => ?_
    replace h := h i5
    obtain ⟨q6, h⟩ := h
    refine g_callV (As := [_, _]) (ci := 1) q6 (fun _ => rfl) ?_
    refine g_go1 (Nat.le_of_ble_eq_true rfl) (Tn_w (TX1_emit ⟨by omega, by omega⟩ i5 h) fun _ G7 ⟨r8, e, i9, h⟩ => ?_)
    subst e
    refine ⟨n7_I _, ?_⟩
    replace h := h i9
    refine g_pop (ct_I _) ?_
    exact TX3_got_131  h
  · replace h := h.2 b3
    unfold vX3_got_25
    refine g_ld (v := rf _) rfl (is_R _) ?_
    obtain ⟨q10, h⟩ := h
    refine g_getZ (kz := 15) q10 rfl (Nat.le_of_ble_eq_true rfl) rfl fun i11 => ?_
    replace h := h i11
    refine g_eq1 ⟨by omega, by omega⟩ (fun b12 => ?_) (fun b12 => ?_)
    · replace h := h.1 b12
      unfold vX3_got_65
      refine g_ld (v := rf _) rfl (is_R _) ?_
      refine g_getZ (kz := 2) q10 rfl (Nat.le_of_ble_eq_true rfl) rfl fun i13 => ?_
      replace h := h i13
      refine g_eq1 ⟨by omega, by omega⟩ (fun b14 => ?_) (fun b14 => ?_)
      · replace h := h.1 b14
        unfold vX3_got_98
        refine g_ld (v := rf _) rfl (is_R _) ?_
        refine g_getR (kz := 1) (c := 1) oC3 rfl (Nat.le_of_ble_eq_true rfl) rfl (by decide) fun i15 => ?_
        replace h := h i15
        refine g_const (v := cI (3)) rfl ?_
        refine g_const (v := cI (0)) rfl ?_
        obtain ⟨q16, h⟩ := h
        refine g_callV (As := [_, _]) (ci := 1) q16 (fun _ => rfl) ?_
        refine g_go1 (Nat.le_of_ble_eq_true rfl) (Tn_w (TX1_emit ⟨by omega, by omega⟩ ⟨by omega, by omega⟩ h) fun _ G17 ⟨r18, e, i19, h⟩ => ?_)
        subst e
        refine ⟨n7_I _, ?_⟩
        replace h := h i19
        refine g_pop (ct_I _) ?_
        refine g_ld (v := rf _) rfl (is_R _) ?_
        refine g_getR (kz := 1) (c := 1) oC3 rfl (Nat.le_of_ble_eq_true rfl) rfl (by decide) fun i20 => ?_
        replace h := h i20
        refine g_const (v := cI (30)) rfl ?_
        refine g_ld (v := rf _) rfl (is_R _) ?_
        refine g_const (v := cI (3)) rfl ?_
        refine g_ld (v := rf _) rfl (is_R _) ?_
        refine g_getL (kz := 10) q1 rfl (Nat.le_of_ble_eq_true rfl) rfl fun i21 => ?_
        replace h := h i21
        refine g_ld (v := rf _) rfl (is_R _) ?_
        refine g_const (v := cL (-4)) rfl ?_
        refine g_callV (As := [_, _, _, _]) (ci := 3) oC3 (fun _ => rfl) ?_
        refine g_go1 (by simp only [cs_c, cs_0, ct_I, ct_L, ct_R]; exact Nat.le_of_ble_eq_true rfl) (Tn_w (TX3_useOf ⟨by omega, by omega⟩ i21 ⟨by omega, by omega⟩ h) fun _ G22 ⟨r23, e, i24, h⟩ => ?_)
        subst e
        refine ⟨n7_I _, ?_⟩
        replace h := h i24
        obtain ⟨q25, h⟩ := h
        refine g_callV (As := [_, _]) (ci := 1) q25 (fun _ => rfl) ?_
        refine g_go1 (Nat.le_of_ble_eq_true rfl) (Tn_w (TX1_emit ⟨by omega, by omega⟩ i24 h) fun _ G26 ⟨r27, e, i28, h⟩ => ?_)
        subst e
        refine ⟨n7_I _, ?_⟩
        replace h := h i28
        refine g_pop (ct_I _) ?_
        exact TX3_got_131  h
      · replace h := h.2 b14
        unfold vX3_got_72
        refine g_ld (v := rf _) rfl (is_R _) ?_
        refine g_getR (kz := 1) (c := 1) oC3 rfl (Nat.le_of_ble_eq_true rfl) rfl (by decide) fun i29 => ?_
        replace h := h i29
        refine g_const (v := cI (32)) rfl ?_
        refine g_ld (v := rf _) rfl (is_R _) ?_
        refine g_const (v := cI (5)) rfl ?_
        refine g_ld (v := rf _) rfl (is_R _) ?_
        refine g_getL (kz := 10) q1 rfl (Nat.le_of_ble_eq_true rfl) rfl fun i30 => ?_
        replace h := h i30
        refine g_ld (v := rf _) rfl (is_R _) ?_
        refine g_const (v := cL (-4)) rfl ?_
        refine g_callV (As := [_, _, _, _]) (ci := 3) oC3 (fun _ => rfl) ?_
        refine g_go1 (by simp only [cs_c, cs_0, ct_I, ct_L, ct_R]; exact Nat.le_of_ble_eq_true rfl) (Tn_w (TX3_useOf ⟨by omega, by omega⟩ i30 ⟨by omega, by omega⟩ h) fun _ G31 ⟨r32, e, i33, h⟩ => ?_)
        subst e
        refine ⟨n7_I _, ?_⟩
        replace h := h i33
        obtain ⟨q34, h⟩ := h
        refine g_callV (As := [_, _]) (ci := 1) q34 (fun _ => rfl) ?_
        refine g_go1 (Nat.le_of_ble_eq_true rfl) (Tn_w (TX1_emit ⟨by omega, by omega⟩ i33 h) fun _ G35 ⟨r36, e, i37, h⟩ => ?_)
        subst e
        refine ⟨n7_I _, ?_⟩
        replace h := h i37
        refine g_pop (ct_I _) ?_
        exact TX3_got_131  h
    · replace h := h.2 b12
      unfold vX3_got_32
      refine g_ld (v := rf _) rfl (is_R _) ?_
      refine g_const (v := cI (16)) rfl ?_
      refine g_ld (v := rf _) rfl (is_R _) ?_
      refine g_getL (kz := 10) q1 rfl (Nat.le_of_ble_eq_true rfl) rfl fun i38 => ?_
      replace h := h i38
      refine g_ld (v := rf _) rfl (is_R _) ?_
      refine g_ld (v := rf _) rfl (is_R _) ?_
      refine g_getI (kz := 16) q10 rfl (Nat.le_of_ble_eq_true rfl) rfl fun i39 => ?_
      replace h := h i39
      refine g_i2l i39 ?_
      refine g_callV (As := [_, _, _, _]) (ci := 3) oC3 (fun _ => rfl) ?_
      refine g_go1 (Nat.le_of_ble_eq_true rfl) (Tn_w (TX3_useOf ⟨by omega, by omega⟩ i38 (inL_I i39) h) fun _ G40 ⟨r41, e, i42, h⟩ => ?_)
      subst e
      refine ⟨n7_I _, ?_⟩
      replace h := h i42
      refine g_pop (ct_I _) ?_
      refine g_ld (v := rf _) rfl (is_R _) ?_
      refine g_getR (kz := 1) (c := 1) oC3 rfl (Nat.le_of_ble_eq_true rfl) rfl (by decide) fun i43 => ?_
      replace h := h i43
      refine g_const (v := cI (2)) rfl ?_
      refine g_ld (v := rf _) rfl (is_R _) ?_
      refine g_getI (kz := 16) q10 rfl (Nat.le_of_ble_eq_true rfl) rfl fun i44 => ?_
      replace h := h i44
      obtain ⟨q45, h⟩ := h
      refine g_callV (As := [_, _]) (ci := 1) q45 (fun _ => rfl) ?_
      refine g_go1 (Nat.le_of_ble_eq_true rfl) (Tn_w (TX1_emit ⟨by omega, by omega⟩ i44 h) fun _ G46 ⟨r47, e, i48, h⟩ => ?_)
      subst e
      refine ⟨n7_I _, ?_⟩
      replace h := h i48
      refine g_pop (ct_I _) ?_
      exact TX3_got_131  h
abbrev PX3_got (a1 : Int) (G : gS) (Q : Int → gS → Prop) : Prop := PX3_got_0 a1 G Q
theorem TX3_got {a1 : Int} {G : gS} {Q : Int → gS → Prop}  (h : PX3_got a1 G Q) : Tn W0 FX3_got [rf (820), rf (a1)] G (fun r G => r = 7 ∧ Q 0 G) := by
  unfold FX3_got
  refine g_ent (lv' := [rf (820), rf (a1), 7]) (flR (flR fl0)) (Nat.le_of_ble_eq_true rfl) rfl ?_
  exact TX3_got_0  h
def PX3_put_116 (l1 : Int) (l2 : Int) (l3 : Int) (G : gS) (Q : Int → gS → Prop) : Prop :=
  Q 0 G
set_option maxRecDepth 20000 in
theorem TX3_put_116 {l1 : Int} {l2 : Int} {l3 : Int} {G : gS} {Q : Int → gS → Prop}  (h : PX3_put_116 l1 l2 l3 G Q) : Tg W0 vX3_put_116 [rf (820), rf (l1), rf (l2), rf (l3)] [] G (fun r G => r = 7 ∧ Q 0 G) := by
  unfold PX3_put_116 at h
  unfold vX3_put_116
  exact g_ret0 ⟨rfl, h⟩
def PX3_put_11 (l1 : Int) (l2 : Int) (G : gS) (Q : Int → gS → Prop) : Prop :=
  Q 0 G
set_option maxRecDepth 20000 in
theorem TX3_put_11 {l1 : Int} {l2 : Int} {l3 : Nat} {G : gS} {Q : Int → gS → Prop} (hl3 : l3 % 8 ≠ 1) (h : PX3_put_11 l1 l2 G Q) : Tg W0 vX3_put_11 [rf (820), rf (l1), rf (l2), l3] [] G (fun r G => r = 7 ∧ Q 0 G) := by
  unfold PX3_put_11 at h
  unfold vX3_put_11
  exact g_ret0 ⟨rfl, h⟩
def PX3_put_0 (a1 : Int) (a2 : Int) (G : gS) (Q : Int → gS → Prop) : Prop :=
  ((a2 < 0 → PX3_put_11 a1 a2 G Q) ∧ (0 ≤ a2 → (isO W0 8 (a1) ∧ ((G a1 6 = -1 ∨ isO W0 8 (G a1 6)) → ((G a1 6 < 0 → PX3_put_11 a1 a2 G Q) ∧ (0 ≤ G a1 6 → (isO W0 8 (a2) ∧ ((G a2 11 = -1 ∨ isO W0 7 (G a2 11)) → ((G a1 6 = -1 ∨ isO W0 8 (G a1 6)) → (isO W0 8 (G a1 6) ∧ (inL (G (G a1 6) 9) → ((G a1 5 = -1 ∨ isO W0 8 (G a1 5)) → (isO W0 8 (G a1 5) ∧ (inL (G (G a1 5) 9) → PX3_useOf 17 (G (G a1 6) 9) (-1) (G (G a1 5) 9) G (fun r14 G13 => inI r14 → ((G a2 11 < 0 → ((G13 820 1 = -1 ∨ isO W0 1 (G13 820 1)) → (inI (G13 a2 4) → (isO W0 1 (G13 820 1) ∧ PX1_emit (G13 820 1) 4 (G13 a2 4) G13 (fun r21 G20 => inI r21 → PX3_put_116 a1 a2 (G a2 11) G20 Q))))) ∧ (0 ≤ G a2 11 → (isO W0 7 (G a2 11) ∧ ((0 ≤ G13 (G a2 11) 2 ∧ G13 (G a2 11) 2 ≤ 1) → ((G13 (G a2 11) 2 = 0 → ((G13 820 1 = -1 ∨ isO W0 1 (G13 820 1)) → (inL (G13 a2 10) → PX3_useOf 4 (G13 a2 10) (G a2 11) (-4) G13 (fun r29 G28 => inI r29 → (isO W0 1 (G13 820 1) ∧ PX1_emit (G13 820 1) 31 r29 G28 (fun r33 G32 => inI r33 → PX3_put_116 a1 a2 (G a2 11) G32 Q)))))) ∧ (¬ (G13 (G a2 11) 2 = 0) → ((G13 820 1 = -1 ∨ isO W0 1 (G13 820 1)) → (inL (G13 a2 10) → PX3_useOf 6 (G13 a2 10) (G a2 11) (-4) G13 (fun r38 G37 => inI r38 → (isO W0 1 (G13 820 1) ∧ PX1_emit (G13 820 1) 33 r38 G37 (fun r42 G41 => inI r42 → PX3_put_116 a1 a2 (G a2 11) G41 Q))))))))))))))))))))))))))
set_option maxRecDepth 20000 in
theorem TX3_put_0 {a1 : Int} {a2 : Int} {G : gS} {Q : Int → gS → Prop}  (h : PX3_put_0 a1 a2 G Q) : Tg W0 vX3_put_0 [rf (820), rf (a1), rf (a2), 7] [] G (fun r G => r = 7 ∧ Q 0 G) := by
  unfold PX3_put_0 at h
  unfold vX3_put_0
  refine g_ld (v := rf _) rfl (is_R _) ?_
  refine g_nul (fun b1 => ?_) (fun b1 => ?_)
  · replace h := h.1 b1
    exact TX3_put_11 (show 7 % 8 ≠ 1 by decide) h
  · replace h := h.2 b1
    unfold vX3_put_4
    refine g_ld (v := rf _) rfl (is_R _) ?_
    obtain ⟨q2, h⟩ := h
    refine g_getR (kz := 6) (c := 8) q2 rfl (Nat.le_of_ble_eq_true rfl) rfl (by decide) fun i3 => ?_
    replace h := h i3
    refine g_nul (fun b4 => ?_) (fun b4 => ?_)
    · replace h := h.1 b4
      exact TX3_put_11 (show 7 % 8 ≠ 1 by decide) h
    · replace h := h.2 b4
      unfold vX3_put_12
      refine g_ld (v := rf _) rfl (is_R _) ?_
      obtain ⟨q5, h⟩ := h
      refine g_getR (kz := 11) (c := 7) q5 rfl (Nat.le_of_ble_eq_true rfl) rfl (by decide) fun i6 => ?_
      replace h := h i6
      refine g_st (lv' := [_, _, _, _]) (is_R _) (Nat.le_of_ble_eq_true rfl) (Or.inr (n1_R _)) rfl ?_
      refine g_ld (v := rf _) rfl (is_R _) ?_
      refine g_const (v := cI (17)) rfl ?_
      refine g_ld (v := rf _) rfl (is_R _) ?_
      refine g_getR (kz := 6) (c := 8) q2 rfl (Nat.le_of_ble_eq_true rfl) rfl (by decide) fun i7 => ?_
      replace h := h i7
      obtain ⟨q8, h⟩ := h
      refine g_getL (kz := 9) q8 rfl (Nat.le_of_ble_eq_true rfl) rfl fun i9 => ?_
      replace h := h i9
      refine g_const (v := rf (-1)) rfl ?_
      refine g_ld (v := rf _) rfl (is_R _) ?_
      refine g_getR (kz := 5) (c := 8) q2 rfl (Nat.le_of_ble_eq_true rfl) rfl (by decide) fun i10 => ?_
      replace h := h i10
      obtain ⟨q11, h⟩ := h
      refine g_getL (kz := 9) q11 rfl (Nat.le_of_ble_eq_true rfl) rfl fun i12 => ?_
      replace h := h i12
      refine g_callV (As := [_, _, _, _]) (ci := 3) oC3 (fun _ => rfl) ?_
      refine g_go1 (Nat.le_of_ble_eq_true rfl) (Tn_w (TX3_useOf ⟨by omega, by omega⟩ i9 i12 h) fun _ G13 ⟨r14, e, i15, h⟩ => ?_)
      subst e
      refine ⟨n7_I _, ?_⟩
      replace h := h i15
      refine g_pop (ct_I _) ?_
      refine g_ld (v := rf _) rfl (is_R _) ?_
      refine g_nul (fun b16 => ?_) (fun b16 => ?_)
      · replace h := h.1 b16
        unfold vX3_put_43
        refine g_ld (v := rf _) rfl (is_R _) ?_
        refine g_getR (kz := 1) (c := 1) oC3 rfl (Nat.le_of_ble_eq_true rfl) rfl (by decide) fun i17 => ?_
        replace h := h i17
        refine g_const (v := cI (4)) rfl ?_
        refine g_ld (v := rf _) rfl (is_R _) ?_
        refine g_getI (kz := 4) q5 rfl (Nat.le_of_ble_eq_true rfl) rfl fun i18 => ?_
        replace h := h i18
        obtain ⟨q19, h⟩ := h
        refine g_callV (As := [_, _]) (ci := 1) q19 (fun _ => rfl) ?_
        refine g_go1 (Nat.le_of_ble_eq_true rfl) (Tn_w (TX1_emit ⟨by omega, by omega⟩ i18 h) fun _ G20 ⟨r21, e, i22, h⟩ => ?_)
        subst e
        refine ⟨n7_I _, ?_⟩
        replace h := h i22
        refine g_pop (ct_I _) ?_
        exact TX3_put_116  h
      · replace h := h.2 b16
        unfold vX3_put_59
        refine g_ld (v := rf _) rfl (is_R _) ?_
        obtain ⟨q23, h⟩ := h
        refine g_getZ (kz := 2) q23 rfl (Nat.le_of_ble_eq_true rfl) rfl fun i24 => ?_
        replace h := h i24
        refine g_eq1 ⟨by omega, by omega⟩ (fun b25 => ?_) (fun b25 => ?_)
        · replace h := h.1 b25
          unfold vX3_put_93
          refine g_ld (v := rf _) rfl (is_R _) ?_
          refine g_getR (kz := 1) (c := 1) oC3 rfl (Nat.le_of_ble_eq_true rfl) rfl (by decide) fun i26 => ?_
          replace h := h i26
          refine g_const (v := cI (31)) rfl ?_
          refine g_ld (v := rf _) rfl (is_R _) ?_
          refine g_const (v := cI (4)) rfl ?_
          refine g_ld (v := rf _) rfl (is_R _) ?_
          refine g_getL (kz := 10) q5 rfl (Nat.le_of_ble_eq_true rfl) rfl fun i27 => ?_
          replace h := h i27
          refine g_ld (v := rf _) rfl (is_R _) ?_
          refine g_const (v := cL (-4)) rfl ?_
          refine g_callV (As := [_, _, _, _]) (ci := 3) oC3 (fun _ => rfl) ?_
          refine g_go1 (by simp only [cs_c, cs_0, ct_I, ct_L, ct_R]; exact Nat.le_of_ble_eq_true rfl) (Tn_w (TX3_useOf ⟨by omega, by omega⟩ i27 ⟨by omega, by omega⟩ h) fun _ G28 ⟨r29, e, i30, h⟩ => ?_)
          subst e
          refine ⟨n7_I _, ?_⟩
          replace h := h i30
          obtain ⟨q31, h⟩ := h
          refine g_callV (As := [_, _]) (ci := 1) q31 (fun _ => rfl) ?_
          refine g_go1 (Nat.le_of_ble_eq_true rfl) (Tn_w (TX1_emit ⟨by omega, by omega⟩ i30 h) fun _ G32 ⟨r33, e, i34, h⟩ => ?_)
          subst e
          refine ⟨n7_I _, ?_⟩
          replace h := h i34
          refine g_pop (ct_I _) ?_
          exact TX3_put_116  h
        · replace h := h.2 b25
          unfold vX3_put_66
          refine g_ld (v := rf _) rfl (is_R _) ?_
          refine g_getR (kz := 1) (c := 1) oC3 rfl (Nat.le_of_ble_eq_true rfl) rfl (by decide) fun i35 => ?_
          replace h := h i35
          refine g_const (v := cI (33)) rfl ?_
          refine g_ld (v := rf _) rfl (is_R _) ?_
          refine g_const (v := cI (6)) rfl ?_
          refine g_ld (v := rf _) rfl (is_R _) ?_
          refine g_getL (kz := 10) q5 rfl (Nat.le_of_ble_eq_true rfl) rfl fun i36 => ?_
          replace h := h i36
          refine g_ld (v := rf _) rfl (is_R _) ?_
          refine g_const (v := cL (-4)) rfl ?_
          refine g_callV (As := [_, _, _, _]) (ci := 3) oC3 (fun _ => rfl) ?_
          refine g_go1 (by simp only [cs_c, cs_0, ct_I, ct_L, ct_R]; exact Nat.le_of_ble_eq_true rfl) (Tn_w (TX3_useOf ⟨by omega, by omega⟩ i36 ⟨by omega, by omega⟩ h) fun _ G37 ⟨r38, e, i39, h⟩ => ?_)
          subst e
          refine ⟨n7_I _, ?_⟩
          replace h := h i39
          obtain ⟨q40, h⟩ := h
          refine g_callV (As := [_, _]) (ci := 1) q40 (fun _ => rfl) ?_
          refine g_go1 (Nat.le_of_ble_eq_true rfl) (Tn_w (TX1_emit ⟨by omega, by omega⟩ i39 h) fun _ G41 ⟨r42, e, i43, h⟩ => ?_)
          subst e
          refine ⟨n7_I _, ?_⟩
          replace h := h i43
          refine g_pop (ct_I _) ?_
          exact TX3_put_116  h
abbrev PX3_put (a1 : Int) (a2 : Int) (G : gS) (Q : Int → gS → Prop) : Prop := PX3_put_0 a1 a2 G Q
theorem TX3_put {a1 : Int} {a2 : Int} {G : gS} {Q : Int → gS → Prop}  (h : PX3_put a1 a2 G Q) : Tn W0 FX3_put [rf (820), rf (a1), rf (a2)] G (fun r G => r = 7 ∧ Q 0 G) := by
  unfold FX3_put
  refine g_ent (lv' := [rf (820), rf (a1), rf (a2), 7]) (flR (flR (flR fl0))) (Nat.le_of_ble_eq_true rfl) rfl ?_
  exact TX3_put_0  h
def PX3_bridge_102 (J : Nat → List Int → gS → (Int → gS → Prop) → Prop) (l1 : Int) (l2 : Int) (l3 : Int) (s0 : Int) (s1 : Int) (s2 : Int) (s3 : Int) (G : gS) (Q : Int → gS → Prop) : Prop :=
  ((G 820 2 = -1 ∨ isO W0 10 (G 820 2)) → (isO W0 10 (G 820 2) ∧ (inL (G (G 820 2) 1) → (isO W0 3 (s2) ∧ PX3_useOf s3 (G (G 820 2) 1) l2 (-4) G (fun r35 G34 => inI r35 → (isO W0 1 (s0) ∧ PX1_emit s0 s1 r35 G34 (fun r39 G38 => inI r39 → (isO W0 7 (l2) ∧ (inL (G38 l2 8) → (isO W0 7 (l1) ∧ (inL (G38 l1 8) → PX3_useOf 17 (G38 l2 8) (-1) (G38 l1 8) G38 (fun r46 G45 => inI r46 → ((G45 820 1 = -1 ∨ isO W0 1 (G45 820 1)) → (isO W0 1 (G45 820 1) ∧ PX1_emit (G45 820 1) 19 0 G45 (fun r51 G50 => inI r51 → Q 0 G50)))))))))))))))
set_option maxRecDepth 20000 in
theorem TX3_bridge_102 {j : Nat → rx_K} {J : Nat → List Int → gS → (Int → gS → Prop) → Prop} {l1 : Int} {l2 : Int} {l3 : Int} {s0 : Int} {s1 : Int} {s2 : Int} {s3 : Int} {G : gS} {Q : Int → gS → Prop} (hl3 : inI l3) (hs1 : inI s1) (hs3 : inI s3) (hj0 : ∀ (l1 : Int) (l2 : Int) (l3 : Int) (G : gS), (inI l3) → J 0 [l1, l2, l3] G Q → Tg W0 (j 0) [rf (820), rf (l1), rf (l2), cI (l3)] [] G (fun r G => r = 7 ∧ Q 0 G)) (h : PX3_bridge_102 J l1 l2 l3 s0 s1 s2 s3 G Q) : Tg W0 (vX3_bridge_102 j) [rf (820), rf (l1), rf (l2), cI (l3)] [cI (s3), rf (s2), cI (s1), rf (s0)] G (fun r G => r = 7 ∧ Q 0 G) := by
  unfold PX3_bridge_102 at h
  unfold vX3_bridge_102
  refine g_ld (v := rf _) rfl (is_R _) ?_
  refine g_getR (kz := 2) (c := 10) oC3 rfl (Nat.le_of_ble_eq_true rfl) rfl (by decide) fun i30 => ?_
  replace h := h i30
  obtain ⟨q31, h⟩ := h
  refine g_getL (kz := 1) q31 rfl (Nat.le_of_ble_eq_true rfl) rfl fun i32 => ?_
  replace h := h i32
  refine g_ld (v := rf _) rfl (is_R _) ?_
  refine g_const (v := cL (-4)) rfl ?_
  obtain ⟨q33, h⟩ := h
  refine g_callV (As := [_, _, _, _]) (ci := 3) q33 (fun _ => rfl) ?_
  refine g_go1 (by simp only [cs_c, cs_0, ct_I, ct_L, ct_R]; exact Nat.le_of_ble_eq_true rfl) (Tn_w (Tn_eq (one3 q33) (TX3_useOf hs3 i32 ⟨by omega, by omega⟩ h)) fun _ G34 ⟨r35, e, i36, h⟩ => ?_)
  subst e
  refine ⟨n7_I _, ?_⟩
  replace h := h i36
  obtain ⟨q37, h⟩ := h
  refine g_callV (As := [_, _]) (ci := 1) q37 (fun _ => rfl) ?_
  refine g_go1 (Nat.le_of_ble_eq_true rfl) (Tn_w (TX1_emit hs1 i36 h) fun _ G38 ⟨r39, e, i40, h⟩ => ?_)
  subst e
  refine ⟨n7_I _, ?_⟩
  replace h := h i40
  refine g_pop (ct_I _) ?_
  refine g_ld (v := rf _) rfl (is_R _) ?_
  refine g_const (v := cI (17)) rfl ?_
  refine g_ld (v := rf _) rfl (is_R _) ?_
  obtain ⟨q41, h⟩ := h
  refine g_getL (kz := 8) q41 rfl (Nat.le_of_ble_eq_true rfl) rfl fun i42 => ?_
  replace h := h i42
  refine g_const (v := rf (-1)) rfl ?_
  refine g_ld (v := rf _) rfl (is_R _) ?_
  obtain ⟨q43, h⟩ := h
  refine g_getL (kz := 8) q43 rfl (Nat.le_of_ble_eq_true rfl) rfl fun i44 => ?_
  replace h := h i44
  refine g_callV (As := [_, _, _, _]) (ci := 3) oC3 (fun _ => rfl) ?_
  refine g_go1 (Nat.le_of_ble_eq_true rfl) (Tn_w (TX3_useOf ⟨by omega, by omega⟩ i42 i44 h) fun _ G45 ⟨r46, e, i47, h⟩ => ?_)
  subst e
  refine ⟨n7_I _, ?_⟩
  replace h := h i47
  refine g_pop (ct_I _) ?_
  refine g_ld (v := rf _) rfl (is_R _) ?_
  refine g_getR (kz := 1) (c := 1) oC3 rfl (Nat.le_of_ble_eq_true rfl) rfl (by decide) fun i48 => ?_
  replace h := h i48
  refine g_const (v := cI (19)) rfl ?_
  refine g_const (v := cI (0)) rfl ?_
  obtain ⟨q49, h⟩ := h
  refine g_callV (As := [_, _]) (ci := 1) q49 (fun _ => rfl) ?_
  refine g_go1 (Nat.le_of_ble_eq_true rfl) (Tn_w (TX1_emit ⟨by omega, by omega⟩ ⟨by omega, by omega⟩ h) fun _ G50 ⟨r51, e, i52, h⟩ => ?_)
  subst e
  refine ⟨n7_I _, ?_⟩
  replace h := h i52
  refine g_pop (ct_I _) ?_
  exact g_ret0 ⟨rfl, h⟩
def PX3_bridge_77 (J : Nat → List Int → gS → (Int → gS → Prop) → Prop) (l1 : Int) (l2 : Int) (l3 : Int) (s0 : Int) (G : gS) (Q : Int → gS → Prop) : Prop :=
  ((G 820 1 = -1 ∨ isO W0 1 (G 820 1)) → ((G 820 2 = -1 ∨ isO W0 10 (G 820 2)) → (isO W0 10 (G 820 2) ∧ ((0 ≤ G (G 820 2) 4 ∧ G (G 820 2) 4 ≤ 1) → ((G (G 820 2) 4 = 0 → PX3_bridge_102 J l1 l2 s0 (G 820 1) 34 820 s0 G Q) ∧ (¬ (G (G 820 2) 4 = 0) → (inI (s0 + 1) ∧ PX3_bridge_102 J l1 l2 s0 (G 820 1) 34 820 (s0 + 1) G Q)))))))
set_option maxRecDepth 20000 in
theorem TX3_bridge_77 {j : Nat → rx_K} {J : Nat → List Int → gS → (Int → gS → Prop) → Prop} {l1 : Int} {l2 : Int} {l3 : Int} {s0 : Int} {G : gS} {Q : Int → gS → Prop} (hl3 : inI l3) (hs0 : inI s0) (hj0 : ∀ (l1 : Int) (l2 : Int) (l3 : Int) (G : gS), (inI l3) → J 0 [l1, l2, l3] G Q → Tg W0 (j 0) [rf (820), rf (l1), rf (l2), cI (l3)] [] G (fun r G => r = 7 ∧ Q 0 G)) (h : PX3_bridge_77 J l1 l2 l3 s0 G Q) : Tg W0 (vX3_bridge_77 j) [rf (820), rf (l1), rf (l2), cI (l3)] [cI (s0)] G (fun r G => r = 7 ∧ Q 0 G) := by
  unfold PX3_bridge_77 at h
  unfold vX3_bridge_77
  refine g_st (lv' := [_, _, _, _]) (is_I _) (Nat.le_of_ble_eq_true rfl) (Or.inr (n1_R _)) rfl ?_
  refine g_ld (v := rf _) rfl (is_R _) ?_
  refine g_getR (kz := 1) (c := 1) oC3 rfl (Nat.le_of_ble_eq_true rfl) rfl (by decide) fun i24 => ?_
  replace h := h i24
  refine g_const (v := cI (34)) rfl ?_
  refine g_ld (v := rf _) rfl (is_R _) ?_
  refine g_ld (v := rf _) rfl (is_R _) ?_
  refine g_getR (kz := 2) (c := 10) oC3 rfl (Nat.le_of_ble_eq_true rfl) rfl (by decide) fun i25 => ?_
  replace h := h i25
  obtain ⟨q26, h⟩ := h
  refine g_getZ (kz := 4) q26 rfl (Nat.le_of_ble_eq_true rfl) rfl fun i27 => ?_
  replace h := h i27
  refine g_eq1 ⟨by omega, by omega⟩ (fun b28 => ?_) (fun b28 => ?_)
  · replace h := h.1 b28
    unfold vX3_bridge_101
    refine g_ld (v := cI _) rfl (is_I _) ?_
    exact TX3_bridge_102 hs0 ⟨by omega, by omega⟩ hs0 hj0 h
  · replace h := h.2 b28
    unfold vX3_bridge_95
    refine g_ld (v := cI _) rfl (is_I _) ?_
    refine g_const (v := cI (1)) rfl ?_
    refine g_add ?_
    obtain ⟨q29, h⟩ := h
    exact TX3_bridge_102 hs0 ⟨by omega, by omega⟩ q29 hj0 h
def PX3_bridge_39 (J : Nat → List Int → gS → (Int → gS → Prop) → Prop) (l1 : Int) (l2 : Int) (l3 : Int) (G : gS) (Q : Int → gS → Prop) : Prop :=
  (isO W0 7 (l1) ∧ (inI (G l1 18) → ((l3 < G l1 18 → ((G 820 1 = -1 ∨ isO W0 1 (G 820 1)) → (isO W0 1 (G 820 1) ∧ PX1_emit (G 820 1) 3 l3 G (fun r19 G18 => inI r19 → (inI (l3 + 1) ∧ J 0 [l1, l2, l3 + 1] G18 Q))))) ∧ (¬ (l3 < G l1 18) → ((0 ≤ G l1 2 ∧ G l1 2 ≤ 1) → ((G l1 2 = 0 → PX3_bridge_77 J l1 l2 l3 7 G Q) ∧ (¬ (G l1 2 = 0) → PX3_bridge_77 J l1 l2 l3 9 G Q)))))))
set_option maxRecDepth 20000 in
theorem TX3_bridge_39 {j : Nat → rx_K} {J : Nat → List Int → gS → (Int → gS → Prop) → Prop} {l1 : Int} {l2 : Int} {l3 : Int} {G : gS} {Q : Int → gS → Prop} (hl3 : inI l3) (hj0 : ∀ (l1 : Int) (l2 : Int) (l3 : Int) (G : gS), (inI l3) → J 0 [l1, l2, l3] G Q → Tg W0 (j 0) [rf (820), rf (l1), rf (l2), cI (l3)] [] G (fun r G => r = 7 ∧ Q 0 G)) (h : PX3_bridge_39 J l1 l2 l3 G Q) : Tg W0 (vX3_bridge_39 j) [rf (820), rf (l1), rf (l2), cI (l3)] [] G (fun r G => r = 7 ∧ Q 0 G) := by
  unfold PX3_bridge_39 at h
  unfold vX3_bridge_39
  refine g_ld (v := cI _) rfl (is_I _) ?_
  refine g_ld (v := rf _) rfl (is_R _) ?_
  obtain ⟨q13, h⟩ := h
  refine g_getI (kz := 18) q13 rfl (Nat.le_of_ble_eq_true rfl) rfl fun i14 => ?_
  replace h := h i14
  refine g_lt2 hl3 i14 (fun b15 => ?_) (fun b15 => ?_)
  · replace h := h.1 b15
    unfold vX3_bridge_47
    refine g_ld (v := rf _) rfl (is_R _) ?_
    refine g_getR (kz := 1) (c := 1) oC3 rfl (Nat.le_of_ble_eq_true rfl) rfl (by decide) fun i16 => ?_
    replace h := h i16
    refine g_const (v := cI (3)) rfl ?_
    refine g_ld (v := cI _) rfl (is_I _) ?_
    obtain ⟨q17, h⟩ := h
    refine g_callV (As := [_, _]) (ci := 1) q17 (fun _ => rfl) ?_
    refine g_go1 (Nat.le_of_ble_eq_true rfl) (Tn_w (TX1_emit ⟨by omega, by omega⟩ hl3 h) fun _ G18 ⟨r19, e, i20, h⟩ => ?_)
    subst e
    refine ⟨n7_I _, ?_⟩
    replace h := h i20
    refine g_pop (ct_I _) ?_
    refine g_inc (lv' := [_, _, _, _]) rfl (Nat.le_of_ble_eq_true rfl) (Or.inr (n1_R _)) rfl ?_
    obtain ⟨q21, h⟩ := h
    exact hj0 _ _ _ _ q21 h
  · replace h := h.2 b15
    unfold vX3_bridge_63
    refine g_ld (v := rf _) rfl (is_R _) ?_
    refine g_getZ (kz := 2) q13 rfl (Nat.le_of_ble_eq_true rfl) rfl fun i22 => ?_
    replace h := h i22
    refine g_eq1 ⟨by omega, by omega⟩ (fun b23 => ?_) (fun b23 => ?_)
    · replace h := h.1 b23
      unfold vX3_bridge_75
      refine g_const (v := cI (7)) rfl ?_
      exact TX3_bridge_77 hl3 ⟨by omega, by omega⟩ hj0 h
    · replace h := h.2 b23
      unfold vX3_bridge_70
      refine g_const (v := cI (9)) rfl ?_
      exact TX3_bridge_77 hl3 ⟨by omega, by omega⟩ hj0 h
def PX3_bridge_33 (J : Nat → List Int → gS → (Int → gS → Prop) → Prop) (l1 : Int) (l2 : Int) (s0 : Int) (s1 : Int) (s2 : Int) (G : gS) (Q : Int → gS → Prop) : Prop :=
  (isO W0 7 (s0) ∧ (inI (s1 + s2) ∧ (∀ G12 : gS, G12 = uG G s0 18 (s1 + s2) → PX3_bridge_39 J l1 l2 0 G12 Q)))
set_option maxRecDepth 20000 in
theorem TX3_bridge_33 {j : Nat → rx_K} {J : Nat → List Int → gS → (Int → gS → Prop) → Prop} {l1 : Int} {l2 : Int} {l3 : Nat} {s0 : Int} {s1 : Int} {s2 : Int} {G : gS} {Q : Int → gS → Prop} (hl3 : l3 % 8 ≠ 1) (hs1 : inI s1) (hs2 : inI s2) (hj0 : ∀ (l1 : Int) (l2 : Int) (l3 : Int) (G : gS), (inI l3) → J 0 [l1, l2, l3] G Q → Tg W0 (j 0) [rf (820), rf (l1), rf (l2), cI (l3)] [] G (fun r G => r = 7 ∧ Q 0 G)) (h : PX3_bridge_33 J l1 l2 s0 s1 s2 G Q) : Tg W0 (vX3_bridge_33 j) [rf (820), rf (l1), rf (l2), l3] [cI (s2), cI (s1), rf (s0)] G (fun r G => r = 7 ∧ Q 0 G) := by
  unfold PX3_bridge_33 at h
  unfold vX3_bridge_33
  refine g_add ?_
  obtain ⟨q10, h⟩ := h
  obtain ⟨q11, h⟩ := h
  refine g_putI (kz := 18) q10 rfl (Nat.le_of_ble_eq_true rfl) rfl q11 (nf7_18 q10) ?_
  replace h := h _ rfl
  refine g_const (v := cI (0)) rfl ?_
  refine g_st (lv' := [_, _, _, _]) (is_I _) (Nat.le_of_ble_eq_true rfl) (Or.inr (n1_R _)) rfl ?_
  exact TX3_bridge_39 ⟨by omega, by omega⟩ hj0 h
def PX3_bridge_0 (J : Nat → List Int → gS → (Int → gS → Prop) → Prop) (a1 : Int) (a2 : Int) (G : gS) (Q : Int → gS → Prop) : Prop :=
  ((a2 < 0 → Q 0 G) ∧ (0 ≤ a2 → ((G 820 1 = -1 ∨ isO W0 1 (G 820 1)) → (isO W0 1 (G 820 1) ∧ (inI (G (G 820 1) 17) → (isO W0 7 (a1) ∧ (∀ G6 : gS, G6 = uG G a1 17 (G (G 820 1) 17) → (inI (G6 a1 9) → ((0 ≤ G6 a1 2 ∧ G6 a1 2 ≤ 1) → ((G6 a1 2 = 0 → PX3_bridge_33 J a1 a2 a1 (G6 a1 9) 1 G6 Q) ∧ (¬ (G6 a1 2 = 0) → PX3_bridge_33 J a1 a2 a1 (G6 a1 9) 0 G6 Q)))))))))))
set_option maxRecDepth 20000 in
theorem TX3_bridge_0 {j : Nat → rx_K} {J : Nat → List Int → gS → (Int → gS → Prop) → Prop} {a1 : Int} {a2 : Int} {G : gS} {Q : Int → gS → Prop}  (hj0 : ∀ (l1 : Int) (l2 : Int) (l3 : Int) (G : gS), (inI l3) → J 0 [l1, l2, l3] G Q → Tg W0 (j 0) [rf (820), rf (l1), rf (l2), cI (l3)] [] G (fun r G => r = 7 ∧ Q 0 G)) (h : PX3_bridge_0 J a1 a2 G Q) : Tg W0 (vX3_bridge_0 j) [rf (820), rf (a1), rf (a2), 7] [] G (fun r G => r = 7 ∧ Q 0 G) := by
  unfold PX3_bridge_0 at h
  unfold vX3_bridge_0
  refine g_ld (v := rf _) rfl (is_R _) ?_
  refine g_nul (fun b1 => ?_) (fun b1 => ?_)
  · replace h := h.1 b1
    unfold vX3_bridge_4
    exact g_ret0 ⟨rfl, h⟩
  · replace h := h.2 b1
    unfold vX3_bridge_5
    refine g_ld (v := rf _) rfl (is_R _) ?_
    refine g_ld (v := rf _) rfl (is_R _) ?_
    refine g_getR (kz := 1) (c := 1) oC3 rfl (Nat.le_of_ble_eq_true rfl) rfl (by decide) fun i2 => ?_
    replace h := h i2
    obtain ⟨q3, h⟩ := h
    refine g_getI (kz := 17) q3 rfl (Nat.le_of_ble_eq_true rfl) rfl fun i4 => ?_
    replace h := h i4
    obtain ⟨q5, h⟩ := h
    refine g_putI (kz := 17) q5 rfl (Nat.le_of_ble_eq_true rfl) rfl i4 (nf7_17 q5) ?_
    replace h := h _ rfl
    refine g_ld (v := rf _) rfl (is_R _) ?_
    refine g_ld (v := rf _) rfl (is_R _) ?_
    refine g_getI (kz := 9) q5 rfl (Nat.le_of_ble_eq_true rfl) rfl fun i7 => ?_
    replace h := h i7
    refine g_ld (v := rf _) rfl (is_R _) ?_
    refine g_getZ (kz := 2) q5 rfl (Nat.le_of_ble_eq_true rfl) rfl fun i8 => ?_
    replace h := h i8
    refine g_eq1 ⟨by omega, by omega⟩ (fun b9 => ?_) (fun b9 => ?_)
    · replace h := h.1 b9
      unfold vX3_bridge_32
      refine g_const (v := cI (1)) rfl ?_
      exact TX3_bridge_33 (show 7 % 8 ≠ 1 by decide) i7 ⟨by omega, by omega⟩ hj0 h
    · replace h := h.2 b9
      unfold vX3_bridge_28
      refine g_const (v := cI (0)) rfl ?_
      exact TX3_bridge_33 (show 7 % 8 ≠ 1 by decide) i7 ⟨by omega, by omega⟩ hj0 h
def PX3_bridge_J : Nat → Nat → List Int → gS → (Int → gS → Prop) → Prop
  | 0, _, _, _, _ => False
  | f + 1, h, L, G, Q => match h, L with
    | 0, [l1, l2, l3] => PX3_bridge_39 (PX3_bridge_J f) l1 l2 l3 G Q
    | _, _ => False
theorem TX3_bridge_J {Q : Int → gS → Prop} : ∀ f N : Nat, f ≤ N → (∀ (l1 : Int) (l2 : Int) (l3 : Int) (G : gS), (inI l3) → (PX3_bridge_J f) 0 [l1, l2, l3] G Q → Tg W0 (rx_J vhX3_bridge N 0) [rf (820), rf (l1), rf (l2), cI (l3)] [] G (fun r G => r = 7 ∧ Q 0 G)) := by
  intro f
  induction f with
  | zero => exact fun N _ => fun _ _ _ _ _ h => h.elim
  | succ f ih =>
    intro N hN
    obtain ⟨M, rfl⟩ : ∃ M, N = M + 1 := ⟨N - 1, by omega⟩
    have ih := ih M (by omega)
    exact fun _ _ _ _ hl3 h => show Tg W0 (vX3_bridge_39 (rx_J vhX3_bridge M)) _ _ _ _ from TX3_bridge_39 hl3 ih h
def PX3_bridge (a1 : Int) (a2 : Int) (G : gS) (Q : Int → gS → Prop) : Prop := ∃ f : Nat, f ≤ 4000000000 ∧ PX3_bridge_0 (PX3_bridge_J f) a1 a2 G Q
theorem TX3_bridge {a1 : Int} {a2 : Int} {G : gS} {Q : Int → gS → Prop}  (h : PX3_bridge a1 a2 G Q) : Tn W0 FX3_bridge [rf (820), rf (a1), rf (a2)] G (fun r G => r = 7 ∧ Q 0 G) := by
  obtain ⟨f, hf, h⟩ := h
  have hJ := TX3_bridge_J (Q := Q) f 4000000000 hf
  unfold FX3_bridge
  refine g_ent (lv' := [rf (820), rf (a1), rf (a2), 7]) (flR (flR (flR fl0))) (Nat.le_of_ble_eq_true rfl) rfl ?_
  exact TX3_bridge_0  hJ h
end DE

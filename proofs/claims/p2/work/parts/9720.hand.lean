section DE
def PX13_methodOf_148 (J : Nat → List Int → gS → (Int → gS → Prop) → Prop) (l1 : Int) (l2 : Int) (l3 : Int) (l4 : Int) (l5 : Int) (s0 : Int) (G : gS) (Q : Int → gS → Prop) : Prop :=
  Q (s0) G
set_option maxRecDepth 20000 in
theorem TX13_methodOf_148 {j : Nat → rx_K} {J : Nat → List Int → gS → (Int → gS → Prop) → Prop} {l1 : Int} {l2 : Int} {l3 : Int} {l4 : Int} {l5 : Int} {l6 : Nat} {s0 : Int} {G : gS} {Q : Int → gS → Prop} (hl1 : inI l1) (hl2 : inI l2) (hl3 : inI l3) (hl4 : inI l4) (hl5 : inI l5) (hl6 : l6 % 8 ≠ 1) (hs0 : inI s0) (hj0 : ∀ (l1 : Int) (l2 : Int) (l3 : Nat) (l4 : Nat) (l5 : Nat) (l6 : Nat) (G : gS), (inI l1) → (inI l2) → (l3 % 8 ≠ 1) → (l4 % 8 ≠ 1) → (l5 % 8 ≠ 1) → (l6 % 8 ≠ 1) → J 0 [l1, l2] G Q → Tg W0 (j 0) [rf (16081), cI (l1), cI (l2), l3, l4, l5, l6] [] G (fun r G => ∃ v, r = cI v ∧ inI v ∧ Q v G)) (hj1 : ∀ (l1 : Int) (l2 : Int) (l3 : Int) (l4 : Int) (l5 : Int) (l6 : Nat) (G : gS), (inI l1) → (inI l2) → (inI l3) → (inI l4) → (inI l5) → (l6 % 8 ≠ 1) → J 1 [l1, l2, l3, l4, l5] G Q → Tg W0 (j 1) [rf (16081), cI (l1), cI (l2), cI (l3), cI (l4), cI (l5), l6] [] G (fun r G => ∃ v, r = cI v ∧ inI v ∧ Q v G)) (h : PX13_methodOf_148 J l1 l2 l3 l4 l5 s0 G Q) : Tg W0 (vX13_methodOf_148 j) [rf (16081), cI (l1), cI (l2), cI (l3), cI (l4), cI (l5), l6] [cI (s0)] G (fun r G => ∃ v, r = cI v ∧ inI v ∧ Q v G) := by
  unfold PX13_methodOf_148 at h
  unfold vX13_methodOf_148
  exact g_ret1 (is_I _) ⟨_, rfl, hs0, h⟩
def PX13_methodOf_119 (J : Nat → List Int → gS → (Int → gS → Prop) → Prop) (l1 : Int) (l2 : Int) (l3 : Int) (l4 : Int) (l5 : Int) (l6 : Int) (s0 : Int) (G : gS) (Q : Int → gS → Prop) : Prop :=
  (inI (l5 + 1) ∧ J 1 [l1, l2, l3, s0, l5 + 1] G Q)
set_option maxRecDepth 20000 in
theorem TX13_methodOf_119 {j : Nat → rx_K} {J : Nat → List Int → gS → (Int → gS → Prop) → Prop} {l1 : Int} {l2 : Int} {l3 : Int} {l4 : Int} {l5 : Int} {l6 : Int} {s0 : Int} {G : gS} {Q : Int → gS → Prop} (hl1 : inI l1) (hl2 : inI l2) (hl3 : inI l3) (hl4 : inI l4) (hl5 : inI l5) (hl6 : inI l6) (hs0 : inI s0) (hj0 : ∀ (l1 : Int) (l2 : Int) (l3 : Nat) (l4 : Nat) (l5 : Nat) (l6 : Nat) (G : gS), (inI l1) → (inI l2) → (l3 % 8 ≠ 1) → (l4 % 8 ≠ 1) → (l5 % 8 ≠ 1) → (l6 % 8 ≠ 1) → J 0 [l1, l2] G Q → Tg W0 (j 0) [rf (16081), cI (l1), cI (l2), l3, l4, l5, l6] [] G (fun r G => ∃ v, r = cI v ∧ inI v ∧ Q v G)) (hj1 : ∀ (l1 : Int) (l2 : Int) (l3 : Int) (l4 : Int) (l5 : Int) (l6 : Nat) (G : gS), (inI l1) → (inI l2) → (inI l3) → (inI l4) → (inI l5) → (l6 % 8 ≠ 1) → J 1 [l1, l2, l3, l4, l5] G Q → Tg W0 (j 1) [rf (16081), cI (l1), cI (l2), cI (l3), cI (l4), cI (l5), l6] [] G (fun r G => ∃ v, r = cI v ∧ inI v ∧ Q v G)) (h : PX13_methodOf_119 J l1 l2 l3 l4 l5 l6 s0 G Q) : Tg W0 (vX13_methodOf_119 j) [rf (16081), cI (l1), cI (l2), cI (l3), cI (l4), cI (l5), cI (l6)] [cI (s0)] G (fun r G => ∃ v, r = cI v ∧ inI v ∧ Q v G) := by
  unfold PX13_methodOf_119 at h
  unfold vX13_methodOf_119
  refine g_st (lv' := [_, _, _, _, _, _, _]) (is_I _) (Nat.le_of_ble_eq_true rfl) (Or.inr (n1_I _)) rfl ?_
  refine g_inc (lv' := [_, _, _, _, _, _, _]) rfl (Nat.le_of_ble_eq_true rfl) (Or.inr (n1_I _)) rfl ?_
  obtain ⟨q37, h⟩ := h
  exact hj1 _ _ _ _ _ _ _ hl1 hl2 hl3 hs0 q37 (n1_I _) h
def PX13_methodOf_117 (J : Nat → List Int → gS → (Int → gS → Prop) → Prop) (l1 : Int) (l2 : Int) (l3 : Int) (l4 : Int) (l5 : Int) (l6 : Int) (G : gS) (Q : Int → gS → Prop) : Prop :=
  PX13_methodOf_119 J l1 l2 l3 l4 l5 l6 l4 G Q
set_option maxRecDepth 20000 in
theorem TX13_methodOf_117 {j : Nat → rx_K} {J : Nat → List Int → gS → (Int → gS → Prop) → Prop} {l1 : Int} {l2 : Int} {l3 : Int} {l4 : Int} {l5 : Int} {l6 : Int} {G : gS} {Q : Int → gS → Prop} (hl1 : inI l1) (hl2 : inI l2) (hl3 : inI l3) (hl4 : inI l4) (hl5 : inI l5) (hl6 : inI l6) (hj0 : ∀ (l1 : Int) (l2 : Int) (l3 : Nat) (l4 : Nat) (l5 : Nat) (l6 : Nat) (G : gS), (inI l1) → (inI l2) → (l3 % 8 ≠ 1) → (l4 % 8 ≠ 1) → (l5 % 8 ≠ 1) → (l6 % 8 ≠ 1) → J 0 [l1, l2] G Q → Tg W0 (j 0) [rf (16081), cI (l1), cI (l2), l3, l4, l5, l6] [] G (fun r G => ∃ v, r = cI v ∧ inI v ∧ Q v G)) (hj1 : ∀ (l1 : Int) (l2 : Int) (l3 : Int) (l4 : Int) (l5 : Int) (l6 : Nat) (G : gS), (inI l1) → (inI l2) → (inI l3) → (inI l4) → (inI l5) → (l6 % 8 ≠ 1) → J 1 [l1, l2, l3, l4, l5] G Q → Tg W0 (j 1) [rf (16081), cI (l1), cI (l2), cI (l3), cI (l4), cI (l5), l6] [] G (fun r G => ∃ v, r = cI v ∧ inI v ∧ Q v G)) (h : PX13_methodOf_117 J l1 l2 l3 l4 l5 l6 G Q) : Tg W0 (vX13_methodOf_117 j) [rf (16081), cI (l1), cI (l2), cI (l3), cI (l4), cI (l5), cI (l6)] [] G (fun r G => ∃ v, r = cI v ∧ inI v ∧ Q v G) := by
  unfold PX13_methodOf_117 at h
  unfold vX13_methodOf_117
  refine g_ld (v := cI _) rfl (is_I _) ?_
  exact TX13_methodOf_119 hl1 hl2 hl3 hl4 hl5 hl6 hl4 hj0 hj1 h
def PX13_methodOf_56 (J : Nat → List Int → gS → (Int → gS → Prop) → Prop) (l1 : Int) (l2 : Int) (l3 : Int) (l4 : Int) (l5 : Int) (G : gS) (Q : Int → gS → Prop) : Prop :=
  ((l5 < l3 → ((0 : Int) ≤ l5 ∧ ((l5 : Int) < 216 ∧ (inI (G 16195 l5) → PX13_see (G 16195 l5) G (fun _ G18 => ((0 : Int) ≤ l5 ∧ ((l5 : Int) < 216 ∧ (inI (G18 16195 l5) → PX13_ownMethod (G18 16195 l5) 7343 G18 (fun r24 G23 => inI r24 → ((l4 = -2 → ((r24 = -2 → PX13_methodOf_117 J l1 l2 l3 l4 l5 r24 G23 Q) ∧ (¬ (r24 = -2) → PX13_isFree r24 G23 (fun r29 G28 => (0 ≤ r29 ∧ r29 ≤ 1) → ((r29 = 0 → PX13_methodOf_117 J l1 l2 l3 l4 l5 r24 G28 Q) ∧ (¬ (r29 = 0) → PX13_methodOf_119 J l1 l2 l3 l4 l5 r24 r24 G28 Q)))))) ∧ (¬ (l4 = -2) → PX13_methodOf_117 J l1 l2 l3 l4 l5 r24 G23 Q))))))))))) ∧ (¬ (l5 < l3) → PX13_mostSpecial l1 7343 G (fun r33 G32 => inI r33 → ((r33 = 1 → (inI (G32 16081 102) → PX13_methodOf_148 J l1 l2 l3 l4 l5 (G32 16081 102) G32 Q)) ∧ (¬ (r33 = 1) → PX13_methodOf_148 J l1 l2 l3 l4 l5 l4 G32 Q)))))
set_option maxRecDepth 20000 in
theorem TX13_methodOf_56 {j : Nat → rx_K} {J : Nat → List Int → gS → (Int → gS → Prop) → Prop} {l1 : Int} {l2 : Int} {l3 : Int} {l4 : Int} {l5 : Int} {l6 : Nat} {G : gS} {Q : Int → gS → Prop} (hl1 : inI l1) (hl2 : inI l2) (hl3 : inI l3) (hl4 : inI l4) (hl5 : inI l5) (hl6 : l6 % 8 ≠ 1) (hj0 : ∀ (l1 : Int) (l2 : Int) (l3 : Nat) (l4 : Nat) (l5 : Nat) (l6 : Nat) (G : gS), (inI l1) → (inI l2) → (l3 % 8 ≠ 1) → (l4 % 8 ≠ 1) → (l5 % 8 ≠ 1) → (l6 % 8 ≠ 1) → J 0 [l1, l2] G Q → Tg W0 (j 0) [rf (16081), cI (l1), cI (l2), l3, l4, l5, l6] [] G (fun r G => ∃ v, r = cI v ∧ inI v ∧ Q v G)) (hj1 : ∀ (l1 : Int) (l2 : Int) (l3 : Int) (l4 : Int) (l5 : Int) (l6 : Nat) (G : gS), (inI l1) → (inI l2) → (inI l3) → (inI l4) → (inI l5) → (l6 % 8 ≠ 1) → J 1 [l1, l2, l3, l4, l5] G Q → Tg W0 (j 1) [rf (16081), cI (l1), cI (l2), cI (l3), cI (l4), cI (l5), l6] [] G (fun r G => ∃ v, r = cI v ∧ inI v ∧ Q v G)) (h : PX13_methodOf_56 J l1 l2 l3 l4 l5 G Q) : Tg W0 (vX13_methodOf_56 j) [rf (16081), cI (l1), cI (l2), cI (l3), cI (l4), cI (l5), l6] [] G (fun r G => ∃ v, r = cI v ∧ inI v ∧ Q v G) := by
  unfold PX13_methodOf_56 at h
  unfold vX13_methodOf_56
  refine g_ld (v := cI _) rfl (is_I _) ?_
  refine g_ld (v := cI _) rfl (is_I _) ?_
  refine g_lt2 hl5 hl3 (fun b14 => ?_) (fun b14 => ?_)
  · replace h := h.1 b14
    unfold vX13_methodOf_62
    refine g_ld (v := rf _) rfl (is_R _) ?_
    refine g_ld (v := rf _) rfl (is_R _) ?_
    refine g_getF (v := 16195) oC13 (hC13_143) rfl (Nat.le_of_ble_eq_true rfl) (Nat.le_of_ble_eq_true rfl) ?_
    refine g_ld (v := cI _) rfl (is_I _) ?_
    obtain ⟨q15, q16, h⟩ := h
    refine g_aldI aC16195 q15 q16 rfl fun i17 => ?_
    replace h := h i17
    refine g_callV (As := [_]) (ci := 13) oC13 (fun _ => rfl) ?_
    refine g_go0 (Nat.le_of_ble_eq_true rfl) (Tn_w (TX13_see i17 h) fun _ G18 ⟨e, h⟩ => ⟨e, ?_⟩)
    refine g_ld (v := rf _) rfl (is_R _) ?_
    refine g_ld (v := rf _) rfl (is_R _) ?_
    refine g_getF (v := 16195) oC13 (hC13_143) rfl (Nat.le_of_ble_eq_true rfl) (Nat.le_of_ble_eq_true rfl) ?_
    refine g_ld (v := cI _) rfl (is_I _) ?_
    obtain ⟨q20, q21, h⟩ := h
    refine g_aldI aC16195 q20 q21 rfl fun i22 => ?_
    replace h := h i22
    refine g_const (v := cI (7343)) rfl ?_
    refine g_callV (As := [_, _]) (ci := 13) oC13 (fun _ => rfl) ?_
    refine g_go1 (Nat.le_of_ble_eq_true rfl) (Tn_w (TX13_ownMethod i22 ⟨by omega, by omega⟩ h) fun _ G23 ⟨r24, e, i25, h⟩ => ?_)
    subst e
    refine ⟨n7_I _, ?_⟩
    replace h := h i25
    refine g_st (lv' := [_, _, _, _, _, _, _]) (is_I _) (Nat.le_of_ble_eq_true rfl) (Or.inr (n1_I _)) rfl ?_
    refine g_ld (v := cI _) rfl (is_I _) ?_
    refine g_const (v := cI (-2)) rfl ?_
    refine g_eq2 hl4 ⟨by omega, by omega⟩ (fun b26 => ?_) (fun b26 => ?_)
    · replace h := h.1 b26
      unfold vX13_methodOf_96
      refine g_ld (v := cI _) rfl (is_I _) ?_
      refine g_const (v := cI (-2)) rfl ?_
      refine g_eq2 i25 ⟨by omega, by omega⟩ (fun b27 => ?_) (fun b27 => ?_)
      · replace h := h.1 b27
        exact TX13_methodOf_117 hl1 hl2 hl3 hl4 hl5 i25 hj0 hj1 h
      · replace h := h.2 b27
        unfold vX13_methodOf_103
        refine g_ld (v := rf _) rfl (is_R _) ?_
        refine g_ld (v := cI _) rfl (is_I _) ?_
        refine g_callV (As := [_]) (ci := 13) oC13 (fun _ => rfl) ?_
        refine g_go1 (Nat.le_of_ble_eq_true rfl) (Tn_w (TX13_isFree i25 h) fun _ G28 ⟨r29, e, i30, h⟩ => ?_)
        subst e
        refine ⟨n7_I _, ?_⟩
        replace h := h i30
        refine g_eq1 ⟨by omega, by omega⟩ (fun b31 => ?_) (fun b31 => ?_)
        · replace h := h.1 b31
          exact TX13_methodOf_117 hl1 hl2 hl3 hl4 hl5 i25 hj0 hj1 h
        · replace h := h.2 b31
          unfold vX13_methodOf_112
          refine g_ld (v := cI _) rfl (is_I _) ?_
          exact TX13_methodOf_119 hl1 hl2 hl3 hl4 hl5 i25 i25 hj0 hj1 h
    · replace h := h.2 b26
      exact TX13_methodOf_117 hl1 hl2 hl3 hl4 hl5 i25 hj0 hj1 h
  · replace h := h.2 b14
    unfold vX13_methodOf_127
    refine g_ld (v := rf _) rfl (is_R _) ?_
    refine g_ld (v := cI _) rfl (is_I _) ?_
    refine g_const (v := cI (7343)) rfl ?_
    refine g_callV (As := [_, _]) (ci := 13) oC13 (fun _ => rfl) ?_
    refine g_go1 (Nat.le_of_ble_eq_true rfl) (Tn_w (TX13_mostSpecial hl1 ⟨by omega, by omega⟩ h) fun _ G32 ⟨r33, e, i34, h⟩ => ?_)
    subst e
    refine ⟨n7_I _, ?_⟩
    replace h := h i34
    refine g_const (v := cI (1)) rfl ?_
    refine g_eq2 i34 ⟨by omega, by omega⟩ (fun b35 => ?_) (fun b35 => ?_)
    · replace h := h.1 b35
      unfold vX13_methodOf_139
      refine g_ld (v := rf _) rfl (is_R _) ?_
      refine g_getI (kz := 102) oC13 rfl (Nat.le_of_ble_eq_true rfl) rfl fun i36 => ?_
      replace h := h i36
      exact TX13_methodOf_148 hl1 hl2 hl3 hl4 hl5 hl6 i36 hj0 hj1 h
    · replace h := h.2 b35
      unfold vX13_methodOf_146
      refine g_ld (v := cI _) rfl (is_I _) ?_
      exact TX13_methodOf_148 hl1 hl2 hl3 hl4 hl5 hl6 hl4 hj0 hj1 h
def PX13_methodOf_2 (J : Nat → List Int → gS → (Int → gS → Prop) → Prop) (l1 : Int) (l2 : Int) (G : gS) (Q : Int → gS → Prop) : Prop :=
  ((l2 = -2 → PX13_allFaces l1 16195 G (fun r3 G2 => inI r3 → PX13_methodOf_56 J l1 l2 r3 (-2) 0 G2 Q)) ∧ (¬ (l2 = -2) → PX13_see l2 G (fun _ G5 => PX13_ownMethod l2 7343 G5 (fun r8 G7 => inI r8 → ((r8 = -2 → PX13_parent l2 G7 (fun r12 G11 => inI r12 → J 0 [l1, r12] G11 Q)) ∧ (¬ (r8 = -2) → Q (r8) G7))))))
set_option maxRecDepth 20000 in
theorem TX13_methodOf_2 {j : Nat → rx_K} {J : Nat → List Int → gS → (Int → gS → Prop) → Prop} {l1 : Int} {l2 : Int} {l3 : Nat} {l4 : Nat} {l5 : Nat} {l6 : Nat} {G : gS} {Q : Int → gS → Prop} (hl1 : inI l1) (hl2 : inI l2) (hl3 : l3 % 8 ≠ 1) (hl4 : l4 % 8 ≠ 1) (hl5 : l5 % 8 ≠ 1) (hl6 : l6 % 8 ≠ 1) (hj0 : ∀ (l1 : Int) (l2 : Int) (l3 : Nat) (l4 : Nat) (l5 : Nat) (l6 : Nat) (G : gS), (inI l1) → (inI l2) → (l3 % 8 ≠ 1) → (l4 % 8 ≠ 1) → (l5 % 8 ≠ 1) → (l6 % 8 ≠ 1) → J 0 [l1, l2] G Q → Tg W0 (j 0) [rf (16081), cI (l1), cI (l2), l3, l4, l5, l6] [] G (fun r G => ∃ v, r = cI v ∧ inI v ∧ Q v G)) (hj1 : ∀ (l1 : Int) (l2 : Int) (l3 : Int) (l4 : Int) (l5 : Int) (l6 : Nat) (G : gS), (inI l1) → (inI l2) → (inI l3) → (inI l4) → (inI l5) → (l6 % 8 ≠ 1) → J 1 [l1, l2, l3, l4, l5] G Q → Tg W0 (j 1) [rf (16081), cI (l1), cI (l2), cI (l3), cI (l4), cI (l5), l6] [] G (fun r G => ∃ v, r = cI v ∧ inI v ∧ Q v G)) (h : PX13_methodOf_2 J l1 l2 G Q) : Tg W0 (vX13_methodOf_2 j) [rf (16081), cI (l1), cI (l2), l3, l4, l5, l6] [] G (fun r G => ∃ v, r = cI v ∧ inI v ∧ Q v G) := by
  unfold PX13_methodOf_2 at h
  unfold vX13_methodOf_2
  refine g_ld (v := cI _) rfl (is_I _) ?_
  refine g_const (v := cI (-2)) rfl ?_
  refine g_eq2 hl2 ⟨by omega, by omega⟩ (fun b1 => ?_) (fun b1 => ?_)
  · replace h := h.1 b1
    unfold vX13_methodOf_39
    refine g_ld (v := rf _) rfl (is_R _) ?_
    refine g_ld (v := cI _) rfl (is_I _) ?_
    refine g_ld (v := rf _) rfl (is_R _) ?_
    refine g_getF (v := 16195) oC13 (hC13_143) rfl (Nat.le_of_ble_eq_true rfl) (Nat.le_of_ble_eq_true rfl) ?_
    refine g_callV (As := [_, _]) (ci := 13) oC13 (fun _ => rfl) ?_
    refine g_go1 (Nat.le_of_ble_eq_true rfl) (Tn_w (TX13_allFaces hl1 h) fun _ G2 ⟨r3, e, i4, h⟩ => ?_)
    subst e
    refine ⟨n7_I _, ?_⟩
    replace h := h i4
    refine g_st (lv' := [_, _, _, _, _, _, _]) (is_I _) (Nat.le_of_ble_eq_true rfl) (Or.inr (n1_I _)) rfl ?_
    refine g_const (v := cI (-2)) rfl ?_
    obtain ⟨x, hx⟩ : ∃ x : Int, x = -2 := ⟨_, rfl⟩
    rw [← hx]
    refine g_st (lv' := [_, _, _, _, _, _, _]) (is_I _) (Nat.le_of_ble_eq_true rfl) (Or.inr (n1_I _)) rfl ?_
    refine g_const (v := cI (0)) rfl ?_
    refine g_st (lv' := [_, _, _, _, _, _, _]) (is_I _) (Nat.le_of_ble_eq_true rfl) (Or.inr (n1_I _)) rfl ?_
    rw [hx]
    exact TX13_methodOf_56 hl1 hl2 i4 ⟨by omega, by omega⟩ ⟨by omega, by omega⟩ hl6 hj0 hj1 h
  · replace h := h.2 b1
    unfold vX13_methodOf_8
    refine g_ld (v := rf _) rfl (is_R _) ?_
    refine g_ld (v := cI _) rfl (is_I _) ?_
    refine g_callV (As := [_]) (ci := 13) oC13 (fun _ => rfl) ?_
    refine g_go0 (Nat.le_of_ble_eq_true rfl) (Tn_w (TX13_see hl2 h) fun _ G5 ⟨e, h⟩ => ⟨e, ?_⟩)
    refine g_ld (v := rf _) rfl (is_R _) ?_
    refine g_ld (v := cI _) rfl (is_I _) ?_
    refine g_const (v := cI (7343)) rfl ?_
    refine g_callV (As := [_, _]) (ci := 13) oC13 (fun _ => rfl) ?_
    refine g_go1 (Nat.le_of_ble_eq_true rfl) (Tn_w (TX13_ownMethod hl2 ⟨by omega, by omega⟩ h) fun _ G7 ⟨r8, e, i9, h⟩ => ?_)
    subst e
    refine ⟨n7_I _, ?_⟩
    replace h := h i9
    refine g_st (lv' := [_, _, _, _, _, _, _]) (is_I _) (Nat.le_of_ble_eq_true rfl) (Or.inr (n1_I _)) rfl ?_
    refine g_ld (v := cI _) rfl (is_I _) ?_
    refine g_const (v := cI (-2)) rfl ?_
    refine g_eq2 i9 ⟨by omega, by omega⟩ (fun b10 => ?_) (fun b10 => ?_)
    · replace h := h.1 b10
      unfold vX13_methodOf_30
      refine g_ld (v := rf _) rfl (is_R _) ?_
      refine g_ld (v := cI _) rfl (is_I _) ?_
      refine g_callV (As := [_]) (ci := 13) oC13 (fun _ => rfl) ?_
      refine g_go1 (Nat.le_of_ble_eq_true rfl) (Tn_w (TX13_parent hl2 h) fun _ G11 ⟨r12, e, i13, h⟩ => ?_)
      subst e
      refine ⟨n7_I _, ?_⟩
      replace h := h i13
      refine g_st (lv' := [_, _, _, _, _, _, _]) (is_I _) (Nat.le_of_ble_eq_true rfl) (Or.inr (n1_I _)) rfl ?_
      exact hj0 _ _ _ _ _ _ _ hl1 i13 (n1_I _) hl4 hl5 hl6 h
    · replace h := h.2 b10
      unfold vX13_methodOf_28
      refine g_ld (v := cI _) rfl (is_I _) ?_
      exact g_ret1 (is_I _) ⟨_, rfl, i9, h⟩
def PX13_methodOf_0 (J : Nat → List Int → gS → (Int → gS → Prop) → Prop) (a1 : Int) (G : gS) (Q : Int → gS → Prop) : Prop :=
  PX13_methodOf_2 J a1 a1 G Q
set_option maxRecDepth 20000 in
theorem TX13_methodOf_0 {j : Nat → rx_K} {J : Nat → List Int → gS → (Int → gS → Prop) → Prop} {a1 : Int} {G : gS} {Q : Int → gS → Prop} (ha1 : inI a1) (hj0 : ∀ (l1 : Int) (l2 : Int) (l3 : Nat) (l4 : Nat) (l5 : Nat) (l6 : Nat) (G : gS), (inI l1) → (inI l2) → (l3 % 8 ≠ 1) → (l4 % 8 ≠ 1) → (l5 % 8 ≠ 1) → (l6 % 8 ≠ 1) → J 0 [l1, l2] G Q → Tg W0 (j 0) [rf (16081), cI (l1), cI (l2), l3, l4, l5, l6] [] G (fun r G => ∃ v, r = cI v ∧ inI v ∧ Q v G)) (hj1 : ∀ (l1 : Int) (l2 : Int) (l3 : Int) (l4 : Int) (l5 : Int) (l6 : Nat) (G : gS), (inI l1) → (inI l2) → (inI l3) → (inI l4) → (inI l5) → (l6 % 8 ≠ 1) → J 1 [l1, l2, l3, l4, l5] G Q → Tg W0 (j 1) [rf (16081), cI (l1), cI (l2), cI (l3), cI (l4), cI (l5), l6] [] G (fun r G => ∃ v, r = cI v ∧ inI v ∧ Q v G)) (h : PX13_methodOf_0 J a1 G Q) : Tg W0 (vX13_methodOf_0 j) [rf (16081), cI (a1), 7, 7, 7, 7, 7] [] G (fun r G => ∃ v, r = cI v ∧ inI v ∧ Q v G) := by
  unfold PX13_methodOf_0 at h
  unfold vX13_methodOf_0
  refine g_ld (v := cI _) rfl (is_I _) ?_
  refine g_st (lv' := [_, _, _, _, _, _, _]) (is_I _) (Nat.le_of_ble_eq_true rfl) (Or.inr (n1_I _)) rfl ?_
  exact TX13_methodOf_2 ha1 ha1 (show 7 % 8 ≠ 1 by decide) (show 7 % 8 ≠ 1 by decide) (show 7 % 8 ≠ 1 by decide) (show 7 % 8 ≠ 1 by decide) hj0 hj1 h
def PX13_methodOf_J : Nat → Nat → List Int → gS → (Int → gS → Prop) → Prop
  | 0, _, _, _, _ => False
  | f + 1, h, L, G, Q => match h, L with
    | 0, [l1, l2] => PX13_methodOf_2 (PX13_methodOf_J f) l1 l2 G Q
    | 1, [l1, l2, l3, l4, l5] => PX13_methodOf_56 (PX13_methodOf_J f) l1 l2 l3 l4 l5 G Q
    | _, _ => False
theorem TX13_methodOf_J {Q : Int → gS → Prop} : ∀ f N : Nat, f ≤ N → (∀ (l1 : Int) (l2 : Int) (l3 : Nat) (l4 : Nat) (l5 : Nat) (l6 : Nat) (G : gS), (inI l1) → (inI l2) → (l3 % 8 ≠ 1) → (l4 % 8 ≠ 1) → (l5 % 8 ≠ 1) → (l6 % 8 ≠ 1) → (PX13_methodOf_J f) 0 [l1, l2] G Q → Tg W0 (rx_J vhX13_methodOf N 0) [rf (16081), cI (l1), cI (l2), l3, l4, l5, l6] [] G (fun r G => ∃ v, r = cI v ∧ inI v ∧ Q v G)) ∧ (∀ (l1 : Int) (l2 : Int) (l3 : Int) (l4 : Int) (l5 : Int) (l6 : Nat) (G : gS), (inI l1) → (inI l2) → (inI l3) → (inI l4) → (inI l5) → (l6 % 8 ≠ 1) → (PX13_methodOf_J f) 1 [l1, l2, l3, l4, l5] G Q → Tg W0 (rx_J vhX13_methodOf N 1) [rf (16081), cI (l1), cI (l2), cI (l3), cI (l4), cI (l5), l6] [] G (fun r G => ∃ v, r = cI v ∧ inI v ∧ Q v G)) := by
  intro f
  induction f with
  | zero => exact fun N _ => ⟨fun _ _ _ _ _ _ _ _ _ _ _ _ _ h => h.elim, fun _ _ _ _ _ _ _ _ _ _ _ _ _ h => h.elim⟩
  | succ f ih =>
    intro N hN
    obtain ⟨M, rfl⟩ : ∃ M, N = M + 1 := ⟨N - 1, by omega⟩
    have ih := ih M (by omega)
    exact ⟨fun _ _ _ _ _ _ _ hl1 hl2 hl3 hl4 hl5 hl6 h => show Tg W0 (vX13_methodOf_2 (rx_J vhX13_methodOf M)) _ _ _ _ from TX13_methodOf_2 hl1 hl2 hl3 hl4 hl5 hl6 ih.1 ih.2 h, fun _ _ _ _ _ _ _ hl1 hl2 hl3 hl4 hl5 hl6 h => show Tg W0 (vX13_methodOf_56 (rx_J vhX13_methodOf M)) _ _ _ _ from TX13_methodOf_56 hl1 hl2 hl3 hl4 hl5 hl6 ih.1 ih.2 h⟩
def PX13_methodOf (a1 : Int) (G : gS) (Q : Int → gS → Prop) : Prop := ∃ f : Nat, f ≤ 4000000000 ∧ PX13_methodOf_0 (PX13_methodOf_J f) a1 G Q
theorem TX13_methodOf {a1 : Int} {G : gS} {Q : Int → gS → Prop} (ha1 : inI a1) (h : PX13_methodOf a1 G Q) : Tn W0 FX13_methodOf [rf (16081), cI (a1)] G (fun r G => ∃ v, r = cI v ∧ inI v ∧ Q v G) := by
  obtain ⟨f, hf, h⟩ := h
  have hJ := TX13_methodOf_J (Q := Q) f 4000000000 hf
  unfold FX13_methodOf
  refine g_ent (lv' := [rf (16081), cI (a1), 7, 7, 7, 7, 7]) (flR (flI fl0)) (Nat.le_of_ble_eq_true rfl) rfl ?_
  exact TX13_methodOf_0 ha1 hJ.1 hJ.2 h
end DE

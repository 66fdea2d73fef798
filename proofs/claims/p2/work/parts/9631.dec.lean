section DE
def PX13_overridesFinal_108 (J : Nat → List Int → gS → (Int → gS → Prop) → Prop) (l1 : Int) (l2 : Int) (l3 : Int) (l4 : Int) (l5 : Int) (l6 : Int) (s0 : Int) (G : gS) (Q : Int → gS → Prop) : Prop :=
  PX13_parent l5 G (fun r34 G33 => inI r34 → J 1 [l1, s0, l3, l4, r34] G33 Q)
set_option maxRecDepth 20000 in
theorem TX13_overridesFinal_108 {j : Nat → rx_K} {J : Nat → List Int → gS → (Int → gS → Prop) → Prop} {l1 : Int} {l2 : Int} {l3 : Int} {l4 : Int} {l5 : Int} {l6 : Int} {s0 : Int} {G : gS} {Q : Int → gS → Prop} (hl1 : inI l1) (hl2 : inI l2) (hl3 : inI l3) (hl4 : inI l4) (hl5 : inI l5) (hl6 : inI l6) (hs0 : inI s0) (hj0 : ∀ (l1 : Int) (l2 : Int) (l3 : Int) (l4 : Nat) (l5 : Nat) (l6 : Nat) (G : gS), (inI l1) → (inI l2) → (inI l3) → (l4 % 8 ≠ 1) → (l5 % 8 ≠ 1) → (l6 % 8 ≠ 1) → J 0 [l1, l2, l3] G Q → Tg W0 (j 0) [rf (16081), cI (l1), cI (l2), cI (l3), l4, l5, l6] [] G (fun r G => ∃ v, r = cI v ∧ (0 ≤ v ∧ v ≤ 1) ∧ Q v G)) (hj1 : ∀ (l1 : Int) (l2 : Int) (l3 : Int) (l4 : Int) (l5 : Int) (l6 : Nat) (G : gS), (inI l1) → (inI l2) → (inI l3) → (inI l4) → (inI l5) → (l6 % 8 ≠ 1) → J 1 [l1, l2, l3, l4, l5] G Q → Tg W0 (j 1) [rf (16081), cI (l1), cI (l2), cI (l3), cI (l4), cI (l5), l6] [] G (fun r G => ∃ v, r = cI v ∧ (0 ≤ v ∧ v ≤ 1) ∧ Q v G)) (h : PX13_overridesFinal_108 J l1 l2 l3 l4 l5 l6 s0 G Q) : Tg W0 (vX13_overridesFinal_108 j) [rf (16081), cI (l1), cI (l2), cI (l3), cI (l4), cI (l5), cI (l6)] [cI (s0)] G (fun r G => ∃ v, r = cI v ∧ (0 ≤ v ∧ v ≤ 1) ∧ Q v G) := by
  unfold PX13_overridesFinal_108 at h
  unfold vX13_overridesFinal_108
  refine g_st (lv' := [_, _, _, _, _, _, _]) (is_I _) (Nat.le_of_ble_eq_true rfl) (Or.inr (n1_I _)) rfl ?_
  refine g_ld (v := rf _) rfl (is_R _) ?_
  refine g_ld (v := cI _) rfl (is_I _) ?_
  refine g_callV (As := [_]) (ci := 13) oC13 (fun _ => rfl) ?_
  refine g_go1 (Nat.le_of_ble_eq_true rfl) (Tn_w (TX13_parent hl5 h) fun _ G33 ⟨r34, e, i35, h⟩ => ?_)
  subst e
  refine ⟨n7_I _, ?_⟩
  replace h := h i35
  refine g_st (lv' := [_, _, _, _, _, _, _]) (is_I _) (Nat.le_of_ble_eq_true rfl) (Or.inr (n1_I _)) rfl ?_
  exact hj1 _ _ _ _ _ _ _ hl1 hs0 hl3 hl4 i35 (n1_I _) h
def PX13_overridesFinal_107 (J : Nat → List Int → gS → (Int → gS → Prop) → Prop) (l1 : Int) (l2 : Int) (l3 : Int) (l4 : Int) (l5 : Int) (l6 : Int) (G : gS) (Q : Int → gS → Prop) : Prop :=
  PX13_overridesFinal_108 J l1 l2 l3 l4 l5 l6 0 G Q
set_option maxRecDepth 20000 in
theorem TX13_overridesFinal_107 {j : Nat → rx_K} {J : Nat → List Int → gS → (Int → gS → Prop) → Prop} {l1 : Int} {l2 : Int} {l3 : Int} {l4 : Int} {l5 : Int} {l6 : Int} {G : gS} {Q : Int → gS → Prop} (hl1 : inI l1) (hl2 : inI l2) (hl3 : inI l3) (hl4 : inI l4) (hl5 : inI l5) (hl6 : inI l6) (hj0 : ∀ (l1 : Int) (l2 : Int) (l3 : Int) (l4 : Nat) (l5 : Nat) (l6 : Nat) (G : gS), (inI l1) → (inI l2) → (inI l3) → (l4 % 8 ≠ 1) → (l5 % 8 ≠ 1) → (l6 % 8 ≠ 1) → J 0 [l1, l2, l3] G Q → Tg W0 (j 0) [rf (16081), cI (l1), cI (l2), cI (l3), l4, l5, l6] [] G (fun r G => ∃ v, r = cI v ∧ (0 ≤ v ∧ v ≤ 1) ∧ Q v G)) (hj1 : ∀ (l1 : Int) (l2 : Int) (l3 : Int) (l4 : Int) (l5 : Int) (l6 : Nat) (G : gS), (inI l1) → (inI l2) → (inI l3) → (inI l4) → (inI l5) → (l6 % 8 ≠ 1) → J 1 [l1, l2, l3, l4, l5] G Q → Tg W0 (j 1) [rf (16081), cI (l1), cI (l2), cI (l3), cI (l4), cI (l5), l6] [] G (fun r G => ∃ v, r = cI v ∧ (0 ≤ v ∧ v ≤ 1) ∧ Q v G)) (h : PX13_overridesFinal_107 J l1 l2 l3 l4 l5 l6 G Q) : Tg W0 (vX13_overridesFinal_107 j) [rf (16081), cI (l1), cI (l2), cI (l3), cI (l4), cI (l5), cI (l6)] [] G (fun r G => ∃ v, r = cI v ∧ (0 ≤ v ∧ v ≤ 1) ∧ Q v G) := by
  unfold PX13_overridesFinal_107 at h
  unfold vX13_overridesFinal_107
  refine g_const (v := cI (0)) rfl ?_
  exact TX13_overridesFinal_108 hl1 hl2 hl3 hl4 hl5 hl6 ⟨by omega, by omega⟩ hj0 hj1 h
def PX13_overridesFinal_103 (J : Nat → List Int → gS → (Int → gS → Prop) → Prop) (l1 : Int) (l2 : Int) (l3 : Int) (l4 : Int) (l5 : Int) (l6 : Int) (G : gS) (Q : Int → gS → Prop) : Prop :=
  PX13_overridesFinal_108 J l1 l2 l3 l4 l5 l6 1 G Q
set_option maxRecDepth 20000 in
theorem TX13_overridesFinal_103 {j : Nat → rx_K} {J : Nat → List Int → gS → (Int → gS → Prop) → Prop} {l1 : Int} {l2 : Int} {l3 : Int} {l4 : Int} {l5 : Int} {l6 : Int} {G : gS} {Q : Int → gS → Prop} (hl1 : inI l1) (hl2 : inI l2) (hl3 : inI l3) (hl4 : inI l4) (hl5 : inI l5) (hl6 : inI l6) (hj0 : ∀ (l1 : Int) (l2 : Int) (l3 : Int) (l4 : Nat) (l5 : Nat) (l6 : Nat) (G : gS), (inI l1) → (inI l2) → (inI l3) → (l4 % 8 ≠ 1) → (l5 % 8 ≠ 1) → (l6 % 8 ≠ 1) → J 0 [l1, l2, l3] G Q → Tg W0 (j 0) [rf (16081), cI (l1), cI (l2), cI (l3), l4, l5, l6] [] G (fun r G => ∃ v, r = cI v ∧ (0 ≤ v ∧ v ≤ 1) ∧ Q v G)) (hj1 : ∀ (l1 : Int) (l2 : Int) (l3 : Int) (l4 : Int) (l5 : Int) (l6 : Nat) (G : gS), (inI l1) → (inI l2) → (inI l3) → (inI l4) → (inI l5) → (l6 % 8 ≠ 1) → J 1 [l1, l2, l3, l4, l5] G Q → Tg W0 (j 1) [rf (16081), cI (l1), cI (l2), cI (l3), cI (l4), cI (l5), l6] [] G (fun r G => ∃ v, r = cI v ∧ (0 ≤ v ∧ v ≤ 1) ∧ Q v G)) (h : PX13_overridesFinal_103 J l1 l2 l3 l4 l5 l6 G Q) : Tg W0 (vX13_overridesFinal_103 j) [rf (16081), cI (l1), cI (l2), cI (l3), cI (l4), cI (l5), cI (l6)] [] G (fun r G => ∃ v, r = cI v ∧ (0 ≤ v ∧ v ≤ 1) ∧ Q v G) := by
  unfold PX13_overridesFinal_103 at h
  unfold vX13_overridesFinal_103
  refine g_const (v := cI (1)) rfl ?_
  exact TX13_overridesFinal_108 hl1 hl2 hl3 hl4 hl5 hl6 ⟨by omega, by omega⟩ hj0 hj1 h
def PX13_overridesFinal_54 (J : Nat → List Int → gS → (Int → gS → Prop) → Prop) (l1 : Int) (l2 : Int) (l3 : Int) (l4 : Int) (l5 : Int) (G : gS) (Q : Int → gS → Prop) : Prop :=
  ((l5 = -2 → (inI (l3 + 1) ∧ J 0 [l1, l2, l3 + 1] G Q)) ∧ (¬ (l5 = -2) → PX13_ownMethod l5 l4 G (fun r21 G20 => inI r21 → ((l2 = 0 → ((r21 = -2 → PX13_overridesFinal_107 J l1 l2 l3 l4 l5 r21 G20 Q) ∧ (¬ (r21 = -2) → ((0 : Int) ≤ r21 ∧ ((r21 : Int) < 7344 ∧ ((0 ≤ G20 16120 r21 ∧ G20 16120 r21 ≤ 1) → ((G20 16120 r21 = 0 → PX13_overridesFinal_107 J l1 l2 l3 l4 l5 r21 G20 Q) ∧ (¬ (G20 16120 r21 = 0) → PX13_overrides l4 r21 G20 (fun r30 G29 => (0 ≤ r30 ∧ r30 ≤ 1) → ((r30 = 0 → PX13_overridesFinal_107 J l1 l2 l3 l4 l5 r21 G29 Q) ∧ (¬ (r30 = 0) → PX13_overridesFinal_103 J l1 l2 l3 l4 l5 r21 G29 Q))))))))))) ∧ (¬ (l2 = 0) → PX13_overridesFinal_103 J l1 l2 l3 l4 l5 r21 G20 Q)))))
set_option maxRecDepth 20000 in
theorem TX13_overridesFinal_54 {j : Nat → rx_K} {J : Nat → List Int → gS → (Int → gS → Prop) → Prop} {l1 : Int} {l2 : Int} {l3 : Int} {l4 : Int} {l5 : Int} {l6 : Nat} {G : gS} {Q : Int → gS → Prop} (hl1 : inI l1) (hl2 : inI l2) (hl3 : inI l3) (hl4 : inI l4) (hl5 : inI l5) (hl6 : l6 % 8 ≠ 1) (hj0 : ∀ (l1 : Int) (l2 : Int) (l3 : Int) (l4 : Nat) (l5 : Nat) (l6 : Nat) (G : gS), (inI l1) → (inI l2) → (inI l3) → (l4 % 8 ≠ 1) → (l5 % 8 ≠ 1) → (l6 % 8 ≠ 1) → J 0 [l1, l2, l3] G Q → Tg W0 (j 0) [rf (16081), cI (l1), cI (l2), cI (l3), l4, l5, l6] [] G (fun r G => ∃ v, r = cI v ∧ (0 ≤ v ∧ v ≤ 1) ∧ Q v G)) (hj1 : ∀ (l1 : Int) (l2 : Int) (l3 : Int) (l4 : Int) (l5 : Int) (l6 : Nat) (G : gS), (inI l1) → (inI l2) → (inI l3) → (inI l4) → (inI l5) → (l6 % 8 ≠ 1) → J 1 [l1, l2, l3, l4, l5] G Q → Tg W0 (j 1) [rf (16081), cI (l1), cI (l2), cI (l3), cI (l4), cI (l5), l6] [] G (fun r G => ∃ v, r = cI v ∧ (0 ≤ v ∧ v ≤ 1) ∧ Q v G)) (h : PX13_overridesFinal_54 J l1 l2 l3 l4 l5 G Q) : Tg W0 (vX13_overridesFinal_54 j) [rf (16081), cI (l1), cI (l2), cI (l3), cI (l4), cI (l5), l6] [] G (fun r G => ∃ v, r = cI v ∧ (0 ≤ v ∧ v ≤ 1) ∧ Q v G) := by
  unfold PX13_overridesFinal_54 at h
  unfold vX13_overridesFinal_54
  refine g_ld (v := cI _) rfl (is_I _) ?_
  refine g_const (v := cI (-2)) rfl ?_
  refine g_eq2 hl5 ⟨by omega, by omega⟩ (fun b18 => ?_) (fun b18 => ?_)
  · replace h := h.1 b18
    unfold vX13_overridesFinal_120
    refine g_inc (lv' := [_, _, _, _, _, _, _]) rfl (Nat.le_of_ble_eq_true rfl) (Or.inr (n1_I _)) rfl ?_
    obtain ⟨q19, h⟩ := h
    exact hj0 _ _ _ _ _ _ _ hl1 hl2 q19 (n1_I _) (n1_I _) hl6 h
  · replace h := h.2 b18
    unfold vX13_overridesFinal_61
    refine g_ld (v := rf _) rfl (is_R _) ?_
    refine g_ld (v := cI _) rfl (is_I _) ?_
    refine g_ld (v := cI _) rfl (is_I _) ?_
    refine g_callV (As := [_, _]) (ci := 13) oC13 (fun _ => rfl) ?_
    refine g_go1 (Nat.le_of_ble_eq_true rfl) (Tn_w (TX13_ownMethod hl5 hl4 h) fun _ G20 ⟨r21, e, i22, h⟩ => ?_)
    subst e
    refine ⟨n7_I _, ?_⟩
    replace h := h i22
    refine g_st (lv' := [_, _, _, _, _, _, _]) (is_I _) (Nat.le_of_ble_eq_true rfl) (Or.inr (n1_I _)) rfl ?_
    refine g_ld (v := cI _) rfl (is_I _) ?_
    refine g_eq1 hl2 (fun b23 => ?_) (fun b23 => ?_)
    · replace h := h.1 b23
      unfold vX13_overridesFinal_75
      refine g_ld (v := cI _) rfl (is_I _) ?_
      refine g_const (v := cI (-2)) rfl ?_
      refine g_eq2 i22 ⟨by omega, by omega⟩ (fun b24 => ?_) (fun b24 => ?_)
      · replace h := h.1 b24
        exact TX13_overridesFinal_107 hl1 hl2 hl3 hl4 hl5 i22 hj0 hj1 h
      · replace h := h.2 b24
        unfold vX13_overridesFinal_82
        refine g_ld (v := rf _) rfl (is_R _) ?_
        refine g_getF (v := 16120) oC13 (hC13_46) rfl (Nat.le_of_ble_eq_true rfl) (Nat.le_of_ble_eq_true rfl) ?_
        refine g_ld (v := cI _) rfl (is_I _) ?_
        obtain ⟨q25, q26, h⟩ := h
        refine g_aldZ aC16120 q25 q26 rfl fun i27 => ?_
        replace h := h i27
        refine g_eq1 ⟨by omega, by omega⟩ (fun b28 => ?_) (fun b28 => ?_)
        · replace h := h.1 b28
          exact TX13_overridesFinal_107 hl1 hl2 hl3 hl4 hl5 i22 hj0 hj1 h
        · replace h := h.2 b28
          unfold vX13_overridesFinal_92
          refine g_ld (v := rf _) rfl (is_R _) ?_
          refine g_ld (v := cI _) rfl (is_I _) ?_
          refine g_ld (v := cI _) rfl (is_I _) ?_
          refine g_callV (As := [_, _]) (ci := 13) oC13 (fun _ => rfl) ?_
          refine g_go1 (Nat.le_of_ble_eq_true rfl) (Tn_w (TX13_overrides hl4 i22 h) fun _ G29 ⟨r30, e, i31, h⟩ => ?_)
          subst e
          refine ⟨n7_I _, ?_⟩
          replace h := h i31
          refine g_eq1 ⟨by omega, by omega⟩ (fun b32 => ?_) (fun b32 => ?_)
          · replace h := h.1 b32
            exact TX13_overridesFinal_107 hl1 hl2 hl3 hl4 hl5 i22 hj0 hj1 h
          · replace h := h.2 b32
            exact TX13_overridesFinal_103 hl1 hl2 hl3 hl4 hl5 i22 hj0 hj1 h
    · replace h := h.2 b23
      exact TX13_overridesFinal_103 hl1 hl2 hl3 hl4 hl5 i22 hj0 hj1 h
def PX13_overridesFinal_52 (J : Nat → List Int → gS → (Int → gS → Prop) → Prop) (l1 : Int) (l2 : Int) (l3 : Int) (l4 : Int) (s0 : Int) (G : gS) (Q : Int → gS → Prop) : Prop :=
  PX13_overridesFinal_54 J l1 l2 l3 l4 s0 G Q
set_option maxRecDepth 20000 in
theorem TX13_overridesFinal_52 {j : Nat → rx_K} {J : Nat → List Int → gS → (Int → gS → Prop) → Prop} {l1 : Int} {l2 : Int} {l3 : Int} {l4 : Int} {l5 : Nat} {l6 : Nat} {s0 : Int} {G : gS} {Q : Int → gS → Prop} (hl1 : inI l1) (hl2 : inI l2) (hl3 : inI l3) (hl4 : inI l4) (hl5 : l5 % 8 ≠ 1) (hl6 : l6 % 8 ≠ 1) (hs0 : inI s0) (hj0 : ∀ (l1 : Int) (l2 : Int) (l3 : Int) (l4 : Nat) (l5 : Nat) (l6 : Nat) (G : gS), (inI l1) → (inI l2) → (inI l3) → (l4 % 8 ≠ 1) → (l5 % 8 ≠ 1) → (l6 % 8 ≠ 1) → J 0 [l1, l2, l3] G Q → Tg W0 (j 0) [rf (16081), cI (l1), cI (l2), cI (l3), l4, l5, l6] [] G (fun r G => ∃ v, r = cI v ∧ (0 ≤ v ∧ v ≤ 1) ∧ Q v G)) (hj1 : ∀ (l1 : Int) (l2 : Int) (l3 : Int) (l4 : Int) (l5 : Int) (l6 : Nat) (G : gS), (inI l1) → (inI l2) → (inI l3) → (inI l4) → (inI l5) → (l6 % 8 ≠ 1) → J 1 [l1, l2, l3, l4, l5] G Q → Tg W0 (j 1) [rf (16081), cI (l1), cI (l2), cI (l3), cI (l4), cI (l5), l6] [] G (fun r G => ∃ v, r = cI v ∧ (0 ≤ v ∧ v ≤ 1) ∧ Q v G)) (h : PX13_overridesFinal_52 J l1 l2 l3 l4 s0 G Q) : Tg W0 (vX13_overridesFinal_52 j) [rf (16081), cI (l1), cI (l2), cI (l3), cI (l4), l5, l6] [cI (s0)] G (fun r G => ∃ v, r = cI v ∧ (0 ≤ v ∧ v ≤ 1) ∧ Q v G) := by
  unfold PX13_overridesFinal_52 at h
  unfold vX13_overridesFinal_52
  refine g_st (lv' := [_, _, _, _, _, _, _]) (is_I _) (Nat.le_of_ble_eq_true rfl) (Or.inr (n1_I _)) rfl ?_
  exact TX13_overridesFinal_54 hl1 hl2 hl3 hl4 hs0 hl6 hj0 hj1 h
def PX13_overridesFinal_50 (J : Nat → List Int → gS → (Int → gS → Prop) → Prop) (l1 : Int) (l2 : Int) (l3 : Int) (l4 : Int) (G : gS) (Q : Int → gS → Prop) : Prop :=
  PX13_overridesFinal_52 J l1 l2 l3 l4 (-2) G Q
set_option maxRecDepth 20000 in
theorem TX13_overridesFinal_50 {j : Nat → rx_K} {J : Nat → List Int → gS → (Int → gS → Prop) → Prop} {l1 : Int} {l2 : Int} {l3 : Int} {l4 : Int} {l5 : Nat} {l6 : Nat} {G : gS} {Q : Int → gS → Prop} (hl1 : inI l1) (hl2 : inI l2) (hl3 : inI l3) (hl4 : inI l4) (hl5 : l5 % 8 ≠ 1) (hl6 : l6 % 8 ≠ 1) (hj0 : ∀ (l1 : Int) (l2 : Int) (l3 : Int) (l4 : Nat) (l5 : Nat) (l6 : Nat) (G : gS), (inI l1) → (inI l2) → (inI l3) → (l4 % 8 ≠ 1) → (l5 % 8 ≠ 1) → (l6 % 8 ≠ 1) → J 0 [l1, l2, l3] G Q → Tg W0 (j 0) [rf (16081), cI (l1), cI (l2), cI (l3), l4, l5, l6] [] G (fun r G => ∃ v, r = cI v ∧ (0 ≤ v ∧ v ≤ 1) ∧ Q v G)) (hj1 : ∀ (l1 : Int) (l2 : Int) (l3 : Int) (l4 : Int) (l5 : Int) (l6 : Nat) (G : gS), (inI l1) → (inI l2) → (inI l3) → (inI l4) → (inI l5) → (l6 % 8 ≠ 1) → J 1 [l1, l2, l3, l4, l5] G Q → Tg W0 (j 1) [rf (16081), cI (l1), cI (l2), cI (l3), cI (l4), cI (l5), l6] [] G (fun r G => ∃ v, r = cI v ∧ (0 ≤ v ∧ v ≤ 1) ∧ Q v G)) (h : PX13_overridesFinal_50 J l1 l2 l3 l4 G Q) : Tg W0 (vX13_overridesFinal_50 j) [rf (16081), cI (l1), cI (l2), cI (l3), cI (l4), l5, l6] [] G (fun r G => ∃ v, r = cI v ∧ (0 ≤ v ∧ v ≤ 1) ∧ Q v G) := by
  unfold PX13_overridesFinal_50 at h
  unfold vX13_overridesFinal_50
  refine g_const (v := cI (-2)) rfl ?_
  exact TX13_overridesFinal_52 hl1 hl2 hl3 hl4 hl5 hl6 ⟨by omega, by omega⟩ hj0 hj1 h
def PX13_overridesFinal_4 (J : Nat → List Int → gS → (Int → gS → Prop) → Prop) (l1 : Int) (l2 : Int) (l3 : Int) (G : gS) (Q : Int → gS → Prop) : Prop :=
  ((0 : Int) ≤ l1 ∧ ((l1 : Int) < 216 ∧ (inI (G 16115 l1) → ((l3 < G 16115 l1 → (inI ((l1 * 34) + l3) ∧ ((0 : Int) ≤ (l1 * 34) + l3 ∧ (((l1 * 34) + l3 : Int) < 7344 ∧ (inI (G 16116 ((l1 * 34) + l3)) → ((G 16116 ((l1 * 34) + l3) = 1 → PX13_isFree ((l1 * 34) + l3) G (fun r11 G10 => (0 ≤ r11 ∧ r11 ≤ 1) → ((r11 = 0 → PX13_overridesFinal_50 J l1 l2 l3 ((l1 * 34) + l3) G10 Q) ∧ (¬ (r11 = 0) → PX13_parent l1 G10 (fun r15 G14 => inI r15 → PX13_overridesFinal_52 J l1 l2 l3 ((l1 * 34) + l3) r15 G14 Q))))) ∧ (¬ (G 16116 ((l1 * 34) + l3) = 1) → PX13_overridesFinal_50 J l1 l2 l3 ((l1 * 34) + l3) G Q))))))) ∧ (¬ (l3 < G 16115 l1) → ((0 ≤ l2 ∧ l2 ≤ 1) ∧ Q (l2) G))))))
set_option maxRecDepth 20000 in
theorem TX13_overridesFinal_4 {j : Nat → rx_K} {J : Nat → List Int → gS → (Int → gS → Prop) → Prop} {l1 : Int} {l2 : Int} {l3 : Int} {l4 : Nat} {l5 : Nat} {l6 : Nat} {G : gS} {Q : Int → gS → Prop} (hl1 : inI l1) (hl2 : inI l2) (hl3 : inI l3) (hl4 : l4 % 8 ≠ 1) (hl5 : l5 % 8 ≠ 1) (hl6 : l6 % 8 ≠ 1) (hj0 : ∀ (l1 : Int) (l2 : Int) (l3 : Int) (l4 : Nat) (l5 : Nat) (l6 : Nat) (G : gS), (inI l1) → (inI l2) → (inI l3) → (l4 % 8 ≠ 1) → (l5 % 8 ≠ 1) → (l6 % 8 ≠ 1) → J 0 [l1, l2, l3] G Q → Tg W0 (j 0) [rf (16081), cI (l1), cI (l2), cI (l3), l4, l5, l6] [] G (fun r G => ∃ v, r = cI v ∧ (0 ≤ v ∧ v ≤ 1) ∧ Q v G)) (hj1 : ∀ (l1 : Int) (l2 : Int) (l3 : Int) (l4 : Int) (l5 : Int) (l6 : Nat) (G : gS), (inI l1) → (inI l2) → (inI l3) → (inI l4) → (inI l5) → (l6 % 8 ≠ 1) → J 1 [l1, l2, l3, l4, l5] G Q → Tg W0 (j 1) [rf (16081), cI (l1), cI (l2), cI (l3), cI (l4), cI (l5), l6] [] G (fun r G => ∃ v, r = cI v ∧ (0 ≤ v ∧ v ≤ 1) ∧ Q v G)) (h : PX13_overridesFinal_4 J l1 l2 l3 G Q) : Tg W0 (vX13_overridesFinal_4 j) [rf (16081), cI (l1), cI (l2), cI (l3), l4, l5, l6] [] G (fun r G => ∃ v, r = cI v ∧ (0 ≤ v ∧ v ≤ 1) ∧ Q v G) := by
  unfold PX13_overridesFinal_4 at h
  unfold vX13_overridesFinal_4
  refine g_ld (v := cI _) rfl (is_I _) ?_
  refine g_ld (v := rf _) rfl (is_R _) ?_
  refine g_getF (v := 16115) oC13 (hC13_41) rfl (Nat.le_of_ble_eq_true rfl) (Nat.le_of_ble_eq_true rfl) ?_
  refine g_ld (v := cI _) rfl (is_I _) ?_
  obtain ⟨q1, q2, h⟩ := h
  refine g_aldI aC16115 q1 q2 rfl fun i3 => ?_
  replace h := h i3
  refine g_lt2 hl3 i3 (fun b4 => ?_) (fun b4 => ?_)
  · replace h := h.1 b4
    unfold vX13_overridesFinal_14
    refine g_ld (v := cI _) rfl (is_I _) ?_
    refine g_const (v := cI (34)) rfl ?_
    refine g_mul ?_
    refine g_ld (v := cI _) rfl (is_I _) ?_
    refine g_add ?_
    refine g_st (lv' := [_, _, _, _, _, _, _]) (is_I _) (Nat.le_of_ble_eq_true rfl) (Or.inr (n1_I _)) rfl ?_
    obtain ⟨q5, h⟩ := h
    refine g_ld (v := rf _) rfl (is_R _) ?_
    refine g_getF (v := 16116) oC13 (hC13_42) rfl (Nat.le_of_ble_eq_true rfl) (Nat.le_of_ble_eq_true rfl) ?_
    refine g_ld (v := cI _) rfl (is_I _) ?_
    obtain ⟨q6, q7, h⟩ := h
    refine g_aldI aC16116 q6 q7 rfl fun i8 => ?_
    replace h := h i8
    refine g_const (v := cI (1)) rfl ?_
    refine g_eq2 i8 ⟨by omega, by omega⟩ (fun b9 => ?_) (fun b9 => ?_)
    · replace h := h.1 b9
      unfold vX13_overridesFinal_33
      refine g_ld (v := rf _) rfl (is_R _) ?_
      refine g_ld (v := cI _) rfl (is_I _) ?_
      refine g_callV (As := [_]) (ci := 13) oC13 (fun _ => rfl) ?_
      refine g_go1 (Nat.le_of_ble_eq_true rfl) (Tn_w (TX13_isFree q5 h) fun _ G10 ⟨r11, e, i12, h⟩ => ?_)
      subst e
      refine ⟨n7_I _, ?_⟩
      replace h := h i12
      refine g_eq1 ⟨by omega, by omega⟩ (fun b13 => ?_) (fun b13 => ?_)
      · replace h := h.1 b13
        exact TX13_overridesFinal_50 hl1 hl2 hl3 q5 hl5 hl6 hj0 hj1 h
      · replace h := h.2 b13
        unfold vX13_overridesFinal_42
        refine g_ld (v := rf _) rfl (is_R _) ?_
        refine g_ld (v := cI _) rfl (is_I _) ?_
        refine g_callV (As := [_]) (ci := 13) oC13 (fun _ => rfl) ?_
        refine g_go1 (Nat.le_of_ble_eq_true rfl) (Tn_w (TX13_parent hl1 h) fun _ G14 ⟨r15, e, i16, h⟩ => ?_)
        subst e
        refine ⟨n7_I _, ?_⟩
        replace h := h i16
        exact TX13_overridesFinal_52 hl1 hl2 hl3 q5 hl5 hl6 i16 hj0 hj1 h
    · replace h := h.2 b9
      exact TX13_overridesFinal_50 hl1 hl2 hl3 q5 hl5 hl6 hj0 hj1 h
  · replace h := h.2 b4
    unfold vX13_overridesFinal_126
    refine g_ld (v := cI _) rfl (is_I _) ?_
    obtain ⟨q17, h⟩ := h
    exact g_ret1 (is_Z q17) ⟨_, rfl, q17, h⟩
def PX13_overridesFinal_0 (J : Nat → List Int → gS → (Int → gS → Prop) → Prop) (a1 : Int) (G : gS) (Q : Int → gS → Prop) : Prop :=
  PX13_overridesFinal_4 J a1 0 0 G Q
set_option maxRecDepth 20000 in
theorem TX13_overridesFinal_0 {j : Nat → rx_K} {J : Nat → List Int → gS → (Int → gS → Prop) → Prop} {a1 : Int} {G : gS} {Q : Int → gS → Prop} (ha1 : inI a1) (hj0 : ∀ (l1 : Int) (l2 : Int) (l3 : Int) (l4 : Nat) (l5 : Nat) (l6 : Nat) (G : gS), (inI l1) → (inI l2) → (inI l3) → (l4 % 8 ≠ 1) → (l5 % 8 ≠ 1) → (l6 % 8 ≠ 1) → J 0 [l1, l2, l3] G Q → Tg W0 (j 0) [rf (16081), cI (l1), cI (l2), cI (l3), l4, l5, l6] [] G (fun r G => ∃ v, r = cI v ∧ (0 ≤ v ∧ v ≤ 1) ∧ Q v G)) (hj1 : ∀ (l1 : Int) (l2 : Int) (l3 : Int) (l4 : Int) (l5 : Int) (l6 : Nat) (G : gS), (inI l1) → (inI l2) → (inI l3) → (inI l4) → (inI l5) → (l6 % 8 ≠ 1) → J 1 [l1, l2, l3, l4, l5] G Q → Tg W0 (j 1) [rf (16081), cI (l1), cI (l2), cI (l3), cI (l4), cI (l5), l6] [] G (fun r G => ∃ v, r = cI v ∧ (0 ≤ v ∧ v ≤ 1) ∧ Q v G)) (h : PX13_overridesFinal_0 J a1 G Q) : Tg W0 (vX13_overridesFinal_0 j) [rf (16081), cI (a1), 7, 7, 7, 7, 7] [] G (fun r G => ∃ v, r = cI v ∧ (0 ≤ v ∧ v ≤ 1) ∧ Q v G) := by
  unfold PX13_overridesFinal_0 at h
  unfold vX13_overridesFinal_0
  refine g_const (v := cI (0)) rfl ?_
  refine g_st (lv' := [_, _, _, _, _, _, _]) (is_I _) (Nat.le_of_ble_eq_true rfl) (Or.inr (n1_I _)) rfl ?_
  refine g_const (v := cI (0)) rfl ?_
  refine g_st (lv' := [_, _, _, _, _, _, _]) (is_I _) (Nat.le_of_ble_eq_true rfl) (Or.inr (n1_I _)) rfl ?_
  exact TX13_overridesFinal_4 ha1 ⟨by omega, by omega⟩ ⟨by omega, by omega⟩ (show 7 % 8 ≠ 1 by decide) (show 7 % 8 ≠ 1 by decide) (show 7 % 8 ≠ 1 by decide) hj0 hj1 h
def PX13_overridesFinal_J : Nat → Nat → List Int → gS → (Int → gS → Prop) → Prop
  | 0, _, _, _, _ => False
  | f + 1, h, L, G, Q => match h, L with
    | 0, [l1, l2, l3] => PX13_overridesFinal_4 (PX13_overridesFinal_J f) l1 l2 l3 G Q
    | 1, [l1, l2, l3, l4, l5] => PX13_overridesFinal_54 (PX13_overridesFinal_J f) l1 l2 l3 l4 l5 G Q
    | _, _ => False
theorem TX13_overridesFinal_J {Q : Int → gS → Prop} : ∀ f N : Nat, f ≤ N → (∀ (l1 : Int) (l2 : Int) (l3 : Int) (l4 : Nat) (l5 : Nat) (l6 : Nat) (G : gS), (inI l1) → (inI l2) → (inI l3) → (l4 % 8 ≠ 1) → (l5 % 8 ≠ 1) → (l6 % 8 ≠ 1) → (PX13_overridesFinal_J f) 0 [l1, l2, l3] G Q → Tg W0 (rx_J vhX13_overridesFinal N 0) [rf (16081), cI (l1), cI (l2), cI (l3), l4, l5, l6] [] G (fun r G => ∃ v, r = cI v ∧ (0 ≤ v ∧ v ≤ 1) ∧ Q v G)) ∧ (∀ (l1 : Int) (l2 : Int) (l3 : Int) (l4 : Int) (l5 : Int) (l6 : Nat) (G : gS), (inI l1) → (inI l2) → (inI l3) → (inI l4) → (inI l5) → (l6 % 8 ≠ 1) → (PX13_overridesFinal_J f) 1 [l1, l2, l3, l4, l5] G Q → Tg W0 (rx_J vhX13_overridesFinal N 1) [rf (16081), cI (l1), cI (l2), cI (l3), cI (l4), cI (l5), l6] [] G (fun r G => ∃ v, r = cI v ∧ (0 ≤ v ∧ v ≤ 1) ∧ Q v G)) := by
  intro f
  induction f with
  | zero => exact fun N _ => ⟨fun _ _ _ _ _ _ _ _ _ _ _ _ _ h => h.elim, fun _ _ _ _ _ _ _ _ _ _ _ _ _ h => h.elim⟩
  | succ f ih =>
    intro N hN
    obtain ⟨M, rfl⟩ : ∃ M, N = M + 1 := ⟨N - 1, by omega⟩
    have ih := ih M (by omega)
    exact ⟨fun _ _ _ _ _ _ _ hl1 hl2 hl3 hl4 hl5 hl6 h => show Tg W0 (vX13_overridesFinal_4 (rx_J vhX13_overridesFinal M)) _ _ _ _ from TX13_overridesFinal_4 hl1 hl2 hl3 hl4 hl5 hl6 ih.1 ih.2 h, fun _ _ _ _ _ _ _ hl1 hl2 hl3 hl4 hl5 hl6 h => show Tg W0 (vX13_overridesFinal_54 (rx_J vhX13_overridesFinal M)) _ _ _ _ from TX13_overridesFinal_54 hl1 hl2 hl3 hl4 hl5 hl6 ih.1 ih.2 h⟩
def PX13_overridesFinal (a1 : Int) (G : gS) (Q : Int → gS → Prop) : Prop := ∃ f : Nat, f ≤ 4000000000 ∧ PX13_overridesFinal_0 (PX13_overridesFinal_J f) a1 G Q
theorem TX13_overridesFinal {a1 : Int} {G : gS} {Q : Int → gS → Prop} (ha1 : inI a1) (h : PX13_overridesFinal a1 G Q) : Tn W0 FX13_overridesFinal [rf (16081), cI (a1)] G (fun r G => ∃ v, r = cI v ∧ (0 ≤ v ∧ v ≤ 1) ∧ Q v G) := by
  obtain ⟨f, hf, h⟩ := h
  have hJ := TX13_overridesFinal_J (Q := Q) f 4000000000 hf
  unfold FX13_overridesFinal
  refine g_ent (lv' := [rf (16081), cI (a1), 7, 7, 7, 7, 7]) (flR (flI fl0)) (Nat.le_of_ble_eq_true rfl) rfl ?_
  exact TX13_overridesFinal_0 ha1 hJ.1 hJ.2 h
def PX13_stands__50 (l1 : Int) (l2 : Int) (s0 : Int) (G : gS) (Q : Int → gS → Prop) : Prop :=
  ((0 ≤ s0 ∧ s0 ≤ 1) ∧ Q (s0) G)
set_option maxRecDepth 20000 in
theorem TX13_stands__50 {l1 : Int} {l2 : Int} {s0 : Int} {G : gS} {Q : Int → gS → Prop} (hl1 : inI l1) (hl2 : inI l2) (hs0 : inI s0) (h : PX13_stands__50 l1 l2 s0 G Q) : Tg W0 vX13_stands__50 [rf (16081), cI (l1), cI (l2)] [cI (s0)] G (fun r G => ∃ v, r = cI v ∧ (0 ≤ v ∧ v ≤ 1) ∧ Q v G) := by
  unfold PX13_stands__50 at h
  unfold vX13_stands__50
  obtain ⟨q22, h⟩ := h
  exact g_ret1 (is_Z q22) ⟨_, rfl, q22, h⟩
def PX13_stands__49 (l1 : Int) (l2 : Int) (G : gS) (Q : Int → gS → Prop) : Prop :=
  PX13_stands__50 l1 l2 0 G Q
set_option maxRecDepth 20000 in
theorem TX13_stands__49 {l1 : Int} {l2 : Int} {G : gS} {Q : Int → gS → Prop} (hl1 : inI l1) (hl2 : inI l2) (h : PX13_stands__49 l1 l2 G Q) : Tg W0 vX13_stands__49 [rf (16081), cI (l1), cI (l2)] [] G (fun r G => ∃ v, r = cI v ∧ (0 ≤ v ∧ v ≤ 1) ∧ Q v G) := by
  unfold PX13_stands__49 at h
  unfold vX13_stands__49
  refine g_const (v := cI (0)) rfl ?_
  exact TX13_stands__50 hl1 hl2 ⟨by omega, by omega⟩ h
def PX13_stands__0 (a1 : Int) (G : gS) (Q : Int → gS → Prop) : Prop :=
  (inI (idiv a1 1800) → ((0 : Int) ≤ idiv a1 1800 ∧ ((idiv a1 1800 : Int) < 16 ∧ (inI (G 16087 (idiv a1 1800)) → ((0 : Int) ≤ G 16087 (idiv a1 1800) ∧ ((G 16087 (idiv a1 1800) : Int) < 5 ∧ (inI (G 16163 (G 16087 (idiv a1 1800))) → ((G 16163 (G 16087 (idiv a1 1800)) = idiv a1 1800 → ((0 : Int) ≤ a1 ∧ ((a1 : Int) < 30600 ∧ (inI (G 16180 a1) → ((0 : Int) ≤ G 16180 a1 ∧ ((G 16180 a1 : Int) < 216 ∧ (inL (G 16098 (G 16180 a1)) → PX13_find (G 16098 (G 16180 a1)) G (fun r16 G15 => inI r16 → ((0 : Int) ≤ a1 ∧ ((a1 : Int) < 30600 ∧ (inI (G15 16180 a1) → ((r16 = G15 16180 a1 → PX13_stands__50 a1 (idiv a1 1800) 1 G15 Q) ∧ (¬ (r16 = G15 16180 a1) → PX13_stands__49 a1 (idiv a1 1800) G15 Q))))))))))))) ∧ (¬ (G 16163 (G 16087 (idiv a1 1800)) = idiv a1 1800) → PX13_stands__49 a1 (idiv a1 1800) G Q)))))))))
set_option maxRecDepth 20000 in
theorem TX13_stands__0 {a1 : Int} {G : gS} {Q : Int → gS → Prop} (ha1 : inI a1) (h : PX13_stands__0 a1 G Q) : Tg W0 vX13_stands__0 [rf (16081), cI (a1), 7] [] G (fun r G => ∃ v, r = cI v ∧ (0 ≤ v ∧ v ≤ 1) ∧ Q v G) := by
  unfold PX13_stands__0 at h
  unfold vX13_stands__0
  refine g_ld (v := cI _) rfl (is_I _) ?_
  refine g_const (v := cI (1800)) rfl ?_
  refine g_idiv ⟨by omega, by omega⟩ (by omega) fun i1 => ?_
  replace h := h i1
  refine g_st (lv' := [_, _, _]) (is_I _) (Nat.le_of_ble_eq_true rfl) (Or.inr (n1_I _)) rfl ?_
  refine g_ld (v := rf _) rfl (is_R _) ?_
  refine g_getF (v := 16163) oC13 (hC13_90) rfl (Nat.le_of_ble_eq_true rfl) (Nat.le_of_ble_eq_true rfl) ?_
  refine g_ld (v := rf _) rfl (is_R _) ?_
  refine g_getF (v := 16087) oC13 (hC13_7) rfl (Nat.le_of_ble_eq_true rfl) (Nat.le_of_ble_eq_true rfl) ?_
  refine g_ld (v := cI _) rfl (is_I _) ?_
  obtain ⟨q2, q3, h⟩ := h
  refine g_aldI aC16087 q2 q3 rfl fun i4 => ?_
  replace h := h i4
  obtain ⟨q5, q6, h⟩ := h
  refine g_aldI aC16163 q5 q6 rfl fun i7 => ?_
  replace h := h i7
  refine g_ld (v := cI _) rfl (is_I _) ?_
  refine g_eq2 i7 i1 (fun b8 => ?_) (fun b8 => ?_)
  · replace h := h.1 b8
    unfold vX13_stands__21
    refine g_ld (v := rf _) rfl (is_R _) ?_
    refine g_ld (v := rf _) rfl (is_R _) ?_
    refine g_getF (v := 16098) oC13 (hC13_24) rfl (Nat.le_of_ble_eq_true rfl) (Nat.le_of_ble_eq_true rfl) ?_
    refine g_ld (v := rf _) rfl (is_R _) ?_
    refine g_getF (v := 16180) oC13 (hC13_120) rfl (Nat.le_of_ble_eq_true rfl) (Nat.le_of_ble_eq_true rfl) ?_
    refine g_ld (v := cI _) rfl (is_I _) ?_
    obtain ⟨q9, q10, h⟩ := h
    refine g_aldI aC16180 q9 q10 rfl fun i11 => ?_
    replace h := h i11
    obtain ⟨q12, q13, h⟩ := h
    refine g_aldL aC16098 q12 q13 rfl fun i14 => ?_
    replace h := h i14
    refine g_callV (As := [_]) (ci := 13) oC13 (fun _ => rfl) ?_
    refine g_go1 (Nat.le_of_ble_eq_true rfl) (Tn_w (TX13_find i14 h) fun _ G15 ⟨r16, e, i17, h⟩ => ?_)
    subst e
    refine ⟨n7_I _, ?_⟩
    replace h := h i17
    refine g_ld (v := rf _) rfl (is_R _) ?_
    refine g_getF (v := 16180) oC13 (hC13_120) rfl (Nat.le_of_ble_eq_true rfl) (Nat.le_of_ble_eq_true rfl) ?_
    refine g_ld (v := cI _) rfl (is_I _) ?_
    obtain ⟨q18, q19, h⟩ := h
    refine g_aldI aC16180 q18 q19 rfl fun i20 => ?_
    replace h := h i20
    refine g_eq2 i17 i20 (fun b21 => ?_) (fun b21 => ?_)
    · replace h := h.1 b21
      unfold vX13_stands__45
      refine g_const (v := cI (1)) rfl ?_
      exact TX13_stands__50 ha1 i1 ⟨by omega, by omega⟩ h
    · replace h := h.2 b21
      exact TX13_stands__49 ha1 i1 h
  · replace h := h.2 b8
    exact TX13_stands__49 ha1 i1 h
abbrev PX13_stands_ (a1 : Int) (G : gS) (Q : Int → gS → Prop) : Prop := PX13_stands__0 a1 G Q
theorem TX13_stands_ {a1 : Int} {G : gS} {Q : Int → gS → Prop} (ha1 : inI a1) (h : PX13_stands_ a1 G Q) : Tn W0 FX13_stands_ [rf (16081), cI (a1)] G (fun r G => ∃ v, r = cI v ∧ (0 ≤ v ∧ v ≤ 1) ∧ Q v G) := by
  unfold FX13_stands_
  refine g_ent (lv' := [rf (16081), cI (a1), 7]) (flR (flI fl0)) (Nat.le_of_ble_eq_true rfl) rfl ?_
  exact TX13_stands__0 ha1 h
def PX13_looked_22 (l1 : Int) (s0 : Int) (G : gS) (Q : Int → gS → Prop) : Prop :=
  Q (s0) G
set_option maxRecDepth 20000 in
theorem TX13_looked_22 {l1 : Int} {s0 : Int} {G : gS} {Q : Int → gS → Prop} (hl1 : inI l1) (hs0 : inI s0) (h : PX13_looked_22 l1 s0 G Q) : Tg W0 vX13_looked_22 [rf (16081), cI (l1)] [cI (s0)] G (fun r G => ∃ v, r = cI v ∧ inI v ∧ Q v G) := by
  unfold PX13_looked_22 at h
  unfold vX13_looked_22
  exact g_ret1 (is_I _) ⟨_, rfl, hs0, h⟩
def PX13_looked_12 (l1 : Int) (G : gS) (Q : Int → gS → Prop) : Prop :=
  PX13_looked_22 l1 (-1) G Q
set_option maxRecDepth 20000 in
theorem TX13_looked_12 {l1 : Int} {G : gS} {Q : Int → gS → Prop} (hl1 : inI l1) (h : PX13_looked_12 l1 G Q) : Tg W0 vX13_looked_12 [rf (16081), cI (l1)] [] G (fun r G => ∃ v, r = cI v ∧ inI v ∧ Q v G) := by
  unfold PX13_looked_12 at h
  unfold vX13_looked_12
  refine g_const (v := cI (-1)) rfl ?_
  exact TX13_looked_22 hl1 ⟨by omega, by omega⟩ h
def PX13_looked_0 (a1 : Int) (G : gS) (Q : Int → gS → Prop) : Prop :=
  ((a1 < 0 → PX13_looked_12 a1 G Q) ∧ (¬ (a1 < 0) → (inI (G 16081 139) → ((a1 < G 16081 139 → ((0 : Int) ≤ a1 ∧ ((a1 : Int) < 216 ∧ (inI (G 16193 a1) → PX13_looked_22 a1 (G 16193 a1) G Q)))) ∧ (¬ (a1 < G 16081 139) → PX13_looked_12 a1 G Q)))))
set_option maxRecDepth 20000 in
theorem TX13_looked_0 {a1 : Int} {G : gS} {Q : Int → gS → Prop} (ha1 : inI a1) (h : PX13_looked_0 a1 G Q) : Tg W0 vX13_looked_0 [rf (16081), cI (a1)] [] G (fun r G => ∃ v, r = cI v ∧ inI v ∧ Q v G) := by
  unfold PX13_looked_0 at h
  unfold vX13_looked_0
  refine g_ld (v := cI _) rfl (is_I _) ?_
  refine g_lt1 ha1 (fun b1 => ?_) (fun b1 => ?_)
  · replace h := h.1 b1
    exact TX13_looked_12 ha1 h
  · replace h := h.2 b1
    unfold vX13_looked_4
    refine g_ld (v := cI _) rfl (is_I _) ?_
    refine g_ld (v := rf _) rfl (is_R _) ?_
    refine g_getI (kz := 139) oC13 rfl (Nat.le_of_ble_eq_true rfl) rfl fun i2 => ?_
    replace h := h i2
    refine g_lt2 ha1 i2 (fun b3 => ?_) (fun b3 => ?_)
    · replace h := h.1 b3
      unfold vX13_looked_16
      refine g_ld (v := rf _) rfl (is_R _) ?_
      refine g_getF (v := 16193) oC13 (hC13_138) rfl (Nat.le_of_ble_eq_true rfl) (Nat.le_of_ble_eq_true rfl) ?_
      refine g_ld (v := cI _) rfl (is_I _) ?_
      obtain ⟨q4, q5, h⟩ := h
      refine g_aldI aC16193 q4 q5 rfl fun i6 => ?_
      replace h := h i6
      exact TX13_looked_22 ha1 i6 h
    · replace h := h.2 b3
      exact TX13_looked_12 ha1 h
abbrev PX13_looked (a1 : Int) (G : gS) (Q : Int → gS → Prop) : Prop := PX13_looked_0 a1 G Q
theorem TX13_looked {a1 : Int} {G : gS} {Q : Int → gS → Prop} (ha1 : inI a1) (h : PX13_looked a1 G Q) : Tn W0 FX13_looked [rf (16081), cI (a1)] G (fun r G => ∃ v, r = cI v ∧ inI v ∧ Q v G) := by
  unfold FX13_looked
  refine g_ent (lv' := [rf (16081), cI (a1)]) (flR (flI fl0)) (Nat.le_of_ble_eq_true rfl) rfl ?_
  exact TX13_looked_0 ha1 h
def PX13_brokenAt_35 (l1 : Int) (l2 : Int) (s0 : Int) (G : gS) (Q : Int → gS → Prop) : Prop :=
  Q (s0) G
set_option maxRecDepth 20000 in
theorem TX13_brokenAt_35 {l1 : Int} {l2 : Int} {s0 : Int} {G : gS} {Q : Int → gS → Prop} (hl1 : inI l1) (hl2 : inI l2) (hs0 : inI s0) (h : PX13_brokenAt_35 l1 l2 s0 G Q) : Tg W0 vX13_brokenAt_35 [rf (16081), cI (l1), cI (l2)] [cI (s0)] G (fun r G => ∃ v, r = cI v ∧ inI v ∧ Q v G) := by
  unfold PX13_brokenAt_35 at h
  unfold vX13_brokenAt_35
  exact g_ret1 (is_I _) ⟨_, rfl, hs0, h⟩
def PX13_brokenAt_21 (l1 : Int) (l2 : Int) (G : gS) (Q : Int → gS → Prop) : Prop :=
  PX13_brokenAt_35 l1 l2 (-1) G Q
set_option maxRecDepth 20000 in
theorem TX13_brokenAt_21 {l1 : Int} {l2 : Int} {G : gS} {Q : Int → gS → Prop} (hl1 : inI l1) (hl2 : inI l2) (h : PX13_brokenAt_21 l1 l2 G Q) : Tg W0 vX13_brokenAt_21 [rf (16081), cI (l1), cI (l2)] [] G (fun r G => ∃ v, r = cI v ∧ inI v ∧ Q v G) := by
  unfold PX13_brokenAt_21 at h
  unfold vX13_brokenAt_21
  refine g_const (v := cI (-1)) rfl ?_
  exact TX13_brokenAt_35 hl1 hl2 ⟨by omega, by omega⟩ h
def PX13_brokenAt_0 (a1 : Int) (a2 : Int) (G : gS) (Q : Int → gS → Prop) : Prop :=
  ((a1 < 0 → PX13_brokenAt_21 a1 a2 G Q) ∧ (¬ (a1 < 0) → (inI (G 16081 145) → ((a1 < G 16081 145 → ((a2 < 0 → PX13_brokenAt_21 a1 a2 G Q) ∧ (¬ (a2 < 0) → ((2 < a2 → PX13_brokenAt_21 a1 a2 G Q) ∧ (¬ (2 < a2) → ((0 : Int) ≤ (3 * a1) + a2 ∧ (((3 * a1) + a2 : Int) < 27000 ∧ (inI (G 16196 ((3 * a1) + a2)) → PX13_brokenAt_35 a1 a2 (G 16196 ((3 * a1) + a2)) G Q)))))))) ∧ (¬ (a1 < G 16081 145) → PX13_brokenAt_21 a1 a2 G Q)))))
set_option maxRecDepth 20000 in
theorem TX13_brokenAt_0 {a1 : Int} {a2 : Int} {G : gS} {Q : Int → gS → Prop} (ha1 : inI a1) (ha2 : inI a2) (h : PX13_brokenAt_0 a1 a2 G Q) : Tg W0 vX13_brokenAt_0 [rf (16081), cI (a1), cI (a2)] [] G (fun r G => ∃ v, r = cI v ∧ inI v ∧ Q v G) := by
  unfold PX13_brokenAt_0 at h
  unfold vX13_brokenAt_0
  refine g_ld (v := cI _) rfl (is_I _) ?_
  refine g_lt1 ha1 (fun b1 => ?_) (fun b1 => ?_)
  · replace h := h.1 b1
    exact TX13_brokenAt_21 ha1 ha2 h
  · replace h := h.2 b1
    unfold vX13_brokenAt_4
    refine g_ld (v := cI _) rfl (is_I _) ?_
    refine g_ld (v := rf _) rfl (is_R _) ?_
    refine g_getI (kz := 145) oC13 rfl (Nat.le_of_ble_eq_true rfl) rfl fun i2 => ?_
    replace h := h i2
    refine g_lt2 ha1 i2 (fun b3 => ?_) (fun b3 => ?_)
    · replace h := h.1 b3
      unfold vX13_brokenAt_12
      refine g_ld (v := cI _) rfl (is_I _) ?_
      refine g_lt1 ha2 (fun b4 => ?_) (fun b4 => ?_)
      · replace h := h.1 b4
        exact TX13_brokenAt_21 ha1 ha2 h
      · replace h := h.2 b4
        unfold vX13_brokenAt_16
        refine g_ld (v := cI _) rfl (is_I _) ?_
        refine g_const (v := cI (2)) rfl ?_
        refine g_gt2 ha2 ⟨by omega, by omega⟩ (fun b5 => ?_) (fun b5 => ?_)
        · replace h := h.1 b5
          exact TX13_brokenAt_21 ha1 ha2 h
        · replace h := h.2 b5
          unfold vX13_brokenAt_25
          refine g_ld (v := rf _) rfl (is_R _) ?_
          refine g_getF (v := 16196) oC13 (hC13_144) rfl (Nat.le_of_ble_eq_true rfl) (Nat.le_of_ble_eq_true rfl) ?_
          refine g_const (v := cI (3)) rfl ?_
          refine g_ld (v := cI _) rfl (is_I _) ?_
          refine g_mul ?_
          refine g_ld (v := cI _) rfl (is_I _) ?_
          refine g_add ?_
          obtain ⟨q6, q7, h⟩ := h
          refine g_aldI aC16196 q6 q7 rfl fun i8 => ?_
          replace h := h i8
          exact TX13_brokenAt_35 ha1 ha2 i8 h
    · replace h := h.2 b3
      exact TX13_brokenAt_21 ha1 ha2 h
abbrev PX13_brokenAt (a1 : Int) (a2 : Int) (G : gS) (Q : Int → gS → Prop) : Prop := PX13_brokenAt_0 a1 a2 G Q
theorem TX13_brokenAt {a1 : Int} {a2 : Int} {G : gS} {Q : Int → gS → Prop} (ha1 : inI a1) (ha2 : inI a2) (h : PX13_brokenAt a1 a2 G Q) : Tn W0 FX13_brokenAt [rf (16081), cI (a1), cI (a2)] G (fun r G => ∃ v, r = cI v ∧ inI v ∧ Q v G) := by
  unfold FX13_brokenAt
  refine g_ent (lv' := [rf (16081), cI (a1), cI (a2)]) (flR (flI (flI fl0))) (Nat.le_of_ble_eq_true rfl) rfl ?_
  exact TX13_brokenAt_0 ha1 ha2 h
def PX13_stale_90 (J : Nat → List Int → gS → (Int → gS → Prop) → Prop) (l1 : Int) (l2 : Int) (l3 : Int) (l4 : Int) (G : gS) (Q : Int → gS → Prop) : Prop :=
  (inI (l2 + 1) ∧ J 0 [l1, l2 + 1] G Q)
set_option maxRecDepth 20000 in
theorem TX13_stale_90 {j : Nat → rx_K} {J : Nat → List Int → gS → (Int → gS → Prop) → Prop} {l1 : Int} {l2 : Int} {l3 : Int} {l4 : Int} {l5 : Nat} {G : gS} {Q : Int → gS → Prop} (hl1 : inI l1) (hl2 : inI l2) (hl3 : inI l3) (hl4 : inI l4) (hl5 : l5 % 8 ≠ 1) (hj0 : ∀ (l1 : Int) (l2 : Int) (l3 : Nat) (l4 : Nat) (l5 : Nat) (G : gS), (inI l1) → (inI l2) → (l3 % 8 ≠ 1) → (l4 % 8 ≠ 1) → (l5 % 8 ≠ 1) → J 0 [l1, l2] G Q → Tg W0 (j 0) [rf (16081), cI (l1), cI (l2), l3, l4, l5] [] G (fun r G => ∃ v, r = cI v ∧ inI v ∧ Q v G)) (hj1 : ∀ (l1 : Int) (l2 : Int) (l3 : Int) (l4 : Int) (l5 : Nat) (G : gS), (inI l1) → (inI l2) → (inI l3) → (inI l4) → (l5 % 8 ≠ 1) → J 1 [l1, l2, l3, l4] G Q → Tg W0 (j 1) [rf (16081), cI (l1), cI (l2), cI (l3), cI (l4), l5] [] G (fun r G => ∃ v, r = cI v ∧ inI v ∧ Q v G)) (h : PX13_stale_90 J l1 l2 l3 l4 G Q) : Tg W0 (vX13_stale_90 j) [rf (16081), cI (l1), cI (l2), cI (l3), cI (l4), l5] [] G (fun r G => ∃ v, r = cI v ∧ inI v ∧ Q v G) := by
  unfold PX13_stale_90 at h
  unfold vX13_stale_90
  refine g_inc (lv' := [_, _, _, _, _, _]) rfl (Nat.le_of_ble_eq_true rfl) (Or.inr (n1_I _)) rfl ?_
  obtain ⟨q23, h⟩ := h
  exact hj0 _ _ _ _ _ _ hl1 q23 (n1_I _) (n1_I _) hl5 h
def PX13_stale_82 (J : Nat → List Int → gS → (Int → gS → Prop) → Prop) (l1 : Int) (l2 : Int) (l3 : Int) (l4 : Int) (l5 : Int) (s0 : Int) (s1 : Int) (G : gS) (Q : Int → gS → Prop) : Prop :=
  (inI (s0 + s1) ∧ (inI (l4 + 1) ∧ J 1 [s0 + s1, l2, l3, l4 + 1] G Q))
set_option maxRecDepth 20000 in
theorem TX13_stale_82 {j : Nat → rx_K} {J : Nat → List Int → gS → (Int → gS → Prop) → Prop} {l1 : Int} {l2 : Int} {l3 : Int} {l4 : Int} {l5 : Int} {s0 : Int} {s1 : Int} {G : gS} {Q : Int → gS → Prop} (hl1 : inI l1) (hl2 : inI l2) (hl3 : inI l3) (hl4 : inI l4) (hl5 : inI l5) (hs0 : inI s0) (hs1 : inI s1) (hj0 : ∀ (l1 : Int) (l2 : Int) (l3 : Nat) (l4 : Nat) (l5 : Nat) (G : gS), (inI l1) → (inI l2) → (l3 % 8 ≠ 1) → (l4 % 8 ≠ 1) → (l5 % 8 ≠ 1) → J 0 [l1, l2] G Q → Tg W0 (j 0) [rf (16081), cI (l1), cI (l2), l3, l4, l5] [] G (fun r G => ∃ v, r = cI v ∧ inI v ∧ Q v G)) (hj1 : ∀ (l1 : Int) (l2 : Int) (l3 : Int) (l4 : Int) (l5 : Nat) (G : gS), (inI l1) → (inI l2) → (inI l3) → (inI l4) → (l5 % 8 ≠ 1) → J 1 [l1, l2, l3, l4] G Q → Tg W0 (j 1) [rf (16081), cI (l1), cI (l2), cI (l3), cI (l4), l5] [] G (fun r G => ∃ v, r = cI v ∧ inI v ∧ Q v G)) (h : PX13_stale_82 J l1 l2 l3 l4 l5 s0 s1 G Q) : Tg W0 (vX13_stale_82 j) [rf (16081), cI (l1), cI (l2), cI (l3), cI (l4), cI (l5)] [cI (s1), cI (s0)] G (fun r G => ∃ v, r = cI v ∧ inI v ∧ Q v G) := by
  unfold PX13_stale_82 at h
  unfold vX13_stale_82
  refine g_add ?_
  refine g_st (lv' := [_, _, _, _, _, _]) (is_I _) (Nat.le_of_ble_eq_true rfl) (Or.inr (n1_R _)) rfl ?_
  obtain ⟨q24, h⟩ := h
  refine g_inc (lv' := [_, _, _, _, _, _]) rfl (Nat.le_of_ble_eq_true rfl) (Or.inr (n1_I _)) rfl ?_
  obtain ⟨q25, h⟩ := h
  exact hj1 _ _ _ _ _ _ q24 hl2 hl3 q25 (n1_I _) h
def PX13_stale_81 (J : Nat → List Int → gS → (Int → gS → Prop) → Prop) (l1 : Int) (l2 : Int) (l3 : Int) (l4 : Int) (l5 : Int) (s0 : Int) (G : gS) (Q : Int → gS → Prop) : Prop :=
  PX13_stale_82 J l1 l2 l3 l4 l5 s0 0 G Q
set_option maxRecDepth 20000 in
theorem TX13_stale_81 {j : Nat → rx_K} {J : Nat → List Int → gS → (Int → gS → Prop) → Prop} {l1 : Int} {l2 : Int} {l3 : Int} {l4 : Int} {l5 : Int} {s0 : Int} {G : gS} {Q : Int → gS → Prop} (hl1 : inI l1) (hl2 : inI l2) (hl3 : inI l3) (hl4 : inI l4) (hl5 : inI l5) (hs0 : inI s0) (hj0 : ∀ (l1 : Int) (l2 : Int) (l3 : Nat) (l4 : Nat) (l5 : Nat) (G : gS), (inI l1) → (inI l2) → (l3 % 8 ≠ 1) → (l4 % 8 ≠ 1) → (l5 % 8 ≠ 1) → J 0 [l1, l2] G Q → Tg W0 (j 0) [rf (16081), cI (l1), cI (l2), l3, l4, l5] [] G (fun r G => ∃ v, r = cI v ∧ inI v ∧ Q v G)) (hj1 : ∀ (l1 : Int) (l2 : Int) (l3 : Int) (l4 : Int) (l5 : Nat) (G : gS), (inI l1) → (inI l2) → (inI l3) → (inI l4) → (l5 % 8 ≠ 1) → J 1 [l1, l2, l3, l4] G Q → Tg W0 (j 1) [rf (16081), cI (l1), cI (l2), cI (l3), cI (l4), l5] [] G (fun r G => ∃ v, r = cI v ∧ inI v ∧ Q v G)) (h : PX13_stale_81 J l1 l2 l3 l4 l5 s0 G Q) : Tg W0 (vX13_stale_81 j) [rf (16081), cI (l1), cI (l2), cI (l3), cI (l4), cI (l5)] [cI (s0)] G (fun r G => ∃ v, r = cI v ∧ inI v ∧ Q v G) := by
  unfold PX13_stale_81 at h
  unfold vX13_stale_81
  refine g_const (v := cI (0)) rfl ?_
  exact TX13_stale_82 hl1 hl2 hl3 hl4 hl5 hs0 ⟨by omega, by omega⟩ hj0 hj1 h
def PX13_stale_19 (J : Nat → List Int → gS → (Int → gS → Prop) → Prop) (l1 : Int) (l2 : Int) (l3 : Int) (l4 : Int) (G : gS) (Q : Int → gS → Prop) : Prop :=
  ((l3 = -2 → PX13_stale_90 J l1 l2 l3 l4 G Q) ∧ (¬ (l3 = -2) → ((0 : Int) ≤ l3 ∧ ((l3 : Int) < 17 ∧ (inI (G 16178 l3) → ((l4 < G 16178 l3 → (inI ((l3 * 1800) + l4) ∧ ((0 : Int) ≤ (l3 * 1800) + l4 ∧ (((l3 * 1800) + l4 : Int) < 30600 ∧ (inI (G 16179 ((l3 * 1800) + l4)) → ((G 16179 ((l3 * 1800) + l4) = 16 → PX13_stands_ ((l3 * 1800) + l4) G (fun r16 G15 => (0 ≤ r16 ∧ r16 ≤ 1) → ((r16 = 0 → PX13_stale_81 J l1 l2 l3 l4 ((l3 * 1800) + l4) l1 G15 Q) ∧ (¬ (r16 = 0) → PX13_isStale ((l3 * 1800) + l4) G15 (fun r20 G19 => (0 ≤ r20 ∧ r20 ≤ 1) → ((r20 = 0 → PX13_stale_81 J l1 l2 l3 l4 ((l3 * 1800) + l4) l1 G19 Q) ∧ (¬ (r20 = 0) → PX13_stale_82 J l1 l2 l3 l4 ((l3 * 1800) + l4) l1 1 G19 Q))))))) ∧ (¬ (G 16179 ((l3 * 1800) + l4) = 16) → PX13_stale_81 J l1 l2 l3 l4 ((l3 * 1800) + l4) l1 G Q))))))) ∧ (¬ (l4 < G 16178 l3) → PX13_stale_90 J l1 l2 l3 l4 G Q)))))))
set_option maxRecDepth 20000 in
theorem TX13_stale_19 {j : Nat → rx_K} {J : Nat → List Int → gS → (Int → gS → Prop) → Prop} {l1 : Int} {l2 : Int} {l3 : Int} {l4 : Int} {l5 : Nat} {G : gS} {Q : Int → gS → Prop} (hl1 : inI l1) (hl2 : inI l2) (hl3 : inI l3) (hl4 : inI l4) (hl5 : l5 % 8 ≠ 1) (hj0 : ∀ (l1 : Int) (l2 : Int) (l3 : Nat) (l4 : Nat) (l5 : Nat) (G : gS), (inI l1) → (inI l2) → (l3 % 8 ≠ 1) → (l4 % 8 ≠ 1) → (l5 % 8 ≠ 1) → J 0 [l1, l2] G Q → Tg W0 (j 0) [rf (16081), cI (l1), cI (l2), l3, l4, l5] [] G (fun r G => ∃ v, r = cI v ∧ inI v ∧ Q v G)) (hj1 : ∀ (l1 : Int) (l2 : Int) (l3 : Int) (l4 : Int) (l5 : Nat) (G : gS), (inI l1) → (inI l2) → (inI l3) → (inI l4) → (l5 % 8 ≠ 1) → J 1 [l1, l2, l3, l4] G Q → Tg W0 (j 1) [rf (16081), cI (l1), cI (l2), cI (l3), cI (l4), l5] [] G (fun r G => ∃ v, r = cI v ∧ inI v ∧ Q v G)) (h : PX13_stale_19 J l1 l2 l3 l4 G Q) : Tg W0 (vX13_stale_19 j) [rf (16081), cI (l1), cI (l2), cI (l3), cI (l4), l5] [] G (fun r G => ∃ v, r = cI v ∧ inI v ∧ Q v G) := by
  unfold PX13_stale_19 at h
  unfold vX13_stale_19
  refine g_ld (v := cI _) rfl (is_I _) ?_
  refine g_const (v := cI (-2)) rfl ?_
  refine g_eq2 hl3 ⟨by omega, by omega⟩ (fun b5 => ?_) (fun b5 => ?_)
  · replace h := h.1 b5
    exact TX13_stale_90 hl1 hl2 hl3 hl4 hl5 hj0 hj1 h
  · replace h := h.2 b5
    unfold vX13_stale_25
    refine g_ld (v := cI _) rfl (is_I _) ?_
    refine g_ld (v := rf _) rfl (is_R _) ?_
    refine g_getF (v := 16178) oC13 (hC13_118) rfl (Nat.le_of_ble_eq_true rfl) (Nat.le_of_ble_eq_true rfl) ?_
    refine g_ld (v := cI _) rfl (is_I _) ?_
    obtain ⟨q6, q7, h⟩ := h
    refine g_aldI aC16178 q6 q7 rfl fun i8 => ?_
    replace h := h i8
    refine g_lt2 hl4 i8 (fun b9 => ?_) (fun b9 => ?_)
    · replace h := h.1 b9
      unfold vX13_stale_36
      refine g_ld (v := cI _) rfl (is_I _) ?_
      refine g_const (v := cI (1800)) rfl ?_
      refine g_mul ?_
      refine g_ld (v := cI _) rfl (is_I _) ?_
      refine g_add ?_
      refine g_st (lv' := [_, _, _, _, _, _]) (is_I _) (Nat.le_of_ble_eq_true rfl) (Or.inr (n1_I _)) rfl ?_
      obtain ⟨q10, h⟩ := h
      refine g_ld (v := cI _) rfl (is_I _) ?_
      refine g_ld (v := rf _) rfl (is_R _) ?_
      refine g_getF (v := 16179) oC13 (hC13_119) rfl (Nat.le_of_ble_eq_true rfl) (Nat.le_of_ble_eq_true rfl) ?_
      refine g_ld (v := cI _) rfl (is_I _) ?_
      obtain ⟨q11, q12, h⟩ := h
      refine g_aldI aC16179 q11 q12 rfl fun i13 => ?_
      replace h := h i13
      refine g_const (v := cI (16)) rfl ?_
      refine g_eq2 i13 ⟨by omega, by omega⟩ (fun b14 => ?_) (fun b14 => ?_)
      · replace h := h.1 b14
        unfold vX13_stale_59
        refine g_ld (v := rf _) rfl (is_R _) ?_
        refine g_ld (v := cI _) rfl (is_I _) ?_
        refine g_callV (As := [_]) (ci := 13) oC13 (fun _ => rfl) ?_
        refine g_go1 (by simp only [cs_c, cs_0, ct_I, ct_L, ct_R]; exact Nat.le_of_ble_eq_true rfl) (Tn_w (TX13_stands_ q10 h) fun _ G15 ⟨r16, e, i17, h⟩ => ?_)
        subst e
        refine ⟨n7_I _, ?_⟩
        replace h := h i17
        refine g_eq1 ⟨by omega, by omega⟩ (fun b18 => ?_) (fun b18 => ?_)
        · replace h := h.1 b18
          exact TX13_stale_81 hl1 hl2 hl3 hl4 q10 hl1 hj0 hj1 h
        · replace h := h.2 b18
          unfold vX13_stale_68
          refine g_ld (v := rf _) rfl (is_R _) ?_
          refine g_ld (v := cI _) rfl (is_I _) ?_
          refine g_callV (As := [_]) (ci := 13) oC13 (fun _ => rfl) ?_
          refine g_go1 (by simp only [cs_c, cs_0, ct_I, ct_L, ct_R]; exact Nat.le_of_ble_eq_true rfl) (Tn_w (TX13_isStale q10 h) fun _ G19 ⟨r20, e, i21, h⟩ => ?_)
          subst e
          refine ⟨n7_I _, ?_⟩
          replace h := h i21
          refine g_eq1 ⟨by omega, by omega⟩ (fun b22 => ?_) (fun b22 => ?_)
          · replace h := h.1 b22
            exact TX13_stale_81 hl1 hl2 hl3 hl4 q10 hl1 hj0 hj1 h
          · replace h := h.2 b22
            unfold vX13_stale_77
            refine g_const (v := cI (1)) rfl ?_
            exact TX13_stale_82 hl1 hl2 hl3 hl4 q10 hl1 ⟨by omega, by omega⟩ hj0 hj1 h
      · replace h := h.2 b14
        exact TX13_stale_81 hl1 hl2 hl3 hl4 q10 hl1 hj0 hj1 h
    · replace h := h.2 b9
      exact TX13_stale_90 hl1 hl2 hl3 hl4 hl5 hj0 hj1 h
def PX13_stale_4 (J : Nat → List Int → gS → (Int → gS → Prop) → Prop) (l1 : Int) (l2 : Int) (G : gS) (Q : Int → gS → Prop) : Prop :=
  ((l2 < 5 → ((0 : Int) ≤ l2 ∧ ((l2 : Int) < 5 ∧ (inI (G 16163 l2) → PX13_stale_19 J l1 l2 (G 16163 l2) 0 G Q)))) ∧ (¬ (l2 < 5) → Q (l1) G))
set_option maxRecDepth 20000 in
theorem TX13_stale_4 {j : Nat → rx_K} {J : Nat → List Int → gS → (Int → gS → Prop) → Prop} {l1 : Int} {l2 : Int} {l3 : Nat} {l4 : Nat} {l5 : Nat} {G : gS} {Q : Int → gS → Prop} (hl1 : inI l1) (hl2 : inI l2) (hl3 : l3 % 8 ≠ 1) (hl4 : l4 % 8 ≠ 1) (hl5 : l5 % 8 ≠ 1) (hj0 : ∀ (l1 : Int) (l2 : Int) (l3 : Nat) (l4 : Nat) (l5 : Nat) (G : gS), (inI l1) → (inI l2) → (l3 % 8 ≠ 1) → (l4 % 8 ≠ 1) → (l5 % 8 ≠ 1) → J 0 [l1, l2] G Q → Tg W0 (j 0) [rf (16081), cI (l1), cI (l2), l3, l4, l5] [] G (fun r G => ∃ v, r = cI v ∧ inI v ∧ Q v G)) (hj1 : ∀ (l1 : Int) (l2 : Int) (l3 : Int) (l4 : Int) (l5 : Nat) (G : gS), (inI l1) → (inI l2) → (inI l3) → (inI l4) → (l5 % 8 ≠ 1) → J 1 [l1, l2, l3, l4] G Q → Tg W0 (j 1) [rf (16081), cI (l1), cI (l2), cI (l3), cI (l4), l5] [] G (fun r G => ∃ v, r = cI v ∧ inI v ∧ Q v G)) (h : PX13_stale_4 J l1 l2 G Q) : Tg W0 (vX13_stale_4 j) [rf (16081), cI (l1), cI (l2), l3, l4, l5] [] G (fun r G => ∃ v, r = cI v ∧ inI v ∧ Q v G) := by
  unfold PX13_stale_4 at h
  unfold vX13_stale_4
  refine g_ld (v := cI _) rfl (is_I _) ?_
  refine g_const (v := cI (5)) rfl ?_
  refine g_lt2 hl2 ⟨by omega, by omega⟩ (fun b1 => ?_) (fun b1 => ?_)
  · replace h := h.1 b1
    unfold vX13_stale_9
    refine g_ld (v := rf _) rfl (is_R _) ?_
    refine g_getF (v := 16163) oC13 (hC13_90) rfl (Nat.le_of_ble_eq_true rfl) (Nat.le_of_ble_eq_true rfl) ?_
    refine g_ld (v := cI _) rfl (is_I _) ?_
    obtain ⟨q2, q3, h⟩ := h
    refine g_aldI aC16163 q2 q3 rfl fun i4 => ?_
    replace h := h i4
    refine g_st (lv' := [_, _, _, _, _, _]) (is_I _) (Nat.le_of_ble_eq_true rfl) (Or.inr (n1_I _)) rfl ?_
    refine g_const (v := cI (0)) rfl ?_
    refine g_st (lv' := [_, _, _, _, _, _]) (is_I _) (Nat.le_of_ble_eq_true rfl) (Or.inr (n1_I _)) rfl ?_
    exact TX13_stale_19 hl1 hl2 i4 ⟨by omega, by omega⟩ hl5 hj0 hj1 h
  · replace h := h.2 b1
    unfold vX13_stale_96
    refine g_ld (v := cI _) rfl (is_I _) ?_
    exact g_ret1 (is_I _) ⟨_, rfl, hl1, h⟩
def PX13_stale_0 (J : Nat → List Int → gS → (Int → gS → Prop) → Prop)  (G : gS) (Q : Int → gS → Prop) : Prop :=
  PX13_stale_4 J 0 0 G Q
set_option maxRecDepth 20000 in
theorem TX13_stale_0 {j : Nat → rx_K} {J : Nat → List Int → gS → (Int → gS → Prop) → Prop}  {G : gS} {Q : Int → gS → Prop}  (hj0 : ∀ (l1 : Int) (l2 : Int) (l3 : Nat) (l4 : Nat) (l5 : Nat) (G : gS), (inI l1) → (inI l2) → (l3 % 8 ≠ 1) → (l4 % 8 ≠ 1) → (l5 % 8 ≠ 1) → J 0 [l1, l2] G Q → Tg W0 (j 0) [rf (16081), cI (l1), cI (l2), l3, l4, l5] [] G (fun r G => ∃ v, r = cI v ∧ inI v ∧ Q v G)) (hj1 : ∀ (l1 : Int) (l2 : Int) (l3 : Int) (l4 : Int) (l5 : Nat) (G : gS), (inI l1) → (inI l2) → (inI l3) → (inI l4) → (l5 % 8 ≠ 1) → J 1 [l1, l2, l3, l4] G Q → Tg W0 (j 1) [rf (16081), cI (l1), cI (l2), cI (l3), cI (l4), l5] [] G (fun r G => ∃ v, r = cI v ∧ inI v ∧ Q v G)) (h : PX13_stale_0 J  G Q) : Tg W0 (vX13_stale_0 j) [rf (16081), 7, 7, 7, 7, 7] [] G (fun r G => ∃ v, r = cI v ∧ inI v ∧ Q v G) := by
  unfold PX13_stale_0 at h
  unfold vX13_stale_0
  refine g_const (v := cI (0)) rfl ?_
  refine g_st (lv' := [_, _, _, _, _, _]) (is_I _) (Nat.le_of_ble_eq_true rfl) (Or.inr (n1_R _)) rfl ?_
  refine g_const (v := cI (0)) rfl ?_
  refine g_st (lv' := [_, _, _, _, _, _]) (is_I _) (Nat.le_of_ble_eq_true rfl) (Or.inr (n1_I _)) rfl ?_
  exact TX13_stale_4 ⟨by omega, by omega⟩ ⟨by omega, by omega⟩ (show 7 % 8 ≠ 1 by decide) (show 7 % 8 ≠ 1 by decide) (show 7 % 8 ≠ 1 by decide) hj0 hj1 h
def PX13_stale_J : Nat → Nat → List Int → gS → (Int → gS → Prop) → Prop
  | 0, _, _, _, _ => False
  | f + 1, h, L, G, Q => match h, L with
    | 0, [l1, l2] => PX13_stale_4 (PX13_stale_J f) l1 l2 G Q
    | 1, [l1, l2, l3, l4] => PX13_stale_19 (PX13_stale_J f) l1 l2 l3 l4 G Q
    | _, _ => False
theorem TX13_stale_J {Q : Int → gS → Prop} : ∀ f N : Nat, f ≤ N → (∀ (l1 : Int) (l2 : Int) (l3 : Nat) (l4 : Nat) (l5 : Nat) (G : gS), (inI l1) → (inI l2) → (l3 % 8 ≠ 1) → (l4 % 8 ≠ 1) → (l5 % 8 ≠ 1) → (PX13_stale_J f) 0 [l1, l2] G Q → Tg W0 (rx_J vhX13_stale N 0) [rf (16081), cI (l1), cI (l2), l3, l4, l5] [] G (fun r G => ∃ v, r = cI v ∧ inI v ∧ Q v G)) ∧ (∀ (l1 : Int) (l2 : Int) (l3 : Int) (l4 : Int) (l5 : Nat) (G : gS), (inI l1) → (inI l2) → (inI l3) → (inI l4) → (l5 % 8 ≠ 1) → (PX13_stale_J f) 1 [l1, l2, l3, l4] G Q → Tg W0 (rx_J vhX13_stale N 1) [rf (16081), cI (l1), cI (l2), cI (l3), cI (l4), l5] [] G (fun r G => ∃ v, r = cI v ∧ inI v ∧ Q v G)) := by
  intro f
  induction f with
  | zero => exact fun N _ => ⟨fun _ _ _ _ _ _ _ _ _ _ _ h => h.elim, fun _ _ _ _ _ _ _ _ _ _ _ h => h.elim⟩
  | succ f ih =>
    intro N hN
    obtain ⟨M, rfl⟩ : ∃ M, N = M + 1 := ⟨N - 1, by omega⟩
    have ih := ih M (by omega)
    exact ⟨fun _ _ _ _ _ _ hl1 hl2 hl3 hl4 hl5 h => show Tg W0 (vX13_stale_4 (rx_J vhX13_stale M)) _ _ _ _ from TX13_stale_4 hl1 hl2 hl3 hl4 hl5 ih.1 ih.2 h, fun _ _ _ _ _ _ hl1 hl2 hl3 hl4 hl5 h => show Tg W0 (vX13_stale_19 (rx_J vhX13_stale M)) _ _ _ _ from TX13_stale_19 hl1 hl2 hl3 hl4 hl5 ih.1 ih.2 h⟩
def PX13_stale  (G : gS) (Q : Int → gS → Prop) : Prop := ∃ f : Nat, f ≤ 4000000000 ∧ PX13_stale_0 (PX13_stale_J f)  G Q
theorem TX13_stale  {G : gS} {Q : Int → gS → Prop}  (h : PX13_stale  G Q) : Tn W0 FX13_stale [rf (16081)] G (fun r G => ∃ v, r = cI v ∧ inI v ∧ Q v G) := by
  obtain ⟨f, hf, h⟩ := h
  have hJ := TX13_stale_J (Q := Q) f 4000000000 hf
  unfold FX13_stale
  refine g_ent (lv' := [rf (16081), 7, 7, 7, 7, 7]) (flR fl0) (Nat.le_of_ble_eq_true rfl) rfl ?_
  exact TX13_stale_0  hJ.1 hJ.2 h
def PX13_fresh_34 (J : Nat → List Int → gS → (Int → gS → Prop) → Prop) (l1 : Int) (l2 : Int) (l3 : Int) (s0 : Int) (s1 : Int) (G : gS) (Q : Int → gS → Prop) : Prop :=
  (inI (s0 + s1) ∧ (inI (l2 + 1) ∧ J 0 [s0 + s1, l2 + 1] G Q))
set_option maxRecDepth 20000 in
theorem TX13_fresh_34 {j : Nat → rx_K} {J : Nat → List Int → gS → (Int → gS → Prop) → Prop} {l1 : Int} {l2 : Int} {l3 : Int} {s0 : Int} {s1 : Int} {G : gS} {Q : Int → gS → Prop} (hl1 : inI l1) (hl2 : inI l2) (hl3 : inI l3) (hs0 : inI s0) (hs1 : inI s1) (hj0 : ∀ (l1 : Int) (l2 : Int) (l3 : Nat) (G : gS), (inI l1) → (inI l2) → (l3 % 8 ≠ 1) → J 0 [l1, l2] G Q → Tg W0 (j 0) [rf (16081), cI (l1), cI (l2), l3] [] G (fun r G => ∃ v, r = cI v ∧ inI v ∧ Q v G)) (h : PX13_fresh_34 J l1 l2 l3 s0 s1 G Q) : Tg W0 (vX13_fresh_34 j) [rf (16081), cI (l1), cI (l2), cI (l3)] [cI (s1), cI (s0)] G (fun r G => ∃ v, r = cI v ∧ inI v ∧ Q v G) := by
  unfold PX13_fresh_34 at h
  unfold vX13_fresh_34
  refine g_add ?_
  refine g_st (lv' := [_, _, _, _]) (is_I _) (Nat.le_of_ble_eq_true rfl) (Or.inr (n1_R _)) rfl ?_
  obtain ⟨q12, h⟩ := h
  refine g_inc (lv' := [_, _, _, _]) rfl (Nat.le_of_ble_eq_true rfl) (Or.inr (n1_I _)) rfl ?_
  obtain ⟨q13, h⟩ := h
  exact hj0 _ _ _ _ q12 q13 (n1_I _) h
def PX13_fresh_33 (J : Nat → List Int → gS → (Int → gS → Prop) → Prop) (l1 : Int) (l2 : Int) (l3 : Int) (s0 : Int) (G : gS) (Q : Int → gS → Prop) : Prop :=
  PX13_fresh_34 J l1 l2 l3 s0 0 G Q
set_option maxRecDepth 20000 in
theorem TX13_fresh_33 {j : Nat → rx_K} {J : Nat → List Int → gS → (Int → gS → Prop) → Prop} {l1 : Int} {l2 : Int} {l3 : Int} {s0 : Int} {G : gS} {Q : Int → gS → Prop} (hl1 : inI l1) (hl2 : inI l2) (hl3 : inI l3) (hs0 : inI s0) (hj0 : ∀ (l1 : Int) (l2 : Int) (l3 : Nat) (G : gS), (inI l1) → (inI l2) → (l3 % 8 ≠ 1) → J 0 [l1, l2] G Q → Tg W0 (j 0) [rf (16081), cI (l1), cI (l2), l3] [] G (fun r G => ∃ v, r = cI v ∧ inI v ∧ Q v G)) (h : PX13_fresh_33 J l1 l2 l3 s0 G Q) : Tg W0 (vX13_fresh_33 j) [rf (16081), cI (l1), cI (l2), cI (l3)] [cI (s0)] G (fun r G => ∃ v, r = cI v ∧ inI v ∧ Q v G) := by
  unfold PX13_fresh_33 at h
  unfold vX13_fresh_33
  refine g_const (v := cI (0)) rfl ?_
  exact TX13_fresh_34 hl1 hl2 hl3 hs0 ⟨by omega, by omega⟩ hj0 h
def PX13_fresh_4 (J : Nat → List Int → gS → (Int → gS → Prop) → Prop) (l1 : Int) (l2 : Int) (G : gS) (Q : Int → gS → Prop) : Prop :=
  (inI (G 16081 129) → ((l2 < G 16081 129 → ((0 : Int) ≤ l2 ∧ ((l2 : Int) < 128 ∧ (inI (G 16190 l2) → ((G 16190 l2 = 0 → PX13_fresh_33 J l1 l2 (G 16190 l2) l1 G Q) ∧ (¬ (G 16190 l2 = 0) → ((G 16190 l2 = 5 → PX13_fresh_33 J l1 l2 (G 16190 l2) l1 G Q) ∧ (¬ (G 16190 l2 = 5) → PX13_fresh_34 J l1 l2 (G 16190 l2) l1 1 G Q)))))))) ∧ (¬ (l2 < G 16081 129) → (inI (G 16081 145) → PX13_settle G (fun _ G9 => (∀ G11 : gS, G11 = uG G9 16081 145 (G 16081 145) → Q (l1) G11))))))
set_option maxRecDepth 20000 in
theorem TX13_fresh_4 {j : Nat → rx_K} {J : Nat → List Int → gS → (Int → gS → Prop) → Prop} {l1 : Int} {l2 : Int} {l3 : Nat} {G : gS} {Q : Int → gS → Prop} (hl1 : inI l1) (hl2 : inI l2) (hl3 : l3 % 8 ≠ 1) (hj0 : ∀ (l1 : Int) (l2 : Int) (l3 : Nat) (G : gS), (inI l1) → (inI l2) → (l3 % 8 ≠ 1) → J 0 [l1, l2] G Q → Tg W0 (j 0) [rf (16081), cI (l1), cI (l2), l3] [] G (fun r G => ∃ v, r = cI v ∧ inI v ∧ Q v G)) (h : PX13_fresh_4 J l1 l2 G Q) : Tg W0 (vX13_fresh_4 j) [rf (16081), cI (l1), cI (l2), l3] [] G (fun r G => ∃ v, r = cI v ∧ inI v ∧ Q v G) := by
  unfold PX13_fresh_4 at h
  unfold vX13_fresh_4
  refine g_ld (v := cI _) rfl (is_I _) ?_
  refine g_ld (v := rf _) rfl (is_R _) ?_
  refine g_getI (kz := 129) oC13 rfl (Nat.le_of_ble_eq_true rfl) rfl fun i1 => ?_
  replace h := h i1
  refine g_lt2 hl2 i1 (fun b2 => ?_) (fun b2 => ?_)
  · replace h := h.1 b2
    unfold vX13_fresh_12
    refine g_ld (v := rf _) rfl (is_R _) ?_
    refine g_getF (v := 16190) oC13 (hC13_132) rfl (Nat.le_of_ble_eq_true rfl) (Nat.le_of_ble_eq_true rfl) ?_
    refine g_ld (v := cI _) rfl (is_I _) ?_
    obtain ⟨q3, q4, h⟩ := h
    refine g_aldI aC16190 q3 q4 rfl fun i5 => ?_
    replace h := h i5
    refine g_st (lv' := [_, _, _, _]) (is_I _) (Nat.le_of_ble_eq_true rfl) (Or.inr (n1_I _)) rfl ?_
    refine g_ld (v := cI _) rfl (is_I _) ?_
    refine g_ld (v := cI _) rfl (is_I _) ?_
    refine g_eq1 i5 (fun b6 => ?_) (fun b6 => ?_)
    · replace h := h.1 b6
      exact TX13_fresh_33 hl1 hl2 i5 hl1 hj0 h
    · replace h := h.2 b6
      unfold vX13_fresh_24
      refine g_ld (v := cI _) rfl (is_I _) ?_
      refine g_const (v := cI (5)) rfl ?_
      refine g_eq2 i5 ⟨by omega, by omega⟩ (fun b7 => ?_) (fun b7 => ?_)
      · replace h := h.1 b7
        exact TX13_fresh_33 hl1 hl2 i5 hl1 hj0 h
      · replace h := h.2 b7
        unfold vX13_fresh_29
        refine g_const (v := cI (1)) rfl ?_
        exact TX13_fresh_34 hl1 hl2 i5 hl1 ⟨by omega, by omega⟩ hj0 h
  · replace h := h.2 b2
    unfold vX13_fresh_42
    refine g_ld (v := rf _) rfl (is_R _) ?_
    refine g_getI (kz := 145) oC13 rfl (Nat.le_of_ble_eq_true rfl) rfl fun i8 => ?_
    replace h := h i8
    refine g_st (lv' := [_, _, _, _]) (is_I _) (Nat.le_of_ble_eq_true rfl) (Or.inr (n1_I _)) rfl ?_
    refine g_ld (v := rf _) rfl (is_R _) ?_
    refine g_callV (As := []) (ci := 13) oC13 (fun _ => rfl) ?_
    refine g_go0 (Nat.le_of_ble_eq_true rfl) (Tn_w (TX13_settle  h) fun _ G9 ⟨e, h⟩ => ⟨e, ?_⟩)
    refine g_ld (v := rf _) rfl (is_R _) ?_
    refine g_ld (v := cI _) rfl (is_I _) ?_
    refine g_putI (kz := 145) oC13 rfl (Nat.le_of_ble_eq_true rfl) rfl i8 (zfin_no (c := 16081) (j := 145) rfl) ?_
    replace h := h _ rfl
    refine g_ld (v := cI _) rfl (is_I _) ?_
    exact g_ret1 (is_I _) ⟨_, rfl, hl1, h⟩
def PX13_fresh_0 (J : Nat → List Int → gS → (Int → gS → Prop) → Prop)  (G : gS) (Q : Int → gS → Prop) : Prop :=
  PX13_fresh_4 J 0 2 G Q
set_option maxRecDepth 20000 in
theorem TX13_fresh_0 {j : Nat → rx_K} {J : Nat → List Int → gS → (Int → gS → Prop) → Prop}  {G : gS} {Q : Int → gS → Prop}  (hj0 : ∀ (l1 : Int) (l2 : Int) (l3 : Nat) (G : gS), (inI l1) → (inI l2) → (l3 % 8 ≠ 1) → J 0 [l1, l2] G Q → Tg W0 (j 0) [rf (16081), cI (l1), cI (l2), l3] [] G (fun r G => ∃ v, r = cI v ∧ inI v ∧ Q v G)) (h : PX13_fresh_0 J  G Q) : Tg W0 (vX13_fresh_0 j) [rf (16081), 7, 7, 7] [] G (fun r G => ∃ v, r = cI v ∧ inI v ∧ Q v G) := by
  unfold PX13_fresh_0 at h
  unfold vX13_fresh_0
  refine g_const (v := cI (0)) rfl ?_
  refine g_st (lv' := [_, _, _, _]) (is_I _) (Nat.le_of_ble_eq_true rfl) (Or.inr (n1_R _)) rfl ?_
  refine g_const (v := cI (2)) rfl ?_
  refine g_st (lv' := [_, _, _, _]) (is_I _) (Nat.le_of_ble_eq_true rfl) (Or.inr (n1_I _)) rfl ?_
  exact TX13_fresh_4 ⟨by omega, by omega⟩ ⟨by omega, by omega⟩ (show 7 % 8 ≠ 1 by decide) hj0 h
def PX13_fresh_J : Nat → Nat → List Int → gS → (Int → gS → Prop) → Prop
  | 0, _, _, _, _ => False
  | f + 1, h, L, G, Q => match h, L with
    | 0, [l1, l2] => PX13_fresh_4 (PX13_fresh_J f) l1 l2 G Q
    | _, _ => False
theorem TX13_fresh_J {Q : Int → gS → Prop} : ∀ f N : Nat, f ≤ N → (∀ (l1 : Int) (l2 : Int) (l3 : Nat) (G : gS), (inI l1) → (inI l2) → (l3 % 8 ≠ 1) → (PX13_fresh_J f) 0 [l1, l2] G Q → Tg W0 (rx_J vhX13_fresh N 0) [rf (16081), cI (l1), cI (l2), l3] [] G (fun r G => ∃ v, r = cI v ∧ inI v ∧ Q v G)) := by
  intro f
  induction f with
  | zero => exact fun N _ => fun _ _ _ _ _ _ _ h => h.elim
  | succ f ih =>
    intro N hN
    obtain ⟨M, rfl⟩ : ∃ M, N = M + 1 := ⟨N - 1, by omega⟩
    have ih := ih M (by omega)
    exact fun _ _ _ _ hl1 hl2 hl3 h => show Tg W0 (vX13_fresh_4 (rx_J vhX13_fresh M)) _ _ _ _ from TX13_fresh_4 hl1 hl2 hl3 ih h
def PX13_fresh  (G : gS) (Q : Int → gS → Prop) : Prop := ∃ f : Nat, f ≤ 4000000000 ∧ PX13_fresh_0 (PX13_fresh_J f)  G Q
theorem TX13_fresh  {G : gS} {Q : Int → gS → Prop}  (h : PX13_fresh  G Q) : Tn W0 FX13_fresh [rf (16081)] G (fun r G => ∃ v, r = cI v ∧ inI v ∧ Q v G) := by
  obtain ⟨f, hf, h⟩ := h
  have hJ := TX13_fresh_J (Q := Q) f 4000000000 hf
  unfold FX13_fresh
  refine g_ent (lv' := [rf (16081), 7, 7, 7]) (flR fl0) (Nat.le_of_ble_eq_true rfl) rfl ?_
  exact TX13_fresh_0  hJ h
def PX13_fail_0 (a1 : Int) (G : gS) (Q : Int → gS → Prop) : Prop :=
  (∀ G1 : gS, G1 = uG G 16081 164 (3) → (∀ G2 : gS, G2 = uG G1 16081 165 (a1) → Q (0) G2))
set_option maxRecDepth 20000 in
theorem TX13_fail_0 {a1 : Int} {G : gS} {Q : Int → gS → Prop} (ha1 : inI a1) (h : PX13_fail_0 a1 G Q) : Tg W0 vX13_fail_0 [rf (16081), cI (a1)] [] G (fun r G => ∃ v, r = cI v ∧ inI v ∧ Q v G) := by
  unfold PX13_fail_0 at h
  unfold vX13_fail_0
  refine g_ld (v := rf _) rfl (is_R _) ?_
  refine g_const (v := cI (3)) rfl ?_
  refine g_putI (kz := 164) oC13 rfl (Nat.le_of_ble_eq_true rfl) rfl ⟨by omega, by omega⟩ (zfin_no (c := 16081) (j := 164) rfl) ?_
  replace h := h _ rfl
  refine g_ld (v := rf _) rfl (is_R _) ?_
  refine g_ld (v := cI _) rfl (is_I _) ?_
  refine g_putI (kz := 165) oC13 rfl (Nat.le_of_ble_eq_true rfl) rfl ha1 (zfin_no (c := 16081) (j := 165) rfl) ?_
  replace h := h _ rfl
  refine g_const (v := cI (0)) rfl ?_
  exact g_ret1 (is_I _) ⟨_, rfl, ⟨by omega, by omega⟩, h⟩
abbrev PX13_fail (a1 : Int) (G : gS) (Q : Int → gS → Prop) : Prop := PX13_fail_0 a1 G Q
theorem TX13_fail {a1 : Int} {G : gS} {Q : Int → gS → Prop} (ha1 : inI a1) (h : PX13_fail a1 G Q) : Tn W0 FX13_fail [rf (16081), cI (a1)] G (fun r G => ∃ v, r = cI v ∧ inI v ∧ Q v G) := by
  unfold FX13_fail
  refine g_ent (lv' := [rf (16081), cI (a1)]) (flR (flI fl0)) (Nat.le_of_ble_eq_true rfl) rfl ?_
  exact TX13_fail_0 ha1 h
def PX13_isMade_29 (l1 : Int) (l2 : Int) (s0 : Int) (G : gS) (Q : Int → gS → Prop) : Prop :=
  ((0 ≤ s0 ∧ s0 ≤ 1) ∧ Q (s0) G)
set_option maxRecDepth 20000 in
theorem TX13_isMade_29 {l1 : Int} {l2 : Int} {s0 : Int} {G : gS} {Q : Int → gS → Prop} (hl1 : inI l1) (hl2 : inI l2) (hs0 : inI s0) (h : PX13_isMade_29 l1 l2 s0 G Q) : Tg W0 vX13_isMade_29 [rf (16081), cI (l1), cI (l2)] [cI (s0)] G (fun r G => ∃ v, r = cI v ∧ (0 ≤ v ∧ v ≤ 1) ∧ Q v G) := by
  unfold PX13_isMade_29 at h
  unfold vX13_isMade_29
  obtain ⟨q12, h⟩ := h
  exact g_ret1 (is_Z q12) ⟨_, rfl, q12, h⟩
def PX13_isMade_24 (l1 : Int) (l2 : Int) (G : gS) (Q : Int → gS → Prop) : Prop :=
  PX13_isMade_29 l1 l2 1 G Q
set_option maxRecDepth 20000 in
theorem TX13_isMade_24 {l1 : Int} {l2 : Int} {G : gS} {Q : Int → gS → Prop} (hl1 : inI l1) (hl2 : inI l2) (h : PX13_isMade_24 l1 l2 G Q) : Tg W0 vX13_isMade_24 [rf (16081), cI (l1), cI (l2)] [] G (fun r G => ∃ v, r = cI v ∧ (0 ≤ v ∧ v ≤ 1) ∧ Q v G) := by
  unfold PX13_isMade_24 at h
  unfold vX13_isMade_24
  refine g_const (v := cI (1)) rfl ?_
  exact TX13_isMade_29 hl1 hl2 ⟨by omega, by omega⟩ h
def PX13_isMade_0 (a1 : Int) (a2 : Int) (G : gS) (Q : Int → gS → Prop) : Prop :=
  ((0 : Int) ≤ a1 ∧ ((a1 : Int) < 202 ∧ (inI (G 16200 a1) → ((G 16200 a1 = a2 → PX13_isMade_24 a1 a2 G Q) ∧ (¬ (G 16200 a1 = a2) → ((0 : Int) ≤ a1 ∧ ((a1 : Int) < 202 ∧ (inI (G 16200 a1) → PX13_isHeir (G 16200 a1) a2 G (fun r9 G8 => (0 ≤ r9 ∧ r9 ≤ 1) → ((r9 = 0 → PX13_isMade_29 a1 a2 0 G8 Q) ∧ (¬ (r9 = 0) → PX13_isMade_24 a1 a2 G8 Q)))))))))))
set_option maxRecDepth 20000 in
theorem TX13_isMade_0 {a1 : Int} {a2 : Int} {G : gS} {Q : Int → gS → Prop} (ha1 : inI a1) (ha2 : inI a2) (h : PX13_isMade_0 a1 a2 G Q) : Tg W0 vX13_isMade_0 [rf (16081), cI (a1), cI (a2)] [] G (fun r G => ∃ v, r = cI v ∧ (0 ≤ v ∧ v ≤ 1) ∧ Q v G) := by
  unfold PX13_isMade_0 at h
  unfold vX13_isMade_0
  refine g_ld (v := rf _) rfl (is_R _) ?_
  refine g_getF (v := 16200) oC13 (hC13_149) rfl (Nat.le_of_ble_eq_true rfl) (Nat.le_of_ble_eq_true rfl) ?_
  refine g_ld (v := cI _) rfl (is_I _) ?_
  obtain ⟨q1, q2, h⟩ := h
  refine g_aldI aC16200 q1 q2 rfl fun i3 => ?_
  replace h := h i3
  refine g_ld (v := cI _) rfl (is_I _) ?_
  refine g_eq2 i3 ha2 (fun b4 => ?_) (fun b4 => ?_)
  · replace h := h.1 b4
    exact TX13_isMade_24 ha1 ha2 h
  · replace h := h.2 b4
    unfold vX13_isMade_10
    refine g_ld (v := rf _) rfl (is_R _) ?_
    refine g_ld (v := rf _) rfl (is_R _) ?_
    refine g_getF (v := 16200) oC13 (hC13_149) rfl (Nat.le_of_ble_eq_true rfl) (Nat.le_of_ble_eq_true rfl) ?_
    refine g_ld (v := cI _) rfl (is_I _) ?_
    obtain ⟨q5, q6, h⟩ := h
    refine g_aldI aC16200 q5 q6 rfl fun i7 => ?_
    replace h := h i7
    refine g_ld (v := cI _) rfl (is_I _) ?_
    refine g_callV (As := [_, _]) (ci := 13) oC13 (fun _ => rfl) ?_
    refine g_go1 (Nat.le_of_ble_eq_true rfl) (Tn_w (TX13_isHeir i7 ha2 h) fun _ G8 ⟨r9, e, i10, h⟩ => ?_)
    subst e
    refine ⟨n7_I _, ?_⟩
    replace h := h i10
    refine g_eq1 ⟨by omega, by omega⟩ (fun b11 => ?_) (fun b11 => ?_)
    · replace h := h.1 b11
      unfold vX13_isMade_28
      refine g_const (v := cI (0)) rfl ?_
      exact TX13_isMade_29 ha1 ha2 ⟨by omega, by omega⟩ h
    · replace h := h.2 b11
      exact TX13_isMade_24 ha1 ha2 h
abbrev PX13_isMade (a1 : Int) (a2 : Int) (G : gS) (Q : Int → gS → Prop) : Prop := PX13_isMade_0 a1 a2 G Q
theorem TX13_isMade {a1 : Int} {a2 : Int} {G : gS} {Q : Int → gS → Prop} (ha1 : inI a1) (ha2 : inI a2) (h : PX13_isMade a1 a2 G Q) : Tn W0 FX13_isMade [rf (16081), cI (a1), cI (a2)] G (fun r G => ∃ v, r = cI v ∧ (0 ≤ v ∧ v ≤ 1) ∧ Q v G) := by
  unfold FX13_isMade
  refine g_ent (lv' := [rf (16081), cI (a1), cI (a2)]) (flR (flI (flI fl0))) (Nat.le_of_ble_eq_true rfl) rfl ?_
  exact TX13_isMade_0 ha1 ha2 h
def PX13_hasBody_49 (J : Nat → List Int → gS → (Int → gS → Prop) → Prop) (l1 : Int) (l2 : Int) (l3 : Int) (G : gS) (Q : Int → gS → Prop) : Prop :=
  (inI (l2 + 1) ∧ J 0 [l1, l2 + 1] G Q)
set_option maxRecDepth 20000 in
theorem TX13_hasBody_49 {j : Nat → rx_K} {J : Nat → List Int → gS → (Int → gS → Prop) → Prop} {l1 : Int} {l2 : Int} {l3 : Int} {G : gS} {Q : Int → gS → Prop} (hl1 : inI l1) (hl2 : inI l2) (hl3 : inI l3) (hj0 : ∀ (l1 : Int) (l2 : Int) (l3 : Nat) (G : gS), (inI l1) → (inI l2) → (l3 % 8 ≠ 1) → J 0 [l1, l2] G Q → Tg W0 (j 0) [rf (16081), cI (l1), cI (l2), l3] [] G (fun r G => ∃ v, r = cI v ∧ (0 ≤ v ∧ v ≤ 1) ∧ Q v G)) (h : PX13_hasBody_49 J l1 l2 l3 G Q) : Tg W0 (vX13_hasBody_49 j) [rf (16081), cI (l1), cI (l2), cI (l3)] [] G (fun r G => ∃ v, r = cI v ∧ (0 ≤ v ∧ v ≤ 1) ∧ Q v G) := by
  unfold PX13_hasBody_49 at h
  unfold vX13_hasBody_49
  refine g_inc (lv' := [_, _, _, _]) rfl (Nat.le_of_ble_eq_true rfl) (Or.inr (n1_I _)) rfl ?_
  obtain ⟨q18, h⟩ := h
  exact hj0 _ _ _ _ hl1 q18 (n1_I _) h
def PX13_hasBody_2 (J : Nat → List Int → gS → (Int → gS → Prop) → Prop) (l1 : Int) (l2 : Int) (G : gS) (Q : Int → gS → Prop) : Prop :=
  ((0 : Int) ≤ l1 ∧ ((l1 : Int) < 216 ∧ (inI (G 16115 l1) → ((l2 < G 16115 l1 → (inI ((l1 * 34) + l2) ∧ ((0 : Int) ≤ (l1 * 34) + l2 ∧ (((l1 * 34) + l2 : Int) < 7344 ∧ (inI (G 16116 ((l1 * 34) + l2)) → ((G 16116 ((l1 * 34) + l2) = 1 → ((0 : Int) ≤ (l1 * 34) + l2 ∧ (((l1 * 34) + l2 : Int) < 7344 ∧ ((0 ≤ G 16121 ((l1 * 34) + l2) ∧ G 16121 ((l1 * 34) + l2) ≤ 1) → ((G 16121 ((l1 * 34) + l2) = 0 → ((0 : Int) ≤ (l1 * 34) + l2 ∧ (((l1 * 34) + l2 : Int) < 7344 ∧ ((0 ≤ G 16119 ((l1 * 34) + l2) ∧ G 16119 ((l1 * 34) + l2) ≤ 1) → ((G 16119 ((l1 * 34) + l2) = 0 → Q (1) G) ∧ (¬ (G 16119 ((l1 * 34) + l2) = 0) → PX13_hasBody_49 J l1 l2 ((l1 * 34) + l2) G Q)))))) ∧ (¬ (G 16121 ((l1 * 34) + l2) = 0) → PX13_hasBody_49 J l1 l2 ((l1 * 34) + l2) G Q)))))) ∧ (¬ (G 16116 ((l1 * 34) + l2) = 1) → PX13_hasBody_49 J l1 l2 ((l1 * 34) + l2) G Q))))))) ∧ (¬ (l2 < G 16115 l1) → Q (0) G)))))
set_option maxRecDepth 20000 in
theorem TX13_hasBody_2 {j : Nat → rx_K} {J : Nat → List Int → gS → (Int → gS → Prop) → Prop} {l1 : Int} {l2 : Int} {l3 : Nat} {G : gS} {Q : Int → gS → Prop} (hl1 : inI l1) (hl2 : inI l2) (hl3 : l3 % 8 ≠ 1) (hj0 : ∀ (l1 : Int) (l2 : Int) (l3 : Nat) (G : gS), (inI l1) → (inI l2) → (l3 % 8 ≠ 1) → J 0 [l1, l2] G Q → Tg W0 (j 0) [rf (16081), cI (l1), cI (l2), l3] [] G (fun r G => ∃ v, r = cI v ∧ (0 ≤ v ∧ v ≤ 1) ∧ Q v G)) (h : PX13_hasBody_2 J l1 l2 G Q) : Tg W0 (vX13_hasBody_2 j) [rf (16081), cI (l1), cI (l2), l3] [] G (fun r G => ∃ v, r = cI v ∧ (0 ≤ v ∧ v ≤ 1) ∧ Q v G) := by
  unfold PX13_hasBody_2 at h
  unfold vX13_hasBody_2
  refine g_ld (v := cI _) rfl (is_I _) ?_
  refine g_ld (v := rf _) rfl (is_R _) ?_
  refine g_getF (v := 16115) oC13 (hC13_41) rfl (Nat.le_of_ble_eq_true rfl) (Nat.le_of_ble_eq_true rfl) ?_
  refine g_ld (v := cI _) rfl (is_I _) ?_
  obtain ⟨q1, q2, h⟩ := h
  refine g_aldI aC16115 q1 q2 rfl fun i3 => ?_
  replace h := h i3
  refine g_lt2 hl2 i3 (fun b4 => ?_) (fun b4 => ?_)
  · replace h := h.1 b4
    unfold vX13_hasBody_12
    refine g_ld (v := cI _) rfl (is_I _) ?_
    refine g_const (v := cI (34)) rfl ?_
    refine g_mul ?_
    refine g_ld (v := cI _) rfl (is_I _) ?_
    refine g_add ?_
    refine g_st (lv' := [_, _, _, _]) (is_I _) (Nat.le_of_ble_eq_true rfl) (Or.inr (n1_I _)) rfl ?_
    obtain ⟨q5, h⟩ := h
    refine g_ld (v := rf _) rfl (is_R _) ?_
    refine g_getF (v := 16116) oC13 (hC13_42) rfl (Nat.le_of_ble_eq_true rfl) (Nat.le_of_ble_eq_true rfl) ?_
    refine g_ld (v := cI _) rfl (is_I _) ?_
    obtain ⟨q6, q7, h⟩ := h
    refine g_aldI aC16116 q6 q7 rfl fun i8 => ?_
    replace h := h i8
    refine g_const (v := cI (1)) rfl ?_
    refine g_eq2 i8 ⟨by omega, by omega⟩ (fun b9 => ?_) (fun b9 => ?_)
    · replace h := h.1 b9
      unfold vX13_hasBody_29
      refine g_ld (v := rf _) rfl (is_R _) ?_
      refine g_getF (v := 16121) oC13 (hC13_47) rfl (Nat.le_of_ble_eq_true rfl) (Nat.le_of_ble_eq_true rfl) ?_
      refine g_ld (v := cI _) rfl (is_I _) ?_
      obtain ⟨q10, q11, h⟩ := h
      refine g_aldZ aC16121 q10 q11 rfl fun i12 => ?_
      replace h := h i12
      refine g_eq1 ⟨by omega, by omega⟩ (fun b13 => ?_) (fun b13 => ?_)
      · replace h := h.1 b13
        unfold vX13_hasBody_38
        refine g_ld (v := rf _) rfl (is_R _) ?_
        refine g_getF (v := 16119) oC13 (hC13_45) rfl (Nat.le_of_ble_eq_true rfl) (Nat.le_of_ble_eq_true rfl) ?_
        refine g_ld (v := cI _) rfl (is_I _) ?_
        obtain ⟨q14, q15, h⟩ := h
        refine g_aldZ aC16119 q14 q15 rfl fun i16 => ?_
        replace h := h i16
        refine g_eq1 ⟨by omega, by omega⟩ (fun b17 => ?_) (fun b17 => ?_)
        · replace h := h.1 b17
          unfold vX13_hasBody_47
          refine g_const (v := cI (1)) rfl ?_
          exact g_ret1 (is_Z (by omega)) ⟨_, rfl, (by omega), h⟩
        · replace h := h.2 b17
          exact TX13_hasBody_49 hl1 hl2 q5 hj0 h
      · replace h := h.2 b13
        exact TX13_hasBody_49 hl1 hl2 q5 hj0 h
    · replace h := h.2 b9
      exact TX13_hasBody_49 hl1 hl2 q5 hj0 h
  · replace h := h.2 b4
    unfold vX13_hasBody_55
    refine g_const (v := cI (0)) rfl ?_
    exact g_ret1 (is_Z (by omega)) ⟨_, rfl, (by omega), h⟩
def PX13_hasBody_0 (J : Nat → List Int → gS → (Int → gS → Prop) → Prop) (a1 : Int) (G : gS) (Q : Int → gS → Prop) : Prop :=
  PX13_hasBody_2 J a1 0 G Q
set_option maxRecDepth 20000 in
theorem TX13_hasBody_0 {j : Nat → rx_K} {J : Nat → List Int → gS → (Int → gS → Prop) → Prop} {a1 : Int} {G : gS} {Q : Int → gS → Prop} (ha1 : inI a1) (hj0 : ∀ (l1 : Int) (l2 : Int) (l3 : Nat) (G : gS), (inI l1) → (inI l2) → (l3 % 8 ≠ 1) → J 0 [l1, l2] G Q → Tg W0 (j 0) [rf (16081), cI (l1), cI (l2), l3] [] G (fun r G => ∃ v, r = cI v ∧ (0 ≤ v ∧ v ≤ 1) ∧ Q v G)) (h : PX13_hasBody_0 J a1 G Q) : Tg W0 (vX13_hasBody_0 j) [rf (16081), cI (a1), 7, 7] [] G (fun r G => ∃ v, r = cI v ∧ (0 ≤ v ∧ v ≤ 1) ∧ Q v G) := by
  unfold PX13_hasBody_0 at h
  unfold vX13_hasBody_0
  refine g_const (v := cI (0)) rfl ?_
  refine g_st (lv' := [_, _, _, _]) (is_I _) (Nat.le_of_ble_eq_true rfl) (Or.inr (n1_I _)) rfl ?_
  exact TX13_hasBody_2 ha1 ⟨by omega, by omega⟩ (show 7 % 8 ≠ 1 by decide) hj0 h
def PX13_hasBody_J : Nat → Nat → List Int → gS → (Int → gS → Prop) → Prop
  | 0, _, _, _, _ => False
  | f + 1, h, L, G, Q => match h, L with
    | 0, [l1, l2] => PX13_hasBody_2 (PX13_hasBody_J f) l1 l2 G Q
    | _, _ => False
theorem TX13_hasBody_J {Q : Int → gS → Prop} : ∀ f N : Nat, f ≤ N → (∀ (l1 : Int) (l2 : Int) (l3 : Nat) (G : gS), (inI l1) → (inI l2) → (l3 % 8 ≠ 1) → (PX13_hasBody_J f) 0 [l1, l2] G Q → Tg W0 (rx_J vhX13_hasBody N 0) [rf (16081), cI (l1), cI (l2), l3] [] G (fun r G => ∃ v, r = cI v ∧ (0 ≤ v ∧ v ≤ 1) ∧ Q v G)) := by
  intro f
  induction f with
  | zero => exact fun N _ => fun _ _ _ _ _ _ _ h => h.elim
  | succ f ih =>
    intro N hN
    obtain ⟨M, rfl⟩ : ∃ M, N = M + 1 := ⟨N - 1, by omega⟩
    have ih := ih M (by omega)
    exact fun _ _ _ _ hl1 hl2 hl3 h => show Tg W0 (vX13_hasBody_2 (rx_J vhX13_hasBody M)) _ _ _ _ from TX13_hasBody_2 hl1 hl2 hl3 ih h
def PX13_hasBody (a1 : Int) (G : gS) (Q : Int → gS → Prop) : Prop := ∃ f : Nat, f ≤ 4000000000 ∧ PX13_hasBody_0 (PX13_hasBody_J f) a1 G Q
theorem TX13_hasBody {a1 : Int} {G : gS} {Q : Int → gS → Prop} (ha1 : inI a1) (h : PX13_hasBody a1 G Q) : Tn W0 FX13_hasBody [rf (16081), cI (a1)] G (fun r G => ∃ v, r = cI v ∧ (0 ≤ v ∧ v ≤ 1) ∧ Q v G) := by
  obtain ⟨f, hf, h⟩ := h
  have hJ := TX13_hasBody_J (Q := Q) f 4000000000 hf
  unfold FX13_hasBody
  refine g_ent (lv' := [rf (16081), cI (a1), 7, 7]) (flR (flI fl0)) (Nat.le_of_ble_eq_true rfl) rfl ?_
  exact TX13_hasBody_0 ha1 hJ h
def PX13_pushFaces_9 (J : Nat → List Int → gS → (Int → gS → Prop) → Prop) (l1 : Int) (l2 : Int) (G : gS) (Q : Int → gS → Prop) : Prop :=
  ((l2 < 0 → Q 0 G) ∧ (¬ (l2 < 0) → (inI (G 16081 173) → ((0 : Int) ≤ (4 * l1) + l2 ∧ (((4 * l1) + l2 : Int) < 864 ∧ (inL (G 16104 ((4 * l1) + l2)) → PX13_find (G 16104 ((4 * l1) + l2)) G (fun r11 G10 => inI r11 → ((0 : Int) ≤ G 16081 173 ∧ ((G 16081 173 : Int) < 8000 ∧ (inI (2 * r11) ∧ (∀ G16 : gS, G16 = uG G10 16211 (G 16081 173) (2 * r11) → (inI (G16 16081 173) → (inI ((G16 16081 173) + 1) ∧ (∀ G19 : gS, G19 = uG G16 16081 173 ((G16 16081 173) + 1) → (inI (l2 + (-1)) ∧ J 0 [l1, l2 + (-1)] G19 Q)))))))))))))))
set_option maxRecDepth 20000 in
theorem TX13_pushFaces_9 {j : Nat → rx_K} {J : Nat → List Int → gS → (Int → gS → Prop) → Prop} {l1 : Int} {l2 : Int} {G : gS} {Q : Int → gS → Prop} (hl1 : inI l1) (hl2 : inI l2) (hj0 : ∀ (l1 : Int) (l2 : Int) (G : gS), (inI l1) → (inI l2) → J 0 [l1, l2] G Q → Tg W0 (j 0) [rf (16081), cI (l1), cI (l2)] [] G (fun r G => r = 7 ∧ Q 0 G)) (h : PX13_pushFaces_9 J l1 l2 G Q) : Tg W0 (vX13_pushFaces_9 j) [rf (16081), cI (l1), cI (l2)] [] G (fun r G => r = 7 ∧ Q 0 G) := by
  unfold PX13_pushFaces_9 at h
  unfold vX13_pushFaces_9
  refine g_ld (v := cI _) rfl (is_I _) ?_
  refine g_lt1 hl2 (fun b5 => ?_) (fun b5 => ?_)
  · replace h := h.1 b5
    unfold vX13_pushFaces_54
    exact g_ret0 ⟨rfl, h⟩
  · replace h := h.2 b5
    unfold vX13_pushFaces_13
    refine g_ld (v := rf _) rfl (is_R _) ?_
    refine g_getF (v := 16211) oC13 (hC13_172) rfl (Nat.le_of_ble_eq_true rfl) (Nat.le_of_ble_eq_true rfl) ?_
    refine g_ld (v := rf _) rfl (is_R _) ?_
    refine g_getI (kz := 173) oC13 rfl (Nat.le_of_ble_eq_true rfl) rfl fun i6 => ?_
    replace h := h i6
    refine g_const (v := cI (2)) rfl ?_
    refine g_ld (v := rf _) rfl (is_R _) ?_
    refine g_ld (v := rf _) rfl (is_R _) ?_
    refine g_getF (v := 16104) oC13 (hC13_30) rfl (Nat.le_of_ble_eq_true rfl) (Nat.le_of_ble_eq_true rfl) ?_
    refine g_const (v := cI (4)) rfl ?_
    refine g_ld (v := cI _) rfl (is_I _) ?_
    refine g_mul ?_
    refine g_ld (v := cI _) rfl (is_I _) ?_
    refine g_add ?_
    obtain ⟨q7, q8, h⟩ := h
    refine g_aldL aC16104 q7 q8 rfl fun i9 => ?_
    replace h := h i9
    refine g_callV (As := [_]) (ci := 13) oC13 (fun _ => rfl) ?_
    refine g_go1 (by simp only [cs_c, cs_0, ct_I, ct_L, ct_R]; exact Nat.le_of_ble_eq_true rfl) (Tn_w (TX13_find i9 h) fun _ G10 ⟨r11, e, i12, h⟩ => ?_)
    subst e
    refine ⟨n7_I _, ?_⟩
    replace h := h i12
    refine g_mul ?_
    obtain ⟨q13, q14, h⟩ := h
    obtain ⟨q15, h⟩ := h
    refine g_astI aC16211 q13 q14 q15 (nfI aC16211) ?_
    replace h := h _ rfl
    refine g_ld (v := rf _) rfl (is_R _) ?_
    refine g_dup (ct_R _) ?_
    refine g_getI (kz := 173) oC13 rfl (Nat.le_of_ble_eq_true rfl) rfl fun i17 => ?_
    replace h := h i17
    refine g_const (v := cI (1)) rfl ?_
    refine g_add ?_
    obtain ⟨q18, h⟩ := h
    refine g_putI (kz := 173) oC13 rfl (Nat.le_of_ble_eq_true rfl) rfl q18 (zfin_no (c := 16081) (j := 173) rfl) ?_
    replace h := h _ rfl
    refine g_inc (lv' := [_, _, _]) rfl (Nat.le_of_ble_eq_true rfl) (Or.inr (n1_I _)) rfl ?_
    obtain ⟨q20, h⟩ := h
    unfold vX13_pushFaces_51
    exact hj0 _ _ _ hl1 q20 h
def PX13_pushFaces_0 (J : Nat → List Int → gS → (Int → gS → Prop) → Prop) (a1 : Int) (G : gS) (Q : Int → gS → Prop) : Prop :=
  ((0 : Int) ≤ a1 ∧ ((a1 : Int) < 216 ∧ (inI (G 16106 a1) → (inI ((G 16106 a1) - 1) ∧ PX13_pushFaces_9 J a1 ((G 16106 a1) - 1) G Q))))
set_option maxRecDepth 20000 in
theorem TX13_pushFaces_0 {j : Nat → rx_K} {J : Nat → List Int → gS → (Int → gS → Prop) → Prop} {a1 : Int} {G : gS} {Q : Int → gS → Prop} (ha1 : inI a1) (hj0 : ∀ (l1 : Int) (l2 : Int) (G : gS), (inI l1) → (inI l2) → J 0 [l1, l2] G Q → Tg W0 (j 0) [rf (16081), cI (l1), cI (l2)] [] G (fun r G => r = 7 ∧ Q 0 G)) (h : PX13_pushFaces_0 J a1 G Q) : Tg W0 (vX13_pushFaces_0 j) [rf (16081), cI (a1), 7] [] G (fun r G => r = 7 ∧ Q 0 G) := by
  unfold PX13_pushFaces_0 at h
  unfold vX13_pushFaces_0
  refine g_ld (v := rf _) rfl (is_R _) ?_
  refine g_getF (v := 16106) oC13 (hC13_32) rfl (Nat.le_of_ble_eq_true rfl) (Nat.le_of_ble_eq_true rfl) ?_
  refine g_ld (v := cI _) rfl (is_I _) ?_
  obtain ⟨q1, q2, h⟩ := h
  refine g_aldI aC16106 q1 q2 rfl fun i3 => ?_
  replace h := h i3
  refine g_const (v := cI (1)) rfl ?_
  refine g_sub ?_
  refine g_st (lv' := [_, _, _]) (is_I _) (Nat.le_of_ble_eq_true rfl) (Or.inr (n1_I _)) rfl ?_
  obtain ⟨q4, h⟩ := h
  exact TX13_pushFaces_9 ha1 q4 hj0 h
def PX13_pushFaces_J : Nat → Nat → List Int → gS → (Int → gS → Prop) → Prop
  | 0, _, _, _, _ => False
  | f + 1, h, L, G, Q => match h, L with
    | 0, [l1, l2] => PX13_pushFaces_9 (PX13_pushFaces_J f) l1 l2 G Q
    | _, _ => False
theorem TX13_pushFaces_J {Q : Int → gS → Prop} : ∀ f N : Nat, f ≤ N → (∀ (l1 : Int) (l2 : Int) (G : gS), (inI l1) → (inI l2) → (PX13_pushFaces_J f) 0 [l1, l2] G Q → Tg W0 (rx_J vhX13_pushFaces N 0) [rf (16081), cI (l1), cI (l2)] [] G (fun r G => r = 7 ∧ Q 0 G)) := by
  intro f
  induction f with
  | zero => exact fun N _ => fun _ _ _ _ _ h => h.elim
  | succ f ih =>
    intro N hN
    obtain ⟨M, rfl⟩ : ∃ M, N = M + 1 := ⟨N - 1, by omega⟩
    have ih := ih M (by omega)
    exact fun _ _ _ hl1 hl2 h => show Tg W0 (vX13_pushFaces_9 (rx_J vhX13_pushFaces M)) _ _ _ _ from TX13_pushFaces_9 hl1 hl2 ih h
def PX13_pushFaces (a1 : Int) (G : gS) (Q : Int → gS → Prop) : Prop := ∃ f : Nat, f ≤ 4000000000 ∧ PX13_pushFaces_0 (PX13_pushFaces_J f) a1 G Q
theorem TX13_pushFaces {a1 : Int} {G : gS} {Q : Int → gS → Prop} (ha1 : inI a1) (h : PX13_pushFaces a1 G Q) : Tn W0 FX13_pushFaces [rf (16081), cI (a1)] G (fun r G => r = 7 ∧ Q 0 G) := by
  obtain ⟨f, hf, h⟩ := h
  have hJ := TX13_pushFaces_J (Q := Q) f 4000000000 hf
  unfold FX13_pushFaces
  refine g_ent (lv' := [rf (16081), cI (a1), 7]) (flR (flI fl0)) (Nat.le_of_ble_eq_true rfl) rfl ?_
  exact TX13_pushFaces_0 ha1 hJ h
def PX13_beginArgs_0 (a1 : Int) (a2 : Int) (G : gS) (Q : Int → gS → Prop) : Prop :=
  (inI (G 16081 155) → ((0 : Int) ≤ a1 ∧ ((a1 : Int) < 17280 ∧ (∀ G4 : gS, G4 = uG G 16207 a1 (G 16081 155) → ((0 : Int) ≤ a1 ∧ ((a1 : Int) < 17280 ∧ (∀ G7 : gS, G7 = uG G4 16208 a1 (a2) → ((0 : Int) ≤ a1 ∧ ((a1 : Int) < 17280 ∧ (∀ G10 : gS, G10 = uG G7 16205 a1 (2) → Q 0 G10))))))))))
set_option maxRecDepth 20000 in
theorem TX13_beginArgs_0 {a1 : Int} {a2 : Int} {G : gS} {Q : Int → gS → Prop} (ha1 : inI a1) (ha2 : inI a2) (h : PX13_beginArgs_0 a1 a2 G Q) : Tg W0 vX13_beginArgs_0 [rf (16081), cI (a1), cI (a2)] [] G (fun r G => r = 7 ∧ Q 0 G) := by
  unfold PX13_beginArgs_0 at h
  unfold vX13_beginArgs_0
  refine g_ld (v := rf _) rfl (is_R _) ?_
  refine g_getF (v := 16207) oC13 (hC13_159) rfl (Nat.le_of_ble_eq_true rfl) (Nat.le_of_ble_eq_true rfl) ?_
  refine g_ld (v := cI _) rfl (is_I _) ?_
  refine g_ld (v := rf _) rfl (is_R _) ?_
  refine g_getI (kz := 155) oC13 rfl (Nat.le_of_ble_eq_true rfl) rfl fun i1 => ?_
  replace h := h i1
  obtain ⟨q2, q3, h⟩ := h
  refine g_astI aC16207 q2 q3 i1 (nfI aC16207) ?_
  replace h := h _ rfl
  refine g_ld (v := rf _) rfl (is_R _) ?_
  refine g_getF (v := 16208) oC13 (hC13_160) rfl (Nat.le_of_ble_eq_true rfl) (Nat.le_of_ble_eq_true rfl) ?_
  refine g_ld (v := cI _) rfl (is_I _) ?_
  refine g_ld (v := cI _) rfl (is_I _) ?_
  obtain ⟨q5, q6, h⟩ := h
  refine g_astI aC16208 q5 q6 ha2 (nfI aC16208) ?_
  replace h := h _ rfl
  refine g_ld (v := rf _) rfl (is_R _) ?_
  refine g_getF (v := 16205) oC13 (hC13_157) rfl (Nat.le_of_ble_eq_true rfl) (Nat.le_of_ble_eq_true rfl) ?_
  refine g_ld (v := cI _) rfl (is_I _) ?_
  refine g_const (v := cI (2)) rfl ?_
  obtain ⟨q8, q9, h⟩ := h
  refine g_astI aC16205 q8 q9 ⟨by omega, by omega⟩ (nfI aC16205) ?_
  replace h := h _ rfl
  exact g_ret0 ⟨rfl, h⟩
abbrev PX13_beginArgs (a1 : Int) (a2 : Int) (G : gS) (Q : Int → gS → Prop) : Prop := PX13_beginArgs_0 a1 a2 G Q
theorem TX13_beginArgs {a1 : Int} {a2 : Int} {G : gS} {Q : Int → gS → Prop} (ha1 : inI a1) (ha2 : inI a2) (h : PX13_beginArgs a1 a2 G Q) : Tn W0 FX13_beginArgs [rf (16081), cI (a1), cI (a2)] G (fun r G => r = 7 ∧ Q 0 G) := by
  unfold FX13_beginArgs
  refine g_ent (lv' := [rf (16081), cI (a1), cI (a2)]) (flR (flI (flI fl0))) (Nat.le_of_ble_eq_true rfl) rfl ?_
  exact TX13_beginArgs_0 ha1 ha2 h
def PX13_fieldsOf_60 (J : Nat → List Int → gS → (Int → gS → Prop) → Prop) (l1 : Int) (l2 : Int) (l3 : Int) (l4 : Int) (s0 : Int) (s1 : Int) (G : gS) (Q : Int → gS → Prop) : Prop :=
  (inI (s0 + s1) ∧ (inI (l4 + 1) ∧ J 1 [l1, s0 + s1, l3, l4 + 1] G Q))
set_option maxRecDepth 20000 in
theorem TX13_fieldsOf_60 {j : Nat → rx_K} {J : Nat → List Int → gS → (Int → gS → Prop) → Prop} {l1 : Int} {l2 : Int} {l3 : Int} {l4 : Int} {s0 : Int} {s1 : Int} {G : gS} {Q : Int → gS → Prop} (hl1 : inI l1) (hl2 : inI l2) (hl3 : inI l3) (hl4 : inI l4) (hs0 : inI s0) (hs1 : inI s1) (hj0 : ∀ (l1 : Int) (l2 : Int) (l3 : Int) (l4 : Nat) (G : gS), (inI l1) → (inI l2) → (inI l3) → (l4 % 8 ≠ 1) → J 0 [l1, l2, l3] G Q → Tg W0 (j 0) [rf (16081), cI (l1), cI (l2), cI (l3), l4] [] G (fun r G => ∃ v, r = cI v ∧ inI v ∧ Q v G)) (hj1 : ∀ (l1 : Int) (l2 : Int) (l3 : Int) (l4 : Int) (G : gS), (inI l1) → (inI l2) → (inI l3) → (inI l4) → J 1 [l1, l2, l3, l4] G Q → Tg W0 (j 1) [rf (16081), cI (l1), cI (l2), cI (l3), cI (l4)] [] G (fun r G => ∃ v, r = cI v ∧ inI v ∧ Q v G)) (h : PX13_fieldsOf_60 J l1 l2 l3 l4 s0 s1 G Q) : Tg W0 (vX13_fieldsOf_60 j) [rf (16081), cI (l1), cI (l2), cI (l3), cI (l4)] [cI (s1), cI (s0)] G (fun r G => ∃ v, r = cI v ∧ inI v ∧ Q v G) := by
  unfold PX13_fieldsOf_60 at h
  unfold vX13_fieldsOf_60
  refine g_add ?_
  refine g_st (lv' := [_, _, _, _, _]) (is_I _) (Nat.le_of_ble_eq_true rfl) (Or.inr (n1_I _)) rfl ?_
  obtain ⟨q17, h⟩ := h
  refine g_inc (lv' := [_, _, _, _, _]) rfl (Nat.le_of_ble_eq_true rfl) (Or.inr (n1_I _)) rfl ?_
  obtain ⟨q18, h⟩ := h
  exact hj1 _ _ _ _ _ hl1 q17 hl3 q18 h
def PX13_fieldsOf_59 (J : Nat → List Int → gS → (Int → gS → Prop) → Prop) (l1 : Int) (l2 : Int) (l3 : Int) (l4 : Int) (s0 : Int) (G : gS) (Q : Int → gS → Prop) : Prop :=
  PX13_fieldsOf_60 J l1 l2 l3 l4 s0 0 G Q
set_option maxRecDepth 20000 in
theorem TX13_fieldsOf_59 {j : Nat → rx_K} {J : Nat → List Int → gS → (Int → gS → Prop) → Prop} {l1 : Int} {l2 : Int} {l3 : Int} {l4 : Int} {s0 : Int} {G : gS} {Q : Int → gS → Prop} (hl1 : inI l1) (hl2 : inI l2) (hl3 : inI l3) (hl4 : inI l4) (hs0 : inI s0) (hj0 : ∀ (l1 : Int) (l2 : Int) (l3 : Int) (l4 : Nat) (G : gS), (inI l1) → (inI l2) → (inI l3) → (l4 % 8 ≠ 1) → J 0 [l1, l2, l3] G Q → Tg W0 (j 0) [rf (16081), cI (l1), cI (l2), cI (l3), l4] [] G (fun r G => ∃ v, r = cI v ∧ inI v ∧ Q v G)) (hj1 : ∀ (l1 : Int) (l2 : Int) (l3 : Int) (l4 : Int) (G : gS), (inI l1) → (inI l2) → (inI l3) → (inI l4) → J 1 [l1, l2, l3, l4] G Q → Tg W0 (j 1) [rf (16081), cI (l1), cI (l2), cI (l3), cI (l4)] [] G (fun r G => ∃ v, r = cI v ∧ inI v ∧ Q v G)) (h : PX13_fieldsOf_59 J l1 l2 l3 l4 s0 G Q) : Tg W0 (vX13_fieldsOf_59 j) [rf (16081), cI (l1), cI (l2), cI (l3), cI (l4)] [cI (s0)] G (fun r G => ∃ v, r = cI v ∧ inI v ∧ Q v G) := by
  unfold PX13_fieldsOf_59 at h
  unfold vX13_fieldsOf_59
  refine g_const (v := cI (0)) rfl ?_
  exact TX13_fieldsOf_60 hl1 hl2 hl3 hl4 hs0 ⟨by omega, by omega⟩ hj0 hj1 h
def PX13_fieldsOf_13 (J : Nat → List Int → gS → (Int → gS → Prop) → Prop) (l1 : Int) (l2 : Int) (l3 : Int) (l4 : Int) (G : gS) (Q : Int → gS → Prop) : Prop :=
  ((0 : Int) ≤ l3 ∧ ((l3 : Int) < 216 ∧ (inI (G 16115 l3) → ((l4 < G 16115 l3 → ((0 : Int) ≤ (l3 * 34) + l4 ∧ (((l3 * 34) + l4 : Int) < 7344 ∧ (inI (G 16116 ((l3 * 34) + l4)) → ((G 16116 ((l3 * 34) + l4) = 0 → ((0 : Int) ≤ (l3 * 34) + l4 ∧ (((l3 * 34) + l4 : Int) < 7344 ∧ ((0 ≤ G 16119 ((l3 * 34) + l4) ∧ G 16119 ((l3 * 34) + l4) ≤ 1) → ((G 16119 ((l3 * 34) + l4) = 0 → PX13_fieldsOf_60 J l1 l2 l3 l4 l2 1 G Q) ∧ (¬ (G 16119 ((l3 * 34) + l4) = 0) → PX13_fieldsOf_59 J l1 l2 l3 l4 l2 G Q)))))) ∧ (¬ (G 16116 ((l3 * 34) + l4) = 0) → PX13_fieldsOf_59 J l1 l2 l3 l4 l2 G Q)))))) ∧ (¬ (l4 < G 16115 l3) → PX13_parent l3 G (fun r15 G14 => inI r15 → J 0 [l1, l2, r15] G14 Q))))))
set_option maxRecDepth 20000 in
theorem TX13_fieldsOf_13 {j : Nat → rx_K} {J : Nat → List Int → gS → (Int → gS → Prop) → Prop} {l1 : Int} {l2 : Int} {l3 : Int} {l4 : Int} {G : gS} {Q : Int → gS → Prop} (hl1 : inI l1) (hl2 : inI l2) (hl3 : inI l3) (hl4 : inI l4) (hj0 : ∀ (l1 : Int) (l2 : Int) (l3 : Int) (l4 : Nat) (G : gS), (inI l1) → (inI l2) → (inI l3) → (l4 % 8 ≠ 1) → J 0 [l1, l2, l3] G Q → Tg W0 (j 0) [rf (16081), cI (l1), cI (l2), cI (l3), l4] [] G (fun r G => ∃ v, r = cI v ∧ inI v ∧ Q v G)) (hj1 : ∀ (l1 : Int) (l2 : Int) (l3 : Int) (l4 : Int) (G : gS), (inI l1) → (inI l2) → (inI l3) → (inI l4) → J 1 [l1, l2, l3, l4] G Q → Tg W0 (j 1) [rf (16081), cI (l1), cI (l2), cI (l3), cI (l4)] [] G (fun r G => ∃ v, r = cI v ∧ inI v ∧ Q v G)) (h : PX13_fieldsOf_13 J l1 l2 l3 l4 G Q) : Tg W0 (vX13_fieldsOf_13 j) [rf (16081), cI (l1), cI (l2), cI (l3), cI (l4)] [] G (fun r G => ∃ v, r = cI v ∧ inI v ∧ Q v G) := by
  unfold PX13_fieldsOf_13 at h
  unfold vX13_fieldsOf_13
  refine g_ld (v := cI _) rfl (is_I _) ?_
  refine g_ld (v := rf _) rfl (is_R _) ?_
  refine g_getF (v := 16115) oC13 (hC13_41) rfl (Nat.le_of_ble_eq_true rfl) (Nat.le_of_ble_eq_true rfl) ?_
  refine g_ld (v := cI _) rfl (is_I _) ?_
  obtain ⟨q2, q3, h⟩ := h
  refine g_aldI aC16115 q2 q3 rfl fun i4 => ?_
  replace h := h i4
  refine g_lt2 hl4 i4 (fun b5 => ?_) (fun b5 => ?_)
  · replace h := h.1 b5
    unfold vX13_fieldsOf_24
    refine g_ld (v := cI _) rfl (is_I _) ?_
    refine g_ld (v := rf _) rfl (is_R _) ?_
    refine g_getF (v := 16116) oC13 (hC13_42) rfl (Nat.le_of_ble_eq_true rfl) (Nat.le_of_ble_eq_true rfl) ?_
    refine g_ld (v := cI _) rfl (is_I _) ?_
    refine g_const (v := cI (34)) rfl ?_
    refine g_mul ?_
    refine g_ld (v := cI _) rfl (is_I _) ?_
    refine g_add ?_
    obtain ⟨q6, q7, h⟩ := h
    refine g_aldI aC16116 q6 q7 rfl fun i8 => ?_
    replace h := h i8
    refine g_eq1 i8 (fun b9 => ?_) (fun b9 => ?_)
    · replace h := h.1 b9
      unfold vX13_fieldsOf_40
      refine g_ld (v := rf _) rfl (is_R _) ?_
      refine g_getF (v := 16119) oC13 (hC13_45) rfl (Nat.le_of_ble_eq_true rfl) (Nat.le_of_ble_eq_true rfl) ?_
      refine g_ld (v := cI _) rfl (is_I _) ?_
      refine g_const (v := cI (34)) rfl ?_
      refine g_mul ?_
      refine g_ld (v := cI _) rfl (is_I _) ?_
      refine g_add ?_
      obtain ⟨q10, q11, h⟩ := h
      refine g_aldZ aC16119 q10 q11 rfl fun i12 => ?_
      replace h := h i12
      refine g_eq1 ⟨by omega, by omega⟩ (fun b13 => ?_) (fun b13 => ?_)
      · replace h := h.1 b13
        unfold vX13_fieldsOf_55
        refine g_const (v := cI (1)) rfl ?_
        exact TX13_fieldsOf_60 hl1 hl2 hl3 hl4 hl2 ⟨by omega, by omega⟩ hj0 hj1 h
      · replace h := h.2 b13
        exact TX13_fieldsOf_59 hl1 hl2 hl3 hl4 hl2 hj0 hj1 h
    · replace h := h.2 b9
      exact TX13_fieldsOf_59 hl1 hl2 hl3 hl4 hl2 hj0 hj1 h
  · replace h := h.2 b5
    unfold vX13_fieldsOf_68
    refine g_ld (v := rf _) rfl (is_R _) ?_
    refine g_ld (v := cI _) rfl (is_I _) ?_
    refine g_callV (As := [_]) (ci := 13) oC13 (fun _ => rfl) ?_
    refine g_go1 (Nat.le_of_ble_eq_true rfl) (Tn_w (TX13_parent hl3 h) fun _ G14 ⟨r15, e, i16, h⟩ => ?_)
    subst e
    refine ⟨n7_I _, ?_⟩
    replace h := h i16
    refine g_st (lv' := [_, _, _, _, _]) (is_I _) (Nat.le_of_ble_eq_true rfl) (Or.inr (n1_I _)) rfl ?_
    exact hj0 _ _ _ _ _ hl1 hl2 i16 (n1_I _) h
def PX13_fieldsOf_4 (J : Nat → List Int → gS → (Int → gS → Prop) → Prop) (l1 : Int) (l2 : Int) (l3 : Int) (G : gS) (Q : Int → gS → Prop) : Prop :=
  ((l3 = -2 → Q (l2) G) ∧ (¬ (l3 = -2) → PX13_fieldsOf_13 J l1 l2 l3 0 G Q))
set_option maxRecDepth 20000 in
theorem TX13_fieldsOf_4 {j : Nat → rx_K} {J : Nat → List Int → gS → (Int → gS → Prop) → Prop} {l1 : Int} {l2 : Int} {l3 : Int} {l4 : Nat} {G : gS} {Q : Int → gS → Prop} (hl1 : inI l1) (hl2 : inI l2) (hl3 : inI l3) (hl4 : l4 % 8 ≠ 1) (hj0 : ∀ (l1 : Int) (l2 : Int) (l3 : Int) (l4 : Nat) (G : gS), (inI l1) → (inI l2) → (inI l3) → (l4 % 8 ≠ 1) → J 0 [l1, l2, l3] G Q → Tg W0 (j 0) [rf (16081), cI (l1), cI (l2), cI (l3), l4] [] G (fun r G => ∃ v, r = cI v ∧ inI v ∧ Q v G)) (hj1 : ∀ (l1 : Int) (l2 : Int) (l3 : Int) (l4 : Int) (G : gS), (inI l1) → (inI l2) → (inI l3) → (inI l4) → J 1 [l1, l2, l3, l4] G Q → Tg W0 (j 1) [rf (16081), cI (l1), cI (l2), cI (l3), cI (l4)] [] G (fun r G => ∃ v, r = cI v ∧ inI v ∧ Q v G)) (h : PX13_fieldsOf_4 J l1 l2 l3 G Q) : Tg W0 (vX13_fieldsOf_4 j) [rf (16081), cI (l1), cI (l2), cI (l3), l4] [] G (fun r G => ∃ v, r = cI v ∧ inI v ∧ Q v G) := by
  unfold PX13_fieldsOf_4 at h
  unfold vX13_fieldsOf_4
  refine g_ld (v := cI _) rfl (is_I _) ?_
  refine g_const (v := cI (-2)) rfl ?_
  refine g_eq2 hl3 ⟨by omega, by omega⟩ (fun b1 => ?_) (fun b1 => ?_)
  · replace h := h.1 b1
    unfold vX13_fieldsOf_77
    refine g_ld (v := cI _) rfl (is_I _) ?_
    exact g_ret1 (is_I _) ⟨_, rfl, hl2, h⟩
  · replace h := h.2 b1
    unfold vX13_fieldsOf_10
    refine g_const (v := cI (0)) rfl ?_
    refine g_st (lv' := [_, _, _, _, _]) (is_I _) (Nat.le_of_ble_eq_true rfl) (Or.inr (n1_I _)) rfl ?_
    exact TX13_fieldsOf_13 hl1 hl2 hl3 ⟨by omega, by omega⟩ hj0 hj1 h
def PX13_fieldsOf_0 (J : Nat → List Int → gS → (Int → gS → Prop) → Prop) (a1 : Int) (G : gS) (Q : Int → gS → Prop) : Prop :=
  PX13_fieldsOf_4 J a1 0 a1 G Q
set_option maxRecDepth 20000 in
theorem TX13_fieldsOf_0 {j : Nat → rx_K} {J : Nat → List Int → gS → (Int → gS → Prop) → Prop} {a1 : Int} {G : gS} {Q : Int → gS → Prop} (ha1 : inI a1) (hj0 : ∀ (l1 : Int) (l2 : Int) (l3 : Int) (l4 : Nat) (G : gS), (inI l1) → (inI l2) → (inI l3) → (l4 % 8 ≠ 1) → J 0 [l1, l2, l3] G Q → Tg W0 (j 0) [rf (16081), cI (l1), cI (l2), cI (l3), l4] [] G (fun r G => ∃ v, r = cI v ∧ inI v ∧ Q v G)) (hj1 : ∀ (l1 : Int) (l2 : Int) (l3 : Int) (l4 : Int) (G : gS), (inI l1) → (inI l2) → (inI l3) → (inI l4) → J 1 [l1, l2, l3, l4] G Q → Tg W0 (j 1) [rf (16081), cI (l1), cI (l2), cI (l3), cI (l4)] [] G (fun r G => ∃ v, r = cI v ∧ inI v ∧ Q v G)) (h : PX13_fieldsOf_0 J a1 G Q) : Tg W0 (vX13_fieldsOf_0 j) [rf (16081), cI (a1), 7, 7, 7] [] G (fun r G => ∃ v, r = cI v ∧ inI v ∧ Q v G) := by
  unfold PX13_fieldsOf_0 at h
  unfold vX13_fieldsOf_0
  refine g_const (v := cI (0)) rfl ?_
  refine g_st (lv' := [_, _, _, _, _]) (is_I _) (Nat.le_of_ble_eq_true rfl) (Or.inr (n1_I _)) rfl ?_
  refine g_ld (v := cI _) rfl (is_I _) ?_
  refine g_st (lv' := [_, _, _, _, _]) (is_I _) (Nat.le_of_ble_eq_true rfl) (Or.inr (n1_I _)) rfl ?_
  exact TX13_fieldsOf_4 ha1 ⟨by omega, by omega⟩ ha1 (show 7 % 8 ≠ 1 by decide) hj0 hj1 h
def PX13_fieldsOf_J : Nat → Nat → List Int → gS → (Int → gS → Prop) → Prop
  | 0, _, _, _, _ => False
  | f + 1, h, L, G, Q => match h, L with
    | 0, [l1, l2, l3] => PX13_fieldsOf_4 (PX13_fieldsOf_J f) l1 l2 l3 G Q
    | 1, [l1, l2, l3, l4] => PX13_fieldsOf_13 (PX13_fieldsOf_J f) l1 l2 l3 l4 G Q
    | _, _ => False
theorem TX13_fieldsOf_J {Q : Int → gS → Prop} : ∀ f N : Nat, f ≤ N → (∀ (l1 : Int) (l2 : Int) (l3 : Int) (l4 : Nat) (G : gS), (inI l1) → (inI l2) → (inI l3) → (l4 % 8 ≠ 1) → (PX13_fieldsOf_J f) 0 [l1, l2, l3] G Q → Tg W0 (rx_J vhX13_fieldsOf N 0) [rf (16081), cI (l1), cI (l2), cI (l3), l4] [] G (fun r G => ∃ v, r = cI v ∧ inI v ∧ Q v G)) ∧ (∀ (l1 : Int) (l2 : Int) (l3 : Int) (l4 : Int) (G : gS), (inI l1) → (inI l2) → (inI l3) → (inI l4) → (PX13_fieldsOf_J f) 1 [l1, l2, l3, l4] G Q → Tg W0 (rx_J vhX13_fieldsOf N 1) [rf (16081), cI (l1), cI (l2), cI (l3), cI (l4)] [] G (fun r G => ∃ v, r = cI v ∧ inI v ∧ Q v G)) := by
  intro f
  induction f with
  | zero => exact fun N _ => ⟨fun _ _ _ _ _ _ _ _ _ h => h.elim, fun _ _ _ _ _ _ _ _ _ h => h.elim⟩
  | succ f ih =>
    intro N hN
    obtain ⟨M, rfl⟩ : ∃ M, N = M + 1 := ⟨N - 1, by omega⟩
    have ih := ih M (by omega)
    exact ⟨fun _ _ _ _ _ hl1 hl2 hl3 hl4 h => show Tg W0 (vX13_fieldsOf_4 (rx_J vhX13_fieldsOf M)) _ _ _ _ from TX13_fieldsOf_4 hl1 hl2 hl3 hl4 ih.1 ih.2 h, fun _ _ _ _ _ hl1 hl2 hl3 hl4 h => show Tg W0 (vX13_fieldsOf_13 (rx_J vhX13_fieldsOf M)) _ _ _ _ from TX13_fieldsOf_13 hl1 hl2 hl3 hl4 ih.1 ih.2 h⟩
def PX13_fieldsOf (a1 : Int) (G : gS) (Q : Int → gS → Prop) : Prop := ∃ f : Nat, f ≤ 4000000000 ∧ PX13_fieldsOf_0 (PX13_fieldsOf_J f) a1 G Q
theorem TX13_fieldsOf {a1 : Int} {G : gS} {Q : Int → gS → Prop} (ha1 : inI a1) (h : PX13_fieldsOf a1 G Q) : Tn W0 FX13_fieldsOf [rf (16081), cI (a1)] G (fun r G => ∃ v, r = cI v ∧ inI v ∧ Q v G) := by
  obtain ⟨f, hf, h⟩ := h
  have hJ := TX13_fieldsOf_J (Q := Q) f 4000000000 hf
  unfold FX13_fieldsOf
  refine g_ent (lv' := [rf (16081), cI (a1), 7, 7, 7]) (flR (flI fl0)) (Nat.le_of_ble_eq_true rfl) rfl ?_
  exact TX13_fieldsOf_0 ha1 hJ.1 hJ.2 h
def PX13_cellOf_109 (J : Nat → List Int → gS → (Int → gS → Prop) → Prop) (l1 : Int) (l2 : Int) (l3 : Int) (l4 : Int) (l5 : Int) (s0 : Int) (s1 : Int) (G : gS) (Q : Int → gS → Prop) : Prop :=
  (inI (s0 + s1) ∧ (inI (l5 + 1) ∧ J 0 [l1, l2, l3, s0 + s1, l5 + 1] G Q))
set_option maxRecDepth 20000 in
theorem TX13_cellOf_109 {j : Nat → rx_K} {J : Nat → List Int → gS → (Int → gS → Prop) → Prop} {l1 : Int} {l2 : Int} {l3 : Int} {l4 : Int} {l5 : Int} {s0 : Int} {s1 : Int} {G : gS} {Q : Int → gS → Prop} (hl1 : inI l1) (hl2 : inI l2) (hl3 : inI l3) (hl4 : inI l4) (hl5 : inI l5) (hs0 : inI s0) (hs1 : inI s1) (hj0 : ∀ (l1 : Int) (l2 : Int) (l3 : Int) (l4 : Int) (l5 : Int) (G : gS), (inI l1) → (inI l2) → (inI l3) → (inI l4) → (inI l5) → J 0 [l1, l2, l3, l4, l5] G Q → Tg W0 (j 0) [rf (16081), cI (l1), cI (l2), cI (l3), cI (l4), cI (l5)] [] G (fun r G => ∃ v, r = cI v ∧ inI v ∧ Q v G)) (h : PX13_cellOf_109 J l1 l2 l3 l4 l5 s0 s1 G Q) : Tg W0 (vX13_cellOf_109 j) [rf (16081), cI (l1), cI (l2), cI (l3), cI (l4), cI (l5)] [cI (s1), cI (s0)] G (fun r G => ∃ v, r = cI v ∧ inI v ∧ Q v G) := by
  unfold PX13_cellOf_109 at h
  unfold vX13_cellOf_109
  refine g_add ?_
  refine g_st (lv' := [_, _, _, _, _, _]) (is_I _) (Nat.le_of_ble_eq_true rfl) (Or.inr (n1_I _)) rfl ?_
  obtain ⟨q39, h⟩ := h
  refine g_inc (lv' := [_, _, _, _, _, _]) rfl (Nat.le_of_ble_eq_true rfl) (Or.inr (n1_I _)) rfl ?_
  obtain ⟨q40, h⟩ := h
  exact hj0 _ _ _ _ _ _ hl1 hl2 hl3 q39 q40 h
def PX13_cellOf_108 (J : Nat → List Int → gS → (Int → gS → Prop) → Prop) (l1 : Int) (l2 : Int) (l3 : Int) (l4 : Int) (l5 : Int) (s0 : Int) (G : gS) (Q : Int → gS → Prop) : Prop :=
  PX13_cellOf_109 J l1 l2 l3 l4 l5 s0 0 G Q
set_option maxRecDepth 20000 in
theorem TX13_cellOf_108 {j : Nat → rx_K} {J : Nat → List Int → gS → (Int → gS → Prop) → Prop} {l1 : Int} {l2 : Int} {l3 : Int} {l4 : Int} {l5 : Int} {s0 : Int} {G : gS} {Q : Int → gS → Prop} (hl1 : inI l1) (hl2 : inI l2) (hl3 : inI l3) (hl4 : inI l4) (hl5 : inI l5) (hs0 : inI s0) (hj0 : ∀ (l1 : Int) (l2 : Int) (l3 : Int) (l4 : Int) (l5 : Int) (G : gS), (inI l1) → (inI l2) → (inI l3) → (inI l4) → (inI l5) → J 0 [l1, l2, l3, l4, l5] G Q → Tg W0 (j 0) [rf (16081), cI (l1), cI (l2), cI (l3), cI (l4), cI (l5)] [] G (fun r G => ∃ v, r = cI v ∧ inI v ∧ Q v G)) (h : PX13_cellOf_108 J l1 l2 l3 l4 l5 s0 G Q) : Tg W0 (vX13_cellOf_108 j) [rf (16081), cI (l1), cI (l2), cI (l3), cI (l4), cI (l5)] [cI (s0)] G (fun r G => ∃ v, r = cI v ∧ inI v ∧ Q v G) := by
  unfold PX13_cellOf_108 at h
  unfold vX13_cellOf_108
  refine g_const (v := cI (0)) rfl ?_
  exact TX13_cellOf_109 hl1 hl2 hl3 hl4 hl5 hs0 ⟨by omega, by omega⟩ hj0 h
def PX13_cellOf_61 (J : Nat → List Int → gS → (Int → gS → Prop) → Prop) (l1 : Int) (l2 : Int) (l3 : Int) (l4 : Int) (l5 : Int) (G : gS) (Q : Int → gS → Prop) : Prop :=
  (inI ((l3 * 34) + l5) ∧ (((l3 * 34) + l5 < l2 → ((0 : Int) ≤ (l3 * 34) + l5 ∧ (((l3 * 34) + l5 : Int) < 7344 ∧ (inI (G 16116 ((l3 * 34) + l5)) → ((G 16116 ((l3 * 34) + l5) = 0 → ((0 : Int) ≤ (l3 * 34) + l5 ∧ (((l3 * 34) + l5 : Int) < 7344 ∧ ((0 ≤ G 16119 ((l3 * 34) + l5) ∧ G 16119 ((l3 * 34) + l5) ≤ 1) → ((G 16119 ((l3 * 34) + l5) = 0 → PX13_cellOf_109 J l1 l2 l3 l4 l5 l4 1 G Q) ∧ (¬ (G 16119 ((l3 * 34) + l5) = 0) → PX13_cellOf_108 J l1 l2 l3 l4 l5 l4 G Q)))))) ∧ (¬ (G 16116 ((l3 * 34) + l5) = 0) → PX13_cellOf_108 J l1 l2 l3 l4 l5 l4 G Q)))))) ∧ (¬ ((l3 * 34) + l5 < l2) → ((0 : Int) ≤ l1 ∧ ((l1 : Int) < 202 ∧ (inI (G 16201 l1) → (inI ((G 16201 l1) + l4) ∧ Q ((G 16201 l1) + l4) G)))))))
set_option maxRecDepth 20000 in
theorem TX13_cellOf_61 {j : Nat → rx_K} {J : Nat → List Int → gS → (Int → gS → Prop) → Prop} {l1 : Int} {l2 : Int} {l3 : Int} {l4 : Int} {l5 : Int} {G : gS} {Q : Int → gS → Prop} (hl1 : inI l1) (hl2 : inI l2) (hl3 : inI l3) (hl4 : inI l4) (hl5 : inI l5) (hj0 : ∀ (l1 : Int) (l2 : Int) (l3 : Int) (l4 : Int) (l5 : Int) (G : gS), (inI l1) → (inI l2) → (inI l3) → (inI l4) → (inI l5) → J 0 [l1, l2, l3, l4, l5] G Q → Tg W0 (j 0) [rf (16081), cI (l1), cI (l2), cI (l3), cI (l4), cI (l5)] [] G (fun r G => ∃ v, r = cI v ∧ inI v ∧ Q v G)) (h : PX13_cellOf_61 J l1 l2 l3 l4 l5 G Q) : Tg W0 (vX13_cellOf_61 j) [rf (16081), cI (l1), cI (l2), cI (l3), cI (l4), cI (l5)] [] G (fun r G => ∃ v, r = cI v ∧ inI v ∧ Q v G) := by
  unfold PX13_cellOf_61 at h
  unfold vX13_cellOf_61
  refine g_ld (v := cI _) rfl (is_I _) ?_
  refine g_const (v := cI (34)) rfl ?_
  refine g_mul ?_
  refine g_ld (v := cI _) rfl (is_I _) ?_
  refine g_add ?_
  refine g_ld (v := cI _) rfl (is_I _) ?_
  obtain ⟨q25, h⟩ := h
  refine g_lt2 q25 hl2 (fun b26 => ?_) (fun b26 => ?_)
  · replace h := h.1 b26
    unfold vX13_cellOf_72
    refine g_ld (v := cI _) rfl (is_I _) ?_
    refine g_ld (v := rf _) rfl (is_R _) ?_
    refine g_getF (v := 16116) oC13 (hC13_42) rfl (Nat.le_of_ble_eq_true rfl) (Nat.le_of_ble_eq_true rfl) ?_
    refine g_ld (v := cI _) rfl (is_I _) ?_
    refine g_const (v := cI (34)) rfl ?_
    refine g_mul ?_
    refine g_ld (v := cI _) rfl (is_I _) ?_
    refine g_add ?_
    obtain ⟨q27, q28, h⟩ := h
    refine g_aldI aC16116 q27 q28 rfl fun i29 => ?_
    replace h := h i29
    refine g_eq1 i29 (fun b30 => ?_) (fun b30 => ?_)
    · replace h := h.1 b30
      unfold vX13_cellOf_89
      refine g_ld (v := rf _) rfl (is_R _) ?_
      refine g_getF (v := 16119) oC13 (hC13_45) rfl (Nat.le_of_ble_eq_true rfl) (Nat.le_of_ble_eq_true rfl) ?_
      refine g_ld (v := cI _) rfl (is_I _) ?_
      refine g_const (v := cI (34)) rfl ?_
      refine g_mul ?_
      refine g_ld (v := cI _) rfl (is_I _) ?_
      refine g_add ?_
      obtain ⟨q31, q32, h⟩ := h
      refine g_aldZ aC16119 q31 q32 rfl fun i33 => ?_
      replace h := h i33
      refine g_eq1 ⟨by omega, by omega⟩ (fun b34 => ?_) (fun b34 => ?_)
      · replace h := h.1 b34
        unfold vX13_cellOf_104
        refine g_const (v := cI (1)) rfl ?_
        exact TX13_cellOf_109 hl1 hl2 hl3 hl4 hl5 hl4 ⟨by omega, by omega⟩ hj0 h
      · replace h := h.2 b34
        exact TX13_cellOf_108 hl1 hl2 hl3 hl4 hl5 hl4 hj0 h
    · replace h := h.2 b30
      exact TX13_cellOf_108 hl1 hl2 hl3 hl4 hl5 hl4 hj0 h
  · replace h := h.2 b26
    unfold vX13_cellOf_118
    refine g_ld (v := rf _) rfl (is_R _) ?_
    refine g_getF (v := 16201) oC13 (hC13_150) rfl (Nat.le_of_ble_eq_true rfl) (Nat.le_of_ble_eq_true rfl) ?_
    refine g_ld (v := cI _) rfl (is_I _) ?_
    obtain ⟨q35, q36, h⟩ := h
    refine g_aldI aC16201 q35 q36 rfl fun i37 => ?_
    replace h := h i37
    refine g_ld (v := cI _) rfl (is_I _) ?_
    refine g_add ?_
    obtain ⟨q38, h⟩ := h
    exact g_ret1 (is_I _) ⟨_, rfl, q38, h⟩
def PX13_cellOf_56 (J : Nat → List Int → gS → (Int → gS → Prop) → Prop) (l1 : Int) (l2 : Int) (l3 : Int) (s0 : Int) (G : gS) (Q : Int → gS → Prop) : Prop :=
  PX13_cellOf_61 J l1 l2 l3 s0 0 G Q
set_option maxRecDepth 20000 in
theorem TX13_cellOf_56 {j : Nat → rx_K} {J : Nat → List Int → gS → (Int → gS → Prop) → Prop} {l1 : Int} {l2 : Int} {l3 : Int} {l4 : Nat} {l5 : Nat} {s0 : Int} {G : gS} {Q : Int → gS → Prop} (hl1 : inI l1) (hl2 : inI l2) (hl3 : inI l3) (hl4 : l4 % 8 ≠ 1) (hl5 : l5 % 8 ≠ 1) (hs0 : inI s0) (hj0 : ∀ (l1 : Int) (l2 : Int) (l3 : Int) (l4 : Int) (l5 : Int) (G : gS), (inI l1) → (inI l2) → (inI l3) → (inI l4) → (inI l5) → J 0 [l1, l2, l3, l4, l5] G Q → Tg W0 (j 0) [rf (16081), cI (l1), cI (l2), cI (l3), cI (l4), cI (l5)] [] G (fun r G => ∃ v, r = cI v ∧ inI v ∧ Q v G)) (h : PX13_cellOf_56 J l1 l2 l3 s0 G Q) : Tg W0 (vX13_cellOf_56 j) [rf (16081), cI (l1), cI (l2), cI (l3), l4, l5] [cI (s0)] G (fun r G => ∃ v, r = cI v ∧ inI v ∧ Q v G) := by
  unfold PX13_cellOf_56 at h
  unfold vX13_cellOf_56
  refine g_st (lv' := [_, _, _, _, _, _]) (is_I _) (Nat.le_of_ble_eq_true rfl) (Or.inr (n1_I _)) rfl ?_
  refine g_const (v := cI (0)) rfl ?_
  refine g_st (lv' := [_, _, _, _, _, _]) (is_I _) (Nat.le_of_ble_eq_true rfl) (Or.inr (n1_I _)) rfl ?_
  exact TX13_cellOf_61 hl1 hl2 hl3 hs0 ⟨by omega, by omega⟩ hj0 h
def PX13_cellOf_33 (J : Nat → List Int → gS → (Int → gS → Prop) → Prop) (l1 : Int) (l2 : Int) (l3 : Int) (G : gS) (Q : Int → gS → Prop) : Prop :=
  PX13_parent l3 G (fun r16 G15 => inI r16 → ((r16 = -2 → PX13_cellOf_56 J l1 l2 l3 0 G15 Q) ∧ (¬ (r16 = -2) → PX13_parent l3 G15 (fun r20 G19 => inI r20 → PX13_fieldsOf r20 G19 (fun r23 G22 => inI r23 → PX13_cellOf_56 J l1 l2 l3 r23 G22 Q)))))
set_option maxRecDepth 20000 in
theorem TX13_cellOf_33 {j : Nat → rx_K} {J : Nat → List Int → gS → (Int → gS → Prop) → Prop} {l1 : Int} {l2 : Int} {l3 : Int} {l4 : Nat} {l5 : Nat} {G : gS} {Q : Int → gS → Prop} (hl1 : inI l1) (hl2 : inI l2) (hl3 : inI l3) (hl4 : l4 % 8 ≠ 1) (hl5 : l5 % 8 ≠ 1) (hj0 : ∀ (l1 : Int) (l2 : Int) (l3 : Int) (l4 : Int) (l5 : Int) (G : gS), (inI l1) → (inI l2) → (inI l3) → (inI l4) → (inI l5) → J 0 [l1, l2, l3, l4, l5] G Q → Tg W0 (j 0) [rf (16081), cI (l1), cI (l2), cI (l3), cI (l4), cI (l5)] [] G (fun r G => ∃ v, r = cI v ∧ inI v ∧ Q v G)) (h : PX13_cellOf_33 J l1 l2 l3 G Q) : Tg W0 (vX13_cellOf_33 j) [rf (16081), cI (l1), cI (l2), cI (l3), l4, l5] [] G (fun r G => ∃ v, r = cI v ∧ inI v ∧ Q v G) := by
  unfold PX13_cellOf_33 at h
  unfold vX13_cellOf_33
  refine g_ld (v := rf _) rfl (is_R _) ?_
  refine g_ld (v := cI _) rfl (is_I _) ?_
  refine g_callV (As := [_]) (ci := 13) oC13 (fun _ => rfl) ?_
  refine g_go1 (Nat.le_of_ble_eq_true rfl) (Tn_w (TX13_parent hl3 h) fun _ G15 ⟨r16, e, i17, h⟩ => ?_)
  subst e
  refine ⟨n7_I _, ?_⟩
  replace h := h i17
  refine g_const (v := cI (-2)) rfl ?_
  refine g_eq2 i17 ⟨by omega, by omega⟩ (fun b18 => ?_) (fun b18 => ?_)
  · replace h := h.1 b18
    unfold vX13_cellOf_43
    refine g_const (v := cI (0)) rfl ?_
    exact TX13_cellOf_56 hl1 hl2 hl3 hl4 hl5 ⟨by omega, by omega⟩ hj0 h
  · replace h := h.2 b18
    unfold vX13_cellOf_47
    refine g_ld (v := rf _) rfl (is_R _) ?_
    refine g_ld (v := rf _) rfl (is_R _) ?_
    refine g_ld (v := cI _) rfl (is_I _) ?_
    refine g_callV (As := [_]) (ci := 13) oC13 (fun _ => rfl) ?_
    refine g_go1 (by simp only [cs_c, cs_0, ct_I, ct_L, ct_R]; exact Nat.le_of_ble_eq_true rfl) (Tn_w (TX13_parent hl3 h) fun _ G19 ⟨r20, e, i21, h⟩ => ?_)
    subst e
    refine ⟨n7_I _, ?_⟩
    replace h := h i21
    refine g_callV (As := [_]) (ci := 13) oC13 (fun _ => rfl) ?_
    refine g_go1 (Nat.le_of_ble_eq_true rfl) (Tn_w (TX13_fieldsOf i21 h) fun _ G22 ⟨r23, e, i24, h⟩ => ?_)
    subst e
    refine ⟨n7_I _, ?_⟩
    replace h := h i24
    exact TX13_cellOf_56 hl1 hl2 hl3 hl4 hl5 i24 hj0 h
def PX13_cellOf_0 (J : Nat → List Int → gS → (Int → gS → Prop) → Prop) (a1 : Int) (a2 : Int) (G : gS) (Q : Int → gS → Prop) : Prop :=
  PX13_classOfMember a2 G (fun r2 G1 => inI r2 → ((0 : Int) ≤ a1 ∧ ((a1 : Int) < 202 ∧ (inI (G1 16200 a1) → ((r2 = G1 16200 a1 → PX13_cellOf_33 J a1 a2 r2 G1 Q) ∧ (¬ (r2 = G1 16200 a1) → ((0 : Int) ≤ a1 ∧ ((a1 : Int) < 202 ∧ (inI (G1 16200 a1) → PX13_isHeir (G1 16200 a1) r2 G1 (fun r12 G11 => (0 ≤ r12 ∧ r12 ≤ 1) → ((r12 = 0 → Q (-2) G11) ∧ (¬ (r12 = 0) → PX13_cellOf_33 J a1 a2 r2 G11 Q))))))))))))
set_option maxRecDepth 20000 in
theorem TX13_cellOf_0 {j : Nat → rx_K} {J : Nat → List Int → gS → (Int → gS → Prop) → Prop} {a1 : Int} {a2 : Int} {G : gS} {Q : Int → gS → Prop} (ha1 : inI a1) (ha2 : inI a2) (hj0 : ∀ (l1 : Int) (l2 : Int) (l3 : Int) (l4 : Int) (l5 : Int) (G : gS), (inI l1) → (inI l2) → (inI l3) → (inI l4) → (inI l5) → J 0 [l1, l2, l3, l4, l5] G Q → Tg W0 (j 0) [rf (16081), cI (l1), cI (l2), cI (l3), cI (l4), cI (l5)] [] G (fun r G => ∃ v, r = cI v ∧ inI v ∧ Q v G)) (h : PX13_cellOf_0 J a1 a2 G Q) : Tg W0 (vX13_cellOf_0 j) [rf (16081), cI (a1), cI (a2), 7, 7, 7] [] G (fun r G => ∃ v, r = cI v ∧ inI v ∧ Q v G) := by
  unfold PX13_cellOf_0 at h
  unfold vX13_cellOf_0
  refine g_ld (v := rf _) rfl (is_R _) ?_
  refine g_ld (v := cI _) rfl (is_I _) ?_
  refine g_callV (As := [_]) (ci := 13) oC13 (fun _ => rfl) ?_
  refine g_go1 (Nat.le_of_ble_eq_true rfl) (Tn_w (TX13_classOfMember ha2 h) fun _ G1 ⟨r2, e, i3, h⟩ => ?_)
  subst e
  refine ⟨n7_I _, ?_⟩
  replace h := h i3
  refine g_st (lv' := [_, _, _, _, _, _]) (is_I _) (Nat.le_of_ble_eq_true rfl) (Or.inr (n1_I _)) rfl ?_
  refine g_ld (v := cI _) rfl (is_I _) ?_
  refine g_ld (v := rf _) rfl (is_R _) ?_
  refine g_getF (v := 16200) oC13 (hC13_149) rfl (Nat.le_of_ble_eq_true rfl) (Nat.le_of_ble_eq_true rfl) ?_
  refine g_ld (v := cI _) rfl (is_I _) ?_
  obtain ⟨q4, q5, h⟩ := h
  refine g_aldI aC16200 q4 q5 rfl fun i6 => ?_
  replace h := h i6
  refine g_eq2 i3 i6 (fun b7 => ?_) (fun b7 => ?_)
  · replace h := h.1 b7
    exact TX13_cellOf_33 ha1 ha2 i3 (show 7 % 8 ≠ 1 by decide) (show 7 % 8 ≠ 1 by decide) hj0 h
  · replace h := h.2 b7
    unfold vX13_cellOf_16
    refine g_ld (v := rf _) rfl (is_R _) ?_
    refine g_ld (v := rf _) rfl (is_R _) ?_
    refine g_getF (v := 16200) oC13 (hC13_149) rfl (Nat.le_of_ble_eq_true rfl) (Nat.le_of_ble_eq_true rfl) ?_
    refine g_ld (v := cI _) rfl (is_I _) ?_
    obtain ⟨q8, q9, h⟩ := h
    refine g_aldI aC16200 q8 q9 rfl fun i10 => ?_
    replace h := h i10
    refine g_ld (v := cI _) rfl (is_I _) ?_
    refine g_callV (As := [_, _]) (ci := 13) oC13 (fun _ => rfl) ?_
    refine g_go1 (Nat.le_of_ble_eq_true rfl) (Tn_w (TX13_isHeir i10 i3 h) fun _ G11 ⟨r12, e, i13, h⟩ => ?_)
    subst e
    refine ⟨n7_I _, ?_⟩
    replace h := h i13
    refine g_eq1 ⟨by omega, by omega⟩ (fun b14 => ?_) (fun b14 => ?_)
    · replace h := h.1 b14
      unfold vX13_cellOf_30
      refine g_const (v := cI (-2)) rfl ?_
      exact g_ret1 (is_I _) ⟨_, rfl, ⟨by omega, by omega⟩, h⟩
    · replace h := h.2 b14
      exact TX13_cellOf_33 ha1 ha2 i3 (show 7 % 8 ≠ 1 by decide) (show 7 % 8 ≠ 1 by decide) hj0 h
def PX13_cellOf_J : Nat → Nat → List Int → gS → (Int → gS → Prop) → Prop
  | 0, _, _, _, _ => False
  | f + 1, h, L, G, Q => match h, L with
    | 0, [l1, l2, l3, l4, l5] => PX13_cellOf_61 (PX13_cellOf_J f) l1 l2 l3 l4 l5 G Q
    | _, _ => False
theorem TX13_cellOf_J {Q : Int → gS → Prop} : ∀ f N : Nat, f ≤ N → (∀ (l1 : Int) (l2 : Int) (l3 : Int) (l4 : Int) (l5 : Int) (G : gS), (inI l1) → (inI l2) → (inI l3) → (inI l4) → (inI l5) → (PX13_cellOf_J f) 0 [l1, l2, l3, l4, l5] G Q → Tg W0 (rx_J vhX13_cellOf N 0) [rf (16081), cI (l1), cI (l2), cI (l3), cI (l4), cI (l5)] [] G (fun r G => ∃ v, r = cI v ∧ inI v ∧ Q v G)) := by
  intro f
  induction f with
  | zero => exact fun N _ => fun _ _ _ _ _ _ _ _ _ _ _ h => h.elim
  | succ f ih =>
    intro N hN
    obtain ⟨M, rfl⟩ : ∃ M, N = M + 1 := ⟨N - 1, by omega⟩
    have ih := ih M (by omega)
    exact fun _ _ _ _ _ _ hl1 hl2 hl3 hl4 hl5 h => show Tg W0 (vX13_cellOf_61 (rx_J vhX13_cellOf M)) _ _ _ _ from TX13_cellOf_61 hl1 hl2 hl3 hl4 hl5 ih h
def PX13_cellOf (a1 : Int) (a2 : Int) (G : gS) (Q : Int → gS → Prop) : Prop := ∃ f : Nat, f ≤ 4000000000 ∧ PX13_cellOf_0 (PX13_cellOf_J f) a1 a2 G Q
theorem TX13_cellOf {a1 : Int} {a2 : Int} {G : gS} {Q : Int → gS → Prop} (ha1 : inI a1) (ha2 : inI a2) (h : PX13_cellOf a1 a2 G Q) : Tn W0 FX13_cellOf [rf (16081), cI (a1), cI (a2)] G (fun r G => ∃ v, r = cI v ∧ inI v ∧ Q v G) := by
  obtain ⟨f, hf, h⟩ := h
  have hJ := TX13_cellOf_J (Q := Q) f 4000000000 hf
  unfold FX13_cellOf
  refine g_ent (lv' := [rf (16081), cI (a1), cI (a2), 7, 7, 7]) (flR (flI (flI fl0))) (Nat.le_of_ble_eq_true rfl) rfl ?_
  exact TX13_cellOf_0 ha1 ha2 hJ h
def PX13_steps_0  (G : gS) (Q : Int → gS → Prop) : Prop :=
  (inI (G 16081 163) → ((G 16081 163 = 20000 → PX13_fail 14 G (fun r4 G3 => inI r4 → Q (0) G3)) ∧ (¬ (G 16081 163 = 20000) → (inI (G 16081 163) → (inI ((G 16081 163) + 1) ∧ (∀ G8 : gS, G8 = uG G 16081 163 ((G 16081 163) + 1) → Q (1) G8))))))
set_option maxRecDepth 20000 in
theorem TX13_steps_0  {G : gS} {Q : Int → gS → Prop}  (h : PX13_steps_0  G Q) : Tg W0 vX13_steps_0 [rf (16081)] [] G (fun r G => ∃ v, r = cI v ∧ (0 ≤ v ∧ v ≤ 1) ∧ Q v G) := by
  unfold PX13_steps_0 at h
  unfold vX13_steps_0
  refine g_ld (v := rf _) rfl (is_R _) ?_
  refine g_getI (kz := 163) oC13 rfl (Nat.le_of_ble_eq_true rfl) rfl fun i1 => ?_
  replace h := h i1
  refine g_const (v := cI (20000)) rfl ?_
  refine g_eq2 i1 ⟨by omega, by omega⟩ (fun b2 => ?_) (fun b2 => ?_)
  · replace h := h.1 b2
    unfold vX13_steps_10
    refine g_ld (v := rf _) rfl (is_R _) ?_
    refine g_const (v := cI (14)) rfl ?_
    refine g_callV (As := [_]) (ci := 13) oC13 (fun _ => rfl) ?_
    refine g_go1 (Nat.le_of_ble_eq_true rfl) (Tn_w (TX13_fail ⟨by omega, by omega⟩ h) fun _ G3 ⟨r4, e, i5, h⟩ => ?_)
    subst e
    refine ⟨n7_I _, ?_⟩
    replace h := h i5
    refine g_pop (ct_I _) ?_
    refine g_const (v := cI (0)) rfl ?_
    exact g_ret1 (is_Z (by omega)) ⟨_, rfl, (by omega), h⟩
  · replace h := h.2 b2
    unfold vX13_steps_19
    refine g_ld (v := rf _) rfl (is_R _) ?_
    refine g_dup (ct_R _) ?_
    refine g_getI (kz := 163) oC13 rfl (Nat.le_of_ble_eq_true rfl) rfl fun i6 => ?_
    replace h := h i6
    refine g_const (v := cI (1)) rfl ?_
    refine g_add ?_
    obtain ⟨q7, h⟩ := h
    refine g_putI (kz := 163) oC13 rfl (Nat.le_of_ble_eq_true rfl) rfl q7 (zfin_no (c := 16081) (j := 163) rfl) ?_
    replace h := h _ rfl
    refine g_const (v := cI (1)) rfl ?_
    exact g_ret1 (is_Z (by omega)) ⟨_, rfl, (by omega), h⟩
abbrev PX13_steps  (G : gS) (Q : Int → gS → Prop) : Prop := PX13_steps_0  G Q
theorem TX13_steps  {G : gS} {Q : Int → gS → Prop}  (h : PX13_steps  G Q) : Tn W0 FX13_steps [rf (16081)] G (fun r G => ∃ v, r = cI v ∧ (0 ≤ v ∧ v ≤ 1) ∧ Q v G) := by
  unfold FX13_steps
  refine g_ent (lv' := [rf (16081)]) (flR fl0) (Nat.le_of_ble_eq_true rfl) rfl ?_
  exact TX13_steps_0  h
def PX13_push_0 (a1 : Int) (G : gS) (Q : Int → gS → Prop) : Prop :=
  (inI (G 16081 161) → ((0 : Int) ≤ G 16081 161 ∧ ((G 16081 161 : Int) < 17280 ∧ (∀ G4 : gS, G4 = uG G 16204 (G 16081 161) (a1) → (inI (G4 16081 161) → ((0 : Int) ≤ G4 16081 161 ∧ ((G4 16081 161 : Int) < 17280 ∧ (∀ G8 : gS, G8 = uG G4 16205 (G4 16081 161) (0) → (inI (G8 16081 161) → ((0 : Int) ≤ G8 16081 161 ∧ ((G8 16081 161 : Int) < 17280 ∧ (∀ G12 : gS, G12 = uG G8 16207 (G8 16081 161) (-2) → (inI (G12 16081 161) → (inI ((G12 16081 161) + 1) ∧ (∀ G15 : gS, G15 = uG G12 16081 161 ((G12 16081 161) + 1) → Q 0 G15)))))))))))))))
set_option maxRecDepth 20000 in
theorem TX13_push_0 {a1 : Int} {G : gS} {Q : Int → gS → Prop} (ha1 : inI a1) (h : PX13_push_0 a1 G Q) : Tg W0 vX13_push_0 [rf (16081), cI (a1)] [] G (fun r G => r = 7 ∧ Q 0 G) := by
  unfold PX13_push_0 at h
  unfold vX13_push_0
  refine g_ld (v := rf _) rfl (is_R _) ?_
  refine g_getF (v := 16204) oC13 (hC13_156) rfl (Nat.le_of_ble_eq_true rfl) (Nat.le_of_ble_eq_true rfl) ?_
  refine g_ld (v := rf _) rfl (is_R _) ?_
  refine g_getI (kz := 161) oC13 rfl (Nat.le_of_ble_eq_true rfl) rfl fun i1 => ?_
  replace h := h i1
  refine g_ld (v := cI _) rfl (is_I _) ?_
  obtain ⟨q2, q3, h⟩ := h
  refine g_astI aC16204 q2 q3 ha1 (nfI aC16204) ?_
  replace h := h _ rfl
  refine g_ld (v := rf _) rfl (is_R _) ?_
  refine g_getF (v := 16205) oC13 (hC13_157) rfl (Nat.le_of_ble_eq_true rfl) (Nat.le_of_ble_eq_true rfl) ?_
  refine g_ld (v := rf _) rfl (is_R _) ?_
  refine g_getI (kz := 161) oC13 rfl (Nat.le_of_ble_eq_true rfl) rfl fun i5 => ?_
  replace h := h i5
  refine g_const (v := cI (0)) rfl ?_
  obtain ⟨q6, q7, h⟩ := h
  refine g_astI aC16205 q6 q7 ⟨by omega, by omega⟩ (nfI aC16205) ?_
  replace h := h _ rfl
  refine g_ld (v := rf _) rfl (is_R _) ?_
  refine g_getF (v := 16207) oC13 (hC13_159) rfl (Nat.le_of_ble_eq_true rfl) (Nat.le_of_ble_eq_true rfl) ?_
  refine g_ld (v := rf _) rfl (is_R _) ?_
  refine g_getI (kz := 161) oC13 rfl (Nat.le_of_ble_eq_true rfl) rfl fun i9 => ?_
  replace h := h i9
  refine g_const (v := cI (-2)) rfl ?_
  obtain ⟨q10, q11, h⟩ := h
  refine g_astI aC16207 q10 q11 ⟨by omega, by omega⟩ (nfI aC16207) ?_
  replace h := h _ rfl
  refine g_ld (v := rf _) rfl (is_R _) ?_
  refine g_dup (ct_R _) ?_
  refine g_getI (kz := 161) oC13 rfl (Nat.le_of_ble_eq_true rfl) rfl fun i13 => ?_
  replace h := h i13
  refine g_const (v := cI (1)) rfl ?_
  refine g_add ?_
  obtain ⟨q14, h⟩ := h
  refine g_putI (kz := 161) oC13 rfl (Nat.le_of_ble_eq_true rfl) rfl q14 (zfin_no (c := 16081) (j := 161) rfl) ?_
  replace h := h _ rfl
  unfold vX13_push_41
  exact g_ret0 ⟨rfl, h⟩
abbrev PX13_push (a1 : Int) (G : gS) (Q : Int → gS → Prop) : Prop := PX13_push_0 a1 G Q
theorem TX13_push {a1 : Int} {G : gS} {Q : Int → gS → Prop} (ha1 : inI a1) (h : PX13_push a1 G Q) : Tn W0 FX13_push [rf (16081), cI (a1)] G (fun r G => r = 7 ∧ Q 0 G) := by
  unfold FX13_push
  refine g_ent (lv' := [rf (16081), cI (a1)]) (flR (flI fl0)) (Nat.le_of_ble_eq_true rfl) rfl ?_
  exact TX13_push_0 ha1 h
end DE

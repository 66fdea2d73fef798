section DE
def PX13_theField_197 (J : Nat → List Int → gS → (Int → gS → Prop) → Prop) (l1 : Int) (l2 : Int) (l4 : Int) (l6 : Int) (l7 : Int) (G : gS) (Q : Int → gS → Prop) : Prop :=
  Q (l7) G
set_option maxRecDepth 20000 in
theorem TX13_theField_197 {j : Nat → rx_K} {J : Nat → List Int → gS → (Int → gS → Prop) → Prop} {l1 : Int} {l2 : Int} {l3 : Nat} {l4 : Int} {l5 : Nat} {l6 : Int} {l7 : Int} {l8 : Nat} {l9 : Nat} {l10 : Nat} {l11 : Nat} {G : gS} {Q : Int → gS → Prop} (hl1 : inI l1) (hl2 : inL l2) (hl3 : l3 % 8 ≠ 1) (hl4 : inL l4) (hl5 : l5 % 8 ≠ 1) (hl6 : inI l6) (hl7 : inI l7) (hl8 : l8 % 8 ≠ 1) (hl9 : l9 % 8 ≠ 1) (hl10 : l10 % 8 ≠ 1) (hl11 : l11 % 8 ≠ 1) (hj0 : ∀ (l1 : Int) (l2 : Int) (l3 : Nat) (l4 : Int) (l5 : Nat) (l6 : Int) (l7 : Int) (l8 : Nat) (l9 : Nat) (l10 : Nat) (l11 : Nat) (G : gS), (inI l1) → (inL l2) → (l3 % 8 ≠ 1) → (inL l4) → (l5 % 8 ≠ 1) → (inI l6) → (inI l7) → (l8 % 8 ≠ 1) → (l9 % 8 ≠ 1) → (l10 % 8 ≠ 1) → (l11 % 8 ≠ 1) → J 0 [l1, l2, l4, l6, l7] G Q → Tg W0 (j 0) [rf (16081), cI (l1), cL (l2), l3, cL (l4), l5, cI (l6), cI (l7), l8, l9, l10, l11] [] G (fun r G => ∃ v, r = cI v ∧ inI v ∧ Q v G)) (hj1 : ∀ (l1 : Int) (l2 : Int) (l3 : Nat) (l4 : Int) (l5 : Nat) (l6 : Int) (l7 : Int) (l8 : Int) (l9 : Int) (l10 : Int) (l11 : Nat) (G : gS), (inI l1) → (inL l2) → (l3 % 8 ≠ 1) → (inL l4) → (l5 % 8 ≠ 1) → (inI l6) → (inI l7) → (inI l8) → (inI l9) → (inI l10) → (l11 % 8 ≠ 1) → J 1 [l1, l2, l4, l6, l7, l8, l9, l10] G Q → Tg W0 (j 1) [rf (16081), cI (l1), cL (l2), l3, cL (l4), l5, cI (l6), cI (l7), cI (l8), cI (l9), cI (l10), l11] [] G (fun r G => ∃ v, r = cI v ∧ inI v ∧ Q v G)) (h : PX13_theField_197 J l1 l2 l4 l6 l7 G Q) : Tg W0 (vX13_theField_197 j) [rf (16081), cI (l1), cL (l2), l3, cL (l4), l5, cI (l6), cI (l7), l8, l9, l10, l11] [] G (fun r G => ∃ v, r = cI v ∧ inI v ∧ Q v G) := by
  unfold PX13_theField_197 at h
  unfold vX13_theField_197
  refine g_ld (v := cI _) rfl (is_I _) ?_
  exact g_ret1 (is_I _) ⟨_, rfl, hl7, h⟩
def PX13_theField_194 (J : Nat → List Int → gS → (Int → gS → Prop) → Prop) (l1 : Int) (l2 : Int) (l4 : Int) (l6 : Int) (l7 : Int) (l8 : Int) (G : gS) (Q : Int → gS → Prop) : Prop :=
  J 0 [l1, l2, l4, l6, l7] G Q
set_option maxRecDepth 20000 in
theorem TX13_theField_194 {j : Nat → rx_K} {J : Nat → List Int → gS → (Int → gS → Prop) → Prop} {l1 : Int} {l2 : Int} {l3 : Nat} {l4 : Int} {l5 : Nat} {l6 : Int} {l7 : Int} {l8 : Int} {l9 : Nat} {l10 : Nat} {l11 : Nat} {G : gS} {Q : Int → gS → Prop} (hl1 : inI l1) (hl2 : inL l2) (hl3 : l3 % 8 ≠ 1) (hl4 : inL l4) (hl5 : l5 % 8 ≠ 1) (hl6 : inI l6) (hl7 : inI l7) (hl8 : inI l8) (hl9 : l9 % 8 ≠ 1) (hl10 : l10 % 8 ≠ 1) (hl11 : l11 % 8 ≠ 1) (hj0 : ∀ (l1 : Int) (l2 : Int) (l3 : Nat) (l4 : Int) (l5 : Nat) (l6 : Int) (l7 : Int) (l8 : Nat) (l9 : Nat) (l10 : Nat) (l11 : Nat) (G : gS), (inI l1) → (inL l2) → (l3 % 8 ≠ 1) → (inL l4) → (l5 % 8 ≠ 1) → (inI l6) → (inI l7) → (l8 % 8 ≠ 1) → (l9 % 8 ≠ 1) → (l10 % 8 ≠ 1) → (l11 % 8 ≠ 1) → J 0 [l1, l2, l4, l6, l7] G Q → Tg W0 (j 0) [rf (16081), cI (l1), cL (l2), l3, cL (l4), l5, cI (l6), cI (l7), l8, l9, l10, l11] [] G (fun r G => ∃ v, r = cI v ∧ inI v ∧ Q v G)) (hj1 : ∀ (l1 : Int) (l2 : Int) (l3 : Nat) (l4 : Int) (l5 : Nat) (l6 : Int) (l7 : Int) (l8 : Int) (l9 : Int) (l10 : Int) (l11 : Nat) (G : gS), (inI l1) → (inL l2) → (l3 % 8 ≠ 1) → (inL l4) → (l5 % 8 ≠ 1) → (inI l6) → (inI l7) → (inI l8) → (inI l9) → (inI l10) → (l11 % 8 ≠ 1) → J 1 [l1, l2, l4, l6, l7, l8, l9, l10] G Q → Tg W0 (j 1) [rf (16081), cI (l1), cL (l2), l3, cL (l4), l5, cI (l6), cI (l7), cI (l8), cI (l9), cI (l10), l11] [] G (fun r G => ∃ v, r = cI v ∧ inI v ∧ Q v G)) (h : PX13_theField_194 J l1 l2 l4 l6 l7 l8 G Q) : Tg W0 (vX13_theField_194 j) [rf (16081), cI (l1), cL (l2), l3, cL (l4), l5, cI (l6), cI (l7), cI (l8), l9, l10, l11] [] G (fun r G => ∃ v, r = cI v ∧ inI v ∧ Q v G) := by
  unfold PX13_theField_194 at h
  unfold vX13_theField_194
  exact hj0 _ _ _ _ _ _ _ _ _ _ _ _ hl1 hl2 hl3 hl4 hl5 hl6 hl7 (n1_I _) hl9 hl10 hl11 h
def PX13_theField_188 (J : Nat → List Int → gS → (Int → gS → Prop) → Prop) (l1 : Int) (l2 : Int) (l4 : Int) (l6 : Int) (l7 : Int) (l8 : Int) (l9 : Int) (l10 : Int) (l11 : Int) (G : gS) (Q : Int → gS → Prop) : Prop :=
  (inI (l10 + (-1)) ∧ J 1 [l1, l2, l4, l6, l7, l8, l9, l10 + (-1)] G Q)
set_option maxRecDepth 20000 in
theorem TX13_theField_188 {j : Nat → rx_K} {J : Nat → List Int → gS → (Int → gS → Prop) → Prop} {l1 : Int} {l2 : Int} {l3 : Nat} {l4 : Int} {l5 : Nat} {l6 : Int} {l7 : Int} {l8 : Int} {l9 : Int} {l10 : Int} {l11 : Int} {G : gS} {Q : Int → gS → Prop} (hl1 : inI l1) (hl2 : inL l2) (hl3 : l3 % 8 ≠ 1) (hl4 : inL l4) (hl5 : l5 % 8 ≠ 1) (hl6 : inI l6) (hl7 : inI l7) (hl8 : inI l8) (hl9 : inI l9) (hl10 : inI l10) (hl11 : inI l11) (hj0 : ∀ (l1 : Int) (l2 : Int) (l3 : Nat) (l4 : Int) (l5 : Nat) (l6 : Int) (l7 : Int) (l8 : Nat) (l9 : Nat) (l10 : Nat) (l11 : Nat) (G : gS), (inI l1) → (inL l2) → (l3 % 8 ≠ 1) → (inL l4) → (l5 % 8 ≠ 1) → (inI l6) → (inI l7) → (l8 % 8 ≠ 1) → (l9 % 8 ≠ 1) → (l10 % 8 ≠ 1) → (l11 % 8 ≠ 1) → J 0 [l1, l2, l4, l6, l7] G Q → Tg W0 (j 0) [rf (16081), cI (l1), cL (l2), l3, cL (l4), l5, cI (l6), cI (l7), l8, l9, l10, l11] [] G (fun r G => ∃ v, r = cI v ∧ inI v ∧ Q v G)) (hj1 : ∀ (l1 : Int) (l2 : Int) (l3 : Nat) (l4 : Int) (l5 : Nat) (l6 : Int) (l7 : Int) (l8 : Int) (l9 : Int) (l10 : Int) (l11 : Nat) (G : gS), (inI l1) → (inL l2) → (l3 % 8 ≠ 1) → (inL l4) → (l5 % 8 ≠ 1) → (inI l6) → (inI l7) → (inI l8) → (inI l9) → (inI l10) → (l11 % 8 ≠ 1) → J 1 [l1, l2, l4, l6, l7, l8, l9, l10] G Q → Tg W0 (j 1) [rf (16081), cI (l1), cL (l2), l3, cL (l4), l5, cI (l6), cI (l7), cI (l8), cI (l9), cI (l10), l11] [] G (fun r G => ∃ v, r = cI v ∧ inI v ∧ Q v G)) (h : PX13_theField_188 J l1 l2 l4 l6 l7 l8 l9 l10 l11 G Q) : Tg W0 (vX13_theField_188 j) [rf (16081), cI (l1), cL (l2), l3, cL (l4), l5, cI (l6), cI (l7), cI (l8), cI (l9), cI (l10), cI (l11)] [] G (fun r G => ∃ v, r = cI v ∧ inI v ∧ Q v G) := by
  unfold PX13_theField_188 at h
  unfold vX13_theField_188
  refine g_inc (lv' := [_, _, _, _, _, _, _, _, _, _, _, _]) rfl (Nat.le_of_ble_eq_true rfl) (Or.inr (n1_I _)) rfl ?_
  obtain ⟨q57, h⟩ := h
  exact hj1 _ _ _ _ _ _ _ _ _ _ _ _ hl1 hl2 hl3 hl4 hl5 hl6 hl7 hl8 hl9 q57 (n1_I _) h
def PX13_theField_146 (J : Nat → List Int → gS → (Int → gS → Prop) → Prop) (l1 : Int) (l2 : Int) (l4 : Int) (l6 : Int) (l7 : Int) (l8 : Int) (l9 : Int) (l10 : Int) (G : gS) (Q : Int → gS → Prop) : Prop :=
  ((l10 < 0 → PX13_theField_194 J l1 l2 l4 l6 l7 l8 G Q) ∧ (¬ (l10 < 0) → ((0 : Int) ≤ (4 * l8) + l10 ∧ (((4 * l8) + l10 : Int) < 864 ∧ (inL (G 16104 ((4 * l8) + l10)) → PX13_find (G 16104 ((4 * l8) + l10)) G (fun r50 G49 => inI r50 → ((r50 = -2 → PX13_theField_188 J l1 l2 l4 l6 l7 l8 l9 l10 r50 G49 Q) ∧ (¬ (r50 = -2) → (inI (l6 + 1) ∧ ((0 : Int) ≤ l6 ∧ ((l6 : Int) < 4000 ∧ (∀ G56 : gS, G56 = uG G49 16166 l6 (r50) → PX13_theField_188 J l1 l2 l4 (l6 + 1) l7 l8 l9 l10 r50 G56 Q))))))))))))
set_option maxRecDepth 20000 in
theorem TX13_theField_146 {j : Nat → rx_K} {J : Nat → List Int → gS → (Int → gS → Prop) → Prop} {l1 : Int} {l2 : Int} {l3 : Nat} {l4 : Int} {l5 : Nat} {l6 : Int} {l7 : Int} {l8 : Int} {l9 : Int} {l10 : Int} {l11 : Nat} {G : gS} {Q : Int → gS → Prop} (hl1 : inI l1) (hl2 : inL l2) (hl3 : l3 % 8 ≠ 1) (hl4 : inL l4) (hl5 : l5 % 8 ≠ 1) (hl6 : inI l6) (hl7 : inI l7) (hl8 : inI l8) (hl9 : inI l9) (hl10 : inI l10) (hl11 : l11 % 8 ≠ 1) (hj0 : ∀ (l1 : Int) (l2 : Int) (l3 : Nat) (l4 : Int) (l5 : Nat) (l6 : Int) (l7 : Int) (l8 : Nat) (l9 : Nat) (l10 : Nat) (l11 : Nat) (G : gS), (inI l1) → (inL l2) → (l3 % 8 ≠ 1) → (inL l4) → (l5 % 8 ≠ 1) → (inI l6) → (inI l7) → (l8 % 8 ≠ 1) → (l9 % 8 ≠ 1) → (l10 % 8 ≠ 1) → (l11 % 8 ≠ 1) → J 0 [l1, l2, l4, l6, l7] G Q → Tg W0 (j 0) [rf (16081), cI (l1), cL (l2), l3, cL (l4), l5, cI (l6), cI (l7), l8, l9, l10, l11] [] G (fun r G => ∃ v, r = cI v ∧ inI v ∧ Q v G)) (hj1 : ∀ (l1 : Int) (l2 : Int) (l3 : Nat) (l4 : Int) (l5 : Nat) (l6 : Int) (l7 : Int) (l8 : Int) (l9 : Int) (l10 : Int) (l11 : Nat) (G : gS), (inI l1) → (inL l2) → (l3 % 8 ≠ 1) → (inL l4) → (l5 % 8 ≠ 1) → (inI l6) → (inI l7) → (inI l8) → (inI l9) → (inI l10) → (l11 % 8 ≠ 1) → J 1 [l1, l2, l4, l6, l7, l8, l9, l10] G Q → Tg W0 (j 1) [rf (16081), cI (l1), cL (l2), l3, cL (l4), l5, cI (l6), cI (l7), cI (l8), cI (l9), cI (l10), l11] [] G (fun r G => ∃ v, r = cI v ∧ inI v ∧ Q v G)) (h : PX13_theField_146 J l1 l2 l4 l6 l7 l8 l9 l10 G Q) : Tg W0 (vX13_theField_146 j) [rf (16081), cI (l1), cL (l2), l3, cL (l4), l5, cI (l6), cI (l7), cI (l8), cI (l9), cI (l10), l11] [] G (fun r G => ∃ v, r = cI v ∧ inI v ∧ Q v G) := by
  unfold PX13_theField_146 at h
  unfold vX13_theField_146
  refine g_ld (v := cI _) rfl (is_I _) ?_
  refine g_lt1 hl10 (fun b45 => ?_) (fun b45 => ?_)
  · replace h := h.1 b45
    exact TX13_theField_194 hl1 hl2 hl3 hl4 hl5 hl6 hl7 hl8 (n1_I _) (n1_I _) hl11 hj0 hj1 h
  · replace h := h.2 b45
    unfold vX13_theField_151
    refine g_ld (v := rf _) rfl (is_R _) ?_
    refine g_ld (v := rf _) rfl (is_R _) ?_
    refine g_getF (v := 16104) oC13 (hC13_30) rfl (Nat.le_of_ble_eq_true rfl) (Nat.le_of_ble_eq_true rfl) ?_
    refine g_const (v := cI (4)) rfl ?_
    refine g_ld (v := cI _) rfl (is_I _) ?_
    refine g_mul ?_
    refine g_ld (v := cI _) rfl (is_I _) ?_
    refine g_add ?_
    obtain ⟨q46, q47, h⟩ := h
    refine g_aldL aC16104 q46 q47 rfl fun i48 => ?_
    replace h := h i48
    refine g_callV (As := [_]) (ci := 13) oC13 (fun _ => rfl) ?_
    refine g_go1 (Nat.le_of_ble_eq_true rfl) (Tn_w (TX13_find i48 h) fun _ G49 ⟨r50, e, i51, h⟩ => ?_)
    subst e
    refine ⟨n7_I _, ?_⟩
    replace h := h i51
    refine g_st (lv' := [_, _, _, _, _, _, _, _, _, _, _, _]) (is_I _) (Nat.le_of_ble_eq_true rfl) (Or.inr (n1_I _)) rfl ?_
    refine g_ld (v := cI _) rfl (is_I _) ?_
    refine g_const (v := cI (-2)) rfl ?_
    refine g_eq2 i51 ⟨by omega, by omega⟩ (fun b52 => ?_) (fun b52 => ?_)
    · replace h := h.1 b52
      exact TX13_theField_188 hl1 hl2 hl3 hl4 hl5 hl6 hl7 hl8 hl9 hl10 i51 hj0 hj1 h
    · replace h := h.2 b52
      unfold vX13_theField_176
      refine g_ld (v := rf _) rfl (is_R _) ?_
      refine g_getF (v := 16166) oC13 (hC13_96) rfl (Nat.le_of_ble_eq_true rfl) (Nat.le_of_ble_eq_true rfl) ?_
      refine g_ld (v := cI _) rfl (is_I _) ?_
      refine g_inc (lv' := [_, _, _, _, _, _, _, _, _, _, _, _]) rfl (Nat.le_of_ble_eq_true rfl) (Or.inr hl5) rfl ?_
      obtain ⟨q53, h⟩ := h
      refine g_ld (v := cI _) rfl (is_I _) ?_
      obtain ⟨q54, q55, h⟩ := h
      refine g_astI aC16166 q54 q55 i51 (nfI aC16166) ?_
      replace h := h _ rfl
      exact TX13_theField_188 hl1 hl2 hl3 hl4 hl5 q53 hl7 hl8 hl9 hl10 i51 hj0 hj1 h
def PX13_theField_135 (J : Nat → List Int → gS → (Int → gS → Prop) → Prop) (l1 : Int) (l2 : Int) (l4 : Int) (l6 : Int) (l7 : Int) (l8 : Int) (l9 : Int) (G : gS) (Q : Int → gS → Prop) : Prop :=
  ((0 : Int) ≤ l8 ∧ ((l8 : Int) < 216 ∧ (inI (G 16106 l8) → (inI ((G 16106 l8) - 1) ∧ PX13_theField_146 J l1 l2 l4 l6 l7 l8 l9 ((G 16106 l8) - 1) G Q))))
set_option maxRecDepth 20000 in
theorem TX13_theField_135 {j : Nat → rx_K} {J : Nat → List Int → gS → (Int → gS → Prop) → Prop} {l1 : Int} {l2 : Int} {l3 : Nat} {l4 : Int} {l5 : Nat} {l6 : Int} {l7 : Int} {l8 : Int} {l9 : Int} {l10 : Nat} {l11 : Nat} {G : gS} {Q : Int → gS → Prop} (hl1 : inI l1) (hl2 : inL l2) (hl3 : l3 % 8 ≠ 1) (hl4 : inL l4) (hl5 : l5 % 8 ≠ 1) (hl6 : inI l6) (hl7 : inI l7) (hl8 : inI l8) (hl9 : inI l9) (hl10 : l10 % 8 ≠ 1) (hl11 : l11 % 8 ≠ 1) (hj0 : ∀ (l1 : Int) (l2 : Int) (l3 : Nat) (l4 : Int) (l5 : Nat) (l6 : Int) (l7 : Int) (l8 : Nat) (l9 : Nat) (l10 : Nat) (l11 : Nat) (G : gS), (inI l1) → (inL l2) → (l3 % 8 ≠ 1) → (inL l4) → (l5 % 8 ≠ 1) → (inI l6) → (inI l7) → (l8 % 8 ≠ 1) → (l9 % 8 ≠ 1) → (l10 % 8 ≠ 1) → (l11 % 8 ≠ 1) → J 0 [l1, l2, l4, l6, l7] G Q → Tg W0 (j 0) [rf (16081), cI (l1), cL (l2), l3, cL (l4), l5, cI (l6), cI (l7), l8, l9, l10, l11] [] G (fun r G => ∃ v, r = cI v ∧ inI v ∧ Q v G)) (hj1 : ∀ (l1 : Int) (l2 : Int) (l3 : Nat) (l4 : Int) (l5 : Nat) (l6 : Int) (l7 : Int) (l8 : Int) (l9 : Int) (l10 : Int) (l11 : Nat) (G : gS), (inI l1) → (inL l2) → (l3 % 8 ≠ 1) → (inL l4) → (l5 % 8 ≠ 1) → (inI l6) → (inI l7) → (inI l8) → (inI l9) → (inI l10) → (l11 % 8 ≠ 1) → J 1 [l1, l2, l4, l6, l7, l8, l9, l10] G Q → Tg W0 (j 1) [rf (16081), cI (l1), cL (l2), l3, cL (l4), l5, cI (l6), cI (l7), cI (l8), cI (l9), cI (l10), l11] [] G (fun r G => ∃ v, r = cI v ∧ inI v ∧ Q v G)) (h : PX13_theField_135 J l1 l2 l4 l6 l7 l8 l9 G Q) : Tg W0 (vX13_theField_135 j) [rf (16081), cI (l1), cL (l2), l3, cL (l4), l5, cI (l6), cI (l7), cI (l8), cI (l9), l10, l11] [] G (fun r G => ∃ v, r = cI v ∧ inI v ∧ Q v G) := by
  unfold PX13_theField_135 at h
  unfold vX13_theField_135
  refine g_ld (v := rf _) rfl (is_R _) ?_
  refine g_getF (v := 16106) oC13 (hC13_32) rfl (Nat.le_of_ble_eq_true rfl) (Nat.le_of_ble_eq_true rfl) ?_
  refine g_ld (v := cI _) rfl (is_I _) ?_
  obtain ⟨q41, q42, h⟩ := h
  refine g_aldI aC16106 q41 q42 rfl fun i43 => ?_
  replace h := h i43
  refine g_const (v := cI (1)) rfl ?_
  refine g_sub ?_
  refine g_st (lv' := [_, _, _, _, _, _, _, _, _, _, _, _]) (is_I _) (Nat.le_of_ble_eq_true rfl) (Or.inr (n1_I _)) rfl ?_
  obtain ⟨q44, h⟩ := h
  exact TX13_theField_146 hl1 hl2 hl3 hl4 hl5 hl6 hl7 hl8 hl9 q44 hl11 hj0 hj1 h
def PX13_theField_27 (J : Nat → List Int → gS → (Int → gS → Prop) → Prop) (l1 : Int) (l2 : Int) (l4 : Int) (l6 : Int) (l7 : Int) (G : gS) (Q : Int → gS → Prop) : Prop :=
  ((0 < l6 → ((l7 = -2 → (inI (l6 + (-1)) ∧ ((0 : Int) ≤ l6 + (-1) ∧ ((l6 + (-1) : Int) < 4000 ∧ (inI (G 16166 (l6 + (-1))) → ((0 : Int) ≤ G 16166 (l6 + (-1)) ∧ ((G 16166 (l6 + (-1)) : Int) < 216 ∧ (inI (G 16165 (G 16166 (l6 + (-1)))) → (inI (G 16081 95) → ((G 16165 (G 16166 (l6 + (-1))) = G 16081 95 → PX13_theField_194 J l1 l2 l4 (l6 + (-1)) l7 (G 16166 (l6 + (-1))) G Q) ∧ (¬ (G 16165 (G 16166 (l6 + (-1))) = G 16081 95) → (inI (G 16081 95) → ((0 : Int) ≤ G 16166 (l6 + (-1)) ∧ ((G 16166 (l6 + (-1)) : Int) < 216 ∧ (∀ G22 : gS, G22 = uG G 16165 (G 16166 (l6 + (-1))) (G 16081 95) → (inI (G22 16081 98) → ((0 : Int) ≤ G22 16081 98 ∧ ((G22 16081 98 : Int) < 216 ∧ (∀ G26 : gS, G26 = uG G22 16167 (G22 16081 98) (G 16166 (l6 + (-1))) → (inI (G26 16081 98) → (inI ((G26 16081 98) + 1) ∧ (∀ G29 : gS, G29 = uG G26 16081 98 ((G26 16081 98) + 1) → PX13_ownField (G 16166 (l6 + (-1))) l2 l4 G29 (fun r31 G30 => inI r31 → PX13_parent (G 16166 (l6 + (-1))) G30 (fun r34 G33 => inI r34 → ((r34 = -2 → PX13_theField_135 J l1 l2 l4 (l6 + (-1)) r31 (G 16166 (l6 + (-1))) r34 G33 Q) ∧ (¬ (r34 = -2) → (inI ((l6 + (-1)) + 1) ∧ ((0 : Int) ≤ l6 + (-1) ∧ ((l6 + (-1) : Int) < 4000 ∧ (∀ G40 : gS, G40 = uG G33 16166 (l6 + (-1)) (r34) → PX13_theField_135 J l1 l2 l4 ((l6 + (-1)) + 1) r31 (G 16166 (l6 + (-1))) r34 G40 Q)))))))))))))))))))))))))))))) ∧ (¬ (l7 = -2) → PX13_theField_197 J l1 l2 l4 l6 l7 G Q))) ∧ (¬ (0 < l6) → PX13_theField_197 J l1 l2 l4 l6 l7 G Q))
set_option maxRecDepth 20000 in
theorem TX13_theField_27 {j : Nat → rx_K} {J : Nat → List Int → gS → (Int → gS → Prop) → Prop} {l1 : Int} {l2 : Int} {l3 : Nat} {l4 : Int} {l5 : Nat} {l6 : Int} {l7 : Int} {l8 : Nat} {l9 : Nat} {l10 : Nat} {l11 : Nat} {G : gS} {Q : Int → gS → Prop} (hl1 : inI l1) (hl2 : inL l2) (hl3 : l3 % 8 ≠ 1) (hl4 : inL l4) (hl5 : l5 % 8 ≠ 1) (hl6 : inI l6) (hl7 : inI l7) (hl8 : l8 % 8 ≠ 1) (hl9 : l9 % 8 ≠ 1) (hl10 : l10 % 8 ≠ 1) (hl11 : l11 % 8 ≠ 1) (hj0 : ∀ (l1 : Int) (l2 : Int) (l3 : Nat) (l4 : Int) (l5 : Nat) (l6 : Int) (l7 : Int) (l8 : Nat) (l9 : Nat) (l10 : Nat) (l11 : Nat) (G : gS), (inI l1) → (inL l2) → (l3 % 8 ≠ 1) → (inL l4) → (l5 % 8 ≠ 1) → (inI l6) → (inI l7) → (l8 % 8 ≠ 1) → (l9 % 8 ≠ 1) → (l10 % 8 ≠ 1) → (l11 % 8 ≠ 1) → J 0 [l1, l2, l4, l6, l7] G Q → Tg W0 (j 0) [rf (16081), cI (l1), cL (l2), l3, cL (l4), l5, cI (l6), cI (l7), l8, l9, l10, l11] [] G (fun r G => ∃ v, r = cI v ∧ inI v ∧ Q v G)) (hj1 : ∀ (l1 : Int) (l2 : Int) (l3 : Nat) (l4 : Int) (l5 : Nat) (l6 : Int) (l7 : Int) (l8 : Int) (l9 : Int) (l10 : Int) (l11 : Nat) (G : gS), (inI l1) → (inL l2) → (l3 % 8 ≠ 1) → (inL l4) → (l5 % 8 ≠ 1) → (inI l6) → (inI l7) → (inI l8) → (inI l9) → (inI l10) → (l11 % 8 ≠ 1) → J 1 [l1, l2, l4, l6, l7, l8, l9, l10] G Q → Tg W0 (j 1) [rf (16081), cI (l1), cL (l2), l3, cL (l4), l5, cI (l6), cI (l7), cI (l8), cI (l9), cI (l10), l11] [] G (fun r G => ∃ v, r = cI v ∧ inI v ∧ Q v G)) (h : PX13_theField_27 J l1 l2 l4 l6 l7 G Q) : Tg W0 (vX13_theField_27 j) [rf (16081), cI (l1), cL (l2), l3, cL (l4), l5, cI (l6), cI (l7), l8, l9, l10, l11] [] G (fun r G => ∃ v, r = cI v ∧ inI v ∧ Q v G) := by
  unfold PX13_theField_27 at h
  unfold vX13_theField_27
  refine g_ld (v := cI _) rfl (is_I _) ?_
  refine g_gt1 hl6 (fun b8 => ?_) (fun b8 => ?_)
  · replace h := h.1 b8
    unfold vX13_theField_32
    refine g_ld (v := cI _) rfl (is_I _) ?_
    refine g_const (v := cI (-2)) rfl ?_
    refine g_eq2 hl7 ⟨by omega, by omega⟩ (fun b9 => ?_) (fun b9 => ?_)
    · replace h := h.1 b9
      unfold vX13_theField_39
      refine g_inc (lv' := [_, _, _, _, _, _, _, _, _, _, _, _]) rfl (Nat.le_of_ble_eq_true rfl) (Or.inr hl5) rfl ?_
      obtain ⟨q10, h⟩ := h
      refine g_ld (v := rf _) rfl (is_R _) ?_
      refine g_getF (v := 16166) oC13 (hC13_96) rfl (Nat.le_of_ble_eq_true rfl) (Nat.le_of_ble_eq_true rfl) ?_
      refine g_ld (v := cI _) rfl (is_I _) ?_
      obtain ⟨q11, q12, h⟩ := h
      refine g_aldI aC16166 q11 q12 rfl fun i13 => ?_
      replace h := h i13
      refine g_st (lv' := [_, _, _, _, _, _, _, _, _, _, _, _]) (is_I _) (Nat.le_of_ble_eq_true rfl) (Or.inr (n1_I _)) rfl ?_
      refine g_ld (v := rf _) rfl (is_R _) ?_
      refine g_getF (v := 16165) oC13 (hC13_94) rfl (Nat.le_of_ble_eq_true rfl) (Nat.le_of_ble_eq_true rfl) ?_
      refine g_ld (v := cI _) rfl (is_I _) ?_
      obtain ⟨q14, q15, h⟩ := h
      refine g_aldI aC16165 q14 q15 rfl fun i16 => ?_
      replace h := h i16
      refine g_ld (v := rf _) rfl (is_R _) ?_
      refine g_getI (kz := 95) oC13 rfl (Nat.le_of_ble_eq_true rfl) rfl fun i17 => ?_
      replace h := h i17
      refine g_eq2 i16 i17 (fun b18 => ?_) (fun b18 => ?_)
      · replace h := h.1 b18
        exact TX13_theField_194 hl1 hl2 hl3 hl4 hl5 q10 hl7 i13 hl9 hl10 hl11 hj0 hj1 h
      · replace h := h.2 b18
        unfold vX13_theField_65
        refine g_ld (v := rf _) rfl (is_R _) ?_
        refine g_getF (v := 16165) oC13 (hC13_94) rfl (Nat.le_of_ble_eq_true rfl) (Nat.le_of_ble_eq_true rfl) ?_
        refine g_ld (v := cI _) rfl (is_I _) ?_
        refine g_ld (v := rf _) rfl (is_R _) ?_
        refine g_getI (kz := 95) oC13 rfl (Nat.le_of_ble_eq_true rfl) rfl fun i19 => ?_
        replace h := h i19
        obtain ⟨q20, q21, h⟩ := h
        refine g_astI aC16165 q20 q21 i19 (nfI aC16165) ?_
        replace h := h _ rfl
        refine g_ld (v := rf _) rfl (is_R _) ?_
        refine g_getF (v := 16167) oC13 (hC13_97) rfl (Nat.le_of_ble_eq_true rfl) (Nat.le_of_ble_eq_true rfl) ?_
        refine g_ld (v := rf _) rfl (is_R _) ?_
        refine g_getI (kz := 98) oC13 rfl (Nat.le_of_ble_eq_true rfl) rfl fun i23 => ?_
        replace h := h i23
        refine g_ld (v := cI _) rfl (is_I _) ?_
        obtain ⟨q24, q25, h⟩ := h
        refine g_astI aC16167 q24 q25 i13 (nfI aC16167) ?_
        replace h := h _ rfl
        refine g_ld (v := rf _) rfl (is_R _) ?_
        refine g_dup (ct_R _) ?_
        refine g_getI (kz := 98) oC13 rfl (Nat.le_of_ble_eq_true rfl) rfl fun i27 => ?_
        replace h := h i27
        refine g_const (v := cI (1)) rfl ?_
        refine g_add ?_
        obtain ⟨q28, h⟩ := h
        refine g_putI (kz := 98) oC13 rfl (Nat.le_of_ble_eq_true rfl) rfl q28 (zfin_no (c := 16081) (j := 98) rfl) ?_
        replace h := h _ rfl
        refine g_ld (v := rf _) rfl (is_R _) ?_
        refine g_ld (v := cI _) rfl (is_I _) ?_
        refine g_ld (v := cL _) rfl (is_L _) ?_
        refine g_ld (v := cL _) rfl (is_L _) ?_
        refine g_callV (As := [_, _, _]) (ci := 13) oC13 (fun _ => rfl) ?_
        refine g_go1 (Nat.le_of_ble_eq_true rfl) (Tn_w (TX13_ownField i13 hl2 hl4 h) fun _ G30 ⟨r31, e, i32, h⟩ => ?_)
        subst e
        refine ⟨n7_I _, ?_⟩
        replace h := h i32
        refine g_st (lv' := [_, _, _, _, _, _, _, _, _, _, _, _]) (is_I _) (Nat.le_of_ble_eq_true rfl) (Or.inr (n1_I _)) rfl ?_
        unfold vX13_theField_108
        refine g_ld (v := rf _) rfl (is_R _) ?_
        refine g_ld (v := cI _) rfl (is_I _) ?_
        refine g_callV (As := [_]) (ci := 13) oC13 (fun _ => rfl) ?_
        refine g_go1 (Nat.le_of_ble_eq_true rfl) (Tn_w (TX13_parent i13 h) fun _ G33 ⟨r34, e, i35, h⟩ => ?_)
        subst e
        refine ⟨n7_I _, ?_⟩
        replace h := h i35
        refine g_st (lv' := [_, _, _, _, _, _, _, _, _, _, _, _]) (is_I _) (Nat.le_of_ble_eq_true rfl) (Or.inr (n1_I _)) rfl ?_
        refine g_ld (v := cI _) rfl (is_I _) ?_
        refine g_const (v := cI (-2)) rfl ?_
        refine g_eq2 i35 ⟨by omega, by omega⟩ (fun b36 => ?_) (fun b36 => ?_)
        · replace h := h.1 b36
          exact TX13_theField_135 hl1 hl2 hl3 hl4 hl5 q10 i32 i13 i35 hl10 hl11 hj0 hj1 h
        · replace h := h.2 b36
          unfold vX13_theField_123
          refine g_ld (v := rf _) rfl (is_R _) ?_
          refine g_getF (v := 16166) oC13 (hC13_96) rfl (Nat.le_of_ble_eq_true rfl) (Nat.le_of_ble_eq_true rfl) ?_
          refine g_ld (v := cI _) rfl (is_I _) ?_
          refine g_inc (lv' := [_, _, _, _, _, _, _, _, _, _, _, _]) rfl (Nat.le_of_ble_eq_true rfl) (Or.inr hl5) rfl ?_
          obtain ⟨q37, h⟩ := h
          refine g_ld (v := cI _) rfl (is_I _) ?_
          obtain ⟨q38, q39, h⟩ := h
          refine g_astI aC16166 q38 q39 i35 (nfI aC16166) ?_
          replace h := h _ rfl
          exact TX13_theField_135 hl1 hl2 hl3 hl4 hl5 q37 i32 i13 i35 hl10 hl11 hj0 hj1 h
    · replace h := h.2 b9
      exact TX13_theField_197 hl1 hl2 hl3 hl4 hl5 hl6 hl7 hl8 hl9 hl10 hl11 hj0 hj1 h
  · replace h := h.2 b8
    exact TX13_theField_197 hl1 hl2 hl3 hl4 hl5 hl6 hl7 hl8 hl9 hl10 hl11 hj0 hj1 h
def PX13_theField_0 (J : Nat → List Int → gS → (Int → gS → Prop) → Prop) (a1 : Int) (a2 : Int) (a4 : Int) (G : gS) (Q : Int → gS → Prop) : Prop :=
  PX13_newStamp G (fun _ G1 => (∀ G3 : gS, G3 = uG G1 16081 98 (0) → (inI (0 + 1) ∧ ((0 : Int) ≤ 0 ∧ ((0 : Int) < 4000 ∧ (∀ G7 : gS, G7 = uG G3 16166 0 (a1) → PX13_theField_27 J a1 a2 a4 (0 + 1) (-2) G7 Q))))))
set_option maxRecDepth 20000 in
theorem TX13_theField_0 {j : Nat → rx_K} {J : Nat → List Int → gS → (Int → gS → Prop) → Prop} {a1 : Int} {a2 : Int} {a4 : Int} {G : gS} {Q : Int → gS → Prop} (ha1 : inI a1) (ha2 : inL a2) (ha4 : inL a4) (hj0 : ∀ (l1 : Int) (l2 : Int) (l3 : Nat) (l4 : Int) (l5 : Nat) (l6 : Int) (l7 : Int) (l8 : Nat) (l9 : Nat) (l10 : Nat) (l11 : Nat) (G : gS), (inI l1) → (inL l2) → (l3 % 8 ≠ 1) → (inL l4) → (l5 % 8 ≠ 1) → (inI l6) → (inI l7) → (l8 % 8 ≠ 1) → (l9 % 8 ≠ 1) → (l10 % 8 ≠ 1) → (l11 % 8 ≠ 1) → J 0 [l1, l2, l4, l6, l7] G Q → Tg W0 (j 0) [rf (16081), cI (l1), cL (l2), l3, cL (l4), l5, cI (l6), cI (l7), l8, l9, l10, l11] [] G (fun r G => ∃ v, r = cI v ∧ inI v ∧ Q v G)) (hj1 : ∀ (l1 : Int) (l2 : Int) (l3 : Nat) (l4 : Int) (l5 : Nat) (l6 : Int) (l7 : Int) (l8 : Int) (l9 : Int) (l10 : Int) (l11 : Nat) (G : gS), (inI l1) → (inL l2) → (l3 % 8 ≠ 1) → (inL l4) → (l5 % 8 ≠ 1) → (inI l6) → (inI l7) → (inI l8) → (inI l9) → (inI l10) → (l11 % 8 ≠ 1) → J 1 [l1, l2, l4, l6, l7, l8, l9, l10] G Q → Tg W0 (j 1) [rf (16081), cI (l1), cL (l2), l3, cL (l4), l5, cI (l6), cI (l7), cI (l8), cI (l9), cI (l10), l11] [] G (fun r G => ∃ v, r = cI v ∧ inI v ∧ Q v G)) (h : PX13_theField_0 J a1 a2 a4 G Q) : Tg W0 (vX13_theField_0 j) [rf (16081), cI (a1), cL (a2), 7, cL (a4), 7, 7, 7, 7, 7, 7, 7] [] G (fun r G => ∃ v, r = cI v ∧ inI v ∧ Q v G) := by
  unfold PX13_theField_0 at h
  unfold vX13_theField_0
  refine g_ld (v := rf _) rfl (is_R _) ?_
  refine g_callV (As := []) (ci := 13) oC13 (fun _ => rfl) ?_
  refine g_go0 (Nat.le_of_ble_eq_true rfl) (Tn_w (TX13_newStamp  h) fun _ G1 ⟨e, h⟩ => ⟨e, ?_⟩)
  refine g_ld (v := rf _) rfl (is_R _) ?_
  refine g_const (v := cI (0)) rfl ?_
  refine g_putI (kz := 98) oC13 rfl (Nat.le_of_ble_eq_true rfl) rfl ⟨by omega, by omega⟩ (zfin_no (c := 16081) (j := 98) rfl) ?_
  replace h := h _ rfl
  refine g_const (v := cI (0)) rfl ?_
  refine g_st (lv' := [_, _, _, _, _, _, _, _, _, _, _, _]) (is_I _) (Nat.le_of_ble_eq_true rfl) (Or.inr (show 7 % 8 ≠ 1 by decide)) rfl ?_
  refine g_ld (v := rf _) rfl (is_R _) ?_
  refine g_getF (v := 16166) oC13 (hC13_96) rfl (Nat.le_of_ble_eq_true rfl) (Nat.le_of_ble_eq_true rfl) ?_
  refine g_ld (v := cI _) rfl (is_I _) ?_
  refine g_inc (lv' := [_, _, _, _, _, _, _, _, _, _, _, _]) rfl (Nat.le_of_ble_eq_true rfl) (Or.inr (show 7 % 8 ≠ 1 by decide)) rfl ?_
  obtain ⟨q4, h⟩ := h
  refine g_ld (v := cI _) rfl (is_I _) ?_
  obtain ⟨q5, q6, h⟩ := h
  refine g_astI aC16166 q5 q6 ha1 (nfI aC16166) ?_
  replace h := h _ rfl
  refine g_const (v := cI (-2)) rfl ?_
  refine g_st (lv' := [_, _, _, _, _, _, _, _, _, _, _, _]) (is_I _) (Nat.le_of_ble_eq_true rfl) (Or.inr (n1_I _)) rfl ?_
  exact TX13_theField_27 ha1 ha2 (show 7 % 8 ≠ 1 by decide) ha4 (show 7 % 8 ≠ 1 by decide) q4 ⟨by omega, by omega⟩ (show 7 % 8 ≠ 1 by decide) (show 7 % 8 ≠ 1 by decide) (show 7 % 8 ≠ 1 by decide) (show 7 % 8 ≠ 1 by decide) hj0 hj1 h
def PX13_theField_J : Nat → Nat → List Int → gS → (Int → gS → Prop) → Prop
  | 0, _, _, _, _ => False
  | f + 1, h, L, G, Q => match h, L with
    | 0, [l1, l2, l4, l6, l7] => PX13_theField_27 (PX13_theField_J f) l1 l2 l4 l6 l7 G Q
    | 1, [l1, l2, l4, l6, l7, l8, l9, l10] => PX13_theField_146 (PX13_theField_J f) l1 l2 l4 l6 l7 l8 l9 l10 G Q
    | _, _ => False
theorem TX13_theField_J {Q : Int → gS → Prop} : ∀ f N : Nat, f ≤ N → (∀ (l1 : Int) (l2 : Int) (l3 : Nat) (l4 : Int) (l5 : Nat) (l6 : Int) (l7 : Int) (l8 : Nat) (l9 : Nat) (l10 : Nat) (l11 : Nat) (G : gS), (inI l1) → (inL l2) → (l3 % 8 ≠ 1) → (inL l4) → (l5 % 8 ≠ 1) → (inI l6) → (inI l7) → (l8 % 8 ≠ 1) → (l9 % 8 ≠ 1) → (l10 % 8 ≠ 1) → (l11 % 8 ≠ 1) → (PX13_theField_J f) 0 [l1, l2, l4, l6, l7] G Q → Tg W0 (rx_J vhX13_theField N 0) [rf (16081), cI (l1), cL (l2), l3, cL (l4), l5, cI (l6), cI (l7), l8, l9, l10, l11] [] G (fun r G => ∃ v, r = cI v ∧ inI v ∧ Q v G)) ∧ (∀ (l1 : Int) (l2 : Int) (l3 : Nat) (l4 : Int) (l5 : Nat) (l6 : Int) (l7 : Int) (l8 : Int) (l9 : Int) (l10 : Int) (l11 : Nat) (G : gS), (inI l1) → (inL l2) → (l3 % 8 ≠ 1) → (inL l4) → (l5 % 8 ≠ 1) → (inI l6) → (inI l7) → (inI l8) → (inI l9) → (inI l10) → (l11 % 8 ≠ 1) → (PX13_theField_J f) 1 [l1, l2, l4, l6, l7, l8, l9, l10] G Q → Tg W0 (rx_J vhX13_theField N 1) [rf (16081), cI (l1), cL (l2), l3, cL (l4), l5, cI (l6), cI (l7), cI (l8), cI (l9), cI (l10), l11] [] G (fun r G => ∃ v, r = cI v ∧ inI v ∧ Q v G)) := by
  intro f
  induction f with
  | zero => exact fun N _ => ⟨fun _ _ _ _ _ _ _ _ _ _ _ _ _ _ _ _ _ _ _ _ _ _ _ h => h.elim, fun _ _ _ _ _ _ _ _ _ _ _ _ _ _ _ _ _ _ _ _ _ _ _ h => h.elim⟩
  | succ f ih =>
    intro N hN
    obtain ⟨M, rfl⟩ : ∃ M, N = M + 1 := ⟨N - 1, by omega⟩
    have ih := ih M (by omega)
    exact ⟨fun _ _ _ _ _ _ _ _ _ _ _ _ hl1 hl2 hl3 hl4 hl5 hl6 hl7 hl8 hl9 hl10 hl11 h => show Tg W0 (vX13_theField_27 (rx_J vhX13_theField M)) _ _ _ _ from TX13_theField_27 hl1 hl2 hl3 hl4 hl5 hl6 hl7 hl8 hl9 hl10 hl11 ih.1 ih.2 h, fun _ _ _ _ _ _ _ _ _ _ _ _ hl1 hl2 hl3 hl4 hl5 hl6 hl7 hl8 hl9 hl10 hl11 h => show Tg W0 (vX13_theField_146 (rx_J vhX13_theField M)) _ _ _ _ from TX13_theField_146 hl1 hl2 hl3 hl4 hl5 hl6 hl7 hl8 hl9 hl10 hl11 ih.1 ih.2 h⟩
def PX13_theField (a1 : Int) (a2 : Int) (a4 : Int) (G : gS) (Q : Int → gS → Prop) : Prop := ∃ f : Nat, f ≤ 4000000000 ∧ PX13_theField_0 (PX13_theField_J f) a1 a2 a4 G Q
theorem TX13_theField {a1 : Int} {a2 : Int} {a4 : Int} {G : gS} {Q : Int → gS → Prop} (ha1 : inI a1) (ha2 : inL a2) (ha4 : inL a4) (h : PX13_theField a1 a2 a4 G Q) : Tn W0 FX13_theField [rf (16081), cI (a1), cL (a2), cL (a4)] G (fun r G => ∃ v, r = cI v ∧ inI v ∧ Q v G) := by
  obtain ⟨f, hf, h⟩ := h
  have hJ := TX13_theField_J (Q := Q) f 4000000000 hf
  unfold FX13_theField
  refine g_ent (lv' := [rf (16081), cI (a1), cL (a2), 7, cL (a4), 7, 7, 7, 7, 7, 7, 7]) (flR (flI (flL (flL fl0)))) (Nat.le_of_ble_eq_true rfl) rfl ?_
  exact TX13_theField_0 ha1 ha2 ha4 hJ.1 hJ.2 h
def PX13_sameParams_77 (J : Nat → List Int → gS → (Int → gS → Prop) → Prop) (l1 : Int) (l2 : Int) (l3 : Int) (l4 : Int) (G : gS) (Q : Int → gS → Prop) : Prop :=
  ((0 ≤ l3 ∧ l3 ≤ 1) ∧ Q (l3) G)
set_option maxRecDepth 20000 in
theorem TX13_sameParams_77 {j : Nat → rx_K} {J : Nat → List Int → gS → (Int → gS → Prop) → Prop} {l1 : Int} {l2 : Int} {l3 : Int} {l4 : Int} {G : gS} {Q : Int → gS → Prop} (hl1 : inI l1) (hl2 : inI l2) (hl3 : inI l3) (hl4 : inI l4) (hj0 : ∀ (l1 : Int) (l2 : Int) (l3 : Int) (l4 : Int) (G : gS), (inI l1) → (inI l2) → (inI l3) → (inI l4) → J 0 [l1, l2, l3, l4] G Q → Tg W0 (j 0) [rf (16081), cI (l1), cI (l2), cI (l3), cI (l4)] [] G (fun r G => ∃ v, r = cI v ∧ (0 ≤ v ∧ v ≤ 1) ∧ Q v G)) (h : PX13_sameParams_77 J l1 l2 l3 l4 G Q) : Tg W0 (vX13_sameParams_77 j) [rf (16081), cI (l1), cI (l2), cI (l3), cI (l4)] [] G (fun r G => ∃ v, r = cI v ∧ (0 ≤ v ∧ v ≤ 1) ∧ Q v G) := by
  unfold PX13_sameParams_77 at h
  unfold vX13_sameParams_77
  refine g_ld (v := cI _) rfl (is_I _) ?_
  obtain ⟨q20, h⟩ := h
  exact g_ret1 (is_Z q20) ⟨_, rfl, q20, h⟩
def PX13_sameParams_70 (J : Nat → List Int → gS → (Int → gS → Prop) → Prop) (l1 : Int) (l2 : Int) (l3 : Int) (l4 : Int) (s0 : Int) (G : gS) (Q : Int → gS → Prop) : Prop :=
  (inI (l4 + 1) ∧ J 0 [l1, l2, s0, l4 + 1] G Q)
set_option maxRecDepth 20000 in
theorem TX13_sameParams_70 {j : Nat → rx_K} {J : Nat → List Int → gS → (Int → gS → Prop) → Prop} {l1 : Int} {l2 : Int} {l3 : Int} {l4 : Int} {s0 : Int} {G : gS} {Q : Int → gS → Prop} (hl1 : inI l1) (hl2 : inI l2) (hl3 : inI l3) (hl4 : inI l4) (hs0 : inI s0) (hj0 : ∀ (l1 : Int) (l2 : Int) (l3 : Int) (l4 : Int) (G : gS), (inI l1) → (inI l2) → (inI l3) → (inI l4) → J 0 [l1, l2, l3, l4] G Q → Tg W0 (j 0) [rf (16081), cI (l1), cI (l2), cI (l3), cI (l4)] [] G (fun r G => ∃ v, r = cI v ∧ (0 ≤ v ∧ v ≤ 1) ∧ Q v G)) (h : PX13_sameParams_70 J l1 l2 l3 l4 s0 G Q) : Tg W0 (vX13_sameParams_70 j) [rf (16081), cI (l1), cI (l2), cI (l3), cI (l4)] [cI (s0)] G (fun r G => ∃ v, r = cI v ∧ (0 ≤ v ∧ v ≤ 1) ∧ Q v G) := by
  unfold PX13_sameParams_70 at h
  unfold vX13_sameParams_70
  refine g_st (lv' := [_, _, _, _, _]) (is_I _) (Nat.le_of_ble_eq_true rfl) (Or.inr (n1_I _)) rfl ?_
  refine g_inc (lv' := [_, _, _, _, _]) rfl (Nat.le_of_ble_eq_true rfl) (Or.inr (n1_I _)) rfl ?_
  obtain ⟨q21, h⟩ := h
  exact hj0 _ _ _ _ _ hl1 hl2 hs0 q21 h
def PX13_sameParams_24 (J : Nat → List Int → gS → (Int → gS → Prop) → Prop) (l1 : Int) (l2 : Int) (l3 : Int) (l4 : Int) (G : gS) (Q : Int → gS → Prop) : Prop :=
  ((0 : Int) ≤ l1 ∧ ((l1 : Int) < 7344 ∧ (inI (G 16129 l1) → ((l4 < G 16129 l1 → ((l3 = 0 → PX13_sameParams_77 J l1 l2 l3 l4 G Q) ∧ (¬ (l3 = 0) → ((0 : Int) ≤ (4 * l1) + l4 ∧ (((4 * l1) + l4 : Int) < 29376 ∧ (inL (G 16130 ((4 * l1) + l4)) → ((0 : Int) ≤ (4 * l2) + l4 ∧ (((4 * l2) + l4 : Int) < 29376 ∧ (inL (G 16130 ((4 * l2) + l4)) → ((G 16130 ((4 * l1) + l4) = G 16130 ((4 * l2) + l4) → PX13_sameParams_70 J l1 l2 l3 l4 1 G Q) ∧ (¬ (G 16130 ((4 * l1) + l4) = G 16130 ((4 * l2) + l4)) → PX13_sameParams_70 J l1 l2 l3 l4 0 G Q))))))))))) ∧ (¬ (l4 < G 16129 l1) → PX13_sameParams_77 J l1 l2 l3 l4 G Q)))))
set_option maxRecDepth 20000 in
theorem TX13_sameParams_24 {j : Nat → rx_K} {J : Nat → List Int → gS → (Int → gS → Prop) → Prop} {l1 : Int} {l2 : Int} {l3 : Int} {l4 : Int} {G : gS} {Q : Int → gS → Prop} (hl1 : inI l1) (hl2 : inI l2) (hl3 : inI l3) (hl4 : inI l4) (hj0 : ∀ (l1 : Int) (l2 : Int) (l3 : Int) (l4 : Int) (G : gS), (inI l1) → (inI l2) → (inI l3) → (inI l4) → J 0 [l1, l2, l3, l4] G Q → Tg W0 (j 0) [rf (16081), cI (l1), cI (l2), cI (l3), cI (l4)] [] G (fun r G => ∃ v, r = cI v ∧ (0 ≤ v ∧ v ≤ 1) ∧ Q v G)) (h : PX13_sameParams_24 J l1 l2 l3 l4 G Q) : Tg W0 (vX13_sameParams_24 j) [rf (16081), cI (l1), cI (l2), cI (l3), cI (l4)] [] G (fun r G => ∃ v, r = cI v ∧ (0 ≤ v ∧ v ≤ 1) ∧ Q v G) := by
  unfold PX13_sameParams_24 at h
  unfold vX13_sameParams_24
  refine g_ld (v := cI _) rfl (is_I _) ?_
  refine g_ld (v := rf _) rfl (is_R _) ?_
  refine g_getF (v := 16129) oC13 (hC13_55) rfl (Nat.le_of_ble_eq_true rfl) (Nat.le_of_ble_eq_true rfl) ?_
  refine g_ld (v := cI _) rfl (is_I _) ?_
  obtain ⟨q8, q9, h⟩ := h
  refine g_aldI aC16129 q8 q9 rfl fun i10 => ?_
  replace h := h i10
  refine g_lt2 hl4 i10 (fun b11 => ?_) (fun b11 => ?_)
  · replace h := h.1 b11
    unfold vX13_sameParams_35
    refine g_ld (v := cI _) rfl (is_I _) ?_
    refine g_eq1 hl3 (fun b12 => ?_) (fun b12 => ?_)
    · replace h := h.1 b12
      exact TX13_sameParams_77 hl1 hl2 hl3 hl4 hj0 h
    · replace h := h.2 b12
      unfold vX13_sameParams_39
      refine g_ld (v := rf _) rfl (is_R _) ?_
      refine g_getF (v := 16130) oC13 (hC13_56) rfl (Nat.le_of_ble_eq_true rfl) (Nat.le_of_ble_eq_true rfl) ?_
      refine g_const (v := cI (4)) rfl ?_
      refine g_ld (v := cI _) rfl (is_I _) ?_
      refine g_mul ?_
      refine g_ld (v := cI _) rfl (is_I _) ?_
      refine g_add ?_
      obtain ⟨q13, q14, h⟩ := h
      refine g_aldL aC16130 q13 q14 rfl fun i15 => ?_
      replace h := h i15
      refine g_ld (v := rf _) rfl (is_R _) ?_
      refine g_getF (v := 16130) oC13 (hC13_56) rfl (Nat.le_of_ble_eq_true rfl) (Nat.le_of_ble_eq_true rfl) ?_
      refine g_const (v := cI (4)) rfl ?_
      refine g_ld (v := cI _) rfl (is_I _) ?_
      refine g_mul ?_
      refine g_ld (v := cI _) rfl (is_I _) ?_
      refine g_add ?_
      obtain ⟨q16, q17, h⟩ := h
      refine g_aldL aC16130 q16 q17 rfl fun i18 => ?_
      replace h := h i18
      refine g_leq i15 i18 (fun b19 => ?_) (fun b19 => ?_)
      · replace h := h.1 b19
        unfold vX13_sameParams_65
        refine g_const (v := cI (1)) rfl ?_
        exact TX13_sameParams_70 hl1 hl2 hl3 hl4 ⟨by omega, by omega⟩ hj0 h
      · replace h := h.2 b19
        unfold vX13_sameParams_69
        refine g_const (v := cI (0)) rfl ?_
        exact TX13_sameParams_70 hl1 hl2 hl3 hl4 ⟨by omega, by omega⟩ hj0 h
  · replace h := h.2 b11
    exact TX13_sameParams_77 hl1 hl2 hl3 hl4 hj0 h
def PX13_sameParams_20 (J : Nat → List Int → gS → (Int → gS → Prop) → Prop) (l1 : Int) (l2 : Int) (s0 : Int) (G : gS) (Q : Int → gS → Prop) : Prop :=
  PX13_sameParams_24 J l1 l2 s0 0 G Q
set_option maxRecDepth 20000 in
theorem TX13_sameParams_20 {j : Nat → rx_K} {J : Nat → List Int → gS → (Int → gS → Prop) → Prop} {l1 : Int} {l2 : Int} {l3 : Nat} {l4 : Nat} {s0 : Int} {G : gS} {Q : Int → gS → Prop} (hl1 : inI l1) (hl2 : inI l2) (hl3 : l3 % 8 ≠ 1) (hl4 : l4 % 8 ≠ 1) (hs0 : inI s0) (hj0 : ∀ (l1 : Int) (l2 : Int) (l3 : Int) (l4 : Int) (G : gS), (inI l1) → (inI l2) → (inI l3) → (inI l4) → J 0 [l1, l2, l3, l4] G Q → Tg W0 (j 0) [rf (16081), cI (l1), cI (l2), cI (l3), cI (l4)] [] G (fun r G => ∃ v, r = cI v ∧ (0 ≤ v ∧ v ≤ 1) ∧ Q v G)) (h : PX13_sameParams_20 J l1 l2 s0 G Q) : Tg W0 (vX13_sameParams_20 j) [rf (16081), cI (l1), cI (l2), l3, l4] [cI (s0)] G (fun r G => ∃ v, r = cI v ∧ (0 ≤ v ∧ v ≤ 1) ∧ Q v G) := by
  unfold PX13_sameParams_20 at h
  unfold vX13_sameParams_20
  refine g_st (lv' := [_, _, _, _, _]) (is_I _) (Nat.le_of_ble_eq_true rfl) (Or.inr (n1_I _)) rfl ?_
  refine g_const (v := cI (0)) rfl ?_
  refine g_st (lv' := [_, _, _, _, _]) (is_I _) (Nat.le_of_ble_eq_true rfl) (Or.inr (n1_I _)) rfl ?_
  exact TX13_sameParams_24 hl1 hl2 hs0 ⟨by omega, by omega⟩ hj0 h
def PX13_sameParams_0 (J : Nat → List Int → gS → (Int → gS → Prop) → Prop) (a1 : Int) (a2 : Int) (G : gS) (Q : Int → gS → Prop) : Prop :=
  ((0 : Int) ≤ a1 ∧ ((a1 : Int) < 7344 ∧ (inI (G 16129 a1) → ((0 : Int) ≤ a2 ∧ ((a2 : Int) < 7344 ∧ (inI (G 16129 a2) → ((G 16129 a1 = G 16129 a2 → PX13_sameParams_20 J a1 a2 1 G Q) ∧ (¬ (G 16129 a1 = G 16129 a2) → PX13_sameParams_20 J a1 a2 0 G Q))))))))
set_option maxRecDepth 20000 in
theorem TX13_sameParams_0 {j : Nat → rx_K} {J : Nat → List Int → gS → (Int → gS → Prop) → Prop} {a1 : Int} {a2 : Int} {G : gS} {Q : Int → gS → Prop} (ha1 : inI a1) (ha2 : inI a2) (hj0 : ∀ (l1 : Int) (l2 : Int) (l3 : Int) (l4 : Int) (G : gS), (inI l1) → (inI l2) → (inI l3) → (inI l4) → J 0 [l1, l2, l3, l4] G Q → Tg W0 (j 0) [rf (16081), cI (l1), cI (l2), cI (l3), cI (l4)] [] G (fun r G => ∃ v, r = cI v ∧ (0 ≤ v ∧ v ≤ 1) ∧ Q v G)) (h : PX13_sameParams_0 J a1 a2 G Q) : Tg W0 (vX13_sameParams_0 j) [rf (16081), cI (a1), cI (a2), 7, 7] [] G (fun r G => ∃ v, r = cI v ∧ (0 ≤ v ∧ v ≤ 1) ∧ Q v G) := by
  unfold PX13_sameParams_0 at h
  unfold vX13_sameParams_0
  refine g_ld (v := rf _) rfl (is_R _) ?_
  refine g_getF (v := 16129) oC13 (hC13_55) rfl (Nat.le_of_ble_eq_true rfl) (Nat.le_of_ble_eq_true rfl) ?_
  refine g_ld (v := cI _) rfl (is_I _) ?_
  obtain ⟨q1, q2, h⟩ := h
  refine g_aldI aC16129 q1 q2 rfl fun i3 => ?_
  replace h := h i3
  refine g_ld (v := rf _) rfl (is_R _) ?_
  refine g_getF (v := 16129) oC13 (hC13_55) rfl (Nat.le_of_ble_eq_true rfl) (Nat.le_of_ble_eq_true rfl) ?_
  refine g_ld (v := cI _) rfl (is_I _) ?_
  obtain ⟨q4, q5, h⟩ := h
  refine g_aldI aC16129 q4 q5 rfl fun i6 => ?_
  replace h := h i6
  refine g_eq2 i3 i6 (fun b7 => ?_) (fun b7 => ?_)
  · replace h := h.1 b7
    unfold vX13_sameParams_15
    refine g_const (v := cI (1)) rfl ?_
    exact TX13_sameParams_20 ha1 ha2 (show 7 % 8 ≠ 1 by decide) (show 7 % 8 ≠ 1 by decide) ⟨by omega, by omega⟩ hj0 h
  · replace h := h.2 b7
    unfold vX13_sameParams_19
    refine g_const (v := cI (0)) rfl ?_
    exact TX13_sameParams_20 ha1 ha2 (show 7 % 8 ≠ 1 by decide) (show 7 % 8 ≠ 1 by decide) ⟨by omega, by omega⟩ hj0 h
def PX13_sameParams_J : Nat → Nat → List Int → gS → (Int → gS → Prop) → Prop
  | 0, _, _, _, _ => False
  | f + 1, h, L, G, Q => match h, L with
    | 0, [l1, l2, l3, l4] => PX13_sameParams_24 (PX13_sameParams_J f) l1 l2 l3 l4 G Q
    | _, _ => False
theorem TX13_sameParams_J {Q : Int → gS → Prop} : ∀ f N : Nat, f ≤ N → (∀ (l1 : Int) (l2 : Int) (l3 : Int) (l4 : Int) (G : gS), (inI l1) → (inI l2) → (inI l3) → (inI l4) → (PX13_sameParams_J f) 0 [l1, l2, l3, l4] G Q → Tg W0 (rx_J vhX13_sameParams N 0) [rf (16081), cI (l1), cI (l2), cI (l3), cI (l4)] [] G (fun r G => ∃ v, r = cI v ∧ (0 ≤ v ∧ v ≤ 1) ∧ Q v G)) := by
  intro f
  induction f with
  | zero => exact fun N _ => fun _ _ _ _ _ _ _ _ _ h => h.elim
  | succ f ih =>
    intro N hN
    obtain ⟨M, rfl⟩ : ∃ M, N = M + 1 := ⟨N - 1, by omega⟩
    have ih := ih M (by omega)
    exact fun _ _ _ _ _ hl1 hl2 hl3 hl4 h => show Tg W0 (vX13_sameParams_24 (rx_J vhX13_sameParams M)) _ _ _ _ from TX13_sameParams_24 hl1 hl2 hl3 hl4 ih h
def PX13_sameParams (a1 : Int) (a2 : Int) (G : gS) (Q : Int → gS → Prop) : Prop := ∃ f : Nat, f ≤ 4000000000 ∧ PX13_sameParams_0 (PX13_sameParams_J f) a1 a2 G Q
theorem TX13_sameParams {a1 : Int} {a2 : Int} {G : gS} {Q : Int → gS → Prop} (ha1 : inI a1) (ha2 : inI a2) (h : PX13_sameParams a1 a2 G Q) : Tn W0 FX13_sameParams [rf (16081), cI (a1), cI (a2)] G (fun r G => ∃ v, r = cI v ∧ (0 ≤ v ∧ v ≤ 1) ∧ Q v G) := by
  obtain ⟨f, hf, h⟩ := h
  have hJ := TX13_sameParams_J (Q := Q) f 4000000000 hf
  unfold FX13_sameParams
  refine g_ent (lv' := [rf (16081), cI (a1), cI (a2), 7, 7]) (flR (flI (flI fl0))) (Nat.le_of_ble_eq_true rfl) rfl ?_
  exact TX13_sameParams_0 ha1 ha2 hJ h
def PX13_sameSign_46 (l1 : Int) (l2 : Int) (s0 : Int) (G : gS) (Q : Int → gS → Prop) : Prop :=
  ((0 ≤ s0 ∧ s0 ≤ 1) ∧ Q (s0) G)
set_option maxRecDepth 20000 in
theorem TX13_sameSign_46 {l1 : Int} {l2 : Int} {s0 : Int} {G : gS} {Q : Int → gS → Prop} (hl1 : inI l1) (hl2 : inI l2) (hs0 : inI s0) (h : PX13_sameSign_46 l1 l2 s0 G Q) : Tg W0 vX13_sameSign_46 [rf (16081), cI (l1), cI (l2)] [cI (s0)] G (fun r G => ∃ v, r = cI v ∧ (0 ≤ v ∧ v ≤ 1) ∧ Q v G) := by
  unfold PX13_sameSign_46 at h
  unfold vX13_sameSign_46
  obtain ⟨q19, h⟩ := h
  exact g_ret1 (is_Z q19) ⟨_, rfl, q19, h⟩
def PX13_sameSign_45 (l1 : Int) (l2 : Int) (G : gS) (Q : Int → gS → Prop) : Prop :=
  PX13_sameSign_46 l1 l2 0 G Q
set_option maxRecDepth 20000 in
theorem TX13_sameSign_45 {l1 : Int} {l2 : Int} {G : gS} {Q : Int → gS → Prop} (hl1 : inI l1) (hl2 : inI l2) (h : PX13_sameSign_45 l1 l2 G Q) : Tg W0 vX13_sameSign_45 [rf (16081), cI (l1), cI (l2)] [] G (fun r G => ∃ v, r = cI v ∧ (0 ≤ v ∧ v ≤ 1) ∧ Q v G) := by
  unfold PX13_sameSign_45 at h
  unfold vX13_sameSign_45
  refine g_const (v := cI (0)) rfl ?_
  exact TX13_sameSign_46 hl1 hl2 ⟨by omega, by omega⟩ h
def PX13_sameSign_0 (a1 : Int) (a2 : Int) (G : gS) (Q : Int → gS → Prop) : Prop :=
  ((0 : Int) ≤ a1 ∧ ((a1 : Int) < 7344 ∧ (inL (G 16125 a1) → ((0 : Int) ≤ a2 ∧ ((a2 : Int) < 7344 ∧ (inL (G 16125 a2) → ((G 16125 a1 = G 16125 a2 → ((0 : Int) ≤ a1 ∧ ((a1 : Int) < 7344 ∧ (inL (G 16127 a1) → ((0 : Int) ≤ a2 ∧ ((a2 : Int) < 7344 ∧ (inL (G 16127 a2) → ((G 16127 a1 = G 16127 a2 → PX13_sameParams a1 a2 G (fun r16 G15 => (0 ≤ r16 ∧ r16 ≤ 1) → ((r16 = 0 → PX13_sameSign_45 a1 a2 G15 Q) ∧ (¬ (r16 = 0) → PX13_sameSign_46 a1 a2 1 G15 Q)))) ∧ (¬ (G 16127 a1 = G 16127 a2) → PX13_sameSign_45 a1 a2 G Q))))))))) ∧ (¬ (G 16125 a1 = G 16125 a2) → PX13_sameSign_45 a1 a2 G Q))))))))
set_option maxRecDepth 20000 in
theorem TX13_sameSign_0 {a1 : Int} {a2 : Int} {G : gS} {Q : Int → gS → Prop} (ha1 : inI a1) (ha2 : inI a2) (h : PX13_sameSign_0 a1 a2 G Q) : Tg W0 vX13_sameSign_0 [rf (16081), cI (a1), cI (a2)] [] G (fun r G => ∃ v, r = cI v ∧ (0 ≤ v ∧ v ≤ 1) ∧ Q v G) := by
  unfold PX13_sameSign_0 at h
  unfold vX13_sameSign_0
  refine g_ld (v := rf _) rfl (is_R _) ?_
  refine g_getF (v := 16125) oC13 (hC13_51) rfl (Nat.le_of_ble_eq_true rfl) (Nat.le_of_ble_eq_true rfl) ?_
  refine g_ld (v := cI _) rfl (is_I _) ?_
  obtain ⟨q1, q2, h⟩ := h
  refine g_aldL aC16125 q1 q2 rfl fun i3 => ?_
  replace h := h i3
  refine g_ld (v := rf _) rfl (is_R _) ?_
  refine g_getF (v := 16125) oC13 (hC13_51) rfl (Nat.le_of_ble_eq_true rfl) (Nat.le_of_ble_eq_true rfl) ?_
  refine g_ld (v := cI _) rfl (is_I _) ?_
  obtain ⟨q4, q5, h⟩ := h
  refine g_aldL aC16125 q4 q5 rfl fun i6 => ?_
  replace h := h i6
  refine g_leq i3 i6 (fun b7 => ?_) (fun b7 => ?_)
  · replace h := h.1 b7
    unfold vX13_sameSign_16
    refine g_ld (v := rf _) rfl (is_R _) ?_
    refine g_getF (v := 16127) oC13 (hC13_53) rfl (Nat.le_of_ble_eq_true rfl) (Nat.le_of_ble_eq_true rfl) ?_
    refine g_ld (v := cI _) rfl (is_I _) ?_
    obtain ⟨q8, q9, h⟩ := h
    refine g_aldL aC16127 q8 q9 rfl fun i10 => ?_
    replace h := h i10
    refine g_ld (v := rf _) rfl (is_R _) ?_
    refine g_getF (v := 16127) oC13 (hC13_53) rfl (Nat.le_of_ble_eq_true rfl) (Nat.le_of_ble_eq_true rfl) ?_
    refine g_ld (v := cI _) rfl (is_I _) ?_
    obtain ⟨q11, q12, h⟩ := h
    refine g_aldL aC16127 q11 q12 rfl fun i13 => ?_
    replace h := h i13
    refine g_leq i10 i13 (fun b14 => ?_) (fun b14 => ?_)
    · replace h := h.1 b14
      unfold vX13_sameSign_32
      refine g_ld (v := rf _) rfl (is_R _) ?_
      refine g_ld (v := cI _) rfl (is_I _) ?_
      refine g_ld (v := cI _) rfl (is_I _) ?_
      refine g_callV (As := [_, _]) (ci := 13) oC13 (fun _ => rfl) ?_
      refine g_go1 (Nat.le_of_ble_eq_true rfl) (Tn_w (TX13_sameParams ha1 ha2 h) fun _ G15 ⟨r16, e, i17, h⟩ => ?_)
      subst e
      refine ⟨n7_I _, ?_⟩
      replace h := h i17
      refine g_eq1 ⟨by omega, by omega⟩ (fun b18 => ?_) (fun b18 => ?_)
      · replace h := h.1 b18
        exact TX13_sameSign_45 ha1 ha2 h
      · replace h := h.2 b18
        unfold vX13_sameSign_41
        refine g_const (v := cI (1)) rfl ?_
        exact TX13_sameSign_46 ha1 ha2 ⟨by omega, by omega⟩ h
    · replace h := h.2 b14
      exact TX13_sameSign_45 ha1 ha2 h
  · replace h := h.2 b7
    exact TX13_sameSign_45 ha1 ha2 h
abbrev PX13_sameSign (a1 : Int) (a2 : Int) (G : gS) (Q : Int → gS → Prop) : Prop := PX13_sameSign_0 a1 a2 G Q
theorem TX13_sameSign {a1 : Int} {a2 : Int} {G : gS} {Q : Int → gS → Prop} (ha1 : inI a1) (ha2 : inI a2) (h : PX13_sameSign a1 a2 G Q) : Tn W0 FX13_sameSign [rf (16081), cI (a1), cI (a2)] G (fun r G => ∃ v, r = cI v ∧ (0 ≤ v ∧ v ≤ 1) ∧ Q v G) := by
  unfold FX13_sameSign
  refine g_ent (lv' := [rf (16081), cI (a1), cI (a2)]) (flR (flI (flI fl0))) (Nat.le_of_ble_eq_true rfl) rfl ?_
  exact TX13_sameSign_0 ha1 ha2 h
def PX13_ownMethod_44 (J : Nat → List Int → gS → (Int → gS → Prop) → Prop) (l1 : Int) (l2 : Int) (l3 : Int) (l4 : Int) (G : gS) (Q : Int → gS → Prop) : Prop :=
  (inI (l3 + 1) ∧ J 0 [l1, l2, l3 + 1] G Q)
set_option maxRecDepth 20000 in
theorem TX13_ownMethod_44 {j : Nat → rx_K} {J : Nat → List Int → gS → (Int → gS → Prop) → Prop} {l1 : Int} {l2 : Int} {l3 : Int} {l4 : Int} {G : gS} {Q : Int → gS → Prop} (hl1 : inI l1) (hl2 : inI l2) (hl3 : inI l3) (hl4 : inI l4) (hj0 : ∀ (l1 : Int) (l2 : Int) (l3 : Int) (l4 : Nat) (G : gS), (inI l1) → (inI l2) → (inI l3) → (l4 % 8 ≠ 1) → J 0 [l1, l2, l3] G Q → Tg W0 (j 0) [rf (16081), cI (l1), cI (l2), cI (l3), l4] [] G (fun r G => ∃ v, r = cI v ∧ inI v ∧ Q v G)) (h : PX13_ownMethod_44 J l1 l2 l3 l4 G Q) : Tg W0 (vX13_ownMethod_44 j) [rf (16081), cI (l1), cI (l2), cI (l3), cI (l4)] [] G (fun r G => ∃ v, r = cI v ∧ inI v ∧ Q v G) := by
  unfold PX13_ownMethod_44 at h
  unfold vX13_ownMethod_44
  refine g_inc (lv' := [_, _, _, _, _]) rfl (Nat.le_of_ble_eq_true rfl) (Or.inr (n1_I _)) rfl ?_
  obtain ⟨q14, h⟩ := h
  exact hj0 _ _ _ _ _ hl1 hl2 q14 (n1_I _) h
def PX13_ownMethod_2 (J : Nat → List Int → gS → (Int → gS → Prop) → Prop) (l1 : Int) (l2 : Int) (l3 : Int) (G : gS) (Q : Int → gS → Prop) : Prop :=
  ((0 : Int) ≤ l1 ∧ ((l1 : Int) < 216 ∧ (inI (G 16115 l1) → ((l3 < G 16115 l1 → (inI ((l1 * 34) + l3) ∧ ((0 : Int) ≤ (l1 * 34) + l3 ∧ (((l1 * 34) + l3 : Int) < 7344 ∧ (inI (G 16116 ((l1 * 34) + l3)) → ((G 16116 ((l1 * 34) + l3) = 1 → PX13_sameSign ((l1 * 34) + l3) l2 G (fun r11 G10 => (0 ≤ r11 ∧ r11 ≤ 1) → ((r11 = 0 → PX13_ownMethod_44 J l1 l2 l3 ((l1 * 34) + l3) G10 Q) ∧ (¬ (r11 = 0) → Q ((l1 * 34) + l3) G10)))) ∧ (¬ (G 16116 ((l1 * 34) + l3) = 1) → PX13_ownMethod_44 J l1 l2 l3 ((l1 * 34) + l3) G Q))))))) ∧ (¬ (l3 < G 16115 l1) → Q (-2) G)))))
set_option maxRecDepth 20000 in
theorem TX13_ownMethod_2 {j : Nat → rx_K} {J : Nat → List Int → gS → (Int → gS → Prop) → Prop} {l1 : Int} {l2 : Int} {l3 : Int} {l4 : Nat} {G : gS} {Q : Int → gS → Prop} (hl1 : inI l1) (hl2 : inI l2) (hl3 : inI l3) (hl4 : l4 % 8 ≠ 1) (hj0 : ∀ (l1 : Int) (l2 : Int) (l3 : Int) (l4 : Nat) (G : gS), (inI l1) → (inI l2) → (inI l3) → (l4 % 8 ≠ 1) → J 0 [l1, l2, l3] G Q → Tg W0 (j 0) [rf (16081), cI (l1), cI (l2), cI (l3), l4] [] G (fun r G => ∃ v, r = cI v ∧ inI v ∧ Q v G)) (h : PX13_ownMethod_2 J l1 l2 l3 G Q) : Tg W0 (vX13_ownMethod_2 j) [rf (16081), cI (l1), cI (l2), cI (l3), l4] [] G (fun r G => ∃ v, r = cI v ∧ inI v ∧ Q v G) := by
  unfold PX13_ownMethod_2 at h
  unfold vX13_ownMethod_2
  refine g_ld (v := cI _) rfl (is_I _) ?_
  refine g_ld (v := rf _) rfl (is_R _) ?_
  refine g_getF (v := 16115) oC13 (hC13_41) rfl (Nat.le_of_ble_eq_true rfl) (Nat.le_of_ble_eq_true rfl) ?_
  refine g_ld (v := cI _) rfl (is_I _) ?_
  obtain ⟨q1, q2, h⟩ := h
  refine g_aldI aC16115 q1 q2 rfl fun i3 => ?_
  replace h := h i3
  refine g_lt2 hl3 i3 (fun b4 => ?_) (fun b4 => ?_)
  · replace h := h.1 b4
    unfold vX13_ownMethod_12
    refine g_ld (v := cI _) rfl (is_I _) ?_
    refine g_const (v := cI (34)) rfl ?_
    refine g_mul ?_
    refine g_ld (v := cI _) rfl (is_I _) ?_
    refine g_add ?_
    refine g_st (lv' := [_, _, _, _, _]) (is_I _) (Nat.le_of_ble_eq_true rfl) (Or.inr (n1_I _)) rfl ?_
    obtain ⟨q5, h⟩ := h
    refine g_ld (v := rf _) rfl (is_R _) ?_
    refine g_getF (v := 16116) oC13 (hC13_42) rfl (Nat.le_of_ble_eq_true rfl) (Nat.le_of_ble_eq_true rfl) ?_
    refine g_ld (v := cI _) rfl (is_I _) ?_
    obtain ⟨q6, q7, h⟩ := h
    refine g_aldI aC16116 q6 q7 rfl fun i8 => ?_
    replace h := h i8
    refine g_const (v := cI (1)) rfl ?_
    refine g_eq2 i8 ⟨by omega, by omega⟩ (fun b9 => ?_) (fun b9 => ?_)
    · replace h := h.1 b9
      unfold vX13_ownMethod_31
      refine g_ld (v := rf _) rfl (is_R _) ?_
      refine g_ld (v := cI _) rfl (is_I _) ?_
      refine g_ld (v := cI _) rfl (is_I _) ?_
      refine g_callV (As := [_, _]) (ci := 13) oC13 (fun _ => rfl) ?_
      refine g_go1 (Nat.le_of_ble_eq_true rfl) (Tn_w (TX13_sameSign q5 hl2 h) fun _ G10 ⟨r11, e, i12, h⟩ => ?_)
      subst e
      refine ⟨n7_I _, ?_⟩
      replace h := h i12
      refine g_eq1 ⟨by omega, by omega⟩ (fun b13 => ?_) (fun b13 => ?_)
      · replace h := h.1 b13
        exact TX13_ownMethod_44 hl1 hl2 hl3 q5 hj0 h
      · replace h := h.2 b13
        unfold vX13_ownMethod_41
        refine g_ld (v := cI _) rfl (is_I _) ?_
        exact g_ret1 (is_I _) ⟨_, rfl, q5, h⟩
    · replace h := h.2 b9
      exact TX13_ownMethod_44 hl1 hl2 hl3 q5 hj0 h
  · replace h := h.2 b4
    unfold vX13_ownMethod_50
    refine g_const (v := cI (-2)) rfl ?_
    exact g_ret1 (is_I _) ⟨_, rfl, ⟨by omega, by omega⟩, h⟩
def PX13_ownMethod_0 (J : Nat → List Int → gS → (Int → gS → Prop) → Prop) (a1 : Int) (a2 : Int) (G : gS) (Q : Int → gS → Prop) : Prop :=
  PX13_ownMethod_2 J a1 a2 0 G Q
set_option maxRecDepth 20000 in
theorem TX13_ownMethod_0 {j : Nat → rx_K} {J : Nat → List Int → gS → (Int → gS → Prop) → Prop} {a1 : Int} {a2 : Int} {G : gS} {Q : Int → gS → Prop} (ha1 : inI a1) (ha2 : inI a2) (hj0 : ∀ (l1 : Int) (l2 : Int) (l3 : Int) (l4 : Nat) (G : gS), (inI l1) → (inI l2) → (inI l3) → (l4 % 8 ≠ 1) → J 0 [l1, l2, l3] G Q → Tg W0 (j 0) [rf (16081), cI (l1), cI (l2), cI (l3), l4] [] G (fun r G => ∃ v, r = cI v ∧ inI v ∧ Q v G)) (h : PX13_ownMethod_0 J a1 a2 G Q) : Tg W0 (vX13_ownMethod_0 j) [rf (16081), cI (a1), cI (a2), 7, 7] [] G (fun r G => ∃ v, r = cI v ∧ inI v ∧ Q v G) := by
  unfold PX13_ownMethod_0 at h
  unfold vX13_ownMethod_0
  refine g_const (v := cI (0)) rfl ?_
  refine g_st (lv' := [_, _, _, _, _]) (is_I _) (Nat.le_of_ble_eq_true rfl) (Or.inr (n1_I _)) rfl ?_
  exact TX13_ownMethod_2 ha1 ha2 ⟨by omega, by omega⟩ (show 7 % 8 ≠ 1 by decide) hj0 h
def PX13_ownMethod_J : Nat → Nat → List Int → gS → (Int → gS → Prop) → Prop
  | 0, _, _, _, _ => False
  | f + 1, h, L, G, Q => match h, L with
    | 0, [l1, l2, l3] => PX13_ownMethod_2 (PX13_ownMethod_J f) l1 l2 l3 G Q
    | _, _ => False
theorem TX13_ownMethod_J {Q : Int → gS → Prop} : ∀ f N : Nat, f ≤ N → (∀ (l1 : Int) (l2 : Int) (l3 : Int) (l4 : Nat) (G : gS), (inI l1) → (inI l2) → (inI l3) → (l4 % 8 ≠ 1) → (PX13_ownMethod_J f) 0 [l1, l2, l3] G Q → Tg W0 (rx_J vhX13_ownMethod N 0) [rf (16081), cI (l1), cI (l2), cI (l3), l4] [] G (fun r G => ∃ v, r = cI v ∧ inI v ∧ Q v G)) := by
  intro f
  induction f with
  | zero => exact fun N _ => fun _ _ _ _ _ _ _ _ _ h => h.elim
  | succ f ih =>
    intro N hN
    obtain ⟨M, rfl⟩ : ∃ M, N = M + 1 := ⟨N - 1, by omega⟩
    have ih := ih M (by omega)
    exact fun _ _ _ _ _ hl1 hl2 hl3 hl4 h => show Tg W0 (vX13_ownMethod_2 (rx_J vhX13_ownMethod M)) _ _ _ _ from TX13_ownMethod_2 hl1 hl2 hl3 hl4 ih h
def PX13_ownMethod (a1 : Int) (a2 : Int) (G : gS) (Q : Int → gS → Prop) : Prop := ∃ f : Nat, f ≤ 4000000000 ∧ PX13_ownMethod_0 (PX13_ownMethod_J f) a1 a2 G Q
theorem TX13_ownMethod {a1 : Int} {a2 : Int} {G : gS} {Q : Int → gS → Prop} (ha1 : inI a1) (ha2 : inI a2) (h : PX13_ownMethod a1 a2 G Q) : Tn W0 FX13_ownMethod [rf (16081), cI (a1), cI (a2)] G (fun r G => ∃ v, r = cI v ∧ inI v ∧ Q v G) := by
  obtain ⟨f, hf, h⟩ := h
  have hJ := TX13_ownMethod_J (Q := Q) f 4000000000 hf
  unfold FX13_ownMethod
  refine g_ent (lv' := [rf (16081), cI (a1), cI (a2), 7, 7]) (flR (flI (flI fl0))) (Nat.le_of_ble_eq_true rfl) rfl ?_
  exact TX13_ownMethod_0 ha1 ha2 hJ h
def PX13_isFree_23 (l1 : Int) (s0 : Int) (G : gS) (Q : Int → gS → Prop) : Prop :=
  ((0 ≤ s0 ∧ s0 ≤ 1) ∧ Q (s0) G)
set_option maxRecDepth 20000 in
theorem TX13_isFree_23 {l1 : Int} {s0 : Int} {G : gS} {Q : Int → gS → Prop} (hl1 : inI l1) (hs0 : inI s0) (h : PX13_isFree_23 l1 s0 G Q) : Tg W0 vX13_isFree_23 [rf (16081), cI (l1)] [cI (s0)] G (fun r G => ∃ v, r = cI v ∧ (0 ≤ v ∧ v ≤ 1) ∧ Q v G) := by
  unfold PX13_isFree_23 at h
  unfold vX13_isFree_23
  obtain ⟨q9, h⟩ := h
  exact g_ret1 (is_Z q9) ⟨_, rfl, q9, h⟩
def PX13_isFree_22 (l1 : Int) (G : gS) (Q : Int → gS → Prop) : Prop :=
  PX13_isFree_23 l1 0 G Q
set_option maxRecDepth 20000 in
theorem TX13_isFree_22 {l1 : Int} {G : gS} {Q : Int → gS → Prop} (hl1 : inI l1) (h : PX13_isFree_22 l1 G Q) : Tg W0 vX13_isFree_22 [rf (16081), cI (l1)] [] G (fun r G => ∃ v, r = cI v ∧ (0 ≤ v ∧ v ≤ 1) ∧ Q v G) := by
  unfold PX13_isFree_22 at h
  unfold vX13_isFree_22
  refine g_const (v := cI (0)) rfl ?_
  exact TX13_isFree_23 hl1 ⟨by omega, by omega⟩ h
def PX13_isFree_0 (a1 : Int) (G : gS) (Q : Int → gS → Prop) : Prop :=
  ((0 : Int) ≤ a1 ∧ ((a1 : Int) < 7344 ∧ ((0 ≤ G 16119 a1 ∧ G 16119 a1 ≤ 1) → ((G 16119 a1 = 0 → ((0 : Int) ≤ a1 ∧ ((a1 : Int) < 7344 ∧ (inI (G 16118 a1) → ((G 16118 a1 = 0 → PX13_isFree_22 a1 G Q) ∧ (¬ (G 16118 a1 = 0) → PX13_isFree_23 a1 1 G Q)))))) ∧ (¬ (G 16119 a1 = 0) → PX13_isFree_22 a1 G Q)))))
set_option maxRecDepth 20000 in
theorem TX13_isFree_0 {a1 : Int} {G : gS} {Q : Int → gS → Prop} (ha1 : inI a1) (h : PX13_isFree_0 a1 G Q) : Tg W0 vX13_isFree_0 [rf (16081), cI (a1)] [] G (fun r G => ∃ v, r = cI v ∧ (0 ≤ v ∧ v ≤ 1) ∧ Q v G) := by
  unfold PX13_isFree_0 at h
  unfold vX13_isFree_0
  refine g_ld (v := rf _) rfl (is_R _) ?_
  refine g_getF (v := 16119) oC13 (hC13_45) rfl (Nat.le_of_ble_eq_true rfl) (Nat.le_of_ble_eq_true rfl) ?_
  refine g_ld (v := cI _) rfl (is_I _) ?_
  obtain ⟨q1, q2, h⟩ := h
  refine g_aldZ aC16119 q1 q2 rfl fun i3 => ?_
  replace h := h i3
  refine g_eq1 ⟨by omega, by omega⟩ (fun b4 => ?_) (fun b4 => ?_)
  · replace h := h.1 b4
    unfold vX13_isFree_9
    refine g_ld (v := rf _) rfl (is_R _) ?_
    refine g_getF (v := 16118) oC13 (hC13_44) rfl (Nat.le_of_ble_eq_true rfl) (Nat.le_of_ble_eq_true rfl) ?_
    refine g_ld (v := cI _) rfl (is_I _) ?_
    obtain ⟨q5, q6, h⟩ := h
    refine g_aldI aC16118 q5 q6 rfl fun i7 => ?_
    replace h := h i7
    refine g_eq1 i7 (fun b8 => ?_) (fun b8 => ?_)
    · replace h := h.1 b8
      exact TX13_isFree_22 ha1 h
    · replace h := h.2 b8
      unfold vX13_isFree_18
      refine g_const (v := cI (1)) rfl ?_
      exact TX13_isFree_23 ha1 ⟨by omega, by omega⟩ h
  · replace h := h.2 b4
    exact TX13_isFree_22 ha1 h
abbrev PX13_isFree (a1 : Int) (G : gS) (Q : Int → gS → Prop) : Prop := PX13_isFree_0 a1 G Q
theorem TX13_isFree {a1 : Int} {G : gS} {Q : Int → gS → Prop} (ha1 : inI a1) (h : PX13_isFree a1 G Q) : Tn W0 FX13_isFree [rf (16081), cI (a1)] G (fun r G => ∃ v, r = cI v ∧ (0 ≤ v ∧ v ≤ 1) ∧ Q v G) := by
  unfold FX13_isFree
  refine g_ent (lv' := [rf (16081), cI (a1)]) (flR (flI fl0)) (Nat.le_of_ble_eq_true rfl) rfl ?_
  exact TX13_isFree_0 ha1 h
def PX13_overrides_175 (J : Nat → List Int → gS → (Int → gS → Prop) → Prop) (l1 : Int) (l2 : Int) (l3 : Int) (l4 : Int) (l6 : Int) (G : gS) (Q : Int → gS → Prop) : Prop :=
  Q (0) G
set_option maxRecDepth 20000 in
theorem TX13_overrides_175 {j : Nat → rx_K} {J : Nat → List Int → gS → (Int → gS → Prop) → Prop} {l1 : Int} {l2 : Int} {l3 : Int} {l4 : Int} {l5 : Nat} {l6 : Int} {l7 : Nat} {l8 : Nat} {G : gS} {Q : Int → gS → Prop} (hl1 : inI l1) (hl2 : inI l2) (hl3 : inI l3) (hl4 : inL l4) (hl5 : l5 % 8 ≠ 1) (hl6 : inI l6) (hl7 : l7 % 8 ≠ 1) (hl8 : l8 % 8 ≠ 1) (hj0 : ∀ (l1 : Int) (l2 : Int) (l3 : Int) (l4 : Int) (l5 : Nat) (l6 : Int) (l7 : Nat) (l8 : Nat) (G : gS), (inI l1) → (inI l2) → (inI l3) → (inL l4) → (l5 % 8 ≠ 1) → (inI l6) → (l7 % 8 ≠ 1) → (l8 % 8 ≠ 1) → J 0 [l1, l2, l3, l4, l6] G Q → Tg W0 (j 0) [rf (16081), cI (l1), cI (l2), cI (l3), cL (l4), l5, cI (l6), l7, l8] [] G (fun r G => ∃ v, r = cI v ∧ (0 ≤ v ∧ v ≤ 1) ∧ Q v G)) (h : PX13_overrides_175 J l1 l2 l3 l4 l6 G Q) : Tg W0 (vX13_overrides_175 j) [rf (16081), cI (l1), cI (l2), cI (l3), cL (l4), l5, cI (l6), l7, l8] [] G (fun r G => ∃ v, r = cI v ∧ (0 ≤ v ∧ v ≤ 1) ∧ Q v G) := by
  unfold PX13_overrides_175 at h
  unfold vX13_overrides_175
  refine g_const (v := cI (0)) rfl ?_
  exact g_ret1 (is_Z (by omega)) ⟨_, rfl, (by omega), h⟩
def PX13_overrides_160 (J : Nat → List Int → gS → (Int → gS → Prop) → Prop) (l1 : Int) (l2 : Int) (l3 : Int) (l4 : Int) (l6 : Int) (l7 : Int) (l8 : Int) (s0 : Int) (s1 : Int) (G : gS) (Q : Int → gS → Prop) : Prop :=
  (inL (lor s0 s1) → PX13_parent l3 G (fun r61 G60 => inI r61 → (inI (l6 + 1) ∧ J 0 [l1, l2, r61, lor s0 s1, l6 + 1] G60 Q)))
set_option maxRecDepth 20000 in
theorem TX13_overrides_160 {j : Nat → rx_K} {J : Nat → List Int → gS → (Int → gS → Prop) → Prop} {l1 : Int} {l2 : Int} {l3 : Int} {l4 : Int} {l5 : Nat} {l6 : Int} {l7 : Int} {l8 : Int} {s0 : Int} {s1 : Int} {G : gS} {Q : Int → gS → Prop} (hl1 : inI l1) (hl2 : inI l2) (hl3 : inI l3) (hl4 : inL l4) (hl5 : l5 % 8 ≠ 1) (hl6 : inI l6) (hl7 : inI l7) (hl8 : inI l8) (hs0 : inL s0) (hs1 : inL s1) (hj0 : ∀ (l1 : Int) (l2 : Int) (l3 : Int) (l4 : Int) (l5 : Nat) (l6 : Int) (l7 : Nat) (l8 : Nat) (G : gS), (inI l1) → (inI l2) → (inI l3) → (inL l4) → (l5 % 8 ≠ 1) → (inI l6) → (l7 % 8 ≠ 1) → (l8 % 8 ≠ 1) → J 0 [l1, l2, l3, l4, l6] G Q → Tg W0 (j 0) [rf (16081), cI (l1), cI (l2), cI (l3), cL (l4), l5, cI (l6), l7, l8] [] G (fun r G => ∃ v, r = cI v ∧ (0 ≤ v ∧ v ≤ 1) ∧ Q v G)) (h : PX13_overrides_160 J l1 l2 l3 l4 l6 l7 l8 s0 s1 G Q) : Tg W0 (vX13_overrides_160 j) [rf (16081), cI (l1), cI (l2), cI (l3), cL (l4), l5, cI (l6), cI (l7), cI (l8)] [cL (s1), cL (s0)] G (fun r G => ∃ v, r = cI v ∧ (0 ≤ v ∧ v ≤ 1) ∧ Q v G) := by
  unfold PX13_overrides_160 at h
  unfold vX13_overrides_160
  refine g_lor fun i59 => ?_
  replace h := h i59
  refine g_stL (lv' := [_, _, _, _, _, _, _, _, _]) (Nat.le_of_ble_eq_true rfl) (Or.inr (n1_I _)) rfl ?_
  refine g_ld (v := rf _) rfl (is_R _) ?_
  refine g_ld (v := cI _) rfl (is_I _) ?_
  refine g_callV (As := [_]) (ci := 13) oC13 (fun _ => rfl) ?_
  refine g_go1 (Nat.le_of_ble_eq_true rfl) (Tn_w (TX13_parent hl3 h) fun _ G60 ⟨r61, e, i62, h⟩ => ?_)
  subst e
  refine ⟨n7_I _, ?_⟩
  replace h := h i62
  refine g_st (lv' := [_, _, _, _, _, _, _, _, _]) (is_I _) (Nat.le_of_ble_eq_true rfl) (Or.inr (n1_I _)) rfl ?_
  refine g_inc (lv' := [_, _, _, _, _, _, _, _, _]) rfl (Nat.le_of_ble_eq_true rfl) (Or.inr (show 7 % 8 ≠ 1 by decide)) rfl ?_
  obtain ⟨q63, h⟩ := h
  exact hj0 _ _ _ _ _ _ _ _ _ hl1 hl2 i62 i59 (show 7 % 8 ≠ 1 by decide) q63 (n1_I _) (n1_I _) h
def PX13_overrides_127 (J : Nat → List Int → gS → (Int → gS → Prop) → Prop) (l1 : Int) (l2 : Int) (l3 : Int) (l4 : Int) (l6 : Int) (l7 : Int) (s0 : Int) (G : gS) (Q : Int → gS → Prop) : Prop :=
  ((l7 = l2 → ((0 ≤ s0 ∧ s0 ≤ 1) ∧ Q (s0) G)) ∧ (¬ (l7 = l2) → ((s0 = 0 → PX13_overrides_160 J l1 l2 l3 l4 l6 l7 s0 l4 0 G Q) ∧ (¬ (s0 = 0) → ((0 : Int) ≤ l3 ∧ ((l3 : Int) < 216 ∧ (inL (G 16098 l3) → PX13_pack (G 16098 l3) G (fun r56 G55 => inI r56 → (inL (lshl 1 r56) → PX13_overrides_160 J l1 l2 l3 l4 l6 l7 s0 l4 (lshl 1 r56) G55 Q)))))))))
set_option maxRecDepth 20000 in
theorem TX13_overrides_127 {j : Nat → rx_K} {J : Nat → List Int → gS → (Int → gS → Prop) → Prop} {l1 : Int} {l2 : Int} {l3 : Int} {l4 : Int} {l5 : Nat} {l6 : Int} {l7 : Int} {l8 : Nat} {s0 : Int} {G : gS} {Q : Int → gS → Prop} (hl1 : inI l1) (hl2 : inI l2) (hl3 : inI l3) (hl4 : inL l4) (hl5 : l5 % 8 ≠ 1) (hl6 : inI l6) (hl7 : inI l7) (hl8 : l8 % 8 ≠ 1) (hs0 : inI s0) (hj0 : ∀ (l1 : Int) (l2 : Int) (l3 : Int) (l4 : Int) (l5 : Nat) (l6 : Int) (l7 : Nat) (l8 : Nat) (G : gS), (inI l1) → (inI l2) → (inI l3) → (inL l4) → (l5 % 8 ≠ 1) → (inI l6) → (l7 % 8 ≠ 1) → (l8 % 8 ≠ 1) → J 0 [l1, l2, l3, l4, l6] G Q → Tg W0 (j 0) [rf (16081), cI (l1), cI (l2), cI (l3), cL (l4), l5, cI (l6), l7, l8] [] G (fun r G => ∃ v, r = cI v ∧ (0 ≤ v ∧ v ≤ 1) ∧ Q v G)) (h : PX13_overrides_127 J l1 l2 l3 l4 l6 l7 s0 G Q) : Tg W0 (vX13_overrides_127 j) [rf (16081), cI (l1), cI (l2), cI (l3), cL (l4), l5, cI (l6), cI (l7), l8] [cI (s0)] G (fun r G => ∃ v, r = cI v ∧ (0 ≤ v ∧ v ≤ 1) ∧ Q v G) := by
  unfold PX13_overrides_127 at h
  unfold vX13_overrides_127
  refine g_st (lv' := [_, _, _, _, _, _, _, _, _]) (is_I _) (Nat.le_of_ble_eq_true rfl) (Or.inr (n1_I _)) rfl ?_
  refine g_ld (v := cI _) rfl (is_I _) ?_
  refine g_ld (v := cI _) rfl (is_I _) ?_
  refine g_eq2 hl7 hl2 (fun b49 => ?_) (fun b49 => ?_)
  · replace h := h.1 b49
    unfold vX13_overrides_135
    refine g_ld (v := cI _) rfl (is_I _) ?_
    obtain ⟨q50, h⟩ := h
    exact g_ret1 (is_Z q50) ⟨_, rfl, q50, h⟩
  · replace h := h.2 b49
    unfold vX13_overrides_138
    refine g_ld (v := cL _) rfl (is_L _) ?_
    refine g_ld (v := cI _) rfl (is_I _) ?_
    refine g_eq1 hs0 (fun b51 => ?_) (fun b51 => ?_)
    · replace h := h.1 b51
      unfold vX13_overrides_159
      refine g_const (v := cL (0)) rfl ?_
      exact TX13_overrides_160 hl1 hl2 hl3 hl4 hl5 hl6 hl7 hs0 hl4 ⟨by omega, by omega⟩ hj0 h
    · replace h := h.2 b51
      unfold vX13_overrides_145
      refine g_const (v := cL (1)) rfl ?_
      refine g_ld (v := rf _) rfl (is_R _) ?_
      refine g_getF (v := 16098) oC13 (hC13_24) rfl (Nat.le_of_ble_eq_true rfl) (Nat.le_of_ble_eq_true rfl) ?_
      refine g_ld (v := cI _) rfl (is_I _) ?_
      obtain ⟨q52, q53, h⟩ := h
      refine g_aldL aC16098 q52 q53 rfl fun i54 => ?_
      replace h := h i54
      refine g_callS (As := [_]) (fun _ => rfl) ?_
      refine g_go1 (by simp only [cs_c, cs_0, ct_I, ct_L, ct_R]; exact Nat.le_of_ble_eq_true rfl) (Tn_w (TX13_pack i54 h) fun _ G55 ⟨r56, e, i57, h⟩ => ?_)
      subst e
      refine ⟨n7_I _, ?_⟩
      replace h := h i57
      refine g_lshl fun i58 => ?_
      replace h := h i58
      exact TX13_overrides_160 hl1 hl2 hl3 hl4 hl5 hl6 hl7 hs0 hl4 i58 hj0 h
def PX13_overrides_126 (J : Nat → List Int → gS → (Int → gS → Prop) → Prop) (l1 : Int) (l2 : Int) (l3 : Int) (l4 : Int) (l6 : Int) (l7 : Int) (G : gS) (Q : Int → gS → Prop) : Prop :=
  PX13_overrides_127 J l1 l2 l3 l4 l6 l7 0 G Q
set_option maxRecDepth 20000 in
theorem TX13_overrides_126 {j : Nat → rx_K} {J : Nat → List Int → gS → (Int → gS → Prop) → Prop} {l1 : Int} {l2 : Int} {l3 : Int} {l4 : Int} {l5 : Nat} {l6 : Int} {l7 : Int} {l8 : Nat} {G : gS} {Q : Int → gS → Prop} (hl1 : inI l1) (hl2 : inI l2) (hl3 : inI l3) (hl4 : inL l4) (hl5 : l5 % 8 ≠ 1) (hl6 : inI l6) (hl7 : inI l7) (hl8 : l8 % 8 ≠ 1) (hj0 : ∀ (l1 : Int) (l2 : Int) (l3 : Int) (l4 : Int) (l5 : Nat) (l6 : Int) (l7 : Nat) (l8 : Nat) (G : gS), (inI l1) → (inI l2) → (inI l3) → (inL l4) → (l5 % 8 ≠ 1) → (inI l6) → (l7 % 8 ≠ 1) → (l8 % 8 ≠ 1) → J 0 [l1, l2, l3, l4, l6] G Q → Tg W0 (j 0) [rf (16081), cI (l1), cI (l2), cI (l3), cL (l4), l5, cI (l6), l7, l8] [] G (fun r G => ∃ v, r = cI v ∧ (0 ≤ v ∧ v ≤ 1) ∧ Q v G)) (h : PX13_overrides_126 J l1 l2 l3 l4 l6 l7 G Q) : Tg W0 (vX13_overrides_126 j) [rf (16081), cI (l1), cI (l2), cI (l3), cL (l4), l5, cI (l6), cI (l7), l8] [] G (fun r G => ∃ v, r = cI v ∧ (0 ≤ v ∧ v ≤ 1) ∧ Q v G) := by
  unfold PX13_overrides_126 at h
  unfold vX13_overrides_126
  refine g_const (v := cI (0)) rfl ?_
  exact TX13_overrides_127 hl1 hl2 hl3 hl4 hl5 hl6 hl7 hl8 ⟨by omega, by omega⟩ hj0 h
def PX13_overrides_122 (J : Nat → List Int → gS → (Int → gS → Prop) → Prop) (l1 : Int) (l2 : Int) (l3 : Int) (l4 : Int) (l6 : Int) (l7 : Int) (G : gS) (Q : Int → gS → Prop) : Prop :=
  PX13_overrides_127 J l1 l2 l3 l4 l6 l7 1 G Q
set_option maxRecDepth 20000 in
theorem TX13_overrides_122 {j : Nat → rx_K} {J : Nat → List Int → gS → (Int → gS → Prop) → Prop} {l1 : Int} {l2 : Int} {l3 : Int} {l4 : Int} {l5 : Nat} {l6 : Int} {l7 : Int} {l8 : Nat} {G : gS} {Q : Int → gS → Prop} (hl1 : inI l1) (hl2 : inI l2) (hl3 : inI l3) (hl4 : inL l4) (hl5 : l5 % 8 ≠ 1) (hl6 : inI l6) (hl7 : inI l7) (hl8 : l8 % 8 ≠ 1) (hj0 : ∀ (l1 : Int) (l2 : Int) (l3 : Int) (l4 : Int) (l5 : Nat) (l6 : Int) (l7 : Nat) (l8 : Nat) (G : gS), (inI l1) → (inI l2) → (inI l3) → (inL l4) → (l5 % 8 ≠ 1) → (inI l6) → (l7 % 8 ≠ 1) → (l8 % 8 ≠ 1) → J 0 [l1, l2, l3, l4, l6] G Q → Tg W0 (j 0) [rf (16081), cI (l1), cI (l2), cI (l3), cL (l4), l5, cI (l6), l7, l8] [] G (fun r G => ∃ v, r = cI v ∧ (0 ≤ v ∧ v ≤ 1) ∧ Q v G)) (h : PX13_overrides_122 J l1 l2 l3 l4 l6 l7 G Q) : Tg W0 (vX13_overrides_122 j) [rf (16081), cI (l1), cI (l2), cI (l3), cL (l4), l5, cI (l6), cI (l7), l8] [] G (fun r G => ∃ v, r = cI v ∧ (0 ≤ v ∧ v ≤ 1) ∧ Q v G) := by
  unfold PX13_overrides_122 at h
  unfold vX13_overrides_122
  refine g_const (v := cI (1)) rfl ?_
  exact TX13_overrides_127 hl1 hl2 hl3 hl4 hl5 hl6 hl7 hl8 ⟨by omega, by omega⟩ hj0 h
def PX13_overrides_55 (J : Nat → List Int → gS → (Int → gS → Prop) → Prop) (l1 : Int) (l2 : Int) (l3 : Int) (l4 : Int) (l6 : Int) (G : gS) (Q : Int → gS → Prop) : Prop :=
  ((l3 = -2 → PX13_overrides_175 J l1 l2 l3 l4 l6 G Q) ∧ (¬ (l3 = -2) → ((l6 < 80 → PX13_ownMethod l3 l2 G (fun r29 G28 => inI r29 → ((r29 = -2 → PX13_overrides_126 J l1 l2 l3 l4 l6 r29 G28 Q) ∧ (¬ (r29 = -2) → PX13_isFree r29 G28 (fun r33 G32 => (0 ≤ r33 ∧ r33 ≤ 1) → ((r33 = 0 → PX13_overrides_126 J l1 l2 l3 l4 l6 r29 G32 Q) ∧ (¬ (r33 = 0) → ((0 : Int) ≤ r29 ∧ ((r29 : Int) < 7344 ∧ (inI (G32 16118 r29) → ((G32 16118 r29 < 2 → ((0 : Int) ≤ l3 ∧ ((l3 : Int) < 216 ∧ (inL (G32 16098 l3) → PX13_pack (G32 16098 l3) G32 (fun r44 G43 => inI r44 → (inL (lush l4 r44) → (inL (land (lush l4 r44) 1) → ((land (lush l4 r44) 1 = 1 → PX13_overrides_122 J l1 l2 l3 l4 l6 r29 G43 Q) ∧ (¬ (land (lush l4 r44) 1 = 1) → PX13_overrides_126 J l1 l2 l3 l4 l6 r29 G43 Q))))))))) ∧ (¬ (G32 16118 r29 < 2) → PX13_overrides_122 J l1 l2 l3 l4 l6 r29 G32 Q)))))))))))) ∧ (¬ (l6 < 80) → PX13_overrides_175 J l1 l2 l3 l4 l6 G Q))))
set_option maxRecDepth 20000 in
theorem TX13_overrides_55 {j : Nat → rx_K} {J : Nat → List Int → gS → (Int → gS → Prop) → Prop} {l1 : Int} {l2 : Int} {l3 : Int} {l4 : Int} {l5 : Nat} {l6 : Int} {l7 : Nat} {l8 : Nat} {G : gS} {Q : Int → gS → Prop} (hl1 : inI l1) (hl2 : inI l2) (hl3 : inI l3) (hl4 : inL l4) (hl5 : l5 % 8 ≠ 1) (hl6 : inI l6) (hl7 : l7 % 8 ≠ 1) (hl8 : l8 % 8 ≠ 1) (hj0 : ∀ (l1 : Int) (l2 : Int) (l3 : Int) (l4 : Int) (l5 : Nat) (l6 : Int) (l7 : Nat) (l8 : Nat) (G : gS), (inI l1) → (inI l2) → (inI l3) → (inL l4) → (l5 % 8 ≠ 1) → (inI l6) → (l7 % 8 ≠ 1) → (l8 % 8 ≠ 1) → J 0 [l1, l2, l3, l4, l6] G Q → Tg W0 (j 0) [rf (16081), cI (l1), cI (l2), cI (l3), cL (l4), l5, cI (l6), l7, l8] [] G (fun r G => ∃ v, r = cI v ∧ (0 ≤ v ∧ v ≤ 1) ∧ Q v G)) (h : PX13_overrides_55 J l1 l2 l3 l4 l6 G Q) : Tg W0 (vX13_overrides_55 j) [rf (16081), cI (l1), cI (l2), cI (l3), cL (l4), l5, cI (l6), l7, l8] [] G (fun r G => ∃ v, r = cI v ∧ (0 ≤ v ∧ v ≤ 1) ∧ Q v G) := by
  unfold PX13_overrides_55 at h
  unfold vX13_overrides_55
  refine g_ld (v := cI _) rfl (is_I _) ?_
  refine g_const (v := cI (-2)) rfl ?_
  refine g_eq2 hl3 ⟨by omega, by omega⟩ (fun b26 => ?_) (fun b26 => ?_)
  · replace h := h.1 b26
    exact TX13_overrides_175 hl1 hl2 hl3 hl4 hl5 hl6 hl7 hl8 hj0 h
  · replace h := h.2 b26
    unfold vX13_overrides_61
    refine g_ld (v := cI _) rfl (is_I _) ?_
    refine g_const (v := cI (80)) rfl ?_
    refine g_lt2 hl6 ⟨by omega, by omega⟩ (fun b27 => ?_) (fun b27 => ?_)
    · replace h := h.1 b27
      unfold vX13_overrides_68
      refine g_ld (v := rf _) rfl (is_R _) ?_
      refine g_ld (v := cI _) rfl (is_I _) ?_
      refine g_ld (v := cI _) rfl (is_I _) ?_
      refine g_callV (As := [_, _]) (ci := 13) oC13 (fun _ => rfl) ?_
      refine g_go1 (Nat.le_of_ble_eq_true rfl) (Tn_w (TX13_ownMethod hl3 hl2 h) fun _ G28 ⟨r29, e, i30, h⟩ => ?_)
      subst e
      refine ⟨n7_I _, ?_⟩
      replace h := h i30
      refine g_st (lv' := [_, _, _, _, _, _, _, _, _]) (is_I _) (Nat.le_of_ble_eq_true rfl) (Or.inr (n1_I _)) rfl ?_
      refine g_ld (v := cI _) rfl (is_I _) ?_
      refine g_const (v := cI (-2)) rfl ?_
      refine g_eq2 i30 ⟨by omega, by omega⟩ (fun b31 => ?_) (fun b31 => ?_)
      · replace h := h.1 b31
        exact TX13_overrides_126 hl1 hl2 hl3 hl4 hl5 hl6 i30 hl8 hj0 h
      · replace h := h.2 b31
        unfold vX13_overrides_83
        refine g_ld (v := rf _) rfl (is_R _) ?_
        refine g_ld (v := cI _) rfl (is_I _) ?_
        refine g_callV (As := [_]) (ci := 13) oC13 (fun _ => rfl) ?_
        refine g_go1 (Nat.le_of_ble_eq_true rfl) (Tn_w (TX13_isFree i30 h) fun _ G32 ⟨r33, e, i34, h⟩ => ?_)
        subst e
        refine ⟨n7_I _, ?_⟩
        replace h := h i34
        refine g_eq1 ⟨by omega, by omega⟩ (fun b35 => ?_) (fun b35 => ?_)
        · replace h := h.1 b35
          exact TX13_overrides_126 hl1 hl2 hl3 hl4 hl5 hl6 i30 hl8 hj0 h
        · replace h := h.2 b35
          unfold vX13_overrides_92
          refine g_ld (v := rf _) rfl (is_R _) ?_
          refine g_getF (v := 16118) oC13 (hC13_44) rfl (Nat.le_of_ble_eq_true rfl) (Nat.le_of_ble_eq_true rfl) ?_
          refine g_ld (v := cI _) rfl (is_I _) ?_
          obtain ⟨q36, q37, h⟩ := h
          refine g_aldI aC16118 q36 q37 rfl fun i38 => ?_
          replace h := h i38
          refine g_const (v := cI (2)) rfl ?_
          refine g_lt2 i38 ⟨by omega, by omega⟩ (fun b39 => ?_) (fun b39 => ?_)
          · replace h := h.1 b39
            unfold vX13_overrides_103
            refine g_ld (v := cL _) rfl (is_L _) ?_
            refine g_ld (v := rf _) rfl (is_R _) ?_
            refine g_getF (v := 16098) oC13 (hC13_24) rfl (Nat.le_of_ble_eq_true rfl) (Nat.le_of_ble_eq_true rfl) ?_
            refine g_ld (v := cI _) rfl (is_I _) ?_
            obtain ⟨q40, q41, h⟩ := h
            refine g_aldL aC16098 q40 q41 rfl fun i42 => ?_
            replace h := h i42
            refine g_callS (As := [_]) (fun _ => rfl) ?_
            refine g_go1 (by simp only [cs_c, cs_0, ct_I, ct_L, ct_R]; exact Nat.le_of_ble_eq_true rfl) (Tn_w (TX13_pack i42 h) fun _ G43 ⟨r44, e, i45, h⟩ => ?_)
            subst e
            refine ⟨n7_I _, ?_⟩
            replace h := h i45
            refine g_lush fun i46 => ?_
            replace h := h i46
            refine g_const (v := cL (1)) rfl ?_
            refine g_land fun i47 => ?_
            replace h := h i47
            refine g_const (v := cL (1)) rfl ?_
            refine g_leq i47 ⟨by omega, by omega⟩ (fun b48 => ?_) (fun b48 => ?_)
            · replace h := h.1 b48
              exact TX13_overrides_122 hl1 hl2 hl3 hl4 hl5 hl6 i30 hl8 hj0 h
            · replace h := h.2 b48
              exact TX13_overrides_126 hl1 hl2 hl3 hl4 hl5 hl6 i30 hl8 hj0 h
          · replace h := h.2 b39
            exact TX13_overrides_122 hl1 hl2 hl3 hl4 hl5 hl6 i30 hl8 hj0 h
    · replace h := h.2 b27
      exact TX13_overrides_175 hl1 hl2 hl3 hl4 hl5 hl6 hl7 hl8 hj0 h
def PX13_overrides_25 (J : Nat → List Int → gS → (Int → gS → Prop) → Prop) (l1 : Int) (l2 : Int) (G : gS) (Q : Int → gS → Prop) : Prop :=
  Q (0) G
set_option maxRecDepth 20000 in
theorem TX13_overrides_25 {j : Nat → rx_K} {J : Nat → List Int → gS → (Int → gS → Prop) → Prop} {l1 : Int} {l2 : Int} {l3 : Nat} {l4 : Nat} {l5 : Nat} {l6 : Nat} {l7 : Nat} {l8 : Nat} {G : gS} {Q : Int → gS → Prop} (hl1 : inI l1) (hl2 : inI l2) (hl3 : l3 % 8 ≠ 1) (hl4 : l4 % 8 ≠ 1) (hl5 : l5 % 8 ≠ 1) (hl6 : l6 % 8 ≠ 1) (hl7 : l7 % 8 ≠ 1) (hl8 : l8 % 8 ≠ 1) (hj0 : ∀ (l1 : Int) (l2 : Int) (l3 : Int) (l4 : Int) (l5 : Nat) (l6 : Int) (l7 : Nat) (l8 : Nat) (G : gS), (inI l1) → (inI l2) → (inI l3) → (inL l4) → (l5 % 8 ≠ 1) → (inI l6) → (l7 % 8 ≠ 1) → (l8 % 8 ≠ 1) → J 0 [l1, l2, l3, l4, l6] G Q → Tg W0 (j 0) [rf (16081), cI (l1), cI (l2), cI (l3), cL (l4), l5, cI (l6), l7, l8] [] G (fun r G => ∃ v, r = cI v ∧ (0 ≤ v ∧ v ≤ 1) ∧ Q v G)) (h : PX13_overrides_25 J l1 l2 G Q) : Tg W0 (vX13_overrides_25 j) [rf (16081), cI (l1), cI (l2), l3, l4, l5, l6, l7, l8] [] G (fun r G => ∃ v, r = cI v ∧ (0 ≤ v ∧ v ≤ 1) ∧ Q v G) := by
  unfold PX13_overrides_25 at h
  unfold vX13_overrides_25
  refine g_const (v := cI (0)) rfl ?_
  exact g_ret1 (is_Z (by omega)) ⟨_, rfl, (by omega), h⟩
def PX13_overrides_0 (J : Nat → List Int → gS → (Int → gS → Prop) → Prop) (a1 : Int) (a2 : Int) (G : gS) (Q : Int → gS → Prop) : Prop :=
  PX13_isFree a1 G (fun r2 G1 => (0 ≤ r2 ∧ r2 ≤ 1) → ((r2 = 0 → PX13_overrides_25 J a1 a2 G1 Q) ∧ (¬ (r2 = 0) → PX13_isFree a2 G1 (fun r6 G5 => (0 ≤ r6 ∧ r6 ≤ 1) → ((r6 = 0 → PX13_overrides_25 J a1 a2 G5 Q) ∧ (¬ (r6 = 0) → PX13_sameSign a1 a2 G5 (fun r10 G9 => (0 ≤ r10 ∧ r10 ≤ 1) → ((r10 = 0 → PX13_overrides_25 J a1 a2 G9 Q) ∧ (¬ (r10 = 0) → PX13_classOfMember a1 G9 (fun r14 G13 => inI r14 → ((0 : Int) ≤ r14 ∧ ((r14 : Int) < 216 ∧ (inL (G13 16098 r14) → PX13_pack (G13 16098 r14) G13 (fun r20 G19 => inI r20 → (inL (lshl 1 r20) → PX13_parent r14 G19 (fun r24 G23 => inI r24 → PX13_overrides_55 J a1 a2 r24 (lshl 1 r20) 0 G23 Q))))))))))))))))
set_option maxRecDepth 20000 in
theorem TX13_overrides_0 {j : Nat → rx_K} {J : Nat → List Int → gS → (Int → gS → Prop) → Prop} {a1 : Int} {a2 : Int} {G : gS} {Q : Int → gS → Prop} (ha1 : inI a1) (ha2 : inI a2) (hj0 : ∀ (l1 : Int) (l2 : Int) (l3 : Int) (l4 : Int) (l5 : Nat) (l6 : Int) (l7 : Nat) (l8 : Nat) (G : gS), (inI l1) → (inI l2) → (inI l3) → (inL l4) → (l5 % 8 ≠ 1) → (inI l6) → (l7 % 8 ≠ 1) → (l8 % 8 ≠ 1) → J 0 [l1, l2, l3, l4, l6] G Q → Tg W0 (j 0) [rf (16081), cI (l1), cI (l2), cI (l3), cL (l4), l5, cI (l6), l7, l8] [] G (fun r G => ∃ v, r = cI v ∧ (0 ≤ v ∧ v ≤ 1) ∧ Q v G)) (h : PX13_overrides_0 J a1 a2 G Q) : Tg W0 (vX13_overrides_0 j) [rf (16081), cI (a1), cI (a2), 7, 7, 7, 7, 7, 7] [] G (fun r G => ∃ v, r = cI v ∧ (0 ≤ v ∧ v ≤ 1) ∧ Q v G) := by
  unfold PX13_overrides_0 at h
  unfold vX13_overrides_0
  refine g_ld (v := rf _) rfl (is_R _) ?_
  refine g_ld (v := cI _) rfl (is_I _) ?_
  refine g_callV (As := [_]) (ci := 13) oC13 (fun _ => rfl) ?_
  refine g_go1 (Nat.le_of_ble_eq_true rfl) (Tn_w (TX13_isFree ha1 h) fun _ G1 ⟨r2, e, i3, h⟩ => ?_)
  subst e
  refine ⟨n7_I _, ?_⟩
  replace h := h i3
  refine g_eq1 ⟨by omega, by omega⟩ (fun b4 => ?_) (fun b4 => ?_)
  · replace h := h.1 b4
    exact TX13_overrides_25 ha1 ha2 (show 7 % 8 ≠ 1 by decide) (show 7 % 8 ≠ 1 by decide) (show 7 % 8 ≠ 1 by decide) (show 7 % 8 ≠ 1 by decide) (show 7 % 8 ≠ 1 by decide) (show 7 % 8 ≠ 1 by decide) hj0 h
  · replace h := h.2 b4
    unfold vX13_overrides_8
    refine g_ld (v := rf _) rfl (is_R _) ?_
    refine g_ld (v := cI _) rfl (is_I _) ?_
    refine g_callV (As := [_]) (ci := 13) oC13 (fun _ => rfl) ?_
    refine g_go1 (Nat.le_of_ble_eq_true rfl) (Tn_w (TX13_isFree ha2 h) fun _ G5 ⟨r6, e, i7, h⟩ => ?_)
    subst e
    refine ⟨n7_I _, ?_⟩
    replace h := h i7
    refine g_eq1 ⟨by omega, by omega⟩ (fun b8 => ?_) (fun b8 => ?_)
    · replace h := h.1 b8
      exact TX13_overrides_25 ha1 ha2 (show 7 % 8 ≠ 1 by decide) (show 7 % 8 ≠ 1 by decide) (show 7 % 8 ≠ 1 by decide) (show 7 % 8 ≠ 1 by decide) (show 7 % 8 ≠ 1 by decide) (show 7 % 8 ≠ 1 by decide) hj0 h
    · replace h := h.2 b8
      unfold vX13_overrides_16
      refine g_ld (v := rf _) rfl (is_R _) ?_
      refine g_ld (v := cI _) rfl (is_I _) ?_
      refine g_ld (v := cI _) rfl (is_I _) ?_
      refine g_callV (As := [_, _]) (ci := 13) oC13 (fun _ => rfl) ?_
      refine g_go1 (Nat.le_of_ble_eq_true rfl) (Tn_w (TX13_sameSign ha1 ha2 h) fun _ G9 ⟨r10, e, i11, h⟩ => ?_)
      subst e
      refine ⟨n7_I _, ?_⟩
      replace h := h i11
      refine g_eq1 ⟨by omega, by omega⟩ (fun b12 => ?_) (fun b12 => ?_)
      · replace h := h.1 b12
        exact TX13_overrides_25 ha1 ha2 (show 7 % 8 ≠ 1 by decide) (show 7 % 8 ≠ 1 by decide) (show 7 % 8 ≠ 1 by decide) (show 7 % 8 ≠ 1 by decide) (show 7 % 8 ≠ 1 by decide) (show 7 % 8 ≠ 1 by decide) hj0 h
      · replace h := h.2 b12
        unfold vX13_overrides_27
        refine g_ld (v := rf _) rfl (is_R _) ?_
        refine g_ld (v := cI _) rfl (is_I _) ?_
        refine g_callV (As := [_]) (ci := 13) oC13 (fun _ => rfl) ?_
        refine g_go1 (Nat.le_of_ble_eq_true rfl) (Tn_w (TX13_classOfMember ha1 h) fun _ G13 ⟨r14, e, i15, h⟩ => ?_)
        subst e
        refine ⟨n7_I _, ?_⟩
        replace h := h i15
        refine g_st (lv' := [_, _, _, _, _, _, _, _, _]) (is_I _) (Nat.le_of_ble_eq_true rfl) (Or.inr (n1_I _)) rfl ?_
        refine g_const (v := cL (1)) rfl ?_
        refine g_ld (v := rf _) rfl (is_R _) ?_
        refine g_getF (v := 16098) oC13 (hC13_24) rfl (Nat.le_of_ble_eq_true rfl) (Nat.le_of_ble_eq_true rfl) ?_
        refine g_ld (v := cI _) rfl (is_I _) ?_
        obtain ⟨q16, q17, h⟩ := h
        refine g_aldL aC16098 q16 q17 rfl fun i18 => ?_
        replace h := h i18
        refine g_callS (As := [_]) (fun _ => rfl) ?_
        refine g_go1 (by simp only [cs_c, cs_0, ct_I, ct_L, ct_R]; exact Nat.le_of_ble_eq_true rfl) (Tn_w (TX13_pack i18 h) fun _ G19 ⟨r20, e, i21, h⟩ => ?_)
        subst e
        refine ⟨n7_I _, ?_⟩
        replace h := h i21
        refine g_lshl fun i22 => ?_
        replace h := h i22
        refine g_stL (lv' := [_, _, _, _, _, _, _, _, _]) (Nat.le_of_ble_eq_true rfl) (Or.inr (n1_I _)) rfl ?_
        refine g_const (v := cI (0)) rfl ?_
        refine g_st (lv' := [_, _, _, _, _, _, _, _, _]) (is_I _) (Nat.le_of_ble_eq_true rfl) (Or.inr (show 7 % 8 ≠ 1 by decide)) rfl ?_
        refine g_ld (v := rf _) rfl (is_R _) ?_
        refine g_ld (v := cI _) rfl (is_I _) ?_
        refine g_callV (As := [_]) (ci := 13) oC13 (fun _ => rfl) ?_
        refine g_go1 (Nat.le_of_ble_eq_true rfl) (Tn_w (TX13_parent i15 h) fun _ G23 ⟨r24, e, i25, h⟩ => ?_)
        subst e
        refine ⟨n7_I _, ?_⟩
        replace h := h i25
        refine g_st (lv' := [_, _, _, _, _, _, _, _, _]) (is_I _) (Nat.le_of_ble_eq_true rfl) (Or.inr (n1_I _)) rfl ?_
        exact TX13_overrides_55 ha1 ha2 i25 i22 (show 7 % 8 ≠ 1 by decide) ⟨by omega, by omega⟩ (show 7 % 8 ≠ 1 by decide) (show 7 % 8 ≠ 1 by decide) hj0 h
def PX13_overrides_J : Nat → Nat → List Int → gS → (Int → gS → Prop) → Prop
  | 0, _, _, _, _ => False
  | f + 1, h, L, G, Q => match h, L with
    | 0, [l1, l2, l3, l4, l6] => PX13_overrides_55 (PX13_overrides_J f) l1 l2 l3 l4 l6 G Q
    | _, _ => False
theorem TX13_overrides_J {Q : Int → gS → Prop} : ∀ f N : Nat, f ≤ N → (∀ (l1 : Int) (l2 : Int) (l3 : Int) (l4 : Int) (l5 : Nat) (l6 : Int) (l7 : Nat) (l8 : Nat) (G : gS), (inI l1) → (inI l2) → (inI l3) → (inL l4) → (l5 % 8 ≠ 1) → (inI l6) → (l7 % 8 ≠ 1) → (l8 % 8 ≠ 1) → (PX13_overrides_J f) 0 [l1, l2, l3, l4, l6] G Q → Tg W0 (rx_J vhX13_overrides N 0) [rf (16081), cI (l1), cI (l2), cI (l3), cL (l4), l5, cI (l6), l7, l8] [] G (fun r G => ∃ v, r = cI v ∧ (0 ≤ v ∧ v ≤ 1) ∧ Q v G)) := by
  intro f
  induction f with
  | zero => exact fun N _ => fun _ _ _ _ _ _ _ _ _ _ _ _ _ _ _ _ _ h => h.elim
  | succ f ih =>
    intro N hN
    obtain ⟨M, rfl⟩ : ∃ M, N = M + 1 := ⟨N - 1, by omega⟩
    have ih := ih M (by omega)
    exact fun _ _ _ _ _ _ _ _ _ hl1 hl2 hl3 hl4 hl5 hl6 hl7 hl8 h => show Tg W0 (vX13_overrides_55 (rx_J vhX13_overrides M)) _ _ _ _ from TX13_overrides_55 hl1 hl2 hl3 hl4 hl5 hl6 hl7 hl8 ih h
def PX13_overrides (a1 : Int) (a2 : Int) (G : gS) (Q : Int → gS → Prop) : Prop := ∃ f : Nat, f ≤ 4000000000 ∧ PX13_overrides_0 (PX13_overrides_J f) a1 a2 G Q
theorem TX13_overrides {a1 : Int} {a2 : Int} {G : gS} {Q : Int → gS → Prop} (ha1 : inI a1) (ha2 : inI a2) (h : PX13_overrides a1 a2 G Q) : Tn W0 FX13_overrides [rf (16081), cI (a1), cI (a2)] G (fun r G => ∃ v, r = cI v ∧ (0 ≤ v ∧ v ≤ 1) ∧ Q v G) := by
  obtain ⟨f, hf, h⟩ := h
  have hJ := TX13_overrides_J (Q := Q) f 4000000000 hf
  unfold FX13_overrides
  refine g_ent (lv' := [rf (16081), cI (a1), cI (a2), 7, 7, 7, 7, 7, 7]) (flR (flI (flI fl0))) (Nat.le_of_ble_eq_true rfl) rfl ?_
  exact TX13_overrides_0 ha1 ha2 hJ h
end DE

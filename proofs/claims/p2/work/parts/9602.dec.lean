section DE
def PX0_meant_343 (J : Nat → List Int → gS → (Int → gS → Prop) → Prop) (l1 : Int) (l2 : Int) (l4 : Int) (l5 : Int) (l6 : Int) (l7 : Int) (l8 : Int) (l9 : Int) (l10 : Int) (G : gS) (Q : Int → gS → Prop) : Prop :=
  ((l9 = 0 → (inI (l8 + 1) ∧ J 3 [l1, l2, l4, l5, l6, l7, l8 + 1] G Q)) ∧ (¬ (l9 = 0) → ((0 : Int) ≤ l8 ∧ ((l8 : Int) < 1280 ∧ (((G 818 l8 = -1 ∨ isO W0 7 (G 818 l8)) ∧ ∀ v, W0.2 818 l8 = some v → G 818 l8 = v) → Q (G 818 l8) G)))))
set_option maxRecDepth 20000 in
theorem TX0_meant_343 {j : Nat → rx_K} {J : Nat → List Int → gS → (Int → gS → Prop) → Prop} {l1 : Int} {l2 : Int} {l3 : Nat} {l4 : Int} {l5 : Int} {l6 : Int} {l7 : Int} {l8 : Int} {l9 : Int} {l10 : Int} {l11 : Nat} {l12 : Nat} {l13 : Nat} {G : gS} {Q : Int → gS → Prop} (hl1 : inI l1) (hl2 : inL l2) (hl3 : l3 % 8 ≠ 1) (hl5 : inI l5) (hl6 : inI l6) (hl7 : inI l7) (hl8 : inI l8) (hl9 : inI l9) (hl10 : inI l10) (hl11 : l11 % 8 ≠ 1) (hl12 : l12 % 8 ≠ 1) (hl13 : l13 % 8 ≠ 1) (hj0 : ∀ (l1 : Int) (l2 : Int) (l3 : Nat) (l4 : Int) (l5 : Int) (l6 : Int) (l7 : Int) (l8 : Nat) (l9 : Nat) (l10 : Nat) (l11 : Nat) (l12 : Nat) (l13 : Nat) (G : gS), (inI l1) → (inL l2) → (l3 % 8 ≠ 1) → (inI l5) → (inI l6) → (l8 % 8 ≠ 1) → (l9 % 8 ≠ 1) → (l10 % 8 ≠ 1) → (l11 % 8 ≠ 1) → (l12 % 8 ≠ 1) → (l13 % 8 ≠ 1) → J 0 [l1, l2, l4, l5, l6, l7] G Q → Tg W0 (j 0) [rf (815), cI (l1), cL (l2), l3, rf (l4), cI (l5), cI (l6), rf (l7), l8, l9, l10, l11, l12, l13] [] G (fun r G => ∃ v, r = rf v ∧ Q v G)) (hj1 : ∀ (l1 : Int) (l2 : Int) (l3 : Nat) (l4 : Int) (l5 : Int) (l6 : Int) (l7 : Int) (l8 : Int) (l9 : Nat) (l10 : Nat) (l11 : Nat) (l12 : Nat) (l13 : Nat) (G : gS), (inI l1) → (inL l2) → (l3 % 8 ≠ 1) → (inI l5) → (inI l6) → (inI l7) → (inI l8) → (l9 % 8 ≠ 1) → (l10 % 8 ≠ 1) → (l11 % 8 ≠ 1) → (l12 % 8 ≠ 1) → (l13 % 8 ≠ 1) → J 1 [l1, l2, l4, l5, l6, l7, l8] G Q → Tg W0 (j 1) [rf (815), cI (l1), cL (l2), l3, rf (l4), cI (l5), cI (l6), cI (l7), cI (l8), l9, l10, l11, l12, l13] [] G (fun r G => ∃ v, r = rf v ∧ Q v G)) (hj2 : ∀ (l1 : Int) (l2 : Int) (l3 : Nat) (l4 : Int) (l5 : Int) (l6 : Int) (l7 : Int) (l8 : Int) (l9 : Int) (l10 : Int) (l11 : Int) (l12 : Nat) (l13 : Nat) (G : gS), (inI l1) → (inL l2) → (l3 % 8 ≠ 1) → (inI l5) → (inI l6) → (inI l7) → (inI l8) → (inI l10) → (inI l11) → (l12 % 8 ≠ 1) → (l13 % 8 ≠ 1) → J 2 [l1, l2, l4, l5, l6, l7, l8, l9, l10, l11] G Q → Tg W0 (j 2) [rf (815), cI (l1), cL (l2), l3, rf (l4), cI (l5), cI (l6), cI (l7), cI (l8), rf (l9), cI (l10), cI (l11), l12, l13] [] G (fun r G => ∃ v, r = rf v ∧ Q v G)) (hj3 : ∀ (l1 : Int) (l2 : Int) (l3 : Nat) (l4 : Int) (l5 : Int) (l6 : Int) (l7 : Int) (l8 : Int) (l9 : Nat) (l10 : Nat) (l11 : Nat) (l12 : Nat) (l13 : Nat) (G : gS), (inI l1) → (inL l2) → (l3 % 8 ≠ 1) → (inI l5) → (inI l6) → (inI l7) → (inI l8) → (l9 % 8 ≠ 1) → (l10 % 8 ≠ 1) → (l11 % 8 ≠ 1) → (l12 % 8 ≠ 1) → (l13 % 8 ≠ 1) → J 3 [l1, l2, l4, l5, l6, l7, l8] G Q → Tg W0 (j 3) [rf (815), cI (l1), cL (l2), l3, rf (l4), cI (l5), cI (l6), cI (l7), cI (l8), l9, l10, l11, l12, l13] [] G (fun r G => ∃ v, r = rf v ∧ Q v G)) (hj4 : ∀ (l1 : Int) (l2 : Int) (l3 : Nat) (l4 : Int) (l5 : Int) (l6 : Int) (l7 : Int) (l8 : Int) (l9 : Int) (l10 : Int) (l11 : Nat) (l12 : Nat) (l13 : Nat) (G : gS), (inI l1) → (inL l2) → (l3 % 8 ≠ 1) → (inI l5) → (inI l6) → (inI l7) → (inI l8) → (inI l9) → (inI l10) → (l11 % 8 ≠ 1) → (l12 % 8 ≠ 1) → (l13 % 8 ≠ 1) → J 4 [l1, l2, l4, l5, l6, l7, l8, l9, l10] G Q → Tg W0 (j 4) [rf (815), cI (l1), cL (l2), l3, rf (l4), cI (l5), cI (l6), cI (l7), cI (l8), cI (l9), cI (l10), l11, l12, l13] [] G (fun r G => ∃ v, r = rf v ∧ Q v G)) (hj5 : ∀ (l1 : Int) (l2 : Int) (l3 : Nat) (l4 : Int) (l5 : Int) (l6 : Int) (l7 : Int) (l8 : Int) (l9 : Int) (l10 : Int) (l11 : Int) (l12 : Nat) (l13 : Nat) (G : gS), (inI l1) → (inL l2) → (l3 % 8 ≠ 1) → (inI l5) → (inI l6) → (inI l7) → (inI l8) → (inI l9) → (inI l10) → (inI l11) → (l12 % 8 ≠ 1) → (l13 % 8 ≠ 1) → J 5 [l1, l2, l4, l5, l6, l7, l8, l9, l10, l11] G Q → Tg W0 (j 5) [rf (815), cI (l1), cL (l2), l3, rf (l4), cI (l5), cI (l6), cI (l7), cI (l8), cI (l9), cI (l10), cI (l11), l12, l13] [] G (fun r G => ∃ v, r = rf v ∧ Q v G)) (h : PX0_meant_343 J l1 l2 l4 l5 l6 l7 l8 l9 l10 G Q) : Tg W0 (vX0_meant_343 j) [rf (815), cI (l1), cL (l2), l3, rf (l4), cI (l5), cI (l6), cI (l7), cI (l8), cI (l9), cI (l10), l11, l12, l13] [] G (fun r G => ∃ v, r = rf v ∧ Q v G) := by
  unfold PX0_meant_343 at h
  unfold vX0_meant_343
  refine g_ld (v := cI _) rfl (is_I _) ?_
  refine g_eq1 hl9 (fun b56 => ?_) (fun b56 => ?_)
  · replace h := h.1 b56
    unfold vX0_meant_356
    refine g_inc (lv' := [_, _, _, _, _, _, _, _, _, _, _, _, _, _]) rfl (Nat.le_of_ble_eq_true rfl) (Or.inr (n1_I _)) rfl ?_
    obtain ⟨q57, h⟩ := h
    exact hj3 _ _ _ _ _ _ _ _ _ _ _ _ _ _ hl1 hl2 hl3 hl5 hl6 hl7 q57 (n1_I _) (n1_I _) hl11 hl12 hl13 h
  · replace h := h.2 b56
    unfold vX0_meant_348
    refine g_ld (v := rf _) rfl (is_R _) ?_
    refine g_getF (v := 818) oC0 (hC0_13) rfl (Nat.le_of_ble_eq_true rfl) (Nat.le_of_ble_eq_true rfl) ?_
    refine g_ld (v := cI _) rfl (is_I _) ?_
    obtain ⟨q58, q59, h⟩ := h
    refine g_aldRF (c := 7) aC818 q58 q59 rfl (by decide) fun i60 => ?_
    replace h := h i60
    exact g_ret1 (is_R _) ⟨_, rfl, h⟩
def PX0_meant_337 (J : Nat → List Int → gS → (Int → gS → Prop) → Prop) (l1 : Int) (l2 : Int) (l4 : Int) (l5 : Int) (l6 : Int) (l7 : Int) (l8 : Int) (l9 : Int) (l10 : Int) (l11 : Int) (G : gS) (Q : Int → gS → Prop) : Prop :=
  (inI (l10 + 1) ∧ J 4 [l1, l2, l4, l5, l6, l7, l8, l9, l10 + 1] G Q)
set_option maxRecDepth 20000 in
theorem TX0_meant_337 {j : Nat → rx_K} {J : Nat → List Int → gS → (Int → gS → Prop) → Prop} {l1 : Int} {l2 : Int} {l3 : Nat} {l4 : Int} {l5 : Int} {l6 : Int} {l7 : Int} {l8 : Int} {l9 : Int} {l10 : Int} {l11 : Int} {l12 : Nat} {l13 : Nat} {G : gS} {Q : Int → gS → Prop} (hl1 : inI l1) (hl2 : inL l2) (hl3 : l3 % 8 ≠ 1) (hl5 : inI l5) (hl6 : inI l6) (hl7 : inI l7) (hl8 : inI l8) (hl9 : inI l9) (hl10 : inI l10) (hl11 : inI l11) (hl12 : l12 % 8 ≠ 1) (hl13 : l13 % 8 ≠ 1) (hj0 : ∀ (l1 : Int) (l2 : Int) (l3 : Nat) (l4 : Int) (l5 : Int) (l6 : Int) (l7 : Int) (l8 : Nat) (l9 : Nat) (l10 : Nat) (l11 : Nat) (l12 : Nat) (l13 : Nat) (G : gS), (inI l1) → (inL l2) → (l3 % 8 ≠ 1) → (inI l5) → (inI l6) → (l8 % 8 ≠ 1) → (l9 % 8 ≠ 1) → (l10 % 8 ≠ 1) → (l11 % 8 ≠ 1) → (l12 % 8 ≠ 1) → (l13 % 8 ≠ 1) → J 0 [l1, l2, l4, l5, l6, l7] G Q → Tg W0 (j 0) [rf (815), cI (l1), cL (l2), l3, rf (l4), cI (l5), cI (l6), rf (l7), l8, l9, l10, l11, l12, l13] [] G (fun r G => ∃ v, r = rf v ∧ Q v G)) (hj1 : ∀ (l1 : Int) (l2 : Int) (l3 : Nat) (l4 : Int) (l5 : Int) (l6 : Int) (l7 : Int) (l8 : Int) (l9 : Nat) (l10 : Nat) (l11 : Nat) (l12 : Nat) (l13 : Nat) (G : gS), (inI l1) → (inL l2) → (l3 % 8 ≠ 1) → (inI l5) → (inI l6) → (inI l7) → (inI l8) → (l9 % 8 ≠ 1) → (l10 % 8 ≠ 1) → (l11 % 8 ≠ 1) → (l12 % 8 ≠ 1) → (l13 % 8 ≠ 1) → J 1 [l1, l2, l4, l5, l6, l7, l8] G Q → Tg W0 (j 1) [rf (815), cI (l1), cL (l2), l3, rf (l4), cI (l5), cI (l6), cI (l7), cI (l8), l9, l10, l11, l12, l13] [] G (fun r G => ∃ v, r = rf v ∧ Q v G)) (hj2 : ∀ (l1 : Int) (l2 : Int) (l3 : Nat) (l4 : Int) (l5 : Int) (l6 : Int) (l7 : Int) (l8 : Int) (l9 : Int) (l10 : Int) (l11 : Int) (l12 : Nat) (l13 : Nat) (G : gS), (inI l1) → (inL l2) → (l3 % 8 ≠ 1) → (inI l5) → (inI l6) → (inI l7) → (inI l8) → (inI l10) → (inI l11) → (l12 % 8 ≠ 1) → (l13 % 8 ≠ 1) → J 2 [l1, l2, l4, l5, l6, l7, l8, l9, l10, l11] G Q → Tg W0 (j 2) [rf (815), cI (l1), cL (l2), l3, rf (l4), cI (l5), cI (l6), cI (l7), cI (l8), rf (l9), cI (l10), cI (l11), l12, l13] [] G (fun r G => ∃ v, r = rf v ∧ Q v G)) (hj3 : ∀ (l1 : Int) (l2 : Int) (l3 : Nat) (l4 : Int) (l5 : Int) (l6 : Int) (l7 : Int) (l8 : Int) (l9 : Nat) (l10 : Nat) (l11 : Nat) (l12 : Nat) (l13 : Nat) (G : gS), (inI l1) → (inL l2) → (l3 % 8 ≠ 1) → (inI l5) → (inI l6) → (inI l7) → (inI l8) → (l9 % 8 ≠ 1) → (l10 % 8 ≠ 1) → (l11 % 8 ≠ 1) → (l12 % 8 ≠ 1) → (l13 % 8 ≠ 1) → J 3 [l1, l2, l4, l5, l6, l7, l8] G Q → Tg W0 (j 3) [rf (815), cI (l1), cL (l2), l3, rf (l4), cI (l5), cI (l6), cI (l7), cI (l8), l9, l10, l11, l12, l13] [] G (fun r G => ∃ v, r = rf v ∧ Q v G)) (hj4 : ∀ (l1 : Int) (l2 : Int) (l3 : Nat) (l4 : Int) (l5 : Int) (l6 : Int) (l7 : Int) (l8 : Int) (l9 : Int) (l10 : Int) (l11 : Nat) (l12 : Nat) (l13 : Nat) (G : gS), (inI l1) → (inL l2) → (l3 % 8 ≠ 1) → (inI l5) → (inI l6) → (inI l7) → (inI l8) → (inI l9) → (inI l10) → (l11 % 8 ≠ 1) → (l12 % 8 ≠ 1) → (l13 % 8 ≠ 1) → J 4 [l1, l2, l4, l5, l6, l7, l8, l9, l10] G Q → Tg W0 (j 4) [rf (815), cI (l1), cL (l2), l3, rf (l4), cI (l5), cI (l6), cI (l7), cI (l8), cI (l9), cI (l10), l11, l12, l13] [] G (fun r G => ∃ v, r = rf v ∧ Q v G)) (hj5 : ∀ (l1 : Int) (l2 : Int) (l3 : Nat) (l4 : Int) (l5 : Int) (l6 : Int) (l7 : Int) (l8 : Int) (l9 : Int) (l10 : Int) (l11 : Int) (l12 : Nat) (l13 : Nat) (G : gS), (inI l1) → (inL l2) → (l3 % 8 ≠ 1) → (inI l5) → (inI l6) → (inI l7) → (inI l8) → (inI l9) → (inI l10) → (inI l11) → (l12 % 8 ≠ 1) → (l13 % 8 ≠ 1) → J 5 [l1, l2, l4, l5, l6, l7, l8, l9, l10, l11] G Q → Tg W0 (j 5) [rf (815), cI (l1), cL (l2), l3, rf (l4), cI (l5), cI (l6), cI (l7), cI (l8), cI (l9), cI (l10), cI (l11), l12, l13] [] G (fun r G => ∃ v, r = rf v ∧ Q v G)) (h : PX0_meant_337 J l1 l2 l4 l5 l6 l7 l8 l9 l10 l11 G Q) : Tg W0 (vX0_meant_337 j) [rf (815), cI (l1), cL (l2), l3, rf (l4), cI (l5), cI (l6), cI (l7), cI (l8), cI (l9), cI (l10), cI (l11), l12, l13] [] G (fun r G => ∃ v, r = rf v ∧ Q v G) := by
  unfold PX0_meant_337 at h
  unfold vX0_meant_337
  refine g_inc (lv' := [_, _, _, _, _, _, _, _, _, _, _, _, _, _]) rfl (Nat.le_of_ble_eq_true rfl) (Or.inr (n1_I _)) rfl ?_
  obtain ⟨q96, h⟩ := h
  exact hj4 _ _ _ _ _ _ _ _ _ _ _ _ _ _ hl1 hl2 hl3 hl5 hl6 hl7 hl8 hl9 q96 (n1_I _) hl12 hl13 h
def PX0_meant_284 (J : Nat → List Int → gS → (Int → gS → Prop) → Prop) (l1 : Int) (l2 : Int) (l4 : Int) (l5 : Int) (l6 : Int) (l7 : Int) (l8 : Int) (l9 : Int) (l10 : Int) (l11 : Int) (G : gS) (Q : Int → gS → Prop) : Prop :=
  ((l11 < l6 → ((l9 = 0 → PX0_meant_337 J l1 l2 l4 l5 l6 l7 l8 l9 l10 l11 G Q) ∧ (¬ (l9 = 0) → ((G 815 0 = -1 ∨ isO W0 11 (G 815 0)) → ((0 : Int) ≤ l8 ∧ ((l8 : Int) < 1280 ∧ (((G 818 l8 = -1 ∨ isO W0 7 (G 818 l8)) ∧ ∀ v, W0.2 818 l8 = some v → G 818 l8 = v) → (isO W0 7 (G 818 l8) ∧ ((0 : Int) ≤ l11 ∧ ((l11 : Int) < 4 ∧ (inL (G ((G 818 l8) + 1) l11) → ((0 : Int) ≤ l10 ∧ ((l10 : Int) < 1280 ∧ (((G 818 l10 = -1 ∨ isO W0 7 (G 818 l10)) ∧ ∀ v, W0.2 818 l10 = some v → G 818 l10 = v) → (isO W0 7 (G 818 l10) ∧ ((0 : Int) ≤ l11 ∧ ((l11 : Int) < 4 ∧ (inL (G ((G 818 l10) + 1) l11) → (isO W0 11 (G 815 0) ∧ PX11_fits (G 815 0) (G ((G 818 l8) + 1) l11) (G ((G 818 l10) + 1) l11) G (fun r80 G79 => (0 ≤ r80 ∧ r80 ≤ 1) → (inI (l11 + 1) ∧ J 5 [l1, l2, l4, l5, l6, l7, l8, r80, l10, l11 + 1] G79 Q))))))))))))))))))))) ∧ (¬ (l11 < l6) → PX0_meant_337 J l1 l2 l4 l5 l6 l7 l8 l9 l10 l11 G Q))
set_option maxRecDepth 20000 in
theorem TX0_meant_284 {j : Nat → rx_K} {J : Nat → List Int → gS → (Int → gS → Prop) → Prop} {l1 : Int} {l2 : Int} {l3 : Nat} {l4 : Int} {l5 : Int} {l6 : Int} {l7 : Int} {l8 : Int} {l9 : Int} {l10 : Int} {l11 : Int} {l12 : Nat} {l13 : Nat} {G : gS} {Q : Int → gS → Prop} (hl1 : inI l1) (hl2 : inL l2) (hl3 : l3 % 8 ≠ 1) (hl5 : inI l5) (hl6 : inI l6) (hl7 : inI l7) (hl8 : inI l8) (hl9 : inI l9) (hl10 : inI l10) (hl11 : inI l11) (hl12 : l12 % 8 ≠ 1) (hl13 : l13 % 8 ≠ 1) (hj0 : ∀ (l1 : Int) (l2 : Int) (l3 : Nat) (l4 : Int) (l5 : Int) (l6 : Int) (l7 : Int) (l8 : Nat) (l9 : Nat) (l10 : Nat) (l11 : Nat) (l12 : Nat) (l13 : Nat) (G : gS), (inI l1) → (inL l2) → (l3 % 8 ≠ 1) → (inI l5) → (inI l6) → (l8 % 8 ≠ 1) → (l9 % 8 ≠ 1) → (l10 % 8 ≠ 1) → (l11 % 8 ≠ 1) → (l12 % 8 ≠ 1) → (l13 % 8 ≠ 1) → J 0 [l1, l2, l4, l5, l6, l7] G Q → Tg W0 (j 0) [rf (815), cI (l1), cL (l2), l3, rf (l4), cI (l5), cI (l6), rf (l7), l8, l9, l10, l11, l12, l13] [] G (fun r G => ∃ v, r = rf v ∧ Q v G)) (hj1 : ∀ (l1 : Int) (l2 : Int) (l3 : Nat) (l4 : Int) (l5 : Int) (l6 : Int) (l7 : Int) (l8 : Int) (l9 : Nat) (l10 : Nat) (l11 : Nat) (l12 : Nat) (l13 : Nat) (G : gS), (inI l1) → (inL l2) → (l3 % 8 ≠ 1) → (inI l5) → (inI l6) → (inI l7) → (inI l8) → (l9 % 8 ≠ 1) → (l10 % 8 ≠ 1) → (l11 % 8 ≠ 1) → (l12 % 8 ≠ 1) → (l13 % 8 ≠ 1) → J 1 [l1, l2, l4, l5, l6, l7, l8] G Q → Tg W0 (j 1) [rf (815), cI (l1), cL (l2), l3, rf (l4), cI (l5), cI (l6), cI (l7), cI (l8), l9, l10, l11, l12, l13] [] G (fun r G => ∃ v, r = rf v ∧ Q v G)) (hj2 : ∀ (l1 : Int) (l2 : Int) (l3 : Nat) (l4 : Int) (l5 : Int) (l6 : Int) (l7 : Int) (l8 : Int) (l9 : Int) (l10 : Int) (l11 : Int) (l12 : Nat) (l13 : Nat) (G : gS), (inI l1) → (inL l2) → (l3 % 8 ≠ 1) → (inI l5) → (inI l6) → (inI l7) → (inI l8) → (inI l10) → (inI l11) → (l12 % 8 ≠ 1) → (l13 % 8 ≠ 1) → J 2 [l1, l2, l4, l5, l6, l7, l8, l9, l10, l11] G Q → Tg W0 (j 2) [rf (815), cI (l1), cL (l2), l3, rf (l4), cI (l5), cI (l6), cI (l7), cI (l8), rf (l9), cI (l10), cI (l11), l12, l13] [] G (fun r G => ∃ v, r = rf v ∧ Q v G)) (hj3 : ∀ (l1 : Int) (l2 : Int) (l3 : Nat) (l4 : Int) (l5 : Int) (l6 : Int) (l7 : Int) (l8 : Int) (l9 : Nat) (l10 : Nat) (l11 : Nat) (l12 : Nat) (l13 : Nat) (G : gS), (inI l1) → (inL l2) → (l3 % 8 ≠ 1) → (inI l5) → (inI l6) → (inI l7) → (inI l8) → (l9 % 8 ≠ 1) → (l10 % 8 ≠ 1) → (l11 % 8 ≠ 1) → (l12 % 8 ≠ 1) → (l13 % 8 ≠ 1) → J 3 [l1, l2, l4, l5, l6, l7, l8] G Q → Tg W0 (j 3) [rf (815), cI (l1), cL (l2), l3, rf (l4), cI (l5), cI (l6), cI (l7), cI (l8), l9, l10, l11, l12, l13] [] G (fun r G => ∃ v, r = rf v ∧ Q v G)) (hj4 : ∀ (l1 : Int) (l2 : Int) (l3 : Nat) (l4 : Int) (l5 : Int) (l6 : Int) (l7 : Int) (l8 : Int) (l9 : Int) (l10 : Int) (l11 : Nat) (l12 : Nat) (l13 : Nat) (G : gS), (inI l1) → (inL l2) → (l3 % 8 ≠ 1) → (inI l5) → (inI l6) → (inI l7) → (inI l8) → (inI l9) → (inI l10) → (l11 % 8 ≠ 1) → (l12 % 8 ≠ 1) → (l13 % 8 ≠ 1) → J 4 [l1, l2, l4, l5, l6, l7, l8, l9, l10] G Q → Tg W0 (j 4) [rf (815), cI (l1), cL (l2), l3, rf (l4), cI (l5), cI (l6), cI (l7), cI (l8), cI (l9), cI (l10), l11, l12, l13] [] G (fun r G => ∃ v, r = rf v ∧ Q v G)) (hj5 : ∀ (l1 : Int) (l2 : Int) (l3 : Nat) (l4 : Int) (l5 : Int) (l6 : Int) (l7 : Int) (l8 : Int) (l9 : Int) (l10 : Int) (l11 : Int) (l12 : Nat) (l13 : Nat) (G : gS), (inI l1) → (inL l2) → (l3 % 8 ≠ 1) → (inI l5) → (inI l6) → (inI l7) → (inI l8) → (inI l9) → (inI l10) → (inI l11) → (l12 % 8 ≠ 1) → (l13 % 8 ≠ 1) → J 5 [l1, l2, l4, l5, l6, l7, l8, l9, l10, l11] G Q → Tg W0 (j 5) [rf (815), cI (l1), cL (l2), l3, rf (l4), cI (l5), cI (l6), cI (l7), cI (l8), cI (l9), cI (l10), cI (l11), l12, l13] [] G (fun r G => ∃ v, r = rf v ∧ Q v G)) (h : PX0_meant_284 J l1 l2 l4 l5 l6 l7 l8 l9 l10 l11 G Q) : Tg W0 (vX0_meant_284 j) [rf (815), cI (l1), cL (l2), l3, rf (l4), cI (l5), cI (l6), cI (l7), cI (l8), cI (l9), cI (l10), cI (l11), l12, l13] [] G (fun r G => ∃ v, r = rf v ∧ Q v G) := by
  unfold PX0_meant_284 at h
  unfold vX0_meant_284
  refine g_ld (v := cI _) rfl (is_I _) ?_
  refine g_ld (v := cI _) rfl (is_I _) ?_
  refine g_lt2 hl11 hl6 (fun b61 => ?_) (fun b61 => ?_)
  · replace h := h.1 b61
    unfold vX0_meant_291
    refine g_ld (v := cI _) rfl (is_I _) ?_
    refine g_eq1 hl9 (fun b62 => ?_) (fun b62 => ?_)
    · replace h := h.1 b62
      exact TX0_meant_337 hl1 hl2 hl3 hl5 hl6 hl7 hl8 hl9 hl10 hl11 hl12 hl13 hj0 hj1 hj2 hj3 hj4 hj5 h
    · replace h := h.2 b62
      unfold vX0_meant_296
      refine g_ld (v := rf _) rfl (is_R _) ?_
      refine g_getR (kz := 0) (c := 11) oC0 rfl (Nat.le_of_ble_eq_true rfl) rfl (by decide) fun i63 => ?_
      replace h := h i63
      refine g_ld (v := rf _) rfl (is_R _) ?_
      refine g_getF (v := 818) oC0 (hC0_13) rfl (Nat.le_of_ble_eq_true rfl) (Nat.le_of_ble_eq_true rfl) ?_
      refine g_ld (v := cI _) rfl (is_I _) ?_
      obtain ⟨q64, q65, h⟩ := h
      refine g_aldRF (c := 7) aC818 q64 q65 rfl (by decide) fun i66 => ?_
      replace h := h i66
      obtain ⟨q67, h⟩ := h
      refine g_getF q67 (ff7_10 q67).1 rfl (Nat.le_of_ble_eq_true rfl) (Nat.le_of_ble_eq_true rfl) ?_
      refine g_ld (v := cI _) rfl (is_I _) ?_
      obtain ⟨q68, q69, h⟩ := h
      refine g_aldL (ff7_10 q67).2 q68 q69 rfl fun i70 => ?_
      replace h := h i70
      refine g_ld (v := rf _) rfl (is_R _) ?_
      refine g_getF (v := 818) oC0 (hC0_13) rfl (Nat.le_of_ble_eq_true rfl) (Nat.le_of_ble_eq_true rfl) ?_
      refine g_ld (v := cI _) rfl (is_I _) ?_
      obtain ⟨q71, q72, h⟩ := h
      refine g_aldRF (c := 7) aC818 q71 q72 rfl (by decide) fun i73 => ?_
      replace h := h i73
      obtain ⟨q74, h⟩ := h
      refine g_getF q74 (ff7_10 q74).1 rfl (Nat.le_of_ble_eq_true rfl) (Nat.le_of_ble_eq_true rfl) ?_
      refine g_ld (v := cI _) rfl (is_I _) ?_
      obtain ⟨q75, q76, h⟩ := h
      refine g_aldL (ff7_10 q74).2 q75 q76 rfl fun i77 => ?_
      replace h := h i77
      obtain ⟨q78, h⟩ := h
      refine g_callV (As := [_, _]) (ci := 11) q78 (fun _ => rfl) ?_
      refine g_go1 (Nat.le_of_ble_eq_true rfl) (Tn_w (TX11_fits i70 i77 h) fun _ G79 ⟨r80, e, i81, h⟩ => ?_)
      subst e
      refine ⟨n7_I _, ?_⟩
      replace h := h i81
      refine g_st (lv' := [_, _, _, _, _, _, _, _, _, _, _, _, _, _]) (is_I _) (Nat.le_of_ble_eq_true rfl) (Or.inr (n1_I _)) rfl ?_
      refine g_inc (lv' := [_, _, _, _, _, _, _, _, _, _, _, _, _, _]) rfl (Nat.le_of_ble_eq_true rfl) (Or.inr (n1_I _)) rfl ?_
      obtain ⟨q82, h⟩ := h
      exact hj5 _ _ _ _ _ _ _ _ _ _ _ _ _ _ hl1 hl2 hl3 hl5 hl6 hl7 hl8 ⟨by omega, by omega⟩ hl10 q82 hl12 hl13 h
  · replace h := h.2 b61
    exact TX0_meant_337 hl1 hl2 hl3 hl5 hl6 hl7 hl8 hl9 hl10 hl11 hl12 hl13 hj0 hj1 hj2 hj3 hj4 hj5 h
def PX0_meant_267 (J : Nat → List Int → gS → (Int → gS → Prop) → Prop) (l1 : Int) (l2 : Int) (l4 : Int) (l5 : Int) (l6 : Int) (l7 : Int) (l8 : Int) (l9 : Int) (l10 : Int) (G : gS) (Q : Int → gS → Prop) : Prop :=
  (inI (G 815 14) → ((l10 < G 815 14 → ((l9 = 0 → PX0_meant_343 J l1 l2 l4 l5 l6 l7 l8 l9 l10 G Q) ∧ (¬ (l9 = 0) → PX0_meant_284 J l1 l2 l4 l5 l6 l7 l8 l9 l10 0 G Q))) ∧ (¬ (l10 < G 815 14) → PX0_meant_343 J l1 l2 l4 l5 l6 l7 l8 l9 l10 G Q)))
set_option maxRecDepth 20000 in
theorem TX0_meant_267 {j : Nat → rx_K} {J : Nat → List Int → gS → (Int → gS → Prop) → Prop} {l1 : Int} {l2 : Int} {l3 : Nat} {l4 : Int} {l5 : Int} {l6 : Int} {l7 : Int} {l8 : Int} {l9 : Int} {l10 : Int} {l11 : Nat} {l12 : Nat} {l13 : Nat} {G : gS} {Q : Int → gS → Prop} (hl1 : inI l1) (hl2 : inL l2) (hl3 : l3 % 8 ≠ 1) (hl5 : inI l5) (hl6 : inI l6) (hl7 : inI l7) (hl8 : inI l8) (hl9 : inI l9) (hl10 : inI l10) (hl11 : l11 % 8 ≠ 1) (hl12 : l12 % 8 ≠ 1) (hl13 : l13 % 8 ≠ 1) (hj0 : ∀ (l1 : Int) (l2 : Int) (l3 : Nat) (l4 : Int) (l5 : Int) (l6 : Int) (l7 : Int) (l8 : Nat) (l9 : Nat) (l10 : Nat) (l11 : Nat) (l12 : Nat) (l13 : Nat) (G : gS), (inI l1) → (inL l2) → (l3 % 8 ≠ 1) → (inI l5) → (inI l6) → (l8 % 8 ≠ 1) → (l9 % 8 ≠ 1) → (l10 % 8 ≠ 1) → (l11 % 8 ≠ 1) → (l12 % 8 ≠ 1) → (l13 % 8 ≠ 1) → J 0 [l1, l2, l4, l5, l6, l7] G Q → Tg W0 (j 0) [rf (815), cI (l1), cL (l2), l3, rf (l4), cI (l5), cI (l6), rf (l7), l8, l9, l10, l11, l12, l13] [] G (fun r G => ∃ v, r = rf v ∧ Q v G)) (hj1 : ∀ (l1 : Int) (l2 : Int) (l3 : Nat) (l4 : Int) (l5 : Int) (l6 : Int) (l7 : Int) (l8 : Int) (l9 : Nat) (l10 : Nat) (l11 : Nat) (l12 : Nat) (l13 : Nat) (G : gS), (inI l1) → (inL l2) → (l3 % 8 ≠ 1) → (inI l5) → (inI l6) → (inI l7) → (inI l8) → (l9 % 8 ≠ 1) → (l10 % 8 ≠ 1) → (l11 % 8 ≠ 1) → (l12 % 8 ≠ 1) → (l13 % 8 ≠ 1) → J 1 [l1, l2, l4, l5, l6, l7, l8] G Q → Tg W0 (j 1) [rf (815), cI (l1), cL (l2), l3, rf (l4), cI (l5), cI (l6), cI (l7), cI (l8), l9, l10, l11, l12, l13] [] G (fun r G => ∃ v, r = rf v ∧ Q v G)) (hj2 : ∀ (l1 : Int) (l2 : Int) (l3 : Nat) (l4 : Int) (l5 : Int) (l6 : Int) (l7 : Int) (l8 : Int) (l9 : Int) (l10 : Int) (l11 : Int) (l12 : Nat) (l13 : Nat) (G : gS), (inI l1) → (inL l2) → (l3 % 8 ≠ 1) → (inI l5) → (inI l6) → (inI l7) → (inI l8) → (inI l10) → (inI l11) → (l12 % 8 ≠ 1) → (l13 % 8 ≠ 1) → J 2 [l1, l2, l4, l5, l6, l7, l8, l9, l10, l11] G Q → Tg W0 (j 2) [rf (815), cI (l1), cL (l2), l3, rf (l4), cI (l5), cI (l6), cI (l7), cI (l8), rf (l9), cI (l10), cI (l11), l12, l13] [] G (fun r G => ∃ v, r = rf v ∧ Q v G)) (hj3 : ∀ (l1 : Int) (l2 : Int) (l3 : Nat) (l4 : Int) (l5 : Int) (l6 : Int) (l7 : Int) (l8 : Int) (l9 : Nat) (l10 : Nat) (l11 : Nat) (l12 : Nat) (l13 : Nat) (G : gS), (inI l1) → (inL l2) → (l3 % 8 ≠ 1) → (inI l5) → (inI l6) → (inI l7) → (inI l8) → (l9 % 8 ≠ 1) → (l10 % 8 ≠ 1) → (l11 % 8 ≠ 1) → (l12 % 8 ≠ 1) → (l13 % 8 ≠ 1) → J 3 [l1, l2, l4, l5, l6, l7, l8] G Q → Tg W0 (j 3) [rf (815), cI (l1), cL (l2), l3, rf (l4), cI (l5), cI (l6), cI (l7), cI (l8), l9, l10, l11, l12, l13] [] G (fun r G => ∃ v, r = rf v ∧ Q v G)) (hj4 : ∀ (l1 : Int) (l2 : Int) (l3 : Nat) (l4 : Int) (l5 : Int) (l6 : Int) (l7 : Int) (l8 : Int) (l9 : Int) (l10 : Int) (l11 : Nat) (l12 : Nat) (l13 : Nat) (G : gS), (inI l1) → (inL l2) → (l3 % 8 ≠ 1) → (inI l5) → (inI l6) → (inI l7) → (inI l8) → (inI l9) → (inI l10) → (l11 % 8 ≠ 1) → (l12 % 8 ≠ 1) → (l13 % 8 ≠ 1) → J 4 [l1, l2, l4, l5, l6, l7, l8, l9, l10] G Q → Tg W0 (j 4) [rf (815), cI (l1), cL (l2), l3, rf (l4), cI (l5), cI (l6), cI (l7), cI (l8), cI (l9), cI (l10), l11, l12, l13] [] G (fun r G => ∃ v, r = rf v ∧ Q v G)) (hj5 : ∀ (l1 : Int) (l2 : Int) (l3 : Nat) (l4 : Int) (l5 : Int) (l6 : Int) (l7 : Int) (l8 : Int) (l9 : Int) (l10 : Int) (l11 : Int) (l12 : Nat) (l13 : Nat) (G : gS), (inI l1) → (inL l2) → (l3 % 8 ≠ 1) → (inI l5) → (inI l6) → (inI l7) → (inI l8) → (inI l9) → (inI l10) → (inI l11) → (l12 % 8 ≠ 1) → (l13 % 8 ≠ 1) → J 5 [l1, l2, l4, l5, l6, l7, l8, l9, l10, l11] G Q → Tg W0 (j 5) [rf (815), cI (l1), cL (l2), l3, rf (l4), cI (l5), cI (l6), cI (l7), cI (l8), cI (l9), cI (l10), cI (l11), l12, l13] [] G (fun r G => ∃ v, r = rf v ∧ Q v G)) (h : PX0_meant_267 J l1 l2 l4 l5 l6 l7 l8 l9 l10 G Q) : Tg W0 (vX0_meant_267 j) [rf (815), cI (l1), cL (l2), l3, rf (l4), cI (l5), cI (l6), cI (l7), cI (l8), cI (l9), cI (l10), l11, l12, l13] [] G (fun r G => ∃ v, r = rf v ∧ Q v G) := by
  unfold PX0_meant_267 at h
  unfold vX0_meant_267
  refine g_ld (v := cI _) rfl (is_I _) ?_
  refine g_ld (v := rf _) rfl (is_R _) ?_
  refine g_getI (kz := 14) oC0 rfl (Nat.le_of_ble_eq_true rfl) rfl fun i46 => ?_
  replace h := h i46
  refine g_lt2 hl10 i46 (fun b47 => ?_) (fun b47 => ?_)
  · replace h := h.1 b47
    unfold vX0_meant_276
    refine g_ld (v := cI _) rfl (is_I _) ?_
    refine g_eq1 hl9 (fun b48 => ?_) (fun b48 => ?_)
    · replace h := h.1 b48
      exact TX0_meant_343 hl1 hl2 hl3 hl5 hl6 hl7 hl8 hl9 hl10 hl11 hl12 hl13 hj0 hj1 hj2 hj3 hj4 hj5 h
    · replace h := h.2 b48
      unfold vX0_meant_281
      refine g_const (v := cI (0)) rfl ?_
      refine g_st (lv' := [_, _, _, _, _, _, _, _, _, _, _, _, _, _]) (is_I _) (Nat.le_of_ble_eq_true rfl) (Or.inr (n1_I _)) rfl ?_
      exact TX0_meant_284 hl1 hl2 hl3 hl5 hl6 hl7 hl8 hl9 hl10 ⟨by omega, by omega⟩ hl12 hl13 hj0 hj1 hj2 hj3 hj4 hj5 h
  · replace h := h.2 b47
    exact TX0_meant_343 hl1 hl2 hl3 hl5 hl6 hl7 hl8 hl9 hl10 hl11 hl12 hl13 hj0 hj1 hj2 hj3 hj4 hj5 h
def PX0_meant_252 (J : Nat → List Int → gS → (Int → gS → Prop) → Prop) (l1 : Int) (l2 : Int) (l4 : Int) (l5 : Int) (l6 : Int) (l7 : Int) (l8 : Int) (G : gS) (Q : Int → gS → Prop) : Prop :=
  (inI (G 815 14) → ((l8 < G 815 14 → PX0_meant_267 J l1 l2 l4 l5 l6 l7 l8 1 0 G Q) ∧ (¬ (l8 < G 815 14) → Q (-1) G)))
set_option maxRecDepth 20000 in
theorem TX0_meant_252 {j : Nat → rx_K} {J : Nat → List Int → gS → (Int → gS → Prop) → Prop} {l1 : Int} {l2 : Int} {l3 : Nat} {l4 : Int} {l5 : Int} {l6 : Int} {l7 : Int} {l8 : Int} {l9 : Nat} {l10 : Nat} {l11 : Nat} {l12 : Nat} {l13 : Nat} {G : gS} {Q : Int → gS → Prop} (hl1 : inI l1) (hl2 : inL l2) (hl3 : l3 % 8 ≠ 1) (hl5 : inI l5) (hl6 : inI l6) (hl7 : inI l7) (hl8 : inI l8) (hl9 : l9 % 8 ≠ 1) (hl10 : l10 % 8 ≠ 1) (hl11 : l11 % 8 ≠ 1) (hl12 : l12 % 8 ≠ 1) (hl13 : l13 % 8 ≠ 1) (hj0 : ∀ (l1 : Int) (l2 : Int) (l3 : Nat) (l4 : Int) (l5 : Int) (l6 : Int) (l7 : Int) (l8 : Nat) (l9 : Nat) (l10 : Nat) (l11 : Nat) (l12 : Nat) (l13 : Nat) (G : gS), (inI l1) → (inL l2) → (l3 % 8 ≠ 1) → (inI l5) → (inI l6) → (l8 % 8 ≠ 1) → (l9 % 8 ≠ 1) → (l10 % 8 ≠ 1) → (l11 % 8 ≠ 1) → (l12 % 8 ≠ 1) → (l13 % 8 ≠ 1) → J 0 [l1, l2, l4, l5, l6, l7] G Q → Tg W0 (j 0) [rf (815), cI (l1), cL (l2), l3, rf (l4), cI (l5), cI (l6), rf (l7), l8, l9, l10, l11, l12, l13] [] G (fun r G => ∃ v, r = rf v ∧ Q v G)) (hj1 : ∀ (l1 : Int) (l2 : Int) (l3 : Nat) (l4 : Int) (l5 : Int) (l6 : Int) (l7 : Int) (l8 : Int) (l9 : Nat) (l10 : Nat) (l11 : Nat) (l12 : Nat) (l13 : Nat) (G : gS), (inI l1) → (inL l2) → (l3 % 8 ≠ 1) → (inI l5) → (inI l6) → (inI l7) → (inI l8) → (l9 % 8 ≠ 1) → (l10 % 8 ≠ 1) → (l11 % 8 ≠ 1) → (l12 % 8 ≠ 1) → (l13 % 8 ≠ 1) → J 1 [l1, l2, l4, l5, l6, l7, l8] G Q → Tg W0 (j 1) [rf (815), cI (l1), cL (l2), l3, rf (l4), cI (l5), cI (l6), cI (l7), cI (l8), l9, l10, l11, l12, l13] [] G (fun r G => ∃ v, r = rf v ∧ Q v G)) (hj2 : ∀ (l1 : Int) (l2 : Int) (l3 : Nat) (l4 : Int) (l5 : Int) (l6 : Int) (l7 : Int) (l8 : Int) (l9 : Int) (l10 : Int) (l11 : Int) (l12 : Nat) (l13 : Nat) (G : gS), (inI l1) → (inL l2) → (l3 % 8 ≠ 1) → (inI l5) → (inI l6) → (inI l7) → (inI l8) → (inI l10) → (inI l11) → (l12 % 8 ≠ 1) → (l13 % 8 ≠ 1) → J 2 [l1, l2, l4, l5, l6, l7, l8, l9, l10, l11] G Q → Tg W0 (j 2) [rf (815), cI (l1), cL (l2), l3, rf (l4), cI (l5), cI (l6), cI (l7), cI (l8), rf (l9), cI (l10), cI (l11), l12, l13] [] G (fun r G => ∃ v, r = rf v ∧ Q v G)) (hj3 : ∀ (l1 : Int) (l2 : Int) (l3 : Nat) (l4 : Int) (l5 : Int) (l6 : Int) (l7 : Int) (l8 : Int) (l9 : Nat) (l10 : Nat) (l11 : Nat) (l12 : Nat) (l13 : Nat) (G : gS), (inI l1) → (inL l2) → (l3 % 8 ≠ 1) → (inI l5) → (inI l6) → (inI l7) → (inI l8) → (l9 % 8 ≠ 1) → (l10 % 8 ≠ 1) → (l11 % 8 ≠ 1) → (l12 % 8 ≠ 1) → (l13 % 8 ≠ 1) → J 3 [l1, l2, l4, l5, l6, l7, l8] G Q → Tg W0 (j 3) [rf (815), cI (l1), cL (l2), l3, rf (l4), cI (l5), cI (l6), cI (l7), cI (l8), l9, l10, l11, l12, l13] [] G (fun r G => ∃ v, r = rf v ∧ Q v G)) (hj4 : ∀ (l1 : Int) (l2 : Int) (l3 : Nat) (l4 : Int) (l5 : Int) (l6 : Int) (l7 : Int) (l8 : Int) (l9 : Int) (l10 : Int) (l11 : Nat) (l12 : Nat) (l13 : Nat) (G : gS), (inI l1) → (inL l2) → (l3 % 8 ≠ 1) → (inI l5) → (inI l6) → (inI l7) → (inI l8) → (inI l9) → (inI l10) → (l11 % 8 ≠ 1) → (l12 % 8 ≠ 1) → (l13 % 8 ≠ 1) → J 4 [l1, l2, l4, l5, l6, l7, l8, l9, l10] G Q → Tg W0 (j 4) [rf (815), cI (l1), cL (l2), l3, rf (l4), cI (l5), cI (l6), cI (l7), cI (l8), cI (l9), cI (l10), l11, l12, l13] [] G (fun r G => ∃ v, r = rf v ∧ Q v G)) (hj5 : ∀ (l1 : Int) (l2 : Int) (l3 : Nat) (l4 : Int) (l5 : Int) (l6 : Int) (l7 : Int) (l8 : Int) (l9 : Int) (l10 : Int) (l11 : Int) (l12 : Nat) (l13 : Nat) (G : gS), (inI l1) → (inL l2) → (l3 % 8 ≠ 1) → (inI l5) → (inI l6) → (inI l7) → (inI l8) → (inI l9) → (inI l10) → (inI l11) → (l12 % 8 ≠ 1) → (l13 % 8 ≠ 1) → J 5 [l1, l2, l4, l5, l6, l7, l8, l9, l10, l11] G Q → Tg W0 (j 5) [rf (815), cI (l1), cL (l2), l3, rf (l4), cI (l5), cI (l6), cI (l7), cI (l8), cI (l9), cI (l10), cI (l11), l12, l13] [] G (fun r G => ∃ v, r = rf v ∧ Q v G)) (h : PX0_meant_252 J l1 l2 l4 l5 l6 l7 l8 G Q) : Tg W0 (vX0_meant_252 j) [rf (815), cI (l1), cL (l2), l3, rf (l4), cI (l5), cI (l6), cI (l7), cI (l8), l9, l10, l11, l12, l13] [] G (fun r G => ∃ v, r = rf v ∧ Q v G) := by
  unfold PX0_meant_252 at h
  unfold vX0_meant_252
  refine g_ld (v := cI _) rfl (is_I _) ?_
  refine g_ld (v := rf _) rfl (is_R _) ?_
  refine g_getI (kz := 14) oC0 rfl (Nat.le_of_ble_eq_true rfl) rfl fun i26 => ?_
  replace h := h i26
  refine g_lt2 hl8 i26 (fun b27 => ?_) (fun b27 => ?_)
  · replace h := h.1 b27
    unfold vX0_meant_261
    refine g_const (v := cI (1)) rfl ?_
    refine g_st (lv' := [_, _, _, _, _, _, _, _, _, _, _, _, _, _]) (is_I _) (Nat.le_of_ble_eq_true rfl) (Or.inr (n1_I _)) rfl ?_
    refine g_const (v := cI (0)) rfl ?_
    refine g_st (lv' := [_, _, _, _, _, _, _, _, _, _, _, _, _, _]) (is_I _) (Nat.le_of_ble_eq_true rfl) (Or.inr (n1_I _)) rfl ?_
    exact TX0_meant_267 hl1 hl2 hl3 hl5 hl6 hl7 hl8 ⟨by omega, by omega⟩ ⟨by omega, by omega⟩ hl11 hl12 hl13 hj0 hj1 hj2 hj3 hj4 hj5 h
  · replace h := h.2 b27
    unfold vX0_meant_362
    refine g_const (v := rf (-1)) rfl ?_
    exact g_ret1 (is_R _) ⟨_, rfl, h⟩
def PX0_meant_237 (J : Nat → List Int → gS → (Int → gS → Prop) → Prop) (l1 : Int) (l2 : Int) (l4 : Int) (l5 : Int) (l6 : Int) (l7 : Int) (l8 : Int) (l9 : Int) (l10 : Int) (l11 : Int) (l12 : Int) (l13 : Int) (G : gS) (Q : Int → gS → Prop) : Prop :=
  (inI (l11 + 1) ∧ J 2 [l1, l2, l4, l5, l6, l7, l8, l9, l10, l11 + 1] G Q)
set_option maxRecDepth 20000 in
theorem TX0_meant_237 {j : Nat → rx_K} {J : Nat → List Int → gS → (Int → gS → Prop) → Prop} {l1 : Int} {l2 : Int} {l3 : Nat} {l4 : Int} {l5 : Int} {l6 : Int} {l7 : Int} {l8 : Int} {l9 : Int} {l10 : Int} {l11 : Int} {l12 : Int} {l13 : Int} {G : gS} {Q : Int → gS → Prop} (hl1 : inI l1) (hl2 : inL l2) (hl3 : l3 % 8 ≠ 1) (hl5 : inI l5) (hl6 : inI l6) (hl7 : inI l7) (hl8 : inI l8) (hl10 : inI l10) (hl11 : inI l11) (hl13 : inI l13) (hj0 : ∀ (l1 : Int) (l2 : Int) (l3 : Nat) (l4 : Int) (l5 : Int) (l6 : Int) (l7 : Int) (l8 : Nat) (l9 : Nat) (l10 : Nat) (l11 : Nat) (l12 : Nat) (l13 : Nat) (G : gS), (inI l1) → (inL l2) → (l3 % 8 ≠ 1) → (inI l5) → (inI l6) → (l8 % 8 ≠ 1) → (l9 % 8 ≠ 1) → (l10 % 8 ≠ 1) → (l11 % 8 ≠ 1) → (l12 % 8 ≠ 1) → (l13 % 8 ≠ 1) → J 0 [l1, l2, l4, l5, l6, l7] G Q → Tg W0 (j 0) [rf (815), cI (l1), cL (l2), l3, rf (l4), cI (l5), cI (l6), rf (l7), l8, l9, l10, l11, l12, l13] [] G (fun r G => ∃ v, r = rf v ∧ Q v G)) (hj1 : ∀ (l1 : Int) (l2 : Int) (l3 : Nat) (l4 : Int) (l5 : Int) (l6 : Int) (l7 : Int) (l8 : Int) (l9 : Nat) (l10 : Nat) (l11 : Nat) (l12 : Nat) (l13 : Nat) (G : gS), (inI l1) → (inL l2) → (l3 % 8 ≠ 1) → (inI l5) → (inI l6) → (inI l7) → (inI l8) → (l9 % 8 ≠ 1) → (l10 % 8 ≠ 1) → (l11 % 8 ≠ 1) → (l12 % 8 ≠ 1) → (l13 % 8 ≠ 1) → J 1 [l1, l2, l4, l5, l6, l7, l8] G Q → Tg W0 (j 1) [rf (815), cI (l1), cL (l2), l3, rf (l4), cI (l5), cI (l6), cI (l7), cI (l8), l9, l10, l11, l12, l13] [] G (fun r G => ∃ v, r = rf v ∧ Q v G)) (hj2 : ∀ (l1 : Int) (l2 : Int) (l3 : Nat) (l4 : Int) (l5 : Int) (l6 : Int) (l7 : Int) (l8 : Int) (l9 : Int) (l10 : Int) (l11 : Int) (l12 : Nat) (l13 : Nat) (G : gS), (inI l1) → (inL l2) → (l3 % 8 ≠ 1) → (inI l5) → (inI l6) → (inI l7) → (inI l8) → (inI l10) → (inI l11) → (l12 % 8 ≠ 1) → (l13 % 8 ≠ 1) → J 2 [l1, l2, l4, l5, l6, l7, l8, l9, l10, l11] G Q → Tg W0 (j 2) [rf (815), cI (l1), cL (l2), l3, rf (l4), cI (l5), cI (l6), cI (l7), cI (l8), rf (l9), cI (l10), cI (l11), l12, l13] [] G (fun r G => ∃ v, r = rf v ∧ Q v G)) (hj3 : ∀ (l1 : Int) (l2 : Int) (l3 : Nat) (l4 : Int) (l5 : Int) (l6 : Int) (l7 : Int) (l8 : Int) (l9 : Nat) (l10 : Nat) (l11 : Nat) (l12 : Nat) (l13 : Nat) (G : gS), (inI l1) → (inL l2) → (l3 % 8 ≠ 1) → (inI l5) → (inI l6) → (inI l7) → (inI l8) → (l9 % 8 ≠ 1) → (l10 % 8 ≠ 1) → (l11 % 8 ≠ 1) → (l12 % 8 ≠ 1) → (l13 % 8 ≠ 1) → J 3 [l1, l2, l4, l5, l6, l7, l8] G Q → Tg W0 (j 3) [rf (815), cI (l1), cL (l2), l3, rf (l4), cI (l5), cI (l6), cI (l7), cI (l8), l9, l10, l11, l12, l13] [] G (fun r G => ∃ v, r = rf v ∧ Q v G)) (hj4 : ∀ (l1 : Int) (l2 : Int) (l3 : Nat) (l4 : Int) (l5 : Int) (l6 : Int) (l7 : Int) (l8 : Int) (l9 : Int) (l10 : Int) (l11 : Nat) (l12 : Nat) (l13 : Nat) (G : gS), (inI l1) → (inL l2) → (l3 % 8 ≠ 1) → (inI l5) → (inI l6) → (inI l7) → (inI l8) → (inI l9) → (inI l10) → (l11 % 8 ≠ 1) → (l12 % 8 ≠ 1) → (l13 % 8 ≠ 1) → J 4 [l1, l2, l4, l5, l6, l7, l8, l9, l10] G Q → Tg W0 (j 4) [rf (815), cI (l1), cL (l2), l3, rf (l4), cI (l5), cI (l6), cI (l7), cI (l8), cI (l9), cI (l10), l11, l12, l13] [] G (fun r G => ∃ v, r = rf v ∧ Q v G)) (hj5 : ∀ (l1 : Int) (l2 : Int) (l3 : Nat) (l4 : Int) (l5 : Int) (l6 : Int) (l7 : Int) (l8 : Int) (l9 : Int) (l10 : Int) (l11 : Int) (l12 : Nat) (l13 : Nat) (G : gS), (inI l1) → (inL l2) → (l3 % 8 ≠ 1) → (inI l5) → (inI l6) → (inI l7) → (inI l8) → (inI l9) → (inI l10) → (inI l11) → (l12 % 8 ≠ 1) → (l13 % 8 ≠ 1) → J 5 [l1, l2, l4, l5, l6, l7, l8, l9, l10, l11] G Q → Tg W0 (j 5) [rf (815), cI (l1), cL (l2), l3, rf (l4), cI (l5), cI (l6), cI (l7), cI (l8), cI (l9), cI (l10), cI (l11), l12, l13] [] G (fun r G => ∃ v, r = rf v ∧ Q v G)) (h : PX0_meant_237 J l1 l2 l4 l5 l6 l7 l8 l9 l10 l11 l12 l13 G Q) : Tg W0 (vX0_meant_237 j) [rf (815), cI (l1), cL (l2), l3, rf (l4), cI (l5), cI (l6), cI (l7), cI (l8), rf (l9), cI (l10), cI (l11), rf (l12), cI (l13)] [] G (fun r G => ∃ v, r = rf v ∧ Q v G) := by
  unfold PX0_meant_237 at h
  unfold vX0_meant_237
  refine g_inc (lv' := [_, _, _, _, _, _, _, _, _, _, _, _, _, _]) rfl (Nat.le_of_ble_eq_true rfl) (Or.inr (n1_I _)) rfl ?_
  obtain ⟨q83, h⟩ := h
  exact hj2 _ _ _ _ _ _ _ _ _ _ _ _ _ _ hl1 hl2 hl3 hl5 hl6 hl7 hl8 hl10 q83 (n1_R _) (n1_I _) h
def PX0_meant_205 (J : Nat → List Int → gS → (Int → gS → Prop) → Prop) (l1 : Int) (l2 : Int) (l4 : Int) (l5 : Int) (l6 : Int) (l7 : Int) (l8 : Int) (l9 : Int) (l10 : Int) (l11 : Int) (l12 : Int) (l13 : Int) (G : gS) (Q : Int → gS → Prop) : Prop :=
  ((G 815 0 = -1 ∨ isO W0 11 (G 815 0)) → ((0 : Int) ≤ l8 ∧ ((l8 : Int) < 130 ∧ (inI (G 819 l8) → (inI (G 815 6) → (isO W0 11 (G 815 0) ∧ PX11_isLet_ (G 815 0) l12 (G 819 l8) l1 (G 815 6) G (fun r91 G90 => (0 ≤ r91 ∧ r91 ≤ 1) → ((r91 = 0 → PX0_meant_237 J l1 l2 l4 l5 l6 l7 l8 l9 l10 l11 l12 l13 G90 Q) ∧ (¬ (r91 = 0) → PX0_consider l12 l4 G90 (fun _ G94 => PX0_meant_237 J l1 l2 l4 l5 l6 l7 l8 l9 l10 l11 l12 l13 G94 Q))))))))))
set_option maxRecDepth 20000 in
theorem TX0_meant_205 {j : Nat → rx_K} {J : Nat → List Int → gS → (Int → gS → Prop) → Prop} {l1 : Int} {l2 : Int} {l3 : Nat} {l4 : Int} {l5 : Int} {l6 : Int} {l7 : Int} {l8 : Int} {l9 : Int} {l10 : Int} {l11 : Int} {l12 : Int} {l13 : Int} {G : gS} {Q : Int → gS → Prop} (hl1 : inI l1) (hl2 : inL l2) (hl3 : l3 % 8 ≠ 1) (hl5 : inI l5) (hl6 : inI l6) (hl7 : inI l7) (hl8 : inI l8) (hl10 : inI l10) (hl11 : inI l11) (hl13 : inI l13) (hj0 : ∀ (l1 : Int) (l2 : Int) (l3 : Nat) (l4 : Int) (l5 : Int) (l6 : Int) (l7 : Int) (l8 : Nat) (l9 : Nat) (l10 : Nat) (l11 : Nat) (l12 : Nat) (l13 : Nat) (G : gS), (inI l1) → (inL l2) → (l3 % 8 ≠ 1) → (inI l5) → (inI l6) → (l8 % 8 ≠ 1) → (l9 % 8 ≠ 1) → (l10 % 8 ≠ 1) → (l11 % 8 ≠ 1) → (l12 % 8 ≠ 1) → (l13 % 8 ≠ 1) → J 0 [l1, l2, l4, l5, l6, l7] G Q → Tg W0 (j 0) [rf (815), cI (l1), cL (l2), l3, rf (l4), cI (l5), cI (l6), rf (l7), l8, l9, l10, l11, l12, l13] [] G (fun r G => ∃ v, r = rf v ∧ Q v G)) (hj1 : ∀ (l1 : Int) (l2 : Int) (l3 : Nat) (l4 : Int) (l5 : Int) (l6 : Int) (l7 : Int) (l8 : Int) (l9 : Nat) (l10 : Nat) (l11 : Nat) (l12 : Nat) (l13 : Nat) (G : gS), (inI l1) → (inL l2) → (l3 % 8 ≠ 1) → (inI l5) → (inI l6) → (inI l7) → (inI l8) → (l9 % 8 ≠ 1) → (l10 % 8 ≠ 1) → (l11 % 8 ≠ 1) → (l12 % 8 ≠ 1) → (l13 % 8 ≠ 1) → J 1 [l1, l2, l4, l5, l6, l7, l8] G Q → Tg W0 (j 1) [rf (815), cI (l1), cL (l2), l3, rf (l4), cI (l5), cI (l6), cI (l7), cI (l8), l9, l10, l11, l12, l13] [] G (fun r G => ∃ v, r = rf v ∧ Q v G)) (hj2 : ∀ (l1 : Int) (l2 : Int) (l3 : Nat) (l4 : Int) (l5 : Int) (l6 : Int) (l7 : Int) (l8 : Int) (l9 : Int) (l10 : Int) (l11 : Int) (l12 : Nat) (l13 : Nat) (G : gS), (inI l1) → (inL l2) → (l3 % 8 ≠ 1) → (inI l5) → (inI l6) → (inI l7) → (inI l8) → (inI l10) → (inI l11) → (l12 % 8 ≠ 1) → (l13 % 8 ≠ 1) → J 2 [l1, l2, l4, l5, l6, l7, l8, l9, l10, l11] G Q → Tg W0 (j 2) [rf (815), cI (l1), cL (l2), l3, rf (l4), cI (l5), cI (l6), cI (l7), cI (l8), rf (l9), cI (l10), cI (l11), l12, l13] [] G (fun r G => ∃ v, r = rf v ∧ Q v G)) (hj3 : ∀ (l1 : Int) (l2 : Int) (l3 : Nat) (l4 : Int) (l5 : Int) (l6 : Int) (l7 : Int) (l8 : Int) (l9 : Nat) (l10 : Nat) (l11 : Nat) (l12 : Nat) (l13 : Nat) (G : gS), (inI l1) → (inL l2) → (l3 % 8 ≠ 1) → (inI l5) → (inI l6) → (inI l7) → (inI l8) → (l9 % 8 ≠ 1) → (l10 % 8 ≠ 1) → (l11 % 8 ≠ 1) → (l12 % 8 ≠ 1) → (l13 % 8 ≠ 1) → J 3 [l1, l2, l4, l5, l6, l7, l8] G Q → Tg W0 (j 3) [rf (815), cI (l1), cL (l2), l3, rf (l4), cI (l5), cI (l6), cI (l7), cI (l8), l9, l10, l11, l12, l13] [] G (fun r G => ∃ v, r = rf v ∧ Q v G)) (hj4 : ∀ (l1 : Int) (l2 : Int) (l3 : Nat) (l4 : Int) (l5 : Int) (l6 : Int) (l7 : Int) (l8 : Int) (l9 : Int) (l10 : Int) (l11 : Nat) (l12 : Nat) (l13 : Nat) (G : gS), (inI l1) → (inL l2) → (l3 % 8 ≠ 1) → (inI l5) → (inI l6) → (inI l7) → (inI l8) → (inI l9) → (inI l10) → (l11 % 8 ≠ 1) → (l12 % 8 ≠ 1) → (l13 % 8 ≠ 1) → J 4 [l1, l2, l4, l5, l6, l7, l8, l9, l10] G Q → Tg W0 (j 4) [rf (815), cI (l1), cL (l2), l3, rf (l4), cI (l5), cI (l6), cI (l7), cI (l8), cI (l9), cI (l10), l11, l12, l13] [] G (fun r G => ∃ v, r = rf v ∧ Q v G)) (hj5 : ∀ (l1 : Int) (l2 : Int) (l3 : Nat) (l4 : Int) (l5 : Int) (l6 : Int) (l7 : Int) (l8 : Int) (l9 : Int) (l10 : Int) (l11 : Int) (l12 : Nat) (l13 : Nat) (G : gS), (inI l1) → (inL l2) → (l3 % 8 ≠ 1) → (inI l5) → (inI l6) → (inI l7) → (inI l8) → (inI l9) → (inI l10) → (inI l11) → (l12 % 8 ≠ 1) → (l13 % 8 ≠ 1) → J 5 [l1, l2, l4, l5, l6, l7, l8, l9, l10, l11] G Q → Tg W0 (j 5) [rf (815), cI (l1), cL (l2), l3, rf (l4), cI (l5), cI (l6), cI (l7), cI (l8), cI (l9), cI (l10), cI (l11), l12, l13] [] G (fun r G => ∃ v, r = rf v ∧ Q v G)) (h : PX0_meant_205 J l1 l2 l4 l5 l6 l7 l8 l9 l10 l11 l12 l13 G Q) : Tg W0 (vX0_meant_205 j) [rf (815), cI (l1), cL (l2), l3, rf (l4), cI (l5), cI (l6), cI (l7), cI (l8), rf (l9), cI (l10), cI (l11), rf (l12), cI (l13)] [] G (fun r G => ∃ v, r = rf v ∧ Q v G) := by
  unfold PX0_meant_205 at h
  unfold vX0_meant_205
  refine g_ld (v := rf _) rfl (is_R _) ?_
  refine g_getR (kz := 0) (c := 11) oC0 rfl (Nat.le_of_ble_eq_true rfl) rfl (by decide) fun i84 => ?_
  replace h := h i84
  refine g_ld (v := rf _) rfl (is_R _) ?_
  refine g_ld (v := rf _) rfl (is_R _) ?_
  refine g_getF (v := 819) oC0 (hC0_15) rfl (Nat.le_of_ble_eq_true rfl) (Nat.le_of_ble_eq_true rfl) ?_
  refine g_ld (v := cI _) rfl (is_I _) ?_
  obtain ⟨q85, q86, h⟩ := h
  refine g_aldI aC819 q85 q86 rfl fun i87 => ?_
  replace h := h i87
  refine g_ld (v := cI _) rfl (is_I _) ?_
  refine g_ld (v := rf _) rfl (is_R _) ?_
  refine g_getI (kz := 6) oC0 rfl (Nat.le_of_ble_eq_true rfl) rfl fun i88 => ?_
  replace h := h i88
  obtain ⟨q89, h⟩ := h
  refine g_callV (As := [_, _, _, _]) (ci := 11) q89 (fun _ => rfl) ?_
  refine g_go1 (Nat.le_of_ble_eq_true rfl) (Tn_w (TX11_isLet_ i87 hl1 i88 h) fun _ G90 ⟨r91, e, i92, h⟩ => ?_)
  subst e
  refine ⟨n7_I _, ?_⟩
  replace h := h i92
  refine g_eq1 ⟨by omega, by omega⟩ (fun b93 => ?_) (fun b93 => ?_)
  · replace h := h.1 b93
    exact TX0_meant_237 hl1 hl2 hl3 hl5 hl6 hl7 hl8 hl10 hl11 hl13 hj0 hj1 hj2 hj3 hj4 hj5 h
  · replace h := h.2 b93
    unfold vX0_meant_229
    refine g_ld (v := rf _) rfl (is_R _) ?_
    refine g_ld (v := rf _) rfl (is_R _) ?_
    refine g_ld (v := rf _) rfl (is_R _) ?_
    refine g_callV (As := [_, _]) (ci := 0) oC0 (fun _ => rfl) ?_
    refine g_go0 (Nat.le_of_ble_eq_true rfl) (Tn_w (TX0_consider  h) fun _ G94 ⟨e, h⟩ => ⟨e, ?_⟩)
    exact TX0_meant_237 hl1 hl2 hl3 hl5 hl6 hl7 hl8 hl10 hl11 hl13 hj0 hj1 hj2 hj3 hj4 hj5 h
def PX0_meant_175 (J : Nat → List Int → gS → (Int → gS → Prop) → Prop) (l1 : Int) (l2 : Int) (l4 : Int) (l5 : Int) (l6 : Int) (l7 : Int) (l8 : Int) (l9 : Int) (l10 : Int) (l11 : Int) (l12 : Int) (s0 : Int) (G : gS) (Q : Int → gS → Prop) : Prop :=
  ((s0 = 0 → PX0_meant_237 J l1 l2 l4 l5 l6 l7 l8 l9 l10 l11 l12 s0 G Q) ∧ (¬ (s0 = 0) → (isO W0 7 (l12) ∧ (inI (G l12 9) → ((G l12 9 = l6 → ((0 ≤ G l12 2 ∧ G l12 2 ≤ 1) → ((G l12 2 = 0 → PX0_meant_205 J l1 l2 l4 l5 l6 l7 l8 l9 l10 l11 l12 s0 G Q) ∧ (¬ (G l12 2 = 0) → ((l10 = 0 → PX0_meant_205 J l1 l2 l4 l5 l6 l7 l8 l9 l10 l11 l12 s0 G Q) ∧ (¬ (l10 = 0) → PX0_meant_237 J l1 l2 l4 l5 l6 l7 l8 l9 l10 l11 l12 s0 G Q)))))) ∧ (¬ (G l12 9 = l6) → PX0_meant_237 J l1 l2 l4 l5 l6 l7 l8 l9 l10 l11 l12 s0 G Q))))))
set_option maxRecDepth 20000 in
theorem TX0_meant_175 {j : Nat → rx_K} {J : Nat → List Int → gS → (Int → gS → Prop) → Prop} {l1 : Int} {l2 : Int} {l3 : Nat} {l4 : Int} {l5 : Int} {l6 : Int} {l7 : Int} {l8 : Int} {l9 : Int} {l10 : Int} {l11 : Int} {l12 : Int} {l13 : Nat} {s0 : Int} {G : gS} {Q : Int → gS → Prop} (hl1 : inI l1) (hl2 : inL l2) (hl3 : l3 % 8 ≠ 1) (hl5 : inI l5) (hl6 : inI l6) (hl7 : inI l7) (hl8 : inI l8) (hl10 : inI l10) (hl11 : inI l11) (hl13 : l13 % 8 ≠ 1) (hs0 : inI s0) (hj0 : ∀ (l1 : Int) (l2 : Int) (l3 : Nat) (l4 : Int) (l5 : Int) (l6 : Int) (l7 : Int) (l8 : Nat) (l9 : Nat) (l10 : Nat) (l11 : Nat) (l12 : Nat) (l13 : Nat) (G : gS), (inI l1) → (inL l2) → (l3 % 8 ≠ 1) → (inI l5) → (inI l6) → (l8 % 8 ≠ 1) → (l9 % 8 ≠ 1) → (l10 % 8 ≠ 1) → (l11 % 8 ≠ 1) → (l12 % 8 ≠ 1) → (l13 % 8 ≠ 1) → J 0 [l1, l2, l4, l5, l6, l7] G Q → Tg W0 (j 0) [rf (815), cI (l1), cL (l2), l3, rf (l4), cI (l5), cI (l6), rf (l7), l8, l9, l10, l11, l12, l13] [] G (fun r G => ∃ v, r = rf v ∧ Q v G)) (hj1 : ∀ (l1 : Int) (l2 : Int) (l3 : Nat) (l4 : Int) (l5 : Int) (l6 : Int) (l7 : Int) (l8 : Int) (l9 : Nat) (l10 : Nat) (l11 : Nat) (l12 : Nat) (l13 : Nat) (G : gS), (inI l1) → (inL l2) → (l3 % 8 ≠ 1) → (inI l5) → (inI l6) → (inI l7) → (inI l8) → (l9 % 8 ≠ 1) → (l10 % 8 ≠ 1) → (l11 % 8 ≠ 1) → (l12 % 8 ≠ 1) → (l13 % 8 ≠ 1) → J 1 [l1, l2, l4, l5, l6, l7, l8] G Q → Tg W0 (j 1) [rf (815), cI (l1), cL (l2), l3, rf (l4), cI (l5), cI (l6), cI (l7), cI (l8), l9, l10, l11, l12, l13] [] G (fun r G => ∃ v, r = rf v ∧ Q v G)) (hj2 : ∀ (l1 : Int) (l2 : Int) (l3 : Nat) (l4 : Int) (l5 : Int) (l6 : Int) (l7 : Int) (l8 : Int) (l9 : Int) (l10 : Int) (l11 : Int) (l12 : Nat) (l13 : Nat) (G : gS), (inI l1) → (inL l2) → (l3 % 8 ≠ 1) → (inI l5) → (inI l6) → (inI l7) → (inI l8) → (inI l10) → (inI l11) → (l12 % 8 ≠ 1) → (l13 % 8 ≠ 1) → J 2 [l1, l2, l4, l5, l6, l7, l8, l9, l10, l11] G Q → Tg W0 (j 2) [rf (815), cI (l1), cL (l2), l3, rf (l4), cI (l5), cI (l6), cI (l7), cI (l8), rf (l9), cI (l10), cI (l11), l12, l13] [] G (fun r G => ∃ v, r = rf v ∧ Q v G)) (hj3 : ∀ (l1 : Int) (l2 : Int) (l3 : Nat) (l4 : Int) (l5 : Int) (l6 : Int) (l7 : Int) (l8 : Int) (l9 : Nat) (l10 : Nat) (l11 : Nat) (l12 : Nat) (l13 : Nat) (G : gS), (inI l1) → (inL l2) → (l3 % 8 ≠ 1) → (inI l5) → (inI l6) → (inI l7) → (inI l8) → (l9 % 8 ≠ 1) → (l10 % 8 ≠ 1) → (l11 % 8 ≠ 1) → (l12 % 8 ≠ 1) → (l13 % 8 ≠ 1) → J 3 [l1, l2, l4, l5, l6, l7, l8] G Q → Tg W0 (j 3) [rf (815), cI (l1), cL (l2), l3, rf (l4), cI (l5), cI (l6), cI (l7), cI (l8), l9, l10, l11, l12, l13] [] G (fun r G => ∃ v, r = rf v ∧ Q v G)) (hj4 : ∀ (l1 : Int) (l2 : Int) (l3 : Nat) (l4 : Int) (l5 : Int) (l6 : Int) (l7 : Int) (l8 : Int) (l9 : Int) (l10 : Int) (l11 : Nat) (l12 : Nat) (l13 : Nat) (G : gS), (inI l1) → (inL l2) → (l3 % 8 ≠ 1) → (inI l5) → (inI l6) → (inI l7) → (inI l8) → (inI l9) → (inI l10) → (l11 % 8 ≠ 1) → (l12 % 8 ≠ 1) → (l13 % 8 ≠ 1) → J 4 [l1, l2, l4, l5, l6, l7, l8, l9, l10] G Q → Tg W0 (j 4) [rf (815), cI (l1), cL (l2), l3, rf (l4), cI (l5), cI (l6), cI (l7), cI (l8), cI (l9), cI (l10), l11, l12, l13] [] G (fun r G => ∃ v, r = rf v ∧ Q v G)) (hj5 : ∀ (l1 : Int) (l2 : Int) (l3 : Nat) (l4 : Int) (l5 : Int) (l6 : Int) (l7 : Int) (l8 : Int) (l9 : Int) (l10 : Int) (l11 : Int) (l12 : Nat) (l13 : Nat) (G : gS), (inI l1) → (inL l2) → (l3 % 8 ≠ 1) → (inI l5) → (inI l6) → (inI l7) → (inI l8) → (inI l9) → (inI l10) → (inI l11) → (l12 % 8 ≠ 1) → (l13 % 8 ≠ 1) → J 5 [l1, l2, l4, l5, l6, l7, l8, l9, l10, l11] G Q → Tg W0 (j 5) [rf (815), cI (l1), cL (l2), l3, rf (l4), cI (l5), cI (l6), cI (l7), cI (l8), cI (l9), cI (l10), cI (l11), l12, l13] [] G (fun r G => ∃ v, r = rf v ∧ Q v G)) (h : PX0_meant_175 J l1 l2 l4 l5 l6 l7 l8 l9 l10 l11 l12 s0 G Q) : Tg W0 (vX0_meant_175 j) [rf (815), cI (l1), cL (l2), l3, rf (l4), cI (l5), cI (l6), cI (l7), cI (l8), rf (l9), cI (l10), cI (l11), rf (l12), l13] [cI (s0)] G (fun r G => ∃ v, r = rf v ∧ Q v G) := by
  unfold PX0_meant_175 at h
  unfold vX0_meant_175
  refine g_st (lv' := [_, _, _, _, _, _, _, _, _, _, _, _, _, _]) (is_I _) (Nat.le_of_ble_eq_true rfl) (Or.inr (n1_R _)) rfl ?_
  refine g_ld (v := cI _) rfl (is_I _) ?_
  refine g_eq1 hs0 (fun b49 => ?_) (fun b49 => ?_)
  · replace h := h.1 b49
    exact TX0_meant_237 hl1 hl2 hl3 hl5 hl6 hl7 hl8 hl10 hl11 hs0 hj0 hj1 hj2 hj3 hj4 hj5 h
  · replace h := h.2 b49
    unfold vX0_meant_182
    refine g_ld (v := rf _) rfl (is_R _) ?_
    obtain ⟨q50, h⟩ := h
    refine g_getI (kz := 9) q50 rfl (Nat.le_of_ble_eq_true rfl) rfl fun i51 => ?_
    replace h := h i51
    refine g_ld (v := cI _) rfl (is_I _) ?_
    refine g_eq2 i51 hl6 (fun b52 => ?_) (fun b52 => ?_)
    · replace h := h.1 b52
      unfold vX0_meant_192
      refine g_ld (v := rf _) rfl (is_R _) ?_
      refine g_getZ (kz := 2) q50 rfl (Nat.le_of_ble_eq_true rfl) rfl fun i53 => ?_
      replace h := h i53
      refine g_eq1 ⟨by omega, by omega⟩ (fun b54 => ?_) (fun b54 => ?_)
      · replace h := h.1 b54
        exact TX0_meant_205 hl1 hl2 hl3 hl5 hl6 hl7 hl8 hl10 hl11 hs0 hj0 hj1 hj2 hj3 hj4 hj5 h
      · replace h := h.2 b54
        unfold vX0_meant_200
        refine g_ld (v := cI _) rfl (is_I _) ?_
        refine g_eq1 hl10 (fun b55 => ?_) (fun b55 => ?_)
        · replace h := h.1 b55
          exact TX0_meant_205 hl1 hl2 hl3 hl5 hl6 hl7 hl8 hl10 hl11 hs0 hj0 hj1 hj2 hj3 hj4 hj5 h
        · replace h := h.2 b55
          exact TX0_meant_237 hl1 hl2 hl3 hl5 hl6 hl7 hl8 hl10 hl11 hs0 hj0 hj1 hj2 hj3 hj4 hj5 h
    · replace h := h.2 b52
      exact TX0_meant_237 hl1 hl2 hl3 hl5 hl6 hl7 hl8 hl10 hl11 hs0 hj0 hj1 hj2 hj3 hj4 hj5 h
def PX0_meant_174 (J : Nat → List Int → gS → (Int → gS → Prop) → Prop) (l1 : Int) (l2 : Int) (l4 : Int) (l5 : Int) (l6 : Int) (l7 : Int) (l8 : Int) (l9 : Int) (l10 : Int) (l11 : Int) (l12 : Int) (G : gS) (Q : Int → gS → Prop) : Prop :=
  PX0_meant_175 J l1 l2 l4 l5 l6 l7 l8 l9 l10 l11 l12 0 G Q
set_option maxRecDepth 20000 in
theorem TX0_meant_174 {j : Nat → rx_K} {J : Nat → List Int → gS → (Int → gS → Prop) → Prop} {l1 : Int} {l2 : Int} {l3 : Nat} {l4 : Int} {l5 : Int} {l6 : Int} {l7 : Int} {l8 : Int} {l9 : Int} {l10 : Int} {l11 : Int} {l12 : Int} {l13 : Nat} {G : gS} {Q : Int → gS → Prop} (hl1 : inI l1) (hl2 : inL l2) (hl3 : l3 % 8 ≠ 1) (hl5 : inI l5) (hl6 : inI l6) (hl7 : inI l7) (hl8 : inI l8) (hl10 : inI l10) (hl11 : inI l11) (hl13 : l13 % 8 ≠ 1) (hj0 : ∀ (l1 : Int) (l2 : Int) (l3 : Nat) (l4 : Int) (l5 : Int) (l6 : Int) (l7 : Int) (l8 : Nat) (l9 : Nat) (l10 : Nat) (l11 : Nat) (l12 : Nat) (l13 : Nat) (G : gS), (inI l1) → (inL l2) → (l3 % 8 ≠ 1) → (inI l5) → (inI l6) → (l8 % 8 ≠ 1) → (l9 % 8 ≠ 1) → (l10 % 8 ≠ 1) → (l11 % 8 ≠ 1) → (l12 % 8 ≠ 1) → (l13 % 8 ≠ 1) → J 0 [l1, l2, l4, l5, l6, l7] G Q → Tg W0 (j 0) [rf (815), cI (l1), cL (l2), l3, rf (l4), cI (l5), cI (l6), rf (l7), l8, l9, l10, l11, l12, l13] [] G (fun r G => ∃ v, r = rf v ∧ Q v G)) (hj1 : ∀ (l1 : Int) (l2 : Int) (l3 : Nat) (l4 : Int) (l5 : Int) (l6 : Int) (l7 : Int) (l8 : Int) (l9 : Nat) (l10 : Nat) (l11 : Nat) (l12 : Nat) (l13 : Nat) (G : gS), (inI l1) → (inL l2) → (l3 % 8 ≠ 1) → (inI l5) → (inI l6) → (inI l7) → (inI l8) → (l9 % 8 ≠ 1) → (l10 % 8 ≠ 1) → (l11 % 8 ≠ 1) → (l12 % 8 ≠ 1) → (l13 % 8 ≠ 1) → J 1 [l1, l2, l4, l5, l6, l7, l8] G Q → Tg W0 (j 1) [rf (815), cI (l1), cL (l2), l3, rf (l4), cI (l5), cI (l6), cI (l7), cI (l8), l9, l10, l11, l12, l13] [] G (fun r G => ∃ v, r = rf v ∧ Q v G)) (hj2 : ∀ (l1 : Int) (l2 : Int) (l3 : Nat) (l4 : Int) (l5 : Int) (l6 : Int) (l7 : Int) (l8 : Int) (l9 : Int) (l10 : Int) (l11 : Int) (l12 : Nat) (l13 : Nat) (G : gS), (inI l1) → (inL l2) → (l3 % 8 ≠ 1) → (inI l5) → (inI l6) → (inI l7) → (inI l8) → (inI l10) → (inI l11) → (l12 % 8 ≠ 1) → (l13 % 8 ≠ 1) → J 2 [l1, l2, l4, l5, l6, l7, l8, l9, l10, l11] G Q → Tg W0 (j 2) [rf (815), cI (l1), cL (l2), l3, rf (l4), cI (l5), cI (l6), cI (l7), cI (l8), rf (l9), cI (l10), cI (l11), l12, l13] [] G (fun r G => ∃ v, r = rf v ∧ Q v G)) (hj3 : ∀ (l1 : Int) (l2 : Int) (l3 : Nat) (l4 : Int) (l5 : Int) (l6 : Int) (l7 : Int) (l8 : Int) (l9 : Nat) (l10 : Nat) (l11 : Nat) (l12 : Nat) (l13 : Nat) (G : gS), (inI l1) → (inL l2) → (l3 % 8 ≠ 1) → (inI l5) → (inI l6) → (inI l7) → (inI l8) → (l9 % 8 ≠ 1) → (l10 % 8 ≠ 1) → (l11 % 8 ≠ 1) → (l12 % 8 ≠ 1) → (l13 % 8 ≠ 1) → J 3 [l1, l2, l4, l5, l6, l7, l8] G Q → Tg W0 (j 3) [rf (815), cI (l1), cL (l2), l3, rf (l4), cI (l5), cI (l6), cI (l7), cI (l8), l9, l10, l11, l12, l13] [] G (fun r G => ∃ v, r = rf v ∧ Q v G)) (hj4 : ∀ (l1 : Int) (l2 : Int) (l3 : Nat) (l4 : Int) (l5 : Int) (l6 : Int) (l7 : Int) (l8 : Int) (l9 : Int) (l10 : Int) (l11 : Nat) (l12 : Nat) (l13 : Nat) (G : gS), (inI l1) → (inL l2) → (l3 % 8 ≠ 1) → (inI l5) → (inI l6) → (inI l7) → (inI l8) → (inI l9) → (inI l10) → (l11 % 8 ≠ 1) → (l12 % 8 ≠ 1) → (l13 % 8 ≠ 1) → J 4 [l1, l2, l4, l5, l6, l7, l8, l9, l10] G Q → Tg W0 (j 4) [rf (815), cI (l1), cL (l2), l3, rf (l4), cI (l5), cI (l6), cI (l7), cI (l8), cI (l9), cI (l10), l11, l12, l13] [] G (fun r G => ∃ v, r = rf v ∧ Q v G)) (hj5 : ∀ (l1 : Int) (l2 : Int) (l3 : Nat) (l4 : Int) (l5 : Int) (l6 : Int) (l7 : Int) (l8 : Int) (l9 : Int) (l10 : Int) (l11 : Int) (l12 : Nat) (l13 : Nat) (G : gS), (inI l1) → (inL l2) → (l3 % 8 ≠ 1) → (inI l5) → (inI l6) → (inI l7) → (inI l8) → (inI l9) → (inI l10) → (inI l11) → (l12 % 8 ≠ 1) → (l13 % 8 ≠ 1) → J 5 [l1, l2, l4, l5, l6, l7, l8, l9, l10, l11] G Q → Tg W0 (j 5) [rf (815), cI (l1), cL (l2), l3, rf (l4), cI (l5), cI (l6), cI (l7), cI (l8), cI (l9), cI (l10), cI (l11), l12, l13] [] G (fun r G => ∃ v, r = rf v ∧ Q v G)) (h : PX0_meant_174 J l1 l2 l4 l5 l6 l7 l8 l9 l10 l11 l12 G Q) : Tg W0 (vX0_meant_174 j) [rf (815), cI (l1), cL (l2), l3, rf (l4), cI (l5), cI (l6), cI (l7), cI (l8), rf (l9), cI (l10), cI (l11), rf (l12), l13] [] G (fun r G => ∃ v, r = rf v ∧ Q v G) := by
  unfold PX0_meant_174 at h
  unfold vX0_meant_174
  refine g_const (v := cI (0)) rfl ?_
  exact TX0_meant_175 hl1 hl2 hl3 hl5 hl6 hl7 hl8 hl10 hl11 hl13 ⟨by omega, by omega⟩ hj0 hj1 hj2 hj3 hj4 hj5 h
def PX0_meant_101 (J : Nat → List Int → gS → (Int → gS → Prop) → Prop) (l1 : Int) (l2 : Int) (l4 : Int) (l5 : Int) (l6 : Int) (l7 : Int) (l8 : Int) (l9 : Int) (l10 : Int) (l11 : Int) (G : gS) (Q : Int → gS → Prop) : Prop :=
  (isO W0 10 (l9) ∧ (inI (G l9 15) → ((l11 < G l9 15 → ((0 : Int) ≤ l11 ∧ ((l11 : Int) < 33 ∧ (((G (l9 + 4) l11 = -1 ∨ isO W0 7 (G (l9 + 4) l11)) ∧ ∀ v, W0.2 (l9 + 4) l11 = some v → G (l9 + 4) l11 = v) → ((l5 = 0 → (isO W0 7 (G (l9 + 4) l11) ∧ (inI (G (G (l9 + 4) l11) 0) → ((G (G (l9 + 4) l11) 0 = 1 → (inL (G (G (l9 + 4) l11) 7) → ((G (G (l9 + 4) l11) 7 = l2 → ((0 ≤ G (G (l9 + 4) l11) 5 ∧ G (G (l9 + 4) l11) 5 ≤ 1) → ((G (G (l9 + 4) l11) 5 = 0 → PX0_meant_175 J l1 l2 l4 l5 l6 l7 l8 l9 l10 l11 (G (l9 + 4) l11) 1 G Q) ∧ (¬ (G (G (l9 + 4) l11) 5 = 0) → PX0_meant_174 J l1 l2 l4 l5 l6 l7 l8 l9 l10 l11 (G (l9 + 4) l11) G Q)))) ∧ (¬ (G (G (l9 + 4) l11) 7 = l2) → PX0_meant_174 J l1 l2 l4 l5 l6 l7 l8 l9 l10 l11 (G (l9 + 4) l11) G Q)))) ∧ (¬ (G (G (l9 + 4) l11) 0 = 1) → PX0_meant_174 J l1 l2 l4 l5 l6 l7 l8 l9 l10 l11 (G (l9 + 4) l11) G Q))))) ∧ (¬ (l5 = 0) → (isO W0 7 (G (l9 + 4) l11) ∧ (inI (G (G (l9 + 4) l11) 0) → ((G (G (l9 + 4) l11) 0 = 2 → PX0_meant_175 J l1 l2 l4 l5 l6 l7 l8 l9 l10 l11 (G (l9 + 4) l11) 1 G Q) ∧ (¬ (G (G (l9 + 4) l11) 0 = 2) → PX0_meant_175 J l1 l2 l4 l5 l6 l7 l8 l9 l10 l11 (G (l9 + 4) l11) 0 G Q)))))))))) ∧ (¬ (l11 < G l9 15) → (inI (l8 + 1) ∧ J 1 [l1, l2, l4, l5, l6, l7, l8 + 1] G Q)))))
set_option maxRecDepth 20000 in
theorem TX0_meant_101 {j : Nat → rx_K} {J : Nat → List Int → gS → (Int → gS → Prop) → Prop} {l1 : Int} {l2 : Int} {l3 : Nat} {l4 : Int} {l5 : Int} {l6 : Int} {l7 : Int} {l8 : Int} {l9 : Int} {l10 : Int} {l11 : Int} {l12 : Nat} {l13 : Nat} {G : gS} {Q : Int → gS → Prop} (hl1 : inI l1) (hl2 : inL l2) (hl3 : l3 % 8 ≠ 1) (hl5 : inI l5) (hl6 : inI l6) (hl7 : inI l7) (hl8 : inI l8) (hl10 : inI l10) (hl11 : inI l11) (hl12 : l12 % 8 ≠ 1) (hl13 : l13 % 8 ≠ 1) (hj0 : ∀ (l1 : Int) (l2 : Int) (l3 : Nat) (l4 : Int) (l5 : Int) (l6 : Int) (l7 : Int) (l8 : Nat) (l9 : Nat) (l10 : Nat) (l11 : Nat) (l12 : Nat) (l13 : Nat) (G : gS), (inI l1) → (inL l2) → (l3 % 8 ≠ 1) → (inI l5) → (inI l6) → (l8 % 8 ≠ 1) → (l9 % 8 ≠ 1) → (l10 % 8 ≠ 1) → (l11 % 8 ≠ 1) → (l12 % 8 ≠ 1) → (l13 % 8 ≠ 1) → J 0 [l1, l2, l4, l5, l6, l7] G Q → Tg W0 (j 0) [rf (815), cI (l1), cL (l2), l3, rf (l4), cI (l5), cI (l6), rf (l7), l8, l9, l10, l11, l12, l13] [] G (fun r G => ∃ v, r = rf v ∧ Q v G)) (hj1 : ∀ (l1 : Int) (l2 : Int) (l3 : Nat) (l4 : Int) (l5 : Int) (l6 : Int) (l7 : Int) (l8 : Int) (l9 : Nat) (l10 : Nat) (l11 : Nat) (l12 : Nat) (l13 : Nat) (G : gS), (inI l1) → (inL l2) → (l3 % 8 ≠ 1) → (inI l5) → (inI l6) → (inI l7) → (inI l8) → (l9 % 8 ≠ 1) → (l10 % 8 ≠ 1) → (l11 % 8 ≠ 1) → (l12 % 8 ≠ 1) → (l13 % 8 ≠ 1) → J 1 [l1, l2, l4, l5, l6, l7, l8] G Q → Tg W0 (j 1) [rf (815), cI (l1), cL (l2), l3, rf (l4), cI (l5), cI (l6), cI (l7), cI (l8), l9, l10, l11, l12, l13] [] G (fun r G => ∃ v, r = rf v ∧ Q v G)) (hj2 : ∀ (l1 : Int) (l2 : Int) (l3 : Nat) (l4 : Int) (l5 : Int) (l6 : Int) (l7 : Int) (l8 : Int) (l9 : Int) (l10 : Int) (l11 : Int) (l12 : Nat) (l13 : Nat) (G : gS), (inI l1) → (inL l2) → (l3 % 8 ≠ 1) → (inI l5) → (inI l6) → (inI l7) → (inI l8) → (inI l10) → (inI l11) → (l12 % 8 ≠ 1) → (l13 % 8 ≠ 1) → J 2 [l1, l2, l4, l5, l6, l7, l8, l9, l10, l11] G Q → Tg W0 (j 2) [rf (815), cI (l1), cL (l2), l3, rf (l4), cI (l5), cI (l6), cI (l7), cI (l8), rf (l9), cI (l10), cI (l11), l12, l13] [] G (fun r G => ∃ v, r = rf v ∧ Q v G)) (hj3 : ∀ (l1 : Int) (l2 : Int) (l3 : Nat) (l4 : Int) (l5 : Int) (l6 : Int) (l7 : Int) (l8 : Int) (l9 : Nat) (l10 : Nat) (l11 : Nat) (l12 : Nat) (l13 : Nat) (G : gS), (inI l1) → (inL l2) → (l3 % 8 ≠ 1) → (inI l5) → (inI l6) → (inI l7) → (inI l8) → (l9 % 8 ≠ 1) → (l10 % 8 ≠ 1) → (l11 % 8 ≠ 1) → (l12 % 8 ≠ 1) → (l13 % 8 ≠ 1) → J 3 [l1, l2, l4, l5, l6, l7, l8] G Q → Tg W0 (j 3) [rf (815), cI (l1), cL (l2), l3, rf (l4), cI (l5), cI (l6), cI (l7), cI (l8), l9, l10, l11, l12, l13] [] G (fun r G => ∃ v, r = rf v ∧ Q v G)) (hj4 : ∀ (l1 : Int) (l2 : Int) (l3 : Nat) (l4 : Int) (l5 : Int) (l6 : Int) (l7 : Int) (l8 : Int) (l9 : Int) (l10 : Int) (l11 : Nat) (l12 : Nat) (l13 : Nat) (G : gS), (inI l1) → (inL l2) → (l3 % 8 ≠ 1) → (inI l5) → (inI l6) → (inI l7) → (inI l8) → (inI l9) → (inI l10) → (l11 % 8 ≠ 1) → (l12 % 8 ≠ 1) → (l13 % 8 ≠ 1) → J 4 [l1, l2, l4, l5, l6, l7, l8, l9, l10] G Q → Tg W0 (j 4) [rf (815), cI (l1), cL (l2), l3, rf (l4), cI (l5), cI (l6), cI (l7), cI (l8), cI (l9), cI (l10), l11, l12, l13] [] G (fun r G => ∃ v, r = rf v ∧ Q v G)) (hj5 : ∀ (l1 : Int) (l2 : Int) (l3 : Nat) (l4 : Int) (l5 : Int) (l6 : Int) (l7 : Int) (l8 : Int) (l9 : Int) (l10 : Int) (l11 : Int) (l12 : Nat) (l13 : Nat) (G : gS), (inI l1) → (inL l2) → (l3 % 8 ≠ 1) → (inI l5) → (inI l6) → (inI l7) → (inI l8) → (inI l9) → (inI l10) → (inI l11) → (l12 % 8 ≠ 1) → (l13 % 8 ≠ 1) → J 5 [l1, l2, l4, l5, l6, l7, l8, l9, l10, l11] G Q → Tg W0 (j 5) [rf (815), cI (l1), cL (l2), l3, rf (l4), cI (l5), cI (l6), cI (l7), cI (l8), cI (l9), cI (l10), cI (l11), l12, l13] [] G (fun r G => ∃ v, r = rf v ∧ Q v G)) (h : PX0_meant_101 J l1 l2 l4 l5 l6 l7 l8 l9 l10 l11 G Q) : Tg W0 (vX0_meant_101 j) [rf (815), cI (l1), cL (l2), l3, rf (l4), cI (l5), cI (l6), cI (l7), cI (l8), rf (l9), cI (l10), cI (l11), l12, l13] [] G (fun r G => ∃ v, r = rf v ∧ Q v G) := by
  unfold PX0_meant_101 at h
  unfold vX0_meant_101
  refine g_ld (v := cI _) rfl (is_I _) ?_
  refine g_ld (v := rf _) rfl (is_R _) ?_
  obtain ⟨q28, h⟩ := h
  refine g_getI (kz := 15) q28 rfl (Nat.le_of_ble_eq_true rfl) rfl fun i29 => ?_
  replace h := h i29
  refine g_lt2 hl11 i29 (fun b30 => ?_) (fun b30 => ?_)
  · replace h := h.1 b30
    unfold vX0_meant_111
    refine g_ld (v := rf _) rfl (is_R _) ?_
    refine g_getF q28 (ff10_14 q28).1 rfl (Nat.le_of_ble_eq_true rfl) (Nat.le_of_ble_eq_true rfl) ?_
    refine g_ld (v := cI _) rfl (is_I _) ?_
    obtain ⟨q31, q32, h⟩ := h
    refine g_aldRF (c := 7) (ff10_14 q28).2 q31 q32 rfl (by decide) fun i33 => ?_
    replace h := h i33
    refine g_st (lv' := [_, _, _, _, _, _, _, _, _, _, _, _, _, _]) (is_R _) (Nat.le_of_ble_eq_true rfl) (Or.inr (n1_I _)) rfl ?_
    refine g_ld (v := cI _) rfl (is_I _) ?_
    refine g_eq1 hl5 (fun b34 => ?_) (fun b34 => ?_)
    · replace h := h.1 b34
      unfold vX0_meant_143
      refine g_ld (v := rf _) rfl (is_R _) ?_
      obtain ⟨q35, h⟩ := h
      refine g_getI (kz := 0) q35 rfl (Nat.le_of_ble_eq_true rfl) rfl fun i36 => ?_
      replace h := h i36
      refine g_const (v := cI (1)) rfl ?_
      refine g_eq2 i36 ⟨by omega, by omega⟩ (fun b37 => ?_) (fun b37 => ?_)
      · replace h := h.1 b37
        unfold vX0_meant_152
        refine g_ld (v := rf _) rfl (is_R _) ?_
        refine g_getL (kz := 7) q35 rfl (Nat.le_of_ble_eq_true rfl) rfl fun i38 => ?_
        replace h := h i38
        refine g_ld (v := cL _) rfl (is_L _) ?_
        refine g_leq i38 hl2 (fun b39 => ?_) (fun b39 => ?_)
        · replace h := h.1 b39
          unfold vX0_meant_162
          refine g_ld (v := rf _) rfl (is_R _) ?_
          refine g_getZ (kz := 5) q35 rfl (Nat.le_of_ble_eq_true rfl) rfl fun i40 => ?_
          replace h := h i40
          refine g_eq1 ⟨by omega, by omega⟩ (fun b41 => ?_) (fun b41 => ?_)
          · replace h := h.1 b41
            unfold vX0_meant_170
            refine g_const (v := cI (1)) rfl ?_
            exact TX0_meant_175 hl1 hl2 hl3 hl5 hl6 hl7 hl8 hl10 hl11 hl13 ⟨by omega, by omega⟩ hj0 hj1 hj2 hj3 hj4 hj5 h
          · replace h := h.2 b41
            exact TX0_meant_174 hl1 hl2 hl3 hl5 hl6 hl7 hl8 hl10 hl11 hl13 hj0 hj1 hj2 hj3 hj4 hj5 h
        · replace h := h.2 b39
          exact TX0_meant_174 hl1 hl2 hl3 hl5 hl6 hl7 hl8 hl10 hl11 hl13 hj0 hj1 hj2 hj3 hj4 hj5 h
      · replace h := h.2 b37
        exact TX0_meant_174 hl1 hl2 hl3 hl5 hl6 hl7 hl8 hl10 hl11 hl13 hj0 hj1 hj2 hj3 hj4 hj5 h
    · replace h := h.2 b34
      unfold vX0_meant_126
      refine g_ld (v := rf _) rfl (is_R _) ?_
      obtain ⟨q42, h⟩ := h
      refine g_getI (kz := 0) q42 rfl (Nat.le_of_ble_eq_true rfl) rfl fun i43 => ?_
      replace h := h i43
      refine g_const (v := cI (2)) rfl ?_
      refine g_eq2 i43 ⟨by omega, by omega⟩ (fun b44 => ?_) (fun b44 => ?_)
      · replace h := h.1 b44
        unfold vX0_meant_135
        refine g_const (v := cI (1)) rfl ?_
        exact TX0_meant_175 hl1 hl2 hl3 hl5 hl6 hl7 hl8 hl10 hl11 hl13 ⟨by omega, by omega⟩ hj0 hj1 hj2 hj3 hj4 hj5 h
      · replace h := h.2 b44
        unfold vX0_meant_139
        refine g_const (v := cI (0)) rfl ?_
        exact TX0_meant_175 hl1 hl2 hl3 hl5 hl6 hl7 hl8 hl10 hl11 hl13 ⟨by omega, by omega⟩ hj0 hj1 hj2 hj3 hj4 hj5 h
  · replace h := h.2 b30
    unfold vX0_meant_243
    refine g_inc (lv' := [_, _, _, _, _, _, _, _, _, _, _, _, _, _]) rfl (Nat.le_of_ble_eq_true rfl) (Or.inr (n1_I _)) rfl ?_
    obtain ⟨q45, h⟩ := h
    exact hj1 _ _ _ _ _ _ _ _ _ _ _ _ _ _ hl1 hl2 hl3 hl5 hl6 hl7 q45 (n1_R _) (n1_I _) (n1_I _) hl12 hl13 h
def PX0_meant_96 (J : Nat → List Int → gS → (Int → gS → Prop) → Prop) (l1 : Int) (l2 : Int) (l4 : Int) (l5 : Int) (l6 : Int) (l7 : Int) (l8 : Int) (l9 : Int) (s0 : Int) (G : gS) (Q : Int → gS → Prop) : Prop :=
  PX0_meant_101 J l1 l2 l4 l5 l6 l7 l8 l9 s0 0 G Q
set_option maxRecDepth 20000 in
theorem TX0_meant_96 {j : Nat → rx_K} {J : Nat → List Int → gS → (Int → gS → Prop) → Prop} {l1 : Int} {l2 : Int} {l3 : Nat} {l4 : Int} {l5 : Int} {l6 : Int} {l7 : Int} {l8 : Int} {l9 : Int} {l10 : Nat} {l11 : Nat} {l12 : Nat} {l13 : Nat} {s0 : Int} {G : gS} {Q : Int → gS → Prop} (hl1 : inI l1) (hl2 : inL l2) (hl3 : l3 % 8 ≠ 1) (hl5 : inI l5) (hl6 : inI l6) (hl7 : inI l7) (hl8 : inI l8) (hl10 : l10 % 8 ≠ 1) (hl11 : l11 % 8 ≠ 1) (hl12 : l12 % 8 ≠ 1) (hl13 : l13 % 8 ≠ 1) (hs0 : inI s0) (hj0 : ∀ (l1 : Int) (l2 : Int) (l3 : Nat) (l4 : Int) (l5 : Int) (l6 : Int) (l7 : Int) (l8 : Nat) (l9 : Nat) (l10 : Nat) (l11 : Nat) (l12 : Nat) (l13 : Nat) (G : gS), (inI l1) → (inL l2) → (l3 % 8 ≠ 1) → (inI l5) → (inI l6) → (l8 % 8 ≠ 1) → (l9 % 8 ≠ 1) → (l10 % 8 ≠ 1) → (l11 % 8 ≠ 1) → (l12 % 8 ≠ 1) → (l13 % 8 ≠ 1) → J 0 [l1, l2, l4, l5, l6, l7] G Q → Tg W0 (j 0) [rf (815), cI (l1), cL (l2), l3, rf (l4), cI (l5), cI (l6), rf (l7), l8, l9, l10, l11, l12, l13] [] G (fun r G => ∃ v, r = rf v ∧ Q v G)) (hj1 : ∀ (l1 : Int) (l2 : Int) (l3 : Nat) (l4 : Int) (l5 : Int) (l6 : Int) (l7 : Int) (l8 : Int) (l9 : Nat) (l10 : Nat) (l11 : Nat) (l12 : Nat) (l13 : Nat) (G : gS), (inI l1) → (inL l2) → (l3 % 8 ≠ 1) → (inI l5) → (inI l6) → (inI l7) → (inI l8) → (l9 % 8 ≠ 1) → (l10 % 8 ≠ 1) → (l11 % 8 ≠ 1) → (l12 % 8 ≠ 1) → (l13 % 8 ≠ 1) → J 1 [l1, l2, l4, l5, l6, l7, l8] G Q → Tg W0 (j 1) [rf (815), cI (l1), cL (l2), l3, rf (l4), cI (l5), cI (l6), cI (l7), cI (l8), l9, l10, l11, l12, l13] [] G (fun r G => ∃ v, r = rf v ∧ Q v G)) (hj2 : ∀ (l1 : Int) (l2 : Int) (l3 : Nat) (l4 : Int) (l5 : Int) (l6 : Int) (l7 : Int) (l8 : Int) (l9 : Int) (l10 : Int) (l11 : Int) (l12 : Nat) (l13 : Nat) (G : gS), (inI l1) → (inL l2) → (l3 % 8 ≠ 1) → (inI l5) → (inI l6) → (inI l7) → (inI l8) → (inI l10) → (inI l11) → (l12 % 8 ≠ 1) → (l13 % 8 ≠ 1) → J 2 [l1, l2, l4, l5, l6, l7, l8, l9, l10, l11] G Q → Tg W0 (j 2) [rf (815), cI (l1), cL (l2), l3, rf (l4), cI (l5), cI (l6), cI (l7), cI (l8), rf (l9), cI (l10), cI (l11), l12, l13] [] G (fun r G => ∃ v, r = rf v ∧ Q v G)) (hj3 : ∀ (l1 : Int) (l2 : Int) (l3 : Nat) (l4 : Int) (l5 : Int) (l6 : Int) (l7 : Int) (l8 : Int) (l9 : Nat) (l10 : Nat) (l11 : Nat) (l12 : Nat) (l13 : Nat) (G : gS), (inI l1) → (inL l2) → (l3 % 8 ≠ 1) → (inI l5) → (inI l6) → (inI l7) → (inI l8) → (l9 % 8 ≠ 1) → (l10 % 8 ≠ 1) → (l11 % 8 ≠ 1) → (l12 % 8 ≠ 1) → (l13 % 8 ≠ 1) → J 3 [l1, l2, l4, l5, l6, l7, l8] G Q → Tg W0 (j 3) [rf (815), cI (l1), cL (l2), l3, rf (l4), cI (l5), cI (l6), cI (l7), cI (l8), l9, l10, l11, l12, l13] [] G (fun r G => ∃ v, r = rf v ∧ Q v G)) (hj4 : ∀ (l1 : Int) (l2 : Int) (l3 : Nat) (l4 : Int) (l5 : Int) (l6 : Int) (l7 : Int) (l8 : Int) (l9 : Int) (l10 : Int) (l11 : Nat) (l12 : Nat) (l13 : Nat) (G : gS), (inI l1) → (inL l2) → (l3 % 8 ≠ 1) → (inI l5) → (inI l6) → (inI l7) → (inI l8) → (inI l9) → (inI l10) → (l11 % 8 ≠ 1) → (l12 % 8 ≠ 1) → (l13 % 8 ≠ 1) → J 4 [l1, l2, l4, l5, l6, l7, l8, l9, l10] G Q → Tg W0 (j 4) [rf (815), cI (l1), cL (l2), l3, rf (l4), cI (l5), cI (l6), cI (l7), cI (l8), cI (l9), cI (l10), l11, l12, l13] [] G (fun r G => ∃ v, r = rf v ∧ Q v G)) (hj5 : ∀ (l1 : Int) (l2 : Int) (l3 : Nat) (l4 : Int) (l5 : Int) (l6 : Int) (l7 : Int) (l8 : Int) (l9 : Int) (l10 : Int) (l11 : Int) (l12 : Nat) (l13 : Nat) (G : gS), (inI l1) → (inL l2) → (l3 % 8 ≠ 1) → (inI l5) → (inI l6) → (inI l7) → (inI l8) → (inI l9) → (inI l10) → (inI l11) → (l12 % 8 ≠ 1) → (l13 % 8 ≠ 1) → J 5 [l1, l2, l4, l5, l6, l7, l8, l9, l10, l11] G Q → Tg W0 (j 5) [rf (815), cI (l1), cL (l2), l3, rf (l4), cI (l5), cI (l6), cI (l7), cI (l8), cI (l9), cI (l10), cI (l11), l12, l13] [] G (fun r G => ∃ v, r = rf v ∧ Q v G)) (h : PX0_meant_96 J l1 l2 l4 l5 l6 l7 l8 l9 s0 G Q) : Tg W0 (vX0_meant_96 j) [rf (815), cI (l1), cL (l2), l3, rf (l4), cI (l5), cI (l6), cI (l7), cI (l8), rf (l9), l10, l11, l12, l13] [cI (s0)] G (fun r G => ∃ v, r = rf v ∧ Q v G) := by
  unfold PX0_meant_96 at h
  unfold vX0_meant_96
  refine g_st (lv' := [_, _, _, _, _, _, _, _, _, _, _, _, _, _]) (is_I _) (Nat.le_of_ble_eq_true rfl) (Or.inr (n1_R _)) rfl ?_
  refine g_const (v := cI (0)) rfl ?_
  refine g_st (lv' := [_, _, _, _, _, _, _, _, _, _, _, _, _, _]) (is_I _) (Nat.le_of_ble_eq_true rfl) (Or.inr (n1_I _)) rfl ?_
  exact TX0_meant_101 hl1 hl2 hl3 hl5 hl6 hl7 hl8 hs0 ⟨by omega, by omega⟩ hl12 hl13 hj0 hj1 hj2 hj3 hj4 hj5 h
def PX0_meant_95 (J : Nat → List Int → gS → (Int → gS → Prop) → Prop) (l1 : Int) (l2 : Int) (l4 : Int) (l5 : Int) (l6 : Int) (l7 : Int) (l8 : Int) (l9 : Int) (G : gS) (Q : Int → gS → Prop) : Prop :=
  PX0_meant_96 J l1 l2 l4 l5 l6 l7 l8 l9 0 G Q
set_option maxRecDepth 20000 in
theorem TX0_meant_95 {j : Nat → rx_K} {J : Nat → List Int → gS → (Int → gS → Prop) → Prop} {l1 : Int} {l2 : Int} {l3 : Nat} {l4 : Int} {l5 : Int} {l6 : Int} {l7 : Int} {l8 : Int} {l9 : Int} {l10 : Nat} {l11 : Nat} {l12 : Nat} {l13 : Nat} {G : gS} {Q : Int → gS → Prop} (hl1 : inI l1) (hl2 : inL l2) (hl3 : l3 % 8 ≠ 1) (hl5 : inI l5) (hl6 : inI l6) (hl7 : inI l7) (hl8 : inI l8) (hl10 : l10 % 8 ≠ 1) (hl11 : l11 % 8 ≠ 1) (hl12 : l12 % 8 ≠ 1) (hl13 : l13 % 8 ≠ 1) (hj0 : ∀ (l1 : Int) (l2 : Int) (l3 : Nat) (l4 : Int) (l5 : Int) (l6 : Int) (l7 : Int) (l8 : Nat) (l9 : Nat) (l10 : Nat) (l11 : Nat) (l12 : Nat) (l13 : Nat) (G : gS), (inI l1) → (inL l2) → (l3 % 8 ≠ 1) → (inI l5) → (inI l6) → (l8 % 8 ≠ 1) → (l9 % 8 ≠ 1) → (l10 % 8 ≠ 1) → (l11 % 8 ≠ 1) → (l12 % 8 ≠ 1) → (l13 % 8 ≠ 1) → J 0 [l1, l2, l4, l5, l6, l7] G Q → Tg W0 (j 0) [rf (815), cI (l1), cL (l2), l3, rf (l4), cI (l5), cI (l6), rf (l7), l8, l9, l10, l11, l12, l13] [] G (fun r G => ∃ v, r = rf v ∧ Q v G)) (hj1 : ∀ (l1 : Int) (l2 : Int) (l3 : Nat) (l4 : Int) (l5 : Int) (l6 : Int) (l7 : Int) (l8 : Int) (l9 : Nat) (l10 : Nat) (l11 : Nat) (l12 : Nat) (l13 : Nat) (G : gS), (inI l1) → (inL l2) → (l3 % 8 ≠ 1) → (inI l5) → (inI l6) → (inI l7) → (inI l8) → (l9 % 8 ≠ 1) → (l10 % 8 ≠ 1) → (l11 % 8 ≠ 1) → (l12 % 8 ≠ 1) → (l13 % 8 ≠ 1) → J 1 [l1, l2, l4, l5, l6, l7, l8] G Q → Tg W0 (j 1) [rf (815), cI (l1), cL (l2), l3, rf (l4), cI (l5), cI (l6), cI (l7), cI (l8), l9, l10, l11, l12, l13] [] G (fun r G => ∃ v, r = rf v ∧ Q v G)) (hj2 : ∀ (l1 : Int) (l2 : Int) (l3 : Nat) (l4 : Int) (l5 : Int) (l6 : Int) (l7 : Int) (l8 : Int) (l9 : Int) (l10 : Int) (l11 : Int) (l12 : Nat) (l13 : Nat) (G : gS), (inI l1) → (inL l2) → (l3 % 8 ≠ 1) → (inI l5) → (inI l6) → (inI l7) → (inI l8) → (inI l10) → (inI l11) → (l12 % 8 ≠ 1) → (l13 % 8 ≠ 1) → J 2 [l1, l2, l4, l5, l6, l7, l8, l9, l10, l11] G Q → Tg W0 (j 2) [rf (815), cI (l1), cL (l2), l3, rf (l4), cI (l5), cI (l6), cI (l7), cI (l8), rf (l9), cI (l10), cI (l11), l12, l13] [] G (fun r G => ∃ v, r = rf v ∧ Q v G)) (hj3 : ∀ (l1 : Int) (l2 : Int) (l3 : Nat) (l4 : Int) (l5 : Int) (l6 : Int) (l7 : Int) (l8 : Int) (l9 : Nat) (l10 : Nat) (l11 : Nat) (l12 : Nat) (l13 : Nat) (G : gS), (inI l1) → (inL l2) → (l3 % 8 ≠ 1) → (inI l5) → (inI l6) → (inI l7) → (inI l8) → (l9 % 8 ≠ 1) → (l10 % 8 ≠ 1) → (l11 % 8 ≠ 1) → (l12 % 8 ≠ 1) → (l13 % 8 ≠ 1) → J 3 [l1, l2, l4, l5, l6, l7, l8] G Q → Tg W0 (j 3) [rf (815), cI (l1), cL (l2), l3, rf (l4), cI (l5), cI (l6), cI (l7), cI (l8), l9, l10, l11, l12, l13] [] G (fun r G => ∃ v, r = rf v ∧ Q v G)) (hj4 : ∀ (l1 : Int) (l2 : Int) (l3 : Nat) (l4 : Int) (l5 : Int) (l6 : Int) (l7 : Int) (l8 : Int) (l9 : Int) (l10 : Int) (l11 : Nat) (l12 : Nat) (l13 : Nat) (G : gS), (inI l1) → (inL l2) → (l3 % 8 ≠ 1) → (inI l5) → (inI l6) → (inI l7) → (inI l8) → (inI l9) → (inI l10) → (l11 % 8 ≠ 1) → (l12 % 8 ≠ 1) → (l13 % 8 ≠ 1) → J 4 [l1, l2, l4, l5, l6, l7, l8, l9, l10] G Q → Tg W0 (j 4) [rf (815), cI (l1), cL (l2), l3, rf (l4), cI (l5), cI (l6), cI (l7), cI (l8), cI (l9), cI (l10), l11, l12, l13] [] G (fun r G => ∃ v, r = rf v ∧ Q v G)) (hj5 : ∀ (l1 : Int) (l2 : Int) (l3 : Nat) (l4 : Int) (l5 : Int) (l6 : Int) (l7 : Int) (l8 : Int) (l9 : Int) (l10 : Int) (l11 : Int) (l12 : Nat) (l13 : Nat) (G : gS), (inI l1) → (inL l2) → (l3 % 8 ≠ 1) → (inI l5) → (inI l6) → (inI l7) → (inI l8) → (inI l9) → (inI l10) → (inI l11) → (l12 % 8 ≠ 1) → (l13 % 8 ≠ 1) → J 5 [l1, l2, l4, l5, l6, l7, l8, l9, l10, l11] G Q → Tg W0 (j 5) [rf (815), cI (l1), cL (l2), l3, rf (l4), cI (l5), cI (l6), cI (l7), cI (l8), cI (l9), cI (l10), cI (l11), l12, l13] [] G (fun r G => ∃ v, r = rf v ∧ Q v G)) (h : PX0_meant_95 J l1 l2 l4 l5 l6 l7 l8 l9 G Q) : Tg W0 (vX0_meant_95 j) [rf (815), cI (l1), cL (l2), l3, rf (l4), cI (l5), cI (l6), cI (l7), cI (l8), rf (l9), l10, l11, l12, l13] [] G (fun r G => ∃ v, r = rf v ∧ Q v G) := by
  unfold PX0_meant_95 at h
  unfold vX0_meant_95
  refine g_const (v := cI (0)) rfl ?_
  exact TX0_meant_96 hl1 hl2 hl3 hl5 hl6 hl7 hl8 hl10 hl11 hl12 hl13 ⟨by omega, by omega⟩ hj0 hj1 hj2 hj3 hj4 hj5 h
def PX0_meant_48 (J : Nat → List Int → gS → (Int → gS → Prop) → Prop) (l1 : Int) (l2 : Int) (l4 : Int) (l5 : Int) (l6 : Int) (l7 : Int) (l8 : Int) (G : gS) (Q : Int → gS → Prop) : Prop :=
  ((l8 < l7 → ((G 815 0 = -1 ∨ isO W0 11 (G 815 0)) → (isO W0 11 (G 815 0) ∧ ((0 : Int) ≤ l8 ∧ ((l8 : Int) < 130 ∧ (inI (G 819 l8) → ((0 : Int) ≤ G 819 l8 ∧ ((G 819 l8 : Int) < 64 ∧ (((G ((G 815 0) + 1) (G 819 l8) = -1 ∨ isO W0 10 (G ((G 815 0) + 1) (G 819 l8))) ∧ ∀ v, W0.2 ((G 815 0) + 1) (G 819 l8) = some v → G ((G 815 0) + 1) (G 819 l8) = v) → (isO W0 10 (G ((G 815 0) + 1) (G 819 l8)) ∧ ((0 ≤ G (G ((G 815 0) + 1) (G 819 l8)) 4 ∧ G (G ((G 815 0) + 1) (G 819 l8)) 4 ≤ 1) → ((G (G ((G 815 0) + 1) (G 819 l8)) 4 = 0 → PX0_meant_95 J l1 l2 l4 l5 l6 l7 l8 (G ((G 815 0) + 1) (G 819 l8)) G Q) ∧ (¬ (G (G ((G 815 0) + 1) (G 819 l8)) 4 = 0) → ((0 : Int) ≤ l8 ∧ ((l8 : Int) < 130 ∧ (inI (G 819 l8) → ((G 819 l8 = l1 → PX0_meant_95 J l1 l2 l4 l5 l6 l7 l8 (G ((G 815 0) + 1) (G 819 l8)) G Q) ∧ (¬ (G 819 l8 = l1) → PX0_meant_96 J l1 l2 l4 l5 l6 l7 l8 (G ((G 815 0) + 1) (G 819 l8)) 1 G Q)))))))))))))))))) ∧ (¬ (l8 < l7) → PX0_meant_252 J l1 l2 l4 l5 l6 l7 0 G Q))
set_option maxRecDepth 20000 in
theorem TX0_meant_48 {j : Nat → rx_K} {J : Nat → List Int → gS → (Int → gS → Prop) → Prop} {l1 : Int} {l2 : Int} {l3 : Nat} {l4 : Int} {l5 : Int} {l6 : Int} {l7 : Int} {l8 : Int} {l9 : Nat} {l10 : Nat} {l11 : Nat} {l12 : Nat} {l13 : Nat} {G : gS} {Q : Int → gS → Prop} (hl1 : inI l1) (hl2 : inL l2) (hl3 : l3 % 8 ≠ 1) (hl5 : inI l5) (hl6 : inI l6) (hl7 : inI l7) (hl8 : inI l8) (hl9 : l9 % 8 ≠ 1) (hl10 : l10 % 8 ≠ 1) (hl11 : l11 % 8 ≠ 1) (hl12 : l12 % 8 ≠ 1) (hl13 : l13 % 8 ≠ 1) (hj0 : ∀ (l1 : Int) (l2 : Int) (l3 : Nat) (l4 : Int) (l5 : Int) (l6 : Int) (l7 : Int) (l8 : Nat) (l9 : Nat) (l10 : Nat) (l11 : Nat) (l12 : Nat) (l13 : Nat) (G : gS), (inI l1) → (inL l2) → (l3 % 8 ≠ 1) → (inI l5) → (inI l6) → (l8 % 8 ≠ 1) → (l9 % 8 ≠ 1) → (l10 % 8 ≠ 1) → (l11 % 8 ≠ 1) → (l12 % 8 ≠ 1) → (l13 % 8 ≠ 1) → J 0 [l1, l2, l4, l5, l6, l7] G Q → Tg W0 (j 0) [rf (815), cI (l1), cL (l2), l3, rf (l4), cI (l5), cI (l6), rf (l7), l8, l9, l10, l11, l12, l13] [] G (fun r G => ∃ v, r = rf v ∧ Q v G)) (hj1 : ∀ (l1 : Int) (l2 : Int) (l3 : Nat) (l4 : Int) (l5 : Int) (l6 : Int) (l7 : Int) (l8 : Int) (l9 : Nat) (l10 : Nat) (l11 : Nat) (l12 : Nat) (l13 : Nat) (G : gS), (inI l1) → (inL l2) → (l3 % 8 ≠ 1) → (inI l5) → (inI l6) → (inI l7) → (inI l8) → (l9 % 8 ≠ 1) → (l10 % 8 ≠ 1) → (l11 % 8 ≠ 1) → (l12 % 8 ≠ 1) → (l13 % 8 ≠ 1) → J 1 [l1, l2, l4, l5, l6, l7, l8] G Q → Tg W0 (j 1) [rf (815), cI (l1), cL (l2), l3, rf (l4), cI (l5), cI (l6), cI (l7), cI (l8), l9, l10, l11, l12, l13] [] G (fun r G => ∃ v, r = rf v ∧ Q v G)) (hj2 : ∀ (l1 : Int) (l2 : Int) (l3 : Nat) (l4 : Int) (l5 : Int) (l6 : Int) (l7 : Int) (l8 : Int) (l9 : Int) (l10 : Int) (l11 : Int) (l12 : Nat) (l13 : Nat) (G : gS), (inI l1) → (inL l2) → (l3 % 8 ≠ 1) → (inI l5) → (inI l6) → (inI l7) → (inI l8) → (inI l10) → (inI l11) → (l12 % 8 ≠ 1) → (l13 % 8 ≠ 1) → J 2 [l1, l2, l4, l5, l6, l7, l8, l9, l10, l11] G Q → Tg W0 (j 2) [rf (815), cI (l1), cL (l2), l3, rf (l4), cI (l5), cI (l6), cI (l7), cI (l8), rf (l9), cI (l10), cI (l11), l12, l13] [] G (fun r G => ∃ v, r = rf v ∧ Q v G)) (hj3 : ∀ (l1 : Int) (l2 : Int) (l3 : Nat) (l4 : Int) (l5 : Int) (l6 : Int) (l7 : Int) (l8 : Int) (l9 : Nat) (l10 : Nat) (l11 : Nat) (l12 : Nat) (l13 : Nat) (G : gS), (inI l1) → (inL l2) → (l3 % 8 ≠ 1) → (inI l5) → (inI l6) → (inI l7) → (inI l8) → (l9 % 8 ≠ 1) → (l10 % 8 ≠ 1) → (l11 % 8 ≠ 1) → (l12 % 8 ≠ 1) → (l13 % 8 ≠ 1) → J 3 [l1, l2, l4, l5, l6, l7, l8] G Q → Tg W0 (j 3) [rf (815), cI (l1), cL (l2), l3, rf (l4), cI (l5), cI (l6), cI (l7), cI (l8), l9, l10, l11, l12, l13] [] G (fun r G => ∃ v, r = rf v ∧ Q v G)) (hj4 : ∀ (l1 : Int) (l2 : Int) (l3 : Nat) (l4 : Int) (l5 : Int) (l6 : Int) (l7 : Int) (l8 : Int) (l9 : Int) (l10 : Int) (l11 : Nat) (l12 : Nat) (l13 : Nat) (G : gS), (inI l1) → (inL l2) → (l3 % 8 ≠ 1) → (inI l5) → (inI l6) → (inI l7) → (inI l8) → (inI l9) → (inI l10) → (l11 % 8 ≠ 1) → (l12 % 8 ≠ 1) → (l13 % 8 ≠ 1) → J 4 [l1, l2, l4, l5, l6, l7, l8, l9, l10] G Q → Tg W0 (j 4) [rf (815), cI (l1), cL (l2), l3, rf (l4), cI (l5), cI (l6), cI (l7), cI (l8), cI (l9), cI (l10), l11, l12, l13] [] G (fun r G => ∃ v, r = rf v ∧ Q v G)) (hj5 : ∀ (l1 : Int) (l2 : Int) (l3 : Nat) (l4 : Int) (l5 : Int) (l6 : Int) (l7 : Int) (l8 : Int) (l9 : Int) (l10 : Int) (l11 : Int) (l12 : Nat) (l13 : Nat) (G : gS), (inI l1) → (inL l2) → (l3 % 8 ≠ 1) → (inI l5) → (inI l6) → (inI l7) → (inI l8) → (inI l9) → (inI l10) → (inI l11) → (l12 % 8 ≠ 1) → (l13 % 8 ≠ 1) → J 5 [l1, l2, l4, l5, l6, l7, l8, l9, l10, l11] G Q → Tg W0 (j 5) [rf (815), cI (l1), cL (l2), l3, rf (l4), cI (l5), cI (l6), cI (l7), cI (l8), cI (l9), cI (l10), cI (l11), l12, l13] [] G (fun r G => ∃ v, r = rf v ∧ Q v G)) (h : PX0_meant_48 J l1 l2 l4 l5 l6 l7 l8 G Q) : Tg W0 (vX0_meant_48 j) [rf (815), cI (l1), cL (l2), l3, rf (l4), cI (l5), cI (l6), cI (l7), cI (l8), l9, l10, l11, l12, l13] [] G (fun r G => ∃ v, r = rf v ∧ Q v G) := by
  unfold PX0_meant_48 at h
  unfold vX0_meant_48
  refine g_ld (v := cI _) rfl (is_I _) ?_
  refine g_ld (v := cI _) rfl (is_I _) ?_
  refine g_lt2 hl8 hl7 (fun b10 => ?_) (fun b10 => ?_)
  · replace h := h.1 b10
    unfold vX0_meant_55
    refine g_ld (v := rf _) rfl (is_R _) ?_
    refine g_getR (kz := 0) (c := 11) oC0 rfl (Nat.le_of_ble_eq_true rfl) rfl (by decide) fun i11 => ?_
    replace h := h i11
    obtain ⟨q12, h⟩ := h
    refine g_getF q12 (ff11_1 q12).1 rfl (Nat.le_of_ble_eq_true rfl) (Nat.le_of_ble_eq_true rfl) ?_
    refine g_ld (v := rf _) rfl (is_R _) ?_
    refine g_getF (v := 819) oC0 (hC0_15) rfl (Nat.le_of_ble_eq_true rfl) (Nat.le_of_ble_eq_true rfl) ?_
    refine g_ld (v := cI _) rfl (is_I _) ?_
    obtain ⟨q13, q14, h⟩ := h
    refine g_aldI aC819 q13 q14 rfl fun i15 => ?_
    replace h := h i15
    obtain ⟨q16, q17, h⟩ := h
    refine g_aldRF (c := 10) (ff11_1 q12).2 q16 q17 rfl (by decide) fun i18 => ?_
    replace h := h i18
    refine g_st (lv' := [_, _, _, _, _, _, _, _, _, _, _, _, _, _]) (is_R _) (Nat.le_of_ble_eq_true rfl) (Or.inr (n1_I _)) rfl ?_
    refine g_ld (v := rf _) rfl (is_R _) ?_
    obtain ⟨q19, h⟩ := h
    refine g_getZ (kz := 4) q19 rfl (Nat.le_of_ble_eq_true rfl) rfl fun i20 => ?_
    replace h := h i20
    refine g_eq1 ⟨by omega, by omega⟩ (fun b21 => ?_) (fun b21 => ?_)
    · replace h := h.1 b21
      exact TX0_meant_95 hl1 hl2 hl3 hl5 hl6 hl7 hl8 hl10 hl11 hl12 hl13 hj0 hj1 hj2 hj3 hj4 hj5 h
    · replace h := h.2 b21
      unfold vX0_meant_80
      refine g_ld (v := rf _) rfl (is_R _) ?_
      refine g_getF (v := 819) oC0 (hC0_15) rfl (Nat.le_of_ble_eq_true rfl) (Nat.le_of_ble_eq_true rfl) ?_
      refine g_ld (v := cI _) rfl (is_I _) ?_
      obtain ⟨q22, q23, h⟩ := h
      refine g_aldI aC819 q22 q23 rfl fun i24 => ?_
      replace h := h i24
      refine g_ld (v := cI _) rfl (is_I _) ?_
      refine g_eq2 i24 hl1 (fun b25 => ?_) (fun b25 => ?_)
      · replace h := h.1 b25
        exact TX0_meant_95 hl1 hl2 hl3 hl5 hl6 hl7 hl8 hl10 hl11 hl12 hl13 hj0 hj1 hj2 hj3 hj4 hj5 h
      · replace h := h.2 b25
        unfold vX0_meant_91
        refine g_const (v := cI (1)) rfl ?_
        exact TX0_meant_96 hl1 hl2 hl3 hl5 hl6 hl7 hl8 hl10 hl11 hl12 hl13 ⟨by omega, by omega⟩ hj0 hj1 hj2 hj3 hj4 hj5 h
  · replace h := h.2 b10
    unfold vX0_meant_249
    refine g_const (v := cI (0)) rfl ?_
    refine g_st (lv' := [_, _, _, _, _, _, _, _, _, _, _, _, _, _]) (is_I _) (Nat.le_of_ble_eq_true rfl) (Or.inr (n1_I _)) rfl ?_
    exact TX0_meant_252 hl1 hl2 hl3 hl5 hl6 hl7 ⟨by omega, by omega⟩ hl9 hl10 hl11 hl12 hl13 hj0 hj1 hj2 hj3 hj4 hj5 h
def PX0_meant_13 (J : Nat → List Int → gS → (Int → gS → Prop) → Prop) (l1 : Int) (l2 : Int) (l4 : Int) (l5 : Int) (l6 : Int) (l7 : Int) (G : gS) (Q : Int → gS → Prop) : Prop :=
  ((l7 < 0 → PX0_whereLooked l1 l5 G (fun r4 G3 => inI r4 → (∀ G6 : gS, G6 = uG G3 815 14 (0) → PX0_meant_48 J l1 l2 l4 l5 l6 r4 0 G6 Q))) ∧ (0 ≤ l7 → (inI (l6 + 1) ∧ (isO W0 8 (l7) ∧ ((G l7 8 = -1 ∨ isO W0 8 (G l7 8)) → J 0 [l1, l2, l4, l5, l6 + 1, G l7 8] G Q)))))
set_option maxRecDepth 20000 in
theorem TX0_meant_13 {j : Nat → rx_K} {J : Nat → List Int → gS → (Int → gS → Prop) → Prop} {l1 : Int} {l2 : Int} {l3 : Nat} {l4 : Int} {l5 : Int} {l6 : Int} {l7 : Int} {l8 : Nat} {l9 : Nat} {l10 : Nat} {l11 : Nat} {l12 : Nat} {l13 : Nat} {G : gS} {Q : Int → gS → Prop} (hl1 : inI l1) (hl2 : inL l2) (hl3 : l3 % 8 ≠ 1) (hl5 : inI l5) (hl6 : inI l6) (hl8 : l8 % 8 ≠ 1) (hl9 : l9 % 8 ≠ 1) (hl10 : l10 % 8 ≠ 1) (hl11 : l11 % 8 ≠ 1) (hl12 : l12 % 8 ≠ 1) (hl13 : l13 % 8 ≠ 1) (hj0 : ∀ (l1 : Int) (l2 : Int) (l3 : Nat) (l4 : Int) (l5 : Int) (l6 : Int) (l7 : Int) (l8 : Nat) (l9 : Nat) (l10 : Nat) (l11 : Nat) (l12 : Nat) (l13 : Nat) (G : gS), (inI l1) → (inL l2) → (l3 % 8 ≠ 1) → (inI l5) → (inI l6) → (l8 % 8 ≠ 1) → (l9 % 8 ≠ 1) → (l10 % 8 ≠ 1) → (l11 % 8 ≠ 1) → (l12 % 8 ≠ 1) → (l13 % 8 ≠ 1) → J 0 [l1, l2, l4, l5, l6, l7] G Q → Tg W0 (j 0) [rf (815), cI (l1), cL (l2), l3, rf (l4), cI (l5), cI (l6), rf (l7), l8, l9, l10, l11, l12, l13] [] G (fun r G => ∃ v, r = rf v ∧ Q v G)) (hj1 : ∀ (l1 : Int) (l2 : Int) (l3 : Nat) (l4 : Int) (l5 : Int) (l6 : Int) (l7 : Int) (l8 : Int) (l9 : Nat) (l10 : Nat) (l11 : Nat) (l12 : Nat) (l13 : Nat) (G : gS), (inI l1) → (inL l2) → (l3 % 8 ≠ 1) → (inI l5) → (inI l6) → (inI l7) → (inI l8) → (l9 % 8 ≠ 1) → (l10 % 8 ≠ 1) → (l11 % 8 ≠ 1) → (l12 % 8 ≠ 1) → (l13 % 8 ≠ 1) → J 1 [l1, l2, l4, l5, l6, l7, l8] G Q → Tg W0 (j 1) [rf (815), cI (l1), cL (l2), l3, rf (l4), cI (l5), cI (l6), cI (l7), cI (l8), l9, l10, l11, l12, l13] [] G (fun r G => ∃ v, r = rf v ∧ Q v G)) (hj2 : ∀ (l1 : Int) (l2 : Int) (l3 : Nat) (l4 : Int) (l5 : Int) (l6 : Int) (l7 : Int) (l8 : Int) (l9 : Int) (l10 : Int) (l11 : Int) (l12 : Nat) (l13 : Nat) (G : gS), (inI l1) → (inL l2) → (l3 % 8 ≠ 1) → (inI l5) → (inI l6) → (inI l7) → (inI l8) → (inI l10) → (inI l11) → (l12 % 8 ≠ 1) → (l13 % 8 ≠ 1) → J 2 [l1, l2, l4, l5, l6, l7, l8, l9, l10, l11] G Q → Tg W0 (j 2) [rf (815), cI (l1), cL (l2), l3, rf (l4), cI (l5), cI (l6), cI (l7), cI (l8), rf (l9), cI (l10), cI (l11), l12, l13] [] G (fun r G => ∃ v, r = rf v ∧ Q v G)) (hj3 : ∀ (l1 : Int) (l2 : Int) (l3 : Nat) (l4 : Int) (l5 : Int) (l6 : Int) (l7 : Int) (l8 : Int) (l9 : Nat) (l10 : Nat) (l11 : Nat) (l12 : Nat) (l13 : Nat) (G : gS), (inI l1) → (inL l2) → (l3 % 8 ≠ 1) → (inI l5) → (inI l6) → (inI l7) → (inI l8) → (l9 % 8 ≠ 1) → (l10 % 8 ≠ 1) → (l11 % 8 ≠ 1) → (l12 % 8 ≠ 1) → (l13 % 8 ≠ 1) → J 3 [l1, l2, l4, l5, l6, l7, l8] G Q → Tg W0 (j 3) [rf (815), cI (l1), cL (l2), l3, rf (l4), cI (l5), cI (l6), cI (l7), cI (l8), l9, l10, l11, l12, l13] [] G (fun r G => ∃ v, r = rf v ∧ Q v G)) (hj4 : ∀ (l1 : Int) (l2 : Int) (l3 : Nat) (l4 : Int) (l5 : Int) (l6 : Int) (l7 : Int) (l8 : Int) (l9 : Int) (l10 : Int) (l11 : Nat) (l12 : Nat) (l13 : Nat) (G : gS), (inI l1) → (inL l2) → (l3 % 8 ≠ 1) → (inI l5) → (inI l6) → (inI l7) → (inI l8) → (inI l9) → (inI l10) → (l11 % 8 ≠ 1) → (l12 % 8 ≠ 1) → (l13 % 8 ≠ 1) → J 4 [l1, l2, l4, l5, l6, l7, l8, l9, l10] G Q → Tg W0 (j 4) [rf (815), cI (l1), cL (l2), l3, rf (l4), cI (l5), cI (l6), cI (l7), cI (l8), cI (l9), cI (l10), l11, l12, l13] [] G (fun r G => ∃ v, r = rf v ∧ Q v G)) (hj5 : ∀ (l1 : Int) (l2 : Int) (l3 : Nat) (l4 : Int) (l5 : Int) (l6 : Int) (l7 : Int) (l8 : Int) (l9 : Int) (l10 : Int) (l11 : Int) (l12 : Nat) (l13 : Nat) (G : gS), (inI l1) → (inL l2) → (l3 % 8 ≠ 1) → (inI l5) → (inI l6) → (inI l7) → (inI l8) → (inI l9) → (inI l10) → (inI l11) → (l12 % 8 ≠ 1) → (l13 % 8 ≠ 1) → J 5 [l1, l2, l4, l5, l6, l7, l8, l9, l10, l11] G Q → Tg W0 (j 5) [rf (815), cI (l1), cL (l2), l3, rf (l4), cI (l5), cI (l6), cI (l7), cI (l8), cI (l9), cI (l10), cI (l11), l12, l13] [] G (fun r G => ∃ v, r = rf v ∧ Q v G)) (h : PX0_meant_13 J l1 l2 l4 l5 l6 l7 G Q) : Tg W0 (vX0_meant_13 j) [rf (815), cI (l1), cL (l2), l3, rf (l4), cI (l5), cI (l6), rf (l7), l8, l9, l10, l11, l12, l13] [] G (fun r G => ∃ v, r = rf v ∧ Q v G) := by
  unfold PX0_meant_13 at h
  unfold vX0_meant_13
  refine g_ld (v := rf _) rfl (is_R _) ?_
  refine g_nul (fun b2 => ?_) (fun b2 => ?_)
  · replace h := h.1 b2
    unfold vX0_meant_31
    refine g_ld (v := rf _) rfl (is_R _) ?_
    refine g_ld (v := cI _) rfl (is_I _) ?_
    refine g_ld (v := cI _) rfl (is_I _) ?_
    refine g_callV (As := [_, _]) (ci := 0) oC0 (fun _ => rfl) ?_
    refine g_go1 (Nat.le_of_ble_eq_true rfl) (Tn_w (TX0_whereLooked hl1 hl5 h) fun _ G3 ⟨r4, e, i5, h⟩ => ?_)
    subst e
    refine ⟨n7_I _, ?_⟩
    replace h := h i5
    refine g_st (lv' := [_, _, _, _, _, _, _, _, _, _, _, _, _, _]) (is_I _) (Nat.le_of_ble_eq_true rfl) (Or.inr (n1_I _)) rfl ?_
    refine g_ld (v := rf _) rfl (is_R _) ?_
    refine g_const (v := cI (0)) rfl ?_
    refine g_putI (kz := 14) oC0 rfl (Nat.le_of_ble_eq_true rfl) rfl ⟨by omega, by omega⟩ (zfin_no (c := 815) (j := 14) rfl) ?_
    replace h := h _ rfl
    refine g_const (v := cI (0)) rfl ?_
    refine g_st (lv' := [_, _, _, _, _, _, _, _, _, _, _, _, _, _]) (is_I _) (Nat.le_of_ble_eq_true rfl) (Or.inr (n1_I _)) rfl ?_
    exact TX0_meant_48 hl1 hl2 hl3 hl5 hl6 i5 ⟨by omega, by omega⟩ hl9 hl10 hl11 hl12 hl13 hj0 hj1 hj2 hj3 hj4 hj5 h
  · replace h := h.2 b2
    unfold vX0_meant_18
    refine g_inc (lv' := [_, _, _, _, _, _, _, _, _, _, _, _, _, _]) rfl (Nat.le_of_ble_eq_true rfl) (Or.inr (n1_I _)) rfl ?_
    obtain ⟨q7, h⟩ := h
    refine g_ld (v := rf _) rfl (is_R _) ?_
    obtain ⟨q8, h⟩ := h
    refine g_getR (kz := 8) (c := 8) q8 rfl (Nat.le_of_ble_eq_true rfl) rfl (by decide) fun i9 => ?_
    replace h := h i9
    refine g_st (lv' := [_, _, _, _, _, _, _, _, _, _, _, _, _, _]) (is_R _) (Nat.le_of_ble_eq_true rfl) (Or.inr (n1_I _)) rfl ?_
    exact hj0 _ _ _ _ _ _ _ _ _ _ _ _ _ _ hl1 hl2 hl3 hl5 q7 hl8 hl9 hl10 hl11 hl12 hl13 h
def PX0_meant_0 (J : Nat → List Int → gS → (Int → gS → Prop) → Prop) (a1 : Int) (a2 : Int) (a4 : Int) (a5 : Int) (G : gS) (Q : Int → gS → Prop) : Prop :=
  ((a1 < 0 → Q (-1) G) ∧ (¬ (a1 < 0) → PX0_meant_13 J a1 a2 a4 a5 0 a4 G Q))
set_option maxRecDepth 20000 in
theorem TX0_meant_0 {j : Nat → rx_K} {J : Nat → List Int → gS → (Int → gS → Prop) → Prop} {a1 : Int} {a2 : Int} {a4 : Int} {a5 : Int} {G : gS} {Q : Int → gS → Prop} (ha1 : inI a1) (ha2 : inL a2) (ha5 : inI a5) (hj0 : ∀ (l1 : Int) (l2 : Int) (l3 : Nat) (l4 : Int) (l5 : Int) (l6 : Int) (l7 : Int) (l8 : Nat) (l9 : Nat) (l10 : Nat) (l11 : Nat) (l12 : Nat) (l13 : Nat) (G : gS), (inI l1) → (inL l2) → (l3 % 8 ≠ 1) → (inI l5) → (inI l6) → (l8 % 8 ≠ 1) → (l9 % 8 ≠ 1) → (l10 % 8 ≠ 1) → (l11 % 8 ≠ 1) → (l12 % 8 ≠ 1) → (l13 % 8 ≠ 1) → J 0 [l1, l2, l4, l5, l6, l7] G Q → Tg W0 (j 0) [rf (815), cI (l1), cL (l2), l3, rf (l4), cI (l5), cI (l6), rf (l7), l8, l9, l10, l11, l12, l13] [] G (fun r G => ∃ v, r = rf v ∧ Q v G)) (hj1 : ∀ (l1 : Int) (l2 : Int) (l3 : Nat) (l4 : Int) (l5 : Int) (l6 : Int) (l7 : Int) (l8 : Int) (l9 : Nat) (l10 : Nat) (l11 : Nat) (l12 : Nat) (l13 : Nat) (G : gS), (inI l1) → (inL l2) → (l3 % 8 ≠ 1) → (inI l5) → (inI l6) → (inI l7) → (inI l8) → (l9 % 8 ≠ 1) → (l10 % 8 ≠ 1) → (l11 % 8 ≠ 1) → (l12 % 8 ≠ 1) → (l13 % 8 ≠ 1) → J 1 [l1, l2, l4, l5, l6, l7, l8] G Q → Tg W0 (j 1) [rf (815), cI (l1), cL (l2), l3, rf (l4), cI (l5), cI (l6), cI (l7), cI (l8), l9, l10, l11, l12, l13] [] G (fun r G => ∃ v, r = rf v ∧ Q v G)) (hj2 : ∀ (l1 : Int) (l2 : Int) (l3 : Nat) (l4 : Int) (l5 : Int) (l6 : Int) (l7 : Int) (l8 : Int) (l9 : Int) (l10 : Int) (l11 : Int) (l12 : Nat) (l13 : Nat) (G : gS), (inI l1) → (inL l2) → (l3 % 8 ≠ 1) → (inI l5) → (inI l6) → (inI l7) → (inI l8) → (inI l10) → (inI l11) → (l12 % 8 ≠ 1) → (l13 % 8 ≠ 1) → J 2 [l1, l2, l4, l5, l6, l7, l8, l9, l10, l11] G Q → Tg W0 (j 2) [rf (815), cI (l1), cL (l2), l3, rf (l4), cI (l5), cI (l6), cI (l7), cI (l8), rf (l9), cI (l10), cI (l11), l12, l13] [] G (fun r G => ∃ v, r = rf v ∧ Q v G)) (hj3 : ∀ (l1 : Int) (l2 : Int) (l3 : Nat) (l4 : Int) (l5 : Int) (l6 : Int) (l7 : Int) (l8 : Int) (l9 : Nat) (l10 : Nat) (l11 : Nat) (l12 : Nat) (l13 : Nat) (G : gS), (inI l1) → (inL l2) → (l3 % 8 ≠ 1) → (inI l5) → (inI l6) → (inI l7) → (inI l8) → (l9 % 8 ≠ 1) → (l10 % 8 ≠ 1) → (l11 % 8 ≠ 1) → (l12 % 8 ≠ 1) → (l13 % 8 ≠ 1) → J 3 [l1, l2, l4, l5, l6, l7, l8] G Q → Tg W0 (j 3) [rf (815), cI (l1), cL (l2), l3, rf (l4), cI (l5), cI (l6), cI (l7), cI (l8), l9, l10, l11, l12, l13] [] G (fun r G => ∃ v, r = rf v ∧ Q v G)) (hj4 : ∀ (l1 : Int) (l2 : Int) (l3 : Nat) (l4 : Int) (l5 : Int) (l6 : Int) (l7 : Int) (l8 : Int) (l9 : Int) (l10 : Int) (l11 : Nat) (l12 : Nat) (l13 : Nat) (G : gS), (inI l1) → (inL l2) → (l3 % 8 ≠ 1) → (inI l5) → (inI l6) → (inI l7) → (inI l8) → (inI l9) → (inI l10) → (l11 % 8 ≠ 1) → (l12 % 8 ≠ 1) → (l13 % 8 ≠ 1) → J 4 [l1, l2, l4, l5, l6, l7, l8, l9, l10] G Q → Tg W0 (j 4) [rf (815), cI (l1), cL (l2), l3, rf (l4), cI (l5), cI (l6), cI (l7), cI (l8), cI (l9), cI (l10), l11, l12, l13] [] G (fun r G => ∃ v, r = rf v ∧ Q v G)) (hj5 : ∀ (l1 : Int) (l2 : Int) (l3 : Nat) (l4 : Int) (l5 : Int) (l6 : Int) (l7 : Int) (l8 : Int) (l9 : Int) (l10 : Int) (l11 : Int) (l12 : Nat) (l13 : Nat) (G : gS), (inI l1) → (inL l2) → (l3 % 8 ≠ 1) → (inI l5) → (inI l6) → (inI l7) → (inI l8) → (inI l9) → (inI l10) → (inI l11) → (l12 % 8 ≠ 1) → (l13 % 8 ≠ 1) → J 5 [l1, l2, l4, l5, l6, l7, l8, l9, l10, l11] G Q → Tg W0 (j 5) [rf (815), cI (l1), cL (l2), l3, rf (l4), cI (l5), cI (l6), cI (l7), cI (l8), cI (l9), cI (l10), cI (l11), l12, l13] [] G (fun r G => ∃ v, r = rf v ∧ Q v G)) (h : PX0_meant_0 J a1 a2 a4 a5 G Q) : Tg W0 (vX0_meant_0 j) [rf (815), cI (a1), cL (a2), 7, rf (a4), cI (a5), 7, 7, 7, 7, 7, 7, 7, 7] [] G (fun r G => ∃ v, r = rf v ∧ Q v G) := by
  unfold PX0_meant_0 at h
  unfold vX0_meant_0
  refine g_ld (v := cI _) rfl (is_I _) ?_
  refine g_lt1 ha1 (fun b1 => ?_) (fun b1 => ?_)
  · replace h := h.1 b1
    unfold vX0_meant_4
    refine g_const (v := rf (-1)) rfl ?_
    exact g_ret1 (is_R _) ⟨_, rfl, h⟩
  · replace h := h.2 b1
    unfold vX0_meant_6
    refine g_const (v := cI (0)) rfl ?_
    refine g_st (lv' := [_, _, _, _, _, _, _, _, _, _, _, _, _, _]) (is_I _) (Nat.le_of_ble_eq_true rfl) (Or.inr (n1_I _)) rfl ?_
    refine g_ld (v := rf _) rfl (is_R _) ?_
    refine g_st (lv' := [_, _, _, _, _, _, _, _, _, _, _, _, _, _]) (is_R _) (Nat.le_of_ble_eq_true rfl) (Or.inr (n1_I _)) rfl ?_
    exact TX0_meant_13 ha1 ha2 (show 7 % 8 ≠ 1 by decide) ha5 ⟨by omega, by omega⟩ (show 7 % 8 ≠ 1 by decide) (show 7 % 8 ≠ 1 by decide) (show 7 % 8 ≠ 1 by decide) (show 7 % 8 ≠ 1 by decide) (show 7 % 8 ≠ 1 by decide) (show 7 % 8 ≠ 1 by decide) hj0 hj1 hj2 hj3 hj4 hj5 h
def PX0_meant_J : Nat → Nat → List Int → gS → (Int → gS → Prop) → Prop
  | 0, _, _, _, _ => False
  | f + 1, h, L, G, Q => match h, L with
    | 0, [l1, l2, l4, l5, l6, l7] => PX0_meant_13 (PX0_meant_J f) l1 l2 l4 l5 l6 l7 G Q
    | 1, [l1, l2, l4, l5, l6, l7, l8] => PX0_meant_48 (PX0_meant_J f) l1 l2 l4 l5 l6 l7 l8 G Q
    | 2, [l1, l2, l4, l5, l6, l7, l8, l9, l10, l11] => PX0_meant_101 (PX0_meant_J f) l1 l2 l4 l5 l6 l7 l8 l9 l10 l11 G Q
    | 3, [l1, l2, l4, l5, l6, l7, l8] => PX0_meant_252 (PX0_meant_J f) l1 l2 l4 l5 l6 l7 l8 G Q
    | 4, [l1, l2, l4, l5, l6, l7, l8, l9, l10] => PX0_meant_267 (PX0_meant_J f) l1 l2 l4 l5 l6 l7 l8 l9 l10 G Q
    | 5, [l1, l2, l4, l5, l6, l7, l8, l9, l10, l11] => PX0_meant_284 (PX0_meant_J f) l1 l2 l4 l5 l6 l7 l8 l9 l10 l11 G Q
    | _, _ => False
theorem TX0_meant_J {Q : Int → gS → Prop} : ∀ f N : Nat, f ≤ N → (∀ (l1 : Int) (l2 : Int) (l3 : Nat) (l4 : Int) (l5 : Int) (l6 : Int) (l7 : Int) (l8 : Nat) (l9 : Nat) (l10 : Nat) (l11 : Nat) (l12 : Nat) (l13 : Nat) (G : gS), (inI l1) → (inL l2) → (l3 % 8 ≠ 1) → (inI l5) → (inI l6) → (l8 % 8 ≠ 1) → (l9 % 8 ≠ 1) → (l10 % 8 ≠ 1) → (l11 % 8 ≠ 1) → (l12 % 8 ≠ 1) → (l13 % 8 ≠ 1) → (PX0_meant_J f) 0 [l1, l2, l4, l5, l6, l7] G Q → Tg W0 (rx_J vhX0_meant N 0) [rf (815), cI (l1), cL (l2), l3, rf (l4), cI (l5), cI (l6), rf (l7), l8, l9, l10, l11, l12, l13] [] G (fun r G => ∃ v, r = rf v ∧ Q v G)) ∧ (∀ (l1 : Int) (l2 : Int) (l3 : Nat) (l4 : Int) (l5 : Int) (l6 : Int) (l7 : Int) (l8 : Int) (l9 : Nat) (l10 : Nat) (l11 : Nat) (l12 : Nat) (l13 : Nat) (G : gS), (inI l1) → (inL l2) → (l3 % 8 ≠ 1) → (inI l5) → (inI l6) → (inI l7) → (inI l8) → (l9 % 8 ≠ 1) → (l10 % 8 ≠ 1) → (l11 % 8 ≠ 1) → (l12 % 8 ≠ 1) → (l13 % 8 ≠ 1) → (PX0_meant_J f) 1 [l1, l2, l4, l5, l6, l7, l8] G Q → Tg W0 (rx_J vhX0_meant N 1) [rf (815), cI (l1), cL (l2), l3, rf (l4), cI (l5), cI (l6), cI (l7), cI (l8), l9, l10, l11, l12, l13] [] G (fun r G => ∃ v, r = rf v ∧ Q v G)) ∧ (∀ (l1 : Int) (l2 : Int) (l3 : Nat) (l4 : Int) (l5 : Int) (l6 : Int) (l7 : Int) (l8 : Int) (l9 : Int) (l10 : Int) (l11 : Int) (l12 : Nat) (l13 : Nat) (G : gS), (inI l1) → (inL l2) → (l3 % 8 ≠ 1) → (inI l5) → (inI l6) → (inI l7) → (inI l8) → (inI l10) → (inI l11) → (l12 % 8 ≠ 1) → (l13 % 8 ≠ 1) → (PX0_meant_J f) 2 [l1, l2, l4, l5, l6, l7, l8, l9, l10, l11] G Q → Tg W0 (rx_J vhX0_meant N 2) [rf (815), cI (l1), cL (l2), l3, rf (l4), cI (l5), cI (l6), cI (l7), cI (l8), rf (l9), cI (l10), cI (l11), l12, l13] [] G (fun r G => ∃ v, r = rf v ∧ Q v G)) ∧ (∀ (l1 : Int) (l2 : Int) (l3 : Nat) (l4 : Int) (l5 : Int) (l6 : Int) (l7 : Int) (l8 : Int) (l9 : Nat) (l10 : Nat) (l11 : Nat) (l12 : Nat) (l13 : Nat) (G : gS), (inI l1) → (inL l2) → (l3 % 8 ≠ 1) → (inI l5) → (inI l6) → (inI l7) → (inI l8) → (l9 % 8 ≠ 1) → (l10 % 8 ≠ 1) → (l11 % 8 ≠ 1) → (l12 % 8 ≠ 1) → (l13 % 8 ≠ 1) → (PX0_meant_J f) 3 [l1, l2, l4, l5, l6, l7, l8] G Q → Tg W0 (rx_J vhX0_meant N 3) [rf (815), cI (l1), cL (l2), l3, rf (l4), cI (l5), cI (l6), cI (l7), cI (l8), l9, l10, l11, l12, l13] [] G (fun r G => ∃ v, r = rf v ∧ Q v G)) ∧ (∀ (l1 : Int) (l2 : Int) (l3 : Nat) (l4 : Int) (l5 : Int) (l6 : Int) (l7 : Int) (l8 : Int) (l9 : Int) (l10 : Int) (l11 : Nat) (l12 : Nat) (l13 : Nat) (G : gS), (inI l1) → (inL l2) → (l3 % 8 ≠ 1) → (inI l5) → (inI l6) → (inI l7) → (inI l8) → (inI l9) → (inI l10) → (l11 % 8 ≠ 1) → (l12 % 8 ≠ 1) → (l13 % 8 ≠ 1) → (PX0_meant_J f) 4 [l1, l2, l4, l5, l6, l7, l8, l9, l10] G Q → Tg W0 (rx_J vhX0_meant N 4) [rf (815), cI (l1), cL (l2), l3, rf (l4), cI (l5), cI (l6), cI (l7), cI (l8), cI (l9), cI (l10), l11, l12, l13] [] G (fun r G => ∃ v, r = rf v ∧ Q v G)) ∧ (∀ (l1 : Int) (l2 : Int) (l3 : Nat) (l4 : Int) (l5 : Int) (l6 : Int) (l7 : Int) (l8 : Int) (l9 : Int) (l10 : Int) (l11 : Int) (l12 : Nat) (l13 : Nat) (G : gS), (inI l1) → (inL l2) → (l3 % 8 ≠ 1) → (inI l5) → (inI l6) → (inI l7) → (inI l8) → (inI l9) → (inI l10) → (inI l11) → (l12 % 8 ≠ 1) → (l13 % 8 ≠ 1) → (PX0_meant_J f) 5 [l1, l2, l4, l5, l6, l7, l8, l9, l10, l11] G Q → Tg W0 (rx_J vhX0_meant N 5) [rf (815), cI (l1), cL (l2), l3, rf (l4), cI (l5), cI (l6), cI (l7), cI (l8), cI (l9), cI (l10), cI (l11), l12, l13] [] G (fun r G => ∃ v, r = rf v ∧ Q v G)) := by
  intro f
  induction f with
  | zero => exact fun N _ => ⟨fun _ _ _ _ _ _ _ _ _ _ _ _ _ _ _ _ _ _ _ _ _ _ _ _ _ h => h.elim, fun _ _ _ _ _ _ _ _ _ _ _ _ _ _ _ _ _ _ _ _ _ _ _ _ _ _ h => h.elim, fun _ _ _ _ _ _ _ _ _ _ _ _ _ _ _ _ _ _ _ _ _ _ _ _ _ h => h.elim, fun _ _ _ _ _ _ _ _ _ _ _ _ _ _ _ _ _ _ _ _ _ _ _ _ _ _ h => h.elim, fun _ _ _ _ _ _ _ _ _ _ _ _ _ _ _ _ _ _ _ _ _ _ _ _ _ _ h => h.elim, fun _ _ _ _ _ _ _ _ _ _ _ _ _ _ _ _ _ _ _ _ _ _ _ _ _ _ h => h.elim⟩
  | succ f ih =>
    intro N hN
    obtain ⟨M, rfl⟩ : ∃ M, N = M + 1 := ⟨N - 1, by omega⟩
    have ih := ih M (by omega)
    exact ⟨fun _ _ _ _ _ _ _ _ _ _ _ _ _ _ hl1 hl2 hl3 hl5 hl6 hl8 hl9 hl10 hl11 hl12 hl13 h => show Tg W0 (vX0_meant_13 (rx_J vhX0_meant M)) _ _ _ _ from TX0_meant_13 hl1 hl2 hl3 hl5 hl6 hl8 hl9 hl10 hl11 hl12 hl13 ih.1 ih.2.1 ih.2.2.1 ih.2.2.2.1 ih.2.2.2.2.1 ih.2.2.2.2.2 h, fun _ _ _ _ _ _ _ _ _ _ _ _ _ _ hl1 hl2 hl3 hl5 hl6 hl7 hl8 hl9 hl10 hl11 hl12 hl13 h => show Tg W0 (vX0_meant_48 (rx_J vhX0_meant M)) _ _ _ _ from TX0_meant_48 hl1 hl2 hl3 hl5 hl6 hl7 hl8 hl9 hl10 hl11 hl12 hl13 ih.1 ih.2.1 ih.2.2.1 ih.2.2.2.1 ih.2.2.2.2.1 ih.2.2.2.2.2 h, fun _ _ _ _ _ _ _ _ _ _ _ _ _ _ hl1 hl2 hl3 hl5 hl6 hl7 hl8 hl10 hl11 hl12 hl13 h => show Tg W0 (vX0_meant_101 (rx_J vhX0_meant M)) _ _ _ _ from TX0_meant_101 hl1 hl2 hl3 hl5 hl6 hl7 hl8 hl10 hl11 hl12 hl13 ih.1 ih.2.1 ih.2.2.1 ih.2.2.2.1 ih.2.2.2.2.1 ih.2.2.2.2.2 h, fun _ _ _ _ _ _ _ _ _ _ _ _ _ _ hl1 hl2 hl3 hl5 hl6 hl7 hl8 hl9 hl10 hl11 hl12 hl13 h => show Tg W0 (vX0_meant_252 (rx_J vhX0_meant M)) _ _ _ _ from TX0_meant_252 hl1 hl2 hl3 hl5 hl6 hl7 hl8 hl9 hl10 hl11 hl12 hl13 ih.1 ih.2.1 ih.2.2.1 ih.2.2.2.1 ih.2.2.2.2.1 ih.2.2.2.2.2 h, fun _ _ _ _ _ _ _ _ _ _ _ _ _ _ hl1 hl2 hl3 hl5 hl6 hl7 hl8 hl9 hl10 hl11 hl12 hl13 h => show Tg W0 (vX0_meant_267 (rx_J vhX0_meant M)) _ _ _ _ from TX0_meant_267 hl1 hl2 hl3 hl5 hl6 hl7 hl8 hl9 hl10 hl11 hl12 hl13 ih.1 ih.2.1 ih.2.2.1 ih.2.2.2.1 ih.2.2.2.2.1 ih.2.2.2.2.2 h, fun _ _ _ _ _ _ _ _ _ _ _ _ _ _ hl1 hl2 hl3 hl5 hl6 hl7 hl8 hl9 hl10 hl11 hl12 hl13 h => show Tg W0 (vX0_meant_284 (rx_J vhX0_meant M)) _ _ _ _ from TX0_meant_284 hl1 hl2 hl3 hl5 hl6 hl7 hl8 hl9 hl10 hl11 hl12 hl13 ih.1 ih.2.1 ih.2.2.1 ih.2.2.2.1 ih.2.2.2.2.1 ih.2.2.2.2.2 h⟩
def PX0_meant (a1 : Int) (a2 : Int) (a4 : Int) (a5 : Int) (G : gS) (Q : Int → gS → Prop) : Prop := ∃ f : Nat, f ≤ 4000000000 ∧ PX0_meant_0 (PX0_meant_J f) a1 a2 a4 a5 G Q
theorem TX0_meant {a1 : Int} {a2 : Int} {a4 : Int} {a5 : Int} {G : gS} {Q : Int → gS → Prop} (ha1 : inI a1) (ha2 : inL a2) (ha5 : inI a5) (h : PX0_meant a1 a2 a4 a5 G Q) : Tn W0 FX0_meant [rf (815), cI (a1), cL (a2), rf (a4), cI (a5)] G (fun r G => ∃ v, r = rf v ∧ Q v G) := by
  obtain ⟨f, hf, h⟩ := h
  have hJ := TX0_meant_J (Q := Q) f 4000000000 hf
  unfold FX0_meant
  refine g_ent (lv' := [rf (815), cI (a1), cL (a2), 7, rf (a4), cI (a5), 7, 7, 7, 7, 7, 7, 7, 7]) (flR (flI (flL (flR (flI fl0))))) (Nat.le_of_ble_eq_true rfl) rfl ?_
  exact TX0_meant_0 ha1 ha2 ha5 hJ.1 hJ.2.1 hJ.2.2.1 hJ.2.2.2.1 hJ.2.2.2.2.1 hJ.2.2.2.2.2 h
def PX11_find_58 (J : Nat → List Int → gS → (Int → gS → Prop) → Prop) (o : Int) (l1 : Int) (l3 : Int) (s0 : Int) (G : gS) (Q : Int → gS → Prop) : Prop :=
  Q (s0) G
set_option maxRecDepth 20000 in
theorem TX11_find_58 {j : Nat → rx_K} {J : Nat → List Int → gS → (Int → gS → Prop) → Prop} {o : Int} {l1 : Int} {l2 : Nat} {l3 : Int} {s0 : Int} {G : gS} {Q : Int → gS → Prop} (hl1 : inL l1) (hl2 : l2 % 8 ≠ 1) (hl3 : inI l3) (hs0 : inI s0) (hj0 : ∀ (o : Int) (l1 : Int) (l2 : Nat) (l3 : Int) (G : gS), (inL l1) → (l2 % 8 ≠ 1) → (inI l3) → J 0 [o, l1, l3] G Q → Tg W0 (j 0) [rf (o), cL (l1), l2, cI (l3)] [] G (fun r G => ∃ v, r = cI v ∧ inI v ∧ Q v G)) (h : PX11_find_58 J o l1 l3 s0 G Q) : Tg W0 (vX11_find_58 j) [rf (o), cL (l1), l2, cI (l3)] [cI (s0)] G (fun r G => ∃ v, r = cI v ∧ inI v ∧ Q v G) := by
  unfold PX11_find_58 at h
  unfold vX11_find_58
  exact g_ret1 (is_I _) ⟨_, rfl, hs0, h⟩
def PX11_find_2 (J : Nat → List Int → gS → (Int → gS → Prop) → Prop) (o : Int) (l1 : Int) (l3 : Int) (G : gS) (Q : Int → gS → Prop) : Prop :=
  (isO W0 11 (o) ∧ (inI (G o 2) → ((l3 < G o 2 → ((0 : Int) ≤ l3 ∧ ((l3 : Int) < 64 ∧ (((G (o + 1) l3 = -1 ∨ isO W0 10 (G (o + 1) l3)) ∧ ∀ v, W0.2 (o + 1) l3 = some v → G (o + 1) l3 = v) → (isO W0 10 (G (o + 1) l3) ∧ (inL (G (G (o + 1) l3) 1) → ((G (G (o + 1) l3) 1 = l1 → Q (l3) G) ∧ (¬ (G (G (o + 1) l3) 1 = l1) → (inI (l3 + 1) ∧ J 0 [o, l1, l3 + 1] G Q))))))))) ∧ (¬ (l3 < G o 2) → ((l1 = -4031174665287237632 → PX11_find_58 J o l1 l3 0 G Q) ∧ (¬ (l1 = -4031174665287237632) → ((l1 = -3887679601769447424 → PX11_find_58 J o l1 l3 1 G Q) ∧ (¬ (l1 = -3887679601769447424) → PX11_find_58 J o l1 l3 (-2) G Q))))))))
set_option maxRecDepth 20000 in
theorem TX11_find_2 {j : Nat → rx_K} {J : Nat → List Int → gS → (Int → gS → Prop) → Prop} {o : Int} {l1 : Int} {l2 : Nat} {l3 : Int} {G : gS} {Q : Int → gS → Prop} (hl1 : inL l1) (hl2 : l2 % 8 ≠ 1) (hl3 : inI l3) (hj0 : ∀ (o : Int) (l1 : Int) (l2 : Nat) (l3 : Int) (G : gS), (inL l1) → (l2 % 8 ≠ 1) → (inI l3) → J 0 [o, l1, l3] G Q → Tg W0 (j 0) [rf (o), cL (l1), l2, cI (l3)] [] G (fun r G => ∃ v, r = cI v ∧ inI v ∧ Q v G)) (h : PX11_find_2 J o l1 l3 G Q) : Tg W0 (vX11_find_2 j) [rf (o), cL (l1), l2, cI (l3)] [] G (fun r G => ∃ v, r = cI v ∧ inI v ∧ Q v G) := by
  unfold PX11_find_2 at h
  unfold vX11_find_2
  refine g_ld (v := cI _) rfl (is_I _) ?_
  refine g_ld (v := rf _) rfl (is_R _) ?_
  obtain ⟨q1, h⟩ := h
  refine g_getI (kz := 2) q1 rfl (Nat.le_of_ble_eq_true rfl) rfl fun i2 => ?_
  replace h := h i2
  refine g_lt2 hl3 i2 (fun b3 => ?_) (fun b3 => ?_)
  · replace h := h.1 b3
    unfold vX11_find_10
    refine g_ld (v := rf _) rfl (is_R _) ?_
    refine g_getF q1 (ff11_1 q1).1 rfl (Nat.le_of_ble_eq_true rfl) (Nat.le_of_ble_eq_true rfl) ?_
    refine g_ld (v := cI _) rfl (is_I _) ?_
    obtain ⟨q4, q5, h⟩ := h
    refine g_aldRF (c := 10) (ff11_1 q1).2 q4 q5 rfl (by decide) fun i6 => ?_
    replace h := h i6
    obtain ⟨q7, h⟩ := h
    refine g_getL (kz := 1) q7 rfl (Nat.le_of_ble_eq_true rfl) rfl fun i8 => ?_
    replace h := h i8
    refine g_ld (v := cL _) rfl (is_L _) ?_
    refine g_leq i8 hl1 (fun b9 => ?_) (fun b9 => ?_)
    · replace h := h.1 b9
      unfold vX11_find_24
      refine g_ld (v := cI _) rfl (is_I _) ?_
      exact g_ret1 (is_I _) ⟨_, rfl, hl3, h⟩
    · replace h := h.2 b9
      unfold vX11_find_26
      refine g_inc (lv' := [_, _, _, _]) rfl (Nat.le_of_ble_eq_true rfl) (Or.inr hl2) rfl ?_
      obtain ⟨q10, h⟩ := h
      exact hj0 _ _ _ _ _ hl1 hl2 q10 h
  · replace h := h.2 b3
    unfold vX11_find_32
    refine g_ld (v := cL _) rfl (is_L _) ?_
    refine g_const (v := cL (-4031174665287237632)) rfl ?_
    refine g_leq hl1 ⟨by omega, by omega⟩ (fun b11 => ?_) (fun b11 => ?_)
    · replace h := h.1 b11
      unfold vX11_find_40
      refine g_const (v := cI (0)) rfl ?_
      exact TX11_find_58 hl1 hl2 hl3 ⟨by omega, by omega⟩ hj0 h
    · replace h := h.2 b11
      unfold vX11_find_44
      refine g_ld (v := cL _) rfl (is_L _) ?_
      refine g_const (v := cL (-3887679601769447424)) rfl ?_
      refine g_leq hl1 ⟨by omega, by omega⟩ (fun b12 => ?_) (fun b12 => ?_)
      · replace h := h.1 b12
        unfold vX11_find_52
        refine g_const (v := cI (1)) rfl ?_
        exact TX11_find_58 hl1 hl2 hl3 ⟨by omega, by omega⟩ hj0 h
      · replace h := h.2 b12
        unfold vX11_find_56
        refine g_const (v := cI (-2)) rfl ?_
        exact TX11_find_58 hl1 hl2 hl3 ⟨by omega, by omega⟩ hj0 h
def PX11_find_0 (J : Nat → List Int → gS → (Int → gS → Prop) → Prop) (o : Int) (a1 : Int) (G : gS) (Q : Int → gS → Prop) : Prop :=
  PX11_find_2 J o a1 2 G Q
set_option maxRecDepth 20000 in
theorem TX11_find_0 {j : Nat → rx_K} {J : Nat → List Int → gS → (Int → gS → Prop) → Prop} {o : Int} {a1 : Int} {G : gS} {Q : Int → gS → Prop} (ha1 : inL a1) (hj0 : ∀ (o : Int) (l1 : Int) (l2 : Nat) (l3 : Int) (G : gS), (inL l1) → (l2 % 8 ≠ 1) → (inI l3) → J 0 [o, l1, l3] G Q → Tg W0 (j 0) [rf (o), cL (l1), l2, cI (l3)] [] G (fun r G => ∃ v, r = cI v ∧ inI v ∧ Q v G)) (h : PX11_find_0 J o a1 G Q) : Tg W0 (vX11_find_0 j) [rf (o), cL (a1), 7, 7] [] G (fun r G => ∃ v, r = cI v ∧ inI v ∧ Q v G) := by
  unfold PX11_find_0 at h
  unfold vX11_find_0
  refine g_const (v := cI (2)) rfl ?_
  refine g_st (lv' := [_, _, _, _]) (is_I _) (Nat.le_of_ble_eq_true rfl) (Or.inr (show 7 % 8 ≠ 1 by decide)) rfl ?_
  exact TX11_find_2 ha1 (show 7 % 8 ≠ 1 by decide) ⟨by omega, by omega⟩ hj0 h
def PX11_find_J : Nat → Nat → List Int → gS → (Int → gS → Prop) → Prop
  | 0, _, _, _, _ => False
  | f + 1, h, L, G, Q => match h, L with
    | 0, [o, l1, l3] => PX11_find_2 (PX11_find_J f) o l1 l3 G Q
    | _, _ => False
theorem TX11_find_J {Q : Int → gS → Prop} : ∀ f N : Nat, f ≤ N → (∀ (o : Int) (l1 : Int) (l2 : Nat) (l3 : Int) (G : gS), (inL l1) → (l2 % 8 ≠ 1) → (inI l3) → (PX11_find_J f) 0 [o, l1, l3] G Q → Tg W0 (rx_J vhX11_find N 0) [rf (o), cL (l1), l2, cI (l3)] [] G (fun r G => ∃ v, r = cI v ∧ inI v ∧ Q v G)) := by
  intro f
  induction f with
  | zero => exact fun N _ => fun _ _ _ _ _ _ _ _ h => h.elim
  | succ f ih =>
    intro N hN
    obtain ⟨M, rfl⟩ : ∃ M, N = M + 1 := ⟨N - 1, by omega⟩
    have ih := ih M (by omega)
    exact fun _ _ _ _ _ hl1 hl2 hl3 h => show Tg W0 (vX11_find_2 (rx_J vhX11_find M)) _ _ _ _ from TX11_find_2 hl1 hl2 hl3 ih h
def PX11_find (o : Int) (a1 : Int) (G : gS) (Q : Int → gS → Prop) : Prop := ∃ f : Nat, f ≤ 4000000000 ∧ PX11_find_0 (PX11_find_J f) o a1 G Q
theorem TX11_find {o : Int} {a1 : Int} {G : gS} {Q : Int → gS → Prop} (ha1 : inL a1) (h : PX11_find o a1 G Q) : Tn W0 FX11_find [rf (o), cL (a1)] G (fun r G => ∃ v, r = cI v ∧ inI v ∧ Q v G) := by
  obtain ⟨f, hf, h⟩ := h
  have hJ := TX11_find_J (Q := Q) f 4000000000 hf
  unfold FX11_find
  refine g_ent (lv' := [rf (o), cL (a1), 7, 7]) (flR (flL fl0)) (Nat.le_of_ble_eq_true rfl) rfl ?_
  exact TX11_find_0 ha1 hJ h
def PX11_isLet_45 (o : Int) (l1 : Int) (l2 : Int) (s0 : Int) (G : gS) (Q : Int → gS → Prop) : Prop :=
  ((0 ≤ s0 ∧ s0 ≤ 1) ∧ Q (s0) G)
set_option maxRecDepth 20000 in
theorem TX11_isLet_45 {o : Int} {l1 : Int} {l2 : Int} {s0 : Int} {G : gS} {Q : Int → gS → Prop} (hl1 : inI l1) (hl2 : inI l2) (hs0 : inI s0) (h : PX11_isLet_45 o l1 l2 s0 G Q) : Tg W0 vX11_isLet_45 [rf (o), cI (l1), cI (l2)] [cI (s0)] G (fun r G => ∃ v, r = cI v ∧ (0 ≤ v ∧ v ≤ 1) ∧ Q v G) := by
  unfold PX11_isLet_45 at h
  unfold vX11_isLet_45
  obtain ⟨q21, h⟩ := h
  exact g_ret1 (is_Z q21) ⟨_, rfl, q21, h⟩
def PX11_isLet_40 (o : Int) (l1 : Int) (l2 : Int) (G : gS) (Q : Int → gS → Prop) : Prop :=
  PX11_isLet_45 o l1 l2 1 G Q
set_option maxRecDepth 20000 in
theorem TX11_isLet_40 {o : Int} {l1 : Int} {l2 : Int} {G : gS} {Q : Int → gS → Prop} (hl1 : inI l1) (hl2 : inI l2) (h : PX11_isLet_40 o l1 l2 G Q) : Tg W0 vX11_isLet_40 [rf (o), cI (l1), cI (l2)] [] G (fun r G => ∃ v, r = cI v ∧ (0 ≤ v ∧ v ≤ 1) ∧ Q v G) := by
  unfold PX11_isLet_40 at h
  unfold vX11_isLet_40
  refine g_const (v := cI (1)) rfl ?_
  exact TX11_isLet_45 hl1 hl2 ⟨by omega, by omega⟩ h
def PX11_isLet_0 (o : Int) (a1 : Int) (a2 : Int) (G : gS) (Q : Int → gS → Prop) : Prop :=
  (isO W0 11 (o) ∧ ((0 : Int) ≤ a1 ∧ ((a1 : Int) < 64 ∧ (((G (o + 1) a1 = -1 ∨ isO W0 10 (G (o + 1) a1)) ∧ ∀ v, W0.2 (o + 1) a1 = some v → G (o + 1) a1 = v) → (isO W0 10 (G (o + 1) a1) ∧ ((0 ≤ G (G (o + 1) a1) 3 ∧ G (G (o + 1) a1) 3 ≤ 1) → ((G (G (o + 1) a1) 3 = 0 → ((0 : Int) ≤ a1 ∧ ((a1 : Int) < 64 ∧ (((G (o + 1) a1 = -1 ∨ isO W0 10 (G (o + 1) a1)) ∧ ∀ v, W0.2 (o + 1) a1 = some v → G (o + 1) a1 = v) → (isO W0 10 (G (o + 1) a1) ∧ (inL (G (G (o + 1) a1) 1) → (inL (lush (G (G (o + 1) a1) 1) 59) → ((0 : Int) ≤ a2 ∧ ((a2 : Int) < 64 ∧ (((G (o + 1) a2 = -1 ∨ isO W0 10 (G (o + 1) a2)) ∧ ∀ v, W0.2 (o + 1) a2 = some v → G (o + 1) a2 = v) → (isO W0 10 (G (o + 1) a2) ∧ (inL (G (G (o + 1) a2) 1) → (inL (lush (G (G (o + 1) a2) 1) 59) → ((lush (G (G (o + 1) a1) 1) 59 = lush (G (G (o + 1) a2) 1) 59 → PX11_isLet_40 o a1 a2 G Q) ∧ (¬ (lush (G (G (o + 1) a1) 1) 59 = lush (G (G (o + 1) a2) 1) 59) → PX11_isLet_45 o a1 a2 0 G Q))))))))))))))) ∧ (¬ (G (G (o + 1) a1) 3 = 0) → PX11_isLet_40 o a1 a2 G Q))))))))
set_option maxRecDepth 20000 in
theorem TX11_isLet_0 {o : Int} {a1 : Int} {a2 : Int} {G : gS} {Q : Int → gS → Prop} (ha1 : inI a1) (ha2 : inI a2) (h : PX11_isLet_0 o a1 a2 G Q) : Tg W0 vX11_isLet_0 [rf (o), cI (a1), cI (a2)] [] G (fun r G => ∃ v, r = cI v ∧ (0 ≤ v ∧ v ≤ 1) ∧ Q v G) := by
  unfold PX11_isLet_0 at h
  unfold vX11_isLet_0
  refine g_ld (v := rf _) rfl (is_R _) ?_
  obtain ⟨q1, h⟩ := h
  refine g_getF q1 (ff11_1 q1).1 rfl (Nat.le_of_ble_eq_true rfl) (Nat.le_of_ble_eq_true rfl) ?_
  refine g_ld (v := cI _) rfl (is_I _) ?_
  obtain ⟨q2, q3, h⟩ := h
  refine g_aldRF (c := 10) (ff11_1 q1).2 q2 q3 rfl (by decide) fun i4 => ?_
  replace h := h i4
  obtain ⟨q5, h⟩ := h
  refine g_getZ (kz := 3) q5 rfl (Nat.le_of_ble_eq_true rfl) rfl fun i6 => ?_
  replace h := h i6
  refine g_eq1 ⟨by omega, by omega⟩ (fun b7 => ?_) (fun b7 => ?_)
  · replace h := h.1 b7
    unfold vX11_isLet_12
    refine g_ld (v := rf _) rfl (is_R _) ?_
    refine g_getF q1 (ff11_1 q1).1 rfl (Nat.le_of_ble_eq_true rfl) (Nat.le_of_ble_eq_true rfl) ?_
    refine g_ld (v := cI _) rfl (is_I _) ?_
    obtain ⟨q8, q9, h⟩ := h
    refine g_aldRF (c := 10) (ff11_1 q1).2 q8 q9 rfl (by decide) fun i10 => ?_
    replace h := h i10
    obtain ⟨q11, h⟩ := h
    refine g_getL (kz := 1) q11 rfl (Nat.le_of_ble_eq_true rfl) rfl fun i12 => ?_
    replace h := h i12
    refine g_const (v := cI (59)) rfl ?_
    refine g_lush fun i13 => ?_
    replace h := h i13
    refine g_ld (v := rf _) rfl (is_R _) ?_
    refine g_getF q1 (ff11_1 q1).1 rfl (Nat.le_of_ble_eq_true rfl) (Nat.le_of_ble_eq_true rfl) ?_
    refine g_ld (v := cI _) rfl (is_I _) ?_
    obtain ⟨q14, q15, h⟩ := h
    refine g_aldRF (c := 10) (ff11_1 q1).2 q14 q15 rfl (by decide) fun i16 => ?_
    replace h := h i16
    obtain ⟨q17, h⟩ := h
    refine g_getL (kz := 1) q17 rfl (Nat.le_of_ble_eq_true rfl) rfl fun i18 => ?_
    replace h := h i18
    refine g_const (v := cI (59)) rfl ?_
    refine g_lush fun i19 => ?_
    replace h := h i19
    refine g_leq i13 i19 (fun b20 => ?_) (fun b20 => ?_)
    · replace h := h.1 b20
      exact TX11_isLet_40 ha1 ha2 h
    · replace h := h.2 b20
      unfold vX11_isLet_44
      refine g_const (v := cI (0)) rfl ?_
      exact TX11_isLet_45 ha1 ha2 ⟨by omega, by omega⟩ h
  · replace h := h.2 b7
    exact TX11_isLet_40 ha1 ha2 h
abbrev PX11_isLet (o : Int) (a1 : Int) (a2 : Int) (G : gS) (Q : Int → gS → Prop) : Prop := PX11_isLet_0 o a1 a2 G Q
theorem TX11_isLet {o : Int} {a1 : Int} {a2 : Int} {G : gS} {Q : Int → gS → Prop} (ha1 : inI a1) (ha2 : inI a2) (h : PX11_isLet o a1 a2 G Q) : Tn W0 FX11_isLet [rf (o), cI (a1), cI (a2)] G (fun r G => ∃ v, r = cI v ∧ (0 ≤ v ∧ v ≤ 1) ∧ Q v G) := by
  unfold FX11_isLet
  refine g_ent (lv' := [rf (o), cI (a1), cI (a2)]) (flR (flI (flI fl0))) (Nat.le_of_ble_eq_true rfl) rfl ?_
  exact TX11_isLet_0 ha1 ha2 h
def PX0_named_31 (l1 : Int) (l3 : Int) (l4 : Int) (G : gS) (Q : Int → gS → Prop) : Prop :=
  PX0_fail 7 l3 G (fun r15 G14 => (0 ≤ r15 ∧ r15 ≤ 1) → Q (-2) G14)
set_option maxRecDepth 20000 in
theorem TX0_named_31 {l1 : Int} {l2 : Nat} {l3 : Int} {l4 : Int} {G : gS} {Q : Int → gS → Prop} (hl1 : inL l1) (hl2 : l2 % 8 ≠ 1) (hl3 : inI l3) (hl4 : inI l4) (h : PX0_named_31 l1 l3 l4 G Q) : Tg W0 vX0_named_31 [rf (815), cL (l1), l2, cI (l3), cI (l4)] [] G (fun r G => ∃ v, r = cI v ∧ inI v ∧ Q v G) := by
  unfold PX0_named_31 at h
  unfold vX0_named_31
  refine g_ld (v := rf _) rfl (is_R _) ?_
  refine g_const (v := cI (7)) rfl ?_
  refine g_ld (v := cI _) rfl (is_I _) ?_
  refine g_callV (As := [_, _]) (ci := 0) oC0 (fun _ => rfl) ?_
  refine g_go1 (Nat.le_of_ble_eq_true rfl) (Tn_w (TX0_fail ⟨by omega, by omega⟩ hl3 h) fun _ G14 ⟨r15, e, i16, h⟩ => ?_)
  subst e
  refine ⟨n7_I _, ?_⟩
  replace h := h i16
  refine g_pop (ct_I _) ?_
  refine g_const (v := cI (-2)) rfl ?_
  exact g_ret1 (is_I _) ⟨_, rfl, ⟨by omega, by omega⟩, h⟩
def PX0_named_0 (a1 : Int) (a3 : Int) (G : gS) (Q : Int → gS → Prop) : Prop :=
  ((G 815 0 = -1 ∨ isO W0 11 (G 815 0)) → (isO W0 11 (G 815 0) ∧ PX11_find (G 815 0) a1 G (fun r4 G3 => inI r4 → ((r4 < 0 → PX0_named_31 a1 a3 r4 G3 Q) ∧ (¬ (r4 < 0) → ((G3 815 0 = -1 ∨ isO W0 11 (G3 815 0)) → (inI (G3 815 6) → (isO W0 11 (G3 815 0) ∧ PX11_isLet (G3 815 0) r4 (G3 815 6) G3 (fun r11 G10 => (0 ≤ r11 ∧ r11 ≤ 1) → ((r11 = 0 → PX0_named_31 a1 a3 r4 G10 Q) ∧ (¬ (r11 = 0) → Q (r4) G10)))))))))))
set_option maxRecDepth 20000 in
theorem TX0_named_0 {a1 : Int} {a3 : Int} {G : gS} {Q : Int → gS → Prop} (ha1 : inL a1) (ha3 : inI a3) (h : PX0_named_0 a1 a3 G Q) : Tg W0 vX0_named_0 [rf (815), cL (a1), 7, cI (a3), 7] [] G (fun r G => ∃ v, r = cI v ∧ inI v ∧ Q v G) := by
  unfold PX0_named_0 at h
  unfold vX0_named_0
  refine g_ld (v := rf _) rfl (is_R _) ?_
  refine g_getR (kz := 0) (c := 11) oC0 rfl (Nat.le_of_ble_eq_true rfl) rfl (by decide) fun i1 => ?_
  replace h := h i1
  refine g_ld (v := cL _) rfl (is_L _) ?_
  obtain ⟨q2, h⟩ := h
  refine g_callV (As := [_]) (ci := 11) q2 (fun _ => rfl) ?_
  refine g_go1 (Nat.le_of_ble_eq_true rfl) (Tn_w (TX11_find ha1 h) fun _ G3 ⟨r4, e, i5, h⟩ => ?_)
  subst e
  refine ⟨n7_I _, ?_⟩
  replace h := h i5
  refine g_st (lv' := [_, _, _, _, _]) (is_I _) (Nat.le_of_ble_eq_true rfl) (Or.inr (n1_I _)) rfl ?_
  refine g_ld (v := cI _) rfl (is_I _) ?_
  refine g_lt1 i5 (fun b6 => ?_) (fun b6 => ?_)
  · replace h := h.1 b6
    exact TX0_named_31 ha1 (show 7 % 8 ≠ 1 by decide) ha3 i5 h
  · replace h := h.2 b6
    unfold vX0_named_15
    refine g_ld (v := rf _) rfl (is_R _) ?_
    refine g_getR (kz := 0) (c := 11) oC0 rfl (Nat.le_of_ble_eq_true rfl) rfl (by decide) fun i7 => ?_
    replace h := h i7
    refine g_ld (v := cI _) rfl (is_I _) ?_
    refine g_ld (v := rf _) rfl (is_R _) ?_
    refine g_getI (kz := 6) oC0 rfl (Nat.le_of_ble_eq_true rfl) rfl fun i8 => ?_
    replace h := h i8
    obtain ⟨q9, h⟩ := h
    refine g_callV (As := [_, _]) (ci := 11) q9 (fun _ => rfl) ?_
    refine g_go1 (Nat.le_of_ble_eq_true rfl) (Tn_w (TX11_isLet i5 i8 h) fun _ G10 ⟨r11, e, i12, h⟩ => ?_)
    subst e
    refine ⟨n7_I _, ?_⟩
    replace h := h i12
    refine g_eq1 ⟨by omega, by omega⟩ (fun b13 => ?_) (fun b13 => ?_)
    · replace h := h.1 b13
      exact TX0_named_31 ha1 (show 7 % 8 ≠ 1 by decide) ha3 i5 h
    · replace h := h.2 b13
      unfold vX0_named_42
      refine g_ld (v := cI _) rfl (is_I _) ?_
      exact g_ret1 (is_I _) ⟨_, rfl, i5, h⟩
abbrev PX0_named (a1 : Int) (a3 : Int) (G : gS) (Q : Int → gS → Prop) : Prop := PX0_named_0 a1 a3 G Q
theorem TX0_named {a1 : Int} {a3 : Int} {G : gS} {Q : Int → gS → Prop} (ha1 : inL a1) (ha3 : inI a3) (h : PX0_named a1 a3 G Q) : Tn W0 FX0_named [rf (815), cL (a1), cI (a3)] G (fun r G => ∃ v, r = cI v ∧ inI v ∧ Q v G) := by
  unfold FX0_named
  refine g_ent (lv' := [rf (815), cL (a1), 7, cI (a3), 7]) (flR (flL (flI fl0))) (Nat.le_of_ble_eq_true rfl) rfl ?_
  exact TX0_named_0 ha1 ha3 h
def PX0_statics_55 (l1 : Int) (l2 : Int) (l3 : Int) (l4 : Int) (s0 : Int) (G : gS) (Q : Int → gS → Prop) : Prop :=
  ((0 ≤ s0 ∧ s0 ≤ 1) ∧ Q (s0) G)
set_option maxRecDepth 20000 in
theorem TX0_statics_55 {l1 : Int} {l2 : Int} {l3 : Int} {l4 : Int} {s0 : Int} {G : gS} {Q : Int → gS → Prop} (hl2 : inI l2) (hl3 : inI l3) (hs0 : inI s0) (h : PX0_statics_55 l1 l2 l3 l4 s0 G Q) : Tg W0 vX0_statics_55 [rf (815), rf (l1), cI (l2), cI (l3), rf (l4)] [cI (s0)] G (fun r G => ∃ v, r = cI v ∧ (0 ≤ v ∧ v ≤ 1) ∧ Q v G) := by
  unfold PX0_statics_55 at h
  unfold vX0_statics_55
  obtain ⟨q18, h⟩ := h
  exact g_ret1 (is_Z q18) ⟨_, rfl, q18, h⟩
def PX0_statics_50 (l1 : Int) (l2 : Int) (l3 : Int) (l4 : Int) (G : gS) (Q : Int → gS → Prop) : Prop :=
  PX0_statics_55 l1 l2 l3 l4 1 G Q
set_option maxRecDepth 20000 in
theorem TX0_statics_50 {l1 : Int} {l2 : Int} {l3 : Int} {l4 : Int} {G : gS} {Q : Int → gS → Prop} (hl2 : inI l2) (hl3 : inI l3) (h : PX0_statics_50 l1 l2 l3 l4 G Q) : Tg W0 vX0_statics_50 [rf (815), rf (l1), cI (l2), cI (l3), rf (l4)] [] G (fun r G => ∃ v, r = cI v ∧ (0 ≤ v ∧ v ≤ 1) ∧ Q v G) := by
  unfold PX0_statics_50 at h
  unfold vX0_statics_50
  refine g_const (v := cI (1)) rfl ?_
  exact TX0_statics_55 hl2 hl3 ⟨by omega, by omega⟩ h
def PX0_statics_37 (l1 : Int) (l2 : Int) (l3 : Int) (l4 : Int) (G : gS) (Q : Int → gS → Prop) : Prop :=
  (isO W0 8 (l1) ∧ (inI (G l1 2) → PX0_fail 14 (G l1 2) G (fun r15 G14 => (0 ≤ r15 ∧ r15 ≤ 1) → ((r15 = 0 → PX0_statics_55 l1 l2 l3 l4 0 G14 Q) ∧ (¬ (r15 = 0) → PX0_statics_50 l1 l2 l3 l4 G14 Q)))))
set_option maxRecDepth 20000 in
theorem TX0_statics_37 {l1 : Int} {l2 : Int} {l3 : Int} {l4 : Int} {G : gS} {Q : Int → gS → Prop} (hl2 : inI l2) (hl3 : inI l3) (h : PX0_statics_37 l1 l2 l3 l4 G Q) : Tg W0 vX0_statics_37 [rf (815), rf (l1), cI (l2), cI (l3), rf (l4)] [] G (fun r G => ∃ v, r = cI v ∧ (0 ≤ v ∧ v ≤ 1) ∧ Q v G) := by
  unfold PX0_statics_37 at h
  unfold vX0_statics_37
  refine g_ld (v := rf _) rfl (is_R _) ?_
  refine g_const (v := cI (14)) rfl ?_
  refine g_ld (v := rf _) rfl (is_R _) ?_
  obtain ⟨q12, h⟩ := h
  refine g_getI (kz := 2) q12 rfl (Nat.le_of_ble_eq_true rfl) rfl fun i13 => ?_
  replace h := h i13
  refine g_callV (As := [_, _]) (ci := 0) oC0 (fun _ => rfl) ?_
  refine g_go1 (Nat.le_of_ble_eq_true rfl) (Tn_w (TX0_fail ⟨by omega, by omega⟩ i13 h) fun _ G14 ⟨r15, e, i16, h⟩ => ?_)
  subst e
  refine ⟨n7_I _, ?_⟩
  replace h := h i16
  refine g_eq1 ⟨by omega, by omega⟩ (fun b17 => ?_) (fun b17 => ?_)
  · replace h := h.1 b17
    unfold vX0_statics_54
    refine g_const (v := cI (0)) rfl ?_
    exact TX0_statics_55 hl2 hl3 ⟨by omega, by omega⟩ h
  · replace h := h.2 b17
    exact TX0_statics_50 hl2 hl3 h
def PX0_statics_25 (l1 : Int) (l2 : Int) (l3 : Int) (l4 : Int) (G : gS) (Q : Int → gS → Prop) : Prop :=
  ((l3 = 0 → PX0_statics_50 l1 l2 l3 l4 G Q) ∧ (¬ (l3 = 0) → (isO W0 7 (l4) ∧ ((0 ≤ G l4 2 ∧ G l4 2 ≤ 1) → ((G l4 2 = 0 → PX0_statics_50 l1 l2 l3 l4 G Q) ∧ (¬ (G l4 2 = 0) → PX0_statics_37 l1 l2 l3 l4 G Q))))))
set_option maxRecDepth 20000 in
theorem TX0_statics_25 {l1 : Int} {l2 : Int} {l3 : Int} {l4 : Int} {G : gS} {Q : Int → gS → Prop} (hl2 : inI l2) (hl3 : inI l3) (h : PX0_statics_25 l1 l2 l3 l4 G Q) : Tg W0 vX0_statics_25 [rf (815), rf (l1), cI (l2), cI (l3), rf (l4)] [] G (fun r G => ∃ v, r = cI v ∧ (0 ≤ v ∧ v ≤ 1) ∧ Q v G) := by
  unfold PX0_statics_25 at h
  unfold vX0_statics_25
  refine g_ld (v := cI _) rfl (is_I _) ?_
  refine g_eq1 hl3 (fun b8 => ?_) (fun b8 => ?_)
  · replace h := h.1 b8
    exact TX0_statics_50 hl2 hl3 h
  · replace h := h.2 b8
    unfold vX0_statics_29
    refine g_ld (v := rf _) rfl (is_R _) ?_
    obtain ⟨q9, h⟩ := h
    refine g_getZ (kz := 2) q9 rfl (Nat.le_of_ble_eq_true rfl) rfl fun i10 => ?_
    replace h := h i10
    refine g_eq1 ⟨by omega, by omega⟩ (fun b11 => ?_) (fun b11 => ?_)
    · replace h := h.1 b11
      exact TX0_statics_50 hl2 hl3 h
    · replace h := h.2 b11
      exact TX0_statics_37 hl2 hl3 h
def PX0_statics_0 (a1 : Int) (a2 : Int) (a3 : Int) (G : gS) (Q : Int → gS → Prop) : Prop :=
  (isO W0 8 (a1) ∧ ((G a1 11 = -1 ∨ isO W0 7 (G a1 11)) → ((G a1 11 < 0 → Q (0) G) ∧ (0 ≤ G a1 11 → ((a2 = 0 → PX0_statics_25 a1 a2 a3 (G a1 11) G Q) ∧ (¬ (a2 = 0) → (isO W0 7 (G a1 11) ∧ ((0 ≤ G (G a1 11) 2 ∧ G (G a1 11) 2 ≤ 1) → ((G (G a1 11) 2 = 0 → PX0_statics_37 a1 a2 a3 (G a1 11) G Q) ∧ (¬ (G (G a1 11) 2 = 0) → PX0_statics_25 a1 a2 a3 (G a1 11) G Q))))))))))
set_option maxRecDepth 20000 in
theorem TX0_statics_0 {a1 : Int} {a2 : Int} {a3 : Int} {G : gS} {Q : Int → gS → Prop} (ha2 : inI a2) (ha3 : inI a3) (h : PX0_statics_0 a1 a2 a3 G Q) : Tg W0 vX0_statics_0 [rf (815), rf (a1), cI (a2), cI (a3), 7] [] G (fun r G => ∃ v, r = cI v ∧ (0 ≤ v ∧ v ≤ 1) ∧ Q v G) := by
  unfold PX0_statics_0 at h
  unfold vX0_statics_0
  refine g_ld (v := rf _) rfl (is_R _) ?_
  obtain ⟨q1, h⟩ := h
  refine g_getR (kz := 11) (c := 7) q1 rfl (Nat.le_of_ble_eq_true rfl) rfl (by decide) fun i2 => ?_
  replace h := h i2
  refine g_st (lv' := [_, _, _, _, _]) (is_R _) (Nat.le_of_ble_eq_true rfl) (Or.inr (n1_I _)) rfl ?_
  refine g_ld (v := rf _) rfl (is_R _) ?_
  refine g_nul (fun b3 => ?_) (fun b3 => ?_)
  · replace h := h.1 b3
    unfold vX0_statics_11
    refine g_const (v := cI (0)) rfl ?_
    exact g_ret1 (is_Z (by omega)) ⟨_, rfl, (by omega), h⟩
  · replace h := h.2 b3
    unfold vX0_statics_13
    refine g_ld (v := cI _) rfl (is_I _) ?_
    refine g_eq1 ha2 (fun b4 => ?_) (fun b4 => ?_)
    · replace h := h.1 b4
      exact TX0_statics_25 ha2 ha3 h
    · replace h := h.2 b4
      unfold vX0_statics_17
      refine g_ld (v := rf _) rfl (is_R _) ?_
      obtain ⟨q5, h⟩ := h
      refine g_getZ (kz := 2) q5 rfl (Nat.le_of_ble_eq_true rfl) rfl fun i6 => ?_
      replace h := h i6
      refine g_eq1 ⟨by omega, by omega⟩ (fun b7 => ?_) (fun b7 => ?_)
      · replace h := h.1 b7
        exact TX0_statics_37 ha2 ha3 h
      · replace h := h.2 b7
        exact TX0_statics_25 ha2 ha3 h
abbrev PX0_statics (a1 : Int) (a2 : Int) (a3 : Int) (G : gS) (Q : Int → gS → Prop) : Prop := PX0_statics_0 a1 a2 a3 G Q
theorem TX0_statics {a1 : Int} {a2 : Int} {a3 : Int} {G : gS} {Q : Int → gS → Prop} (ha2 : inI a2) (ha3 : inI a3) (h : PX0_statics a1 a2 a3 G Q) : Tn W0 FX0_statics [rf (815), rf (a1), cI (a2), cI (a3)] G (fun r G => ∃ v, r = cI v ∧ (0 ≤ v ∧ v ≤ 1) ∧ Q v G) := by
  unfold FX0_statics
  refine g_ent (lv' := [rf (815), rf (a1), cI (a2), cI (a3), 7]) (flR (flR (flI (flI fl0)))) (Nat.le_of_ble_eq_true rfl) rfl ?_
  exact TX0_statics_0 ha2 ha3 h
end DE

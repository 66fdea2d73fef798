section DE
def PX13_compareHeads_516 (J : Nat → List Int → gS → (Int → gS → Prop) → Prop) (l1 : Int) (l2 : Int) (l3 : Int) (l5 : Int) (l7 : Int) (l8 : Int) (l9 : Int) (G : gS) (Q : Int → gS → Prop) : Prop :=
  Q 0 G
set_option maxRecDepth 20000 in
theorem TX13_compareHeads_516 {j : Nat → rx_K} {J : Nat → List Int → gS → (Int → gS → Prop) → Prop} {l1 : Int} {l2 : Int} {l3 : Int} {l4 : Nat} {l5 : Int} {l6 : Nat} {l7 : Int} {l8 : Int} {l9 : Int} {G : gS} {Q : Int → gS → Prop} (hl1 : inI l1) (hl2 : inI l2) (hl3 : inL l3) (hl4 : l4 % 8 ≠ 1) (hl5 : inL l5) (hl6 : l6 % 8 ≠ 1) (hl7 : inI l7) (hl8 : inI l8) (hl9 : inI l9) (hj0 : ∀ (l1 : Int) (l2 : Int) (l3 : Int) (l4 : Nat) (l5 : Int) (l6 : Nat) (l7 : Int) (l8 : Nat) (l9 : Nat) (G : gS), (inI l1) → (inI l2) → (inL l3) → (l4 % 8 ≠ 1) → (inL l5) → (l6 % 8 ≠ 1) → (inI l7) → (l8 % 8 ≠ 1) → (l9 % 8 ≠ 1) → J 0 [l1, l2, l3, l5, l7] G Q → Tg W0 (j 0) [rf (16081), cI (l1), cI (l2), cL (l3), l4, cL (l5), l6, cI (l7), l8, l9] [] G (fun r G => r = 7 ∧ Q 0 G)) (hj1 : ∀ (l1 : Int) (l2 : Int) (l3 : Int) (l4 : Nat) (l5 : Int) (l6 : Nat) (l7 : Int) (l8 : Nat) (l9 : Nat) (G : gS), (inI l1) → (inI l2) → (inL l3) → (l4 % 8 ≠ 1) → (inL l5) → (l6 % 8 ≠ 1) → (inI l7) → (l8 % 8 ≠ 1) → (l9 % 8 ≠ 1) → J 1 [l1, l2, l3, l5, l7] G Q → Tg W0 (j 1) [rf (16081), cI (l1), cI (l2), cL (l3), l4, cL (l5), l6, cI (l7), l8, l9] [] G (fun r G => r = 7 ∧ Q 0 G)) (hj2 : ∀ (l1 : Int) (l2 : Int) (l3 : Int) (l4 : Nat) (l5 : Int) (l6 : Nat) (l7 : Int) (l8 : Int) (l9 : Int) (G : gS), (inI l1) → (inI l2) → (inL l3) → (l4 % 8 ≠ 1) → (inL l5) → (l6 % 8 ≠ 1) → (inI l7) → (inI l8) → (inI l9) → J 2 [l1, l2, l3, l5, l7, l8, l9] G Q → Tg W0 (j 2) [rf (16081), cI (l1), cI (l2), cL (l3), l4, cL (l5), l6, cI (l7), cI (l8), cI (l9)] [] G (fun r G => r = 7 ∧ Q 0 G)) (h : PX13_compareHeads_516 J l1 l2 l3 l5 l7 l8 l9 G Q) : Tg W0 (vX13_compareHeads_516 j) [rf (16081), cI (l1), cI (l2), cL (l3), l4, cL (l5), l6, cI (l7), cI (l8), cI (l9)] [] G (fun r G => r = 7 ∧ Q 0 G) := by
  unfold PX13_compareHeads_516 at h
  unfold vX13_compareHeads_516
  exact g_ret0 ⟨rfl, h⟩
def PX13_compareHeads_507 (J : Nat → List Int → gS → (Int → gS → Prop) → Prop) (l1 : Int) (l2 : Int) (l3 : Int) (l5 : Int) (l7 : Int) (l8 : Int) (l9 : Int) (s0 : Int) (s1 : Int) (G : gS) (Q : Int → gS → Prop) : Prop :=
  (isO W0 13 (s0) ∧ PX13_differs s1 l1 l2 (-2) (-2) G (fun _ G142 => PX13_compareHeads_516 J l1 l2 l3 l5 l7 l8 l9 G142 Q))
set_option maxRecDepth 20000 in
theorem TX13_compareHeads_507 {j : Nat → rx_K} {J : Nat → List Int → gS → (Int → gS → Prop) → Prop} {l1 : Int} {l2 : Int} {l3 : Int} {l4 : Nat} {l5 : Int} {l6 : Nat} {l7 : Int} {l8 : Int} {l9 : Int} {s0 : Int} {s1 : Int} {G : gS} {Q : Int → gS → Prop} (hl1 : inI l1) (hl2 : inI l2) (hl3 : inL l3) (hl4 : l4 % 8 ≠ 1) (hl5 : inL l5) (hl6 : l6 % 8 ≠ 1) (hl7 : inI l7) (hl8 : inI l8) (hl9 : inI l9) (hs1 : inI s1) (hj0 : ∀ (l1 : Int) (l2 : Int) (l3 : Int) (l4 : Nat) (l5 : Int) (l6 : Nat) (l7 : Int) (l8 : Nat) (l9 : Nat) (G : gS), (inI l1) → (inI l2) → (inL l3) → (l4 % 8 ≠ 1) → (inL l5) → (l6 % 8 ≠ 1) → (inI l7) → (l8 % 8 ≠ 1) → (l9 % 8 ≠ 1) → J 0 [l1, l2, l3, l5, l7] G Q → Tg W0 (j 0) [rf (16081), cI (l1), cI (l2), cL (l3), l4, cL (l5), l6, cI (l7), l8, l9] [] G (fun r G => r = 7 ∧ Q 0 G)) (hj1 : ∀ (l1 : Int) (l2 : Int) (l3 : Int) (l4 : Nat) (l5 : Int) (l6 : Nat) (l7 : Int) (l8 : Nat) (l9 : Nat) (G : gS), (inI l1) → (inI l2) → (inL l3) → (l4 % 8 ≠ 1) → (inL l5) → (l6 % 8 ≠ 1) → (inI l7) → (l8 % 8 ≠ 1) → (l9 % 8 ≠ 1) → J 1 [l1, l2, l3, l5, l7] G Q → Tg W0 (j 1) [rf (16081), cI (l1), cI (l2), cL (l3), l4, cL (l5), l6, cI (l7), l8, l9] [] G (fun r G => r = 7 ∧ Q 0 G)) (hj2 : ∀ (l1 : Int) (l2 : Int) (l3 : Int) (l4 : Nat) (l5 : Int) (l6 : Nat) (l7 : Int) (l8 : Int) (l9 : Int) (G : gS), (inI l1) → (inI l2) → (inL l3) → (l4 % 8 ≠ 1) → (inL l5) → (l6 % 8 ≠ 1) → (inI l7) → (inI l8) → (inI l9) → J 2 [l1, l2, l3, l5, l7, l8, l9] G Q → Tg W0 (j 2) [rf (16081), cI (l1), cI (l2), cL (l3), l4, cL (l5), l6, cI (l7), cI (l8), cI (l9)] [] G (fun r G => r = 7 ∧ Q 0 G)) (h : PX13_compareHeads_507 J l1 l2 l3 l5 l7 l8 l9 s0 s1 G Q) : Tg W0 (vX13_compareHeads_507 j) [rf (16081), cI (l1), cI (l2), cL (l3), l4, cL (l5), l6, cI (l7), cI (l8), cI (l9)] [cI (s1), rf (s0)] G (fun r G => r = 7 ∧ Q 0 G) := by
  unfold PX13_compareHeads_507 at h
  unfold vX13_compareHeads_507
  refine g_ld (v := cI _) rfl (is_I _) ?_
  refine g_ld (v := cI _) rfl (is_I _) ?_
  refine g_const (v := cI (-2)) rfl ?_
  refine g_const (v := cI (-2)) rfl ?_
  obtain ⟨q141, h⟩ := h
  refine g_callV (As := [_, _, _, _, _]) (ci := 13) q141 (fun _ => rfl) ?_
  refine g_go0 (Nat.le_of_ble_eq_true rfl) (Tn_w (Tn_eq (one13 q141) (TX13_differs hs1 hl1 hl2 ⟨by omega, by omega⟩ ⟨by omega, by omega⟩ h)) fun _ G142 ⟨e, h⟩ => ⟨e, ?_⟩)
  exact TX13_compareHeads_516 hl1 hl2 hl3 hl4 hl5 hl6 hl7 hl8 hl9 hj0 hj1 hj2 h
def PX13_compareHeads_505 (J : Nat → List Int → gS → (Int → gS → Prop) → Prop) (l1 : Int) (l2 : Int) (l3 : Int) (l5 : Int) (l7 : Int) (l8 : Int) (l9 : Int) (s0 : Int) (G : gS) (Q : Int → gS → Prop) : Prop :=
  PX13_compareHeads_507 J l1 l2 l3 l5 l7 l8 l9 s0 14 G Q
set_option maxRecDepth 20000 in
theorem TX13_compareHeads_505 {j : Nat → rx_K} {J : Nat → List Int → gS → (Int → gS → Prop) → Prop} {l1 : Int} {l2 : Int} {l3 : Int} {l4 : Nat} {l5 : Int} {l6 : Nat} {l7 : Int} {l8 : Int} {l9 : Int} {s0 : Int} {G : gS} {Q : Int → gS → Prop} (hl1 : inI l1) (hl2 : inI l2) (hl3 : inL l3) (hl4 : l4 % 8 ≠ 1) (hl5 : inL l5) (hl6 : l6 % 8 ≠ 1) (hl7 : inI l7) (hl8 : inI l8) (hl9 : inI l9) (hj0 : ∀ (l1 : Int) (l2 : Int) (l3 : Int) (l4 : Nat) (l5 : Int) (l6 : Nat) (l7 : Int) (l8 : Nat) (l9 : Nat) (G : gS), (inI l1) → (inI l2) → (inL l3) → (l4 % 8 ≠ 1) → (inL l5) → (l6 % 8 ≠ 1) → (inI l7) → (l8 % 8 ≠ 1) → (l9 % 8 ≠ 1) → J 0 [l1, l2, l3, l5, l7] G Q → Tg W0 (j 0) [rf (16081), cI (l1), cI (l2), cL (l3), l4, cL (l5), l6, cI (l7), l8, l9] [] G (fun r G => r = 7 ∧ Q 0 G)) (hj1 : ∀ (l1 : Int) (l2 : Int) (l3 : Int) (l4 : Nat) (l5 : Int) (l6 : Nat) (l7 : Int) (l8 : Nat) (l9 : Nat) (G : gS), (inI l1) → (inI l2) → (inL l3) → (l4 % 8 ≠ 1) → (inL l5) → (l6 % 8 ≠ 1) → (inI l7) → (l8 % 8 ≠ 1) → (l9 % 8 ≠ 1) → J 1 [l1, l2, l3, l5, l7] G Q → Tg W0 (j 1) [rf (16081), cI (l1), cI (l2), cL (l3), l4, cL (l5), l6, cI (l7), l8, l9] [] G (fun r G => r = 7 ∧ Q 0 G)) (hj2 : ∀ (l1 : Int) (l2 : Int) (l3 : Int) (l4 : Nat) (l5 : Int) (l6 : Nat) (l7 : Int) (l8 : Int) (l9 : Int) (G : gS), (inI l1) → (inI l2) → (inL l3) → (l4 % 8 ≠ 1) → (inL l5) → (l6 % 8 ≠ 1) → (inI l7) → (inI l8) → (inI l9) → J 2 [l1, l2, l3, l5, l7, l8, l9] G Q → Tg W0 (j 2) [rf (16081), cI (l1), cI (l2), cL (l3), l4, cL (l5), l6, cI (l7), cI (l8), cI (l9)] [] G (fun r G => r = 7 ∧ Q 0 G)) (h : PX13_compareHeads_505 J l1 l2 l3 l5 l7 l8 l9 s0 G Q) : Tg W0 (vX13_compareHeads_505 j) [rf (16081), cI (l1), cI (l2), cL (l3), l4, cL (l5), l6, cI (l7), cI (l8), cI (l9)] [rf (s0)] G (fun r G => r = 7 ∧ Q 0 G) := by
  unfold PX13_compareHeads_505 at h
  unfold vX13_compareHeads_505
  refine g_const (v := cI (14)) rfl ?_
  exact TX13_compareHeads_507 hl1 hl2 hl3 hl4 hl5 hl6 hl7 hl8 hl9 ⟨by omega, by omega⟩ hj0 hj1 hj2 h
def PX13_compareHeads_472 (J : Nat → List Int → gS → (Int → gS → Prop) → Prop) (l1 : Int) (l2 : Int) (l3 : Int) (l5 : Int) (l7 : Int) (l8 : Int) (l9 : Int) (s0 : Int) (G : gS) (Q : Int → gS → Prop) : Prop :=
  (inI (l9 + 1) ∧ J 2 [l1, l2, l3, l5, l7, s0, l9 + 1] G Q)
set_option maxRecDepth 20000 in
theorem TX13_compareHeads_472 {j : Nat → rx_K} {J : Nat → List Int → gS → (Int → gS → Prop) → Prop} {l1 : Int} {l2 : Int} {l3 : Int} {l4 : Nat} {l5 : Int} {l6 : Nat} {l7 : Int} {l8 : Int} {l9 : Int} {s0 : Int} {G : gS} {Q : Int → gS → Prop} (hl1 : inI l1) (hl2 : inI l2) (hl3 : inL l3) (hl4 : l4 % 8 ≠ 1) (hl5 : inL l5) (hl6 : l6 % 8 ≠ 1) (hl7 : inI l7) (hl8 : inI l8) (hl9 : inI l9) (hs0 : inI s0) (hj0 : ∀ (l1 : Int) (l2 : Int) (l3 : Int) (l4 : Nat) (l5 : Int) (l6 : Nat) (l7 : Int) (l8 : Nat) (l9 : Nat) (G : gS), (inI l1) → (inI l2) → (inL l3) → (l4 % 8 ≠ 1) → (inL l5) → (l6 % 8 ≠ 1) → (inI l7) → (l8 % 8 ≠ 1) → (l9 % 8 ≠ 1) → J 0 [l1, l2, l3, l5, l7] G Q → Tg W0 (j 0) [rf (16081), cI (l1), cI (l2), cL (l3), l4, cL (l5), l6, cI (l7), l8, l9] [] G (fun r G => r = 7 ∧ Q 0 G)) (hj1 : ∀ (l1 : Int) (l2 : Int) (l3 : Int) (l4 : Nat) (l5 : Int) (l6 : Nat) (l7 : Int) (l8 : Nat) (l9 : Nat) (G : gS), (inI l1) → (inI l2) → (inL l3) → (l4 % 8 ≠ 1) → (inL l5) → (l6 % 8 ≠ 1) → (inI l7) → (l8 % 8 ≠ 1) → (l9 % 8 ≠ 1) → J 1 [l1, l2, l3, l5, l7] G Q → Tg W0 (j 1) [rf (16081), cI (l1), cI (l2), cL (l3), l4, cL (l5), l6, cI (l7), l8, l9] [] G (fun r G => r = 7 ∧ Q 0 G)) (hj2 : ∀ (l1 : Int) (l2 : Int) (l3 : Int) (l4 : Nat) (l5 : Int) (l6 : Nat) (l7 : Int) (l8 : Int) (l9 : Int) (G : gS), (inI l1) → (inI l2) → (inL l3) → (l4 % 8 ≠ 1) → (inL l5) → (l6 % 8 ≠ 1) → (inI l7) → (inI l8) → (inI l9) → J 2 [l1, l2, l3, l5, l7, l8, l9] G Q → Tg W0 (j 2) [rf (16081), cI (l1), cI (l2), cL (l3), l4, cL (l5), l6, cI (l7), cI (l8), cI (l9)] [] G (fun r G => r = 7 ∧ Q 0 G)) (h : PX13_compareHeads_472 J l1 l2 l3 l5 l7 l8 l9 s0 G Q) : Tg W0 (vX13_compareHeads_472 j) [rf (16081), cI (l1), cI (l2), cL (l3), l4, cL (l5), l6, cI (l7), cI (l8), cI (l9)] [cI (s0)] G (fun r G => r = 7 ∧ Q 0 G) := by
  unfold PX13_compareHeads_472 at h
  unfold vX13_compareHeads_472
  refine g_st (lv' := [_, _, _, _, _, _, _, _, _, _]) (is_I _) (Nat.le_of_ble_eq_true rfl) (Or.inr (n1_I _)) rfl ?_
  refine g_inc (lv' := [_, _, _, _, _, _, _, _, _, _]) rfl (Nat.le_of_ble_eq_true rfl) (Or.inr (n1_I _)) rfl ?_
  obtain ⟨q144, h⟩ := h
  exact hj2 _ _ _ _ _ _ _ _ _ _ hl1 hl2 hl3 hl4 hl5 hl6 hl7 hs0 q144 h
def PX13_compareHeads_471 (J : Nat → List Int → gS → (Int → gS → Prop) → Prop) (l1 : Int) (l2 : Int) (l3 : Int) (l5 : Int) (l7 : Int) (l8 : Int) (l9 : Int) (G : gS) (Q : Int → gS → Prop) : Prop :=
  PX13_compareHeads_472 J l1 l2 l3 l5 l7 l8 l9 0 G Q
set_option maxRecDepth 20000 in
theorem TX13_compareHeads_471 {j : Nat → rx_K} {J : Nat → List Int → gS → (Int → gS → Prop) → Prop} {l1 : Int} {l2 : Int} {l3 : Int} {l4 : Nat} {l5 : Int} {l6 : Nat} {l7 : Int} {l8 : Int} {l9 : Int} {G : gS} {Q : Int → gS → Prop} (hl1 : inI l1) (hl2 : inI l2) (hl3 : inL l3) (hl4 : l4 % 8 ≠ 1) (hl5 : inL l5) (hl6 : l6 % 8 ≠ 1) (hl7 : inI l7) (hl8 : inI l8) (hl9 : inI l9) (hj0 : ∀ (l1 : Int) (l2 : Int) (l3 : Int) (l4 : Nat) (l5 : Int) (l6 : Nat) (l7 : Int) (l8 : Nat) (l9 : Nat) (G : gS), (inI l1) → (inI l2) → (inL l3) → (l4 % 8 ≠ 1) → (inL l5) → (l6 % 8 ≠ 1) → (inI l7) → (l8 % 8 ≠ 1) → (l9 % 8 ≠ 1) → J 0 [l1, l2, l3, l5, l7] G Q → Tg W0 (j 0) [rf (16081), cI (l1), cI (l2), cL (l3), l4, cL (l5), l6, cI (l7), l8, l9] [] G (fun r G => r = 7 ∧ Q 0 G)) (hj1 : ∀ (l1 : Int) (l2 : Int) (l3 : Int) (l4 : Nat) (l5 : Int) (l6 : Nat) (l7 : Int) (l8 : Nat) (l9 : Nat) (G : gS), (inI l1) → (inI l2) → (inL l3) → (l4 % 8 ≠ 1) → (inL l5) → (l6 % 8 ≠ 1) → (inI l7) → (l8 % 8 ≠ 1) → (l9 % 8 ≠ 1) → J 1 [l1, l2, l3, l5, l7] G Q → Tg W0 (j 1) [rf (16081), cI (l1), cI (l2), cL (l3), l4, cL (l5), l6, cI (l7), l8, l9] [] G (fun r G => r = 7 ∧ Q 0 G)) (hj2 : ∀ (l1 : Int) (l2 : Int) (l3 : Int) (l4 : Nat) (l5 : Int) (l6 : Nat) (l7 : Int) (l8 : Int) (l9 : Int) (G : gS), (inI l1) → (inI l2) → (inL l3) → (l4 % 8 ≠ 1) → (inL l5) → (l6 % 8 ≠ 1) → (inI l7) → (inI l8) → (inI l9) → J 2 [l1, l2, l3, l5, l7, l8, l9] G Q → Tg W0 (j 2) [rf (16081), cI (l1), cI (l2), cL (l3), l4, cL (l5), l6, cI (l7), cI (l8), cI (l9)] [] G (fun r G => r = 7 ∧ Q 0 G)) (h : PX13_compareHeads_471 J l1 l2 l3 l5 l7 l8 l9 G Q) : Tg W0 (vX13_compareHeads_471 j) [rf (16081), cI (l1), cI (l2), cL (l3), l4, cL (l5), l6, cI (l7), cI (l8), cI (l9)] [] G (fun r G => r = 7 ∧ Q 0 G) := by
  unfold PX13_compareHeads_471 at h
  unfold vX13_compareHeads_471
  refine g_const (v := cI (0)) rfl ?_
  exact TX13_compareHeads_472 hl1 hl2 hl3 hl4 hl5 hl6 hl7 hl8 hl9 ⟨by omega, by omega⟩ hj0 hj1 hj2 h
def PX13_compareHeads_432 (J : Nat → List Int → gS → (Int → gS → Prop) → Prop) (l1 : Int) (l2 : Int) (l3 : Int) (l5 : Int) (l7 : Int) (l8 : Int) (l9 : Int) (s0 : Int) (G : gS) (Q : Int → gS → Prop) : Prop :=
  ((l8 = 0 → PX13_compareHeads_471 J l1 l2 l3 l5 s0 l8 l9 G Q) ∧ (¬ (l8 = 0) → ((0 : Int) ≤ (8 * l1) + l9 ∧ (((8 * l1) + l9 : Int) < 1728 ∧ (inL (G 16112 ((8 * l1) + l9)) → ((0 : Int) ≤ (8 * l2) + l9 ∧ (((8 * l2) + l9 : Int) < 1728 ∧ (inL (G 16112 ((8 * l2) + l9)) → ((G 16112 ((8 * l1) + l9) = G 16112 ((8 * l2) + l9) → PX13_compareHeads_472 J l1 l2 l3 l5 s0 l8 l9 1 G Q) ∧ (¬ (G 16112 ((8 * l1) + l9) = G 16112 ((8 * l2) + l9)) → PX13_compareHeads_471 J l1 l2 l3 l5 s0 l8 l9 G Q))))))))))
set_option maxRecDepth 20000 in
theorem TX13_compareHeads_432 {j : Nat → rx_K} {J : Nat → List Int → gS → (Int → gS → Prop) → Prop} {l1 : Int} {l2 : Int} {l3 : Int} {l4 : Nat} {l5 : Int} {l6 : Nat} {l7 : Int} {l8 : Int} {l9 : Int} {s0 : Int} {G : gS} {Q : Int → gS → Prop} (hl1 : inI l1) (hl2 : inI l2) (hl3 : inL l3) (hl4 : l4 % 8 ≠ 1) (hl5 : inL l5) (hl6 : l6 % 8 ≠ 1) (hl7 : inI l7) (hl8 : inI l8) (hl9 : inI l9) (hs0 : inI s0) (hj0 : ∀ (l1 : Int) (l2 : Int) (l3 : Int) (l4 : Nat) (l5 : Int) (l6 : Nat) (l7 : Int) (l8 : Nat) (l9 : Nat) (G : gS), (inI l1) → (inI l2) → (inL l3) → (l4 % 8 ≠ 1) → (inL l5) → (l6 % 8 ≠ 1) → (inI l7) → (l8 % 8 ≠ 1) → (l9 % 8 ≠ 1) → J 0 [l1, l2, l3, l5, l7] G Q → Tg W0 (j 0) [rf (16081), cI (l1), cI (l2), cL (l3), l4, cL (l5), l6, cI (l7), l8, l9] [] G (fun r G => r = 7 ∧ Q 0 G)) (hj1 : ∀ (l1 : Int) (l2 : Int) (l3 : Int) (l4 : Nat) (l5 : Int) (l6 : Nat) (l7 : Int) (l8 : Nat) (l9 : Nat) (G : gS), (inI l1) → (inI l2) → (inL l3) → (l4 % 8 ≠ 1) → (inL l5) → (l6 % 8 ≠ 1) → (inI l7) → (l8 % 8 ≠ 1) → (l9 % 8 ≠ 1) → J 1 [l1, l2, l3, l5, l7] G Q → Tg W0 (j 1) [rf (16081), cI (l1), cI (l2), cL (l3), l4, cL (l5), l6, cI (l7), l8, l9] [] G (fun r G => r = 7 ∧ Q 0 G)) (hj2 : ∀ (l1 : Int) (l2 : Int) (l3 : Int) (l4 : Nat) (l5 : Int) (l6 : Nat) (l7 : Int) (l8 : Int) (l9 : Int) (G : gS), (inI l1) → (inI l2) → (inL l3) → (l4 % 8 ≠ 1) → (inL l5) → (l6 % 8 ≠ 1) → (inI l7) → (inI l8) → (inI l9) → J 2 [l1, l2, l3, l5, l7, l8, l9] G Q → Tg W0 (j 2) [rf (16081), cI (l1), cI (l2), cL (l3), l4, cL (l5), l6, cI (l7), cI (l8), cI (l9)] [] G (fun r G => r = 7 ∧ Q 0 G)) (h : PX13_compareHeads_432 J l1 l2 l3 l5 l7 l8 l9 s0 G Q) : Tg W0 (vX13_compareHeads_432 j) [rf (16081), cI (l1), cI (l2), cL (l3), l4, cL (l5), l6, cI (l7), cI (l8), cI (l9)] [cI (s0)] G (fun r G => r = 7 ∧ Q 0 G) := by
  unfold PX13_compareHeads_432 at h
  unfold vX13_compareHeads_432
  refine g_st (lv' := [_, _, _, _, _, _, _, _, _, _]) (is_I _) (Nat.le_of_ble_eq_true rfl) (Or.inr hl6) rfl ?_
  refine g_ld (v := cI _) rfl (is_I _) ?_
  refine g_eq1 hl8 (fun b133 => ?_) (fun b133 => ?_)
  · replace h := h.1 b133
    exact TX13_compareHeads_471 hl1 hl2 hl3 hl4 hl5 hl6 hs0 hl8 hl9 hj0 hj1 hj2 h
  · replace h := h.2 b133
    unfold vX13_compareHeads_439
    refine g_ld (v := rf _) rfl (is_R _) ?_
    refine g_getF (v := 16112) oC13 (hC13_38) rfl (Nat.le_of_ble_eq_true rfl) (Nat.le_of_ble_eq_true rfl) ?_
    refine g_const (v := cI (8)) rfl ?_
    refine g_ld (v := cI _) rfl (is_I _) ?_
    refine g_mul ?_
    refine g_ld (v := cI _) rfl (is_I _) ?_
    refine g_add ?_
    obtain ⟨q134, q135, h⟩ := h
    refine g_aldL aC16112 q134 q135 rfl fun i136 => ?_
    replace h := h i136
    refine g_ld (v := rf _) rfl (is_R _) ?_
    refine g_getF (v := 16112) oC13 (hC13_38) rfl (Nat.le_of_ble_eq_true rfl) (Nat.le_of_ble_eq_true rfl) ?_
    refine g_const (v := cI (8)) rfl ?_
    refine g_ld (v := cI _) rfl (is_I _) ?_
    refine g_mul ?_
    refine g_ld (v := cI _) rfl (is_I _) ?_
    refine g_add ?_
    obtain ⟨q137, q138, h⟩ := h
    refine g_aldL aC16112 q137 q138 rfl fun i139 => ?_
    replace h := h i139
    refine g_leq i136 i139 (fun b140 => ?_) (fun b140 => ?_)
    · replace h := h.1 b140
      unfold vX13_compareHeads_467
      refine g_const (v := cI (1)) rfl ?_
      exact TX13_compareHeads_472 hl1 hl2 hl3 hl4 hl5 hl6 hs0 hl8 hl9 ⟨by omega, by omega⟩ hj0 hj1 hj2 h
    · replace h := h.2 b140
      exact TX13_compareHeads_471 hl1 hl2 hl3 hl4 hl5 hl6 hs0 hl8 hl9 hj0 hj1 hj2 h
def PX13_compareHeads_427 (J : Nat → List Int → gS → (Int → gS → Prop) → Prop) (l1 : Int) (l2 : Int) (l3 : Int) (l5 : Int) (l7 : Int) (l8 : Int) (l9 : Int) (G : gS) (Q : Int → gS → Prop) : Prop :=
  PX13_compareHeads_432 J l1 l2 l3 l5 l7 l8 l9 1 G Q
set_option maxRecDepth 20000 in
theorem TX13_compareHeads_427 {j : Nat → rx_K} {J : Nat → List Int → gS → (Int → gS → Prop) → Prop} {l1 : Int} {l2 : Int} {l3 : Int} {l4 : Nat} {l5 : Int} {l6 : Nat} {l7 : Int} {l8 : Int} {l9 : Int} {G : gS} {Q : Int → gS → Prop} (hl1 : inI l1) (hl2 : inI l2) (hl3 : inL l3) (hl4 : l4 % 8 ≠ 1) (hl5 : inL l5) (hl6 : l6 % 8 ≠ 1) (hl7 : inI l7) (hl8 : inI l8) (hl9 : inI l9) (hj0 : ∀ (l1 : Int) (l2 : Int) (l3 : Int) (l4 : Nat) (l5 : Int) (l6 : Nat) (l7 : Int) (l8 : Nat) (l9 : Nat) (G : gS), (inI l1) → (inI l2) → (inL l3) → (l4 % 8 ≠ 1) → (inL l5) → (l6 % 8 ≠ 1) → (inI l7) → (l8 % 8 ≠ 1) → (l9 % 8 ≠ 1) → J 0 [l1, l2, l3, l5, l7] G Q → Tg W0 (j 0) [rf (16081), cI (l1), cI (l2), cL (l3), l4, cL (l5), l6, cI (l7), l8, l9] [] G (fun r G => r = 7 ∧ Q 0 G)) (hj1 : ∀ (l1 : Int) (l2 : Int) (l3 : Int) (l4 : Nat) (l5 : Int) (l6 : Nat) (l7 : Int) (l8 : Nat) (l9 : Nat) (G : gS), (inI l1) → (inI l2) → (inL l3) → (l4 % 8 ≠ 1) → (inL l5) → (l6 % 8 ≠ 1) → (inI l7) → (l8 % 8 ≠ 1) → (l9 % 8 ≠ 1) → J 1 [l1, l2, l3, l5, l7] G Q → Tg W0 (j 1) [rf (16081), cI (l1), cI (l2), cL (l3), l4, cL (l5), l6, cI (l7), l8, l9] [] G (fun r G => r = 7 ∧ Q 0 G)) (hj2 : ∀ (l1 : Int) (l2 : Int) (l3 : Int) (l4 : Nat) (l5 : Int) (l6 : Nat) (l7 : Int) (l8 : Int) (l9 : Int) (G : gS), (inI l1) → (inI l2) → (inL l3) → (l4 % 8 ≠ 1) → (inL l5) → (l6 % 8 ≠ 1) → (inI l7) → (inI l8) → (inI l9) → J 2 [l1, l2, l3, l5, l7, l8, l9] G Q → Tg W0 (j 2) [rf (16081), cI (l1), cI (l2), cL (l3), l4, cL (l5), l6, cI (l7), cI (l8), cI (l9)] [] G (fun r G => r = 7 ∧ Q 0 G)) (h : PX13_compareHeads_427 J l1 l2 l3 l5 l7 l8 l9 G Q) : Tg W0 (vX13_compareHeads_427 j) [rf (16081), cI (l1), cI (l2), cL (l3), l4, cL (l5), l6, cI (l7), cI (l8), cI (l9)] [] G (fun r G => r = 7 ∧ Q 0 G) := by
  unfold PX13_compareHeads_427 at h
  unfold vX13_compareHeads_427
  refine g_const (v := cI (1)) rfl ?_
  exact TX13_compareHeads_432 hl1 hl2 hl3 hl4 hl5 hl6 hl7 hl8 hl9 ⟨by omega, by omega⟩ hj0 hj1 hj2 h
def PX13_compareHeads_379 (J : Nat → List Int → gS → (Int → gS → Prop) → Prop) (l1 : Int) (l2 : Int) (l3 : Int) (l5 : Int) (l7 : Int) (l8 : Int) (l9 : Int) (G : gS) (Q : Int → gS → Prop) : Prop :=
  ((0 : Int) ≤ l1 ∧ ((l1 : Int) < 216 ∧ (inI (G 16114 l1) → ((l9 < G 16114 l1 → ((l7 = 0 → ((0 : Int) ≤ l2 ∧ ((l2 : Int) < 216 ∧ (inI (G 16114 l2) → ((0 : Int) ≤ (8 * l1) + l9 ∧ (((8 * l1) + l9 : Int) < 1728 ∧ (inL (G 16112 ((8 * l1) + l9)) → (inI (8 * l2) ∧ PX13_stands 16112 (8 * l2) (G 16114 l2) (G 16112 ((8 * l1) + l9)) G (fun r124 G123 => (0 ≤ r124 ∧ r124 ≤ 1) → ((r124 = 0 → PX13_compareHeads_427 J l1 l2 l3 l5 l7 l8 l9 G123 Q) ∧ (¬ (r124 = 0) → PX13_compareHeads_432 J l1 l2 l3 l5 l7 l8 l9 0 G123 Q))))))))))) ∧ (¬ (l7 = 0) → PX13_compareHeads_427 J l1 l2 l3 l5 l7 l8 l9 G Q))) ∧ (¬ (l9 < G 16114 l1) → ((l8 = 0 → ((0 : Int) ≤ l2 ∧ ((l2 : Int) < 216 ∧ (inI (G 16114 l2) → ((0 < G 16114 l2 → ((l7 = 0 → PX13_compareHeads_505 J l1 l2 l3 l5 l7 l8 l9 16081 G Q) ∧ (¬ (l7 = 0) → PX13_compareHeads_507 J l1 l2 l3 l5 l7 l8 l9 16081 13 G Q))) ∧ (¬ (0 < G 16114 l2) → PX13_compareHeads_505 J l1 l2 l3 l5 l7 l8 l9 16081 G Q)))))) ∧ (¬ (l8 = 0) → PX13_compareHeads_516 J l1 l2 l3 l5 l7 l8 l9 G Q)))))))
set_option maxRecDepth 20000 in
theorem TX13_compareHeads_379 {j : Nat → rx_K} {J : Nat → List Int → gS → (Int → gS → Prop) → Prop} {l1 : Int} {l2 : Int} {l3 : Int} {l4 : Nat} {l5 : Int} {l6 : Nat} {l7 : Int} {l8 : Int} {l9 : Int} {G : gS} {Q : Int → gS → Prop} (hl1 : inI l1) (hl2 : inI l2) (hl3 : inL l3) (hl4 : l4 % 8 ≠ 1) (hl5 : inL l5) (hl6 : l6 % 8 ≠ 1) (hl7 : inI l7) (hl8 : inI l8) (hl9 : inI l9) (hj0 : ∀ (l1 : Int) (l2 : Int) (l3 : Int) (l4 : Nat) (l5 : Int) (l6 : Nat) (l7 : Int) (l8 : Nat) (l9 : Nat) (G : gS), (inI l1) → (inI l2) → (inL l3) → (l4 % 8 ≠ 1) → (inL l5) → (l6 % 8 ≠ 1) → (inI l7) → (l8 % 8 ≠ 1) → (l9 % 8 ≠ 1) → J 0 [l1, l2, l3, l5, l7] G Q → Tg W0 (j 0) [rf (16081), cI (l1), cI (l2), cL (l3), l4, cL (l5), l6, cI (l7), l8, l9] [] G (fun r G => r = 7 ∧ Q 0 G)) (hj1 : ∀ (l1 : Int) (l2 : Int) (l3 : Int) (l4 : Nat) (l5 : Int) (l6 : Nat) (l7 : Int) (l8 : Nat) (l9 : Nat) (G : gS), (inI l1) → (inI l2) → (inL l3) → (l4 % 8 ≠ 1) → (inL l5) → (l6 % 8 ≠ 1) → (inI l7) → (l8 % 8 ≠ 1) → (l9 % 8 ≠ 1) → J 1 [l1, l2, l3, l5, l7] G Q → Tg W0 (j 1) [rf (16081), cI (l1), cI (l2), cL (l3), l4, cL (l5), l6, cI (l7), l8, l9] [] G (fun r G => r = 7 ∧ Q 0 G)) (hj2 : ∀ (l1 : Int) (l2 : Int) (l3 : Int) (l4 : Nat) (l5 : Int) (l6 : Nat) (l7 : Int) (l8 : Int) (l9 : Int) (G : gS), (inI l1) → (inI l2) → (inL l3) → (l4 % 8 ≠ 1) → (inL l5) → (l6 % 8 ≠ 1) → (inI l7) → (inI l8) → (inI l9) → J 2 [l1, l2, l3, l5, l7, l8, l9] G Q → Tg W0 (j 2) [rf (16081), cI (l1), cI (l2), cL (l3), l4, cL (l5), l6, cI (l7), cI (l8), cI (l9)] [] G (fun r G => r = 7 ∧ Q 0 G)) (h : PX13_compareHeads_379 J l1 l2 l3 l5 l7 l8 l9 G Q) : Tg W0 (vX13_compareHeads_379 j) [rf (16081), cI (l1), cI (l2), cL (l3), l4, cL (l5), l6, cI (l7), cI (l8), cI (l9)] [] G (fun r G => r = 7 ∧ Q 0 G) := by
  unfold PX13_compareHeads_379 at h
  unfold vX13_compareHeads_379
  refine g_ld (v := cI _) rfl (is_I _) ?_
  refine g_ld (v := rf _) rfl (is_R _) ?_
  refine g_getF (v := 16114) oC13 (hC13_40) rfl (Nat.le_of_ble_eq_true rfl) (Nat.le_of_ble_eq_true rfl) ?_
  refine g_ld (v := cI _) rfl (is_I _) ?_
  obtain ⟨q111, q112, h⟩ := h
  refine g_aldI aC16114 q111 q112 rfl fun i113 => ?_
  replace h := h i113
  refine g_lt2 hl9 i113 (fun b114 => ?_) (fun b114 => ?_)
  · replace h := h.1 b114
    unfold vX13_compareHeads_390
    refine g_ld (v := cI _) rfl (is_I _) ?_
    refine g_eq1 hl7 (fun b115 => ?_) (fun b115 => ?_)
    · replace h := h.1 b115
      unfold vX13_compareHeads_395
      refine g_ld (v := rf _) rfl (is_R _) ?_
      refine g_getF (v := 16112) oC13 (hC13_38) rfl (Nat.le_of_ble_eq_true rfl) (Nat.le_of_ble_eq_true rfl) ?_
      refine g_const (v := cI (8)) rfl ?_
      refine g_ld (v := cI _) rfl (is_I _) ?_
      refine g_mul ?_
      refine g_ld (v := rf _) rfl (is_R _) ?_
      refine g_getF (v := 16114) oC13 (hC13_40) rfl (Nat.le_of_ble_eq_true rfl) (Nat.le_of_ble_eq_true rfl) ?_
      refine g_ld (v := cI _) rfl (is_I _) ?_
      obtain ⟨q116, q117, h⟩ := h
      refine g_aldI aC16114 q116 q117 rfl fun i118 => ?_
      replace h := h i118
      refine g_ld (v := rf _) rfl (is_R _) ?_
      refine g_getF (v := 16112) oC13 (hC13_38) rfl (Nat.le_of_ble_eq_true rfl) (Nat.le_of_ble_eq_true rfl) ?_
      refine g_const (v := cI (8)) rfl ?_
      refine g_ld (v := cI _) rfl (is_I _) ?_
      refine g_mul ?_
      refine g_ld (v := cI _) rfl (is_I _) ?_
      refine g_add ?_
      obtain ⟨q119, q120, h⟩ := h
      refine g_aldL aC16112 q119 q120 rfl fun i121 => ?_
      replace h := h i121
      obtain ⟨q122, h⟩ := h
      refine g_callS (As := [_, _, _, _]) (fun _ => rfl) ?_
      refine g_go1 (Nat.le_of_ble_eq_true rfl) (Tn_w (TX13_stands q122 i118 i121 h) fun _ G123 ⟨r124, e, i125, h⟩ => ?_)
      subst e
      refine ⟨n7_I _, ?_⟩
      replace h := h i125
      refine g_eq1 ⟨by omega, by omega⟩ (fun b126 => ?_) (fun b126 => ?_)
      · replace h := h.1 b126
        exact TX13_compareHeads_427 hl1 hl2 hl3 hl4 hl5 hl6 hl7 hl8 hl9 hj0 hj1 hj2 h
      · replace h := h.2 b126
        unfold vX13_compareHeads_431
        refine g_const (v := cI (0)) rfl ?_
        exact TX13_compareHeads_432 hl1 hl2 hl3 hl4 hl5 hl6 hl7 hl8 hl9 ⟨by omega, by omega⟩ hj0 hj1 hj2 h
    · replace h := h.2 b115
      exact TX13_compareHeads_427 hl1 hl2 hl3 hl4 hl5 hl6 hl7 hl8 hl9 hj0 hj1 hj2 h
  · replace h := h.2 b114
    unfold vX13_compareHeads_480
    refine g_ld (v := cI _) rfl (is_I _) ?_
    refine g_eq1 hl8 (fun b127 => ?_) (fun b127 => ?_)
    · replace h := h.1 b127
      unfold vX13_compareHeads_485
      refine g_ld (v := rf _) rfl (is_R _) ?_
      refine g_ld (v := rf _) rfl (is_R _) ?_
      refine g_getF (v := 16114) oC13 (hC13_40) rfl (Nat.le_of_ble_eq_true rfl) (Nat.le_of_ble_eq_true rfl) ?_
      refine g_ld (v := cI _) rfl (is_I _) ?_
      obtain ⟨q128, q129, h⟩ := h
      refine g_aldI aC16114 q128 q129 rfl fun i130 => ?_
      replace h := h i130
      refine g_gt1 i130 (fun b131 => ?_) (fun b131 => ?_)
      · replace h := h.1 b131
        unfold vX13_compareHeads_495
        refine g_ld (v := cI _) rfl (is_I _) ?_
        refine g_eq1 hl7 (fun b132 => ?_) (fun b132 => ?_)
        · replace h := h.1 b132
          exact TX13_compareHeads_505 hl1 hl2 hl3 hl4 hl5 hl6 hl7 hl8 hl9 hj0 hj1 hj2 h
        · replace h := h.2 b132
          unfold vX13_compareHeads_500
          refine g_const (v := cI (13)) rfl ?_
          exact TX13_compareHeads_507 hl1 hl2 hl3 hl4 hl5 hl6 hl7 hl8 hl9 ⟨by omega, by omega⟩ hj0 hj1 hj2 h
      · replace h := h.2 b131
        exact TX13_compareHeads_505 hl1 hl2 hl3 hl4 hl5 hl6 hl7 hl8 hl9 hj0 hj1 hj2 h
    · replace h := h.2 b127
      exact TX13_compareHeads_516 hl1 hl2 hl3 hl4 hl5 hl6 hl7 hl8 hl9 hj0 hj1 hj2 h
def PX13_compareHeads_374 (J : Nat → List Int → gS → (Int → gS → Prop) → Prop) (l1 : Int) (l2 : Int) (l3 : Int) (l5 : Int) (l7 : Int) (s0 : Int) (G : gS) (Q : Int → gS → Prop) : Prop :=
  PX13_compareHeads_379 J l1 l2 l3 l5 l7 s0 0 G Q
set_option maxRecDepth 20000 in
theorem TX13_compareHeads_374 {j : Nat → rx_K} {J : Nat → List Int → gS → (Int → gS → Prop) → Prop} {l1 : Int} {l2 : Int} {l3 : Int} {l4 : Nat} {l5 : Int} {l6 : Nat} {l7 : Int} {l8 : Nat} {l9 : Nat} {s0 : Int} {G : gS} {Q : Int → gS → Prop} (hl1 : inI l1) (hl2 : inI l2) (hl3 : inL l3) (hl4 : l4 % 8 ≠ 1) (hl5 : inL l5) (hl6 : l6 % 8 ≠ 1) (hl7 : inI l7) (hl8 : l8 % 8 ≠ 1) (hl9 : l9 % 8 ≠ 1) (hs0 : inI s0) (hj0 : ∀ (l1 : Int) (l2 : Int) (l3 : Int) (l4 : Nat) (l5 : Int) (l6 : Nat) (l7 : Int) (l8 : Nat) (l9 : Nat) (G : gS), (inI l1) → (inI l2) → (inL l3) → (l4 % 8 ≠ 1) → (inL l5) → (l6 % 8 ≠ 1) → (inI l7) → (l8 % 8 ≠ 1) → (l9 % 8 ≠ 1) → J 0 [l1, l2, l3, l5, l7] G Q → Tg W0 (j 0) [rf (16081), cI (l1), cI (l2), cL (l3), l4, cL (l5), l6, cI (l7), l8, l9] [] G (fun r G => r = 7 ∧ Q 0 G)) (hj1 : ∀ (l1 : Int) (l2 : Int) (l3 : Int) (l4 : Nat) (l5 : Int) (l6 : Nat) (l7 : Int) (l8 : Nat) (l9 : Nat) (G : gS), (inI l1) → (inI l2) → (inL l3) → (l4 % 8 ≠ 1) → (inL l5) → (l6 % 8 ≠ 1) → (inI l7) → (l8 % 8 ≠ 1) → (l9 % 8 ≠ 1) → J 1 [l1, l2, l3, l5, l7] G Q → Tg W0 (j 1) [rf (16081), cI (l1), cI (l2), cL (l3), l4, cL (l5), l6, cI (l7), l8, l9] [] G (fun r G => r = 7 ∧ Q 0 G)) (hj2 : ∀ (l1 : Int) (l2 : Int) (l3 : Int) (l4 : Nat) (l5 : Int) (l6 : Nat) (l7 : Int) (l8 : Int) (l9 : Int) (G : gS), (inI l1) → (inI l2) → (inL l3) → (l4 % 8 ≠ 1) → (inL l5) → (l6 % 8 ≠ 1) → (inI l7) → (inI l8) → (inI l9) → J 2 [l1, l2, l3, l5, l7, l8, l9] G Q → Tg W0 (j 2) [rf (16081), cI (l1), cI (l2), cL (l3), l4, cL (l5), l6, cI (l7), cI (l8), cI (l9)] [] G (fun r G => r = 7 ∧ Q 0 G)) (h : PX13_compareHeads_374 J l1 l2 l3 l5 l7 s0 G Q) : Tg W0 (vX13_compareHeads_374 j) [rf (16081), cI (l1), cI (l2), cL (l3), l4, cL (l5), l6, cI (l7), l8, l9] [cI (s0)] G (fun r G => r = 7 ∧ Q 0 G) := by
  unfold PX13_compareHeads_374 at h
  unfold vX13_compareHeads_374
  refine g_st (lv' := [_, _, _, _, _, _, _, _, _, _]) (is_I _) (Nat.le_of_ble_eq_true rfl) (Or.inr (n1_I _)) rfl ?_
  refine g_const (v := cI (0)) rfl ?_
  refine g_st (lv' := [_, _, _, _, _, _, _, _, _, _]) (is_I _) (Nat.le_of_ble_eq_true rfl) (Or.inr (n1_I _)) rfl ?_
  exact TX13_compareHeads_379 hl1 hl2 hl3 hl4 hl5 hl6 hl7 hs0 ⟨by omega, by omega⟩ hj0 hj1 hj2 h
def PX13_compareHeads_352 (J : Nat → List Int → gS → (Int → gS → Prop) → Prop) (l1 : Int) (l2 : Int) (l3 : Int) (l5 : Int) (l7 : Int) (s0 : Int) (G : gS) (Q : Int → gS → Prop) : Prop :=
  ((0 : Int) ≤ l1 ∧ ((l1 : Int) < 216 ∧ (inI (G 16114 l1) → ((0 : Int) ≤ l2 ∧ ((l2 : Int) < 216 ∧ (inI (G 16114 l2) → ((G 16114 l1 = G 16114 l2 → PX13_compareHeads_374 J l1 l2 l3 l5 s0 1 G Q) ∧ (¬ (G 16114 l1 = G 16114 l2) → PX13_compareHeads_374 J l1 l2 l3 l5 s0 0 G Q))))))))
set_option maxRecDepth 20000 in
theorem TX13_compareHeads_352 {j : Nat → rx_K} {J : Nat → List Int → gS → (Int → gS → Prop) → Prop} {l1 : Int} {l2 : Int} {l3 : Int} {l4 : Nat} {l5 : Int} {l6 : Nat} {l7 : Int} {l8 : Nat} {l9 : Nat} {s0 : Int} {G : gS} {Q : Int → gS → Prop} (hl1 : inI l1) (hl2 : inI l2) (hl3 : inL l3) (hl4 : l4 % 8 ≠ 1) (hl5 : inL l5) (hl6 : l6 % 8 ≠ 1) (hl7 : inI l7) (hl8 : l8 % 8 ≠ 1) (hl9 : l9 % 8 ≠ 1) (hs0 : inI s0) (hj0 : ∀ (l1 : Int) (l2 : Int) (l3 : Int) (l4 : Nat) (l5 : Int) (l6 : Nat) (l7 : Int) (l8 : Nat) (l9 : Nat) (G : gS), (inI l1) → (inI l2) → (inL l3) → (l4 % 8 ≠ 1) → (inL l5) → (l6 % 8 ≠ 1) → (inI l7) → (l8 % 8 ≠ 1) → (l9 % 8 ≠ 1) → J 0 [l1, l2, l3, l5, l7] G Q → Tg W0 (j 0) [rf (16081), cI (l1), cI (l2), cL (l3), l4, cL (l5), l6, cI (l7), l8, l9] [] G (fun r G => r = 7 ∧ Q 0 G)) (hj1 : ∀ (l1 : Int) (l2 : Int) (l3 : Int) (l4 : Nat) (l5 : Int) (l6 : Nat) (l7 : Int) (l8 : Nat) (l9 : Nat) (G : gS), (inI l1) → (inI l2) → (inL l3) → (l4 % 8 ≠ 1) → (inL l5) → (l6 % 8 ≠ 1) → (inI l7) → (l8 % 8 ≠ 1) → (l9 % 8 ≠ 1) → J 1 [l1, l2, l3, l5, l7] G Q → Tg W0 (j 1) [rf (16081), cI (l1), cI (l2), cL (l3), l4, cL (l5), l6, cI (l7), l8, l9] [] G (fun r G => r = 7 ∧ Q 0 G)) (hj2 : ∀ (l1 : Int) (l2 : Int) (l3 : Int) (l4 : Nat) (l5 : Int) (l6 : Nat) (l7 : Int) (l8 : Int) (l9 : Int) (G : gS), (inI l1) → (inI l2) → (inL l3) → (l4 % 8 ≠ 1) → (inL l5) → (l6 % 8 ≠ 1) → (inI l7) → (inI l8) → (inI l9) → J 2 [l1, l2, l3, l5, l7, l8, l9] G Q → Tg W0 (j 2) [rf (16081), cI (l1), cI (l2), cL (l3), l4, cL (l5), l6, cI (l7), cI (l8), cI (l9)] [] G (fun r G => r = 7 ∧ Q 0 G)) (h : PX13_compareHeads_352 J l1 l2 l3 l5 l7 s0 G Q) : Tg W0 (vX13_compareHeads_352 j) [rf (16081), cI (l1), cI (l2), cL (l3), l4, cL (l5), l6, cI (l7), l8, l9] [cI (s0)] G (fun r G => r = 7 ∧ Q 0 G) := by
  unfold PX13_compareHeads_352 at h
  unfold vX13_compareHeads_352
  refine g_st (lv' := [_, _, _, _, _, _, _, _, _, _]) (is_I _) (Nat.le_of_ble_eq_true rfl) (Or.inr hl6) rfl ?_
  refine g_ld (v := rf _) rfl (is_R _) ?_
  refine g_getF (v := 16114) oC13 (hC13_40) rfl (Nat.le_of_ble_eq_true rfl) (Nat.le_of_ble_eq_true rfl) ?_
  refine g_ld (v := cI _) rfl (is_I _) ?_
  obtain ⟨q104, q105, h⟩ := h
  refine g_aldI aC16114 q104 q105 rfl fun i106 => ?_
  replace h := h i106
  refine g_ld (v := rf _) rfl (is_R _) ?_
  refine g_getF (v := 16114) oC13 (hC13_40) rfl (Nat.le_of_ble_eq_true rfl) (Nat.le_of_ble_eq_true rfl) ?_
  refine g_ld (v := cI _) rfl (is_I _) ?_
  obtain ⟨q107, q108, h⟩ := h
  refine g_aldI aC16114 q107 q108 rfl fun i109 => ?_
  replace h := h i109
  refine g_eq2 i106 i109 (fun b110 => ?_) (fun b110 => ?_)
  · replace h := h.1 b110
    unfold vX13_compareHeads_369
    refine g_const (v := cI (1)) rfl ?_
    exact TX13_compareHeads_374 hl1 hl2 hl3 hl4 hl5 hl6 hs0 hl8 hl9 ⟨by omega, by omega⟩ hj0 hj1 hj2 h
  · replace h := h.2 b110
    unfold vX13_compareHeads_373
    refine g_const (v := cI (0)) rfl ?_
    exact TX13_compareHeads_374 hl1 hl2 hl3 hl4 hl5 hl6 hs0 hl8 hl9 ⟨by omega, by omega⟩ hj0 hj1 hj2 h
def PX13_compareHeads_338 (J : Nat → List Int → gS → (Int → gS → Prop) → Prop) (l1 : Int) (l2 : Int) (l3 : Int) (l5 : Int) (l7 : Int) (G : gS) (Q : Int → gS → Prop) : Prop :=
  ((0 : Int) ≤ l1 ∧ ((l1 : Int) < 216 ∧ (inI (G 16114 l1) → ((G 16114 l1 = 0 → PX13_compareHeads_352 J l1 l2 l3 l5 l7 1 G Q) ∧ (¬ (G 16114 l1 = 0) → PX13_compareHeads_352 J l1 l2 l3 l5 l7 0 G Q)))))
set_option maxRecDepth 20000 in
theorem TX13_compareHeads_338 {j : Nat → rx_K} {J : Nat → List Int → gS → (Int → gS → Prop) → Prop} {l1 : Int} {l2 : Int} {l3 : Int} {l4 : Nat} {l5 : Int} {l6 : Nat} {l7 : Int} {l8 : Nat} {l9 : Nat} {G : gS} {Q : Int → gS → Prop} (hl1 : inI l1) (hl2 : inI l2) (hl3 : inL l3) (hl4 : l4 % 8 ≠ 1) (hl5 : inL l5) (hl6 : l6 % 8 ≠ 1) (hl7 : inI l7) (hl8 : l8 % 8 ≠ 1) (hl9 : l9 % 8 ≠ 1) (hj0 : ∀ (l1 : Int) (l2 : Int) (l3 : Int) (l4 : Nat) (l5 : Int) (l6 : Nat) (l7 : Int) (l8 : Nat) (l9 : Nat) (G : gS), (inI l1) → (inI l2) → (inL l3) → (l4 % 8 ≠ 1) → (inL l5) → (l6 % 8 ≠ 1) → (inI l7) → (l8 % 8 ≠ 1) → (l9 % 8 ≠ 1) → J 0 [l1, l2, l3, l5, l7] G Q → Tg W0 (j 0) [rf (16081), cI (l1), cI (l2), cL (l3), l4, cL (l5), l6, cI (l7), l8, l9] [] G (fun r G => r = 7 ∧ Q 0 G)) (hj1 : ∀ (l1 : Int) (l2 : Int) (l3 : Int) (l4 : Nat) (l5 : Int) (l6 : Nat) (l7 : Int) (l8 : Nat) (l9 : Nat) (G : gS), (inI l1) → (inI l2) → (inL l3) → (l4 % 8 ≠ 1) → (inL l5) → (l6 % 8 ≠ 1) → (inI l7) → (l8 % 8 ≠ 1) → (l9 % 8 ≠ 1) → J 1 [l1, l2, l3, l5, l7] G Q → Tg W0 (j 1) [rf (16081), cI (l1), cI (l2), cL (l3), l4, cL (l5), l6, cI (l7), l8, l9] [] G (fun r G => r = 7 ∧ Q 0 G)) (hj2 : ∀ (l1 : Int) (l2 : Int) (l3 : Int) (l4 : Nat) (l5 : Int) (l6 : Nat) (l7 : Int) (l8 : Int) (l9 : Int) (G : gS), (inI l1) → (inI l2) → (inL l3) → (l4 % 8 ≠ 1) → (inL l5) → (l6 % 8 ≠ 1) → (inI l7) → (inI l8) → (inI l9) → J 2 [l1, l2, l3, l5, l7, l8, l9] G Q → Tg W0 (j 2) [rf (16081), cI (l1), cI (l2), cL (l3), l4, cL (l5), l6, cI (l7), cI (l8), cI (l9)] [] G (fun r G => r = 7 ∧ Q 0 G)) (h : PX13_compareHeads_338 J l1 l2 l3 l5 l7 G Q) : Tg W0 (vX13_compareHeads_338 j) [rf (16081), cI (l1), cI (l2), cL (l3), l4, cL (l5), l6, cI (l7), l8, l9] [] G (fun r G => r = 7 ∧ Q 0 G) := by
  unfold PX13_compareHeads_338 at h
  unfold vX13_compareHeads_338
  refine g_ld (v := rf _) rfl (is_R _) ?_
  refine g_getF (v := 16114) oC13 (hC13_40) rfl (Nat.le_of_ble_eq_true rfl) (Nat.le_of_ble_eq_true rfl) ?_
  refine g_ld (v := cI _) rfl (is_I _) ?_
  obtain ⟨q100, q101, h⟩ := h
  refine g_aldI aC16114 q100 q101 rfl fun i102 => ?_
  replace h := h i102
  refine g_eq1 i102 (fun b103 => ?_) (fun b103 => ?_)
  · replace h := h.1 b103
    unfold vX13_compareHeads_347
    refine g_const (v := cI (1)) rfl ?_
    exact TX13_compareHeads_352 hl1 hl2 hl3 hl4 hl5 hl6 hl7 hl8 hl9 ⟨by omega, by omega⟩ hj0 hj1 hj2 h
  · replace h := h.2 b103
    unfold vX13_compareHeads_351
    refine g_const (v := cI (0)) rfl ?_
    exact TX13_compareHeads_352 hl1 hl2 hl3 hl4 hl5 hl6 hl7 hl8 hl9 ⟨by omega, by omega⟩ hj0 hj1 hj2 h
def PX13_compareHeads_304 (J : Nat → List Int → gS → (Int → gS → Prop) → Prop) (l1 : Int) (l2 : Int) (l3 : Int) (l5 : Int) (l7 : Int) (G : gS) (Q : Int → gS → Prop) : Prop :=
  (inI (l7 + 1) ∧ J 1 [l1, l2, l3, l5, l7 + 1] G Q)
set_option maxRecDepth 20000 in
theorem TX13_compareHeads_304 {j : Nat → rx_K} {J : Nat → List Int → gS → (Int → gS → Prop) → Prop} {l1 : Int} {l2 : Int} {l3 : Int} {l4 : Nat} {l5 : Int} {l6 : Nat} {l7 : Int} {l8 : Nat} {l9 : Nat} {G : gS} {Q : Int → gS → Prop} (hl1 : inI l1) (hl2 : inI l2) (hl3 : inL l3) (hl4 : l4 % 8 ≠ 1) (hl5 : inL l5) (hl6 : l6 % 8 ≠ 1) (hl7 : inI l7) (hl8 : l8 % 8 ≠ 1) (hl9 : l9 % 8 ≠ 1) (hj0 : ∀ (l1 : Int) (l2 : Int) (l3 : Int) (l4 : Nat) (l5 : Int) (l6 : Nat) (l7 : Int) (l8 : Nat) (l9 : Nat) (G : gS), (inI l1) → (inI l2) → (inL l3) → (l4 % 8 ≠ 1) → (inL l5) → (l6 % 8 ≠ 1) → (inI l7) → (l8 % 8 ≠ 1) → (l9 % 8 ≠ 1) → J 0 [l1, l2, l3, l5, l7] G Q → Tg W0 (j 0) [rf (16081), cI (l1), cI (l2), cL (l3), l4, cL (l5), l6, cI (l7), l8, l9] [] G (fun r G => r = 7 ∧ Q 0 G)) (hj1 : ∀ (l1 : Int) (l2 : Int) (l3 : Int) (l4 : Nat) (l5 : Int) (l6 : Nat) (l7 : Int) (l8 : Nat) (l9 : Nat) (G : gS), (inI l1) → (inI l2) → (inL l3) → (l4 % 8 ≠ 1) → (inL l5) → (l6 % 8 ≠ 1) → (inI l7) → (l8 % 8 ≠ 1) → (l9 % 8 ≠ 1) → J 1 [l1, l2, l3, l5, l7] G Q → Tg W0 (j 1) [rf (16081), cI (l1), cI (l2), cL (l3), l4, cL (l5), l6, cI (l7), l8, l9] [] G (fun r G => r = 7 ∧ Q 0 G)) (hj2 : ∀ (l1 : Int) (l2 : Int) (l3 : Int) (l4 : Nat) (l5 : Int) (l6 : Nat) (l7 : Int) (l8 : Int) (l9 : Int) (G : gS), (inI l1) → (inI l2) → (inL l3) → (l4 % 8 ≠ 1) → (inL l5) → (l6 % 8 ≠ 1) → (inI l7) → (inI l8) → (inI l9) → J 2 [l1, l2, l3, l5, l7, l8, l9] G Q → Tg W0 (j 2) [rf (16081), cI (l1), cI (l2), cL (l3), l4, cL (l5), l6, cI (l7), cI (l8), cI (l9)] [] G (fun r G => r = 7 ∧ Q 0 G)) (h : PX13_compareHeads_304 J l1 l2 l3 l5 l7 G Q) : Tg W0 (vX13_compareHeads_304 j) [rf (16081), cI (l1), cI (l2), cL (l3), l4, cL (l5), l6, cI (l7), l8, l9] [] G (fun r G => r = 7 ∧ Q 0 G) := by
  unfold PX13_compareHeads_304 at h
  unfold vX13_compareHeads_304
  refine g_inc (lv' := [_, _, _, _, _, _, _, _, _, _]) rfl (Nat.le_of_ble_eq_true rfl) (Or.inr hl6) rfl ?_
  obtain ⟨q99, h⟩ := h
  exact hj1 _ _ _ _ _ _ _ _ _ _ hl1 hl2 hl3 hl4 hl5 hl6 q99 hl8 hl9 h
def PX13_compareHeads_251 (J : Nat → List Int → gS → (Int → gS → Prop) → Prop) (l1 : Int) (l2 : Int) (l3 : Int) (l5 : Int) (l7 : Int) (G : gS) (Q : Int → gS → Prop) : Prop :=
  ((0 : Int) ≤ l2 ∧ ((l2 : Int) < 216 ∧ (inI (G 16106 l2) → ((l7 < G 16106 l2 → ((0 : Int) ≤ l1 ∧ ((l1 : Int) < 216 ∧ (inI (G 16106 l1) → ((0 : Int) ≤ (4 * l2) + l7 ∧ (((4 * l2) + l7 : Int) < 864 ∧ (inL (G 16104 ((4 * l2) + l7)) → (inI (4 * l1) ∧ PX13_stands 16104 (4 * l1) (G 16106 l1) (G 16104 ((4 * l2) + l7)) G (fun r85 G84 => (0 ≤ r85 ∧ r85 ≤ 1) → ((r85 = 0 → PX13_differs 11 l1 l2 (-2) (-2) G84 (fun _ G88 => PX13_compareHeads_304 J l1 l2 l3 l5 l7 G88 Q)) ∧ (¬ (r85 = 0) → PX13_compareHeads_304 J l1 l2 l3 l5 l7 G84 Q))))))))))) ∧ (¬ (l7 < G 16106 l2) → ((0 : Int) ≤ l1 ∧ ((l1 : Int) < 216 ∧ (inL (G 16107 l1) → ((0 : Int) ≤ l2 ∧ ((l2 : Int) < 216 ∧ (inL (G 16107 l2) → ((G 16107 l1 = G 16107 l2 → PX13_compareHeads_338 J l1 l2 l3 l5 l7 G Q) ∧ (¬ (G 16107 l1 = G 16107 l2) → PX13_differs 12 l1 l2 (-2) (-2) G (fun _ G97 => PX13_compareHeads_338 J l1 l2 l3 l5 l7 G97 Q))))))))))))))
set_option maxRecDepth 20000 in
theorem TX13_compareHeads_251 {j : Nat → rx_K} {J : Nat → List Int → gS → (Int → gS → Prop) → Prop} {l1 : Int} {l2 : Int} {l3 : Int} {l4 : Nat} {l5 : Int} {l6 : Nat} {l7 : Int} {l8 : Nat} {l9 : Nat} {G : gS} {Q : Int → gS → Prop} (hl1 : inI l1) (hl2 : inI l2) (hl3 : inL l3) (hl4 : l4 % 8 ≠ 1) (hl5 : inL l5) (hl6 : l6 % 8 ≠ 1) (hl7 : inI l7) (hl8 : l8 % 8 ≠ 1) (hl9 : l9 % 8 ≠ 1) (hj0 : ∀ (l1 : Int) (l2 : Int) (l3 : Int) (l4 : Nat) (l5 : Int) (l6 : Nat) (l7 : Int) (l8 : Nat) (l9 : Nat) (G : gS), (inI l1) → (inI l2) → (inL l3) → (l4 % 8 ≠ 1) → (inL l5) → (l6 % 8 ≠ 1) → (inI l7) → (l8 % 8 ≠ 1) → (l9 % 8 ≠ 1) → J 0 [l1, l2, l3, l5, l7] G Q → Tg W0 (j 0) [rf (16081), cI (l1), cI (l2), cL (l3), l4, cL (l5), l6, cI (l7), l8, l9] [] G (fun r G => r = 7 ∧ Q 0 G)) (hj1 : ∀ (l1 : Int) (l2 : Int) (l3 : Int) (l4 : Nat) (l5 : Int) (l6 : Nat) (l7 : Int) (l8 : Nat) (l9 : Nat) (G : gS), (inI l1) → (inI l2) → (inL l3) → (l4 % 8 ≠ 1) → (inL l5) → (l6 % 8 ≠ 1) → (inI l7) → (l8 % 8 ≠ 1) → (l9 % 8 ≠ 1) → J 1 [l1, l2, l3, l5, l7] G Q → Tg W0 (j 1) [rf (16081), cI (l1), cI (l2), cL (l3), l4, cL (l5), l6, cI (l7), l8, l9] [] G (fun r G => r = 7 ∧ Q 0 G)) (hj2 : ∀ (l1 : Int) (l2 : Int) (l3 : Int) (l4 : Nat) (l5 : Int) (l6 : Nat) (l7 : Int) (l8 : Int) (l9 : Int) (G : gS), (inI l1) → (inI l2) → (inL l3) → (l4 % 8 ≠ 1) → (inL l5) → (l6 % 8 ≠ 1) → (inI l7) → (inI l8) → (inI l9) → J 2 [l1, l2, l3, l5, l7, l8, l9] G Q → Tg W0 (j 2) [rf (16081), cI (l1), cI (l2), cL (l3), l4, cL (l5), l6, cI (l7), cI (l8), cI (l9)] [] G (fun r G => r = 7 ∧ Q 0 G)) (h : PX13_compareHeads_251 J l1 l2 l3 l5 l7 G Q) : Tg W0 (vX13_compareHeads_251 j) [rf (16081), cI (l1), cI (l2), cL (l3), l4, cL (l5), l6, cI (l7), l8, l9] [] G (fun r G => r = 7 ∧ Q 0 G) := by
  unfold PX13_compareHeads_251 at h
  unfold vX13_compareHeads_251
  refine g_ld (v := cI _) rfl (is_I _) ?_
  refine g_ld (v := rf _) rfl (is_R _) ?_
  refine g_getF (v := 16106) oC13 (hC13_32) rfl (Nat.le_of_ble_eq_true rfl) (Nat.le_of_ble_eq_true rfl) ?_
  refine g_ld (v := cI _) rfl (is_I _) ?_
  obtain ⟨q73, q74, h⟩ := h
  refine g_aldI aC16106 q73 q74 rfl fun i75 => ?_
  replace h := h i75
  refine g_lt2 hl7 i75 (fun b76 => ?_) (fun b76 => ?_)
  · replace h := h.1 b76
    unfold vX13_compareHeads_262
    refine g_ld (v := rf _) rfl (is_R _) ?_
    refine g_getF (v := 16104) oC13 (hC13_30) rfl (Nat.le_of_ble_eq_true rfl) (Nat.le_of_ble_eq_true rfl) ?_
    refine g_const (v := cI (4)) rfl ?_
    refine g_ld (v := cI _) rfl (is_I _) ?_
    refine g_mul ?_
    refine g_ld (v := rf _) rfl (is_R _) ?_
    refine g_getF (v := 16106) oC13 (hC13_32) rfl (Nat.le_of_ble_eq_true rfl) (Nat.le_of_ble_eq_true rfl) ?_
    refine g_ld (v := cI _) rfl (is_I _) ?_
    obtain ⟨q77, q78, h⟩ := h
    refine g_aldI aC16106 q77 q78 rfl fun i79 => ?_
    replace h := h i79
    refine g_ld (v := rf _) rfl (is_R _) ?_
    refine g_getF (v := 16104) oC13 (hC13_30) rfl (Nat.le_of_ble_eq_true rfl) (Nat.le_of_ble_eq_true rfl) ?_
    refine g_const (v := cI (4)) rfl ?_
    refine g_ld (v := cI _) rfl (is_I _) ?_
    refine g_mul ?_
    refine g_ld (v := cI _) rfl (is_I _) ?_
    refine g_add ?_
    obtain ⟨q80, q81, h⟩ := h
    refine g_aldL aC16104 q80 q81 rfl fun i82 => ?_
    replace h := h i82
    obtain ⟨q83, h⟩ := h
    refine g_callS (As := [_, _, _, _]) (fun _ => rfl) ?_
    refine g_go1 (Nat.le_of_ble_eq_true rfl) (Tn_w (TX13_stands q83 i79 i82 h) fun _ G84 ⟨r85, e, i86, h⟩ => ?_)
    subst e
    refine ⟨n7_I _, ?_⟩
    replace h := h i86
    refine g_eq1 ⟨by omega, by omega⟩ (fun b87 => ?_) (fun b87 => ?_)
    · replace h := h.1 b87
      unfold vX13_compareHeads_292
      refine g_ld (v := rf _) rfl (is_R _) ?_
      refine g_const (v := cI (11)) rfl ?_
      refine g_ld (v := cI _) rfl (is_I _) ?_
      refine g_ld (v := cI _) rfl (is_I _) ?_
      refine g_const (v := cI (-2)) rfl ?_
      refine g_const (v := cI (-2)) rfl ?_
      refine g_callV (As := [_, _, _, _, _]) (ci := 13) oC13 (fun _ => rfl) ?_
      refine g_go0 (Nat.le_of_ble_eq_true rfl) (Tn_w (TX13_differs ⟨by omega, by omega⟩ hl1 hl2 ⟨by omega, by omega⟩ ⟨by omega, by omega⟩ h) fun _ G88 ⟨e, h⟩ => ⟨e, ?_⟩)
      exact TX13_compareHeads_304 hl1 hl2 hl3 hl4 hl5 hl6 hl7 hl8 hl9 hj0 hj1 hj2 h
    · replace h := h.2 b87
      exact TX13_compareHeads_304 hl1 hl2 hl3 hl4 hl5 hl6 hl7 hl8 hl9 hj0 hj1 hj2 h
  · replace h := h.2 b76
    unfold vX13_compareHeads_310
    refine g_ld (v := rf _) rfl (is_R _) ?_
    refine g_getF (v := 16107) oC13 (hC13_33) rfl (Nat.le_of_ble_eq_true rfl) (Nat.le_of_ble_eq_true rfl) ?_
    refine g_ld (v := cI _) rfl (is_I _) ?_
    obtain ⟨q90, q91, h⟩ := h
    refine g_aldL aC16107 q90 q91 rfl fun i92 => ?_
    replace h := h i92
    refine g_ld (v := rf _) rfl (is_R _) ?_
    refine g_getF (v := 16107) oC13 (hC13_33) rfl (Nat.le_of_ble_eq_true rfl) (Nat.le_of_ble_eq_true rfl) ?_
    refine g_ld (v := cI _) rfl (is_I _) ?_
    obtain ⟨q93, q94, h⟩ := h
    refine g_aldL aC16107 q93 q94 rfl fun i95 => ?_
    replace h := h i95
    refine g_leq i92 i95 (fun b96 => ?_) (fun b96 => ?_)
    · replace h := h.1 b96
      exact TX13_compareHeads_338 hl1 hl2 hl3 hl4 hl5 hl6 hl7 hl8 hl9 hj0 hj1 hj2 h
    · replace h := h.2 b96
      unfold vX13_compareHeads_326
      refine g_ld (v := rf _) rfl (is_R _) ?_
      refine g_const (v := cI (12)) rfl ?_
      refine g_ld (v := cI _) rfl (is_I _) ?_
      refine g_ld (v := cI _) rfl (is_I _) ?_
      refine g_const (v := cI (-2)) rfl ?_
      refine g_const (v := cI (-2)) rfl ?_
      refine g_callV (As := [_, _, _, _, _]) (ci := 13) oC13 (fun _ => rfl) ?_
      refine g_go0 (Nat.le_of_ble_eq_true rfl) (Tn_w (TX13_differs ⟨by omega, by omega⟩ hl1 hl2 ⟨by omega, by omega⟩ ⟨by omega, by omega⟩ h) fun _ G97 ⟨e, h⟩ => ⟨e, ?_⟩)
      exact TX13_compareHeads_338 hl1 hl2 hl3 hl4 hl5 hl6 hl7 hl8 hl9 hj0 hj1 hj2 h
def PX13_compareHeads_242 (J : Nat → List Int → gS → (Int → gS → Prop) → Prop) (l1 : Int) (l2 : Int) (l3 : Int) (l5 : Int) (l7 : Int) (G : gS) (Q : Int → gS → Prop) : Prop :=
  (inI (l7 + 1) ∧ J 0 [l1, l2, l3, l5, l7 + 1] G Q)
set_option maxRecDepth 20000 in
theorem TX13_compareHeads_242 {j : Nat → rx_K} {J : Nat → List Int → gS → (Int → gS → Prop) → Prop} {l1 : Int} {l2 : Int} {l3 : Int} {l4 : Nat} {l5 : Int} {l6 : Nat} {l7 : Int} {l8 : Nat} {l9 : Nat} {G : gS} {Q : Int → gS → Prop} (hl1 : inI l1) (hl2 : inI l2) (hl3 : inL l3) (hl4 : l4 % 8 ≠ 1) (hl5 : inL l5) (hl6 : l6 % 8 ≠ 1) (hl7 : inI l7) (hl8 : l8 % 8 ≠ 1) (hl9 : l9 % 8 ≠ 1) (hj0 : ∀ (l1 : Int) (l2 : Int) (l3 : Int) (l4 : Nat) (l5 : Int) (l6 : Nat) (l7 : Int) (l8 : Nat) (l9 : Nat) (G : gS), (inI l1) → (inI l2) → (inL l3) → (l4 % 8 ≠ 1) → (inL l5) → (l6 % 8 ≠ 1) → (inI l7) → (l8 % 8 ≠ 1) → (l9 % 8 ≠ 1) → J 0 [l1, l2, l3, l5, l7] G Q → Tg W0 (j 0) [rf (16081), cI (l1), cI (l2), cL (l3), l4, cL (l5), l6, cI (l7), l8, l9] [] G (fun r G => r = 7 ∧ Q 0 G)) (hj1 : ∀ (l1 : Int) (l2 : Int) (l3 : Int) (l4 : Nat) (l5 : Int) (l6 : Nat) (l7 : Int) (l8 : Nat) (l9 : Nat) (G : gS), (inI l1) → (inI l2) → (inL l3) → (l4 % 8 ≠ 1) → (inL l5) → (l6 % 8 ≠ 1) → (inI l7) → (l8 % 8 ≠ 1) → (l9 % 8 ≠ 1) → J 1 [l1, l2, l3, l5, l7] G Q → Tg W0 (j 1) [rf (16081), cI (l1), cI (l2), cL (l3), l4, cL (l5), l6, cI (l7), l8, l9] [] G (fun r G => r = 7 ∧ Q 0 G)) (hj2 : ∀ (l1 : Int) (l2 : Int) (l3 : Int) (l4 : Nat) (l5 : Int) (l6 : Nat) (l7 : Int) (l8 : Int) (l9 : Int) (G : gS), (inI l1) → (inI l2) → (inL l3) → (l4 % 8 ≠ 1) → (inL l5) → (l6 % 8 ≠ 1) → (inI l7) → (inI l8) → (inI l9) → J 2 [l1, l2, l3, l5, l7, l8, l9] G Q → Tg W0 (j 2) [rf (16081), cI (l1), cI (l2), cL (l3), l4, cL (l5), l6, cI (l7), cI (l8), cI (l9)] [] G (fun r G => r = 7 ∧ Q 0 G)) (h : PX13_compareHeads_242 J l1 l2 l3 l5 l7 G Q) : Tg W0 (vX13_compareHeads_242 j) [rf (16081), cI (l1), cI (l2), cL (l3), l4, cL (l5), l6, cI (l7), l8, l9] [] G (fun r G => r = 7 ∧ Q 0 G) := by
  unfold PX13_compareHeads_242 at h
  unfold vX13_compareHeads_242
  refine g_inc (lv' := [_, _, _, _, _, _, _, _, _, _]) rfl (Nat.le_of_ble_eq_true rfl) (Or.inr hl6) rfl ?_
  obtain ⟨q72, h⟩ := h
  exact hj0 _ _ _ _ _ _ _ _ _ _ hl1 hl2 hl3 hl4 hl5 hl6 q72 hl8 hl9 h
def PX13_compareHeads_189 (J : Nat → List Int → gS → (Int → gS → Prop) → Prop) (l1 : Int) (l2 : Int) (l3 : Int) (l5 : Int) (l7 : Int) (G : gS) (Q : Int → gS → Prop) : Prop :=
  ((0 : Int) ≤ l1 ∧ ((l1 : Int) < 216 ∧ (inI (G 16106 l1) → ((l7 < G 16106 l1 → ((0 : Int) ≤ l2 ∧ ((l2 : Int) < 216 ∧ (inI (G 16106 l2) → ((0 : Int) ≤ (4 * l1) + l7 ∧ (((4 * l1) + l7 : Int) < 864 ∧ (inL (G 16104 ((4 * l1) + l7)) → (inI (4 * l2) ∧ PX13_stands 16104 (4 * l2) (G 16106 l2) (G 16104 ((4 * l1) + l7)) G (fun r67 G66 => (0 ≤ r67 ∧ r67 ≤ 1) → ((r67 = 0 → PX13_differs 10 l1 l2 (-2) (-2) G66 (fun _ G70 => PX13_compareHeads_242 J l1 l2 l3 l5 l7 G70 Q)) ∧ (¬ (r67 = 0) → PX13_compareHeads_242 J l1 l2 l3 l5 l7 G66 Q))))))))))) ∧ (¬ (l7 < G 16106 l1) → PX13_compareHeads_251 J l1 l2 l3 l5 0 G Q)))))
set_option maxRecDepth 20000 in
theorem TX13_compareHeads_189 {j : Nat → rx_K} {J : Nat → List Int → gS → (Int → gS → Prop) → Prop} {l1 : Int} {l2 : Int} {l3 : Int} {l4 : Nat} {l5 : Int} {l6 : Nat} {l7 : Int} {l8 : Nat} {l9 : Nat} {G : gS} {Q : Int → gS → Prop} (hl1 : inI l1) (hl2 : inI l2) (hl3 : inL l3) (hl4 : l4 % 8 ≠ 1) (hl5 : inL l5) (hl6 : l6 % 8 ≠ 1) (hl7 : inI l7) (hl8 : l8 % 8 ≠ 1) (hl9 : l9 % 8 ≠ 1) (hj0 : ∀ (l1 : Int) (l2 : Int) (l3 : Int) (l4 : Nat) (l5 : Int) (l6 : Nat) (l7 : Int) (l8 : Nat) (l9 : Nat) (G : gS), (inI l1) → (inI l2) → (inL l3) → (l4 % 8 ≠ 1) → (inL l5) → (l6 % 8 ≠ 1) → (inI l7) → (l8 % 8 ≠ 1) → (l9 % 8 ≠ 1) → J 0 [l1, l2, l3, l5, l7] G Q → Tg W0 (j 0) [rf (16081), cI (l1), cI (l2), cL (l3), l4, cL (l5), l6, cI (l7), l8, l9] [] G (fun r G => r = 7 ∧ Q 0 G)) (hj1 : ∀ (l1 : Int) (l2 : Int) (l3 : Int) (l4 : Nat) (l5 : Int) (l6 : Nat) (l7 : Int) (l8 : Nat) (l9 : Nat) (G : gS), (inI l1) → (inI l2) → (inL l3) → (l4 % 8 ≠ 1) → (inL l5) → (l6 % 8 ≠ 1) → (inI l7) → (l8 % 8 ≠ 1) → (l9 % 8 ≠ 1) → J 1 [l1, l2, l3, l5, l7] G Q → Tg W0 (j 1) [rf (16081), cI (l1), cI (l2), cL (l3), l4, cL (l5), l6, cI (l7), l8, l9] [] G (fun r G => r = 7 ∧ Q 0 G)) (hj2 : ∀ (l1 : Int) (l2 : Int) (l3 : Int) (l4 : Nat) (l5 : Int) (l6 : Nat) (l7 : Int) (l8 : Int) (l9 : Int) (G : gS), (inI l1) → (inI l2) → (inL l3) → (l4 % 8 ≠ 1) → (inL l5) → (l6 % 8 ≠ 1) → (inI l7) → (inI l8) → (inI l9) → J 2 [l1, l2, l3, l5, l7, l8, l9] G Q → Tg W0 (j 2) [rf (16081), cI (l1), cI (l2), cL (l3), l4, cL (l5), l6, cI (l7), cI (l8), cI (l9)] [] G (fun r G => r = 7 ∧ Q 0 G)) (h : PX13_compareHeads_189 J l1 l2 l3 l5 l7 G Q) : Tg W0 (vX13_compareHeads_189 j) [rf (16081), cI (l1), cI (l2), cL (l3), l4, cL (l5), l6, cI (l7), l8, l9] [] G (fun r G => r = 7 ∧ Q 0 G) := by
  unfold PX13_compareHeads_189 at h
  unfold vX13_compareHeads_189
  refine g_ld (v := cI _) rfl (is_I _) ?_
  refine g_ld (v := rf _) rfl (is_R _) ?_
  refine g_getF (v := 16106) oC13 (hC13_32) rfl (Nat.le_of_ble_eq_true rfl) (Nat.le_of_ble_eq_true rfl) ?_
  refine g_ld (v := cI _) rfl (is_I _) ?_
  obtain ⟨q55, q56, h⟩ := h
  refine g_aldI aC16106 q55 q56 rfl fun i57 => ?_
  replace h := h i57
  refine g_lt2 hl7 i57 (fun b58 => ?_) (fun b58 => ?_)
  · replace h := h.1 b58
    unfold vX13_compareHeads_200
    refine g_ld (v := rf _) rfl (is_R _) ?_
    refine g_getF (v := 16104) oC13 (hC13_30) rfl (Nat.le_of_ble_eq_true rfl) (Nat.le_of_ble_eq_true rfl) ?_
    refine g_const (v := cI (4)) rfl ?_
    refine g_ld (v := cI _) rfl (is_I _) ?_
    refine g_mul ?_
    refine g_ld (v := rf _) rfl (is_R _) ?_
    refine g_getF (v := 16106) oC13 (hC13_32) rfl (Nat.le_of_ble_eq_true rfl) (Nat.le_of_ble_eq_true rfl) ?_
    refine g_ld (v := cI _) rfl (is_I _) ?_
    obtain ⟨q59, q60, h⟩ := h
    refine g_aldI aC16106 q59 q60 rfl fun i61 => ?_
    replace h := h i61
    refine g_ld (v := rf _) rfl (is_R _) ?_
    refine g_getF (v := 16104) oC13 (hC13_30) rfl (Nat.le_of_ble_eq_true rfl) (Nat.le_of_ble_eq_true rfl) ?_
    refine g_const (v := cI (4)) rfl ?_
    refine g_ld (v := cI _) rfl (is_I _) ?_
    refine g_mul ?_
    refine g_ld (v := cI _) rfl (is_I _) ?_
    refine g_add ?_
    obtain ⟨q62, q63, h⟩ := h
    refine g_aldL aC16104 q62 q63 rfl fun i64 => ?_
    replace h := h i64
    obtain ⟨q65, h⟩ := h
    refine g_callS (As := [_, _, _, _]) (fun _ => rfl) ?_
    refine g_go1 (Nat.le_of_ble_eq_true rfl) (Tn_w (TX13_stands q65 i61 i64 h) fun _ G66 ⟨r67, e, i68, h⟩ => ?_)
    subst e
    refine ⟨n7_I _, ?_⟩
    replace h := h i68
    refine g_eq1 ⟨by omega, by omega⟩ (fun b69 => ?_) (fun b69 => ?_)
    · replace h := h.1 b69
      unfold vX13_compareHeads_230
      refine g_ld (v := rf _) rfl (is_R _) ?_
      refine g_const (v := cI (10)) rfl ?_
      refine g_ld (v := cI _) rfl (is_I _) ?_
      refine g_ld (v := cI _) rfl (is_I _) ?_
      refine g_const (v := cI (-2)) rfl ?_
      refine g_const (v := cI (-2)) rfl ?_
      refine g_callV (As := [_, _, _, _, _]) (ci := 13) oC13 (fun _ => rfl) ?_
      refine g_go0 (Nat.le_of_ble_eq_true rfl) (Tn_w (TX13_differs ⟨by omega, by omega⟩ hl1 hl2 ⟨by omega, by omega⟩ ⟨by omega, by omega⟩ h) fun _ G70 ⟨e, h⟩ => ⟨e, ?_⟩)
      exact TX13_compareHeads_242 hl1 hl2 hl3 hl4 hl5 hl6 hl7 hl8 hl9 hj0 hj1 hj2 h
    · replace h := h.2 b69
      exact TX13_compareHeads_242 hl1 hl2 hl3 hl4 hl5 hl6 hl7 hl8 hl9 hj0 hj1 hj2 h
  · replace h := h.2 b58
    unfold vX13_compareHeads_248
    refine g_const (v := cI (0)) rfl ?_
    refine g_st (lv' := [_, _, _, _, _, _, _, _, _, _]) (is_I _) (Nat.le_of_ble_eq_true rfl) (Or.inr hl6) rfl ?_
    exact TX13_compareHeads_251 hl1 hl2 hl3 hl4 hl5 hl6 ⟨by omega, by omega⟩ hl8 hl9 hj0 hj1 hj2 h
def PX13_compareHeads_186 (J : Nat → List Int → gS → (Int → gS → Prop) → Prop) (l1 : Int) (l2 : Int) (l3 : Int) (l5 : Int) (G : gS) (Q : Int → gS → Prop) : Prop :=
  PX13_compareHeads_189 J l1 l2 l3 l5 0 G Q
set_option maxRecDepth 20000 in
theorem TX13_compareHeads_186 {j : Nat → rx_K} {J : Nat → List Int → gS → (Int → gS → Prop) → Prop} {l1 : Int} {l2 : Int} {l3 : Int} {l4 : Nat} {l5 : Int} {l6 : Nat} {l7 : Nat} {l8 : Nat} {l9 : Nat} {G : gS} {Q : Int → gS → Prop} (hl1 : inI l1) (hl2 : inI l2) (hl3 : inL l3) (hl4 : l4 % 8 ≠ 1) (hl5 : inL l5) (hl6 : l6 % 8 ≠ 1) (hl7 : l7 % 8 ≠ 1) (hl8 : l8 % 8 ≠ 1) (hl9 : l9 % 8 ≠ 1) (hj0 : ∀ (l1 : Int) (l2 : Int) (l3 : Int) (l4 : Nat) (l5 : Int) (l6 : Nat) (l7 : Int) (l8 : Nat) (l9 : Nat) (G : gS), (inI l1) → (inI l2) → (inL l3) → (l4 % 8 ≠ 1) → (inL l5) → (l6 % 8 ≠ 1) → (inI l7) → (l8 % 8 ≠ 1) → (l9 % 8 ≠ 1) → J 0 [l1, l2, l3, l5, l7] G Q → Tg W0 (j 0) [rf (16081), cI (l1), cI (l2), cL (l3), l4, cL (l5), l6, cI (l7), l8, l9] [] G (fun r G => r = 7 ∧ Q 0 G)) (hj1 : ∀ (l1 : Int) (l2 : Int) (l3 : Int) (l4 : Nat) (l5 : Int) (l6 : Nat) (l7 : Int) (l8 : Nat) (l9 : Nat) (G : gS), (inI l1) → (inI l2) → (inL l3) → (l4 % 8 ≠ 1) → (inL l5) → (l6 % 8 ≠ 1) → (inI l7) → (l8 % 8 ≠ 1) → (l9 % 8 ≠ 1) → J 1 [l1, l2, l3, l5, l7] G Q → Tg W0 (j 1) [rf (16081), cI (l1), cI (l2), cL (l3), l4, cL (l5), l6, cI (l7), l8, l9] [] G (fun r G => r = 7 ∧ Q 0 G)) (hj2 : ∀ (l1 : Int) (l2 : Int) (l3 : Int) (l4 : Nat) (l5 : Int) (l6 : Nat) (l7 : Int) (l8 : Int) (l9 : Int) (G : gS), (inI l1) → (inI l2) → (inL l3) → (l4 % 8 ≠ 1) → (inL l5) → (l6 % 8 ≠ 1) → (inI l7) → (inI l8) → (inI l9) → J 2 [l1, l2, l3, l5, l7, l8, l9] G Q → Tg W0 (j 2) [rf (16081), cI (l1), cI (l2), cL (l3), l4, cL (l5), l6, cI (l7), cI (l8), cI (l9)] [] G (fun r G => r = 7 ∧ Q 0 G)) (h : PX13_compareHeads_186 J l1 l2 l3 l5 G Q) : Tg W0 (vX13_compareHeads_186 j) [rf (16081), cI (l1), cI (l2), cL (l3), l4, cL (l5), l6, l7, l8, l9] [] G (fun r G => r = 7 ∧ Q 0 G) := by
  unfold PX13_compareHeads_186 at h
  unfold vX13_compareHeads_186
  refine g_const (v := cI (0)) rfl ?_
  refine g_st (lv' := [_, _, _, _, _, _, _, _, _, _]) (is_I _) (Nat.le_of_ble_eq_true rfl) (Or.inr hl6) rfl ?_
  exact TX13_compareHeads_189 hl1 hl2 hl3 hl4 hl5 hl6 ⟨by omega, by omega⟩ hl8 hl9 hj0 hj1 hj2 h
def PX13_compareHeads_157 (J : Nat → List Int → gS → (Int → gS → Prop) → Prop) (l1 : Int) (l2 : Int) (l3 : Int) (s0 : Int) (G : gS) (Q : Int → gS → Prop) : Prop :=
  PX13_isFace l1 G (fun r49 G48 => (0 ≤ r49 ∧ r49 ≤ 1) → ((r49 = 0 → ((l3 = s0 → PX13_compareHeads_186 J l1 l2 l3 s0 G48 Q) ∧ (¬ (l3 = s0) → PX13_differs 9 l1 l2 (-2) (-2) G48 (fun _ G53 => PX13_compareHeads_186 J l1 l2 l3 s0 G53 Q)))) ∧ (¬ (r49 = 0) → PX13_compareHeads_186 J l1 l2 l3 s0 G48 Q)))
set_option maxRecDepth 20000 in
theorem TX13_compareHeads_157 {j : Nat → rx_K} {J : Nat → List Int → gS → (Int → gS → Prop) → Prop} {l1 : Int} {l2 : Int} {l3 : Int} {l4 : Nat} {l5 : Nat} {l6 : Nat} {l7 : Nat} {l8 : Nat} {l9 : Nat} {s0 : Int} {G : gS} {Q : Int → gS → Prop} (hl1 : inI l1) (hl2 : inI l2) (hl3 : inL l3) (hl4 : l4 % 8 ≠ 1) (hl5 : l5 % 8 ≠ 1) (hl6 : l6 % 8 ≠ 1) (hl7 : l7 % 8 ≠ 1) (hl8 : l8 % 8 ≠ 1) (hl9 : l9 % 8 ≠ 1) (hs0 : inL s0) (hj0 : ∀ (l1 : Int) (l2 : Int) (l3 : Int) (l4 : Nat) (l5 : Int) (l6 : Nat) (l7 : Int) (l8 : Nat) (l9 : Nat) (G : gS), (inI l1) → (inI l2) → (inL l3) → (l4 % 8 ≠ 1) → (inL l5) → (l6 % 8 ≠ 1) → (inI l7) → (l8 % 8 ≠ 1) → (l9 % 8 ≠ 1) → J 0 [l1, l2, l3, l5, l7] G Q → Tg W0 (j 0) [rf (16081), cI (l1), cI (l2), cL (l3), l4, cL (l5), l6, cI (l7), l8, l9] [] G (fun r G => r = 7 ∧ Q 0 G)) (hj1 : ∀ (l1 : Int) (l2 : Int) (l3 : Int) (l4 : Nat) (l5 : Int) (l6 : Nat) (l7 : Int) (l8 : Nat) (l9 : Nat) (G : gS), (inI l1) → (inI l2) → (inL l3) → (l4 % 8 ≠ 1) → (inL l5) → (l6 % 8 ≠ 1) → (inI l7) → (l8 % 8 ≠ 1) → (l9 % 8 ≠ 1) → J 1 [l1, l2, l3, l5, l7] G Q → Tg W0 (j 1) [rf (16081), cI (l1), cI (l2), cL (l3), l4, cL (l5), l6, cI (l7), l8, l9] [] G (fun r G => r = 7 ∧ Q 0 G)) (hj2 : ∀ (l1 : Int) (l2 : Int) (l3 : Int) (l4 : Nat) (l5 : Int) (l6 : Nat) (l7 : Int) (l8 : Int) (l9 : Int) (G : gS), (inI l1) → (inI l2) → (inL l3) → (l4 % 8 ≠ 1) → (inL l5) → (l6 % 8 ≠ 1) → (inI l7) → (inI l8) → (inI l9) → J 2 [l1, l2, l3, l5, l7, l8, l9] G Q → Tg W0 (j 2) [rf (16081), cI (l1), cI (l2), cL (l3), l4, cL (l5), l6, cI (l7), cI (l8), cI (l9)] [] G (fun r G => r = 7 ∧ Q 0 G)) (h : PX13_compareHeads_157 J l1 l2 l3 s0 G Q) : Tg W0 (vX13_compareHeads_157 j) [rf (16081), cI (l1), cI (l2), cL (l3), l4, l5, l6, l7, l8, l9] [cL (s0)] G (fun r G => r = 7 ∧ Q 0 G) := by
  unfold PX13_compareHeads_157 at h
  unfold vX13_compareHeads_157
  refine g_stL (lv' := [_, _, _, _, _, _, _, _, _, _]) (Nat.le_of_ble_eq_true rfl) (Or.inr hl4) rfl ?_
  refine g_ld (v := rf _) rfl (is_R _) ?_
  refine g_ld (v := cI _) rfl (is_I _) ?_
  refine g_callV (As := [_]) (ci := 13) oC13 (fun _ => rfl) ?_
  refine g_go1 (Nat.le_of_ble_eq_true rfl) (Tn_w (TX13_isFace hl1 h) fun _ G48 ⟨r49, e, i50, h⟩ => ?_)
  subst e
  refine ⟨n7_I _, ?_⟩
  replace h := h i50
  refine g_eq1 ⟨by omega, by omega⟩ (fun b51 => ?_) (fun b51 => ?_)
  · replace h := h.1 b51
    unfold vX13_compareHeads_167
    refine g_ld (v := cL _) rfl (is_L _) ?_
    refine g_ld (v := cL _) rfl (is_L _) ?_
    refine g_leq hl3 hs0 (fun b52 => ?_) (fun b52 => ?_)
    · replace h := h.1 b52
      exact TX13_compareHeads_186 hl1 hl2 hl3 hl4 hs0 (show 7 % 8 ≠ 1 by decide) hl7 hl8 hl9 hj0 hj1 hj2 h
    · replace h := h.2 b52
      unfold vX13_compareHeads_174
      refine g_ld (v := rf _) rfl (is_R _) ?_
      refine g_const (v := cI (9)) rfl ?_
      refine g_ld (v := cI _) rfl (is_I _) ?_
      refine g_ld (v := cI _) rfl (is_I _) ?_
      refine g_const (v := cI (-2)) rfl ?_
      refine g_const (v := cI (-2)) rfl ?_
      refine g_callV (As := [_, _, _, _, _]) (ci := 13) oC13 (fun _ => rfl) ?_
      refine g_go0 (Nat.le_of_ble_eq_true rfl) (Tn_w (TX13_differs ⟨by omega, by omega⟩ hl1 hl2 ⟨by omega, by omega⟩ ⟨by omega, by omega⟩ h) fun _ G53 ⟨e, h⟩ => ⟨e, ?_⟩)
      exact TX13_compareHeads_186 hl1 hl2 hl3 hl4 hs0 (show 7 % 8 ≠ 1 by decide) hl7 hl8 hl9 hj0 hj1 hj2 h
  · replace h := h.2 b51
    exact TX13_compareHeads_186 hl1 hl2 hl3 hl4 hs0 (show 7 % 8 ≠ 1 by decide) hl7 hl8 hl9 hj0 hj1 hj2 h
def PX13_compareHeads_133 (J : Nat → List Int → gS → (Int → gS → Prop) → Prop) (l1 : Int) (l2 : Int) (s0 : Int) (G : gS) (Q : Int → gS → Prop) : Prop :=
  ((0 : Int) ≤ l2 ∧ ((l2 : Int) < 216 ∧ (inL (G 16102 l2) → ((G 16102 l2 = 0 → PX13_compareHeads_157 J l1 l2 s0 2305843009220621209 G Q) ∧ (¬ (G 16102 l2 = 0) → ((0 : Int) ≤ l2 ∧ ((l2 : Int) < 216 ∧ (inL (G 16102 l2) → PX13_compareHeads_157 J l1 l2 s0 (G 16102 l2) G Q))))))))
set_option maxRecDepth 20000 in
theorem TX13_compareHeads_133 {j : Nat → rx_K} {J : Nat → List Int → gS → (Int → gS → Prop) → Prop} {l1 : Int} {l2 : Int} {l3 : Nat} {l4 : Nat} {l5 : Nat} {l6 : Nat} {l7 : Nat} {l8 : Nat} {l9 : Nat} {s0 : Int} {G : gS} {Q : Int → gS → Prop} (hl1 : inI l1) (hl2 : inI l2) (hl3 : l3 % 8 ≠ 1) (hl4 : l4 % 8 ≠ 1) (hl5 : l5 % 8 ≠ 1) (hl6 : l6 % 8 ≠ 1) (hl7 : l7 % 8 ≠ 1) (hl8 : l8 % 8 ≠ 1) (hl9 : l9 % 8 ≠ 1) (hs0 : inL s0) (hj0 : ∀ (l1 : Int) (l2 : Int) (l3 : Int) (l4 : Nat) (l5 : Int) (l6 : Nat) (l7 : Int) (l8 : Nat) (l9 : Nat) (G : gS), (inI l1) → (inI l2) → (inL l3) → (l4 % 8 ≠ 1) → (inL l5) → (l6 % 8 ≠ 1) → (inI l7) → (l8 % 8 ≠ 1) → (l9 % 8 ≠ 1) → J 0 [l1, l2, l3, l5, l7] G Q → Tg W0 (j 0) [rf (16081), cI (l1), cI (l2), cL (l3), l4, cL (l5), l6, cI (l7), l8, l9] [] G (fun r G => r = 7 ∧ Q 0 G)) (hj1 : ∀ (l1 : Int) (l2 : Int) (l3 : Int) (l4 : Nat) (l5 : Int) (l6 : Nat) (l7 : Int) (l8 : Nat) (l9 : Nat) (G : gS), (inI l1) → (inI l2) → (inL l3) → (l4 % 8 ≠ 1) → (inL l5) → (l6 % 8 ≠ 1) → (inI l7) → (l8 % 8 ≠ 1) → (l9 % 8 ≠ 1) → J 1 [l1, l2, l3, l5, l7] G Q → Tg W0 (j 1) [rf (16081), cI (l1), cI (l2), cL (l3), l4, cL (l5), l6, cI (l7), l8, l9] [] G (fun r G => r = 7 ∧ Q 0 G)) (hj2 : ∀ (l1 : Int) (l2 : Int) (l3 : Int) (l4 : Nat) (l5 : Int) (l6 : Nat) (l7 : Int) (l8 : Int) (l9 : Int) (G : gS), (inI l1) → (inI l2) → (inL l3) → (l4 % 8 ≠ 1) → (inL l5) → (l6 % 8 ≠ 1) → (inI l7) → (inI l8) → (inI l9) → J 2 [l1, l2, l3, l5, l7, l8, l9] G Q → Tg W0 (j 2) [rf (16081), cI (l1), cI (l2), cL (l3), l4, cL (l5), l6, cI (l7), cI (l8), cI (l9)] [] G (fun r G => r = 7 ∧ Q 0 G)) (h : PX13_compareHeads_133 J l1 l2 s0 G Q) : Tg W0 (vX13_compareHeads_133 j) [rf (16081), cI (l1), cI (l2), l3, l4, l5, l6, l7, l8, l9] [cL (s0)] G (fun r G => r = 7 ∧ Q 0 G) := by
  unfold PX13_compareHeads_133 at h
  unfold vX13_compareHeads_133
  refine g_stL (lv' := [_, _, _, _, _, _, _, _, _, _]) (Nat.le_of_ble_eq_true rfl) (Or.inr (n1_I _)) rfl ?_
  refine g_ld (v := rf _) rfl (is_R _) ?_
  refine g_getF (v := 16102) oC13 (hC13_28) rfl (Nat.le_of_ble_eq_true rfl) (Nat.le_of_ble_eq_true rfl) ?_
  refine g_ld (v := cI _) rfl (is_I _) ?_
  obtain ⟨q41, q42, h⟩ := h
  refine g_aldL aC16102 q41 q42 rfl fun i43 => ?_
  replace h := h i43
  refine g_const (v := cL (0)) rfl ?_
  refine g_leq i43 ⟨by omega, by omega⟩ (fun b44 => ?_) (fun b44 => ?_)
  · replace h := h.1 b44
    unfold vX13_compareHeads_145
    refine g_const (v := cL (2305843009220621209)) rfl ?_
    exact TX13_compareHeads_157 hl1 hl2 hs0 (show 7 % 8 ≠ 1 by decide) hl5 hl6 hl7 hl8 hl9 ⟨by omega, by omega⟩ hj0 hj1 hj2 h
  · replace h := h.2 b44
    unfold vX13_compareHeads_151
    refine g_ld (v := rf _) rfl (is_R _) ?_
    refine g_getF (v := 16102) oC13 (hC13_28) rfl (Nat.le_of_ble_eq_true rfl) (Nat.le_of_ble_eq_true rfl) ?_
    refine g_ld (v := cI _) rfl (is_I _) ?_
    obtain ⟨q45, q46, h⟩ := h
    refine g_aldL aC16102 q45 q46 rfl fun i47 => ?_
    replace h := h i47
    exact TX13_compareHeads_157 hl1 hl2 hs0 (show 7 % 8 ≠ 1 by decide) hl5 hl6 hl7 hl8 hl9 i47 hj0 hj1 hj2 h
def PX13_compareHeads_105 (J : Nat → List Int → gS → (Int → gS → Prop) → Prop) (l1 : Int) (l2 : Int) (s0 : Int) (s1 : Int) (s2 : Int) (s3 : Int) (G : gS) (Q : Int → gS → Prop) : Prop :=
  (isO W0 13 (s0) ∧ PX13_either s1 s2 s3 l1 l2 G (fun _ G32 => ((0 : Int) ≤ l1 ∧ ((l1 : Int) < 216 ∧ (inL (G32 16102 l1) → ((G32 16102 l1 = 0 → PX13_compareHeads_133 J l1 l2 2305843009220621209 G32 Q) ∧ (¬ (G32 16102 l1 = 0) → ((0 : Int) ≤ l1 ∧ ((l1 : Int) < 216 ∧ (inL (G32 16102 l1) → PX13_compareHeads_133 J l1 l2 (G32 16102 l1) G32 Q))))))))))
set_option maxRecDepth 20000 in
theorem TX13_compareHeads_105 {j : Nat → rx_K} {J : Nat → List Int → gS → (Int → gS → Prop) → Prop} {l1 : Int} {l2 : Int} {l3 : Nat} {l4 : Nat} {l5 : Nat} {l6 : Nat} {l7 : Nat} {l8 : Nat} {l9 : Nat} {s0 : Int} {s1 : Int} {s2 : Int} {s3 : Int} {G : gS} {Q : Int → gS → Prop} (hl1 : inI l1) (hl2 : inI l2) (hl3 : l3 % 8 ≠ 1) (hl4 : l4 % 8 ≠ 1) (hl5 : l5 % 8 ≠ 1) (hl6 : l6 % 8 ≠ 1) (hl7 : l7 % 8 ≠ 1) (hl8 : l8 % 8 ≠ 1) (hl9 : l9 % 8 ≠ 1) (hs1 : inI s1) (hs2 : inI s2) (hs3 : inI s3) (hj0 : ∀ (l1 : Int) (l2 : Int) (l3 : Int) (l4 : Nat) (l5 : Int) (l6 : Nat) (l7 : Int) (l8 : Nat) (l9 : Nat) (G : gS), (inI l1) → (inI l2) → (inL l3) → (l4 % 8 ≠ 1) → (inL l5) → (l6 % 8 ≠ 1) → (inI l7) → (l8 % 8 ≠ 1) → (l9 % 8 ≠ 1) → J 0 [l1, l2, l3, l5, l7] G Q → Tg W0 (j 0) [rf (16081), cI (l1), cI (l2), cL (l3), l4, cL (l5), l6, cI (l7), l8, l9] [] G (fun r G => r = 7 ∧ Q 0 G)) (hj1 : ∀ (l1 : Int) (l2 : Int) (l3 : Int) (l4 : Nat) (l5 : Int) (l6 : Nat) (l7 : Int) (l8 : Nat) (l9 : Nat) (G : gS), (inI l1) → (inI l2) → (inL l3) → (l4 % 8 ≠ 1) → (inL l5) → (l6 % 8 ≠ 1) → (inI l7) → (l8 % 8 ≠ 1) → (l9 % 8 ≠ 1) → J 1 [l1, l2, l3, l5, l7] G Q → Tg W0 (j 1) [rf (16081), cI (l1), cI (l2), cL (l3), l4, cL (l5), l6, cI (l7), l8, l9] [] G (fun r G => r = 7 ∧ Q 0 G)) (hj2 : ∀ (l1 : Int) (l2 : Int) (l3 : Int) (l4 : Nat) (l5 : Int) (l6 : Nat) (l7 : Int) (l8 : Int) (l9 : Int) (G : gS), (inI l1) → (inI l2) → (inL l3) → (l4 % 8 ≠ 1) → (inL l5) → (l6 % 8 ≠ 1) → (inI l7) → (inI l8) → (inI l9) → J 2 [l1, l2, l3, l5, l7, l8, l9] G Q → Tg W0 (j 2) [rf (16081), cI (l1), cI (l2), cL (l3), l4, cL (l5), l6, cI (l7), cI (l8), cI (l9)] [] G (fun r G => r = 7 ∧ Q 0 G)) (h : PX13_compareHeads_105 J l1 l2 s0 s1 s2 s3 G Q) : Tg W0 (vX13_compareHeads_105 j) [rf (16081), cI (l1), cI (l2), l3, l4, l5, l6, l7, l8, l9] [cI (s3), cI (s2), cI (s1), rf (s0)] G (fun r G => r = 7 ∧ Q 0 G) := by
  unfold PX13_compareHeads_105 at h
  unfold vX13_compareHeads_105
  refine g_ld (v := cI _) rfl (is_I _) ?_
  refine g_ld (v := cI _) rfl (is_I _) ?_
  obtain ⟨q31, h⟩ := h
  refine g_callV (As := [_, _, _, _, _]) (ci := 13) q31 (fun _ => rfl) ?_
  refine g_go0 (Nat.le_of_ble_eq_true rfl) (Tn_w (Tn_eq (one13 q31) (TX13_either hs1 hs2 hs3 hl1 hl2 h)) fun _ G32 ⟨e, h⟩ => ⟨e, ?_⟩)
  refine g_ld (v := rf _) rfl (is_R _) ?_
  refine g_getF (v := 16102) oC13 (hC13_28) rfl (Nat.le_of_ble_eq_true rfl) (Nat.le_of_ble_eq_true rfl) ?_
  refine g_ld (v := cI _) rfl (is_I _) ?_
  obtain ⟨q34, q35, h⟩ := h
  refine g_aldL aC16102 q34 q35 rfl fun i36 => ?_
  replace h := h i36
  refine g_const (v := cL (0)) rfl ?_
  refine g_leq i36 ⟨by omega, by omega⟩ (fun b37 => ?_) (fun b37 => ?_)
  · replace h := h.1 b37
    unfold vX13_compareHeads_121
    refine g_const (v := cL (2305843009220621209)) rfl ?_
    exact TX13_compareHeads_133 hl1 hl2 hl3 hl4 hl5 hl6 hl7 hl8 hl9 ⟨by omega, by omega⟩ hj0 hj1 hj2 h
  · replace h := h.2 b37
    unfold vX13_compareHeads_127
    refine g_ld (v := rf _) rfl (is_R _) ?_
    refine g_getF (v := 16102) oC13 (hC13_28) rfl (Nat.le_of_ble_eq_true rfl) (Nat.le_of_ble_eq_true rfl) ?_
    refine g_ld (v := cI _) rfl (is_I _) ?_
    obtain ⟨q38, q39, h⟩ := h
    refine g_aldL aC16102 q38 q39 rfl fun i40 => ?_
    replace h := h i40
    exact TX13_compareHeads_133 hl1 hl2 hl3 hl4 hl5 hl6 hl7 hl8 hl9 i40 hj0 hj1 hj2 h
def PX13_compareHeads_90 (J : Nat → List Int → gS → (Int → gS → Prop) → Prop) (l1 : Int) (l2 : Int) (s0 : Int) (s1 : Int) (s2 : Int) (G : gS) (Q : Int → gS → Prop) : Prop :=
  ((0 : Int) ≤ l2 ∧ ((l2 : Int) < 216 ∧ (inI (G 16101 l2) → ((G 16101 l2 = 2 → PX13_compareHeads_105 J l1 l2 s0 s1 s2 1 G Q) ∧ (¬ (G 16101 l2 = 2) → PX13_compareHeads_105 J l1 l2 s0 s1 s2 0 G Q)))))
set_option maxRecDepth 20000 in
theorem TX13_compareHeads_90 {j : Nat → rx_K} {J : Nat → List Int → gS → (Int → gS → Prop) → Prop} {l1 : Int} {l2 : Int} {l3 : Nat} {l4 : Nat} {l5 : Nat} {l6 : Nat} {l7 : Nat} {l8 : Nat} {l9 : Nat} {s0 : Int} {s1 : Int} {s2 : Int} {G : gS} {Q : Int → gS → Prop} (hl1 : inI l1) (hl2 : inI l2) (hl3 : l3 % 8 ≠ 1) (hl4 : l4 % 8 ≠ 1) (hl5 : l5 % 8 ≠ 1) (hl6 : l6 % 8 ≠ 1) (hl7 : l7 % 8 ≠ 1) (hl8 : l8 % 8 ≠ 1) (hl9 : l9 % 8 ≠ 1) (hs1 : inI s1) (hs2 : inI s2) (hj0 : ∀ (l1 : Int) (l2 : Int) (l3 : Int) (l4 : Nat) (l5 : Int) (l6 : Nat) (l7 : Int) (l8 : Nat) (l9 : Nat) (G : gS), (inI l1) → (inI l2) → (inL l3) → (l4 % 8 ≠ 1) → (inL l5) → (l6 % 8 ≠ 1) → (inI l7) → (l8 % 8 ≠ 1) → (l9 % 8 ≠ 1) → J 0 [l1, l2, l3, l5, l7] G Q → Tg W0 (j 0) [rf (16081), cI (l1), cI (l2), cL (l3), l4, cL (l5), l6, cI (l7), l8, l9] [] G (fun r G => r = 7 ∧ Q 0 G)) (hj1 : ∀ (l1 : Int) (l2 : Int) (l3 : Int) (l4 : Nat) (l5 : Int) (l6 : Nat) (l7 : Int) (l8 : Nat) (l9 : Nat) (G : gS), (inI l1) → (inI l2) → (inL l3) → (l4 % 8 ≠ 1) → (inL l5) → (l6 % 8 ≠ 1) → (inI l7) → (l8 % 8 ≠ 1) → (l9 % 8 ≠ 1) → J 1 [l1, l2, l3, l5, l7] G Q → Tg W0 (j 1) [rf (16081), cI (l1), cI (l2), cL (l3), l4, cL (l5), l6, cI (l7), l8, l9] [] G (fun r G => r = 7 ∧ Q 0 G)) (hj2 : ∀ (l1 : Int) (l2 : Int) (l3 : Int) (l4 : Nat) (l5 : Int) (l6 : Nat) (l7 : Int) (l8 : Int) (l9 : Int) (G : gS), (inI l1) → (inI l2) → (inL l3) → (l4 % 8 ≠ 1) → (inL l5) → (l6 % 8 ≠ 1) → (inI l7) → (inI l8) → (inI l9) → J 2 [l1, l2, l3, l5, l7, l8, l9] G Q → Tg W0 (j 2) [rf (16081), cI (l1), cI (l2), cL (l3), l4, cL (l5), l6, cI (l7), cI (l8), cI (l9)] [] G (fun r G => r = 7 ∧ Q 0 G)) (h : PX13_compareHeads_90 J l1 l2 s0 s1 s2 G Q) : Tg W0 (vX13_compareHeads_90 j) [rf (16081), cI (l1), cI (l2), l3, l4, l5, l6, l7, l8, l9] [cI (s2), cI (s1), rf (s0)] G (fun r G => r = 7 ∧ Q 0 G) := by
  unfold PX13_compareHeads_90 at h
  unfold vX13_compareHeads_90
  refine g_ld (v := rf _) rfl (is_R _) ?_
  refine g_getF (v := 16101) oC13 (hC13_27) rfl (Nat.le_of_ble_eq_true rfl) (Nat.le_of_ble_eq_true rfl) ?_
  refine g_ld (v := cI _) rfl (is_I _) ?_
  obtain ⟨q27, q28, h⟩ := h
  refine g_aldI aC16101 q27 q28 rfl fun i29 => ?_
  replace h := h i29
  refine g_const (v := cI (2)) rfl ?_
  refine g_eq2 i29 ⟨by omega, by omega⟩ (fun b30 => ?_) (fun b30 => ?_)
  · replace h := h.1 b30
    unfold vX13_compareHeads_100
    refine g_const (v := cI (1)) rfl ?_
    exact TX13_compareHeads_105 hl1 hl2 hl3 hl4 hl5 hl6 hl7 hl8 hl9 hs1 hs2 ⟨by omega, by omega⟩ hj0 hj1 hj2 h
  · replace h := h.2 b30
    unfold vX13_compareHeads_104
    refine g_const (v := cI (0)) rfl ?_
    exact TX13_compareHeads_105 hl1 hl2 hl3 hl4 hl5 hl6 hl7 hl8 hl9 hs1 hs2 ⟨by omega, by omega⟩ hj0 hj1 hj2 h
def PX13_compareHeads_67 (J : Nat → List Int → gS → (Int → gS → Prop) → Prop) (l1 : Int) (l2 : Int) (s0 : Int) (s1 : Int) (s2 : Int) (s3 : Int) (G : gS) (Q : Int → gS → Prop) : Prop :=
  (isO W0 13 (s0) ∧ PX13_either s1 s2 s3 l1 l2 G (fun _ G21 => ((0 : Int) ≤ l1 ∧ ((l1 : Int) < 216 ∧ (inI (G21 16101 l1) → ((G21 16101 l1 = 2 → PX13_compareHeads_90 J l1 l2 16081 7 1 G21 Q) ∧ (¬ (G21 16101 l1 = 2) → PX13_compareHeads_90 J l1 l2 16081 7 0 G21 Q)))))))
set_option maxRecDepth 20000 in
theorem TX13_compareHeads_67 {j : Nat → rx_K} {J : Nat → List Int → gS → (Int → gS → Prop) → Prop} {l1 : Int} {l2 : Int} {l3 : Nat} {l4 : Nat} {l5 : Nat} {l6 : Nat} {l7 : Nat} {l8 : Nat} {l9 : Nat} {s0 : Int} {s1 : Int} {s2 : Int} {s3 : Int} {G : gS} {Q : Int → gS → Prop} (hl1 : inI l1) (hl2 : inI l2) (hl3 : l3 % 8 ≠ 1) (hl4 : l4 % 8 ≠ 1) (hl5 : l5 % 8 ≠ 1) (hl6 : l6 % 8 ≠ 1) (hl7 : l7 % 8 ≠ 1) (hl8 : l8 % 8 ≠ 1) (hl9 : l9 % 8 ≠ 1) (hs1 : inI s1) (hs2 : inI s2) (hs3 : inI s3) (hj0 : ∀ (l1 : Int) (l2 : Int) (l3 : Int) (l4 : Nat) (l5 : Int) (l6 : Nat) (l7 : Int) (l8 : Nat) (l9 : Nat) (G : gS), (inI l1) → (inI l2) → (inL l3) → (l4 % 8 ≠ 1) → (inL l5) → (l6 % 8 ≠ 1) → (inI l7) → (l8 % 8 ≠ 1) → (l9 % 8 ≠ 1) → J 0 [l1, l2, l3, l5, l7] G Q → Tg W0 (j 0) [rf (16081), cI (l1), cI (l2), cL (l3), l4, cL (l5), l6, cI (l7), l8, l9] [] G (fun r G => r = 7 ∧ Q 0 G)) (hj1 : ∀ (l1 : Int) (l2 : Int) (l3 : Int) (l4 : Nat) (l5 : Int) (l6 : Nat) (l7 : Int) (l8 : Nat) (l9 : Nat) (G : gS), (inI l1) → (inI l2) → (inL l3) → (l4 % 8 ≠ 1) → (inL l5) → (l6 % 8 ≠ 1) → (inI l7) → (l8 % 8 ≠ 1) → (l9 % 8 ≠ 1) → J 1 [l1, l2, l3, l5, l7] G Q → Tg W0 (j 1) [rf (16081), cI (l1), cI (l2), cL (l3), l4, cL (l5), l6, cI (l7), l8, l9] [] G (fun r G => r = 7 ∧ Q 0 G)) (hj2 : ∀ (l1 : Int) (l2 : Int) (l3 : Int) (l4 : Nat) (l5 : Int) (l6 : Nat) (l7 : Int) (l8 : Int) (l9 : Int) (G : gS), (inI l1) → (inI l2) → (inL l3) → (l4 % 8 ≠ 1) → (inL l5) → (l6 % 8 ≠ 1) → (inI l7) → (inI l8) → (inI l9) → J 2 [l1, l2, l3, l5, l7, l8, l9] G Q → Tg W0 (j 2) [rf (16081), cI (l1), cI (l2), cL (l3), l4, cL (l5), l6, cI (l7), cI (l8), cI (l9)] [] G (fun r G => r = 7 ∧ Q 0 G)) (h : PX13_compareHeads_67 J l1 l2 s0 s1 s2 s3 G Q) : Tg W0 (vX13_compareHeads_67 j) [rf (16081), cI (l1), cI (l2), l3, l4, l5, l6, l7, l8, l9] [cI (s3), cI (s2), cI (s1), rf (s0)] G (fun r G => r = 7 ∧ Q 0 G) := by
  unfold PX13_compareHeads_67 at h
  unfold vX13_compareHeads_67
  refine g_ld (v := cI _) rfl (is_I _) ?_
  refine g_ld (v := cI _) rfl (is_I _) ?_
  obtain ⟨q20, h⟩ := h
  refine g_callV (As := [_, _, _, _, _]) (ci := 13) q20 (fun _ => rfl) ?_
  refine g_go0 (Nat.le_of_ble_eq_true rfl) (Tn_w (Tn_eq (one13 q20) (TX13_either hs1 hs2 hs3 hl1 hl2 h)) fun _ G21 ⟨e, h⟩ => ⟨e, ?_⟩)
  refine g_ld (v := rf _) rfl (is_R _) ?_
  refine g_const (v := cI (7)) rfl ?_
  refine g_ld (v := rf _) rfl (is_R _) ?_
  refine g_getF (v := 16101) oC13 (hC13_27) rfl (Nat.le_of_ble_eq_true rfl) (Nat.le_of_ble_eq_true rfl) ?_
  refine g_ld (v := cI _) rfl (is_I _) ?_
  obtain ⟨q23, q24, h⟩ := h
  refine g_aldI aC16101 q23 q24 rfl fun i25 => ?_
  replace h := h i25
  refine g_const (v := cI (2)) rfl ?_
  refine g_eq2 i25 ⟨by omega, by omega⟩ (fun b26 => ?_) (fun b26 => ?_)
  · replace h := h.1 b26
    unfold vX13_compareHeads_85
    refine g_const (v := cI (1)) rfl ?_
    exact TX13_compareHeads_90 hl1 hl2 hl3 hl4 hl5 hl6 hl7 hl8 hl9 ⟨by omega, by omega⟩ ⟨by omega, by omega⟩ hj0 hj1 hj2 h
  · replace h := h.2 b26
    unfold vX13_compareHeads_89
    refine g_const (v := cI (0)) rfl ?_
    exact TX13_compareHeads_90 hl1 hl2 hl3 hl4 hl5 hl6 hl7 hl8 hl9 ⟨by omega, by omega⟩ ⟨by omega, by omega⟩ hj0 hj1 hj2 h
def PX13_compareHeads_52 (J : Nat → List Int → gS → (Int → gS → Prop) → Prop) (l1 : Int) (l2 : Int) (s0 : Int) (s1 : Int) (s2 : Int) (G : gS) (Q : Int → gS → Prop) : Prop :=
  ((0 : Int) ≤ l2 ∧ ((l2 : Int) < 216 ∧ (inI (G 16101 l2) → ((G 16101 l2 = 1 → PX13_compareHeads_67 J l1 l2 s0 s1 s2 1 G Q) ∧ (¬ (G 16101 l2 = 1) → PX13_compareHeads_67 J l1 l2 s0 s1 s2 0 G Q)))))
set_option maxRecDepth 20000 in
theorem TX13_compareHeads_52 {j : Nat → rx_K} {J : Nat → List Int → gS → (Int → gS → Prop) → Prop} {l1 : Int} {l2 : Int} {l3 : Nat} {l4 : Nat} {l5 : Nat} {l6 : Nat} {l7 : Nat} {l8 : Nat} {l9 : Nat} {s0 : Int} {s1 : Int} {s2 : Int} {G : gS} {Q : Int → gS → Prop} (hl1 : inI l1) (hl2 : inI l2) (hl3 : l3 % 8 ≠ 1) (hl4 : l4 % 8 ≠ 1) (hl5 : l5 % 8 ≠ 1) (hl6 : l6 % 8 ≠ 1) (hl7 : l7 % 8 ≠ 1) (hl8 : l8 % 8 ≠ 1) (hl9 : l9 % 8 ≠ 1) (hs1 : inI s1) (hs2 : inI s2) (hj0 : ∀ (l1 : Int) (l2 : Int) (l3 : Int) (l4 : Nat) (l5 : Int) (l6 : Nat) (l7 : Int) (l8 : Nat) (l9 : Nat) (G : gS), (inI l1) → (inI l2) → (inL l3) → (l4 % 8 ≠ 1) → (inL l5) → (l6 % 8 ≠ 1) → (inI l7) → (l8 % 8 ≠ 1) → (l9 % 8 ≠ 1) → J 0 [l1, l2, l3, l5, l7] G Q → Tg W0 (j 0) [rf (16081), cI (l1), cI (l2), cL (l3), l4, cL (l5), l6, cI (l7), l8, l9] [] G (fun r G => r = 7 ∧ Q 0 G)) (hj1 : ∀ (l1 : Int) (l2 : Int) (l3 : Int) (l4 : Nat) (l5 : Int) (l6 : Nat) (l7 : Int) (l8 : Nat) (l9 : Nat) (G : gS), (inI l1) → (inI l2) → (inL l3) → (l4 % 8 ≠ 1) → (inL l5) → (l6 % 8 ≠ 1) → (inI l7) → (l8 % 8 ≠ 1) → (l9 % 8 ≠ 1) → J 1 [l1, l2, l3, l5, l7] G Q → Tg W0 (j 1) [rf (16081), cI (l1), cI (l2), cL (l3), l4, cL (l5), l6, cI (l7), l8, l9] [] G (fun r G => r = 7 ∧ Q 0 G)) (hj2 : ∀ (l1 : Int) (l2 : Int) (l3 : Int) (l4 : Nat) (l5 : Int) (l6 : Nat) (l7 : Int) (l8 : Int) (l9 : Int) (G : gS), (inI l1) → (inI l2) → (inL l3) → (l4 % 8 ≠ 1) → (inL l5) → (l6 % 8 ≠ 1) → (inI l7) → (inI l8) → (inI l9) → J 2 [l1, l2, l3, l5, l7, l8, l9] G Q → Tg W0 (j 2) [rf (16081), cI (l1), cI (l2), cL (l3), l4, cL (l5), l6, cI (l7), cI (l8), cI (l9)] [] G (fun r G => r = 7 ∧ Q 0 G)) (h : PX13_compareHeads_52 J l1 l2 s0 s1 s2 G Q) : Tg W0 (vX13_compareHeads_52 j) [rf (16081), cI (l1), cI (l2), l3, l4, l5, l6, l7, l8, l9] [cI (s2), cI (s1), rf (s0)] G (fun r G => r = 7 ∧ Q 0 G) := by
  unfold PX13_compareHeads_52 at h
  unfold vX13_compareHeads_52
  refine g_ld (v := rf _) rfl (is_R _) ?_
  refine g_getF (v := 16101) oC13 (hC13_27) rfl (Nat.le_of_ble_eq_true rfl) (Nat.le_of_ble_eq_true rfl) ?_
  refine g_ld (v := cI _) rfl (is_I _) ?_
  obtain ⟨q16, q17, h⟩ := h
  refine g_aldI aC16101 q16 q17 rfl fun i18 => ?_
  replace h := h i18
  refine g_const (v := cI (1)) rfl ?_
  refine g_eq2 i18 ⟨by omega, by omega⟩ (fun b19 => ?_) (fun b19 => ?_)
  · replace h := h.1 b19
    unfold vX13_compareHeads_62
    refine g_const (v := cI (1)) rfl ?_
    exact TX13_compareHeads_67 hl1 hl2 hl3 hl4 hl5 hl6 hl7 hl8 hl9 hs1 hs2 ⟨by omega, by omega⟩ hj0 hj1 hj2 h
  · replace h := h.2 b19
    unfold vX13_compareHeads_66
    refine g_const (v := cI (0)) rfl ?_
    exact TX13_compareHeads_67 hl1 hl2 hl3 hl4 hl5 hl6 hl7 hl8 hl9 hs1 hs2 ⟨by omega, by omega⟩ hj0 hj1 hj2 h
def PX13_compareHeads_30 (J : Nat → List Int → gS → (Int → gS → Prop) → Prop) (l1 : Int) (l2 : Int) (s0 : Int) (s1 : Int) (s2 : Int) (s3 : Int) (G : gS) (Q : Int → gS → Prop) : Prop :=
  (isO W0 13 (s0) ∧ PX13_either s1 s2 s3 l1 l2 G (fun _ G10 => ((0 : Int) ≤ l1 ∧ ((l1 : Int) < 216 ∧ (inI (G10 16101 l1) → ((G10 16101 l1 = 1 → PX13_compareHeads_52 J l1 l2 16081 5 1 G10 Q) ∧ (¬ (G10 16101 l1 = 1) → PX13_compareHeads_52 J l1 l2 16081 5 0 G10 Q)))))))
set_option maxRecDepth 20000 in
theorem TX13_compareHeads_30 {j : Nat → rx_K} {J : Nat → List Int → gS → (Int → gS → Prop) → Prop} {l1 : Int} {l2 : Int} {l3 : Nat} {l4 : Nat} {l5 : Nat} {l6 : Nat} {l7 : Nat} {l8 : Nat} {l9 : Nat} {s0 : Int} {s1 : Int} {s2 : Int} {s3 : Int} {G : gS} {Q : Int → gS → Prop} (hl1 : inI l1) (hl2 : inI l2) (hl3 : l3 % 8 ≠ 1) (hl4 : l4 % 8 ≠ 1) (hl5 : l5 % 8 ≠ 1) (hl6 : l6 % 8 ≠ 1) (hl7 : l7 % 8 ≠ 1) (hl8 : l8 % 8 ≠ 1) (hl9 : l9 % 8 ≠ 1) (hs1 : inI s1) (hs2 : inI s2) (hs3 : inI s3) (hj0 : ∀ (l1 : Int) (l2 : Int) (l3 : Int) (l4 : Nat) (l5 : Int) (l6 : Nat) (l7 : Int) (l8 : Nat) (l9 : Nat) (G : gS), (inI l1) → (inI l2) → (inL l3) → (l4 % 8 ≠ 1) → (inL l5) → (l6 % 8 ≠ 1) → (inI l7) → (l8 % 8 ≠ 1) → (l9 % 8 ≠ 1) → J 0 [l1, l2, l3, l5, l7] G Q → Tg W0 (j 0) [rf (16081), cI (l1), cI (l2), cL (l3), l4, cL (l5), l6, cI (l7), l8, l9] [] G (fun r G => r = 7 ∧ Q 0 G)) (hj1 : ∀ (l1 : Int) (l2 : Int) (l3 : Int) (l4 : Nat) (l5 : Int) (l6 : Nat) (l7 : Int) (l8 : Nat) (l9 : Nat) (G : gS), (inI l1) → (inI l2) → (inL l3) → (l4 % 8 ≠ 1) → (inL l5) → (l6 % 8 ≠ 1) → (inI l7) → (l8 % 8 ≠ 1) → (l9 % 8 ≠ 1) → J 1 [l1, l2, l3, l5, l7] G Q → Tg W0 (j 1) [rf (16081), cI (l1), cI (l2), cL (l3), l4, cL (l5), l6, cI (l7), l8, l9] [] G (fun r G => r = 7 ∧ Q 0 G)) (hj2 : ∀ (l1 : Int) (l2 : Int) (l3 : Int) (l4 : Nat) (l5 : Int) (l6 : Nat) (l7 : Int) (l8 : Int) (l9 : Int) (G : gS), (inI l1) → (inI l2) → (inL l3) → (l4 % 8 ≠ 1) → (inL l5) → (l6 % 8 ≠ 1) → (inI l7) → (inI l8) → (inI l9) → J 2 [l1, l2, l3, l5, l7, l8, l9] G Q → Tg W0 (j 2) [rf (16081), cI (l1), cI (l2), cL (l3), l4, cL (l5), l6, cI (l7), cI (l8), cI (l9)] [] G (fun r G => r = 7 ∧ Q 0 G)) (h : PX13_compareHeads_30 J l1 l2 s0 s1 s2 s3 G Q) : Tg W0 (vX13_compareHeads_30 j) [rf (16081), cI (l1), cI (l2), l3, l4, l5, l6, l7, l8, l9] [cI (s3), cI (s2), cI (s1), rf (s0)] G (fun r G => r = 7 ∧ Q 0 G) := by
  unfold PX13_compareHeads_30 at h
  unfold vX13_compareHeads_30
  refine g_ld (v := cI _) rfl (is_I _) ?_
  refine g_ld (v := cI _) rfl (is_I _) ?_
  obtain ⟨q9, h⟩ := h
  refine g_callV (As := [_, _, _, _, _]) (ci := 13) q9 (fun _ => rfl) ?_
  refine g_go0 (Nat.le_of_ble_eq_true rfl) (Tn_w (Tn_eq (one13 q9) (TX13_either hs1 hs2 hs3 hl1 hl2 h)) fun _ G10 ⟨e, h⟩ => ⟨e, ?_⟩)
  refine g_ld (v := rf _) rfl (is_R _) ?_
  refine g_const (v := cI (5)) rfl ?_
  refine g_ld (v := rf _) rfl (is_R _) ?_
  refine g_getF (v := 16101) oC13 (hC13_27) rfl (Nat.le_of_ble_eq_true rfl) (Nat.le_of_ble_eq_true rfl) ?_
  refine g_ld (v := cI _) rfl (is_I _) ?_
  obtain ⟨q12, q13, h⟩ := h
  refine g_aldI aC16101 q12 q13 rfl fun i14 => ?_
  replace h := h i14
  refine g_const (v := cI (1)) rfl ?_
  refine g_eq2 i14 ⟨by omega, by omega⟩ (fun b15 => ?_) (fun b15 => ?_)
  · replace h := h.1 b15
    unfold vX13_compareHeads_47
    refine g_const (v := cI (1)) rfl ?_
    exact TX13_compareHeads_52 hl1 hl2 hl3 hl4 hl5 hl6 hl7 hl8 hl9 ⟨by omega, by omega⟩ ⟨by omega, by omega⟩ hj0 hj1 hj2 h
  · replace h := h.2 b15
    unfold vX13_compareHeads_51
    refine g_const (v := cI (0)) rfl ?_
    exact TX13_compareHeads_52 hl1 hl2 hl3 hl4 hl5 hl6 hl7 hl8 hl9 ⟨by omega, by omega⟩ ⟨by omega, by omega⟩ hj0 hj1 hj2 h
def PX13_compareHeads_16 (J : Nat → List Int → gS → (Int → gS → Prop) → Prop) (l1 : Int) (l2 : Int) (s0 : Int) (s1 : Int) (s2 : Int) (G : gS) (Q : Int → gS → Prop) : Prop :=
  ((0 : Int) ≤ l2 ∧ ((l2 : Int) < 216 ∧ ((0 ≤ G 16100 l2 ∧ G 16100 l2 ≤ 1) → ((G 16100 l2 = 0 → PX13_compareHeads_30 J l1 l2 s0 s1 s2 1 G Q) ∧ (¬ (G 16100 l2 = 0) → PX13_compareHeads_30 J l1 l2 s0 s1 s2 0 G Q)))))
set_option maxRecDepth 20000 in
theorem TX13_compareHeads_16 {j : Nat → rx_K} {J : Nat → List Int → gS → (Int → gS → Prop) → Prop} {l1 : Int} {l2 : Int} {l3 : Nat} {l4 : Nat} {l5 : Nat} {l6 : Nat} {l7 : Nat} {l8 : Nat} {l9 : Nat} {s0 : Int} {s1 : Int} {s2 : Int} {G : gS} {Q : Int → gS → Prop} (hl1 : inI l1) (hl2 : inI l2) (hl3 : l3 % 8 ≠ 1) (hl4 : l4 % 8 ≠ 1) (hl5 : l5 % 8 ≠ 1) (hl6 : l6 % 8 ≠ 1) (hl7 : l7 % 8 ≠ 1) (hl8 : l8 % 8 ≠ 1) (hl9 : l9 % 8 ≠ 1) (hs1 : inI s1) (hs2 : inI s2) (hj0 : ∀ (l1 : Int) (l2 : Int) (l3 : Int) (l4 : Nat) (l5 : Int) (l6 : Nat) (l7 : Int) (l8 : Nat) (l9 : Nat) (G : gS), (inI l1) → (inI l2) → (inL l3) → (l4 % 8 ≠ 1) → (inL l5) → (l6 % 8 ≠ 1) → (inI l7) → (l8 % 8 ≠ 1) → (l9 % 8 ≠ 1) → J 0 [l1, l2, l3, l5, l7] G Q → Tg W0 (j 0) [rf (16081), cI (l1), cI (l2), cL (l3), l4, cL (l5), l6, cI (l7), l8, l9] [] G (fun r G => r = 7 ∧ Q 0 G)) (hj1 : ∀ (l1 : Int) (l2 : Int) (l3 : Int) (l4 : Nat) (l5 : Int) (l6 : Nat) (l7 : Int) (l8 : Nat) (l9 : Nat) (G : gS), (inI l1) → (inI l2) → (inL l3) → (l4 % 8 ≠ 1) → (inL l5) → (l6 % 8 ≠ 1) → (inI l7) → (l8 % 8 ≠ 1) → (l9 % 8 ≠ 1) → J 1 [l1, l2, l3, l5, l7] G Q → Tg W0 (j 1) [rf (16081), cI (l1), cI (l2), cL (l3), l4, cL (l5), l6, cI (l7), l8, l9] [] G (fun r G => r = 7 ∧ Q 0 G)) (hj2 : ∀ (l1 : Int) (l2 : Int) (l3 : Int) (l4 : Nat) (l5 : Int) (l6 : Nat) (l7 : Int) (l8 : Int) (l9 : Int) (G : gS), (inI l1) → (inI l2) → (inL l3) → (l4 % 8 ≠ 1) → (inL l5) → (l6 % 8 ≠ 1) → (inI l7) → (inI l8) → (inI l9) → J 2 [l1, l2, l3, l5, l7, l8, l9] G Q → Tg W0 (j 2) [rf (16081), cI (l1), cI (l2), cL (l3), l4, cL (l5), l6, cI (l7), cI (l8), cI (l9)] [] G (fun r G => r = 7 ∧ Q 0 G)) (h : PX13_compareHeads_16 J l1 l2 s0 s1 s2 G Q) : Tg W0 (vX13_compareHeads_16 j) [rf (16081), cI (l1), cI (l2), l3, l4, l5, l6, l7, l8, l9] [cI (s2), cI (s1), rf (s0)] G (fun r G => r = 7 ∧ Q 0 G) := by
  unfold PX13_compareHeads_16 at h
  unfold vX13_compareHeads_16
  refine g_ld (v := rf _) rfl (is_R _) ?_
  refine g_getF (v := 16100) oC13 (hC13_26) rfl (Nat.le_of_ble_eq_true rfl) (Nat.le_of_ble_eq_true rfl) ?_
  refine g_ld (v := cI _) rfl (is_I _) ?_
  obtain ⟨q5, q6, h⟩ := h
  refine g_aldZ aC16100 q5 q6 rfl fun i7 => ?_
  replace h := h i7
  refine g_eq1 ⟨by omega, by omega⟩ (fun b8 => ?_) (fun b8 => ?_)
  · replace h := h.1 b8
    unfold vX13_compareHeads_25
    refine g_const (v := cI (1)) rfl ?_
    exact TX13_compareHeads_30 hl1 hl2 hl3 hl4 hl5 hl6 hl7 hl8 hl9 hs1 hs2 ⟨by omega, by omega⟩ hj0 hj1 hj2 h
  · replace h := h.2 b8
    unfold vX13_compareHeads_29
    refine g_const (v := cI (0)) rfl ?_
    exact TX13_compareHeads_30 hl1 hl2 hl3 hl4 hl5 hl6 hl7 hl8 hl9 hs1 hs2 ⟨by omega, by omega⟩ hj0 hj1 hj2 h
def PX13_compareHeads_0 (J : Nat → List Int → gS → (Int → gS → Prop) → Prop) (a1 : Int) (a2 : Int) (G : gS) (Q : Int → gS → Prop) : Prop :=
  ((0 : Int) ≤ a1 ∧ ((a1 : Int) < 216 ∧ ((0 ≤ G 16100 a1 ∧ G 16100 a1 ≤ 1) → ((G 16100 a1 = 0 → PX13_compareHeads_16 J a1 a2 16081 3 1 G Q) ∧ (¬ (G 16100 a1 = 0) → PX13_compareHeads_16 J a1 a2 16081 3 0 G Q)))))
set_option maxRecDepth 20000 in
theorem TX13_compareHeads_0 {j : Nat → rx_K} {J : Nat → List Int → gS → (Int → gS → Prop) → Prop} {a1 : Int} {a2 : Int} {G : gS} {Q : Int → gS → Prop} (ha1 : inI a1) (ha2 : inI a2) (hj0 : ∀ (l1 : Int) (l2 : Int) (l3 : Int) (l4 : Nat) (l5 : Int) (l6 : Nat) (l7 : Int) (l8 : Nat) (l9 : Nat) (G : gS), (inI l1) → (inI l2) → (inL l3) → (l4 % 8 ≠ 1) → (inL l5) → (l6 % 8 ≠ 1) → (inI l7) → (l8 % 8 ≠ 1) → (l9 % 8 ≠ 1) → J 0 [l1, l2, l3, l5, l7] G Q → Tg W0 (j 0) [rf (16081), cI (l1), cI (l2), cL (l3), l4, cL (l5), l6, cI (l7), l8, l9] [] G (fun r G => r = 7 ∧ Q 0 G)) (hj1 : ∀ (l1 : Int) (l2 : Int) (l3 : Int) (l4 : Nat) (l5 : Int) (l6 : Nat) (l7 : Int) (l8 : Nat) (l9 : Nat) (G : gS), (inI l1) → (inI l2) → (inL l3) → (l4 % 8 ≠ 1) → (inL l5) → (l6 % 8 ≠ 1) → (inI l7) → (l8 % 8 ≠ 1) → (l9 % 8 ≠ 1) → J 1 [l1, l2, l3, l5, l7] G Q → Tg W0 (j 1) [rf (16081), cI (l1), cI (l2), cL (l3), l4, cL (l5), l6, cI (l7), l8, l9] [] G (fun r G => r = 7 ∧ Q 0 G)) (hj2 : ∀ (l1 : Int) (l2 : Int) (l3 : Int) (l4 : Nat) (l5 : Int) (l6 : Nat) (l7 : Int) (l8 : Int) (l9 : Int) (G : gS), (inI l1) → (inI l2) → (inL l3) → (l4 % 8 ≠ 1) → (inL l5) → (l6 % 8 ≠ 1) → (inI l7) → (inI l8) → (inI l9) → J 2 [l1, l2, l3, l5, l7, l8, l9] G Q → Tg W0 (j 2) [rf (16081), cI (l1), cI (l2), cL (l3), l4, cL (l5), l6, cI (l7), cI (l8), cI (l9)] [] G (fun r G => r = 7 ∧ Q 0 G)) (h : PX13_compareHeads_0 J a1 a2 G Q) : Tg W0 (vX13_compareHeads_0 j) [rf (16081), cI (a1), cI (a2), 7, 7, 7, 7, 7, 7, 7] [] G (fun r G => r = 7 ∧ Q 0 G) := by
  unfold PX13_compareHeads_0 at h
  unfold vX13_compareHeads_0
  refine g_ld (v := rf _) rfl (is_R _) ?_
  refine g_const (v := cI (3)) rfl ?_
  refine g_ld (v := rf _) rfl (is_R _) ?_
  refine g_getF (v := 16100) oC13 (hC13_26) rfl (Nat.le_of_ble_eq_true rfl) (Nat.le_of_ble_eq_true rfl) ?_
  refine g_ld (v := cI _) rfl (is_I _) ?_
  obtain ⟨q1, q2, h⟩ := h
  refine g_aldZ aC16100 q1 q2 rfl fun i3 => ?_
  replace h := h i3
  refine g_eq1 ⟨by omega, by omega⟩ (fun b4 => ?_) (fun b4 => ?_)
  · replace h := h.1 b4
    unfold vX13_compareHeads_11
    refine g_const (v := cI (1)) rfl ?_
    exact TX13_compareHeads_16 ha1 ha2 (show 7 % 8 ≠ 1 by decide) (show 7 % 8 ≠ 1 by decide) (show 7 % 8 ≠ 1 by decide) (show 7 % 8 ≠ 1 by decide) (show 7 % 8 ≠ 1 by decide) (show 7 % 8 ≠ 1 by decide) (show 7 % 8 ≠ 1 by decide) ⟨by omega, by omega⟩ ⟨by omega, by omega⟩ hj0 hj1 hj2 h
  · replace h := h.2 b4
    unfold vX13_compareHeads_15
    refine g_const (v := cI (0)) rfl ?_
    exact TX13_compareHeads_16 ha1 ha2 (show 7 % 8 ≠ 1 by decide) (show 7 % 8 ≠ 1 by decide) (show 7 % 8 ≠ 1 by decide) (show 7 % 8 ≠ 1 by decide) (show 7 % 8 ≠ 1 by decide) (show 7 % 8 ≠ 1 by decide) (show 7 % 8 ≠ 1 by decide) ⟨by omega, by omega⟩ ⟨by omega, by omega⟩ hj0 hj1 hj2 h
def PX13_compareHeads_J : Nat → Nat → List Int → gS → (Int → gS → Prop) → Prop
  | 0, _, _, _, _ => False
  | f + 1, h, L, G, Q => match h, L with
    | 0, [l1, l2, l3, l5, l7] => PX13_compareHeads_189 (PX13_compareHeads_J f) l1 l2 l3 l5 l7 G Q
    | 1, [l1, l2, l3, l5, l7] => PX13_compareHeads_251 (PX13_compareHeads_J f) l1 l2 l3 l5 l7 G Q
    | 2, [l1, l2, l3, l5, l7, l8, l9] => PX13_compareHeads_379 (PX13_compareHeads_J f) l1 l2 l3 l5 l7 l8 l9 G Q
    | _, _ => False
theorem TX13_compareHeads_J {Q : Int → gS → Prop} : ∀ f N : Nat, f ≤ N → (∀ (l1 : Int) (l2 : Int) (l3 : Int) (l4 : Nat) (l5 : Int) (l6 : Nat) (l7 : Int) (l8 : Nat) (l9 : Nat) (G : gS), (inI l1) → (inI l2) → (inL l3) → (l4 % 8 ≠ 1) → (inL l5) → (l6 % 8 ≠ 1) → (inI l7) → (l8 % 8 ≠ 1) → (l9 % 8 ≠ 1) → (PX13_compareHeads_J f) 0 [l1, l2, l3, l5, l7] G Q → Tg W0 (rx_J vhX13_compareHeads N 0) [rf (16081), cI (l1), cI (l2), cL (l3), l4, cL (l5), l6, cI (l7), l8, l9] [] G (fun r G => r = 7 ∧ Q 0 G)) ∧ (∀ (l1 : Int) (l2 : Int) (l3 : Int) (l4 : Nat) (l5 : Int) (l6 : Nat) (l7 : Int) (l8 : Nat) (l9 : Nat) (G : gS), (inI l1) → (inI l2) → (inL l3) → (l4 % 8 ≠ 1) → (inL l5) → (l6 % 8 ≠ 1) → (inI l7) → (l8 % 8 ≠ 1) → (l9 % 8 ≠ 1) → (PX13_compareHeads_J f) 1 [l1, l2, l3, l5, l7] G Q → Tg W0 (rx_J vhX13_compareHeads N 1) [rf (16081), cI (l1), cI (l2), cL (l3), l4, cL (l5), l6, cI (l7), l8, l9] [] G (fun r G => r = 7 ∧ Q 0 G)) ∧ (∀ (l1 : Int) (l2 : Int) (l3 : Int) (l4 : Nat) (l5 : Int) (l6 : Nat) (l7 : Int) (l8 : Int) (l9 : Int) (G : gS), (inI l1) → (inI l2) → (inL l3) → (l4 % 8 ≠ 1) → (inL l5) → (l6 % 8 ≠ 1) → (inI l7) → (inI l8) → (inI l9) → (PX13_compareHeads_J f) 2 [l1, l2, l3, l5, l7, l8, l9] G Q → Tg W0 (rx_J vhX13_compareHeads N 2) [rf (16081), cI (l1), cI (l2), cL (l3), l4, cL (l5), l6, cI (l7), cI (l8), cI (l9)] [] G (fun r G => r = 7 ∧ Q 0 G)) := by
  intro f
  induction f with
  | zero => exact fun N _ => ⟨fun _ _ _ _ _ _ _ _ _ _ _ _ _ _ _ _ _ _ _ h => h.elim, fun _ _ _ _ _ _ _ _ _ _ _ _ _ _ _ _ _ _ _ h => h.elim, fun _ _ _ _ _ _ _ _ _ _ _ _ _ _ _ _ _ _ _ h => h.elim⟩
  | succ f ih =>
    intro N hN
    obtain ⟨M, rfl⟩ : ∃ M, N = M + 1 := ⟨N - 1, by omega⟩
    have ih := ih M (by omega)
    exact ⟨fun _ _ _ _ _ _ _ _ _ _ hl1 hl2 hl3 hl4 hl5 hl6 hl7 hl8 hl9 h => show Tg W0 (vX13_compareHeads_189 (rx_J vhX13_compareHeads M)) _ _ _ _ from TX13_compareHeads_189 hl1 hl2 hl3 hl4 hl5 hl6 hl7 hl8 hl9 ih.1 ih.2.1 ih.2.2 h, fun _ _ _ _ _ _ _ _ _ _ hl1 hl2 hl3 hl4 hl5 hl6 hl7 hl8 hl9 h => show Tg W0 (vX13_compareHeads_251 (rx_J vhX13_compareHeads M)) _ _ _ _ from TX13_compareHeads_251 hl1 hl2 hl3 hl4 hl5 hl6 hl7 hl8 hl9 ih.1 ih.2.1 ih.2.2 h, fun _ _ _ _ _ _ _ _ _ _ hl1 hl2 hl3 hl4 hl5 hl6 hl7 hl8 hl9 h => show Tg W0 (vX13_compareHeads_379 (rx_J vhX13_compareHeads M)) _ _ _ _ from TX13_compareHeads_379 hl1 hl2 hl3 hl4 hl5 hl6 hl7 hl8 hl9 ih.1 ih.2.1 ih.2.2 h⟩
def PX13_compareHeads (a1 : Int) (a2 : Int) (G : gS) (Q : Int → gS → Prop) : Prop := ∃ f : Nat, f ≤ 4000000000 ∧ PX13_compareHeads_0 (PX13_compareHeads_J f) a1 a2 G Q
theorem TX13_compareHeads {a1 : Int} {a2 : Int} {G : gS} {Q : Int → gS → Prop} (ha1 : inI a1) (ha2 : inI a2) (h : PX13_compareHeads a1 a2 G Q) : Tn W0 FX13_compareHeads [rf (16081), cI (a1), cI (a2)] G (fun r G => r = 7 ∧ Q 0 G) := by
  obtain ⟨f, hf, h⟩ := h
  have hJ := TX13_compareHeads_J (Q := Q) f 4000000000 hf
  unfold FX13_compareHeads
  refine g_ent (lv' := [rf (16081), cI (a1), cI (a2), 7, 7, 7, 7, 7, 7, 7]) (flR (flI (flI fl0))) (Nat.le_of_ble_eq_true rfl) rfl ?_
  exact TX13_compareHeads_0 ha1 ha2 hJ.1 hJ.2.1 hJ.2.2 h
def PX13_alike_76 (J : Nat → List Int → gS → (Int → gS → Prop) → Prop) (l1 : Int) (l2 : Int) (l3 : Int) (l4 : Int) (G : gS) (Q : Int → gS → Prop) : Prop :=
  (inI (l3 + 1) ∧ J 0 [l1, l2, l3 + 1] G Q)
set_option maxRecDepth 20000 in
theorem TX13_alike_76 {j : Nat → rx_K} {J : Nat → List Int → gS → (Int → gS → Prop) → Prop} {l1 : Int} {l2 : Int} {l3 : Int} {l4 : Int} {G : gS} {Q : Int → gS → Prop} (hl1 : inI l1) (hl2 : inI l2) (hl3 : inI l3) (hl4 : inI l4) (hj0 : ∀ (l1 : Int) (l2 : Int) (l3 : Int) (l4 : Nat) (G : gS), (inI l1) → (inI l2) → (inI l3) → (l4 % 8 ≠ 1) → J 0 [l1, l2, l3] G Q → Tg W0 (j 0) [rf (16081), cI (l1), cI (l2), cI (l3), l4] [] G (fun r G => ∃ v, r = cI v ∧ inI v ∧ Q v G)) (h : PX13_alike_76 J l1 l2 l3 l4 G Q) : Tg W0 (vX13_alike_76 j) [rf (16081), cI (l1), cI (l2), cI (l3), cI (l4)] [] G (fun r G => ∃ v, r = cI v ∧ inI v ∧ Q v G) := by
  unfold PX13_alike_76 at h
  unfold vX13_alike_76
  refine g_inc (lv' := [_, _, _, _, _]) rfl (Nat.le_of_ble_eq_true rfl) (Or.inr (n1_I _)) rfl ?_
  obtain ⟨q28, h⟩ := h
  exact hj0 _ _ _ _ _ hl1 hl2 q28 (n1_I _) h
def PX13_alike_2 (J : Nat → List Int → gS → (Int → gS → Prop) → Prop) (l1 : Int) (l2 : Int) (l3 : Int) (G : gS) (Q : Int → gS → Prop) : Prop :=
  ((0 : Int) ≤ l1 ∧ ((l1 : Int) < 216 ∧ (inI (G 16115 l1) → ((l3 < G 16115 l1 → (inI ((l1 * 34) + l3) ∧ ((0 : Int) ≤ (l1 * 34) + l3 ∧ (((l1 * 34) + l3 : Int) < 7344 ∧ (inI (G 16116 ((l1 * 34) + l3)) → ((0 : Int) ≤ l2 ∧ ((l2 : Int) < 7344 ∧ (inI (G 16116 l2) → ((G 16116 ((l1 * 34) + l3) = G 16116 l2 → ((0 : Int) ≤ (l1 * 34) + l3 ∧ (((l1 * 34) + l3 : Int) < 7344 ∧ ((0 ≤ G 16123 ((l1 * 34) + l3) ∧ G 16123 ((l1 * 34) + l3) ≤ 1) → ((G 16123 ((l1 * 34) + l3) = 0 → ((0 : Int) ≤ (l1 * 34) + l3 ∧ (((l1 * 34) + l3 : Int) < 7344 ∧ (inL (G 16125 ((l1 * 34) + l3)) → ((0 : Int) ≤ l2 ∧ ((l2 : Int) < 7344 ∧ (inL (G 16125 l2) → ((G 16125 ((l1 * 34) + l3) = G 16125 l2 → PX13_sameParams l2 ((l1 * 34) + l3) G (fun r25 G24 => (0 ≤ r25 ∧ r25 ≤ 1) → ((r25 = 0 → PX13_alike_76 J l1 l2 l3 ((l1 * 34) + l3) G24 Q) ∧ (¬ (r25 = 0) → Q ((l1 * 34) + l3) G24)))) ∧ (¬ (G 16125 ((l1 * 34) + l3) = G 16125 l2) → PX13_alike_76 J l1 l2 l3 ((l1 * 34) + l3) G Q))))))))) ∧ (¬ (G 16123 ((l1 * 34) + l3) = 0) → PX13_alike_76 J l1 l2 l3 ((l1 * 34) + l3) G Q)))))) ∧ (¬ (G 16116 ((l1 * 34) + l3) = G 16116 l2) → PX13_alike_76 J l1 l2 l3 ((l1 * 34) + l3) G Q)))))))))) ∧ (¬ (l3 < G 16115 l1) → Q (-2) G)))))
set_option maxRecDepth 20000 in
theorem TX13_alike_2 {j : Nat → rx_K} {J : Nat → List Int → gS → (Int → gS → Prop) → Prop} {l1 : Int} {l2 : Int} {l3 : Int} {l4 : Nat} {G : gS} {Q : Int → gS → Prop} (hl1 : inI l1) (hl2 : inI l2) (hl3 : inI l3) (hl4 : l4 % 8 ≠ 1) (hj0 : ∀ (l1 : Int) (l2 : Int) (l3 : Int) (l4 : Nat) (G : gS), (inI l1) → (inI l2) → (inI l3) → (l4 % 8 ≠ 1) → J 0 [l1, l2, l3] G Q → Tg W0 (j 0) [rf (16081), cI (l1), cI (l2), cI (l3), l4] [] G (fun r G => ∃ v, r = cI v ∧ inI v ∧ Q v G)) (h : PX13_alike_2 J l1 l2 l3 G Q) : Tg W0 (vX13_alike_2 j) [rf (16081), cI (l1), cI (l2), cI (l3), l4] [] G (fun r G => ∃ v, r = cI v ∧ inI v ∧ Q v G) := by
  unfold PX13_alike_2 at h
  unfold vX13_alike_2
  refine g_ld (v := cI _) rfl (is_I _) ?_
  refine g_ld (v := rf _) rfl (is_R _) ?_
  refine g_getF (v := 16115) oC13 (hC13_41) rfl (Nat.le_of_ble_eq_true rfl) (Nat.le_of_ble_eq_true rfl) ?_
  refine g_ld (v := cI _) rfl (is_I _) ?_
  obtain ⟨q1, q2, h⟩ := h
  refine g_aldI aC16115 q1 q2 rfl fun i3 => ?_
  replace h := h i3
  refine g_lt2 hl3 i3 (fun b4 => ?_) (fun b4 => ?_)
  · replace h := h.1 b4
    unfold vX13_alike_12
    refine g_ld (v := cI _) rfl (is_I _) ?_
    refine g_const (v := cI (34)) rfl ?_
    refine g_mul ?_
    refine g_ld (v := cI _) rfl (is_I _) ?_
    refine g_add ?_
    refine g_st (lv' := [_, _, _, _, _]) (is_I _) (Nat.le_of_ble_eq_true rfl) (Or.inr (n1_I _)) rfl ?_
    obtain ⟨q5, h⟩ := h
    refine g_ld (v := rf _) rfl (is_R _) ?_
    refine g_getF (v := 16116) oC13 (hC13_42) rfl (Nat.le_of_ble_eq_true rfl) (Nat.le_of_ble_eq_true rfl) ?_
    refine g_ld (v := cI _) rfl (is_I _) ?_
    obtain ⟨q6, q7, h⟩ := h
    refine g_aldI aC16116 q6 q7 rfl fun i8 => ?_
    replace h := h i8
    refine g_ld (v := rf _) rfl (is_R _) ?_
    refine g_getF (v := 16116) oC13 (hC13_42) rfl (Nat.le_of_ble_eq_true rfl) (Nat.le_of_ble_eq_true rfl) ?_
    refine g_ld (v := cI _) rfl (is_I _) ?_
    obtain ⟨q9, q10, h⟩ := h
    refine g_aldI aC16116 q9 q10 rfl fun i11 => ?_
    replace h := h i11
    refine g_eq2 i8 i11 (fun b12 => ?_) (fun b12 => ?_)
    · replace h := h.1 b12
      unfold vX13_alike_36
      refine g_ld (v := rf _) rfl (is_R _) ?_
      refine g_getF (v := 16123) oC13 (hC13_49) rfl (Nat.le_of_ble_eq_true rfl) (Nat.le_of_ble_eq_true rfl) ?_
      refine g_ld (v := cI _) rfl (is_I _) ?_
      obtain ⟨q13, q14, h⟩ := h
      refine g_aldZ aC16123 q13 q14 rfl fun i15 => ?_
      replace h := h i15
      refine g_eq1 ⟨by omega, by omega⟩ (fun b16 => ?_) (fun b16 => ?_)
      · replace h := h.1 b16
        unfold vX13_alike_46
        refine g_ld (v := rf _) rfl (is_R _) ?_
        refine g_getF (v := 16125) oC13 (hC13_51) rfl (Nat.le_of_ble_eq_true rfl) (Nat.le_of_ble_eq_true rfl) ?_
        refine g_ld (v := cI _) rfl (is_I _) ?_
        obtain ⟨q17, q18, h⟩ := h
        refine g_aldL aC16125 q17 q18 rfl fun i19 => ?_
        replace h := h i19
        refine g_ld (v := rf _) rfl (is_R _) ?_
        refine g_getF (v := 16125) oC13 (hC13_51) rfl (Nat.le_of_ble_eq_true rfl) (Nat.le_of_ble_eq_true rfl) ?_
        refine g_ld (v := cI _) rfl (is_I _) ?_
        obtain ⟨q20, q21, h⟩ := h
        refine g_aldL aC16125 q20 q21 rfl fun i22 => ?_
        replace h := h i22
        refine g_leq i19 i22 (fun b23 => ?_) (fun b23 => ?_)
        · replace h := h.1 b23
          unfold vX13_alike_63
          refine g_ld (v := rf _) rfl (is_R _) ?_
          refine g_ld (v := cI _) rfl (is_I _) ?_
          refine g_ld (v := cI _) rfl (is_I _) ?_
          refine g_callV (As := [_, _]) (ci := 13) oC13 (fun _ => rfl) ?_
          refine g_go1 (Nat.le_of_ble_eq_true rfl) (Tn_w (TX13_sameParams hl2 q5 h) fun _ G24 ⟨r25, e, i26, h⟩ => ?_)
          subst e
          refine ⟨n7_I _, ?_⟩
          replace h := h i26
          refine g_eq1 ⟨by omega, by omega⟩ (fun b27 => ?_) (fun b27 => ?_)
          · replace h := h.1 b27
            exact TX13_alike_76 hl1 hl2 hl3 q5 hj0 h
          · replace h := h.2 b27
            unfold vX13_alike_73
            refine g_ld (v := cI _) rfl (is_I _) ?_
            exact g_ret1 (is_I _) ⟨_, rfl, q5, h⟩
        · replace h := h.2 b23
          exact TX13_alike_76 hl1 hl2 hl3 q5 hj0 h
      · replace h := h.2 b16
        exact TX13_alike_76 hl1 hl2 hl3 q5 hj0 h
    · replace h := h.2 b12
      exact TX13_alike_76 hl1 hl2 hl3 q5 hj0 h
  · replace h := h.2 b4
    unfold vX13_alike_82
    refine g_const (v := cI (-2)) rfl ?_
    exact g_ret1 (is_I _) ⟨_, rfl, ⟨by omega, by omega⟩, h⟩
def PX13_alike_0 (J : Nat → List Int → gS → (Int → gS → Prop) → Prop) (a1 : Int) (a2 : Int) (G : gS) (Q : Int → gS → Prop) : Prop :=
  PX13_alike_2 J a1 a2 0 G Q
set_option maxRecDepth 20000 in
theorem TX13_alike_0 {j : Nat → rx_K} {J : Nat → List Int → gS → (Int → gS → Prop) → Prop} {a1 : Int} {a2 : Int} {G : gS} {Q : Int → gS → Prop} (ha1 : inI a1) (ha2 : inI a2) (hj0 : ∀ (l1 : Int) (l2 : Int) (l3 : Int) (l4 : Nat) (G : gS), (inI l1) → (inI l2) → (inI l3) → (l4 % 8 ≠ 1) → J 0 [l1, l2, l3] G Q → Tg W0 (j 0) [rf (16081), cI (l1), cI (l2), cI (l3), l4] [] G (fun r G => ∃ v, r = cI v ∧ inI v ∧ Q v G)) (h : PX13_alike_0 J a1 a2 G Q) : Tg W0 (vX13_alike_0 j) [rf (16081), cI (a1), cI (a2), 7, 7] [] G (fun r G => ∃ v, r = cI v ∧ inI v ∧ Q v G) := by
  unfold PX13_alike_0 at h
  unfold vX13_alike_0
  refine g_const (v := cI (0)) rfl ?_
  refine g_st (lv' := [_, _, _, _, _]) (is_I _) (Nat.le_of_ble_eq_true rfl) (Or.inr (n1_I _)) rfl ?_
  exact TX13_alike_2 ha1 ha2 ⟨by omega, by omega⟩ (show 7 % 8 ≠ 1 by decide) hj0 h
def PX13_alike_J : Nat → Nat → List Int → gS → (Int → gS → Prop) → Prop
  | 0, _, _, _, _ => False
  | f + 1, h, L, G, Q => match h, L with
    | 0, [l1, l2, l3] => PX13_alike_2 (PX13_alike_J f) l1 l2 l3 G Q
    | _, _ => False
theorem TX13_alike_J {Q : Int → gS → Prop} : ∀ f N : Nat, f ≤ N → (∀ (l1 : Int) (l2 : Int) (l3 : Int) (l4 : Nat) (G : gS), (inI l1) → (inI l2) → (inI l3) → (l4 % 8 ≠ 1) → (PX13_alike_J f) 0 [l1, l2, l3] G Q → Tg W0 (rx_J vhX13_alike N 0) [rf (16081), cI (l1), cI (l2), cI (l3), l4] [] G (fun r G => ∃ v, r = cI v ∧ inI v ∧ Q v G)) := by
  intro f
  induction f with
  | zero => exact fun N _ => fun _ _ _ _ _ _ _ _ _ h => h.elim
  | succ f ih =>
    intro N hN
    obtain ⟨M, rfl⟩ : ∃ M, N = M + 1 := ⟨N - 1, by omega⟩
    have ih := ih M (by omega)
    exact fun _ _ _ _ _ hl1 hl2 hl3 hl4 h => show Tg W0 (vX13_alike_2 (rx_J vhX13_alike M)) _ _ _ _ from TX13_alike_2 hl1 hl2 hl3 hl4 ih h
def PX13_alike (a1 : Int) (a2 : Int) (G : gS) (Q : Int → gS → Prop) : Prop := ∃ f : Nat, f ≤ 4000000000 ∧ PX13_alike_0 (PX13_alike_J f) a1 a2 G Q
theorem TX13_alike {a1 : Int} {a2 : Int} {G : gS} {Q : Int → gS → Prop} (ha1 : inI a1) (ha2 : inI a2) (h : PX13_alike a1 a2 G Q) : Tn W0 FX13_alike [rf (16081), cI (a1), cI (a2)] G (fun r G => ∃ v, r = cI v ∧ inI v ∧ Q v G) := by
  obtain ⟨f, hf, h⟩ := h
  have hJ := TX13_alike_J (Q := Q) f 4000000000 hf
  unfold FX13_alike
  refine g_ent (lv' := [rf (16081), cI (a1), cI (a2), 7, 7]) (flR (flI (flI fl0))) (Nat.le_of_ble_eq_true rfl) rfl ?_
  exact TX13_alike_0 ha1 ha2 hJ h
def PX13_sameToken_80 (l1 : Int) (l2 : Int) (s0 : Int) (G : gS) (Q : Int → gS → Prop) : Prop :=
  ((0 ≤ s0 ∧ s0 ≤ 1) ∧ Q (s0) G)
set_option maxRecDepth 20000 in
theorem TX13_sameToken_80 {l1 : Int} {l2 : Int} {s0 : Int} {G : gS} {Q : Int → gS → Prop} (hl1 : inI l1) (hl2 : inI l2) (hs0 : inI s0) (h : PX13_sameToken_80 l1 l2 s0 G Q) : Tg W0 vX13_sameToken_80 [rf (16081), cI (l1), cI (l2)] [cI (s0)] G (fun r G => ∃ v, r = cI v ∧ (0 ≤ v ∧ v ≤ 1) ∧ Q v G) := by
  unfold PX13_sameToken_80 at h
  unfold vX13_sameToken_80
  obtain ⟨q37, h⟩ := h
  exact g_ret1 (is_Z q37) ⟨_, rfl, q37, h⟩
def PX13_sameToken_79 (l1 : Int) (l2 : Int) (G : gS) (Q : Int → gS → Prop) : Prop :=
  PX13_sameToken_80 l1 l2 0 G Q
set_option maxRecDepth 20000 in
theorem TX13_sameToken_79 {l1 : Int} {l2 : Int} {G : gS} {Q : Int → gS → Prop} (hl1 : inI l1) (hl2 : inI l2) (h : PX13_sameToken_79 l1 l2 G Q) : Tg W0 vX13_sameToken_79 [rf (16081), cI (l1), cI (l2)] [] G (fun r G => ∃ v, r = cI v ∧ (0 ≤ v ∧ v ≤ 1) ∧ Q v G) := by
  unfold PX13_sameToken_79 at h
  unfold vX13_sameToken_79
  refine g_const (v := cI (0)) rfl ?_
  exact TX13_sameToken_80 hl1 hl2 ⟨by omega, by omega⟩ h
def PX13_sameToken_0 (a1 : Int) (a2 : Int) (G : gS) (Q : Int → gS → Prop) : Prop :=
  ((0 : Int) ≤ a1 ∧ ((a1 : Int) < 12636 ∧ (inI (G 16090 a1) → ((0 : Int) ≤ a2 ∧ ((a2 : Int) < 12636 ∧ (inI (G 16090 a2) → ((G 16090 a1 = G 16090 a2 → ((0 : Int) ≤ a1 ∧ ((a1 : Int) < 12636 ∧ (inL (G 16093 a1) → ((0 : Int) ≤ a2 ∧ ((a2 : Int) < 12636 ∧ (inL (G 16093 a2) → ((G 16093 a1 = G 16093 a2 → ((0 : Int) ≤ a1 ∧ ((a1 : Int) < 12636 ∧ (inI (G 16094 a1) → ((0 : Int) ≤ a2 ∧ ((a2 : Int) < 12636 ∧ (inI (G 16094 a2) → ((G 16094 a1 = G 16094 a2 → ((0 : Int) ≤ a1 ∧ ((a1 : Int) < 12636 ∧ (inI (G 16092 a1) → ((0 : Int) ≤ a1 ∧ ((a1 : Int) < 12636 ∧ (inI (G 16091 a1) → ((0 : Int) ≤ a2 ∧ ((a2 : Int) < 12636 ∧ (inI (G 16092 a2) → ((0 : Int) ≤ a2 ∧ ((a2 : Int) < 12636 ∧ (inI (G 16091 a2) → (inI ((G 16092 a1) - (G 16091 a1)) ∧ (inI ((G 16092 a2) - (G 16091 a2)) ∧ (((G 16092 a1) - (G 16091 a1) = (G 16092 a2) - (G 16091 a2) → PX13_sameToken_80 a1 a2 1 G Q) ∧ (¬ ((G 16092 a1) - (G 16091 a1) = (G 16092 a2) - (G 16091 a2)) → PX13_sameToken_79 a1 a2 G Q))))))))))))))))) ∧ (¬ (G 16094 a1 = G 16094 a2) → PX13_sameToken_79 a1 a2 G Q))))))))) ∧ (¬ (G 16093 a1 = G 16093 a2) → PX13_sameToken_79 a1 a2 G Q))))))))) ∧ (¬ (G 16090 a1 = G 16090 a2) → PX13_sameToken_79 a1 a2 G Q))))))))
set_option maxRecDepth 20000 in
theorem TX13_sameToken_0 {a1 : Int} {a2 : Int} {G : gS} {Q : Int → gS → Prop} (ha1 : inI a1) (ha2 : inI a2) (h : PX13_sameToken_0 a1 a2 G Q) : Tg W0 vX13_sameToken_0 [rf (16081), cI (a1), cI (a2)] [] G (fun r G => ∃ v, r = cI v ∧ (0 ≤ v ∧ v ≤ 1) ∧ Q v G) := by
  unfold PX13_sameToken_0 at h
  unfold vX13_sameToken_0
  refine g_ld (v := rf _) rfl (is_R _) ?_
  refine g_getF (v := 16090) oC13 (hC13_11) rfl (Nat.le_of_ble_eq_true rfl) (Nat.le_of_ble_eq_true rfl) ?_
  refine g_ld (v := cI _) rfl (is_I _) ?_
  obtain ⟨q1, q2, h⟩ := h
  refine g_aldI aC16090 q1 q2 rfl fun i3 => ?_
  replace h := h i3
  refine g_ld (v := rf _) rfl (is_R _) ?_
  refine g_getF (v := 16090) oC13 (hC13_11) rfl (Nat.le_of_ble_eq_true rfl) (Nat.le_of_ble_eq_true rfl) ?_
  refine g_ld (v := cI _) rfl (is_I _) ?_
  obtain ⟨q4, q5, h⟩ := h
  refine g_aldI aC16090 q4 q5 rfl fun i6 => ?_
  replace h := h i6
  refine g_eq2 i3 i6 (fun b7 => ?_) (fun b7 => ?_)
  · replace h := h.1 b7
    unfold vX13_sameToken_15
    refine g_ld (v := rf _) rfl (is_R _) ?_
    refine g_getF (v := 16093) oC13 (hC13_14) rfl (Nat.le_of_ble_eq_true rfl) (Nat.le_of_ble_eq_true rfl) ?_
    refine g_ld (v := cI _) rfl (is_I _) ?_
    obtain ⟨q8, q9, h⟩ := h
    refine g_aldL aC16093 q8 q9 rfl fun i10 => ?_
    replace h := h i10
    refine g_ld (v := rf _) rfl (is_R _) ?_
    refine g_getF (v := 16093) oC13 (hC13_14) rfl (Nat.le_of_ble_eq_true rfl) (Nat.le_of_ble_eq_true rfl) ?_
    refine g_ld (v := cI _) rfl (is_I _) ?_
    obtain ⟨q11, q12, h⟩ := h
    refine g_aldL aC16093 q11 q12 rfl fun i13 => ?_
    replace h := h i13
    refine g_leq i10 i13 (fun b14 => ?_) (fun b14 => ?_)
    · replace h := h.1 b14
      unfold vX13_sameToken_31
      refine g_ld (v := rf _) rfl (is_R _) ?_
      refine g_getF (v := 16094) oC13 (hC13_15) rfl (Nat.le_of_ble_eq_true rfl) (Nat.le_of_ble_eq_true rfl) ?_
      refine g_ld (v := cI _) rfl (is_I _) ?_
      obtain ⟨q15, q16, h⟩ := h
      refine g_aldI aC16094 q15 q16 rfl fun i17 => ?_
      replace h := h i17
      refine g_ld (v := rf _) rfl (is_R _) ?_
      refine g_getF (v := 16094) oC13 (hC13_15) rfl (Nat.le_of_ble_eq_true rfl) (Nat.le_of_ble_eq_true rfl) ?_
      refine g_ld (v := cI _) rfl (is_I _) ?_
      obtain ⟨q18, q19, h⟩ := h
      refine g_aldI aC16094 q18 q19 rfl fun i20 => ?_
      replace h := h i20
      refine g_eq2 i17 i20 (fun b21 => ?_) (fun b21 => ?_)
      · replace h := h.1 b21
        unfold vX13_sameToken_46
        refine g_ld (v := rf _) rfl (is_R _) ?_
        refine g_getF (v := 16092) oC13 (hC13_13) rfl (Nat.le_of_ble_eq_true rfl) (Nat.le_of_ble_eq_true rfl) ?_
        refine g_ld (v := cI _) rfl (is_I _) ?_
        obtain ⟨q22, q23, h⟩ := h
        refine g_aldI aC16092 q22 q23 rfl fun i24 => ?_
        replace h := h i24
        refine g_ld (v := rf _) rfl (is_R _) ?_
        refine g_getF (v := 16091) oC13 (hC13_12) rfl (Nat.le_of_ble_eq_true rfl) (Nat.le_of_ble_eq_true rfl) ?_
        refine g_ld (v := cI _) rfl (is_I _) ?_
        obtain ⟨q25, q26, h⟩ := h
        refine g_aldI aC16091 q25 q26 rfl fun i27 => ?_
        replace h := h i27
        refine g_sub ?_
        refine g_ld (v := rf _) rfl (is_R _) ?_
        refine g_getF (v := 16092) oC13 (hC13_13) rfl (Nat.le_of_ble_eq_true rfl) (Nat.le_of_ble_eq_true rfl) ?_
        refine g_ld (v := cI _) rfl (is_I _) ?_
        obtain ⟨q28, q29, h⟩ := h
        refine g_aldI aC16092 q28 q29 rfl fun i30 => ?_
        replace h := h i30
        refine g_ld (v := rf _) rfl (is_R _) ?_
        refine g_getF (v := 16091) oC13 (hC13_12) rfl (Nat.le_of_ble_eq_true rfl) (Nat.le_of_ble_eq_true rfl) ?_
        refine g_ld (v := cI _) rfl (is_I _) ?_
        obtain ⟨q31, q32, h⟩ := h
        refine g_aldI aC16091 q31 q32 rfl fun i33 => ?_
        replace h := h i33
        refine g_sub ?_
        obtain ⟨q34, h⟩ := h
        obtain ⟨q35, h⟩ := h
        refine g_eq2 q34 q35 (fun b36 => ?_) (fun b36 => ?_)
        · replace h := h.1 b36
          unfold vX13_sameToken_75
          refine g_const (v := cI (1)) rfl ?_
          exact TX13_sameToken_80 ha1 ha2 ⟨by omega, by omega⟩ h
        · replace h := h.2 b36
          exact TX13_sameToken_79 ha1 ha2 h
      · replace h := h.2 b21
        exact TX13_sameToken_79 ha1 ha2 h
    · replace h := h.2 b14
      exact TX13_sameToken_79 ha1 ha2 h
  · replace h := h.2 b7
    exact TX13_sameToken_79 ha1 ha2 h
abbrev PX13_sameToken (a1 : Int) (a2 : Int) (G : gS) (Q : Int → gS → Prop) : Prop := PX13_sameToken_0 a1 a2 G Q
theorem TX13_sameToken {a1 : Int} {a2 : Int} {G : gS} {Q : Int → gS → Prop} (ha1 : inI a1) (ha2 : inI a2) (h : PX13_sameToken a1 a2 G Q) : Tn W0 FX13_sameToken [rf (16081), cI (a1), cI (a2)] G (fun r G => ∃ v, r = cI v ∧ (0 ≤ v ∧ v ≤ 1) ∧ Q v G) := by
  unfold FX13_sameToken
  refine g_ent (lv' := [rf (16081), cI (a1), cI (a2)]) (flR (flI (flI fl0))) (Nat.le_of_ble_eq_true rfl) rfl ?_
  exact TX13_sameToken_0 ha1 ha2 h
end DE

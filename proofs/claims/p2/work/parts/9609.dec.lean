section DE
def PX11_mostSpecial_281 (J : Nat → List Int → gS → (Int → gS → Prop) → Prop) (o : Int) (l1 : Int) (l2 : Int) (l3 : Int) (l4 : Int) (l5 : Int) (l7 : Int) (l8 : Int) (l9 : Int) (l10 : Int) (G : gS) (Q : Int → gS → Prop) : Prop :=
  (inI (l8 + 1) ∧ J 2 [o, l1, l2, l3, l4, l5, l7, l8 + 1] G Q)
set_option maxRecDepth 20000 in
theorem TX11_mostSpecial_281 {j : Nat → rx_K} {J : Nat → List Int → gS → (Int → gS → Prop) → Prop} {o : Int} {l1 : Int} {l2 : Int} {l3 : Int} {l4 : Int} {l5 : Int} {l6 : Nat} {l7 : Int} {l8 : Int} {l9 : Int} {l10 : Int} {G : gS} {Q : Int → gS → Prop} (hl1 : inI l1) (hl3 : inI l3) (hl4 : inI l4) (hl5 : inL l5) (hl6 : l6 % 8 ≠ 1) (hl7 : inI l7) (hl8 : inI l8) (hl9 : inI l9) (hl10 : inI l10) (hj0 : ∀ (o : Int) (l1 : Int) (l2 : Int) (l3 : Int) (l4 : Int) (l5 : Int) (l6 : Nat) (l7 : Int) (l8 : Nat) (l9 : Nat) (l10 : Nat) (G : gS), (inI l1) → (inI l3) → (inI l4) → (inL l5) → (l6 % 8 ≠ 1) → (inI l7) → (l8 % 8 ≠ 1) → (l9 % 8 ≠ 1) → (l10 % 8 ≠ 1) → J 0 [o, l1, l2, l3, l4, l5, l7] G Q → Tg W0 (j 0) [rf (o), cI (l1), rf (l2), cI (l3), cI (l4), cL (l5), l6, cI (l7), l8, l9, l10] [] G (fun r G => ∃ v, r = cI v ∧ inI v ∧ Q v G)) (hj1 : ∀ (o : Int) (l1 : Int) (l2 : Int) (l3 : Int) (l4 : Int) (l5 : Int) (l6 : Nat) (l7 : Int) (l8 : Nat) (l9 : Nat) (l10 : Nat) (G : gS), (inI l1) → (inI l3) → (inI l4) → (inL l5) → (l6 % 8 ≠ 1) → (inI l7) → (l8 % 8 ≠ 1) → (l9 % 8 ≠ 1) → (l10 % 8 ≠ 1) → J 1 [o, l1, l2, l3, l4, l5, l7] G Q → Tg W0 (j 1) [rf (o), cI (l1), rf (l2), cI (l3), cI (l4), cL (l5), l6, cI (l7), l8, l9, l10] [] G (fun r G => ∃ v, r = cI v ∧ inI v ∧ Q v G)) (hj2 : ∀ (o : Int) (l1 : Int) (l2 : Int) (l3 : Int) (l4 : Int) (l5 : Int) (l6 : Nat) (l7 : Int) (l8 : Int) (l9 : Nat) (l10 : Nat) (G : gS), (inI l1) → (inI l3) → (inI l4) → (inL l5) → (l6 % 8 ≠ 1) → (inI l7) → (inI l8) → (l9 % 8 ≠ 1) → (l10 % 8 ≠ 1) → J 2 [o, l1, l2, l3, l4, l5, l7, l8] G Q → Tg W0 (j 2) [rf (o), cI (l1), rf (l2), cI (l3), cI (l4), cL (l5), l6, cI (l7), cI (l8), l9, l10] [] G (fun r G => ∃ v, r = cI v ∧ inI v ∧ Q v G)) (hj3 : ∀ (o : Int) (l1 : Int) (l2 : Int) (l3 : Int) (l4 : Int) (l5 : Int) (l6 : Nat) (l7 : Int) (l8 : Int) (l9 : Int) (l10 : Int) (G : gS), (inI l1) → (inI l3) → (inI l4) → (inL l5) → (l6 % 8 ≠ 1) → (inI l7) → (inI l8) → (inI l9) → (inI l10) → J 3 [o, l1, l2, l3, l4, l5, l7, l8, l9, l10] G Q → Tg W0 (j 3) [rf (o), cI (l1), rf (l2), cI (l3), cI (l4), cL (l5), l6, cI (l7), cI (l8), cI (l9), cI (l10)] [] G (fun r G => ∃ v, r = cI v ∧ inI v ∧ Q v G)) (h : PX11_mostSpecial_281 J o l1 l2 l3 l4 l5 l7 l8 l9 l10 G Q) : Tg W0 (vX11_mostSpecial_281 j) [rf (o), cI (l1), rf (l2), cI (l3), cI (l4), cL (l5), l6, cI (l7), cI (l8), cI (l9), cI (l10)] [] G (fun r G => ∃ v, r = cI v ∧ inI v ∧ Q v G) := by
  unfold PX11_mostSpecial_281 at h
  unfold vX11_mostSpecial_281
  refine g_inc (lv' := [_, _, _, _, _, _, _, _, _, _, _]) rfl (Nat.le_of_ble_eq_true rfl) (Or.inr (n1_I _)) rfl ?_
  obtain ⟨q84, h⟩ := h
  exact hj2 _ _ _ _ _ _ _ _ _ _ _ _ hl1 hl3 hl4 hl5 hl6 hl7 q84 (n1_I _) (n1_I _) h
def PX11_mostSpecial_256 (J : Nat → List Int → gS → (Int → gS → Prop) → Prop) (o : Int) (l1 : Int) (l2 : Int) (l3 : Int) (l4 : Int) (l5 : Int) (l7 : Int) (l8 : Int) (l9 : Int) (l10 : Int) (G : gS) (Q : Int → gS → Prop) : Prop :=
  ((l9 = 0 → (inI (l7 + 1) ∧ (isO W0 11 (o) ∧ ((0 : Int) ≤ l8 ∧ ((l8 : Int) < 64 ∧ (((G (o + 14) l8 = -1 ∨ isO W0 7 (G (o + 14) l8)) ∧ ∀ v, W0.2 (o + 14) l8 = some v → G (o + 14) l8 = v) → ((G (o + 14) l8 = -1 ∨ isO W0 7 (G (o + 14) l8)) ∧ (∀ G82 : gS, G82 = uG G o 17 (G (o + 14) l8) → (∀ G83 : gS, G83 = uG G82 o 18 (l8) → PX11_mostSpecial_281 J o l1 l2 l3 l4 l5 (l7 + 1) l8 l9 l10 G83 Q))))))))) ∧ (¬ (l9 = 0) → PX11_mostSpecial_281 J o l1 l2 l3 l4 l5 l7 l8 l9 l10 G Q))
set_option maxRecDepth 20000 in
theorem TX11_mostSpecial_256 {j : Nat → rx_K} {J : Nat → List Int → gS → (Int → gS → Prop) → Prop} {o : Int} {l1 : Int} {l2 : Int} {l3 : Int} {l4 : Int} {l5 : Int} {l6 : Nat} {l7 : Int} {l8 : Int} {l9 : Int} {l10 : Int} {G : gS} {Q : Int → gS → Prop} (hl1 : inI l1) (hl3 : inI l3) (hl4 : inI l4) (hl5 : inL l5) (hl6 : l6 % 8 ≠ 1) (hl7 : inI l7) (hl8 : inI l8) (hl9 : inI l9) (hl10 : inI l10) (hj0 : ∀ (o : Int) (l1 : Int) (l2 : Int) (l3 : Int) (l4 : Int) (l5 : Int) (l6 : Nat) (l7 : Int) (l8 : Nat) (l9 : Nat) (l10 : Nat) (G : gS), (inI l1) → (inI l3) → (inI l4) → (inL l5) → (l6 % 8 ≠ 1) → (inI l7) → (l8 % 8 ≠ 1) → (l9 % 8 ≠ 1) → (l10 % 8 ≠ 1) → J 0 [o, l1, l2, l3, l4, l5, l7] G Q → Tg W0 (j 0) [rf (o), cI (l1), rf (l2), cI (l3), cI (l4), cL (l5), l6, cI (l7), l8, l9, l10] [] G (fun r G => ∃ v, r = cI v ∧ inI v ∧ Q v G)) (hj1 : ∀ (o : Int) (l1 : Int) (l2 : Int) (l3 : Int) (l4 : Int) (l5 : Int) (l6 : Nat) (l7 : Int) (l8 : Nat) (l9 : Nat) (l10 : Nat) (G : gS), (inI l1) → (inI l3) → (inI l4) → (inL l5) → (l6 % 8 ≠ 1) → (inI l7) → (l8 % 8 ≠ 1) → (l9 % 8 ≠ 1) → (l10 % 8 ≠ 1) → J 1 [o, l1, l2, l3, l4, l5, l7] G Q → Tg W0 (j 1) [rf (o), cI (l1), rf (l2), cI (l3), cI (l4), cL (l5), l6, cI (l7), l8, l9, l10] [] G (fun r G => ∃ v, r = cI v ∧ inI v ∧ Q v G)) (hj2 : ∀ (o : Int) (l1 : Int) (l2 : Int) (l3 : Int) (l4 : Int) (l5 : Int) (l6 : Nat) (l7 : Int) (l8 : Int) (l9 : Nat) (l10 : Nat) (G : gS), (inI l1) → (inI l3) → (inI l4) → (inL l5) → (l6 % 8 ≠ 1) → (inI l7) → (inI l8) → (l9 % 8 ≠ 1) → (l10 % 8 ≠ 1) → J 2 [o, l1, l2, l3, l4, l5, l7, l8] G Q → Tg W0 (j 2) [rf (o), cI (l1), rf (l2), cI (l3), cI (l4), cL (l5), l6, cI (l7), cI (l8), l9, l10] [] G (fun r G => ∃ v, r = cI v ∧ inI v ∧ Q v G)) (hj3 : ∀ (o : Int) (l1 : Int) (l2 : Int) (l3 : Int) (l4 : Int) (l5 : Int) (l6 : Nat) (l7 : Int) (l8 : Int) (l9 : Int) (l10 : Int) (G : gS), (inI l1) → (inI l3) → (inI l4) → (inL l5) → (l6 % 8 ≠ 1) → (inI l7) → (inI l8) → (inI l9) → (inI l10) → J 3 [o, l1, l2, l3, l4, l5, l7, l8, l9, l10] G Q → Tg W0 (j 3) [rf (o), cI (l1), rf (l2), cI (l3), cI (l4), cL (l5), l6, cI (l7), cI (l8), cI (l9), cI (l10)] [] G (fun r G => ∃ v, r = cI v ∧ inI v ∧ Q v G)) (h : PX11_mostSpecial_256 J o l1 l2 l3 l4 l5 l7 l8 l9 l10 G Q) : Tg W0 (vX11_mostSpecial_256 j) [rf (o), cI (l1), rf (l2), cI (l3), cI (l4), cL (l5), l6, cI (l7), cI (l8), cI (l9), cI (l10)] [] G (fun r G => ∃ v, r = cI v ∧ inI v ∧ Q v G) := by
  unfold PX11_mostSpecial_256 at h
  unfold vX11_mostSpecial_256
  refine g_ld (v := cI _) rfl (is_I _) ?_
  refine g_eq1 hl9 (fun b75 => ?_) (fun b75 => ?_)
  · replace h := h.1 b75
    unfold vX11_mostSpecial_261
    refine g_inc (lv' := [_, _, _, _, _, _, _, _, _, _, _]) rfl (Nat.le_of_ble_eq_true rfl) (Or.inr hl6) rfl ?_
    obtain ⟨q76, h⟩ := h
    refine g_ld (v := rf _) rfl (is_R _) ?_
    refine g_ld (v := rf _) rfl (is_R _) ?_
    obtain ⟨q77, h⟩ := h
    refine g_getF q77 (ff11_16 q77).1 rfl (Nat.le_of_ble_eq_true rfl) (Nat.le_of_ble_eq_true rfl) ?_
    refine g_ld (v := cI _) rfl (is_I _) ?_
    obtain ⟨q78, q79, h⟩ := h
    refine g_aldRF (c := 7) (ff11_16 q77).2 q78 q79 rfl (by decide) fun i80 => ?_
    replace h := h i80
    obtain ⟨q81, h⟩ := h
    refine g_putR (kz := 17) (c := 7) q77 rfl (Nat.le_of_ble_eq_true rfl) rfl (by decide) q81 (nf11_17 q77) ?_
    replace h := h _ rfl
    refine g_ld (v := rf _) rfl (is_R _) ?_
    refine g_ld (v := cI _) rfl (is_I _) ?_
    refine g_putI (kz := 18) q77 rfl (Nat.le_of_ble_eq_true rfl) rfl hl8 (nf11_18 q77) ?_
    replace h := h _ rfl
    exact TX11_mostSpecial_281 hl1 hl3 hl4 hl5 hl6 q76 hl8 hl9 hl10 hj0 hj1 hj2 hj3 h
  · replace h := h.2 b75
    exact TX11_mostSpecial_281 hl1 hl3 hl4 hl5 hl6 hl7 hl8 hl9 hl10 hj0 hj1 hj2 hj3 h
def PX11_mostSpecial_248 (J : Nat → List Int → gS → (Int → gS → Prop) → Prop) (o : Int) (l1 : Int) (l2 : Int) (l3 : Int) (l4 : Int) (l5 : Int) (l7 : Int) (l8 : Int) (l9 : Int) (l10 : Int) (s0 : Int) (G : gS) (Q : Int → gS → Prop) : Prop :=
  (inI (l10 + 1) ∧ J 3 [o, l1, l2, l3, l4, l5, l7, l8, s0, l10 + 1] G Q)
set_option maxRecDepth 20000 in
theorem TX11_mostSpecial_248 {j : Nat → rx_K} {J : Nat → List Int → gS → (Int → gS → Prop) → Prop} {o : Int} {l1 : Int} {l2 : Int} {l3 : Int} {l4 : Int} {l5 : Int} {l6 : Nat} {l7 : Int} {l8 : Int} {l9 : Int} {l10 : Int} {s0 : Int} {G : gS} {Q : Int → gS → Prop} (hl1 : inI l1) (hl3 : inI l3) (hl4 : inI l4) (hl5 : inL l5) (hl6 : l6 % 8 ≠ 1) (hl7 : inI l7) (hl8 : inI l8) (hl9 : inI l9) (hl10 : inI l10) (hs0 : inI s0) (hj0 : ∀ (o : Int) (l1 : Int) (l2 : Int) (l3 : Int) (l4 : Int) (l5 : Int) (l6 : Nat) (l7 : Int) (l8 : Nat) (l9 : Nat) (l10 : Nat) (G : gS), (inI l1) → (inI l3) → (inI l4) → (inL l5) → (l6 % 8 ≠ 1) → (inI l7) → (l8 % 8 ≠ 1) → (l9 % 8 ≠ 1) → (l10 % 8 ≠ 1) → J 0 [o, l1, l2, l3, l4, l5, l7] G Q → Tg W0 (j 0) [rf (o), cI (l1), rf (l2), cI (l3), cI (l4), cL (l5), l6, cI (l7), l8, l9, l10] [] G (fun r G => ∃ v, r = cI v ∧ inI v ∧ Q v G)) (hj1 : ∀ (o : Int) (l1 : Int) (l2 : Int) (l3 : Int) (l4 : Int) (l5 : Int) (l6 : Nat) (l7 : Int) (l8 : Nat) (l9 : Nat) (l10 : Nat) (G : gS), (inI l1) → (inI l3) → (inI l4) → (inL l5) → (l6 % 8 ≠ 1) → (inI l7) → (l8 % 8 ≠ 1) → (l9 % 8 ≠ 1) → (l10 % 8 ≠ 1) → J 1 [o, l1, l2, l3, l4, l5, l7] G Q → Tg W0 (j 1) [rf (o), cI (l1), rf (l2), cI (l3), cI (l4), cL (l5), l6, cI (l7), l8, l9, l10] [] G (fun r G => ∃ v, r = cI v ∧ inI v ∧ Q v G)) (hj2 : ∀ (o : Int) (l1 : Int) (l2 : Int) (l3 : Int) (l4 : Int) (l5 : Int) (l6 : Nat) (l7 : Int) (l8 : Int) (l9 : Nat) (l10 : Nat) (G : gS), (inI l1) → (inI l3) → (inI l4) → (inL l5) → (l6 % 8 ≠ 1) → (inI l7) → (inI l8) → (l9 % 8 ≠ 1) → (l10 % 8 ≠ 1) → J 2 [o, l1, l2, l3, l4, l5, l7, l8] G Q → Tg W0 (j 2) [rf (o), cI (l1), rf (l2), cI (l3), cI (l4), cL (l5), l6, cI (l7), cI (l8), l9, l10] [] G (fun r G => ∃ v, r = cI v ∧ inI v ∧ Q v G)) (hj3 : ∀ (o : Int) (l1 : Int) (l2 : Int) (l3 : Int) (l4 : Int) (l5 : Int) (l6 : Nat) (l7 : Int) (l8 : Int) (l9 : Int) (l10 : Int) (G : gS), (inI l1) → (inI l3) → (inI l4) → (inL l5) → (l6 % 8 ≠ 1) → (inI l7) → (inI l8) → (inI l9) → (inI l10) → J 3 [o, l1, l2, l3, l4, l5, l7, l8, l9, l10] G Q → Tg W0 (j 3) [rf (o), cI (l1), rf (l2), cI (l3), cI (l4), cL (l5), l6, cI (l7), cI (l8), cI (l9), cI (l10)] [] G (fun r G => ∃ v, r = cI v ∧ inI v ∧ Q v G)) (h : PX11_mostSpecial_248 J o l1 l2 l3 l4 l5 l7 l8 l9 l10 s0 G Q) : Tg W0 (vX11_mostSpecial_248 j) [rf (o), cI (l1), rf (l2), cI (l3), cI (l4), cL (l5), l6, cI (l7), cI (l8), cI (l9), cI (l10)] [cI (s0)] G (fun r G => ∃ v, r = cI v ∧ inI v ∧ Q v G) := by
  unfold PX11_mostSpecial_248 at h
  unfold vX11_mostSpecial_248
  refine g_st (lv' := [_, _, _, _, _, _, _, _, _, _, _]) (is_I _) (Nat.le_of_ble_eq_true rfl) (Or.inr (n1_I _)) rfl ?_
  refine g_inc (lv' := [_, _, _, _, _, _, _, _, _, _, _]) rfl (Nat.le_of_ble_eq_true rfl) (Or.inr (n1_I _)) rfl ?_
  obtain ⟨q74, h⟩ := h
  exact hj3 _ _ _ _ _ _ _ _ _ _ _ _ hl1 hl3 hl4 hl5 hl6 hl7 hl8 hs0 q74 h
def PX11_mostSpecial_247 (J : Nat → List Int → gS → (Int → gS → Prop) → Prop) (o : Int) (l1 : Int) (l2 : Int) (l3 : Int) (l4 : Int) (l5 : Int) (l7 : Int) (l8 : Int) (l9 : Int) (l10 : Int) (G : gS) (Q : Int → gS → Prop) : Prop :=
  PX11_mostSpecial_248 J o l1 l2 l3 l4 l5 l7 l8 l9 l10 0 G Q
set_option maxRecDepth 20000 in
theorem TX11_mostSpecial_247 {j : Nat → rx_K} {J : Nat → List Int → gS → (Int → gS → Prop) → Prop} {o : Int} {l1 : Int} {l2 : Int} {l3 : Int} {l4 : Int} {l5 : Int} {l6 : Nat} {l7 : Int} {l8 : Int} {l9 : Int} {l10 : Int} {G : gS} {Q : Int → gS → Prop} (hl1 : inI l1) (hl3 : inI l3) (hl4 : inI l4) (hl5 : inL l5) (hl6 : l6 % 8 ≠ 1) (hl7 : inI l7) (hl8 : inI l8) (hl9 : inI l9) (hl10 : inI l10) (hj0 : ∀ (o : Int) (l1 : Int) (l2 : Int) (l3 : Int) (l4 : Int) (l5 : Int) (l6 : Nat) (l7 : Int) (l8 : Nat) (l9 : Nat) (l10 : Nat) (G : gS), (inI l1) → (inI l3) → (inI l4) → (inL l5) → (l6 % 8 ≠ 1) → (inI l7) → (l8 % 8 ≠ 1) → (l9 % 8 ≠ 1) → (l10 % 8 ≠ 1) → J 0 [o, l1, l2, l3, l4, l5, l7] G Q → Tg W0 (j 0) [rf (o), cI (l1), rf (l2), cI (l3), cI (l4), cL (l5), l6, cI (l7), l8, l9, l10] [] G (fun r G => ∃ v, r = cI v ∧ inI v ∧ Q v G)) (hj1 : ∀ (o : Int) (l1 : Int) (l2 : Int) (l3 : Int) (l4 : Int) (l5 : Int) (l6 : Nat) (l7 : Int) (l8 : Nat) (l9 : Nat) (l10 : Nat) (G : gS), (inI l1) → (inI l3) → (inI l4) → (inL l5) → (l6 % 8 ≠ 1) → (inI l7) → (l8 % 8 ≠ 1) → (l9 % 8 ≠ 1) → (l10 % 8 ≠ 1) → J 1 [o, l1, l2, l3, l4, l5, l7] G Q → Tg W0 (j 1) [rf (o), cI (l1), rf (l2), cI (l3), cI (l4), cL (l5), l6, cI (l7), l8, l9, l10] [] G (fun r G => ∃ v, r = cI v ∧ inI v ∧ Q v G)) (hj2 : ∀ (o : Int) (l1 : Int) (l2 : Int) (l3 : Int) (l4 : Int) (l5 : Int) (l6 : Nat) (l7 : Int) (l8 : Int) (l9 : Nat) (l10 : Nat) (G : gS), (inI l1) → (inI l3) → (inI l4) → (inL l5) → (l6 % 8 ≠ 1) → (inI l7) → (inI l8) → (l9 % 8 ≠ 1) → (l10 % 8 ≠ 1) → J 2 [o, l1, l2, l3, l4, l5, l7, l8] G Q → Tg W0 (j 2) [rf (o), cI (l1), rf (l2), cI (l3), cI (l4), cL (l5), l6, cI (l7), cI (l8), l9, l10] [] G (fun r G => ∃ v, r = cI v ∧ inI v ∧ Q v G)) (hj3 : ∀ (o : Int) (l1 : Int) (l2 : Int) (l3 : Int) (l4 : Int) (l5 : Int) (l6 : Nat) (l7 : Int) (l8 : Int) (l9 : Int) (l10 : Int) (G : gS), (inI l1) → (inI l3) → (inI l4) → (inL l5) → (l6 % 8 ≠ 1) → (inI l7) → (inI l8) → (inI l9) → (inI l10) → J 3 [o, l1, l2, l3, l4, l5, l7, l8, l9, l10] G Q → Tg W0 (j 3) [rf (o), cI (l1), rf (l2), cI (l3), cI (l4), cL (l5), l6, cI (l7), cI (l8), cI (l9), cI (l10)] [] G (fun r G => ∃ v, r = cI v ∧ inI v ∧ Q v G)) (h : PX11_mostSpecial_247 J o l1 l2 l3 l4 l5 l7 l8 l9 l10 G Q) : Tg W0 (vX11_mostSpecial_247 j) [rf (o), cI (l1), rf (l2), cI (l3), cI (l4), cL (l5), l6, cI (l7), cI (l8), cI (l9), cI (l10)] [] G (fun r G => ∃ v, r = cI v ∧ inI v ∧ Q v G) := by
  unfold PX11_mostSpecial_247 at h
  unfold vX11_mostSpecial_247
  refine g_const (v := cI (0)) rfl ?_
  exact TX11_mostSpecial_248 hl1 hl3 hl4 hl5 hl6 hl7 hl8 hl9 hl10 ⟨by omega, by omega⟩ hj0 hj1 hj2 hj3 h
def PX11_mostSpecial_193 (J : Nat → List Int → gS → (Int → gS → Prop) → Prop) (o : Int) (l1 : Int) (l2 : Int) (l3 : Int) (l4 : Int) (l5 : Int) (l7 : Int) (l8 : Int) (l9 : Int) (l10 : Int) (G : gS) (Q : Int → gS → Prop) : Prop :=
  (isO W0 11 (o) ∧ (inI (G o 2) → ((l10 < G o 2 → ((l9 = 0 → ((l10 = l8 → PX11_mostSpecial_247 J o l1 l2 l3 l4 l5 l7 l8 l9 l10 G Q) ∧ (¬ (l10 = l8) → (inL (lush l5 l10) → (inL (land (lush l5 l10) 1) → ((land (lush l5 l10) 1 = 0 → PX11_mostSpecial_247 J o l1 l2 l3 l4 l5 l7 l8 l9 l10 G Q) ∧ (¬ (land (lush l5 l10) 1 = 0) → ((0 : Int) ≤ l10 ∧ ((l10 : Int) < 64 ∧ (inL (G (o + 8) l10) → (inL (lush (G (o + 8) l10) l8) → (inL (land (lush (G (o + 8) l10) l8) 1) → ((land (lush (G (o + 8) l10) l8) 1 = 0 → PX11_mostSpecial_247 J o l1 l2 l3 l4 l5 l7 l8 l9 l10 G Q) ∧ (¬ (land (lush (G (o + 8) l10) l8) 1 = 0) → PX11_mostSpecial_248 J o l1 l2 l3 l4 l5 l7 l8 l9 l10 1 G Q)))))))))))))) ∧ (¬ (l9 = 0) → PX11_mostSpecial_256 J o l1 l2 l3 l4 l5 l7 l8 l9 l10 G Q))) ∧ (¬ (l10 < G o 2) → PX11_mostSpecial_256 J o l1 l2 l3 l4 l5 l7 l8 l9 l10 G Q))))
set_option maxRecDepth 20000 in
theorem TX11_mostSpecial_193 {j : Nat → rx_K} {J : Nat → List Int → gS → (Int → gS → Prop) → Prop} {o : Int} {l1 : Int} {l2 : Int} {l3 : Int} {l4 : Int} {l5 : Int} {l6 : Nat} {l7 : Int} {l8 : Int} {l9 : Int} {l10 : Int} {G : gS} {Q : Int → gS → Prop} (hl1 : inI l1) (hl3 : inI l3) (hl4 : inI l4) (hl5 : inL l5) (hl6 : l6 % 8 ≠ 1) (hl7 : inI l7) (hl8 : inI l8) (hl9 : inI l9) (hl10 : inI l10) (hj0 : ∀ (o : Int) (l1 : Int) (l2 : Int) (l3 : Int) (l4 : Int) (l5 : Int) (l6 : Nat) (l7 : Int) (l8 : Nat) (l9 : Nat) (l10 : Nat) (G : gS), (inI l1) → (inI l3) → (inI l4) → (inL l5) → (l6 % 8 ≠ 1) → (inI l7) → (l8 % 8 ≠ 1) → (l9 % 8 ≠ 1) → (l10 % 8 ≠ 1) → J 0 [o, l1, l2, l3, l4, l5, l7] G Q → Tg W0 (j 0) [rf (o), cI (l1), rf (l2), cI (l3), cI (l4), cL (l5), l6, cI (l7), l8, l9, l10] [] G (fun r G => ∃ v, r = cI v ∧ inI v ∧ Q v G)) (hj1 : ∀ (o : Int) (l1 : Int) (l2 : Int) (l3 : Int) (l4 : Int) (l5 : Int) (l6 : Nat) (l7 : Int) (l8 : Nat) (l9 : Nat) (l10 : Nat) (G : gS), (inI l1) → (inI l3) → (inI l4) → (inL l5) → (l6 % 8 ≠ 1) → (inI l7) → (l8 % 8 ≠ 1) → (l9 % 8 ≠ 1) → (l10 % 8 ≠ 1) → J 1 [o, l1, l2, l3, l4, l5, l7] G Q → Tg W0 (j 1) [rf (o), cI (l1), rf (l2), cI (l3), cI (l4), cL (l5), l6, cI (l7), l8, l9, l10] [] G (fun r G => ∃ v, r = cI v ∧ inI v ∧ Q v G)) (hj2 : ∀ (o : Int) (l1 : Int) (l2 : Int) (l3 : Int) (l4 : Int) (l5 : Int) (l6 : Nat) (l7 : Int) (l8 : Int) (l9 : Nat) (l10 : Nat) (G : gS), (inI l1) → (inI l3) → (inI l4) → (inL l5) → (l6 % 8 ≠ 1) → (inI l7) → (inI l8) → (l9 % 8 ≠ 1) → (l10 % 8 ≠ 1) → J 2 [o, l1, l2, l3, l4, l5, l7, l8] G Q → Tg W0 (j 2) [rf (o), cI (l1), rf (l2), cI (l3), cI (l4), cL (l5), l6, cI (l7), cI (l8), l9, l10] [] G (fun r G => ∃ v, r = cI v ∧ inI v ∧ Q v G)) (hj3 : ∀ (o : Int) (l1 : Int) (l2 : Int) (l3 : Int) (l4 : Int) (l5 : Int) (l6 : Nat) (l7 : Int) (l8 : Int) (l9 : Int) (l10 : Int) (G : gS), (inI l1) → (inI l3) → (inI l4) → (inL l5) → (l6 % 8 ≠ 1) → (inI l7) → (inI l8) → (inI l9) → (inI l10) → J 3 [o, l1, l2, l3, l4, l5, l7, l8, l9, l10] G Q → Tg W0 (j 3) [rf (o), cI (l1), rf (l2), cI (l3), cI (l4), cL (l5), l6, cI (l7), cI (l8), cI (l9), cI (l10)] [] G (fun r G => ∃ v, r = cI v ∧ inI v ∧ Q v G)) (h : PX11_mostSpecial_193 J o l1 l2 l3 l4 l5 l7 l8 l9 l10 G Q) : Tg W0 (vX11_mostSpecial_193 j) [rf (o), cI (l1), rf (l2), cI (l3), cI (l4), cL (l5), l6, cI (l7), cI (l8), cI (l9), cI (l10)] [] G (fun r G => ∃ v, r = cI v ∧ inI v ∧ Q v G) := by
  unfold PX11_mostSpecial_193 at h
  unfold vX11_mostSpecial_193
  refine g_ld (v := cI _) rfl (is_I _) ?_
  refine g_ld (v := rf _) rfl (is_R _) ?_
  obtain ⟨q60, h⟩ := h
  refine g_getI (kz := 2) q60 rfl (Nat.le_of_ble_eq_true rfl) rfl fun i61 => ?_
  replace h := h i61
  refine g_lt2 hl10 i61 (fun b62 => ?_) (fun b62 => ?_)
  · replace h := h.1 b62
    unfold vX11_mostSpecial_202
    refine g_ld (v := cI _) rfl (is_I _) ?_
    refine g_eq1 hl9 (fun b63 => ?_) (fun b63 => ?_)
    · replace h := h.1 b63
      unfold vX11_mostSpecial_207
      refine g_ld (v := cI _) rfl (is_I _) ?_
      refine g_ld (v := cI _) rfl (is_I _) ?_
      refine g_eq2 hl10 hl8 (fun b64 => ?_) (fun b64 => ?_)
      · replace h := h.1 b64
        exact TX11_mostSpecial_247 hl1 hl3 hl4 hl5 hl6 hl7 hl8 hl9 hl10 hj0 hj1 hj2 hj3 h
      · replace h := h.2 b64
        unfold vX11_mostSpecial_214
        refine g_ld (v := cL _) rfl (is_L _) ?_
        refine g_ld (v := cI _) rfl (is_I _) ?_
        refine g_lush fun i65 => ?_
        replace h := h i65
        refine g_const (v := cL (1)) rfl ?_
        refine g_land fun i66 => ?_
        replace h := h i66
        refine g_const (v := cL (0)) rfl ?_
        refine g_leq i66 ⟨by omega, by omega⟩ (fun b67 => ?_) (fun b67 => ?_)
        · replace h := h.1 b67
          exact TX11_mostSpecial_247 hl1 hl3 hl4 hl5 hl6 hl7 hl8 hl9 hl10 hj0 hj1 hj2 hj3 h
        · replace h := h.2 b67
          unfold vX11_mostSpecial_226
          refine g_ld (v := rf _) rfl (is_R _) ?_
          refine g_getF q60 (ff11_9 q60).1 rfl (Nat.le_of_ble_eq_true rfl) (Nat.le_of_ble_eq_true rfl) ?_
          refine g_ld (v := cI _) rfl (is_I _) ?_
          obtain ⟨q68, q69, h⟩ := h
          refine g_aldL (ff11_9 q60).2 q68 q69 rfl fun i70 => ?_
          replace h := h i70
          refine g_ld (v := cI _) rfl (is_I _) ?_
          refine g_lush fun i71 => ?_
          replace h := h i71
          refine g_const (v := cL (1)) rfl ?_
          refine g_land fun i72 => ?_
          replace h := h i72
          refine g_const (v := cL (0)) rfl ?_
          refine g_leq i72 ⟨by omega, by omega⟩ (fun b73 => ?_) (fun b73 => ?_)
          · replace h := h.1 b73
            exact TX11_mostSpecial_247 hl1 hl3 hl4 hl5 hl6 hl7 hl8 hl9 hl10 hj0 hj1 hj2 hj3 h
          · replace h := h.2 b73
            unfold vX11_mostSpecial_243
            refine g_const (v := cI (1)) rfl ?_
            exact TX11_mostSpecial_248 hl1 hl3 hl4 hl5 hl6 hl7 hl8 hl9 hl10 ⟨by omega, by omega⟩ hj0 hj1 hj2 hj3 h
    · replace h := h.2 b63
      exact TX11_mostSpecial_256 hl1 hl3 hl4 hl5 hl6 hl7 hl8 hl9 hl10 hj0 hj1 hj2 hj3 h
  · replace h := h.2 b62
    exact TX11_mostSpecial_256 hl1 hl3 hl4 hl5 hl6 hl7 hl8 hl9 hl10 hj0 hj1 hj2 hj3 h
def PX11_mostSpecial_188 (J : Nat → List Int → gS → (Int → gS → Prop) → Prop) (o : Int) (l1 : Int) (l2 : Int) (l3 : Int) (l4 : Int) (l5 : Int) (l7 : Int) (l8 : Int) (s0 : Int) (G : gS) (Q : Int → gS → Prop) : Prop :=
  PX11_mostSpecial_193 J o l1 l2 l3 l4 l5 l7 l8 s0 0 G Q
set_option maxRecDepth 20000 in
theorem TX11_mostSpecial_188 {j : Nat → rx_K} {J : Nat → List Int → gS → (Int → gS → Prop) → Prop} {o : Int} {l1 : Int} {l2 : Int} {l3 : Int} {l4 : Int} {l5 : Int} {l6 : Nat} {l7 : Int} {l8 : Int} {l9 : Nat} {l10 : Nat} {s0 : Int} {G : gS} {Q : Int → gS → Prop} (hl1 : inI l1) (hl3 : inI l3) (hl4 : inI l4) (hl5 : inL l5) (hl6 : l6 % 8 ≠ 1) (hl7 : inI l7) (hl8 : inI l8) (hl9 : l9 % 8 ≠ 1) (hl10 : l10 % 8 ≠ 1) (hs0 : inI s0) (hj0 : ∀ (o : Int) (l1 : Int) (l2 : Int) (l3 : Int) (l4 : Int) (l5 : Int) (l6 : Nat) (l7 : Int) (l8 : Nat) (l9 : Nat) (l10 : Nat) (G : gS), (inI l1) → (inI l3) → (inI l4) → (inL l5) → (l6 % 8 ≠ 1) → (inI l7) → (l8 % 8 ≠ 1) → (l9 % 8 ≠ 1) → (l10 % 8 ≠ 1) → J 0 [o, l1, l2, l3, l4, l5, l7] G Q → Tg W0 (j 0) [rf (o), cI (l1), rf (l2), cI (l3), cI (l4), cL (l5), l6, cI (l7), l8, l9, l10] [] G (fun r G => ∃ v, r = cI v ∧ inI v ∧ Q v G)) (hj1 : ∀ (o : Int) (l1 : Int) (l2 : Int) (l3 : Int) (l4 : Int) (l5 : Int) (l6 : Nat) (l7 : Int) (l8 : Nat) (l9 : Nat) (l10 : Nat) (G : gS), (inI l1) → (inI l3) → (inI l4) → (inL l5) → (l6 % 8 ≠ 1) → (inI l7) → (l8 % 8 ≠ 1) → (l9 % 8 ≠ 1) → (l10 % 8 ≠ 1) → J 1 [o, l1, l2, l3, l4, l5, l7] G Q → Tg W0 (j 1) [rf (o), cI (l1), rf (l2), cI (l3), cI (l4), cL (l5), l6, cI (l7), l8, l9, l10] [] G (fun r G => ∃ v, r = cI v ∧ inI v ∧ Q v G)) (hj2 : ∀ (o : Int) (l1 : Int) (l2 : Int) (l3 : Int) (l4 : Int) (l5 : Int) (l6 : Nat) (l7 : Int) (l8 : Int) (l9 : Nat) (l10 : Nat) (G : gS), (inI l1) → (inI l3) → (inI l4) → (inL l5) → (l6 % 8 ≠ 1) → (inI l7) → (inI l8) → (l9 % 8 ≠ 1) → (l10 % 8 ≠ 1) → J 2 [o, l1, l2, l3, l4, l5, l7, l8] G Q → Tg W0 (j 2) [rf (o), cI (l1), rf (l2), cI (l3), cI (l4), cL (l5), l6, cI (l7), cI (l8), l9, l10] [] G (fun r G => ∃ v, r = cI v ∧ inI v ∧ Q v G)) (hj3 : ∀ (o : Int) (l1 : Int) (l2 : Int) (l3 : Int) (l4 : Int) (l5 : Int) (l6 : Nat) (l7 : Int) (l8 : Int) (l9 : Int) (l10 : Int) (G : gS), (inI l1) → (inI l3) → (inI l4) → (inL l5) → (l6 % 8 ≠ 1) → (inI l7) → (inI l8) → (inI l9) → (inI l10) → J 3 [o, l1, l2, l3, l4, l5, l7, l8, l9, l10] G Q → Tg W0 (j 3) [rf (o), cI (l1), rf (l2), cI (l3), cI (l4), cL (l5), l6, cI (l7), cI (l8), cI (l9), cI (l10)] [] G (fun r G => ∃ v, r = cI v ∧ inI v ∧ Q v G)) (h : PX11_mostSpecial_188 J o l1 l2 l3 l4 l5 l7 l8 s0 G Q) : Tg W0 (vX11_mostSpecial_188 j) [rf (o), cI (l1), rf (l2), cI (l3), cI (l4), cL (l5), l6, cI (l7), cI (l8), l9, l10] [cI (s0)] G (fun r G => ∃ v, r = cI v ∧ inI v ∧ Q v G) := by
  unfold PX11_mostSpecial_188 at h
  unfold vX11_mostSpecial_188
  refine g_st (lv' := [_, _, _, _, _, _, _, _, _, _, _]) (is_I _) (Nat.le_of_ble_eq_true rfl) (Or.inr (n1_I _)) rfl ?_
  refine g_const (v := cI (0)) rfl ?_
  refine g_st (lv' := [_, _, _, _, _, _, _, _, _, _, _]) (is_I _) (Nat.le_of_ble_eq_true rfl) (Or.inr (n1_I _)) rfl ?_
  exact TX11_mostSpecial_193 hl1 hl3 hl4 hl5 hl6 hl7 hl8 hs0 ⟨by omega, by omega⟩ hj0 hj1 hj2 hj3 h
def PX11_mostSpecial_183 (J : Nat → List Int → gS → (Int → gS → Prop) → Prop) (o : Int) (l1 : Int) (l2 : Int) (l3 : Int) (l4 : Int) (l5 : Int) (l7 : Int) (l8 : Int) (G : gS) (Q : Int → gS → Prop) : Prop :=
  PX11_mostSpecial_188 J o l1 l2 l3 l4 l5 l7 l8 1 G Q
set_option maxRecDepth 20000 in
theorem TX11_mostSpecial_183 {j : Nat → rx_K} {J : Nat → List Int → gS → (Int → gS → Prop) → Prop} {o : Int} {l1 : Int} {l2 : Int} {l3 : Int} {l4 : Int} {l5 : Int} {l6 : Nat} {l7 : Int} {l8 : Int} {l9 : Nat} {l10 : Nat} {G : gS} {Q : Int → gS → Prop} (hl1 : inI l1) (hl3 : inI l3) (hl4 : inI l4) (hl5 : inL l5) (hl6 : l6 % 8 ≠ 1) (hl7 : inI l7) (hl8 : inI l8) (hl9 : l9 % 8 ≠ 1) (hl10 : l10 % 8 ≠ 1) (hj0 : ∀ (o : Int) (l1 : Int) (l2 : Int) (l3 : Int) (l4 : Int) (l5 : Int) (l6 : Nat) (l7 : Int) (l8 : Nat) (l9 : Nat) (l10 : Nat) (G : gS), (inI l1) → (inI l3) → (inI l4) → (inL l5) → (l6 % 8 ≠ 1) → (inI l7) → (l8 % 8 ≠ 1) → (l9 % 8 ≠ 1) → (l10 % 8 ≠ 1) → J 0 [o, l1, l2, l3, l4, l5, l7] G Q → Tg W0 (j 0) [rf (o), cI (l1), rf (l2), cI (l3), cI (l4), cL (l5), l6, cI (l7), l8, l9, l10] [] G (fun r G => ∃ v, r = cI v ∧ inI v ∧ Q v G)) (hj1 : ∀ (o : Int) (l1 : Int) (l2 : Int) (l3 : Int) (l4 : Int) (l5 : Int) (l6 : Nat) (l7 : Int) (l8 : Nat) (l9 : Nat) (l10 : Nat) (G : gS), (inI l1) → (inI l3) → (inI l4) → (inL l5) → (l6 % 8 ≠ 1) → (inI l7) → (l8 % 8 ≠ 1) → (l9 % 8 ≠ 1) → (l10 % 8 ≠ 1) → J 1 [o, l1, l2, l3, l4, l5, l7] G Q → Tg W0 (j 1) [rf (o), cI (l1), rf (l2), cI (l3), cI (l4), cL (l5), l6, cI (l7), l8, l9, l10] [] G (fun r G => ∃ v, r = cI v ∧ inI v ∧ Q v G)) (hj2 : ∀ (o : Int) (l1 : Int) (l2 : Int) (l3 : Int) (l4 : Int) (l5 : Int) (l6 : Nat) (l7 : Int) (l8 : Int) (l9 : Nat) (l10 : Nat) (G : gS), (inI l1) → (inI l3) → (inI l4) → (inL l5) → (l6 % 8 ≠ 1) → (inI l7) → (inI l8) → (l9 % 8 ≠ 1) → (l10 % 8 ≠ 1) → J 2 [o, l1, l2, l3, l4, l5, l7, l8] G Q → Tg W0 (j 2) [rf (o), cI (l1), rf (l2), cI (l3), cI (l4), cL (l5), l6, cI (l7), cI (l8), l9, l10] [] G (fun r G => ∃ v, r = cI v ∧ inI v ∧ Q v G)) (hj3 : ∀ (o : Int) (l1 : Int) (l2 : Int) (l3 : Int) (l4 : Int) (l5 : Int) (l6 : Nat) (l7 : Int) (l8 : Int) (l9 : Int) (l10 : Int) (G : gS), (inI l1) → (inI l3) → (inI l4) → (inL l5) → (l6 % 8 ≠ 1) → (inI l7) → (inI l8) → (inI l9) → (inI l10) → J 3 [o, l1, l2, l3, l4, l5, l7, l8, l9, l10] G Q → Tg W0 (j 3) [rf (o), cI (l1), rf (l2), cI (l3), cI (l4), cL (l5), l6, cI (l7), cI (l8), cI (l9), cI (l10)] [] G (fun r G => ∃ v, r = cI v ∧ inI v ∧ Q v G)) (h : PX11_mostSpecial_183 J o l1 l2 l3 l4 l5 l7 l8 G Q) : Tg W0 (vX11_mostSpecial_183 j) [rf (o), cI (l1), rf (l2), cI (l3), cI (l4), cL (l5), l6, cI (l7), cI (l8), l9, l10] [] G (fun r G => ∃ v, r = cI v ∧ inI v ∧ Q v G) := by
  unfold PX11_mostSpecial_183 at h
  unfold vX11_mostSpecial_183
  refine g_const (v := cI (1)) rfl ?_
  exact TX11_mostSpecial_188 hl1 hl3 hl4 hl5 hl6 hl7 hl8 hl9 hl10 ⟨by omega, by omega⟩ hj0 hj1 hj2 hj3 h
def PX11_mostSpecial_151 (J : Nat → List Int → gS → (Int → gS → Prop) → Prop) (o : Int) (l1 : Int) (l2 : Int) (l3 : Int) (l4 : Int) (l5 : Int) (l7 : Int) (l8 : Int) (G : gS) (Q : Int → gS → Prop) : Prop :=
  (isO W0 11 (o) ∧ (inI (G o 2) → ((l8 < G o 2 → ((0 : Int) ≤ l8 ∧ ((l8 : Int) < 64 ∧ (((G (o + 14) l8 = -1 ∨ isO W0 7 (G (o + 14) l8)) ∧ ∀ v, W0.2 (o + 14) l8 = some v → G (o + 14) l8 = v) → ((G (o + 14) l8 < 0 → PX11_mostSpecial_183 J o l1 l2 l3 l4 l5 l7 l8 G Q) ∧ (0 ≤ G (o + 14) l8 → ((0 : Int) ≤ l8 ∧ ((l8 : Int) < 64 ∧ (((G (o + 14) l8 = -1 ∨ isO W0 7 (G (o + 14) l8)) ∧ ∀ v, W0.2 (o + 14) l8 = some v → G (o + 14) l8 = v) → (isO W0 7 (G (o + 14) l8) ∧ ((0 ≤ G (G (o + 14) l8) 4 ∧ G (G (o + 14) l8) 4 ≤ 1) → ((G (G (o + 14) l8) 4 = 0 → PX11_mostSpecial_188 J o l1 l2 l3 l4 l5 l7 l8 0 G Q) ∧ (¬ (G (G (o + 14) l8) 4 = 0) → PX11_mostSpecial_183 J o l1 l2 l3 l4 l5 l7 l8 G Q))))))))))))) ∧ (¬ (l8 < G o 2) → Q (l7) G))))
set_option maxRecDepth 20000 in
theorem TX11_mostSpecial_151 {j : Nat → rx_K} {J : Nat → List Int → gS → (Int → gS → Prop) → Prop} {o : Int} {l1 : Int} {l2 : Int} {l3 : Int} {l4 : Int} {l5 : Int} {l6 : Nat} {l7 : Int} {l8 : Int} {l9 : Nat} {l10 : Nat} {G : gS} {Q : Int → gS → Prop} (hl1 : inI l1) (hl3 : inI l3) (hl4 : inI l4) (hl5 : inL l5) (hl6 : l6 % 8 ≠ 1) (hl7 : inI l7) (hl8 : inI l8) (hl9 : l9 % 8 ≠ 1) (hl10 : l10 % 8 ≠ 1) (hj0 : ∀ (o : Int) (l1 : Int) (l2 : Int) (l3 : Int) (l4 : Int) (l5 : Int) (l6 : Nat) (l7 : Int) (l8 : Nat) (l9 : Nat) (l10 : Nat) (G : gS), (inI l1) → (inI l3) → (inI l4) → (inL l5) → (l6 % 8 ≠ 1) → (inI l7) → (l8 % 8 ≠ 1) → (l9 % 8 ≠ 1) → (l10 % 8 ≠ 1) → J 0 [o, l1, l2, l3, l4, l5, l7] G Q → Tg W0 (j 0) [rf (o), cI (l1), rf (l2), cI (l3), cI (l4), cL (l5), l6, cI (l7), l8, l9, l10] [] G (fun r G => ∃ v, r = cI v ∧ inI v ∧ Q v G)) (hj1 : ∀ (o : Int) (l1 : Int) (l2 : Int) (l3 : Int) (l4 : Int) (l5 : Int) (l6 : Nat) (l7 : Int) (l8 : Nat) (l9 : Nat) (l10 : Nat) (G : gS), (inI l1) → (inI l3) → (inI l4) → (inL l5) → (l6 % 8 ≠ 1) → (inI l7) → (l8 % 8 ≠ 1) → (l9 % 8 ≠ 1) → (l10 % 8 ≠ 1) → J 1 [o, l1, l2, l3, l4, l5, l7] G Q → Tg W0 (j 1) [rf (o), cI (l1), rf (l2), cI (l3), cI (l4), cL (l5), l6, cI (l7), l8, l9, l10] [] G (fun r G => ∃ v, r = cI v ∧ inI v ∧ Q v G)) (hj2 : ∀ (o : Int) (l1 : Int) (l2 : Int) (l3 : Int) (l4 : Int) (l5 : Int) (l6 : Nat) (l7 : Int) (l8 : Int) (l9 : Nat) (l10 : Nat) (G : gS), (inI l1) → (inI l3) → (inI l4) → (inL l5) → (l6 % 8 ≠ 1) → (inI l7) → (inI l8) → (l9 % 8 ≠ 1) → (l10 % 8 ≠ 1) → J 2 [o, l1, l2, l3, l4, l5, l7, l8] G Q → Tg W0 (j 2) [rf (o), cI (l1), rf (l2), cI (l3), cI (l4), cL (l5), l6, cI (l7), cI (l8), l9, l10] [] G (fun r G => ∃ v, r = cI v ∧ inI v ∧ Q v G)) (hj3 : ∀ (o : Int) (l1 : Int) (l2 : Int) (l3 : Int) (l4 : Int) (l5 : Int) (l6 : Nat) (l7 : Int) (l8 : Int) (l9 : Int) (l10 : Int) (G : gS), (inI l1) → (inI l3) → (inI l4) → (inL l5) → (l6 % 8 ≠ 1) → (inI l7) → (inI l8) → (inI l9) → (inI l10) → J 3 [o, l1, l2, l3, l4, l5, l7, l8, l9, l10] G Q → Tg W0 (j 3) [rf (o), cI (l1), rf (l2), cI (l3), cI (l4), cL (l5), l6, cI (l7), cI (l8), cI (l9), cI (l10)] [] G (fun r G => ∃ v, r = cI v ∧ inI v ∧ Q v G)) (h : PX11_mostSpecial_151 J o l1 l2 l3 l4 l5 l7 l8 G Q) : Tg W0 (vX11_mostSpecial_151 j) [rf (o), cI (l1), rf (l2), cI (l3), cI (l4), cL (l5), l6, cI (l7), cI (l8), l9, l10] [] G (fun r G => ∃ v, r = cI v ∧ inI v ∧ Q v G) := by
  unfold PX11_mostSpecial_151 at h
  unfold vX11_mostSpecial_151
  refine g_ld (v := cI _) rfl (is_I _) ?_
  refine g_ld (v := rf _) rfl (is_R _) ?_
  obtain ⟨q46, h⟩ := h
  refine g_getI (kz := 2) q46 rfl (Nat.le_of_ble_eq_true rfl) rfl fun i47 => ?_
  replace h := h i47
  refine g_lt2 hl8 i47 (fun b48 => ?_) (fun b48 => ?_)
  · replace h := h.1 b48
    unfold vX11_mostSpecial_160
    refine g_ld (v := rf _) rfl (is_R _) ?_
    refine g_getF q46 (ff11_16 q46).1 rfl (Nat.le_of_ble_eq_true rfl) (Nat.le_of_ble_eq_true rfl) ?_
    refine g_ld (v := cI _) rfl (is_I _) ?_
    obtain ⟨q49, q50, h⟩ := h
    refine g_aldRF (c := 7) (ff11_16 q46).2 q49 q50 rfl (by decide) fun i51 => ?_
    replace h := h i51
    refine g_nul (fun b52 => ?_) (fun b52 => ?_)
    · replace h := h.1 b52
      exact TX11_mostSpecial_183 hl1 hl3 hl4 hl5 hl6 hl7 hl8 hl9 hl10 hj0 hj1 hj2 hj3 h
    · replace h := h.2 b52
      unfold vX11_mostSpecial_170
      refine g_ld (v := rf _) rfl (is_R _) ?_
      refine g_getF q46 (ff11_16 q46).1 rfl (Nat.le_of_ble_eq_true rfl) (Nat.le_of_ble_eq_true rfl) ?_
      refine g_ld (v := cI _) rfl (is_I _) ?_
      obtain ⟨q53, q54, h⟩ := h
      refine g_aldRF (c := 7) (ff11_16 q46).2 q53 q54 rfl (by decide) fun i55 => ?_
      replace h := h i55
      obtain ⟨q56, h⟩ := h
      refine g_getZ (kz := 4) q56 rfl (Nat.le_of_ble_eq_true rfl) rfl fun i57 => ?_
      replace h := h i57
      refine g_eq1 ⟨by omega, by omega⟩ (fun b58 => ?_) (fun b58 => ?_)
      · replace h := h.1 b58
        unfold vX11_mostSpecial_187
        refine g_const (v := cI (0)) rfl ?_
        exact TX11_mostSpecial_188 hl1 hl3 hl4 hl5 hl6 hl7 hl8 hl9 hl10 ⟨by omega, by omega⟩ hj0 hj1 hj2 hj3 h
      · replace h := h.2 b58
        exact TX11_mostSpecial_183 hl1 hl3 hl4 hl5 hl6 hl7 hl8 hl9 hl10 hj0 hj1 hj2 hj3 h
  · replace h := h.2 b48
    unfold vX11_mostSpecial_287
    refine g_ld (v := cI _) rfl (is_I _) ?_
    exact g_ret1 (is_I _) ⟨_, rfl, hl7, h⟩
def PX11_mostSpecial_139 (J : Nat → List Int → gS → (Int → gS → Prop) → Prop) (o : Int) (l1 : Int) (l2 : Int) (l3 : Int) (l4 : Int) (l5 : Int) (l7 : Int) (l8 : Int) (l9 : Int) (G : gS) (Q : Int → gS → Prop) : Prop :=
  (inI (l7 + 1) ∧ J 1 [o, l1, l2, l3, l4, l5, l7 + 1] G Q)
set_option maxRecDepth 20000 in
theorem TX11_mostSpecial_139 {j : Nat → rx_K} {J : Nat → List Int → gS → (Int → gS → Prop) → Prop} {o : Int} {l1 : Int} {l2 : Int} {l3 : Int} {l4 : Int} {l5 : Int} {l6 : Nat} {l7 : Int} {l8 : Int} {l9 : Int} {l10 : Nat} {G : gS} {Q : Int → gS → Prop} (hl1 : inI l1) (hl3 : inI l3) (hl4 : inI l4) (hl5 : inL l5) (hl6 : l6 % 8 ≠ 1) (hl7 : inI l7) (hl8 : inI l8) (hl10 : l10 % 8 ≠ 1) (hj0 : ∀ (o : Int) (l1 : Int) (l2 : Int) (l3 : Int) (l4 : Int) (l5 : Int) (l6 : Nat) (l7 : Int) (l8 : Nat) (l9 : Nat) (l10 : Nat) (G : gS), (inI l1) → (inI l3) → (inI l4) → (inL l5) → (l6 % 8 ≠ 1) → (inI l7) → (l8 % 8 ≠ 1) → (l9 % 8 ≠ 1) → (l10 % 8 ≠ 1) → J 0 [o, l1, l2, l3, l4, l5, l7] G Q → Tg W0 (j 0) [rf (o), cI (l1), rf (l2), cI (l3), cI (l4), cL (l5), l6, cI (l7), l8, l9, l10] [] G (fun r G => ∃ v, r = cI v ∧ inI v ∧ Q v G)) (hj1 : ∀ (o : Int) (l1 : Int) (l2 : Int) (l3 : Int) (l4 : Int) (l5 : Int) (l6 : Nat) (l7 : Int) (l8 : Nat) (l9 : Nat) (l10 : Nat) (G : gS), (inI l1) → (inI l3) → (inI l4) → (inL l5) → (l6 % 8 ≠ 1) → (inI l7) → (l8 % 8 ≠ 1) → (l9 % 8 ≠ 1) → (l10 % 8 ≠ 1) → J 1 [o, l1, l2, l3, l4, l5, l7] G Q → Tg W0 (j 1) [rf (o), cI (l1), rf (l2), cI (l3), cI (l4), cL (l5), l6, cI (l7), l8, l9, l10] [] G (fun r G => ∃ v, r = cI v ∧ inI v ∧ Q v G)) (hj2 : ∀ (o : Int) (l1 : Int) (l2 : Int) (l3 : Int) (l4 : Int) (l5 : Int) (l6 : Nat) (l7 : Int) (l8 : Int) (l9 : Nat) (l10 : Nat) (G : gS), (inI l1) → (inI l3) → (inI l4) → (inL l5) → (l6 % 8 ≠ 1) → (inI l7) → (inI l8) → (l9 % 8 ≠ 1) → (l10 % 8 ≠ 1) → J 2 [o, l1, l2, l3, l4, l5, l7, l8] G Q → Tg W0 (j 2) [rf (o), cI (l1), rf (l2), cI (l3), cI (l4), cL (l5), l6, cI (l7), cI (l8), l9, l10] [] G (fun r G => ∃ v, r = cI v ∧ inI v ∧ Q v G)) (hj3 : ∀ (o : Int) (l1 : Int) (l2 : Int) (l3 : Int) (l4 : Int) (l5 : Int) (l6 : Nat) (l7 : Int) (l8 : Int) (l9 : Int) (l10 : Int) (G : gS), (inI l1) → (inI l3) → (inI l4) → (inL l5) → (l6 % 8 ≠ 1) → (inI l7) → (inI l8) → (inI l9) → (inI l10) → J 3 [o, l1, l2, l3, l4, l5, l7, l8, l9, l10] G Q → Tg W0 (j 3) [rf (o), cI (l1), rf (l2), cI (l3), cI (l4), cL (l5), l6, cI (l7), cI (l8), cI (l9), cI (l10)] [] G (fun r G => ∃ v, r = cI v ∧ inI v ∧ Q v G)) (h : PX11_mostSpecial_139 J o l1 l2 l3 l4 l5 l7 l8 l9 G Q) : Tg W0 (vX11_mostSpecial_139 j) [rf (o), cI (l1), rf (l2), cI (l3), cI (l4), cL (l5), l6, cI (l7), cI (l8), rf (l9), l10] [] G (fun r G => ∃ v, r = cI v ∧ inI v ∧ Q v G) := by
  unfold PX11_mostSpecial_139 at h
  unfold vX11_mostSpecial_139
  refine g_inc (lv' := [_, _, _, _, _, _, _, _, _, _, _]) rfl (Nat.le_of_ble_eq_true rfl) (Or.inr hl6) rfl ?_
  obtain ⟨q59, h⟩ := h
  exact hj1 _ _ _ _ _ _ _ _ _ _ _ _ hl1 hl3 hl4 hl5 hl6 q59 (n1_I _) (n1_R _) hl10 h
def PX11_mostSpecial_85 (J : Nat → List Int → gS → (Int → gS → Prop) → Prop) (o : Int) (l1 : Int) (l2 : Int) (l3 : Int) (l4 : Int) (l5 : Int) (l7 : Int) (s0 : Int) (G : gS) (Q : Int → gS → Prop) : Prop :=
  (isO W0 11 (o) ∧ ((0 : Int) ≤ s0 ∧ ((s0 : Int) < 64 ∧ (((G (o + 1) s0 = -1 ∨ isO W0 10 (G (o + 1) s0)) ∧ ∀ v, W0.2 (o + 1) s0 = some v → G (o + 1) s0 = v) → (isO W0 10 (G (o + 1) s0) ∧ PX10_method (G (o + 1) s0) l2 G (fun r32 G31 => ((r32 < 0 → PX11_mostSpecial_139 J o l1 l2 l3 l4 l5 l7 s0 r32 G31 Q) ∧ (0 ≤ r32 → (isO W0 7 (r32) ∧ ((0 ≤ G31 r32 2 ∧ G31 r32 2 ≤ 1) → ((G31 r32 2 = 0 → (inI (G31 r32 1) → ((G31 r32 1 = 0 → PX11_mostSpecial_139 J o l1 l2 l3 l4 l5 l7 s0 r32 G31 Q) ∧ (¬ (G31 r32 1 = 0) → ((0 : Int) ≤ s0 ∧ ((s0 : Int) < 64 ∧ (W0.2 (o + 14) s0 = none ∧ (∀ G43 : gS, G43 = uG G31 (o + 14) s0 (r32) → (inL (lshl 1 s0) → (inL (lor l5 (lshl 1 s0)) → PX11_mostSpecial_139 J o l1 l2 l3 l4 (lor l5 (lshl 1 s0)) l7 s0 r32 G43 Q)))))))))) ∧ (¬ (G31 r32 2 = 0) → PX11_mostSpecial_139 J o l1 l2 l3 l4 l5 l7 s0 r32 G31 Q))))))))))))
set_option maxRecDepth 20000 in
theorem TX11_mostSpecial_85 {j : Nat → rx_K} {J : Nat → List Int → gS → (Int → gS → Prop) → Prop} {o : Int} {l1 : Int} {l2 : Int} {l3 : Int} {l4 : Int} {l5 : Int} {l6 : Nat} {l7 : Int} {l8 : Nat} {l9 : Nat} {l10 : Nat} {s0 : Int} {G : gS} {Q : Int → gS → Prop} (hl1 : inI l1) (hl3 : inI l3) (hl4 : inI l4) (hl5 : inL l5) (hl6 : l6 % 8 ≠ 1) (hl7 : inI l7) (hl8 : l8 % 8 ≠ 1) (hl9 : l9 % 8 ≠ 1) (hl10 : l10 % 8 ≠ 1) (hs0 : inI s0) (hj0 : ∀ (o : Int) (l1 : Int) (l2 : Int) (l3 : Int) (l4 : Int) (l5 : Int) (l6 : Nat) (l7 : Int) (l8 : Nat) (l9 : Nat) (l10 : Nat) (G : gS), (inI l1) → (inI l3) → (inI l4) → (inL l5) → (l6 % 8 ≠ 1) → (inI l7) → (l8 % 8 ≠ 1) → (l9 % 8 ≠ 1) → (l10 % 8 ≠ 1) → J 0 [o, l1, l2, l3, l4, l5, l7] G Q → Tg W0 (j 0) [rf (o), cI (l1), rf (l2), cI (l3), cI (l4), cL (l5), l6, cI (l7), l8, l9, l10] [] G (fun r G => ∃ v, r = cI v ∧ inI v ∧ Q v G)) (hj1 : ∀ (o : Int) (l1 : Int) (l2 : Int) (l3 : Int) (l4 : Int) (l5 : Int) (l6 : Nat) (l7 : Int) (l8 : Nat) (l9 : Nat) (l10 : Nat) (G : gS), (inI l1) → (inI l3) → (inI l4) → (inL l5) → (l6 % 8 ≠ 1) → (inI l7) → (l8 % 8 ≠ 1) → (l9 % 8 ≠ 1) → (l10 % 8 ≠ 1) → J 1 [o, l1, l2, l3, l4, l5, l7] G Q → Tg W0 (j 1) [rf (o), cI (l1), rf (l2), cI (l3), cI (l4), cL (l5), l6, cI (l7), l8, l9, l10] [] G (fun r G => ∃ v, r = cI v ∧ inI v ∧ Q v G)) (hj2 : ∀ (o : Int) (l1 : Int) (l2 : Int) (l3 : Int) (l4 : Int) (l5 : Int) (l6 : Nat) (l7 : Int) (l8 : Int) (l9 : Nat) (l10 : Nat) (G : gS), (inI l1) → (inI l3) → (inI l4) → (inL l5) → (l6 % 8 ≠ 1) → (inI l7) → (inI l8) → (l9 % 8 ≠ 1) → (l10 % 8 ≠ 1) → J 2 [o, l1, l2, l3, l4, l5, l7, l8] G Q → Tg W0 (j 2) [rf (o), cI (l1), rf (l2), cI (l3), cI (l4), cL (l5), l6, cI (l7), cI (l8), l9, l10] [] G (fun r G => ∃ v, r = cI v ∧ inI v ∧ Q v G)) (hj3 : ∀ (o : Int) (l1 : Int) (l2 : Int) (l3 : Int) (l4 : Int) (l5 : Int) (l6 : Nat) (l7 : Int) (l8 : Int) (l9 : Int) (l10 : Int) (G : gS), (inI l1) → (inI l3) → (inI l4) → (inL l5) → (l6 % 8 ≠ 1) → (inI l7) → (inI l8) → (inI l9) → (inI l10) → J 3 [o, l1, l2, l3, l4, l5, l7, l8, l9, l10] G Q → Tg W0 (j 3) [rf (o), cI (l1), rf (l2), cI (l3), cI (l4), cL (l5), l6, cI (l7), cI (l8), cI (l9), cI (l10)] [] G (fun r G => ∃ v, r = cI v ∧ inI v ∧ Q v G)) (h : PX11_mostSpecial_85 J o l1 l2 l3 l4 l5 l7 s0 G Q) : Tg W0 (vX11_mostSpecial_85 j) [rf (o), cI (l1), rf (l2), cI (l3), cI (l4), cL (l5), l6, cI (l7), l8, l9, l10] [cI (s0)] G (fun r G => ∃ v, r = cI v ∧ inI v ∧ Q v G) := by
  unfold PX11_mostSpecial_85 at h
  unfold vX11_mostSpecial_85
  refine g_st (lv' := [_, _, _, _, _, _, _, _, _, _, _]) (is_I _) (Nat.le_of_ble_eq_true rfl) (Or.inr (n1_I _)) rfl ?_
  refine g_ld (v := rf _) rfl (is_R _) ?_
  obtain ⟨q26, h⟩ := h
  refine g_getF q26 (ff11_1 q26).1 rfl (Nat.le_of_ble_eq_true rfl) (Nat.le_of_ble_eq_true rfl) ?_
  refine g_ld (v := cI _) rfl (is_I _) ?_
  obtain ⟨q27, q28, h⟩ := h
  refine g_aldRF (c := 10) (ff11_1 q26).2 q27 q28 rfl (by decide) fun i29 => ?_
  replace h := h i29
  refine g_ld (v := rf _) rfl (is_R _) ?_
  obtain ⟨q30, h⟩ := h
  refine g_callV (As := [_]) (ci := 10) q30 (fun _ => rfl) ?_
  refine g_go1 (Nat.le_of_ble_eq_true rfl) (Tn_w (TX10_method  h) fun _ G31 ⟨r32, e, h⟩ => ?_)
  subst e
  refine ⟨n7_R _, ?_⟩
  refine g_st (lv' := [_, _, _, _, _, _, _, _, _, _, _]) (is_R _) (Nat.le_of_ble_eq_true rfl) (Or.inr (n1_I _)) rfl ?_
  refine g_ld (v := rf _) rfl (is_R _) ?_
  refine g_nul (fun b34 => ?_) (fun b34 => ?_)
  · replace h := h.1 b34
    exact TX11_mostSpecial_139 hl1 hl3 hl4 hl5 hl6 hl7 hs0 hl10 hj0 hj1 hj2 hj3 h
  · replace h := h.2 b34
    unfold vX11_mostSpecial_105
    refine g_ld (v := rf _) rfl (is_R _) ?_
    obtain ⟨q35, h⟩ := h
    refine g_getZ (kz := 2) q35 rfl (Nat.le_of_ble_eq_true rfl) rfl fun i36 => ?_
    replace h := h i36
    refine g_eq1 ⟨by omega, by omega⟩ (fun b37 => ?_) (fun b37 => ?_)
    · replace h := h.1 b37
      unfold vX11_mostSpecial_113
      refine g_ld (v := rf _) rfl (is_R _) ?_
      refine g_getI (kz := 1) q35 rfl (Nat.le_of_ble_eq_true rfl) rfl fun i38 => ?_
      replace h := h i38
      refine g_eq1 i38 (fun b39 => ?_) (fun b39 => ?_)
      · replace h := h.1 b39
        exact TX11_mostSpecial_139 hl1 hl3 hl4 hl5 hl6 hl7 hs0 hl10 hj0 hj1 hj2 hj3 h
      · replace h := h.2 b39
        unfold vX11_mostSpecial_121
        refine g_ld (v := rf _) rfl (is_R _) ?_
        refine g_getF q26 (ff11_16 q26).1 rfl (Nat.le_of_ble_eq_true rfl) (Nat.le_of_ble_eq_true rfl) ?_
        refine g_ld (v := cI _) rfl (is_I _) ?_
        refine g_ld (v := rf _) rfl (is_R _) ?_
        obtain ⟨q40, q41, q42, h⟩ := h
        refine g_aastR (c := 7) (ff11_16 q26).2 q40 q41 rfl (by decide) (Or.inr q35) q42 ?_
        replace h := h _ rfl
        refine g_ld (v := cL _) rfl (is_L _) ?_
        refine g_const (v := cL (1)) rfl ?_
        refine g_ld (v := cI _) rfl (is_I _) ?_
        refine g_lshl fun i44 => ?_
        replace h := h i44
        refine g_lor fun i45 => ?_
        replace h := h i45
        refine g_stL (lv' := [_, _, _, _, _, _, _, _, _, _, _]) (Nat.le_of_ble_eq_true rfl) (Or.inr (n1_I _)) rfl ?_
        exact TX11_mostSpecial_139 hl1 hl3 hl4 i45 (show 7 % 8 ≠ 1 by decide) hl7 hs0 hl10 hj0 hj1 hj2 hj3 h
    · replace h := h.2 b37
      exact TX11_mostSpecial_139 hl1 hl3 hl4 hl5 hl6 hl7 hs0 hl10 hj0 hj1 hj2 hj3 h
def PX11_mostSpecial_60 (J : Nat → List Int → gS → (Int → gS → Prop) → Prop) (o : Int) (l1 : Int) (l2 : Int) (l3 : Int) (l4 : Int) (l5 : Int) (l7 : Int) (G : gS) (Q : Int → gS → Prop) : Prop :=
  ((l7 < l3 → ((l7 < 0 → PX11_mostSpecial_85 J o l1 l2 l3 l4 l5 l7 l1 G Q) ∧ (¬ (l7 < 0) → (isO W0 11 (o) ∧ ((0 : Int) ≤ l4 + l7 ∧ ((l4 + l7 : Int) < 4096 ∧ (inI (G (o + 9) (l4 + l7)) → PX11_mostSpecial_85 J o l1 l2 l3 l4 l5 l7 (G (o + 9) (l4 + l7)) G Q))))))) ∧ (¬ (l7 < l3) → PX11_mostSpecial_151 J o l1 l2 l3 l4 l5 0 0 G Q))
set_option maxRecDepth 20000 in
theorem TX11_mostSpecial_60 {j : Nat → rx_K} {J : Nat → List Int → gS → (Int → gS → Prop) → Prop} {o : Int} {l1 : Int} {l2 : Int} {l3 : Int} {l4 : Int} {l5 : Int} {l6 : Nat} {l7 : Int} {l8 : Nat} {l9 : Nat} {l10 : Nat} {G : gS} {Q : Int → gS → Prop} (hl1 : inI l1) (hl3 : inI l3) (hl4 : inI l4) (hl5 : inL l5) (hl6 : l6 % 8 ≠ 1) (hl7 : inI l7) (hl8 : l8 % 8 ≠ 1) (hl9 : l9 % 8 ≠ 1) (hl10 : l10 % 8 ≠ 1) (hj0 : ∀ (o : Int) (l1 : Int) (l2 : Int) (l3 : Int) (l4 : Int) (l5 : Int) (l6 : Nat) (l7 : Int) (l8 : Nat) (l9 : Nat) (l10 : Nat) (G : gS), (inI l1) → (inI l3) → (inI l4) → (inL l5) → (l6 % 8 ≠ 1) → (inI l7) → (l8 % 8 ≠ 1) → (l9 % 8 ≠ 1) → (l10 % 8 ≠ 1) → J 0 [o, l1, l2, l3, l4, l5, l7] G Q → Tg W0 (j 0) [rf (o), cI (l1), rf (l2), cI (l3), cI (l4), cL (l5), l6, cI (l7), l8, l9, l10] [] G (fun r G => ∃ v, r = cI v ∧ inI v ∧ Q v G)) (hj1 : ∀ (o : Int) (l1 : Int) (l2 : Int) (l3 : Int) (l4 : Int) (l5 : Int) (l6 : Nat) (l7 : Int) (l8 : Nat) (l9 : Nat) (l10 : Nat) (G : gS), (inI l1) → (inI l3) → (inI l4) → (inL l5) → (l6 % 8 ≠ 1) → (inI l7) → (l8 % 8 ≠ 1) → (l9 % 8 ≠ 1) → (l10 % 8 ≠ 1) → J 1 [o, l1, l2, l3, l4, l5, l7] G Q → Tg W0 (j 1) [rf (o), cI (l1), rf (l2), cI (l3), cI (l4), cL (l5), l6, cI (l7), l8, l9, l10] [] G (fun r G => ∃ v, r = cI v ∧ inI v ∧ Q v G)) (hj2 : ∀ (o : Int) (l1 : Int) (l2 : Int) (l3 : Int) (l4 : Int) (l5 : Int) (l6 : Nat) (l7 : Int) (l8 : Int) (l9 : Nat) (l10 : Nat) (G : gS), (inI l1) → (inI l3) → (inI l4) → (inL l5) → (l6 % 8 ≠ 1) → (inI l7) → (inI l8) → (l9 % 8 ≠ 1) → (l10 % 8 ≠ 1) → J 2 [o, l1, l2, l3, l4, l5, l7, l8] G Q → Tg W0 (j 2) [rf (o), cI (l1), rf (l2), cI (l3), cI (l4), cL (l5), l6, cI (l7), cI (l8), l9, l10] [] G (fun r G => ∃ v, r = cI v ∧ inI v ∧ Q v G)) (hj3 : ∀ (o : Int) (l1 : Int) (l2 : Int) (l3 : Int) (l4 : Int) (l5 : Int) (l6 : Nat) (l7 : Int) (l8 : Int) (l9 : Int) (l10 : Int) (G : gS), (inI l1) → (inI l3) → (inI l4) → (inL l5) → (l6 % 8 ≠ 1) → (inI l7) → (inI l8) → (inI l9) → (inI l10) → J 3 [o, l1, l2, l3, l4, l5, l7, l8, l9, l10] G Q → Tg W0 (j 3) [rf (o), cI (l1), rf (l2), cI (l3), cI (l4), cL (l5), l6, cI (l7), cI (l8), cI (l9), cI (l10)] [] G (fun r G => ∃ v, r = cI v ∧ inI v ∧ Q v G)) (h : PX11_mostSpecial_60 J o l1 l2 l3 l4 l5 l7 G Q) : Tg W0 (vX11_mostSpecial_60 j) [rf (o), cI (l1), rf (l2), cI (l3), cI (l4), cL (l5), l6, cI (l7), l8, l9, l10] [] G (fun r G => ∃ v, r = cI v ∧ inI v ∧ Q v G) := by
  unfold PX11_mostSpecial_60 at h
  unfold vX11_mostSpecial_60
  refine g_ld (v := cI _) rfl (is_I _) ?_
  refine g_ld (v := cI _) rfl (is_I _) ?_
  refine g_lt2 hl7 hl3 (fun b20 => ?_) (fun b20 => ?_)
  · replace h := h.1 b20
    unfold vX11_mostSpecial_66
    refine g_ld (v := cI _) rfl (is_I _) ?_
    refine g_lt1 hl7 (fun b21 => ?_) (fun b21 => ?_)
    · replace h := h.1 b21
      unfold vX11_mostSpecial_71
      refine g_ld (v := cI _) rfl (is_I _) ?_
      exact TX11_mostSpecial_85 hl1 hl3 hl4 hl5 hl6 hl7 hl8 hl9 hl10 hl1 hj0 hj1 hj2 hj3 h
    · replace h := h.2 b21
      unfold vX11_mostSpecial_75
      refine g_ld (v := rf _) rfl (is_R _) ?_
      obtain ⟨q22, h⟩ := h
      refine g_getF q22 (ff11_10 q22).1 rfl (Nat.le_of_ble_eq_true rfl) (Nat.le_of_ble_eq_true rfl) ?_
      refine g_ld (v := cI _) rfl (is_I _) ?_
      refine g_ld (v := cI _) rfl (is_I _) ?_
      refine g_add ?_
      obtain ⟨q23, q24, h⟩ := h
      refine g_aldI (ff11_10 q22).2 q23 q24 rfl fun i25 => ?_
      replace h := h i25
      exact TX11_mostSpecial_85 hl1 hl3 hl4 hl5 hl6 hl7 hl8 hl9 hl10 i25 hj0 hj1 hj2 hj3 h
  · replace h := h.2 b20
    unfold vX11_mostSpecial_145
    refine g_const (v := cI (0)) rfl ?_
    refine g_st (lv' := [_, _, _, _, _, _, _, _, _, _, _]) (is_I _) (Nat.le_of_ble_eq_true rfl) (Or.inr hl6) rfl ?_
    refine g_const (v := cI (0)) rfl ?_
    refine g_st (lv' := [_, _, _, _, _, _, _, _, _, _, _]) (is_I _) (Nat.le_of_ble_eq_true rfl) (Or.inr (n1_I _)) rfl ?_
    exact TX11_mostSpecial_151 hl1 hl3 hl4 hl5 hl6 ⟨by omega, by omega⟩ ⟨by omega, by omega⟩ hl9 hl10 hj0 hj1 hj2 hj3 h
def PX11_mostSpecial_58 (J : Nat → List Int → gS → (Int → gS → Prop) → Prop) (o : Int) (l1 : Int) (l2 : Int) (l3 : Int) (l4 : Int) (l5 : Int) (l7 : Int) (s0 : Int) (G : gS) (Q : Int → gS → Prop) : Prop :=
  PX11_mostSpecial_60 J o l1 l2 l3 l4 l5 s0 G Q
set_option maxRecDepth 20000 in
theorem TX11_mostSpecial_58 {j : Nat → rx_K} {J : Nat → List Int → gS → (Int → gS → Prop) → Prop} {o : Int} {l1 : Int} {l2 : Int} {l3 : Int} {l4 : Int} {l5 : Int} {l6 : Nat} {l7 : Int} {l8 : Nat} {l9 : Nat} {l10 : Nat} {s0 : Int} {G : gS} {Q : Int → gS → Prop} (hl1 : inI l1) (hl3 : inI l3) (hl4 : inI l4) (hl5 : inL l5) (hl6 : l6 % 8 ≠ 1) (hl7 : inI l7) (hl8 : l8 % 8 ≠ 1) (hl9 : l9 % 8 ≠ 1) (hl10 : l10 % 8 ≠ 1) (hs0 : inI s0) (hj0 : ∀ (o : Int) (l1 : Int) (l2 : Int) (l3 : Int) (l4 : Int) (l5 : Int) (l6 : Nat) (l7 : Int) (l8 : Nat) (l9 : Nat) (l10 : Nat) (G : gS), (inI l1) → (inI l3) → (inI l4) → (inL l5) → (l6 % 8 ≠ 1) → (inI l7) → (l8 % 8 ≠ 1) → (l9 % 8 ≠ 1) → (l10 % 8 ≠ 1) → J 0 [o, l1, l2, l3, l4, l5, l7] G Q → Tg W0 (j 0) [rf (o), cI (l1), rf (l2), cI (l3), cI (l4), cL (l5), l6, cI (l7), l8, l9, l10] [] G (fun r G => ∃ v, r = cI v ∧ inI v ∧ Q v G)) (hj1 : ∀ (o : Int) (l1 : Int) (l2 : Int) (l3 : Int) (l4 : Int) (l5 : Int) (l6 : Nat) (l7 : Int) (l8 : Nat) (l9 : Nat) (l10 : Nat) (G : gS), (inI l1) → (inI l3) → (inI l4) → (inL l5) → (l6 % 8 ≠ 1) → (inI l7) → (l8 % 8 ≠ 1) → (l9 % 8 ≠ 1) → (l10 % 8 ≠ 1) → J 1 [o, l1, l2, l3, l4, l5, l7] G Q → Tg W0 (j 1) [rf (o), cI (l1), rf (l2), cI (l3), cI (l4), cL (l5), l6, cI (l7), l8, l9, l10] [] G (fun r G => ∃ v, r = cI v ∧ inI v ∧ Q v G)) (hj2 : ∀ (o : Int) (l1 : Int) (l2 : Int) (l3 : Int) (l4 : Int) (l5 : Int) (l6 : Nat) (l7 : Int) (l8 : Int) (l9 : Nat) (l10 : Nat) (G : gS), (inI l1) → (inI l3) → (inI l4) → (inL l5) → (l6 % 8 ≠ 1) → (inI l7) → (inI l8) → (l9 % 8 ≠ 1) → (l10 % 8 ≠ 1) → J 2 [o, l1, l2, l3, l4, l5, l7, l8] G Q → Tg W0 (j 2) [rf (o), cI (l1), rf (l2), cI (l3), cI (l4), cL (l5), l6, cI (l7), cI (l8), l9, l10] [] G (fun r G => ∃ v, r = cI v ∧ inI v ∧ Q v G)) (hj3 : ∀ (o : Int) (l1 : Int) (l2 : Int) (l3 : Int) (l4 : Int) (l5 : Int) (l6 : Nat) (l7 : Int) (l8 : Int) (l9 : Int) (l10 : Int) (G : gS), (inI l1) → (inI l3) → (inI l4) → (inL l5) → (l6 % 8 ≠ 1) → (inI l7) → (inI l8) → (inI l9) → (inI l10) → J 3 [o, l1, l2, l3, l4, l5, l7, l8, l9, l10] G Q → Tg W0 (j 3) [rf (o), cI (l1), rf (l2), cI (l3), cI (l4), cL (l5), l6, cI (l7), cI (l8), cI (l9), cI (l10)] [] G (fun r G => ∃ v, r = cI v ∧ inI v ∧ Q v G)) (h : PX11_mostSpecial_58 J o l1 l2 l3 l4 l5 l7 s0 G Q) : Tg W0 (vX11_mostSpecial_58 j) [rf (o), cI (l1), rf (l2), cI (l3), cI (l4), cL (l5), l6, cI (l7), l8, l9, l10] [cI (s0)] G (fun r G => ∃ v, r = cI v ∧ inI v ∧ Q v G) := by
  unfold PX11_mostSpecial_58 at h
  unfold vX11_mostSpecial_58
  refine g_st (lv' := [_, _, _, _, _, _, _, _, _, _, _]) (is_I _) (Nat.le_of_ble_eq_true rfl) (Or.inr hl6) rfl ?_
  exact TX11_mostSpecial_60 hl1 hl3 hl4 hl5 hl6 hs0 hl8 hl9 hl10 hj0 hj1 hj2 hj3 h
def PX11_mostSpecial_18 (J : Nat → List Int → gS → (Int → gS → Prop) → Prop) (o : Int) (l1 : Int) (l2 : Int) (l3 : Int) (l4 : Int) (l5 : Int) (l7 : Int) (G : gS) (Q : Int → gS → Prop) : Prop :=
  (isO W0 11 (o) ∧ (inI (G o 2) → ((l7 < G o 2 → ((0 : Int) ≤ l7 ∧ ((l7 : Int) < 64 ∧ (W0.2 (o + 14) l7 = none ∧ (∀ G12 : gS, G12 = uG G (o + 14) l7 (-1) → (inI (l7 + 1) ∧ J 0 [o, l1, l2, l3, l4, l5, l7 + 1] G12 Q)))))) ∧ (¬ (l7 < G o 2) → ((0 : Int) ≤ l1 ∧ ((l1 : Int) < 64 ∧ (((G (o + 1) l1 = -1 ∨ isO W0 10 (G (o + 1) l1)) ∧ ∀ v, W0.2 (o + 1) l1 = some v → G (o + 1) l1 = v) → (isO W0 10 (G (o + 1) l1) ∧ ((0 ≤ G (G (o + 1) l1) 4 ∧ G (G (o + 1) l1) 4 ≤ 1) → ((G (G (o + 1) l1) 4 = 0 → PX11_mostSpecial_58 J o l1 l2 l3 l4 l5 l7 0 G Q) ∧ (¬ (G (G (o + 1) l1) 4 = 0) → PX11_mostSpecial_58 J o l1 l2 l3 l4 l5 l7 (-1) G Q)))))))))))
set_option maxRecDepth 20000 in
theorem TX11_mostSpecial_18 {j : Nat → rx_K} {J : Nat → List Int → gS → (Int → gS → Prop) → Prop} {o : Int} {l1 : Int} {l2 : Int} {l3 : Int} {l4 : Int} {l5 : Int} {l6 : Nat} {l7 : Int} {l8 : Nat} {l9 : Nat} {l10 : Nat} {G : gS} {Q : Int → gS → Prop} (hl1 : inI l1) (hl3 : inI l3) (hl4 : inI l4) (hl5 : inL l5) (hl6 : l6 % 8 ≠ 1) (hl7 : inI l7) (hl8 : l8 % 8 ≠ 1) (hl9 : l9 % 8 ≠ 1) (hl10 : l10 % 8 ≠ 1) (hj0 : ∀ (o : Int) (l1 : Int) (l2 : Int) (l3 : Int) (l4 : Int) (l5 : Int) (l6 : Nat) (l7 : Int) (l8 : Nat) (l9 : Nat) (l10 : Nat) (G : gS), (inI l1) → (inI l3) → (inI l4) → (inL l5) → (l6 % 8 ≠ 1) → (inI l7) → (l8 % 8 ≠ 1) → (l9 % 8 ≠ 1) → (l10 % 8 ≠ 1) → J 0 [o, l1, l2, l3, l4, l5, l7] G Q → Tg W0 (j 0) [rf (o), cI (l1), rf (l2), cI (l3), cI (l4), cL (l5), l6, cI (l7), l8, l9, l10] [] G (fun r G => ∃ v, r = cI v ∧ inI v ∧ Q v G)) (hj1 : ∀ (o : Int) (l1 : Int) (l2 : Int) (l3 : Int) (l4 : Int) (l5 : Int) (l6 : Nat) (l7 : Int) (l8 : Nat) (l9 : Nat) (l10 : Nat) (G : gS), (inI l1) → (inI l3) → (inI l4) → (inL l5) → (l6 % 8 ≠ 1) → (inI l7) → (l8 % 8 ≠ 1) → (l9 % 8 ≠ 1) → (l10 % 8 ≠ 1) → J 1 [o, l1, l2, l3, l4, l5, l7] G Q → Tg W0 (j 1) [rf (o), cI (l1), rf (l2), cI (l3), cI (l4), cL (l5), l6, cI (l7), l8, l9, l10] [] G (fun r G => ∃ v, r = cI v ∧ inI v ∧ Q v G)) (hj2 : ∀ (o : Int) (l1 : Int) (l2 : Int) (l3 : Int) (l4 : Int) (l5 : Int) (l6 : Nat) (l7 : Int) (l8 : Int) (l9 : Nat) (l10 : Nat) (G : gS), (inI l1) → (inI l3) → (inI l4) → (inL l5) → (l6 % 8 ≠ 1) → (inI l7) → (inI l8) → (l9 % 8 ≠ 1) → (l10 % 8 ≠ 1) → J 2 [o, l1, l2, l3, l4, l5, l7, l8] G Q → Tg W0 (j 2) [rf (o), cI (l1), rf (l2), cI (l3), cI (l4), cL (l5), l6, cI (l7), cI (l8), l9, l10] [] G (fun r G => ∃ v, r = cI v ∧ inI v ∧ Q v G)) (hj3 : ∀ (o : Int) (l1 : Int) (l2 : Int) (l3 : Int) (l4 : Int) (l5 : Int) (l6 : Nat) (l7 : Int) (l8 : Int) (l9 : Int) (l10 : Int) (G : gS), (inI l1) → (inI l3) → (inI l4) → (inL l5) → (l6 % 8 ≠ 1) → (inI l7) → (inI l8) → (inI l9) → (inI l10) → J 3 [o, l1, l2, l3, l4, l5, l7, l8, l9, l10] G Q → Tg W0 (j 3) [rf (o), cI (l1), rf (l2), cI (l3), cI (l4), cL (l5), l6, cI (l7), cI (l8), cI (l9), cI (l10)] [] G (fun r G => ∃ v, r = cI v ∧ inI v ∧ Q v G)) (h : PX11_mostSpecial_18 J o l1 l2 l3 l4 l5 l7 G Q) : Tg W0 (vX11_mostSpecial_18 j) [rf (o), cI (l1), rf (l2), cI (l3), cI (l4), cL (l5), l6, cI (l7), l8, l9, l10] [] G (fun r G => ∃ v, r = cI v ∧ inI v ∧ Q v G) := by
  unfold PX11_mostSpecial_18 at h
  unfold vX11_mostSpecial_18
  refine g_ld (v := cI _) rfl (is_I _) ?_
  refine g_ld (v := rf _) rfl (is_R _) ?_
  obtain ⟨q6, h⟩ := h
  refine g_getI (kz := 2) q6 rfl (Nat.le_of_ble_eq_true rfl) rfl fun i7 => ?_
  replace h := h i7
  refine g_lt2 hl7 i7 (fun b8 => ?_) (fun b8 => ?_)
  · replace h := h.1 b8
    unfold vX11_mostSpecial_27
    refine g_ld (v := rf _) rfl (is_R _) ?_
    refine g_getF q6 (ff11_16 q6).1 rfl (Nat.le_of_ble_eq_true rfl) (Nat.le_of_ble_eq_true rfl) ?_
    refine g_ld (v := cI _) rfl (is_I _) ?_
    refine g_const (v := rf (-1)) rfl ?_
    obtain ⟨q9, q10, q11, h⟩ := h
    refine g_aastR (c := 7) (ff11_16 q6).2 q9 q10 rfl (by decide) (Or.inl rfl) q11 ?_
    replace h := h _ rfl
    refine g_inc (lv' := [_, _, _, _, _, _, _, _, _, _, _]) rfl (Nat.le_of_ble_eq_true rfl) (Or.inr hl6) rfl ?_
    obtain ⟨q13, h⟩ := h
    exact hj0 _ _ _ _ _ _ _ _ _ _ _ _ hl1 hl3 hl4 hl5 hl6 q13 hl8 hl9 hl10 h
  · replace h := h.2 b8
    unfold vX11_mostSpecial_41
    refine g_ld (v := rf _) rfl (is_R _) ?_
    refine g_getF q6 (ff11_1 q6).1 rfl (Nat.le_of_ble_eq_true rfl) (Nat.le_of_ble_eq_true rfl) ?_
    refine g_ld (v := cI _) rfl (is_I _) ?_
    obtain ⟨q14, q15, h⟩ := h
    refine g_aldRF (c := 10) (ff11_1 q6).2 q14 q15 rfl (by decide) fun i16 => ?_
    replace h := h i16
    obtain ⟨q17, h⟩ := h
    refine g_getZ (kz := 4) q17 rfl (Nat.le_of_ble_eq_true rfl) rfl fun i18 => ?_
    replace h := h i18
    refine g_eq1 ⟨by omega, by omega⟩ (fun b19 => ?_) (fun b19 => ?_)
    · replace h := h.1 b19
      unfold vX11_mostSpecial_57
      refine g_const (v := cI (0)) rfl ?_
      exact TX11_mostSpecial_58 hl1 hl3 hl4 hl5 hl6 hl7 hl8 hl9 hl10 ⟨by omega, by omega⟩ hj0 hj1 hj2 hj3 h
    · replace h := h.2 b19
      unfold vX11_mostSpecial_53
      refine g_const (v := cI (-1)) rfl ?_
      exact TX11_mostSpecial_58 hl1 hl3 hl4 hl5 hl6 hl7 hl8 hl9 hl10 ⟨by omega, by omega⟩ hj0 hj1 hj2 hj3 h
def PX11_mostSpecial_0 (J : Nat → List Int → gS → (Int → gS → Prop) → Prop) (o : Int) (a1 : Int) (a2 : Int) (G : gS) (Q : Int → gS → Prop) : Prop :=
  (isO W0 11 (o) ∧ PX11_faces o a1 G (fun r3 G2 => inI r3 → (inI (a1 * 64) ∧ PX11_mostSpecial_18 J o a1 a2 r3 (a1 * 64) 0 0 G2 Q)))
set_option maxRecDepth 20000 in
theorem TX11_mostSpecial_0 {j : Nat → rx_K} {J : Nat → List Int → gS → (Int → gS → Prop) → Prop} {o : Int} {a1 : Int} {a2 : Int} {G : gS} {Q : Int → gS → Prop} (ha1 : inI a1) (hj0 : ∀ (o : Int) (l1 : Int) (l2 : Int) (l3 : Int) (l4 : Int) (l5 : Int) (l6 : Nat) (l7 : Int) (l8 : Nat) (l9 : Nat) (l10 : Nat) (G : gS), (inI l1) → (inI l3) → (inI l4) → (inL l5) → (l6 % 8 ≠ 1) → (inI l7) → (l8 % 8 ≠ 1) → (l9 % 8 ≠ 1) → (l10 % 8 ≠ 1) → J 0 [o, l1, l2, l3, l4, l5, l7] G Q → Tg W0 (j 0) [rf (o), cI (l1), rf (l2), cI (l3), cI (l4), cL (l5), l6, cI (l7), l8, l9, l10] [] G (fun r G => ∃ v, r = cI v ∧ inI v ∧ Q v G)) (hj1 : ∀ (o : Int) (l1 : Int) (l2 : Int) (l3 : Int) (l4 : Int) (l5 : Int) (l6 : Nat) (l7 : Int) (l8 : Nat) (l9 : Nat) (l10 : Nat) (G : gS), (inI l1) → (inI l3) → (inI l4) → (inL l5) → (l6 % 8 ≠ 1) → (inI l7) → (l8 % 8 ≠ 1) → (l9 % 8 ≠ 1) → (l10 % 8 ≠ 1) → J 1 [o, l1, l2, l3, l4, l5, l7] G Q → Tg W0 (j 1) [rf (o), cI (l1), rf (l2), cI (l3), cI (l4), cL (l5), l6, cI (l7), l8, l9, l10] [] G (fun r G => ∃ v, r = cI v ∧ inI v ∧ Q v G)) (hj2 : ∀ (o : Int) (l1 : Int) (l2 : Int) (l3 : Int) (l4 : Int) (l5 : Int) (l6 : Nat) (l7 : Int) (l8 : Int) (l9 : Nat) (l10 : Nat) (G : gS), (inI l1) → (inI l3) → (inI l4) → (inL l5) → (l6 % 8 ≠ 1) → (inI l7) → (inI l8) → (l9 % 8 ≠ 1) → (l10 % 8 ≠ 1) → J 2 [o, l1, l2, l3, l4, l5, l7, l8] G Q → Tg W0 (j 2) [rf (o), cI (l1), rf (l2), cI (l3), cI (l4), cL (l5), l6, cI (l7), cI (l8), l9, l10] [] G (fun r G => ∃ v, r = cI v ∧ inI v ∧ Q v G)) (hj3 : ∀ (o : Int) (l1 : Int) (l2 : Int) (l3 : Int) (l4 : Int) (l5 : Int) (l6 : Nat) (l7 : Int) (l8 : Int) (l9 : Int) (l10 : Int) (G : gS), (inI l1) → (inI l3) → (inI l4) → (inL l5) → (l6 % 8 ≠ 1) → (inI l7) → (inI l8) → (inI l9) → (inI l10) → J 3 [o, l1, l2, l3, l4, l5, l7, l8, l9, l10] G Q → Tg W0 (j 3) [rf (o), cI (l1), rf (l2), cI (l3), cI (l4), cL (l5), l6, cI (l7), cI (l8), cI (l9), cI (l10)] [] G (fun r G => ∃ v, r = cI v ∧ inI v ∧ Q v G)) (h : PX11_mostSpecial_0 J o a1 a2 G Q) : Tg W0 (vX11_mostSpecial_0 j) [rf (o), cI (a1), rf (a2), 7, 7, 7, 7, 7, 7, 7, 7] [] G (fun r G => ∃ v, r = cI v ∧ inI v ∧ Q v G) := by
  unfold PX11_mostSpecial_0 at h
  unfold vX11_mostSpecial_0
  refine g_ld (v := rf _) rfl (is_R _) ?_
  refine g_ld (v := cI _) rfl (is_I _) ?_
  obtain ⟨q1, h⟩ := h
  refine g_callV (As := [_]) (ci := 11) q1 (fun _ => rfl) ?_
  refine g_go1 (Nat.le_of_ble_eq_true rfl) (Tn_w (TX11_faces ha1 h) fun _ G2 ⟨r3, e, i4, h⟩ => ?_)
  subst e
  refine ⟨n7_I _, ?_⟩
  replace h := h i4
  refine g_st (lv' := [_, _, _, _, _, _, _, _, _, _, _]) (is_I _) (Nat.le_of_ble_eq_true rfl) (Or.inr (n1_R _)) rfl ?_
  refine g_ld (v := cI _) rfl (is_I _) ?_
  refine g_const (v := cI (64)) rfl ?_
  refine g_mul ?_
  refine g_st (lv' := [_, _, _, _, _, _, _, _, _, _, _]) (is_I _) (Nat.le_of_ble_eq_true rfl) (Or.inr (n1_I _)) rfl ?_
  obtain ⟨q5, h⟩ := h
  refine g_const (v := cL (0)) rfl ?_
  refine g_stL (lv' := [_, _, _, _, _, _, _, _, _, _, _]) (Nat.le_of_ble_eq_true rfl) (Or.inr (n1_I _)) rfl ?_
  refine g_const (v := cI (0)) rfl ?_
  refine g_st (lv' := [_, _, _, _, _, _, _, _, _, _, _]) (is_I _) (Nat.le_of_ble_eq_true rfl) (Or.inr (show 7 % 8 ≠ 1 by decide)) rfl ?_
  exact TX11_mostSpecial_18 ha1 i4 q5 ⟨by omega, by omega⟩ (show 7 % 8 ≠ 1 by decide) ⟨by omega, by omega⟩ (show 7 % 8 ≠ 1 by decide) (show 7 % 8 ≠ 1 by decide) (show 7 % 8 ≠ 1 by decide) hj0 hj1 hj2 hj3 h
def PX11_mostSpecial_J : Nat → Nat → List Int → gS → (Int → gS → Prop) → Prop
  | 0, _, _, _, _ => False
  | f + 1, h, L, G, Q => match h, L with
    | 0, [o, l1, l2, l3, l4, l5, l7] => PX11_mostSpecial_18 (PX11_mostSpecial_J f) o l1 l2 l3 l4 l5 l7 G Q
    | 1, [o, l1, l2, l3, l4, l5, l7] => PX11_mostSpecial_60 (PX11_mostSpecial_J f) o l1 l2 l3 l4 l5 l7 G Q
    | 2, [o, l1, l2, l3, l4, l5, l7, l8] => PX11_mostSpecial_151 (PX11_mostSpecial_J f) o l1 l2 l3 l4 l5 l7 l8 G Q
    | 3, [o, l1, l2, l3, l4, l5, l7, l8, l9, l10] => PX11_mostSpecial_193 (PX11_mostSpecial_J f) o l1 l2 l3 l4 l5 l7 l8 l9 l10 G Q
    | _, _ => False
theorem TX11_mostSpecial_J {Q : Int → gS → Prop} : ∀ f N : Nat, f ≤ N → (∀ (o : Int) (l1 : Int) (l2 : Int) (l3 : Int) (l4 : Int) (l5 : Int) (l6 : Nat) (l7 : Int) (l8 : Nat) (l9 : Nat) (l10 : Nat) (G : gS), (inI l1) → (inI l3) → (inI l4) → (inL l5) → (l6 % 8 ≠ 1) → (inI l7) → (l8 % 8 ≠ 1) → (l9 % 8 ≠ 1) → (l10 % 8 ≠ 1) → (PX11_mostSpecial_J f) 0 [o, l1, l2, l3, l4, l5, l7] G Q → Tg W0 (rx_J vhX11_mostSpecial N 0) [rf (o), cI (l1), rf (l2), cI (l3), cI (l4), cL (l5), l6, cI (l7), l8, l9, l10] [] G (fun r G => ∃ v, r = cI v ∧ inI v ∧ Q v G)) ∧ (∀ (o : Int) (l1 : Int) (l2 : Int) (l3 : Int) (l4 : Int) (l5 : Int) (l6 : Nat) (l7 : Int) (l8 : Nat) (l9 : Nat) (l10 : Nat) (G : gS), (inI l1) → (inI l3) → (inI l4) → (inL l5) → (l6 % 8 ≠ 1) → (inI l7) → (l8 % 8 ≠ 1) → (l9 % 8 ≠ 1) → (l10 % 8 ≠ 1) → (PX11_mostSpecial_J f) 1 [o, l1, l2, l3, l4, l5, l7] G Q → Tg W0 (rx_J vhX11_mostSpecial N 1) [rf (o), cI (l1), rf (l2), cI (l3), cI (l4), cL (l5), l6, cI (l7), l8, l9, l10] [] G (fun r G => ∃ v, r = cI v ∧ inI v ∧ Q v G)) ∧ (∀ (o : Int) (l1 : Int) (l2 : Int) (l3 : Int) (l4 : Int) (l5 : Int) (l6 : Nat) (l7 : Int) (l8 : Int) (l9 : Nat) (l10 : Nat) (G : gS), (inI l1) → (inI l3) → (inI l4) → (inL l5) → (l6 % 8 ≠ 1) → (inI l7) → (inI l8) → (l9 % 8 ≠ 1) → (l10 % 8 ≠ 1) → (PX11_mostSpecial_J f) 2 [o, l1, l2, l3, l4, l5, l7, l8] G Q → Tg W0 (rx_J vhX11_mostSpecial N 2) [rf (o), cI (l1), rf (l2), cI (l3), cI (l4), cL (l5), l6, cI (l7), cI (l8), l9, l10] [] G (fun r G => ∃ v, r = cI v ∧ inI v ∧ Q v G)) ∧ (∀ (o : Int) (l1 : Int) (l2 : Int) (l3 : Int) (l4 : Int) (l5 : Int) (l6 : Nat) (l7 : Int) (l8 : Int) (l9 : Int) (l10 : Int) (G : gS), (inI l1) → (inI l3) → (inI l4) → (inL l5) → (l6 % 8 ≠ 1) → (inI l7) → (inI l8) → (inI l9) → (inI l10) → (PX11_mostSpecial_J f) 3 [o, l1, l2, l3, l4, l5, l7, l8, l9, l10] G Q → Tg W0 (rx_J vhX11_mostSpecial N 3) [rf (o), cI (l1), rf (l2), cI (l3), cI (l4), cL (l5), l6, cI (l7), cI (l8), cI (l9), cI (l10)] [] G (fun r G => ∃ v, r = cI v ∧ inI v ∧ Q v G)) := by
  intro f
  induction f with
  | zero => exact fun N _ => ⟨fun _ _ _ _ _ _ _ _ _ _ _ _ _ _ _ _ _ _ _ _ _ h => h.elim, fun _ _ _ _ _ _ _ _ _ _ _ _ _ _ _ _ _ _ _ _ _ h => h.elim, fun _ _ _ _ _ _ _ _ _ _ _ _ _ _ _ _ _ _ _ _ _ h => h.elim, fun _ _ _ _ _ _ _ _ _ _ _ _ _ _ _ _ _ _ _ _ _ h => h.elim⟩
  | succ f ih =>
    intro N hN
    obtain ⟨M, rfl⟩ : ∃ M, N = M + 1 := ⟨N - 1, by omega⟩
    have ih := ih M (by omega)
    exact ⟨fun _ _ _ _ _ _ _ _ _ _ _ _ hl1 hl3 hl4 hl5 hl6 hl7 hl8 hl9 hl10 h => show Tg W0 (vX11_mostSpecial_18 (rx_J vhX11_mostSpecial M)) _ _ _ _ from TX11_mostSpecial_18 hl1 hl3 hl4 hl5 hl6 hl7 hl8 hl9 hl10 ih.1 ih.2.1 ih.2.2.1 ih.2.2.2 h, fun _ _ _ _ _ _ _ _ _ _ _ _ hl1 hl3 hl4 hl5 hl6 hl7 hl8 hl9 hl10 h => show Tg W0 (vX11_mostSpecial_60 (rx_J vhX11_mostSpecial M)) _ _ _ _ from TX11_mostSpecial_60 hl1 hl3 hl4 hl5 hl6 hl7 hl8 hl9 hl10 ih.1 ih.2.1 ih.2.2.1 ih.2.2.2 h, fun _ _ _ _ _ _ _ _ _ _ _ _ hl1 hl3 hl4 hl5 hl6 hl7 hl8 hl9 hl10 h => show Tg W0 (vX11_mostSpecial_151 (rx_J vhX11_mostSpecial M)) _ _ _ _ from TX11_mostSpecial_151 hl1 hl3 hl4 hl5 hl6 hl7 hl8 hl9 hl10 ih.1 ih.2.1 ih.2.2.1 ih.2.2.2 h, fun _ _ _ _ _ _ _ _ _ _ _ _ hl1 hl3 hl4 hl5 hl6 hl7 hl8 hl9 hl10 h => show Tg W0 (vX11_mostSpecial_193 (rx_J vhX11_mostSpecial M)) _ _ _ _ from TX11_mostSpecial_193 hl1 hl3 hl4 hl5 hl6 hl7 hl8 hl9 hl10 ih.1 ih.2.1 ih.2.2.1 ih.2.2.2 h⟩
def PX11_mostSpecial (o : Int) (a1 : Int) (a2 : Int) (G : gS) (Q : Int → gS → Prop) : Prop := ∃ f : Nat, f ≤ 4000000000 ∧ PX11_mostSpecial_0 (PX11_mostSpecial_J f) o a1 a2 G Q
theorem TX11_mostSpecial {o : Int} {a1 : Int} {a2 : Int} {G : gS} {Q : Int → gS → Prop} (ha1 : inI a1) (h : PX11_mostSpecial o a1 a2 G Q) : Tn W0 FX11_mostSpecial [rf (o), cI (a1), rf (a2)] G (fun r G => ∃ v, r = cI v ∧ inI v ∧ Q v G) := by
  obtain ⟨f, hf, h⟩ := h
  have hJ := TX11_mostSpecial_J (Q := Q) f 4000000000 hf
  unfold FX11_mostSpecial
  refine g_ent (lv' := [rf (o), cI (a1), rf (a2), 7, 7, 7, 7, 7, 7, 7, 7]) (flR (flI (flR fl0))) (Nat.le_of_ble_eq_true rfl) rfl ?_
  exact TX11_mostSpecial_0 ha1 hJ.1 hJ.2.1 hJ.2.2.1 hJ.2.2.2 h
def PX11_overrides_217 (J : Nat → List Int → gS → (Int → gS → Prop) → Prop) (o : Int) (l1 : Int) (l2 : Int) (l3 : Int) (l4 : Int) (l5 : Int) (l6 : Int) (l7 : Int) (l8 : Int) (l9 : Int) (l10 : Int) (l11 : Int) (G : gS) (Q : Int → gS → Prop) : Prop :=
  (inI (l9 + (-1)) ∧ J 1 [o, l1, l2, l3, l4, l5, l6, l7, l8, l9 + (-1)] G Q)
set_option maxRecDepth 20000 in
theorem TX11_overrides_217 {j : Nat → rx_K} {J : Nat → List Int → gS → (Int → gS → Prop) → Prop} {o : Int} {l1 : Int} {l2 : Int} {l3 : Int} {l4 : Int} {l5 : Int} {l6 : Int} {l7 : Int} {l8 : Int} {l9 : Int} {l10 : Int} {l11 : Int} {G : gS} {Q : Int → gS → Prop} (hl1 : inI l1) (hl2 : inI l2) (hl4 : inI l4) (hl5 : inI l5) (hl6 : inI l6) (hl7 : inI l7) (hl8 : inI l8) (hl9 : inI l9) (hl11 : inI l11) (hj0 : ∀ (o : Int) (l1 : Int) (l2 : Int) (l3 : Int) (l4 : Int) (l5 : Int) (l6 : Int) (l7 : Nat) (l8 : Nat) (l9 : Nat) (l10 : Nat) (l11 : Nat) (G : gS), (inI l1) → (inI l2) → (inI l4) → (inI l5) → (inI l6) → (l7 % 8 ≠ 1) → (l8 % 8 ≠ 1) → (l9 % 8 ≠ 1) → (l10 % 8 ≠ 1) → (l11 % 8 ≠ 1) → J 0 [o, l1, l2, l3, l4, l5, l6] G Q → Tg W0 (j 0) [rf (o), cI (l1), cI (l2), rf (l3), cI (l4), cI (l5), cI (l6), l7, l8, l9, l10, l11] [] G (fun r G => ∃ v, r = cI v ∧ (0 ≤ v ∧ v ≤ 1) ∧ Q v G)) (hj1 : ∀ (o : Int) (l1 : Int) (l2 : Int) (l3 : Int) (l4 : Int) (l5 : Int) (l6 : Int) (l7 : Int) (l8 : Int) (l9 : Int) (l10 : Nat) (l11 : Nat) (G : gS), (inI l1) → (inI l2) → (inI l4) → (inI l5) → (inI l6) → (inI l7) → (inI l8) → (inI l9) → (l10 % 8 ≠ 1) → (l11 % 8 ≠ 1) → J 1 [o, l1, l2, l3, l4, l5, l6, l7, l8, l9] G Q → Tg W0 (j 1) [rf (o), cI (l1), cI (l2), rf (l3), cI (l4), cI (l5), cI (l6), cI (l7), cI (l8), cI (l9), l10, l11] [] G (fun r G => ∃ v, r = cI v ∧ (0 ≤ v ∧ v ≤ 1) ∧ Q v G)) (h : PX11_overrides_217 J o l1 l2 l3 l4 l5 l6 l7 l8 l9 l10 l11 G Q) : Tg W0 (vX11_overrides_217 j) [rf (o), cI (l1), cI (l2), rf (l3), cI (l4), cI (l5), cI (l6), cI (l7), cI (l8), cI (l9), rf (l10), cI (l11)] [] G (fun r G => ∃ v, r = cI v ∧ (0 ≤ v ∧ v ≤ 1) ∧ Q v G) := by
  unfold PX11_overrides_217 at h
  unfold vX11_overrides_217
  refine g_inc (lv' := [_, _, _, _, _, _, _, _, _, _, _, _]) rfl (Nat.le_of_ble_eq_true rfl) (Or.inr (n1_I _)) rfl ?_
  obtain ⟨q67, h⟩ := h
  exact hj1 _ _ _ _ _ _ _ _ _ _ _ _ _ hl1 hl2 hl4 hl5 hl6 hl7 hl8 q67 (n1_R _) (n1_I _) h
def PX11_overrides_207 (J : Nat → List Int → gS → (Int → gS → Prop) → Prop) (o : Int) (l1 : Int) (l2 : Int) (l3 : Int) (l4 : Int) (l5 : Int) (l6 : Int) (l7 : Int) (l8 : Int) (l9 : Int) (l10 : Int) (l11 : Int) (s0 : Int) (s1 : Int) (G : gS) (Q : Int → gS → Prop) : Prop :=
  (inI (ior s0 s1) → (inI (ior l7 l11) → PX11_overrides_217 J o l1 l2 l3 l4 l5 (ior s0 s1) (ior l7 l11) l8 l9 l10 l11 G Q))
set_option maxRecDepth 20000 in
theorem TX11_overrides_207 {j : Nat → rx_K} {J : Nat → List Int → gS → (Int → gS → Prop) → Prop} {o : Int} {l1 : Int} {l2 : Int} {l3 : Int} {l4 : Int} {l5 : Int} {l6 : Int} {l7 : Int} {l8 : Int} {l9 : Int} {l10 : Int} {l11 : Int} {s0 : Int} {s1 : Int} {G : gS} {Q : Int → gS → Prop} (hl1 : inI l1) (hl2 : inI l2) (hl4 : inI l4) (hl5 : inI l5) (hl6 : inI l6) (hl7 : inI l7) (hl8 : inI l8) (hl9 : inI l9) (hl11 : inI l11) (hs0 : inI s0) (hs1 : inI s1) (hj0 : ∀ (o : Int) (l1 : Int) (l2 : Int) (l3 : Int) (l4 : Int) (l5 : Int) (l6 : Int) (l7 : Nat) (l8 : Nat) (l9 : Nat) (l10 : Nat) (l11 : Nat) (G : gS), (inI l1) → (inI l2) → (inI l4) → (inI l5) → (inI l6) → (l7 % 8 ≠ 1) → (l8 % 8 ≠ 1) → (l9 % 8 ≠ 1) → (l10 % 8 ≠ 1) → (l11 % 8 ≠ 1) → J 0 [o, l1, l2, l3, l4, l5, l6] G Q → Tg W0 (j 0) [rf (o), cI (l1), cI (l2), rf (l3), cI (l4), cI (l5), cI (l6), l7, l8, l9, l10, l11] [] G (fun r G => ∃ v, r = cI v ∧ (0 ≤ v ∧ v ≤ 1) ∧ Q v G)) (hj1 : ∀ (o : Int) (l1 : Int) (l2 : Int) (l3 : Int) (l4 : Int) (l5 : Int) (l6 : Int) (l7 : Int) (l8 : Int) (l9 : Int) (l10 : Nat) (l11 : Nat) (G : gS), (inI l1) → (inI l2) → (inI l4) → (inI l5) → (inI l6) → (inI l7) → (inI l8) → (inI l9) → (l10 % 8 ≠ 1) → (l11 % 8 ≠ 1) → J 1 [o, l1, l2, l3, l4, l5, l6, l7, l8, l9] G Q → Tg W0 (j 1) [rf (o), cI (l1), cI (l2), rf (l3), cI (l4), cI (l5), cI (l6), cI (l7), cI (l8), cI (l9), l10, l11] [] G (fun r G => ∃ v, r = cI v ∧ (0 ≤ v ∧ v ≤ 1) ∧ Q v G)) (h : PX11_overrides_207 J o l1 l2 l3 l4 l5 l6 l7 l8 l9 l10 l11 s0 s1 G Q) : Tg W0 (vX11_overrides_207 j) [rf (o), cI (l1), cI (l2), rf (l3), cI (l4), cI (l5), cI (l6), cI (l7), cI (l8), cI (l9), rf (l10), cI (l11)] [cI (s1), cI (s0)] G (fun r G => ∃ v, r = cI v ∧ (0 ≤ v ∧ v ≤ 1) ∧ Q v G) := by
  unfold PX11_overrides_207 at h
  unfold vX11_overrides_207
  refine g_ior fun i68 => ?_
  replace h := h i68
  refine g_st (lv' := [_, _, _, _, _, _, _, _, _, _, _, _]) (is_I _) (Nat.le_of_ble_eq_true rfl) (Or.inr (n1_I _)) rfl ?_
  refine g_ld (v := cI _) rfl (is_I _) ?_
  refine g_ld (v := cI _) rfl (is_I _) ?_
  refine g_ior fun i69 => ?_
  replace h := h i69
  refine g_st (lv' := [_, _, _, _, _, _, _, _, _, _, _, _]) (is_I _) (Nat.le_of_ble_eq_true rfl) (Or.inr (n1_I _)) rfl ?_
  exact TX11_overrides_217 hl1 hl2 hl4 hl5 i68 i69 hl8 hl9 hl11 hj0 hj1 h
def PX11_overrides_184 (J : Nat → List Int → gS → (Int → gS → Prop) → Prop) (o : Int) (l1 : Int) (l2 : Int) (l3 : Int) (l4 : Int) (l5 : Int) (l6 : Int) (l7 : Int) (l8 : Int) (l9 : Int) (l10 : Int) (l11 : Int) (s0 : Int) (G : gS) (Q : Int → gS → Prop) : Prop :=
  ((s0 = 0 → PX11_overrides_217 J o l1 l2 l3 l4 l5 l6 l7 s0 l9 l10 l11 G Q) ∧ (¬ (s0 = 0) → (isO W0 7 (l10) ∧ (inI (G l10 1) → ((G l10 1 < 2 → PX11_overrides_207 J o l1 l2 l3 l4 l5 l6 l7 s0 l9 l10 l11 l6 0 G Q) ∧ (¬ (G l10 1 < 2) → PX11_overrides_207 J o l1 l2 l3 l4 l5 l6 l7 s0 l9 l10 l11 l6 1 G Q))))))
set_option maxRecDepth 20000 in
theorem TX11_overrides_184 {j : Nat → rx_K} {J : Nat → List Int → gS → (Int → gS → Prop) → Prop} {o : Int} {l1 : Int} {l2 : Int} {l3 : Int} {l4 : Int} {l5 : Int} {l6 : Int} {l7 : Int} {l8 : Int} {l9 : Int} {l10 : Int} {l11 : Int} {s0 : Int} {G : gS} {Q : Int → gS → Prop} (hl1 : inI l1) (hl2 : inI l2) (hl4 : inI l4) (hl5 : inI l5) (hl6 : inI l6) (hl7 : inI l7) (hl8 : inI l8) (hl9 : inI l9) (hl11 : inI l11) (hs0 : inI s0) (hj0 : ∀ (o : Int) (l1 : Int) (l2 : Int) (l3 : Int) (l4 : Int) (l5 : Int) (l6 : Int) (l7 : Nat) (l8 : Nat) (l9 : Nat) (l10 : Nat) (l11 : Nat) (G : gS), (inI l1) → (inI l2) → (inI l4) → (inI l5) → (inI l6) → (l7 % 8 ≠ 1) → (l8 % 8 ≠ 1) → (l9 % 8 ≠ 1) → (l10 % 8 ≠ 1) → (l11 % 8 ≠ 1) → J 0 [o, l1, l2, l3, l4, l5, l6] G Q → Tg W0 (j 0) [rf (o), cI (l1), cI (l2), rf (l3), cI (l4), cI (l5), cI (l6), l7, l8, l9, l10, l11] [] G (fun r G => ∃ v, r = cI v ∧ (0 ≤ v ∧ v ≤ 1) ∧ Q v G)) (hj1 : ∀ (o : Int) (l1 : Int) (l2 : Int) (l3 : Int) (l4 : Int) (l5 : Int) (l6 : Int) (l7 : Int) (l8 : Int) (l9 : Int) (l10 : Nat) (l11 : Nat) (G : gS), (inI l1) → (inI l2) → (inI l4) → (inI l5) → (inI l6) → (inI l7) → (inI l8) → (inI l9) → (l10 % 8 ≠ 1) → (l11 % 8 ≠ 1) → J 1 [o, l1, l2, l3, l4, l5, l6, l7, l8, l9] G Q → Tg W0 (j 1) [rf (o), cI (l1), cI (l2), rf (l3), cI (l4), cI (l5), cI (l6), cI (l7), cI (l8), cI (l9), l10, l11] [] G (fun r G => ∃ v, r = cI v ∧ (0 ≤ v ∧ v ≤ 1) ∧ Q v G)) (h : PX11_overrides_184 J o l1 l2 l3 l4 l5 l6 l7 l8 l9 l10 l11 s0 G Q) : Tg W0 (vX11_overrides_184 j) [rf (o), cI (l1), cI (l2), rf (l3), cI (l4), cI (l5), cI (l6), cI (l7), cI (l8), cI (l9), rf (l10), cI (l11)] [cI (s0)] G (fun r G => ∃ v, r = cI v ∧ (0 ≤ v ∧ v ≤ 1) ∧ Q v G) := by
  unfold PX11_overrides_184 at h
  unfold vX11_overrides_184
  refine g_st (lv' := [_, _, _, _, _, _, _, _, _, _, _, _]) (is_I _) (Nat.le_of_ble_eq_true rfl) (Or.inr (n1_I _)) rfl ?_
  refine g_ld (v := cI _) rfl (is_I _) ?_
  refine g_eq1 hs0 (fun b63 => ?_) (fun b63 => ?_)
  · replace h := h.1 b63
    exact TX11_overrides_217 hl1 hl2 hl4 hl5 hl6 hl7 hs0 hl9 hl11 hj0 hj1 h
  · replace h := h.2 b63
    unfold vX11_overrides_191
    refine g_ld (v := cI _) rfl (is_I _) ?_
    refine g_ld (v := rf _) rfl (is_R _) ?_
    obtain ⟨q64, h⟩ := h
    refine g_getI (kz := 1) q64 rfl (Nat.le_of_ble_eq_true rfl) rfl fun i65 => ?_
    replace h := h i65
    refine g_const (v := cI (2)) rfl ?_
    refine g_lt2 i65 ⟨by omega, by omega⟩ (fun b66 => ?_) (fun b66 => ?_)
    · replace h := h.1 b66
      unfold vX11_overrides_206
      refine g_const (v := cI (0)) rfl ?_
      exact TX11_overrides_207 hl1 hl2 hl4 hl5 hl6 hl7 hs0 hl9 hl11 hl6 ⟨by omega, by omega⟩ hj0 hj1 h
    · replace h := h.2 b66
      unfold vX11_overrides_202
      refine g_const (v := cI (1)) rfl ?_
      exact TX11_overrides_207 hl1 hl2 hl4 hl5 hl6 hl7 hs0 hl9 hl11 hl6 ⟨by omega, by omega⟩ hj0 hj1 h
def PX11_overrides_183 (J : Nat → List Int → gS → (Int → gS → Prop) → Prop) (o : Int) (l1 : Int) (l2 : Int) (l3 : Int) (l4 : Int) (l5 : Int) (l6 : Int) (l7 : Int) (l8 : Int) (l9 : Int) (l10 : Int) (l11 : Int) (G : gS) (Q : Int → gS → Prop) : Prop :=
  PX11_overrides_184 J o l1 l2 l3 l4 l5 l6 l7 l8 l9 l10 l11 0 G Q
set_option maxRecDepth 20000 in
theorem TX11_overrides_183 {j : Nat → rx_K} {J : Nat → List Int → gS → (Int → gS → Prop) → Prop} {o : Int} {l1 : Int} {l2 : Int} {l3 : Int} {l4 : Int} {l5 : Int} {l6 : Int} {l7 : Int} {l8 : Int} {l9 : Int} {l10 : Int} {l11 : Int} {G : gS} {Q : Int → gS → Prop} (hl1 : inI l1) (hl2 : inI l2) (hl4 : inI l4) (hl5 : inI l5) (hl6 : inI l6) (hl7 : inI l7) (hl8 : inI l8) (hl9 : inI l9) (hl11 : inI l11) (hj0 : ∀ (o : Int) (l1 : Int) (l2 : Int) (l3 : Int) (l4 : Int) (l5 : Int) (l6 : Int) (l7 : Nat) (l8 : Nat) (l9 : Nat) (l10 : Nat) (l11 : Nat) (G : gS), (inI l1) → (inI l2) → (inI l4) → (inI l5) → (inI l6) → (l7 % 8 ≠ 1) → (l8 % 8 ≠ 1) → (l9 % 8 ≠ 1) → (l10 % 8 ≠ 1) → (l11 % 8 ≠ 1) → J 0 [o, l1, l2, l3, l4, l5, l6] G Q → Tg W0 (j 0) [rf (o), cI (l1), cI (l2), rf (l3), cI (l4), cI (l5), cI (l6), l7, l8, l9, l10, l11] [] G (fun r G => ∃ v, r = cI v ∧ (0 ≤ v ∧ v ≤ 1) ∧ Q v G)) (hj1 : ∀ (o : Int) (l1 : Int) (l2 : Int) (l3 : Int) (l4 : Int) (l5 : Int) (l6 : Int) (l7 : Int) (l8 : Int) (l9 : Int) (l10 : Nat) (l11 : Nat) (G : gS), (inI l1) → (inI l2) → (inI l4) → (inI l5) → (inI l6) → (inI l7) → (inI l8) → (inI l9) → (l10 % 8 ≠ 1) → (l11 % 8 ≠ 1) → J 1 [o, l1, l2, l3, l4, l5, l6, l7, l8, l9] G Q → Tg W0 (j 1) [rf (o), cI (l1), cI (l2), rf (l3), cI (l4), cI (l5), cI (l6), cI (l7), cI (l8), cI (l9), l10, l11] [] G (fun r G => ∃ v, r = cI v ∧ (0 ≤ v ∧ v ≤ 1) ∧ Q v G)) (h : PX11_overrides_183 J o l1 l2 l3 l4 l5 l6 l7 l8 l9 l10 l11 G Q) : Tg W0 (vX11_overrides_183 j) [rf (o), cI (l1), cI (l2), rf (l3), cI (l4), cI (l5), cI (l6), cI (l7), cI (l8), cI (l9), rf (l10), cI (l11)] [] G (fun r G => ∃ v, r = cI v ∧ (0 ≤ v ∧ v ≤ 1) ∧ Q v G) := by
  unfold PX11_overrides_183 at h
  unfold vX11_overrides_183
  refine g_const (v := cI (0)) rfl ?_
  exact TX11_overrides_184 hl1 hl2 hl4 hl5 hl6 hl7 hl8 hl9 hl11 ⟨by omega, by omega⟩ hj0 hj1 h
def PX11_overrides_179 (J : Nat → List Int → gS → (Int → gS → Prop) → Prop) (o : Int) (l1 : Int) (l2 : Int) (l3 : Int) (l4 : Int) (l5 : Int) (l6 : Int) (l7 : Int) (l8 : Int) (l9 : Int) (l10 : Int) (l11 : Int) (G : gS) (Q : Int → gS → Prop) : Prop :=
  PX11_overrides_184 J o l1 l2 l3 l4 l5 l6 l7 l8 l9 l10 l11 1 G Q
set_option maxRecDepth 20000 in
theorem TX11_overrides_179 {j : Nat → rx_K} {J : Nat → List Int → gS → (Int → gS → Prop) → Prop} {o : Int} {l1 : Int} {l2 : Int} {l3 : Int} {l4 : Int} {l5 : Int} {l6 : Int} {l7 : Int} {l8 : Int} {l9 : Int} {l10 : Int} {l11 : Int} {G : gS} {Q : Int → gS → Prop} (hl1 : inI l1) (hl2 : inI l2) (hl4 : inI l4) (hl5 : inI l5) (hl6 : inI l6) (hl7 : inI l7) (hl8 : inI l8) (hl9 : inI l9) (hl11 : inI l11) (hj0 : ∀ (o : Int) (l1 : Int) (l2 : Int) (l3 : Int) (l4 : Int) (l5 : Int) (l6 : Int) (l7 : Nat) (l8 : Nat) (l9 : Nat) (l10 : Nat) (l11 : Nat) (G : gS), (inI l1) → (inI l2) → (inI l4) → (inI l5) → (inI l6) → (l7 % 8 ≠ 1) → (l8 % 8 ≠ 1) → (l9 % 8 ≠ 1) → (l10 % 8 ≠ 1) → (l11 % 8 ≠ 1) → J 0 [o, l1, l2, l3, l4, l5, l6] G Q → Tg W0 (j 0) [rf (o), cI (l1), cI (l2), rf (l3), cI (l4), cI (l5), cI (l6), l7, l8, l9, l10, l11] [] G (fun r G => ∃ v, r = cI v ∧ (0 ≤ v ∧ v ≤ 1) ∧ Q v G)) (hj1 : ∀ (o : Int) (l1 : Int) (l2 : Int) (l3 : Int) (l4 : Int) (l5 : Int) (l6 : Int) (l7 : Int) (l8 : Int) (l9 : Int) (l10 : Nat) (l11 : Nat) (G : gS), (inI l1) → (inI l2) → (inI l4) → (inI l5) → (inI l6) → (inI l7) → (inI l8) → (inI l9) → (l10 % 8 ≠ 1) → (l11 % 8 ≠ 1) → J 1 [o, l1, l2, l3, l4, l5, l6, l7, l8, l9] G Q → Tg W0 (j 1) [rf (o), cI (l1), cI (l2), rf (l3), cI (l4), cI (l5), cI (l6), cI (l7), cI (l8), cI (l9), l10, l11] [] G (fun r G => ∃ v, r = cI v ∧ (0 ≤ v ∧ v ≤ 1) ∧ Q v G)) (h : PX11_overrides_179 J o l1 l2 l3 l4 l5 l6 l7 l8 l9 l10 l11 G Q) : Tg W0 (vX11_overrides_179 j) [rf (o), cI (l1), cI (l2), rf (l3), cI (l4), cI (l5), cI (l6), cI (l7), cI (l8), cI (l9), rf (l10), cI (l11)] [] G (fun r G => ∃ v, r = cI v ∧ (0 ≤ v ∧ v ≤ 1) ∧ Q v G) := by
  unfold PX11_overrides_179 at h
  unfold vX11_overrides_179
  refine g_const (v := cI (1)) rfl ?_
  exact TX11_overrides_184 hl1 hl2 hl4 hl5 hl6 hl7 hl8 hl9 hl11 ⟨by omega, by omega⟩ hj0 hj1 h
def PX11_overrides_107 (J : Nat → List Int → gS → (Int → gS → Prop) → Prop) (o : Int) (l1 : Int) (l2 : Int) (l3 : Int) (l4 : Int) (l5 : Int) (l6 : Int) (l7 : Int) (l8 : Int) (l9 : Int) (G : gS) (Q : Int → gS → Prop) : Prop :=
  ((l9 < 0 → ((0 ≤ l8 ∧ l8 ≤ 1) ∧ Q (l8) G)) ∧ (¬ (l9 < 0) → (isO W0 11 (o) ∧ ((0 : Int) ≤ l9 ∧ ((l9 : Int) < 66 ∧ (inI (G (o + 11) l9) → ((0 : Int) ≤ G (o + 11) l9 ∧ ((G (o + 11) l9 : Int) < 64 ∧ (((G (o + 1) (G (o + 11) l9) = -1 ∨ isO W0 10 (G (o + 1) (G (o + 11) l9))) ∧ ∀ v, W0.2 (o + 1) (G (o + 11) l9) = some v → G (o + 1) (G (o + 11) l9) = v) → (isO W0 10 (G (o + 1) (G (o + 11) l9)) ∧ PX10_method (G (o + 1) (G (o + 11) l9)) l3 G (fun r41 G40 => ((0 : Int) ≤ l9 ∧ ((l9 : Int) < 66 ∧ (inI (G40 (o + 11) l9) → ((0 : Int) ≤ G40 (o + 11) l9 ∧ ((G40 (o + 11) l9 : Int) < 64 ∧ (((G40 (o + 1) (G40 (o + 11) l9) = -1 ∨ isO W0 10 (G40 (o + 1) (G40 (o + 11) l9))) ∧ ∀ v, W0.2 (o + 1) (G40 (o + 11) l9) = some v → G40 (o + 1) (G40 (o + 11) l9) = v) → (isO W0 10 (G40 (o + 1) (G40 (o + 11) l9)) ∧ (inL (G40 (G40 (o + 1) (G40 (o + 11) l9)) 1) → (inL (lush (G40 (G40 (o + 1) (G40 (o + 11) l9)) 1) 59) → (inI (l2i (lush (G40 (G40 (o + 1) (G40 (o + 11) l9)) 1) 59)) → (inI (ishl 1 (l2i (lush (G40 (G40 (o + 1) (G40 (o + 11) l9)) 1) 59))) → ((r41 < 0 → PX11_overrides_183 J o l1 l2 l3 l4 l5 l6 l7 l8 l9 r41 (ishl 1 (l2i (lush (G40 (G40 (o + 1) (G40 (o + 11) l9)) 1) 59))) G40 Q) ∧ (0 ≤ r41 → (isO W0 7 (r41) ∧ PX7_ofObjects r41 G40 (fun r57 G56 => (0 ≤ r57 ∧ r57 ≤ 1) → ((r57 = 0 → PX11_overrides_183 J o l1 l2 l3 l4 l5 l6 l7 l8 l9 r41 (ishl 1 (l2i (lush (G40 (G40 (o + 1) (G40 (o + 11) l9)) 1) 59))) G56 Q) ∧ (¬ (r57 = 0) → ((l6 = 0 → (inI (iand l7 (ishl 1 (l2i (lush (G40 (G40 (o + 1) (G40 (o + 11) l9)) 1) 59)))) → ((iand l7 (ishl 1 (l2i (lush (G40 (G40 (o + 1) (G40 (o + 11) l9)) 1) 59))) = 0 → PX11_overrides_183 J o l1 l2 l3 l4 l5 l6 l7 l8 l9 r41 (ishl 1 (l2i (lush (G40 (G40 (o + 1) (G40 (o + 11) l9)) 1) 59))) G56 Q) ∧ (¬ (iand l7 (ishl 1 (l2i (lush (G40 (G40 (o + 1) (G40 (o + 11) l9)) 1) 59))) = 0) → PX11_overrides_179 J o l1 l2 l3 l4 l5 l6 l7 l8 l9 r41 (ishl 1 (l2i (lush (G40 (G40 (o + 1) (G40 (o + 11) l9)) 1) 59))) G56 Q)))) ∧ (¬ (l6 = 0) → PX11_overrides_179 J o l1 l2 l3 l4 l5 l6 l7 l8 l9 r41 (ishl 1 (l2i (lush (G40 (G40 (o + 1) (G40 (o + 11) l9)) 1) 59))) G56 Q))))))))))))))))))))))))))))))
set_option maxRecDepth 20000 in
theorem TX11_overrides_107 {j : Nat → rx_K} {J : Nat → List Int → gS → (Int → gS → Prop) → Prop} {o : Int} {l1 : Int} {l2 : Int} {l3 : Int} {l4 : Int} {l5 : Int} {l6 : Int} {l7 : Int} {l8 : Int} {l9 : Int} {l10 : Nat} {l11 : Nat} {G : gS} {Q : Int → gS → Prop} (hl1 : inI l1) (hl2 : inI l2) (hl4 : inI l4) (hl5 : inI l5) (hl6 : inI l6) (hl7 : inI l7) (hl8 : inI l8) (hl9 : inI l9) (hl10 : l10 % 8 ≠ 1) (hl11 : l11 % 8 ≠ 1) (hj0 : ∀ (o : Int) (l1 : Int) (l2 : Int) (l3 : Int) (l4 : Int) (l5 : Int) (l6 : Int) (l7 : Nat) (l8 : Nat) (l9 : Nat) (l10 : Nat) (l11 : Nat) (G : gS), (inI l1) → (inI l2) → (inI l4) → (inI l5) → (inI l6) → (l7 % 8 ≠ 1) → (l8 % 8 ≠ 1) → (l9 % 8 ≠ 1) → (l10 % 8 ≠ 1) → (l11 % 8 ≠ 1) → J 0 [o, l1, l2, l3, l4, l5, l6] G Q → Tg W0 (j 0) [rf (o), cI (l1), cI (l2), rf (l3), cI (l4), cI (l5), cI (l6), l7, l8, l9, l10, l11] [] G (fun r G => ∃ v, r = cI v ∧ (0 ≤ v ∧ v ≤ 1) ∧ Q v G)) (hj1 : ∀ (o : Int) (l1 : Int) (l2 : Int) (l3 : Int) (l4 : Int) (l5 : Int) (l6 : Int) (l7 : Int) (l8 : Int) (l9 : Int) (l10 : Nat) (l11 : Nat) (G : gS), (inI l1) → (inI l2) → (inI l4) → (inI l5) → (inI l6) → (inI l7) → (inI l8) → (inI l9) → (l10 % 8 ≠ 1) → (l11 % 8 ≠ 1) → J 1 [o, l1, l2, l3, l4, l5, l6, l7, l8, l9] G Q → Tg W0 (j 1) [rf (o), cI (l1), cI (l2), rf (l3), cI (l4), cI (l5), cI (l6), cI (l7), cI (l8), cI (l9), l10, l11] [] G (fun r G => ∃ v, r = cI v ∧ (0 ≤ v ∧ v ≤ 1) ∧ Q v G)) (h : PX11_overrides_107 J o l1 l2 l3 l4 l5 l6 l7 l8 l9 G Q) : Tg W0 (vX11_overrides_107 j) [rf (o), cI (l1), cI (l2), rf (l3), cI (l4), cI (l5), cI (l6), cI (l7), cI (l8), cI (l9), l10, l11] [] G (fun r G => ∃ v, r = cI v ∧ (0 ≤ v ∧ v ≤ 1) ∧ Q v G) := by
  unfold PX11_overrides_107 at h
  unfold vX11_overrides_107
  refine g_ld (v := cI _) rfl (is_I _) ?_
  refine g_lt1 hl9 (fun b30 => ?_) (fun b30 => ?_)
  · replace h := h.1 b30
    unfold vX11_overrides_223
    refine g_ld (v := cI _) rfl (is_I _) ?_
    obtain ⟨q31, h⟩ := h
    exact g_ret1 (is_Z q31) ⟨_, rfl, q31, h⟩
  · replace h := h.2 b30
    unfold vX11_overrides_112
    refine g_ld (v := rf _) rfl (is_R _) ?_
    obtain ⟨q32, h⟩ := h
    refine g_getF q32 (ff11_1 q32).1 rfl (Nat.le_of_ble_eq_true rfl) (Nat.le_of_ble_eq_true rfl) ?_
    refine g_ld (v := rf _) rfl (is_R _) ?_
    refine g_getF q32 (ff11_12 q32).1 rfl (Nat.le_of_ble_eq_true rfl) (Nat.le_of_ble_eq_true rfl) ?_
    refine g_ld (v := cI _) rfl (is_I _) ?_
    obtain ⟨q33, q34, h⟩ := h
    refine g_aldI (ff11_12 q32).2 q33 q34 rfl fun i35 => ?_
    replace h := h i35
    obtain ⟨q36, q37, h⟩ := h
    refine g_aldRF (c := 10) (ff11_1 q32).2 q36 q37 rfl (by decide) fun i38 => ?_
    replace h := h i38
    refine g_ld (v := rf _) rfl (is_R _) ?_
    obtain ⟨q39, h⟩ := h
    refine g_callV (As := [_]) (ci := 10) q39 (fun _ => rfl) ?_
    refine g_go1 (Nat.le_of_ble_eq_true rfl) (Tn_w (TX10_method  h) fun _ G40 ⟨r41, e, h⟩ => ?_)
    subst e
    refine ⟨n7_R _, ?_⟩
    refine g_st (lv' := [_, _, _, _, _, _, _, _, _, _, _, _]) (is_R _) (Nat.le_of_ble_eq_true rfl) (Or.inr (n1_I _)) rfl ?_
    refine g_const (v := cI (1)) rfl ?_
    refine g_ld (v := rf _) rfl (is_R _) ?_
    refine g_getF q32 (ff11_1 q32).1 rfl (Nat.le_of_ble_eq_true rfl) (Nat.le_of_ble_eq_true rfl) ?_
    refine g_ld (v := rf _) rfl (is_R _) ?_
    refine g_getF q32 (ff11_12 q32).1 rfl (Nat.le_of_ble_eq_true rfl) (Nat.le_of_ble_eq_true rfl) ?_
    refine g_ld (v := cI _) rfl (is_I _) ?_
    obtain ⟨q43, q44, h⟩ := h
    refine g_aldI (ff11_12 q32).2 q43 q44 rfl fun i45 => ?_
    replace h := h i45
    obtain ⟨q46, q47, h⟩ := h
    refine g_aldRF (c := 10) (ff11_1 q32).2 q46 q47 rfl (by decide) fun i48 => ?_
    replace h := h i48
    obtain ⟨q49, h⟩ := h
    refine g_getL (kz := 1) q49 rfl (Nat.le_of_ble_eq_true rfl) rfl fun i50 => ?_
    replace h := h i50
    refine g_const (v := cI (59)) rfl ?_
    refine g_lush fun i51 => ?_
    replace h := h i51
    refine g_l2i fun i52 => ?_
    replace h := h i52
    refine g_ishl fun i53 => ?_
    replace h := h i53
    refine g_st (lv' := [_, _, _, _, _, _, _, _, _, _, _, _]) (is_I _) (Nat.le_of_ble_eq_true rfl) (Or.inr (n1_R _)) rfl ?_
    unfold vX11_overrides_153
    refine g_ld (v := rf _) rfl (is_R _) ?_
    refine g_nul (fun b54 => ?_) (fun b54 => ?_)
    · replace h := h.1 b54
      exact TX11_overrides_183 hl1 hl2 hl4 hl5 hl6 hl7 hl8 hl9 i53 hj0 hj1 h
    · replace h := h.2 b54
      unfold vX11_overrides_158
      refine g_ld (v := rf _) rfl (is_R _) ?_
      obtain ⟨q55, h⟩ := h
      refine g_callV (As := []) (ci := 7) q55 (fun _ => rfl) ?_
      refine g_go1 (Nat.le_of_ble_eq_true rfl) (Tn_w (TX7_ofObjects  h) fun _ G56 ⟨r57, e, i58, h⟩ => ?_)
      subst e
      refine ⟨n7_I _, ?_⟩
      replace h := h i58
      refine g_eq1 ⟨by omega, by omega⟩ (fun b59 => ?_) (fun b59 => ?_)
      · replace h := h.1 b59
        exact TX11_overrides_183 hl1 hl2 hl4 hl5 hl6 hl7 hl8 hl9 i53 hj0 hj1 h
      · replace h := h.2 b59
        unfold vX11_overrides_166
        refine g_ld (v := cI _) rfl (is_I _) ?_
        refine g_eq1 hl6 (fun b60 => ?_) (fun b60 => ?_)
        · replace h := h.1 b60
          unfold vX11_overrides_171
          refine g_ld (v := cI _) rfl (is_I _) ?_
          refine g_ld (v := cI _) rfl (is_I _) ?_
          refine g_iand fun i61 => ?_
          replace h := h i61
          refine g_eq1 i61 (fun b62 => ?_) (fun b62 => ?_)
          · replace h := h.1 b62
            exact TX11_overrides_183 hl1 hl2 hl4 hl5 hl6 hl7 hl8 hl9 i53 hj0 hj1 h
          · replace h := h.2 b62
            exact TX11_overrides_179 hl1 hl2 hl4 hl5 hl6 hl7 hl8 hl9 i53 hj0 hj1 h
        · replace h := h.2 b60
          exact TX11_overrides_179 hl1 hl2 hl4 hl5 hl6 hl7 hl8 hl9 i53 hj0 hj1 h
def PX11_overrides_79 (J : Nat → List Int → gS → (Int → gS → Prop) → Prop) (o : Int) (l1 : Int) (l2 : Int) (l3 : Int) (l4 : Int) (l5 : Int) (l6 : Int) (s0 : Int) (G : gS) (Q : Int → gS → Prop) : Prop :=
  (isO W0 11 (o) ∧ ((0 : Int) ≤ l2 ∧ ((l2 : Int) < 64 ∧ (((G (o + 1) l2 = -1 ∨ isO W0 10 (G (o + 1) l2)) ∧ ∀ v, W0.2 (o + 1) l2 = some v → G (o + 1) l2 = v) → (isO W0 10 (G (o + 1) l2) ∧ (inL (G (G (o + 1) l2) 1) → (inL (lush (G (G (o + 1) l2) 1) 59) → (inI (l2i (lush (G (G (o + 1) l2) 1) 59)) → (inI (ishl 1 (l2i (lush (G (G (o + 1) l2) 1) 59))) → (inI (l4 - 1) ∧ PX11_overrides_107 J o l1 l2 l3 l4 l5 s0 (ishl 1 (l2i (lush (G (G (o + 1) l2) 1) 59))) 0 (l4 - 1) G Q))))))))))
set_option maxRecDepth 20000 in
theorem TX11_overrides_79 {j : Nat → rx_K} {J : Nat → List Int → gS → (Int → gS → Prop) → Prop} {o : Int} {l1 : Int} {l2 : Int} {l3 : Int} {l4 : Int} {l5 : Int} {l6 : Int} {l7 : Nat} {l8 : Nat} {l9 : Nat} {l10 : Nat} {l11 : Nat} {s0 : Int} {G : gS} {Q : Int → gS → Prop} (hl1 : inI l1) (hl2 : inI l2) (hl4 : inI l4) (hl5 : inI l5) (hl6 : inI l6) (hl7 : l7 % 8 ≠ 1) (hl8 : l8 % 8 ≠ 1) (hl9 : l9 % 8 ≠ 1) (hl10 : l10 % 8 ≠ 1) (hl11 : l11 % 8 ≠ 1) (hs0 : inI s0) (hj0 : ∀ (o : Int) (l1 : Int) (l2 : Int) (l3 : Int) (l4 : Int) (l5 : Int) (l6 : Int) (l7 : Nat) (l8 : Nat) (l9 : Nat) (l10 : Nat) (l11 : Nat) (G : gS), (inI l1) → (inI l2) → (inI l4) → (inI l5) → (inI l6) → (l7 % 8 ≠ 1) → (l8 % 8 ≠ 1) → (l9 % 8 ≠ 1) → (l10 % 8 ≠ 1) → (l11 % 8 ≠ 1) → J 0 [o, l1, l2, l3, l4, l5, l6] G Q → Tg W0 (j 0) [rf (o), cI (l1), cI (l2), rf (l3), cI (l4), cI (l5), cI (l6), l7, l8, l9, l10, l11] [] G (fun r G => ∃ v, r = cI v ∧ (0 ≤ v ∧ v ≤ 1) ∧ Q v G)) (hj1 : ∀ (o : Int) (l1 : Int) (l2 : Int) (l3 : Int) (l4 : Int) (l5 : Int) (l6 : Int) (l7 : Int) (l8 : Int) (l9 : Int) (l10 : Nat) (l11 : Nat) (G : gS), (inI l1) → (inI l2) → (inI l4) → (inI l5) → (inI l6) → (inI l7) → (inI l8) → (inI l9) → (l10 % 8 ≠ 1) → (l11 % 8 ≠ 1) → J 1 [o, l1, l2, l3, l4, l5, l6, l7, l8, l9] G Q → Tg W0 (j 1) [rf (o), cI (l1), cI (l2), rf (l3), cI (l4), cI (l5), cI (l6), cI (l7), cI (l8), cI (l9), l10, l11] [] G (fun r G => ∃ v, r = cI v ∧ (0 ≤ v ∧ v ≤ 1) ∧ Q v G)) (h : PX11_overrides_79 J o l1 l2 l3 l4 l5 l6 s0 G Q) : Tg W0 (vX11_overrides_79 j) [rf (o), cI (l1), cI (l2), rf (l3), cI (l4), cI (l5), cI (l6), l7, l8, l9, l10, l11] [cI (s0)] G (fun r G => ∃ v, r = cI v ∧ (0 ≤ v ∧ v ≤ 1) ∧ Q v G) := by
  unfold PX11_overrides_79 at h
  unfold vX11_overrides_79
  refine g_st (lv' := [_, _, _, _, _, _, _, _, _, _, _, _]) (is_I _) (Nat.le_of_ble_eq_true rfl) (Or.inr (n1_I _)) rfl ?_
  refine g_const (v := cI (1)) rfl ?_
  refine g_ld (v := rf _) rfl (is_R _) ?_
  obtain ⟨q20, h⟩ := h
  refine g_getF q20 (ff11_1 q20).1 rfl (Nat.le_of_ble_eq_true rfl) (Nat.le_of_ble_eq_true rfl) ?_
  refine g_ld (v := cI _) rfl (is_I _) ?_
  obtain ⟨q21, q22, h⟩ := h
  refine g_aldRF (c := 10) (ff11_1 q20).2 q21 q22 rfl (by decide) fun i23 => ?_
  replace h := h i23
  obtain ⟨q24, h⟩ := h
  refine g_getL (kz := 1) q24 rfl (Nat.le_of_ble_eq_true rfl) rfl fun i25 => ?_
  replace h := h i25
  refine g_const (v := cI (59)) rfl ?_
  refine g_lush fun i26 => ?_
  replace h := h i26
  refine g_l2i fun i27 => ?_
  replace h := h i27
  refine g_ishl fun i28 => ?_
  replace h := h i28
  refine g_st (lv' := [_, _, _, _, _, _, _, _, _, _, _, _]) (is_I _) (Nat.le_of_ble_eq_true rfl) (Or.inr (n1_I _)) rfl ?_
  refine g_const (v := cI (0)) rfl ?_
  refine g_st (lv' := [_, _, _, _, _, _, _, _, _, _, _, _]) (is_I _) (Nat.le_of_ble_eq_true rfl) (Or.inr (n1_I _)) rfl ?_
  refine g_ld (v := cI _) rfl (is_I _) ?_
  refine g_const (v := cI (1)) rfl ?_
  refine g_sub ?_
  refine g_st (lv' := [_, _, _, _, _, _, _, _, _, _, _, _]) (is_I _) (Nat.le_of_ble_eq_true rfl) (Or.inr (n1_I _)) rfl ?_
  obtain ⟨q29, h⟩ := h
  exact TX11_overrides_107 hl1 hl2 hl4 hl5 hs0 i28 ⟨by omega, by omega⟩ q29 hl10 hl11 hj0 hj1 h
def PX11_overrides_64 (J : Nat → List Int → gS → (Int → gS → Prop) → Prop) (o : Int) (l1 : Int) (l2 : Int) (l3 : Int) (l4 : Int) (l5 : Int) (l6 : Int) (G : gS) (Q : Int → gS → Prop) : Prop :=
  Q (0) G
set_option maxRecDepth 20000 in
theorem TX11_overrides_64 {j : Nat → rx_K} {J : Nat → List Int → gS → (Int → gS → Prop) → Prop} {o : Int} {l1 : Int} {l2 : Int} {l3 : Int} {l4 : Int} {l5 : Int} {l6 : Int} {l7 : Nat} {l8 : Nat} {l9 : Nat} {l10 : Nat} {l11 : Nat} {G : gS} {Q : Int → gS → Prop} (hl1 : inI l1) (hl2 : inI l2) (hl4 : inI l4) (hl5 : inI l5) (hl6 : inI l6) (hl7 : l7 % 8 ≠ 1) (hl8 : l8 % 8 ≠ 1) (hl9 : l9 % 8 ≠ 1) (hl10 : l10 % 8 ≠ 1) (hl11 : l11 % 8 ≠ 1) (hj0 : ∀ (o : Int) (l1 : Int) (l2 : Int) (l3 : Int) (l4 : Int) (l5 : Int) (l6 : Int) (l7 : Nat) (l8 : Nat) (l9 : Nat) (l10 : Nat) (l11 : Nat) (G : gS), (inI l1) → (inI l2) → (inI l4) → (inI l5) → (inI l6) → (l7 % 8 ≠ 1) → (l8 % 8 ≠ 1) → (l9 % 8 ≠ 1) → (l10 % 8 ≠ 1) → (l11 % 8 ≠ 1) → J 0 [o, l1, l2, l3, l4, l5, l6] G Q → Tg W0 (j 0) [rf (o), cI (l1), cI (l2), rf (l3), cI (l4), cI (l5), cI (l6), l7, l8, l9, l10, l11] [] G (fun r G => ∃ v, r = cI v ∧ (0 ≤ v ∧ v ≤ 1) ∧ Q v G)) (hj1 : ∀ (o : Int) (l1 : Int) (l2 : Int) (l3 : Int) (l4 : Int) (l5 : Int) (l6 : Int) (l7 : Int) (l8 : Int) (l9 : Int) (l10 : Nat) (l11 : Nat) (G : gS), (inI l1) → (inI l2) → (inI l4) → (inI l5) → (inI l6) → (inI l7) → (inI l8) → (inI l9) → (l10 % 8 ≠ 1) → (l11 % 8 ≠ 1) → J 1 [o, l1, l2, l3, l4, l5, l6, l7, l8, l9] G Q → Tg W0 (j 1) [rf (o), cI (l1), cI (l2), rf (l3), cI (l4), cI (l5), cI (l6), cI (l7), cI (l8), cI (l9), l10, l11] [] G (fun r G => ∃ v, r = cI v ∧ (0 ≤ v ∧ v ≤ 1) ∧ Q v G)) (h : PX11_overrides_64 J o l1 l2 l3 l4 l5 l6 G Q) : Tg W0 (vX11_overrides_64 j) [rf (o), cI (l1), cI (l2), rf (l3), cI (l4), cI (l5), cI (l6), l7, l8, l9, l10, l11] [] G (fun r G => ∃ v, r = cI v ∧ (0 ≤ v ∧ v ≤ 1) ∧ Q v G) := by
  unfold PX11_overrides_64 at h
  unfold vX11_overrides_64
  refine g_const (v := cI (0)) rfl ?_
  exact g_ret1 (is_Z (by omega)) ⟨_, rfl, (by omega), h⟩
def PX11_overrides_53 (J : Nat → List Int → gS → (Int → gS → Prop) → Prop) (o : Int) (l1 : Int) (l2 : Int) (l3 : Int) (l4 : Int) (l5 : Int) (l6 : Int) (G : gS) (Q : Int → gS → Prop) : Prop :=
  ((l5 = l2 → ((l4 = 0 → PX11_overrides_64 J o l1 l2 l3 l4 l5 l6 G Q) ∧ (¬ (l4 = 0) → (isO W0 7 (l3) ∧ (inI (G l3 1) → ((G l3 1 < 2 → PX11_overrides_79 J o l1 l2 l3 l4 l5 l6 0 G Q) ∧ (¬ (G l3 1 < 2) → PX11_overrides_79 J o l1 l2 l3 l4 l5 l6 1 G Q))))))) ∧ (¬ (l5 = l2) → PX11_overrides_64 J o l1 l2 l3 l4 l5 l6 G Q))
set_option maxRecDepth 20000 in
theorem TX11_overrides_53 {j : Nat → rx_K} {J : Nat → List Int → gS → (Int → gS → Prop) → Prop} {o : Int} {l1 : Int} {l2 : Int} {l3 : Int} {l4 : Int} {l5 : Int} {l6 : Int} {l7 : Nat} {l8 : Nat} {l9 : Nat} {l10 : Nat} {l11 : Nat} {G : gS} {Q : Int → gS → Prop} (hl1 : inI l1) (hl2 : inI l2) (hl4 : inI l4) (hl5 : inI l5) (hl6 : inI l6) (hl7 : l7 % 8 ≠ 1) (hl8 : l8 % 8 ≠ 1) (hl9 : l9 % 8 ≠ 1) (hl10 : l10 % 8 ≠ 1) (hl11 : l11 % 8 ≠ 1) (hj0 : ∀ (o : Int) (l1 : Int) (l2 : Int) (l3 : Int) (l4 : Int) (l5 : Int) (l6 : Int) (l7 : Nat) (l8 : Nat) (l9 : Nat) (l10 : Nat) (l11 : Nat) (G : gS), (inI l1) → (inI l2) → (inI l4) → (inI l5) → (inI l6) → (l7 % 8 ≠ 1) → (l8 % 8 ≠ 1) → (l9 % 8 ≠ 1) → (l10 % 8 ≠ 1) → (l11 % 8 ≠ 1) → J 0 [o, l1, l2, l3, l4, l5, l6] G Q → Tg W0 (j 0) [rf (o), cI (l1), cI (l2), rf (l3), cI (l4), cI (l5), cI (l6), l7, l8, l9, l10, l11] [] G (fun r G => ∃ v, r = cI v ∧ (0 ≤ v ∧ v ≤ 1) ∧ Q v G)) (hj1 : ∀ (o : Int) (l1 : Int) (l2 : Int) (l3 : Int) (l4 : Int) (l5 : Int) (l6 : Int) (l7 : Int) (l8 : Int) (l9 : Int) (l10 : Nat) (l11 : Nat) (G : gS), (inI l1) → (inI l2) → (inI l4) → (inI l5) → (inI l6) → (inI l7) → (inI l8) → (inI l9) → (l10 % 8 ≠ 1) → (l11 % 8 ≠ 1) → J 1 [o, l1, l2, l3, l4, l5, l6, l7, l8, l9] G Q → Tg W0 (j 1) [rf (o), cI (l1), cI (l2), rf (l3), cI (l4), cI (l5), cI (l6), cI (l7), cI (l8), cI (l9), l10, l11] [] G (fun r G => ∃ v, r = cI v ∧ (0 ≤ v ∧ v ≤ 1) ∧ Q v G)) (h : PX11_overrides_53 J o l1 l2 l3 l4 l5 l6 G Q) : Tg W0 (vX11_overrides_53 j) [rf (o), cI (l1), cI (l2), rf (l3), cI (l4), cI (l5), cI (l6), l7, l8, l9, l10, l11] [] G (fun r G => ∃ v, r = cI v ∧ (0 ≤ v ∧ v ≤ 1) ∧ Q v G) := by
  unfold PX11_overrides_53 at h
  unfold vX11_overrides_53
  refine g_ld (v := cI _) rfl (is_I _) ?_
  refine g_ld (v := cI _) rfl (is_I _) ?_
  refine g_eq2 hl5 hl2 (fun b15 => ?_) (fun b15 => ?_)
  · replace h := h.1 b15
    unfold vX11_overrides_59
    refine g_ld (v := cI _) rfl (is_I _) ?_
    refine g_eq1 hl4 (fun b16 => ?_) (fun b16 => ?_)
    · replace h := h.1 b16
      exact TX11_overrides_64 hl1 hl2 hl4 hl5 hl6 hl7 hl8 hl9 hl10 hl11 hj0 hj1 h
    · replace h := h.2 b16
      unfold vX11_overrides_66
      refine g_ld (v := rf _) rfl (is_R _) ?_
      obtain ⟨q17, h⟩ := h
      refine g_getI (kz := 1) q17 rfl (Nat.le_of_ble_eq_true rfl) rfl fun i18 => ?_
      replace h := h i18
      refine g_const (v := cI (2)) rfl ?_
      refine g_lt2 i18 ⟨by omega, by omega⟩ (fun b19 => ?_) (fun b19 => ?_)
      · replace h := h.1 b19
        unfold vX11_overrides_78
        refine g_const (v := cI (0)) rfl ?_
        exact TX11_overrides_79 hl1 hl2 hl4 hl5 hl6 hl7 hl8 hl9 hl10 hl11 ⟨by omega, by omega⟩ hj0 hj1 h
      · replace h := h.2 b19
        unfold vX11_overrides_74
        refine g_const (v := cI (1)) rfl ?_
        exact TX11_overrides_79 hl1 hl2 hl4 hl5 hl6 hl7 hl8 hl9 hl10 hl11 ⟨by omega, by omega⟩ hj0 hj1 h
  · replace h := h.2 b15
    exact TX11_overrides_64 hl1 hl2 hl4 hl5 hl6 hl7 hl8 hl9 hl10 hl11 hj0 hj1 h
def PX11_overrides_9 (J : Nat → List Int → gS → (Int → gS → Prop) → Prop) (o : Int) (l1 : Int) (l2 : Int) (l3 : Int) (l4 : Int) (l5 : Int) (l6 : Int) (G : gS) (Q : Int → gS → Prop) : Prop :=
  (isO W0 11 (o) ∧ ((0 : Int) ≤ l1 ∧ ((l1 : Int) < 64 ∧ (inI (G (o + 3) l1) → ((l6 < G (o + 3) l1 → ((l5 = l2 → PX11_overrides_53 J o l1 l2 l3 l4 l5 l6 G Q) ∧ (¬ (l5 = l2) → ((0 : Int) ≤ l4 ∧ ((l4 : Int) < 66 ∧ (∀ G9 : gS, G9 = uG G (o + 11) l4 (l5) → (inI (l4 + 1) ∧ ((0 : Int) ≤ l5 ∧ ((l5 : Int) < 64 ∧ (inI (G9 (o + 2) l5) → (inI (l6 + 1) ∧ J 0 [o, l1, l2, l3, l4 + 1, G9 (o + 2) l5, l6 + 1] G9 Q))))))))))) ∧ (¬ (l6 < G (o + 3) l1) → PX11_overrides_53 J o l1 l2 l3 l4 l5 l6 G Q))))))
set_option maxRecDepth 20000 in
theorem TX11_overrides_9 {j : Nat → rx_K} {J : Nat → List Int → gS → (Int → gS → Prop) → Prop} {o : Int} {l1 : Int} {l2 : Int} {l3 : Int} {l4 : Int} {l5 : Int} {l6 : Int} {l7 : Nat} {l8 : Nat} {l9 : Nat} {l10 : Nat} {l11 : Nat} {G : gS} {Q : Int → gS → Prop} (hl1 : inI l1) (hl2 : inI l2) (hl4 : inI l4) (hl5 : inI l5) (hl6 : inI l6) (hl7 : l7 % 8 ≠ 1) (hl8 : l8 % 8 ≠ 1) (hl9 : l9 % 8 ≠ 1) (hl10 : l10 % 8 ≠ 1) (hl11 : l11 % 8 ≠ 1) (hj0 : ∀ (o : Int) (l1 : Int) (l2 : Int) (l3 : Int) (l4 : Int) (l5 : Int) (l6 : Int) (l7 : Nat) (l8 : Nat) (l9 : Nat) (l10 : Nat) (l11 : Nat) (G : gS), (inI l1) → (inI l2) → (inI l4) → (inI l5) → (inI l6) → (l7 % 8 ≠ 1) → (l8 % 8 ≠ 1) → (l9 % 8 ≠ 1) → (l10 % 8 ≠ 1) → (l11 % 8 ≠ 1) → J 0 [o, l1, l2, l3, l4, l5, l6] G Q → Tg W0 (j 0) [rf (o), cI (l1), cI (l2), rf (l3), cI (l4), cI (l5), cI (l6), l7, l8, l9, l10, l11] [] G (fun r G => ∃ v, r = cI v ∧ (0 ≤ v ∧ v ≤ 1) ∧ Q v G)) (hj1 : ∀ (o : Int) (l1 : Int) (l2 : Int) (l3 : Int) (l4 : Int) (l5 : Int) (l6 : Int) (l7 : Int) (l8 : Int) (l9 : Int) (l10 : Nat) (l11 : Nat) (G : gS), (inI l1) → (inI l2) → (inI l4) → (inI l5) → (inI l6) → (inI l7) → (inI l8) → (inI l9) → (l10 % 8 ≠ 1) → (l11 % 8 ≠ 1) → J 1 [o, l1, l2, l3, l4, l5, l6, l7, l8, l9] G Q → Tg W0 (j 1) [rf (o), cI (l1), cI (l2), rf (l3), cI (l4), cI (l5), cI (l6), cI (l7), cI (l8), cI (l9), l10, l11] [] G (fun r G => ∃ v, r = cI v ∧ (0 ≤ v ∧ v ≤ 1) ∧ Q v G)) (h : PX11_overrides_9 J o l1 l2 l3 l4 l5 l6 G Q) : Tg W0 (vX11_overrides_9 j) [rf (o), cI (l1), cI (l2), rf (l3), cI (l4), cI (l5), cI (l6), l7, l8, l9, l10, l11] [] G (fun r G => ∃ v, r = cI v ∧ (0 ≤ v ∧ v ≤ 1) ∧ Q v G) := by
  unfold PX11_overrides_9 at h
  unfold vX11_overrides_9
  refine g_ld (v := cI _) rfl (is_I _) ?_
  refine g_ld (v := rf _) rfl (is_R _) ?_
  obtain ⟨q1, h⟩ := h
  refine g_getF q1 (ff11_4 q1).1 rfl (Nat.le_of_ble_eq_true rfl) (Nat.le_of_ble_eq_true rfl) ?_
  refine g_ld (v := cI _) rfl (is_I _) ?_
  obtain ⟨q2, q3, h⟩ := h
  refine g_aldI (ff11_4 q1).2 q2 q3 rfl fun i4 => ?_
  replace h := h i4
  refine g_lt2 hl6 i4 (fun b5 => ?_) (fun b5 => ?_)
  · replace h := h.1 b5
    unfold vX11_overrides_20
    refine g_ld (v := cI _) rfl (is_I _) ?_
    refine g_ld (v := cI _) rfl (is_I _) ?_
    refine g_eq2 hl5 hl2 (fun b6 => ?_) (fun b6 => ?_)
    · replace h := h.1 b6
      exact TX11_overrides_53 hl1 hl2 hl4 hl5 hl6 hl7 hl8 hl9 hl10 hl11 hj0 hj1 h
    · replace h := h.2 b6
      unfold vX11_overrides_26
      refine g_ld (v := rf _) rfl (is_R _) ?_
      refine g_getF q1 (ff11_12 q1).1 rfl (Nat.le_of_ble_eq_true rfl) (Nat.le_of_ble_eq_true rfl) ?_
      refine g_ld (v := cI _) rfl (is_I _) ?_
      refine g_ld (v := cI _) rfl (is_I _) ?_
      obtain ⟨q7, q8, h⟩ := h
      refine g_astI (ff11_12 q1).2 q7 q8 hl5 (nfI (ff11_12 q1).2) ?_
      replace h := h _ rfl
      refine g_inc (lv' := [_, _, _, _, _, _, _, _, _, _, _, _]) rfl (Nat.le_of_ble_eq_true rfl) (Or.inr (n1_R _)) rfl ?_
      obtain ⟨q10, h⟩ := h
      refine g_ld (v := rf _) rfl (is_R _) ?_
      refine g_getF q1 (ff11_3 q1).1 rfl (Nat.le_of_ble_eq_true rfl) (Nat.le_of_ble_eq_true rfl) ?_
      refine g_ld (v := cI _) rfl (is_I _) ?_
      obtain ⟨q11, q12, h⟩ := h
      refine g_aldI (ff11_3 q1).2 q11 q12 rfl fun i13 => ?_
      replace h := h i13
      refine g_st (lv' := [_, _, _, _, _, _, _, _, _, _, _, _]) (is_I _) (Nat.le_of_ble_eq_true rfl) (Or.inr (n1_I _)) rfl ?_
      refine g_inc (lv' := [_, _, _, _, _, _, _, _, _, _, _, _]) rfl (Nat.le_of_ble_eq_true rfl) (Or.inr (n1_I _)) rfl ?_
      obtain ⟨q14, h⟩ := h
      exact hj0 _ _ _ _ _ _ _ _ _ _ _ _ _ hl1 hl2 q10 i13 q14 hl7 hl8 hl9 hl10 hl11 h
  · replace h := h.2 b5
    exact TX11_overrides_53 hl1 hl2 hl4 hl5 hl6 hl7 hl8 hl9 hl10 hl11 hj0 hj1 h
def PX11_overrides_0 (J : Nat → List Int → gS → (Int → gS → Prop) → Prop) (o : Int) (a1 : Int) (a2 : Int) (a3 : Int) (G : gS) (Q : Int → gS → Prop) : Prop :=
  PX11_overrides_9 J o a1 a2 a3 0 a1 0 G Q
set_option maxRecDepth 20000 in
theorem TX11_overrides_0 {j : Nat → rx_K} {J : Nat → List Int → gS → (Int → gS → Prop) → Prop} {o : Int} {a1 : Int} {a2 : Int} {a3 : Int} {G : gS} {Q : Int → gS → Prop} (ha1 : inI a1) (ha2 : inI a2) (hj0 : ∀ (o : Int) (l1 : Int) (l2 : Int) (l3 : Int) (l4 : Int) (l5 : Int) (l6 : Int) (l7 : Nat) (l8 : Nat) (l9 : Nat) (l10 : Nat) (l11 : Nat) (G : gS), (inI l1) → (inI l2) → (inI l4) → (inI l5) → (inI l6) → (l7 % 8 ≠ 1) → (l8 % 8 ≠ 1) → (l9 % 8 ≠ 1) → (l10 % 8 ≠ 1) → (l11 % 8 ≠ 1) → J 0 [o, l1, l2, l3, l4, l5, l6] G Q → Tg W0 (j 0) [rf (o), cI (l1), cI (l2), rf (l3), cI (l4), cI (l5), cI (l6), l7, l8, l9, l10, l11] [] G (fun r G => ∃ v, r = cI v ∧ (0 ≤ v ∧ v ≤ 1) ∧ Q v G)) (hj1 : ∀ (o : Int) (l1 : Int) (l2 : Int) (l3 : Int) (l4 : Int) (l5 : Int) (l6 : Int) (l7 : Int) (l8 : Int) (l9 : Int) (l10 : Nat) (l11 : Nat) (G : gS), (inI l1) → (inI l2) → (inI l4) → (inI l5) → (inI l6) → (inI l7) → (inI l8) → (inI l9) → (l10 % 8 ≠ 1) → (l11 % 8 ≠ 1) → J 1 [o, l1, l2, l3, l4, l5, l6, l7, l8, l9] G Q → Tg W0 (j 1) [rf (o), cI (l1), cI (l2), rf (l3), cI (l4), cI (l5), cI (l6), cI (l7), cI (l8), cI (l9), l10, l11] [] G (fun r G => ∃ v, r = cI v ∧ (0 ≤ v ∧ v ≤ 1) ∧ Q v G)) (h : PX11_overrides_0 J o a1 a2 a3 G Q) : Tg W0 (vX11_overrides_0 j) [rf (o), cI (a1), cI (a2), rf (a3), 7, 7, 7, 7, 7, 7, 7, 7] [] G (fun r G => ∃ v, r = cI v ∧ (0 ≤ v ∧ v ≤ 1) ∧ Q v G) := by
  unfold PX11_overrides_0 at h
  unfold vX11_overrides_0
  refine g_const (v := cI (0)) rfl ?_
  refine g_st (lv' := [_, _, _, _, _, _, _, _, _, _, _, _]) (is_I _) (Nat.le_of_ble_eq_true rfl) (Or.inr (n1_R _)) rfl ?_
  refine g_ld (v := cI _) rfl (is_I _) ?_
  refine g_st (lv' := [_, _, _, _, _, _, _, _, _, _, _, _]) (is_I _) (Nat.le_of_ble_eq_true rfl) (Or.inr (n1_I _)) rfl ?_
  refine g_const (v := cI (0)) rfl ?_
  refine g_st (lv' := [_, _, _, _, _, _, _, _, _, _, _, _]) (is_I _) (Nat.le_of_ble_eq_true rfl) (Or.inr (n1_I _)) rfl ?_
  exact TX11_overrides_9 ha1 ha2 ⟨by omega, by omega⟩ ha1 ⟨by omega, by omega⟩ (show 7 % 8 ≠ 1 by decide) (show 7 % 8 ≠ 1 by decide) (show 7 % 8 ≠ 1 by decide) (show 7 % 8 ≠ 1 by decide) (show 7 % 8 ≠ 1 by decide) hj0 hj1 h
def PX11_overrides_J : Nat → Nat → List Int → gS → (Int → gS → Prop) → Prop
  | 0, _, _, _, _ => False
  | f + 1, h, L, G, Q => match h, L with
    | 0, [o, l1, l2, l3, l4, l5, l6] => PX11_overrides_9 (PX11_overrides_J f) o l1 l2 l3 l4 l5 l6 G Q
    | 1, [o, l1, l2, l3, l4, l5, l6, l7, l8, l9] => PX11_overrides_107 (PX11_overrides_J f) o l1 l2 l3 l4 l5 l6 l7 l8 l9 G Q
    | _, _ => False
theorem TX11_overrides_J {Q : Int → gS → Prop} : ∀ f N : Nat, f ≤ N → (∀ (o : Int) (l1 : Int) (l2 : Int) (l3 : Int) (l4 : Int) (l5 : Int) (l6 : Int) (l7 : Nat) (l8 : Nat) (l9 : Nat) (l10 : Nat) (l11 : Nat) (G : gS), (inI l1) → (inI l2) → (inI l4) → (inI l5) → (inI l6) → (l7 % 8 ≠ 1) → (l8 % 8 ≠ 1) → (l9 % 8 ≠ 1) → (l10 % 8 ≠ 1) → (l11 % 8 ≠ 1) → (PX11_overrides_J f) 0 [o, l1, l2, l3, l4, l5, l6] G Q → Tg W0 (rx_J vhX11_overrides N 0) [rf (o), cI (l1), cI (l2), rf (l3), cI (l4), cI (l5), cI (l6), l7, l8, l9, l10, l11] [] G (fun r G => ∃ v, r = cI v ∧ (0 ≤ v ∧ v ≤ 1) ∧ Q v G)) ∧ (∀ (o : Int) (l1 : Int) (l2 : Int) (l3 : Int) (l4 : Int) (l5 : Int) (l6 : Int) (l7 : Int) (l8 : Int) (l9 : Int) (l10 : Nat) (l11 : Nat) (G : gS), (inI l1) → (inI l2) → (inI l4) → (inI l5) → (inI l6) → (inI l7) → (inI l8) → (inI l9) → (l10 % 8 ≠ 1) → (l11 % 8 ≠ 1) → (PX11_overrides_J f) 1 [o, l1, l2, l3, l4, l5, l6, l7, l8, l9] G Q → Tg W0 (rx_J vhX11_overrides N 1) [rf (o), cI (l1), cI (l2), rf (l3), cI (l4), cI (l5), cI (l6), cI (l7), cI (l8), cI (l9), l10, l11] [] G (fun r G => ∃ v, r = cI v ∧ (0 ≤ v ∧ v ≤ 1) ∧ Q v G)) := by
  intro f
  induction f with
  | zero => exact fun N _ => ⟨fun _ _ _ _ _ _ _ _ _ _ _ _ _ _ _ _ _ _ _ _ _ _ _ h => h.elim, fun _ _ _ _ _ _ _ _ _ _ _ _ _ _ _ _ _ _ _ _ _ _ _ h => h.elim⟩
  | succ f ih =>
    intro N hN
    obtain ⟨M, rfl⟩ : ∃ M, N = M + 1 := ⟨N - 1, by omega⟩
    have ih := ih M (by omega)
    exact ⟨fun _ _ _ _ _ _ _ _ _ _ _ _ _ hl1 hl2 hl4 hl5 hl6 hl7 hl8 hl9 hl10 hl11 h => show Tg W0 (vX11_overrides_9 (rx_J vhX11_overrides M)) _ _ _ _ from TX11_overrides_9 hl1 hl2 hl4 hl5 hl6 hl7 hl8 hl9 hl10 hl11 ih.1 ih.2 h, fun _ _ _ _ _ _ _ _ _ _ _ _ _ hl1 hl2 hl4 hl5 hl6 hl7 hl8 hl9 hl10 hl11 h => show Tg W0 (vX11_overrides_107 (rx_J vhX11_overrides M)) _ _ _ _ from TX11_overrides_107 hl1 hl2 hl4 hl5 hl6 hl7 hl8 hl9 hl10 hl11 ih.1 ih.2 h⟩
def PX11_overrides (o : Int) (a1 : Int) (a2 : Int) (a3 : Int) (G : gS) (Q : Int → gS → Prop) : Prop := ∃ f : Nat, f ≤ 4000000000 ∧ PX11_overrides_0 (PX11_overrides_J f) o a1 a2 a3 G Q
theorem TX11_overrides {o : Int} {a1 : Int} {a2 : Int} {a3 : Int} {G : gS} {Q : Int → gS → Prop} (ha1 : inI a1) (ha2 : inI a2) (h : PX11_overrides o a1 a2 a3 G Q) : Tn W0 FX11_overrides [rf (o), cI (a1), cI (a2), rf (a3)] G (fun r G => ∃ v, r = cI v ∧ (0 ≤ v ∧ v ≤ 1) ∧ Q v G) := by
  obtain ⟨f, hf, h⟩ := h
  have hJ := TX11_overrides_J (Q := Q) f 4000000000 hf
  unfold FX11_overrides
  refine g_ent (lv' := [rf (o), cI (a1), cI (a2), rf (a3), 7, 7, 7, 7, 7, 7, 7, 7]) (flR (flI (flI (flR fl0)))) (Nat.le_of_ble_eq_true rfl) rfl ?_
  exact TX11_overrides_0 ha1 ha2 hJ.1 hJ.2 h
end DE

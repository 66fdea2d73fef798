section DE
def PX13_mostSpecial_250 (J : Nat → List Int → gS → (Int → gS → Prop) → Prop) (l1 : Int) (l2 : Int) (l3 : Int) (l4 : Int) (l5 : Int) (l6 : Int) (l7 : Int) (l8 : Int) (G : gS) (Q : Int → gS → Prop) : Prop :=
  (inI (l6 + 1) ∧ J 1 [l1, l2, l3, l4, l5, l6 + 1] G Q)
set_option maxRecDepth 20000 in
theorem TX13_mostSpecial_250 {j : Nat → rx_K} {J : Nat → List Int → gS → (Int → gS → Prop) → Prop} {l1 : Int} {l2 : Int} {l3 : Int} {l4 : Int} {l5 : Int} {l6 : Int} {l7 : Int} {l8 : Int} {G : gS} {Q : Int → gS → Prop} (hl1 : inI l1) (hl2 : inI l2) (hl3 : inI l3) (hl4 : inI l4) (hl5 : inI l5) (hl6 : inI l6) (hl7 : inI l7) (hl8 : inI l8) (hj0 : ∀ (l1 : Int) (l2 : Int) (l3 : Int) (l4 : Int) (l5 : Int) (l6 : Nat) (l7 : Nat) (l8 : Nat) (G : gS), (inI l1) → (inI l2) → (inI l3) → (inI l4) → (inI l5) → (l6 % 8 ≠ 1) → (l7 % 8 ≠ 1) → (l8 % 8 ≠ 1) → J 0 [l1, l2, l3, l4, l5] G Q → Tg W0 (j 0) [rf (16081), cI (l1), cI (l2), cI (l3), cI (l4), cI (l5), l6, l7, l8] [] G (fun r G => ∃ v, r = cI v ∧ inI v ∧ Q v G)) (hj1 : ∀ (l1 : Int) (l2 : Int) (l3 : Int) (l4 : Int) (l5 : Int) (l6 : Int) (l7 : Nat) (l8 : Nat) (G : gS), (inI l1) → (inI l2) → (inI l3) → (inI l4) → (inI l5) → (inI l6) → (l7 % 8 ≠ 1) → (l8 % 8 ≠ 1) → J 1 [l1, l2, l3, l4, l5, l6] G Q → Tg W0 (j 1) [rf (16081), cI (l1), cI (l2), cI (l3), cI (l4), cI (l5), cI (l6), l7, l8] [] G (fun r G => ∃ v, r = cI v ∧ inI v ∧ Q v G)) (hj2 : ∀ (l1 : Int) (l2 : Int) (l3 : Int) (l4 : Int) (l5 : Int) (l6 : Int) (l7 : Int) (l8 : Int) (G : gS), (inI l1) → (inI l2) → (inI l3) → (inI l4) → (inI l5) → (inI l6) → (inI l7) → (inI l8) → J 2 [l1, l2, l3, l4, l5, l6, l7, l8] G Q → Tg W0 (j 2) [rf (16081), cI (l1), cI (l2), cI (l3), cI (l4), cI (l5), cI (l6), cI (l7), cI (l8)] [] G (fun r G => ∃ v, r = cI v ∧ inI v ∧ Q v G)) (h : PX13_mostSpecial_250 J l1 l2 l3 l4 l5 l6 l7 l8 G Q) : Tg W0 (vX13_mostSpecial_250 j) [rf (16081), cI (l1), cI (l2), cI (l3), cI (l4), cI (l5), cI (l6), cI (l7), cI (l8)] [] G (fun r G => ∃ v, r = cI v ∧ inI v ∧ Q v G) := by
  unfold PX13_mostSpecial_250 at h
  unfold vX13_mostSpecial_250
  refine g_inc (lv' := [_, _, _, _, _, _, _, _, _]) rfl (Nat.le_of_ble_eq_true rfl) (Or.inr (n1_I _)) rfl ?_
  obtain ⟨q76, h⟩ := h
  exact hj1 _ _ _ _ _ _ _ _ _ hl1 hl2 hl3 hl4 hl5 q76 (n1_I _) (n1_I _) h
def PX13_mostSpecial_216 (J : Nat → List Int → gS → (Int → gS → Prop) → Prop) (l1 : Int) (l2 : Int) (l3 : Int) (l4 : Int) (l5 : Int) (l6 : Int) (l7 : Int) (l8 : Int) (G : gS) (Q : Int → gS → Prop) : Prop :=
  ((l7 = 0 → PX13_mostSpecial_250 J l1 l2 l3 l4 l5 l6 l7 l8 G Q) ∧ (¬ (l7 = 0) → ((0 : Int) ≤ l6 ∧ ((l6 : Int) < 216 ∧ (inI (G 16168 l6) → ((0 : Int) ≤ G 16168 l6 ∧ ((G 16168 l6 : Int) < 7344 ∧ ((0 ≤ G 16121 (G 16168 l6) ∧ G 16121 (G 16168 l6) ≤ 1) → ((G 16121 (G 16168 l6) = 0 → ((0 : Int) ≤ l6 ∧ ((l6 : Int) < 216 ∧ (inI (G 16168 l6) → (∀ G73 : gS, G73 = uG G 16081 102 (G 16168 l6) → (inI (l5 + 1) ∧ PX13_mostSpecial_250 J l1 l2 l3 l4 (l5 + 1) l6 l7 l8 G73 Q)))))) ∧ (¬ (G 16121 (G 16168 l6) = 0) → PX13_mostSpecial_250 J l1 l2 l3 l4 l5 l6 l7 l8 G Q))))))))))
set_option maxRecDepth 20000 in
theorem TX13_mostSpecial_216 {j : Nat → rx_K} {J : Nat → List Int → gS → (Int → gS → Prop) → Prop} {l1 : Int} {l2 : Int} {l3 : Int} {l4 : Int} {l5 : Int} {l6 : Int} {l7 : Int} {l8 : Int} {G : gS} {Q : Int → gS → Prop} (hl1 : inI l1) (hl2 : inI l2) (hl3 : inI l3) (hl4 : inI l4) (hl5 : inI l5) (hl6 : inI l6) (hl7 : inI l7) (hl8 : inI l8) (hj0 : ∀ (l1 : Int) (l2 : Int) (l3 : Int) (l4 : Int) (l5 : Int) (l6 : Nat) (l7 : Nat) (l8 : Nat) (G : gS), (inI l1) → (inI l2) → (inI l3) → (inI l4) → (inI l5) → (l6 % 8 ≠ 1) → (l7 % 8 ≠ 1) → (l8 % 8 ≠ 1) → J 0 [l1, l2, l3, l4, l5] G Q → Tg W0 (j 0) [rf (16081), cI (l1), cI (l2), cI (l3), cI (l4), cI (l5), l6, l7, l8] [] G (fun r G => ∃ v, r = cI v ∧ inI v ∧ Q v G)) (hj1 : ∀ (l1 : Int) (l2 : Int) (l3 : Int) (l4 : Int) (l5 : Int) (l6 : Int) (l7 : Nat) (l8 : Nat) (G : gS), (inI l1) → (inI l2) → (inI l3) → (inI l4) → (inI l5) → (inI l6) → (l7 % 8 ≠ 1) → (l8 % 8 ≠ 1) → J 1 [l1, l2, l3, l4, l5, l6] G Q → Tg W0 (j 1) [rf (16081), cI (l1), cI (l2), cI (l3), cI (l4), cI (l5), cI (l6), l7, l8] [] G (fun r G => ∃ v, r = cI v ∧ inI v ∧ Q v G)) (hj2 : ∀ (l1 : Int) (l2 : Int) (l3 : Int) (l4 : Int) (l5 : Int) (l6 : Int) (l7 : Int) (l8 : Int) (G : gS), (inI l1) → (inI l2) → (inI l3) → (inI l4) → (inI l5) → (inI l6) → (inI l7) → (inI l8) → J 2 [l1, l2, l3, l4, l5, l6, l7, l8] G Q → Tg W0 (j 2) [rf (16081), cI (l1), cI (l2), cI (l3), cI (l4), cI (l5), cI (l6), cI (l7), cI (l8)] [] G (fun r G => ∃ v, r = cI v ∧ inI v ∧ Q v G)) (h : PX13_mostSpecial_216 J l1 l2 l3 l4 l5 l6 l7 l8 G Q) : Tg W0 (vX13_mostSpecial_216 j) [rf (16081), cI (l1), cI (l2), cI (l3), cI (l4), cI (l5), cI (l6), cI (l7), cI (l8)] [] G (fun r G => ∃ v, r = cI v ∧ inI v ∧ Q v G) := by
  unfold PX13_mostSpecial_216 at h
  unfold vX13_mostSpecial_216
  refine g_ld (v := cI _) rfl (is_I _) ?_
  refine g_eq1 hl7 (fun b62 => ?_) (fun b62 => ?_)
  · replace h := h.1 b62
    exact TX13_mostSpecial_250 hl1 hl2 hl3 hl4 hl5 hl6 hl7 hl8 hj0 hj1 hj2 h
  · replace h := h.2 b62
    unfold vX13_mostSpecial_221
    refine g_ld (v := rf _) rfl (is_R _) ?_
    refine g_getF (v := 16121) oC13 (hC13_47) rfl (Nat.le_of_ble_eq_true rfl) (Nat.le_of_ble_eq_true rfl) ?_
    refine g_ld (v := rf _) rfl (is_R _) ?_
    refine g_getF (v := 16168) oC13 (hC13_99) rfl (Nat.le_of_ble_eq_true rfl) (Nat.le_of_ble_eq_true rfl) ?_
    refine g_ld (v := cI _) rfl (is_I _) ?_
    obtain ⟨q63, q64, h⟩ := h
    refine g_aldI aC16168 q63 q64 rfl fun i65 => ?_
    replace h := h i65
    obtain ⟨q66, q67, h⟩ := h
    refine g_aldZ aC16121 q66 q67 rfl fun i68 => ?_
    replace h := h i68
    refine g_eq1 ⟨by omega, by omega⟩ (fun b69 => ?_) (fun b69 => ?_)
    · replace h := h.1 b69
      unfold vX13_mostSpecial_236
      refine g_ld (v := rf _) rfl (is_R _) ?_
      refine g_ld (v := rf _) rfl (is_R _) ?_
      refine g_getF (v := 16168) oC13 (hC13_99) rfl (Nat.le_of_ble_eq_true rfl) (Nat.le_of_ble_eq_true rfl) ?_
      refine g_ld (v := cI _) rfl (is_I _) ?_
      obtain ⟨q70, q71, h⟩ := h
      refine g_aldI aC16168 q70 q71 rfl fun i72 => ?_
      replace h := h i72
      refine g_putI (kz := 102) oC13 rfl (Nat.le_of_ble_eq_true rfl) rfl i72 (zfin_no (c := 16081) (j := 102) rfl) ?_
      replace h := h _ rfl
      refine g_inc (lv' := [_, _, _, _, _, _, _, _, _]) rfl (Nat.le_of_ble_eq_true rfl) (Or.inr (n1_I _)) rfl ?_
      obtain ⟨q74, h⟩ := h
      exact TX13_mostSpecial_250 hl1 hl2 hl3 hl4 q74 hl6 hl7 hl8 hj0 hj1 hj2 h
    · replace h := h.2 b69
      exact TX13_mostSpecial_250 hl1 hl2 hl3 hl4 hl5 hl6 hl7 hl8 hj0 hj1 hj2 h
def PX13_mostSpecial_208 (J : Nat → List Int → gS → (Int → gS → Prop) → Prop) (l1 : Int) (l2 : Int) (l3 : Int) (l4 : Int) (l5 : Int) (l6 : Int) (l7 : Int) (l8 : Int) (s0 : Int) (G : gS) (Q : Int → gS → Prop) : Prop :=
  (inI (l8 + 1) ∧ J 2 [l1, l2, l3, l4, l5, l6, s0, l8 + 1] G Q)
set_option maxRecDepth 20000 in
theorem TX13_mostSpecial_208 {j : Nat → rx_K} {J : Nat → List Int → gS → (Int → gS → Prop) → Prop} {l1 : Int} {l2 : Int} {l3 : Int} {l4 : Int} {l5 : Int} {l6 : Int} {l7 : Int} {l8 : Int} {s0 : Int} {G : gS} {Q : Int → gS → Prop} (hl1 : inI l1) (hl2 : inI l2) (hl3 : inI l3) (hl4 : inI l4) (hl5 : inI l5) (hl6 : inI l6) (hl7 : inI l7) (hl8 : inI l8) (hs0 : inI s0) (hj0 : ∀ (l1 : Int) (l2 : Int) (l3 : Int) (l4 : Int) (l5 : Int) (l6 : Nat) (l7 : Nat) (l8 : Nat) (G : gS), (inI l1) → (inI l2) → (inI l3) → (inI l4) → (inI l5) → (l6 % 8 ≠ 1) → (l7 % 8 ≠ 1) → (l8 % 8 ≠ 1) → J 0 [l1, l2, l3, l4, l5] G Q → Tg W0 (j 0) [rf (16081), cI (l1), cI (l2), cI (l3), cI (l4), cI (l5), l6, l7, l8] [] G (fun r G => ∃ v, r = cI v ∧ inI v ∧ Q v G)) (hj1 : ∀ (l1 : Int) (l2 : Int) (l3 : Int) (l4 : Int) (l5 : Int) (l6 : Int) (l7 : Nat) (l8 : Nat) (G : gS), (inI l1) → (inI l2) → (inI l3) → (inI l4) → (inI l5) → (inI l6) → (l7 % 8 ≠ 1) → (l8 % 8 ≠ 1) → J 1 [l1, l2, l3, l4, l5, l6] G Q → Tg W0 (j 1) [rf (16081), cI (l1), cI (l2), cI (l3), cI (l4), cI (l5), cI (l6), l7, l8] [] G (fun r G => ∃ v, r = cI v ∧ inI v ∧ Q v G)) (hj2 : ∀ (l1 : Int) (l2 : Int) (l3 : Int) (l4 : Int) (l5 : Int) (l6 : Int) (l7 : Int) (l8 : Int) (G : gS), (inI l1) → (inI l2) → (inI l3) → (inI l4) → (inI l5) → (inI l6) → (inI l7) → (inI l8) → J 2 [l1, l2, l3, l4, l5, l6, l7, l8] G Q → Tg W0 (j 2) [rf (16081), cI (l1), cI (l2), cI (l3), cI (l4), cI (l5), cI (l6), cI (l7), cI (l8)] [] G (fun r G => ∃ v, r = cI v ∧ inI v ∧ Q v G)) (h : PX13_mostSpecial_208 J l1 l2 l3 l4 l5 l6 l7 l8 s0 G Q) : Tg W0 (vX13_mostSpecial_208 j) [rf (16081), cI (l1), cI (l2), cI (l3), cI (l4), cI (l5), cI (l6), cI (l7), cI (l8)] [cI (s0)] G (fun r G => ∃ v, r = cI v ∧ inI v ∧ Q v G) := by
  unfold PX13_mostSpecial_208 at h
  unfold vX13_mostSpecial_208
  refine g_st (lv' := [_, _, _, _, _, _, _, _, _]) (is_I _) (Nat.le_of_ble_eq_true rfl) (Or.inr (n1_I _)) rfl ?_
  refine g_inc (lv' := [_, _, _, _, _, _, _, _, _]) rfl (Nat.le_of_ble_eq_true rfl) (Or.inr (n1_I _)) rfl ?_
  obtain ⟨q75, h⟩ := h
  exact hj2 _ _ _ _ _ _ _ _ _ hl1 hl2 hl3 hl4 hl5 hl6 hs0 q75 h
def PX13_mostSpecial_203 (J : Nat → List Int → gS → (Int → gS → Prop) → Prop) (l1 : Int) (l2 : Int) (l3 : Int) (l4 : Int) (l5 : Int) (l6 : Int) (l7 : Int) (l8 : Int) (G : gS) (Q : Int → gS → Prop) : Prop :=
  PX13_mostSpecial_208 J l1 l2 l3 l4 l5 l6 l7 l8 1 G Q
set_option maxRecDepth 20000 in
theorem TX13_mostSpecial_203 {j : Nat → rx_K} {J : Nat → List Int → gS → (Int → gS → Prop) → Prop} {l1 : Int} {l2 : Int} {l3 : Int} {l4 : Int} {l5 : Int} {l6 : Int} {l7 : Int} {l8 : Int} {G : gS} {Q : Int → gS → Prop} (hl1 : inI l1) (hl2 : inI l2) (hl3 : inI l3) (hl4 : inI l4) (hl5 : inI l5) (hl6 : inI l6) (hl7 : inI l7) (hl8 : inI l8) (hj0 : ∀ (l1 : Int) (l2 : Int) (l3 : Int) (l4 : Int) (l5 : Int) (l6 : Nat) (l7 : Nat) (l8 : Nat) (G : gS), (inI l1) → (inI l2) → (inI l3) → (inI l4) → (inI l5) → (l6 % 8 ≠ 1) → (l7 % 8 ≠ 1) → (l8 % 8 ≠ 1) → J 0 [l1, l2, l3, l4, l5] G Q → Tg W0 (j 0) [rf (16081), cI (l1), cI (l2), cI (l3), cI (l4), cI (l5), l6, l7, l8] [] G (fun r G => ∃ v, r = cI v ∧ inI v ∧ Q v G)) (hj1 : ∀ (l1 : Int) (l2 : Int) (l3 : Int) (l4 : Int) (l5 : Int) (l6 : Int) (l7 : Nat) (l8 : Nat) (G : gS), (inI l1) → (inI l2) → (inI l3) → (inI l4) → (inI l5) → (inI l6) → (l7 % 8 ≠ 1) → (l8 % 8 ≠ 1) → J 1 [l1, l2, l3, l4, l5, l6] G Q → Tg W0 (j 1) [rf (16081), cI (l1), cI (l2), cI (l3), cI (l4), cI (l5), cI (l6), l7, l8] [] G (fun r G => ∃ v, r = cI v ∧ inI v ∧ Q v G)) (hj2 : ∀ (l1 : Int) (l2 : Int) (l3 : Int) (l4 : Int) (l5 : Int) (l6 : Int) (l7 : Int) (l8 : Int) (G : gS), (inI l1) → (inI l2) → (inI l3) → (inI l4) → (inI l5) → (inI l6) → (inI l7) → (inI l8) → J 2 [l1, l2, l3, l4, l5, l6, l7, l8] G Q → Tg W0 (j 2) [rf (16081), cI (l1), cI (l2), cI (l3), cI (l4), cI (l5), cI (l6), cI (l7), cI (l8)] [] G (fun r G => ∃ v, r = cI v ∧ inI v ∧ Q v G)) (h : PX13_mostSpecial_203 J l1 l2 l3 l4 l5 l6 l7 l8 G Q) : Tg W0 (vX13_mostSpecial_203 j) [rf (16081), cI (l1), cI (l2), cI (l3), cI (l4), cI (l5), cI (l6), cI (l7), cI (l8)] [] G (fun r G => ∃ v, r = cI v ∧ inI v ∧ Q v G) := by
  unfold PX13_mostSpecial_203 at h
  unfold vX13_mostSpecial_203
  refine g_const (v := cI (1)) rfl ?_
  exact TX13_mostSpecial_208 hl1 hl2 hl3 hl4 hl5 hl6 hl7 hl8 ⟨by omega, by omega⟩ hj0 hj1 hj2 h
def PX13_mostSpecial_155 (J : Nat → List Int → gS → (Int → gS → Prop) → Prop) (l1 : Int) (l2 : Int) (l3 : Int) (l4 : Int) (l5 : Int) (l6 : Int) (l7 : Int) (l8 : Int) (G : gS) (Q : Int → gS → Prop) : Prop :=
  ((l8 < l4 → ((l7 = 0 → PX13_mostSpecial_216 J l1 l2 l3 l4 l5 l6 l7 l8 G Q) ∧ (¬ (l7 = 0) → ((l6 = l8 → PX13_mostSpecial_203 J l1 l2 l3 l4 l5 l6 l7 l8 G Q) ∧ (¬ (l6 = l8) → ((0 : Int) ≤ l8 ∧ ((l8 : Int) < 216 ∧ (inI (G 16168 l8) → PX13_classOfMember (G 16168 l8) G (fun r50 G49 => inI r50 → ((0 : Int) ≤ l6 ∧ ((l6 : Int) < 216 ∧ (inI (G49 16168 l6) → PX13_classOfMember (G49 16168 l6) G49 (fun r56 G55 => inI r56 → PX13_isHeir r50 r56 G55 (fun r59 G58 => (0 ≤ r59 ∧ r59 ≤ 1) → ((r59 = 0 → PX13_mostSpecial_203 J l1 l2 l3 l4 l5 l6 l7 l8 G58 Q) ∧ (¬ (r59 = 0) → PX13_mostSpecial_208 J l1 l2 l3 l4 l5 l6 l7 l8 0 G58 Q)))))))))))))))) ∧ (¬ (l8 < l4) → PX13_mostSpecial_216 J l1 l2 l3 l4 l5 l6 l7 l8 G Q))
set_option maxRecDepth 20000 in
theorem TX13_mostSpecial_155 {j : Nat → rx_K} {J : Nat → List Int → gS → (Int → gS → Prop) → Prop} {l1 : Int} {l2 : Int} {l3 : Int} {l4 : Int} {l5 : Int} {l6 : Int} {l7 : Int} {l8 : Int} {G : gS} {Q : Int → gS → Prop} (hl1 : inI l1) (hl2 : inI l2) (hl3 : inI l3) (hl4 : inI l4) (hl5 : inI l5) (hl6 : inI l6) (hl7 : inI l7) (hl8 : inI l8) (hj0 : ∀ (l1 : Int) (l2 : Int) (l3 : Int) (l4 : Int) (l5 : Int) (l6 : Nat) (l7 : Nat) (l8 : Nat) (G : gS), (inI l1) → (inI l2) → (inI l3) → (inI l4) → (inI l5) → (l6 % 8 ≠ 1) → (l7 % 8 ≠ 1) → (l8 % 8 ≠ 1) → J 0 [l1, l2, l3, l4, l5] G Q → Tg W0 (j 0) [rf (16081), cI (l1), cI (l2), cI (l3), cI (l4), cI (l5), l6, l7, l8] [] G (fun r G => ∃ v, r = cI v ∧ inI v ∧ Q v G)) (hj1 : ∀ (l1 : Int) (l2 : Int) (l3 : Int) (l4 : Int) (l5 : Int) (l6 : Int) (l7 : Nat) (l8 : Nat) (G : gS), (inI l1) → (inI l2) → (inI l3) → (inI l4) → (inI l5) → (inI l6) → (l7 % 8 ≠ 1) → (l8 % 8 ≠ 1) → J 1 [l1, l2, l3, l4, l5, l6] G Q → Tg W0 (j 1) [rf (16081), cI (l1), cI (l2), cI (l3), cI (l4), cI (l5), cI (l6), l7, l8] [] G (fun r G => ∃ v, r = cI v ∧ inI v ∧ Q v G)) (hj2 : ∀ (l1 : Int) (l2 : Int) (l3 : Int) (l4 : Int) (l5 : Int) (l6 : Int) (l7 : Int) (l8 : Int) (G : gS), (inI l1) → (inI l2) → (inI l3) → (inI l4) → (inI l5) → (inI l6) → (inI l7) → (inI l8) → J 2 [l1, l2, l3, l4, l5, l6, l7, l8] G Q → Tg W0 (j 2) [rf (16081), cI (l1), cI (l2), cI (l3), cI (l4), cI (l5), cI (l6), cI (l7), cI (l8)] [] G (fun r G => ∃ v, r = cI v ∧ inI v ∧ Q v G)) (h : PX13_mostSpecial_155 J l1 l2 l3 l4 l5 l6 l7 l8 G Q) : Tg W0 (vX13_mostSpecial_155 j) [rf (16081), cI (l1), cI (l2), cI (l3), cI (l4), cI (l5), cI (l6), cI (l7), cI (l8)] [] G (fun r G => ∃ v, r = cI v ∧ inI v ∧ Q v G) := by
  unfold PX13_mostSpecial_155 at h
  unfold vX13_mostSpecial_155
  refine g_ld (v := cI _) rfl (is_I _) ?_
  refine g_ld (v := cI _) rfl (is_I _) ?_
  refine g_lt2 hl8 hl4 (fun b43 => ?_) (fun b43 => ?_)
  · replace h := h.1 b43
    unfold vX13_mostSpecial_162
    refine g_ld (v := cI _) rfl (is_I _) ?_
    refine g_eq1 hl7 (fun b44 => ?_) (fun b44 => ?_)
    · replace h := h.1 b44
      exact TX13_mostSpecial_216 hl1 hl2 hl3 hl4 hl5 hl6 hl7 hl8 hj0 hj1 hj2 h
    · replace h := h.2 b44
      unfold vX13_mostSpecial_167
      refine g_ld (v := cI _) rfl (is_I _) ?_
      refine g_ld (v := cI _) rfl (is_I _) ?_
      refine g_eq2 hl6 hl8 (fun b45 => ?_) (fun b45 => ?_)
      · replace h := h.1 b45
        exact TX13_mostSpecial_203 hl1 hl2 hl3 hl4 hl5 hl6 hl7 hl8 hj0 hj1 hj2 h
      · replace h := h.2 b45
        unfold vX13_mostSpecial_174
        refine g_ld (v := rf _) rfl (is_R _) ?_
        refine g_ld (v := rf _) rfl (is_R _) ?_
        refine g_ld (v := rf _) rfl (is_R _) ?_
        refine g_getF (v := 16168) oC13 (hC13_99) rfl (Nat.le_of_ble_eq_true rfl) (Nat.le_of_ble_eq_true rfl) ?_
        refine g_ld (v := cI _) rfl (is_I _) ?_
        obtain ⟨q46, q47, h⟩ := h
        refine g_aldI aC16168 q46 q47 rfl fun i48 => ?_
        replace h := h i48
        refine g_callV (As := [_]) (ci := 13) oC13 (fun _ => rfl) ?_
        refine g_go1 (by simp only [cs_c, cs_0, ct_I, ct_L, ct_R]; exact Nat.le_of_ble_eq_true rfl) (Tn_w (TX13_classOfMember i48 h) fun _ G49 ⟨r50, e, i51, h⟩ => ?_)
        subst e
        refine ⟨n7_I _, ?_⟩
        replace h := h i51
        refine g_ld (v := rf _) rfl (is_R _) ?_
        refine g_ld (v := rf _) rfl (is_R _) ?_
        refine g_getF (v := 16168) oC13 (hC13_99) rfl (Nat.le_of_ble_eq_true rfl) (Nat.le_of_ble_eq_true rfl) ?_
        refine g_ld (v := cI _) rfl (is_I _) ?_
        obtain ⟨q52, q53, h⟩ := h
        refine g_aldI aC16168 q52 q53 rfl fun i54 => ?_
        replace h := h i54
        refine g_callV (As := [_]) (ci := 13) oC13 (fun _ => rfl) ?_
        refine g_go1 (by simp only [cs_c, cs_0, ct_I, ct_L, ct_R]; exact Nat.le_of_ble_eq_true rfl) (Tn_w (TX13_classOfMember i54 h) fun _ G55 ⟨r56, e, i57, h⟩ => ?_)
        subst e
        refine ⟨n7_I _, ?_⟩
        replace h := h i57
        refine g_callV (As := [_, _]) (ci := 13) oC13 (fun _ => rfl) ?_
        refine g_go1 (Nat.le_of_ble_eq_true rfl) (Tn_w (TX13_isHeir i51 i57 h) fun _ G58 ⟨r59, e, i60, h⟩ => ?_)
        subst e
        refine ⟨n7_I _, ?_⟩
        replace h := h i60
        refine g_eq1 ⟨by omega, by omega⟩ (fun b61 => ?_) (fun b61 => ?_)
        · replace h := h.1 b61
          exact TX13_mostSpecial_203 hl1 hl2 hl3 hl4 hl5 hl6 hl7 hl8 hj0 hj1 hj2 h
        · replace h := h.2 b61
          unfold vX13_mostSpecial_207
          refine g_const (v := cI (0)) rfl ?_
          exact TX13_mostSpecial_208 hl1 hl2 hl3 hl4 hl5 hl6 hl7 hl8 ⟨by omega, by omega⟩ hj0 hj1 hj2 h
  · replace h := h.2 b43
    exact TX13_mostSpecial_216 hl1 hl2 hl3 hl4 hl5 hl6 hl7 hl8 hj0 hj1 hj2 h
def PX13_mostSpecial_142 (J : Nat → List Int → gS → (Int → gS → Prop) → Prop) (l1 : Int) (l2 : Int) (l3 : Int) (l4 : Int) (l5 : Int) (l6 : Int) (G : gS) (Q : Int → gS → Prop) : Prop :=
  ((l6 < l4 → PX13_mostSpecial_155 J l1 l2 l3 l4 l5 l6 1 0 G Q) ∧ (¬ (l6 < l4) → Q (l5) G))
set_option maxRecDepth 20000 in
theorem TX13_mostSpecial_142 {j : Nat → rx_K} {J : Nat → List Int → gS → (Int → gS → Prop) → Prop} {l1 : Int} {l2 : Int} {l3 : Int} {l4 : Int} {l5 : Int} {l6 : Int} {l7 : Nat} {l8 : Nat} {G : gS} {Q : Int → gS → Prop} (hl1 : inI l1) (hl2 : inI l2) (hl3 : inI l3) (hl4 : inI l4) (hl5 : inI l5) (hl6 : inI l6) (hl7 : l7 % 8 ≠ 1) (hl8 : l8 % 8 ≠ 1) (hj0 : ∀ (l1 : Int) (l2 : Int) (l3 : Int) (l4 : Int) (l5 : Int) (l6 : Nat) (l7 : Nat) (l8 : Nat) (G : gS), (inI l1) → (inI l2) → (inI l3) → (inI l4) → (inI l5) → (l6 % 8 ≠ 1) → (l7 % 8 ≠ 1) → (l8 % 8 ≠ 1) → J 0 [l1, l2, l3, l4, l5] G Q → Tg W0 (j 0) [rf (16081), cI (l1), cI (l2), cI (l3), cI (l4), cI (l5), l6, l7, l8] [] G (fun r G => ∃ v, r = cI v ∧ inI v ∧ Q v G)) (hj1 : ∀ (l1 : Int) (l2 : Int) (l3 : Int) (l4 : Int) (l5 : Int) (l6 : Int) (l7 : Nat) (l8 : Nat) (G : gS), (inI l1) → (inI l2) → (inI l3) → (inI l4) → (inI l5) → (inI l6) → (l7 % 8 ≠ 1) → (l8 % 8 ≠ 1) → J 1 [l1, l2, l3, l4, l5, l6] G Q → Tg W0 (j 1) [rf (16081), cI (l1), cI (l2), cI (l3), cI (l4), cI (l5), cI (l6), l7, l8] [] G (fun r G => ∃ v, r = cI v ∧ inI v ∧ Q v G)) (hj2 : ∀ (l1 : Int) (l2 : Int) (l3 : Int) (l4 : Int) (l5 : Int) (l6 : Int) (l7 : Int) (l8 : Int) (G : gS), (inI l1) → (inI l2) → (inI l3) → (inI l4) → (inI l5) → (inI l6) → (inI l7) → (inI l8) → J 2 [l1, l2, l3, l4, l5, l6, l7, l8] G Q → Tg W0 (j 2) [rf (16081), cI (l1), cI (l2), cI (l3), cI (l4), cI (l5), cI (l6), cI (l7), cI (l8)] [] G (fun r G => ∃ v, r = cI v ∧ inI v ∧ Q v G)) (h : PX13_mostSpecial_142 J l1 l2 l3 l4 l5 l6 G Q) : Tg W0 (vX13_mostSpecial_142 j) [rf (16081), cI (l1), cI (l2), cI (l3), cI (l4), cI (l5), cI (l6), l7, l8] [] G (fun r G => ∃ v, r = cI v ∧ inI v ∧ Q v G) := by
  unfold PX13_mostSpecial_142 at h
  unfold vX13_mostSpecial_142
  refine g_ld (v := cI _) rfl (is_I _) ?_
  refine g_ld (v := cI _) rfl (is_I _) ?_
  refine g_lt2 hl6 hl4 (fun b41 => ?_) (fun b41 => ?_)
  · replace h := h.1 b41
    unfold vX13_mostSpecial_149
    refine g_const (v := cI (1)) rfl ?_
    refine g_st (lv' := [_, _, _, _, _, _, _, _, _]) (is_I _) (Nat.le_of_ble_eq_true rfl) (Or.inr (n1_I _)) rfl ?_
    refine g_const (v := cI (0)) rfl ?_
    refine g_st (lv' := [_, _, _, _, _, _, _, _, _]) (is_I _) (Nat.le_of_ble_eq_true rfl) (Or.inr (n1_I _)) rfl ?_
    exact TX13_mostSpecial_155 hl1 hl2 hl3 hl4 hl5 hl6 ⟨by omega, by omega⟩ ⟨by omega, by omega⟩ hj0 hj1 hj2 h
  · replace h := h.2 b41
    unfold vX13_mostSpecial_256
    refine g_ld (v := cI _) rfl (is_I _) ?_
    exact g_ret1 (is_I _) ⟨_, rfl, hl5, h⟩
def PX13_mostSpecial_124 (J : Nat → List Int → gS → (Int → gS → Prop) → Prop) (l1 : Int) (l2 : Int) (l3 : Int) (l4 : Int) (l5 : Int) (l6 : Int) (G : gS) (Q : Int → gS → Prop) : Prop :=
  (inI (l5 + 1) ∧ J 0 [l1, l2, l3, l4, l5 + 1] G Q)
set_option maxRecDepth 20000 in
theorem TX13_mostSpecial_124 {j : Nat → rx_K} {J : Nat → List Int → gS → (Int → gS → Prop) → Prop} {l1 : Int} {l2 : Int} {l3 : Int} {l4 : Int} {l5 : Int} {l6 : Int} {l7 : Nat} {l8 : Nat} {G : gS} {Q : Int → gS → Prop} (hl1 : inI l1) (hl2 : inI l2) (hl3 : inI l3) (hl4 : inI l4) (hl5 : inI l5) (hl6 : inI l6) (hl7 : l7 % 8 ≠ 1) (hl8 : l8 % 8 ≠ 1) (hj0 : ∀ (l1 : Int) (l2 : Int) (l3 : Int) (l4 : Int) (l5 : Int) (l6 : Nat) (l7 : Nat) (l8 : Nat) (G : gS), (inI l1) → (inI l2) → (inI l3) → (inI l4) → (inI l5) → (l6 % 8 ≠ 1) → (l7 % 8 ≠ 1) → (l8 % 8 ≠ 1) → J 0 [l1, l2, l3, l4, l5] G Q → Tg W0 (j 0) [rf (16081), cI (l1), cI (l2), cI (l3), cI (l4), cI (l5), l6, l7, l8] [] G (fun r G => ∃ v, r = cI v ∧ inI v ∧ Q v G)) (hj1 : ∀ (l1 : Int) (l2 : Int) (l3 : Int) (l4 : Int) (l5 : Int) (l6 : Int) (l7 : Nat) (l8 : Nat) (G : gS), (inI l1) → (inI l2) → (inI l3) → (inI l4) → (inI l5) → (inI l6) → (l7 % 8 ≠ 1) → (l8 % 8 ≠ 1) → J 1 [l1, l2, l3, l4, l5, l6] G Q → Tg W0 (j 1) [rf (16081), cI (l1), cI (l2), cI (l3), cI (l4), cI (l5), cI (l6), l7, l8] [] G (fun r G => ∃ v, r = cI v ∧ inI v ∧ Q v G)) (hj2 : ∀ (l1 : Int) (l2 : Int) (l3 : Int) (l4 : Int) (l5 : Int) (l6 : Int) (l7 : Int) (l8 : Int) (G : gS), (inI l1) → (inI l2) → (inI l3) → (inI l4) → (inI l5) → (inI l6) → (inI l7) → (inI l8) → J 2 [l1, l2, l3, l4, l5, l6, l7, l8] G Q → Tg W0 (j 2) [rf (16081), cI (l1), cI (l2), cI (l3), cI (l4), cI (l5), cI (l6), cI (l7), cI (l8)] [] G (fun r G => ∃ v, r = cI v ∧ inI v ∧ Q v G)) (h : PX13_mostSpecial_124 J l1 l2 l3 l4 l5 l6 G Q) : Tg W0 (vX13_mostSpecial_124 j) [rf (16081), cI (l1), cI (l2), cI (l3), cI (l4), cI (l5), cI (l6), l7, l8] [] G (fun r G => ∃ v, r = cI v ∧ inI v ∧ Q v G) := by
  unfold PX13_mostSpecial_124 at h
  unfold vX13_mostSpecial_124
  refine g_inc (lv' := [_, _, _, _, _, _, _, _, _]) rfl (Nat.le_of_ble_eq_true rfl) (Or.inr (n1_I _)) rfl ?_
  obtain ⟨q42, h⟩ := h
  exact hj0 _ _ _ _ _ _ _ _ _ hl1 hl2 hl3 hl4 q42 (n1_I _) hl7 hl8 h
def PX13_mostSpecial_94 (J : Nat → List Int → gS → (Int → gS → Prop) → Prop) (l1 : Int) (l2 : Int) (l3 : Int) (l4 : Int) (l5 : Int) (s0 : Int) (G : gS) (Q : Int → gS → Prop) : Prop :=
  ((s0 = -2 → PX13_mostSpecial_124 J l1 l2 l3 l4 l5 s0 G Q) ∧ (¬ (s0 = -2) → PX13_isFree s0 G (fun r34 G33 => (0 ≤ r34 ∧ r34 ≤ 1) → ((r34 = 0 → PX13_mostSpecial_124 J l1 l2 l3 l4 l5 s0 G33 Q) ∧ (¬ (r34 = 0) → (inI (l4 + 1) ∧ ((0 : Int) ≤ l4 ∧ ((l4 : Int) < 216 ∧ (∀ G40 : gS, G40 = uG G33 16168 l4 (s0) → PX13_mostSpecial_124 J l1 l2 l3 (l4 + 1) l5 s0 G40 Q)))))))))
set_option maxRecDepth 20000 in
theorem TX13_mostSpecial_94 {j : Nat → rx_K} {J : Nat → List Int → gS → (Int → gS → Prop) → Prop} {l1 : Int} {l2 : Int} {l3 : Int} {l4 : Int} {l5 : Int} {l6 : Nat} {l7 : Nat} {l8 : Nat} {s0 : Int} {G : gS} {Q : Int → gS → Prop} (hl1 : inI l1) (hl2 : inI l2) (hl3 : inI l3) (hl4 : inI l4) (hl5 : inI l5) (hl6 : l6 % 8 ≠ 1) (hl7 : l7 % 8 ≠ 1) (hl8 : l8 % 8 ≠ 1) (hs0 : inI s0) (hj0 : ∀ (l1 : Int) (l2 : Int) (l3 : Int) (l4 : Int) (l5 : Int) (l6 : Nat) (l7 : Nat) (l8 : Nat) (G : gS), (inI l1) → (inI l2) → (inI l3) → (inI l4) → (inI l5) → (l6 % 8 ≠ 1) → (l7 % 8 ≠ 1) → (l8 % 8 ≠ 1) → J 0 [l1, l2, l3, l4, l5] G Q → Tg W0 (j 0) [rf (16081), cI (l1), cI (l2), cI (l3), cI (l4), cI (l5), l6, l7, l8] [] G (fun r G => ∃ v, r = cI v ∧ inI v ∧ Q v G)) (hj1 : ∀ (l1 : Int) (l2 : Int) (l3 : Int) (l4 : Int) (l5 : Int) (l6 : Int) (l7 : Nat) (l8 : Nat) (G : gS), (inI l1) → (inI l2) → (inI l3) → (inI l4) → (inI l5) → (inI l6) → (l7 % 8 ≠ 1) → (l8 % 8 ≠ 1) → J 1 [l1, l2, l3, l4, l5, l6] G Q → Tg W0 (j 1) [rf (16081), cI (l1), cI (l2), cI (l3), cI (l4), cI (l5), cI (l6), l7, l8] [] G (fun r G => ∃ v, r = cI v ∧ inI v ∧ Q v G)) (hj2 : ∀ (l1 : Int) (l2 : Int) (l3 : Int) (l4 : Int) (l5 : Int) (l6 : Int) (l7 : Int) (l8 : Int) (G : gS), (inI l1) → (inI l2) → (inI l3) → (inI l4) → (inI l5) → (inI l6) → (inI l7) → (inI l8) → J 2 [l1, l2, l3, l4, l5, l6, l7, l8] G Q → Tg W0 (j 2) [rf (16081), cI (l1), cI (l2), cI (l3), cI (l4), cI (l5), cI (l6), cI (l7), cI (l8)] [] G (fun r G => ∃ v, r = cI v ∧ inI v ∧ Q v G)) (h : PX13_mostSpecial_94 J l1 l2 l3 l4 l5 s0 G Q) : Tg W0 (vX13_mostSpecial_94 j) [rf (16081), cI (l1), cI (l2), cI (l3), cI (l4), cI (l5), l6, l7, l8] [cI (s0)] G (fun r G => ∃ v, r = cI v ∧ inI v ∧ Q v G) := by
  unfold PX13_mostSpecial_94 at h
  unfold vX13_mostSpecial_94
  refine g_st (lv' := [_, _, _, _, _, _, _, _, _]) (is_I _) (Nat.le_of_ble_eq_true rfl) (Or.inr (n1_I _)) rfl ?_
  refine g_ld (v := cI _) rfl (is_I _) ?_
  refine g_const (v := cI (-2)) rfl ?_
  refine g_eq2 hs0 ⟨by omega, by omega⟩ (fun b32 => ?_) (fun b32 => ?_)
  · replace h := h.1 b32
    exact TX13_mostSpecial_124 hl1 hl2 hl3 hl4 hl5 hs0 hl7 hl8 hj0 hj1 hj2 h
  · replace h := h.2 b32
    unfold vX13_mostSpecial_103
    refine g_ld (v := rf _) rfl (is_R _) ?_
    refine g_ld (v := cI _) rfl (is_I _) ?_
    refine g_callV (As := [_]) (ci := 13) oC13 (fun _ => rfl) ?_
    refine g_go1 (Nat.le_of_ble_eq_true rfl) (Tn_w (TX13_isFree hs0 h) fun _ G33 ⟨r34, e, i35, h⟩ => ?_)
    subst e
    refine ⟨n7_I _, ?_⟩
    replace h := h i35
    refine g_eq1 ⟨by omega, by omega⟩ (fun b36 => ?_) (fun b36 => ?_)
    · replace h := h.1 b36
      exact TX13_mostSpecial_124 hl1 hl2 hl3 hl4 hl5 hs0 hl7 hl8 hj0 hj1 hj2 h
    · replace h := h.2 b36
      unfold vX13_mostSpecial_112
      refine g_ld (v := rf _) rfl (is_R _) ?_
      refine g_getF (v := 16168) oC13 (hC13_99) rfl (Nat.le_of_ble_eq_true rfl) (Nat.le_of_ble_eq_true rfl) ?_
      refine g_ld (v := cI _) rfl (is_I _) ?_
      refine g_inc (lv' := [_, _, _, _, _, _, _, _, _]) rfl (Nat.le_of_ble_eq_true rfl) (Or.inr (n1_I _)) rfl ?_
      obtain ⟨q37, h⟩ := h
      refine g_ld (v := cI _) rfl (is_I _) ?_
      obtain ⟨q38, q39, h⟩ := h
      refine g_astI aC16168 q38 q39 hs0 (nfI aC16168) ?_
      replace h := h _ rfl
      exact TX13_mostSpecial_124 hl1 hl2 hl3 q37 hl5 hs0 hl7 hl8 hj0 hj1 hj2 h
def PX13_mostSpecial_60 (J : Nat → List Int → gS → (Int → gS → Prop) → Prop) (l1 : Int) (l2 : Int) (l3 : Int) (l4 : Int) (l5 : Int) (G : gS) (Q : Int → gS → Prop) : Prop :=
  ((l5 < l3 → ((0 : Int) ≤ l5 ∧ ((l5 : Int) < 216 ∧ (inI (G 16169 l5) → ((G 16169 l5 = l1 → PX13_mostSpecial_94 J l1 l2 l3 l4 l5 (-2) G Q) ∧ (¬ (G 16169 l5 = l1) → ((0 : Int) ≤ l5 ∧ ((l5 : Int) < 216 ∧ (inI (G 16169 l5) → PX13_ownMethod (G 16169 l5) l2 G (fun r29 G28 => inI r29 → PX13_mostSpecial_94 J l1 l2 l3 l4 l5 r29 G28 Q)))))))))) ∧ (¬ (l5 < l3) → (∀ G31 : gS, G31 = uG G 16081 102 (-2) → PX13_mostSpecial_142 J l1 l2 l3 l4 0 0 G31 Q)))
set_option maxRecDepth 20000 in
theorem TX13_mostSpecial_60 {j : Nat → rx_K} {J : Nat → List Int → gS → (Int → gS → Prop) → Prop} {l1 : Int} {l2 : Int} {l3 : Int} {l4 : Int} {l5 : Int} {l6 : Nat} {l7 : Nat} {l8 : Nat} {G : gS} {Q : Int → gS → Prop} (hl1 : inI l1) (hl2 : inI l2) (hl3 : inI l3) (hl4 : inI l4) (hl5 : inI l5) (hl6 : l6 % 8 ≠ 1) (hl7 : l7 % 8 ≠ 1) (hl8 : l8 % 8 ≠ 1) (hj0 : ∀ (l1 : Int) (l2 : Int) (l3 : Int) (l4 : Int) (l5 : Int) (l6 : Nat) (l7 : Nat) (l8 : Nat) (G : gS), (inI l1) → (inI l2) → (inI l3) → (inI l4) → (inI l5) → (l6 % 8 ≠ 1) → (l7 % 8 ≠ 1) → (l8 % 8 ≠ 1) → J 0 [l1, l2, l3, l4, l5] G Q → Tg W0 (j 0) [rf (16081), cI (l1), cI (l2), cI (l3), cI (l4), cI (l5), l6, l7, l8] [] G (fun r G => ∃ v, r = cI v ∧ inI v ∧ Q v G)) (hj1 : ∀ (l1 : Int) (l2 : Int) (l3 : Int) (l4 : Int) (l5 : Int) (l6 : Int) (l7 : Nat) (l8 : Nat) (G : gS), (inI l1) → (inI l2) → (inI l3) → (inI l4) → (inI l5) → (inI l6) → (l7 % 8 ≠ 1) → (l8 % 8 ≠ 1) → J 1 [l1, l2, l3, l4, l5, l6] G Q → Tg W0 (j 1) [rf (16081), cI (l1), cI (l2), cI (l3), cI (l4), cI (l5), cI (l6), l7, l8] [] G (fun r G => ∃ v, r = cI v ∧ inI v ∧ Q v G)) (hj2 : ∀ (l1 : Int) (l2 : Int) (l3 : Int) (l4 : Int) (l5 : Int) (l6 : Int) (l7 : Int) (l8 : Int) (G : gS), (inI l1) → (inI l2) → (inI l3) → (inI l4) → (inI l5) → (inI l6) → (inI l7) → (inI l8) → J 2 [l1, l2, l3, l4, l5, l6, l7, l8] G Q → Tg W0 (j 2) [rf (16081), cI (l1), cI (l2), cI (l3), cI (l4), cI (l5), cI (l6), cI (l7), cI (l8)] [] G (fun r G => ∃ v, r = cI v ∧ inI v ∧ Q v G)) (h : PX13_mostSpecial_60 J l1 l2 l3 l4 l5 G Q) : Tg W0 (vX13_mostSpecial_60 j) [rf (16081), cI (l1), cI (l2), cI (l3), cI (l4), cI (l5), l6, l7, l8] [] G (fun r G => ∃ v, r = cI v ∧ inI v ∧ Q v G) := by
  unfold PX13_mostSpecial_60 at h
  unfold vX13_mostSpecial_60
  refine g_ld (v := cI _) rfl (is_I _) ?_
  refine g_ld (v := cI _) rfl (is_I _) ?_
  refine g_lt2 hl5 hl3 (fun b20 => ?_) (fun b20 => ?_)
  · replace h := h.1 b20
    unfold vX13_mostSpecial_66
    refine g_ld (v := rf _) rfl (is_R _) ?_
    refine g_getF (v := 16169) oC13 (hC13_100) rfl (Nat.le_of_ble_eq_true rfl) (Nat.le_of_ble_eq_true rfl) ?_
    refine g_ld (v := cI _) rfl (is_I _) ?_
    obtain ⟨q21, q22, h⟩ := h
    refine g_aldI aC16169 q21 q22 rfl fun i23 => ?_
    replace h := h i23
    refine g_ld (v := cI _) rfl (is_I _) ?_
    refine g_eq2 i23 hl1 (fun b24 => ?_) (fun b24 => ?_)
    · replace h := h.1 b24
      unfold vX13_mostSpecial_77
      refine g_const (v := cI (-2)) rfl ?_
      exact TX13_mostSpecial_94 hl1 hl2 hl3 hl4 hl5 hl6 hl7 hl8 ⟨by omega, by omega⟩ hj0 hj1 hj2 h
    · replace h := h.2 b24
      unfold vX13_mostSpecial_82
      refine g_ld (v := rf _) rfl (is_R _) ?_
      refine g_ld (v := rf _) rfl (is_R _) ?_
      refine g_getF (v := 16169) oC13 (hC13_100) rfl (Nat.le_of_ble_eq_true rfl) (Nat.le_of_ble_eq_true rfl) ?_
      refine g_ld (v := cI _) rfl (is_I _) ?_
      obtain ⟨q25, q26, h⟩ := h
      refine g_aldI aC16169 q25 q26 rfl fun i27 => ?_
      replace h := h i27
      refine g_ld (v := cI _) rfl (is_I _) ?_
      refine g_callV (As := [_, _]) (ci := 13) oC13 (fun _ => rfl) ?_
      refine g_go1 (Nat.le_of_ble_eq_true rfl) (Tn_w (TX13_ownMethod i27 hl2 h) fun _ G28 ⟨r29, e, i30, h⟩ => ?_)
      subst e
      refine ⟨n7_I _, ?_⟩
      replace h := h i30
      exact TX13_mostSpecial_94 hl1 hl2 hl3 hl4 hl5 hl6 hl7 hl8 i30 hj0 hj1 hj2 h
  · replace h := h.2 b20
    unfold vX13_mostSpecial_130
    refine g_ld (v := rf _) rfl (is_R _) ?_
    refine g_const (v := cI (-2)) rfl ?_
    refine g_putI (kz := 102) oC13 rfl (Nat.le_of_ble_eq_true rfl) rfl ⟨by omega, by omega⟩ (zfin_no (c := 16081) (j := 102) rfl) ?_
    replace h := h _ rfl
    refine g_const (v := cI (0)) rfl ?_
    refine g_st (lv' := [_, _, _, _, _, _, _, _, _]) (is_I _) (Nat.le_of_ble_eq_true rfl) (Or.inr (n1_I _)) rfl ?_
    refine g_const (v := cI (0)) rfl ?_
    refine g_st (lv' := [_, _, _, _, _, _, _, _, _]) (is_I _) (Nat.le_of_ble_eq_true rfl) (Or.inr (n1_I _)) rfl ?_
    exact TX13_mostSpecial_142 hl1 hl2 hl3 hl4 ⟨by omega, by omega⟩ ⟨by omega, by omega⟩ hl7 hl8 hj0 hj1 hj2 h
def PX13_mostSpecial_57 (J : Nat → List Int → gS → (Int → gS → Prop) → Prop) (l1 : Int) (l2 : Int) (l3 : Int) (l4 : Int) (G : gS) (Q : Int → gS → Prop) : Prop :=
  PX13_mostSpecial_60 J l1 l2 l3 l4 0 G Q
set_option maxRecDepth 20000 in
theorem TX13_mostSpecial_57 {j : Nat → rx_K} {J : Nat → List Int → gS → (Int → gS → Prop) → Prop} {l1 : Int} {l2 : Int} {l3 : Int} {l4 : Int} {l5 : Nat} {l6 : Nat} {l7 : Nat} {l8 : Nat} {G : gS} {Q : Int → gS → Prop} (hl1 : inI l1) (hl2 : inI l2) (hl3 : inI l3) (hl4 : inI l4) (hl5 : l5 % 8 ≠ 1) (hl6 : l6 % 8 ≠ 1) (hl7 : l7 % 8 ≠ 1) (hl8 : l8 % 8 ≠ 1) (hj0 : ∀ (l1 : Int) (l2 : Int) (l3 : Int) (l4 : Int) (l5 : Int) (l6 : Nat) (l7 : Nat) (l8 : Nat) (G : gS), (inI l1) → (inI l2) → (inI l3) → (inI l4) → (inI l5) → (l6 % 8 ≠ 1) → (l7 % 8 ≠ 1) → (l8 % 8 ≠ 1) → J 0 [l1, l2, l3, l4, l5] G Q → Tg W0 (j 0) [rf (16081), cI (l1), cI (l2), cI (l3), cI (l4), cI (l5), l6, l7, l8] [] G (fun r G => ∃ v, r = cI v ∧ inI v ∧ Q v G)) (hj1 : ∀ (l1 : Int) (l2 : Int) (l3 : Int) (l4 : Int) (l5 : Int) (l6 : Int) (l7 : Nat) (l8 : Nat) (G : gS), (inI l1) → (inI l2) → (inI l3) → (inI l4) → (inI l5) → (inI l6) → (l7 % 8 ≠ 1) → (l8 % 8 ≠ 1) → J 1 [l1, l2, l3, l4, l5, l6] G Q → Tg W0 (j 1) [rf (16081), cI (l1), cI (l2), cI (l3), cI (l4), cI (l5), cI (l6), l7, l8] [] G (fun r G => ∃ v, r = cI v ∧ inI v ∧ Q v G)) (hj2 : ∀ (l1 : Int) (l2 : Int) (l3 : Int) (l4 : Int) (l5 : Int) (l6 : Int) (l7 : Int) (l8 : Int) (G : gS), (inI l1) → (inI l2) → (inI l3) → (inI l4) → (inI l5) → (inI l6) → (inI l7) → (inI l8) → J 2 [l1, l2, l3, l4, l5, l6, l7, l8] G Q → Tg W0 (j 2) [rf (16081), cI (l1), cI (l2), cI (l3), cI (l4), cI (l5), cI (l6), cI (l7), cI (l8)] [] G (fun r G => ∃ v, r = cI v ∧ inI v ∧ Q v G)) (h : PX13_mostSpecial_57 J l1 l2 l3 l4 G Q) : Tg W0 (vX13_mostSpecial_57 j) [rf (16081), cI (l1), cI (l2), cI (l3), cI (l4), l5, l6, l7, l8] [] G (fun r G => ∃ v, r = cI v ∧ inI v ∧ Q v G) := by
  unfold PX13_mostSpecial_57 at h
  unfold vX13_mostSpecial_57
  refine g_const (v := cI (0)) rfl ?_
  refine g_st (lv' := [_, _, _, _, _, _, _, _, _]) (is_I _) (Nat.le_of_ble_eq_true rfl) (Or.inr (n1_I _)) rfl ?_
  exact TX13_mostSpecial_60 hl1 hl2 hl3 hl4 ⟨by omega, by omega⟩ hl6 hl7 hl8 hj0 hj1 hj2 h
def PX13_mostSpecial_0 (J : Nat → List Int → gS → (Int → gS → Prop) → Prop) (a1 : Int) (a2 : Int) (G : gS) (Q : Int → gS → Prop) : Prop :=
  PX13_allFaces a1 16169 G (fun r2 G1 => inI r2 → PX13_isFace a1 G1 (fun r5 G4 => (0 ≤ r5 ∧ r5 ≤ 1) → ((r5 = 0 → PX13_mostSpecial_57 J a1 a2 r2 0 G4 Q) ∧ (¬ (r5 = 0) → PX13_ownMethod a1 a2 G4 (fun r9 G8 => inI r9 → ((r9 = -2 → PX13_mostSpecial_57 J a1 a2 r2 0 G8 Q) ∧ (¬ (r9 = -2) → PX13_isFree r9 G8 (fun r13 G12 => (0 ≤ r13 ∧ r13 ≤ 1) → ((r13 = 0 → PX13_mostSpecial_57 J a1 a2 r2 0 G12 Q) ∧ (¬ (r13 = 0) → (inI (0 + 1) ∧ ((0 : Int) ≤ 0 ∧ ((0 : Int) < 216 ∧ (∀ G19 : gS, G19 = uG G12 16168 0 (r9) → PX13_mostSpecial_57 J a1 a2 r2 (0 + 1) G19 Q))))))))))))))
set_option maxRecDepth 20000 in
theorem TX13_mostSpecial_0 {j : Nat → rx_K} {J : Nat → List Int → gS → (Int → gS → Prop) → Prop} {a1 : Int} {a2 : Int} {G : gS} {Q : Int → gS → Prop} (ha1 : inI a1) (ha2 : inI a2) (hj0 : ∀ (l1 : Int) (l2 : Int) (l3 : Int) (l4 : Int) (l5 : Int) (l6 : Nat) (l7 : Nat) (l8 : Nat) (G : gS), (inI l1) → (inI l2) → (inI l3) → (inI l4) → (inI l5) → (l6 % 8 ≠ 1) → (l7 % 8 ≠ 1) → (l8 % 8 ≠ 1) → J 0 [l1, l2, l3, l4, l5] G Q → Tg W0 (j 0) [rf (16081), cI (l1), cI (l2), cI (l3), cI (l4), cI (l5), l6, l7, l8] [] G (fun r G => ∃ v, r = cI v ∧ inI v ∧ Q v G)) (hj1 : ∀ (l1 : Int) (l2 : Int) (l3 : Int) (l4 : Int) (l5 : Int) (l6 : Int) (l7 : Nat) (l8 : Nat) (G : gS), (inI l1) → (inI l2) → (inI l3) → (inI l4) → (inI l5) → (inI l6) → (l7 % 8 ≠ 1) → (l8 % 8 ≠ 1) → J 1 [l1, l2, l3, l4, l5, l6] G Q → Tg W0 (j 1) [rf (16081), cI (l1), cI (l2), cI (l3), cI (l4), cI (l5), cI (l6), l7, l8] [] G (fun r G => ∃ v, r = cI v ∧ inI v ∧ Q v G)) (hj2 : ∀ (l1 : Int) (l2 : Int) (l3 : Int) (l4 : Int) (l5 : Int) (l6 : Int) (l7 : Int) (l8 : Int) (G : gS), (inI l1) → (inI l2) → (inI l3) → (inI l4) → (inI l5) → (inI l6) → (inI l7) → (inI l8) → J 2 [l1, l2, l3, l4, l5, l6, l7, l8] G Q → Tg W0 (j 2) [rf (16081), cI (l1), cI (l2), cI (l3), cI (l4), cI (l5), cI (l6), cI (l7), cI (l8)] [] G (fun r G => ∃ v, r = cI v ∧ inI v ∧ Q v G)) (h : PX13_mostSpecial_0 J a1 a2 G Q) : Tg W0 (vX13_mostSpecial_0 j) [rf (16081), cI (a1), cI (a2), 7, 7, 7, 7, 7, 7] [] G (fun r G => ∃ v, r = cI v ∧ inI v ∧ Q v G) := by
  unfold PX13_mostSpecial_0 at h
  unfold vX13_mostSpecial_0
  refine g_ld (v := rf _) rfl (is_R _) ?_
  refine g_ld (v := cI _) rfl (is_I _) ?_
  refine g_ld (v := rf _) rfl (is_R _) ?_
  refine g_getF (v := 16169) oC13 (hC13_100) rfl (Nat.le_of_ble_eq_true rfl) (Nat.le_of_ble_eq_true rfl) ?_
  refine g_callV (As := [_, _]) (ci := 13) oC13 (fun _ => rfl) ?_
  refine g_go1 (Nat.le_of_ble_eq_true rfl) (Tn_w (TX13_allFaces ha1 h) fun _ G1 ⟨r2, e, i3, h⟩ => ?_)
  subst e
  refine ⟨n7_I _, ?_⟩
  replace h := h i3
  refine g_st (lv' := [_, _, _, _, _, _, _, _, _]) (is_I _) (Nat.le_of_ble_eq_true rfl) (Or.inr (n1_I _)) rfl ?_
  refine g_const (v := cI (0)) rfl ?_
  refine g_st (lv' := [_, _, _, _, _, _, _, _, _]) (is_I _) (Nat.le_of_ble_eq_true rfl) (Or.inr (n1_I _)) rfl ?_
  refine g_ld (v := rf _) rfl (is_R _) ?_
  refine g_ld (v := cI _) rfl (is_I _) ?_
  refine g_callV (As := [_]) (ci := 13) oC13 (fun _ => rfl) ?_
  refine g_go1 (Nat.le_of_ble_eq_true rfl) (Tn_w (TX13_isFace ha1 h) fun _ G4 ⟨r5, e, i6, h⟩ => ?_)
  subst e
  refine ⟨n7_I _, ?_⟩
  replace h := h i6
  refine g_eq1 ⟨by omega, by omega⟩ (fun b7 => ?_) (fun b7 => ?_)
  · replace h := h.1 b7
    exact TX13_mostSpecial_57 ha1 ha2 i3 ⟨by omega, by omega⟩ (show 7 % 8 ≠ 1 by decide) (show 7 % 8 ≠ 1 by decide) (show 7 % 8 ≠ 1 by decide) (show 7 % 8 ≠ 1 by decide) hj0 hj1 hj2 h
  · replace h := h.2 b7
    unfold vX13_mostSpecial_21
    refine g_ld (v := rf _) rfl (is_R _) ?_
    refine g_ld (v := cI _) rfl (is_I _) ?_
    refine g_ld (v := cI _) rfl (is_I _) ?_
    refine g_callV (As := [_, _]) (ci := 13) oC13 (fun _ => rfl) ?_
    refine g_go1 (Nat.le_of_ble_eq_true rfl) (Tn_w (TX13_ownMethod ha1 ha2 h) fun _ G8 ⟨r9, e, i10, h⟩ => ?_)
    subst e
    refine ⟨n7_I _, ?_⟩
    replace h := h i10
    refine g_st (lv' := [_, _, _, _, _, _, _, _, _]) (is_I _) (Nat.le_of_ble_eq_true rfl) (Or.inr (n1_I _)) rfl ?_
    refine g_ld (v := cI _) rfl (is_I _) ?_
    refine g_const (v := cI (-2)) rfl ?_
    refine g_eq2 i10 ⟨by omega, by omega⟩ (fun b11 => ?_) (fun b11 => ?_)
    · replace h := h.1 b11
      exact TX13_mostSpecial_57 ha1 ha2 i3 ⟨by omega, by omega⟩ (n1_I _) (show 7 % 8 ≠ 1 by decide) (show 7 % 8 ≠ 1 by decide) (show 7 % 8 ≠ 1 by decide) hj0 hj1 hj2 h
    · replace h := h.2 b11
      unfold vX13_mostSpecial_36
      refine g_ld (v := rf _) rfl (is_R _) ?_
      refine g_ld (v := cI _) rfl (is_I _) ?_
      refine g_callV (As := [_]) (ci := 13) oC13 (fun _ => rfl) ?_
      refine g_go1 (Nat.le_of_ble_eq_true rfl) (Tn_w (TX13_isFree i10 h) fun _ G12 ⟨r13, e, i14, h⟩ => ?_)
      subst e
      refine ⟨n7_I _, ?_⟩
      replace h := h i14
      refine g_eq1 ⟨by omega, by omega⟩ (fun b15 => ?_) (fun b15 => ?_)
      · replace h := h.1 b15
        exact TX13_mostSpecial_57 ha1 ha2 i3 ⟨by omega, by omega⟩ (n1_I _) (show 7 % 8 ≠ 1 by decide) (show 7 % 8 ≠ 1 by decide) (show 7 % 8 ≠ 1 by decide) hj0 hj1 hj2 h
      · replace h := h.2 b15
        unfold vX13_mostSpecial_45
        refine g_ld (v := rf _) rfl (is_R _) ?_
        refine g_getF (v := 16168) oC13 (hC13_99) rfl (Nat.le_of_ble_eq_true rfl) (Nat.le_of_ble_eq_true rfl) ?_
        refine g_ld (v := cI _) rfl (is_I _) ?_
        refine g_inc (lv' := [_, _, _, _, _, _, _, _, _]) rfl (Nat.le_of_ble_eq_true rfl) (Or.inr (n1_I _)) rfl ?_
        obtain ⟨q16, h⟩ := h
        refine g_ld (v := cI _) rfl (is_I _) ?_
        obtain ⟨q17, q18, h⟩ := h
        refine g_astI aC16168 q17 q18 i10 (nfI aC16168) ?_
        replace h := h _ rfl
        exact TX13_mostSpecial_57 ha1 ha2 i3 q16 (n1_I _) (show 7 % 8 ≠ 1 by decide) (show 7 % 8 ≠ 1 by decide) (show 7 % 8 ≠ 1 by decide) hj0 hj1 hj2 h
def PX13_mostSpecial_J : Nat → Nat → List Int → gS → (Int → gS → Prop) → Prop
  | 0, _, _, _, _ => False
  | f + 1, h, L, G, Q => match h, L with
    | 0, [l1, l2, l3, l4, l5] => PX13_mostSpecial_60 (PX13_mostSpecial_J f) l1 l2 l3 l4 l5 G Q
    | 1, [l1, l2, l3, l4, l5, l6] => PX13_mostSpecial_142 (PX13_mostSpecial_J f) l1 l2 l3 l4 l5 l6 G Q
    | 2, [l1, l2, l3, l4, l5, l6, l7, l8] => PX13_mostSpecial_155 (PX13_mostSpecial_J f) l1 l2 l3 l4 l5 l6 l7 l8 G Q
    | _, _ => False
theorem TX13_mostSpecial_J {Q : Int → gS → Prop} : ∀ f N : Nat, f ≤ N → (∀ (l1 : Int) (l2 : Int) (l3 : Int) (l4 : Int) (l5 : Int) (l6 : Nat) (l7 : Nat) (l8 : Nat) (G : gS), (inI l1) → (inI l2) → (inI l3) → (inI l4) → (inI l5) → (l6 % 8 ≠ 1) → (l7 % 8 ≠ 1) → (l8 % 8 ≠ 1) → (PX13_mostSpecial_J f) 0 [l1, l2, l3, l4, l5] G Q → Tg W0 (rx_J vhX13_mostSpecial N 0) [rf (16081), cI (l1), cI (l2), cI (l3), cI (l4), cI (l5), l6, l7, l8] [] G (fun r G => ∃ v, r = cI v ∧ inI v ∧ Q v G)) ∧ (∀ (l1 : Int) (l2 : Int) (l3 : Int) (l4 : Int) (l5 : Int) (l6 : Int) (l7 : Nat) (l8 : Nat) (G : gS), (inI l1) → (inI l2) → (inI l3) → (inI l4) → (inI l5) → (inI l6) → (l7 % 8 ≠ 1) → (l8 % 8 ≠ 1) → (PX13_mostSpecial_J f) 1 [l1, l2, l3, l4, l5, l6] G Q → Tg W0 (rx_J vhX13_mostSpecial N 1) [rf (16081), cI (l1), cI (l2), cI (l3), cI (l4), cI (l5), cI (l6), l7, l8] [] G (fun r G => ∃ v, r = cI v ∧ inI v ∧ Q v G)) ∧ (∀ (l1 : Int) (l2 : Int) (l3 : Int) (l4 : Int) (l5 : Int) (l6 : Int) (l7 : Int) (l8 : Int) (G : gS), (inI l1) → (inI l2) → (inI l3) → (inI l4) → (inI l5) → (inI l6) → (inI l7) → (inI l8) → (PX13_mostSpecial_J f) 2 [l1, l2, l3, l4, l5, l6, l7, l8] G Q → Tg W0 (rx_J vhX13_mostSpecial N 2) [rf (16081), cI (l1), cI (l2), cI (l3), cI (l4), cI (l5), cI (l6), cI (l7), cI (l8)] [] G (fun r G => ∃ v, r = cI v ∧ inI v ∧ Q v G)) := by
  intro f
  induction f with
  | zero => exact fun N _ => ⟨fun _ _ _ _ _ _ _ _ _ _ _ _ _ _ _ _ _ h => h.elim, fun _ _ _ _ _ _ _ _ _ _ _ _ _ _ _ _ _ h => h.elim, fun _ _ _ _ _ _ _ _ _ _ _ _ _ _ _ _ _ h => h.elim⟩
  | succ f ih =>
    intro N hN
    obtain ⟨M, rfl⟩ : ∃ M, N = M + 1 := ⟨N - 1, by omega⟩
    have ih := ih M (by omega)
    exact ⟨fun _ _ _ _ _ _ _ _ _ hl1 hl2 hl3 hl4 hl5 hl6 hl7 hl8 h => show Tg W0 (vX13_mostSpecial_60 (rx_J vhX13_mostSpecial M)) _ _ _ _ from TX13_mostSpecial_60 hl1 hl2 hl3 hl4 hl5 hl6 hl7 hl8 ih.1 ih.2.1 ih.2.2 h, fun _ _ _ _ _ _ _ _ _ hl1 hl2 hl3 hl4 hl5 hl6 hl7 hl8 h => show Tg W0 (vX13_mostSpecial_142 (rx_J vhX13_mostSpecial M)) _ _ _ _ from TX13_mostSpecial_142 hl1 hl2 hl3 hl4 hl5 hl6 hl7 hl8 ih.1 ih.2.1 ih.2.2 h, fun _ _ _ _ _ _ _ _ _ hl1 hl2 hl3 hl4 hl5 hl6 hl7 hl8 h => show Tg W0 (vX13_mostSpecial_155 (rx_J vhX13_mostSpecial M)) _ _ _ _ from TX13_mostSpecial_155 hl1 hl2 hl3 hl4 hl5 hl6 hl7 hl8 ih.1 ih.2.1 ih.2.2 h⟩
def PX13_mostSpecial (a1 : Int) (a2 : Int) (G : gS) (Q : Int → gS → Prop) : Prop := ∃ f : Nat, f ≤ 4000000000 ∧ PX13_mostSpecial_0 (PX13_mostSpecial_J f) a1 a2 G Q
theorem TX13_mostSpecial {a1 : Int} {a2 : Int} {G : gS} {Q : Int → gS → Prop} (ha1 : inI a1) (ha2 : inI a2) (h : PX13_mostSpecial a1 a2 G Q) : Tn W0 FX13_mostSpecial [rf (16081), cI (a1), cI (a2)] G (fun r G => ∃ v, r = cI v ∧ inI v ∧ Q v G) := by
  obtain ⟨f, hf, h⟩ := h
  have hJ := TX13_mostSpecial_J (Q := Q) f 4000000000 hf
  unfold FX13_mostSpecial
  refine g_ent (lv' := [rf (16081), cI (a1), cI (a2), 7, 7, 7, 7, 7, 7]) (flR (flI (flI fl0))) (Nat.le_of_ble_eq_true rfl) rfl ?_
  exact TX13_mostSpecial_0 ha1 ha2 hJ.1 hJ.2.1 hJ.2.2 h
def PX13_selected_166 (J : Nat → List Int → gS → (Int → gS → Prop) → Prop) (l1 : Int) (l2 : Int) (l3 : Int) (l4 : Int) (l5 : Int) (l6 : Int) (s0 : Int) (G : gS) (Q : Int → gS → Prop) : Prop :=
  Q (s0) G
set_option maxRecDepth 20000 in
theorem TX13_selected_166 {j : Nat → rx_K} {J : Nat → List Int → gS → (Int → gS → Prop) → Prop} {l1 : Int} {l2 : Int} {l3 : Int} {l4 : Int} {l5 : Int} {l6 : Int} {s0 : Int} {G : gS} {Q : Int → gS → Prop} (hl1 : inI l1) (hl2 : inI l2) (hl3 : inI l3) (hl4 : inI l4) (hl5 : inI l5) (hl6 : inI l6) (hs0 : inI s0) (hj0 : ∀ (l1 : Int) (l2 : Int) (l3 : Int) (l4 : Int) (l5 : Int) (l6 : Nat) (G : gS), (inI l1) → (inI l2) → (inI l3) → (inI l4) → (inI l5) → (l6 % 8 ≠ 1) → J 0 [l1, l2, l3, l4, l5] G Q → Tg W0 (j 0) [rf (16081), cI (l1), cI (l2), cI (l3), cI (l4), cI (l5), l6] [] G (fun r G => ∃ v, r = cI v ∧ inI v ∧ Q v G)) (h : PX13_selected_166 J l1 l2 l3 l4 l5 l6 s0 G Q) : Tg W0 (vX13_selected_166 j) [rf (16081), cI (l1), cI (l2), cI (l3), cI (l4), cI (l5), cI (l6)] [cI (s0)] G (fun r G => ∃ v, r = cI v ∧ inI v ∧ Q v G) := by
  unfold PX13_selected_166 at h
  unfold vX13_selected_166
  exact g_ret1 (is_I _) ⟨_, rfl, hs0, h⟩
def PX13_selected_132 (J : Nat → List Int → gS → (Int → gS → Prop) → Prop) (l1 : Int) (l2 : Int) (l3 : Int) (l4 : Int) (l5 : Int) (G : gS) (Q : Int → gS → Prop) : Prop :=
  PX13_mostSpecial l2 l1 G (fun r32 G31 => inI r32 → ((r32 = 1 → (inI (G31 16081 102) → PX13_selected_166 J l1 l2 l3 l4 l5 r32 (G31 16081 102) G31 Q)) ∧ (¬ (r32 = 1) → ((1 < r32 → PX13_selected_166 J l1 l2 l3 l4 l5 r32 (-3) G31 Q) ∧ (¬ (1 < r32) → PX13_selected_166 J l1 l2 l3 l4 l5 r32 (-6) G31 Q)))))
set_option maxRecDepth 20000 in
theorem TX13_selected_132 {j : Nat → rx_K} {J : Nat → List Int → gS → (Int → gS → Prop) → Prop} {l1 : Int} {l2 : Int} {l3 : Int} {l4 : Int} {l5 : Int} {l6 : Nat} {G : gS} {Q : Int → gS → Prop} (hl1 : inI l1) (hl2 : inI l2) (hl3 : inI l3) (hl4 : inI l4) (hl5 : inI l5) (hl6 : l6 % 8 ≠ 1) (hj0 : ∀ (l1 : Int) (l2 : Int) (l3 : Int) (l4 : Int) (l5 : Int) (l6 : Nat) (G : gS), (inI l1) → (inI l2) → (inI l3) → (inI l4) → (inI l5) → (l6 % 8 ≠ 1) → J 0 [l1, l2, l3, l4, l5] G Q → Tg W0 (j 0) [rf (16081), cI (l1), cI (l2), cI (l3), cI (l4), cI (l5), l6] [] G (fun r G => ∃ v, r = cI v ∧ inI v ∧ Q v G)) (h : PX13_selected_132 J l1 l2 l3 l4 l5 G Q) : Tg W0 (vX13_selected_132 j) [rf (16081), cI (l1), cI (l2), cI (l3), cI (l4), cI (l5), l6] [] G (fun r G => ∃ v, r = cI v ∧ inI v ∧ Q v G) := by
  unfold PX13_selected_132 at h
  unfold vX13_selected_132
  refine g_ld (v := rf _) rfl (is_R _) ?_
  refine g_ld (v := cI _) rfl (is_I _) ?_
  refine g_ld (v := cI _) rfl (is_I _) ?_
  refine g_callV (As := [_, _]) (ci := 13) oC13 (fun _ => rfl) ?_
  refine g_go1 (Nat.le_of_ble_eq_true rfl) (Tn_w (TX13_mostSpecial hl2 hl1 h) fun _ G31 ⟨r32, e, i33, h⟩ => ?_)
  subst e
  refine ⟨n7_I _, ?_⟩
  replace h := h i33
  refine g_st (lv' := [_, _, _, _, _, _, _]) (is_I _) (Nat.le_of_ble_eq_true rfl) (Or.inr (n1_I _)) rfl ?_
  refine g_ld (v := cI _) rfl (is_I _) ?_
  refine g_const (v := cI (1)) rfl ?_
  refine g_eq2 i33 ⟨by omega, by omega⟩ (fun b34 => ?_) (fun b34 => ?_)
  · replace h := h.1 b34
    unfold vX13_selected_146
    refine g_ld (v := rf _) rfl (is_R _) ?_
    refine g_getI (kz := 102) oC13 rfl (Nat.le_of_ble_eq_true rfl) rfl fun i35 => ?_
    replace h := h i35
    exact TX13_selected_166 hl1 hl2 hl3 hl4 hl5 i33 i35 hj0 h
  · replace h := h.2 b34
    unfold vX13_selected_153
    refine g_ld (v := cI _) rfl (is_I _) ?_
    refine g_const (v := cI (1)) rfl ?_
    refine g_gt2 i33 ⟨by omega, by omega⟩ (fun b36 => ?_) (fun b36 => ?_)
    · replace h := h.1 b36
      unfold vX13_selected_159
      refine g_const (v := cI (-3)) rfl ?_
      exact TX13_selected_166 hl1 hl2 hl3 hl4 hl5 i33 ⟨by omega, by omega⟩ hj0 h
    · replace h := h.2 b36
      unfold vX13_selected_164
      refine g_const (v := cI (-6)) rfl ?_
      exact TX13_selected_166 hl1 hl2 hl3 hl4 hl5 i33 ⟨by omega, by omega⟩ hj0 h
def PX13_selected_118 (J : Nat → List Int → gS → (Int → gS → Prop) → Prop) (l1 : Int) (l2 : Int) (l3 : Int) (l4 : Int) (l5 : Int) (l6 : Int) (G : gS) (Q : Int → gS → Prop) : Prop :=
  PX13_parent l4 G (fun r38 G37 => inI r38 → (inI (l5 + 1) ∧ J 0 [l1, l2, l3, r38, l5 + 1] G37 Q))
set_option maxRecDepth 20000 in
theorem TX13_selected_118 {j : Nat → rx_K} {J : Nat → List Int → gS → (Int → gS → Prop) → Prop} {l1 : Int} {l2 : Int} {l3 : Int} {l4 : Int} {l5 : Int} {l6 : Int} {G : gS} {Q : Int → gS → Prop} (hl1 : inI l1) (hl2 : inI l2) (hl3 : inI l3) (hl4 : inI l4) (hl5 : inI l5) (hl6 : inI l6) (hj0 : ∀ (l1 : Int) (l2 : Int) (l3 : Int) (l4 : Int) (l5 : Int) (l6 : Nat) (G : gS), (inI l1) → (inI l2) → (inI l3) → (inI l4) → (inI l5) → (l6 % 8 ≠ 1) → J 0 [l1, l2, l3, l4, l5] G Q → Tg W0 (j 0) [rf (16081), cI (l1), cI (l2), cI (l3), cI (l4), cI (l5), l6] [] G (fun r G => ∃ v, r = cI v ∧ inI v ∧ Q v G)) (h : PX13_selected_118 J l1 l2 l3 l4 l5 l6 G Q) : Tg W0 (vX13_selected_118 j) [rf (16081), cI (l1), cI (l2), cI (l3), cI (l4), cI (l5), cI (l6)] [] G (fun r G => ∃ v, r = cI v ∧ inI v ∧ Q v G) := by
  unfold PX13_selected_118 at h
  unfold vX13_selected_118
  refine g_ld (v := rf _) rfl (is_R _) ?_
  refine g_ld (v := cI _) rfl (is_I _) ?_
  refine g_callV (As := [_]) (ci := 13) oC13 (fun _ => rfl) ?_
  refine g_go1 (Nat.le_of_ble_eq_true rfl) (Tn_w (TX13_parent hl4 h) fun _ G37 ⟨r38, e, i39, h⟩ => ?_)
  subst e
  refine ⟨n7_I _, ?_⟩
  replace h := h i39
  refine g_st (lv' := [_, _, _, _, _, _, _]) (is_I _) (Nat.le_of_ble_eq_true rfl) (Or.inr (n1_I _)) rfl ?_
  refine g_inc (lv' := [_, _, _, _, _, _, _]) rfl (Nat.le_of_ble_eq_true rfl) (Or.inr (n1_I _)) rfl ?_
  obtain ⟨q40, h⟩ := h
  exact hj0 _ _ _ _ _ _ _ hl1 hl2 hl3 i39 q40 (n1_I _) h
def PX13_selected_117 (J : Nat → List Int → gS → (Int → gS → Prop) → Prop) (l1 : Int) (l2 : Int) (l3 : Int) (l4 : Int) (l5 : Int) (l6 : Int) (s0 : Int) (G : gS) (Q : Int → gS → Prop) : Prop :=
  Q (s0) G
set_option maxRecDepth 20000 in
theorem TX13_selected_117 {j : Nat → rx_K} {J : Nat → List Int → gS → (Int → gS → Prop) → Prop} {l1 : Int} {l2 : Int} {l3 : Int} {l4 : Int} {l5 : Int} {l6 : Int} {s0 : Int} {G : gS} {Q : Int → gS → Prop} (hl1 : inI l1) (hl2 : inI l2) (hl3 : inI l3) (hl4 : inI l4) (hl5 : inI l5) (hl6 : inI l6) (hs0 : inI s0) (hj0 : ∀ (l1 : Int) (l2 : Int) (l3 : Int) (l4 : Int) (l5 : Int) (l6 : Nat) (G : gS), (inI l1) → (inI l2) → (inI l3) → (inI l4) → (inI l5) → (l6 % 8 ≠ 1) → J 0 [l1, l2, l3, l4, l5] G Q → Tg W0 (j 0) [rf (16081), cI (l1), cI (l2), cI (l3), cI (l4), cI (l5), l6] [] G (fun r G => ∃ v, r = cI v ∧ inI v ∧ Q v G)) (h : PX13_selected_117 J l1 l2 l3 l4 l5 l6 s0 G Q) : Tg W0 (vX13_selected_117 j) [rf (16081), cI (l1), cI (l2), cI (l3), cI (l4), cI (l5), cI (l6)] [cI (s0)] G (fun r G => ∃ v, r = cI v ∧ inI v ∧ Q v G) := by
  unfold PX13_selected_117 at h
  unfold vX13_selected_117
  exact g_ret1 (is_I _) ⟨_, rfl, hs0, h⟩
def PX13_selected_100 (J : Nat → List Int → gS → (Int → gS → Prop) → Prop) (l1 : Int) (l2 : Int) (l3 : Int) (l4 : Int) (l5 : Int) (l6 : Int) (G : gS) (Q : Int → gS → Prop) : Prop :=
  ((0 : Int) ≤ l6 ∧ ((l6 : Int) < 7344 ∧ ((0 ≤ G 16121 l6 ∧ G 16121 l6 ≤ 1) → ((G 16121 l6 = 0 → PX13_selected_117 J l1 l2 l3 l4 l5 l6 l6 G Q) ∧ (¬ (G 16121 l6 = 0) → PX13_selected_117 J l1 l2 l3 l4 l5 l6 (-6) G Q)))))
set_option maxRecDepth 20000 in
theorem TX13_selected_100 {j : Nat → rx_K} {J : Nat → List Int → gS → (Int → gS → Prop) → Prop} {l1 : Int} {l2 : Int} {l3 : Int} {l4 : Int} {l5 : Int} {l6 : Int} {G : gS} {Q : Int → gS → Prop} (hl1 : inI l1) (hl2 : inI l2) (hl3 : inI l3) (hl4 : inI l4) (hl5 : inI l5) (hl6 : inI l6) (hj0 : ∀ (l1 : Int) (l2 : Int) (l3 : Int) (l4 : Int) (l5 : Int) (l6 : Nat) (G : gS), (inI l1) → (inI l2) → (inI l3) → (inI l4) → (inI l5) → (l6 % 8 ≠ 1) → J 0 [l1, l2, l3, l4, l5] G Q → Tg W0 (j 0) [rf (16081), cI (l1), cI (l2), cI (l3), cI (l4), cI (l5), l6] [] G (fun r G => ∃ v, r = cI v ∧ inI v ∧ Q v G)) (h : PX13_selected_100 J l1 l2 l3 l4 l5 l6 G Q) : Tg W0 (vX13_selected_100 j) [rf (16081), cI (l1), cI (l2), cI (l3), cI (l4), cI (l5), cI (l6)] [] G (fun r G => ∃ v, r = cI v ∧ inI v ∧ Q v G) := by
  unfold PX13_selected_100 at h
  unfold vX13_selected_100
  refine g_ld (v := rf _) rfl (is_R _) ?_
  refine g_getF (v := 16121) oC13 (hC13_47) rfl (Nat.le_of_ble_eq_true rfl) (Nat.le_of_ble_eq_true rfl) ?_
  refine g_ld (v := cI _) rfl (is_I _) ?_
  obtain ⟨q41, q42, h⟩ := h
  refine g_aldZ aC16121 q41 q42 rfl fun i43 => ?_
  replace h := h i43
  refine g_eq1 ⟨by omega, by omega⟩ (fun b44 => ?_) (fun b44 => ?_)
  · replace h := h.1 b44
    unfold vX13_selected_115
    refine g_ld (v := cI _) rfl (is_I _) ?_
    exact TX13_selected_117 hl1 hl2 hl3 hl4 hl5 hl6 hl6 hj0 h
  · replace h := h.2 b44
    unfold vX13_selected_110
    refine g_const (v := cI (-6)) rfl ?_
    exact TX13_selected_117 hl1 hl2 hl3 hl4 hl5 hl6 ⟨by omega, by omega⟩ hj0 h
def PX13_selected_41 (J : Nat → List Int → gS → (Int → gS → Prop) → Prop) (l1 : Int) (l2 : Int) (l3 : Int) (l4 : Int) (l5 : Int) (G : gS) (Q : Int → gS → Prop) : Prop :=
  ((l4 = -2 → PX13_selected_132 J l1 l2 l3 l4 l5 G Q) ∧ (¬ (l4 = -2) → ((l5 < 80 → PX13_ownMethod l4 l1 G (fun r18 G17 => inI r18 → ((r18 = -2 → PX13_selected_118 J l1 l2 l3 l4 l5 r18 G17 Q) ∧ (¬ (r18 = -2) → PX13_isFree r18 G17 (fun r22 G21 => (0 ≤ r22 ∧ r22 ≤ 1) → ((r22 = 0 → PX13_selected_118 J l1 l2 l3 l4 l5 r18 G21 Q) ∧ (¬ (r22 = 0) → ((r18 = l1 → PX13_selected_100 J l1 l2 l3 l4 l5 r18 G21 Q) ∧ (¬ (r18 = l1) → ((l3 = 0 → PX13_overrides r18 l1 G21 (fun r28 G27 => (0 ≤ r28 ∧ r28 ≤ 1) → ((r28 = 0 → PX13_selected_118 J l1 l2 l3 l4 l5 r18 G27 Q) ∧ (¬ (r28 = 0) → PX13_selected_100 J l1 l2 l3 l4 l5 r18 G27 Q)))) ∧ (¬ (l3 = 0) → PX13_selected_100 J l1 l2 l3 l4 l5 r18 G21 Q))))))))))) ∧ (¬ (l5 < 80) → PX13_selected_132 J l1 l2 l3 l4 l5 G Q))))
set_option maxRecDepth 20000 in
theorem TX13_selected_41 {j : Nat → rx_K} {J : Nat → List Int → gS → (Int → gS → Prop) → Prop} {l1 : Int} {l2 : Int} {l3 : Int} {l4 : Int} {l5 : Int} {l6 : Nat} {G : gS} {Q : Int → gS → Prop} (hl1 : inI l1) (hl2 : inI l2) (hl3 : inI l3) (hl4 : inI l4) (hl5 : inI l5) (hl6 : l6 % 8 ≠ 1) (hj0 : ∀ (l1 : Int) (l2 : Int) (l3 : Int) (l4 : Int) (l5 : Int) (l6 : Nat) (G : gS), (inI l1) → (inI l2) → (inI l3) → (inI l4) → (inI l5) → (l6 % 8 ≠ 1) → J 0 [l1, l2, l3, l4, l5] G Q → Tg W0 (j 0) [rf (16081), cI (l1), cI (l2), cI (l3), cI (l4), cI (l5), l6] [] G (fun r G => ∃ v, r = cI v ∧ inI v ∧ Q v G)) (h : PX13_selected_41 J l1 l2 l3 l4 l5 G Q) : Tg W0 (vX13_selected_41 j) [rf (16081), cI (l1), cI (l2), cI (l3), cI (l4), cI (l5), l6] [] G (fun r G => ∃ v, r = cI v ∧ inI v ∧ Q v G) := by
  unfold PX13_selected_41 at h
  unfold vX13_selected_41
  refine g_ld (v := cI _) rfl (is_I _) ?_
  refine g_const (v := cI (-2)) rfl ?_
  refine g_eq2 hl4 ⟨by omega, by omega⟩ (fun b15 => ?_) (fun b15 => ?_)
  · replace h := h.1 b15
    exact TX13_selected_132 hl1 hl2 hl3 hl4 hl5 hl6 hj0 h
  · replace h := h.2 b15
    unfold vX13_selected_48
    refine g_ld (v := cI _) rfl (is_I _) ?_
    refine g_const (v := cI (80)) rfl ?_
    refine g_lt2 hl5 ⟨by omega, by omega⟩ (fun b16 => ?_) (fun b16 => ?_)
    · replace h := h.1 b16
      unfold vX13_selected_55
      refine g_ld (v := rf _) rfl (is_R _) ?_
      refine g_ld (v := cI _) rfl (is_I _) ?_
      refine g_ld (v := cI _) rfl (is_I _) ?_
      refine g_callV (As := [_, _]) (ci := 13) oC13 (fun _ => rfl) ?_
      refine g_go1 (Nat.le_of_ble_eq_true rfl) (Tn_w (TX13_ownMethod hl4 hl1 h) fun _ G17 ⟨r18, e, i19, h⟩ => ?_)
      subst e
      refine ⟨n7_I _, ?_⟩
      replace h := h i19
      refine g_st (lv' := [_, _, _, _, _, _, _]) (is_I _) (Nat.le_of_ble_eq_true rfl) (Or.inr (n1_I _)) rfl ?_
      refine g_ld (v := cI _) rfl (is_I _) ?_
      refine g_const (v := cI (-2)) rfl ?_
      refine g_eq2 i19 ⟨by omega, by omega⟩ (fun b20 => ?_) (fun b20 => ?_)
      · replace h := h.1 b20
        exact TX13_selected_118 hl1 hl2 hl3 hl4 hl5 i19 hj0 h
      · replace h := h.2 b20
        unfold vX13_selected_71
        refine g_ld (v := rf _) rfl (is_R _) ?_
        refine g_ld (v := cI _) rfl (is_I _) ?_
        refine g_callV (As := [_]) (ci := 13) oC13 (fun _ => rfl) ?_
        refine g_go1 (Nat.le_of_ble_eq_true rfl) (Tn_w (TX13_isFree i19 h) fun _ G21 ⟨r22, e, i23, h⟩ => ?_)
        subst e
        refine ⟨n7_I _, ?_⟩
        replace h := h i23
        refine g_eq1 ⟨by omega, by omega⟩ (fun b24 => ?_) (fun b24 => ?_)
        · replace h := h.1 b24
          exact TX13_selected_118 hl1 hl2 hl3 hl4 hl5 i19 hj0 h
        · replace h := h.2 b24
          unfold vX13_selected_80
          refine g_ld (v := cI _) rfl (is_I _) ?_
          refine g_ld (v := cI _) rfl (is_I _) ?_
          refine g_eq2 i19 hl1 (fun b25 => ?_) (fun b25 => ?_)
          · replace h := h.1 b25
            exact TX13_selected_100 hl1 hl2 hl3 hl4 hl5 i19 hj0 h
          · replace h := h.2 b25
            unfold vX13_selected_86
            refine g_ld (v := cI _) rfl (is_I _) ?_
            refine g_eq1 hl3 (fun b26 => ?_) (fun b26 => ?_)
            · replace h := h.1 b26
              unfold vX13_selected_90
              refine g_ld (v := rf _) rfl (is_R _) ?_
              refine g_ld (v := cI _) rfl (is_I _) ?_
              refine g_ld (v := cI _) rfl (is_I _) ?_
              refine g_callV (As := [_, _]) (ci := 13) oC13 (fun _ => rfl) ?_
              refine g_go1 (Nat.le_of_ble_eq_true rfl) (Tn_w (TX13_overrides i19 hl1 h) fun _ G27 ⟨r28, e, i29, h⟩ => ?_)
              subst e
              refine ⟨n7_I _, ?_⟩
              replace h := h i29
              refine g_eq1 ⟨by omega, by omega⟩ (fun b30 => ?_) (fun b30 => ?_)
              · replace h := h.1 b30
                exact TX13_selected_118 hl1 hl2 hl3 hl4 hl5 i19 hj0 h
              · replace h := h.2 b30
                exact TX13_selected_100 hl1 hl2 hl3 hl4 hl5 i19 hj0 h
            · replace h := h.2 b26
              exact TX13_selected_100 hl1 hl2 hl3 hl4 hl5 i19 hj0 h
    · replace h := h.2 b16
      exact TX13_selected_132 hl1 hl2 hl3 hl4 hl5 hl6 hj0 h
def PX13_selected_24 (J : Nat → List Int → gS → (Int → gS → Prop) → Prop) (l1 : Int) (l2 : Int) (s0 : Int) (G : gS) (Q : Int → gS → Prop) : Prop :=
  Q (s0) G
set_option maxRecDepth 20000 in
theorem TX13_selected_24 {j : Nat → rx_K} {J : Nat → List Int → gS → (Int → gS → Prop) → Prop} {l1 : Int} {l2 : Int} {l3 : Nat} {l4 : Nat} {l5 : Nat} {l6 : Nat} {s0 : Int} {G : gS} {Q : Int → gS → Prop} (hl1 : inI l1) (hl2 : inI l2) (hl3 : l3 % 8 ≠ 1) (hl4 : l4 % 8 ≠ 1) (hl5 : l5 % 8 ≠ 1) (hl6 : l6 % 8 ≠ 1) (hs0 : inI s0) (hj0 : ∀ (l1 : Int) (l2 : Int) (l3 : Int) (l4 : Int) (l5 : Int) (l6 : Nat) (G : gS), (inI l1) → (inI l2) → (inI l3) → (inI l4) → (inI l5) → (l6 % 8 ≠ 1) → J 0 [l1, l2, l3, l4, l5] G Q → Tg W0 (j 0) [rf (16081), cI (l1), cI (l2), cI (l3), cI (l4), cI (l5), l6] [] G (fun r G => ∃ v, r = cI v ∧ inI v ∧ Q v G)) (h : PX13_selected_24 J l1 l2 s0 G Q) : Tg W0 (vX13_selected_24 j) [rf (16081), cI (l1), cI (l2), l3, l4, l5, l6] [cI (s0)] G (fun r G => ∃ v, r = cI v ∧ inI v ∧ Q v G) := by
  unfold PX13_selected_24 at h
  unfold vX13_selected_24
  exact g_ret1 (is_I _) ⟨_, rfl, hs0, h⟩
def PX13_selected_0 (J : Nat → List Int → gS → (Int → gS → Prop) → Prop) (a1 : Int) (a2 : Int) (G : gS) (Q : Int → gS → Prop) : Prop :=
  ((0 : Int) ≤ a1 ∧ ((a1 : Int) < 7344 ∧ (inI (G 16118 a1) → ((G 16118 a1 = 0 → ((0 : Int) ≤ a1 ∧ ((a1 : Int) < 7344 ∧ ((0 ≤ G 16121 a1 ∧ G 16121 a1 ≤ 1) → ((G 16121 a1 = 0 → PX13_selected_24 J a1 a2 a1 G Q) ∧ (¬ (G 16121 a1 = 0) → PX13_selected_24 J a1 a2 (-6) G Q)))))) ∧ (¬ (G 16118 a1 = 0) → PX13_classOfMember a1 G (fun r10 G9 => inI r10 → PX13_isFace r10 G9 (fun r13 G12 => (0 ≤ r13 ∧ r13 ≤ 1) → PX13_selected_41 J a1 a2 r13 a2 0 G12 Q)))))))
set_option maxRecDepth 20000 in
theorem TX13_selected_0 {j : Nat → rx_K} {J : Nat → List Int → gS → (Int → gS → Prop) → Prop} {a1 : Int} {a2 : Int} {G : gS} {Q : Int → gS → Prop} (ha1 : inI a1) (ha2 : inI a2) (hj0 : ∀ (l1 : Int) (l2 : Int) (l3 : Int) (l4 : Int) (l5 : Int) (l6 : Nat) (G : gS), (inI l1) → (inI l2) → (inI l3) → (inI l4) → (inI l5) → (l6 % 8 ≠ 1) → J 0 [l1, l2, l3, l4, l5] G Q → Tg W0 (j 0) [rf (16081), cI (l1), cI (l2), cI (l3), cI (l4), cI (l5), l6] [] G (fun r G => ∃ v, r = cI v ∧ inI v ∧ Q v G)) (h : PX13_selected_0 J a1 a2 G Q) : Tg W0 (vX13_selected_0 j) [rf (16081), cI (a1), cI (a2), 7, 7, 7, 7] [] G (fun r G => ∃ v, r = cI v ∧ inI v ∧ Q v G) := by
  unfold PX13_selected_0 at h
  unfold vX13_selected_0
  refine g_ld (v := rf _) rfl (is_R _) ?_
  refine g_getF (v := 16118) oC13 (hC13_44) rfl (Nat.le_of_ble_eq_true rfl) (Nat.le_of_ble_eq_true rfl) ?_
  refine g_ld (v := cI _) rfl (is_I _) ?_
  obtain ⟨q1, q2, h⟩ := h
  refine g_aldI aC16118 q1 q2 rfl fun i3 => ?_
  replace h := h i3
  refine g_eq1 i3 (fun b4 => ?_) (fun b4 => ?_)
  · replace h := h.1 b4
    unfold vX13_selected_9
    refine g_ld (v := rf _) rfl (is_R _) ?_
    refine g_getF (v := 16121) oC13 (hC13_47) rfl (Nat.le_of_ble_eq_true rfl) (Nat.le_of_ble_eq_true rfl) ?_
    refine g_ld (v := cI _) rfl (is_I _) ?_
    obtain ⟨q5, q6, h⟩ := h
    refine g_aldZ aC16121 q5 q6 rfl fun i7 => ?_
    replace h := h i7
    refine g_eq1 ⟨by omega, by omega⟩ (fun b8 => ?_) (fun b8 => ?_)
    · replace h := h.1 b8
      unfold vX13_selected_23
      refine g_ld (v := cI _) rfl (is_I _) ?_
      exact TX13_selected_24 ha1 ha2 (show 7 % 8 ≠ 1 by decide) (show 7 % 8 ≠ 1 by decide) (show 7 % 8 ≠ 1 by decide) (show 7 % 8 ≠ 1 by decide) ha1 hj0 h
    · replace h := h.2 b8
      unfold vX13_selected_18
      refine g_const (v := cI (-6)) rfl ?_
      exact TX13_selected_24 ha1 ha2 (show 7 % 8 ≠ 1 by decide) (show 7 % 8 ≠ 1 by decide) (show 7 % 8 ≠ 1 by decide) (show 7 % 8 ≠ 1 by decide) ⟨by omega, by omega⟩ hj0 h
  · replace h := h.2 b4
    unfold vX13_selected_25
    refine g_ld (v := rf _) rfl (is_R _) ?_
    refine g_ld (v := rf _) rfl (is_R _) ?_
    refine g_ld (v := cI _) rfl (is_I _) ?_
    refine g_callV (As := [_]) (ci := 13) oC13 (fun _ => rfl) ?_
    refine g_go1 (by simp only [cs_c, cs_0, ct_I, ct_L, ct_R]; exact Nat.le_of_ble_eq_true rfl) (Tn_w (TX13_classOfMember ha1 h) fun _ G9 ⟨r10, e, i11, h⟩ => ?_)
    subst e
    refine ⟨n7_I _, ?_⟩
    replace h := h i11
    refine g_callV (As := [_]) (ci := 13) oC13 (fun _ => rfl) ?_
    refine g_go1 (Nat.le_of_ble_eq_true rfl) (Tn_w (TX13_isFace i11 h) fun _ G12 ⟨r13, e, i14, h⟩ => ?_)
    subst e
    refine ⟨n7_I _, ?_⟩
    replace h := h i14
    refine g_st (lv' := [_, _, _, _, _, _, _]) (is_I _) (Nat.le_of_ble_eq_true rfl) (Or.inr (n1_I _)) rfl ?_
    refine g_ld (v := cI _) rfl (is_I _) ?_
    refine g_st (lv' := [_, _, _, _, _, _, _]) (is_I _) (Nat.le_of_ble_eq_true rfl) (Or.inr (n1_I _)) rfl ?_
    refine g_const (v := cI (0)) rfl ?_
    refine g_st (lv' := [_, _, _, _, _, _, _]) (is_I _) (Nat.le_of_ble_eq_true rfl) (Or.inr (n1_I _)) rfl ?_
    exact TX13_selected_41 ha1 ha2 ⟨by omega, by omega⟩ ha2 ⟨by omega, by omega⟩ (show 7 % 8 ≠ 1 by decide) hj0 h
def PX13_selected_J : Nat → Nat → List Int → gS → (Int → gS → Prop) → Prop
  | 0, _, _, _, _ => False
  | f + 1, h, L, G, Q => match h, L with
    | 0, [l1, l2, l3, l4, l5] => PX13_selected_41 (PX13_selected_J f) l1 l2 l3 l4 l5 G Q
    | _, _ => False
theorem TX13_selected_J {Q : Int → gS → Prop} : ∀ f N : Nat, f ≤ N → (∀ (l1 : Int) (l2 : Int) (l3 : Int) (l4 : Int) (l5 : Int) (l6 : Nat) (G : gS), (inI l1) → (inI l2) → (inI l3) → (inI l4) → (inI l5) → (l6 % 8 ≠ 1) → (PX13_selected_J f) 0 [l1, l2, l3, l4, l5] G Q → Tg W0 (rx_J vhX13_selected N 0) [rf (16081), cI (l1), cI (l2), cI (l3), cI (l4), cI (l5), l6] [] G (fun r G => ∃ v, r = cI v ∧ inI v ∧ Q v G)) := by
  intro f
  induction f with
  | zero => exact fun N _ => fun _ _ _ _ _ _ _ _ _ _ _ _ _ h => h.elim
  | succ f ih =>
    intro N hN
    obtain ⟨M, rfl⟩ : ∃ M, N = M + 1 := ⟨N - 1, by omega⟩
    have ih := ih M (by omega)
    exact fun _ _ _ _ _ _ _ hl1 hl2 hl3 hl4 hl5 hl6 h => show Tg W0 (vX13_selected_41 (rx_J vhX13_selected M)) _ _ _ _ from TX13_selected_41 hl1 hl2 hl3 hl4 hl5 hl6 ih h
def PX13_selected (a1 : Int) (a2 : Int) (G : gS) (Q : Int → gS → Prop) : Prop := ∃ f : Nat, f ≤ 4000000000 ∧ PX13_selected_0 (PX13_selected_J f) a1 a2 G Q
theorem TX13_selected {a1 : Int} {a2 : Int} {G : gS} {Q : Int → gS → Prop} (ha1 : inI a1) (ha2 : inI a2) (h : PX13_selected a1 a2 G Q) : Tn W0 FX13_selected [rf (16081), cI (a1), cI (a2)] G (fun r G => ∃ v, r = cI v ∧ inI v ∧ Q v G) := by
  obtain ⟨f, hf, h⟩ := h
  have hJ := TX13_selected_J (Q := Q) f 4000000000 hf
  unfold FX13_selected
  refine g_ent (lv' := [rf (16081), cI (a1), cI (a2), 7, 7, 7, 7]) (flR (flI (flI fl0))) (Nat.le_of_ble_eq_true rfl) rfl ?_
  exact TX13_selected_0 ha1 ha2 hJ h
def PX13_head_418 (J : Nat → List Int → gS → (Int → gS → Prop) → Prop) (l1 : Int) (l2 : Int) (G : gS) (Q : Int → gS → Prop) : Prop :=
  (inI (l2 + 1) ∧ J 2 [l1, l2 + 1] G Q)
set_option maxRecDepth 20000 in
theorem TX13_head_418 {j : Nat → rx_K} {J : Nat → List Int → gS → (Int → gS → Prop) → Prop} {l1 : Int} {l2 : Int} {l3 : Nat} {G : gS} {Q : Int → gS → Prop} (hl1 : inI l1) (hl2 : inI l2) (hl3 : l3 % 8 ≠ 1) (hj0 : ∀ (l1 : Int) (l2 : Int) (l3 : Nat) (G : gS), (inI l1) → (inI l2) → (l3 % 8 ≠ 1) → J 0 [l1, l2] G Q → Tg W0 (j 0) [rf (16081), cI (l1), cI (l2), l3] [] G (fun r G => r = 7 ∧ Q 0 G)) (hj1 : ∀ (l1 : Int) (l2 : Int) (l3 : Nat) (G : gS), (inI l1) → (inI l2) → (l3 % 8 ≠ 1) → J 1 [l1, l2] G Q → Tg W0 (j 1) [rf (16081), cI (l1), cI (l2), l3] [] G (fun r G => r = 7 ∧ Q 0 G)) (hj2 : ∀ (l1 : Int) (l2 : Int) (l3 : Nat) (G : gS), (inI l1) → (inI l2) → (l3 % 8 ≠ 1) → J 2 [l1, l2] G Q → Tg W0 (j 2) [rf (16081), cI (l1), cI (l2), l3] [] G (fun r G => r = 7 ∧ Q 0 G)) (h : PX13_head_418 J l1 l2 G Q) : Tg W0 (vX13_head_418 j) [rf (16081), cI (l1), cI (l2), l3] [] G (fun r G => r = 7 ∧ Q 0 G) := by
  unfold PX13_head_418 at h
  unfold vX13_head_418
  refine g_inc (lv' := [_, _, _, _]) rfl (Nat.le_of_ble_eq_true rfl) (Or.inr (n1_I _)) rfl ?_
  obtain ⟨q160, h⟩ := h
  exact hj2 _ _ _ _ hl1 q160 hl3 h
def PX13_head_368 (J : Nat → List Int → gS → (Int → gS → Prop) → Prop) (l1 : Int) (l2 : Int) (G : gS) (Q : Int → gS → Prop) : Prop :=
  ((0 : Int) ≤ l1 ∧ ((l1 : Int) < 216 ∧ (inI (G 16114 l1) → ((l2 < G 16114 l1 → (inI (G 16081 19) → ((0 : Int) ≤ (8 * l1) + l2 ∧ (((8 * l1) + l2 : Int) < 1728 ∧ (inL (G 16112 ((8 * l1) + l2)) → PX13_inSlot (G 16081 19) (G 16112 ((8 * l1) + l2)) G (fun r152 G151 => inI r152 → ((r152 = -2 → ((0 : Int) ≤ (8 * l1) + l2 ∧ (((8 * l1) + l2 : Int) < 1728 ∧ (inI (G151 16113 ((8 * l1) + l2)) → PX13_fault 5 (G151 16113 ((8 * l1) + l2)) G151 (fun _ G158 => PX13_head_418 J l1 l2 G158 Q))))) ∧ (¬ (r152 = -2) → PX13_head_418 J l1 l2 G151 Q)))))))) ∧ (¬ (l2 < G 16114 l1) → Q 0 G)))))
set_option maxRecDepth 20000 in
theorem TX13_head_368 {j : Nat → rx_K} {J : Nat → List Int → gS → (Int → gS → Prop) → Prop} {l1 : Int} {l2 : Int} {l3 : Nat} {G : gS} {Q : Int → gS → Prop} (hl1 : inI l1) (hl2 : inI l2) (hl3 : l3 % 8 ≠ 1) (hj0 : ∀ (l1 : Int) (l2 : Int) (l3 : Nat) (G : gS), (inI l1) → (inI l2) → (l3 % 8 ≠ 1) → J 0 [l1, l2] G Q → Tg W0 (j 0) [rf (16081), cI (l1), cI (l2), l3] [] G (fun r G => r = 7 ∧ Q 0 G)) (hj1 : ∀ (l1 : Int) (l2 : Int) (l3 : Nat) (G : gS), (inI l1) → (inI l2) → (l3 % 8 ≠ 1) → J 1 [l1, l2] G Q → Tg W0 (j 1) [rf (16081), cI (l1), cI (l2), l3] [] G (fun r G => r = 7 ∧ Q 0 G)) (hj2 : ∀ (l1 : Int) (l2 : Int) (l3 : Nat) (G : gS), (inI l1) → (inI l2) → (l3 % 8 ≠ 1) → J 2 [l1, l2] G Q → Tg W0 (j 2) [rf (16081), cI (l1), cI (l2), l3] [] G (fun r G => r = 7 ∧ Q 0 G)) (h : PX13_head_368 J l1 l2 G Q) : Tg W0 (vX13_head_368 j) [rf (16081), cI (l1), cI (l2), l3] [] G (fun r G => r = 7 ∧ Q 0 G) := by
  unfold PX13_head_368 at h
  unfold vX13_head_368
  refine g_ld (v := cI _) rfl (is_I _) ?_
  refine g_ld (v := rf _) rfl (is_R _) ?_
  refine g_getF (v := 16114) oC13 (hC13_40) rfl (Nat.le_of_ble_eq_true rfl) (Nat.le_of_ble_eq_true rfl) ?_
  refine g_ld (v := cI _) rfl (is_I _) ?_
  obtain ⟨q143, q144, h⟩ := h
  refine g_aldI aC16114 q143 q144 rfl fun i145 => ?_
  replace h := h i145
  refine g_lt2 hl2 i145 (fun b146 => ?_) (fun b146 => ?_)
  · replace h := h.1 b146
    unfold vX13_head_378
    refine g_ld (v := rf _) rfl (is_R _) ?_
    refine g_ld (v := rf _) rfl (is_R _) ?_
    refine g_getI (kz := 19) oC13 rfl (Nat.le_of_ble_eq_true rfl) rfl fun i147 => ?_
    replace h := h i147
    refine g_ld (v := rf _) rfl (is_R _) ?_
    refine g_getF (v := 16112) oC13 (hC13_38) rfl (Nat.le_of_ble_eq_true rfl) (Nat.le_of_ble_eq_true rfl) ?_
    refine g_const (v := cI (8)) rfl ?_
    refine g_ld (v := cI _) rfl (is_I _) ?_
    refine g_mul ?_
    refine g_ld (v := cI _) rfl (is_I _) ?_
    refine g_add ?_
    obtain ⟨q148, q149, h⟩ := h
    refine g_aldL aC16112 q148 q149 rfl fun i150 => ?_
    replace h := h i150
    refine g_callV (As := [_, _]) (ci := 13) oC13 (fun _ => rfl) ?_
    refine g_go1 (Nat.le_of_ble_eq_true rfl) (Tn_w (TX13_inSlot i147 i150 h) fun _ G151 ⟨r152, e, i153, h⟩ => ?_)
    subst e
    refine ⟨n7_I _, ?_⟩
    replace h := h i153
    refine g_const (v := cI (-2)) rfl ?_
    refine g_eq2 i153 ⟨by omega, by omega⟩ (fun b154 => ?_) (fun b154 => ?_)
    · replace h := h.1 b154
      unfold vX13_head_402
      refine g_ld (v := rf _) rfl (is_R _) ?_
      refine g_const (v := cI (5)) rfl ?_
      refine g_ld (v := rf _) rfl (is_R _) ?_
      refine g_getF (v := 16113) oC13 (hC13_39) rfl (Nat.le_of_ble_eq_true rfl) (Nat.le_of_ble_eq_true rfl) ?_
      refine g_const (v := cI (8)) rfl ?_
      refine g_ld (v := cI _) rfl (is_I _) ?_
      refine g_mul ?_
      refine g_ld (v := cI _) rfl (is_I _) ?_
      refine g_add ?_
      obtain ⟨q155, q156, h⟩ := h
      refine g_aldI aC16113 q155 q156 rfl fun i157 => ?_
      replace h := h i157
      refine g_callV (As := [_, _]) (ci := 13) oC13 (fun _ => rfl) ?_
      refine g_go0 (Nat.le_of_ble_eq_true rfl) (Tn_w (TX13_fault ⟨by omega, by omega⟩ i157 h) fun _ G158 ⟨e, h⟩ => ⟨e, ?_⟩)
      exact TX13_head_418 hl1 hl2 hl3 hj0 hj1 hj2 h
    · replace h := h.2 b154
      exact TX13_head_418 hl1 hl2 hl3 hj0 hj1 hj2 h
  · replace h := h.2 b146
    unfold vX13_head_424
    exact g_ret0 ⟨rfl, h⟩
def PX13_head_360 (J : Nat → List Int → gS → (Int → gS → Prop) → Prop) (l1 : Int) (l2 : Int) (l3 : Int) (G : gS) (Q : Int → gS → Prop) : Prop :=
  (inI (l2 + 1) ∧ J 1 [l1, l2 + 1] G Q)
set_option maxRecDepth 20000 in
theorem TX13_head_360 {j : Nat → rx_K} {J : Nat → List Int → gS → (Int → gS → Prop) → Prop} {l1 : Int} {l2 : Int} {l3 : Int} {G : gS} {Q : Int → gS → Prop} (hl1 : inI l1) (hl2 : inI l2) (hl3 : inI l3) (hj0 : ∀ (l1 : Int) (l2 : Int) (l3 : Nat) (G : gS), (inI l1) → (inI l2) → (l3 % 8 ≠ 1) → J 0 [l1, l2] G Q → Tg W0 (j 0) [rf (16081), cI (l1), cI (l2), l3] [] G (fun r G => r = 7 ∧ Q 0 G)) (hj1 : ∀ (l1 : Int) (l2 : Int) (l3 : Nat) (G : gS), (inI l1) → (inI l2) → (l3 % 8 ≠ 1) → J 1 [l1, l2] G Q → Tg W0 (j 1) [rf (16081), cI (l1), cI (l2), l3] [] G (fun r G => r = 7 ∧ Q 0 G)) (hj2 : ∀ (l1 : Int) (l2 : Int) (l3 : Nat) (G : gS), (inI l1) → (inI l2) → (l3 % 8 ≠ 1) → J 2 [l1, l2] G Q → Tg W0 (j 2) [rf (16081), cI (l1), cI (l2), l3] [] G (fun r G => r = 7 ∧ Q 0 G)) (h : PX13_head_360 J l1 l2 l3 G Q) : Tg W0 (vX13_head_360 j) [rf (16081), cI (l1), cI (l2), cI (l3)] [] G (fun r G => r = 7 ∧ Q 0 G) := by
  unfold PX13_head_360 at h
  unfold vX13_head_360
  refine g_inc (lv' := [_, _, _, _]) rfl (Nat.le_of_ble_eq_true rfl) (Or.inr (n1_I _)) rfl ?_
  obtain ⟨q142, h⟩ := h
  exact hj1 _ _ _ _ hl1 q142 (n1_I _) h
def PX13_head_344 (J : Nat → List Int → gS → (Int → gS → Prop) → Prop) (l1 : Int) (l2 : Int) (l3 : Int) (G : gS) (Q : Int → gS → Prop) : Prop :=
  ((0 : Int) ≤ (8 * l1) + l2 ∧ (((8 * l1) + l2 : Int) < 1728 ∧ (inI (G 16110 ((8 * l1) + l2)) → PX13_fault 5 (G 16110 ((8 * l1) + l2)) G (fun _ G140 => PX13_head_360 J l1 l2 l3 G140 Q))))
set_option maxRecDepth 20000 in
theorem TX13_head_344 {j : Nat → rx_K} {J : Nat → List Int → gS → (Int → gS → Prop) → Prop} {l1 : Int} {l2 : Int} {l3 : Int} {G : gS} {Q : Int → gS → Prop} (hl1 : inI l1) (hl2 : inI l2) (hl3 : inI l3) (hj0 : ∀ (l1 : Int) (l2 : Int) (l3 : Nat) (G : gS), (inI l1) → (inI l2) → (l3 % 8 ≠ 1) → J 0 [l1, l2] G Q → Tg W0 (j 0) [rf (16081), cI (l1), cI (l2), l3] [] G (fun r G => r = 7 ∧ Q 0 G)) (hj1 : ∀ (l1 : Int) (l2 : Int) (l3 : Nat) (G : gS), (inI l1) → (inI l2) → (l3 % 8 ≠ 1) → J 1 [l1, l2] G Q → Tg W0 (j 1) [rf (16081), cI (l1), cI (l2), l3] [] G (fun r G => r = 7 ∧ Q 0 G)) (hj2 : ∀ (l1 : Int) (l2 : Int) (l3 : Nat) (G : gS), (inI l1) → (inI l2) → (l3 % 8 ≠ 1) → J 2 [l1, l2] G Q → Tg W0 (j 2) [rf (16081), cI (l1), cI (l2), l3] [] G (fun r G => r = 7 ∧ Q 0 G)) (h : PX13_head_344 J l1 l2 l3 G Q) : Tg W0 (vX13_head_344 j) [rf (16081), cI (l1), cI (l2), cI (l3)] [] G (fun r G => r = 7 ∧ Q 0 G) := by
  unfold PX13_head_344 at h
  unfold vX13_head_344
  refine g_ld (v := rf _) rfl (is_R _) ?_
  refine g_const (v := cI (5)) rfl ?_
  refine g_ld (v := rf _) rfl (is_R _) ?_
  refine g_getF (v := 16110) oC13 (hC13_36) rfl (Nat.le_of_ble_eq_true rfl) (Nat.le_of_ble_eq_true rfl) ?_
  refine g_const (v := cI (8)) rfl ?_
  refine g_ld (v := cI _) rfl (is_I _) ?_
  refine g_mul ?_
  refine g_ld (v := cI _) rfl (is_I _) ?_
  refine g_add ?_
  obtain ⟨q137, q138, h⟩ := h
  refine g_aldI aC16110 q137 q138 rfl fun i139 => ?_
  replace h := h i139
  refine g_callV (As := [_, _]) (ci := 13) oC13 (fun _ => rfl) ?_
  refine g_go0 (Nat.le_of_ble_eq_true rfl) (Tn_w (TX13_fault ⟨by omega, by omega⟩ i139 h) fun _ G140 ⟨e, h⟩ => ⟨e, ?_⟩)
  exact TX13_head_360 hl1 hl2 hl3 hj0 hj1 hj2 h
def PX13_head_292 (J : Nat → List Int → gS → (Int → gS → Prop) → Prop) (l1 : Int) (l2 : Int) (G : gS) (Q : Int → gS → Prop) : Prop :=
  ((0 : Int) ≤ l1 ∧ ((l1 : Int) < 216 ∧ (inI (G 16111 l1) → ((l2 < G 16111 l1 → (inI (G 16081 19) → ((0 : Int) ≤ (8 * l1) + l2 ∧ (((8 * l1) + l2 : Int) < 1728 ∧ (inL (G 16109 ((8 * l1) + l2)) → PX13_inSlot (G 16081 19) (G 16109 ((8 * l1) + l2)) G (fun r127 G126 => inI r127 → ((r127 = -2 → PX13_head_344 J l1 l2 r127 G126 Q) ∧ (¬ (r127 = -2) → ((0 : Int) ≤ r127 ∧ ((r127 : Int) < 216 ∧ (inL (G126 16107 r127) → ((0 : Int) ≤ l1 ∧ ((l1 : Int) < 216 ∧ (inL (G126 16098 l1) → ((G126 16107 r127 = G126 16098 l1 → PX13_head_360 J l1 l2 r127 G126 Q) ∧ (¬ (G126 16107 r127 = G126 16098 l1) → PX13_head_344 J l1 l2 r127 G126 Q)))))))))))))))) ∧ (¬ (l2 < G 16111 l1) → PX13_head_368 J l1 0 G Q)))))
set_option maxRecDepth 20000 in
theorem TX13_head_292 {j : Nat → rx_K} {J : Nat → List Int → gS → (Int → gS → Prop) → Prop} {l1 : Int} {l2 : Int} {l3 : Nat} {G : gS} {Q : Int → gS → Prop} (hl1 : inI l1) (hl2 : inI l2) (hl3 : l3 % 8 ≠ 1) (hj0 : ∀ (l1 : Int) (l2 : Int) (l3 : Nat) (G : gS), (inI l1) → (inI l2) → (l3 % 8 ≠ 1) → J 0 [l1, l2] G Q → Tg W0 (j 0) [rf (16081), cI (l1), cI (l2), l3] [] G (fun r G => r = 7 ∧ Q 0 G)) (hj1 : ∀ (l1 : Int) (l2 : Int) (l3 : Nat) (G : gS), (inI l1) → (inI l2) → (l3 % 8 ≠ 1) → J 1 [l1, l2] G Q → Tg W0 (j 1) [rf (16081), cI (l1), cI (l2), l3] [] G (fun r G => r = 7 ∧ Q 0 G)) (hj2 : ∀ (l1 : Int) (l2 : Int) (l3 : Nat) (G : gS), (inI l1) → (inI l2) → (l3 % 8 ≠ 1) → J 2 [l1, l2] G Q → Tg W0 (j 2) [rf (16081), cI (l1), cI (l2), l3] [] G (fun r G => r = 7 ∧ Q 0 G)) (h : PX13_head_292 J l1 l2 G Q) : Tg W0 (vX13_head_292 j) [rf (16081), cI (l1), cI (l2), l3] [] G (fun r G => r = 7 ∧ Q 0 G) := by
  unfold PX13_head_292 at h
  unfold vX13_head_292
  refine g_ld (v := cI _) rfl (is_I _) ?_
  refine g_ld (v := rf _) rfl (is_R _) ?_
  refine g_getF (v := 16111) oC13 (hC13_37) rfl (Nat.le_of_ble_eq_true rfl) (Nat.le_of_ble_eq_true rfl) ?_
  refine g_ld (v := cI _) rfl (is_I _) ?_
  obtain ⟨q118, q119, h⟩ := h
  refine g_aldI aC16111 q118 q119 rfl fun i120 => ?_
  replace h := h i120
  refine g_lt2 hl2 i120 (fun b121 => ?_) (fun b121 => ?_)
  · replace h := h.1 b121
    unfold vX13_head_302
    refine g_ld (v := rf _) rfl (is_R _) ?_
    refine g_ld (v := rf _) rfl (is_R _) ?_
    refine g_getI (kz := 19) oC13 rfl (Nat.le_of_ble_eq_true rfl) rfl fun i122 => ?_
    replace h := h i122
    refine g_ld (v := rf _) rfl (is_R _) ?_
    refine g_getF (v := 16109) oC13 (hC13_35) rfl (Nat.le_of_ble_eq_true rfl) (Nat.le_of_ble_eq_true rfl) ?_
    refine g_const (v := cI (8)) rfl ?_
    refine g_ld (v := cI _) rfl (is_I _) ?_
    refine g_mul ?_
    refine g_ld (v := cI _) rfl (is_I _) ?_
    refine g_add ?_
    obtain ⟨q123, q124, h⟩ := h
    refine g_aldL aC16109 q123 q124 rfl fun i125 => ?_
    replace h := h i125
    refine g_callV (As := [_, _]) (ci := 13) oC13 (fun _ => rfl) ?_
    refine g_go1 (Nat.le_of_ble_eq_true rfl) (Tn_w (TX13_inSlot i122 i125 h) fun _ G126 ⟨r127, e, i128, h⟩ => ?_)
    subst e
    refine ⟨n7_I _, ?_⟩
    replace h := h i128
    refine g_st (lv' := [_, _, _, _]) (is_I _) (Nat.le_of_ble_eq_true rfl) (Or.inr (n1_I _)) rfl ?_
    refine g_ld (v := cI _) rfl (is_I _) ?_
    refine g_const (v := cI (-2)) rfl ?_
    refine g_eq2 i128 ⟨by omega, by omega⟩ (fun b129 => ?_) (fun b129 => ?_)
    · replace h := h.1 b129
      exact TX13_head_344 hl1 hl2 i128 hj0 hj1 hj2 h
    · replace h := h.2 b129
      unfold vX13_head_328
      refine g_ld (v := rf _) rfl (is_R _) ?_
      refine g_getF (v := 16107) oC13 (hC13_33) rfl (Nat.le_of_ble_eq_true rfl) (Nat.le_of_ble_eq_true rfl) ?_
      refine g_ld (v := cI _) rfl (is_I _) ?_
      obtain ⟨q130, q131, h⟩ := h
      refine g_aldL aC16107 q130 q131 rfl fun i132 => ?_
      replace h := h i132
      refine g_ld (v := rf _) rfl (is_R _) ?_
      refine g_getF (v := 16098) oC13 (hC13_24) rfl (Nat.le_of_ble_eq_true rfl) (Nat.le_of_ble_eq_true rfl) ?_
      refine g_ld (v := cI _) rfl (is_I _) ?_
      obtain ⟨q133, q134, h⟩ := h
      refine g_aldL aC16098 q133 q134 rfl fun i135 => ?_
      replace h := h i135
      refine g_leq i132 i135 (fun b136 => ?_) (fun b136 => ?_)
      · replace h := h.1 b136
        exact TX13_head_360 hl1 hl2 i128 hj0 hj1 hj2 h
      · replace h := h.2 b136
        exact TX13_head_344 hl1 hl2 i128 hj0 hj1 hj2 h
  · replace h := h.2 b121
    unfold vX13_head_366
    refine g_const (v := cI (0)) rfl ?_
    refine g_st (lv' := [_, _, _, _]) (is_I _) (Nat.le_of_ble_eq_true rfl) (Or.inr (n1_I _)) rfl ?_
    exact TX13_head_368 hl1 ⟨by omega, by omega⟩ hl3 hj0 hj1 hj2 h
def PX13_head_290 (J : Nat → List Int → gS → (Int → gS → Prop) → Prop) (l1 : Int) (l2 : Int) (G : gS) (Q : Int → gS → Prop) : Prop :=
  PX13_head_292 J l1 0 G Q
set_option maxRecDepth 20000 in
theorem TX13_head_290 {j : Nat → rx_K} {J : Nat → List Int → gS → (Int → gS → Prop) → Prop} {l1 : Int} {l2 : Int} {l3 : Nat} {G : gS} {Q : Int → gS → Prop} (hl1 : inI l1) (hl2 : inI l2) (hl3 : l3 % 8 ≠ 1) (hj0 : ∀ (l1 : Int) (l2 : Int) (l3 : Nat) (G : gS), (inI l1) → (inI l2) → (l3 % 8 ≠ 1) → J 0 [l1, l2] G Q → Tg W0 (j 0) [rf (16081), cI (l1), cI (l2), l3] [] G (fun r G => r = 7 ∧ Q 0 G)) (hj1 : ∀ (l1 : Int) (l2 : Int) (l3 : Nat) (G : gS), (inI l1) → (inI l2) → (l3 % 8 ≠ 1) → J 1 [l1, l2] G Q → Tg W0 (j 1) [rf (16081), cI (l1), cI (l2), l3] [] G (fun r G => r = 7 ∧ Q 0 G)) (hj2 : ∀ (l1 : Int) (l2 : Int) (l3 : Nat) (G : gS), (inI l1) → (inI l2) → (l3 % 8 ≠ 1) → J 2 [l1, l2] G Q → Tg W0 (j 2) [rf (16081), cI (l1), cI (l2), l3] [] G (fun r G => r = 7 ∧ Q 0 G)) (h : PX13_head_290 J l1 l2 G Q) : Tg W0 (vX13_head_290 j) [rf (16081), cI (l1), cI (l2), l3] [] G (fun r G => r = 7 ∧ Q 0 G) := by
  unfold PX13_head_290 at h
  unfold vX13_head_290
  refine g_const (v := cI (0)) rfl ?_
  refine g_st (lv' := [_, _, _, _]) (is_I _) (Nat.le_of_ble_eq_true rfl) (Or.inr (n1_I _)) rfl ?_
  exact TX13_head_292 hl1 ⟨by omega, by omega⟩ hl3 hj0 hj1 hj2 h
def PX13_head_279 (J : Nat → List Int → gS → (Int → gS → Prop) → Prop) (l1 : Int) (l2 : Int) (G : gS) (Q : Int → gS → Prop) : Prop :=
  ((0 : Int) ≤ l1 ∧ ((l1 : Int) < 216 ∧ (inI (G 16108 l1) → PX13_fault 5 (G 16108 l1) G (fun _ G116 => PX13_head_290 J l1 l2 G116 Q))))
set_option maxRecDepth 20000 in
theorem TX13_head_279 {j : Nat → rx_K} {J : Nat → List Int → gS → (Int → gS → Prop) → Prop} {l1 : Int} {l2 : Int} {l3 : Nat} {G : gS} {Q : Int → gS → Prop} (hl1 : inI l1) (hl2 : inI l2) (hl3 : l3 % 8 ≠ 1) (hj0 : ∀ (l1 : Int) (l2 : Int) (l3 : Nat) (G : gS), (inI l1) → (inI l2) → (l3 % 8 ≠ 1) → J 0 [l1, l2] G Q → Tg W0 (j 0) [rf (16081), cI (l1), cI (l2), l3] [] G (fun r G => r = 7 ∧ Q 0 G)) (hj1 : ∀ (l1 : Int) (l2 : Int) (l3 : Nat) (G : gS), (inI l1) → (inI l2) → (l3 % 8 ≠ 1) → J 1 [l1, l2] G Q → Tg W0 (j 1) [rf (16081), cI (l1), cI (l2), l3] [] G (fun r G => r = 7 ∧ Q 0 G)) (hj2 : ∀ (l1 : Int) (l2 : Int) (l3 : Nat) (G : gS), (inI l1) → (inI l2) → (l3 % 8 ≠ 1) → J 2 [l1, l2] G Q → Tg W0 (j 2) [rf (16081), cI (l1), cI (l2), l3] [] G (fun r G => r = 7 ∧ Q 0 G)) (h : PX13_head_279 J l1 l2 G Q) : Tg W0 (vX13_head_279 j) [rf (16081), cI (l1), cI (l2), l3] [] G (fun r G => r = 7 ∧ Q 0 G) := by
  unfold PX13_head_279 at h
  unfold vX13_head_279
  refine g_ld (v := rf _) rfl (is_R _) ?_
  refine g_const (v := cI (5)) rfl ?_
  refine g_ld (v := rf _) rfl (is_R _) ?_
  refine g_getF (v := 16108) oC13 (hC13_34) rfl (Nat.le_of_ble_eq_true rfl) (Nat.le_of_ble_eq_true rfl) ?_
  refine g_ld (v := cI _) rfl (is_I _) ?_
  obtain ⟨q113, q114, h⟩ := h
  refine g_aldI aC16108 q113 q114 rfl fun i115 => ?_
  replace h := h i115
  refine g_callV (As := [_, _]) (ci := 13) oC13 (fun _ => rfl) ?_
  refine g_go0 (Nat.le_of_ble_eq_true rfl) (Tn_w (TX13_fault ⟨by omega, by omega⟩ i115 h) fun _ G116 ⟨e, h⟩ => ⟨e, ?_⟩)
  exact TX13_head_290 hl1 hl2 hl3 hj0 hj1 hj2 h
def PX13_head_206 (J : Nat → List Int → gS → (Int → gS → Prop) → Prop) (l1 : Int) (l2 : Int) (l3 : Int) (G : gS) (Q : Int → gS → Prop) : Prop :=
  (inI (l2 + 1) ∧ J 0 [l1, l2 + 1] G Q)
set_option maxRecDepth 20000 in
theorem TX13_head_206 {j : Nat → rx_K} {J : Nat → List Int → gS → (Int → gS → Prop) → Prop} {l1 : Int} {l2 : Int} {l3 : Int} {G : gS} {Q : Int → gS → Prop} (hl1 : inI l1) (hl2 : inI l2) (hl3 : inI l3) (hj0 : ∀ (l1 : Int) (l2 : Int) (l3 : Nat) (G : gS), (inI l1) → (inI l2) → (l3 % 8 ≠ 1) → J 0 [l1, l2] G Q → Tg W0 (j 0) [rf (16081), cI (l1), cI (l2), l3] [] G (fun r G => r = 7 ∧ Q 0 G)) (hj1 : ∀ (l1 : Int) (l2 : Int) (l3 : Nat) (G : gS), (inI l1) → (inI l2) → (l3 % 8 ≠ 1) → J 1 [l1, l2] G Q → Tg W0 (j 1) [rf (16081), cI (l1), cI (l2), l3] [] G (fun r G => r = 7 ∧ Q 0 G)) (hj2 : ∀ (l1 : Int) (l2 : Int) (l3 : Nat) (G : gS), (inI l1) → (inI l2) → (l3 % 8 ≠ 1) → J 2 [l1, l2] G Q → Tg W0 (j 2) [rf (16081), cI (l1), cI (l2), l3] [] G (fun r G => r = 7 ∧ Q 0 G)) (h : PX13_head_206 J l1 l2 l3 G Q) : Tg W0 (vX13_head_206 j) [rf (16081), cI (l1), cI (l2), cI (l3)] [] G (fun r G => r = 7 ∧ Q 0 G) := by
  unfold PX13_head_206 at h
  unfold vX13_head_206
  refine g_inc (lv' := [_, _, _, _]) rfl (Nat.le_of_ble_eq_true rfl) (Or.inr (n1_I _)) rfl ?_
  obtain ⟨q112, h⟩ := h
  exact hj0 _ _ _ _ hl1 q112 (n1_I _) h
def PX13_head_191 (J : Nat → List Int → gS → (Int → gS → Prop) → Prop) (l1 : Int) (l2 : Int) (l3 : Int) (G : gS) (Q : Int → gS → Prop) : Prop :=
  ((0 : Int) ≤ (4 * l1) + l2 ∧ (((4 * l1) + l2 : Int) < 864 ∧ (inI (G 16105 ((4 * l1) + l2)) → PX13_fault 5 (G 16105 ((4 * l1) + l2)) G (fun _ G110 => PX13_head_206 J l1 l2 l3 G110 Q))))
set_option maxRecDepth 20000 in
theorem TX13_head_191 {j : Nat → rx_K} {J : Nat → List Int → gS → (Int → gS → Prop) → Prop} {l1 : Int} {l2 : Int} {l3 : Int} {G : gS} {Q : Int → gS → Prop} (hl1 : inI l1) (hl2 : inI l2) (hl3 : inI l3) (hj0 : ∀ (l1 : Int) (l2 : Int) (l3 : Nat) (G : gS), (inI l1) → (inI l2) → (l3 % 8 ≠ 1) → J 0 [l1, l2] G Q → Tg W0 (j 0) [rf (16081), cI (l1), cI (l2), l3] [] G (fun r G => r = 7 ∧ Q 0 G)) (hj1 : ∀ (l1 : Int) (l2 : Int) (l3 : Nat) (G : gS), (inI l1) → (inI l2) → (l3 % 8 ≠ 1) → J 1 [l1, l2] G Q → Tg W0 (j 1) [rf (16081), cI (l1), cI (l2), l3] [] G (fun r G => r = 7 ∧ Q 0 G)) (hj2 : ∀ (l1 : Int) (l2 : Int) (l3 : Nat) (G : gS), (inI l1) → (inI l2) → (l3 % 8 ≠ 1) → J 2 [l1, l2] G Q → Tg W0 (j 2) [rf (16081), cI (l1), cI (l2), l3] [] G (fun r G => r = 7 ∧ Q 0 G)) (h : PX13_head_191 J l1 l2 l3 G Q) : Tg W0 (vX13_head_191 j) [rf (16081), cI (l1), cI (l2), cI (l3)] [] G (fun r G => r = 7 ∧ Q 0 G) := by
  unfold PX13_head_191 at h
  unfold vX13_head_191
  refine g_ld (v := rf _) rfl (is_R _) ?_
  refine g_const (v := cI (5)) rfl ?_
  refine g_ld (v := rf _) rfl (is_R _) ?_
  refine g_getF (v := 16105) oC13 (hC13_31) rfl (Nat.le_of_ble_eq_true rfl) (Nat.le_of_ble_eq_true rfl) ?_
  refine g_const (v := cI (4)) rfl ?_
  refine g_ld (v := cI _) rfl (is_I _) ?_
  refine g_mul ?_
  refine g_ld (v := cI _) rfl (is_I _) ?_
  refine g_add ?_
  obtain ⟨q107, q108, h⟩ := h
  refine g_aldI aC16105 q107 q108 rfl fun i109 => ?_
  replace h := h i109
  refine g_callV (As := [_, _]) (ci := 13) oC13 (fun _ => rfl) ?_
  refine g_go0 (Nat.le_of_ble_eq_true rfl) (Tn_w (TX13_fault ⟨by omega, by omega⟩ i109 h) fun _ G110 ⟨e, h⟩ => ⟨e, ?_⟩)
  exact TX13_head_206 hl1 hl2 hl3 hj0 hj1 hj2 h
def PX13_head_119 (J : Nat → List Int → gS → (Int → gS → Prop) → Prop) (l1 : Int) (l2 : Int) (G : gS) (Q : Int → gS → Prop) : Prop :=
  ((0 : Int) ≤ l1 ∧ ((l1 : Int) < 216 ∧ (inI (G 16106 l1) → ((l2 < G 16106 l1 → ((0 : Int) ≤ (4 * l1) + l2 ∧ (((4 * l1) + l2 : Int) < 864 ∧ (inL (G 16104 ((4 * l1) + l2)) → PX13_find (G 16104 ((4 * l1) + l2)) G (fun r61 G60 => inI r61 → ((r61 = -2 → PX13_head_191 J l1 l2 r61 G60 Q) ∧ (¬ (r61 = -2) → PX13_isFace r61 G60 (fun r65 G64 => (0 ≤ r65 ∧ r65 ≤ 1) → ((r65 = 0 → PX13_head_191 J l1 l2 r61 G64 Q) ∧ (¬ (r65 = 0) → PX13_letsBelow r61 l1 G64 (fun r69 G68 => (0 ≤ r69 ∧ r69 ≤ 1) → ((r69 = 0 → PX13_head_191 J l1 l2 r61 G68 Q) ∧ (¬ (r69 = 0) → ((0 : Int) ≤ (4 * l1) + l2 ∧ (((4 * l1) + l2 : Int) < 864 ∧ (inL (G68 16104 ((4 * l1) + l2)) → (inI (4 * l1) ∧ PX13_stands 16104 (4 * l1) l2 (G68 16104 ((4 * l1) + l2)) G68 (fun r77 G76 => (0 ≤ r77 ∧ r77 ≤ 1) → ((r77 = 0 → PX13_head_206 J l1 l2 r61 G76 Q) ∧ (¬ (r77 = 0) → PX13_head_191 J l1 l2 r61 G76 Q)))))))))))))))))))) ∧ (¬ (l2 < G 16106 l1) → ((0 : Int) ≤ l1 ∧ ((l1 : Int) < 216 ∧ (inL (G 16107 l1) → ((G 16107 l1 = 0 → PX13_head_290 J l1 l2 G Q) ∧ (¬ (G 16107 l1 = 0) → (inI (G 16081 19) → ((0 : Int) ≤ l1 ∧ ((l1 : Int) < 216 ∧ (inL (G 16107 l1) → PX13_inSlot (G 16081 19) (G 16107 l1) G (fun r89 G88 => inI r89 → ((r89 = -2 → PX13_head_279 J l1 r89 G88 Q) ∧ (¬ (r89 = -2) → PX13_onePackage r89 l1 G88 (fun r93 G92 => (0 ≤ r93 ∧ r93 ≤ 1) → ((r93 = 0 → PX13_head_279 J l1 r89 G92 Q) ∧ (¬ (r93 = 0) → ((0 : Int) ≤ r89 ∧ ((r89 : Int) < 216 ∧ (inI (G92 16111 r89) → ((0 : Int) ≤ l1 ∧ ((l1 : Int) < 216 ∧ (inL (G92 16098 l1) → (inI (8 * r89) ∧ PX13_stands 16109 (8 * r89) (G92 16111 r89) (G92 16098 l1) G92 (fun r104 G103 => (0 ≤ r104 ∧ r104 ≤ 1) → ((r104 = 0 → PX13_head_279 J l1 r89 G103 Q) ∧ (¬ (r104 = 0) → PX13_head_290 J l1 r89 G103 Q))))))))))))))))))))))))))))))
set_option maxRecDepth 20000 in
theorem TX13_head_119 {j : Nat → rx_K} {J : Nat → List Int → gS → (Int → gS → Prop) → Prop} {l1 : Int} {l2 : Int} {l3 : Nat} {G : gS} {Q : Int → gS → Prop} (hl1 : inI l1) (hl2 : inI l2) (hl3 : l3 % 8 ≠ 1) (hj0 : ∀ (l1 : Int) (l2 : Int) (l3 : Nat) (G : gS), (inI l1) → (inI l2) → (l3 % 8 ≠ 1) → J 0 [l1, l2] G Q → Tg W0 (j 0) [rf (16081), cI (l1), cI (l2), l3] [] G (fun r G => r = 7 ∧ Q 0 G)) (hj1 : ∀ (l1 : Int) (l2 : Int) (l3 : Nat) (G : gS), (inI l1) → (inI l2) → (l3 % 8 ≠ 1) → J 1 [l1, l2] G Q → Tg W0 (j 1) [rf (16081), cI (l1), cI (l2), l3] [] G (fun r G => r = 7 ∧ Q 0 G)) (hj2 : ∀ (l1 : Int) (l2 : Int) (l3 : Nat) (G : gS), (inI l1) → (inI l2) → (l3 % 8 ≠ 1) → J 2 [l1, l2] G Q → Tg W0 (j 2) [rf (16081), cI (l1), cI (l2), l3] [] G (fun r G => r = 7 ∧ Q 0 G)) (h : PX13_head_119 J l1 l2 G Q) : Tg W0 (vX13_head_119 j) [rf (16081), cI (l1), cI (l2), l3] [] G (fun r G => r = 7 ∧ Q 0 G) := by
  unfold PX13_head_119 at h
  unfold vX13_head_119
  refine g_ld (v := cI _) rfl (is_I _) ?_
  refine g_ld (v := rf _) rfl (is_R _) ?_
  refine g_getF (v := 16106) oC13 (hC13_32) rfl (Nat.le_of_ble_eq_true rfl) (Nat.le_of_ble_eq_true rfl) ?_
  refine g_ld (v := cI _) rfl (is_I _) ?_
  obtain ⟨q53, q54, h⟩ := h
  refine g_aldI aC16106 q53 q54 rfl fun i55 => ?_
  replace h := h i55
  refine g_lt2 hl2 i55 (fun b56 => ?_) (fun b56 => ?_)
  · replace h := h.1 b56
    unfold vX13_head_129
    refine g_ld (v := rf _) rfl (is_R _) ?_
    refine g_ld (v := rf _) rfl (is_R _) ?_
    refine g_getF (v := 16104) oC13 (hC13_30) rfl (Nat.le_of_ble_eq_true rfl) (Nat.le_of_ble_eq_true rfl) ?_
    refine g_const (v := cI (4)) rfl ?_
    refine g_ld (v := cI _) rfl (is_I _) ?_
    refine g_mul ?_
    refine g_ld (v := cI _) rfl (is_I _) ?_
    refine g_add ?_
    obtain ⟨q57, q58, h⟩ := h
    refine g_aldL aC16104 q57 q58 rfl fun i59 => ?_
    replace h := h i59
    refine g_callV (As := [_]) (ci := 13) oC13 (fun _ => rfl) ?_
    refine g_go1 (Nat.le_of_ble_eq_true rfl) (Tn_w (TX13_find i59 h) fun _ G60 ⟨r61, e, i62, h⟩ => ?_)
    subst e
    refine ⟨n7_I _, ?_⟩
    replace h := h i62
    refine g_st (lv' := [_, _, _, _]) (is_I _) (Nat.le_of_ble_eq_true rfl) (Or.inr (n1_I _)) rfl ?_
    refine g_ld (v := cI _) rfl (is_I _) ?_
    refine g_const (v := cI (-2)) rfl ?_
    refine g_eq2 i62 ⟨by omega, by omega⟩ (fun b63 => ?_) (fun b63 => ?_)
    · replace h := h.1 b63
      exact TX13_head_191 hl1 hl2 i62 hj0 hj1 hj2 h
    · replace h := h.2 b63
      unfold vX13_head_150
      refine g_ld (v := rf _) rfl (is_R _) ?_
      refine g_ld (v := cI _) rfl (is_I _) ?_
      refine g_callV (As := [_]) (ci := 13) oC13 (fun _ => rfl) ?_
      refine g_go1 (Nat.le_of_ble_eq_true rfl) (Tn_w (TX13_isFace i62 h) fun _ G64 ⟨r65, e, i66, h⟩ => ?_)
      subst e
      refine ⟨n7_I _, ?_⟩
      replace h := h i66
      refine g_eq1 ⟨by omega, by omega⟩ (fun b67 => ?_) (fun b67 => ?_)
      · replace h := h.1 b67
        exact TX13_head_191 hl1 hl2 i62 hj0 hj1 hj2 h
      · replace h := h.2 b67
        unfold vX13_head_158
        refine g_ld (v := rf _) rfl (is_R _) ?_
        refine g_ld (v := cI _) rfl (is_I _) ?_
        refine g_ld (v := cI _) rfl (is_I _) ?_
        refine g_callV (As := [_, _]) (ci := 13) oC13 (fun _ => rfl) ?_
        refine g_go1 (Nat.le_of_ble_eq_true rfl) (Tn_w (TX13_letsBelow i62 hl1 h) fun _ G68 ⟨r69, e, i70, h⟩ => ?_)
        subst e
        refine ⟨n7_I _, ?_⟩
        replace h := h i70
        refine g_eq1 ⟨by omega, by omega⟩ (fun b71 => ?_) (fun b71 => ?_)
        · replace h := h.1 b71
          exact TX13_head_191 hl1 hl2 i62 hj0 hj1 hj2 h
        · replace h := h.2 b71
          unfold vX13_head_167
          refine g_ld (v := rf _) rfl (is_R _) ?_
          refine g_getF (v := 16104) oC13 (hC13_30) rfl (Nat.le_of_ble_eq_true rfl) (Nat.le_of_ble_eq_true rfl) ?_
          refine g_const (v := cI (4)) rfl ?_
          refine g_ld (v := cI _) rfl (is_I _) ?_
          refine g_mul ?_
          refine g_ld (v := cI _) rfl (is_I _) ?_
          refine g_ld (v := rf _) rfl (is_R _) ?_
          refine g_getF (v := 16104) oC13 (hC13_30) rfl (Nat.le_of_ble_eq_true rfl) (Nat.le_of_ble_eq_true rfl) ?_
          refine g_const (v := cI (4)) rfl ?_
          refine g_ld (v := cI _) rfl (is_I _) ?_
          refine g_mul ?_
          refine g_ld (v := cI _) rfl (is_I _) ?_
          refine g_add ?_
          obtain ⟨q72, q73, h⟩ := h
          refine g_aldL aC16104 q72 q73 rfl fun i74 => ?_
          replace h := h i74
          obtain ⟨q75, h⟩ := h
          refine g_callS (As := [_, _, _, _]) (fun _ => rfl) ?_
          refine g_go1 (Nat.le_of_ble_eq_true rfl) (Tn_w (TX13_stands q75 hl2 i74 h) fun _ G76 ⟨r77, e, i78, h⟩ => ?_)
          subst e
          refine ⟨n7_I _, ?_⟩
          replace h := h i78
          refine g_eq1 ⟨by omega, by omega⟩ (fun b79 => ?_) (fun b79 => ?_)
          · replace h := h.1 b79
            exact TX13_head_206 hl1 hl2 i62 hj0 hj1 hj2 h
          · replace h := h.2 b79
            exact TX13_head_191 hl1 hl2 i62 hj0 hj1 hj2 h
  · replace h := h.2 b56
    unfold vX13_head_212
    refine g_ld (v := rf _) rfl (is_R _) ?_
    refine g_getF (v := 16107) oC13 (hC13_33) rfl (Nat.le_of_ble_eq_true rfl) (Nat.le_of_ble_eq_true rfl) ?_
    refine g_ld (v := cI _) rfl (is_I _) ?_
    obtain ⟨q80, q81, h⟩ := h
    refine g_aldL aC16107 q80 q81 rfl fun i82 => ?_
    replace h := h i82
    refine g_const (v := cL (0)) rfl ?_
    refine g_leq i82 ⟨by omega, by omega⟩ (fun b83 => ?_) (fun b83 => ?_)
    · replace h := h.1 b83
      exact TX13_head_290 hl1 hl2 hl3 hj0 hj1 hj2 h
    · replace h := h.2 b83
      unfold vX13_head_223
      refine g_ld (v := rf _) rfl (is_R _) ?_
      refine g_ld (v := rf _) rfl (is_R _) ?_
      refine g_getI (kz := 19) oC13 rfl (Nat.le_of_ble_eq_true rfl) rfl fun i84 => ?_
      replace h := h i84
      refine g_ld (v := rf _) rfl (is_R _) ?_
      refine g_getF (v := 16107) oC13 (hC13_33) rfl (Nat.le_of_ble_eq_true rfl) (Nat.le_of_ble_eq_true rfl) ?_
      refine g_ld (v := cI _) rfl (is_I _) ?_
      obtain ⟨q85, q86, h⟩ := h
      refine g_aldL aC16107 q85 q86 rfl fun i87 => ?_
      replace h := h i87
      refine g_callV (As := [_, _]) (ci := 13) oC13 (fun _ => rfl) ?_
      refine g_go1 (Nat.le_of_ble_eq_true rfl) (Tn_w (TX13_inSlot i84 i87 h) fun _ G88 ⟨r89, e, i90, h⟩ => ?_)
      subst e
      refine ⟨n7_I _, ?_⟩
      replace h := h i90
      refine g_st (lv' := [_, _, _, _]) (is_I _) (Nat.le_of_ble_eq_true rfl) (Or.inr (n1_I _)) rfl ?_
      refine g_ld (v := cI _) rfl (is_I _) ?_
      refine g_const (v := cI (-2)) rfl ?_
      refine g_eq2 i90 ⟨by omega, by omega⟩ (fun b91 => ?_) (fun b91 => ?_)
      · replace h := h.1 b91
        exact TX13_head_279 hl1 i90 hl3 hj0 hj1 hj2 h
      · replace h := h.2 b91
        unfold vX13_head_244
        refine g_ld (v := rf _) rfl (is_R _) ?_
        refine g_ld (v := cI _) rfl (is_I _) ?_
        refine g_ld (v := cI _) rfl (is_I _) ?_
        refine g_callV (As := [_, _]) (ci := 13) oC13 (fun _ => rfl) ?_
        refine g_go1 (Nat.le_of_ble_eq_true rfl) (Tn_w (TX13_onePackage i90 hl1 h) fun _ G92 ⟨r93, e, i94, h⟩ => ?_)
        subst e
        refine ⟨n7_I _, ?_⟩
        replace h := h i94
        refine g_eq1 ⟨by omega, by omega⟩ (fun b95 => ?_) (fun b95 => ?_)
        · replace h := h.1 b95
          exact TX13_head_279 hl1 i90 hl3 hj0 hj1 hj2 h
        · replace h := h.2 b95
          unfold vX13_head_253
          refine g_ld (v := rf _) rfl (is_R _) ?_
          refine g_getF (v := 16109) oC13 (hC13_35) rfl (Nat.le_of_ble_eq_true rfl) (Nat.le_of_ble_eq_true rfl) ?_
          refine g_const (v := cI (8)) rfl ?_
          refine g_ld (v := cI _) rfl (is_I _) ?_
          refine g_mul ?_
          refine g_ld (v := rf _) rfl (is_R _) ?_
          refine g_getF (v := 16111) oC13 (hC13_37) rfl (Nat.le_of_ble_eq_true rfl) (Nat.le_of_ble_eq_true rfl) ?_
          refine g_ld (v := cI _) rfl (is_I _) ?_
          obtain ⟨q96, q97, h⟩ := h
          refine g_aldI aC16111 q96 q97 rfl fun i98 => ?_
          replace h := h i98
          refine g_ld (v := rf _) rfl (is_R _) ?_
          refine g_getF (v := 16098) oC13 (hC13_24) rfl (Nat.le_of_ble_eq_true rfl) (Nat.le_of_ble_eq_true rfl) ?_
          refine g_ld (v := cI _) rfl (is_I _) ?_
          obtain ⟨q99, q100, h⟩ := h
          refine g_aldL aC16098 q99 q100 rfl fun i101 => ?_
          replace h := h i101
          obtain ⟨q102, h⟩ := h
          refine g_callS (As := [_, _, _, _]) (fun _ => rfl) ?_
          refine g_go1 (Nat.le_of_ble_eq_true rfl) (Tn_w (TX13_stands q102 i98 i101 h) fun _ G103 ⟨r104, e, i105, h⟩ => ?_)
          subst e
          refine ⟨n7_I _, ?_⟩
          replace h := h i105
          refine g_eq1 ⟨by omega, by omega⟩ (fun b106 => ?_) (fun b106 => ?_)
          · replace h := h.1 b106
            exact TX13_head_279 hl1 i90 hl3 hj0 hj1 hj2 h
          · replace h := h.2 b106
            exact TX13_head_290 hl1 i90 hl3 hj0 hj1 hj2 h
def PX13_head_117 (J : Nat → List Int → gS → (Int → gS → Prop) → Prop) (l1 : Int) (G : gS) (Q : Int → gS → Prop) : Prop :=
  PX13_head_119 J l1 0 G Q
set_option maxRecDepth 20000 in
theorem TX13_head_117 {j : Nat → rx_K} {J : Nat → List Int → gS → (Int → gS → Prop) → Prop} {l1 : Int} {l2 : Nat} {l3 : Nat} {G : gS} {Q : Int → gS → Prop} (hl1 : inI l1) (hl2 : l2 % 8 ≠ 1) (hl3 : l3 % 8 ≠ 1) (hj0 : ∀ (l1 : Int) (l2 : Int) (l3 : Nat) (G : gS), (inI l1) → (inI l2) → (l3 % 8 ≠ 1) → J 0 [l1, l2] G Q → Tg W0 (j 0) [rf (16081), cI (l1), cI (l2), l3] [] G (fun r G => r = 7 ∧ Q 0 G)) (hj1 : ∀ (l1 : Int) (l2 : Int) (l3 : Nat) (G : gS), (inI l1) → (inI l2) → (l3 % 8 ≠ 1) → J 1 [l1, l2] G Q → Tg W0 (j 1) [rf (16081), cI (l1), cI (l2), l3] [] G (fun r G => r = 7 ∧ Q 0 G)) (hj2 : ∀ (l1 : Int) (l2 : Int) (l3 : Nat) (G : gS), (inI l1) → (inI l2) → (l3 % 8 ≠ 1) → J 2 [l1, l2] G Q → Tg W0 (j 2) [rf (16081), cI (l1), cI (l2), l3] [] G (fun r G => r = 7 ∧ Q 0 G)) (h : PX13_head_117 J l1 G Q) : Tg W0 (vX13_head_117 j) [rf (16081), cI (l1), l2, l3] [] G (fun r G => r = 7 ∧ Q 0 G) := by
  unfold PX13_head_117 at h
  unfold vX13_head_117
  refine g_const (v := cI (0)) rfl ?_
  refine g_st (lv' := [_, _, _, _]) (is_I _) (Nat.le_of_ble_eq_true rfl) (Or.inr (n1_I _)) rfl ?_
  exact TX13_head_119 hl1 ⟨by omega, by omega⟩ hl3 hj0 hj1 hj2 h
def PX13_head_106 (J : Nat → List Int → gS → (Int → gS → Prop) → Prop) (l1 : Int) (l2 : Int) (G : gS) (Q : Int → gS → Prop) : Prop :=
  ((0 : Int) ≤ l1 ∧ ((l1 : Int) < 216 ∧ (inI (G 16103 l1) → PX13_fault 5 (G 16103 l1) G (fun _ G51 => PX13_head_117 J l1 G51 Q))))
set_option maxRecDepth 20000 in
theorem TX13_head_106 {j : Nat → rx_K} {J : Nat → List Int → gS → (Int → gS → Prop) → Prop} {l1 : Int} {l2 : Int} {l3 : Nat} {G : gS} {Q : Int → gS → Prop} (hl1 : inI l1) (hl2 : inI l2) (hl3 : l3 % 8 ≠ 1) (hj0 : ∀ (l1 : Int) (l2 : Int) (l3 : Nat) (G : gS), (inI l1) → (inI l2) → (l3 % 8 ≠ 1) → J 0 [l1, l2] G Q → Tg W0 (j 0) [rf (16081), cI (l1), cI (l2), l3] [] G (fun r G => r = 7 ∧ Q 0 G)) (hj1 : ∀ (l1 : Int) (l2 : Int) (l3 : Nat) (G : gS), (inI l1) → (inI l2) → (l3 % 8 ≠ 1) → J 1 [l1, l2] G Q → Tg W0 (j 1) [rf (16081), cI (l1), cI (l2), l3] [] G (fun r G => r = 7 ∧ Q 0 G)) (hj2 : ∀ (l1 : Int) (l2 : Int) (l3 : Nat) (G : gS), (inI l1) → (inI l2) → (l3 % 8 ≠ 1) → J 2 [l1, l2] G Q → Tg W0 (j 2) [rf (16081), cI (l1), cI (l2), l3] [] G (fun r G => r = 7 ∧ Q 0 G)) (h : PX13_head_106 J l1 l2 G Q) : Tg W0 (vX13_head_106 j) [rf (16081), cI (l1), cI (l2), l3] [] G (fun r G => r = 7 ∧ Q 0 G) := by
  unfold PX13_head_106 at h
  unfold vX13_head_106
  refine g_ld (v := rf _) rfl (is_R _) ?_
  refine g_const (v := cI (5)) rfl ?_
  refine g_ld (v := rf _) rfl (is_R _) ?_
  refine g_getF (v := 16103) oC13 (hC13_29) rfl (Nat.le_of_ble_eq_true rfl) (Nat.le_of_ble_eq_true rfl) ?_
  refine g_ld (v := cI _) rfl (is_I _) ?_
  obtain ⟨q48, q49, h⟩ := h
  refine g_aldI aC16103 q48 q49 rfl fun i50 => ?_
  replace h := h i50
  refine g_callV (As := [_, _]) (ci := 13) oC13 (fun _ => rfl) ?_
  refine g_go0 (Nat.le_of_ble_eq_true rfl) (Tn_w (TX13_fault ⟨by omega, by omega⟩ i50 h) fun _ G51 ⟨e, h⟩ => ⟨e, ?_⟩)
  exact TX13_head_117 hl1 (n1_I _) hl3 hj0 hj1 hj2 h
def PX13_head_43 (J : Nat → List Int → gS → (Int → gS → Prop) → Prop) (l1 : Int) (G : gS) (Q : Int → gS → Prop) : Prop :=
  ((0 : Int) ≤ l1 ∧ ((l1 : Int) < 216 ∧ (inL (G 16102 l1) → ((G 16102 l1 = 0 → PX13_head_117 J l1 G Q) ∧ (¬ (G 16102 l1 = 0) → ((0 : Int) ≤ l1 ∧ ((l1 : Int) < 216 ∧ (inL (G 16102 l1) → PX13_find (G 16102 l1) G (fun r29 G28 => inI r29 → PX13_isFace l1 G28 (fun r32 G31 => (0 ≤ r32 ∧ r32 ≤ 1) → ((r32 = 0 → ((r29 = -2 → PX13_head_106 J l1 r29 G31 Q) ∧ (¬ (r29 = -2) → PX13_isFace r29 G31 (fun r37 G36 => (0 ≤ r37 ∧ r37 ≤ 1) → ((r37 = 0 → ((0 : Int) ≤ r29 ∧ ((r29 : Int) < 216 ∧ (inI (G36 16101 r29) → ((G36 16101 r29 = 1 → PX13_head_106 J l1 r29 G36 Q) ∧ (¬ (G36 16101 r29 = 1) → PX13_letsBelow r29 l1 G36 (fun r45 G44 => (0 ≤ r45 ∧ r45 ≤ 1) → ((r45 = 0 → PX13_head_106 J l1 r29 G44 Q) ∧ (¬ (r45 = 0) → PX13_head_117 J l1 G44 Q))))))))) ∧ (¬ (r37 = 0) → PX13_head_106 J l1 r29 G36 Q)))))) ∧ (¬ (r32 = 0) → PX13_head_106 J l1 r29 G31 Q))))))))))))
set_option maxRecDepth 20000 in
theorem TX13_head_43 {j : Nat → rx_K} {J : Nat → List Int → gS → (Int → gS → Prop) → Prop} {l1 : Int} {l2 : Nat} {l3 : Nat} {G : gS} {Q : Int → gS → Prop} (hl1 : inI l1) (hl2 : l2 % 8 ≠ 1) (hl3 : l3 % 8 ≠ 1) (hj0 : ∀ (l1 : Int) (l2 : Int) (l3 : Nat) (G : gS), (inI l1) → (inI l2) → (l3 % 8 ≠ 1) → J 0 [l1, l2] G Q → Tg W0 (j 0) [rf (16081), cI (l1), cI (l2), l3] [] G (fun r G => r = 7 ∧ Q 0 G)) (hj1 : ∀ (l1 : Int) (l2 : Int) (l3 : Nat) (G : gS), (inI l1) → (inI l2) → (l3 % 8 ≠ 1) → J 1 [l1, l2] G Q → Tg W0 (j 1) [rf (16081), cI (l1), cI (l2), l3] [] G (fun r G => r = 7 ∧ Q 0 G)) (hj2 : ∀ (l1 : Int) (l2 : Int) (l3 : Nat) (G : gS), (inI l1) → (inI l2) → (l3 % 8 ≠ 1) → J 2 [l1, l2] G Q → Tg W0 (j 2) [rf (16081), cI (l1), cI (l2), l3] [] G (fun r G => r = 7 ∧ Q 0 G)) (h : PX13_head_43 J l1 G Q) : Tg W0 (vX13_head_43 j) [rf (16081), cI (l1), l2, l3] [] G (fun r G => r = 7 ∧ Q 0 G) := by
  unfold PX13_head_43 at h
  unfold vX13_head_43
  refine g_ld (v := rf _) rfl (is_R _) ?_
  refine g_getF (v := 16102) oC13 (hC13_28) rfl (Nat.le_of_ble_eq_true rfl) (Nat.le_of_ble_eq_true rfl) ?_
  refine g_ld (v := cI _) rfl (is_I _) ?_
  obtain ⟨q21, q22, h⟩ := h
  refine g_aldL aC16102 q21 q22 rfl fun i23 => ?_
  replace h := h i23
  refine g_const (v := cL (0)) rfl ?_
  refine g_leq i23 ⟨by omega, by omega⟩ (fun b24 => ?_) (fun b24 => ?_)
  · replace h := h.1 b24
    exact TX13_head_117 hl1 hl2 hl3 hj0 hj1 hj2 h
  · replace h := h.2 b24
    unfold vX13_head_54
    refine g_ld (v := rf _) rfl (is_R _) ?_
    refine g_ld (v := rf _) rfl (is_R _) ?_
    refine g_getF (v := 16102) oC13 (hC13_28) rfl (Nat.le_of_ble_eq_true rfl) (Nat.le_of_ble_eq_true rfl) ?_
    refine g_ld (v := cI _) rfl (is_I _) ?_
    obtain ⟨q25, q26, h⟩ := h
    refine g_aldL aC16102 q25 q26 rfl fun i27 => ?_
    replace h := h i27
    refine g_callV (As := [_]) (ci := 13) oC13 (fun _ => rfl) ?_
    refine g_go1 (Nat.le_of_ble_eq_true rfl) (Tn_w (TX13_find i27 h) fun _ G28 ⟨r29, e, i30, h⟩ => ?_)
    subst e
    refine ⟨n7_I _, ?_⟩
    replace h := h i30
    refine g_st (lv' := [_, _, _, _]) (is_I _) (Nat.le_of_ble_eq_true rfl) (Or.inr (n1_I _)) rfl ?_
    refine g_ld (v := rf _) rfl (is_R _) ?_
    refine g_ld (v := cI _) rfl (is_I _) ?_
    refine g_callV (As := [_]) (ci := 13) oC13 (fun _ => rfl) ?_
    refine g_go1 (Nat.le_of_ble_eq_true rfl) (Tn_w (TX13_isFace hl1 h) fun _ G31 ⟨r32, e, i33, h⟩ => ?_)
    subst e
    refine ⟨n7_I _, ?_⟩
    replace h := h i33
    refine g_eq1 ⟨by omega, by omega⟩ (fun b34 => ?_) (fun b34 => ?_)
    · replace h := h.1 b34
      unfold vX13_head_73
      refine g_ld (v := cI _) rfl (is_I _) ?_
      refine g_const (v := cI (-2)) rfl ?_
      refine g_eq2 i30 ⟨by omega, by omega⟩ (fun b35 => ?_) (fun b35 => ?_)
      · replace h := h.1 b35
        exact TX13_head_106 hl1 i30 hl3 hj0 hj1 hj2 h
      · replace h := h.2 b35
        unfold vX13_head_79
        refine g_ld (v := rf _) rfl (is_R _) ?_
        refine g_ld (v := cI _) rfl (is_I _) ?_
        refine g_callV (As := [_]) (ci := 13) oC13 (fun _ => rfl) ?_
        refine g_go1 (Nat.le_of_ble_eq_true rfl) (Tn_w (TX13_isFace i30 h) fun _ G36 ⟨r37, e, i38, h⟩ => ?_)
        subst e
        refine ⟨n7_I _, ?_⟩
        replace h := h i38
        refine g_eq1 ⟨by omega, by omega⟩ (fun b39 => ?_) (fun b39 => ?_)
        · replace h := h.1 b39
          unfold vX13_head_87
          refine g_ld (v := rf _) rfl (is_R _) ?_
          refine g_getF (v := 16101) oC13 (hC13_27) rfl (Nat.le_of_ble_eq_true rfl) (Nat.le_of_ble_eq_true rfl) ?_
          refine g_ld (v := cI _) rfl (is_I _) ?_
          obtain ⟨q40, q41, h⟩ := h
          refine g_aldI aC16101 q40 q41 rfl fun i42 => ?_
          replace h := h i42
          refine g_const (v := cI (1)) rfl ?_
          refine g_eq2 i42 ⟨by omega, by omega⟩ (fun b43 => ?_) (fun b43 => ?_)
          · replace h := h.1 b43
            exact TX13_head_106 hl1 i30 hl3 hj0 hj1 hj2 h
          · replace h := h.2 b43
            unfold vX13_head_97
            refine g_ld (v := rf _) rfl (is_R _) ?_
            refine g_ld (v := cI _) rfl (is_I _) ?_
            refine g_ld (v := cI _) rfl (is_I _) ?_
            refine g_callV (As := [_, _]) (ci := 13) oC13 (fun _ => rfl) ?_
            refine g_go1 (Nat.le_of_ble_eq_true rfl) (Tn_w (TX13_letsBelow i30 hl1 h) fun _ G44 ⟨r45, e, i46, h⟩ => ?_)
            subst e
            refine ⟨n7_I _, ?_⟩
            replace h := h i46
            refine g_eq1 ⟨by omega, by omega⟩ (fun b47 => ?_) (fun b47 => ?_)
            · replace h := h.1 b47
              exact TX13_head_106 hl1 i30 hl3 hj0 hj1 hj2 h
            · replace h := h.2 b47
              exact TX13_head_117 hl1 (n1_I _) hl3 hj0 hj1 hj2 h
        · replace h := h.2 b39
          exact TX13_head_106 hl1 i30 hl3 hj0 hj1 hj2 h
    · replace h := h.2 b34
      exact TX13_head_106 hl1 i30 hl3 hj0 hj1 hj2 h
def PX13_head_32 (J : Nat → List Int → gS → (Int → gS → Prop) → Prop) (l1 : Int) (G : gS) (Q : Int → gS → Prop) : Prop :=
  ((0 : Int) ≤ l1 ∧ ((l1 : Int) < 216 ∧ (inI (G 16099 l1) → PX13_fault 4 (G 16099 l1) G (fun _ G19 => PX13_head_43 J l1 G19 Q))))
set_option maxRecDepth 20000 in
theorem TX13_head_32 {j : Nat → rx_K} {J : Nat → List Int → gS → (Int → gS → Prop) → Prop} {l1 : Int} {l2 : Nat} {l3 : Nat} {G : gS} {Q : Int → gS → Prop} (hl1 : inI l1) (hl2 : l2 % 8 ≠ 1) (hl3 : l3 % 8 ≠ 1) (hj0 : ∀ (l1 : Int) (l2 : Int) (l3 : Nat) (G : gS), (inI l1) → (inI l2) → (l3 % 8 ≠ 1) → J 0 [l1, l2] G Q → Tg W0 (j 0) [rf (16081), cI (l1), cI (l2), l3] [] G (fun r G => r = 7 ∧ Q 0 G)) (hj1 : ∀ (l1 : Int) (l2 : Int) (l3 : Nat) (G : gS), (inI l1) → (inI l2) → (l3 % 8 ≠ 1) → J 1 [l1, l2] G Q → Tg W0 (j 1) [rf (16081), cI (l1), cI (l2), l3] [] G (fun r G => r = 7 ∧ Q 0 G)) (hj2 : ∀ (l1 : Int) (l2 : Int) (l3 : Nat) (G : gS), (inI l1) → (inI l2) → (l3 % 8 ≠ 1) → J 2 [l1, l2] G Q → Tg W0 (j 2) [rf (16081), cI (l1), cI (l2), l3] [] G (fun r G => r = 7 ∧ Q 0 G)) (h : PX13_head_32 J l1 G Q) : Tg W0 (vX13_head_32 j) [rf (16081), cI (l1), l2, l3] [] G (fun r G => r = 7 ∧ Q 0 G) := by
  unfold PX13_head_32 at h
  unfold vX13_head_32
  refine g_ld (v := rf _) rfl (is_R _) ?_
  refine g_const (v := cI (4)) rfl ?_
  refine g_ld (v := rf _) rfl (is_R _) ?_
  refine g_getF (v := 16099) oC13 (hC13_25) rfl (Nat.le_of_ble_eq_true rfl) (Nat.le_of_ble_eq_true rfl) ?_
  refine g_ld (v := cI _) rfl (is_I _) ?_
  obtain ⟨q16, q17, h⟩ := h
  refine g_aldI aC16099 q16 q17 rfl fun i18 => ?_
  replace h := h i18
  refine g_callV (As := [_, _]) (ci := 13) oC13 (fun _ => rfl) ?_
  refine g_go0 (Nat.le_of_ble_eq_true rfl) (Tn_w (TX13_fault ⟨by omega, by omega⟩ i18 h) fun _ G19 ⟨e, h⟩ => ⟨e, ?_⟩)
  exact TX13_head_43 hl1 hl2 hl3 hj0 hj1 hj2 h
def PX13_head_0 (J : Nat → List Int → gS → (Int → gS → Prop) → Prop) (a1 : Int) (G : gS) (Q : Int → gS → Prop) : Prop :=
  (inI (G 16081 19) → ((0 : Int) ≤ a1 ∧ ((a1 : Int) < 216 ∧ (inL (G 16098 a1) → PX13_inSlot (G 16081 19) (G 16098 a1) G (fun r6 G5 => inI r6 → ((r6 = a1 → ((0 : Int) ≤ a1 ∧ ((a1 : Int) < 216 ∧ (inL (G5 16098 a1) → PX13_pack (G5 16098 a1) G5 (fun r13 G12 => inI r13 → ((r13 = 26 → PX13_head_32 J a1 G12 Q) ∧ (¬ (r13 = 26) → PX13_head_43 J a1 G12 Q))))))) ∧ (¬ (r6 = a1) → PX13_head_32 J a1 G5 Q)))))))
set_option maxRecDepth 20000 in
theorem TX13_head_0 {j : Nat → rx_K} {J : Nat → List Int → gS → (Int → gS → Prop) → Prop} {a1 : Int} {G : gS} {Q : Int → gS → Prop} (ha1 : inI a1) (hj0 : ∀ (l1 : Int) (l2 : Int) (l3 : Nat) (G : gS), (inI l1) → (inI l2) → (l3 % 8 ≠ 1) → J 0 [l1, l2] G Q → Tg W0 (j 0) [rf (16081), cI (l1), cI (l2), l3] [] G (fun r G => r = 7 ∧ Q 0 G)) (hj1 : ∀ (l1 : Int) (l2 : Int) (l3 : Nat) (G : gS), (inI l1) → (inI l2) → (l3 % 8 ≠ 1) → J 1 [l1, l2] G Q → Tg W0 (j 1) [rf (16081), cI (l1), cI (l2), l3] [] G (fun r G => r = 7 ∧ Q 0 G)) (hj2 : ∀ (l1 : Int) (l2 : Int) (l3 : Nat) (G : gS), (inI l1) → (inI l2) → (l3 % 8 ≠ 1) → J 2 [l1, l2] G Q → Tg W0 (j 2) [rf (16081), cI (l1), cI (l2), l3] [] G (fun r G => r = 7 ∧ Q 0 G)) (h : PX13_head_0 J a1 G Q) : Tg W0 (vX13_head_0 j) [rf (16081), cI (a1), 7, 7] [] G (fun r G => r = 7 ∧ Q 0 G) := by
  unfold PX13_head_0 at h
  unfold vX13_head_0
  refine g_ld (v := rf _) rfl (is_R _) ?_
  refine g_ld (v := rf _) rfl (is_R _) ?_
  refine g_getI (kz := 19) oC13 rfl (Nat.le_of_ble_eq_true rfl) rfl fun i1 => ?_
  replace h := h i1
  refine g_ld (v := rf _) rfl (is_R _) ?_
  refine g_getF (v := 16098) oC13 (hC13_24) rfl (Nat.le_of_ble_eq_true rfl) (Nat.le_of_ble_eq_true rfl) ?_
  refine g_ld (v := cI _) rfl (is_I _) ?_
  obtain ⟨q2, q3, h⟩ := h
  refine g_aldL aC16098 q2 q3 rfl fun i4 => ?_
  replace h := h i4
  refine g_callV (As := [_, _]) (ci := 13) oC13 (fun _ => rfl) ?_
  refine g_go1 (Nat.le_of_ble_eq_true rfl) (Tn_w (TX13_inSlot i1 i4 h) fun _ G5 ⟨r6, e, i7, h⟩ => ?_)
  subst e
  refine ⟨n7_I _, ?_⟩
  replace h := h i7
  refine g_ld (v := cI _) rfl (is_I _) ?_
  refine g_eq2 i7 ha1 (fun b8 => ?_) (fun b8 => ?_)
  · replace h := h.1 b8
    unfold vX13_head_18
    refine g_ld (v := rf _) rfl (is_R _) ?_
    refine g_getF (v := 16098) oC13 (hC13_24) rfl (Nat.le_of_ble_eq_true rfl) (Nat.le_of_ble_eq_true rfl) ?_
    refine g_ld (v := cI _) rfl (is_I _) ?_
    obtain ⟨q9, q10, h⟩ := h
    refine g_aldL aC16098 q9 q10 rfl fun i11 => ?_
    replace h := h i11
    refine g_callS (As := [_]) (fun _ => rfl) ?_
    refine g_go1 (Nat.le_of_ble_eq_true rfl) (Tn_w (TX13_pack i11 h) fun _ G12 ⟨r13, e, i14, h⟩ => ?_)
    subst e
    refine ⟨n7_I _, ?_⟩
    replace h := h i14
    refine g_const (v := cI (26)) rfl ?_
    refine g_eq2 i14 ⟨by omega, by omega⟩ (fun b15 => ?_) (fun b15 => ?_)
    · replace h := h.1 b15
      exact TX13_head_32 ha1 (show 7 % 8 ≠ 1 by decide) (show 7 % 8 ≠ 1 by decide) hj0 hj1 hj2 h
    · replace h := h.2 b15
      exact TX13_head_43 ha1 (show 7 % 8 ≠ 1 by decide) (show 7 % 8 ≠ 1 by decide) hj0 hj1 hj2 h
  · replace h := h.2 b8
    exact TX13_head_32 ha1 (show 7 % 8 ≠ 1 by decide) (show 7 % 8 ≠ 1 by decide) hj0 hj1 hj2 h
def PX13_head_J : Nat → Nat → List Int → gS → (Int → gS → Prop) → Prop
  | 0, _, _, _, _ => False
  | f + 1, h, L, G, Q => match h, L with
    | 0, [l1, l2] => PX13_head_119 (PX13_head_J f) l1 l2 G Q
    | 1, [l1, l2] => PX13_head_292 (PX13_head_J f) l1 l2 G Q
    | 2, [l1, l2] => PX13_head_368 (PX13_head_J f) l1 l2 G Q
    | _, _ => False
theorem TX13_head_J {Q : Int → gS → Prop} : ∀ f N : Nat, f ≤ N → (∀ (l1 : Int) (l2 : Int) (l3 : Nat) (G : gS), (inI l1) → (inI l2) → (l3 % 8 ≠ 1) → (PX13_head_J f) 0 [l1, l2] G Q → Tg W0 (rx_J vhX13_head N 0) [rf (16081), cI (l1), cI (l2), l3] [] G (fun r G => r = 7 ∧ Q 0 G)) ∧ (∀ (l1 : Int) (l2 : Int) (l3 : Nat) (G : gS), (inI l1) → (inI l2) → (l3 % 8 ≠ 1) → (PX13_head_J f) 1 [l1, l2] G Q → Tg W0 (rx_J vhX13_head N 1) [rf (16081), cI (l1), cI (l2), l3] [] G (fun r G => r = 7 ∧ Q 0 G)) ∧ (∀ (l1 : Int) (l2 : Int) (l3 : Nat) (G : gS), (inI l1) → (inI l2) → (l3 % 8 ≠ 1) → (PX13_head_J f) 2 [l1, l2] G Q → Tg W0 (rx_J vhX13_head N 2) [rf (16081), cI (l1), cI (l2), l3] [] G (fun r G => r = 7 ∧ Q 0 G)) := by
  intro f
  induction f with
  | zero => exact fun N _ => ⟨fun _ _ _ _ _ _ _ h => h.elim, fun _ _ _ _ _ _ _ h => h.elim, fun _ _ _ _ _ _ _ h => h.elim⟩
  | succ f ih =>
    intro N hN
    obtain ⟨M, rfl⟩ : ∃ M, N = M + 1 := ⟨N - 1, by omega⟩
    have ih := ih M (by omega)
    exact ⟨fun _ _ _ _ hl1 hl2 hl3 h => show Tg W0 (vX13_head_119 (rx_J vhX13_head M)) _ _ _ _ from TX13_head_119 hl1 hl2 hl3 ih.1 ih.2.1 ih.2.2 h, fun _ _ _ _ hl1 hl2 hl3 h => show Tg W0 (vX13_head_292 (rx_J vhX13_head M)) _ _ _ _ from TX13_head_292 hl1 hl2 hl3 ih.1 ih.2.1 ih.2.2 h, fun _ _ _ _ hl1 hl2 hl3 h => show Tg W0 (vX13_head_368 (rx_J vhX13_head M)) _ _ _ _ from TX13_head_368 hl1 hl2 hl3 ih.1 ih.2.1 ih.2.2 h⟩
def PX13_head (a1 : Int) (G : gS) (Q : Int → gS → Prop) : Prop := ∃ f : Nat, f ≤ 4000000000 ∧ PX13_head_0 (PX13_head_J f) a1 G Q
theorem TX13_head {a1 : Int} {G : gS} {Q : Int → gS → Prop} (ha1 : inI a1) (h : PX13_head a1 G Q) : Tn W0 FX13_head [rf (16081), cI (a1)] G (fun r G => r = 7 ∧ Q 0 G) := by
  obtain ⟨f, hf, h⟩ := h
  have hJ := TX13_head_J (Q := Q) f 4000000000 hf
  unfold FX13_head
  refine g_ent (lv' := [rf (16081), cI (a1), 7, 7]) (flR (flI fl0)) (Nat.le_of_ble_eq_true rfl) rfl ?_
  exact TX13_head_0 ha1 hJ.1 hJ.2.1 hJ.2.2 h
end DE

section DE
def PX13_eitherOf_36 (l1 : Int) (l2 : Int) (l3 : Int) (l4 : Int) (l5 : Int) (G : gS) (Q : Int → gS → Prop) : Prop :=
  Q 0 G
set_option maxRecDepth 20000 in
theorem TX13_eitherOf_36 {l1 : Int} {l2 : Int} {l3 : Int} {l4 : Int} {l5 : Int} {G : gS} {Q : Int → gS → Prop} (hl1 : inI l1) (hl2 : inI l2) (hl3 : inI l3) (hl4 : inI l4) (hl5 : inI l5) (h : PX13_eitherOf_36 l1 l2 l3 l4 l5 G Q) : Tg W0 vX13_eitherOf_36 [rf (16081), cI (l1), cI (l2), cI (l3), cI (l4), cI (l5)] [] G (fun r G => r = 7 ∧ Q 0 G) := by
  unfold PX13_eitherOf_36 at h
  unfold vX13_eitherOf_36
  exact g_ret0 ⟨rfl, h⟩
def PX13_eitherOf_17 (l1 : Int) (l2 : Int) (l3 : Int) (l4 : Int) (l5 : Int) (s0 : Int) (s1 : Int) (G : gS) (Q : Int → gS → Prop) : Prop :=
  PX13_classOfMember l4 G (fun r5 G4 => inI r5 → PX13_classOfMember l5 G4 (fun r8 G7 => inI r8 → (isO W0 13 (s0) ∧ PX13_differs s1 r5 r8 l4 l5 G7 (fun _ G11 => PX13_eitherOf_36 l1 l2 l3 l4 l5 G11 Q))))
set_option maxRecDepth 20000 in
theorem TX13_eitherOf_17 {l1 : Int} {l2 : Int} {l3 : Int} {l4 : Int} {l5 : Int} {s0 : Int} {s1 : Int} {G : gS} {Q : Int → gS → Prop} (hl1 : inI l1) (hl2 : inI l2) (hl3 : inI l3) (hl4 : inI l4) (hl5 : inI l5) (hs1 : inI s1) (h : PX13_eitherOf_17 l1 l2 l3 l4 l5 s0 s1 G Q) : Tg W0 vX13_eitherOf_17 [rf (16081), cI (l1), cI (l2), cI (l3), cI (l4), cI (l5)] [cI (s1), rf (s0)] G (fun r G => r = 7 ∧ Q 0 G) := by
  unfold PX13_eitherOf_17 at h
  unfold vX13_eitherOf_17
  refine g_ld (v := rf _) rfl (is_R _) ?_
  refine g_ld (v := cI _) rfl (is_I _) ?_
  refine g_callV (As := [_]) (ci := 13) oC13 (fun _ => rfl) ?_
  refine g_go1 (by simp only [cs_c, cs_0, ct_I, ct_L, ct_R]; exact Nat.le_of_ble_eq_true rfl) (Tn_w (TX13_classOfMember hl4 h) fun _ G4 ⟨r5, e, i6, h⟩ => ?_)
  subst e
  refine ⟨n7_I _, ?_⟩
  replace h := h i6
  refine g_ld (v := rf _) rfl (is_R _) ?_
  refine g_ld (v := cI _) rfl (is_I _) ?_
  refine g_callV (As := [_]) (ci := 13) oC13 (fun _ => rfl) ?_
  refine g_go1 (by simp only [cs_c, cs_0, ct_I, ct_L, ct_R]; exact Nat.le_of_ble_eq_true rfl) (Tn_w (TX13_classOfMember hl5 h) fun _ G7 ⟨r8, e, i9, h⟩ => ?_)
  subst e
  refine ⟨n7_I _, ?_⟩
  replace h := h i9
  refine g_ld (v := cI _) rfl (is_I _) ?_
  refine g_ld (v := cI _) rfl (is_I _) ?_
  obtain ⟨q10, h⟩ := h
  refine g_callV (As := [_, _, _, _, _]) (ci := 13) q10 (fun _ => rfl) ?_
  refine g_go0 (Nat.le_of_ble_eq_true rfl) (Tn_w (Tn_eq (one13 q10) (TX13_differs hs1 i6 i9 hl4 hl5 h)) fun _ G11 ⟨e, h⟩ => ⟨e, ?_⟩)
  exact TX13_eitherOf_36 hl1 hl2 hl3 hl4 hl5 h
def PX13_eitherOf_0 (a1 : Int) (a2 : Int) (a3 : Int) (a4 : Int) (a5 : Int) (G : gS) (Q : Int → gS → Prop) : Prop :=
  ((a2 = a3 → PX13_eitherOf_36 a1 a2 a3 a4 a5 G Q) ∧ (¬ (a2 = a3) → ((a3 = 0 → (inI (a1 + 1) ∧ PX13_eitherOf_17 a1 a2 a3 a4 a5 16081 (a1 + 1) G Q)) ∧ (¬ (a3 = 0) → PX13_eitherOf_17 a1 a2 a3 a4 a5 16081 a1 G Q))))
set_option maxRecDepth 20000 in
theorem TX13_eitherOf_0 {a1 : Int} {a2 : Int} {a3 : Int} {a4 : Int} {a5 : Int} {G : gS} {Q : Int → gS → Prop} (ha1 : inI a1) (ha2 : inI a2) (ha3 : inI a3) (ha4 : inI a4) (ha5 : inI a5) (h : PX13_eitherOf_0 a1 a2 a3 a4 a5 G Q) : Tg W0 vX13_eitherOf_0 [rf (16081), cI (a1), cI (a2), cI (a3), cI (a4), cI (a5)] [] G (fun r G => r = 7 ∧ Q 0 G) := by
  unfold PX13_eitherOf_0 at h
  unfold vX13_eitherOf_0
  refine g_ld (v := cI _) rfl (is_I _) ?_
  refine g_ld (v := cI _) rfl (is_I _) ?_
  refine g_eq2 ha2 ha3 (fun b1 => ?_) (fun b1 => ?_)
  · replace h := h.1 b1
    exact TX13_eitherOf_36 ha1 ha2 ha3 ha4 ha5 h
  · replace h := h.2 b1
    unfold vX13_eitherOf_5
    refine g_ld (v := rf _) rfl (is_R _) ?_
    refine g_ld (v := cI _) rfl (is_I _) ?_
    refine g_eq1 ha3 (fun b2 => ?_) (fun b2 => ?_)
    · replace h := h.1 b2
      unfold vX13_eitherOf_14
      refine g_ld (v := cI _) rfl (is_I _) ?_
      refine g_const (v := cI (1)) rfl ?_
      refine g_add ?_
      obtain ⟨q3, h⟩ := h
      exact TX13_eitherOf_17 ha1 ha2 ha3 ha4 ha5 q3 h
    · replace h := h.2 b2
      unfold vX13_eitherOf_10
      refine g_ld (v := cI _) rfl (is_I _) ?_
      exact TX13_eitherOf_17 ha1 ha2 ha3 ha4 ha5 ha1 h
abbrev PX13_eitherOf (a1 : Int) (a2 : Int) (a3 : Int) (a4 : Int) (a5 : Int) (G : gS) (Q : Int → gS → Prop) : Prop := PX13_eitherOf_0 a1 a2 a3 a4 a5 G Q
theorem TX13_eitherOf {a1 : Int} {a2 : Int} {a3 : Int} {a4 : Int} {a5 : Int} {G : gS} {Q : Int → gS → Prop} (ha1 : inI a1) (ha2 : inI a2) (ha3 : inI a3) (ha4 : inI a4) (ha5 : inI a5) (h : PX13_eitherOf a1 a2 a3 a4 a5 G Q) : Tn W0 FX13_eitherOf [rf (16081), cI (a1), cI (a2), cI (a3), cI (a4), cI (a5)] G (fun r G => r = 7 ∧ Q 0 G) := by
  unfold FX13_eitherOf
  refine g_ent (lv' := [rf (16081), cI (a1), cI (a2), cI (a3), cI (a4), cI (a5)]) (flR (flI (flI (flI (flI (flI fl0)))))) (Nat.le_of_ble_eq_true rfl) rfl ?_
  exact TX13_eitherOf_0 ha1 ha2 ha3 ha4 ha5 h
def PX13_compareFields_320 (J : Nat → List Int → gS → (Int → gS → Prop) → Prop) (l1 : Int) (l2 : Int) (l3 : Int) (l4 : Int) (G : gS) (Q : Int → gS → Prop) : Prop :=
  (inI (l3 + 1) ∧ J 1 [l1, l2, l3 + 1] G Q)
set_option maxRecDepth 20000 in
theorem TX13_compareFields_320 {j : Nat → rx_K} {J : Nat → List Int → gS → (Int → gS → Prop) → Prop} {l1 : Int} {l2 : Int} {l3 : Int} {l4 : Int} {l5 : Nat} {G : gS} {Q : Int → gS → Prop} (hl1 : inI l1) (hl2 : inI l2) (hl3 : inI l3) (hl4 : inI l4) (hl5 : l5 % 8 ≠ 1) (hj0 : ∀ (l1 : Int) (l2 : Int) (l3 : Int) (l4 : Nat) (l5 : Nat) (G : gS), (inI l1) → (inI l2) → (inI l3) → (l4 % 8 ≠ 1) → (l5 % 8 ≠ 1) → J 0 [l1, l2, l3] G Q → Tg W0 (j 0) [rf (16081), cI (l1), cI (l2), cI (l3), l4, l5] [] G (fun r G => r = 7 ∧ Q 0 G)) (hj1 : ∀ (l1 : Int) (l2 : Int) (l3 : Int) (l4 : Nat) (l5 : Nat) (G : gS), (inI l1) → (inI l2) → (inI l3) → (l4 % 8 ≠ 1) → (l5 % 8 ≠ 1) → J 1 [l1, l2, l3] G Q → Tg W0 (j 1) [rf (16081), cI (l1), cI (l2), cI (l3), l4, l5] [] G (fun r G => r = 7 ∧ Q 0 G)) (h : PX13_compareFields_320 J l1 l2 l3 l4 G Q) : Tg W0 (vX13_compareFields_320 j) [rf (16081), cI (l1), cI (l2), cI (l3), cI (l4), l5] [] G (fun r G => r = 7 ∧ Q 0 G) := by
  unfold PX13_compareFields_320 at h
  unfold vX13_compareFields_320
  refine g_inc (lv' := [_, _, _, _, _, _]) rfl (Nat.le_of_ble_eq_true rfl) (Or.inr (n1_I _)) rfl ?_
  obtain ⟨q98, h⟩ := h
  exact hj1 _ _ _ _ _ _ hl1 hl2 q98 (n1_I _) hl5 h
def PX13_compareFields_262 (J : Nat → List Int → gS → (Int → gS → Prop) → Prop) (l1 : Int) (l2 : Int) (l3 : Int) (G : gS) (Q : Int → gS → Prop) : Prop :=
  ((0 : Int) ≤ l2 ∧ ((l2 : Int) < 216 ∧ (inI (G 16115 l2) → ((l3 < G 16115 l2 → (inI ((l2 * 34) + l3) ∧ ((0 : Int) ≤ (l2 * 34) + l3 ∧ (((l2 * 34) + l3 : Int) < 7344 ∧ (inI (G 16116 ((l2 * 34) + l3)) → ((G 16116 ((l2 * 34) + l3) = 0 → ((0 : Int) ≤ (l2 * 34) + l3 ∧ (((l2 * 34) + l3 : Int) < 7344 ∧ (inL (G 16125 ((l2 * 34) + l3)) → PX13_ownField l1 (G 16125 ((l2 * 34) + l3)) 0 G (fun r51 G50 => inI r51 → ((r51 = -2 → PX13_differs 28 l1 l2 (-2) ((l2 * 34) + l3) G50 (fun _ G54 => PX13_compareFields_320 J l1 l2 l3 ((l2 * 34) + l3) G54 Q)) ∧ (¬ (r51 = -2) → PX13_compareFields_320 J l1 l2 l3 ((l2 * 34) + l3) G50 Q))))))) ∧ (¬ (G 16116 ((l2 * 34) + l3) = 0) → PX13_compareFields_320 J l1 l2 l3 ((l2 * 34) + l3) G Q))))))) ∧ (¬ (l3 < G 16115 l2) → Q 0 G)))))
set_option maxRecDepth 20000 in
theorem TX13_compareFields_262 {j : Nat → rx_K} {J : Nat → List Int → gS → (Int → gS → Prop) → Prop} {l1 : Int} {l2 : Int} {l3 : Int} {l4 : Nat} {l5 : Nat} {G : gS} {Q : Int → gS → Prop} (hl1 : inI l1) (hl2 : inI l2) (hl3 : inI l3) (hl4 : l4 % 8 ≠ 1) (hl5 : l5 % 8 ≠ 1) (hj0 : ∀ (l1 : Int) (l2 : Int) (l3 : Int) (l4 : Nat) (l5 : Nat) (G : gS), (inI l1) → (inI l2) → (inI l3) → (l4 % 8 ≠ 1) → (l5 % 8 ≠ 1) → J 0 [l1, l2, l3] G Q → Tg W0 (j 0) [rf (16081), cI (l1), cI (l2), cI (l3), l4, l5] [] G (fun r G => r = 7 ∧ Q 0 G)) (hj1 : ∀ (l1 : Int) (l2 : Int) (l3 : Int) (l4 : Nat) (l5 : Nat) (G : gS), (inI l1) → (inI l2) → (inI l3) → (l4 % 8 ≠ 1) → (l5 % 8 ≠ 1) → J 1 [l1, l2, l3] G Q → Tg W0 (j 1) [rf (16081), cI (l1), cI (l2), cI (l3), l4, l5] [] G (fun r G => r = 7 ∧ Q 0 G)) (h : PX13_compareFields_262 J l1 l2 l3 G Q) : Tg W0 (vX13_compareFields_262 j) [rf (16081), cI (l1), cI (l2), cI (l3), l4, l5] [] G (fun r G => r = 7 ∧ Q 0 G) := by
  unfold PX13_compareFields_262 at h
  unfold vX13_compareFields_262
  refine g_ld (v := cI _) rfl (is_I _) ?_
  refine g_ld (v := rf _) rfl (is_R _) ?_
  refine g_getF (v := 16115) oC13 (hC13_41) rfl (Nat.le_of_ble_eq_true rfl) (Nat.le_of_ble_eq_true rfl) ?_
  refine g_ld (v := cI _) rfl (is_I _) ?_
  obtain ⟨q38, q39, h⟩ := h
  refine g_aldI aC16115 q38 q39 rfl fun i40 => ?_
  replace h := h i40
  refine g_lt2 hl3 i40 (fun b41 => ?_) (fun b41 => ?_)
  · replace h := h.1 b41
    unfold vX13_compareFields_272
    refine g_ld (v := cI _) rfl (is_I _) ?_
    refine g_const (v := cI (34)) rfl ?_
    refine g_mul ?_
    refine g_ld (v := cI _) rfl (is_I _) ?_
    refine g_add ?_
    refine g_st (lv' := [_, _, _, _, _, _]) (is_I _) (Nat.le_of_ble_eq_true rfl) (Or.inr (n1_I _)) rfl ?_
    obtain ⟨q42, h⟩ := h
    refine g_ld (v := rf _) rfl (is_R _) ?_
    refine g_getF (v := 16116) oC13 (hC13_42) rfl (Nat.le_of_ble_eq_true rfl) (Nat.le_of_ble_eq_true rfl) ?_
    refine g_ld (v := cI _) rfl (is_I _) ?_
    obtain ⟨q43, q44, h⟩ := h
    refine g_aldI aC16116 q43 q44 rfl fun i45 => ?_
    replace h := h i45
    refine g_eq1 i45 (fun b46 => ?_) (fun b46 => ?_)
    · replace h := h.1 b46
      unfold vX13_compareFields_290
      refine g_ld (v := rf _) rfl (is_R _) ?_
      refine g_ld (v := cI _) rfl (is_I _) ?_
      refine g_ld (v := rf _) rfl (is_R _) ?_
      refine g_getF (v := 16125) oC13 (hC13_51) rfl (Nat.le_of_ble_eq_true rfl) (Nat.le_of_ble_eq_true rfl) ?_
      refine g_ld (v := cI _) rfl (is_I _) ?_
      obtain ⟨q47, q48, h⟩ := h
      refine g_aldL aC16125 q47 q48 rfl fun i49 => ?_
      replace h := h i49
      refine g_const (v := cL (0)) rfl ?_
      refine g_callV (As := [_, _, _]) (ci := 13) oC13 (fun _ => rfl) ?_
      refine g_go1 (Nat.le_of_ble_eq_true rfl) (Tn_w (TX13_ownField hl1 i49 ⟨by omega, by omega⟩ h) fun _ G50 ⟨r51, e, i52, h⟩ => ?_)
      subst e
      refine ⟨n7_I _, ?_⟩
      replace h := h i52
      refine g_const (v := cI (-2)) rfl ?_
      refine g_eq2 i52 ⟨by omega, by omega⟩ (fun b53 => ?_) (fun b53 => ?_)
      · replace h := h.1 b53
        unfold vX13_compareFields_308
        refine g_ld (v := rf _) rfl (is_R _) ?_
        refine g_const (v := cI (28)) rfl ?_
        refine g_ld (v := cI _) rfl (is_I _) ?_
        refine g_ld (v := cI _) rfl (is_I _) ?_
        refine g_const (v := cI (-2)) rfl ?_
        refine g_ld (v := cI _) rfl (is_I _) ?_
        refine g_callV (As := [_, _, _, _, _]) (ci := 13) oC13 (fun _ => rfl) ?_
        refine g_go0 (Nat.le_of_ble_eq_true rfl) (Tn_w (TX13_differs ⟨by omega, by omega⟩ hl1 hl2 ⟨by omega, by omega⟩ q42 h) fun _ G54 ⟨e, h⟩ => ⟨e, ?_⟩)
        exact TX13_compareFields_320 hl1 hl2 hl3 q42 hl5 hj0 hj1 h
      · replace h := h.2 b53
        exact TX13_compareFields_320 hl1 hl2 hl3 q42 hl5 hj0 hj1 h
    · replace h := h.2 b46
      exact TX13_compareFields_320 hl1 hl2 hl3 q42 hl5 hj0 hj1 h
  · replace h := h.2 b41
    unfold vX13_compareFields_326
    exact g_ret0 ⟨rfl, h⟩
def PX13_compareFields_254 (J : Nat → List Int → gS → (Int → gS → Prop) → Prop) (l1 : Int) (l2 : Int) (l3 : Int) (l4 : Int) (G : gS) (Q : Int → gS → Prop) : Prop :=
  (inI (l3 + 1) ∧ J 0 [l1, l2, l3 + 1] G Q)
set_option maxRecDepth 20000 in
theorem TX13_compareFields_254 {j : Nat → rx_K} {J : Nat → List Int → gS → (Int → gS → Prop) → Prop} {l1 : Int} {l2 : Int} {l3 : Int} {l4 : Int} {l5 : Nat} {G : gS} {Q : Int → gS → Prop} (hl1 : inI l1) (hl2 : inI l2) (hl3 : inI l3) (hl4 : inI l4) (hl5 : l5 % 8 ≠ 1) (hj0 : ∀ (l1 : Int) (l2 : Int) (l3 : Int) (l4 : Nat) (l5 : Nat) (G : gS), (inI l1) → (inI l2) → (inI l3) → (l4 % 8 ≠ 1) → (l5 % 8 ≠ 1) → J 0 [l1, l2, l3] G Q → Tg W0 (j 0) [rf (16081), cI (l1), cI (l2), cI (l3), l4, l5] [] G (fun r G => r = 7 ∧ Q 0 G)) (hj1 : ∀ (l1 : Int) (l2 : Int) (l3 : Int) (l4 : Nat) (l5 : Nat) (G : gS), (inI l1) → (inI l2) → (inI l3) → (l4 % 8 ≠ 1) → (l5 % 8 ≠ 1) → J 1 [l1, l2, l3] G Q → Tg W0 (j 1) [rf (16081), cI (l1), cI (l2), cI (l3), l4, l5] [] G (fun r G => r = 7 ∧ Q 0 G)) (h : PX13_compareFields_254 J l1 l2 l3 l4 G Q) : Tg W0 (vX13_compareFields_254 j) [rf (16081), cI (l1), cI (l2), cI (l3), cI (l4), l5] [] G (fun r G => r = 7 ∧ Q 0 G) := by
  unfold PX13_compareFields_254 at h
  unfold vX13_compareFields_254
  refine g_inc (lv' := [_, _, _, _, _, _]) rfl (Nat.le_of_ble_eq_true rfl) (Or.inr (n1_I _)) rfl ?_
  obtain ⟨q28, h⟩ := h
  exact hj0 _ _ _ _ _ _ hl1 hl2 q28 (n1_I _) hl5 h
def PX13_compareFields_242 (J : Nat → List Int → gS → (Int → gS → Prop) → Prop) (l1 : Int) (l2 : Int) (l3 : Int) (l4 : Int) (l5 : Int) (G : gS) (Q : Int → gS → Prop) : Prop :=
  PX13_differs 27 l1 l2 l4 l5 G (fun _ G99 => PX13_compareFields_254 J l1 l2 l3 l4 G99 Q)
set_option maxRecDepth 20000 in
theorem TX13_compareFields_242 {j : Nat → rx_K} {J : Nat → List Int → gS → (Int → gS → Prop) → Prop} {l1 : Int} {l2 : Int} {l3 : Int} {l4 : Int} {l5 : Int} {G : gS} {Q : Int → gS → Prop} (hl1 : inI l1) (hl2 : inI l2) (hl3 : inI l3) (hl4 : inI l4) (hl5 : inI l5) (hj0 : ∀ (l1 : Int) (l2 : Int) (l3 : Int) (l4 : Nat) (l5 : Nat) (G : gS), (inI l1) → (inI l2) → (inI l3) → (l4 % 8 ≠ 1) → (l5 % 8 ≠ 1) → J 0 [l1, l2, l3] G Q → Tg W0 (j 0) [rf (16081), cI (l1), cI (l2), cI (l3), l4, l5] [] G (fun r G => r = 7 ∧ Q 0 G)) (hj1 : ∀ (l1 : Int) (l2 : Int) (l3 : Int) (l4 : Nat) (l5 : Nat) (G : gS), (inI l1) → (inI l2) → (inI l3) → (l4 % 8 ≠ 1) → (l5 % 8 ≠ 1) → J 1 [l1, l2, l3] G Q → Tg W0 (j 1) [rf (16081), cI (l1), cI (l2), cI (l3), l4, l5] [] G (fun r G => r = 7 ∧ Q 0 G)) (h : PX13_compareFields_242 J l1 l2 l3 l4 l5 G Q) : Tg W0 (vX13_compareFields_242 j) [rf (16081), cI (l1), cI (l2), cI (l3), cI (l4), cI (l5)] [] G (fun r G => r = 7 ∧ Q 0 G) := by
  unfold PX13_compareFields_242 at h
  unfold vX13_compareFields_242
  refine g_ld (v := rf _) rfl (is_R _) ?_
  refine g_const (v := cI (27)) rfl ?_
  refine g_ld (v := cI _) rfl (is_I _) ?_
  refine g_ld (v := cI _) rfl (is_I _) ?_
  refine g_ld (v := cI _) rfl (is_I _) ?_
  refine g_ld (v := cI _) rfl (is_I _) ?_
  refine g_callV (As := [_, _, _, _, _]) (ci := 13) oC13 (fun _ => rfl) ?_
  refine g_go0 (Nat.le_of_ble_eq_true rfl) (Tn_w (TX13_differs ⟨by omega, by omega⟩ hl1 hl2 hl4 hl5 h) fun _ G99 ⟨e, h⟩ => ⟨e, ?_⟩)
  exact TX13_compareFields_254 hl1 hl2 hl3 hl4 (n1_I _) hj0 hj1 h
def PX13_compareFields_129 (J : Nat → List Int → gS → (Int → gS → Prop) → Prop) (l1 : Int) (l2 : Int) (l3 : Int) (l4 : Int) (l5 : Int) (G : gS) (Q : Int → gS → Prop) : Prop :=
  ((0 : Int) ≤ l4 ∧ ((l4 : Int) < 7344 ∧ (inL (G 16127 l4) → ((0 : Int) ≤ l5 ∧ ((l5 : Int) < 7344 ∧ (inL (G 16127 l5) → ((G 16127 l4 = G 16127 l5 → ((0 : Int) ≤ l4 ∧ ((l4 : Int) < 7344 ∧ ((0 ≤ G 16119 l4 ∧ G 16119 l4 ≤ 1) → ((0 : Int) ≤ l5 ∧ ((l5 : Int) < 7344 ∧ ((0 ≤ G 16119 l5 ∧ G 16119 l5 ≤ 1) → ((G 16119 l4 = G 16119 l5 → ((0 : Int) ≤ l4 ∧ ((l4 : Int) < 7344 ∧ ((0 ≤ G 16120 l4 ∧ G 16120 l4 ≤ 1) → ((0 : Int) ≤ l5 ∧ ((l5 : Int) < 7344 ∧ ((0 ≤ G 16120 l5 ∧ G 16120 l5 ≤ 1) → PX13_eitherOf 23 (G 16120 l4) (G 16120 l5) l4 l5 G (fun _ G76 => PX13_accessOf 25 l4 l5 G76 (fun _ G78 => ((0 : Int) ≤ l4 ∧ ((l4 : Int) < 7344 ∧ ((0 ≤ G78 16138 l4 ∧ G78 16138 l4 ≤ 1) → ((0 : Int) ≤ l5 ∧ ((l5 : Int) < 7344 ∧ ((0 ≤ G78 16138 l5 ∧ G78 16138 l5 ≤ 1) → ((G78 16138 l4 = G78 16138 l5 → ((0 : Int) ≤ l4 ∧ ((l4 : Int) < 7344 ∧ ((0 ≤ G78 16138 l4 ∧ G78 16138 l4 ≤ 1) → ((G78 16138 l4 = 0 → PX13_compareFields_254 J l1 l2 l3 l4 G78 Q) ∧ (¬ (G78 16138 l4 = 0) → ((0 : Int) ≤ l4 ∧ ((l4 : Int) < 7344 ∧ (inI (G78 16139 l4) → ((0 : Int) ≤ l5 ∧ ((l5 : Int) < 7344 ∧ (inI (G78 16139 l5) → ((G78 16139 l4 = G78 16139 l5 → PX13_compareFields_254 J l1 l2 l3 l4 G78 Q) ∧ (¬ (G78 16139 l4 = G78 16139 l5) → PX13_compareFields_242 J l1 l2 l3 l4 l5 G78 Q)))))))))))))) ∧ (¬ (G78 16138 l4 = G78 16138 l5) → PX13_compareFields_242 J l1 l2 l3 l4 l5 G78 Q))))))))))))))))) ∧ (¬ (G 16119 l4 = G 16119 l5) → PX13_compareFields_254 J l1 l2 l3 l4 G Q))))))))) ∧ (¬ (G 16127 l4 = G 16127 l5) → PX13_compareFields_254 J l1 l2 l3 l4 G Q))))))))
set_option maxRecDepth 20000 in
theorem TX13_compareFields_129 {j : Nat → rx_K} {J : Nat → List Int → gS → (Int → gS → Prop) → Prop} {l1 : Int} {l2 : Int} {l3 : Int} {l4 : Int} {l5 : Int} {G : gS} {Q : Int → gS → Prop} (hl1 : inI l1) (hl2 : inI l2) (hl3 : inI l3) (hl4 : inI l4) (hl5 : inI l5) (hj0 : ∀ (l1 : Int) (l2 : Int) (l3 : Int) (l4 : Nat) (l5 : Nat) (G : gS), (inI l1) → (inI l2) → (inI l3) → (l4 % 8 ≠ 1) → (l5 % 8 ≠ 1) → J 0 [l1, l2, l3] G Q → Tg W0 (j 0) [rf (16081), cI (l1), cI (l2), cI (l3), l4, l5] [] G (fun r G => r = 7 ∧ Q 0 G)) (hj1 : ∀ (l1 : Int) (l2 : Int) (l3 : Int) (l4 : Nat) (l5 : Nat) (G : gS), (inI l1) → (inI l2) → (inI l3) → (l4 % 8 ≠ 1) → (l5 % 8 ≠ 1) → J 1 [l1, l2, l3] G Q → Tg W0 (j 1) [rf (16081), cI (l1), cI (l2), cI (l3), l4, l5] [] G (fun r G => r = 7 ∧ Q 0 G)) (h : PX13_compareFields_129 J l1 l2 l3 l4 l5 G Q) : Tg W0 (vX13_compareFields_129 j) [rf (16081), cI (l1), cI (l2), cI (l3), cI (l4), cI (l5)] [] G (fun r G => r = 7 ∧ Q 0 G) := by
  unfold PX13_compareFields_129 at h
  unfold vX13_compareFields_129
  refine g_ld (v := rf _) rfl (is_R _) ?_
  refine g_getF (v := 16127) oC13 (hC13_53) rfl (Nat.le_of_ble_eq_true rfl) (Nat.le_of_ble_eq_true rfl) ?_
  refine g_ld (v := cI _) rfl (is_I _) ?_
  obtain ⟨q56, q57, h⟩ := h
  refine g_aldL aC16127 q56 q57 rfl fun i58 => ?_
  replace h := h i58
  refine g_ld (v := rf _) rfl (is_R _) ?_
  refine g_getF (v := 16127) oC13 (hC13_53) rfl (Nat.le_of_ble_eq_true rfl) (Nat.le_of_ble_eq_true rfl) ?_
  refine g_ld (v := cI _) rfl (is_I _) ?_
  obtain ⟨q59, q60, h⟩ := h
  refine g_aldL aC16127 q59 q60 rfl fun i61 => ?_
  replace h := h i61
  refine g_leq i58 i61 (fun b62 => ?_) (fun b62 => ?_)
  · replace h := h.1 b62
    unfold vX13_compareFields_147
    refine g_ld (v := rf _) rfl (is_R _) ?_
    refine g_getF (v := 16119) oC13 (hC13_45) rfl (Nat.le_of_ble_eq_true rfl) (Nat.le_of_ble_eq_true rfl) ?_
    refine g_ld (v := cI _) rfl (is_I _) ?_
    obtain ⟨q63, q64, h⟩ := h
    refine g_aldZ aC16119 q63 q64 rfl fun i65 => ?_
    replace h := h i65
    refine g_ld (v := rf _) rfl (is_R _) ?_
    refine g_getF (v := 16119) oC13 (hC13_45) rfl (Nat.le_of_ble_eq_true rfl) (Nat.le_of_ble_eq_true rfl) ?_
    refine g_ld (v := cI _) rfl (is_I _) ?_
    obtain ⟨q66, q67, h⟩ := h
    refine g_aldZ aC16119 q66 q67 rfl fun i68 => ?_
    replace h := h i68
    refine g_eq2 ⟨by omega, by omega⟩ ⟨by omega, by omega⟩ (fun b69 => ?_) (fun b69 => ?_)
    · replace h := h.1 b69
      unfold vX13_compareFields_164
      refine g_ld (v := rf _) rfl (is_R _) ?_
      refine g_const (v := cI (23)) rfl ?_
      refine g_ld (v := rf _) rfl (is_R _) ?_
      refine g_getF (v := 16120) oC13 (hC13_46) rfl (Nat.le_of_ble_eq_true rfl) (Nat.le_of_ble_eq_true rfl) ?_
      refine g_ld (v := cI _) rfl (is_I _) ?_
      obtain ⟨q70, q71, h⟩ := h
      refine g_aldZ aC16120 q70 q71 rfl fun i72 => ?_
      replace h := h i72
      refine g_ld (v := rf _) rfl (is_R _) ?_
      refine g_getF (v := 16120) oC13 (hC13_46) rfl (Nat.le_of_ble_eq_true rfl) (Nat.le_of_ble_eq_true rfl) ?_
      refine g_ld (v := cI _) rfl (is_I _) ?_
      obtain ⟨q73, q74, h⟩ := h
      refine g_aldZ aC16120 q73 q74 rfl fun i75 => ?_
      replace h := h i75
      refine g_ld (v := cI _) rfl (is_I _) ?_
      refine g_ld (v := cI _) rfl (is_I _) ?_
      refine g_callV (As := [_, _, _, _, _]) (ci := 13) oC13 (fun _ => rfl) ?_
      refine g_go0 (Nat.le_of_ble_eq_true rfl) (Tn_w (TX13_eitherOf ⟨by omega, by omega⟩ ⟨by omega, by omega⟩ ⟨by omega, by omega⟩ hl4 hl5 h) fun _ G76 ⟨e, h⟩ => ⟨e, ?_⟩)
      refine g_ld (v := rf _) rfl (is_R _) ?_
      refine g_const (v := cI (25)) rfl ?_
      refine g_ld (v := cI _) rfl (is_I _) ?_
      refine g_ld (v := cI _) rfl (is_I _) ?_
      refine g_callV (As := [_, _, _]) (ci := 13) oC13 (fun _ => rfl) ?_
      refine g_go0 (Nat.le_of_ble_eq_true rfl) (Tn_w (TX13_accessOf ⟨by omega, by omega⟩ hl4 hl5 h) fun _ G78 ⟨e, h⟩ => ⟨e, ?_⟩)
      refine g_ld (v := rf _) rfl (is_R _) ?_
      refine g_getF (v := 16138) oC13 (hC13_64) rfl (Nat.le_of_ble_eq_true rfl) (Nat.le_of_ble_eq_true rfl) ?_
      refine g_ld (v := cI _) rfl (is_I _) ?_
      obtain ⟨q80, q81, h⟩ := h
      refine g_aldZ aC16138 q80 q81 rfl fun i82 => ?_
      replace h := h i82
      refine g_ld (v := rf _) rfl (is_R _) ?_
      refine g_getF (v := 16138) oC13 (hC13_64) rfl (Nat.le_of_ble_eq_true rfl) (Nat.le_of_ble_eq_true rfl) ?_
      unfold vX13_compareFields_209
      refine g_ld (v := cI _) rfl (is_I _) ?_
      obtain ⟨q83, q84, h⟩ := h
      refine g_aldZ aC16138 q83 q84 rfl fun i85 => ?_
      replace h := h i85
      refine g_eq2 ⟨by omega, by omega⟩ ⟨by omega, by omega⟩ (fun b86 => ?_) (fun b86 => ?_)
      · replace h := h.1 b86
        unfold vX13_compareFields_215
        refine g_ld (v := rf _) rfl (is_R _) ?_
        refine g_getF (v := 16138) oC13 (hC13_64) rfl (Nat.le_of_ble_eq_true rfl) (Nat.le_of_ble_eq_true rfl) ?_
        refine g_ld (v := cI _) rfl (is_I _) ?_
        obtain ⟨q87, q88, h⟩ := h
        refine g_aldZ aC16138 q87 q88 rfl fun i89 => ?_
        replace h := h i89
        refine g_eq1 ⟨by omega, by omega⟩ (fun b90 => ?_) (fun b90 => ?_)
        · replace h := h.1 b90
          exact TX13_compareFields_254 hl1 hl2 hl3 hl4 (n1_I _) hj0 hj1 h
        · replace h := h.2 b90
          unfold vX13_compareFields_225
          refine g_ld (v := rf _) rfl (is_R _) ?_
          refine g_getF (v := 16139) oC13 (hC13_65) rfl (Nat.le_of_ble_eq_true rfl) (Nat.le_of_ble_eq_true rfl) ?_
          refine g_ld (v := cI _) rfl (is_I _) ?_
          obtain ⟨q91, q92, h⟩ := h
          refine g_aldI aC16139 q91 q92 rfl fun i93 => ?_
          replace h := h i93
          refine g_ld (v := rf _) rfl (is_R _) ?_
          refine g_getF (v := 16139) oC13 (hC13_65) rfl (Nat.le_of_ble_eq_true rfl) (Nat.le_of_ble_eq_true rfl) ?_
          refine g_ld (v := cI _) rfl (is_I _) ?_
          obtain ⟨q94, q95, h⟩ := h
          refine g_aldI aC16139 q94 q95 rfl fun i96 => ?_
          replace h := h i96
          refine g_eq2 i93 i96 (fun b97 => ?_) (fun b97 => ?_)
          · replace h := h.1 b97
            exact TX13_compareFields_254 hl1 hl2 hl3 hl4 (n1_I _) hj0 hj1 h
          · replace h := h.2 b97
            exact TX13_compareFields_242 hl1 hl2 hl3 hl4 hl5 hj0 hj1 h
      · replace h := h.2 b86
        exact TX13_compareFields_242 hl1 hl2 hl3 hl4 hl5 hj0 hj1 h
    · replace h := h.2 b69
      exact TX13_compareFields_254 hl1 hl2 hl3 hl4 (n1_I _) hj0 hj1 h
  · replace h := h.2 b62
    exact TX13_compareFields_254 hl1 hl2 hl3 hl4 (n1_I _) hj0 hj1 h
def PX13_compareFields_100 (J : Nat → List Int → gS → (Int → gS → Prop) → Prop) (l1 : Int) (l2 : Int) (l3 : Int) (l4 : Int) (l5 : Int) (G : gS) (Q : Int → gS → Prop) : Prop :=
  ((0 : Int) ≤ l4 ∧ ((l4 : Int) < 7344 ∧ ((0 ≤ G 16119 l4 ∧ G 16119 l4 ≤ 1) → ((0 : Int) ≤ l5 ∧ ((l5 : Int) < 7344 ∧ ((0 ≤ G 16119 l5 ∧ G 16119 l5 ≤ 1) → ((G 16119 l4 = G 16119 l5 → PX13_compareFields_129 J l1 l2 l3 l4 l5 G Q) ∧ (¬ (G 16119 l4 = G 16119 l5) → PX13_differs 22 l1 l2 l4 l5 G (fun _ G36 => PX13_compareFields_129 J l1 l2 l3 l4 l5 G36 Q)))))))))
set_option maxRecDepth 20000 in
theorem TX13_compareFields_100 {j : Nat → rx_K} {J : Nat → List Int → gS → (Int → gS → Prop) → Prop} {l1 : Int} {l2 : Int} {l3 : Int} {l4 : Int} {l5 : Int} {G : gS} {Q : Int → gS → Prop} (hl1 : inI l1) (hl2 : inI l2) (hl3 : inI l3) (hl4 : inI l4) (hl5 : inI l5) (hj0 : ∀ (l1 : Int) (l2 : Int) (l3 : Int) (l4 : Nat) (l5 : Nat) (G : gS), (inI l1) → (inI l2) → (inI l3) → (l4 % 8 ≠ 1) → (l5 % 8 ≠ 1) → J 0 [l1, l2, l3] G Q → Tg W0 (j 0) [rf (16081), cI (l1), cI (l2), cI (l3), l4, l5] [] G (fun r G => r = 7 ∧ Q 0 G)) (hj1 : ∀ (l1 : Int) (l2 : Int) (l3 : Int) (l4 : Nat) (l5 : Nat) (G : gS), (inI l1) → (inI l2) → (inI l3) → (l4 % 8 ≠ 1) → (l5 % 8 ≠ 1) → J 1 [l1, l2, l3] G Q → Tg W0 (j 1) [rf (16081), cI (l1), cI (l2), cI (l3), l4, l5] [] G (fun r G => r = 7 ∧ Q 0 G)) (h : PX13_compareFields_100 J l1 l2 l3 l4 l5 G Q) : Tg W0 (vX13_compareFields_100 j) [rf (16081), cI (l1), cI (l2), cI (l3), cI (l4), cI (l5)] [] G (fun r G => r = 7 ∧ Q 0 G) := by
  unfold PX13_compareFields_100 at h
  unfold vX13_compareFields_100
  refine g_ld (v := rf _) rfl (is_R _) ?_
  refine g_getF (v := 16119) oC13 (hC13_45) rfl (Nat.le_of_ble_eq_true rfl) (Nat.le_of_ble_eq_true rfl) ?_
  refine g_ld (v := cI _) rfl (is_I _) ?_
  obtain ⟨q29, q30, h⟩ := h
  refine g_aldZ aC16119 q29 q30 rfl fun i31 => ?_
  replace h := h i31
  refine g_ld (v := rf _) rfl (is_R _) ?_
  refine g_getF (v := 16119) oC13 (hC13_45) rfl (Nat.le_of_ble_eq_true rfl) (Nat.le_of_ble_eq_true rfl) ?_
  refine g_ld (v := cI _) rfl (is_I _) ?_
  obtain ⟨q32, q33, h⟩ := h
  refine g_aldZ aC16119 q32 q33 rfl fun i34 => ?_
  replace h := h i34
  refine g_eq2 ⟨by omega, by omega⟩ ⟨by omega, by omega⟩ (fun b35 => ?_) (fun b35 => ?_)
  · replace h := h.1 b35
    exact TX13_compareFields_129 hl1 hl2 hl3 hl4 hl5 hj0 hj1 h
  · replace h := h.2 b35
    unfold vX13_compareFields_117
    refine g_ld (v := rf _) rfl (is_R _) ?_
    refine g_const (v := cI (22)) rfl ?_
    refine g_ld (v := cI _) rfl (is_I _) ?_
    refine g_ld (v := cI _) rfl (is_I _) ?_
    refine g_ld (v := cI _) rfl (is_I _) ?_
    refine g_ld (v := cI _) rfl (is_I _) ?_
    refine g_callV (As := [_, _, _, _, _]) (ci := 13) oC13 (fun _ => rfl) ?_
    refine g_go0 (Nat.le_of_ble_eq_true rfl) (Tn_w (TX13_differs ⟨by omega, by omega⟩ hl1 hl2 hl4 hl5 h) fun _ G36 ⟨e, h⟩ => ⟨e, ?_⟩)
    exact TX13_compareFields_129 hl1 hl2 hl3 hl4 hl5 hj0 hj1 h
def PX13_compareFields_2 (J : Nat → List Int → gS → (Int → gS → Prop) → Prop) (l1 : Int) (l2 : Int) (l3 : Int) (G : gS) (Q : Int → gS → Prop) : Prop :=
  ((0 : Int) ≤ l1 ∧ ((l1 : Int) < 216 ∧ (inI (G 16115 l1) → ((l3 < G 16115 l1 → (inI ((l1 * 34) + l3) ∧ ((0 : Int) ≤ (l1 * 34) + l3 ∧ (((l1 * 34) + l3 : Int) < 7344 ∧ (inI (G 16116 ((l1 * 34) + l3)) → ((G 16116 ((l1 * 34) + l3) = 0 → ((0 : Int) ≤ (l1 * 34) + l3 ∧ (((l1 * 34) + l3 : Int) < 7344 ∧ (inL (G 16125 ((l1 * 34) + l3)) → PX13_ownField l2 (G 16125 ((l1 * 34) + l3)) 0 G (fun r14 G13 => inI r14 → ((r14 = -2 → PX13_differs 20 l1 l2 ((l1 * 34) + l3) (-2) G13 (fun _ G17 => PX13_compareFields_254 J l1 l2 l3 ((l1 * 34) + l3) G17 Q)) ∧ (¬ (r14 = -2) → ((0 : Int) ≤ (l1 * 34) + l3 ∧ (((l1 * 34) + l3 : Int) < 7344 ∧ (inL (G13 16127 ((l1 * 34) + l3)) → ((0 : Int) ≤ r14 ∧ ((r14 : Int) < 7344 ∧ (inL (G13 16127 r14) → ((G13 16127 ((l1 * 34) + l3) = G13 16127 r14 → PX13_compareFields_100 J l1 l2 l3 ((l1 * 34) + l3) r14 G13 Q) ∧ (¬ (G13 16127 ((l1 * 34) + l3) = G13 16127 r14) → PX13_differs 21 l1 l2 ((l1 * 34) + l3) r14 G13 (fun _ G26 => PX13_compareFields_100 J l1 l2 l3 ((l1 * 34) + l3) r14 G26 Q)))))))))))))))) ∧ (¬ (G 16116 ((l1 * 34) + l3) = 0) → PX13_compareFields_254 J l1 l2 l3 ((l1 * 34) + l3) G Q))))))) ∧ (¬ (l3 < G 16115 l1) → PX13_compareFields_262 J l1 l2 0 G Q)))))
set_option maxRecDepth 20000 in
theorem TX13_compareFields_2 {j : Nat → rx_K} {J : Nat → List Int → gS → (Int → gS → Prop) → Prop} {l1 : Int} {l2 : Int} {l3 : Int} {l4 : Nat} {l5 : Nat} {G : gS} {Q : Int → gS → Prop} (hl1 : inI l1) (hl2 : inI l2) (hl3 : inI l3) (hl4 : l4 % 8 ≠ 1) (hl5 : l5 % 8 ≠ 1) (hj0 : ∀ (l1 : Int) (l2 : Int) (l3 : Int) (l4 : Nat) (l5 : Nat) (G : gS), (inI l1) → (inI l2) → (inI l3) → (l4 % 8 ≠ 1) → (l5 % 8 ≠ 1) → J 0 [l1, l2, l3] G Q → Tg W0 (j 0) [rf (16081), cI (l1), cI (l2), cI (l3), l4, l5] [] G (fun r G => r = 7 ∧ Q 0 G)) (hj1 : ∀ (l1 : Int) (l2 : Int) (l3 : Int) (l4 : Nat) (l5 : Nat) (G : gS), (inI l1) → (inI l2) → (inI l3) → (l4 % 8 ≠ 1) → (l5 % 8 ≠ 1) → J 1 [l1, l2, l3] G Q → Tg W0 (j 1) [rf (16081), cI (l1), cI (l2), cI (l3), l4, l5] [] G (fun r G => r = 7 ∧ Q 0 G)) (h : PX13_compareFields_2 J l1 l2 l3 G Q) : Tg W0 (vX13_compareFields_2 j) [rf (16081), cI (l1), cI (l2), cI (l3), l4, l5] [] G (fun r G => r = 7 ∧ Q 0 G) := by
  unfold PX13_compareFields_2 at h
  unfold vX13_compareFields_2
  refine g_ld (v := cI _) rfl (is_I _) ?_
  refine g_ld (v := rf _) rfl (is_R _) ?_
  refine g_getF (v := 16115) oC13 (hC13_41) rfl (Nat.le_of_ble_eq_true rfl) (Nat.le_of_ble_eq_true rfl) ?_
  refine g_ld (v := cI _) rfl (is_I _) ?_
  obtain ⟨q1, q2, h⟩ := h
  refine g_aldI aC16115 q1 q2 rfl fun i3 => ?_
  replace h := h i3
  refine g_lt2 hl3 i3 (fun b4 => ?_) (fun b4 => ?_)
  · replace h := h.1 b4
    unfold vX13_compareFields_12
    refine g_ld (v := cI _) rfl (is_I _) ?_
    refine g_const (v := cI (34)) rfl ?_
    refine g_mul ?_
    refine g_ld (v := cI _) rfl (is_I _) ?_
    refine g_add ?_
    refine g_st (lv' := [_, _, _, _, _, _]) (is_I _) (Nat.le_of_ble_eq_true rfl) (Or.inr (n1_I _)) rfl ?_
    obtain ⟨q5, h⟩ := h
    refine g_ld (v := rf _) rfl (is_R _) ?_
    refine g_getF (v := 16116) oC13 (hC13_42) rfl (Nat.le_of_ble_eq_true rfl) (Nat.le_of_ble_eq_true rfl) ?_
    refine g_ld (v := cI _) rfl (is_I _) ?_
    obtain ⟨q6, q7, h⟩ := h
    refine g_aldI aC16116 q6 q7 rfl fun i8 => ?_
    replace h := h i8
    refine g_eq1 i8 (fun b9 => ?_) (fun b9 => ?_)
    · replace h := h.1 b9
      unfold vX13_compareFields_33
      refine g_ld (v := rf _) rfl (is_R _) ?_
      refine g_ld (v := cI _) rfl (is_I _) ?_
      refine g_ld (v := rf _) rfl (is_R _) ?_
      refine g_getF (v := 16125) oC13 (hC13_51) rfl (Nat.le_of_ble_eq_true rfl) (Nat.le_of_ble_eq_true rfl) ?_
      refine g_ld (v := cI _) rfl (is_I _) ?_
      obtain ⟨q10, q11, h⟩ := h
      refine g_aldL aC16125 q10 q11 rfl fun i12 => ?_
      replace h := h i12
      refine g_const (v := cL (0)) rfl ?_
      refine g_callV (As := [_, _, _]) (ci := 13) oC13 (fun _ => rfl) ?_
      refine g_go1 (Nat.le_of_ble_eq_true rfl) (Tn_w (TX13_ownField hl2 i12 ⟨by omega, by omega⟩ h) fun _ G13 ⟨r14, e, i15, h⟩ => ?_)
      subst e
      refine ⟨n7_I _, ?_⟩
      replace h := h i15
      refine g_st (lv' := [_, _, _, _, _, _]) (is_I _) (Nat.le_of_ble_eq_true rfl) (Or.inr (n1_I _)) rfl ?_
      refine g_ld (v := cI _) rfl (is_I _) ?_
      refine g_const (v := cI (-2)) rfl ?_
      refine g_eq2 i15 ⟨by omega, by omega⟩ (fun b16 => ?_) (fun b16 => ?_)
      · replace h := h.1 b16
        unfold vX13_compareFields_55
        refine g_ld (v := rf _) rfl (is_R _) ?_
        refine g_const (v := cI (20)) rfl ?_
        refine g_ld (v := cI _) rfl (is_I _) ?_
        refine g_ld (v := cI _) rfl (is_I _) ?_
        refine g_ld (v := cI _) rfl (is_I _) ?_
        refine g_const (v := cI (-2)) rfl ?_
        refine g_callV (As := [_, _, _, _, _]) (ci := 13) oC13 (fun _ => rfl) ?_
        refine g_go0 (Nat.le_of_ble_eq_true rfl) (Tn_w (TX13_differs ⟨by omega, by omega⟩ hl1 hl2 q5 ⟨by omega, by omega⟩ h) fun _ G17 ⟨e, h⟩ => ⟨e, ?_⟩)
        exact TX13_compareFields_254 hl1 hl2 hl3 q5 (n1_I _) hj0 hj1 h
      · replace h := h.2 b16
        unfold vX13_compareFields_70
        refine g_ld (v := rf _) rfl (is_R _) ?_
        refine g_getF (v := 16127) oC13 (hC13_53) rfl (Nat.le_of_ble_eq_true rfl) (Nat.le_of_ble_eq_true rfl) ?_
        refine g_ld (v := cI _) rfl (is_I _) ?_
        obtain ⟨q19, q20, h⟩ := h
        refine g_aldL aC16127 q19 q20 rfl fun i21 => ?_
        replace h := h i21
        refine g_ld (v := rf _) rfl (is_R _) ?_
        refine g_getF (v := 16127) oC13 (hC13_53) rfl (Nat.le_of_ble_eq_true rfl) (Nat.le_of_ble_eq_true rfl) ?_
        refine g_ld (v := cI _) rfl (is_I _) ?_
        obtain ⟨q22, q23, h⟩ := h
        refine g_aldL aC16127 q22 q23 rfl fun i24 => ?_
        replace h := h i24
        refine g_leq i21 i24 (fun b25 => ?_) (fun b25 => ?_)
        · replace h := h.1 b25
          exact TX13_compareFields_100 hl1 hl2 hl3 q5 i15 hj0 hj1 h
        · replace h := h.2 b25
          unfold vX13_compareFields_88
          refine g_ld (v := rf _) rfl (is_R _) ?_
          refine g_const (v := cI (21)) rfl ?_
          refine g_ld (v := cI _) rfl (is_I _) ?_
          refine g_ld (v := cI _) rfl (is_I _) ?_
          refine g_ld (v := cI _) rfl (is_I _) ?_
          refine g_ld (v := cI _) rfl (is_I _) ?_
          refine g_callV (As := [_, _, _, _, _]) (ci := 13) oC13 (fun _ => rfl) ?_
          refine g_go0 (Nat.le_of_ble_eq_true rfl) (Tn_w (TX13_differs ⟨by omega, by omega⟩ hl1 hl2 q5 i15 h) fun _ G26 ⟨e, h⟩ => ⟨e, ?_⟩)
          exact TX13_compareFields_100 hl1 hl2 hl3 q5 i15 hj0 hj1 h
    · replace h := h.2 b9
      unfold vX13_compareFields_30
      exact TX13_compareFields_254 hl1 hl2 hl3 q5 hl5 hj0 hj1 h
  · replace h := h.2 b4
    unfold vX13_compareFields_260
    refine g_const (v := cI (0)) rfl ?_
    refine g_st (lv' := [_, _, _, _, _, _]) (is_I _) (Nat.le_of_ble_eq_true rfl) (Or.inr (n1_I _)) rfl ?_
    exact TX13_compareFields_262 hl1 hl2 ⟨by omega, by omega⟩ hl4 hl5 hj0 hj1 h
def PX13_compareFields_0 (J : Nat → List Int → gS → (Int → gS → Prop) → Prop) (a1 : Int) (a2 : Int) (G : gS) (Q : Int → gS → Prop) : Prop :=
  PX13_compareFields_2 J a1 a2 0 G Q
set_option maxRecDepth 20000 in
theorem TX13_compareFields_0 {j : Nat → rx_K} {J : Nat → List Int → gS → (Int → gS → Prop) → Prop} {a1 : Int} {a2 : Int} {G : gS} {Q : Int → gS → Prop} (ha1 : inI a1) (ha2 : inI a2) (hj0 : ∀ (l1 : Int) (l2 : Int) (l3 : Int) (l4 : Nat) (l5 : Nat) (G : gS), (inI l1) → (inI l2) → (inI l3) → (l4 % 8 ≠ 1) → (l5 % 8 ≠ 1) → J 0 [l1, l2, l3] G Q → Tg W0 (j 0) [rf (16081), cI (l1), cI (l2), cI (l3), l4, l5] [] G (fun r G => r = 7 ∧ Q 0 G)) (hj1 : ∀ (l1 : Int) (l2 : Int) (l3 : Int) (l4 : Nat) (l5 : Nat) (G : gS), (inI l1) → (inI l2) → (inI l3) → (l4 % 8 ≠ 1) → (l5 % 8 ≠ 1) → J 1 [l1, l2, l3] G Q → Tg W0 (j 1) [rf (16081), cI (l1), cI (l2), cI (l3), l4, l5] [] G (fun r G => r = 7 ∧ Q 0 G)) (h : PX13_compareFields_0 J a1 a2 G Q) : Tg W0 (vX13_compareFields_0 j) [rf (16081), cI (a1), cI (a2), 7, 7, 7] [] G (fun r G => r = 7 ∧ Q 0 G) := by
  unfold PX13_compareFields_0 at h
  unfold vX13_compareFields_0
  refine g_const (v := cI (0)) rfl ?_
  refine g_st (lv' := [_, _, _, _, _, _]) (is_I _) (Nat.le_of_ble_eq_true rfl) (Or.inr (n1_I _)) rfl ?_
  exact TX13_compareFields_2 ha1 ha2 ⟨by omega, by omega⟩ (show 7 % 8 ≠ 1 by decide) (show 7 % 8 ≠ 1 by decide) hj0 hj1 h
def PX13_compareFields_J : Nat → Nat → List Int → gS → (Int → gS → Prop) → Prop
  | 0, _, _, _, _ => False
  | f + 1, h, L, G, Q => match h, L with
    | 0, [l1, l2, l3] => PX13_compareFields_2 (PX13_compareFields_J f) l1 l2 l3 G Q
    | 1, [l1, l2, l3] => PX13_compareFields_262 (PX13_compareFields_J f) l1 l2 l3 G Q
    | _, _ => False
theorem TX13_compareFields_J {Q : Int → gS → Prop} : ∀ f N : Nat, f ≤ N → (∀ (l1 : Int) (l2 : Int) (l3 : Int) (l4 : Nat) (l5 : Nat) (G : gS), (inI l1) → (inI l2) → (inI l3) → (l4 % 8 ≠ 1) → (l5 % 8 ≠ 1) → (PX13_compareFields_J f) 0 [l1, l2, l3] G Q → Tg W0 (rx_J vhX13_compareFields N 0) [rf (16081), cI (l1), cI (l2), cI (l3), l4, l5] [] G (fun r G => r = 7 ∧ Q 0 G)) ∧ (∀ (l1 : Int) (l2 : Int) (l3 : Int) (l4 : Nat) (l5 : Nat) (G : gS), (inI l1) → (inI l2) → (inI l3) → (l4 % 8 ≠ 1) → (l5 % 8 ≠ 1) → (PX13_compareFields_J f) 1 [l1, l2, l3] G Q → Tg W0 (rx_J vhX13_compareFields N 1) [rf (16081), cI (l1), cI (l2), cI (l3), l4, l5] [] G (fun r G => r = 7 ∧ Q 0 G)) := by
  intro f
  induction f with
  | zero => exact fun N _ => ⟨fun _ _ _ _ _ _ _ _ _ _ _ h => h.elim, fun _ _ _ _ _ _ _ _ _ _ _ h => h.elim⟩
  | succ f ih =>
    intro N hN
    obtain ⟨M, rfl⟩ : ∃ M, N = M + 1 := ⟨N - 1, by omega⟩
    have ih := ih M (by omega)
    exact ⟨fun _ _ _ _ _ _ hl1 hl2 hl3 hl4 hl5 h => show Tg W0 (vX13_compareFields_2 (rx_J vhX13_compareFields M)) _ _ _ _ from TX13_compareFields_2 hl1 hl2 hl3 hl4 hl5 ih.1 ih.2 h, fun _ _ _ _ _ _ hl1 hl2 hl3 hl4 hl5 h => show Tg W0 (vX13_compareFields_262 (rx_J vhX13_compareFields M)) _ _ _ _ from TX13_compareFields_262 hl1 hl2 hl3 hl4 hl5 ih.1 ih.2 h⟩
def PX13_compareFields (a1 : Int) (a2 : Int) (G : gS) (Q : Int → gS → Prop) : Prop := ∃ f : Nat, f ≤ 4000000000 ∧ PX13_compareFields_0 (PX13_compareFields_J f) a1 a2 G Q
theorem TX13_compareFields {a1 : Int} {a2 : Int} {G : gS} {Q : Int → gS → Prop} (ha1 : inI a1) (ha2 : inI a2) (h : PX13_compareFields a1 a2 G Q) : Tn W0 FX13_compareFields [rf (16081), cI (a1), cI (a2)] G (fun r G => r = 7 ∧ Q 0 G) := by
  obtain ⟨f, hf, h⟩ := h
  have hJ := TX13_compareFields_J (Q := Q) f 4000000000 hf
  unfold FX13_compareFields
  refine g_ent (lv' := [rf (16081), cI (a1), cI (a2), 7, 7, 7]) (flR (flI (flI fl0))) (Nat.le_of_ble_eq_true rfl) rfl ?_
  exact TX13_compareFields_0 ha1 ha2 hJ.1 hJ.2 h
def PX13_either_28 (l1 : Int) (l2 : Int) (l3 : Int) (l4 : Int) (l5 : Int) (G : gS) (Q : Int → gS → Prop) : Prop :=
  Q 0 G
set_option maxRecDepth 20000 in
theorem TX13_either_28 {l1 : Int} {l2 : Int} {l3 : Int} {l4 : Int} {l5 : Int} {G : gS} {Q : Int → gS → Prop} (hl1 : inI l1) (hl2 : inI l2) (hl3 : inI l3) (hl4 : inI l4) (hl5 : inI l5) (h : PX13_either_28 l1 l2 l3 l4 l5 G Q) : Tg W0 vX13_either_28 [rf (16081), cI (l1), cI (l2), cI (l3), cI (l4), cI (l5)] [] G (fun r G => r = 7 ∧ Q 0 G) := by
  unfold PX13_either_28 at h
  unfold vX13_either_28
  exact g_ret0 ⟨rfl, h⟩
def PX13_either_17 (l1 : Int) (l2 : Int) (l3 : Int) (l4 : Int) (l5 : Int) (s0 : Int) (s1 : Int) (G : gS) (Q : Int → gS → Prop) : Prop :=
  (isO W0 13 (s0) ∧ PX13_differs s1 l4 l5 (-2) (-2) G (fun _ G5 => PX13_either_28 l1 l2 l3 l4 l5 G5 Q))
set_option maxRecDepth 20000 in
theorem TX13_either_17 {l1 : Int} {l2 : Int} {l3 : Int} {l4 : Int} {l5 : Int} {s0 : Int} {s1 : Int} {G : gS} {Q : Int → gS → Prop} (hl1 : inI l1) (hl2 : inI l2) (hl3 : inI l3) (hl4 : inI l4) (hl5 : inI l5) (hs1 : inI s1) (h : PX13_either_17 l1 l2 l3 l4 l5 s0 s1 G Q) : Tg W0 vX13_either_17 [rf (16081), cI (l1), cI (l2), cI (l3), cI (l4), cI (l5)] [cI (s1), rf (s0)] G (fun r G => r = 7 ∧ Q 0 G) := by
  unfold PX13_either_17 at h
  unfold vX13_either_17
  refine g_ld (v := cI _) rfl (is_I _) ?_
  refine g_ld (v := cI _) rfl (is_I _) ?_
  refine g_const (v := cI (-2)) rfl ?_
  refine g_const (v := cI (-2)) rfl ?_
  obtain ⟨q4, h⟩ := h
  refine g_callV (As := [_, _, _, _, _]) (ci := 13) q4 (fun _ => rfl) ?_
  refine g_go0 (Nat.le_of_ble_eq_true rfl) (Tn_w (Tn_eq (one13 q4) (TX13_differs hs1 hl4 hl5 ⟨by omega, by omega⟩ ⟨by omega, by omega⟩ h)) fun _ G5 ⟨e, h⟩ => ⟨e, ?_⟩)
  exact TX13_either_28 hl1 hl2 hl3 hl4 hl5 h
def PX13_either_0 (a1 : Int) (a2 : Int) (a3 : Int) (a4 : Int) (a5 : Int) (G : gS) (Q : Int → gS → Prop) : Prop :=
  ((a2 = a3 → PX13_either_28 a1 a2 a3 a4 a5 G Q) ∧ (¬ (a2 = a3) → ((a3 = 0 → (inI (a1 + 1) ∧ PX13_either_17 a1 a2 a3 a4 a5 16081 (a1 + 1) G Q)) ∧ (¬ (a3 = 0) → PX13_either_17 a1 a2 a3 a4 a5 16081 a1 G Q))))
set_option maxRecDepth 20000 in
theorem TX13_either_0 {a1 : Int} {a2 : Int} {a3 : Int} {a4 : Int} {a5 : Int} {G : gS} {Q : Int → gS → Prop} (ha1 : inI a1) (ha2 : inI a2) (ha3 : inI a3) (ha4 : inI a4) (ha5 : inI a5) (h : PX13_either_0 a1 a2 a3 a4 a5 G Q) : Tg W0 vX13_either_0 [rf (16081), cI (a1), cI (a2), cI (a3), cI (a4), cI (a5)] [] G (fun r G => r = 7 ∧ Q 0 G) := by
  unfold PX13_either_0 at h
  unfold vX13_either_0
  refine g_ld (v := cI _) rfl (is_I _) ?_
  refine g_ld (v := cI _) rfl (is_I _) ?_
  refine g_eq2 ha2 ha3 (fun b1 => ?_) (fun b1 => ?_)
  · replace h := h.1 b1
    exact TX13_either_28 ha1 ha2 ha3 ha4 ha5 h
  · replace h := h.2 b1
    unfold vX13_either_5
    refine g_ld (v := rf _) rfl (is_R _) ?_
    refine g_ld (v := cI _) rfl (is_I _) ?_
    refine g_eq1 ha3 (fun b2 => ?_) (fun b2 => ?_)
    · replace h := h.1 b2
      unfold vX13_either_14
      refine g_ld (v := cI _) rfl (is_I _) ?_
      refine g_const (v := cI (1)) rfl ?_
      refine g_add ?_
      obtain ⟨q3, h⟩ := h
      exact TX13_either_17 ha1 ha2 ha3 ha4 ha5 q3 h
    · replace h := h.2 b2
      unfold vX13_either_10
      refine g_ld (v := cI _) rfl (is_I _) ?_
      exact TX13_either_17 ha1 ha2 ha3 ha4 ha5 ha1 h
abbrev PX13_either (a1 : Int) (a2 : Int) (a3 : Int) (a4 : Int) (a5 : Int) (G : gS) (Q : Int → gS → Prop) : Prop := PX13_either_0 a1 a2 a3 a4 a5 G Q
theorem TX13_either {a1 : Int} {a2 : Int} {a3 : Int} {a4 : Int} {a5 : Int} {G : gS} {Q : Int → gS → Prop} (ha1 : inI a1) (ha2 : inI a2) (ha3 : inI a3) (ha4 : inI a4) (ha5 : inI a5) (h : PX13_either a1 a2 a3 a4 a5 G Q) : Tn W0 FX13_either [rf (16081), cI (a1), cI (a2), cI (a3), cI (a4), cI (a5)] G (fun r G => r = 7 ∧ Q 0 G) := by
  unfold FX13_either
  refine g_ent (lv' := [rf (16081), cI (a1), cI (a2), cI (a3), cI (a4), cI (a5)]) (flR (flI (flI (flI (flI (flI fl0)))))) (Nat.le_of_ble_eq_true rfl) rfl ?_
  exact TX13_either_0 ha1 ha2 ha3 ha4 ha5 h
end DE

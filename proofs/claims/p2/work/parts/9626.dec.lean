section DE
def PX13_heads_99 (J : Nat → List Int → gS → (Int → gS → Prop) → Prop) (l1 : Int) (G : gS) (Q : Int → gS → Prop) : Prop :=
  Q 0 G
set_option maxRecDepth 20000 in
theorem TX13_heads_99 {j : Nat → rx_K} {J : Nat → List Int → gS → (Int → gS → Prop) → Prop} {l1 : Int} {l2 : Nat} {G : gS} {Q : Int → gS → Prop} (hl1 : inI l1) (hl2 : l2 % 8 ≠ 1) (hj0 : ∀ (l1 : Int) (l2 : Nat) (G : gS), (inI l1) → (l2 % 8 ≠ 1) → J 0 [l1] G Q → Tg W0 (j 0) [rf (16081), cI (l1), l2] [] G (fun r G => r = 7 ∧ Q 0 G)) (hj1 : ∀ (l1 : Int) (l2 : Nat) (G : gS), (inI l1) → (l2 % 8 ≠ 1) → J 1 [l1] G Q → Tg W0 (j 1) [rf (16081), cI (l1), l2] [] G (fun r G => r = 7 ∧ Q 0 G)) (h : PX13_heads_99 J l1 G Q) : Tg W0 (vX13_heads_99 j) [rf (16081), cI (l1), l2] [] G (fun r G => r = 7 ∧ Q 0 G) := by
  unfold PX13_heads_99 at h
  unfold vX13_heads_99
  exact g_ret0 ⟨rfl, h⟩
def PX13_heads_93 (J : Nat → List Int → gS → (Int → gS → Prop) → Prop) (l1 : Int) (l2 : Int) (G : gS) (Q : Int → gS → Prop) : Prop :=
  (inI (l1 + 1) ∧ J 1 [l1 + 1] G Q)
set_option maxRecDepth 20000 in
theorem TX13_heads_93 {j : Nat → rx_K} {J : Nat → List Int → gS → (Int → gS → Prop) → Prop} {l1 : Int} {l2 : Int} {G : gS} {Q : Int → gS → Prop} (hl1 : inI l1) (hl2 : inI l2) (hj0 : ∀ (l1 : Int) (l2 : Nat) (G : gS), (inI l1) → (l2 % 8 ≠ 1) → J 0 [l1] G Q → Tg W0 (j 0) [rf (16081), cI (l1), l2] [] G (fun r G => r = 7 ∧ Q 0 G)) (hj1 : ∀ (l1 : Int) (l2 : Nat) (G : gS), (inI l1) → (l2 % 8 ≠ 1) → J 1 [l1] G Q → Tg W0 (j 1) [rf (16081), cI (l1), l2] [] G (fun r G => r = 7 ∧ Q 0 G)) (h : PX13_heads_93 J l1 l2 G Q) : Tg W0 (vX13_heads_93 j) [rf (16081), cI (l1), cI (l2)] [] G (fun r G => r = 7 ∧ Q 0 G) := by
  unfold PX13_heads_93 at h
  unfold vX13_heads_93
  refine g_inc (lv' := [_, _, _]) rfl (Nat.le_of_ble_eq_true rfl) (Or.inr (n1_R _)) rfl ?_
  obtain ⟨q31, h⟩ := h
  exact hj1 _ _ _ q31 (n1_I _) h
def PX13_heads_43 (J : Nat → List Int → gS → (Int → gS → Prop) → Prop) (l1 : Int) (G : gS) (Q : Int → gS → Prop) : Prop :=
  (inI (G 16081 19) → ((0 : Int) ≤ G 16081 19 ∧ ((G 16081 19 : Int) < 18 ∧ (inI (G 16097 (G 16081 19)) → ((l1 < G 16097 (G 16081 19) → (inI (G 16081 20) → ((G 16081 20 = 0 → (inI (G 16081 19) → (inI (((G 16081 19) * 12) + l1) ∧ PX13_isHeir (((G 16081 19) * 12) + l1) (((G 16081 19) * 12) + l1) G (fun r23 G22 => (0 ≤ r23 ∧ r23 ≤ 1) → ((r23 = 0 → PX13_heads_93 J l1 (((G 16081 19) * 12) + l1) G22 Q) ∧ (¬ (r23 = 0) → ((0 : Int) ≤ ((G 16081 19) * 12) + l1 ∧ ((((G 16081 19) * 12) + l1 : Int) < 216 ∧ (inI (G22 16099 (((G 16081 19) * 12) + l1)) → PX13_fault 5 (G22 16099 (((G 16081 19) * 12) + l1)) G22 (fun _ G29 => PX13_heads_93 J l1 (((G 16081 19) * 12) + l1) G29 Q)))))))))) ∧ (¬ (G 16081 20 = 0) → PX13_heads_99 J l1 G Q)))) ∧ (¬ (l1 < G 16097 (G 16081 19)) → PX13_heads_99 J l1 G Q))))))
set_option maxRecDepth 20000 in
theorem TX13_heads_43 {j : Nat → rx_K} {J : Nat → List Int → gS → (Int → gS → Prop) → Prop} {l1 : Int} {l2 : Nat} {G : gS} {Q : Int → gS → Prop} (hl1 : inI l1) (hl2 : l2 % 8 ≠ 1) (hj0 : ∀ (l1 : Int) (l2 : Nat) (G : gS), (inI l1) → (l2 % 8 ≠ 1) → J 0 [l1] G Q → Tg W0 (j 0) [rf (16081), cI (l1), l2] [] G (fun r G => r = 7 ∧ Q 0 G)) (hj1 : ∀ (l1 : Int) (l2 : Nat) (G : gS), (inI l1) → (l2 % 8 ≠ 1) → J 1 [l1] G Q → Tg W0 (j 1) [rf (16081), cI (l1), l2] [] G (fun r G => r = 7 ∧ Q 0 G)) (h : PX13_heads_43 J l1 G Q) : Tg W0 (vX13_heads_43 j) [rf (16081), cI (l1), l2] [] G (fun r G => r = 7 ∧ Q 0 G) := by
  unfold PX13_heads_43 at h
  unfold vX13_heads_43
  refine g_ld (v := cI _) rfl (is_I _) ?_
  refine g_ld (v := rf _) rfl (is_R _) ?_
  refine g_getF (v := 16097) oC13 (hC13_23) rfl (Nat.le_of_ble_eq_true rfl) (Nat.le_of_ble_eq_true rfl) ?_
  refine g_ld (v := rf _) rfl (is_R _) ?_
  refine g_getI (kz := 19) oC13 rfl (Nat.le_of_ble_eq_true rfl) rfl fun i13 => ?_
  replace h := h i13
  obtain ⟨q14, q15, h⟩ := h
  refine g_aldI aC16097 q14 q15 rfl fun i16 => ?_
  replace h := h i16
  refine g_lt2 hl1 i16 (fun b17 => ?_) (fun b17 => ?_)
  · replace h := h.1 b17
    unfold vX13_heads_56
    refine g_ld (v := rf _) rfl (is_R _) ?_
    refine g_getI (kz := 20) oC13 rfl (Nat.le_of_ble_eq_true rfl) rfl fun i18 => ?_
    replace h := h i18
    refine g_eq1 i18 (fun b19 => ?_) (fun b19 => ?_)
    · replace h := h.1 b19
      unfold vX13_heads_63
      refine g_ld (v := rf _) rfl (is_R _) ?_
      refine g_getI (kz := 19) oC13 rfl (Nat.le_of_ble_eq_true rfl) rfl fun i20 => ?_
      replace h := h i20
      refine g_const (v := cI (12)) rfl ?_
      refine g_mul ?_
      refine g_ld (v := cI _) rfl (is_I _) ?_
      refine g_add ?_
      refine g_st (lv' := [_, _, _]) (is_I _) (Nat.le_of_ble_eq_true rfl) (Or.inr (n1_I _)) rfl ?_
      obtain ⟨q21, h⟩ := h
      refine g_ld (v := rf _) rfl (is_R _) ?_
      refine g_ld (v := cI _) rfl (is_I _) ?_
      refine g_ld (v := cI _) rfl (is_I _) ?_
      refine g_callV (As := [_, _]) (ci := 13) oC13 (fun _ => rfl) ?_
      refine g_go1 (Nat.le_of_ble_eq_true rfl) (Tn_w (TX13_isHeir q21 q21 h) fun _ G22 ⟨r23, e, i24, h⟩ => ?_)
      subst e
      refine ⟨n7_I _, ?_⟩
      replace h := h i24
      refine g_eq1 ⟨by omega, by omega⟩ (fun b25 => ?_) (fun b25 => ?_)
      · replace h := h.1 b25
        exact TX13_heads_93 hl1 q21 hj0 hj1 h
      · replace h := h.2 b25
        unfold vX13_heads_82
        refine g_ld (v := rf _) rfl (is_R _) ?_
        refine g_const (v := cI (5)) rfl ?_
        refine g_ld (v := rf _) rfl (is_R _) ?_
        refine g_getF (v := 16099) oC13 (hC13_25) rfl (Nat.le_of_ble_eq_true rfl) (Nat.le_of_ble_eq_true rfl) ?_
        refine g_ld (v := cI _) rfl (is_I _) ?_
        obtain ⟨q26, q27, h⟩ := h
        refine g_aldI aC16099 q26 q27 rfl fun i28 => ?_
        replace h := h i28
        refine g_callV (As := [_, _]) (ci := 13) oC13 (fun _ => rfl) ?_
        refine g_go0 (Nat.le_of_ble_eq_true rfl) (Tn_w (TX13_fault ⟨by omega, by omega⟩ i28 h) fun _ G29 ⟨e, h⟩ => ⟨e, ?_⟩)
        exact TX13_heads_93 hl1 q21 hj0 hj1 h
    · replace h := h.2 b19
      exact TX13_heads_99 hl1 hl2 hj0 hj1 h
  · replace h := h.2 b17
    exact TX13_heads_99 hl1 hl2 hj0 hj1 h
def PX13_heads_41 (J : Nat → List Int → gS → (Int → gS → Prop) → Prop) (l1 : Int) (G : gS) (Q : Int → gS → Prop) : Prop :=
  PX13_heads_43 J 0 G Q
set_option maxRecDepth 20000 in
theorem TX13_heads_41 {j : Nat → rx_K} {J : Nat → List Int → gS → (Int → gS → Prop) → Prop} {l1 : Int} {l2 : Nat} {G : gS} {Q : Int → gS → Prop} (hl1 : inI l1) (hl2 : l2 % 8 ≠ 1) (hj0 : ∀ (l1 : Int) (l2 : Nat) (G : gS), (inI l1) → (l2 % 8 ≠ 1) → J 0 [l1] G Q → Tg W0 (j 0) [rf (16081), cI (l1), l2] [] G (fun r G => r = 7 ∧ Q 0 G)) (hj1 : ∀ (l1 : Int) (l2 : Nat) (G : gS), (inI l1) → (l2 % 8 ≠ 1) → J 1 [l1] G Q → Tg W0 (j 1) [rf (16081), cI (l1), l2] [] G (fun r G => r = 7 ∧ Q 0 G)) (h : PX13_heads_41 J l1 G Q) : Tg W0 (vX13_heads_41 j) [rf (16081), cI (l1), l2] [] G (fun r G => r = 7 ∧ Q 0 G) := by
  unfold PX13_heads_41 at h
  unfold vX13_heads_41
  refine g_const (v := cI (0)) rfl ?_
  refine g_st (lv' := [_, _, _]) (is_I _) (Nat.le_of_ble_eq_true rfl) (Or.inr (n1_R _)) rfl ?_
  exact TX13_heads_43 ⟨by omega, by omega⟩ hl2 hj0 hj1 h
def PX13_heads_2 (J : Nat → List Int → gS → (Int → gS → Prop) → Prop) (l1 : Int) (G : gS) (Q : Int → gS → Prop) : Prop :=
  (inI (G 16081 19) → ((0 : Int) ≤ G 16081 19 ∧ ((G 16081 19 : Int) < 18 ∧ (inI (G 16097 (G 16081 19)) → ((l1 < G 16097 (G 16081 19) → (inI (G 16081 20) → ((G 16081 20 = 0 → (inI (G 16081 19) → (inI (((G 16081 19) * 12) + l1) ∧ PX13_head (((G 16081 19) * 12) + l1) G (fun _ G10 => (inI (l1 + 1) ∧ J 0 [l1 + 1] G10 Q))))) ∧ (¬ (G 16081 20 = 0) → PX13_heads_41 J l1 G Q)))) ∧ (¬ (l1 < G 16097 (G 16081 19)) → PX13_heads_41 J l1 G Q))))))
set_option maxRecDepth 20000 in
theorem TX13_heads_2 {j : Nat → rx_K} {J : Nat → List Int → gS → (Int → gS → Prop) → Prop} {l1 : Int} {l2 : Nat} {G : gS} {Q : Int → gS → Prop} (hl1 : inI l1) (hl2 : l2 % 8 ≠ 1) (hj0 : ∀ (l1 : Int) (l2 : Nat) (G : gS), (inI l1) → (l2 % 8 ≠ 1) → J 0 [l1] G Q → Tg W0 (j 0) [rf (16081), cI (l1), l2] [] G (fun r G => r = 7 ∧ Q 0 G)) (hj1 : ∀ (l1 : Int) (l2 : Nat) (G : gS), (inI l1) → (l2 % 8 ≠ 1) → J 1 [l1] G Q → Tg W0 (j 1) [rf (16081), cI (l1), l2] [] G (fun r G => r = 7 ∧ Q 0 G)) (h : PX13_heads_2 J l1 G Q) : Tg W0 (vX13_heads_2 j) [rf (16081), cI (l1), l2] [] G (fun r G => r = 7 ∧ Q 0 G) := by
  unfold PX13_heads_2 at h
  unfold vX13_heads_2
  refine g_ld (v := cI _) rfl (is_I _) ?_
  refine g_ld (v := rf _) rfl (is_R _) ?_
  refine g_getF (v := 16097) oC13 (hC13_23) rfl (Nat.le_of_ble_eq_true rfl) (Nat.le_of_ble_eq_true rfl) ?_
  refine g_ld (v := rf _) rfl (is_R _) ?_
  refine g_getI (kz := 19) oC13 rfl (Nat.le_of_ble_eq_true rfl) rfl fun i1 => ?_
  replace h := h i1
  obtain ⟨q2, q3, h⟩ := h
  refine g_aldI aC16097 q2 q3 rfl fun i4 => ?_
  replace h := h i4
  refine g_lt2 hl1 i4 (fun b5 => ?_) (fun b5 => ?_)
  · replace h := h.1 b5
    unfold vX13_heads_15
    refine g_ld (v := rf _) rfl (is_R _) ?_
    refine g_getI (kz := 20) oC13 rfl (Nat.le_of_ble_eq_true rfl) rfl fun i6 => ?_
    replace h := h i6
    refine g_eq1 i6 (fun b7 => ?_) (fun b7 => ?_)
    · replace h := h.1 b7
      unfold vX13_heads_22
      refine g_ld (v := rf _) rfl (is_R _) ?_
      refine g_ld (v := rf _) rfl (is_R _) ?_
      refine g_getI (kz := 19) oC13 rfl (Nat.le_of_ble_eq_true rfl) rfl fun i8 => ?_
      replace h := h i8
      refine g_const (v := cI (12)) rfl ?_
      refine g_mul ?_
      refine g_ld (v := cI _) rfl (is_I _) ?_
      refine g_add ?_
      obtain ⟨q9, h⟩ := h
      refine g_callV (As := [_]) (ci := 13) oC13 (fun _ => rfl) ?_
      refine g_go0 (Nat.le_of_ble_eq_true rfl) (Tn_w (TX13_head q9 h) fun _ G10 ⟨e, h⟩ => ⟨e, ?_⟩)
      refine g_inc (lv' := [_, _, _]) rfl (Nat.le_of_ble_eq_true rfl) (Or.inr (n1_R _)) rfl ?_
      obtain ⟨q12, h⟩ := h
      exact hj0 _ _ _ q12 hl2 h
    · replace h := h.2 b7
      exact TX13_heads_41 hl1 hl2 hj0 hj1 h
  · replace h := h.2 b5
    exact TX13_heads_41 hl1 hl2 hj0 hj1 h
def PX13_heads_0 (J : Nat → List Int → gS → (Int → gS → Prop) → Prop)  (G : gS) (Q : Int → gS → Prop) : Prop :=
  PX13_heads_2 J 0 G Q
set_option maxRecDepth 20000 in
theorem TX13_heads_0 {j : Nat → rx_K} {J : Nat → List Int → gS → (Int → gS → Prop) → Prop}  {G : gS} {Q : Int → gS → Prop}  (hj0 : ∀ (l1 : Int) (l2 : Nat) (G : gS), (inI l1) → (l2 % 8 ≠ 1) → J 0 [l1] G Q → Tg W0 (j 0) [rf (16081), cI (l1), l2] [] G (fun r G => r = 7 ∧ Q 0 G)) (hj1 : ∀ (l1 : Int) (l2 : Nat) (G : gS), (inI l1) → (l2 % 8 ≠ 1) → J 1 [l1] G Q → Tg W0 (j 1) [rf (16081), cI (l1), l2] [] G (fun r G => r = 7 ∧ Q 0 G)) (h : PX13_heads_0 J  G Q) : Tg W0 (vX13_heads_0 j) [rf (16081), 7, 7] [] G (fun r G => r = 7 ∧ Q 0 G) := by
  unfold PX13_heads_0 at h
  unfold vX13_heads_0
  refine g_const (v := cI (0)) rfl ?_
  refine g_st (lv' := [_, _, _]) (is_I _) (Nat.le_of_ble_eq_true rfl) (Or.inr (n1_R _)) rfl ?_
  exact TX13_heads_2 ⟨by omega, by omega⟩ (show 7 % 8 ≠ 1 by decide) hj0 hj1 h
def PX13_heads_J : Nat → Nat → List Int → gS → (Int → gS → Prop) → Prop
  | 0, _, _, _, _ => False
  | f + 1, h, L, G, Q => match h, L with
    | 0, [l1] => PX13_heads_2 (PX13_heads_J f) l1 G Q
    | 1, [l1] => PX13_heads_43 (PX13_heads_J f) l1 G Q
    | _, _ => False
theorem TX13_heads_J {Q : Int → gS → Prop} : ∀ f N : Nat, f ≤ N → (∀ (l1 : Int) (l2 : Nat) (G : gS), (inI l1) → (l2 % 8 ≠ 1) → (PX13_heads_J f) 0 [l1] G Q → Tg W0 (rx_J vhX13_heads N 0) [rf (16081), cI (l1), l2] [] G (fun r G => r = 7 ∧ Q 0 G)) ∧ (∀ (l1 : Int) (l2 : Nat) (G : gS), (inI l1) → (l2 % 8 ≠ 1) → (PX13_heads_J f) 1 [l1] G Q → Tg W0 (rx_J vhX13_heads N 1) [rf (16081), cI (l1), l2] [] G (fun r G => r = 7 ∧ Q 0 G)) := by
  intro f
  induction f with
  | zero => exact fun N _ => ⟨fun _ _ _ _ _ h => h.elim, fun _ _ _ _ _ h => h.elim⟩
  | succ f ih =>
    intro N hN
    obtain ⟨M, rfl⟩ : ∃ M, N = M + 1 := ⟨N - 1, by omega⟩
    have ih := ih M (by omega)
    exact ⟨fun _ _ _ hl1 hl2 h => show Tg W0 (vX13_heads_2 (rx_J vhX13_heads M)) _ _ _ _ from TX13_heads_2 hl1 hl2 ih.1 ih.2 h, fun _ _ _ hl1 hl2 h => show Tg W0 (vX13_heads_43 (rx_J vhX13_heads M)) _ _ _ _ from TX13_heads_43 hl1 hl2 ih.1 ih.2 h⟩
def PX13_heads  (G : gS) (Q : Int → gS → Prop) : Prop := ∃ f : Nat, f ≤ 4000000000 ∧ PX13_heads_0 (PX13_heads_J f)  G Q
theorem TX13_heads  {G : gS} {Q : Int → gS → Prop}  (h : PX13_heads  G Q) : Tn W0 FX13_heads [rf (16081)] G (fun r G => r = 7 ∧ Q 0 G) := by
  obtain ⟨f, hf, h⟩ := h
  have hJ := TX13_heads_J (Q := Q) f 4000000000 hf
  unfold FX13_heads
  refine g_ent (lv' := [rf (16081), 7, 7]) (flR fl0) (Nat.le_of_ble_eq_true rfl) rfl ?_
  exact TX13_heads_0  hJ.1 hJ.2 h
def PX13_isWrongInClass_96 (l1 : Int) (l2 : Int) (l3 : Int) (s0 : Int) (G : gS) (Q : Int → gS → Prop) : Prop :=
  ((0 ≤ s0 ∧ s0 ≤ 1) ∧ Q (s0) G)
set_option maxRecDepth 20000 in
theorem TX13_isWrongInClass_96 {l1 : Int} {l2 : Int} {l3 : Int} {s0 : Int} {G : gS} {Q : Int → gS → Prop} (hl1 : inI l1) (hl2 : inI l2) (hl3 : inI l3) (hs0 : inI s0) (h : PX13_isWrongInClass_96 l1 l2 l3 s0 G Q) : Tg W0 vX13_isWrongInClass_96 [rf (16081), cI (l1), cI (l2), cI (l3)] [cI (s0)] G (fun r G => ∃ v, r = cI v ∧ (0 ≤ v ∧ v ≤ 1) ∧ Q v G) := by
  unfold PX13_isWrongInClass_96 at h
  unfold vX13_isWrongInClass_96
  obtain ⟨q36, h⟩ := h
  exact g_ret1 (is_Z q36) ⟨_, rfl, q36, h⟩
def PX13_isWrongInClass_95 (l1 : Int) (l2 : Int) (l3 : Int) (G : gS) (Q : Int → gS → Prop) : Prop :=
  PX13_isWrongInClass_96 l1 l2 l3 0 G Q
set_option maxRecDepth 20000 in
theorem TX13_isWrongInClass_95 {l1 : Int} {l2 : Int} {l3 : Int} {G : gS} {Q : Int → gS → Prop} (hl1 : inI l1) (hl2 : inI l2) (hl3 : inI l3) (h : PX13_isWrongInClass_95 l1 l2 l3 G Q) : Tg W0 vX13_isWrongInClass_95 [rf (16081), cI (l1), cI (l2), cI (l3)] [] G (fun r G => ∃ v, r = cI v ∧ (0 ≤ v ∧ v ≤ 1) ∧ Q v G) := by
  unfold PX13_isWrongInClass_95 at h
  unfold vX13_isWrongInClass_95
  refine g_const (v := cI (0)) rfl ?_
  exact TX13_isWrongInClass_96 hl1 hl2 hl3 ⟨by omega, by omega⟩ h
def PX13_isWrongInClass_91 (l1 : Int) (l2 : Int) (l3 : Int) (G : gS) (Q : Int → gS → Prop) : Prop :=
  PX13_isWrongInClass_96 l1 l2 l3 1 G Q
set_option maxRecDepth 20000 in
theorem TX13_isWrongInClass_91 {l1 : Int} {l2 : Int} {l3 : Int} {G : gS} {Q : Int → gS → Prop} (hl1 : inI l1) (hl2 : inI l2) (hl3 : inI l3) (h : PX13_isWrongInClass_91 l1 l2 l3 G Q) : Tg W0 vX13_isWrongInClass_91 [rf (16081), cI (l1), cI (l2), cI (l3)] [] G (fun r G => ∃ v, r = cI v ∧ (0 ≤ v ∧ v ≤ 1) ∧ Q v G) := by
  unfold PX13_isWrongInClass_91 at h
  unfold vX13_isWrongInClass_91
  refine g_const (v := cI (1)) rfl ?_
  exact TX13_isWrongInClass_96 hl1 hl2 hl3 ⟨by omega, by omega⟩ h
def PX13_isWrongInClass_32 (l1 : Int) (l2 : Int) (s0 : Int) (G : gS) (Q : Int → gS → Prop) : Prop :=
  ((0 : Int) ≤ l2 ∧ ((l2 : Int) < 7344 ∧ (inI (G 16116 l2) → ((G 16116 l2 = 1 → ((0 : Int) ≤ l2 ∧ ((l2 : Int) < 7344 ∧ ((0 ≤ G 16122 l2 ∧ G 16122 l2 ≤ 1) → ((G 16122 l2 = s0 → PX13_isWrongInClass_91 l1 l2 s0 G Q) ∧ (¬ (G 16122 l2 = s0) → ((0 : Int) ≤ l2 ∧ ((l2 : Int) < 7344 ∧ ((0 ≤ G 16122 l2 ∧ G 16122 l2 ≤ 1) → ((G 16122 l2 = 0 → PX13_isWrongInClass_95 l1 l2 s0 G Q) ∧ (¬ (G 16122 l2 = 0) → ((0 : Int) ≤ l2 ∧ ((l2 : Int) < 7344 ∧ (inI (G 16117 l2) → ((G 16117 l2 = 3 → PX13_isWrongInClass_91 l1 l2 s0 G Q) ∧ (¬ (G 16117 l2 = 3) → ((0 : Int) ≤ l2 ∧ ((l2 : Int) < 7344 ∧ ((0 ≤ G 16119 l2 ∧ G 16119 l2 ≤ 1) → ((G 16119 l2 = 0 → ((0 : Int) ≤ l1 ∧ ((l1 : Int) < 216 ∧ (inI (G 16101 l1) → ((G 16101 l1 = 2 → PX13_isWrongInClass_95 l1 l2 s0 G Q) ∧ (¬ (G 16101 l1 = 2) → PX13_isWrongInClass_91 l1 l2 s0 G Q)))))) ∧ (¬ (G 16119 l2 = 0) → PX13_isWrongInClass_91 l1 l2 s0 G Q))))))))))))))))))))) ∧ (¬ (G 16116 l2 = 1) → PX13_isWrongInClass_95 l1 l2 s0 G Q)))))
set_option maxRecDepth 20000 in
theorem TX13_isWrongInClass_32 {l1 : Int} {l2 : Int} {l3 : Nat} {s0 : Int} {G : gS} {Q : Int → gS → Prop} (hl1 : inI l1) (hl2 : inI l2) (hl3 : l3 % 8 ≠ 1) (hs0 : inI s0) (h : PX13_isWrongInClass_32 l1 l2 s0 G Q) : Tg W0 vX13_isWrongInClass_32 [rf (16081), cI (l1), cI (l2), l3] [cI (s0)] G (fun r G => ∃ v, r = cI v ∧ (0 ≤ v ∧ v ≤ 1) ∧ Q v G) := by
  unfold PX13_isWrongInClass_32 at h
  unfold vX13_isWrongInClass_32
  refine g_st (lv' := [_, _, _, _]) (is_I _) (Nat.le_of_ble_eq_true rfl) (Or.inr (n1_I _)) rfl ?_
  refine g_ld (v := rf _) rfl (is_R _) ?_
  refine g_getF (v := 16116) oC13 (hC13_42) rfl (Nat.le_of_ble_eq_true rfl) (Nat.le_of_ble_eq_true rfl) ?_
  refine g_ld (v := cI _) rfl (is_I _) ?_
  obtain ⟨q12, q13, h⟩ := h
  refine g_aldI aC16116 q12 q13 rfl fun i14 => ?_
  replace h := h i14
  refine g_const (v := cI (1)) rfl ?_
  refine g_eq2 i14 ⟨by omega, by omega⟩ (fun b15 => ?_) (fun b15 => ?_)
  · replace h := h.1 b15
    unfold vX13_isWrongInClass_43
    refine g_ld (v := rf _) rfl (is_R _) ?_
    refine g_getF (v := 16122) oC13 (hC13_48) rfl (Nat.le_of_ble_eq_true rfl) (Nat.le_of_ble_eq_true rfl) ?_
    refine g_ld (v := cI _) rfl (is_I _) ?_
    obtain ⟨q16, q17, h⟩ := h
    refine g_aldZ aC16122 q16 q17 rfl fun i18 => ?_
    replace h := h i18
    refine g_ld (v := cI _) rfl (is_I _) ?_
    refine g_eq2 ⟨by omega, by omega⟩ hs0 (fun b19 => ?_) (fun b19 => ?_)
    · replace h := h.1 b19
      exact TX13_isWrongInClass_91 hl1 hl2 hs0 h
    · replace h := h.2 b19
      unfold vX13_isWrongInClass_53
      refine g_ld (v := rf _) rfl (is_R _) ?_
      refine g_getF (v := 16122) oC13 (hC13_48) rfl (Nat.le_of_ble_eq_true rfl) (Nat.le_of_ble_eq_true rfl) ?_
      refine g_ld (v := cI _) rfl (is_I _) ?_
      obtain ⟨q20, q21, h⟩ := h
      refine g_aldZ aC16122 q20 q21 rfl fun i22 => ?_
      replace h := h i22
      refine g_eq1 ⟨by omega, by omega⟩ (fun b23 => ?_) (fun b23 => ?_)
      · replace h := h.1 b23
        exact TX13_isWrongInClass_95 hl1 hl2 hs0 h
      · replace h := h.2 b23
        unfold vX13_isWrongInClass_62
        refine g_ld (v := rf _) rfl (is_R _) ?_
        refine g_getF (v := 16117) oC13 (hC13_43) rfl (Nat.le_of_ble_eq_true rfl) (Nat.le_of_ble_eq_true rfl) ?_
        refine g_ld (v := cI _) rfl (is_I _) ?_
        obtain ⟨q24, q25, h⟩ := h
        refine g_aldI aC16117 q24 q25 rfl fun i26 => ?_
        replace h := h i26
        refine g_const (v := cI (3)) rfl ?_
        refine g_eq2 i26 ⟨by omega, by omega⟩ (fun b27 => ?_) (fun b27 => ?_)
        · replace h := h.1 b27
          exact TX13_isWrongInClass_91 hl1 hl2 hs0 h
        · replace h := h.2 b27
          unfold vX13_isWrongInClass_72
          refine g_ld (v := rf _) rfl (is_R _) ?_
          refine g_getF (v := 16119) oC13 (hC13_45) rfl (Nat.le_of_ble_eq_true rfl) (Nat.le_of_ble_eq_true rfl) ?_
          refine g_ld (v := cI _) rfl (is_I _) ?_
          obtain ⟨q28, q29, h⟩ := h
          refine g_aldZ aC16119 q28 q29 rfl fun i30 => ?_
          replace h := h i30
          refine g_eq1 ⟨by omega, by omega⟩ (fun b31 => ?_) (fun b31 => ?_)
          · replace h := h.1 b31
            unfold vX13_isWrongInClass_81
            refine g_ld (v := rf _) rfl (is_R _) ?_
            refine g_getF (v := 16101) oC13 (hC13_27) rfl (Nat.le_of_ble_eq_true rfl) (Nat.le_of_ble_eq_true rfl) ?_
            refine g_ld (v := cI _) rfl (is_I _) ?_
            obtain ⟨q32, q33, h⟩ := h
            refine g_aldI aC16101 q32 q33 rfl fun i34 => ?_
            replace h := h i34
            refine g_const (v := cI (2)) rfl ?_
            refine g_eq2 i34 ⟨by omega, by omega⟩ (fun b35 => ?_) (fun b35 => ?_)
            · replace h := h.1 b35
              exact TX13_isWrongInClass_95 hl1 hl2 hs0 h
            · replace h := h.2 b35
              exact TX13_isWrongInClass_91 hl1 hl2 hs0 h
          · replace h := h.2 b31
            exact TX13_isWrongInClass_91 hl1 hl2 hs0 h
  · replace h := h.2 b15
    exact TX13_isWrongInClass_95 hl1 hl2 hs0 h
def PX13_isWrongInClass_0 (a1 : Int) (a2 : Int) (G : gS) (Q : Int → gS → Prop) : Prop :=
  ((0 : Int) ≤ a2 ∧ ((a2 : Int) < 7344 ∧ (inI (G 16116 a2) → ((G 16116 a2 = 0 → ((0 : Int) ≤ a2 ∧ ((a2 : Int) < 7344 ∧ ((0 ≤ G 16122 a2 ∧ G 16122 a2 ≤ 1) → Q (G 16122 a2) G)))) ∧ (¬ (G 16116 a2 = 0) → ((0 : Int) ≤ a2 ∧ ((a2 : Int) < 7344 ∧ (inI (G 16135 a2) → ((G 16135 a2 = -2 → PX13_isWrongInClass_32 a1 a2 0 G Q) ∧ (¬ (G 16135 a2 = -2) → PX13_isWrongInClass_32 a1 a2 1 G Q))))))))))
set_option maxRecDepth 20000 in
theorem TX13_isWrongInClass_0 {a1 : Int} {a2 : Int} {G : gS} {Q : Int → gS → Prop} (ha1 : inI a1) (ha2 : inI a2) (h : PX13_isWrongInClass_0 a1 a2 G Q) : Tg W0 vX13_isWrongInClass_0 [rf (16081), cI (a1), cI (a2), 7] [] G (fun r G => ∃ v, r = cI v ∧ (0 ≤ v ∧ v ≤ 1) ∧ Q v G) := by
  unfold PX13_isWrongInClass_0 at h
  unfold vX13_isWrongInClass_0
  refine g_ld (v := rf _) rfl (is_R _) ?_
  refine g_getF (v := 16116) oC13 (hC13_42) rfl (Nat.le_of_ble_eq_true rfl) (Nat.le_of_ble_eq_true rfl) ?_
  refine g_ld (v := cI _) rfl (is_I _) ?_
  obtain ⟨q1, q2, h⟩ := h
  refine g_aldI aC16116 q1 q2 rfl fun i3 => ?_
  replace h := h i3
  refine g_eq1 i3 (fun b4 => ?_) (fun b4 => ?_)
  · replace h := h.1 b4
    unfold vX13_isWrongInClass_9
    refine g_ld (v := rf _) rfl (is_R _) ?_
    refine g_getF (v := 16122) oC13 (hC13_48) rfl (Nat.le_of_ble_eq_true rfl) (Nat.le_of_ble_eq_true rfl) ?_
    refine g_ld (v := cI _) rfl (is_I _) ?_
    obtain ⟨q5, q6, h⟩ := h
    refine g_aldZ aC16122 q5 q6 rfl fun i7 => ?_
    replace h := h i7
    exact g_ret1 (is_Z i7) ⟨_, rfl, i7, h⟩
  · replace h := h.2 b4
    unfold vX13_isWrongInClass_16
    refine g_ld (v := rf _) rfl (is_R _) ?_
    refine g_getF (v := 16135) oC13 (hC13_61) rfl (Nat.le_of_ble_eq_true rfl) (Nat.le_of_ble_eq_true rfl) ?_
    refine g_ld (v := cI _) rfl (is_I _) ?_
    obtain ⟨q8, q9, h⟩ := h
    refine g_aldI aC16135 q8 q9 rfl fun i10 => ?_
    replace h := h i10
    refine g_const (v := cI (-2)) rfl ?_
    refine g_eq2 i10 ⟨by omega, by omega⟩ (fun b11 => ?_) (fun b11 => ?_)
    · replace h := h.1 b11
      unfold vX13_isWrongInClass_31
      refine g_const (v := cI (0)) rfl ?_
      exact TX13_isWrongInClass_32 ha1 ha2 (show 7 % 8 ≠ 1 by decide) ⟨by omega, by omega⟩ h
    · replace h := h.2 b11
      unfold vX13_isWrongInClass_27
      refine g_const (v := cI (1)) rfl ?_
      exact TX13_isWrongInClass_32 ha1 ha2 (show 7 % 8 ≠ 1 by decide) ⟨by omega, by omega⟩ h
abbrev PX13_isWrongInClass (a1 : Int) (a2 : Int) (G : gS) (Q : Int → gS → Prop) : Prop := PX13_isWrongInClass_0 a1 a2 G Q
theorem TX13_isWrongInClass {a1 : Int} {a2 : Int} {G : gS} {Q : Int → gS → Prop} (ha1 : inI a1) (ha2 : inI a2) (h : PX13_isWrongInClass a1 a2 G Q) : Tn W0 FX13_isWrongInClass [rf (16081), cI (a1), cI (a2)] G (fun r G => ∃ v, r = cI v ∧ (0 ≤ v ∧ v ≤ 1) ∧ Q v G) := by
  unfold FX13_isWrongInClass
  refine g_ent (lv' := [rf (16081), cI (a1), cI (a2), 7]) (flR (flI (flI fl0))) (Nat.le_of_ble_eq_true rfl) rfl ?_
  exact TX13_isWrongInClass_0 ha1 ha2 h
def PX13_isWrongInFace_132 (l1 : Int) (l2 : Int) (s0 : Int) (G : gS) (Q : Int → gS → Prop) : Prop :=
  ((0 ≤ s0 ∧ s0 ≤ 1) ∧ Q (s0) G)
set_option maxRecDepth 20000 in
theorem TX13_isWrongInFace_132 {l1 : Int} {l2 : Int} {s0 : Int} {G : gS} {Q : Int → gS → Prop} (hl1 : inI l1) (hl2 : inI l2) (hs0 : inI s0) (h : PX13_isWrongInFace_132 l1 l2 s0 G Q) : Tg W0 vX13_isWrongInFace_132 [rf (16081), cI (l1), cI (l2)] [cI (s0)] G (fun r G => ∃ v, r = cI v ∧ (0 ≤ v ∧ v ≤ 1) ∧ Q v G) := by
  unfold PX13_isWrongInFace_132 at h
  unfold vX13_isWrongInFace_132
  obtain ⟨q48, h⟩ := h
  exact g_ret1 (is_Z q48) ⟨_, rfl, q48, h⟩
def PX13_isWrongInFace_131 (l1 : Int) (l2 : Int) (G : gS) (Q : Int → gS → Prop) : Prop :=
  PX13_isWrongInFace_132 l1 l2 0 G Q
set_option maxRecDepth 20000 in
theorem TX13_isWrongInFace_131 {l1 : Int} {l2 : Int} {G : gS} {Q : Int → gS → Prop} (hl1 : inI l1) (hl2 : inI l2) (h : PX13_isWrongInFace_131 l1 l2 G Q) : Tg W0 vX13_isWrongInFace_131 [rf (16081), cI (l1), cI (l2)] [] G (fun r G => ∃ v, r = cI v ∧ (0 ≤ v ∧ v ≤ 1) ∧ Q v G) := by
  unfold PX13_isWrongInFace_131 at h
  unfold vX13_isWrongInFace_131
  refine g_const (v := cI (0)) rfl ?_
  exact TX13_isWrongInFace_132 hl1 hl2 ⟨by omega, by omega⟩ h
def PX13_isWrongInFace_127 (l1 : Int) (l2 : Int) (G : gS) (Q : Int → gS → Prop) : Prop :=
  PX13_isWrongInFace_132 l1 l2 1 G Q
set_option maxRecDepth 20000 in
theorem TX13_isWrongInFace_127 {l1 : Int} {l2 : Int} {G : gS} {Q : Int → gS → Prop} (hl1 : inI l1) (hl2 : inI l2) (h : PX13_isWrongInFace_127 l1 l2 G Q) : Tg W0 vX13_isWrongInFace_127 [rf (16081), cI (l1), cI (l2)] [] G (fun r G => ∃ v, r = cI v ∧ (0 ≤ v ∧ v ≤ 1) ∧ Q v G) := by
  unfold PX13_isWrongInFace_127 at h
  unfold vX13_isWrongInFace_127
  refine g_const (v := cI (1)) rfl ?_
  exact TX13_isWrongInFace_132 hl1 hl2 ⟨by omega, by omega⟩ h
def PX13_isWrongInFace_104 (l1 : Int) (l2 : Int) (G : gS) (Q : Int → gS → Prop) : Prop :=
  ((l2 = 0 → ((0 : Int) ≤ l1 ∧ ((l1 : Int) < 7344 ∧ ((0 ≤ G 16119 l1 ∧ G 16119 l1 ≤ 1) → ((G 16119 l1 = 0 → ((0 : Int) ≤ l1 ∧ ((l1 : Int) < 7344 ∧ (inI (G 16117 l1) → ((G 16117 l1 = 3 → PX13_isWrongInFace_127 l1 l2 G Q) ∧ (¬ (G 16117 l1 = 3) → PX13_isWrongInFace_131 l1 l2 G Q)))))) ∧ (¬ (G 16119 l1 = 0) → PX13_isWrongInFace_127 l1 l2 G Q)))))) ∧ (¬ (l2 = 0) → PX13_isWrongInFace_131 l1 l2 G Q))
set_option maxRecDepth 20000 in
theorem TX13_isWrongInFace_104 {l1 : Int} {l2 : Int} {G : gS} {Q : Int → gS → Prop} (hl1 : inI l1) (hl2 : inI l2) (h : PX13_isWrongInFace_104 l1 l2 G Q) : Tg W0 vX13_isWrongInFace_104 [rf (16081), cI (l1), cI (l2)] [] G (fun r G => ∃ v, r = cI v ∧ (0 ≤ v ∧ v ≤ 1) ∧ Q v G) := by
  unfold PX13_isWrongInFace_104 at h
  unfold vX13_isWrongInFace_104
  refine g_ld (v := cI _) rfl (is_I _) ?_
  refine g_eq1 hl2 (fun b39 => ?_) (fun b39 => ?_)
  · replace h := h.1 b39
    unfold vX13_isWrongInFace_108
    refine g_ld (v := rf _) rfl (is_R _) ?_
    refine g_getF (v := 16119) oC13 (hC13_45) rfl (Nat.le_of_ble_eq_true rfl) (Nat.le_of_ble_eq_true rfl) ?_
    refine g_ld (v := cI _) rfl (is_I _) ?_
    obtain ⟨q40, q41, h⟩ := h
    refine g_aldZ aC16119 q40 q41 rfl fun i42 => ?_
    replace h := h i42
    refine g_eq1 ⟨by omega, by omega⟩ (fun b43 => ?_) (fun b43 => ?_)
    · replace h := h.1 b43
      unfold vX13_isWrongInFace_117
      refine g_ld (v := rf _) rfl (is_R _) ?_
      refine g_getF (v := 16117) oC13 (hC13_43) rfl (Nat.le_of_ble_eq_true rfl) (Nat.le_of_ble_eq_true rfl) ?_
      refine g_ld (v := cI _) rfl (is_I _) ?_
      obtain ⟨q44, q45, h⟩ := h
      refine g_aldI aC16117 q44 q45 rfl fun i46 => ?_
      replace h := h i46
      refine g_const (v := cI (3)) rfl ?_
      refine g_eq2 i46 ⟨by omega, by omega⟩ (fun b47 => ?_) (fun b47 => ?_)
      · replace h := h.1 b47
        exact TX13_isWrongInFace_127 hl1 hl2 h
      · replace h := h.2 b47
        exact TX13_isWrongInFace_131 hl1 hl2 h
    · replace h := h.2 b43
      exact TX13_isWrongInFace_127 hl1 hl2 h
  · replace h := h.2 b39
    exact TX13_isWrongInFace_131 hl1 hl2 h
def PX13_isWrongInFace_61 (l1 : Int) (s0 : Int) (G : gS) (Q : Int → gS → Prop) : Prop :=
  ((0 : Int) ≤ l1 ∧ ((l1 : Int) < 7344 ∧ (inI (G 16116 l1) → ((G 16116 l1 = 1 → ((0 : Int) ≤ l1 ∧ ((l1 : Int) < 7344 ∧ (inI (G 16117 l1) → ((G 16117 l1 = 2 → PX13_isWrongInFace_127 l1 s0 G Q) ∧ (¬ (G 16117 l1 = 2) → ((0 : Int) ≤ l1 ∧ ((l1 : Int) < 7344 ∧ ((0 ≤ G 16120 l1 ∧ G 16120 l1 ≤ 1) → ((G 16120 l1 = 0 → ((0 : Int) ≤ l1 ∧ ((l1 : Int) < 7344 ∧ ((0 ≤ G 16122 l1 ∧ G 16122 l1 ≤ 1) → ((G 16122 l1 = 0 → PX13_isWrongInFace_104 l1 s0 G Q) ∧ (¬ (G 16122 l1 = 0) → ((s0 = 0 → PX13_isWrongInFace_104 l1 s0 G Q) ∧ (¬ (s0 = 0) → PX13_isWrongInFace_127 l1 s0 G Q)))))))) ∧ (¬ (G 16120 l1 = 0) → PX13_isWrongInFace_127 l1 s0 G Q))))))))))) ∧ (¬ (G 16116 l1 = 1) → PX13_isWrongInFace_127 l1 s0 G Q)))))
set_option maxRecDepth 20000 in
theorem TX13_isWrongInFace_61 {l1 : Int} {l2 : Nat} {s0 : Int} {G : gS} {Q : Int → gS → Prop} (hl1 : inI l1) (hl2 : l2 % 8 ≠ 1) (hs0 : inI s0) (h : PX13_isWrongInFace_61 l1 s0 G Q) : Tg W0 vX13_isWrongInFace_61 [rf (16081), cI (l1), l2] [cI (s0)] G (fun r G => ∃ v, r = cI v ∧ (0 ≤ v ∧ v ≤ 1) ∧ Q v G) := by
  unfold PX13_isWrongInFace_61 at h
  unfold vX13_isWrongInFace_61
  refine g_st (lv' := [_, _, _]) (is_I _) (Nat.le_of_ble_eq_true rfl) (Or.inr (n1_I _)) rfl ?_
  refine g_ld (v := rf _) rfl (is_R _) ?_
  refine g_getF (v := 16116) oC13 (hC13_42) rfl (Nat.le_of_ble_eq_true rfl) (Nat.le_of_ble_eq_true rfl) ?_
  refine g_ld (v := cI _) rfl (is_I _) ?_
  obtain ⟨q22, q23, h⟩ := h
  refine g_aldI aC16116 q22 q23 rfl fun i24 => ?_
  replace h := h i24
  refine g_const (v := cI (1)) rfl ?_
  refine g_eq2 i24 ⟨by omega, by omega⟩ (fun b25 => ?_) (fun b25 => ?_)
  · replace h := h.1 b25
    unfold vX13_isWrongInFace_72
    refine g_ld (v := rf _) rfl (is_R _) ?_
    refine g_getF (v := 16117) oC13 (hC13_43) rfl (Nat.le_of_ble_eq_true rfl) (Nat.le_of_ble_eq_true rfl) ?_
    refine g_ld (v := cI _) rfl (is_I _) ?_
    obtain ⟨q26, q27, h⟩ := h
    refine g_aldI aC16117 q26 q27 rfl fun i28 => ?_
    replace h := h i28
    refine g_const (v := cI (2)) rfl ?_
    refine g_eq2 i28 ⟨by omega, by omega⟩ (fun b29 => ?_) (fun b29 => ?_)
    · replace h := h.1 b29
      exact TX13_isWrongInFace_127 hl1 hs0 h
    · replace h := h.2 b29
      unfold vX13_isWrongInFace_82
      refine g_ld (v := rf _) rfl (is_R _) ?_
      refine g_getF (v := 16120) oC13 (hC13_46) rfl (Nat.le_of_ble_eq_true rfl) (Nat.le_of_ble_eq_true rfl) ?_
      refine g_ld (v := cI _) rfl (is_I _) ?_
      obtain ⟨q30, q31, h⟩ := h
      refine g_aldZ aC16120 q30 q31 rfl fun i32 => ?_
      replace h := h i32
      refine g_eq1 ⟨by omega, by omega⟩ (fun b33 => ?_) (fun b33 => ?_)
      · replace h := h.1 b33
        unfold vX13_isWrongInFace_91
        refine g_ld (v := rf _) rfl (is_R _) ?_
        refine g_getF (v := 16122) oC13 (hC13_48) rfl (Nat.le_of_ble_eq_true rfl) (Nat.le_of_ble_eq_true rfl) ?_
        refine g_ld (v := cI _) rfl (is_I _) ?_
        obtain ⟨q34, q35, h⟩ := h
        refine g_aldZ aC16122 q34 q35 rfl fun i36 => ?_
        replace h := h i36
        refine g_eq1 ⟨by omega, by omega⟩ (fun b37 => ?_) (fun b37 => ?_)
        · replace h := h.1 b37
          exact TX13_isWrongInFace_104 hl1 hs0 h
        · replace h := h.2 b37
          unfold vX13_isWrongInFace_100
          refine g_ld (v := cI _) rfl (is_I _) ?_
          refine g_eq1 hs0 (fun b38 => ?_) (fun b38 => ?_)
          · replace h := h.1 b38
            exact TX13_isWrongInFace_104 hl1 hs0 h
          · replace h := h.2 b38
            exact TX13_isWrongInFace_127 hl1 hs0 h
      · replace h := h.2 b33
        exact TX13_isWrongInFace_127 hl1 hs0 h
  · replace h := h.2 b25
    exact TX13_isWrongInFace_127 hl1 hs0 h
def PX13_isWrongInFace_44 (l1 : Int) (s0 : Int) (G : gS) (Q : Int → gS → Prop) : Prop :=
  ((0 ≤ s0 ∧ s0 ≤ 1) ∧ Q (s0) G)
set_option maxRecDepth 20000 in
theorem TX13_isWrongInFace_44 {l1 : Int} {l2 : Nat} {s0 : Int} {G : gS} {Q : Int → gS → Prop} (hl1 : inI l1) (hl2 : l2 % 8 ≠ 1) (hs0 : inI s0) (h : PX13_isWrongInFace_44 l1 s0 G Q) : Tg W0 vX13_isWrongInFace_44 [rf (16081), cI (l1), l2] [cI (s0)] G (fun r G => ∃ v, r = cI v ∧ (0 ≤ v ∧ v ≤ 1) ∧ Q v G) := by
  unfold PX13_isWrongInFace_44 at h
  unfold vX13_isWrongInFace_44
  obtain ⟨q21, h⟩ := h
  exact g_ret1 (is_Z q21) ⟨_, rfl, q21, h⟩
def PX13_isWrongInFace_39 (l1 : Int) (G : gS) (Q : Int → gS → Prop) : Prop :=
  PX13_isWrongInFace_44 l1 1 G Q
set_option maxRecDepth 20000 in
theorem TX13_isWrongInFace_39 {l1 : Int} {l2 : Nat} {G : gS} {Q : Int → gS → Prop} (hl1 : inI l1) (hl2 : l2 % 8 ≠ 1) (h : PX13_isWrongInFace_39 l1 G Q) : Tg W0 vX13_isWrongInFace_39 [rf (16081), cI (l1), l2] [] G (fun r G => ∃ v, r = cI v ∧ (0 ≤ v ∧ v ≤ 1) ∧ Q v G) := by
  unfold PX13_isWrongInFace_39 at h
  unfold vX13_isWrongInFace_39
  refine g_const (v := cI (1)) rfl ?_
  exact TX13_isWrongInFace_44 hl1 hl2 ⟨by omega, by omega⟩ h
def PX13_isWrongInFace_0 (a1 : Int) (G : gS) (Q : Int → gS → Prop) : Prop :=
  ((0 : Int) ≤ a1 ∧ ((a1 : Int) < 7344 ∧ (inI (G 16116 a1) → ((G 16116 a1 = 0 → ((0 : Int) ≤ a1 ∧ ((a1 : Int) < 7344 ∧ ((0 ≤ G 16122 a1 ∧ G 16122 a1 ≤ 1) → ((G 16122 a1 = 0 → ((0 : Int) ≤ a1 ∧ ((a1 : Int) < 7344 ∧ (inI (G 16117 a1) → ((G 16117 a1 < 2 → ((0 : Int) ≤ a1 ∧ ((a1 : Int) < 7344 ∧ (inI (G 16134 a1) → ((G 16134 a1 = -2 → PX13_isWrongInFace_39 a1 G Q) ∧ (¬ (G 16134 a1 = -2) → PX13_isWrongInFace_44 a1 0 G Q)))))) ∧ (¬ (G 16117 a1 < 2) → PX13_isWrongInFace_39 a1 G Q)))))) ∧ (¬ (G 16122 a1 = 0) → PX13_isWrongInFace_39 a1 G Q)))))) ∧ (¬ (G 16116 a1 = 0) → ((0 : Int) ≤ a1 ∧ ((a1 : Int) < 7344 ∧ (inI (G 16135 a1) → ((G 16135 a1 = -2 → PX13_isWrongInFace_61 a1 0 G Q) ∧ (¬ (G 16135 a1 = -2) → PX13_isWrongInFace_61 a1 1 G Q))))))))))
set_option maxRecDepth 20000 in
theorem TX13_isWrongInFace_0 {a1 : Int} {G : gS} {Q : Int → gS → Prop} (ha1 : inI a1) (h : PX13_isWrongInFace_0 a1 G Q) : Tg W0 vX13_isWrongInFace_0 [rf (16081), cI (a1), 7] [] G (fun r G => ∃ v, r = cI v ∧ (0 ≤ v ∧ v ≤ 1) ∧ Q v G) := by
  unfold PX13_isWrongInFace_0 at h
  unfold vX13_isWrongInFace_0
  refine g_ld (v := rf _) rfl (is_R _) ?_
  refine g_getF (v := 16116) oC13 (hC13_42) rfl (Nat.le_of_ble_eq_true rfl) (Nat.le_of_ble_eq_true rfl) ?_
  refine g_ld (v := cI _) rfl (is_I _) ?_
  obtain ⟨q1, q2, h⟩ := h
  refine g_aldI aC16116 q1 q2 rfl fun i3 => ?_
  replace h := h i3
  refine g_eq1 i3 (fun b4 => ?_) (fun b4 => ?_)
  · replace h := h.1 b4
    unfold vX13_isWrongInFace_9
    refine g_ld (v := rf _) rfl (is_R _) ?_
    refine g_getF (v := 16122) oC13 (hC13_48) rfl (Nat.le_of_ble_eq_true rfl) (Nat.le_of_ble_eq_true rfl) ?_
    refine g_ld (v := cI _) rfl (is_I _) ?_
    obtain ⟨q5, q6, h⟩ := h
    refine g_aldZ aC16122 q5 q6 rfl fun i7 => ?_
    replace h := h i7
    refine g_eq1 ⟨by omega, by omega⟩ (fun b8 => ?_) (fun b8 => ?_)
    · replace h := h.1 b8
      unfold vX13_isWrongInFace_18
      refine g_ld (v := rf _) rfl (is_R _) ?_
      refine g_getF (v := 16117) oC13 (hC13_43) rfl (Nat.le_of_ble_eq_true rfl) (Nat.le_of_ble_eq_true rfl) ?_
      refine g_ld (v := cI _) rfl (is_I _) ?_
      obtain ⟨q9, q10, h⟩ := h
      refine g_aldI aC16117 q9 q10 rfl fun i11 => ?_
      replace h := h i11
      refine g_const (v := cI (2)) rfl ?_
      refine g_lt2 i11 ⟨by omega, by omega⟩ (fun b12 => ?_) (fun b12 => ?_)
      · replace h := h.1 b12
        unfold vX13_isWrongInFace_28
        refine g_ld (v := rf _) rfl (is_R _) ?_
        refine g_getF (v := 16134) oC13 (hC13_60) rfl (Nat.le_of_ble_eq_true rfl) (Nat.le_of_ble_eq_true rfl) ?_
        refine g_ld (v := cI _) rfl (is_I _) ?_
        obtain ⟨q13, q14, h⟩ := h
        refine g_aldI aC16134 q13 q14 rfl fun i15 => ?_
        replace h := h i15
        refine g_const (v := cI (-2)) rfl ?_
        refine g_eq2 i15 ⟨by omega, by omega⟩ (fun b16 => ?_) (fun b16 => ?_)
        · replace h := h.1 b16
          exact TX13_isWrongInFace_39 ha1 (show 7 % 8 ≠ 1 by decide) h
        · replace h := h.2 b16
          unfold vX13_isWrongInFace_43
          refine g_const (v := cI (0)) rfl ?_
          exact TX13_isWrongInFace_44 ha1 (show 7 % 8 ≠ 1 by decide) ⟨by omega, by omega⟩ h
      · replace h := h.2 b12
        exact TX13_isWrongInFace_39 ha1 (show 7 % 8 ≠ 1 by decide) h
    · replace h := h.2 b8
      exact TX13_isWrongInFace_39 ha1 (show 7 % 8 ≠ 1 by decide) h
  · replace h := h.2 b4
    unfold vX13_isWrongInFace_45
    refine g_ld (v := rf _) rfl (is_R _) ?_
    refine g_getF (v := 16135) oC13 (hC13_61) rfl (Nat.le_of_ble_eq_true rfl) (Nat.le_of_ble_eq_true rfl) ?_
    refine g_ld (v := cI _) rfl (is_I _) ?_
    obtain ⟨q17, q18, h⟩ := h
    refine g_aldI aC16135 q17 q18 rfl fun i19 => ?_
    replace h := h i19
    refine g_const (v := cI (-2)) rfl ?_
    refine g_eq2 i19 ⟨by omega, by omega⟩ (fun b20 => ?_) (fun b20 => ?_)
    · replace h := h.1 b20
      unfold vX13_isWrongInFace_60
      refine g_const (v := cI (0)) rfl ?_
      exact TX13_isWrongInFace_61 ha1 (show 7 % 8 ≠ 1 by decide) ⟨by omega, by omega⟩ h
    · replace h := h.2 b20
      unfold vX13_isWrongInFace_56
      refine g_const (v := cI (1)) rfl ?_
      exact TX13_isWrongInFace_61 ha1 (show 7 % 8 ≠ 1 by decide) ⟨by omega, by omega⟩ h
abbrev PX13_isWrongInFace (a1 : Int) (G : gS) (Q : Int → gS → Prop) : Prop := PX13_isWrongInFace_0 a1 G Q
theorem TX13_isWrongInFace {a1 : Int} {G : gS} {Q : Int → gS → Prop} (ha1 : inI a1) (h : PX13_isWrongInFace a1 G Q) : Tn W0 FX13_isWrongInFace [rf (16081), cI (a1)] G (fun r G => ∃ v, r = cI v ∧ (0 ≤ v ∧ v ≤ 1) ∧ Q v G) := by
  unfold FX13_isWrongInFace
  refine g_ent (lv' := [rf (16081), cI (a1), 7]) (flR (flI fl0)) (Nat.le_of_ble_eq_true rfl) rfl ?_
  exact TX13_isWrongInFace_0 ha1 h
def PX13_type_39 (l1 : Int) (l3 : Int) (l4 : Int) (G : gS) (Q : Int → gS → Prop) : Prop :=
  Q 0 G
set_option maxRecDepth 20000 in
theorem TX13_type_39 {l1 : Int} {l2 : Nat} {l3 : Int} {l4 : Int} {l5 : Nat} {G : gS} {Q : Int → gS → Prop} (hl1 : inL l1) (hl2 : l2 % 8 ≠ 1) (hl3 : inI l3) (hl4 : inI l4) (hl5 : l5 % 8 ≠ 1) (h : PX13_type_39 l1 l3 l4 G Q) : Tg W0 vX13_type_39 [rf (16081), cL (l1), l2, cI (l3), cI (l4), l5] [] G (fun r G => r = 7 ∧ Q 0 G) := by
  unfold PX13_type_39 at h
  unfold vX13_type_39
  exact g_ret0 ⟨rfl, h⟩
def PX13_type_32 (l1 : Int) (l3 : Int) (l4 : Int) (l5 : Int) (G : gS) (Q : Int → gS → Prop) : Prop :=
  PX13_fault 7 l3 G (fun _ G13 => PX13_type_39 l1 l3 l4 G13 Q)
set_option maxRecDepth 20000 in
theorem TX13_type_32 {l1 : Int} {l2 : Nat} {l3 : Int} {l4 : Int} {l5 : Int} {G : gS} {Q : Int → gS → Prop} (hl1 : inL l1) (hl2 : l2 % 8 ≠ 1) (hl3 : inI l3) (hl4 : inI l4) (hl5 : inI l5) (h : PX13_type_32 l1 l3 l4 l5 G Q) : Tg W0 vX13_type_32 [rf (16081), cL (l1), l2, cI (l3), cI (l4), cI (l5)] [] G (fun r G => r = 7 ∧ Q 0 G) := by
  unfold PX13_type_32 at h
  unfold vX13_type_32
  refine g_ld (v := rf _) rfl (is_R _) ?_
  refine g_const (v := cI (7)) rfl ?_
  refine g_ld (v := cI _) rfl (is_I _) ?_
  refine g_callV (As := [_, _]) (ci := 13) oC13 (fun _ => rfl) ?_
  refine g_go0 (Nat.le_of_ble_eq_true rfl) (Tn_w (TX13_fault ⟨by omega, by omega⟩ hl3 h) fun _ G13 ⟨e, h⟩ => ⟨e, ?_⟩)
  exact TX13_type_39 hl1 hl2 hl3 hl4 (n1_I _) h
def PX13_type_0 (a1 : Int) (a3 : Int) (a4 : Int) (G : gS) (Q : Int → gS → Prop) : Prop :=
  PX13_isC a1 G (fun r2 G1 => (0 ≤ r2 ∧ r2 ≤ 1) → ((r2 = 0 → PX13_type_39 a1 a3 a4 G1 Q) ∧ (¬ (r2 = 0) → PX13_find a1 G1 (fun r6 G5 => inI r6 → ((r6 = -2 → PX13_type_32 a1 a3 a4 r6 G5 Q) ∧ (¬ (r6 = -2) → PX13_isLet r6 a4 G5 (fun r10 G9 => (0 ≤ r10 ∧ r10 ≤ 1) → ((r10 = 0 → PX13_type_32 a1 a3 a4 r6 G9 Q) ∧ (¬ (r10 = 0) → PX13_type_39 a1 a3 a4 G9 Q)))))))))
set_option maxRecDepth 20000 in
theorem TX13_type_0 {a1 : Int} {a3 : Int} {a4 : Int} {G : gS} {Q : Int → gS → Prop} (ha1 : inL a1) (ha3 : inI a3) (ha4 : inI a4) (h : PX13_type_0 a1 a3 a4 G Q) : Tg W0 vX13_type_0 [rf (16081), cL (a1), 7, cI (a3), cI (a4), 7] [] G (fun r G => r = 7 ∧ Q 0 G) := by
  unfold PX13_type_0 at h
  unfold vX13_type_0
  refine g_ld (v := cL _) rfl (is_L _) ?_
  refine g_callS (As := [_]) (fun _ => rfl) ?_
  refine g_go1 (Nat.le_of_ble_eq_true rfl) (Tn_w (TX13_isC ha1 h) fun _ G1 ⟨r2, e, i3, h⟩ => ?_)
  subst e
  refine ⟨n7_I _, ?_⟩
  replace h := h i3
  refine g_eq1 ⟨by omega, by omega⟩ (fun b4 => ?_) (fun b4 => ?_)
  · replace h := h.1 b4
    exact TX13_type_39 ha1 (show 7 % 8 ≠ 1 by decide) ha3 ha4 (show 7 % 8 ≠ 1 by decide) h
  · replace h := h.2 b4
    unfold vX13_type_7
    refine g_ld (v := rf _) rfl (is_R _) ?_
    refine g_ld (v := cL _) rfl (is_L _) ?_
    refine g_callV (As := [_]) (ci := 13) oC13 (fun _ => rfl) ?_
    refine g_go1 (Nat.le_of_ble_eq_true rfl) (Tn_w (TX13_find ha1 h) fun _ G5 ⟨r6, e, i7, h⟩ => ?_)
    subst e
    refine ⟨n7_I _, ?_⟩
    replace h := h i7
    refine g_st (lv' := [_, _, _, _, _, _]) (is_I _) (Nat.le_of_ble_eq_true rfl) (Or.inr (n1_I _)) rfl ?_
    refine g_ld (v := cI _) rfl (is_I _) ?_
    refine g_const (v := cI (-2)) rfl ?_
    refine g_eq2 i7 ⟨by omega, by omega⟩ (fun b8 => ?_) (fun b8 => ?_)
    · replace h := h.1 b8
      exact TX13_type_32 ha1 (show 7 % 8 ≠ 1 by decide) ha3 ha4 i7 h
    · replace h := h.2 b8
      unfold vX13_type_21
      refine g_ld (v := rf _) rfl (is_R _) ?_
      refine g_ld (v := cI _) rfl (is_I _) ?_
      refine g_ld (v := cI _) rfl (is_I _) ?_
      refine g_callV (As := [_, _]) (ci := 13) oC13 (fun _ => rfl) ?_
      refine g_go1 (Nat.le_of_ble_eq_true rfl) (Tn_w (TX13_isLet i7 ha4 h) fun _ G9 ⟨r10, e, i11, h⟩ => ?_)
      subst e
      refine ⟨n7_I _, ?_⟩
      replace h := h i11
      refine g_eq1 ⟨by omega, by omega⟩ (fun b12 => ?_) (fun b12 => ?_)
      · replace h := h.1 b12
        exact TX13_type_32 ha1 (show 7 % 8 ≠ 1 by decide) ha3 ha4 i7 h
      · replace h := h.2 b12
        exact TX13_type_39 ha1 (show 7 % 8 ≠ 1 by decide) ha3 ha4 (n1_I _) h
abbrev PX13_type (a1 : Int) (a3 : Int) (a4 : Int) (G : gS) (Q : Int → gS → Prop) : Prop := PX13_type_0 a1 a3 a4 G Q
theorem TX13_type {a1 : Int} {a3 : Int} {a4 : Int} {G : gS} {Q : Int → gS → Prop} (ha1 : inL a1) (ha3 : inI a3) (ha4 : inI a4) (h : PX13_type a1 a3 a4 G Q) : Tn W0 FX13_type [rf (16081), cL (a1), cI (a3), cI (a4)] G (fun r G => r = 7 ∧ Q 0 G) := by
  unfold FX13_type
  refine g_ent (lv' := [rf (16081), cL (a1), 7, cI (a3), cI (a4), 7]) (flR (flL (flI (flI fl0)))) (Nat.le_of_ble_eq_true rfl) rfl ?_
  exact TX13_type_0 ha1 ha3 ha4 h
def PX13_membersOf_320 (J : Nat → List Int → gS → (Int → gS → Prop) → Prop) (l1 : Int) (G : gS) (Q : Int → gS → Prop) : Prop :=
  Q 0 G
set_option maxRecDepth 20000 in
theorem TX13_membersOf_320 {j : Nat → rx_K} {J : Nat → List Int → gS → (Int → gS → Prop) → Prop} {l1 : Int} {l2 : Nat} {l3 : Nat} {l4 : Nat} {l5 : Nat} {l6 : Nat} {l7 : Nat} {G : gS} {Q : Int → gS → Prop} (hl1 : inI l1) (hl2 : l2 % 8 ≠ 1) (hl3 : l3 % 8 ≠ 1) (hl4 : l4 % 8 ≠ 1) (hl5 : l5 % 8 ≠ 1) (hl6 : l6 % 8 ≠ 1) (hl7 : l7 % 8 ≠ 1) (hj0 : ∀ (l1 : Int) (l2 : Nat) (l3 : Nat) (l4 : Nat) (l5 : Nat) (l6 : Nat) (l7 : Nat) (G : gS), (inI l1) → (l2 % 8 ≠ 1) → (l3 % 8 ≠ 1) → (l4 % 8 ≠ 1) → (l5 % 8 ≠ 1) → (l6 % 8 ≠ 1) → (l7 % 8 ≠ 1) → J 0 [l1] G Q → Tg W0 (j 0) [rf (16081), cI (l1), l2, l3, l4, l5, l6, l7] [] G (fun r G => r = 7 ∧ Q 0 G)) (hj1 : ∀ (l1 : Int) (l2 : Int) (l3 : Int) (l4 : Nat) (l5 : Nat) (l6 : Nat) (l7 : Nat) (G : gS), (inI l1) → (inI l2) → (inI l3) → (l4 % 8 ≠ 1) → (l5 % 8 ≠ 1) → (l6 % 8 ≠ 1) → (l7 % 8 ≠ 1) → J 1 [l1, l2, l3] G Q → Tg W0 (j 1) [rf (16081), cI (l1), cI (l2), cI (l3), l4, l5, l6, l7] [] G (fun r G => r = 7 ∧ Q 0 G)) (hj2 : ∀ (l1 : Int) (l2 : Int) (l3 : Int) (l4 : Int) (l5 : Int) (l6 : Nat) (l7 : Nat) (G : gS), (inI l1) → (inI l2) → (inI l3) → (inI l4) → (inI l5) → (l6 % 8 ≠ 1) → (l7 % 8 ≠ 1) → J 2 [l1, l2, l3, l4, l5] G Q → Tg W0 (j 2) [rf (16081), cI (l1), cI (l2), cI (l3), cI (l4), cI (l5), l6, l7] [] G (fun r G => r = 7 ∧ Q 0 G)) (hj3 : ∀ (l1 : Int) (l2 : Int) (l3 : Int) (l4 : Int) (l5 : Int) (l6 : Nat) (l7 : Nat) (G : gS), (inI l1) → (inI l2) → (inI l3) → (inI l4) → (inI l5) → (l6 % 8 ≠ 1) → (l7 % 8 ≠ 1) → J 3 [l1, l2, l3, l4, l5] G Q → Tg W0 (j 3) [rf (16081), cI (l1), cI (l2), cI (l3), cI (l4), cI (l5), l6, l7] [] G (fun r G => r = 7 ∧ Q 0 G)) (h : PX13_membersOf_320 J l1 G Q) : Tg W0 (vX13_membersOf_320 j) [rf (16081), cI (l1), l2, l3, l4, l5, l6, l7] [] G (fun r G => r = 7 ∧ Q 0 G) := by
  unfold PX13_membersOf_320 at h
  unfold vX13_membersOf_320
  exact g_ret0 ⟨rfl, h⟩
def PX13_membersOf_314 (J : Nat → List Int → gS → (Int → gS → Prop) → Prop) (l1 : Int) (l2 : Int) (l3 : Int) (G : gS) (Q : Int → gS → Prop) : Prop :=
  (inI (l1 + 1) ∧ J 0 [l1 + 1] G Q)
set_option maxRecDepth 20000 in
theorem TX13_membersOf_314 {j : Nat → rx_K} {J : Nat → List Int → gS → (Int → gS → Prop) → Prop} {l1 : Int} {l2 : Int} {l3 : Int} {l4 : Nat} {l5 : Nat} {l6 : Nat} {l7 : Nat} {G : gS} {Q : Int → gS → Prop} (hl1 : inI l1) (hl2 : inI l2) (hl3 : inI l3) (hl4 : l4 % 8 ≠ 1) (hl5 : l5 % 8 ≠ 1) (hl6 : l6 % 8 ≠ 1) (hl7 : l7 % 8 ≠ 1) (hj0 : ∀ (l1 : Int) (l2 : Nat) (l3 : Nat) (l4 : Nat) (l5 : Nat) (l6 : Nat) (l7 : Nat) (G : gS), (inI l1) → (l2 % 8 ≠ 1) → (l3 % 8 ≠ 1) → (l4 % 8 ≠ 1) → (l5 % 8 ≠ 1) → (l6 % 8 ≠ 1) → (l7 % 8 ≠ 1) → J 0 [l1] G Q → Tg W0 (j 0) [rf (16081), cI (l1), l2, l3, l4, l5, l6, l7] [] G (fun r G => r = 7 ∧ Q 0 G)) (hj1 : ∀ (l1 : Int) (l2 : Int) (l3 : Int) (l4 : Nat) (l5 : Nat) (l6 : Nat) (l7 : Nat) (G : gS), (inI l1) → (inI l2) → (inI l3) → (l4 % 8 ≠ 1) → (l5 % 8 ≠ 1) → (l6 % 8 ≠ 1) → (l7 % 8 ≠ 1) → J 1 [l1, l2, l3] G Q → Tg W0 (j 1) [rf (16081), cI (l1), cI (l2), cI (l3), l4, l5, l6, l7] [] G (fun r G => r = 7 ∧ Q 0 G)) (hj2 : ∀ (l1 : Int) (l2 : Int) (l3 : Int) (l4 : Int) (l5 : Int) (l6 : Nat) (l7 : Nat) (G : gS), (inI l1) → (inI l2) → (inI l3) → (inI l4) → (inI l5) → (l6 % 8 ≠ 1) → (l7 % 8 ≠ 1) → J 2 [l1, l2, l3, l4, l5] G Q → Tg W0 (j 2) [rf (16081), cI (l1), cI (l2), cI (l3), cI (l4), cI (l5), l6, l7] [] G (fun r G => r = 7 ∧ Q 0 G)) (hj3 : ∀ (l1 : Int) (l2 : Int) (l3 : Int) (l4 : Int) (l5 : Int) (l6 : Nat) (l7 : Nat) (G : gS), (inI l1) → (inI l2) → (inI l3) → (inI l4) → (inI l5) → (l6 % 8 ≠ 1) → (l7 % 8 ≠ 1) → J 3 [l1, l2, l3, l4, l5] G Q → Tg W0 (j 3) [rf (16081), cI (l1), cI (l2), cI (l3), cI (l4), cI (l5), l6, l7] [] G (fun r G => r = 7 ∧ Q 0 G)) (h : PX13_membersOf_314 J l1 l2 l3 G Q) : Tg W0 (vX13_membersOf_314 j) [rf (16081), cI (l1), cI (l2), cI (l3), l4, l5, l6, l7] [] G (fun r G => r = 7 ∧ Q 0 G) := by
  unfold PX13_membersOf_314 at h
  unfold vX13_membersOf_314
  refine g_inc (lv' := [_, _, _, _, _, _, _, _]) rfl (Nat.le_of_ble_eq_true rfl) (Or.inr (n1_R _)) rfl ?_
  obtain ⟨q42, h⟩ := h
  exact hj0 _ _ _ _ _ _ _ _ q42 (n1_I _) (n1_I _) hl4 hl5 hl6 hl7 h
def PX13_membersOf_302 (J : Nat → List Int → gS → (Int → gS → Prop) → Prop) (l1 : Int) (l2 : Int) (l3 : Int) (l4 : Int) (l5 : Int) (l6 : Int) (l7 : Int) (G : gS) (Q : Int → gS → Prop) : Prop :=
  (inI (l5 + 1) ∧ J 3 [l1, l2, l3, l4, l5 + 1] G Q)
set_option maxRecDepth 20000 in
theorem TX13_membersOf_302 {j : Nat → rx_K} {J : Nat → List Int → gS → (Int → gS → Prop) → Prop} {l1 : Int} {l2 : Int} {l3 : Int} {l4 : Int} {l5 : Int} {l6 : Int} {l7 : Int} {G : gS} {Q : Int → gS → Prop} (hl1 : inI l1) (hl2 : inI l2) (hl3 : inI l3) (hl4 : inI l4) (hl5 : inI l5) (hl6 : inI l6) (hl7 : inI l7) (hj0 : ∀ (l1 : Int) (l2 : Nat) (l3 : Nat) (l4 : Nat) (l5 : Nat) (l6 : Nat) (l7 : Nat) (G : gS), (inI l1) → (l2 % 8 ≠ 1) → (l3 % 8 ≠ 1) → (l4 % 8 ≠ 1) → (l5 % 8 ≠ 1) → (l6 % 8 ≠ 1) → (l7 % 8 ≠ 1) → J 0 [l1] G Q → Tg W0 (j 0) [rf (16081), cI (l1), l2, l3, l4, l5, l6, l7] [] G (fun r G => r = 7 ∧ Q 0 G)) (hj1 : ∀ (l1 : Int) (l2 : Int) (l3 : Int) (l4 : Nat) (l5 : Nat) (l6 : Nat) (l7 : Nat) (G : gS), (inI l1) → (inI l2) → (inI l3) → (l4 % 8 ≠ 1) → (l5 % 8 ≠ 1) → (l6 % 8 ≠ 1) → (l7 % 8 ≠ 1) → J 1 [l1, l2, l3] G Q → Tg W0 (j 1) [rf (16081), cI (l1), cI (l2), cI (l3), l4, l5, l6, l7] [] G (fun r G => r = 7 ∧ Q 0 G)) (hj2 : ∀ (l1 : Int) (l2 : Int) (l3 : Int) (l4 : Int) (l5 : Int) (l6 : Nat) (l7 : Nat) (G : gS), (inI l1) → (inI l2) → (inI l3) → (inI l4) → (inI l5) → (l6 % 8 ≠ 1) → (l7 % 8 ≠ 1) → J 2 [l1, l2, l3, l4, l5] G Q → Tg W0 (j 2) [rf (16081), cI (l1), cI (l2), cI (l3), cI (l4), cI (l5), l6, l7] [] G (fun r G => r = 7 ∧ Q 0 G)) (hj3 : ∀ (l1 : Int) (l2 : Int) (l3 : Int) (l4 : Int) (l5 : Int) (l6 : Nat) (l7 : Nat) (G : gS), (inI l1) → (inI l2) → (inI l3) → (inI l4) → (inI l5) → (l6 % 8 ≠ 1) → (l7 % 8 ≠ 1) → J 3 [l1, l2, l3, l4, l5] G Q → Tg W0 (j 3) [rf (16081), cI (l1), cI (l2), cI (l3), cI (l4), cI (l5), l6, l7] [] G (fun r G => r = 7 ∧ Q 0 G)) (h : PX13_membersOf_302 J l1 l2 l3 l4 l5 l6 l7 G Q) : Tg W0 (vX13_membersOf_302 j) [rf (16081), cI (l1), cI (l2), cI (l3), cI (l4), cI (l5), cI (l6), cI (l7)] [] G (fun r G => r = 7 ∧ Q 0 G) := by
  unfold PX13_membersOf_302 at h
  unfold vX13_membersOf_302
  refine g_inc (lv' := [_, _, _, _, _, _, _, _]) rfl (Nat.le_of_ble_eq_true rfl) (Or.inr (n1_I _)) rfl ?_
  obtain ⟨q98, h⟩ := h
  exact hj3 _ _ _ _ _ _ _ _ hl1 hl2 hl3 hl4 q98 (n1_I _) (n1_I _) h
def PX13_membersOf_282 (J : Nat → List Int → gS → (Int → gS → Prop) → Prop) (l1 : Int) (l2 : Int) (l3 : Int) (l4 : Int) (l5 : Int) (l6 : Int) (s0 : Int) (G : gS) (Q : Int → gS → Prop) : Prop :=
  ((s0 = 0 → PX13_membersOf_302 J l1 l2 l3 l4 l5 l6 s0 G Q) ∧ (¬ (s0 = 0) → ((0 : Int) ≤ l4 ∧ ((l4 : Int) < 7344 ∧ (inI (G 16126 l4) → PX13_fault 6 (G 16126 l4) G (fun _ G96 => PX13_membersOf_302 J l1 l2 l3 l4 l5 l6 s0 G96 Q))))))
set_option maxRecDepth 20000 in
theorem TX13_membersOf_282 {j : Nat → rx_K} {J : Nat → List Int → gS → (Int → gS → Prop) → Prop} {l1 : Int} {l2 : Int} {l3 : Int} {l4 : Int} {l5 : Int} {l6 : Int} {l7 : Nat} {s0 : Int} {G : gS} {Q : Int → gS → Prop} (hl1 : inI l1) (hl2 : inI l2) (hl3 : inI l3) (hl4 : inI l4) (hl5 : inI l5) (hl6 : inI l6) (hl7 : l7 % 8 ≠ 1) (hs0 : inI s0) (hj0 : ∀ (l1 : Int) (l2 : Nat) (l3 : Nat) (l4 : Nat) (l5 : Nat) (l6 : Nat) (l7 : Nat) (G : gS), (inI l1) → (l2 % 8 ≠ 1) → (l3 % 8 ≠ 1) → (l4 % 8 ≠ 1) → (l5 % 8 ≠ 1) → (l6 % 8 ≠ 1) → (l7 % 8 ≠ 1) → J 0 [l1] G Q → Tg W0 (j 0) [rf (16081), cI (l1), l2, l3, l4, l5, l6, l7] [] G (fun r G => r = 7 ∧ Q 0 G)) (hj1 : ∀ (l1 : Int) (l2 : Int) (l3 : Int) (l4 : Nat) (l5 : Nat) (l6 : Nat) (l7 : Nat) (G : gS), (inI l1) → (inI l2) → (inI l3) → (l4 % 8 ≠ 1) → (l5 % 8 ≠ 1) → (l6 % 8 ≠ 1) → (l7 % 8 ≠ 1) → J 1 [l1, l2, l3] G Q → Tg W0 (j 1) [rf (16081), cI (l1), cI (l2), cI (l3), l4, l5, l6, l7] [] G (fun r G => r = 7 ∧ Q 0 G)) (hj2 : ∀ (l1 : Int) (l2 : Int) (l3 : Int) (l4 : Int) (l5 : Int) (l6 : Nat) (l7 : Nat) (G : gS), (inI l1) → (inI l2) → (inI l3) → (inI l4) → (inI l5) → (l6 % 8 ≠ 1) → (l7 % 8 ≠ 1) → J 2 [l1, l2, l3, l4, l5] G Q → Tg W0 (j 2) [rf (16081), cI (l1), cI (l2), cI (l3), cI (l4), cI (l5), l6, l7] [] G (fun r G => r = 7 ∧ Q 0 G)) (hj3 : ∀ (l1 : Int) (l2 : Int) (l3 : Int) (l4 : Int) (l5 : Int) (l6 : Nat) (l7 : Nat) (G : gS), (inI l1) → (inI l2) → (inI l3) → (inI l4) → (inI l5) → (l6 % 8 ≠ 1) → (l7 % 8 ≠ 1) → J 3 [l1, l2, l3, l4, l5] G Q → Tg W0 (j 3) [rf (16081), cI (l1), cI (l2), cI (l3), cI (l4), cI (l5), l6, l7] [] G (fun r G => r = 7 ∧ Q 0 G)) (h : PX13_membersOf_282 J l1 l2 l3 l4 l5 l6 s0 G Q) : Tg W0 (vX13_membersOf_282 j) [rf (16081), cI (l1), cI (l2), cI (l3), cI (l4), cI (l5), cI (l6), l7] [cI (s0)] G (fun r G => r = 7 ∧ Q 0 G) := by
  unfold PX13_membersOf_282 at h
  unfold vX13_membersOf_282
  refine g_st (lv' := [_, _, _, _, _, _, _, _]) (is_I _) (Nat.le_of_ble_eq_true rfl) (Or.inr (n1_I _)) rfl ?_
  refine g_ld (v := cI _) rfl (is_I _) ?_
  refine g_eq1 hs0 (fun b92 => ?_) (fun b92 => ?_)
  · replace h := h.1 b92
    exact TX13_membersOf_302 hl1 hl2 hl3 hl4 hl5 hl6 hs0 hj0 hj1 hj2 hj3 h
  · replace h := h.2 b92
    unfold vX13_membersOf_289
    refine g_ld (v := rf _) rfl (is_R _) ?_
    refine g_const (v := cI (6)) rfl ?_
    refine g_ld (v := rf _) rfl (is_R _) ?_
    refine g_getF (v := 16126) oC13 (hC13_52) rfl (Nat.le_of_ble_eq_true rfl) (Nat.le_of_ble_eq_true rfl) ?_
    refine g_ld (v := cI _) rfl (is_I _) ?_
    obtain ⟨q93, q94, h⟩ := h
    refine g_aldI aC16126 q93 q94 rfl fun i95 => ?_
    replace h := h i95
    refine g_callV (As := [_, _]) (ci := 13) oC13 (fun _ => rfl) ?_
    refine g_go0 (Nat.le_of_ble_eq_true rfl) (Tn_w (TX13_fault ⟨by omega, by omega⟩ i95 h) fun _ G96 ⟨e, h⟩ => ⟨e, ?_⟩)
    exact TX13_membersOf_302 hl1 hl2 hl3 hl4 hl5 hl6 hs0 hj0 hj1 hj2 hj3 h
def PX13_membersOf_281 (J : Nat → List Int → gS → (Int → gS → Prop) → Prop) (l1 : Int) (l2 : Int) (l3 : Int) (l4 : Int) (l5 : Int) (l6 : Int) (G : gS) (Q : Int → gS → Prop) : Prop :=
  PX13_membersOf_282 J l1 l2 l3 l4 l5 l6 0 G Q
set_option maxRecDepth 20000 in
theorem TX13_membersOf_281 {j : Nat → rx_K} {J : Nat → List Int → gS → (Int → gS → Prop) → Prop} {l1 : Int} {l2 : Int} {l3 : Int} {l4 : Int} {l5 : Int} {l6 : Int} {l7 : Nat} {G : gS} {Q : Int → gS → Prop} (hl1 : inI l1) (hl2 : inI l2) (hl3 : inI l3) (hl4 : inI l4) (hl5 : inI l5) (hl6 : inI l6) (hl7 : l7 % 8 ≠ 1) (hj0 : ∀ (l1 : Int) (l2 : Nat) (l3 : Nat) (l4 : Nat) (l5 : Nat) (l6 : Nat) (l7 : Nat) (G : gS), (inI l1) → (l2 % 8 ≠ 1) → (l3 % 8 ≠ 1) → (l4 % 8 ≠ 1) → (l5 % 8 ≠ 1) → (l6 % 8 ≠ 1) → (l7 % 8 ≠ 1) → J 0 [l1] G Q → Tg W0 (j 0) [rf (16081), cI (l1), l2, l3, l4, l5, l6, l7] [] G (fun r G => r = 7 ∧ Q 0 G)) (hj1 : ∀ (l1 : Int) (l2 : Int) (l3 : Int) (l4 : Nat) (l5 : Nat) (l6 : Nat) (l7 : Nat) (G : gS), (inI l1) → (inI l2) → (inI l3) → (l4 % 8 ≠ 1) → (l5 % 8 ≠ 1) → (l6 % 8 ≠ 1) → (l7 % 8 ≠ 1) → J 1 [l1, l2, l3] G Q → Tg W0 (j 1) [rf (16081), cI (l1), cI (l2), cI (l3), l4, l5, l6, l7] [] G (fun r G => r = 7 ∧ Q 0 G)) (hj2 : ∀ (l1 : Int) (l2 : Int) (l3 : Int) (l4 : Int) (l5 : Int) (l6 : Nat) (l7 : Nat) (G : gS), (inI l1) → (inI l2) → (inI l3) → (inI l4) → (inI l5) → (l6 % 8 ≠ 1) → (l7 % 8 ≠ 1) → J 2 [l1, l2, l3, l4, l5] G Q → Tg W0 (j 2) [rf (16081), cI (l1), cI (l2), cI (l3), cI (l4), cI (l5), l6, l7] [] G (fun r G => r = 7 ∧ Q 0 G)) (hj3 : ∀ (l1 : Int) (l2 : Int) (l3 : Int) (l4 : Int) (l5 : Int) (l6 : Nat) (l7 : Nat) (G : gS), (inI l1) → (inI l2) → (inI l3) → (inI l4) → (inI l5) → (l6 % 8 ≠ 1) → (l7 % 8 ≠ 1) → J 3 [l1, l2, l3, l4, l5] G Q → Tg W0 (j 3) [rf (16081), cI (l1), cI (l2), cI (l3), cI (l4), cI (l5), l6, l7] [] G (fun r G => r = 7 ∧ Q 0 G)) (h : PX13_membersOf_281 J l1 l2 l3 l4 l5 l6 G Q) : Tg W0 (vX13_membersOf_281 j) [rf (16081), cI (l1), cI (l2), cI (l3), cI (l4), cI (l5), cI (l6), l7] [] G (fun r G => r = 7 ∧ Q 0 G) := by
  unfold PX13_membersOf_281 at h
  unfold vX13_membersOf_281
  refine g_const (v := cI (0)) rfl ?_
  exact TX13_membersOf_282 hl1 hl2 hl3 hl4 hl5 hl6 hl7 ⟨by omega, by omega⟩ hj0 hj1 hj2 hj3 h
def PX13_membersOf_277 (J : Nat → List Int → gS → (Int → gS → Prop) → Prop) (l1 : Int) (l2 : Int) (l3 : Int) (l4 : Int) (l5 : Int) (l6 : Int) (G : gS) (Q : Int → gS → Prop) : Prop :=
  PX13_membersOf_282 J l1 l2 l3 l4 l5 l6 1 G Q
set_option maxRecDepth 20000 in
theorem TX13_membersOf_277 {j : Nat → rx_K} {J : Nat → List Int → gS → (Int → gS → Prop) → Prop} {l1 : Int} {l2 : Int} {l3 : Int} {l4 : Int} {l5 : Int} {l6 : Int} {l7 : Nat} {G : gS} {Q : Int → gS → Prop} (hl1 : inI l1) (hl2 : inI l2) (hl3 : inI l3) (hl4 : inI l4) (hl5 : inI l5) (hl6 : inI l6) (hl7 : l7 % 8 ≠ 1) (hj0 : ∀ (l1 : Int) (l2 : Nat) (l3 : Nat) (l4 : Nat) (l5 : Nat) (l6 : Nat) (l7 : Nat) (G : gS), (inI l1) → (l2 % 8 ≠ 1) → (l3 % 8 ≠ 1) → (l4 % 8 ≠ 1) → (l5 % 8 ≠ 1) → (l6 % 8 ≠ 1) → (l7 % 8 ≠ 1) → J 0 [l1] G Q → Tg W0 (j 0) [rf (16081), cI (l1), l2, l3, l4, l5, l6, l7] [] G (fun r G => r = 7 ∧ Q 0 G)) (hj1 : ∀ (l1 : Int) (l2 : Int) (l3 : Int) (l4 : Nat) (l5 : Nat) (l6 : Nat) (l7 : Nat) (G : gS), (inI l1) → (inI l2) → (inI l3) → (l4 % 8 ≠ 1) → (l5 % 8 ≠ 1) → (l6 % 8 ≠ 1) → (l7 % 8 ≠ 1) → J 1 [l1, l2, l3] G Q → Tg W0 (j 1) [rf (16081), cI (l1), cI (l2), cI (l3), l4, l5, l6, l7] [] G (fun r G => r = 7 ∧ Q 0 G)) (hj2 : ∀ (l1 : Int) (l2 : Int) (l3 : Int) (l4 : Int) (l5 : Int) (l6 : Nat) (l7 : Nat) (G : gS), (inI l1) → (inI l2) → (inI l3) → (inI l4) → (inI l5) → (l6 % 8 ≠ 1) → (l7 % 8 ≠ 1) → J 2 [l1, l2, l3, l4, l5] G Q → Tg W0 (j 2) [rf (16081), cI (l1), cI (l2), cI (l3), cI (l4), cI (l5), l6, l7] [] G (fun r G => r = 7 ∧ Q 0 G)) (hj3 : ∀ (l1 : Int) (l2 : Int) (l3 : Int) (l4 : Int) (l5 : Int) (l6 : Nat) (l7 : Nat) (G : gS), (inI l1) → (inI l2) → (inI l3) → (inI l4) → (inI l5) → (l6 % 8 ≠ 1) → (l7 % 8 ≠ 1) → J 3 [l1, l2, l3, l4, l5] G Q → Tg W0 (j 3) [rf (16081), cI (l1), cI (l2), cI (l3), cI (l4), cI (l5), l6, l7] [] G (fun r G => r = 7 ∧ Q 0 G)) (h : PX13_membersOf_277 J l1 l2 l3 l4 l5 l6 G Q) : Tg W0 (vX13_membersOf_277 j) [rf (16081), cI (l1), cI (l2), cI (l3), cI (l4), cI (l5), cI (l6), l7] [] G (fun r G => r = 7 ∧ Q 0 G) := by
  unfold PX13_membersOf_277 at h
  unfold vX13_membersOf_277
  refine g_const (v := cI (1)) rfl ?_
  exact TX13_membersOf_282 hl1 hl2 hl3 hl4 hl5 hl6 hl7 ⟨by omega, by omega⟩ hj0 hj1 hj2 hj3 h
def PX13_membersOf_174 (J : Nat → List Int → gS → (Int → gS → Prop) → Prop) (l1 : Int) (l2 : Int) (l3 : Int) (l4 : Int) (l5 : Int) (G : gS) (Q : Int → gS → Prop) : Prop :=
  ((l5 < l3 → (inI ((l2 * 34) + l5) ∧ ((0 : Int) ≤ (l2 * 34) + l5 ∧ (((l2 * 34) + l5 : Int) < 7344 ∧ (inI (G 16116 ((l2 * 34) + l5)) → ((0 : Int) ≤ l4 ∧ ((l4 : Int) < 7344 ∧ (inI (G 16116 l4) → ((G 16116 ((l2 * 34) + l5) = G 16116 l4 → ((0 : Int) ≤ l4 ∧ ((l4 : Int) < 7344 ∧ (inI (G 16116 l4) → ((G 16116 l4 = 0 → ((0 : Int) ≤ (l2 * 34) + l5 ∧ (((l2 * 34) + l5 : Int) < 7344 ∧ (inL (G 16125 ((l2 * 34) + l5)) → ((0 : Int) ≤ l4 ∧ ((l4 : Int) < 7344 ∧ (inL (G 16125 l4) → ((G 16125 ((l2 * 34) + l5) = G 16125 l4 → PX13_membersOf_277 J l1 l2 l3 l4 l5 ((l2 * 34) + l5) G Q) ∧ (¬ (G 16125 ((l2 * 34) + l5) = G 16125 l4) → PX13_membersOf_281 J l1 l2 l3 l4 l5 ((l2 * 34) + l5) G Q))))))))) ∧ (¬ (G 16116 l4 = 0) → ((0 : Int) ≤ l4 ∧ ((l4 : Int) < 7344 ∧ (inI (G 16116 l4) → ((G 16116 l4 = 3 → PX13_membersOf_281 J l1 l2 l3 l4 l5 ((l2 * 34) + l5) G Q) ∧ (¬ (G 16116 l4 = 3) → ((0 : Int) ≤ (l2 * 34) + l5 ∧ (((l2 * 34) + l5 : Int) < 7344 ∧ (inL (G 16125 ((l2 * 34) + l5)) → ((0 : Int) ≤ l4 ∧ ((l4 : Int) < 7344 ∧ (inL (G 16125 l4) → ((G 16125 ((l2 * 34) + l5) = G 16125 l4 → PX13_sameParams ((l2 * 34) + l5) l4 G (fun r88 G87 => (0 ≤ r88 ∧ r88 ≤ 1) → ((r88 = 0 → PX13_membersOf_281 J l1 l2 l3 l4 l5 ((l2 * 34) + l5) G87 Q) ∧ (¬ (r88 = 0) → PX13_membersOf_277 J l1 l2 l3 l4 l5 ((l2 * 34) + l5) G87 Q)))) ∧ (¬ (G 16125 ((l2 * 34) + l5) = G 16125 l4) → PX13_membersOf_281 J l1 l2 l3 l4 l5 ((l2 * 34) + l5) G Q))))))))))))))))))) ∧ (¬ (G 16116 ((l2 * 34) + l5) = G 16116 l4) → PX13_membersOf_281 J l1 l2 l3 l4 l5 ((l2 * 34) + l5) G Q)))))))))) ∧ (¬ (l5 < l3) → (inI (l3 + 1) ∧ J 1 [l1, l2, l3 + 1] G Q)))
set_option maxRecDepth 20000 in
theorem TX13_membersOf_174 {j : Nat → rx_K} {J : Nat → List Int → gS → (Int → gS → Prop) → Prop} {l1 : Int} {l2 : Int} {l3 : Int} {l4 : Int} {l5 : Int} {l6 : Nat} {l7 : Nat} {G : gS} {Q : Int → gS → Prop} (hl1 : inI l1) (hl2 : inI l2) (hl3 : inI l3) (hl4 : inI l4) (hl5 : inI l5) (hl6 : l6 % 8 ≠ 1) (hl7 : l7 % 8 ≠ 1) (hj0 : ∀ (l1 : Int) (l2 : Nat) (l3 : Nat) (l4 : Nat) (l5 : Nat) (l6 : Nat) (l7 : Nat) (G : gS), (inI l1) → (l2 % 8 ≠ 1) → (l3 % 8 ≠ 1) → (l4 % 8 ≠ 1) → (l5 % 8 ≠ 1) → (l6 % 8 ≠ 1) → (l7 % 8 ≠ 1) → J 0 [l1] G Q → Tg W0 (j 0) [rf (16081), cI (l1), l2, l3, l4, l5, l6, l7] [] G (fun r G => r = 7 ∧ Q 0 G)) (hj1 : ∀ (l1 : Int) (l2 : Int) (l3 : Int) (l4 : Nat) (l5 : Nat) (l6 : Nat) (l7 : Nat) (G : gS), (inI l1) → (inI l2) → (inI l3) → (l4 % 8 ≠ 1) → (l5 % 8 ≠ 1) → (l6 % 8 ≠ 1) → (l7 % 8 ≠ 1) → J 1 [l1, l2, l3] G Q → Tg W0 (j 1) [rf (16081), cI (l1), cI (l2), cI (l3), l4, l5, l6, l7] [] G (fun r G => r = 7 ∧ Q 0 G)) (hj2 : ∀ (l1 : Int) (l2 : Int) (l3 : Int) (l4 : Int) (l5 : Int) (l6 : Nat) (l7 : Nat) (G : gS), (inI l1) → (inI l2) → (inI l3) → (inI l4) → (inI l5) → (l6 % 8 ≠ 1) → (l7 % 8 ≠ 1) → J 2 [l1, l2, l3, l4, l5] G Q → Tg W0 (j 2) [rf (16081), cI (l1), cI (l2), cI (l3), cI (l4), cI (l5), l6, l7] [] G (fun r G => r = 7 ∧ Q 0 G)) (hj3 : ∀ (l1 : Int) (l2 : Int) (l3 : Int) (l4 : Int) (l5 : Int) (l6 : Nat) (l7 : Nat) (G : gS), (inI l1) → (inI l2) → (inI l3) → (inI l4) → (inI l5) → (l6 % 8 ≠ 1) → (l7 % 8 ≠ 1) → J 3 [l1, l2, l3, l4, l5] G Q → Tg W0 (j 3) [rf (16081), cI (l1), cI (l2), cI (l3), cI (l4), cI (l5), l6, l7] [] G (fun r G => r = 7 ∧ Q 0 G)) (h : PX13_membersOf_174 J l1 l2 l3 l4 l5 G Q) : Tg W0 (vX13_membersOf_174 j) [rf (16081), cI (l1), cI (l2), cI (l3), cI (l4), cI (l5), l6, l7] [] G (fun r G => r = 7 ∧ Q 0 G) := by
  unfold PX13_membersOf_174 at h
  unfold vX13_membersOf_174
  refine g_ld (v := cI _) rfl (is_I _) ?_
  refine g_ld (v := cI _) rfl (is_I _) ?_
  refine g_lt2 hl5 hl3 (fun b56 => ?_) (fun b56 => ?_)
  · replace h := h.1 b56
    unfold vX13_membersOf_180
    refine g_ld (v := cI _) rfl (is_I _) ?_
    refine g_const (v := cI (34)) rfl ?_
    refine g_mul ?_
    refine g_ld (v := cI _) rfl (is_I _) ?_
    refine g_add ?_
    refine g_st (lv' := [_, _, _, _, _, _, _, _]) (is_I _) (Nat.le_of_ble_eq_true rfl) (Or.inr (n1_I _)) rfl ?_
    obtain ⟨q57, h⟩ := h
    refine g_ld (v := rf _) rfl (is_R _) ?_
    refine g_getF (v := 16116) oC13 (hC13_42) rfl (Nat.le_of_ble_eq_true rfl) (Nat.le_of_ble_eq_true rfl) ?_
    refine g_ld (v := cI _) rfl (is_I _) ?_
    obtain ⟨q58, q59, h⟩ := h
    refine g_aldI aC16116 q58 q59 rfl fun i60 => ?_
    replace h := h i60
    refine g_ld (v := rf _) rfl (is_R _) ?_
    refine g_getF (v := 16116) oC13 (hC13_42) rfl (Nat.le_of_ble_eq_true rfl) (Nat.le_of_ble_eq_true rfl) ?_
    refine g_ld (v := cI _) rfl (is_I _) ?_
    obtain ⟨q61, q62, h⟩ := h
    refine g_aldI aC16116 q61 q62 rfl fun i63 => ?_
    replace h := h i63
    refine g_eq2 i60 i63 (fun b64 => ?_) (fun b64 => ?_)
    · replace h := h.1 b64
      unfold vX13_membersOf_206
      refine g_ld (v := rf _) rfl (is_R _) ?_
      refine g_getF (v := 16116) oC13 (hC13_42) rfl (Nat.le_of_ble_eq_true rfl) (Nat.le_of_ble_eq_true rfl) ?_
      refine g_ld (v := cI _) rfl (is_I _) ?_
      obtain ⟨q65, q66, h⟩ := h
      refine g_aldI aC16116 q65 q66 rfl fun i67 => ?_
      replace h := h i67
      refine g_eq1 i67 (fun b68 => ?_) (fun b68 => ?_)
      · replace h := h.1 b68
        unfold vX13_membersOf_216
        refine g_ld (v := rf _) rfl (is_R _) ?_
        refine g_getF (v := 16125) oC13 (hC13_51) rfl (Nat.le_of_ble_eq_true rfl) (Nat.le_of_ble_eq_true rfl) ?_
        refine g_ld (v := cI _) rfl (is_I _) ?_
        obtain ⟨q69, q70, h⟩ := h
        refine g_aldL aC16125 q69 q70 rfl fun i71 => ?_
        replace h := h i71
        refine g_ld (v := rf _) rfl (is_R _) ?_
        refine g_getF (v := 16125) oC13 (hC13_51) rfl (Nat.le_of_ble_eq_true rfl) (Nat.le_of_ble_eq_true rfl) ?_
        refine g_ld (v := cI _) rfl (is_I _) ?_
        obtain ⟨q72, q73, h⟩ := h
        refine g_aldL aC16125 q72 q73 rfl fun i74 => ?_
        replace h := h i74
        refine g_leq i71 i74 (fun b75 => ?_) (fun b75 => ?_)
        · replace h := h.1 b75
          unfold vX13_membersOf_234
          exact TX13_membersOf_277 hl1 hl2 hl3 hl4 hl5 q57 hl7 hj0 hj1 hj2 hj3 h
        · replace h := h.2 b75
          exact TX13_membersOf_281 hl1 hl2 hl3 hl4 hl5 q57 hl7 hj0 hj1 hj2 hj3 h
      · replace h := h.2 b68
        unfold vX13_membersOf_237
        refine g_ld (v := rf _) rfl (is_R _) ?_
        refine g_getF (v := 16116) oC13 (hC13_42) rfl (Nat.le_of_ble_eq_true rfl) (Nat.le_of_ble_eq_true rfl) ?_
        refine g_ld (v := cI _) rfl (is_I _) ?_
        obtain ⟨q76, q77, h⟩ := h
        refine g_aldI aC16116 q76 q77 rfl fun i78 => ?_
        replace h := h i78
        refine g_const (v := cI (3)) rfl ?_
        refine g_eq2 i78 ⟨by omega, by omega⟩ (fun b79 => ?_) (fun b79 => ?_)
        · replace h := h.1 b79
          exact TX13_membersOf_281 hl1 hl2 hl3 hl4 hl5 q57 hl7 hj0 hj1 hj2 hj3 h
        · replace h := h.2 b79
          unfold vX13_membersOf_248
          refine g_ld (v := rf _) rfl (is_R _) ?_
          refine g_getF (v := 16125) oC13 (hC13_51) rfl (Nat.le_of_ble_eq_true rfl) (Nat.le_of_ble_eq_true rfl) ?_
          refine g_ld (v := cI _) rfl (is_I _) ?_
          obtain ⟨q80, q81, h⟩ := h
          refine g_aldL aC16125 q80 q81 rfl fun i82 => ?_
          replace h := h i82
          refine g_ld (v := rf _) rfl (is_R _) ?_
          refine g_getF (v := 16125) oC13 (hC13_51) rfl (Nat.le_of_ble_eq_true rfl) (Nat.le_of_ble_eq_true rfl) ?_
          refine g_ld (v := cI _) rfl (is_I _) ?_
          obtain ⟨q83, q84, h⟩ := h
          refine g_aldL aC16125 q83 q84 rfl fun i85 => ?_
          replace h := h i85
          refine g_leq i82 i85 (fun b86 => ?_) (fun b86 => ?_)
          · replace h := h.1 b86
            unfold vX13_membersOf_266
            refine g_ld (v := rf _) rfl (is_R _) ?_
            refine g_ld (v := cI _) rfl (is_I _) ?_
            refine g_ld (v := cI _) rfl (is_I _) ?_
            refine g_callV (As := [_, _]) (ci := 13) oC13 (fun _ => rfl) ?_
            refine g_go1 (Nat.le_of_ble_eq_true rfl) (Tn_w (TX13_sameParams q57 hl4 h) fun _ G87 ⟨r88, e, i89, h⟩ => ?_)
            subst e
            refine ⟨n7_I _, ?_⟩
            replace h := h i89
            refine g_eq1 ⟨by omega, by omega⟩ (fun b90 => ?_) (fun b90 => ?_)
            · replace h := h.1 b90
              exact TX13_membersOf_281 hl1 hl2 hl3 hl4 hl5 q57 hl7 hj0 hj1 hj2 hj3 h
            · replace h := h.2 b90
              exact TX13_membersOf_277 hl1 hl2 hl3 hl4 hl5 q57 hl7 hj0 hj1 hj2 hj3 h
          · replace h := h.2 b86
            exact TX13_membersOf_281 hl1 hl2 hl3 hl4 hl5 q57 hl7 hj0 hj1 hj2 hj3 h
    · replace h := h.2 b64
      exact TX13_membersOf_281 hl1 hl2 hl3 hl4 hl5 q57 hl7 hj0 hj1 hj2 hj3 h
  · replace h := h.2 b56
    unfold vX13_membersOf_308
    refine g_inc (lv' := [_, _, _, _, _, _, _, _]) rfl (Nat.le_of_ble_eq_true rfl) (Or.inr (n1_I _)) rfl ?_
    obtain ⟨q91, h⟩ := h
    exact hj1 _ _ _ _ _ _ _ _ hl1 hl2 q91 (n1_I _) (n1_I _) hl6 hl7 h
def PX13_membersOf_124 (J : Nat → List Int → gS → (Int → gS → Prop) → Prop) (l1 : Int) (l2 : Int) (l3 : Int) (l4 : Int) (l5 : Int) (G : gS) (Q : Int → gS → Prop) : Prop :=
  ((0 : Int) ≤ l4 ∧ ((l4 : Int) < 7344 ∧ (inI (G 16129 l4) → ((l5 < G 16129 l4 → ((0 : Int) ≤ (4 * l4) + l5 ∧ (((4 * l4) + l5 : Int) < 29376 ∧ (inL (G 16130 ((4 * l4) + l5)) → ((0 : Int) ≤ (4 * l4) + l5 ∧ (((4 * l4) + l5 : Int) < 29376 ∧ (inI (G 16131 ((4 * l4) + l5)) → PX13_type (G 16130 ((4 * l4) + l5)) (G 16131 ((4 * l4) + l5)) l2 G (fun _ G53 => (inI (l5 + 1) ∧ J 2 [l1, l2, l3, l4, l5 + 1] G53 Q))))))))) ∧ (¬ (l5 < G 16129 l4) → PX13_membersOf_174 J l1 l2 l3 l4 0 G Q)))))
set_option maxRecDepth 20000 in
theorem TX13_membersOf_124 {j : Nat → rx_K} {J : Nat → List Int → gS → (Int → gS → Prop) → Prop} {l1 : Int} {l2 : Int} {l3 : Int} {l4 : Int} {l5 : Int} {l6 : Nat} {l7 : Nat} {G : gS} {Q : Int → gS → Prop} (hl1 : inI l1) (hl2 : inI l2) (hl3 : inI l3) (hl4 : inI l4) (hl5 : inI l5) (hl6 : l6 % 8 ≠ 1) (hl7 : l7 % 8 ≠ 1) (hj0 : ∀ (l1 : Int) (l2 : Nat) (l3 : Nat) (l4 : Nat) (l5 : Nat) (l6 : Nat) (l7 : Nat) (G : gS), (inI l1) → (l2 % 8 ≠ 1) → (l3 % 8 ≠ 1) → (l4 % 8 ≠ 1) → (l5 % 8 ≠ 1) → (l6 % 8 ≠ 1) → (l7 % 8 ≠ 1) → J 0 [l1] G Q → Tg W0 (j 0) [rf (16081), cI (l1), l2, l3, l4, l5, l6, l7] [] G (fun r G => r = 7 ∧ Q 0 G)) (hj1 : ∀ (l1 : Int) (l2 : Int) (l3 : Int) (l4 : Nat) (l5 : Nat) (l6 : Nat) (l7 : Nat) (G : gS), (inI l1) → (inI l2) → (inI l3) → (l4 % 8 ≠ 1) → (l5 % 8 ≠ 1) → (l6 % 8 ≠ 1) → (l7 % 8 ≠ 1) → J 1 [l1, l2, l3] G Q → Tg W0 (j 1) [rf (16081), cI (l1), cI (l2), cI (l3), l4, l5, l6, l7] [] G (fun r G => r = 7 ∧ Q 0 G)) (hj2 : ∀ (l1 : Int) (l2 : Int) (l3 : Int) (l4 : Int) (l5 : Int) (l6 : Nat) (l7 : Nat) (G : gS), (inI l1) → (inI l2) → (inI l3) → (inI l4) → (inI l5) → (l6 % 8 ≠ 1) → (l7 % 8 ≠ 1) → J 2 [l1, l2, l3, l4, l5] G Q → Tg W0 (j 2) [rf (16081), cI (l1), cI (l2), cI (l3), cI (l4), cI (l5), l6, l7] [] G (fun r G => r = 7 ∧ Q 0 G)) (hj3 : ∀ (l1 : Int) (l2 : Int) (l3 : Int) (l4 : Int) (l5 : Int) (l6 : Nat) (l7 : Nat) (G : gS), (inI l1) → (inI l2) → (inI l3) → (inI l4) → (inI l5) → (l6 % 8 ≠ 1) → (l7 % 8 ≠ 1) → J 3 [l1, l2, l3, l4, l5] G Q → Tg W0 (j 3) [rf (16081), cI (l1), cI (l2), cI (l3), cI (l4), cI (l5), l6, l7] [] G (fun r G => r = 7 ∧ Q 0 G)) (h : PX13_membersOf_124 J l1 l2 l3 l4 l5 G Q) : Tg W0 (vX13_membersOf_124 j) [rf (16081), cI (l1), cI (l2), cI (l3), cI (l4), cI (l5), l6, l7] [] G (fun r G => r = 7 ∧ Q 0 G) := by
  unfold PX13_membersOf_124 at h
  unfold vX13_membersOf_124
  refine g_ld (v := cI _) rfl (is_I _) ?_
  refine g_ld (v := rf _) rfl (is_R _) ?_
  refine g_getF (v := 16129) oC13 (hC13_55) rfl (Nat.le_of_ble_eq_true rfl) (Nat.le_of_ble_eq_true rfl) ?_
  refine g_ld (v := cI _) rfl (is_I _) ?_
  obtain ⟨q43, q44, h⟩ := h
  refine g_aldI aC16129 q43 q44 rfl fun i45 => ?_
  replace h := h i45
  refine g_lt2 hl5 i45 (fun b46 => ?_) (fun b46 => ?_)
  · replace h := h.1 b46
    unfold vX13_membersOf_136
    refine g_ld (v := rf _) rfl (is_R _) ?_
    refine g_ld (v := rf _) rfl (is_R _) ?_
    refine g_getF (v := 16130) oC13 (hC13_56) rfl (Nat.le_of_ble_eq_true rfl) (Nat.le_of_ble_eq_true rfl) ?_
    refine g_const (v := cI (4)) rfl ?_
    refine g_ld (v := cI _) rfl (is_I _) ?_
    refine g_mul ?_
    refine g_ld (v := cI _) rfl (is_I _) ?_
    refine g_add ?_
    obtain ⟨q47, q48, h⟩ := h
    refine g_aldL aC16130 q47 q48 rfl fun i49 => ?_
    replace h := h i49
    refine g_ld (v := rf _) rfl (is_R _) ?_
    refine g_getF (v := 16131) oC13 (hC13_57) rfl (Nat.le_of_ble_eq_true rfl) (Nat.le_of_ble_eq_true rfl) ?_
    refine g_const (v := cI (4)) rfl ?_
    refine g_ld (v := cI _) rfl (is_I _) ?_
    refine g_mul ?_
    refine g_ld (v := cI _) rfl (is_I _) ?_
    refine g_add ?_
    obtain ⟨q50, q51, h⟩ := h
    refine g_aldI aC16131 q50 q51 rfl fun i52 => ?_
    replace h := h i52
    refine g_ld (v := cI _) rfl (is_I _) ?_
    refine g_callV (As := [_, _, _]) (ci := 13) oC13 (fun _ => rfl) ?_
    refine g_go0 (Nat.le_of_ble_eq_true rfl) (Tn_w (TX13_type i49 i52 hl2 h) fun _ G53 ⟨e, h⟩ => ⟨e, ?_⟩)
    refine g_inc (lv' := [_, _, _, _, _, _, _, _]) rfl (Nat.le_of_ble_eq_true rfl) (Or.inr (n1_I _)) rfl ?_
    obtain ⟨q55, h⟩ := h
    exact hj2 _ _ _ _ _ _ _ _ hl1 hl2 hl3 hl4 q55 hl6 hl7 h
  · replace h := h.2 b46
    unfold vX13_membersOf_171
    refine g_const (v := cI (0)) rfl ?_
    refine g_st (lv' := [_, _, _, _, _, _, _, _]) (is_I _) (Nat.le_of_ble_eq_true rfl) (Or.inr (n1_I _)) rfl ?_
    exact TX13_membersOf_174 hl1 hl2 hl3 hl4 ⟨by omega, by omega⟩ hl6 hl7 hj0 hj1 hj2 hj3 h
def PX13_membersOf_102 (J : Nat → List Int → gS → (Int → gS → Prop) → Prop) (l1 : Int) (l2 : Int) (l3 : Int) (l4 : Int) (G : gS) (Q : Int → gS → Prop) : Prop :=
  ((0 : Int) ≤ l4 ∧ ((l4 : Int) < 7344 ∧ (inL (G 16127 l4) → ((0 : Int) ≤ l4 ∧ ((l4 : Int) < 7344 ∧ (inI (G 16128 l4) → PX13_type (G 16127 l4) (G 16128 l4) l2 G (fun _ G35 => PX13_membersOf_124 J l1 l2 l3 l4 0 G35 Q)))))))
set_option maxRecDepth 20000 in
theorem TX13_membersOf_102 {j : Nat → rx_K} {J : Nat → List Int → gS → (Int → gS → Prop) → Prop} {l1 : Int} {l2 : Int} {l3 : Int} {l4 : Int} {l5 : Nat} {l6 : Nat} {l7 : Nat} {G : gS} {Q : Int → gS → Prop} (hl1 : inI l1) (hl2 : inI l2) (hl3 : inI l3) (hl4 : inI l4) (hl5 : l5 % 8 ≠ 1) (hl6 : l6 % 8 ≠ 1) (hl7 : l7 % 8 ≠ 1) (hj0 : ∀ (l1 : Int) (l2 : Nat) (l3 : Nat) (l4 : Nat) (l5 : Nat) (l6 : Nat) (l7 : Nat) (G : gS), (inI l1) → (l2 % 8 ≠ 1) → (l3 % 8 ≠ 1) → (l4 % 8 ≠ 1) → (l5 % 8 ≠ 1) → (l6 % 8 ≠ 1) → (l7 % 8 ≠ 1) → J 0 [l1] G Q → Tg W0 (j 0) [rf (16081), cI (l1), l2, l3, l4, l5, l6, l7] [] G (fun r G => r = 7 ∧ Q 0 G)) (hj1 : ∀ (l1 : Int) (l2 : Int) (l3 : Int) (l4 : Nat) (l5 : Nat) (l6 : Nat) (l7 : Nat) (G : gS), (inI l1) → (inI l2) → (inI l3) → (l4 % 8 ≠ 1) → (l5 % 8 ≠ 1) → (l6 % 8 ≠ 1) → (l7 % 8 ≠ 1) → J 1 [l1, l2, l3] G Q → Tg W0 (j 1) [rf (16081), cI (l1), cI (l2), cI (l3), l4, l5, l6, l7] [] G (fun r G => r = 7 ∧ Q 0 G)) (hj2 : ∀ (l1 : Int) (l2 : Int) (l3 : Int) (l4 : Int) (l5 : Int) (l6 : Nat) (l7 : Nat) (G : gS), (inI l1) → (inI l2) → (inI l3) → (inI l4) → (inI l5) → (l6 % 8 ≠ 1) → (l7 % 8 ≠ 1) → J 2 [l1, l2, l3, l4, l5] G Q → Tg W0 (j 2) [rf (16081), cI (l1), cI (l2), cI (l3), cI (l4), cI (l5), l6, l7] [] G (fun r G => r = 7 ∧ Q 0 G)) (hj3 : ∀ (l1 : Int) (l2 : Int) (l3 : Int) (l4 : Int) (l5 : Int) (l6 : Nat) (l7 : Nat) (G : gS), (inI l1) → (inI l2) → (inI l3) → (inI l4) → (inI l5) → (l6 % 8 ≠ 1) → (l7 % 8 ≠ 1) → J 3 [l1, l2, l3, l4, l5] G Q → Tg W0 (j 3) [rf (16081), cI (l1), cI (l2), cI (l3), cI (l4), cI (l5), l6, l7] [] G (fun r G => r = 7 ∧ Q 0 G)) (h : PX13_membersOf_102 J l1 l2 l3 l4 G Q) : Tg W0 (vX13_membersOf_102 j) [rf (16081), cI (l1), cI (l2), cI (l3), cI (l4), l5, l6, l7] [] G (fun r G => r = 7 ∧ Q 0 G) := by
  unfold PX13_membersOf_102 at h
  unfold vX13_membersOf_102
  refine g_ld (v := rf _) rfl (is_R _) ?_
  refine g_ld (v := rf _) rfl (is_R _) ?_
  refine g_getF (v := 16127) oC13 (hC13_53) rfl (Nat.le_of_ble_eq_true rfl) (Nat.le_of_ble_eq_true rfl) ?_
  refine g_ld (v := cI _) rfl (is_I _) ?_
  obtain ⟨q29, q30, h⟩ := h
  refine g_aldL aC16127 q29 q30 rfl fun i31 => ?_
  replace h := h i31
  refine g_ld (v := rf _) rfl (is_R _) ?_
  refine g_getF (v := 16128) oC13 (hC13_54) rfl (Nat.le_of_ble_eq_true rfl) (Nat.le_of_ble_eq_true rfl) ?_
  refine g_ld (v := cI _) rfl (is_I _) ?_
  obtain ⟨q32, q33, h⟩ := h
  refine g_aldI aC16128 q32 q33 rfl fun i34 => ?_
  replace h := h i34
  refine g_ld (v := cI _) rfl (is_I _) ?_
  refine g_callV (As := [_, _, _]) (ci := 13) oC13 (fun _ => rfl) ?_
  refine g_go0 (Nat.le_of_ble_eq_true rfl) (Tn_w (TX13_type i31 i34 hl2 h) fun _ G35 ⟨e, h⟩ => ⟨e, ?_⟩)
  refine g_const (v := cI (0)) rfl ?_
  refine g_st (lv' := [_, _, _, _, _, _, _, _]) (is_I _) (Nat.le_of_ble_eq_true rfl) (Or.inr (n1_I _)) rfl ?_
  exact TX13_membersOf_124 hl1 hl2 hl3 hl4 ⟨by omega, by omega⟩ hl6 hl7 hj0 hj1 hj2 hj3 h
def PX13_membersOf_89 (J : Nat → List Int → gS → (Int → gS → Prop) → Prop) (l1 : Int) (l2 : Int) (l3 : Int) (l4 : Int) (G : gS) (Q : Int → gS → Prop) : Prop :=
  ((0 : Int) ≤ l4 ∧ ((l4 : Int) < 7344 ∧ (inI (G 16126 l4) → PX13_fault 8 (G 16126 l4) G (fun _ G40 => PX13_membersOf_102 J l1 l2 l3 l4 G40 Q))))
set_option maxRecDepth 20000 in
theorem TX13_membersOf_89 {j : Nat → rx_K} {J : Nat → List Int → gS → (Int → gS → Prop) → Prop} {l1 : Int} {l2 : Int} {l3 : Int} {l4 : Int} {l5 : Nat} {l6 : Nat} {l7 : Nat} {G : gS} {Q : Int → gS → Prop} (hl1 : inI l1) (hl2 : inI l2) (hl3 : inI l3) (hl4 : inI l4) (hl5 : l5 % 8 ≠ 1) (hl6 : l6 % 8 ≠ 1) (hl7 : l7 % 8 ≠ 1) (hj0 : ∀ (l1 : Int) (l2 : Nat) (l3 : Nat) (l4 : Nat) (l5 : Nat) (l6 : Nat) (l7 : Nat) (G : gS), (inI l1) → (l2 % 8 ≠ 1) → (l3 % 8 ≠ 1) → (l4 % 8 ≠ 1) → (l5 % 8 ≠ 1) → (l6 % 8 ≠ 1) → (l7 % 8 ≠ 1) → J 0 [l1] G Q → Tg W0 (j 0) [rf (16081), cI (l1), l2, l3, l4, l5, l6, l7] [] G (fun r G => r = 7 ∧ Q 0 G)) (hj1 : ∀ (l1 : Int) (l2 : Int) (l3 : Int) (l4 : Nat) (l5 : Nat) (l6 : Nat) (l7 : Nat) (G : gS), (inI l1) → (inI l2) → (inI l3) → (l4 % 8 ≠ 1) → (l5 % 8 ≠ 1) → (l6 % 8 ≠ 1) → (l7 % 8 ≠ 1) → J 1 [l1, l2, l3] G Q → Tg W0 (j 1) [rf (16081), cI (l1), cI (l2), cI (l3), l4, l5, l6, l7] [] G (fun r G => r = 7 ∧ Q 0 G)) (hj2 : ∀ (l1 : Int) (l2 : Int) (l3 : Int) (l4 : Int) (l5 : Int) (l6 : Nat) (l7 : Nat) (G : gS), (inI l1) → (inI l2) → (inI l3) → (inI l4) → (inI l5) → (l6 % 8 ≠ 1) → (l7 % 8 ≠ 1) → J 2 [l1, l2, l3, l4, l5] G Q → Tg W0 (j 2) [rf (16081), cI (l1), cI (l2), cI (l3), cI (l4), cI (l5), l6, l7] [] G (fun r G => r = 7 ∧ Q 0 G)) (hj3 : ∀ (l1 : Int) (l2 : Int) (l3 : Int) (l4 : Int) (l5 : Int) (l6 : Nat) (l7 : Nat) (G : gS), (inI l1) → (inI l2) → (inI l3) → (inI l4) → (inI l5) → (l6 % 8 ≠ 1) → (l7 % 8 ≠ 1) → J 3 [l1, l2, l3, l4, l5] G Q → Tg W0 (j 3) [rf (16081), cI (l1), cI (l2), cI (l3), cI (l4), cI (l5), l6, l7] [] G (fun r G => r = 7 ∧ Q 0 G)) (h : PX13_membersOf_89 J l1 l2 l3 l4 G Q) : Tg W0 (vX13_membersOf_89 j) [rf (16081), cI (l1), cI (l2), cI (l3), cI (l4), l5, l6, l7] [] G (fun r G => r = 7 ∧ Q 0 G) := by
  unfold PX13_membersOf_89 at h
  unfold vX13_membersOf_89
  refine g_ld (v := rf _) rfl (is_R _) ?_
  refine g_const (v := cI (8)) rfl ?_
  refine g_ld (v := rf _) rfl (is_R _) ?_
  refine g_getF (v := 16126) oC13 (hC13_52) rfl (Nat.le_of_ble_eq_true rfl) (Nat.le_of_ble_eq_true rfl) ?_
  refine g_ld (v := cI _) rfl (is_I _) ?_
  obtain ⟨q37, q38, h⟩ := h
  refine g_aldI aC16126 q37 q38 rfl fun i39 => ?_
  replace h := h i39
  refine g_callV (As := [_, _]) (ci := 13) oC13 (fun _ => rfl) ?_
  refine g_go0 (Nat.le_of_ble_eq_true rfl) (Tn_w (TX13_fault ⟨by omega, by omega⟩ i39 h) fun _ G40 ⟨e, h⟩ => ⟨e, ?_⟩)
  exact TX13_membersOf_102 hl1 hl2 hl3 hl4 hl5 hl6 hl7 hj0 hj1 hj2 hj3 h
def PX13_membersOf_34 (J : Nat → List Int → gS → (Int → gS → Prop) → Prop) (l1 : Int) (l2 : Int) (l3 : Int) (G : gS) (Q : Int → gS → Prop) : Prop :=
  ((0 : Int) ≤ l2 ∧ ((l2 : Int) < 216 ∧ (inI (G 16115 l2) → ((l3 < G 16115 l2 → (inI (G 16081 20) → ((G 16081 20 = 0 → (inI ((l2 * 34) + l3) ∧ PX13_isFace l2 G (fun r18 G17 => (0 ≤ r18 ∧ r18 ≤ 1) → ((r18 = 0 → PX13_isWrongInClass l2 ((l2 * 34) + l3) G17 (fun r22 G21 => (0 ≤ r22 ∧ r22 ≤ 1) → ((r22 = 0 → PX13_membersOf_102 J l1 l2 l3 ((l2 * 34) + l3) G21 Q) ∧ (¬ (r22 = 0) → PX13_membersOf_89 J l1 l2 l3 ((l2 * 34) + l3) G21 Q)))) ∧ (¬ (r18 = 0) → PX13_isWrongInFace ((l2 * 34) + l3) G17 (fun r26 G25 => (0 ≤ r26 ∧ r26 ≤ 1) → ((r26 = 0 → PX13_membersOf_102 J l1 l2 l3 ((l2 * 34) + l3) G25 Q) ∧ (¬ (r26 = 0) → PX13_membersOf_89 J l1 l2 l3 ((l2 * 34) + l3) G25 Q)))))))) ∧ (¬ (G 16081 20 = 0) → PX13_membersOf_314 J l1 l2 l3 G Q)))) ∧ (¬ (l3 < G 16115 l2) → PX13_membersOf_314 J l1 l2 l3 G Q)))))
set_option maxRecDepth 20000 in
theorem TX13_membersOf_34 {j : Nat → rx_K} {J : Nat → List Int → gS → (Int → gS → Prop) → Prop} {l1 : Int} {l2 : Int} {l3 : Int} {l4 : Nat} {l5 : Nat} {l6 : Nat} {l7 : Nat} {G : gS} {Q : Int → gS → Prop} (hl1 : inI l1) (hl2 : inI l2) (hl3 : inI l3) (hl4 : l4 % 8 ≠ 1) (hl5 : l5 % 8 ≠ 1) (hl6 : l6 % 8 ≠ 1) (hl7 : l7 % 8 ≠ 1) (hj0 : ∀ (l1 : Int) (l2 : Nat) (l3 : Nat) (l4 : Nat) (l5 : Nat) (l6 : Nat) (l7 : Nat) (G : gS), (inI l1) → (l2 % 8 ≠ 1) → (l3 % 8 ≠ 1) → (l4 % 8 ≠ 1) → (l5 % 8 ≠ 1) → (l6 % 8 ≠ 1) → (l7 % 8 ≠ 1) → J 0 [l1] G Q → Tg W0 (j 0) [rf (16081), cI (l1), l2, l3, l4, l5, l6, l7] [] G (fun r G => r = 7 ∧ Q 0 G)) (hj1 : ∀ (l1 : Int) (l2 : Int) (l3 : Int) (l4 : Nat) (l5 : Nat) (l6 : Nat) (l7 : Nat) (G : gS), (inI l1) → (inI l2) → (inI l3) → (l4 % 8 ≠ 1) → (l5 % 8 ≠ 1) → (l6 % 8 ≠ 1) → (l7 % 8 ≠ 1) → J 1 [l1, l2, l3] G Q → Tg W0 (j 1) [rf (16081), cI (l1), cI (l2), cI (l3), l4, l5, l6, l7] [] G (fun r G => r = 7 ∧ Q 0 G)) (hj2 : ∀ (l1 : Int) (l2 : Int) (l3 : Int) (l4 : Int) (l5 : Int) (l6 : Nat) (l7 : Nat) (G : gS), (inI l1) → (inI l2) → (inI l3) → (inI l4) → (inI l5) → (l6 % 8 ≠ 1) → (l7 % 8 ≠ 1) → J 2 [l1, l2, l3, l4, l5] G Q → Tg W0 (j 2) [rf (16081), cI (l1), cI (l2), cI (l3), cI (l4), cI (l5), l6, l7] [] G (fun r G => r = 7 ∧ Q 0 G)) (hj3 : ∀ (l1 : Int) (l2 : Int) (l3 : Int) (l4 : Int) (l5 : Int) (l6 : Nat) (l7 : Nat) (G : gS), (inI l1) → (inI l2) → (inI l3) → (inI l4) → (inI l5) → (l6 % 8 ≠ 1) → (l7 % 8 ≠ 1) → J 3 [l1, l2, l3, l4, l5] G Q → Tg W0 (j 3) [rf (16081), cI (l1), cI (l2), cI (l3), cI (l4), cI (l5), l6, l7] [] G (fun r G => r = 7 ∧ Q 0 G)) (h : PX13_membersOf_34 J l1 l2 l3 G Q) : Tg W0 (vX13_membersOf_34 j) [rf (16081), cI (l1), cI (l2), cI (l3), l4, l5, l6, l7] [] G (fun r G => r = 7 ∧ Q 0 G) := by
  unfold PX13_membersOf_34 at h
  unfold vX13_membersOf_34
  refine g_ld (v := cI _) rfl (is_I _) ?_
  refine g_ld (v := rf _) rfl (is_R _) ?_
  refine g_getF (v := 16115) oC13 (hC13_41) rfl (Nat.le_of_ble_eq_true rfl) (Nat.le_of_ble_eq_true rfl) ?_
  refine g_ld (v := cI _) rfl (is_I _) ?_
  obtain ⟨q10, q11, h⟩ := h
  refine g_aldI aC16115 q10 q11 rfl fun i12 => ?_
  replace h := h i12
  refine g_lt2 hl3 i12 (fun b13 => ?_) (fun b13 => ?_)
  · replace h := h.1 b13
    unfold vX13_membersOf_44
    refine g_ld (v := rf _) rfl (is_R _) ?_
    refine g_getI (kz := 20) oC13 rfl (Nat.le_of_ble_eq_true rfl) rfl fun i14 => ?_
    replace h := h i14
    refine g_eq1 i14 (fun b15 => ?_) (fun b15 => ?_)
    · replace h := h.1 b15
      unfold vX13_membersOf_51
      refine g_ld (v := cI _) rfl (is_I _) ?_
      refine g_const (v := cI (34)) rfl ?_
      refine g_mul ?_
      refine g_ld (v := cI _) rfl (is_I _) ?_
      refine g_add ?_
      refine g_st (lv' := [_, _, _, _, _, _, _, _]) (is_I _) (Nat.le_of_ble_eq_true rfl) (Or.inr (n1_I _)) rfl ?_
      obtain ⟨q16, h⟩ := h
      refine g_ld (v := rf _) rfl (is_R _) ?_
      refine g_ld (v := cI _) rfl (is_I _) ?_
      refine g_callV (As := [_]) (ci := 13) oC13 (fun _ => rfl) ?_
      refine g_go1 (Nat.le_of_ble_eq_true rfl) (Tn_w (TX13_isFace hl2 h) fun _ G17 ⟨r18, e, i19, h⟩ => ?_)
      subst e
      refine ⟨n7_I _, ?_⟩
      replace h := h i19
      refine g_eq1 ⟨by omega, by omega⟩ (fun b20 => ?_) (fun b20 => ?_)
      · replace h := h.1 b20
        unfold vX13_membersOf_79
        refine g_ld (v := rf _) rfl (is_R _) ?_
        refine g_ld (v := cI _) rfl (is_I _) ?_
        refine g_ld (v := cI _) rfl (is_I _) ?_
        refine g_callV (As := [_, _]) (ci := 13) oC13 (fun _ => rfl) ?_
        refine g_go1 (Nat.le_of_ble_eq_true rfl) (Tn_w (TX13_isWrongInClass hl2 q16 h) fun _ G21 ⟨r22, e, i23, h⟩ => ?_)
        subst e
        refine ⟨n7_I _, ?_⟩
        replace h := h i23
        refine g_eq1 ⟨by omega, by omega⟩ (fun b24 => ?_) (fun b24 => ?_)
        · replace h := h.1 b24
          exact TX13_membersOf_102 hl1 hl2 hl3 q16 hl5 hl6 hl7 hj0 hj1 hj2 hj3 h
        · replace h := h.2 b24
          exact TX13_membersOf_89 hl1 hl2 hl3 q16 hl5 hl6 hl7 hj0 hj1 hj2 hj3 h
      · replace h := h.2 b20
        unfold vX13_membersOf_67
        refine g_ld (v := rf _) rfl (is_R _) ?_
        refine g_ld (v := cI _) rfl (is_I _) ?_
        refine g_callV (As := [_]) (ci := 13) oC13 (fun _ => rfl) ?_
        refine g_go1 (Nat.le_of_ble_eq_true rfl) (Tn_w (TX13_isWrongInFace q16 h) fun _ G25 ⟨r26, e, i27, h⟩ => ?_)
        subst e
        refine ⟨n7_I _, ?_⟩
        replace h := h i27
        refine g_eq1 ⟨by omega, by omega⟩ (fun b28 => ?_) (fun b28 => ?_)
        · replace h := h.1 b28
          exact TX13_membersOf_102 hl1 hl2 hl3 q16 hl5 hl6 hl7 hj0 hj1 hj2 hj3 h
        · replace h := h.2 b28
          unfold vX13_membersOf_76
          exact TX13_membersOf_89 hl1 hl2 hl3 q16 hl5 hl6 hl7 hj0 hj1 hj2 hj3 h
    · replace h := h.2 b15
      exact TX13_membersOf_314 hl1 hl2 hl3 hl4 hl5 hl6 hl7 hj0 hj1 hj2 hj3 h
  · replace h := h.2 b13
    exact TX13_membersOf_314 hl1 hl2 hl3 hl4 hl5 hl6 hl7 hj0 hj1 hj2 hj3 h
def PX13_membersOf_2 (J : Nat → List Int → gS → (Int → gS → Prop) → Prop) (l1 : Int) (G : gS) (Q : Int → gS → Prop) : Prop :=
  (inI (G 16081 19) → ((0 : Int) ≤ G 16081 19 ∧ ((G 16081 19 : Int) < 18 ∧ (inI (G 16097 (G 16081 19)) → ((l1 < G 16097 (G 16081 19) → (inI (G 16081 20) → ((G 16081 20 = 0 → (inI (G 16081 19) → (inI (((G 16081 19) * 12) + l1) ∧ PX13_membersOf_34 J l1 (((G 16081 19) * 12) + l1) 0 G Q))) ∧ (¬ (G 16081 20 = 0) → PX13_membersOf_320 J l1 G Q)))) ∧ (¬ (l1 < G 16097 (G 16081 19)) → PX13_membersOf_320 J l1 G Q))))))
set_option maxRecDepth 20000 in
theorem TX13_membersOf_2 {j : Nat → rx_K} {J : Nat → List Int → gS → (Int → gS → Prop) → Prop} {l1 : Int} {l2 : Nat} {l3 : Nat} {l4 : Nat} {l5 : Nat} {l6 : Nat} {l7 : Nat} {G : gS} {Q : Int → gS → Prop} (hl1 : inI l1) (hl2 : l2 % 8 ≠ 1) (hl3 : l3 % 8 ≠ 1) (hl4 : l4 % 8 ≠ 1) (hl5 : l5 % 8 ≠ 1) (hl6 : l6 % 8 ≠ 1) (hl7 : l7 % 8 ≠ 1) (hj0 : ∀ (l1 : Int) (l2 : Nat) (l3 : Nat) (l4 : Nat) (l5 : Nat) (l6 : Nat) (l7 : Nat) (G : gS), (inI l1) → (l2 % 8 ≠ 1) → (l3 % 8 ≠ 1) → (l4 % 8 ≠ 1) → (l5 % 8 ≠ 1) → (l6 % 8 ≠ 1) → (l7 % 8 ≠ 1) → J 0 [l1] G Q → Tg W0 (j 0) [rf (16081), cI (l1), l2, l3, l4, l5, l6, l7] [] G (fun r G => r = 7 ∧ Q 0 G)) (hj1 : ∀ (l1 : Int) (l2 : Int) (l3 : Int) (l4 : Nat) (l5 : Nat) (l6 : Nat) (l7 : Nat) (G : gS), (inI l1) → (inI l2) → (inI l3) → (l4 % 8 ≠ 1) → (l5 % 8 ≠ 1) → (l6 % 8 ≠ 1) → (l7 % 8 ≠ 1) → J 1 [l1, l2, l3] G Q → Tg W0 (j 1) [rf (16081), cI (l1), cI (l2), cI (l3), l4, l5, l6, l7] [] G (fun r G => r = 7 ∧ Q 0 G)) (hj2 : ∀ (l1 : Int) (l2 : Int) (l3 : Int) (l4 : Int) (l5 : Int) (l6 : Nat) (l7 : Nat) (G : gS), (inI l1) → (inI l2) → (inI l3) → (inI l4) → (inI l5) → (l6 % 8 ≠ 1) → (l7 % 8 ≠ 1) → J 2 [l1, l2, l3, l4, l5] G Q → Tg W0 (j 2) [rf (16081), cI (l1), cI (l2), cI (l3), cI (l4), cI (l5), l6, l7] [] G (fun r G => r = 7 ∧ Q 0 G)) (hj3 : ∀ (l1 : Int) (l2 : Int) (l3 : Int) (l4 : Int) (l5 : Int) (l6 : Nat) (l7 : Nat) (G : gS), (inI l1) → (inI l2) → (inI l3) → (inI l4) → (inI l5) → (l6 % 8 ≠ 1) → (l7 % 8 ≠ 1) → J 3 [l1, l2, l3, l4, l5] G Q → Tg W0 (j 3) [rf (16081), cI (l1), cI (l2), cI (l3), cI (l4), cI (l5), l6, l7] [] G (fun r G => r = 7 ∧ Q 0 G)) (h : PX13_membersOf_2 J l1 G Q) : Tg W0 (vX13_membersOf_2 j) [rf (16081), cI (l1), l2, l3, l4, l5, l6, l7] [] G (fun r G => r = 7 ∧ Q 0 G) := by
  unfold PX13_membersOf_2 at h
  unfold vX13_membersOf_2
  refine g_ld (v := cI _) rfl (is_I _) ?_
  refine g_ld (v := rf _) rfl (is_R _) ?_
  refine g_getF (v := 16097) oC13 (hC13_23) rfl (Nat.le_of_ble_eq_true rfl) (Nat.le_of_ble_eq_true rfl) ?_
  refine g_ld (v := rf _) rfl (is_R _) ?_
  refine g_getI (kz := 19) oC13 rfl (Nat.le_of_ble_eq_true rfl) rfl fun i1 => ?_
  replace h := h i1
  obtain ⟨q2, q3, h⟩ := h
  refine g_aldI aC16097 q2 q3 rfl fun i4 => ?_
  replace h := h i4
  refine g_lt2 hl1 i4 (fun b5 => ?_) (fun b5 => ?_)
  · replace h := h.1 b5
    unfold vX13_membersOf_15
    refine g_ld (v := rf _) rfl (is_R _) ?_
    refine g_getI (kz := 20) oC13 rfl (Nat.le_of_ble_eq_true rfl) rfl fun i6 => ?_
    replace h := h i6
    refine g_eq1 i6 (fun b7 => ?_) (fun b7 => ?_)
    · replace h := h.1 b7
      unfold vX13_membersOf_22
      refine g_ld (v := rf _) rfl (is_R _) ?_
      refine g_getI (kz := 19) oC13 rfl (Nat.le_of_ble_eq_true rfl) rfl fun i8 => ?_
      replace h := h i8
      refine g_const (v := cI (12)) rfl ?_
      refine g_mul ?_
      refine g_ld (v := cI _) rfl (is_I _) ?_
      refine g_add ?_
      refine g_st (lv' := [_, _, _, _, _, _, _, _]) (is_I _) (Nat.le_of_ble_eq_true rfl) (Or.inr (n1_I _)) rfl ?_
      obtain ⟨q9, h⟩ := h
      refine g_const (v := cI (0)) rfl ?_
      refine g_st (lv' := [_, _, _, _, _, _, _, _]) (is_I _) (Nat.le_of_ble_eq_true rfl) (Or.inr (n1_I _)) rfl ?_
      exact TX13_membersOf_34 hl1 q9 ⟨by omega, by omega⟩ hl4 hl5 hl6 hl7 hj0 hj1 hj2 hj3 h
    · replace h := h.2 b7
      exact TX13_membersOf_320 hl1 hl2 hl3 hl4 hl5 hl6 hl7 hj0 hj1 hj2 hj3 h
  · replace h := h.2 b5
    exact TX13_membersOf_320 hl1 hl2 hl3 hl4 hl5 hl6 hl7 hj0 hj1 hj2 hj3 h
def PX13_membersOf_0 (J : Nat → List Int → gS → (Int → gS → Prop) → Prop)  (G : gS) (Q : Int → gS → Prop) : Prop :=
  PX13_membersOf_2 J 0 G Q
set_option maxRecDepth 20000 in
theorem TX13_membersOf_0 {j : Nat → rx_K} {J : Nat → List Int → gS → (Int → gS → Prop) → Prop}  {G : gS} {Q : Int → gS → Prop}  (hj0 : ∀ (l1 : Int) (l2 : Nat) (l3 : Nat) (l4 : Nat) (l5 : Nat) (l6 : Nat) (l7 : Nat) (G : gS), (inI l1) → (l2 % 8 ≠ 1) → (l3 % 8 ≠ 1) → (l4 % 8 ≠ 1) → (l5 % 8 ≠ 1) → (l6 % 8 ≠ 1) → (l7 % 8 ≠ 1) → J 0 [l1] G Q → Tg W0 (j 0) [rf (16081), cI (l1), l2, l3, l4, l5, l6, l7] [] G (fun r G => r = 7 ∧ Q 0 G)) (hj1 : ∀ (l1 : Int) (l2 : Int) (l3 : Int) (l4 : Nat) (l5 : Nat) (l6 : Nat) (l7 : Nat) (G : gS), (inI l1) → (inI l2) → (inI l3) → (l4 % 8 ≠ 1) → (l5 % 8 ≠ 1) → (l6 % 8 ≠ 1) → (l7 % 8 ≠ 1) → J 1 [l1, l2, l3] G Q → Tg W0 (j 1) [rf (16081), cI (l1), cI (l2), cI (l3), l4, l5, l6, l7] [] G (fun r G => r = 7 ∧ Q 0 G)) (hj2 : ∀ (l1 : Int) (l2 : Int) (l3 : Int) (l4 : Int) (l5 : Int) (l6 : Nat) (l7 : Nat) (G : gS), (inI l1) → (inI l2) → (inI l3) → (inI l4) → (inI l5) → (l6 % 8 ≠ 1) → (l7 % 8 ≠ 1) → J 2 [l1, l2, l3, l4, l5] G Q → Tg W0 (j 2) [rf (16081), cI (l1), cI (l2), cI (l3), cI (l4), cI (l5), l6, l7] [] G (fun r G => r = 7 ∧ Q 0 G)) (hj3 : ∀ (l1 : Int) (l2 : Int) (l3 : Int) (l4 : Int) (l5 : Int) (l6 : Nat) (l7 : Nat) (G : gS), (inI l1) → (inI l2) → (inI l3) → (inI l4) → (inI l5) → (l6 % 8 ≠ 1) → (l7 % 8 ≠ 1) → J 3 [l1, l2, l3, l4, l5] G Q → Tg W0 (j 3) [rf (16081), cI (l1), cI (l2), cI (l3), cI (l4), cI (l5), l6, l7] [] G (fun r G => r = 7 ∧ Q 0 G)) (h : PX13_membersOf_0 J  G Q) : Tg W0 (vX13_membersOf_0 j) [rf (16081), 7, 7, 7, 7, 7, 7, 7] [] G (fun r G => r = 7 ∧ Q 0 G) := by
  unfold PX13_membersOf_0 at h
  unfold vX13_membersOf_0
  refine g_const (v := cI (0)) rfl ?_
  refine g_st (lv' := [_, _, _, _, _, _, _, _]) (is_I _) (Nat.le_of_ble_eq_true rfl) (Or.inr (n1_R _)) rfl ?_
  exact TX13_membersOf_2 ⟨by omega, by omega⟩ (show 7 % 8 ≠ 1 by decide) (show 7 % 8 ≠ 1 by decide) (show 7 % 8 ≠ 1 by decide) (show 7 % 8 ≠ 1 by decide) (show 7 % 8 ≠ 1 by decide) (show 7 % 8 ≠ 1 by decide) hj0 hj1 hj2 hj3 h
def PX13_membersOf_J : Nat → Nat → List Int → gS → (Int → gS → Prop) → Prop
  | 0, _, _, _, _ => False
  | f + 1, h, L, G, Q => match h, L with
    | 0, [l1] => PX13_membersOf_2 (PX13_membersOf_J f) l1 G Q
    | 1, [l1, l2, l3] => PX13_membersOf_34 (PX13_membersOf_J f) l1 l2 l3 G Q
    | 2, [l1, l2, l3, l4, l5] => PX13_membersOf_124 (PX13_membersOf_J f) l1 l2 l3 l4 l5 G Q
    | 3, [l1, l2, l3, l4, l5] => PX13_membersOf_174 (PX13_membersOf_J f) l1 l2 l3 l4 l5 G Q
    | _, _ => False
theorem TX13_membersOf_J {Q : Int → gS → Prop} : ∀ f N : Nat, f ≤ N → (∀ (l1 : Int) (l2 : Nat) (l3 : Nat) (l4 : Nat) (l5 : Nat) (l6 : Nat) (l7 : Nat) (G : gS), (inI l1) → (l2 % 8 ≠ 1) → (l3 % 8 ≠ 1) → (l4 % 8 ≠ 1) → (l5 % 8 ≠ 1) → (l6 % 8 ≠ 1) → (l7 % 8 ≠ 1) → (PX13_membersOf_J f) 0 [l1] G Q → Tg W0 (rx_J vhX13_membersOf N 0) [rf (16081), cI (l1), l2, l3, l4, l5, l6, l7] [] G (fun r G => r = 7 ∧ Q 0 G)) ∧ (∀ (l1 : Int) (l2 : Int) (l3 : Int) (l4 : Nat) (l5 : Nat) (l6 : Nat) (l7 : Nat) (G : gS), (inI l1) → (inI l2) → (inI l3) → (l4 % 8 ≠ 1) → (l5 % 8 ≠ 1) → (l6 % 8 ≠ 1) → (l7 % 8 ≠ 1) → (PX13_membersOf_J f) 1 [l1, l2, l3] G Q → Tg W0 (rx_J vhX13_membersOf N 1) [rf (16081), cI (l1), cI (l2), cI (l3), l4, l5, l6, l7] [] G (fun r G => r = 7 ∧ Q 0 G)) ∧ (∀ (l1 : Int) (l2 : Int) (l3 : Int) (l4 : Int) (l5 : Int) (l6 : Nat) (l7 : Nat) (G : gS), (inI l1) → (inI l2) → (inI l3) → (inI l4) → (inI l5) → (l6 % 8 ≠ 1) → (l7 % 8 ≠ 1) → (PX13_membersOf_J f) 2 [l1, l2, l3, l4, l5] G Q → Tg W0 (rx_J vhX13_membersOf N 2) [rf (16081), cI (l1), cI (l2), cI (l3), cI (l4), cI (l5), l6, l7] [] G (fun r G => r = 7 ∧ Q 0 G)) ∧ (∀ (l1 : Int) (l2 : Int) (l3 : Int) (l4 : Int) (l5 : Int) (l6 : Nat) (l7 : Nat) (G : gS), (inI l1) → (inI l2) → (inI l3) → (inI l4) → (inI l5) → (l6 % 8 ≠ 1) → (l7 % 8 ≠ 1) → (PX13_membersOf_J f) 3 [l1, l2, l3, l4, l5] G Q → Tg W0 (rx_J vhX13_membersOf N 3) [rf (16081), cI (l1), cI (l2), cI (l3), cI (l4), cI (l5), l6, l7] [] G (fun r G => r = 7 ∧ Q 0 G)) := by
  intro f
  induction f with
  | zero => exact fun N _ => ⟨fun _ _ _ _ _ _ _ _ _ _ _ _ _ _ _ h => h.elim, fun _ _ _ _ _ _ _ _ _ _ _ _ _ _ _ h => h.elim, fun _ _ _ _ _ _ _ _ _ _ _ _ _ _ _ h => h.elim, fun _ _ _ _ _ _ _ _ _ _ _ _ _ _ _ h => h.elim⟩
  | succ f ih =>
    intro N hN
    obtain ⟨M, rfl⟩ : ∃ M, N = M + 1 := ⟨N - 1, by omega⟩
    have ih := ih M (by omega)
    exact ⟨fun _ _ _ _ _ _ _ _ hl1 hl2 hl3 hl4 hl5 hl6 hl7 h => show Tg W0 (vX13_membersOf_2 (rx_J vhX13_membersOf M)) _ _ _ _ from TX13_membersOf_2 hl1 hl2 hl3 hl4 hl5 hl6 hl7 ih.1 ih.2.1 ih.2.2.1 ih.2.2.2 h, fun _ _ _ _ _ _ _ _ hl1 hl2 hl3 hl4 hl5 hl6 hl7 h => show Tg W0 (vX13_membersOf_34 (rx_J vhX13_membersOf M)) _ _ _ _ from TX13_membersOf_34 hl1 hl2 hl3 hl4 hl5 hl6 hl7 ih.1 ih.2.1 ih.2.2.1 ih.2.2.2 h, fun _ _ _ _ _ _ _ _ hl1 hl2 hl3 hl4 hl5 hl6 hl7 h => show Tg W0 (vX13_membersOf_124 (rx_J vhX13_membersOf M)) _ _ _ _ from TX13_membersOf_124 hl1 hl2 hl3 hl4 hl5 hl6 hl7 ih.1 ih.2.1 ih.2.2.1 ih.2.2.2 h, fun _ _ _ _ _ _ _ _ hl1 hl2 hl3 hl4 hl5 hl6 hl7 h => show Tg W0 (vX13_membersOf_174 (rx_J vhX13_membersOf M)) _ _ _ _ from TX13_membersOf_174 hl1 hl2 hl3 hl4 hl5 hl6 hl7 ih.1 ih.2.1 ih.2.2.1 ih.2.2.2 h⟩
def PX13_membersOf  (G : gS) (Q : Int → gS → Prop) : Prop := ∃ f : Nat, f ≤ 4000000000 ∧ PX13_membersOf_0 (PX13_membersOf_J f)  G Q
theorem TX13_membersOf  {G : gS} {Q : Int → gS → Prop}  (h : PX13_membersOf  G Q) : Tn W0 FX13_membersOf [rf (16081)] G (fun r G => r = 7 ∧ Q 0 G) := by
  obtain ⟨f, hf, h⟩ := h
  have hJ := TX13_membersOf_J (Q := Q) f 4000000000 hf
  unfold FX13_membersOf
  refine g_ent (lv' := [rf (16081), 7, 7, 7, 7, 7, 7, 7]) (flR fl0) (Nat.le_of_ble_eq_true rfl) rfl ?_
  exact TX13_membersOf_0  hJ.1 hJ.2.1 hJ.2.2.1 hJ.2.2.2 h
def PX13_aboveIn_153 (J : Nat → List Int → gS → (Int → gS → Prop) → Prop) (l1 : Int) (l2 : Int) (l3 : Int) (l4 : Int) (l5 : Int) (l6 : Int) (G : gS) (Q : Int → gS → Prop) : Prop :=
  (inI (l4 + 1) ∧ J 0 [l1, l2, l3, l4 + 1] G Q)
set_option maxRecDepth 20000 in
theorem TX13_aboveIn_153 {j : Nat → rx_K} {J : Nat → List Int → gS → (Int → gS → Prop) → Prop} {l1 : Int} {l2 : Int} {l3 : Int} {l4 : Int} {l5 : Int} {l6 : Int} {G : gS} {Q : Int → gS → Prop} (hl1 : inI l1) (hl2 : inI l2) (hl3 : inI l3) (hl4 : inI l4) (hl5 : inI l5) (hl6 : inI l6) (hj0 : ∀ (l1 : Int) (l2 : Int) (l3 : Int) (l4 : Int) (l5 : Nat) (l6 : Nat) (G : gS), (inI l1) → (inI l2) → (inI l3) → (inI l4) → (l5 % 8 ≠ 1) → (l6 % 8 ≠ 1) → J 0 [l1, l2, l3, l4] G Q → Tg W0 (j 0) [rf (16081), cI (l1), cI (l2), cI (l3), cI (l4), l5, l6] [] G (fun r G => r = 7 ∧ Q 0 G)) (h : PX13_aboveIn_153 J l1 l2 l3 l4 l5 l6 G Q) : Tg W0 (vX13_aboveIn_153 j) [rf (16081), cI (l1), cI (l2), cI (l3), cI (l4), cI (l5), cI (l6)] [] G (fun r G => r = 7 ∧ Q 0 G) := by
  unfold PX13_aboveIn_153 at h
  unfold vX13_aboveIn_153
  refine g_inc (lv' := [_, _, _, _, _, _, _]) rfl (Nat.le_of_ble_eq_true rfl) (Or.inr (n1_I _)) rfl ?_
  obtain ⟨q46, h⟩ := h
  exact hj0 _ _ _ _ _ _ _ hl1 hl2 hl3 q46 (n1_I _) (n1_I _) h
def PX13_aboveIn_132 (J : Nat → List Int → gS → (Int → gS → Prop) → Prop) (l1 : Int) (l2 : Int) (l3 : Int) (l4 : Int) (l5 : Int) (l6 : Int) (G : gS) (Q : Int → gS → Prop) : Prop :=
  (inI (G 16081 104) → ((0 : Int) ≤ G 16081 104 ∧ ((G 16081 104 : Int) < 432 ∧ (∀ G50 : gS, G50 = uG G 16170 (G 16081 104) (l5) → (inI (G50 16081 104) → (inI ((G50 16081 104) + 1) ∧ (∀ G53 : gS, G53 = uG G50 16081 104 ((G50 16081 104) + 1) → PX13_aboveIn_153 J l1 l2 l3 l4 l5 l6 G53 Q)))))))
set_option maxRecDepth 20000 in
theorem TX13_aboveIn_132 {j : Nat → rx_K} {J : Nat → List Int → gS → (Int → gS → Prop) → Prop} {l1 : Int} {l2 : Int} {l3 : Int} {l4 : Int} {l5 : Int} {l6 : Int} {G : gS} {Q : Int → gS → Prop} (hl1 : inI l1) (hl2 : inI l2) (hl3 : inI l3) (hl4 : inI l4) (hl5 : inI l5) (hl6 : inI l6) (hj0 : ∀ (l1 : Int) (l2 : Int) (l3 : Int) (l4 : Int) (l5 : Nat) (l6 : Nat) (G : gS), (inI l1) → (inI l2) → (inI l3) → (inI l4) → (l5 % 8 ≠ 1) → (l6 % 8 ≠ 1) → J 0 [l1, l2, l3, l4] G Q → Tg W0 (j 0) [rf (16081), cI (l1), cI (l2), cI (l3), cI (l4), l5, l6] [] G (fun r G => r = 7 ∧ Q 0 G)) (h : PX13_aboveIn_132 J l1 l2 l3 l4 l5 l6 G Q) : Tg W0 (vX13_aboveIn_132 j) [rf (16081), cI (l1), cI (l2), cI (l3), cI (l4), cI (l5), cI (l6)] [] G (fun r G => r = 7 ∧ Q 0 G) := by
  unfold PX13_aboveIn_132 at h
  unfold vX13_aboveIn_132
  refine g_ld (v := rf _) rfl (is_R _) ?_
  refine g_getF (v := 16170) oC13 (hC13_103) rfl (Nat.le_of_ble_eq_true rfl) (Nat.le_of_ble_eq_true rfl) ?_
  refine g_ld (v := rf _) rfl (is_R _) ?_
  refine g_getI (kz := 104) oC13 rfl (Nat.le_of_ble_eq_true rfl) rfl fun i47 => ?_
  replace h := h i47
  refine g_ld (v := cI _) rfl (is_I _) ?_
  obtain ⟨q48, q49, h⟩ := h
  refine g_astI aC16170 q48 q49 hl5 (nfI aC16170) ?_
  replace h := h _ rfl
  refine g_ld (v := rf _) rfl (is_R _) ?_
  refine g_dup (ct_R _) ?_
  refine g_getI (kz := 104) oC13 rfl (Nat.le_of_ble_eq_true rfl) rfl fun i51 => ?_
  replace h := h i51
  refine g_const (v := cI (1)) rfl ?_
  refine g_add ?_
  obtain ⟨q52, h⟩ := h
  refine g_putI (kz := 104) oC13 rfl (Nat.le_of_ble_eq_true rfl) rfl q52 (zfin_no (c := 16081) (j := 104) rfl) ?_
  replace h := h _ rfl
  exact TX13_aboveIn_153 hl1 hl2 hl3 hl4 hl5 hl6 hj0 h
def PX13_aboveIn_59 (J : Nat → List Int → gS → (Int → gS → Prop) → Prop) (l1 : Int) (l2 : Int) (l3 : Int) (l4 : Int) (l5 : Int) (s0 : Int) (G : gS) (Q : Int → gS → Prop) : Prop :=
  ((0 : Int) ≤ l5 ∧ ((l5 : Int) < 7344 ∧ (inI (G 16116 l5) → ((G 16116 l5 = 1 → ((0 : Int) ≤ l5 ∧ ((l5 : Int) < 7344 ∧ ((0 ≤ G 16123 l5 ∧ G 16123 l5 ≤ 1) → ((G 16123 l5 = 0 → ((s0 = 0 → PX13_aboveIn_153 J l1 l2 l3 l4 l5 s0 G Q) ∧ (¬ (s0 = 0) → ((0 : Int) ≤ l5 ∧ ((l5 : Int) < 7344 ∧ (inL (G 16125 l5) → ((0 : Int) ≤ l2 ∧ ((l2 : Int) < 7344 ∧ (inL (G 16125 l2) → ((G 16125 l5 = G 16125 l2 → PX13_sameParams l5 l2 G (fun r35 G34 => (0 ≤ r35 ∧ r35 ≤ 1) → ((r35 = 0 → PX13_aboveIn_153 J l1 l2 l3 l4 l5 s0 G34 Q) ∧ (¬ (r35 = 0) → ((0 : Int) ≤ l5 ∧ ((l5 : Int) < 7344 ∧ ((0 ≤ G34 16119 l5 ∧ G34 16119 l5 ≤ 1) → ((G34 16119 l5 = 0 → PX13_aboveIn_132 J l1 l2 l3 l4 l5 s0 G34 Q) ∧ (¬ (G34 16119 l5 = 0) → PX13_isFace l1 G34 (fun r43 G42 => (0 ≤ r43 ∧ r43 ≤ 1) → ((r43 = 0 → PX13_aboveIn_132 J l1 l2 l3 l4 l5 s0 G42 Q) ∧ (¬ (r43 = 0) → PX13_aboveIn_153 J l1 l2 l3 l4 l5 s0 G42 Q)))))))))))) ∧ (¬ (G 16125 l5 = G 16125 l2) → PX13_aboveIn_153 J l1 l2 l3 l4 l5 s0 G Q))))))))))) ∧ (¬ (G 16123 l5 = 0) → PX13_aboveIn_153 J l1 l2 l3 l4 l5 s0 G Q)))))) ∧ (¬ (G 16116 l5 = 1) → PX13_aboveIn_153 J l1 l2 l3 l4 l5 s0 G Q)))))
set_option maxRecDepth 20000 in
theorem TX13_aboveIn_59 {j : Nat → rx_K} {J : Nat → List Int → gS → (Int → gS → Prop) → Prop} {l1 : Int} {l2 : Int} {l3 : Int} {l4 : Int} {l5 : Int} {l6 : Nat} {s0 : Int} {G : gS} {Q : Int → gS → Prop} (hl1 : inI l1) (hl2 : inI l2) (hl3 : inI l3) (hl4 : inI l4) (hl5 : inI l5) (hl6 : l6 % 8 ≠ 1) (hs0 : inI s0) (hj0 : ∀ (l1 : Int) (l2 : Int) (l3 : Int) (l4 : Int) (l5 : Nat) (l6 : Nat) (G : gS), (inI l1) → (inI l2) → (inI l3) → (inI l4) → (l5 % 8 ≠ 1) → (l6 % 8 ≠ 1) → J 0 [l1, l2, l3, l4] G Q → Tg W0 (j 0) [rf (16081), cI (l1), cI (l2), cI (l3), cI (l4), l5, l6] [] G (fun r G => r = 7 ∧ Q 0 G)) (h : PX13_aboveIn_59 J l1 l2 l3 l4 l5 s0 G Q) : Tg W0 (vX13_aboveIn_59 j) [rf (16081), cI (l1), cI (l2), cI (l3), cI (l4), cI (l5), l6] [cI (s0)] G (fun r G => r = 7 ∧ Q 0 G) := by
  unfold PX13_aboveIn_59 at h
  unfold vX13_aboveIn_59
  refine g_st (lv' := [_, _, _, _, _, _, _]) (is_I _) (Nat.le_of_ble_eq_true rfl) (Or.inr (n1_I _)) rfl ?_
  refine g_ld (v := rf _) rfl (is_R _) ?_
  refine g_getF (v := 16116) oC13 (hC13_42) rfl (Nat.le_of_ble_eq_true rfl) (Nat.le_of_ble_eq_true rfl) ?_
  refine g_ld (v := cI _) rfl (is_I _) ?_
  obtain ⟨q18, q19, h⟩ := h
  refine g_aldI aC16116 q18 q19 rfl fun i20 => ?_
  replace h := h i20
  refine g_const (v := cI (1)) rfl ?_
  refine g_eq2 i20 ⟨by omega, by omega⟩ (fun b21 => ?_) (fun b21 => ?_)
  · replace h := h.1 b21
    unfold vX13_aboveIn_72
    refine g_ld (v := rf _) rfl (is_R _) ?_
    refine g_getF (v := 16123) oC13 (hC13_49) rfl (Nat.le_of_ble_eq_true rfl) (Nat.le_of_ble_eq_true rfl) ?_
    refine g_ld (v := cI _) rfl (is_I _) ?_
    obtain ⟨q22, q23, h⟩ := h
    refine g_aldZ aC16123 q22 q23 rfl fun i24 => ?_
    replace h := h i24
    refine g_eq1 ⟨by omega, by omega⟩ (fun b25 => ?_) (fun b25 => ?_)
    · replace h := h.1 b25
      unfold vX13_aboveIn_82
      refine g_ld (v := cI _) rfl (is_I _) ?_
      refine g_eq1 hs0 (fun b26 => ?_) (fun b26 => ?_)
      · replace h := h.1 b26
        exact TX13_aboveIn_153 hl1 hl2 hl3 hl4 hl5 hs0 hj0 h
      · replace h := h.2 b26
        unfold vX13_aboveIn_87
        refine g_ld (v := rf _) rfl (is_R _) ?_
        refine g_getF (v := 16125) oC13 (hC13_51) rfl (Nat.le_of_ble_eq_true rfl) (Nat.le_of_ble_eq_true rfl) ?_
        refine g_ld (v := cI _) rfl (is_I _) ?_
        obtain ⟨q27, q28, h⟩ := h
        refine g_aldL aC16125 q27 q28 rfl fun i29 => ?_
        replace h := h i29
        refine g_ld (v := rf _) rfl (is_R _) ?_
        refine g_getF (v := 16125) oC13 (hC13_51) rfl (Nat.le_of_ble_eq_true rfl) (Nat.le_of_ble_eq_true rfl) ?_
        refine g_ld (v := cI _) rfl (is_I _) ?_
        obtain ⟨q30, q31, h⟩ := h
        refine g_aldL aC16125 q30 q31 rfl fun i32 => ?_
        replace h := h i32
        refine g_leq i29 i32 (fun b33 => ?_) (fun b33 => ?_)
        · replace h := h.1 b33
          unfold vX13_aboveIn_104
          refine g_ld (v := rf _) rfl (is_R _) ?_
          refine g_ld (v := cI _) rfl (is_I _) ?_
          refine g_ld (v := cI _) rfl (is_I _) ?_
          refine g_callV (As := [_, _]) (ci := 13) oC13 (fun _ => rfl) ?_
          refine g_go1 (Nat.le_of_ble_eq_true rfl) (Tn_w (TX13_sameParams hl5 hl2 h) fun _ G34 ⟨r35, e, i36, h⟩ => ?_)
          subst e
          refine ⟨n7_I _, ?_⟩
          replace h := h i36
          refine g_eq1 ⟨by omega, by omega⟩ (fun b37 => ?_) (fun b37 => ?_)
          · replace h := h.1 b37
            exact TX13_aboveIn_153 hl1 hl2 hl3 hl4 hl5 hs0 hj0 h
          · replace h := h.2 b37
            unfold vX13_aboveIn_114
            refine g_ld (v := rf _) rfl (is_R _) ?_
            refine g_getF (v := 16119) oC13 (hC13_45) rfl (Nat.le_of_ble_eq_true rfl) (Nat.le_of_ble_eq_true rfl) ?_
            refine g_ld (v := cI _) rfl (is_I _) ?_
            obtain ⟨q38, q39, h⟩ := h
            refine g_aldZ aC16119 q38 q39 rfl fun i40 => ?_
            replace h := h i40
            refine g_eq1 ⟨by omega, by omega⟩ (fun b41 => ?_) (fun b41 => ?_)
            · replace h := h.1 b41
              exact TX13_aboveIn_132 hl1 hl2 hl3 hl4 hl5 hs0 hj0 h
            · replace h := h.2 b41
              unfold vX13_aboveIn_124
              refine g_ld (v := rf _) rfl (is_R _) ?_
              refine g_ld (v := cI _) rfl (is_I _) ?_
              refine g_callV (As := [_]) (ci := 13) oC13 (fun _ => rfl) ?_
              refine g_go1 (Nat.le_of_ble_eq_true rfl) (Tn_w (TX13_isFace hl1 h) fun _ G42 ⟨r43, e, i44, h⟩ => ?_)
              subst e
              refine ⟨n7_I _, ?_⟩
              replace h := h i44
              refine g_eq1 ⟨by omega, by omega⟩ (fun b45 => ?_) (fun b45 => ?_)
              · replace h := h.1 b45
                exact TX13_aboveIn_132 hl1 hl2 hl3 hl4 hl5 hs0 hj0 h
              · replace h := h.2 b45
                exact TX13_aboveIn_153 hl1 hl2 hl3 hl4 hl5 hs0 hj0 h
        · replace h := h.2 b33
          exact TX13_aboveIn_153 hl1 hl2 hl3 hl4 hl5 hs0 hj0 h
    · replace h := h.2 b25
      exact TX13_aboveIn_153 hl1 hl2 hl3 hl4 hl5 hs0 hj0 h
  · replace h := h.2 b21
    exact TX13_aboveIn_153 hl1 hl2 hl3 hl4 hl5 hs0 hj0 h
def PX13_aboveIn_58 (J : Nat → List Int → gS → (Int → gS → Prop) → Prop) (l1 : Int) (l2 : Int) (l3 : Int) (l4 : Int) (l5 : Int) (G : gS) (Q : Int → gS → Prop) : Prop :=
  PX13_aboveIn_59 J l1 l2 l3 l4 l5 0 G Q
set_option maxRecDepth 20000 in
theorem TX13_aboveIn_58 {j : Nat → rx_K} {J : Nat → List Int → gS → (Int → gS → Prop) → Prop} {l1 : Int} {l2 : Int} {l3 : Int} {l4 : Int} {l5 : Int} {l6 : Nat} {G : gS} {Q : Int → gS → Prop} (hl1 : inI l1) (hl2 : inI l2) (hl3 : inI l3) (hl4 : inI l4) (hl5 : inI l5) (hl6 : l6 % 8 ≠ 1) (hj0 : ∀ (l1 : Int) (l2 : Int) (l3 : Int) (l4 : Int) (l5 : Nat) (l6 : Nat) (G : gS), (inI l1) → (inI l2) → (inI l3) → (inI l4) → (l5 % 8 ≠ 1) → (l6 % 8 ≠ 1) → J 0 [l1, l2, l3, l4] G Q → Tg W0 (j 0) [rf (16081), cI (l1), cI (l2), cI (l3), cI (l4), l5, l6] [] G (fun r G => r = 7 ∧ Q 0 G)) (h : PX13_aboveIn_58 J l1 l2 l3 l4 l5 G Q) : Tg W0 (vX13_aboveIn_58 j) [rf (16081), cI (l1), cI (l2), cI (l3), cI (l4), cI (l5), l6] [] G (fun r G => r = 7 ∧ Q 0 G) := by
  unfold PX13_aboveIn_58 at h
  unfold vX13_aboveIn_58
  refine g_const (v := cI (0)) rfl ?_
  exact TX13_aboveIn_59 hl1 hl2 hl3 hl4 hl5 hl6 ⟨by omega, by omega⟩ hj0 h
def PX13_aboveIn_54 (J : Nat → List Int → gS → (Int → gS → Prop) → Prop) (l1 : Int) (l2 : Int) (l3 : Int) (l4 : Int) (l5 : Int) (G : gS) (Q : Int → gS → Prop) : Prop :=
  PX13_aboveIn_59 J l1 l2 l3 l4 l5 1 G Q
set_option maxRecDepth 20000 in
theorem TX13_aboveIn_54 {j : Nat → rx_K} {J : Nat → List Int → gS → (Int → gS → Prop) → Prop} {l1 : Int} {l2 : Int} {l3 : Int} {l4 : Int} {l5 : Int} {l6 : Nat} {G : gS} {Q : Int → gS → Prop} (hl1 : inI l1) (hl2 : inI l2) (hl3 : inI l3) (hl4 : inI l4) (hl5 : inI l5) (hl6 : l6 % 8 ≠ 1) (hj0 : ∀ (l1 : Int) (l2 : Int) (l3 : Int) (l4 : Int) (l5 : Nat) (l6 : Nat) (G : gS), (inI l1) → (inI l2) → (inI l3) → (inI l4) → (l5 % 8 ≠ 1) → (l6 % 8 ≠ 1) → J 0 [l1, l2, l3, l4] G Q → Tg W0 (j 0) [rf (16081), cI (l1), cI (l2), cI (l3), cI (l4), l5, l6] [] G (fun r G => r = 7 ∧ Q 0 G)) (h : PX13_aboveIn_54 J l1 l2 l3 l4 l5 G Q) : Tg W0 (vX13_aboveIn_54 j) [rf (16081), cI (l1), cI (l2), cI (l3), cI (l4), cI (l5), l6] [] G (fun r G => r = 7 ∧ Q 0 G) := by
  unfold PX13_aboveIn_54 at h
  unfold vX13_aboveIn_54
  refine g_const (v := cI (1)) rfl ?_
  exact TX13_aboveIn_59 hl1 hl2 hl3 hl4 hl5 hl6 ⟨by omega, by omega⟩ hj0 h
def PX13_aboveIn_3 (J : Nat → List Int → gS → (Int → gS → Prop) → Prop) (l1 : Int) (l2 : Int) (l3 : Int) (l4 : Int) (G : gS) (Q : Int → gS → Prop) : Prop :=
  ((0 : Int) ≤ l1 ∧ ((l1 : Int) < 216 ∧ (inI (G 16115 l1) → ((l4 < G 16115 l1 → (inI ((l1 * 34) + l4) ∧ ((0 : Int) ≤ (l1 * 34) + l4 ∧ (((l1 * 34) + l4 : Int) < 7344 ∧ (inI (G 16118 ((l1 * 34) + l4)) → ((G 16118 ((l1 * 34) + l4) < 2 → ((0 : Int) ≤ (l1 * 34) + l4 ∧ (((l1 * 34) + l4 : Int) < 7344 ∧ (inI (G 16118 ((l1 * 34) + l4)) → ((G 16118 ((l1 * 34) + l4) = 1 → PX13_onePackage l1 l3 G (fun r15 G14 => (0 ≤ r15 ∧ r15 ≤ 1) → ((r15 = 0 → PX13_aboveIn_58 J l1 l2 l3 l4 ((l1 * 34) + l4) G14 Q) ∧ (¬ (r15 = 0) → PX13_aboveIn_54 J l1 l2 l3 l4 ((l1 * 34) + l4) G14 Q)))) ∧ (¬ (G 16118 ((l1 * 34) + l4) = 1) → PX13_aboveIn_58 J l1 l2 l3 l4 ((l1 * 34) + l4) G Q)))))) ∧ (¬ (G 16118 ((l1 * 34) + l4) < 2) → PX13_aboveIn_54 J l1 l2 l3 l4 ((l1 * 34) + l4) G Q))))))) ∧ (¬ (l4 < G 16115 l1) → Q 0 G)))))
set_option maxRecDepth 20000 in
theorem TX13_aboveIn_3 {j : Nat → rx_K} {J : Nat → List Int → gS → (Int → gS → Prop) → Prop} {l1 : Int} {l2 : Int} {l3 : Int} {l4 : Int} {l5 : Nat} {l6 : Nat} {G : gS} {Q : Int → gS → Prop} (hl1 : inI l1) (hl2 : inI l2) (hl3 : inI l3) (hl4 : inI l4) (hl5 : l5 % 8 ≠ 1) (hl6 : l6 % 8 ≠ 1) (hj0 : ∀ (l1 : Int) (l2 : Int) (l3 : Int) (l4 : Int) (l5 : Nat) (l6 : Nat) (G : gS), (inI l1) → (inI l2) → (inI l3) → (inI l4) → (l5 % 8 ≠ 1) → (l6 % 8 ≠ 1) → J 0 [l1, l2, l3, l4] G Q → Tg W0 (j 0) [rf (16081), cI (l1), cI (l2), cI (l3), cI (l4), l5, l6] [] G (fun r G => r = 7 ∧ Q 0 G)) (h : PX13_aboveIn_3 J l1 l2 l3 l4 G Q) : Tg W0 (vX13_aboveIn_3 j) [rf (16081), cI (l1), cI (l2), cI (l3), cI (l4), l5, l6] [] G (fun r G => r = 7 ∧ Q 0 G) := by
  unfold PX13_aboveIn_3 at h
  unfold vX13_aboveIn_3
  refine g_ld (v := cI _) rfl (is_I _) ?_
  refine g_ld (v := rf _) rfl (is_R _) ?_
  refine g_getF (v := 16115) oC13 (hC13_41) rfl (Nat.le_of_ble_eq_true rfl) (Nat.le_of_ble_eq_true rfl) ?_
  refine g_ld (v := cI _) rfl (is_I _) ?_
  obtain ⟨q1, q2, h⟩ := h
  refine g_aldI aC16115 q1 q2 rfl fun i3 => ?_
  replace h := h i3
  refine g_lt2 hl4 i3 (fun b4 => ?_) (fun b4 => ?_)
  · replace h := h.1 b4
    unfold vX13_aboveIn_14
    refine g_ld (v := cI _) rfl (is_I _) ?_
    refine g_const (v := cI (34)) rfl ?_
    refine g_mul ?_
    refine g_ld (v := cI _) rfl (is_I _) ?_
    refine g_add ?_
    refine g_st (lv' := [_, _, _, _, _, _, _]) (is_I _) (Nat.le_of_ble_eq_true rfl) (Or.inr (n1_I _)) rfl ?_
    obtain ⟨q5, h⟩ := h
    refine g_ld (v := rf _) rfl (is_R _) ?_
    refine g_getF (v := 16118) oC13 (hC13_44) rfl (Nat.le_of_ble_eq_true rfl) (Nat.le_of_ble_eq_true rfl) ?_
    refine g_ld (v := cI _) rfl (is_I _) ?_
    obtain ⟨q6, q7, h⟩ := h
    refine g_aldI aC16118 q6 q7 rfl fun i8 => ?_
    replace h := h i8
    refine g_const (v := cI (2)) rfl ?_
    refine g_lt2 i8 ⟨by omega, by omega⟩ (fun b9 => ?_) (fun b9 => ?_)
    · replace h := h.1 b9
      unfold vX13_aboveIn_34
      refine g_ld (v := rf _) rfl (is_R _) ?_
      refine g_getF (v := 16118) oC13 (hC13_44) rfl (Nat.le_of_ble_eq_true rfl) (Nat.le_of_ble_eq_true rfl) ?_
      refine g_ld (v := cI _) rfl (is_I _) ?_
      obtain ⟨q10, q11, h⟩ := h
      refine g_aldI aC16118 q10 q11 rfl fun i12 => ?_
      replace h := h i12
      refine g_const (v := cI (1)) rfl ?_
      refine g_eq2 i12 ⟨by omega, by omega⟩ (fun b13 => ?_) (fun b13 => ?_)
      · replace h := h.1 b13
        unfold vX13_aboveIn_45
        refine g_ld (v := rf _) rfl (is_R _) ?_
        refine g_ld (v := cI _) rfl (is_I _) ?_
        refine g_ld (v := cI _) rfl (is_I _) ?_
        refine g_callV (As := [_, _]) (ci := 13) oC13 (fun _ => rfl) ?_
        refine g_go1 (Nat.le_of_ble_eq_true rfl) (Tn_w (TX13_onePackage hl1 hl3 h) fun _ G14 ⟨r15, e, i16, h⟩ => ?_)
        subst e
        refine ⟨n7_I _, ?_⟩
        replace h := h i16
        refine g_eq1 ⟨by omega, by omega⟩ (fun b17 => ?_) (fun b17 => ?_)
        · replace h := h.1 b17
          exact TX13_aboveIn_58 hl1 hl2 hl3 hl4 q5 hl6 hj0 h
        · replace h := h.2 b17
          exact TX13_aboveIn_54 hl1 hl2 hl3 hl4 q5 hl6 hj0 h
      · replace h := h.2 b13
        exact TX13_aboveIn_58 hl1 hl2 hl3 hl4 q5 hl6 hj0 h
    · replace h := h.2 b9
      exact TX13_aboveIn_54 hl1 hl2 hl3 hl4 q5 hl6 hj0 h
  · replace h := h.2 b4
    unfold vX13_aboveIn_159
    exact g_ret0 ⟨rfl, h⟩
def PX13_aboveIn_0 (J : Nat → List Int → gS → (Int → gS → Prop) → Prop) (a1 : Int) (a2 : Int) (a3 : Int) (G : gS) (Q : Int → gS → Prop) : Prop :=
  PX13_aboveIn_3 J a1 a2 a3 0 G Q
set_option maxRecDepth 20000 in
theorem TX13_aboveIn_0 {j : Nat → rx_K} {J : Nat → List Int → gS → (Int → gS → Prop) → Prop} {a1 : Int} {a2 : Int} {a3 : Int} {G : gS} {Q : Int → gS → Prop} (ha1 : inI a1) (ha2 : inI a2) (ha3 : inI a3) (hj0 : ∀ (l1 : Int) (l2 : Int) (l3 : Int) (l4 : Int) (l5 : Nat) (l6 : Nat) (G : gS), (inI l1) → (inI l2) → (inI l3) → (inI l4) → (l5 % 8 ≠ 1) → (l6 % 8 ≠ 1) → J 0 [l1, l2, l3, l4] G Q → Tg W0 (j 0) [rf (16081), cI (l1), cI (l2), cI (l3), cI (l4), l5, l6] [] G (fun r G => r = 7 ∧ Q 0 G)) (h : PX13_aboveIn_0 J a1 a2 a3 G Q) : Tg W0 (vX13_aboveIn_0 j) [rf (16081), cI (a1), cI (a2), cI (a3), 7, 7, 7] [] G (fun r G => r = 7 ∧ Q 0 G) := by
  unfold PX13_aboveIn_0 at h
  unfold vX13_aboveIn_0
  refine g_const (v := cI (0)) rfl ?_
  refine g_st (lv' := [_, _, _, _, _, _, _]) (is_I _) (Nat.le_of_ble_eq_true rfl) (Or.inr (n1_I _)) rfl ?_
  exact TX13_aboveIn_3 ha1 ha2 ha3 ⟨by omega, by omega⟩ (show 7 % 8 ≠ 1 by decide) (show 7 % 8 ≠ 1 by decide) hj0 h
def PX13_aboveIn_J : Nat → Nat → List Int → gS → (Int → gS → Prop) → Prop
  | 0, _, _, _, _ => False
  | f + 1, h, L, G, Q => match h, L with
    | 0, [l1, l2, l3, l4] => PX13_aboveIn_3 (PX13_aboveIn_J f) l1 l2 l3 l4 G Q
    | _, _ => False
theorem TX13_aboveIn_J {Q : Int → gS → Prop} : ∀ f N : Nat, f ≤ N → (∀ (l1 : Int) (l2 : Int) (l3 : Int) (l4 : Int) (l5 : Nat) (l6 : Nat) (G : gS), (inI l1) → (inI l2) → (inI l3) → (inI l4) → (l5 % 8 ≠ 1) → (l6 % 8 ≠ 1) → (PX13_aboveIn_J f) 0 [l1, l2, l3, l4] G Q → Tg W0 (rx_J vhX13_aboveIn N 0) [rf (16081), cI (l1), cI (l2), cI (l3), cI (l4), l5, l6] [] G (fun r G => r = 7 ∧ Q 0 G)) := by
  intro f
  induction f with
  | zero => exact fun N _ => fun _ _ _ _ _ _ _ _ _ _ _ _ _ h => h.elim
  | succ f ih =>
    intro N hN
    obtain ⟨M, rfl⟩ : ∃ M, N = M + 1 := ⟨N - 1, by omega⟩
    have ih := ih M (by omega)
    exact fun _ _ _ _ _ _ _ hl1 hl2 hl3 hl4 hl5 hl6 h => show Tg W0 (vX13_aboveIn_3 (rx_J vhX13_aboveIn M)) _ _ _ _ from TX13_aboveIn_3 hl1 hl2 hl3 hl4 hl5 hl6 ih h
def PX13_aboveIn (a1 : Int) (a2 : Int) (a3 : Int) (G : gS) (Q : Int → gS → Prop) : Prop := ∃ f : Nat, f ≤ 4000000000 ∧ PX13_aboveIn_0 (PX13_aboveIn_J f) a1 a2 a3 G Q
theorem TX13_aboveIn {a1 : Int} {a2 : Int} {a3 : Int} {G : gS} {Q : Int → gS → Prop} (ha1 : inI a1) (ha2 : inI a2) (ha3 : inI a3) (h : PX13_aboveIn a1 a2 a3 G Q) : Tn W0 FX13_aboveIn [rf (16081), cI (a1), cI (a2), cI (a3)] G (fun r G => r = 7 ∧ Q 0 G) := by
  obtain ⟨f, hf, h⟩ := h
  have hJ := TX13_aboveIn_J (Q := Q) f 4000000000 hf
  unfold FX13_aboveIn
  refine g_ent (lv' := [rf (16081), cI (a1), cI (a2), cI (a3), 7, 7, 7]) (flR (flI (flI (flI fl0)))) (Nat.le_of_ble_eq_true rfl) rfl ?_
  exact TX13_aboveIn_0 ha1 ha2 ha3 hJ h
end DE

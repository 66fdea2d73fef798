section DE
def PX13_compare_207 (J : Nat → List Int → gS → (Int → gS → Prop) → Prop) (l1 : Int) (l2 : Int) (l3 : Int) (l4 : Int) (G : gS) (Q : Int → gS → Prop) : Prop :=
  (inI (l3 + 1) ∧ J 1 [l1, l2, l3 + 1] G Q)
set_option maxRecDepth 20000 in
theorem TX13_compare_207 {j : Nat → rx_K} {J : Nat → List Int → gS → (Int → gS → Prop) → Prop} {l1 : Int} {l2 : Int} {l3 : Int} {l4 : Int} {l5 : Nat} {G : gS} {Q : Int → gS → Prop} (hl1 : inI l1) (hl2 : inI l2) (hl3 : inI l3) (hl4 : inI l4) (hl5 : l5 % 8 ≠ 1) (hj0 : ∀ (l1 : Int) (l2 : Int) (l3 : Int) (l4 : Nat) (l5 : Nat) (G : gS), (inI l1) → (inI l2) → (inI l3) → (l4 % 8 ≠ 1) → (l5 % 8 ≠ 1) → J 0 [l1, l2, l3] G Q → Tg W0 (j 0) [rf (16081), cI (l1), cI (l2), cI (l3), l4, l5] [] G (fun r G => r = 7 ∧ Q 0 G)) (hj1 : ∀ (l1 : Int) (l2 : Int) (l3 : Int) (l4 : Nat) (l5 : Nat) (G : gS), (inI l1) → (inI l2) → (inI l3) → (l4 % 8 ≠ 1) → (l5 % 8 ≠ 1) → J 1 [l1, l2, l3] G Q → Tg W0 (j 1) [rf (16081), cI (l1), cI (l2), cI (l3), l4, l5] [] G (fun r G => r = 7 ∧ Q 0 G)) (h : PX13_compare_207 J l1 l2 l3 l4 G Q) : Tg W0 (vX13_compare_207 j) [rf (16081), cI (l1), cI (l2), cI (l3), cI (l4), l5] [] G (fun r G => r = 7 ∧ Q 0 G) := by
  unfold PX13_compare_207 at h
  unfold vX13_compare_207
  refine g_inc (lv' := [_, _, _, _, _, _]) rfl (Nat.le_of_ble_eq_true rfl) (Or.inr (n1_I _)) rfl ?_
  obtain ⟨q54, h⟩ := h
  exact hj1 _ _ _ _ _ _ hl1 hl2 q54 (n1_I _) hl5 h
def PX13_compare_158 (J : Nat → List Int → gS → (Int → gS → Prop) → Prop) (l1 : Int) (l2 : Int) (l3 : Int) (G : gS) (Q : Int → gS → Prop) : Prop :=
  ((0 : Int) ≤ l2 ∧ ((l2 : Int) < 18 ∧ (inI (G 16097 l2) → ((l3 < G 16097 l2 → (inI ((l2 * 12) + l3) ∧ ((0 : Int) ≤ (l2 * 12) + l3 ∧ (((l2 * 12) + l3 : Int) < 216 ∧ (inL (G 16098 ((l2 * 12) + l3)) → PX13_inSlot l1 (G 16098 ((l2 * 12) + l3)) G (fun r49 G48 => inI r49 → ((r49 = -2 → PX13_differs 70 (-2) ((l2 * 12) + l3) (-2) (-2) G48 (fun _ G52 => PX13_compare_207 J l1 l2 l3 ((l2 * 12) + l3) G52 Q)) ∧ (¬ (r49 = -2) → PX13_compare_207 J l1 l2 l3 ((l2 * 12) + l3) G48 Q)))))))) ∧ (¬ (l3 < G 16097 l2) → Q 0 G)))))
set_option maxRecDepth 20000 in
theorem TX13_compare_158 {j : Nat → rx_K} {J : Nat → List Int → gS → (Int → gS → Prop) → Prop} {l1 : Int} {l2 : Int} {l3 : Int} {l4 : Nat} {l5 : Nat} {G : gS} {Q : Int → gS → Prop} (hl1 : inI l1) (hl2 : inI l2) (hl3 : inI l3) (hl4 : l4 % 8 ≠ 1) (hl5 : l5 % 8 ≠ 1) (hj0 : ∀ (l1 : Int) (l2 : Int) (l3 : Int) (l4 : Nat) (l5 : Nat) (G : gS), (inI l1) → (inI l2) → (inI l3) → (l4 % 8 ≠ 1) → (l5 % 8 ≠ 1) → J 0 [l1, l2, l3] G Q → Tg W0 (j 0) [rf (16081), cI (l1), cI (l2), cI (l3), l4, l5] [] G (fun r G => r = 7 ∧ Q 0 G)) (hj1 : ∀ (l1 : Int) (l2 : Int) (l3 : Int) (l4 : Nat) (l5 : Nat) (G : gS), (inI l1) → (inI l2) → (inI l3) → (l4 % 8 ≠ 1) → (l5 % 8 ≠ 1) → J 1 [l1, l2, l3] G Q → Tg W0 (j 1) [rf (16081), cI (l1), cI (l2), cI (l3), l4, l5] [] G (fun r G => r = 7 ∧ Q 0 G)) (h : PX13_compare_158 J l1 l2 l3 G Q) : Tg W0 (vX13_compare_158 j) [rf (16081), cI (l1), cI (l2), cI (l3), l4, l5] [] G (fun r G => r = 7 ∧ Q 0 G) := by
  unfold PX13_compare_158 at h
  unfold vX13_compare_158
  refine g_ld (v := cI _) rfl (is_I _) ?_
  refine g_ld (v := rf _) rfl (is_R _) ?_
  refine g_getF (v := 16097) oC13 (hC13_23) rfl (Nat.le_of_ble_eq_true rfl) (Nat.le_of_ble_eq_true rfl) ?_
  refine g_ld (v := cI _) rfl (is_I _) ?_
  obtain ⟨q40, q41, h⟩ := h
  refine g_aldI aC16097 q40 q41 rfl fun i42 => ?_
  replace h := h i42
  refine g_lt2 hl3 i42 (fun b43 => ?_) (fun b43 => ?_)
  · replace h := h.1 b43
    unfold vX13_compare_168
    refine g_ld (v := cI _) rfl (is_I _) ?_
    refine g_const (v := cI (12)) rfl ?_
    refine g_mul ?_
    refine g_ld (v := cI _) rfl (is_I _) ?_
    refine g_add ?_
    refine g_st (lv' := [_, _, _, _, _, _]) (is_I _) (Nat.le_of_ble_eq_true rfl) (Or.inr (n1_I _)) rfl ?_
    obtain ⟨q44, h⟩ := h
    refine g_ld (v := rf _) rfl (is_R _) ?_
    refine g_ld (v := cI _) rfl (is_I _) ?_
    refine g_ld (v := rf _) rfl (is_R _) ?_
    refine g_getF (v := 16098) oC13 (hC13_24) rfl (Nat.le_of_ble_eq_true rfl) (Nat.le_of_ble_eq_true rfl) ?_
    refine g_ld (v := cI _) rfl (is_I _) ?_
    obtain ⟨q45, q46, h⟩ := h
    refine g_aldL aC16098 q45 q46 rfl fun i47 => ?_
    replace h := h i47
    refine g_callV (As := [_, _]) (ci := 13) oC13 (fun _ => rfl) ?_
    refine g_go1 (Nat.le_of_ble_eq_true rfl) (Tn_w (TX13_inSlot hl1 i47 h) fun _ G48 ⟨r49, e, i50, h⟩ => ?_)
    subst e
    refine ⟨n7_I _, ?_⟩
    replace h := h i50
    refine g_const (v := cI (-2)) rfl ?_
    refine g_eq2 i50 ⟨by omega, by omega⟩ (fun b51 => ?_) (fun b51 => ?_)
    · replace h := h.1 b51
      unfold vX13_compare_193
      refine g_ld (v := rf _) rfl (is_R _) ?_
      refine g_const (v := cI (70)) rfl ?_
      refine g_const (v := cI (-2)) rfl ?_
      refine g_ld (v := cI _) rfl (is_I _) ?_
      refine g_const (v := cI (-2)) rfl ?_
      refine g_const (v := cI (-2)) rfl ?_
      refine g_callV (As := [_, _, _, _, _]) (ci := 13) oC13 (fun _ => rfl) ?_
      refine g_go0 (Nat.le_of_ble_eq_true rfl) (Tn_w (TX13_differs ⟨by omega, by omega⟩ ⟨by omega, by omega⟩ q44 ⟨by omega, by omega⟩ ⟨by omega, by omega⟩ h) fun _ G52 ⟨e, h⟩ => ⟨e, ?_⟩)
      exact TX13_compare_207 hl1 hl2 hl3 q44 hl5 hj0 hj1 h
    · replace h := h.2 b51
      exact TX13_compare_207 hl1 hl2 hl3 q44 hl5 hj0 hj1 h
  · replace h := h.2 b43
    unfold vX13_compare_213
    exact g_ret0 ⟨rfl, h⟩
def PX13_compare_150 (J : Nat → List Int → gS → (Int → gS → Prop) → Prop) (l1 : Int) (l2 : Int) (l3 : Int) (l4 : Int) (l5 : Int) (G : gS) (Q : Int → gS → Prop) : Prop :=
  (inI (l3 + 1) ∧ J 0 [l1, l2, l3 + 1] G Q)
set_option maxRecDepth 20000 in
theorem TX13_compare_150 {j : Nat → rx_K} {J : Nat → List Int → gS → (Int → gS → Prop) → Prop} {l1 : Int} {l2 : Int} {l3 : Int} {l4 : Int} {l5 : Int} {G : gS} {Q : Int → gS → Prop} (hl1 : inI l1) (hl2 : inI l2) (hl3 : inI l3) (hl4 : inI l4) (hl5 : inI l5) (hj0 : ∀ (l1 : Int) (l2 : Int) (l3 : Int) (l4 : Nat) (l5 : Nat) (G : gS), (inI l1) → (inI l2) → (inI l3) → (l4 % 8 ≠ 1) → (l5 % 8 ≠ 1) → J 0 [l1, l2, l3] G Q → Tg W0 (j 0) [rf (16081), cI (l1), cI (l2), cI (l3), l4, l5] [] G (fun r G => r = 7 ∧ Q 0 G)) (hj1 : ∀ (l1 : Int) (l2 : Int) (l3 : Int) (l4 : Nat) (l5 : Nat) (G : gS), (inI l1) → (inI l2) → (inI l3) → (l4 % 8 ≠ 1) → (l5 % 8 ≠ 1) → J 1 [l1, l2, l3] G Q → Tg W0 (j 1) [rf (16081), cI (l1), cI (l2), cI (l3), l4, l5] [] G (fun r G => r = 7 ∧ Q 0 G)) (h : PX13_compare_150 J l1 l2 l3 l4 l5 G Q) : Tg W0 (vX13_compare_150 j) [rf (16081), cI (l1), cI (l2), cI (l3), cI (l4), cI (l5)] [] G (fun r G => r = 7 ∧ Q 0 G) := by
  unfold PX13_compare_150 at h
  unfold vX13_compare_150
  refine g_inc (lv' := [_, _, _, _, _, _]) rfl (Nat.le_of_ble_eq_true rfl) (Or.inr (n1_I _)) rfl ?_
  obtain ⟨q39, h⟩ := h
  exact hj0 _ _ _ _ _ _ hl1 hl2 q39 (n1_I _) (n1_I _) h
def PX13_compare_7 (J : Nat → List Int → gS → (Int → gS → Prop) → Prop) (l1 : Int) (l2 : Int) (l3 : Int) (G : gS) (Q : Int → gS → Prop) : Prop :=
  ((0 : Int) ≤ l1 ∧ ((l1 : Int) < 18 ∧ (inI (G 16097 l1) → ((l3 < G 16097 l1 → (inI ((l1 * 12) + l3) ∧ ((0 : Int) ≤ (l1 * 12) + l3 ∧ (((l1 * 12) + l3 : Int) < 216 ∧ (inL (G 16098 ((l1 * 12) + l3)) → PX13_inSlot l2 (G 16098 ((l1 * 12) + l3)) G (fun r11 G10 => inI r11 → ((r11 = -2 → PX13_differs 1 ((l1 * 12) + l3) (-2) (-2) (-2) G10 (fun _ G14 => PX13_compare_150 J l1 l2 l3 ((l1 * 12) + l3) r11 G14 Q)) ∧ (¬ (r11 = -2) → PX13_isFace ((l1 * 12) + l3) G10 (fun r17 G16 => (0 ≤ r17 ∧ r17 ≤ 1) → PX13_isFace r11 G16 (fun r20 G19 => (0 ≤ r20 ∧ r20 ≤ 1) → ((r17 = r20 → PX13_compareHeads ((l1 * 12) + l3) r11 G19 (fun _ G23 => PX13_compareFields ((l1 * 12) + l3) r11 G23 (fun _ G25 => PX13_compareMethods ((l1 * 12) + l3) r11 G25 (fun _ G27 => PX13_compareMakers ((l1 * 12) + l3) r11 G27 (fun _ G29 => PX13_sameRest ((l1 * 12) + l3) r11 G29 (fun r32 G31 => (0 ≤ r32 ∧ r32 ≤ 1) → ((r32 = 0 → PX13_differs 60 ((l1 * 12) + l3) r11 (-2) (-2) G31 (fun _ G35 => PX13_compare_150 J l1 l2 l3 ((l1 * 12) + l3) r11 G35 Q)) ∧ (¬ (r32 = 0) → PX13_compare_150 J l1 l2 l3 ((l1 * 12) + l3) r11 G31 Q)))))))) ∧ (¬ (r17 = r20) → PX13_differs 2 ((l1 * 12) + l3) r11 (-2) (-2) G19 (fun _ G37 => PX13_compare_150 J l1 l2 l3 ((l1 * 12) + l3) r11 G37 Q))))))))))))) ∧ (¬ (l3 < G 16097 l1) → PX13_compare_158 J l1 l2 0 G Q)))))
set_option maxRecDepth 20000 in
theorem TX13_compare_7 {j : Nat → rx_K} {J : Nat → List Int → gS → (Int → gS → Prop) → Prop} {l1 : Int} {l2 : Int} {l3 : Int} {l4 : Nat} {l5 : Nat} {G : gS} {Q : Int → gS → Prop} (hl1 : inI l1) (hl2 : inI l2) (hl3 : inI l3) (hl4 : l4 % 8 ≠ 1) (hl5 : l5 % 8 ≠ 1) (hj0 : ∀ (l1 : Int) (l2 : Int) (l3 : Int) (l4 : Nat) (l5 : Nat) (G : gS), (inI l1) → (inI l2) → (inI l3) → (l4 % 8 ≠ 1) → (l5 % 8 ≠ 1) → J 0 [l1, l2, l3] G Q → Tg W0 (j 0) [rf (16081), cI (l1), cI (l2), cI (l3), l4, l5] [] G (fun r G => r = 7 ∧ Q 0 G)) (hj1 : ∀ (l1 : Int) (l2 : Int) (l3 : Int) (l4 : Nat) (l5 : Nat) (G : gS), (inI l1) → (inI l2) → (inI l3) → (l4 % 8 ≠ 1) → (l5 % 8 ≠ 1) → J 1 [l1, l2, l3] G Q → Tg W0 (j 1) [rf (16081), cI (l1), cI (l2), cI (l3), l4, l5] [] G (fun r G => r = 7 ∧ Q 0 G)) (h : PX13_compare_7 J l1 l2 l3 G Q) : Tg W0 (vX13_compare_7 j) [rf (16081), cI (l1), cI (l2), cI (l3), l4, l5] [] G (fun r G => r = 7 ∧ Q 0 G) := by
  unfold PX13_compare_7 at h
  unfold vX13_compare_7
  refine g_ld (v := cI _) rfl (is_I _) ?_
  refine g_ld (v := rf _) rfl (is_R _) ?_
  refine g_getF (v := 16097) oC13 (hC13_23) rfl (Nat.le_of_ble_eq_true rfl) (Nat.le_of_ble_eq_true rfl) ?_
  refine g_ld (v := cI _) rfl (is_I _) ?_
  obtain ⟨q2, q3, h⟩ := h
  refine g_aldI aC16097 q2 q3 rfl fun i4 => ?_
  replace h := h i4
  refine g_lt2 hl3 i4 (fun b5 => ?_) (fun b5 => ?_)
  · replace h := h.1 b5
    unfold vX13_compare_17
    refine g_ld (v := cI _) rfl (is_I _) ?_
    refine g_const (v := cI (12)) rfl ?_
    refine g_mul ?_
    refine g_ld (v := cI _) rfl (is_I _) ?_
    refine g_add ?_
    refine g_st (lv' := [_, _, _, _, _, _]) (is_I _) (Nat.le_of_ble_eq_true rfl) (Or.inr (n1_I _)) rfl ?_
    obtain ⟨q6, h⟩ := h
    refine g_ld (v := rf _) rfl (is_R _) ?_
    refine g_ld (v := cI _) rfl (is_I _) ?_
    refine g_ld (v := rf _) rfl (is_R _) ?_
    refine g_getF (v := 16098) oC13 (hC13_24) rfl (Nat.le_of_ble_eq_true rfl) (Nat.le_of_ble_eq_true rfl) ?_
    refine g_ld (v := cI _) rfl (is_I _) ?_
    obtain ⟨q7, q8, h⟩ := h
    refine g_aldL aC16098 q7 q8 rfl fun i9 => ?_
    replace h := h i9
    refine g_callV (As := [_, _]) (ci := 13) oC13 (fun _ => rfl) ?_
    refine g_go1 (Nat.le_of_ble_eq_true rfl) (Tn_w (TX13_inSlot hl2 i9 h) fun _ G10 ⟨r11, e, i12, h⟩ => ?_)
    subst e
    refine ⟨n7_I _, ?_⟩
    replace h := h i12
    refine g_st (lv' := [_, _, _, _, _, _]) (is_I _) (Nat.le_of_ble_eq_true rfl) (Or.inr (n1_I _)) rfl ?_
    refine g_ld (v := cI _) rfl (is_I _) ?_
    refine g_const (v := cI (-2)) rfl ?_
    refine g_eq2 i12 ⟨by omega, by omega⟩ (fun b13 => ?_) (fun b13 => ?_)
    · replace h := h.1 b13
      unfold vX13_compare_46
      refine g_ld (v := rf _) rfl (is_R _) ?_
      refine g_const (v := cI (1)) rfl ?_
      refine g_ld (v := cI _) rfl (is_I _) ?_
      refine g_const (v := cI (-2)) rfl ?_
      refine g_const (v := cI (-2)) rfl ?_
      refine g_const (v := cI (-2)) rfl ?_
      refine g_callV (As := [_, _, _, _, _]) (ci := 13) oC13 (fun _ => rfl) ?_
      refine g_go0 (Nat.le_of_ble_eq_true rfl) (Tn_w (TX13_differs ⟨by omega, by omega⟩ q6 ⟨by omega, by omega⟩ ⟨by omega, by omega⟩ ⟨by omega, by omega⟩ h) fun _ G14 ⟨e, h⟩ => ⟨e, ?_⟩)
      exact TX13_compare_150 hl1 hl2 hl3 q6 i12 hj0 hj1 h
    · replace h := h.2 b13
      unfold vX13_compare_62
      refine g_ld (v := rf _) rfl (is_R _) ?_
      refine g_ld (v := cI _) rfl (is_I _) ?_
      refine g_callV (As := [_]) (ci := 13) oC13 (fun _ => rfl) ?_
      refine g_go1 (Nat.le_of_ble_eq_true rfl) (Tn_w (TX13_isFace q6 h) fun _ G16 ⟨r17, e, i18, h⟩ => ?_)
      subst e
      refine ⟨n7_I _, ?_⟩
      replace h := h i18
      refine g_ld (v := rf _) rfl (is_R _) ?_
      refine g_ld (v := cI _) rfl (is_I _) ?_
      refine g_callV (As := [_]) (ci := 13) oC13 (fun _ => rfl) ?_
      refine g_go1 (by simp only [cs_c, cs_0, ct_I, ct_L, ct_R]; exact Nat.le_of_ble_eq_true rfl) (Tn_w (TX13_isFace i12 h) fun _ G19 ⟨r20, e, i21, h⟩ => ?_)
      subst e
      refine ⟨n7_I _, ?_⟩
      replace h := h i21
      refine g_eq2 ⟨by omega, by omega⟩ ⟨by omega, by omega⟩ (fun b22 => ?_) (fun b22 => ?_)
      · replace h := h.1 b22
        unfold vX13_compare_93
        refine g_ld (v := rf _) rfl (is_R _) ?_
        refine g_ld (v := cI _) rfl (is_I _) ?_
        refine g_ld (v := cI _) rfl (is_I _) ?_
        refine g_callV (As := [_, _]) (ci := 13) oC13 (fun _ => rfl) ?_
        refine g_go0 (Nat.le_of_ble_eq_true rfl) (Tn_w (TX13_compareHeads q6 i12 h) fun _ G23 ⟨e, h⟩ => ⟨e, ?_⟩)
        refine g_ld (v := rf _) rfl (is_R _) ?_
        refine g_ld (v := cI _) rfl (is_I _) ?_
        refine g_ld (v := cI _) rfl (is_I _) ?_
        refine g_callV (As := [_, _]) (ci := 13) oC13 (fun _ => rfl) ?_
        refine g_go0 (Nat.le_of_ble_eq_true rfl) (Tn_w (TX13_compareFields q6 i12 h) fun _ G25 ⟨e, h⟩ => ⟨e, ?_⟩)
        refine g_ld (v := rf _) rfl (is_R _) ?_
        refine g_ld (v := cI _) rfl (is_I _) ?_
        refine g_ld (v := cI _) rfl (is_I _) ?_
        refine g_callV (As := [_, _]) (ci := 13) oC13 (fun _ => rfl) ?_
        refine g_go0 (Nat.le_of_ble_eq_true rfl) (Tn_w (TX13_compareMethods q6 i12 h) fun _ G27 ⟨e, h⟩ => ⟨e, ?_⟩)
        refine g_ld (v := rf _) rfl (is_R _) ?_
        refine g_ld (v := cI _) rfl (is_I _) ?_
        refine g_ld (v := cI _) rfl (is_I _) ?_
        refine g_callV (As := [_, _]) (ci := 13) oC13 (fun _ => rfl) ?_
        refine g_go0 (Nat.le_of_ble_eq_true rfl) (Tn_w (TX13_compareMakers q6 i12 h) fun _ G29 ⟨e, h⟩ => ⟨e, ?_⟩)
        refine g_ld (v := rf _) rfl (is_R _) ?_
        refine g_ld (v := cI _) rfl (is_I _) ?_
        refine g_ld (v := cI _) rfl (is_I _) ?_
        refine g_callV (As := [_, _]) (ci := 13) oC13 (fun _ => rfl) ?_
        refine g_go1 (Nat.le_of_ble_eq_true rfl) (Tn_w (TX13_sameRest q6 i12 h) fun _ G31 ⟨r32, e, i33, h⟩ => ?_)
        subst e
        refine ⟨n7_I _, ?_⟩
        replace h := h i33
        refine g_eq1 ⟨by omega, by omega⟩ (fun b34 => ?_) (fun b34 => ?_)
        · replace h := h.1 b34
          unfold vX13_compare_136
          refine g_ld (v := rf _) rfl (is_R _) ?_
          refine g_const (v := cI (60)) rfl ?_
          refine g_ld (v := cI _) rfl (is_I _) ?_
          refine g_ld (v := cI _) rfl (is_I _) ?_
          refine g_const (v := cI (-2)) rfl ?_
          refine g_const (v := cI (-2)) rfl ?_
          refine g_callV (As := [_, _, _, _, _]) (ci := 13) oC13 (fun _ => rfl) ?_
          refine g_go0 (Nat.le_of_ble_eq_true rfl) (Tn_w (TX13_differs ⟨by omega, by omega⟩ q6 i12 ⟨by omega, by omega⟩ ⟨by omega, by omega⟩ h) fun _ G35 ⟨e, h⟩ => ⟨e, ?_⟩)
          exact TX13_compare_150 hl1 hl2 hl3 q6 i12 hj0 hj1 h
        · replace h := h.2 b34
          exact TX13_compare_150 hl1 hl2 hl3 q6 i12 hj0 hj1 h
      · replace h := h.2 b22
        unfold vX13_compare_77
        refine g_ld (v := rf _) rfl (is_R _) ?_
        refine g_const (v := cI (2)) rfl ?_
        refine g_ld (v := cI _) rfl (is_I _) ?_
        refine g_ld (v := cI _) rfl (is_I _) ?_
        refine g_const (v := cI (-2)) rfl ?_
        refine g_const (v := cI (-2)) rfl ?_
        refine g_callV (As := [_, _, _, _, _]) (ci := 13) oC13 (fun _ => rfl) ?_
        refine g_go0 (Nat.le_of_ble_eq_true rfl) (Tn_w (TX13_differs ⟨by omega, by omega⟩ q6 i12 ⟨by omega, by omega⟩ ⟨by omega, by omega⟩ h) fun _ G37 ⟨e, h⟩ => ⟨e, ?_⟩)
        exact TX13_compare_150 hl1 hl2 hl3 q6 i12 hj0 hj1 h
  · replace h := h.2 b5
    unfold vX13_compare_156
    refine g_const (v := cI (0)) rfl ?_
    refine g_st (lv' := [_, _, _, _, _, _]) (is_I _) (Nat.le_of_ble_eq_true rfl) (Or.inr (n1_I _)) rfl ?_
    exact TX13_compare_158 hl1 hl2 ⟨by omega, by omega⟩ hl4 hl5 hj0 hj1 h
def PX13_compare_0 (J : Nat → List Int → gS → (Int → gS → Prop) → Prop) (a1 : Int) (a2 : Int) (G : gS) (Q : Int → gS → Prop) : Prop :=
  (∀ G1 : gS, G1 = uG G 16081 175 (0) → PX13_compare_7 J a1 a2 0 G1 Q)
set_option maxRecDepth 20000 in
theorem TX13_compare_0 {j : Nat → rx_K} {J : Nat → List Int → gS → (Int → gS → Prop) → Prop} {a1 : Int} {a2 : Int} {G : gS} {Q : Int → gS → Prop} (ha1 : inI a1) (ha2 : inI a2) (hj0 : ∀ (l1 : Int) (l2 : Int) (l3 : Int) (l4 : Nat) (l5 : Nat) (G : gS), (inI l1) → (inI l2) → (inI l3) → (l4 % 8 ≠ 1) → (l5 % 8 ≠ 1) → J 0 [l1, l2, l3] G Q → Tg W0 (j 0) [rf (16081), cI (l1), cI (l2), cI (l3), l4, l5] [] G (fun r G => r = 7 ∧ Q 0 G)) (hj1 : ∀ (l1 : Int) (l2 : Int) (l3 : Int) (l4 : Nat) (l5 : Nat) (G : gS), (inI l1) → (inI l2) → (inI l3) → (l4 % 8 ≠ 1) → (l5 % 8 ≠ 1) → J 1 [l1, l2, l3] G Q → Tg W0 (j 1) [rf (16081), cI (l1), cI (l2), cI (l3), l4, l5] [] G (fun r G => r = 7 ∧ Q 0 G)) (h : PX13_compare_0 J a1 a2 G Q) : Tg W0 (vX13_compare_0 j) [rf (16081), cI (a1), cI (a2), 7, 7, 7] [] G (fun r G => r = 7 ∧ Q 0 G) := by
  unfold PX13_compare_0 at h
  unfold vX13_compare_0
  refine g_ld (v := rf _) rfl (is_R _) ?_
  refine g_const (v := cI (0)) rfl ?_
  refine g_putI (kz := 175) oC13 rfl (Nat.le_of_ble_eq_true rfl) rfl ⟨by omega, by omega⟩ (zfin_no (c := 16081) (j := 175) rfl) ?_
  replace h := h _ rfl
  refine g_const (v := cI (0)) rfl ?_
  refine g_st (lv' := [_, _, _, _, _, _]) (is_I _) (Nat.le_of_ble_eq_true rfl) (Or.inr (n1_I _)) rfl ?_
  exact TX13_compare_7 ha1 ha2 ⟨by omega, by omega⟩ (show 7 % 8 ≠ 1 by decide) (show 7 % 8 ≠ 1 by decide) hj0 hj1 h
def PX13_compare_J : Nat → Nat → List Int → gS → (Int → gS → Prop) → Prop
  | 0, _, _, _, _ => False
  | f + 1, h, L, G, Q => match h, L with
    | 0, [l1, l2, l3] => PX13_compare_7 (PX13_compare_J f) l1 l2 l3 G Q
    | 1, [l1, l2, l3] => PX13_compare_158 (PX13_compare_J f) l1 l2 l3 G Q
    | _, _ => False
theorem TX13_compare_J {Q : Int → gS → Prop} : ∀ f N : Nat, f ≤ N → (∀ (l1 : Int) (l2 : Int) (l3 : Int) (l4 : Nat) (l5 : Nat) (G : gS), (inI l1) → (inI l2) → (inI l3) → (l4 % 8 ≠ 1) → (l5 % 8 ≠ 1) → (PX13_compare_J f) 0 [l1, l2, l3] G Q → Tg W0 (rx_J vhX13_compare N 0) [rf (16081), cI (l1), cI (l2), cI (l3), l4, l5] [] G (fun r G => r = 7 ∧ Q 0 G)) ∧ (∀ (l1 : Int) (l2 : Int) (l3 : Int) (l4 : Nat) (l5 : Nat) (G : gS), (inI l1) → (inI l2) → (inI l3) → (l4 % 8 ≠ 1) → (l5 % 8 ≠ 1) → (PX13_compare_J f) 1 [l1, l2, l3] G Q → Tg W0 (rx_J vhX13_compare N 1) [rf (16081), cI (l1), cI (l2), cI (l3), l4, l5] [] G (fun r G => r = 7 ∧ Q 0 G)) := by
  intro f
  induction f with
  | zero => exact fun N _ => ⟨fun _ _ _ _ _ _ _ _ _ _ _ h => h.elim, fun _ _ _ _ _ _ _ _ _ _ _ h => h.elim⟩
  | succ f ih =>
    intro N hN
    obtain ⟨M, rfl⟩ : ∃ M, N = M + 1 := ⟨N - 1, by omega⟩
    have ih := ih M (by omega)
    exact ⟨fun _ _ _ _ _ _ hl1 hl2 hl3 hl4 hl5 h => show Tg W0 (vX13_compare_7 (rx_J vhX13_compare M)) _ _ _ _ from TX13_compare_7 hl1 hl2 hl3 hl4 hl5 ih.1 ih.2 h, fun _ _ _ _ _ _ hl1 hl2 hl3 hl4 hl5 h => show Tg W0 (vX13_compare_158 (rx_J vhX13_compare M)) _ _ _ _ from TX13_compare_158 hl1 hl2 hl3 hl4 hl5 ih.1 ih.2 h⟩
def PX13_compare (a1 : Int) (a2 : Int) (G : gS) (Q : Int → gS → Prop) : Prop := ∃ f : Nat, f ≤ 4000000000 ∧ PX13_compare_0 (PX13_compare_J f) a1 a2 G Q
theorem TX13_compare {a1 : Int} {a2 : Int} {G : gS} {Q : Int → gS → Prop} (ha1 : inI a1) (ha2 : inI a2) (h : PX13_compare a1 a2 G Q) : Tn W0 FX13_compare [rf (16081), cI (a1), cI (a2)] G (fun r G => r = 7 ∧ Q 0 G) := by
  obtain ⟨f, hf, h⟩ := h
  have hJ := TX13_compare_J (Q := Q) f 4000000000 hf
  unfold FX13_compare
  refine g_ent (lv' := [rf (16081), cI (a1), cI (a2), 7, 7, 7]) (flR (flI (flI fl0))) (Nat.le_of_ble_eq_true rfl) rfl ?_
  exact TX13_compare_0 ha1 ha2 hJ.1 hJ.2 h
def PX13_differ_30 (l1 : Int) (l2 : Int) (l3 : Int) (l4 : Int) (l5 : Int) (G : gS) (Q : Int → gS → Prop) : Prop :=
  Q (-1) G
set_option maxRecDepth 20000 in
theorem TX13_differ_30 {l1 : Int} {l2 : Int} {l3 : Int} {l4 : Int} {l5 : Int} {G : gS} {Q : Int → gS → Prop} (hl1 : inI l1) (hl2 : inI l2) (hl3 : inI l3) (hl4 : inI l4) (hl5 : inI l5) (h : PX13_differ_30 l1 l2 l3 l4 l5 G Q) : Tg W0 vX13_differ_30 [rf (16081), cI (l1), cI (l2), cI (l3), cI (l4), cI (l5)] [] G (fun r G => ∃ v, r = cI v ∧ inI v ∧ Q v G) := by
  unfold PX13_differ_30 at h
  unfold vX13_differ_30
  refine g_const (v := cI (-1)) rfl ?_
  exact g_ret1 (is_I _) ⟨_, rfl, ⟨by omega, by omega⟩, h⟩
def PX13_differ_0 (a1 : Int) (a2 : Int) (a3 : Int) (G : gS) (Q : Int → gS → Prop) : Prop :=
  PX13_slotAt a1 a2 G (fun r2 G1 => inI r2 → PX13_slotAt a1 a3 G1 (fun r5 G4 => inI r5 → ((r2 = -2 → PX13_differ_30 a1 a2 a3 r2 r5 G4 Q) ∧ (¬ (r2 = -2) → ((r5 = -2 → PX13_differ_30 a1 a2 a3 r2 r5 G4 Q) ∧ (¬ (r5 = -2) → PX13_compare r2 r5 G4 (fun _ G9 => (inI (G9 16081 175) → Q (G9 16081 175) G9))))))))
set_option maxRecDepth 20000 in
theorem TX13_differ_0 {a1 : Int} {a2 : Int} {a3 : Int} {G : gS} {Q : Int → gS → Prop} (ha1 : inI a1) (ha2 : inI a2) (ha3 : inI a3) (h : PX13_differ_0 a1 a2 a3 G Q) : Tg W0 vX13_differ_0 [rf (16081), cI (a1), cI (a2), cI (a3), 7, 7] [] G (fun r G => ∃ v, r = cI v ∧ inI v ∧ Q v G) := by
  unfold PX13_differ_0 at h
  unfold vX13_differ_0
  refine g_ld (v := rf _) rfl (is_R _) ?_
  refine g_ld (v := cI _) rfl (is_I _) ?_
  refine g_ld (v := cI _) rfl (is_I _) ?_
  refine g_callV (As := [_, _]) (ci := 13) oC13 (fun _ => rfl) ?_
  refine g_go1 (Nat.le_of_ble_eq_true rfl) (Tn_w (TX13_slotAt ha1 ha2 h) fun _ G1 ⟨r2, e, i3, h⟩ => ?_)
  subst e
  refine ⟨n7_I _, ?_⟩
  replace h := h i3
  refine g_st (lv' := [_, _, _, _, _, _]) (is_I _) (Nat.le_of_ble_eq_true rfl) (Or.inr (n1_I _)) rfl ?_
  refine g_ld (v := rf _) rfl (is_R _) ?_
  refine g_ld (v := cI _) rfl (is_I _) ?_
  refine g_ld (v := cI _) rfl (is_I _) ?_
  refine g_callV (As := [_, _]) (ci := 13) oC13 (fun _ => rfl) ?_
  refine g_go1 (Nat.le_of_ble_eq_true rfl) (Tn_w (TX13_slotAt ha1 ha3 h) fun _ G4 ⟨r5, e, i6, h⟩ => ?_)
  subst e
  refine ⟨n7_I _, ?_⟩
  replace h := h i6
  refine g_st (lv' := [_, _, _, _, _, _]) (is_I _) (Nat.le_of_ble_eq_true rfl) (Or.inr (n1_I _)) rfl ?_
  refine g_ld (v := cI _) rfl (is_I _) ?_
  refine g_const (v := cI (-2)) rfl ?_
  refine g_eq2 i3 ⟨by omega, by omega⟩ (fun b7 => ?_) (fun b7 => ?_)
  · replace h := h.1 b7
    exact TX13_differ_30 ha1 ha2 ha3 i3 i6 h
  · replace h := h.2 b7
    unfold vX13_differ_23
    refine g_ld (v := cI _) rfl (is_I _) ?_
    refine g_const (v := cI (-2)) rfl ?_
    refine g_eq2 i6 ⟨by omega, by omega⟩ (fun b8 => ?_) (fun b8 => ?_)
    · replace h := h.1 b8
      exact TX13_differ_30 ha1 ha2 ha3 i3 i6 h
    · replace h := h.2 b8
      unfold vX13_differ_32
      refine g_ld (v := rf _) rfl (is_R _) ?_
      refine g_ld (v := cI _) rfl (is_I _) ?_
      refine g_ld (v := cI _) rfl (is_I _) ?_
      refine g_callV (As := [_, _]) (ci := 13) oC13 (fun _ => rfl) ?_
      refine g_go0 (Nat.le_of_ble_eq_true rfl) (Tn_w (TX13_compare i3 i6 h) fun _ G9 ⟨e, h⟩ => ⟨e, ?_⟩)
      refine g_ld (v := rf _) rfl (is_R _) ?_
      refine g_getI (kz := 175) oC13 rfl (Nat.le_of_ble_eq_true rfl) rfl fun i11 => ?_
      replace h := h i11
      exact g_ret1 (is_I _) ⟨_, rfl, i11, h⟩
abbrev PX13_differ (a1 : Int) (a2 : Int) (a3 : Int) (G : gS) (Q : Int → gS → Prop) : Prop := PX13_differ_0 a1 a2 a3 G Q
theorem TX13_differ {a1 : Int} {a2 : Int} {a3 : Int} {G : gS} {Q : Int → gS → Prop} (ha1 : inI a1) (ha2 : inI a2) (ha3 : inI a3) (h : PX13_differ a1 a2 a3 G Q) : Tn W0 FX13_differ [rf (16081), cI (a1), cI (a2), cI (a3)] G (fun r G => ∃ v, r = cI v ∧ inI v ∧ Q v G) := by
  unfold FX13_differ
  refine g_ent (lv' := [rf (16081), cI (a1), cI (a2), cI (a3), 7, 7]) (flR (flI (flI (flI fl0)))) (Nat.le_of_ble_eq_true rfl) rfl ?_
  exact TX13_differ_0 ha1 ha2 ha3 h
def PX13_change_35 (l1 : Int) (l2 : Int) (s0 : Int) (G : gS) (Q : Int → gS → Prop) : Prop :=
  Q (s0) G
set_option maxRecDepth 20000 in
theorem TX13_change_35 {l1 : Int} {l2 : Int} {s0 : Int} {G : gS} {Q : Int → gS → Prop} (hl1 : inI l1) (hl2 : inI l2) (hs0 : inI s0) (h : PX13_change_35 l1 l2 s0 G Q) : Tg W0 vX13_change_35 [rf (16081), cI (l1), cI (l2)] [cI (s0)] G (fun r G => ∃ v, r = cI v ∧ inI v ∧ Q v G) := by
  unfold PX13_change_35 at h
  unfold vX13_change_35
  exact g_ret1 (is_I _) ⟨_, rfl, hs0, h⟩
def PX13_change_21 (l1 : Int) (l2 : Int) (G : gS) (Q : Int → gS → Prop) : Prop :=
  PX13_change_35 l1 l2 (-1) G Q
set_option maxRecDepth 20000 in
theorem TX13_change_21 {l1 : Int} {l2 : Int} {G : gS} {Q : Int → gS → Prop} (hl1 : inI l1) (hl2 : inI l2) (h : PX13_change_21 l1 l2 G Q) : Tg W0 vX13_change_21 [rf (16081), cI (l1), cI (l2)] [] G (fun r G => ∃ v, r = cI v ∧ inI v ∧ Q v G) := by
  unfold PX13_change_21 at h
  unfold vX13_change_21
  refine g_const (v := cI (-1)) rfl ?_
  exact TX13_change_35 hl1 hl2 ⟨by omega, by omega⟩ h
def PX13_change_0 (a1 : Int) (a2 : Int) (G : gS) (Q : Int → gS → Prop) : Prop :=
  ((a1 < 0 → PX13_change_21 a1 a2 G Q) ∧ (¬ (a1 < 0) → (inI (G 16081 175) → ((a1 < G 16081 175 → ((a2 < 0 → PX13_change_21 a1 a2 G Q) ∧ (¬ (a2 < 0) → ((4 < a2 → PX13_change_21 a1 a2 G Q) ∧ (¬ (4 < a2) → ((0 : Int) ≤ (5 * a1) + a2 ∧ (((5 * a1) + a2 : Int) < 30000 ∧ (inI (G 16212 ((5 * a1) + a2)) → PX13_change_35 a1 a2 (G 16212 ((5 * a1) + a2)) G Q)))))))) ∧ (¬ (a1 < G 16081 175) → PX13_change_21 a1 a2 G Q)))))
set_option maxRecDepth 20000 in
theorem TX13_change_0 {a1 : Int} {a2 : Int} {G : gS} {Q : Int → gS → Prop} (ha1 : inI a1) (ha2 : inI a2) (h : PX13_change_0 a1 a2 G Q) : Tg W0 vX13_change_0 [rf (16081), cI (a1), cI (a2)] [] G (fun r G => ∃ v, r = cI v ∧ inI v ∧ Q v G) := by
  unfold PX13_change_0 at h
  unfold vX13_change_0
  refine g_ld (v := cI _) rfl (is_I _) ?_
  refine g_lt1 ha1 (fun b1 => ?_) (fun b1 => ?_)
  · replace h := h.1 b1
    exact TX13_change_21 ha1 ha2 h
  · replace h := h.2 b1
    unfold vX13_change_4
    refine g_ld (v := cI _) rfl (is_I _) ?_
    refine g_ld (v := rf _) rfl (is_R _) ?_
    refine g_getI (kz := 175) oC13 rfl (Nat.le_of_ble_eq_true rfl) rfl fun i2 => ?_
    replace h := h i2
    refine g_lt2 ha1 i2 (fun b3 => ?_) (fun b3 => ?_)
    · replace h := h.1 b3
      unfold vX13_change_12
      refine g_ld (v := cI _) rfl (is_I _) ?_
      refine g_lt1 ha2 (fun b4 => ?_) (fun b4 => ?_)
      · replace h := h.1 b4
        exact TX13_change_21 ha1 ha2 h
      · replace h := h.2 b4
        unfold vX13_change_16
        refine g_ld (v := cI _) rfl (is_I _) ?_
        refine g_const (v := cI (4)) rfl ?_
        refine g_gt2 ha2 ⟨by omega, by omega⟩ (fun b5 => ?_) (fun b5 => ?_)
        · replace h := h.1 b5
          exact TX13_change_21 ha1 ha2 h
        · replace h := h.2 b5
          unfold vX13_change_25
          refine g_ld (v := rf _) rfl (is_R _) ?_
          refine g_getF (v := 16212) oC13 (hC13_174) rfl (Nat.le_of_ble_eq_true rfl) (Nat.le_of_ble_eq_true rfl) ?_
          refine g_const (v := cI (5)) rfl ?_
          refine g_ld (v := cI _) rfl (is_I _) ?_
          refine g_mul ?_
          refine g_ld (v := cI _) rfl (is_I _) ?_
          refine g_add ?_
          obtain ⟨q6, q7, h⟩ := h
          refine g_aldI aC16212 q6 q7 rfl fun i8 => ?_
          replace h := h i8
          exact TX13_change_35 ha1 ha2 i8 h
    · replace h := h.2 b3
      exact TX13_change_21 ha1 ha2 h
abbrev PX13_change (a1 : Int) (a2 : Int) (G : gS) (Q : Int → gS → Prop) : Prop := PX13_change_0 a1 a2 G Q
theorem TX13_change {a1 : Int} {a2 : Int} {G : gS} {Q : Int → gS → Prop} (ha1 : inI a1) (ha2 : inI a2) (h : PX13_change a1 a2 G Q) : Tn W0 FX13_change [rf (16081), cI (a1), cI (a2)] G (fun r G => ∃ v, r = cI v ∧ inI v ∧ Q v G) := by
  unfold FX13_change
  refine g_ent (lv' := [rf (16081), cI (a1), cI (a2)]) (flR (flI (flI fl0))) (Nat.le_of_ble_eq_true rfl) rfl ?_
  exact TX13_change_0 ha1 ha2 h
def PX13_bridgesOf_34 (J : Nat → List Int → gS → (Int → gS → Prop) → Prop) (l1 : Int) (l2 : Int) (l3 : Int) (s0 : Int) (s1 : Int) (G : gS) (Q : Int → gS → Prop) : Prop :=
  (inI (s0 + s1) ∧ (inI (l3 + 1) ∧ J 0 [l1, s0 + s1, l3 + 1] G Q))
set_option maxRecDepth 20000 in
theorem TX13_bridgesOf_34 {j : Nat → rx_K} {J : Nat → List Int → gS → (Int → gS → Prop) → Prop} {l1 : Int} {l2 : Int} {l3 : Int} {s0 : Int} {s1 : Int} {G : gS} {Q : Int → gS → Prop} (hl1 : inI l1) (hl2 : inI l2) (hl3 : inI l3) (hs0 : inI s0) (hs1 : inI s1) (hj0 : ∀ (l1 : Int) (l2 : Int) (l3 : Int) (G : gS), (inI l1) → (inI l2) → (inI l3) → J 0 [l1, l2, l3] G Q → Tg W0 (j 0) [rf (16081), cI (l1), cI (l2), cI (l3)] [] G (fun r G => ∃ v, r = cI v ∧ inI v ∧ Q v G)) (h : PX13_bridgesOf_34 J l1 l2 l3 s0 s1 G Q) : Tg W0 (vX13_bridgesOf_34 j) [rf (16081), cI (l1), cI (l2), cI (l3)] [cI (s1), cI (s0)] G (fun r G => ∃ v, r = cI v ∧ inI v ∧ Q v G) := by
  unfold PX13_bridgesOf_34 at h
  unfold vX13_bridgesOf_34
  refine g_add ?_
  refine g_st (lv' := [_, _, _, _]) (is_I _) (Nat.le_of_ble_eq_true rfl) (Or.inr (n1_I _)) rfl ?_
  obtain ⟨q9, h⟩ := h
  refine g_inc (lv' := [_, _, _, _]) rfl (Nat.le_of_ble_eq_true rfl) (Or.inr (n1_I _)) rfl ?_
  obtain ⟨q10, h⟩ := h
  exact hj0 _ _ _ _ hl1 q9 q10 h
def PX13_bridgesOf_4 (J : Nat → List Int → gS → (Int → gS → Prop) → Prop) (l1 : Int) (l2 : Int) (l3 : Int) (G : gS) (Q : Int → gS → Prop) : Prop :=
  ((0 : Int) ≤ l1 ∧ ((l1 : Int) < 216 ∧ (inI (G 16115 l1) → ((l3 < G 16115 l1 → ((0 : Int) ≤ (l1 * 34) + l3 ∧ (((l1 * 34) + l3 : Int) < 7344 ∧ ((0 ≤ G 16123 ((l1 * 34) + l3) ∧ G 16123 ((l1 * 34) + l3) ≤ 1) → ((G 16123 ((l1 * 34) + l3) = 0 → PX13_bridgesOf_34 J l1 l2 l3 l2 0 G Q) ∧ (¬ (G 16123 ((l1 * 34) + l3) = 0) → PX13_bridgesOf_34 J l1 l2 l3 l2 1 G Q)))))) ∧ (¬ (l3 < G 16115 l1) → Q (l2) G)))))
set_option maxRecDepth 20000 in
theorem TX13_bridgesOf_4 {j : Nat → rx_K} {J : Nat → List Int → gS → (Int → gS → Prop) → Prop} {l1 : Int} {l2 : Int} {l3 : Int} {G : gS} {Q : Int → gS → Prop} (hl1 : inI l1) (hl2 : inI l2) (hl3 : inI l3) (hj0 : ∀ (l1 : Int) (l2 : Int) (l3 : Int) (G : gS), (inI l1) → (inI l2) → (inI l3) → J 0 [l1, l2, l3] G Q → Tg W0 (j 0) [rf (16081), cI (l1), cI (l2), cI (l3)] [] G (fun r G => ∃ v, r = cI v ∧ inI v ∧ Q v G)) (h : PX13_bridgesOf_4 J l1 l2 l3 G Q) : Tg W0 (vX13_bridgesOf_4 j) [rf (16081), cI (l1), cI (l2), cI (l3)] [] G (fun r G => ∃ v, r = cI v ∧ inI v ∧ Q v G) := by
  unfold PX13_bridgesOf_4 at h
  unfold vX13_bridgesOf_4
  refine g_ld (v := cI _) rfl (is_I _) ?_
  refine g_ld (v := rf _) rfl (is_R _) ?_
  refine g_getF (v := 16115) oC13 (hC13_41) rfl (Nat.le_of_ble_eq_true rfl) (Nat.le_of_ble_eq_true rfl) ?_
  refine g_ld (v := cI _) rfl (is_I _) ?_
  obtain ⟨q1, q2, h⟩ := h
  refine g_aldI aC16115 q1 q2 rfl fun i3 => ?_
  replace h := h i3
  refine g_lt2 hl3 i3 (fun b4 => ?_) (fun b4 => ?_)
  · replace h := h.1 b4
    unfold vX13_bridgesOf_14
    refine g_ld (v := cI _) rfl (is_I _) ?_
    refine g_ld (v := rf _) rfl (is_R _) ?_
    refine g_getF (v := 16123) oC13 (hC13_49) rfl (Nat.le_of_ble_eq_true rfl) (Nat.le_of_ble_eq_true rfl) ?_
    refine g_ld (v := cI _) rfl (is_I _) ?_
    refine g_const (v := cI (34)) rfl ?_
    refine g_mul ?_
    refine g_ld (v := cI _) rfl (is_I _) ?_
    refine g_add ?_
    obtain ⟨q5, q6, h⟩ := h
    refine g_aldZ aC16123 q5 q6 rfl fun i7 => ?_
    replace h := h i7
    refine g_eq1 ⟨by omega, by omega⟩ (fun b8 => ?_) (fun b8 => ?_)
    · replace h := h.1 b8
      unfold vX13_bridgesOf_33
      refine g_const (v := cI (0)) rfl ?_
      exact TX13_bridgesOf_34 hl1 hl2 hl3 hl2 ⟨by omega, by omega⟩ hj0 h
    · replace h := h.2 b8
      unfold vX13_bridgesOf_29
      refine g_const (v := cI (1)) rfl ?_
      exact TX13_bridgesOf_34 hl1 hl2 hl3 hl2 ⟨by omega, by omega⟩ hj0 h
  · replace h := h.2 b4
    unfold vX13_bridgesOf_42
    refine g_ld (v := cI _) rfl (is_I _) ?_
    exact g_ret1 (is_I _) ⟨_, rfl, hl2, h⟩
def PX13_bridgesOf_0 (J : Nat → List Int → gS → (Int → gS → Prop) → Prop) (a1 : Int) (G : gS) (Q : Int → gS → Prop) : Prop :=
  PX13_bridgesOf_4 J a1 0 0 G Q
set_option maxRecDepth 20000 in
theorem TX13_bridgesOf_0 {j : Nat → rx_K} {J : Nat → List Int → gS → (Int → gS → Prop) → Prop} {a1 : Int} {G : gS} {Q : Int → gS → Prop} (ha1 : inI a1) (hj0 : ∀ (l1 : Int) (l2 : Int) (l3 : Int) (G : gS), (inI l1) → (inI l2) → (inI l3) → J 0 [l1, l2, l3] G Q → Tg W0 (j 0) [rf (16081), cI (l1), cI (l2), cI (l3)] [] G (fun r G => ∃ v, r = cI v ∧ inI v ∧ Q v G)) (h : PX13_bridgesOf_0 J a1 G Q) : Tg W0 (vX13_bridgesOf_0 j) [rf (16081), cI (a1), 7, 7] [] G (fun r G => ∃ v, r = cI v ∧ inI v ∧ Q v G) := by
  unfold PX13_bridgesOf_0 at h
  unfold vX13_bridgesOf_0
  refine g_const (v := cI (0)) rfl ?_
  refine g_st (lv' := [_, _, _, _]) (is_I _) (Nat.le_of_ble_eq_true rfl) (Or.inr (n1_I _)) rfl ?_
  refine g_const (v := cI (0)) rfl ?_
  refine g_st (lv' := [_, _, _, _]) (is_I _) (Nat.le_of_ble_eq_true rfl) (Or.inr (n1_I _)) rfl ?_
  exact TX13_bridgesOf_4 ha1 ⟨by omega, by omega⟩ ⟨by omega, by omega⟩ hj0 h
def PX13_bridgesOf_J : Nat → Nat → List Int → gS → (Int → gS → Prop) → Prop
  | 0, _, _, _, _ => False
  | f + 1, h, L, G, Q => match h, L with
    | 0, [l1, l2, l3] => PX13_bridgesOf_4 (PX13_bridgesOf_J f) l1 l2 l3 G Q
    | _, _ => False
theorem TX13_bridgesOf_J {Q : Int → gS → Prop} : ∀ f N : Nat, f ≤ N → (∀ (l1 : Int) (l2 : Int) (l3 : Int) (G : gS), (inI l1) → (inI l2) → (inI l3) → (PX13_bridgesOf_J f) 0 [l1, l2, l3] G Q → Tg W0 (rx_J vhX13_bridgesOf N 0) [rf (16081), cI (l1), cI (l2), cI (l3)] [] G (fun r G => ∃ v, r = cI v ∧ inI v ∧ Q v G)) := by
  intro f
  induction f with
  | zero => exact fun N _ => fun _ _ _ _ _ _ _ h => h.elim
  | succ f ih =>
    intro N hN
    obtain ⟨M, rfl⟩ : ∃ M, N = M + 1 := ⟨N - 1, by omega⟩
    have ih := ih M (by omega)
    exact fun _ _ _ _ hl1 hl2 hl3 h => show Tg W0 (vX13_bridgesOf_4 (rx_J vhX13_bridgesOf M)) _ _ _ _ from TX13_bridgesOf_4 hl1 hl2 hl3 ih h
def PX13_bridgesOf (a1 : Int) (G : gS) (Q : Int → gS → Prop) : Prop := ∃ f : Nat, f ≤ 4000000000 ∧ PX13_bridgesOf_0 (PX13_bridgesOf_J f) a1 G Q
theorem TX13_bridgesOf {a1 : Int} {G : gS} {Q : Int → gS → Prop} (ha1 : inI a1) (h : PX13_bridgesOf a1 G Q) : Tn W0 FX13_bridgesOf [rf (16081), cI (a1)] G (fun r G => ∃ v, r = cI v ∧ inI v ∧ Q v G) := by
  obtain ⟨f, hf, h⟩ := h
  have hJ := TX13_bridgesOf_J (Q := Q) f 4000000000 hf
  unfold FX13_bridgesOf
  refine g_ent (lv' := [rf (16081), cI (a1), 7, 7]) (flR (flI fl0)) (Nat.le_of_ble_eq_true rfl) rfl ?_
  exact TX13_bridgesOf_0 ha1 hJ h
def PX13_copyClasses_0 (a1 : Int) (a2 : Int) (G : gS) (Q : Int → gS → Prop) : Prop :=
  ((0 : Int) ≤ a1 ∧ ((a1 + 12 : Int) ≤ 216 ∧ ((0 : Int) ≤ a2 ∧ ((a2 + 12 : Int) ≤ 216 ∧ ((0 : Int) ≤ 12 ∧ (∀ G6 : gS, G6 = cpG G 16098 a1 16098 a2 12 → ((0 : Int) ≤ a1 ∧ ((a1 + 12 : Int) ≤ 216 ∧ ((0 : Int) ≤ a2 ∧ ((a2 + 12 : Int) ≤ 216 ∧ ((0 : Int) ≤ 12 ∧ (∀ G12 : gS, G12 = cpG G6 16099 a1 16099 a2 12 → ((0 : Int) ≤ a1 ∧ ((a1 + 12 : Int) ≤ 216 ∧ ((0 : Int) ≤ a2 ∧ ((a2 + 12 : Int) ≤ 216 ∧ ((0 : Int) ≤ 12 ∧ (∀ G18 : gS, G18 = cpG G12 16100 a1 16100 a2 12 → ((0 : Int) ≤ a1 ∧ ((a1 + 12 : Int) ≤ 216 ∧ ((0 : Int) ≤ a2 ∧ ((a2 + 12 : Int) ≤ 216 ∧ ((0 : Int) ≤ 12 ∧ (∀ G24 : gS, G24 = cpG G18 16101 a1 16101 a2 12 → ((0 : Int) ≤ a1 ∧ ((a1 + 12 : Int) ≤ 216 ∧ ((0 : Int) ≤ a2 ∧ ((a2 + 12 : Int) ≤ 216 ∧ ((0 : Int) ≤ 12 ∧ (∀ G30 : gS, G30 = cpG G24 16102 a1 16102 a2 12 → ((0 : Int) ≤ 4 * a1 ∧ (((4 * a1) + 48 : Int) ≤ 864 ∧ ((0 : Int) ≤ 4 * a2 ∧ (((4 * a2) + 48 : Int) ≤ 864 ∧ ((0 : Int) ≤ 48 ∧ (∀ G36 : gS, G36 = cpG G30 16104 (4 * a1) 16104 (4 * a2) 48 → ((0 : Int) ≤ a1 ∧ ((a1 + 12 : Int) ≤ 216 ∧ ((0 : Int) ≤ a2 ∧ ((a2 + 12 : Int) ≤ 216 ∧ ((0 : Int) ≤ 12 ∧ (∀ G42 : gS, G42 = cpG G36 16106 a1 16106 a2 12 → ((0 : Int) ≤ a1 ∧ ((a1 + 12 : Int) ≤ 216 ∧ ((0 : Int) ≤ a2 ∧ ((a2 + 12 : Int) ≤ 216 ∧ ((0 : Int) ≤ 12 ∧ (∀ G48 : gS, G48 = cpG G42 16107 a1 16107 a2 12 → ((0 : Int) ≤ 8 * a1 ∧ (((8 * a1) + 96 : Int) ≤ 1728 ∧ ((0 : Int) ≤ 8 * a2 ∧ (((8 * a2) + 96 : Int) ≤ 1728 ∧ ((0 : Int) ≤ 96 ∧ (∀ G54 : gS, G54 = cpG G48 16109 (8 * a1) 16109 (8 * a2) 96 → ((0 : Int) ≤ a1 ∧ ((a1 + 12 : Int) ≤ 216 ∧ ((0 : Int) ≤ a2 ∧ ((a2 + 12 : Int) ≤ 216 ∧ ((0 : Int) ≤ 12 ∧ (∀ G60 : gS, G60 = cpG G54 16111 a1 16111 a2 12 → ((0 : Int) ≤ 8 * a1 ∧ (((8 * a1) + 96 : Int) ≤ 1728 ∧ ((0 : Int) ≤ 8 * a2 ∧ (((8 * a2) + 96 : Int) ≤ 1728 ∧ ((0 : Int) ≤ 96 ∧ (∀ G66 : gS, G66 = cpG G60 16112 (8 * a1) 16112 (8 * a2) 96 → ((0 : Int) ≤ a1 ∧ ((a1 + 12 : Int) ≤ 216 ∧ ((0 : Int) ≤ a2 ∧ ((a2 + 12 : Int) ≤ 216 ∧ ((0 : Int) ≤ 12 ∧ (∀ G72 : gS, G72 = cpG G66 16114 a1 16114 a2 12 → ((0 : Int) ≤ a1 ∧ ((a1 + 12 : Int) ≤ 216 ∧ ((0 : Int) ≤ a2 ∧ ((a2 + 12 : Int) ≤ 216 ∧ ((0 : Int) ≤ 12 ∧ (∀ G78 : gS, G78 = cpG G72 16115 a1 16115 a2 12 → Q 0 G78))))))))))))))))))))))))))))))))))))))))))))))))))))))))))))))))))))))))))))))
set_option maxRecDepth 20000 in
theorem TX13_copyClasses_0 {a1 : Int} {a2 : Int} {G : gS} {Q : Int → gS → Prop} (ha1 : inI a1) (ha2 : inI a2) (h : PX13_copyClasses_0 a1 a2 G Q) : Tg W0 vX13_copyClasses_0 [rf (16081), cI (a1), cI (a2)] [] G (fun r G => r = 7 ∧ Q 0 G) := by
  unfold PX13_copyClasses_0 at h
  unfold vX13_copyClasses_0
  refine g_ld (v := rf _) rfl (is_R _) ?_
  refine g_getF (v := 16098) oC13 (hC13_24) rfl (Nat.le_of_ble_eq_true rfl) (Nat.le_of_ble_eq_true rfl) ?_
  refine g_ld (v := cI _) rfl (is_I _) ?_
  refine g_ld (v := rf _) rfl (is_R _) ?_
  refine g_getF (v := 16098) oC13 (hC13_24) rfl (Nat.le_of_ble_eq_true rfl) (Nat.le_of_ble_eq_true rfl) ?_
  refine g_ld (v := cI _) rfl (is_I _) ?_
  refine g_const (v := cI (12)) rfl ?_
  obtain ⟨q1, q2, q3, q4, q5, h⟩ := h
  refine g_copyL aC16098 aC16098 q1 q2 q3 q4 q5 (Nat.le_of_ble_eq_true rfl) (fun _ => nfL aC16098) ?_
  replace h := h _ rfl
  refine g_ld (v := rf _) rfl (is_R _) ?_
  refine g_getF (v := 16099) oC13 (hC13_25) rfl (Nat.le_of_ble_eq_true rfl) (Nat.le_of_ble_eq_true rfl) ?_
  refine g_ld (v := cI _) rfl (is_I _) ?_
  refine g_ld (v := rf _) rfl (is_R _) ?_
  refine g_getF (v := 16099) oC13 (hC13_25) rfl (Nat.le_of_ble_eq_true rfl) (Nat.le_of_ble_eq_true rfl) ?_
  refine g_ld (v := cI _) rfl (is_I _) ?_
  refine g_const (v := cI (12)) rfl ?_
  obtain ⟨q7, q8, q9, q10, q11, h⟩ := h
  refine g_copyI aC16099 aC16099 q7 q8 q9 q10 q11 (Nat.le_of_ble_eq_true rfl) (fun _ => nfI aC16099) ?_
  replace h := h _ rfl
  refine g_ld (v := rf _) rfl (is_R _) ?_
  refine g_getF (v := 16100) oC13 (hC13_26) rfl (Nat.le_of_ble_eq_true rfl) (Nat.le_of_ble_eq_true rfl) ?_
  refine g_ld (v := cI _) rfl (is_I _) ?_
  refine g_ld (v := rf _) rfl (is_R _) ?_
  refine g_getF (v := 16100) oC13 (hC13_26) rfl (Nat.le_of_ble_eq_true rfl) (Nat.le_of_ble_eq_true rfl) ?_
  refine g_ld (v := cI _) rfl (is_I _) ?_
  refine g_const (v := cI (12)) rfl ?_
  obtain ⟨q13, q14, q15, q16, q17, h⟩ := h
  refine g_copyZ aC16100 aC16100 q13 q14 q15 q16 q17 (Nat.le_of_ble_eq_true rfl) (fun _ => nfZ aC16100) ?_
  replace h := h _ rfl
  unfold vX13_copyClasses_45
  refine g_ld (v := rf _) rfl (is_R _) ?_
  refine g_getF (v := 16101) oC13 (hC13_27) rfl (Nat.le_of_ble_eq_true rfl) (Nat.le_of_ble_eq_true rfl) ?_
  refine g_ld (v := cI _) rfl (is_I _) ?_
  refine g_ld (v := rf _) rfl (is_R _) ?_
  refine g_getF (v := 16101) oC13 (hC13_27) rfl (Nat.le_of_ble_eq_true rfl) (Nat.le_of_ble_eq_true rfl) ?_
  refine g_ld (v := cI _) rfl (is_I _) ?_
  refine g_const (v := cI (12)) rfl ?_
  obtain ⟨q19, q20, q21, q22, q23, h⟩ := h
  refine g_copyI aC16101 aC16101 q19 q20 q21 q22 q23 (Nat.le_of_ble_eq_true rfl) (fun _ => nfI aC16101) ?_
  replace h := h _ rfl
  refine g_ld (v := rf _) rfl (is_R _) ?_
  refine g_getF (v := 16102) oC13 (hC13_28) rfl (Nat.le_of_ble_eq_true rfl) (Nat.le_of_ble_eq_true rfl) ?_
  refine g_ld (v := cI _) rfl (is_I _) ?_
  refine g_ld (v := rf _) rfl (is_R _) ?_
  refine g_getF (v := 16102) oC13 (hC13_28) rfl (Nat.le_of_ble_eq_true rfl) (Nat.le_of_ble_eq_true rfl) ?_
  refine g_ld (v := cI _) rfl (is_I _) ?_
  refine g_const (v := cI (12)) rfl ?_
  obtain ⟨q25, q26, q27, q28, q29, h⟩ := h
  refine g_copyL aC16102 aC16102 q25 q26 q27 q28 q29 (Nat.le_of_ble_eq_true rfl) (fun _ => nfL aC16102) ?_
  replace h := h _ rfl
  refine g_ld (v := rf _) rfl (is_R _) ?_
  refine g_getF (v := 16104) oC13 (hC13_30) rfl (Nat.le_of_ble_eq_true rfl) (Nat.le_of_ble_eq_true rfl) ?_
  refine g_const (v := cI (4)) rfl ?_
  refine g_ld (v := cI _) rfl (is_I _) ?_
  refine g_mul ?_
  refine g_ld (v := rf _) rfl (is_R _) ?_
  refine g_getF (v := 16104) oC13 (hC13_30) rfl (Nat.le_of_ble_eq_true rfl) (Nat.le_of_ble_eq_true rfl) ?_
  refine g_const (v := cI (4)) rfl ?_
  unfold vX13_copyClasses_87
  refine g_ld (v := cI _) rfl (is_I _) ?_
  refine g_mul ?_
  refine g_const (v := cI (48)) rfl ?_
  obtain ⟨q31, q32, q33, q34, q35, h⟩ := h
  refine g_copyL aC16104 aC16104 q31 q32 q33 q34 q35 (Nat.le_of_ble_eq_true rfl) (fun _ => nfL aC16104) ?_
  replace h := h _ rfl
  refine g_ld (v := rf _) rfl (is_R _) ?_
  refine g_getF (v := 16106) oC13 (hC13_32) rfl (Nat.le_of_ble_eq_true rfl) (Nat.le_of_ble_eq_true rfl) ?_
  refine g_ld (v := cI _) rfl (is_I _) ?_
  refine g_ld (v := rf _) rfl (is_R _) ?_
  refine g_getF (v := 16106) oC13 (hC13_32) rfl (Nat.le_of_ble_eq_true rfl) (Nat.le_of_ble_eq_true rfl) ?_
  refine g_ld (v := cI _) rfl (is_I _) ?_
  refine g_const (v := cI (12)) rfl ?_
  obtain ⟨q37, q38, q39, q40, q41, h⟩ := h
  refine g_copyI aC16106 aC16106 q37 q38 q39 q40 q41 (Nat.le_of_ble_eq_true rfl) (fun _ => nfI aC16106) ?_
  replace h := h _ rfl
  refine g_ld (v := rf _) rfl (is_R _) ?_
  refine g_getF (v := 16107) oC13 (hC13_33) rfl (Nat.le_of_ble_eq_true rfl) (Nat.le_of_ble_eq_true rfl) ?_
  refine g_ld (v := cI _) rfl (is_I _) ?_
  refine g_ld (v := rf _) rfl (is_R _) ?_
  refine g_getF (v := 16107) oC13 (hC13_33) rfl (Nat.le_of_ble_eq_true rfl) (Nat.le_of_ble_eq_true rfl) ?_
  refine g_ld (v := cI _) rfl (is_I _) ?_
  refine g_const (v := cI (12)) rfl ?_
  obtain ⟨q43, q44, q45, q46, q47, h⟩ := h
  refine g_copyL aC16107 aC16107 q43 q44 q45 q46 q47 (Nat.le_of_ble_eq_true rfl) (fun _ => nfL aC16107) ?_
  replace h := h _ rfl
  refine g_ld (v := rf _) rfl (is_R _) ?_
  refine g_getF (v := 16109) oC13 (hC13_35) rfl (Nat.le_of_ble_eq_true rfl) (Nat.le_of_ble_eq_true rfl) ?_
  refine g_const (v := cI (8)) rfl ?_
  refine g_ld (v := cI _) rfl (is_I _) ?_
  unfold vX13_copyClasses_131
  refine g_mul ?_
  refine g_ld (v := rf _) rfl (is_R _) ?_
  refine g_getF (v := 16109) oC13 (hC13_35) rfl (Nat.le_of_ble_eq_true rfl) (Nat.le_of_ble_eq_true rfl) ?_
  refine g_const (v := cI (8)) rfl ?_
  refine g_ld (v := cI _) rfl (is_I _) ?_
  refine g_mul ?_
  refine g_const (v := cI (96)) rfl ?_
  obtain ⟨q49, q50, q51, q52, q53, h⟩ := h
  refine g_copyL aC16109 aC16109 q49 q50 q51 q52 q53 (Nat.le_of_ble_eq_true rfl) (fun _ => nfL aC16109) ?_
  replace h := h _ rfl
  refine g_ld (v := rf _) rfl (is_R _) ?_
  refine g_getF (v := 16111) oC13 (hC13_37) rfl (Nat.le_of_ble_eq_true rfl) (Nat.le_of_ble_eq_true rfl) ?_
  refine g_ld (v := cI _) rfl (is_I _) ?_
  refine g_ld (v := rf _) rfl (is_R _) ?_
  refine g_getF (v := 16111) oC13 (hC13_37) rfl (Nat.le_of_ble_eq_true rfl) (Nat.le_of_ble_eq_true rfl) ?_
  refine g_ld (v := cI _) rfl (is_I _) ?_
  refine g_const (v := cI (12)) rfl ?_
  obtain ⟨q55, q56, q57, q58, q59, h⟩ := h
  refine g_copyI aC16111 aC16111 q55 q56 q57 q58 q59 (Nat.le_of_ble_eq_true rfl) (fun _ => nfI aC16111) ?_
  replace h := h _ rfl
  refine g_ld (v := rf _) rfl (is_R _) ?_
  refine g_getF (v := 16112) oC13 (hC13_38) rfl (Nat.le_of_ble_eq_true rfl) (Nat.le_of_ble_eq_true rfl) ?_
  refine g_const (v := cI (8)) rfl ?_
  refine g_ld (v := cI _) rfl (is_I _) ?_
  refine g_mul ?_
  refine g_ld (v := rf _) rfl (is_R _) ?_
  refine g_getF (v := 16112) oC13 (hC13_38) rfl (Nat.le_of_ble_eq_true rfl) (Nat.le_of_ble_eq_true rfl) ?_
  refine g_const (v := cI (8)) rfl ?_
  unfold vX13_copyClasses_174
  refine g_ld (v := cI _) rfl (is_I _) ?_
  refine g_mul ?_
  refine g_const (v := cI (96)) rfl ?_
  obtain ⟨q61, q62, q63, q64, q65, h⟩ := h
  refine g_copyL aC16112 aC16112 q61 q62 q63 q64 q65 (Nat.le_of_ble_eq_true rfl) (fun _ => nfL aC16112) ?_
  replace h := h _ rfl
  refine g_ld (v := rf _) rfl (is_R _) ?_
  refine g_getF (v := 16114) oC13 (hC13_40) rfl (Nat.le_of_ble_eq_true rfl) (Nat.le_of_ble_eq_true rfl) ?_
  refine g_ld (v := cI _) rfl (is_I _) ?_
  refine g_ld (v := rf _) rfl (is_R _) ?_
  refine g_getF (v := 16114) oC13 (hC13_40) rfl (Nat.le_of_ble_eq_true rfl) (Nat.le_of_ble_eq_true rfl) ?_
  refine g_ld (v := cI _) rfl (is_I _) ?_
  refine g_const (v := cI (12)) rfl ?_
  obtain ⟨q67, q68, q69, q70, q71, h⟩ := h
  refine g_copyI aC16114 aC16114 q67 q68 q69 q70 q71 (Nat.le_of_ble_eq_true rfl) (fun _ => nfI aC16114) ?_
  replace h := h _ rfl
  refine g_ld (v := rf _) rfl (is_R _) ?_
  refine g_getF (v := 16115) oC13 (hC13_41) rfl (Nat.le_of_ble_eq_true rfl) (Nat.le_of_ble_eq_true rfl) ?_
  refine g_ld (v := cI _) rfl (is_I _) ?_
  refine g_ld (v := rf _) rfl (is_R _) ?_
  refine g_getF (v := 16115) oC13 (hC13_41) rfl (Nat.le_of_ble_eq_true rfl) (Nat.le_of_ble_eq_true rfl) ?_
  refine g_ld (v := cI _) rfl (is_I _) ?_
  refine g_const (v := cI (12)) rfl ?_
  obtain ⟨q73, q74, q75, q76, q77, h⟩ := h
  refine g_copyI aC16115 aC16115 q73 q74 q75 q76 q77 (Nat.le_of_ble_eq_true rfl) (fun _ => nfI aC16115) ?_
  replace h := h _ rfl
  exact g_ret0 ⟨rfl, h⟩
abbrev PX13_copyClasses (a1 : Int) (a2 : Int) (G : gS) (Q : Int → gS → Prop) : Prop := PX13_copyClasses_0 a1 a2 G Q
theorem TX13_copyClasses {a1 : Int} {a2 : Int} {G : gS} {Q : Int → gS → Prop} (ha1 : inI a1) (ha2 : inI a2) (h : PX13_copyClasses a1 a2 G Q) : Tn W0 FX13_copyClasses [rf (16081), cI (a1), cI (a2)] G (fun r G => r = 7 ∧ Q 0 G) := by
  unfold FX13_copyClasses
  refine g_ent (lv' := [rf (16081), cI (a1), cI (a2)]) (flR (flI (flI fl0))) (Nat.le_of_ble_eq_true rfl) rfl ?_
  exact TX13_copyClasses_0 ha1 ha2 h
def PX13_copyMembers_389 (J : Nat → List Int → gS → (Int → gS → Prop) → Prop) (l1 : Int) (l2 : Int) (l3 : Int) (l4 : Int) (l5 : Int) (s0 : Int) (s1 : Int) (s2 : Int) (G : gS) (Q : Int → gS → Prop) : Prop :=
  (∃ n149, isA W0 0 n149 (s0) ∧ ((0 : Int) ≤ s1 ∧ ((s1 : Int) < n149 ∧ (∀ G153 : gS, G153 = uG G s0 s1 (s2) → (inI (l5 + 1) ∧ J 0 [l1, l2, l3, l4, l5 + 1] G153 Q)))))
set_option maxRecDepth 20000 in
theorem TX13_copyMembers_389 {j : Nat → rx_K} {J : Nat → List Int → gS → (Int → gS → Prop) → Prop} {l1 : Int} {l2 : Int} {l3 : Int} {l4 : Int} {l5 : Int} {s0 : Int} {s1 : Int} {s2 : Int} {G : gS} {Q : Int → gS → Prop} (hl1 : inI l1) (hl2 : inI l2) (hl3 : inI l3) (hl4 : inI l4) (hl5 : inI l5) (hs1 : inI s1) (hs2 : inI s2) (hj0 : ∀ (l1 : Int) (l2 : Int) (l3 : Int) (l4 : Int) (l5 : Int) (G : gS), (inI l1) → (inI l2) → (inI l3) → (inI l4) → (inI l5) → J 0 [l1, l2, l3, l4, l5] G Q → Tg W0 (j 0) [rf (16081), cI (l1), cI (l2), cI (l3), cI (l4), cI (l5)] [] G (fun r G => r = 7 ∧ Q 0 G)) (h : PX13_copyMembers_389 J l1 l2 l3 l4 l5 s0 s1 s2 G Q) : Tg W0 (vX13_copyMembers_389 j) [rf (16081), cI (l1), cI (l2), cI (l3), cI (l4), cI (l5)] [cI (s2), cI (s1), rf (s0)] G (fun r G => r = 7 ∧ Q 0 G) := by
  unfold PX13_copyMembers_389 at h
  unfold vX13_copyMembers_389
  obtain ⟨n149, q150, h⟩ := h
  obtain ⟨q151, q152, h⟩ := h
  refine g_astI q150 q151 q152 hs2 (nfI q150) ?_
  replace h := h _ rfl
  refine g_inc (lv' := [_, _, _, _, _, _]) rfl (Nat.le_of_ble_eq_true rfl) (Or.inr (n1_I _)) rfl ?_
  obtain ⟨q154, h⟩ := h
  exact hj0 _ _ _ _ _ _ hl1 hl2 hl3 hl4 q154 h
def PX13_copyMembers_349 (J : Nat → List Int → gS → (Int → gS → Prop) → Prop) (l1 : Int) (l2 : Int) (l3 : Int) (l4 : Int) (l5 : Int) (s0 : Int) (s1 : Int) (s2 : Int) (G : gS) (Q : Int → gS → Prop) : Prop :=
  (∃ n134, isA W0 0 n134 (s0) ∧ ((0 : Int) ≤ s1 ∧ ((s1 : Int) < n134 ∧ (∀ G138 : gS, G138 = uG G s0 s1 (s2) → ((0 : Int) ≤ l1 + l5 ∧ ((l1 + l5 : Int) < 7344 ∧ (inI (G138 16135 (l1 + l5)) → ((G138 16135 (l1 + l5) = -2 → (inI (l2 + l5) ∧ PX13_copyMembers_389 J l1 l2 l3 l4 l5 16135 (l2 + l5) (-2) G138 Q)) ∧ (¬ (G138 16135 (l1 + l5) = -2) → ((0 : Int) ≤ l1 + l5 ∧ ((l1 + l5 : Int) < 7344 ∧ (inI (G138 16135 (l1 + l5)) → (inI (l2 + l5) ∧ (inI ((G138 16135 (l1 + l5)) + l4) ∧ PX13_copyMembers_389 J l1 l2 l3 l4 l5 16135 (l2 + l5) ((G138 16135 (l1 + l5)) + l4) G138 Q))))))))))))))
set_option maxRecDepth 20000 in
theorem TX13_copyMembers_349 {j : Nat → rx_K} {J : Nat → List Int → gS → (Int → gS → Prop) → Prop} {l1 : Int} {l2 : Int} {l3 : Int} {l4 : Int} {l5 : Int} {s0 : Int} {s1 : Int} {s2 : Int} {G : gS} {Q : Int → gS → Prop} (hl1 : inI l1) (hl2 : inI l2) (hl3 : inI l3) (hl4 : inI l4) (hl5 : inI l5) (hs1 : inI s1) (hs2 : inI s2) (hj0 : ∀ (l1 : Int) (l2 : Int) (l3 : Int) (l4 : Int) (l5 : Int) (G : gS), (inI l1) → (inI l2) → (inI l3) → (inI l4) → (inI l5) → J 0 [l1, l2, l3, l4, l5] G Q → Tg W0 (j 0) [rf (16081), cI (l1), cI (l2), cI (l3), cI (l4), cI (l5)] [] G (fun r G => r = 7 ∧ Q 0 G)) (h : PX13_copyMembers_349 J l1 l2 l3 l4 l5 s0 s1 s2 G Q) : Tg W0 (vX13_copyMembers_349 j) [rf (16081), cI (l1), cI (l2), cI (l3), cI (l4), cI (l5)] [cI (s2), cI (s1), rf (s0)] G (fun r G => r = 7 ∧ Q 0 G) := by
  unfold PX13_copyMembers_349 at h
  unfold vX13_copyMembers_349
  obtain ⟨n134, q135, h⟩ := h
  obtain ⟨q136, q137, h⟩ := h
  refine g_astI q135 q136 q137 hs2 (nfI q135) ?_
  replace h := h _ rfl
  refine g_ld (v := rf _) rfl (is_R _) ?_
  refine g_getF (v := 16135) oC13 (hC13_61) rfl (Nat.le_of_ble_eq_true rfl) (Nat.le_of_ble_eq_true rfl) ?_
  refine g_ld (v := cI _) rfl (is_I _) ?_
  refine g_ld (v := cI _) rfl (is_I _) ?_
  refine g_add ?_
  refine g_ld (v := rf _) rfl (is_R _) ?_
  refine g_getF (v := 16135) oC13 (hC13_61) rfl (Nat.le_of_ble_eq_true rfl) (Nat.le_of_ble_eq_true rfl) ?_
  refine g_ld (v := cI _) rfl (is_I _) ?_
  refine g_ld (v := cI _) rfl (is_I _) ?_
  refine g_add ?_
  obtain ⟨q139, q140, h⟩ := h
  refine g_aldI aC16135 q139 q140 rfl fun i141 => ?_
  replace h := h i141
  refine g_const (v := cI (-2)) rfl ?_
  refine g_eq2 i141 ⟨by omega, by omega⟩ (fun b142 => ?_) (fun b142 => ?_)
  · replace h := h.1 b142
    unfold vX13_copyMembers_372
    refine g_const (v := cI (-2)) rfl ?_
    obtain ⟨q143, h⟩ := h
    exact TX13_copyMembers_389 hl1 hl2 hl3 hl4 hl5 q143 ⟨by omega, by omega⟩ hj0 h
  · replace h := h.2 b142
    unfold vX13_copyMembers_377
    refine g_ld (v := rf _) rfl (is_R _) ?_
    refine g_getF (v := 16135) oC13 (hC13_61) rfl (Nat.le_of_ble_eq_true rfl) (Nat.le_of_ble_eq_true rfl) ?_
    refine g_ld (v := cI _) rfl (is_I _) ?_
    refine g_ld (v := cI _) rfl (is_I _) ?_
    refine g_add ?_
    obtain ⟨q144, q145, h⟩ := h
    refine g_aldI aC16135 q144 q145 rfl fun i146 => ?_
    replace h := h i146
    refine g_ld (v := cI _) rfl (is_I _) ?_
    refine g_add ?_
    obtain ⟨q147, h⟩ := h
    obtain ⟨q148, h⟩ := h
    exact TX13_copyMembers_389 hl1 hl2 hl3 hl4 hl5 q147 q148 hj0 h
def PX13_copyMembers_304 (J : Nat → List Int → gS → (Int → gS → Prop) → Prop) (l1 : Int) (l2 : Int) (l3 : Int) (l4 : Int) (l5 : Int) (G : gS) (Q : Int → gS → Prop) : Prop :=
  ((l5 < l3 → ((0 : Int) ≤ l1 + l5 ∧ ((l1 + l5 : Int) < 7344 ∧ (inI (G 16134 (l1 + l5)) → ((G 16134 (l1 + l5) = -2 → (inI (l2 + l5) ∧ PX13_copyMembers_349 J l1 l2 l3 l4 l5 16134 (l2 + l5) (-2) G Q)) ∧ (¬ (G 16134 (l1 + l5) = -2) → ((0 : Int) ≤ l1 + l5 ∧ ((l1 + l5 : Int) < 7344 ∧ (inI (G 16134 (l1 + l5)) → (inI (l2 + l5) ∧ (inI ((G 16134 (l1 + l5)) + l4) ∧ PX13_copyMembers_349 J l1 l2 l3 l4 l5 16134 (l2 + l5) ((G 16134 (l1 + l5)) + l4) G Q))))))))))) ∧ (¬ (l5 < l3) → Q 0 G))
set_option maxRecDepth 20000 in
theorem TX13_copyMembers_304 {j : Nat → rx_K} {J : Nat → List Int → gS → (Int → gS → Prop) → Prop} {l1 : Int} {l2 : Int} {l3 : Int} {l4 : Int} {l5 : Int} {G : gS} {Q : Int → gS → Prop} (hl1 : inI l1) (hl2 : inI l2) (hl3 : inI l3) (hl4 : inI l4) (hl5 : inI l5) (hj0 : ∀ (l1 : Int) (l2 : Int) (l3 : Int) (l4 : Int) (l5 : Int) (G : gS), (inI l1) → (inI l2) → (inI l3) → (inI l4) → (inI l5) → J 0 [l1, l2, l3, l4, l5] G Q → Tg W0 (j 0) [rf (16081), cI (l1), cI (l2), cI (l3), cI (l4), cI (l5)] [] G (fun r G => r = 7 ∧ Q 0 G)) (h : PX13_copyMembers_304 J l1 l2 l3 l4 l5 G Q) : Tg W0 (vX13_copyMembers_304 j) [rf (16081), cI (l1), cI (l2), cI (l3), cI (l4), cI (l5)] [] G (fun r G => r = 7 ∧ Q 0 G) := by
  unfold PX13_copyMembers_304 at h
  unfold vX13_copyMembers_304
  refine g_ld (v := cI _) rfl (is_I _) ?_
  refine g_ld (v := cI _) rfl (is_I _) ?_
  refine g_lt2 hl5 hl3 (fun b123 => ?_) (fun b123 => ?_)
  · replace h := h.1 b123
    unfold vX13_copyMembers_310
    refine g_ld (v := rf _) rfl (is_R _) ?_
    refine g_getF (v := 16134) oC13 (hC13_60) rfl (Nat.le_of_ble_eq_true rfl) (Nat.le_of_ble_eq_true rfl) ?_
    refine g_ld (v := cI _) rfl (is_I _) ?_
    refine g_ld (v := cI _) rfl (is_I _) ?_
    refine g_add ?_
    refine g_ld (v := rf _) rfl (is_R _) ?_
    refine g_getF (v := 16134) oC13 (hC13_60) rfl (Nat.le_of_ble_eq_true rfl) (Nat.le_of_ble_eq_true rfl) ?_
    refine g_ld (v := cI _) rfl (is_I _) ?_
    refine g_ld (v := cI _) rfl (is_I _) ?_
    refine g_add ?_
    obtain ⟨q124, q125, h⟩ := h
    refine g_aldI aC16134 q124 q125 rfl fun i126 => ?_
    replace h := h i126
    refine g_const (v := cI (-2)) rfl ?_
    refine g_eq2 i126 ⟨by omega, by omega⟩ (fun b127 => ?_) (fun b127 => ?_)
    · replace h := h.1 b127
      unfold vX13_copyMembers_332
      refine g_const (v := cI (-2)) rfl ?_
      obtain ⟨q128, h⟩ := h
      exact TX13_copyMembers_349 hl1 hl2 hl3 hl4 hl5 q128 ⟨by omega, by omega⟩ hj0 h
    · replace h := h.2 b127
      unfold vX13_copyMembers_337
      refine g_ld (v := rf _) rfl (is_R _) ?_
      refine g_getF (v := 16134) oC13 (hC13_60) rfl (Nat.le_of_ble_eq_true rfl) (Nat.le_of_ble_eq_true rfl) ?_
      refine g_ld (v := cI _) rfl (is_I _) ?_
      refine g_ld (v := cI _) rfl (is_I _) ?_
      refine g_add ?_
      obtain ⟨q129, q130, h⟩ := h
      refine g_aldI aC16134 q129 q130 rfl fun i131 => ?_
      replace h := h i131
      refine g_ld (v := cI _) rfl (is_I _) ?_
      refine g_add ?_
      obtain ⟨q132, h⟩ := h
      obtain ⟨q133, h⟩ := h
      exact TX13_copyMembers_349 hl1 hl2 hl3 hl4 hl5 q132 q133 hj0 h
  · replace h := h.2 b123
    unfold vX13_copyMembers_396
    exact g_ret0 ⟨rfl, h⟩
def PX13_copyMembers_0 (J : Nat → List Int → gS → (Int → gS → Prop) → Prop) (a1 : Int) (a2 : Int) (G : gS) (Q : Int → gS → Prop) : Prop :=
  ((0 : Int) ≤ a1 ∧ ((a1 + 408 : Int) ≤ 7344 ∧ ((0 : Int) ≤ a2 ∧ ((a2 + 408 : Int) ≤ 7344 ∧ ((0 : Int) ≤ 408 ∧ (∀ G6 : gS, G6 = cpG G 16116 a1 16116 a2 408 → ((0 : Int) ≤ a1 ∧ ((a1 + 408 : Int) ≤ 7344 ∧ ((0 : Int) ≤ a2 ∧ ((a2 + 408 : Int) ≤ 7344 ∧ ((0 : Int) ≤ 408 ∧ (∀ G12 : gS, G12 = cpG G6 16117 a1 16117 a2 408 → ((0 : Int) ≤ a1 ∧ ((a1 + 408 : Int) ≤ 7344 ∧ ((0 : Int) ≤ a2 ∧ ((a2 + 408 : Int) ≤ 7344 ∧ ((0 : Int) ≤ 408 ∧ (∀ G18 : gS, G18 = cpG G12 16118 a1 16118 a2 408 → ((0 : Int) ≤ a1 ∧ ((a1 + 408 : Int) ≤ 7344 ∧ ((0 : Int) ≤ a2 ∧ ((a2 + 408 : Int) ≤ 7344 ∧ ((0 : Int) ≤ 408 ∧ (∀ G24 : gS, G24 = cpG G18 16119 a1 16119 a2 408 → ((0 : Int) ≤ a1 ∧ ((a1 + 408 : Int) ≤ 7344 ∧ ((0 : Int) ≤ a2 ∧ ((a2 + 408 : Int) ≤ 7344 ∧ ((0 : Int) ≤ 408 ∧ (∀ G30 : gS, G30 = cpG G24 16120 a1 16120 a2 408 → ((0 : Int) ≤ a1 ∧ ((a1 + 408 : Int) ≤ 7344 ∧ ((0 : Int) ≤ a2 ∧ ((a2 + 408 : Int) ≤ 7344 ∧ ((0 : Int) ≤ 408 ∧ (∀ G36 : gS, G36 = cpG G30 16121 a1 16121 a2 408 → ((0 : Int) ≤ a1 ∧ ((a1 + 408 : Int) ≤ 7344 ∧ ((0 : Int) ≤ a2 ∧ ((a2 + 408 : Int) ≤ 7344 ∧ ((0 : Int) ≤ 408 ∧ (∀ G42 : gS, G42 = cpG G36 16122 a1 16122 a2 408 → ((0 : Int) ≤ a1 ∧ ((a1 + 408 : Int) ≤ 7344 ∧ ((0 : Int) ≤ a2 ∧ ((a2 + 408 : Int) ≤ 7344 ∧ ((0 : Int) ≤ 408 ∧ (∀ G48 : gS, G48 = cpG G42 16123 a1 16123 a2 408 → ((0 : Int) ≤ a1 ∧ ((a1 + 408 : Int) ≤ 7344 ∧ ((0 : Int) ≤ a2 ∧ ((a2 + 408 : Int) ≤ 7344 ∧ ((0 : Int) ≤ 408 ∧ (∀ G54 : gS, G54 = cpG G48 16124 a1 16124 a2 408 → ((0 : Int) ≤ a1 ∧ ((a1 + 408 : Int) ≤ 7344 ∧ ((0 : Int) ≤ a2 ∧ ((a2 + 408 : Int) ≤ 7344 ∧ ((0 : Int) ≤ 408 ∧ (∀ G60 : gS, G60 = cpG G54 16125 a1 16125 a2 408 → ((0 : Int) ≤ a1 ∧ ((a1 + 408 : Int) ≤ 7344 ∧ ((0 : Int) ≤ a2 ∧ ((a2 + 408 : Int) ≤ 7344 ∧ ((0 : Int) ≤ 408 ∧ (∀ G66 : gS, G66 = cpG G60 16127 a1 16127 a2 408 → ((0 : Int) ≤ a1 ∧ ((a1 + 408 : Int) ≤ 7344 ∧ ((0 : Int) ≤ a2 ∧ ((a2 + 408 : Int) ≤ 7344 ∧ ((0 : Int) ≤ 408 ∧ (∀ G72 : gS, G72 = cpG G66 16129 a1 16129 a2 408 → ((0 : Int) ≤ 4 * a1 ∧ (((4 * a1) + (4 * 408) : Int) ≤ 29376 ∧ ((0 : Int) ≤ 4 * a2 ∧ (((4 * a2) + (4 * 408) : Int) ≤ 29376 ∧ ((0 : Int) ≤ 4 * 408 ∧ (∀ G78 : gS, G78 = cpG G72 16130 (4 * a1) 16130 (4 * a2) (4 * 408) → ((0 : Int) ≤ a1 ∧ ((a1 + 408 : Int) ≤ 7344 ∧ ((0 : Int) ≤ a2 ∧ ((a2 + 408 : Int) ≤ 7344 ∧ ((0 : Int) ≤ 408 ∧ (∀ G84 : gS, G84 = cpG G78 16136 a1 16136 a2 408 → ((0 : Int) ≤ a1 ∧ ((a1 + 408 : Int) ≤ 7344 ∧ ((0 : Int) ≤ a2 ∧ ((a2 + 408 : Int) ≤ 7344 ∧ ((0 : Int) ≤ 408 ∧ (∀ G90 : gS, G90 = cpG G84 16137 a1 16137 a2 408 → ((0 : Int) ≤ a1 ∧ ((a1 + 408 : Int) ≤ 7344 ∧ ((0 : Int) ≤ a2 ∧ ((a2 + 408 : Int) ≤ 7344 ∧ ((0 : Int) ≤ 408 ∧ (∀ G96 : gS, G96 = cpG G90 16138 a1 16138 a2 408 → ((0 : Int) ≤ a1 ∧ ((a1 + 408 : Int) ≤ 7344 ∧ ((0 : Int) ≤ a2 ∧ ((a2 + 408 : Int) ≤ 7344 ∧ ((0 : Int) ≤ 408 ∧ (∀ G102 : gS, G102 = cpG G96 16139 a1 16139 a2 408 → ((0 : Int) ≤ a1 ∧ ((a1 + 408 : Int) ≤ 7344 ∧ ((0 : Int) ≤ a2 ∧ ((a2 + 408 : Int) ≤ 7344 ∧ ((0 : Int) ≤ 408 ∧ (∀ G108 : gS, G108 = cpG G102 16140 a1 16140 a2 408 → ((0 : Int) ≤ a1 ∧ ((a1 + 408 : Int) ≤ 7344 ∧ ((0 : Int) ≤ a2 ∧ ((a2 + 408 : Int) ≤ 7344 ∧ ((0 : Int) ≤ 408 ∧ (∀ G114 : gS, G114 = cpG G108 16141 a1 16141 a2 408 → ((0 : Int) ≤ a1 ∧ ((a1 + 408 : Int) ≤ 7344 ∧ ((0 : Int) ≤ a2 ∧ ((a2 + 408 : Int) ≤ 7344 ∧ ((0 : Int) ≤ 408 ∧ (∀ G120 : gS, G120 = cpG G114 16142 a1 16142 a2 408 → (inI (idiv (a2 - a1) 408) → (inI ((idiv (a2 - a1) 408) * 1700) ∧ PX13_copyMembers_304 J a1 a2 408 ((idiv (a2 - a1) 408) * 1700) 0 G120 Q))))))))))))))))))))))))))))))))))))))))))))))))))))))))))))))))))))))))))))))))))))))))))))))))))))))))))))))))))))))))))
set_option maxRecDepth 20000 in
theorem TX13_copyMembers_0 {j : Nat → rx_K} {J : Nat → List Int → gS → (Int → gS → Prop) → Prop} {a1 : Int} {a2 : Int} {G : gS} {Q : Int → gS → Prop} (ha1 : inI a1) (ha2 : inI a2) (hj0 : ∀ (l1 : Int) (l2 : Int) (l3 : Int) (l4 : Int) (l5 : Int) (G : gS), (inI l1) → (inI l2) → (inI l3) → (inI l4) → (inI l5) → J 0 [l1, l2, l3, l4, l5] G Q → Tg W0 (j 0) [rf (16081), cI (l1), cI (l2), cI (l3), cI (l4), cI (l5)] [] G (fun r G => r = 7 ∧ Q 0 G)) (h : PX13_copyMembers_0 J a1 a2 G Q) : Tg W0 (vX13_copyMembers_0 j) [rf (16081), cI (a1), cI (a2), 7, 7, 7] [] G (fun r G => r = 7 ∧ Q 0 G) := by
  unfold PX13_copyMembers_0 at h
  unfold vX13_copyMembers_0
  refine g_const (v := cI (408)) rfl ?_
  refine g_st (lv' := [_, _, _, _, _, _]) (is_I _) (Nat.le_of_ble_eq_true rfl) (Or.inr (n1_I _)) rfl ?_
  refine g_ld (v := rf _) rfl (is_R _) ?_
  refine g_getF (v := 16116) oC13 (hC13_42) rfl (Nat.le_of_ble_eq_true rfl) (Nat.le_of_ble_eq_true rfl) ?_
  refine g_ld (v := cI _) rfl (is_I _) ?_
  refine g_ld (v := rf _) rfl (is_R _) ?_
  refine g_getF (v := 16116) oC13 (hC13_42) rfl (Nat.le_of_ble_eq_true rfl) (Nat.le_of_ble_eq_true rfl) ?_
  refine g_ld (v := cI _) rfl (is_I _) ?_
  refine g_ld (v := cI _) rfl (is_I _) ?_
  obtain ⟨q1, q2, q3, q4, q5, h⟩ := h
  refine g_copyI aC16116 aC16116 q1 q2 q3 q4 q5 (Nat.le_of_ble_eq_true rfl) (fun _ => nfI aC16116) ?_
  replace h := h _ rfl
  refine g_ld (v := rf _) rfl (is_R _) ?_
  refine g_getF (v := 16117) oC13 (hC13_43) rfl (Nat.le_of_ble_eq_true rfl) (Nat.le_of_ble_eq_true rfl) ?_
  refine g_ld (v := cI _) rfl (is_I _) ?_
  refine g_ld (v := rf _) rfl (is_R _) ?_
  refine g_getF (v := 16117) oC13 (hC13_43) rfl (Nat.le_of_ble_eq_true rfl) (Nat.le_of_ble_eq_true rfl) ?_
  refine g_ld (v := cI _) rfl (is_I _) ?_
  refine g_ld (v := cI _) rfl (is_I _) ?_
  obtain ⟨q7, q8, q9, q10, q11, h⟩ := h
  refine g_copyI aC16117 aC16117 q7 q8 q9 q10 q11 (Nat.le_of_ble_eq_true rfl) (fun _ => nfI aC16117) ?_
  replace h := h _ rfl
  refine g_ld (v := rf _) rfl (is_R _) ?_
  refine g_getF (v := 16118) oC13 (hC13_44) rfl (Nat.le_of_ble_eq_true rfl) (Nat.le_of_ble_eq_true rfl) ?_
  refine g_ld (v := cI _) rfl (is_I _) ?_
  refine g_ld (v := rf _) rfl (is_R _) ?_
  refine g_getF (v := 16118) oC13 (hC13_44) rfl (Nat.le_of_ble_eq_true rfl) (Nat.le_of_ble_eq_true rfl) ?_
  refine g_ld (v := cI _) rfl (is_I _) ?_
  unfold vX13_copyMembers_42
  refine g_ld (v := cI _) rfl (is_I _) ?_
  obtain ⟨q13, q14, q15, q16, q17, h⟩ := h
  refine g_copyI aC16118 aC16118 q13 q14 q15 q16 q17 (Nat.le_of_ble_eq_true rfl) (fun _ => nfI aC16118) ?_
  replace h := h _ rfl
  refine g_ld (v := rf _) rfl (is_R _) ?_
  refine g_getF (v := 16119) oC13 (hC13_45) rfl (Nat.le_of_ble_eq_true rfl) (Nat.le_of_ble_eq_true rfl) ?_
  refine g_ld (v := cI _) rfl (is_I _) ?_
  refine g_ld (v := rf _) rfl (is_R _) ?_
  refine g_getF (v := 16119) oC13 (hC13_45) rfl (Nat.le_of_ble_eq_true rfl) (Nat.le_of_ble_eq_true rfl) ?_
  refine g_ld (v := cI _) rfl (is_I _) ?_
  refine g_ld (v := cI _) rfl (is_I _) ?_
  obtain ⟨q19, q20, q21, q22, q23, h⟩ := h
  refine g_copyZ aC16119 aC16119 q19 q20 q21 q22 q23 (Nat.le_of_ble_eq_true rfl) (fun _ => nfZ aC16119) ?_
  replace h := h _ rfl
  refine g_ld (v := rf _) rfl (is_R _) ?_
  refine g_getF (v := 16120) oC13 (hC13_46) rfl (Nat.le_of_ble_eq_true rfl) (Nat.le_of_ble_eq_true rfl) ?_
  refine g_ld (v := cI _) rfl (is_I _) ?_
  refine g_ld (v := rf _) rfl (is_R _) ?_
  refine g_getF (v := 16120) oC13 (hC13_46) rfl (Nat.le_of_ble_eq_true rfl) (Nat.le_of_ble_eq_true rfl) ?_
  refine g_ld (v := cI _) rfl (is_I _) ?_
  refine g_ld (v := cI _) rfl (is_I _) ?_
  obtain ⟨q25, q26, q27, q28, q29, h⟩ := h
  refine g_copyZ aC16120 aC16120 q25 q26 q27 q28 q29 (Nat.le_of_ble_eq_true rfl) (fun _ => nfZ aC16120) ?_
  replace h := h _ rfl
  refine g_ld (v := rf _) rfl (is_R _) ?_
  refine g_getF (v := 16121) oC13 (hC13_47) rfl (Nat.le_of_ble_eq_true rfl) (Nat.le_of_ble_eq_true rfl) ?_
  refine g_ld (v := cI _) rfl (is_I _) ?_
  refine g_ld (v := rf _) rfl (is_R _) ?_
  refine g_getF (v := 16121) oC13 (hC13_47) rfl (Nat.le_of_ble_eq_true rfl) (Nat.le_of_ble_eq_true rfl) ?_
  refine g_ld (v := cI _) rfl (is_I _) ?_
  unfold vX13_copyMembers_84
  refine g_ld (v := cI _) rfl (is_I _) ?_
  obtain ⟨q31, q32, q33, q34, q35, h⟩ := h
  refine g_copyZ aC16121 aC16121 q31 q32 q33 q34 q35 (Nat.le_of_ble_eq_true rfl) (fun _ => nfZ aC16121) ?_
  replace h := h _ rfl
  refine g_ld (v := rf _) rfl (is_R _) ?_
  refine g_getF (v := 16122) oC13 (hC13_48) rfl (Nat.le_of_ble_eq_true rfl) (Nat.le_of_ble_eq_true rfl) ?_
  refine g_ld (v := cI _) rfl (is_I _) ?_
  refine g_ld (v := rf _) rfl (is_R _) ?_
  refine g_getF (v := 16122) oC13 (hC13_48) rfl (Nat.le_of_ble_eq_true rfl) (Nat.le_of_ble_eq_true rfl) ?_
  refine g_ld (v := cI _) rfl (is_I _) ?_
  refine g_ld (v := cI _) rfl (is_I _) ?_
  obtain ⟨q37, q38, q39, q40, q41, h⟩ := h
  refine g_copyZ aC16122 aC16122 q37 q38 q39 q40 q41 (Nat.le_of_ble_eq_true rfl) (fun _ => nfZ aC16122) ?_
  replace h := h _ rfl
  refine g_ld (v := rf _) rfl (is_R _) ?_
  refine g_getF (v := 16123) oC13 (hC13_49) rfl (Nat.le_of_ble_eq_true rfl) (Nat.le_of_ble_eq_true rfl) ?_
  refine g_ld (v := cI _) rfl (is_I _) ?_
  refine g_ld (v := rf _) rfl (is_R _) ?_
  refine g_getF (v := 16123) oC13 (hC13_49) rfl (Nat.le_of_ble_eq_true rfl) (Nat.le_of_ble_eq_true rfl) ?_
  refine g_ld (v := cI _) rfl (is_I _) ?_
  refine g_ld (v := cI _) rfl (is_I _) ?_
  obtain ⟨q43, q44, q45, q46, q47, h⟩ := h
  refine g_copyZ aC16123 aC16123 q43 q44 q45 q46 q47 (Nat.le_of_ble_eq_true rfl) (fun _ => nfZ aC16123) ?_
  replace h := h _ rfl
  refine g_ld (v := rf _) rfl (is_R _) ?_
  refine g_getF (v := 16124) oC13 (hC13_50) rfl (Nat.le_of_ble_eq_true rfl) (Nat.le_of_ble_eq_true rfl) ?_
  refine g_ld (v := cI _) rfl (is_I _) ?_
  refine g_ld (v := rf _) rfl (is_R _) ?_
  refine g_getF (v := 16124) oC13 (hC13_50) rfl (Nat.le_of_ble_eq_true rfl) (Nat.le_of_ble_eq_true rfl) ?_
  refine g_ld (v := cI _) rfl (is_I _) ?_
  unfold vX13_copyMembers_126
  refine g_ld (v := cI _) rfl (is_I _) ?_
  obtain ⟨q49, q50, q51, q52, q53, h⟩ := h
  refine g_copyZ aC16124 aC16124 q49 q50 q51 q52 q53 (Nat.le_of_ble_eq_true rfl) (fun _ => nfZ aC16124) ?_
  replace h := h _ rfl
  refine g_ld (v := rf _) rfl (is_R _) ?_
  refine g_getF (v := 16125) oC13 (hC13_51) rfl (Nat.le_of_ble_eq_true rfl) (Nat.le_of_ble_eq_true rfl) ?_
  refine g_ld (v := cI _) rfl (is_I _) ?_
  refine g_ld (v := rf _) rfl (is_R _) ?_
  refine g_getF (v := 16125) oC13 (hC13_51) rfl (Nat.le_of_ble_eq_true rfl) (Nat.le_of_ble_eq_true rfl) ?_
  refine g_ld (v := cI _) rfl (is_I _) ?_
  refine g_ld (v := cI _) rfl (is_I _) ?_
  obtain ⟨q55, q56, q57, q58, q59, h⟩ := h
  refine g_copyL aC16125 aC16125 q55 q56 q57 q58 q59 (Nat.le_of_ble_eq_true rfl) (fun _ => nfL aC16125) ?_
  replace h := h _ rfl
  refine g_ld (v := rf _) rfl (is_R _) ?_
  refine g_getF (v := 16127) oC13 (hC13_53) rfl (Nat.le_of_ble_eq_true rfl) (Nat.le_of_ble_eq_true rfl) ?_
  refine g_ld (v := cI _) rfl (is_I _) ?_
  refine g_ld (v := rf _) rfl (is_R _) ?_
  refine g_getF (v := 16127) oC13 (hC13_53) rfl (Nat.le_of_ble_eq_true rfl) (Nat.le_of_ble_eq_true rfl) ?_
  refine g_ld (v := cI _) rfl (is_I _) ?_
  refine g_ld (v := cI _) rfl (is_I _) ?_
  obtain ⟨q61, q62, q63, q64, q65, h⟩ := h
  refine g_copyL aC16127 aC16127 q61 q62 q63 q64 q65 (Nat.le_of_ble_eq_true rfl) (fun _ => nfL aC16127) ?_
  replace h := h _ rfl
  refine g_ld (v := rf _) rfl (is_R _) ?_
  refine g_getF (v := 16129) oC13 (hC13_55) rfl (Nat.le_of_ble_eq_true rfl) (Nat.le_of_ble_eq_true rfl) ?_
  refine g_ld (v := cI _) rfl (is_I _) ?_
  refine g_ld (v := rf _) rfl (is_R _) ?_
  refine g_getF (v := 16129) oC13 (hC13_55) rfl (Nat.le_of_ble_eq_true rfl) (Nat.le_of_ble_eq_true rfl) ?_
  refine g_ld (v := cI _) rfl (is_I _) ?_
  unfold vX13_copyMembers_168
  refine g_ld (v := cI _) rfl (is_I _) ?_
  obtain ⟨q67, q68, q69, q70, q71, h⟩ := h
  refine g_copyI aC16129 aC16129 q67 q68 q69 q70 q71 (Nat.le_of_ble_eq_true rfl) (fun _ => nfI aC16129) ?_
  replace h := h _ rfl
  refine g_ld (v := rf _) rfl (is_R _) ?_
  refine g_getF (v := 16130) oC13 (hC13_56) rfl (Nat.le_of_ble_eq_true rfl) (Nat.le_of_ble_eq_true rfl) ?_
  refine g_const (v := cI (4)) rfl ?_
  refine g_ld (v := cI _) rfl (is_I _) ?_
  refine g_mul ?_
  refine g_ld (v := rf _) rfl (is_R _) ?_
  refine g_getF (v := 16130) oC13 (hC13_56) rfl (Nat.le_of_ble_eq_true rfl) (Nat.le_of_ble_eq_true rfl) ?_
  refine g_const (v := cI (4)) rfl ?_
  refine g_ld (v := cI _) rfl (is_I _) ?_
  refine g_mul ?_
  refine g_const (v := cI (4)) rfl ?_
  refine g_ld (v := cI _) rfl (is_I _) ?_
  refine g_mul ?_
  obtain ⟨q73, q74, q75, q76, q77, h⟩ := h
  refine g_copyL aC16130 aC16130 q73 q74 q75 q76 q77 (Nat.le_of_ble_eq_true rfl) (fun _ => nfL aC16130) ?_
  replace h := h _ rfl
  refine g_ld (v := rf _) rfl (is_R _) ?_
  refine g_getF (v := 16136) oC13 (hC13_62) rfl (Nat.le_of_ble_eq_true rfl) (Nat.le_of_ble_eq_true rfl) ?_
  refine g_ld (v := cI _) rfl (is_I _) ?_
  refine g_ld (v := rf _) rfl (is_R _) ?_
  refine g_getF (v := 16136) oC13 (hC13_62) rfl (Nat.le_of_ble_eq_true rfl) (Nat.le_of_ble_eq_true rfl) ?_
  refine g_ld (v := cI _) rfl (is_I _) ?_
  refine g_ld (v := cI _) rfl (is_I _) ?_
  obtain ⟨q79, q80, q81, q82, q83, h⟩ := h
  refine g_copyI aC16136 aC16136 q79 q80 q81 q82 q83 (Nat.le_of_ble_eq_true rfl) (fun _ => nfI aC16136) ?_
  replace h := h _ rfl
  unfold vX13_copyMembers_206
  refine g_ld (v := rf _) rfl (is_R _) ?_
  refine g_getF (v := 16137) oC13 (hC13_63) rfl (Nat.le_of_ble_eq_true rfl) (Nat.le_of_ble_eq_true rfl) ?_
  refine g_ld (v := cI _) rfl (is_I _) ?_
  refine g_ld (v := rf _) rfl (is_R _) ?_
  refine g_getF (v := 16137) oC13 (hC13_63) rfl (Nat.le_of_ble_eq_true rfl) (Nat.le_of_ble_eq_true rfl) ?_
  refine g_ld (v := cI _) rfl (is_I _) ?_
  refine g_ld (v := cI _) rfl (is_I _) ?_
  obtain ⟨q85, q86, q87, q88, q89, h⟩ := h
  refine g_copyI aC16137 aC16137 q85 q86 q87 q88 q89 (Nat.le_of_ble_eq_true rfl) (fun _ => nfI aC16137) ?_
  replace h := h _ rfl
  refine g_ld (v := rf _) rfl (is_R _) ?_
  refine g_getF (v := 16138) oC13 (hC13_64) rfl (Nat.le_of_ble_eq_true rfl) (Nat.le_of_ble_eq_true rfl) ?_
  refine g_ld (v := cI _) rfl (is_I _) ?_
  refine g_ld (v := rf _) rfl (is_R _) ?_
  refine g_getF (v := 16138) oC13 (hC13_64) rfl (Nat.le_of_ble_eq_true rfl) (Nat.le_of_ble_eq_true rfl) ?_
  refine g_ld (v := cI _) rfl (is_I _) ?_
  refine g_ld (v := cI _) rfl (is_I _) ?_
  obtain ⟨q91, q92, q93, q94, q95, h⟩ := h
  refine g_copyZ aC16138 aC16138 q91 q92 q93 q94 q95 (Nat.le_of_ble_eq_true rfl) (fun _ => nfZ aC16138) ?_
  replace h := h _ rfl
  refine g_ld (v := rf _) rfl (is_R _) ?_
  refine g_getF (v := 16139) oC13 (hC13_65) rfl (Nat.le_of_ble_eq_true rfl) (Nat.le_of_ble_eq_true rfl) ?_
  refine g_ld (v := cI _) rfl (is_I _) ?_
  refine g_ld (v := rf _) rfl (is_R _) ?_
  refine g_getF (v := 16139) oC13 (hC13_65) rfl (Nat.le_of_ble_eq_true rfl) (Nat.le_of_ble_eq_true rfl) ?_
  refine g_ld (v := cI _) rfl (is_I _) ?_
  refine g_ld (v := cI _) rfl (is_I _) ?_
  obtain ⟨q97, q98, q99, q100, q101, h⟩ := h
  refine g_copyI aC16139 aC16139 q97 q98 q99 q100 q101 (Nat.le_of_ble_eq_true rfl) (fun _ => nfI aC16139) ?_
  replace h := h _ rfl
  unfold vX13_copyMembers_248
  refine g_ld (v := rf _) rfl (is_R _) ?_
  refine g_getF (v := 16140) oC13 (hC13_66) rfl (Nat.le_of_ble_eq_true rfl) (Nat.le_of_ble_eq_true rfl) ?_
  refine g_ld (v := cI _) rfl (is_I _) ?_
  refine g_ld (v := rf _) rfl (is_R _) ?_
  refine g_getF (v := 16140) oC13 (hC13_66) rfl (Nat.le_of_ble_eq_true rfl) (Nat.le_of_ble_eq_true rfl) ?_
  refine g_ld (v := cI _) rfl (is_I _) ?_
  refine g_ld (v := cI _) rfl (is_I _) ?_
  obtain ⟨q103, q104, q105, q106, q107, h⟩ := h
  refine g_copyL aC16140 aC16140 q103 q104 q105 q106 q107 (Nat.le_of_ble_eq_true rfl) (fun _ => nfL aC16140) ?_
  replace h := h _ rfl
  refine g_ld (v := rf _) rfl (is_R _) ?_
  refine g_getF (v := 16141) oC13 (hC13_67) rfl (Nat.le_of_ble_eq_true rfl) (Nat.le_of_ble_eq_true rfl) ?_
  refine g_ld (v := cI _) rfl (is_I _) ?_
  refine g_ld (v := rf _) rfl (is_R _) ?_
  refine g_getF (v := 16141) oC13 (hC13_67) rfl (Nat.le_of_ble_eq_true rfl) (Nat.le_of_ble_eq_true rfl) ?_
  refine g_ld (v := cI _) rfl (is_I _) ?_
  refine g_ld (v := cI _) rfl (is_I _) ?_
  obtain ⟨q109, q110, q111, q112, q113, h⟩ := h
  refine g_copyI aC16141 aC16141 q109 q110 q111 q112 q113 (Nat.le_of_ble_eq_true rfl) (fun _ => nfI aC16141) ?_
  replace h := h _ rfl
  refine g_ld (v := rf _) rfl (is_R _) ?_
  refine g_getF (v := 16142) oC13 (hC13_68) rfl (Nat.le_of_ble_eq_true rfl) (Nat.le_of_ble_eq_true rfl) ?_
  refine g_ld (v := cI _) rfl (is_I _) ?_
  refine g_ld (v := rf _) rfl (is_R _) ?_
  refine g_getF (v := 16142) oC13 (hC13_68) rfl (Nat.le_of_ble_eq_true rfl) (Nat.le_of_ble_eq_true rfl) ?_
  refine g_ld (v := cI _) rfl (is_I _) ?_
  refine g_ld (v := cI _) rfl (is_I _) ?_
  obtain ⟨q115, q116, q117, q118, q119, h⟩ := h
  refine g_copyI aC16142 aC16142 q115 q116 q117 q118 q119 (Nat.le_of_ble_eq_true rfl) (fun _ => nfI aC16142) ?_
  replace h := h _ rfl
  unfold vX13_copyMembers_290
  refine g_ld (v := cI _) rfl (is_I _) ?_
  refine g_ld (v := cI _) rfl (is_I _) ?_
  refine g_sub ?_
  refine g_ld (v := cI _) rfl (is_I _) ?_
  refine g_idiv ⟨by omega, by omega⟩ (by omega) fun i121 => ?_
  replace h := h i121
  refine g_const (v := cI (1700)) rfl ?_
  refine g_mul ?_
  refine g_st (lv' := [_, _, _, _, _, _]) (is_I _) (Nat.le_of_ble_eq_true rfl) (Or.inr (n1_I _)) rfl ?_
  obtain ⟨q122, h⟩ := h
  refine g_const (v := cI (0)) rfl ?_
  refine g_st (lv' := [_, _, _, _, _, _]) (is_I _) (Nat.le_of_ble_eq_true rfl) (Or.inr (n1_I _)) rfl ?_
  exact TX13_copyMembers_304 ha1 ha2 ⟨by omega, by omega⟩ q122 ⟨by omega, by omega⟩ hj0 h
def PX13_copyMembers_J : Nat → Nat → List Int → gS → (Int → gS → Prop) → Prop
  | 0, _, _, _, _ => False
  | f + 1, h, L, G, Q => match h, L with
    | 0, [l1, l2, l3, l4, l5] => PX13_copyMembers_304 (PX13_copyMembers_J f) l1 l2 l3 l4 l5 G Q
    | _, _ => False
theorem TX13_copyMembers_J {Q : Int → gS → Prop} : ∀ f N : Nat, f ≤ N → (∀ (l1 : Int) (l2 : Int) (l3 : Int) (l4 : Int) (l5 : Int) (G : gS), (inI l1) → (inI l2) → (inI l3) → (inI l4) → (inI l5) → (PX13_copyMembers_J f) 0 [l1, l2, l3, l4, l5] G Q → Tg W0 (rx_J vhX13_copyMembers N 0) [rf (16081), cI (l1), cI (l2), cI (l3), cI (l4), cI (l5)] [] G (fun r G => r = 7 ∧ Q 0 G)) := by
  intro f
  induction f with
  | zero => exact fun N _ => fun _ _ _ _ _ _ _ _ _ _ _ h => h.elim
  | succ f ih =>
    intro N hN
    obtain ⟨M, rfl⟩ : ∃ M, N = M + 1 := ⟨N - 1, by omega⟩
    have ih := ih M (by omega)
    exact fun _ _ _ _ _ _ hl1 hl2 hl3 hl4 hl5 h => show Tg W0 (vX13_copyMembers_304 (rx_J vhX13_copyMembers M)) _ _ _ _ from TX13_copyMembers_304 hl1 hl2 hl3 hl4 hl5 ih h
def PX13_copyMembers (a1 : Int) (a2 : Int) (G : gS) (Q : Int → gS → Prop) : Prop := ∃ f : Nat, f ≤ 4000000000 ∧ PX13_copyMembers_0 (PX13_copyMembers_J f) a1 a2 G Q
theorem TX13_copyMembers {a1 : Int} {a2 : Int} {G : gS} {Q : Int → gS → Prop} (ha1 : inI a1) (ha2 : inI a2) (h : PX13_copyMembers a1 a2 G Q) : Tn W0 FX13_copyMembers [rf (16081), cI (a1), cI (a2)] G (fun r G => r = 7 ∧ Q 0 G) := by
  obtain ⟨f, hf, h⟩ := h
  have hJ := TX13_copyMembers_J (Q := Q) f 4000000000 hf
  unfold FX13_copyMembers
  refine g_ent (lv' := [rf (16081), cI (a1), cI (a2), 7, 7, 7]) (flR (flI (flI fl0))) (Nat.le_of_ble_eq_true rfl) rfl ?_
  exact TX13_copyMembers_0 ha1 ha2 hJ h
def PX13_copyNodes_380 (J : Nat → List Int → gS → (Int → gS → Prop) → Prop) (l1 : Int) (l2 : Int) (l3 : Int) (l4 : Int) (s0 : Int) (s1 : Int) (s2 : Int) (G : gS) (Q : Int → gS → Prop) : Prop :=
  (∃ n135, isA W0 0 n135 (s0) ∧ ((0 : Int) ≤ s1 ∧ ((s1 : Int) < n135 ∧ (∀ G139 : gS, G139 = uG G s0 s1 (s2) → (inI (l4 + 1) ∧ J 0 [l1, l2, l3, l4 + 1] G139 Q)))))
set_option maxRecDepth 20000 in
theorem TX13_copyNodes_380 {j : Nat → rx_K} {J : Nat → List Int → gS → (Int → gS → Prop) → Prop} {l1 : Int} {l2 : Int} {l3 : Int} {l4 : Int} {s0 : Int} {s1 : Int} {s2 : Int} {G : gS} {Q : Int → gS → Prop} (hl1 : inI l1) (hl2 : inI l2) (hl3 : inI l3) (hl4 : inI l4) (hs1 : inI s1) (hs2 : inI s2) (hj0 : ∀ (l1 : Int) (l2 : Int) (l3 : Int) (l4 : Int) (G : gS), (inI l1) → (inI l2) → (inI l3) → (inI l4) → J 0 [l1, l2, l3, l4] G Q → Tg W0 (j 0) [rf (16081), cI (l1), cI (l2), cI (l3), cI (l4)] [] G (fun r G => r = 7 ∧ Q 0 G)) (h : PX13_copyNodes_380 J l1 l2 l3 l4 s0 s1 s2 G Q) : Tg W0 (vX13_copyNodes_380 j) [rf (16081), cI (l1), cI (l2), cI (l3), cI (l4)] [cI (s2), cI (s1), rf (s0)] G (fun r G => r = 7 ∧ Q 0 G) := by
  unfold PX13_copyNodes_380 at h
  unfold vX13_copyNodes_380
  obtain ⟨n135, q136, h⟩ := h
  obtain ⟨q137, q138, h⟩ := h
  refine g_astI q136 q137 q138 hs2 (nfI q136) ?_
  replace h := h _ rfl
  refine g_inc (lv' := [_, _, _, _, _]) rfl (Nat.le_of_ble_eq_true rfl) (Or.inr (n1_I _)) rfl ?_
  obtain ⟨q140, h⟩ := h
  exact hj0 _ _ _ _ _ hl1 hl2 hl3 q140 h
def PX13_copyNodes_378 (J : Nat → List Int → gS → (Int → gS → Prop) → Prop) (l1 : Int) (l2 : Int) (l3 : Int) (l4 : Int) (s0 : Int) (s1 : Int) (G : gS) (Q : Int → gS → Prop) : Prop :=
  PX13_copyNodes_380 J l1 l2 l3 l4 s0 s1 (-2) G Q
set_option maxRecDepth 20000 in
theorem TX13_copyNodes_378 {j : Nat → rx_K} {J : Nat → List Int → gS → (Int → gS → Prop) → Prop} {l1 : Int} {l2 : Int} {l3 : Int} {l4 : Int} {s0 : Int} {s1 : Int} {G : gS} {Q : Int → gS → Prop} (hl1 : inI l1) (hl2 : inI l2) (hl3 : inI l3) (hl4 : inI l4) (hs1 : inI s1) (hj0 : ∀ (l1 : Int) (l2 : Int) (l3 : Int) (l4 : Int) (G : gS), (inI l1) → (inI l2) → (inI l3) → (inI l4) → J 0 [l1, l2, l3, l4] G Q → Tg W0 (j 0) [rf (16081), cI (l1), cI (l2), cI (l3), cI (l4)] [] G (fun r G => r = 7 ∧ Q 0 G)) (h : PX13_copyNodes_378 J l1 l2 l3 l4 s0 s1 G Q) : Tg W0 (vX13_copyNodes_378 j) [rf (16081), cI (l1), cI (l2), cI (l3), cI (l4)] [cI (s1), rf (s0)] G (fun r G => r = 7 ∧ Q 0 G) := by
  unfold PX13_copyNodes_378 at h
  unfold vX13_copyNodes_378
  refine g_const (v := cI (-2)) rfl ?_
  exact TX13_copyNodes_380 hl1 hl2 hl3 hl4 hs1 ⟨by omega, by omega⟩ hj0 h
def PX13_copyNodes_327 (J : Nat → List Int → gS → (Int → gS → Prop) → Prop) (l1 : Int) (l2 : Int) (l3 : Int) (l4 : Int) (s0 : Int) (s1 : Int) (s2 : Int) (G : gS) (Q : Int → gS → Prop) : Prop :=
  (∃ n115, isA W0 0 n115 (s0) ∧ ((0 : Int) ≤ s1 ∧ ((s1 : Int) < n115 ∧ (∀ G119 : gS, G119 = uG G s0 s1 (s2) → ((0 : Int) ≤ l1 + l4 ∧ ((l1 + l4 : Int) < 30600 ∧ (inI (G119 16144 (l1 + l4)) → ((G119 16144 (l1 + l4) = 22 → ((0 : Int) ≤ l1 + l4 ∧ ((l1 + l4 : Int) < 30600 ∧ (inI (G119 16153 (l1 + l4)) → ((G119 16153 (l1 + l4) = -2 → (inI (l2 + l4) ∧ PX13_copyNodes_378 J l1 l2 l3 l4 16153 (l2 + l4) G119 Q)) ∧ (¬ (G119 16153 (l1 + l4) = -2) → ((0 : Int) ≤ l1 + l4 ∧ ((l1 + l4 : Int) < 30600 ∧ (inI (G119 16153 (l1 + l4)) → (inI (l2 + l4) ∧ (inI ((G119 16153 (l1 + l4)) + l3) ∧ PX13_copyNodes_380 J l1 l2 l3 l4 16153 (l2 + l4) ((G119 16153 (l1 + l4)) + l3) G119 Q))))))))))) ∧ (¬ (G119 16144 (l1 + l4) = 22) → (inI (l2 + l4) ∧ PX13_copyNodes_378 J l1 l2 l3 l4 16153 (l2 + l4) G119 Q))))))))))
set_option maxRecDepth 20000 in
theorem TX13_copyNodes_327 {j : Nat → rx_K} {J : Nat → List Int → gS → (Int → gS → Prop) → Prop} {l1 : Int} {l2 : Int} {l3 : Int} {l4 : Int} {s0 : Int} {s1 : Int} {s2 : Int} {G : gS} {Q : Int → gS → Prop} (hl1 : inI l1) (hl2 : inI l2) (hl3 : inI l3) (hl4 : inI l4) (hs1 : inI s1) (hs2 : inI s2) (hj0 : ∀ (l1 : Int) (l2 : Int) (l3 : Int) (l4 : Int) (G : gS), (inI l1) → (inI l2) → (inI l3) → (inI l4) → J 0 [l1, l2, l3, l4] G Q → Tg W0 (j 0) [rf (16081), cI (l1), cI (l2), cI (l3), cI (l4)] [] G (fun r G => r = 7 ∧ Q 0 G)) (h : PX13_copyNodes_327 J l1 l2 l3 l4 s0 s1 s2 G Q) : Tg W0 (vX13_copyNodes_327 j) [rf (16081), cI (l1), cI (l2), cI (l3), cI (l4)] [cI (s2), cI (s1), rf (s0)] G (fun r G => r = 7 ∧ Q 0 G) := by
  unfold PX13_copyNodes_327 at h
  unfold vX13_copyNodes_327
  obtain ⟨n115, q116, h⟩ := h
  obtain ⟨q117, q118, h⟩ := h
  refine g_astI q116 q117 q118 hs2 (nfI q116) ?_
  replace h := h _ rfl
  refine g_ld (v := rf _) rfl (is_R _) ?_
  refine g_getF (v := 16153) oC13 (hC13_79) rfl (Nat.le_of_ble_eq_true rfl) (Nat.le_of_ble_eq_true rfl) ?_
  refine g_ld (v := cI _) rfl (is_I _) ?_
  refine g_ld (v := cI _) rfl (is_I _) ?_
  refine g_add ?_
  refine g_ld (v := rf _) rfl (is_R _) ?_
  refine g_getF (v := 16144) oC13 (hC13_70) rfl (Nat.le_of_ble_eq_true rfl) (Nat.le_of_ble_eq_true rfl) ?_
  refine g_ld (v := cI _) rfl (is_I _) ?_
  refine g_ld (v := cI _) rfl (is_I _) ?_
  refine g_add ?_
  obtain ⟨q120, q121, h⟩ := h
  refine g_aldI aC16144 q120 q121 rfl fun i122 => ?_
  replace h := h i122
  refine g_const (v := cI (22)) rfl ?_
  refine g_eq2 i122 ⟨by omega, by omega⟩ (fun b123 => ?_) (fun b123 => ?_)
  · replace h := h.1 b123
    unfold vX13_copyNodes_350
    refine g_ld (v := rf _) rfl (is_R _) ?_
    refine g_getF (v := 16153) oC13 (hC13_79) rfl (Nat.le_of_ble_eq_true rfl) (Nat.le_of_ble_eq_true rfl) ?_
    refine g_ld (v := cI _) rfl (is_I _) ?_
    refine g_ld (v := cI _) rfl (is_I _) ?_
    refine g_add ?_
    obtain ⟨q124, q125, h⟩ := h
    refine g_aldI aC16153 q124 q125 rfl fun i126 => ?_
    replace h := h i126
    refine g_const (v := cI (-2)) rfl ?_
    refine g_eq2 i126 ⟨by omega, by omega⟩ (fun b127 => ?_) (fun b127 => ?_)
    · replace h := h.1 b127
      obtain ⟨q128, h⟩ := h
      exact TX13_copyNodes_378 hl1 hl2 hl3 hl4 q128 hj0 h
    · replace h := h.2 b127
      unfold vX13_copyNodes_364
      refine g_ld (v := rf _) rfl (is_R _) ?_
      refine g_getF (v := 16153) oC13 (hC13_79) rfl (Nat.le_of_ble_eq_true rfl) (Nat.le_of_ble_eq_true rfl) ?_
      refine g_ld (v := cI _) rfl (is_I _) ?_
      refine g_ld (v := cI _) rfl (is_I _) ?_
      refine g_add ?_
      obtain ⟨q129, q130, h⟩ := h
      refine g_aldI aC16153 q129 q130 rfl fun i131 => ?_
      replace h := h i131
      refine g_ld (v := cI _) rfl (is_I _) ?_
      refine g_add ?_
      obtain ⟨q132, h⟩ := h
      obtain ⟨q133, h⟩ := h
      exact TX13_copyNodes_380 hl1 hl2 hl3 hl4 q132 q133 hj0 h
  · replace h := h.2 b123
    obtain ⟨q134, h⟩ := h
    exact TX13_copyNodes_378 hl1 hl2 hl3 hl4 q134 hj0 h
def PX13_copyNodes_288 (J : Nat → List Int → gS → (Int → gS → Prop) → Prop) (l1 : Int) (l2 : Int) (l3 : Int) (l4 : Int) (s0 : Int) (s1 : Int) (s2 : Int) (G : gS) (Q : Int → gS → Prop) : Prop :=
  (∃ n100, isA W0 0 n100 (s0) ∧ ((0 : Int) ≤ s1 ∧ ((s1 : Int) < n100 ∧ (∀ G104 : gS, G104 = uG G s0 s1 (s2) → ((0 : Int) ≤ l1 + l4 ∧ ((l1 + l4 : Int) < 30600 ∧ (inI (G104 16154 (l1 + l4)) → ((G104 16154 (l1 + l4) = -2 → (inI (l2 + l4) ∧ PX13_copyNodes_327 J l1 l2 l3 l4 16154 (l2 + l4) (-2) G104 Q)) ∧ (¬ (G104 16154 (l1 + l4) = -2) → ((0 : Int) ≤ l1 + l4 ∧ ((l1 + l4 : Int) < 30600 ∧ (inI (G104 16154 (l1 + l4)) → (inI (l2 + l4) ∧ (inI ((G104 16154 (l1 + l4)) + l3) ∧ PX13_copyNodes_327 J l1 l2 l3 l4 16154 (l2 + l4) ((G104 16154 (l1 + l4)) + l3) G104 Q))))))))))))))
set_option maxRecDepth 20000 in
theorem TX13_copyNodes_288 {j : Nat → rx_K} {J : Nat → List Int → gS → (Int → gS → Prop) → Prop} {l1 : Int} {l2 : Int} {l3 : Int} {l4 : Int} {s0 : Int} {s1 : Int} {s2 : Int} {G : gS} {Q : Int → gS → Prop} (hl1 : inI l1) (hl2 : inI l2) (hl3 : inI l3) (hl4 : inI l4) (hs1 : inI s1) (hs2 : inI s2) (hj0 : ∀ (l1 : Int) (l2 : Int) (l3 : Int) (l4 : Int) (G : gS), (inI l1) → (inI l2) → (inI l3) → (inI l4) → J 0 [l1, l2, l3, l4] G Q → Tg W0 (j 0) [rf (16081), cI (l1), cI (l2), cI (l3), cI (l4)] [] G (fun r G => r = 7 ∧ Q 0 G)) (h : PX13_copyNodes_288 J l1 l2 l3 l4 s0 s1 s2 G Q) : Tg W0 (vX13_copyNodes_288 j) [rf (16081), cI (l1), cI (l2), cI (l3), cI (l4)] [cI (s2), cI (s1), rf (s0)] G (fun r G => r = 7 ∧ Q 0 G) := by
  unfold PX13_copyNodes_288 at h
  unfold vX13_copyNodes_288
  obtain ⟨n100, q101, h⟩ := h
  obtain ⟨q102, q103, h⟩ := h
  refine g_astI q101 q102 q103 hs2 (nfI q101) ?_
  replace h := h _ rfl
  refine g_ld (v := rf _) rfl (is_R _) ?_
  refine g_getF (v := 16154) oC13 (hC13_80) rfl (Nat.le_of_ble_eq_true rfl) (Nat.le_of_ble_eq_true rfl) ?_
  refine g_ld (v := cI _) rfl (is_I _) ?_
  refine g_ld (v := cI _) rfl (is_I _) ?_
  refine g_add ?_
  refine g_ld (v := rf _) rfl (is_R _) ?_
  refine g_getF (v := 16154) oC13 (hC13_80) rfl (Nat.le_of_ble_eq_true rfl) (Nat.le_of_ble_eq_true rfl) ?_
  refine g_ld (v := cI _) rfl (is_I _) ?_
  refine g_ld (v := cI _) rfl (is_I _) ?_
  refine g_add ?_
  obtain ⟨q105, q106, h⟩ := h
  refine g_aldI aC16154 q105 q106 rfl fun i107 => ?_
  replace h := h i107
  refine g_const (v := cI (-2)) rfl ?_
  refine g_eq2 i107 ⟨by omega, by omega⟩ (fun b108 => ?_) (fun b108 => ?_)
  · replace h := h.1 b108
    unfold vX13_copyNodes_311
    refine g_const (v := cI (-2)) rfl ?_
    obtain ⟨q109, h⟩ := h
    exact TX13_copyNodes_327 hl1 hl2 hl3 hl4 q109 ⟨by omega, by omega⟩ hj0 h
  · replace h := h.2 b108
    unfold vX13_copyNodes_316
    refine g_ld (v := rf _) rfl (is_R _) ?_
    refine g_getF (v := 16154) oC13 (hC13_80) rfl (Nat.le_of_ble_eq_true rfl) (Nat.le_of_ble_eq_true rfl) ?_
    refine g_ld (v := cI _) rfl (is_I _) ?_
    refine g_ld (v := cI _) rfl (is_I _) ?_
    refine g_add ?_
    obtain ⟨q110, q111, h⟩ := h
    refine g_aldI aC16154 q110 q111 rfl fun i112 => ?_
    replace h := h i112
    refine g_ld (v := cI _) rfl (is_I _) ?_
    refine g_add ?_
    obtain ⟨q113, h⟩ := h
    obtain ⟨q114, h⟩ := h
    exact TX13_copyNodes_327 hl1 hl2 hl3 hl4 q113 q114 hj0 h
def PX13_copyNodes_249 (J : Nat → List Int → gS → (Int → gS → Prop) → Prop) (l1 : Int) (l2 : Int) (l3 : Int) (l4 : Int) (s0 : Int) (s1 : Int) (s2 : Int) (G : gS) (Q : Int → gS → Prop) : Prop :=
  (∃ n85, isA W0 0 n85 (s0) ∧ ((0 : Int) ≤ s1 ∧ ((s1 : Int) < n85 ∧ (∀ G89 : gS, G89 = uG G s0 s1 (s2) → ((0 : Int) ≤ l1 + l4 ∧ ((l1 + l4 : Int) < 30600 ∧ (inI (G89 16152 (l1 + l4)) → ((G89 16152 (l1 + l4) = -2 → (inI (l2 + l4) ∧ PX13_copyNodes_288 J l1 l2 l3 l4 16152 (l2 + l4) (-2) G89 Q)) ∧ (¬ (G89 16152 (l1 + l4) = -2) → ((0 : Int) ≤ l1 + l4 ∧ ((l1 + l4 : Int) < 30600 ∧ (inI (G89 16152 (l1 + l4)) → (inI (l2 + l4) ∧ (inI ((G89 16152 (l1 + l4)) + l3) ∧ PX13_copyNodes_288 J l1 l2 l3 l4 16152 (l2 + l4) ((G89 16152 (l1 + l4)) + l3) G89 Q))))))))))))))
set_option maxRecDepth 20000 in
theorem TX13_copyNodes_249 {j : Nat → rx_K} {J : Nat → List Int → gS → (Int → gS → Prop) → Prop} {l1 : Int} {l2 : Int} {l3 : Int} {l4 : Int} {s0 : Int} {s1 : Int} {s2 : Int} {G : gS} {Q : Int → gS → Prop} (hl1 : inI l1) (hl2 : inI l2) (hl3 : inI l3) (hl4 : inI l4) (hs1 : inI s1) (hs2 : inI s2) (hj0 : ∀ (l1 : Int) (l2 : Int) (l3 : Int) (l4 : Int) (G : gS), (inI l1) → (inI l2) → (inI l3) → (inI l4) → J 0 [l1, l2, l3, l4] G Q → Tg W0 (j 0) [rf (16081), cI (l1), cI (l2), cI (l3), cI (l4)] [] G (fun r G => r = 7 ∧ Q 0 G)) (h : PX13_copyNodes_249 J l1 l2 l3 l4 s0 s1 s2 G Q) : Tg W0 (vX13_copyNodes_249 j) [rf (16081), cI (l1), cI (l2), cI (l3), cI (l4)] [cI (s2), cI (s1), rf (s0)] G (fun r G => r = 7 ∧ Q 0 G) := by
  unfold PX13_copyNodes_249 at h
  unfold vX13_copyNodes_249
  obtain ⟨n85, q86, h⟩ := h
  obtain ⟨q87, q88, h⟩ := h
  refine g_astI q86 q87 q88 hs2 (nfI q86) ?_
  replace h := h _ rfl
  refine g_ld (v := rf _) rfl (is_R _) ?_
  refine g_getF (v := 16152) oC13 (hC13_78) rfl (Nat.le_of_ble_eq_true rfl) (Nat.le_of_ble_eq_true rfl) ?_
  refine g_ld (v := cI _) rfl (is_I _) ?_
  refine g_ld (v := cI _) rfl (is_I _) ?_
  refine g_add ?_
  refine g_ld (v := rf _) rfl (is_R _) ?_
  refine g_getF (v := 16152) oC13 (hC13_78) rfl (Nat.le_of_ble_eq_true rfl) (Nat.le_of_ble_eq_true rfl) ?_
  refine g_ld (v := cI _) rfl (is_I _) ?_
  refine g_ld (v := cI _) rfl (is_I _) ?_
  refine g_add ?_
  obtain ⟨q90, q91, h⟩ := h
  refine g_aldI aC16152 q90 q91 rfl fun i92 => ?_
  replace h := h i92
  refine g_const (v := cI (-2)) rfl ?_
  refine g_eq2 i92 ⟨by omega, by omega⟩ (fun b93 => ?_) (fun b93 => ?_)
  · replace h := h.1 b93
    unfold vX13_copyNodes_272
    refine g_const (v := cI (-2)) rfl ?_
    obtain ⟨q94, h⟩ := h
    exact TX13_copyNodes_288 hl1 hl2 hl3 hl4 q94 ⟨by omega, by omega⟩ hj0 h
  · replace h := h.2 b93
    unfold vX13_copyNodes_277
    refine g_ld (v := rf _) rfl (is_R _) ?_
    refine g_getF (v := 16152) oC13 (hC13_78) rfl (Nat.le_of_ble_eq_true rfl) (Nat.le_of_ble_eq_true rfl) ?_
    refine g_ld (v := cI _) rfl (is_I _) ?_
    refine g_ld (v := cI _) rfl (is_I _) ?_
    refine g_add ?_
    obtain ⟨q95, q96, h⟩ := h
    refine g_aldI aC16152 q95 q96 rfl fun i97 => ?_
    replace h := h i97
    refine g_ld (v := cI _) rfl (is_I _) ?_
    refine g_add ?_
    obtain ⟨q98, h⟩ := h
    obtain ⟨q99, h⟩ := h
    exact TX13_copyNodes_288 hl1 hl2 hl3 hl4 q98 q99 hj0 h
def PX13_copyNodes_203 (J : Nat → List Int → gS → (Int → gS → Prop) → Prop) (l1 : Int) (l2 : Int) (l3 : Int) (l4 : Int) (G : gS) (Q : Int → gS → Prop) : Prop :=
  ((l4 < 1700 → ((0 : Int) ≤ l1 + l4 ∧ ((l1 + l4 : Int) < 30600 ∧ (inI (G 16151 (l1 + l4)) → ((G 16151 (l1 + l4) = -2 → (inI (l2 + l4) ∧ PX13_copyNodes_249 J l1 l2 l3 l4 16151 (l2 + l4) (-2) G Q)) ∧ (¬ (G 16151 (l1 + l4) = -2) → ((0 : Int) ≤ l1 + l4 ∧ ((l1 + l4 : Int) < 30600 ∧ (inI (G 16151 (l1 + l4)) → (inI (l2 + l4) ∧ (inI ((G 16151 (l1 + l4)) + l3) ∧ PX13_copyNodes_249 J l1 l2 l3 l4 16151 (l2 + l4) ((G 16151 (l1 + l4)) + l3) G Q))))))))))) ∧ (¬ (l4 < 1700) → Q 0 G))
set_option maxRecDepth 20000 in
theorem TX13_copyNodes_203 {j : Nat → rx_K} {J : Nat → List Int → gS → (Int → gS → Prop) → Prop} {l1 : Int} {l2 : Int} {l3 : Int} {l4 : Int} {G : gS} {Q : Int → gS → Prop} (hl1 : inI l1) (hl2 : inI l2) (hl3 : inI l3) (hl4 : inI l4) (hj0 : ∀ (l1 : Int) (l2 : Int) (l3 : Int) (l4 : Int) (G : gS), (inI l1) → (inI l2) → (inI l3) → (inI l4) → J 0 [l1, l2, l3, l4] G Q → Tg W0 (j 0) [rf (16081), cI (l1), cI (l2), cI (l3), cI (l4)] [] G (fun r G => r = 7 ∧ Q 0 G)) (h : PX13_copyNodes_203 J l1 l2 l3 l4 G Q) : Tg W0 (vX13_copyNodes_203 j) [rf (16081), cI (l1), cI (l2), cI (l3), cI (l4)] [] G (fun r G => r = 7 ∧ Q 0 G) := by
  unfold PX13_copyNodes_203 at h
  unfold vX13_copyNodes_203
  refine g_ld (v := cI _) rfl (is_I _) ?_
  refine g_const (v := cI (1700)) rfl ?_
  refine g_lt2 hl4 ⟨by omega, by omega⟩ (fun b74 => ?_) (fun b74 => ?_)
  · replace h := h.1 b74
    unfold vX13_copyNodes_211
    refine g_ld (v := rf _) rfl (is_R _) ?_
    refine g_getF (v := 16151) oC13 (hC13_77) rfl (Nat.le_of_ble_eq_true rfl) (Nat.le_of_ble_eq_true rfl) ?_
    refine g_ld (v := cI _) rfl (is_I _) ?_
    refine g_ld (v := cI _) rfl (is_I _) ?_
    refine g_add ?_
    refine g_ld (v := rf _) rfl (is_R _) ?_
    refine g_getF (v := 16151) oC13 (hC13_77) rfl (Nat.le_of_ble_eq_true rfl) (Nat.le_of_ble_eq_true rfl) ?_
    refine g_ld (v := cI _) rfl (is_I _) ?_
    refine g_ld (v := cI _) rfl (is_I _) ?_
    refine g_add ?_
    obtain ⟨q75, q76, h⟩ := h
    refine g_aldI aC16151 q75 q76 rfl fun i77 => ?_
    replace h := h i77
    refine g_const (v := cI (-2)) rfl ?_
    refine g_eq2 i77 ⟨by omega, by omega⟩ (fun b78 => ?_) (fun b78 => ?_)
    · replace h := h.1 b78
      unfold vX13_copyNodes_233
      refine g_const (v := cI (-2)) rfl ?_
      obtain ⟨q79, h⟩ := h
      exact TX13_copyNodes_249 hl1 hl2 hl3 hl4 q79 ⟨by omega, by omega⟩ hj0 h
    · replace h := h.2 b78
      unfold vX13_copyNodes_238
      refine g_ld (v := rf _) rfl (is_R _) ?_
      refine g_getF (v := 16151) oC13 (hC13_77) rfl (Nat.le_of_ble_eq_true rfl) (Nat.le_of_ble_eq_true rfl) ?_
      refine g_ld (v := cI _) rfl (is_I _) ?_
      refine g_ld (v := cI _) rfl (is_I _) ?_
      refine g_add ?_
      obtain ⟨q80, q81, h⟩ := h
      refine g_aldI aC16151 q80 q81 rfl fun i82 => ?_
      replace h := h i82
      refine g_ld (v := cI _) rfl (is_I _) ?_
      refine g_add ?_
      obtain ⟨q83, h⟩ := h
      obtain ⟨q84, h⟩ := h
      exact TX13_copyNodes_249 hl1 hl2 hl3 hl4 q83 q84 hj0 h
  · replace h := h.2 b74
    unfold vX13_copyNodes_387
    exact g_ret0 ⟨rfl, h⟩
def PX13_copyNodes_0 (J : Nat → List Int → gS → (Int → gS → Prop) → Prop) (a1 : Int) (a2 : Int) (G : gS) (Q : Int → gS → Prop) : Prop :=
  ((0 : Int) ≤ a1 ∧ ((a1 + 1700 : Int) ≤ 30600 ∧ ((0 : Int) ≤ a2 ∧ ((a2 + 1700 : Int) ≤ 30600 ∧ ((0 : Int) ≤ 1700 ∧ (∀ G6 : gS, G6 = cpG G 16144 a1 16144 a2 1700 → ((0 : Int) ≤ a1 ∧ ((a1 + 1700 : Int) ≤ 30600 ∧ ((0 : Int) ≤ a2 ∧ ((a2 + 1700 : Int) ≤ 30600 ∧ ((0 : Int) ≤ 1700 ∧ (∀ G12 : gS, G12 = cpG G6 16148 a1 16148 a2 1700 → ((0 : Int) ≤ a1 ∧ ((a1 + 1700 : Int) ≤ 30600 ∧ ((0 : Int) ≤ a2 ∧ ((a2 + 1700 : Int) ≤ 30600 ∧ ((0 : Int) ≤ 1700 ∧ (∀ G18 : gS, G18 = cpG G12 16149 a1 16149 a2 1700 → ((0 : Int) ≤ a1 ∧ ((a1 + 1700 : Int) ≤ 30600 ∧ ((0 : Int) ≤ a2 ∧ ((a2 + 1700 : Int) ≤ 30600 ∧ ((0 : Int) ≤ 1700 ∧ (∀ G24 : gS, G24 = cpG G18 16150 a1 16150 a2 1700 → ((0 : Int) ≤ a1 ∧ ((a1 + 1700 : Int) ≤ 30600 ∧ ((0 : Int) ≤ a2 ∧ ((a2 + 1700 : Int) ≤ 30600 ∧ ((0 : Int) ≤ 1700 ∧ (∀ G30 : gS, G30 = cpG G24 16155 a1 16155 a2 1700 → ((0 : Int) ≤ a1 ∧ ((a1 + 1700 : Int) ≤ 30600 ∧ ((0 : Int) ≤ a2 ∧ ((a2 + 1700 : Int) ≤ 30600 ∧ ((0 : Int) ≤ 1700 ∧ (∀ G36 : gS, G36 = cpG G30 16156 a1 16156 a2 1700 → ((0 : Int) ≤ a1 ∧ ((a1 + 1700 : Int) ≤ 30600 ∧ ((0 : Int) ≤ a2 ∧ ((a2 + 1700 : Int) ≤ 30600 ∧ ((0 : Int) ≤ 1700 ∧ (∀ G42 : gS, G42 = cpG G36 16157 a1 16157 a2 1700 → ((0 : Int) ≤ a1 ∧ ((a1 + 1700 : Int) ≤ 30600 ∧ ((0 : Int) ≤ a2 ∧ ((a2 + 1700 : Int) ≤ 30600 ∧ ((0 : Int) ≤ 1700 ∧ (∀ G48 : gS, G48 = cpG G42 16158 a1 16158 a2 1700 → ((0 : Int) ≤ a1 ∧ ((a1 + 1700 : Int) ≤ 30600 ∧ ((0 : Int) ≤ a2 ∧ ((a2 + 1700 : Int) ≤ 30600 ∧ ((0 : Int) ≤ 1700 ∧ (∀ G54 : gS, G54 = cpG G48 16159 a1 16159 a2 1700 → ((0 : Int) ≤ 4 * a1 ∧ (((4 * a1) + 6800 : Int) ≤ 122400 ∧ ((0 : Int) ≤ 4 * a2 ∧ (((4 * a2) + 6800 : Int) ≤ 122400 ∧ ((0 : Int) ≤ 6800 ∧ (∀ G60 : gS, G60 = cpG G54 16160 (4 * a1) 16160 (4 * a2) 6800 → ((0 : Int) ≤ a1 ∧ ((a1 + 1700 : Int) ≤ 30600 ∧ ((0 : Int) ≤ a2 ∧ ((a2 + 1700 : Int) ≤ 30600 ∧ ((0 : Int) ≤ 1700 ∧ (∀ G66 : gS, G66 = cpG G60 16161 a1 16161 a2 1700 → ((0 : Int) ≤ a1 ∧ ((a1 + 1700 : Int) ≤ 30600 ∧ ((0 : Int) ≤ a2 ∧ ((a2 + 1700 : Int) ≤ 30600 ∧ ((0 : Int) ≤ 1700 ∧ (∀ G72 : gS, G72 = cpG G66 16162 a1 16162 a2 1700 → (inI (a2 - a1) ∧ PX13_copyNodes_203 J a1 a2 (a2 - a1) 0 G72 Q)))))))))))))))))))))))))))))))))))))))))))))))))))))))))))))))))))))))))
set_option maxRecDepth 20000 in
theorem TX13_copyNodes_0 {j : Nat → rx_K} {J : Nat → List Int → gS → (Int → gS → Prop) → Prop} {a1 : Int} {a2 : Int} {G : gS} {Q : Int → gS → Prop} (ha1 : inI a1) (ha2 : inI a2) (hj0 : ∀ (l1 : Int) (l2 : Int) (l3 : Int) (l4 : Int) (G : gS), (inI l1) → (inI l2) → (inI l3) → (inI l4) → J 0 [l1, l2, l3, l4] G Q → Tg W0 (j 0) [rf (16081), cI (l1), cI (l2), cI (l3), cI (l4)] [] G (fun r G => r = 7 ∧ Q 0 G)) (h : PX13_copyNodes_0 J a1 a2 G Q) : Tg W0 (vX13_copyNodes_0 j) [rf (16081), cI (a1), cI (a2), 7, 7] [] G (fun r G => r = 7 ∧ Q 0 G) := by
  unfold PX13_copyNodes_0 at h
  unfold vX13_copyNodes_0
  refine g_ld (v := rf _) rfl (is_R _) ?_
  refine g_getF (v := 16144) oC13 (hC13_70) rfl (Nat.le_of_ble_eq_true rfl) (Nat.le_of_ble_eq_true rfl) ?_
  refine g_ld (v := cI _) rfl (is_I _) ?_
  refine g_ld (v := rf _) rfl (is_R _) ?_
  refine g_getF (v := 16144) oC13 (hC13_70) rfl (Nat.le_of_ble_eq_true rfl) (Nat.le_of_ble_eq_true rfl) ?_
  refine g_ld (v := cI _) rfl (is_I _) ?_
  refine g_const (v := cI (1700)) rfl ?_
  obtain ⟨q1, q2, q3, q4, q5, h⟩ := h
  refine g_copyI aC16144 aC16144 q1 q2 q3 q4 q5 (Nat.le_of_ble_eq_true rfl) (fun _ => nfI aC16144) ?_
  replace h := h _ rfl
  refine g_ld (v := rf _) rfl (is_R _) ?_
  refine g_getF (v := 16148) oC13 (hC13_74) rfl (Nat.le_of_ble_eq_true rfl) (Nat.le_of_ble_eq_true rfl) ?_
  refine g_ld (v := cI _) rfl (is_I _) ?_
  refine g_ld (v := rf _) rfl (is_R _) ?_
  refine g_getF (v := 16148) oC13 (hC13_74) rfl (Nat.le_of_ble_eq_true rfl) (Nat.le_of_ble_eq_true rfl) ?_
  refine g_ld (v := cI _) rfl (is_I _) ?_
  refine g_const (v := cI (1700)) rfl ?_
  obtain ⟨q7, q8, q9, q10, q11, h⟩ := h
  refine g_copyL aC16148 aC16148 q7 q8 q9 q10 q11 (Nat.le_of_ble_eq_true rfl) (fun _ => nfL aC16148) ?_
  replace h := h _ rfl
  refine g_ld (v := rf _) rfl (is_R _) ?_
  refine g_getF (v := 16149) oC13 (hC13_75) rfl (Nat.le_of_ble_eq_true rfl) (Nat.le_of_ble_eq_true rfl) ?_
  refine g_ld (v := cI _) rfl (is_I _) ?_
  refine g_ld (v := rf _) rfl (is_R _) ?_
  refine g_getF (v := 16149) oC13 (hC13_75) rfl (Nat.le_of_ble_eq_true rfl) (Nat.le_of_ble_eq_true rfl) ?_
  refine g_ld (v := cI _) rfl (is_I _) ?_
  refine g_const (v := cI (1700)) rfl ?_
  obtain ⟨q13, q14, q15, q16, q17, h⟩ := h
  refine g_copyL aC16149 aC16149 q13 q14 q15 q16 q17 (Nat.le_of_ble_eq_true rfl) (fun _ => nfL aC16149) ?_
  replace h := h _ rfl
  unfold vX13_copyNodes_48
  refine g_ld (v := rf _) rfl (is_R _) ?_
  refine g_getF (v := 16150) oC13 (hC13_76) rfl (Nat.le_of_ble_eq_true rfl) (Nat.le_of_ble_eq_true rfl) ?_
  refine g_ld (v := cI _) rfl (is_I _) ?_
  refine g_ld (v := rf _) rfl (is_R _) ?_
  refine g_getF (v := 16150) oC13 (hC13_76) rfl (Nat.le_of_ble_eq_true rfl) (Nat.le_of_ble_eq_true rfl) ?_
  refine g_ld (v := cI _) rfl (is_I _) ?_
  refine g_const (v := cI (1700)) rfl ?_
  obtain ⟨q19, q20, q21, q22, q23, h⟩ := h
  refine g_copyL aC16150 aC16150 q19 q20 q21 q22 q23 (Nat.le_of_ble_eq_true rfl) (fun _ => nfL aC16150) ?_
  replace h := h _ rfl
  refine g_ld (v := rf _) rfl (is_R _) ?_
  refine g_getF (v := 16155) oC13 (hC13_81) rfl (Nat.le_of_ble_eq_true rfl) (Nat.le_of_ble_eq_true rfl) ?_
  refine g_ld (v := cI _) rfl (is_I _) ?_
  refine g_ld (v := rf _) rfl (is_R _) ?_
  refine g_getF (v := 16155) oC13 (hC13_81) rfl (Nat.le_of_ble_eq_true rfl) (Nat.le_of_ble_eq_true rfl) ?_
  refine g_ld (v := cI _) rfl (is_I _) ?_
  refine g_const (v := cI (1700)) rfl ?_
  obtain ⟨q25, q26, q27, q28, q29, h⟩ := h
  refine g_copyI aC16155 aC16155 q25 q26 q27 q28 q29 (Nat.le_of_ble_eq_true rfl) (fun _ => nfI aC16155) ?_
  replace h := h _ rfl
  refine g_ld (v := rf _) rfl (is_R _) ?_
  refine g_getF (v := 16156) oC13 (hC13_82) rfl (Nat.le_of_ble_eq_true rfl) (Nat.le_of_ble_eq_true rfl) ?_
  refine g_ld (v := cI _) rfl (is_I _) ?_
  refine g_ld (v := rf _) rfl (is_R _) ?_
  refine g_getF (v := 16156) oC13 (hC13_82) rfl (Nat.le_of_ble_eq_true rfl) (Nat.le_of_ble_eq_true rfl) ?_
  refine g_ld (v := cI _) rfl (is_I _) ?_
  refine g_const (v := cI (1700)) rfl ?_
  obtain ⟨q31, q32, q33, q34, q35, h⟩ := h
  refine g_copyI aC16156 aC16156 q31 q32 q33 q34 q35 (Nat.le_of_ble_eq_true rfl) (fun _ => nfI aC16156) ?_
  replace h := h _ rfl
  unfold vX13_copyNodes_96
  refine g_ld (v := rf _) rfl (is_R _) ?_
  refine g_getF (v := 16157) oC13 (hC13_83) rfl (Nat.le_of_ble_eq_true rfl) (Nat.le_of_ble_eq_true rfl) ?_
  refine g_ld (v := cI _) rfl (is_I _) ?_
  refine g_ld (v := rf _) rfl (is_R _) ?_
  refine g_getF (v := 16157) oC13 (hC13_83) rfl (Nat.le_of_ble_eq_true rfl) (Nat.le_of_ble_eq_true rfl) ?_
  refine g_ld (v := cI _) rfl (is_I _) ?_
  refine g_const (v := cI (1700)) rfl ?_
  obtain ⟨q37, q38, q39, q40, q41, h⟩ := h
  refine g_copyL aC16157 aC16157 q37 q38 q39 q40 q41 (Nat.le_of_ble_eq_true rfl) (fun _ => nfL aC16157) ?_
  replace h := h _ rfl
  refine g_ld (v := rf _) rfl (is_R _) ?_
  refine g_getF (v := 16158) oC13 (hC13_84) rfl (Nat.le_of_ble_eq_true rfl) (Nat.le_of_ble_eq_true rfl) ?_
  refine g_ld (v := cI _) rfl (is_I _) ?_
  refine g_ld (v := rf _) rfl (is_R _) ?_
  refine g_getF (v := 16158) oC13 (hC13_84) rfl (Nat.le_of_ble_eq_true rfl) (Nat.le_of_ble_eq_true rfl) ?_
  refine g_ld (v := cI _) rfl (is_I _) ?_
  refine g_const (v := cI (1700)) rfl ?_
  obtain ⟨q43, q44, q45, q46, q47, h⟩ := h
  refine g_copyL aC16158 aC16158 q43 q44 q45 q46 q47 (Nat.le_of_ble_eq_true rfl) (fun _ => nfL aC16158) ?_
  replace h := h _ rfl
  refine g_ld (v := rf _) rfl (is_R _) ?_
  refine g_getF (v := 16159) oC13 (hC13_85) rfl (Nat.le_of_ble_eq_true rfl) (Nat.le_of_ble_eq_true rfl) ?_
  refine g_ld (v := cI _) rfl (is_I _) ?_
  refine g_ld (v := rf _) rfl (is_R _) ?_
  refine g_getF (v := 16159) oC13 (hC13_85) rfl (Nat.le_of_ble_eq_true rfl) (Nat.le_of_ble_eq_true rfl) ?_
  refine g_ld (v := cI _) rfl (is_I _) ?_
  refine g_const (v := cI (1700)) rfl ?_
  obtain ⟨q49, q50, q51, q52, q53, h⟩ := h
  refine g_copyI aC16159 aC16159 q49 q50 q51 q52 q53 (Nat.le_of_ble_eq_true rfl) (fun _ => nfI aC16159) ?_
  replace h := h _ rfl
  unfold vX13_copyNodes_144
  refine g_ld (v := rf _) rfl (is_R _) ?_
  refine g_getF (v := 16160) oC13 (hC13_86) rfl (Nat.le_of_ble_eq_true rfl) (Nat.le_of_ble_eq_true rfl) ?_
  refine g_const (v := cI (4)) rfl ?_
  refine g_ld (v := cI _) rfl (is_I _) ?_
  refine g_mul ?_
  refine g_ld (v := rf _) rfl (is_R _) ?_
  refine g_getF (v := 16160) oC13 (hC13_86) rfl (Nat.le_of_ble_eq_true rfl) (Nat.le_of_ble_eq_true rfl) ?_
  refine g_const (v := cI (4)) rfl ?_
  refine g_ld (v := cI _) rfl (is_I _) ?_
  refine g_mul ?_
  refine g_const (v := cI (6800)) rfl ?_
  obtain ⟨q55, q56, q57, q58, q59, h⟩ := h
  refine g_copyL aC16160 aC16160 q55 q56 q57 q58 q59 (Nat.le_of_ble_eq_true rfl) (fun _ => nfL aC16160) ?_
  replace h := h _ rfl
  refine g_ld (v := rf _) rfl (is_R _) ?_
  refine g_getF (v := 16161) oC13 (hC13_87) rfl (Nat.le_of_ble_eq_true rfl) (Nat.le_of_ble_eq_true rfl) ?_
  refine g_ld (v := cI _) rfl (is_I _) ?_
  refine g_ld (v := rf _) rfl (is_R _) ?_
  refine g_getF (v := 16161) oC13 (hC13_87) rfl (Nat.le_of_ble_eq_true rfl) (Nat.le_of_ble_eq_true rfl) ?_
  refine g_ld (v := cI _) rfl (is_I _) ?_
  refine g_const (v := cI (1700)) rfl ?_
  obtain ⟨q61, q62, q63, q64, q65, h⟩ := h
  refine g_copyI aC16161 aC16161 q61 q62 q63 q64 q65 (Nat.le_of_ble_eq_true rfl) (fun _ => nfI aC16161) ?_
  replace h := h _ rfl
  refine g_ld (v := rf _) rfl (is_R _) ?_
  refine g_getF (v := 16162) oC13 (hC13_88) rfl (Nat.le_of_ble_eq_true rfl) (Nat.le_of_ble_eq_true rfl) ?_
  refine g_ld (v := cI _) rfl (is_I _) ?_
  refine g_ld (v := rf _) rfl (is_R _) ?_
  unfold vX13_copyNodes_186
  refine g_getF (v := 16162) oC13 (hC13_88) rfl (Nat.le_of_ble_eq_true rfl) (Nat.le_of_ble_eq_true rfl) ?_
  refine g_ld (v := cI _) rfl (is_I _) ?_
  refine g_const (v := cI (1700)) rfl ?_
  obtain ⟨q67, q68, q69, q70, q71, h⟩ := h
  refine g_copyI aC16162 aC16162 q67 q68 q69 q70 q71 (Nat.le_of_ble_eq_true rfl) (fun _ => nfI aC16162) ?_
  replace h := h _ rfl
  refine g_ld (v := cI _) rfl (is_I _) ?_
  refine g_ld (v := cI _) rfl (is_I _) ?_
  refine g_sub ?_
  refine g_st (lv' := [_, _, _, _, _]) (is_I _) (Nat.le_of_ble_eq_true rfl) (Or.inr (n1_I _)) rfl ?_
  obtain ⟨q73, h⟩ := h
  refine g_const (v := cI (0)) rfl ?_
  refine g_st (lv' := [_, _, _, _, _]) (is_I _) (Nat.le_of_ble_eq_true rfl) (Or.inr (n1_I _)) rfl ?_
  exact TX13_copyNodes_203 ha1 ha2 q73 ⟨by omega, by omega⟩ hj0 h
def PX13_copyNodes_J : Nat → Nat → List Int → gS → (Int → gS → Prop) → Prop
  | 0, _, _, _, _ => False
  | f + 1, h, L, G, Q => match h, L with
    | 0, [l1, l2, l3, l4] => PX13_copyNodes_203 (PX13_copyNodes_J f) l1 l2 l3 l4 G Q
    | _, _ => False
theorem TX13_copyNodes_J {Q : Int → gS → Prop} : ∀ f N : Nat, f ≤ N → (∀ (l1 : Int) (l2 : Int) (l3 : Int) (l4 : Int) (G : gS), (inI l1) → (inI l2) → (inI l3) → (inI l4) → (PX13_copyNodes_J f) 0 [l1, l2, l3, l4] G Q → Tg W0 (rx_J vhX13_copyNodes N 0) [rf (16081), cI (l1), cI (l2), cI (l3), cI (l4)] [] G (fun r G => r = 7 ∧ Q 0 G)) := by
  intro f
  induction f with
  | zero => exact fun N _ => fun _ _ _ _ _ _ _ _ _ h => h.elim
  | succ f ih =>
    intro N hN
    obtain ⟨M, rfl⟩ : ∃ M, N = M + 1 := ⟨N - 1, by omega⟩
    have ih := ih M (by omega)
    exact fun _ _ _ _ _ hl1 hl2 hl3 hl4 h => show Tg W0 (vX13_copyNodes_203 (rx_J vhX13_copyNodes M)) _ _ _ _ from TX13_copyNodes_203 hl1 hl2 hl3 hl4 ih h
def PX13_copyNodes (a1 : Int) (a2 : Int) (G : gS) (Q : Int → gS → Prop) : Prop := ∃ f : Nat, f ≤ 4000000000 ∧ PX13_copyNodes_0 (PX13_copyNodes_J f) a1 a2 G Q
theorem TX13_copyNodes {a1 : Int} {a2 : Int} {G : gS} {Q : Int → gS → Prop} (ha1 : inI a1) (ha2 : inI a2) (h : PX13_copyNodes a1 a2 G Q) : Tn W0 FX13_copyNodes [rf (16081), cI (a1), cI (a2)] G (fun r G => r = 7 ∧ Q 0 G) := by
  obtain ⟨f, hf, h⟩ := h
  have hJ := TX13_copyNodes_J (Q := Q) f 4000000000 hf
  unfold FX13_copyNodes
  refine g_ent (lv' := [rf (16081), cI (a1), cI (a2), 7, 7]) (flR (flI (flI fl0))) (Nat.le_of_ble_eq_true rfl) rfl ?_
  exact TX13_copyNodes_0 ha1 ha2 hJ h
def PX13_copyBuild_0 (a1 : Int) (a2 : Int) (G : gS) (Q : Int → gS → Prop) : Prop :=
  (inI (G 16081 19) → ((0 : Int) ≤ a1 * 4000 ∧ (((a1 * 4000) + 4000 : Int) ≤ 64000 ∧ ((0 : Int) ≤ (G 16081 19) * 4000 ∧ ((((G 16081 19) * 4000) + 4000 : Int) ≤ 64000 ∧ ((0 : Int) ≤ 4000 ∧ (∀ G7 : gS, G7 = cpG G 16085 (a1 * 4000) 16085 ((G 16081 19) * 4000) 4000 → (inI (G7 16081 19) → ((0 : Int) ≤ a1 ∧ ((a1 : Int) < 16 ∧ (inI (G7 16086 a1) → ((0 : Int) ≤ G7 16081 19 ∧ ((G7 16081 19 : Int) < 16 ∧ (∀ G14 : gS, G14 = uG G7 16086 (G7 16081 19) (G7 16086 a1) → (inI (G14 16081 19) → ((0 : Int) ≤ G14 16081 19 ∧ ((G14 16081 19 : Int) < 16 ∧ (∀ G18 : gS, G18 = uG G14 16087 (G14 16081 19) (a2) → (inI (G18 16081 19) → ((0 : Int) ≤ a1 ∧ ((a1 : Int) < 18 ∧ (inI (G18 16095 a1) → ((0 : Int) ≤ G18 16081 19 ∧ ((G18 16081 19 : Int) < 18 ∧ (∀ G25 : gS, G25 = uG G18 16095 (G18 16081 19) (G18 16095 a1) → (inI (G25 16081 19) → ((0 : Int) ≤ a1 * 702 ∧ (((a1 * 702) + 702 : Int) ≤ 12636 ∧ ((0 : Int) ≤ (G25 16081 19) * 702 ∧ ((((G25 16081 19) * 702) + 702 : Int) ≤ 12636 ∧ ((0 : Int) ≤ 702 ∧ (∀ G32 : gS, G32 = cpG G25 16090 (a1 * 702) 16090 ((G25 16081 19) * 702) 702 → (inI (G32 16081 19) → ((0 : Int) ≤ a1 * 702 ∧ (((a1 * 702) + 702 : Int) ≤ 12636 ∧ ((0 : Int) ≤ (G32 16081 19) * 702 ∧ ((((G32 16081 19) * 702) + 702 : Int) ≤ 12636 ∧ ((0 : Int) ≤ 702 ∧ (∀ G39 : gS, G39 = cpG G32 16091 (a1 * 702) 16091 ((G32 16081 19) * 702) 702 → (inI (G39 16081 19) → ((0 : Int) ≤ a1 * 702 ∧ (((a1 * 702) + 702 : Int) ≤ 12636 ∧ ((0 : Int) ≤ (G39 16081 19) * 702 ∧ ((((G39 16081 19) * 702) + 702 : Int) ≤ 12636 ∧ ((0 : Int) ≤ 702 ∧ (∀ G46 : gS, G46 = cpG G39 16092 (a1 * 702) 16092 ((G39 16081 19) * 702) 702 → (inI (G46 16081 19) → ((0 : Int) ≤ a1 * 702 ∧ (((a1 * 702) + 702 : Int) ≤ 12636 ∧ ((0 : Int) ≤ (G46 16081 19) * 702 ∧ ((((G46 16081 19) * 702) + 702 : Int) ≤ 12636 ∧ ((0 : Int) ≤ 702 ∧ (∀ G53 : gS, G53 = cpG G46 16093 (a1 * 702) 16093 ((G46 16081 19) * 702) 702 → (inI (G53 16081 19) → ((0 : Int) ≤ a1 * 702 ∧ (((a1 * 702) + 702 : Int) ≤ 12636 ∧ ((0 : Int) ≤ (G53 16081 19) * 702 ∧ ((((G53 16081 19) * 702) + 702 : Int) ≤ 12636 ∧ ((0 : Int) ≤ 702 ∧ (∀ G60 : gS, G60 = cpG G53 16094 (a1 * 702) 16094 ((G53 16081 19) * 702) 702 → (inI (G60 16081 19) → (inI (a1 * 12) ∧ (inI ((G60 16081 19) * 12) ∧ PX13_copyClasses (a1 * 12) ((G60 16081 19) * 12) G60 (fun _ G64 => (inI (G64 16081 19) → (inI ((a1 * 12) * 34) ∧ (inI (((G64 16081 19) * 12) * 34) ∧ PX13_copyMembers ((a1 * 12) * 34) (((G64 16081 19) * 12) * 34) G64 (fun _ G69 => (inI (G69 16081 19) → (inI (a1 * 1700) ∧ (inI ((G69 16081 19) * 1700) ∧ PX13_copyNodes (a1 * 1700) ((G69 16081 19) * 1700) G69 (fun _ G74 => (inI (G74 16081 19) → ((0 : Int) ≤ a1 ∧ ((a1 : Int) < 18 ∧ (inI (G74 16097 a1) → ((0 : Int) ≤ G74 16081 19 ∧ ((G74 16081 19 : Int) < 18 ∧ (∀ G82 : gS, G82 = uG G74 16097 (G74 16081 19) (G74 16097 a1) → (inI (G82 16081 19) → ((0 : Int) ≤ a1 ∧ ((a1 : Int) < 18 ∧ (inI (G82 16143 a1) → ((0 : Int) ≤ G82 16081 19 ∧ ((G82 16081 19 : Int) < 18 ∧ (∀ G89 : gS, G89 = uG G82 16143 (G82 16081 19) (G82 16143 a1) → Q 0 G89))))))))))))))))))))))))))))))))))))))))))))))))))))))))))))))))))))))))))))))))))))))
set_option maxRecDepth 20000 in
theorem TX13_copyBuild_0 {a1 : Int} {a2 : Int} {G : gS} {Q : Int → gS → Prop} (ha1 : inI a1) (ha2 : inI a2) (h : PX13_copyBuild_0 a1 a2 G Q) : Tg W0 vX13_copyBuild_0 [rf (16081), cI (a1), cI (a2)] [] G (fun r G => r = 7 ∧ Q 0 G) := by
  unfold PX13_copyBuild_0 at h
  unfold vX13_copyBuild_0
  refine g_ld (v := rf _) rfl (is_R _) ?_
  refine g_getF (v := 16085) oC13 (hC13_5) rfl (Nat.le_of_ble_eq_true rfl) (Nat.le_of_ble_eq_true rfl) ?_
  refine g_ld (v := cI _) rfl (is_I _) ?_
  refine g_const (v := cI (4000)) rfl ?_
  refine g_mul ?_
  refine g_ld (v := rf _) rfl (is_R _) ?_
  refine g_getF (v := 16085) oC13 (hC13_5) rfl (Nat.le_of_ble_eq_true rfl) (Nat.le_of_ble_eq_true rfl) ?_
  refine g_ld (v := rf _) rfl (is_R _) ?_
  refine g_getI (kz := 19) oC13 rfl (Nat.le_of_ble_eq_true rfl) rfl fun i1 => ?_
  replace h := h i1
  refine g_const (v := cI (4000)) rfl ?_
  refine g_mul ?_
  refine g_const (v := cI (4000)) rfl ?_
  obtain ⟨q2, q3, q4, q5, q6, h⟩ := h
  refine g_copyB aC16085 aC16085 q2 q3 q4 q5 q6 (Nat.le_of_ble_eq_true rfl) (fun _ => nfB aC16085) ?_
  replace h := h _ rfl
  refine g_ld (v := rf _) rfl (is_R _) ?_
  refine g_getF (v := 16086) oC13 (hC13_6) rfl (Nat.le_of_ble_eq_true rfl) (Nat.le_of_ble_eq_true rfl) ?_
  refine g_ld (v := rf _) rfl (is_R _) ?_
  refine g_getI (kz := 19) oC13 rfl (Nat.le_of_ble_eq_true rfl) rfl fun i8 => ?_
  replace h := h i8
  refine g_ld (v := rf _) rfl (is_R _) ?_
  refine g_getF (v := 16086) oC13 (hC13_6) rfl (Nat.le_of_ble_eq_true rfl) (Nat.le_of_ble_eq_true rfl) ?_
  refine g_ld (v := cI _) rfl (is_I _) ?_
  obtain ⟨q9, q10, h⟩ := h
  refine g_aldI aC16086 q9 q10 rfl fun i11 => ?_
  replace h := h i11
  obtain ⟨q12, q13, h⟩ := h
  refine g_astI aC16086 q12 q13 i11 (nfI aC16086) ?_
  replace h := h _ rfl
  refine g_ld (v := rf _) rfl (is_R _) ?_
  refine g_getF (v := 16087) oC13 (hC13_7) rfl (Nat.le_of_ble_eq_true rfl) (Nat.le_of_ble_eq_true rfl) ?_
  unfold vX13_copyBuild_46
  refine g_ld (v := rf _) rfl (is_R _) ?_
  refine g_getI (kz := 19) oC13 rfl (Nat.le_of_ble_eq_true rfl) rfl fun i15 => ?_
  replace h := h i15
  refine g_ld (v := cI _) rfl (is_I _) ?_
  obtain ⟨q16, q17, h⟩ := h
  refine g_astI aC16087 q16 q17 ha2 (nfI aC16087) ?_
  replace h := h _ rfl
  refine g_ld (v := rf _) rfl (is_R _) ?_
  refine g_getF (v := 16095) oC13 (hC13_16) rfl (Nat.le_of_ble_eq_true rfl) (Nat.le_of_ble_eq_true rfl) ?_
  refine g_ld (v := rf _) rfl (is_R _) ?_
  refine g_getI (kz := 19) oC13 rfl (Nat.le_of_ble_eq_true rfl) rfl fun i19 => ?_
  replace h := h i19
  refine g_ld (v := rf _) rfl (is_R _) ?_
  refine g_getF (v := 16095) oC13 (hC13_16) rfl (Nat.le_of_ble_eq_true rfl) (Nat.le_of_ble_eq_true rfl) ?_
  refine g_ld (v := cI _) rfl (is_I _) ?_
  obtain ⟨q20, q21, h⟩ := h
  refine g_aldI aC16095 q20 q21 rfl fun i22 => ?_
  replace h := h i22
  obtain ⟨q23, q24, h⟩ := h
  refine g_astI aC16095 q23 q24 i22 (nfI aC16095) ?_
  replace h := h _ rfl
  refine g_ld (v := rf _) rfl (is_R _) ?_
  refine g_getF (v := 16090) oC13 (hC13_11) rfl (Nat.le_of_ble_eq_true rfl) (Nat.le_of_ble_eq_true rfl) ?_
  refine g_ld (v := cI _) rfl (is_I _) ?_
  refine g_const (v := cI (702)) rfl ?_
  refine g_mul ?_
  refine g_ld (v := rf _) rfl (is_R _) ?_
  refine g_getF (v := 16090) oC13 (hC13_11) rfl (Nat.le_of_ble_eq_true rfl) (Nat.le_of_ble_eq_true rfl) ?_
  refine g_ld (v := rf _) rfl (is_R _) ?_
  refine g_getI (kz := 19) oC13 rfl (Nat.le_of_ble_eq_true rfl) rfl fun i26 => ?_
  replace h := h i26
  refine g_const (v := cI (702)) rfl ?_
  refine g_mul ?_
  unfold vX13_copyBuild_88
  refine g_const (v := cI (702)) rfl ?_
  obtain ⟨q27, q28, q29, q30, q31, h⟩ := h
  refine g_copyI aC16090 aC16090 q27 q28 q29 q30 q31 (Nat.le_of_ble_eq_true rfl) (fun _ => nfI aC16090) ?_
  replace h := h _ rfl
  refine g_ld (v := rf _) rfl (is_R _) ?_
  refine g_getF (v := 16091) oC13 (hC13_12) rfl (Nat.le_of_ble_eq_true rfl) (Nat.le_of_ble_eq_true rfl) ?_
  refine g_ld (v := cI _) rfl (is_I _) ?_
  refine g_const (v := cI (702)) rfl ?_
  refine g_mul ?_
  refine g_ld (v := rf _) rfl (is_R _) ?_
  refine g_getF (v := 16091) oC13 (hC13_12) rfl (Nat.le_of_ble_eq_true rfl) (Nat.le_of_ble_eq_true rfl) ?_
  refine g_ld (v := rf _) rfl (is_R _) ?_
  refine g_getI (kz := 19) oC13 rfl (Nat.le_of_ble_eq_true rfl) rfl fun i33 => ?_
  replace h := h i33
  refine g_const (v := cI (702)) rfl ?_
  refine g_mul ?_
  refine g_const (v := cI (702)) rfl ?_
  obtain ⟨q34, q35, q36, q37, q38, h⟩ := h
  refine g_copyI aC16091 aC16091 q34 q35 q36 q37 q38 (Nat.le_of_ble_eq_true rfl) (fun _ => nfI aC16091) ?_
  replace h := h _ rfl
  refine g_ld (v := rf _) rfl (is_R _) ?_
  refine g_getF (v := 16092) oC13 (hC13_13) rfl (Nat.le_of_ble_eq_true rfl) (Nat.le_of_ble_eq_true rfl) ?_
  refine g_ld (v := cI _) rfl (is_I _) ?_
  refine g_const (v := cI (702)) rfl ?_
  refine g_mul ?_
  refine g_ld (v := rf _) rfl (is_R _) ?_
  refine g_getF (v := 16092) oC13 (hC13_13) rfl (Nat.le_of_ble_eq_true rfl) (Nat.le_of_ble_eq_true rfl) ?_
  refine g_ld (v := rf _) rfl (is_R _) ?_
  refine g_getI (kz := 19) oC13 rfl (Nat.le_of_ble_eq_true rfl) rfl fun i40 => ?_
  replace h := h i40
  unfold vX13_copyBuild_138
  refine g_const (v := cI (702)) rfl ?_
  refine g_mul ?_
  refine g_const (v := cI (702)) rfl ?_
  obtain ⟨q41, q42, q43, q44, q45, h⟩ := h
  refine g_copyI aC16092 aC16092 q41 q42 q43 q44 q45 (Nat.le_of_ble_eq_true rfl) (fun _ => nfI aC16092) ?_
  replace h := h _ rfl
  refine g_ld (v := rf _) rfl (is_R _) ?_
  refine g_getF (v := 16093) oC13 (hC13_14) rfl (Nat.le_of_ble_eq_true rfl) (Nat.le_of_ble_eq_true rfl) ?_
  refine g_ld (v := cI _) rfl (is_I _) ?_
  refine g_const (v := cI (702)) rfl ?_
  refine g_mul ?_
  refine g_ld (v := rf _) rfl (is_R _) ?_
  refine g_getF (v := 16093) oC13 (hC13_14) rfl (Nat.le_of_ble_eq_true rfl) (Nat.le_of_ble_eq_true rfl) ?_
  refine g_ld (v := rf _) rfl (is_R _) ?_
  refine g_getI (kz := 19) oC13 rfl (Nat.le_of_ble_eq_true rfl) rfl fun i47 => ?_
  replace h := h i47
  refine g_const (v := cI (702)) rfl ?_
  refine g_mul ?_
  refine g_const (v := cI (702)) rfl ?_
  obtain ⟨q48, q49, q50, q51, q52, h⟩ := h
  refine g_copyL aC16093 aC16093 q48 q49 q50 q51 q52 (Nat.le_of_ble_eq_true rfl) (fun _ => nfL aC16093) ?_
  replace h := h _ rfl
  refine g_ld (v := rf _) rfl (is_R _) ?_
  refine g_getF (v := 16094) oC13 (hC13_15) rfl (Nat.le_of_ble_eq_true rfl) (Nat.le_of_ble_eq_true rfl) ?_
  refine g_ld (v := cI _) rfl (is_I _) ?_
  refine g_const (v := cI (702)) rfl ?_
  refine g_mul ?_
  refine g_ld (v := rf _) rfl (is_R _) ?_
  refine g_getF (v := 16094) oC13 (hC13_15) rfl (Nat.le_of_ble_eq_true rfl) (Nat.le_of_ble_eq_true rfl) ?_
  unfold vX13_copyBuild_188
  refine g_ld (v := rf _) rfl (is_R _) ?_
  refine g_getI (kz := 19) oC13 rfl (Nat.le_of_ble_eq_true rfl) rfl fun i54 => ?_
  replace h := h i54
  refine g_const (v := cI (702)) rfl ?_
  refine g_mul ?_
  refine g_const (v := cI (702)) rfl ?_
  obtain ⟨q55, q56, q57, q58, q59, h⟩ := h
  refine g_copyI aC16094 aC16094 q55 q56 q57 q58 q59 (Nat.le_of_ble_eq_true rfl) (fun _ => nfI aC16094) ?_
  replace h := h _ rfl
  refine g_ld (v := rf _) rfl (is_R _) ?_
  refine g_ld (v := cI _) rfl (is_I _) ?_
  refine g_const (v := cI (12)) rfl ?_
  refine g_mul ?_
  refine g_ld (v := rf _) rfl (is_R _) ?_
  refine g_getI (kz := 19) oC13 rfl (Nat.le_of_ble_eq_true rfl) rfl fun i61 => ?_
  replace h := h i61
  refine g_const (v := cI (12)) rfl ?_
  refine g_mul ?_
  obtain ⟨q62, h⟩ := h
  obtain ⟨q63, h⟩ := h
  refine g_callV (As := [_, _]) (ci := 13) oC13 (fun _ => rfl) ?_
  refine g_go0 (Nat.le_of_ble_eq_true rfl) (Tn_w (TX13_copyClasses q62 q63 h) fun _ G64 ⟨e, h⟩ => ⟨e, ?_⟩)
  refine g_ld (v := rf _) rfl (is_R _) ?_
  refine g_ld (v := cI _) rfl (is_I _) ?_
  refine g_const (v := cI (12)) rfl ?_
  refine g_mul ?_
  refine g_const (v := cI (34)) rfl ?_
  refine g_mul ?_
  refine g_ld (v := rf _) rfl (is_R _) ?_
  refine g_getI (kz := 19) oC13 rfl (Nat.le_of_ble_eq_true rfl) rfl fun i66 => ?_
  replace h := h i66
  refine g_const (v := cI (12)) rfl ?_
  unfold vX13_copyBuild_231
  refine g_mul ?_
  refine g_const (v := cI (34)) rfl ?_
  refine g_mul ?_
  obtain ⟨q67, h⟩ := h
  obtain ⟨q68, h⟩ := h
  refine g_callV (As := [_, _]) (ci := 13) oC13 (fun _ => rfl) ?_
  refine g_go0 (Nat.le_of_ble_eq_true rfl) (Tn_w (TX13_copyMembers q67 q68 h) fun _ G69 ⟨e, h⟩ => ⟨e, ?_⟩)
  refine g_ld (v := rf _) rfl (is_R _) ?_
  refine g_ld (v := cI _) rfl (is_I _) ?_
  refine g_const (v := cI (1700)) rfl ?_
  refine g_mul ?_
  refine g_ld (v := rf _) rfl (is_R _) ?_
  refine g_getI (kz := 19) oC13 rfl (Nat.le_of_ble_eq_true rfl) rfl fun i71 => ?_
  replace h := h i71
  refine g_const (v := cI (1700)) rfl ?_
  refine g_mul ?_
  obtain ⟨q72, h⟩ := h
  obtain ⟨q73, h⟩ := h
  refine g_callV (As := [_, _]) (ci := 13) oC13 (fun _ => rfl) ?_
  refine g_go0 (Nat.le_of_ble_eq_true rfl) (Tn_w (TX13_copyNodes q72 q73 h) fun _ G74 ⟨e, h⟩ => ⟨e, ?_⟩)
  refine g_ld (v := rf _) rfl (is_R _) ?_
  refine g_getF (v := 16097) oC13 (hC13_23) rfl (Nat.le_of_ble_eq_true rfl) (Nat.le_of_ble_eq_true rfl) ?_
  refine g_ld (v := rf _) rfl (is_R _) ?_
  refine g_getI (kz := 19) oC13 rfl (Nat.le_of_ble_eq_true rfl) rfl fun i76 => ?_
  replace h := h i76
  refine g_ld (v := rf _) rfl (is_R _) ?_
  refine g_getF (v := 16097) oC13 (hC13_23) rfl (Nat.le_of_ble_eq_true rfl) (Nat.le_of_ble_eq_true rfl) ?_
  refine g_ld (v := cI _) rfl (is_I _) ?_
  obtain ⟨q77, q78, h⟩ := h
  refine g_aldI aC16097 q77 q78 rfl fun i79 => ?_
  replace h := h i79
  obtain ⟨q80, q81, h⟩ := h
  refine g_astI aC16097 q80 q81 i79 (nfI aC16097) ?_
  replace h := h _ rfl
  refine g_ld (v := rf _) rfl (is_R _) ?_
  refine g_getF (v := 16143) oC13 (hC13_69) rfl (Nat.le_of_ble_eq_true rfl) (Nat.le_of_ble_eq_true rfl) ?_
  unfold vX13_copyBuild_274
  refine g_ld (v := rf _) rfl (is_R _) ?_
  refine g_getI (kz := 19) oC13 rfl (Nat.le_of_ble_eq_true rfl) rfl fun i83 => ?_
  replace h := h i83
  refine g_ld (v := rf _) rfl (is_R _) ?_
  refine g_getF (v := 16143) oC13 (hC13_69) rfl (Nat.le_of_ble_eq_true rfl) (Nat.le_of_ble_eq_true rfl) ?_
  refine g_ld (v := cI _) rfl (is_I _) ?_
  obtain ⟨q84, q85, h⟩ := h
  refine g_aldI aC16143 q84 q85 rfl fun i86 => ?_
  replace h := h i86
  obtain ⟨q87, q88, h⟩ := h
  refine g_astI aC16143 q87 q88 i86 (nfI aC16143) ?_
  replace h := h _ rfl
  exact g_ret0 ⟨rfl, h⟩
abbrev PX13_copyBuild (a1 : Int) (a2 : Int) (G : gS) (Q : Int → gS → Prop) : Prop := PX13_copyBuild_0 a1 a2 G Q
theorem TX13_copyBuild {a1 : Int} {a2 : Int} {G : gS} {Q : Int → gS → Prop} (ha1 : inI a1) (ha2 : inI a2) (h : PX13_copyBuild a1 a2 G Q) : Tn W0 FX13_copyBuild [rf (16081), cI (a1), cI (a2)] G (fun r G => r = 7 ∧ Q 0 G) := by
  unfold FX13_copyBuild
  refine g_ent (lv' := [rf (16081), cI (a1), cI (a2)]) (flR (flI (flI fl0))) (Nat.le_of_ble_eq_true rfl) rfl ?_
  exact TX13_copyBuild_0 ha1 ha2 h
end DE

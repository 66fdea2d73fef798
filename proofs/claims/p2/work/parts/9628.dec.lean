section DE
def PX13_makersAndBridges_223 (J : Nat → List Int → gS → (Int → gS → Prop) → Prop) (l1 : Int) (G : gS) (Q : Int → gS → Prop) : Prop :=
  Q 0 G
set_option maxRecDepth 20000 in
theorem TX13_makersAndBridges_223 {j : Nat → rx_K} {J : Nat → List Int → gS → (Int → gS → Prop) → Prop} {l1 : Int} {l2 : Nat} {l3 : Nat} {l4 : Nat} {G : gS} {Q : Int → gS → Prop} (hl1 : inI l1) (hl2 : l2 % 8 ≠ 1) (hl3 : l3 % 8 ≠ 1) (hl4 : l4 % 8 ≠ 1) (hj0 : ∀ (l1 : Int) (l2 : Nat) (l3 : Nat) (l4 : Nat) (G : gS), (inI l1) → (l2 % 8 ≠ 1) → (l3 % 8 ≠ 1) → (l4 % 8 ≠ 1) → J 0 [l1] G Q → Tg W0 (j 0) [rf (16081), cI (l1), l2, l3, l4] [] G (fun r G => r = 7 ∧ Q 0 G)) (hj1 : ∀ (l1 : Int) (l2 : Int) (l3 : Int) (l4 : Int) (G : gS), (inI l1) → (inI l2) → (inI l3) → (inI l4) → J 1 [l1, l2, l3, l4] G Q → Tg W0 (j 1) [rf (16081), cI (l1), cI (l2), cI (l3), cI (l4)] [] G (fun r G => r = 7 ∧ Q 0 G)) (hj2 : ∀ (l1 : Int) (l2 : Nat) (l3 : Nat) (l4 : Nat) (G : gS), (inI l1) → (l2 % 8 ≠ 1) → (l3 % 8 ≠ 1) → (l4 % 8 ≠ 1) → J 2 [l1] G Q → Tg W0 (j 2) [rf (16081), cI (l1), l2, l3, l4] [] G (fun r G => r = 7 ∧ Q 0 G)) (h : PX13_makersAndBridges_223 J l1 G Q) : Tg W0 (vX13_makersAndBridges_223 j) [rf (16081), cI (l1), l2, l3, l4] [] G (fun r G => r = 7 ∧ Q 0 G) := by
  unfold PX13_makersAndBridges_223 at h
  unfold vX13_makersAndBridges_223
  exact g_ret0 ⟨rfl, h⟩
def PX13_makersAndBridges_184 (J : Nat → List Int → gS → (Int → gS → Prop) → Prop) (l1 : Int) (G : gS) (Q : Int → gS → Prop) : Prop :=
  (inI (G 16081 19) → ((0 : Int) ≤ G 16081 19 ∧ ((G 16081 19 : Int) < 18 ∧ (inI (G 16097 (G 16081 19)) → ((l1 < G 16097 (G 16081 19) → (inI (G 16081 20) → ((G 16081 20 = 0 → (inI (G 16081 19) → (inI (((G 16081 19) * 12) + l1) ∧ PX13_bridges (((G 16081 19) * 12) + l1) G (fun _ G46 => (inI (l1 + 1) ∧ J 2 [l1 + 1] G46 Q))))) ∧ (¬ (G 16081 20 = 0) → PX13_makersAndBridges_223 J l1 G Q)))) ∧ (¬ (l1 < G 16097 (G 16081 19)) → PX13_makersAndBridges_223 J l1 G Q))))))
set_option maxRecDepth 20000 in
theorem TX13_makersAndBridges_184 {j : Nat → rx_K} {J : Nat → List Int → gS → (Int → gS → Prop) → Prop} {l1 : Int} {l2 : Nat} {l3 : Nat} {l4 : Nat} {G : gS} {Q : Int → gS → Prop} (hl1 : inI l1) (hl2 : l2 % 8 ≠ 1) (hl3 : l3 % 8 ≠ 1) (hl4 : l4 % 8 ≠ 1) (hj0 : ∀ (l1 : Int) (l2 : Nat) (l3 : Nat) (l4 : Nat) (G : gS), (inI l1) → (l2 % 8 ≠ 1) → (l3 % 8 ≠ 1) → (l4 % 8 ≠ 1) → J 0 [l1] G Q → Tg W0 (j 0) [rf (16081), cI (l1), l2, l3, l4] [] G (fun r G => r = 7 ∧ Q 0 G)) (hj1 : ∀ (l1 : Int) (l2 : Int) (l3 : Int) (l4 : Int) (G : gS), (inI l1) → (inI l2) → (inI l3) → (inI l4) → J 1 [l1, l2, l3, l4] G Q → Tg W0 (j 1) [rf (16081), cI (l1), cI (l2), cI (l3), cI (l4)] [] G (fun r G => r = 7 ∧ Q 0 G)) (hj2 : ∀ (l1 : Int) (l2 : Nat) (l3 : Nat) (l4 : Nat) (G : gS), (inI l1) → (l2 % 8 ≠ 1) → (l3 % 8 ≠ 1) → (l4 % 8 ≠ 1) → J 2 [l1] G Q → Tg W0 (j 2) [rf (16081), cI (l1), l2, l3, l4] [] G (fun r G => r = 7 ∧ Q 0 G)) (h : PX13_makersAndBridges_184 J l1 G Q) : Tg W0 (vX13_makersAndBridges_184 j) [rf (16081), cI (l1), l2, l3, l4] [] G (fun r G => r = 7 ∧ Q 0 G) := by
  unfold PX13_makersAndBridges_184 at h
  unfold vX13_makersAndBridges_184
  refine g_ld (v := cI _) rfl (is_I _) ?_
  refine g_ld (v := rf _) rfl (is_R _) ?_
  refine g_getF (v := 16097) oC13 (hC13_23) rfl (Nat.le_of_ble_eq_true rfl) (Nat.le_of_ble_eq_true rfl) ?_
  refine g_ld (v := rf _) rfl (is_R _) ?_
  refine g_getI (kz := 19) oC13 rfl (Nat.le_of_ble_eq_true rfl) rfl fun i37 => ?_
  replace h := h i37
  obtain ⟨q38, q39, h⟩ := h
  refine g_aldI aC16097 q38 q39 rfl fun i40 => ?_
  replace h := h i40
  refine g_lt2 hl1 i40 (fun b41 => ?_) (fun b41 => ?_)
  · replace h := h.1 b41
    unfold vX13_makersAndBridges_197
    refine g_ld (v := rf _) rfl (is_R _) ?_
    refine g_getI (kz := 20) oC13 rfl (Nat.le_of_ble_eq_true rfl) rfl fun i42 => ?_
    replace h := h i42
    refine g_eq1 i42 (fun b43 => ?_) (fun b43 => ?_)
    · replace h := h.1 b43
      unfold vX13_makersAndBridges_204
      refine g_ld (v := rf _) rfl (is_R _) ?_
      refine g_ld (v := rf _) rfl (is_R _) ?_
      refine g_getI (kz := 19) oC13 rfl (Nat.le_of_ble_eq_true rfl) rfl fun i44 => ?_
      replace h := h i44
      refine g_const (v := cI (12)) rfl ?_
      refine g_mul ?_
      refine g_ld (v := cI _) rfl (is_I _) ?_
      refine g_add ?_
      obtain ⟨q45, h⟩ := h
      refine g_callV (As := [_]) (ci := 13) oC13 (fun _ => rfl) ?_
      refine g_go0 (Nat.le_of_ble_eq_true rfl) (Tn_w (TX13_bridges q45 h) fun _ G46 ⟨e, h⟩ => ⟨e, ?_⟩)
      refine g_inc (lv' := [_, _, _, _, _]) rfl (Nat.le_of_ble_eq_true rfl) (Or.inr (n1_R _)) rfl ?_
      obtain ⟨q48, h⟩ := h
      exact hj2 _ _ _ _ _ q48 hl2 hl3 hl4 h
    · replace h := h.2 b43
      exact TX13_makersAndBridges_223 hl1 hl2 hl3 hl4 hj0 hj1 hj2 h
  · replace h := h.2 b41
    exact TX13_makersAndBridges_223 hl1 hl2 hl3 hl4 hj0 hj1 hj2 h
def PX13_makersAndBridges_176 (J : Nat → List Int → gS → (Int → gS → Prop) → Prop) (l1 : Int) (l2 : Int) (l3 : Int) (l4 : Int) (G : gS) (Q : Int → gS → Prop) : Prop :=
  (inI (l1 + 1) ∧ J 0 [l1 + 1] G Q)
set_option maxRecDepth 20000 in
theorem TX13_makersAndBridges_176 {j : Nat → rx_K} {J : Nat → List Int → gS → (Int → gS → Prop) → Prop} {l1 : Int} {l2 : Int} {l3 : Int} {l4 : Int} {G : gS} {Q : Int → gS → Prop} (hl1 : inI l1) (hl2 : inI l2) (hl3 : inI l3) (hl4 : inI l4) (hj0 : ∀ (l1 : Int) (l2 : Nat) (l3 : Nat) (l4 : Nat) (G : gS), (inI l1) → (l2 % 8 ≠ 1) → (l3 % 8 ≠ 1) → (l4 % 8 ≠ 1) → J 0 [l1] G Q → Tg W0 (j 0) [rf (16081), cI (l1), l2, l3, l4] [] G (fun r G => r = 7 ∧ Q 0 G)) (hj1 : ∀ (l1 : Int) (l2 : Int) (l3 : Int) (l4 : Int) (G : gS), (inI l1) → (inI l2) → (inI l3) → (inI l4) → J 1 [l1, l2, l3, l4] G Q → Tg W0 (j 1) [rf (16081), cI (l1), cI (l2), cI (l3), cI (l4)] [] G (fun r G => r = 7 ∧ Q 0 G)) (hj2 : ∀ (l1 : Int) (l2 : Nat) (l3 : Nat) (l4 : Nat) (G : gS), (inI l1) → (l2 % 8 ≠ 1) → (l3 % 8 ≠ 1) → (l4 % 8 ≠ 1) → J 2 [l1] G Q → Tg W0 (j 2) [rf (16081), cI (l1), l2, l3, l4] [] G (fun r G => r = 7 ∧ Q 0 G)) (h : PX13_makersAndBridges_176 J l1 l2 l3 l4 G Q) : Tg W0 (vX13_makersAndBridges_176 j) [rf (16081), cI (l1), cI (l2), cI (l3), cI (l4)] [] G (fun r G => r = 7 ∧ Q 0 G) := by
  unfold PX13_makersAndBridges_176 at h
  unfold vX13_makersAndBridges_176
  refine g_inc (lv' := [_, _, _, _, _]) rfl (Nat.le_of_ble_eq_true rfl) (Or.inr (n1_R _)) rfl ?_
  obtain ⟨q74, h⟩ := h
  exact hj0 _ _ _ _ _ q74 (n1_I _) (n1_I _) (n1_I _) h
def PX13_makersAndBridges_136 (J : Nat → List Int → gS → (Int → gS → Prop) → Prop) (l1 : Int) (l2 : Int) (l3 : Int) (l4 : Int) (s0 : Int) (s1 : Int) (s2 : Int) (G : gS) (Q : Int → gS → Prop) : Prop :=
  (∃ n50, isA W0 0 n50 (s0) ∧ ((0 : Int) ≤ s1 ∧ ((s1 : Int) < n50 ∧ (∀ G54 : gS, G54 = uG G s0 s1 (s2) → ((0 : Int) ≤ l4 ∧ ((l4 : Int) < 7344 ∧ (∀ G57 : gS, G57 = uG G54 16121 l4 (0) → ((0 : Int) ≤ l4 ∧ ((l4 : Int) < 7344 ∧ (∀ G60 : gS, G60 = uG G57 16124 l4 (1) → ((0 : Int) ≤ l2 ∧ ((l2 : Int) < 216 ∧ (inI (G60 16099 l2) → ((0 : Int) ≤ l4 ∧ ((l4 : Int) < 7344 ∧ (∀ G66 : gS, G66 = uG G60 16126 l4 (G60 16099 l2) → ((0 : Int) ≤ l2 ∧ ((l2 : Int) < 216 ∧ (inI (G66 16115 l2) → ((0 : Int) ≤ l2 ∧ ((l2 : Int) < 216 ∧ (inI ((G66 16115 l2) + 1) ∧ (∀ G73 : gS, G73 = uG G66 16115 l2 ((G66 16115 l2) + 1) → PX13_makersAndBridges_176 J l1 l2 l3 l4 G73 Q)))))))))))))))))))))))
set_option maxRecDepth 20000 in
theorem TX13_makersAndBridges_136 {j : Nat → rx_K} {J : Nat → List Int → gS → (Int → gS → Prop) → Prop} {l1 : Int} {l2 : Int} {l3 : Int} {l4 : Int} {s0 : Int} {s1 : Int} {s2 : Int} {G : gS} {Q : Int → gS → Prop} (hl1 : inI l1) (hl2 : inI l2) (hl3 : inI l3) (hl4 : inI l4) (hs1 : inI s1) (hs2 : inI s2) (hj0 : ∀ (l1 : Int) (l2 : Nat) (l3 : Nat) (l4 : Nat) (G : gS), (inI l1) → (l2 % 8 ≠ 1) → (l3 % 8 ≠ 1) → (l4 % 8 ≠ 1) → J 0 [l1] G Q → Tg W0 (j 0) [rf (16081), cI (l1), l2, l3, l4] [] G (fun r G => r = 7 ∧ Q 0 G)) (hj1 : ∀ (l1 : Int) (l2 : Int) (l3 : Int) (l4 : Int) (G : gS), (inI l1) → (inI l2) → (inI l3) → (inI l4) → J 1 [l1, l2, l3, l4] G Q → Tg W0 (j 1) [rf (16081), cI (l1), cI (l2), cI (l3), cI (l4)] [] G (fun r G => r = 7 ∧ Q 0 G)) (hj2 : ∀ (l1 : Int) (l2 : Nat) (l3 : Nat) (l4 : Nat) (G : gS), (inI l1) → (l2 % 8 ≠ 1) → (l3 % 8 ≠ 1) → (l4 % 8 ≠ 1) → J 2 [l1] G Q → Tg W0 (j 2) [rf (16081), cI (l1), l2, l3, l4] [] G (fun r G => r = 7 ∧ Q 0 G)) (h : PX13_makersAndBridges_136 J l1 l2 l3 l4 s0 s1 s2 G Q) : Tg W0 (vX13_makersAndBridges_136 j) [rf (16081), cI (l1), cI (l2), cI (l3), cI (l4)] [cI (s2), cI (s1), rf (s0)] G (fun r G => r = 7 ∧ Q 0 G) := by
  unfold PX13_makersAndBridges_136 at h
  unfold vX13_makersAndBridges_136
  obtain ⟨n50, q51, h⟩ := h
  obtain ⟨q52, q53, h⟩ := h
  refine g_astI q51 q52 q53 hs2 (nfI q51) ?_
  replace h := h _ rfl
  refine g_ld (v := rf _) rfl (is_R _) ?_
  refine g_getF (v := 16121) oC13 (hC13_47) rfl (Nat.le_of_ble_eq_true rfl) (Nat.le_of_ble_eq_true rfl) ?_
  refine g_ld (v := cI _) rfl (is_I _) ?_
  refine g_const (v := cI (0)) rfl ?_
  obtain ⟨q55, q56, h⟩ := h
  refine g_astZ aC16121 q55 q56 (by omega) (nfZ aC16121) ?_
  replace h := h _ rfl
  refine g_ld (v := rf _) rfl (is_R _) ?_
  refine g_getF (v := 16124) oC13 (hC13_50) rfl (Nat.le_of_ble_eq_true rfl) (Nat.le_of_ble_eq_true rfl) ?_
  refine g_ld (v := cI _) rfl (is_I _) ?_
  refine g_const (v := cI (1)) rfl ?_
  obtain ⟨q58, q59, h⟩ := h
  refine g_astZ aC16124 q58 q59 (by omega) (nfZ aC16124) ?_
  replace h := h _ rfl
  refine g_ld (v := rf _) rfl (is_R _) ?_
  refine g_getF (v := 16126) oC13 (hC13_52) rfl (Nat.le_of_ble_eq_true rfl) (Nat.le_of_ble_eq_true rfl) ?_
  refine g_ld (v := cI _) rfl (is_I _) ?_
  refine g_ld (v := rf _) rfl (is_R _) ?_
  refine g_getF (v := 16099) oC13 (hC13_25) rfl (Nat.le_of_ble_eq_true rfl) (Nat.le_of_ble_eq_true rfl) ?_
  refine g_ld (v := cI _) rfl (is_I _) ?_
  obtain ⟨q61, q62, h⟩ := h
  refine g_aldI aC16099 q61 q62 rfl fun i63 => ?_
  replace h := h i63
  obtain ⟨q64, q65, h⟩ := h
  refine g_astI aC16126 q64 q65 i63 (nfI aC16126) ?_
  replace h := h _ rfl
  refine g_ld (v := rf _) rfl (is_R _) ?_
  refine g_getF (v := 16115) oC13 (hC13_41) rfl (Nat.le_of_ble_eq_true rfl) (Nat.le_of_ble_eq_true rfl) ?_
  refine g_ld (v := cI _) rfl (is_I _) ?_
  refine g_dup2 (ct_I _) (ct_R _) ?_
  obtain ⟨q67, q68, h⟩ := h
  refine g_aldI aC16115 q67 q68 rfl fun i69 => ?_
  replace h := h i69
  unfold vX13_makersAndBridges_173
  refine g_const (v := cI (1)) rfl ?_
  refine g_add ?_
  obtain ⟨q70, q71, h⟩ := h
  obtain ⟨q72, h⟩ := h
  refine g_astI aC16115 q70 q71 q72 (nfI aC16115) ?_
  replace h := h _ rfl
  exact TX13_makersAndBridges_176 hl1 hl2 hl3 hl4 hj0 hj1 hj2 h
def PX13_makersAndBridges_70 (J : Nat → List Int → gS → (Int → gS → Prop) → Prop) (l1 : Int) (l2 : Int) (l3 : Int) (l4 : Int) (s0 : Int) (G : gS) (Q : Int → gS → Prop) : Prop :=
  (inI (l4 + 1) ∧ J 1 [l1, l2, s0, l4 + 1] G Q)
set_option maxRecDepth 20000 in
theorem TX13_makersAndBridges_70 {j : Nat → rx_K} {J : Nat → List Int → gS → (Int → gS → Prop) → Prop} {l1 : Int} {l2 : Int} {l3 : Int} {l4 : Int} {s0 : Int} {G : gS} {Q : Int → gS → Prop} (hl1 : inI l1) (hl2 : inI l2) (hl3 : inI l3) (hl4 : inI l4) (hs0 : inI s0) (hj0 : ∀ (l1 : Int) (l2 : Nat) (l3 : Nat) (l4 : Nat) (G : gS), (inI l1) → (l2 % 8 ≠ 1) → (l3 % 8 ≠ 1) → (l4 % 8 ≠ 1) → J 0 [l1] G Q → Tg W0 (j 0) [rf (16081), cI (l1), l2, l3, l4] [] G (fun r G => r = 7 ∧ Q 0 G)) (hj1 : ∀ (l1 : Int) (l2 : Int) (l3 : Int) (l4 : Int) (G : gS), (inI l1) → (inI l2) → (inI l3) → (inI l4) → J 1 [l1, l2, l3, l4] G Q → Tg W0 (j 1) [rf (16081), cI (l1), cI (l2), cI (l3), cI (l4)] [] G (fun r G => r = 7 ∧ Q 0 G)) (hj2 : ∀ (l1 : Int) (l2 : Nat) (l3 : Nat) (l4 : Nat) (G : gS), (inI l1) → (l2 % 8 ≠ 1) → (l3 % 8 ≠ 1) → (l4 % 8 ≠ 1) → J 2 [l1] G Q → Tg W0 (j 2) [rf (16081), cI (l1), l2, l3, l4] [] G (fun r G => r = 7 ∧ Q 0 G)) (h : PX13_makersAndBridges_70 J l1 l2 l3 l4 s0 G Q) : Tg W0 (vX13_makersAndBridges_70 j) [rf (16081), cI (l1), cI (l2), cI (l3), cI (l4)] [cI (s0)] G (fun r G => r = 7 ∧ Q 0 G) := by
  unfold PX13_makersAndBridges_70 at h
  unfold vX13_makersAndBridges_70
  refine g_st (lv' := [_, _, _, _, _]) (is_I _) (Nat.le_of_ble_eq_true rfl) (Or.inr (n1_I _)) rfl ?_
  refine g_inc (lv' := [_, _, _, _, _]) rfl (Nat.le_of_ble_eq_true rfl) (Or.inr (n1_I _)) rfl ?_
  obtain ⟨q49, h⟩ := h
  exact hj1 _ _ _ _ _ hl1 hl2 hs0 q49 h
def PX13_makersAndBridges_65 (J : Nat → List Int → gS → (Int → gS → Prop) → Prop) (l1 : Int) (l2 : Int) (l3 : Int) (l4 : Int) (G : gS) (Q : Int → gS → Prop) : Prop :=
  PX13_makersAndBridges_70 J l1 l2 l3 l4 1 G Q
set_option maxRecDepth 20000 in
theorem TX13_makersAndBridges_65 {j : Nat → rx_K} {J : Nat → List Int → gS → (Int → gS → Prop) → Prop} {l1 : Int} {l2 : Int} {l3 : Int} {l4 : Int} {G : gS} {Q : Int → gS → Prop} (hl1 : inI l1) (hl2 : inI l2) (hl3 : inI l3) (hl4 : inI l4) (hj0 : ∀ (l1 : Int) (l2 : Nat) (l3 : Nat) (l4 : Nat) (G : gS), (inI l1) → (l2 % 8 ≠ 1) → (l3 % 8 ≠ 1) → (l4 % 8 ≠ 1) → J 0 [l1] G Q → Tg W0 (j 0) [rf (16081), cI (l1), l2, l3, l4] [] G (fun r G => r = 7 ∧ Q 0 G)) (hj1 : ∀ (l1 : Int) (l2 : Int) (l3 : Int) (l4 : Int) (G : gS), (inI l1) → (inI l2) → (inI l3) → (inI l4) → J 1 [l1, l2, l3, l4] G Q → Tg W0 (j 1) [rf (16081), cI (l1), cI (l2), cI (l3), cI (l4)] [] G (fun r G => r = 7 ∧ Q 0 G)) (hj2 : ∀ (l1 : Int) (l2 : Nat) (l3 : Nat) (l4 : Nat) (G : gS), (inI l1) → (l2 % 8 ≠ 1) → (l3 % 8 ≠ 1) → (l4 % 8 ≠ 1) → J 2 [l1] G Q → Tg W0 (j 2) [rf (16081), cI (l1), l2, l3, l4] [] G (fun r G => r = 7 ∧ Q 0 G)) (h : PX13_makersAndBridges_65 J l1 l2 l3 l4 G Q) : Tg W0 (vX13_makersAndBridges_65 j) [rf (16081), cI (l1), cI (l2), cI (l3), cI (l4)] [] G (fun r G => r = 7 ∧ Q 0 G) := by
  unfold PX13_makersAndBridges_65 at h
  unfold vX13_makersAndBridges_65
  refine g_const (v := cI (1)) rfl ?_
  exact TX13_makersAndBridges_70 hl1 hl2 hl3 hl4 ⟨by omega, by omega⟩ hj0 hj1 hj2 h
def PX13_makersAndBridges_34 (J : Nat → List Int → gS → (Int → gS → Prop) → Prop) (l1 : Int) (l2 : Int) (l3 : Int) (l4 : Int) (G : gS) (Q : Int → gS → Prop) : Prop :=
  ((0 : Int) ≤ l2 ∧ ((l2 : Int) < 216 ∧ (inI (G 16115 l2) → ((l4 < G 16115 l2 → ((l3 = 0 → ((0 : Int) ≤ (l2 * 34) + l4 ∧ (((l2 * 34) + l4 : Int) < 7344 ∧ (inI (G 16116 ((l2 * 34) + l4)) → ((G 16116 ((l2 * 34) + l4) = 2 → PX13_makersAndBridges_65 J l1 l2 l3 l4 G Q) ∧ (¬ (G 16116 ((l2 * 34) + l4) = 2) → PX13_makersAndBridges_70 J l1 l2 l3 l4 0 G Q)))))) ∧ (¬ (l3 = 0) → PX13_makersAndBridges_65 J l1 l2 l3 l4 G Q))) ∧ (¬ (l4 < G 16115 l2) → ((l3 = 0 → ((0 : Int) ≤ l2 ∧ ((l2 : Int) < 216 ∧ (inI (G 16115 l2) → (inI ((l2 * 34) + (G 16115 l2)) ∧ PX13_newMember ((l2 * 34) + (G 16115 l2)) G (fun _ G25 => ((0 : Int) ≤ (l2 * 34) + (G 16115 l2) ∧ (((l2 * 34) + (G 16115 l2) : Int) < 7344 ∧ (∀ G29 : gS, G29 = uG G25 16116 ((l2 * 34) + (G 16115 l2)) (2) → ((0 : Int) ≤ (l2 * 34) + (G 16115 l2) ∧ (((l2 * 34) + (G 16115 l2) : Int) < 7344 ∧ (∀ G32 : gS, G32 = uG G29 16117 ((l2 * 34) + (G 16115 l2)) (0) → ((0 : Int) ≤ l2 ∧ ((l2 : Int) < 216 ∧ ((0 ≤ G32 16100 l2 ∧ G32 16100 l2 ≤ 1) → ((G32 16100 l2 = 0 → PX13_makersAndBridges_136 J l1 l2 l3 ((l2 * 34) + (G 16115 l2)) 16118 ((l2 * 34) + (G 16115 l2)) 1 G32 Q) ∧ (¬ (G32 16100 l2 = 0) → PX13_makersAndBridges_136 J l1 l2 l3 ((l2 * 34) + (G 16115 l2)) 16118 ((l2 * 34) + (G 16115 l2)) 3 G32 Q))))))))))))))))) ∧ (¬ (l3 = 0) → PX13_makersAndBridges_176 J l1 l2 l3 l4 G Q)))))))
set_option maxRecDepth 20000 in
theorem TX13_makersAndBridges_34 {j : Nat → rx_K} {J : Nat → List Int → gS → (Int → gS → Prop) → Prop} {l1 : Int} {l2 : Int} {l3 : Int} {l4 : Int} {G : gS} {Q : Int → gS → Prop} (hl1 : inI l1) (hl2 : inI l2) (hl3 : inI l3) (hl4 : inI l4) (hj0 : ∀ (l1 : Int) (l2 : Nat) (l3 : Nat) (l4 : Nat) (G : gS), (inI l1) → (l2 % 8 ≠ 1) → (l3 % 8 ≠ 1) → (l4 % 8 ≠ 1) → J 0 [l1] G Q → Tg W0 (j 0) [rf (16081), cI (l1), l2, l3, l4] [] G (fun r G => r = 7 ∧ Q 0 G)) (hj1 : ∀ (l1 : Int) (l2 : Int) (l3 : Int) (l4 : Int) (G : gS), (inI l1) → (inI l2) → (inI l3) → (inI l4) → J 1 [l1, l2, l3, l4] G Q → Tg W0 (j 1) [rf (16081), cI (l1), cI (l2), cI (l3), cI (l4)] [] G (fun r G => r = 7 ∧ Q 0 G)) (hj2 : ∀ (l1 : Int) (l2 : Nat) (l3 : Nat) (l4 : Nat) (G : gS), (inI l1) → (l2 % 8 ≠ 1) → (l3 % 8 ≠ 1) → (l4 % 8 ≠ 1) → J 2 [l1] G Q → Tg W0 (j 2) [rf (16081), cI (l1), l2, l3, l4] [] G (fun r G => r = 7 ∧ Q 0 G)) (h : PX13_makersAndBridges_34 J l1 l2 l3 l4 G Q) : Tg W0 (vX13_makersAndBridges_34 j) [rf (16081), cI (l1), cI (l2), cI (l3), cI (l4)] [] G (fun r G => r = 7 ∧ Q 0 G) := by
  unfold PX13_makersAndBridges_34 at h
  unfold vX13_makersAndBridges_34
  refine g_ld (v := cI _) rfl (is_I _) ?_
  refine g_ld (v := rf _) rfl (is_R _) ?_
  refine g_getF (v := 16115) oC13 (hC13_41) rfl (Nat.le_of_ble_eq_true rfl) (Nat.le_of_ble_eq_true rfl) ?_
  refine g_ld (v := cI _) rfl (is_I _) ?_
  obtain ⟨q11, q12, h⟩ := h
  refine g_aldI aC16115 q11 q12 rfl fun i13 => ?_
  replace h := h i13
  refine g_lt2 hl4 i13 (fun b14 => ?_) (fun b14 => ?_)
  · replace h := h.1 b14
    unfold vX13_makersAndBridges_45
    refine g_ld (v := cI _) rfl (is_I _) ?_
    refine g_eq1 hl3 (fun b15 => ?_) (fun b15 => ?_)
    · replace h := h.1 b15
      unfold vX13_makersAndBridges_49
      refine g_ld (v := rf _) rfl (is_R _) ?_
      refine g_getF (v := 16116) oC13 (hC13_42) rfl (Nat.le_of_ble_eq_true rfl) (Nat.le_of_ble_eq_true rfl) ?_
      refine g_ld (v := cI _) rfl (is_I _) ?_
      refine g_const (v := cI (34)) rfl ?_
      refine g_mul ?_
      refine g_ld (v := cI _) rfl (is_I _) ?_
      refine g_add ?_
      obtain ⟨q16, q17, h⟩ := h
      refine g_aldI aC16116 q16 q17 rfl fun i18 => ?_
      replace h := h i18
      refine g_const (v := cI (2)) rfl ?_
      refine g_eq2 i18 ⟨by omega, by omega⟩ (fun b19 => ?_) (fun b19 => ?_)
      · replace h := h.1 b19
        exact TX13_makersAndBridges_65 hl1 hl2 hl3 hl4 hj0 hj1 hj2 h
      · replace h := h.2 b19
        unfold vX13_makersAndBridges_69
        refine g_const (v := cI (0)) rfl ?_
        exact TX13_makersAndBridges_70 hl1 hl2 hl3 hl4 ⟨by omega, by omega⟩ hj0 hj1 hj2 h
    · replace h := h.2 b15
      exact TX13_makersAndBridges_65 hl1 hl2 hl3 hl4 hj0 hj1 hj2 h
  · replace h := h.2 b14
    unfold vX13_makersAndBridges_77
    refine g_ld (v := cI _) rfl (is_I _) ?_
    refine g_eq1 hl3 (fun b20 => ?_) (fun b20 => ?_)
    · replace h := h.1 b20
      unfold vX13_makersAndBridges_81
      refine g_ld (v := cI _) rfl (is_I _) ?_
      refine g_const (v := cI (34)) rfl ?_
      refine g_mul ?_
      refine g_ld (v := rf _) rfl (is_R _) ?_
      refine g_getF (v := 16115) oC13 (hC13_41) rfl (Nat.le_of_ble_eq_true rfl) (Nat.le_of_ble_eq_true rfl) ?_
      refine g_ld (v := cI _) rfl (is_I _) ?_
      obtain ⟨q21, q22, h⟩ := h
      refine g_aldI aC16115 q21 q22 rfl fun i23 => ?_
      replace h := h i23
      refine g_add ?_
      refine g_st (lv' := [_, _, _, _, _]) (is_I _) (Nat.le_of_ble_eq_true rfl) (Or.inr (n1_I _)) rfl ?_
      obtain ⟨q24, h⟩ := h
      refine g_ld (v := rf _) rfl (is_R _) ?_
      refine g_ld (v := cI _) rfl (is_I _) ?_
      refine g_callV (As := [_]) (ci := 13) oC13 (fun _ => rfl) ?_
      refine g_go0 (Nat.le_of_ble_eq_true rfl) (Tn_w (TX13_newMember q24 h) fun _ G25 ⟨e, h⟩ => ⟨e, ?_⟩)
      refine g_ld (v := rf _) rfl (is_R _) ?_
      refine g_getF (v := 16116) oC13 (hC13_42) rfl (Nat.le_of_ble_eq_true rfl) (Nat.le_of_ble_eq_true rfl) ?_
      refine g_ld (v := cI _) rfl (is_I _) ?_
      refine g_const (v := cI (2)) rfl ?_
      obtain ⟨q27, q28, h⟩ := h
      refine g_astI aC16116 q27 q28 ⟨by omega, by omega⟩ (nfI aC16116) ?_
      replace h := h _ rfl
      refine g_ld (v := rf _) rfl (is_R _) ?_
      refine g_getF (v := 16117) oC13 (hC13_43) rfl (Nat.le_of_ble_eq_true rfl) (Nat.le_of_ble_eq_true rfl) ?_
      refine g_ld (v := cI _) rfl (is_I _) ?_
      refine g_const (v := cI (0)) rfl ?_
      obtain ⟨q30, q31, h⟩ := h
      refine g_astI aC16117 q30 q31 ⟨by omega, by omega⟩ (nfI aC16117) ?_
      replace h := h _ rfl
      refine g_ld (v := rf _) rfl (is_R _) ?_
      refine g_getF (v := 16118) oC13 (hC13_44) rfl (Nat.le_of_ble_eq_true rfl) (Nat.le_of_ble_eq_true rfl) ?_
      unfold vX13_makersAndBridges_120
      refine g_ld (v := cI _) rfl (is_I _) ?_
      refine g_ld (v := rf _) rfl (is_R _) ?_
      refine g_getF (v := 16100) oC13 (hC13_26) rfl (Nat.le_of_ble_eq_true rfl) (Nat.le_of_ble_eq_true rfl) ?_
      refine g_ld (v := cI _) rfl (is_I _) ?_
      obtain ⟨q33, q34, h⟩ := h
      refine g_aldZ aC16100 q33 q34 rfl fun i35 => ?_
      replace h := h i35
      refine g_eq1 ⟨by omega, by omega⟩ (fun b36 => ?_) (fun b36 => ?_)
      · replace h := h.1 b36
        unfold vX13_makersAndBridges_135
        refine g_const (v := cI (1)) rfl ?_
        exact TX13_makersAndBridges_136 hl1 hl2 hl3 q24 q24 ⟨by omega, by omega⟩ hj0 hj1 hj2 h
      · replace h := h.2 b36
        unfold vX13_makersAndBridges_131
        refine g_const (v := cI (3)) rfl ?_
        exact TX13_makersAndBridges_136 hl1 hl2 hl3 q24 q24 ⟨by omega, by omega⟩ hj0 hj1 hj2 h
    · replace h := h.2 b20
      exact TX13_makersAndBridges_176 hl1 hl2 hl3 hl4 hj0 hj1 hj2 h
def PX13_makersAndBridges_2 (J : Nat → List Int → gS → (Int → gS → Prop) → Prop) (l1 : Int) (G : gS) (Q : Int → gS → Prop) : Prop :=
  (inI (G 16081 19) → ((0 : Int) ≤ G 16081 19 ∧ ((G 16081 19 : Int) < 18 ∧ (inI (G 16097 (G 16081 19)) → ((l1 < G 16097 (G 16081 19) → (inI (G 16081 19) → (inI (((G 16081 19) * 12) + l1) ∧ PX13_isFace (((G 16081 19) * 12) + l1) G (fun r9 G8 => (0 ≤ r9 ∧ r9 ≤ 1) → PX13_makersAndBridges_34 J l1 (((G 16081 19) * 12) + l1) r9 0 G8 Q)))) ∧ (¬ (l1 < G 16097 (G 16081 19)) → PX13_makersAndBridges_184 J 0 G Q))))))
set_option maxRecDepth 20000 in
theorem TX13_makersAndBridges_2 {j : Nat → rx_K} {J : Nat → List Int → gS → (Int → gS → Prop) → Prop} {l1 : Int} {l2 : Nat} {l3 : Nat} {l4 : Nat} {G : gS} {Q : Int → gS → Prop} (hl1 : inI l1) (hl2 : l2 % 8 ≠ 1) (hl3 : l3 % 8 ≠ 1) (hl4 : l4 % 8 ≠ 1) (hj0 : ∀ (l1 : Int) (l2 : Nat) (l3 : Nat) (l4 : Nat) (G : gS), (inI l1) → (l2 % 8 ≠ 1) → (l3 % 8 ≠ 1) → (l4 % 8 ≠ 1) → J 0 [l1] G Q → Tg W0 (j 0) [rf (16081), cI (l1), l2, l3, l4] [] G (fun r G => r = 7 ∧ Q 0 G)) (hj1 : ∀ (l1 : Int) (l2 : Int) (l3 : Int) (l4 : Int) (G : gS), (inI l1) → (inI l2) → (inI l3) → (inI l4) → J 1 [l1, l2, l3, l4] G Q → Tg W0 (j 1) [rf (16081), cI (l1), cI (l2), cI (l3), cI (l4)] [] G (fun r G => r = 7 ∧ Q 0 G)) (hj2 : ∀ (l1 : Int) (l2 : Nat) (l3 : Nat) (l4 : Nat) (G : gS), (inI l1) → (l2 % 8 ≠ 1) → (l3 % 8 ≠ 1) → (l4 % 8 ≠ 1) → J 2 [l1] G Q → Tg W0 (j 2) [rf (16081), cI (l1), l2, l3, l4] [] G (fun r G => r = 7 ∧ Q 0 G)) (h : PX13_makersAndBridges_2 J l1 G Q) : Tg W0 (vX13_makersAndBridges_2 j) [rf (16081), cI (l1), l2, l3, l4] [] G (fun r G => r = 7 ∧ Q 0 G) := by
  unfold PX13_makersAndBridges_2 at h
  unfold vX13_makersAndBridges_2
  refine g_ld (v := cI _) rfl (is_I _) ?_
  refine g_ld (v := rf _) rfl (is_R _) ?_
  refine g_getF (v := 16097) oC13 (hC13_23) rfl (Nat.le_of_ble_eq_true rfl) (Nat.le_of_ble_eq_true rfl) ?_
  refine g_ld (v := rf _) rfl (is_R _) ?_
  refine g_getI (kz := 19) oC13 rfl (Nat.le_of_ble_eq_true rfl) rfl fun i1 => ?_
  replace h := h i1
  obtain ⟨q2, q3, h⟩ := h
  refine g_aldI aC16097 q2 q3 rfl fun i4 => ?_
  replace h := h i4
  refine g_lt2 hl1 i4 (fun b5 => ?_) (fun b5 => ?_)
  · replace h := h.1 b5
    unfold vX13_makersAndBridges_15
    refine g_ld (v := rf _) rfl (is_R _) ?_
    refine g_getI (kz := 19) oC13 rfl (Nat.le_of_ble_eq_true rfl) rfl fun i6 => ?_
    replace h := h i6
    refine g_const (v := cI (12)) rfl ?_
    refine g_mul ?_
    refine g_ld (v := cI _) rfl (is_I _) ?_
    refine g_add ?_
    refine g_st (lv' := [_, _, _, _, _]) (is_I _) (Nat.le_of_ble_eq_true rfl) (Or.inr (n1_I _)) rfl ?_
    obtain ⟨q7, h⟩ := h
    refine g_ld (v := rf _) rfl (is_R _) ?_
    refine g_ld (v := cI _) rfl (is_I _) ?_
    refine g_callV (As := [_]) (ci := 13) oC13 (fun _ => rfl) ?_
    refine g_go1 (Nat.le_of_ble_eq_true rfl) (Tn_w (TX13_isFace q7 h) fun _ G8 ⟨r9, e, i10, h⟩ => ?_)
    subst e
    refine ⟨n7_I _, ?_⟩
    replace h := h i10
    refine g_st (lv' := [_, _, _, _, _]) (is_I _) (Nat.le_of_ble_eq_true rfl) (Or.inr (n1_I _)) rfl ?_
    refine g_const (v := cI (0)) rfl ?_
    refine g_st (lv' := [_, _, _, _, _]) (is_I _) (Nat.le_of_ble_eq_true rfl) (Or.inr (n1_I _)) rfl ?_
    exact TX13_makersAndBridges_34 hl1 q7 ⟨by omega, by omega⟩ ⟨by omega, by omega⟩ hj0 hj1 hj2 h
  · replace h := h.2 b5
    unfold vX13_makersAndBridges_182
    refine g_const (v := cI (0)) rfl ?_
    refine g_st (lv' := [_, _, _, _, _]) (is_I _) (Nat.le_of_ble_eq_true rfl) (Or.inr (n1_R _)) rfl ?_
    exact TX13_makersAndBridges_184 ⟨by omega, by omega⟩ hl2 hl3 hl4 hj0 hj1 hj2 h
def PX13_makersAndBridges_0 (J : Nat → List Int → gS → (Int → gS → Prop) → Prop)  (G : gS) (Q : Int → gS → Prop) : Prop :=
  PX13_makersAndBridges_2 J 0 G Q
set_option maxRecDepth 20000 in
theorem TX13_makersAndBridges_0 {j : Nat → rx_K} {J : Nat → List Int → gS → (Int → gS → Prop) → Prop}  {G : gS} {Q : Int → gS → Prop}  (hj0 : ∀ (l1 : Int) (l2 : Nat) (l3 : Nat) (l4 : Nat) (G : gS), (inI l1) → (l2 % 8 ≠ 1) → (l3 % 8 ≠ 1) → (l4 % 8 ≠ 1) → J 0 [l1] G Q → Tg W0 (j 0) [rf (16081), cI (l1), l2, l3, l4] [] G (fun r G => r = 7 ∧ Q 0 G)) (hj1 : ∀ (l1 : Int) (l2 : Int) (l3 : Int) (l4 : Int) (G : gS), (inI l1) → (inI l2) → (inI l3) → (inI l4) → J 1 [l1, l2, l3, l4] G Q → Tg W0 (j 1) [rf (16081), cI (l1), cI (l2), cI (l3), cI (l4)] [] G (fun r G => r = 7 ∧ Q 0 G)) (hj2 : ∀ (l1 : Int) (l2 : Nat) (l3 : Nat) (l4 : Nat) (G : gS), (inI l1) → (l2 % 8 ≠ 1) → (l3 % 8 ≠ 1) → (l4 % 8 ≠ 1) → J 2 [l1] G Q → Tg W0 (j 2) [rf (16081), cI (l1), l2, l3, l4] [] G (fun r G => r = 7 ∧ Q 0 G)) (h : PX13_makersAndBridges_0 J  G Q) : Tg W0 (vX13_makersAndBridges_0 j) [rf (16081), 7, 7, 7, 7] [] G (fun r G => r = 7 ∧ Q 0 G) := by
  unfold PX13_makersAndBridges_0 at h
  unfold vX13_makersAndBridges_0
  refine g_const (v := cI (0)) rfl ?_
  refine g_st (lv' := [_, _, _, _, _]) (is_I _) (Nat.le_of_ble_eq_true rfl) (Or.inr (n1_R _)) rfl ?_
  exact TX13_makersAndBridges_2 ⟨by omega, by omega⟩ (show 7 % 8 ≠ 1 by decide) (show 7 % 8 ≠ 1 by decide) (show 7 % 8 ≠ 1 by decide) hj0 hj1 hj2 h
def PX13_makersAndBridges_J : Nat → Nat → List Int → gS → (Int → gS → Prop) → Prop
  | 0, _, _, _, _ => False
  | f + 1, h, L, G, Q => match h, L with
    | 0, [l1] => PX13_makersAndBridges_2 (PX13_makersAndBridges_J f) l1 G Q
    | 1, [l1, l2, l3, l4] => PX13_makersAndBridges_34 (PX13_makersAndBridges_J f) l1 l2 l3 l4 G Q
    | 2, [l1] => PX13_makersAndBridges_184 (PX13_makersAndBridges_J f) l1 G Q
    | _, _ => False
theorem TX13_makersAndBridges_J {Q : Int → gS → Prop} : ∀ f N : Nat, f ≤ N → (∀ (l1 : Int) (l2 : Nat) (l3 : Nat) (l4 : Nat) (G : gS), (inI l1) → (l2 % 8 ≠ 1) → (l3 % 8 ≠ 1) → (l4 % 8 ≠ 1) → (PX13_makersAndBridges_J f) 0 [l1] G Q → Tg W0 (rx_J vhX13_makersAndBridges N 0) [rf (16081), cI (l1), l2, l3, l4] [] G (fun r G => r = 7 ∧ Q 0 G)) ∧ (∀ (l1 : Int) (l2 : Int) (l3 : Int) (l4 : Int) (G : gS), (inI l1) → (inI l2) → (inI l3) → (inI l4) → (PX13_makersAndBridges_J f) 1 [l1, l2, l3, l4] G Q → Tg W0 (rx_J vhX13_makersAndBridges N 1) [rf (16081), cI (l1), cI (l2), cI (l3), cI (l4)] [] G (fun r G => r = 7 ∧ Q 0 G)) ∧ (∀ (l1 : Int) (l2 : Nat) (l3 : Nat) (l4 : Nat) (G : gS), (inI l1) → (l2 % 8 ≠ 1) → (l3 % 8 ≠ 1) → (l4 % 8 ≠ 1) → (PX13_makersAndBridges_J f) 2 [l1] G Q → Tg W0 (rx_J vhX13_makersAndBridges N 2) [rf (16081), cI (l1), l2, l3, l4] [] G (fun r G => r = 7 ∧ Q 0 G)) := by
  intro f
  induction f with
  | zero => exact fun N _ => ⟨fun _ _ _ _ _ _ _ _ _ h => h.elim, fun _ _ _ _ _ _ _ _ _ h => h.elim, fun _ _ _ _ _ _ _ _ _ h => h.elim⟩
  | succ f ih =>
    intro N hN
    obtain ⟨M, rfl⟩ : ∃ M, N = M + 1 := ⟨N - 1, by omega⟩
    have ih := ih M (by omega)
    exact ⟨fun _ _ _ _ _ hl1 hl2 hl3 hl4 h => show Tg W0 (vX13_makersAndBridges_2 (rx_J vhX13_makersAndBridges M)) _ _ _ _ from TX13_makersAndBridges_2 hl1 hl2 hl3 hl4 ih.1 ih.2.1 ih.2.2 h, fun _ _ _ _ _ hl1 hl2 hl3 hl4 h => show Tg W0 (vX13_makersAndBridges_34 (rx_J vhX13_makersAndBridges M)) _ _ _ _ from TX13_makersAndBridges_34 hl1 hl2 hl3 hl4 ih.1 ih.2.1 ih.2.2 h, fun _ _ _ _ _ hl1 hl2 hl3 hl4 h => show Tg W0 (vX13_makersAndBridges_184 (rx_J vhX13_makersAndBridges M)) _ _ _ _ from TX13_makersAndBridges_184 hl1 hl2 hl3 hl4 ih.1 ih.2.1 ih.2.2 h⟩
def PX13_makersAndBridges  (G : gS) (Q : Int → gS → Prop) : Prop := ∃ f : Nat, f ≤ 4000000000 ∧ PX13_makersAndBridges_0 (PX13_makersAndBridges_J f)  G Q
theorem TX13_makersAndBridges  {G : gS} {Q : Int → gS → Prop}  (h : PX13_makersAndBridges  G Q) : Tn W0 FX13_makersAndBridges [rf (16081)] G (fun r G => r = 7 ∧ Q 0 G) := by
  obtain ⟨f, hf, h⟩ := h
  have hJ := TX13_makersAndBridges_J (Q := Q) f 4000000000 hf
  unfold FX13_makersAndBridges
  refine g_ent (lv' := [rf (16081), 7, 7, 7, 7]) (flR fl0) (Nat.le_of_ble_eq_true rfl) rfl ?_
  exact TX13_makersAndBridges_0  hJ.1 hJ.2.1 hJ.2.2 h
def PX13_lackingOf_72 (J : Nat → List Int → gS → (Int → gS → Prop) → Prop) (l1 : Int) (l2 : Int) (l3 : Int) (l4 : Int) (G : gS) (Q : Int → gS → Prop) : Prop :=
  (inI (l3 + 1) ∧ J 0 [l1, l2, l3 + 1] G Q)
set_option maxRecDepth 20000 in
theorem TX13_lackingOf_72 {j : Nat → rx_K} {J : Nat → List Int → gS → (Int → gS → Prop) → Prop} {l1 : Int} {l2 : Int} {l3 : Int} {l4 : Int} {G : gS} {Q : Int → gS → Prop} (hl1 : inI l1) (hl2 : inI l2) (hl3 : inI l3) (hl4 : inI l4) (hj0 : ∀ (l1 : Int) (l2 : Int) (l3 : Int) (l4 : Nat) (G : gS), (inI l1) → (inI l2) → (inI l3) → (l4 % 8 ≠ 1) → J 0 [l1, l2, l3] G Q → Tg W0 (j 0) [rf (16081), cI (l1), cI (l2), cI (l3), l4] [] G (fun r G => r = 7 ∧ Q 0 G)) (h : PX13_lackingOf_72 J l1 l2 l3 l4 G Q) : Tg W0 (vX13_lackingOf_72 j) [rf (16081), cI (l1), cI (l2), cI (l3), cI (l4)] [] G (fun r G => r = 7 ∧ Q 0 G) := by
  unfold PX13_lackingOf_72 at h
  unfold vX13_lackingOf_72
  refine g_inc (lv' := [_, _, _, _, _]) rfl (Nat.le_of_ble_eq_true rfl) (Or.inr (n1_I _)) rfl ?_
  obtain ⟨q27, h⟩ := h
  exact hj0 _ _ _ _ _ hl1 hl2 q27 (n1_I _) h
def PX13_lackingOf_2 (J : Nat → List Int → gS → (Int → gS → Prop) → Prop) (l1 : Int) (l2 : Int) (l3 : Int) (G : gS) (Q : Int → gS → Prop) : Prop :=
  ((0 : Int) ≤ l1 ∧ ((l1 : Int) < 216 ∧ (inI (G 16115 l1) → ((l3 < G 16115 l1 → (inI ((l1 * 34) + l3) ∧ ((0 : Int) ≤ (l1 * 34) + l3 ∧ (((l1 * 34) + l3 : Int) < 7344 ∧ (inI (G 16116 ((l1 * 34) + l3)) → ((G 16116 ((l1 * 34) + l3) = 1 → PX13_isFree ((l1 * 34) + l3) G (fun r11 G10 => (0 ≤ r11 ∧ r11 ≤ 1) → ((r11 = 0 → PX13_lackingOf_72 J l1 l2 l3 ((l1 * 34) + l3) G10 Q) ∧ (¬ (r11 = 0) → ((0 : Int) ≤ (l1 * 34) + l3 ∧ (((l1 * 34) + l3 : Int) < 7344 ∧ ((0 ≤ G10 16123 ((l1 * 34) + l3) ∧ G10 16123 ((l1 * 34) + l3) ≤ 1) → ((G10 16123 ((l1 * 34) + l3) = 0 → PX13_selected ((l1 * 34) + l3) l2 G10 (fun r19 G18 => inI r19 → ((r19 < 0 → ((0 : Int) ≤ l2 ∧ ((l2 : Int) < 216 ∧ (inI (G18 16099 l2) → PX13_fault 10 (G18 16099 l2) G18 (fun _ G25 => PX13_lackingOf_72 J l1 l2 l3 ((l1 * 34) + l3) G25 Q))))) ∧ (¬ (r19 < 0) → PX13_lackingOf_72 J l1 l2 l3 ((l1 * 34) + l3) G18 Q)))) ∧ (¬ (G10 16123 ((l1 * 34) + l3) = 0) → PX13_lackingOf_72 J l1 l2 l3 ((l1 * 34) + l3) G10 Q))))))))) ∧ (¬ (G 16116 ((l1 * 34) + l3) = 1) → PX13_lackingOf_72 J l1 l2 l3 ((l1 * 34) + l3) G Q))))))) ∧ (¬ (l3 < G 16115 l1) → Q 0 G)))))
set_option maxRecDepth 20000 in
theorem TX13_lackingOf_2 {j : Nat → rx_K} {J : Nat → List Int → gS → (Int → gS → Prop) → Prop} {l1 : Int} {l2 : Int} {l3 : Int} {l4 : Nat} {G : gS} {Q : Int → gS → Prop} (hl1 : inI l1) (hl2 : inI l2) (hl3 : inI l3) (hl4 : l4 % 8 ≠ 1) (hj0 : ∀ (l1 : Int) (l2 : Int) (l3 : Int) (l4 : Nat) (G : gS), (inI l1) → (inI l2) → (inI l3) → (l4 % 8 ≠ 1) → J 0 [l1, l2, l3] G Q → Tg W0 (j 0) [rf (16081), cI (l1), cI (l2), cI (l3), l4] [] G (fun r G => r = 7 ∧ Q 0 G)) (h : PX13_lackingOf_2 J l1 l2 l3 G Q) : Tg W0 (vX13_lackingOf_2 j) [rf (16081), cI (l1), cI (l2), cI (l3), l4] [] G (fun r G => r = 7 ∧ Q 0 G) := by
  unfold PX13_lackingOf_2 at h
  unfold vX13_lackingOf_2
  refine g_ld (v := cI _) rfl (is_I _) ?_
  refine g_ld (v := rf _) rfl (is_R _) ?_
  refine g_getF (v := 16115) oC13 (hC13_41) rfl (Nat.le_of_ble_eq_true rfl) (Nat.le_of_ble_eq_true rfl) ?_
  refine g_ld (v := cI _) rfl (is_I _) ?_
  obtain ⟨q1, q2, h⟩ := h
  refine g_aldI aC16115 q1 q2 rfl fun i3 => ?_
  replace h := h i3
  refine g_lt2 hl3 i3 (fun b4 => ?_) (fun b4 => ?_)
  · replace h := h.1 b4
    unfold vX13_lackingOf_12
    refine g_ld (v := cI _) rfl (is_I _) ?_
    refine g_const (v := cI (34)) rfl ?_
    refine g_mul ?_
    refine g_ld (v := cI _) rfl (is_I _) ?_
    refine g_add ?_
    refine g_st (lv' := [_, _, _, _, _]) (is_I _) (Nat.le_of_ble_eq_true rfl) (Or.inr (n1_I _)) rfl ?_
    obtain ⟨q5, h⟩ := h
    refine g_ld (v := rf _) rfl (is_R _) ?_
    refine g_getF (v := 16116) oC13 (hC13_42) rfl (Nat.le_of_ble_eq_true rfl) (Nat.le_of_ble_eq_true rfl) ?_
    refine g_ld (v := cI _) rfl (is_I _) ?_
    obtain ⟨q6, q7, h⟩ := h
    refine g_aldI aC16116 q6 q7 rfl fun i8 => ?_
    replace h := h i8
    refine g_const (v := cI (1)) rfl ?_
    refine g_eq2 i8 ⟨by omega, by omega⟩ (fun b9 => ?_) (fun b9 => ?_)
    · replace h := h.1 b9
      unfold vX13_lackingOf_31
      refine g_ld (v := rf _) rfl (is_R _) ?_
      refine g_ld (v := cI _) rfl (is_I _) ?_
      refine g_callV (As := [_]) (ci := 13) oC13 (fun _ => rfl) ?_
      refine g_go1 (Nat.le_of_ble_eq_true rfl) (Tn_w (TX13_isFree q5 h) fun _ G10 ⟨r11, e, i12, h⟩ => ?_)
      subst e
      refine ⟨n7_I _, ?_⟩
      replace h := h i12
      refine g_eq1 ⟨by omega, by omega⟩ (fun b13 => ?_) (fun b13 => ?_)
      · replace h := h.1 b13
        exact TX13_lackingOf_72 hl1 hl2 hl3 q5 hj0 h
      · replace h := h.2 b13
        unfold vX13_lackingOf_40
        refine g_ld (v := rf _) rfl (is_R _) ?_
        refine g_getF (v := 16123) oC13 (hC13_49) rfl (Nat.le_of_ble_eq_true rfl) (Nat.le_of_ble_eq_true rfl) ?_
        refine g_ld (v := cI _) rfl (is_I _) ?_
        obtain ⟨q14, q15, h⟩ := h
        refine g_aldZ aC16123 q14 q15 rfl fun i16 => ?_
        replace h := h i16
        refine g_eq1 ⟨by omega, by omega⟩ (fun b17 => ?_) (fun b17 => ?_)
        · replace h := h.1 b17
          unfold vX13_lackingOf_50
          refine g_ld (v := rf _) rfl (is_R _) ?_
          refine g_ld (v := cI _) rfl (is_I _) ?_
          refine g_ld (v := cI _) rfl (is_I _) ?_
          refine g_callV (As := [_, _]) (ci := 13) oC13 (fun _ => rfl) ?_
          refine g_go1 (Nat.le_of_ble_eq_true rfl) (Tn_w (TX13_selected q5 hl2 h) fun _ G18 ⟨r19, e, i20, h⟩ => ?_)
          subst e
          refine ⟨n7_I _, ?_⟩
          replace h := h i20
          refine g_lt1 i20 (fun b21 => ?_) (fun b21 => ?_)
          · replace h := h.1 b21
            unfold vX13_lackingOf_60
            refine g_ld (v := rf _) rfl (is_R _) ?_
            refine g_const (v := cI (10)) rfl ?_
            refine g_ld (v := rf _) rfl (is_R _) ?_
            refine g_getF (v := 16099) oC13 (hC13_25) rfl (Nat.le_of_ble_eq_true rfl) (Nat.le_of_ble_eq_true rfl) ?_
            refine g_ld (v := cI _) rfl (is_I _) ?_
            obtain ⟨q22, q23, h⟩ := h
            refine g_aldI aC16099 q22 q23 rfl fun i24 => ?_
            replace h := h i24
            refine g_callV (As := [_, _]) (ci := 13) oC13 (fun _ => rfl) ?_
            refine g_go0 (Nat.le_of_ble_eq_true rfl) (Tn_w (TX13_fault ⟨by omega, by omega⟩ i24 h) fun _ G25 ⟨e, h⟩ => ⟨e, ?_⟩)
            exact TX13_lackingOf_72 hl1 hl2 hl3 q5 hj0 h
          · replace h := h.2 b21
            exact TX13_lackingOf_72 hl1 hl2 hl3 q5 hj0 h
        · replace h := h.2 b17
          exact TX13_lackingOf_72 hl1 hl2 hl3 q5 hj0 h
    · replace h := h.2 b9
      exact TX13_lackingOf_72 hl1 hl2 hl3 q5 hj0 h
  · replace h := h.2 b4
    unfold vX13_lackingOf_78
    exact g_ret0 ⟨rfl, h⟩
def PX13_lackingOf_0 (J : Nat → List Int → gS → (Int → gS → Prop) → Prop) (a1 : Int) (a2 : Int) (G : gS) (Q : Int → gS → Prop) : Prop :=
  PX13_lackingOf_2 J a1 a2 0 G Q
set_option maxRecDepth 20000 in
theorem TX13_lackingOf_0 {j : Nat → rx_K} {J : Nat → List Int → gS → (Int → gS → Prop) → Prop} {a1 : Int} {a2 : Int} {G : gS} {Q : Int → gS → Prop} (ha1 : inI a1) (ha2 : inI a2) (hj0 : ∀ (l1 : Int) (l2 : Int) (l3 : Int) (l4 : Nat) (G : gS), (inI l1) → (inI l2) → (inI l3) → (l4 % 8 ≠ 1) → J 0 [l1, l2, l3] G Q → Tg W0 (j 0) [rf (16081), cI (l1), cI (l2), cI (l3), l4] [] G (fun r G => r = 7 ∧ Q 0 G)) (h : PX13_lackingOf_0 J a1 a2 G Q) : Tg W0 (vX13_lackingOf_0 j) [rf (16081), cI (a1), cI (a2), 7, 7] [] G (fun r G => r = 7 ∧ Q 0 G) := by
  unfold PX13_lackingOf_0 at h
  unfold vX13_lackingOf_0
  refine g_const (v := cI (0)) rfl ?_
  refine g_st (lv' := [_, _, _, _, _]) (is_I _) (Nat.le_of_ble_eq_true rfl) (Or.inr (n1_I _)) rfl ?_
  exact TX13_lackingOf_2 ha1 ha2 ⟨by omega, by omega⟩ (show 7 % 8 ≠ 1 by decide) hj0 h
def PX13_lackingOf_J : Nat → Nat → List Int → gS → (Int → gS → Prop) → Prop
  | 0, _, _, _, _ => False
  | f + 1, h, L, G, Q => match h, L with
    | 0, [l1, l2, l3] => PX13_lackingOf_2 (PX13_lackingOf_J f) l1 l2 l3 G Q
    | _, _ => False
theorem TX13_lackingOf_J {Q : Int → gS → Prop} : ∀ f N : Nat, f ≤ N → (∀ (l1 : Int) (l2 : Int) (l3 : Int) (l4 : Nat) (G : gS), (inI l1) → (inI l2) → (inI l3) → (l4 % 8 ≠ 1) → (PX13_lackingOf_J f) 0 [l1, l2, l3] G Q → Tg W0 (rx_J vhX13_lackingOf N 0) [rf (16081), cI (l1), cI (l2), cI (l3), l4] [] G (fun r G => r = 7 ∧ Q 0 G)) := by
  intro f
  induction f with
  | zero => exact fun N _ => fun _ _ _ _ _ _ _ _ _ h => h.elim
  | succ f ih =>
    intro N hN
    obtain ⟨M, rfl⟩ : ∃ M, N = M + 1 := ⟨N - 1, by omega⟩
    have ih := ih M (by omega)
    exact fun _ _ _ _ _ hl1 hl2 hl3 hl4 h => show Tg W0 (vX13_lackingOf_2 (rx_J vhX13_lackingOf M)) _ _ _ _ from TX13_lackingOf_2 hl1 hl2 hl3 hl4 ih h
def PX13_lackingOf (a1 : Int) (a2 : Int) (G : gS) (Q : Int → gS → Prop) : Prop := ∃ f : Nat, f ≤ 4000000000 ∧ PX13_lackingOf_0 (PX13_lackingOf_J f) a1 a2 G Q
theorem TX13_lackingOf {a1 : Int} {a2 : Int} {G : gS} {Q : Int → gS → Prop} (ha1 : inI a1) (ha2 : inI a2) (h : PX13_lackingOf a1 a2 G Q) : Tn W0 FX13_lackingOf [rf (16081), cI (a1), cI (a2)] G (fun r G => r = 7 ∧ Q 0 G) := by
  obtain ⟨f, hf, h⟩ := h
  have hJ := TX13_lackingOf_J (Q := Q) f 4000000000 hf
  unfold FX13_lackingOf
  refine g_ent (lv' := [rf (16081), cI (a1), cI (a2), 7, 7]) (flR (flI (flI fl0))) (Nat.le_of_ble_eq_true rfl) rfl ?_
  exact TX13_lackingOf_0 ha1 ha2 hJ h
def PX13_lacking_135 (J : Nat → List Int → gS → (Int → gS → Prop) → Prop) (l1 : Int) (G : gS) (Q : Int → gS → Prop) : Prop :=
  Q 0 G
set_option maxRecDepth 20000 in
theorem TX13_lacking_135 {j : Nat → rx_K} {J : Nat → List Int → gS → (Int → gS → Prop) → Prop} {l1 : Int} {l2 : Nat} {l3 : Nat} {l4 : Nat} {l5 : Nat} {G : gS} {Q : Int → gS → Prop} (hl1 : inI l1) (hl2 : l2 % 8 ≠ 1) (hl3 : l3 % 8 ≠ 1) (hl4 : l4 % 8 ≠ 1) (hl5 : l5 % 8 ≠ 1) (hj0 : ∀ (l1 : Int) (l2 : Nat) (l3 : Nat) (l4 : Nat) (l5 : Nat) (G : gS), (inI l1) → (l2 % 8 ≠ 1) → (l3 % 8 ≠ 1) → (l4 % 8 ≠ 1) → (l5 % 8 ≠ 1) → J 0 [l1] G Q → Tg W0 (j 0) [rf (16081), cI (l1), l2, l3, l4, l5] [] G (fun r G => r = 7 ∧ Q 0 G)) (hj1 : ∀ (l1 : Int) (l2 : Int) (l3 : Int) (l4 : Int) (l5 : Nat) (G : gS), (inI l1) → (inI l2) → (inI l3) → (inI l4) → (l5 % 8 ≠ 1) → J 1 [l1, l2, l3, l4] G Q → Tg W0 (j 1) [rf (16081), cI (l1), cI (l2), cI (l3), cI (l4), l5] [] G (fun r G => r = 7 ∧ Q 0 G)) (hj2 : ∀ (l1 : Int) (l2 : Int) (l3 : Int) (l4 : Int) (l5 : Int) (G : gS), (inI l1) → (inI l2) → (inI l3) → (inI l4) → (inI l5) → J 2 [l1, l2, l3, l4, l5] G Q → Tg W0 (j 2) [rf (16081), cI (l1), cI (l2), cI (l3), cI (l4), cI (l5)] [] G (fun r G => r = 7 ∧ Q 0 G)) (h : PX13_lacking_135 J l1 G Q) : Tg W0 (vX13_lacking_135 j) [rf (16081), cI (l1), l2, l3, l4, l5] [] G (fun r G => r = 7 ∧ Q 0 G) := by
  unfold PX13_lacking_135 at h
  unfold vX13_lacking_135
  exact g_ret0 ⟨rfl, h⟩
def PX13_lacking_129 (J : Nat → List Int → gS → (Int → gS → Prop) → Prop) (l1 : Int) (l2 : Int) (G : gS) (Q : Int → gS → Prop) : Prop :=
  (inI (l1 + 1) ∧ J 0 [l1 + 1] G Q)
set_option maxRecDepth 20000 in
theorem TX13_lacking_129 {j : Nat → rx_K} {J : Nat → List Int → gS → (Int → gS → Prop) → Prop} {l1 : Int} {l2 : Int} {l3 : Nat} {l4 : Nat} {l5 : Nat} {G : gS} {Q : Int → gS → Prop} (hl1 : inI l1) (hl2 : inI l2) (hl3 : l3 % 8 ≠ 1) (hl4 : l4 % 8 ≠ 1) (hl5 : l5 % 8 ≠ 1) (hj0 : ∀ (l1 : Int) (l2 : Nat) (l3 : Nat) (l4 : Nat) (l5 : Nat) (G : gS), (inI l1) → (l2 % 8 ≠ 1) → (l3 % 8 ≠ 1) → (l4 % 8 ≠ 1) → (l5 % 8 ≠ 1) → J 0 [l1] G Q → Tg W0 (j 0) [rf (16081), cI (l1), l2, l3, l4, l5] [] G (fun r G => r = 7 ∧ Q 0 G)) (hj1 : ∀ (l1 : Int) (l2 : Int) (l3 : Int) (l4 : Int) (l5 : Nat) (G : gS), (inI l1) → (inI l2) → (inI l3) → (inI l4) → (l5 % 8 ≠ 1) → J 1 [l1, l2, l3, l4] G Q → Tg W0 (j 1) [rf (16081), cI (l1), cI (l2), cI (l3), cI (l4), l5] [] G (fun r G => r = 7 ∧ Q 0 G)) (hj2 : ∀ (l1 : Int) (l2 : Int) (l3 : Int) (l4 : Int) (l5 : Int) (G : gS), (inI l1) → (inI l2) → (inI l3) → (inI l4) → (inI l5) → J 2 [l1, l2, l3, l4, l5] G Q → Tg W0 (j 2) [rf (16081), cI (l1), cI (l2), cI (l3), cI (l4), cI (l5)] [] G (fun r G => r = 7 ∧ Q 0 G)) (h : PX13_lacking_129 J l1 l2 G Q) : Tg W0 (vX13_lacking_129 j) [rf (16081), cI (l1), cI (l2), l3, l4, l5] [] G (fun r G => r = 7 ∧ Q 0 G) := by
  unfold PX13_lacking_129 at h
  unfold vX13_lacking_129
  refine g_inc (lv' := [_, _, _, _, _, _]) rfl (Nat.le_of_ble_eq_true rfl) (Or.inr (n1_R _)) rfl ?_
  obtain ⟨q21, h⟩ := h
  exact hj0 _ _ _ _ _ _ q21 (n1_I _) hl3 hl4 hl5 h
def PX13_lacking_104 (J : Nat → List Int → gS → (Int → gS → Prop) → Prop) (l1 : Int) (l2 : Int) (l3 : Int) (l4 : Int) (l5 : Int) (G : gS) (Q : Int → gS → Prop) : Prop :=
  ((l5 < l4 → ((0 : Int) ≤ l5 ∧ ((l5 : Int) < 216 ∧ (inI (G 16172 l5) → PX13_lackingOf (G 16172 l5) l2 G (fun _ G36 => (inI (l5 + 1) ∧ J 2 [l1, l2, l3, l4, l5 + 1] G36 Q)))))) ∧ (¬ (l5 < l4) → PX13_lacking_129 J l1 l2 G Q))
set_option maxRecDepth 20000 in
theorem TX13_lacking_104 {j : Nat → rx_K} {J : Nat → List Int → gS → (Int → gS → Prop) → Prop} {l1 : Int} {l2 : Int} {l3 : Int} {l4 : Int} {l5 : Int} {G : gS} {Q : Int → gS → Prop} (hl1 : inI l1) (hl2 : inI l2) (hl3 : inI l3) (hl4 : inI l4) (hl5 : inI l5) (hj0 : ∀ (l1 : Int) (l2 : Nat) (l3 : Nat) (l4 : Nat) (l5 : Nat) (G : gS), (inI l1) → (l2 % 8 ≠ 1) → (l3 % 8 ≠ 1) → (l4 % 8 ≠ 1) → (l5 % 8 ≠ 1) → J 0 [l1] G Q → Tg W0 (j 0) [rf (16081), cI (l1), l2, l3, l4, l5] [] G (fun r G => r = 7 ∧ Q 0 G)) (hj1 : ∀ (l1 : Int) (l2 : Int) (l3 : Int) (l4 : Int) (l5 : Nat) (G : gS), (inI l1) → (inI l2) → (inI l3) → (inI l4) → (l5 % 8 ≠ 1) → J 1 [l1, l2, l3, l4] G Q → Tg W0 (j 1) [rf (16081), cI (l1), cI (l2), cI (l3), cI (l4), l5] [] G (fun r G => r = 7 ∧ Q 0 G)) (hj2 : ∀ (l1 : Int) (l2 : Int) (l3 : Int) (l4 : Int) (l5 : Int) (G : gS), (inI l1) → (inI l2) → (inI l3) → (inI l4) → (inI l5) → J 2 [l1, l2, l3, l4, l5] G Q → Tg W0 (j 2) [rf (16081), cI (l1), cI (l2), cI (l3), cI (l4), cI (l5)] [] G (fun r G => r = 7 ∧ Q 0 G)) (h : PX13_lacking_104 J l1 l2 l3 l4 l5 G Q) : Tg W0 (vX13_lacking_104 j) [rf (16081), cI (l1), cI (l2), cI (l3), cI (l4), cI (l5)] [] G (fun r G => r = 7 ∧ Q 0 G) := by
  unfold PX13_lacking_104 at h
  unfold vX13_lacking_104
  refine g_ld (v := cI _) rfl (is_I _) ?_
  refine g_ld (v := cI _) rfl (is_I _) ?_
  refine g_lt2 hl5 hl4 (fun b32 => ?_) (fun b32 => ?_)
  · replace h := h.1 b32
    unfold vX13_lacking_111
    refine g_ld (v := rf _) rfl (is_R _) ?_
    refine g_ld (v := rf _) rfl (is_R _) ?_
    refine g_getF (v := 16172) oC13 (hC13_106) rfl (Nat.le_of_ble_eq_true rfl) (Nat.le_of_ble_eq_true rfl) ?_
    refine g_ld (v := cI _) rfl (is_I _) ?_
    obtain ⟨q33, q34, h⟩ := h
    refine g_aldI aC16172 q33 q34 rfl fun i35 => ?_
    replace h := h i35
    refine g_ld (v := cI _) rfl (is_I _) ?_
    refine g_callV (As := [_, _]) (ci := 13) oC13 (fun _ => rfl) ?_
    refine g_go0 (Nat.le_of_ble_eq_true rfl) (Tn_w (TX13_lackingOf i35 hl2 h) fun _ G36 ⟨e, h⟩ => ⟨e, ?_⟩)
    refine g_inc (lv' := [_, _, _, _, _, _]) rfl (Nat.le_of_ble_eq_true rfl) (Or.inr (n1_I _)) rfl ?_
    obtain ⟨q38, h⟩ := h
    exact hj2 _ _ _ _ _ _ hl1 hl2 hl3 hl4 q38 h
  · replace h := h.2 b32
    exact TX13_lacking_129 hl1 hl2 (n1_I _) (n1_I _) (n1_I _) hj0 hj1 hj2 h
def PX13_lacking_66 (J : Nat → List Int → gS → (Int → gS → Prop) → Prop) (l1 : Int) (l2 : Int) (l3 : Int) (l4 : Int) (G : gS) (Q : Int → gS → Prop) : Prop :=
  ((l4 < l3 → ((0 : Int) ≤ l4 ∧ ((l4 : Int) < 216 ∧ (inI (G 16172 l4) → PX13_lackingOf (G 16172 l4) l2 G (fun _ G26 => (inI (l4 + 1) ∧ J 1 [l1, l2, l3, l4 + 1] G26 Q)))))) ∧ (¬ (l4 < l3) → PX13_allFaces l2 16172 G (fun r30 G29 => inI r30 → PX13_lacking_104 J l1 l2 l3 r30 0 G29 Q)))
set_option maxRecDepth 20000 in
theorem TX13_lacking_66 {j : Nat → rx_K} {J : Nat → List Int → gS → (Int → gS → Prop) → Prop} {l1 : Int} {l2 : Int} {l3 : Int} {l4 : Int} {l5 : Nat} {G : gS} {Q : Int → gS → Prop} (hl1 : inI l1) (hl2 : inI l2) (hl3 : inI l3) (hl4 : inI l4) (hl5 : l5 % 8 ≠ 1) (hj0 : ∀ (l1 : Int) (l2 : Nat) (l3 : Nat) (l4 : Nat) (l5 : Nat) (G : gS), (inI l1) → (l2 % 8 ≠ 1) → (l3 % 8 ≠ 1) → (l4 % 8 ≠ 1) → (l5 % 8 ≠ 1) → J 0 [l1] G Q → Tg W0 (j 0) [rf (16081), cI (l1), l2, l3, l4, l5] [] G (fun r G => r = 7 ∧ Q 0 G)) (hj1 : ∀ (l1 : Int) (l2 : Int) (l3 : Int) (l4 : Int) (l5 : Nat) (G : gS), (inI l1) → (inI l2) → (inI l3) → (inI l4) → (l5 % 8 ≠ 1) → J 1 [l1, l2, l3, l4] G Q → Tg W0 (j 1) [rf (16081), cI (l1), cI (l2), cI (l3), cI (l4), l5] [] G (fun r G => r = 7 ∧ Q 0 G)) (hj2 : ∀ (l1 : Int) (l2 : Int) (l3 : Int) (l4 : Int) (l5 : Int) (G : gS), (inI l1) → (inI l2) → (inI l3) → (inI l4) → (inI l5) → J 2 [l1, l2, l3, l4, l5] G Q → Tg W0 (j 2) [rf (16081), cI (l1), cI (l2), cI (l3), cI (l4), cI (l5)] [] G (fun r G => r = 7 ∧ Q 0 G)) (h : PX13_lacking_66 J l1 l2 l3 l4 G Q) : Tg W0 (vX13_lacking_66 j) [rf (16081), cI (l1), cI (l2), cI (l3), cI (l4), l5] [] G (fun r G => r = 7 ∧ Q 0 G) := by
  unfold PX13_lacking_66 at h
  unfold vX13_lacking_66
  refine g_ld (v := cI _) rfl (is_I _) ?_
  refine g_ld (v := cI _) rfl (is_I _) ?_
  refine g_lt2 hl4 hl3 (fun b22 => ?_) (fun b22 => ?_)
  · replace h := h.1 b22
    unfold vX13_lacking_72
    refine g_ld (v := rf _) rfl (is_R _) ?_
    refine g_ld (v := rf _) rfl (is_R _) ?_
    refine g_getF (v := 16172) oC13 (hC13_106) rfl (Nat.le_of_ble_eq_true rfl) (Nat.le_of_ble_eq_true rfl) ?_
    refine g_ld (v := cI _) rfl (is_I _) ?_
    obtain ⟨q23, q24, h⟩ := h
    refine g_aldI aC16172 q23 q24 rfl fun i25 => ?_
    replace h := h i25
    refine g_ld (v := cI _) rfl (is_I _) ?_
    refine g_callV (As := [_, _]) (ci := 13) oC13 (fun _ => rfl) ?_
    refine g_go0 (Nat.le_of_ble_eq_true rfl) (Tn_w (TX13_lackingOf i25 hl2 h) fun _ G26 ⟨e, h⟩ => ⟨e, ?_⟩)
    refine g_inc (lv' := [_, _, _, _, _, _]) rfl (Nat.le_of_ble_eq_true rfl) (Or.inr (n1_I _)) rfl ?_
    obtain ⟨q28, h⟩ := h
    exact hj1 _ _ _ _ _ _ hl1 hl2 hl3 q28 hl5 h
  · replace h := h.2 b22
    unfold vX13_lacking_90
    refine g_ld (v := rf _) rfl (is_R _) ?_
    refine g_ld (v := cI _) rfl (is_I _) ?_
    refine g_ld (v := rf _) rfl (is_R _) ?_
    refine g_getF (v := 16172) oC13 (hC13_106) rfl (Nat.le_of_ble_eq_true rfl) (Nat.le_of_ble_eq_true rfl) ?_
    refine g_callV (As := [_, _]) (ci := 13) oC13 (fun _ => rfl) ?_
    refine g_go1 (Nat.le_of_ble_eq_true rfl) (Tn_w (TX13_allFaces hl2 h) fun _ G29 ⟨r30, e, i31, h⟩ => ?_)
    subst e
    refine ⟨n7_I _, ?_⟩
    replace h := h i31
    refine g_st (lv' := [_, _, _, _, _, _]) (is_I _) (Nat.le_of_ble_eq_true rfl) (Or.inr (n1_I _)) rfl ?_
    refine g_const (v := cI (0)) rfl ?_
    refine g_st (lv' := [_, _, _, _, _, _]) (is_I _) (Nat.le_of_ble_eq_true rfl) (Or.inr (n1_I _)) rfl ?_
    exact TX13_lacking_104 hl1 hl2 hl3 i31 ⟨by omega, by omega⟩ hj0 hj1 hj2 h
def PX13_lacking_2 (J : Nat → List Int → gS → (Int → gS → Prop) → Prop) (l1 : Int) (G : gS) (Q : Int → gS → Prop) : Prop :=
  (inI (G 16081 19) → ((0 : Int) ≤ G 16081 19 ∧ ((G 16081 19 : Int) < 18 ∧ (inI (G 16097 (G 16081 19)) → ((l1 < G 16097 (G 16081 19) → (inI (G 16081 20) → ((G 16081 20 = 0 → (inI (G 16081 19) → (inI (((G 16081 19) * 12) + l1) ∧ ((0 : Int) ≤ ((G 16081 19) * 12) + l1 ∧ ((((G 16081 19) * 12) + l1 : Int) < 216 ∧ (inI (G 16101 (((G 16081 19) * 12) + l1)) → ((G 16101 (((G 16081 19) * 12) + l1) = 2 → PX13_lacking_129 J l1 (((G 16081 19) * 12) + l1) G Q) ∧ (¬ (G 16101 (((G 16081 19) * 12) + l1) = 2) → PX13_isFace (((G 16081 19) * 12) + l1) G (fun r15 G14 => (0 ≤ r15 ∧ r15 ≤ 1) → ((r15 = 0 → PX13_parents (((G 16081 19) * 12) + l1) 16172 G14 (fun r19 G18 => inI r19 → PX13_lacking_66 J l1 (((G 16081 19) * 12) + l1) r19 1 G18 Q)) ∧ (¬ (r15 = 0) → PX13_lacking_129 J l1 (((G 16081 19) * 12) + l1) G14 Q))))))))))) ∧ (¬ (G 16081 20 = 0) → PX13_lacking_135 J l1 G Q)))) ∧ (¬ (l1 < G 16097 (G 16081 19)) → PX13_lacking_135 J l1 G Q))))))
set_option maxRecDepth 20000 in
theorem TX13_lacking_2 {j : Nat → rx_K} {J : Nat → List Int → gS → (Int → gS → Prop) → Prop} {l1 : Int} {l2 : Nat} {l3 : Nat} {l4 : Nat} {l5 : Nat} {G : gS} {Q : Int → gS → Prop} (hl1 : inI l1) (hl2 : l2 % 8 ≠ 1) (hl3 : l3 % 8 ≠ 1) (hl4 : l4 % 8 ≠ 1) (hl5 : l5 % 8 ≠ 1) (hj0 : ∀ (l1 : Int) (l2 : Nat) (l3 : Nat) (l4 : Nat) (l5 : Nat) (G : gS), (inI l1) → (l2 % 8 ≠ 1) → (l3 % 8 ≠ 1) → (l4 % 8 ≠ 1) → (l5 % 8 ≠ 1) → J 0 [l1] G Q → Tg W0 (j 0) [rf (16081), cI (l1), l2, l3, l4, l5] [] G (fun r G => r = 7 ∧ Q 0 G)) (hj1 : ∀ (l1 : Int) (l2 : Int) (l3 : Int) (l4 : Int) (l5 : Nat) (G : gS), (inI l1) → (inI l2) → (inI l3) → (inI l4) → (l5 % 8 ≠ 1) → J 1 [l1, l2, l3, l4] G Q → Tg W0 (j 1) [rf (16081), cI (l1), cI (l2), cI (l3), cI (l4), l5] [] G (fun r G => r = 7 ∧ Q 0 G)) (hj2 : ∀ (l1 : Int) (l2 : Int) (l3 : Int) (l4 : Int) (l5 : Int) (G : gS), (inI l1) → (inI l2) → (inI l3) → (inI l4) → (inI l5) → J 2 [l1, l2, l3, l4, l5] G Q → Tg W0 (j 2) [rf (16081), cI (l1), cI (l2), cI (l3), cI (l4), cI (l5)] [] G (fun r G => r = 7 ∧ Q 0 G)) (h : PX13_lacking_2 J l1 G Q) : Tg W0 (vX13_lacking_2 j) [rf (16081), cI (l1), l2, l3, l4, l5] [] G (fun r G => r = 7 ∧ Q 0 G) := by
  unfold PX13_lacking_2 at h
  unfold vX13_lacking_2
  refine g_ld (v := cI _) rfl (is_I _) ?_
  refine g_ld (v := rf _) rfl (is_R _) ?_
  refine g_getF (v := 16097) oC13 (hC13_23) rfl (Nat.le_of_ble_eq_true rfl) (Nat.le_of_ble_eq_true rfl) ?_
  refine g_ld (v := rf _) rfl (is_R _) ?_
  refine g_getI (kz := 19) oC13 rfl (Nat.le_of_ble_eq_true rfl) rfl fun i1 => ?_
  replace h := h i1
  obtain ⟨q2, q3, h⟩ := h
  refine g_aldI aC16097 q2 q3 rfl fun i4 => ?_
  replace h := h i4
  refine g_lt2 hl1 i4 (fun b5 => ?_) (fun b5 => ?_)
  · replace h := h.1 b5
    unfold vX13_lacking_15
    refine g_ld (v := rf _) rfl (is_R _) ?_
    refine g_getI (kz := 20) oC13 rfl (Nat.le_of_ble_eq_true rfl) rfl fun i6 => ?_
    replace h := h i6
    refine g_eq1 i6 (fun b7 => ?_) (fun b7 => ?_)
    · replace h := h.1 b7
      unfold vX13_lacking_22
      refine g_ld (v := rf _) rfl (is_R _) ?_
      refine g_getI (kz := 19) oC13 rfl (Nat.le_of_ble_eq_true rfl) rfl fun i8 => ?_
      replace h := h i8
      refine g_const (v := cI (12)) rfl ?_
      refine g_mul ?_
      refine g_ld (v := cI _) rfl (is_I _) ?_
      refine g_add ?_
      refine g_st (lv' := [_, _, _, _, _, _]) (is_I _) (Nat.le_of_ble_eq_true rfl) (Or.inr (n1_I _)) rfl ?_
      obtain ⟨q9, h⟩ := h
      refine g_ld (v := rf _) rfl (is_R _) ?_
      refine g_getF (v := 16101) oC13 (hC13_27) rfl (Nat.le_of_ble_eq_true rfl) (Nat.le_of_ble_eq_true rfl) ?_
      refine g_ld (v := cI _) rfl (is_I _) ?_
      obtain ⟨q10, q11, h⟩ := h
      refine g_aldI aC16101 q10 q11 rfl fun i12 => ?_
      replace h := h i12
      refine g_const (v := cI (2)) rfl ?_
      refine g_eq2 i12 ⟨by omega, by omega⟩ (fun b13 => ?_) (fun b13 => ?_)
      · replace h := h.1 b13
        exact TX13_lacking_129 hl1 q9 hl3 hl4 hl5 hj0 hj1 hj2 h
      · replace h := h.2 b13
        unfold vX13_lacking_42
        refine g_ld (v := rf _) rfl (is_R _) ?_
        refine g_ld (v := cI _) rfl (is_I _) ?_
        refine g_callV (As := [_]) (ci := 13) oC13 (fun _ => rfl) ?_
        refine g_go1 (Nat.le_of_ble_eq_true rfl) (Tn_w (TX13_isFace q9 h) fun _ G14 ⟨r15, e, i16, h⟩ => ?_)
        subst e
        refine ⟨n7_I _, ?_⟩
        replace h := h i16
        refine g_eq1 ⟨by omega, by omega⟩ (fun b17 => ?_) (fun b17 => ?_)
        · replace h := h.1 b17
          unfold vX13_lacking_53
          refine g_ld (v := rf _) rfl (is_R _) ?_
          refine g_ld (v := cI _) rfl (is_I _) ?_
          refine g_ld (v := rf _) rfl (is_R _) ?_
          refine g_getF (v := 16172) oC13 (hC13_106) rfl (Nat.le_of_ble_eq_true rfl) (Nat.le_of_ble_eq_true rfl) ?_
          refine g_callV (As := [_, _]) (ci := 13) oC13 (fun _ => rfl) ?_
          refine g_go1 (Nat.le_of_ble_eq_true rfl) (Tn_w (TX13_parents q9 h) fun _ G18 ⟨r19, e, i20, h⟩ => ?_)
          subst e
          refine ⟨n7_I _, ?_⟩
          replace h := h i20
          refine g_st (lv' := [_, _, _, _, _, _]) (is_I _) (Nat.le_of_ble_eq_true rfl) (Or.inr (n1_I _)) rfl ?_
          refine g_const (v := cI (1)) rfl ?_
          refine g_st (lv' := [_, _, _, _, _, _]) (is_I _) (Nat.le_of_ble_eq_true rfl) (Or.inr (n1_I _)) rfl ?_
          exact TX13_lacking_66 hl1 q9 i20 ⟨by omega, by omega⟩ hl5 hj0 hj1 hj2 h
        · replace h := h.2 b17
          unfold vX13_lacking_50
          exact TX13_lacking_129 hl1 q9 hl3 hl4 hl5 hj0 hj1 hj2 h
    · replace h := h.2 b7
      exact TX13_lacking_135 hl1 hl2 hl3 hl4 hl5 hj0 hj1 hj2 h
  · replace h := h.2 b5
    exact TX13_lacking_135 hl1 hl2 hl3 hl4 hl5 hj0 hj1 hj2 h
def PX13_lacking_0 (J : Nat → List Int → gS → (Int → gS → Prop) → Prop)  (G : gS) (Q : Int → gS → Prop) : Prop :=
  PX13_lacking_2 J 0 G Q
set_option maxRecDepth 20000 in
theorem TX13_lacking_0 {j : Nat → rx_K} {J : Nat → List Int → gS → (Int → gS → Prop) → Prop}  {G : gS} {Q : Int → gS → Prop}  (hj0 : ∀ (l1 : Int) (l2 : Nat) (l3 : Nat) (l4 : Nat) (l5 : Nat) (G : gS), (inI l1) → (l2 % 8 ≠ 1) → (l3 % 8 ≠ 1) → (l4 % 8 ≠ 1) → (l5 % 8 ≠ 1) → J 0 [l1] G Q → Tg W0 (j 0) [rf (16081), cI (l1), l2, l3, l4, l5] [] G (fun r G => r = 7 ∧ Q 0 G)) (hj1 : ∀ (l1 : Int) (l2 : Int) (l3 : Int) (l4 : Int) (l5 : Nat) (G : gS), (inI l1) → (inI l2) → (inI l3) → (inI l4) → (l5 % 8 ≠ 1) → J 1 [l1, l2, l3, l4] G Q → Tg W0 (j 1) [rf (16081), cI (l1), cI (l2), cI (l3), cI (l4), l5] [] G (fun r G => r = 7 ∧ Q 0 G)) (hj2 : ∀ (l1 : Int) (l2 : Int) (l3 : Int) (l4 : Int) (l5 : Int) (G : gS), (inI l1) → (inI l2) → (inI l3) → (inI l4) → (inI l5) → J 2 [l1, l2, l3, l4, l5] G Q → Tg W0 (j 2) [rf (16081), cI (l1), cI (l2), cI (l3), cI (l4), cI (l5)] [] G (fun r G => r = 7 ∧ Q 0 G)) (h : PX13_lacking_0 J  G Q) : Tg W0 (vX13_lacking_0 j) [rf (16081), 7, 7, 7, 7, 7] [] G (fun r G => r = 7 ∧ Q 0 G) := by
  unfold PX13_lacking_0 at h
  unfold vX13_lacking_0
  refine g_const (v := cI (0)) rfl ?_
  refine g_st (lv' := [_, _, _, _, _, _]) (is_I _) (Nat.le_of_ble_eq_true rfl) (Or.inr (n1_R _)) rfl ?_
  exact TX13_lacking_2 ⟨by omega, by omega⟩ (show 7 % 8 ≠ 1 by decide) (show 7 % 8 ≠ 1 by decide) (show 7 % 8 ≠ 1 by decide) (show 7 % 8 ≠ 1 by decide) hj0 hj1 hj2 h
def PX13_lacking_J : Nat → Nat → List Int → gS → (Int → gS → Prop) → Prop
  | 0, _, _, _, _ => False
  | f + 1, h, L, G, Q => match h, L with
    | 0, [l1] => PX13_lacking_2 (PX13_lacking_J f) l1 G Q
    | 1, [l1, l2, l3, l4] => PX13_lacking_66 (PX13_lacking_J f) l1 l2 l3 l4 G Q
    | 2, [l1, l2, l3, l4, l5] => PX13_lacking_104 (PX13_lacking_J f) l1 l2 l3 l4 l5 G Q
    | _, _ => False
theorem TX13_lacking_J {Q : Int → gS → Prop} : ∀ f N : Nat, f ≤ N → (∀ (l1 : Int) (l2 : Nat) (l3 : Nat) (l4 : Nat) (l5 : Nat) (G : gS), (inI l1) → (l2 % 8 ≠ 1) → (l3 % 8 ≠ 1) → (l4 % 8 ≠ 1) → (l5 % 8 ≠ 1) → (PX13_lacking_J f) 0 [l1] G Q → Tg W0 (rx_J vhX13_lacking N 0) [rf (16081), cI (l1), l2, l3, l4, l5] [] G (fun r G => r = 7 ∧ Q 0 G)) ∧ (∀ (l1 : Int) (l2 : Int) (l3 : Int) (l4 : Int) (l5 : Nat) (G : gS), (inI l1) → (inI l2) → (inI l3) → (inI l4) → (l5 % 8 ≠ 1) → (PX13_lacking_J f) 1 [l1, l2, l3, l4] G Q → Tg W0 (rx_J vhX13_lacking N 1) [rf (16081), cI (l1), cI (l2), cI (l3), cI (l4), l5] [] G (fun r G => r = 7 ∧ Q 0 G)) ∧ (∀ (l1 : Int) (l2 : Int) (l3 : Int) (l4 : Int) (l5 : Int) (G : gS), (inI l1) → (inI l2) → (inI l3) → (inI l4) → (inI l5) → (PX13_lacking_J f) 2 [l1, l2, l3, l4, l5] G Q → Tg W0 (rx_J vhX13_lacking N 2) [rf (16081), cI (l1), cI (l2), cI (l3), cI (l4), cI (l5)] [] G (fun r G => r = 7 ∧ Q 0 G)) := by
  intro f
  induction f with
  | zero => exact fun N _ => ⟨fun _ _ _ _ _ _ _ _ _ _ _ h => h.elim, fun _ _ _ _ _ _ _ _ _ _ _ h => h.elim, fun _ _ _ _ _ _ _ _ _ _ _ h => h.elim⟩
  | succ f ih =>
    intro N hN
    obtain ⟨M, rfl⟩ : ∃ M, N = M + 1 := ⟨N - 1, by omega⟩
    have ih := ih M (by omega)
    exact ⟨fun _ _ _ _ _ _ hl1 hl2 hl3 hl4 hl5 h => show Tg W0 (vX13_lacking_2 (rx_J vhX13_lacking M)) _ _ _ _ from TX13_lacking_2 hl1 hl2 hl3 hl4 hl5 ih.1 ih.2.1 ih.2.2 h, fun _ _ _ _ _ _ hl1 hl2 hl3 hl4 hl5 h => show Tg W0 (vX13_lacking_66 (rx_J vhX13_lacking M)) _ _ _ _ from TX13_lacking_66 hl1 hl2 hl3 hl4 hl5 ih.1 ih.2.1 ih.2.2 h, fun _ _ _ _ _ _ hl1 hl2 hl3 hl4 hl5 h => show Tg W0 (vX13_lacking_104 (rx_J vhX13_lacking M)) _ _ _ _ from TX13_lacking_104 hl1 hl2 hl3 hl4 hl5 ih.1 ih.2.1 ih.2.2 h⟩
def PX13_lacking  (G : gS) (Q : Int → gS → Prop) : Prop := ∃ f : Nat, f ≤ 4000000000 ∧ PX13_lacking_0 (PX13_lacking_J f)  G Q
theorem TX13_lacking  {G : gS} {Q : Int → gS → Prop}  (h : PX13_lacking  G Q) : Tn W0 FX13_lacking [rf (16081)] G (fun r G => r = 7 ∧ Q 0 G) := by
  obtain ⟨f, hf, h⟩ := h
  have hJ := TX13_lacking_J (Q := Q) f 4000000000 hf
  unfold FX13_lacking
  refine g_ent (lv' := [rf (16081), 7, 7, 7, 7, 7]) (flR fl0) (Nat.le_of_ble_eq_true rfl) rfl ?_
  exact TX13_lacking_0  hJ.1 hJ.2.1 hJ.2.2 h
def PX13_isTwo_17 (l0 : Int) (s0 : Int) (G : gS) (Q : Int → gS → Prop) : Prop :=
  ((0 ≤ s0 ∧ s0 ≤ 1) ∧ Q (s0) G)
set_option maxRecDepth 20000 in
theorem TX13_isTwo_17 {l0 : Int} {s0 : Int} {G : gS} {Q : Int → gS → Prop} (hl0 : inI l0) (hs0 : inI s0) (h : PX13_isTwo_17 l0 s0 G Q) : Tg W0 vX13_isTwo_17 [cI (l0)] [cI (s0)] G (fun r G => ∃ v, r = cI v ∧ (0 ≤ v ∧ v ≤ 1) ∧ Q v G) := by
  unfold PX13_isTwo_17 at h
  unfold vX13_isTwo_17
  obtain ⟨q3, h⟩ := h
  exact g_ret1 (is_Z q3) ⟨_, rfl, q3, h⟩
def PX13_isTwo_16 (l0 : Int) (G : gS) (Q : Int → gS → Prop) : Prop :=
  PX13_isTwo_17 l0 0 G Q
set_option maxRecDepth 20000 in
theorem TX13_isTwo_16 {l0 : Int} {G : gS} {Q : Int → gS → Prop} (hl0 : inI l0) (h : PX13_isTwo_16 l0 G Q) : Tg W0 vX13_isTwo_16 [cI (l0)] [] G (fun r G => ∃ v, r = cI v ∧ (0 ≤ v ∧ v ≤ 1) ∧ Q v G) := by
  unfold PX13_isTwo_16 at h
  unfold vX13_isTwo_16
  refine g_const (v := cI (0)) rfl ?_
  exact TX13_isTwo_17 hl0 ⟨by omega, by omega⟩ h
def PX13_isTwo_0 (a0 : Int) (G : gS) (Q : Int → gS → Prop) : Prop :=
  ((a0 < 15 → PX13_isTwo_16 a0 G Q) ∧ (¬ (a0 < 15) → ((19 < a0 → PX13_isTwo_16 a0 G Q) ∧ (¬ (19 < a0) → PX13_isTwo_17 a0 1 G Q))))
set_option maxRecDepth 20000 in
theorem TX13_isTwo_0 {a0 : Int} {G : gS} {Q : Int → gS → Prop} (ha0 : inI a0) (h : PX13_isTwo_0 a0 G Q) : Tg W0 vX13_isTwo_0 [cI (a0)] [] G (fun r G => ∃ v, r = cI v ∧ (0 ≤ v ∧ v ≤ 1) ∧ Q v G) := by
  unfold PX13_isTwo_0 at h
  unfold vX13_isTwo_0
  refine g_ld (v := cI _) rfl (is_I _) ?_
  refine g_const (v := cI (15)) rfl ?_
  refine g_lt2 ha0 ⟨by omega, by omega⟩ (fun b1 => ?_) (fun b1 => ?_)
  · replace h := h.1 b1
    exact TX13_isTwo_16 ha0 h
  · replace h := h.2 b1
    unfold vX13_isTwo_6
    refine g_ld (v := cI _) rfl (is_I _) ?_
    refine g_const (v := cI (19)) rfl ?_
    refine g_gt2 ha0 ⟨by omega, by omega⟩ (fun b2 => ?_) (fun b2 => ?_)
    · replace h := h.1 b2
      exact TX13_isTwo_16 ha0 h
    · replace h := h.2 b2
      unfold vX13_isTwo_12
      refine g_const (v := cI (1)) rfl ?_
      exact TX13_isTwo_17 ha0 ⟨by omega, by omega⟩ h
abbrev PX13_isTwo (a0 : Int) (G : gS) (Q : Int → gS → Prop) : Prop := PX13_isTwo_0 a0 G Q
theorem TX13_isTwo {a0 : Int} {G : gS} {Q : Int → gS → Prop} (ha0 : inI a0) (h : PX13_isTwo a0 G Q) : Tn W0 FX13_isTwo [cI (a0)] G (fun r G => ∃ v, r = cI v ∧ (0 ≤ v ∧ v ≤ 1) ∧ Q v G) := by
  unfold FX13_isTwo
  refine g_ent (lv' := [cI (a0)]) (flI fl0) (Nat.le_of_ble_eq_true rfl) rfl ?_
  exact TX13_isTwo_0 ha0 h
def PX13_act_73 (l0 : Int) (l1 : Int) (l2 : Int) (s0 : Int) (G : gS) (Q : Int → gS → Prop) : Prop :=
  Q (s0) G
set_option maxRecDepth 20000 in
theorem TX13_act_73 {l0 : Int} {l1 : Int} {l2 : Int} {s0 : Int} {G : gS} {Q : Int → gS → Prop} (hl0 : inI l0) (hl1 : inI l1) (hl2 : inI l2) (hs0 : inI s0) (h : PX13_act_73 l0 l1 l2 s0 G Q) : Tg W0 vX13_act_73 [cI (l0), cI (l1), cI (l2)] [cI (s0)] G (fun r G => ∃ v, r = cI v ∧ inI v ∧ Q v G) := by
  unfold PX13_act_73 at h
  unfold vX13_act_73
  exact g_ret1 (is_I _) ⟨_, rfl, hs0, h⟩
def PX13_act_0 (a0 : Int) (a1 : Int) (a2 : Int) (G : gS) (Q : Int → gS → Prop) : Prop :=
  ((a0 = 15 → (inI (a1 + a2) ∧ PX13_act_73 a0 a1 a2 (a1 + a2) G Q)) ∧ (a0 = 16 → (inI (a1 - a2) ∧ PX13_act_73 a0 a1 a2 (a1 - a2) G Q)) ∧ (a0 = 17 → (inI (a1 * a2) ∧ PX13_act_73 a0 a1 a2 (a1 * a2) G Q)) ∧ (a0 = 18 → ((a1 < a2 → PX13_act_73 a0 a1 a2 1 G Q) ∧ (¬ (a1 < a2) → PX13_act_73 a0 a1 a2 0 G Q))) ∧ ((a0 < 15 ∨ 19 ≤ a0) → ((a1 = a2 → PX13_act_73 a0 a1 a2 1 G Q) ∧ (¬ (a1 = a2) → PX13_act_73 a0 a1 a2 0 G Q))))
set_option maxRecDepth 20000 in
theorem TX13_act_0 {a0 : Int} {a1 : Int} {a2 : Int} {G : gS} {Q : Int → gS → Prop} (ha0 : inI a0) (ha1 : inI a1) (ha2 : inI a2) (h : PX13_act_0 a0 a1 a2 G Q) : Tg W0 vX13_act_0 [cI (a0), cI (a1), cI (a2)] [] G (fun r G => ∃ v, r = cI v ∧ inI v ∧ Q v G) := by
  unfold PX13_act_0 at h
  unfold vX13_act_0
  refine g_ld (v := cI _) rfl (is_I _) ?_
  rcases (show a0 = 15 ∨ a0 = 16 ∨ a0 = 17 ∨ a0 = 18 ∨ (a0 < 15 ∨ 19 ≤ a0) by omega) with b1 | b1 | b1 | b1 | b1
  · replace h := h.1 b1
    refine g_swI (n := 0) b1 (by omega) ?_
    show Tg W0 (vX13_act_32) _ _ _ _
    unfold vX13_act_32
    refine g_ld (v := cI _) rfl (is_I _) ?_
    refine g_ld (v := cI _) rfl (is_I _) ?_
    refine g_add ?_
    obtain ⟨q2, h⟩ := h
    exact TX13_act_73 ha0 ha1 ha2 q2 h
  · replace h := h.2.1 b1
    refine g_swI (n := 1) b1 (by omega) ?_
    show Tg W0 (vX13_act_38) _ _ _ _
    unfold vX13_act_38
    refine g_ld (v := cI _) rfl (is_I _) ?_
    refine g_ld (v := cI _) rfl (is_I _) ?_
    refine g_sub ?_
    obtain ⟨q3, h⟩ := h
    exact TX13_act_73 ha0 ha1 ha2 q3 h
  · replace h := h.2.2.1 b1
    refine g_swI (n := 2) b1 (by omega) ?_
    show Tg W0 (vX13_act_44) _ _ _ _
    unfold vX13_act_44
    refine g_ld (v := cI _) rfl (is_I _) ?_
    refine g_ld (v := cI _) rfl (is_I _) ?_
    refine g_mul ?_
    obtain ⟨q4, h⟩ := h
    exact TX13_act_73 ha0 ha1 ha2 q4 h
  · replace h := h.2.2.2.1 b1
    refine g_swI (n := 3) b1 (by omega) ?_
    show Tg W0 (vX13_act_50) _ _ _ _
    unfold vX13_act_50
    refine g_ld (v := cI _) rfl (is_I _) ?_
    refine g_ld (v := cI _) rfl (is_I _) ?_
    refine g_lt2 ha1 ha2 (fun b5 => ?_) (fun b5 => ?_)
    · replace h := h.1 b5
      unfold vX13_act_55
      refine g_const (v := cI (1)) rfl ?_
      exact TX13_act_73 ha0 ha1 ha2 ⟨by omega, by omega⟩ h
    · replace h := h.2 b5
      unfold vX13_act_59
      refine g_const (v := cI (0)) rfl ?_
      exact TX13_act_73 ha0 ha1 ha2 ⟨by omega, by omega⟩ h
  · replace h := h.2.2.2.2 b1
    refine g_swD (m := 4) ha0 rfl b1 (by omega) ?_
    show Tg W0 (vX13_act_63) _ _ _ _
    unfold vX13_act_63
    refine g_ld (v := cI _) rfl (is_I _) ?_
    refine g_ld (v := cI _) rfl (is_I _) ?_
    refine g_eq2 ha1 ha2 (fun b6 => ?_) (fun b6 => ?_)
    · replace h := h.1 b6
      unfold vX13_act_68
      refine g_const (v := cI (1)) rfl ?_
      exact TX13_act_73 ha0 ha1 ha2 ⟨by omega, by omega⟩ h
    · replace h := h.2 b6
      unfold vX13_act_72
      refine g_const (v := cI (0)) rfl ?_
      exact TX13_act_73 ha0 ha1 ha2 ⟨by omega, by omega⟩ h
abbrev PX13_act (a0 : Int) (a1 : Int) (a2 : Int) (G : gS) (Q : Int → gS → Prop) : Prop := PX13_act_0 a0 a1 a2 G Q
theorem TX13_act {a0 : Int} {a1 : Int} {a2 : Int} {G : gS} {Q : Int → gS → Prop} (ha0 : inI a0) (ha1 : inI a1) (ha2 : inI a2) (h : PX13_act a0 a1 a2 G Q) : Tn W0 FX13_act [cI (a0), cI (a1), cI (a2)] G (fun r G => ∃ v, r = cI v ∧ inI v ∧ Q v G) := by
  unfold FX13_act
  refine g_ent (lv' := [cI (a0), cI (a1), cI (a2)]) (flI (flI (flI fl0))) (Nat.le_of_ble_eq_true rfl) rfl ?_
  exact TX13_act_0 ha0 ha1 ha2 h
def PX13_beginsBySuper_50 (l1 : Int) (l2 : Int) (s0 : Int) (G : gS) (Q : Int → gS → Prop) : Prop :=
  ((0 ≤ s0 ∧ s0 ≤ 1) ∧ Q (s0) G)
set_option maxRecDepth 20000 in
theorem TX13_beginsBySuper_50 {l1 : Int} {l2 : Int} {s0 : Int} {G : gS} {Q : Int → gS → Prop} (hl1 : inI l1) (hl2 : inI l2) (hs0 : inI s0) (h : PX13_beginsBySuper_50 l1 l2 s0 G Q) : Tg W0 vX13_beginsBySuper_50 [rf (16081), cI (l1), cI (l2)] [cI (s0)] G (fun r G => ∃ v, r = cI v ∧ (0 ≤ v ∧ v ≤ 1) ∧ Q v G) := by
  unfold PX13_beginsBySuper_50 at h
  unfold vX13_beginsBySuper_50
  obtain ⟨q16, h⟩ := h
  exact g_ret1 (is_Z q16) ⟨_, rfl, q16, h⟩
def PX13_beginsBySuper_49 (l1 : Int) (l2 : Int) (G : gS) (Q : Int → gS → Prop) : Prop :=
  PX13_beginsBySuper_50 l1 l2 0 G Q
set_option maxRecDepth 20000 in
theorem TX13_beginsBySuper_49 {l1 : Int} {l2 : Int} {G : gS} {Q : Int → gS → Prop} (hl1 : inI l1) (hl2 : inI l2) (h : PX13_beginsBySuper_49 l1 l2 G Q) : Tg W0 vX13_beginsBySuper_49 [rf (16081), cI (l1), cI (l2)] [] G (fun r G => ∃ v, r = cI v ∧ (0 ≤ v ∧ v ≤ 1) ∧ Q v G) := by
  unfold PX13_beginsBySuper_49 at h
  unfold vX13_beginsBySuper_49
  refine g_const (v := cI (0)) rfl ?_
  exact TX13_beginsBySuper_50 hl1 hl2 ⟨by omega, by omega⟩ h
def PX13_beginsBySuper_27 (l1 : Int) (s0 : Int) (G : gS) (Q : Int → gS → Prop) : Prop :=
  ((s0 = -2 → PX13_beginsBySuper_49 l1 s0 G Q) ∧ (¬ (s0 = -2) → ((0 : Int) ≤ s0 ∧ ((s0 : Int) < 30600 ∧ (inI (G 16144 s0) → ((G 16144 s0 = 28 → PX13_beginsBySuper_50 l1 s0 1 G Q) ∧ (¬ (G 16144 s0 = 28) → PX13_beginsBySuper_49 l1 s0 G Q)))))))
set_option maxRecDepth 20000 in
theorem TX13_beginsBySuper_27 {l1 : Int} {l2 : Nat} {s0 : Int} {G : gS} {Q : Int → gS → Prop} (hl1 : inI l1) (hl2 : l2 % 8 ≠ 1) (hs0 : inI s0) (h : PX13_beginsBySuper_27 l1 s0 G Q) : Tg W0 vX13_beginsBySuper_27 [rf (16081), cI (l1), l2] [cI (s0)] G (fun r G => ∃ v, r = cI v ∧ (0 ≤ v ∧ v ≤ 1) ∧ Q v G) := by
  unfold PX13_beginsBySuper_27 at h
  unfold vX13_beginsBySuper_27
  refine g_st (lv' := [_, _, _]) (is_I _) (Nat.le_of_ble_eq_true rfl) (Or.inr (n1_I _)) rfl ?_
  refine g_ld (v := cI _) rfl (is_I _) ?_
  refine g_const (v := cI (-2)) rfl ?_
  refine g_eq2 hs0 ⟨by omega, by omega⟩ (fun b11 => ?_) (fun b11 => ?_)
  · replace h := h.1 b11
    exact TX13_beginsBySuper_49 hl1 hs0 h
  · replace h := h.2 b11
    unfold vX13_beginsBySuper_34
    refine g_ld (v := rf _) rfl (is_R _) ?_
    refine g_getF (v := 16144) oC13 (hC13_70) rfl (Nat.le_of_ble_eq_true rfl) (Nat.le_of_ble_eq_true rfl) ?_
    refine g_ld (v := cI _) rfl (is_I _) ?_
    obtain ⟨q12, q13, h⟩ := h
    refine g_aldI aC16144 q12 q13 rfl fun i14 => ?_
    replace h := h i14
    refine g_const (v := cI (28)) rfl ?_
    refine g_eq2 i14 ⟨by omega, by omega⟩ (fun b15 => ?_) (fun b15 => ?_)
    · replace h := h.1 b15
      unfold vX13_beginsBySuper_45
      refine g_const (v := cI (1)) rfl ?_
      exact TX13_beginsBySuper_50 hl1 hs0 ⟨by omega, by omega⟩ h
    · replace h := h.2 b15
      exact TX13_beginsBySuper_49 hl1 hs0 h
def PX13_beginsBySuper_0 (a1 : Int) (G : gS) (Q : Int → gS → Prop) : Prop :=
  ((0 : Int) ≤ a1 ∧ ((a1 : Int) < 7344 ∧ (inI (G 16135 a1) → ((G 16135 a1 = -2 → PX13_beginsBySuper_27 a1 (-2) G Q) ∧ (¬ (G 16135 a1 = -2) → ((0 : Int) ≤ a1 ∧ ((a1 : Int) < 7344 ∧ (inI (G 16135 a1) → ((0 : Int) ≤ G 16135 a1 ∧ ((G 16135 a1 : Int) < 30600 ∧ (inI (G 16151 (G 16135 a1)) → PX13_beginsBySuper_27 a1 (G 16151 (G 16135 a1)) G Q)))))))))))
set_option maxRecDepth 20000 in
theorem TX13_beginsBySuper_0 {a1 : Int} {G : gS} {Q : Int → gS → Prop} (ha1 : inI a1) (h : PX13_beginsBySuper_0 a1 G Q) : Tg W0 vX13_beginsBySuper_0 [rf (16081), cI (a1), 7] [] G (fun r G => ∃ v, r = cI v ∧ (0 ≤ v ∧ v ≤ 1) ∧ Q v G) := by
  unfold PX13_beginsBySuper_0 at h
  unfold vX13_beginsBySuper_0
  refine g_ld (v := rf _) rfl (is_R _) ?_
  refine g_getF (v := 16135) oC13 (hC13_61) rfl (Nat.le_of_ble_eq_true rfl) (Nat.le_of_ble_eq_true rfl) ?_
  refine g_ld (v := cI _) rfl (is_I _) ?_
  obtain ⟨q1, q2, h⟩ := h
  refine g_aldI aC16135 q1 q2 rfl fun i3 => ?_
  replace h := h i3
  refine g_const (v := cI (-2)) rfl ?_
  refine g_eq2 i3 ⟨by omega, by omega⟩ (fun b4 => ?_) (fun b4 => ?_)
  · replace h := h.1 b4
    unfold vX13_beginsBySuper_11
    refine g_const (v := cI (-2)) rfl ?_
    exact TX13_beginsBySuper_27 ha1 (show 7 % 8 ≠ 1 by decide) ⟨by omega, by omega⟩ h
  · replace h := h.2 b4
    unfold vX13_beginsBySuper_16
    refine g_ld (v := rf _) rfl (is_R _) ?_
    refine g_getF (v := 16151) oC13 (hC13_77) rfl (Nat.le_of_ble_eq_true rfl) (Nat.le_of_ble_eq_true rfl) ?_
    refine g_ld (v := rf _) rfl (is_R _) ?_
    refine g_getF (v := 16135) oC13 (hC13_61) rfl (Nat.le_of_ble_eq_true rfl) (Nat.le_of_ble_eq_true rfl) ?_
    refine g_ld (v := cI _) rfl (is_I _) ?_
    obtain ⟨q5, q6, h⟩ := h
    refine g_aldI aC16135 q5 q6 rfl fun i7 => ?_
    replace h := h i7
    obtain ⟨q8, q9, h⟩ := h
    refine g_aldI aC16151 q8 q9 rfl fun i10 => ?_
    replace h := h i10
    exact TX13_beginsBySuper_27 ha1 (show 7 % 8 ≠ 1 by decide) i10 h
abbrev PX13_beginsBySuper (a1 : Int) (G : gS) (Q : Int → gS → Prop) : Prop := PX13_beginsBySuper_0 a1 G Q
theorem TX13_beginsBySuper {a1 : Int} {G : gS} {Q : Int → gS → Prop} (ha1 : inI a1) (h : PX13_beginsBySuper a1 G Q) : Tn W0 FX13_beginsBySuper [rf (16081), cI (a1)] G (fun r G => ∃ v, r = cI v ∧ (0 ≤ v ∧ v ≤ 1) ∧ Q v G) := by
  unfold FX13_beginsBySuper
  refine g_ent (lv' := [rf (16081), cI (a1), 7]) (flR (flI fl0)) (Nat.le_of_ble_eq_true rfl) rfl ?_
  exact TX13_beginsBySuper_0 ha1 h
def PX13_keepParams_14 (J : Nat → List Int → gS → (Int → gS → Prop) → Prop) (l1 : Int) (l2 : Int) (l3 : Int) (G : gS) (Q : Int → gS → Prop) : Prop :=
  ((0 : Int) ≤ l2 ∧ ((l2 : Int) < 7344 ∧ (inI (G 16129 l2) → ((l3 < G 16129 l2 → ((0 : Int) ≤ (4 * l2) + l3 ∧ (((4 * l2) + l3 : Int) < 29376 ∧ (inL (G 16130 ((4 * l2) + l3)) → ((0 : Int) ≤ (4 * l1) + l3 ∧ (((4 * l1) + l3 : Int) < 122400 ∧ (∀ G16 : gS, G16 = uG G 16160 ((4 * l1) + l3) (G 16130 ((4 * l2) + l3)) → (inI (l3 + 1) ∧ J 0 [l1, l2, l3 + 1] G16 Q)))))))) ∧ (¬ (l3 < G 16129 l2) → Q 0 G)))))
set_option maxRecDepth 20000 in
theorem TX13_keepParams_14 {j : Nat → rx_K} {J : Nat → List Int → gS → (Int → gS → Prop) → Prop} {l1 : Int} {l2 : Int} {l3 : Int} {G : gS} {Q : Int → gS → Prop} (hl1 : inI l1) (hl2 : inI l2) (hl3 : inI l3) (hj0 : ∀ (l1 : Int) (l2 : Int) (l3 : Int) (G : gS), (inI l1) → (inI l2) → (inI l3) → J 0 [l1, l2, l3] G Q → Tg W0 (j 0) [rf (16081), cI (l1), cI (l2), cI (l3)] [] G (fun r G => r = 7 ∧ Q 0 G)) (h : PX13_keepParams_14 J l1 l2 l3 G Q) : Tg W0 (vX13_keepParams_14 j) [rf (16081), cI (l1), cI (l2), cI (l3)] [] G (fun r G => r = 7 ∧ Q 0 G) := by
  unfold PX13_keepParams_14 at h
  unfold vX13_keepParams_14
  refine g_ld (v := cI _) rfl (is_I _) ?_
  refine g_ld (v := rf _) rfl (is_R _) ?_
  refine g_getF (v := 16129) oC13 (hC13_55) rfl (Nat.le_of_ble_eq_true rfl) (Nat.le_of_ble_eq_true rfl) ?_
  refine g_ld (v := cI _) rfl (is_I _) ?_
  obtain ⟨q7, q8, h⟩ := h
  refine g_aldI aC16129 q7 q8 rfl fun i9 => ?_
  replace h := h i9
  refine g_lt2 hl3 i9 (fun b10 => ?_) (fun b10 => ?_)
  · replace h := h.1 b10
    unfold vX13_keepParams_24
    refine g_ld (v := rf _) rfl (is_R _) ?_
    refine g_getF (v := 16160) oC13 (hC13_86) rfl (Nat.le_of_ble_eq_true rfl) (Nat.le_of_ble_eq_true rfl) ?_
    refine g_const (v := cI (4)) rfl ?_
    refine g_ld (v := cI _) rfl (is_I _) ?_
    refine g_mul ?_
    refine g_ld (v := cI _) rfl (is_I _) ?_
    refine g_add ?_
    refine g_ld (v := rf _) rfl (is_R _) ?_
    refine g_getF (v := 16130) oC13 (hC13_56) rfl (Nat.le_of_ble_eq_true rfl) (Nat.le_of_ble_eq_true rfl) ?_
    refine g_const (v := cI (4)) rfl ?_
    refine g_ld (v := cI _) rfl (is_I _) ?_
    refine g_mul ?_
    refine g_ld (v := cI _) rfl (is_I _) ?_
    refine g_add ?_
    obtain ⟨q11, q12, h⟩ := h
    refine g_aldL aC16130 q11 q12 rfl fun i13 => ?_
    replace h := h i13
    obtain ⟨q14, q15, h⟩ := h
    refine g_astL aC16160 q14 q15 i13 (nfL aC16160) ?_
    replace h := h _ rfl
    refine g_inc (lv' := [_, _, _, _]) rfl (Nat.le_of_ble_eq_true rfl) (Or.inr (n1_I _)) rfl ?_
    obtain ⟨q17, h⟩ := h
    exact hj0 _ _ _ _ hl1 hl2 q17 h
  · replace h := h.2 b10
    unfold vX13_keepParams_50
    exact g_ret0 ⟨rfl, h⟩
def PX13_keepParams_0 (J : Nat → List Int → gS → (Int → gS → Prop) → Prop) (a1 : Int) (a2 : Int) (G : gS) (Q : Int → gS → Prop) : Prop :=
  ((0 : Int) ≤ a2 ∧ ((a2 : Int) < 7344 ∧ (inI (G 16129 a2) → ((0 : Int) ≤ a1 ∧ ((a1 : Int) < 30600 ∧ (∀ G6 : gS, G6 = uG G 16159 a1 (G 16129 a2) → PX13_keepParams_14 J a1 a2 0 G6 Q))))))
set_option maxRecDepth 20000 in
theorem TX13_keepParams_0 {j : Nat → rx_K} {J : Nat → List Int → gS → (Int → gS → Prop) → Prop} {a1 : Int} {a2 : Int} {G : gS} {Q : Int → gS → Prop} (ha1 : inI a1) (ha2 : inI a2) (hj0 : ∀ (l1 : Int) (l2 : Int) (l3 : Int) (G : gS), (inI l1) → (inI l2) → (inI l3) → J 0 [l1, l2, l3] G Q → Tg W0 (j 0) [rf (16081), cI (l1), cI (l2), cI (l3)] [] G (fun r G => r = 7 ∧ Q 0 G)) (h : PX13_keepParams_0 J a1 a2 G Q) : Tg W0 (vX13_keepParams_0 j) [rf (16081), cI (a1), cI (a2), 7] [] G (fun r G => r = 7 ∧ Q 0 G) := by
  unfold PX13_keepParams_0 at h
  unfold vX13_keepParams_0
  refine g_ld (v := rf _) rfl (is_R _) ?_
  refine g_getF (v := 16159) oC13 (hC13_85) rfl (Nat.le_of_ble_eq_true rfl) (Nat.le_of_ble_eq_true rfl) ?_
  refine g_ld (v := cI _) rfl (is_I _) ?_
  refine g_ld (v := rf _) rfl (is_R _) ?_
  refine g_getF (v := 16129) oC13 (hC13_55) rfl (Nat.le_of_ble_eq_true rfl) (Nat.le_of_ble_eq_true rfl) ?_
  refine g_ld (v := cI _) rfl (is_I _) ?_
  obtain ⟨q1, q2, h⟩ := h
  refine g_aldI aC16129 q1 q2 rfl fun i3 => ?_
  replace h := h i3
  obtain ⟨q4, q5, h⟩ := h
  refine g_astI aC16159 q4 q5 i3 (nfI aC16159) ?_
  replace h := h _ rfl
  refine g_const (v := cI (0)) rfl ?_
  refine g_st (lv' := [_, _, _, _]) (is_I _) (Nat.le_of_ble_eq_true rfl) (Or.inr (n1_I _)) rfl ?_
  exact TX13_keepParams_14 ha1 ha2 ⟨by omega, by omega⟩ hj0 h
def PX13_keepParams_J : Nat → Nat → List Int → gS → (Int → gS → Prop) → Prop
  | 0, _, _, _, _ => False
  | f + 1, h, L, G, Q => match h, L with
    | 0, [l1, l2, l3] => PX13_keepParams_14 (PX13_keepParams_J f) l1 l2 l3 G Q
    | _, _ => False
theorem TX13_keepParams_J {Q : Int → gS → Prop} : ∀ f N : Nat, f ≤ N → (∀ (l1 : Int) (l2 : Int) (l3 : Int) (G : gS), (inI l1) → (inI l2) → (inI l3) → (PX13_keepParams_J f) 0 [l1, l2, l3] G Q → Tg W0 (rx_J vhX13_keepParams N 0) [rf (16081), cI (l1), cI (l2), cI (l3)] [] G (fun r G => r = 7 ∧ Q 0 G)) := by
  intro f
  induction f with
  | zero => exact fun N _ => fun _ _ _ _ _ _ _ h => h.elim
  | succ f ih =>
    intro N hN
    obtain ⟨M, rfl⟩ : ∃ M, N = M + 1 := ⟨N - 1, by omega⟩
    have ih := ih M (by omega)
    exact fun _ _ _ _ hl1 hl2 hl3 h => show Tg W0 (vX13_keepParams_14 (rx_J vhX13_keepParams M)) _ _ _ _ from TX13_keepParams_14 hl1 hl2 hl3 ih h
def PX13_keepParams (a1 : Int) (a2 : Int) (G : gS) (Q : Int → gS → Prop) : Prop := ∃ f : Nat, f ≤ 4000000000 ∧ PX13_keepParams_0 (PX13_keepParams_J f) a1 a2 G Q
theorem TX13_keepParams {a1 : Int} {a2 : Int} {G : gS} {Q : Int → gS → Prop} (ha1 : inI a1) (ha2 : inI a2) (h : PX13_keepParams a1 a2 G Q) : Tn W0 FX13_keepParams [rf (16081), cI (a1), cI (a2)] G (fun r G => r = 7 ∧ Q 0 G) := by
  obtain ⟨f, hf, h⟩ := h
  have hJ := TX13_keepParams_J (Q := Q) f 4000000000 hf
  unfold FX13_keepParams
  refine g_ent (lv' := [rf (16081), cI (a1), cI (a2), 7]) (flR (flI (flI fl0))) (Nat.le_of_ble_eq_true rfl) rfl ?_
  exact TX13_keepParams_0 ha1 ha2 hJ h
def PX13_means_19 (l1 : Int) (l2 : Int) (l3 : Int) (s0 : Int) (s1 : Int) (s2 : Int) (G : gS) (Q : Int → gS → Prop) : Prop :=
  (∃ n5, isA W0 0 n5 (s0) ∧ ((0 : Int) ≤ s1 ∧ ((s1 : Int) < n5 ∧ (∀ G9 : gS, G9 = uG G s0 s1 (s2) → ((0 : Int) ≤ l1 ∧ ((l1 : Int) < 30600 ∧ (∀ G12 : gS, G12 = uG G9 16157 l1 (l3) → ((0 : Int) ≤ l2 ∧ ((l2 : Int) < 7344 ∧ (inL (G12 16127 l2) → ((0 : Int) ≤ l1 ∧ ((l1 : Int) < 30600 ∧ (∀ G18 : gS, G18 = uG G12 16158 l1 (G12 16127 l2) → PX13_keepParams l1 l2 G18 (fun _ G19 => ((0 : Int) ≤ l2 ∧ ((l2 : Int) < 7344 ∧ (inL (G19 16127 l2) → Q (G19 16127 l2) G19)))))))))))))))))
set_option maxRecDepth 20000 in
theorem TX13_means_19 {l1 : Int} {l2 : Int} {l3 : Int} {l4 : Nat} {s0 : Int} {s1 : Int} {s2 : Int} {G : gS} {Q : Int → gS → Prop} (hl1 : inI l1) (hl2 : inI l2) (hl3 : inL l3) (hl4 : l4 % 8 ≠ 1) (hs1 : inI s1) (hs2 : inI s2) (h : PX13_means_19 l1 l2 l3 s0 s1 s2 G Q) : Tg W0 vX13_means_19 [rf (16081), cI (l1), cI (l2), cL (l3), l4] [cI (s2), cI (s1), rf (s0)] G (fun r G => ∃ v, r = cL v ∧ inL v ∧ Q v G) := by
  unfold PX13_means_19 at h
  unfold vX13_means_19
  obtain ⟨n5, q6, h⟩ := h
  obtain ⟨q7, q8, h⟩ := h
  refine g_astI q6 q7 q8 hs2 (nfI q6) ?_
  replace h := h _ rfl
  refine g_ld (v := rf _) rfl (is_R _) ?_
  refine g_getF (v := 16157) oC13 (hC13_83) rfl (Nat.le_of_ble_eq_true rfl) (Nat.le_of_ble_eq_true rfl) ?_
  refine g_ld (v := cI _) rfl (is_I _) ?_
  refine g_ld (v := cL _) rfl (is_L _) ?_
  obtain ⟨q10, q11, h⟩ := h
  refine g_astL aC16157 q10 q11 hl3 (nfL aC16157) ?_
  replace h := h _ rfl
  refine g_ld (v := rf _) rfl (is_R _) ?_
  refine g_getF (v := 16158) oC13 (hC13_84) rfl (Nat.le_of_ble_eq_true rfl) (Nat.le_of_ble_eq_true rfl) ?_
  refine g_ld (v := cI _) rfl (is_I _) ?_
  refine g_ld (v := rf _) rfl (is_R _) ?_
  refine g_getF (v := 16127) oC13 (hC13_53) rfl (Nat.le_of_ble_eq_true rfl) (Nat.le_of_ble_eq_true rfl) ?_
  refine g_ld (v := cI _) rfl (is_I _) ?_
  obtain ⟨q13, q14, h⟩ := h
  refine g_aldL aC16127 q13 q14 rfl fun i15 => ?_
  replace h := h i15
  obtain ⟨q16, q17, h⟩ := h
  refine g_astL aC16158 q16 q17 i15 (nfL aC16158) ?_
  replace h := h _ rfl
  refine g_ld (v := rf _) rfl (is_R _) ?_
  refine g_ld (v := cI _) rfl (is_I _) ?_
  refine g_ld (v := cI _) rfl (is_I _) ?_
  refine g_callV (As := [_, _]) (ci := 13) oC13 (fun _ => rfl) ?_
  refine g_go0 (Nat.le_of_ble_eq_true rfl) (Tn_w (TX13_keepParams hl1 hl2 h) fun _ G19 ⟨e, h⟩ => ⟨e, ?_⟩)
  refine g_ld (v := rf _) rfl (is_R _) ?_
  refine g_getF (v := 16127) oC13 (hC13_53) rfl (Nat.le_of_ble_eq_true rfl) (Nat.le_of_ble_eq_true rfl) ?_
  refine g_ld (v := cI _) rfl (is_I _) ?_
  obtain ⟨q21, q22, h⟩ := h
  refine g_aldL aC16127 q21 q22 rfl fun i23 => ?_
  replace h := h i23
  exact g_ret1 (is_L _) ⟨_, rfl, i23, h⟩
def PX13_means_0 (a1 : Int) (a2 : Int) (a3 : Int) (G : gS) (Q : Int → gS → Prop) : Prop :=
  ((0 : Int) ≤ a2 ∧ ((a2 : Int) < 7344 ∧ ((0 ≤ G 16119 a2 ∧ G 16119 a2 ≤ 1) → ((G 16119 a2 = 0 → PX13_means_19 a1 a2 a3 16156 a1 0 G Q) ∧ (¬ (G 16119 a2 = 0) → PX13_means_19 a1 a2 a3 16156 a1 1 G Q)))))
set_option maxRecDepth 20000 in
theorem TX13_means_0 {a1 : Int} {a2 : Int} {a3 : Int} {G : gS} {Q : Int → gS → Prop} (ha1 : inI a1) (ha2 : inI a2) (ha3 : inL a3) (h : PX13_means_0 a1 a2 a3 G Q) : Tg W0 vX13_means_0 [rf (16081), cI (a1), cI (a2), cL (a3), 7] [] G (fun r G => ∃ v, r = cL v ∧ inL v ∧ Q v G) := by
  unfold PX13_means_0 at h
  unfold vX13_means_0
  refine g_ld (v := rf _) rfl (is_R _) ?_
  refine g_getF (v := 16156) oC13 (hC13_82) rfl (Nat.le_of_ble_eq_true rfl) (Nat.le_of_ble_eq_true rfl) ?_
  refine g_ld (v := cI _) rfl (is_I _) ?_
  refine g_ld (v := rf _) rfl (is_R _) ?_
  refine g_getF (v := 16119) oC13 (hC13_45) rfl (Nat.le_of_ble_eq_true rfl) (Nat.le_of_ble_eq_true rfl) ?_
  refine g_ld (v := cI _) rfl (is_I _) ?_
  obtain ⟨q1, q2, h⟩ := h
  refine g_aldZ aC16119 q1 q2 rfl fun i3 => ?_
  replace h := h i3
  refine g_eq1 ⟨by omega, by omega⟩ (fun b4 => ?_) (fun b4 => ?_)
  · replace h := h.1 b4
    unfold vX13_means_18
    refine g_const (v := cI (0)) rfl ?_
    exact TX13_means_19 ha1 ha2 ha3 (show 7 % 8 ≠ 1 by decide) ha1 ⟨by omega, by omega⟩ h
  · replace h := h.2 b4
    unfold vX13_means_14
    refine g_const (v := cI (1)) rfl ?_
    exact TX13_means_19 ha1 ha2 ha3 (show 7 % 8 ≠ 1 by decide) ha1 ⟨by omega, by omega⟩ h
abbrev PX13_means (a1 : Int) (a2 : Int) (a3 : Int) (G : gS) (Q : Int → gS → Prop) : Prop := PX13_means_0 a1 a2 a3 G Q
theorem TX13_means {a1 : Int} {a2 : Int} {a3 : Int} {G : gS} {Q : Int → gS → Prop} (ha1 : inI a1) (ha2 : inI a2) (ha3 : inL a3) (h : PX13_means a1 a2 a3 G Q) : Tn W0 FX13_means [rf (16081), cI (a1), cI (a2), cL (a3)] G (fun r G => ∃ v, r = cL v ∧ inL v ∧ Q v G) := by
  unfold FX13_means
  refine g_ent (lv' := [rf (16081), cI (a1), cI (a2), cL (a3), 7]) (flR (flI (flI (flL fl0)))) (Nat.le_of_ble_eq_true rfl) rfl ?_
  exact TX13_means_0 ha1 ha2 ha3 h
def PX13_best_98 (J : Nat → List Int → gS → (Int → gS → Prop) → Prop) (l1 : Int) (l2 : Int) (l3 : Int) (G : gS) (Q : Int → gS → Prop) : Prop :=
  ((l2 = 0 → (inI (l1 + 1) ∧ J 0 [l1 + 1] G Q)) ∧ (¬ (l2 = 0) → ((0 : Int) ≤ l1 ∧ ((l1 : Int) < 432 ∧ (inI (G 16176 l1) → Q (G 16176 l1) G)))))
set_option maxRecDepth 20000 in
theorem TX13_best_98 {j : Nat → rx_K} {J : Nat → List Int → gS → (Int → gS → Prop) → Prop} {l1 : Int} {l2 : Int} {l3 : Int} {l4 : Nat} {G : gS} {Q : Int → gS → Prop} (hl1 : inI l1) (hl2 : inI l2) (hl3 : inI l3) (hl4 : l4 % 8 ≠ 1) (hj0 : ∀ (l1 : Int) (l2 : Nat) (l3 : Nat) (l4 : Nat) (G : gS), (inI l1) → (l2 % 8 ≠ 1) → (l3 % 8 ≠ 1) → (l4 % 8 ≠ 1) → J 0 [l1] G Q → Tg W0 (j 0) [rf (16081), cI (l1), l2, l3, l4] [] G (fun r G => ∃ v, r = cI v ∧ inI v ∧ Q v G)) (hj1 : ∀ (l1 : Int) (l2 : Int) (l3 : Int) (l4 : Nat) (G : gS), (inI l1) → (inI l2) → (inI l3) → (l4 % 8 ≠ 1) → J 1 [l1, l2, l3] G Q → Tg W0 (j 1) [rf (16081), cI (l1), cI (l2), cI (l3), l4] [] G (fun r G => ∃ v, r = cI v ∧ inI v ∧ Q v G)) (hj2 : ∀ (l1 : Int) (l2 : Int) (l3 : Int) (l4 : Int) (G : gS), (inI l1) → (inI l2) → (inI l3) → (inI l4) → J 2 [l1, l2, l3, l4] G Q → Tg W0 (j 2) [rf (16081), cI (l1), cI (l2), cI (l3), cI (l4)] [] G (fun r G => ∃ v, r = cI v ∧ inI v ∧ Q v G)) (h : PX13_best_98 J l1 l2 l3 G Q) : Tg W0 (vX13_best_98 j) [rf (16081), cI (l1), cI (l2), cI (l3), l4] [] G (fun r G => ∃ v, r = cI v ∧ inI v ∧ Q v G) := by
  unfold PX13_best_98 at h
  unfold vX13_best_98
  refine g_ld (v := cI _) rfl (is_I _) ?_
  refine g_eq1 hl2 (fun b6 => ?_) (fun b6 => ?_)
  · replace h := h.1 b6
    unfold vX13_best_109
    refine g_inc (lv' := [_, _, _, _, _]) rfl (Nat.le_of_ble_eq_true rfl) (Or.inr (n1_R _)) rfl ?_
    obtain ⟨q7, h⟩ := h
    exact hj0 _ _ _ _ _ q7 (n1_I _) (n1_I _) hl4 h
  · replace h := h.2 b6
    unfold vX13_best_102
    refine g_ld (v := rf _) rfl (is_R _) ?_
    refine g_getF (v := 16176) oC13 (hC13_115) rfl (Nat.le_of_ble_eq_true rfl) (Nat.le_of_ble_eq_true rfl) ?_
    refine g_ld (v := cI _) rfl (is_I _) ?_
    obtain ⟨q8, q9, h⟩ := h
    refine g_aldI aC16176 q8 q9 rfl fun i10 => ?_
    replace h := h i10
    exact g_ret1 (is_I _) ⟨_, rfl, i10, h⟩
def PX13_best_92 (J : Nat → List Int → gS → (Int → gS → Prop) → Prop) (l1 : Int) (l2 : Int) (l3 : Int) (l4 : Int) (G : gS) (Q : Int → gS → Prop) : Prop :=
  (inI (l3 + 1) ∧ J 1 [l1, l2, l3 + 1] G Q)
set_option maxRecDepth 20000 in
theorem TX13_best_92 {j : Nat → rx_K} {J : Nat → List Int → gS → (Int → gS → Prop) → Prop} {l1 : Int} {l2 : Int} {l3 : Int} {l4 : Int} {G : gS} {Q : Int → gS → Prop} (hl1 : inI l1) (hl2 : inI l2) (hl3 : inI l3) (hl4 : inI l4) (hj0 : ∀ (l1 : Int) (l2 : Nat) (l3 : Nat) (l4 : Nat) (G : gS), (inI l1) → (l2 % 8 ≠ 1) → (l3 % 8 ≠ 1) → (l4 % 8 ≠ 1) → J 0 [l1] G Q → Tg W0 (j 0) [rf (16081), cI (l1), l2, l3, l4] [] G (fun r G => ∃ v, r = cI v ∧ inI v ∧ Q v G)) (hj1 : ∀ (l1 : Int) (l2 : Int) (l3 : Int) (l4 : Nat) (G : gS), (inI l1) → (inI l2) → (inI l3) → (l4 % 8 ≠ 1) → J 1 [l1, l2, l3] G Q → Tg W0 (j 1) [rf (16081), cI (l1), cI (l2), cI (l3), l4] [] G (fun r G => ∃ v, r = cI v ∧ inI v ∧ Q v G)) (hj2 : ∀ (l1 : Int) (l2 : Int) (l3 : Int) (l4 : Int) (G : gS), (inI l1) → (inI l2) → (inI l3) → (inI l4) → J 2 [l1, l2, l3, l4] G Q → Tg W0 (j 2) [rf (16081), cI (l1), cI (l2), cI (l3), cI (l4)] [] G (fun r G => ∃ v, r = cI v ∧ inI v ∧ Q v G)) (h : PX13_best_92 J l1 l2 l3 l4 G Q) : Tg W0 (vX13_best_92 j) [rf (16081), cI (l1), cI (l2), cI (l3), cI (l4)] [] G (fun r G => ∃ v, r = cI v ∧ inI v ∧ Q v G) := by
  unfold PX13_best_92 at h
  unfold vX13_best_92
  refine g_inc (lv' := [_, _, _, _, _]) rfl (Nat.le_of_ble_eq_true rfl) (Or.inr (n1_I _)) rfl ?_
  obtain ⟨q35, h⟩ := h
  exact hj1 _ _ _ _ _ hl1 hl2 q35 (n1_I _) h
def PX13_best_29 (J : Nat → List Int → gS → (Int → gS → Prop) → Prop) (l1 : Int) (l2 : Int) (l3 : Int) (l4 : Int) (G : gS) (Q : Int → gS → Prop) : Prop :=
  ((0 : Int) ≤ l1 ∧ ((l1 : Int) < 432 ∧ (inI (G 16176 l1) → ((0 : Int) ≤ G 16176 l1 ∧ ((G 16176 l1 : Int) < 7344 ∧ (inI (G 16129 (G 16176 l1)) → ((l4 < G 16129 (G 16176 l1) → ((l2 = 0 → PX13_best_92 J l1 l2 l3 l4 G Q) ∧ (¬ (l2 = 0) → ((0 : Int) ≤ l1 ∧ ((l1 : Int) < 432 ∧ (inI (G 16176 l1) → ((0 : Int) ≤ (4 * (G 16176 l1)) + l4 ∧ (((4 * (G 16176 l1)) + l4 : Int) < 29376 ∧ (inL (G 16130 ((4 * (G 16176 l1)) + l4)) → ((0 : Int) ≤ l3 ∧ ((l3 : Int) < 432 ∧ (inI (G 16176 l3) → ((0 : Int) ≤ (4 * (G 16176 l3)) + l4 ∧ (((4 * (G 16176 l3)) + l4 : Int) < 29376 ∧ (inL (G 16130 ((4 * (G 16176 l3)) + l4)) → PX13_fits (G 16130 ((4 * (G 16176 l1)) + l4)) (G 16130 ((4 * (G 16176 l3)) + l4)) G (fun r32 G31 => (0 ≤ r32 ∧ r32 ≤ 1) → (inI (l4 + 1) ∧ J 2 [l1, r32, l3, l4 + 1] G31 Q))))))))))))))))) ∧ (¬ (l4 < G 16129 (G 16176 l1)) → PX13_best_92 J l1 l2 l3 l4 G Q))))))))
set_option maxRecDepth 20000 in
theorem TX13_best_29 {j : Nat → rx_K} {J : Nat → List Int → gS → (Int → gS → Prop) → Prop} {l1 : Int} {l2 : Int} {l3 : Int} {l4 : Int} {G : gS} {Q : Int → gS → Prop} (hl1 : inI l1) (hl2 : inI l2) (hl3 : inI l3) (hl4 : inI l4) (hj0 : ∀ (l1 : Int) (l2 : Nat) (l3 : Nat) (l4 : Nat) (G : gS), (inI l1) → (l2 % 8 ≠ 1) → (l3 % 8 ≠ 1) → (l4 % 8 ≠ 1) → J 0 [l1] G Q → Tg W0 (j 0) [rf (16081), cI (l1), l2, l3, l4] [] G (fun r G => ∃ v, r = cI v ∧ inI v ∧ Q v G)) (hj1 : ∀ (l1 : Int) (l2 : Int) (l3 : Int) (l4 : Nat) (G : gS), (inI l1) → (inI l2) → (inI l3) → (l4 % 8 ≠ 1) → J 1 [l1, l2, l3] G Q → Tg W0 (j 1) [rf (16081), cI (l1), cI (l2), cI (l3), l4] [] G (fun r G => ∃ v, r = cI v ∧ inI v ∧ Q v G)) (hj2 : ∀ (l1 : Int) (l2 : Int) (l3 : Int) (l4 : Int) (G : gS), (inI l1) → (inI l2) → (inI l3) → (inI l4) → J 2 [l1, l2, l3, l4] G Q → Tg W0 (j 2) [rf (16081), cI (l1), cI (l2), cI (l3), cI (l4)] [] G (fun r G => ∃ v, r = cI v ∧ inI v ∧ Q v G)) (h : PX13_best_29 J l1 l2 l3 l4 G Q) : Tg W0 (vX13_best_29 j) [rf (16081), cI (l1), cI (l2), cI (l3), cI (l4)] [] G (fun r G => ∃ v, r = cI v ∧ inI v ∧ Q v G) := by
  unfold PX13_best_29 at h
  unfold vX13_best_29
  refine g_ld (v := cI _) rfl (is_I _) ?_
  refine g_ld (v := rf _) rfl (is_R _) ?_
  refine g_getF (v := 16129) oC13 (hC13_55) rfl (Nat.le_of_ble_eq_true rfl) (Nat.le_of_ble_eq_true rfl) ?_
  refine g_ld (v := rf _) rfl (is_R _) ?_
  refine g_getF (v := 16176) oC13 (hC13_115) rfl (Nat.le_of_ble_eq_true rfl) (Nat.le_of_ble_eq_true rfl) ?_
  refine g_ld (v := cI _) rfl (is_I _) ?_
  obtain ⟨q11, q12, h⟩ := h
  refine g_aldI aC16176 q11 q12 rfl fun i13 => ?_
  replace h := h i13
  obtain ⟨q14, q15, h⟩ := h
  refine g_aldI aC16129 q14 q15 rfl fun i16 => ?_
  replace h := h i16
  refine g_lt2 hl4 i16 (fun b17 => ?_) (fun b17 => ?_)
  · replace h := h.1 b17
    unfold vX13_best_45
    refine g_ld (v := cI _) rfl (is_I _) ?_
    refine g_eq1 hl2 (fun b18 => ?_) (fun b18 => ?_)
    · replace h := h.1 b18
      exact TX13_best_92 hl1 hl2 hl3 hl4 hj0 hj1 hj2 h
    · replace h := h.2 b18
      unfold vX13_best_49
      refine g_ld (v := rf _) rfl (is_R _) ?_
      refine g_ld (v := rf _) rfl (is_R _) ?_
      refine g_getF (v := 16130) oC13 (hC13_56) rfl (Nat.le_of_ble_eq_true rfl) (Nat.le_of_ble_eq_true rfl) ?_
      refine g_const (v := cI (4)) rfl ?_
      refine g_ld (v := rf _) rfl (is_R _) ?_
      refine g_getF (v := 16176) oC13 (hC13_115) rfl (Nat.le_of_ble_eq_true rfl) (Nat.le_of_ble_eq_true rfl) ?_
      refine g_ld (v := cI _) rfl (is_I _) ?_
      obtain ⟨q19, q20, h⟩ := h
      refine g_aldI aC16176 q19 q20 rfl fun i21 => ?_
      replace h := h i21
      refine g_mul ?_
      refine g_ld (v := cI _) rfl (is_I _) ?_
      refine g_add ?_
      obtain ⟨q22, q23, h⟩ := h
      refine g_aldL aC16130 q22 q23 rfl fun i24 => ?_
      replace h := h i24
      refine g_ld (v := rf _) rfl (is_R _) ?_
      refine g_getF (v := 16130) oC13 (hC13_56) rfl (Nat.le_of_ble_eq_true rfl) (Nat.le_of_ble_eq_true rfl) ?_
      refine g_const (v := cI (4)) rfl ?_
      refine g_ld (v := rf _) rfl (is_R _) ?_
      refine g_getF (v := 16176) oC13 (hC13_115) rfl (Nat.le_of_ble_eq_true rfl) (Nat.le_of_ble_eq_true rfl) ?_
      refine g_ld (v := cI _) rfl (is_I _) ?_
      obtain ⟨q25, q26, h⟩ := h
      refine g_aldI aC16176 q25 q26 rfl fun i27 => ?_
      replace h := h i27
      refine g_mul ?_
      refine g_ld (v := cI _) rfl (is_I _) ?_
      refine g_add ?_
      obtain ⟨q28, q29, h⟩ := h
      refine g_aldL aC16130 q28 q29 rfl fun i30 => ?_
      replace h := h i30
      refine g_callV (As := [_, _]) (ci := 13) oC13 (fun _ => rfl) ?_
      refine g_go1 (Nat.le_of_ble_eq_true rfl) (Tn_w (TX13_fits i24 i30 h) fun _ G31 ⟨r32, e, i33, h⟩ => ?_)
      subst e
      refine ⟨n7_I _, ?_⟩
      replace h := h i33
      unfold vX13_best_85
      refine g_st (lv' := [_, _, _, _, _]) (is_I _) (Nat.le_of_ble_eq_true rfl) (Or.inr (n1_I _)) rfl ?_
      refine g_inc (lv' := [_, _, _, _, _]) rfl (Nat.le_of_ble_eq_true rfl) (Or.inr (n1_I _)) rfl ?_
      obtain ⟨q34, h⟩ := h
      exact hj2 _ _ _ _ _ hl1 ⟨by omega, by omega⟩ hl3 q34 h
  · replace h := h.2 b17
    exact TX13_best_92 hl1 hl2 hl3 hl4 hj0 hj1 hj2 h
def PX13_best_14 (J : Nat → List Int → gS → (Int → gS → Prop) → Prop) (l1 : Int) (l2 : Int) (l3 : Int) (G : gS) (Q : Int → gS → Prop) : Prop :=
  (inI (G 16081 116) → ((l3 < G 16081 116 → ((l2 = 0 → PX13_best_98 J l1 l2 l3 G Q) ∧ (¬ (l2 = 0) → PX13_best_29 J l1 l2 l3 0 G Q))) ∧ (¬ (l3 < G 16081 116) → PX13_best_98 J l1 l2 l3 G Q)))
set_option maxRecDepth 20000 in
theorem TX13_best_14 {j : Nat → rx_K} {J : Nat → List Int → gS → (Int → gS → Prop) → Prop} {l1 : Int} {l2 : Int} {l3 : Int} {l4 : Nat} {G : gS} {Q : Int → gS → Prop} (hl1 : inI l1) (hl2 : inI l2) (hl3 : inI l3) (hl4 : l4 % 8 ≠ 1) (hj0 : ∀ (l1 : Int) (l2 : Nat) (l3 : Nat) (l4 : Nat) (G : gS), (inI l1) → (l2 % 8 ≠ 1) → (l3 % 8 ≠ 1) → (l4 % 8 ≠ 1) → J 0 [l1] G Q → Tg W0 (j 0) [rf (16081), cI (l1), l2, l3, l4] [] G (fun r G => ∃ v, r = cI v ∧ inI v ∧ Q v G)) (hj1 : ∀ (l1 : Int) (l2 : Int) (l3 : Int) (l4 : Nat) (G : gS), (inI l1) → (inI l2) → (inI l3) → (l4 % 8 ≠ 1) → J 1 [l1, l2, l3] G Q → Tg W0 (j 1) [rf (16081), cI (l1), cI (l2), cI (l3), l4] [] G (fun r G => ∃ v, r = cI v ∧ inI v ∧ Q v G)) (hj2 : ∀ (l1 : Int) (l2 : Int) (l3 : Int) (l4 : Int) (G : gS), (inI l1) → (inI l2) → (inI l3) → (inI l4) → J 2 [l1, l2, l3, l4] G Q → Tg W0 (j 2) [rf (16081), cI (l1), cI (l2), cI (l3), cI (l4)] [] G (fun r G => ∃ v, r = cI v ∧ inI v ∧ Q v G)) (h : PX13_best_14 J l1 l2 l3 G Q) : Tg W0 (vX13_best_14 j) [rf (16081), cI (l1), cI (l2), cI (l3), l4] [] G (fun r G => ∃ v, r = cI v ∧ inI v ∧ Q v G) := by
  unfold PX13_best_14 at h
  unfold vX13_best_14
  refine g_ld (v := cI _) rfl (is_I _) ?_
  refine g_ld (v := rf _) rfl (is_R _) ?_
  refine g_getI (kz := 116) oC13 rfl (Nat.le_of_ble_eq_true rfl) rfl fun i3 => ?_
  replace h := h i3
  refine g_lt2 hl3 i3 (fun b4 => ?_) (fun b4 => ?_)
  · replace h := h.1 b4
    unfold vX13_best_22
    refine g_ld (v := cI _) rfl (is_I _) ?_
    refine g_eq1 hl2 (fun b5 => ?_) (fun b5 => ?_)
    · replace h := h.1 b5
      exact TX13_best_98 hl1 hl2 hl3 hl4 hj0 hj1 hj2 h
    · replace h := h.2 b5
      unfold vX13_best_26
      refine g_const (v := cI (0)) rfl ?_
      refine g_st (lv' := [_, _, _, _, _]) (is_I _) (Nat.le_of_ble_eq_true rfl) (Or.inr (n1_I _)) rfl ?_
      exact TX13_best_29 hl1 hl2 hl3 ⟨by omega, by omega⟩ hj0 hj1 hj2 h
  · replace h := h.2 b4
    exact TX13_best_98 hl1 hl2 hl3 hl4 hj0 hj1 hj2 h
def PX13_best_2 (J : Nat → List Int → gS → (Int → gS → Prop) → Prop) (l1 : Int) (G : gS) (Q : Int → gS → Prop) : Prop :=
  (inI (G 16081 116) → ((l1 < G 16081 116 → PX13_best_14 J l1 1 0 G Q) ∧ (¬ (l1 < G 16081 116) → Q (-2) G)))
set_option maxRecDepth 20000 in
theorem TX13_best_2 {j : Nat → rx_K} {J : Nat → List Int → gS → (Int → gS → Prop) → Prop} {l1 : Int} {l2 : Nat} {l3 : Nat} {l4 : Nat} {G : gS} {Q : Int → gS → Prop} (hl1 : inI l1) (hl2 : l2 % 8 ≠ 1) (hl3 : l3 % 8 ≠ 1) (hl4 : l4 % 8 ≠ 1) (hj0 : ∀ (l1 : Int) (l2 : Nat) (l3 : Nat) (l4 : Nat) (G : gS), (inI l1) → (l2 % 8 ≠ 1) → (l3 % 8 ≠ 1) → (l4 % 8 ≠ 1) → J 0 [l1] G Q → Tg W0 (j 0) [rf (16081), cI (l1), l2, l3, l4] [] G (fun r G => ∃ v, r = cI v ∧ inI v ∧ Q v G)) (hj1 : ∀ (l1 : Int) (l2 : Int) (l3 : Int) (l4 : Nat) (G : gS), (inI l1) → (inI l2) → (inI l3) → (l4 % 8 ≠ 1) → J 1 [l1, l2, l3] G Q → Tg W0 (j 1) [rf (16081), cI (l1), cI (l2), cI (l3), l4] [] G (fun r G => ∃ v, r = cI v ∧ inI v ∧ Q v G)) (hj2 : ∀ (l1 : Int) (l2 : Int) (l3 : Int) (l4 : Int) (G : gS), (inI l1) → (inI l2) → (inI l3) → (inI l4) → J 2 [l1, l2, l3, l4] G Q → Tg W0 (j 2) [rf (16081), cI (l1), cI (l2), cI (l3), cI (l4)] [] G (fun r G => ∃ v, r = cI v ∧ inI v ∧ Q v G)) (h : PX13_best_2 J l1 G Q) : Tg W0 (vX13_best_2 j) [rf (16081), cI (l1), l2, l3, l4] [] G (fun r G => ∃ v, r = cI v ∧ inI v ∧ Q v G) := by
  unfold PX13_best_2 at h
  unfold vX13_best_2
  refine g_ld (v := cI _) rfl (is_I _) ?_
  refine g_ld (v := rf _) rfl (is_R _) ?_
  refine g_getI (kz := 116) oC13 rfl (Nat.le_of_ble_eq_true rfl) rfl fun i1 => ?_
  replace h := h i1
  refine g_lt2 hl1 i1 (fun b2 => ?_) (fun b2 => ?_)
  · replace h := h.1 b2
    unfold vX13_best_10
    refine g_const (v := cI (1)) rfl ?_
    refine g_st (lv' := [_, _, _, _, _]) (is_I _) (Nat.le_of_ble_eq_true rfl) (Or.inr (n1_I _)) rfl ?_
    refine g_const (v := cI (0)) rfl ?_
    refine g_st (lv' := [_, _, _, _, _]) (is_I _) (Nat.le_of_ble_eq_true rfl) (Or.inr (n1_I _)) rfl ?_
    exact TX13_best_14 hl1 ⟨by omega, by omega⟩ ⟨by omega, by omega⟩ hl4 hj0 hj1 hj2 h
  · replace h := h.2 b2
    unfold vX13_best_115
    refine g_const (v := cI (-2)) rfl ?_
    exact g_ret1 (is_I _) ⟨_, rfl, ⟨by omega, by omega⟩, h⟩
def PX13_best_0 (J : Nat → List Int → gS → (Int → gS → Prop) → Prop)  (G : gS) (Q : Int → gS → Prop) : Prop :=
  PX13_best_2 J 0 G Q
set_option maxRecDepth 20000 in
theorem TX13_best_0 {j : Nat → rx_K} {J : Nat → List Int → gS → (Int → gS → Prop) → Prop}  {G : gS} {Q : Int → gS → Prop}  (hj0 : ∀ (l1 : Int) (l2 : Nat) (l3 : Nat) (l4 : Nat) (G : gS), (inI l1) → (l2 % 8 ≠ 1) → (l3 % 8 ≠ 1) → (l4 % 8 ≠ 1) → J 0 [l1] G Q → Tg W0 (j 0) [rf (16081), cI (l1), l2, l3, l4] [] G (fun r G => ∃ v, r = cI v ∧ inI v ∧ Q v G)) (hj1 : ∀ (l1 : Int) (l2 : Int) (l3 : Int) (l4 : Nat) (G : gS), (inI l1) → (inI l2) → (inI l3) → (l4 % 8 ≠ 1) → J 1 [l1, l2, l3] G Q → Tg W0 (j 1) [rf (16081), cI (l1), cI (l2), cI (l3), l4] [] G (fun r G => ∃ v, r = cI v ∧ inI v ∧ Q v G)) (hj2 : ∀ (l1 : Int) (l2 : Int) (l3 : Int) (l4 : Int) (G : gS), (inI l1) → (inI l2) → (inI l3) → (inI l4) → J 2 [l1, l2, l3, l4] G Q → Tg W0 (j 2) [rf (16081), cI (l1), cI (l2), cI (l3), cI (l4)] [] G (fun r G => ∃ v, r = cI v ∧ inI v ∧ Q v G)) (h : PX13_best_0 J  G Q) : Tg W0 (vX13_best_0 j) [rf (16081), 7, 7, 7, 7] [] G (fun r G => ∃ v, r = cI v ∧ inI v ∧ Q v G) := by
  unfold PX13_best_0 at h
  unfold vX13_best_0
  refine g_const (v := cI (0)) rfl ?_
  refine g_st (lv' := [_, _, _, _, _]) (is_I _) (Nat.le_of_ble_eq_true rfl) (Or.inr (n1_R _)) rfl ?_
  exact TX13_best_2 ⟨by omega, by omega⟩ (show 7 % 8 ≠ 1 by decide) (show 7 % 8 ≠ 1 by decide) (show 7 % 8 ≠ 1 by decide) hj0 hj1 hj2 h
def PX13_best_J : Nat → Nat → List Int → gS → (Int → gS → Prop) → Prop
  | 0, _, _, _, _ => False
  | f + 1, h, L, G, Q => match h, L with
    | 0, [l1] => PX13_best_2 (PX13_best_J f) l1 G Q
    | 1, [l1, l2, l3] => PX13_best_14 (PX13_best_J f) l1 l2 l3 G Q
    | 2, [l1, l2, l3, l4] => PX13_best_29 (PX13_best_J f) l1 l2 l3 l4 G Q
    | _, _ => False
theorem TX13_best_J {Q : Int → gS → Prop} : ∀ f N : Nat, f ≤ N → (∀ (l1 : Int) (l2 : Nat) (l3 : Nat) (l4 : Nat) (G : gS), (inI l1) → (l2 % 8 ≠ 1) → (l3 % 8 ≠ 1) → (l4 % 8 ≠ 1) → (PX13_best_J f) 0 [l1] G Q → Tg W0 (rx_J vhX13_best N 0) [rf (16081), cI (l1), l2, l3, l4] [] G (fun r G => ∃ v, r = cI v ∧ inI v ∧ Q v G)) ∧ (∀ (l1 : Int) (l2 : Int) (l3 : Int) (l4 : Nat) (G : gS), (inI l1) → (inI l2) → (inI l3) → (l4 % 8 ≠ 1) → (PX13_best_J f) 1 [l1, l2, l3] G Q → Tg W0 (rx_J vhX13_best N 1) [rf (16081), cI (l1), cI (l2), cI (l3), l4] [] G (fun r G => ∃ v, r = cI v ∧ inI v ∧ Q v G)) ∧ (∀ (l1 : Int) (l2 : Int) (l3 : Int) (l4 : Int) (G : gS), (inI l1) → (inI l2) → (inI l3) → (inI l4) → (PX13_best_J f) 2 [l1, l2, l3, l4] G Q → Tg W0 (rx_J vhX13_best N 2) [rf (16081), cI (l1), cI (l2), cI (l3), cI (l4)] [] G (fun r G => ∃ v, r = cI v ∧ inI v ∧ Q v G)) := by
  intro f
  induction f with
  | zero => exact fun N _ => ⟨fun _ _ _ _ _ _ _ _ _ h => h.elim, fun _ _ _ _ _ _ _ _ _ h => h.elim, fun _ _ _ _ _ _ _ _ _ h => h.elim⟩
  | succ f ih =>
    intro N hN
    obtain ⟨M, rfl⟩ : ∃ M, N = M + 1 := ⟨N - 1, by omega⟩
    have ih := ih M (by omega)
    exact ⟨fun _ _ _ _ _ hl1 hl2 hl3 hl4 h => show Tg W0 (vX13_best_2 (rx_J vhX13_best M)) _ _ _ _ from TX13_best_2 hl1 hl2 hl3 hl4 ih.1 ih.2.1 ih.2.2 h, fun _ _ _ _ _ hl1 hl2 hl3 hl4 h => show Tg W0 (vX13_best_14 (rx_J vhX13_best M)) _ _ _ _ from TX13_best_14 hl1 hl2 hl3 hl4 ih.1 ih.2.1 ih.2.2 h, fun _ _ _ _ _ hl1 hl2 hl3 hl4 h => show Tg W0 (vX13_best_29 (rx_J vhX13_best M)) _ _ _ _ from TX13_best_29 hl1 hl2 hl3 hl4 ih.1 ih.2.1 ih.2.2 h⟩
def PX13_best  (G : gS) (Q : Int → gS → Prop) : Prop := ∃ f : Nat, f ≤ 4000000000 ∧ PX13_best_0 (PX13_best_J f)  G Q
theorem TX13_best  {G : gS} {Q : Int → gS → Prop}  (h : PX13_best  G Q) : Tn W0 FX13_best [rf (16081)] G (fun r G => ∃ v, r = cI v ∧ inI v ∧ Q v G) := by
  obtain ⟨f, hf, h⟩ := h
  have hJ := TX13_best_J (Q := Q) f 4000000000 hf
  unfold FX13_best
  refine g_ent (lv' := [rf (16081), 7, 7, 7, 7]) (flR fl0) (Nat.le_of_ble_eq_true rfl) rfl ?_
  exact TX13_best_0  hJ.1 hJ.2.1 hJ.2.2 h
def PX13_takesArgs_105 (J : Nat → List Int → gS → (Int → gS → Prop) → Prop) (l1 : Int) (l2 : Int) (l3 : Int) (l4 : Int) (l5 : Int) (s0 : Int) (G : gS) (Q : Int → gS → Prop) : Prop :=
  ((0 ≤ s0 ∧ s0 ≤ 1) ∧ Q (s0) G)
set_option maxRecDepth 20000 in
theorem TX13_takesArgs_105 {j : Nat → rx_K} {J : Nat → List Int → gS → (Int → gS → Prop) → Prop} {l1 : Int} {l2 : Int} {l3 : Int} {l4 : Int} {l5 : Int} {s0 : Int} {G : gS} {Q : Int → gS → Prop} (hl1 : inI l1) (hl2 : inI l2) (hl3 : inI l3) (hl4 : inI l4) (hl5 : inI l5) (hs0 : inI s0) (hj0 : ∀ (l1 : Int) (l2 : Int) (l3 : Int) (l4 : Int) (l5 : Int) (G : gS), (inI l1) → (inI l2) → (inI l3) → (inI l4) → (inI l5) → J 0 [l1, l2, l3, l4, l5] G Q → Tg W0 (j 0) [rf (16081), cI (l1), cI (l2), cI (l3), cI (l4), cI (l5)] [] G (fun r G => ∃ v, r = cI v ∧ (0 ≤ v ∧ v ≤ 1) ∧ Q v G)) (h : PX13_takesArgs_105 J l1 l2 l3 l4 l5 s0 G Q) : Tg W0 (vX13_takesArgs_105 j) [rf (16081), cI (l1), cI (l2), cI (l3), cI (l4), cI (l5)] [cI (s0)] G (fun r G => ∃ v, r = cI v ∧ (0 ≤ v ∧ v ≤ 1) ∧ Q v G) := by
  unfold PX13_takesArgs_105 at h
  unfold vX13_takesArgs_105
  obtain ⟨q18, h⟩ := h
  exact g_ret1 (is_Z q18) ⟨_, rfl, q18, h⟩
def PX13_takesArgs_104 (J : Nat → List Int → gS → (Int → gS → Prop) → Prop) (l1 : Int) (l2 : Int) (l3 : Int) (l4 : Int) (l5 : Int) (G : gS) (Q : Int → gS → Prop) : Prop :=
  PX13_takesArgs_105 J l1 l2 l3 l4 l5 0 G Q
set_option maxRecDepth 20000 in
theorem TX13_takesArgs_104 {j : Nat → rx_K} {J : Nat → List Int → gS → (Int → gS → Prop) → Prop} {l1 : Int} {l2 : Int} {l3 : Int} {l4 : Int} {l5 : Int} {G : gS} {Q : Int → gS → Prop} (hl1 : inI l1) (hl2 : inI l2) (hl3 : inI l3) (hl4 : inI l4) (hl5 : inI l5) (hj0 : ∀ (l1 : Int) (l2 : Int) (l3 : Int) (l4 : Int) (l5 : Int) (G : gS), (inI l1) → (inI l2) → (inI l3) → (inI l4) → (inI l5) → J 0 [l1, l2, l3, l4, l5] G Q → Tg W0 (j 0) [rf (16081), cI (l1), cI (l2), cI (l3), cI (l4), cI (l5)] [] G (fun r G => ∃ v, r = cI v ∧ (0 ≤ v ∧ v ≤ 1) ∧ Q v G)) (h : PX13_takesArgs_104 J l1 l2 l3 l4 l5 G Q) : Tg W0 (vX13_takesArgs_104 j) [rf (16081), cI (l1), cI (l2), cI (l3), cI (l4), cI (l5)] [] G (fun r G => ∃ v, r = cI v ∧ (0 ≤ v ∧ v ≤ 1) ∧ Q v G) := by
  unfold PX13_takesArgs_104 at h
  unfold vX13_takesArgs_104
  refine g_const (v := cI (0)) rfl ?_
  exact TX13_takesArgs_105 hl1 hl2 hl3 hl4 hl5 ⟨by omega, by omega⟩ hj0 h
def PX13_takesArgs_68 (J : Nat → List Int → gS → (Int → gS → Prop) → Prop) (l1 : Int) (l2 : Int) (l3 : Int) (l4 : Int) (l5 : Int) (s0 : Int) (G : gS) (Q : Int → gS → Prop) : Prop :=
  (inI (l3 + 1) ∧ ((0 : Int) ≤ l5 ∧ ((l5 : Int) < 30600 ∧ (inI (G 16154 l5) → J 0 [l1, l2, l3 + 1, s0, G 16154 l5] G Q))))
set_option maxRecDepth 20000 in
theorem TX13_takesArgs_68 {j : Nat → rx_K} {J : Nat → List Int → gS → (Int → gS → Prop) → Prop} {l1 : Int} {l2 : Int} {l3 : Int} {l4 : Int} {l5 : Int} {s0 : Int} {G : gS} {Q : Int → gS → Prop} (hl1 : inI l1) (hl2 : inI l2) (hl3 : inI l3) (hl4 : inI l4) (hl5 : inI l5) (hs0 : inI s0) (hj0 : ∀ (l1 : Int) (l2 : Int) (l3 : Int) (l4 : Int) (l5 : Int) (G : gS), (inI l1) → (inI l2) → (inI l3) → (inI l4) → (inI l5) → J 0 [l1, l2, l3, l4, l5] G Q → Tg W0 (j 0) [rf (16081), cI (l1), cI (l2), cI (l3), cI (l4), cI (l5)] [] G (fun r G => ∃ v, r = cI v ∧ (0 ≤ v ∧ v ≤ 1) ∧ Q v G)) (h : PX13_takesArgs_68 J l1 l2 l3 l4 l5 s0 G Q) : Tg W0 (vX13_takesArgs_68 j) [rf (16081), cI (l1), cI (l2), cI (l3), cI (l4), cI (l5)] [cI (s0)] G (fun r G => ∃ v, r = cI v ∧ (0 ≤ v ∧ v ≤ 1) ∧ Q v G) := by
  unfold PX13_takesArgs_68 at h
  unfold vX13_takesArgs_68
  refine g_st (lv' := [_, _, _, _, _, _]) (is_I _) (Nat.le_of_ble_eq_true rfl) (Or.inr (n1_I _)) rfl ?_
  refine g_inc (lv' := [_, _, _, _, _, _]) rfl (Nat.le_of_ble_eq_true rfl) (Or.inr (n1_I _)) rfl ?_
  obtain ⟨q29, h⟩ := h
  refine g_ld (v := rf _) rfl (is_R _) ?_
  refine g_getF (v := 16154) oC13 (hC13_80) rfl (Nat.le_of_ble_eq_true rfl) (Nat.le_of_ble_eq_true rfl) ?_
  refine g_ld (v := cI _) rfl (is_I _) ?_
  obtain ⟨q30, q31, h⟩ := h
  refine g_aldI aC16154 q30 q31 rfl fun i32 => ?_
  replace h := h i32
  refine g_st (lv' := [_, _, _, _, _, _]) (is_I _) (Nat.le_of_ble_eq_true rfl) (Or.inr (n1_I _)) rfl ?_
  exact hj0 _ _ _ _ _ _ hl1 hl2 q29 hs0 i32 h
def PX13_takesArgs_67 (J : Nat → List Int → gS → (Int → gS → Prop) → Prop) (l1 : Int) (l2 : Int) (l3 : Int) (l4 : Int) (l5 : Int) (G : gS) (Q : Int → gS → Prop) : Prop :=
  PX13_takesArgs_68 J l1 l2 l3 l4 l5 0 G Q
set_option maxRecDepth 20000 in
theorem TX13_takesArgs_67 {j : Nat → rx_K} {J : Nat → List Int → gS → (Int → gS → Prop) → Prop} {l1 : Int} {l2 : Int} {l3 : Int} {l4 : Int} {l5 : Int} {G : gS} {Q : Int → gS → Prop} (hl1 : inI l1) (hl2 : inI l2) (hl3 : inI l3) (hl4 : inI l4) (hl5 : inI l5) (hj0 : ∀ (l1 : Int) (l2 : Int) (l3 : Int) (l4 : Int) (l5 : Int) (G : gS), (inI l1) → (inI l2) → (inI l3) → (inI l4) → (inI l5) → J 0 [l1, l2, l3, l4, l5] G Q → Tg W0 (j 0) [rf (16081), cI (l1), cI (l2), cI (l3), cI (l4), cI (l5)] [] G (fun r G => ∃ v, r = cI v ∧ (0 ≤ v ∧ v ≤ 1) ∧ Q v G)) (h : PX13_takesArgs_67 J l1 l2 l3 l4 l5 G Q) : Tg W0 (vX13_takesArgs_67 j) [rf (16081), cI (l1), cI (l2), cI (l3), cI (l4), cI (l5)] [] G (fun r G => ∃ v, r = cI v ∧ (0 ≤ v ∧ v ≤ 1) ∧ Q v G) := by
  unfold PX13_takesArgs_67 at h
  unfold vX13_takesArgs_67
  refine g_const (v := cI (0)) rfl ?_
  exact TX13_takesArgs_68 hl1 hl2 hl3 hl4 hl5 ⟨by omega, by omega⟩ hj0 h
def PX13_takesArgs_55 (J : Nat → List Int → gS → (Int → gS → Prop) → Prop) (l1 : Int) (l2 : Int) (l3 : Int) (l4 : Int) (l5 : Int) (s0 : Int) (s1 : Int) (s2 : Int) (s3 : Int) (s4 : Int) (G : gS) (Q : Int → gS → Prop) : Prop :=
  (∃ n19, isA W0 1 n19 (s2) ∧ ((0 : Int) ≤ s3 + s4 ∧ ((s3 + s4 : Int) < n19 ∧ (inL (G s2 (s3 + s4)) → (isO W0 13 (s0) ∧ PX13_fits s1 (G s2 (s3 + s4)) G (fun r26 G25 => (0 ≤ r26 ∧ r26 ≤ 1) → ((r26 = 0 → PX13_takesArgs_67 J l1 l2 l3 l4 l5 G25 Q) ∧ (¬ (r26 = 0) → PX13_takesArgs_68 J l1 l2 l3 l4 l5 1 G25 Q))))))))
set_option maxRecDepth 20000 in
theorem TX13_takesArgs_55 {j : Nat → rx_K} {J : Nat → List Int → gS → (Int → gS → Prop) → Prop} {l1 : Int} {l2 : Int} {l3 : Int} {l4 : Int} {l5 : Int} {s0 : Int} {s1 : Int} {s2 : Int} {s3 : Int} {s4 : Int} {G : gS} {Q : Int → gS → Prop} (hl1 : inI l1) (hl2 : inI l2) (hl3 : inI l3) (hl4 : inI l4) (hl5 : inI l5) (hs1 : inL s1) (hs3 : inI s3) (hs4 : inI s4) (hj0 : ∀ (l1 : Int) (l2 : Int) (l3 : Int) (l4 : Int) (l5 : Int) (G : gS), (inI l1) → (inI l2) → (inI l3) → (inI l4) → (inI l5) → J 0 [l1, l2, l3, l4, l5] G Q → Tg W0 (j 0) [rf (16081), cI (l1), cI (l2), cI (l3), cI (l4), cI (l5)] [] G (fun r G => ∃ v, r = cI v ∧ (0 ≤ v ∧ v ≤ 1) ∧ Q v G)) (h : PX13_takesArgs_55 J l1 l2 l3 l4 l5 s0 s1 s2 s3 s4 G Q) : Tg W0 (vX13_takesArgs_55 j) [rf (16081), cI (l1), cI (l2), cI (l3), cI (l4), cI (l5)] [cI (s4), cI (s3), rf (s2), cL (s1), rf (s0)] G (fun r G => ∃ v, r = cI v ∧ (0 ≤ v ∧ v ≤ 1) ∧ Q v G) := by
  unfold PX13_takesArgs_55 at h
  unfold vX13_takesArgs_55
  refine g_add ?_
  obtain ⟨n19, q20, h⟩ := h
  obtain ⟨q21, q22, h⟩ := h
  refine g_aldL q20 q21 q22 rfl fun i23 => ?_
  replace h := h i23
  obtain ⟨q24, h⟩ := h
  refine g_callV (As := [_, _]) (ci := 13) q24 (fun _ => rfl) ?_
  refine g_go1 (Nat.le_of_ble_eq_true rfl) (Tn_w (Tn_eq (one13 q24) (TX13_fits hs1 i23 h)) fun _ G25 ⟨r26, e, i27, h⟩ => ?_)
  subst e
  refine ⟨n7_I _, ?_⟩
  replace h := h i27
  refine g_eq1 ⟨by omega, by omega⟩ (fun b28 => ?_) (fun b28 => ?_)
  · replace h := h.1 b28
    exact TX13_takesArgs_67 hl1 hl2 hl3 hl4 hl5 hj0 h
  · replace h := h.2 b28
    unfold vX13_takesArgs_63
    refine g_const (v := cI (1)) rfl ?_
    exact TX13_takesArgs_68 hl1 hl2 hl3 hl4 hl5 ⟨by omega, by omega⟩ hj0 h
def PX13_takesArgs_8 (J : Nat → List Int → gS → (Int → gS → Prop) → Prop) (l1 : Int) (l2 : Int) (l3 : Int) (l4 : Int) (l5 : Int) (G : gS) (Q : Int → gS → Prop) : Prop :=
  ((l5 = -2 → ((l4 = 0 → PX13_takesArgs_104 J l1 l2 l3 l4 l5 G Q) ∧ (¬ (l4 = 0) → ((0 : Int) ≤ l1 ∧ ((l1 : Int) < 7344 ∧ (inI (G 16129 l1) → ((l3 = G 16129 l1 → PX13_takesArgs_105 J l1 l2 l3 l4 l5 1 G Q) ∧ (¬ (l3 = G 16129 l1) → PX13_takesArgs_104 J l1 l2 l3 l4 l5 G Q)))))))) ∧ (¬ (l5 = -2) → ((l4 = 0 → PX13_takesArgs_67 J l1 l2 l3 l4 l5 G Q) ∧ (¬ (l4 = 0) → ((0 : Int) ≤ l1 ∧ ((l1 : Int) < 7344 ∧ (inI (G 16129 l1) → ((l3 < G 16129 l1 → ((0 : Int) ≤ l5 ∧ ((l5 : Int) < 30600 ∧ (inL (G 16150 l5) → ((l3 < 4 → (inI (4 * l1) ∧ PX13_takesArgs_55 J l1 l2 l3 l4 l5 16081 (G 16150 l5) 16130 (4 * l1) l3 G Q)) ∧ (¬ (l3 < 4) → (inI (4 * l1) ∧ PX13_takesArgs_55 J l1 l2 l3 l4 l5 16081 (G 16150 l5) 16130 (4 * l1) 3 G Q))))))) ∧ (¬ (l3 < G 16129 l1) → PX13_takesArgs_67 J l1 l2 l3 l4 l5 G Q)))))))))
set_option maxRecDepth 20000 in
theorem TX13_takesArgs_8 {j : Nat → rx_K} {J : Nat → List Int → gS → (Int → gS → Prop) → Prop} {l1 : Int} {l2 : Int} {l3 : Int} {l4 : Int} {l5 : Int} {G : gS} {Q : Int → gS → Prop} (hl1 : inI l1) (hl2 : inI l2) (hl3 : inI l3) (hl4 : inI l4) (hl5 : inI l5) (hj0 : ∀ (l1 : Int) (l2 : Int) (l3 : Int) (l4 : Int) (l5 : Int) (G : gS), (inI l1) → (inI l2) → (inI l3) → (inI l4) → (inI l5) → J 0 [l1, l2, l3, l4, l5] G Q → Tg W0 (j 0) [rf (16081), cI (l1), cI (l2), cI (l3), cI (l4), cI (l5)] [] G (fun r G => ∃ v, r = cI v ∧ (0 ≤ v ∧ v ≤ 1) ∧ Q v G)) (h : PX13_takesArgs_8 J l1 l2 l3 l4 l5 G Q) : Tg W0 (vX13_takesArgs_8 j) [rf (16081), cI (l1), cI (l2), cI (l3), cI (l4), cI (l5)] [] G (fun r G => ∃ v, r = cI v ∧ (0 ≤ v ∧ v ≤ 1) ∧ Q v G) := by
  unfold PX13_takesArgs_8 at h
  unfold vX13_takesArgs_8
  refine g_ld (v := cI _) rfl (is_I _) ?_
  refine g_const (v := cI (-2)) rfl ?_
  refine g_eq2 hl5 ⟨by omega, by omega⟩ (fun b1 => ?_) (fun b1 => ?_)
  · replace h := h.1 b1
    unfold vX13_takesArgs_85
    refine g_ld (v := cI _) rfl (is_I _) ?_
    refine g_eq1 hl4 (fun b2 => ?_) (fun b2 => ?_)
    · replace h := h.1 b2
      exact TX13_takesArgs_104 hl1 hl2 hl3 hl4 hl5 hj0 h
    · replace h := h.2 b2
      unfold vX13_takesArgs_90
      refine g_ld (v := cI _) rfl (is_I _) ?_
      refine g_ld (v := rf _) rfl (is_R _) ?_
      refine g_getF (v := 16129) oC13 (hC13_55) rfl (Nat.le_of_ble_eq_true rfl) (Nat.le_of_ble_eq_true rfl) ?_
      refine g_ld (v := cI _) rfl (is_I _) ?_
      obtain ⟨q3, q4, h⟩ := h
      refine g_aldI aC16129 q3 q4 rfl fun i5 => ?_
      replace h := h i5
      refine g_eq2 hl3 i5 (fun b6 => ?_) (fun b6 => ?_)
      · replace h := h.1 b6
        unfold vX13_takesArgs_100
        refine g_const (v := cI (1)) rfl ?_
        exact TX13_takesArgs_105 hl1 hl2 hl3 hl4 hl5 ⟨by omega, by omega⟩ hj0 h
      · replace h := h.2 b6
        exact TX13_takesArgs_104 hl1 hl2 hl3 hl4 hl5 hj0 h
  · replace h := h.2 b1
    unfold vX13_takesArgs_15
    refine g_ld (v := cI _) rfl (is_I _) ?_
    refine g_eq1 hl4 (fun b7 => ?_) (fun b7 => ?_)
    · replace h := h.1 b7
      exact TX13_takesArgs_67 hl1 hl2 hl3 hl4 hl5 hj0 h
    · replace h := h.2 b7
      unfold vX13_takesArgs_20
      refine g_ld (v := cI _) rfl (is_I _) ?_
      refine g_ld (v := rf _) rfl (is_R _) ?_
      refine g_getF (v := 16129) oC13 (hC13_55) rfl (Nat.le_of_ble_eq_true rfl) (Nat.le_of_ble_eq_true rfl) ?_
      refine g_ld (v := cI _) rfl (is_I _) ?_
      obtain ⟨q8, q9, h⟩ := h
      refine g_aldI aC16129 q8 q9 rfl fun i10 => ?_
      replace h := h i10
      refine g_lt2 hl3 i10 (fun b11 => ?_) (fun b11 => ?_)
      · replace h := h.1 b11
        unfold vX13_takesArgs_30
        refine g_ld (v := rf _) rfl (is_R _) ?_
        refine g_ld (v := rf _) rfl (is_R _) ?_
        refine g_getF (v := 16150) oC13 (hC13_76) rfl (Nat.le_of_ble_eq_true rfl) (Nat.le_of_ble_eq_true rfl) ?_
        refine g_ld (v := cI _) rfl (is_I _) ?_
        obtain ⟨q12, q13, h⟩ := h
        refine g_aldL aC16150 q12 q13 rfl fun i14 => ?_
        replace h := h i14
        refine g_ld (v := rf _) rfl (is_R _) ?_
        refine g_getF (v := 16130) oC13 (hC13_56) rfl (Nat.le_of_ble_eq_true rfl) (Nat.le_of_ble_eq_true rfl) ?_
        refine g_const (v := cI (4)) rfl ?_
        refine g_ld (v := cI _) rfl (is_I _) ?_
        refine g_mul ?_
        refine g_ld (v := cI _) rfl (is_I _) ?_
        refine g_const (v := cI (4)) rfl ?_
        refine g_lt2 hl3 ⟨by omega, by omega⟩ (fun b15 => ?_) (fun b15 => ?_)
        · replace h := h.1 b15
          unfold vX13_takesArgs_50
          refine g_ld (v := cI _) rfl (is_I _) ?_
          obtain ⟨q16, h⟩ := h
          exact TX13_takesArgs_55 hl1 hl2 hl3 hl4 hl5 i14 q16 hl3 hj0 h
        · replace h := h.2 b15
          unfold vX13_takesArgs_54
          refine g_const (v := cI (3)) rfl ?_
          obtain ⟨q17, h⟩ := h
          exact TX13_takesArgs_55 hl1 hl2 hl3 hl4 hl5 i14 q17 ⟨by omega, by omega⟩ hj0 h
      · replace h := h.2 b11
        exact TX13_takesArgs_67 hl1 hl2 hl3 hl4 hl5 hj0 h
def PX13_takesArgs_0 (J : Nat → List Int → gS → (Int → gS → Prop) → Prop) (a1 : Int) (a2 : Int) (G : gS) (Q : Int → gS → Prop) : Prop :=
  PX13_takesArgs_8 J a1 a2 0 1 a2 G Q
set_option maxRecDepth 20000 in
theorem TX13_takesArgs_0 {j : Nat → rx_K} {J : Nat → List Int → gS → (Int → gS → Prop) → Prop} {a1 : Int} {a2 : Int} {G : gS} {Q : Int → gS → Prop} (ha1 : inI a1) (ha2 : inI a2) (hj0 : ∀ (l1 : Int) (l2 : Int) (l3 : Int) (l4 : Int) (l5 : Int) (G : gS), (inI l1) → (inI l2) → (inI l3) → (inI l4) → (inI l5) → J 0 [l1, l2, l3, l4, l5] G Q → Tg W0 (j 0) [rf (16081), cI (l1), cI (l2), cI (l3), cI (l4), cI (l5)] [] G (fun r G => ∃ v, r = cI v ∧ (0 ≤ v ∧ v ≤ 1) ∧ Q v G)) (h : PX13_takesArgs_0 J a1 a2 G Q) : Tg W0 (vX13_takesArgs_0 j) [rf (16081), cI (a1), cI (a2), 7, 7, 7] [] G (fun r G => ∃ v, r = cI v ∧ (0 ≤ v ∧ v ≤ 1) ∧ Q v G) := by
  unfold PX13_takesArgs_0 at h
  unfold vX13_takesArgs_0
  refine g_const (v := cI (0)) rfl ?_
  refine g_st (lv' := [_, _, _, _, _, _]) (is_I _) (Nat.le_of_ble_eq_true rfl) (Or.inr (n1_I _)) rfl ?_
  refine g_const (v := cI (1)) rfl ?_
  refine g_st (lv' := [_, _, _, _, _, _]) (is_I _) (Nat.le_of_ble_eq_true rfl) (Or.inr (n1_I _)) rfl ?_
  refine g_ld (v := cI _) rfl (is_I _) ?_
  refine g_st (lv' := [_, _, _, _, _, _]) (is_I _) (Nat.le_of_ble_eq_true rfl) (Or.inr (n1_I _)) rfl ?_
  exact TX13_takesArgs_8 ha1 ha2 ⟨by omega, by omega⟩ ⟨by omega, by omega⟩ ha2 hj0 h
def PX13_takesArgs_J : Nat → Nat → List Int → gS → (Int → gS → Prop) → Prop
  | 0, _, _, _, _ => False
  | f + 1, h, L, G, Q => match h, L with
    | 0, [l1, l2, l3, l4, l5] => PX13_takesArgs_8 (PX13_takesArgs_J f) l1 l2 l3 l4 l5 G Q
    | _, _ => False
theorem TX13_takesArgs_J {Q : Int → gS → Prop} : ∀ f N : Nat, f ≤ N → (∀ (l1 : Int) (l2 : Int) (l3 : Int) (l4 : Int) (l5 : Int) (G : gS), (inI l1) → (inI l2) → (inI l3) → (inI l4) → (inI l5) → (PX13_takesArgs_J f) 0 [l1, l2, l3, l4, l5] G Q → Tg W0 (rx_J vhX13_takesArgs N 0) [rf (16081), cI (l1), cI (l2), cI (l3), cI (l4), cI (l5)] [] G (fun r G => ∃ v, r = cI v ∧ (0 ≤ v ∧ v ≤ 1) ∧ Q v G)) := by
  intro f
  induction f with
  | zero => exact fun N _ => fun _ _ _ _ _ _ _ _ _ _ _ h => h.elim
  | succ f ih =>
    intro N hN
    obtain ⟨M, rfl⟩ : ∃ M, N = M + 1 := ⟨N - 1, by omega⟩
    have ih := ih M (by omega)
    exact fun _ _ _ _ _ _ hl1 hl2 hl3 hl4 hl5 h => show Tg W0 (vX13_takesArgs_8 (rx_J vhX13_takesArgs M)) _ _ _ _ from TX13_takesArgs_8 hl1 hl2 hl3 hl4 hl5 ih h
def PX13_takesArgs (a1 : Int) (a2 : Int) (G : gS) (Q : Int → gS → Prop) : Prop := ∃ f : Nat, f ≤ 4000000000 ∧ PX13_takesArgs_0 (PX13_takesArgs_J f) a1 a2 G Q
theorem TX13_takesArgs {a1 : Int} {a2 : Int} {G : gS} {Q : Int → gS → Prop} (ha1 : inI a1) (ha2 : inI a2) (h : PX13_takesArgs a1 a2 G Q) : Tn W0 FX13_takesArgs [rf (16081), cI (a1), cI (a2)] G (fun r G => ∃ v, r = cI v ∧ (0 ≤ v ∧ v ≤ 1) ∧ Q v G) := by
  obtain ⟨f, hf, h⟩ := h
  have hJ := TX13_takesArgs_J (Q := Q) f 4000000000 hf
  unfold FX13_takesArgs
  refine g_ent (lv' := [rf (16081), cI (a1), cI (a2), 7, 7, 7]) (flR (flI (flI fl0))) (Nat.le_of_ble_eq_true rfl) rfl ?_
  exact TX13_takesArgs_0 ha1 ha2 hJ h
def PX13_isObject_20 (l0 : Int) (s0 : Int) (G : gS) (Q : Int → gS → Prop) : Prop :=
  ((0 ≤ s0 ∧ s0 ≤ 1) ∧ Q (s0) G)
set_option maxRecDepth 20000 in
theorem TX13_isObject_20 {l0 : Int} {l1 : Nat} {s0 : Int} {G : gS} {Q : Int → gS → Prop} (hl0 : inL l0) (hl1 : l1 % 8 ≠ 1) (hs0 : inI s0) (h : PX13_isObject_20 l0 s0 G Q) : Tg W0 vX13_isObject_20 [cL (l0), l1] [cI (s0)] G (fun r G => ∃ v, r = cI v ∧ (0 ≤ v ∧ v ≤ 1) ∧ Q v G) := by
  unfold PX13_isObject_20 at h
  unfold vX13_isObject_20
  obtain ⟨q6, h⟩ := h
  exact g_ret1 (is_Z q6) ⟨_, rfl, q6, h⟩
def PX13_isObject_15 (l0 : Int) (G : gS) (Q : Int → gS → Prop) : Prop :=
  PX13_isObject_20 l0 1 G Q
set_option maxRecDepth 20000 in
theorem TX13_isObject_15 {l0 : Int} {l1 : Nat} {G : gS} {Q : Int → gS → Prop} (hl0 : inL l0) (hl1 : l1 % 8 ≠ 1) (h : PX13_isObject_15 l0 G Q) : Tg W0 vX13_isObject_15 [cL (l0), l1] [] G (fun r G => ∃ v, r = cI v ∧ (0 ≤ v ∧ v ≤ 1) ∧ Q v G) := by
  unfold PX13_isObject_15 at h
  unfold vX13_isObject_15
  refine g_const (v := cI (1)) rfl ?_
  exact TX13_isObject_20 hl0 hl1 ⟨by omega, by omega⟩ h
def PX13_isObject_0 (a0 : Int) (G : gS) (Q : Int → gS → Prop) : Prop :=
  PX13_isC a0 G (fun r2 G1 => (0 ≤ r2 ∧ r2 ≤ 1) → ((r2 = 0 → ((a0 = 3 → PX13_isObject_15 a0 G1 Q) ∧ (¬ (a0 = 3) → PX13_isObject_20 a0 0 G1 Q))) ∧ (¬ (r2 = 0) → PX13_isObject_15 a0 G1 Q)))
set_option maxRecDepth 20000 in
theorem TX13_isObject_0 {a0 : Int} {G : gS} {Q : Int → gS → Prop} (ha0 : inL a0) (h : PX13_isObject_0 a0 G Q) : Tg W0 vX13_isObject_0 [cL (a0), 7] [] G (fun r G => ∃ v, r = cI v ∧ (0 ≤ v ∧ v ≤ 1) ∧ Q v G) := by
  unfold PX13_isObject_0 at h
  unfold vX13_isObject_0
  refine g_ld (v := cL _) rfl (is_L _) ?_
  refine g_callS (As := [_]) (fun _ => rfl) ?_
  refine g_go1 (Nat.le_of_ble_eq_true rfl) (Tn_w (TX13_isC ha0 h) fun _ G1 ⟨r2, e, i3, h⟩ => ?_)
  subst e
  refine ⟨n7_I _, ?_⟩
  replace h := h i3
  refine g_eq1 ⟨by omega, by omega⟩ (fun b4 => ?_) (fun b4 => ?_)
  · replace h := h.1 b4
    unfold vX13_isObject_7
    refine g_ld (v := cL _) rfl (is_L _) ?_
    refine g_const (v := cL (3)) rfl ?_
    refine g_leq ha0 ⟨by omega, by omega⟩ (fun b5 => ?_) (fun b5 => ?_)
    · replace h := h.1 b5
      exact TX13_isObject_15 ha0 (show 7 % 8 ≠ 1 by decide) h
    · replace h := h.2 b5
      unfold vX13_isObject_19
      refine g_const (v := cI (0)) rfl ?_
      exact TX13_isObject_20 ha0 (show 7 % 8 ≠ 1 by decide) ⟨by omega, by omega⟩ h
  · replace h := h.2 b4
    exact TX13_isObject_15 ha0 (show 7 % 8 ≠ 1 by decide) h
abbrev PX13_isObject (a0 : Int) (G : gS) (Q : Int → gS → Prop) : Prop := PX13_isObject_0 a0 G Q
theorem TX13_isObject {a0 : Int} {G : gS} {Q : Int → gS → Prop} (ha0 : inL a0) (h : PX13_isObject a0 G Q) : Tn W0 FX13_isObject [cL (a0)] G (fun r G => ∃ v, r = cI v ∧ (0 ≤ v ∧ v ≤ 1) ∧ Q v G) := by
  unfold FX13_isObject
  refine g_ent (lv' := [cL (a0), 7]) (flL fl0) (Nat.le_of_ble_eq_true rfl) rfl ?_
  exact TX13_isObject_0 ha0 h
def PX13_wanted_29 (l1 : Int) (l2 : Int) (l4 : Int) (G : gS) (Q : Int → gS → Prop) : Prop :=
  Q 0 G
set_option maxRecDepth 20000 in
theorem TX13_wanted_29 {l1 : Int} {l2 : Int} {l3 : Nat} {l4 : Int} {l5 : Nat} {G : gS} {Q : Int → gS → Prop} (hl1 : inI l1) (hl2 : inL l2) (hl3 : l3 % 8 ≠ 1) (hl4 : inL l4) (hl5 : l5 % 8 ≠ 1) (h : PX13_wanted_29 l1 l2 l4 G Q) : Tg W0 vX13_wanted_29 [rf (16081), cI (l1), cL (l2), l3, cL (l4), l5] [] G (fun r G => r = 7 ∧ Q 0 G) := by
  unfold PX13_wanted_29 at h
  unfold vX13_wanted_29
  exact g_ret0 ⟨rfl, h⟩
def PX13_wanted_0 (a1 : Int) (a2 : Int) (a4 : Int) (G : gS) (Q : Int → gS → Prop) : Prop :=
  (inI (G 16081 20) → ((G 16081 20 = 0 → PX13_fits a2 a4 G (fun r4 G3 => (0 ≤ r4 ∧ r4 ≤ 1) → ((r4 = 0 → ((0 : Int) ≤ a1 ∧ ((a1 : Int) < 30600 ∧ (inI (G3 16145 a1) → PX13_fault 13 (G3 16145 a1) G3 (fun _ G10 => PX13_wanted_29 a1 a2 a4 G10 Q))))) ∧ (¬ (r4 = 0) → PX13_wanted_29 a1 a2 a4 G3 Q)))) ∧ (¬ (G 16081 20 = 0) → PX13_wanted_29 a1 a2 a4 G Q)))
set_option maxRecDepth 20000 in
theorem TX13_wanted_0 {a1 : Int} {a2 : Int} {a4 : Int} {G : gS} {Q : Int → gS → Prop} (ha1 : inI a1) (ha2 : inL a2) (ha4 : inL a4) (h : PX13_wanted_0 a1 a2 a4 G Q) : Tg W0 vX13_wanted_0 [rf (16081), cI (a1), cL (a2), 7, cL (a4), 7] [] G (fun r G => r = 7 ∧ Q 0 G) := by
  unfold PX13_wanted_0 at h
  unfold vX13_wanted_0
  refine g_ld (v := rf _) rfl (is_R _) ?_
  refine g_getI (kz := 20) oC13 rfl (Nat.le_of_ble_eq_true rfl) rfl fun i1 => ?_
  replace h := h i1
  refine g_eq1 i1 (fun b2 => ?_) (fun b2 => ?_)
  · replace h := h.1 b2
    unfold vX13_wanted_7
    refine g_ld (v := rf _) rfl (is_R _) ?_
    refine g_ld (v := cL _) rfl (is_L _) ?_
    refine g_ld (v := cL _) rfl (is_L _) ?_
    refine g_callV (As := [_, _]) (ci := 13) oC13 (fun _ => rfl) ?_
    refine g_go1 (Nat.le_of_ble_eq_true rfl) (Tn_w (TX13_fits ha2 ha4 h) fun _ G3 ⟨r4, e, i5, h⟩ => ?_)
    subst e
    refine ⟨n7_I _, ?_⟩
    replace h := h i5
    refine g_eq1 ⟨by omega, by omega⟩ (fun b6 => ?_) (fun b6 => ?_)
    · replace h := h.1 b6
      unfold vX13_wanted_17
      refine g_ld (v := rf _) rfl (is_R _) ?_
      refine g_const (v := cI (13)) rfl ?_
      refine g_ld (v := rf _) rfl (is_R _) ?_
      refine g_getF (v := 16145) oC13 (hC13_71) rfl (Nat.le_of_ble_eq_true rfl) (Nat.le_of_ble_eq_true rfl) ?_
      refine g_ld (v := cI _) rfl (is_I _) ?_
      obtain ⟨q7, q8, h⟩ := h
      refine g_aldI aC16145 q7 q8 rfl fun i9 => ?_
      replace h := h i9
      refine g_callV (As := [_, _]) (ci := 13) oC13 (fun _ => rfl) ?_
      refine g_go0 (Nat.le_of_ble_eq_true rfl) (Tn_w (TX13_fault ⟨by omega, by omega⟩ i9 h) fun _ G10 ⟨e, h⟩ => ⟨e, ?_⟩)
      exact TX13_wanted_29 ha1 ha2 (show 7 % 8 ≠ 1 by decide) ha4 (show 7 % 8 ≠ 1 by decide) h
    · replace h := h.2 b6
      exact TX13_wanted_29 ha1 ha2 (show 7 % 8 ≠ 1 by decide) ha4 (show 7 % 8 ≠ 1 by decide) h
  · replace h := h.2 b2
    exact TX13_wanted_29 ha1 ha2 (show 7 % 8 ≠ 1 by decide) ha4 (show 7 % 8 ≠ 1 by decide) h
abbrev PX13_wanted (a1 : Int) (a2 : Int) (a4 : Int) (G : gS) (Q : Int → gS → Prop) : Prop := PX13_wanted_0 a1 a2 a4 G Q
theorem TX13_wanted {a1 : Int} {a2 : Int} {a4 : Int} {G : gS} {Q : Int → gS → Prop} (ha1 : inI a1) (ha2 : inL a2) (ha4 : inL a4) (h : PX13_wanted a1 a2 a4 G Q) : Tn W0 FX13_wanted [rf (16081), cI (a1), cL (a2), cL (a4)] G (fun r G => r = 7 ∧ Q 0 G) := by
  unfold FX13_wanted
  refine g_ent (lv' := [rf (16081), cI (a1), cL (a2), 7, cL (a4), 7]) (flR (flI (flL (flL fl0)))) (Nat.le_of_ble_eq_true rfl) rfl ?_
  exact TX13_wanted_0 ha1 ha2 ha4 h
end DE

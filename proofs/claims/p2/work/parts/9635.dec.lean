section DE
def PX13_sameTokens_173 (J : Nat → List Int → gS → (Int → gS → Prop) → Prop) (l1 : Int) (l2 : Int) (l3 : Int) (l4 : Int) (l5 : Int) (l6 : Int) (l7 : Int) (l8 : Int) (G : gS) (Q : Int → gS → Prop) : Prop :=
  ((0 ≤ l5 ∧ l5 ≤ 1) ∧ Q (l5) G)
set_option maxRecDepth 20000 in
theorem TX13_sameTokens_173 {j : Nat → rx_K} {J : Nat → List Int → gS → (Int → gS → Prop) → Prop} {l1 : Int} {l2 : Int} {l3 : Int} {l4 : Int} {l5 : Int} {l6 : Int} {l7 : Int} {l8 : Int} {G : gS} {Q : Int → gS → Prop} (hl1 : inI l1) (hl2 : inI l2) (hl3 : inI l3) (hl4 : inI l4) (hl5 : inI l5) (hl6 : inI l6) (hl7 : inI l7) (hl8 : inI l8) (hj0 : ∀ (l1 : Int) (l2 : Int) (l3 : Int) (l4 : Int) (l5 : Int) (l6 : Int) (l7 : Int) (l8 : Int) (G : gS), (inI l1) → (inI l2) → (inI l3) → (inI l4) → (inI l5) → (inI l6) → (inI l7) → (inI l8) → J 0 [l1, l2, l3, l4, l5, l6, l7, l8] G Q → Tg W0 (j 0) [rf (16081), cI (l1), cI (l2), cI (l3), cI (l4), cI (l5), cI (l6), cI (l7), cI (l8)] [] G (fun r G => ∃ v, r = cI v ∧ (0 ≤ v ∧ v ≤ 1) ∧ Q v G)) (h : PX13_sameTokens_173 J l1 l2 l3 l4 l5 l6 l7 l8 G Q) : Tg W0 (vX13_sameTokens_173 j) [rf (16081), cI (l1), cI (l2), cI (l3), cI (l4), cI (l5), cI (l6), cI (l7), cI (l8)] [] G (fun r G => ∃ v, r = cI v ∧ (0 ≤ v ∧ v ≤ 1) ∧ Q v G) := by
  unfold PX13_sameTokens_173 at h
  unfold vX13_sameTokens_173
  refine g_ld (v := cI _) rfl (is_I _) ?_
  obtain ⟨q53, h⟩ := h
  exact g_ret1 (is_Z q53) ⟨_, rfl, q53, h⟩
def PX13_sameTokens_140 (J : Nat → List Int → gS → (Int → gS → Prop) → Prop) (l1 : Int) (l2 : Int) (l3 : Int) (l4 : Int) (l5 : Int) (l6 : Int) (l7 : Int) (l8 : Int) (G : gS) (Q : Int → gS → Prop) : Prop :=
  ((l8 < l3 → ((l5 = 0 → PX13_sameTokens_173 J l1 l2 l3 l4 l5 l6 l7 l8 G Q) ∧ (¬ (l5 = 0) → (inI (l6 + l8) ∧ (inI (l7 + l8) ∧ PX13_sameToken (l6 + l8) (l7 + l8) G (fun r50 G49 => (0 ≤ r50 ∧ r50 ≤ 1) → (inI (l8 + 1) ∧ J 0 [l1, l2, l3, l4, r50, l6, l7, l8 + 1] G49 Q))))))) ∧ (¬ (l8 < l3) → PX13_sameTokens_173 J l1 l2 l3 l4 l5 l6 l7 l8 G Q))
set_option maxRecDepth 20000 in
theorem TX13_sameTokens_140 {j : Nat → rx_K} {J : Nat → List Int → gS → (Int → gS → Prop) → Prop} {l1 : Int} {l2 : Int} {l3 : Int} {l4 : Int} {l5 : Int} {l6 : Int} {l7 : Int} {l8 : Int} {G : gS} {Q : Int → gS → Prop} (hl1 : inI l1) (hl2 : inI l2) (hl3 : inI l3) (hl4 : inI l4) (hl5 : inI l5) (hl6 : inI l6) (hl7 : inI l7) (hl8 : inI l8) (hj0 : ∀ (l1 : Int) (l2 : Int) (l3 : Int) (l4 : Int) (l5 : Int) (l6 : Int) (l7 : Int) (l8 : Int) (G : gS), (inI l1) → (inI l2) → (inI l3) → (inI l4) → (inI l5) → (inI l6) → (inI l7) → (inI l8) → J 0 [l1, l2, l3, l4, l5, l6, l7, l8] G Q → Tg W0 (j 0) [rf (16081), cI (l1), cI (l2), cI (l3), cI (l4), cI (l5), cI (l6), cI (l7), cI (l8)] [] G (fun r G => ∃ v, r = cI v ∧ (0 ≤ v ∧ v ≤ 1) ∧ Q v G)) (h : PX13_sameTokens_140 J l1 l2 l3 l4 l5 l6 l7 l8 G Q) : Tg W0 (vX13_sameTokens_140 j) [rf (16081), cI (l1), cI (l2), cI (l3), cI (l4), cI (l5), cI (l6), cI (l7), cI (l8)] [] G (fun r G => ∃ v, r = cI v ∧ (0 ≤ v ∧ v ≤ 1) ∧ Q v G) := by
  unfold PX13_sameTokens_140 at h
  unfold vX13_sameTokens_140
  refine g_ld (v := cI _) rfl (is_I _) ?_
  refine g_ld (v := cI _) rfl (is_I _) ?_
  refine g_lt2 hl8 hl3 (fun b45 => ?_) (fun b45 => ?_)
  · replace h := h.1 b45
    unfold vX13_sameTokens_146
    refine g_ld (v := cI _) rfl (is_I _) ?_
    refine g_eq1 hl5 (fun b46 => ?_) (fun b46 => ?_)
    · replace h := h.1 b46
      exact TX13_sameTokens_173 hl1 hl2 hl3 hl4 hl5 hl6 hl7 hl8 hj0 h
    · replace h := h.2 b46
      unfold vX13_sameTokens_151
      refine g_ld (v := rf _) rfl (is_R _) ?_
      refine g_ld (v := cI _) rfl (is_I _) ?_
      refine g_ld (v := cI _) rfl (is_I _) ?_
      refine g_add ?_
      refine g_ld (v := cI _) rfl (is_I _) ?_
      refine g_ld (v := cI _) rfl (is_I _) ?_
      refine g_add ?_
      obtain ⟨q47, h⟩ := h
      obtain ⟨q48, h⟩ := h
      refine g_callV (As := [_, _]) (ci := 13) oC13 (fun _ => rfl) ?_
      refine g_go1 (Nat.le_of_ble_eq_true rfl) (Tn_w (TX13_sameToken q47 q48 h) fun _ G49 ⟨r50, e, i51, h⟩ => ?_)
      subst e
      refine ⟨n7_I _, ?_⟩
      replace h := h i51
      refine g_st (lv' := [_, _, _, _, _, _, _, _, _]) (is_I _) (Nat.le_of_ble_eq_true rfl) (Or.inr (n1_I _)) rfl ?_
      refine g_inc (lv' := [_, _, _, _, _, _, _, _, _]) rfl (Nat.le_of_ble_eq_true rfl) (Or.inr (n1_I _)) rfl ?_
      obtain ⟨q52, h⟩ := h
      exact hj0 _ _ _ _ _ _ _ _ _ hl1 hl2 hl3 hl4 ⟨by omega, by omega⟩ hl6 hl7 q52 h
  · replace h := h.2 b45
    exact TX13_sameTokens_173 hl1 hl2 hl3 hl4 hl5 hl6 hl7 hl8 hj0 h
def PX13_sameTokens_94 (J : Nat → List Int → gS → (Int → gS → Prop) → Prop) (l1 : Int) (l2 : Int) (l3 : Int) (l4 : Int) (l5 : Int) (G : gS) (Q : Int → gS → Prop) : Prop :=
  ((0 ≤ l5 ∧ l5 ≤ 1) ∧ Q (l5) G)
set_option maxRecDepth 20000 in
theorem TX13_sameTokens_94 {j : Nat → rx_K} {J : Nat → List Int → gS → (Int → gS → Prop) → Prop} {l1 : Int} {l2 : Int} {l3 : Int} {l4 : Int} {l5 : Int} {l6 : Nat} {l7 : Nat} {l8 : Nat} {G : gS} {Q : Int → gS → Prop} (hl1 : inI l1) (hl2 : inI l2) (hl3 : inI l3) (hl4 : inI l4) (hl5 : inI l5) (hl6 : l6 % 8 ≠ 1) (hl7 : l7 % 8 ≠ 1) (hl8 : l8 % 8 ≠ 1) (hj0 : ∀ (l1 : Int) (l2 : Int) (l3 : Int) (l4 : Int) (l5 : Int) (l6 : Int) (l7 : Int) (l8 : Int) (G : gS), (inI l1) → (inI l2) → (inI l3) → (inI l4) → (inI l5) → (inI l6) → (inI l7) → (inI l8) → J 0 [l1, l2, l3, l4, l5, l6, l7, l8] G Q → Tg W0 (j 0) [rf (16081), cI (l1), cI (l2), cI (l3), cI (l4), cI (l5), cI (l6), cI (l7), cI (l8)] [] G (fun r G => ∃ v, r = cI v ∧ (0 ≤ v ∧ v ≤ 1) ∧ Q v G)) (h : PX13_sameTokens_94 J l1 l2 l3 l4 l5 G Q) : Tg W0 (vX13_sameTokens_94 j) [rf (16081), cI (l1), cI (l2), cI (l3), cI (l4), cI (l5), l6, l7, l8] [] G (fun r G => ∃ v, r = cI v ∧ (0 ≤ v ∧ v ≤ 1) ∧ Q v G) := by
  unfold PX13_sameTokens_94 at h
  unfold vX13_sameTokens_94
  refine g_ld (v := cI _) rfl (is_I _) ?_
  obtain ⟨q44, h⟩ := h
  exact g_ret1 (is_Z q44) ⟨_, rfl, q44, h⟩
def PX13_sameTokens_70 (J : Nat → List Int → gS → (Int → gS → Prop) → Prop) (l1 : Int) (l2 : Int) (l3 : Int) (l4 : Int) (s0 : Int) (G : gS) (Q : Int → gS → Prop) : Prop :=
  ((0 : Int) ≤ l1 ∧ ((l1 : Int) < 7344 ∧ (inI (G 16135 l1) → ((G 16135 l1 = -2 → PX13_sameTokens_94 J l1 l2 l3 l4 s0 G Q) ∧ (¬ (G 16135 l1 = -2) → ((0 : Int) ≤ l2 ∧ ((l2 : Int) < 7344 ∧ (inI (G 16135 l2) → ((G 16135 l2 = -2 → PX13_sameTokens_94 J l1 l2 l3 l4 s0 G Q) ∧ (¬ (G 16135 l2 = -2) → (inI (idiv l1 34) → (inI (idiv (idiv l1 34) 12) → ((0 : Int) ≤ l1 ∧ ((l1 : Int) < 7344 ∧ (inI (G 16136 l1) → (inI (((idiv (idiv l1 34) 12) * 702) + (G 16136 l1)) ∧ (inI (idiv l2 34) → (inI (idiv (idiv l2 34) 12) → ((0 : Int) ≤ l2 ∧ ((l2 : Int) < 7344 ∧ (inI (G 16136 l2) → (inI (((idiv (idiv l2 34) 12) * 702) + (G 16136 l2)) ∧ PX13_sameTokens_140 J l1 l2 l3 l4 s0 (((idiv (idiv l1 34) 12) * 702) + (G 16136 l1)) (((idiv (idiv l2 34) 12) * 702) + (G 16136 l2)) 0 G Q))))))))))))))))))))))
set_option maxRecDepth 20000 in
theorem TX13_sameTokens_70 {j : Nat → rx_K} {J : Nat → List Int → gS → (Int → gS → Prop) → Prop} {l1 : Int} {l2 : Int} {l3 : Int} {l4 : Int} {l5 : Nat} {l6 : Nat} {l7 : Nat} {l8 : Nat} {s0 : Int} {G : gS} {Q : Int → gS → Prop} (hl1 : inI l1) (hl2 : inI l2) (hl3 : inI l3) (hl4 : inI l4) (hl5 : l5 % 8 ≠ 1) (hl6 : l6 % 8 ≠ 1) (hl7 : l7 % 8 ≠ 1) (hl8 : l8 % 8 ≠ 1) (hs0 : inI s0) (hj0 : ∀ (l1 : Int) (l2 : Int) (l3 : Int) (l4 : Int) (l5 : Int) (l6 : Int) (l7 : Int) (l8 : Int) (G : gS), (inI l1) → (inI l2) → (inI l3) → (inI l4) → (inI l5) → (inI l6) → (inI l7) → (inI l8) → J 0 [l1, l2, l3, l4, l5, l6, l7, l8] G Q → Tg W0 (j 0) [rf (16081), cI (l1), cI (l2), cI (l3), cI (l4), cI (l5), cI (l6), cI (l7), cI (l8)] [] G (fun r G => ∃ v, r = cI v ∧ (0 ≤ v ∧ v ≤ 1) ∧ Q v G)) (h : PX13_sameTokens_70 J l1 l2 l3 l4 s0 G Q) : Tg W0 (vX13_sameTokens_70 j) [rf (16081), cI (l1), cI (l2), cI (l3), cI (l4), l5, l6, l7, l8] [cI (s0)] G (fun r G => ∃ v, r = cI v ∧ (0 ≤ v ∧ v ≤ 1) ∧ Q v G) := by
  unfold PX13_sameTokens_70 at h
  unfold vX13_sameTokens_70
  refine g_st (lv' := [_, _, _, _, _, _, _, _, _]) (is_I _) (Nat.le_of_ble_eq_true rfl) (Or.inr (n1_I _)) rfl ?_
  refine g_ld (v := rf _) rfl (is_R _) ?_
  refine g_getF (v := 16135) oC13 (hC13_61) rfl (Nat.le_of_ble_eq_true rfl) (Nat.le_of_ble_eq_true rfl) ?_
  refine g_ld (v := cI _) rfl (is_I _) ?_
  obtain ⟨q24, q25, h⟩ := h
  refine g_aldI aC16135 q24 q25 rfl fun i26 => ?_
  replace h := h i26
  refine g_const (v := cI (-2)) rfl ?_
  refine g_eq2 i26 ⟨by omega, by omega⟩ (fun b27 => ?_) (fun b27 => ?_)
  · replace h := h.1 b27
    exact TX13_sameTokens_94 hl1 hl2 hl3 hl4 hs0 hl6 hl7 hl8 hj0 h
  · replace h := h.2 b27
    unfold vX13_sameTokens_83
    refine g_ld (v := rf _) rfl (is_R _) ?_
    refine g_getF (v := 16135) oC13 (hC13_61) rfl (Nat.le_of_ble_eq_true rfl) (Nat.le_of_ble_eq_true rfl) ?_
    refine g_ld (v := cI _) rfl (is_I _) ?_
    obtain ⟨q28, q29, h⟩ := h
    refine g_aldI aC16135 q28 q29 rfl fun i30 => ?_
    replace h := h i30
    refine g_const (v := cI (-2)) rfl ?_
    refine g_eq2 i30 ⟨by omega, by omega⟩ (fun b31 => ?_) (fun b31 => ?_)
    · replace h := h.1 b31
      exact TX13_sameTokens_94 hl1 hl2 hl3 hl4 hs0 hl6 hl7 hl8 hj0 h
    · replace h := h.2 b31
      unfold vX13_sameTokens_97
      refine g_ld (v := cI _) rfl (is_I _) ?_
      refine g_const (v := cI (34)) rfl ?_
      refine g_idiv ⟨by omega, by omega⟩ (by omega) fun i32 => ?_
      replace h := h i32
      refine g_const (v := cI (12)) rfl ?_
      refine g_idiv ⟨by omega, by omega⟩ (by omega) fun i33 => ?_
      replace h := h i33
      refine g_const (v := cI (702)) rfl ?_
      refine g_mul ?_
      refine g_ld (v := rf _) rfl (is_R _) ?_
      refine g_getF (v := 16136) oC13 (hC13_62) rfl (Nat.le_of_ble_eq_true rfl) (Nat.le_of_ble_eq_true rfl) ?_
      refine g_ld (v := cI _) rfl (is_I _) ?_
      obtain ⟨q34, q35, h⟩ := h
      refine g_aldI aC16136 q34 q35 rfl fun i36 => ?_
      replace h := h i36
      refine g_add ?_
      refine g_st (lv' := [_, _, _, _, _, _, _, _, _]) (is_I _) (Nat.le_of_ble_eq_true rfl) (Or.inr (n1_I _)) rfl ?_
      obtain ⟨q37, h⟩ := h
      refine g_ld (v := cI _) rfl (is_I _) ?_
      refine g_const (v := cI (34)) rfl ?_
      refine g_idiv ⟨by omega, by omega⟩ (by omega) fun i38 => ?_
      replace h := h i38
      refine g_const (v := cI (12)) rfl ?_
      refine g_idiv ⟨by omega, by omega⟩ (by omega) fun i39 => ?_
      replace h := h i39
      refine g_const (v := cI (702)) rfl ?_
      refine g_mul ?_
      refine g_ld (v := rf _) rfl (is_R _) ?_
      refine g_getF (v := 16136) oC13 (hC13_62) rfl (Nat.le_of_ble_eq_true rfl) (Nat.le_of_ble_eq_true rfl) ?_
      refine g_ld (v := cI _) rfl (is_I _) ?_
      obtain ⟨q40, q41, h⟩ := h
      refine g_aldI aC16136 q40 q41 rfl fun i42 => ?_
      replace h := h i42
      unfold vX13_sameTokens_134
      refine g_add ?_
      refine g_st (lv' := [_, _, _, _, _, _, _, _, _]) (is_I _) (Nat.le_of_ble_eq_true rfl) (Or.inr (n1_I _)) rfl ?_
      obtain ⟨q43, h⟩ := h
      refine g_const (v := cI (0)) rfl ?_
      refine g_st (lv' := [_, _, _, _, _, _, _, _, _]) (is_I _) (Nat.le_of_ble_eq_true rfl) (Or.inr (n1_I _)) rfl ?_
      exact TX13_sameTokens_140 hl1 hl2 hl3 hl4 hs0 q37 q43 ⟨by omega, by omega⟩ hj0 h
def PX13_sameTokens_57 (J : Nat → List Int → gS → (Int → gS → Prop) → Prop) (l1 : Int) (l2 : Int) (l3 : Int) (s0 : Int) (G : gS) (Q : Int → gS → Prop) : Prop :=
  ((l3 = s0 → PX13_sameTokens_70 J l1 l2 l3 s0 1 G Q) ∧ (¬ (l3 = s0) → PX13_sameTokens_70 J l1 l2 l3 s0 0 G Q))
set_option maxRecDepth 20000 in
theorem TX13_sameTokens_57 {j : Nat → rx_K} {J : Nat → List Int → gS → (Int → gS → Prop) → Prop} {l1 : Int} {l2 : Int} {l3 : Int} {l4 : Nat} {l5 : Nat} {l6 : Nat} {l7 : Nat} {l8 : Nat} {s0 : Int} {G : gS} {Q : Int → gS → Prop} (hl1 : inI l1) (hl2 : inI l2) (hl3 : inI l3) (hl4 : l4 % 8 ≠ 1) (hl5 : l5 % 8 ≠ 1) (hl6 : l6 % 8 ≠ 1) (hl7 : l7 % 8 ≠ 1) (hl8 : l8 % 8 ≠ 1) (hs0 : inI s0) (hj0 : ∀ (l1 : Int) (l2 : Int) (l3 : Int) (l4 : Int) (l5 : Int) (l6 : Int) (l7 : Int) (l8 : Int) (G : gS), (inI l1) → (inI l2) → (inI l3) → (inI l4) → (inI l5) → (inI l6) → (inI l7) → (inI l8) → J 0 [l1, l2, l3, l4, l5, l6, l7, l8] G Q → Tg W0 (j 0) [rf (16081), cI (l1), cI (l2), cI (l3), cI (l4), cI (l5), cI (l6), cI (l7), cI (l8)] [] G (fun r G => ∃ v, r = cI v ∧ (0 ≤ v ∧ v ≤ 1) ∧ Q v G)) (h : PX13_sameTokens_57 J l1 l2 l3 s0 G Q) : Tg W0 (vX13_sameTokens_57 j) [rf (16081), cI (l1), cI (l2), cI (l3), l4, l5, l6, l7, l8] [cI (s0)] G (fun r G => ∃ v, r = cI v ∧ (0 ≤ v ∧ v ≤ 1) ∧ Q v G) := by
  unfold PX13_sameTokens_57 at h
  unfold vX13_sameTokens_57
  refine g_st (lv' := [_, _, _, _, _, _, _, _, _]) (is_I _) (Nat.le_of_ble_eq_true rfl) (Or.inr (n1_I _)) rfl ?_
  refine g_ld (v := cI _) rfl (is_I _) ?_
  refine g_ld (v := cI _) rfl (is_I _) ?_
  refine g_eq2 hl3 hs0 (fun b23 => ?_) (fun b23 => ?_)
  · replace h := h.1 b23
    unfold vX13_sameTokens_65
    refine g_const (v := cI (1)) rfl ?_
    exact TX13_sameTokens_70 hl1 hl2 hl3 hs0 hl5 hl6 hl7 hl8 ⟨by omega, by omega⟩ hj0 h
  · replace h := h.2 b23
    unfold vX13_sameTokens_69
    refine g_const (v := cI (0)) rfl ?_
    exact TX13_sameTokens_70 hl1 hl2 hl3 hs0 hl5 hl6 hl7 hl8 ⟨by omega, by omega⟩ hj0 h
def PX13_sameTokens_28 (J : Nat → List Int → gS → (Int → gS → Prop) → Prop) (l1 : Int) (l2 : Int) (s0 : Int) (G : gS) (Q : Int → gS → Prop) : Prop :=
  ((0 : Int) ≤ l2 ∧ ((l2 : Int) < 7344 ∧ (inI (G 16135 l2) → ((G 16135 l2 = -2 → PX13_sameTokens_57 J l1 l2 s0 2 G Q) ∧ (¬ (G 16135 l2 = -2) → ((0 : Int) ≤ l2 ∧ ((l2 : Int) < 7344 ∧ (inI (G 16137 l2) → ((0 : Int) ≤ l2 ∧ ((l2 : Int) < 7344 ∧ (inI (G 16136 l2) → (inI ((G 16137 l2) - (G 16136 l2)) ∧ PX13_sameTokens_57 J l1 l2 s0 ((G 16137 l2) - (G 16136 l2)) G Q))))))))))))
set_option maxRecDepth 20000 in
theorem TX13_sameTokens_28 {j : Nat → rx_K} {J : Nat → List Int → gS → (Int → gS → Prop) → Prop} {l1 : Int} {l2 : Int} {l3 : Nat} {l4 : Nat} {l5 : Nat} {l6 : Nat} {l7 : Nat} {l8 : Nat} {s0 : Int} {G : gS} {Q : Int → gS → Prop} (hl1 : inI l1) (hl2 : inI l2) (hl3 : l3 % 8 ≠ 1) (hl4 : l4 % 8 ≠ 1) (hl5 : l5 % 8 ≠ 1) (hl6 : l6 % 8 ≠ 1) (hl7 : l7 % 8 ≠ 1) (hl8 : l8 % 8 ≠ 1) (hs0 : inI s0) (hj0 : ∀ (l1 : Int) (l2 : Int) (l3 : Int) (l4 : Int) (l5 : Int) (l6 : Int) (l7 : Int) (l8 : Int) (G : gS), (inI l1) → (inI l2) → (inI l3) → (inI l4) → (inI l5) → (inI l6) → (inI l7) → (inI l8) → J 0 [l1, l2, l3, l4, l5, l6, l7, l8] G Q → Tg W0 (j 0) [rf (16081), cI (l1), cI (l2), cI (l3), cI (l4), cI (l5), cI (l6), cI (l7), cI (l8)] [] G (fun r G => ∃ v, r = cI v ∧ (0 ≤ v ∧ v ≤ 1) ∧ Q v G)) (h : PX13_sameTokens_28 J l1 l2 s0 G Q) : Tg W0 (vX13_sameTokens_28 j) [rf (16081), cI (l1), cI (l2), l3, l4, l5, l6, l7, l8] [cI (s0)] G (fun r G => ∃ v, r = cI v ∧ (0 ≤ v ∧ v ≤ 1) ∧ Q v G) := by
  unfold PX13_sameTokens_28 at h
  unfold vX13_sameTokens_28
  refine g_st (lv' := [_, _, _, _, _, _, _, _, _]) (is_I _) (Nat.le_of_ble_eq_true rfl) (Or.inr (n1_I _)) rfl ?_
  refine g_ld (v := rf _) rfl (is_R _) ?_
  refine g_getF (v := 16135) oC13 (hC13_61) rfl (Nat.le_of_ble_eq_true rfl) (Nat.le_of_ble_eq_true rfl) ?_
  refine g_ld (v := cI _) rfl (is_I _) ?_
  obtain ⟨q12, q13, h⟩ := h
  refine g_aldI aC16135 q12 q13 rfl fun i14 => ?_
  replace h := h i14
  refine g_const (v := cI (-2)) rfl ?_
  refine g_eq2 i14 ⟨by omega, by omega⟩ (fun b15 => ?_) (fun b15 => ?_)
  · replace h := h.1 b15
    unfold vX13_sameTokens_40
    refine g_const (v := cI (2)) rfl ?_
    exact TX13_sameTokens_57 hl1 hl2 hs0 hl4 hl5 hl6 hl7 hl8 ⟨by omega, by omega⟩ hj0 h
  · replace h := h.2 b15
    unfold vX13_sameTokens_44
    refine g_ld (v := rf _) rfl (is_R _) ?_
    refine g_getF (v := 16137) oC13 (hC13_63) rfl (Nat.le_of_ble_eq_true rfl) (Nat.le_of_ble_eq_true rfl) ?_
    refine g_ld (v := cI _) rfl (is_I _) ?_
    obtain ⟨q16, q17, h⟩ := h
    refine g_aldI aC16137 q16 q17 rfl fun i18 => ?_
    replace h := h i18
    refine g_ld (v := rf _) rfl (is_R _) ?_
    refine g_getF (v := 16136) oC13 (hC13_62) rfl (Nat.le_of_ble_eq_true rfl) (Nat.le_of_ble_eq_true rfl) ?_
    refine g_ld (v := cI _) rfl (is_I _) ?_
    obtain ⟨q19, q20, h⟩ := h
    refine g_aldI aC16136 q19 q20 rfl fun i21 => ?_
    replace h := h i21
    refine g_sub ?_
    obtain ⟨q22, h⟩ := h
    exact TX13_sameTokens_57 hl1 hl2 hs0 hl4 hl5 hl6 hl7 hl8 q22 hj0 h
def PX13_sameTokens_0 (J : Nat → List Int → gS → (Int → gS → Prop) → Prop) (a1 : Int) (a2 : Int) (G : gS) (Q : Int → gS → Prop) : Prop :=
  ((0 : Int) ≤ a1 ∧ ((a1 : Int) < 7344 ∧ (inI (G 16135 a1) → ((G 16135 a1 = -2 → PX13_sameTokens_28 J a1 a2 2 G Q) ∧ (¬ (G 16135 a1 = -2) → ((0 : Int) ≤ a1 ∧ ((a1 : Int) < 7344 ∧ (inI (G 16137 a1) → ((0 : Int) ≤ a1 ∧ ((a1 : Int) < 7344 ∧ (inI (G 16136 a1) → (inI ((G 16137 a1) - (G 16136 a1)) ∧ PX13_sameTokens_28 J a1 a2 ((G 16137 a1) - (G 16136 a1)) G Q))))))))))))
set_option maxRecDepth 20000 in
theorem TX13_sameTokens_0 {j : Nat → rx_K} {J : Nat → List Int → gS → (Int → gS → Prop) → Prop} {a1 : Int} {a2 : Int} {G : gS} {Q : Int → gS → Prop} (ha1 : inI a1) (ha2 : inI a2) (hj0 : ∀ (l1 : Int) (l2 : Int) (l3 : Int) (l4 : Int) (l5 : Int) (l6 : Int) (l7 : Int) (l8 : Int) (G : gS), (inI l1) → (inI l2) → (inI l3) → (inI l4) → (inI l5) → (inI l6) → (inI l7) → (inI l8) → J 0 [l1, l2, l3, l4, l5, l6, l7, l8] G Q → Tg W0 (j 0) [rf (16081), cI (l1), cI (l2), cI (l3), cI (l4), cI (l5), cI (l6), cI (l7), cI (l8)] [] G (fun r G => ∃ v, r = cI v ∧ (0 ≤ v ∧ v ≤ 1) ∧ Q v G)) (h : PX13_sameTokens_0 J a1 a2 G Q) : Tg W0 (vX13_sameTokens_0 j) [rf (16081), cI (a1), cI (a2), 7, 7, 7, 7, 7, 7] [] G (fun r G => ∃ v, r = cI v ∧ (0 ≤ v ∧ v ≤ 1) ∧ Q v G) := by
  unfold PX13_sameTokens_0 at h
  unfold vX13_sameTokens_0
  refine g_ld (v := rf _) rfl (is_R _) ?_
  refine g_getF (v := 16135) oC13 (hC13_61) rfl (Nat.le_of_ble_eq_true rfl) (Nat.le_of_ble_eq_true rfl) ?_
  refine g_ld (v := cI _) rfl (is_I _) ?_
  obtain ⟨q1, q2, h⟩ := h
  refine g_aldI aC16135 q1 q2 rfl fun i3 => ?_
  replace h := h i3
  refine g_const (v := cI (-2)) rfl ?_
  refine g_eq2 i3 ⟨by omega, by omega⟩ (fun b4 => ?_) (fun b4 => ?_)
  · replace h := h.1 b4
    unfold vX13_sameTokens_11
    refine g_const (v := cI (2)) rfl ?_
    exact TX13_sameTokens_28 ha1 ha2 (show 7 % 8 ≠ 1 by decide) (show 7 % 8 ≠ 1 by decide) (show 7 % 8 ≠ 1 by decide) (show 7 % 8 ≠ 1 by decide) (show 7 % 8 ≠ 1 by decide) (show 7 % 8 ≠ 1 by decide) ⟨by omega, by omega⟩ hj0 h
  · replace h := h.2 b4
    unfold vX13_sameTokens_15
    refine g_ld (v := rf _) rfl (is_R _) ?_
    refine g_getF (v := 16137) oC13 (hC13_63) rfl (Nat.le_of_ble_eq_true rfl) (Nat.le_of_ble_eq_true rfl) ?_
    refine g_ld (v := cI _) rfl (is_I _) ?_
    obtain ⟨q5, q6, h⟩ := h
    refine g_aldI aC16137 q5 q6 rfl fun i7 => ?_
    replace h := h i7
    refine g_ld (v := rf _) rfl (is_R _) ?_
    refine g_getF (v := 16136) oC13 (hC13_62) rfl (Nat.le_of_ble_eq_true rfl) (Nat.le_of_ble_eq_true rfl) ?_
    refine g_ld (v := cI _) rfl (is_I _) ?_
    obtain ⟨q8, q9, h⟩ := h
    refine g_aldI aC16136 q8 q9 rfl fun i10 => ?_
    replace h := h i10
    refine g_sub ?_
    obtain ⟨q11, h⟩ := h
    exact TX13_sameTokens_28 ha1 ha2 (show 7 % 8 ≠ 1 by decide) (show 7 % 8 ≠ 1 by decide) (show 7 % 8 ≠ 1 by decide) (show 7 % 8 ≠ 1 by decide) (show 7 % 8 ≠ 1 by decide) (show 7 % 8 ≠ 1 by decide) q11 hj0 h
def PX13_sameTokens_J : Nat → Nat → List Int → gS → (Int → gS → Prop) → Prop
  | 0, _, _, _, _ => False
  | f + 1, h, L, G, Q => match h, L with
    | 0, [l1, l2, l3, l4, l5, l6, l7, l8] => PX13_sameTokens_140 (PX13_sameTokens_J f) l1 l2 l3 l4 l5 l6 l7 l8 G Q
    | _, _ => False
theorem TX13_sameTokens_J {Q : Int → gS → Prop} : ∀ f N : Nat, f ≤ N → (∀ (l1 : Int) (l2 : Int) (l3 : Int) (l4 : Int) (l5 : Int) (l6 : Int) (l7 : Int) (l8 : Int) (G : gS), (inI l1) → (inI l2) → (inI l3) → (inI l4) → (inI l5) → (inI l6) → (inI l7) → (inI l8) → (PX13_sameTokens_J f) 0 [l1, l2, l3, l4, l5, l6, l7, l8] G Q → Tg W0 (rx_J vhX13_sameTokens N 0) [rf (16081), cI (l1), cI (l2), cI (l3), cI (l4), cI (l5), cI (l6), cI (l7), cI (l8)] [] G (fun r G => ∃ v, r = cI v ∧ (0 ≤ v ∧ v ≤ 1) ∧ Q v G)) := by
  intro f
  induction f with
  | zero => exact fun N _ => fun _ _ _ _ _ _ _ _ _ _ _ _ _ _ _ _ _ h => h.elim
  | succ f ih =>
    intro N hN
    obtain ⟨M, rfl⟩ : ∃ M, N = M + 1 := ⟨N - 1, by omega⟩
    have ih := ih M (by omega)
    exact fun _ _ _ _ _ _ _ _ _ hl1 hl2 hl3 hl4 hl5 hl6 hl7 hl8 h => show Tg W0 (vX13_sameTokens_140 (rx_J vhX13_sameTokens M)) _ _ _ _ from TX13_sameTokens_140 hl1 hl2 hl3 hl4 hl5 hl6 hl7 hl8 ih h
def PX13_sameTokens (a1 : Int) (a2 : Int) (G : gS) (Q : Int → gS → Prop) : Prop := ∃ f : Nat, f ≤ 4000000000 ∧ PX13_sameTokens_0 (PX13_sameTokens_J f) a1 a2 G Q
theorem TX13_sameTokens {a1 : Int} {a2 : Int} {G : gS} {Q : Int → gS → Prop} (ha1 : inI a1) (ha2 : inI a2) (h : PX13_sameTokens a1 a2 G Q) : Tn W0 FX13_sameTokens [rf (16081), cI (a1), cI (a2)] G (fun r G => ∃ v, r = cI v ∧ (0 ≤ v ∧ v ≤ 1) ∧ Q v G) := by
  obtain ⟨f, hf, h⟩ := h
  have hJ := TX13_sameTokens_J (Q := Q) f 4000000000 hf
  unfold FX13_sameTokens
  refine g_ent (lv' := [rf (16081), cI (a1), cI (a2), 7, 7, 7, 7, 7, 7]) (flR (flI (flI fl0))) (Nat.le_of_ble_eq_true rfl) rfl ?_
  exact TX13_sameTokens_0 ha1 ha2 hJ h
def PX13_compareMakers_179 (J : Nat → List Int → gS → (Int → gS → Prop) → Prop) (l1 : Int) (l2 : Int) (l3 : Int) (l4 : Int) (G : gS) (Q : Int → gS → Prop) : Prop :=
  (inI (l3 + 1) ∧ J 1 [l1, l2, l3 + 1] G Q)
set_option maxRecDepth 20000 in
theorem TX13_compareMakers_179 {j : Nat → rx_K} {J : Nat → List Int → gS → (Int → gS → Prop) → Prop} {l1 : Int} {l2 : Int} {l3 : Int} {l4 : Int} {l5 : Nat} {G : gS} {Q : Int → gS → Prop} (hl1 : inI l1) (hl2 : inI l2) (hl3 : inI l3) (hl4 : inI l4) (hl5 : l5 % 8 ≠ 1) (hj0 : ∀ (l1 : Int) (l2 : Int) (l3 : Int) (l4 : Nat) (l5 : Nat) (G : gS), (inI l1) → (inI l2) → (inI l3) → (l4 % 8 ≠ 1) → (l5 % 8 ≠ 1) → J 0 [l1, l2, l3] G Q → Tg W0 (j 0) [rf (16081), cI (l1), cI (l2), cI (l3), l4, l5] [] G (fun r G => r = 7 ∧ Q 0 G)) (hj1 : ∀ (l1 : Int) (l2 : Int) (l3 : Int) (l4 : Nat) (l5 : Nat) (G : gS), (inI l1) → (inI l2) → (inI l3) → (l4 % 8 ≠ 1) → (l5 % 8 ≠ 1) → J 1 [l1, l2, l3] G Q → Tg W0 (j 1) [rf (16081), cI (l1), cI (l2), cI (l3), l4, l5] [] G (fun r G => r = 7 ∧ Q 0 G)) (h : PX13_compareMakers_179 J l1 l2 l3 l4 G Q) : Tg W0 (vX13_compareMakers_179 j) [rf (16081), cI (l1), cI (l2), cI (l3), cI (l4), l5] [] G (fun r G => r = 7 ∧ Q 0 G) := by
  unfold PX13_compareMakers_179 at h
  unfold vX13_compareMakers_179
  refine g_inc (lv' := [_, _, _, _, _, _]) rfl (Nat.le_of_ble_eq_true rfl) (Or.inr (n1_I _)) rfl ?_
  obtain ⟨q45, h⟩ := h
  exact hj1 _ _ _ _ _ _ hl1 hl2 q45 (n1_I _) hl5 h
def PX13_compareMakers_126 (J : Nat → List Int → gS → (Int → gS → Prop) → Prop) (l1 : Int) (l2 : Int) (l3 : Int) (G : gS) (Q : Int → gS → Prop) : Prop :=
  ((0 : Int) ≤ l2 ∧ ((l2 : Int) < 216 ∧ (inI (G 16115 l2) → ((l3 < G 16115 l2 → (inI ((l2 * 34) + l3) ∧ ((0 : Int) ≤ (l2 * 34) + l3 ∧ (((l2 * 34) + l3 : Int) < 7344 ∧ (inI (G 16116 ((l2 * 34) + l3)) → ((G 16116 ((l2 * 34) + l3) = 2 → PX13_alike l1 ((l2 * 34) + l3) G (fun r30 G29 => inI r30 → ((r30 = -2 → PX13_differs 54 l1 l2 (-2) ((l2 * 34) + l3) G29 (fun _ G33 => PX13_compareMakers_179 J l1 l2 l3 ((l2 * 34) + l3) G33 Q)) ∧ (¬ (r30 = -2) → PX13_compareMakers_179 J l1 l2 l3 ((l2 * 34) + l3) G29 Q)))) ∧ (¬ (G 16116 ((l2 * 34) + l3) = 2) → PX13_compareMakers_179 J l1 l2 l3 ((l2 * 34) + l3) G Q))))))) ∧ (¬ (l3 < G 16115 l2) → Q 0 G)))))
set_option maxRecDepth 20000 in
theorem TX13_compareMakers_126 {j : Nat → rx_K} {J : Nat → List Int → gS → (Int → gS → Prop) → Prop} {l1 : Int} {l2 : Int} {l3 : Int} {l4 : Nat} {l5 : Nat} {G : gS} {Q : Int → gS → Prop} (hl1 : inI l1) (hl2 : inI l2) (hl3 : inI l3) (hl4 : l4 % 8 ≠ 1) (hl5 : l5 % 8 ≠ 1) (hj0 : ∀ (l1 : Int) (l2 : Int) (l3 : Int) (l4 : Nat) (l5 : Nat) (G : gS), (inI l1) → (inI l2) → (inI l3) → (l4 % 8 ≠ 1) → (l5 % 8 ≠ 1) → J 0 [l1, l2, l3] G Q → Tg W0 (j 0) [rf (16081), cI (l1), cI (l2), cI (l3), l4, l5] [] G (fun r G => r = 7 ∧ Q 0 G)) (hj1 : ∀ (l1 : Int) (l2 : Int) (l3 : Int) (l4 : Nat) (l5 : Nat) (G : gS), (inI l1) → (inI l2) → (inI l3) → (l4 % 8 ≠ 1) → (l5 % 8 ≠ 1) → J 1 [l1, l2, l3] G Q → Tg W0 (j 1) [rf (16081), cI (l1), cI (l2), cI (l3), l4, l5] [] G (fun r G => r = 7 ∧ Q 0 G)) (h : PX13_compareMakers_126 J l1 l2 l3 G Q) : Tg W0 (vX13_compareMakers_126 j) [rf (16081), cI (l1), cI (l2), cI (l3), l4, l5] [] G (fun r G => r = 7 ∧ Q 0 G) := by
  unfold PX13_compareMakers_126 at h
  unfold vX13_compareMakers_126
  refine g_ld (v := cI _) rfl (is_I _) ?_
  refine g_ld (v := rf _) rfl (is_R _) ?_
  refine g_getF (v := 16115) oC13 (hC13_41) rfl (Nat.le_of_ble_eq_true rfl) (Nat.le_of_ble_eq_true rfl) ?_
  refine g_ld (v := cI _) rfl (is_I _) ?_
  obtain ⟨q20, q21, h⟩ := h
  refine g_aldI aC16115 q20 q21 rfl fun i22 => ?_
  replace h := h i22
  refine g_lt2 hl3 i22 (fun b23 => ?_) (fun b23 => ?_)
  · replace h := h.1 b23
    unfold vX13_compareMakers_136
    refine g_ld (v := cI _) rfl (is_I _) ?_
    refine g_const (v := cI (34)) rfl ?_
    refine g_mul ?_
    refine g_ld (v := cI _) rfl (is_I _) ?_
    refine g_add ?_
    refine g_st (lv' := [_, _, _, _, _, _]) (is_I _) (Nat.le_of_ble_eq_true rfl) (Or.inr (n1_I _)) rfl ?_
    obtain ⟨q24, h⟩ := h
    refine g_ld (v := rf _) rfl (is_R _) ?_
    refine g_getF (v := 16116) oC13 (hC13_42) rfl (Nat.le_of_ble_eq_true rfl) (Nat.le_of_ble_eq_true rfl) ?_
    refine g_ld (v := cI _) rfl (is_I _) ?_
    obtain ⟨q25, q26, h⟩ := h
    refine g_aldI aC16116 q25 q26 rfl fun i27 => ?_
    replace h := h i27
    refine g_const (v := cI (2)) rfl ?_
    refine g_eq2 i27 ⟨by omega, by omega⟩ (fun b28 => ?_) (fun b28 => ?_)
    · replace h := h.1 b28
      unfold vX13_compareMakers_155
      refine g_ld (v := rf _) rfl (is_R _) ?_
      refine g_ld (v := cI _) rfl (is_I _) ?_
      refine g_ld (v := cI _) rfl (is_I _) ?_
      refine g_callV (As := [_, _]) (ci := 13) oC13 (fun _ => rfl) ?_
      refine g_go1 (Nat.le_of_ble_eq_true rfl) (Tn_w (TX13_alike hl1 q24 h) fun _ G29 ⟨r30, e, i31, h⟩ => ?_)
      subst e
      refine ⟨n7_I _, ?_⟩
      replace h := h i31
      refine g_const (v := cI (-2)) rfl ?_
      refine g_eq2 i31 ⟨by omega, by omega⟩ (fun b32 => ?_) (fun b32 => ?_)
      · replace h := h.1 b32
        unfold vX13_compareMakers_167
        refine g_ld (v := rf _) rfl (is_R _) ?_
        refine g_const (v := cI (54)) rfl ?_
        refine g_ld (v := cI _) rfl (is_I _) ?_
        refine g_ld (v := cI _) rfl (is_I _) ?_
        refine g_const (v := cI (-2)) rfl ?_
        refine g_ld (v := cI _) rfl (is_I _) ?_
        refine g_callV (As := [_, _, _, _, _]) (ci := 13) oC13 (fun _ => rfl) ?_
        refine g_go0 (Nat.le_of_ble_eq_true rfl) (Tn_w (TX13_differs ⟨by omega, by omega⟩ hl1 hl2 ⟨by omega, by omega⟩ q24 h) fun _ G33 ⟨e, h⟩ => ⟨e, ?_⟩)
        exact TX13_compareMakers_179 hl1 hl2 hl3 q24 hl5 hj0 hj1 h
      · replace h := h.2 b32
        exact TX13_compareMakers_179 hl1 hl2 hl3 q24 hl5 hj0 hj1 h
    · replace h := h.2 b28
      exact TX13_compareMakers_179 hl1 hl2 hl3 q24 hl5 hj0 hj1 h
  · replace h := h.2 b23
    unfold vX13_compareMakers_185
    exact g_ret0 ⟨rfl, h⟩
def PX13_compareMakers_118 (J : Nat → List Int → gS → (Int → gS → Prop) → Prop) (l1 : Int) (l2 : Int) (l3 : Int) (l4 : Int) (l5 : Int) (G : gS) (Q : Int → gS → Prop) : Prop :=
  (inI (l3 + 1) ∧ J 0 [l1, l2, l3 + 1] G Q)
set_option maxRecDepth 20000 in
theorem TX13_compareMakers_118 {j : Nat → rx_K} {J : Nat → List Int → gS → (Int → gS → Prop) → Prop} {l1 : Int} {l2 : Int} {l3 : Int} {l4 : Int} {l5 : Int} {G : gS} {Q : Int → gS → Prop} (hl1 : inI l1) (hl2 : inI l2) (hl3 : inI l3) (hl4 : inI l4) (hl5 : inI l5) (hj0 : ∀ (l1 : Int) (l2 : Int) (l3 : Int) (l4 : Nat) (l5 : Nat) (G : gS), (inI l1) → (inI l2) → (inI l3) → (l4 % 8 ≠ 1) → (l5 % 8 ≠ 1) → J 0 [l1, l2, l3] G Q → Tg W0 (j 0) [rf (16081), cI (l1), cI (l2), cI (l3), l4, l5] [] G (fun r G => r = 7 ∧ Q 0 G)) (hj1 : ∀ (l1 : Int) (l2 : Int) (l3 : Int) (l4 : Nat) (l5 : Nat) (G : gS), (inI l1) → (inI l2) → (inI l3) → (l4 % 8 ≠ 1) → (l5 % 8 ≠ 1) → J 1 [l1, l2, l3] G Q → Tg W0 (j 1) [rf (16081), cI (l1), cI (l2), cI (l3), l4, l5] [] G (fun r G => r = 7 ∧ Q 0 G)) (h : PX13_compareMakers_118 J l1 l2 l3 l4 l5 G Q) : Tg W0 (vX13_compareMakers_118 j) [rf (16081), cI (l1), cI (l2), cI (l3), cI (l4), cI (l5)] [] G (fun r G => r = 7 ∧ Q 0 G) := by
  unfold PX13_compareMakers_118 at h
  unfold vX13_compareMakers_118
  refine g_inc (lv' := [_, _, _, _, _, _]) rfl (Nat.le_of_ble_eq_true rfl) (Or.inr (n1_I _)) rfl ?_
  obtain ⟨q35, h⟩ := h
  exact hj0 _ _ _ _ _ _ hl1 hl2 q35 (n1_I _) (n1_I _) h
def PX13_compareMakers_78 (J : Nat → List Int → gS → (Int → gS → Prop) → Prop) (l1 : Int) (l2 : Int) (l3 : Int) (l4 : Int) (l5 : Int) (G : gS) (Q : Int → gS → Prop) : Prop :=
  ((l5 = -2 → PX13_compareMakers_118 J l1 l2 l3 l4 l5 G Q) ∧ (¬ (l5 = -2) → PX13_accessOf 51 l4 l5 G (fun _ G37 => PX13_sameTokens l4 l5 G37 (fun r40 G39 => (0 ≤ r40 ∧ r40 ≤ 1) → ((r40 = 0 → PX13_differs 53 l1 l2 l4 l5 G39 (fun _ G43 => PX13_compareMakers_118 J l1 l2 l3 l4 l5 G43 Q)) ∧ (¬ (r40 = 0) → PX13_compareMakers_118 J l1 l2 l3 l4 l5 G39 Q))))))
set_option maxRecDepth 20000 in
theorem TX13_compareMakers_78 {j : Nat → rx_K} {J : Nat → List Int → gS → (Int → gS → Prop) → Prop} {l1 : Int} {l2 : Int} {l3 : Int} {l4 : Int} {l5 : Int} {G : gS} {Q : Int → gS → Prop} (hl1 : inI l1) (hl2 : inI l2) (hl3 : inI l3) (hl4 : inI l4) (hl5 : inI l5) (hj0 : ∀ (l1 : Int) (l2 : Int) (l3 : Int) (l4 : Nat) (l5 : Nat) (G : gS), (inI l1) → (inI l2) → (inI l3) → (l4 % 8 ≠ 1) → (l5 % 8 ≠ 1) → J 0 [l1, l2, l3] G Q → Tg W0 (j 0) [rf (16081), cI (l1), cI (l2), cI (l3), l4, l5] [] G (fun r G => r = 7 ∧ Q 0 G)) (hj1 : ∀ (l1 : Int) (l2 : Int) (l3 : Int) (l4 : Nat) (l5 : Nat) (G : gS), (inI l1) → (inI l2) → (inI l3) → (l4 % 8 ≠ 1) → (l5 % 8 ≠ 1) → J 1 [l1, l2, l3] G Q → Tg W0 (j 1) [rf (16081), cI (l1), cI (l2), cI (l3), l4, l5] [] G (fun r G => r = 7 ∧ Q 0 G)) (h : PX13_compareMakers_78 J l1 l2 l3 l4 l5 G Q) : Tg W0 (vX13_compareMakers_78 j) [rf (16081), cI (l1), cI (l2), cI (l3), cI (l4), cI (l5)] [] G (fun r G => r = 7 ∧ Q 0 G) := by
  unfold PX13_compareMakers_78 at h
  unfold vX13_compareMakers_78
  refine g_ld (v := cI _) rfl (is_I _) ?_
  refine g_const (v := cI (-2)) rfl ?_
  refine g_eq2 hl5 ⟨by omega, by omega⟩ (fun b36 => ?_) (fun b36 => ?_)
  · replace h := h.1 b36
    exact TX13_compareMakers_118 hl1 hl2 hl3 hl4 hl5 hj0 hj1 h
  · replace h := h.2 b36
    unfold vX13_compareMakers_85
    refine g_ld (v := rf _) rfl (is_R _) ?_
    refine g_const (v := cI (51)) rfl ?_
    refine g_ld (v := cI _) rfl (is_I _) ?_
    refine g_ld (v := cI _) rfl (is_I _) ?_
    refine g_callV (As := [_, _, _]) (ci := 13) oC13 (fun _ => rfl) ?_
    refine g_go0 (Nat.le_of_ble_eq_true rfl) (Tn_w (TX13_accessOf ⟨by omega, by omega⟩ hl4 hl5 h) fun _ G37 ⟨e, h⟩ => ⟨e, ?_⟩)
    refine g_ld (v := rf _) rfl (is_R _) ?_
    refine g_ld (v := cI _) rfl (is_I _) ?_
    refine g_ld (v := cI _) rfl (is_I _) ?_
    refine g_callV (As := [_, _]) (ci := 13) oC13 (fun _ => rfl) ?_
    refine g_go1 (Nat.le_of_ble_eq_true rfl) (Tn_w (TX13_sameTokens hl4 hl5 h) fun _ G39 ⟨r40, e, i41, h⟩ => ?_)
    subst e
    refine ⟨n7_I _, ?_⟩
    replace h := h i41
    refine g_eq1 ⟨by omega, by omega⟩ (fun b42 => ?_) (fun b42 => ?_)
    · replace h := h.1 b42
      unfold vX13_compareMakers_106
      refine g_ld (v := rf _) rfl (is_R _) ?_
      refine g_const (v := cI (53)) rfl ?_
      refine g_ld (v := cI _) rfl (is_I _) ?_
      refine g_ld (v := cI _) rfl (is_I _) ?_
      refine g_ld (v := cI _) rfl (is_I _) ?_
      refine g_ld (v := cI _) rfl (is_I _) ?_
      refine g_callV (As := [_, _, _, _, _]) (ci := 13) oC13 (fun _ => rfl) ?_
      refine g_go0 (Nat.le_of_ble_eq_true rfl) (Tn_w (TX13_differs ⟨by omega, by omega⟩ hl1 hl2 hl4 hl5 h) fun _ G43 ⟨e, h⟩ => ⟨e, ?_⟩)
      exact TX13_compareMakers_118 hl1 hl2 hl3 hl4 hl5 hj0 hj1 h
    · replace h := h.2 b42
      exact TX13_compareMakers_118 hl1 hl2 hl3 hl4 hl5 hj0 hj1 h
def PX13_compareMakers_43 (J : Nat → List Int → gS → (Int → gS → Prop) → Prop) (l1 : Int) (l2 : Int) (l3 : Int) (l4 : Int) (s0 : Int) (G : gS) (Q : Int → gS → Prop) : Prop :=
  ((0 : Int) ≤ l4 ∧ ((l4 : Int) < 7344 ∧ (inI (G 16116 l4) → ((G 16116 l4 = 2 → ((s0 = -2 → PX13_differs 50 l1 l2 l4 (-2) G (fun _ G18 => PX13_compareMakers_118 J l1 l2 l3 l4 s0 G18 Q)) ∧ (¬ (s0 = -2) → PX13_compareMakers_78 J l1 l2 l3 l4 s0 G Q))) ∧ (¬ (G 16116 l4 = 2) → PX13_compareMakers_78 J l1 l2 l3 l4 s0 G Q)))))
set_option maxRecDepth 20000 in
theorem TX13_compareMakers_43 {j : Nat → rx_K} {J : Nat → List Int → gS → (Int → gS → Prop) → Prop} {l1 : Int} {l2 : Int} {l3 : Int} {l4 : Int} {l5 : Nat} {s0 : Int} {G : gS} {Q : Int → gS → Prop} (hl1 : inI l1) (hl2 : inI l2) (hl3 : inI l3) (hl4 : inI l4) (hl5 : l5 % 8 ≠ 1) (hs0 : inI s0) (hj0 : ∀ (l1 : Int) (l2 : Int) (l3 : Int) (l4 : Nat) (l5 : Nat) (G : gS), (inI l1) → (inI l2) → (inI l3) → (l4 % 8 ≠ 1) → (l5 % 8 ≠ 1) → J 0 [l1, l2, l3] G Q → Tg W0 (j 0) [rf (16081), cI (l1), cI (l2), cI (l3), l4, l5] [] G (fun r G => r = 7 ∧ Q 0 G)) (hj1 : ∀ (l1 : Int) (l2 : Int) (l3 : Int) (l4 : Nat) (l5 : Nat) (G : gS), (inI l1) → (inI l2) → (inI l3) → (l4 % 8 ≠ 1) → (l5 % 8 ≠ 1) → J 1 [l1, l2, l3] G Q → Tg W0 (j 1) [rf (16081), cI (l1), cI (l2), cI (l3), l4, l5] [] G (fun r G => r = 7 ∧ Q 0 G)) (h : PX13_compareMakers_43 J l1 l2 l3 l4 s0 G Q) : Tg W0 (vX13_compareMakers_43 j) [rf (16081), cI (l1), cI (l2), cI (l3), cI (l4), l5] [cI (s0)] G (fun r G => r = 7 ∧ Q 0 G) := by
  unfold PX13_compareMakers_43 at h
  unfold vX13_compareMakers_43
  refine g_st (lv' := [_, _, _, _, _, _]) (is_I _) (Nat.le_of_ble_eq_true rfl) (Or.inr (n1_I _)) rfl ?_
  refine g_ld (v := rf _) rfl (is_R _) ?_
  refine g_getF (v := 16116) oC13 (hC13_42) rfl (Nat.le_of_ble_eq_true rfl) (Nat.le_of_ble_eq_true rfl) ?_
  refine g_ld (v := cI _) rfl (is_I _) ?_
  obtain ⟨q13, q14, h⟩ := h
  refine g_aldI aC16116 q13 q14 rfl fun i15 => ?_
  replace h := h i15
  refine g_const (v := cI (2)) rfl ?_
  refine g_eq2 i15 ⟨by omega, by omega⟩ (fun b16 => ?_) (fun b16 => ?_)
  · replace h := h.1 b16
    unfold vX13_compareMakers_56
    refine g_ld (v := cI _) rfl (is_I _) ?_
    refine g_const (v := cI (-2)) rfl ?_
    refine g_eq2 hs0 ⟨by omega, by omega⟩ (fun b17 => ?_) (fun b17 => ?_)
    · replace h := h.1 b17
      unfold vX13_compareMakers_63
      refine g_ld (v := rf _) rfl (is_R _) ?_
      refine g_const (v := cI (50)) rfl ?_
      refine g_ld (v := cI _) rfl (is_I _) ?_
      refine g_ld (v := cI _) rfl (is_I _) ?_
      refine g_ld (v := cI _) rfl (is_I _) ?_
      refine g_const (v := cI (-2)) rfl ?_
      refine g_callV (As := [_, _, _, _, _]) (ci := 13) oC13 (fun _ => rfl) ?_
      refine g_go0 (Nat.le_of_ble_eq_true rfl) (Tn_w (TX13_differs ⟨by omega, by omega⟩ hl1 hl2 hl4 ⟨by omega, by omega⟩ h) fun _ G18 ⟨e, h⟩ => ⟨e, ?_⟩)
      exact TX13_compareMakers_118 hl1 hl2 hl3 hl4 hs0 hj0 hj1 h
    · replace h := h.2 b17
      exact TX13_compareMakers_78 hl1 hl2 hl3 hl4 hs0 hj0 hj1 h
  · replace h := h.2 b16
    exact TX13_compareMakers_78 hl1 hl2 hl3 hl4 hs0 hj0 hj1 h
def PX13_compareMakers_2 (J : Nat → List Int → gS → (Int → gS → Prop) → Prop) (l1 : Int) (l2 : Int) (l3 : Int) (G : gS) (Q : Int → gS → Prop) : Prop :=
  ((0 : Int) ≤ l1 ∧ ((l1 : Int) < 216 ∧ (inI (G 16115 l1) → ((l3 < G 16115 l1 → (inI ((l1 * 34) + l3) ∧ ((0 : Int) ≤ (l1 * 34) + l3 ∧ (((l1 * 34) + l3 : Int) < 7344 ∧ (inI (G 16116 ((l1 * 34) + l3)) → ((G 16116 ((l1 * 34) + l3) = 2 → PX13_alike l2 ((l1 * 34) + l3) G (fun r11 G10 => inI r11 → PX13_compareMakers_43 J l1 l2 l3 ((l1 * 34) + l3) r11 G10 Q)) ∧ (¬ (G 16116 ((l1 * 34) + l3) = 2) → PX13_compareMakers_43 J l1 l2 l3 ((l1 * 34) + l3) (-2) G Q))))))) ∧ (¬ (l3 < G 16115 l1) → PX13_compareMakers_126 J l1 l2 0 G Q)))))
set_option maxRecDepth 20000 in
theorem TX13_compareMakers_2 {j : Nat → rx_K} {J : Nat → List Int → gS → (Int → gS → Prop) → Prop} {l1 : Int} {l2 : Int} {l3 : Int} {l4 : Nat} {l5 : Nat} {G : gS} {Q : Int → gS → Prop} (hl1 : inI l1) (hl2 : inI l2) (hl3 : inI l3) (hl4 : l4 % 8 ≠ 1) (hl5 : l5 % 8 ≠ 1) (hj0 : ∀ (l1 : Int) (l2 : Int) (l3 : Int) (l4 : Nat) (l5 : Nat) (G : gS), (inI l1) → (inI l2) → (inI l3) → (l4 % 8 ≠ 1) → (l5 % 8 ≠ 1) → J 0 [l1, l2, l3] G Q → Tg W0 (j 0) [rf (16081), cI (l1), cI (l2), cI (l3), l4, l5] [] G (fun r G => r = 7 ∧ Q 0 G)) (hj1 : ∀ (l1 : Int) (l2 : Int) (l3 : Int) (l4 : Nat) (l5 : Nat) (G : gS), (inI l1) → (inI l2) → (inI l3) → (l4 % 8 ≠ 1) → (l5 % 8 ≠ 1) → J 1 [l1, l2, l3] G Q → Tg W0 (j 1) [rf (16081), cI (l1), cI (l2), cI (l3), l4, l5] [] G (fun r G => r = 7 ∧ Q 0 G)) (h : PX13_compareMakers_2 J l1 l2 l3 G Q) : Tg W0 (vX13_compareMakers_2 j) [rf (16081), cI (l1), cI (l2), cI (l3), l4, l5] [] G (fun r G => r = 7 ∧ Q 0 G) := by
  unfold PX13_compareMakers_2 at h
  unfold vX13_compareMakers_2
  refine g_ld (v := cI _) rfl (is_I _) ?_
  refine g_ld (v := rf _) rfl (is_R _) ?_
  refine g_getF (v := 16115) oC13 (hC13_41) rfl (Nat.le_of_ble_eq_true rfl) (Nat.le_of_ble_eq_true rfl) ?_
  refine g_ld (v := cI _) rfl (is_I _) ?_
  obtain ⟨q1, q2, h⟩ := h
  refine g_aldI aC16115 q1 q2 rfl fun i3 => ?_
  replace h := h i3
  refine g_lt2 hl3 i3 (fun b4 => ?_) (fun b4 => ?_)
  · replace h := h.1 b4
    unfold vX13_compareMakers_12
    refine g_ld (v := cI _) rfl (is_I _) ?_
    refine g_const (v := cI (34)) rfl ?_
    refine g_mul ?_
    refine g_ld (v := cI _) rfl (is_I _) ?_
    refine g_add ?_
    refine g_st (lv' := [_, _, _, _, _, _]) (is_I _) (Nat.le_of_ble_eq_true rfl) (Or.inr (n1_I _)) rfl ?_
    obtain ⟨q5, h⟩ := h
    refine g_ld (v := rf _) rfl (is_R _) ?_
    refine g_getF (v := 16116) oC13 (hC13_42) rfl (Nat.le_of_ble_eq_true rfl) (Nat.le_of_ble_eq_true rfl) ?_
    refine g_ld (v := cI _) rfl (is_I _) ?_
    obtain ⟨q6, q7, h⟩ := h
    refine g_aldI aC16116 q6 q7 rfl fun i8 => ?_
    replace h := h i8
    refine g_const (v := cI (2)) rfl ?_
    refine g_eq2 i8 ⟨by omega, by omega⟩ (fun b9 => ?_) (fun b9 => ?_)
    · replace h := h.1 b9
      unfold vX13_compareMakers_31
      refine g_ld (v := rf _) rfl (is_R _) ?_
      refine g_ld (v := cI _) rfl (is_I _) ?_
      refine g_ld (v := cI _) rfl (is_I _) ?_
      refine g_callV (As := [_, _]) (ci := 13) oC13 (fun _ => rfl) ?_
      refine g_go1 (Nat.le_of_ble_eq_true rfl) (Tn_w (TX13_alike hl2 q5 h) fun _ G10 ⟨r11, e, i12, h⟩ => ?_)
      subst e
      refine ⟨n7_I _, ?_⟩
      replace h := h i12
      exact TX13_compareMakers_43 hl1 hl2 hl3 q5 hl5 i12 hj0 hj1 h
    · replace h := h.2 b9
      unfold vX13_compareMakers_41
      refine g_const (v := cI (-2)) rfl ?_
      exact TX13_compareMakers_43 hl1 hl2 hl3 q5 hl5 ⟨by omega, by omega⟩ hj0 hj1 h
  · replace h := h.2 b4
    unfold vX13_compareMakers_124
    refine g_const (v := cI (0)) rfl ?_
    refine g_st (lv' := [_, _, _, _, _, _]) (is_I _) (Nat.le_of_ble_eq_true rfl) (Or.inr (n1_I _)) rfl ?_
    exact TX13_compareMakers_126 hl1 hl2 ⟨by omega, by omega⟩ hl4 hl5 hj0 hj1 h
def PX13_compareMakers_0 (J : Nat → List Int → gS → (Int → gS → Prop) → Prop) (a1 : Int) (a2 : Int) (G : gS) (Q : Int → gS → Prop) : Prop :=
  PX13_compareMakers_2 J a1 a2 0 G Q
set_option maxRecDepth 20000 in
theorem TX13_compareMakers_0 {j : Nat → rx_K} {J : Nat → List Int → gS → (Int → gS → Prop) → Prop} {a1 : Int} {a2 : Int} {G : gS} {Q : Int → gS → Prop} (ha1 : inI a1) (ha2 : inI a2) (hj0 : ∀ (l1 : Int) (l2 : Int) (l3 : Int) (l4 : Nat) (l5 : Nat) (G : gS), (inI l1) → (inI l2) → (inI l3) → (l4 % 8 ≠ 1) → (l5 % 8 ≠ 1) → J 0 [l1, l2, l3] G Q → Tg W0 (j 0) [rf (16081), cI (l1), cI (l2), cI (l3), l4, l5] [] G (fun r G => r = 7 ∧ Q 0 G)) (hj1 : ∀ (l1 : Int) (l2 : Int) (l3 : Int) (l4 : Nat) (l5 : Nat) (G : gS), (inI l1) → (inI l2) → (inI l3) → (l4 % 8 ≠ 1) → (l5 % 8 ≠ 1) → J 1 [l1, l2, l3] G Q → Tg W0 (j 1) [rf (16081), cI (l1), cI (l2), cI (l3), l4, l5] [] G (fun r G => r = 7 ∧ Q 0 G)) (h : PX13_compareMakers_0 J a1 a2 G Q) : Tg W0 (vX13_compareMakers_0 j) [rf (16081), cI (a1), cI (a2), 7, 7, 7] [] G (fun r G => r = 7 ∧ Q 0 G) := by
  unfold PX13_compareMakers_0 at h
  unfold vX13_compareMakers_0
  refine g_const (v := cI (0)) rfl ?_
  refine g_st (lv' := [_, _, _, _, _, _]) (is_I _) (Nat.le_of_ble_eq_true rfl) (Or.inr (n1_I _)) rfl ?_
  exact TX13_compareMakers_2 ha1 ha2 ⟨by omega, by omega⟩ (show 7 % 8 ≠ 1 by decide) (show 7 % 8 ≠ 1 by decide) hj0 hj1 h
def PX13_compareMakers_J : Nat → Nat → List Int → gS → (Int → gS → Prop) → Prop
  | 0, _, _, _, _ => False
  | f + 1, h, L, G, Q => match h, L with
    | 0, [l1, l2, l3] => PX13_compareMakers_2 (PX13_compareMakers_J f) l1 l2 l3 G Q
    | 1, [l1, l2, l3] => PX13_compareMakers_126 (PX13_compareMakers_J f) l1 l2 l3 G Q
    | _, _ => False
theorem TX13_compareMakers_J {Q : Int → gS → Prop} : ∀ f N : Nat, f ≤ N → (∀ (l1 : Int) (l2 : Int) (l3 : Int) (l4 : Nat) (l5 : Nat) (G : gS), (inI l1) → (inI l2) → (inI l3) → (l4 % 8 ≠ 1) → (l5 % 8 ≠ 1) → (PX13_compareMakers_J f) 0 [l1, l2, l3] G Q → Tg W0 (rx_J vhX13_compareMakers N 0) [rf (16081), cI (l1), cI (l2), cI (l3), l4, l5] [] G (fun r G => r = 7 ∧ Q 0 G)) ∧ (∀ (l1 : Int) (l2 : Int) (l3 : Int) (l4 : Nat) (l5 : Nat) (G : gS), (inI l1) → (inI l2) → (inI l3) → (l4 % 8 ≠ 1) → (l5 % 8 ≠ 1) → (PX13_compareMakers_J f) 1 [l1, l2, l3] G Q → Tg W0 (rx_J vhX13_compareMakers N 1) [rf (16081), cI (l1), cI (l2), cI (l3), l4, l5] [] G (fun r G => r = 7 ∧ Q 0 G)) := by
  intro f
  induction f with
  | zero => exact fun N _ => ⟨fun _ _ _ _ _ _ _ _ _ _ _ h => h.elim, fun _ _ _ _ _ _ _ _ _ _ _ h => h.elim⟩
  | succ f ih =>
    intro N hN
    obtain ⟨M, rfl⟩ : ∃ M, N = M + 1 := ⟨N - 1, by omega⟩
    have ih := ih M (by omega)
    exact ⟨fun _ _ _ _ _ _ hl1 hl2 hl3 hl4 hl5 h => show Tg W0 (vX13_compareMakers_2 (rx_J vhX13_compareMakers M)) _ _ _ _ from TX13_compareMakers_2 hl1 hl2 hl3 hl4 hl5 ih.1 ih.2 h, fun _ _ _ _ _ _ hl1 hl2 hl3 hl4 hl5 h => show Tg W0 (vX13_compareMakers_126 (rx_J vhX13_compareMakers M)) _ _ _ _ from TX13_compareMakers_126 hl1 hl2 hl3 hl4 hl5 ih.1 ih.2 h⟩
def PX13_compareMakers (a1 : Int) (a2 : Int) (G : gS) (Q : Int → gS → Prop) : Prop := ∃ f : Nat, f ≤ 4000000000 ∧ PX13_compareMakers_0 (PX13_compareMakers_J f) a1 a2 G Q
theorem TX13_compareMakers {a1 : Int} {a2 : Int} {G : gS} {Q : Int → gS → Prop} (ha1 : inI a1) (ha2 : inI a2) (h : PX13_compareMakers a1 a2 G Q) : Tn W0 FX13_compareMakers [rf (16081), cI (a1), cI (a2)] G (fun r G => r = 7 ∧ Q 0 G) := by
  obtain ⟨f, hf, h⟩ := h
  have hJ := TX13_compareMakers_J (Q := Q) f 4000000000 hf
  unfold FX13_compareMakers
  refine g_ent (lv' := [rf (16081), cI (a1), cI (a2), 7, 7, 7]) (flR (flI (flI fl0))) (Nat.le_of_ble_eq_true rfl) rfl ?_
  exact TX13_compareMakers_0 ha1 ha2 hJ.1 hJ.2 h
def PX13_compareMethods_360 (J : Nat → List Int → gS → (Int → gS → Prop) → Prop) (l1 : Int) (l2 : Int) (l3 : Int) (l4 : Int) (G : gS) (Q : Int → gS → Prop) : Prop :=
  (inI (l3 + 1) ∧ J 1 [l1, l2, l3 + 1] G Q)
set_option maxRecDepth 20000 in
theorem TX13_compareMethods_360 {j : Nat → rx_K} {J : Nat → List Int → gS → (Int → gS → Prop) → Prop} {l1 : Int} {l2 : Int} {l3 : Int} {l4 : Int} {l5 : Nat} {G : gS} {Q : Int → gS → Prop} (hl1 : inI l1) (hl2 : inI l2) (hl3 : inI l3) (hl4 : inI l4) (hl5 : l5 % 8 ≠ 1) (hj0 : ∀ (l1 : Int) (l2 : Int) (l3 : Int) (l4 : Nat) (l5 : Nat) (G : gS), (inI l1) → (inI l2) → (inI l3) → (l4 % 8 ≠ 1) → (l5 % 8 ≠ 1) → J 0 [l1, l2, l3] G Q → Tg W0 (j 0) [rf (16081), cI (l1), cI (l2), cI (l3), l4, l5] [] G (fun r G => r = 7 ∧ Q 0 G)) (hj1 : ∀ (l1 : Int) (l2 : Int) (l3 : Int) (l4 : Nat) (l5 : Nat) (G : gS), (inI l1) → (inI l2) → (inI l3) → (l4 % 8 ≠ 1) → (l5 % 8 ≠ 1) → J 1 [l1, l2, l3] G Q → Tg W0 (j 1) [rf (16081), cI (l1), cI (l2), cI (l3), l4, l5] [] G (fun r G => r = 7 ∧ Q 0 G)) (h : PX13_compareMethods_360 J l1 l2 l3 l4 G Q) : Tg W0 (vX13_compareMethods_360 j) [rf (16081), cI (l1), cI (l2), cI (l3), cI (l4), l5] [] G (fun r G => r = 7 ∧ Q 0 G) := by
  unfold PX13_compareMethods_360 at h
  unfold vX13_compareMethods_360
  refine g_inc (lv' := [_, _, _, _, _, _]) rfl (Nat.le_of_ble_eq_true rfl) (Or.inr (n1_I _)) rfl ?_
  obtain ⟨q109, h⟩ := h
  exact hj1 _ _ _ _ _ _ hl1 hl2 q109 (n1_I _) hl5 h
def PX13_compareMethods_351 (J : Nat → List Int → gS → (Int → gS → Prop) → Prop) (l1 : Int) (l2 : Int) (l3 : Int) (l4 : Int) (s0 : Int) (s1 : Int) (G : gS) (Q : Int → gS → Prop) : Prop :=
  (isO W0 13 (s0) ∧ PX13_differs s1 l1 l2 (-2) l4 G (fun _ G107 => PX13_compareMethods_360 J l1 l2 l3 l4 G107 Q))
set_option maxRecDepth 20000 in
theorem TX13_compareMethods_351 {j : Nat → rx_K} {J : Nat → List Int → gS → (Int → gS → Prop) → Prop} {l1 : Int} {l2 : Int} {l3 : Int} {l4 : Int} {l5 : Nat} {s0 : Int} {s1 : Int} {G : gS} {Q : Int → gS → Prop} (hl1 : inI l1) (hl2 : inI l2) (hl3 : inI l3) (hl4 : inI l4) (hl5 : l5 % 8 ≠ 1) (hs1 : inI s1) (hj0 : ∀ (l1 : Int) (l2 : Int) (l3 : Int) (l4 : Nat) (l5 : Nat) (G : gS), (inI l1) → (inI l2) → (inI l3) → (l4 % 8 ≠ 1) → (l5 % 8 ≠ 1) → J 0 [l1, l2, l3] G Q → Tg W0 (j 0) [rf (16081), cI (l1), cI (l2), cI (l3), l4, l5] [] G (fun r G => r = 7 ∧ Q 0 G)) (hj1 : ∀ (l1 : Int) (l2 : Int) (l3 : Int) (l4 : Nat) (l5 : Nat) (G : gS), (inI l1) → (inI l2) → (inI l3) → (l4 % 8 ≠ 1) → (l5 % 8 ≠ 1) → J 1 [l1, l2, l3] G Q → Tg W0 (j 1) [rf (16081), cI (l1), cI (l2), cI (l3), l4, l5] [] G (fun r G => r = 7 ∧ Q 0 G)) (h : PX13_compareMethods_351 J l1 l2 l3 l4 s0 s1 G Q) : Tg W0 (vX13_compareMethods_351 j) [rf (16081), cI (l1), cI (l2), cI (l3), cI (l4), l5] [cI (s1), rf (s0)] G (fun r G => r = 7 ∧ Q 0 G) := by
  unfold PX13_compareMethods_351 at h
  unfold vX13_compareMethods_351
  refine g_ld (v := cI _) rfl (is_I _) ?_
  refine g_ld (v := cI _) rfl (is_I _) ?_
  refine g_const (v := cI (-2)) rfl ?_
  refine g_ld (v := cI _) rfl (is_I _) ?_
  obtain ⟨q106, h⟩ := h
  refine g_callV (As := [_, _, _, _, _]) (ci := 13) q106 (fun _ => rfl) ?_
  refine g_go0 (Nat.le_of_ble_eq_true rfl) (Tn_w (Tn_eq (one13 q106) (TX13_differs hs1 hl1 hl2 ⟨by omega, by omega⟩ hl4 h)) fun _ G107 ⟨e, h⟩ => ⟨e, ?_⟩)
  exact TX13_compareMethods_360 hl1 hl2 hl3 hl4 hl5 hj0 hj1 h
def PX13_compareMethods_282 (J : Nat → List Int → gS → (Int → gS → Prop) → Prop) (l1 : Int) (l2 : Int) (l3 : Int) (G : gS) (Q : Int → gS → Prop) : Prop :=
  ((0 : Int) ≤ l2 ∧ ((l2 : Int) < 216 ∧ (inI (G 16115 l2) → ((l3 < G 16115 l2 → (inI ((l2 * 34) + l3) ∧ ((0 : Int) ≤ (l2 * 34) + l3 ∧ (((l2 * 34) + l3 : Int) < 7344 ∧ (inI (G 16116 ((l2 * 34) + l3)) → ((G 16116 ((l2 * 34) + l3) = 1 → ((0 : Int) ≤ (l2 * 34) + l3 ∧ (((l2 * 34) + l3 : Int) < 7344 ∧ ((0 ≤ G 16123 ((l2 * 34) + l3) ∧ G 16123 ((l2 * 34) + l3) ≤ 1) → ((G 16123 ((l2 * 34) + l3) = 0 → PX13_alike l1 ((l2 * 34) + l3) G (fun r53 G52 => inI r53 → ((r53 = -2 → ((0 : Int) ≤ (l2 * 34) + l3 ∧ (((l2 * 34) + l3 : Int) < 7344 ∧ ((0 ≤ G52 16121 ((l2 * 34) + l3) ∧ G52 16121 ((l2 * 34) + l3) ≤ 1) → ((G52 16121 ((l2 * 34) + l3) = 0 → PX13_compareMethods_351 J l1 l2 l3 ((l2 * 34) + l3) 16081 40 G52 Q) ∧ (¬ (G52 16121 ((l2 * 34) + l3) = 0) → PX13_compareMethods_351 J l1 l2 l3 ((l2 * 34) + l3) 16081 41 G52 Q)))))) ∧ (¬ (r53 = -2) → PX13_compareMethods_360 J l1 l2 l3 ((l2 * 34) + l3) G52 Q)))) ∧ (¬ (G 16123 ((l2 * 34) + l3) = 0) → PX13_compareMethods_360 J l1 l2 l3 ((l2 * 34) + l3) G Q)))))) ∧ (¬ (G 16116 ((l2 * 34) + l3) = 1) → PX13_compareMethods_360 J l1 l2 l3 ((l2 * 34) + l3) G Q))))))) ∧ (¬ (l3 < G 16115 l2) → Q 0 G)))))
set_option maxRecDepth 20000 in
theorem TX13_compareMethods_282 {j : Nat → rx_K} {J : Nat → List Int → gS → (Int → gS → Prop) → Prop} {l1 : Int} {l2 : Int} {l3 : Int} {l4 : Nat} {l5 : Nat} {G : gS} {Q : Int → gS → Prop} (hl1 : inI l1) (hl2 : inI l2) (hl3 : inI l3) (hl4 : l4 % 8 ≠ 1) (hl5 : l5 % 8 ≠ 1) (hj0 : ∀ (l1 : Int) (l2 : Int) (l3 : Int) (l4 : Nat) (l5 : Nat) (G : gS), (inI l1) → (inI l2) → (inI l3) → (l4 % 8 ≠ 1) → (l5 % 8 ≠ 1) → J 0 [l1, l2, l3] G Q → Tg W0 (j 0) [rf (16081), cI (l1), cI (l2), cI (l3), l4, l5] [] G (fun r G => r = 7 ∧ Q 0 G)) (hj1 : ∀ (l1 : Int) (l2 : Int) (l3 : Int) (l4 : Nat) (l5 : Nat) (G : gS), (inI l1) → (inI l2) → (inI l3) → (l4 % 8 ≠ 1) → (l5 % 8 ≠ 1) → J 1 [l1, l2, l3] G Q → Tg W0 (j 1) [rf (16081), cI (l1), cI (l2), cI (l3), l4, l5] [] G (fun r G => r = 7 ∧ Q 0 G)) (h : PX13_compareMethods_282 J l1 l2 l3 G Q) : Tg W0 (vX13_compareMethods_282 j) [rf (16081), cI (l1), cI (l2), cI (l3), l4, l5] [] G (fun r G => r = 7 ∧ Q 0 G) := by
  unfold PX13_compareMethods_282 at h
  unfold vX13_compareMethods_282
  refine g_ld (v := cI _) rfl (is_I _) ?_
  refine g_ld (v := rf _) rfl (is_R _) ?_
  refine g_getF (v := 16115) oC13 (hC13_41) rfl (Nat.le_of_ble_eq_true rfl) (Nat.le_of_ble_eq_true rfl) ?_
  refine g_ld (v := cI _) rfl (is_I _) ?_
  obtain ⟨q39, q40, h⟩ := h
  refine g_aldI aC16115 q39 q40 rfl fun i41 => ?_
  replace h := h i41
  refine g_lt2 hl3 i41 (fun b42 => ?_) (fun b42 => ?_)
  · replace h := h.1 b42
    unfold vX13_compareMethods_292
    refine g_ld (v := cI _) rfl (is_I _) ?_
    refine g_const (v := cI (34)) rfl ?_
    refine g_mul ?_
    refine g_ld (v := cI _) rfl (is_I _) ?_
    refine g_add ?_
    refine g_st (lv' := [_, _, _, _, _, _]) (is_I _) (Nat.le_of_ble_eq_true rfl) (Or.inr (n1_I _)) rfl ?_
    obtain ⟨q43, h⟩ := h
    refine g_ld (v := rf _) rfl (is_R _) ?_
    refine g_getF (v := 16116) oC13 (hC13_42) rfl (Nat.le_of_ble_eq_true rfl) (Nat.le_of_ble_eq_true rfl) ?_
    refine g_ld (v := cI _) rfl (is_I _) ?_
    obtain ⟨q44, q45, h⟩ := h
    refine g_aldI aC16116 q44 q45 rfl fun i46 => ?_
    replace h := h i46
    refine g_const (v := cI (1)) rfl ?_
    refine g_eq2 i46 ⟨by omega, by omega⟩ (fun b47 => ?_) (fun b47 => ?_)
    · replace h := h.1 b47
      unfold vX13_compareMethods_311
      refine g_ld (v := rf _) rfl (is_R _) ?_
      refine g_getF (v := 16123) oC13 (hC13_49) rfl (Nat.le_of_ble_eq_true rfl) (Nat.le_of_ble_eq_true rfl) ?_
      refine g_ld (v := cI _) rfl (is_I _) ?_
      obtain ⟨q48, q49, h⟩ := h
      refine g_aldZ aC16123 q48 q49 rfl fun i50 => ?_
      replace h := h i50
      refine g_eq1 ⟨by omega, by omega⟩ (fun b51 => ?_) (fun b51 => ?_)
      · replace h := h.1 b51
        unfold vX13_compareMethods_321
        refine g_ld (v := rf _) rfl (is_R _) ?_
        refine g_ld (v := cI _) rfl (is_I _) ?_
        refine g_ld (v := cI _) rfl (is_I _) ?_
        refine g_callV (As := [_, _]) (ci := 13) oC13 (fun _ => rfl) ?_
        refine g_go1 (Nat.le_of_ble_eq_true rfl) (Tn_w (TX13_alike hl1 q43 h) fun _ G52 ⟨r53, e, i54, h⟩ => ?_)
        subst e
        refine ⟨n7_I _, ?_⟩
        replace h := h i54
        refine g_const (v := cI (-2)) rfl ?_
        refine g_eq2 i54 ⟨by omega, by omega⟩ (fun b55 => ?_) (fun b55 => ?_)
        · replace h := h.1 b55
          unfold vX13_compareMethods_333
          refine g_ld (v := rf _) rfl (is_R _) ?_
          refine g_ld (v := rf _) rfl (is_R _) ?_
          refine g_getF (v := 16121) oC13 (hC13_47) rfl (Nat.le_of_ble_eq_true rfl) (Nat.le_of_ble_eq_true rfl) ?_
          refine g_ld (v := cI _) rfl (is_I _) ?_
          obtain ⟨q56, q57, h⟩ := h
          refine g_aldZ aC16121 q56 q57 rfl fun i58 => ?_
          replace h := h i58
          refine g_eq1 ⟨by omega, by omega⟩ (fun b59 => ?_) (fun b59 => ?_)
          · replace h := h.1 b59
            unfold vX13_compareMethods_349
            refine g_const (v := cI (40)) rfl ?_
            exact TX13_compareMethods_351 hl1 hl2 hl3 q43 hl5 ⟨by omega, by omega⟩ hj0 hj1 h
          · replace h := h.2 b59
            unfold vX13_compareMethods_344
            refine g_const (v := cI (41)) rfl ?_
            exact TX13_compareMethods_351 hl1 hl2 hl3 q43 hl5 ⟨by omega, by omega⟩ hj0 hj1 h
        · replace h := h.2 b55
          exact TX13_compareMethods_360 hl1 hl2 hl3 q43 hl5 hj0 hj1 h
      · replace h := h.2 b51
        exact TX13_compareMethods_360 hl1 hl2 hl3 q43 hl5 hj0 hj1 h
    · replace h := h.2 b47
      exact TX13_compareMethods_360 hl1 hl2 hl3 q43 hl5 hj0 hj1 h
  · replace h := h.2 b42
    unfold vX13_compareMethods_366
    exact g_ret0 ⟨rfl, h⟩
def PX13_compareMethods_274 (J : Nat → List Int → gS → (Int → gS → Prop) → Prop) (l1 : Int) (l2 : Int) (l3 : Int) (l4 : Int) (G : gS) (Q : Int → gS → Prop) : Prop :=
  (inI (l3 + 1) ∧ J 0 [l1, l2, l3 + 1] G Q)
set_option maxRecDepth 20000 in
theorem TX13_compareMethods_274 {j : Nat → rx_K} {J : Nat → List Int → gS → (Int → gS → Prop) → Prop} {l1 : Int} {l2 : Int} {l3 : Int} {l4 : Int} {l5 : Nat} {G : gS} {Q : Int → gS → Prop} (hl1 : inI l1) (hl2 : inI l2) (hl3 : inI l3) (hl4 : inI l4) (hl5 : l5 % 8 ≠ 1) (hj0 : ∀ (l1 : Int) (l2 : Int) (l3 : Int) (l4 : Nat) (l5 : Nat) (G : gS), (inI l1) → (inI l2) → (inI l3) → (l4 % 8 ≠ 1) → (l5 % 8 ≠ 1) → J 0 [l1, l2, l3] G Q → Tg W0 (j 0) [rf (16081), cI (l1), cI (l2), cI (l3), l4, l5] [] G (fun r G => r = 7 ∧ Q 0 G)) (hj1 : ∀ (l1 : Int) (l2 : Int) (l3 : Int) (l4 : Nat) (l5 : Nat) (G : gS), (inI l1) → (inI l2) → (inI l3) → (l4 % 8 ≠ 1) → (l5 % 8 ≠ 1) → J 1 [l1, l2, l3] G Q → Tg W0 (j 1) [rf (16081), cI (l1), cI (l2), cI (l3), l4, l5] [] G (fun r G => r = 7 ∧ Q 0 G)) (h : PX13_compareMethods_274 J l1 l2 l3 l4 G Q) : Tg W0 (vX13_compareMethods_274 j) [rf (16081), cI (l1), cI (l2), cI (l3), cI (l4), l5] [] G (fun r G => r = 7 ∧ Q 0 G) := by
  unfold PX13_compareMethods_274 at h
  unfold vX13_compareMethods_274
  refine g_inc (lv' := [_, _, _, _, _, _]) rfl (Nat.le_of_ble_eq_true rfl) (Or.inr (n1_I _)) rfl ?_
  obtain ⟨q29, h⟩ := h
  exact hj0 _ _ _ _ _ _ hl1 hl2 q29 (n1_I _) hl5 h
def PX13_compareMethods_134 (J : Nat → List Int → gS → (Int → gS → Prop) → Prop) (l1 : Int) (l2 : Int) (l3 : Int) (l4 : Int) (l5 : Int) (G : gS) (Q : Int → gS → Prop) : Prop :=
  ((0 : Int) ≤ l4 ∧ ((l4 : Int) < 7344 ∧ (inL (G 16127 l4) → ((0 : Int) ≤ l5 ∧ ((l5 : Int) < 7344 ∧ (inL (G 16127 l5) → ((G 16127 l4 = G 16127 l5 → ((0 : Int) ≤ l4 ∧ ((l4 : Int) < 7344 ∧ ((0 ≤ G 16119 l4 ∧ G 16119 l4 ≤ 1) → ((0 : Int) ≤ l5 ∧ ((l5 : Int) < 7344 ∧ ((0 ≤ G 16119 l5 ∧ G 16119 l5 ≤ 1) → ((G 16119 l4 = G 16119 l5 → ((0 : Int) ≤ l4 ∧ ((l4 : Int) < 7344 ∧ ((0 ≤ G 16120 l4 ∧ G 16120 l4 ≤ 1) → ((0 : Int) ≤ l5 ∧ ((l5 : Int) < 7344 ∧ ((0 ≤ G 16120 l5 ∧ G 16120 l5 ≤ 1) → PX13_eitherOf 33 (G 16120 l4) (G 16120 l5) l4 l5 G (fun _ G80 => ((0 : Int) ≤ l4 ∧ ((l4 : Int) < 7344 ∧ ((0 ≤ G80 16121 l4 ∧ G80 16121 l4 ≤ 1) → ((0 : Int) ≤ l5 ∧ ((l5 : Int) < 7344 ∧ ((0 ≤ G80 16121 l5 ∧ G80 16121 l5 ≤ 1) → PX13_eitherOf 35 (G80 16121 l4) (G80 16121 l5) l4 l5 G80 (fun _ G88 => PX13_accessOf 37 l4 l5 G88 (fun _ G90 => ((0 : Int) ≤ l4 ∧ ((l4 : Int) < 7344 ∧ (inI (G90 16135 l4) → ((G90 16135 l4 = -2 → PX13_compareMethods_274 J l1 l2 l3 l4 G90 Q) ∧ (¬ (G90 16135 l4 = -2) → ((0 : Int) ≤ l5 ∧ ((l5 : Int) < 7344 ∧ (inI (G90 16135 l5) → ((G90 16135 l5 = -2 → PX13_compareMethods_274 J l1 l2 l3 l4 G90 Q) ∧ (¬ (G90 16135 l5 = -2) → PX13_sameTokens l4 l5 G90 (fun r101 G100 => (0 ≤ r101 ∧ r101 ≤ 1) → ((r101 = 0 → PX13_differs 39 l1 l2 l4 l5 G100 (fun _ G104 => PX13_compareMethods_274 J l1 l2 l3 l4 G104 Q)) ∧ (¬ (r101 = 0) → PX13_compareMethods_274 J l1 l2 l3 l4 G100 Q))))))))))))))))))))))))))))) ∧ (¬ (G 16119 l4 = G 16119 l5) → PX13_compareMethods_274 J l1 l2 l3 l4 G Q))))))))) ∧ (¬ (G 16127 l4 = G 16127 l5) → PX13_compareMethods_274 J l1 l2 l3 l4 G Q))))))))
set_option maxRecDepth 20000 in
theorem TX13_compareMethods_134 {j : Nat → rx_K} {J : Nat → List Int → gS → (Int → gS → Prop) → Prop} {l1 : Int} {l2 : Int} {l3 : Int} {l4 : Int} {l5 : Int} {G : gS} {Q : Int → gS → Prop} (hl1 : inI l1) (hl2 : inI l2) (hl3 : inI l3) (hl4 : inI l4) (hl5 : inI l5) (hj0 : ∀ (l1 : Int) (l2 : Int) (l3 : Int) (l4 : Nat) (l5 : Nat) (G : gS), (inI l1) → (inI l2) → (inI l3) → (l4 % 8 ≠ 1) → (l5 % 8 ≠ 1) → J 0 [l1, l2, l3] G Q → Tg W0 (j 0) [rf (16081), cI (l1), cI (l2), cI (l3), l4, l5] [] G (fun r G => r = 7 ∧ Q 0 G)) (hj1 : ∀ (l1 : Int) (l2 : Int) (l3 : Int) (l4 : Nat) (l5 : Nat) (G : gS), (inI l1) → (inI l2) → (inI l3) → (l4 % 8 ≠ 1) → (l5 % 8 ≠ 1) → J 1 [l1, l2, l3] G Q → Tg W0 (j 1) [rf (16081), cI (l1), cI (l2), cI (l3), l4, l5] [] G (fun r G => r = 7 ∧ Q 0 G)) (h : PX13_compareMethods_134 J l1 l2 l3 l4 l5 G Q) : Tg W0 (vX13_compareMethods_134 j) [rf (16081), cI (l1), cI (l2), cI (l3), cI (l4), cI (l5)] [] G (fun r G => r = 7 ∧ Q 0 G) := by
  unfold PX13_compareMethods_134 at h
  unfold vX13_compareMethods_134
  refine g_ld (v := rf _) rfl (is_R _) ?_
  refine g_getF (v := 16127) oC13 (hC13_53) rfl (Nat.le_of_ble_eq_true rfl) (Nat.le_of_ble_eq_true rfl) ?_
  refine g_ld (v := cI _) rfl (is_I _) ?_
  obtain ⟨q60, q61, h⟩ := h
  refine g_aldL aC16127 q60 q61 rfl fun i62 => ?_
  replace h := h i62
  refine g_ld (v := rf _) rfl (is_R _) ?_
  refine g_getF (v := 16127) oC13 (hC13_53) rfl (Nat.le_of_ble_eq_true rfl) (Nat.le_of_ble_eq_true rfl) ?_
  refine g_ld (v := cI _) rfl (is_I _) ?_
  obtain ⟨q63, q64, h⟩ := h
  refine g_aldL aC16127 q63 q64 rfl fun i65 => ?_
  replace h := h i65
  refine g_leq i62 i65 (fun b66 => ?_) (fun b66 => ?_)
  · replace h := h.1 b66
    unfold vX13_compareMethods_152
    refine g_ld (v := rf _) rfl (is_R _) ?_
    refine g_getF (v := 16119) oC13 (hC13_45) rfl (Nat.le_of_ble_eq_true rfl) (Nat.le_of_ble_eq_true rfl) ?_
    refine g_ld (v := cI _) rfl (is_I _) ?_
    obtain ⟨q67, q68, h⟩ := h
    refine g_aldZ aC16119 q67 q68 rfl fun i69 => ?_
    replace h := h i69
    refine g_ld (v := rf _) rfl (is_R _) ?_
    refine g_getF (v := 16119) oC13 (hC13_45) rfl (Nat.le_of_ble_eq_true rfl) (Nat.le_of_ble_eq_true rfl) ?_
    refine g_ld (v := cI _) rfl (is_I _) ?_
    obtain ⟨q70, q71, h⟩ := h
    refine g_aldZ aC16119 q70 q71 rfl fun i72 => ?_
    replace h := h i72
    refine g_eq2 ⟨by omega, by omega⟩ ⟨by omega, by omega⟩ (fun b73 => ?_) (fun b73 => ?_)
    · replace h := h.1 b73
      unfold vX13_compareMethods_169
      refine g_ld (v := rf _) rfl (is_R _) ?_
      refine g_const (v := cI (33)) rfl ?_
      refine g_ld (v := rf _) rfl (is_R _) ?_
      refine g_getF (v := 16120) oC13 (hC13_46) rfl (Nat.le_of_ble_eq_true rfl) (Nat.le_of_ble_eq_true rfl) ?_
      refine g_ld (v := cI _) rfl (is_I _) ?_
      obtain ⟨q74, q75, h⟩ := h
      refine g_aldZ aC16120 q74 q75 rfl fun i76 => ?_
      replace h := h i76
      refine g_ld (v := rf _) rfl (is_R _) ?_
      refine g_getF (v := 16120) oC13 (hC13_46) rfl (Nat.le_of_ble_eq_true rfl) (Nat.le_of_ble_eq_true rfl) ?_
      refine g_ld (v := cI _) rfl (is_I _) ?_
      obtain ⟨q77, q78, h⟩ := h
      refine g_aldZ aC16120 q77 q78 rfl fun i79 => ?_
      replace h := h i79
      refine g_ld (v := cI _) rfl (is_I _) ?_
      refine g_ld (v := cI _) rfl (is_I _) ?_
      refine g_callV (As := [_, _, _, _, _]) (ci := 13) oC13 (fun _ => rfl) ?_
      refine g_go0 (Nat.le_of_ble_eq_true rfl) (Tn_w (TX13_eitherOf ⟨by omega, by omega⟩ ⟨by omega, by omega⟩ ⟨by omega, by omega⟩ hl4 hl5 h) fun _ G80 ⟨e, h⟩ => ⟨e, ?_⟩)
      refine g_ld (v := rf _) rfl (is_R _) ?_
      refine g_const (v := cI (35)) rfl ?_
      refine g_ld (v := rf _) rfl (is_R _) ?_
      refine g_getF (v := 16121) oC13 (hC13_47) rfl (Nat.le_of_ble_eq_true rfl) (Nat.le_of_ble_eq_true rfl) ?_
      refine g_ld (v := cI _) rfl (is_I _) ?_
      obtain ⟨q82, q83, h⟩ := h
      refine g_aldZ aC16121 q82 q83 rfl fun i84 => ?_
      replace h := h i84
      refine g_ld (v := rf _) rfl (is_R _) ?_
      refine g_getF (v := 16121) oC13 (hC13_47) rfl (Nat.le_of_ble_eq_true rfl) (Nat.le_of_ble_eq_true rfl) ?_
      refine g_ld (v := cI _) rfl (is_I _) ?_
      obtain ⟨q85, q86, h⟩ := h
      refine g_aldZ aC16121 q85 q86 rfl fun i87 => ?_
      replace h := h i87
      refine g_ld (v := cI _) rfl (is_I _) ?_
      unfold vX13_compareMethods_212
      refine g_ld (v := cI _) rfl (is_I _) ?_
      refine g_callV (As := [_, _, _, _, _]) (ci := 13) oC13 (fun _ => rfl) ?_
      refine g_go0 (Nat.le_of_ble_eq_true rfl) (Tn_w (TX13_eitherOf ⟨by omega, by omega⟩ ⟨by omega, by omega⟩ ⟨by omega, by omega⟩ hl4 hl5 h) fun _ G88 ⟨e, h⟩ => ⟨e, ?_⟩)
      refine g_ld (v := rf _) rfl (is_R _) ?_
      refine g_const (v := cI (37)) rfl ?_
      refine g_ld (v := cI _) rfl (is_I _) ?_
      refine g_ld (v := cI _) rfl (is_I _) ?_
      refine g_callV (As := [_, _, _]) (ci := 13) oC13 (fun _ => rfl) ?_
      refine g_go0 (Nat.le_of_ble_eq_true rfl) (Tn_w (TX13_accessOf ⟨by omega, by omega⟩ hl4 hl5 h) fun _ G90 ⟨e, h⟩ => ⟨e, ?_⟩)
      refine g_ld (v := rf _) rfl (is_R _) ?_
      refine g_getF (v := 16135) oC13 (hC13_61) rfl (Nat.le_of_ble_eq_true rfl) (Nat.le_of_ble_eq_true rfl) ?_
      refine g_ld (v := cI _) rfl (is_I _) ?_
      obtain ⟨q92, q93, h⟩ := h
      refine g_aldI aC16135 q92 q93 rfl fun i94 => ?_
      replace h := h i94
      refine g_const (v := cI (-2)) rfl ?_
      refine g_eq2 i94 ⟨by omega, by omega⟩ (fun b95 => ?_) (fun b95 => ?_)
      · replace h := h.1 b95
        exact TX13_compareMethods_274 hl1 hl2 hl3 hl4 (n1_I _) hj0 hj1 h
      · replace h := h.2 b95
        unfold vX13_compareMethods_239
        refine g_ld (v := rf _) rfl (is_R _) ?_
        refine g_getF (v := 16135) oC13 (hC13_61) rfl (Nat.le_of_ble_eq_true rfl) (Nat.le_of_ble_eq_true rfl) ?_
        refine g_ld (v := cI _) rfl (is_I _) ?_
        obtain ⟨q96, q97, h⟩ := h
        refine g_aldI aC16135 q96 q97 rfl fun i98 => ?_
        replace h := h i98
        refine g_const (v := cI (-2)) rfl ?_
        refine g_eq2 i98 ⟨by omega, by omega⟩ (fun b99 => ?_) (fun b99 => ?_)
        · replace h := h.1 b99
          exact TX13_compareMethods_274 hl1 hl2 hl3 hl4 (n1_I _) hj0 hj1 h
        · replace h := h.2 b99
          unfold vX13_compareMethods_251
          refine g_ld (v := rf _) rfl (is_R _) ?_
          refine g_ld (v := cI _) rfl (is_I _) ?_
          refine g_ld (v := cI _) rfl (is_I _) ?_
          refine g_callV (As := [_, _]) (ci := 13) oC13 (fun _ => rfl) ?_
          refine g_go1 (Nat.le_of_ble_eq_true rfl) (Tn_w (TX13_sameTokens hl4 hl5 h) fun _ G100 ⟨r101, e, i102, h⟩ => ?_)
          subst e
          refine ⟨n7_I _, ?_⟩
          replace h := h i102
          refine g_eq1 ⟨by omega, by omega⟩ (fun b103 => ?_) (fun b103 => ?_)
          · replace h := h.1 b103
            unfold vX13_compareMethods_262
            refine g_ld (v := rf _) rfl (is_R _) ?_
            refine g_const (v := cI (39)) rfl ?_
            refine g_ld (v := cI _) rfl (is_I _) ?_
            refine g_ld (v := cI _) rfl (is_I _) ?_
            refine g_ld (v := cI _) rfl (is_I _) ?_
            refine g_ld (v := cI _) rfl (is_I _) ?_
            refine g_callV (As := [_, _, _, _, _]) (ci := 13) oC13 (fun _ => rfl) ?_
            refine g_go0 (Nat.le_of_ble_eq_true rfl) (Tn_w (TX13_differs ⟨by omega, by omega⟩ hl1 hl2 hl4 hl5 h) fun _ G104 ⟨e, h⟩ => ⟨e, ?_⟩)
            exact TX13_compareMethods_274 hl1 hl2 hl3 hl4 (n1_I _) hj0 hj1 h
          · replace h := h.2 b103
            exact TX13_compareMethods_274 hl1 hl2 hl3 hl4 (n1_I _) hj0 hj1 h
    · replace h := h.2 b73
      exact TX13_compareMethods_274 hl1 hl2 hl3 hl4 (n1_I _) hj0 hj1 h
  · replace h := h.2 b66
    exact TX13_compareMethods_274 hl1 hl2 hl3 hl4 (n1_I _) hj0 hj1 h
def PX13_compareMethods_105 (J : Nat → List Int → gS → (Int → gS → Prop) → Prop) (l1 : Int) (l2 : Int) (l3 : Int) (l4 : Int) (l5 : Int) (G : gS) (Q : Int → gS → Prop) : Prop :=
  ((0 : Int) ≤ l4 ∧ ((l4 : Int) < 7344 ∧ ((0 ≤ G 16119 l4 ∧ G 16119 l4 ≤ 1) → ((0 : Int) ≤ l5 ∧ ((l5 : Int) < 7344 ∧ ((0 ≤ G 16119 l5 ∧ G 16119 l5 ≤ 1) → ((G 16119 l4 = G 16119 l5 → PX13_compareMethods_134 J l1 l2 l3 l4 l5 G Q) ∧ (¬ (G 16119 l4 = G 16119 l5) → PX13_differs 32 l1 l2 l4 l5 G (fun _ G37 => PX13_compareMethods_134 J l1 l2 l3 l4 l5 G37 Q)))))))))
set_option maxRecDepth 20000 in
theorem TX13_compareMethods_105 {j : Nat → rx_K} {J : Nat → List Int → gS → (Int → gS → Prop) → Prop} {l1 : Int} {l2 : Int} {l3 : Int} {l4 : Int} {l5 : Int} {G : gS} {Q : Int → gS → Prop} (hl1 : inI l1) (hl2 : inI l2) (hl3 : inI l3) (hl4 : inI l4) (hl5 : inI l5) (hj0 : ∀ (l1 : Int) (l2 : Int) (l3 : Int) (l4 : Nat) (l5 : Nat) (G : gS), (inI l1) → (inI l2) → (inI l3) → (l4 % 8 ≠ 1) → (l5 % 8 ≠ 1) → J 0 [l1, l2, l3] G Q → Tg W0 (j 0) [rf (16081), cI (l1), cI (l2), cI (l3), l4, l5] [] G (fun r G => r = 7 ∧ Q 0 G)) (hj1 : ∀ (l1 : Int) (l2 : Int) (l3 : Int) (l4 : Nat) (l5 : Nat) (G : gS), (inI l1) → (inI l2) → (inI l3) → (l4 % 8 ≠ 1) → (l5 % 8 ≠ 1) → J 1 [l1, l2, l3] G Q → Tg W0 (j 1) [rf (16081), cI (l1), cI (l2), cI (l3), l4, l5] [] G (fun r G => r = 7 ∧ Q 0 G)) (h : PX13_compareMethods_105 J l1 l2 l3 l4 l5 G Q) : Tg W0 (vX13_compareMethods_105 j) [rf (16081), cI (l1), cI (l2), cI (l3), cI (l4), cI (l5)] [] G (fun r G => r = 7 ∧ Q 0 G) := by
  unfold PX13_compareMethods_105 at h
  unfold vX13_compareMethods_105
  refine g_ld (v := rf _) rfl (is_R _) ?_
  refine g_getF (v := 16119) oC13 (hC13_45) rfl (Nat.le_of_ble_eq_true rfl) (Nat.le_of_ble_eq_true rfl) ?_
  refine g_ld (v := cI _) rfl (is_I _) ?_
  obtain ⟨q30, q31, h⟩ := h
  refine g_aldZ aC16119 q30 q31 rfl fun i32 => ?_
  replace h := h i32
  refine g_ld (v := rf _) rfl (is_R _) ?_
  refine g_getF (v := 16119) oC13 (hC13_45) rfl (Nat.le_of_ble_eq_true rfl) (Nat.le_of_ble_eq_true rfl) ?_
  refine g_ld (v := cI _) rfl (is_I _) ?_
  obtain ⟨q33, q34, h⟩ := h
  refine g_aldZ aC16119 q33 q34 rfl fun i35 => ?_
  replace h := h i35
  refine g_eq2 ⟨by omega, by omega⟩ ⟨by omega, by omega⟩ (fun b36 => ?_) (fun b36 => ?_)
  · replace h := h.1 b36
    exact TX13_compareMethods_134 hl1 hl2 hl3 hl4 hl5 hj0 hj1 h
  · replace h := h.2 b36
    unfold vX13_compareMethods_122
    refine g_ld (v := rf _) rfl (is_R _) ?_
    refine g_const (v := cI (32)) rfl ?_
    refine g_ld (v := cI _) rfl (is_I _) ?_
    refine g_ld (v := cI _) rfl (is_I _) ?_
    refine g_ld (v := cI _) rfl (is_I _) ?_
    refine g_ld (v := cI _) rfl (is_I _) ?_
    refine g_callV (As := [_, _, _, _, _]) (ci := 13) oC13 (fun _ => rfl) ?_
    refine g_go0 (Nat.le_of_ble_eq_true rfl) (Tn_w (TX13_differs ⟨by omega, by omega⟩ hl1 hl2 hl4 hl5 h) fun _ G37 ⟨e, h⟩ => ⟨e, ?_⟩)
    exact TX13_compareMethods_134 hl1 hl2 hl3 hl4 hl5 hj0 hj1 h
def PX13_compareMethods_2 (J : Nat → List Int → gS → (Int → gS → Prop) → Prop) (l1 : Int) (l2 : Int) (l3 : Int) (G : gS) (Q : Int → gS → Prop) : Prop :=
  ((0 : Int) ≤ l1 ∧ ((l1 : Int) < 216 ∧ (inI (G 16115 l1) → ((l3 < G 16115 l1 → (inI ((l1 * 34) + l3) ∧ ((0 : Int) ≤ (l1 * 34) + l3 ∧ (((l1 * 34) + l3 : Int) < 7344 ∧ (inI (G 16116 ((l1 * 34) + l3)) → ((G 16116 ((l1 * 34) + l3) = 1 → ((0 : Int) ≤ (l1 * 34) + l3 ∧ (((l1 * 34) + l3 : Int) < 7344 ∧ ((0 ≤ G 16123 ((l1 * 34) + l3) ∧ G 16123 ((l1 * 34) + l3) ≤ 1) → ((G 16123 ((l1 * 34) + l3) = 0 → PX13_alike l2 ((l1 * 34) + l3) G (fun r15 G14 => inI r15 → ((r15 = -2 → PX13_differs 30 l1 l2 ((l1 * 34) + l3) (-2) G14 (fun _ G18 => PX13_compareMethods_274 J l1 l2 l3 ((l1 * 34) + l3) G18 Q)) ∧ (¬ (r15 = -2) → ((0 : Int) ≤ (l1 * 34) + l3 ∧ (((l1 * 34) + l3 : Int) < 7344 ∧ (inL (G14 16127 ((l1 * 34) + l3)) → ((0 : Int) ≤ r15 ∧ ((r15 : Int) < 7344 ∧ (inL (G14 16127 r15) → ((G14 16127 ((l1 * 34) + l3) = G14 16127 r15 → PX13_compareMethods_105 J l1 l2 l3 ((l1 * 34) + l3) r15 G14 Q) ∧ (¬ (G14 16127 ((l1 * 34) + l3) = G14 16127 r15) → PX13_differs 31 l1 l2 ((l1 * 34) + l3) r15 G14 (fun _ G27 => PX13_compareMethods_105 J l1 l2 l3 ((l1 * 34) + l3) r15 G27 Q))))))))))))) ∧ (¬ (G 16123 ((l1 * 34) + l3) = 0) → PX13_compareMethods_274 J l1 l2 l3 ((l1 * 34) + l3) G Q)))))) ∧ (¬ (G 16116 ((l1 * 34) + l3) = 1) → PX13_compareMethods_274 J l1 l2 l3 ((l1 * 34) + l3) G Q))))))) ∧ (¬ (l3 < G 16115 l1) → PX13_compareMethods_282 J l1 l2 0 G Q)))))
set_option maxRecDepth 20000 in
theorem TX13_compareMethods_2 {j : Nat → rx_K} {J : Nat → List Int → gS → (Int → gS → Prop) → Prop} {l1 : Int} {l2 : Int} {l3 : Int} {l4 : Nat} {l5 : Nat} {G : gS} {Q : Int → gS → Prop} (hl1 : inI l1) (hl2 : inI l2) (hl3 : inI l3) (hl4 : l4 % 8 ≠ 1) (hl5 : l5 % 8 ≠ 1) (hj0 : ∀ (l1 : Int) (l2 : Int) (l3 : Int) (l4 : Nat) (l5 : Nat) (G : gS), (inI l1) → (inI l2) → (inI l3) → (l4 % 8 ≠ 1) → (l5 % 8 ≠ 1) → J 0 [l1, l2, l3] G Q → Tg W0 (j 0) [rf (16081), cI (l1), cI (l2), cI (l3), l4, l5] [] G (fun r G => r = 7 ∧ Q 0 G)) (hj1 : ∀ (l1 : Int) (l2 : Int) (l3 : Int) (l4 : Nat) (l5 : Nat) (G : gS), (inI l1) → (inI l2) → (inI l3) → (l4 % 8 ≠ 1) → (l5 % 8 ≠ 1) → J 1 [l1, l2, l3] G Q → Tg W0 (j 1) [rf (16081), cI (l1), cI (l2), cI (l3), l4, l5] [] G (fun r G => r = 7 ∧ Q 0 G)) (h : PX13_compareMethods_2 J l1 l2 l3 G Q) : Tg W0 (vX13_compareMethods_2 j) [rf (16081), cI (l1), cI (l2), cI (l3), l4, l5] [] G (fun r G => r = 7 ∧ Q 0 G) := by
  unfold PX13_compareMethods_2 at h
  unfold vX13_compareMethods_2
  refine g_ld (v := cI _) rfl (is_I _) ?_
  refine g_ld (v := rf _) rfl (is_R _) ?_
  refine g_getF (v := 16115) oC13 (hC13_41) rfl (Nat.le_of_ble_eq_true rfl) (Nat.le_of_ble_eq_true rfl) ?_
  refine g_ld (v := cI _) rfl (is_I _) ?_
  obtain ⟨q1, q2, h⟩ := h
  refine g_aldI aC16115 q1 q2 rfl fun i3 => ?_
  replace h := h i3
  refine g_lt2 hl3 i3 (fun b4 => ?_) (fun b4 => ?_)
  · replace h := h.1 b4
    unfold vX13_compareMethods_12
    refine g_ld (v := cI _) rfl (is_I _) ?_
    refine g_const (v := cI (34)) rfl ?_
    refine g_mul ?_
    refine g_ld (v := cI _) rfl (is_I _) ?_
    refine g_add ?_
    refine g_st (lv' := [_, _, _, _, _, _]) (is_I _) (Nat.le_of_ble_eq_true rfl) (Or.inr (n1_I _)) rfl ?_
    obtain ⟨q5, h⟩ := h
    refine g_ld (v := rf _) rfl (is_R _) ?_
    refine g_getF (v := 16116) oC13 (hC13_42) rfl (Nat.le_of_ble_eq_true rfl) (Nat.le_of_ble_eq_true rfl) ?_
    refine g_ld (v := cI _) rfl (is_I _) ?_
    obtain ⟨q6, q7, h⟩ := h
    refine g_aldI aC16116 q6 q7 rfl fun i8 => ?_
    replace h := h i8
    refine g_const (v := cI (1)) rfl ?_
    refine g_eq2 i8 ⟨by omega, by omega⟩ (fun b9 => ?_) (fun b9 => ?_)
    · replace h := h.1 b9
      unfold vX13_compareMethods_31
      refine g_ld (v := rf _) rfl (is_R _) ?_
      refine g_getF (v := 16123) oC13 (hC13_49) rfl (Nat.le_of_ble_eq_true rfl) (Nat.le_of_ble_eq_true rfl) ?_
      refine g_ld (v := cI _) rfl (is_I _) ?_
      obtain ⟨q10, q11, h⟩ := h
      refine g_aldZ aC16123 q10 q11 rfl fun i12 => ?_
      replace h := h i12
      refine g_eq1 ⟨by omega, by omega⟩ (fun b13 => ?_) (fun b13 => ?_)
      · replace h := h.1 b13
        unfold vX13_compareMethods_44
        refine g_ld (v := rf _) rfl (is_R _) ?_
        refine g_ld (v := cI _) rfl (is_I _) ?_
        refine g_ld (v := cI _) rfl (is_I _) ?_
        refine g_callV (As := [_, _]) (ci := 13) oC13 (fun _ => rfl) ?_
        refine g_go1 (Nat.le_of_ble_eq_true rfl) (Tn_w (TX13_alike hl2 q5 h) fun _ G14 ⟨r15, e, i16, h⟩ => ?_)
        subst e
        refine ⟨n7_I _, ?_⟩
        replace h := h i16
        refine g_st (lv' := [_, _, _, _, _, _]) (is_I _) (Nat.le_of_ble_eq_true rfl) (Or.inr (n1_I _)) rfl ?_
        refine g_ld (v := cI _) rfl (is_I _) ?_
        refine g_const (v := cI (-2)) rfl ?_
        refine g_eq2 i16 ⟨by omega, by omega⟩ (fun b17 => ?_) (fun b17 => ?_)
        · replace h := h.1 b17
          unfold vX13_compareMethods_60
          refine g_ld (v := rf _) rfl (is_R _) ?_
          refine g_const (v := cI (30)) rfl ?_
          refine g_ld (v := cI _) rfl (is_I _) ?_
          refine g_ld (v := cI _) rfl (is_I _) ?_
          refine g_ld (v := cI _) rfl (is_I _) ?_
          refine g_const (v := cI (-2)) rfl ?_
          refine g_callV (As := [_, _, _, _, _]) (ci := 13) oC13 (fun _ => rfl) ?_
          refine g_go0 (Nat.le_of_ble_eq_true rfl) (Tn_w (TX13_differs ⟨by omega, by omega⟩ hl1 hl2 q5 ⟨by omega, by omega⟩ h) fun _ G18 ⟨e, h⟩ => ⟨e, ?_⟩)
          exact TX13_compareMethods_274 hl1 hl2 hl3 q5 (n1_I _) hj0 hj1 h
        · replace h := h.2 b17
          unfold vX13_compareMethods_75
          refine g_ld (v := rf _) rfl (is_R _) ?_
          refine g_getF (v := 16127) oC13 (hC13_53) rfl (Nat.le_of_ble_eq_true rfl) (Nat.le_of_ble_eq_true rfl) ?_
          refine g_ld (v := cI _) rfl (is_I _) ?_
          obtain ⟨q20, q21, h⟩ := h
          refine g_aldL aC16127 q20 q21 rfl fun i22 => ?_
          replace h := h i22
          refine g_ld (v := rf _) rfl (is_R _) ?_
          refine g_getF (v := 16127) oC13 (hC13_53) rfl (Nat.le_of_ble_eq_true rfl) (Nat.le_of_ble_eq_true rfl) ?_
          refine g_ld (v := cI _) rfl (is_I _) ?_
          obtain ⟨q23, q24, h⟩ := h
          refine g_aldL aC16127 q23 q24 rfl fun i25 => ?_
          replace h := h i25
          refine g_leq i22 i25 (fun b26 => ?_) (fun b26 => ?_)
          · replace h := h.1 b26
            exact TX13_compareMethods_105 hl1 hl2 hl3 q5 i16 hj0 hj1 h
          · replace h := h.2 b26
            unfold vX13_compareMethods_93
            refine g_ld (v := rf _) rfl (is_R _) ?_
            refine g_const (v := cI (31)) rfl ?_
            refine g_ld (v := cI _) rfl (is_I _) ?_
            refine g_ld (v := cI _) rfl (is_I _) ?_
            refine g_ld (v := cI _) rfl (is_I _) ?_
            refine g_ld (v := cI _) rfl (is_I _) ?_
            refine g_callV (As := [_, _, _, _, _]) (ci := 13) oC13 (fun _ => rfl) ?_
            refine g_go0 (Nat.le_of_ble_eq_true rfl) (Tn_w (TX13_differs ⟨by omega, by omega⟩ hl1 hl2 q5 i16 h) fun _ G27 ⟨e, h⟩ => ⟨e, ?_⟩)
            exact TX13_compareMethods_105 hl1 hl2 hl3 q5 i16 hj0 hj1 h
      · replace h := h.2 b13
        unfold vX13_compareMethods_41
        exact TX13_compareMethods_274 hl1 hl2 hl3 q5 hl5 hj0 hj1 h
    · replace h := h.2 b9
      exact TX13_compareMethods_274 hl1 hl2 hl3 q5 hl5 hj0 hj1 h
  · replace h := h.2 b4
    unfold vX13_compareMethods_280
    refine g_const (v := cI (0)) rfl ?_
    refine g_st (lv' := [_, _, _, _, _, _]) (is_I _) (Nat.le_of_ble_eq_true rfl) (Or.inr (n1_I _)) rfl ?_
    exact TX13_compareMethods_282 hl1 hl2 ⟨by omega, by omega⟩ hl4 hl5 hj0 hj1 h
def PX13_compareMethods_0 (J : Nat → List Int → gS → (Int → gS → Prop) → Prop) (a1 : Int) (a2 : Int) (G : gS) (Q : Int → gS → Prop) : Prop :=
  PX13_compareMethods_2 J a1 a2 0 G Q
set_option maxRecDepth 20000 in
theorem TX13_compareMethods_0 {j : Nat → rx_K} {J : Nat → List Int → gS → (Int → gS → Prop) → Prop} {a1 : Int} {a2 : Int} {G : gS} {Q : Int → gS → Prop} (ha1 : inI a1) (ha2 : inI a2) (hj0 : ∀ (l1 : Int) (l2 : Int) (l3 : Int) (l4 : Nat) (l5 : Nat) (G : gS), (inI l1) → (inI l2) → (inI l3) → (l4 % 8 ≠ 1) → (l5 % 8 ≠ 1) → J 0 [l1, l2, l3] G Q → Tg W0 (j 0) [rf (16081), cI (l1), cI (l2), cI (l3), l4, l5] [] G (fun r G => r = 7 ∧ Q 0 G)) (hj1 : ∀ (l1 : Int) (l2 : Int) (l3 : Int) (l4 : Nat) (l5 : Nat) (G : gS), (inI l1) → (inI l2) → (inI l3) → (l4 % 8 ≠ 1) → (l5 % 8 ≠ 1) → J 1 [l1, l2, l3] G Q → Tg W0 (j 1) [rf (16081), cI (l1), cI (l2), cI (l3), l4, l5] [] G (fun r G => r = 7 ∧ Q 0 G)) (h : PX13_compareMethods_0 J a1 a2 G Q) : Tg W0 (vX13_compareMethods_0 j) [rf (16081), cI (a1), cI (a2), 7, 7, 7] [] G (fun r G => r = 7 ∧ Q 0 G) := by
  unfold PX13_compareMethods_0 at h
  unfold vX13_compareMethods_0
  refine g_const (v := cI (0)) rfl ?_
  refine g_st (lv' := [_, _, _, _, _, _]) (is_I _) (Nat.le_of_ble_eq_true rfl) (Or.inr (n1_I _)) rfl ?_
  exact TX13_compareMethods_2 ha1 ha2 ⟨by omega, by omega⟩ (show 7 % 8 ≠ 1 by decide) (show 7 % 8 ≠ 1 by decide) hj0 hj1 h
def PX13_compareMethods_J : Nat → Nat → List Int → gS → (Int → gS → Prop) → Prop
  | 0, _, _, _, _ => False
  | f + 1, h, L, G, Q => match h, L with
    | 0, [l1, l2, l3] => PX13_compareMethods_2 (PX13_compareMethods_J f) l1 l2 l3 G Q
    | 1, [l1, l2, l3] => PX13_compareMethods_282 (PX13_compareMethods_J f) l1 l2 l3 G Q
    | _, _ => False
theorem TX13_compareMethods_J {Q : Int → gS → Prop} : ∀ f N : Nat, f ≤ N → (∀ (l1 : Int) (l2 : Int) (l3 : Int) (l4 : Nat) (l5 : Nat) (G : gS), (inI l1) → (inI l2) → (inI l3) → (l4 % 8 ≠ 1) → (l5 % 8 ≠ 1) → (PX13_compareMethods_J f) 0 [l1, l2, l3] G Q → Tg W0 (rx_J vhX13_compareMethods N 0) [rf (16081), cI (l1), cI (l2), cI (l3), l4, l5] [] G (fun r G => r = 7 ∧ Q 0 G)) ∧ (∀ (l1 : Int) (l2 : Int) (l3 : Int) (l4 : Nat) (l5 : Nat) (G : gS), (inI l1) → (inI l2) → (inI l3) → (l4 % 8 ≠ 1) → (l5 % 8 ≠ 1) → (PX13_compareMethods_J f) 1 [l1, l2, l3] G Q → Tg W0 (rx_J vhX13_compareMethods N 1) [rf (16081), cI (l1), cI (l2), cI (l3), l4, l5] [] G (fun r G => r = 7 ∧ Q 0 G)) := by
  intro f
  induction f with
  | zero => exact fun N _ => ⟨fun _ _ _ _ _ _ _ _ _ _ _ h => h.elim, fun _ _ _ _ _ _ _ _ _ _ _ h => h.elim⟩
  | succ f ih =>
    intro N hN
    obtain ⟨M, rfl⟩ : ∃ M, N = M + 1 := ⟨N - 1, by omega⟩
    have ih := ih M (by omega)
    exact ⟨fun _ _ _ _ _ _ hl1 hl2 hl3 hl4 hl5 h => show Tg W0 (vX13_compareMethods_2 (rx_J vhX13_compareMethods M)) _ _ _ _ from TX13_compareMethods_2 hl1 hl2 hl3 hl4 hl5 ih.1 ih.2 h, fun _ _ _ _ _ _ hl1 hl2 hl3 hl4 hl5 h => show Tg W0 (vX13_compareMethods_282 (rx_J vhX13_compareMethods M)) _ _ _ _ from TX13_compareMethods_282 hl1 hl2 hl3 hl4 hl5 ih.1 ih.2 h⟩
def PX13_compareMethods (a1 : Int) (a2 : Int) (G : gS) (Q : Int → gS → Prop) : Prop := ∃ f : Nat, f ≤ 4000000000 ∧ PX13_compareMethods_0 (PX13_compareMethods_J f) a1 a2 G Q
theorem TX13_compareMethods {a1 : Int} {a2 : Int} {G : gS} {Q : Int → gS → Prop} (ha1 : inI a1) (ha2 : inI a2) (h : PX13_compareMethods a1 a2 G Q) : Tn W0 FX13_compareMethods [rf (16081), cI (a1), cI (a2)] G (fun r G => r = 7 ∧ Q 0 G) := by
  obtain ⟨f, hf, h⟩ := h
  have hJ := TX13_compareMethods_J (Q := Q) f 4000000000 hf
  unfold FX13_compareMethods
  refine g_ent (lv' := [rf (16081), cI (a1), cI (a2), 7, 7, 7]) (flR (flI (flI fl0))) (Nat.le_of_ble_eq_true rfl) rfl ?_
  exact TX13_compareMethods_0 ha1 ha2 hJ.1 hJ.2 h
def PX13_isRest_44 (l1 : Int) (s0 : Int) (G : gS) (Q : Int → gS → Prop) : Prop :=
  ((0 ≤ s0 ∧ s0 ≤ 1) ∧ Q (s0) G)
set_option maxRecDepth 20000 in
theorem TX13_isRest_44 {l1 : Int} {s0 : Int} {G : gS} {Q : Int → gS → Prop} (hl1 : inI l1) (hs0 : inI s0) (h : PX13_isRest_44 l1 s0 G Q) : Tg W0 vX13_isRest_44 [rf (16081), cI (l1)] [cI (s0)] G (fun r G => ∃ v, r = cI v ∧ (0 ≤ v ∧ v ≤ 1) ∧ Q v G) := by
  unfold PX13_isRest_44 at h
  unfold vX13_isRest_44
  obtain ⟨q17, h⟩ := h
  exact g_ret1 (is_Z q17) ⟨_, rfl, q17, h⟩
def PX13_isRest_43 (l1 : Int) (G : gS) (Q : Int → gS → Prop) : Prop :=
  PX13_isRest_44 l1 0 G Q
set_option maxRecDepth 20000 in
theorem TX13_isRest_43 {l1 : Int} {G : gS} {Q : Int → gS → Prop} (hl1 : inI l1) (h : PX13_isRest_43 l1 G Q) : Tg W0 vX13_isRest_43 [rf (16081), cI (l1)] [] G (fun r G => ∃ v, r = cI v ∧ (0 ≤ v ∧ v ≤ 1) ∧ Q v G) := by
  unfold PX13_isRest_43 at h
  unfold vX13_isRest_43
  refine g_const (v := cI (0)) rfl ?_
  exact TX13_isRest_44 hl1 ⟨by omega, by omega⟩ h
def PX13_isRest_39 (l1 : Int) (G : gS) (Q : Int → gS → Prop) : Prop :=
  PX13_isRest_44 l1 1 G Q
set_option maxRecDepth 20000 in
theorem TX13_isRest_39 {l1 : Int} {G : gS} {Q : Int → gS → Prop} (hl1 : inI l1) (h : PX13_isRest_39 l1 G Q) : Tg W0 vX13_isRest_39 [rf (16081), cI (l1)] [] G (fun r G => ∃ v, r = cI v ∧ (0 ≤ v ∧ v ≤ 1) ∧ Q v G) := by
  unfold PX13_isRest_39 at h
  unfold vX13_isRest_39
  refine g_const (v := cI (1)) rfl ?_
  exact TX13_isRest_44 hl1 ⟨by omega, by omega⟩ h
def PX13_isRest_0 (a1 : Int) (G : gS) (Q : Int → gS → Prop) : Prop :=
  ((0 : Int) ≤ a1 ∧ ((a1 : Int) < 7344 ∧ (inI (G 16116 a1) → ((G 16116 a1 = 3 → PX13_isRest_39 a1 G Q) ∧ (¬ (G 16116 a1 = 3) → ((0 : Int) ≤ a1 ∧ ((a1 : Int) < 7344 ∧ (inI (G 16116 a1) → ((G 16116 a1 = 0 → ((0 : Int) ≤ a1 ∧ ((a1 : Int) < 7344 ∧ (inI (G 16134 a1) → ((G 16134 a1 = -2 → PX13_isRest_43 a1 G Q) ∧ (¬ (G 16134 a1 = -2) → ((0 : Int) ≤ a1 ∧ ((a1 : Int) < 7344 ∧ ((0 ≤ G 16138 a1 ∧ G 16138 a1 ≤ 1) → ((G 16138 a1 = 0 → PX13_isRest_39 a1 G Q) ∧ (¬ (G 16138 a1 = 0) → PX13_isRest_43 a1 G Q))))))))))) ∧ (¬ (G 16116 a1 = 0) → PX13_isRest_43 a1 G Q))))))))))
set_option maxRecDepth 20000 in
theorem TX13_isRest_0 {a1 : Int} {G : gS} {Q : Int → gS → Prop} (ha1 : inI a1) (h : PX13_isRest_0 a1 G Q) : Tg W0 vX13_isRest_0 [rf (16081), cI (a1)] [] G (fun r G => ∃ v, r = cI v ∧ (0 ≤ v ∧ v ≤ 1) ∧ Q v G) := by
  unfold PX13_isRest_0 at h
  unfold vX13_isRest_0
  refine g_ld (v := rf _) rfl (is_R _) ?_
  refine g_getF (v := 16116) oC13 (hC13_42) rfl (Nat.le_of_ble_eq_true rfl) (Nat.le_of_ble_eq_true rfl) ?_
  refine g_ld (v := cI _) rfl (is_I _) ?_
  obtain ⟨q1, q2, h⟩ := h
  refine g_aldI aC16116 q1 q2 rfl fun i3 => ?_
  replace h := h i3
  refine g_const (v := cI (3)) rfl ?_
  refine g_eq2 i3 ⟨by omega, by omega⟩ (fun b4 => ?_) (fun b4 => ?_)
  · replace h := h.1 b4
    exact TX13_isRest_39 ha1 h
  · replace h := h.2 b4
    unfold vX13_isRest_10
    refine g_ld (v := rf _) rfl (is_R _) ?_
    refine g_getF (v := 16116) oC13 (hC13_42) rfl (Nat.le_of_ble_eq_true rfl) (Nat.le_of_ble_eq_true rfl) ?_
    refine g_ld (v := cI _) rfl (is_I _) ?_
    obtain ⟨q5, q6, h⟩ := h
    refine g_aldI aC16116 q5 q6 rfl fun i7 => ?_
    replace h := h i7
    refine g_eq1 i7 (fun b8 => ?_) (fun b8 => ?_)
    · replace h := h.1 b8
      unfold vX13_isRest_19
      refine g_ld (v := rf _) rfl (is_R _) ?_
      refine g_getF (v := 16134) oC13 (hC13_60) rfl (Nat.le_of_ble_eq_true rfl) (Nat.le_of_ble_eq_true rfl) ?_
      refine g_ld (v := cI _) rfl (is_I _) ?_
      obtain ⟨q9, q10, h⟩ := h
      refine g_aldI aC16134 q9 q10 rfl fun i11 => ?_
      replace h := h i11
      refine g_const (v := cI (-2)) rfl ?_
      refine g_eq2 i11 ⟨by omega, by omega⟩ (fun b12 => ?_) (fun b12 => ?_)
      · replace h := h.1 b12
        exact TX13_isRest_43 ha1 h
      · replace h := h.2 b12
        unfold vX13_isRest_30
        refine g_ld (v := rf _) rfl (is_R _) ?_
        refine g_getF (v := 16138) oC13 (hC13_64) rfl (Nat.le_of_ble_eq_true rfl) (Nat.le_of_ble_eq_true rfl) ?_
        refine g_ld (v := cI _) rfl (is_I _) ?_
        obtain ⟨q13, q14, h⟩ := h
        refine g_aldZ aC16138 q13 q14 rfl fun i15 => ?_
        replace h := h i15
        refine g_eq1 ⟨by omega, by omega⟩ (fun b16 => ?_) (fun b16 => ?_)
        · replace h := h.1 b16
          exact TX13_isRest_39 ha1 h
        · replace h := h.2 b16
          exact TX13_isRest_43 ha1 h
    · replace h := h.2 b8
      exact TX13_isRest_43 ha1 h
abbrev PX13_isRest (a1 : Int) (G : gS) (Q : Int → gS → Prop) : Prop := PX13_isRest_0 a1 G Q
theorem TX13_isRest {a1 : Int} {G : gS} {Q : Int → gS → Prop} (ha1 : inI a1) (h : PX13_isRest a1 G Q) : Tn W0 FX13_isRest [rf (16081), cI (a1)] G (fun r G => ∃ v, r = cI v ∧ (0 ≤ v ∧ v ≤ 1) ∧ Q v G) := by
  unfold FX13_isRest
  refine g_ent (lv' := [rf (16081), cI (a1)]) (flR (flI fl0)) (Nat.le_of_ble_eq_true rfl) rfl ?_
  exact TX13_isRest_0 ha1 h
def PX13_rest_78 (J : Nat → List Int → gS → (Int → gS → Prop) → Prop) (l1 : Int) (l2 : Int) (l3 : Int) (l4 : Int) (l5 : Int) (l6 : Int) (G : gS) (Q : Int → gS → Prop) : Prop :=
  (inI (l4 + 1) ∧ J 0 [l1, l2, l3, l4 + 1] G Q)
set_option maxRecDepth 20000 in
theorem TX13_rest_78 {j : Nat → rx_K} {J : Nat → List Int → gS → (Int → gS → Prop) → Prop} {l1 : Int} {l2 : Int} {l3 : Int} {l4 : Int} {l5 : Int} {l6 : Int} {G : gS} {Q : Int → gS → Prop} (hl1 : inI l1) (hl3 : inI l3) (hl4 : inI l4) (hl5 : inI l5) (hl6 : inI l6) (hj0 : ∀ (l1 : Int) (l2 : Int) (l3 : Int) (l4 : Int) (l5 : Nat) (l6 : Nat) (G : gS), (inI l1) → (inI l3) → (inI l4) → (l5 % 8 ≠ 1) → (l6 % 8 ≠ 1) → J 0 [l1, l2, l3, l4] G Q → Tg W0 (j 0) [rf (16081), cI (l1), rf (l2), cI (l3), cI (l4), l5, l6] [] G (fun r G => ∃ v, r = cI v ∧ inI v ∧ Q v G)) (hj1 : ∀ (l1 : Int) (l2 : Int) (l3 : Int) (l4 : Int) (l5 : Int) (l6 : Int) (G : gS), (inI l1) → (inI l3) → (inI l4) → (inI l5) → (inI l6) → J 1 [l1, l2, l3, l4, l5, l6] G Q → Tg W0 (j 1) [rf (16081), cI (l1), rf (l2), cI (l3), cI (l4), cI (l5), cI (l6)] [] G (fun r G => ∃ v, r = cI v ∧ inI v ∧ Q v G)) (h : PX13_rest_78 J l1 l2 l3 l4 l5 l6 G Q) : Tg W0 (vX13_rest_78 j) [rf (16081), cI (l1), rf (l2), cI (l3), cI (l4), cI (l5), cI (l6)] [] G (fun r G => ∃ v, r = cI v ∧ inI v ∧ Q v G) := by
  unfold PX13_rest_78 at h
  unfold vX13_rest_78
  refine g_inc (lv' := [_, _, _, _, _, _, _]) rfl (Nat.le_of_ble_eq_true rfl) (Or.inr (n1_I _)) rfl ?_
  obtain ⟨q26, h⟩ := h
  exact hj0 _ _ _ _ _ _ _ hl1 hl3 q26 (n1_I _) (n1_I _) h
def PX13_rest_34 (J : Nat → List Int → gS → (Int → gS → Prop) → Prop) (l1 : Int) (l2 : Int) (l3 : Int) (l4 : Int) (l5 : Int) (l6 : Int) (G : gS) (Q : Int → gS → Prop) : Prop :=
  PX13_isRest l5 G (fun r10 G9 => (0 ≤ r10 ∧ r10 ≤ 1) → ((r10 = 0 → PX13_rest_78 J l1 l2 l3 l4 l5 l6 G9 Q) ∧ (¬ (r10 = 0) → ((0 : Int) ≤ l5 ∧ ((l5 : Int) < 7344 ∧ (inI (G9 16137 l5) → ((l6 < G9 16137 l5 → (inI (l3 + 1) ∧ (inI (idiv l1 12) → (∃ n19, isA W0 0 n19 (l2) ∧ ((0 : Int) ≤ l3 ∧ ((l3 : Int) < n19 ∧ (inI (((idiv l1 12) * 702) + l6) ∧ (∀ G24 : gS, G24 = uG G9 l2 l3 (((idiv l1 12) * 702) + l6) → (inI (l6 + 1) ∧ J 1 [l1, l2, l3 + 1, l4, l5, l6 + 1] G24 Q))))))))) ∧ (¬ (l6 < G9 16137 l5) → PX13_rest_78 J l1 l2 l3 l4 l5 l6 G9 Q))))))))
set_option maxRecDepth 20000 in
theorem TX13_rest_34 {j : Nat → rx_K} {J : Nat → List Int → gS → (Int → gS → Prop) → Prop} {l1 : Int} {l2 : Int} {l3 : Int} {l4 : Int} {l5 : Int} {l6 : Int} {G : gS} {Q : Int → gS → Prop} (hl1 : inI l1) (hl3 : inI l3) (hl4 : inI l4) (hl5 : inI l5) (hl6 : inI l6) (hj0 : ∀ (l1 : Int) (l2 : Int) (l3 : Int) (l4 : Int) (l5 : Nat) (l6 : Nat) (G : gS), (inI l1) → (inI l3) → (inI l4) → (l5 % 8 ≠ 1) → (l6 % 8 ≠ 1) → J 0 [l1, l2, l3, l4] G Q → Tg W0 (j 0) [rf (16081), cI (l1), rf (l2), cI (l3), cI (l4), l5, l6] [] G (fun r G => ∃ v, r = cI v ∧ inI v ∧ Q v G)) (hj1 : ∀ (l1 : Int) (l2 : Int) (l3 : Int) (l4 : Int) (l5 : Int) (l6 : Int) (G : gS), (inI l1) → (inI l3) → (inI l4) → (inI l5) → (inI l6) → J 1 [l1, l2, l3, l4, l5, l6] G Q → Tg W0 (j 1) [rf (16081), cI (l1), rf (l2), cI (l3), cI (l4), cI (l5), cI (l6)] [] G (fun r G => ∃ v, r = cI v ∧ inI v ∧ Q v G)) (h : PX13_rest_34 J l1 l2 l3 l4 l5 l6 G Q) : Tg W0 (vX13_rest_34 j) [rf (16081), cI (l1), rf (l2), cI (l3), cI (l4), cI (l5), cI (l6)] [] G (fun r G => ∃ v, r = cI v ∧ inI v ∧ Q v G) := by
  unfold PX13_rest_34 at h
  unfold vX13_rest_34
  refine g_ld (v := rf _) rfl (is_R _) ?_
  refine g_ld (v := cI _) rfl (is_I _) ?_
  refine g_callV (As := [_]) (ci := 13) oC13 (fun _ => rfl) ?_
  refine g_go1 (Nat.le_of_ble_eq_true rfl) (Tn_w (TX13_isRest hl5 h) fun _ G9 ⟨r10, e, i11, h⟩ => ?_)
  subst e
  refine ⟨n7_I _, ?_⟩
  replace h := h i11
  refine g_eq1 ⟨by omega, by omega⟩ (fun b12 => ?_) (fun b12 => ?_)
  · replace h := h.1 b12
    exact TX13_rest_78 hl1 hl3 hl4 hl5 hl6 hj0 hj1 h
  · replace h := h.2 b12
    unfold vX13_rest_43
    refine g_ld (v := cI _) rfl (is_I _) ?_
    refine g_ld (v := rf _) rfl (is_R _) ?_
    refine g_getF (v := 16137) oC13 (hC13_63) rfl (Nat.le_of_ble_eq_true rfl) (Nat.le_of_ble_eq_true rfl) ?_
    refine g_ld (v := cI _) rfl (is_I _) ?_
    obtain ⟨q13, q14, h⟩ := h
    refine g_aldI aC16137 q13 q14 rfl fun i15 => ?_
    replace h := h i15
    refine g_lt2 hl6 i15 (fun b16 => ?_) (fun b16 => ?_)
    · replace h := h.1 b16
      unfold vX13_rest_55
      refine g_ld (v := rf _) rfl (is_R _) ?_
      refine g_ld (v := cI _) rfl (is_I _) ?_
      refine g_inc (lv' := [_, _, _, _, _, _, _]) rfl (Nat.le_of_ble_eq_true rfl) (Or.inr (n1_R _)) rfl ?_
      obtain ⟨q17, h⟩ := h
      refine g_ld (v := cI _) rfl (is_I _) ?_
      refine g_const (v := cI (12)) rfl ?_
      refine g_idiv ⟨by omega, by omega⟩ (by omega) fun i18 => ?_
      replace h := h i18
      refine g_const (v := cI (702)) rfl ?_
      refine g_mul ?_
      refine g_ld (v := cI _) rfl (is_I _) ?_
      refine g_add ?_
      obtain ⟨n19, q20, h⟩ := h
      obtain ⟨q21, q22, h⟩ := h
      obtain ⟨q23, h⟩ := h
      refine g_astI q20 q21 q22 q23 (nfI q20) ?_
      replace h := h _ rfl
      refine g_inc (lv' := [_, _, _, _, _, _, _]) rfl (Nat.le_of_ble_eq_true rfl) (Or.inr (n1_I _)) rfl ?_
      obtain ⟨q25, h⟩ := h
      exact hj1 _ _ _ _ _ _ _ hl1 q17 hl4 hl5 q25 h
    · replace h := h.2 b16
      exact TX13_rest_78 hl1 hl3 hl4 hl5 hl6 hj0 hj1 h
def PX13_rest_5 (J : Nat → List Int → gS → (Int → gS → Prop) → Prop) (l1 : Int) (l2 : Int) (l3 : Int) (l4 : Int) (G : gS) (Q : Int → gS → Prop) : Prop :=
  ((0 : Int) ≤ l1 ∧ ((l1 : Int) < 216 ∧ (inI (G 16115 l1) → ((l4 < G 16115 l1 → (inI ((l1 * 34) + l4) ∧ ((0 : Int) ≤ (l1 * 34) + l4 ∧ (((l1 * 34) + l4 : Int) < 7344 ∧ (inI (G 16136 ((l1 * 34) + l4)) → PX13_rest_34 J l1 l2 l3 l4 ((l1 * 34) + l4) (G 16136 ((l1 * 34) + l4)) G Q))))) ∧ (¬ (l4 < G 16115 l1) → Q (l3) G)))))
set_option maxRecDepth 20000 in
theorem TX13_rest_5 {j : Nat → rx_K} {J : Nat → List Int → gS → (Int → gS → Prop) → Prop} {l1 : Int} {l2 : Int} {l3 : Int} {l4 : Int} {l5 : Nat} {l6 : Nat} {G : gS} {Q : Int → gS → Prop} (hl1 : inI l1) (hl3 : inI l3) (hl4 : inI l4) (hl5 : l5 % 8 ≠ 1) (hl6 : l6 % 8 ≠ 1) (hj0 : ∀ (l1 : Int) (l2 : Int) (l3 : Int) (l4 : Int) (l5 : Nat) (l6 : Nat) (G : gS), (inI l1) → (inI l3) → (inI l4) → (l5 % 8 ≠ 1) → (l6 % 8 ≠ 1) → J 0 [l1, l2, l3, l4] G Q → Tg W0 (j 0) [rf (16081), cI (l1), rf (l2), cI (l3), cI (l4), l5, l6] [] G (fun r G => ∃ v, r = cI v ∧ inI v ∧ Q v G)) (hj1 : ∀ (l1 : Int) (l2 : Int) (l3 : Int) (l4 : Int) (l5 : Int) (l6 : Int) (G : gS), (inI l1) → (inI l3) → (inI l4) → (inI l5) → (inI l6) → J 1 [l1, l2, l3, l4, l5, l6] G Q → Tg W0 (j 1) [rf (16081), cI (l1), rf (l2), cI (l3), cI (l4), cI (l5), cI (l6)] [] G (fun r G => ∃ v, r = cI v ∧ inI v ∧ Q v G)) (h : PX13_rest_5 J l1 l2 l3 l4 G Q) : Tg W0 (vX13_rest_5 j) [rf (16081), cI (l1), rf (l2), cI (l3), cI (l4), l5, l6] [] G (fun r G => ∃ v, r = cI v ∧ inI v ∧ Q v G) := by
  unfold PX13_rest_5 at h
  unfold vX13_rest_5
  refine g_ld (v := cI _) rfl (is_I _) ?_
  refine g_ld (v := rf _) rfl (is_R _) ?_
  refine g_getF (v := 16115) oC13 (hC13_41) rfl (Nat.le_of_ble_eq_true rfl) (Nat.le_of_ble_eq_true rfl) ?_
  refine g_ld (v := cI _) rfl (is_I _) ?_
  obtain ⟨q1, q2, h⟩ := h
  refine g_aldI aC16115 q1 q2 rfl fun i3 => ?_
  replace h := h i3
  refine g_lt2 hl4 i3 (fun b4 => ?_) (fun b4 => ?_)
  · replace h := h.1 b4
    unfold vX13_rest_16
    refine g_ld (v := cI _) rfl (is_I _) ?_
    refine g_const (v := cI (34)) rfl ?_
    refine g_mul ?_
    refine g_ld (v := cI _) rfl (is_I _) ?_
    refine g_add ?_
    refine g_st (lv' := [_, _, _, _, _, _, _]) (is_I _) (Nat.le_of_ble_eq_true rfl) (Or.inr (n1_I _)) rfl ?_
    obtain ⟨q5, h⟩ := h
    refine g_ld (v := rf _) rfl (is_R _) ?_
    refine g_getF (v := 16136) oC13 (hC13_62) rfl (Nat.le_of_ble_eq_true rfl) (Nat.le_of_ble_eq_true rfl) ?_
    refine g_ld (v := cI _) rfl (is_I _) ?_
    obtain ⟨q6, q7, h⟩ := h
    refine g_aldI aC16136 q6 q7 rfl fun i8 => ?_
    replace h := h i8
    refine g_st (lv' := [_, _, _, _, _, _, _]) (is_I _) (Nat.le_of_ble_eq_true rfl) (Or.inr (n1_I _)) rfl ?_
    exact TX13_rest_34 hl1 hl3 hl4 q5 i8 hj0 hj1 h
  · replace h := h.2 b4
    unfold vX13_rest_84
    refine g_ld (v := cI _) rfl (is_I _) ?_
    exact g_ret1 (is_I _) ⟨_, rfl, hl3, h⟩
def PX13_rest_0 (J : Nat → List Int → gS → (Int → gS → Prop) → Prop) (a1 : Int) (a2 : Int) (G : gS) (Q : Int → gS → Prop) : Prop :=
  PX13_rest_5 J a1 a2 0 0 G Q
set_option maxRecDepth 20000 in
theorem TX13_rest_0 {j : Nat → rx_K} {J : Nat → List Int → gS → (Int → gS → Prop) → Prop} {a1 : Int} {a2 : Int} {G : gS} {Q : Int → gS → Prop} (ha1 : inI a1) (hj0 : ∀ (l1 : Int) (l2 : Int) (l3 : Int) (l4 : Int) (l5 : Nat) (l6 : Nat) (G : gS), (inI l1) → (inI l3) → (inI l4) → (l5 % 8 ≠ 1) → (l6 % 8 ≠ 1) → J 0 [l1, l2, l3, l4] G Q → Tg W0 (j 0) [rf (16081), cI (l1), rf (l2), cI (l3), cI (l4), l5, l6] [] G (fun r G => ∃ v, r = cI v ∧ inI v ∧ Q v G)) (hj1 : ∀ (l1 : Int) (l2 : Int) (l3 : Int) (l4 : Int) (l5 : Int) (l6 : Int) (G : gS), (inI l1) → (inI l3) → (inI l4) → (inI l5) → (inI l6) → J 1 [l1, l2, l3, l4, l5, l6] G Q → Tg W0 (j 1) [rf (16081), cI (l1), rf (l2), cI (l3), cI (l4), cI (l5), cI (l6)] [] G (fun r G => ∃ v, r = cI v ∧ inI v ∧ Q v G)) (h : PX13_rest_0 J a1 a2 G Q) : Tg W0 (vX13_rest_0 j) [rf (16081), cI (a1), rf (a2), 7, 7, 7, 7] [] G (fun r G => ∃ v, r = cI v ∧ inI v ∧ Q v G) := by
  unfold PX13_rest_0 at h
  unfold vX13_rest_0
  refine g_const (v := cI (0)) rfl ?_
  refine g_st (lv' := [_, _, _, _, _, _, _]) (is_I _) (Nat.le_of_ble_eq_true rfl) (Or.inr (n1_R _)) rfl ?_
  refine g_const (v := cI (0)) rfl ?_
  refine g_st (lv' := [_, _, _, _, _, _, _]) (is_I _) (Nat.le_of_ble_eq_true rfl) (Or.inr (n1_I _)) rfl ?_
  exact TX13_rest_5 ha1 ⟨by omega, by omega⟩ ⟨by omega, by omega⟩ (show 7 % 8 ≠ 1 by decide) (show 7 % 8 ≠ 1 by decide) hj0 hj1 h
def PX13_rest_J : Nat → Nat → List Int → gS → (Int → gS → Prop) → Prop
  | 0, _, _, _, _ => False
  | f + 1, h, L, G, Q => match h, L with
    | 0, [l1, l2, l3, l4] => PX13_rest_5 (PX13_rest_J f) l1 l2 l3 l4 G Q
    | 1, [l1, l2, l3, l4, l5, l6] => PX13_rest_34 (PX13_rest_J f) l1 l2 l3 l4 l5 l6 G Q
    | _, _ => False
theorem TX13_rest_J {Q : Int → gS → Prop} : ∀ f N : Nat, f ≤ N → (∀ (l1 : Int) (l2 : Int) (l3 : Int) (l4 : Int) (l5 : Nat) (l6 : Nat) (G : gS), (inI l1) → (inI l3) → (inI l4) → (l5 % 8 ≠ 1) → (l6 % 8 ≠ 1) → (PX13_rest_J f) 0 [l1, l2, l3, l4] G Q → Tg W0 (rx_J vhX13_rest N 0) [rf (16081), cI (l1), rf (l2), cI (l3), cI (l4), l5, l6] [] G (fun r G => ∃ v, r = cI v ∧ inI v ∧ Q v G)) ∧ (∀ (l1 : Int) (l2 : Int) (l3 : Int) (l4 : Int) (l5 : Int) (l6 : Int) (G : gS), (inI l1) → (inI l3) → (inI l4) → (inI l5) → (inI l6) → (PX13_rest_J f) 1 [l1, l2, l3, l4, l5, l6] G Q → Tg W0 (rx_J vhX13_rest N 1) [rf (16081), cI (l1), rf (l2), cI (l3), cI (l4), cI (l5), cI (l6)] [] G (fun r G => ∃ v, r = cI v ∧ inI v ∧ Q v G)) := by
  intro f
  induction f with
  | zero => exact fun N _ => ⟨fun _ _ _ _ _ _ _ _ _ _ _ _ h => h.elim, fun _ _ _ _ _ _ _ _ _ _ _ _ h => h.elim⟩
  | succ f ih =>
    intro N hN
    obtain ⟨M, rfl⟩ : ∃ M, N = M + 1 := ⟨N - 1, by omega⟩
    have ih := ih M (by omega)
    exact ⟨fun _ _ _ _ _ _ _ hl1 hl3 hl4 hl5 hl6 h => show Tg W0 (vX13_rest_5 (rx_J vhX13_rest M)) _ _ _ _ from TX13_rest_5 hl1 hl3 hl4 hl5 hl6 ih.1 ih.2 h, fun _ _ _ _ _ _ _ hl1 hl3 hl4 hl5 hl6 h => show Tg W0 (vX13_rest_34 (rx_J vhX13_rest M)) _ _ _ _ from TX13_rest_34 hl1 hl3 hl4 hl5 hl6 ih.1 ih.2 h⟩
def PX13_rest (a1 : Int) (a2 : Int) (G : gS) (Q : Int → gS → Prop) : Prop := ∃ f : Nat, f ≤ 4000000000 ∧ PX13_rest_0 (PX13_rest_J f) a1 a2 G Q
theorem TX13_rest {a1 : Int} {a2 : Int} {G : gS} {Q : Int → gS → Prop} (ha1 : inI a1) (h : PX13_rest a1 a2 G Q) : Tn W0 FX13_rest [rf (16081), cI (a1), rf (a2)] G (fun r G => ∃ v, r = cI v ∧ inI v ∧ Q v G) := by
  obtain ⟨f, hf, h⟩ := h
  have hJ := TX13_rest_J (Q := Q) f 4000000000 hf
  unfold FX13_rest
  refine g_ent (lv' := [rf (16081), cI (a1), rf (a2), 7, 7, 7, 7]) (flR (flI (flR fl0))) (Nat.le_of_ble_eq_true rfl) rfl ?_
  exact TX13_rest_0 ha1 hJ.1 hJ.2 h
def PX13_sameRest_70 (J : Nat → List Int → gS → (Int → gS → Prop) → Prop) (l1 : Int) (l2 : Int) (l3 : Int) (l4 : Int) (l5 : Int) (G : gS) (Q : Int → gS → Prop) : Prop :=
  ((0 ≤ l4 ∧ l4 ≤ 1) ∧ Q (l4) G)
set_option maxRecDepth 20000 in
theorem TX13_sameRest_70 {j : Nat → rx_K} {J : Nat → List Int → gS → (Int → gS → Prop) → Prop} {l1 : Int} {l2 : Int} {l3 : Int} {l4 : Int} {l5 : Int} {G : gS} {Q : Int → gS → Prop} (hl1 : inI l1) (hl2 : inI l2) (hl3 : inI l3) (hl4 : inI l4) (hl5 : inI l5) (hj0 : ∀ (l1 : Int) (l2 : Int) (l3 : Int) (l4 : Int) (l5 : Int) (G : gS), (inI l1) → (inI l2) → (inI l3) → (inI l4) → (inI l5) → J 0 [l1, l2, l3, l4, l5] G Q → Tg W0 (j 0) [rf (16081), cI (l1), cI (l2), cI (l3), cI (l4), cI (l5)] [] G (fun r G => ∃ v, r = cI v ∧ (0 ≤ v ∧ v ≤ 1) ∧ Q v G)) (h : PX13_sameRest_70 J l1 l2 l3 l4 l5 G Q) : Tg W0 (vX13_sameRest_70 j) [rf (16081), cI (l1), cI (l2), cI (l3), cI (l4), cI (l5)] [] G (fun r G => ∃ v, r = cI v ∧ (0 ≤ v ∧ v ≤ 1) ∧ Q v G) := by
  unfold PX13_sameRest_70 at h
  unfold vX13_sameRest_70
  refine g_ld (v := cI _) rfl (is_I _) ?_
  obtain ⟨q20, h⟩ := h
  exact g_ret1 (is_Z q20) ⟨_, rfl, q20, h⟩
def PX13_sameRest_33 (J : Nat → List Int → gS → (Int → gS → Prop) → Prop) (l1 : Int) (l2 : Int) (l3 : Int) (l4 : Int) (l5 : Int) (G : gS) (Q : Int → gS → Prop) : Prop :=
  ((l5 < l3 → ((l4 = 0 → PX13_sameRest_70 J l1 l2 l3 l4 l5 G Q) ∧ (¬ (l4 = 0) → ((0 : Int) ≤ l5 ∧ ((l5 : Int) < 702 ∧ (inI (G 16213 l5) → ((0 : Int) ≤ l5 ∧ ((l5 : Int) < 702 ∧ (inI (G 16214 l5) → PX13_sameToken (G 16213 l5) (G 16214 l5) G (fun r17 G16 => (0 ≤ r17 ∧ r17 ≤ 1) → (inI (l5 + 1) ∧ J 0 [l1, l2, l3, r17, l5 + 1] G16 Q))))))))))) ∧ (¬ (l5 < l3) → PX13_sameRest_70 J l1 l2 l3 l4 l5 G Q))
set_option maxRecDepth 20000 in
theorem TX13_sameRest_33 {j : Nat → rx_K} {J : Nat → List Int → gS → (Int → gS → Prop) → Prop} {l1 : Int} {l2 : Int} {l3 : Int} {l4 : Int} {l5 : Int} {G : gS} {Q : Int → gS → Prop} (hl1 : inI l1) (hl2 : inI l2) (hl3 : inI l3) (hl4 : inI l4) (hl5 : inI l5) (hj0 : ∀ (l1 : Int) (l2 : Int) (l3 : Int) (l4 : Int) (l5 : Int) (G : gS), (inI l1) → (inI l2) → (inI l3) → (inI l4) → (inI l5) → J 0 [l1, l2, l3, l4, l5] G Q → Tg W0 (j 0) [rf (16081), cI (l1), cI (l2), cI (l3), cI (l4), cI (l5)] [] G (fun r G => ∃ v, r = cI v ∧ (0 ≤ v ∧ v ≤ 1) ∧ Q v G)) (h : PX13_sameRest_33 J l1 l2 l3 l4 l5 G Q) : Tg W0 (vX13_sameRest_33 j) [rf (16081), cI (l1), cI (l2), cI (l3), cI (l4), cI (l5)] [] G (fun r G => ∃ v, r = cI v ∧ (0 ≤ v ∧ v ≤ 1) ∧ Q v G) := by
  unfold PX13_sameRest_33 at h
  unfold vX13_sameRest_33
  refine g_ld (v := cI _) rfl (is_I _) ?_
  refine g_ld (v := cI _) rfl (is_I _) ?_
  refine g_lt2 hl5 hl3 (fun b8 => ?_) (fun b8 => ?_)
  · replace h := h.1 b8
    unfold vX13_sameRest_39
    refine g_ld (v := cI _) rfl (is_I _) ?_
    refine g_eq1 hl4 (fun b9 => ?_) (fun b9 => ?_)
    · replace h := h.1 b9
      exact TX13_sameRest_70 hl1 hl2 hl3 hl4 hl5 hj0 h
    · replace h := h.2 b9
      unfold vX13_sameRest_44
      refine g_ld (v := rf _) rfl (is_R _) ?_
      refine g_ld (v := rf _) rfl (is_R _) ?_
      refine g_getF (v := 16213) oC13 (hC13_176) rfl (Nat.le_of_ble_eq_true rfl) (Nat.le_of_ble_eq_true rfl) ?_
      refine g_ld (v := cI _) rfl (is_I _) ?_
      obtain ⟨q10, q11, h⟩ := h
      refine g_aldI aC16213 q10 q11 rfl fun i12 => ?_
      replace h := h i12
      refine g_ld (v := rf _) rfl (is_R _) ?_
      refine g_getF (v := 16214) oC13 (hC13_177) rfl (Nat.le_of_ble_eq_true rfl) (Nat.le_of_ble_eq_true rfl) ?_
      refine g_ld (v := cI _) rfl (is_I _) ?_
      obtain ⟨q13, q14, h⟩ := h
      refine g_aldI aC16214 q13 q14 rfl fun i15 => ?_
      replace h := h i15
      refine g_callV (As := [_, _]) (ci := 13) oC13 (fun _ => rfl) ?_
      refine g_go1 (Nat.le_of_ble_eq_true rfl) (Tn_w (TX13_sameToken i12 i15 h) fun _ G16 ⟨r17, e, i18, h⟩ => ?_)
      subst e
      refine ⟨n7_I _, ?_⟩
      replace h := h i18
      refine g_st (lv' := [_, _, _, _, _, _]) (is_I _) (Nat.le_of_ble_eq_true rfl) (Or.inr (n1_I _)) rfl ?_
      refine g_inc (lv' := [_, _, _, _, _, _]) rfl (Nat.le_of_ble_eq_true rfl) (Or.inr (n1_I _)) rfl ?_
      obtain ⟨q19, h⟩ := h
      exact hj0 _ _ _ _ _ _ hl1 hl2 hl3 ⟨by omega, by omega⟩ q19 h
  · replace h := h.2 b8
    exact TX13_sameRest_70 hl1 hl2 hl3 hl4 hl5 hj0 h
def PX13_sameRest_28 (J : Nat → List Int → gS → (Int → gS → Prop) → Prop) (l1 : Int) (l2 : Int) (l3 : Int) (s0 : Int) (G : gS) (Q : Int → gS → Prop) : Prop :=
  PX13_sameRest_33 J l1 l2 l3 s0 0 G Q
set_option maxRecDepth 20000 in
theorem TX13_sameRest_28 {j : Nat → rx_K} {J : Nat → List Int → gS → (Int → gS → Prop) → Prop} {l1 : Int} {l2 : Int} {l3 : Int} {l4 : Nat} {l5 : Nat} {s0 : Int} {G : gS} {Q : Int → gS → Prop} (hl1 : inI l1) (hl2 : inI l2) (hl3 : inI l3) (hl4 : l4 % 8 ≠ 1) (hl5 : l5 % 8 ≠ 1) (hs0 : inI s0) (hj0 : ∀ (l1 : Int) (l2 : Int) (l3 : Int) (l4 : Int) (l5 : Int) (G : gS), (inI l1) → (inI l2) → (inI l3) → (inI l4) → (inI l5) → J 0 [l1, l2, l3, l4, l5] G Q → Tg W0 (j 0) [rf (16081), cI (l1), cI (l2), cI (l3), cI (l4), cI (l5)] [] G (fun r G => ∃ v, r = cI v ∧ (0 ≤ v ∧ v ≤ 1) ∧ Q v G)) (h : PX13_sameRest_28 J l1 l2 l3 s0 G Q) : Tg W0 (vX13_sameRest_28 j) [rf (16081), cI (l1), cI (l2), cI (l3), l4, l5] [cI (s0)] G (fun r G => ∃ v, r = cI v ∧ (0 ≤ v ∧ v ≤ 1) ∧ Q v G) := by
  unfold PX13_sameRest_28 at h
  unfold vX13_sameRest_28
  refine g_st (lv' := [_, _, _, _, _, _]) (is_I _) (Nat.le_of_ble_eq_true rfl) (Or.inr (n1_I _)) rfl ?_
  refine g_const (v := cI (0)) rfl ?_
  refine g_st (lv' := [_, _, _, _, _, _]) (is_I _) (Nat.le_of_ble_eq_true rfl) (Or.inr (n1_I _)) rfl ?_
  exact TX13_sameRest_33 hl1 hl2 hl3 hs0 ⟨by omega, by omega⟩ hj0 h
def PX13_sameRest_0 (J : Nat → List Int → gS → (Int → gS → Prop) → Prop) (a1 : Int) (a2 : Int) (G : gS) (Q : Int → gS → Prop) : Prop :=
  PX13_rest a1 16213 G (fun r2 G1 => inI r2 → PX13_rest a2 16214 G1 (fun r5 G4 => inI r5 → ((r5 = r2 → PX13_sameRest_28 J a1 a2 r2 1 G4 Q) ∧ (¬ (r5 = r2) → PX13_sameRest_28 J a1 a2 r2 0 G4 Q))))
set_option maxRecDepth 20000 in
theorem TX13_sameRest_0 {j : Nat → rx_K} {J : Nat → List Int → gS → (Int → gS → Prop) → Prop} {a1 : Int} {a2 : Int} {G : gS} {Q : Int → gS → Prop} (ha1 : inI a1) (ha2 : inI a2) (hj0 : ∀ (l1 : Int) (l2 : Int) (l3 : Int) (l4 : Int) (l5 : Int) (G : gS), (inI l1) → (inI l2) → (inI l3) → (inI l4) → (inI l5) → J 0 [l1, l2, l3, l4, l5] G Q → Tg W0 (j 0) [rf (16081), cI (l1), cI (l2), cI (l3), cI (l4), cI (l5)] [] G (fun r G => ∃ v, r = cI v ∧ (0 ≤ v ∧ v ≤ 1) ∧ Q v G)) (h : PX13_sameRest_0 J a1 a2 G Q) : Tg W0 (vX13_sameRest_0 j) [rf (16081), cI (a1), cI (a2), 7, 7, 7] [] G (fun r G => ∃ v, r = cI v ∧ (0 ≤ v ∧ v ≤ 1) ∧ Q v G) := by
  unfold PX13_sameRest_0 at h
  unfold vX13_sameRest_0
  refine g_ld (v := rf _) rfl (is_R _) ?_
  refine g_ld (v := cI _) rfl (is_I _) ?_
  refine g_ld (v := rf _) rfl (is_R _) ?_
  refine g_getF (v := 16213) oC13 (hC13_176) rfl (Nat.le_of_ble_eq_true rfl) (Nat.le_of_ble_eq_true rfl) ?_
  refine g_callV (As := [_, _]) (ci := 13) oC13 (fun _ => rfl) ?_
  refine g_go1 (Nat.le_of_ble_eq_true rfl) (Tn_w (TX13_rest ha1 h) fun _ G1 ⟨r2, e, i3, h⟩ => ?_)
  subst e
  refine ⟨n7_I _, ?_⟩
  replace h := h i3
  refine g_st (lv' := [_, _, _, _, _, _]) (is_I _) (Nat.le_of_ble_eq_true rfl) (Or.inr (n1_I _)) rfl ?_
  refine g_ld (v := rf _) rfl (is_R _) ?_
  refine g_ld (v := cI _) rfl (is_I _) ?_
  refine g_ld (v := rf _) rfl (is_R _) ?_
  refine g_getF (v := 16214) oC13 (hC13_177) rfl (Nat.le_of_ble_eq_true rfl) (Nat.le_of_ble_eq_true rfl) ?_
  refine g_callV (As := [_, _]) (ci := 13) oC13 (fun _ => rfl) ?_
  refine g_go1 (Nat.le_of_ble_eq_true rfl) (Tn_w (TX13_rest ha2 h) fun _ G4 ⟨r5, e, i6, h⟩ => ?_)
  subst e
  refine ⟨n7_I _, ?_⟩
  replace h := h i6
  refine g_ld (v := cI _) rfl (is_I _) ?_
  refine g_eq2 i6 i3 (fun b7 => ?_) (fun b7 => ?_)
  · replace h := h.1 b7
    unfold vX13_sameRest_23
    refine g_const (v := cI (1)) rfl ?_
    exact TX13_sameRest_28 ha1 ha2 i3 (show 7 % 8 ≠ 1 by decide) (show 7 % 8 ≠ 1 by decide) ⟨by omega, by omega⟩ hj0 h
  · replace h := h.2 b7
    unfold vX13_sameRest_27
    refine g_const (v := cI (0)) rfl ?_
    exact TX13_sameRest_28 ha1 ha2 i3 (show 7 % 8 ≠ 1 by decide) (show 7 % 8 ≠ 1 by decide) ⟨by omega, by omega⟩ hj0 h
def PX13_sameRest_J : Nat → Nat → List Int → gS → (Int → gS → Prop) → Prop
  | 0, _, _, _, _ => False
  | f + 1, h, L, G, Q => match h, L with
    | 0, [l1, l2, l3, l4, l5] => PX13_sameRest_33 (PX13_sameRest_J f) l1 l2 l3 l4 l5 G Q
    | _, _ => False
theorem TX13_sameRest_J {Q : Int → gS → Prop} : ∀ f N : Nat, f ≤ N → (∀ (l1 : Int) (l2 : Int) (l3 : Int) (l4 : Int) (l5 : Int) (G : gS), (inI l1) → (inI l2) → (inI l3) → (inI l4) → (inI l5) → (PX13_sameRest_J f) 0 [l1, l2, l3, l4, l5] G Q → Tg W0 (rx_J vhX13_sameRest N 0) [rf (16081), cI (l1), cI (l2), cI (l3), cI (l4), cI (l5)] [] G (fun r G => ∃ v, r = cI v ∧ (0 ≤ v ∧ v ≤ 1) ∧ Q v G)) := by
  intro f
  induction f with
  | zero => exact fun N _ => fun _ _ _ _ _ _ _ _ _ _ _ h => h.elim
  | succ f ih =>
    intro N hN
    obtain ⟨M, rfl⟩ : ∃ M, N = M + 1 := ⟨N - 1, by omega⟩
    have ih := ih M (by omega)
    exact fun _ _ _ _ _ _ hl1 hl2 hl3 hl4 hl5 h => show Tg W0 (vX13_sameRest_33 (rx_J vhX13_sameRest M)) _ _ _ _ from TX13_sameRest_33 hl1 hl2 hl3 hl4 hl5 ih h
def PX13_sameRest (a1 : Int) (a2 : Int) (G : gS) (Q : Int → gS → Prop) : Prop := ∃ f : Nat, f ≤ 4000000000 ∧ PX13_sameRest_0 (PX13_sameRest_J f) a1 a2 G Q
theorem TX13_sameRest {a1 : Int} {a2 : Int} {G : gS} {Q : Int → gS → Prop} (ha1 : inI a1) (ha2 : inI a2) (h : PX13_sameRest a1 a2 G Q) : Tn W0 FX13_sameRest [rf (16081), cI (a1), cI (a2)] G (fun r G => ∃ v, r = cI v ∧ (0 ≤ v ∧ v ≤ 1) ∧ Q v G) := by
  obtain ⟨f, hf, h⟩ := h
  have hJ := TX13_sameRest_J (Q := Q) f 4000000000 hf
  unfold FX13_sameRest
  refine g_ent (lv' := [rf (16081), cI (a1), cI (a2), 7, 7, 7]) (flR (flI (flI fl0))) (Nat.le_of_ble_eq_true rfl) rfl ?_
  exact TX13_sameRest_0 ha1 ha2 hJ h
end DE

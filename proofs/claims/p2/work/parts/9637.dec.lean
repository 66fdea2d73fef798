section DE
def PX13_heal_218 (J : Nat → List Int → gS → (Int → gS → Prop) → Prop) (l1 : Int) (l2 : Int) (l3 : Int) (l4 : Int) (l5 : Int) (l6 : Int) (l7 : Int) (l8 : Int) (G : gS) (Q : Int → gS → Prop) : Prop :=
  (inI (l5 + 1) ∧ J 0 [l1, l2, l3, l4, l5 + 1] G Q)
set_option maxRecDepth 20000 in
theorem TX13_heal_218 {j : Nat → rx_K} {J : Nat → List Int → gS → (Int → gS → Prop) → Prop} {l1 : Int} {l2 : Int} {l3 : Int} {l4 : Int} {l5 : Int} {l6 : Int} {l7 : Int} {l8 : Int} {G : gS} {Q : Int → gS → Prop} (hl1 : inI l1) (hl2 : inI l2) (hl3 : inI l3) (hl4 : inI l4) (hl5 : inI l5) (hl6 : inI l6) (hl7 : inI l7) (hl8 : inI l8) (hj0 : ∀ (l1 : Int) (l2 : Int) (l3 : Int) (l4 : Int) (l5 : Int) (l6 : Nat) (l7 : Nat) (l8 : Nat) (G : gS), (inI l1) → (inI l2) → (inI l3) → (inI l4) → (inI l5) → (l6 % 8 ≠ 1) → (l7 % 8 ≠ 1) → (l8 % 8 ≠ 1) → J 0 [l1, l2, l3, l4, l5] G Q → Tg W0 (j 0) [rf (16081), cI (l1), cI (l2), cI (l3), cI (l4), cI (l5), l6, l7, l8] [] G (fun r G => ∃ v, r = cI v ∧ inI v ∧ Q v G)) (h : PX13_heal_218 J l1 l2 l3 l4 l5 l6 l7 l8 G Q) : Tg W0 (vX13_heal_218 j) [rf (16081), cI (l1), cI (l2), cI (l3), cI (l4), cI (l5), cI (l6), cI (l7), cI (l8)] [] G (fun r G => ∃ v, r = cI v ∧ inI v ∧ Q v G) := by
  unfold PX13_heal_218 at h
  unfold vX13_heal_218
  refine g_inc (lv' := [_, _, _, _, _, _, _, _, _]) rfl (Nat.le_of_ble_eq_true rfl) (Or.inr (n1_I _)) rfl ?_
  obtain ⟨q74, h⟩ := h
  exact hj0 _ _ _ _ _ _ _ _ _ hl1 hl2 hl3 hl4 q74 (n1_I _) (n1_I _) (n1_I _) h
def PX13_heal_215 (J : Nat → List Int → gS → (Int → gS → Prop) → Prop) (l1 : Int) (l2 : Int) (l3 : Int) (l4 : Int) (l5 : Int) (l6 : Int) (l7 : Int) (l8 : Int) (G : gS) (Q : Int → gS → Prop) : Prop :=
  (inI (l4 + 1) ∧ PX13_heal_218 J l1 l2 l3 (l4 + 1) l5 l6 l7 l8 G Q)
set_option maxRecDepth 20000 in
theorem TX13_heal_215 {j : Nat → rx_K} {J : Nat → List Int → gS → (Int → gS → Prop) → Prop} {l1 : Int} {l2 : Int} {l3 : Int} {l4 : Int} {l5 : Int} {l6 : Int} {l7 : Int} {l8 : Int} {G : gS} {Q : Int → gS → Prop} (hl1 : inI l1) (hl2 : inI l2) (hl3 : inI l3) (hl4 : inI l4) (hl5 : inI l5) (hl6 : inI l6) (hl7 : inI l7) (hl8 : inI l8) (hj0 : ∀ (l1 : Int) (l2 : Int) (l3 : Int) (l4 : Int) (l5 : Int) (l6 : Nat) (l7 : Nat) (l8 : Nat) (G : gS), (inI l1) → (inI l2) → (inI l3) → (inI l4) → (inI l5) → (l6 % 8 ≠ 1) → (l7 % 8 ≠ 1) → (l8 % 8 ≠ 1) → J 0 [l1, l2, l3, l4, l5] G Q → Tg W0 (j 0) [rf (16081), cI (l1), cI (l2), cI (l3), cI (l4), cI (l5), l6, l7, l8] [] G (fun r G => ∃ v, r = cI v ∧ inI v ∧ Q v G)) (h : PX13_heal_215 J l1 l2 l3 l4 l5 l6 l7 l8 G Q) : Tg W0 (vX13_heal_215 j) [rf (16081), cI (l1), cI (l2), cI (l3), cI (l4), cI (l5), cI (l6), cI (l7), cI (l8)] [] G (fun r G => ∃ v, r = cI v ∧ inI v ∧ Q v G) := by
  unfold PX13_heal_215 at h
  unfold vX13_heal_215
  refine g_inc (lv' := [_, _, _, _, _, _, _, _, _]) rfl (Nat.le_of_ble_eq_true rfl) (Or.inr (n1_I _)) rfl ?_
  obtain ⟨q75, h⟩ := h
  exact TX13_heal_218 hl1 hl2 hl3 q75 hl5 hl6 hl7 hl8 hj0 h
def PX13_heal_114 (J : Nat → List Int → gS → (Int → gS → Prop) → Prop) (l1 : Int) (l2 : Int) (l3 : Int) (l4 : Int) (l5 : Int) (l6 : Int) (l7 : Int) (s0 : Int) (G : gS) (Q : Int → gS → Prop) : Prop :=
  ((s0 = -2 → PX13_heal_218 J l1 l2 l3 l4 l5 l6 l7 s0 G Q) ∧ (¬ (s0 = -2) → ((0 : Int) ≤ s0 ∧ ((s0 : Int) < 7344 ∧ ((0 ≤ G 16121 s0 ∧ G 16121 s0 ≤ 1) → ((G 16121 s0 = 0 → ((0 : Int) ≤ s0 ∧ ((s0 : Int) < 7344 ∧ (inI (G 16118 s0) → ((G 16118 s0 = 0 → PX13_heal_218 J l1 l2 l3 l4 l5 l6 l7 s0 G Q) ∧ (¬ (G 16118 s0 = 0) → ((0 : Int) ≤ l6 ∧ ((l6 : Int) < 7344 ∧ ((0 ≤ G 16119 l6 ∧ G 16119 l6 ≤ 1) → ((0 : Int) ≤ s0 ∧ ((s0 : Int) < 7344 ∧ ((0 ≤ G 16119 s0 ∧ G 16119 s0 ≤ 1) → ((G 16119 l6 = G 16119 s0 → ((0 : Int) ≤ s0 ∧ ((s0 : Int) < 7344 ∧ (inL (G 16127 s0) → PX13_isC (G 16127 s0) G (fun r54 G53 => (0 ≤ r54 ∧ r54 ≤ 1) → ((r54 = 0 → PX13_heal_218 J l1 l2 l3 l4 l5 l6 l7 s0 G53 Q) ∧ (¬ (r54 = 0) → ((0 : Int) ≤ s0 ∧ ((s0 : Int) < 7344 ∧ (inL (G53 16127 s0) → ((0 : Int) ≤ l6 ∧ ((l6 : Int) < 7344 ∧ (inL (G53 16127 l6) → PX13_fits (G53 16127 s0) (G53 16127 l6) G53 (fun r64 G63 => (0 ≤ r64 ∧ r64 ≤ 1) → ((r64 = 0 → PX13_heal_218 J l1 l2 l3 l4 l5 l6 l7 s0 G63 Q) ∧ (¬ (r64 = 0) → ((l3 = -2 → PX13_heal_215 J l1 l2 l3 l4 l5 l6 l7 s0 G63 Q) ∧ (¬ (l3 = -2) → ((0 : Int) ≤ l6 ∧ ((l6 : Int) < 7344 ∧ (inL (G63 16127 l6) → PX13_bridge l3 s0 (G63 16127 l6) G63 (fun r72 G71 => inI r72 → PX13_heal_215 J l1 l2 l3 l4 l5 l6 l7 s0 G71 Q)))))))))))))))))))))) ∧ (¬ (G 16119 l6 = G 16119 s0) → PX13_heal_218 J l1 l2 l3 l4 l5 l6 l7 s0 G Q)))))))))))))) ∧ (¬ (G 16121 s0 = 0) → PX13_heal_218 J l1 l2 l3 l4 l5 l6 l7 s0 G Q)))))))
set_option maxRecDepth 20000 in
theorem TX13_heal_114 {j : Nat → rx_K} {J : Nat → List Int → gS → (Int → gS → Prop) → Prop} {l1 : Int} {l2 : Int} {l3 : Int} {l4 : Int} {l5 : Int} {l6 : Int} {l7 : Int} {l8 : Nat} {s0 : Int} {G : gS} {Q : Int → gS → Prop} (hl1 : inI l1) (hl2 : inI l2) (hl3 : inI l3) (hl4 : inI l4) (hl5 : inI l5) (hl6 : inI l6) (hl7 : inI l7) (hl8 : l8 % 8 ≠ 1) (hs0 : inI s0) (hj0 : ∀ (l1 : Int) (l2 : Int) (l3 : Int) (l4 : Int) (l5 : Int) (l6 : Nat) (l7 : Nat) (l8 : Nat) (G : gS), (inI l1) → (inI l2) → (inI l3) → (inI l4) → (inI l5) → (l6 % 8 ≠ 1) → (l7 % 8 ≠ 1) → (l8 % 8 ≠ 1) → J 0 [l1, l2, l3, l4, l5] G Q → Tg W0 (j 0) [rf (16081), cI (l1), cI (l2), cI (l3), cI (l4), cI (l5), l6, l7, l8] [] G (fun r G => ∃ v, r = cI v ∧ inI v ∧ Q v G)) (h : PX13_heal_114 J l1 l2 l3 l4 l5 l6 l7 s0 G Q) : Tg W0 (vX13_heal_114 j) [rf (16081), cI (l1), cI (l2), cI (l3), cI (l4), cI (l5), cI (l6), cI (l7), l8] [cI (s0)] G (fun r G => ∃ v, r = cI v ∧ inI v ∧ Q v G) := by
  unfold PX13_heal_114 at h
  unfold vX13_heal_114
  refine g_st (lv' := [_, _, _, _, _, _, _, _, _]) (is_I _) (Nat.le_of_ble_eq_true rfl) (Or.inr (n1_I _)) rfl ?_
  refine g_ld (v := cI _) rfl (is_I _) ?_
  refine g_const (v := cI (-2)) rfl ?_
  refine g_eq2 hs0 ⟨by omega, by omega⟩ (fun b34 => ?_) (fun b34 => ?_)
  · replace h := h.1 b34
    exact TX13_heal_218 hl1 hl2 hl3 hl4 hl5 hl6 hl7 hs0 hj0 h
  · replace h := h.2 b34
    unfold vX13_heal_123
    refine g_ld (v := rf _) rfl (is_R _) ?_
    refine g_getF (v := 16121) oC13 (hC13_47) rfl (Nat.le_of_ble_eq_true rfl) (Nat.le_of_ble_eq_true rfl) ?_
    refine g_ld (v := cI _) rfl (is_I _) ?_
    obtain ⟨q35, q36, h⟩ := h
    refine g_aldZ aC16121 q35 q36 rfl fun i37 => ?_
    replace h := h i37
    refine g_eq1 ⟨by omega, by omega⟩ (fun b38 => ?_) (fun b38 => ?_)
    · replace h := h.1 b38
      unfold vX13_heal_133
      refine g_ld (v := rf _) rfl (is_R _) ?_
      refine g_getF (v := 16118) oC13 (hC13_44) rfl (Nat.le_of_ble_eq_true rfl) (Nat.le_of_ble_eq_true rfl) ?_
      refine g_ld (v := cI _) rfl (is_I _) ?_
      obtain ⟨q39, q40, h⟩ := h
      refine g_aldI aC16118 q39 q40 rfl fun i41 => ?_
      replace h := h i41
      refine g_eq1 i41 (fun b42 => ?_) (fun b42 => ?_)
      · replace h := h.1 b42
        exact TX13_heal_218 hl1 hl2 hl3 hl4 hl5 hl6 hl7 hs0 hj0 h
      · replace h := h.2 b42
        unfold vX13_heal_143
        refine g_ld (v := rf _) rfl (is_R _) ?_
        refine g_getF (v := 16119) oC13 (hC13_45) rfl (Nat.le_of_ble_eq_true rfl) (Nat.le_of_ble_eq_true rfl) ?_
        refine g_ld (v := cI _) rfl (is_I _) ?_
        obtain ⟨q43, q44, h⟩ := h
        refine g_aldZ aC16119 q43 q44 rfl fun i45 => ?_
        replace h := h i45
        refine g_ld (v := rf _) rfl (is_R _) ?_
        refine g_getF (v := 16119) oC13 (hC13_45) rfl (Nat.le_of_ble_eq_true rfl) (Nat.le_of_ble_eq_true rfl) ?_
        refine g_ld (v := cI _) rfl (is_I _) ?_
        obtain ⟨q46, q47, h⟩ := h
        refine g_aldZ aC16119 q46 q47 rfl fun i48 => ?_
        replace h := h i48
        refine g_eq2 ⟨by omega, by omega⟩ ⟨by omega, by omega⟩ (fun b49 => ?_) (fun b49 => ?_)
        · replace h := h.1 b49
          unfold vX13_heal_160
          refine g_ld (v := rf _) rfl (is_R _) ?_
          refine g_getF (v := 16127) oC13 (hC13_53) rfl (Nat.le_of_ble_eq_true rfl) (Nat.le_of_ble_eq_true rfl) ?_
          refine g_ld (v := cI _) rfl (is_I _) ?_
          obtain ⟨q50, q51, h⟩ := h
          refine g_aldL aC16127 q50 q51 rfl fun i52 => ?_
          replace h := h i52
          refine g_callS (As := [_]) (fun _ => rfl) ?_
          refine g_go1 (Nat.le_of_ble_eq_true rfl) (Tn_w (TX13_isC i52 h) fun _ G53 ⟨r54, e, i55, h⟩ => ?_)
          subst e
          refine ⟨n7_I _, ?_⟩
          replace h := h i55
          refine g_eq1 ⟨by omega, by omega⟩ (fun b56 => ?_) (fun b56 => ?_)
          · replace h := h.1 b56
            exact TX13_heal_218 hl1 hl2 hl3 hl4 hl5 hl6 hl7 hs0 hj0 h
          · replace h := h.2 b56
            unfold vX13_heal_173
            refine g_ld (v := rf _) rfl (is_R _) ?_
            refine g_ld (v := rf _) rfl (is_R _) ?_
            refine g_getF (v := 16127) oC13 (hC13_53) rfl (Nat.le_of_ble_eq_true rfl) (Nat.le_of_ble_eq_true rfl) ?_
            refine g_ld (v := cI _) rfl (is_I _) ?_
            obtain ⟨q57, q58, h⟩ := h
            refine g_aldL aC16127 q57 q58 rfl fun i59 => ?_
            replace h := h i59
            refine g_ld (v := rf _) rfl (is_R _) ?_
            refine g_getF (v := 16127) oC13 (hC13_53) rfl (Nat.le_of_ble_eq_true rfl) (Nat.le_of_ble_eq_true rfl) ?_
            refine g_ld (v := cI _) rfl (is_I _) ?_
            obtain ⟨q60, q61, h⟩ := h
            refine g_aldL aC16127 q60 q61 rfl fun i62 => ?_
            replace h := h i62
            refine g_callV (As := [_, _]) (ci := 13) oC13 (fun _ => rfl) ?_
            refine g_go1 (Nat.le_of_ble_eq_true rfl) (Tn_w (TX13_fits i59 i62 h) fun _ G63 ⟨r64, e, i65, h⟩ => ?_)
            subst e
            refine ⟨n7_I _, ?_⟩
            replace h := h i65
            refine g_eq1 ⟨by omega, by omega⟩ (fun b66 => ?_) (fun b66 => ?_)
            · replace h := h.1 b66
              exact TX13_heal_218 hl1 hl2 hl3 hl4 hl5 hl6 hl7 hs0 hj0 h
            · replace h := h.2 b66
              unfold vX13_heal_194
              refine g_ld (v := cI _) rfl (is_I _) ?_
              refine g_const (v := cI (-2)) rfl ?_
              refine g_eq2 hl3 ⟨by omega, by omega⟩ (fun b67 => ?_) (fun b67 => ?_)
              · replace h := h.1 b67
                exact TX13_heal_215 hl1 hl2 hl3 hl4 hl5 hl6 hl7 hs0 hj0 h
              · replace h := h.2 b67
                unfold vX13_heal_200
                refine g_ld (v := rf _) rfl (is_R _) ?_
                refine g_ld (v := cI _) rfl (is_I _) ?_
                refine g_ld (v := cI _) rfl (is_I _) ?_
                refine g_ld (v := rf _) rfl (is_R _) ?_
                refine g_getF (v := 16127) oC13 (hC13_53) rfl (Nat.le_of_ble_eq_true rfl) (Nat.le_of_ble_eq_true rfl) ?_
                refine g_ld (v := cI _) rfl (is_I _) ?_
                obtain ⟨q68, q69, h⟩ := h
                refine g_aldL aC16127 q68 q69 rfl fun i70 => ?_
                replace h := h i70
                refine g_callV (As := [_, _, _]) (ci := 13) oC13 (fun _ => rfl) ?_
                refine g_go1 (Nat.le_of_ble_eq_true rfl) (Tn_w (TX13_bridge hl3 hs0 i70 h) fun _ G71 ⟨r72, e, i73, h⟩ => ?_)
                subst e
                refine ⟨n7_I _, ?_⟩
                replace h := h i73
                refine g_pop (ct_I _) ?_
                exact TX13_heal_215 hl1 hl2 hl3 hl4 hl5 hl6 hl7 hs0 hj0 h
        · replace h := h.2 b49
          exact TX13_heal_218 hl1 hl2 hl3 hl4 hl5 hl6 hl7 hs0 hj0 h
    · replace h := h.2 b38
      exact TX13_heal_218 hl1 hl2 hl3 hl4 hl5 hl6 hl7 hs0 hj0 h
def PX13_heal_95 (J : Nat → List Int → gS → (Int → gS → Prop) → Prop) (l1 : Int) (l2 : Int) (l3 : Int) (l4 : Int) (l5 : Int) (l6 : Int) (s0 : Int) (G : gS) (Q : Int → gS → Prop) : Prop :=
  ((s0 = 0 → PX13_heal_114 J l1 l2 l3 l4 l5 l6 s0 (-2) G Q) ∧ (¬ (s0 = 0) → PX13_alike l1 l6 G (fun r32 G31 => inI r32 → PX13_heal_114 J l1 l2 l3 l4 l5 l6 s0 r32 G31 Q)))
set_option maxRecDepth 20000 in
theorem TX13_heal_95 {j : Nat → rx_K} {J : Nat → List Int → gS → (Int → gS → Prop) → Prop} {l1 : Int} {l2 : Int} {l3 : Int} {l4 : Int} {l5 : Int} {l6 : Int} {l7 : Nat} {l8 : Nat} {s0 : Int} {G : gS} {Q : Int → gS → Prop} (hl1 : inI l1) (hl2 : inI l2) (hl3 : inI l3) (hl4 : inI l4) (hl5 : inI l5) (hl6 : inI l6) (hl7 : l7 % 8 ≠ 1) (hl8 : l8 % 8 ≠ 1) (hs0 : inI s0) (hj0 : ∀ (l1 : Int) (l2 : Int) (l3 : Int) (l4 : Int) (l5 : Int) (l6 : Nat) (l7 : Nat) (l8 : Nat) (G : gS), (inI l1) → (inI l2) → (inI l3) → (inI l4) → (inI l5) → (l6 % 8 ≠ 1) → (l7 % 8 ≠ 1) → (l8 % 8 ≠ 1) → J 0 [l1, l2, l3, l4, l5] G Q → Tg W0 (j 0) [rf (16081), cI (l1), cI (l2), cI (l3), cI (l4), cI (l5), l6, l7, l8] [] G (fun r G => ∃ v, r = cI v ∧ inI v ∧ Q v G)) (h : PX13_heal_95 J l1 l2 l3 l4 l5 l6 s0 G Q) : Tg W0 (vX13_heal_95 j) [rf (16081), cI (l1), cI (l2), cI (l3), cI (l4), cI (l5), cI (l6), l7, l8] [cI (s0)] G (fun r G => ∃ v, r = cI v ∧ inI v ∧ Q v G) := by
  unfold PX13_heal_95 at h
  unfold vX13_heal_95
  refine g_st (lv' := [_, _, _, _, _, _, _, _, _]) (is_I _) (Nat.le_of_ble_eq_true rfl) (Or.inr (n1_I _)) rfl ?_
  refine g_ld (v := cI _) rfl (is_I _) ?_
  refine g_eq1 hs0 (fun b30 => ?_) (fun b30 => ?_)
  · replace h := h.1 b30
    unfold vX13_heal_112
    refine g_const (v := cI (-2)) rfl ?_
    exact TX13_heal_114 hl1 hl2 hl3 hl4 hl5 hl6 hs0 hl8 ⟨by omega, by omega⟩ hj0 h
  · replace h := h.2 b30
    unfold vX13_heal_102
    refine g_ld (v := rf _) rfl (is_R _) ?_
    refine g_ld (v := cI _) rfl (is_I _) ?_
    refine g_ld (v := cI _) rfl (is_I _) ?_
    refine g_callV (As := [_, _]) (ci := 13) oC13 (fun _ => rfl) ?_
    refine g_go1 (Nat.le_of_ble_eq_true rfl) (Tn_w (TX13_alike hl1 hl6 h) fun _ G31 ⟨r32, e, i33, h⟩ => ?_)
    subst e
    refine ⟨n7_I _, ?_⟩
    replace h := h i33
    exact TX13_heal_114 hl1 hl2 hl3 hl4 hl5 hl6 hs0 hl8 i33 hj0 h
def PX13_heal_94 (J : Nat → List Int → gS → (Int → gS → Prop) → Prop) (l1 : Int) (l2 : Int) (l3 : Int) (l4 : Int) (l5 : Int) (l6 : Int) (G : gS) (Q : Int → gS → Prop) : Prop :=
  PX13_heal_95 J l1 l2 l3 l4 l5 l6 0 G Q
set_option maxRecDepth 20000 in
theorem TX13_heal_94 {j : Nat → rx_K} {J : Nat → List Int → gS → (Int → gS → Prop) → Prop} {l1 : Int} {l2 : Int} {l3 : Int} {l4 : Int} {l5 : Int} {l6 : Int} {l7 : Nat} {l8 : Nat} {G : gS} {Q : Int → gS → Prop} (hl1 : inI l1) (hl2 : inI l2) (hl3 : inI l3) (hl4 : inI l4) (hl5 : inI l5) (hl6 : inI l6) (hl7 : l7 % 8 ≠ 1) (hl8 : l8 % 8 ≠ 1) (hj0 : ∀ (l1 : Int) (l2 : Int) (l3 : Int) (l4 : Int) (l5 : Int) (l6 : Nat) (l7 : Nat) (l8 : Nat) (G : gS), (inI l1) → (inI l2) → (inI l3) → (inI l4) → (inI l5) → (l6 % 8 ≠ 1) → (l7 % 8 ≠ 1) → (l8 % 8 ≠ 1) → J 0 [l1, l2, l3, l4, l5] G Q → Tg W0 (j 0) [rf (16081), cI (l1), cI (l2), cI (l3), cI (l4), cI (l5), l6, l7, l8] [] G (fun r G => ∃ v, r = cI v ∧ inI v ∧ Q v G)) (h : PX13_heal_94 J l1 l2 l3 l4 l5 l6 G Q) : Tg W0 (vX13_heal_94 j) [rf (16081), cI (l1), cI (l2), cI (l3), cI (l4), cI (l5), cI (l6), l7, l8] [] G (fun r G => ∃ v, r = cI v ∧ inI v ∧ Q v G) := by
  unfold PX13_heal_94 at h
  unfold vX13_heal_94
  refine g_const (v := cI (0)) rfl ?_
  exact TX13_heal_95 hl1 hl2 hl3 hl4 hl5 hl6 hl7 hl8 ⟨by omega, by omega⟩ hj0 h
def PX13_heal_27 (J : Nat → List Int → gS → (Int → gS → Prop) → Prop) (l1 : Int) (l2 : Int) (l3 : Int) (l4 : Int) (l5 : Int) (G : gS) (Q : Int → gS → Prop) : Prop :=
  ((0 : Int) ≤ l2 ∧ ((l2 : Int) < 216 ∧ (inI (G 16115 l2) → ((l5 < G 16115 l2 → (inI ((l2 * 34) + l5) ∧ ((0 : Int) ≤ (l2 * 34) + l5 ∧ (((l2 * 34) + l5 : Int) < 7344 ∧ (inI (G 16116 ((l2 * 34) + l5)) → ((G 16116 ((l2 * 34) + l5) = 1 → ((0 : Int) ≤ (l2 * 34) + l5 ∧ (((l2 * 34) + l5 : Int) < 7344 ∧ ((0 ≤ G 16123 ((l2 * 34) + l5) ∧ G 16123 ((l2 * 34) + l5) ≤ 1) → ((G 16123 ((l2 * 34) + l5) = 0 → ((0 : Int) ≤ (l2 * 34) + l5 ∧ (((l2 * 34) + l5 : Int) < 7344 ∧ (inI (G 16118 ((l2 * 34) + l5)) → ((G 16118 ((l2 * 34) + l5) = 0 → PX13_heal_94 J l1 l2 l3 l4 l5 ((l2 * 34) + l5) G Q) ∧ (¬ (G 16118 ((l2 * 34) + l5) = 0) → PX13_ownMethod l1 ((l2 * 34) + l5) G (fun r27 G26 => inI r27 → ((r27 = -2 → PX13_heal_95 J l1 l2 l3 l4 l5 ((l2 * 34) + l5) 1 G26 Q) ∧ (¬ (r27 = -2) → PX13_heal_94 J l1 l2 l3 l4 l5 ((l2 * 34) + l5) G26 Q))))))))) ∧ (¬ (G 16123 ((l2 * 34) + l5) = 0) → PX13_heal_94 J l1 l2 l3 l4 l5 ((l2 * 34) + l5) G Q)))))) ∧ (¬ (G 16116 ((l2 * 34) + l5) = 1) → PX13_heal_94 J l1 l2 l3 l4 l5 ((l2 * 34) + l5) G Q))))))) ∧ (¬ (l5 < G 16115 l2) → Q (l4) G)))))
set_option maxRecDepth 20000 in
theorem TX13_heal_27 {j : Nat → rx_K} {J : Nat → List Int → gS → (Int → gS → Prop) → Prop} {l1 : Int} {l2 : Int} {l3 : Int} {l4 : Int} {l5 : Int} {l6 : Nat} {l7 : Nat} {l8 : Nat} {G : gS} {Q : Int → gS → Prop} (hl1 : inI l1) (hl2 : inI l2) (hl3 : inI l3) (hl4 : inI l4) (hl5 : inI l5) (hl6 : l6 % 8 ≠ 1) (hl7 : l7 % 8 ≠ 1) (hl8 : l8 % 8 ≠ 1) (hj0 : ∀ (l1 : Int) (l2 : Int) (l3 : Int) (l4 : Int) (l5 : Int) (l6 : Nat) (l7 : Nat) (l8 : Nat) (G : gS), (inI l1) → (inI l2) → (inI l3) → (inI l4) → (inI l5) → (l6 % 8 ≠ 1) → (l7 % 8 ≠ 1) → (l8 % 8 ≠ 1) → J 0 [l1, l2, l3, l4, l5] G Q → Tg W0 (j 0) [rf (16081), cI (l1), cI (l2), cI (l3), cI (l4), cI (l5), l6, l7, l8] [] G (fun r G => ∃ v, r = cI v ∧ inI v ∧ Q v G)) (h : PX13_heal_27 J l1 l2 l3 l4 l5 G Q) : Tg W0 (vX13_heal_27 j) [rf (16081), cI (l1), cI (l2), cI (l3), cI (l4), cI (l5), l6, l7, l8] [] G (fun r G => ∃ v, r = cI v ∧ inI v ∧ Q v G) := by
  unfold PX13_heal_27 at h
  unfold vX13_heal_27
  refine g_ld (v := cI _) rfl (is_I _) ?_
  refine g_ld (v := rf _) rfl (is_R _) ?_
  refine g_getF (v := 16115) oC13 (hC13_41) rfl (Nat.le_of_ble_eq_true rfl) (Nat.le_of_ble_eq_true rfl) ?_
  refine g_ld (v := cI _) rfl (is_I _) ?_
  obtain ⟨q9, q10, h⟩ := h
  refine g_aldI aC16115 q9 q10 rfl fun i11 => ?_
  replace h := h i11
  refine g_lt2 hl5 i11 (fun b12 => ?_) (fun b12 => ?_)
  · replace h := h.1 b12
    unfold vX13_heal_38
    refine g_ld (v := cI _) rfl (is_I _) ?_
    refine g_const (v := cI (34)) rfl ?_
    refine g_mul ?_
    refine g_ld (v := cI _) rfl (is_I _) ?_
    refine g_add ?_
    refine g_st (lv' := [_, _, _, _, _, _, _, _, _]) (is_I _) (Nat.le_of_ble_eq_true rfl) (Or.inr (n1_I _)) rfl ?_
    obtain ⟨q13, h⟩ := h
    refine g_ld (v := rf _) rfl (is_R _) ?_
    refine g_getF (v := 16116) oC13 (hC13_42) rfl (Nat.le_of_ble_eq_true rfl) (Nat.le_of_ble_eq_true rfl) ?_
    refine g_ld (v := cI _) rfl (is_I _) ?_
    obtain ⟨q14, q15, h⟩ := h
    refine g_aldI aC16116 q14 q15 rfl fun i16 => ?_
    replace h := h i16
    refine g_const (v := cI (1)) rfl ?_
    refine g_eq2 i16 ⟨by omega, by omega⟩ (fun b17 => ?_) (fun b17 => ?_)
    · replace h := h.1 b17
      unfold vX13_heal_58
      refine g_ld (v := rf _) rfl (is_R _) ?_
      refine g_getF (v := 16123) oC13 (hC13_49) rfl (Nat.le_of_ble_eq_true rfl) (Nat.le_of_ble_eq_true rfl) ?_
      refine g_ld (v := cI _) rfl (is_I _) ?_
      obtain ⟨q18, q19, h⟩ := h
      refine g_aldZ aC16123 q18 q19 rfl fun i20 => ?_
      replace h := h i20
      refine g_eq1 ⟨by omega, by omega⟩ (fun b21 => ?_) (fun b21 => ?_)
      · replace h := h.1 b21
        unfold vX13_heal_68
        refine g_ld (v := rf _) rfl (is_R _) ?_
        refine g_getF (v := 16118) oC13 (hC13_44) rfl (Nat.le_of_ble_eq_true rfl) (Nat.le_of_ble_eq_true rfl) ?_
        refine g_ld (v := cI _) rfl (is_I _) ?_
        obtain ⟨q22, q23, h⟩ := h
        refine g_aldI aC16118 q22 q23 rfl fun i24 => ?_
        replace h := h i24
        refine g_eq1 i24 (fun b25 => ?_) (fun b25 => ?_)
        · replace h := h.1 b25
          exact TX13_heal_94 hl1 hl2 hl3 hl4 hl5 q13 hl7 hl8 hj0 h
        · replace h := h.2 b25
          unfold vX13_heal_78
          refine g_ld (v := rf _) rfl (is_R _) ?_
          refine g_ld (v := cI _) rfl (is_I _) ?_
          refine g_ld (v := cI _) rfl (is_I _) ?_
          refine g_callV (As := [_, _]) (ci := 13) oC13 (fun _ => rfl) ?_
          refine g_go1 (Nat.le_of_ble_eq_true rfl) (Tn_w (TX13_ownMethod hl1 q13 h) fun _ G26 ⟨r27, e, i28, h⟩ => ?_)
          subst e
          refine ⟨n7_I _, ?_⟩
          replace h := h i28
          refine g_const (v := cI (-2)) rfl ?_
          refine g_eq2 i28 ⟨by omega, by omega⟩ (fun b29 => ?_) (fun b29 => ?_)
          · replace h := h.1 b29
            unfold vX13_heal_90
            refine g_const (v := cI (1)) rfl ?_
            exact TX13_heal_95 hl1 hl2 hl3 hl4 hl5 q13 hl7 hl8 ⟨by omega, by omega⟩ hj0 h
          · replace h := h.2 b29
            exact TX13_heal_94 hl1 hl2 hl3 hl4 hl5 q13 hl7 hl8 hj0 h
      · replace h := h.2 b21
        exact TX13_heal_94 hl1 hl2 hl3 hl4 hl5 q13 hl7 hl8 hj0 h
    · replace h := h.2 b17
      exact TX13_heal_94 hl1 hl2 hl3 hl4 hl5 q13 hl7 hl8 hj0 h
  · replace h := h.2 b12
    unfold vX13_heal_224
    refine g_ld (v := cI _) rfl (is_I _) ?_
    exact g_ret1 (is_I _) ⟨_, rfl, hl4, h⟩
def PX13_heal_19 (J : Nat → List Int → gS → (Int → gS → Prop) → Prop) (l1 : Int) (l2 : Int) (l3 : Int) (G : gS) (Q : Int → gS → Prop) : Prop :=
  Q (0) G
set_option maxRecDepth 20000 in
theorem TX13_heal_19 {j : Nat → rx_K} {J : Nat → List Int → gS → (Int → gS → Prop) → Prop} {l1 : Int} {l2 : Int} {l3 : Int} {l4 : Nat} {l5 : Nat} {l6 : Nat} {l7 : Nat} {l8 : Nat} {G : gS} {Q : Int → gS → Prop} (hl1 : inI l1) (hl2 : inI l2) (hl3 : inI l3) (hl4 : l4 % 8 ≠ 1) (hl5 : l5 % 8 ≠ 1) (hl6 : l6 % 8 ≠ 1) (hl7 : l7 % 8 ≠ 1) (hl8 : l8 % 8 ≠ 1) (hj0 : ∀ (l1 : Int) (l2 : Int) (l3 : Int) (l4 : Int) (l5 : Int) (l6 : Nat) (l7 : Nat) (l8 : Nat) (G : gS), (inI l1) → (inI l2) → (inI l3) → (inI l4) → (inI l5) → (l6 % 8 ≠ 1) → (l7 % 8 ≠ 1) → (l8 % 8 ≠ 1) → J 0 [l1, l2, l3, l4, l5] G Q → Tg W0 (j 0) [rf (16081), cI (l1), cI (l2), cI (l3), cI (l4), cI (l5), l6, l7, l8] [] G (fun r G => ∃ v, r = cI v ∧ inI v ∧ Q v G)) (h : PX13_heal_19 J l1 l2 l3 G Q) : Tg W0 (vX13_heal_19 j) [rf (16081), cI (l1), cI (l2), cI (l3), l4, l5, l6, l7, l8] [] G (fun r G => ∃ v, r = cI v ∧ inI v ∧ Q v G) := by
  unfold PX13_heal_19 at h
  unfold vX13_heal_19
  refine g_const (v := cI (0)) rfl ?_
  exact g_ret1 (is_I _) ⟨_, rfl, ⟨by omega, by omega⟩, h⟩
def PX13_heal_0 (J : Nat → List Int → gS → (Int → gS → Prop) → Prop) (a1 : Int) (a2 : Int) (a3 : Int) (G : gS) (Q : Int → gS → Prop) : Prop :=
  ((a2 = -2 → PX13_heal_19 J a1 a2 a3 G Q) ∧ (¬ (a2 = -2) → PX13_isFace a2 G (fun r3 G2 => (0 ≤ r3 ∧ r3 ≤ 1) → PX13_isFace a1 G2 (fun r6 G5 => (0 ≤ r6 ∧ r6 ≤ 1) → ((r3 = r6 → PX13_heal_27 J a1 a2 a3 0 0 G5 Q) ∧ (¬ (r3 = r6) → PX13_heal_19 J a1 a2 a3 G5 Q))))))
set_option maxRecDepth 20000 in
theorem TX13_heal_0 {j : Nat → rx_K} {J : Nat → List Int → gS → (Int → gS → Prop) → Prop} {a1 : Int} {a2 : Int} {a3 : Int} {G : gS} {Q : Int → gS → Prop} (ha1 : inI a1) (ha2 : inI a2) (ha3 : inI a3) (hj0 : ∀ (l1 : Int) (l2 : Int) (l3 : Int) (l4 : Int) (l5 : Int) (l6 : Nat) (l7 : Nat) (l8 : Nat) (G : gS), (inI l1) → (inI l2) → (inI l3) → (inI l4) → (inI l5) → (l6 % 8 ≠ 1) → (l7 % 8 ≠ 1) → (l8 % 8 ≠ 1) → J 0 [l1, l2, l3, l4, l5] G Q → Tg W0 (j 0) [rf (16081), cI (l1), cI (l2), cI (l3), cI (l4), cI (l5), l6, l7, l8] [] G (fun r G => ∃ v, r = cI v ∧ inI v ∧ Q v G)) (h : PX13_heal_0 J a1 a2 a3 G Q) : Tg W0 (vX13_heal_0 j) [rf (16081), cI (a1), cI (a2), cI (a3), 7, 7, 7, 7, 7] [] G (fun r G => ∃ v, r = cI v ∧ inI v ∧ Q v G) := by
  unfold PX13_heal_0 at h
  unfold vX13_heal_0
  refine g_ld (v := cI _) rfl (is_I _) ?_
  refine g_const (v := cI (-2)) rfl ?_
  refine g_eq2 ha2 ⟨by omega, by omega⟩ (fun b1 => ?_) (fun b1 => ?_)
  · replace h := h.1 b1
    exact TX13_heal_19 ha1 ha2 ha3 (show 7 % 8 ≠ 1 by decide) (show 7 % 8 ≠ 1 by decide) (show 7 % 8 ≠ 1 by decide) (show 7 % 8 ≠ 1 by decide) (show 7 % 8 ≠ 1 by decide) hj0 h
  · replace h := h.2 b1
    unfold vX13_heal_6
    refine g_ld (v := rf _) rfl (is_R _) ?_
    refine g_ld (v := cI _) rfl (is_I _) ?_
    refine g_callV (As := [_]) (ci := 13) oC13 (fun _ => rfl) ?_
    refine g_go1 (Nat.le_of_ble_eq_true rfl) (Tn_w (TX13_isFace ha2 h) fun _ G2 ⟨r3, e, i4, h⟩ => ?_)
    subst e
    refine ⟨n7_I _, ?_⟩
    replace h := h i4
    refine g_ld (v := rf _) rfl (is_R _) ?_
    refine g_ld (v := cI _) rfl (is_I _) ?_
    refine g_callV (As := [_]) (ci := 13) oC13 (fun _ => rfl) ?_
    refine g_go1 (by simp only [cs_c, cs_0, ct_I, ct_L, ct_R]; exact Nat.le_of_ble_eq_true rfl) (Tn_w (TX13_isFace ha1 h) fun _ G5 ⟨r6, e, i7, h⟩ => ?_)
    subst e
    refine ⟨n7_I _, ?_⟩
    replace h := h i7
    refine g_eq2 ⟨by omega, by omega⟩ ⟨by omega, by omega⟩ (fun b8 => ?_) (fun b8 => ?_)
    · replace h := h.1 b8
      unfold vX13_heal_21
      refine g_const (v := cI (0)) rfl ?_
      refine g_st (lv' := [_, _, _, _, _, _, _, _, _]) (is_I _) (Nat.le_of_ble_eq_true rfl) (Or.inr (n1_I _)) rfl ?_
      refine g_const (v := cI (0)) rfl ?_
      refine g_st (lv' := [_, _, _, _, _, _, _, _, _]) (is_I _) (Nat.le_of_ble_eq_true rfl) (Or.inr (n1_I _)) rfl ?_
      exact TX13_heal_27 ha1 ha2 ha3 ⟨by omega, by omega⟩ ⟨by omega, by omega⟩ (show 7 % 8 ≠ 1 by decide) (show 7 % 8 ≠ 1 by decide) (show 7 % 8 ≠ 1 by decide) hj0 h
    · replace h := h.2 b8
      exact TX13_heal_19 ha1 ha2 ha3 (show 7 % 8 ≠ 1 by decide) (show 7 % 8 ≠ 1 by decide) (show 7 % 8 ≠ 1 by decide) (show 7 % 8 ≠ 1 by decide) (show 7 % 8 ≠ 1 by decide) hj0 h
def PX13_heal_J : Nat → Nat → List Int → gS → (Int → gS → Prop) → Prop
  | 0, _, _, _, _ => False
  | f + 1, h, L, G, Q => match h, L with
    | 0, [l1, l2, l3, l4, l5] => PX13_heal_27 (PX13_heal_J f) l1 l2 l3 l4 l5 G Q
    | _, _ => False
theorem TX13_heal_J {Q : Int → gS → Prop} : ∀ f N : Nat, f ≤ N → (∀ (l1 : Int) (l2 : Int) (l3 : Int) (l4 : Int) (l5 : Int) (l6 : Nat) (l7 : Nat) (l8 : Nat) (G : gS), (inI l1) → (inI l2) → (inI l3) → (inI l4) → (inI l5) → (l6 % 8 ≠ 1) → (l7 % 8 ≠ 1) → (l8 % 8 ≠ 1) → (PX13_heal_J f) 0 [l1, l2, l3, l4, l5] G Q → Tg W0 (rx_J vhX13_heal N 0) [rf (16081), cI (l1), cI (l2), cI (l3), cI (l4), cI (l5), l6, l7, l8] [] G (fun r G => ∃ v, r = cI v ∧ inI v ∧ Q v G)) := by
  intro f
  induction f with
  | zero => exact fun N _ => fun _ _ _ _ _ _ _ _ _ _ _ _ _ _ _ _ _ h => h.elim
  | succ f ih =>
    intro N hN
    obtain ⟨M, rfl⟩ : ∃ M, N = M + 1 := ⟨N - 1, by omega⟩
    have ih := ih M (by omega)
    exact fun _ _ _ _ _ _ _ _ _ hl1 hl2 hl3 hl4 hl5 hl6 hl7 hl8 h => show Tg W0 (vX13_heal_27 (rx_J vhX13_heal M)) _ _ _ _ from TX13_heal_27 hl1 hl2 hl3 hl4 hl5 hl6 hl7 hl8 ih h
def PX13_heal (a1 : Int) (a2 : Int) (a3 : Int) (G : gS) (Q : Int → gS → Prop) : Prop := ∃ f : Nat, f ≤ 4000000000 ∧ PX13_heal_0 (PX13_heal_J f) a1 a2 a3 G Q
theorem TX13_heal {a1 : Int} {a2 : Int} {a3 : Int} {G : gS} {Q : Int → gS → Prop} (ha1 : inI a1) (ha2 : inI a2) (ha3 : inI a3) (h : PX13_heal a1 a2 a3 G Q) : Tn W0 FX13_heal [rf (16081), cI (a1), cI (a2), cI (a3)] G (fun r G => ∃ v, r = cI v ∧ inI v ∧ Q v G) := by
  obtain ⟨f, hf, h⟩ := h
  have hJ := TX13_heal_J (Q := Q) f 4000000000 hf
  unfold FX13_heal
  refine g_ent (lv' := [rf (16081), cI (a1), cI (a2), cI (a3), 7, 7, 7, 7, 7]) (flR (flI (flI (flI fl0)))) (Nat.le_of_ble_eq_true rfl) rfl ?_
  exact TX13_heal_0 ha1 ha2 ha3 hJ h
def PX13_copyUse_67 (J : Nat → List Int → gS → (Int → gS → Prop) → Prop) (l1 : Int) (l2 : Int) (l3 : Int) (G : gS) (Q : Int → gS → Prop) : Prop :=
  ((0 : Int) ≤ l1 ∧ ((l1 : Int) < 30600 ∧ (inI (G 16184 l1) → ((l3 < G 16184 l1 → ((0 : Int) ≤ (4 * l1) + l3 ∧ (((4 * l1) + l3 : Int) < 122400 ∧ (inL (G 16185 ((4 * l1) + l3)) → ((0 : Int) ≤ (4 * l2) + l3 ∧ (((4 * l2) + l3 : Int) < 122400 ∧ (∀ G43 : gS, G43 = uG G 16185 ((4 * l2) + l3) (G 16185 ((4 * l1) + l3)) → (inI (l3 + 1) ∧ J 0 [l1, l2, l3 + 1] G43 Q)))))))) ∧ (¬ (l3 < G 16184 l1) → PX13_keepUse l2 G (fun r46 G45 => inI r46 → Q (r46) G45))))))
set_option maxRecDepth 20000 in
theorem TX13_copyUse_67 {j : Nat → rx_K} {J : Nat → List Int → gS → (Int → gS → Prop) → Prop} {l1 : Int} {l2 : Int} {l3 : Int} {G : gS} {Q : Int → gS → Prop} (hl1 : inI l1) (hl2 : inI l2) (hl3 : inI l3) (hj0 : ∀ (l1 : Int) (l2 : Int) (l3 : Int) (G : gS), (inI l1) → (inI l2) → (inI l3) → J 0 [l1, l2, l3] G Q → Tg W0 (j 0) [rf (16081), cI (l1), cI (l2), cI (l3)] [] G (fun r G => ∃ v, r = cI v ∧ inI v ∧ Q v G)) (h : PX13_copyUse_67 J l1 l2 l3 G Q) : Tg W0 (vX13_copyUse_67 j) [rf (16081), cI (l1), cI (l2), cI (l3)] [] G (fun r G => ∃ v, r = cI v ∧ inI v ∧ Q v G) := by
  unfold PX13_copyUse_67 at h
  unfold vX13_copyUse_67
  refine g_ld (v := cI _) rfl (is_I _) ?_
  refine g_ld (v := rf _) rfl (is_R _) ?_
  refine g_getF (v := 16184) oC13 (hC13_124) rfl (Nat.le_of_ble_eq_true rfl) (Nat.le_of_ble_eq_true rfl) ?_
  refine g_ld (v := cI _) rfl (is_I _) ?_
  obtain ⟨q34, q35, h⟩ := h
  refine g_aldI aC16184 q34 q35 rfl fun i36 => ?_
  replace h := h i36
  refine g_lt2 hl3 i36 (fun b37 => ?_) (fun b37 => ?_)
  · replace h := h.1 b37
    unfold vX13_copyUse_77
    refine g_ld (v := rf _) rfl (is_R _) ?_
    refine g_getF (v := 16185) oC13 (hC13_125) rfl (Nat.le_of_ble_eq_true rfl) (Nat.le_of_ble_eq_true rfl) ?_
    refine g_const (v := cI (4)) rfl ?_
    refine g_ld (v := cI _) rfl (is_I _) ?_
    refine g_mul ?_
    refine g_ld (v := cI _) rfl (is_I _) ?_
    refine g_add ?_
    refine g_ld (v := rf _) rfl (is_R _) ?_
    refine g_getF (v := 16185) oC13 (hC13_125) rfl (Nat.le_of_ble_eq_true rfl) (Nat.le_of_ble_eq_true rfl) ?_
    refine g_const (v := cI (4)) rfl ?_
    refine g_ld (v := cI _) rfl (is_I _) ?_
    refine g_mul ?_
    refine g_ld (v := cI _) rfl (is_I _) ?_
    refine g_add ?_
    obtain ⟨q38, q39, h⟩ := h
    refine g_aldL aC16185 q38 q39 rfl fun i40 => ?_
    replace h := h i40
    obtain ⟨q41, q42, h⟩ := h
    refine g_astL aC16185 q41 q42 i40 (nfL aC16185) ?_
    replace h := h _ rfl
    refine g_inc (lv' := [_, _, _, _]) rfl (Nat.le_of_ble_eq_true rfl) (Or.inr (n1_I _)) rfl ?_
    obtain ⟨q44, h⟩ := h
    exact hj0 _ _ _ _ hl1 hl2 q44 h
  · replace h := h.2 b37
    unfold vX13_copyUse_103
    refine g_ld (v := rf _) rfl (is_R _) ?_
    refine g_ld (v := cI _) rfl (is_I _) ?_
    refine g_callV (As := [_]) (ci := 13) oC13 (fun _ => rfl) ?_
    refine g_go1 (Nat.le_of_ble_eq_true rfl) (Tn_w (TX13_keepUse hl2 h) fun _ G45 ⟨r46, e, i47, h⟩ => ?_)
    subst e
    refine ⟨n7_I _, ?_⟩
    replace h := h i47
    exact g_ret1 (is_I _) ⟨_, rfl, i47, h⟩
def PX13_copyUse_0 (J : Nat → List Int → gS → (Int → gS → Prop) → Prop) (a1 : Int) (G : gS) (Q : Int → gS → Prop) : Prop :=
  ((0 : Int) ≤ a1 ∧ ((a1 : Int) < 30600 ∧ (inI (G 16179 a1) → ((0 : Int) ≤ a1 ∧ ((a1 : Int) < 30600 ∧ (inL (G 16181 a1) → ((0 : Int) ≤ a1 ∧ ((a1 : Int) < 30600 ∧ (inL (G 16182 a1) → ((0 : Int) ≤ a1 ∧ ((a1 : Int) < 30600 ∧ (inL (G 16183 a1) → PX13_nextUse (G 16179 a1) (G 16181 a1) (G 16182 a1) (G 16183 a1) G (fun r14 G13 => inI r14 → ((0 : Int) ≤ a1 ∧ ((a1 : Int) < 30600 ∧ (inL (G13 16186 a1) → ((0 : Int) ≤ r14 ∧ ((r14 : Int) < 30600 ∧ (∀ G21 : gS, G21 = uG G13 16186 r14 (G13 16186 a1) → ((0 : Int) ≤ a1 ∧ ((a1 : Int) < 30600 ∧ (inI (G21 16187 a1) → ((0 : Int) ≤ r14 ∧ ((r14 : Int) < 30600 ∧ (∀ G27 : gS, G27 = uG G21 16187 r14 (G21 16187 a1) → ((0 : Int) ≤ a1 ∧ ((a1 : Int) < 30600 ∧ (inI (G27 16184 a1) → ((0 : Int) ≤ r14 ∧ ((r14 : Int) < 30600 ∧ (∀ G33 : gS, G33 = uG G27 16184 r14 (G27 16184 a1) → PX13_copyUse_67 J a1 r14 0 G33 Q)))))))))))))))))))))))))))))))
set_option maxRecDepth 20000 in
theorem TX13_copyUse_0 {j : Nat → rx_K} {J : Nat → List Int → gS → (Int → gS → Prop) → Prop} {a1 : Int} {G : gS} {Q : Int → gS → Prop} (ha1 : inI a1) (hj0 : ∀ (l1 : Int) (l2 : Int) (l3 : Int) (G : gS), (inI l1) → (inI l2) → (inI l3) → J 0 [l1, l2, l3] G Q → Tg W0 (j 0) [rf (16081), cI (l1), cI (l2), cI (l3)] [] G (fun r G => ∃ v, r = cI v ∧ inI v ∧ Q v G)) (h : PX13_copyUse_0 J a1 G Q) : Tg W0 (vX13_copyUse_0 j) [rf (16081), cI (a1), 7, 7] [] G (fun r G => ∃ v, r = cI v ∧ inI v ∧ Q v G) := by
  unfold PX13_copyUse_0 at h
  unfold vX13_copyUse_0
  refine g_ld (v := rf _) rfl (is_R _) ?_
  refine g_ld (v := rf _) rfl (is_R _) ?_
  refine g_getF (v := 16179) oC13 (hC13_119) rfl (Nat.le_of_ble_eq_true rfl) (Nat.le_of_ble_eq_true rfl) ?_
  refine g_ld (v := cI _) rfl (is_I _) ?_
  obtain ⟨q1, q2, h⟩ := h
  refine g_aldI aC16179 q1 q2 rfl fun i3 => ?_
  replace h := h i3
  refine g_ld (v := rf _) rfl (is_R _) ?_
  refine g_getF (v := 16181) oC13 (hC13_121) rfl (Nat.le_of_ble_eq_true rfl) (Nat.le_of_ble_eq_true rfl) ?_
  refine g_ld (v := cI _) rfl (is_I _) ?_
  obtain ⟨q4, q5, h⟩ := h
  refine g_aldL aC16181 q4 q5 rfl fun i6 => ?_
  replace h := h i6
  refine g_ld (v := rf _) rfl (is_R _) ?_
  refine g_getF (v := 16182) oC13 (hC13_122) rfl (Nat.le_of_ble_eq_true rfl) (Nat.le_of_ble_eq_true rfl) ?_
  refine g_ld (v := cI _) rfl (is_I _) ?_
  obtain ⟨q7, q8, h⟩ := h
  refine g_aldL aC16182 q7 q8 rfl fun i9 => ?_
  replace h := h i9
  refine g_ld (v := rf _) rfl (is_R _) ?_
  refine g_getF (v := 16183) oC13 (hC13_123) rfl (Nat.le_of_ble_eq_true rfl) (Nat.le_of_ble_eq_true rfl) ?_
  refine g_ld (v := cI _) rfl (is_I _) ?_
  obtain ⟨q10, q11, h⟩ := h
  refine g_aldL aC16183 q10 q11 rfl fun i12 => ?_
  replace h := h i12
  refine g_callV (As := [_, _, _, _]) (ci := 13) oC13 (fun _ => rfl) ?_
  refine g_go1 (Nat.le_of_ble_eq_true rfl) (Tn_w (TX13_nextUse i3 i6 i9 i12 h) fun _ G13 ⟨r14, e, i15, h⟩ => ?_)
  subst e
  refine ⟨n7_I _, ?_⟩
  replace h := h i15
  refine g_st (lv' := [_, _, _, _]) (is_I _) (Nat.le_of_ble_eq_true rfl) (Or.inr (n1_I _)) rfl ?_
  refine g_ld (v := rf _) rfl (is_R _) ?_
  refine g_getF (v := 16186) oC13 (hC13_126) rfl (Nat.le_of_ble_eq_true rfl) (Nat.le_of_ble_eq_true rfl) ?_
  refine g_ld (v := cI _) rfl (is_I _) ?_
  refine g_ld (v := rf _) rfl (is_R _) ?_
  refine g_getF (v := 16186) oC13 (hC13_126) rfl (Nat.le_of_ble_eq_true rfl) (Nat.le_of_ble_eq_true rfl) ?_
  unfold vX13_copyUse_38
  refine g_ld (v := cI _) rfl (is_I _) ?_
  obtain ⟨q16, q17, h⟩ := h
  refine g_aldL aC16186 q16 q17 rfl fun i18 => ?_
  replace h := h i18
  obtain ⟨q19, q20, h⟩ := h
  refine g_astL aC16186 q19 q20 i18 (nfL aC16186) ?_
  replace h := h _ rfl
  refine g_ld (v := rf _) rfl (is_R _) ?_
  refine g_getF (v := 16187) oC13 (hC13_127) rfl (Nat.le_of_ble_eq_true rfl) (Nat.le_of_ble_eq_true rfl) ?_
  refine g_ld (v := cI _) rfl (is_I _) ?_
  refine g_ld (v := rf _) rfl (is_R _) ?_
  refine g_getF (v := 16187) oC13 (hC13_127) rfl (Nat.le_of_ble_eq_true rfl) (Nat.le_of_ble_eq_true rfl) ?_
  refine g_ld (v := cI _) rfl (is_I _) ?_
  obtain ⟨q22, q23, h⟩ := h
  refine g_aldI aC16187 q22 q23 rfl fun i24 => ?_
  replace h := h i24
  obtain ⟨q25, q26, h⟩ := h
  refine g_astI aC16187 q25 q26 i24 (nfI aC16187) ?_
  replace h := h _ rfl
  refine g_ld (v := rf _) rfl (is_R _) ?_
  refine g_getF (v := 16184) oC13 (hC13_124) rfl (Nat.le_of_ble_eq_true rfl) (Nat.le_of_ble_eq_true rfl) ?_
  refine g_ld (v := cI _) rfl (is_I _) ?_
  refine g_ld (v := rf _) rfl (is_R _) ?_
  refine g_getF (v := 16184) oC13 (hC13_124) rfl (Nat.le_of_ble_eq_true rfl) (Nat.le_of_ble_eq_true rfl) ?_
  refine g_ld (v := cI _) rfl (is_I _) ?_
  obtain ⟨q28, q29, h⟩ := h
  refine g_aldI aC16184 q28 q29 rfl fun i30 => ?_
  replace h := h i30
  obtain ⟨q31, q32, h⟩ := h
  refine g_astI aC16184 q31 q32 i30 (nfI aC16184) ?_
  replace h := h _ rfl
  refine g_const (v := cI (0)) rfl ?_
  refine g_st (lv' := [_, _, _, _]) (is_I _) (Nat.le_of_ble_eq_true rfl) (Or.inr (n1_I _)) rfl ?_
  exact TX13_copyUse_67 ha1 i15 ⟨by omega, by omega⟩ hj0 h
def PX13_copyUse_J : Nat → Nat → List Int → gS → (Int → gS → Prop) → Prop
  | 0, _, _, _, _ => False
  | f + 1, h, L, G, Q => match h, L with
    | 0, [l1, l2, l3] => PX13_copyUse_67 (PX13_copyUse_J f) l1 l2 l3 G Q
    | _, _ => False
theorem TX13_copyUse_J {Q : Int → gS → Prop} : ∀ f N : Nat, f ≤ N → (∀ (l1 : Int) (l2 : Int) (l3 : Int) (G : gS), (inI l1) → (inI l2) → (inI l3) → (PX13_copyUse_J f) 0 [l1, l2, l3] G Q → Tg W0 (rx_J vhX13_copyUse N 0) [rf (16081), cI (l1), cI (l2), cI (l3)] [] G (fun r G => ∃ v, r = cI v ∧ inI v ∧ Q v G)) := by
  intro f
  induction f with
  | zero => exact fun N _ => fun _ _ _ _ _ _ _ h => h.elim
  | succ f ih =>
    intro N hN
    obtain ⟨M, rfl⟩ : ∃ M, N = M + 1 := ⟨N - 1, by omega⟩
    have ih := ih M (by omega)
    exact fun _ _ _ _ hl1 hl2 hl3 h => show Tg W0 (vX13_copyUse_67 (rx_J vhX13_copyUse M)) _ _ _ _ from TX13_copyUse_67 hl1 hl2 hl3 ih h
def PX13_copyUse (a1 : Int) (G : gS) (Q : Int → gS → Prop) : Prop := ∃ f : Nat, f ≤ 4000000000 ∧ PX13_copyUse_0 (PX13_copyUse_J f) a1 G Q
theorem TX13_copyUse {a1 : Int} {G : gS} {Q : Int → gS → Prop} (ha1 : inI a1) (h : PX13_copyUse a1 G Q) : Tn W0 FX13_copyUse [rf (16081), cI (a1)] G (fun r G => ∃ v, r = cI v ∧ inI v ∧ Q v G) := by
  obtain ⟨f, hf, h⟩ := h
  have hJ := TX13_copyUse_J (Q := Q) f 4000000000 hf
  unfold FX13_copyUse
  refine g_ent (lv' := [rf (16081), cI (a1), 7, 7]) (flR (flI fl0)) (Nat.le_of_ble_eq_true rfl) rfl ?_
  exact TX13_copyUse_0 ha1 hJ h
def PX13_weaveUses_326 (J : Nat → List Int → gS → (Int → gS → Prop) → Prop) (l1 : Int) (l2 : Int) (l3 : Int) (s0 : Int) (s1 : Int) (s2 : Int) (G : gS) (Q : Int → gS → Prop) : Prop :=
  (∃ n99, isA W0 0 n99 (s0) ∧ ((0 : Int) ≤ s1 ∧ ((s1 : Int) < n99 ∧ (∀ G103 : gS, G103 = uG G s0 s1 (s2) → (inI (l2 + 1) ∧ J 3 [l1, l2 + 1] G103 Q)))))
set_option maxRecDepth 20000 in
theorem TX13_weaveUses_326 {j : Nat → rx_K} {J : Nat → List Int → gS → (Int → gS → Prop) → Prop} {l1 : Int} {l2 : Int} {l3 : Int} {l4 : Nat} {l5 : Nat} {s0 : Int} {s1 : Int} {s2 : Int} {G : gS} {Q : Int → gS → Prop} (hl1 : inI l1) (hl2 : inI l2) (hl3 : inI l3) (hl4 : l4 % 8 ≠ 1) (hl5 : l5 % 8 ≠ 1) (hs1 : inI s1) (hs2 : inI s2) (hj0 : ∀ (l1 : Int) (l2 : Int) (l3 : Nat) (l4 : Nat) (l5 : Nat) (G : gS), (inI l1) → (inI l2) → (l3 % 8 ≠ 1) → (l4 % 8 ≠ 1) → (l5 % 8 ≠ 1) → J 0 [l1, l2] G Q → Tg W0 (j 0) [rf (16081), cI (l1), cI (l2), l3, l4, l5] [] G (fun r G => r = 7 ∧ Q 0 G)) (hj1 : ∀ (l1 : Int) (l2 : Int) (l3 : Int) (l4 : Int) (l5 : Nat) (G : gS), (inI l1) → (inI l2) → (inI l3) → (inI l4) → (l5 % 8 ≠ 1) → J 1 [l1, l2, l3, l4] G Q → Tg W0 (j 1) [rf (16081), cI (l1), cI (l2), cI (l3), cI (l4), l5] [] G (fun r G => r = 7 ∧ Q 0 G)) (hj2 : ∀ (l1 : Int) (l2 : Int) (l3 : Int) (l4 : Int) (l5 : Nat) (G : gS), (inI l1) → (inI l2) → (inI l3) → (inI l4) → (l5 % 8 ≠ 1) → J 2 [l1, l2, l3, l4] G Q → Tg W0 (j 2) [rf (16081), cI (l1), cI (l2), cI (l3), cI (l4), l5] [] G (fun r G => r = 7 ∧ Q 0 G)) (hj3 : ∀ (l1 : Int) (l2 : Int) (l3 : Nat) (l4 : Nat) (l5 : Nat) (G : gS), (inI l1) → (inI l2) → (l3 % 8 ≠ 1) → (l4 % 8 ≠ 1) → (l5 % 8 ≠ 1) → J 3 [l1, l2] G Q → Tg W0 (j 3) [rf (16081), cI (l1), cI (l2), l3, l4, l5] [] G (fun r G => r = 7 ∧ Q 0 G)) (h : PX13_weaveUses_326 J l1 l2 l3 s0 s1 s2 G Q) : Tg W0 (vX13_weaveUses_326 j) [rf (16081), cI (l1), cI (l2), cI (l3), l4, l5] [cI (s2), cI (s1), rf (s0)] G (fun r G => r = 7 ∧ Q 0 G) := by
  unfold PX13_weaveUses_326 at h
  unfold vX13_weaveUses_326
  obtain ⟨n99, q100, h⟩ := h
  obtain ⟨q101, q102, h⟩ := h
  refine g_astI q100 q101 q102 hs2 (nfI q100) ?_
  replace h := h _ rfl
  refine g_inc (lv' := [_, _, _, _, _, _]) rfl (Nat.le_of_ble_eq_true rfl) (Or.inr (n1_I _)) rfl ?_
  obtain ⟨q104, h⟩ := h
  exact hj3 _ _ _ _ _ _ hl1 q104 (n1_I _) hl4 hl5 h
def PX13_weaveUses_287 (J : Nat → List Int → gS → (Int → gS → Prop) → Prop) (l1 : Int) (l2 : Int) (l3 : Int) (s0 : Int) (s1 : Int) (s2 : Int) (G : gS) (Q : Int → gS → Prop) : Prop :=
  (∃ n67, isA W0 0 n67 (s0) ∧ ((0 : Int) ≤ s1 ∧ ((s1 : Int) < n67 ∧ (∀ G71 : gS, G71 = uG G s0 s1 (s2) → ((0 : Int) ≤ l3 ∧ ((l3 : Int) < 30600 ∧ (inI (G71 16162 l3) → ((G71 16162 l3 = -2 → PX13_weaveUses_326 J l1 l2 l3 16162 l3 (-2) G71 Q) ∧ (¬ (G71 16162 l3 = -2) → ((0 : Int) ≤ l3 ∧ ((l3 : Int) < 30600 ∧ (inI (G71 16162 l3) → ((0 : Int) ≤ (G71 16162 l3) - (l1 * 1800) ∧ (((G71 16162 l3) - (l1 * 1800) : Int) < 1800 ∧ (inI (G71 16216 ((G71 16162 l3) - (l1 * 1800))) → PX13_weaveUses_326 J l1 l2 l3 16162 l3 (G71 16216 ((G71 16162 l3) - (l1 * 1800))) G71 Q)))))))))))))))
set_option maxRecDepth 20000 in
theorem TX13_weaveUses_287 {j : Nat → rx_K} {J : Nat → List Int → gS → (Int → gS → Prop) → Prop} {l1 : Int} {l2 : Int} {l3 : Int} {l4 : Nat} {l5 : Nat} {s0 : Int} {s1 : Int} {s2 : Int} {G : gS} {Q : Int → gS → Prop} (hl1 : inI l1) (hl2 : inI l2) (hl3 : inI l3) (hl4 : l4 % 8 ≠ 1) (hl5 : l5 % 8 ≠ 1) (hs1 : inI s1) (hs2 : inI s2) (hj0 : ∀ (l1 : Int) (l2 : Int) (l3 : Nat) (l4 : Nat) (l5 : Nat) (G : gS), (inI l1) → (inI l2) → (l3 % 8 ≠ 1) → (l4 % 8 ≠ 1) → (l5 % 8 ≠ 1) → J 0 [l1, l2] G Q → Tg W0 (j 0) [rf (16081), cI (l1), cI (l2), l3, l4, l5] [] G (fun r G => r = 7 ∧ Q 0 G)) (hj1 : ∀ (l1 : Int) (l2 : Int) (l3 : Int) (l4 : Int) (l5 : Nat) (G : gS), (inI l1) → (inI l2) → (inI l3) → (inI l4) → (l5 % 8 ≠ 1) → J 1 [l1, l2, l3, l4] G Q → Tg W0 (j 1) [rf (16081), cI (l1), cI (l2), cI (l3), cI (l4), l5] [] G (fun r G => r = 7 ∧ Q 0 G)) (hj2 : ∀ (l1 : Int) (l2 : Int) (l3 : Int) (l4 : Int) (l5 : Nat) (G : gS), (inI l1) → (inI l2) → (inI l3) → (inI l4) → (l5 % 8 ≠ 1) → J 2 [l1, l2, l3, l4] G Q → Tg W0 (j 2) [rf (16081), cI (l1), cI (l2), cI (l3), cI (l4), l5] [] G (fun r G => r = 7 ∧ Q 0 G)) (hj3 : ∀ (l1 : Int) (l2 : Int) (l3 : Nat) (l4 : Nat) (l5 : Nat) (G : gS), (inI l1) → (inI l2) → (l3 % 8 ≠ 1) → (l4 % 8 ≠ 1) → (l5 % 8 ≠ 1) → J 3 [l1, l2] G Q → Tg W0 (j 3) [rf (16081), cI (l1), cI (l2), l3, l4, l5] [] G (fun r G => r = 7 ∧ Q 0 G)) (h : PX13_weaveUses_287 J l1 l2 l3 s0 s1 s2 G Q) : Tg W0 (vX13_weaveUses_287 j) [rf (16081), cI (l1), cI (l2), cI (l3), l4, l5] [cI (s2), cI (s1), rf (s0)] G (fun r G => r = 7 ∧ Q 0 G) := by
  unfold PX13_weaveUses_287 at h
  unfold vX13_weaveUses_287
  obtain ⟨n67, q68, h⟩ := h
  obtain ⟨q69, q70, h⟩ := h
  refine g_astI q68 q69 q70 hs2 (nfI q68) ?_
  replace h := h _ rfl
  refine g_ld (v := rf _) rfl (is_R _) ?_
  refine g_getF (v := 16162) oC13 (hC13_88) rfl (Nat.le_of_ble_eq_true rfl) (Nat.le_of_ble_eq_true rfl) ?_
  refine g_ld (v := cI _) rfl (is_I _) ?_
  refine g_ld (v := rf _) rfl (is_R _) ?_
  refine g_getF (v := 16162) oC13 (hC13_88) rfl (Nat.le_of_ble_eq_true rfl) (Nat.le_of_ble_eq_true rfl) ?_
  refine g_ld (v := cI _) rfl (is_I _) ?_
  obtain ⟨q72, q73, h⟩ := h
  refine g_aldI aC16162 q72 q73 rfl fun i74 => ?_
  replace h := h i74
  refine g_const (v := cI (-2)) rfl ?_
  refine g_eq2 i74 ⟨by omega, by omega⟩ (fun b75 => ?_) (fun b75 => ?_)
  · replace h := h.1 b75
    unfold vX13_weaveUses_304
    refine g_const (v := cI (-2)) rfl ?_
    exact TX13_weaveUses_326 hl1 hl2 hl3 hl4 hl5 hl3 ⟨by omega, by omega⟩ hj0 hj1 hj2 hj3 h
  · replace h := h.2 b75
    unfold vX13_weaveUses_309
    refine g_ld (v := rf _) rfl (is_R _) ?_
    refine g_getF (v := 16216) oC13 (hC13_179) rfl (Nat.le_of_ble_eq_true rfl) (Nat.le_of_ble_eq_true rfl) ?_
    refine g_ld (v := rf _) rfl (is_R _) ?_
    refine g_getF (v := 16162) oC13 (hC13_88) rfl (Nat.le_of_ble_eq_true rfl) (Nat.le_of_ble_eq_true rfl) ?_
    refine g_ld (v := cI _) rfl (is_I _) ?_
    obtain ⟨q76, q77, h⟩ := h
    refine g_aldI aC16162 q76 q77 rfl fun i78 => ?_
    replace h := h i78
    refine g_ld (v := cI _) rfl (is_I _) ?_
    refine g_const (v := cI (1800)) rfl ?_
    refine g_mul ?_
    refine g_sub ?_
    obtain ⟨q79, q80, h⟩ := h
    refine g_aldI aC16216 q79 q80 rfl fun i81 => ?_
    replace h := h i81
    exact TX13_weaveUses_326 hl1 hl2 hl3 hl4 hl5 hl3 i81 hj0 hj1 hj2 hj3 h
def PX13_weaveUses_225 (J : Nat → List Int → gS → (Int → gS → Prop) → Prop) (l1 : Int) (l2 : Int) (G : gS) (Q : Int → gS → Prop) : Prop :=
  (inI (G 16081 19) → ((0 : Int) ≤ G 16081 19 ∧ ((G 16081 19 : Int) < 18 ∧ (inI (G 16143 (G 16081 19)) → ((l2 < G 16143 (G 16081 19) → (inI (G 16081 19) → (inI (((G 16081 19) * 1700) + l2) ∧ ((0 : Int) ≤ ((G 16081 19) * 1700) + l2 ∧ ((((G 16081 19) * 1700) + l2 : Int) < 30600 ∧ (inI (G 16161 (((G 16081 19) * 1700) + l2)) → ((G 16161 (((G 16081 19) * 1700) + l2) = -2 → PX13_weaveUses_287 J l1 l2 (((G 16081 19) * 1700) + l2) 16161 (((G 16081 19) * 1700) + l2) (-2) G Q) ∧ (¬ (G 16161 (((G 16081 19) * 1700) + l2) = -2) → ((0 : Int) ≤ ((G 16081 19) * 1700) + l2 ∧ ((((G 16081 19) * 1700) + l2 : Int) < 30600 ∧ (inI (G 16161 (((G 16081 19) * 1700) + l2)) → ((0 : Int) ≤ (G 16161 (((G 16081 19) * 1700) + l2)) - (l1 * 1800) ∧ (((G 16161 (((G 16081 19) * 1700) + l2)) - (l1 * 1800) : Int) < 1800 ∧ (inI (G 16216 ((G 16161 (((G 16081 19) * 1700) + l2)) - (l1 * 1800))) → PX13_weaveUses_287 J l1 l2 (((G 16081 19) * 1700) + l2) 16161 (((G 16081 19) * 1700) + l2) (G 16216 ((G 16161 (((G 16081 19) * 1700) + l2)) - (l1 * 1800))) G Q)))))))))))))) ∧ (¬ (l2 < G 16143 (G 16081 19)) → Q 0 G))))))
set_option maxRecDepth 20000 in
theorem TX13_weaveUses_225 {j : Nat → rx_K} {J : Nat → List Int → gS → (Int → gS → Prop) → Prop} {l1 : Int} {l2 : Int} {l3 : Nat} {l4 : Nat} {l5 : Nat} {G : gS} {Q : Int → gS → Prop} (hl1 : inI l1) (hl2 : inI l2) (hl3 : l3 % 8 ≠ 1) (hl4 : l4 % 8 ≠ 1) (hl5 : l5 % 8 ≠ 1) (hj0 : ∀ (l1 : Int) (l2 : Int) (l3 : Nat) (l4 : Nat) (l5 : Nat) (G : gS), (inI l1) → (inI l2) → (l3 % 8 ≠ 1) → (l4 % 8 ≠ 1) → (l5 % 8 ≠ 1) → J 0 [l1, l2] G Q → Tg W0 (j 0) [rf (16081), cI (l1), cI (l2), l3, l4, l5] [] G (fun r G => r = 7 ∧ Q 0 G)) (hj1 : ∀ (l1 : Int) (l2 : Int) (l3 : Int) (l4 : Int) (l5 : Nat) (G : gS), (inI l1) → (inI l2) → (inI l3) → (inI l4) → (l5 % 8 ≠ 1) → J 1 [l1, l2, l3, l4] G Q → Tg W0 (j 1) [rf (16081), cI (l1), cI (l2), cI (l3), cI (l4), l5] [] G (fun r G => r = 7 ∧ Q 0 G)) (hj2 : ∀ (l1 : Int) (l2 : Int) (l3 : Int) (l4 : Int) (l5 : Nat) (G : gS), (inI l1) → (inI l2) → (inI l3) → (inI l4) → (l5 % 8 ≠ 1) → J 2 [l1, l2, l3, l4] G Q → Tg W0 (j 2) [rf (16081), cI (l1), cI (l2), cI (l3), cI (l4), l5] [] G (fun r G => r = 7 ∧ Q 0 G)) (hj3 : ∀ (l1 : Int) (l2 : Int) (l3 : Nat) (l4 : Nat) (l5 : Nat) (G : gS), (inI l1) → (inI l2) → (l3 % 8 ≠ 1) → (l4 % 8 ≠ 1) → (l5 % 8 ≠ 1) → J 3 [l1, l2] G Q → Tg W0 (j 3) [rf (16081), cI (l1), cI (l2), l3, l4, l5] [] G (fun r G => r = 7 ∧ Q 0 G)) (h : PX13_weaveUses_225 J l1 l2 G Q) : Tg W0 (vX13_weaveUses_225 j) [rf (16081), cI (l1), cI (l2), l3, l4, l5] [] G (fun r G => r = 7 ∧ Q 0 G) := by
  unfold PX13_weaveUses_225 at h
  unfold vX13_weaveUses_225
  refine g_ld (v := cI _) rfl (is_I _) ?_
  refine g_ld (v := rf _) rfl (is_R _) ?_
  refine g_getF (v := 16143) oC13 (hC13_69) rfl (Nat.le_of_ble_eq_true rfl) (Nat.le_of_ble_eq_true rfl) ?_
  refine g_ld (v := rf _) rfl (is_R _) ?_
  refine g_getI (kz := 19) oC13 rfl (Nat.le_of_ble_eq_true rfl) rfl fun i29 => ?_
  replace h := h i29
  obtain ⟨q30, q31, h⟩ := h
  refine g_aldI aC16143 q30 q31 rfl fun i32 => ?_
  replace h := h i32
  refine g_lt2 hl2 i32 (fun b33 => ?_) (fun b33 => ?_)
  · replace h := h.1 b33
    unfold vX13_weaveUses_238
    refine g_ld (v := rf _) rfl (is_R _) ?_
    refine g_getI (kz := 19) oC13 rfl (Nat.le_of_ble_eq_true rfl) rfl fun i34 => ?_
    replace h := h i34
    refine g_const (v := cI (1700)) rfl ?_
    refine g_mul ?_
    refine g_ld (v := cI _) rfl (is_I _) ?_
    refine g_add ?_
    refine g_st (lv' := [_, _, _, _, _, _]) (is_I _) (Nat.le_of_ble_eq_true rfl) (Or.inr (n1_I _)) rfl ?_
    obtain ⟨q35, h⟩ := h
    refine g_ld (v := rf _) rfl (is_R _) ?_
    refine g_getF (v := 16161) oC13 (hC13_87) rfl (Nat.le_of_ble_eq_true rfl) (Nat.le_of_ble_eq_true rfl) ?_
    refine g_ld (v := cI _) rfl (is_I _) ?_
    refine g_ld (v := rf _) rfl (is_R _) ?_
    refine g_getF (v := 16161) oC13 (hC13_87) rfl (Nat.le_of_ble_eq_true rfl) (Nat.le_of_ble_eq_true rfl) ?_
    refine g_ld (v := cI _) rfl (is_I _) ?_
    obtain ⟨q36, q37, h⟩ := h
    refine g_aldI aC16161 q36 q37 rfl fun i38 => ?_
    replace h := h i38
    refine g_const (v := cI (-2)) rfl ?_
    refine g_eq2 i38 ⟨by omega, by omega⟩ (fun b39 => ?_) (fun b39 => ?_)
    · replace h := h.1 b39
      unfold vX13_weaveUses_265
      refine g_const (v := cI (-2)) rfl ?_
      exact TX13_weaveUses_287 hl1 hl2 q35 hl4 hl5 q35 ⟨by omega, by omega⟩ hj0 hj1 hj2 hj3 h
    · replace h := h.2 b39
      unfold vX13_weaveUses_270
      refine g_ld (v := rf _) rfl (is_R _) ?_
      refine g_getF (v := 16216) oC13 (hC13_179) rfl (Nat.le_of_ble_eq_true rfl) (Nat.le_of_ble_eq_true rfl) ?_
      refine g_ld (v := rf _) rfl (is_R _) ?_
      refine g_getF (v := 16161) oC13 (hC13_87) rfl (Nat.le_of_ble_eq_true rfl) (Nat.le_of_ble_eq_true rfl) ?_
      refine g_ld (v := cI _) rfl (is_I _) ?_
      obtain ⟨q40, q41, h⟩ := h
      refine g_aldI aC16161 q40 q41 rfl fun i42 => ?_
      replace h := h i42
      refine g_ld (v := cI _) rfl (is_I _) ?_
      refine g_const (v := cI (1800)) rfl ?_
      refine g_mul ?_
      refine g_sub ?_
      obtain ⟨q43, q44, h⟩ := h
      refine g_aldI aC16216 q43 q44 rfl fun i45 => ?_
      replace h := h i45
      exact TX13_weaveUses_287 hl1 hl2 q35 hl4 hl5 q35 i45 hj0 hj1 hj2 hj3 h
  · replace h := h.2 b33
    unfold vX13_weaveUses_333
    exact g_ret0 ⟨rfl, h⟩
def PX13_weaveUses_211 (J : Nat → List Int → gS → (Int → gS → Prop) → Prop) (l1 : Int) (l2 : Int) (l3 : Int) (l4 : Int) (l5 : Int) (G : gS) (Q : Int → gS → Prop) : Prop :=
  (inI (l4 + 1) ∧ J 2 [l1, l2, l3, l4 + 1] G Q)
set_option maxRecDepth 20000 in
theorem TX13_weaveUses_211 {j : Nat → rx_K} {J : Nat → List Int → gS → (Int → gS → Prop) → Prop} {l1 : Int} {l2 : Int} {l3 : Int} {l4 : Int} {l5 : Int} {G : gS} {Q : Int → gS → Prop} (hl1 : inI l1) (hl2 : inI l2) (hl3 : inI l3) (hl4 : inI l4) (hl5 : inI l5) (hj0 : ∀ (l1 : Int) (l2 : Int) (l3 : Nat) (l4 : Nat) (l5 : Nat) (G : gS), (inI l1) → (inI l2) → (l3 % 8 ≠ 1) → (l4 % 8 ≠ 1) → (l5 % 8 ≠ 1) → J 0 [l1, l2] G Q → Tg W0 (j 0) [rf (16081), cI (l1), cI (l2), l3, l4, l5] [] G (fun r G => r = 7 ∧ Q 0 G)) (hj1 : ∀ (l1 : Int) (l2 : Int) (l3 : Int) (l4 : Int) (l5 : Nat) (G : gS), (inI l1) → (inI l2) → (inI l3) → (inI l4) → (l5 % 8 ≠ 1) → J 1 [l1, l2, l3, l4] G Q → Tg W0 (j 1) [rf (16081), cI (l1), cI (l2), cI (l3), cI (l4), l5] [] G (fun r G => r = 7 ∧ Q 0 G)) (hj2 : ∀ (l1 : Int) (l2 : Int) (l3 : Int) (l4 : Int) (l5 : Nat) (G : gS), (inI l1) → (inI l2) → (inI l3) → (inI l4) → (l5 % 8 ≠ 1) → J 2 [l1, l2, l3, l4] G Q → Tg W0 (j 2) [rf (16081), cI (l1), cI (l2), cI (l3), cI (l4), l5] [] G (fun r G => r = 7 ∧ Q 0 G)) (hj3 : ∀ (l1 : Int) (l2 : Int) (l3 : Nat) (l4 : Nat) (l5 : Nat) (G : gS), (inI l1) → (inI l2) → (l3 % 8 ≠ 1) → (l4 % 8 ≠ 1) → (l5 % 8 ≠ 1) → J 3 [l1, l2] G Q → Tg W0 (j 3) [rf (16081), cI (l1), cI (l2), l3, l4, l5] [] G (fun r G => r = 7 ∧ Q 0 G)) (h : PX13_weaveUses_211 J l1 l2 l3 l4 l5 G Q) : Tg W0 (vX13_weaveUses_211 j) [rf (16081), cI (l1), cI (l2), cI (l3), cI (l4), cI (l5)] [] G (fun r G => r = 7 ∧ Q 0 G) := by
  unfold PX13_weaveUses_211 at h
  unfold vX13_weaveUses_211
  refine g_inc (lv' := [_, _, _, _, _, _]) rfl (Nat.le_of_ble_eq_true rfl) (Or.inr (n1_I _)) rfl ?_
  obtain ⟨q98, h⟩ := h
  exact hj2 _ _ _ _ _ _ hl1 hl2 hl3 q98 (n1_I _) h
def PX13_weaveUses_161 (J : Nat → List Int → gS → (Int → gS → Prop) → Prop) (l1 : Int) (l2 : Int) (l3 : Int) (l4 : Int) (l5 : Int) (G : gS) (Q : Int → gS → Prop) : Prop :=
  ((0 : Int) ≤ l5 ∧ ((l5 : Int) < 7344 ∧ (inI (G 16141 l5) → ((G 16141 l5 = -2 → PX13_weaveUses_211 J l1 l2 l3 l4 l5 G Q) ∧ (¬ (G 16141 l5 = -2) → (inI (G 16081 19) → ((0 : Int) ≤ l5 ∧ ((l5 : Int) < 7344 ∧ (inI (G 16141 l5) → ((0 : Int) ≤ (G 16141 l5) - (l1 * 1800) ∧ (((G 16141 l5) - (l1 * 1800) : Int) < 1800 ∧ (inI (G 16216 ((G 16141 l5) - (l1 * 1800))) → (inI (irem (G 16216 ((G 16141 l5) - (l1 * 1800))) 1800) → ((0 : Int) ≤ l5 ∧ ((l5 : Int) < 7344 ∧ (inI (((G 16081 19) * 1800) + (irem (G 16216 ((G 16141 l5) - (l1 * 1800))) 1800)) ∧ (∀ G97 : gS, G97 = uG G 16141 l5 (((G 16081 19) * 1800) + (irem (G 16216 ((G 16141 l5) - (l1 * 1800))) 1800)) → PX13_weaveUses_211 J l1 l2 l3 l4 l5 G97 Q)))))))))))))))))
set_option maxRecDepth 20000 in
theorem TX13_weaveUses_161 {j : Nat → rx_K} {J : Nat → List Int → gS → (Int → gS → Prop) → Prop} {l1 : Int} {l2 : Int} {l3 : Int} {l4 : Int} {l5 : Int} {G : gS} {Q : Int → gS → Prop} (hl1 : inI l1) (hl2 : inI l2) (hl3 : inI l3) (hl4 : inI l4) (hl5 : inI l5) (hj0 : ∀ (l1 : Int) (l2 : Int) (l3 : Nat) (l4 : Nat) (l5 : Nat) (G : gS), (inI l1) → (inI l2) → (l3 % 8 ≠ 1) → (l4 % 8 ≠ 1) → (l5 % 8 ≠ 1) → J 0 [l1, l2] G Q → Tg W0 (j 0) [rf (16081), cI (l1), cI (l2), l3, l4, l5] [] G (fun r G => r = 7 ∧ Q 0 G)) (hj1 : ∀ (l1 : Int) (l2 : Int) (l3 : Int) (l4 : Int) (l5 : Nat) (G : gS), (inI l1) → (inI l2) → (inI l3) → (inI l4) → (l5 % 8 ≠ 1) → J 1 [l1, l2, l3, l4] G Q → Tg W0 (j 1) [rf (16081), cI (l1), cI (l2), cI (l3), cI (l4), l5] [] G (fun r G => r = 7 ∧ Q 0 G)) (hj2 : ∀ (l1 : Int) (l2 : Int) (l3 : Int) (l4 : Int) (l5 : Nat) (G : gS), (inI l1) → (inI l2) → (inI l3) → (inI l4) → (l5 % 8 ≠ 1) → J 2 [l1, l2, l3, l4] G Q → Tg W0 (j 2) [rf (16081), cI (l1), cI (l2), cI (l3), cI (l4), l5] [] G (fun r G => r = 7 ∧ Q 0 G)) (hj3 : ∀ (l1 : Int) (l2 : Int) (l3 : Nat) (l4 : Nat) (l5 : Nat) (G : gS), (inI l1) → (inI l2) → (l3 % 8 ≠ 1) → (l4 % 8 ≠ 1) → (l5 % 8 ≠ 1) → J 3 [l1, l2] G Q → Tg W0 (j 3) [rf (16081), cI (l1), cI (l2), l3, l4, l5] [] G (fun r G => r = 7 ∧ Q 0 G)) (h : PX13_weaveUses_161 J l1 l2 l3 l4 l5 G Q) : Tg W0 (vX13_weaveUses_161 j) [rf (16081), cI (l1), cI (l2), cI (l3), cI (l4), cI (l5)] [] G (fun r G => r = 7 ∧ Q 0 G) := by
  unfold PX13_weaveUses_161 at h
  unfold vX13_weaveUses_161
  refine g_ld (v := rf _) rfl (is_R _) ?_
  refine g_getF (v := 16141) oC13 (hC13_67) rfl (Nat.le_of_ble_eq_true rfl) (Nat.le_of_ble_eq_true rfl) ?_
  refine g_ld (v := cI _) rfl (is_I _) ?_
  obtain ⟨q82, q83, h⟩ := h
  refine g_aldI aC16141 q82 q83 rfl fun i84 => ?_
  replace h := h i84
  refine g_const (v := cI (-2)) rfl ?_
  refine g_eq2 i84 ⟨by omega, by omega⟩ (fun b85 => ?_) (fun b85 => ?_)
  · replace h := h.1 b85
    exact TX13_weaveUses_211 hl1 hl2 hl3 hl4 hl5 hj0 hj1 hj2 hj3 h
  · replace h := h.2 b85
    unfold vX13_weaveUses_173
    refine g_ld (v := rf _) rfl (is_R _) ?_
    refine g_getF (v := 16141) oC13 (hC13_67) rfl (Nat.le_of_ble_eq_true rfl) (Nat.le_of_ble_eq_true rfl) ?_
    refine g_ld (v := cI _) rfl (is_I _) ?_
    refine g_ld (v := rf _) rfl (is_R _) ?_
    refine g_getI (kz := 19) oC13 rfl (Nat.le_of_ble_eq_true rfl) rfl fun i86 => ?_
    replace h := h i86
    refine g_const (v := cI (1800)) rfl ?_
    refine g_mul ?_
    refine g_ld (v := rf _) rfl (is_R _) ?_
    refine g_getF (v := 16216) oC13 (hC13_179) rfl (Nat.le_of_ble_eq_true rfl) (Nat.le_of_ble_eq_true rfl) ?_
    refine g_ld (v := rf _) rfl (is_R _) ?_
    refine g_getF (v := 16141) oC13 (hC13_67) rfl (Nat.le_of_ble_eq_true rfl) (Nat.le_of_ble_eq_true rfl) ?_
    refine g_ld (v := cI _) rfl (is_I _) ?_
    obtain ⟨q87, q88, h⟩ := h
    refine g_aldI aC16141 q87 q88 rfl fun i89 => ?_
    replace h := h i89
    refine g_ld (v := cI _) rfl (is_I _) ?_
    refine g_const (v := cI (1800)) rfl ?_
    refine g_mul ?_
    refine g_sub ?_
    obtain ⟨q90, q91, h⟩ := h
    refine g_aldI aC16216 q90 q91 rfl fun i92 => ?_
    replace h := h i92
    refine g_const (v := cI (1800)) rfl ?_
    refine g_irem ⟨by omega, by omega⟩ (by omega) fun i93 => ?_
    replace h := h i93
    refine g_add ?_
    obtain ⟨q94, q95, h⟩ := h
    obtain ⟨q96, h⟩ := h
    refine g_astI aC16141 q94 q95 q96 (nfI aC16141) ?_
    replace h := h _ rfl
    exact TX13_weaveUses_211 hl1 hl2 hl3 hl4 hl5 hj0 hj1 hj2 hj3 h
def PX13_weaveUses_102 (J : Nat → List Int → gS → (Int → gS → Prop) → Prop) (l1 : Int) (l2 : Int) (l3 : Int) (l4 : Int) (G : gS) (Q : Int → gS → Prop) : Prop :=
  ((0 : Int) ≤ l3 ∧ ((l3 : Int) < 216 ∧ (inI (G 16115 l3) → ((l4 < G 16115 l3 → (inI ((l3 * 34) + l4) ∧ ((0 : Int) ≤ (l3 * 34) + l4 ∧ (((l3 * 34) + l4 : Int) < 7344 ∧ (inI (G 16141 ((l3 * 34) + l4)) → ((G 16141 ((l3 * 34) + l4) = -2 → ((0 : Int) ≤ (l3 * 34) + l4 ∧ (((l3 * 34) + l4 : Int) < 7344 ∧ ((0 ≤ G 16123 ((l3 * 34) + l4) ∧ G 16123 ((l3 * 34) + l4) ≤ 1) → ((G 16123 ((l3 * 34) + l4) = 0 → PX13_weaveUses_161 J l1 l2 l3 l4 ((l3 * 34) + l4) G Q) ∧ (¬ (G 16123 ((l3 * 34) + l4) = 0) → PX13_bridgeUse l3 ((l3 * 34) + l4) G (fun r61 G60 => inI r61 → ((0 : Int) ≤ (l3 * 34) + l4 ∧ (((l3 * 34) + l4 : Int) < 7344 ∧ (∀ G65 : gS, G65 = uG G60 16141 ((l3 * 34) + l4) (r61) → PX13_weaveUses_211 J l1 l2 l3 l4 ((l3 * 34) + l4) G65 Q)))))))))) ∧ (¬ (G 16141 ((l3 * 34) + l4) = -2) → PX13_weaveUses_161 J l1 l2 l3 l4 ((l3 * 34) + l4) G Q))))))) ∧ (¬ (l4 < G 16115 l3) → (inI (l2 + 1) ∧ J 0 [l1, l2 + 1] G Q))))))
set_option maxRecDepth 20000 in
theorem TX13_weaveUses_102 {j : Nat → rx_K} {J : Nat → List Int → gS → (Int → gS → Prop) → Prop} {l1 : Int} {l2 : Int} {l3 : Int} {l4 : Int} {l5 : Nat} {G : gS} {Q : Int → gS → Prop} (hl1 : inI l1) (hl2 : inI l2) (hl3 : inI l3) (hl4 : inI l4) (hl5 : l5 % 8 ≠ 1) (hj0 : ∀ (l1 : Int) (l2 : Int) (l3 : Nat) (l4 : Nat) (l5 : Nat) (G : gS), (inI l1) → (inI l2) → (l3 % 8 ≠ 1) → (l4 % 8 ≠ 1) → (l5 % 8 ≠ 1) → J 0 [l1, l2] G Q → Tg W0 (j 0) [rf (16081), cI (l1), cI (l2), l3, l4, l5] [] G (fun r G => r = 7 ∧ Q 0 G)) (hj1 : ∀ (l1 : Int) (l2 : Int) (l3 : Int) (l4 : Int) (l5 : Nat) (G : gS), (inI l1) → (inI l2) → (inI l3) → (inI l4) → (l5 % 8 ≠ 1) → J 1 [l1, l2, l3, l4] G Q → Tg W0 (j 1) [rf (16081), cI (l1), cI (l2), cI (l3), cI (l4), l5] [] G (fun r G => r = 7 ∧ Q 0 G)) (hj2 : ∀ (l1 : Int) (l2 : Int) (l3 : Int) (l4 : Int) (l5 : Nat) (G : gS), (inI l1) → (inI l2) → (inI l3) → (inI l4) → (l5 % 8 ≠ 1) → J 2 [l1, l2, l3, l4] G Q → Tg W0 (j 2) [rf (16081), cI (l1), cI (l2), cI (l3), cI (l4), l5] [] G (fun r G => r = 7 ∧ Q 0 G)) (hj3 : ∀ (l1 : Int) (l2 : Int) (l3 : Nat) (l4 : Nat) (l5 : Nat) (G : gS), (inI l1) → (inI l2) → (l3 % 8 ≠ 1) → (l4 % 8 ≠ 1) → (l5 % 8 ≠ 1) → J 3 [l1, l2] G Q → Tg W0 (j 3) [rf (16081), cI (l1), cI (l2), l3, l4, l5] [] G (fun r G => r = 7 ∧ Q 0 G)) (h : PX13_weaveUses_102 J l1 l2 l3 l4 G Q) : Tg W0 (vX13_weaveUses_102 j) [rf (16081), cI (l1), cI (l2), cI (l3), cI (l4), l5] [] G (fun r G => r = 7 ∧ Q 0 G) := by
  unfold PX13_weaveUses_102 at h
  unfold vX13_weaveUses_102
  refine g_ld (v := cI _) rfl (is_I _) ?_
  refine g_ld (v := rf _) rfl (is_R _) ?_
  refine g_getF (v := 16115) oC13 (hC13_41) rfl (Nat.le_of_ble_eq_true rfl) (Nat.le_of_ble_eq_true rfl) ?_
  refine g_ld (v := cI _) rfl (is_I _) ?_
  obtain ⟨q47, q48, h⟩ := h
  refine g_aldI aC16115 q47 q48 rfl fun i49 => ?_
  replace h := h i49
  refine g_lt2 hl4 i49 (fun b50 => ?_) (fun b50 => ?_)
  · replace h := h.1 b50
    unfold vX13_weaveUses_113
    refine g_ld (v := cI _) rfl (is_I _) ?_
    refine g_const (v := cI (34)) rfl ?_
    refine g_mul ?_
    refine g_ld (v := cI _) rfl (is_I _) ?_
    refine g_add ?_
    refine g_st (lv' := [_, _, _, _, _, _]) (is_I _) (Nat.le_of_ble_eq_true rfl) (Or.inr (n1_I _)) rfl ?_
    obtain ⟨q51, h⟩ := h
    refine g_ld (v := rf _) rfl (is_R _) ?_
    refine g_getF (v := 16141) oC13 (hC13_67) rfl (Nat.le_of_ble_eq_true rfl) (Nat.le_of_ble_eq_true rfl) ?_
    refine g_ld (v := cI _) rfl (is_I _) ?_
    obtain ⟨q52, q53, h⟩ := h
    refine g_aldI aC16141 q52 q53 rfl fun i54 => ?_
    replace h := h i54
    refine g_const (v := cI (-2)) rfl ?_
    refine g_eq2 i54 ⟨by omega, by omega⟩ (fun b55 => ?_) (fun b55 => ?_)
    · replace h := h.1 b55
      unfold vX13_weaveUses_134
      refine g_ld (v := rf _) rfl (is_R _) ?_
      refine g_getF (v := 16123) oC13 (hC13_49) rfl (Nat.le_of_ble_eq_true rfl) (Nat.le_of_ble_eq_true rfl) ?_
      refine g_ld (v := cI _) rfl (is_I _) ?_
      obtain ⟨q56, q57, h⟩ := h
      refine g_aldZ aC16123 q56 q57 rfl fun i58 => ?_
      replace h := h i58
      refine g_eq1 ⟨by omega, by omega⟩ (fun b59 => ?_) (fun b59 => ?_)
      · replace h := h.1 b59
        exact TX13_weaveUses_161 hl1 hl2 hl3 hl4 q51 hj0 hj1 hj2 hj3 h
      · replace h := h.2 b59
        unfold vX13_weaveUses_144
        refine g_ld (v := rf _) rfl (is_R _) ?_
        refine g_getF (v := 16141) oC13 (hC13_67) rfl (Nat.le_of_ble_eq_true rfl) (Nat.le_of_ble_eq_true rfl) ?_
        refine g_ld (v := cI _) rfl (is_I _) ?_
        refine g_ld (v := rf _) rfl (is_R _) ?_
        refine g_ld (v := cI _) rfl (is_I _) ?_
        refine g_ld (v := cI _) rfl (is_I _) ?_
        refine g_callV (As := [_, _]) (ci := 13) oC13 (fun _ => rfl) ?_
        refine g_go1 (by simp only [cs_c, cs_0, ct_I, ct_L, ct_R]; exact Nat.le_of_ble_eq_true rfl) (Tn_w (TX13_bridgeUse hl3 q51 h) fun _ G60 ⟨r61, e, i62, h⟩ => ?_)
        subst e
        refine ⟨n7_I _, ?_⟩
        replace h := h i62
        obtain ⟨q63, q64, h⟩ := h
        refine g_astI aC16141 q63 q64 i62 (nfI aC16141) ?_
        replace h := h _ rfl
        exact TX13_weaveUses_211 hl1 hl2 hl3 hl4 q51 hj0 hj1 hj2 hj3 h
    · replace h := h.2 b55
      exact TX13_weaveUses_161 hl1 hl2 hl3 hl4 q51 hj0 hj1 hj2 hj3 h
  · replace h := h.2 b50
    unfold vX13_weaveUses_217
    refine g_inc (lv' := [_, _, _, _, _, _]) rfl (Nat.le_of_ble_eq_true rfl) (Or.inr (n1_I _)) rfl ?_
    obtain ⟨q66, h⟩ := h
    exact hj0 _ _ _ _ _ _ hl1 q66 (n1_I _) (n1_I _) hl5 h
def PX13_weaveUses_93 (J : Nat → List Int → gS → (Int → gS → Prop) → Prop) (l1 : Int) (l2 : Int) (l3 : Int) (l4 : Int) (l5 : Int) (G : gS) (Q : Int → gS → Prop) : Prop :=
  (inI (l4 + 1) ∧ J 1 [l1, l2, l3, l4 + 1] G Q)
set_option maxRecDepth 20000 in
theorem TX13_weaveUses_93 {j : Nat → rx_K} {J : Nat → List Int → gS → (Int → gS → Prop) → Prop} {l1 : Int} {l2 : Int} {l3 : Int} {l4 : Int} {l5 : Int} {G : gS} {Q : Int → gS → Prop} (hl1 : inI l1) (hl2 : inI l2) (hl3 : inI l3) (hl4 : inI l4) (hl5 : inI l5) (hj0 : ∀ (l1 : Int) (l2 : Int) (l3 : Nat) (l4 : Nat) (l5 : Nat) (G : gS), (inI l1) → (inI l2) → (l3 % 8 ≠ 1) → (l4 % 8 ≠ 1) → (l5 % 8 ≠ 1) → J 0 [l1, l2] G Q → Tg W0 (j 0) [rf (16081), cI (l1), cI (l2), l3, l4, l5] [] G (fun r G => r = 7 ∧ Q 0 G)) (hj1 : ∀ (l1 : Int) (l2 : Int) (l3 : Int) (l4 : Int) (l5 : Nat) (G : gS), (inI l1) → (inI l2) → (inI l3) → (inI l4) → (l5 % 8 ≠ 1) → J 1 [l1, l2, l3, l4] G Q → Tg W0 (j 1) [rf (16081), cI (l1), cI (l2), cI (l3), cI (l4), l5] [] G (fun r G => r = 7 ∧ Q 0 G)) (hj2 : ∀ (l1 : Int) (l2 : Int) (l3 : Int) (l4 : Int) (l5 : Nat) (G : gS), (inI l1) → (inI l2) → (inI l3) → (inI l4) → (l5 % 8 ≠ 1) → J 2 [l1, l2, l3, l4] G Q → Tg W0 (j 2) [rf (16081), cI (l1), cI (l2), cI (l3), cI (l4), l5] [] G (fun r G => r = 7 ∧ Q 0 G)) (hj3 : ∀ (l1 : Int) (l2 : Int) (l3 : Nat) (l4 : Nat) (l5 : Nat) (G : gS), (inI l1) → (inI l2) → (l3 % 8 ≠ 1) → (l4 % 8 ≠ 1) → (l5 % 8 ≠ 1) → J 3 [l1, l2] G Q → Tg W0 (j 3) [rf (16081), cI (l1), cI (l2), l3, l4, l5] [] G (fun r G => r = 7 ∧ Q 0 G)) (h : PX13_weaveUses_93 J l1 l2 l3 l4 l5 G Q) : Tg W0 (vX13_weaveUses_93 j) [rf (16081), cI (l1), cI (l2), cI (l3), cI (l4), cI (l5)] [] G (fun r G => r = 7 ∧ Q 0 G) := by
  unfold PX13_weaveUses_93 at h
  unfold vX13_weaveUses_93
  refine g_inc (lv' := [_, _, _, _, _, _]) rfl (Nat.le_of_ble_eq_true rfl) (Or.inr (n1_I _)) rfl ?_
  obtain ⟨q46, h⟩ := h
  exact hj1 _ _ _ _ _ _ hl1 hl2 hl3 q46 (n1_I _) h
def PX13_weaveUses_43 (J : Nat → List Int → gS → (Int → gS → Prop) → Prop) (l1 : Int) (l2 : Int) (l3 : Int) (l4 : Int) (G : gS) (Q : Int → gS → Prop) : Prop :=
  ((0 : Int) ≤ l1 ∧ ((l1 : Int) < 17 ∧ (inI (G 16178 l1) → ((l4 < G 16178 l1 → (inI ((l1 * 1800) + l4) ∧ ((0 : Int) ≤ (l1 * 1800) + l4 ∧ (((l1 * 1800) + l4 : Int) < 30600 ∧ (inI (G 16180 ((l1 * 1800) + l4)) → (inI ((l1 * 12) + l2) ∧ ((G 16180 ((l1 * 1800) + l4) = (l1 * 12) + l2 → PX13_copyUse ((l1 * 1800) + l4) G (fun r24 G23 => inI r24 → ((0 : Int) ≤ l4 ∧ ((l4 : Int) < 1800 ∧ (∀ G28 : gS, G28 = uG G23 16216 l4 (r24) → PX13_weaveUses_93 J l1 l2 l3 l4 ((l1 * 1800) + l4) G28 Q))))) ∧ (¬ (G 16180 ((l1 * 1800) + l4) = (l1 * 12) + l2) → PX13_weaveUses_93 J l1 l2 l3 l4 ((l1 * 1800) + l4) G Q)))))))) ∧ (¬ (l4 < G 16178 l1) → PX13_weaveUses_102 J l1 l2 l3 0 G Q)))))
set_option maxRecDepth 20000 in
theorem TX13_weaveUses_43 {j : Nat → rx_K} {J : Nat → List Int → gS → (Int → gS → Prop) → Prop} {l1 : Int} {l2 : Int} {l3 : Int} {l4 : Int} {l5 : Nat} {G : gS} {Q : Int → gS → Prop} (hl1 : inI l1) (hl2 : inI l2) (hl3 : inI l3) (hl4 : inI l4) (hl5 : l5 % 8 ≠ 1) (hj0 : ∀ (l1 : Int) (l2 : Int) (l3 : Nat) (l4 : Nat) (l5 : Nat) (G : gS), (inI l1) → (inI l2) → (l3 % 8 ≠ 1) → (l4 % 8 ≠ 1) → (l5 % 8 ≠ 1) → J 0 [l1, l2] G Q → Tg W0 (j 0) [rf (16081), cI (l1), cI (l2), l3, l4, l5] [] G (fun r G => r = 7 ∧ Q 0 G)) (hj1 : ∀ (l1 : Int) (l2 : Int) (l3 : Int) (l4 : Int) (l5 : Nat) (G : gS), (inI l1) → (inI l2) → (inI l3) → (inI l4) → (l5 % 8 ≠ 1) → J 1 [l1, l2, l3, l4] G Q → Tg W0 (j 1) [rf (16081), cI (l1), cI (l2), cI (l3), cI (l4), l5] [] G (fun r G => r = 7 ∧ Q 0 G)) (hj2 : ∀ (l1 : Int) (l2 : Int) (l3 : Int) (l4 : Int) (l5 : Nat) (G : gS), (inI l1) → (inI l2) → (inI l3) → (inI l4) → (l5 % 8 ≠ 1) → J 2 [l1, l2, l3, l4] G Q → Tg W0 (j 2) [rf (16081), cI (l1), cI (l2), cI (l3), cI (l4), l5] [] G (fun r G => r = 7 ∧ Q 0 G)) (hj3 : ∀ (l1 : Int) (l2 : Int) (l3 : Nat) (l4 : Nat) (l5 : Nat) (G : gS), (inI l1) → (inI l2) → (l3 % 8 ≠ 1) → (l4 % 8 ≠ 1) → (l5 % 8 ≠ 1) → J 3 [l1, l2] G Q → Tg W0 (j 3) [rf (16081), cI (l1), cI (l2), l3, l4, l5] [] G (fun r G => r = 7 ∧ Q 0 G)) (h : PX13_weaveUses_43 J l1 l2 l3 l4 G Q) : Tg W0 (vX13_weaveUses_43 j) [rf (16081), cI (l1), cI (l2), cI (l3), cI (l4), l5] [] G (fun r G => r = 7 ∧ Q 0 G) := by
  unfold PX13_weaveUses_43 at h
  unfold vX13_weaveUses_43
  refine g_ld (v := cI _) rfl (is_I _) ?_
  refine g_ld (v := rf _) rfl (is_R _) ?_
  refine g_getF (v := 16178) oC13 (hC13_118) rfl (Nat.le_of_ble_eq_true rfl) (Nat.le_of_ble_eq_true rfl) ?_
  refine g_ld (v := cI _) rfl (is_I _) ?_
  obtain ⟨q13, q14, h⟩ := h
  refine g_aldI aC16178 q13 q14 rfl fun i15 => ?_
  replace h := h i15
  refine g_lt2 hl4 i15 (fun b16 => ?_) (fun b16 => ?_)
  · replace h := h.1 b16
    unfold vX13_weaveUses_54
    refine g_ld (v := cI _) rfl (is_I _) ?_
    refine g_const (v := cI (1800)) rfl ?_
    refine g_mul ?_
    refine g_ld (v := cI _) rfl (is_I _) ?_
    refine g_add ?_
    refine g_st (lv' := [_, _, _, _, _, _]) (is_I _) (Nat.le_of_ble_eq_true rfl) (Or.inr (n1_I _)) rfl ?_
    obtain ⟨q17, h⟩ := h
    refine g_ld (v := rf _) rfl (is_R _) ?_
    refine g_getF (v := 16180) oC13 (hC13_120) rfl (Nat.le_of_ble_eq_true rfl) (Nat.le_of_ble_eq_true rfl) ?_
    refine g_ld (v := cI _) rfl (is_I _) ?_
    obtain ⟨q18, q19, h⟩ := h
    refine g_aldI aC16180 q18 q19 rfl fun i20 => ?_
    replace h := h i20
    refine g_ld (v := cI _) rfl (is_I _) ?_
    refine g_const (v := cI (12)) rfl ?_
    refine g_mul ?_
    refine g_ld (v := cI _) rfl (is_I _) ?_
    refine g_add ?_
    obtain ⟨q21, h⟩ := h
    refine g_eq2 i20 q21 (fun b22 => ?_) (fun b22 => ?_)
    · replace h := h.1 b22
      unfold vX13_weaveUses_80
      refine g_ld (v := rf _) rfl (is_R _) ?_
      refine g_getF (v := 16216) oC13 (hC13_179) rfl (Nat.le_of_ble_eq_true rfl) (Nat.le_of_ble_eq_true rfl) ?_
      refine g_ld (v := cI _) rfl (is_I _) ?_
      refine g_ld (v := rf _) rfl (is_R _) ?_
      refine g_ld (v := cI _) rfl (is_I _) ?_
      refine g_callV (As := [_]) (ci := 13) oC13 (fun _ => rfl) ?_
      refine g_go1 (by simp only [cs_c, cs_0, ct_I, ct_L, ct_R]; exact Nat.le_of_ble_eq_true rfl) (Tn_w (TX13_copyUse q17 h) fun _ G23 ⟨r24, e, i25, h⟩ => ?_)
      subst e
      refine ⟨n7_I _, ?_⟩
      replace h := h i25
      obtain ⟨q26, q27, h⟩ := h
      refine g_astI aC16216 q26 q27 i25 (nfI aC16216) ?_
      replace h := h _ rfl
      exact TX13_weaveUses_93 hl1 hl2 hl3 hl4 q17 hj0 hj1 hj2 hj3 h
    · replace h := h.2 b22
      exact TX13_weaveUses_93 hl1 hl2 hl3 hl4 q17 hj0 hj1 hj2 hj3 h
  · replace h := h.2 b16
    unfold vX13_weaveUses_99
    refine g_const (v := cI (0)) rfl ?_
    refine g_st (lv' := [_, _, _, _, _, _]) (is_I _) (Nat.le_of_ble_eq_true rfl) (Or.inr (n1_I _)) rfl ?_
    exact TX13_weaveUses_102 hl1 hl2 hl3 ⟨by omega, by omega⟩ hl5 hj0 hj1 hj2 hj3 h
def PX13_weaveUses_12 (J : Nat → List Int → gS → (Int → gS → Prop) → Prop) (l1 : Int) (l2 : Int) (G : gS) (Q : Int → gS → Prop) : Prop :=
  (inI (G 16081 19) → ((0 : Int) ≤ G 16081 19 ∧ ((G 16081 19 : Int) < 18 ∧ (inI (G 16097 (G 16081 19)) → ((l2 < G 16097 (G 16081 19) → (inI (G 16081 19) → (inI (((G 16081 19) * 12) + l2) ∧ (∀ G12 : gS, G12 = uG G 16081 109 (((G 16081 19) * 12) + l2) → PX13_weaveUses_43 J l1 l2 (((G 16081 19) * 12) + l2) 0 G12 Q)))) ∧ (¬ (l2 < G 16097 (G 16081 19)) → PX13_weaveUses_225 J l1 0 G Q))))))
set_option maxRecDepth 20000 in
theorem TX13_weaveUses_12 {j : Nat → rx_K} {J : Nat → List Int → gS → (Int → gS → Prop) → Prop} {l1 : Int} {l2 : Int} {l3 : Nat} {l4 : Nat} {l5 : Nat} {G : gS} {Q : Int → gS → Prop} (hl1 : inI l1) (hl2 : inI l2) (hl3 : l3 % 8 ≠ 1) (hl4 : l4 % 8 ≠ 1) (hl5 : l5 % 8 ≠ 1) (hj0 : ∀ (l1 : Int) (l2 : Int) (l3 : Nat) (l4 : Nat) (l5 : Nat) (G : gS), (inI l1) → (inI l2) → (l3 % 8 ≠ 1) → (l4 % 8 ≠ 1) → (l5 % 8 ≠ 1) → J 0 [l1, l2] G Q → Tg W0 (j 0) [rf (16081), cI (l1), cI (l2), l3, l4, l5] [] G (fun r G => r = 7 ∧ Q 0 G)) (hj1 : ∀ (l1 : Int) (l2 : Int) (l3 : Int) (l4 : Int) (l5 : Nat) (G : gS), (inI l1) → (inI l2) → (inI l3) → (inI l4) → (l5 % 8 ≠ 1) → J 1 [l1, l2, l3, l4] G Q → Tg W0 (j 1) [rf (16081), cI (l1), cI (l2), cI (l3), cI (l4), l5] [] G (fun r G => r = 7 ∧ Q 0 G)) (hj2 : ∀ (l1 : Int) (l2 : Int) (l3 : Int) (l4 : Int) (l5 : Nat) (G : gS), (inI l1) → (inI l2) → (inI l3) → (inI l4) → (l5 % 8 ≠ 1) → J 2 [l1, l2, l3, l4] G Q → Tg W0 (j 2) [rf (16081), cI (l1), cI (l2), cI (l3), cI (l4), l5] [] G (fun r G => r = 7 ∧ Q 0 G)) (hj3 : ∀ (l1 : Int) (l2 : Int) (l3 : Nat) (l4 : Nat) (l5 : Nat) (G : gS), (inI l1) → (inI l2) → (l3 % 8 ≠ 1) → (l4 % 8 ≠ 1) → (l5 % 8 ≠ 1) → J 3 [l1, l2] G Q → Tg W0 (j 3) [rf (16081), cI (l1), cI (l2), l3, l4, l5] [] G (fun r G => r = 7 ∧ Q 0 G)) (h : PX13_weaveUses_12 J l1 l2 G Q) : Tg W0 (vX13_weaveUses_12 j) [rf (16081), cI (l1), cI (l2), l3, l4, l5] [] G (fun r G => r = 7 ∧ Q 0 G) := by
  unfold PX13_weaveUses_12 at h
  unfold vX13_weaveUses_12
  refine g_ld (v := cI _) rfl (is_I _) ?_
  refine g_ld (v := rf _) rfl (is_R _) ?_
  refine g_getF (v := 16097) oC13 (hC13_23) rfl (Nat.le_of_ble_eq_true rfl) (Nat.le_of_ble_eq_true rfl) ?_
  refine g_ld (v := rf _) rfl (is_R _) ?_
  refine g_getI (kz := 19) oC13 rfl (Nat.le_of_ble_eq_true rfl) rfl fun i5 => ?_
  replace h := h i5
  obtain ⟨q6, q7, h⟩ := h
  refine g_aldI aC16097 q6 q7 rfl fun i8 => ?_
  replace h := h i8
  refine g_lt2 hl2 i8 (fun b9 => ?_) (fun b9 => ?_)
  · replace h := h.1 b9
    unfold vX13_weaveUses_25
    refine g_ld (v := rf _) rfl (is_R _) ?_
    refine g_getI (kz := 19) oC13 rfl (Nat.le_of_ble_eq_true rfl) rfl fun i10 => ?_
    replace h := h i10
    refine g_const (v := cI (12)) rfl ?_
    refine g_mul ?_
    refine g_ld (v := cI _) rfl (is_I _) ?_
    refine g_add ?_
    refine g_st (lv' := [_, _, _, _, _, _]) (is_I _) (Nat.le_of_ble_eq_true rfl) (Or.inr (n1_I _)) rfl ?_
    obtain ⟨q11, h⟩ := h
    refine g_ld (v := rf _) rfl (is_R _) ?_
    refine g_ld (v := cI _) rfl (is_I _) ?_
    refine g_putI (kz := 109) oC13 rfl (Nat.le_of_ble_eq_true rfl) rfl q11 (zfin_no (c := 16081) (j := 109) rfl) ?_
    replace h := h _ rfl
    refine g_const (v := cI (0)) rfl ?_
    refine g_st (lv' := [_, _, _, _, _, _]) (is_I _) (Nat.le_of_ble_eq_true rfl) (Or.inr (n1_I _)) rfl ?_
    exact TX13_weaveUses_43 hl1 hl2 q11 ⟨by omega, by omega⟩ hl5 hj0 hj1 hj2 hj3 h
  · replace h := h.2 b9
    unfold vX13_weaveUses_223
    refine g_const (v := cI (0)) rfl ?_
    refine g_st (lv' := [_, _, _, _, _, _]) (is_I _) (Nat.le_of_ble_eq_true rfl) (Or.inr (n1_I _)) rfl ?_
    exact TX13_weaveUses_225 hl1 ⟨by omega, by omega⟩ hl3 hl4 hl5 hj0 hj1 hj2 hj3 h
def PX13_weaveUses_0 (J : Nat → List Int → gS → (Int → gS → Prop) → Prop) (a1 : Int) (G : gS) (Q : Int → gS → Prop) : Prop :=
  (inI (G 16081 19) → ((0 : Int) ≤ G 16081 19 ∧ ((G 16081 19 : Int) < 17 ∧ (∀ G4 : gS, G4 = uG G 16178 (G 16081 19) (0) → PX13_weaveUses_12 J a1 0 G4 Q))))
set_option maxRecDepth 20000 in
theorem TX13_weaveUses_0 {j : Nat → rx_K} {J : Nat → List Int → gS → (Int → gS → Prop) → Prop} {a1 : Int} {G : gS} {Q : Int → gS → Prop} (ha1 : inI a1) (hj0 : ∀ (l1 : Int) (l2 : Int) (l3 : Nat) (l4 : Nat) (l5 : Nat) (G : gS), (inI l1) → (inI l2) → (l3 % 8 ≠ 1) → (l4 % 8 ≠ 1) → (l5 % 8 ≠ 1) → J 0 [l1, l2] G Q → Tg W0 (j 0) [rf (16081), cI (l1), cI (l2), l3, l4, l5] [] G (fun r G => r = 7 ∧ Q 0 G)) (hj1 : ∀ (l1 : Int) (l2 : Int) (l3 : Int) (l4 : Int) (l5 : Nat) (G : gS), (inI l1) → (inI l2) → (inI l3) → (inI l4) → (l5 % 8 ≠ 1) → J 1 [l1, l2, l3, l4] G Q → Tg W0 (j 1) [rf (16081), cI (l1), cI (l2), cI (l3), cI (l4), l5] [] G (fun r G => r = 7 ∧ Q 0 G)) (hj2 : ∀ (l1 : Int) (l2 : Int) (l3 : Int) (l4 : Int) (l5 : Nat) (G : gS), (inI l1) → (inI l2) → (inI l3) → (inI l4) → (l5 % 8 ≠ 1) → J 2 [l1, l2, l3, l4] G Q → Tg W0 (j 2) [rf (16081), cI (l1), cI (l2), cI (l3), cI (l4), l5] [] G (fun r G => r = 7 ∧ Q 0 G)) (hj3 : ∀ (l1 : Int) (l2 : Int) (l3 : Nat) (l4 : Nat) (l5 : Nat) (G : gS), (inI l1) → (inI l2) → (l3 % 8 ≠ 1) → (l4 % 8 ≠ 1) → (l5 % 8 ≠ 1) → J 3 [l1, l2] G Q → Tg W0 (j 3) [rf (16081), cI (l1), cI (l2), l3, l4, l5] [] G (fun r G => r = 7 ∧ Q 0 G)) (h : PX13_weaveUses_0 J a1 G Q) : Tg W0 (vX13_weaveUses_0 j) [rf (16081), cI (a1), 7, 7, 7, 7] [] G (fun r G => r = 7 ∧ Q 0 G) := by
  unfold PX13_weaveUses_0 at h
  unfold vX13_weaveUses_0
  refine g_ld (v := rf _) rfl (is_R _) ?_
  refine g_getF (v := 16178) oC13 (hC13_118) rfl (Nat.le_of_ble_eq_true rfl) (Nat.le_of_ble_eq_true rfl) ?_
  refine g_ld (v := rf _) rfl (is_R _) ?_
  refine g_getI (kz := 19) oC13 rfl (Nat.le_of_ble_eq_true rfl) rfl fun i1 => ?_
  replace h := h i1
  refine g_const (v := cI (0)) rfl ?_
  obtain ⟨q2, q3, h⟩ := h
  refine g_astI aC16178 q2 q3 ⟨by omega, by omega⟩ (nfI aC16178) ?_
  replace h := h _ rfl
  refine g_const (v := cI (0)) rfl ?_
  refine g_st (lv' := [_, _, _, _, _, _]) (is_I _) (Nat.le_of_ble_eq_true rfl) (Or.inr (n1_I _)) rfl ?_
  exact TX13_weaveUses_12 ha1 ⟨by omega, by omega⟩ (show 7 % 8 ≠ 1 by decide) (show 7 % 8 ≠ 1 by decide) (show 7 % 8 ≠ 1 by decide) hj0 hj1 hj2 hj3 h
def PX13_weaveUses_J : Nat → Nat → List Int → gS → (Int → gS → Prop) → Prop
  | 0, _, _, _, _ => False
  | f + 1, h, L, G, Q => match h, L with
    | 0, [l1, l2] => PX13_weaveUses_12 (PX13_weaveUses_J f) l1 l2 G Q
    | 1, [l1, l2, l3, l4] => PX13_weaveUses_43 (PX13_weaveUses_J f) l1 l2 l3 l4 G Q
    | 2, [l1, l2, l3, l4] => PX13_weaveUses_102 (PX13_weaveUses_J f) l1 l2 l3 l4 G Q
    | 3, [l1, l2] => PX13_weaveUses_225 (PX13_weaveUses_J f) l1 l2 G Q
    | _, _ => False
theorem TX13_weaveUses_J {Q : Int → gS → Prop} : ∀ f N : Nat, f ≤ N → (∀ (l1 : Int) (l2 : Int) (l3 : Nat) (l4 : Nat) (l5 : Nat) (G : gS), (inI l1) → (inI l2) → (l3 % 8 ≠ 1) → (l4 % 8 ≠ 1) → (l5 % 8 ≠ 1) → (PX13_weaveUses_J f) 0 [l1, l2] G Q → Tg W0 (rx_J vhX13_weaveUses N 0) [rf (16081), cI (l1), cI (l2), l3, l4, l5] [] G (fun r G => r = 7 ∧ Q 0 G)) ∧ (∀ (l1 : Int) (l2 : Int) (l3 : Int) (l4 : Int) (l5 : Nat) (G : gS), (inI l1) → (inI l2) → (inI l3) → (inI l4) → (l5 % 8 ≠ 1) → (PX13_weaveUses_J f) 1 [l1, l2, l3, l4] G Q → Tg W0 (rx_J vhX13_weaveUses N 1) [rf (16081), cI (l1), cI (l2), cI (l3), cI (l4), l5] [] G (fun r G => r = 7 ∧ Q 0 G)) ∧ (∀ (l1 : Int) (l2 : Int) (l3 : Int) (l4 : Int) (l5 : Nat) (G : gS), (inI l1) → (inI l2) → (inI l3) → (inI l4) → (l5 % 8 ≠ 1) → (PX13_weaveUses_J f) 2 [l1, l2, l3, l4] G Q → Tg W0 (rx_J vhX13_weaveUses N 2) [rf (16081), cI (l1), cI (l2), cI (l3), cI (l4), l5] [] G (fun r G => r = 7 ∧ Q 0 G)) ∧ (∀ (l1 : Int) (l2 : Int) (l3 : Nat) (l4 : Nat) (l5 : Nat) (G : gS), (inI l1) → (inI l2) → (l3 % 8 ≠ 1) → (l4 % 8 ≠ 1) → (l5 % 8 ≠ 1) → (PX13_weaveUses_J f) 3 [l1, l2] G Q → Tg W0 (rx_J vhX13_weaveUses N 3) [rf (16081), cI (l1), cI (l2), l3, l4, l5] [] G (fun r G => r = 7 ∧ Q 0 G)) := by
  intro f
  induction f with
  | zero => exact fun N _ => ⟨fun _ _ _ _ _ _ _ _ _ _ _ h => h.elim, fun _ _ _ _ _ _ _ _ _ _ _ h => h.elim, fun _ _ _ _ _ _ _ _ _ _ _ h => h.elim, fun _ _ _ _ _ _ _ _ _ _ _ h => h.elim⟩
  | succ f ih =>
    intro N hN
    obtain ⟨M, rfl⟩ : ∃ M, N = M + 1 := ⟨N - 1, by omega⟩
    have ih := ih M (by omega)
    exact ⟨fun _ _ _ _ _ _ hl1 hl2 hl3 hl4 hl5 h => show Tg W0 (vX13_weaveUses_12 (rx_J vhX13_weaveUses M)) _ _ _ _ from TX13_weaveUses_12 hl1 hl2 hl3 hl4 hl5 ih.1 ih.2.1 ih.2.2.1 ih.2.2.2 h, fun _ _ _ _ _ _ hl1 hl2 hl3 hl4 hl5 h => show Tg W0 (vX13_weaveUses_43 (rx_J vhX13_weaveUses M)) _ _ _ _ from TX13_weaveUses_43 hl1 hl2 hl3 hl4 hl5 ih.1 ih.2.1 ih.2.2.1 ih.2.2.2 h, fun _ _ _ _ _ _ hl1 hl2 hl3 hl4 hl5 h => show Tg W0 (vX13_weaveUses_102 (rx_J vhX13_weaveUses M)) _ _ _ _ from TX13_weaveUses_102 hl1 hl2 hl3 hl4 hl5 ih.1 ih.2.1 ih.2.2.1 ih.2.2.2 h, fun _ _ _ _ _ _ hl1 hl2 hl3 hl4 hl5 h => show Tg W0 (vX13_weaveUses_225 (rx_J vhX13_weaveUses M)) _ _ _ _ from TX13_weaveUses_225 hl1 hl2 hl3 hl4 hl5 ih.1 ih.2.1 ih.2.2.1 ih.2.2.2 h⟩
def PX13_weaveUses (a1 : Int) (G : gS) (Q : Int → gS → Prop) : Prop := ∃ f : Nat, f ≤ 4000000000 ∧ PX13_weaveUses_0 (PX13_weaveUses_J f) a1 G Q
theorem TX13_weaveUses {a1 : Int} {G : gS} {Q : Int → gS → Prop} (ha1 : inI a1) (h : PX13_weaveUses a1 G Q) : Tn W0 FX13_weaveUses [rf (16081), cI (a1)] G (fun r G => r = 7 ∧ Q 0 G) := by
  obtain ⟨f, hf, h⟩ := h
  have hJ := TX13_weaveUses_J (Q := Q) f 4000000000 hf
  unfold FX13_weaveUses
  refine g_ent (lv' := [rf (16081), cI (a1), 7, 7, 7, 7]) (flR (flI fl0)) (Nat.le_of_ble_eq_true rfl) rfl ?_
  exact TX13_weaveUses_0 ha1 hJ.1 hJ.2.1 hJ.2.2.1 hJ.2.2.2 h
def PX13_weave_235 (J : Nat → List Int → gS → (Int → gS → Prop) → Prop) (l1 : Int) (l2 : Int) (l3 : Int) (l4 : Int) (l5 : Int) (l6 : Int) (l7 : Int) (l8 : Int) (l9 : Int) (G : gS) (Q : Int → gS → Prop) : Prop :=
  ((0 : Int) ≤ l5 ∧ ((l5 : Int) < 18 ∧ (inI (G 16097 l5) → ((l9 < G 16097 l5 → ((0 : Int) ≤ (l5 * 12) + l9 ∧ (((l5 * 12) + l9 : Int) < 216 ∧ (inL (G 16098 ((l5 * 12) + l9)) → PX13_inSlot l4 (G 16098 ((l5 * 12) + l9)) G (fun r64 G63 => inI r64 → (inI (G63 16081 19) → (inI ((l5 * 12) + l9) ∧ (inI (((G63 16081 19) * 12) + l9) ∧ PX13_heal ((l5 * 12) + l9) r64 (((G63 16081 19) * 12) + l9) G63 (fun r70 G69 => inI r70 → (inI (l9 + 1) ∧ J 1 [l1, l2, l3, l4, l5, l6, l7, l8, l9 + 1] G69 Q)))))))))) ∧ (¬ (l9 < G 16097 l5) → ((0 : Int) ≤ l1 ∧ ((l1 : Int) < 5 ∧ (∀ G75 : gS, G75 = uG G 16163 l1 (l6) → PX13_weaveUses l5 G75 (fun _ G76 => ((0 : Int) ≤ l1 ∧ ((l1 : Int) < 5 ∧ (inI (G76 16089 l1) → (inI (G76 16081 19) → ((0 : Int) ≤ (8 * l1) + (G76 16089 l1) ∧ (((8 * l1) + (G76 16089 l1) : Int) < 40 ∧ (∀ G84 : gS, G84 = uG G76 16088 ((8 * l1) + (G76 16089 l1)) (G76 16081 19) → ((0 : Int) ≤ l1 ∧ ((l1 : Int) < 5 ∧ (inI (G84 16089 l1) → ((0 : Int) ≤ l1 ∧ ((l1 : Int) < 5 ∧ (inI ((G84 16089 l1) + 1) ∧ (∀ G91 : gS, G91 = uG G84 16089 l1 ((G84 16089 l1) + 1) → (inI (G91 16081 10) → (inI ((G91 16081 10) + 1) ∧ (∀ G94 : gS, G94 = uG G91 16081 10 ((G91 16081 10) + 1) → ((0 : Int) ≤ l1 ∧ ((l1 : Int) < 5 ∧ (inI (G94 16089 l1) → (inI ((G94 16089 l1) - 1) ∧ Q ((G94 16089 l1) - 1) G94))))))))))))))))))))))))))))))
set_option maxRecDepth 20000 in
theorem TX13_weave_235 {j : Nat → rx_K} {J : Nat → List Int → gS → (Int → gS → Prop) → Prop} {l1 : Int} {l2 : Int} {l3 : Int} {l4 : Int} {l5 : Int} {l6 : Int} {l7 : Int} {l8 : Int} {l9 : Int} {l10 : Nat} {G : gS} {Q : Int → gS → Prop} (hl1 : inI l1) (hl2 : inI l2) (hl3 : inI l3) (hl4 : inI l4) (hl5 : inI l5) (hl6 : inI l6) (hl7 : inI l7) (hl8 : inI l8) (hl9 : inI l9) (hl10 : l10 % 8 ≠ 1) (hj0 : ∀ (l1 : Int) (l2 : Int) (l3 : Int) (l4 : Int) (l5 : Int) (l6 : Int) (l7 : Int) (l8 : Int) (l9 : Int) (l10 : Nat) (G : gS), (inI l1) → (inI l2) → (inI l3) → (inI l4) → (inI l5) → (inI l6) → (inI l7) → (inI l8) → (inI l9) → (l10 % 8 ≠ 1) → J 0 [l1, l2, l3, l4, l5, l6, l7, l8, l9] G Q → Tg W0 (j 0) [rf (16081), cI (l1), cI (l2), cI (l3), cI (l4), cI (l5), cI (l6), cI (l7), cI (l8), cI (l9), l10] [] G (fun r G => ∃ v, r = cI v ∧ inI v ∧ Q v G)) (hj1 : ∀ (l1 : Int) (l2 : Int) (l3 : Int) (l4 : Int) (l5 : Int) (l6 : Int) (l7 : Int) (l8 : Int) (l9 : Int) (l10 : Nat) (G : gS), (inI l1) → (inI l2) → (inI l3) → (inI l4) → (inI l5) → (inI l6) → (inI l7) → (inI l8) → (inI l9) → (l10 % 8 ≠ 1) → J 1 [l1, l2, l3, l4, l5, l6, l7, l8, l9] G Q → Tg W0 (j 1) [rf (16081), cI (l1), cI (l2), cI (l3), cI (l4), cI (l5), cI (l6), cI (l7), cI (l8), cI (l9), l10] [] G (fun r G => ∃ v, r = cI v ∧ inI v ∧ Q v G)) (h : PX13_weave_235 J l1 l2 l3 l4 l5 l6 l7 l8 l9 G Q) : Tg W0 (vX13_weave_235 j) [rf (16081), cI (l1), cI (l2), cI (l3), cI (l4), cI (l5), cI (l6), cI (l7), cI (l8), cI (l9), l10] [] G (fun r G => ∃ v, r = cI v ∧ inI v ∧ Q v G) := by
  unfold PX13_weave_235 at h
  unfold vX13_weave_235
  refine g_ld (v := cI _) rfl (is_I _) ?_
  refine g_ld (v := rf _) rfl (is_R _) ?_
  refine g_getF (v := 16097) oC13 (hC13_23) rfl (Nat.le_of_ble_eq_true rfl) (Nat.le_of_ble_eq_true rfl) ?_
  refine g_ld (v := cI _) rfl (is_I _) ?_
  obtain ⟨q56, q57, h⟩ := h
  refine g_aldI aC16097 q56 q57 rfl fun i58 => ?_
  replace h := h i58
  refine g_lt2 hl9 i58 (fun b59 => ?_) (fun b59 => ?_)
  · replace h := h.1 b59
    unfold vX13_weave_247
    refine g_ld (v := rf _) rfl (is_R _) ?_
    refine g_ld (v := cI _) rfl (is_I _) ?_
    refine g_const (v := cI (12)) rfl ?_
    refine g_mul ?_
    refine g_ld (v := cI _) rfl (is_I _) ?_
    refine g_add ?_
    refine g_ld (v := rf _) rfl (is_R _) ?_
    refine g_ld (v := cI _) rfl (is_I _) ?_
    refine g_ld (v := rf _) rfl (is_R _) ?_
    refine g_getF (v := 16098) oC13 (hC13_24) rfl (Nat.le_of_ble_eq_true rfl) (Nat.le_of_ble_eq_true rfl) ?_
    refine g_ld (v := cI _) rfl (is_I _) ?_
    refine g_const (v := cI (12)) rfl ?_
    refine g_mul ?_
    refine g_ld (v := cI _) rfl (is_I _) ?_
    refine g_add ?_
    obtain ⟨q60, q61, h⟩ := h
    refine g_aldL aC16098 q60 q61 rfl fun i62 => ?_
    replace h := h i62
    refine g_callV (As := [_, _]) (ci := 13) oC13 (fun _ => rfl) ?_
    refine g_go1 (by simp only [cs_c, cs_0, ct_I, ct_L, ct_R]; exact Nat.le_of_ble_eq_true rfl) (Tn_w (TX13_inSlot hl4 i62 h) fun _ G63 ⟨r64, e, i65, h⟩ => ?_)
    subst e
    refine ⟨n7_I _, ?_⟩
    replace h := h i65
    refine g_ld (v := rf _) rfl (is_R _) ?_
    refine g_getI (kz := 19) oC13 rfl (Nat.le_of_ble_eq_true rfl) rfl fun i66 => ?_
    replace h := h i66
    refine g_const (v := cI (12)) rfl ?_
    refine g_mul ?_
    refine g_ld (v := cI _) rfl (is_I _) ?_
    refine g_add ?_
    obtain ⟨q67, h⟩ := h
    obtain ⟨q68, h⟩ := h
    refine g_callV (As := [_, _, _]) (ci := 13) oC13 (fun _ => rfl) ?_
    refine g_go1 (Nat.le_of_ble_eq_true rfl) (Tn_w (TX13_heal q67 i65 q68 h) fun _ G69 ⟨r70, e, i71, h⟩ => ?_)
    subst e
    refine ⟨n7_I _, ?_⟩
    replace h := h i71
    unfold vX13_weave_288
    refine g_pop (ct_I _) ?_
    refine g_inc (lv' := [_, _, _, _, _, _, _, _, _, _, _]) rfl (Nat.le_of_ble_eq_true rfl) (Or.inr (n1_I _)) rfl ?_
    obtain ⟨q72, h⟩ := h
    exact hj1 _ _ _ _ _ _ _ _ _ _ _ hl1 hl2 hl3 hl4 hl5 hl6 hl7 hl8 q72 hl10 h
  · replace h := h.2 b59
    unfold vX13_weave_295
    refine g_ld (v := rf _) rfl (is_R _) ?_
    refine g_getF (v := 16163) oC13 (hC13_90) rfl (Nat.le_of_ble_eq_true rfl) (Nat.le_of_ble_eq_true rfl) ?_
    refine g_ld (v := cI _) rfl (is_I _) ?_
    refine g_ld (v := cI _) rfl (is_I _) ?_
    obtain ⟨q73, q74, h⟩ := h
    refine g_astI aC16163 q73 q74 hl6 (nfI aC16163) ?_
    replace h := h _ rfl
    refine g_ld (v := rf _) rfl (is_R _) ?_
    refine g_ld (v := cI _) rfl (is_I _) ?_
    refine g_callV (As := [_]) (ci := 13) oC13 (fun _ => rfl) ?_
    refine g_go0 (Nat.le_of_ble_eq_true rfl) (Tn_w (TX13_weaveUses hl5 h) fun _ G76 ⟨e, h⟩ => ⟨e, ?_⟩)
    refine g_ld (v := rf _) rfl (is_R _) ?_
    refine g_getF (v := 16088) oC13 (hC13_8) rfl (Nat.le_of_ble_eq_true rfl) (Nat.le_of_ble_eq_true rfl) ?_
    refine g_const (v := cI (8)) rfl ?_
    refine g_ld (v := cI _) rfl (is_I _) ?_
    refine g_mul ?_
    refine g_ld (v := rf _) rfl (is_R _) ?_
    refine g_getF (v := 16089) oC13 (hC13_9) rfl (Nat.le_of_ble_eq_true rfl) (Nat.le_of_ble_eq_true rfl) ?_
    refine g_ld (v := cI _) rfl (is_I _) ?_
    obtain ⟨q78, q79, h⟩ := h
    refine g_aldI aC16089 q78 q79 rfl fun i80 => ?_
    replace h := h i80
    refine g_add ?_
    refine g_ld (v := rf _) rfl (is_R _) ?_
    refine g_getI (kz := 19) oC13 rfl (Nat.le_of_ble_eq_true rfl) rfl fun i81 => ?_
    replace h := h i81
    obtain ⟨q82, q83, h⟩ := h
    refine g_astI aC16088 q82 q83 i81 (nfI aC16088) ?_
    replace h := h _ rfl
    refine g_ld (v := rf _) rfl (is_R _) ?_
    refine g_getF (v := 16089) oC13 (hC13_9) rfl (Nat.le_of_ble_eq_true rfl) (Nat.le_of_ble_eq_true rfl) ?_
    refine g_ld (v := cI _) rfl (is_I _) ?_
    unfold vX13_weave_334
    refine g_dup2 (ct_I _) (ct_R _) ?_
    obtain ⟨q85, q86, h⟩ := h
    refine g_aldI aC16089 q85 q86 rfl fun i87 => ?_
    replace h := h i87
    refine g_const (v := cI (1)) rfl ?_
    refine g_add ?_
    obtain ⟨q88, q89, h⟩ := h
    obtain ⟨q90, h⟩ := h
    refine g_astI aC16089 q88 q89 q90 (nfI aC16089) ?_
    replace h := h _ rfl
    refine g_ld (v := rf _) rfl (is_R _) ?_
    refine g_dup (ct_R _) ?_
    refine g_getI (kz := 10) oC13 rfl (Nat.le_of_ble_eq_true rfl) rfl fun i92 => ?_
    replace h := h i92
    refine g_const (v := cI (1)) rfl ?_
    refine g_add ?_
    obtain ⟨q93, h⟩ := h
    refine g_putI (kz := 10) oC13 rfl (Nat.le_of_ble_eq_true rfl) rfl q93 (zfin_no (c := 16081) (j := 10) rfl) ?_
    replace h := h _ rfl
    refine g_ld (v := rf _) rfl (is_R _) ?_
    refine g_getF (v := 16089) oC13 (hC13_9) rfl (Nat.le_of_ble_eq_true rfl) (Nat.le_of_ble_eq_true rfl) ?_
    refine g_ld (v := cI _) rfl (is_I _) ?_
    obtain ⟨q95, q96, h⟩ := h
    refine g_aldI aC16089 q95 q96 rfl fun i97 => ?_
    replace h := h i97
    refine g_const (v := cI (1)) rfl ?_
    refine g_sub ?_
    obtain ⟨q98, h⟩ := h
    exact g_ret1 (is_I _) ⟨_, rfl, q98, h⟩
def PX13_weave_216 (J : Nat → List Int → gS → (Int → gS → Prop) → Prop) (l1 : Int) (l2 : Int) (l3 : Int) (l4 : Int) (l5 : Int) (l6 : Int) (l7 : Int) (l8 : Int) (l9 : Int) (s0 : Int) (G : gS) (Q : Int → gS → Prop) : Prop :=
  Q (s0) G
set_option maxRecDepth 20000 in
theorem TX13_weave_216 {j : Nat → rx_K} {J : Nat → List Int → gS → (Int → gS → Prop) → Prop} {l1 : Int} {l2 : Int} {l3 : Int} {l4 : Int} {l5 : Int} {l6 : Int} {l7 : Int} {l8 : Int} {l9 : Int} {l10 : Nat} {s0 : Int} {G : gS} {Q : Int → gS → Prop} (hl1 : inI l1) (hl2 : inI l2) (hl3 : inI l3) (hl4 : inI l4) (hl5 : inI l5) (hl6 : inI l6) (hl7 : inI l7) (hl8 : inI l8) (hl9 : inI l9) (hl10 : l10 % 8 ≠ 1) (hs0 : inI s0) (hj0 : ∀ (l1 : Int) (l2 : Int) (l3 : Int) (l4 : Int) (l5 : Int) (l6 : Int) (l7 : Int) (l8 : Int) (l9 : Int) (l10 : Nat) (G : gS), (inI l1) → (inI l2) → (inI l3) → (inI l4) → (inI l5) → (inI l6) → (inI l7) → (inI l8) → (inI l9) → (l10 % 8 ≠ 1) → J 0 [l1, l2, l3, l4, l5, l6, l7, l8, l9] G Q → Tg W0 (j 0) [rf (16081), cI (l1), cI (l2), cI (l3), cI (l4), cI (l5), cI (l6), cI (l7), cI (l8), cI (l9), l10] [] G (fun r G => ∃ v, r = cI v ∧ inI v ∧ Q v G)) (hj1 : ∀ (l1 : Int) (l2 : Int) (l3 : Int) (l4 : Int) (l5 : Int) (l6 : Int) (l7 : Int) (l8 : Int) (l9 : Int) (l10 : Nat) (G : gS), (inI l1) → (inI l2) → (inI l3) → (inI l4) → (inI l5) → (inI l6) → (inI l7) → (inI l8) → (inI l9) → (l10 % 8 ≠ 1) → J 1 [l1, l2, l3, l4, l5, l6, l7, l8, l9] G Q → Tg W0 (j 1) [rf (16081), cI (l1), cI (l2), cI (l3), cI (l4), cI (l5), cI (l6), cI (l7), cI (l8), cI (l9), l10] [] G (fun r G => ∃ v, r = cI v ∧ inI v ∧ Q v G)) (h : PX13_weave_216 J l1 l2 l3 l4 l5 l6 l7 l8 l9 s0 G Q) : Tg W0 (vX13_weave_216 j) [rf (16081), cI (l1), cI (l2), cI (l3), cI (l4), cI (l5), cI (l6), cI (l7), cI (l8), cI (l9), l10] [cI (s0)] G (fun r G => ∃ v, r = cI v ∧ inI v ∧ Q v G) := by
  unfold PX13_weave_216 at h
  unfold vX13_weave_216
  exact g_ret1 (is_I _) ⟨_, rfl, hs0, h⟩
def PX13_weave_196 (J : Nat → List Int → gS → (Int → gS → Prop) → Prop) (l1 : Int) (l2 : Int) (l3 : Int) (l4 : Int) (l5 : Int) (l6 : Int) (l7 : Int) (l8 : Int) (l9 : Int) (G : gS) (Q : Int → gS → Prop) : Prop :=
  ((0 : Int) ≤ l1 ∧ ((l1 : Int) < 5 ∧ (∀ G54 : gS, G54 = uG G 16163 l1 (l6) → ((l7 = 0 → PX13_weave_216 J l1 l2 l3 l4 l5 l6 l7 l8 l9 (-2) G54 Q) ∧ (¬ (l7 = 0) → PX13_weave_216 J l1 l2 l3 l4 l5 l6 l7 l8 l9 (-3) G54 Q)))))
set_option maxRecDepth 20000 in
theorem TX13_weave_196 {j : Nat → rx_K} {J : Nat → List Int → gS → (Int → gS → Prop) → Prop} {l1 : Int} {l2 : Int} {l3 : Int} {l4 : Int} {l5 : Int} {l6 : Int} {l7 : Int} {l8 : Int} {l9 : Int} {l10 : Nat} {G : gS} {Q : Int → gS → Prop} (hl1 : inI l1) (hl2 : inI l2) (hl3 : inI l3) (hl4 : inI l4) (hl5 : inI l5) (hl6 : inI l6) (hl7 : inI l7) (hl8 : inI l8) (hl9 : inI l9) (hl10 : l10 % 8 ≠ 1) (hj0 : ∀ (l1 : Int) (l2 : Int) (l3 : Int) (l4 : Int) (l5 : Int) (l6 : Int) (l7 : Int) (l8 : Int) (l9 : Int) (l10 : Nat) (G : gS), (inI l1) → (inI l2) → (inI l3) → (inI l4) → (inI l5) → (inI l6) → (inI l7) → (inI l8) → (inI l9) → (l10 % 8 ≠ 1) → J 0 [l1, l2, l3, l4, l5, l6, l7, l8, l9] G Q → Tg W0 (j 0) [rf (16081), cI (l1), cI (l2), cI (l3), cI (l4), cI (l5), cI (l6), cI (l7), cI (l8), cI (l9), l10] [] G (fun r G => ∃ v, r = cI v ∧ inI v ∧ Q v G)) (hj1 : ∀ (l1 : Int) (l2 : Int) (l3 : Int) (l4 : Int) (l5 : Int) (l6 : Int) (l7 : Int) (l8 : Int) (l9 : Int) (l10 : Nat) (G : gS), (inI l1) → (inI l2) → (inI l3) → (inI l4) → (inI l5) → (inI l6) → (inI l7) → (inI l8) → (inI l9) → (l10 % 8 ≠ 1) → J 1 [l1, l2, l3, l4, l5, l6, l7, l8, l9] G Q → Tg W0 (j 1) [rf (16081), cI (l1), cI (l2), cI (l3), cI (l4), cI (l5), cI (l6), cI (l7), cI (l8), cI (l9), l10] [] G (fun r G => ∃ v, r = cI v ∧ inI v ∧ Q v G)) (h : PX13_weave_196 J l1 l2 l3 l4 l5 l6 l7 l8 l9 G Q) : Tg W0 (vX13_weave_196 j) [rf (16081), cI (l1), cI (l2), cI (l3), cI (l4), cI (l5), cI (l6), cI (l7), cI (l8), cI (l9), l10] [] G (fun r G => ∃ v, r = cI v ∧ inI v ∧ Q v G) := by
  unfold PX13_weave_196 at h
  unfold vX13_weave_196
  refine g_ld (v := rf _) rfl (is_R _) ?_
  refine g_getF (v := 16163) oC13 (hC13_90) rfl (Nat.le_of_ble_eq_true rfl) (Nat.le_of_ble_eq_true rfl) ?_
  refine g_ld (v := cI _) rfl (is_I _) ?_
  refine g_ld (v := cI _) rfl (is_I _) ?_
  obtain ⟨q52, q53, h⟩ := h
  refine g_astI aC16163 q52 q53 hl6 (nfI aC16163) ?_
  replace h := h _ rfl
  refine g_ld (v := cI _) rfl (is_I _) ?_
  refine g_eq1 hl7 (fun b55 => ?_) (fun b55 => ?_)
  · replace h := h.1 b55
    unfold vX13_weave_209
    refine g_const (v := cI (-2)) rfl ?_
    exact TX13_weave_216 hl1 hl2 hl3 hl4 hl5 hl6 hl7 hl8 hl9 hl10 ⟨by omega, by omega⟩ hj0 hj1 h
  · replace h := h.2 b55
    unfold vX13_weave_214
    refine g_const (v := cI (-3)) rfl ?_
    exact TX13_weave_216 hl1 hl2 hl3 hl4 hl5 hl6 hl7 hl8 hl9 hl10 ⟨by omega, by omega⟩ hj0 hj1 h
def PX13_weave_184 (J : Nat → List Int → gS → (Int → gS → Prop) → Prop) (l1 : Int) (l2 : Int) (l3 : Int) (l4 : Int) (l5 : Int) (l6 : Int) (l7 : Int) (l8 : Int) (l9 : Int) (s0 : Int) (G : gS) (Q : Int → gS → Prop) : Prop :=
  ((l7 = 0 → PX13_weave_196 J l1 l2 l3 l4 l5 l6 l7 s0 l9 G Q) ∧ (¬ (l7 = 0) → ((s0 = 0 → (inI (G 16081 10) → (∀ G48 : gS, G48 = uG G 16081 19 (G 16081 10) → PX13_copyBuild l5 l1 G48 (fun _ G49 => PX13_weave_235 J l1 l2 l3 l4 l5 l6 l7 s0 0 G49 Q)))) ∧ (¬ (s0 = 0) → PX13_weave_196 J l1 l2 l3 l4 l5 l6 l7 s0 l9 G Q))))
set_option maxRecDepth 20000 in
theorem TX13_weave_184 {j : Nat → rx_K} {J : Nat → List Int → gS → (Int → gS → Prop) → Prop} {l1 : Int} {l2 : Int} {l3 : Int} {l4 : Int} {l5 : Int} {l6 : Int} {l7 : Int} {l8 : Int} {l9 : Int} {l10 : Nat} {s0 : Int} {G : gS} {Q : Int → gS → Prop} (hl1 : inI l1) (hl2 : inI l2) (hl3 : inI l3) (hl4 : inI l4) (hl5 : inI l5) (hl6 : inI l6) (hl7 : inI l7) (hl8 : inI l8) (hl9 : inI l9) (hl10 : l10 % 8 ≠ 1) (hs0 : inI s0) (hj0 : ∀ (l1 : Int) (l2 : Int) (l3 : Int) (l4 : Int) (l5 : Int) (l6 : Int) (l7 : Int) (l8 : Int) (l9 : Int) (l10 : Nat) (G : gS), (inI l1) → (inI l2) → (inI l3) → (inI l4) → (inI l5) → (inI l6) → (inI l7) → (inI l8) → (inI l9) → (l10 % 8 ≠ 1) → J 0 [l1, l2, l3, l4, l5, l6, l7, l8, l9] G Q → Tg W0 (j 0) [rf (16081), cI (l1), cI (l2), cI (l3), cI (l4), cI (l5), cI (l6), cI (l7), cI (l8), cI (l9), l10] [] G (fun r G => ∃ v, r = cI v ∧ inI v ∧ Q v G)) (hj1 : ∀ (l1 : Int) (l2 : Int) (l3 : Int) (l4 : Int) (l5 : Int) (l6 : Int) (l7 : Int) (l8 : Int) (l9 : Int) (l10 : Nat) (G : gS), (inI l1) → (inI l2) → (inI l3) → (inI l4) → (inI l5) → (inI l6) → (inI l7) → (inI l8) → (inI l9) → (l10 % 8 ≠ 1) → J 1 [l1, l2, l3, l4, l5, l6, l7, l8, l9] G Q → Tg W0 (j 1) [rf (16081), cI (l1), cI (l2), cI (l3), cI (l4), cI (l5), cI (l6), cI (l7), cI (l8), cI (l9), l10] [] G (fun r G => ∃ v, r = cI v ∧ inI v ∧ Q v G)) (h : PX13_weave_184 J l1 l2 l3 l4 l5 l6 l7 l8 l9 s0 G Q) : Tg W0 (vX13_weave_184 j) [rf (16081), cI (l1), cI (l2), cI (l3), cI (l4), cI (l5), cI (l6), cI (l7), cI (l8), cI (l9), l10] [cI (s0)] G (fun r G => ∃ v, r = cI v ∧ inI v ∧ Q v G) := by
  unfold PX13_weave_184 at h
  unfold vX13_weave_184
  refine g_st (lv' := [_, _, _, _, _, _, _, _, _, _, _]) (is_I _) (Nat.le_of_ble_eq_true rfl) (Or.inr (n1_I _)) rfl ?_
  refine g_ld (v := cI _) rfl (is_I _) ?_
  refine g_eq1 hl7 (fun b45 => ?_) (fun b45 => ?_)
  · replace h := h.1 b45
    exact TX13_weave_196 hl1 hl2 hl3 hl4 hl5 hl6 hl7 hs0 hl9 hl10 hj0 hj1 h
  · replace h := h.2 b45
    unfold vX13_weave_191
    refine g_ld (v := cI _) rfl (is_I _) ?_
    refine g_eq1 hs0 (fun b46 => ?_) (fun b46 => ?_)
    · replace h := h.1 b46
      unfold vX13_weave_217
      refine g_ld (v := rf _) rfl (is_R _) ?_
      refine g_ld (v := rf _) rfl (is_R _) ?_
      refine g_getI (kz := 10) oC13 rfl (Nat.le_of_ble_eq_true rfl) rfl fun i47 => ?_
      replace h := h i47
      refine g_putI (kz := 19) oC13 rfl (Nat.le_of_ble_eq_true rfl) rfl i47 (zfin_no (c := 16081) (j := 19) rfl) ?_
      replace h := h _ rfl
      refine g_ld (v := rf _) rfl (is_R _) ?_
      refine g_ld (v := cI _) rfl (is_I _) ?_
      refine g_ld (v := cI _) rfl (is_I _) ?_
      refine g_callV (As := [_, _]) (ci := 13) oC13 (fun _ => rfl) ?_
      refine g_go0 (Nat.le_of_ble_eq_true rfl) (Tn_w (TX13_copyBuild hl5 hl1 h) fun _ G49 ⟨e, h⟩ => ⟨e, ?_⟩)
      refine g_const (v := cI (0)) rfl ?_
      refine g_st (lv' := [_, _, _, _, _, _, _, _, _, _, _]) (is_I _) (Nat.le_of_ble_eq_true rfl) (Or.inr (n1_I _)) rfl ?_
      exact TX13_weave_235 hl1 hl2 hl3 hl4 hl5 hl6 hl7 hs0 ⟨by omega, by omega⟩ hl10 hj0 hj1 h
    · replace h := h.2 b46
      exact TX13_weave_196 hl1 hl2 hl3 hl4 hl5 hl6 hl7 hs0 hl9 hl10 hj0 hj1 h
def PX13_weave_179 (J : Nat → List Int → gS → (Int → gS → Prop) → Prop) (l1 : Int) (l2 : Int) (l3 : Int) (l4 : Int) (l5 : Int) (l6 : Int) (l7 : Int) (l8 : Int) (l9 : Int) (G : gS) (Q : Int → gS → Prop) : Prop :=
  PX13_weave_184 J l1 l2 l3 l4 l5 l6 l7 l8 l9 1 G Q
set_option maxRecDepth 20000 in
theorem TX13_weave_179 {j : Nat → rx_K} {J : Nat → List Int → gS → (Int → gS → Prop) → Prop} {l1 : Int} {l2 : Int} {l3 : Int} {l4 : Int} {l5 : Int} {l6 : Int} {l7 : Int} {l8 : Int} {l9 : Int} {l10 : Nat} {G : gS} {Q : Int → gS → Prop} (hl1 : inI l1) (hl2 : inI l2) (hl3 : inI l3) (hl4 : inI l4) (hl5 : inI l5) (hl6 : inI l6) (hl7 : inI l7) (hl8 : inI l8) (hl9 : inI l9) (hl10 : l10 % 8 ≠ 1) (hj0 : ∀ (l1 : Int) (l2 : Int) (l3 : Int) (l4 : Int) (l5 : Int) (l6 : Int) (l7 : Int) (l8 : Int) (l9 : Int) (l10 : Nat) (G : gS), (inI l1) → (inI l2) → (inI l3) → (inI l4) → (inI l5) → (inI l6) → (inI l7) → (inI l8) → (inI l9) → (l10 % 8 ≠ 1) → J 0 [l1, l2, l3, l4, l5, l6, l7, l8, l9] G Q → Tg W0 (j 0) [rf (16081), cI (l1), cI (l2), cI (l3), cI (l4), cI (l5), cI (l6), cI (l7), cI (l8), cI (l9), l10] [] G (fun r G => ∃ v, r = cI v ∧ inI v ∧ Q v G)) (hj1 : ∀ (l1 : Int) (l2 : Int) (l3 : Int) (l4 : Int) (l5 : Int) (l6 : Int) (l7 : Int) (l8 : Int) (l9 : Int) (l10 : Nat) (G : gS), (inI l1) → (inI l2) → (inI l3) → (inI l4) → (inI l5) → (inI l6) → (inI l7) → (inI l8) → (inI l9) → (l10 % 8 ≠ 1) → J 1 [l1, l2, l3, l4, l5, l6, l7, l8, l9] G Q → Tg W0 (j 1) [rf (16081), cI (l1), cI (l2), cI (l3), cI (l4), cI (l5), cI (l6), cI (l7), cI (l8), cI (l9), l10] [] G (fun r G => ∃ v, r = cI v ∧ inI v ∧ Q v G)) (h : PX13_weave_179 J l1 l2 l3 l4 l5 l6 l7 l8 l9 G Q) : Tg W0 (vX13_weave_179 j) [rf (16081), cI (l1), cI (l2), cI (l3), cI (l4), cI (l5), cI (l6), cI (l7), cI (l8), cI (l9), l10] [] G (fun r G => ∃ v, r = cI v ∧ inI v ∧ Q v G) := by
  unfold PX13_weave_179 at h
  unfold vX13_weave_179
  refine g_const (v := cI (1)) rfl ?_
  exact TX13_weave_184 hl1 hl2 hl3 hl4 hl5 hl6 hl7 hl8 hl9 hl10 ⟨by omega, by omega⟩ hj0 hj1 h
def PX13_weave_146 (J : Nat → List Int → gS → (Int → gS → Prop) → Prop) (l1 : Int) (l2 : Int) (l3 : Int) (l4 : Int) (l5 : Int) (l6 : Int) (l7 : Int) (l8 : Int) (l9 : Int) (l10 : Int) (s0 : Int) (G : gS) (Q : Int → gS → Prop) : Prop :=
  (inI (l9 + 1) ∧ J 0 [l1, l2, l3, l4, l5, l6, l7, s0, l9 + 1] G Q)
set_option maxRecDepth 20000 in
theorem TX13_weave_146 {j : Nat → rx_K} {J : Nat → List Int → gS → (Int → gS → Prop) → Prop} {l1 : Int} {l2 : Int} {l3 : Int} {l4 : Int} {l5 : Int} {l6 : Int} {l7 : Int} {l8 : Int} {l9 : Int} {l10 : Int} {s0 : Int} {G : gS} {Q : Int → gS → Prop} (hl1 : inI l1) (hl2 : inI l2) (hl3 : inI l3) (hl4 : inI l4) (hl5 : inI l5) (hl6 : inI l6) (hl7 : inI l7) (hl8 : inI l8) (hl9 : inI l9) (hl10 : inI l10) (hs0 : inI s0) (hj0 : ∀ (l1 : Int) (l2 : Int) (l3 : Int) (l4 : Int) (l5 : Int) (l6 : Int) (l7 : Int) (l8 : Int) (l9 : Int) (l10 : Nat) (G : gS), (inI l1) → (inI l2) → (inI l3) → (inI l4) → (inI l5) → (inI l6) → (inI l7) → (inI l8) → (inI l9) → (l10 % 8 ≠ 1) → J 0 [l1, l2, l3, l4, l5, l6, l7, l8, l9] G Q → Tg W0 (j 0) [rf (16081), cI (l1), cI (l2), cI (l3), cI (l4), cI (l5), cI (l6), cI (l7), cI (l8), cI (l9), l10] [] G (fun r G => ∃ v, r = cI v ∧ inI v ∧ Q v G)) (hj1 : ∀ (l1 : Int) (l2 : Int) (l3 : Int) (l4 : Int) (l5 : Int) (l6 : Int) (l7 : Int) (l8 : Int) (l9 : Int) (l10 : Nat) (G : gS), (inI l1) → (inI l2) → (inI l3) → (inI l4) → (inI l5) → (inI l6) → (inI l7) → (inI l8) → (inI l9) → (l10 % 8 ≠ 1) → J 1 [l1, l2, l3, l4, l5, l6, l7, l8, l9] G Q → Tg W0 (j 1) [rf (16081), cI (l1), cI (l2), cI (l3), cI (l4), cI (l5), cI (l6), cI (l7), cI (l8), cI (l9), l10] [] G (fun r G => ∃ v, r = cI v ∧ inI v ∧ Q v G)) (h : PX13_weave_146 J l1 l2 l3 l4 l5 l6 l7 l8 l9 l10 s0 G Q) : Tg W0 (vX13_weave_146 j) [rf (16081), cI (l1), cI (l2), cI (l3), cI (l4), cI (l5), cI (l6), cI (l7), cI (l8), cI (l9), cI (l10)] [cI (s0)] G (fun r G => ∃ v, r = cI v ∧ inI v ∧ Q v G) := by
  unfold PX13_weave_146 at h
  unfold vX13_weave_146
  refine g_st (lv' := [_, _, _, _, _, _, _, _, _, _, _]) (is_I _) (Nat.le_of_ble_eq_true rfl) (Or.inr (n1_I _)) rfl ?_
  refine g_inc (lv' := [_, _, _, _, _, _, _, _, _, _, _]) rfl (Nat.le_of_ble_eq_true rfl) (Or.inr (n1_I _)) rfl ?_
  obtain ⟨q51, h⟩ := h
  exact hj0 _ _ _ _ _ _ _ _ _ _ _ hl1 hl2 hl3 hl4 hl5 hl6 hl7 hs0 q51 (n1_I _) h
def PX13_weave_145 (J : Nat → List Int → gS → (Int → gS → Prop) → Prop) (l1 : Int) (l2 : Int) (l3 : Int) (l4 : Int) (l5 : Int) (l6 : Int) (l7 : Int) (l8 : Int) (l9 : Int) (l10 : Int) (G : gS) (Q : Int → gS → Prop) : Prop :=
  PX13_weave_146 J l1 l2 l3 l4 l5 l6 l7 l8 l9 l10 0 G Q
set_option maxRecDepth 20000 in
theorem TX13_weave_145 {j : Nat → rx_K} {J : Nat → List Int → gS → (Int → gS → Prop) → Prop} {l1 : Int} {l2 : Int} {l3 : Int} {l4 : Int} {l5 : Int} {l6 : Int} {l7 : Int} {l8 : Int} {l9 : Int} {l10 : Int} {G : gS} {Q : Int → gS → Prop} (hl1 : inI l1) (hl2 : inI l2) (hl3 : inI l3) (hl4 : inI l4) (hl5 : inI l5) (hl6 : inI l6) (hl7 : inI l7) (hl8 : inI l8) (hl9 : inI l9) (hl10 : inI l10) (hj0 : ∀ (l1 : Int) (l2 : Int) (l3 : Int) (l4 : Int) (l5 : Int) (l6 : Int) (l7 : Int) (l8 : Int) (l9 : Int) (l10 : Nat) (G : gS), (inI l1) → (inI l2) → (inI l3) → (inI l4) → (inI l5) → (inI l6) → (inI l7) → (inI l8) → (inI l9) → (l10 % 8 ≠ 1) → J 0 [l1, l2, l3, l4, l5, l6, l7, l8, l9] G Q → Tg W0 (j 0) [rf (16081), cI (l1), cI (l2), cI (l3), cI (l4), cI (l5), cI (l6), cI (l7), cI (l8), cI (l9), l10] [] G (fun r G => ∃ v, r = cI v ∧ inI v ∧ Q v G)) (hj1 : ∀ (l1 : Int) (l2 : Int) (l3 : Int) (l4 : Int) (l5 : Int) (l6 : Int) (l7 : Int) (l8 : Int) (l9 : Int) (l10 : Nat) (G : gS), (inI l1) → (inI l2) → (inI l3) → (inI l4) → (inI l5) → (inI l6) → (inI l7) → (inI l8) → (inI l9) → (l10 % 8 ≠ 1) → J 1 [l1, l2, l3, l4, l5, l6, l7, l8, l9] G Q → Tg W0 (j 1) [rf (16081), cI (l1), cI (l2), cI (l3), cI (l4), cI (l5), cI (l6), cI (l7), cI (l8), cI (l9), l10] [] G (fun r G => ∃ v, r = cI v ∧ inI v ∧ Q v G)) (h : PX13_weave_145 J l1 l2 l3 l4 l5 l6 l7 l8 l9 l10 G Q) : Tg W0 (vX13_weave_145 j) [rf (16081), cI (l1), cI (l2), cI (l3), cI (l4), cI (l5), cI (l6), cI (l7), cI (l8), cI (l9), cI (l10)] [] G (fun r G => ∃ v, r = cI v ∧ inI v ∧ Q v G) := by
  unfold PX13_weave_145 at h
  unfold vX13_weave_145
  refine g_const (v := cI (0)) rfl ?_
  exact TX13_weave_146 hl1 hl2 hl3 hl4 hl5 hl6 hl7 hl8 hl9 hl10 ⟨by omega, by omega⟩ hj0 hj1 h
def PX13_weave_141 (J : Nat → List Int → gS → (Int → gS → Prop) → Prop) (l1 : Int) (l2 : Int) (l3 : Int) (l4 : Int) (l5 : Int) (l6 : Int) (l7 : Int) (l8 : Int) (l9 : Int) (l10 : Int) (G : gS) (Q : Int → gS → Prop) : Prop :=
  PX13_weave_146 J l1 l2 l3 l4 l5 l6 l7 l8 l9 l10 1 G Q
set_option maxRecDepth 20000 in
theorem TX13_weave_141 {j : Nat → rx_K} {J : Nat → List Int → gS → (Int → gS → Prop) → Prop} {l1 : Int} {l2 : Int} {l3 : Int} {l4 : Int} {l5 : Int} {l6 : Int} {l7 : Int} {l8 : Int} {l9 : Int} {l10 : Int} {G : gS} {Q : Int → gS → Prop} (hl1 : inI l1) (hl2 : inI l2) (hl3 : inI l3) (hl4 : inI l4) (hl5 : inI l5) (hl6 : inI l6) (hl7 : inI l7) (hl8 : inI l8) (hl9 : inI l9) (hl10 : inI l10) (hj0 : ∀ (l1 : Int) (l2 : Int) (l3 : Int) (l4 : Int) (l5 : Int) (l6 : Int) (l7 : Int) (l8 : Int) (l9 : Int) (l10 : Nat) (G : gS), (inI l1) → (inI l2) → (inI l3) → (inI l4) → (inI l5) → (inI l6) → (inI l7) → (inI l8) → (inI l9) → (l10 % 8 ≠ 1) → J 0 [l1, l2, l3, l4, l5, l6, l7, l8, l9] G Q → Tg W0 (j 0) [rf (16081), cI (l1), cI (l2), cI (l3), cI (l4), cI (l5), cI (l6), cI (l7), cI (l8), cI (l9), l10] [] G (fun r G => ∃ v, r = cI v ∧ inI v ∧ Q v G)) (hj1 : ∀ (l1 : Int) (l2 : Int) (l3 : Int) (l4 : Int) (l5 : Int) (l6 : Int) (l7 : Int) (l8 : Int) (l9 : Int) (l10 : Nat) (G : gS), (inI l1) → (inI l2) → (inI l3) → (inI l4) → (inI l5) → (inI l6) → (inI l7) → (inI l8) → (inI l9) → (l10 % 8 ≠ 1) → J 1 [l1, l2, l3, l4, l5, l6, l7, l8, l9] G Q → Tg W0 (j 1) [rf (16081), cI (l1), cI (l2), cI (l3), cI (l4), cI (l5), cI (l6), cI (l7), cI (l8), cI (l9), l10] [] G (fun r G => ∃ v, r = cI v ∧ inI v ∧ Q v G)) (h : PX13_weave_141 J l1 l2 l3 l4 l5 l6 l7 l8 l9 l10 G Q) : Tg W0 (vX13_weave_141 j) [rf (16081), cI (l1), cI (l2), cI (l3), cI (l4), cI (l5), cI (l6), cI (l7), cI (l8), cI (l9), cI (l10)] [] G (fun r G => ∃ v, r = cI v ∧ inI v ∧ Q v G) := by
  unfold PX13_weave_141 at h
  unfold vX13_weave_141
  refine g_const (v := cI (1)) rfl ?_
  exact TX13_weave_146 hl1 hl2 hl3 hl4 hl5 hl6 hl7 hl8 hl9 hl10 ⟨by omega, by omega⟩ hj0 hj1 h
def PX13_weave_57 (J : Nat → List Int → gS → (Int → gS → Prop) → Prop) (l1 : Int) (l2 : Int) (l3 : Int) (l4 : Int) (l5 : Int) (l6 : Int) (l7 : Int) (l8 : Int) (l9 : Int) (G : gS) (Q : Int → gS → Prop) : Prop :=
  ((0 : Int) ≤ l5 ∧ ((l5 : Int) < 18 ∧ (inI (G 16097 l5) → ((l9 < G 16097 l5 → ((0 : Int) ≤ (l5 * 12) + l9 ∧ (((l5 * 12) + l9 : Int) < 216 ∧ (inL (G 16098 ((l5 * 12) + l9)) → PX13_inSlot l4 (G 16098 ((l5 * 12) + l9)) G (fun r23 G22 => inI r23 → (inI ((l5 * 12) + l9) ∧ PX13_heal ((l5 * 12) + l9) r23 (-2) G22 (fun r27 G26 => inI r27 → (inI (l7 + r27) ∧ ((l8 = 0 → ((0 < r27 → (inI ((l5 * 12) + l9) ∧ PX13_bridgesOf ((l5 * 12) + l9) G26 (fun r34 G33 => inI r34 → (inI (r34 + r27) ∧ ((12 < r34 + r27 → PX13_weave_141 J l1 l2 l3 l4 l5 l6 (l7 + r27) l8 l9 r27 G33 Q) ∧ (¬ (12 < r34 + r27) → PX13_weave_145 J l1 l2 l3 l4 l5 l6 (l7 + r27) l8 l9 r27 G33 Q)))))) ∧ (¬ (0 < r27) → PX13_weave_145 J l1 l2 l3 l4 l5 l6 (l7 + r27) l8 l9 r27 G26 Q))) ∧ (¬ (l8 = 0) → PX13_weave_141 J l1 l2 l3 l4 l5 l6 (l7 + r27) l8 l9 r27 G26 Q)))))))))) ∧ (¬ (l9 < G 16097 l5) → ((l8 = 0 → ((0 : Int) ≤ l1 ∧ ((l1 : Int) < 5 ∧ (inI (G 16089 l1) → ((G 16089 l1 = 8 → PX13_weave_179 J l1 l2 l3 l4 l5 l6 l7 l8 l9 G Q) ∧ (¬ (G 16089 l1 = 8) → (inI (G 16081 10) → ((G 16081 10 = 16 → PX13_weave_179 J l1 l2 l3 l4 l5 l6 l7 l8 l9 G Q) ∧ (¬ (G 16081 10 = 16) → PX13_weave_184 J l1 l2 l3 l4 l5 l6 l7 l8 l9 0 G Q))))))))) ∧ (¬ (l8 = 0) → PX13_weave_179 J l1 l2 l3 l4 l5 l6 l7 l8 l9 G Q)))))))
set_option maxRecDepth 20000 in
theorem TX13_weave_57 {j : Nat → rx_K} {J : Nat → List Int → gS → (Int → gS → Prop) → Prop} {l1 : Int} {l2 : Int} {l3 : Int} {l4 : Int} {l5 : Int} {l6 : Int} {l7 : Int} {l8 : Int} {l9 : Int} {l10 : Nat} {G : gS} {Q : Int → gS → Prop} (hl1 : inI l1) (hl2 : inI l2) (hl3 : inI l3) (hl4 : inI l4) (hl5 : inI l5) (hl6 : inI l6) (hl7 : inI l7) (hl8 : inI l8) (hl9 : inI l9) (hl10 : l10 % 8 ≠ 1) (hj0 : ∀ (l1 : Int) (l2 : Int) (l3 : Int) (l4 : Int) (l5 : Int) (l6 : Int) (l7 : Int) (l8 : Int) (l9 : Int) (l10 : Nat) (G : gS), (inI l1) → (inI l2) → (inI l3) → (inI l4) → (inI l5) → (inI l6) → (inI l7) → (inI l8) → (inI l9) → (l10 % 8 ≠ 1) → J 0 [l1, l2, l3, l4, l5, l6, l7, l8, l9] G Q → Tg W0 (j 0) [rf (16081), cI (l1), cI (l2), cI (l3), cI (l4), cI (l5), cI (l6), cI (l7), cI (l8), cI (l9), l10] [] G (fun r G => ∃ v, r = cI v ∧ inI v ∧ Q v G)) (hj1 : ∀ (l1 : Int) (l2 : Int) (l3 : Int) (l4 : Int) (l5 : Int) (l6 : Int) (l7 : Int) (l8 : Int) (l9 : Int) (l10 : Nat) (G : gS), (inI l1) → (inI l2) → (inI l3) → (inI l4) → (inI l5) → (inI l6) → (inI l7) → (inI l8) → (inI l9) → (l10 % 8 ≠ 1) → J 1 [l1, l2, l3, l4, l5, l6, l7, l8, l9] G Q → Tg W0 (j 1) [rf (16081), cI (l1), cI (l2), cI (l3), cI (l4), cI (l5), cI (l6), cI (l7), cI (l8), cI (l9), l10] [] G (fun r G => ∃ v, r = cI v ∧ inI v ∧ Q v G)) (h : PX13_weave_57 J l1 l2 l3 l4 l5 l6 l7 l8 l9 G Q) : Tg W0 (vX13_weave_57 j) [rf (16081), cI (l1), cI (l2), cI (l3), cI (l4), cI (l5), cI (l6), cI (l7), cI (l8), cI (l9), l10] [] G (fun r G => ∃ v, r = cI v ∧ inI v ∧ Q v G) := by
  unfold PX13_weave_57 at h
  unfold vX13_weave_57
  refine g_ld (v := cI _) rfl (is_I _) ?_
  refine g_ld (v := rf _) rfl (is_R _) ?_
  refine g_getF (v := 16097) oC13 (hC13_23) rfl (Nat.le_of_ble_eq_true rfl) (Nat.le_of_ble_eq_true rfl) ?_
  refine g_ld (v := cI _) rfl (is_I _) ?_
  obtain ⟨q15, q16, h⟩ := h
  refine g_aldI aC16097 q15 q16 rfl fun i17 => ?_
  replace h := h i17
  refine g_lt2 hl9 i17 (fun b18 => ?_) (fun b18 => ?_)
  · replace h := h.1 b18
    unfold vX13_weave_69
    refine g_ld (v := rf _) rfl (is_R _) ?_
    refine g_ld (v := cI _) rfl (is_I _) ?_
    refine g_const (v := cI (12)) rfl ?_
    refine g_mul ?_
    refine g_ld (v := cI _) rfl (is_I _) ?_
    refine g_add ?_
    refine g_ld (v := rf _) rfl (is_R _) ?_
    refine g_ld (v := cI _) rfl (is_I _) ?_
    refine g_ld (v := rf _) rfl (is_R _) ?_
    refine g_getF (v := 16098) oC13 (hC13_24) rfl (Nat.le_of_ble_eq_true rfl) (Nat.le_of_ble_eq_true rfl) ?_
    refine g_ld (v := cI _) rfl (is_I _) ?_
    refine g_const (v := cI (12)) rfl ?_
    refine g_mul ?_
    refine g_ld (v := cI _) rfl (is_I _) ?_
    refine g_add ?_
    obtain ⟨q19, q20, h⟩ := h
    refine g_aldL aC16098 q19 q20 rfl fun i21 => ?_
    replace h := h i21
    refine g_callV (As := [_, _]) (ci := 13) oC13 (fun _ => rfl) ?_
    refine g_go1 (by simp only [cs_c, cs_0, ct_I, ct_L, ct_R]; exact Nat.le_of_ble_eq_true rfl) (Tn_w (TX13_inSlot hl4 i21 h) fun _ G22 ⟨r23, e, i24, h⟩ => ?_)
    subst e
    refine ⟨n7_I _, ?_⟩
    replace h := h i24
    refine g_const (v := cI (-2)) rfl ?_
    obtain ⟨q25, h⟩ := h
    refine g_callV (As := [_, _, _]) (ci := 13) oC13 (fun _ => rfl) ?_
    refine g_go1 (Nat.le_of_ble_eq_true rfl) (Tn_w (TX13_heal q25 i24 ⟨by omega, by omega⟩ h) fun _ G26 ⟨r27, e, i28, h⟩ => ?_)
    subst e
    refine ⟨n7_I _, ?_⟩
    replace h := h i28
    refine g_st (lv' := [_, _, _, _, _, _, _, _, _, _, _]) (is_I _) (Nat.le_of_ble_eq_true rfl) (Or.inr (n1_I _)) rfl ?_
    refine g_ld (v := cI _) rfl (is_I _) ?_
    refine g_ld (v := cI _) rfl (is_I _) ?_
    refine g_add ?_
    refine g_st (lv' := [_, _, _, _, _, _, _, _, _, _, _]) (is_I _) (Nat.le_of_ble_eq_true rfl) (Or.inr (n1_I _)) rfl ?_
    obtain ⟨q29, h⟩ := h
    unfold vX13_weave_111
    refine g_ld (v := cI _) rfl (is_I _) ?_
    refine g_eq1 hl8 (fun b30 => ?_) (fun b30 => ?_)
    · replace h := h.1 b30
      unfold vX13_weave_116
      refine g_ld (v := cI _) rfl (is_I _) ?_
      refine g_gt1 i28 (fun b31 => ?_) (fun b31 => ?_)
      · replace h := h.1 b31
        unfold vX13_weave_121
        refine g_ld (v := rf _) rfl (is_R _) ?_
        refine g_ld (v := cI _) rfl (is_I _) ?_
        refine g_const (v := cI (12)) rfl ?_
        refine g_mul ?_
        refine g_ld (v := cI _) rfl (is_I _) ?_
        refine g_add ?_
        obtain ⟨q32, h⟩ := h
        refine g_callV (As := [_]) (ci := 13) oC13 (fun _ => rfl) ?_
        refine g_go1 (Nat.le_of_ble_eq_true rfl) (Tn_w (TX13_bridgesOf q32 h) fun _ G33 ⟨r34, e, i35, h⟩ => ?_)
        subst e
        refine ⟨n7_I _, ?_⟩
        replace h := h i35
        refine g_ld (v := cI _) rfl (is_I _) ?_
        refine g_add ?_
        refine g_const (v := cI (12)) rfl ?_
        obtain ⟨q36, h⟩ := h
        refine g_gt2 q36 ⟨by omega, by omega⟩ (fun b37 => ?_) (fun b37 => ?_)
        · replace h := h.1 b37
          exact TX13_weave_141 hl1 hl2 hl3 hl4 hl5 hl6 q29 hl8 hl9 i28 hj0 hj1 h
        · replace h := h.2 b37
          exact TX13_weave_145 hl1 hl2 hl3 hl4 hl5 hl6 q29 hl8 hl9 i28 hj0 hj1 h
      · replace h := h.2 b31
        exact TX13_weave_145 hl1 hl2 hl3 hl4 hl5 hl6 q29 hl8 hl9 i28 hj0 hj1 h
    · replace h := h.2 b30
      exact TX13_weave_141 hl1 hl2 hl3 hl4 hl5 hl6 q29 hl8 hl9 i28 hj0 hj1 h
  · replace h := h.2 b18
    unfold vX13_weave_154
    refine g_ld (v := cI _) rfl (is_I _) ?_
    refine g_eq1 hl8 (fun b38 => ?_) (fun b38 => ?_)
    · replace h := h.1 b38
      unfold vX13_weave_159
      refine g_ld (v := rf _) rfl (is_R _) ?_
      refine g_getF (v := 16089) oC13 (hC13_9) rfl (Nat.le_of_ble_eq_true rfl) (Nat.le_of_ble_eq_true rfl) ?_
      refine g_ld (v := cI _) rfl (is_I _) ?_
      obtain ⟨q39, q40, h⟩ := h
      refine g_aldI aC16089 q39 q40 rfl fun i41 => ?_
      replace h := h i41
      refine g_const (v := cI (8)) rfl ?_
      refine g_eq2 i41 ⟨by omega, by omega⟩ (fun b42 => ?_) (fun b42 => ?_)
      · replace h := h.1 b42
        exact TX13_weave_179 hl1 hl2 hl3 hl4 hl5 hl6 hl7 hl8 hl9 hl10 hj0 hj1 h
      · replace h := h.2 b42
        unfold vX13_weave_170
        refine g_ld (v := rf _) rfl (is_R _) ?_
        refine g_getI (kz := 10) oC13 rfl (Nat.le_of_ble_eq_true rfl) rfl fun i43 => ?_
        replace h := h i43
        refine g_const (v := cI (16)) rfl ?_
        refine g_eq2 i43 ⟨by omega, by omega⟩ (fun b44 => ?_) (fun b44 => ?_)
        · replace h := h.1 b44
          exact TX13_weave_179 hl1 hl2 hl3 hl4 hl5 hl6 hl7 hl8 hl9 hl10 hj0 hj1 h
        · replace h := h.2 b44
          unfold vX13_weave_183
          refine g_const (v := cI (0)) rfl ?_
          exact TX13_weave_184 hl1 hl2 hl3 hl4 hl5 hl6 hl7 hl8 hl9 hl10 ⟨by omega, by omega⟩ hj0 hj1 h
    · replace h := h.2 b38
      exact TX13_weave_179 hl1 hl2 hl3 hl4 hl5 hl6 hl7 hl8 hl9 hl10 hj0 hj1 h
def PX13_weave_30 (J : Nat → List Int → gS → (Int → gS → Prop) → Prop) (l1 : Int) (l2 : Int) (l3 : Int) (l4 : Int) (l5 : Int) (G : gS) (Q : Int → gS → Prop) : Prop :=
  Q (-1) G
set_option maxRecDepth 20000 in
theorem TX13_weave_30 {j : Nat → rx_K} {J : Nat → List Int → gS → (Int → gS → Prop) → Prop} {l1 : Int} {l2 : Int} {l3 : Int} {l4 : Int} {l5 : Int} {l6 : Nat} {l7 : Nat} {l8 : Nat} {l9 : Nat} {l10 : Nat} {G : gS} {Q : Int → gS → Prop} (hl1 : inI l1) (hl2 : inI l2) (hl3 : inI l3) (hl4 : inI l4) (hl5 : inI l5) (hl6 : l6 % 8 ≠ 1) (hl7 : l7 % 8 ≠ 1) (hl8 : l8 % 8 ≠ 1) (hl9 : l9 % 8 ≠ 1) (hl10 : l10 % 8 ≠ 1) (hj0 : ∀ (l1 : Int) (l2 : Int) (l3 : Int) (l4 : Int) (l5 : Int) (l6 : Int) (l7 : Int) (l8 : Int) (l9 : Int) (l10 : Nat) (G : gS), (inI l1) → (inI l2) → (inI l3) → (inI l4) → (inI l5) → (inI l6) → (inI l7) → (inI l8) → (inI l9) → (l10 % 8 ≠ 1) → J 0 [l1, l2, l3, l4, l5, l6, l7, l8, l9] G Q → Tg W0 (j 0) [rf (16081), cI (l1), cI (l2), cI (l3), cI (l4), cI (l5), cI (l6), cI (l7), cI (l8), cI (l9), l10] [] G (fun r G => ∃ v, r = cI v ∧ inI v ∧ Q v G)) (hj1 : ∀ (l1 : Int) (l2 : Int) (l3 : Int) (l4 : Int) (l5 : Int) (l6 : Int) (l7 : Int) (l8 : Int) (l9 : Int) (l10 : Nat) (G : gS), (inI l1) → (inI l2) → (inI l3) → (inI l4) → (inI l5) → (inI l6) → (inI l7) → (inI l8) → (inI l9) → (l10 % 8 ≠ 1) → J 1 [l1, l2, l3, l4, l5, l6, l7, l8, l9] G Q → Tg W0 (j 1) [rf (16081), cI (l1), cI (l2), cI (l3), cI (l4), cI (l5), cI (l6), cI (l7), cI (l8), cI (l9), l10] [] G (fun r G => ∃ v, r = cI v ∧ inI v ∧ Q v G)) (h : PX13_weave_30 J l1 l2 l3 l4 l5 G Q) : Tg W0 (vX13_weave_30 j) [rf (16081), cI (l1), cI (l2), cI (l3), cI (l4), cI (l5), l6, l7, l8, l9, l10] [] G (fun r G => ∃ v, r = cI v ∧ inI v ∧ Q v G) := by
  unfold PX13_weave_30 at h
  unfold vX13_weave_30
  refine g_const (v := cI (-1)) rfl ?_
  exact g_ret1 (is_I _) ⟨_, rfl, ⟨by omega, by omega⟩, h⟩
def PX13_weave_0 (J : Nat → List Int → gS → (Int → gS → Prop) → Prop) (a1 : Int) (a2 : Int) (a3 : Int) (G : gS) (Q : Int → gS → Prop) : Prop :=
  PX13_slotAt a1 a2 G (fun r2 G1 => inI r2 → PX13_slotAt a1 a3 G1 (fun r5 G4 => inI r5 → ((r2 = -2 → PX13_weave_30 J a1 a2 a3 r2 r5 G4 Q) ∧ (¬ (r2 = -2) → ((r5 = -2 → PX13_weave_30 J a1 a2 a3 r2 r5 G4 Q) ∧ (¬ (r5 = -2) → ((0 : Int) ≤ a1 ∧ ((a1 : Int) < 5 ∧ (inI (G4 16163 a1) → ((0 : Int) ≤ a1 ∧ ((a1 : Int) < 5 ∧ (∀ G14 : gS, G14 = uG G4 16163 a1 (r5) → PX13_weave_57 J a1 a2 a3 r2 r5 (G4 16163 a1) 0 0 0 G14 Q))))))))))))
set_option maxRecDepth 20000 in
theorem TX13_weave_0 {j : Nat → rx_K} {J : Nat → List Int → gS → (Int → gS → Prop) → Prop} {a1 : Int} {a2 : Int} {a3 : Int} {G : gS} {Q : Int → gS → Prop} (ha1 : inI a1) (ha2 : inI a2) (ha3 : inI a3) (hj0 : ∀ (l1 : Int) (l2 : Int) (l3 : Int) (l4 : Int) (l5 : Int) (l6 : Int) (l7 : Int) (l8 : Int) (l9 : Int) (l10 : Nat) (G : gS), (inI l1) → (inI l2) → (inI l3) → (inI l4) → (inI l5) → (inI l6) → (inI l7) → (inI l8) → (inI l9) → (l10 % 8 ≠ 1) → J 0 [l1, l2, l3, l4, l5, l6, l7, l8, l9] G Q → Tg W0 (j 0) [rf (16081), cI (l1), cI (l2), cI (l3), cI (l4), cI (l5), cI (l6), cI (l7), cI (l8), cI (l9), l10] [] G (fun r G => ∃ v, r = cI v ∧ inI v ∧ Q v G)) (hj1 : ∀ (l1 : Int) (l2 : Int) (l3 : Int) (l4 : Int) (l5 : Int) (l6 : Int) (l7 : Int) (l8 : Int) (l9 : Int) (l10 : Nat) (G : gS), (inI l1) → (inI l2) → (inI l3) → (inI l4) → (inI l5) → (inI l6) → (inI l7) → (inI l8) → (inI l9) → (l10 % 8 ≠ 1) → J 1 [l1, l2, l3, l4, l5, l6, l7, l8, l9] G Q → Tg W0 (j 1) [rf (16081), cI (l1), cI (l2), cI (l3), cI (l4), cI (l5), cI (l6), cI (l7), cI (l8), cI (l9), l10] [] G (fun r G => ∃ v, r = cI v ∧ inI v ∧ Q v G)) (h : PX13_weave_0 J a1 a2 a3 G Q) : Tg W0 (vX13_weave_0 j) [rf (16081), cI (a1), cI (a2), cI (a3), 7, 7, 7, 7, 7, 7, 7] [] G (fun r G => ∃ v, r = cI v ∧ inI v ∧ Q v G) := by
  unfold PX13_weave_0 at h
  unfold vX13_weave_0
  refine g_ld (v := rf _) rfl (is_R _) ?_
  refine g_ld (v := cI _) rfl (is_I _) ?_
  refine g_ld (v := cI _) rfl (is_I _) ?_
  refine g_callV (As := [_, _]) (ci := 13) oC13 (fun _ => rfl) ?_
  refine g_go1 (Nat.le_of_ble_eq_true rfl) (Tn_w (TX13_slotAt ha1 ha2 h) fun _ G1 ⟨r2, e, i3, h⟩ => ?_)
  subst e
  refine ⟨n7_I _, ?_⟩
  replace h := h i3
  refine g_st (lv' := [_, _, _, _, _, _, _, _, _, _, _]) (is_I _) (Nat.le_of_ble_eq_true rfl) (Or.inr (n1_I _)) rfl ?_
  refine g_ld (v := rf _) rfl (is_R _) ?_
  refine g_ld (v := cI _) rfl (is_I _) ?_
  refine g_ld (v := cI _) rfl (is_I _) ?_
  refine g_callV (As := [_, _]) (ci := 13) oC13 (fun _ => rfl) ?_
  refine g_go1 (Nat.le_of_ble_eq_true rfl) (Tn_w (TX13_slotAt ha1 ha3 h) fun _ G4 ⟨r5, e, i6, h⟩ => ?_)
  subst e
  refine ⟨n7_I _, ?_⟩
  replace h := h i6
  refine g_st (lv' := [_, _, _, _, _, _, _, _, _, _, _]) (is_I _) (Nat.le_of_ble_eq_true rfl) (Or.inr (n1_I _)) rfl ?_
  refine g_ld (v := cI _) rfl (is_I _) ?_
  refine g_const (v := cI (-2)) rfl ?_
  refine g_eq2 i3 ⟨by omega, by omega⟩ (fun b7 => ?_) (fun b7 => ?_)
  · replace h := h.1 b7
    exact TX13_weave_30 ha1 ha2 ha3 i3 i6 (show 7 % 8 ≠ 1 by decide) (show 7 % 8 ≠ 1 by decide) (show 7 % 8 ≠ 1 by decide) (show 7 % 8 ≠ 1 by decide) (show 7 % 8 ≠ 1 by decide) hj0 hj1 h
  · replace h := h.2 b7
    unfold vX13_weave_23
    refine g_ld (v := cI _) rfl (is_I _) ?_
    refine g_const (v := cI (-2)) rfl ?_
    refine g_eq2 i6 ⟨by omega, by omega⟩ (fun b8 => ?_) (fun b8 => ?_)
    · replace h := h.1 b8
      exact TX13_weave_30 ha1 ha2 ha3 i3 i6 (show 7 % 8 ≠ 1 by decide) (show 7 % 8 ≠ 1 by decide) (show 7 % 8 ≠ 1 by decide) (show 7 % 8 ≠ 1 by decide) (show 7 % 8 ≠ 1 by decide) hj0 hj1 h
    · replace h := h.2 b8
      unfold vX13_weave_32
      refine g_ld (v := rf _) rfl (is_R _) ?_
      refine g_getF (v := 16163) oC13 (hC13_90) rfl (Nat.le_of_ble_eq_true rfl) (Nat.le_of_ble_eq_true rfl) ?_
      refine g_ld (v := cI _) rfl (is_I _) ?_
      obtain ⟨q9, q10, h⟩ := h
      refine g_aldI aC16163 q9 q10 rfl fun i11 => ?_
      replace h := h i11
      refine g_st (lv' := [_, _, _, _, _, _, _, _, _, _, _]) (is_I _) (Nat.le_of_ble_eq_true rfl) (Or.inr (n1_I _)) rfl ?_
      refine g_ld (v := rf _) rfl (is_R _) ?_
      refine g_getF (v := 16163) oC13 (hC13_90) rfl (Nat.le_of_ble_eq_true rfl) (Nat.le_of_ble_eq_true rfl) ?_
      refine g_ld (v := cI _) rfl (is_I _) ?_
      refine g_ld (v := cI _) rfl (is_I _) ?_
      obtain ⟨q12, q13, h⟩ := h
      refine g_astI aC16163 q12 q13 i6 (nfI aC16163) ?_
      replace h := h _ rfl
      refine g_const (v := cI (0)) rfl ?_
      refine g_st (lv' := [_, _, _, _, _, _, _, _, _, _, _]) (is_I _) (Nat.le_of_ble_eq_true rfl) (Or.inr (n1_I _)) rfl ?_
      refine g_const (v := cI (0)) rfl ?_
      refine g_st (lv' := [_, _, _, _, _, _, _, _, _, _, _]) (is_I _) (Nat.le_of_ble_eq_true rfl) (Or.inr (n1_I _)) rfl ?_
      refine g_const (v := cI (0)) rfl ?_
      refine g_st (lv' := [_, _, _, _, _, _, _, _, _, _, _]) (is_I _) (Nat.le_of_ble_eq_true rfl) (Or.inr (n1_I _)) rfl ?_
      exact TX13_weave_57 ha1 ha2 ha3 i3 i6 i11 ⟨by omega, by omega⟩ ⟨by omega, by omega⟩ ⟨by omega, by omega⟩ (show 7 % 8 ≠ 1 by decide) hj0 hj1 h
def PX13_weave_J : Nat → Nat → List Int → gS → (Int → gS → Prop) → Prop
  | 0, _, _, _, _ => False
  | f + 1, h, L, G, Q => match h, L with
    | 0, [l1, l2, l3, l4, l5, l6, l7, l8, l9] => PX13_weave_57 (PX13_weave_J f) l1 l2 l3 l4 l5 l6 l7 l8 l9 G Q
    | 1, [l1, l2, l3, l4, l5, l6, l7, l8, l9] => PX13_weave_235 (PX13_weave_J f) l1 l2 l3 l4 l5 l6 l7 l8 l9 G Q
    | _, _ => False
theorem TX13_weave_J {Q : Int → gS → Prop} : ∀ f N : Nat, f ≤ N → (∀ (l1 : Int) (l2 : Int) (l3 : Int) (l4 : Int) (l5 : Int) (l6 : Int) (l7 : Int) (l8 : Int) (l9 : Int) (l10 : Nat) (G : gS), (inI l1) → (inI l2) → (inI l3) → (inI l4) → (inI l5) → (inI l6) → (inI l7) → (inI l8) → (inI l9) → (l10 % 8 ≠ 1) → (PX13_weave_J f) 0 [l1, l2, l3, l4, l5, l6, l7, l8, l9] G Q → Tg W0 (rx_J vhX13_weave N 0) [rf (16081), cI (l1), cI (l2), cI (l3), cI (l4), cI (l5), cI (l6), cI (l7), cI (l8), cI (l9), l10] [] G (fun r G => ∃ v, r = cI v ∧ inI v ∧ Q v G)) ∧ (∀ (l1 : Int) (l2 : Int) (l3 : Int) (l4 : Int) (l5 : Int) (l6 : Int) (l7 : Int) (l8 : Int) (l9 : Int) (l10 : Nat) (G : gS), (inI l1) → (inI l2) → (inI l3) → (inI l4) → (inI l5) → (inI l6) → (inI l7) → (inI l8) → (inI l9) → (l10 % 8 ≠ 1) → (PX13_weave_J f) 1 [l1, l2, l3, l4, l5, l6, l7, l8, l9] G Q → Tg W0 (rx_J vhX13_weave N 1) [rf (16081), cI (l1), cI (l2), cI (l3), cI (l4), cI (l5), cI (l6), cI (l7), cI (l8), cI (l9), l10] [] G (fun r G => ∃ v, r = cI v ∧ inI v ∧ Q v G)) := by
  intro f
  induction f with
  | zero => exact fun N _ => ⟨fun _ _ _ _ _ _ _ _ _ _ _ _ _ _ _ _ _ _ _ _ _ h => h.elim, fun _ _ _ _ _ _ _ _ _ _ _ _ _ _ _ _ _ _ _ _ _ h => h.elim⟩
  | succ f ih =>
    intro N hN
    obtain ⟨M, rfl⟩ : ∃ M, N = M + 1 := ⟨N - 1, by omega⟩
    have ih := ih M (by omega)
    exact ⟨fun _ _ _ _ _ _ _ _ _ _ _ hl1 hl2 hl3 hl4 hl5 hl6 hl7 hl8 hl9 hl10 h => show Tg W0 (vX13_weave_57 (rx_J vhX13_weave M)) _ _ _ _ from TX13_weave_57 hl1 hl2 hl3 hl4 hl5 hl6 hl7 hl8 hl9 hl10 ih.1 ih.2 h, fun _ _ _ _ _ _ _ _ _ _ _ hl1 hl2 hl3 hl4 hl5 hl6 hl7 hl8 hl9 hl10 h => show Tg W0 (vX13_weave_235 (rx_J vhX13_weave M)) _ _ _ _ from TX13_weave_235 hl1 hl2 hl3 hl4 hl5 hl6 hl7 hl8 hl9 hl10 ih.1 ih.2 h⟩
def PX13_weave (a1 : Int) (a2 : Int) (a3 : Int) (G : gS) (Q : Int → gS → Prop) : Prop := ∃ f : Nat, f ≤ 4000000000 ∧ PX13_weave_0 (PX13_weave_J f) a1 a2 a3 G Q
theorem TX13_weave {a1 : Int} {a2 : Int} {a3 : Int} {G : gS} {Q : Int → gS → Prop} (ha1 : inI a1) (ha2 : inI a2) (ha3 : inI a3) (h : PX13_weave a1 a2 a3 G Q) : Tn W0 FX13_weave [rf (16081), cI (a1), cI (a2), cI (a3)] G (fun r G => ∃ v, r = cI v ∧ inI v ∧ Q v G) := by
  obtain ⟨f, hf, h⟩ := h
  have hJ := TX13_weave_J (Q := Q) f 4000000000 hf
  unfold FX13_weave
  refine g_ent (lv' := [rf (16081), cI (a1), cI (a2), cI (a3), 7, 7, 7, 7, 7, 7, 7]) (flR (flI (flI (flI fl0)))) (Nat.le_of_ble_eq_true rfl) rfl ?_
  exact TX13_weave_0 ha1 ha2 ha3 hJ.1 hJ.2 h
end DE

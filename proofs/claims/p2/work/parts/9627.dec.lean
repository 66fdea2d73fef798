section DE
def PX13_findAbove_63 (J : Nat → List Int → gS → (Int → gS → Prop) → Prop) (l1 : Int) (l2 : Int) (l3 : Int) (l4 : Int) (l5 : Int) (G : gS) (Q : Int → gS → Prop) : Prop :=
  ((l5 < l4 → ((0 : Int) ≤ l5 ∧ ((l5 : Int) < 216 ∧ (inI (G 16171 l5) → PX13_aboveIn (G 16171 l5) l1 l2 G (fun _ G22 => (inI (l5 + 1) ∧ J 1 [l1, l2, l3, l4, l5 + 1] G22 Q)))))) ∧ (¬ (l5 < l4) → Q 0 G))
set_option maxRecDepth 20000 in
theorem TX13_findAbove_63 {j : Nat → rx_K} {J : Nat → List Int → gS → (Int → gS → Prop) → Prop} {l1 : Int} {l2 : Int} {l3 : Int} {l4 : Int} {l5 : Int} {G : gS} {Q : Int → gS → Prop} (hl1 : inI l1) (hl2 : inI l2) (hl3 : inI l3) (hl4 : inI l4) (hl5 : inI l5) (hj0 : ∀ (l1 : Int) (l2 : Int) (l3 : Int) (l4 : Int) (l5 : Nat) (G : gS), (inI l1) → (inI l2) → (inI l3) → (inI l4) → (l5 % 8 ≠ 1) → J 0 [l1, l2, l3, l4] G Q → Tg W0 (j 0) [rf (16081), cI (l1), cI (l2), cI (l3), cI (l4), l5] [] G (fun r G => r = 7 ∧ Q 0 G)) (hj1 : ∀ (l1 : Int) (l2 : Int) (l3 : Int) (l4 : Int) (l5 : Int) (G : gS), (inI l1) → (inI l2) → (inI l3) → (inI l4) → (inI l5) → J 1 [l1, l2, l3, l4, l5] G Q → Tg W0 (j 1) [rf (16081), cI (l1), cI (l2), cI (l3), cI (l4), cI (l5)] [] G (fun r G => r = 7 ∧ Q 0 G)) (h : PX13_findAbove_63 J l1 l2 l3 l4 l5 G Q) : Tg W0 (vX13_findAbove_63 j) [rf (16081), cI (l1), cI (l2), cI (l3), cI (l4), cI (l5)] [] G (fun r G => r = 7 ∧ Q 0 G) := by
  unfold PX13_findAbove_63 at h
  unfold vX13_findAbove_63
  refine g_ld (v := cI _) rfl (is_I _) ?_
  refine g_ld (v := cI _) rfl (is_I _) ?_
  refine g_lt2 hl5 hl4 (fun b18 => ?_) (fun b18 => ?_)
  · replace h := h.1 b18
    unfold vX13_findAbove_70
    refine g_ld (v := rf _) rfl (is_R _) ?_
    refine g_ld (v := rf _) rfl (is_R _) ?_
    refine g_getF (v := 16171) oC13 (hC13_105) rfl (Nat.le_of_ble_eq_true rfl) (Nat.le_of_ble_eq_true rfl) ?_
    refine g_ld (v := cI _) rfl (is_I _) ?_
    obtain ⟨q19, q20, h⟩ := h
    refine g_aldI aC16171 q19 q20 rfl fun i21 => ?_
    replace h := h i21
    refine g_ld (v := cI _) rfl (is_I _) ?_
    refine g_ld (v := cI _) rfl (is_I _) ?_
    refine g_callV (As := [_, _, _]) (ci := 13) oC13 (fun _ => rfl) ?_
    refine g_go0 (Nat.le_of_ble_eq_true rfl) (Tn_w (TX13_aboveIn i21 hl1 hl2 h) fun _ G22 ⟨e, h⟩ => ⟨e, ?_⟩)
    refine g_inc (lv' := [_, _, _, _, _, _]) rfl (Nat.le_of_ble_eq_true rfl) (Or.inr (n1_I _)) rfl ?_
    obtain ⟨q24, h⟩ := h
    exact hj1 _ _ _ _ _ _ hl1 hl2 hl3 hl4 q24 h
  · replace h := h.2 b18
    unfold vX13_findAbove_89
    exact g_ret0 ⟨rfl, h⟩
def PX13_findAbove_24 (J : Nat → List Int → gS → (Int → gS → Prop) → Prop) (l1 : Int) (l2 : Int) (l3 : Int) (l4 : Int) (G : gS) (Q : Int → gS → Prop) : Prop :=
  ((l4 < l3 → ((0 : Int) ≤ l4 ∧ ((l4 : Int) < 216 ∧ (inI (G 16171 l4) → PX13_aboveIn (G 16171 l4) l1 l2 G (fun _ G12 => (inI (l4 + 1) ∧ J 0 [l1, l2, l3, l4 + 1] G12 Q)))))) ∧ (¬ (l4 < l3) → PX13_allFaces l2 16171 G (fun r16 G15 => inI r16 → PX13_findAbove_63 J l1 l2 l3 r16 0 G15 Q)))
set_option maxRecDepth 20000 in
theorem TX13_findAbove_24 {j : Nat → rx_K} {J : Nat → List Int → gS → (Int → gS → Prop) → Prop} {l1 : Int} {l2 : Int} {l3 : Int} {l4 : Int} {l5 : Nat} {G : gS} {Q : Int → gS → Prop} (hl1 : inI l1) (hl2 : inI l2) (hl3 : inI l3) (hl4 : inI l4) (hl5 : l5 % 8 ≠ 1) (hj0 : ∀ (l1 : Int) (l2 : Int) (l3 : Int) (l4 : Int) (l5 : Nat) (G : gS), (inI l1) → (inI l2) → (inI l3) → (inI l4) → (l5 % 8 ≠ 1) → J 0 [l1, l2, l3, l4] G Q → Tg W0 (j 0) [rf (16081), cI (l1), cI (l2), cI (l3), cI (l4), l5] [] G (fun r G => r = 7 ∧ Q 0 G)) (hj1 : ∀ (l1 : Int) (l2 : Int) (l3 : Int) (l4 : Int) (l5 : Int) (G : gS), (inI l1) → (inI l2) → (inI l3) → (inI l4) → (inI l5) → J 1 [l1, l2, l3, l4, l5] G Q → Tg W0 (j 1) [rf (16081), cI (l1), cI (l2), cI (l3), cI (l4), cI (l5)] [] G (fun r G => r = 7 ∧ Q 0 G)) (h : PX13_findAbove_24 J l1 l2 l3 l4 G Q) : Tg W0 (vX13_findAbove_24 j) [rf (16081), cI (l1), cI (l2), cI (l3), cI (l4), l5] [] G (fun r G => r = 7 ∧ Q 0 G) := by
  unfold PX13_findAbove_24 at h
  unfold vX13_findAbove_24
  refine g_ld (v := cI _) rfl (is_I _) ?_
  refine g_ld (v := cI _) rfl (is_I _) ?_
  refine g_lt2 hl4 hl3 (fun b8 => ?_) (fun b8 => ?_)
  · replace h := h.1 b8
    unfold vX13_findAbove_30
    refine g_ld (v := rf _) rfl (is_R _) ?_
    refine g_ld (v := rf _) rfl (is_R _) ?_
    refine g_getF (v := 16171) oC13 (hC13_105) rfl (Nat.le_of_ble_eq_true rfl) (Nat.le_of_ble_eq_true rfl) ?_
    refine g_ld (v := cI _) rfl (is_I _) ?_
    obtain ⟨q9, q10, h⟩ := h
    refine g_aldI aC16171 q9 q10 rfl fun i11 => ?_
    replace h := h i11
    refine g_ld (v := cI _) rfl (is_I _) ?_
    refine g_ld (v := cI _) rfl (is_I _) ?_
    refine g_callV (As := [_, _, _]) (ci := 13) oC13 (fun _ => rfl) ?_
    refine g_go0 (Nat.le_of_ble_eq_true rfl) (Tn_w (TX13_aboveIn i11 hl1 hl2 h) fun _ G12 ⟨e, h⟩ => ⟨e, ?_⟩)
    refine g_inc (lv' := [_, _, _, _, _, _]) rfl (Nat.le_of_ble_eq_true rfl) (Or.inr (n1_I _)) rfl ?_
    obtain ⟨q14, h⟩ := h
    exact hj0 _ _ _ _ _ _ hl1 hl2 hl3 q14 hl5 h
  · replace h := h.2 b8
    unfold vX13_findAbove_49
    refine g_ld (v := rf _) rfl (is_R _) ?_
    refine g_ld (v := cI _) rfl (is_I _) ?_
    refine g_ld (v := rf _) rfl (is_R _) ?_
    refine g_getF (v := 16171) oC13 (hC13_105) rfl (Nat.le_of_ble_eq_true rfl) (Nat.le_of_ble_eq_true rfl) ?_
    refine g_callV (As := [_, _]) (ci := 13) oC13 (fun _ => rfl) ?_
    refine g_go1 (Nat.le_of_ble_eq_true rfl) (Tn_w (TX13_allFaces hl2 h) fun _ G15 ⟨r16, e, i17, h⟩ => ?_)
    subst e
    refine ⟨n7_I _, ?_⟩
    replace h := h i17
    refine g_st (lv' := [_, _, _, _, _, _]) (is_I _) (Nat.le_of_ble_eq_true rfl) (Or.inr (n1_I _)) rfl ?_
    refine g_const (v := cI (0)) rfl ?_
    refine g_st (lv' := [_, _, _, _, _, _]) (is_I _) (Nat.le_of_ble_eq_true rfl) (Or.inr (n1_I _)) rfl ?_
    exact TX13_findAbove_63 hl1 hl2 hl3 i17 ⟨by omega, by omega⟩ hj0 hj1 h
def PX13_findAbove_0 (J : Nat → List Int → gS → (Int → gS → Prop) → Prop) (a1 : Int) (G : gS) (Q : Int → gS → Prop) : Prop :=
  PX13_classOfMember a1 G (fun r2 G1 => inI r2 → (∀ G4 : gS, G4 = uG G1 16081 104 (0) → PX13_parents r2 16171 G4 (fun r6 G5 => inI r6 → PX13_findAbove_24 J a1 r2 r6 1 G5 Q)))
set_option maxRecDepth 20000 in
theorem TX13_findAbove_0 {j : Nat → rx_K} {J : Nat → List Int → gS → (Int → gS → Prop) → Prop} {a1 : Int} {G : gS} {Q : Int → gS → Prop} (ha1 : inI a1) (hj0 : ∀ (l1 : Int) (l2 : Int) (l3 : Int) (l4 : Int) (l5 : Nat) (G : gS), (inI l1) → (inI l2) → (inI l3) → (inI l4) → (l5 % 8 ≠ 1) → J 0 [l1, l2, l3, l4] G Q → Tg W0 (j 0) [rf (16081), cI (l1), cI (l2), cI (l3), cI (l4), l5] [] G (fun r G => r = 7 ∧ Q 0 G)) (hj1 : ∀ (l1 : Int) (l2 : Int) (l3 : Int) (l4 : Int) (l5 : Int) (G : gS), (inI l1) → (inI l2) → (inI l3) → (inI l4) → (inI l5) → J 1 [l1, l2, l3, l4, l5] G Q → Tg W0 (j 1) [rf (16081), cI (l1), cI (l2), cI (l3), cI (l4), cI (l5)] [] G (fun r G => r = 7 ∧ Q 0 G)) (h : PX13_findAbove_0 J a1 G Q) : Tg W0 (vX13_findAbove_0 j) [rf (16081), cI (a1), 7, 7, 7, 7] [] G (fun r G => r = 7 ∧ Q 0 G) := by
  unfold PX13_findAbove_0 at h
  unfold vX13_findAbove_0
  refine g_ld (v := rf _) rfl (is_R _) ?_
  refine g_ld (v := cI _) rfl (is_I _) ?_
  refine g_callV (As := [_]) (ci := 13) oC13 (fun _ => rfl) ?_
  refine g_go1 (Nat.le_of_ble_eq_true rfl) (Tn_w (TX13_classOfMember ha1 h) fun _ G1 ⟨r2, e, i3, h⟩ => ?_)
  subst e
  refine ⟨n7_I _, ?_⟩
  replace h := h i3
  refine g_st (lv' := [_, _, _, _, _, _]) (is_I _) (Nat.le_of_ble_eq_true rfl) (Or.inr (n1_I _)) rfl ?_
  refine g_ld (v := rf _) rfl (is_R _) ?_
  refine g_const (v := cI (0)) rfl ?_
  refine g_putI (kz := 104) oC13 rfl (Nat.le_of_ble_eq_true rfl) rfl ⟨by omega, by omega⟩ (zfin_no (c := 16081) (j := 104) rfl) ?_
  replace h := h _ rfl
  refine g_ld (v := rf _) rfl (is_R _) ?_
  refine g_ld (v := cI _) rfl (is_I _) ?_
  refine g_ld (v := rf _) rfl (is_R _) ?_
  refine g_getF (v := 16171) oC13 (hC13_105) rfl (Nat.le_of_ble_eq_true rfl) (Nat.le_of_ble_eq_true rfl) ?_
  refine g_callV (As := [_, _]) (ci := 13) oC13 (fun _ => rfl) ?_
  refine g_go1 (Nat.le_of_ble_eq_true rfl) (Tn_w (TX13_parents i3 h) fun _ G5 ⟨r6, e, i7, h⟩ => ?_)
  subst e
  refine ⟨n7_I _, ?_⟩
  replace h := h i7
  refine g_st (lv' := [_, _, _, _, _, _]) (is_I _) (Nat.le_of_ble_eq_true rfl) (Or.inr (n1_I _)) rfl ?_
  refine g_const (v := cI (1)) rfl ?_
  refine g_st (lv' := [_, _, _, _, _, _]) (is_I _) (Nat.le_of_ble_eq_true rfl) (Or.inr (n1_I _)) rfl ?_
  exact TX13_findAbove_24 ha1 i3 i7 ⟨by omega, by omega⟩ (show 7 % 8 ≠ 1 by decide) hj0 hj1 h
def PX13_findAbove_J : Nat → Nat → List Int → gS → (Int → gS → Prop) → Prop
  | 0, _, _, _, _ => False
  | f + 1, h, L, G, Q => match h, L with
    | 0, [l1, l2, l3, l4] => PX13_findAbove_24 (PX13_findAbove_J f) l1 l2 l3 l4 G Q
    | 1, [l1, l2, l3, l4, l5] => PX13_findAbove_63 (PX13_findAbove_J f) l1 l2 l3 l4 l5 G Q
    | _, _ => False
theorem TX13_findAbove_J {Q : Int → gS → Prop} : ∀ f N : Nat, f ≤ N → (∀ (l1 : Int) (l2 : Int) (l3 : Int) (l4 : Int) (l5 : Nat) (G : gS), (inI l1) → (inI l2) → (inI l3) → (inI l4) → (l5 % 8 ≠ 1) → (PX13_findAbove_J f) 0 [l1, l2, l3, l4] G Q → Tg W0 (rx_J vhX13_findAbove N 0) [rf (16081), cI (l1), cI (l2), cI (l3), cI (l4), l5] [] G (fun r G => r = 7 ∧ Q 0 G)) ∧ (∀ (l1 : Int) (l2 : Int) (l3 : Int) (l4 : Int) (l5 : Int) (G : gS), (inI l1) → (inI l2) → (inI l3) → (inI l4) → (inI l5) → (PX13_findAbove_J f) 1 [l1, l2, l3, l4, l5] G Q → Tg W0 (rx_J vhX13_findAbove N 1) [rf (16081), cI (l1), cI (l2), cI (l3), cI (l4), cI (l5)] [] G (fun r G => r = 7 ∧ Q 0 G)) := by
  intro f
  induction f with
  | zero => exact fun N _ => ⟨fun _ _ _ _ _ _ _ _ _ _ _ h => h.elim, fun _ _ _ _ _ _ _ _ _ _ _ h => h.elim⟩
  | succ f ih =>
    intro N hN
    obtain ⟨M, rfl⟩ : ∃ M, N = M + 1 := ⟨N - 1, by omega⟩
    have ih := ih M (by omega)
    exact ⟨fun _ _ _ _ _ _ hl1 hl2 hl3 hl4 hl5 h => show Tg W0 (vX13_findAbove_24 (rx_J vhX13_findAbove M)) _ _ _ _ from TX13_findAbove_24 hl1 hl2 hl3 hl4 hl5 ih.1 ih.2 h, fun _ _ _ _ _ _ hl1 hl2 hl3 hl4 hl5 h => show Tg W0 (vX13_findAbove_63 (rx_J vhX13_findAbove M)) _ _ _ _ from TX13_findAbove_63 hl1 hl2 hl3 hl4 hl5 ih.1 ih.2 h⟩
def PX13_findAbove (a1 : Int) (G : gS) (Q : Int → gS → Prop) : Prop := ∃ f : Nat, f ≤ 4000000000 ∧ PX13_findAbove_0 (PX13_findAbove_J f) a1 G Q
theorem TX13_findAbove {a1 : Int} {G : gS} {Q : Int → gS → Prop} (ha1 : inI a1) (h : PX13_findAbove a1 G Q) : Tn W0 FX13_findAbove [rf (16081), cI (a1)] G (fun r G => r = 7 ∧ Q 0 G) := by
  obtain ⟨f, hf, h⟩ := h
  have hJ := TX13_findAbove_J (Q := Q) f 4000000000 hf
  unfold FX13_findAbove
  refine g_ent (lv' := [rf (16081), cI (a1), 7, 7, 7, 7]) (flR (flI fl0)) (Nat.le_of_ble_eq_true rfl) rfl ?_
  exact TX13_findAbove_0 ha1 hJ.1 hJ.2 h
def PX13_isAgainst_90 (l1 : Int) (l2 : Int) (s0 : Int) (G : gS) (Q : Int → gS → Prop) : Prop :=
  ((0 ≤ s0 ∧ s0 ≤ 1) ∧ Q (s0) G)
set_option maxRecDepth 20000 in
theorem TX13_isAgainst_90 {l1 : Int} {l2 : Int} {s0 : Int} {G : gS} {Q : Int → gS → Prop} (hl1 : inI l1) (hl2 : inI l2) (hs0 : inI s0) (h : PX13_isAgainst_90 l1 l2 s0 G Q) : Tg W0 vX13_isAgainst_90 [rf (16081), cI (l1), cI (l2)] [cI (s0)] G (fun r G => ∃ v, r = cI v ∧ (0 ≤ v ∧ v ≤ 1) ∧ Q v G) := by
  unfold PX13_isAgainst_90 at h
  unfold vX13_isAgainst_90
  obtain ⟨q40, h⟩ := h
  exact g_ret1 (is_Z q40) ⟨_, rfl, q40, h⟩
def PX13_isAgainst_89 (l1 : Int) (l2 : Int) (G : gS) (Q : Int → gS → Prop) : Prop :=
  PX13_isAgainst_90 l1 l2 0 G Q
set_option maxRecDepth 20000 in
theorem TX13_isAgainst_89 {l1 : Int} {l2 : Int} {G : gS} {Q : Int → gS → Prop} (hl1 : inI l1) (hl2 : inI l2) (h : PX13_isAgainst_89 l1 l2 G Q) : Tg W0 vX13_isAgainst_89 [rf (16081), cI (l1), cI (l2)] [] G (fun r G => ∃ v, r = cI v ∧ (0 ≤ v ∧ v ≤ 1) ∧ Q v G) := by
  unfold PX13_isAgainst_89 at h
  unfold vX13_isAgainst_89
  refine g_const (v := cI (0)) rfl ?_
  exact TX13_isAgainst_90 hl1 hl2 ⟨by omega, by omega⟩ h
def PX13_isAgainst_85 (l1 : Int) (l2 : Int) (G : gS) (Q : Int → gS → Prop) : Prop :=
  PX13_isAgainst_90 l1 l2 1 G Q
set_option maxRecDepth 20000 in
theorem TX13_isAgainst_85 {l1 : Int} {l2 : Int} {G : gS} {Q : Int → gS → Prop} (hl1 : inI l1) (hl2 : inI l2) (h : PX13_isAgainst_85 l1 l2 G Q) : Tg W0 vX13_isAgainst_85 [rf (16081), cI (l1), cI (l2)] [] G (fun r G => ∃ v, r = cI v ∧ (0 ≤ v ∧ v ≤ 1) ∧ Q v G) := by
  unfold PX13_isAgainst_85 at h
  unfold vX13_isAgainst_85
  refine g_const (v := cI (1)) rfl ?_
  exact TX13_isAgainst_90 hl1 hl2 ⟨by omega, by omega⟩ h
def PX13_isAgainst_0 (a1 : Int) (a2 : Int) (G : gS) (Q : Int → gS → Prop) : Prop :=
  ((0 : Int) ≤ a1 ∧ ((a1 : Int) < 7344 ∧ ((0 ≤ G 16119 a1 ∧ G 16119 a1 ≤ 1) → ((0 : Int) ≤ a2 ∧ ((a2 : Int) < 7344 ∧ ((0 ≤ G 16119 a2 ∧ G 16119 a2 ≤ 1) → ((G 16119 a1 = G 16119 a2 → ((0 : Int) ≤ a1 ∧ ((a1 : Int) < 7344 ∧ ((0 ≤ G 16119 a1 ∧ G 16119 a1 ≤ 1) → ((G 16119 a1 = 0 → ((0 : Int) ≤ a2 ∧ ((a2 : Int) < 7344 ∧ ((0 ≤ G 16120 a2 ∧ G 16120 a2 ≤ 1) → ((G 16120 a2 = 0 → ((0 : Int) ≤ a2 ∧ ((a2 : Int) < 7344 ∧ (inI (G 16118 a2) → ((0 : Int) ≤ a1 ∧ ((a1 : Int) < 7344 ∧ (inI (G 16118 a1) → ((G 16118 a1 < G 16118 a2 → PX13_isAgainst_85 a1 a2 G Q) ∧ (¬ (G 16118 a1 < G 16118 a2) → ((0 : Int) ≤ a2 ∧ ((a2 : Int) < 7344 ∧ (inL (G 16127 a2) → ((0 : Int) ≤ a1 ∧ ((a1 : Int) < 7344 ∧ (inL (G 16127 a1) → ((G 16127 a2 = G 16127 a1 → PX13_isAgainst_89 a1 a2 G Q) ∧ (¬ (G 16127 a2 = G 16127 a1) → ((0 : Int) ≤ a1 ∧ ((a1 : Int) < 7344 ∧ (inL (G 16127 a1) → ((0 : Int) ≤ a2 ∧ ((a2 : Int) < 7344 ∧ (inL (G 16127 a2) → PX13_fits (G 16127 a1) (G 16127 a2) G (fun r37 G36 => (0 ≤ r37 ∧ r37 ≤ 1) → ((r37 = 0 → PX13_isAgainst_85 a1 a2 G36 Q) ∧ (¬ (r37 = 0) → PX13_isAgainst_89 a1 a2 G36 Q)))))))))))))))))))))))))) ∧ (¬ (G 16120 a2 = 0) → PX13_isAgainst_85 a1 a2 G Q)))))) ∧ (¬ (G 16119 a1 = 0) → PX13_isAgainst_89 a1 a2 G Q)))))) ∧ (¬ (G 16119 a1 = G 16119 a2) → Q (1) G))))))))
set_option maxRecDepth 20000 in
theorem TX13_isAgainst_0 {a1 : Int} {a2 : Int} {G : gS} {Q : Int → gS → Prop} (ha1 : inI a1) (ha2 : inI a2) (h : PX13_isAgainst_0 a1 a2 G Q) : Tg W0 vX13_isAgainst_0 [rf (16081), cI (a1), cI (a2)] [] G (fun r G => ∃ v, r = cI v ∧ (0 ≤ v ∧ v ≤ 1) ∧ Q v G) := by
  unfold PX13_isAgainst_0 at h
  unfold vX13_isAgainst_0
  refine g_ld (v := rf _) rfl (is_R _) ?_
  refine g_getF (v := 16119) oC13 (hC13_45) rfl (Nat.le_of_ble_eq_true rfl) (Nat.le_of_ble_eq_true rfl) ?_
  refine g_ld (v := cI _) rfl (is_I _) ?_
  obtain ⟨q1, q2, h⟩ := h
  refine g_aldZ aC16119 q1 q2 rfl fun i3 => ?_
  replace h := h i3
  refine g_ld (v := rf _) rfl (is_R _) ?_
  refine g_getF (v := 16119) oC13 (hC13_45) rfl (Nat.le_of_ble_eq_true rfl) (Nat.le_of_ble_eq_true rfl) ?_
  refine g_ld (v := cI _) rfl (is_I _) ?_
  obtain ⟨q4, q5, h⟩ := h
  refine g_aldZ aC16119 q4 q5 rfl fun i6 => ?_
  replace h := h i6
  refine g_eq2 ⟨by omega, by omega⟩ ⟨by omega, by omega⟩ (fun b7 => ?_) (fun b7 => ?_)
  · replace h := h.1 b7
    unfold vX13_isAgainst_17
    refine g_ld (v := rf _) rfl (is_R _) ?_
    refine g_getF (v := 16119) oC13 (hC13_45) rfl (Nat.le_of_ble_eq_true rfl) (Nat.le_of_ble_eq_true rfl) ?_
    refine g_ld (v := cI _) rfl (is_I _) ?_
    obtain ⟨q8, q9, h⟩ := h
    refine g_aldZ aC16119 q8 q9 rfl fun i10 => ?_
    replace h := h i10
    refine g_eq1 ⟨by omega, by omega⟩ (fun b11 => ?_) (fun b11 => ?_)
    · replace h := h.1 b11
      unfold vX13_isAgainst_26
      refine g_ld (v := rf _) rfl (is_R _) ?_
      refine g_getF (v := 16120) oC13 (hC13_46) rfl (Nat.le_of_ble_eq_true rfl) (Nat.le_of_ble_eq_true rfl) ?_
      refine g_ld (v := cI _) rfl (is_I _) ?_
      obtain ⟨q12, q13, h⟩ := h
      refine g_aldZ aC16120 q12 q13 rfl fun i14 => ?_
      replace h := h i14
      refine g_eq1 ⟨by omega, by omega⟩ (fun b15 => ?_) (fun b15 => ?_)
      · replace h := h.1 b15
        unfold vX13_isAgainst_35
        refine g_ld (v := rf _) rfl (is_R _) ?_
        refine g_getF (v := 16118) oC13 (hC13_44) rfl (Nat.le_of_ble_eq_true rfl) (Nat.le_of_ble_eq_true rfl) ?_
        refine g_ld (v := cI _) rfl (is_I _) ?_
        obtain ⟨q16, q17, h⟩ := h
        refine g_aldI aC16118 q16 q17 rfl fun i18 => ?_
        replace h := h i18
        refine g_ld (v := rf _) rfl (is_R _) ?_
        refine g_getF (v := 16118) oC13 (hC13_44) rfl (Nat.le_of_ble_eq_true rfl) (Nat.le_of_ble_eq_true rfl) ?_
        refine g_ld (v := cI _) rfl (is_I _) ?_
        obtain ⟨q19, q20, h⟩ := h
        refine g_aldI aC16118 q19 q20 rfl fun i21 => ?_
        replace h := h i21
        refine g_gt2 i18 i21 (fun b22 => ?_) (fun b22 => ?_)
        · replace h := h.1 b22
          exact TX13_isAgainst_85 ha1 ha2 h
        · replace h := h.2 b22
          unfold vX13_isAgainst_50
          refine g_ld (v := rf _) rfl (is_R _) ?_
          refine g_getF (v := 16127) oC13 (hC13_53) rfl (Nat.le_of_ble_eq_true rfl) (Nat.le_of_ble_eq_true rfl) ?_
          refine g_ld (v := cI _) rfl (is_I _) ?_
          obtain ⟨q23, q24, h⟩ := h
          refine g_aldL aC16127 q23 q24 rfl fun i25 => ?_
          replace h := h i25
          refine g_ld (v := rf _) rfl (is_R _) ?_
          refine g_getF (v := 16127) oC13 (hC13_53) rfl (Nat.le_of_ble_eq_true rfl) (Nat.le_of_ble_eq_true rfl) ?_
          refine g_ld (v := cI _) rfl (is_I _) ?_
          obtain ⟨q26, q27, h⟩ := h
          refine g_aldL aC16127 q26 q27 rfl fun i28 => ?_
          replace h := h i28
          refine g_leq i25 i28 (fun b29 => ?_) (fun b29 => ?_)
          · replace h := h.1 b29
            exact TX13_isAgainst_89 ha1 ha2 h
          · replace h := h.2 b29
            unfold vX13_isAgainst_66
            refine g_ld (v := rf _) rfl (is_R _) ?_
            refine g_ld (v := rf _) rfl (is_R _) ?_
            refine g_getF (v := 16127) oC13 (hC13_53) rfl (Nat.le_of_ble_eq_true rfl) (Nat.le_of_ble_eq_true rfl) ?_
            refine g_ld (v := cI _) rfl (is_I _) ?_
            obtain ⟨q30, q31, h⟩ := h
            refine g_aldL aC16127 q30 q31 rfl fun i32 => ?_
            replace h := h i32
            refine g_ld (v := rf _) rfl (is_R _) ?_
            refine g_getF (v := 16127) oC13 (hC13_53) rfl (Nat.le_of_ble_eq_true rfl) (Nat.le_of_ble_eq_true rfl) ?_
            refine g_ld (v := cI _) rfl (is_I _) ?_
            obtain ⟨q33, q34, h⟩ := h
            refine g_aldL aC16127 q33 q34 rfl fun i35 => ?_
            replace h := h i35
            refine g_callV (As := [_, _]) (ci := 13) oC13 (fun _ => rfl) ?_
            refine g_go1 (Nat.le_of_ble_eq_true rfl) (Tn_w (TX13_fits i32 i35 h) fun _ G36 ⟨r37, e, i38, h⟩ => ?_)
            subst e
            refine ⟨n7_I _, ?_⟩
            replace h := h i38
            refine g_eq1 ⟨by omega, by omega⟩ (fun b39 => ?_) (fun b39 => ?_)
            · replace h := h.1 b39
              exact TX13_isAgainst_85 ha1 ha2 h
            · replace h := h.2 b39
              exact TX13_isAgainst_89 ha1 ha2 h
      · replace h := h.2 b15
        exact TX13_isAgainst_85 ha1 ha2 h
    · replace h := h.2 b11
      exact TX13_isAgainst_89 ha1 ha2 h
  · replace h := h.2 b7
    unfold vX13_isAgainst_15
    refine g_const (v := cI (1)) rfl ?_
    exact g_ret1 (is_Z (by omega)) ⟨_, rfl, (by omega), h⟩
abbrev PX13_isAgainst (a1 : Int) (a2 : Int) (G : gS) (Q : Int → gS → Prop) : Prop := PX13_isAgainst_0 a1 a2 G Q
theorem TX13_isAgainst {a1 : Int} {a2 : Int} {G : gS} {Q : Int → gS → Prop} (ha1 : inI a1) (ha2 : inI a2) (h : PX13_isAgainst a1 a2 G Q) : Tn W0 FX13_isAgainst [rf (16081), cI (a1), cI (a2)] G (fun r G => ∃ v, r = cI v ∧ (0 ≤ v ∧ v ≤ 1) ∧ Q v G) := by
  unfold FX13_isAgainst
  refine g_ent (lv' := [rf (16081), cI (a1), cI (a2)]) (flR (flI (flI fl0))) (Nat.le_of_ble_eq_true rfl) rfl ?_
  exact TX13_isAgainst_0 ha1 ha2 h
def PX13_againstAbove_135 (J : Nat → List Int → gS → (Int → gS → Prop) → Prop) (l1 : Int) (G : gS) (Q : Int → gS → Prop) : Prop :=
  Q 0 G
set_option maxRecDepth 20000 in
theorem TX13_againstAbove_135 {j : Nat → rx_K} {J : Nat → List Int → gS → (Int → gS → Prop) → Prop} {l1 : Int} {l2 : Nat} {l3 : Nat} {l4 : Nat} {l5 : Nat} {G : gS} {Q : Int → gS → Prop} (hl1 : inI l1) (hl2 : l2 % 8 ≠ 1) (hl3 : l3 % 8 ≠ 1) (hl4 : l4 % 8 ≠ 1) (hl5 : l5 % 8 ≠ 1) (hj0 : ∀ (l1 : Int) (l2 : Nat) (l3 : Nat) (l4 : Nat) (l5 : Nat) (G : gS), (inI l1) → (l2 % 8 ≠ 1) → (l3 % 8 ≠ 1) → (l4 % 8 ≠ 1) → (l5 % 8 ≠ 1) → J 0 [l1] G Q → Tg W0 (j 0) [rf (16081), cI (l1), l2, l3, l4, l5] [] G (fun r G => r = 7 ∧ Q 0 G)) (hj1 : ∀ (l1 : Int) (l2 : Int) (l3 : Int) (l4 : Nat) (l5 : Nat) (G : gS), (inI l1) → (inI l2) → (inI l3) → (l4 % 8 ≠ 1) → (l5 % 8 ≠ 1) → J 1 [l1, l2, l3] G Q → Tg W0 (j 1) [rf (16081), cI (l1), cI (l2), cI (l3), l4, l5] [] G (fun r G => r = 7 ∧ Q 0 G)) (hj2 : ∀ (l1 : Int) (l2 : Int) (l3 : Int) (l4 : Int) (l5 : Int) (G : gS), (inI l1) → (inI l2) → (inI l3) → (inI l4) → (inI l5) → J 2 [l1, l2, l3, l4, l5] G Q → Tg W0 (j 2) [rf (16081), cI (l1), cI (l2), cI (l3), cI (l4), cI (l5)] [] G (fun r G => r = 7 ∧ Q 0 G)) (h : PX13_againstAbove_135 J l1 G Q) : Tg W0 (vX13_againstAbove_135 j) [rf (16081), cI (l1), l2, l3, l4, l5] [] G (fun r G => r = 7 ∧ Q 0 G) := by
  unfold PX13_againstAbove_135 at h
  unfold vX13_againstAbove_135
  exact g_ret0 ⟨rfl, h⟩
def PX13_againstAbove_129 (J : Nat → List Int → gS → (Int → gS → Prop) → Prop) (l1 : Int) (l2 : Int) (l3 : Int) (G : gS) (Q : Int → gS → Prop) : Prop :=
  (inI (l1 + 1) ∧ J 0 [l1 + 1] G Q)
set_option maxRecDepth 20000 in
theorem TX13_againstAbove_129 {j : Nat → rx_K} {J : Nat → List Int → gS → (Int → gS → Prop) → Prop} {l1 : Int} {l2 : Int} {l3 : Int} {l4 : Nat} {l5 : Nat} {G : gS} {Q : Int → gS → Prop} (hl1 : inI l1) (hl2 : inI l2) (hl3 : inI l3) (hl4 : l4 % 8 ≠ 1) (hl5 : l5 % 8 ≠ 1) (hj0 : ∀ (l1 : Int) (l2 : Nat) (l3 : Nat) (l4 : Nat) (l5 : Nat) (G : gS), (inI l1) → (l2 % 8 ≠ 1) → (l3 % 8 ≠ 1) → (l4 % 8 ≠ 1) → (l5 % 8 ≠ 1) → J 0 [l1] G Q → Tg W0 (j 0) [rf (16081), cI (l1), l2, l3, l4, l5] [] G (fun r G => r = 7 ∧ Q 0 G)) (hj1 : ∀ (l1 : Int) (l2 : Int) (l3 : Int) (l4 : Nat) (l5 : Nat) (G : gS), (inI l1) → (inI l2) → (inI l3) → (l4 % 8 ≠ 1) → (l5 % 8 ≠ 1) → J 1 [l1, l2, l3] G Q → Tg W0 (j 1) [rf (16081), cI (l1), cI (l2), cI (l3), l4, l5] [] G (fun r G => r = 7 ∧ Q 0 G)) (hj2 : ∀ (l1 : Int) (l2 : Int) (l3 : Int) (l4 : Int) (l5 : Int) (G : gS), (inI l1) → (inI l2) → (inI l3) → (inI l4) → (inI l5) → J 2 [l1, l2, l3, l4, l5] G Q → Tg W0 (j 2) [rf (16081), cI (l1), cI (l2), cI (l3), cI (l4), cI (l5)] [] G (fun r G => r = 7 ∧ Q 0 G)) (h : PX13_againstAbove_129 J l1 l2 l3 G Q) : Tg W0 (vX13_againstAbove_129 j) [rf (16081), cI (l1), cI (l2), cI (l3), l4, l5] [] G (fun r G => r = 7 ∧ Q 0 G) := by
  unfold PX13_againstAbove_129 at h
  unfold vX13_againstAbove_129
  refine g_inc (lv' := [_, _, _, _, _, _]) rfl (Nat.le_of_ble_eq_true rfl) (Or.inr (n1_R _)) rfl ?_
  obtain ⟨q38, h⟩ := h
  exact hj0 _ _ _ _ _ _ q38 (n1_I _) (n1_I _) hl4 hl5 h
def PX13_againstAbove_123 (J : Nat → List Int → gS → (Int → gS → Prop) → Prop) (l1 : Int) (l2 : Int) (l3 : Int) (l4 : Int) (G : gS) (Q : Int → gS → Prop) : Prop :=
  (inI (l3 + 1) ∧ J 1 [l1, l2, l3 + 1] G Q)
set_option maxRecDepth 20000 in
theorem TX13_againstAbove_123 {j : Nat → rx_K} {J : Nat → List Int → gS → (Int → gS → Prop) → Prop} {l1 : Int} {l2 : Int} {l3 : Int} {l4 : Int} {l5 : Nat} {G : gS} {Q : Int → gS → Prop} (hl1 : inI l1) (hl2 : inI l2) (hl3 : inI l3) (hl4 : inI l4) (hl5 : l5 % 8 ≠ 1) (hj0 : ∀ (l1 : Int) (l2 : Nat) (l3 : Nat) (l4 : Nat) (l5 : Nat) (G : gS), (inI l1) → (l2 % 8 ≠ 1) → (l3 % 8 ≠ 1) → (l4 % 8 ≠ 1) → (l5 % 8 ≠ 1) → J 0 [l1] G Q → Tg W0 (j 0) [rf (16081), cI (l1), l2, l3, l4, l5] [] G (fun r G => r = 7 ∧ Q 0 G)) (hj1 : ∀ (l1 : Int) (l2 : Int) (l3 : Int) (l4 : Nat) (l5 : Nat) (G : gS), (inI l1) → (inI l2) → (inI l3) → (l4 % 8 ≠ 1) → (l5 % 8 ≠ 1) → J 1 [l1, l2, l3] G Q → Tg W0 (j 1) [rf (16081), cI (l1), cI (l2), cI (l3), l4, l5] [] G (fun r G => r = 7 ∧ Q 0 G)) (hj2 : ∀ (l1 : Int) (l2 : Int) (l3 : Int) (l4 : Int) (l5 : Int) (G : gS), (inI l1) → (inI l2) → (inI l3) → (inI l4) → (inI l5) → J 2 [l1, l2, l3, l4, l5] G Q → Tg W0 (j 2) [rf (16081), cI (l1), cI (l2), cI (l3), cI (l4), cI (l5)] [] G (fun r G => r = 7 ∧ Q 0 G)) (h : PX13_againstAbove_123 J l1 l2 l3 l4 G Q) : Tg W0 (vX13_againstAbove_123 j) [rf (16081), cI (l1), cI (l2), cI (l3), cI (l4), l5] [] G (fun r G => r = 7 ∧ Q 0 G) := by
  unfold PX13_againstAbove_123 at h
  unfold vX13_againstAbove_123
  refine g_inc (lv' := [_, _, _, _, _, _]) rfl (Nat.le_of_ble_eq_true rfl) (Or.inr (n1_I _)) rfl ?_
  obtain ⟨q37, h⟩ := h
  exact hj1 _ _ _ _ _ _ hl1 hl2 q37 (n1_I _) hl5 h
def PX13_againstAbove_117 (J : Nat → List Int → gS → (Int → gS → Prop) → Prop) (l1 : Int) (l2 : Int) (l3 : Int) (l4 : Int) (l5 : Int) (G : gS) (Q : Int → gS → Prop) : Prop :=
  (inI (l5 + 1) ∧ J 2 [l1, l2, l3, l4, l5 + 1] G Q)
set_option maxRecDepth 20000 in
theorem TX13_againstAbove_117 {j : Nat → rx_K} {J : Nat → List Int → gS → (Int → gS → Prop) → Prop} {l1 : Int} {l2 : Int} {l3 : Int} {l4 : Int} {l5 : Int} {G : gS} {Q : Int → gS → Prop} (hl1 : inI l1) (hl2 : inI l2) (hl3 : inI l3) (hl4 : inI l4) (hl5 : inI l5) (hj0 : ∀ (l1 : Int) (l2 : Nat) (l3 : Nat) (l4 : Nat) (l5 : Nat) (G : gS), (inI l1) → (l2 % 8 ≠ 1) → (l3 % 8 ≠ 1) → (l4 % 8 ≠ 1) → (l5 % 8 ≠ 1) → J 0 [l1] G Q → Tg W0 (j 0) [rf (16081), cI (l1), l2, l3, l4, l5] [] G (fun r G => r = 7 ∧ Q 0 G)) (hj1 : ∀ (l1 : Int) (l2 : Int) (l3 : Int) (l4 : Nat) (l5 : Nat) (G : gS), (inI l1) → (inI l2) → (inI l3) → (l4 % 8 ≠ 1) → (l5 % 8 ≠ 1) → J 1 [l1, l2, l3] G Q → Tg W0 (j 1) [rf (16081), cI (l1), cI (l2), cI (l3), l4, l5] [] G (fun r G => r = 7 ∧ Q 0 G)) (hj2 : ∀ (l1 : Int) (l2 : Int) (l3 : Int) (l4 : Int) (l5 : Int) (G : gS), (inI l1) → (inI l2) → (inI l3) → (inI l4) → (inI l5) → J 2 [l1, l2, l3, l4, l5] G Q → Tg W0 (j 2) [rf (16081), cI (l1), cI (l2), cI (l3), cI (l4), cI (l5)] [] G (fun r G => r = 7 ∧ Q 0 G)) (h : PX13_againstAbove_117 J l1 l2 l3 l4 l5 G Q) : Tg W0 (vX13_againstAbove_117 j) [rf (16081), cI (l1), cI (l2), cI (l3), cI (l4), cI (l5)] [] G (fun r G => r = 7 ∧ Q 0 G) := by
  unfold PX13_againstAbove_117 at h
  unfold vX13_againstAbove_117
  refine g_inc (lv' := [_, _, _, _, _, _]) rfl (Nat.le_of_ble_eq_true rfl) (Or.inr (n1_I _)) rfl ?_
  obtain ⟨q39, h⟩ := h
  exact hj2 _ _ _ _ _ _ hl1 hl2 hl3 hl4 q39 h
def PX13_againstAbove_79 (J : Nat → List Int → gS → (Int → gS → Prop) → Prop) (l1 : Int) (l2 : Int) (l3 : Int) (l4 : Int) (l5 : Int) (G : gS) (Q : Int → gS → Prop) : Prop :=
  (inI (G 16081 104) → ((l5 < G 16081 104 → ((0 : Int) ≤ l5 ∧ ((l5 : Int) < 432 ∧ (inI (G 16170 l5) → PX13_isAgainst l4 (G 16170 l5) G (fun r29 G28 => (0 ≤ r29 ∧ r29 ≤ 1) → ((r29 = 0 → PX13_againstAbove_117 J l1 l2 l3 l4 l5 G28 Q) ∧ (¬ (r29 = 0) → ((0 : Int) ≤ l4 ∧ ((l4 : Int) < 7344 ∧ (inI (G28 16126 l4) → PX13_fault 9 (G28 16126 l4) G28 (fun _ G35 => PX13_againstAbove_117 J l1 l2 l3 l4 l5 G35 Q))))))))))) ∧ (¬ (l5 < G 16081 104) → PX13_againstAbove_123 J l1 l2 l3 l4 G Q)))
set_option maxRecDepth 20000 in
theorem TX13_againstAbove_79 {j : Nat → rx_K} {J : Nat → List Int → gS → (Int → gS → Prop) → Prop} {l1 : Int} {l2 : Int} {l3 : Int} {l4 : Int} {l5 : Int} {G : gS} {Q : Int → gS → Prop} (hl1 : inI l1) (hl2 : inI l2) (hl3 : inI l3) (hl4 : inI l4) (hl5 : inI l5) (hj0 : ∀ (l1 : Int) (l2 : Nat) (l3 : Nat) (l4 : Nat) (l5 : Nat) (G : gS), (inI l1) → (l2 % 8 ≠ 1) → (l3 % 8 ≠ 1) → (l4 % 8 ≠ 1) → (l5 % 8 ≠ 1) → J 0 [l1] G Q → Tg W0 (j 0) [rf (16081), cI (l1), l2, l3, l4, l5] [] G (fun r G => r = 7 ∧ Q 0 G)) (hj1 : ∀ (l1 : Int) (l2 : Int) (l3 : Int) (l4 : Nat) (l5 : Nat) (G : gS), (inI l1) → (inI l2) → (inI l3) → (l4 % 8 ≠ 1) → (l5 % 8 ≠ 1) → J 1 [l1, l2, l3] G Q → Tg W0 (j 1) [rf (16081), cI (l1), cI (l2), cI (l3), l4, l5] [] G (fun r G => r = 7 ∧ Q 0 G)) (hj2 : ∀ (l1 : Int) (l2 : Int) (l3 : Int) (l4 : Int) (l5 : Int) (G : gS), (inI l1) → (inI l2) → (inI l3) → (inI l4) → (inI l5) → J 2 [l1, l2, l3, l4, l5] G Q → Tg W0 (j 2) [rf (16081), cI (l1), cI (l2), cI (l3), cI (l4), cI (l5)] [] G (fun r G => r = 7 ∧ Q 0 G)) (h : PX13_againstAbove_79 J l1 l2 l3 l4 l5 G Q) : Tg W0 (vX13_againstAbove_79 j) [rf (16081), cI (l1), cI (l2), cI (l3), cI (l4), cI (l5)] [] G (fun r G => r = 7 ∧ Q 0 G) := by
  unfold PX13_againstAbove_79 at h
  unfold vX13_againstAbove_79
  refine g_ld (v := cI _) rfl (is_I _) ?_
  refine g_ld (v := rf _) rfl (is_R _) ?_
  refine g_getI (kz := 104) oC13 rfl (Nat.le_of_ble_eq_true rfl) rfl fun i23 => ?_
  replace h := h i23
  refine g_lt2 hl5 i23 (fun b24 => ?_) (fun b24 => ?_)
  · replace h := h.1 b24
    unfold vX13_againstAbove_88
    refine g_ld (v := rf _) rfl (is_R _) ?_
    refine g_ld (v := cI _) rfl (is_I _) ?_
    refine g_ld (v := rf _) rfl (is_R _) ?_
    refine g_getF (v := 16170) oC13 (hC13_103) rfl (Nat.le_of_ble_eq_true rfl) (Nat.le_of_ble_eq_true rfl) ?_
    refine g_ld (v := cI _) rfl (is_I _) ?_
    obtain ⟨q25, q26, h⟩ := h
    refine g_aldI aC16170 q25 q26 rfl fun i27 => ?_
    replace h := h i27
    refine g_callV (As := [_, _]) (ci := 13) oC13 (fun _ => rfl) ?_
    refine g_go1 (Nat.le_of_ble_eq_true rfl) (Tn_w (TX13_isAgainst hl4 i27 h) fun _ G28 ⟨r29, e, i30, h⟩ => ?_)
    subst e
    refine ⟨n7_I _, ?_⟩
    replace h := h i30
    refine g_eq1 ⟨by omega, by omega⟩ (fun b31 => ?_) (fun b31 => ?_)
    · replace h := h.1 b31
      exact TX13_againstAbove_117 hl1 hl2 hl3 hl4 hl5 hj0 hj1 hj2 h
    · replace h := h.2 b31
      unfold vX13_againstAbove_104
      refine g_ld (v := rf _) rfl (is_R _) ?_
      refine g_const (v := cI (9)) rfl ?_
      refine g_ld (v := rf _) rfl (is_R _) ?_
      refine g_getF (v := 16126) oC13 (hC13_52) rfl (Nat.le_of_ble_eq_true rfl) (Nat.le_of_ble_eq_true rfl) ?_
      refine g_ld (v := cI _) rfl (is_I _) ?_
      obtain ⟨q32, q33, h⟩ := h
      refine g_aldI aC16126 q32 q33 rfl fun i34 => ?_
      replace h := h i34
      refine g_callV (As := [_, _]) (ci := 13) oC13 (fun _ => rfl) ?_
      refine g_go0 (Nat.le_of_ble_eq_true rfl) (Tn_w (TX13_fault ⟨by omega, by omega⟩ i34 h) fun _ G35 ⟨e, h⟩ => ⟨e, ?_⟩)
      exact TX13_againstAbove_117 hl1 hl2 hl3 hl4 hl5 hj0 hj1 hj2 h
  · replace h := h.2 b24
    exact TX13_againstAbove_123 hl1 hl2 hl3 hl4 (n1_I _) hj0 hj1 hj2 h
def PX13_againstAbove_34 (J : Nat → List Int → gS → (Int → gS → Prop) → Prop) (l1 : Int) (l2 : Int) (l3 : Int) (G : gS) (Q : Int → gS → Prop) : Prop :=
  ((0 : Int) ≤ l2 ∧ ((l2 : Int) < 216 ∧ (inI (G 16115 l2) → ((l3 < G 16115 l2 → (inI (G 16081 20) → ((G 16081 20 = 0 → (inI ((l2 * 34) + l3) ∧ ((0 : Int) ≤ (l2 * 34) + l3 ∧ (((l2 * 34) + l3 : Int) < 7344 ∧ (inI (G 16116 ((l2 * 34) + l3)) → ((G 16116 ((l2 * 34) + l3) = 1 → PX13_findAbove ((l2 * 34) + l3) G (fun _ G21 => PX13_againstAbove_79 J l1 l2 l3 ((l2 * 34) + l3) 0 G21 Q)) ∧ (¬ (G 16116 ((l2 * 34) + l3) = 1) → PX13_againstAbove_123 J l1 l2 l3 ((l2 * 34) + l3) G Q))))))) ∧ (¬ (G 16081 20 = 0) → PX13_againstAbove_129 J l1 l2 l3 G Q)))) ∧ (¬ (l3 < G 16115 l2) → PX13_againstAbove_129 J l1 l2 l3 G Q)))))
set_option maxRecDepth 20000 in
theorem TX13_againstAbove_34 {j : Nat → rx_K} {J : Nat → List Int → gS → (Int → gS → Prop) → Prop} {l1 : Int} {l2 : Int} {l3 : Int} {l4 : Nat} {l5 : Nat} {G : gS} {Q : Int → gS → Prop} (hl1 : inI l1) (hl2 : inI l2) (hl3 : inI l3) (hl4 : l4 % 8 ≠ 1) (hl5 : l5 % 8 ≠ 1) (hj0 : ∀ (l1 : Int) (l2 : Nat) (l3 : Nat) (l4 : Nat) (l5 : Nat) (G : gS), (inI l1) → (l2 % 8 ≠ 1) → (l3 % 8 ≠ 1) → (l4 % 8 ≠ 1) → (l5 % 8 ≠ 1) → J 0 [l1] G Q → Tg W0 (j 0) [rf (16081), cI (l1), l2, l3, l4, l5] [] G (fun r G => r = 7 ∧ Q 0 G)) (hj1 : ∀ (l1 : Int) (l2 : Int) (l3 : Int) (l4 : Nat) (l5 : Nat) (G : gS), (inI l1) → (inI l2) → (inI l3) → (l4 % 8 ≠ 1) → (l5 % 8 ≠ 1) → J 1 [l1, l2, l3] G Q → Tg W0 (j 1) [rf (16081), cI (l1), cI (l2), cI (l3), l4, l5] [] G (fun r G => r = 7 ∧ Q 0 G)) (hj2 : ∀ (l1 : Int) (l2 : Int) (l3 : Int) (l4 : Int) (l5 : Int) (G : gS), (inI l1) → (inI l2) → (inI l3) → (inI l4) → (inI l5) → J 2 [l1, l2, l3, l4, l5] G Q → Tg W0 (j 2) [rf (16081), cI (l1), cI (l2), cI (l3), cI (l4), cI (l5)] [] G (fun r G => r = 7 ∧ Q 0 G)) (h : PX13_againstAbove_34 J l1 l2 l3 G Q) : Tg W0 (vX13_againstAbove_34 j) [rf (16081), cI (l1), cI (l2), cI (l3), l4, l5] [] G (fun r G => r = 7 ∧ Q 0 G) := by
  unfold PX13_againstAbove_34 at h
  unfold vX13_againstAbove_34
  refine g_ld (v := cI _) rfl (is_I _) ?_
  refine g_ld (v := rf _) rfl (is_R _) ?_
  refine g_getF (v := 16115) oC13 (hC13_41) rfl (Nat.le_of_ble_eq_true rfl) (Nat.le_of_ble_eq_true rfl) ?_
  refine g_ld (v := cI _) rfl (is_I _) ?_
  obtain ⟨q10, q11, h⟩ := h
  refine g_aldI aC16115 q10 q11 rfl fun i12 => ?_
  replace h := h i12
  refine g_lt2 hl3 i12 (fun b13 => ?_) (fun b13 => ?_)
  · replace h := h.1 b13
    unfold vX13_againstAbove_44
    refine g_ld (v := rf _) rfl (is_R _) ?_
    refine g_getI (kz := 20) oC13 rfl (Nat.le_of_ble_eq_true rfl) rfl fun i14 => ?_
    replace h := h i14
    refine g_eq1 i14 (fun b15 => ?_) (fun b15 => ?_)
    · replace h := h.1 b15
      unfold vX13_againstAbove_51
      refine g_ld (v := cI _) rfl (is_I _) ?_
      refine g_const (v := cI (34)) rfl ?_
      refine g_mul ?_
      refine g_ld (v := cI _) rfl (is_I _) ?_
      refine g_add ?_
      refine g_st (lv' := [_, _, _, _, _, _]) (is_I _) (Nat.le_of_ble_eq_true rfl) (Or.inr (n1_I _)) rfl ?_
      obtain ⟨q16, h⟩ := h
      refine g_ld (v := rf _) rfl (is_R _) ?_
      refine g_getF (v := 16116) oC13 (hC13_42) rfl (Nat.le_of_ble_eq_true rfl) (Nat.le_of_ble_eq_true rfl) ?_
      refine g_ld (v := cI _) rfl (is_I _) ?_
      obtain ⟨q17, q18, h⟩ := h
      refine g_aldI aC16116 q17 q18 rfl fun i19 => ?_
      replace h := h i19
      refine g_const (v := cI (1)) rfl ?_
      refine g_eq2 i19 ⟨by omega, by omega⟩ (fun b20 => ?_) (fun b20 => ?_)
      · replace h := h.1 b20
        unfold vX13_againstAbove_70
        refine g_ld (v := rf _) rfl (is_R _) ?_
        refine g_ld (v := cI _) rfl (is_I _) ?_
        refine g_callV (As := [_]) (ci := 13) oC13 (fun _ => rfl) ?_
        refine g_go0 (Nat.le_of_ble_eq_true rfl) (Tn_w (TX13_findAbove q16 h) fun _ G21 ⟨e, h⟩ => ⟨e, ?_⟩)
        refine g_const (v := cI (0)) rfl ?_
        refine g_st (lv' := [_, _, _, _, _, _]) (is_I _) (Nat.le_of_ble_eq_true rfl) (Or.inr (n1_I _)) rfl ?_
        exact TX13_againstAbove_79 hl1 hl2 hl3 q16 ⟨by omega, by omega⟩ hj0 hj1 hj2 h
      · replace h := h.2 b20
        exact TX13_againstAbove_123 hl1 hl2 hl3 q16 hl5 hj0 hj1 hj2 h
    · replace h := h.2 b15
      exact TX13_againstAbove_129 hl1 hl2 hl3 hl4 hl5 hj0 hj1 hj2 h
  · replace h := h.2 b13
    exact TX13_againstAbove_129 hl1 hl2 hl3 hl4 hl5 hj0 hj1 hj2 h
def PX13_againstAbove_2 (J : Nat → List Int → gS → (Int → gS → Prop) → Prop) (l1 : Int) (G : gS) (Q : Int → gS → Prop) : Prop :=
  (inI (G 16081 19) → ((0 : Int) ≤ G 16081 19 ∧ ((G 16081 19 : Int) < 18 ∧ (inI (G 16097 (G 16081 19)) → ((l1 < G 16097 (G 16081 19) → (inI (G 16081 20) → ((G 16081 20 = 0 → (inI (G 16081 19) → (inI (((G 16081 19) * 12) + l1) ∧ PX13_againstAbove_34 J l1 (((G 16081 19) * 12) + l1) 0 G Q))) ∧ (¬ (G 16081 20 = 0) → PX13_againstAbove_135 J l1 G Q)))) ∧ (¬ (l1 < G 16097 (G 16081 19)) → PX13_againstAbove_135 J l1 G Q))))))
set_option maxRecDepth 20000 in
theorem TX13_againstAbove_2 {j : Nat → rx_K} {J : Nat → List Int → gS → (Int → gS → Prop) → Prop} {l1 : Int} {l2 : Nat} {l3 : Nat} {l4 : Nat} {l5 : Nat} {G : gS} {Q : Int → gS → Prop} (hl1 : inI l1) (hl2 : l2 % 8 ≠ 1) (hl3 : l3 % 8 ≠ 1) (hl4 : l4 % 8 ≠ 1) (hl5 : l5 % 8 ≠ 1) (hj0 : ∀ (l1 : Int) (l2 : Nat) (l3 : Nat) (l4 : Nat) (l5 : Nat) (G : gS), (inI l1) → (l2 % 8 ≠ 1) → (l3 % 8 ≠ 1) → (l4 % 8 ≠ 1) → (l5 % 8 ≠ 1) → J 0 [l1] G Q → Tg W0 (j 0) [rf (16081), cI (l1), l2, l3, l4, l5] [] G (fun r G => r = 7 ∧ Q 0 G)) (hj1 : ∀ (l1 : Int) (l2 : Int) (l3 : Int) (l4 : Nat) (l5 : Nat) (G : gS), (inI l1) → (inI l2) → (inI l3) → (l4 % 8 ≠ 1) → (l5 % 8 ≠ 1) → J 1 [l1, l2, l3] G Q → Tg W0 (j 1) [rf (16081), cI (l1), cI (l2), cI (l3), l4, l5] [] G (fun r G => r = 7 ∧ Q 0 G)) (hj2 : ∀ (l1 : Int) (l2 : Int) (l3 : Int) (l4 : Int) (l5 : Int) (G : gS), (inI l1) → (inI l2) → (inI l3) → (inI l4) → (inI l5) → J 2 [l1, l2, l3, l4, l5] G Q → Tg W0 (j 2) [rf (16081), cI (l1), cI (l2), cI (l3), cI (l4), cI (l5)] [] G (fun r G => r = 7 ∧ Q 0 G)) (h : PX13_againstAbove_2 J l1 G Q) : Tg W0 (vX13_againstAbove_2 j) [rf (16081), cI (l1), l2, l3, l4, l5] [] G (fun r G => r = 7 ∧ Q 0 G) := by
  unfold PX13_againstAbove_2 at h
  unfold vX13_againstAbove_2
  refine g_ld (v := cI _) rfl (is_I _) ?_
  refine g_ld (v := rf _) rfl (is_R _) ?_
  refine g_getF (v := 16097) oC13 (hC13_23) rfl (Nat.le_of_ble_eq_true rfl) (Nat.le_of_ble_eq_true rfl) ?_
  refine g_ld (v := rf _) rfl (is_R _) ?_
  refine g_getI (kz := 19) oC13 rfl (Nat.le_of_ble_eq_true rfl) rfl fun i1 => ?_
  replace h := h i1
  obtain ⟨q2, q3, h⟩ := h
  refine g_aldI aC16097 q2 q3 rfl fun i4 => ?_
  replace h := h i4
  refine g_lt2 hl1 i4 (fun b5 => ?_) (fun b5 => ?_)
  · replace h := h.1 b5
    unfold vX13_againstAbove_15
    refine g_ld (v := rf _) rfl (is_R _) ?_
    refine g_getI (kz := 20) oC13 rfl (Nat.le_of_ble_eq_true rfl) rfl fun i6 => ?_
    replace h := h i6
    refine g_eq1 i6 (fun b7 => ?_) (fun b7 => ?_)
    · replace h := h.1 b7
      unfold vX13_againstAbove_22
      refine g_ld (v := rf _) rfl (is_R _) ?_
      refine g_getI (kz := 19) oC13 rfl (Nat.le_of_ble_eq_true rfl) rfl fun i8 => ?_
      replace h := h i8
      refine g_const (v := cI (12)) rfl ?_
      refine g_mul ?_
      refine g_ld (v := cI _) rfl (is_I _) ?_
      refine g_add ?_
      refine g_st (lv' := [_, _, _, _, _, _]) (is_I _) (Nat.le_of_ble_eq_true rfl) (Or.inr (n1_I _)) rfl ?_
      obtain ⟨q9, h⟩ := h
      refine g_const (v := cI (0)) rfl ?_
      refine g_st (lv' := [_, _, _, _, _, _]) (is_I _) (Nat.le_of_ble_eq_true rfl) (Or.inr (n1_I _)) rfl ?_
      exact TX13_againstAbove_34 hl1 q9 ⟨by omega, by omega⟩ hl4 hl5 hj0 hj1 hj2 h
    · replace h := h.2 b7
      exact TX13_againstAbove_135 hl1 hl2 hl3 hl4 hl5 hj0 hj1 hj2 h
  · replace h := h.2 b5
    exact TX13_againstAbove_135 hl1 hl2 hl3 hl4 hl5 hj0 hj1 hj2 h
def PX13_againstAbove_0 (J : Nat → List Int → gS → (Int → gS → Prop) → Prop)  (G : gS) (Q : Int → gS → Prop) : Prop :=
  PX13_againstAbove_2 J 0 G Q
set_option maxRecDepth 20000 in
theorem TX13_againstAbove_0 {j : Nat → rx_K} {J : Nat → List Int → gS → (Int → gS → Prop) → Prop}  {G : gS} {Q : Int → gS → Prop}  (hj0 : ∀ (l1 : Int) (l2 : Nat) (l3 : Nat) (l4 : Nat) (l5 : Nat) (G : gS), (inI l1) → (l2 % 8 ≠ 1) → (l3 % 8 ≠ 1) → (l4 % 8 ≠ 1) → (l5 % 8 ≠ 1) → J 0 [l1] G Q → Tg W0 (j 0) [rf (16081), cI (l1), l2, l3, l4, l5] [] G (fun r G => r = 7 ∧ Q 0 G)) (hj1 : ∀ (l1 : Int) (l2 : Int) (l3 : Int) (l4 : Nat) (l5 : Nat) (G : gS), (inI l1) → (inI l2) → (inI l3) → (l4 % 8 ≠ 1) → (l5 % 8 ≠ 1) → J 1 [l1, l2, l3] G Q → Tg W0 (j 1) [rf (16081), cI (l1), cI (l2), cI (l3), l4, l5] [] G (fun r G => r = 7 ∧ Q 0 G)) (hj2 : ∀ (l1 : Int) (l2 : Int) (l3 : Int) (l4 : Int) (l5 : Int) (G : gS), (inI l1) → (inI l2) → (inI l3) → (inI l4) → (inI l5) → J 2 [l1, l2, l3, l4, l5] G Q → Tg W0 (j 2) [rf (16081), cI (l1), cI (l2), cI (l3), cI (l4), cI (l5)] [] G (fun r G => r = 7 ∧ Q 0 G)) (h : PX13_againstAbove_0 J  G Q) : Tg W0 (vX13_againstAbove_0 j) [rf (16081), 7, 7, 7, 7, 7] [] G (fun r G => r = 7 ∧ Q 0 G) := by
  unfold PX13_againstAbove_0 at h
  unfold vX13_againstAbove_0
  refine g_const (v := cI (0)) rfl ?_
  refine g_st (lv' := [_, _, _, _, _, _]) (is_I _) (Nat.le_of_ble_eq_true rfl) (Or.inr (n1_R _)) rfl ?_
  exact TX13_againstAbove_2 ⟨by omega, by omega⟩ (show 7 % 8 ≠ 1 by decide) (show 7 % 8 ≠ 1 by decide) (show 7 % 8 ≠ 1 by decide) (show 7 % 8 ≠ 1 by decide) hj0 hj1 hj2 h
def PX13_againstAbove_J : Nat → Nat → List Int → gS → (Int → gS → Prop) → Prop
  | 0, _, _, _, _ => False
  | f + 1, h, L, G, Q => match h, L with
    | 0, [l1] => PX13_againstAbove_2 (PX13_againstAbove_J f) l1 G Q
    | 1, [l1, l2, l3] => PX13_againstAbove_34 (PX13_againstAbove_J f) l1 l2 l3 G Q
    | 2, [l1, l2, l3, l4, l5] => PX13_againstAbove_79 (PX13_againstAbove_J f) l1 l2 l3 l4 l5 G Q
    | _, _ => False
theorem TX13_againstAbove_J {Q : Int → gS → Prop} : ∀ f N : Nat, f ≤ N → (∀ (l1 : Int) (l2 : Nat) (l3 : Nat) (l4 : Nat) (l5 : Nat) (G : gS), (inI l1) → (l2 % 8 ≠ 1) → (l3 % 8 ≠ 1) → (l4 % 8 ≠ 1) → (l5 % 8 ≠ 1) → (PX13_againstAbove_J f) 0 [l1] G Q → Tg W0 (rx_J vhX13_againstAbove N 0) [rf (16081), cI (l1), l2, l3, l4, l5] [] G (fun r G => r = 7 ∧ Q 0 G)) ∧ (∀ (l1 : Int) (l2 : Int) (l3 : Int) (l4 : Nat) (l5 : Nat) (G : gS), (inI l1) → (inI l2) → (inI l3) → (l4 % 8 ≠ 1) → (l5 % 8 ≠ 1) → (PX13_againstAbove_J f) 1 [l1, l2, l3] G Q → Tg W0 (rx_J vhX13_againstAbove N 1) [rf (16081), cI (l1), cI (l2), cI (l3), l4, l5] [] G (fun r G => r = 7 ∧ Q 0 G)) ∧ (∀ (l1 : Int) (l2 : Int) (l3 : Int) (l4 : Int) (l5 : Int) (G : gS), (inI l1) → (inI l2) → (inI l3) → (inI l4) → (inI l5) → (PX13_againstAbove_J f) 2 [l1, l2, l3, l4, l5] G Q → Tg W0 (rx_J vhX13_againstAbove N 2) [rf (16081), cI (l1), cI (l2), cI (l3), cI (l4), cI (l5)] [] G (fun r G => r = 7 ∧ Q 0 G)) := by
  intro f
  induction f with
  | zero => exact fun N _ => ⟨fun _ _ _ _ _ _ _ _ _ _ _ h => h.elim, fun _ _ _ _ _ _ _ _ _ _ _ h => h.elim, fun _ _ _ _ _ _ _ _ _ _ _ h => h.elim⟩
  | succ f ih =>
    intro N hN
    obtain ⟨M, rfl⟩ : ∃ M, N = M + 1 := ⟨N - 1, by omega⟩
    have ih := ih M (by omega)
    exact ⟨fun _ _ _ _ _ _ hl1 hl2 hl3 hl4 hl5 h => show Tg W0 (vX13_againstAbove_2 (rx_J vhX13_againstAbove M)) _ _ _ _ from TX13_againstAbove_2 hl1 hl2 hl3 hl4 hl5 ih.1 ih.2.1 ih.2.2 h, fun _ _ _ _ _ _ hl1 hl2 hl3 hl4 hl5 h => show Tg W0 (vX13_againstAbove_34 (rx_J vhX13_againstAbove M)) _ _ _ _ from TX13_againstAbove_34 hl1 hl2 hl3 hl4 hl5 ih.1 ih.2.1 ih.2.2 h, fun _ _ _ _ _ _ hl1 hl2 hl3 hl4 hl5 h => show Tg W0 (vX13_againstAbove_79 (rx_J vhX13_againstAbove M)) _ _ _ _ from TX13_againstAbove_79 hl1 hl2 hl3 hl4 hl5 ih.1 ih.2.1 ih.2.2 h⟩
def PX13_againstAbove  (G : gS) (Q : Int → gS → Prop) : Prop := ∃ f : Nat, f ≤ 4000000000 ∧ PX13_againstAbove_0 (PX13_againstAbove_J f)  G Q
theorem TX13_againstAbove  {G : gS} {Q : Int → gS → Prop}  (h : PX13_againstAbove  G Q) : Tn W0 FX13_againstAbove [rf (16081)] G (fun r G => r = 7 ∧ Q 0 G) := by
  obtain ⟨f, hf, h⟩ := h
  have hJ := TX13_againstAbove_J (Q := Q) f 4000000000 hf
  unfold FX13_againstAbove
  refine g_ent (lv' := [rf (16081), 7, 7, 7, 7, 7]) (flR fl0) (Nat.le_of_ble_eq_true rfl) rfl ?_
  exact TX13_againstAbove_0  hJ.1 hJ.2.1 hJ.2.2 h
def PX13_bridge_127 (J : Nat → List Int → gS → (Int → gS → Prop) → Prop) (l1 : Int) (l2 : Int) (l3 : Int) (l5 : Int) (l6 : Int) (G : gS) (Q : Int → gS → Prop) : Prop :=
  ((0 : Int) ≤ l2 ∧ ((l2 : Int) < 7344 ∧ (inI (G 16129 l2) → ((l6 < G 16129 l2 → ((0 : Int) ≤ (4 * l2) + l6 ∧ (((4 * l2) + l6 : Int) < 29376 ∧ (inL (G 16130 ((4 * l2) + l6)) → ((0 : Int) ≤ (4 * l5) + l6 ∧ (((4 * l5) + l6 : Int) < 29376 ∧ (∀ G61 : gS, G61 = uG G 16130 ((4 * l5) + l6) (G 16130 ((4 * l2) + l6)) → (inI (l6 + 1) ∧ J 0 [l1, l2, l3, l5, l6 + 1] G61 Q)))))))) ∧ (¬ (l6 < G 16129 l2) → ((0 : Int) ≤ l2 ∧ ((l2 : Int) < 7344 ∧ (inI (G 16129 l2) → ((0 : Int) ≤ l5 ∧ ((l5 : Int) < 7344 ∧ (∀ G68 : gS, G68 = uG G 16142 l5 (G 16129 l2) → ((0 : Int) ≤ l1 ∧ ((l1 : Int) < 216 ∧ (inI (G68 16115 l1) → ((0 : Int) ≤ l1 ∧ ((l1 : Int) < 216 ∧ (inI ((G68 16115 l1) + 1) ∧ (∀ G75 : gS, G75 = uG G68 16115 l1 ((G68 16115 l1) + 1) → Q (l5) G75))))))))))))))))))
set_option maxRecDepth 20000 in
theorem TX13_bridge_127 {j : Nat → rx_K} {J : Nat → List Int → gS → (Int → gS → Prop) → Prop} {l1 : Int} {l2 : Int} {l3 : Int} {l4 : Nat} {l5 : Int} {l6 : Int} {G : gS} {Q : Int → gS → Prop} (hl1 : inI l1) (hl2 : inI l2) (hl3 : inL l3) (hl4 : l4 % 8 ≠ 1) (hl5 : inI l5) (hl6 : inI l6) (hj0 : ∀ (l1 : Int) (l2 : Int) (l3 : Int) (l4 : Nat) (l5 : Int) (l6 : Int) (G : gS), (inI l1) → (inI l2) → (inL l3) → (l4 % 8 ≠ 1) → (inI l5) → (inI l6) → J 0 [l1, l2, l3, l5, l6] G Q → Tg W0 (j 0) [rf (16081), cI (l1), cI (l2), cL (l3), l4, cI (l5), cI (l6)] [] G (fun r G => ∃ v, r = cI v ∧ inI v ∧ Q v G)) (h : PX13_bridge_127 J l1 l2 l3 l5 l6 G Q) : Tg W0 (vX13_bridge_127 j) [rf (16081), cI (l1), cI (l2), cL (l3), l4, cI (l5), cI (l6)] [] G (fun r G => ∃ v, r = cI v ∧ inI v ∧ Q v G) := by
  unfold PX13_bridge_127 at h
  unfold vX13_bridge_127
  refine g_ld (v := cI _) rfl (is_I _) ?_
  refine g_ld (v := rf _) rfl (is_R _) ?_
  refine g_getF (v := 16129) oC13 (hC13_55) rfl (Nat.le_of_ble_eq_true rfl) (Nat.le_of_ble_eq_true rfl) ?_
  refine g_ld (v := cI _) rfl (is_I _) ?_
  obtain ⟨q52, q53, h⟩ := h
  refine g_aldI aC16129 q52 q53 rfl fun i54 => ?_
  replace h := h i54
  refine g_lt2 hl6 i54 (fun b55 => ?_) (fun b55 => ?_)
  · replace h := h.1 b55
    unfold vX13_bridge_138
    refine g_ld (v := rf _) rfl (is_R _) ?_
    refine g_getF (v := 16130) oC13 (hC13_56) rfl (Nat.le_of_ble_eq_true rfl) (Nat.le_of_ble_eq_true rfl) ?_
    refine g_const (v := cI (4)) rfl ?_
    refine g_ld (v := cI _) rfl (is_I _) ?_
    refine g_mul ?_
    refine g_ld (v := cI _) rfl (is_I _) ?_
    refine g_add ?_
    refine g_ld (v := rf _) rfl (is_R _) ?_
    refine g_getF (v := 16130) oC13 (hC13_56) rfl (Nat.le_of_ble_eq_true rfl) (Nat.le_of_ble_eq_true rfl) ?_
    refine g_const (v := cI (4)) rfl ?_
    refine g_ld (v := cI _) rfl (is_I _) ?_
    refine g_mul ?_
    refine g_ld (v := cI _) rfl (is_I _) ?_
    refine g_add ?_
    obtain ⟨q56, q57, h⟩ := h
    refine g_aldL aC16130 q56 q57 rfl fun i58 => ?_
    replace h := h i58
    obtain ⟨q59, q60, h⟩ := h
    refine g_astL aC16130 q59 q60 i58 (nfL aC16130) ?_
    replace h := h _ rfl
    refine g_inc (lv' := [_, _, _, _, _, _, _]) rfl (Nat.le_of_ble_eq_true rfl) (Or.inr (n1_I _)) rfl ?_
    obtain ⟨q62, h⟩ := h
    exact hj0 _ _ _ _ _ _ _ hl1 hl2 hl3 hl4 hl5 q62 h
  · replace h := h.2 b55
    unfold vX13_bridge_167
    refine g_ld (v := rf _) rfl (is_R _) ?_
    refine g_getF (v := 16142) oC13 (hC13_68) rfl (Nat.le_of_ble_eq_true rfl) (Nat.le_of_ble_eq_true rfl) ?_
    refine g_ld (v := cI _) rfl (is_I _) ?_
    refine g_ld (v := rf _) rfl (is_R _) ?_
    refine g_getF (v := 16129) oC13 (hC13_55) rfl (Nat.le_of_ble_eq_true rfl) (Nat.le_of_ble_eq_true rfl) ?_
    refine g_ld (v := cI _) rfl (is_I _) ?_
    obtain ⟨q63, q64, h⟩ := h
    refine g_aldI aC16129 q63 q64 rfl fun i65 => ?_
    replace h := h i65
    obtain ⟨q66, q67, h⟩ := h
    refine g_astI aC16142 q66 q67 i65 (nfI aC16142) ?_
    replace h := h _ rfl
    refine g_ld (v := rf _) rfl (is_R _) ?_
    refine g_getF (v := 16115) oC13 (hC13_41) rfl (Nat.le_of_ble_eq_true rfl) (Nat.le_of_ble_eq_true rfl) ?_
    refine g_ld (v := cI _) rfl (is_I _) ?_
    refine g_dup2 (ct_I _) (ct_R _) ?_
    obtain ⟨q69, q70, h⟩ := h
    refine g_aldI aC16115 q69 q70 rfl fun i71 => ?_
    replace h := h i71
    refine g_const (v := cI (1)) rfl ?_
    refine g_add ?_
    obtain ⟨q72, q73, h⟩ := h
    obtain ⟨q74, h⟩ := h
    refine g_astI aC16115 q72 q73 q74 (nfI aC16115) ?_
    replace h := h _ rfl
    refine g_ld (v := cI _) rfl (is_I _) ?_
    exact g_ret1 (is_I _) ⟨_, rfl, hl5, h⟩
def PX13_bridge_0 (J : Nat → List Int → gS → (Int → gS → Prop) → Prop) (a1 : Int) (a2 : Int) (a3 : Int) (G : gS) (Q : Int → gS → Prop) : Prop :=
  ((0 : Int) ≤ a1 ∧ ((a1 : Int) < 216 ∧ (inI (G 16115 a1) → (inI ((a1 * 34) + (G 16115 a1)) ∧ PX13_newMember ((a1 * 34) + (G 16115 a1)) G (fun _ G5 => ((0 : Int) ≤ (a1 * 34) + (G 16115 a1) ∧ (((a1 * 34) + (G 16115 a1) : Int) < 7344 ∧ (∀ G9 : gS, G9 = uG G5 16116 ((a1 * 34) + (G 16115 a1)) (1) → ((0 : Int) ≤ (a1 * 34) + (G 16115 a1) ∧ (((a1 * 34) + (G 16115 a1) : Int) < 7344 ∧ (∀ G12 : gS, G12 = uG G9 16123 ((a1 * 34) + (G 16115 a1)) (1) → ((0 : Int) ≤ (a1 * 34) + (G 16115 a1) ∧ (((a1 * 34) + (G 16115 a1) : Int) < 7344 ∧ (∀ G15 : gS, G15 = uG G12 16117 ((a1 * 34) + (G 16115 a1)) (0) → ((0 : Int) ≤ a2 ∧ ((a2 : Int) < 7344 ∧ (inI (G15 16118 a2) → ((0 : Int) ≤ (a1 * 34) + (G 16115 a1) ∧ (((a1 * 34) + (G 16115 a1) : Int) < 7344 ∧ (∀ G21 : gS, G21 = uG G15 16118 ((a1 * 34) + (G 16115 a1)) (G15 16118 a2) → ((0 : Int) ≤ a2 ∧ ((a2 : Int) < 7344 ∧ ((0 ≤ G21 16119 a2 ∧ G21 16119 a2 ≤ 1) → ((0 : Int) ≤ (a1 * 34) + (G 16115 a1) ∧ (((a1 * 34) + (G 16115 a1) : Int) < 7344 ∧ (∀ G27 : gS, G27 = uG G21 16119 ((a1 * 34) + (G 16115 a1)) (G21 16119 a2) → ((0 : Int) ≤ (a1 * 34) + (G 16115 a1) ∧ (((a1 * 34) + (G 16115 a1) : Int) < 7344 ∧ (∀ G30 : gS, G30 = uG G27 16121 ((a1 * 34) + (G 16115 a1)) (0) → ((0 : Int) ≤ a2 ∧ ((a2 : Int) < 7344 ∧ (inL (G30 16125 a2) → ((0 : Int) ≤ (a1 * 34) + (G 16115 a1) ∧ (((a1 * 34) + (G 16115 a1) : Int) < 7344 ∧ (∀ G36 : gS, G36 = uG G30 16125 ((a1 * 34) + (G 16115 a1)) (G30 16125 a2) → ((0 : Int) ≤ (a1 * 34) + (G 16115 a1) ∧ (((a1 * 34) + (G 16115 a1) : Int) < 7344 ∧ (∀ G39 : gS, G39 = uG G36 16127 ((a1 * 34) + (G 16115 a1)) (a3) → ((0 : Int) ≤ a2 ∧ ((a2 : Int) < 7344 ∧ (inL (G39 16127 a2) → ((0 : Int) ≤ (a1 * 34) + (G 16115 a1) ∧ (((a1 * 34) + (G 16115 a1) : Int) < 7344 ∧ (∀ G45 : gS, G45 = uG G39 16140 ((a1 * 34) + (G 16115 a1)) (G39 16127 a2) → ((0 : Int) ≤ a2 ∧ ((a2 : Int) < 7344 ∧ (inI (G45 16129 a2) → ((0 : Int) ≤ (a1 * 34) + (G 16115 a1) ∧ (((a1 * 34) + (G 16115 a1) : Int) < 7344 ∧ (∀ G51 : gS, G51 = uG G45 16129 ((a1 * 34) + (G 16115 a1)) (G45 16129 a2) → PX13_bridge_127 J a1 a2 a3 ((a1 * 34) + (G 16115 a1)) 0 G51 Q))))))))))))))))))))))))))))))))))))))))))))))))))
set_option maxRecDepth 20000 in
theorem TX13_bridge_0 {j : Nat → rx_K} {J : Nat → List Int → gS → (Int → gS → Prop) → Prop} {a1 : Int} {a2 : Int} {a3 : Int} {G : gS} {Q : Int → gS → Prop} (ha1 : inI a1) (ha2 : inI a2) (ha3 : inL a3) (hj0 : ∀ (l1 : Int) (l2 : Int) (l3 : Int) (l4 : Nat) (l5 : Int) (l6 : Int) (G : gS), (inI l1) → (inI l2) → (inL l3) → (l4 % 8 ≠ 1) → (inI l5) → (inI l6) → J 0 [l1, l2, l3, l5, l6] G Q → Tg W0 (j 0) [rf (16081), cI (l1), cI (l2), cL (l3), l4, cI (l5), cI (l6)] [] G (fun r G => ∃ v, r = cI v ∧ inI v ∧ Q v G)) (h : PX13_bridge_0 J a1 a2 a3 G Q) : Tg W0 (vX13_bridge_0 j) [rf (16081), cI (a1), cI (a2), cL (a3), 7, 7, 7] [] G (fun r G => ∃ v, r = cI v ∧ inI v ∧ Q v G) := by
  unfold PX13_bridge_0 at h
  unfold vX13_bridge_0
  refine g_ld (v := cI _) rfl (is_I _) ?_
  refine g_const (v := cI (34)) rfl ?_
  refine g_mul ?_
  refine g_ld (v := rf _) rfl (is_R _) ?_
  refine g_getF (v := 16115) oC13 (hC13_41) rfl (Nat.le_of_ble_eq_true rfl) (Nat.le_of_ble_eq_true rfl) ?_
  refine g_ld (v := cI _) rfl (is_I _) ?_
  obtain ⟨q1, q2, h⟩ := h
  refine g_aldI aC16115 q1 q2 rfl fun i3 => ?_
  replace h := h i3
  refine g_add ?_
  refine g_st (lv' := [_, _, _, _, _, _, _]) (is_I _) (Nat.le_of_ble_eq_true rfl) (Or.inr (show 7 % 8 ≠ 1 by decide)) rfl ?_
  obtain ⟨q4, h⟩ := h
  refine g_ld (v := rf _) rfl (is_R _) ?_
  refine g_ld (v := cI _) rfl (is_I _) ?_
  refine g_callV (As := [_]) (ci := 13) oC13 (fun _ => rfl) ?_
  refine g_go0 (Nat.le_of_ble_eq_true rfl) (Tn_w (TX13_newMember q4 h) fun _ G5 ⟨e, h⟩ => ⟨e, ?_⟩)
  refine g_ld (v := rf _) rfl (is_R _) ?_
  refine g_getF (v := 16116) oC13 (hC13_42) rfl (Nat.le_of_ble_eq_true rfl) (Nat.le_of_ble_eq_true rfl) ?_
  refine g_ld (v := cI _) rfl (is_I _) ?_
  refine g_const (v := cI (1)) rfl ?_
  obtain ⟨q7, q8, h⟩ := h
  refine g_astI aC16116 q7 q8 ⟨by omega, by omega⟩ (nfI aC16116) ?_
  replace h := h _ rfl
  refine g_ld (v := rf _) rfl (is_R _) ?_
  refine g_getF (v := 16123) oC13 (hC13_49) rfl (Nat.le_of_ble_eq_true rfl) (Nat.le_of_ble_eq_true rfl) ?_
  refine g_ld (v := cI _) rfl (is_I _) ?_
  refine g_const (v := cI (1)) rfl ?_
  obtain ⟨q10, q11, h⟩ := h
  refine g_astZ aC16123 q10 q11 (by omega) (nfZ aC16123) ?_
  replace h := h _ rfl
  refine g_ld (v := rf _) rfl (is_R _) ?_
  refine g_getF (v := 16117) oC13 (hC13_43) rfl (Nat.le_of_ble_eq_true rfl) (Nat.le_of_ble_eq_true rfl) ?_
  unfold vX13_bridge_39
  refine g_ld (v := cI _) rfl (is_I _) ?_
  refine g_const (v := cI (0)) rfl ?_
  obtain ⟨q13, q14, h⟩ := h
  refine g_astI aC16117 q13 q14 ⟨by omega, by omega⟩ (nfI aC16117) ?_
  replace h := h _ rfl
  refine g_ld (v := rf _) rfl (is_R _) ?_
  refine g_getF (v := 16118) oC13 (hC13_44) rfl (Nat.le_of_ble_eq_true rfl) (Nat.le_of_ble_eq_true rfl) ?_
  refine g_ld (v := cI _) rfl (is_I _) ?_
  refine g_ld (v := rf _) rfl (is_R _) ?_
  refine g_getF (v := 16118) oC13 (hC13_44) rfl (Nat.le_of_ble_eq_true rfl) (Nat.le_of_ble_eq_true rfl) ?_
  refine g_ld (v := cI _) rfl (is_I _) ?_
  obtain ⟨q16, q17, h⟩ := h
  refine g_aldI aC16118 q16 q17 rfl fun i18 => ?_
  replace h := h i18
  obtain ⟨q19, q20, h⟩ := h
  refine g_astI aC16118 q19 q20 i18 (nfI aC16118) ?_
  replace h := h _ rfl
  refine g_ld (v := rf _) rfl (is_R _) ?_
  refine g_getF (v := 16119) oC13 (hC13_45) rfl (Nat.le_of_ble_eq_true rfl) (Nat.le_of_ble_eq_true rfl) ?_
  refine g_ld (v := cI _) rfl (is_I _) ?_
  refine g_ld (v := rf _) rfl (is_R _) ?_
  refine g_getF (v := 16119) oC13 (hC13_45) rfl (Nat.le_of_ble_eq_true rfl) (Nat.le_of_ble_eq_true rfl) ?_
  refine g_ld (v := cI _) rfl (is_I _) ?_
  obtain ⟨q22, q23, h⟩ := h
  refine g_aldZ aC16119 q22 q23 rfl fun i24 => ?_
  replace h := h i24
  obtain ⟨q25, q26, h⟩ := h
  refine g_astZ aC16119 q25 q26 i24 (nfZ aC16119) ?_
  replace h := h _ rfl
  refine g_ld (v := rf _) rfl (is_R _) ?_
  refine g_getF (v := 16121) oC13 (hC13_47) rfl (Nat.le_of_ble_eq_true rfl) (Nat.le_of_ble_eq_true rfl) ?_
  refine g_ld (v := cI _) rfl (is_I _) ?_
  refine g_const (v := cI (0)) rfl ?_
  obtain ⟨q28, q29, h⟩ := h
  refine g_astZ aC16121 q28 q29 (by omega) (nfZ aC16121) ?_
  replace h := h _ rfl
  unfold vX13_bridge_77
  refine g_ld (v := rf _) rfl (is_R _) ?_
  refine g_getF (v := 16125) oC13 (hC13_51) rfl (Nat.le_of_ble_eq_true rfl) (Nat.le_of_ble_eq_true rfl) ?_
  refine g_ld (v := cI _) rfl (is_I _) ?_
  refine g_ld (v := rf _) rfl (is_R _) ?_
  refine g_getF (v := 16125) oC13 (hC13_51) rfl (Nat.le_of_ble_eq_true rfl) (Nat.le_of_ble_eq_true rfl) ?_
  refine g_ld (v := cI _) rfl (is_I _) ?_
  obtain ⟨q31, q32, h⟩ := h
  refine g_aldL aC16125 q31 q32 rfl fun i33 => ?_
  replace h := h i33
  obtain ⟨q34, q35, h⟩ := h
  refine g_astL aC16125 q34 q35 i33 (nfL aC16125) ?_
  replace h := h _ rfl
  refine g_ld (v := rf _) rfl (is_R _) ?_
  refine g_getF (v := 16127) oC13 (hC13_53) rfl (Nat.le_of_ble_eq_true rfl) (Nat.le_of_ble_eq_true rfl) ?_
  refine g_ld (v := cI _) rfl (is_I _) ?_
  refine g_ld (v := cL _) rfl (is_L _) ?_
  obtain ⟨q37, q38, h⟩ := h
  refine g_astL aC16127 q37 q38 ha3 (nfL aC16127) ?_
  replace h := h _ rfl
  refine g_ld (v := rf _) rfl (is_R _) ?_
  refine g_getF (v := 16140) oC13 (hC13_66) rfl (Nat.le_of_ble_eq_true rfl) (Nat.le_of_ble_eq_true rfl) ?_
  refine g_ld (v := cI _) rfl (is_I _) ?_
  refine g_ld (v := rf _) rfl (is_R _) ?_
  refine g_getF (v := 16127) oC13 (hC13_53) rfl (Nat.le_of_ble_eq_true rfl) (Nat.le_of_ble_eq_true rfl) ?_
  refine g_ld (v := cI _) rfl (is_I _) ?_
  obtain ⟨q40, q41, h⟩ := h
  refine g_aldL aC16127 q40 q41 rfl fun i42 => ?_
  replace h := h i42
  obtain ⟨q43, q44, h⟩ := h
  refine g_astL aC16140 q43 q44 i42 (nfL aC16140) ?_
  replace h := h _ rfl
  refine g_ld (v := rf _) rfl (is_R _) ?_
  refine g_getF (v := 16129) oC13 (hC13_55) rfl (Nat.le_of_ble_eq_true rfl) (Nat.le_of_ble_eq_true rfl) ?_
  refine g_ld (v := cI _) rfl (is_I _) ?_
  unfold vX13_bridge_117
  refine g_ld (v := rf _) rfl (is_R _) ?_
  refine g_getF (v := 16129) oC13 (hC13_55) rfl (Nat.le_of_ble_eq_true rfl) (Nat.le_of_ble_eq_true rfl) ?_
  refine g_ld (v := cI _) rfl (is_I _) ?_
  obtain ⟨q46, q47, h⟩ := h
  refine g_aldI aC16129 q46 q47 rfl fun i48 => ?_
  replace h := h i48
  obtain ⟨q49, q50, h⟩ := h
  refine g_astI aC16129 q49 q50 i48 (nfI aC16129) ?_
  replace h := h _ rfl
  refine g_const (v := cI (0)) rfl ?_
  refine g_st (lv' := [_, _, _, _, _, _, _]) (is_I _) (Nat.le_of_ble_eq_true rfl) (Or.inr (n1_I _)) rfl ?_
  exact TX13_bridge_127 ha1 ha2 ha3 (show 7 % 8 ≠ 1 by decide) q4 ⟨by omega, by omega⟩ hj0 h
def PX13_bridge_J : Nat → Nat → List Int → gS → (Int → gS → Prop) → Prop
  | 0, _, _, _, _ => False
  | f + 1, h, L, G, Q => match h, L with
    | 0, [l1, l2, l3, l5, l6] => PX13_bridge_127 (PX13_bridge_J f) l1 l2 l3 l5 l6 G Q
    | _, _ => False
theorem TX13_bridge_J {Q : Int → gS → Prop} : ∀ f N : Nat, f ≤ N → (∀ (l1 : Int) (l2 : Int) (l3 : Int) (l4 : Nat) (l5 : Int) (l6 : Int) (G : gS), (inI l1) → (inI l2) → (inL l3) → (l4 % 8 ≠ 1) → (inI l5) → (inI l6) → (PX13_bridge_J f) 0 [l1, l2, l3, l5, l6] G Q → Tg W0 (rx_J vhX13_bridge N 0) [rf (16081), cI (l1), cI (l2), cL (l3), l4, cI (l5), cI (l6)] [] G (fun r G => ∃ v, r = cI v ∧ inI v ∧ Q v G)) := by
  intro f
  induction f with
  | zero => exact fun N _ => fun _ _ _ _ _ _ _ _ _ _ _ _ _ h => h.elim
  | succ f ih =>
    intro N hN
    obtain ⟨M, rfl⟩ : ∃ M, N = M + 1 := ⟨N - 1, by omega⟩
    have ih := ih M (by omega)
    exact fun _ _ _ _ _ _ _ hl1 hl2 hl3 hl4 hl5 hl6 h => show Tg W0 (vX13_bridge_127 (rx_J vhX13_bridge M)) _ _ _ _ from TX13_bridge_127 hl1 hl2 hl3 hl4 hl5 hl6 ih h
def PX13_bridge (a1 : Int) (a2 : Int) (a3 : Int) (G : gS) (Q : Int → gS → Prop) : Prop := ∃ f : Nat, f ≤ 4000000000 ∧ PX13_bridge_0 (PX13_bridge_J f) a1 a2 a3 G Q
theorem TX13_bridge {a1 : Int} {a2 : Int} {a3 : Int} {G : gS} {Q : Int → gS → Prop} (ha1 : inI a1) (ha2 : inI a2) (ha3 : inL a3) (h : PX13_bridge a1 a2 a3 G Q) : Tn W0 FX13_bridge [rf (16081), cI (a1), cI (a2), cL (a3)] G (fun r G => ∃ v, r = cI v ∧ inI v ∧ Q v G) := by
  obtain ⟨f, hf, h⟩ := h
  have hJ := TX13_bridge_J (Q := Q) f 4000000000 hf
  unfold FX13_bridge
  refine g_ent (lv' := [rf (16081), cI (a1), cI (a2), cL (a3), 7, 7, 7]) (flR (flI (flI (flL fl0)))) (Nat.le_of_ble_eq_true rfl) rfl ?_
  exact TX13_bridge_0 ha1 ha2 ha3 hJ h
def PX13_hasBridge_42 (J : Nat → List Int → gS → (Int → gS → Prop) → Prop) (l1 : Int) (l2 : Int) (l3 : Int) (l4 : Int) (l5 : Int) (s0 : Int) (G : gS) (Q : Int → gS → Prop) : Prop :=
  (inI (l5 + 1) ∧ J 0 [l1, l2, l3, s0, l5 + 1] G Q)
set_option maxRecDepth 20000 in
theorem TX13_hasBridge_42 {j : Nat → rx_K} {J : Nat → List Int → gS → (Int → gS → Prop) → Prop} {l1 : Int} {l2 : Int} {l3 : Int} {l4 : Int} {l5 : Int} {s0 : Int} {G : gS} {Q : Int → gS → Prop} (hl1 : inI l1) (hl2 : inI l2) (hl3 : inI l3) (hl4 : inI l4) (hl5 : inI l5) (hs0 : inI s0) (hj0 : ∀ (l1 : Int) (l2 : Int) (l3 : Int) (l4 : Int) (l5 : Int) (G : gS), (inI l1) → (inI l2) → (inI l3) → (inI l4) → (inI l5) → J 0 [l1, l2, l3, l4, l5] G Q → Tg W0 (j 0) [rf (16081), cI (l1), cI (l2), cI (l3), cI (l4), cI (l5)] [] G (fun r G => ∃ v, r = cI v ∧ (0 ≤ v ∧ v ≤ 1) ∧ Q v G)) (h : PX13_hasBridge_42 J l1 l2 l3 l4 l5 s0 G Q) : Tg W0 (vX13_hasBridge_42 j) [rf (16081), cI (l1), cI (l2), cI (l3), cI (l4), cI (l5)] [cI (s0)] G (fun r G => ∃ v, r = cI v ∧ (0 ≤ v ∧ v ≤ 1) ∧ Q v G) := by
  unfold PX13_hasBridge_42 at h
  unfold vX13_hasBridge_42
  refine g_st (lv' := [_, _, _, _, _, _]) (is_I _) (Nat.le_of_ble_eq_true rfl) (Or.inr (n1_I _)) rfl ?_
  refine g_inc (lv' := [_, _, _, _, _, _]) rfl (Nat.le_of_ble_eq_true rfl) (Or.inr (n1_I _)) rfl ?_
  obtain ⟨q12, h⟩ := h
  exact hj0 _ _ _ _ _ _ hl1 hl2 hl3 hs0 q12 h
def PX13_hasBridge_37 (J : Nat → List Int → gS → (Int → gS → Prop) → Prop) (l1 : Int) (l2 : Int) (l3 : Int) (l4 : Int) (l5 : Int) (G : gS) (Q : Int → gS → Prop) : Prop :=
  PX13_hasBridge_42 J l1 l2 l3 l4 l5 1 G Q
set_option maxRecDepth 20000 in
theorem TX13_hasBridge_37 {j : Nat → rx_K} {J : Nat → List Int → gS → (Int → gS → Prop) → Prop} {l1 : Int} {l2 : Int} {l3 : Int} {l4 : Int} {l5 : Int} {G : gS} {Q : Int → gS → Prop} (hl1 : inI l1) (hl2 : inI l2) (hl3 : inI l3) (hl4 : inI l4) (hl5 : inI l5) (hj0 : ∀ (l1 : Int) (l2 : Int) (l3 : Int) (l4 : Int) (l5 : Int) (G : gS), (inI l1) → (inI l2) → (inI l3) → (inI l4) → (inI l5) → J 0 [l1, l2, l3, l4, l5] G Q → Tg W0 (j 0) [rf (16081), cI (l1), cI (l2), cI (l3), cI (l4), cI (l5)] [] G (fun r G => ∃ v, r = cI v ∧ (0 ≤ v ∧ v ≤ 1) ∧ Q v G)) (h : PX13_hasBridge_37 J l1 l2 l3 l4 l5 G Q) : Tg W0 (vX13_hasBridge_37 j) [rf (16081), cI (l1), cI (l2), cI (l3), cI (l4), cI (l5)] [] G (fun r G => ∃ v, r = cI v ∧ (0 ≤ v ∧ v ≤ 1) ∧ Q v G) := by
  unfold PX13_hasBridge_37 at h
  unfold vX13_hasBridge_37
  refine g_const (v := cI (1)) rfl ?_
  exact TX13_hasBridge_42 hl1 hl2 hl3 hl4 hl5 ⟨by omega, by omega⟩ hj0 h
def PX13_hasBridge_6 (J : Nat → List Int → gS → (Int → gS → Prop) → Prop) (l1 : Int) (l2 : Int) (l3 : Int) (l4 : Int) (l5 : Int) (G : gS) (Q : Int → gS → Prop) : Prop :=
  ((0 : Int) ≤ l1 ∧ ((l1 : Int) < 216 ∧ (inI (G 16115 l1) → ((l5 < G 16115 l1 → ((l4 = 0 → (inI ((l1 * 34) + l5) ∧ PX13_sameSign ((l1 * 34) + l5) l3 G (fun r8 G7 => (0 ≤ r8 ∧ r8 ≤ 1) → ((r8 = 0 → PX13_hasBridge_42 J l1 l2 l3 l4 l5 0 G7 Q) ∧ (¬ (r8 = 0) → PX13_hasBridge_37 J l1 l2 l3 l4 l5 G7 Q))))) ∧ (¬ (l4 = 0) → PX13_hasBridge_37 J l1 l2 l3 l4 l5 G Q))) ∧ (¬ (l5 < G 16115 l1) → ((0 ≤ l4 ∧ l4 ≤ 1) ∧ Q (l4) G))))))
set_option maxRecDepth 20000 in
theorem TX13_hasBridge_6 {j : Nat → rx_K} {J : Nat → List Int → gS → (Int → gS → Prop) → Prop} {l1 : Int} {l2 : Int} {l3 : Int} {l4 : Int} {l5 : Int} {G : gS} {Q : Int → gS → Prop} (hl1 : inI l1) (hl2 : inI l2) (hl3 : inI l3) (hl4 : inI l4) (hl5 : inI l5) (hj0 : ∀ (l1 : Int) (l2 : Int) (l3 : Int) (l4 : Int) (l5 : Int) (G : gS), (inI l1) → (inI l2) → (inI l3) → (inI l4) → (inI l5) → J 0 [l1, l2, l3, l4, l5] G Q → Tg W0 (j 0) [rf (16081), cI (l1), cI (l2), cI (l3), cI (l4), cI (l5)] [] G (fun r G => ∃ v, r = cI v ∧ (0 ≤ v ∧ v ≤ 1) ∧ Q v G)) (h : PX13_hasBridge_6 J l1 l2 l3 l4 l5 G Q) : Tg W0 (vX13_hasBridge_6 j) [rf (16081), cI (l1), cI (l2), cI (l3), cI (l4), cI (l5)] [] G (fun r G => ∃ v, r = cI v ∧ (0 ≤ v ∧ v ≤ 1) ∧ Q v G) := by
  unfold PX13_hasBridge_6 at h
  unfold vX13_hasBridge_6
  refine g_ld (v := cI _) rfl (is_I _) ?_
  refine g_ld (v := rf _) rfl (is_R _) ?_
  refine g_getF (v := 16115) oC13 (hC13_41) rfl (Nat.le_of_ble_eq_true rfl) (Nat.le_of_ble_eq_true rfl) ?_
  refine g_ld (v := cI _) rfl (is_I _) ?_
  obtain ⟨q1, q2, h⟩ := h
  refine g_aldI aC16115 q1 q2 rfl fun i3 => ?_
  replace h := h i3
  refine g_lt2 hl5 i3 (fun b4 => ?_) (fun b4 => ?_)
  · replace h := h.1 b4
    unfold vX13_hasBridge_17
    refine g_ld (v := cI _) rfl (is_I _) ?_
    refine g_eq1 hl4 (fun b5 => ?_) (fun b5 => ?_)
    · replace h := h.1 b5
      unfold vX13_hasBridge_22
      refine g_ld (v := rf _) rfl (is_R _) ?_
      refine g_ld (v := cI _) rfl (is_I _) ?_
      refine g_const (v := cI (34)) rfl ?_
      refine g_mul ?_
      refine g_ld (v := cI _) rfl (is_I _) ?_
      refine g_add ?_
      refine g_ld (v := cI _) rfl (is_I _) ?_
      obtain ⟨q6, h⟩ := h
      refine g_callV (As := [_, _]) (ci := 13) oC13 (fun _ => rfl) ?_
      refine g_go1 (Nat.le_of_ble_eq_true rfl) (Tn_w (TX13_sameSign q6 hl3 h) fun _ G7 ⟨r8, e, i9, h⟩ => ?_)
      subst e
      refine ⟨n7_I _, ?_⟩
      replace h := h i9
      refine g_eq1 ⟨by omega, by omega⟩ (fun b10 => ?_) (fun b10 => ?_)
      · replace h := h.1 b10
        unfold vX13_hasBridge_41
        refine g_const (v := cI (0)) rfl ?_
        exact TX13_hasBridge_42 hl1 hl2 hl3 hl4 hl5 ⟨by omega, by omega⟩ hj0 h
      · replace h := h.2 b10
        exact TX13_hasBridge_37 hl1 hl2 hl3 hl4 hl5 hj0 h
    · replace h := h.2 b5
      exact TX13_hasBridge_37 hl1 hl2 hl3 hl4 hl5 hj0 h
  · replace h := h.2 b4
    unfold vX13_hasBridge_50
    refine g_ld (v := cI _) rfl (is_I _) ?_
    obtain ⟨q11, h⟩ := h
    exact g_ret1 (is_Z q11) ⟨_, rfl, q11, h⟩
def PX13_hasBridge_0 (J : Nat → List Int → gS → (Int → gS → Prop) → Prop) (a1 : Int) (a2 : Int) (a3 : Int) (G : gS) (Q : Int → gS → Prop) : Prop :=
  PX13_hasBridge_6 J a1 a2 a3 0 a2 G Q
set_option maxRecDepth 20000 in
theorem TX13_hasBridge_0 {j : Nat → rx_K} {J : Nat → List Int → gS → (Int → gS → Prop) → Prop} {a1 : Int} {a2 : Int} {a3 : Int} {G : gS} {Q : Int → gS → Prop} (ha1 : inI a1) (ha2 : inI a2) (ha3 : inI a3) (hj0 : ∀ (l1 : Int) (l2 : Int) (l3 : Int) (l4 : Int) (l5 : Int) (G : gS), (inI l1) → (inI l2) → (inI l3) → (inI l4) → (inI l5) → J 0 [l1, l2, l3, l4, l5] G Q → Tg W0 (j 0) [rf (16081), cI (l1), cI (l2), cI (l3), cI (l4), cI (l5)] [] G (fun r G => ∃ v, r = cI v ∧ (0 ≤ v ∧ v ≤ 1) ∧ Q v G)) (h : PX13_hasBridge_0 J a1 a2 a3 G Q) : Tg W0 (vX13_hasBridge_0 j) [rf (16081), cI (a1), cI (a2), cI (a3), 7, 7] [] G (fun r G => ∃ v, r = cI v ∧ (0 ≤ v ∧ v ≤ 1) ∧ Q v G) := by
  unfold PX13_hasBridge_0 at h
  unfold vX13_hasBridge_0
  refine g_const (v := cI (0)) rfl ?_
  refine g_st (lv' := [_, _, _, _, _, _]) (is_I _) (Nat.le_of_ble_eq_true rfl) (Or.inr (n1_I _)) rfl ?_
  refine g_ld (v := cI _) rfl (is_I _) ?_
  refine g_st (lv' := [_, _, _, _, _, _]) (is_I _) (Nat.le_of_ble_eq_true rfl) (Or.inr (n1_I _)) rfl ?_
  exact TX13_hasBridge_6 ha1 ha2 ha3 ⟨by omega, by omega⟩ ha2 hj0 h
def PX13_hasBridge_J : Nat → Nat → List Int → gS → (Int → gS → Prop) → Prop
  | 0, _, _, _, _ => False
  | f + 1, h, L, G, Q => match h, L with
    | 0, [l1, l2, l3, l4, l5] => PX13_hasBridge_6 (PX13_hasBridge_J f) l1 l2 l3 l4 l5 G Q
    | _, _ => False
theorem TX13_hasBridge_J {Q : Int → gS → Prop} : ∀ f N : Nat, f ≤ N → (∀ (l1 : Int) (l2 : Int) (l3 : Int) (l4 : Int) (l5 : Int) (G : gS), (inI l1) → (inI l2) → (inI l3) → (inI l4) → (inI l5) → (PX13_hasBridge_J f) 0 [l1, l2, l3, l4, l5] G Q → Tg W0 (rx_J vhX13_hasBridge N 0) [rf (16081), cI (l1), cI (l2), cI (l3), cI (l4), cI (l5)] [] G (fun r G => ∃ v, r = cI v ∧ (0 ≤ v ∧ v ≤ 1) ∧ Q v G)) := by
  intro f
  induction f with
  | zero => exact fun N _ => fun _ _ _ _ _ _ _ _ _ _ _ h => h.elim
  | succ f ih =>
    intro N hN
    obtain ⟨M, rfl⟩ : ∃ M, N = M + 1 := ⟨N - 1, by omega⟩
    have ih := ih M (by omega)
    exact fun _ _ _ _ _ _ hl1 hl2 hl3 hl4 hl5 h => show Tg W0 (vX13_hasBridge_6 (rx_J vhX13_hasBridge M)) _ _ _ _ from TX13_hasBridge_6 hl1 hl2 hl3 hl4 hl5 ih h
def PX13_hasBridge (a1 : Int) (a2 : Int) (a3 : Int) (G : gS) (Q : Int → gS → Prop) : Prop := ∃ f : Nat, f ≤ 4000000000 ∧ PX13_hasBridge_0 (PX13_hasBridge_J f) a1 a2 a3 G Q
theorem TX13_hasBridge {a1 : Int} {a2 : Int} {a3 : Int} {G : gS} {Q : Int → gS → Prop} (ha1 : inI a1) (ha2 : inI a2) (ha3 : inI a3) (h : PX13_hasBridge a1 a2 a3 G Q) : Tn W0 FX13_hasBridge [rf (16081), cI (a1), cI (a2), cI (a3)] G (fun r G => ∃ v, r = cI v ∧ (0 ≤ v ∧ v ≤ 1) ∧ Q v G) := by
  obtain ⟨f, hf, h⟩ := h
  have hJ := TX13_hasBridge_J (Q := Q) f 4000000000 hf
  unfold FX13_hasBridge
  refine g_ent (lv' := [rf (16081), cI (a1), cI (a2), cI (a3), 7, 7]) (flR (flI (flI (flI fl0)))) (Nat.le_of_ble_eq_true rfl) rfl ?_
  exact TX13_hasBridge_0 ha1 ha2 ha3 hJ h
def PX13_bridges_204 (J : Nat → List Int → gS → (Int → gS → Prop) → Prop) (l1 : Int) (l2 : Int) (l3 : Int) (l4 : Int) (G : gS) (Q : Int → gS → Prop) : Prop :=
  Q 0 G
set_option maxRecDepth 20000 in
theorem TX13_bridges_204 {j : Nat → rx_K} {J : Nat → List Int → gS → (Int → gS → Prop) → Prop} {l1 : Int} {l2 : Int} {l3 : Int} {l4 : Int} {l5 : Nat} {l6 : Nat} {l7 : Nat} {l8 : Nat} {G : gS} {Q : Int → gS → Prop} (hl1 : inI l1) (hl2 : inI l2) (hl3 : inI l3) (hl4 : inI l4) (hl5 : l5 % 8 ≠ 1) (hl6 : l6 % 8 ≠ 1) (hl7 : l7 % 8 ≠ 1) (hl8 : l8 % 8 ≠ 1) (hj0 : ∀ (l1 : Int) (l2 : Int) (l3 : Int) (l4 : Int) (l5 : Nat) (l6 : Nat) (l7 : Nat) (l8 : Nat) (G : gS), (inI l1) → (inI l2) → (inI l3) → (inI l4) → (l5 % 8 ≠ 1) → (l6 % 8 ≠ 1) → (l7 % 8 ≠ 1) → (l8 % 8 ≠ 1) → J 0 [l1, l2, l3, l4] G Q → Tg W0 (j 0) [rf (16081), cI (l1), cI (l2), cI (l3), cI (l4), l5, l6, l7, l8] [] G (fun r G => r = 7 ∧ Q 0 G)) (hj1 : ∀ (l1 : Int) (l2 : Int) (l3 : Int) (l4 : Int) (l5 : Int) (l6 : Int) (l7 : Nat) (l8 : Nat) (G : gS), (inI l1) → (inI l2) → (inI l3) → (inI l4) → (inI l5) → (inI l6) → (l7 % 8 ≠ 1) → (l8 % 8 ≠ 1) → J 1 [l1, l2, l3, l4, l5, l6] G Q → Tg W0 (j 1) [rf (16081), cI (l1), cI (l2), cI (l3), cI (l4), cI (l5), cI (l6), l7, l8] [] G (fun r G => r = 7 ∧ Q 0 G)) (h : PX13_bridges_204 J l1 l2 l3 l4 G Q) : Tg W0 (vX13_bridges_204 j) [rf (16081), cI (l1), cI (l2), cI (l3), cI (l4), l5, l6, l7, l8] [] G (fun r G => r = 7 ∧ Q 0 G) := by
  unfold PX13_bridges_204 at h
  unfold vX13_bridges_204
  exact g_ret0 ⟨rfl, h⟩
def PX13_bridges_198 (J : Nat → List Int → gS → (Int → gS → Prop) → Prop) (l1 : Int) (l2 : Int) (l3 : Int) (l4 : Int) (l5 : Int) (G : gS) (Q : Int → gS → Prop) : Prop :=
  (inI (l4 + 1) ∧ J 0 [l1, l2, l3, l4 + 1] G Q)
set_option maxRecDepth 20000 in
theorem TX13_bridges_198 {j : Nat → rx_K} {J : Nat → List Int → gS → (Int → gS → Prop) → Prop} {l1 : Int} {l2 : Int} {l3 : Int} {l4 : Int} {l5 : Int} {l6 : Nat} {l7 : Nat} {l8 : Nat} {G : gS} {Q : Int → gS → Prop} (hl1 : inI l1) (hl2 : inI l2) (hl3 : inI l3) (hl4 : inI l4) (hl5 : inI l5) (hl6 : l6 % 8 ≠ 1) (hl7 : l7 % 8 ≠ 1) (hl8 : l8 % 8 ≠ 1) (hj0 : ∀ (l1 : Int) (l2 : Int) (l3 : Int) (l4 : Int) (l5 : Nat) (l6 : Nat) (l7 : Nat) (l8 : Nat) (G : gS), (inI l1) → (inI l2) → (inI l3) → (inI l4) → (l5 % 8 ≠ 1) → (l6 % 8 ≠ 1) → (l7 % 8 ≠ 1) → (l8 % 8 ≠ 1) → J 0 [l1, l2, l3, l4] G Q → Tg W0 (j 0) [rf (16081), cI (l1), cI (l2), cI (l3), cI (l4), l5, l6, l7, l8] [] G (fun r G => r = 7 ∧ Q 0 G)) (hj1 : ∀ (l1 : Int) (l2 : Int) (l3 : Int) (l4 : Int) (l5 : Int) (l6 : Int) (l7 : Nat) (l8 : Nat) (G : gS), (inI l1) → (inI l2) → (inI l3) → (inI l4) → (inI l5) → (inI l6) → (l7 % 8 ≠ 1) → (l8 % 8 ≠ 1) → J 1 [l1, l2, l3, l4, l5, l6] G Q → Tg W0 (j 1) [rf (16081), cI (l1), cI (l2), cI (l3), cI (l4), cI (l5), cI (l6), l7, l8] [] G (fun r G => r = 7 ∧ Q 0 G)) (h : PX13_bridges_198 J l1 l2 l3 l4 l5 G Q) : Tg W0 (vX13_bridges_198 j) [rf (16081), cI (l1), cI (l2), cI (l3), cI (l4), cI (l5), l6, l7, l8] [] G (fun r G => r = 7 ∧ Q 0 G) := by
  unfold PX13_bridges_198 at h
  unfold vX13_bridges_198
  refine g_inc (lv' := [_, _, _, _, _, _, _, _, _]) rfl (Nat.le_of_ble_eq_true rfl) (Or.inr (n1_I _)) rfl ?_
  obtain ⟨q22, h⟩ := h
  exact hj0 _ _ _ _ _ _ _ _ _ hl1 hl2 hl3 q22 (n1_I _) hl6 hl7 hl8 h
def PX13_bridges_192 (J : Nat → List Int → gS → (Int → gS → Prop) → Prop) (l1 : Int) (l2 : Int) (l3 : Int) (l4 : Int) (l5 : Int) (l6 : Int) (l7 : Int) (l8 : Int) (G : gS) (Q : Int → gS → Prop) : Prop :=
  (inI (l6 + 1) ∧ J 1 [l1, l2, l3, l4, l5, l6 + 1] G Q)
set_option maxRecDepth 20000 in
theorem TX13_bridges_192 {j : Nat → rx_K} {J : Nat → List Int → gS → (Int → gS → Prop) → Prop} {l1 : Int} {l2 : Int} {l3 : Int} {l4 : Int} {l5 : Int} {l6 : Int} {l7 : Int} {l8 : Int} {G : gS} {Q : Int → gS → Prop} (hl1 : inI l1) (hl2 : inI l2) (hl3 : inI l3) (hl4 : inI l4) (hl5 : inI l5) (hl6 : inI l6) (hl7 : inI l7) (hl8 : inI l8) (hj0 : ∀ (l1 : Int) (l2 : Int) (l3 : Int) (l4 : Int) (l5 : Nat) (l6 : Nat) (l7 : Nat) (l8 : Nat) (G : gS), (inI l1) → (inI l2) → (inI l3) → (inI l4) → (l5 % 8 ≠ 1) → (l6 % 8 ≠ 1) → (l7 % 8 ≠ 1) → (l8 % 8 ≠ 1) → J 0 [l1, l2, l3, l4] G Q → Tg W0 (j 0) [rf (16081), cI (l1), cI (l2), cI (l3), cI (l4), l5, l6, l7, l8] [] G (fun r G => r = 7 ∧ Q 0 G)) (hj1 : ∀ (l1 : Int) (l2 : Int) (l3 : Int) (l4 : Int) (l5 : Int) (l6 : Int) (l7 : Nat) (l8 : Nat) (G : gS), (inI l1) → (inI l2) → (inI l3) → (inI l4) → (inI l5) → (inI l6) → (l7 % 8 ≠ 1) → (l8 % 8 ≠ 1) → J 1 [l1, l2, l3, l4, l5, l6] G Q → Tg W0 (j 1) [rf (16081), cI (l1), cI (l2), cI (l3), cI (l4), cI (l5), cI (l6), l7, l8] [] G (fun r G => r = 7 ∧ Q 0 G)) (h : PX13_bridges_192 J l1 l2 l3 l4 l5 l6 l7 l8 G Q) : Tg W0 (vX13_bridges_192 j) [rf (16081), cI (l1), cI (l2), cI (l3), cI (l4), cI (l5), cI (l6), cI (l7), cI (l8)] [] G (fun r G => r = 7 ∧ Q 0 G) := by
  unfold PX13_bridges_192 at h
  unfold vX13_bridges_192
  refine g_inc (lv' := [_, _, _, _, _, _, _, _, _]) rfl (Nat.le_of_ble_eq_true rfl) (Or.inr (n1_I _)) rfl ?_
  obtain ⟨q60, h⟩ := h
  exact hj1 _ _ _ _ _ _ _ _ _ hl1 hl2 hl3 hl4 hl5 q60 (n1_I _) (n1_I _) h
def PX13_bridges_169 (J : Nat → List Int → gS → (Int → gS → Prop) → Prop) (l1 : Int) (l2 : Int) (l3 : Int) (l4 : Int) (l5 : Int) (l6 : Int) (l7 : Int) (l8 : Int) (G : gS) (Q : Int → gS → Prop) : Prop :=
  ((l8 = 0 → PX13_bridges_192 J l1 l2 l3 l4 l5 l6 l7 l8 G Q) ∧ (¬ (l8 = 0) → ((0 : Int) ≤ l7 ∧ ((l7 : Int) < 7344 ∧ (inL (G 16127 l7) → PX13_bridge l1 l5 (G 16127 l7) G (fun r57 G56 => inI r57 → (inI (l3 + 1) ∧ PX13_bridges_192 J l1 l2 (l3 + 1) l4 l5 l6 l7 l8 G56 Q)))))))
set_option maxRecDepth 20000 in
theorem TX13_bridges_169 {j : Nat → rx_K} {J : Nat → List Int → gS → (Int → gS → Prop) → Prop} {l1 : Int} {l2 : Int} {l3 : Int} {l4 : Int} {l5 : Int} {l6 : Int} {l7 : Int} {l8 : Int} {G : gS} {Q : Int → gS → Prop} (hl1 : inI l1) (hl2 : inI l2) (hl3 : inI l3) (hl4 : inI l4) (hl5 : inI l5) (hl6 : inI l6) (hl7 : inI l7) (hl8 : inI l8) (hj0 : ∀ (l1 : Int) (l2 : Int) (l3 : Int) (l4 : Int) (l5 : Nat) (l6 : Nat) (l7 : Nat) (l8 : Nat) (G : gS), (inI l1) → (inI l2) → (inI l3) → (inI l4) → (l5 % 8 ≠ 1) → (l6 % 8 ≠ 1) → (l7 % 8 ≠ 1) → (l8 % 8 ≠ 1) → J 0 [l1, l2, l3, l4] G Q → Tg W0 (j 0) [rf (16081), cI (l1), cI (l2), cI (l3), cI (l4), l5, l6, l7, l8] [] G (fun r G => r = 7 ∧ Q 0 G)) (hj1 : ∀ (l1 : Int) (l2 : Int) (l3 : Int) (l4 : Int) (l5 : Int) (l6 : Int) (l7 : Nat) (l8 : Nat) (G : gS), (inI l1) → (inI l2) → (inI l3) → (inI l4) → (inI l5) → (inI l6) → (l7 % 8 ≠ 1) → (l8 % 8 ≠ 1) → J 1 [l1, l2, l3, l4, l5, l6] G Q → Tg W0 (j 1) [rf (16081), cI (l1), cI (l2), cI (l3), cI (l4), cI (l5), cI (l6), l7, l8] [] G (fun r G => r = 7 ∧ Q 0 G)) (h : PX13_bridges_169 J l1 l2 l3 l4 l5 l6 l7 l8 G Q) : Tg W0 (vX13_bridges_169 j) [rf (16081), cI (l1), cI (l2), cI (l3), cI (l4), cI (l5), cI (l6), cI (l7), cI (l8)] [] G (fun r G => r = 7 ∧ Q 0 G) := by
  unfold PX13_bridges_169 at h
  unfold vX13_bridges_169
  refine g_ld (v := cI _) rfl (is_I _) ?_
  refine g_eq1 hl8 (fun b52 => ?_) (fun b52 => ?_)
  · replace h := h.1 b52
    exact TX13_bridges_192 hl1 hl2 hl3 hl4 hl5 hl6 hl7 hl8 hj0 hj1 h
  · replace h := h.2 b52
    unfold vX13_bridges_174
    refine g_ld (v := rf _) rfl (is_R _) ?_
    refine g_ld (v := cI _) rfl (is_I _) ?_
    refine g_ld (v := cI _) rfl (is_I _) ?_
    refine g_ld (v := rf _) rfl (is_R _) ?_
    refine g_getF (v := 16127) oC13 (hC13_53) rfl (Nat.le_of_ble_eq_true rfl) (Nat.le_of_ble_eq_true rfl) ?_
    refine g_ld (v := cI _) rfl (is_I _) ?_
    obtain ⟨q53, q54, h⟩ := h
    refine g_aldL aC16127 q53 q54 rfl fun i55 => ?_
    replace h := h i55
    refine g_callV (As := [_, _, _]) (ci := 13) oC13 (fun _ => rfl) ?_
    refine g_go1 (Nat.le_of_ble_eq_true rfl) (Tn_w (TX13_bridge hl1 hl5 i55 h) fun _ G56 ⟨r57, e, i58, h⟩ => ?_)
    subst e
    refine ⟨n7_I _, ?_⟩
    replace h := h i58
    refine g_pop (ct_I _) ?_
    refine g_inc (lv' := [_, _, _, _, _, _, _, _, _]) rfl (Nat.le_of_ble_eq_true rfl) (Or.inr (n1_I _)) rfl ?_
    obtain ⟨q59, h⟩ := h
    exact TX13_bridges_192 hl1 hl2 q59 hl4 hl5 hl6 hl7 hl8 hj0 hj1 h
def PX13_bridges_142 (J : Nat → List Int → gS → (Int → gS → Prop) → Prop) (l1 : Int) (l2 : Int) (l3 : Int) (l4 : Int) (l5 : Int) (l6 : Int) (l7 : Int) (s0 : Int) (G : gS) (Q : Int → gS → Prop) : Prop :=
  ((s0 = 0 → PX13_bridges_169 J l1 l2 l3 l4 l5 l6 l7 s0 G Q) ∧ (¬ (s0 = 0) → ((l3 = 12 → ((0 : Int) ≤ l1 ∧ ((l1 : Int) < 216 ∧ (inI (G 16099 l1) → PX13_fault 3 (G 16099 l1) G (fun _ G50 => PX13_bridges_192 J l1 l2 l3 l4 l5 l6 l7 s0 G50 Q))))) ∧ (¬ (l3 = 12) → PX13_bridges_169 J l1 l2 l3 l4 l5 l6 l7 s0 G Q))))
set_option maxRecDepth 20000 in
theorem TX13_bridges_142 {j : Nat → rx_K} {J : Nat → List Int → gS → (Int → gS → Prop) → Prop} {l1 : Int} {l2 : Int} {l3 : Int} {l4 : Int} {l5 : Int} {l6 : Int} {l7 : Int} {l8 : Nat} {s0 : Int} {G : gS} {Q : Int → gS → Prop} (hl1 : inI l1) (hl2 : inI l2) (hl3 : inI l3) (hl4 : inI l4) (hl5 : inI l5) (hl6 : inI l6) (hl7 : inI l7) (hl8 : l8 % 8 ≠ 1) (hs0 : inI s0) (hj0 : ∀ (l1 : Int) (l2 : Int) (l3 : Int) (l4 : Int) (l5 : Nat) (l6 : Nat) (l7 : Nat) (l8 : Nat) (G : gS), (inI l1) → (inI l2) → (inI l3) → (inI l4) → (l5 % 8 ≠ 1) → (l6 % 8 ≠ 1) → (l7 % 8 ≠ 1) → (l8 % 8 ≠ 1) → J 0 [l1, l2, l3, l4] G Q → Tg W0 (j 0) [rf (16081), cI (l1), cI (l2), cI (l3), cI (l4), l5, l6, l7, l8] [] G (fun r G => r = 7 ∧ Q 0 G)) (hj1 : ∀ (l1 : Int) (l2 : Int) (l3 : Int) (l4 : Int) (l5 : Int) (l6 : Int) (l7 : Nat) (l8 : Nat) (G : gS), (inI l1) → (inI l2) → (inI l3) → (inI l4) → (inI l5) → (inI l6) → (l7 % 8 ≠ 1) → (l8 % 8 ≠ 1) → J 1 [l1, l2, l3, l4, l5, l6] G Q → Tg W0 (j 1) [rf (16081), cI (l1), cI (l2), cI (l3), cI (l4), cI (l5), cI (l6), l7, l8] [] G (fun r G => r = 7 ∧ Q 0 G)) (h : PX13_bridges_142 J l1 l2 l3 l4 l5 l6 l7 s0 G Q) : Tg W0 (vX13_bridges_142 j) [rf (16081), cI (l1), cI (l2), cI (l3), cI (l4), cI (l5), cI (l6), cI (l7), l8] [cI (s0)] G (fun r G => r = 7 ∧ Q 0 G) := by
  unfold PX13_bridges_142 at h
  unfold vX13_bridges_142
  refine g_st (lv' := [_, _, _, _, _, _, _, _, _]) (is_I _) (Nat.le_of_ble_eq_true rfl) (Or.inr (n1_I _)) rfl ?_
  refine g_ld (v := cI _) rfl (is_I _) ?_
  refine g_eq1 hs0 (fun b45 => ?_) (fun b45 => ?_)
  · replace h := h.1 b45
    exact TX13_bridges_169 hl1 hl2 hl3 hl4 hl5 hl6 hl7 hs0 hj0 hj1 h
  · replace h := h.2 b45
    unfold vX13_bridges_149
    refine g_ld (v := cI _) rfl (is_I _) ?_
    refine g_const (v := cI (12)) rfl ?_
    refine g_eq2 hl3 ⟨by omega, by omega⟩ (fun b46 => ?_) (fun b46 => ?_)
    · replace h := h.1 b46
      unfold vX13_bridges_155
      refine g_ld (v := rf _) rfl (is_R _) ?_
      refine g_const (v := cI (3)) rfl ?_
      refine g_ld (v := rf _) rfl (is_R _) ?_
      refine g_getF (v := 16099) oC13 (hC13_25) rfl (Nat.le_of_ble_eq_true rfl) (Nat.le_of_ble_eq_true rfl) ?_
      refine g_ld (v := cI _) rfl (is_I _) ?_
      obtain ⟨q47, q48, h⟩ := h
      refine g_aldI aC16099 q47 q48 rfl fun i49 => ?_
      replace h := h i49
      refine g_callV (As := [_, _]) (ci := 13) oC13 (fun _ => rfl) ?_
      refine g_go0 (Nat.le_of_ble_eq_true rfl) (Tn_w (TX13_fault ⟨by omega, by omega⟩ i49 h) fun _ G50 ⟨e, h⟩ => ⟨e, ?_⟩)
      exact TX13_bridges_192 hl1 hl2 hl3 hl4 hl5 hl6 hl7 hs0 hj0 hj1 h
    · replace h := h.2 b46
      exact TX13_bridges_169 hl1 hl2 hl3 hl4 hl5 hl6 hl7 hs0 hj0 hj1 h
def PX13_bridges_141 (J : Nat → List Int → gS → (Int → gS → Prop) → Prop) (l1 : Int) (l2 : Int) (l3 : Int) (l4 : Int) (l5 : Int) (l6 : Int) (l7 : Int) (G : gS) (Q : Int → gS → Prop) : Prop :=
  PX13_bridges_142 J l1 l2 l3 l4 l5 l6 l7 0 G Q
set_option maxRecDepth 20000 in
theorem TX13_bridges_141 {j : Nat → rx_K} {J : Nat → List Int → gS → (Int → gS → Prop) → Prop} {l1 : Int} {l2 : Int} {l3 : Int} {l4 : Int} {l5 : Int} {l6 : Int} {l7 : Int} {l8 : Nat} {G : gS} {Q : Int → gS → Prop} (hl1 : inI l1) (hl2 : inI l2) (hl3 : inI l3) (hl4 : inI l4) (hl5 : inI l5) (hl6 : inI l6) (hl7 : inI l7) (hl8 : l8 % 8 ≠ 1) (hj0 : ∀ (l1 : Int) (l2 : Int) (l3 : Int) (l4 : Int) (l5 : Nat) (l6 : Nat) (l7 : Nat) (l8 : Nat) (G : gS), (inI l1) → (inI l2) → (inI l3) → (inI l4) → (l5 % 8 ≠ 1) → (l6 % 8 ≠ 1) → (l7 % 8 ≠ 1) → (l8 % 8 ≠ 1) → J 0 [l1, l2, l3, l4] G Q → Tg W0 (j 0) [rf (16081), cI (l1), cI (l2), cI (l3), cI (l4), l5, l6, l7, l8] [] G (fun r G => r = 7 ∧ Q 0 G)) (hj1 : ∀ (l1 : Int) (l2 : Int) (l3 : Int) (l4 : Int) (l5 : Int) (l6 : Int) (l7 : Nat) (l8 : Nat) (G : gS), (inI l1) → (inI l2) → (inI l3) → (inI l4) → (inI l5) → (inI l6) → (l7 % 8 ≠ 1) → (l8 % 8 ≠ 1) → J 1 [l1, l2, l3, l4, l5, l6] G Q → Tg W0 (j 1) [rf (16081), cI (l1), cI (l2), cI (l3), cI (l4), cI (l5), cI (l6), l7, l8] [] G (fun r G => r = 7 ∧ Q 0 G)) (h : PX13_bridges_141 J l1 l2 l3 l4 l5 l6 l7 G Q) : Tg W0 (vX13_bridges_141 j) [rf (16081), cI (l1), cI (l2), cI (l3), cI (l4), cI (l5), cI (l6), cI (l7), l8] [] G (fun r G => r = 7 ∧ Q 0 G) := by
  unfold PX13_bridges_141 at h
  unfold vX13_bridges_141
  refine g_const (v := cI (0)) rfl ?_
  exact TX13_bridges_142 hl1 hl2 hl3 hl4 hl5 hl6 hl7 hl8 ⟨by omega, by omega⟩ hj0 hj1 h
def PX13_bridges_73 (J : Nat → List Int → gS → (Int → gS → Prop) → Prop) (l1 : Int) (l2 : Int) (l3 : Int) (l4 : Int) (l5 : Int) (l6 : Int) (G : gS) (Q : Int → gS → Prop) : Prop :=
  (inI (G 16081 104) → ((l6 < G 16081 104 → (inI (G 16081 20) → ((G 16081 20 = 0 → ((0 : Int) ≤ l6 ∧ ((l6 : Int) < 432 ∧ (inI (G 16170 l6) → ((0 : Int) ≤ G 16170 l6 ∧ ((G 16170 l6 : Int) < 7344 ∧ ((0 ≤ G 16119 (G 16170 l6) ∧ G 16119 (G 16170 l6) ≤ 1) → ((G 16119 (G 16170 l6) = 0 → ((0 : Int) ≤ G 16170 l6 ∧ ((G 16170 l6 : Int) < 7344 ∧ (inL (G 16127 (G 16170 l6)) → ((0 : Int) ≤ l5 ∧ ((l5 : Int) < 7344 ∧ (inL (G 16127 l5) → ((G 16127 (G 16170 l6) = G 16127 l5 → PX13_bridges_141 J l1 l2 l3 l4 l5 l6 (G 16170 l6) G Q) ∧ (¬ (G 16127 (G 16170 l6) = G 16127 l5) → PX13_hasBridge l1 l2 (G 16170 l6) G (fun r42 G41 => (0 ≤ r42 ∧ r42 ≤ 1) → ((r42 = 0 → PX13_bridges_142 J l1 l2 l3 l4 l5 l6 (G 16170 l6) 1 G41 Q) ∧ (¬ (r42 = 0) → PX13_bridges_141 J l1 l2 l3 l4 l5 l6 (G 16170 l6) G41 Q)))))))))))) ∧ (¬ (G 16119 (G 16170 l6) = 0) → PX13_bridges_141 J l1 l2 l3 l4 l5 l6 (G 16170 l6) G Q))))))))) ∧ (¬ (G 16081 20 = 0) → PX13_bridges_198 J l1 l2 l3 l4 l5 G Q)))) ∧ (¬ (l6 < G 16081 104) → PX13_bridges_198 J l1 l2 l3 l4 l5 G Q)))
set_option maxRecDepth 20000 in
theorem TX13_bridges_73 {j : Nat → rx_K} {J : Nat → List Int → gS → (Int → gS → Prop) → Prop} {l1 : Int} {l2 : Int} {l3 : Int} {l4 : Int} {l5 : Int} {l6 : Int} {l7 : Nat} {l8 : Nat} {G : gS} {Q : Int → gS → Prop} (hl1 : inI l1) (hl2 : inI l2) (hl3 : inI l3) (hl4 : inI l4) (hl5 : inI l5) (hl6 : inI l6) (hl7 : l7 % 8 ≠ 1) (hl8 : l8 % 8 ≠ 1) (hj0 : ∀ (l1 : Int) (l2 : Int) (l3 : Int) (l4 : Int) (l5 : Nat) (l6 : Nat) (l7 : Nat) (l8 : Nat) (G : gS), (inI l1) → (inI l2) → (inI l3) → (inI l4) → (l5 % 8 ≠ 1) → (l6 % 8 ≠ 1) → (l7 % 8 ≠ 1) → (l8 % 8 ≠ 1) → J 0 [l1, l2, l3, l4] G Q → Tg W0 (j 0) [rf (16081), cI (l1), cI (l2), cI (l3), cI (l4), l5, l6, l7, l8] [] G (fun r G => r = 7 ∧ Q 0 G)) (hj1 : ∀ (l1 : Int) (l2 : Int) (l3 : Int) (l4 : Int) (l5 : Int) (l6 : Int) (l7 : Nat) (l8 : Nat) (G : gS), (inI l1) → (inI l2) → (inI l3) → (inI l4) → (inI l5) → (inI l6) → (l7 % 8 ≠ 1) → (l8 % 8 ≠ 1) → J 1 [l1, l2, l3, l4, l5, l6] G Q → Tg W0 (j 1) [rf (16081), cI (l1), cI (l2), cI (l3), cI (l4), cI (l5), cI (l6), l7, l8] [] G (fun r G => r = 7 ∧ Q 0 G)) (h : PX13_bridges_73 J l1 l2 l3 l4 l5 l6 G Q) : Tg W0 (vX13_bridges_73 j) [rf (16081), cI (l1), cI (l2), cI (l3), cI (l4), cI (l5), cI (l6), l7, l8] [] G (fun r G => r = 7 ∧ Q 0 G) := by
  unfold PX13_bridges_73 at h
  unfold vX13_bridges_73
  refine g_ld (v := cI _) rfl (is_I _) ?_
  refine g_ld (v := rf _) rfl (is_R _) ?_
  refine g_getI (kz := 104) oC13 rfl (Nat.le_of_ble_eq_true rfl) rfl fun i23 => ?_
  replace h := h i23
  refine g_lt2 hl6 i23 (fun b24 => ?_) (fun b24 => ?_)
  · replace h := h.1 b24
    unfold vX13_bridges_82
    refine g_ld (v := rf _) rfl (is_R _) ?_
    refine g_getI (kz := 20) oC13 rfl (Nat.le_of_ble_eq_true rfl) rfl fun i25 => ?_
    replace h := h i25
    refine g_eq1 i25 (fun b26 => ?_) (fun b26 => ?_)
    · replace h := h.1 b26
      unfold vX13_bridges_89
      refine g_ld (v := rf _) rfl (is_R _) ?_
      refine g_getF (v := 16170) oC13 (hC13_103) rfl (Nat.le_of_ble_eq_true rfl) (Nat.le_of_ble_eq_true rfl) ?_
      refine g_ld (v := cI _) rfl (is_I _) ?_
      obtain ⟨q27, q28, h⟩ := h
      refine g_aldI aC16170 q27 q28 rfl fun i29 => ?_
      replace h := h i29
      refine g_st (lv' := [_, _, _, _, _, _, _, _, _]) (is_I _) (Nat.le_of_ble_eq_true rfl) (Or.inr (n1_I _)) rfl ?_
      refine g_ld (v := rf _) rfl (is_R _) ?_
      refine g_getF (v := 16119) oC13 (hC13_45) rfl (Nat.le_of_ble_eq_true rfl) (Nat.le_of_ble_eq_true rfl) ?_
      refine g_ld (v := cI _) rfl (is_I _) ?_
      obtain ⟨q30, q31, h⟩ := h
      refine g_aldZ aC16119 q30 q31 rfl fun i32 => ?_
      replace h := h i32
      refine g_eq1 ⟨by omega, by omega⟩ (fun b33 => ?_) (fun b33 => ?_)
      · replace h := h.1 b33
        unfold vX13_bridges_108
        refine g_ld (v := rf _) rfl (is_R _) ?_
        refine g_getF (v := 16127) oC13 (hC13_53) rfl (Nat.le_of_ble_eq_true rfl) (Nat.le_of_ble_eq_true rfl) ?_
        refine g_ld (v := cI _) rfl (is_I _) ?_
        obtain ⟨q34, q35, h⟩ := h
        refine g_aldL aC16127 q34 q35 rfl fun i36 => ?_
        replace h := h i36
        refine g_ld (v := rf _) rfl (is_R _) ?_
        refine g_getF (v := 16127) oC13 (hC13_53) rfl (Nat.le_of_ble_eq_true rfl) (Nat.le_of_ble_eq_true rfl) ?_
        refine g_ld (v := cI _) rfl (is_I _) ?_
        obtain ⟨q37, q38, h⟩ := h
        refine g_aldL aC16127 q37 q38 rfl fun i39 => ?_
        replace h := h i39
        refine g_leq i36 i39 (fun b40 => ?_) (fun b40 => ?_)
        · replace h := h.1 b40
          exact TX13_bridges_141 hl1 hl2 hl3 hl4 hl5 hl6 i29 hl8 hj0 hj1 h
        · replace h := h.2 b40
          unfold vX13_bridges_126
          refine g_ld (v := rf _) rfl (is_R _) ?_
          refine g_ld (v := cI _) rfl (is_I _) ?_
          refine g_ld (v := cI _) rfl (is_I _) ?_
          refine g_ld (v := cI _) rfl (is_I _) ?_
          refine g_callV (As := [_, _, _]) (ci := 13) oC13 (fun _ => rfl) ?_
          refine g_go1 (Nat.le_of_ble_eq_true rfl) (Tn_w (TX13_hasBridge hl1 hl2 i29 h) fun _ G41 ⟨r42, e, i43, h⟩ => ?_)
          subst e
          refine ⟨n7_I _, ?_⟩
          replace h := h i43
          refine g_eq1 ⟨by omega, by omega⟩ (fun b44 => ?_) (fun b44 => ?_)
          · replace h := h.1 b44
            unfold vX13_bridges_137
            refine g_const (v := cI (1)) rfl ?_
            exact TX13_bridges_142 hl1 hl2 hl3 hl4 hl5 hl6 i29 hl8 ⟨by omega, by omega⟩ hj0 hj1 h
          · replace h := h.2 b44
            exact TX13_bridges_141 hl1 hl2 hl3 hl4 hl5 hl6 i29 hl8 hj0 hj1 h
      · replace h := h.2 b33
        exact TX13_bridges_141 hl1 hl2 hl3 hl4 hl5 hl6 i29 hl8 hj0 hj1 h
    · replace h := h.2 b26
      exact TX13_bridges_198 hl1 hl2 hl3 hl4 hl5 (n1_I _) hl7 hl8 hj0 hj1 h
  · replace h := h.2 b24
    exact TX13_bridges_198 hl1 hl2 hl3 hl4 hl5 (n1_I _) hl7 hl8 hj0 hj1 h
def PX13_bridges_12 (J : Nat → List Int → gS → (Int → gS → Prop) → Prop) (l1 : Int) (l2 : Int) (l3 : Int) (l4 : Int) (G : gS) (Q : Int → gS → Prop) : Prop :=
  ((l4 < l2 → (inI (G 16081 20) → ((G 16081 20 = 0 → (inI ((l1 * 34) + l4) ∧ ((0 : Int) ≤ (l1 * 34) + l4 ∧ (((l1 * 34) + l4 : Int) < 7344 ∧ (inI (G 16116 ((l1 * 34) + l4)) → ((G 16116 ((l1 * 34) + l4) = 1 → PX13_isFree ((l1 * 34) + l4) G (fun r13 G12 => (0 ≤ r13 ∧ r13 ≤ 1) → ((r13 = 0 → PX13_bridges_198 J l1 l2 l3 l4 ((l1 * 34) + l4) G12 Q) ∧ (¬ (r13 = 0) → ((0 : Int) ≤ (l1 * 34) + l4 ∧ (((l1 * 34) + l4 : Int) < 7344 ∧ ((0 ≤ G12 16121 ((l1 * 34) + l4) ∧ G12 16121 ((l1 * 34) + l4) ≤ 1) → ((G12 16121 ((l1 * 34) + l4) = 0 → PX13_findAbove ((l1 * 34) + l4) G12 (fun _ G20 => PX13_bridges_73 J l1 l2 l3 l4 ((l1 * 34) + l4) 0 G20 Q)) ∧ (¬ (G12 16121 ((l1 * 34) + l4) = 0) → PX13_bridges_198 J l1 l2 l3 l4 ((l1 * 34) + l4) G12 Q))))))))) ∧ (¬ (G 16116 ((l1 * 34) + l4) = 1) → PX13_bridges_198 J l1 l2 l3 l4 ((l1 * 34) + l4) G Q))))))) ∧ (¬ (G 16081 20 = 0) → PX13_bridges_204 J l1 l2 l3 l4 G Q)))) ∧ (¬ (l4 < l2) → PX13_bridges_204 J l1 l2 l3 l4 G Q))
set_option maxRecDepth 20000 in
theorem TX13_bridges_12 {j : Nat → rx_K} {J : Nat → List Int → gS → (Int → gS → Prop) → Prop} {l1 : Int} {l2 : Int} {l3 : Int} {l4 : Int} {l5 : Nat} {l6 : Nat} {l7 : Nat} {l8 : Nat} {G : gS} {Q : Int → gS → Prop} (hl1 : inI l1) (hl2 : inI l2) (hl3 : inI l3) (hl4 : inI l4) (hl5 : l5 % 8 ≠ 1) (hl6 : l6 % 8 ≠ 1) (hl7 : l7 % 8 ≠ 1) (hl8 : l8 % 8 ≠ 1) (hj0 : ∀ (l1 : Int) (l2 : Int) (l3 : Int) (l4 : Int) (l5 : Nat) (l6 : Nat) (l7 : Nat) (l8 : Nat) (G : gS), (inI l1) → (inI l2) → (inI l3) → (inI l4) → (l5 % 8 ≠ 1) → (l6 % 8 ≠ 1) → (l7 % 8 ≠ 1) → (l8 % 8 ≠ 1) → J 0 [l1, l2, l3, l4] G Q → Tg W0 (j 0) [rf (16081), cI (l1), cI (l2), cI (l3), cI (l4), l5, l6, l7, l8] [] G (fun r G => r = 7 ∧ Q 0 G)) (hj1 : ∀ (l1 : Int) (l2 : Int) (l3 : Int) (l4 : Int) (l5 : Int) (l6 : Int) (l7 : Nat) (l8 : Nat) (G : gS), (inI l1) → (inI l2) → (inI l3) → (inI l4) → (inI l5) → (inI l6) → (l7 % 8 ≠ 1) → (l8 % 8 ≠ 1) → J 1 [l1, l2, l3, l4, l5, l6] G Q → Tg W0 (j 1) [rf (16081), cI (l1), cI (l2), cI (l3), cI (l4), cI (l5), cI (l6), l7, l8] [] G (fun r G => r = 7 ∧ Q 0 G)) (h : PX13_bridges_12 J l1 l2 l3 l4 G Q) : Tg W0 (vX13_bridges_12 j) [rf (16081), cI (l1), cI (l2), cI (l3), cI (l4), l5, l6, l7, l8] [] G (fun r G => r = 7 ∧ Q 0 G) := by
  unfold PX13_bridges_12 at h
  unfold vX13_bridges_12
  refine g_ld (v := cI _) rfl (is_I _) ?_
  refine g_ld (v := cI _) rfl (is_I _) ?_
  refine g_lt2 hl4 hl2 (fun b4 => ?_) (fun b4 => ?_)
  · replace h := h.1 b4
    unfold vX13_bridges_18
    refine g_ld (v := rf _) rfl (is_R _) ?_
    refine g_getI (kz := 20) oC13 rfl (Nat.le_of_ble_eq_true rfl) rfl fun i5 => ?_
    replace h := h i5
    refine g_eq1 i5 (fun b6 => ?_) (fun b6 => ?_)
    · replace h := h.1 b6
      unfold vX13_bridges_25
      refine g_ld (v := cI _) rfl (is_I _) ?_
      refine g_const (v := cI (34)) rfl ?_
      refine g_mul ?_
      refine g_ld (v := cI _) rfl (is_I _) ?_
      refine g_add ?_
      refine g_st (lv' := [_, _, _, _, _, _, _, _, _]) (is_I _) (Nat.le_of_ble_eq_true rfl) (Or.inr (n1_I _)) rfl ?_
      obtain ⟨q7, h⟩ := h
      refine g_ld (v := rf _) rfl (is_R _) ?_
      refine g_getF (v := 16116) oC13 (hC13_42) rfl (Nat.le_of_ble_eq_true rfl) (Nat.le_of_ble_eq_true rfl) ?_
      refine g_ld (v := cI _) rfl (is_I _) ?_
      obtain ⟨q8, q9, h⟩ := h
      refine g_aldI aC16116 q8 q9 rfl fun i10 => ?_
      replace h := h i10
      refine g_const (v := cI (1)) rfl ?_
      refine g_eq2 i10 ⟨by omega, by omega⟩ (fun b11 => ?_) (fun b11 => ?_)
      · replace h := h.1 b11
        unfold vX13_bridges_45
        refine g_ld (v := rf _) rfl (is_R _) ?_
        refine g_ld (v := cI _) rfl (is_I _) ?_
        refine g_callV (As := [_]) (ci := 13) oC13 (fun _ => rfl) ?_
        refine g_go1 (Nat.le_of_ble_eq_true rfl) (Tn_w (TX13_isFree q7 h) fun _ G12 ⟨r13, e, i14, h⟩ => ?_)
        subst e
        refine ⟨n7_I _, ?_⟩
        replace h := h i14
        refine g_eq1 ⟨by omega, by omega⟩ (fun b15 => ?_) (fun b15 => ?_)
        · replace h := h.1 b15
          exact TX13_bridges_198 hl1 hl2 hl3 hl4 q7 hl6 hl7 hl8 hj0 hj1 h
        · replace h := h.2 b15
          unfold vX13_bridges_54
          refine g_ld (v := rf _) rfl (is_R _) ?_
          refine g_getF (v := 16121) oC13 (hC13_47) rfl (Nat.le_of_ble_eq_true rfl) (Nat.le_of_ble_eq_true rfl) ?_
          refine g_ld (v := cI _) rfl (is_I _) ?_
          obtain ⟨q16, q17, h⟩ := h
          refine g_aldZ aC16121 q16 q17 rfl fun i18 => ?_
          replace h := h i18
          refine g_eq1 ⟨by omega, by omega⟩ (fun b19 => ?_) (fun b19 => ?_)
          · replace h := h.1 b19
            unfold vX13_bridges_64
            refine g_ld (v := rf _) rfl (is_R _) ?_
            refine g_ld (v := cI _) rfl (is_I _) ?_
            refine g_callV (As := [_]) (ci := 13) oC13 (fun _ => rfl) ?_
            refine g_go0 (Nat.le_of_ble_eq_true rfl) (Tn_w (TX13_findAbove q7 h) fun _ G20 ⟨e, h⟩ => ⟨e, ?_⟩)
            refine g_const (v := cI (0)) rfl ?_
            refine g_st (lv' := [_, _, _, _, _, _, _, _, _]) (is_I _) (Nat.le_of_ble_eq_true rfl) (Or.inr (n1_I _)) rfl ?_
            exact TX13_bridges_73 hl1 hl2 hl3 hl4 q7 ⟨by omega, by omega⟩ hl7 hl8 hj0 hj1 h
          · replace h := h.2 b19
            exact TX13_bridges_198 hl1 hl2 hl3 hl4 q7 hl6 hl7 hl8 hj0 hj1 h
      · replace h := h.2 b11
        exact TX13_bridges_198 hl1 hl2 hl3 hl4 q7 hl6 hl7 hl8 hj0 hj1 h
    · replace h := h.2 b6
      exact TX13_bridges_204 hl1 hl2 hl3 hl4 hl5 hl6 hl7 hl8 hj0 hj1 h
  · replace h := h.2 b4
    exact TX13_bridges_204 hl1 hl2 hl3 hl4 hl5 hl6 hl7 hl8 hj0 hj1 h
def PX13_bridges_0 (J : Nat → List Int → gS → (Int → gS → Prop) → Prop) (a1 : Int) (G : gS) (Q : Int → gS → Prop) : Prop :=
  ((0 : Int) ≤ a1 ∧ ((a1 : Int) < 216 ∧ (inI (G 16115 a1) → PX13_bridges_12 J a1 (G 16115 a1) 0 0 G Q)))
set_option maxRecDepth 20000 in
theorem TX13_bridges_0 {j : Nat → rx_K} {J : Nat → List Int → gS → (Int → gS → Prop) → Prop} {a1 : Int} {G : gS} {Q : Int → gS → Prop} (ha1 : inI a1) (hj0 : ∀ (l1 : Int) (l2 : Int) (l3 : Int) (l4 : Int) (l5 : Nat) (l6 : Nat) (l7 : Nat) (l8 : Nat) (G : gS), (inI l1) → (inI l2) → (inI l3) → (inI l4) → (l5 % 8 ≠ 1) → (l6 % 8 ≠ 1) → (l7 % 8 ≠ 1) → (l8 % 8 ≠ 1) → J 0 [l1, l2, l3, l4] G Q → Tg W0 (j 0) [rf (16081), cI (l1), cI (l2), cI (l3), cI (l4), l5, l6, l7, l8] [] G (fun r G => r = 7 ∧ Q 0 G)) (hj1 : ∀ (l1 : Int) (l2 : Int) (l3 : Int) (l4 : Int) (l5 : Int) (l6 : Int) (l7 : Nat) (l8 : Nat) (G : gS), (inI l1) → (inI l2) → (inI l3) → (inI l4) → (inI l5) → (inI l6) → (l7 % 8 ≠ 1) → (l8 % 8 ≠ 1) → J 1 [l1, l2, l3, l4, l5, l6] G Q → Tg W0 (j 1) [rf (16081), cI (l1), cI (l2), cI (l3), cI (l4), cI (l5), cI (l6), l7, l8] [] G (fun r G => r = 7 ∧ Q 0 G)) (h : PX13_bridges_0 J a1 G Q) : Tg W0 (vX13_bridges_0 j) [rf (16081), cI (a1), 7, 7, 7, 7, 7, 7, 7] [] G (fun r G => r = 7 ∧ Q 0 G) := by
  unfold PX13_bridges_0 at h
  unfold vX13_bridges_0
  refine g_ld (v := rf _) rfl (is_R _) ?_
  refine g_getF (v := 16115) oC13 (hC13_41) rfl (Nat.le_of_ble_eq_true rfl) (Nat.le_of_ble_eq_true rfl) ?_
  refine g_ld (v := cI _) rfl (is_I _) ?_
  obtain ⟨q1, q2, h⟩ := h
  refine g_aldI aC16115 q1 q2 rfl fun i3 => ?_
  replace h := h i3
  refine g_st (lv' := [_, _, _, _, _, _, _, _, _]) (is_I _) (Nat.le_of_ble_eq_true rfl) (Or.inr (n1_I _)) rfl ?_
  refine g_const (v := cI (0)) rfl ?_
  refine g_st (lv' := [_, _, _, _, _, _, _, _, _]) (is_I _) (Nat.le_of_ble_eq_true rfl) (Or.inr (n1_I _)) rfl ?_
  refine g_const (v := cI (0)) rfl ?_
  refine g_st (lv' := [_, _, _, _, _, _, _, _, _]) (is_I _) (Nat.le_of_ble_eq_true rfl) (Or.inr (n1_I _)) rfl ?_
  exact TX13_bridges_12 ha1 i3 ⟨by omega, by omega⟩ ⟨by omega, by omega⟩ (show 7 % 8 ≠ 1 by decide) (show 7 % 8 ≠ 1 by decide) (show 7 % 8 ≠ 1 by decide) (show 7 % 8 ≠ 1 by decide) hj0 hj1 h
def PX13_bridges_J : Nat → Nat → List Int → gS → (Int → gS → Prop) → Prop
  | 0, _, _, _, _ => False
  | f + 1, h, L, G, Q => match h, L with
    | 0, [l1, l2, l3, l4] => PX13_bridges_12 (PX13_bridges_J f) l1 l2 l3 l4 G Q
    | 1, [l1, l2, l3, l4, l5, l6] => PX13_bridges_73 (PX13_bridges_J f) l1 l2 l3 l4 l5 l6 G Q
    | _, _ => False
theorem TX13_bridges_J {Q : Int → gS → Prop} : ∀ f N : Nat, f ≤ N → (∀ (l1 : Int) (l2 : Int) (l3 : Int) (l4 : Int) (l5 : Nat) (l6 : Nat) (l7 : Nat) (l8 : Nat) (G : gS), (inI l1) → (inI l2) → (inI l3) → (inI l4) → (l5 % 8 ≠ 1) → (l6 % 8 ≠ 1) → (l7 % 8 ≠ 1) → (l8 % 8 ≠ 1) → (PX13_bridges_J f) 0 [l1, l2, l3, l4] G Q → Tg W0 (rx_J vhX13_bridges N 0) [rf (16081), cI (l1), cI (l2), cI (l3), cI (l4), l5, l6, l7, l8] [] G (fun r G => r = 7 ∧ Q 0 G)) ∧ (∀ (l1 : Int) (l2 : Int) (l3 : Int) (l4 : Int) (l5 : Int) (l6 : Int) (l7 : Nat) (l8 : Nat) (G : gS), (inI l1) → (inI l2) → (inI l3) → (inI l4) → (inI l5) → (inI l6) → (l7 % 8 ≠ 1) → (l8 % 8 ≠ 1) → (PX13_bridges_J f) 1 [l1, l2, l3, l4, l5, l6] G Q → Tg W0 (rx_J vhX13_bridges N 1) [rf (16081), cI (l1), cI (l2), cI (l3), cI (l4), cI (l5), cI (l6), l7, l8] [] G (fun r G => r = 7 ∧ Q 0 G)) := by
  intro f
  induction f with
  | zero => exact fun N _ => ⟨fun _ _ _ _ _ _ _ _ _ _ _ _ _ _ _ _ _ h => h.elim, fun _ _ _ _ _ _ _ _ _ _ _ _ _ _ _ _ _ h => h.elim⟩
  | succ f ih =>
    intro N hN
    obtain ⟨M, rfl⟩ : ∃ M, N = M + 1 := ⟨N - 1, by omega⟩
    have ih := ih M (by omega)
    exact ⟨fun _ _ _ _ _ _ _ _ _ hl1 hl2 hl3 hl4 hl5 hl6 hl7 hl8 h => show Tg W0 (vX13_bridges_12 (rx_J vhX13_bridges M)) _ _ _ _ from TX13_bridges_12 hl1 hl2 hl3 hl4 hl5 hl6 hl7 hl8 ih.1 ih.2 h, fun _ _ _ _ _ _ _ _ _ hl1 hl2 hl3 hl4 hl5 hl6 hl7 hl8 h => show Tg W0 (vX13_bridges_73 (rx_J vhX13_bridges M)) _ _ _ _ from TX13_bridges_73 hl1 hl2 hl3 hl4 hl5 hl6 hl7 hl8 ih.1 ih.2 h⟩
def PX13_bridges (a1 : Int) (G : gS) (Q : Int → gS → Prop) : Prop := ∃ f : Nat, f ≤ 4000000000 ∧ PX13_bridges_0 (PX13_bridges_J f) a1 G Q
theorem TX13_bridges {a1 : Int} {G : gS} {Q : Int → gS → Prop} (ha1 : inI a1) (h : PX13_bridges a1 G Q) : Tn W0 FX13_bridges [rf (16081), cI (a1)] G (fun r G => r = 7 ∧ Q 0 G) := by
  obtain ⟨f, hf, h⟩ := h
  have hJ := TX13_bridges_J (Q := Q) f 4000000000 hf
  unfold FX13_bridges
  refine g_ent (lv' := [rf (16081), cI (a1), 7, 7, 7, 7, 7, 7, 7]) (flR (flI fl0)) (Nat.le_of_ble_eq_true rfl) rfl ?_
  exact TX13_bridges_0 ha1 hJ.1 hJ.2 h
end DE

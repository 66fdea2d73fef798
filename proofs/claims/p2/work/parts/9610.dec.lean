section DE
def PX11_selected_171 (J : Nat → List Int → gS → (Int → gS → Prop) → Prop) (o : Int) (l1 : Int) (l2 : Int) (l3 : Int) (l4 : Int) (l5 : Int) (s0 : Int) (G : gS) (Q : Int → gS → Prop) : Prop :=
  Q (s0) G
set_option maxRecDepth 20000 in
theorem TX11_selected_171 {j : Nat → rx_K} {J : Nat → List Int → gS → (Int → gS → Prop) → Prop} {o : Int} {l1 : Int} {l2 : Int} {l3 : Int} {l4 : Int} {l5 : Int} {l6 : Nat} {s0 : Int} {G : gS} {Q : Int → gS → Prop} (hl2 : inI l2) (hl3 : inI l3) (hl4 : inI l4) (hl5 : inI l5) (hl6 : l6 % 8 ≠ 1) (hj0 : ∀ (o : Int) (l1 : Int) (l2 : Int) (l3 : Int) (l4 : Int) (l5 : Int) (l6 : Nat) (G : gS), (inI l2) → (inI l3) → (inI l4) → (inI l5) → (l6 % 8 ≠ 1) → J 0 [o, l1, l2, l3, l4, l5] G Q → Tg W0 (j 0) [rf (o), rf (l1), cI (l2), cI (l3), cI (l4), cI (l5), l6] [] G (fun r G => ∃ v, r = rf v ∧ Q v G)) (h : PX11_selected_171 J o l1 l2 l3 l4 l5 s0 G Q) : Tg W0 (vX11_selected_171 j) [rf (o), rf (l1), cI (l2), cI (l3), cI (l4), cI (l5), l6] [rf (s0)] G (fun r G => ∃ v, r = rf v ∧ Q v G) := by
  unfold PX11_selected_171 at h
  unfold vX11_selected_171
  exact g_ret1 (is_R _) ⟨_, rfl, h⟩
def PX11_selected_154 (J : Nat → List Int → gS → (Int → gS → Prop) → Prop) (o : Int) (l1 : Int) (l2 : Int) (l3 : Int) (l4 : Int) (l5 : Int) (s0 : Int) (s1 : Int) (G : gS) (Q : Int → gS → Prop) : Prop :=
  (isO W0 11 (s0) ∧ (∀ G53 : gS, G53 = uG G s0 19 (s1) → ((l5 = 1 → (isO W0 11 (o) ∧ ((G53 o 17 = -1 ∨ isO W0 7 (G53 o 17)) → PX11_selected_171 J o l1 l2 l3 l4 l5 (G53 o 17) G53 Q))) ∧ (¬ (l5 = 1) → PX11_selected_171 J o l1 l2 l3 l4 l5 (-1) G53 Q))))
set_option maxRecDepth 20000 in
theorem TX11_selected_154 {j : Nat → rx_K} {J : Nat → List Int → gS → (Int → gS → Prop) → Prop} {o : Int} {l1 : Int} {l2 : Int} {l3 : Int} {l4 : Int} {l5 : Int} {l6 : Nat} {s0 : Int} {s1 : Int} {G : gS} {Q : Int → gS → Prop} (hl2 : inI l2) (hl3 : inI l3) (hl4 : inI l4) (hl5 : inI l5) (hl6 : l6 % 8 ≠ 1) (hs1 : inI s1) (hj0 : ∀ (o : Int) (l1 : Int) (l2 : Int) (l3 : Int) (l4 : Int) (l5 : Int) (l6 : Nat) (G : gS), (inI l2) → (inI l3) → (inI l4) → (inI l5) → (l6 % 8 ≠ 1) → J 0 [o, l1, l2, l3, l4, l5] G Q → Tg W0 (j 0) [rf (o), rf (l1), cI (l2), cI (l3), cI (l4), cI (l5), l6] [] G (fun r G => ∃ v, r = rf v ∧ Q v G)) (h : PX11_selected_154 J o l1 l2 l3 l4 l5 s0 s1 G Q) : Tg W0 (vX11_selected_154 j) [rf (o), rf (l1), cI (l2), cI (l3), cI (l4), cI (l5), l6] [cI (s1), rf (s0)] G (fun r G => ∃ v, r = rf v ∧ Q v G) := by
  unfold PX11_selected_154 at h
  unfold vX11_selected_154
  obtain ⟨q52, h⟩ := h
  refine g_putI (kz := 19) q52 rfl (Nat.le_of_ble_eq_true rfl) rfl hs1 (nf11_19 q52) ?_
  replace h := h _ rfl
  refine g_ld (v := cI _) rfl (is_I _) ?_
  refine g_const (v := cI (1)) rfl ?_
  refine g_eq2 hl5 ⟨by omega, by omega⟩ (fun b54 => ?_) (fun b54 => ?_)
  · replace h := h.1 b54
    unfold vX11_selected_163
    refine g_ld (v := rf _) rfl (is_R _) ?_
    obtain ⟨q55, h⟩ := h
    refine g_getR (kz := 17) (c := 7) q55 rfl (Nat.le_of_ble_eq_true rfl) rfl (by decide) fun i56 => ?_
    replace h := h i56
    exact TX11_selected_171 hl2 hl3 hl4 hl5 hl6 hj0 h
  · replace h := h.2 b54
    unfold vX11_selected_170
    refine g_const (v := rf (-1)) rfl ?_
    exact TX11_selected_171 hl2 hl3 hl4 hl5 hl6 hj0 h
def PX11_selected_133 (J : Nat → List Int → gS → (Int → gS → Prop) → Prop) (o : Int) (l1 : Int) (l2 : Int) (l3 : Int) (l4 : Int) (l5 : Int) (G : gS) (Q : Int → gS → Prop) : Prop :=
  (isO W0 11 (o) ∧ PX11_mostSpecial o l3 l1 G (fun r38 G37 => inI r38 → ((1 < r38 → PX11_selected_154 J o l1 l2 l3 l4 r38 o 3 G37 Q) ∧ (¬ (1 < r38) → PX11_selected_154 J o l1 l2 l3 l4 r38 o 6 G37 Q))))
set_option maxRecDepth 20000 in
theorem TX11_selected_133 {j : Nat → rx_K} {J : Nat → List Int → gS → (Int → gS → Prop) → Prop} {o : Int} {l1 : Int} {l2 : Int} {l3 : Int} {l4 : Int} {l5 : Int} {l6 : Nat} {G : gS} {Q : Int → gS → Prop} (hl2 : inI l2) (hl3 : inI l3) (hl4 : inI l4) (hl5 : inI l5) (hl6 : l6 % 8 ≠ 1) (hj0 : ∀ (o : Int) (l1 : Int) (l2 : Int) (l3 : Int) (l4 : Int) (l5 : Int) (l6 : Nat) (G : gS), (inI l2) → (inI l3) → (inI l4) → (inI l5) → (l6 % 8 ≠ 1) → J 0 [o, l1, l2, l3, l4, l5] G Q → Tg W0 (j 0) [rf (o), rf (l1), cI (l2), cI (l3), cI (l4), cI (l5), l6] [] G (fun r G => ∃ v, r = rf v ∧ Q v G)) (h : PX11_selected_133 J o l1 l2 l3 l4 l5 G Q) : Tg W0 (vX11_selected_133 j) [rf (o), rf (l1), cI (l2), cI (l3), cI (l4), cI (l5), l6] [] G (fun r G => ∃ v, r = rf v ∧ Q v G) := by
  unfold PX11_selected_133 at h
  unfold vX11_selected_133
  refine g_ld (v := rf _) rfl (is_R _) ?_
  refine g_ld (v := cI _) rfl (is_I _) ?_
  refine g_ld (v := rf _) rfl (is_R _) ?_
  obtain ⟨q36, h⟩ := h
  refine g_callV (As := [_, _]) (ci := 11) q36 (fun _ => rfl) ?_
  refine g_go1 (Nat.le_of_ble_eq_true rfl) (Tn_w (TX11_mostSpecial hl3 h) fun _ G37 ⟨r38, e, i39, h⟩ => ?_)
  subst e
  refine ⟨n7_I _, ?_⟩
  replace h := h i39
  refine g_st (lv' := [_, _, _, _, _, _, _]) (is_I _) (Nat.le_of_ble_eq_true rfl) (Or.inr (n1_I _)) rfl ?_
  refine g_ld (v := rf _) rfl (is_R _) ?_
  refine g_ld (v := cI _) rfl (is_I _) ?_
  refine g_const (v := cI (1)) rfl ?_
  refine g_gt2 i39 ⟨by omega, by omega⟩ (fun b40 => ?_) (fun b40 => ?_)
  · replace h := h.1 b40
    unfold vX11_selected_148
    refine g_const (v := cI (3)) rfl ?_
    exact TX11_selected_154 hl2 hl3 hl4 i39 hl6 ⟨by omega, by omega⟩ hj0 h
  · replace h := h.2 b40
    unfold vX11_selected_152
    refine g_const (v := cI (6)) rfl ?_
    exact TX11_selected_154 hl2 hl3 hl4 i39 hl6 ⟨by omega, by omega⟩ hj0 h
def PX11_selected_118 (J : Nat → List Int → gS → (Int → gS → Prop) → Prop) (o : Int) (l1 : Int) (l2 : Int) (l3 : Int) (l4 : Int) (l5 : Int) (l6 : Int) (G : gS) (Q : Int → gS → Prop) : Prop :=
  (isO W0 11 (o) ∧ ((0 : Int) ≤ l4 ∧ ((l4 : Int) < 64 ∧ (inI (G (o + 2) l4) → (inI (l5 + 1) ∧ J 0 [o, l1, l2, l3, G (o + 2) l4, l5 + 1] G Q)))))
set_option maxRecDepth 20000 in
theorem TX11_selected_118 {j : Nat → rx_K} {J : Nat → List Int → gS → (Int → gS → Prop) → Prop} {o : Int} {l1 : Int} {l2 : Int} {l3 : Int} {l4 : Int} {l5 : Int} {l6 : Int} {G : gS} {Q : Int → gS → Prop} (hl2 : inI l2) (hl3 : inI l3) (hl4 : inI l4) (hl5 : inI l5) (hj0 : ∀ (o : Int) (l1 : Int) (l2 : Int) (l3 : Int) (l4 : Int) (l5 : Int) (l6 : Nat) (G : gS), (inI l2) → (inI l3) → (inI l4) → (inI l5) → (l6 % 8 ≠ 1) → J 0 [o, l1, l2, l3, l4, l5] G Q → Tg W0 (j 0) [rf (o), rf (l1), cI (l2), cI (l3), cI (l4), cI (l5), l6] [] G (fun r G => ∃ v, r = rf v ∧ Q v G)) (h : PX11_selected_118 J o l1 l2 l3 l4 l5 l6 G Q) : Tg W0 (vX11_selected_118 j) [rf (o), rf (l1), cI (l2), cI (l3), cI (l4), cI (l5), rf (l6)] [] G (fun r G => ∃ v, r = rf v ∧ Q v G) := by
  unfold PX11_selected_118 at h
  unfold vX11_selected_118
  refine g_ld (v := rf _) rfl (is_R _) ?_
  obtain ⟨q41, h⟩ := h
  refine g_getF q41 (ff11_3 q41).1 rfl (Nat.le_of_ble_eq_true rfl) (Nat.le_of_ble_eq_true rfl) ?_
  refine g_ld (v := cI _) rfl (is_I _) ?_
  obtain ⟨q42, q43, h⟩ := h
  refine g_aldI (ff11_3 q41).2 q42 q43 rfl fun i44 => ?_
  replace h := h i44
  refine g_st (lv' := [_, _, _, _, _, _, _]) (is_I _) (Nat.le_of_ble_eq_true rfl) (Or.inr (n1_I _)) rfl ?_
  refine g_inc (lv' := [_, _, _, _, _, _, _]) rfl (Nat.le_of_ble_eq_true rfl) (Or.inr (n1_I _)) rfl ?_
  obtain ⟨q45, h⟩ := h
  exact hj0 _ _ _ _ _ _ _ _ hl2 hl3 i44 q45 (n1_R _) h
def PX11_selected_117 (J : Nat → List Int → gS → (Int → gS → Prop) → Prop) (o : Int) (l1 : Int) (l2 : Int) (l3 : Int) (l4 : Int) (l5 : Int) (l6 : Int) (s0 : Int) (G : gS) (Q : Int → gS → Prop) : Prop :=
  Q (s0) G
set_option maxRecDepth 20000 in
theorem TX11_selected_117 {j : Nat → rx_K} {J : Nat → List Int → gS → (Int → gS → Prop) → Prop} {o : Int} {l1 : Int} {l2 : Int} {l3 : Int} {l4 : Int} {l5 : Int} {l6 : Int} {s0 : Int} {G : gS} {Q : Int → gS → Prop} (hl2 : inI l2) (hl3 : inI l3) (hl4 : inI l4) (hl5 : inI l5) (hj0 : ∀ (o : Int) (l1 : Int) (l2 : Int) (l3 : Int) (l4 : Int) (l5 : Int) (l6 : Nat) (G : gS), (inI l2) → (inI l3) → (inI l4) → (inI l5) → (l6 % 8 ≠ 1) → J 0 [o, l1, l2, l3, l4, l5] G Q → Tg W0 (j 0) [rf (o), rf (l1), cI (l2), cI (l3), cI (l4), cI (l5), l6] [] G (fun r G => ∃ v, r = rf v ∧ Q v G)) (h : PX11_selected_117 J o l1 l2 l3 l4 l5 l6 s0 G Q) : Tg W0 (vX11_selected_117 j) [rf (o), rf (l1), cI (l2), cI (l3), cI (l4), cI (l5), rf (l6)] [rf (s0)] G (fun r G => ∃ v, r = rf v ∧ Q v G) := by
  unfold PX11_selected_117 at h
  unfold vX11_selected_117
  exact g_ret1 (is_R _) ⟨_, rfl, h⟩
def PX11_selected_91 (J : Nat → List Int → gS → (Int → gS → Prop) → Prop) (o : Int) (l1 : Int) (l2 : Int) (l3 : Int) (l4 : Int) (l5 : Int) (l6 : Int) (G : gS) (Q : Int → gS → Prop) : Prop :=
  (isO W0 11 (o) ∧ (∀ G47 : gS, G47 = uG G o 18 (l4) → (∀ G48 : gS, G48 = uG G47 o 19 (6) → (isO W0 7 (l6) ∧ ((0 ≤ G48 l6 4 ∧ G48 l6 4 ≤ 1) → ((G48 l6 4 = 0 → PX11_selected_117 J o l1 l2 l3 l4 l5 l6 l6 G48 Q) ∧ (¬ (G48 l6 4 = 0) → PX11_selected_117 J o l1 l2 l3 l4 l5 l6 (-1) G48 Q)))))))
set_option maxRecDepth 20000 in
theorem TX11_selected_91 {j : Nat → rx_K} {J : Nat → List Int → gS → (Int → gS → Prop) → Prop} {o : Int} {l1 : Int} {l2 : Int} {l3 : Int} {l4 : Int} {l5 : Int} {l6 : Int} {G : gS} {Q : Int → gS → Prop} (hl2 : inI l2) (hl3 : inI l3) (hl4 : inI l4) (hl5 : inI l5) (hj0 : ∀ (o : Int) (l1 : Int) (l2 : Int) (l3 : Int) (l4 : Int) (l5 : Int) (l6 : Nat) (G : gS), (inI l2) → (inI l3) → (inI l4) → (inI l5) → (l6 % 8 ≠ 1) → J 0 [o, l1, l2, l3, l4, l5] G Q → Tg W0 (j 0) [rf (o), rf (l1), cI (l2), cI (l3), cI (l4), cI (l5), l6] [] G (fun r G => ∃ v, r = rf v ∧ Q v G)) (h : PX11_selected_91 J o l1 l2 l3 l4 l5 l6 G Q) : Tg W0 (vX11_selected_91 j) [rf (o), rf (l1), cI (l2), cI (l3), cI (l4), cI (l5), rf (l6)] [] G (fun r G => ∃ v, r = rf v ∧ Q v G) := by
  unfold PX11_selected_91 at h
  unfold vX11_selected_91
  refine g_ld (v := rf _) rfl (is_R _) ?_
  refine g_ld (v := cI _) rfl (is_I _) ?_
  obtain ⟨q46, h⟩ := h
  refine g_putI (kz := 18) q46 rfl (Nat.le_of_ble_eq_true rfl) rfl hl4 (nf11_18 q46) ?_
  replace h := h _ rfl
  refine g_ld (v := rf _) rfl (is_R _) ?_
  refine g_const (v := cI (6)) rfl ?_
  refine g_putI (kz := 19) q46 rfl (Nat.le_of_ble_eq_true rfl) rfl ⟨by omega, by omega⟩ (nf11_19 q46) ?_
  replace h := h _ rfl
  refine g_ld (v := rf _) rfl (is_R _) ?_
  obtain ⟨q49, h⟩ := h
  refine g_getZ (kz := 4) q49 rfl (Nat.le_of_ble_eq_true rfl) rfl fun i50 => ?_
  replace h := h i50
  refine g_eq1 ⟨by omega, by omega⟩ (fun b51 => ?_) (fun b51 => ?_)
  · replace h := h.1 b51
    unfold vX11_selected_115
    refine g_ld (v := rf _) rfl (is_R _) ?_
    exact TX11_selected_117 hl2 hl3 hl4 hl5 hj0 h
  · replace h := h.2 b51
    unfold vX11_selected_111
    refine g_const (v := rf (-1)) rfl ?_
    exact TX11_selected_117 hl2 hl3 hl4 hl5 hj0 h
def PX11_selected_20 (J : Nat → List Int → gS → (Int → gS → Prop) → Prop) (o : Int) (l1 : Int) (l2 : Int) (l3 : Int) (l4 : Int) (l5 : Int) (G : gS) (Q : Int → gS → Prop) : Prop :=
  (isO W0 11 (o) ∧ ((0 : Int) ≤ l3 ∧ ((l3 : Int) < 64 ∧ (inI (G (o + 3) l3) → ((G (o + 3) l3 < l5 → PX11_selected_133 J o l1 l2 l3 l4 l5 G Q) ∧ (¬ (G (o + 3) l3 < l5) → ((l4 < 0 → PX11_selected_133 J o l1 l2 l3 l4 l5 G Q) ∧ (¬ (l4 < 0) → ((0 : Int) ≤ l4 ∧ ((l4 : Int) < 64 ∧ (((G (o + 1) l4 = -1 ∨ isO W0 10 (G (o + 1) l4)) ∧ ∀ v, W0.2 (o + 1) l4 = some v → G (o + 1) l4 = v) → (isO W0 10 (G (o + 1) l4) ∧ PX10_method (G (o + 1) l4) l1 G (fun r17 G16 => ((r17 < 0 → PX11_selected_118 J o l1 l2 l3 l4 l5 r17 G16 Q) ∧ (0 ≤ r17 → (isO W0 7 (r17) ∧ PX7_ofObjects r17 G16 (fun r22 G21 => (0 ≤ r22 ∧ r22 ≤ 1) → ((r22 = 0 → PX11_selected_118 J o l1 l2 l3 l4 l5 r17 G21 Q) ∧ (¬ (r22 = 0) → ((l4 = l2 → PX11_selected_91 J o l1 l2 l3 l4 l5 r17 G21 Q) ∧ (¬ (l4 = l2) → ((0 : Int) ≤ l2 ∧ ((l2 : Int) < 64 ∧ (((G21 (o + 1) l2 = -1 ∨ isO W0 10 (G21 (o + 1) l2)) ∧ ∀ v, W0.2 (o + 1) l2 = some v → G21 (o + 1) l2 = v) → (isO W0 10 (G21 (o + 1) l2) ∧ ((0 ≤ G21 (G21 (o + 1) l2) 4 ∧ G21 (G21 (o + 1) l2) 4 ≤ 1) → ((G21 (G21 (o + 1) l2) 4 = 0 → PX11_overrides o l4 l2 l1 G21 (fun r33 G32 => (0 ≤ r33 ∧ r33 ≤ 1) → ((r33 = 0 → PX11_selected_118 J o l1 l2 l3 l4 l5 r17 G32 Q) ∧ (¬ (r33 = 0) → PX11_selected_91 J o l1 l2 l3 l4 l5 r17 G32 Q)))) ∧ (¬ (G21 (G21 (o + 1) l2) 4 = 0) → PX11_selected_91 J o l1 l2 l3 l4 l5 r17 G21 Q))))))))))))))))))))))))))))
set_option maxRecDepth 20000 in
theorem TX11_selected_20 {j : Nat → rx_K} {J : Nat → List Int → gS → (Int → gS → Prop) → Prop} {o : Int} {l1 : Int} {l2 : Int} {l3 : Int} {l4 : Int} {l5 : Int} {l6 : Nat} {G : gS} {Q : Int → gS → Prop} (hl2 : inI l2) (hl3 : inI l3) (hl4 : inI l4) (hl5 : inI l5) (hl6 : l6 % 8 ≠ 1) (hj0 : ∀ (o : Int) (l1 : Int) (l2 : Int) (l3 : Int) (l4 : Int) (l5 : Int) (l6 : Nat) (G : gS), (inI l2) → (inI l3) → (inI l4) → (inI l5) → (l6 % 8 ≠ 1) → J 0 [o, l1, l2, l3, l4, l5] G Q → Tg W0 (j 0) [rf (o), rf (l1), cI (l2), cI (l3), cI (l4), cI (l5), l6] [] G (fun r G => ∃ v, r = rf v ∧ Q v G)) (h : PX11_selected_20 J o l1 l2 l3 l4 l5 G Q) : Tg W0 (vX11_selected_20 j) [rf (o), rf (l1), cI (l2), cI (l3), cI (l4), cI (l5), l6] [] G (fun r G => ∃ v, r = rf v ∧ Q v G) := by
  unfold PX11_selected_20 at h
  unfold vX11_selected_20
  refine g_ld (v := cI _) rfl (is_I _) ?_
  refine g_ld (v := rf _) rfl (is_R _) ?_
  obtain ⟨q6, h⟩ := h
  refine g_getF q6 (ff11_4 q6).1 rfl (Nat.le_of_ble_eq_true rfl) (Nat.le_of_ble_eq_true rfl) ?_
  refine g_ld (v := cI _) rfl (is_I _) ?_
  obtain ⟨q7, q8, h⟩ := h
  refine g_aldI (ff11_4 q6).2 q7 q8 rfl fun i9 => ?_
  replace h := h i9
  refine g_gt2 hl5 i9 (fun b10 => ?_) (fun b10 => ?_)
  · replace h := h.1 b10
    exact TX11_selected_133 hl2 hl3 hl4 hl5 hl6 hj0 h
  · replace h := h.2 b10
    unfold vX11_selected_31
    refine g_ld (v := cI _) rfl (is_I _) ?_
    refine g_lt1 hl4 (fun b11 => ?_) (fun b11 => ?_)
    · replace h := h.1 b11
      exact TX11_selected_133 hl2 hl3 hl4 hl5 hl6 hj0 h
    · replace h := h.2 b11
      unfold vX11_selected_36
      refine g_ld (v := rf _) rfl (is_R _) ?_
      refine g_getF q6 (ff11_1 q6).1 rfl (Nat.le_of_ble_eq_true rfl) (Nat.le_of_ble_eq_true rfl) ?_
      refine g_ld (v := cI _) rfl (is_I _) ?_
      obtain ⟨q12, q13, h⟩ := h
      refine g_aldRF (c := 10) (ff11_1 q6).2 q12 q13 rfl (by decide) fun i14 => ?_
      replace h := h i14
      refine g_ld (v := rf _) rfl (is_R _) ?_
      obtain ⟨q15, h⟩ := h
      refine g_callV (As := [_]) (ci := 10) q15 (fun _ => rfl) ?_
      refine g_go1 (Nat.le_of_ble_eq_true rfl) (Tn_w (TX10_method  h) fun _ G16 ⟨r17, e, h⟩ => ?_)
      subst e
      refine ⟨n7_R _, ?_⟩
      refine g_st (lv' := [_, _, _, _, _, _, _]) (is_R _) (Nat.le_of_ble_eq_true rfl) (Or.inr (n1_I _)) rfl ?_
      refine g_ld (v := rf _) rfl (is_R _) ?_
      refine g_nul (fun b19 => ?_) (fun b19 => ?_)
      · replace h := h.1 b19
        exact TX11_selected_118 hl2 hl3 hl4 hl5 hj0 h
      · replace h := h.2 b19
        unfold vX11_selected_54
        refine g_ld (v := rf _) rfl (is_R _) ?_
        obtain ⟨q20, h⟩ := h
        refine g_callV (As := []) (ci := 7) q20 (fun _ => rfl) ?_
        refine g_go1 (Nat.le_of_ble_eq_true rfl) (Tn_w (TX7_ofObjects  h) fun _ G21 ⟨r22, e, i23, h⟩ => ?_)
        subst e
        refine ⟨n7_I _, ?_⟩
        replace h := h i23
        refine g_eq1 ⟨by omega, by omega⟩ (fun b24 => ?_) (fun b24 => ?_)
        · replace h := h.1 b24
          exact TX11_selected_118 hl2 hl3 hl4 hl5 hj0 h
        · replace h := h.2 b24
          unfold vX11_selected_62
          refine g_ld (v := cI _) rfl (is_I _) ?_
          refine g_ld (v := cI _) rfl (is_I _) ?_
          refine g_eq2 hl4 hl2 (fun b25 => ?_) (fun b25 => ?_)
          · replace h := h.1 b25
            exact TX11_selected_91 hl2 hl3 hl4 hl5 hj0 h
          · replace h := h.2 b25
            unfold vX11_selected_68
            refine g_ld (v := rf _) rfl (is_R _) ?_
            refine g_getF q6 (ff11_1 q6).1 rfl (Nat.le_of_ble_eq_true rfl) (Nat.le_of_ble_eq_true rfl) ?_
            refine g_ld (v := cI _) rfl (is_I _) ?_
            obtain ⟨q26, q27, h⟩ := h
            refine g_aldRF (c := 10) (ff11_1 q6).2 q26 q27 rfl (by decide) fun i28 => ?_
            replace h := h i28
            obtain ⟨q29, h⟩ := h
            refine g_getZ (kz := 4) q29 rfl (Nat.le_of_ble_eq_true rfl) rfl fun i30 => ?_
            replace h := h i30
            refine g_eq1 ⟨by omega, by omega⟩ (fun b31 => ?_) (fun b31 => ?_)
            · replace h := h.1 b31
              unfold vX11_selected_80
              refine g_ld (v := rf _) rfl (is_R _) ?_
              refine g_ld (v := cI _) rfl (is_I _) ?_
              refine g_ld (v := cI _) rfl (is_I _) ?_
              refine g_ld (v := rf _) rfl (is_R _) ?_
              refine g_callV (As := [_, _, _]) (ci := 11) q6 (fun _ => rfl) ?_
              refine g_go1 (Nat.le_of_ble_eq_true rfl) (Tn_w (TX11_overrides hl4 hl2 h) fun _ G32 ⟨r33, e, i34, h⟩ => ?_)
              subst e
              refine ⟨n7_I _, ?_⟩
              replace h := h i34
              refine g_eq1 ⟨by omega, by omega⟩ (fun b35 => ?_) (fun b35 => ?_)
              · replace h := h.1 b35
                exact TX11_selected_118 hl2 hl3 hl4 hl5 hj0 h
              · replace h := h.2 b35
                exact TX11_selected_91 hl2 hl3 hl4 hl5 hj0 h
            · replace h := h.2 b31
              exact TX11_selected_91 hl2 hl3 hl4 hl5 hj0 h
def PX11_selected_0 (J : Nat → List Int → gS → (Int → gS → Prop) → Prop) (o : Int) (a1 : Int) (a2 : Int) (a3 : Int) (G : gS) (Q : Int → gS → Prop) : Prop :=
  (isO W0 11 (o) ∧ (∀ G2 : gS, G2 = uG G o 18 (a2) → (isO W0 7 (a1) ∧ (inI (G2 a1 1) → ((G2 a1 1 = 0 → Q (a1) G2) ∧ (¬ (G2 a1 1 = 0) → PX11_selected_20 J o a1 a2 a3 a3 0 G2 Q))))))
set_option maxRecDepth 20000 in
theorem TX11_selected_0 {j : Nat → rx_K} {J : Nat → List Int → gS → (Int → gS → Prop) → Prop} {o : Int} {a1 : Int} {a2 : Int} {a3 : Int} {G : gS} {Q : Int → gS → Prop} (ha2 : inI a2) (ha3 : inI a3) (hj0 : ∀ (o : Int) (l1 : Int) (l2 : Int) (l3 : Int) (l4 : Int) (l5 : Int) (l6 : Nat) (G : gS), (inI l2) → (inI l3) → (inI l4) → (inI l5) → (l6 % 8 ≠ 1) → J 0 [o, l1, l2, l3, l4, l5] G Q → Tg W0 (j 0) [rf (o), rf (l1), cI (l2), cI (l3), cI (l4), cI (l5), l6] [] G (fun r G => ∃ v, r = rf v ∧ Q v G)) (h : PX11_selected_0 J o a1 a2 a3 G Q) : Tg W0 (vX11_selected_0 j) [rf (o), rf (a1), cI (a2), cI (a3), 7, 7, 7] [] G (fun r G => ∃ v, r = rf v ∧ Q v G) := by
  unfold PX11_selected_0 at h
  unfold vX11_selected_0
  refine g_ld (v := rf _) rfl (is_R _) ?_
  refine g_ld (v := cI _) rfl (is_I _) ?_
  obtain ⟨q1, h⟩ := h
  refine g_putI (kz := 18) q1 rfl (Nat.le_of_ble_eq_true rfl) rfl ha2 (nf11_18 q1) ?_
  replace h := h _ rfl
  refine g_ld (v := rf _) rfl (is_R _) ?_
  obtain ⟨q3, h⟩ := h
  refine g_getI (kz := 1) q3 rfl (Nat.le_of_ble_eq_true rfl) rfl fun i4 => ?_
  replace h := h i4
  refine g_eq1 i4 (fun b5 => ?_) (fun b5 => ?_)
  · replace h := h.1 b5
    unfold vX11_selected_12
    refine g_ld (v := rf _) rfl (is_R _) ?_
    exact g_ret1 (is_R _) ⟨_, rfl, h⟩
  · replace h := h.2 b5
    unfold vX11_selected_14
    refine g_ld (v := cI _) rfl (is_I _) ?_
    refine g_st (lv' := [_, _, _, _, _, _, _]) (is_I _) (Nat.le_of_ble_eq_true rfl) (Or.inr (n1_I _)) rfl ?_
    refine g_const (v := cI (0)) rfl ?_
    refine g_st (lv' := [_, _, _, _, _, _, _]) (is_I _) (Nat.le_of_ble_eq_true rfl) (Or.inr (n1_I _)) rfl ?_
    exact TX11_selected_20 ha2 ha3 ha3 ⟨by omega, by omega⟩ (show 7 % 8 ≠ 1 by decide) hj0 h
def PX11_selected_J : Nat → Nat → List Int → gS → (Int → gS → Prop) → Prop
  | 0, _, _, _, _ => False
  | f + 1, h, L, G, Q => match h, L with
    | 0, [o, l1, l2, l3, l4, l5] => PX11_selected_20 (PX11_selected_J f) o l1 l2 l3 l4 l5 G Q
    | _, _ => False
theorem TX11_selected_J {Q : Int → gS → Prop} : ∀ f N : Nat, f ≤ N → (∀ (o : Int) (l1 : Int) (l2 : Int) (l3 : Int) (l4 : Int) (l5 : Int) (l6 : Nat) (G : gS), (inI l2) → (inI l3) → (inI l4) → (inI l5) → (l6 % 8 ≠ 1) → (PX11_selected_J f) 0 [o, l1, l2, l3, l4, l5] G Q → Tg W0 (rx_J vhX11_selected N 0) [rf (o), rf (l1), cI (l2), cI (l3), cI (l4), cI (l5), l6] [] G (fun r G => ∃ v, r = rf v ∧ Q v G)) := by
  intro f
  induction f with
  | zero => exact fun N _ => fun _ _ _ _ _ _ _ _ _ _ _ _ _ h => h.elim
  | succ f ih =>
    intro N hN
    obtain ⟨M, rfl⟩ : ∃ M, N = M + 1 := ⟨N - 1, by omega⟩
    have ih := ih M (by omega)
    exact fun _ _ _ _ _ _ _ _ hl2 hl3 hl4 hl5 hl6 h => show Tg W0 (vX11_selected_20 (rx_J vhX11_selected M)) _ _ _ _ from TX11_selected_20 hl2 hl3 hl4 hl5 hl6 ih h
def PX11_selected (o : Int) (a1 : Int) (a2 : Int) (a3 : Int) (G : gS) (Q : Int → gS → Prop) : Prop := ∃ f : Nat, f ≤ 4000000000 ∧ PX11_selected_0 (PX11_selected_J f) o a1 a2 a3 G Q
theorem TX11_selected {o : Int} {a1 : Int} {a2 : Int} {a3 : Int} {G : gS} {Q : Int → gS → Prop} (ha2 : inI a2) (ha3 : inI a3) (h : PX11_selected o a1 a2 a3 G Q) : Tn W0 FX11_selected [rf (o), rf (a1), cI (a2), cI (a3)] G (fun r G => ∃ v, r = rf v ∧ Q v G) := by
  obtain ⟨f, hf, h⟩ := h
  have hJ := TX11_selected_J (Q := Q) f 4000000000 hf
  unfold FX11_selected
  refine g_ent (lv' := [rf (o), rf (a1), cI (a2), cI (a3), 7, 7, 7]) (flR (flR (flI (flI fl0)))) (Nat.le_of_ble_eq_true rfl) rfl ?_
  exact TX11_selected_0 ha2 ha3 hJ h
def PX4_owed_97 (J : Nat → List Int → gS → (Int → gS → Prop) → Prop) (l1 : Int) (l2 : Int) (l3 : Int) (l4 : Int) (l5 : Int) (G : gS) (Q : Int → gS → Prop) : Prop :=
  Q 0 G
set_option maxRecDepth 20000 in
theorem TX4_owed_97 {j : Nat → rx_K} {J : Nat → List Int → gS → (Int → gS → Prop) → Prop} {l1 : Int} {l2 : Int} {l3 : Int} {l4 : Int} {l5 : Int} {l6 : Nat} {G : gS} {Q : Int → gS → Prop} (hl2 : inI l2) (hl3 : inI l3) (hl5 : inI l5) (hl6 : l6 % 8 ≠ 1) (hj0 : ∀ (l1 : Int) (l2 : Int) (l3 : Int) (l4 : Int) (l5 : Int) (l6 : Nat) (G : gS), (inI l2) → (inI l3) → (inI l5) → (l6 % 8 ≠ 1) → J 0 [l1, l2, l3, l4, l5] G Q → Tg W0 (j 0) [rf (814), rf (l1), cI (l2), cI (l3), rf (l4), cI (l5), l6] [] G (fun r G => r = 7 ∧ Q 0 G)) (h : PX4_owed_97 J l1 l2 l3 l4 l5 G Q) : Tg W0 (vX4_owed_97 j) [rf (814), rf (l1), cI (l2), cI (l3), rf (l4), cI (l5), l6] [] G (fun r G => r = 7 ∧ Q 0 G) := by
  unfold PX4_owed_97 at h
  unfold vX4_owed_97
  exact g_ret0 ⟨rfl, h⟩
def PX4_owed_91 (J : Nat → List Int → gS → (Int → gS → Prop) → Prop) (l1 : Int) (l2 : Int) (l3 : Int) (l4 : Int) (l5 : Int) (l6 : Int) (G : gS) (Q : Int → gS → Prop) : Prop :=
  (inI (l5 + 1) ∧ J 0 [l1, l2, l3, l4, l5 + 1] G Q)
set_option maxRecDepth 20000 in
theorem TX4_owed_91 {j : Nat → rx_K} {J : Nat → List Int → gS → (Int → gS → Prop) → Prop} {l1 : Int} {l2 : Int} {l3 : Int} {l4 : Int} {l5 : Int} {l6 : Int} {G : gS} {Q : Int → gS → Prop} (hl2 : inI l2) (hl3 : inI l3) (hl5 : inI l5) (hj0 : ∀ (l1 : Int) (l2 : Int) (l3 : Int) (l4 : Int) (l5 : Int) (l6 : Nat) (G : gS), (inI l2) → (inI l3) → (inI l5) → (l6 % 8 ≠ 1) → J 0 [l1, l2, l3, l4, l5] G Q → Tg W0 (j 0) [rf (814), rf (l1), cI (l2), cI (l3), rf (l4), cI (l5), l6] [] G (fun r G => r = 7 ∧ Q 0 G)) (h : PX4_owed_91 J l1 l2 l3 l4 l5 l6 G Q) : Tg W0 (vX4_owed_91 j) [rf (814), rf (l1), cI (l2), cI (l3), rf (l4), cI (l5), rf (l6)] [] G (fun r G => r = 7 ∧ Q 0 G) := by
  unfold PX4_owed_91 at h
  unfold vX4_owed_91
  refine g_inc (lv' := [_, _, _, _, _, _, _]) rfl (Nat.le_of_ble_eq_true rfl) (Or.inr (n1_R _)) rfl ?_
  obtain ⟨q34, h⟩ := h
  exact hj0 _ _ _ _ _ _ _ hl2 hl3 q34 (n1_R _) h
def PX4_owed_14 (J : Nat → List Int → gS → (Int → gS → Prop) → Prop) (l1 : Int) (l2 : Int) (l3 : Int) (l4 : Int) (l5 : Int) (G : gS) (Q : Int → gS → Prop) : Prop :=
  (isO W0 10 (l4) ∧ (inI (G l4 15) → ((l5 < G l4 15 → (inI (G 814 2) → ((G 814 2 = 0 → ((0 : Int) ≤ l5 ∧ ((l5 : Int) < 33 ∧ (((G (l4 + 4) l5 = -1 ∨ isO W0 7 (G (l4 + 4) l5)) ∧ ∀ v, W0.2 (l4 + 4) l5 = some v → G (l4 + 4) l5 = v) → (isO W0 7 (G (l4 + 4) l5) ∧ (inI (G (G (l4 + 4) l5) 0) → ((G (G (l4 + 4) l5) 0 = 1 → PX7_ofObjects (G (l4 + 4) l5) G (fun r18 G17 => (0 ≤ r18 ∧ r18 ≤ 1) → ((r18 = 0 → PX4_owed_91 J l1 l2 l3 l4 l5 (G (l4 + 4) l5) G17 Q) ∧ (¬ (r18 = 0) → ((0 ≤ G17 (G (l4 + 4) l5) 5 ∧ G17 (G (l4 + 4) l5) 5 ≤ 1) → ((G17 (G (l4 + 4) l5) 5 = 0 → ((G17 814 0 = -1 ∨ isO W0 11 (G17 814 0)) → (isO W0 11 (G17 814 0) ∧ PX11_selected (G17 814 0) (G (l4 + 4) l5) l3 l2 G17 (fun r26 G25 => ((r26 < 0 → (isO W0 10 (l1) ∧ (inI (G25 l1 2) → PX4_fail 10 (G25 l1 2) G25 (fun r32 G31 => (0 ≤ r32 ∧ r32 ≤ 1) → PX4_owed_91 J l1 l2 l3 l4 l5 (G (l4 + 4) l5) G31 Q)))) ∧ (0 ≤ r26 → PX4_owed_91 J l1 l2 l3 l4 l5 (G (l4 + 4) l5) G25 Q)))))) ∧ (¬ (G17 (G (l4 + 4) l5) 5 = 0) → PX4_owed_91 J l1 l2 l3 l4 l5 (G (l4 + 4) l5) G17 Q))))))) ∧ (¬ (G (G (l4 + 4) l5) 0 = 1) → PX4_owed_91 J l1 l2 l3 l4 l5 (G (l4 + 4) l5) G Q)))))))) ∧ (¬ (G 814 2 = 0) → PX4_owed_97 J l1 l2 l3 l4 l5 G Q)))) ∧ (¬ (l5 < G l4 15) → PX4_owed_97 J l1 l2 l3 l4 l5 G Q))))
set_option maxRecDepth 20000 in
theorem TX4_owed_14 {j : Nat → rx_K} {J : Nat → List Int → gS → (Int → gS → Prop) → Prop} {l1 : Int} {l2 : Int} {l3 : Int} {l4 : Int} {l5 : Int} {l6 : Nat} {G : gS} {Q : Int → gS → Prop} (hl2 : inI l2) (hl3 : inI l3) (hl5 : inI l5) (hl6 : l6 % 8 ≠ 1) (hj0 : ∀ (l1 : Int) (l2 : Int) (l3 : Int) (l4 : Int) (l5 : Int) (l6 : Nat) (G : gS), (inI l2) → (inI l3) → (inI l5) → (l6 % 8 ≠ 1) → J 0 [l1, l2, l3, l4, l5] G Q → Tg W0 (j 0) [rf (814), rf (l1), cI (l2), cI (l3), rf (l4), cI (l5), l6] [] G (fun r G => r = 7 ∧ Q 0 G)) (h : PX4_owed_14 J l1 l2 l3 l4 l5 G Q) : Tg W0 (vX4_owed_14 j) [rf (814), rf (l1), cI (l2), cI (l3), rf (l4), cI (l5), l6] [] G (fun r G => r = 7 ∧ Q 0 G) := by
  unfold PX4_owed_14 at h
  unfold vX4_owed_14
  refine g_ld (v := cI _) rfl (is_I _) ?_
  refine g_ld (v := rf _) rfl (is_R _) ?_
  obtain ⟨q6, h⟩ := h
  refine g_getI (kz := 15) q6 rfl (Nat.le_of_ble_eq_true rfl) rfl fun i7 => ?_
  replace h := h i7
  refine g_lt2 hl5 i7 (fun b8 => ?_) (fun b8 => ?_)
  · replace h := h.1 b8
    unfold vX4_owed_24
    refine g_ld (v := rf _) rfl (is_R _) ?_
    refine g_getI (kz := 2) oC4 rfl (Nat.le_of_ble_eq_true rfl) rfl fun i9 => ?_
    replace h := h i9
    refine g_eq1 i9 (fun b10 => ?_) (fun b10 => ?_)
    · replace h := h.1 b10
      unfold vX4_owed_31
      refine g_ld (v := rf _) rfl (is_R _) ?_
      refine g_getF q6 (ff10_14 q6).1 rfl (Nat.le_of_ble_eq_true rfl) (Nat.le_of_ble_eq_true rfl) ?_
      refine g_ld (v := cI _) rfl (is_I _) ?_
      obtain ⟨q11, q12, h⟩ := h
      refine g_aldRF (c := 7) (ff10_14 q6).2 q11 q12 rfl (by decide) fun i13 => ?_
      replace h := h i13
      refine g_st (lv' := [_, _, _, _, _, _, _]) (is_R _) (Nat.le_of_ble_eq_true rfl) (Or.inr (n1_I _)) rfl ?_
      refine g_ld (v := rf _) rfl (is_R _) ?_
      obtain ⟨q14, h⟩ := h
      refine g_getI (kz := 0) q14 rfl (Nat.le_of_ble_eq_true rfl) rfl fun i15 => ?_
      replace h := h i15
      refine g_const (v := cI (1)) rfl ?_
      refine g_eq2 i15 ⟨by omega, by omega⟩ (fun b16 => ?_) (fun b16 => ?_)
      · replace h := h.1 b16
        unfold vX4_owed_50
        refine g_ld (v := rf _) rfl (is_R _) ?_
        refine g_callV (As := []) (ci := 7) q14 (fun _ => rfl) ?_
        refine g_go1 (Nat.le_of_ble_eq_true rfl) (Tn_w (TX7_ofObjects  h) fun _ G17 ⟨r18, e, i19, h⟩ => ?_)
        subst e
        refine ⟨n7_I _, ?_⟩
        replace h := h i19
        refine g_eq1 ⟨by omega, by omega⟩ (fun b20 => ?_) (fun b20 => ?_)
        · replace h := h.1 b20
          exact TX4_owed_91 hl2 hl3 hl5 hj0 h
        · replace h := h.2 b20
          unfold vX4_owed_58
          refine g_ld (v := rf _) rfl (is_R _) ?_
          refine g_getZ (kz := 5) q14 rfl (Nat.le_of_ble_eq_true rfl) rfl fun i21 => ?_
          replace h := h i21
          refine g_eq1 ⟨by omega, by omega⟩ (fun b22 => ?_) (fun b22 => ?_)
          · replace h := h.1 b22
            unfold vX4_owed_66
            refine g_ld (v := rf _) rfl (is_R _) ?_
            refine g_getR (kz := 0) (c := 11) oC4 rfl (Nat.le_of_ble_eq_true rfl) rfl (by decide) fun i23 => ?_
            replace h := h i23
            refine g_ld (v := rf _) rfl (is_R _) ?_
            refine g_ld (v := cI _) rfl (is_I _) ?_
            refine g_ld (v := cI _) rfl (is_I _) ?_
            obtain ⟨q24, h⟩ := h
            refine g_callV (As := [_, _, _]) (ci := 11) q24 (fun _ => rfl) ?_
            refine g_go1 (Nat.le_of_ble_eq_true rfl) (Tn_w (TX11_selected hl3 hl2 h) fun _ G25 ⟨r26, e, h⟩ => ?_)
            subst e
            refine ⟨n7_R _, ?_⟩
            refine g_nul (fun b28 => ?_) (fun b28 => ?_)
            · replace h := h.1 b28
              unfold vX4_owed_80
              refine g_ld (v := rf _) rfl (is_R _) ?_
              refine g_const (v := cI (10)) rfl ?_
              refine g_ld (v := rf _) rfl (is_R _) ?_
              obtain ⟨q29, h⟩ := h
              refine g_getI (kz := 2) q29 rfl (Nat.le_of_ble_eq_true rfl) rfl fun i30 => ?_
              replace h := h i30
              refine g_callV (As := [_, _]) (ci := 4) oC4 (fun _ => rfl) ?_
              refine g_go1 (Nat.le_of_ble_eq_true rfl) (Tn_w (TX4_fail ⟨by omega, by omega⟩ i30 h) fun _ G31 ⟨r32, e, i33, h⟩ => ?_)
              subst e
              refine ⟨n7_I _, ?_⟩
              replace h := h i33
              refine g_pop (ct_I _) ?_
              exact TX4_owed_91 hl2 hl3 hl5 hj0 h
            · replace h := h.2 b28
              exact TX4_owed_91 hl2 hl3 hl5 hj0 h
          · replace h := h.2 b22
            exact TX4_owed_91 hl2 hl3 hl5 hj0 h
      · replace h := h.2 b16
        exact TX4_owed_91 hl2 hl3 hl5 hj0 h
    · replace h := h.2 b10
      exact TX4_owed_97 hl2 hl3 hl5 hl6 hj0 h
  · replace h := h.2 b8
    exact TX4_owed_97 hl2 hl3 hl5 hl6 hj0 h
def PX4_owed_0 (J : Nat → List Int → gS → (Int → gS → Prop) → Prop) (a1 : Int) (a2 : Int) (a3 : Int) (G : gS) (Q : Int → gS → Prop) : Prop :=
  ((G 814 0 = -1 ∨ isO W0 11 (G 814 0)) → (isO W0 11 (G 814 0) ∧ ((0 : Int) ≤ a3 ∧ ((a3 : Int) < 64 ∧ (((G ((G 814 0) + 1) a3 = -1 ∨ isO W0 10 (G ((G 814 0) + 1) a3)) ∧ ∀ v, W0.2 ((G 814 0) + 1) a3 = some v → G ((G 814 0) + 1) a3 = v) → PX4_owed_14 J a1 a2 a3 (G ((G 814 0) + 1) a3) 0 G Q)))))
set_option maxRecDepth 20000 in
theorem TX4_owed_0 {j : Nat → rx_K} {J : Nat → List Int → gS → (Int → gS → Prop) → Prop} {a1 : Int} {a2 : Int} {a3 : Int} {G : gS} {Q : Int → gS → Prop} (ha2 : inI a2) (ha3 : inI a3) (hj0 : ∀ (l1 : Int) (l2 : Int) (l3 : Int) (l4 : Int) (l5 : Int) (l6 : Nat) (G : gS), (inI l2) → (inI l3) → (inI l5) → (l6 % 8 ≠ 1) → J 0 [l1, l2, l3, l4, l5] G Q → Tg W0 (j 0) [rf (814), rf (l1), cI (l2), cI (l3), rf (l4), cI (l5), l6] [] G (fun r G => r = 7 ∧ Q 0 G)) (h : PX4_owed_0 J a1 a2 a3 G Q) : Tg W0 (vX4_owed_0 j) [rf (814), rf (a1), cI (a2), cI (a3), 7, 7, 7] [] G (fun r G => r = 7 ∧ Q 0 G) := by
  unfold PX4_owed_0 at h
  unfold vX4_owed_0
  refine g_ld (v := rf _) rfl (is_R _) ?_
  refine g_getR (kz := 0) (c := 11) oC4 rfl (Nat.le_of_ble_eq_true rfl) rfl (by decide) fun i1 => ?_
  replace h := h i1
  obtain ⟨q2, h⟩ := h
  refine g_getF q2 (ff11_1 q2).1 rfl (Nat.le_of_ble_eq_true rfl) (Nat.le_of_ble_eq_true rfl) ?_
  refine g_ld (v := cI _) rfl (is_I _) ?_
  obtain ⟨q3, q4, h⟩ := h
  refine g_aldRF (c := 10) (ff11_1 q2).2 q3 q4 rfl (by decide) fun i5 => ?_
  replace h := h i5
  refine g_st (lv' := [_, _, _, _, _, _, _]) (is_R _) (Nat.le_of_ble_eq_true rfl) (Or.inr (n1_I _)) rfl ?_
  refine g_const (v := cI (0)) rfl ?_
  refine g_st (lv' := [_, _, _, _, _, _, _]) (is_I _) (Nat.le_of_ble_eq_true rfl) (Or.inr (n1_R _)) rfl ?_
  exact TX4_owed_14 ha2 ha3 ⟨by omega, by omega⟩ (show 7 % 8 ≠ 1 by decide) hj0 h
def PX4_owed_J : Nat → Nat → List Int → gS → (Int → gS → Prop) → Prop
  | 0, _, _, _, _ => False
  | f + 1, h, L, G, Q => match h, L with
    | 0, [l1, l2, l3, l4, l5] => PX4_owed_14 (PX4_owed_J f) l1 l2 l3 l4 l5 G Q
    | _, _ => False
theorem TX4_owed_J {Q : Int → gS → Prop} : ∀ f N : Nat, f ≤ N → (∀ (l1 : Int) (l2 : Int) (l3 : Int) (l4 : Int) (l5 : Int) (l6 : Nat) (G : gS), (inI l2) → (inI l3) → (inI l5) → (l6 % 8 ≠ 1) → (PX4_owed_J f) 0 [l1, l2, l3, l4, l5] G Q → Tg W0 (rx_J vhX4_owed N 0) [rf (814), rf (l1), cI (l2), cI (l3), rf (l4), cI (l5), l6] [] G (fun r G => r = 7 ∧ Q 0 G)) := by
  intro f
  induction f with
  | zero => exact fun N _ => fun _ _ _ _ _ _ _ _ _ _ _ h => h.elim
  | succ f ih =>
    intro N hN
    obtain ⟨M, rfl⟩ : ∃ M, N = M + 1 := ⟨N - 1, by omega⟩
    have ih := ih M (by omega)
    exact fun _ _ _ _ _ _ _ hl2 hl3 hl5 hl6 h => show Tg W0 (vX4_owed_14 (rx_J vhX4_owed M)) _ _ _ _ from TX4_owed_14 hl2 hl3 hl5 hl6 ih h
def PX4_owed (a1 : Int) (a2 : Int) (a3 : Int) (G : gS) (Q : Int → gS → Prop) : Prop := ∃ f : Nat, f ≤ 4000000000 ∧ PX4_owed_0 (PX4_owed_J f) a1 a2 a3 G Q
theorem TX4_owed {a1 : Int} {a2 : Int} {a3 : Int} {G : gS} {Q : Int → gS → Prop} (ha2 : inI a2) (ha3 : inI a3) (h : PX4_owed a1 a2 a3 G Q) : Tn W0 FX4_owed [rf (814), rf (a1), cI (a2), cI (a3)] G (fun r G => r = 7 ∧ Q 0 G) := by
  obtain ⟨f, hf, h⟩ := h
  have hJ := TX4_owed_J (Q := Q) f 4000000000 hf
  unfold FX4_owed
  refine g_ent (lv' := [rf (814), rf (a1), cI (a2), cI (a3), 7, 7, 7]) (flR (flR (flI (flI fl0)))) (Nat.le_of_ble_eq_true rfl) rfl ?_
  exact TX4_owed_0 ha2 ha3 hJ h
def PX4_whole_82 (J : Nat → List Int → gS → (Int → gS → Prop) → Prop) (l1 : Int) (l2 : Int) (l3 : Int) (l4 : Int) (l5 : Int) (G : gS) (Q : Int → gS → Prop) : Prop :=
  ((l5 < l4 → ((G 814 0 = -1 ∨ isO W0 11 (G 814 0)) → (isO W0 11 (G 814 0) ∧ ((0 : Int) ≤ (l2 * 64) + l5 ∧ (((l2 * 64) + l5 : Int) < 4096 ∧ (inI (G ((G 814 0) + 9) ((l2 * 64) + l5)) → PX4_owed l1 l2 (G ((G 814 0) + 9) ((l2 * 64) + l5)) G (fun _ G37 => (inI (l5 + 1) ∧ J 1 [l1, l2, l3, l4, l5 + 1] G37 Q)))))))) ∧ (¬ (l5 < l4) → Q 0 G))
set_option maxRecDepth 20000 in
theorem TX4_whole_82 {j : Nat → rx_K} {J : Nat → List Int → gS → (Int → gS → Prop) → Prop} {l1 : Int} {l2 : Int} {l3 : Int} {l4 : Int} {l5 : Int} {G : gS} {Q : Int → gS → Prop} (hl2 : inI l2) (hl3 : inI l3) (hl4 : inI l4) (hl5 : inI l5) (hj0 : ∀ (l1 : Int) (l2 : Int) (l3 : Int) (l4 : Int) (l5 : Nat) (G : gS), (inI l2) → (inI l3) → (inI l4) → (l5 % 8 ≠ 1) → J 0 [l1, l2, l3, l4] G Q → Tg W0 (j 0) [rf (814), rf (l1), cI (l2), cI (l3), cI (l4), l5] [] G (fun r G => r = 7 ∧ Q 0 G)) (hj1 : ∀ (l1 : Int) (l2 : Int) (l3 : Int) (l4 : Int) (l5 : Int) (G : gS), (inI l2) → (inI l3) → (inI l4) → (inI l5) → J 1 [l1, l2, l3, l4, l5] G Q → Tg W0 (j 1) [rf (814), rf (l1), cI (l2), cI (l3), cI (l4), cI (l5)] [] G (fun r G => r = 7 ∧ Q 0 G)) (h : PX4_whole_82 J l1 l2 l3 l4 l5 G Q) : Tg W0 (vX4_whole_82 j) [rf (814), rf (l1), cI (l2), cI (l3), cI (l4), cI (l5)] [] G (fun r G => r = 7 ∧ Q 0 G) := by
  unfold PX4_whole_82 at h
  unfold vX4_whole_82
  refine g_ld (v := cI _) rfl (is_I _) ?_
  refine g_ld (v := cI _) rfl (is_I _) ?_
  refine g_lt2 hl5 hl4 (fun b31 => ?_) (fun b31 => ?_)
  · replace h := h.1 b31
    unfold vX4_whole_89
    refine g_ld (v := rf _) rfl (is_R _) ?_
    refine g_ld (v := rf _) rfl (is_R _) ?_
    refine g_ld (v := cI _) rfl (is_I _) ?_
    refine g_ld (v := rf _) rfl (is_R _) ?_
    refine g_getR (kz := 0) (c := 11) oC4 rfl (Nat.le_of_ble_eq_true rfl) rfl (by decide) fun i32 => ?_
    replace h := h i32
    obtain ⟨q33, h⟩ := h
    refine g_getF q33 (ff11_10 q33).1 rfl (Nat.le_of_ble_eq_true rfl) (Nat.le_of_ble_eq_true rfl) ?_
    refine g_ld (v := cI _) rfl (is_I _) ?_
    refine g_const (v := cI (64)) rfl ?_
    refine g_mul ?_
    refine g_ld (v := cI _) rfl (is_I _) ?_
    refine g_add ?_
    obtain ⟨q34, q35, h⟩ := h
    refine g_aldI (ff11_10 q33).2 q34 q35 rfl fun i36 => ?_
    replace h := h i36
    refine g_callV (As := [_, _, _]) (ci := 4) oC4 (fun _ => rfl) ?_
    refine g_go0 (Nat.le_of_ble_eq_true rfl) (Tn_w (TX4_owed hl2 i36 h) fun _ G37 ⟨e, h⟩ => ⟨e, ?_⟩)
    refine g_inc (lv' := [_, _, _, _, _, _]) rfl (Nat.le_of_ble_eq_true rfl) (Or.inr (n1_I _)) rfl ?_
    obtain ⟨q39, h⟩ := h
    exact hj1 _ _ _ _ _ _ hl2 hl3 hl4 q39 h
  · replace h := h.2 b31
    unfold vX4_whole_116
    exact g_ret0 ⟨rfl, h⟩
def PX4_whole_69 (J : Nat → List Int → gS → (Int → gS → Prop) → Prop) (l1 : Int) (l2 : Int) (l3 : Int) (l4 : Int) (G : gS) (Q : Int → gS → Prop) : Prop :=
  ((G 814 0 = -1 ∨ isO W0 11 (G 814 0)) → (isO W0 11 (G 814 0) ∧ PX11_faces (G 814 0) l2 G (fun r29 G28 => inI r29 → PX4_whole_82 J l1 l2 l3 r29 0 G28 Q)))
set_option maxRecDepth 20000 in
theorem TX4_whole_69 {j : Nat → rx_K} {J : Nat → List Int → gS → (Int → gS → Prop) → Prop} {l1 : Int} {l2 : Int} {l3 : Int} {l4 : Int} {l5 : Nat} {G : gS} {Q : Int → gS → Prop} (hl2 : inI l2) (hl3 : inI l3) (hl4 : inI l4) (hl5 : l5 % 8 ≠ 1) (hj0 : ∀ (l1 : Int) (l2 : Int) (l3 : Int) (l4 : Int) (l5 : Nat) (G : gS), (inI l2) → (inI l3) → (inI l4) → (l5 % 8 ≠ 1) → J 0 [l1, l2, l3, l4] G Q → Tg W0 (j 0) [rf (814), rf (l1), cI (l2), cI (l3), cI (l4), l5] [] G (fun r G => r = 7 ∧ Q 0 G)) (hj1 : ∀ (l1 : Int) (l2 : Int) (l3 : Int) (l4 : Int) (l5 : Int) (G : gS), (inI l2) → (inI l3) → (inI l4) → (inI l5) → J 1 [l1, l2, l3, l4, l5] G Q → Tg W0 (j 1) [rf (814), rf (l1), cI (l2), cI (l3), cI (l4), cI (l5)] [] G (fun r G => r = 7 ∧ Q 0 G)) (h : PX4_whole_69 J l1 l2 l3 l4 G Q) : Tg W0 (vX4_whole_69 j) [rf (814), rf (l1), cI (l2), cI (l3), cI (l4), l5] [] G (fun r G => r = 7 ∧ Q 0 G) := by
  unfold PX4_whole_69 at h
  unfold vX4_whole_69
  refine g_ld (v := rf _) rfl (is_R _) ?_
  refine g_getR (kz := 0) (c := 11) oC4 rfl (Nat.le_of_ble_eq_true rfl) rfl (by decide) fun i26 => ?_
  replace h := h i26
  refine g_ld (v := cI _) rfl (is_I _) ?_
  obtain ⟨q27, h⟩ := h
  refine g_callV (As := [_]) (ci := 11) q27 (fun _ => rfl) ?_
  refine g_go1 (Nat.le_of_ble_eq_true rfl) (Tn_w (TX11_faces hl2 h) fun _ G28 ⟨r29, e, i30, h⟩ => ?_)
  subst e
  refine ⟨n7_I _, ?_⟩
  replace h := h i30
  refine g_st (lv' := [_, _, _, _, _, _]) (is_I _) (Nat.le_of_ble_eq_true rfl) (Or.inr (n1_I _)) rfl ?_
  refine g_const (v := cI (0)) rfl ?_
  refine g_st (lv' := [_, _, _, _, _, _]) (is_I _) (Nat.le_of_ble_eq_true rfl) (Or.inr (n1_I _)) rfl ?_
  exact TX4_whole_82 hl2 hl3 i30 ⟨by omega, by omega⟩ hj0 hj1 h
def PX4_whole_28 (J : Nat → List Int → gS → (Int → gS → Prop) → Prop) (l1 : Int) (l2 : Int) (l3 : Int) (l4 : Int) (G : gS) (Q : Int → gS → Prop) : Prop :=
  ((G 814 0 = -1 ∨ isO W0 11 (G 814 0)) → (isO W0 11 (G 814 0) ∧ ((0 : Int) ≤ l2 ∧ ((l2 : Int) < 64 ∧ (inI (G ((G 814 0) + 3) l2) → ((l4 < G ((G 814 0) + 3) l2 → ((l3 < 0 → PX4_whole_69 J l1 l2 l3 l4 G Q) ∧ (¬ (l3 < 0) → PX4_owed l1 l2 l3 G (fun _ G18 => ((G18 814 0 = -1 ∨ isO W0 11 (G18 814 0)) → (isO W0 11 (G18 814 0) ∧ ((0 : Int) ≤ l3 ∧ ((l3 : Int) < 64 ∧ (inI (G18 ((G18 814 0) + 2) l3) → (inI (l4 + 1) ∧ J 0 [l1, l2, G18 ((G18 814 0) + 2) l3, l4 + 1] G18 Q)))))))))) ∧ (¬ (l4 < G ((G 814 0) + 3) l2) → PX4_whole_69 J l1 l2 l3 l4 G Q)))))))
set_option maxRecDepth 20000 in
theorem TX4_whole_28 {j : Nat → rx_K} {J : Nat → List Int → gS → (Int → gS → Prop) → Prop} {l1 : Int} {l2 : Int} {l3 : Int} {l4 : Int} {l5 : Nat} {G : gS} {Q : Int → gS → Prop} (hl2 : inI l2) (hl3 : inI l3) (hl4 : inI l4) (hl5 : l5 % 8 ≠ 1) (hj0 : ∀ (l1 : Int) (l2 : Int) (l3 : Int) (l4 : Int) (l5 : Nat) (G : gS), (inI l2) → (inI l3) → (inI l4) → (l5 % 8 ≠ 1) → J 0 [l1, l2, l3, l4] G Q → Tg W0 (j 0) [rf (814), rf (l1), cI (l2), cI (l3), cI (l4), l5] [] G (fun r G => r = 7 ∧ Q 0 G)) (hj1 : ∀ (l1 : Int) (l2 : Int) (l3 : Int) (l4 : Int) (l5 : Int) (G : gS), (inI l2) → (inI l3) → (inI l4) → (inI l5) → J 1 [l1, l2, l3, l4, l5] G Q → Tg W0 (j 1) [rf (814), rf (l1), cI (l2), cI (l3), cI (l4), cI (l5)] [] G (fun r G => r = 7 ∧ Q 0 G)) (h : PX4_whole_28 J l1 l2 l3 l4 G Q) : Tg W0 (vX4_whole_28 j) [rf (814), rf (l1), cI (l2), cI (l3), cI (l4), l5] [] G (fun r G => r = 7 ∧ Q 0 G) := by
  unfold PX4_whole_28 at h
  unfold vX4_whole_28
  refine g_ld (v := cI _) rfl (is_I _) ?_
  refine g_ld (v := rf _) rfl (is_R _) ?_
  refine g_getR (kz := 0) (c := 11) oC4 rfl (Nat.le_of_ble_eq_true rfl) rfl (by decide) fun i11 => ?_
  replace h := h i11
  obtain ⟨q12, h⟩ := h
  refine g_getF q12 (ff11_4 q12).1 rfl (Nat.le_of_ble_eq_true rfl) (Nat.le_of_ble_eq_true rfl) ?_
  refine g_ld (v := cI _) rfl (is_I _) ?_
  obtain ⟨q13, q14, h⟩ := h
  refine g_aldI (ff11_4 q12).2 q13 q14 rfl fun i15 => ?_
  replace h := h i15
  refine g_lt2 hl4 i15 (fun b16 => ?_) (fun b16 => ?_)
  · replace h := h.1 b16
    unfold vX4_whole_42
    refine g_ld (v := cI _) rfl (is_I _) ?_
    refine g_lt1 hl3 (fun b17 => ?_) (fun b17 => ?_)
    · replace h := h.1 b17
      exact TX4_whole_69 hl2 hl3 hl4 hl5 hj0 hj1 h
    · replace h := h.2 b17
      unfold vX4_whole_46
      refine g_ld (v := rf _) rfl (is_R _) ?_
      refine g_ld (v := rf _) rfl (is_R _) ?_
      refine g_ld (v := cI _) rfl (is_I _) ?_
      refine g_ld (v := cI _) rfl (is_I _) ?_
      refine g_callV (As := [_, _, _]) (ci := 4) oC4 (fun _ => rfl) ?_
      refine g_go0 (Nat.le_of_ble_eq_true rfl) (Tn_w (TX4_owed hl2 hl3 h) fun _ G18 ⟨e, h⟩ => ⟨e, ?_⟩)
      refine g_ld (v := rf _) rfl (is_R _) ?_
      refine g_getR (kz := 0) (c := 11) oC4 rfl (Nat.le_of_ble_eq_true rfl) rfl (by decide) fun i20 => ?_
      replace h := h i20
      obtain ⟨q21, h⟩ := h
      refine g_getF q21 (ff11_3 q21).1 rfl (Nat.le_of_ble_eq_true rfl) (Nat.le_of_ble_eq_true rfl) ?_
      refine g_ld (v := cI _) rfl (is_I _) ?_
      obtain ⟨q22, q23, h⟩ := h
      refine g_aldI (ff11_3 q21).2 q22 q23 rfl fun i24 => ?_
      replace h := h i24
      refine g_st (lv' := [_, _, _, _, _, _]) (is_I _) (Nat.le_of_ble_eq_true rfl) (Or.inr (n1_I _)) rfl ?_
      refine g_inc (lv' := [_, _, _, _, _, _]) rfl (Nat.le_of_ble_eq_true rfl) (Or.inr (n1_I _)) rfl ?_
      obtain ⟨q25, h⟩ := h
      exact hj0 _ _ _ _ _ _ hl2 i24 q25 hl5 h
  · replace h := h.2 b16
    exact TX4_whole_69 hl2 hl3 hl4 hl5 hj0 hj1 h
def PX4_whole_14 (J : Nat → List Int → gS → (Int → gS → Prop) → Prop) (l1 : Int) (l2 : Int) (G : gS) (Q : Int → gS → Prop) : Prop :=
  Q 0 G
set_option maxRecDepth 20000 in
theorem TX4_whole_14 {j : Nat → rx_K} {J : Nat → List Int → gS → (Int → gS → Prop) → Prop} {l1 : Int} {l2 : Int} {l3 : Nat} {l4 : Nat} {l5 : Nat} {G : gS} {Q : Int → gS → Prop} (hl2 : inI l2) (hl3 : l3 % 8 ≠ 1) (hl4 : l4 % 8 ≠ 1) (hl5 : l5 % 8 ≠ 1) (hj0 : ∀ (l1 : Int) (l2 : Int) (l3 : Int) (l4 : Int) (l5 : Nat) (G : gS), (inI l2) → (inI l3) → (inI l4) → (l5 % 8 ≠ 1) → J 0 [l1, l2, l3, l4] G Q → Tg W0 (j 0) [rf (814), rf (l1), cI (l2), cI (l3), cI (l4), l5] [] G (fun r G => r = 7 ∧ Q 0 G)) (hj1 : ∀ (l1 : Int) (l2 : Int) (l3 : Int) (l4 : Int) (l5 : Int) (G : gS), (inI l2) → (inI l3) → (inI l4) → (inI l5) → J 1 [l1, l2, l3, l4, l5] G Q → Tg W0 (j 1) [rf (814), rf (l1), cI (l2), cI (l3), cI (l4), cI (l5)] [] G (fun r G => r = 7 ∧ Q 0 G)) (h : PX4_whole_14 J l1 l2 G Q) : Tg W0 (vX4_whole_14 j) [rf (814), rf (l1), cI (l2), l3, l4, l5] [] G (fun r G => r = 7 ∧ Q 0 G) := by
  unfold PX4_whole_14 at h
  unfold vX4_whole_14
  exact g_ret0 ⟨rfl, h⟩
def PX4_whole_0 (J : Nat → List Int → gS → (Int → gS → Prop) → Prop) (a1 : Int) (a2 : Int) (G : gS) (Q : Int → gS → Prop) : Prop :=
  (isO W0 10 (a1) ∧ ((0 ≤ G a1 6 ∧ G a1 6 ≤ 1) → ((G a1 6 = 0 → ((0 ≤ G a1 4 ∧ G a1 4 ≤ 1) → ((G a1 4 = 0 → ((G 814 0 = -1 ∨ isO W0 11 (G 814 0)) → (isO W0 11 (G 814 0) ∧ ((0 : Int) ≤ a2 ∧ ((a2 : Int) < 64 ∧ (inI (G ((G 814 0) + 2) a2) → PX4_whole_28 J a1 a2 (G ((G 814 0) + 2) a2) 0 G Q)))))) ∧ (¬ (G a1 4 = 0) → PX4_whole_14 J a1 a2 G Q)))) ∧ (¬ (G a1 6 = 0) → PX4_whole_14 J a1 a2 G Q))))
set_option maxRecDepth 20000 in
theorem TX4_whole_0 {j : Nat → rx_K} {J : Nat → List Int → gS → (Int → gS → Prop) → Prop} {a1 : Int} {a2 : Int} {G : gS} {Q : Int → gS → Prop} (ha2 : inI a2) (hj0 : ∀ (l1 : Int) (l2 : Int) (l3 : Int) (l4 : Int) (l5 : Nat) (G : gS), (inI l2) → (inI l3) → (inI l4) → (l5 % 8 ≠ 1) → J 0 [l1, l2, l3, l4] G Q → Tg W0 (j 0) [rf (814), rf (l1), cI (l2), cI (l3), cI (l4), l5] [] G (fun r G => r = 7 ∧ Q 0 G)) (hj1 : ∀ (l1 : Int) (l2 : Int) (l3 : Int) (l4 : Int) (l5 : Int) (G : gS), (inI l2) → (inI l3) → (inI l4) → (inI l5) → J 1 [l1, l2, l3, l4, l5] G Q → Tg W0 (j 1) [rf (814), rf (l1), cI (l2), cI (l3), cI (l4), cI (l5)] [] G (fun r G => r = 7 ∧ Q 0 G)) (h : PX4_whole_0 J a1 a2 G Q) : Tg W0 (vX4_whole_0 j) [rf (814), rf (a1), cI (a2), 7, 7, 7] [] G (fun r G => r = 7 ∧ Q 0 G) := by
  unfold PX4_whole_0 at h
  unfold vX4_whole_0
  refine g_ld (v := rf _) rfl (is_R _) ?_
  obtain ⟨q1, h⟩ := h
  refine g_getZ (kz := 6) q1 rfl (Nat.le_of_ble_eq_true rfl) rfl fun i2 => ?_
  replace h := h i2
  refine g_eq1 ⟨by omega, by omega⟩ (fun b3 => ?_) (fun b3 => ?_)
  · replace h := h.1 b3
    unfold vX4_whole_7
    refine g_ld (v := rf _) rfl (is_R _) ?_
    refine g_getZ (kz := 4) q1 rfl (Nat.le_of_ble_eq_true rfl) rfl fun i4 => ?_
    replace h := h i4
    refine g_eq1 ⟨by omega, by omega⟩ (fun b5 => ?_) (fun b5 => ?_)
    · replace h := h.1 b5
      unfold vX4_whole_15
      refine g_ld (v := rf _) rfl (is_R _) ?_
      refine g_getR (kz := 0) (c := 11) oC4 rfl (Nat.le_of_ble_eq_true rfl) rfl (by decide) fun i6 => ?_
      replace h := h i6
      obtain ⟨q7, h⟩ := h
      refine g_getF q7 (ff11_3 q7).1 rfl (Nat.le_of_ble_eq_true rfl) (Nat.le_of_ble_eq_true rfl) ?_
      refine g_ld (v := cI _) rfl (is_I _) ?_
      obtain ⟨q8, q9, h⟩ := h
      refine g_aldI (ff11_3 q7).2 q8 q9 rfl fun i10 => ?_
      replace h := h i10
      refine g_st (lv' := [_, _, _, _, _, _]) (is_I _) (Nat.le_of_ble_eq_true rfl) (Or.inr (n1_I _)) rfl ?_
      refine g_const (v := cI (0)) rfl ?_
      refine g_st (lv' := [_, _, _, _, _, _]) (is_I _) (Nat.le_of_ble_eq_true rfl) (Or.inr (n1_I _)) rfl ?_
      exact TX4_whole_28 ha2 i10 ⟨by omega, by omega⟩ (show 7 % 8 ≠ 1 by decide) hj0 hj1 h
    · replace h := h.2 b5
      exact TX4_whole_14 ha2 (show 7 % 8 ≠ 1 by decide) (show 7 % 8 ≠ 1 by decide) (show 7 % 8 ≠ 1 by decide) hj0 hj1 h
  · replace h := h.2 b3
    exact TX4_whole_14 ha2 (show 7 % 8 ≠ 1 by decide) (show 7 % 8 ≠ 1 by decide) (show 7 % 8 ≠ 1 by decide) hj0 hj1 h
def PX4_whole_J : Nat → Nat → List Int → gS → (Int → gS → Prop) → Prop
  | 0, _, _, _, _ => False
  | f + 1, h, L, G, Q => match h, L with
    | 0, [l1, l2, l3, l4] => PX4_whole_28 (PX4_whole_J f) l1 l2 l3 l4 G Q
    | 1, [l1, l2, l3, l4, l5] => PX4_whole_82 (PX4_whole_J f) l1 l2 l3 l4 l5 G Q
    | _, _ => False
theorem TX4_whole_J {Q : Int → gS → Prop} : ∀ f N : Nat, f ≤ N → (∀ (l1 : Int) (l2 : Int) (l3 : Int) (l4 : Int) (l5 : Nat) (G : gS), (inI l2) → (inI l3) → (inI l4) → (l5 % 8 ≠ 1) → (PX4_whole_J f) 0 [l1, l2, l3, l4] G Q → Tg W0 (rx_J vhX4_whole N 0) [rf (814), rf (l1), cI (l2), cI (l3), cI (l4), l5] [] G (fun r G => r = 7 ∧ Q 0 G)) ∧ (∀ (l1 : Int) (l2 : Int) (l3 : Int) (l4 : Int) (l5 : Int) (G : gS), (inI l2) → (inI l3) → (inI l4) → (inI l5) → (PX4_whole_J f) 1 [l1, l2, l3, l4, l5] G Q → Tg W0 (rx_J vhX4_whole N 1) [rf (814), rf (l1), cI (l2), cI (l3), cI (l4), cI (l5)] [] G (fun r G => r = 7 ∧ Q 0 G)) := by
  intro f
  induction f with
  | zero => exact fun N _ => ⟨fun _ _ _ _ _ _ _ _ _ _ h => h.elim, fun _ _ _ _ _ _ _ _ _ _ h => h.elim⟩
  | succ f ih =>
    intro N hN
    obtain ⟨M, rfl⟩ : ∃ M, N = M + 1 := ⟨N - 1, by omega⟩
    have ih := ih M (by omega)
    exact ⟨fun _ _ _ _ _ _ hl2 hl3 hl4 hl5 h => show Tg W0 (vX4_whole_28 (rx_J vhX4_whole M)) _ _ _ _ from TX4_whole_28 hl2 hl3 hl4 hl5 ih.1 ih.2 h, fun _ _ _ _ _ _ hl2 hl3 hl4 hl5 h => show Tg W0 (vX4_whole_82 (rx_J vhX4_whole M)) _ _ _ _ from TX4_whole_82 hl2 hl3 hl4 hl5 ih.1 ih.2 h⟩
def PX4_whole (a1 : Int) (a2 : Int) (G : gS) (Q : Int → gS → Prop) : Prop := ∃ f : Nat, f ≤ 4000000000 ∧ PX4_whole_0 (PX4_whole_J f) a1 a2 G Q
theorem TX4_whole {a1 : Int} {a2 : Int} {G : gS} {Q : Int → gS → Prop} (ha2 : inI a2) (h : PX4_whole a1 a2 G Q) : Tn W0 FX4_whole [rf (814), rf (a1), cI (a2)] G (fun r G => r = 7 ∧ Q 0 G) := by
  obtain ⟨f, hf, h⟩ := h
  have hJ := TX4_whole_J (Q := Q) f 4000000000 hf
  unfold FX4_whole
  refine g_ent (lv' := [rf (814), rf (a1), cI (a2), 7, 7, 7]) (flR (flR (flI fl0))) (Nat.le_of_ble_eq_true rfl) rfl ?_
  exact TX4_whole_0 ha2 hJ.1 hJ.2 h
def PX11_heir_20 (o : Int) (l1 : Int) (l2 : Int) (s0 : Int) (G : gS) (Q : Int → gS → Prop) : Prop :=
  ((0 ≤ s0 ∧ s0 ≤ 1) ∧ Q (s0) G)
set_option maxRecDepth 20000 in
theorem TX11_heir_20 {o : Int} {l1 : Int} {l2 : Int} {s0 : Int} {G : gS} {Q : Int → gS → Prop} (hl1 : inI l1) (hl2 : inI l2) (hs0 : inI s0) (h : PX11_heir_20 o l1 l2 s0 G Q) : Tg W0 vX11_heir_20 [rf (o), cI (l1), cI (l2)] [cI (s0)] G (fun r G => ∃ v, r = cI v ∧ (0 ≤ v ∧ v ≤ 1) ∧ Q v G) := by
  unfold PX11_heir_20 at h
  unfold vX11_heir_20
  obtain ⟨q8, h⟩ := h
  exact g_ret1 (is_Z q8) ⟨_, rfl, q8, h⟩
def PX11_heir_0 (o : Int) (a1 : Int) (a2 : Int) (G : gS) (Q : Int → gS → Prop) : Prop :=
  (isO W0 11 (o) ∧ ((0 : Int) ≤ a1 ∧ ((a1 : Int) < 64 ∧ (inL (G (o + 8) a1) → (inL (lush (G (o + 8) a1) a2) → (inL (land (lush (G (o + 8) a1) a2) 1) → ((land (lush (G (o + 8) a1) a2) 1 = 0 → PX11_heir_20 o a1 a2 0 G Q) ∧ (¬ (land (lush (G (o + 8) a1) a2) 1 = 0) → PX11_heir_20 o a1 a2 1 G Q))))))))
set_option maxRecDepth 20000 in
theorem TX11_heir_0 {o : Int} {a1 : Int} {a2 : Int} {G : gS} {Q : Int → gS → Prop} (ha1 : inI a1) (ha2 : inI a2) (h : PX11_heir_0 o a1 a2 G Q) : Tg W0 vX11_heir_0 [rf (o), cI (a1), cI (a2)] [] G (fun r G => ∃ v, r = cI v ∧ (0 ≤ v ∧ v ≤ 1) ∧ Q v G) := by
  unfold PX11_heir_0 at h
  unfold vX11_heir_0
  refine g_ld (v := rf _) rfl (is_R _) ?_
  obtain ⟨q1, h⟩ := h
  refine g_getF q1 (ff11_9 q1).1 rfl (Nat.le_of_ble_eq_true rfl) (Nat.le_of_ble_eq_true rfl) ?_
  refine g_ld (v := cI _) rfl (is_I _) ?_
  obtain ⟨q2, q3, h⟩ := h
  refine g_aldL (ff11_9 q1).2 q2 q3 rfl fun i4 => ?_
  replace h := h i4
  refine g_ld (v := cI _) rfl (is_I _) ?_
  refine g_lush fun i5 => ?_
  replace h := h i5
  refine g_const (v := cL (1)) rfl ?_
  refine g_land fun i6 => ?_
  replace h := h i6
  refine g_const (v := cL (0)) rfl ?_
  refine g_leq i6 ⟨by omega, by omega⟩ (fun b7 => ?_) (fun b7 => ?_)
  · replace h := h.1 b7
    unfold vX11_heir_19
    refine g_const (v := cI (0)) rfl ?_
    exact TX11_heir_20 ha1 ha2 ⟨by omega, by omega⟩ h
  · replace h := h.2 b7
    unfold vX11_heir_15
    refine g_const (v := cI (1)) rfl ?_
    exact TX11_heir_20 ha1 ha2 ⟨by omega, by omega⟩ h
abbrev PX11_heir (o : Int) (a1 : Int) (a2 : Int) (G : gS) (Q : Int → gS → Prop) : Prop := PX11_heir_0 o a1 a2 G Q
theorem TX11_heir {o : Int} {a1 : Int} {a2 : Int} {G : gS} {Q : Int → gS → Prop} (ha1 : inI a1) (ha2 : inI a2) (h : PX11_heir o a1 a2 G Q) : Tn W0 FX11_heir [rf (o), cI (a1), cI (a2)] G (fun r G => ∃ v, r = cI v ∧ (0 ≤ v ∧ v ≤ 1) ∧ Q v G) := by
  unfold FX11_heir
  refine g_ent (lv' := [rf (o), cI (a1), cI (a2)]) (flR (flI (flI fl0))) (Nat.le_of_ble_eq_true rfl) rfl ?_
  exact TX11_heir_0 ha1 ha2 h
def PX5_recalls_31 (o : Int) (l1 : Int) (l2 : Int) (l3 : Int) (G : gS) (Q : Int → gS → Prop) : Prop :=
  Q (0) G
set_option maxRecDepth 20000 in
theorem TX5_recalls_31 {o : Int} {l1 : Int} {l2 : Int} {l3 : Int} {G : gS} {Q : Int → gS → Prop} (hl1 : inI l1) (hl2 : inI l2) (hl3 : inI l3) (h : PX5_recalls_31 o l1 l2 l3 G Q) : Tg W0 vX5_recalls_31 [rf (o), cI (l1), cI (l2), cI (l3)] [] G (fun r G => ∃ v, r = cI v ∧ (0 ≤ v ∧ v ≤ 1) ∧ Q v G) := by
  unfold PX5_recalls_31 at h
  unfold vX5_recalls_31
  refine g_const (v := cI (0)) rfl ?_
  exact g_ret1 (is_Z (by omega)) ⟨_, rfl, (by omega), h⟩
def PX5_recalls_0 (o : Int) (a1 : Int) (a2 : Int) (G : gS) (Q : Int → gS → Prop) : Prop :=
  (isO W0 5 (o) ∧ ((0 : Int) ≤ a1 ∧ ((a1 : Int) < 65 ∧ (inI (G (o + 10) a1) → (inI ((G (o + 10) a1) + a2) ∧ (((G (o + 10) a1) + a2 < 0 → PX5_recalls_31 o a1 a2 ((G (o + 10) a1) + a2) G Q) ∧ (¬ ((G (o + 10) a1) + a2 < 0) → (((G o 18 = -1 ∨ ∃ n, isA W0 0 n (G o 18)) ∧ ∀ v, W0.2 o 18 = some v → G o 18 = v) → (∃ n8, isA W0 0 n8 (G o 18) ∧ (inI (n8) ∧ (((G (o + 10) a1) + a2 < n8 → (((G o 18 = -1 ∨ ∃ n, isA W0 0 n (G o 18)) ∧ ∀ v, W0.2 o 18 = some v → G o 18 = v) → (∃ n13, isA W0 0 n13 (G o 18) ∧ ((0 : Int) ≤ (G (o + 10) a1) + a2 ∧ (((G (o + 10) a1) + a2 : Int) < n13 ∧ (inI (G (G o 18) ((G (o + 10) a1) + a2)) → ((G (G o 18) ((G (o + 10) a1) + a2) = 0 → PX5_recalls_31 o a1 a2 ((G (o + 10) a1) + a2) G Q) ∧ (¬ (G (G o 18) ((G (o + 10) a1) + a2) = 0) → (((G o 19 = -1 ∨ ∃ n, isA W0 5 n (G o 19)) ∧ ∀ v, W0.2 o 19 = some v → G o 19 = v) → (∃ n20, isA W0 5 n20 (G o 19) ∧ ((0 : Int) ≤ (G (o + 10) a1) + a2 ∧ (((G (o + 10) a1) + a2 : Int) < n20 ∧ (((G (G o 19) ((G (o + 10) a1) + a2) = -1 ∨ isO W0 7 (G (G o 19) ((G (o + 10) a1) + a2))) ∧ ∀ v, W0.2 (G o 19) ((G (o + 10) a1) + a2) = some v → G (G o 19) ((G (o + 10) a1) + a2) = v) → ((G (G o 19) ((G (o + 10) a1) + a2) = -1 ∨ isO W0 7 (G (G o 19) ((G (o + 10) a1) + a2))) ∧ (∀ G26 : gS, G26 = uG G o 11 (G (G o 19) ((G (o + 10) a1) + a2)) → (((G26 o 18 = -1 ∨ ∃ n, isA W0 0 n (G26 o 18)) ∧ ∀ v, W0.2 o 18 = some v → G26 o 18 = v) → (∃ n28, isA W0 0 n28 (G26 o 18) ∧ ((0 : Int) ≤ (G (o + 10) a1) + a2 ∧ (((G (o + 10) a1) + a2 : Int) < n28 ∧ (inI (G26 (G26 o 18) ((G (o + 10) a1) + a2)) → (inI (irem (G26 (G26 o 18) ((G (o + 10) a1) + a2)) 100) → (inI ((irem (G26 (G26 o 18) ((G (o + 10) a1) + a2)) 100) - 3) ∧ (∀ G35 : gS, G35 = uG G26 o 12 ((irem (G26 (G26 o 18) ((G (o + 10) a1) + a2)) 100) - 3) → (((G35 o 18 = -1 ∨ ∃ n, isA W0 0 n (G35 o 18)) ∧ ∀ v, W0.2 o 18 = some v → G35 o 18 = v) → (∃ n37, isA W0 0 n37 (G35 o 18) ∧ ((0 : Int) ≤ (G (o + 10) a1) + a2 ∧ (((G (o + 10) a1) + a2 : Int) < n37 ∧ (inI (G35 (G35 o 18) ((G (o + 10) a1) + a2)) → (inI (idiv (G35 (G35 o 18) ((G (o + 10) a1) + a2)) 100) → (inI ((idiv (G35 (G35 o 18) ((G (o + 10) a1) + a2)) 100) - 3) ∧ (∀ G44 : gS, G44 = uG G35 o 14 ((idiv (G35 (G35 o 18) ((G (o + 10) a1) + a2)) 100) - 3) → Q (1) G44))))))))))))))))))))))))))))))) ∧ (¬ ((G (o + 10) a1) + a2 < n8) → PX5_recalls_31 o a1 a2 ((G (o + 10) a1) + a2) G Q))))))))))))
set_option maxRecDepth 20000 in
theorem TX5_recalls_0 {o : Int} {a1 : Int} {a2 : Int} {G : gS} {Q : Int → gS → Prop} (ha1 : inI a1) (ha2 : inI a2) (h : PX5_recalls_0 o a1 a2 G Q) : Tg W0 vX5_recalls_0 [rf (o), cI (a1), cI (a2), 7] [] G (fun r G => ∃ v, r = cI v ∧ (0 ≤ v ∧ v ≤ 1) ∧ Q v G) := by
  unfold PX5_recalls_0 at h
  unfold vX5_recalls_0
  refine g_ld (v := rf _) rfl (is_R _) ?_
  obtain ⟨q1, h⟩ := h
  refine g_getF q1 (ff5_17 q1).1 rfl (Nat.le_of_ble_eq_true rfl) (Nat.le_of_ble_eq_true rfl) ?_
  refine g_ld (v := cI _) rfl (is_I _) ?_
  obtain ⟨q2, q3, h⟩ := h
  refine g_aldI (ff5_17 q1).2 q2 q3 rfl fun i4 => ?_
  replace h := h i4
  refine g_ld (v := cI _) rfl (is_I _) ?_
  refine g_add ?_
  refine g_st (lv' := [_, _, _, _]) (is_I _) (Nat.le_of_ble_eq_true rfl) (Or.inr (n1_I _)) rfl ?_
  obtain ⟨q5, h⟩ := h
  refine g_ld (v := cI _) rfl (is_I _) ?_
  refine g_lt1 q5 (fun b6 => ?_) (fun b6 => ?_)
  · replace h := h.1 b6
    exact TX5_recalls_31 ha1 ha2 q5 h
  · replace h := h.2 b6
    unfold vX5_recalls_13
    refine g_ld (v := cI _) rfl (is_I _) ?_
    refine g_ld (v := rf _) rfl (is_R _) ?_
    refine g_getAF (kz := 18) (c := 0) q1 rfl (Nat.le_of_ble_eq_true rfl) rfl fun i7 => ?_
    replace h := h i7
    obtain ⟨n8, q9, h⟩ := h
    refine g_alen q9 ?_
    obtain ⟨q10, h⟩ := h
    refine g_lt2 q5 q10 (fun b11 => ?_) (fun b11 => ?_)
    · replace h := h.1 b11
      unfold vX5_recalls_22
      refine g_ld (v := rf _) rfl (is_R _) ?_
      refine g_getAF (kz := 18) (c := 0) q1 rfl (Nat.le_of_ble_eq_true rfl) rfl fun i12 => ?_
      replace h := h i12
      refine g_ld (v := cI _) rfl (is_I _) ?_
      obtain ⟨n13, q14, h⟩ := h
      obtain ⟨q15, q16, h⟩ := h
      refine g_aldI q14 q15 q16 rfl fun i17 => ?_
      replace h := h i17
      refine g_eq1 i17 (fun b18 => ?_) (fun b18 => ?_)
      · replace h := h.1 b18
        exact TX5_recalls_31 ha1 ha2 q5 h
      · replace h := h.2 b18
        unfold vX5_recalls_33
        refine g_ld (v := rf _) rfl (is_R _) ?_
        refine g_ld (v := rf _) rfl (is_R _) ?_
        refine g_getAF (kz := 19) (c := 5) q1 rfl (Nat.le_of_ble_eq_true rfl) rfl fun i19 => ?_
        replace h := h i19
        refine g_ld (v := cI _) rfl (is_I _) ?_
        obtain ⟨n20, q21, h⟩ := h
        obtain ⟨q22, q23, h⟩ := h
        refine g_aldRF (c := 7) q21 q22 q23 rfl (by decide) fun i24 => ?_
        replace h := h i24
        obtain ⟨q25, h⟩ := h
        refine g_putR (kz := 11) (c := 7) q1 rfl (Nat.le_of_ble_eq_true rfl) rfl (by decide) q25 (nf5_11 q1) ?_
        replace h := h _ rfl
        refine g_ld (v := rf _) rfl (is_R _) ?_
        refine g_ld (v := rf _) rfl (is_R _) ?_
        refine g_getAF (kz := 18) (c := 0) q1 rfl (Nat.le_of_ble_eq_true rfl) rfl fun i27 => ?_
        replace h := h i27
        refine g_ld (v := cI _) rfl (is_I _) ?_
        obtain ⟨n28, q29, h⟩ := h
        obtain ⟨q30, q31, h⟩ := h
        refine g_aldI q29 q30 q31 rfl fun i32 => ?_
        replace h := h i32
        refine g_const (v := cI (100)) rfl ?_
        refine g_irem ⟨by omega, by omega⟩ (by omega) fun i33 => ?_
        replace h := h i33
        refine g_const (v := cI (3)) rfl ?_
        refine g_sub ?_
        obtain ⟨q34, h⟩ := h
        refine g_putI (kz := 12) q1 rfl (Nat.le_of_ble_eq_true rfl) rfl q34 (nf5_12 q1) ?_
        replace h := h _ rfl
        refine g_ld (v := rf _) rfl (is_R _) ?_
        refine g_ld (v := rf _) rfl (is_R _) ?_
        refine g_getAF (kz := 18) (c := 0) q1 rfl (Nat.le_of_ble_eq_true rfl) rfl fun i36 => ?_
        replace h := h i36
        refine g_ld (v := cI _) rfl (is_I _) ?_
        obtain ⟨n37, q38, h⟩ := h
        obtain ⟨q39, q40, h⟩ := h
        refine g_aldI q38 q39 q40 rfl fun i41 => ?_
        replace h := h i41
        refine g_const (v := cI (100)) rfl ?_
        refine g_idiv ⟨by omega, by omega⟩ (by omega) fun i42 => ?_
        replace h := h i42
        refine g_const (v := cI (3)) rfl ?_
        unfold vX5_recalls_69
        refine g_sub ?_
        obtain ⟨q43, h⟩ := h
        refine g_putI (kz := 14) q1 rfl (Nat.le_of_ble_eq_true rfl) rfl q43 (nf5_14 q1) ?_
        replace h := h _ rfl
        refine g_const (v := cI (1)) rfl ?_
        exact g_ret1 (is_Z (by omega)) ⟨_, rfl, (by omega), h⟩
    · replace h := h.2 b11
      exact TX5_recalls_31 ha1 ha2 q5 h
abbrev PX5_recalls (o : Int) (a1 : Int) (a2 : Int) (G : gS) (Q : Int → gS → Prop) : Prop := PX5_recalls_0 o a1 a2 G Q
theorem TX5_recalls {o : Int} {a1 : Int} {a2 : Int} {G : gS} {Q : Int → gS → Prop} (ha1 : inI a1) (ha2 : inI a2) (h : PX5_recalls o a1 a2 G Q) : Tn W0 FX5_recalls [rf (o), cI (a1), cI (a2)] G (fun r G => ∃ v, r = cI v ∧ (0 ≤ v ∧ v ≤ 1) ∧ Q v G) := by
  unfold FX5_recalls
  refine g_ent (lv' := [rf (o), cI (a1), cI (a2), 7]) (flR (flI (flI fl0))) (Nat.le_of_ble_eq_true rfl) rfl ?_
  exact TX5_recalls_0 ha1 ha2 h
def PX5_keep_54 (o : Int) (l1 : Int) (l2 : Int) (l3 : Int) (G : gS) (Q : Int → gS → Prop) : Prop :=
  Q 0 G
set_option maxRecDepth 20000 in
theorem TX5_keep_54 {o : Int} {l1 : Int} {l2 : Int} {l3 : Int} {G : gS} {Q : Int → gS → Prop} (hl1 : inI l1) (hl2 : inI l2) (hl3 : inI l3) (h : PX5_keep_54 o l1 l2 l3 G Q) : Tg W0 vX5_keep_54 [rf (o), cI (l1), cI (l2), cI (l3)] [] G (fun r G => r = 7 ∧ Q 0 G) := by
  unfold PX5_keep_54 at h
  unfold vX5_keep_54
  exact g_ret0 ⟨rfl, h⟩
def PX5_keep_0 (o : Int) (a1 : Int) (a2 : Int) (G : gS) (Q : Int → gS → Prop) : Prop :=
  (isO W0 5 (o) ∧ ((0 : Int) ≤ a1 ∧ ((a1 : Int) < 65 ∧ (inI (G (o + 10) a1) → (inI ((G (o + 10) a1) + a2) ∧ (((G (o + 10) a1) + a2 < 0 → PX5_keep_54 o a1 a2 ((G (o + 10) a1) + a2) G Q) ∧ (¬ ((G (o + 10) a1) + a2 < 0) → (((G o 18 = -1 ∨ ∃ n, isA W0 0 n (G o 18)) ∧ ∀ v, W0.2 o 18 = some v → G o 18 = v) → (∃ n8, isA W0 0 n8 (G o 18) ∧ (inI (n8) ∧ (((G (o + 10) a1) + a2 < n8 → (((G o 18 = -1 ∨ ∃ n, isA W0 0 n (G o 18)) ∧ ∀ v, W0.2 o 18 = some v → G o 18 = v) → (inI (G o 14) → (inI (G o 12) → (∃ n15, isA W0 0 n15 (G o 18) ∧ ((0 : Int) ≤ (G (o + 10) a1) + a2 ∧ (((G (o + 10) a1) + a2 : Int) < n15 ∧ (inI (((((G o 14) + 3) * 100) + (G o 12)) + 3) ∧ (∀ G20 : gS, G20 = uG G (G o 18) ((G (o + 10) a1) + a2) (((((G o 14) + 3) * 100) + (G o 12)) + 3) → (((G20 o 19 = -1 ∨ ∃ n, isA W0 5 n (G20 o 19)) ∧ ∀ v, W0.2 o 19 = some v → G20 o 19 = v) → ((G20 o 11 = -1 ∨ isO W0 7 (G20 o 11)) → (∃ n23, isA W0 5 n23 (G20 o 19) ∧ ((0 : Int) ≤ (G (o + 10) a1) + a2 ∧ (((G (o + 10) a1) + a2 : Int) < n23 ∧ (W0.2 (G20 o 19) ((G (o + 10) a1) + a2) = none ∧ ((G20 o 11 = -1 ∨ isO W0 7 (G20 o 11)) ∧ (∀ G29 : gS, G29 = uG G20 (G20 o 19) ((G (o + 10) a1) + a2) (G20 o 11) → PX5_keep_54 o a1 a2 ((G (o + 10) a1) + a2) G29 Q))))))))))))))))) ∧ (¬ ((G (o + 10) a1) + a2 < n8) → PX5_keep_54 o a1 a2 ((G (o + 10) a1) + a2) G Q))))))))))))
set_option maxRecDepth 20000 in
theorem TX5_keep_0 {o : Int} {a1 : Int} {a2 : Int} {G : gS} {Q : Int → gS → Prop} (ha1 : inI a1) (ha2 : inI a2) (h : PX5_keep_0 o a1 a2 G Q) : Tg W0 vX5_keep_0 [rf (o), cI (a1), cI (a2), 7] [] G (fun r G => r = 7 ∧ Q 0 G) := by
  unfold PX5_keep_0 at h
  unfold vX5_keep_0
  refine g_ld (v := rf _) rfl (is_R _) ?_
  obtain ⟨q1, h⟩ := h
  refine g_getF q1 (ff5_17 q1).1 rfl (Nat.le_of_ble_eq_true rfl) (Nat.le_of_ble_eq_true rfl) ?_
  refine g_ld (v := cI _) rfl (is_I _) ?_
  obtain ⟨q2, q3, h⟩ := h
  refine g_aldI (ff5_17 q1).2 q2 q3 rfl fun i4 => ?_
  replace h := h i4
  refine g_ld (v := cI _) rfl (is_I _) ?_
  refine g_add ?_
  refine g_st (lv' := [_, _, _, _]) (is_I _) (Nat.le_of_ble_eq_true rfl) (Or.inr (n1_I _)) rfl ?_
  obtain ⟨q5, h⟩ := h
  refine g_ld (v := cI _) rfl (is_I _) ?_
  refine g_lt1 q5 (fun b6 => ?_) (fun b6 => ?_)
  · replace h := h.1 b6
    exact TX5_keep_54 ha1 ha2 q5 h
  · replace h := h.2 b6
    unfold vX5_keep_13
    refine g_ld (v := cI _) rfl (is_I _) ?_
    refine g_ld (v := rf _) rfl (is_R _) ?_
    refine g_getAF (kz := 18) (c := 0) q1 rfl (Nat.le_of_ble_eq_true rfl) rfl fun i7 => ?_
    replace h := h i7
    obtain ⟨n8, q9, h⟩ := h
    refine g_alen q9 ?_
    obtain ⟨q10, h⟩ := h
    refine g_lt2 q5 q10 (fun b11 => ?_) (fun b11 => ?_)
    · replace h := h.1 b11
      unfold vX5_keep_22
      refine g_ld (v := rf _) rfl (is_R _) ?_
      refine g_getAF (kz := 18) (c := 0) q1 rfl (Nat.le_of_ble_eq_true rfl) rfl fun i12 => ?_
      replace h := h i12
      refine g_ld (v := cI _) rfl (is_I _) ?_
      refine g_ld (v := rf _) rfl (is_R _) ?_
      refine g_getI (kz := 14) q1 rfl (Nat.le_of_ble_eq_true rfl) rfl fun i13 => ?_
      replace h := h i13
      refine g_const (v := cI (3)) rfl ?_
      refine g_add ?_
      refine g_const (v := cI (100)) rfl ?_
      refine g_mul ?_
      refine g_ld (v := rf _) rfl (is_R _) ?_
      refine g_getI (kz := 12) q1 rfl (Nat.le_of_ble_eq_true rfl) rfl fun i14 => ?_
      replace h := h i14
      refine g_add ?_
      refine g_const (v := cI (3)) rfl ?_
      refine g_add ?_
      obtain ⟨n15, q16, h⟩ := h
      obtain ⟨q17, q18, h⟩ := h
      obtain ⟨q19, h⟩ := h
      refine g_astI q16 q17 q18 q19 (nfI q16) ?_
      replace h := h _ rfl
      refine g_ld (v := rf _) rfl (is_R _) ?_
      refine g_getAF (kz := 19) (c := 5) q1 rfl (Nat.le_of_ble_eq_true rfl) rfl fun i21 => ?_
      replace h := h i21
      refine g_ld (v := cI _) rfl (is_I _) ?_
      refine g_ld (v := rf _) rfl (is_R _) ?_
      refine g_getR (kz := 11) (c := 7) q1 rfl (Nat.le_of_ble_eq_true rfl) rfl (by decide) fun i22 => ?_
      replace h := h i22
      obtain ⟨n23, q24, h⟩ := h
      obtain ⟨q25, q26, q27, h⟩ := h
      obtain ⟨q28, h⟩ := h
      refine g_aastR (c := 7) q24 q25 q26 rfl (by decide) q28 q27 ?_
      replace h := h _ rfl
      exact TX5_keep_54 ha1 ha2 q5 h
    · replace h := h.2 b11
      exact TX5_keep_54 ha1 ha2 q5 h
abbrev PX5_keep (o : Int) (a1 : Int) (a2 : Int) (G : gS) (Q : Int → gS → Prop) : Prop := PX5_keep_0 o a1 a2 G Q
theorem TX5_keep {o : Int} {a1 : Int} {a2 : Int} {G : gS} {Q : Int → gS → Prop} (ha1 : inI a1) (ha2 : inI a2) (h : PX5_keep o a1 a2 G Q) : Tn W0 FX5_keep [rf (o), cI (a1), cI (a2)] G (fun r G => r = 7 ∧ Q 0 G) := by
  unfold FX5_keep
  refine g_ent (lv' := [rf (o), cI (a1), cI (a2), 7]) (flR (flI (flI fl0))) (Nat.le_of_ble_eq_true rfl) rfl ?_
  exact TX5_keep_0 ha1 ha2 h
def PX5_tellEvent_37 (o : Int) (l1 : Int) (l2 : Int) (G : gS) (Q : Int → gS → Prop) : Prop :=
  Q 0 G
set_option maxRecDepth 20000 in
theorem TX5_tellEvent_37 {o : Int} {l1 : Int} {l2 : Int} {G : gS} {Q : Int → gS → Prop} (hl1 : inI l1) (hl2 : inI l2) (h : PX5_tellEvent_37 o l1 l2 G Q) : Tg W0 vX5_tellEvent_37 [rf (o), cI (l1), cI (l2)] [] G (fun r G => r = 7 ∧ Q 0 G) := by
  unfold PX5_tellEvent_37 at h
  unfold vX5_tellEvent_37
  exact g_ret0 ⟨rfl, h⟩
def PX5_tellEvent_0 (o : Int) (a1 : Int) (a2 : Int) (G : gS) (Q : Int → gS → Prop) : Prop :=
  (isO W0 5 (o) ∧ (inI (G o 4) → ((G o 4 < 320 → (inI (G o 4) → ((0 : Int) ≤ G o 4 ∧ ((G o 4 : Int) < 320 ∧ (inI ((100 * a1) + a2) ∧ (∀ G8 : gS, G8 = uG G (o + 3) (G o 4) ((100 * a1) + a2) → (inI (G8 o 4) → (inI ((G8 o 4) + 1) ∧ (∀ G11 : gS, G11 = uG G8 o 4 ((G8 o 4) + 1) → PX5_tellEvent_37 o a1 a2 G11 Q))))))))) ∧ (¬ (G o 4 < 320) → PX5_tellEvent_37 o a1 a2 G Q))))
set_option maxRecDepth 20000 in
theorem TX5_tellEvent_0 {o : Int} {a1 : Int} {a2 : Int} {G : gS} {Q : Int → gS → Prop} (ha1 : inI a1) (ha2 : inI a2) (h : PX5_tellEvent_0 o a1 a2 G Q) : Tg W0 vX5_tellEvent_0 [rf (o), cI (a1), cI (a2)] [] G (fun r G => r = 7 ∧ Q 0 G) := by
  unfold PX5_tellEvent_0 at h
  unfold vX5_tellEvent_0
  refine g_ld (v := rf _) rfl (is_R _) ?_
  obtain ⟨q1, h⟩ := h
  refine g_getI (kz := 4) q1 rfl (Nat.le_of_ble_eq_true rfl) rfl fun i2 => ?_
  replace h := h i2
  refine g_ld (v := rf _) rfl (is_R _) ?_
  refine g_getF q1 (ff5_3 q1).1 rfl (Nat.le_of_ble_eq_true rfl) (Nat.le_of_ble_eq_true rfl) ?_
  refine g_alen (ff5_3 q1).2 ?_
  refine g_lt2 i2 ⟨by omega, by omega⟩ (fun b3 => ?_) (fun b3 => ?_)
  · replace h := h.1 b3
    unfold vX5_tellEvent_12
    refine g_ld (v := rf _) rfl (is_R _) ?_
    refine g_getF q1 (ff5_3 q1).1 rfl (Nat.le_of_ble_eq_true rfl) (Nat.le_of_ble_eq_true rfl) ?_
    refine g_ld (v := rf _) rfl (is_R _) ?_
    refine g_getI (kz := 4) q1 rfl (Nat.le_of_ble_eq_true rfl) rfl fun i4 => ?_
    replace h := h i4
    refine g_const (v := cI (100)) rfl ?_
    refine g_ld (v := cI _) rfl (is_I _) ?_
    refine g_mul ?_
    refine g_ld (v := cI _) rfl (is_I _) ?_
    refine g_add ?_
    obtain ⟨q5, q6, h⟩ := h
    obtain ⟨q7, h⟩ := h
    refine g_astI (ff5_3 q1).2 q5 q6 q7 (nfI (ff5_3 q1).2) ?_
    replace h := h _ rfl
    refine g_ld (v := rf _) rfl (is_R _) ?_
    refine g_dup (ct_R _) ?_
    refine g_getI (kz := 4) q1 rfl (Nat.le_of_ble_eq_true rfl) rfl fun i9 => ?_
    replace h := h i9
    refine g_const (v := cI (1)) rfl ?_
    refine g_add ?_
    obtain ⟨q10, h⟩ := h
    refine g_putI (kz := 4) q1 rfl (Nat.le_of_ble_eq_true rfl) rfl q10 (nf5_4 q1) ?_
    replace h := h _ rfl
    exact TX5_tellEvent_37 ha1 ha2 h
  · replace h := h.2 b3
    exact TX5_tellEvent_37 ha1 ha2 h
abbrev PX5_tellEvent (o : Int) (a1 : Int) (a2 : Int) (G : gS) (Q : Int → gS → Prop) : Prop := PX5_tellEvent_0 o a1 a2 G Q
theorem TX5_tellEvent {o : Int} {a1 : Int} {a2 : Int} {G : gS} {Q : Int → gS → Prop} (ha1 : inI a1) (ha2 : inI a2) (h : PX5_tellEvent o a1 a2 G Q) : Tn W0 FX5_tellEvent [rf (o), cI (a1), cI (a2)] G (fun r G => r = 7 ∧ Q 0 G) := by
  unfold FX5_tellEvent
  refine g_ent (lv' := [rf (o), cI (a1), cI (a2)]) (flR (flI (flI fl0))) (Nat.le_of_ble_eq_true rfl) rfl ?_
  exact TX5_tellEvent_0 ha1 ha2 h
def PX5_isLoaded_24 (o : Int) (l1 : Int) (s0 : Int) (G : gS) (Q : Int → gS → Prop) : Prop :=
  ((0 ≤ s0 ∧ s0 ≤ 1) ∧ Q (s0) G)
set_option maxRecDepth 20000 in
theorem TX5_isLoaded_24 {o : Int} {l1 : Int} {s0 : Int} {G : gS} {Q : Int → gS → Prop} (hl1 : inI l1) (hs0 : inI s0) (h : PX5_isLoaded_24 o l1 s0 G Q) : Tg W0 vX5_isLoaded_24 [rf (o), cI (l1)] [cI (s0)] G (fun r G => ∃ v, r = cI v ∧ (0 ≤ v ∧ v ≤ 1) ∧ Q v G) := by
  unfold PX5_isLoaded_24 at h
  unfold vX5_isLoaded_24
  obtain ⟨q10, h⟩ := h
  exact g_ret1 (is_Z q10) ⟨_, rfl, q10, h⟩
def PX5_isLoaded_23 (o : Int) (l1 : Int) (G : gS) (Q : Int → gS → Prop) : Prop :=
  PX5_isLoaded_24 o l1 0 G Q
set_option maxRecDepth 20000 in
theorem TX5_isLoaded_23 {o : Int} {l1 : Int} {G : gS} {Q : Int → gS → Prop} (hl1 : inI l1) (h : PX5_isLoaded_23 o l1 G Q) : Tg W0 vX5_isLoaded_23 [rf (o), cI (l1)] [] G (fun r G => ∃ v, r = cI v ∧ (0 ≤ v ∧ v ≤ 1) ∧ Q v G) := by
  unfold PX5_isLoaded_23 at h
  unfold vX5_isLoaded_23
  refine g_const (v := cI (0)) rfl ?_
  exact TX5_isLoaded_24 hl1 ⟨by omega, by omega⟩ h
def PX5_isLoaded_0 (o : Int) (a1 : Int) (G : gS) (Q : Int → gS → Prop) : Prop :=
  (isO W0 5 (o) ∧ ((0 : Int) ≤ a1 ∧ ((a1 : Int) < 64 ∧ (inI (G (o + 1) a1) → ((0 < G (o + 1) a1 → ((0 : Int) ≤ a1 ∧ ((a1 : Int) < 64 ∧ (inI (G (o + 1) a1) → ((G (o + 1) a1 = 5 → PX5_isLoaded_23 o a1 G Q) ∧ (¬ (G (o + 1) a1 = 5) → PX5_isLoaded_24 o a1 1 G Q)))))) ∧ (¬ (0 < G (o + 1) a1) → PX5_isLoaded_23 o a1 G Q))))))
set_option maxRecDepth 20000 in
theorem TX5_isLoaded_0 {o : Int} {a1 : Int} {G : gS} {Q : Int → gS → Prop} (ha1 : inI a1) (h : PX5_isLoaded_0 o a1 G Q) : Tg W0 vX5_isLoaded_0 [rf (o), cI (a1)] [] G (fun r G => ∃ v, r = cI v ∧ (0 ≤ v ∧ v ≤ 1) ∧ Q v G) := by
  unfold PX5_isLoaded_0 at h
  unfold vX5_isLoaded_0
  refine g_ld (v := rf _) rfl (is_R _) ?_
  obtain ⟨q1, h⟩ := h
  refine g_getF q1 (ff5_1 q1).1 rfl (Nat.le_of_ble_eq_true rfl) (Nat.le_of_ble_eq_true rfl) ?_
  refine g_ld (v := cI _) rfl (is_I _) ?_
  obtain ⟨q2, q3, h⟩ := h
  refine g_aldI (ff5_1 q1).2 q2 q3 rfl fun i4 => ?_
  replace h := h i4
  refine g_gt1 i4 (fun b5 => ?_) (fun b5 => ?_)
  · replace h := h.1 b5
    unfold vX5_isLoaded_9
    refine g_ld (v := rf _) rfl (is_R _) ?_
    refine g_getF q1 (ff5_1 q1).1 rfl (Nat.le_of_ble_eq_true rfl) (Nat.le_of_ble_eq_true rfl) ?_
    refine g_ld (v := cI _) rfl (is_I _) ?_
    obtain ⟨q6, q7, h⟩ := h
    refine g_aldI (ff5_1 q1).2 q6 q7 rfl fun i8 => ?_
    replace h := h i8
    refine g_const (v := cI (5)) rfl ?_
    refine g_eq2 i8 ⟨by omega, by omega⟩ (fun b9 => ?_) (fun b9 => ?_)
    · replace h := h.1 b9
      exact TX5_isLoaded_23 ha1 h
    · replace h := h.2 b9
      unfold vX5_isLoaded_19
      refine g_const (v := cI (1)) rfl ?_
      exact TX5_isLoaded_24 ha1 ⟨by omega, by omega⟩ h
  · replace h := h.2 b5
    exact TX5_isLoaded_23 ha1 h
abbrev PX5_isLoaded (o : Int) (a1 : Int) (G : gS) (Q : Int → gS → Prop) : Prop := PX5_isLoaded_0 o a1 G Q
theorem TX5_isLoaded {o : Int} {a1 : Int} {G : gS} {Q : Int → gS → Prop} (ha1 : inI a1) (h : PX5_isLoaded o a1 G Q) : Tn W0 FX5_isLoaded [rf (o), cI (a1)] G (fun r G => ∃ v, r = cI v ∧ (0 ≤ v ∧ v ≤ 1) ∧ Q v G) := by
  unfold FX5_isLoaded
  refine g_ent (lv' := [rf (o), cI (a1)]) (flR (flI fl0)) (Nat.le_of_ble_eq_true rfl) rfl ?_
  exact TX5_isLoaded_0 ha1 h
def PX5_openLoad_39 (o : Int) (l1 : Int) (l2 : Int) (G : gS) (Q : Int → gS → Prop) : Prop :=
  (isO W0 5 (o) ∧ ((0 : Int) ≤ l2 ∧ ((l2 : Int) < 66 ∧ (∀ G17 : gS, G17 = uG G (o + 5) l2 (l1) → ((0 : Int) ≤ l2 ∧ ((l2 : Int) < 66 ∧ (∀ G20 : gS, G20 = uG G17 (o + 6) l2 (0) → (inI (l2 + 1) ∧ Q (l2 + 1) G20))))))))
set_option maxRecDepth 20000 in
theorem TX5_openLoad_39 {o : Int} {l1 : Int} {l2 : Int} {G : gS} {Q : Int → gS → Prop} (hl1 : inI l1) (hl2 : inI l2) (h : PX5_openLoad_39 o l1 l2 G Q) : Tg W0 vX5_openLoad_39 [rf (o), cI (l1), cI (l2)] [] G (fun r G => ∃ v, r = cI v ∧ inI v ∧ Q v G) := by
  unfold PX5_openLoad_39 at h
  unfold vX5_openLoad_39
  refine g_ld (v := rf _) rfl (is_R _) ?_
  obtain ⟨q14, h⟩ := h
  refine g_getF q14 (ff5_7 q14).1 rfl (Nat.le_of_ble_eq_true rfl) (Nat.le_of_ble_eq_true rfl) ?_
  refine g_ld (v := cI _) rfl (is_I _) ?_
  refine g_ld (v := cI _) rfl (is_I _) ?_
  obtain ⟨q15, q16, h⟩ := h
  refine g_astI (ff5_7 q14).2 q15 q16 hl1 (nfI (ff5_7 q14).2) ?_
  replace h := h _ rfl
  refine g_ld (v := rf _) rfl (is_R _) ?_
  refine g_getF q14 (ff5_8 q14).1 rfl (Nat.le_of_ble_eq_true rfl) (Nat.le_of_ble_eq_true rfl) ?_
  refine g_ld (v := cI _) rfl (is_I _) ?_
  refine g_const (v := cI (0)) rfl ?_
  obtain ⟨q18, q19, h⟩ := h
  refine g_astI (ff5_8 q14).2 q18 q19 ⟨by omega, by omega⟩ (nfI (ff5_8 q14).2) ?_
  replace h := h _ rfl
  refine g_ld (v := cI _) rfl (is_I _) ?_
  refine g_const (v := cI (1)) rfl ?_
  refine g_add ?_
  obtain ⟨q21, h⟩ := h
  exact g_ret1 (is_I _) ⟨_, rfl, q21, h⟩
def PX5_openLoad_0 (o : Int) (a1 : Int) (a2 : Int) (G : gS) (Q : Int → gS → Prop) : Prop :=
  (isO W0 5 (o) ∧ ((0 : Int) ≤ a1 ∧ ((a1 : Int) < 64 ∧ (∀ G4 : gS, G4 = uG G (o + 1) a1 (-1) → (inI (G4 o 6) → ((G4 o 6 < 64 → (inI (G4 o 6) → ((0 : Int) ≤ G4 o 6 ∧ ((G4 o 6 : Int) < 64 ∧ (∀ G10 : gS, G10 = uG G4 (o + 4) (G4 o 6) (a1) → (inI (G10 o 6) → (inI ((G10 o 6) + 1) ∧ (∀ G13 : gS, G13 = uG G10 o 6 ((G10 o 6) + 1) → PX5_openLoad_39 o a1 a2 G13 Q)))))))) ∧ (¬ (G4 o 6 < 64) → PX5_openLoad_39 o a1 a2 G4 Q)))))))
set_option maxRecDepth 20000 in
theorem TX5_openLoad_0 {o : Int} {a1 : Int} {a2 : Int} {G : gS} {Q : Int → gS → Prop} (ha1 : inI a1) (ha2 : inI a2) (h : PX5_openLoad_0 o a1 a2 G Q) : Tg W0 vX5_openLoad_0 [rf (o), cI (a1), cI (a2)] [] G (fun r G => ∃ v, r = cI v ∧ inI v ∧ Q v G) := by
  unfold PX5_openLoad_0 at h
  unfold vX5_openLoad_0
  refine g_ld (v := rf _) rfl (is_R _) ?_
  obtain ⟨q1, h⟩ := h
  refine g_getF q1 (ff5_1 q1).1 rfl (Nat.le_of_ble_eq_true rfl) (Nat.le_of_ble_eq_true rfl) ?_
  refine g_ld (v := cI _) rfl (is_I _) ?_
  refine g_const (v := cI (-1)) rfl ?_
  obtain ⟨q2, q3, h⟩ := h
  refine g_astI (ff5_1 q1).2 q2 q3 ⟨by omega, by omega⟩ (nfI (ff5_1 q1).2) ?_
  replace h := h _ rfl
  refine g_ld (v := rf _) rfl (is_R _) ?_
  refine g_getI (kz := 6) q1 rfl (Nat.le_of_ble_eq_true rfl) rfl fun i5 => ?_
  replace h := h i5
  refine g_ld (v := rf _) rfl (is_R _) ?_
  refine g_getF q1 (ff5_5 q1).1 rfl (Nat.le_of_ble_eq_true rfl) (Nat.le_of_ble_eq_true rfl) ?_
  refine g_alen (ff5_5 q1).2 ?_
  refine g_lt2 i5 ⟨by omega, by omega⟩ (fun b6 => ?_) (fun b6 => ?_)
  · replace h := h.1 b6
    unfold vX5_openLoad_19
    refine g_ld (v := rf _) rfl (is_R _) ?_
    refine g_getF q1 (ff5_5 q1).1 rfl (Nat.le_of_ble_eq_true rfl) (Nat.le_of_ble_eq_true rfl) ?_
    refine g_ld (v := rf _) rfl (is_R _) ?_
    refine g_getI (kz := 6) q1 rfl (Nat.le_of_ble_eq_true rfl) rfl fun i7 => ?_
    replace h := h i7
    refine g_ld (v := cI _) rfl (is_I _) ?_
    obtain ⟨q8, q9, h⟩ := h
    refine g_astI (ff5_5 q1).2 q8 q9 ha1 (nfI (ff5_5 q1).2) ?_
    replace h := h _ rfl
    refine g_ld (v := rf _) rfl (is_R _) ?_
    refine g_dup (ct_R _) ?_
    refine g_getI (kz := 6) q1 rfl (Nat.le_of_ble_eq_true rfl) rfl fun i11 => ?_
    replace h := h i11
    refine g_const (v := cI (1)) rfl ?_
    refine g_add ?_
    obtain ⟨q12, h⟩ := h
    refine g_putI (kz := 6) q1 rfl (Nat.le_of_ble_eq_true rfl) rfl q12 (nf5_6 q1) ?_
    replace h := h _ rfl
    exact TX5_openLoad_39 ha1 ha2 h
  · replace h := h.2 b6
    exact TX5_openLoad_39 ha1 ha2 h
abbrev PX5_openLoad (o : Int) (a1 : Int) (a2 : Int) (G : gS) (Q : Int → gS → Prop) : Prop := PX5_openLoad_0 o a1 a2 G Q
theorem TX5_openLoad {o : Int} {a1 : Int} {a2 : Int} {G : gS} {Q : Int → gS → Prop} (ha1 : inI a1) (ha2 : inI a2) (h : PX5_openLoad o a1 a2 G Q) : Tn W0 FX5_openLoad [rf (o), cI (a1), cI (a2)] G (fun r G => ∃ v, r = cI v ∧ inI v ∧ Q v G) := by
  unfold FX5_openLoad
  refine g_ent (lv' := [rf (o), cI (a1), cI (a2)]) (flR (flI (flI fl0))) (Nat.le_of_ble_eq_true rfl) rfl ?_
  exact TX5_openLoad_0 ha1 ha2 h
def PX5_load_357 (J : Nat → List Int → gS → (Int → gS → Prop) → Prop) (o : Int) (l1 : Int) (l2 : Int) (l3 : Int) (s0 : Int) (G : gS) (Q : Int → gS → Prop) : Prop :=
  Q (s0) G
set_option maxRecDepth 20000 in
theorem TX5_load_357 {j : Nat → rx_K} {J : Nat → List Int → gS → (Int → gS → Prop) → Prop} {o : Int} {l1 : Int} {l2 : Int} {l3 : Int} {l4 : Nat} {l5 : Nat} {l6 : Nat} {l7 : Nat} {l8 : Nat} {l9 : Nat} {s0 : Int} {G : gS} {Q : Int → gS → Prop} (hl1 : inI l1) (hl2 : inI l2) (hl3 : inI l3) (hl4 : l4 % 8 ≠ 1) (hl5 : l5 % 8 ≠ 1) (hl6 : l6 % 8 ≠ 1) (hl7 : l7 % 8 ≠ 1) (hl8 : l8 % 8 ≠ 1) (hl9 : l9 % 8 ≠ 1) (hs0 : inI s0) (hj0 : ∀ (o : Int) (l1 : Int) (l2 : Int) (l3 : Int) (l4 : Nat) (l5 : Nat) (l6 : Nat) (l7 : Nat) (l8 : Nat) (l9 : Nat) (G : gS), (inI l1) → (inI l2) → (inI l3) → (l4 % 8 ≠ 1) → (l5 % 8 ≠ 1) → (l6 % 8 ≠ 1) → (l7 % 8 ≠ 1) → (l8 % 8 ≠ 1) → (l9 % 8 ≠ 1) → J 0 [o, l1, l2, l3] G Q → Tg W0 (j 0) [rf (o), cI (l1), cI (l2), cI (l3), l4, l5, l6, l7, l8, l9] [] G (fun r G => ∃ v, r = cI v ∧ inI v ∧ Q v G)) (h : PX5_load_357 J o l1 l2 l3 s0 G Q) : Tg W0 (vX5_load_357 j) [rf (o), cI (l1), cI (l2), cI (l3), l4, l5, l6, l7, l8, l9] [cI (s0)] G (fun r G => ∃ v, r = cI v ∧ inI v ∧ Q v G) := by
  unfold PX5_load_357 at h
  unfold vX5_load_357
  exact g_ret1 (is_I _) ⟨_, rfl, hs0, h⟩
def PX5_load_322 (J : Nat → List Int → gS → (Int → gS → Prop) → Prop) (o : Int) (l1 : Int) (l2 : Int) (l3 : Int) (G : gS) (Q : Int → gS → Prop) : Prop :=
  (isO W0 5 (o) ∧ ((0 : Int) ≤ l1 ∧ ((l1 : Int) < 64 ∧ (inI (G (o + 1) l1) → ((G (o + 1) l1 = -1 → PX5_load_357 J o l1 l2 l3 10 G Q) ∧ (¬ (G (o + 1) l1 = -1) → ((0 : Int) ≤ l1 ∧ ((l1 : Int) < 64 ∧ (inI (G (o + 1) l1) → ((G (o + 1) l1 = 5 → ((0 : Int) ≤ l1 ∧ ((l1 : Int) < 64 ∧ (inI (G (o + 2) l1) → PX5_load_357 J o l1 l2 l3 (G (o + 2) l1) G Q)))) ∧ (¬ (G (o + 1) l1 = 5) → PX5_load_357 J o l1 l2 l3 0 G Q)))))))))))
set_option maxRecDepth 20000 in
theorem TX5_load_322 {j : Nat → rx_K} {J : Nat → List Int → gS → (Int → gS → Prop) → Prop} {o : Int} {l1 : Int} {l2 : Int} {l3 : Int} {l4 : Nat} {l5 : Nat} {l6 : Nat} {l7 : Nat} {l8 : Nat} {l9 : Nat} {G : gS} {Q : Int → gS → Prop} (hl1 : inI l1) (hl2 : inI l2) (hl3 : inI l3) (hl4 : l4 % 8 ≠ 1) (hl5 : l5 % 8 ≠ 1) (hl6 : l6 % 8 ≠ 1) (hl7 : l7 % 8 ≠ 1) (hl8 : l8 % 8 ≠ 1) (hl9 : l9 % 8 ≠ 1) (hj0 : ∀ (o : Int) (l1 : Int) (l2 : Int) (l3 : Int) (l4 : Nat) (l5 : Nat) (l6 : Nat) (l7 : Nat) (l8 : Nat) (l9 : Nat) (G : gS), (inI l1) → (inI l2) → (inI l3) → (l4 % 8 ≠ 1) → (l5 % 8 ≠ 1) → (l6 % 8 ≠ 1) → (l7 % 8 ≠ 1) → (l8 % 8 ≠ 1) → (l9 % 8 ≠ 1) → J 0 [o, l1, l2, l3] G Q → Tg W0 (j 0) [rf (o), cI (l1), cI (l2), cI (l3), l4, l5, l6, l7, l8, l9] [] G (fun r G => ∃ v, r = cI v ∧ inI v ∧ Q v G)) (h : PX5_load_322 J o l1 l2 l3 G Q) : Tg W0 (vX5_load_322 j) [rf (o), cI (l1), cI (l2), cI (l3), l4, l5, l6, l7, l8, l9] [] G (fun r G => ∃ v, r = cI v ∧ inI v ∧ Q v G) := by
  unfold PX5_load_322 at h
  unfold vX5_load_322
  refine g_ld (v := rf _) rfl (is_R _) ?_
  obtain ⟨q38, h⟩ := h
  refine g_getF q38 (ff5_1 q38).1 rfl (Nat.le_of_ble_eq_true rfl) (Nat.le_of_ble_eq_true rfl) ?_
  refine g_ld (v := cI _) rfl (is_I _) ?_
  obtain ⟨q39, q40, h⟩ := h
  refine g_aldI (ff5_1 q38).2 q39 q40 rfl fun i41 => ?_
  replace h := h i41
  refine g_const (v := cI (-1)) rfl ?_
  refine g_eq2 i41 ⟨by omega, by omega⟩ (fun b42 => ?_) (fun b42 => ?_)
  · replace h := h.1 b42
    unfold vX5_load_332
    refine g_const (v := cI (10)) rfl ?_
    exact TX5_load_357 hl1 hl2 hl3 hl4 hl5 hl6 hl7 hl8 hl9 ⟨by omega, by omega⟩ hj0 h
  · replace h := h.2 b42
    unfold vX5_load_337
    refine g_ld (v := rf _) rfl (is_R _) ?_
    refine g_getF q38 (ff5_1 q38).1 rfl (Nat.le_of_ble_eq_true rfl) (Nat.le_of_ble_eq_true rfl) ?_
    refine g_ld (v := cI _) rfl (is_I _) ?_
    obtain ⟨q43, q44, h⟩ := h
    refine g_aldI (ff5_1 q38).2 q43 q44 rfl fun i45 => ?_
    replace h := h i45
    refine g_const (v := cI (5)) rfl ?_
    refine g_eq2 i45 ⟨by omega, by omega⟩ (fun b46 => ?_) (fun b46 => ?_)
    · replace h := h.1 b46
      unfold vX5_load_347
      refine g_ld (v := rf _) rfl (is_R _) ?_
      refine g_getF q38 (ff5_2 q38).1 rfl (Nat.le_of_ble_eq_true rfl) (Nat.le_of_ble_eq_true rfl) ?_
      refine g_ld (v := cI _) rfl (is_I _) ?_
      obtain ⟨q47, q48, h⟩ := h
      refine g_aldI (ff5_2 q38).2 q47 q48 rfl fun i49 => ?_
      replace h := h i49
      exact TX5_load_357 hl1 hl2 hl3 hl4 hl5 hl6 hl7 hl8 hl9 i49 hj0 h
    · replace h := h.2 b46
      unfold vX5_load_356
      refine g_const (v := cI (0)) rfl ?_
      exact TX5_load_357 hl1 hl2 hl3 hl4 hl5 hl6 hl7 hl8 hl9 ⟨by omega, by omega⟩ hj0 h
def PX5_load_316 (J : Nat → List Int → gS → (Int → gS → Prop) → Prop) (o : Int) (l1 : Int) (l2 : Int) (l3 : Int) (l4 : Int) (l5 : Int) (l6 : Int) (l7 : Int) (l8 : Int) (G : gS) (Q : Int → gS → Prop) : Prop :=
  (inI (l3 + 1) ∧ J 0 [o, l1, l2, l3 + 1] G Q)
set_option maxRecDepth 20000 in
theorem TX5_load_316 {j : Nat → rx_K} {J : Nat → List Int → gS → (Int → gS → Prop) → Prop} {o : Int} {l1 : Int} {l2 : Int} {l3 : Int} {l4 : Int} {l5 : Int} {l6 : Int} {l7 : Int} {l8 : Int} {l9 : Nat} {G : gS} {Q : Int → gS → Prop} (hl1 : inI l1) (hl2 : inI l2) (hl3 : inI l3) (hl4 : inI l4) (hl5 : inI l5) (hl7 : inI l7) (hl8 : inI l8) (hl9 : l9 % 8 ≠ 1) (hj0 : ∀ (o : Int) (l1 : Int) (l2 : Int) (l3 : Int) (l4 : Nat) (l5 : Nat) (l6 : Nat) (l7 : Nat) (l8 : Nat) (l9 : Nat) (G : gS), (inI l1) → (inI l2) → (inI l3) → (l4 % 8 ≠ 1) → (l5 % 8 ≠ 1) → (l6 % 8 ≠ 1) → (l7 % 8 ≠ 1) → (l8 % 8 ≠ 1) → (l9 % 8 ≠ 1) → J 0 [o, l1, l2, l3] G Q → Tg W0 (j 0) [rf (o), cI (l1), cI (l2), cI (l3), l4, l5, l6, l7, l8, l9] [] G (fun r G => ∃ v, r = cI v ∧ inI v ∧ Q v G)) (h : PX5_load_316 J o l1 l2 l3 l4 l5 l6 l7 l8 G Q) : Tg W0 (vX5_load_316 j) [rf (o), cI (l1), cI (l2), cI (l3), cI (l4), cI (l5), rf (l6), cI (l7), cI (l8), l9] [] G (fun r G => ∃ v, r = cI v ∧ inI v ∧ Q v G) := by
  unfold PX5_load_316 at h
  unfold vX5_load_316
  refine g_inc (lv' := [_, _, _, _, _, _, _, _, _, _]) rfl (Nat.le_of_ble_eq_true rfl) (Or.inr (n1_I _)) rfl ?_
  obtain ⟨q83, h⟩ := h
  exact hj0 _ _ _ _ _ _ _ _ _ _ _ hl1 hl2 q83 (n1_I _) (n1_I _) (n1_R _) (n1_I _) (n1_I _) hl9 h
def PX5_load_270 (J : Nat → List Int → gS → (Int → gS → Prop) → Prop) (o : Int) (l1 : Int) (l2 : Int) (l3 : Int) (l4 : Int) (l5 : Int) (l6 : Int) (l7 : Int) (l8 : Int) (s0 : Int) (G : gS) (Q : Int → gS → Prop) : Prop :=
  (isO W0 5 (o) ∧ ((0 : Int) ≤ l2 - 1 ∧ ((l2 - 1 : Int) < 66 ∧ (inI (G (o + 6) (l2 - 1)) → ((0 : Int) ≤ l2 - 1 ∧ ((l2 - 1 : Int) < 66 ∧ (inI ((G (o + 6) (l2 - 1)) + 1) ∧ (∀ G109 : gS, G109 = uG G (o + 6) (l2 - 1) ((G (o + 6) (l2 - 1)) + 1) → ((s0 = 0 → PX5_load_316 J o l1 l2 l3 l4 l5 l6 l7 l8 G109 Q) ∧ (¬ (s0 = 0) → ((0 : Int) ≤ l4 ∧ ((l4 : Int) < 64 ∧ (∀ G113 : gS, G113 = uG G109 (o + 1) l4 (5) → ((0 : Int) ≤ l4 ∧ ((l4 : Int) < 64 ∧ (∀ G116 : gS, G116 = uG G113 (o + 2) l4 (s0) → PX5_tellEvent o l4 5 G116 (fun _ G117 => (inI (l2 + (-1)) ∧ PX5_load_316 J o l1 (l2 + (-1)) l3 l4 l5 l6 l7 l8 G117 Q))))))))))))))))))
set_option maxRecDepth 20000 in
theorem TX5_load_270 {j : Nat → rx_K} {J : Nat → List Int → gS → (Int → gS → Prop) → Prop} {o : Int} {l1 : Int} {l2 : Int} {l3 : Int} {l4 : Int} {l5 : Int} {l6 : Int} {l7 : Int} {l8 : Int} {l9 : Nat} {s0 : Int} {G : gS} {Q : Int → gS → Prop} (hl1 : inI l1) (hl2 : inI l2) (hl3 : inI l3) (hl4 : inI l4) (hl5 : inI l5) (hl7 : inI l7) (hl8 : inI l8) (hl9 : l9 % 8 ≠ 1) (hs0 : inI s0) (hj0 : ∀ (o : Int) (l1 : Int) (l2 : Int) (l3 : Int) (l4 : Nat) (l5 : Nat) (l6 : Nat) (l7 : Nat) (l8 : Nat) (l9 : Nat) (G : gS), (inI l1) → (inI l2) → (inI l3) → (l4 % 8 ≠ 1) → (l5 % 8 ≠ 1) → (l6 % 8 ≠ 1) → (l7 % 8 ≠ 1) → (l8 % 8 ≠ 1) → (l9 % 8 ≠ 1) → J 0 [o, l1, l2, l3] G Q → Tg W0 (j 0) [rf (o), cI (l1), cI (l2), cI (l3), l4, l5, l6, l7, l8, l9] [] G (fun r G => ∃ v, r = cI v ∧ inI v ∧ Q v G)) (h : PX5_load_270 J o l1 l2 l3 l4 l5 l6 l7 l8 s0 G Q) : Tg W0 (vX5_load_270 j) [rf (o), cI (l1), cI (l2), cI (l3), cI (l4), cI (l5), rf (l6), cI (l7), cI (l8), l9] [cI (s0)] G (fun r G => ∃ v, r = cI v ∧ inI v ∧ Q v G) := by
  unfold PX5_load_270 at h
  unfold vX5_load_270
  refine g_st (lv' := [_, _, _, _, _, _, _, _, _, _]) (is_I _) (Nat.le_of_ble_eq_true rfl) (Or.inr (n1_I _)) rfl ?_
  refine g_ld (v := rf _) rfl (is_R _) ?_
  obtain ⟨q102, h⟩ := h
  refine g_getF q102 (ff5_8 q102).1 rfl (Nat.le_of_ble_eq_true rfl) (Nat.le_of_ble_eq_true rfl) ?_
  refine g_ld (v := cI _) rfl (is_I _) ?_
  refine g_const (v := cI (1)) rfl ?_
  refine g_sub ?_
  refine g_dup2 (ct_I _) (ct_R _) ?_
  obtain ⟨q103, q104, h⟩ := h
  refine g_aldI (ff5_8 q102).2 q103 q104 rfl fun i105 => ?_
  replace h := h i105
  refine g_const (v := cI (1)) rfl ?_
  refine g_add ?_
  obtain ⟨q106, q107, h⟩ := h
  obtain ⟨q108, h⟩ := h
  refine g_astI (ff5_8 q102).2 q106 q107 q108 (nfI (ff5_8 q102).2) ?_
  replace h := h _ rfl
  refine g_ld (v := cI _) rfl (is_I _) ?_
  refine g_eq1 hs0 (fun b110 => ?_) (fun b110 => ?_)
  · replace h := h.1 b110
    exact TX5_load_316 hl1 hl2 hl3 hl4 hl5 hl7 hl8 (n1_I _) hj0 h
  · replace h := h.2 b110
    unfold vX5_load_289
    refine g_ld (v := rf _) rfl (is_R _) ?_
    refine g_getF q102 (ff5_1 q102).1 rfl (Nat.le_of_ble_eq_true rfl) (Nat.le_of_ble_eq_true rfl) ?_
    refine g_ld (v := cI _) rfl (is_I _) ?_
    refine g_const (v := cI (5)) rfl ?_
    obtain ⟨q111, q112, h⟩ := h
    refine g_astI (ff5_1 q102).2 q111 q112 ⟨by omega, by omega⟩ (nfI (ff5_1 q102).2) ?_
    replace h := h _ rfl
    refine g_ld (v := rf _) rfl (is_R _) ?_
    refine g_getF q102 (ff5_2 q102).1 rfl (Nat.le_of_ble_eq_true rfl) (Nat.le_of_ble_eq_true rfl) ?_
    refine g_ld (v := cI _) rfl (is_I _) ?_
    refine g_ld (v := cI _) rfl (is_I _) ?_
    obtain ⟨q114, q115, h⟩ := h
    refine g_astI (ff5_2 q102).2 q114 q115 hs0 (nfI (ff5_2 q102).2) ?_
    replace h := h _ rfl
    refine g_ld (v := rf _) rfl (is_R _) ?_
    refine g_ld (v := cI _) rfl (is_I _) ?_
    refine g_const (v := cI (5)) rfl ?_
    refine g_callV (As := [_, _]) (ci := 5) q102 (fun _ => rfl) ?_
    refine g_go0 (Nat.le_of_ble_eq_true rfl) (Tn_w (TX5_tellEvent hl4 ⟨by omega, by omega⟩ h) fun _ G117 ⟨e, h⟩ => ⟨e, ?_⟩)
    refine g_inc (lv' := [_, _, _, _, _, _, _, _, _, _]) rfl (Nat.le_of_ble_eq_true rfl) (Or.inr (n1_I _)) rfl ?_
    obtain ⟨q119, h⟩ := h
    exact TX5_load_316 hl1 q119 hl3 hl4 hl5 hl7 hl8 (n1_I _) hj0 h
def PX5_load_209 (J : Nat → List Int → gS → (Int → gS → Prop) → Prop) (o : Int) (l1 : Int) (l2 : Int) (l3 : Int) (l4 : Int) (l5 : Int) (l6 : Int) (l7 : Int) (l8 : Int) (G : gS) (Q : Int → gS → Prop) : Prop :=
  ((l8 < 0 → PX5_load_270 J o l1 l2 l3 l4 l5 l6 l7 l8 1 G Q) ∧ (¬ (l8 < 0) → (isO W0 5 (o) ∧ ((0 : Int) ≤ l8 ∧ ((l8 : Int) < 64 ∧ (inI (G (o + 1) l8) → ((G (o + 1) l8 = -1 → PX5_load_270 J o l1 l2 l3 l4 l5 l6 l7 l8 10 G Q) ∧ (¬ (G (o + 1) l8 = -1) → ((0 : Int) ≤ l8 ∧ ((l8 : Int) < 64 ∧ (inI (G (o + 1) l8) → ((G (o + 1) l8 = 5 → ((0 : Int) ≤ l8 ∧ ((l8 : Int) < 64 ∧ (inI (G (o + 2) l8) → PX5_load_270 J o l1 l2 l3 l4 l5 l6 l7 l8 (G (o + 2) l8) G Q)))) ∧ (¬ (G (o + 1) l8 = 5) → ((G o 0 = -1 ∨ isO W0 11 (G o 0)) → (isO W0 11 (G o 0) ∧ ((0 : Int) ≤ (l4 * 5) + l5 ∧ (((l4 * 5) + l5 : Int) < 320 ∧ (inI (G ((G o 0) + 5) ((l4 * 5) + l5)) → PX5_load_270 J o l1 l2 l3 l4 l5 l6 l7 l8 (G ((G o 0) + 5) ((l4 * 5) + l5)) G Q))))))))))))))))))
set_option maxRecDepth 20000 in
theorem TX5_load_209 {j : Nat → rx_K} {J : Nat → List Int → gS → (Int → gS → Prop) → Prop} {o : Int} {l1 : Int} {l2 : Int} {l3 : Int} {l4 : Int} {l5 : Int} {l6 : Int} {l7 : Int} {l8 : Int} {l9 : Nat} {G : gS} {Q : Int → gS → Prop} (hl1 : inI l1) (hl2 : inI l2) (hl3 : inI l3) (hl4 : inI l4) (hl5 : inI l5) (hl7 : inI l7) (hl8 : inI l8) (hl9 : l9 % 8 ≠ 1) (hj0 : ∀ (o : Int) (l1 : Int) (l2 : Int) (l3 : Int) (l4 : Nat) (l5 : Nat) (l6 : Nat) (l7 : Nat) (l8 : Nat) (l9 : Nat) (G : gS), (inI l1) → (inI l2) → (inI l3) → (l4 % 8 ≠ 1) → (l5 % 8 ≠ 1) → (l6 % 8 ≠ 1) → (l7 % 8 ≠ 1) → (l8 % 8 ≠ 1) → (l9 % 8 ≠ 1) → J 0 [o, l1, l2, l3] G Q → Tg W0 (j 0) [rf (o), cI (l1), cI (l2), cI (l3), l4, l5, l6, l7, l8, l9] [] G (fun r G => ∃ v, r = cI v ∧ inI v ∧ Q v G)) (h : PX5_load_209 J o l1 l2 l3 l4 l5 l6 l7 l8 G Q) : Tg W0 (vX5_load_209 j) [rf (o), cI (l1), cI (l2), cI (l3), cI (l4), cI (l5), rf (l6), cI (l7), cI (l8), l9] [] G (fun r G => ∃ v, r = cI v ∧ inI v ∧ Q v G) := by
  unfold PX5_load_209 at h
  unfold vX5_load_209
  refine g_ld (v := cI _) rfl (is_I _) ?_
  refine g_lt1 hl8 (fun b84 => ?_) (fun b84 => ?_)
  · replace h := h.1 b84
    unfold vX5_load_214
    refine g_const (v := cI (1)) rfl ?_
    exact TX5_load_270 hl1 hl2 hl3 hl4 hl5 hl7 hl8 hl9 ⟨by omega, by omega⟩ hj0 h
  · replace h := h.2 b84
    unfold vX5_load_218
    refine g_ld (v := rf _) rfl (is_R _) ?_
    obtain ⟨q85, h⟩ := h
    refine g_getF q85 (ff5_1 q85).1 rfl (Nat.le_of_ble_eq_true rfl) (Nat.le_of_ble_eq_true rfl) ?_
    refine g_ld (v := cI _) rfl (is_I _) ?_
    obtain ⟨q86, q87, h⟩ := h
    refine g_aldI (ff5_1 q85).2 q86 q87 rfl fun i88 => ?_
    replace h := h i88
    refine g_const (v := cI (-1)) rfl ?_
    refine g_eq2 i88 ⟨by omega, by omega⟩ (fun b89 => ?_) (fun b89 => ?_)
    · replace h := h.1 b89
      unfold vX5_load_229
      refine g_const (v := cI (10)) rfl ?_
      exact TX5_load_270 hl1 hl2 hl3 hl4 hl5 hl7 hl8 hl9 ⟨by omega, by omega⟩ hj0 h
    · replace h := h.2 b89
      unfold vX5_load_234
      refine g_ld (v := rf _) rfl (is_R _) ?_
      refine g_getF q85 (ff5_1 q85).1 rfl (Nat.le_of_ble_eq_true rfl) (Nat.le_of_ble_eq_true rfl) ?_
      refine g_ld (v := cI _) rfl (is_I _) ?_
      obtain ⟨q90, q91, h⟩ := h
      refine g_aldI (ff5_1 q85).2 q90 q91 rfl fun i92 => ?_
      replace h := h i92
      refine g_const (v := cI (5)) rfl ?_
      refine g_eq2 i92 ⟨by omega, by omega⟩ (fun b93 => ?_) (fun b93 => ?_)
      · replace h := h.1 b93
        unfold vX5_load_245
        refine g_ld (v := rf _) rfl (is_R _) ?_
        refine g_getF q85 (ff5_2 q85).1 rfl (Nat.le_of_ble_eq_true rfl) (Nat.le_of_ble_eq_true rfl) ?_
        refine g_ld (v := cI _) rfl (is_I _) ?_
        obtain ⟨q94, q95, h⟩ := h
        refine g_aldI (ff5_2 q85).2 q94 q95 rfl fun i96 => ?_
        replace h := h i96
        exact TX5_load_270 hl1 hl2 hl3 hl4 hl5 hl7 hl8 hl9 i96 hj0 h
      · replace h := h.2 b93
        unfold vX5_load_255
        refine g_ld (v := rf _) rfl (is_R _) ?_
        refine g_getR (kz := 0) (c := 11) q85 rfl (Nat.le_of_ble_eq_true rfl) rfl (by decide) fun i97 => ?_
        replace h := h i97
        obtain ⟨q98, h⟩ := h
        refine g_getF q98 (ff11_6 q98).1 rfl (Nat.le_of_ble_eq_true rfl) (Nat.le_of_ble_eq_true rfl) ?_
        refine g_ld (v := cI _) rfl (is_I _) ?_
        refine g_const (v := cI (5)) rfl ?_
        refine g_mul ?_
        refine g_ld (v := cI _) rfl (is_I _) ?_
        refine g_add ?_
        obtain ⟨q99, q100, h⟩ := h
        refine g_aldI (ff11_6 q98).2 q99 q100 rfl fun i101 => ?_
        replace h := h i101
        exact TX5_load_270 hl1 hl2 hl3 hl4 hl5 hl7 hl8 hl9 i101 hj0 h
def PX5_load_150 (J : Nat → List Int → gS → (Int → gS → Prop) → Prop) (o : Int) (l1 : Int) (l2 : Int) (l3 : Int) (l4 : Int) (l5 : Int) (l6 : Int) (l7 : Int) (l8 : Int) (G : gS) (Q : Int → gS → Prop) : Prop :=
  (isO W0 10 (l6) ∧ ((0 : Int) ≤ 0 ∧ ((0 : Int) < 3 ∧ (inI (G (l6 + 2) 0) → ((G (l6 + 2) 0 < l5 → (isO W0 5 (o) ∧ ((0 : Int) ≤ l4 ∧ ((l4 : Int) < 64 ∧ (∀ G70 : gS, G70 = uG G (o + 1) l4 (1) → PX5_tellEvent o l4 1 G70 (fun _ G71 => (inI (l2 + (-1)) ∧ PX5_load_316 J o l1 (l2 + (-1)) l3 l4 l5 l6 l7 l8 G71 Q))))))) ∧ (¬ (G (l6 + 2) 0 < l5) → ((l8 < 0 → PX5_load_209 J o l1 l2 l3 l4 l5 l6 l7 l8 G Q) ∧ (¬ (l8 < 0) → (isO W0 5 (o) ∧ ((0 : Int) ≤ l8 ∧ ((l8 : Int) < 64 ∧ (inI (G (o + 1) l8) → ((G (o + 1) l8 = 0 → PX5_openLoad o l8 l2 G (fun r81 G80 => inI r81 → PX5_load_316 J o l1 r81 l3 l4 l5 l6 l7 l8 G80 Q)) ∧ (¬ (G (o + 1) l8 = 0) → PX5_load_209 J o l1 l2 l3 l4 l5 l6 l7 l8 G Q))))))))))))))
set_option maxRecDepth 20000 in
theorem TX5_load_150 {j : Nat → rx_K} {J : Nat → List Int → gS → (Int → gS → Prop) → Prop} {o : Int} {l1 : Int} {l2 : Int} {l3 : Int} {l4 : Int} {l5 : Int} {l6 : Int} {l7 : Int} {l8 : Int} {l9 : Nat} {G : gS} {Q : Int → gS → Prop} (hl1 : inI l1) (hl2 : inI l2) (hl3 : inI l3) (hl4 : inI l4) (hl5 : inI l5) (hl7 : inI l7) (hl8 : inI l8) (hl9 : l9 % 8 ≠ 1) (hj0 : ∀ (o : Int) (l1 : Int) (l2 : Int) (l3 : Int) (l4 : Nat) (l5 : Nat) (l6 : Nat) (l7 : Nat) (l8 : Nat) (l9 : Nat) (G : gS), (inI l1) → (inI l2) → (inI l3) → (l4 % 8 ≠ 1) → (l5 % 8 ≠ 1) → (l6 % 8 ≠ 1) → (l7 % 8 ≠ 1) → (l8 % 8 ≠ 1) → (l9 % 8 ≠ 1) → J 0 [o, l1, l2, l3] G Q → Tg W0 (j 0) [rf (o), cI (l1), cI (l2), cI (l3), l4, l5, l6, l7, l8, l9] [] G (fun r G => ∃ v, r = cI v ∧ inI v ∧ Q v G)) (h : PX5_load_150 J o l1 l2 l3 l4 l5 l6 l7 l8 G Q) : Tg W0 (vX5_load_150 j) [rf (o), cI (l1), cI (l2), cI (l3), cI (l4), cI (l5), rf (l6), cI (l7), cI (l8), l9] [] G (fun r G => ∃ v, r = cI v ∧ inI v ∧ Q v G) := by
  unfold PX5_load_150 at h
  unfold vX5_load_150
  refine g_ld (v := cI _) rfl (is_I _) ?_
  refine g_ld (v := rf _) rfl (is_R _) ?_
  obtain ⟨q62, h⟩ := h
  refine g_getF q62 (ff10_11 q62).1 rfl (Nat.le_of_ble_eq_true rfl) (Nat.le_of_ble_eq_true rfl) ?_
  refine g_const (v := cI (0)) rfl ?_
  obtain ⟨q63, q64, h⟩ := h
  refine g_aldI (ff10_11 q62).2 q63 q64 rfl fun i65 => ?_
  replace h := h i65
  refine g_gt2 hl5 i65 (fun b66 => ?_) (fun b66 => ?_)
  · replace h := h.1 b66
    unfold vX5_load_162
    refine g_ld (v := rf _) rfl (is_R _) ?_
    obtain ⟨q67, h⟩ := h
    refine g_getF q67 (ff5_1 q67).1 rfl (Nat.le_of_ble_eq_true rfl) (Nat.le_of_ble_eq_true rfl) ?_
    refine g_ld (v := cI _) rfl (is_I _) ?_
    refine g_const (v := cI (1)) rfl ?_
    obtain ⟨q68, q69, h⟩ := h
    refine g_astI (ff5_1 q67).2 q68 q69 ⟨by omega, by omega⟩ (nfI (ff5_1 q67).2) ?_
    replace h := h _ rfl
    refine g_ld (v := rf _) rfl (is_R _) ?_
    refine g_ld (v := cI _) rfl (is_I _) ?_
    refine g_const (v := cI (1)) rfl ?_
    refine g_callV (As := [_, _]) (ci := 5) q67 (fun _ => rfl) ?_
    refine g_go0 (Nat.le_of_ble_eq_true rfl) (Tn_w (TX5_tellEvent hl4 ⟨by omega, by omega⟩ h) fun _ G71 ⟨e, h⟩ => ⟨e, ?_⟩)
    refine g_inc (lv' := [_, _, _, _, _, _, _, _, _, _]) rfl (Nat.le_of_ble_eq_true rfl) (Or.inr (n1_I _)) rfl ?_
    obtain ⟨q73, h⟩ := h
    exact TX5_load_316 hl1 q73 hl3 hl4 hl5 hl7 hl8 hl9 hj0 h
  · replace h := h.2 b66
    unfold vX5_load_183
    refine g_ld (v := cI _) rfl (is_I _) ?_
    refine g_lt1 hl8 (fun b74 => ?_) (fun b74 => ?_)
    · replace h := h.1 b74
      exact TX5_load_209 hl1 hl2 hl3 hl4 hl5 hl7 hl8 hl9 hj0 h
    · replace h := h.2 b74
      unfold vX5_load_188
      refine g_ld (v := rf _) rfl (is_R _) ?_
      obtain ⟨q75, h⟩ := h
      refine g_getF q75 (ff5_1 q75).1 rfl (Nat.le_of_ble_eq_true rfl) (Nat.le_of_ble_eq_true rfl) ?_
      refine g_ld (v := cI _) rfl (is_I _) ?_
      obtain ⟨q76, q77, h⟩ := h
      refine g_aldI (ff5_1 q75).2 q76 q77 rfl fun i78 => ?_
      replace h := h i78
      refine g_eq1 i78 (fun b79 => ?_) (fun b79 => ?_)
      · replace h := h.1 b79
        unfold vX5_load_198
        refine g_ld (v := rf _) rfl (is_R _) ?_
        refine g_ld (v := cI _) rfl (is_I _) ?_
        refine g_ld (v := cI _) rfl (is_I _) ?_
        refine g_callV (As := [_, _]) (ci := 5) q75 (fun _ => rfl) ?_
        refine g_go1 (Nat.le_of_ble_eq_true rfl) (Tn_w (TX5_openLoad hl8 hl2 h) fun _ G80 ⟨r81, e, i82, h⟩ => ?_)
        subst e
        refine ⟨n7_I _, ?_⟩
        replace h := h i82
        refine g_st (lv' := [_, _, _, _, _, _, _, _, _, _]) (is_I _) (Nat.le_of_ble_eq_true rfl) (Or.inr (n1_I _)) rfl ?_
        exact TX5_load_316 hl1 i82 hl3 hl4 hl5 hl7 hl8 hl9 hj0 h
      · replace h := h.2 b79
        exact TX5_load_209 hl1 hl2 hl3 hl4 hl5 hl7 hl8 hl9 hj0 h
def PX5_load_120 (J : Nat → List Int → gS → (Int → gS → Prop) → Prop) (o : Int) (l1 : Int) (l2 : Int) (l3 : Int) (l4 : Int) (l5 : Int) (l6 : Int) (l7 : Int) (s0 : Int) (G : gS) (Q : Int → gS → Prop) : Prop :=
  ((l7 = 0 → PX5_load_150 J o l1 l2 l3 l4 l5 l6 l7 s0 G Q) ∧ (¬ (l7 = 0) → (isO W0 10 (l6) ∧ ((0 ≤ G l6 4 ∧ G l6 4 ≤ 1) → ((G l6 4 = 0 → PX5_load_150 J o l1 l2 l3 l4 l5 l6 l7 s0 G Q) ∧ (¬ (G l6 4 = 0) → (isO W0 5 (o) ∧ ((0 : Int) ≤ l2 - 1 ∧ ((l2 - 1 : Int) < 66 ∧ (inI (G (o + 6) (l2 - 1)) → ((0 : Int) ≤ l2 - 1 ∧ ((l2 - 1 : Int) < 66 ∧ (inI ((G (o + 6) (l2 - 1)) + 1) ∧ (∀ G61 : gS, G61 = uG G (o + 6) (l2 - 1) ((G (o + 6) (l2 - 1)) + 1) → PX5_load_316 J o l1 l2 l3 l4 l5 l6 l7 s0 G61 Q))))))))))))))
set_option maxRecDepth 20000 in
theorem TX5_load_120 {j : Nat → rx_K} {J : Nat → List Int → gS → (Int → gS → Prop) → Prop} {o : Int} {l1 : Int} {l2 : Int} {l3 : Int} {l4 : Int} {l5 : Int} {l6 : Int} {l7 : Int} {l8 : Nat} {l9 : Nat} {s0 : Int} {G : gS} {Q : Int → gS → Prop} (hl1 : inI l1) (hl2 : inI l2) (hl3 : inI l3) (hl4 : inI l4) (hl5 : inI l5) (hl7 : inI l7) (hl8 : l8 % 8 ≠ 1) (hl9 : l9 % 8 ≠ 1) (hs0 : inI s0) (hj0 : ∀ (o : Int) (l1 : Int) (l2 : Int) (l3 : Int) (l4 : Nat) (l5 : Nat) (l6 : Nat) (l7 : Nat) (l8 : Nat) (l9 : Nat) (G : gS), (inI l1) → (inI l2) → (inI l3) → (l4 % 8 ≠ 1) → (l5 % 8 ≠ 1) → (l6 % 8 ≠ 1) → (l7 % 8 ≠ 1) → (l8 % 8 ≠ 1) → (l9 % 8 ≠ 1) → J 0 [o, l1, l2, l3] G Q → Tg W0 (j 0) [rf (o), cI (l1), cI (l2), cI (l3), l4, l5, l6, l7, l8, l9] [] G (fun r G => ∃ v, r = cI v ∧ inI v ∧ Q v G)) (h : PX5_load_120 J o l1 l2 l3 l4 l5 l6 l7 s0 G Q) : Tg W0 (vX5_load_120 j) [rf (o), cI (l1), cI (l2), cI (l3), cI (l4), cI (l5), rf (l6), cI (l7), l8, l9] [cI (s0)] G (fun r G => ∃ v, r = cI v ∧ inI v ∧ Q v G) := by
  unfold PX5_load_120 at h
  unfold vX5_load_120
  refine g_st (lv' := [_, _, _, _, _, _, _, _, _, _]) (is_I _) (Nat.le_of_ble_eq_true rfl) (Or.inr (n1_I _)) rfl ?_
  refine g_ld (v := cI _) rfl (is_I _) ?_
  refine g_eq1 hl7 (fun b50 => ?_) (fun b50 => ?_)
  · replace h := h.1 b50
    exact TX5_load_150 hl1 hl2 hl3 hl4 hl5 hl7 hs0 hl9 hj0 h
  · replace h := h.2 b50
    unfold vX5_load_127
    refine g_ld (v := rf _) rfl (is_R _) ?_
    obtain ⟨q51, h⟩ := h
    refine g_getZ (kz := 4) q51 rfl (Nat.le_of_ble_eq_true rfl) rfl fun i52 => ?_
    replace h := h i52
    refine g_eq1 ⟨by omega, by omega⟩ (fun b53 => ?_) (fun b53 => ?_)
    · replace h := h.1 b53
      exact TX5_load_150 hl1 hl2 hl3 hl4 hl5 hl7 hs0 hl9 hj0 h
    · replace h := h.2 b53
      unfold vX5_load_135
      refine g_ld (v := rf _) rfl (is_R _) ?_
      obtain ⟨q54, h⟩ := h
      refine g_getF q54 (ff5_8 q54).1 rfl (Nat.le_of_ble_eq_true rfl) (Nat.le_of_ble_eq_true rfl) ?_
      refine g_ld (v := cI _) rfl (is_I _) ?_
      refine g_const (v := cI (1)) rfl ?_
      refine g_sub ?_
      refine g_dup2 (ct_I _) (ct_R _) ?_
      obtain ⟨q55, q56, h⟩ := h
      refine g_aldI (ff5_8 q54).2 q55 q56 rfl fun i57 => ?_
      replace h := h i57
      refine g_const (v := cI (1)) rfl ?_
      refine g_add ?_
      obtain ⟨q58, q59, h⟩ := h
      obtain ⟨q60, h⟩ := h
      refine g_astI (ff5_8 q54).2 q58 q59 q60 (nfI (ff5_8 q54).2) ?_
      replace h := h _ rfl
      exact TX5_load_316 hl1 hl2 hl3 hl4 hl5 hl7 hs0 hl9 hj0 h
def PX5_load_72 (J : Nat → List Int → gS → (Int → gS → Prop) → Prop) (o : Int) (l1 : Int) (l2 : Int) (l3 : Int) (l4 : Int) (l5 : Int) (l6 : Int) (s0 : Int) (G : gS) (Q : Int → gS → Prop) : Prop :=
  ((s0 = 0 → ((4 < l5 → PX5_load_120 J o l1 l2 l3 l4 l5 l6 s0 (-2) G Q) ∧ (¬ (4 < l5) → (isO W0 5 (o) ∧ ((G o 0 = -1 ∨ isO W0 11 (G o 0)) → (isO W0 11 (G o 0) ∧ ((0 : Int) ≤ ((l4 * 4) + l5) - 1 ∧ ((((l4 * 4) + l5) - 1 : Int) < 256 ∧ (inI (G ((G o 0) + 4) (((l4 * 4) + l5) - 1)) → PX5_load_120 J o l1 l2 l3 l4 l5 l6 s0 (G ((G o 0) + 4) (((l4 * 4) + l5) - 1)) G Q))))))))) ∧ (¬ (s0 = 0) → (isO W0 5 (o) ∧ ((G o 0 = -1 ∨ isO W0 11 (G o 0)) → (isO W0 11 (G o 0) ∧ ((0 : Int) ≤ l4 ∧ ((l4 : Int) < 64 ∧ (inI (G ((G o 0) + 2) l4) → PX5_load_120 J o l1 l2 l3 l4 l5 l6 s0 (G ((G o 0) + 2) l4) G Q))))))))
set_option maxRecDepth 20000 in
theorem TX5_load_72 {j : Nat → rx_K} {J : Nat → List Int → gS → (Int → gS → Prop) → Prop} {o : Int} {l1 : Int} {l2 : Int} {l3 : Int} {l4 : Int} {l5 : Int} {l6 : Int} {l7 : Nat} {l8 : Nat} {l9 : Nat} {s0 : Int} {G : gS} {Q : Int → gS → Prop} (hl1 : inI l1) (hl2 : inI l2) (hl3 : inI l3) (hl4 : inI l4) (hl5 : inI l5) (hl7 : l7 % 8 ≠ 1) (hl8 : l8 % 8 ≠ 1) (hl9 : l9 % 8 ≠ 1) (hs0 : inI s0) (hj0 : ∀ (o : Int) (l1 : Int) (l2 : Int) (l3 : Int) (l4 : Nat) (l5 : Nat) (l6 : Nat) (l7 : Nat) (l8 : Nat) (l9 : Nat) (G : gS), (inI l1) → (inI l2) → (inI l3) → (l4 % 8 ≠ 1) → (l5 % 8 ≠ 1) → (l6 % 8 ≠ 1) → (l7 % 8 ≠ 1) → (l8 % 8 ≠ 1) → (l9 % 8 ≠ 1) → J 0 [o, l1, l2, l3] G Q → Tg W0 (j 0) [rf (o), cI (l1), cI (l2), cI (l3), l4, l5, l6, l7, l8, l9] [] G (fun r G => ∃ v, r = cI v ∧ inI v ∧ Q v G)) (h : PX5_load_72 J o l1 l2 l3 l4 l5 l6 s0 G Q) : Tg W0 (vX5_load_72 j) [rf (o), cI (l1), cI (l2), cI (l3), cI (l4), cI (l5), rf (l6), l7, l8, l9] [cI (s0)] G (fun r G => ∃ v, r = cI v ∧ inI v ∧ Q v G) := by
  unfold PX5_load_72 at h
  unfold vX5_load_72
  refine g_st (lv' := [_, _, _, _, _, _, _, _, _, _]) (is_I _) (Nat.le_of_ble_eq_true rfl) (Or.inr (n1_R _)) rfl ?_
  refine g_ld (v := cI _) rfl (is_I _) ?_
  refine g_eq1 hs0 (fun b24 => ?_) (fun b24 => ?_)
  · replace h := h.1 b24
    unfold vX5_load_92
    refine g_ld (v := cI _) rfl (is_I _) ?_
    refine g_const (v := cI (4)) rfl ?_
    refine g_gt2 hl5 ⟨by omega, by omega⟩ (fun b25 => ?_) (fun b25 => ?_)
    · replace h := h.1 b25
      unfold vX5_load_118
      refine g_const (v := cI (-2)) rfl ?_
      exact TX5_load_120 hl1 hl2 hl3 hl4 hl5 hs0 hl8 hl9 ⟨by omega, by omega⟩ hj0 h
    · replace h := h.2 b25
      unfold vX5_load_98
      refine g_ld (v := rf _) rfl (is_R _) ?_
      obtain ⟨q26, h⟩ := h
      refine g_getR (kz := 0) (c := 11) q26 rfl (Nat.le_of_ble_eq_true rfl) rfl (by decide) fun i27 => ?_
      replace h := h i27
      obtain ⟨q28, h⟩ := h
      refine g_getF q28 (ff11_5 q28).1 rfl (Nat.le_of_ble_eq_true rfl) (Nat.le_of_ble_eq_true rfl) ?_
      refine g_ld (v := cI _) rfl (is_I _) ?_
      refine g_const (v := cI (4)) rfl ?_
      refine g_mul ?_
      refine g_ld (v := cI _) rfl (is_I _) ?_
      refine g_add ?_
      refine g_const (v := cI (1)) rfl ?_
      refine g_sub ?_
      obtain ⟨q29, q30, h⟩ := h
      refine g_aldI (ff11_5 q28).2 q29 q30 rfl fun i31 => ?_
      replace h := h i31
      exact TX5_load_120 hl1 hl2 hl3 hl4 hl5 hs0 hl8 hl9 i31 hj0 h
  · replace h := h.2 b24
    unfold vX5_load_79
    refine g_ld (v := rf _) rfl (is_R _) ?_
    obtain ⟨q32, h⟩ := h
    refine g_getR (kz := 0) (c := 11) q32 rfl (Nat.le_of_ble_eq_true rfl) rfl (by decide) fun i33 => ?_
    replace h := h i33
    obtain ⟨q34, h⟩ := h
    refine g_getF q34 (ff11_3 q34).1 rfl (Nat.le_of_ble_eq_true rfl) (Nat.le_of_ble_eq_true rfl) ?_
    refine g_ld (v := cI _) rfl (is_I _) ?_
    obtain ⟨q35, q36, h⟩ := h
    refine g_aldI (ff11_3 q34).2 q35 q36 rfl fun i37 => ?_
    replace h := h i37
    exact TX5_load_120 hl1 hl2 hl3 hl4 hl5 hs0 hl8 hl9 i37 hj0 h
def PX5_load_20 (J : Nat → List Int → gS → (Int → gS → Prop) → Prop) (o : Int) (l1 : Int) (l2 : Int) (l3 : Int) (G : gS) (Q : Int → gS → Prop) : Prop :=
  ((l3 < 100000000 → ((0 < l2 → (isO W0 5 (o) ∧ ((0 : Int) ≤ l2 - 1 ∧ ((l2 - 1 : Int) < 66 ∧ (inI (G (o + 5) (l2 - 1)) → ((0 : Int) ≤ l2 - 1 ∧ ((l2 - 1 : Int) < 66 ∧ (inI (G (o + 6) (l2 - 1)) → ((G o 0 = -1 ∨ isO W0 11 (G o 0)) → (isO W0 11 (G o 0) ∧ ((0 : Int) ≤ G (o + 5) (l2 - 1) ∧ ((G (o + 5) (l2 - 1) : Int) < 64 ∧ (((G ((G o 0) + 1) (G (o + 5) (l2 - 1)) = -1 ∨ isO W0 10 (G ((G o 0) + 1) (G (o + 5) (l2 - 1)))) ∧ ∀ v, W0.2 ((G o 0) + 1) (G (o + 5) (l2 - 1)) = some v → G ((G o 0) + 1) (G (o + 5) (l2 - 1)) = v) → ((G (o + 6) (l2 - 1) = 0 → PX5_load_72 J o l1 l2 l3 (G (o + 5) (l2 - 1)) (G (o + 6) (l2 - 1)) (G ((G o 0) + 1) (G (o + 5) (l2 - 1))) 1 G Q) ∧ (¬ (G (o + 6) (l2 - 1) = 0) → PX5_load_72 J o l1 l2 l3 (G (o + 5) (l2 - 1)) (G (o + 6) (l2 - 1)) (G ((G o 0) + 1) (G (o + 5) (l2 - 1))) 0 G Q))))))))))))))) ∧ (¬ (0 < l2) → PX5_load_322 J o l1 l2 l3 G Q))) ∧ (¬ (l3 < 100000000) → PX5_load_322 J o l1 l2 l3 G Q))
set_option maxRecDepth 20000 in
theorem TX5_load_20 {j : Nat → rx_K} {J : Nat → List Int → gS → (Int → gS → Prop) → Prop} {o : Int} {l1 : Int} {l2 : Int} {l3 : Int} {l4 : Nat} {l5 : Nat} {l6 : Nat} {l7 : Nat} {l8 : Nat} {l9 : Nat} {G : gS} {Q : Int → gS → Prop} (hl1 : inI l1) (hl2 : inI l2) (hl3 : inI l3) (hl4 : l4 % 8 ≠ 1) (hl5 : l5 % 8 ≠ 1) (hl6 : l6 % 8 ≠ 1) (hl7 : l7 % 8 ≠ 1) (hl8 : l8 % 8 ≠ 1) (hl9 : l9 % 8 ≠ 1) (hj0 : ∀ (o : Int) (l1 : Int) (l2 : Int) (l3 : Int) (l4 : Nat) (l5 : Nat) (l6 : Nat) (l7 : Nat) (l8 : Nat) (l9 : Nat) (G : gS), (inI l1) → (inI l2) → (inI l3) → (l4 % 8 ≠ 1) → (l5 % 8 ≠ 1) → (l6 % 8 ≠ 1) → (l7 % 8 ≠ 1) → (l8 % 8 ≠ 1) → (l9 % 8 ≠ 1) → J 0 [o, l1, l2, l3] G Q → Tg W0 (j 0) [rf (o), cI (l1), cI (l2), cI (l3), l4, l5, l6, l7, l8, l9] [] G (fun r G => ∃ v, r = cI v ∧ inI v ∧ Q v G)) (h : PX5_load_20 J o l1 l2 l3 G Q) : Tg W0 (vX5_load_20 j) [rf (o), cI (l1), cI (l2), cI (l3), l4, l5, l6, l7, l8, l9] [] G (fun r G => ∃ v, r = cI v ∧ inI v ∧ Q v G) := by
  unfold PX5_load_20 at h
  unfold vX5_load_20
  refine g_ld (v := cI _) rfl (is_I _) ?_
  refine g_const (v := cI (100000000)) rfl ?_
  refine g_lt2 hl3 ⟨by omega, by omega⟩ (fun b9 => ?_) (fun b9 => ?_)
  · replace h := h.1 b9
    unfold vX5_load_26
    refine g_ld (v := cI _) rfl (is_I _) ?_
    refine g_gt1 hl2 (fun b10 => ?_) (fun b10 => ?_)
    · replace h := h.1 b10
      unfold vX5_load_30
      refine g_ld (v := rf _) rfl (is_R _) ?_
      obtain ⟨q11, h⟩ := h
      refine g_getF q11 (ff5_7 q11).1 rfl (Nat.le_of_ble_eq_true rfl) (Nat.le_of_ble_eq_true rfl) ?_
      refine g_ld (v := cI _) rfl (is_I _) ?_
      refine g_const (v := cI (1)) rfl ?_
      refine g_sub ?_
      obtain ⟨q12, q13, h⟩ := h
      refine g_aldI (ff5_7 q11).2 q12 q13 rfl fun i14 => ?_
      replace h := h i14
      refine g_st (lv' := [_, _, _, _, _, _, _, _, _, _]) (is_I _) (Nat.le_of_ble_eq_true rfl) (Or.inr (n1_I _)) rfl ?_
      refine g_ld (v := rf _) rfl (is_R _) ?_
      refine g_getF q11 (ff5_8 q11).1 rfl (Nat.le_of_ble_eq_true rfl) (Nat.le_of_ble_eq_true rfl) ?_
      refine g_ld (v := cI _) rfl (is_I _) ?_
      refine g_const (v := cI (1)) rfl ?_
      refine g_sub ?_
      obtain ⟨q15, q16, h⟩ := h
      refine g_aldI (ff5_8 q11).2 q15 q16 rfl fun i17 => ?_
      replace h := h i17
      refine g_st (lv' := [_, _, _, _, _, _, _, _, _, _]) (is_I _) (Nat.le_of_ble_eq_true rfl) (Or.inr (n1_I _)) rfl ?_
      refine g_ld (v := rf _) rfl (is_R _) ?_
      refine g_getR (kz := 0) (c := 11) q11 rfl (Nat.le_of_ble_eq_true rfl) rfl (by decide) fun i18 => ?_
      replace h := h i18
      obtain ⟨q19, h⟩ := h
      refine g_getF q19 (ff11_1 q19).1 rfl (Nat.le_of_ble_eq_true rfl) (Nat.le_of_ble_eq_true rfl) ?_
      refine g_ld (v := cI _) rfl (is_I _) ?_
      obtain ⟨q20, q21, h⟩ := h
      refine g_aldRF (c := 10) (ff11_1 q19).2 q20 q21 rfl (by decide) fun i22 => ?_
      replace h := h i22
      refine g_st (lv' := [_, _, _, _, _, _, _, _, _, _]) (is_R _) (Nat.le_of_ble_eq_true rfl) (Or.inr (n1_I _)) rfl ?_
      refine g_ld (v := cI _) rfl (is_I _) ?_
      refine g_eq1 i17 (fun b23 => ?_) (fun b23 => ?_)
      · replace h := h.1 b23
        unfold vX5_load_67
        refine g_const (v := cI (1)) rfl ?_
        exact TX5_load_72 hl1 hl2 hl3 i14 i17 hl7 hl8 hl9 ⟨by omega, by omega⟩ hj0 h
      · replace h := h.2 b23
        unfold vX5_load_71
        refine g_const (v := cI (0)) rfl ?_
        exact TX5_load_72 hl1 hl2 hl3 i14 i17 hl7 hl8 hl9 ⟨by omega, by omega⟩ hj0 h
    · replace h := h.2 b10
      exact TX5_load_322 hl1 hl2 hl3 hl4 hl5 hl6 hl7 hl8 hl9 hj0 h
  · replace h := h.2 b9
    exact TX5_load_322 hl1 hl2 hl3 hl4 hl5 hl6 hl7 hl8 hl9 hj0 h
def PX5_load_18 (J : Nat → List Int → gS → (Int → gS → Prop) → Prop) (o : Int) (l1 : Int) (l2 : Int) (G : gS) (Q : Int → gS → Prop) : Prop :=
  PX5_load_20 J o l1 l2 0 G Q
set_option maxRecDepth 20000 in
theorem TX5_load_18 {j : Nat → rx_K} {J : Nat → List Int → gS → (Int → gS → Prop) → Prop} {o : Int} {l1 : Int} {l2 : Int} {l3 : Nat} {l4 : Nat} {l5 : Nat} {l6 : Nat} {l7 : Nat} {l8 : Nat} {l9 : Nat} {G : gS} {Q : Int → gS → Prop} (hl1 : inI l1) (hl2 : inI l2) (hl3 : l3 % 8 ≠ 1) (hl4 : l4 % 8 ≠ 1) (hl5 : l5 % 8 ≠ 1) (hl6 : l6 % 8 ≠ 1) (hl7 : l7 % 8 ≠ 1) (hl8 : l8 % 8 ≠ 1) (hl9 : l9 % 8 ≠ 1) (hj0 : ∀ (o : Int) (l1 : Int) (l2 : Int) (l3 : Int) (l4 : Nat) (l5 : Nat) (l6 : Nat) (l7 : Nat) (l8 : Nat) (l9 : Nat) (G : gS), (inI l1) → (inI l2) → (inI l3) → (l4 % 8 ≠ 1) → (l5 % 8 ≠ 1) → (l6 % 8 ≠ 1) → (l7 % 8 ≠ 1) → (l8 % 8 ≠ 1) → (l9 % 8 ≠ 1) → J 0 [o, l1, l2, l3] G Q → Tg W0 (j 0) [rf (o), cI (l1), cI (l2), cI (l3), l4, l5, l6, l7, l8, l9] [] G (fun r G => ∃ v, r = cI v ∧ inI v ∧ Q v G)) (h : PX5_load_18 J o l1 l2 G Q) : Tg W0 (vX5_load_18 j) [rf (o), cI (l1), cI (l2), l3, l4, l5, l6, l7, l8, l9] [] G (fun r G => ∃ v, r = cI v ∧ inI v ∧ Q v G) := by
  unfold PX5_load_18 at h
  unfold vX5_load_18
  refine g_const (v := cI (0)) rfl ?_
  refine g_st (lv' := [_, _, _, _, _, _, _, _, _, _]) (is_I _) (Nat.le_of_ble_eq_true rfl) (Or.inr (n1_I _)) rfl ?_
  exact TX5_load_20 hl1 hl2 ⟨by omega, by omega⟩ hl4 hl5 hl6 hl7 hl8 hl9 hj0 h
def PX5_load_0 (J : Nat → List Int → gS → (Int → gS → Prop) → Prop) (o : Int) (a1 : Int) (G : gS) (Q : Int → gS → Prop) : Prop :=
  (isO W0 5 (o) ∧ ((0 : Int) ≤ a1 ∧ ((a1 : Int) < 64 ∧ (inI (G (o + 1) a1) → ((G (o + 1) a1 = 0 → PX5_openLoad o a1 0 G (fun r7 G6 => inI r7 → PX5_load_18 J o a1 r7 G6 Q)) ∧ (¬ (G (o + 1) a1 = 0) → PX5_load_18 J o a1 0 G Q))))))
set_option maxRecDepth 20000 in
theorem TX5_load_0 {j : Nat → rx_K} {J : Nat → List Int → gS → (Int → gS → Prop) → Prop} {o : Int} {a1 : Int} {G : gS} {Q : Int → gS → Prop} (ha1 : inI a1) (hj0 : ∀ (o : Int) (l1 : Int) (l2 : Int) (l3 : Int) (l4 : Nat) (l5 : Nat) (l6 : Nat) (l7 : Nat) (l8 : Nat) (l9 : Nat) (G : gS), (inI l1) → (inI l2) → (inI l3) → (l4 % 8 ≠ 1) → (l5 % 8 ≠ 1) → (l6 % 8 ≠ 1) → (l7 % 8 ≠ 1) → (l8 % 8 ≠ 1) → (l9 % 8 ≠ 1) → J 0 [o, l1, l2, l3] G Q → Tg W0 (j 0) [rf (o), cI (l1), cI (l2), cI (l3), l4, l5, l6, l7, l8, l9] [] G (fun r G => ∃ v, r = cI v ∧ inI v ∧ Q v G)) (h : PX5_load_0 J o a1 G Q) : Tg W0 (vX5_load_0 j) [rf (o), cI (a1), 7, 7, 7, 7, 7, 7, 7, 7] [] G (fun r G => ∃ v, r = cI v ∧ inI v ∧ Q v G) := by
  unfold PX5_load_0 at h
  unfold vX5_load_0
  refine g_const (v := cI (0)) rfl ?_
  refine g_st (lv' := [_, _, _, _, _, _, _, _, _, _]) (is_I _) (Nat.le_of_ble_eq_true rfl) (Or.inr (n1_I _)) rfl ?_
  refine g_ld (v := rf _) rfl (is_R _) ?_
  obtain ⟨q1, h⟩ := h
  refine g_getF q1 (ff5_1 q1).1 rfl (Nat.le_of_ble_eq_true rfl) (Nat.le_of_ble_eq_true rfl) ?_
  refine g_ld (v := cI _) rfl (is_I _) ?_
  obtain ⟨q2, q3, h⟩ := h
  refine g_aldI (ff5_1 q1).2 q2 q3 rfl fun i4 => ?_
  replace h := h i4
  refine g_eq1 i4 (fun b5 => ?_) (fun b5 => ?_)
  · replace h := h.1 b5
    unfold vX5_load_11
    refine g_ld (v := rf _) rfl (is_R _) ?_
    refine g_ld (v := cI _) rfl (is_I _) ?_
    refine g_const (v := cI (0)) rfl ?_
    refine g_callV (As := [_, _]) (ci := 5) q1 (fun _ => rfl) ?_
    refine g_go1 (Nat.le_of_ble_eq_true rfl) (Tn_w (TX5_openLoad ha1 ⟨by omega, by omega⟩ h) fun _ G6 ⟨r7, e, i8, h⟩ => ?_)
    subst e
    refine ⟨n7_I _, ?_⟩
    replace h := h i8
    refine g_st (lv' := [_, _, _, _, _, _, _, _, _, _]) (is_I _) (Nat.le_of_ble_eq_true rfl) (Or.inr (n1_I _)) rfl ?_
    exact TX5_load_18 ha1 i8 (show 7 % 8 ≠ 1 by decide) (show 7 % 8 ≠ 1 by decide) (show 7 % 8 ≠ 1 by decide) (show 7 % 8 ≠ 1 by decide) (show 7 % 8 ≠ 1 by decide) (show 7 % 8 ≠ 1 by decide) (show 7 % 8 ≠ 1 by decide) hj0 h
  · replace h := h.2 b5
    exact TX5_load_18 ha1 ⟨by omega, by omega⟩ (show 7 % 8 ≠ 1 by decide) (show 7 % 8 ≠ 1 by decide) (show 7 % 8 ≠ 1 by decide) (show 7 % 8 ≠ 1 by decide) (show 7 % 8 ≠ 1 by decide) (show 7 % 8 ≠ 1 by decide) (show 7 % 8 ≠ 1 by decide) hj0 h
def PX5_load_J : Nat → Nat → List Int → gS → (Int → gS → Prop) → Prop
  | 0, _, _, _, _ => False
  | f + 1, h, L, G, Q => match h, L with
    | 0, [o, l1, l2, l3] => PX5_load_20 (PX5_load_J f) o l1 l2 l3 G Q
    | _, _ => False
theorem TX5_load_J {Q : Int → gS → Prop} : ∀ f N : Nat, f ≤ N → (∀ (o : Int) (l1 : Int) (l2 : Int) (l3 : Int) (l4 : Nat) (l5 : Nat) (l6 : Nat) (l7 : Nat) (l8 : Nat) (l9 : Nat) (G : gS), (inI l1) → (inI l2) → (inI l3) → (l4 % 8 ≠ 1) → (l5 % 8 ≠ 1) → (l6 % 8 ≠ 1) → (l7 % 8 ≠ 1) → (l8 % 8 ≠ 1) → (l9 % 8 ≠ 1) → (PX5_load_J f) 0 [o, l1, l2, l3] G Q → Tg W0 (rx_J vhX5_load N 0) [rf (o), cI (l1), cI (l2), cI (l3), l4, l5, l6, l7, l8, l9] [] G (fun r G => ∃ v, r = cI v ∧ inI v ∧ Q v G)) := by
  intro f
  induction f with
  | zero => exact fun N _ => fun _ _ _ _ _ _ _ _ _ _ _ _ _ _ _ _ _ _ _ _ h => h.elim
  | succ f ih =>
    intro N hN
    obtain ⟨M, rfl⟩ : ∃ M, N = M + 1 := ⟨N - 1, by omega⟩
    have ih := ih M (by omega)
    exact fun _ _ _ _ _ _ _ _ _ _ _ hl1 hl2 hl3 hl4 hl5 hl6 hl7 hl8 hl9 h => show Tg W0 (vX5_load_20 (rx_J vhX5_load M)) _ _ _ _ from TX5_load_20 hl1 hl2 hl3 hl4 hl5 hl6 hl7 hl8 hl9 ih h
def PX5_load (o : Int) (a1 : Int) (G : gS) (Q : Int → gS → Prop) : Prop := ∃ f : Nat, f ≤ 4000000000 ∧ PX5_load_0 (PX5_load_J f) o a1 G Q
theorem TX5_load {o : Int} {a1 : Int} {G : gS} {Q : Int → gS → Prop} (ha1 : inI a1) (h : PX5_load o a1 G Q) : Tn W0 FX5_load [rf (o), cI (a1)] G (fun r G => ∃ v, r = cI v ∧ inI v ∧ Q v G) := by
  obtain ⟨f, hf, h⟩ := h
  have hJ := TX5_load_J (Q := Q) f 4000000000 hf
  unfold FX5_load
  refine g_ent (lv' := [rf (o), cI (a1), 7, 7, 7, 7, 7, 7, 7, 7]) (flR (flI fl0)) (Nat.le_of_ble_eq_true rfl) rfl ?_
  exact TX5_load_0 ha1 hJ h
def PX5_askCatch_58 (o : Int) (l1 : Int) (l3 : Int) (l4 : Int) (s0 : Int) (G : gS) (Q : Int → gS → Prop) : Prop :=
  Q (s0) G
set_option maxRecDepth 20000 in
theorem TX5_askCatch_58 {o : Int} {l1 : Int} {l2 : Nat} {l3 : Int} {l4 : Int} {s0 : Int} {G : gS} {Q : Int → gS → Prop} (hl1 : inL l1) (hl2 : l2 % 8 ≠ 1) (hl3 : inI l3) (hl4 : inI l4) (hs0 : inI s0) (h : PX5_askCatch_58 o l1 l3 l4 s0 G Q) : Tg W0 vX5_askCatch_58 [rf (o), cL (l1), l2, cI (l3), cI (l4)] [cI (s0)] G (fun r G => ∃ v, r = cI v ∧ inI v ∧ Q v G) := by
  unfold PX5_askCatch_58 at h
  unfold vX5_askCatch_58
  exact g_ret1 (is_I _) ⟨_, rfl, hs0, h⟩
def PX5_askCatch_51 (o : Int) (l1 : Int) (l3 : Int) (l4 : Int) (G : gS) (Q : Int → gS → Prop) : Prop :=
  PX5_askCatch_58 o l1 l3 l4 l4 G Q
set_option maxRecDepth 20000 in
theorem TX5_askCatch_51 {o : Int} {l1 : Int} {l2 : Nat} {l3 : Int} {l4 : Int} {G : gS} {Q : Int → gS → Prop} (hl1 : inL l1) (hl2 : l2 % 8 ≠ 1) (hl3 : inI l3) (hl4 : inI l4) (h : PX5_askCatch_51 o l1 l3 l4 G Q) : Tg W0 vX5_askCatch_51 [rf (o), cL (l1), l2, cI (l3), cI (l4)] [] G (fun r G => ∃ v, r = cI v ∧ inI v ∧ Q v G) := by
  unfold PX5_askCatch_51 at h
  unfold vX5_askCatch_51
  refine g_ld (v := cI _) rfl (is_I _) ?_
  exact TX5_askCatch_58 hl1 hl2 hl3 hl4 hl4 h
def PX5_askCatch_27 (o : Int) (l1 : Int) (l3 : Int) (s0 : Int) (G : gS) (Q : Int → gS → Prop) : Prop :=
  ((s0 = 0 → ((l3 = 1 → PX5_askCatch_51 o l1 l3 s0 G Q) ∧ (¬ (l3 = 1) → (isO W0 5 (o) ∧ ((G o 0 = -1 ∨ isO W0 11 (G o 0)) → (isO W0 11 (G o 0) ∧ PX11_heir (G o 0) l3 1 G (fun r18 G17 => (0 ≤ r18 ∧ r18 ≤ 1) → ((r18 = 0 → PX5_askCatch_58 o l1 l3 s0 11 G17 Q) ∧ (¬ (r18 = 0) → PX5_askCatch_51 o l1 l3 s0 G17 Q))))))))) ∧ (¬ (s0 = 0) → PX5_askCatch_51 o l1 l3 s0 G Q))
set_option maxRecDepth 20000 in
theorem TX5_askCatch_27 {o : Int} {l1 : Int} {l2 : Nat} {l3 : Int} {l4 : Nat} {s0 : Int} {G : gS} {Q : Int → gS → Prop} (hl1 : inL l1) (hl2 : l2 % 8 ≠ 1) (hl3 : inI l3) (hl4 : l4 % 8 ≠ 1) (hs0 : inI s0) (h : PX5_askCatch_27 o l1 l3 s0 G Q) : Tg W0 vX5_askCatch_27 [rf (o), cL (l1), l2, cI (l3), l4] [cI (s0)] G (fun r G => ∃ v, r = cI v ∧ inI v ∧ Q v G) := by
  unfold PX5_askCatch_27 at h
  unfold vX5_askCatch_27
  refine g_st (lv' := [_, _, _, _, _]) (is_I _) (Nat.le_of_ble_eq_true rfl) (Or.inr (n1_I _)) rfl ?_
  refine g_ld (v := cI _) rfl (is_I _) ?_
  refine g_eq1 hs0 (fun b12 => ?_) (fun b12 => ?_)
  · replace h := h.1 b12
    unfold vX5_askCatch_34
    refine g_ld (v := cI _) rfl (is_I _) ?_
    refine g_const (v := cI (1)) rfl ?_
    refine g_eq2 hl3 ⟨by omega, by omega⟩ (fun b13 => ?_) (fun b13 => ?_)
    · replace h := h.1 b13
      exact TX5_askCatch_51 hl1 hl2 hl3 hs0 h
    · replace h := h.2 b13
      unfold vX5_askCatch_39
      refine g_ld (v := rf _) rfl (is_R _) ?_
      obtain ⟨q14, h⟩ := h
      refine g_getR (kz := 0) (c := 11) q14 rfl (Nat.le_of_ble_eq_true rfl) rfl (by decide) fun i15 => ?_
      replace h := h i15
      refine g_ld (v := cI _) rfl (is_I _) ?_
      refine g_const (v := cI (1)) rfl ?_
      obtain ⟨q16, h⟩ := h
      refine g_callV (As := [_, _]) (ci := 11) q16 (fun _ => rfl) ?_
      refine g_go1 (Nat.le_of_ble_eq_true rfl) (Tn_w (TX11_heir hl3 ⟨by omega, by omega⟩ h) fun _ G17 ⟨r18, e, i19, h⟩ => ?_)
      subst e
      refine ⟨n7_I _, ?_⟩
      replace h := h i19
      refine g_eq1 ⟨by omega, by omega⟩ (fun b20 => ?_) (fun b20 => ?_)
      · replace h := h.1 b20
        unfold vX5_askCatch_56
        refine g_const (v := cI (11)) rfl ?_
        exact TX5_askCatch_58 hl1 hl2 hl3 hs0 ⟨by omega, by omega⟩ h
      · replace h := h.2 b20
        exact TX5_askCatch_51 hl1 hl2 hl3 hs0 h
  · replace h := h.2 b12
    exact TX5_askCatch_51 hl1 hl2 hl3 hs0 h
def PX5_askCatch_0 (o : Int) (a1 : Int) (G : gS) (Q : Int → gS → Prop) : Prop :=
  (isO W0 5 (o) ∧ ((G o 0 = -1 ∨ isO W0 11 (G o 0)) → (isO W0 11 (G o 0) ∧ PX11_find (G o 0) a1 G (fun r5 G4 => inI r5 → (∀ G7 : gS, G7 = uG G4 o 14 (r5) → ((r5 < 0 → PX5_askCatch_27 o a1 r5 1 G7 Q) ∧ (¬ (r5 < 0) → PX5_load o r5 G7 (fun r10 G9 => inI r10 → PX5_askCatch_27 o a1 r5 r10 G9 Q))))))))
set_option maxRecDepth 20000 in
theorem TX5_askCatch_0 {o : Int} {a1 : Int} {G : gS} {Q : Int → gS → Prop} (ha1 : inL a1) (h : PX5_askCatch_0 o a1 G Q) : Tg W0 vX5_askCatch_0 [rf (o), cL (a1), 7, 7, 7] [] G (fun r G => ∃ v, r = cI v ∧ inI v ∧ Q v G) := by
  unfold PX5_askCatch_0 at h
  unfold vX5_askCatch_0
  refine g_ld (v := rf _) rfl (is_R _) ?_
  obtain ⟨q1, h⟩ := h
  refine g_getR (kz := 0) (c := 11) q1 rfl (Nat.le_of_ble_eq_true rfl) rfl (by decide) fun i2 => ?_
  replace h := h i2
  refine g_ld (v := cL _) rfl (is_L _) ?_
  obtain ⟨q3, h⟩ := h
  refine g_callV (As := [_]) (ci := 11) q3 (fun _ => rfl) ?_
  refine g_go1 (Nat.le_of_ble_eq_true rfl) (Tn_w (TX11_find ha1 h) fun _ G4 ⟨r5, e, i6, h⟩ => ?_)
  subst e
  refine ⟨n7_I _, ?_⟩
  replace h := h i6
  refine g_st (lv' := [_, _, _, _, _]) (is_I _) (Nat.le_of_ble_eq_true rfl) (Or.inr (show 7 % 8 ≠ 1 by decide)) rfl ?_
  refine g_ld (v := rf _) rfl (is_R _) ?_
  refine g_ld (v := cI _) rfl (is_I _) ?_
  refine g_putI (kz := 14) q1 rfl (Nat.le_of_ble_eq_true rfl) rfl i6 (nf5_14 q1) ?_
  replace h := h _ rfl
  refine g_ld (v := cI _) rfl (is_I _) ?_
  refine g_lt1 i6 (fun b8 => ?_) (fun b8 => ?_)
  · replace h := h.1 b8
    unfold vX5_askCatch_18
    refine g_const (v := cI (1)) rfl ?_
    exact TX5_askCatch_27 ha1 (show 7 % 8 ≠ 1 by decide) i6 (show 7 % 8 ≠ 1 by decide) ⟨by omega, by omega⟩ h
  · replace h := h.2 b8
    unfold vX5_askCatch_22
    refine g_ld (v := rf _) rfl (is_R _) ?_
    refine g_ld (v := cI _) rfl (is_I _) ?_
    refine g_callV (As := [_]) (ci := 5) q1 (fun _ => rfl) ?_
    refine g_go1 (Nat.le_of_ble_eq_true rfl) (Tn_w (TX5_load i6 h) fun _ G9 ⟨r10, e, i11, h⟩ => ?_)
    subst e
    refine ⟨n7_I _, ?_⟩
    replace h := h i11
    exact TX5_askCatch_27 ha1 (show 7 % 8 ≠ 1 by decide) i6 (show 7 % 8 ≠ 1 by decide) i11 h
abbrev PX5_askCatch (o : Int) (a1 : Int) (G : gS) (Q : Int → gS → Prop) : Prop := PX5_askCatch_0 o a1 G Q
theorem TX5_askCatch {o : Int} {a1 : Int} {G : gS} {Q : Int → gS → Prop} (ha1 : inL a1) (h : PX5_askCatch o a1 G Q) : Tn W0 FX5_askCatch [rf (o), cL (a1)] G (fun r G => ∃ v, r = cI v ∧ inI v ∧ Q v G) := by
  unfold FX5_askCatch
  refine g_ent (lv' := [rf (o), cL (a1), 7, 7, 7]) (flR (flL fl0)) (Nat.le_of_ble_eq_true rfl) rfl ?_
  exact TX5_askCatch_0 ha1 h
end DE

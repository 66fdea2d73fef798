section DE
def PX5_askField_183 (J : Nat → List Int → gS → (Int → gS → Prop) → Prop) (o : Int) (l1 : Int) (l2 : Int) (l3 : Int) (l4 : Int) (l5 : Int) (s0 : Int) (G : gS) (Q : Int → gS → Prop) : Prop :=
  Q (s0) G
set_option maxRecDepth 20000 in
theorem TX5_askField_183 {j : Nat → rx_K} {J : Nat → List Int → gS → (Int → gS → Prop) → Prop} {o : Int} {l1 : Int} {l2 : Int} {l3 : Int} {l4 : Int} {l5 : Int} {s0 : Int} {G : gS} {Q : Int → gS → Prop} (hl1 : inI l1) (hl2 : inI l2) (hl3 : inI l3) (hl5 : inI l5) (hs0 : inI s0) (hj0 : ∀ (o : Int) (l1 : Int) (l2 : Int) (l3 : Int) (l4 : Int) (l5 : Int) (G : gS), (inI l1) → (inI l2) → (inI l3) → (inI l5) → J 0 [o, l1, l2, l3, l4, l5] G Q → Tg W0 (j 0) [rf (o), cI (l1), cI (l2), cI (l3), rf (l4), cI (l5)] [] G (fun r G => ∃ v, r = cI v ∧ inI v ∧ Q v G)) (h : PX5_askField_183 J o l1 l2 l3 l4 l5 s0 G Q) : Tg W0 (vX5_askField_183 j) [rf (o), cI (l1), cI (l2), cI (l3), rf (l4), cI (l5)] [cI (s0)] G (fun r G => ∃ v, r = cI v ∧ inI v ∧ Q v G) := by
  unfold PX5_askField_183 at h
  unfold vX5_askField_183
  exact g_ret1 (is_I _) ⟨_, rfl, hs0, h⟩
def PX5_askField_182 (J : Nat → List Int → gS → (Int → gS → Prop) → Prop) (o : Int) (l1 : Int) (l2 : Int) (l3 : Int) (l4 : Int) (l5 : Int) (G : gS) (Q : Int → gS → Prop) : Prop :=
  PX5_askField_183 J o l1 l2 l3 l4 l5 0 G Q
set_option maxRecDepth 20000 in
theorem TX5_askField_182 {j : Nat → rx_K} {J : Nat → List Int → gS → (Int → gS → Prop) → Prop} {o : Int} {l1 : Int} {l2 : Int} {l3 : Int} {l4 : Int} {l5 : Int} {G : gS} {Q : Int → gS → Prop} (hl1 : inI l1) (hl2 : inI l2) (hl3 : inI l3) (hl5 : inI l5) (hj0 : ∀ (o : Int) (l1 : Int) (l2 : Int) (l3 : Int) (l4 : Int) (l5 : Int) (G : gS), (inI l1) → (inI l2) → (inI l3) → (inI l5) → J 0 [o, l1, l2, l3, l4, l5] G Q → Tg W0 (j 0) [rf (o), cI (l1), cI (l2), cI (l3), rf (l4), cI (l5)] [] G (fun r G => ∃ v, r = cI v ∧ inI v ∧ Q v G)) (h : PX5_askField_182 J o l1 l2 l3 l4 l5 G Q) : Tg W0 (vX5_askField_182 j) [rf (o), cI (l1), cI (l2), cI (l3), rf (l4), cI (l5)] [] G (fun r G => ∃ v, r = cI v ∧ inI v ∧ Q v G) := by
  unfold PX5_askField_182 at h
  unfold vX5_askField_182
  refine g_const (v := cI (0)) rfl ?_
  exact TX5_askField_183 hl1 hl2 hl3 hl5 ⟨by omega, by omega⟩ hj0 h
def PX5_askField_153 (J : Nat → List Int → gS → (Int → gS → Prop) → Prop) (o : Int) (l1 : Int) (l2 : Int) (l3 : Int) (l4 : Int) (l5 : Int) (s0 : Int) (G : gS) (Q : Int → gS → Prop) : Prop :=
  ((s0 = 0 → PX5_askField_182 J o l1 l2 l3 l4 s0 G Q) ∧ (¬ (s0 = 0) → (isO W0 5 (o) ∧ ((G o 11 = -1 ∨ isO W0 7 (G o 11)) → (isO W0 7 (G o 11) ∧ ((0 ≤ G (G o 11) 3 ∧ G (G o 11) 3 ≤ 1) → ((G (G o 11) 3 = 0 → PX5_askField_182 J o l1 l2 l3 l4 s0 G Q) ∧ (¬ (G (G o 11) 3 = 0) → (inI (G o 12) → ((G o 12 = l1 → PX5_askField_182 J o l1 l2 l3 l4 s0 G Q) ∧ (¬ (G o 12 = l1) → PX5_askField_183 J o l1 l2 l3 l4 s0 2 G Q)))))))))))
set_option maxRecDepth 20000 in
theorem TX5_askField_153 {j : Nat → rx_K} {J : Nat → List Int → gS → (Int → gS → Prop) → Prop} {o : Int} {l1 : Int} {l2 : Int} {l3 : Int} {l4 : Int} {l5 : Int} {s0 : Int} {G : gS} {Q : Int → gS → Prop} (hl1 : inI l1) (hl2 : inI l2) (hl3 : inI l3) (hl5 : inI l5) (hs0 : inI s0) (hj0 : ∀ (o : Int) (l1 : Int) (l2 : Int) (l3 : Int) (l4 : Int) (l5 : Int) (G : gS), (inI l1) → (inI l2) → (inI l3) → (inI l5) → J 0 [o, l1, l2, l3, l4, l5] G Q → Tg W0 (j 0) [rf (o), cI (l1), cI (l2), cI (l3), rf (l4), cI (l5)] [] G (fun r G => ∃ v, r = cI v ∧ inI v ∧ Q v G)) (h : PX5_askField_153 J o l1 l2 l3 l4 l5 s0 G Q) : Tg W0 (vX5_askField_153 j) [rf (o), cI (l1), cI (l2), cI (l3), rf (l4), cI (l5)] [cI (s0)] G (fun r G => ∃ v, r = cI v ∧ inI v ∧ Q v G) := by
  unfold PX5_askField_153 at h
  unfold vX5_askField_153
  refine g_st (lv' := [_, _, _, _, _, _]) (is_I _) (Nat.le_of_ble_eq_true rfl) (Or.inr (n1_R _)) rfl ?_
  refine g_ld (v := cI _) rfl (is_I _) ?_
  refine g_eq1 hs0 (fun b50 => ?_) (fun b50 => ?_)
  · replace h := h.1 b50
    exact TX5_askField_182 hl1 hl2 hl3 hs0 hj0 h
  · replace h := h.2 b50
    unfold vX5_askField_160
    refine g_ld (v := rf _) rfl (is_R _) ?_
    obtain ⟨q51, h⟩ := h
    refine g_getR (kz := 11) (c := 7) q51 rfl (Nat.le_of_ble_eq_true rfl) rfl (by decide) fun i52 => ?_
    replace h := h i52
    obtain ⟨q53, h⟩ := h
    refine g_getZ (kz := 3) q53 rfl (Nat.le_of_ble_eq_true rfl) rfl fun i54 => ?_
    replace h := h i54
    refine g_eq1 ⟨by omega, by omega⟩ (fun b55 => ?_) (fun b55 => ?_)
    · replace h := h.1 b55
      exact TX5_askField_182 hl1 hl2 hl3 hs0 hj0 h
    · replace h := h.2 b55
      unfold vX5_askField_170
      refine g_ld (v := rf _) rfl (is_R _) ?_
      refine g_getI (kz := 12) q51 rfl (Nat.le_of_ble_eq_true rfl) rfl fun i56 => ?_
      replace h := h i56
      refine g_ld (v := cI _) rfl (is_I _) ?_
      refine g_eq2 i56 hl1 (fun b57 => ?_) (fun b57 => ?_)
      · replace h := h.1 b57
        exact TX5_askField_182 hl1 hl2 hl3 hs0 hj0 h
      · replace h := h.2 b57
        unfold vX5_askField_178
        refine g_const (v := cI (2)) rfl ?_
        exact TX5_askField_183 hl1 hl2 hl3 hs0 ⟨by omega, by omega⟩ hj0 h
def PX5_askField_148 (J : Nat → List Int → gS → (Int → gS → Prop) → Prop) (o : Int) (l1 : Int) (l2 : Int) (l3 : Int) (l4 : Int) (l5 : Int) (G : gS) (Q : Int → gS → Prop) : Prop :=
  PX5_askField_153 J o l1 l2 l3 l4 l5 1 G Q
set_option maxRecDepth 20000 in
theorem TX5_askField_148 {j : Nat → rx_K} {J : Nat → List Int → gS → (Int → gS → Prop) → Prop} {o : Int} {l1 : Int} {l2 : Int} {l3 : Int} {l4 : Int} {l5 : Int} {G : gS} {Q : Int → gS → Prop} (hl1 : inI l1) (hl2 : inI l2) (hl3 : inI l3) (hl5 : inI l5) (hj0 : ∀ (o : Int) (l1 : Int) (l2 : Int) (l3 : Int) (l4 : Int) (l5 : Int) (G : gS), (inI l1) → (inI l2) → (inI l3) → (inI l5) → J 0 [o, l1, l2, l3, l4, l5] G Q → Tg W0 (j 0) [rf (o), cI (l1), cI (l2), cI (l3), rf (l4), cI (l5)] [] G (fun r G => ∃ v, r = cI v ∧ inI v ∧ Q v G)) (h : PX5_askField_148 J o l1 l2 l3 l4 l5 G Q) : Tg W0 (vX5_askField_148 j) [rf (o), cI (l1), cI (l2), cI (l3), rf (l4), cI (l5)] [] G (fun r G => ∃ v, r = cI v ∧ inI v ∧ Q v G) := by
  unfold PX5_askField_148 at h
  unfold vX5_askField_148
  refine g_const (v := cI (1)) rfl ?_
  exact TX5_askField_153 hl1 hl2 hl3 hl5 ⟨by omega, by omega⟩ hj0 h
def PX5_askField_132 (J : Nat → List Int → gS → (Int → gS → Prop) → Prop) (o : Int) (l1 : Int) (l2 : Int) (l3 : Int) (l4 : Int) (l5 : Int) (s0 : Int) (s1 : Int) (G : gS) (Q : Int → gS → Prop) : Prop :=
  ((s0 = s1 → Q (3) G) ∧ (¬ (s0 = s1) → ((l3 = 4 → PX5_askField_148 J o l1 l2 l3 l4 l5 G Q) ∧ (¬ (l3 = 4) → ((l3 = 6 → PX5_askField_148 J o l1 l2 l3 l4 l5 G Q) ∧ (¬ (l3 = 6) → PX5_askField_153 J o l1 l2 l3 l4 l5 0 G Q))))))
set_option maxRecDepth 20000 in
theorem TX5_askField_132 {j : Nat → rx_K} {J : Nat → List Int → gS → (Int → gS → Prop) → Prop} {o : Int} {l1 : Int} {l2 : Int} {l3 : Int} {l4 : Int} {l5 : Int} {s0 : Int} {s1 : Int} {G : gS} {Q : Int → gS → Prop} (hl1 : inI l1) (hl2 : inI l2) (hl3 : inI l3) (hl5 : inI l5) (hs0 : inI s0) (hs1 : inI s1) (hj0 : ∀ (o : Int) (l1 : Int) (l2 : Int) (l3 : Int) (l4 : Int) (l5 : Int) (G : gS), (inI l1) → (inI l2) → (inI l3) → (inI l5) → J 0 [o, l1, l2, l3, l4, l5] G Q → Tg W0 (j 0) [rf (o), cI (l1), cI (l2), cI (l3), rf (l4), cI (l5)] [] G (fun r G => ∃ v, r = cI v ∧ inI v ∧ Q v G)) (h : PX5_askField_132 J o l1 l2 l3 l4 l5 s0 s1 G Q) : Tg W0 (vX5_askField_132 j) [rf (o), cI (l1), cI (l2), cI (l3), rf (l4), cI (l5)] [cI (s1), cI (s0)] G (fun r G => ∃ v, r = cI v ∧ inI v ∧ Q v G) := by
  unfold PX5_askField_132 at h
  unfold vX5_askField_132
  refine g_eq2 hs0 hs1 (fun b47 => ?_) (fun b47 => ?_)
  · replace h := h.1 b47
    unfold vX5_askField_135
    refine g_const (v := cI (3)) rfl ?_
    exact g_ret1 (is_I _) ⟨_, rfl, ⟨by omega, by omega⟩, h⟩
  · replace h := h.2 b47
    unfold vX5_askField_137
    refine g_ld (v := cI _) rfl (is_I _) ?_
    refine g_const (v := cI (4)) rfl ?_
    refine g_eq2 hl3 ⟨by omega, by omega⟩ (fun b48 => ?_) (fun b48 => ?_)
    · replace h := h.1 b48
      exact TX5_askField_148 hl1 hl2 hl3 hl5 hj0 h
    · replace h := h.2 b48
      unfold vX5_askField_142
      refine g_ld (v := cI _) rfl (is_I _) ?_
      refine g_const (v := cI (6)) rfl ?_
      refine g_eq2 hl3 ⟨by omega, by omega⟩ (fun b49 => ?_) (fun b49 => ?_)
      · replace h := h.1 b49
        exact TX5_askField_148 hl1 hl2 hl3 hl5 hj0 h
      · replace h := h.2 b49
        unfold vX5_askField_152
        refine g_const (v := cI (0)) rfl ?_
        exact TX5_askField_153 hl1 hl2 hl3 hl5 ⟨by omega, by omega⟩ hj0 h
def PX5_askField_127 (J : Nat → List Int → gS → (Int → gS → Prop) → Prop) (o : Int) (l1 : Int) (l2 : Int) (l3 : Int) (l4 : Int) (l5 : Int) (s0 : Int) (G : gS) (Q : Int → gS → Prop) : Prop :=
  PX5_askField_132 J o l1 l2 l3 l4 l5 s0 1 G Q
set_option maxRecDepth 20000 in
theorem TX5_askField_127 {j : Nat → rx_K} {J : Nat → List Int → gS → (Int → gS → Prop) → Prop} {o : Int} {l1 : Int} {l2 : Int} {l3 : Int} {l4 : Int} {l5 : Int} {s0 : Int} {G : gS} {Q : Int → gS → Prop} (hl1 : inI l1) (hl2 : inI l2) (hl3 : inI l3) (hl5 : inI l5) (hs0 : inI s0) (hj0 : ∀ (o : Int) (l1 : Int) (l2 : Int) (l3 : Int) (l4 : Int) (l5 : Int) (G : gS), (inI l1) → (inI l2) → (inI l3) → (inI l5) → J 0 [o, l1, l2, l3, l4, l5] G Q → Tg W0 (j 0) [rf (o), cI (l1), cI (l2), cI (l3), rf (l4), cI (l5)] [] G (fun r G => ∃ v, r = cI v ∧ inI v ∧ Q v G)) (h : PX5_askField_127 J o l1 l2 l3 l4 l5 s0 G Q) : Tg W0 (vX5_askField_127 j) [rf (o), cI (l1), cI (l2), cI (l3), rf (l4), cI (l5)] [cI (s0)] G (fun r G => ∃ v, r = cI v ∧ inI v ∧ Q v G) := by
  unfold PX5_askField_127 at h
  unfold vX5_askField_127
  refine g_const (v := cI (1)) rfl ?_
  exact TX5_askField_132 hl1 hl2 hl3 hl5 hs0 ⟨by omega, by omega⟩ hj0 h
def PX5_askField_36 (J : Nat → List Int → gS → (Int → gS → Prop) → Prop) (o : Int) (l1 : Int) (l2 : Int) (l3 : Int) (l4 : Int) (l5 : Int) (G : gS) (Q : Int → gS → Prop) : Prop :=
  (isO W0 5 (o) ∧ ((G o 0 = -1 ∨ isO W0 11 (G o 0)) → (isO W0 11 (G o 0) ∧ (inI (G (G o 0) 15) → ((l5 < G (G o 0) 15 → ((G o 0 = -1 ∨ isO W0 11 (G o 0)) → (isO W0 11 (G o 0) ∧ ((0 : Int) ≤ l5 ∧ ((l5 : Int) < 64 ∧ (inI (G ((G o 0) + 13) l5) → ((0 : Int) ≤ l5 ∧ ((l5 : Int) < 130 ∧ (∀ G28 : gS, G28 = uG G (o + 9) l5 (G ((G o 0) + 13) l5) → (inI (l5 + 1) ∧ J 0 [o, l1, l2, l3, l4, l5 + 1] G28 Q)))))))))) ∧ (¬ (l5 < G (G o 0) 15) → ((G o 0 = -1 ∨ isO W0 11 (G o 0)) → (isO W0 11 (G o 0) ∧ (inI (G (G o 0) 15) → (∀ G33 : gS, G33 = uG G o 16 (G (G o 0) 15) → ((G33 o 11 = -1 ∨ isO W0 7 (G33 o 11)) → ((G33 o 11 < 0 → Q (4) G33) ∧ (0 ≤ G33 o 11 → ((G33 o 11 = -1 ∨ isO W0 7 (G33 o 11)) → (inI (G33 o 12) → PX5_isLet o (G33 o 11) (G33 o 12) l2 l1 G33 (fun r39 G38 => (0 ≤ r39 ∧ r39 ≤ 1) → ((r39 = 0 → Q (2) G38) ∧ (¬ (r39 = 0) → ((G38 o 11 = -1 ∨ isO W0 7 (G38 o 11)) → (isO W0 7 (G38 o 11) ∧ ((0 ≤ G38 (G38 o 11) 2 ∧ G38 (G38 o 11) 2 ≤ 1) → ((l3 = 3 → PX5_askField_127 J o l1 l2 l3 l4 l5 (G38 (G38 o 11) 2) G38 Q) ∧ (¬ (l3 = 3) → ((l3 = 4 → PX5_askField_127 J o l1 l2 l3 l4 l5 (G38 (G38 o 11) 2) G38 Q) ∧ (¬ (l3 = 4) → PX5_askField_132 J o l1 l2 l3 l4 l5 (G38 (G38 o 11) 2) 0 G38 Q)))))))))))))))))))))))))
set_option maxRecDepth 20000 in
theorem TX5_askField_36 {j : Nat → rx_K} {J : Nat → List Int → gS → (Int → gS → Prop) → Prop} {o : Int} {l1 : Int} {l2 : Int} {l3 : Int} {l4 : Int} {l5 : Int} {G : gS} {Q : Int → gS → Prop} (hl1 : inI l1) (hl2 : inI l2) (hl3 : inI l3) (hl5 : inI l5) (hj0 : ∀ (o : Int) (l1 : Int) (l2 : Int) (l3 : Int) (l4 : Int) (l5 : Int) (G : gS), (inI l1) → (inI l2) → (inI l3) → (inI l5) → J 0 [o, l1, l2, l3, l4, l5] G Q → Tg W0 (j 0) [rf (o), cI (l1), cI (l2), cI (l3), rf (l4), cI (l5)] [] G (fun r G => ∃ v, r = cI v ∧ inI v ∧ Q v G)) (h : PX5_askField_36 J o l1 l2 l3 l4 l5 G Q) : Tg W0 (vX5_askField_36 j) [rf (o), cI (l1), cI (l2), cI (l3), rf (l4), cI (l5)] [] G (fun r G => ∃ v, r = cI v ∧ inI v ∧ Q v G) := by
  unfold PX5_askField_36 at h
  unfold vX5_askField_36
  refine g_ld (v := cI _) rfl (is_I _) ?_
  refine g_ld (v := rf _) rfl (is_R _) ?_
  obtain ⟨q16, h⟩ := h
  refine g_getR (kz := 0) (c := 11) q16 rfl (Nat.le_of_ble_eq_true rfl) rfl (by decide) fun i17 => ?_
  replace h := h i17
  obtain ⟨q18, h⟩ := h
  refine g_getI (kz := 15) q18 rfl (Nat.le_of_ble_eq_true rfl) rfl fun i19 => ?_
  replace h := h i19
  refine g_lt2 hl5 i19 (fun b20 => ?_) (fun b20 => ?_)
  · replace h := h.1 b20
    unfold vX5_askField_48
    refine g_ld (v := rf _) rfl (is_R _) ?_
    refine g_getF q16 (ff5_15 q16).1 rfl (Nat.le_of_ble_eq_true rfl) (Nat.le_of_ble_eq_true rfl) ?_
    refine g_ld (v := cI _) rfl (is_I _) ?_
    refine g_ld (v := rf _) rfl (is_R _) ?_
    refine g_getR (kz := 0) (c := 11) q16 rfl (Nat.le_of_ble_eq_true rfl) rfl (by decide) fun i21 => ?_
    replace h := h i21
    obtain ⟨q22, h⟩ := h
    refine g_getF q22 (ff11_14 q22).1 rfl (Nat.le_of_ble_eq_true rfl) (Nat.le_of_ble_eq_true rfl) ?_
    refine g_ld (v := cI _) rfl (is_I _) ?_
    obtain ⟨q23, q24, h⟩ := h
    refine g_aldI (ff11_14 q22).2 q23 q24 rfl fun i25 => ?_
    replace h := h i25
    obtain ⟨q26, q27, h⟩ := h
    refine g_astI (ff5_15 q16).2 q26 q27 i25 (nfI (ff5_15 q16).2) ?_
    replace h := h _ rfl
    refine g_inc (lv' := [_, _, _, _, _, _]) rfl (Nat.le_of_ble_eq_true rfl) (Or.inr (n1_R _)) rfl ?_
    obtain ⟨q29, h⟩ := h
    exact hj0 _ _ _ _ _ _ _ hl1 hl2 hl3 q29 h
  · replace h := h.2 b20
    unfold vX5_askField_71
    refine g_ld (v := rf _) rfl (is_R _) ?_
    refine g_ld (v := rf _) rfl (is_R _) ?_
    refine g_getR (kz := 0) (c := 11) q16 rfl (Nat.le_of_ble_eq_true rfl) rfl (by decide) fun i30 => ?_
    replace h := h i30
    obtain ⟨q31, h⟩ := h
    refine g_getI (kz := 15) q31 rfl (Nat.le_of_ble_eq_true rfl) rfl fun i32 => ?_
    replace h := h i32
    refine g_putI (kz := 16) q16 rfl (Nat.le_of_ble_eq_true rfl) rfl i32 (nf5_16 q16) ?_
    replace h := h _ rfl
    refine g_ld (v := rf _) rfl (is_R _) ?_
    refine g_getR (kz := 11) (c := 7) q16 rfl (Nat.le_of_ble_eq_true rfl) rfl (by decide) fun i34 => ?_
    replace h := h i34
    refine g_nul (fun b35 => ?_) (fun b35 => ?_)
    · replace h := h.1 b35
      unfold vX5_askField_89
      refine g_const (v := cI (4)) rfl ?_
      exact g_ret1 (is_I _) ⟨_, rfl, ⟨by omega, by omega⟩, h⟩
    · replace h := h.2 b35
      unfold vX5_askField_91
      refine g_ld (v := rf _) rfl (is_R _) ?_
      refine g_ld (v := rf _) rfl (is_R _) ?_
      refine g_getR (kz := 11) (c := 7) q16 rfl (Nat.le_of_ble_eq_true rfl) rfl (by decide) fun i36 => ?_
      replace h := h i36
      refine g_ld (v := rf _) rfl (is_R _) ?_
      refine g_getI (kz := 12) q16 rfl (Nat.le_of_ble_eq_true rfl) rfl fun i37 => ?_
      replace h := h i37
      refine g_ld (v := cI _) rfl (is_I _) ?_
      refine g_ld (v := cI _) rfl (is_I _) ?_
      refine g_callV (As := [_, _, _, _]) (ci := 5) q16 (fun _ => rfl) ?_
      refine g_go1 (Nat.le_of_ble_eq_true rfl) (Tn_w (TX5_isLet i37 hl2 hl1 h) fun _ G38 ⟨r39, e, i40, h⟩ => ?_)
      subst e
      refine ⟨n7_I _, ?_⟩
      replace h := h i40
      refine g_eq1 ⟨by omega, by omega⟩ (fun b41 => ?_) (fun b41 => ?_)
      · replace h := h.1 b41
        unfold vX5_askField_108
        refine g_const (v := cI (2)) rfl ?_
        exact g_ret1 (is_I _) ⟨_, rfl, ⟨by omega, by omega⟩, h⟩
      · replace h := h.2 b41
        unfold vX5_askField_110
        refine g_ld (v := rf _) rfl (is_R _) ?_
        refine g_getR (kz := 11) (c := 7) q16 rfl (Nat.le_of_ble_eq_true rfl) rfl (by decide) fun i42 => ?_
        replace h := h i42
        obtain ⟨q43, h⟩ := h
        refine g_getZ (kz := 2) q43 rfl (Nat.le_of_ble_eq_true rfl) rfl fun i44 => ?_
        replace h := h i44
        refine g_ld (v := cI _) rfl (is_I _) ?_
        refine g_const (v := cI (3)) rfl ?_
        refine g_eq2 hl3 ⟨by omega, by omega⟩ (fun b45 => ?_) (fun b45 => ?_)
        · replace h := h.1 b45
          exact TX5_askField_127 hl1 hl2 hl3 hl5 ⟨by omega, by omega⟩ hj0 h
        · replace h := h.2 b45
          unfold vX5_askField_122
          refine g_ld (v := cI _) rfl (is_I _) ?_
          refine g_const (v := cI (4)) rfl ?_
          refine g_eq2 hl3 ⟨by omega, by omega⟩ (fun b46 => ?_) (fun b46 => ?_)
          · replace h := h.1 b46
            exact TX5_askField_127 hl1 hl2 hl3 hl5 ⟨by omega, by omega⟩ hj0 h
          · replace h := h.2 b46
            unfold vX5_askField_131
            refine g_const (v := cI (0)) rfl ?_
            exact TX5_askField_132 hl1 hl2 hl3 hl5 ⟨by omega, by omega⟩ ⟨by omega, by omega⟩ hj0 h
def PX5_askField_0 (J : Nat → List Int → gS → (Int → gS → Prop) → Prop) (o : Int) (a1 : Int) (a2 : Int) (a3 : Int) (a4 : Int) (G : gS) (Q : Int → gS → Prop) : Prop :=
  (isO W0 5 (o) ∧ ((G o 0 = -1 ∨ isO W0 11 (G o 0)) → (isO W0 7 (a4) ∧ (inL (G a4 7) → (inL (G a4 8) → (isO W0 11 (G o 0) ∧ PX11_fieldIn (G o 0) a2 (G a4 7) (G a4 8) G (fun r8 G7 => ((r8 = -1 ∨ isO W0 7 (r8)) ∧ (∀ G11 : gS, G11 = uG G7 o 11 (r8) → ((G11 o 0 = -1 ∨ isO W0 11 (G11 o 0)) → (isO W0 11 (G11 o 0) ∧ (inI (G11 (G11 o 0) 18) → (∀ G15 : gS, G15 = uG G11 o 12 (G11 (G11 o 0) 18) → PX5_askField_36 J o a1 a2 a3 a4 0 G15 Q)))))))))))))
set_option maxRecDepth 20000 in
theorem TX5_askField_0 {j : Nat → rx_K} {J : Nat → List Int → gS → (Int → gS → Prop) → Prop} {o : Int} {a1 : Int} {a2 : Int} {a3 : Int} {a4 : Int} {G : gS} {Q : Int → gS → Prop} (ha1 : inI a1) (ha2 : inI a2) (ha3 : inI a3) (hj0 : ∀ (o : Int) (l1 : Int) (l2 : Int) (l3 : Int) (l4 : Int) (l5 : Int) (G : gS), (inI l1) → (inI l2) → (inI l3) → (inI l5) → J 0 [o, l1, l2, l3, l4, l5] G Q → Tg W0 (j 0) [rf (o), cI (l1), cI (l2), cI (l3), rf (l4), cI (l5)] [] G (fun r G => ∃ v, r = cI v ∧ inI v ∧ Q v G)) (h : PX5_askField_0 J o a1 a2 a3 a4 G Q) : Tg W0 (vX5_askField_0 j) [rf (o), cI (a1), cI (a2), cI (a3), rf (a4), 7] [] G (fun r G => ∃ v, r = cI v ∧ inI v ∧ Q v G) := by
  unfold PX5_askField_0 at h
  unfold vX5_askField_0
  refine g_ld (v := rf _) rfl (is_R _) ?_
  refine g_ld (v := rf _) rfl (is_R _) ?_
  obtain ⟨q1, h⟩ := h
  refine g_getR (kz := 0) (c := 11) q1 rfl (Nat.le_of_ble_eq_true rfl) rfl (by decide) fun i2 => ?_
  replace h := h i2
  refine g_ld (v := cI _) rfl (is_I _) ?_
  refine g_ld (v := rf _) rfl (is_R _) ?_
  obtain ⟨q3, h⟩ := h
  refine g_getL (kz := 7) q3 rfl (Nat.le_of_ble_eq_true rfl) rfl fun i4 => ?_
  replace h := h i4
  refine g_ld (v := rf _) rfl (is_R _) ?_
  refine g_getL (kz := 8) q3 rfl (Nat.le_of_ble_eq_true rfl) rfl fun i5 => ?_
  replace h := h i5
  obtain ⟨q6, h⟩ := h
  refine g_callV (As := [_, _, _]) (ci := 11) q6 (fun _ => rfl) ?_
  refine g_go1 (by simp only [cs_c, cs_0, ct_I, ct_L, ct_R]; exact Nat.le_of_ble_eq_true rfl) (Tn_w (TX11_fieldIn ha2 i4 i5 h) fun _ G7 ⟨r8, e, h⟩ => ?_)
  subst e
  refine ⟨n7_R _, ?_⟩
  obtain ⟨q10, h⟩ := h
  refine g_putR (kz := 11) (c := 7) q1 rfl (Nat.le_of_ble_eq_true rfl) rfl (by decide) q10 (nf5_11 q1) ?_
  replace h := h _ rfl
  refine g_ld (v := rf _) rfl (is_R _) ?_
  refine g_ld (v := rf _) rfl (is_R _) ?_
  refine g_getR (kz := 0) (c := 11) q1 rfl (Nat.le_of_ble_eq_true rfl) rfl (by decide) fun i12 => ?_
  replace h := h i12
  obtain ⟨q13, h⟩ := h
  refine g_getI (kz := 18) q13 rfl (Nat.le_of_ble_eq_true rfl) rfl fun i14 => ?_
  replace h := h i14
  refine g_putI (kz := 12) q1 rfl (Nat.le_of_ble_eq_true rfl) rfl i14 (nf5_12 q1) ?_
  replace h := h _ rfl
  refine g_const (v := cI (0)) rfl ?_
  refine g_st (lv' := [_, _, _, _, _, _]) (is_I _) (Nat.le_of_ble_eq_true rfl) (Or.inr (n1_R _)) rfl ?_
  exact TX5_askField_36 ha1 ha2 ha3 ⟨by omega, by omega⟩ hj0 h
def PX5_askField_J : Nat → Nat → List Int → gS → (Int → gS → Prop) → Prop
  | 0, _, _, _, _ => False
  | f + 1, h, L, G, Q => match h, L with
    | 0, [o, l1, l2, l3, l4, l5] => PX5_askField_36 (PX5_askField_J f) o l1 l2 l3 l4 l5 G Q
    | _, _ => False
theorem TX5_askField_J {Q : Int → gS → Prop} : ∀ f N : Nat, f ≤ N → (∀ (o : Int) (l1 : Int) (l2 : Int) (l3 : Int) (l4 : Int) (l5 : Int) (G : gS), (inI l1) → (inI l2) → (inI l3) → (inI l5) → (PX5_askField_J f) 0 [o, l1, l2, l3, l4, l5] G Q → Tg W0 (rx_J vhX5_askField N 0) [rf (o), cI (l1), cI (l2), cI (l3), rf (l4), cI (l5)] [] G (fun r G => ∃ v, r = cI v ∧ inI v ∧ Q v G)) := by
  intro f
  induction f with
  | zero => exact fun N _ => fun _ _ _ _ _ _ _ _ _ _ _ h => h.elim
  | succ f ih =>
    intro N hN
    obtain ⟨M, rfl⟩ : ∃ M, N = M + 1 := ⟨N - 1, by omega⟩
    have ih := ih M (by omega)
    exact fun _ _ _ _ _ _ _ hl1 hl2 hl3 hl5 h => show Tg W0 (vX5_askField_36 (rx_J vhX5_askField M)) _ _ _ _ from TX5_askField_36 hl1 hl2 hl3 hl5 ih h
def PX5_askField (o : Int) (a1 : Int) (a2 : Int) (a3 : Int) (a4 : Int) (G : gS) (Q : Int → gS → Prop) : Prop := ∃ f : Nat, f ≤ 4000000000 ∧ PX5_askField_0 (PX5_askField_J f) o a1 a2 a3 a4 G Q
theorem TX5_askField {o : Int} {a1 : Int} {a2 : Int} {a3 : Int} {a4 : Int} {G : gS} {Q : Int → gS → Prop} (ha1 : inI a1) (ha2 : inI a2) (ha3 : inI a3) (h : PX5_askField o a1 a2 a3 a4 G Q) : Tn W0 FX5_askField [rf (o), cI (a1), cI (a2), cI (a3), rf (a4)] G (fun r G => ∃ v, r = cI v ∧ inI v ∧ Q v G) := by
  obtain ⟨f, hf, h⟩ := h
  have hJ := TX5_askField_J (Q := Q) f 4000000000 hf
  unfold FX5_askField
  refine g_ent (lv' := [rf (o), cI (a1), cI (a2), cI (a3), rf (a4), 7]) (flR (flI (flI (flI (flR fl0))))) (Nat.le_of_ble_eq_true rfl) rfl ?_
  exact TX5_askField_0 ha1 ha2 ha3 hJ h
def PX5_askSuper_138 (J : Nat → List Int → gS → (Int → gS → Prop) → Prop) (o : Int) (l1 : Int) (l2 : Int) (l3 : Int) (l4 : Int) (s0 : Int) (G : gS) (Q : Int → gS → Prop) : Prop :=
  Q (s0) G
set_option maxRecDepth 20000 in
theorem TX5_askSuper_138 {j : Nat → rx_K} {J : Nat → List Int → gS → (Int → gS → Prop) → Prop} {o : Int} {l1 : Int} {l2 : Int} {l3 : Int} {l4 : Int} {l5 : Nat} {s0 : Int} {G : gS} {Q : Int → gS → Prop} (hl1 : inI l1) (hl3 : inI l3) (hl4 : inI l4) (hl5 : l5 % 8 ≠ 1) (hs0 : inI s0) (hj0 : ∀ (o : Int) (l1 : Int) (l2 : Int) (l3 : Int) (l4 : Int) (l5 : Nat) (G : gS), (inI l1) → (inI l3) → (inI l4) → (l5 % 8 ≠ 1) → J 0 [o, l1, l2, l3, l4] G Q → Tg W0 (j 0) [rf (o), cI (l1), rf (l2), cI (l3), cI (l4), l5] [] G (fun r G => ∃ v, r = cI v ∧ inI v ∧ Q v G)) (h : PX5_askSuper_138 J o l1 l2 l3 l4 s0 G Q) : Tg W0 (vX5_askSuper_138 j) [rf (o), cI (l1), rf (l2), cI (l3), cI (l4), l5] [cI (s0)] G (fun r G => ∃ v, r = cI v ∧ inI v ∧ Q v G) := by
  unfold PX5_askSuper_138 at h
  unfold vX5_askSuper_138
  exact g_ret1 (is_I _) ⟨_, rfl, hs0, h⟩
def PX5_askSuper_118 (J : Nat → List Int → gS → (Int → gS → Prop) → Prop) (o : Int) (l1 : Int) (l2 : Int) (l3 : Int) (l4 : Int) (s0 : Int) (G : gS) (Q : Int → gS → Prop) : Prop :=
  ((s0 = 1 → (isO W0 5 (o) ∧ ((G o 0 = -1 ∨ isO W0 11 (G o 0)) → (isO W0 11 (G o 0) ∧ ((G (G o 0) 17 = -1 ∨ isO W0 7 (G (G o 0) 17)) → ((G (G o 0) 17 = -1 ∨ isO W0 7 (G (G o 0) 17)) ∧ (∀ G49 : gS, G49 = uG G o 11 (G (G o 0) 17) → ((G49 o 0 = -1 ∨ isO W0 11 (G49 o 0)) → (isO W0 11 (G49 o 0) ∧ (inI (G49 (G49 o 0) 18) → (∀ G53 : gS, G53 = uG G49 o 12 (G49 (G49 o 0) 18) → Q (0) G53))))))))))) ∧ (¬ (s0 = 1) → ((1 < s0 → PX5_askSuper_138 J o l1 l2 l3 s0 3 G Q) ∧ (¬ (1 < s0) → PX5_askSuper_138 J o l1 l2 l3 s0 6 G Q))))
set_option maxRecDepth 20000 in
theorem TX5_askSuper_118 {j : Nat → rx_K} {J : Nat → List Int → gS → (Int → gS → Prop) → Prop} {o : Int} {l1 : Int} {l2 : Int} {l3 : Int} {l4 : Int} {l5 : Nat} {s0 : Int} {G : gS} {Q : Int → gS → Prop} (hl1 : inI l1) (hl3 : inI l3) (hl4 : inI l4) (hl5 : l5 % 8 ≠ 1) (hs0 : inI s0) (hj0 : ∀ (o : Int) (l1 : Int) (l2 : Int) (l3 : Int) (l4 : Int) (l5 : Nat) (G : gS), (inI l1) → (inI l3) → (inI l4) → (l5 % 8 ≠ 1) → J 0 [o, l1, l2, l3, l4] G Q → Tg W0 (j 0) [rf (o), cI (l1), rf (l2), cI (l3), cI (l4), l5] [] G (fun r G => ∃ v, r = cI v ∧ inI v ∧ Q v G)) (h : PX5_askSuper_118 J o l1 l2 l3 l4 s0 G Q) : Tg W0 (vX5_askSuper_118 j) [rf (o), cI (l1), rf (l2), cI (l3), cI (l4), l5] [cI (s0)] G (fun r G => ∃ v, r = cI v ∧ inI v ∧ Q v G) := by
  unfold PX5_askSuper_118 at h
  unfold vX5_askSuper_118
  refine g_st (lv' := [_, _, _, _, _, _]) (is_I _) (Nat.le_of_ble_eq_true rfl) (Or.inr (n1_I _)) rfl ?_
  refine g_ld (v := cI _) rfl (is_I _) ?_
  refine g_const (v := cI (1)) rfl ?_
  refine g_eq2 hs0 ⟨by omega, by omega⟩ (fun b43 => ?_) (fun b43 => ?_)
  · replace h := h.1 b43
    unfold vX5_askSuper_139
    refine g_ld (v := rf _) rfl (is_R _) ?_
    refine g_ld (v := rf _) rfl (is_R _) ?_
    obtain ⟨q44, h⟩ := h
    refine g_getR (kz := 0) (c := 11) q44 rfl (Nat.le_of_ble_eq_true rfl) rfl (by decide) fun i45 => ?_
    replace h := h i45
    obtain ⟨q46, h⟩ := h
    refine g_getR (kz := 17) (c := 7) q46 rfl (Nat.le_of_ble_eq_true rfl) rfl (by decide) fun i47 => ?_
    replace h := h i47
    obtain ⟨q48, h⟩ := h
    refine g_putR (kz := 11) (c := 7) q44 rfl (Nat.le_of_ble_eq_true rfl) rfl (by decide) q48 (nf5_11 q44) ?_
    replace h := h _ rfl
    refine g_ld (v := rf _) rfl (is_R _) ?_
    refine g_ld (v := rf _) rfl (is_R _) ?_
    refine g_getR (kz := 0) (c := 11) q44 rfl (Nat.le_of_ble_eq_true rfl) rfl (by decide) fun i50 => ?_
    replace h := h i50
    obtain ⟨q51, h⟩ := h
    refine g_getI (kz := 18) q51 rfl (Nat.le_of_ble_eq_true rfl) rfl fun i52 => ?_
    replace h := h i52
    refine g_putI (kz := 12) q44 rfl (Nat.le_of_ble_eq_true rfl) rfl i52 (nf5_12 q44) ?_
    replace h := h _ rfl
    refine g_const (v := cI (0)) rfl ?_
    exact g_ret1 (is_I _) ⟨_, rfl, ⟨by omega, by omega⟩, h⟩
  · replace h := h.2 b43
    unfold vX5_askSuper_126
    refine g_ld (v := cI _) rfl (is_I _) ?_
    refine g_const (v := cI (1)) rfl ?_
    refine g_gt2 hs0 ⟨by omega, by omega⟩ (fun b54 => ?_) (fun b54 => ?_)
    · replace h := h.1 b54
      unfold vX5_askSuper_132
      refine g_const (v := cI (3)) rfl ?_
      exact TX5_askSuper_138 hl1 hl3 hs0 hl5 ⟨by omega, by omega⟩ hj0 h
    · replace h := h.2 b54
      unfold vX5_askSuper_136
      refine g_const (v := cI (6)) rfl ?_
      exact TX5_askSuper_138 hl1 hl3 hs0 hl5 ⟨by omega, by omega⟩ hj0 h
def PX5_askSuper_101 (J : Nat → List Int → gS → (Int → gS → Prop) → Prop) (o : Int) (l1 : Int) (l2 : Int) (l3 : Int) (l4 : Int) (G : gS) (Q : Int → gS → Prop) : Prop :=
  ((l1 < 0 → PX5_askSuper_118 J o l1 l2 l3 l4 0 G Q) ∧ (¬ (l1 < 0) → (isO W0 5 (o) ∧ ((G o 0 = -1 ∨ isO W0 11 (G o 0)) → (isO W0 11 (G o 0) ∧ PX11_mostSpecial (G o 0) l1 l2 G (fun r34 G33 => inI r34 → PX5_askSuper_118 J o l1 l2 l3 l4 r34 G33 Q))))))
set_option maxRecDepth 20000 in
theorem TX5_askSuper_101 {j : Nat → rx_K} {J : Nat → List Int → gS → (Int → gS → Prop) → Prop} {o : Int} {l1 : Int} {l2 : Int} {l3 : Int} {l4 : Int} {l5 : Nat} {G : gS} {Q : Int → gS → Prop} (hl1 : inI l1) (hl3 : inI l3) (hl4 : inI l4) (hl5 : l5 % 8 ≠ 1) (hj0 : ∀ (o : Int) (l1 : Int) (l2 : Int) (l3 : Int) (l4 : Int) (l5 : Nat) (G : gS), (inI l1) → (inI l3) → (inI l4) → (l5 % 8 ≠ 1) → J 0 [o, l1, l2, l3, l4] G Q → Tg W0 (j 0) [rf (o), cI (l1), rf (l2), cI (l3), cI (l4), l5] [] G (fun r G => ∃ v, r = cI v ∧ inI v ∧ Q v G)) (h : PX5_askSuper_101 J o l1 l2 l3 l4 G Q) : Tg W0 (vX5_askSuper_101 j) [rf (o), cI (l1), rf (l2), cI (l3), cI (l4), l5] [] G (fun r G => ∃ v, r = cI v ∧ inI v ∧ Q v G) := by
  unfold PX5_askSuper_101 at h
  unfold vX5_askSuper_101
  refine g_ld (v := cI _) rfl (is_I _) ?_
  refine g_lt1 hl1 (fun b29 => ?_) (fun b29 => ?_)
  · replace h := h.1 b29
    unfold vX5_askSuper_105
    refine g_const (v := cI (0)) rfl ?_
    exact TX5_askSuper_118 hl1 hl3 hl4 hl5 ⟨by omega, by omega⟩ hj0 h
  · replace h := h.2 b29
    unfold vX5_askSuper_109
    refine g_ld (v := rf _) rfl (is_R _) ?_
    obtain ⟨q30, h⟩ := h
    refine g_getR (kz := 0) (c := 11) q30 rfl (Nat.le_of_ble_eq_true rfl) rfl (by decide) fun i31 => ?_
    replace h := h i31
    refine g_ld (v := cI _) rfl (is_I _) ?_
    refine g_ld (v := rf _) rfl (is_R _) ?_
    obtain ⟨q32, h⟩ := h
    refine g_callV (As := [_, _]) (ci := 11) q32 (fun _ => rfl) ?_
    refine g_go1 (Nat.le_of_ble_eq_true rfl) (Tn_w (TX11_mostSpecial hl1 h) fun _ G33 ⟨r34, e, i35, h⟩ => ?_)
    subst e
    refine ⟨n7_I _, ?_⟩
    replace h := h i35
    exact TX5_askSuper_118 hl1 hl3 hl4 hl5 i35 hj0 h
def PX5_askSuper_85 (J : Nat → List Int → gS → (Int → gS → Prop) → Prop) (o : Int) (l1 : Int) (l2 : Int) (l3 : Int) (l4 : Int) (l5 : Int) (G : gS) (Q : Int → gS → Prop) : Prop :=
  (isO W0 5 (o) ∧ ((G o 0 = -1 ∨ isO W0 11 (G o 0)) → (isO W0 11 (G o 0) ∧ ((0 : Int) ≤ l3 ∧ ((l3 : Int) < 64 ∧ (inI (G ((G o 0) + 2) l3) → (inI (l4 + 1) ∧ J 0 [o, l1, l2, G ((G o 0) + 2) l3, l4 + 1] G Q)))))))
set_option maxRecDepth 20000 in
theorem TX5_askSuper_85 {j : Nat → rx_K} {J : Nat → List Int → gS → (Int → gS → Prop) → Prop} {o : Int} {l1 : Int} {l2 : Int} {l3 : Int} {l4 : Int} {l5 : Int} {G : gS} {Q : Int → gS → Prop} (hl1 : inI l1) (hl3 : inI l3) (hl4 : inI l4) (hj0 : ∀ (o : Int) (l1 : Int) (l2 : Int) (l3 : Int) (l4 : Int) (l5 : Nat) (G : gS), (inI l1) → (inI l3) → (inI l4) → (l5 % 8 ≠ 1) → J 0 [o, l1, l2, l3, l4] G Q → Tg W0 (j 0) [rf (o), cI (l1), rf (l2), cI (l3), cI (l4), l5] [] G (fun r G => ∃ v, r = cI v ∧ inI v ∧ Q v G)) (h : PX5_askSuper_85 J o l1 l2 l3 l4 l5 G Q) : Tg W0 (vX5_askSuper_85 j) [rf (o), cI (l1), rf (l2), cI (l3), cI (l4), rf (l5)] [] G (fun r G => ∃ v, r = cI v ∧ inI v ∧ Q v G) := by
  unfold PX5_askSuper_85 at h
  unfold vX5_askSuper_85
  refine g_ld (v := rf _) rfl (is_R _) ?_
  obtain ⟨q36, h⟩ := h
  refine g_getR (kz := 0) (c := 11) q36 rfl (Nat.le_of_ble_eq_true rfl) rfl (by decide) fun i37 => ?_
  replace h := h i37
  obtain ⟨q38, h⟩ := h
  refine g_getF q38 (ff11_3 q38).1 rfl (Nat.le_of_ble_eq_true rfl) (Nat.le_of_ble_eq_true rfl) ?_
  refine g_ld (v := cI _) rfl (is_I _) ?_
  obtain ⟨q39, q40, h⟩ := h
  refine g_aldI (ff11_3 q38).2 q39 q40 rfl fun i41 => ?_
  replace h := h i41
  refine g_st (lv' := [_, _, _, _, _, _]) (is_I _) (Nat.le_of_ble_eq_true rfl) (Or.inr (n1_R _)) rfl ?_
  refine g_inc (lv' := [_, _, _, _, _, _]) rfl (Nat.le_of_ble_eq_true rfl) (Or.inr (n1_I _)) rfl ?_
  obtain ⟨q42, h⟩ := h
  exact hj0 _ _ _ _ _ _ _ hl1 i41 q42 (n1_R _) h
def PX5_askSuper_11 (J : Nat → List Int → gS → (Int → gS → Prop) → Prop) (o : Int) (l1 : Int) (l2 : Int) (l3 : Int) (l4 : Int) (G : gS) (Q : Int → gS → Prop) : Prop :=
  ((l1 < 0 → PX5_askSuper_101 J o l1 l2 l3 l4 G Q) ∧ (¬ (l1 < 0) → (isO W0 5 (o) ∧ ((G o 0 = -1 ∨ isO W0 11 (G o 0)) → (isO W0 11 (G o 0) ∧ ((0 : Int) ≤ l1 ∧ ((l1 : Int) < 64 ∧ (inI (G ((G o 0) + 3) l1) → ((G ((G o 0) + 3) l1 < l4 → PX5_askSuper_101 J o l1 l2 l3 l4 G Q) ∧ (¬ (G ((G o 0) + 3) l1 < l4) → ((l3 < 0 → PX5_askSuper_101 J o l1 l2 l3 l4 G Q) ∧ (¬ (l3 < 0) → ((G o 0 = -1 ∨ isO W0 11 (G o 0)) → (isO W0 11 (G o 0) ∧ ((0 : Int) ≤ l3 ∧ ((l3 : Int) < 64 ∧ (((G ((G o 0) + 1) l3 = -1 ∨ isO W0 10 (G ((G o 0) + 1) l3)) ∧ ∀ v, W0.2 ((G o 0) + 1) l3 = some v → G ((G o 0) + 1) l3 = v) → (isO W0 10 (G ((G o 0) + 1) l3) ∧ PX10_method (G ((G o 0) + 1) l3) l2 G (fun r19 G18 => ((r19 < 0 → PX5_askSuper_85 J o l1 l2 l3 l4 r19 G18 Q) ∧ (0 ≤ r19 → (isO W0 7 (r19) ∧ ((0 ≤ G18 r19 2 ∧ G18 r19 2 ≤ 1) → ((G18 r19 2 = 0 → ((0 ≤ G18 r19 4 ∧ G18 r19 4 ≤ 1) → ((G18 r19 4 = 0 → (∀ G27 : gS, G27 = uG G18 o 11 (r19) → (∀ G28 : gS, G28 = uG G27 o 12 (l3) → Q (0) G28))) ∧ (¬ (G18 r19 4 = 0) → Q (6) G18)))) ∧ (¬ (G18 r19 2 = 0) → PX5_askSuper_85 J o l1 l2 l3 l4 r19 G18 Q)))))))))))))))))))))))))
set_option maxRecDepth 20000 in
theorem TX5_askSuper_11 {j : Nat → rx_K} {J : Nat → List Int → gS → (Int → gS → Prop) → Prop} {o : Int} {l1 : Int} {l2 : Int} {l3 : Int} {l4 : Int} {l5 : Nat} {G : gS} {Q : Int → gS → Prop} (hl1 : inI l1) (hl3 : inI l3) (hl4 : inI l4) (hl5 : l5 % 8 ≠ 1) (hj0 : ∀ (o : Int) (l1 : Int) (l2 : Int) (l3 : Int) (l4 : Int) (l5 : Nat) (G : gS), (inI l1) → (inI l3) → (inI l4) → (l5 % 8 ≠ 1) → J 0 [o, l1, l2, l3, l4] G Q → Tg W0 (j 0) [rf (o), cI (l1), rf (l2), cI (l3), cI (l4), l5] [] G (fun r G => ∃ v, r = cI v ∧ inI v ∧ Q v G)) (h : PX5_askSuper_11 J o l1 l2 l3 l4 G Q) : Tg W0 (vX5_askSuper_11 j) [rf (o), cI (l1), rf (l2), cI (l3), cI (l4), l5] [] G (fun r G => ∃ v, r = cI v ∧ inI v ∧ Q v G) := by
  unfold PX5_askSuper_11 at h
  unfold vX5_askSuper_11
  refine g_ld (v := cI _) rfl (is_I _) ?_
  refine g_lt1 hl1 (fun b3 => ?_) (fun b3 => ?_)
  · replace h := h.1 b3
    exact TX5_askSuper_101 hl1 hl3 hl4 hl5 hj0 h
  · replace h := h.2 b3
    unfold vX5_askSuper_15
    refine g_ld (v := cI _) rfl (is_I _) ?_
    refine g_ld (v := rf _) rfl (is_R _) ?_
    obtain ⟨q4, h⟩ := h
    refine g_getR (kz := 0) (c := 11) q4 rfl (Nat.le_of_ble_eq_true rfl) rfl (by decide) fun i5 => ?_
    replace h := h i5
    obtain ⟨q6, h⟩ := h
    refine g_getF q6 (ff11_4 q6).1 rfl (Nat.le_of_ble_eq_true rfl) (Nat.le_of_ble_eq_true rfl) ?_
    refine g_ld (v := cI _) rfl (is_I _) ?_
    obtain ⟨q7, q8, h⟩ := h
    refine g_aldI (ff11_4 q6).2 q7 q8 rfl fun i9 => ?_
    replace h := h i9
    refine g_gt2 hl4 i9 (fun b10 => ?_) (fun b10 => ?_)
    · replace h := h.1 b10
      exact TX5_askSuper_101 hl1 hl3 hl4 hl5 hj0 h
    · replace h := h.2 b10
      unfold vX5_askSuper_29
      refine g_ld (v := cI _) rfl (is_I _) ?_
      refine g_lt1 hl3 (fun b11 => ?_) (fun b11 => ?_)
      · replace h := h.1 b11
        exact TX5_askSuper_101 hl1 hl3 hl4 hl5 hj0 h
      · replace h := h.2 b11
        unfold vX5_askSuper_33
        refine g_ld (v := rf _) rfl (is_R _) ?_
        refine g_getR (kz := 0) (c := 11) q4 rfl (Nat.le_of_ble_eq_true rfl) rfl (by decide) fun i12 => ?_
        replace h := h i12
        obtain ⟨q13, h⟩ := h
        refine g_getF q13 (ff11_1 q13).1 rfl (Nat.le_of_ble_eq_true rfl) (Nat.le_of_ble_eq_true rfl) ?_
        refine g_ld (v := cI _) rfl (is_I _) ?_
        obtain ⟨q14, q15, h⟩ := h
        refine g_aldRF (c := 10) (ff11_1 q13).2 q14 q15 rfl (by decide) fun i16 => ?_
        replace h := h i16
        refine g_ld (v := rf _) rfl (is_R _) ?_
        obtain ⟨q17, h⟩ := h
        refine g_callV (As := [_]) (ci := 10) q17 (fun _ => rfl) ?_
        refine g_go1 (Nat.le_of_ble_eq_true rfl) (Tn_w (TX10_method  h) fun _ G18 ⟨r19, e, h⟩ => ?_)
        subst e
        refine ⟨n7_R _, ?_⟩
        refine g_st (lv' := [_, _, _, _, _, _]) (is_R _) (Nat.le_of_ble_eq_true rfl) (Or.inr (n1_I _)) rfl ?_
        refine g_ld (v := rf _) rfl (is_R _) ?_
        refine g_nul (fun b21 => ?_) (fun b21 => ?_)
        · replace h := h.1 b21
          exact TX5_askSuper_85 hl1 hl3 hl4 hj0 h
        · replace h := h.2 b21
          unfold vX5_askSuper_53
          refine g_ld (v := rf _) rfl (is_R _) ?_
          obtain ⟨q22, h⟩ := h
          refine g_getZ (kz := 2) q22 rfl (Nat.le_of_ble_eq_true rfl) rfl fun i23 => ?_
          replace h := h i23
          refine g_eq1 ⟨by omega, by omega⟩ (fun b24 => ?_) (fun b24 => ?_)
          · replace h := h.1 b24
            unfold vX5_askSuper_61
            refine g_ld (v := rf _) rfl (is_R _) ?_
            refine g_getZ (kz := 4) q22 rfl (Nat.le_of_ble_eq_true rfl) rfl fun i25 => ?_
            replace h := h i25
            refine g_eq1 ⟨by omega, by omega⟩ (fun b26 => ?_) (fun b26 => ?_)
            · replace h := h.1 b26
              unfold vX5_askSuper_72
              refine g_ld (v := rf _) rfl (is_R _) ?_
              refine g_ld (v := rf _) rfl (is_R _) ?_
              refine g_putR (kz := 11) (c := 7) q4 rfl (Nat.le_of_ble_eq_true rfl) rfl (by decide) (Or.inr q22) (nf5_11 q4) ?_
              replace h := h _ rfl
              refine g_ld (v := rf _) rfl (is_R _) ?_
              refine g_ld (v := cI _) rfl (is_I _) ?_
              refine g_putI (kz := 12) q4 rfl (Nat.le_of_ble_eq_true rfl) rfl hl3 (nf5_12 q4) ?_
              replace h := h _ rfl
              refine g_const (v := cI (0)) rfl ?_
              exact g_ret1 (is_I _) ⟨_, rfl, ⟨by omega, by omega⟩, h⟩
            · replace h := h.2 b26
              unfold vX5_askSuper_69
              refine g_const (v := cI (6)) rfl ?_
              exact g_ret1 (is_I _) ⟨_, rfl, ⟨by omega, by omega⟩, h⟩
          · replace h := h.2 b24
            exact TX5_askSuper_85 hl1 hl3 hl4 hj0 h
def PX5_askSuper_0 (J : Nat → List Int → gS → (Int → gS → Prop) → Prop) (o : Int) (a1 : Int) (a2 : Int) (G : gS) (Q : Int → gS → Prop) : Prop :=
  (isO W0 5 (o) ∧ (∀ G2 : gS, G2 = uG G o 12 (-2) → PX5_askSuper_11 J o a1 a2 a1 0 G2 Q))
set_option maxRecDepth 20000 in
theorem TX5_askSuper_0 {j : Nat → rx_K} {J : Nat → List Int → gS → (Int → gS → Prop) → Prop} {o : Int} {a1 : Int} {a2 : Int} {G : gS} {Q : Int → gS → Prop} (ha1 : inI a1) (hj0 : ∀ (o : Int) (l1 : Int) (l2 : Int) (l3 : Int) (l4 : Int) (l5 : Nat) (G : gS), (inI l1) → (inI l3) → (inI l4) → (l5 % 8 ≠ 1) → J 0 [o, l1, l2, l3, l4] G Q → Tg W0 (j 0) [rf (o), cI (l1), rf (l2), cI (l3), cI (l4), l5] [] G (fun r G => ∃ v, r = cI v ∧ inI v ∧ Q v G)) (h : PX5_askSuper_0 J o a1 a2 G Q) : Tg W0 (vX5_askSuper_0 j) [rf (o), cI (a1), rf (a2), 7, 7, 7] [] G (fun r G => ∃ v, r = cI v ∧ inI v ∧ Q v G) := by
  unfold PX5_askSuper_0 at h
  unfold vX5_askSuper_0
  refine g_ld (v := cI _) rfl (is_I _) ?_
  refine g_st (lv' := [_, _, _, _, _, _]) (is_I _) (Nat.le_of_ble_eq_true rfl) (Or.inr (n1_R _)) rfl ?_
  refine g_ld (v := rf _) rfl (is_R _) ?_
  refine g_const (v := cI (-2)) rfl ?_
  obtain ⟨q1, h⟩ := h
  refine g_putI (kz := 12) q1 rfl (Nat.le_of_ble_eq_true rfl) rfl ⟨by omega, by omega⟩ (nf5_12 q1) ?_
  replace h := h _ rfl
  refine g_const (v := cI (0)) rfl ?_
  refine g_st (lv' := [_, _, _, _, _, _]) (is_I _) (Nat.le_of_ble_eq_true rfl) (Or.inr (n1_I _)) rfl ?_
  exact TX5_askSuper_11 ha1 ha1 ⟨by omega, by omega⟩ (show 7 % 8 ≠ 1 by decide) hj0 h
def PX5_askSuper_J : Nat → Nat → List Int → gS → (Int → gS → Prop) → Prop
  | 0, _, _, _, _ => False
  | f + 1, h, L, G, Q => match h, L with
    | 0, [o, l1, l2, l3, l4] => PX5_askSuper_11 (PX5_askSuper_J f) o l1 l2 l3 l4 G Q
    | _, _ => False
theorem TX5_askSuper_J {Q : Int → gS → Prop} : ∀ f N : Nat, f ≤ N → (∀ (o : Int) (l1 : Int) (l2 : Int) (l3 : Int) (l4 : Int) (l5 : Nat) (G : gS), (inI l1) → (inI l3) → (inI l4) → (l5 % 8 ≠ 1) → (PX5_askSuper_J f) 0 [o, l1, l2, l3, l4] G Q → Tg W0 (rx_J vhX5_askSuper N 0) [rf (o), cI (l1), rf (l2), cI (l3), cI (l4), l5] [] G (fun r G => ∃ v, r = cI v ∧ inI v ∧ Q v G)) := by
  intro f
  induction f with
  | zero => exact fun N _ => fun _ _ _ _ _ _ _ _ _ _ _ h => h.elim
  | succ f ih =>
    intro N hN
    obtain ⟨M, rfl⟩ : ∃ M, N = M + 1 := ⟨N - 1, by omega⟩
    have ih := ih M (by omega)
    exact fun _ _ _ _ _ _ _ hl1 hl3 hl4 hl5 h => show Tg W0 (vX5_askSuper_11 (rx_J vhX5_askSuper M)) _ _ _ _ from TX5_askSuper_11 hl1 hl3 hl4 hl5 ih h
def PX5_askSuper (o : Int) (a1 : Int) (a2 : Int) (G : gS) (Q : Int → gS → Prop) : Prop := ∃ f : Nat, f ≤ 4000000000 ∧ PX5_askSuper_0 (PX5_askSuper_J f) o a1 a2 G Q
theorem TX5_askSuper {o : Int} {a1 : Int} {a2 : Int} {G : gS} {Q : Int → gS → Prop} (ha1 : inI a1) (h : PX5_askSuper o a1 a2 G Q) : Tn W0 FX5_askSuper [rf (o), cI (a1), rf (a2)] G (fun r G => ∃ v, r = cI v ∧ inI v ∧ Q v G) := by
  obtain ⟨f, hf, h⟩ := h
  have hJ := TX5_askSuper_J (Q := Q) f 4000000000 hf
  unfold FX5_askSuper
  refine g_ent (lv' := [rf (o), cI (a1), rf (a2), 7, 7, 7]) (flR (flI (flR fl0))) (Nat.le_of_ble_eq_true rfl) rfl ?_
  exact TX5_askSuper_0 ha1 hJ h
def PX5_resolve_240 (J : Nat → List Int → gS → (Int → gS → Prop) → Prop) (o : Int) (l1 : Int) (l2 : Int) (l3 : Int) (l4 : Int) (l5 : Int) (l6 : Int) (G : gS) (Q : Int → gS → Prop) : Prop :=
  (inI (l5 + 1) ∧ J 2 [o, l1, l2, l3, l4, l5 + 1] G Q)
set_option maxRecDepth 20000 in
theorem TX5_resolve_240 {j : Nat → rx_K} {J : Nat → List Int → gS → (Int → gS → Prop) → Prop} {o : Int} {l1 : Int} {l2 : Int} {l3 : Int} {l4 : Int} {l5 : Int} {l6 : Int} {G : gS} {Q : Int → gS → Prop} (hl1 : inI l1) (hl3 : inI l3) (hl4 : inI l4) (hl5 : inI l5) (hj0 : ∀ (o : Int) (l1 : Int) (l2 : Int) (l3 : Int) (l4 : Int) (l5 : Nat) (l6 : Nat) (G : gS), (inI l1) → (inI l3) → (inI l4) → (l5 % 8 ≠ 1) → (l6 % 8 ≠ 1) → J 0 [o, l1, l2, l3, l4] G Q → Tg W0 (j 0) [rf (o), cI (l1), rf (l2), cI (l3), cI (l4), l5, l6] [] G (fun r G => ∃ v, r = rf v ∧ Q v G)) (hj1 : ∀ (o : Int) (l1 : Int) (l2 : Int) (l3 : Int) (l4 : Int) (l5 : Int) (l6 : Nat) (G : gS), (inI l1) → (inI l3) → (inI l4) → (inI l5) → (l6 % 8 ≠ 1) → J 1 [o, l1, l2, l3, l4, l5] G Q → Tg W0 (j 1) [rf (o), cI (l1), rf (l2), cI (l3), cI (l4), cI (l5), l6] [] G (fun r G => ∃ v, r = rf v ∧ Q v G)) (hj2 : ∀ (o : Int) (l1 : Int) (l2 : Int) (l3 : Int) (l4 : Int) (l5 : Int) (l6 : Nat) (G : gS), (inI l1) → (inI l3) → (inI l4) → (inI l5) → (l6 % 8 ≠ 1) → J 2 [o, l1, l2, l3, l4, l5] G Q → Tg W0 (j 2) [rf (o), cI (l1), rf (l2), cI (l3), cI (l4), cI (l5), l6] [] G (fun r G => ∃ v, r = rf v ∧ Q v G)) (h : PX5_resolve_240 J o l1 l2 l3 l4 l5 l6 G Q) : Tg W0 (vX5_resolve_240 j) [rf (o), cI (l1), rf (l2), cI (l3), cI (l4), cI (l5), rf (l6)] [] G (fun r G => ∃ v, r = rf v ∧ Q v G) := by
  unfold PX5_resolve_240 at h
  unfold vX5_resolve_240
  refine g_inc (lv' := [_, _, _, _, _, _, _]) rfl (Nat.le_of_ble_eq_true rfl) (Or.inr (n1_I _)) rfl ?_
  obtain ⟨q94, h⟩ := h
  exact hj2 _ _ _ _ _ _ _ _ hl1 hl3 hl4 q94 (n1_R _) h
def PX5_resolve_174 (J : Nat → List Int → gS → (Int → gS → Prop) → Prop) (o : Int) (l1 : Int) (l2 : Int) (l3 : Int) (l4 : Int) (l5 : Int) (G : gS) (Q : Int → gS → Prop) : Prop :=
  ((l5 < l4 → (isO W0 5 (o) ∧ ((G o 0 = -1 ∨ isO W0 11 (G o 0)) → ((G o 0 = -1 ∨ isO W0 11 (G o 0)) → (isO W0 11 (G o 0) ∧ ((0 : Int) ≤ (l1 * 64) + l5 ∧ (((l1 * 64) + l5 : Int) < 4096 ∧ (inI (G ((G o 0) + 9) ((l1 * 64) + l5)) → (isO W0 11 (G o 0) ∧ (∀ G75 : gS, G75 = uG G (G o 0) 18 (G ((G o 0) + 9) ((l1 * 64) + l5)) → ((G75 o 0 = -1 ∨ isO W0 11 (G75 o 0)) → (isO W0 11 (G75 o 0) ∧ ((G75 o 0 = -1 ∨ isO W0 11 (G75 o 0)) → (isO W0 11 (G75 o 0) ∧ (inI (G75 (G75 o 0) 18) → ((0 : Int) ≤ G75 (G75 o 0) 18 ∧ ((G75 (G75 o 0) 18 : Int) < 64 ∧ (((G75 ((G75 o 0) + 1) (G75 (G75 o 0) 18) = -1 ∨ isO W0 10 (G75 ((G75 o 0) + 1) (G75 (G75 o 0) 18))) ∧ ∀ v, W0.2 ((G75 o 0) + 1) (G75 (G75 o 0) 18) = some v → G75 ((G75 o 0) + 1) (G75 (G75 o 0) 18) = v) → (isO W0 10 (G75 ((G75 o 0) + 1) (G75 (G75 o 0) 18)) ∧ PX10_method (G75 ((G75 o 0) + 1) (G75 (G75 o 0) 18)) l2 G75 (fun r86 G85 => ((r86 < 0 → PX5_resolve_240 J o l1 l2 l3 l4 l5 r86 G85 Q) ∧ (0 ≤ r86 → (isO W0 7 (r86) ∧ PX7_ofObjects r86 G85 (fun r91 G90 => (0 ≤ r91 ∧ r91 ≤ 1) → ((r91 = 0 → PX5_resolve_240 J o l1 l2 l3 l4 l5 r86 G90 Q) ∧ (¬ (r91 = 0) → Q (r86) G90)))))))))))))))))))))))))) ∧ (¬ (l5 < l4) → Q (-1) G))
set_option maxRecDepth 20000 in
theorem TX5_resolve_174 {j : Nat → rx_K} {J : Nat → List Int → gS → (Int → gS → Prop) → Prop} {o : Int} {l1 : Int} {l2 : Int} {l3 : Int} {l4 : Int} {l5 : Int} {l6 : Nat} {G : gS} {Q : Int → gS → Prop} (hl1 : inI l1) (hl3 : inI l3) (hl4 : inI l4) (hl5 : inI l5) (hl6 : l6 % 8 ≠ 1) (hj0 : ∀ (o : Int) (l1 : Int) (l2 : Int) (l3 : Int) (l4 : Int) (l5 : Nat) (l6 : Nat) (G : gS), (inI l1) → (inI l3) → (inI l4) → (l5 % 8 ≠ 1) → (l6 % 8 ≠ 1) → J 0 [o, l1, l2, l3, l4] G Q → Tg W0 (j 0) [rf (o), cI (l1), rf (l2), cI (l3), cI (l4), l5, l6] [] G (fun r G => ∃ v, r = rf v ∧ Q v G)) (hj1 : ∀ (o : Int) (l1 : Int) (l2 : Int) (l3 : Int) (l4 : Int) (l5 : Int) (l6 : Nat) (G : gS), (inI l1) → (inI l3) → (inI l4) → (inI l5) → (l6 % 8 ≠ 1) → J 1 [o, l1, l2, l3, l4, l5] G Q → Tg W0 (j 1) [rf (o), cI (l1), rf (l2), cI (l3), cI (l4), cI (l5), l6] [] G (fun r G => ∃ v, r = rf v ∧ Q v G)) (hj2 : ∀ (o : Int) (l1 : Int) (l2 : Int) (l3 : Int) (l4 : Int) (l5 : Int) (l6 : Nat) (G : gS), (inI l1) → (inI l3) → (inI l4) → (inI l5) → (l6 % 8 ≠ 1) → J 2 [o, l1, l2, l3, l4, l5] G Q → Tg W0 (j 2) [rf (o), cI (l1), rf (l2), cI (l3), cI (l4), cI (l5), l6] [] G (fun r G => ∃ v, r = rf v ∧ Q v G)) (h : PX5_resolve_174 J o l1 l2 l3 l4 l5 G Q) : Tg W0 (vX5_resolve_174 j) [rf (o), cI (l1), rf (l2), cI (l3), cI (l4), cI (l5), l6] [] G (fun r G => ∃ v, r = rf v ∧ Q v G) := by
  unfold PX5_resolve_174 at h
  unfold vX5_resolve_174
  refine g_ld (v := cI _) rfl (is_I _) ?_
  refine g_ld (v := cI _) rfl (is_I _) ?_
  refine g_lt2 hl5 hl4 (fun b66 => ?_) (fun b66 => ?_)
  · replace h := h.1 b66
    unfold vX5_resolve_181
    refine g_ld (v := rf _) rfl (is_R _) ?_
    obtain ⟨q67, h⟩ := h
    refine g_getR (kz := 0) (c := 11) q67 rfl (Nat.le_of_ble_eq_true rfl) rfl (by decide) fun i68 => ?_
    replace h := h i68
    refine g_ld (v := rf _) rfl (is_R _) ?_
    refine g_getR (kz := 0) (c := 11) q67 rfl (Nat.le_of_ble_eq_true rfl) rfl (by decide) fun i69 => ?_
    replace h := h i69
    obtain ⟨q70, h⟩ := h
    refine g_getF q70 (ff11_10 q70).1 rfl (Nat.le_of_ble_eq_true rfl) (Nat.le_of_ble_eq_true rfl) ?_
    refine g_ld (v := cI _) rfl (is_I _) ?_
    refine g_const (v := cI (64)) rfl ?_
    refine g_mul ?_
    refine g_ld (v := cI _) rfl (is_I _) ?_
    refine g_add ?_
    obtain ⟨q71, q72, h⟩ := h
    refine g_aldI (ff11_10 q70).2 q71 q72 rfl fun i73 => ?_
    replace h := h i73
    obtain ⟨q74, h⟩ := h
    refine g_putI (kz := 18) q74 rfl (Nat.le_of_ble_eq_true rfl) rfl i73 (nf11_18 q74) ?_
    replace h := h _ rfl
    refine g_ld (v := rf _) rfl (is_R _) ?_
    refine g_getR (kz := 0) (c := 11) q67 rfl (Nat.le_of_ble_eq_true rfl) rfl (by decide) fun i76 => ?_
    replace h := h i76
    obtain ⟨q77, h⟩ := h
    refine g_getF q77 (ff11_1 q77).1 rfl (Nat.le_of_ble_eq_true rfl) (Nat.le_of_ble_eq_true rfl) ?_
    refine g_ld (v := rf _) rfl (is_R _) ?_
    refine g_getR (kz := 0) (c := 11) q67 rfl (Nat.le_of_ble_eq_true rfl) rfl (by decide) fun i78 => ?_
    replace h := h i78
    obtain ⟨q79, h⟩ := h
    refine g_getI (kz := 18) q79 rfl (Nat.le_of_ble_eq_true rfl) rfl fun i80 => ?_
    replace h := h i80
    obtain ⟨q81, q82, h⟩ := h
    refine g_aldRF (c := 10) (ff11_1 q77).2 q81 q82 rfl (by decide) fun i83 => ?_
    replace h := h i83
    refine g_ld (v := rf _) rfl (is_R _) ?_
    obtain ⟨q84, h⟩ := h
    refine g_callV (As := [_]) (ci := 10) q84 (fun _ => rfl) ?_
    refine g_go1 (Nat.le_of_ble_eq_true rfl) (Tn_w (TX10_method  h) fun _ G85 ⟨r86, e, h⟩ => ?_)
    subst e
    refine ⟨n7_R _, ?_⟩
    refine g_st (lv' := [_, _, _, _, _, _, _]) (is_R _) (Nat.le_of_ble_eq_true rfl) (Or.inr (n1_I _)) rfl ?_
    refine g_ld (v := rf _) rfl (is_R _) ?_
    refine g_nul (fun b88 => ?_) (fun b88 => ?_)
    · replace h := h.1 b88
      exact TX5_resolve_240 hl1 hl3 hl4 hl5 hj0 hj1 hj2 h
    · replace h := h.2 b88
      unfold vX5_resolve_229
      refine g_ld (v := rf _) rfl (is_R _) ?_
      obtain ⟨q89, h⟩ := h
      refine g_callV (As := []) (ci := 7) q89 (fun _ => rfl) ?_
      refine g_go1 (Nat.le_of_ble_eq_true rfl) (Tn_w (TX7_ofObjects  h) fun _ G90 ⟨r91, e, i92, h⟩ => ?_)
      subst e
      refine ⟨n7_I _, ?_⟩
      replace h := h i92
      refine g_eq1 ⟨by omega, by omega⟩ (fun b93 => ?_) (fun b93 => ?_)
      · replace h := h.1 b93
        exact TX5_resolve_240 hl1 hl3 hl4 hl5 hj0 hj1 hj2 h
      · replace h := h.2 b93
        unfold vX5_resolve_237
        refine g_ld (v := rf _) rfl (is_R _) ?_
        exact g_ret1 (is_R _) ⟨_, rfl, h⟩
  · replace h := h.2 b66
    unfold vX5_resolve_246
    refine g_const (v := rf (-1)) rfl ?_
    exact g_ret1 (is_R _) ⟨_, rfl, h⟩
def PX5_resolve_103 (J : Nat → List Int → gS → (Int → gS → Prop) → Prop) (o : Int) (l1 : Int) (l2 : Int) (l3 : Int) (l4 : Int) (l5 : Int) (G : gS) (Q : Int → gS → Prop) : Prop :=
  ((l5 < l4 → (isO W0 5 (o) ∧ (inI (G o 16) → ((G o 0 = -1 ∨ isO W0 11 (G o 0)) → (isO W0 11 (G o 0) ∧ ((0 : Int) ≤ (l1 * 64) + l5 ∧ (((l1 * 64) + l5 : Int) < 4096 ∧ (inI (G ((G o 0) + 9) ((l1 * 64) + l5)) → ((0 : Int) ≤ G o 16 ∧ ((G o 16 : Int) < 130 ∧ (∀ G51 : gS, G51 = uG G (o + 9) (G o 16) (G ((G o 0) + 9) ((l1 * 64) + l5)) → (inI (G51 o 16) → (inI ((G51 o 16) + 1) ∧ (∀ G54 : gS, G54 = uG G51 o 16 ((G51 o 16) + 1) → (inI (l5 + 1) ∧ J 1 [o, l1, l2, l3, l4, l5 + 1] G54 Q))))))))))))))) ∧ (¬ (l5 < l4) → (isO W0 5 (o) ∧ ((G o 0 = -1 ∨ isO W0 11 (G o 0)) → (isO W0 11 (G o 0) ∧ PX11_mostSpecial (G o 0) l1 l2 G (fun r60 G59 => inI r60 → ((r60 = 1 → ((G59 o 0 = -1 ∨ isO W0 11 (G59 o 0)) → (isO W0 11 (G59 o 0) ∧ ((G59 (G59 o 0) 17 = -1 ∨ isO W0 7 (G59 (G59 o 0) 17)) → Q (G59 (G59 o 0) 17) G59)))) ∧ (¬ (r60 = 1) → PX5_resolve_174 J o l1 l2 l3 l4 0 G59 Q))))))))
set_option maxRecDepth 20000 in
theorem TX5_resolve_103 {j : Nat → rx_K} {J : Nat → List Int → gS → (Int → gS → Prop) → Prop} {o : Int} {l1 : Int} {l2 : Int} {l3 : Int} {l4 : Int} {l5 : Int} {l6 : Nat} {G : gS} {Q : Int → gS → Prop} (hl1 : inI l1) (hl3 : inI l3) (hl4 : inI l4) (hl5 : inI l5) (hl6 : l6 % 8 ≠ 1) (hj0 : ∀ (o : Int) (l1 : Int) (l2 : Int) (l3 : Int) (l4 : Int) (l5 : Nat) (l6 : Nat) (G : gS), (inI l1) → (inI l3) → (inI l4) → (l5 % 8 ≠ 1) → (l6 % 8 ≠ 1) → J 0 [o, l1, l2, l3, l4] G Q → Tg W0 (j 0) [rf (o), cI (l1), rf (l2), cI (l3), cI (l4), l5, l6] [] G (fun r G => ∃ v, r = rf v ∧ Q v G)) (hj1 : ∀ (o : Int) (l1 : Int) (l2 : Int) (l3 : Int) (l4 : Int) (l5 : Int) (l6 : Nat) (G : gS), (inI l1) → (inI l3) → (inI l4) → (inI l5) → (l6 % 8 ≠ 1) → J 1 [o, l1, l2, l3, l4, l5] G Q → Tg W0 (j 1) [rf (o), cI (l1), rf (l2), cI (l3), cI (l4), cI (l5), l6] [] G (fun r G => ∃ v, r = rf v ∧ Q v G)) (hj2 : ∀ (o : Int) (l1 : Int) (l2 : Int) (l3 : Int) (l4 : Int) (l5 : Int) (l6 : Nat) (G : gS), (inI l1) → (inI l3) → (inI l4) → (inI l5) → (l6 % 8 ≠ 1) → J 2 [o, l1, l2, l3, l4, l5] G Q → Tg W0 (j 2) [rf (o), cI (l1), rf (l2), cI (l3), cI (l4), cI (l5), l6] [] G (fun r G => ∃ v, r = rf v ∧ Q v G)) (h : PX5_resolve_103 J o l1 l2 l3 l4 l5 G Q) : Tg W0 (vX5_resolve_103 j) [rf (o), cI (l1), rf (l2), cI (l3), cI (l4), cI (l5), l6] [] G (fun r G => ∃ v, r = rf v ∧ Q v G) := by
  unfold PX5_resolve_103 at h
  unfold vX5_resolve_103
  refine g_ld (v := cI _) rfl (is_I _) ?_
  refine g_ld (v := cI _) rfl (is_I _) ?_
  refine g_lt2 hl5 hl4 (fun b41 => ?_) (fun b41 => ?_)
  · replace h := h.1 b41
    unfold vX5_resolve_110
    refine g_ld (v := rf _) rfl (is_R _) ?_
    obtain ⟨q42, h⟩ := h
    refine g_getF q42 (ff5_15 q42).1 rfl (Nat.le_of_ble_eq_true rfl) (Nat.le_of_ble_eq_true rfl) ?_
    refine g_ld (v := rf _) rfl (is_R _) ?_
    refine g_getI (kz := 16) q42 rfl (Nat.le_of_ble_eq_true rfl) rfl fun i43 => ?_
    replace h := h i43
    refine g_ld (v := rf _) rfl (is_R _) ?_
    refine g_getR (kz := 0) (c := 11) q42 rfl (Nat.le_of_ble_eq_true rfl) rfl (by decide) fun i44 => ?_
    replace h := h i44
    obtain ⟨q45, h⟩ := h
    refine g_getF q45 (ff11_10 q45).1 rfl (Nat.le_of_ble_eq_true rfl) (Nat.le_of_ble_eq_true rfl) ?_
    refine g_ld (v := cI _) rfl (is_I _) ?_
    refine g_const (v := cI (64)) rfl ?_
    refine g_mul ?_
    refine g_ld (v := cI _) rfl (is_I _) ?_
    refine g_add ?_
    obtain ⟨q46, q47, h⟩ := h
    refine g_aldI (ff11_10 q45).2 q46 q47 rfl fun i48 => ?_
    replace h := h i48
    obtain ⟨q49, q50, h⟩ := h
    refine g_astI (ff5_15 q42).2 q49 q50 i48 (nfI (ff5_15 q42).2) ?_
    replace h := h _ rfl
    refine g_ld (v := rf _) rfl (is_R _) ?_
    refine g_dup (ct_R _) ?_
    refine g_getI (kz := 16) q42 rfl (Nat.le_of_ble_eq_true rfl) rfl fun i52 => ?_
    replace h := h i52
    refine g_const (v := cI (1)) rfl ?_
    refine g_add ?_
    obtain ⟨q53, h⟩ := h
    refine g_putI (kz := 16) q42 rfl (Nat.le_of_ble_eq_true rfl) rfl q53 (nf5_16 q42) ?_
    replace h := h _ rfl
    refine g_inc (lv' := [_, _, _, _, _, _, _]) rfl (Nat.le_of_ble_eq_true rfl) (Or.inr (n1_I _)) rfl ?_
    obtain ⟨q55, h⟩ := h
    exact hj1 _ _ _ _ _ _ _ _ hl1 hl3 hl4 q55 hl6 h
  · replace h := h.2 b41
    unfold vX5_resolve_150
    refine g_ld (v := rf _) rfl (is_R _) ?_
    obtain ⟨q56, h⟩ := h
    refine g_getR (kz := 0) (c := 11) q56 rfl (Nat.le_of_ble_eq_true rfl) rfl (by decide) fun i57 => ?_
    replace h := h i57
    refine g_ld (v := cI _) rfl (is_I _) ?_
    refine g_ld (v := rf _) rfl (is_R _) ?_
    obtain ⟨q58, h⟩ := h
    refine g_callV (As := [_, _]) (ci := 11) q58 (fun _ => rfl) ?_
    refine g_go1 (Nat.le_of_ble_eq_true rfl) (Tn_w (TX11_mostSpecial hl1 h) fun _ G59 ⟨r60, e, i61, h⟩ => ?_)
    subst e
    refine ⟨n7_I _, ?_⟩
    replace h := h i61
    refine g_const (v := cI (1)) rfl ?_
    refine g_eq2 i61 ⟨by omega, by omega⟩ (fun b62 => ?_) (fun b62 => ?_)
    · replace h := h.1 b62
      unfold vX5_resolve_163
      refine g_ld (v := rf _) rfl (is_R _) ?_
      refine g_getR (kz := 0) (c := 11) q56 rfl (Nat.le_of_ble_eq_true rfl) rfl (by decide) fun i63 => ?_
      replace h := h i63
      obtain ⟨q64, h⟩ := h
      refine g_getR (kz := 17) (c := 7) q64 rfl (Nat.le_of_ble_eq_true rfl) rfl (by decide) fun i65 => ?_
      replace h := h i65
      exact g_ret1 (is_R _) ⟨_, rfl, h⟩
    · replace h := h.2 b62
      unfold vX5_resolve_171
      refine g_const (v := cI (0)) rfl ?_
      refine g_st (lv' := [_, _, _, _, _, _, _]) (is_I _) (Nat.le_of_ble_eq_true rfl) (Or.inr (n1_I _)) rfl ?_
      exact TX5_resolve_174 hl1 hl3 hl4 ⟨by omega, by omega⟩ hl6 hj0 hj1 hj2 h
def PX5_resolve_90 (J : Nat → List Int → gS → (Int → gS → Prop) → Prop) (o : Int) (l1 : Int) (l2 : Int) (l3 : Int) (l4 : Int) (G : gS) (Q : Int → gS → Prop) : Prop :=
  (isO W0 5 (o) ∧ ((G o 0 = -1 ∨ isO W0 11 (G o 0)) → (isO W0 11 (G o 0) ∧ PX11_faces (G o 0) l1 G (fun r39 G38 => inI r39 → PX5_resolve_103 J o l1 l2 l3 r39 0 G38 Q))))
set_option maxRecDepth 20000 in
theorem TX5_resolve_90 {j : Nat → rx_K} {J : Nat → List Int → gS → (Int → gS → Prop) → Prop} {o : Int} {l1 : Int} {l2 : Int} {l3 : Int} {l4 : Int} {l5 : Nat} {l6 : Nat} {G : gS} {Q : Int → gS → Prop} (hl1 : inI l1) (hl3 : inI l3) (hl4 : inI l4) (hl5 : l5 % 8 ≠ 1) (hl6 : l6 % 8 ≠ 1) (hj0 : ∀ (o : Int) (l1 : Int) (l2 : Int) (l3 : Int) (l4 : Int) (l5 : Nat) (l6 : Nat) (G : gS), (inI l1) → (inI l3) → (inI l4) → (l5 % 8 ≠ 1) → (l6 % 8 ≠ 1) → J 0 [o, l1, l2, l3, l4] G Q → Tg W0 (j 0) [rf (o), cI (l1), rf (l2), cI (l3), cI (l4), l5, l6] [] G (fun r G => ∃ v, r = rf v ∧ Q v G)) (hj1 : ∀ (o : Int) (l1 : Int) (l2 : Int) (l3 : Int) (l4 : Int) (l5 : Int) (l6 : Nat) (G : gS), (inI l1) → (inI l3) → (inI l4) → (inI l5) → (l6 % 8 ≠ 1) → J 1 [o, l1, l2, l3, l4, l5] G Q → Tg W0 (j 1) [rf (o), cI (l1), rf (l2), cI (l3), cI (l4), cI (l5), l6] [] G (fun r G => ∃ v, r = rf v ∧ Q v G)) (hj2 : ∀ (o : Int) (l1 : Int) (l2 : Int) (l3 : Int) (l4 : Int) (l5 : Int) (l6 : Nat) (G : gS), (inI l1) → (inI l3) → (inI l4) → (inI l5) → (l6 % 8 ≠ 1) → J 2 [o, l1, l2, l3, l4, l5] G Q → Tg W0 (j 2) [rf (o), cI (l1), rf (l2), cI (l3), cI (l4), cI (l5), l6] [] G (fun r G => ∃ v, r = rf v ∧ Q v G)) (h : PX5_resolve_90 J o l1 l2 l3 l4 G Q) : Tg W0 (vX5_resolve_90 j) [rf (o), cI (l1), rf (l2), cI (l3), cI (l4), l5, l6] [] G (fun r G => ∃ v, r = rf v ∧ Q v G) := by
  unfold PX5_resolve_90 at h
  unfold vX5_resolve_90
  refine g_ld (v := rf _) rfl (is_R _) ?_
  obtain ⟨q35, h⟩ := h
  refine g_getR (kz := 0) (c := 11) q35 rfl (Nat.le_of_ble_eq_true rfl) rfl (by decide) fun i36 => ?_
  replace h := h i36
  refine g_ld (v := cI _) rfl (is_I _) ?_
  obtain ⟨q37, h⟩ := h
  refine g_callV (As := [_]) (ci := 11) q37 (fun _ => rfl) ?_
  refine g_go1 (Nat.le_of_ble_eq_true rfl) (Tn_w (TX11_faces hl1 h) fun _ G38 ⟨r39, e, i40, h⟩ => ?_)
  subst e
  refine ⟨n7_I _, ?_⟩
  replace h := h i40
  refine g_st (lv' := [_, _, _, _, _, _, _]) (is_I _) (Nat.le_of_ble_eq_true rfl) (Or.inr (n1_I _)) rfl ?_
  refine g_const (v := cI (0)) rfl ?_
  refine g_st (lv' := [_, _, _, _, _, _, _]) (is_I _) (Nat.le_of_ble_eq_true rfl) (Or.inr (n1_I _)) rfl ?_
  exact TX5_resolve_103 hl1 hl3 i40 ⟨by omega, by omega⟩ hl6 hj0 hj1 hj2 h
def PX5_resolve_5 (J : Nat → List Int → gS → (Int → gS → Prop) → Prop) (o : Int) (l1 : Int) (l2 : Int) (l3 : Int) (l4 : Int) (G : gS) (Q : Int → gS → Prop) : Prop :=
  (isO W0 5 (o) ∧ ((G o 0 = -1 ∨ isO W0 11 (G o 0)) → (isO W0 11 (G o 0) ∧ ((0 : Int) ≤ l1 ∧ ((l1 : Int) < 64 ∧ (inI (G ((G o 0) + 3) l1) → ((G ((G o 0) + 3) l1 < l4 → PX5_resolve_90 J o l1 l2 l3 l4 G Q) ∧ (¬ (G ((G o 0) + 3) l1 < l4) → ((l3 < 0 → PX5_resolve_90 J o l1 l2 l3 l4 G Q) ∧ (¬ (l3 < 0) → (inI (G o 16) → ((0 : Int) ≤ G o 16 ∧ ((G o 16 : Int) < 130 ∧ (∀ G12 : gS, G12 = uG G (o + 9) (G o 16) (l3) → (inI (G12 o 16) → (inI ((G12 o 16) + 1) ∧ (∀ G15 : gS, G15 = uG G12 o 16 ((G12 o 16) + 1) → ((G15 o 0 = -1 ∨ isO W0 11 (G15 o 0)) → (isO W0 11 (G15 o 0) ∧ ((0 : Int) ≤ l3 ∧ ((l3 : Int) < 64 ∧ (((G15 ((G15 o 0) + 1) l3 = -1 ∨ isO W0 10 (G15 ((G15 o 0) + 1) l3)) ∧ ∀ v, W0.2 ((G15 o 0) + 1) l3 = some v → G15 ((G15 o 0) + 1) l3 = v) → (isO W0 10 (G15 ((G15 o 0) + 1) l3) ∧ PX10_method (G15 ((G15 o 0) + 1) l3) l2 G15 (fun r23 G22 => ((r23 < 0 → ((G22 o 0 = -1 ∨ isO W0 11 (G22 o 0)) → (isO W0 11 (G22 o 0) ∧ ((0 : Int) ≤ l3 ∧ ((l3 : Int) < 64 ∧ (inI (G22 ((G22 o 0) + 2) l3) → (inI (l4 + 1) ∧ J 0 [o, l1, l2, G22 ((G22 o 0) + 2) l3, l4 + 1] G22 Q))))))) ∧ (0 ≤ r23 → ((G22 o 0 = -1 ∨ isO W0 11 (G22 o 0)) → (isO W0 11 (G22 o 0) ∧ (∀ G34 : gS, G34 = uG G22 (G22 o 0) 18 (l3) → Q (r23) G34)))))))))))))))))))))))))))))
set_option maxRecDepth 20000 in
theorem TX5_resolve_5 {j : Nat → rx_K} {J : Nat → List Int → gS → (Int → gS → Prop) → Prop} {o : Int} {l1 : Int} {l2 : Int} {l3 : Int} {l4 : Int} {l5 : Nat} {l6 : Nat} {G : gS} {Q : Int → gS → Prop} (hl1 : inI l1) (hl3 : inI l3) (hl4 : inI l4) (hl5 : l5 % 8 ≠ 1) (hl6 : l6 % 8 ≠ 1) (hj0 : ∀ (o : Int) (l1 : Int) (l2 : Int) (l3 : Int) (l4 : Int) (l5 : Nat) (l6 : Nat) (G : gS), (inI l1) → (inI l3) → (inI l4) → (l5 % 8 ≠ 1) → (l6 % 8 ≠ 1) → J 0 [o, l1, l2, l3, l4] G Q → Tg W0 (j 0) [rf (o), cI (l1), rf (l2), cI (l3), cI (l4), l5, l6] [] G (fun r G => ∃ v, r = rf v ∧ Q v G)) (hj1 : ∀ (o : Int) (l1 : Int) (l2 : Int) (l3 : Int) (l4 : Int) (l5 : Int) (l6 : Nat) (G : gS), (inI l1) → (inI l3) → (inI l4) → (inI l5) → (l6 % 8 ≠ 1) → J 1 [o, l1, l2, l3, l4, l5] G Q → Tg W0 (j 1) [rf (o), cI (l1), rf (l2), cI (l3), cI (l4), cI (l5), l6] [] G (fun r G => ∃ v, r = rf v ∧ Q v G)) (hj2 : ∀ (o : Int) (l1 : Int) (l2 : Int) (l3 : Int) (l4 : Int) (l5 : Int) (l6 : Nat) (G : gS), (inI l1) → (inI l3) → (inI l4) → (inI l5) → (l6 % 8 ≠ 1) → J 2 [o, l1, l2, l3, l4, l5] G Q → Tg W0 (j 2) [rf (o), cI (l1), rf (l2), cI (l3), cI (l4), cI (l5), l6] [] G (fun r G => ∃ v, r = rf v ∧ Q v G)) (h : PX5_resolve_5 J o l1 l2 l3 l4 G Q) : Tg W0 (vX5_resolve_5 j) [rf (o), cI (l1), rf (l2), cI (l3), cI (l4), l5, l6] [] G (fun r G => ∃ v, r = rf v ∧ Q v G) := by
  unfold PX5_resolve_5 at h
  unfold vX5_resolve_5
  refine g_ld (v := cI _) rfl (is_I _) ?_
  refine g_ld (v := rf _) rfl (is_R _) ?_
  obtain ⟨q1, h⟩ := h
  refine g_getR (kz := 0) (c := 11) q1 rfl (Nat.le_of_ble_eq_true rfl) rfl (by decide) fun i2 => ?_
  replace h := h i2
  obtain ⟨q3, h⟩ := h
  refine g_getF q3 (ff11_4 q3).1 rfl (Nat.le_of_ble_eq_true rfl) (Nat.le_of_ble_eq_true rfl) ?_
  refine g_ld (v := cI _) rfl (is_I _) ?_
  obtain ⟨q4, q5, h⟩ := h
  refine g_aldI (ff11_4 q3).2 q4 q5 rfl fun i6 => ?_
  replace h := h i6
  refine g_gt2 hl4 i6 (fun b7 => ?_) (fun b7 => ?_)
  · replace h := h.1 b7
    exact TX5_resolve_90 hl1 hl3 hl4 hl5 hl6 hj0 hj1 hj2 h
  · replace h := h.2 b7
    unfold vX5_resolve_19
    refine g_ld (v := cI _) rfl (is_I _) ?_
    refine g_lt1 hl3 (fun b8 => ?_) (fun b8 => ?_)
    · replace h := h.1 b8
      exact TX5_resolve_90 hl1 hl3 hl4 hl5 hl6 hj0 hj1 hj2 h
    · replace h := h.2 b8
      unfold vX5_resolve_23
      refine g_ld (v := rf _) rfl (is_R _) ?_
      refine g_getF q1 (ff5_15 q1).1 rfl (Nat.le_of_ble_eq_true rfl) (Nat.le_of_ble_eq_true rfl) ?_
      refine g_ld (v := rf _) rfl (is_R _) ?_
      refine g_getI (kz := 16) q1 rfl (Nat.le_of_ble_eq_true rfl) rfl fun i9 => ?_
      replace h := h i9
      refine g_ld (v := cI _) rfl (is_I _) ?_
      obtain ⟨q10, q11, h⟩ := h
      refine g_astI (ff5_15 q1).2 q10 q11 hl3 (nfI (ff5_15 q1).2) ?_
      replace h := h _ rfl
      refine g_ld (v := rf _) rfl (is_R _) ?_
      refine g_dup (ct_R _) ?_
      refine g_getI (kz := 16) q1 rfl (Nat.le_of_ble_eq_true rfl) rfl fun i13 => ?_
      replace h := h i13
      refine g_const (v := cI (1)) rfl ?_
      refine g_add ?_
      obtain ⟨q14, h⟩ := h
      refine g_putI (kz := 16) q1 rfl (Nat.le_of_ble_eq_true rfl) rfl q14 (nf5_16 q1) ?_
      replace h := h _ rfl
      refine g_ld (v := rf _) rfl (is_R _) ?_
      refine g_getR (kz := 0) (c := 11) q1 rfl (Nat.le_of_ble_eq_true rfl) rfl (by decide) fun i16 => ?_
      replace h := h i16
      obtain ⟨q17, h⟩ := h
      refine g_getF q17 (ff11_1 q17).1 rfl (Nat.le_of_ble_eq_true rfl) (Nat.le_of_ble_eq_true rfl) ?_
      refine g_ld (v := cI _) rfl (is_I _) ?_
      obtain ⟨q18, q19, h⟩ := h
      refine g_aldRF (c := 10) (ff11_1 q17).2 q18 q19 rfl (by decide) fun i20 => ?_
      replace h := h i20
      refine g_ld (v := rf _) rfl (is_R _) ?_
      obtain ⟨q21, h⟩ := h
      refine g_callV (As := [_]) (ci := 10) q21 (fun _ => rfl) ?_
      refine g_go1 (Nat.le_of_ble_eq_true rfl) (Tn_w (TX10_method  h) fun _ G22 ⟨r23, e, h⟩ => ?_)
      subst e
      refine ⟨n7_R _, ?_⟩
      refine g_st (lv' := [_, _, _, _, _, _, _]) (is_R _) (Nat.le_of_ble_eq_true rfl) (Or.inr (n1_I _)) rfl ?_
      refine g_ld (v := rf _) rfl (is_R _) ?_
      refine g_nul (fun b25 => ?_) (fun b25 => ?_)
      · replace h := h.1 b25
        unfold vX5_resolve_74
        refine g_ld (v := rf _) rfl (is_R _) ?_
        refine g_getR (kz := 0) (c := 11) q1 rfl (Nat.le_of_ble_eq_true rfl) rfl (by decide) fun i26 => ?_
        replace h := h i26
        obtain ⟨q27, h⟩ := h
        refine g_getF q27 (ff11_3 q27).1 rfl (Nat.le_of_ble_eq_true rfl) (Nat.le_of_ble_eq_true rfl) ?_
        refine g_ld (v := cI _) rfl (is_I _) ?_
        obtain ⟨q28, q29, h⟩ := h
        refine g_aldI (ff11_3 q27).2 q28 q29 rfl fun i30 => ?_
        replace h := h i30
        refine g_st (lv' := [_, _, _, _, _, _, _]) (is_I _) (Nat.le_of_ble_eq_true rfl) (Or.inr (n1_R _)) rfl ?_
        refine g_inc (lv' := [_, _, _, _, _, _, _]) rfl (Nat.le_of_ble_eq_true rfl) (Or.inr (n1_I _)) rfl ?_
        obtain ⟨q31, h⟩ := h
        exact hj0 _ _ _ _ _ _ _ _ hl1 i30 q31 (n1_R _) hl6 h
      · replace h := h.2 b25
        unfold vX5_resolve_63
        refine g_ld (v := rf _) rfl (is_R _) ?_
        refine g_getR (kz := 0) (c := 11) q1 rfl (Nat.le_of_ble_eq_true rfl) rfl (by decide) fun i32 => ?_
        replace h := h i32
        refine g_ld (v := cI _) rfl (is_I _) ?_
        obtain ⟨q33, h⟩ := h
        refine g_putI (kz := 18) q33 rfl (Nat.le_of_ble_eq_true rfl) rfl hl3 (nf11_18 q33) ?_
        replace h := h _ rfl
        refine g_ld (v := rf _) rfl (is_R _) ?_
        exact g_ret1 (is_R _) ⟨_, rfl, h⟩
def PX5_resolve_0 (J : Nat → List Int → gS → (Int → gS → Prop) → Prop) (o : Int) (a1 : Int) (a2 : Int) (G : gS) (Q : Int → gS → Prop) : Prop :=
  PX5_resolve_5 J o a1 a2 a1 0 G Q
set_option maxRecDepth 20000 in
theorem TX5_resolve_0 {j : Nat → rx_K} {J : Nat → List Int → gS → (Int → gS → Prop) → Prop} {o : Int} {a1 : Int} {a2 : Int} {G : gS} {Q : Int → gS → Prop} (ha1 : inI a1) (hj0 : ∀ (o : Int) (l1 : Int) (l2 : Int) (l3 : Int) (l4 : Int) (l5 : Nat) (l6 : Nat) (G : gS), (inI l1) → (inI l3) → (inI l4) → (l5 % 8 ≠ 1) → (l6 % 8 ≠ 1) → J 0 [o, l1, l2, l3, l4] G Q → Tg W0 (j 0) [rf (o), cI (l1), rf (l2), cI (l3), cI (l4), l5, l6] [] G (fun r G => ∃ v, r = rf v ∧ Q v G)) (hj1 : ∀ (o : Int) (l1 : Int) (l2 : Int) (l3 : Int) (l4 : Int) (l5 : Int) (l6 : Nat) (G : gS), (inI l1) → (inI l3) → (inI l4) → (inI l5) → (l6 % 8 ≠ 1) → J 1 [o, l1, l2, l3, l4, l5] G Q → Tg W0 (j 1) [rf (o), cI (l1), rf (l2), cI (l3), cI (l4), cI (l5), l6] [] G (fun r G => ∃ v, r = rf v ∧ Q v G)) (hj2 : ∀ (o : Int) (l1 : Int) (l2 : Int) (l3 : Int) (l4 : Int) (l5 : Int) (l6 : Nat) (G : gS), (inI l1) → (inI l3) → (inI l4) → (inI l5) → (l6 % 8 ≠ 1) → J 2 [o, l1, l2, l3, l4, l5] G Q → Tg W0 (j 2) [rf (o), cI (l1), rf (l2), cI (l3), cI (l4), cI (l5), l6] [] G (fun r G => ∃ v, r = rf v ∧ Q v G)) (h : PX5_resolve_0 J o a1 a2 G Q) : Tg W0 (vX5_resolve_0 j) [rf (o), cI (a1), rf (a2), 7, 7, 7, 7] [] G (fun r G => ∃ v, r = rf v ∧ Q v G) := by
  unfold PX5_resolve_0 at h
  unfold vX5_resolve_0
  refine g_ld (v := cI _) rfl (is_I _) ?_
  refine g_st (lv' := [_, _, _, _, _, _, _]) (is_I _) (Nat.le_of_ble_eq_true rfl) (Or.inr (n1_R _)) rfl ?_
  refine g_const (v := cI (0)) rfl ?_
  refine g_st (lv' := [_, _, _, _, _, _, _]) (is_I _) (Nat.le_of_ble_eq_true rfl) (Or.inr (n1_I _)) rfl ?_
  exact TX5_resolve_5 ha1 ha1 ⟨by omega, by omega⟩ (show 7 % 8 ≠ 1 by decide) (show 7 % 8 ≠ 1 by decide) hj0 hj1 hj2 h
def PX5_resolve_J : Nat → Nat → List Int → gS → (Int → gS → Prop) → Prop
  | 0, _, _, _, _ => False
  | f + 1, h, L, G, Q => match h, L with
    | 0, [o, l1, l2, l3, l4] => PX5_resolve_5 (PX5_resolve_J f) o l1 l2 l3 l4 G Q
    | 1, [o, l1, l2, l3, l4, l5] => PX5_resolve_103 (PX5_resolve_J f) o l1 l2 l3 l4 l5 G Q
    | 2, [o, l1, l2, l3, l4, l5] => PX5_resolve_174 (PX5_resolve_J f) o l1 l2 l3 l4 l5 G Q
    | _, _ => False
theorem TX5_resolve_J {Q : Int → gS → Prop} : ∀ f N : Nat, f ≤ N → (∀ (o : Int) (l1 : Int) (l2 : Int) (l3 : Int) (l4 : Int) (l5 : Nat) (l6 : Nat) (G : gS), (inI l1) → (inI l3) → (inI l4) → (l5 % 8 ≠ 1) → (l6 % 8 ≠ 1) → (PX5_resolve_J f) 0 [o, l1, l2, l3, l4] G Q → Tg W0 (rx_J vhX5_resolve N 0) [rf (o), cI (l1), rf (l2), cI (l3), cI (l4), l5, l6] [] G (fun r G => ∃ v, r = rf v ∧ Q v G)) ∧ (∀ (o : Int) (l1 : Int) (l2 : Int) (l3 : Int) (l4 : Int) (l5 : Int) (l6 : Nat) (G : gS), (inI l1) → (inI l3) → (inI l4) → (inI l5) → (l6 % 8 ≠ 1) → (PX5_resolve_J f) 1 [o, l1, l2, l3, l4, l5] G Q → Tg W0 (rx_J vhX5_resolve N 1) [rf (o), cI (l1), rf (l2), cI (l3), cI (l4), cI (l5), l6] [] G (fun r G => ∃ v, r = rf v ∧ Q v G)) ∧ (∀ (o : Int) (l1 : Int) (l2 : Int) (l3 : Int) (l4 : Int) (l5 : Int) (l6 : Nat) (G : gS), (inI l1) → (inI l3) → (inI l4) → (inI l5) → (l6 % 8 ≠ 1) → (PX5_resolve_J f) 2 [o, l1, l2, l3, l4, l5] G Q → Tg W0 (rx_J vhX5_resolve N 2) [rf (o), cI (l1), rf (l2), cI (l3), cI (l4), cI (l5), l6] [] G (fun r G => ∃ v, r = rf v ∧ Q v G)) := by
  intro f
  induction f with
  | zero => exact fun N _ => ⟨fun _ _ _ _ _ _ _ _ _ _ _ _ _ h => h.elim, fun _ _ _ _ _ _ _ _ _ _ _ _ _ h => h.elim, fun _ _ _ _ _ _ _ _ _ _ _ _ _ h => h.elim⟩
  | succ f ih =>
    intro N hN
    obtain ⟨M, rfl⟩ : ∃ M, N = M + 1 := ⟨N - 1, by omega⟩
    have ih := ih M (by omega)
    exact ⟨fun _ _ _ _ _ _ _ _ hl1 hl3 hl4 hl5 hl6 h => show Tg W0 (vX5_resolve_5 (rx_J vhX5_resolve M)) _ _ _ _ from TX5_resolve_5 hl1 hl3 hl4 hl5 hl6 ih.1 ih.2.1 ih.2.2 h, fun _ _ _ _ _ _ _ _ hl1 hl3 hl4 hl5 hl6 h => show Tg W0 (vX5_resolve_103 (rx_J vhX5_resolve M)) _ _ _ _ from TX5_resolve_103 hl1 hl3 hl4 hl5 hl6 ih.1 ih.2.1 ih.2.2 h, fun _ _ _ _ _ _ _ _ hl1 hl3 hl4 hl5 hl6 h => show Tg W0 (vX5_resolve_174 (rx_J vhX5_resolve M)) _ _ _ _ from TX5_resolve_174 hl1 hl3 hl4 hl5 hl6 ih.1 ih.2.1 ih.2.2 h⟩
def PX5_resolve (o : Int) (a1 : Int) (a2 : Int) (G : gS) (Q : Int → gS → Prop) : Prop := ∃ f : Nat, f ≤ 4000000000 ∧ PX5_resolve_0 (PX5_resolve_J f) o a1 a2 G Q
theorem TX5_resolve {o : Int} {a1 : Int} {a2 : Int} {G : gS} {Q : Int → gS → Prop} (ha1 : inI a1) (h : PX5_resolve o a1 a2 G Q) : Tn W0 FX5_resolve [rf (o), cI (a1), rf (a2)] G (fun r G => ∃ v, r = rf v ∧ Q v G) := by
  obtain ⟨f, hf, h⟩ := h
  have hJ := TX5_resolve_J (Q := Q) f 4000000000 hf
  unfold FX5_resolve
  refine g_ent (lv' := [rf (o), cI (a1), rf (a2), 7, 7, 7, 7]) (flR (flI (flR fl0))) (Nat.le_of_ble_eq_true rfl) rfl ?_
  exact TX5_resolve_0 ha1 hJ.1 hJ.2.1 hJ.2.2 h
def PX5_askMethod_135 (o : Int) (l1 : Int) (l2 : Int) (l3 : Int) (l4 : Int) (l5 : Int) (l6 : Int) (s0 : Int) (G : gS) (Q : Int → gS → Prop) : Prop :=
  Q (s0) G
set_option maxRecDepth 20000 in
theorem TX5_askMethod_135 {o : Int} {l1 : Int} {l2 : Int} {l3 : Int} {l4 : Int} {l5 : Int} {l6 : Int} {s0 : Int} {G : gS} {Q : Int → gS → Prop} (hl1 : inI l1) (hl2 : inI l2) (hl3 : inI l3) (hl6 : inI l6) (hs0 : inI s0) (h : PX5_askMethod_135 o l1 l2 l3 l4 l5 l6 s0 G Q) : Tg W0 vX5_askMethod_135 [rf (o), cI (l1), cI (l2), cI (l3), rf (l4), rf (l5), cI (l6)] [cI (s0)] G (fun r G => ∃ v, r = cI v ∧ inI v ∧ Q v G) := by
  unfold PX5_askMethod_135 at h
  unfold vX5_askMethod_135
  exact g_ret1 (is_I _) ⟨_, rfl, hs0, h⟩
def PX5_askMethod_130 (o : Int) (l1 : Int) (l2 : Int) (l3 : Int) (l4 : Int) (l5 : Int) (l6 : Int) (s0 : Int) (s1 : Int) (G : gS) (Q : Int → gS → Prop) : Prop :=
  (isO W0 5 (s0) ∧ PX5_askSuper s0 s1 l4 G (fun r38 G37 => inI r38 → PX5_askMethod_135 o l1 l2 l3 l4 l5 l6 r38 G37 Q))
set_option maxRecDepth 20000 in
theorem TX5_askMethod_130 {o : Int} {l1 : Int} {l2 : Int} {l3 : Int} {l4 : Int} {l5 : Int} {l6 : Int} {s0 : Int} {s1 : Int} {G : gS} {Q : Int → gS → Prop} (hl1 : inI l1) (hl2 : inI l2) (hl3 : inI l3) (hl6 : inI l6) (hs1 : inI s1) (h : PX5_askMethod_130 o l1 l2 l3 l4 l5 l6 s0 s1 G Q) : Tg W0 vX5_askMethod_130 [rf (o), cI (l1), cI (l2), cI (l3), rf (l4), rf (l5), cI (l6)] [cI (s1), rf (s0)] G (fun r G => ∃ v, r = cI v ∧ inI v ∧ Q v G) := by
  unfold PX5_askMethod_130 at h
  unfold vX5_askMethod_130
  refine g_ld (v := rf _) rfl (is_R _) ?_
  obtain ⟨q36, h⟩ := h
  refine g_callV (As := [_, _]) (ci := 5) q36 (fun _ => rfl) ?_
  refine g_go1 (Nat.le_of_ble_eq_true rfl) (Tn_w (TX5_askSuper hs1 h) fun _ G37 ⟨r38, e, i39, h⟩ => ?_)
  subst e
  refine ⟨n7_I _, ?_⟩
  replace h := h i39
  exact TX5_askMethod_135 hl1 hl2 hl3 hl6 i39 h
def PX5_askMethod_86 (o : Int) (l1 : Int) (l2 : Int) (l3 : Int) (l4 : Int) (l5 : Int) (s0 : Int) (G : gS) (Q : Int → gS → Prop) : Prop :=
  (isO W0 7 (l5) ∧ ((0 ≤ G l5 2 ∧ G l5 2 ≤ 1) → ((G l5 2 = s0 → ((l3 < 11 → PX5_askMethod_135 o l1 l2 l3 l4 l5 s0 0 G Q) ∧ (¬ (l3 < 11) → ((l3 = 11 → (isO W0 5 (o) ∧ ((G o 0 = -1 ∨ isO W0 11 (G o 0)) → (isO W0 11 (G o 0) ∧ ((0 : Int) ≤ l1 ∧ ((l1 : Int) < 64 ∧ (inI (G ((G o 0) + 2) l1) → PX5_askMethod_130 o l1 l2 l3 l4 l5 s0 o (G ((G o 0) + 2) l1) G Q))))))) ∧ (¬ (l3 = 11) → PX5_askMethod_130 o l1 l2 l3 l4 l5 s0 o l2 G Q))))) ∧ (¬ (G l5 2 = s0) → Q (3) G))))
set_option maxRecDepth 20000 in
theorem TX5_askMethod_86 {o : Int} {l1 : Int} {l2 : Int} {l3 : Int} {l4 : Int} {l5 : Int} {l6 : Nat} {s0 : Int} {G : gS} {Q : Int → gS → Prop} (hl1 : inI l1) (hl2 : inI l2) (hl3 : inI l3) (hl6 : l6 % 8 ≠ 1) (hs0 : inI s0) (h : PX5_askMethod_86 o l1 l2 l3 l4 l5 s0 G Q) : Tg W0 vX5_askMethod_86 [rf (o), cI (l1), cI (l2), cI (l3), rf (l4), rf (l5), l6] [cI (s0)] G (fun r G => ∃ v, r = cI v ∧ inI v ∧ Q v G) := by
  unfold PX5_askMethod_86 at h
  unfold vX5_askMethod_86
  refine g_st (lv' := [_, _, _, _, _, _, _]) (is_I _) (Nat.le_of_ble_eq_true rfl) (Or.inr (n1_R _)) rfl ?_
  refine g_ld (v := rf _) rfl (is_R _) ?_
  obtain ⟨q25, h⟩ := h
  refine g_getZ (kz := 2) q25 rfl (Nat.le_of_ble_eq_true rfl) rfl fun i26 => ?_
  replace h := h i26
  refine g_ld (v := cI _) rfl (is_I _) ?_
  refine g_eq2 ⟨by omega, by omega⟩ hs0 (fun b27 => ?_) (fun b27 => ?_)
  · replace h := h.1 b27
    unfold vX5_askMethod_100
    refine g_ld (v := cI _) rfl (is_I _) ?_
    refine g_const (v := cI (11)) rfl ?_
    refine g_lt2 hl3 ⟨by omega, by omega⟩ (fun b28 => ?_) (fun b28 => ?_)
    · replace h := h.1 b28
      unfold vX5_askMethod_106
      refine g_const (v := cI (0)) rfl ?_
      exact TX5_askMethod_135 hl1 hl2 hl3 hs0 ⟨by omega, by omega⟩ h
    · replace h := h.2 b28
      unfold vX5_askMethod_110
      refine g_ld (v := rf _) rfl (is_R _) ?_
      refine g_ld (v := cI _) rfl (is_I _) ?_
      refine g_const (v := cI (11)) rfl ?_
      refine g_eq2 hl3 ⟨by omega, by omega⟩ (fun b29 => ?_) (fun b29 => ?_)
      · replace h := h.1 b29
        unfold vX5_askMethod_117
        refine g_ld (v := rf _) rfl (is_R _) ?_
        obtain ⟨q30, h⟩ := h
        refine g_getR (kz := 0) (c := 11) q30 rfl (Nat.le_of_ble_eq_true rfl) rfl (by decide) fun i31 => ?_
        replace h := h i31
        obtain ⟨q32, h⟩ := h
        refine g_getF q32 (ff11_3 q32).1 rfl (Nat.le_of_ble_eq_true rfl) (Nat.le_of_ble_eq_true rfl) ?_
        refine g_ld (v := cI _) rfl (is_I _) ?_
        obtain ⟨q33, q34, h⟩ := h
        refine g_aldI (ff11_3 q32).2 q33 q34 rfl fun i35 => ?_
        replace h := h i35
        exact TX5_askMethod_130 hl1 hl2 hl3 hs0 i35 h
      · replace h := h.2 b29
        unfold vX5_askMethod_129
        refine g_ld (v := cI _) rfl (is_I _) ?_
        exact TX5_askMethod_130 hl1 hl2 hl3 hs0 hl2 h
  · replace h := h.2 b27
    unfold vX5_askMethod_98
    refine g_const (v := cI (3)) rfl ?_
    exact g_ret1 (is_I _) ⟨_, rfl, ⟨by omega, by omega⟩, h⟩
def PX5_askMethod_81 (o : Int) (l1 : Int) (l2 : Int) (l3 : Int) (l4 : Int) (l5 : Int) (G : gS) (Q : Int → gS → Prop) : Prop :=
  PX5_askMethod_86 o l1 l2 l3 l4 l5 1 G Q
set_option maxRecDepth 20000 in
theorem TX5_askMethod_81 {o : Int} {l1 : Int} {l2 : Int} {l3 : Int} {l4 : Int} {l5 : Int} {l6 : Nat} {G : gS} {Q : Int → gS → Prop} (hl1 : inI l1) (hl2 : inI l2) (hl3 : inI l3) (hl6 : l6 % 8 ≠ 1) (h : PX5_askMethod_81 o l1 l2 l3 l4 l5 G Q) : Tg W0 vX5_askMethod_81 [rf (o), cI (l1), cI (l2), cI (l3), rf (l4), rf (l5), l6] [] G (fun r G => ∃ v, r = cI v ∧ inI v ∧ Q v G) := by
  unfold PX5_askMethod_81 at h
  unfold vX5_askMethod_81
  refine g_const (v := cI (1)) rfl ?_
  exact TX5_askMethod_86 hl1 hl2 hl3 hl6 ⟨by omega, by omega⟩ h
def PX5_askMethod_45 (o : Int) (l1 : Int) (l2 : Int) (l3 : Int) (l4 : Int) (l5 : Int) (G : gS) (Q : Int → gS → Prop) : Prop :=
  ((l5 < 0 → Q (5) G) ∧ (0 ≤ l5 → (isO W0 5 (o) ∧ (inI (G o 12) → PX5_isLet o l5 (G o 12) l2 l1 G (fun r20 G19 => (0 ≤ r20 ∧ r20 ≤ 1) → ((r20 = 0 → Q (2) G19) ∧ (¬ (r20 = 0) → ((l3 = 9 → PX5_askMethod_81 o l1 l2 l3 l4 l5 G19 Q) ∧ (¬ (l3 = 9) → ((l3 = 10 → PX5_askMethod_81 o l1 l2 l3 l4 l5 G19 Q) ∧ (¬ (l3 = 10) → PX5_askMethod_86 o l1 l2 l3 l4 l5 0 G19 Q)))))))))))
set_option maxRecDepth 20000 in
theorem TX5_askMethod_45 {o : Int} {l1 : Int} {l2 : Int} {l3 : Int} {l4 : Int} {l5 : Int} {l6 : Nat} {G : gS} {Q : Int → gS → Prop} (hl1 : inI l1) (hl2 : inI l2) (hl3 : inI l3) (hl6 : l6 % 8 ≠ 1) (h : PX5_askMethod_45 o l1 l2 l3 l4 l5 G Q) : Tg W0 vX5_askMethod_45 [rf (o), cI (l1), cI (l2), cI (l3), rf (l4), rf (l5), l6] [] G (fun r G => ∃ v, r = cI v ∧ inI v ∧ Q v G) := by
  unfold PX5_askMethod_45 at h
  unfold vX5_askMethod_45
  refine g_ld (v := rf _) rfl (is_R _) ?_
  refine g_nul (fun b16 => ?_) (fun b16 => ?_)
  · replace h := h.1 b16
    unfold vX5_askMethod_50
    refine g_const (v := cI (5)) rfl ?_
    exact g_ret1 (is_I _) ⟨_, rfl, ⟨by omega, by omega⟩, h⟩
  · replace h := h.2 b16
    unfold vX5_askMethod_52
    refine g_ld (v := rf _) rfl (is_R _) ?_
    refine g_ld (v := rf _) rfl (is_R _) ?_
    refine g_ld (v := rf _) rfl (is_R _) ?_
    obtain ⟨q17, h⟩ := h
    refine g_getI (kz := 12) q17 rfl (Nat.le_of_ble_eq_true rfl) rfl fun i18 => ?_
    replace h := h i18
    refine g_ld (v := cI _) rfl (is_I _) ?_
    refine g_ld (v := cI _) rfl (is_I _) ?_
    refine g_callV (As := [_, _, _, _]) (ci := 5) q17 (fun _ => rfl) ?_
    refine g_go1 (Nat.le_of_ble_eq_true rfl) (Tn_w (TX5_isLet i18 hl2 hl1 h) fun _ G19 ⟨r20, e, i21, h⟩ => ?_)
    subst e
    refine ⟨n7_I _, ?_⟩
    replace h := h i21
    refine g_eq1 ⟨by omega, by omega⟩ (fun b22 => ?_) (fun b22 => ?_)
    · replace h := h.1 b22
      unfold vX5_askMethod_67
      refine g_const (v := cI (2)) rfl ?_
      exact g_ret1 (is_I _) ⟨_, rfl, ⟨by omega, by omega⟩, h⟩
    · replace h := h.2 b22
      unfold vX5_askMethod_69
      refine g_ld (v := cI _) rfl (is_I _) ?_
      refine g_const (v := cI (9)) rfl ?_
      refine g_eq2 hl3 ⟨by omega, by omega⟩ (fun b23 => ?_) (fun b23 => ?_)
      · replace h := h.1 b23
        exact TX5_askMethod_81 hl1 hl2 hl3 hl6 h
      · replace h := h.2 b23
        unfold vX5_askMethod_75
        refine g_ld (v := cI _) rfl (is_I _) ?_
        refine g_const (v := cI (10)) rfl ?_
        refine g_eq2 hl3 ⟨by omega, by omega⟩ (fun b24 => ?_) (fun b24 => ?_)
        · replace h := h.1 b24
          exact TX5_askMethod_81 hl1 hl2 hl3 hl6 h
        · replace h := h.2 b24
          unfold vX5_askMethod_85
          refine g_const (v := cI (0)) rfl ?_
          exact TX5_askMethod_86 hl1 hl2 hl3 hl6 ⟨by omega, by omega⟩ h
def PX5_askMethod_40 (o : Int) (l1 : Int) (l2 : Int) (l3 : Int) (l4 : Int) (l5 : Int) (G : gS) (Q : Int → gS → Prop) : Prop :=
  (isO W0 5 (o) ∧ (∀ G15 : gS, G15 = uG G o 11 (-1) → PX5_askMethod_45 o l1 l2 l3 l4 l5 G15 Q))
set_option maxRecDepth 20000 in
theorem TX5_askMethod_40 {o : Int} {l1 : Int} {l2 : Int} {l3 : Int} {l4 : Int} {l5 : Int} {l6 : Nat} {G : gS} {Q : Int → gS → Prop} (hl1 : inI l1) (hl2 : inI l2) (hl3 : inI l3) (hl6 : l6 % 8 ≠ 1) (h : PX5_askMethod_40 o l1 l2 l3 l4 l5 G Q) : Tg W0 vX5_askMethod_40 [rf (o), cI (l1), cI (l2), cI (l3), rf (l4), rf (l5), l6] [] G (fun r G => ∃ v, r = cI v ∧ inI v ∧ Q v G) := by
  unfold PX5_askMethod_40 at h
  unfold vX5_askMethod_40
  refine g_ld (v := rf _) rfl (is_R _) ?_
  refine g_const (v := rf (-1)) rfl ?_
  obtain ⟨q14, h⟩ := h
  refine g_putR (kz := 11) (c := 7) q14 rfl (Nat.le_of_ble_eq_true rfl) rfl (by decide) (Or.inl rfl) (nf5_11 q14) ?_
  replace h := h _ rfl
  exact TX5_askMethod_45 hl1 hl2 hl3 hl6 h
def PX5_askMethod_0 (o : Int) (a1 : Int) (a2 : Int) (a3 : Int) (a4 : Int) (G : gS) (Q : Int → gS → Prop) : Prop :=
  (isO W0 5 (o) ∧ PX5_resolve o a2 a4 G (fun r3 G2 => ((r3 = -1 ∨ isO W0 7 (r3)) ∧ (∀ G6 : gS, G6 = uG G2 o 11 (r3) → ((G6 o 0 = -1 ∨ isO W0 11 (G6 o 0)) → (isO W0 11 (G6 o 0) ∧ (inI (G6 (G6 o 0) 18) → (∀ G10 : gS, G10 = uG G6 o 12 (G6 (G6 o 0) 18) → ((G10 o 11 = -1 ∨ isO W0 7 (G10 o 11)) → ((a3 = 11 → PX5_askMethod_40 o a1 a2 a3 a4 (G10 o 11) G10 Q) ∧ (¬ (a3 = 11) → ((a3 = 12 → PX5_askMethod_40 o a1 a2 a3 a4 (G10 o 11) G10 Q) ∧ (¬ (a3 = 12) → PX5_askMethod_45 o a1 a2 a3 a4 (G10 o 11) G10 Q)))))))))))))
set_option maxRecDepth 20000 in
theorem TX5_askMethod_0 {o : Int} {a1 : Int} {a2 : Int} {a3 : Int} {a4 : Int} {G : gS} {Q : Int → gS → Prop} (ha1 : inI a1) (ha2 : inI a2) (ha3 : inI a3) (h : PX5_askMethod_0 o a1 a2 a3 a4 G Q) : Tg W0 vX5_askMethod_0 [rf (o), cI (a1), cI (a2), cI (a3), rf (a4), 7, 7] [] G (fun r G => ∃ v, r = cI v ∧ inI v ∧ Q v G) := by
  unfold PX5_askMethod_0 at h
  unfold vX5_askMethod_0
  refine g_ld (v := rf _) rfl (is_R _) ?_
  refine g_ld (v := rf _) rfl (is_R _) ?_
  refine g_ld (v := cI _) rfl (is_I _) ?_
  refine g_ld (v := rf _) rfl (is_R _) ?_
  obtain ⟨q1, h⟩ := h
  refine g_callV (As := [_, _]) (ci := 5) q1 (fun _ => rfl) ?_
  refine g_go1 (by simp only [cs_c, cs_0, ct_I, ct_L, ct_R]; exact Nat.le_of_ble_eq_true rfl) (Tn_w (TX5_resolve ha2 h) fun _ G2 ⟨r3, e, h⟩ => ?_)
  subst e
  refine ⟨n7_R _, ?_⟩
  obtain ⟨q5, h⟩ := h
  refine g_putR (kz := 11) (c := 7) q1 rfl (Nat.le_of_ble_eq_true rfl) rfl (by decide) q5 (nf5_11 q1) ?_
  replace h := h _ rfl
  refine g_ld (v := rf _) rfl (is_R _) ?_
  refine g_ld (v := rf _) rfl (is_R _) ?_
  refine g_getR (kz := 0) (c := 11) q1 rfl (Nat.le_of_ble_eq_true rfl) rfl (by decide) fun i7 => ?_
  replace h := h i7
  obtain ⟨q8, h⟩ := h
  refine g_getI (kz := 18) q8 rfl (Nat.le_of_ble_eq_true rfl) rfl fun i9 => ?_
  replace h := h i9
  refine g_putI (kz := 12) q1 rfl (Nat.le_of_ble_eq_true rfl) rfl i9 (nf5_12 q1) ?_
  replace h := h _ rfl
  refine g_ld (v := rf _) rfl (is_R _) ?_
  refine g_getR (kz := 11) (c := 7) q1 rfl (Nat.le_of_ble_eq_true rfl) rfl (by decide) fun i11 => ?_
  replace h := h i11
  refine g_st (lv' := [_, _, _, _, _, _, _]) (is_R _) (Nat.le_of_ble_eq_true rfl) (Or.inr (n1_R _)) rfl ?_
  refine g_ld (v := cI _) rfl (is_I _) ?_
  refine g_const (v := cI (11)) rfl ?_
  refine g_eq2 ha3 ⟨by omega, by omega⟩ (fun b12 => ?_) (fun b12 => ?_)
  · replace h := h.1 b12
    exact TX5_askMethod_40 ha1 ha2 ha3 (show 7 % 8 ≠ 1 by decide) h
  · replace h := h.2 b12
    unfold vX5_askMethod_34
    refine g_ld (v := cI _) rfl (is_I _) ?_
    refine g_const (v := cI (12)) rfl ?_
    refine g_eq2 ha3 ⟨by omega, by omega⟩ (fun b13 => ?_) (fun b13 => ?_)
    · replace h := h.1 b13
      exact TX5_askMethod_40 ha1 ha2 ha3 (show 7 % 8 ≠ 1 by decide) h
    · replace h := h.2 b13
      exact TX5_askMethod_45 ha1 ha2 ha3 (show 7 % 8 ≠ 1 by decide) h
abbrev PX5_askMethod (o : Int) (a1 : Int) (a2 : Int) (a3 : Int) (a4 : Int) (G : gS) (Q : Int → gS → Prop) : Prop := PX5_askMethod_0 o a1 a2 a3 a4 G Q
theorem TX5_askMethod {o : Int} {a1 : Int} {a2 : Int} {a3 : Int} {a4 : Int} {G : gS} {Q : Int → gS → Prop} (ha1 : inI a1) (ha2 : inI a2) (ha3 : inI a3) (h : PX5_askMethod o a1 a2 a3 a4 G Q) : Tn W0 FX5_askMethod [rf (o), cI (a1), cI (a2), cI (a3), rf (a4)] G (fun r G => ∃ v, r = cI v ∧ inI v ∧ Q v G) := by
  unfold FX5_askMethod
  refine g_ent (lv' := [rf (o), cI (a1), cI (a2), cI (a3), rf (a4), 7, 7]) (flR (flI (flI (flI (flR fl0))))) (Nat.le_of_ble_eq_true rfl) rfl ?_
  exact TX5_askMethod_0 ha1 ha2 ha3 h
def PX5_askMember_184 (o : Int) (l1 : Int) (l2 : Int) (l3 : Int) (l4 : Int) (l5 : Int) (l6 : Int) (s0 : Int) (G : gS) (Q : Int → gS → Prop) : Prop :=
  Q (s0) G
set_option maxRecDepth 20000 in
theorem TX5_askMember_184 {o : Int} {l1 : Int} {l2 : Int} {l3 : Int} {l4 : Int} {l5 : Int} {l6 : Int} {s0 : Int} {G : gS} {Q : Int → gS → Prop} (hl1 : inI l1) (hl2 : inI l2) (hl3 : inI l3) (hl6 : inI l6) (hs0 : inI s0) (h : PX5_askMember_184 o l1 l2 l3 l4 l5 l6 s0 G Q) : Tg W0 vX5_askMember_184 [rf (o), cI (l1), cI (l2), cI (l3), rf (l4), rf (l5), cI (l6)] [cI (s0)] G (fun r G => ∃ v, r = cI v ∧ inI v ∧ Q v G) := by
  unfold PX5_askMember_184 at h
  unfold vX5_askMember_184
  exact g_ret1 (is_I _) ⟨_, rfl, hs0, h⟩
def PX5_askMember_159 (o : Int) (l1 : Int) (l2 : Int) (l3 : Int) (l4 : Int) (l5 : Int) (s0 : Int) (G : gS) (Q : Int → gS → Prop) : Prop :=
  (isO W0 10 (l5) ∧ ((0 ≤ G l5 4 ∧ G l5 4 ≤ 1) → ((G l5 4 = s0 → (isO W0 5 (o) ∧ PX5_askMethod o l1 l2 l3 l4 G (fun r47 G46 => inI r47 → PX5_askMember_184 o l1 l2 l3 l4 l5 s0 r47 G46 Q))) ∧ (¬ (G l5 4 = s0) → PX5_askMember_184 o l1 l2 l3 l4 l5 s0 3 G Q))))
set_option maxRecDepth 20000 in
theorem TX5_askMember_159 {o : Int} {l1 : Int} {l2 : Int} {l3 : Int} {l4 : Int} {l5 : Int} {l6 : Nat} {s0 : Int} {G : gS} {Q : Int → gS → Prop} (hl1 : inI l1) (hl2 : inI l2) (hl3 : inI l3) (hl6 : l6 % 8 ≠ 1) (hs0 : inI s0) (h : PX5_askMember_159 o l1 l2 l3 l4 l5 s0 G Q) : Tg W0 vX5_askMember_159 [rf (o), cI (l1), cI (l2), cI (l3), rf (l4), rf (l5), l6] [cI (s0)] G (fun r G => ∃ v, r = cI v ∧ inI v ∧ Q v G) := by
  unfold PX5_askMember_159 at h
  unfold vX5_askMember_159
  refine g_st (lv' := [_, _, _, _, _, _, _]) (is_I _) (Nat.le_of_ble_eq_true rfl) (Or.inr (n1_R _)) rfl ?_
  refine g_ld (v := rf _) rfl (is_R _) ?_
  obtain ⟨q42, h⟩ := h
  refine g_getZ (kz := 4) q42 rfl (Nat.le_of_ble_eq_true rfl) rfl fun i43 => ?_
  replace h := h i43
  refine g_ld (v := cI _) rfl (is_I _) ?_
  refine g_eq2 ⟨by omega, by omega⟩ hs0 (fun b44 => ?_) (fun b44 => ?_)
  · replace h := h.1 b44
    unfold vX5_askMember_175
    refine g_ld (v := rf _) rfl (is_R _) ?_
    refine g_ld (v := cI _) rfl (is_I _) ?_
    refine g_ld (v := cI _) rfl (is_I _) ?_
    refine g_ld (v := cI _) rfl (is_I _) ?_
    refine g_ld (v := rf _) rfl (is_R _) ?_
    obtain ⟨q45, h⟩ := h
    refine g_callV (As := [_, _, _, _]) (ci := 5) q45 (fun _ => rfl) ?_
    refine g_go1 (Nat.le_of_ble_eq_true rfl) (Tn_w (TX5_askMethod hl1 hl2 hl3 h) fun _ G46 ⟨r47, e, i48, h⟩ => ?_)
    subst e
    refine ⟨n7_I _, ?_⟩
    replace h := h i48
    exact TX5_askMember_184 hl1 hl2 hl3 hs0 i48 h
  · replace h := h.2 b44
    unfold vX5_askMember_171
    refine g_const (v := cI (3)) rfl ?_
    exact TX5_askMember_184 hl1 hl2 hl3 hs0 ⟨by omega, by omega⟩ h
def PX5_askMember_154 (o : Int) (l1 : Int) (l2 : Int) (l3 : Int) (l4 : Int) (l5 : Int) (G : gS) (Q : Int → gS → Prop) : Prop :=
  PX5_askMember_159 o l1 l2 l3 l4 l5 1 G Q
set_option maxRecDepth 20000 in
theorem TX5_askMember_154 {o : Int} {l1 : Int} {l2 : Int} {l3 : Int} {l4 : Int} {l5 : Int} {l6 : Nat} {G : gS} {Q : Int → gS → Prop} (hl1 : inI l1) (hl2 : inI l2) (hl3 : inI l3) (hl6 : l6 % 8 ≠ 1) (h : PX5_askMember_154 o l1 l2 l3 l4 l5 G Q) : Tg W0 vX5_askMember_154 [rf (o), cI (l1), cI (l2), cI (l3), rf (l4), rf (l5), l6] [] G (fun r G => ∃ v, r = cI v ∧ inI v ∧ Q v G) := by
  unfold PX5_askMember_154 at h
  unfold vX5_askMember_154
  refine g_const (v := cI (1)) rfl ?_
  exact TX5_askMember_159 hl1 hl2 hl3 hl6 ⟨by omega, by omega⟩ h
def PX5_askMember_119 (o : Int) (l1 : Int) (l2 : Int) (l3 : Int) (l4 : Int) (l5 : Int) (s0 : Int) (G : gS) (Q : Int → gS → Prop) : Prop :=
  Q (s0) G
set_option maxRecDepth 20000 in
theorem TX5_askMember_119 {o : Int} {l1 : Int} {l2 : Int} {l3 : Int} {l4 : Int} {l5 : Int} {l6 : Nat} {s0 : Int} {G : gS} {Q : Int → gS → Prop} (hl1 : inI l1) (hl2 : inI l2) (hl3 : inI l3) (hl6 : l6 % 8 ≠ 1) (hs0 : inI s0) (h : PX5_askMember_119 o l1 l2 l3 l4 l5 s0 G Q) : Tg W0 vX5_askMember_119 [rf (o), cI (l1), cI (l2), cI (l3), rf (l4), rf (l5), l6] [cI (s0)] G (fun r G => ∃ v, r = cI v ∧ inI v ∧ Q v G) := by
  unfold PX5_askMember_119 at h
  unfold vX5_askMember_119
  exact g_ret1 (is_I _) ⟨_, rfl, hs0, h⟩
def PX5_askMember_38 (o : Int) (l1 : Int) (l2 : Int) (l3 : Int) (l4 : Int) (l5 : Int) (s0 : Int) (G : gS) (Q : Int → gS → Prop) : Prop :=
  Q (s0) G
set_option maxRecDepth 20000 in
theorem TX5_askMember_38 {o : Int} {l1 : Int} {l2 : Int} {l3 : Int} {l4 : Int} {l5 : Int} {l6 : Nat} {s0 : Int} {G : gS} {Q : Int → gS → Prop} (hl1 : inI l1) (hl2 : inI l2) (hl3 : inI l3) (hl6 : l6 % 8 ≠ 1) (hs0 : inI s0) (h : PX5_askMember_38 o l1 l2 l3 l4 l5 s0 G Q) : Tg W0 vX5_askMember_38 [rf (o), cI (l1), cI (l2), cI (l3), rf (l4), rf (l5), l6] [cI (s0)] G (fun r G => ∃ v, r = cI v ∧ inI v ∧ Q v G) := by
  unfold PX5_askMember_38 at h
  unfold vX5_askMember_38
  exact g_ret1 (is_I _) ⟨_, rfl, hs0, h⟩
def PX5_askMember_32 (o : Int) (l1 : Int) (l2 : Int) (l3 : Int) (l4 : Int) (l5 : Int) (G : gS) (Q : Int → gS → Prop) : Prop :=
  PX5_askMember_38 o l1 l2 l3 l4 l5 7 G Q
set_option maxRecDepth 20000 in
theorem TX5_askMember_32 {o : Int} {l1 : Int} {l2 : Int} {l3 : Int} {l4 : Int} {l5 : Int} {l6 : Nat} {G : gS} {Q : Int → gS → Prop} (hl1 : inI l1) (hl2 : inI l2) (hl3 : inI l3) (hl6 : l6 % 8 ≠ 1) (h : PX5_askMember_32 o l1 l2 l3 l4 l5 G Q) : Tg W0 vX5_askMember_32 [rf (o), cI (l1), cI (l2), cI (l3), rf (l4), rf (l5), l6] [] G (fun r G => ∃ v, r = cI v ∧ inI v ∧ Q v G) := by
  unfold PX5_askMember_32 at h
  unfold vX5_askMember_32
  refine g_const (v := cI (7)) rfl ?_
  exact TX5_askMember_38 hl1 hl2 hl3 hl6 ⟨by omega, by omega⟩ h
def PX5_askMember_0 (o : Int) (a1 : Int) (a2 : Int) (a3 : Int) (a4 : Int) (G : gS) (Q : Int → gS → Prop) : Prop :=
  (isO W0 5 (o) ∧ ((G o 0 = -1 ∨ isO W0 11 (G o 0)) → (isO W0 11 (G o 0) ∧ ((0 : Int) ≤ a2 ∧ ((a2 : Int) < 64 ∧ (((G ((G o 0) + 1) a2 = -1 ∨ isO W0 10 (G ((G o 0) + 1) a2)) ∧ ∀ v, W0.2 ((G o 0) + 1) a2 = some v → G ((G o 0) + 1) a2 = v) → ((a3 = 1 → (isO W0 10 (G ((G o 0) + 1) a2) ∧ ((0 ≤ G (G ((G o 0) + 1) a2) 4 ∧ G (G ((G o 0) + 1) a2) 4 ≤ 1) → ((G (G ((G o 0) + 1) a2) 4 = 0 → ((0 ≤ G (G ((G o 0) + 1) a2) 6 ∧ G (G ((G o 0) + 1) a2) 6 ≤ 1) → ((G (G ((G o 0) + 1) a2) 6 = 0 → PX5_askMember_38 o a1 a2 a3 a4 (G ((G o 0) + 1) a2) 0 G Q) ∧ (¬ (G (G ((G o 0) + 1) a2) 6 = 0) → PX5_askMember_32 o a1 a2 a3 a4 (G ((G o 0) + 1) a2) G Q)))) ∧ (¬ (G (G ((G o 0) + 1) a2) 4 = 0) → PX5_askMember_32 o a1 a2 a3 a4 (G ((G o 0) + 1) a2) G Q))))) ∧ (¬ (a3 = 1) → ((a4 < 0 → Q (1) G) ∧ (0 ≤ a4 → ((a3 = 2 → (isO W0 10 (G ((G o 0) + 1) a2) ∧ ((0 ≤ G (G ((G o 0) + 1) a2) 4 ∧ G (G ((G o 0) + 1) a2) 4 ≤ 1) → ((G (G ((G o 0) + 1) a2) 4 = 0 → (∀ G18 : gS, G18 = uG G o 16 (1) → ((0 : Int) ≤ 0 ∧ ((0 : Int) < 130 ∧ (∀ G21 : gS, G21 = uG G18 (o + 9) 0 (a2) → PX10_maker (G ((G o 0) + 1) a2) a4 G21 (fun r23 G22 => ((r23 = -1 ∨ isO W0 7 (r23)) ∧ (∀ G26 : gS, G26 = uG G22 o 11 (r23) → (∀ G27 : gS, G27 = uG G26 o 12 (a2) → ((G27 o 11 = -1 ∨ isO W0 7 (G27 o 11)) → ((G27 o 11 < 0 → PX5_askMember_119 o a1 a2 a3 a4 (G ((G o 0) + 1) a2) 5 G27 Q) ∧ (0 ≤ G27 o 11 → ((G27 o 11 = -1 ∨ isO W0 7 (G27 o 11)) → PX5_isLet o (G27 o 11) a2 a2 a1 G27 (fun r32 G31 => (0 ≤ r32 ∧ r32 ≤ 1) → ((r32 = 0 → PX5_askMember_119 o a1 a2 a3 a4 (G ((G o 0) + 1) a2) 2 G31 Q) ∧ (¬ (r32 = 0) → PX5_askMember_119 o a1 a2 a3 a4 (G ((G o 0) + 1) a2) 0 G31 Q)))))))))))))))) ∧ (¬ (G (G ((G o 0) + 1) a2) 4 = 0) → Q (3) G))))) ∧ (¬ (a3 = 2) → ((6 < a3 → ((a3 = 8 → PX5_askMember_154 o a1 a2 a3 a4 (G ((G o 0) + 1) a2) G Q) ∧ (¬ (a3 = 8) → ((a3 = 10 → PX5_askMember_154 o a1 a2 a3 a4 (G ((G o 0) + 1) a2) G Q) ∧ (¬ (a3 = 10) → ((a3 = 12 → PX5_askMember_154 o a1 a2 a3 a4 (G ((G o 0) + 1) a2) G Q) ∧ (¬ (a3 = 12) → PX5_askMember_159 o a1 a2 a3 a4 (G ((G o 0) + 1) a2) 0 G Q))))))) ∧ (¬ (6 < a3) → PX5_askField o a1 a2 a3 a4 G (fun r40 G39 => inI r40 → Q (r40) G39)))))))))))))))
set_option maxRecDepth 20000 in
theorem TX5_askMember_0 {o : Int} {a1 : Int} {a2 : Int} {a3 : Int} {a4 : Int} {G : gS} {Q : Int → gS → Prop} (ha1 : inI a1) (ha2 : inI a2) (ha3 : inI a3) (h : PX5_askMember_0 o a1 a2 a3 a4 G Q) : Tg W0 vX5_askMember_0 [rf (o), cI (a1), cI (a2), cI (a3), rf (a4), 7, 7] [] G (fun r G => ∃ v, r = cI v ∧ inI v ∧ Q v G) := by
  unfold PX5_askMember_0 at h
  unfold vX5_askMember_0
  refine g_ld (v := rf _) rfl (is_R _) ?_
  obtain ⟨q1, h⟩ := h
  refine g_getR (kz := 0) (c := 11) q1 rfl (Nat.le_of_ble_eq_true rfl) rfl (by decide) fun i2 => ?_
  replace h := h i2
  obtain ⟨q3, h⟩ := h
  refine g_getF q3 (ff11_1 q3).1 rfl (Nat.le_of_ble_eq_true rfl) (Nat.le_of_ble_eq_true rfl) ?_
  refine g_ld (v := cI _) rfl (is_I _) ?_
  obtain ⟨q4, q5, h⟩ := h
  refine g_aldRF (c := 10) (ff11_1 q3).2 q4 q5 rfl (by decide) fun i6 => ?_
  replace h := h i6
  refine g_st (lv' := [_, _, _, _, _, _, _]) (is_R _) (Nat.le_of_ble_eq_true rfl) (Or.inr (n1_R _)) rfl ?_
  refine g_ld (v := cI _) rfl (is_I _) ?_
  refine g_const (v := cI (1)) rfl ?_
  refine g_eq2 ha3 ⟨by omega, by omega⟩ (fun b7 => ?_) (fun b7 => ?_)
  · replace h := h.1 b7
    unfold vX5_askMember_16
    refine g_ld (v := rf _) rfl (is_R _) ?_
    obtain ⟨q8, h⟩ := h
    refine g_getZ (kz := 4) q8 rfl (Nat.le_of_ble_eq_true rfl) rfl fun i9 => ?_
    replace h := h i9
    refine g_eq1 ⟨by omega, by omega⟩ (fun b10 => ?_) (fun b10 => ?_)
    · replace h := h.1 b10
      unfold vX5_askMember_24
      refine g_ld (v := rf _) rfl (is_R _) ?_
      refine g_getZ (kz := 6) q8 rfl (Nat.le_of_ble_eq_true rfl) rfl fun i11 => ?_
      replace h := h i11
      refine g_eq1 ⟨by omega, by omega⟩ (fun b12 => ?_) (fun b12 => ?_)
      · replace h := h.1 b12
        unfold vX5_askMember_37
        refine g_const (v := cI (0)) rfl ?_
        exact TX5_askMember_38 ha1 ha2 ha3 (show 7 % 8 ≠ 1 by decide) ⟨by omega, by omega⟩ h
      · replace h := h.2 b12
        exact TX5_askMember_32 ha1 ha2 ha3 (show 7 % 8 ≠ 1 by decide) h
    · replace h := h.2 b10
      exact TX5_askMember_32 ha1 ha2 ha3 (show 7 % 8 ≠ 1 by decide) h
  · replace h := h.2 b7
    unfold vX5_askMember_39
    refine g_ld (v := rf _) rfl (is_R _) ?_
    refine g_nul (fun b13 => ?_) (fun b13 => ?_)
    · replace h := h.1 b13
      unfold vX5_askMember_44
      refine g_const (v := cI (1)) rfl ?_
      exact g_ret1 (is_I _) ⟨_, rfl, ⟨by omega, by omega⟩, h⟩
    · replace h := h.2 b13
      unfold vX5_askMember_46
      refine g_ld (v := cI _) rfl (is_I _) ?_
      refine g_const (v := cI (2)) rfl ?_
      refine g_eq2 ha3 ⟨by omega, by omega⟩ (fun b14 => ?_) (fun b14 => ?_)
      · replace h := h.1 b14
        unfold vX5_askMember_51
        refine g_ld (v := rf _) rfl (is_R _) ?_
        obtain ⟨q15, h⟩ := h
        refine g_getZ (kz := 4) q15 rfl (Nat.le_of_ble_eq_true rfl) rfl fun i16 => ?_
        replace h := h i16
        refine g_eq1 ⟨by omega, by omega⟩ (fun b17 => ?_) (fun b17 => ?_)
        · replace h := h.1 b17
          unfold vX5_askMember_61
          refine g_ld (v := rf _) rfl (is_R _) ?_
          refine g_const (v := cI (1)) rfl ?_
          refine g_putI (kz := 16) q1 rfl (Nat.le_of_ble_eq_true rfl) rfl ⟨by omega, by omega⟩ (nf5_16 q1) ?_
          replace h := h _ rfl
          refine g_ld (v := rf _) rfl (is_R _) ?_
          refine g_getF q1 (ff5_15 q1).1 rfl (Nat.le_of_ble_eq_true rfl) (Nat.le_of_ble_eq_true rfl) ?_
          refine g_const (v := cI (0)) rfl ?_
          refine g_ld (v := cI _) rfl (is_I _) ?_
          obtain ⟨q19, q20, h⟩ := h
          refine g_astI (ff5_15 q1).2 q19 q20 ha2 (nfI (ff5_15 q1).2) ?_
          replace h := h _ rfl
          refine g_ld (v := rf _) rfl (is_R _) ?_
          refine g_ld (v := rf _) rfl (is_R _) ?_
          refine g_ld (v := rf _) rfl (is_R _) ?_
          refine g_callV (As := [_]) (ci := 10) q15 (fun _ => rfl) ?_
          refine g_go1 (by simp only [cs_c, cs_0, ct_I, ct_L, ct_R]; exact Nat.le_of_ble_eq_true rfl) (Tn_w (TX10_maker  h) fun _ G22 ⟨r23, e, h⟩ => ?_)
          subst e
          refine ⟨n7_R _, ?_⟩
          obtain ⟨q25, h⟩ := h
          refine g_putR (kz := 11) (c := 7) q1 rfl (Nat.le_of_ble_eq_true rfl) rfl (by decide) q25 (nf5_11 q1) ?_
          replace h := h _ rfl
          refine g_ld (v := rf _) rfl (is_R _) ?_
          refine g_ld (v := cI _) rfl (is_I _) ?_
          refine g_putI (kz := 12) q1 rfl (Nat.le_of_ble_eq_true rfl) rfl ha2 (nf5_12 q1) ?_
          replace h := h _ rfl
          refine g_ld (v := rf _) rfl (is_R _) ?_
          refine g_getR (kz := 11) (c := 7) q1 rfl (Nat.le_of_ble_eq_true rfl) rfl (by decide) fun i28 => ?_
          replace h := h i28
          refine g_nul (fun b29 => ?_) (fun b29 => ?_)
          · replace h := h.1 b29
            unfold vX5_askMember_96
            refine g_const (v := cI (5)) rfl ?_
            exact TX5_askMember_119 ha1 ha2 ha3 (show 7 % 8 ≠ 1 by decide) ⟨by omega, by omega⟩ h
          · replace h := h.2 b29
            unfold vX5_askMember_100
            refine g_ld (v := rf _) rfl (is_R _) ?_
            refine g_ld (v := rf _) rfl (is_R _) ?_
            refine g_getR (kz := 11) (c := 7) q1 rfl (Nat.le_of_ble_eq_true rfl) rfl (by decide) fun i30 => ?_
            replace h := h i30
            refine g_ld (v := cI _) rfl (is_I _) ?_
            refine g_ld (v := cI _) rfl (is_I _) ?_
            refine g_ld (v := cI _) rfl (is_I _) ?_
            refine g_callV (As := [_, _, _, _]) (ci := 5) q1 (fun _ => rfl) ?_
            refine g_go1 (Nat.le_of_ble_eq_true rfl) (Tn_w (TX5_isLet ha2 ha2 ha1 h) fun _ G31 ⟨r32, e, i33, h⟩ => ?_)
            subst e
            refine ⟨n7_I _, ?_⟩
            replace h := h i33
            refine g_eq1 ⟨by omega, by omega⟩ (fun b34 => ?_) (fun b34 => ?_)
            · replace h := h.1 b34
              unfold vX5_askMember_118
              refine g_const (v := cI (2)) rfl ?_
              exact TX5_askMember_119 ha1 ha2 ha3 (show 7 % 8 ≠ 1 by decide) ⟨by omega, by omega⟩ h
            · replace h := h.2 b34
              unfold vX5_askMember_114
              refine g_const (v := cI (0)) rfl ?_
              exact TX5_askMember_119 ha1 ha2 ha3 (show 7 % 8 ≠ 1 by decide) ⟨by omega, by omega⟩ h
        · replace h := h.2 b17
          unfold vX5_askMember_59
          refine g_const (v := cI (3)) rfl ?_
          exact g_ret1 (is_I _) ⟨_, rfl, ⟨by omega, by omega⟩, h⟩
      · replace h := h.2 b14
        unfold vX5_askMember_120
        refine g_ld (v := cI _) rfl (is_I _) ?_
        refine g_const (v := cI (6)) rfl ?_
        refine g_gt2 ha3 ⟨by omega, by omega⟩ (fun b35 => ?_) (fun b35 => ?_)
        · replace h := h.1 b35
          unfold vX5_askMember_136
          refine g_ld (v := cI _) rfl (is_I _) ?_
          refine g_const (v := cI (8)) rfl ?_
          refine g_eq2 ha3 ⟨by omega, by omega⟩ (fun b36 => ?_) (fun b36 => ?_)
          · replace h := h.1 b36
            exact TX5_askMember_154 ha1 ha2 ha3 (show 7 % 8 ≠ 1 by decide) h
          · replace h := h.2 b36
            unfold vX5_askMember_142
            refine g_ld (v := cI _) rfl (is_I _) ?_
            refine g_const (v := cI (10)) rfl ?_
            refine g_eq2 ha3 ⟨by omega, by omega⟩ (fun b37 => ?_) (fun b37 => ?_)
            · replace h := h.1 b37
              exact TX5_askMember_154 ha1 ha2 ha3 (show 7 % 8 ≠ 1 by decide) h
            · replace h := h.2 b37
              unfold vX5_askMember_148
              refine g_ld (v := cI _) rfl (is_I _) ?_
              refine g_const (v := cI (12)) rfl ?_
              refine g_eq2 ha3 ⟨by omega, by omega⟩ (fun b38 => ?_) (fun b38 => ?_)
              · replace h := h.1 b38
                exact TX5_askMember_154 ha1 ha2 ha3 (show 7 % 8 ≠ 1 by decide) h
              · replace h := h.2 b38
                unfold vX5_askMember_158
                refine g_const (v := cI (0)) rfl ?_
                exact TX5_askMember_159 ha1 ha2 ha3 (show 7 % 8 ≠ 1 by decide) ⟨by omega, by omega⟩ h
        · replace h := h.2 b35
          unfold vX5_askMember_126
          refine g_ld (v := rf _) rfl (is_R _) ?_
          refine g_ld (v := cI _) rfl (is_I _) ?_
          refine g_ld (v := cI _) rfl (is_I _) ?_
          refine g_ld (v := cI _) rfl (is_I _) ?_
          refine g_ld (v := rf _) rfl (is_R _) ?_
          refine g_callV (As := [_, _, _, _]) (ci := 5) q1 (fun _ => rfl) ?_
          refine g_go1 (Nat.le_of_ble_eq_true rfl) (Tn_w (TX5_askField ha1 ha2 ha3 h) fun _ G39 ⟨r40, e, i41, h⟩ => ?_)
          subst e
          refine ⟨n7_I _, ?_⟩
          replace h := h i41
          exact g_ret1 (is_I _) ⟨_, rfl, i41, h⟩
abbrev PX5_askMember (o : Int) (a1 : Int) (a2 : Int) (a3 : Int) (a4 : Int) (G : gS) (Q : Int → gS → Prop) : Prop := PX5_askMember_0 o a1 a2 a3 a4 G Q
theorem TX5_askMember {o : Int} {a1 : Int} {a2 : Int} {a3 : Int} {a4 : Int} {G : gS} {Q : Int → gS → Prop} (ha1 : inI a1) (ha2 : inI a2) (ha3 : inI a3) (h : PX5_askMember o a1 a2 a3 a4 G Q) : Tn W0 FX5_askMember [rf (o), cI (a1), cI (a2), cI (a3), rf (a4)] G (fun r G => ∃ v, r = cI v ∧ inI v ∧ Q v G) := by
  unfold FX5_askMember
  refine g_ent (lv' := [rf (o), cI (a1), cI (a2), cI (a3), rf (a4), 7, 7]) (flR (flI (flI (flI (flR fl0))))) (Nat.le_of_ble_eq_true rfl) rfl ?_
  exact TX5_askMember_0 ha1 ha2 ha3 h
end DE

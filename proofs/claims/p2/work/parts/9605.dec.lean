section DE
def PX10_maker_35 (J : Nat → List Int → gS → (Int → gS → Prop) → Prop) (o : Int) (l1 : Int) (l2 : Int) (l3 : Int) (G : gS) (Q : Int → gS → Prop) : Prop :=
  (inI (l2 + 1) ∧ J 0 [o, l1, l2 + 1] G Q)
set_option maxRecDepth 20000 in
theorem TX10_maker_35 {j : Nat → rx_K} {J : Nat → List Int → gS → (Int → gS → Prop) → Prop} {o : Int} {l1 : Int} {l2 : Int} {l3 : Int} {G : gS} {Q : Int → gS → Prop} (hl2 : inI l2) (hj0 : ∀ (o : Int) (l1 : Int) (l2 : Int) (l3 : Nat) (G : gS), (inI l2) → (l3 % 8 ≠ 1) → J 0 [o, l1, l2] G Q → Tg W0 (j 0) [rf (o), rf (l1), cI (l2), l3] [] G (fun r G => ∃ v, r = rf v ∧ Q v G)) (h : PX10_maker_35 J o l1 l2 l3 G Q) : Tg W0 (vX10_maker_35 j) [rf (o), rf (l1), cI (l2), rf (l3)] [] G (fun r G => ∃ v, r = rf v ∧ Q v G) := by
  unfold PX10_maker_35 at h
  unfold vX10_maker_35
  refine g_inc (lv' := [_, _, _, _]) rfl (Nat.le_of_ble_eq_true rfl) (Or.inr (n1_R _)) rfl ?_
  obtain ⟨q14, h⟩ := h
  exact hj0 _ _ _ _ _ q14 (n1_R _) h
def PX10_maker_2 (J : Nat → List Int → gS → (Int → gS → Prop) → Prop) (o : Int) (l1 : Int) (l2 : Int) (G : gS) (Q : Int → gS → Prop) : Prop :=
  (isO W0 10 (o) ∧ (inI (G o 15) → ((l2 < G o 15 → ((0 : Int) ≤ l2 ∧ ((l2 : Int) < 33 ∧ (((G (o + 4) l2 = -1 ∨ isO W0 7 (G (o + 4) l2)) ∧ ∀ v, W0.2 (o + 4) l2 = some v → G (o + 4) l2 = v) → (isO W0 7 (G (o + 4) l2) ∧ (inI (G (G (o + 4) l2) 0) → ((G (G (o + 4) l2) 0 = 2 → PX7_sameParams (G (o + 4) l2) l1 G (fun r11 G10 => (0 ≤ r11 ∧ r11 ≤ 1) → ((r11 = 0 → PX10_maker_35 J o l1 l2 (G (o + 4) l2) G10 Q) ∧ (¬ (r11 = 0) → Q (G (o + 4) l2) G10)))) ∧ (¬ (G (G (o + 4) l2) 0 = 2) → PX10_maker_35 J o l1 l2 (G (o + 4) l2) G Q)))))))) ∧ (¬ (l2 < G o 15) → Q (-1) G))))
set_option maxRecDepth 20000 in
theorem TX10_maker_2 {j : Nat → rx_K} {J : Nat → List Int → gS → (Int → gS → Prop) → Prop} {o : Int} {l1 : Int} {l2 : Int} {l3 : Nat} {G : gS} {Q : Int → gS → Prop} (hl2 : inI l2) (hl3 : l3 % 8 ≠ 1) (hj0 : ∀ (o : Int) (l1 : Int) (l2 : Int) (l3 : Nat) (G : gS), (inI l2) → (l3 % 8 ≠ 1) → J 0 [o, l1, l2] G Q → Tg W0 (j 0) [rf (o), rf (l1), cI (l2), l3] [] G (fun r G => ∃ v, r = rf v ∧ Q v G)) (h : PX10_maker_2 J o l1 l2 G Q) : Tg W0 (vX10_maker_2 j) [rf (o), rf (l1), cI (l2), l3] [] G (fun r G => ∃ v, r = rf v ∧ Q v G) := by
  unfold PX10_maker_2 at h
  unfold vX10_maker_2
  refine g_ld (v := cI _) rfl (is_I _) ?_
  refine g_ld (v := rf _) rfl (is_R _) ?_
  obtain ⟨q1, h⟩ := h
  refine g_getI (kz := 15) q1 rfl (Nat.le_of_ble_eq_true rfl) rfl fun i2 => ?_
  replace h := h i2
  refine g_lt2 hl2 i2 (fun b3 => ?_) (fun b3 => ?_)
  · replace h := h.1 b3
    unfold vX10_maker_10
    refine g_ld (v := rf _) rfl (is_R _) ?_
    refine g_getF q1 (ff10_14 q1).1 rfl (Nat.le_of_ble_eq_true rfl) (Nat.le_of_ble_eq_true rfl) ?_
    refine g_ld (v := cI _) rfl (is_I _) ?_
    obtain ⟨q4, q5, h⟩ := h
    refine g_aldRF (c := 7) (ff10_14 q1).2 q4 q5 rfl (by decide) fun i6 => ?_
    replace h := h i6
    refine g_st (lv' := [_, _, _, _]) (is_R _) (Nat.le_of_ble_eq_true rfl) (Or.inr (n1_I _)) rfl ?_
    refine g_ld (v := rf _) rfl (is_R _) ?_
    obtain ⟨q7, h⟩ := h
    refine g_getI (kz := 0) q7 rfl (Nat.le_of_ble_eq_true rfl) rfl fun i8 => ?_
    replace h := h i8
    refine g_const (v := cI (2)) rfl ?_
    refine g_eq2 i8 ⟨by omega, by omega⟩ (fun b9 => ?_) (fun b9 => ?_)
    · replace h := h.1 b9
      unfold vX10_maker_25
      refine g_ld (v := rf _) rfl (is_R _) ?_
      refine g_ld (v := rf _) rfl (is_R _) ?_
      refine g_callV (As := [_]) (ci := 7) q7 (fun _ => rfl) ?_
      refine g_go1 (Nat.le_of_ble_eq_true rfl) (Tn_w (TX7_sameParams  h) fun _ G10 ⟨r11, e, i12, h⟩ => ?_)
      subst e
      refine ⟨n7_I _, ?_⟩
      replace h := h i12
      refine g_eq1 ⟨by omega, by omega⟩ (fun b13 => ?_) (fun b13 => ?_)
      · replace h := h.1 b13
        exact TX10_maker_35 hl2 hj0 h
      · replace h := h.2 b13
        unfold vX10_maker_33
        refine g_ld (v := rf _) rfl (is_R _) ?_
        exact g_ret1 (is_R _) ⟨_, rfl, h⟩
    · replace h := h.2 b9
      exact TX10_maker_35 hl2 hj0 h
  · replace h := h.2 b3
    unfold vX10_maker_41
    refine g_const (v := rf (-1)) rfl ?_
    exact g_ret1 (is_R _) ⟨_, rfl, h⟩
def PX10_maker_0 (J : Nat → List Int → gS → (Int → gS → Prop) → Prop) (o : Int) (a1 : Int) (G : gS) (Q : Int → gS → Prop) : Prop :=
  PX10_maker_2 J o a1 0 G Q
set_option maxRecDepth 20000 in
theorem TX10_maker_0 {j : Nat → rx_K} {J : Nat → List Int → gS → (Int → gS → Prop) → Prop} {o : Int} {a1 : Int} {G : gS} {Q : Int → gS → Prop}  (hj0 : ∀ (o : Int) (l1 : Int) (l2 : Int) (l3 : Nat) (G : gS), (inI l2) → (l3 % 8 ≠ 1) → J 0 [o, l1, l2] G Q → Tg W0 (j 0) [rf (o), rf (l1), cI (l2), l3] [] G (fun r G => ∃ v, r = rf v ∧ Q v G)) (h : PX10_maker_0 J o a1 G Q) : Tg W0 (vX10_maker_0 j) [rf (o), rf (a1), 7, 7] [] G (fun r G => ∃ v, r = rf v ∧ Q v G) := by
  unfold PX10_maker_0 at h
  unfold vX10_maker_0
  refine g_const (v := cI (0)) rfl ?_
  refine g_st (lv' := [_, _, _, _]) (is_I _) (Nat.le_of_ble_eq_true rfl) (Or.inr (n1_R _)) rfl ?_
  exact TX10_maker_2 ⟨by omega, by omega⟩ (show 7 % 8 ≠ 1 by decide) hj0 h
def PX10_maker_J : Nat → Nat → List Int → gS → (Int → gS → Prop) → Prop
  | 0, _, _, _, _ => False
  | f + 1, h, L, G, Q => match h, L with
    | 0, [o, l1, l2] => PX10_maker_2 (PX10_maker_J f) o l1 l2 G Q
    | _, _ => False
theorem TX10_maker_J {Q : Int → gS → Prop} : ∀ f N : Nat, f ≤ N → (∀ (o : Int) (l1 : Int) (l2 : Int) (l3 : Nat) (G : gS), (inI l2) → (l3 % 8 ≠ 1) → (PX10_maker_J f) 0 [o, l1, l2] G Q → Tg W0 (rx_J vhX10_maker N 0) [rf (o), rf (l1), cI (l2), l3] [] G (fun r G => ∃ v, r = rf v ∧ Q v G)) := by
  intro f
  induction f with
  | zero => exact fun N _ => fun _ _ _ _ _ _ _ h => h.elim
  | succ f ih =>
    intro N hN
    obtain ⟨M, rfl⟩ : ∃ M, N = M + 1 := ⟨N - 1, by omega⟩
    have ih := ih M (by omega)
    exact fun _ _ _ _ _ hl2 hl3 h => show Tg W0 (vX10_maker_2 (rx_J vhX10_maker M)) _ _ _ _ from TX10_maker_2 hl2 hl3 ih h
def PX10_maker (o : Int) (a1 : Int) (G : gS) (Q : Int → gS → Prop) : Prop := ∃ f : Nat, f ≤ 4000000000 ∧ PX10_maker_0 (PX10_maker_J f) o a1 G Q
theorem TX10_maker {o : Int} {a1 : Int} {G : gS} {Q : Int → gS → Prop}  (h : PX10_maker o a1 G Q) : Tn W0 FX10_maker [rf (o), rf (a1)] G (fun r G => ∃ v, r = rf v ∧ Q v G) := by
  obtain ⟨f, hf, h⟩ := h
  have hJ := TX10_maker_J (Q := Q) f 4000000000 hf
  unfold FX10_maker
  refine g_ent (lv' := [rf (o), rf (a1), 7, 7]) (flR (flR fl0)) (Nat.le_of_ble_eq_true rfl) rfl ?_
  exact TX10_maker_0  hJ h
def PX2_makers_198 (J : Nat → List Int → gS → (Int → gS → Prop) → Prop) (l1 : Int) (l2 : Int) (l3 : Int) (l4 : Int) (l5 : Int) (s0 : Int) (s1 : Int) (G : gS) (Q : Int → gS → Prop) : Prop :=
  (inI (s0 + s1) ∧ (inI (l4 + 1) ∧ J 1 [l1, l2, s0 + s1, l4 + 1] G Q))
set_option maxRecDepth 20000 in
theorem TX2_makers_198 {j : Nat → rx_K} {J : Nat → List Int → gS → (Int → gS → Prop) → Prop} {l1 : Int} {l2 : Int} {l3 : Int} {l4 : Int} {l5 : Int} {l6 : Nat} {l7 : Nat} {s0 : Int} {s1 : Int} {G : gS} {Q : Int → gS → Prop} (hl3 : inI l3) (hl4 : inI l4) (hl6 : l6 % 8 ≠ 1) (hl7 : l7 % 8 ≠ 1) (hs0 : inI s0) (hs1 : inI s1) (hj0 : ∀ (l1 : Int) (l2 : Int) (l3 : Int) (l4 : Int) (l5 : Nat) (l6 : Nat) (l7 : Nat) (G : gS), (inI l3) → (inI l4) → (l5 % 8 ≠ 1) → (l6 % 8 ≠ 1) → (l7 % 8 ≠ 1) → J 0 [l1, l2, l3, l4] G Q → Tg W0 (j 0) [rf (934), rf (l1), rf (l2), cI (l3), cI (l4), l5, l6, l7] [] G (fun r G => ∃ v, r = cI v ∧ inI v ∧ Q v G)) (hj1 : ∀ (l1 : Int) (l2 : Int) (l3 : Int) (l4 : Int) (l5 : Nat) (l6 : Nat) (l7 : Nat) (G : gS), (inI l3) → (inI l4) → (l5 % 8 ≠ 1) → (l6 % 8 ≠ 1) → (l7 % 8 ≠ 1) → J 1 [l1, l2, l3, l4] G Q → Tg W0 (j 1) [rf (934), rf (l1), rf (l2), cI (l3), cI (l4), l5, l6, l7] [] G (fun r G => ∃ v, r = cI v ∧ inI v ∧ Q v G)) (h : PX2_makers_198 J l1 l2 l3 l4 l5 s0 s1 G Q) : Tg W0 (vX2_makers_198 j) [rf (934), rf (l1), rf (l2), cI (l3), cI (l4), rf (l5), l6, l7] [cI (s1), cI (s0)] G (fun r G => ∃ v, r = cI v ∧ inI v ∧ Q v G) := by
  unfold PX2_makers_198 at h
  unfold vX2_makers_198
  refine g_add ?_
  refine g_st (lv' := [_, _, _, _, _, _, _, _]) (is_I _) (Nat.le_of_ble_eq_true rfl) (Or.inr (n1_R _)) rfl ?_
  obtain ⟨q59, h⟩ := h
  refine g_inc (lv' := [_, _, _, _, _, _, _, _]) rfl (Nat.le_of_ble_eq_true rfl) (Or.inr (n1_I _)) rfl ?_
  obtain ⟨q60, h⟩ := h
  exact hj1 _ _ _ _ _ _ _ _ q59 q60 (n1_R _) hl6 hl7 h
def PX2_makers_197 (J : Nat → List Int → gS → (Int → gS → Prop) → Prop) (l1 : Int) (l2 : Int) (l3 : Int) (l4 : Int) (l5 : Int) (s0 : Int) (G : gS) (Q : Int → gS → Prop) : Prop :=
  PX2_makers_198 J l1 l2 l3 l4 l5 s0 0 G Q
set_option maxRecDepth 20000 in
theorem TX2_makers_197 {j : Nat → rx_K} {J : Nat → List Int → gS → (Int → gS → Prop) → Prop} {l1 : Int} {l2 : Int} {l3 : Int} {l4 : Int} {l5 : Int} {l6 : Nat} {l7 : Nat} {s0 : Int} {G : gS} {Q : Int → gS → Prop} (hl3 : inI l3) (hl4 : inI l4) (hl6 : l6 % 8 ≠ 1) (hl7 : l7 % 8 ≠ 1) (hs0 : inI s0) (hj0 : ∀ (l1 : Int) (l2 : Int) (l3 : Int) (l4 : Int) (l5 : Nat) (l6 : Nat) (l7 : Nat) (G : gS), (inI l3) → (inI l4) → (l5 % 8 ≠ 1) → (l6 % 8 ≠ 1) → (l7 % 8 ≠ 1) → J 0 [l1, l2, l3, l4] G Q → Tg W0 (j 0) [rf (934), rf (l1), rf (l2), cI (l3), cI (l4), l5, l6, l7] [] G (fun r G => ∃ v, r = cI v ∧ inI v ∧ Q v G)) (hj1 : ∀ (l1 : Int) (l2 : Int) (l3 : Int) (l4 : Int) (l5 : Nat) (l6 : Nat) (l7 : Nat) (G : gS), (inI l3) → (inI l4) → (l5 % 8 ≠ 1) → (l6 % 8 ≠ 1) → (l7 % 8 ≠ 1) → J 1 [l1, l2, l3, l4] G Q → Tg W0 (j 1) [rf (934), rf (l1), rf (l2), cI (l3), cI (l4), l5, l6, l7] [] G (fun r G => ∃ v, r = cI v ∧ inI v ∧ Q v G)) (h : PX2_makers_197 J l1 l2 l3 l4 l5 s0 G Q) : Tg W0 (vX2_makers_197 j) [rf (934), rf (l1), rf (l2), cI (l3), cI (l4), rf (l5), l6, l7] [cI (s0)] G (fun r G => ∃ v, r = cI v ∧ inI v ∧ Q v G) := by
  unfold PX2_makers_197 at h
  unfold vX2_makers_197
  refine g_const (v := cI (0)) rfl ?_
  exact TX2_makers_198 hl3 hl4 hl6 hl7 hs0 ⟨by omega, by omega⟩ hj0 hj1 h
def PX2_makers_147 (J : Nat → List Int → gS → (Int → gS → Prop) → Prop) (l1 : Int) (l2 : Int) (l3 : Int) (l4 : Int) (G : gS) (Q : Int → gS → Prop) : Prop :=
  (isO W0 10 (l2) ∧ (inI (G l2 15) → ((l4 < G l2 15 → ((0 : Int) ≤ l4 ∧ ((l4 : Int) < 33 ∧ (((G (l2 + 4) l4 = -1 ∨ isO W0 7 (G (l2 + 4) l4)) ∧ ∀ v, W0.2 (l2 + 4) l4 = some v → G (l2 + 4) l4 = v) → (isO W0 7 (G (l2 + 4) l4) ∧ (inI (G (G (l2 + 4) l4) 0) → ((G (G (l2 + 4) l4) 0 = 2 → (isO W0 10 (l1) ∧ PX10_maker l1 (G (l2 + 4) l4) G (fun r33 G32 => ((r33 < 0 → PX2_note 54 (-2) l4 G32 (fun r37 G36 => inI r37 → PX2_makers_198 J l1 l2 l3 l4 (G (l2 + 4) l4) l3 r37 G36 Q)) ∧ (0 ≤ r33 → PX2_makers_197 J l1 l2 l3 l4 (G (l2 + 4) l4) l3 G32 Q))))) ∧ (¬ (G (G (l2 + 4) l4) 0 = 2) → PX2_makers_197 J l1 l2 l3 l4 (G (l2 + 4) l4) l3 G Q)))))))) ∧ (¬ (l4 < G l2 15) → Q (l3) G))))
set_option maxRecDepth 20000 in
theorem TX2_makers_147 {j : Nat → rx_K} {J : Nat → List Int → gS → (Int → gS → Prop) → Prop} {l1 : Int} {l2 : Int} {l3 : Int} {l4 : Int} {l5 : Nat} {l6 : Nat} {l7 : Nat} {G : gS} {Q : Int → gS → Prop} (hl3 : inI l3) (hl4 : inI l4) (hl5 : l5 % 8 ≠ 1) (hl6 : l6 % 8 ≠ 1) (hl7 : l7 % 8 ≠ 1) (hj0 : ∀ (l1 : Int) (l2 : Int) (l3 : Int) (l4 : Int) (l5 : Nat) (l6 : Nat) (l7 : Nat) (G : gS), (inI l3) → (inI l4) → (l5 % 8 ≠ 1) → (l6 % 8 ≠ 1) → (l7 % 8 ≠ 1) → J 0 [l1, l2, l3, l4] G Q → Tg W0 (j 0) [rf (934), rf (l1), rf (l2), cI (l3), cI (l4), l5, l6, l7] [] G (fun r G => ∃ v, r = cI v ∧ inI v ∧ Q v G)) (hj1 : ∀ (l1 : Int) (l2 : Int) (l3 : Int) (l4 : Int) (l5 : Nat) (l6 : Nat) (l7 : Nat) (G : gS), (inI l3) → (inI l4) → (l5 % 8 ≠ 1) → (l6 % 8 ≠ 1) → (l7 % 8 ≠ 1) → J 1 [l1, l2, l3, l4] G Q → Tg W0 (j 1) [rf (934), rf (l1), rf (l2), cI (l3), cI (l4), l5, l6, l7] [] G (fun r G => ∃ v, r = cI v ∧ inI v ∧ Q v G)) (h : PX2_makers_147 J l1 l2 l3 l4 G Q) : Tg W0 (vX2_makers_147 j) [rf (934), rf (l1), rf (l2), cI (l3), cI (l4), l5, l6, l7] [] G (fun r G => ∃ v, r = cI v ∧ inI v ∧ Q v G) := by
  unfold PX2_makers_147 at h
  unfold vX2_makers_147
  refine g_ld (v := cI _) rfl (is_I _) ?_
  refine g_ld (v := rf _) rfl (is_R _) ?_
  obtain ⟨q22, h⟩ := h
  refine g_getI (kz := 15) q22 rfl (Nat.le_of_ble_eq_true rfl) rfl fun i23 => ?_
  replace h := h i23
  refine g_lt2 hl4 i23 (fun b24 => ?_) (fun b24 => ?_)
  · replace h := h.1 b24
    unfold vX2_makers_156
    refine g_ld (v := rf _) rfl (is_R _) ?_
    refine g_getF q22 (ff10_14 q22).1 rfl (Nat.le_of_ble_eq_true rfl) (Nat.le_of_ble_eq_true rfl) ?_
    refine g_ld (v := cI _) rfl (is_I _) ?_
    obtain ⟨q25, q26, h⟩ := h
    refine g_aldRF (c := 7) (ff10_14 q22).2 q25 q26 rfl (by decide) fun i27 => ?_
    replace h := h i27
    refine g_st (lv' := [_, _, _, _, _, _, _, _]) (is_R _) (Nat.le_of_ble_eq_true rfl) (Or.inr (n1_I _)) rfl ?_
    refine g_ld (v := cI _) rfl (is_I _) ?_
    refine g_ld (v := rf _) rfl (is_R _) ?_
    obtain ⟨q28, h⟩ := h
    refine g_getI (kz := 0) q28 rfl (Nat.le_of_ble_eq_true rfl) rfl fun i29 => ?_
    replace h := h i29
    refine g_const (v := cI (2)) rfl ?_
    refine g_eq2 i29 ⟨by omega, by omega⟩ (fun b30 => ?_) (fun b30 => ?_)
    · replace h := h.1 b30
      unfold vX2_makers_175
      refine g_ld (v := rf _) rfl (is_R _) ?_
      refine g_ld (v := rf _) rfl (is_R _) ?_
      obtain ⟨q31, h⟩ := h
      refine g_callV (As := [_]) (ci := 10) q31 (fun _ => rfl) ?_
      refine g_go1 (by simp only [cs_c, cs_0, ct_I, ct_L, ct_R]; exact Nat.le_of_ble_eq_true rfl) (Tn_w (TX10_maker  h) fun _ G32 ⟨r33, e, h⟩ => ?_)
      subst e
      refine ⟨n7_R _, ?_⟩
      refine g_nul (fun b35 => ?_) (fun b35 => ?_)
      · replace h := h.1 b35
        unfold vX2_makers_184
        refine g_ld (v := rf _) rfl (is_R _) ?_
        refine g_const (v := cI (54)) rfl ?_
        refine g_const (v := cI (-2)) rfl ?_
        refine g_ld (v := cI _) rfl (is_I _) ?_
        refine g_callV (As := [_, _, _]) (ci := 2) oC2 (fun _ => rfl) ?_
        refine g_go1 (by simp only [cs_c, cs_0, ct_I, ct_L, ct_R]; exact Nat.le_of_ble_eq_true rfl) (Tn_w (TX2_note ⟨by omega, by omega⟩ ⟨by omega, by omega⟩ hl4 h) fun _ G36 ⟨r37, e, i38, h⟩ => ?_)
        subst e
        refine ⟨n7_I _, ?_⟩
        replace h := h i38
        exact TX2_makers_198 hl3 hl4 hl6 hl7 hl3 i38 hj0 hj1 h
      · replace h := h.2 b35
        exact TX2_makers_197 hl3 hl4 hl6 hl7 hl3 hj0 hj1 h
    · replace h := h.2 b30
      exact TX2_makers_197 hl3 hl4 hl6 hl7 hl3 hj0 hj1 h
  · replace h := h.2 b24
    unfold vX2_makers_206
    refine g_ld (v := cI _) rfl (is_I _) ?_
    exact g_ret1 (is_I _) ⟨_, rfl, hl3, h⟩
def PX2_makers_138 (J : Nat → List Int → gS → (Int → gS → Prop) → Prop) (l1 : Int) (l2 : Int) (l3 : Int) (l4 : Int) (l5 : Int) (l6 : Int) (G : gS) (Q : Int → gS → Prop) : Prop :=
  (inI (l4 + 1) ∧ J 0 [l1, l2, l3, l4 + 1] G Q)
set_option maxRecDepth 20000 in
theorem TX2_makers_138 {j : Nat → rx_K} {J : Nat → List Int → gS → (Int → gS → Prop) → Prop} {l1 : Int} {l2 : Int} {l3 : Int} {l4 : Int} {l5 : Int} {l6 : Int} {l7 : Nat} {G : gS} {Q : Int → gS → Prop} (hl3 : inI l3) (hl4 : inI l4) (hl7 : l7 % 8 ≠ 1) (hj0 : ∀ (l1 : Int) (l2 : Int) (l3 : Int) (l4 : Int) (l5 : Nat) (l6 : Nat) (l7 : Nat) (G : gS), (inI l3) → (inI l4) → (l5 % 8 ≠ 1) → (l6 % 8 ≠ 1) → (l7 % 8 ≠ 1) → J 0 [l1, l2, l3, l4] G Q → Tg W0 (j 0) [rf (934), rf (l1), rf (l2), cI (l3), cI (l4), l5, l6, l7] [] G (fun r G => ∃ v, r = cI v ∧ inI v ∧ Q v G)) (hj1 : ∀ (l1 : Int) (l2 : Int) (l3 : Int) (l4 : Int) (l5 : Nat) (l6 : Nat) (l7 : Nat) (G : gS), (inI l3) → (inI l4) → (l5 % 8 ≠ 1) → (l6 % 8 ≠ 1) → (l7 % 8 ≠ 1) → J 1 [l1, l2, l3, l4] G Q → Tg W0 (j 1) [rf (934), rf (l1), rf (l2), cI (l3), cI (l4), l5, l6, l7] [] G (fun r G => ∃ v, r = cI v ∧ inI v ∧ Q v G)) (h : PX2_makers_138 J l1 l2 l3 l4 l5 l6 G Q) : Tg W0 (vX2_makers_138 j) [rf (934), rf (l1), rf (l2), cI (l3), cI (l4), rf (l5), rf (l6), l7] [] G (fun r G => ∃ v, r = cI v ∧ inI v ∧ Q v G) := by
  unfold PX2_makers_138 at h
  unfold vX2_makers_138
  refine g_inc (lv' := [_, _, _, _, _, _, _, _]) rfl (Nat.le_of_ble_eq_true rfl) (Or.inr (n1_I _)) rfl ?_
  obtain ⟨q39, h⟩ := h
  exact hj0 _ _ _ _ _ _ _ _ hl3 q39 (n1_R _) (n1_R _) hl7 h
def PX2_makers_136 (J : Nat → List Int → gS → (Int → gS → Prop) → Prop) (l1 : Int) (l2 : Int) (l3 : Int) (l4 : Int) (l5 : Int) (l6 : Int) (l7 : Int) (s0 : Int) (s1 : Int) (G : gS) (Q : Int → gS → Prop) : Prop :=
  (inI (s0 + s1) ∧ PX2_makers_138 J l1 l2 (s0 + s1) l4 l5 l6 G Q)
set_option maxRecDepth 20000 in
theorem TX2_makers_136 {j : Nat → rx_K} {J : Nat → List Int → gS → (Int → gS → Prop) → Prop} {l1 : Int} {l2 : Int} {l3 : Int} {l4 : Int} {l5 : Int} {l6 : Int} {l7 : Int} {s0 : Int} {s1 : Int} {G : gS} {Q : Int → gS → Prop} (hl3 : inI l3) (hl4 : inI l4) (hl7 : inI l7) (hs0 : inI s0) (hs1 : inI s1) (hj0 : ∀ (l1 : Int) (l2 : Int) (l3 : Int) (l4 : Int) (l5 : Nat) (l6 : Nat) (l7 : Nat) (G : gS), (inI l3) → (inI l4) → (l5 % 8 ≠ 1) → (l6 % 8 ≠ 1) → (l7 % 8 ≠ 1) → J 0 [l1, l2, l3, l4] G Q → Tg W0 (j 0) [rf (934), rf (l1), rf (l2), cI (l3), cI (l4), l5, l6, l7] [] G (fun r G => ∃ v, r = cI v ∧ inI v ∧ Q v G)) (hj1 : ∀ (l1 : Int) (l2 : Int) (l3 : Int) (l4 : Int) (l5 : Nat) (l6 : Nat) (l7 : Nat) (G : gS), (inI l3) → (inI l4) → (l5 % 8 ≠ 1) → (l6 % 8 ≠ 1) → (l7 % 8 ≠ 1) → J 1 [l1, l2, l3, l4] G Q → Tg W0 (j 1) [rf (934), rf (l1), rf (l2), cI (l3), cI (l4), l5, l6, l7] [] G (fun r G => ∃ v, r = cI v ∧ inI v ∧ Q v G)) (h : PX2_makers_136 J l1 l2 l3 l4 l5 l6 l7 s0 s1 G Q) : Tg W0 (vX2_makers_136 j) [rf (934), rf (l1), rf (l2), cI (l3), cI (l4), rf (l5), rf (l6), cI (l7)] [cI (s1), cI (s0)] G (fun r G => ∃ v, r = cI v ∧ inI v ∧ Q v G) := by
  unfold PX2_makers_136 at h
  unfold vX2_makers_136
  refine g_add ?_
  refine g_st (lv' := [_, _, _, _, _, _, _, _]) (is_I _) (Nat.le_of_ble_eq_true rfl) (Or.inr (n1_R _)) rfl ?_
  obtain ⟨q61, h⟩ := h
  exact TX2_makers_138 q61 hl4 (n1_I _) hj0 hj1 h
def PX2_makers_74 (J : Nat → List Int → gS → (Int → gS → Prop) → Prop) (l1 : Int) (l2 : Int) (l3 : Int) (l4 : Int) (l5 : Int) (l6 : Int) (G : gS) (Q : Int → gS → Prop) : Prop :=
  ((l6 < 0 → PX2_makers_138 J l1 l2 l3 l4 l5 l6 G Q) ∧ (0 ≤ l6 → PX2_indexIn l2 l6 G (fun r42 G41 => inI r42 → (isO W0 7 (l5) ∧ (inI (G41 l5 1) → (isO W0 7 (l6) ∧ (inI (G41 l6 1) → PX2_access (G41 l5 1) (G41 l6 1) 51 l4 r42 G41 (fun r49 G48 => inI r49 → (inI (l3 + r49) ∧ PX2_sameBlocks l5 l6 G48 (fun r53 G52 => (0 ≤ r53 ∧ r53 ≤ 1) → ((r53 = 0 → PX2_note 53 l4 r42 G52 (fun r57 G56 => inI r57 → PX2_makers_136 J l1 l2 (l3 + r49) l4 l5 l6 r42 (l3 + r49) r57 G56 Q)) ∧ (¬ (r53 = 0) → PX2_makers_136 J l1 l2 (l3 + r49) l4 l5 l6 r42 (l3 + r49) 0 G52 Q))))))))))))
set_option maxRecDepth 20000 in
theorem TX2_makers_74 {j : Nat → rx_K} {J : Nat → List Int → gS → (Int → gS → Prop) → Prop} {l1 : Int} {l2 : Int} {l3 : Int} {l4 : Int} {l5 : Int} {l6 : Int} {l7 : Nat} {G : gS} {Q : Int → gS → Prop} (hl3 : inI l3) (hl4 : inI l4) (hl7 : l7 % 8 ≠ 1) (hj0 : ∀ (l1 : Int) (l2 : Int) (l3 : Int) (l4 : Int) (l5 : Nat) (l6 : Nat) (l7 : Nat) (G : gS), (inI l3) → (inI l4) → (l5 % 8 ≠ 1) → (l6 % 8 ≠ 1) → (l7 % 8 ≠ 1) → J 0 [l1, l2, l3, l4] G Q → Tg W0 (j 0) [rf (934), rf (l1), rf (l2), cI (l3), cI (l4), l5, l6, l7] [] G (fun r G => ∃ v, r = cI v ∧ inI v ∧ Q v G)) (hj1 : ∀ (l1 : Int) (l2 : Int) (l3 : Int) (l4 : Int) (l5 : Nat) (l6 : Nat) (l7 : Nat) (G : gS), (inI l3) → (inI l4) → (l5 % 8 ≠ 1) → (l6 % 8 ≠ 1) → (l7 % 8 ≠ 1) → J 1 [l1, l2, l3, l4] G Q → Tg W0 (j 1) [rf (934), rf (l1), rf (l2), cI (l3), cI (l4), l5, l6, l7] [] G (fun r G => ∃ v, r = cI v ∧ inI v ∧ Q v G)) (h : PX2_makers_74 J l1 l2 l3 l4 l5 l6 G Q) : Tg W0 (vX2_makers_74 j) [rf (934), rf (l1), rf (l2), cI (l3), cI (l4), rf (l5), rf (l6), l7] [] G (fun r G => ∃ v, r = cI v ∧ inI v ∧ Q v G) := by
  unfold PX2_makers_74 at h
  unfold vX2_makers_74
  refine g_ld (v := rf _) rfl (is_R _) ?_
  refine g_nul (fun b40 => ?_) (fun b40 => ?_)
  · replace h := h.1 b40
    exact TX2_makers_138 hl3 hl4 hl7 hj0 hj1 h
  · replace h := h.2 b40
    unfold vX2_makers_79
    refine g_ld (v := rf _) rfl (is_R _) ?_
    refine g_ld (v := rf _) rfl (is_R _) ?_
    refine g_callS (As := [_, _]) (fun _ => rfl) ?_
    refine g_go1 (Nat.le_of_ble_eq_true rfl) (Tn_w (TX2_indexIn  h) fun _ G41 ⟨r42, e, i43, h⟩ => ?_)
    subst e
    refine ⟨n7_I _, ?_⟩
    replace h := h i43
    refine g_st (lv' := [_, _, _, _, _, _, _, _]) (is_I _) (Nat.le_of_ble_eq_true rfl) (Or.inr (n1_R _)) rfl ?_
    refine g_ld (v := cI _) rfl (is_I _) ?_
    refine g_ld (v := rf _) rfl (is_R _) ?_
    refine g_ld (v := rf _) rfl (is_R _) ?_
    obtain ⟨q44, h⟩ := h
    refine g_getI (kz := 1) q44 rfl (Nat.le_of_ble_eq_true rfl) rfl fun i45 => ?_
    replace h := h i45
    refine g_ld (v := rf _) rfl (is_R _) ?_
    obtain ⟨q46, h⟩ := h
    refine g_getI (kz := 1) q46 rfl (Nat.le_of_ble_eq_true rfl) rfl fun i47 => ?_
    replace h := h i47
    refine g_const (v := cI (51)) rfl ?_
    refine g_ld (v := cI _) rfl (is_I _) ?_
    refine g_ld (v := cI _) rfl (is_I _) ?_
    refine g_callV (As := [_, _, _, _, _]) (ci := 2) oC2 (fun _ => rfl) ?_
    refine g_go1 (by simp only [cs_c, cs_0, ct_I, ct_L, ct_R]; exact Nat.le_of_ble_eq_true rfl) (Tn_w (TX2_access i45 i47 ⟨by omega, by omega⟩ hl4 i43 h) fun _ G48 ⟨r49, e, i50, h⟩ => ?_)
    subst e
    refine ⟨n7_I _, ?_⟩
    replace h := h i50
    refine g_add ?_
    refine g_st (lv' := [_, _, _, _, _, _, _, _]) (is_I _) (Nat.le_of_ble_eq_true rfl) (Or.inr (n1_R _)) rfl ?_
    obtain ⟨q51, h⟩ := h
    refine g_ld (v := cI _) rfl (is_I _) ?_
    refine g_ld (v := rf _) rfl (is_R _) ?_
    refine g_ld (v := rf _) rfl (is_R _) ?_
    refine g_ld (v := rf _) rfl (is_R _) ?_
    refine g_callV (As := [_, _]) (ci := 2) oC2 (fun _ => rfl) ?_
    refine g_go1 (by simp only [cs_c, cs_0, ct_I, ct_L, ct_R]; exact Nat.le_of_ble_eq_true rfl) (Tn_w (TX2_sameBlocks  h) fun _ G52 ⟨r53, e, i54, h⟩ => ?_)
    subst e
    refine ⟨n7_I _, ?_⟩
    replace h := h i54
    refine g_eq1 ⟨by omega, by omega⟩ (fun b55 => ?_) (fun b55 => ?_)
    · replace h := h.1 b55
      unfold vX2_makers_126
      refine g_ld (v := rf _) rfl (is_R _) ?_
      refine g_const (v := cI (53)) rfl ?_
      refine g_ld (v := cI _) rfl (is_I _) ?_
      refine g_ld (v := cI _) rfl (is_I _) ?_
      refine g_callV (As := [_, _, _]) (ci := 2) oC2 (fun _ => rfl) ?_
      refine g_go1 (by simp only [cs_c, cs_0, ct_I, ct_L, ct_R]; exact Nat.le_of_ble_eq_true rfl) (Tn_w (TX2_note ⟨by omega, by omega⟩ hl4 i43 h) fun _ G56 ⟨r57, e, i58, h⟩ => ?_)
      subst e
      refine ⟨n7_I _, ?_⟩
      replace h := h i58
      exact TX2_makers_136 q51 hl4 i43 q51 i58 hj0 hj1 h
    · replace h := h.2 b55
      unfold vX2_makers_122
      refine g_const (v := cI (0)) rfl ?_
      exact TX2_makers_136 q51 hl4 i43 q51 ⟨by omega, by omega⟩ hj0 hj1 h
def PX2_makers_42 (J : Nat → List Int → gS → (Int → gS → Prop) → Prop) (l1 : Int) (l2 : Int) (l3 : Int) (l4 : Int) (l5 : Int) (s0 : Int) (G : gS) (Q : Int → gS → Prop) : Prop :=
  (isO W0 7 (l5) ∧ (inI (G l5 0) → ((G l5 0 = 2 → ((s0 < 0 → PX2_note 50 l4 (-2) G (fun r19 G18 => inI r19 → (inI (l3 + r19) ∧ PX2_makers_138 J l1 l2 (l3 + r19) l4 l5 s0 G18 Q))) ∧ (0 ≤ s0 → PX2_makers_74 J l1 l2 l3 l4 l5 s0 G Q))) ∧ (¬ (G l5 0 = 2) → PX2_makers_74 J l1 l2 l3 l4 l5 s0 G Q))))
set_option maxRecDepth 20000 in
theorem TX2_makers_42 {j : Nat → rx_K} {J : Nat → List Int → gS → (Int → gS → Prop) → Prop} {l1 : Int} {l2 : Int} {l3 : Int} {l4 : Int} {l5 : Int} {l6 : Nat} {l7 : Nat} {s0 : Int} {G : gS} {Q : Int → gS → Prop} (hl3 : inI l3) (hl4 : inI l4) (hl6 : l6 % 8 ≠ 1) (hl7 : l7 % 8 ≠ 1) (hj0 : ∀ (l1 : Int) (l2 : Int) (l3 : Int) (l4 : Int) (l5 : Nat) (l6 : Nat) (l7 : Nat) (G : gS), (inI l3) → (inI l4) → (l5 % 8 ≠ 1) → (l6 % 8 ≠ 1) → (l7 % 8 ≠ 1) → J 0 [l1, l2, l3, l4] G Q → Tg W0 (j 0) [rf (934), rf (l1), rf (l2), cI (l3), cI (l4), l5, l6, l7] [] G (fun r G => ∃ v, r = cI v ∧ inI v ∧ Q v G)) (hj1 : ∀ (l1 : Int) (l2 : Int) (l3 : Int) (l4 : Int) (l5 : Nat) (l6 : Nat) (l7 : Nat) (G : gS), (inI l3) → (inI l4) → (l5 % 8 ≠ 1) → (l6 % 8 ≠ 1) → (l7 % 8 ≠ 1) → J 1 [l1, l2, l3, l4] G Q → Tg W0 (j 1) [rf (934), rf (l1), rf (l2), cI (l3), cI (l4), l5, l6, l7] [] G (fun r G => ∃ v, r = cI v ∧ inI v ∧ Q v G)) (h : PX2_makers_42 J l1 l2 l3 l4 l5 s0 G Q) : Tg W0 (vX2_makers_42 j) [rf (934), rf (l1), rf (l2), cI (l3), cI (l4), rf (l5), l6, l7] [rf (s0)] G (fun r G => ∃ v, r = cI v ∧ inI v ∧ Q v G) := by
  unfold PX2_makers_42 at h
  unfold vX2_makers_42
  refine g_st (lv' := [_, _, _, _, _, _, _, _]) (is_R _) (Nat.le_of_ble_eq_true rfl) (Or.inr (n1_R _)) rfl ?_
  refine g_ld (v := rf _) rfl (is_R _) ?_
  obtain ⟨q14, h⟩ := h
  refine g_getI (kz := 0) q14 rfl (Nat.le_of_ble_eq_true rfl) rfl fun i15 => ?_
  replace h := h i15
  refine g_const (v := cI (2)) rfl ?_
  refine g_eq2 i15 ⟨by omega, by omega⟩ (fun b16 => ?_) (fun b16 => ?_)
  · replace h := h.1 b16
    unfold vX2_makers_53
    refine g_ld (v := rf _) rfl (is_R _) ?_
    refine g_nul (fun b17 => ?_) (fun b17 => ?_)
    · replace h := h.1 b17
      unfold vX2_makers_58
      refine g_ld (v := cI _) rfl (is_I _) ?_
      refine g_ld (v := rf _) rfl (is_R _) ?_
      refine g_const (v := cI (50)) rfl ?_
      refine g_ld (v := cI _) rfl (is_I _) ?_
      refine g_const (v := cI (-2)) rfl ?_
      refine g_callV (As := [_, _, _]) (ci := 2) oC2 (fun _ => rfl) ?_
      refine g_go1 (by simp only [cs_c, cs_0, ct_I, ct_L, ct_R]; exact Nat.le_of_ble_eq_true rfl) (Tn_w (TX2_note ⟨by omega, by omega⟩ hl4 ⟨by omega, by omega⟩ h) fun _ G18 ⟨r19, e, i20, h⟩ => ?_)
      subst e
      refine ⟨n7_I _, ?_⟩
      replace h := h i20
      refine g_add ?_
      refine g_st (lv' := [_, _, _, _, _, _, _, _]) (is_I _) (Nat.le_of_ble_eq_true rfl) (Or.inr (n1_R _)) rfl ?_
      obtain ⟨q21, h⟩ := h
      exact TX2_makers_138 q21 hl4 hl7 hj0 hj1 h
    · replace h := h.2 b17
      exact TX2_makers_74 hl3 hl4 hl7 hj0 hj1 h
  · replace h := h.2 b16
    exact TX2_makers_74 hl3 hl4 hl7 hj0 hj1 h
def PX2_makers_5 (J : Nat → List Int → gS → (Int → gS → Prop) → Prop) (l1 : Int) (l2 : Int) (l3 : Int) (l4 : Int) (G : gS) (Q : Int → gS → Prop) : Prop :=
  (isO W0 10 (l1) ∧ (inI (G l1 15) → ((l4 < G l1 15 → ((0 : Int) ≤ l4 ∧ ((l4 : Int) < 33 ∧ (((G (l1 + 4) l4 = -1 ∨ isO W0 7 (G (l1 + 4) l4)) ∧ ∀ v, W0.2 (l1 + 4) l4 = some v → G (l1 + 4) l4 = v) → (isO W0 7 (G (l1 + 4) l4) ∧ (inI (G (G (l1 + 4) l4) 0) → ((G (G (l1 + 4) l4) 0 = 2 → (isO W0 10 (l2) ∧ PX10_maker l2 (G (l1 + 4) l4) G (fun r12 G11 => PX2_makers_42 J l1 l2 l3 l4 (G (l1 + 4) l4) r12 G11 Q))) ∧ (¬ (G (G (l1 + 4) l4) 0 = 2) → PX2_makers_42 J l1 l2 l3 l4 (G (l1 + 4) l4) (-1) G Q)))))))) ∧ (¬ (l4 < G l1 15) → PX2_makers_147 J l1 l2 l3 0 G Q))))
set_option maxRecDepth 20000 in
theorem TX2_makers_5 {j : Nat → rx_K} {J : Nat → List Int → gS → (Int → gS → Prop) → Prop} {l1 : Int} {l2 : Int} {l3 : Int} {l4 : Int} {l5 : Nat} {l6 : Nat} {l7 : Nat} {G : gS} {Q : Int → gS → Prop} (hl3 : inI l3) (hl4 : inI l4) (hl5 : l5 % 8 ≠ 1) (hl6 : l6 % 8 ≠ 1) (hl7 : l7 % 8 ≠ 1) (hj0 : ∀ (l1 : Int) (l2 : Int) (l3 : Int) (l4 : Int) (l5 : Nat) (l6 : Nat) (l7 : Nat) (G : gS), (inI l3) → (inI l4) → (l5 % 8 ≠ 1) → (l6 % 8 ≠ 1) → (l7 % 8 ≠ 1) → J 0 [l1, l2, l3, l4] G Q → Tg W0 (j 0) [rf (934), rf (l1), rf (l2), cI (l3), cI (l4), l5, l6, l7] [] G (fun r G => ∃ v, r = cI v ∧ inI v ∧ Q v G)) (hj1 : ∀ (l1 : Int) (l2 : Int) (l3 : Int) (l4 : Int) (l5 : Nat) (l6 : Nat) (l7 : Nat) (G : gS), (inI l3) → (inI l4) → (l5 % 8 ≠ 1) → (l6 % 8 ≠ 1) → (l7 % 8 ≠ 1) → J 1 [l1, l2, l3, l4] G Q → Tg W0 (j 1) [rf (934), rf (l1), rf (l2), cI (l3), cI (l4), l5, l6, l7] [] G (fun r G => ∃ v, r = cI v ∧ inI v ∧ Q v G)) (h : PX2_makers_5 J l1 l2 l3 l4 G Q) : Tg W0 (vX2_makers_5 j) [rf (934), rf (l1), rf (l2), cI (l3), cI (l4), l5, l6, l7] [] G (fun r G => ∃ v, r = cI v ∧ inI v ∧ Q v G) := by
  unfold PX2_makers_5 at h
  unfold vX2_makers_5
  refine g_ld (v := cI _) rfl (is_I _) ?_
  refine g_ld (v := rf _) rfl (is_R _) ?_
  obtain ⟨q1, h⟩ := h
  refine g_getI (kz := 15) q1 rfl (Nat.le_of_ble_eq_true rfl) rfl fun i2 => ?_
  replace h := h i2
  refine g_lt2 hl4 i2 (fun b3 => ?_) (fun b3 => ?_)
  · replace h := h.1 b3
    unfold vX2_makers_14
    refine g_ld (v := rf _) rfl (is_R _) ?_
    refine g_getF q1 (ff10_14 q1).1 rfl (Nat.le_of_ble_eq_true rfl) (Nat.le_of_ble_eq_true rfl) ?_
    refine g_ld (v := cI _) rfl (is_I _) ?_
    obtain ⟨q4, q5, h⟩ := h
    refine g_aldRF (c := 7) (ff10_14 q1).2 q4 q5 rfl (by decide) fun i6 => ?_
    replace h := h i6
    refine g_st (lv' := [_, _, _, _, _, _, _, _]) (is_R _) (Nat.le_of_ble_eq_true rfl) (Or.inr (n1_I _)) rfl ?_
    refine g_ld (v := rf _) rfl (is_R _) ?_
    obtain ⟨q7, h⟩ := h
    refine g_getI (kz := 0) q7 rfl (Nat.le_of_ble_eq_true rfl) rfl fun i8 => ?_
    replace h := h i8
    refine g_const (v := cI (2)) rfl ?_
    refine g_eq2 i8 ⟨by omega, by omega⟩ (fun b9 => ?_) (fun b9 => ?_)
    · replace h := h.1 b9
      unfold vX2_makers_32
      refine g_ld (v := rf _) rfl (is_R _) ?_
      refine g_ld (v := rf _) rfl (is_R _) ?_
      obtain ⟨q10, h⟩ := h
      refine g_callV (As := [_]) (ci := 10) q10 (fun _ => rfl) ?_
      refine g_go1 (Nat.le_of_ble_eq_true rfl) (Tn_w (TX10_maker  h) fun _ G11 ⟨r12, e, h⟩ => ?_)
      subst e
      refine ⟨n7_R _, ?_⟩
      exact TX2_makers_42 hl3 hl4 hl6 hl7 hj0 hj1 h
    · replace h := h.2 b9
      unfold vX2_makers_41
      refine g_const (v := rf (-1)) rfl ?_
      exact TX2_makers_42 hl3 hl4 hl6 hl7 hj0 hj1 h
  · replace h := h.2 b3
    unfold vX2_makers_144
    refine g_const (v := cI (0)) rfl ?_
    refine g_st (lv' := [_, _, _, _, _, _, _, _]) (is_I _) (Nat.le_of_ble_eq_true rfl) (Or.inr (n1_I _)) rfl ?_
    exact TX2_makers_147 hl3 ⟨by omega, by omega⟩ hl5 hl6 hl7 hj0 hj1 h
def PX2_makers_0 (J : Nat → List Int → gS → (Int → gS → Prop) → Prop) (a1 : Int) (a2 : Int) (G : gS) (Q : Int → gS → Prop) : Prop :=
  PX2_makers_5 J a1 a2 0 0 G Q
set_option maxRecDepth 20000 in
theorem TX2_makers_0 {j : Nat → rx_K} {J : Nat → List Int → gS → (Int → gS → Prop) → Prop} {a1 : Int} {a2 : Int} {G : gS} {Q : Int → gS → Prop}  (hj0 : ∀ (l1 : Int) (l2 : Int) (l3 : Int) (l4 : Int) (l5 : Nat) (l6 : Nat) (l7 : Nat) (G : gS), (inI l3) → (inI l4) → (l5 % 8 ≠ 1) → (l6 % 8 ≠ 1) → (l7 % 8 ≠ 1) → J 0 [l1, l2, l3, l4] G Q → Tg W0 (j 0) [rf (934), rf (l1), rf (l2), cI (l3), cI (l4), l5, l6, l7] [] G (fun r G => ∃ v, r = cI v ∧ inI v ∧ Q v G)) (hj1 : ∀ (l1 : Int) (l2 : Int) (l3 : Int) (l4 : Int) (l5 : Nat) (l6 : Nat) (l7 : Nat) (G : gS), (inI l3) → (inI l4) → (l5 % 8 ≠ 1) → (l6 % 8 ≠ 1) → (l7 % 8 ≠ 1) → J 1 [l1, l2, l3, l4] G Q → Tg W0 (j 1) [rf (934), rf (l1), rf (l2), cI (l3), cI (l4), l5, l6, l7] [] G (fun r G => ∃ v, r = cI v ∧ inI v ∧ Q v G)) (h : PX2_makers_0 J a1 a2 G Q) : Tg W0 (vX2_makers_0 j) [rf (934), rf (a1), rf (a2), 7, 7, 7, 7, 7] [] G (fun r G => ∃ v, r = cI v ∧ inI v ∧ Q v G) := by
  unfold PX2_makers_0 at h
  unfold vX2_makers_0
  refine g_const (v := cI (0)) rfl ?_
  refine g_st (lv' := [_, _, _, _, _, _, _, _]) (is_I _) (Nat.le_of_ble_eq_true rfl) (Or.inr (n1_R _)) rfl ?_
  refine g_const (v := cI (0)) rfl ?_
  refine g_st (lv' := [_, _, _, _, _, _, _, _]) (is_I _) (Nat.le_of_ble_eq_true rfl) (Or.inr (n1_I _)) rfl ?_
  exact TX2_makers_5 ⟨by omega, by omega⟩ ⟨by omega, by omega⟩ (show 7 % 8 ≠ 1 by decide) (show 7 % 8 ≠ 1 by decide) (show 7 % 8 ≠ 1 by decide) hj0 hj1 h
def PX2_makers_J : Nat → Nat → List Int → gS → (Int → gS → Prop) → Prop
  | 0, _, _, _, _ => False
  | f + 1, h, L, G, Q => match h, L with
    | 0, [l1, l2, l3, l4] => PX2_makers_5 (PX2_makers_J f) l1 l2 l3 l4 G Q
    | 1, [l1, l2, l3, l4] => PX2_makers_147 (PX2_makers_J f) l1 l2 l3 l4 G Q
    | _, _ => False
theorem TX2_makers_J {Q : Int → gS → Prop} : ∀ f N : Nat, f ≤ N → (∀ (l1 : Int) (l2 : Int) (l3 : Int) (l4 : Int) (l5 : Nat) (l6 : Nat) (l7 : Nat) (G : gS), (inI l3) → (inI l4) → (l5 % 8 ≠ 1) → (l6 % 8 ≠ 1) → (l7 % 8 ≠ 1) → (PX2_makers_J f) 0 [l1, l2, l3, l4] G Q → Tg W0 (rx_J vhX2_makers N 0) [rf (934), rf (l1), rf (l2), cI (l3), cI (l4), l5, l6, l7] [] G (fun r G => ∃ v, r = cI v ∧ inI v ∧ Q v G)) ∧ (∀ (l1 : Int) (l2 : Int) (l3 : Int) (l4 : Int) (l5 : Nat) (l6 : Nat) (l7 : Nat) (G : gS), (inI l3) → (inI l4) → (l5 % 8 ≠ 1) → (l6 % 8 ≠ 1) → (l7 % 8 ≠ 1) → (PX2_makers_J f) 1 [l1, l2, l3, l4] G Q → Tg W0 (rx_J vhX2_makers N 1) [rf (934), rf (l1), rf (l2), cI (l3), cI (l4), l5, l6, l7] [] G (fun r G => ∃ v, r = cI v ∧ inI v ∧ Q v G)) := by
  intro f
  induction f with
  | zero => exact fun N _ => ⟨fun _ _ _ _ _ _ _ _ _ _ _ _ _ h => h.elim, fun _ _ _ _ _ _ _ _ _ _ _ _ _ h => h.elim⟩
  | succ f ih =>
    intro N hN
    obtain ⟨M, rfl⟩ : ∃ M, N = M + 1 := ⟨N - 1, by omega⟩
    have ih := ih M (by omega)
    exact ⟨fun _ _ _ _ _ _ _ _ hl3 hl4 hl5 hl6 hl7 h => show Tg W0 (vX2_makers_5 (rx_J vhX2_makers M)) _ _ _ _ from TX2_makers_5 hl3 hl4 hl5 hl6 hl7 ih.1 ih.2 h, fun _ _ _ _ _ _ _ _ hl3 hl4 hl5 hl6 hl7 h => show Tg W0 (vX2_makers_147 (rx_J vhX2_makers M)) _ _ _ _ from TX2_makers_147 hl3 hl4 hl5 hl6 hl7 ih.1 ih.2 h⟩
def PX2_makers (a1 : Int) (a2 : Int) (G : gS) (Q : Int → gS → Prop) : Prop := ∃ f : Nat, f ≤ 4000000000 ∧ PX2_makers_0 (PX2_makers_J f) a1 a2 G Q
theorem TX2_makers {a1 : Int} {a2 : Int} {G : gS} {Q : Int → gS → Prop}  (h : PX2_makers a1 a2 G Q) : Tn W0 FX2_makers [rf (934), rf (a1), rf (a2)] G (fun r G => ∃ v, r = cI v ∧ inI v ∧ Q v G) := by
  obtain ⟨f, hf, h⟩ := h
  have hJ := TX2_makers_J (Q := Q) f 4000000000 hf
  unfold FX2_makers
  refine g_ent (lv' := [rf (934), rf (a1), rf (a2), 7, 7, 7, 7, 7]) (flR (flR (flR fl0))) (Nat.le_of_ble_eq_true rfl) rfl ?_
  exact TX2_makers_0  hJ.1 hJ.2 h
def PX2_method_165 (l1 : Int) (l2 : Int) (l3 : Int) (l4 : Int) (l5 : Int) (s0 : Int) (s1 : Int) (G : gS) (Q : Int → gS → Prop) : Prop :=
  (inI (s0 + s1) ∧ Q (s0 + s1) G)
set_option maxRecDepth 20000 in
theorem TX2_method_165 {l1 : Int} {l2 : Int} {l3 : Int} {l4 : Int} {l5 : Int} {s0 : Int} {s1 : Int} {G : gS} {Q : Int → gS → Prop} (hl3 : inI l3) (hl4 : inI l4) (hl5 : inI l5) (hs0 : inI s0) (hs1 : inI s1) (h : PX2_method_165 l1 l2 l3 l4 l5 s0 s1 G Q) : Tg W0 vX2_method_165 [rf (934), rf (l1), rf (l2), cI (l3), cI (l4), cI (l5)] [cI (s1), cI (s0)] G (fun r G => ∃ v, r = cI v ∧ inI v ∧ Q v G) := by
  unfold PX2_method_165 at h
  unfold vX2_method_165
  refine g_add ?_
  obtain ⟨q49, h⟩ := h
  exact g_ret1 (is_I _) ⟨_, rfl, q49, h⟩
def PX2_method_164 (l1 : Int) (l2 : Int) (l3 : Int) (l4 : Int) (l5 : Int) (s0 : Int) (G : gS) (Q : Int → gS → Prop) : Prop :=
  PX2_method_165 l1 l2 l3 l4 l5 s0 0 G Q
set_option maxRecDepth 20000 in
theorem TX2_method_164 {l1 : Int} {l2 : Int} {l3 : Int} {l4 : Int} {l5 : Int} {s0 : Int} {G : gS} {Q : Int → gS → Prop} (hl3 : inI l3) (hl4 : inI l4) (hl5 : inI l5) (hs0 : inI s0) (h : PX2_method_164 l1 l2 l3 l4 l5 s0 G Q) : Tg W0 vX2_method_164 [rf (934), rf (l1), rf (l2), cI (l3), cI (l4), cI (l5)] [cI (s0)] G (fun r G => ∃ v, r = cI v ∧ inI v ∧ Q v G) := by
  unfold PX2_method_164 at h
  unfold vX2_method_164
  refine g_const (v := cI (0)) rfl ?_
  exact TX2_method_165 hl3 hl4 hl5 hs0 ⟨by omega, by omega⟩ h
def PX2_method_53 (l1 : Int) (l2 : Int) (l3 : Int) (l4 : Int) (l5 : Int) (s0 : Int) (s1 : Int) (G : gS) (Q : Int → gS → Prop) : Prop :=
  (inI (s0 + s1) ∧ ((0 < s0 + s1 → Q (s0 + s1) G) ∧ (¬ (0 < s0 + s1) → (isO W0 7 (l1) ∧ ((0 ≤ G l1 3 ∧ G l1 3 ≤ 1) → (isO W0 7 (l2) ∧ ((0 ≤ G l2 3 ∧ G l2 3 ≤ 1) → PX2_turned (G l1 3) (G l2 3) 33 l3 l4 G (fun r24 G23 => inI r24 → ((0 ≤ G23 l1 4 ∧ G23 l1 4 ≤ 1) → ((0 ≤ G23 l2 4 ∧ G23 l2 4 ≤ 1) → PX2_turned (G23 l1 4) (G23 l2 4) 35 l3 l4 G23 (fun r29 G28 => inI r29 → (inI (r24 + r29) ∧ (inI (G28 l1 1) → (inI (G28 l2 1) → PX2_access (G28 l1 1) (G28 l2 1) 37 l3 l4 G28 (fun r35 G34 => inI r35 → (inI ((r24 + r29) + r35) ∧ ((0 ≤ G34 l1 6 ∧ G34 l1 6 ≤ 1) → ((G34 l1 6 = 0 → PX2_method_164 l1 l2 l3 l4 ((r24 + r29) + r35) ((r24 + r29) + r35) G34 Q) ∧ (¬ (G34 l1 6 = 0) → ((0 ≤ G34 l2 6 ∧ G34 l2 6 ≤ 1) → ((G34 l2 6 = 0 → PX2_method_164 l1 l2 l3 l4 ((r24 + r29) + r35) ((r24 + r29) + r35) G34 Q) ∧ (¬ (G34 l2 6 = 0) → PX2_sameBlocks l1 l2 G34 (fun r43 G42 => (0 ≤ r43 ∧ r43 ≤ 1) → ((r43 = 0 → PX2_note 39 l3 l4 G42 (fun r47 G46 => inI r47 → PX2_method_165 l1 l2 l3 l4 ((r24 + r29) + r35) ((r24 + r29) + r35) r47 G46 Q)) ∧ (¬ (r43 = 0) → PX2_method_164 l1 l2 l3 l4 ((r24 + r29) + r35) ((r24 + r29) + r35) G42 Q)))))))))))))))))))))))))
set_option maxRecDepth 20000 in
theorem TX2_method_53 {l1 : Int} {l2 : Int} {l3 : Int} {l4 : Int} {l5 : Int} {s0 : Int} {s1 : Int} {G : gS} {Q : Int → gS → Prop} (hl3 : inI l3) (hl4 : inI l4) (hl5 : inI l5) (hs0 : inI s0) (hs1 : inI s1) (h : PX2_method_53 l1 l2 l3 l4 l5 s0 s1 G Q) : Tg W0 vX2_method_53 [rf (934), rf (l1), rf (l2), cI (l3), cI (l4), cI (l5)] [cI (s1), cI (s0)] G (fun r G => ∃ v, r = cI v ∧ inI v ∧ Q v G) := by
  unfold PX2_method_53 at h
  unfold vX2_method_53
  refine g_add ?_
  refine g_st (lv' := [_, _, _, _, _, _]) (is_I _) (Nat.le_of_ble_eq_true rfl) (Or.inr (n1_I _)) rfl ?_
  obtain ⟨q17, h⟩ := h
  refine g_ld (v := cI _) rfl (is_I _) ?_
  refine g_gt1 q17 (fun b18 => ?_) (fun b18 => ?_)
  · replace h := h.1 b18
    unfold vX2_method_61
    refine g_ld (v := cI _) rfl (is_I _) ?_
    exact g_ret1 (is_I _) ⟨_, rfl, q17, h⟩
  · replace h := h.2 b18
    unfold vX2_method_64
    refine g_ld (v := rf _) rfl (is_R _) ?_
    refine g_ld (v := rf _) rfl (is_R _) ?_
    obtain ⟨q19, h⟩ := h
    refine g_getZ (kz := 3) q19 rfl (Nat.le_of_ble_eq_true rfl) rfl fun i20 => ?_
    replace h := h i20
    refine g_ld (v := rf _) rfl (is_R _) ?_
    obtain ⟨q21, h⟩ := h
    refine g_getZ (kz := 3) q21 rfl (Nat.le_of_ble_eq_true rfl) rfl fun i22 => ?_
    replace h := h i22
    refine g_const (v := cI (33)) rfl ?_
    refine g_ld (v := cI _) rfl (is_I _) ?_
    refine g_ld (v := cI _) rfl (is_I _) ?_
    refine g_callV (As := [_, _, _, _, _]) (ci := 2) oC2 (fun _ => rfl) ?_
    refine g_go1 (Nat.le_of_ble_eq_true rfl) (Tn_w (TX2_turned ⟨by omega, by omega⟩ ⟨by omega, by omega⟩ ⟨by omega, by omega⟩ hl3 hl4 h) fun _ G23 ⟨r24, e, i25, h⟩ => ?_)
    subst e
    refine ⟨n7_I _, ?_⟩
    replace h := h i25
    refine g_st (lv' := [_, _, _, _, _, _]) (is_I _) (Nat.le_of_ble_eq_true rfl) (Or.inr (n1_I _)) rfl ?_
    refine g_ld (v := cI _) rfl (is_I _) ?_
    refine g_ld (v := rf _) rfl (is_R _) ?_
    refine g_ld (v := rf _) rfl (is_R _) ?_
    refine g_getZ (kz := 4) q19 rfl (Nat.le_of_ble_eq_true rfl) rfl fun i26 => ?_
    replace h := h i26
    refine g_ld (v := rf _) rfl (is_R _) ?_
    refine g_getZ (kz := 4) q21 rfl (Nat.le_of_ble_eq_true rfl) rfl fun i27 => ?_
    replace h := h i27
    refine g_const (v := cI (35)) rfl ?_
    refine g_ld (v := cI _) rfl (is_I _) ?_
    refine g_ld (v := cI _) rfl (is_I _) ?_
    refine g_callV (As := [_, _, _, _, _]) (ci := 2) oC2 (fun _ => rfl) ?_
    refine g_go1 (by simp only [cs_c, cs_0, ct_I, ct_L, ct_R]; exact Nat.le_of_ble_eq_true rfl) (Tn_w (TX2_turned ⟨by omega, by omega⟩ ⟨by omega, by omega⟩ ⟨by omega, by omega⟩ hl3 hl4 h) fun _ G28 ⟨r29, e, i30, h⟩ => ?_)
    subst e
    refine ⟨n7_I _, ?_⟩
    replace h := h i30
    refine g_add ?_
    refine g_st (lv' := [_, _, _, _, _, _]) (is_I _) (Nat.le_of_ble_eq_true rfl) (Or.inr (n1_I _)) rfl ?_
    obtain ⟨q31, h⟩ := h
    refine g_ld (v := cI _) rfl (is_I _) ?_
    refine g_ld (v := rf _) rfl (is_R _) ?_
    unfold vX2_method_108
    refine g_ld (v := rf _) rfl (is_R _) ?_
    refine g_getI (kz := 1) q19 rfl (Nat.le_of_ble_eq_true rfl) rfl fun i32 => ?_
    replace h := h i32
    refine g_ld (v := rf _) rfl (is_R _) ?_
    refine g_getI (kz := 1) q21 rfl (Nat.le_of_ble_eq_true rfl) rfl fun i33 => ?_
    replace h := h i33
    refine g_const (v := cI (37)) rfl ?_
    refine g_ld (v := cI _) rfl (is_I _) ?_
    refine g_ld (v := cI _) rfl (is_I _) ?_
    refine g_callV (As := [_, _, _, _, _]) (ci := 2) oC2 (fun _ => rfl) ?_
    refine g_go1 (by simp only [cs_c, cs_0, ct_I, ct_L, ct_R]; exact Nat.le_of_ble_eq_true rfl) (Tn_w (TX2_access i32 i33 ⟨by omega, by omega⟩ hl3 hl4 h) fun _ G34 ⟨r35, e, i36, h⟩ => ?_)
    subst e
    refine ⟨n7_I _, ?_⟩
    replace h := h i36
    refine g_add ?_
    refine g_st (lv' := [_, _, _, _, _, _]) (is_I _) (Nat.le_of_ble_eq_true rfl) (Or.inr (n1_I _)) rfl ?_
    obtain ⟨q37, h⟩ := h
    refine g_ld (v := cI _) rfl (is_I _) ?_
    refine g_ld (v := rf _) rfl (is_R _) ?_
    refine g_getZ (kz := 6) q19 rfl (Nat.le_of_ble_eq_true rfl) rfl fun i38 => ?_
    replace h := h i38
    refine g_eq1 ⟨by omega, by omega⟩ (fun b39 => ?_) (fun b39 => ?_)
    · replace h := h.1 b39
      exact TX2_method_164 hl3 hl4 q37 q37 h
    · replace h := h.2 b39
      unfold vX2_method_136
      refine g_ld (v := rf _) rfl (is_R _) ?_
      refine g_getZ (kz := 6) q21 rfl (Nat.le_of_ble_eq_true rfl) rfl fun i40 => ?_
      replace h := h i40
      refine g_eq1 ⟨by omega, by omega⟩ (fun b41 => ?_) (fun b41 => ?_)
      · replace h := h.1 b41
        exact TX2_method_164 hl3 hl4 q37 q37 h
      · replace h := h.2 b41
        unfold vX2_method_143
        refine g_ld (v := rf _) rfl (is_R _) ?_
        refine g_ld (v := rf _) rfl (is_R _) ?_
        refine g_ld (v := rf _) rfl (is_R _) ?_
        refine g_callV (As := [_, _]) (ci := 2) oC2 (fun _ => rfl) ?_
        refine g_go1 (by simp only [cs_c, cs_0, ct_I, ct_L, ct_R]; exact Nat.le_of_ble_eq_true rfl) (Tn_w (TX2_sameBlocks  h) fun _ G42 ⟨r43, e, i44, h⟩ => ?_)
        subst e
        refine ⟨n7_I _, ?_⟩
        replace h := h i44
        refine g_eq1 ⟨by omega, by omega⟩ (fun b45 => ?_) (fun b45 => ?_)
        · replace h := h.1 b45
          unfold vX2_method_152
          refine g_ld (v := rf _) rfl (is_R _) ?_
          refine g_const (v := cI (39)) rfl ?_
          refine g_ld (v := cI _) rfl (is_I _) ?_
          refine g_ld (v := cI _) rfl (is_I _) ?_
          refine g_callV (As := [_, _, _]) (ci := 2) oC2 (fun _ => rfl) ?_
          refine g_go1 (by simp only [cs_c, cs_0, ct_I, ct_L, ct_R]; exact Nat.le_of_ble_eq_true rfl) (Tn_w (TX2_note ⟨by omega, by omega⟩ hl3 hl4 h) fun _ G46 ⟨r47, e, i48, h⟩ => ?_)
          subst e
          refine ⟨n7_I _, ?_⟩
          replace h := h i48
          exact TX2_method_165 hl3 hl4 q37 q37 i48 h
        · replace h := h.2 b45
          exact TX2_method_164 hl3 hl4 q37 q37 h
def PX2_method_25 (l1 : Int) (l2 : Int) (l3 : Int) (l4 : Int) (s0 : Int) (G : gS) (Q : Int → gS → Prop) : Prop :=
  (isO W0 7 (l1) ∧ ((0 ≤ G l1 2 ∧ G l1 2 ≤ 1) → (isO W0 7 (l2) ∧ ((0 ≤ G l2 2 ∧ G l2 2 ≤ 1) → ((G l1 2 = G l2 2 → PX2_method_53 l1 l2 l3 l4 s0 s0 0 G Q) ∧ (¬ (G l1 2 = G l2 2) → PX2_note 32 l3 l4 G (fun r15 G14 => inI r15 → PX2_method_53 l1 l2 l3 l4 s0 s0 r15 G14 Q)))))))
set_option maxRecDepth 20000 in
theorem TX2_method_25 {l1 : Int} {l2 : Int} {l3 : Int} {l4 : Int} {l5 : Nat} {s0 : Int} {G : gS} {Q : Int → gS → Prop} (hl3 : inI l3) (hl4 : inI l4) (hl5 : l5 % 8 ≠ 1) (hs0 : inI s0) (h : PX2_method_25 l1 l2 l3 l4 s0 G Q) : Tg W0 vX2_method_25 [rf (934), rf (l1), rf (l2), cI (l3), cI (l4), l5] [cI (s0)] G (fun r G => ∃ v, r = cI v ∧ inI v ∧ Q v G) := by
  unfold PX2_method_25 at h
  unfold vX2_method_25
  refine g_st (lv' := [_, _, _, _, _, _]) (is_I _) (Nat.le_of_ble_eq_true rfl) (Or.inr (n1_I _)) rfl ?_
  refine g_ld (v := cI _) rfl (is_I _) ?_
  refine g_ld (v := rf _) rfl (is_R _) ?_
  obtain ⟨q9, h⟩ := h
  refine g_getZ (kz := 2) q9 rfl (Nat.le_of_ble_eq_true rfl) rfl fun i10 => ?_
  replace h := h i10
  refine g_ld (v := rf _) rfl (is_R _) ?_
  obtain ⟨q11, h⟩ := h
  refine g_getZ (kz := 2) q11 rfl (Nat.le_of_ble_eq_true rfl) rfl fun i12 => ?_
  replace h := h i12
  refine g_eq2 ⟨by omega, by omega⟩ ⟨by omega, by omega⟩ (fun b13 => ?_) (fun b13 => ?_)
  · replace h := h.1 b13
    unfold vX2_method_52
    refine g_const (v := cI (0)) rfl ?_
    exact TX2_method_53 hl3 hl4 hs0 hs0 ⟨by omega, by omega⟩ h
  · replace h := h.2 b13
    unfold vX2_method_40
    refine g_ld (v := rf _) rfl (is_R _) ?_
    refine g_const (v := cI (32)) rfl ?_
    refine g_ld (v := cI _) rfl (is_I _) ?_
    refine g_ld (v := cI _) rfl (is_I _) ?_
    refine g_callV (As := [_, _, _]) (ci := 2) oC2 (fun _ => rfl) ?_
    refine g_go1 (by simp only [cs_c, cs_0, ct_I, ct_L, ct_R]; exact Nat.le_of_ble_eq_true rfl) (Tn_w (TX2_note ⟨by omega, by omega⟩ hl3 hl4 h) fun _ G14 ⟨r15, e, i16, h⟩ => ?_)
    subst e
    refine ⟨n7_I _, ?_⟩
    replace h := h i16
    exact TX2_method_53 hl3 hl4 hs0 hs0 i16 h
def PX2_method_0 (a1 : Int) (a2 : Int) (a3 : Int) (a4 : Int) (G : gS) (Q : Int → gS → Prop) : Prop :=
  (isO W0 7 (a1) ∧ (inL (G a1 8) → (isO W0 7 (a2) ∧ (inL (G a2 8) → ((G a1 8 = G a2 8 → PX2_method_25 a1 a2 a3 a4 0 G Q) ∧ (¬ (G a1 8 = G a2 8) → PX2_note 31 a3 a4 G (fun r7 G6 => inI r7 → PX2_method_25 a1 a2 a3 a4 r7 G6 Q)))))))
set_option maxRecDepth 20000 in
theorem TX2_method_0 {a1 : Int} {a2 : Int} {a3 : Int} {a4 : Int} {G : gS} {Q : Int → gS → Prop} (ha3 : inI a3) (ha4 : inI a4) (h : PX2_method_0 a1 a2 a3 a4 G Q) : Tg W0 vX2_method_0 [rf (934), rf (a1), rf (a2), cI (a3), cI (a4), 7] [] G (fun r G => ∃ v, r = cI v ∧ inI v ∧ Q v G) := by
  unfold PX2_method_0 at h
  unfold vX2_method_0
  refine g_ld (v := rf _) rfl (is_R _) ?_
  obtain ⟨q1, h⟩ := h
  refine g_getL (kz := 8) q1 rfl (Nat.le_of_ble_eq_true rfl) rfl fun i2 => ?_
  replace h := h i2
  refine g_ld (v := rf _) rfl (is_R _) ?_
  obtain ⟨q3, h⟩ := h
  refine g_getL (kz := 8) q3 rfl (Nat.le_of_ble_eq_true rfl) rfl fun i4 => ?_
  replace h := h i4
  refine g_leq i2 i4 (fun b5 => ?_) (fun b5 => ?_)
  · replace h := h.1 b5
    unfold vX2_method_24
    refine g_const (v := cI (0)) rfl ?_
    exact TX2_method_25 ha3 ha4 (show 7 % 8 ≠ 1 by decide) ⟨by omega, by omega⟩ h
  · replace h := h.2 b5
    unfold vX2_method_12
    refine g_ld (v := rf _) rfl (is_R _) ?_
    refine g_const (v := cI (31)) rfl ?_
    refine g_ld (v := cI _) rfl (is_I _) ?_
    refine g_ld (v := cI _) rfl (is_I _) ?_
    refine g_callV (As := [_, _, _]) (ci := 2) oC2 (fun _ => rfl) ?_
    refine g_go1 (Nat.le_of_ble_eq_true rfl) (Tn_w (TX2_note ⟨by omega, by omega⟩ ha3 ha4 h) fun _ G6 ⟨r7, e, i8, h⟩ => ?_)
    subst e
    refine ⟨n7_I _, ?_⟩
    replace h := h i8
    exact TX2_method_25 ha3 ha4 (show 7 % 8 ≠ 1 by decide) i8 h
abbrev PX2_method (a1 : Int) (a2 : Int) (a3 : Int) (a4 : Int) (G : gS) (Q : Int → gS → Prop) : Prop := PX2_method_0 a1 a2 a3 a4 G Q
theorem TX2_method {a1 : Int} {a2 : Int} {a3 : Int} {a4 : Int} {G : gS} {Q : Int → gS → Prop} (ha3 : inI a3) (ha4 : inI a4) (h : PX2_method a1 a2 a3 a4 G Q) : Tn W0 FX2_method [rf (934), rf (a1), rf (a2), cI (a3), cI (a4)] G (fun r G => ∃ v, r = cI v ∧ inI v ∧ Q v G) := by
  unfold FX2_method
  refine g_ent (lv' := [rf (934), rf (a1), rf (a2), cI (a3), cI (a4), 7]) (flR (flR (flR (flI (flI fl0))))) (Nat.le_of_ble_eq_true rfl) rfl ?_
  exact TX2_method_0 ha3 ha4 h
def PX10_plain_54 (J : Nat → List Int → gS → (Int → gS → Prop) → Prop) (o : Int) (l1 : Int) (l2 : Int) (l3 : Int) (G : gS) (Q : Int → gS → Prop) : Prop :=
  (inI (l2 + 1) ∧ J 0 [o, l1, l2 + 1] G Q)
set_option maxRecDepth 20000 in
theorem TX10_plain_54 {j : Nat → rx_K} {J : Nat → List Int → gS → (Int → gS → Prop) → Prop} {o : Int} {l1 : Int} {l2 : Int} {l3 : Int} {G : gS} {Q : Int → gS → Prop} (hl2 : inI l2) (hj0 : ∀ (o : Int) (l1 : Int) (l2 : Int) (l3 : Nat) (G : gS), (inI l2) → (l3 % 8 ≠ 1) → J 0 [o, l1, l2] G Q → Tg W0 (j 0) [rf (o), rf (l1), cI (l2), l3] [] G (fun r G => ∃ v, r = rf v ∧ Q v G)) (h : PX10_plain_54 J o l1 l2 l3 G Q) : Tg W0 (vX10_plain_54 j) [rf (o), rf (l1), cI (l2), rf (l3)] [] G (fun r G => ∃ v, r = rf v ∧ Q v G) := by
  unfold PX10_plain_54 at h
  unfold vX10_plain_54
  refine g_inc (lv' := [_, _, _, _]) rfl (Nat.le_of_ble_eq_true rfl) (Or.inr (n1_R _)) rfl ?_
  obtain ⟨q20, h⟩ := h
  exact hj0 _ _ _ _ _ q20 (n1_R _) h
def PX10_plain_2 (J : Nat → List Int → gS → (Int → gS → Prop) → Prop) (o : Int) (l1 : Int) (l2 : Int) (G : gS) (Q : Int → gS → Prop) : Prop :=
  (isO W0 10 (o) ∧ (inI (G o 15) → ((l2 < G o 15 → ((0 : Int) ≤ l2 ∧ ((l2 : Int) < 33 ∧ (((G (o + 4) l2 = -1 ∨ isO W0 7 (G (o + 4) l2)) ∧ ∀ v, W0.2 (o + 4) l2 = some v → G (o + 4) l2 = v) → (isO W0 7 (G (o + 4) l2) ∧ (inI (G (G (o + 4) l2) 0) → ((G (G (o + 4) l2) 0 = 1 → ((0 ≤ G (G (o + 4) l2) 5 ∧ G (G (o + 4) l2) 5 ≤ 1) → ((G (G (o + 4) l2) 5 = 0 → (inL (G (G (o + 4) l2) 7) → (isO W0 7 (l1) ∧ (inL (G l1 7) → ((G (G (o + 4) l2) 7 = G l1 7 → PX7_sameParams (G (o + 4) l2) l1 G (fun r17 G16 => (0 ≤ r17 ∧ r17 ≤ 1) → ((r17 = 0 → PX10_plain_54 J o l1 l2 (G (o + 4) l2) G16 Q) ∧ (¬ (r17 = 0) → Q (G (o + 4) l2) G16)))) ∧ (¬ (G (G (o + 4) l2) 7 = G l1 7) → PX10_plain_54 J o l1 l2 (G (o + 4) l2) G Q)))))) ∧ (¬ (G (G (o + 4) l2) 5 = 0) → PX10_plain_54 J o l1 l2 (G (o + 4) l2) G Q)))) ∧ (¬ (G (G (o + 4) l2) 0 = 1) → PX10_plain_54 J o l1 l2 (G (o + 4) l2) G Q)))))))) ∧ (¬ (l2 < G o 15) → Q (-1) G))))
set_option maxRecDepth 20000 in
theorem TX10_plain_2 {j : Nat → rx_K} {J : Nat → List Int → gS → (Int → gS → Prop) → Prop} {o : Int} {l1 : Int} {l2 : Int} {l3 : Nat} {G : gS} {Q : Int → gS → Prop} (hl2 : inI l2) (hl3 : l3 % 8 ≠ 1) (hj0 : ∀ (o : Int) (l1 : Int) (l2 : Int) (l3 : Nat) (G : gS), (inI l2) → (l3 % 8 ≠ 1) → J 0 [o, l1, l2] G Q → Tg W0 (j 0) [rf (o), rf (l1), cI (l2), l3] [] G (fun r G => ∃ v, r = rf v ∧ Q v G)) (h : PX10_plain_2 J o l1 l2 G Q) : Tg W0 (vX10_plain_2 j) [rf (o), rf (l1), cI (l2), l3] [] G (fun r G => ∃ v, r = rf v ∧ Q v G) := by
  unfold PX10_plain_2 at h
  unfold vX10_plain_2
  refine g_ld (v := cI _) rfl (is_I _) ?_
  refine g_ld (v := rf _) rfl (is_R _) ?_
  obtain ⟨q1, h⟩ := h
  refine g_getI (kz := 15) q1 rfl (Nat.le_of_ble_eq_true rfl) rfl fun i2 => ?_
  replace h := h i2
  refine g_lt2 hl2 i2 (fun b3 => ?_) (fun b3 => ?_)
  · replace h := h.1 b3
    unfold vX10_plain_10
    refine g_ld (v := rf _) rfl (is_R _) ?_
    refine g_getF q1 (ff10_14 q1).1 rfl (Nat.le_of_ble_eq_true rfl) (Nat.le_of_ble_eq_true rfl) ?_
    refine g_ld (v := cI _) rfl (is_I _) ?_
    obtain ⟨q4, q5, h⟩ := h
    refine g_aldRF (c := 7) (ff10_14 q1).2 q4 q5 rfl (by decide) fun i6 => ?_
    replace h := h i6
    refine g_st (lv' := [_, _, _, _]) (is_R _) (Nat.le_of_ble_eq_true rfl) (Or.inr (n1_I _)) rfl ?_
    refine g_ld (v := rf _) rfl (is_R _) ?_
    obtain ⟨q7, h⟩ := h
    refine g_getI (kz := 0) q7 rfl (Nat.le_of_ble_eq_true rfl) rfl fun i8 => ?_
    replace h := h i8
    refine g_const (v := cI (1)) rfl ?_
    refine g_eq2 i8 ⟨by omega, by omega⟩ (fun b9 => ?_) (fun b9 => ?_)
    · replace h := h.1 b9
      unfold vX10_plain_25
      refine g_ld (v := rf _) rfl (is_R _) ?_
      refine g_getZ (kz := 5) q7 rfl (Nat.le_of_ble_eq_true rfl) rfl fun i10 => ?_
      replace h := h i10
      refine g_eq1 ⟨by omega, by omega⟩ (fun b11 => ?_) (fun b11 => ?_)
      · replace h := h.1 b11
        unfold vX10_plain_32
        refine g_ld (v := rf _) rfl (is_R _) ?_
        refine g_getL (kz := 7) q7 rfl (Nat.le_of_ble_eq_true rfl) rfl fun i12 => ?_
        replace h := h i12
        refine g_ld (v := rf _) rfl (is_R _) ?_
        obtain ⟨q13, h⟩ := h
        refine g_getL (kz := 7) q13 rfl (Nat.le_of_ble_eq_true rfl) rfl fun i14 => ?_
        replace h := h i14
        refine g_leq i12 i14 (fun b15 => ?_) (fun b15 => ?_)
        · replace h := h.1 b15
          unfold vX10_plain_44
          refine g_ld (v := rf _) rfl (is_R _) ?_
          refine g_ld (v := rf _) rfl (is_R _) ?_
          refine g_callV (As := [_]) (ci := 7) q7 (fun _ => rfl) ?_
          refine g_go1 (Nat.le_of_ble_eq_true rfl) (Tn_w (TX7_sameParams  h) fun _ G16 ⟨r17, e, i18, h⟩ => ?_)
          subst e
          refine ⟨n7_I _, ?_⟩
          replace h := h i18
          refine g_eq1 ⟨by omega, by omega⟩ (fun b19 => ?_) (fun b19 => ?_)
          · replace h := h.1 b19
            exact TX10_plain_54 hl2 hj0 h
          · replace h := h.2 b19
            unfold vX10_plain_52
            refine g_ld (v := rf _) rfl (is_R _) ?_
            exact g_ret1 (is_R _) ⟨_, rfl, h⟩
        · replace h := h.2 b15
          exact TX10_plain_54 hl2 hj0 h
      · replace h := h.2 b11
        exact TX10_plain_54 hl2 hj0 h
    · replace h := h.2 b9
      exact TX10_plain_54 hl2 hj0 h
  · replace h := h.2 b3
    unfold vX10_plain_60
    refine g_const (v := rf (-1)) rfl ?_
    exact g_ret1 (is_R _) ⟨_, rfl, h⟩
def PX10_plain_0 (J : Nat → List Int → gS → (Int → gS → Prop) → Prop) (o : Int) (a1 : Int) (G : gS) (Q : Int → gS → Prop) : Prop :=
  PX10_plain_2 J o a1 0 G Q
set_option maxRecDepth 20000 in
theorem TX10_plain_0 {j : Nat → rx_K} {J : Nat → List Int → gS → (Int → gS → Prop) → Prop} {o : Int} {a1 : Int} {G : gS} {Q : Int → gS → Prop}  (hj0 : ∀ (o : Int) (l1 : Int) (l2 : Int) (l3 : Nat) (G : gS), (inI l2) → (l3 % 8 ≠ 1) → J 0 [o, l1, l2] G Q → Tg W0 (j 0) [rf (o), rf (l1), cI (l2), l3] [] G (fun r G => ∃ v, r = rf v ∧ Q v G)) (h : PX10_plain_0 J o a1 G Q) : Tg W0 (vX10_plain_0 j) [rf (o), rf (a1), 7, 7] [] G (fun r G => ∃ v, r = rf v ∧ Q v G) := by
  unfold PX10_plain_0 at h
  unfold vX10_plain_0
  refine g_const (v := cI (0)) rfl ?_
  refine g_st (lv' := [_, _, _, _]) (is_I _) (Nat.le_of_ble_eq_true rfl) (Or.inr (n1_R _)) rfl ?_
  exact TX10_plain_2 ⟨by omega, by omega⟩ (show 7 % 8 ≠ 1 by decide) hj0 h
def PX10_plain_J : Nat → Nat → List Int → gS → (Int → gS → Prop) → Prop
  | 0, _, _, _, _ => False
  | f + 1, h, L, G, Q => match h, L with
    | 0, [o, l1, l2] => PX10_plain_2 (PX10_plain_J f) o l1 l2 G Q
    | _, _ => False
theorem TX10_plain_J {Q : Int → gS → Prop} : ∀ f N : Nat, f ≤ N → (∀ (o : Int) (l1 : Int) (l2 : Int) (l3 : Nat) (G : gS), (inI l2) → (l3 % 8 ≠ 1) → (PX10_plain_J f) 0 [o, l1, l2] G Q → Tg W0 (rx_J vhX10_plain N 0) [rf (o), rf (l1), cI (l2), l3] [] G (fun r G => ∃ v, r = rf v ∧ Q v G)) := by
  intro f
  induction f with
  | zero => exact fun N _ => fun _ _ _ _ _ _ _ h => h.elim
  | succ f ih =>
    intro N hN
    obtain ⟨M, rfl⟩ : ∃ M, N = M + 1 := ⟨N - 1, by omega⟩
    have ih := ih M (by omega)
    exact fun _ _ _ _ _ hl2 hl3 h => show Tg W0 (vX10_plain_2 (rx_J vhX10_plain M)) _ _ _ _ from TX10_plain_2 hl2 hl3 ih h
def PX10_plain (o : Int) (a1 : Int) (G : gS) (Q : Int → gS → Prop) : Prop := ∃ f : Nat, f ≤ 4000000000 ∧ PX10_plain_0 (PX10_plain_J f) o a1 G Q
theorem TX10_plain {o : Int} {a1 : Int} {G : gS} {Q : Int → gS → Prop}  (h : PX10_plain o a1 G Q) : Tn W0 FX10_plain [rf (o), rf (a1)] G (fun r G => ∃ v, r = rf v ∧ Q v G) := by
  obtain ⟨f, hf, h⟩ := h
  have hJ := TX10_plain_J (Q := Q) f 4000000000 hf
  unfold FX10_plain
  refine g_ent (lv' := [rf (o), rf (a1), 7, 7]) (flR (flR fl0)) (Nat.le_of_ble_eq_true rfl) rfl ?_
  exact TX10_plain_0  hJ h
def PX2_methods_164 (J : Nat → List Int → gS → (Int → gS → Prop) → Prop) (l1 : Int) (l2 : Int) (l3 : Int) (l4 : Int) (l5 : Int) (G : gS) (Q : Int → gS → Prop) : Prop :=
  (inI (l4 + 1) ∧ J 1 [l1, l2, l3, l4 + 1] G Q)
set_option maxRecDepth 20000 in
theorem TX2_methods_164 {j : Nat → rx_K} {J : Nat → List Int → gS → (Int → gS → Prop) → Prop} {l1 : Int} {l2 : Int} {l3 : Int} {l4 : Int} {l5 : Int} {l6 : Nat} {G : gS} {Q : Int → gS → Prop} (hl3 : inI l3) (hl4 : inI l4) (hl6 : l6 % 8 ≠ 1) (hj0 : ∀ (l1 : Int) (l2 : Int) (l3 : Int) (l4 : Int) (l5 : Nat) (l6 : Nat) (G : gS), (inI l3) → (inI l4) → (l5 % 8 ≠ 1) → (l6 % 8 ≠ 1) → J 0 [l1, l2, l3, l4] G Q → Tg W0 (j 0) [rf (934), rf (l1), rf (l2), cI (l3), cI (l4), l5, l6] [] G (fun r G => ∃ v, r = cI v ∧ inI v ∧ Q v G)) (hj1 : ∀ (l1 : Int) (l2 : Int) (l3 : Int) (l4 : Int) (l5 : Nat) (l6 : Nat) (G : gS), (inI l3) → (inI l4) → (l5 % 8 ≠ 1) → (l6 % 8 ≠ 1) → J 1 [l1, l2, l3, l4] G Q → Tg W0 (j 1) [rf (934), rf (l1), rf (l2), cI (l3), cI (l4), l5, l6] [] G (fun r G => ∃ v, r = cI v ∧ inI v ∧ Q v G)) (h : PX2_methods_164 J l1 l2 l3 l4 l5 G Q) : Tg W0 (vX2_methods_164 j) [rf (934), rf (l1), rf (l2), cI (l3), cI (l4), rf (l5), l6] [] G (fun r G => ∃ v, r = cI v ∧ inI v ∧ Q v G) := by
  unfold PX2_methods_164 at h
  unfold vX2_methods_164
  refine g_inc (lv' := [_, _, _, _, _, _, _]) rfl (Nat.le_of_ble_eq_true rfl) (Or.inr (n1_I _)) rfl ?_
  obtain ⟨q51, h⟩ := h
  exact hj1 _ _ _ _ _ _ _ hl3 q51 (n1_R _) hl6 h
def PX2_methods_155 (J : Nat → List Int → gS → (Int → gS → Prop) → Prop) (l1 : Int) (l2 : Int) (l3 : Int) (l4 : Int) (l5 : Int) (s0 : Int) (s1 : Int) (s2 : Int) (G : gS) (Q : Int → gS → Prop) : Prop :=
  (isO W0 2 (s1) ∧ PX2_note s2 (-2) l4 G (fun r48 G47 => inI r48 → (inI (s0 + r48) ∧ PX2_methods_164 J l1 l2 (s0 + r48) l4 l5 G47 Q)))
set_option maxRecDepth 20000 in
theorem TX2_methods_155 {j : Nat → rx_K} {J : Nat → List Int → gS → (Int → gS → Prop) → Prop} {l1 : Int} {l2 : Int} {l3 : Int} {l4 : Int} {l5 : Int} {l6 : Nat} {s0 : Int} {s1 : Int} {s2 : Int} {G : gS} {Q : Int → gS → Prop} (hl3 : inI l3) (hl4 : inI l4) (hl6 : l6 % 8 ≠ 1) (hs0 : inI s0) (hs2 : inI s2) (hj0 : ∀ (l1 : Int) (l2 : Int) (l3 : Int) (l4 : Int) (l5 : Nat) (l6 : Nat) (G : gS), (inI l3) → (inI l4) → (l5 % 8 ≠ 1) → (l6 % 8 ≠ 1) → J 0 [l1, l2, l3, l4] G Q → Tg W0 (j 0) [rf (934), rf (l1), rf (l2), cI (l3), cI (l4), l5, l6] [] G (fun r G => ∃ v, r = cI v ∧ inI v ∧ Q v G)) (hj1 : ∀ (l1 : Int) (l2 : Int) (l3 : Int) (l4 : Int) (l5 : Nat) (l6 : Nat) (G : gS), (inI l3) → (inI l4) → (l5 % 8 ≠ 1) → (l6 % 8 ≠ 1) → J 1 [l1, l2, l3, l4] G Q → Tg W0 (j 1) [rf (934), rf (l1), rf (l2), cI (l3), cI (l4), l5, l6] [] G (fun r G => ∃ v, r = cI v ∧ inI v ∧ Q v G)) (h : PX2_methods_155 J l1 l2 l3 l4 l5 s0 s1 s2 G Q) : Tg W0 (vX2_methods_155 j) [rf (934), rf (l1), rf (l2), cI (l3), cI (l4), rf (l5), l6] [cI (s2), rf (s1), cI (s0)] G (fun r G => ∃ v, r = cI v ∧ inI v ∧ Q v G) := by
  unfold PX2_methods_155 at h
  unfold vX2_methods_155
  refine g_const (v := cI (-2)) rfl ?_
  refine g_ld (v := cI _) rfl (is_I _) ?_
  obtain ⟨q46, h⟩ := h
  refine g_callV (As := [_, _, _]) (ci := 2) q46 (fun _ => rfl) ?_
  refine g_go1 (by simp only [cs_c, cs_0, ct_I, ct_L, ct_R]; exact Nat.le_of_ble_eq_true rfl) (Tn_w (Tn_eq (one2 q46) (TX2_note hs2 ⟨by omega, by omega⟩ hl4 h)) fun _ G47 ⟨r48, e, i49, h⟩ => ?_)
  subst e
  refine ⟨n7_I _, ?_⟩
  replace h := h i49
  refine g_add ?_
  refine g_st (lv' := [_, _, _, _, _, _, _]) (is_I _) (Nat.le_of_ble_eq_true rfl) (Or.inr (n1_R _)) rfl ?_
  obtain ⟨q50, h⟩ := h
  exact TX2_methods_164 q50 hl4 hl6 hj0 hj1 h
def PX2_methods_94 (J : Nat → List Int → gS → (Int → gS → Prop) → Prop) (l1 : Int) (l2 : Int) (l3 : Int) (l4 : Int) (G : gS) (Q : Int → gS → Prop) : Prop :=
  (isO W0 10 (l2) ∧ (inI (G l2 15) → ((l4 < G l2 15 → ((0 : Int) ≤ l4 ∧ ((l4 : Int) < 33 ∧ (((G (l2 + 4) l4 = -1 ∨ isO W0 7 (G (l2 + 4) l4)) ∧ ∀ v, W0.2 (l2 + 4) l4 = some v → G (l2 + 4) l4 = v) → (isO W0 7 (G (l2 + 4) l4) ∧ (inI (G (G (l2 + 4) l4) 0) → ((G (G (l2 + 4) l4) 0 = 1 → ((0 ≤ G (G (l2 + 4) l4) 5 ∧ G (G (l2 + 4) l4) 5 ≤ 1) → ((G (G (l2 + 4) l4) 5 = 0 → (isO W0 10 (l1) ∧ PX10_plain l1 (G (l2 + 4) l4) G (fun r41 G40 => ((r41 < 0 → ((0 ≤ G40 (G (l2 + 4) l4) 4 ∧ G40 (G (l2 + 4) l4) 4 ≤ 1) → ((G40 (G (l2 + 4) l4) 4 = 0 → PX2_methods_155 J l1 l2 l3 l4 (G (l2 + 4) l4) l3 934 40 G40 Q) ∧ (¬ (G40 (G (l2 + 4) l4) 4 = 0) → PX2_methods_155 J l1 l2 l3 l4 (G (l2 + 4) l4) l3 934 41 G40 Q)))) ∧ (0 ≤ r41 → PX2_methods_164 J l1 l2 l3 l4 (G (l2 + 4) l4) G40 Q))))) ∧ (¬ (G (G (l2 + 4) l4) 5 = 0) → PX2_methods_164 J l1 l2 l3 l4 (G (l2 + 4) l4) G Q)))) ∧ (¬ (G (G (l2 + 4) l4) 0 = 1) → PX2_methods_164 J l1 l2 l3 l4 (G (l2 + 4) l4) G Q)))))))) ∧ (¬ (l4 < G l2 15) → Q (l3) G))))
set_option maxRecDepth 20000 in
theorem TX2_methods_94 {j : Nat → rx_K} {J : Nat → List Int → gS → (Int → gS → Prop) → Prop} {l1 : Int} {l2 : Int} {l3 : Int} {l4 : Int} {l5 : Nat} {l6 : Nat} {G : gS} {Q : Int → gS → Prop} (hl3 : inI l3) (hl4 : inI l4) (hl5 : l5 % 8 ≠ 1) (hl6 : l6 % 8 ≠ 1) (hj0 : ∀ (l1 : Int) (l2 : Int) (l3 : Int) (l4 : Int) (l5 : Nat) (l6 : Nat) (G : gS), (inI l3) → (inI l4) → (l5 % 8 ≠ 1) → (l6 % 8 ≠ 1) → J 0 [l1, l2, l3, l4] G Q → Tg W0 (j 0) [rf (934), rf (l1), rf (l2), cI (l3), cI (l4), l5, l6] [] G (fun r G => ∃ v, r = cI v ∧ inI v ∧ Q v G)) (hj1 : ∀ (l1 : Int) (l2 : Int) (l3 : Int) (l4 : Int) (l5 : Nat) (l6 : Nat) (G : gS), (inI l3) → (inI l4) → (l5 % 8 ≠ 1) → (l6 % 8 ≠ 1) → J 1 [l1, l2, l3, l4] G Q → Tg W0 (j 1) [rf (934), rf (l1), rf (l2), cI (l3), cI (l4), l5, l6] [] G (fun r G => ∃ v, r = cI v ∧ inI v ∧ Q v G)) (h : PX2_methods_94 J l1 l2 l3 l4 G Q) : Tg W0 (vX2_methods_94 j) [rf (934), rf (l1), rf (l2), cI (l3), cI (l4), l5, l6] [] G (fun r G => ∃ v, r = cI v ∧ inI v ∧ Q v G) := by
  unfold PX2_methods_94 at h
  unfold vX2_methods_94
  refine g_ld (v := cI _) rfl (is_I _) ?_
  refine g_ld (v := rf _) rfl (is_R _) ?_
  obtain ⟨q28, h⟩ := h
  refine g_getI (kz := 15) q28 rfl (Nat.le_of_ble_eq_true rfl) rfl fun i29 => ?_
  replace h := h i29
  refine g_lt2 hl4 i29 (fun b30 => ?_) (fun b30 => ?_)
  · replace h := h.1 b30
    unfold vX2_methods_103
    refine g_ld (v := rf _) rfl (is_R _) ?_
    refine g_getF q28 (ff10_14 q28).1 rfl (Nat.le_of_ble_eq_true rfl) (Nat.le_of_ble_eq_true rfl) ?_
    refine g_ld (v := cI _) rfl (is_I _) ?_
    obtain ⟨q31, q32, h⟩ := h
    refine g_aldRF (c := 7) (ff10_14 q28).2 q31 q32 rfl (by decide) fun i33 => ?_
    replace h := h i33
    refine g_st (lv' := [_, _, _, _, _, _, _]) (is_R _) (Nat.le_of_ble_eq_true rfl) (Or.inr (n1_I _)) rfl ?_
    refine g_ld (v := rf _) rfl (is_R _) ?_
    obtain ⟨q34, h⟩ := h
    refine g_getI (kz := 0) q34 rfl (Nat.le_of_ble_eq_true rfl) rfl fun i35 => ?_
    replace h := h i35
    refine g_const (v := cI (1)) rfl ?_
    refine g_eq2 i35 ⟨by omega, by omega⟩ (fun b36 => ?_) (fun b36 => ?_)
    · replace h := h.1 b36
      unfold vX2_methods_121
      refine g_ld (v := rf _) rfl (is_R _) ?_
      refine g_getZ (kz := 5) q34 rfl (Nat.le_of_ble_eq_true rfl) rfl fun i37 => ?_
      replace h := h i37
      refine g_eq1 ⟨by omega, by omega⟩ (fun b38 => ?_) (fun b38 => ?_)
      · replace h := h.1 b38
        unfold vX2_methods_129
        refine g_ld (v := rf _) rfl (is_R _) ?_
        refine g_ld (v := rf _) rfl (is_R _) ?_
        obtain ⟨q39, h⟩ := h
        refine g_callV (As := [_]) (ci := 10) q39 (fun _ => rfl) ?_
        refine g_go1 (Nat.le_of_ble_eq_true rfl) (Tn_w (TX10_plain  h) fun _ G40 ⟨r41, e, h⟩ => ?_)
        subst e
        refine ⟨n7_R _, ?_⟩
        refine g_nul (fun b43 => ?_) (fun b43 => ?_)
        · replace h := h.1 b43
          unfold vX2_methods_138
          refine g_ld (v := cI _) rfl (is_I _) ?_
          refine g_ld (v := rf _) rfl (is_R _) ?_
          refine g_ld (v := rf _) rfl (is_R _) ?_
          refine g_getZ (kz := 4) q34 rfl (Nat.le_of_ble_eq_true rfl) rfl fun i44 => ?_
          replace h := h i44
          refine g_eq1 ⟨by omega, by omega⟩ (fun b45 => ?_) (fun b45 => ?_)
          · replace h := h.1 b45
            unfold vX2_methods_153
            refine g_const (v := cI (40)) rfl ?_
            exact TX2_methods_155 hl3 hl4 hl6 hl3 ⟨by omega, by omega⟩ hj0 hj1 h
          · replace h := h.2 b45
            unfold vX2_methods_148
            refine g_const (v := cI (41)) rfl ?_
            exact TX2_methods_155 hl3 hl4 hl6 hl3 ⟨by omega, by omega⟩ hj0 hj1 h
        · replace h := h.2 b43
          exact TX2_methods_164 hl3 hl4 hl6 hj0 hj1 h
      · replace h := h.2 b38
        exact TX2_methods_164 hl3 hl4 hl6 hj0 hj1 h
    · replace h := h.2 b36
      exact TX2_methods_164 hl3 hl4 hl6 hj0 hj1 h
  · replace h := h.2 b30
    unfold vX2_methods_170
    refine g_ld (v := cI _) rfl (is_I _) ?_
    exact g_ret1 (is_I _) ⟨_, rfl, hl3, h⟩
def PX2_methods_85 (J : Nat → List Int → gS → (Int → gS → Prop) → Prop) (l1 : Int) (l2 : Int) (l3 : Int) (l4 : Int) (l5 : Int) (G : gS) (Q : Int → gS → Prop) : Prop :=
  (inI (l4 + 1) ∧ J 0 [l1, l2, l3, l4 + 1] G Q)
set_option maxRecDepth 20000 in
theorem TX2_methods_85 {j : Nat → rx_K} {J : Nat → List Int → gS → (Int → gS → Prop) → Prop} {l1 : Int} {l2 : Int} {l3 : Int} {l4 : Int} {l5 : Int} {l6 : Nat} {G : gS} {Q : Int → gS → Prop} (hl3 : inI l3) (hl4 : inI l4) (hl6 : l6 % 8 ≠ 1) (hj0 : ∀ (l1 : Int) (l2 : Int) (l3 : Int) (l4 : Int) (l5 : Nat) (l6 : Nat) (G : gS), (inI l3) → (inI l4) → (l5 % 8 ≠ 1) → (l6 % 8 ≠ 1) → J 0 [l1, l2, l3, l4] G Q → Tg W0 (j 0) [rf (934), rf (l1), rf (l2), cI (l3), cI (l4), l5, l6] [] G (fun r G => ∃ v, r = cI v ∧ inI v ∧ Q v G)) (hj1 : ∀ (l1 : Int) (l2 : Int) (l3 : Int) (l4 : Int) (l5 : Nat) (l6 : Nat) (G : gS), (inI l3) → (inI l4) → (l5 % 8 ≠ 1) → (l6 % 8 ≠ 1) → J 1 [l1, l2, l3, l4] G Q → Tg W0 (j 1) [rf (934), rf (l1), rf (l2), cI (l3), cI (l4), l5, l6] [] G (fun r G => ∃ v, r = cI v ∧ inI v ∧ Q v G)) (h : PX2_methods_85 J l1 l2 l3 l4 l5 G Q) : Tg W0 (vX2_methods_85 j) [rf (934), rf (l1), rf (l2), cI (l3), cI (l4), rf (l5), l6] [] G (fun r G => ∃ v, r = cI v ∧ inI v ∧ Q v G) := by
  unfold PX2_methods_85 at h
  unfold vX2_methods_85
  refine g_inc (lv' := [_, _, _, _, _, _, _]) rfl (Nat.le_of_ble_eq_true rfl) (Or.inr (n1_I _)) rfl ?_
  obtain ⟨q27, h⟩ := h
  exact hj0 _ _ _ _ _ _ _ hl3 q27 (n1_R _) hl6 h
def PX2_methods_83 (J : Nat → List Int → gS → (Int → gS → Prop) → Prop) (l1 : Int) (l2 : Int) (l3 : Int) (l4 : Int) (l5 : Int) (l6 : Int) (s0 : Int) (s1 : Int) (G : gS) (Q : Int → gS → Prop) : Prop :=
  (inI (s0 + s1) ∧ PX2_methods_85 J l1 l2 (s0 + s1) l4 l5 G Q)
set_option maxRecDepth 20000 in
theorem TX2_methods_83 {j : Nat → rx_K} {J : Nat → List Int → gS → (Int → gS → Prop) → Prop} {l1 : Int} {l2 : Int} {l3 : Int} {l4 : Int} {l5 : Int} {l6 : Int} {s0 : Int} {s1 : Int} {G : gS} {Q : Int → gS → Prop} (hl3 : inI l3) (hl4 : inI l4) (hs0 : inI s0) (hs1 : inI s1) (hj0 : ∀ (l1 : Int) (l2 : Int) (l3 : Int) (l4 : Int) (l5 : Nat) (l6 : Nat) (G : gS), (inI l3) → (inI l4) → (l5 % 8 ≠ 1) → (l6 % 8 ≠ 1) → J 0 [l1, l2, l3, l4] G Q → Tg W0 (j 0) [rf (934), rf (l1), rf (l2), cI (l3), cI (l4), l5, l6] [] G (fun r G => ∃ v, r = cI v ∧ inI v ∧ Q v G)) (hj1 : ∀ (l1 : Int) (l2 : Int) (l3 : Int) (l4 : Int) (l5 : Nat) (l6 : Nat) (G : gS), (inI l3) → (inI l4) → (l5 % 8 ≠ 1) → (l6 % 8 ≠ 1) → J 1 [l1, l2, l3, l4] G Q → Tg W0 (j 1) [rf (934), rf (l1), rf (l2), cI (l3), cI (l4), l5, l6] [] G (fun r G => ∃ v, r = cI v ∧ inI v ∧ Q v G)) (h : PX2_methods_83 J l1 l2 l3 l4 l5 l6 s0 s1 G Q) : Tg W0 (vX2_methods_83 j) [rf (934), rf (l1), rf (l2), cI (l3), cI (l4), rf (l5), rf (l6)] [cI (s1), cI (s0)] G (fun r G => ∃ v, r = cI v ∧ inI v ∧ Q v G) := by
  unfold PX2_methods_83 at h
  unfold vX2_methods_83
  refine g_add ?_
  refine g_st (lv' := [_, _, _, _, _, _, _]) (is_I _) (Nat.le_of_ble_eq_true rfl) (Or.inr (n1_R _)) rfl ?_
  obtain ⟨q26, h⟩ := h
  exact TX2_methods_85 q26 hl4 (n1_R _) hj0 hj1 h
def PX2_methods_5 (J : Nat → List Int → gS → (Int → gS → Prop) → Prop) (l1 : Int) (l2 : Int) (l3 : Int) (l4 : Int) (G : gS) (Q : Int → gS → Prop) : Prop :=
  (isO W0 10 (l1) ∧ (inI (G l1 15) → ((l4 < G l1 15 → ((0 : Int) ≤ l4 ∧ ((l4 : Int) < 33 ∧ (((G (l1 + 4) l4 = -1 ∨ isO W0 7 (G (l1 + 4) l4)) ∧ ∀ v, W0.2 (l1 + 4) l4 = some v → G (l1 + 4) l4 = v) → (isO W0 7 (G (l1 + 4) l4) ∧ (inI (G (G (l1 + 4) l4) 0) → ((G (G (l1 + 4) l4) 0 = 1 → ((0 ≤ G (G (l1 + 4) l4) 5 ∧ G (G (l1 + 4) l4) 5 ≤ 1) → ((G (G (l1 + 4) l4) 5 = 0 → (isO W0 10 (l2) ∧ PX10_plain l2 (G (l1 + 4) l4) G (fun r14 G13 => ((r14 < 0 → PX2_note 30 l4 (-2) G13 (fun r18 G17 => inI r18 → PX2_methods_83 J l1 l2 l3 l4 (G (l1 + 4) l4) r14 l3 r18 G17 Q)) ∧ (0 ≤ r14 → PX2_indexIn l2 r14 G13 (fun r21 G20 => inI r21 → PX2_method (G (l1 + 4) l4) r14 l4 r21 G20 (fun r24 G23 => inI r24 → PX2_methods_83 J l1 l2 l3 l4 (G (l1 + 4) l4) r14 l3 r24 G23 Q))))))) ∧ (¬ (G (G (l1 + 4) l4) 5 = 0) → PX2_methods_85 J l1 l2 l3 l4 (G (l1 + 4) l4) G Q)))) ∧ (¬ (G (G (l1 + 4) l4) 0 = 1) → PX2_methods_85 J l1 l2 l3 l4 (G (l1 + 4) l4) G Q)))))))) ∧ (¬ (l4 < G l1 15) → PX2_methods_94 J l1 l2 l3 0 G Q))))
set_option maxRecDepth 20000 in
theorem TX2_methods_5 {j : Nat → rx_K} {J : Nat → List Int → gS → (Int → gS → Prop) → Prop} {l1 : Int} {l2 : Int} {l3 : Int} {l4 : Int} {l5 : Nat} {l6 : Nat} {G : gS} {Q : Int → gS → Prop} (hl3 : inI l3) (hl4 : inI l4) (hl5 : l5 % 8 ≠ 1) (hl6 : l6 % 8 ≠ 1) (hj0 : ∀ (l1 : Int) (l2 : Int) (l3 : Int) (l4 : Int) (l5 : Nat) (l6 : Nat) (G : gS), (inI l3) → (inI l4) → (l5 % 8 ≠ 1) → (l6 % 8 ≠ 1) → J 0 [l1, l2, l3, l4] G Q → Tg W0 (j 0) [rf (934), rf (l1), rf (l2), cI (l3), cI (l4), l5, l6] [] G (fun r G => ∃ v, r = cI v ∧ inI v ∧ Q v G)) (hj1 : ∀ (l1 : Int) (l2 : Int) (l3 : Int) (l4 : Int) (l5 : Nat) (l6 : Nat) (G : gS), (inI l3) → (inI l4) → (l5 % 8 ≠ 1) → (l6 % 8 ≠ 1) → J 1 [l1, l2, l3, l4] G Q → Tg W0 (j 1) [rf (934), rf (l1), rf (l2), cI (l3), cI (l4), l5, l6] [] G (fun r G => ∃ v, r = cI v ∧ inI v ∧ Q v G)) (h : PX2_methods_5 J l1 l2 l3 l4 G Q) : Tg W0 (vX2_methods_5 j) [rf (934), rf (l1), rf (l2), cI (l3), cI (l4), l5, l6] [] G (fun r G => ∃ v, r = cI v ∧ inI v ∧ Q v G) := by
  unfold PX2_methods_5 at h
  unfold vX2_methods_5
  refine g_ld (v := cI _) rfl (is_I _) ?_
  refine g_ld (v := rf _) rfl (is_R _) ?_
  obtain ⟨q1, h⟩ := h
  refine g_getI (kz := 15) q1 rfl (Nat.le_of_ble_eq_true rfl) rfl fun i2 => ?_
  replace h := h i2
  refine g_lt2 hl4 i2 (fun b3 => ?_) (fun b3 => ?_)
  · replace h := h.1 b3
    unfold vX2_methods_14
    refine g_ld (v := rf _) rfl (is_R _) ?_
    refine g_getF q1 (ff10_14 q1).1 rfl (Nat.le_of_ble_eq_true rfl) (Nat.le_of_ble_eq_true rfl) ?_
    refine g_ld (v := cI _) rfl (is_I _) ?_
    obtain ⟨q4, q5, h⟩ := h
    refine g_aldRF (c := 7) (ff10_14 q1).2 q4 q5 rfl (by decide) fun i6 => ?_
    replace h := h i6
    refine g_st (lv' := [_, _, _, _, _, _, _]) (is_R _) (Nat.le_of_ble_eq_true rfl) (Or.inr (n1_I _)) rfl ?_
    refine g_ld (v := rf _) rfl (is_R _) ?_
    obtain ⟨q7, h⟩ := h
    refine g_getI (kz := 0) q7 rfl (Nat.le_of_ble_eq_true rfl) rfl fun i8 => ?_
    replace h := h i8
    refine g_const (v := cI (1)) rfl ?_
    refine g_eq2 i8 ⟨by omega, by omega⟩ (fun b9 => ?_) (fun b9 => ?_)
    · replace h := h.1 b9
      unfold vX2_methods_32
      refine g_ld (v := rf _) rfl (is_R _) ?_
      refine g_getZ (kz := 5) q7 rfl (Nat.le_of_ble_eq_true rfl) rfl fun i10 => ?_
      replace h := h i10
      refine g_eq1 ⟨by omega, by omega⟩ (fun b11 => ?_) (fun b11 => ?_)
      · replace h := h.1 b11
        unfold vX2_methods_40
        refine g_ld (v := rf _) rfl (is_R _) ?_
        refine g_ld (v := rf _) rfl (is_R _) ?_
        obtain ⟨q12, h⟩ := h
        refine g_callV (As := [_]) (ci := 10) q12 (fun _ => rfl) ?_
        refine g_go1 (Nat.le_of_ble_eq_true rfl) (Tn_w (TX10_plain  h) fun _ G13 ⟨r14, e, h⟩ => ?_)
        subst e
        refine ⟨n7_R _, ?_⟩
        refine g_st (lv' := [_, _, _, _, _, _, _]) (is_R _) (Nat.le_of_ble_eq_true rfl) (Or.inr (n1_R _)) rfl ?_
        refine g_ld (v := cI _) rfl (is_I _) ?_
        refine g_ld (v := rf _) rfl (is_R _) ?_
        refine g_nul (fun b16 => ?_) (fun b16 => ?_)
        · replace h := h.1 b16
          unfold vX2_methods_54
          refine g_ld (v := rf _) rfl (is_R _) ?_
          refine g_const (v := cI (30)) rfl ?_
          refine g_ld (v := cI _) rfl (is_I _) ?_
          refine g_const (v := cI (-2)) rfl ?_
          refine g_callV (As := [_, _, _]) (ci := 2) oC2 (fun _ => rfl) ?_
          refine g_go1 (by simp only [cs_c, cs_0, ct_I, ct_L, ct_R]; exact Nat.le_of_ble_eq_true rfl) (Tn_w (TX2_note ⟨by omega, by omega⟩ hl4 ⟨by omega, by omega⟩ h) fun _ G17 ⟨r18, e, i19, h⟩ => ?_)
          subst e
          refine ⟨n7_I _, ?_⟩
          replace h := h i19
          exact TX2_methods_83 hl3 hl4 hl3 i19 hj0 hj1 h
        · replace h := h.2 b16
          unfold vX2_methods_67
          refine g_ld (v := rf _) rfl (is_R _) ?_
          refine g_ld (v := rf _) rfl (is_R _) ?_
          refine g_ld (v := rf _) rfl (is_R _) ?_
          refine g_ld (v := cI _) rfl (is_I _) ?_
          refine g_ld (v := rf _) rfl (is_R _) ?_
          refine g_ld (v := rf _) rfl (is_R _) ?_
          refine g_callS (As := [_, _]) (fun _ => rfl) ?_
          refine g_go1 (by simp only [cs_c, cs_0, ct_I, ct_L, ct_R]; exact Nat.le_of_ble_eq_true rfl) (Tn_w (TX2_indexIn  h) fun _ G20 ⟨r21, e, i22, h⟩ => ?_)
          subst e
          refine ⟨n7_I _, ?_⟩
          replace h := h i22
          refine g_callV (As := [_, _, _, _]) (ci := 2) oC2 (fun _ => rfl) ?_
          refine g_go1 (by simp only [cs_c, cs_0, ct_I, ct_L, ct_R]; exact Nat.le_of_ble_eq_true rfl) (Tn_w (TX2_method hl4 i22 h) fun _ G23 ⟨r24, e, i25, h⟩ => ?_)
          subst e
          refine ⟨n7_I _, ?_⟩
          replace h := h i25
          exact TX2_methods_83 hl3 hl4 hl3 i25 hj0 hj1 h
      · replace h := h.2 b11
        exact TX2_methods_85 hl3 hl4 hl6 hj0 hj1 h
    · replace h := h.2 b9
      exact TX2_methods_85 hl3 hl4 hl6 hj0 hj1 h
  · replace h := h.2 b3
    unfold vX2_methods_91
    refine g_const (v := cI (0)) rfl ?_
    refine g_st (lv' := [_, _, _, _, _, _, _]) (is_I _) (Nat.le_of_ble_eq_true rfl) (Or.inr (n1_I _)) rfl ?_
    exact TX2_methods_94 hl3 ⟨by omega, by omega⟩ hl5 hl6 hj0 hj1 h
def PX2_methods_0 (J : Nat → List Int → gS → (Int → gS → Prop) → Prop) (a1 : Int) (a2 : Int) (G : gS) (Q : Int → gS → Prop) : Prop :=
  PX2_methods_5 J a1 a2 0 0 G Q
set_option maxRecDepth 20000 in
theorem TX2_methods_0 {j : Nat → rx_K} {J : Nat → List Int → gS → (Int → gS → Prop) → Prop} {a1 : Int} {a2 : Int} {G : gS} {Q : Int → gS → Prop}  (hj0 : ∀ (l1 : Int) (l2 : Int) (l3 : Int) (l4 : Int) (l5 : Nat) (l6 : Nat) (G : gS), (inI l3) → (inI l4) → (l5 % 8 ≠ 1) → (l6 % 8 ≠ 1) → J 0 [l1, l2, l3, l4] G Q → Tg W0 (j 0) [rf (934), rf (l1), rf (l2), cI (l3), cI (l4), l5, l6] [] G (fun r G => ∃ v, r = cI v ∧ inI v ∧ Q v G)) (hj1 : ∀ (l1 : Int) (l2 : Int) (l3 : Int) (l4 : Int) (l5 : Nat) (l6 : Nat) (G : gS), (inI l3) → (inI l4) → (l5 % 8 ≠ 1) → (l6 % 8 ≠ 1) → J 1 [l1, l2, l3, l4] G Q → Tg W0 (j 1) [rf (934), rf (l1), rf (l2), cI (l3), cI (l4), l5, l6] [] G (fun r G => ∃ v, r = cI v ∧ inI v ∧ Q v G)) (h : PX2_methods_0 J a1 a2 G Q) : Tg W0 (vX2_methods_0 j) [rf (934), rf (a1), rf (a2), 7, 7, 7, 7] [] G (fun r G => ∃ v, r = cI v ∧ inI v ∧ Q v G) := by
  unfold PX2_methods_0 at h
  unfold vX2_methods_0
  refine g_const (v := cI (0)) rfl ?_
  refine g_st (lv' := [_, _, _, _, _, _, _]) (is_I _) (Nat.le_of_ble_eq_true rfl) (Or.inr (n1_R _)) rfl ?_
  refine g_const (v := cI (0)) rfl ?_
  refine g_st (lv' := [_, _, _, _, _, _, _]) (is_I _) (Nat.le_of_ble_eq_true rfl) (Or.inr (n1_I _)) rfl ?_
  exact TX2_methods_5 ⟨by omega, by omega⟩ ⟨by omega, by omega⟩ (show 7 % 8 ≠ 1 by decide) (show 7 % 8 ≠ 1 by decide) hj0 hj1 h
def PX2_methods_J : Nat → Nat → List Int → gS → (Int → gS → Prop) → Prop
  | 0, _, _, _, _ => False
  | f + 1, h, L, G, Q => match h, L with
    | 0, [l1, l2, l3, l4] => PX2_methods_5 (PX2_methods_J f) l1 l2 l3 l4 G Q
    | 1, [l1, l2, l3, l4] => PX2_methods_94 (PX2_methods_J f) l1 l2 l3 l4 G Q
    | _, _ => False
theorem TX2_methods_J {Q : Int → gS → Prop} : ∀ f N : Nat, f ≤ N → (∀ (l1 : Int) (l2 : Int) (l3 : Int) (l4 : Int) (l5 : Nat) (l6 : Nat) (G : gS), (inI l3) → (inI l4) → (l5 % 8 ≠ 1) → (l6 % 8 ≠ 1) → (PX2_methods_J f) 0 [l1, l2, l3, l4] G Q → Tg W0 (rx_J vhX2_methods N 0) [rf (934), rf (l1), rf (l2), cI (l3), cI (l4), l5, l6] [] G (fun r G => ∃ v, r = cI v ∧ inI v ∧ Q v G)) ∧ (∀ (l1 : Int) (l2 : Int) (l3 : Int) (l4 : Int) (l5 : Nat) (l6 : Nat) (G : gS), (inI l3) → (inI l4) → (l5 % 8 ≠ 1) → (l6 % 8 ≠ 1) → (PX2_methods_J f) 1 [l1, l2, l3, l4] G Q → Tg W0 (rx_J vhX2_methods N 1) [rf (934), rf (l1), rf (l2), cI (l3), cI (l4), l5, l6] [] G (fun r G => ∃ v, r = cI v ∧ inI v ∧ Q v G)) := by
  intro f
  induction f with
  | zero => exact fun N _ => ⟨fun _ _ _ _ _ _ _ _ _ _ _ h => h.elim, fun _ _ _ _ _ _ _ _ _ _ _ h => h.elim⟩
  | succ f ih =>
    intro N hN
    obtain ⟨M, rfl⟩ : ∃ M, N = M + 1 := ⟨N - 1, by omega⟩
    have ih := ih M (by omega)
    exact ⟨fun _ _ _ _ _ _ _ hl3 hl4 hl5 hl6 h => show Tg W0 (vX2_methods_5 (rx_J vhX2_methods M)) _ _ _ _ from TX2_methods_5 hl3 hl4 hl5 hl6 ih.1 ih.2 h, fun _ _ _ _ _ _ _ hl3 hl4 hl5 hl6 h => show Tg W0 (vX2_methods_94 (rx_J vhX2_methods M)) _ _ _ _ from TX2_methods_94 hl3 hl4 hl5 hl6 ih.1 ih.2 h⟩
def PX2_methods (a1 : Int) (a2 : Int) (G : gS) (Q : Int → gS → Prop) : Prop := ∃ f : Nat, f ≤ 4000000000 ∧ PX2_methods_0 (PX2_methods_J f) a1 a2 G Q
theorem TX2_methods {a1 : Int} {a2 : Int} {G : gS} {Q : Int → gS → Prop}  (h : PX2_methods a1 a2 G Q) : Tn W0 FX2_methods [rf (934), rf (a1), rf (a2)] G (fun r G => ∃ v, r = cI v ∧ inI v ∧ Q v G) := by
  obtain ⟨f, hf, h⟩ := h
  have hJ := TX2_methods_J (Q := Q) f 4000000000 hf
  unfold FX2_methods
  refine g_ent (lv' := [rf (934), rf (a1), rf (a2), 7, 7, 7, 7]) (flR (flR (flR fl0))) (Nat.le_of_ble_eq_true rfl) rfl ?_
  exact TX2_methods_0  hJ.1 hJ.2 h
def PX2_only_177 (J : Nat → List Int → gS → (Int → gS → Prop) → Prop) (l1 : Int) (l2 : Int) (l3 : Int) (l4 : Int) (l5 : Int) (s0 : Int) (G : gS) (Q : Int → gS → Prop) : Prop :=
  Q (s0) G
set_option maxRecDepth 20000 in
theorem TX2_only_177 {j : Nat → rx_K} {J : Nat → List Int → gS → (Int → gS → Prop) → Prop} {l1 : Int} {l2 : Int} {l3 : Int} {l4 : Int} {l5 : Int} {s0 : Int} {G : gS} {Q : Int → gS → Prop} (hl3 : inI l3) (hl4 : inI l4) (hl5 : inI l5) (hs0 : inI s0) (hj0 : ∀ (l1 : Int) (l2 : Int) (l3 : Int) (l4 : Int) (l5 : Int) (G : gS), (inI l3) → (inI l4) → (inI l5) → J 0 [l1, l2, l3, l4, l5] G Q → Tg W0 (j 0) [rf (934), rf (l1), rf (l2), cI (l3), cI (l4), cI (l5)] [] G (fun r G => ∃ v, r = cI v ∧ inI v ∧ Q v G)) (h : PX2_only_177 J l1 l2 l3 l4 l5 s0 G Q) : Tg W0 (vX2_only_177 j) [rf (934), rf (l1), rf (l2), cI (l3), cI (l4), cI (l5)] [cI (s0)] G (fun r G => ∃ v, r = cI v ∧ inI v ∧ Q v G) := by
  unfold PX2_only_177 at h
  unfold vX2_only_177
  exact g_ret1 (is_I _) ⟨_, rfl, hs0, h⟩
def PX2_only_132 (J : Nat → List Int → gS → (Int → gS → Prop) → Prop) (l1 : Int) (l2 : Int) (l3 : Int) (l4 : Int) (l5 : Int) (s0 : Int) (s1 : Int) (G : gS) (Q : Int → gS → Prop) : Prop :=
  (inI (ior s0 s1) → (inI (l5 + 1) ∧ J 0 [l1, l2, l3, ior s0 s1, l5 + 1] G Q))
set_option maxRecDepth 20000 in
theorem TX2_only_132 {j : Nat → rx_K} {J : Nat → List Int → gS → (Int → gS → Prop) → Prop} {l1 : Int} {l2 : Int} {l3 : Int} {l4 : Int} {l5 : Int} {s0 : Int} {s1 : Int} {G : gS} {Q : Int → gS → Prop} (hl3 : inI l3) (hl4 : inI l4) (hl5 : inI l5) (hs0 : inI s0) (hs1 : inI s1) (hj0 : ∀ (l1 : Int) (l2 : Int) (l3 : Int) (l4 : Int) (l5 : Int) (G : gS), (inI l3) → (inI l4) → (inI l5) → J 0 [l1, l2, l3, l4, l5] G Q → Tg W0 (j 0) [rf (934), rf (l1), rf (l2), cI (l3), cI (l4), cI (l5)] [] G (fun r G => ∃ v, r = cI v ∧ inI v ∧ Q v G)) (h : PX2_only_132 J l1 l2 l3 l4 l5 s0 s1 G Q) : Tg W0 (vX2_only_132 j) [rf (934), rf (l1), rf (l2), cI (l3), cI (l4), cI (l5)] [cI (s1), cI (s0)] G (fun r G => ∃ v, r = cI v ∧ inI v ∧ Q v G) := by
  unfold PX2_only_132 at h
  unfold vX2_only_132
  refine g_ior fun i59 => ?_
  replace h := h i59
  refine g_st (lv' := [_, _, _, _, _, _]) (is_I _) (Nat.le_of_ble_eq_true rfl) (Or.inr (n1_I _)) rfl ?_
  refine g_inc (lv' := [_, _, _, _, _, _]) rfl (Nat.le_of_ble_eq_true rfl) (Or.inr (n1_I _)) rfl ?_
  obtain ⟨q60, h⟩ := h
  exact hj0 _ _ _ _ _ _ hl3 i59 q60 h
def PX2_only_105 (J : Nat → List Int → gS → (Int → gS → Prop) → Prop) (l1 : Int) (l2 : Int) (l3 : Int) (l4 : Int) (l5 : Int) (s0 : Int) (s1 : Int) (G : gS) (Q : Int → gS → Prop) : Prop :=
  (inI (ior s0 s1) → (isO W0 10 (l1) ∧ PX10_listedAt l1 2 l5 G (fun r52 G51 => inL r52 → (isO W0 10 (l2) ∧ PX10_listedAt l2 2 l5 G51 (fun r56 G55 => inL r56 → ((r52 = r56 → PX2_only_132 J l1 l2 (ior s0 s1) l4 l5 l4 0 G55 Q) ∧ (¬ (r52 = r56) → PX2_only_132 J l1 l2 (ior s0 s1) l4 l5 l4 1 G55 Q)))))))
set_option maxRecDepth 20000 in
theorem TX2_only_105 {j : Nat → rx_K} {J : Nat → List Int → gS → (Int → gS → Prop) → Prop} {l1 : Int} {l2 : Int} {l3 : Int} {l4 : Int} {l5 : Int} {s0 : Int} {s1 : Int} {G : gS} {Q : Int → gS → Prop} (hl3 : inI l3) (hl4 : inI l4) (hl5 : inI l5) (hs0 : inI s0) (hs1 : inI s1) (hj0 : ∀ (l1 : Int) (l2 : Int) (l3 : Int) (l4 : Int) (l5 : Int) (G : gS), (inI l3) → (inI l4) → (inI l5) → J 0 [l1, l2, l3, l4, l5] G Q → Tg W0 (j 0) [rf (934), rf (l1), rf (l2), cI (l3), cI (l4), cI (l5)] [] G (fun r G => ∃ v, r = cI v ∧ inI v ∧ Q v G)) (h : PX2_only_105 J l1 l2 l3 l4 l5 s0 s1 G Q) : Tg W0 (vX2_only_105 j) [rf (934), rf (l1), rf (l2), cI (l3), cI (l4), cI (l5)] [cI (s1), cI (s0)] G (fun r G => ∃ v, r = cI v ∧ inI v ∧ Q v G) := by
  unfold PX2_only_105 at h
  unfold vX2_only_105
  refine g_ior fun i49 => ?_
  replace h := h i49
  refine g_st (lv' := [_, _, _, _, _, _]) (is_I _) (Nat.le_of_ble_eq_true rfl) (Or.inr (n1_R _)) rfl ?_
  refine g_ld (v := cI _) rfl (is_I _) ?_
  refine g_ld (v := rf _) rfl (is_R _) ?_
  refine g_const (v := cI (2)) rfl ?_
  refine g_ld (v := cI _) rfl (is_I _) ?_
  obtain ⟨q50, h⟩ := h
  refine g_callV (As := [_, _]) (ci := 10) q50 (fun _ => rfl) ?_
  refine g_go1 (by simp only [cs_c, cs_0, ct_I, ct_L, ct_R]; exact Nat.le_of_ble_eq_true rfl) (Tn_w (TX10_listedAt ⟨by omega, by omega⟩ hl5 h) fun _ G51 ⟨r52, e, i53, h⟩ => ?_)
  subst e
  refine ⟨n7_L _, ?_⟩
  replace h := h i53
  refine g_ld (v := rf _) rfl (is_R _) ?_
  refine g_const (v := cI (2)) rfl ?_
  refine g_ld (v := cI _) rfl (is_I _) ?_
  obtain ⟨q54, h⟩ := h
  refine g_callV (As := [_, _]) (ci := 10) q54 (fun _ => rfl) ?_
  refine g_go1 (by simp only [cs_c, cs_0, ct_I, ct_L, ct_R]; exact Nat.le_of_ble_eq_true rfl) (Tn_w (TX10_listedAt ⟨by omega, by omega⟩ hl5 h) fun _ G55 ⟨r56, e, i57, h⟩ => ?_)
  subst e
  refine ⟨n7_L _, ?_⟩
  replace h := h i57
  refine g_leq i53 i57 (fun b58 => ?_) (fun b58 => ?_)
  · replace h := h.1 b58
    unfold vX2_only_131
    refine g_const (v := cI (0)) rfl ?_
    exact TX2_only_132 i49 hl4 hl5 hl4 ⟨by omega, by omega⟩ hj0 h
  · replace h := h.2 b58
    unfold vX2_only_127
    refine g_const (v := cI (1)) rfl ?_
    exact TX2_only_132 i49 hl4 hl5 hl4 ⟨by omega, by omega⟩ hj0 h
def PX2_only_73 (J : Nat → List Int → gS → (Int → gS → Prop) → Prop) (l1 : Int) (l2 : Int) (l3 : Int) (l4 : Int) (l5 : Int) (G : gS) (Q : Int → gS → Prop) : Prop :=
  (isO W0 10 (l1) ∧ ((0 : Int) ≤ 2 ∧ ((2 : Int) < 3 ∧ (inI (G (l1 + 2) 2) → ((l5 < G (l1 + 2) 2 → PX10_listedAt l1 2 l5 G (fun r34 G33 => inL r34 → (isO W0 10 (l2) ∧ PX10_has l2 2 r34 G33 (fun r38 G37 => (0 ≤ r38 ∧ r38 ≤ 1) → ((r38 = 0 → PX2_only_105 J l1 l2 l3 l4 l5 l3 1 G37 Q) ∧ (¬ (r38 = 0) → PX2_only_105 J l1 l2 l3 l4 l5 l3 0 G37 Q)))))) ∧ (¬ (l5 < G (l1 + 2) 2) → ((l3 = 0 → ((l4 = 0 → PX2_only_177 J l1 l2 l3 l4 l5 0 G Q) ∧ (¬ (l4 = 0) → PX2_note 14 (-2) (-2) G (fun r44 G43 => inI r44 → PX2_only_177 J l1 l2 l3 l4 l5 r44 G43 Q)))) ∧ (¬ (l3 = 0) → PX2_note 13 (-2) (-2) G (fun r47 G46 => inI r47 → PX2_only_177 J l1 l2 l3 l4 l5 r47 G46 Q)))))))))
set_option maxRecDepth 20000 in
theorem TX2_only_73 {j : Nat → rx_K} {J : Nat → List Int → gS → (Int → gS → Prop) → Prop} {l1 : Int} {l2 : Int} {l3 : Int} {l4 : Int} {l5 : Int} {G : gS} {Q : Int → gS → Prop} (hl3 : inI l3) (hl4 : inI l4) (hl5 : inI l5) (hj0 : ∀ (l1 : Int) (l2 : Int) (l3 : Int) (l4 : Int) (l5 : Int) (G : gS), (inI l3) → (inI l4) → (inI l5) → J 0 [l1, l2, l3, l4, l5] G Q → Tg W0 (j 0) [rf (934), rf (l1), rf (l2), cI (l3), cI (l4), cI (l5)] [] G (fun r G => ∃ v, r = cI v ∧ inI v ∧ Q v G)) (h : PX2_only_73 J l1 l2 l3 l4 l5 G Q) : Tg W0 (vX2_only_73 j) [rf (934), rf (l1), rf (l2), cI (l3), cI (l4), cI (l5)] [] G (fun r G => ∃ v, r = cI v ∧ inI v ∧ Q v G) := by
  unfold PX2_only_73 at h
  unfold vX2_only_73
  refine g_ld (v := cI _) rfl (is_I _) ?_
  refine g_ld (v := rf _) rfl (is_R _) ?_
  obtain ⟨q28, h⟩ := h
  refine g_getF q28 (ff10_11 q28).1 rfl (Nat.le_of_ble_eq_true rfl) (Nat.le_of_ble_eq_true rfl) ?_
  refine g_const (v := cI (2)) rfl ?_
  obtain ⟨q29, q30, h⟩ := h
  refine g_aldI (ff10_11 q28).2 q29 q30 rfl fun i31 => ?_
  replace h := h i31
  refine g_lt2 hl5 i31 (fun b32 => ?_) (fun b32 => ?_)
  · replace h := h.1 b32
    unfold vX2_only_84
    refine g_ld (v := cI _) rfl (is_I _) ?_
    refine g_ld (v := rf _) rfl (is_R _) ?_
    refine g_const (v := cI (2)) rfl ?_
    refine g_ld (v := rf _) rfl (is_R _) ?_
    refine g_const (v := cI (2)) rfl ?_
    refine g_ld (v := cI _) rfl (is_I _) ?_
    refine g_callV (As := [_, _]) (ci := 10) q28 (fun _ => rfl) ?_
    refine g_go1 (by simp only [cs_c, cs_0, ct_I, ct_L, ct_R]; exact Nat.le_of_ble_eq_true rfl) (Tn_w (TX10_listedAt ⟨by omega, by omega⟩ hl5 h) fun _ G33 ⟨r34, e, i35, h⟩ => ?_)
    subst e
    refine ⟨n7_L _, ?_⟩
    replace h := h i35
    obtain ⟨q36, h⟩ := h
    refine g_callV (As := [_, _]) (ci := 10) q36 (fun _ => rfl) ?_
    refine g_go1 (by simp only [cs_c, cs_0, ct_I, ct_L, ct_R]; exact Nat.le_of_ble_eq_true rfl) (Tn_w (TX10_has ⟨by omega, by omega⟩ i35 h) fun _ G37 ⟨r38, e, i39, h⟩ => ?_)
    subst e
    refine ⟨n7_I _, ?_⟩
    replace h := h i39
    refine g_eq1 ⟨by omega, by omega⟩ (fun b40 => ?_) (fun b40 => ?_)
    · replace h := h.1 b40
      unfold vX2_only_100
      refine g_const (v := cI (1)) rfl ?_
      exact TX2_only_105 hl3 hl4 hl5 hl3 ⟨by omega, by omega⟩ hj0 h
    · replace h := h.2 b40
      unfold vX2_only_104
      refine g_const (v := cI (0)) rfl ?_
      exact TX2_only_105 hl3 hl4 hl5 hl3 ⟨by omega, by omega⟩ hj0 h
  · replace h := h.2 b32
    unfold vX2_only_141
    refine g_ld (v := cI _) rfl (is_I _) ?_
    refine g_eq1 hl3 (fun b41 => ?_) (fun b41 => ?_)
    · replace h := h.1 b41
      unfold vX2_only_158
      refine g_ld (v := cI _) rfl (is_I _) ?_
      refine g_eq1 hl4 (fun b42 => ?_) (fun b42 => ?_)
      · replace h := h.1 b42
        unfold vX2_only_176
        refine g_const (v := cI (0)) rfl ?_
        exact TX2_only_177 hl3 hl4 hl5 ⟨by omega, by omega⟩ hj0 h
      · replace h := h.2 b42
        unfold vX2_only_163
        refine g_ld (v := rf _) rfl (is_R _) ?_
        refine g_const (v := cI (14)) rfl ?_
        refine g_const (v := cI (-2)) rfl ?_
        refine g_const (v := cI (-2)) rfl ?_
        refine g_callV (As := [_, _, _]) (ci := 2) oC2 (fun _ => rfl) ?_
        refine g_go1 (Nat.le_of_ble_eq_true rfl) (Tn_w (TX2_note ⟨by omega, by omega⟩ ⟨by omega, by omega⟩ ⟨by omega, by omega⟩ h) fun _ G43 ⟨r44, e, i45, h⟩ => ?_)
        subst e
        refine ⟨n7_I _, ?_⟩
        replace h := h i45
        exact TX2_only_177 hl3 hl4 hl5 i45 hj0 h
    · replace h := h.2 b41
      unfold vX2_only_145
      refine g_ld (v := rf _) rfl (is_R _) ?_
      refine g_const (v := cI (13)) rfl ?_
      refine g_const (v := cI (-2)) rfl ?_
      refine g_const (v := cI (-2)) rfl ?_
      refine g_callV (As := [_, _, _]) (ci := 2) oC2 (fun _ => rfl) ?_
      refine g_go1 (Nat.le_of_ble_eq_true rfl) (Tn_w (TX2_note ⟨by omega, by omega⟩ ⟨by omega, by omega⟩ ⟨by omega, by omega⟩ h) fun _ G46 ⟨r47, e, i48, h⟩ => ?_)
      subst e
      refine ⟨n7_I _, ?_⟩
      replace h := h i48
      exact TX2_only_177 hl3 hl4 hl5 i48 hj0 h
def PX2_only_68 (J : Nat → List Int → gS → (Int → gS → Prop) → Prop) (l1 : Int) (l2 : Int) (l3 : Int) (s0 : Int) (G : gS) (Q : Int → gS → Prop) : Prop :=
  PX2_only_73 J l1 l2 l3 s0 0 G Q
set_option maxRecDepth 20000 in
theorem TX2_only_68 {j : Nat → rx_K} {J : Nat → List Int → gS → (Int → gS → Prop) → Prop} {l1 : Int} {l2 : Int} {l3 : Int} {l4 : Nat} {l5 : Nat} {s0 : Int} {G : gS} {Q : Int → gS → Prop} (hl3 : inI l3) (hl4 : l4 % 8 ≠ 1) (hl5 : l5 % 8 ≠ 1) (hs0 : inI s0) (hj0 : ∀ (l1 : Int) (l2 : Int) (l3 : Int) (l4 : Int) (l5 : Int) (G : gS), (inI l3) → (inI l4) → (inI l5) → J 0 [l1, l2, l3, l4, l5] G Q → Tg W0 (j 0) [rf (934), rf (l1), rf (l2), cI (l3), cI (l4), cI (l5)] [] G (fun r G => ∃ v, r = cI v ∧ inI v ∧ Q v G)) (h : PX2_only_68 J l1 l2 l3 s0 G Q) : Tg W0 (vX2_only_68 j) [rf (934), rf (l1), rf (l2), cI (l3), l4, l5] [cI (s0)] G (fun r G => ∃ v, r = cI v ∧ inI v ∧ Q v G) := by
  unfold PX2_only_68 at h
  unfold vX2_only_68
  refine g_st (lv' := [_, _, _, _, _, _]) (is_I _) (Nat.le_of_ble_eq_true rfl) (Or.inr (n1_I _)) rfl ?_
  refine g_const (v := cI (0)) rfl ?_
  refine g_st (lv' := [_, _, _, _, _, _]) (is_I _) (Nat.le_of_ble_eq_true rfl) (Or.inr (n1_I _)) rfl ?_
  exact TX2_only_73 hl3 hs0 ⟨by omega, by omega⟩ hj0 h
def PX2_only_47 (J : Nat → List Int → gS → (Int → gS → Prop) → Prop) (l1 : Int) (l2 : Int) (s0 : Int) (G : gS) (Q : Int → gS → Prop) : Prop :=
  (isO W0 10 (l1) ∧ ((0 : Int) ≤ 2 ∧ ((2 : Int) < 3 ∧ (inI (G (l1 + 2) 2) → (isO W0 10 (l2) ∧ ((0 : Int) ≤ 2 ∧ ((2 : Int) < 3 ∧ (inI (G (l2 + 2) 2) → ((G (l1 + 2) 2 = G (l2 + 2) 2 → PX2_only_68 J l1 l2 s0 0 G Q) ∧ (¬ (G (l1 + 2) 2 = G (l2 + 2) 2) → PX2_only_68 J l1 l2 s0 1 G Q))))))))))
set_option maxRecDepth 20000 in
theorem TX2_only_47 {j : Nat → rx_K} {J : Nat → List Int → gS → (Int → gS → Prop) → Prop} {l1 : Int} {l2 : Int} {l3 : Nat} {l4 : Nat} {l5 : Nat} {s0 : Int} {G : gS} {Q : Int → gS → Prop} (hl3 : l3 % 8 ≠ 1) (hl4 : l4 % 8 ≠ 1) (hl5 : l5 % 8 ≠ 1) (hs0 : inI s0) (hj0 : ∀ (l1 : Int) (l2 : Int) (l3 : Int) (l4 : Int) (l5 : Int) (G : gS), (inI l3) → (inI l4) → (inI l5) → J 0 [l1, l2, l3, l4, l5] G Q → Tg W0 (j 0) [rf (934), rf (l1), rf (l2), cI (l3), cI (l4), cI (l5)] [] G (fun r G => ∃ v, r = cI v ∧ inI v ∧ Q v G)) (h : PX2_only_47 J l1 l2 s0 G Q) : Tg W0 (vX2_only_47 j) [rf (934), rf (l1), rf (l2), l3, l4, l5] [cI (s0)] G (fun r G => ∃ v, r = cI v ∧ inI v ∧ Q v G) := by
  unfold PX2_only_47 at h
  unfold vX2_only_47
  refine g_st (lv' := [_, _, _, _, _, _]) (is_I _) (Nat.le_of_ble_eq_true rfl) (Or.inr (n1_R _)) rfl ?_
  refine g_ld (v := rf _) rfl (is_R _) ?_
  obtain ⟨q19, h⟩ := h
  refine g_getF q19 (ff10_11 q19).1 rfl (Nat.le_of_ble_eq_true rfl) (Nat.le_of_ble_eq_true rfl) ?_
  refine g_const (v := cI (2)) rfl ?_
  obtain ⟨q20, q21, h⟩ := h
  refine g_aldI (ff10_11 q19).2 q20 q21 rfl fun i22 => ?_
  replace h := h i22
  refine g_ld (v := rf _) rfl (is_R _) ?_
  obtain ⟨q23, h⟩ := h
  refine g_getF q23 (ff10_11 q23).1 rfl (Nat.le_of_ble_eq_true rfl) (Nat.le_of_ble_eq_true rfl) ?_
  refine g_const (v := cI (2)) rfl ?_
  obtain ⟨q24, q25, h⟩ := h
  refine g_aldI (ff10_11 q23).2 q24 q25 rfl fun i26 => ?_
  replace h := h i26
  refine g_eq2 i22 i26 (fun b27 => ?_) (fun b27 => ?_)
  · replace h := h.1 b27
    unfold vX2_only_67
    refine g_const (v := cI (0)) rfl ?_
    exact TX2_only_68 hs0 hl4 hl5 ⟨by omega, by omega⟩ hj0 h
  · replace h := h.2 b27
    unfold vX2_only_63
    refine g_const (v := cI (1)) rfl ?_
    exact TX2_only_68 hs0 hl4 hl5 ⟨by omega, by omega⟩ hj0 h
def PX2_only_32 (J : Nat → List Int → gS → (Int → gS → Prop) → Prop) (l1 : Int) (l2 : Int) (s0 : Int) (G : gS) (Q : Int → gS → Prop) : Prop :=
  Q (s0) G
set_option maxRecDepth 20000 in
theorem TX2_only_32 {j : Nat → rx_K} {J : Nat → List Int → gS → (Int → gS → Prop) → Prop} {l1 : Int} {l2 : Int} {l3 : Nat} {l4 : Nat} {l5 : Nat} {s0 : Int} {G : gS} {Q : Int → gS → Prop} (hl3 : l3 % 8 ≠ 1) (hl4 : l4 % 8 ≠ 1) (hl5 : l5 % 8 ≠ 1) (hs0 : inI s0) (hj0 : ∀ (l1 : Int) (l2 : Int) (l3 : Int) (l4 : Int) (l5 : Int) (G : gS), (inI l3) → (inI l4) → (inI l5) → J 0 [l1, l2, l3, l4, l5] G Q → Tg W0 (j 0) [rf (934), rf (l1), rf (l2), cI (l3), cI (l4), cI (l5)] [] G (fun r G => ∃ v, r = cI v ∧ inI v ∧ Q v G)) (h : PX2_only_32 J l1 l2 s0 G Q) : Tg W0 (vX2_only_32 j) [rf (934), rf (l1), rf (l2), l3, l4, l5] [cI (s0)] G (fun r G => ∃ v, r = cI v ∧ inI v ∧ Q v G) := by
  unfold PX2_only_32 at h
  unfold vX2_only_32
  exact g_ret1 (is_I _) ⟨_, rfl, hs0, h⟩
def PX2_only_0 (J : Nat → List Int → gS → (Int → gS → Prop) → Prop) (a1 : Int) (a2 : Int) (G : gS) (Q : Int → gS → Prop) : Prop :=
  (isO W0 10 (a2) ∧ ((0 : Int) ≤ 2 ∧ ((2 : Int) < 3 ∧ (inI (G (a2 + 2) 2) → ((G (a2 + 2) 2 = 0 → (isO W0 10 (a1) ∧ ((0 : Int) ≤ 2 ∧ ((2 : Int) < 3 ∧ (inI (G (a1 + 2) 2) → ((G (a1 + 2) 2 = 0 → PX2_only_32 J a1 a2 0 G Q) ∧ (¬ (G (a1 + 2) 2 = 0) → PX2_note 14 (-2) (-2) G (fun r12 G11 => inI r12 → PX2_only_32 J a1 a2 r12 G11 Q)))))))) ∧ (¬ (G (a2 + 2) 2 = 0) → (isO W0 10 (a1) ∧ ((0 : Int) ≤ 2 ∧ ((2 : Int) < 3 ∧ (inI (G (a1 + 2) 2) → ((G (a1 + 2) 2 = 0 → PX2_only_47 J a1 a2 1 G Q) ∧ (¬ (G (a1 + 2) 2 = 0) → PX2_only_47 J a1 a2 0 G Q))))))))))))
set_option maxRecDepth 20000 in
theorem TX2_only_0 {j : Nat → rx_K} {J : Nat → List Int → gS → (Int → gS → Prop) → Prop} {a1 : Int} {a2 : Int} {G : gS} {Q : Int → gS → Prop}  (hj0 : ∀ (l1 : Int) (l2 : Int) (l3 : Int) (l4 : Int) (l5 : Int) (G : gS), (inI l3) → (inI l4) → (inI l5) → J 0 [l1, l2, l3, l4, l5] G Q → Tg W0 (j 0) [rf (934), rf (l1), rf (l2), cI (l3), cI (l4), cI (l5)] [] G (fun r G => ∃ v, r = cI v ∧ inI v ∧ Q v G)) (h : PX2_only_0 J a1 a2 G Q) : Tg W0 (vX2_only_0 j) [rf (934), rf (a1), rf (a2), 7, 7, 7] [] G (fun r G => ∃ v, r = cI v ∧ inI v ∧ Q v G) := by
  unfold PX2_only_0 at h
  unfold vX2_only_0
  refine g_ld (v := rf _) rfl (is_R _) ?_
  obtain ⟨q1, h⟩ := h
  refine g_getF q1 (ff10_11 q1).1 rfl (Nat.le_of_ble_eq_true rfl) (Nat.le_of_ble_eq_true rfl) ?_
  refine g_const (v := cI (2)) rfl ?_
  obtain ⟨q2, q3, h⟩ := h
  refine g_aldI (ff10_11 q1).2 q2 q3 rfl fun i4 => ?_
  replace h := h i4
  refine g_eq1 i4 (fun b5 => ?_) (fun b5 => ?_)
  · replace h := h.1 b5
    unfold vX2_only_9
    refine g_ld (v := rf _) rfl (is_R _) ?_
    obtain ⟨q6, h⟩ := h
    refine g_getF q6 (ff10_11 q6).1 rfl (Nat.le_of_ble_eq_true rfl) (Nat.le_of_ble_eq_true rfl) ?_
    refine g_const (v := cI (2)) rfl ?_
    obtain ⟨q7, q8, h⟩ := h
    refine g_aldI (ff10_11 q6).2 q7 q8 rfl fun i9 => ?_
    replace h := h i9
    refine g_eq1 i9 (fun b10 => ?_) (fun b10 => ?_)
    · replace h := h.1 b10
      unfold vX2_only_18
      refine g_const (v := cI (0)) rfl ?_
      exact TX2_only_32 (show 7 % 8 ≠ 1 by decide) (show 7 % 8 ≠ 1 by decide) (show 7 % 8 ≠ 1 by decide) ⟨by omega, by omega⟩ hj0 h
    · replace h := h.2 b10
      unfold vX2_only_22
      refine g_ld (v := rf _) rfl (is_R _) ?_
      refine g_const (v := cI (14)) rfl ?_
      refine g_const (v := cI (-2)) rfl ?_
      refine g_const (v := cI (-2)) rfl ?_
      refine g_callV (As := [_, _, _]) (ci := 2) oC2 (fun _ => rfl) ?_
      refine g_go1 (Nat.le_of_ble_eq_true rfl) (Tn_w (TX2_note ⟨by omega, by omega⟩ ⟨by omega, by omega⟩ ⟨by omega, by omega⟩ h) fun _ G11 ⟨r12, e, i13, h⟩ => ?_)
      subst e
      refine ⟨n7_I _, ?_⟩
      replace h := h i13
      exact TX2_only_32 (show 7 % 8 ≠ 1 by decide) (show 7 % 8 ≠ 1 by decide) (show 7 % 8 ≠ 1 by decide) i13 hj0 h
  · replace h := h.2 b5
    unfold vX2_only_33
    refine g_ld (v := rf _) rfl (is_R _) ?_
    obtain ⟨q14, h⟩ := h
    refine g_getF q14 (ff10_11 q14).1 rfl (Nat.le_of_ble_eq_true rfl) (Nat.le_of_ble_eq_true rfl) ?_
    refine g_const (v := cI (2)) rfl ?_
    obtain ⟨q15, q16, h⟩ := h
    refine g_aldI (ff10_11 q14).2 q15 q16 rfl fun i17 => ?_
    replace h := h i17
    refine g_eq1 i17 (fun b18 => ?_) (fun b18 => ?_)
    · replace h := h.1 b18
      unfold vX2_only_42
      refine g_const (v := cI (1)) rfl ?_
      exact TX2_only_47 (show 7 % 8 ≠ 1 by decide) (show 7 % 8 ≠ 1 by decide) (show 7 % 8 ≠ 1 by decide) ⟨by omega, by omega⟩ hj0 h
    · replace h := h.2 b18
      unfold vX2_only_46
      refine g_const (v := cI (0)) rfl ?_
      exact TX2_only_47 (show 7 % 8 ≠ 1 by decide) (show 7 % 8 ≠ 1 by decide) (show 7 % 8 ≠ 1 by decide) ⟨by omega, by omega⟩ hj0 h
def PX2_only_J : Nat → Nat → List Int → gS → (Int → gS → Prop) → Prop
  | 0, _, _, _, _ => False
  | f + 1, h, L, G, Q => match h, L with
    | 0, [l1, l2, l3, l4, l5] => PX2_only_73 (PX2_only_J f) l1 l2 l3 l4 l5 G Q
    | _, _ => False
theorem TX2_only_J {Q : Int → gS → Prop} : ∀ f N : Nat, f ≤ N → (∀ (l1 : Int) (l2 : Int) (l3 : Int) (l4 : Int) (l5 : Int) (G : gS), (inI l3) → (inI l4) → (inI l5) → (PX2_only_J f) 0 [l1, l2, l3, l4, l5] G Q → Tg W0 (rx_J vhX2_only N 0) [rf (934), rf (l1), rf (l2), cI (l3), cI (l4), cI (l5)] [] G (fun r G => ∃ v, r = cI v ∧ inI v ∧ Q v G)) := by
  intro f
  induction f with
  | zero => exact fun N _ => fun _ _ _ _ _ _ _ _ _ h => h.elim
  | succ f ih =>
    intro N hN
    obtain ⟨M, rfl⟩ : ∃ M, N = M + 1 := ⟨N - 1, by omega⟩
    have ih := ih M (by omega)
    exact fun _ _ _ _ _ _ hl3 hl4 hl5 h => show Tg W0 (vX2_only_73 (rx_J vhX2_only M)) _ _ _ _ from TX2_only_73 hl3 hl4 hl5 ih h
def PX2_only (a1 : Int) (a2 : Int) (G : gS) (Q : Int → gS → Prop) : Prop := ∃ f : Nat, f ≤ 4000000000 ∧ PX2_only_0 (PX2_only_J f) a1 a2 G Q
theorem TX2_only {a1 : Int} {a2 : Int} {G : gS} {Q : Int → gS → Prop}  (h : PX2_only a1 a2 G Q) : Tn W0 FX2_only [rf (934), rf (a1), rf (a2)] G (fun r G => ∃ v, r = cI v ∧ inI v ∧ Q v G) := by
  obtain ⟨f, hf, h⟩ := h
  have hJ := TX2_only_J (Q := Q) f 4000000000 hf
  unfold FX2_only
  refine g_ent (lv' := [rf (934), rf (a1), rf (a2), 7, 7, 7]) (flR (flR (flR fl0))) (Nat.le_of_ble_eq_true rfl) rfl ?_
  exact TX2_only_0  hJ h
def PX2_starts_53 (J : Nat → List Int → gS → (Int → gS → Prop) → Prop) (l0 : Int) (l1 : Int) (l2 : Int) (l3 : Int) (l4 : Int) (G : gS) (Q : Int → gS → Prop) : Prop :=
  (inI (l3 + 1) ∧ J 0 [l0, l1, l2, l3 + 1] G Q)
set_option maxRecDepth 20000 in
theorem TX2_starts_53 {j : Nat → rx_K} {J : Nat → List Int → gS → (Int → gS → Prop) → Prop} {l0 : Int} {l1 : Int} {l2 : Int} {l3 : Int} {l4 : Int} {G : gS} {Q : Int → gS → Prop} (hl2 : inI l2) (hl3 : inI l3) (hj0 : ∀ (l0 : Int) (l1 : Int) (l2 : Int) (l3 : Int) (l4 : Nat) (G : gS), (inI l2) → (inI l3) → (l4 % 8 ≠ 1) → J 0 [l0, l1, l2, l3] G Q → Tg W0 (j 0) [rf (l0), rf (l1), cI (l2), cI (l3), l4] [] G (fun r G => ∃ v, r = cI v ∧ inI v ∧ Q v G)) (h : PX2_starts_53 J l0 l1 l2 l3 l4 G Q) : Tg W0 (vX2_starts_53 j) [rf (l0), rf (l1), cI (l2), cI (l3), rf (l4)] [] G (fun r G => ∃ v, r = cI v ∧ inI v ∧ Q v G) := by
  unfold PX2_starts_53 at h
  unfold vX2_starts_53
  refine g_inc (lv' := [_, _, _, _, _]) rfl (Nat.le_of_ble_eq_true rfl) (Or.inr (n1_I _)) rfl ?_
  obtain ⟨q17, h⟩ := h
  exact hj0 _ _ _ _ _ _ hl2 q17 (n1_R _) h
def PX2_starts_45 (J : Nat → List Int → gS → (Int → gS → Prop) → Prop) (l0 : Int) (l1 : Int) (l2 : Int) (l3 : Int) (l4 : Int) (G : gS) (Q : Int → gS → Prop) : Prop :=
  PX2_range l4 l1 l2 G (fun r15 G14 => inI r15 → PX2_starts_53 J l0 l1 r15 l3 l4 G14 Q)
set_option maxRecDepth 20000 in
theorem TX2_starts_45 {j : Nat → rx_K} {J : Nat → List Int → gS → (Int → gS → Prop) → Prop} {l0 : Int} {l1 : Int} {l2 : Int} {l3 : Int} {l4 : Int} {G : gS} {Q : Int → gS → Prop} (hl2 : inI l2) (hl3 : inI l3) (hj0 : ∀ (l0 : Int) (l1 : Int) (l2 : Int) (l3 : Int) (l4 : Nat) (G : gS), (inI l2) → (inI l3) → (l4 % 8 ≠ 1) → J 0 [l0, l1, l2, l3] G Q → Tg W0 (j 0) [rf (l0), rf (l1), cI (l2), cI (l3), l4] [] G (fun r G => ∃ v, r = cI v ∧ inI v ∧ Q v G)) (h : PX2_starts_45 J l0 l1 l2 l3 l4 G Q) : Tg W0 (vX2_starts_45 j) [rf (l0), rf (l1), cI (l2), cI (l3), rf (l4)] [] G (fun r G => ∃ v, r = cI v ∧ inI v ∧ Q v G) := by
  unfold PX2_starts_45 at h
  unfold vX2_starts_45
  refine g_ld (v := rf _) rfl (is_R _) ?_
  refine g_ld (v := rf _) rfl (is_R _) ?_
  refine g_ld (v := cI _) rfl (is_I _) ?_
  refine g_callS (As := [_, _, _]) (fun _ => rfl) ?_
  refine g_go1 (Nat.le_of_ble_eq_true rfl) (Tn_w (TX2_range hl2 h) fun _ G14 ⟨r15, e, i16, h⟩ => ?_)
  subst e
  refine ⟨n7_I _, ?_⟩
  replace h := h i16
  refine g_st (lv' := [_, _, _, _, _]) (is_I _) (Nat.le_of_ble_eq_true rfl) (Or.inr (n1_R _)) rfl ?_
  exact TX2_starts_53 i16 hl3 hj0 h
def PX2_starts_4 (J : Nat → List Int → gS → (Int → gS → Prop) → Prop) (l0 : Int) (l1 : Int) (l2 : Int) (l3 : Int) (G : gS) (Q : Int → gS → Prop) : Prop :=
  (isO W0 10 (l0) ∧ (inI (G l0 13) → ((l3 < G l0 13 → ((0 : Int) ≤ l3 ∧ ((l3 : Int) < 20 ∧ (((G (l0 + 3) l3 = -1 ∨ isO W0 7 (G (l0 + 3) l3)) ∧ ∀ v, W0.2 (l0 + 3) l3 = some v → G (l0 + 3) l3 = v) → (isO W0 7 (G (l0 + 3) l3) ∧ (inI (G (G (l0 + 3) l3) 0) → ((G (G (l0 + 3) l3) 0 = 3 → PX2_starts_45 J l0 l1 l2 l3 (G (l0 + 3) l3) G Q) ∧ (¬ (G (G (l0 + 3) l3) 0 = 3) → (inI (G (G (l0 + 3) l3) 0) → ((G (G (l0 + 3) l3) 0 = 0 → ((0 ≤ G (G (l0 + 3) l3) 15 ∧ G (G (l0 + 3) l3) 15 ≤ 1) → ((G (G (l0 + 3) l3) 15 = 0 → PX2_starts_45 J l0 l1 l2 l3 (G (l0 + 3) l3) G Q) ∧ (¬ (G (G (l0 + 3) l3) 15 = 0) → PX2_starts_53 J l0 l1 l2 l3 (G (l0 + 3) l3) G Q)))) ∧ (¬ (G (G (l0 + 3) l3) 0 = 0) → PX2_starts_53 J l0 l1 l2 l3 (G (l0 + 3) l3) G Q))))))))))) ∧ (¬ (l3 < G l0 13) → Q (l2) G))))
set_option maxRecDepth 20000 in
theorem TX2_starts_4 {j : Nat → rx_K} {J : Nat → List Int → gS → (Int → gS → Prop) → Prop} {l0 : Int} {l1 : Int} {l2 : Int} {l3 : Int} {l4 : Nat} {G : gS} {Q : Int → gS → Prop} (hl2 : inI l2) (hl3 : inI l3) (hl4 : l4 % 8 ≠ 1) (hj0 : ∀ (l0 : Int) (l1 : Int) (l2 : Int) (l3 : Int) (l4 : Nat) (G : gS), (inI l2) → (inI l3) → (l4 % 8 ≠ 1) → J 0 [l0, l1, l2, l3] G Q → Tg W0 (j 0) [rf (l0), rf (l1), cI (l2), cI (l3), l4] [] G (fun r G => ∃ v, r = cI v ∧ inI v ∧ Q v G)) (h : PX2_starts_4 J l0 l1 l2 l3 G Q) : Tg W0 (vX2_starts_4 j) [rf (l0), rf (l1), cI (l2), cI (l3), l4] [] G (fun r G => ∃ v, r = cI v ∧ inI v ∧ Q v G) := by
  unfold PX2_starts_4 at h
  unfold vX2_starts_4
  refine g_ld (v := cI _) rfl (is_I _) ?_
  refine g_ld (v := rf _) rfl (is_R _) ?_
  obtain ⟨q1, h⟩ := h
  refine g_getI (kz := 13) q1 rfl (Nat.le_of_ble_eq_true rfl) rfl fun i2 => ?_
  replace h := h i2
  refine g_lt2 hl3 i2 (fun b3 => ?_) (fun b3 => ?_)
  · replace h := h.1 b3
    unfold vX2_starts_12
    refine g_ld (v := rf _) rfl (is_R _) ?_
    refine g_getF q1 (ff10_12 q1).1 rfl (Nat.le_of_ble_eq_true rfl) (Nat.le_of_ble_eq_true rfl) ?_
    refine g_ld (v := cI _) rfl (is_I _) ?_
    obtain ⟨q4, q5, h⟩ := h
    refine g_aldRF (c := 7) (ff10_12 q1).2 q4 q5 rfl (by decide) fun i6 => ?_
    replace h := h i6
    refine g_st (lv' := [_, _, _, _, _]) (is_R _) (Nat.le_of_ble_eq_true rfl) (Or.inr (n1_I _)) rfl ?_
    refine g_ld (v := rf _) rfl (is_R _) ?_
    obtain ⟨q7, h⟩ := h
    refine g_getI (kz := 0) q7 rfl (Nat.le_of_ble_eq_true rfl) rfl fun i8 => ?_
    replace h := h i8
    refine g_const (v := cI (3)) rfl ?_
    refine g_eq2 i8 ⟨by omega, by omega⟩ (fun b9 => ?_) (fun b9 => ?_)
    · replace h := h.1 b9
      exact TX2_starts_45 hl2 hl3 hj0 h
    · replace h := h.2 b9
      unfold vX2_starts_29
      refine g_ld (v := rf _) rfl (is_R _) ?_
      refine g_getI (kz := 0) q7 rfl (Nat.le_of_ble_eq_true rfl) rfl fun i10 => ?_
      replace h := h i10
      refine g_eq1 i10 (fun b11 => ?_) (fun b11 => ?_)
      · replace h := h.1 b11
        unfold vX2_starts_37
        refine g_ld (v := rf _) rfl (is_R _) ?_
        refine g_getZ (kz := 15) q7 rfl (Nat.le_of_ble_eq_true rfl) rfl fun i12 => ?_
        replace h := h i12
        refine g_eq1 ⟨by omega, by omega⟩ (fun b13 => ?_) (fun b13 => ?_)
        · replace h := h.1 b13
          exact TX2_starts_45 hl2 hl3 hj0 h
        · replace h := h.2 b13
          exact TX2_starts_53 hl2 hl3 hj0 h
      · replace h := h.2 b11
        exact TX2_starts_53 hl2 hl3 hj0 h
  · replace h := h.2 b3
    unfold vX2_starts_59
    refine g_ld (v := cI _) rfl (is_I _) ?_
    exact g_ret1 (is_I _) ⟨_, rfl, hl2, h⟩
def PX2_starts_0 (J : Nat → List Int → gS → (Int → gS → Prop) → Prop) (a0 : Int) (a1 : Int) (G : gS) (Q : Int → gS → Prop) : Prop :=
  PX2_starts_4 J a0 a1 0 0 G Q
set_option maxRecDepth 20000 in
theorem TX2_starts_0 {j : Nat → rx_K} {J : Nat → List Int → gS → (Int → gS → Prop) → Prop} {a0 : Int} {a1 : Int} {G : gS} {Q : Int → gS → Prop}  (hj0 : ∀ (l0 : Int) (l1 : Int) (l2 : Int) (l3 : Int) (l4 : Nat) (G : gS), (inI l2) → (inI l3) → (l4 % 8 ≠ 1) → J 0 [l0, l1, l2, l3] G Q → Tg W0 (j 0) [rf (l0), rf (l1), cI (l2), cI (l3), l4] [] G (fun r G => ∃ v, r = cI v ∧ inI v ∧ Q v G)) (h : PX2_starts_0 J a0 a1 G Q) : Tg W0 (vX2_starts_0 j) [rf (a0), rf (a1), 7, 7, 7] [] G (fun r G => ∃ v, r = cI v ∧ inI v ∧ Q v G) := by
  unfold PX2_starts_0 at h
  unfold vX2_starts_0
  refine g_const (v := cI (0)) rfl ?_
  refine g_st (lv' := [_, _, _, _, _]) (is_I _) (Nat.le_of_ble_eq_true rfl) (Or.inr (n1_R _)) rfl ?_
  refine g_const (v := cI (0)) rfl ?_
  refine g_st (lv' := [_, _, _, _, _]) (is_I _) (Nat.le_of_ble_eq_true rfl) (Or.inr (n1_I _)) rfl ?_
  exact TX2_starts_4 ⟨by omega, by omega⟩ ⟨by omega, by omega⟩ (show 7 % 8 ≠ 1 by decide) hj0 h
def PX2_starts_J : Nat → Nat → List Int → gS → (Int → gS → Prop) → Prop
  | 0, _, _, _, _ => False
  | f + 1, h, L, G, Q => match h, L with
    | 0, [l0, l1, l2, l3] => PX2_starts_4 (PX2_starts_J f) l0 l1 l2 l3 G Q
    | _, _ => False
theorem TX2_starts_J {Q : Int → gS → Prop} : ∀ f N : Nat, f ≤ N → (∀ (l0 : Int) (l1 : Int) (l2 : Int) (l3 : Int) (l4 : Nat) (G : gS), (inI l2) → (inI l3) → (l4 % 8 ≠ 1) → (PX2_starts_J f) 0 [l0, l1, l2, l3] G Q → Tg W0 (rx_J vhX2_starts N 0) [rf (l0), rf (l1), cI (l2), cI (l3), l4] [] G (fun r G => ∃ v, r = cI v ∧ inI v ∧ Q v G)) := by
  intro f
  induction f with
  | zero => exact fun N _ => fun _ _ _ _ _ _ _ _ _ h => h.elim
  | succ f ih =>
    intro N hN
    obtain ⟨M, rfl⟩ : ∃ M, N = M + 1 := ⟨N - 1, by omega⟩
    have ih := ih M (by omega)
    exact fun _ _ _ _ _ _ hl2 hl3 hl4 h => show Tg W0 (vX2_starts_4 (rx_J vhX2_starts M)) _ _ _ _ from TX2_starts_4 hl2 hl3 hl4 ih h
def PX2_starts (a0 : Int) (a1 : Int) (G : gS) (Q : Int → gS → Prop) : Prop := ∃ f : Nat, f ≤ 4000000000 ∧ PX2_starts_0 (PX2_starts_J f) a0 a1 G Q
theorem TX2_starts {a0 : Int} {a1 : Int} {G : gS} {Q : Int → gS → Prop}  (h : PX2_starts a0 a1 G Q) : Tn W0 FX2_starts [rf (a0), rf (a1)] G (fun r G => ∃ v, r = cI v ∧ inI v ∧ Q v G) := by
  obtain ⟨f, hf, h⟩ := h
  have hJ := TX2_starts_J (Q := Q) f 4000000000 hf
  unfold FX2_starts
  refine g_ent (lv' := [rf (a0), rf (a1), 7, 7, 7]) (flR (flR fl0)) (Nat.le_of_ble_eq_true rfl) rfl ?_
  exact TX2_starts_0  hJ h
def PX2_sameStarts_34 (l1 : Int) (l2 : Int) (l3 : Int) (s0 : Int) (G : gS) (Q : Int → gS → Prop) : Prop :=
  ((0 ≤ s0 ∧ s0 ≤ 1) ∧ Q (s0) G)
set_option maxRecDepth 20000 in
theorem TX2_sameStarts_34 {l1 : Int} {l2 : Int} {l3 : Int} {s0 : Int} {G : gS} {Q : Int → gS → Prop} (hl3 : inI l3) (hs0 : inI s0) (h : PX2_sameStarts_34 l1 l2 l3 s0 G Q) : Tg W0 vX2_sameStarts_34 [rf (934), rf (l1), rf (l2), cI (l3)] [cI (s0)] G (fun r G => ∃ v, r = cI v ∧ (0 ≤ v ∧ v ≤ 1) ∧ Q v G) := by
  unfold PX2_sameStarts_34 at h
  unfold vX2_sameStarts_34
  obtain ⟨q12, h⟩ := h
  exact g_ret1 (is_Z q12) ⟨_, rfl, q12, h⟩
def PX2_sameStarts_33 (l1 : Int) (l2 : Int) (l3 : Int) (G : gS) (Q : Int → gS → Prop) : Prop :=
  PX2_sameStarts_34 l1 l2 l3 0 G Q
set_option maxRecDepth 20000 in
theorem TX2_sameStarts_33 {l1 : Int} {l2 : Int} {l3 : Int} {G : gS} {Q : Int → gS → Prop} (hl3 : inI l3) (h : PX2_sameStarts_33 l1 l2 l3 G Q) : Tg W0 vX2_sameStarts_33 [rf (934), rf (l1), rf (l2), cI (l3)] [] G (fun r G => ∃ v, r = cI v ∧ (0 ≤ v ∧ v ≤ 1) ∧ Q v G) := by
  unfold PX2_sameStarts_33 at h
  unfold vX2_sameStarts_33
  refine g_const (v := cI (0)) rfl ?_
  exact TX2_sameStarts_34 hl3 ⟨by omega, by omega⟩ h
def PX2_sameStarts_0 (a1 : Int) (a2 : Int) (G : gS) (Q : Int → gS → Prop) : Prop :=
  PX2_starts a1 936 G (fun r2 G1 => inI r2 → PX2_starts a2 937 G1 (fun r5 G4 => inI r5 → ((r2 = r5 → PX2_sameTokens r2 G4 (fun r9 G8 => (0 ≤ r9 ∧ r9 ≤ 1) → ((r9 = 0 → PX2_sameStarts_33 a1 a2 r2 G8 Q) ∧ (¬ (r9 = 0) → PX2_sameStarts_34 a1 a2 r2 1 G8 Q)))) ∧ (¬ (r2 = r5) → PX2_sameStarts_33 a1 a2 r2 G4 Q))))
set_option maxRecDepth 20000 in
theorem TX2_sameStarts_0 {a1 : Int} {a2 : Int} {G : gS} {Q : Int → gS → Prop}  (h : PX2_sameStarts_0 a1 a2 G Q) : Tg W0 vX2_sameStarts_0 [rf (934), rf (a1), rf (a2), 7] [] G (fun r G => ∃ v, r = cI v ∧ (0 ≤ v ∧ v ≤ 1) ∧ Q v G) := by
  unfold PX2_sameStarts_0 at h
  unfold vX2_sameStarts_0
  refine g_ld (v := rf _) rfl (is_R _) ?_
  refine g_ld (v := rf _) rfl (is_R _) ?_
  refine g_getF (v := 936) oC2 (hC2_8) rfl (Nat.le_of_ble_eq_true rfl) (Nat.le_of_ble_eq_true rfl) ?_
  refine g_callS (As := [_, _]) (fun _ => rfl) ?_
  refine g_go1 (Nat.le_of_ble_eq_true rfl) (Tn_w (TX2_starts  h) fun _ G1 ⟨r2, e, i3, h⟩ => ?_)
  subst e
  refine ⟨n7_I _, ?_⟩
  replace h := h i3
  refine g_st (lv' := [_, _, _, _]) (is_I _) (Nat.le_of_ble_eq_true rfl) (Or.inr (n1_R _)) rfl ?_
  refine g_ld (v := cI _) rfl (is_I _) ?_
  refine g_ld (v := rf _) rfl (is_R _) ?_
  refine g_ld (v := rf _) rfl (is_R _) ?_
  refine g_getF (v := 937) oC2 (hC2_9) rfl (Nat.le_of_ble_eq_true rfl) (Nat.le_of_ble_eq_true rfl) ?_
  refine g_callS (As := [_, _]) (fun _ => rfl) ?_
  refine g_go1 (by simp only [cs_c, cs_0, ct_I, ct_L, ct_R]; exact Nat.le_of_ble_eq_true rfl) (Tn_w (TX2_starts  h) fun _ G4 ⟨r5, e, i6, h⟩ => ?_)
  subst e
  refine ⟨n7_I _, ?_⟩
  replace h := h i6
  refine g_eq2 i3 i6 (fun b7 => ?_) (fun b7 => ?_)
  · replace h := h.1 b7
    unfold vX2_sameStarts_21
    refine g_ld (v := rf _) rfl (is_R _) ?_
    refine g_ld (v := cI _) rfl (is_I _) ?_
    refine g_callV (As := [_]) (ci := 2) oC2 (fun _ => rfl) ?_
    refine g_go1 (Nat.le_of_ble_eq_true rfl) (Tn_w (TX2_sameTokens i3 h) fun _ G8 ⟨r9, e, i10, h⟩ => ?_)
    subst e
    refine ⟨n7_I _, ?_⟩
    replace h := h i10
    refine g_eq1 ⟨by omega, by omega⟩ (fun b11 => ?_) (fun b11 => ?_)
    · replace h := h.1 b11
      exact TX2_sameStarts_33 i3 h
    · replace h := h.2 b11
      unfold vX2_sameStarts_29
      refine g_const (v := cI (1)) rfl ?_
      exact TX2_sameStarts_34 i3 ⟨by omega, by omega⟩ h
  · replace h := h.2 b7
    exact TX2_sameStarts_33 i3 h
abbrev PX2_sameStarts (a1 : Int) (a2 : Int) (G : gS) (Q : Int → gS → Prop) : Prop := PX2_sameStarts_0 a1 a2 G Q
theorem TX2_sameStarts {a1 : Int} {a2 : Int} {G : gS} {Q : Int → gS → Prop}  (h : PX2_sameStarts a1 a2 G Q) : Tn W0 FX2_sameStarts [rf (934), rf (a1), rf (a2)] G (fun r G => ∃ v, r = cI v ∧ (0 ≤ v ∧ v ≤ 1) ∧ Q v G) := by
  unfold FX2_sameStarts
  refine g_ent (lv' := [rf (934), rf (a1), rf (a2), 7]) (flR (flR (flR fl0))) (Nat.le_of_ble_eq_true rfl) rfl ?_
  exact TX2_sameStarts_0  h
end DE

section DE
def PX4_impliedMaker_56 (l1 : Int) (G : gS) (Q : Int → gS → Prop) : Prop :=
  Q 0 G
set_option maxRecDepth 20000 in
theorem TX4_impliedMaker_56 {l1 : Int} {l2 : Nat} {G : gS} {Q : Int → gS → Prop} (hl2 : l2 % 8 ≠ 1) (h : PX4_impliedMaker_56 l1 G Q) : Tg W0 vX4_impliedMaker_56 [rf (814), rf (l1), l2] [] G (fun r G => r = 7 ∧ Q 0 G) := by
  unfold PX4_impliedMaker_56 at h
  unfold vX4_impliedMaker_56
  exact g_ret0 ⟨rfl, h⟩
def PX4_impliedMaker_40 (l1 : Int) (l2 : Int) (s0 : Int) (s1 : Int) (G : gS) (Q : Int → gS → Prop) : Prop :=
  (isO W0 7 (s0) ∧ (∀ G18 : gS, G18 = uG G s0 1 (s1) → (isO W0 10 (l1) ∧ (inI (G18 l1 2) → (isO W0 7 (l2) ∧ (∀ G22 : gS, G22 = uG G18 l2 11 (G18 l1 2) → PX10_add l1 l2 G22 (fun _ G23 => PX4_impliedMaker_56 l1 G23 Q)))))))
set_option maxRecDepth 20000 in
theorem TX4_impliedMaker_40 {l1 : Int} {l2 : Int} {s0 : Int} {s1 : Int} {G : gS} {Q : Int → gS → Prop} (hs1 : inI s1) (h : PX4_impliedMaker_40 l1 l2 s0 s1 G Q) : Tg W0 vX4_impliedMaker_40 [rf (814), rf (l1), rf (l2)] [cI (s1), rf (s0)] G (fun r G => r = 7 ∧ Q 0 G) := by
  unfold PX4_impliedMaker_40 at h
  unfold vX4_impliedMaker_40
  obtain ⟨q17, h⟩ := h
  refine g_putI (kz := 1) q17 rfl (Nat.le_of_ble_eq_true rfl) rfl hs1 (nf7_1 q17) ?_
  replace h := h _ rfl
  refine g_ld (v := rf _) rfl (is_R _) ?_
  refine g_ld (v := rf _) rfl (is_R _) ?_
  obtain ⟨q19, h⟩ := h
  refine g_getI (kz := 2) q19 rfl (Nat.le_of_ble_eq_true rfl) rfl fun i20 => ?_
  replace h := h i20
  obtain ⟨q21, h⟩ := h
  refine g_putI (kz := 11) q21 rfl (Nat.le_of_ble_eq_true rfl) rfl i20 (nf7_11 q21) ?_
  replace h := h _ rfl
  refine g_ld (v := rf _) rfl (is_R _) ?_
  refine g_ld (v := rf _) rfl (is_R _) ?_
  refine g_callV (As := [_]) (ci := 10) q19 (fun _ => rfl) ?_
  refine g_go0 (Nat.le_of_ble_eq_true rfl) (Tn_w (TX10_add  h) fun _ G23 ⟨e, h⟩ => ⟨e, ?_⟩)
  exact TX4_impliedMaker_56 (n1_R _) h
def PX4_impliedMaker_0 (a1 : Int) (G : gS) (Q : Int → gS → Prop) : Prop :=
  (isO W0 10 (a1) ∧ ((0 ≤ G a1 4 ∧ G a1 4 ≤ 1) → ((G a1 4 = 0 → PX10_hasMaker a1 G (fun r5 G4 => (0 ≤ r5 ∧ r5 ≤ 1) → ((r5 = 0 → ((G4 814 1 = -1 ∨ isO W0 1 (G4 814 1)) → (isO W0 1 (G4 814 1) ∧ PX1_newMember (G4 814 1) G4 (fun r11 G10 => (isO W0 7 (r11) ∧ (∀ G14 : gS, G14 = uG G10 r11 0 (2) → ((0 ≤ G14 a1 3 ∧ G14 a1 3 ≤ 1) → ((G14 a1 3 = 0 → PX4_impliedMaker_40 a1 r11 r11 1 G14 Q) ∧ (¬ (G14 a1 3 = 0) → PX4_impliedMaker_40 a1 r11 r11 3 G14 Q))))))))) ∧ (¬ (r5 = 0) → PX4_impliedMaker_56 a1 G4 Q)))) ∧ (¬ (G a1 4 = 0) → PX4_impliedMaker_56 a1 G Q))))
set_option maxRecDepth 20000 in
theorem TX4_impliedMaker_0 {a1 : Int} {G : gS} {Q : Int → gS → Prop}  (h : PX4_impliedMaker_0 a1 G Q) : Tg W0 vX4_impliedMaker_0 [rf (814), rf (a1), 7] [] G (fun r G => r = 7 ∧ Q 0 G) := by
  unfold PX4_impliedMaker_0 at h
  unfold vX4_impliedMaker_0
  refine g_ld (v := rf _) rfl (is_R _) ?_
  obtain ⟨q1, h⟩ := h
  refine g_getZ (kz := 4) q1 rfl (Nat.le_of_ble_eq_true rfl) rfl fun i2 => ?_
  replace h := h i2
  refine g_eq1 ⟨by omega, by omega⟩ (fun b3 => ?_) (fun b3 => ?_)
  · replace h := h.1 b3
    unfold vX4_impliedMaker_7
    refine g_ld (v := rf _) rfl (is_R _) ?_
    refine g_callV (As := []) (ci := 10) q1 (fun _ => rfl) ?_
    refine g_go1 (Nat.le_of_ble_eq_true rfl) (Tn_w (TX10_hasMaker  h) fun _ G4 ⟨r5, e, i6, h⟩ => ?_)
    subst e
    refine ⟨n7_I _, ?_⟩
    replace h := h i6
    refine g_eq1 ⟨by omega, by omega⟩ (fun b7 => ?_) (fun b7 => ?_)
    · replace h := h.1 b7
      unfold vX4_impliedMaker_14
      refine g_ld (v := rf _) rfl (is_R _) ?_
      refine g_getR (kz := 1) (c := 1) oC4 rfl (Nat.le_of_ble_eq_true rfl) rfl (by decide) fun i8 => ?_
      replace h := h i8
      obtain ⟨q9, h⟩ := h
      refine g_callV (As := []) (ci := 1) q9 (fun _ => rfl) ?_
      refine g_go1 (Nat.le_of_ble_eq_true rfl) (Tn_w (TX1_newMember  h) fun _ G10 ⟨r11, e, h⟩ => ?_)
      subst e
      refine ⟨n7_R _, ?_⟩
      refine g_st (lv' := [_, _, _]) (is_R _) (Nat.le_of_ble_eq_true rfl) (Or.inr (n1_R _)) rfl ?_
      refine g_ld (v := rf _) rfl (is_R _) ?_
      refine g_const (v := cI (2)) rfl ?_
      obtain ⟨q13, h⟩ := h
      refine g_putI (kz := 0) q13 rfl (Nat.le_of_ble_eq_true rfl) rfl ⟨by omega, by omega⟩ (nf7_0 q13) ?_
      replace h := h _ rfl
      refine g_ld (v := rf _) rfl (is_R _) ?_
      refine g_ld (v := rf _) rfl (is_R _) ?_
      refine g_getZ (kz := 3) q1 rfl (Nat.le_of_ble_eq_true rfl) rfl fun i15 => ?_
      replace h := h i15
      refine g_eq1 ⟨by omega, by omega⟩ (fun b16 => ?_) (fun b16 => ?_)
      · replace h := h.1 b16
        unfold vX4_impliedMaker_39
        refine g_const (v := cI (1)) rfl ?_
        exact TX4_impliedMaker_40 ⟨by omega, by omega⟩ h
      · replace h := h.2 b16
        unfold vX4_impliedMaker_35
        refine g_const (v := cI (3)) rfl ?_
        exact TX4_impliedMaker_40 ⟨by omega, by omega⟩ h
    · replace h := h.2 b7
      exact TX4_impliedMaker_56 (show 7 % 8 ≠ 1 by decide) h
  · replace h := h.2 b3
    exact TX4_impliedMaker_56 (show 7 % 8 ≠ 1 by decide) h
abbrev PX4_impliedMaker (a1 : Int) (G : gS) (Q : Int → gS → Prop) : Prop := PX4_impliedMaker_0 a1 G Q
theorem TX4_impliedMaker {a1 : Int} {G : gS} {Q : Int → gS → Prop}  (h : PX4_impliedMaker a1 G Q) : Tn W0 FX4_impliedMaker [rf (814), rf (a1)] G (fun r G => r = 7 ∧ Q 0 G) := by
  unfold FX4_impliedMaker
  refine g_ent (lv' := [rf (814), rf (a1), 7]) (flR (flR fl0)) (Nat.le_of_ble_eq_true rfl) rfl ?_
  exact TX4_impliedMaker_0  h
def PX4_judge_397 (J : Nat → List Int → gS → (Int → gS → Prop) → Prop) (l1 : Int) (l2 : Int) (l3 : Int) (s0 : Int) (G : gS) (Q : Int → gS → Prop) : Prop :=
  ((0 ≤ s0 ∧ s0 ≤ 1) ∧ Q (s0) G)
set_option maxRecDepth 20000 in
theorem TX4_judge_397 {j : Nat → rx_K} {J : Nat → List Int → gS → (Int → gS → Prop) → Prop} {l1 : Int} {l2 : Int} {l3 : Int} {l4 : Nat} {s0 : Int} {G : gS} {Q : Int → gS → Prop} (hl3 : inI l3) (hl4 : l4 % 8 ≠ 1) (hs0 : inI s0) (hj0 : ∀ (l1 : Int) (l2 : Int) (l3 : Int) (l4 : Nat) (G : gS), (inI l3) → (l4 % 8 ≠ 1) → J 0 [l1, l2, l3] G Q → Tg W0 (j 0) [rf (814), rf (l1), rf (l2), cI (l3), l4] [] G (fun r G => ∃ v, r = cI v ∧ (0 ≤ v ∧ v ≤ 1) ∧ Q v G)) (hj1 : ∀ (l1 : Int) (l2 : Int) (l3 : Int) (l4 : Nat) (G : gS), (inI l3) → (l4 % 8 ≠ 1) → J 1 [l1, l2, l3] G Q → Tg W0 (j 1) [rf (814), rf (l1), rf (l2), cI (l3), l4] [] G (fun r G => ∃ v, r = cI v ∧ (0 ≤ v ∧ v ≤ 1) ∧ Q v G)) (hj2 : ∀ (l1 : Int) (l2 : Int) (l3 : Int) (l4 : Nat) (G : gS), (inI l3) → (l4 % 8 ≠ 1) → J 2 [l1, l2, l3] G Q → Tg W0 (j 2) [rf (814), rf (l1), rf (l2), cI (l3), l4] [] G (fun r G => ∃ v, r = cI v ∧ (0 ≤ v ∧ v ≤ 1) ∧ Q v G)) (hj3 : ∀ (l1 : Int) (l2 : Int) (l3 : Int) (l4 : Nat) (G : gS), (inI l3) → (l4 % 8 ≠ 1) → J 3 [l1, l2, l3] G Q → Tg W0 (j 3) [rf (814), rf (l1), rf (l2), cI (l3), l4] [] G (fun r G => ∃ v, r = cI v ∧ (0 ≤ v ∧ v ≤ 1) ∧ Q v G)) (hj4 : ∀ (l1 : Int) (l2 : Int) (l3 : Int) (l4 : Nat) (G : gS), (inI l3) → (l4 % 8 ≠ 1) → J 4 [l1, l2, l3] G Q → Tg W0 (j 4) [rf (814), rf (l1), rf (l2), cI (l3), l4] [] G (fun r G => ∃ v, r = cI v ∧ (0 ≤ v ∧ v ≤ 1) ∧ Q v G)) (hj5 : ∀ (l1 : Int) (l2 : Int) (l3 : Int) (l4 : Nat) (G : gS), (inI l3) → (l4 % 8 ≠ 1) → J 5 [l1, l2, l3] G Q → Tg W0 (j 5) [rf (814), rf (l1), rf (l2), cI (l3), l4] [] G (fun r G => ∃ v, r = cI v ∧ (0 ≤ v ∧ v ≤ 1) ∧ Q v G)) (h : PX4_judge_397 J l1 l2 l3 s0 G Q) : Tg W0 (vX4_judge_397 j) [rf (814), rf (l1), rf (l2), cI (l3), l4] [cI (s0)] G (fun r G => ∃ v, r = cI v ∧ (0 ≤ v ∧ v ≤ 1) ∧ Q v G) := by
  unfold PX4_judge_397 at h
  unfold vX4_judge_397
  obtain ⟨q206, h⟩ := h
  exact g_ret1 (is_Z q206) ⟨_, rfl, q206, h⟩
def PX4_judge_385 (J : Nat → List Int → gS → (Int → gS → Prop) → Prop) (l1 : Int) (l2 : Int) (l3 : Int) (G : gS) (Q : Int → gS → Prop) : Prop :=
  (inI (G 814 2) → ((G 814 2 = 0 → PX4_judge_397 J l1 l2 l3 1 G Q) ∧ (¬ (G 814 2 = 0) → PX4_judge_397 J l1 l2 l3 0 G Q)))
set_option maxRecDepth 20000 in
theorem TX4_judge_385 {j : Nat → rx_K} {J : Nat → List Int → gS → (Int → gS → Prop) → Prop} {l1 : Int} {l2 : Int} {l3 : Int} {l4 : Nat} {G : gS} {Q : Int → gS → Prop} (hl3 : inI l3) (hl4 : l4 % 8 ≠ 1) (hj0 : ∀ (l1 : Int) (l2 : Int) (l3 : Int) (l4 : Nat) (G : gS), (inI l3) → (l4 % 8 ≠ 1) → J 0 [l1, l2, l3] G Q → Tg W0 (j 0) [rf (814), rf (l1), rf (l2), cI (l3), l4] [] G (fun r G => ∃ v, r = cI v ∧ (0 ≤ v ∧ v ≤ 1) ∧ Q v G)) (hj1 : ∀ (l1 : Int) (l2 : Int) (l3 : Int) (l4 : Nat) (G : gS), (inI l3) → (l4 % 8 ≠ 1) → J 1 [l1, l2, l3] G Q → Tg W0 (j 1) [rf (814), rf (l1), rf (l2), cI (l3), l4] [] G (fun r G => ∃ v, r = cI v ∧ (0 ≤ v ∧ v ≤ 1) ∧ Q v G)) (hj2 : ∀ (l1 : Int) (l2 : Int) (l3 : Int) (l4 : Nat) (G : gS), (inI l3) → (l4 % 8 ≠ 1) → J 2 [l1, l2, l3] G Q → Tg W0 (j 2) [rf (814), rf (l1), rf (l2), cI (l3), l4] [] G (fun r G => ∃ v, r = cI v ∧ (0 ≤ v ∧ v ≤ 1) ∧ Q v G)) (hj3 : ∀ (l1 : Int) (l2 : Int) (l3 : Int) (l4 : Nat) (G : gS), (inI l3) → (l4 % 8 ≠ 1) → J 3 [l1, l2, l3] G Q → Tg W0 (j 3) [rf (814), rf (l1), rf (l2), cI (l3), l4] [] G (fun r G => ∃ v, r = cI v ∧ (0 ≤ v ∧ v ≤ 1) ∧ Q v G)) (hj4 : ∀ (l1 : Int) (l2 : Int) (l3 : Int) (l4 : Nat) (G : gS), (inI l3) → (l4 % 8 ≠ 1) → J 4 [l1, l2, l3] G Q → Tg W0 (j 4) [rf (814), rf (l1), rf (l2), cI (l3), l4] [] G (fun r G => ∃ v, r = cI v ∧ (0 ≤ v ∧ v ≤ 1) ∧ Q v G)) (hj5 : ∀ (l1 : Int) (l2 : Int) (l3 : Int) (l4 : Nat) (G : gS), (inI l3) → (l4 % 8 ≠ 1) → J 5 [l1, l2, l3] G Q → Tg W0 (j 5) [rf (814), rf (l1), rf (l2), cI (l3), l4] [] G (fun r G => ∃ v, r = cI v ∧ (0 ≤ v ∧ v ≤ 1) ∧ Q v G)) (h : PX4_judge_385 J l1 l2 l3 G Q) : Tg W0 (vX4_judge_385 j) [rf (814), rf (l1), rf (l2), cI (l3), l4] [] G (fun r G => ∃ v, r = cI v ∧ (0 ≤ v ∧ v ≤ 1) ∧ Q v G) := by
  unfold PX4_judge_385 at h
  unfold vX4_judge_385
  refine g_ld (v := rf _) rfl (is_R _) ?_
  refine g_getI (kz := 2) oC4 rfl (Nat.le_of_ble_eq_true rfl) rfl fun i204 => ?_
  replace h := h i204
  refine g_eq1 i204 (fun b205 => ?_) (fun b205 => ?_)
  · replace h := h.1 b205
    unfold vX4_judge_392
    refine g_const (v := cI (1)) rfl ?_
    exact TX4_judge_397 hl3 hl4 ⟨by omega, by omega⟩ hj0 hj1 hj2 hj3 hj4 hj5 h
  · replace h := h.2 b205
    unfold vX4_judge_396
    refine g_const (v := cI (0)) rfl ?_
    exact TX4_judge_397 hl3 hl4 ⟨by omega, by omega⟩ hj0 hj1 hj2 hj3 hj4 hj5 h
def PX4_judge_329 (J : Nat → List Int → gS → (Int → gS → Prop) → Prop) (l1 : Int) (l2 : Int) (l3 : Int) (G : gS) (Q : Int → gS → Prop) : Prop :=
  ((G 814 1 = -1 ∨ isO W0 1 (G 814 1)) → (isO W0 1 (G 814 1) ∧ (inI (G (G 814 1) 3) → ((l3 < G (G 814 1) 3 → (inI (G 814 2) → ((G 814 2 = 0 → ((G 814 1 = -1 ∨ isO W0 1 (G 814 1)) → (isO W0 1 (G 814 1) ∧ (((G (G 814 1) 2 = -1 ∨ ∃ n, isA W0 4 n (G (G 814 1) 2)) ∧ ∀ v, W0.2 (G 814 1) 2 = some v → G (G 814 1) 2 = v) → (∃ n181, isA W0 4 n181 (G (G 814 1) 2) ∧ ((0 : Int) ≤ l3 ∧ ((l3 : Int) < n181 ∧ (((G (G (G 814 1) 2) l3 = -1 ∨ isO W0 10 (G (G (G 814 1) 2) l3)) ∧ ∀ v, W0.2 (G (G 814 1) 2) l3 = some v → G (G (G 814 1) 2) l3 = v) → ((G 814 0 = -1 ∨ isO W0 11 (G 814 0)) → ((G 814 1 = -1 ∨ isO W0 1 (G 814 1)) → (isO W0 1 (G 814 1) ∧ (((G (G 814 1) 2 = -1 ∨ ∃ n, isA W0 4 n (G (G 814 1) 2)) ∧ ∀ v, W0.2 (G 814 1) 2 = some v → G (G 814 1) 2 = v) → (∃ n190, isA W0 4 n190 (G (G 814 1) 2) ∧ ((0 : Int) ≤ l3 ∧ ((l3 : Int) < n190 ∧ (((G (G (G 814 1) 2) l3 = -1 ∨ isO W0 10 (G (G (G 814 1) 2) l3)) ∧ ∀ v, W0.2 (G (G 814 1) 2) l3 = some v → G (G (G 814 1) 2) l3 = v) → (isO W0 10 (G (G (G 814 1) 2) l3) ∧ (inL (G (G (G (G 814 1) 2) l3) 1) → (isO W0 11 (G 814 0) ∧ PX11_find (G 814 0) (G (G (G (G 814 1) 2) l3) 1) G (fun r199 G198 => inI r199 → PX4_whole (G (G (G 814 1) 2) l3) r199 G198 (fun _ G201 => (inI (l3 + 1) ∧ J 5 [l1, l2, l3 + 1] G201 Q)))))))))))))))))))))) ∧ (¬ (G 814 2 = 0) → PX4_judge_385 J l1 l2 l3 G Q)))) ∧ (¬ (l3 < G (G 814 1) 3) → PX4_judge_385 J l1 l2 l3 G Q)))))
set_option maxRecDepth 20000 in
theorem TX4_judge_329 {j : Nat → rx_K} {J : Nat → List Int → gS → (Int → gS → Prop) → Prop} {l1 : Int} {l2 : Int} {l3 : Int} {l4 : Nat} {G : gS} {Q : Int → gS → Prop} (hl3 : inI l3) (hl4 : l4 % 8 ≠ 1) (hj0 : ∀ (l1 : Int) (l2 : Int) (l3 : Int) (l4 : Nat) (G : gS), (inI l3) → (l4 % 8 ≠ 1) → J 0 [l1, l2, l3] G Q → Tg W0 (j 0) [rf (814), rf (l1), rf (l2), cI (l3), l4] [] G (fun r G => ∃ v, r = cI v ∧ (0 ≤ v ∧ v ≤ 1) ∧ Q v G)) (hj1 : ∀ (l1 : Int) (l2 : Int) (l3 : Int) (l4 : Nat) (G : gS), (inI l3) → (l4 % 8 ≠ 1) → J 1 [l1, l2, l3] G Q → Tg W0 (j 1) [rf (814), rf (l1), rf (l2), cI (l3), l4] [] G (fun r G => ∃ v, r = cI v ∧ (0 ≤ v ∧ v ≤ 1) ∧ Q v G)) (hj2 : ∀ (l1 : Int) (l2 : Int) (l3 : Int) (l4 : Nat) (G : gS), (inI l3) → (l4 % 8 ≠ 1) → J 2 [l1, l2, l3] G Q → Tg W0 (j 2) [rf (814), rf (l1), rf (l2), cI (l3), l4] [] G (fun r G => ∃ v, r = cI v ∧ (0 ≤ v ∧ v ≤ 1) ∧ Q v G)) (hj3 : ∀ (l1 : Int) (l2 : Int) (l3 : Int) (l4 : Nat) (G : gS), (inI l3) → (l4 % 8 ≠ 1) → J 3 [l1, l2, l3] G Q → Tg W0 (j 3) [rf (814), rf (l1), rf (l2), cI (l3), l4] [] G (fun r G => ∃ v, r = cI v ∧ (0 ≤ v ∧ v ≤ 1) ∧ Q v G)) (hj4 : ∀ (l1 : Int) (l2 : Int) (l3 : Int) (l4 : Nat) (G : gS), (inI l3) → (l4 % 8 ≠ 1) → J 4 [l1, l2, l3] G Q → Tg W0 (j 4) [rf (814), rf (l1), rf (l2), cI (l3), l4] [] G (fun r G => ∃ v, r = cI v ∧ (0 ≤ v ∧ v ≤ 1) ∧ Q v G)) (hj5 : ∀ (l1 : Int) (l2 : Int) (l3 : Int) (l4 : Nat) (G : gS), (inI l3) → (l4 % 8 ≠ 1) → J 5 [l1, l2, l3] G Q → Tg W0 (j 5) [rf (814), rf (l1), rf (l2), cI (l3), l4] [] G (fun r G => ∃ v, r = cI v ∧ (0 ≤ v ∧ v ≤ 1) ∧ Q v G)) (h : PX4_judge_329 J l1 l2 l3 G Q) : Tg W0 (vX4_judge_329 j) [rf (814), rf (l1), rf (l2), cI (l3), l4] [] G (fun r G => ∃ v, r = cI v ∧ (0 ≤ v ∧ v ≤ 1) ∧ Q v G) := by
  unfold PX4_judge_329 at h
  unfold vX4_judge_329
  refine g_ld (v := cI _) rfl (is_I _) ?_
  refine g_ld (v := rf _) rfl (is_R _) ?_
  refine g_getR (kz := 1) (c := 1) oC4 rfl (Nat.le_of_ble_eq_true rfl) rfl (by decide) fun i172 => ?_
  replace h := h i172
  obtain ⟨q173, h⟩ := h
  refine g_getI (kz := 3) q173 rfl (Nat.le_of_ble_eq_true rfl) rfl fun i174 => ?_
  replace h := h i174
  refine g_lt2 hl3 i174 (fun b175 => ?_) (fun b175 => ?_)
  · replace h := h.1 b175
    unfold vX4_judge_340
    refine g_ld (v := rf _) rfl (is_R _) ?_
    refine g_getI (kz := 2) oC4 rfl (Nat.le_of_ble_eq_true rfl) rfl fun i176 => ?_
    replace h := h i176
    refine g_eq1 i176 (fun b177 => ?_) (fun b177 => ?_)
    · replace h := h.1 b177
      unfold vX4_judge_347
      refine g_ld (v := rf _) rfl (is_R _) ?_
      refine g_ld (v := rf _) rfl (is_R _) ?_
      refine g_getR (kz := 1) (c := 1) oC4 rfl (Nat.le_of_ble_eq_true rfl) rfl (by decide) fun i178 => ?_
      replace h := h i178
      obtain ⟨q179, h⟩ := h
      refine g_getAF (kz := 2) (c := 4) q179 rfl (Nat.le_of_ble_eq_true rfl) rfl fun i180 => ?_
      replace h := h i180
      refine g_ld (v := cI _) rfl (is_I _) ?_
      obtain ⟨n181, q182, h⟩ := h
      obtain ⟨q183, q184, h⟩ := h
      refine g_aldRF (c := 10) q182 q183 q184 rfl (by decide) fun i185 => ?_
      replace h := h i185
      refine g_ld (v := rf _) rfl (is_R _) ?_
      refine g_getR (kz := 0) (c := 11) oC4 rfl (Nat.le_of_ble_eq_true rfl) rfl (by decide) fun i186 => ?_
      replace h := h i186
      refine g_ld (v := rf _) rfl (is_R _) ?_
      refine g_getR (kz := 1) (c := 1) oC4 rfl (Nat.le_of_ble_eq_true rfl) rfl (by decide) fun i187 => ?_
      replace h := h i187
      obtain ⟨q188, h⟩ := h
      refine g_getAF (kz := 2) (c := 4) q188 rfl (Nat.le_of_ble_eq_true rfl) rfl fun i189 => ?_
      replace h := h i189
      refine g_ld (v := cI _) rfl (is_I _) ?_
      obtain ⟨n190, q191, h⟩ := h
      obtain ⟨q192, q193, h⟩ := h
      refine g_aldRF (c := 10) q191 q192 q193 rfl (by decide) fun i194 => ?_
      replace h := h i194
      obtain ⟨q195, h⟩ := h
      refine g_getL (kz := 1) q195 rfl (Nat.le_of_ble_eq_true rfl) rfl fun i196 => ?_
      replace h := h i196
      obtain ⟨q197, h⟩ := h
      refine g_callV (As := [_]) (ci := 11) q197 (fun _ => rfl) ?_
      refine g_go1 (by simp only [cs_c, cs_0, ct_I, ct_L, ct_R]; exact Nat.le_of_ble_eq_true rfl) (Tn_w (TX11_find i196 h) fun _ G198 ⟨r199, e, i200, h⟩ => ?_)
      subst e
      refine ⟨n7_I _, ?_⟩
      replace h := h i200
      refine g_callV (As := [_, _]) (ci := 4) oC4 (fun _ => rfl) ?_
      refine g_go0 (Nat.le_of_ble_eq_true rfl) (Tn_w (TX4_whole i200 h) fun _ G201 ⟨e, h⟩ => ⟨e, ?_⟩)
      refine g_inc (lv' := [_, _, _, _, _]) rfl (Nat.le_of_ble_eq_true rfl) (Or.inr (n1_R _)) rfl ?_
      obtain ⟨q203, h⟩ := h
      exact hj5 _ _ _ _ _ q203 hl4 h
    · replace h := h.2 b177
      exact TX4_judge_385 hl3 hl4 hj0 hj1 hj2 hj3 hj4 hj5 h
  · replace h := h.2 b175
    exact TX4_judge_385 hl3 hl4 hj0 hj1 hj2 hj3 hj4 hj5 h
def PX4_judge_327 (J : Nat → List Int → gS → (Int → gS → Prop) → Prop) (l1 : Int) (l2 : Int) (l3 : Int) (G : gS) (Q : Int → gS → Prop) : Prop :=
  PX4_judge_329 J l1 l2 0 G Q
set_option maxRecDepth 20000 in
theorem TX4_judge_327 {j : Nat → rx_K} {J : Nat → List Int → gS → (Int → gS → Prop) → Prop} {l1 : Int} {l2 : Int} {l3 : Int} {l4 : Nat} {G : gS} {Q : Int → gS → Prop} (hl3 : inI l3) (hl4 : l4 % 8 ≠ 1) (hj0 : ∀ (l1 : Int) (l2 : Int) (l3 : Int) (l4 : Nat) (G : gS), (inI l3) → (l4 % 8 ≠ 1) → J 0 [l1, l2, l3] G Q → Tg W0 (j 0) [rf (814), rf (l1), rf (l2), cI (l3), l4] [] G (fun r G => ∃ v, r = cI v ∧ (0 ≤ v ∧ v ≤ 1) ∧ Q v G)) (hj1 : ∀ (l1 : Int) (l2 : Int) (l3 : Int) (l4 : Nat) (G : gS), (inI l3) → (l4 % 8 ≠ 1) → J 1 [l1, l2, l3] G Q → Tg W0 (j 1) [rf (814), rf (l1), rf (l2), cI (l3), l4] [] G (fun r G => ∃ v, r = cI v ∧ (0 ≤ v ∧ v ≤ 1) ∧ Q v G)) (hj2 : ∀ (l1 : Int) (l2 : Int) (l3 : Int) (l4 : Nat) (G : gS), (inI l3) → (l4 % 8 ≠ 1) → J 2 [l1, l2, l3] G Q → Tg W0 (j 2) [rf (814), rf (l1), rf (l2), cI (l3), l4] [] G (fun r G => ∃ v, r = cI v ∧ (0 ≤ v ∧ v ≤ 1) ∧ Q v G)) (hj3 : ∀ (l1 : Int) (l2 : Int) (l3 : Int) (l4 : Nat) (G : gS), (inI l3) → (l4 % 8 ≠ 1) → J 3 [l1, l2, l3] G Q → Tg W0 (j 3) [rf (814), rf (l1), rf (l2), cI (l3), l4] [] G (fun r G => ∃ v, r = cI v ∧ (0 ≤ v ∧ v ≤ 1) ∧ Q v G)) (hj4 : ∀ (l1 : Int) (l2 : Int) (l3 : Int) (l4 : Nat) (G : gS), (inI l3) → (l4 % 8 ≠ 1) → J 4 [l1, l2, l3] G Q → Tg W0 (j 4) [rf (814), rf (l1), rf (l2), cI (l3), l4] [] G (fun r G => ∃ v, r = cI v ∧ (0 ≤ v ∧ v ≤ 1) ∧ Q v G)) (hj5 : ∀ (l1 : Int) (l2 : Int) (l3 : Int) (l4 : Nat) (G : gS), (inI l3) → (l4 % 8 ≠ 1) → J 5 [l1, l2, l3] G Q → Tg W0 (j 5) [rf (814), rf (l1), rf (l2), cI (l3), l4] [] G (fun r G => ∃ v, r = cI v ∧ (0 ≤ v ∧ v ≤ 1) ∧ Q v G)) (h : PX4_judge_327 J l1 l2 l3 G Q) : Tg W0 (vX4_judge_327 j) [rf (814), rf (l1), rf (l2), cI (l3), l4] [] G (fun r G => ∃ v, r = cI v ∧ (0 ≤ v ∧ v ≤ 1) ∧ Q v G) := by
  unfold PX4_judge_327 at h
  unfold vX4_judge_327
  refine g_const (v := cI (0)) rfl ?_
  refine g_st (lv' := [_, _, _, _, _]) (is_I _) (Nat.le_of_ble_eq_true rfl) (Or.inr (n1_R _)) rfl ?_
  exact TX4_judge_329 ⟨by omega, by omega⟩ hl4 hj0 hj1 hj2 hj3 hj4 hj5 h
def PX4_judge_258 (J : Nat → List Int → gS → (Int → gS → Prop) → Prop) (l1 : Int) (l2 : Int) (l3 : Int) (G : gS) (Q : Int → gS → Prop) : Prop :=
  ((G 814 1 = -1 ∨ isO W0 1 (G 814 1)) → (isO W0 1 (G 814 1) ∧ (inI (G (G 814 1) 3) → ((l3 < G (G 814 1) 3 → (inI (G 814 2) → ((G 814 2 = 0 → ((G 814 1 = -1 ∨ isO W0 1 (G 814 1)) → (isO W0 1 (G 814 1) ∧ (((G (G 814 1) 2 = -1 ∨ ∃ n, isA W0 4 n (G (G 814 1) 2)) ∧ ∀ v, W0.2 (G 814 1) 2 = some v → G (G 814 1) 2 = v) → (∃ n139, isA W0 4 n139 (G (G 814 1) 2) ∧ ((0 : Int) ≤ l3 ∧ ((l3 : Int) < n139 ∧ (((G (G (G 814 1) 2) l3 = -1 ∨ isO W0 10 (G (G (G 814 1) 2) l3)) ∧ ∀ v, W0.2 (G (G 814 1) 2) l3 = some v → G (G (G 814 1) 2) l3 = v) → PX4_impliedMaker (G (G (G 814 1) 2) l3) G (fun _ G144 => ((G144 814 1 = -1 ∨ isO W0 1 (G144 814 1)) → (isO W0 1 (G144 814 1) ∧ (((G144 (G144 814 1) 2 = -1 ∨ ∃ n, isA W0 4 n (G144 (G144 814 1) 2)) ∧ ∀ v, W0.2 (G144 814 1) 2 = some v → G144 (G144 814 1) 2 = v) → (∃ n149, isA W0 4 n149 (G144 (G144 814 1) 2) ∧ ((0 : Int) ≤ l3 ∧ ((l3 : Int) < n149 ∧ (((G144 (G144 (G144 814 1) 2) l3 = -1 ∨ isO W0 10 (G144 (G144 (G144 814 1) 2) l3)) ∧ ∀ v, W0.2 (G144 (G144 814 1) 2) l3 = some v → G144 (G144 (G144 814 1) 2) l3 = v) → ((G144 814 0 = -1 ∨ isO W0 11 (G144 814 0)) → ((G144 814 1 = -1 ∨ isO W0 1 (G144 814 1)) → (isO W0 1 (G144 814 1) ∧ (((G144 (G144 814 1) 2 = -1 ∨ ∃ n, isA W0 4 n (G144 (G144 814 1) 2)) ∧ ∀ v, W0.2 (G144 814 1) 2 = some v → G144 (G144 814 1) 2 = v) → (∃ n158, isA W0 4 n158 (G144 (G144 814 1) 2) ∧ ((0 : Int) ≤ l3 ∧ ((l3 : Int) < n158 ∧ (((G144 (G144 (G144 814 1) 2) l3 = -1 ∨ isO W0 10 (G144 (G144 (G144 814 1) 2) l3)) ∧ ∀ v, W0.2 (G144 (G144 814 1) 2) l3 = some v → G144 (G144 (G144 814 1) 2) l3 = v) → (isO W0 10 (G144 (G144 (G144 814 1) 2) l3) ∧ (inL (G144 (G144 (G144 (G144 814 1) 2) l3) 1) → (isO W0 11 (G144 814 0) ∧ PX11_find (G144 814 0) (G144 (G144 (G144 (G144 814 1) 2) l3) 1) G144 (fun r167 G166 => inI r167 → PX4_bridges (G144 (G144 (G144 814 1) 2) l3) r167 G166 (fun _ G169 => (inI (l3 + 1) ∧ J 4 [l1, l2, l3 + 1] G169 Q)))))))))))))))))))))))))))))) ∧ (¬ (G 814 2 = 0) → PX4_judge_327 J l1 l2 l3 G Q)))) ∧ (¬ (l3 < G (G 814 1) 3) → PX4_judge_327 J l1 l2 l3 G Q)))))
set_option maxRecDepth 20000 in
theorem TX4_judge_258 {j : Nat → rx_K} {J : Nat → List Int → gS → (Int → gS → Prop) → Prop} {l1 : Int} {l2 : Int} {l3 : Int} {l4 : Nat} {G : gS} {Q : Int → gS → Prop} (hl3 : inI l3) (hl4 : l4 % 8 ≠ 1) (hj0 : ∀ (l1 : Int) (l2 : Int) (l3 : Int) (l4 : Nat) (G : gS), (inI l3) → (l4 % 8 ≠ 1) → J 0 [l1, l2, l3] G Q → Tg W0 (j 0) [rf (814), rf (l1), rf (l2), cI (l3), l4] [] G (fun r G => ∃ v, r = cI v ∧ (0 ≤ v ∧ v ≤ 1) ∧ Q v G)) (hj1 : ∀ (l1 : Int) (l2 : Int) (l3 : Int) (l4 : Nat) (G : gS), (inI l3) → (l4 % 8 ≠ 1) → J 1 [l1, l2, l3] G Q → Tg W0 (j 1) [rf (814), rf (l1), rf (l2), cI (l3), l4] [] G (fun r G => ∃ v, r = cI v ∧ (0 ≤ v ∧ v ≤ 1) ∧ Q v G)) (hj2 : ∀ (l1 : Int) (l2 : Int) (l3 : Int) (l4 : Nat) (G : gS), (inI l3) → (l4 % 8 ≠ 1) → J 2 [l1, l2, l3] G Q → Tg W0 (j 2) [rf (814), rf (l1), rf (l2), cI (l3), l4] [] G (fun r G => ∃ v, r = cI v ∧ (0 ≤ v ∧ v ≤ 1) ∧ Q v G)) (hj3 : ∀ (l1 : Int) (l2 : Int) (l3 : Int) (l4 : Nat) (G : gS), (inI l3) → (l4 % 8 ≠ 1) → J 3 [l1, l2, l3] G Q → Tg W0 (j 3) [rf (814), rf (l1), rf (l2), cI (l3), l4] [] G (fun r G => ∃ v, r = cI v ∧ (0 ≤ v ∧ v ≤ 1) ∧ Q v G)) (hj4 : ∀ (l1 : Int) (l2 : Int) (l3 : Int) (l4 : Nat) (G : gS), (inI l3) → (l4 % 8 ≠ 1) → J 4 [l1, l2, l3] G Q → Tg W0 (j 4) [rf (814), rf (l1), rf (l2), cI (l3), l4] [] G (fun r G => ∃ v, r = cI v ∧ (0 ≤ v ∧ v ≤ 1) ∧ Q v G)) (hj5 : ∀ (l1 : Int) (l2 : Int) (l3 : Int) (l4 : Nat) (G : gS), (inI l3) → (l4 % 8 ≠ 1) → J 5 [l1, l2, l3] G Q → Tg W0 (j 5) [rf (814), rf (l1), rf (l2), cI (l3), l4] [] G (fun r G => ∃ v, r = cI v ∧ (0 ≤ v ∧ v ≤ 1) ∧ Q v G)) (h : PX4_judge_258 J l1 l2 l3 G Q) : Tg W0 (vX4_judge_258 j) [rf (814), rf (l1), rf (l2), cI (l3), l4] [] G (fun r G => ∃ v, r = cI v ∧ (0 ≤ v ∧ v ≤ 1) ∧ Q v G) := by
  unfold PX4_judge_258 at h
  unfold vX4_judge_258
  refine g_ld (v := cI _) rfl (is_I _) ?_
  refine g_ld (v := rf _) rfl (is_R _) ?_
  refine g_getR (kz := 1) (c := 1) oC4 rfl (Nat.le_of_ble_eq_true rfl) rfl (by decide) fun i130 => ?_
  replace h := h i130
  obtain ⟨q131, h⟩ := h
  refine g_getI (kz := 3) q131 rfl (Nat.le_of_ble_eq_true rfl) rfl fun i132 => ?_
  replace h := h i132
  refine g_lt2 hl3 i132 (fun b133 => ?_) (fun b133 => ?_)
  · replace h := h.1 b133
    unfold vX4_judge_269
    refine g_ld (v := rf _) rfl (is_R _) ?_
    refine g_getI (kz := 2) oC4 rfl (Nat.le_of_ble_eq_true rfl) rfl fun i134 => ?_
    replace h := h i134
    refine g_eq1 i134 (fun b135 => ?_) (fun b135 => ?_)
    · replace h := h.1 b135
      unfold vX4_judge_276
      refine g_ld (v := rf _) rfl (is_R _) ?_
      refine g_ld (v := rf _) rfl (is_R _) ?_
      refine g_getR (kz := 1) (c := 1) oC4 rfl (Nat.le_of_ble_eq_true rfl) rfl (by decide) fun i136 => ?_
      replace h := h i136
      obtain ⟨q137, h⟩ := h
      refine g_getAF (kz := 2) (c := 4) q137 rfl (Nat.le_of_ble_eq_true rfl) rfl fun i138 => ?_
      replace h := h i138
      refine g_ld (v := cI _) rfl (is_I _) ?_
      obtain ⟨n139, q140, h⟩ := h
      obtain ⟨q141, q142, h⟩ := h
      refine g_aldRF (c := 10) q140 q141 q142 rfl (by decide) fun i143 => ?_
      replace h := h i143
      refine g_callV (As := [_]) (ci := 4) oC4 (fun _ => rfl) ?_
      refine g_go0 (Nat.le_of_ble_eq_true rfl) (Tn_w (TX4_impliedMaker  h) fun _ G144 ⟨e, h⟩ => ⟨e, ?_⟩)
      refine g_ld (v := rf _) rfl (is_R _) ?_
      refine g_ld (v := rf _) rfl (is_R _) ?_
      refine g_getR (kz := 1) (c := 1) oC4 rfl (Nat.le_of_ble_eq_true rfl) rfl (by decide) fun i146 => ?_
      replace h := h i146
      obtain ⟨q147, h⟩ := h
      refine g_getAF (kz := 2) (c := 4) q147 rfl (Nat.le_of_ble_eq_true rfl) rfl fun i148 => ?_
      replace h := h i148
      refine g_ld (v := cI _) rfl (is_I _) ?_
      obtain ⟨n149, q150, h⟩ := h
      obtain ⟨q151, q152, h⟩ := h
      refine g_aldRF (c := 10) q150 q151 q152 rfl (by decide) fun i153 => ?_
      replace h := h i153
      refine g_ld (v := rf _) rfl (is_R _) ?_
      refine g_getR (kz := 0) (c := 11) oC4 rfl (Nat.le_of_ble_eq_true rfl) rfl (by decide) fun i154 => ?_
      replace h := h i154
      refine g_ld (v := rf _) rfl (is_R _) ?_
      refine g_getR (kz := 1) (c := 1) oC4 rfl (Nat.le_of_ble_eq_true rfl) rfl (by decide) fun i155 => ?_
      replace h := h i155
      obtain ⟨q156, h⟩ := h
      refine g_getAF (kz := 2) (c := 4) q156 rfl (Nat.le_of_ble_eq_true rfl) rfl fun i157 => ?_
      replace h := h i157
      refine g_ld (v := cI _) rfl (is_I _) ?_
      obtain ⟨n158, q159, h⟩ := h
      obtain ⟨q160, q161, h⟩ := h
      refine g_aldRF (c := 10) q159 q160 q161 rfl (by decide) fun i162 => ?_
      replace h := h i162
      obtain ⟨q163, h⟩ := h
      refine g_getL (kz := 1) q163 rfl (Nat.le_of_ble_eq_true rfl) rfl fun i164 => ?_
      replace h := h i164
      obtain ⟨q165, h⟩ := h
      refine g_callV (As := [_]) (ci := 11) q165 (fun _ => rfl) ?_
      refine g_go1 (by simp only [cs_c, cs_0, ct_I, ct_L, ct_R]; exact Nat.le_of_ble_eq_true rfl) (Tn_w (TX11_find i164 h) fun _ G166 ⟨r167, e, i168, h⟩ => ?_)
      subst e
      refine ⟨n7_I _, ?_⟩
      replace h := h i168
      refine g_callV (As := [_, _]) (ci := 4) oC4 (fun _ => rfl) ?_
      refine g_go0 (Nat.le_of_ble_eq_true rfl) (Tn_w (TX4_bridges i168 h) fun _ G169 ⟨e, h⟩ => ⟨e, ?_⟩)
      refine g_inc (lv' := [_, _, _, _, _]) rfl (Nat.le_of_ble_eq_true rfl) (Or.inr (n1_R _)) rfl ?_
      obtain ⟨q171, h⟩ := h
      unfold vX4_judge_324
      exact hj4 _ _ _ _ _ q171 hl4 h
    · replace h := h.2 b135
      exact TX4_judge_327 hl3 hl4 hj0 hj1 hj2 hj3 hj4 hj5 h
  · replace h := h.2 b133
    exact TX4_judge_327 hl3 hl4 hj0 hj1 hj2 hj3 hj4 hj5 h
def PX4_judge_256 (J : Nat → List Int → gS → (Int → gS → Prop) → Prop) (l1 : Int) (l2 : Int) (l3 : Int) (G : gS) (Q : Int → gS → Prop) : Prop :=
  PX4_judge_258 J l1 l2 0 G Q
set_option maxRecDepth 20000 in
theorem TX4_judge_256 {j : Nat → rx_K} {J : Nat → List Int → gS → (Int → gS → Prop) → Prop} {l1 : Int} {l2 : Int} {l3 : Int} {l4 : Nat} {G : gS} {Q : Int → gS → Prop} (hl3 : inI l3) (hl4 : l4 % 8 ≠ 1) (hj0 : ∀ (l1 : Int) (l2 : Int) (l3 : Int) (l4 : Nat) (G : gS), (inI l3) → (l4 % 8 ≠ 1) → J 0 [l1, l2, l3] G Q → Tg W0 (j 0) [rf (814), rf (l1), rf (l2), cI (l3), l4] [] G (fun r G => ∃ v, r = cI v ∧ (0 ≤ v ∧ v ≤ 1) ∧ Q v G)) (hj1 : ∀ (l1 : Int) (l2 : Int) (l3 : Int) (l4 : Nat) (G : gS), (inI l3) → (l4 % 8 ≠ 1) → J 1 [l1, l2, l3] G Q → Tg W0 (j 1) [rf (814), rf (l1), rf (l2), cI (l3), l4] [] G (fun r G => ∃ v, r = cI v ∧ (0 ≤ v ∧ v ≤ 1) ∧ Q v G)) (hj2 : ∀ (l1 : Int) (l2 : Int) (l3 : Int) (l4 : Nat) (G : gS), (inI l3) → (l4 % 8 ≠ 1) → J 2 [l1, l2, l3] G Q → Tg W0 (j 2) [rf (814), rf (l1), rf (l2), cI (l3), l4] [] G (fun r G => ∃ v, r = cI v ∧ (0 ≤ v ∧ v ≤ 1) ∧ Q v G)) (hj3 : ∀ (l1 : Int) (l2 : Int) (l3 : Int) (l4 : Nat) (G : gS), (inI l3) → (l4 % 8 ≠ 1) → J 3 [l1, l2, l3] G Q → Tg W0 (j 3) [rf (814), rf (l1), rf (l2), cI (l3), l4] [] G (fun r G => ∃ v, r = cI v ∧ (0 ≤ v ∧ v ≤ 1) ∧ Q v G)) (hj4 : ∀ (l1 : Int) (l2 : Int) (l3 : Int) (l4 : Nat) (G : gS), (inI l3) → (l4 % 8 ≠ 1) → J 4 [l1, l2, l3] G Q → Tg W0 (j 4) [rf (814), rf (l1), rf (l2), cI (l3), l4] [] G (fun r G => ∃ v, r = cI v ∧ (0 ≤ v ∧ v ≤ 1) ∧ Q v G)) (hj5 : ∀ (l1 : Int) (l2 : Int) (l3 : Int) (l4 : Nat) (G : gS), (inI l3) → (l4 % 8 ≠ 1) → J 5 [l1, l2, l3] G Q → Tg W0 (j 5) [rf (814), rf (l1), rf (l2), cI (l3), l4] [] G (fun r G => ∃ v, r = cI v ∧ (0 ≤ v ∧ v ≤ 1) ∧ Q v G)) (h : PX4_judge_256 J l1 l2 l3 G Q) : Tg W0 (vX4_judge_256 j) [rf (814), rf (l1), rf (l2), cI (l3), l4] [] G (fun r G => ∃ v, r = cI v ∧ (0 ≤ v ∧ v ≤ 1) ∧ Q v G) := by
  unfold PX4_judge_256 at h
  unfold vX4_judge_256
  refine g_const (v := cI (0)) rfl ?_
  refine g_st (lv' := [_, _, _, _, _]) (is_I _) (Nat.le_of_ble_eq_true rfl) (Or.inr (n1_R _)) rfl ?_
  exact TX4_judge_258 ⟨by omega, by omega⟩ hl4 hj0 hj1 hj2 hj3 hj4 hj5 h
def PX4_judge_200 (J : Nat → List Int → gS → (Int → gS → Prop) → Prop) (l1 : Int) (l2 : Int) (l3 : Int) (G : gS) (Q : Int → gS → Prop) : Prop :=
  ((G 814 1 = -1 ∨ isO W0 1 (G 814 1)) → (isO W0 1 (G 814 1) ∧ (inI (G (G 814 1) 3) → ((l3 < G (G 814 1) 3 → (inI (G 814 2) → ((G 814 2 = 0 → ((G 814 1 = -1 ∨ isO W0 1 (G 814 1)) → (isO W0 1 (G 814 1) ∧ (((G (G 814 1) 2 = -1 ∨ ∃ n, isA W0 4 n (G (G 814 1) 2)) ∧ ∀ v, W0.2 (G 814 1) 2 = some v → G (G 814 1) 2 = v) → (∃ n107, isA W0 4 n107 (G (G 814 1) 2) ∧ ((0 : Int) ≤ l3 ∧ ((l3 : Int) < n107 ∧ (((G (G (G 814 1) 2) l3 = -1 ∨ isO W0 10 (G (G (G 814 1) 2) l3)) ∧ ∀ v, W0.2 (G (G 814 1) 2) l3 = some v → G (G (G 814 1) 2) l3 = v) → ((G 814 0 = -1 ∨ isO W0 11 (G 814 0)) → ((G 814 1 = -1 ∨ isO W0 1 (G 814 1)) → (isO W0 1 (G 814 1) ∧ (((G (G 814 1) 2 = -1 ∨ ∃ n, isA W0 4 n (G (G 814 1) 2)) ∧ ∀ v, W0.2 (G 814 1) 2 = some v → G (G 814 1) 2 = v) → (∃ n116, isA W0 4 n116 (G (G 814 1) 2) ∧ ((0 : Int) ≤ l3 ∧ ((l3 : Int) < n116 ∧ (((G (G (G 814 1) 2) l3 = -1 ∨ isO W0 10 (G (G (G 814 1) 2) l3)) ∧ ∀ v, W0.2 (G (G 814 1) 2) l3 = some v → G (G (G 814 1) 2) l3 = v) → (isO W0 10 (G (G (G 814 1) 2) l3) ∧ (inL (G (G (G (G 814 1) 2) l3) 1) → (isO W0 11 (G 814 0) ∧ PX11_find (G 814 0) (G (G (G (G 814 1) 2) l3) 1) G (fun r125 G124 => inI r125 → PX4_above (G (G (G 814 1) 2) l3) r125 G124 (fun _ G127 => (inI (l3 + 1) ∧ J 3 [l1, l2, l3 + 1] G127 Q)))))))))))))))))))))) ∧ (¬ (G 814 2 = 0) → PX4_judge_256 J l1 l2 l3 G Q)))) ∧ (¬ (l3 < G (G 814 1) 3) → PX4_judge_256 J l1 l2 l3 G Q)))))
set_option maxRecDepth 20000 in
theorem TX4_judge_200 {j : Nat → rx_K} {J : Nat → List Int → gS → (Int → gS → Prop) → Prop} {l1 : Int} {l2 : Int} {l3 : Int} {l4 : Nat} {G : gS} {Q : Int → gS → Prop} (hl3 : inI l3) (hl4 : l4 % 8 ≠ 1) (hj0 : ∀ (l1 : Int) (l2 : Int) (l3 : Int) (l4 : Nat) (G : gS), (inI l3) → (l4 % 8 ≠ 1) → J 0 [l1, l2, l3] G Q → Tg W0 (j 0) [rf (814), rf (l1), rf (l2), cI (l3), l4] [] G (fun r G => ∃ v, r = cI v ∧ (0 ≤ v ∧ v ≤ 1) ∧ Q v G)) (hj1 : ∀ (l1 : Int) (l2 : Int) (l3 : Int) (l4 : Nat) (G : gS), (inI l3) → (l4 % 8 ≠ 1) → J 1 [l1, l2, l3] G Q → Tg W0 (j 1) [rf (814), rf (l1), rf (l2), cI (l3), l4] [] G (fun r G => ∃ v, r = cI v ∧ (0 ≤ v ∧ v ≤ 1) ∧ Q v G)) (hj2 : ∀ (l1 : Int) (l2 : Int) (l3 : Int) (l4 : Nat) (G : gS), (inI l3) → (l4 % 8 ≠ 1) → J 2 [l1, l2, l3] G Q → Tg W0 (j 2) [rf (814), rf (l1), rf (l2), cI (l3), l4] [] G (fun r G => ∃ v, r = cI v ∧ (0 ≤ v ∧ v ≤ 1) ∧ Q v G)) (hj3 : ∀ (l1 : Int) (l2 : Int) (l3 : Int) (l4 : Nat) (G : gS), (inI l3) → (l4 % 8 ≠ 1) → J 3 [l1, l2, l3] G Q → Tg W0 (j 3) [rf (814), rf (l1), rf (l2), cI (l3), l4] [] G (fun r G => ∃ v, r = cI v ∧ (0 ≤ v ∧ v ≤ 1) ∧ Q v G)) (hj4 : ∀ (l1 : Int) (l2 : Int) (l3 : Int) (l4 : Nat) (G : gS), (inI l3) → (l4 % 8 ≠ 1) → J 4 [l1, l2, l3] G Q → Tg W0 (j 4) [rf (814), rf (l1), rf (l2), cI (l3), l4] [] G (fun r G => ∃ v, r = cI v ∧ (0 ≤ v ∧ v ≤ 1) ∧ Q v G)) (hj5 : ∀ (l1 : Int) (l2 : Int) (l3 : Int) (l4 : Nat) (G : gS), (inI l3) → (l4 % 8 ≠ 1) → J 5 [l1, l2, l3] G Q → Tg W0 (j 5) [rf (814), rf (l1), rf (l2), cI (l3), l4] [] G (fun r G => ∃ v, r = cI v ∧ (0 ≤ v ∧ v ≤ 1) ∧ Q v G)) (h : PX4_judge_200 J l1 l2 l3 G Q) : Tg W0 (vX4_judge_200 j) [rf (814), rf (l1), rf (l2), cI (l3), l4] [] G (fun r G => ∃ v, r = cI v ∧ (0 ≤ v ∧ v ≤ 1) ∧ Q v G) := by
  unfold PX4_judge_200 at h
  unfold vX4_judge_200
  refine g_ld (v := cI _) rfl (is_I _) ?_
  refine g_ld (v := rf _) rfl (is_R _) ?_
  refine g_getR (kz := 1) (c := 1) oC4 rfl (Nat.le_of_ble_eq_true rfl) rfl (by decide) fun i98 => ?_
  replace h := h i98
  obtain ⟨q99, h⟩ := h
  refine g_getI (kz := 3) q99 rfl (Nat.le_of_ble_eq_true rfl) rfl fun i100 => ?_
  replace h := h i100
  refine g_lt2 hl3 i100 (fun b101 => ?_) (fun b101 => ?_)
  · replace h := h.1 b101
    unfold vX4_judge_211
    refine g_ld (v := rf _) rfl (is_R _) ?_
    refine g_getI (kz := 2) oC4 rfl (Nat.le_of_ble_eq_true rfl) rfl fun i102 => ?_
    replace h := h i102
    refine g_eq1 i102 (fun b103 => ?_) (fun b103 => ?_)
    · replace h := h.1 b103
      unfold vX4_judge_218
      refine g_ld (v := rf _) rfl (is_R _) ?_
      refine g_ld (v := rf _) rfl (is_R _) ?_
      refine g_getR (kz := 1) (c := 1) oC4 rfl (Nat.le_of_ble_eq_true rfl) rfl (by decide) fun i104 => ?_
      replace h := h i104
      obtain ⟨q105, h⟩ := h
      refine g_getAF (kz := 2) (c := 4) q105 rfl (Nat.le_of_ble_eq_true rfl) rfl fun i106 => ?_
      replace h := h i106
      refine g_ld (v := cI _) rfl (is_I _) ?_
      obtain ⟨n107, q108, h⟩ := h
      obtain ⟨q109, q110, h⟩ := h
      refine g_aldRF (c := 10) q108 q109 q110 rfl (by decide) fun i111 => ?_
      replace h := h i111
      refine g_ld (v := rf _) rfl (is_R _) ?_
      refine g_getR (kz := 0) (c := 11) oC4 rfl (Nat.le_of_ble_eq_true rfl) rfl (by decide) fun i112 => ?_
      replace h := h i112
      refine g_ld (v := rf _) rfl (is_R _) ?_
      refine g_getR (kz := 1) (c := 1) oC4 rfl (Nat.le_of_ble_eq_true rfl) rfl (by decide) fun i113 => ?_
      replace h := h i113
      obtain ⟨q114, h⟩ := h
      refine g_getAF (kz := 2) (c := 4) q114 rfl (Nat.le_of_ble_eq_true rfl) rfl fun i115 => ?_
      replace h := h i115
      refine g_ld (v := cI _) rfl (is_I _) ?_
      obtain ⟨n116, q117, h⟩ := h
      obtain ⟨q118, q119, h⟩ := h
      refine g_aldRF (c := 10) q117 q118 q119 rfl (by decide) fun i120 => ?_
      replace h := h i120
      obtain ⟨q121, h⟩ := h
      refine g_getL (kz := 1) q121 rfl (Nat.le_of_ble_eq_true rfl) rfl fun i122 => ?_
      replace h := h i122
      obtain ⟨q123, h⟩ := h
      refine g_callV (As := [_]) (ci := 11) q123 (fun _ => rfl) ?_
      refine g_go1 (by simp only [cs_c, cs_0, ct_I, ct_L, ct_R]; exact Nat.le_of_ble_eq_true rfl) (Tn_w (TX11_find i122 h) fun _ G124 ⟨r125, e, i126, h⟩ => ?_)
      subst e
      refine ⟨n7_I _, ?_⟩
      replace h := h i126
      refine g_callV (As := [_, _]) (ci := 4) oC4 (fun _ => rfl) ?_
      refine g_go0 (Nat.le_of_ble_eq_true rfl) (Tn_w (TX4_above i126 h) fun _ G127 ⟨e, h⟩ => ⟨e, ?_⟩)
      refine g_inc (lv' := [_, _, _, _, _]) rfl (Nat.le_of_ble_eq_true rfl) (Or.inr (n1_R _)) rfl ?_
      obtain ⟨q129, h⟩ := h
      exact hj3 _ _ _ _ _ q129 hl4 h
    · replace h := h.2 b103
      exact TX4_judge_256 hl3 hl4 hj0 hj1 hj2 hj3 hj4 hj5 h
  · replace h := h.2 b101
    exact TX4_judge_256 hl3 hl4 hj0 hj1 hj2 hj3 hj4 hj5 h
def PX4_judge_198 (J : Nat → List Int → gS → (Int → gS → Prop) → Prop) (l1 : Int) (l2 : Int) (l3 : Int) (G : gS) (Q : Int → gS → Prop) : Prop :=
  PX4_judge_200 J l1 l2 0 G Q
set_option maxRecDepth 20000 in
theorem TX4_judge_198 {j : Nat → rx_K} {J : Nat → List Int → gS → (Int → gS → Prop) → Prop} {l1 : Int} {l2 : Int} {l3 : Int} {l4 : Nat} {G : gS} {Q : Int → gS → Prop} (hl3 : inI l3) (hl4 : l4 % 8 ≠ 1) (hj0 : ∀ (l1 : Int) (l2 : Int) (l3 : Int) (l4 : Nat) (G : gS), (inI l3) → (l4 % 8 ≠ 1) → J 0 [l1, l2, l3] G Q → Tg W0 (j 0) [rf (814), rf (l1), rf (l2), cI (l3), l4] [] G (fun r G => ∃ v, r = cI v ∧ (0 ≤ v ∧ v ≤ 1) ∧ Q v G)) (hj1 : ∀ (l1 : Int) (l2 : Int) (l3 : Int) (l4 : Nat) (G : gS), (inI l3) → (l4 % 8 ≠ 1) → J 1 [l1, l2, l3] G Q → Tg W0 (j 1) [rf (814), rf (l1), rf (l2), cI (l3), l4] [] G (fun r G => ∃ v, r = cI v ∧ (0 ≤ v ∧ v ≤ 1) ∧ Q v G)) (hj2 : ∀ (l1 : Int) (l2 : Int) (l3 : Int) (l4 : Nat) (G : gS), (inI l3) → (l4 % 8 ≠ 1) → J 2 [l1, l2, l3] G Q → Tg W0 (j 2) [rf (814), rf (l1), rf (l2), cI (l3), l4] [] G (fun r G => ∃ v, r = cI v ∧ (0 ≤ v ∧ v ≤ 1) ∧ Q v G)) (hj3 : ∀ (l1 : Int) (l2 : Int) (l3 : Int) (l4 : Nat) (G : gS), (inI l3) → (l4 % 8 ≠ 1) → J 3 [l1, l2, l3] G Q → Tg W0 (j 3) [rf (814), rf (l1), rf (l2), cI (l3), l4] [] G (fun r G => ∃ v, r = cI v ∧ (0 ≤ v ∧ v ≤ 1) ∧ Q v G)) (hj4 : ∀ (l1 : Int) (l2 : Int) (l3 : Int) (l4 : Nat) (G : gS), (inI l3) → (l4 % 8 ≠ 1) → J 4 [l1, l2, l3] G Q → Tg W0 (j 4) [rf (814), rf (l1), rf (l2), cI (l3), l4] [] G (fun r G => ∃ v, r = cI v ∧ (0 ≤ v ∧ v ≤ 1) ∧ Q v G)) (hj5 : ∀ (l1 : Int) (l2 : Int) (l3 : Int) (l4 : Nat) (G : gS), (inI l3) → (l4 % 8 ≠ 1) → J 5 [l1, l2, l3] G Q → Tg W0 (j 5) [rf (814), rf (l1), rf (l2), cI (l3), l4] [] G (fun r G => ∃ v, r = cI v ∧ (0 ≤ v ∧ v ≤ 1) ∧ Q v G)) (h : PX4_judge_198 J l1 l2 l3 G Q) : Tg W0 (vX4_judge_198 j) [rf (814), rf (l1), rf (l2), cI (l3), l4] [] G (fun r G => ∃ v, r = cI v ∧ (0 ≤ v ∧ v ≤ 1) ∧ Q v G) := by
  unfold PX4_judge_198 at h
  unfold vX4_judge_198
  refine g_const (v := cI (0)) rfl ?_
  refine g_st (lv' := [_, _, _, _, _]) (is_I _) (Nat.le_of_ble_eq_true rfl) (Or.inr (n1_R _)) rfl ?_
  exact TX4_judge_200 ⟨by omega, by omega⟩ hl4 hj0 hj1 hj2 hj3 hj4 hj5 h
def PX4_judge_142 (J : Nat → List Int → gS → (Int → gS → Prop) → Prop) (l1 : Int) (l2 : Int) (l3 : Int) (G : gS) (Q : Int → gS → Prop) : Prop :=
  ((G 814 1 = -1 ∨ isO W0 1 (G 814 1)) → (isO W0 1 (G 814 1) ∧ (inI (G (G 814 1) 3) → ((l3 < G (G 814 1) 3 → (inI (G 814 2) → ((G 814 2 = 0 → ((G 814 1 = -1 ∨ isO W0 1 (G 814 1)) → (isO W0 1 (G 814 1) ∧ (((G (G 814 1) 2 = -1 ∨ ∃ n, isA W0 4 n (G (G 814 1) 2)) ∧ ∀ v, W0.2 (G 814 1) 2 = some v → G (G 814 1) 2 = v) → (∃ n75, isA W0 4 n75 (G (G 814 1) 2) ∧ ((0 : Int) ≤ l3 ∧ ((l3 : Int) < n75 ∧ (((G (G (G 814 1) 2) l3 = -1 ∨ isO W0 10 (G (G (G 814 1) 2) l3)) ∧ ∀ v, W0.2 (G (G 814 1) 2) l3 = some v → G (G (G 814 1) 2) l3 = v) → ((G 814 0 = -1 ∨ isO W0 11 (G 814 0)) → ((G 814 1 = -1 ∨ isO W0 1 (G 814 1)) → (isO W0 1 (G 814 1) ∧ (((G (G 814 1) 2 = -1 ∨ ∃ n, isA W0 4 n (G (G 814 1) 2)) ∧ ∀ v, W0.2 (G 814 1) 2 = some v → G (G 814 1) 2 = v) → (∃ n84, isA W0 4 n84 (G (G 814 1) 2) ∧ ((0 : Int) ≤ l3 ∧ ((l3 : Int) < n84 ∧ (((G (G (G 814 1) 2) l3 = -1 ∨ isO W0 10 (G (G (G 814 1) 2) l3)) ∧ ∀ v, W0.2 (G (G 814 1) 2) l3 = some v → G (G (G 814 1) 2) l3 = v) → (isO W0 10 (G (G (G 814 1) 2) l3) ∧ (inL (G (G (G (G 814 1) 2) l3) 1) → (isO W0 11 (G 814 0) ∧ PX11_find (G 814 0) (G (G (G (G 814 1) 2) l3) 1) G (fun r93 G92 => inI r93 → PX4_items (G (G (G 814 1) 2) l3) r93 G92 (fun _ G95 => (inI (l3 + 1) ∧ J 2 [l1, l2, l3 + 1] G95 Q)))))))))))))))))))))) ∧ (¬ (G 814 2 = 0) → PX4_judge_198 J l1 l2 l3 G Q)))) ∧ (¬ (l3 < G (G 814 1) 3) → PX4_judge_198 J l1 l2 l3 G Q)))))
set_option maxRecDepth 20000 in
theorem TX4_judge_142 {j : Nat → rx_K} {J : Nat → List Int → gS → (Int → gS → Prop) → Prop} {l1 : Int} {l2 : Int} {l3 : Int} {l4 : Nat} {G : gS} {Q : Int → gS → Prop} (hl3 : inI l3) (hl4 : l4 % 8 ≠ 1) (hj0 : ∀ (l1 : Int) (l2 : Int) (l3 : Int) (l4 : Nat) (G : gS), (inI l3) → (l4 % 8 ≠ 1) → J 0 [l1, l2, l3] G Q → Tg W0 (j 0) [rf (814), rf (l1), rf (l2), cI (l3), l4] [] G (fun r G => ∃ v, r = cI v ∧ (0 ≤ v ∧ v ≤ 1) ∧ Q v G)) (hj1 : ∀ (l1 : Int) (l2 : Int) (l3 : Int) (l4 : Nat) (G : gS), (inI l3) → (l4 % 8 ≠ 1) → J 1 [l1, l2, l3] G Q → Tg W0 (j 1) [rf (814), rf (l1), rf (l2), cI (l3), l4] [] G (fun r G => ∃ v, r = cI v ∧ (0 ≤ v ∧ v ≤ 1) ∧ Q v G)) (hj2 : ∀ (l1 : Int) (l2 : Int) (l3 : Int) (l4 : Nat) (G : gS), (inI l3) → (l4 % 8 ≠ 1) → J 2 [l1, l2, l3] G Q → Tg W0 (j 2) [rf (814), rf (l1), rf (l2), cI (l3), l4] [] G (fun r G => ∃ v, r = cI v ∧ (0 ≤ v ∧ v ≤ 1) ∧ Q v G)) (hj3 : ∀ (l1 : Int) (l2 : Int) (l3 : Int) (l4 : Nat) (G : gS), (inI l3) → (l4 % 8 ≠ 1) → J 3 [l1, l2, l3] G Q → Tg W0 (j 3) [rf (814), rf (l1), rf (l2), cI (l3), l4] [] G (fun r G => ∃ v, r = cI v ∧ (0 ≤ v ∧ v ≤ 1) ∧ Q v G)) (hj4 : ∀ (l1 : Int) (l2 : Int) (l3 : Int) (l4 : Nat) (G : gS), (inI l3) → (l4 % 8 ≠ 1) → J 4 [l1, l2, l3] G Q → Tg W0 (j 4) [rf (814), rf (l1), rf (l2), cI (l3), l4] [] G (fun r G => ∃ v, r = cI v ∧ (0 ≤ v ∧ v ≤ 1) ∧ Q v G)) (hj5 : ∀ (l1 : Int) (l2 : Int) (l3 : Int) (l4 : Nat) (G : gS), (inI l3) → (l4 % 8 ≠ 1) → J 5 [l1, l2, l3] G Q → Tg W0 (j 5) [rf (814), rf (l1), rf (l2), cI (l3), l4] [] G (fun r G => ∃ v, r = cI v ∧ (0 ≤ v ∧ v ≤ 1) ∧ Q v G)) (h : PX4_judge_142 J l1 l2 l3 G Q) : Tg W0 (vX4_judge_142 j) [rf (814), rf (l1), rf (l2), cI (l3), l4] [] G (fun r G => ∃ v, r = cI v ∧ (0 ≤ v ∧ v ≤ 1) ∧ Q v G) := by
  unfold PX4_judge_142 at h
  unfold vX4_judge_142
  refine g_ld (v := cI _) rfl (is_I _) ?_
  refine g_ld (v := rf _) rfl (is_R _) ?_
  refine g_getR (kz := 1) (c := 1) oC4 rfl (Nat.le_of_ble_eq_true rfl) rfl (by decide) fun i66 => ?_
  replace h := h i66
  obtain ⟨q67, h⟩ := h
  refine g_getI (kz := 3) q67 rfl (Nat.le_of_ble_eq_true rfl) rfl fun i68 => ?_
  replace h := h i68
  refine g_lt2 hl3 i68 (fun b69 => ?_) (fun b69 => ?_)
  · replace h := h.1 b69
    unfold vX4_judge_153
    refine g_ld (v := rf _) rfl (is_R _) ?_
    refine g_getI (kz := 2) oC4 rfl (Nat.le_of_ble_eq_true rfl) rfl fun i70 => ?_
    replace h := h i70
    refine g_eq1 i70 (fun b71 => ?_) (fun b71 => ?_)
    · replace h := h.1 b71
      unfold vX4_judge_160
      refine g_ld (v := rf _) rfl (is_R _) ?_
      refine g_ld (v := rf _) rfl (is_R _) ?_
      refine g_getR (kz := 1) (c := 1) oC4 rfl (Nat.le_of_ble_eq_true rfl) rfl (by decide) fun i72 => ?_
      replace h := h i72
      obtain ⟨q73, h⟩ := h
      refine g_getAF (kz := 2) (c := 4) q73 rfl (Nat.le_of_ble_eq_true rfl) rfl fun i74 => ?_
      replace h := h i74
      refine g_ld (v := cI _) rfl (is_I _) ?_
      obtain ⟨n75, q76, h⟩ := h
      obtain ⟨q77, q78, h⟩ := h
      refine g_aldRF (c := 10) q76 q77 q78 rfl (by decide) fun i79 => ?_
      replace h := h i79
      refine g_ld (v := rf _) rfl (is_R _) ?_
      refine g_getR (kz := 0) (c := 11) oC4 rfl (Nat.le_of_ble_eq_true rfl) rfl (by decide) fun i80 => ?_
      replace h := h i80
      refine g_ld (v := rf _) rfl (is_R _) ?_
      refine g_getR (kz := 1) (c := 1) oC4 rfl (Nat.le_of_ble_eq_true rfl) rfl (by decide) fun i81 => ?_
      replace h := h i81
      obtain ⟨q82, h⟩ := h
      refine g_getAF (kz := 2) (c := 4) q82 rfl (Nat.le_of_ble_eq_true rfl) rfl fun i83 => ?_
      replace h := h i83
      refine g_ld (v := cI _) rfl (is_I _) ?_
      obtain ⟨n84, q85, h⟩ := h
      obtain ⟨q86, q87, h⟩ := h
      refine g_aldRF (c := 10) q85 q86 q87 rfl (by decide) fun i88 => ?_
      replace h := h i88
      obtain ⟨q89, h⟩ := h
      refine g_getL (kz := 1) q89 rfl (Nat.le_of_ble_eq_true rfl) rfl fun i90 => ?_
      replace h := h i90
      obtain ⟨q91, h⟩ := h
      refine g_callV (As := [_]) (ci := 11) q91 (fun _ => rfl) ?_
      refine g_go1 (by simp only [cs_c, cs_0, ct_I, ct_L, ct_R]; exact Nat.le_of_ble_eq_true rfl) (Tn_w (TX11_find i90 h) fun _ G92 ⟨r93, e, i94, h⟩ => ?_)
      subst e
      refine ⟨n7_I _, ?_⟩
      replace h := h i94
      refine g_callV (As := [_, _]) (ci := 4) oC4 (fun _ => rfl) ?_
      refine g_go0 (Nat.le_of_ble_eq_true rfl) (Tn_w (TX4_items i94 h) fun _ G95 ⟨e, h⟩ => ⟨e, ?_⟩)
      refine g_inc (lv' := [_, _, _, _, _]) rfl (Nat.le_of_ble_eq_true rfl) (Or.inr (n1_R _)) rfl ?_
      obtain ⟨q97, h⟩ := h
      exact hj2 _ _ _ _ _ q97 hl4 h
    · replace h := h.2 b71
      exact TX4_judge_198 hl3 hl4 hj0 hj1 hj2 hj3 hj4 hj5 h
  · replace h := h.2 b69
    exact TX4_judge_198 hl3 hl4 hj0 hj1 hj2 hj3 hj4 hj5 h
def PX4_judge_140 (J : Nat → List Int → gS → (Int → gS → Prop) → Prop) (l1 : Int) (l2 : Int) (l3 : Int) (G : gS) (Q : Int → gS → Prop) : Prop :=
  PX4_judge_142 J l1 l2 0 G Q
set_option maxRecDepth 20000 in
theorem TX4_judge_140 {j : Nat → rx_K} {J : Nat → List Int → gS → (Int → gS → Prop) → Prop} {l1 : Int} {l2 : Int} {l3 : Int} {l4 : Nat} {G : gS} {Q : Int → gS → Prop} (hl3 : inI l3) (hl4 : l4 % 8 ≠ 1) (hj0 : ∀ (l1 : Int) (l2 : Int) (l3 : Int) (l4 : Nat) (G : gS), (inI l3) → (l4 % 8 ≠ 1) → J 0 [l1, l2, l3] G Q → Tg W0 (j 0) [rf (814), rf (l1), rf (l2), cI (l3), l4] [] G (fun r G => ∃ v, r = cI v ∧ (0 ≤ v ∧ v ≤ 1) ∧ Q v G)) (hj1 : ∀ (l1 : Int) (l2 : Int) (l3 : Int) (l4 : Nat) (G : gS), (inI l3) → (l4 % 8 ≠ 1) → J 1 [l1, l2, l3] G Q → Tg W0 (j 1) [rf (814), rf (l1), rf (l2), cI (l3), l4] [] G (fun r G => ∃ v, r = cI v ∧ (0 ≤ v ∧ v ≤ 1) ∧ Q v G)) (hj2 : ∀ (l1 : Int) (l2 : Int) (l3 : Int) (l4 : Nat) (G : gS), (inI l3) → (l4 % 8 ≠ 1) → J 2 [l1, l2, l3] G Q → Tg W0 (j 2) [rf (814), rf (l1), rf (l2), cI (l3), l4] [] G (fun r G => ∃ v, r = cI v ∧ (0 ≤ v ∧ v ≤ 1) ∧ Q v G)) (hj3 : ∀ (l1 : Int) (l2 : Int) (l3 : Int) (l4 : Nat) (G : gS), (inI l3) → (l4 % 8 ≠ 1) → J 3 [l1, l2, l3] G Q → Tg W0 (j 3) [rf (814), rf (l1), rf (l2), cI (l3), l4] [] G (fun r G => ∃ v, r = cI v ∧ (0 ≤ v ∧ v ≤ 1) ∧ Q v G)) (hj4 : ∀ (l1 : Int) (l2 : Int) (l3 : Int) (l4 : Nat) (G : gS), (inI l3) → (l4 % 8 ≠ 1) → J 4 [l1, l2, l3] G Q → Tg W0 (j 4) [rf (814), rf (l1), rf (l2), cI (l3), l4] [] G (fun r G => ∃ v, r = cI v ∧ (0 ≤ v ∧ v ≤ 1) ∧ Q v G)) (hj5 : ∀ (l1 : Int) (l2 : Int) (l3 : Int) (l4 : Nat) (G : gS), (inI l3) → (l4 % 8 ≠ 1) → J 5 [l1, l2, l3] G Q → Tg W0 (j 5) [rf (814), rf (l1), rf (l2), cI (l3), l4] [] G (fun r G => ∃ v, r = cI v ∧ (0 ≤ v ∧ v ≤ 1) ∧ Q v G)) (h : PX4_judge_140 J l1 l2 l3 G Q) : Tg W0 (vX4_judge_140 j) [rf (814), rf (l1), rf (l2), cI (l3), l4] [] G (fun r G => ∃ v, r = cI v ∧ (0 ≤ v ∧ v ≤ 1) ∧ Q v G) := by
  unfold PX4_judge_140 at h
  unfold vX4_judge_140
  refine g_const (v := cI (0)) rfl ?_
  refine g_st (lv' := [_, _, _, _, _]) (is_I _) (Nat.le_of_ble_eq_true rfl) (Or.inr (n1_R _)) rfl ?_
  exact TX4_judge_142 ⟨by omega, by omega⟩ hl4 hj0 hj1 hj2 hj3 hj4 hj5 h
def PX4_judge_134 (J : Nat → List Int → gS → (Int → gS → Prop) → Prop) (l1 : Int) (l2 : Int) (l3 : Int) (l4 : Int) (G : gS) (Q : Int → gS → Prop) : Prop :=
  (inI (l3 + 1) ∧ J 1 [l1, l2, l3 + 1] G Q)
set_option maxRecDepth 20000 in
theorem TX4_judge_134 {j : Nat → rx_K} {J : Nat → List Int → gS → (Int → gS → Prop) → Prop} {l1 : Int} {l2 : Int} {l3 : Int} {l4 : Int} {G : gS} {Q : Int → gS → Prop} (hl3 : inI l3) (hl4 : inI l4) (hj0 : ∀ (l1 : Int) (l2 : Int) (l3 : Int) (l4 : Nat) (G : gS), (inI l3) → (l4 % 8 ≠ 1) → J 0 [l1, l2, l3] G Q → Tg W0 (j 0) [rf (814), rf (l1), rf (l2), cI (l3), l4] [] G (fun r G => ∃ v, r = cI v ∧ (0 ≤ v ∧ v ≤ 1) ∧ Q v G)) (hj1 : ∀ (l1 : Int) (l2 : Int) (l3 : Int) (l4 : Nat) (G : gS), (inI l3) → (l4 % 8 ≠ 1) → J 1 [l1, l2, l3] G Q → Tg W0 (j 1) [rf (814), rf (l1), rf (l2), cI (l3), l4] [] G (fun r G => ∃ v, r = cI v ∧ (0 ≤ v ∧ v ≤ 1) ∧ Q v G)) (hj2 : ∀ (l1 : Int) (l2 : Int) (l3 : Int) (l4 : Nat) (G : gS), (inI l3) → (l4 % 8 ≠ 1) → J 2 [l1, l2, l3] G Q → Tg W0 (j 2) [rf (814), rf (l1), rf (l2), cI (l3), l4] [] G (fun r G => ∃ v, r = cI v ∧ (0 ≤ v ∧ v ≤ 1) ∧ Q v G)) (hj3 : ∀ (l1 : Int) (l2 : Int) (l3 : Int) (l4 : Nat) (G : gS), (inI l3) → (l4 % 8 ≠ 1) → J 3 [l1, l2, l3] G Q → Tg W0 (j 3) [rf (814), rf (l1), rf (l2), cI (l3), l4] [] G (fun r G => ∃ v, r = cI v ∧ (0 ≤ v ∧ v ≤ 1) ∧ Q v G)) (hj4 : ∀ (l1 : Int) (l2 : Int) (l3 : Int) (l4 : Nat) (G : gS), (inI l3) → (l4 % 8 ≠ 1) → J 4 [l1, l2, l3] G Q → Tg W0 (j 4) [rf (814), rf (l1), rf (l2), cI (l3), l4] [] G (fun r G => ∃ v, r = cI v ∧ (0 ≤ v ∧ v ≤ 1) ∧ Q v G)) (hj5 : ∀ (l1 : Int) (l2 : Int) (l3 : Int) (l4 : Nat) (G : gS), (inI l3) → (l4 % 8 ≠ 1) → J 5 [l1, l2, l3] G Q → Tg W0 (j 5) [rf (814), rf (l1), rf (l2), cI (l3), l4] [] G (fun r G => ∃ v, r = cI v ∧ (0 ≤ v ∧ v ≤ 1) ∧ Q v G)) (h : PX4_judge_134 J l1 l2 l3 l4 G Q) : Tg W0 (vX4_judge_134 j) [rf (814), rf (l1), rf (l2), cI (l3), cI (l4)] [] G (fun r G => ∃ v, r = cI v ∧ (0 ≤ v ∧ v ≤ 1) ∧ Q v G) := by
  unfold PX4_judge_134 at h
  unfold vX4_judge_134
  refine g_inc (lv' := [_, _, _, _, _]) rfl (Nat.le_of_ble_eq_true rfl) (Or.inr (n1_R _)) rfl ?_
  obtain ⟨q65, h⟩ := h
  exact hj1 _ _ _ _ _ q65 (n1_I _) h
def PX4_judge_58 (J : Nat → List Int → gS → (Int → gS → Prop) → Prop) (l1 : Int) (l2 : Int) (l3 : Int) (G : gS) (Q : Int → gS → Prop) : Prop :=
  ((G 814 1 = -1 ∨ isO W0 1 (G 814 1)) → (isO W0 1 (G 814 1) ∧ (inI (G (G 814 1) 3) → ((l3 < G (G 814 1) 3 → (inI (G 814 2) → ((G 814 2 = 0 → ((G 814 0 = -1 ∨ isO W0 11 (G 814 0)) → ((G 814 1 = -1 ∨ isO W0 1 (G 814 1)) → (isO W0 1 (G 814 1) ∧ (((G (G 814 1) 2 = -1 ∨ ∃ n, isA W0 4 n (G (G 814 1) 2)) ∧ ∀ v, W0.2 (G 814 1) 2 = some v → G (G 814 1) 2 = v) → (∃ n34, isA W0 4 n34 (G (G 814 1) 2) ∧ ((0 : Int) ≤ l3 ∧ ((l3 : Int) < n34 ∧ (((G (G (G 814 1) 2) l3 = -1 ∨ isO W0 10 (G (G (G 814 1) 2) l3)) ∧ ∀ v, W0.2 (G (G 814 1) 2) l3 = some v → G (G (G 814 1) 2) l3 = v) → (isO W0 10 (G (G (G 814 1) 2) l3) ∧ (inL (G (G (G (G 814 1) 2) l3) 1) → (isO W0 11 (G 814 0) ∧ PX11_find (G 814 0) (G (G (G (G 814 1) 2) l3) 1) G (fun r43 G42 => inI r43 → ((r43 < 0 → PX4_judge_134 J l1 l2 l3 r43 G42 Q) ∧ (¬ (r43 < 0) → ((G42 814 0 = -1 ∨ isO W0 11 (G42 814 0)) → (isO W0 11 (G42 814 0) ∧ PX11_heir (G42 814 0) r43 r43 G42 (fun r49 G48 => (0 ≤ r49 ∧ r49 ≤ 1) → ((r49 = 0 → PX4_judge_134 J l1 l2 l3 r43 G48 Q) ∧ (¬ (r49 = 0) → ((G48 814 1 = -1 ∨ isO W0 1 (G48 814 1)) → (isO W0 1 (G48 814 1) ∧ (((G48 (G48 814 1) 2 = -1 ∨ ∃ n, isA W0 4 n (G48 (G48 814 1) 2)) ∧ ∀ v, W0.2 (G48 814 1) 2 = some v → G48 (G48 814 1) 2 = v) → (∃ n55, isA W0 4 n55 (G48 (G48 814 1) 2) ∧ ((0 : Int) ≤ l3 ∧ ((l3 : Int) < n55 ∧ (((G48 (G48 (G48 814 1) 2) l3 = -1 ∨ isO W0 10 (G48 (G48 (G48 814 1) 2) l3)) ∧ ∀ v, W0.2 (G48 (G48 814 1) 2) l3 = some v → G48 (G48 (G48 814 1) 2) l3 = v) → (isO W0 10 (G48 (G48 (G48 814 1) 2) l3) ∧ (inI (G48 (G48 (G48 (G48 814 1) 2) l3) 2) → PX4_fail 5 (G48 (G48 (G48 (G48 814 1) 2) l3) 2) G48 (fun r63 G62 => (0 ≤ r63 ∧ r63 ≤ 1) → PX4_judge_134 J l1 l2 l3 r43 G62 Q)))))))))))))))))))))))))))))) ∧ (¬ (G 814 2 = 0) → PX4_judge_140 J l1 l2 l3 G Q)))) ∧ (¬ (l3 < G (G 814 1) 3) → PX4_judge_140 J l1 l2 l3 G Q)))))
set_option maxRecDepth 20000 in
theorem TX4_judge_58 {j : Nat → rx_K} {J : Nat → List Int → gS → (Int → gS → Prop) → Prop} {l1 : Int} {l2 : Int} {l3 : Int} {l4 : Nat} {G : gS} {Q : Int → gS → Prop} (hl3 : inI l3) (hl4 : l4 % 8 ≠ 1) (hj0 : ∀ (l1 : Int) (l2 : Int) (l3 : Int) (l4 : Nat) (G : gS), (inI l3) → (l4 % 8 ≠ 1) → J 0 [l1, l2, l3] G Q → Tg W0 (j 0) [rf (814), rf (l1), rf (l2), cI (l3), l4] [] G (fun r G => ∃ v, r = cI v ∧ (0 ≤ v ∧ v ≤ 1) ∧ Q v G)) (hj1 : ∀ (l1 : Int) (l2 : Int) (l3 : Int) (l4 : Nat) (G : gS), (inI l3) → (l4 % 8 ≠ 1) → J 1 [l1, l2, l3] G Q → Tg W0 (j 1) [rf (814), rf (l1), rf (l2), cI (l3), l4] [] G (fun r G => ∃ v, r = cI v ∧ (0 ≤ v ∧ v ≤ 1) ∧ Q v G)) (hj2 : ∀ (l1 : Int) (l2 : Int) (l3 : Int) (l4 : Nat) (G : gS), (inI l3) → (l4 % 8 ≠ 1) → J 2 [l1, l2, l3] G Q → Tg W0 (j 2) [rf (814), rf (l1), rf (l2), cI (l3), l4] [] G (fun r G => ∃ v, r = cI v ∧ (0 ≤ v ∧ v ≤ 1) ∧ Q v G)) (hj3 : ∀ (l1 : Int) (l2 : Int) (l3 : Int) (l4 : Nat) (G : gS), (inI l3) → (l4 % 8 ≠ 1) → J 3 [l1, l2, l3] G Q → Tg W0 (j 3) [rf (814), rf (l1), rf (l2), cI (l3), l4] [] G (fun r G => ∃ v, r = cI v ∧ (0 ≤ v ∧ v ≤ 1) ∧ Q v G)) (hj4 : ∀ (l1 : Int) (l2 : Int) (l3 : Int) (l4 : Nat) (G : gS), (inI l3) → (l4 % 8 ≠ 1) → J 4 [l1, l2, l3] G Q → Tg W0 (j 4) [rf (814), rf (l1), rf (l2), cI (l3), l4] [] G (fun r G => ∃ v, r = cI v ∧ (0 ≤ v ∧ v ≤ 1) ∧ Q v G)) (hj5 : ∀ (l1 : Int) (l2 : Int) (l3 : Int) (l4 : Nat) (G : gS), (inI l3) → (l4 % 8 ≠ 1) → J 5 [l1, l2, l3] G Q → Tg W0 (j 5) [rf (814), rf (l1), rf (l2), cI (l3), l4] [] G (fun r G => ∃ v, r = cI v ∧ (0 ≤ v ∧ v ≤ 1) ∧ Q v G)) (h : PX4_judge_58 J l1 l2 l3 G Q) : Tg W0 (vX4_judge_58 j) [rf (814), rf (l1), rf (l2), cI (l3), l4] [] G (fun r G => ∃ v, r = cI v ∧ (0 ≤ v ∧ v ≤ 1) ∧ Q v G) := by
  unfold PX4_judge_58 at h
  unfold vX4_judge_58
  refine g_ld (v := cI _) rfl (is_I _) ?_
  refine g_ld (v := rf _) rfl (is_R _) ?_
  refine g_getR (kz := 1) (c := 1) oC4 rfl (Nat.le_of_ble_eq_true rfl) rfl (by decide) fun i24 => ?_
  replace h := h i24
  obtain ⟨q25, h⟩ := h
  refine g_getI (kz := 3) q25 rfl (Nat.le_of_ble_eq_true rfl) rfl fun i26 => ?_
  replace h := h i26
  refine g_lt2 hl3 i26 (fun b27 => ?_) (fun b27 => ?_)
  · replace h := h.1 b27
    unfold vX4_judge_69
    refine g_ld (v := rf _) rfl (is_R _) ?_
    refine g_getI (kz := 2) oC4 rfl (Nat.le_of_ble_eq_true rfl) rfl fun i28 => ?_
    replace h := h i28
    refine g_eq1 i28 (fun b29 => ?_) (fun b29 => ?_)
    · replace h := h.1 b29
      unfold vX4_judge_76
      refine g_ld (v := rf _) rfl (is_R _) ?_
      refine g_getR (kz := 0) (c := 11) oC4 rfl (Nat.le_of_ble_eq_true rfl) rfl (by decide) fun i30 => ?_
      replace h := h i30
      refine g_ld (v := rf _) rfl (is_R _) ?_
      refine g_getR (kz := 1) (c := 1) oC4 rfl (Nat.le_of_ble_eq_true rfl) rfl (by decide) fun i31 => ?_
      replace h := h i31
      obtain ⟨q32, h⟩ := h
      refine g_getAF (kz := 2) (c := 4) q32 rfl (Nat.le_of_ble_eq_true rfl) rfl fun i33 => ?_
      replace h := h i33
      refine g_ld (v := cI _) rfl (is_I _) ?_
      obtain ⟨n34, q35, h⟩ := h
      obtain ⟨q36, q37, h⟩ := h
      refine g_aldRF (c := 10) q35 q36 q37 rfl (by decide) fun i38 => ?_
      replace h := h i38
      obtain ⟨q39, h⟩ := h
      refine g_getL (kz := 1) q39 rfl (Nat.le_of_ble_eq_true rfl) rfl fun i40 => ?_
      replace h := h i40
      obtain ⟨q41, h⟩ := h
      refine g_callV (As := [_]) (ci := 11) q41 (fun _ => rfl) ?_
      refine g_go1 (Nat.le_of_ble_eq_true rfl) (Tn_w (TX11_find i40 h) fun _ G42 ⟨r43, e, i44, h⟩ => ?_)
      subst e
      refine ⟨n7_I _, ?_⟩
      replace h := h i44
      refine g_st (lv' := [_, _, _, _, _]) (is_I _) (Nat.le_of_ble_eq_true rfl) (Or.inr (n1_I _)) rfl ?_
      refine g_ld (v := cI _) rfl (is_I _) ?_
      refine g_lt1 i44 (fun b45 => ?_) (fun b45 => ?_)
      · replace h := h.1 b45
        exact TX4_judge_134 hl3 i44 hj0 hj1 hj2 hj3 hj4 hj5 h
      · replace h := h.2 b45
        unfold vX4_judge_102
        refine g_ld (v := rf _) rfl (is_R _) ?_
        refine g_getR (kz := 0) (c := 11) oC4 rfl (Nat.le_of_ble_eq_true rfl) rfl (by decide) fun i46 => ?_
        replace h := h i46
        refine g_ld (v := cI _) rfl (is_I _) ?_
        refine g_ld (v := cI _) rfl (is_I _) ?_
        obtain ⟨q47, h⟩ := h
        refine g_callV (As := [_, _]) (ci := 11) q47 (fun _ => rfl) ?_
        refine g_go1 (Nat.le_of_ble_eq_true rfl) (Tn_w (TX11_heir i44 i44 h) fun _ G48 ⟨r49, e, i50, h⟩ => ?_)
        subst e
        refine ⟨n7_I _, ?_⟩
        replace h := h i50
        refine g_eq1 ⟨by omega, by omega⟩ (fun b51 => ?_) (fun b51 => ?_)
        · replace h := h.1 b51
          exact TX4_judge_134 hl3 i44 hj0 hj1 hj2 hj3 hj4 hj5 h
        · replace h := h.2 b51
          unfold vX4_judge_116
          refine g_ld (v := rf _) rfl (is_R _) ?_
          refine g_const (v := cI (5)) rfl ?_
          refine g_ld (v := rf _) rfl (is_R _) ?_
          refine g_getR (kz := 1) (c := 1) oC4 rfl (Nat.le_of_ble_eq_true rfl) rfl (by decide) fun i52 => ?_
          replace h := h i52
          obtain ⟨q53, h⟩ := h
          refine g_getAF (kz := 2) (c := 4) q53 rfl (Nat.le_of_ble_eq_true rfl) rfl fun i54 => ?_
          replace h := h i54
          refine g_ld (v := cI _) rfl (is_I _) ?_
          obtain ⟨n55, q56, h⟩ := h
          obtain ⟨q57, q58, h⟩ := h
          refine g_aldRF (c := 10) q56 q57 q58 rfl (by decide) fun i59 => ?_
          replace h := h i59
          obtain ⟨q60, h⟩ := h
          refine g_getI (kz := 2) q60 rfl (Nat.le_of_ble_eq_true rfl) rfl fun i61 => ?_
          replace h := h i61
          refine g_callV (As := [_, _]) (ci := 4) oC4 (fun _ => rfl) ?_
          refine g_go1 (Nat.le_of_ble_eq_true rfl) (Tn_w (TX4_fail ⟨by omega, by omega⟩ i61 h) fun _ G62 ⟨r63, e, i64, h⟩ => ?_)
          subst e
          refine ⟨n7_I _, ?_⟩
          replace h := h i64
          refine g_pop (ct_I _) ?_
          exact TX4_judge_134 hl3 i44 hj0 hj1 hj2 hj3 hj4 hj5 h
    · replace h := h.2 b29
      exact TX4_judge_140 hl3 hl4 hj0 hj1 hj2 hj3 hj4 hj5 h
  · replace h := h.2 b27
    exact TX4_judge_140 hl3 hl4 hj0 hj1 hj2 hj3 hj4 hj5 h
def PX4_judge_56 (J : Nat → List Int → gS → (Int → gS → Prop) → Prop) (l1 : Int) (l2 : Int) (l3 : Int) (G : gS) (Q : Int → gS → Prop) : Prop :=
  PX4_judge_58 J l1 l2 0 G Q
set_option maxRecDepth 20000 in
theorem TX4_judge_56 {j : Nat → rx_K} {J : Nat → List Int → gS → (Int → gS → Prop) → Prop} {l1 : Int} {l2 : Int} {l3 : Int} {l4 : Nat} {G : gS} {Q : Int → gS → Prop} (hl3 : inI l3) (hl4 : l4 % 8 ≠ 1) (hj0 : ∀ (l1 : Int) (l2 : Int) (l3 : Int) (l4 : Nat) (G : gS), (inI l3) → (l4 % 8 ≠ 1) → J 0 [l1, l2, l3] G Q → Tg W0 (j 0) [rf (814), rf (l1), rf (l2), cI (l3), l4] [] G (fun r G => ∃ v, r = cI v ∧ (0 ≤ v ∧ v ≤ 1) ∧ Q v G)) (hj1 : ∀ (l1 : Int) (l2 : Int) (l3 : Int) (l4 : Nat) (G : gS), (inI l3) → (l4 % 8 ≠ 1) → J 1 [l1, l2, l3] G Q → Tg W0 (j 1) [rf (814), rf (l1), rf (l2), cI (l3), l4] [] G (fun r G => ∃ v, r = cI v ∧ (0 ≤ v ∧ v ≤ 1) ∧ Q v G)) (hj2 : ∀ (l1 : Int) (l2 : Int) (l3 : Int) (l4 : Nat) (G : gS), (inI l3) → (l4 % 8 ≠ 1) → J 2 [l1, l2, l3] G Q → Tg W0 (j 2) [rf (814), rf (l1), rf (l2), cI (l3), l4] [] G (fun r G => ∃ v, r = cI v ∧ (0 ≤ v ∧ v ≤ 1) ∧ Q v G)) (hj3 : ∀ (l1 : Int) (l2 : Int) (l3 : Int) (l4 : Nat) (G : gS), (inI l3) → (l4 % 8 ≠ 1) → J 3 [l1, l2, l3] G Q → Tg W0 (j 3) [rf (814), rf (l1), rf (l2), cI (l3), l4] [] G (fun r G => ∃ v, r = cI v ∧ (0 ≤ v ∧ v ≤ 1) ∧ Q v G)) (hj4 : ∀ (l1 : Int) (l2 : Int) (l3 : Int) (l4 : Nat) (G : gS), (inI l3) → (l4 % 8 ≠ 1) → J 4 [l1, l2, l3] G Q → Tg W0 (j 4) [rf (814), rf (l1), rf (l2), cI (l3), l4] [] G (fun r G => ∃ v, r = cI v ∧ (0 ≤ v ∧ v ≤ 1) ∧ Q v G)) (hj5 : ∀ (l1 : Int) (l2 : Int) (l3 : Int) (l4 : Nat) (G : gS), (inI l3) → (l4 % 8 ≠ 1) → J 5 [l1, l2, l3] G Q → Tg W0 (j 5) [rf (814), rf (l1), rf (l2), cI (l3), l4] [] G (fun r G => ∃ v, r = cI v ∧ (0 ≤ v ∧ v ≤ 1) ∧ Q v G)) (h : PX4_judge_56 J l1 l2 l3 G Q) : Tg W0 (vX4_judge_56 j) [rf (814), rf (l1), rf (l2), cI (l3), l4] [] G (fun r G => ∃ v, r = cI v ∧ (0 ≤ v ∧ v ≤ 1) ∧ Q v G) := by
  unfold PX4_judge_56 at h
  unfold vX4_judge_56
  refine g_const (v := cI (0)) rfl ?_
  refine g_st (lv' := [_, _, _, _, _]) (is_I _) (Nat.le_of_ble_eq_true rfl) (Or.inr (n1_R _)) rfl ?_
  exact TX4_judge_58 ⟨by omega, by omega⟩ hl4 hj0 hj1 hj2 hj3 hj4 hj5 h
def PX4_judge_17 (J : Nat → List Int → gS → (Int → gS → Prop) → Prop) (l1 : Int) (l2 : Int) (l3 : Int) (G : gS) (Q : Int → gS → Prop) : Prop :=
  ((G 814 1 = -1 ∨ isO W0 1 (G 814 1)) → (isO W0 1 (G 814 1) ∧ (inI (G (G 814 1) 3) → ((l3 < G (G 814 1) 3 → (inI (G 814 2) → ((G 814 2 = 0 → ((G 814 1 = -1 ∨ isO W0 1 (G 814 1)) → (isO W0 1 (G 814 1) ∧ (((G (G 814 1) 2 = -1 ∨ ∃ n, isA W0 4 n (G (G 814 1) 2)) ∧ ∀ v, W0.2 (G 814 1) 2 = some v → G (G 814 1) 2 = v) → (∃ n15, isA W0 4 n15 (G (G 814 1) 2) ∧ ((0 : Int) ≤ l3 ∧ ((l3 : Int) < n15 ∧ (((G (G (G 814 1) 2) l3 = -1 ∨ isO W0 10 (G (G (G 814 1) 2) l3)) ∧ ∀ v, W0.2 (G (G 814 1) 2) l3 = some v → G (G (G 814 1) 2) l3 = v) → PX4_head (G (G (G 814 1) 2) l3) l3 G (fun r21 G20 => (0 ≤ r21 ∧ r21 ≤ 1) → (inI (l3 + 1) ∧ J 0 [l1, l2, l3 + 1] G20 Q)))))))))) ∧ (¬ (G 814 2 = 0) → PX4_judge_56 J l1 l2 l3 G Q)))) ∧ (¬ (l3 < G (G 814 1) 3) → PX4_judge_56 J l1 l2 l3 G Q)))))
set_option maxRecDepth 20000 in
theorem TX4_judge_17 {j : Nat → rx_K} {J : Nat → List Int → gS → (Int → gS → Prop) → Prop} {l1 : Int} {l2 : Int} {l3 : Int} {l4 : Nat} {G : gS} {Q : Int → gS → Prop} (hl3 : inI l3) (hl4 : l4 % 8 ≠ 1) (hj0 : ∀ (l1 : Int) (l2 : Int) (l3 : Int) (l4 : Nat) (G : gS), (inI l3) → (l4 % 8 ≠ 1) → J 0 [l1, l2, l3] G Q → Tg W0 (j 0) [rf (814), rf (l1), rf (l2), cI (l3), l4] [] G (fun r G => ∃ v, r = cI v ∧ (0 ≤ v ∧ v ≤ 1) ∧ Q v G)) (hj1 : ∀ (l1 : Int) (l2 : Int) (l3 : Int) (l4 : Nat) (G : gS), (inI l3) → (l4 % 8 ≠ 1) → J 1 [l1, l2, l3] G Q → Tg W0 (j 1) [rf (814), rf (l1), rf (l2), cI (l3), l4] [] G (fun r G => ∃ v, r = cI v ∧ (0 ≤ v ∧ v ≤ 1) ∧ Q v G)) (hj2 : ∀ (l1 : Int) (l2 : Int) (l3 : Int) (l4 : Nat) (G : gS), (inI l3) → (l4 % 8 ≠ 1) → J 2 [l1, l2, l3] G Q → Tg W0 (j 2) [rf (814), rf (l1), rf (l2), cI (l3), l4] [] G (fun r G => ∃ v, r = cI v ∧ (0 ≤ v ∧ v ≤ 1) ∧ Q v G)) (hj3 : ∀ (l1 : Int) (l2 : Int) (l3 : Int) (l4 : Nat) (G : gS), (inI l3) → (l4 % 8 ≠ 1) → J 3 [l1, l2, l3] G Q → Tg W0 (j 3) [rf (814), rf (l1), rf (l2), cI (l3), l4] [] G (fun r G => ∃ v, r = cI v ∧ (0 ≤ v ∧ v ≤ 1) ∧ Q v G)) (hj4 : ∀ (l1 : Int) (l2 : Int) (l3 : Int) (l4 : Nat) (G : gS), (inI l3) → (l4 % 8 ≠ 1) → J 4 [l1, l2, l3] G Q → Tg W0 (j 4) [rf (814), rf (l1), rf (l2), cI (l3), l4] [] G (fun r G => ∃ v, r = cI v ∧ (0 ≤ v ∧ v ≤ 1) ∧ Q v G)) (hj5 : ∀ (l1 : Int) (l2 : Int) (l3 : Int) (l4 : Nat) (G : gS), (inI l3) → (l4 % 8 ≠ 1) → J 5 [l1, l2, l3] G Q → Tg W0 (j 5) [rf (814), rf (l1), rf (l2), cI (l3), l4] [] G (fun r G => ∃ v, r = cI v ∧ (0 ≤ v ∧ v ≤ 1) ∧ Q v G)) (h : PX4_judge_17 J l1 l2 l3 G Q) : Tg W0 (vX4_judge_17 j) [rf (814), rf (l1), rf (l2), cI (l3), l4] [] G (fun r G => ∃ v, r = cI v ∧ (0 ≤ v ∧ v ≤ 1) ∧ Q v G) := by
  unfold PX4_judge_17 at h
  unfold vX4_judge_17
  refine g_ld (v := cI _) rfl (is_I _) ?_
  refine g_ld (v := rf _) rfl (is_R _) ?_
  refine g_getR (kz := 1) (c := 1) oC4 rfl (Nat.le_of_ble_eq_true rfl) rfl (by decide) fun i6 => ?_
  replace h := h i6
  obtain ⟨q7, h⟩ := h
  refine g_getI (kz := 3) q7 rfl (Nat.le_of_ble_eq_true rfl) rfl fun i8 => ?_
  replace h := h i8
  refine g_lt2 hl3 i8 (fun b9 => ?_) (fun b9 => ?_)
  · replace h := h.1 b9
    unfold vX4_judge_28
    refine g_ld (v := rf _) rfl (is_R _) ?_
    refine g_getI (kz := 2) oC4 rfl (Nat.le_of_ble_eq_true rfl) rfl fun i10 => ?_
    replace h := h i10
    refine g_eq1 i10 (fun b11 => ?_) (fun b11 => ?_)
    · replace h := h.1 b11
      unfold vX4_judge_35
      refine g_ld (v := rf _) rfl (is_R _) ?_
      refine g_ld (v := rf _) rfl (is_R _) ?_
      refine g_getR (kz := 1) (c := 1) oC4 rfl (Nat.le_of_ble_eq_true rfl) rfl (by decide) fun i12 => ?_
      replace h := h i12
      obtain ⟨q13, h⟩ := h
      refine g_getAF (kz := 2) (c := 4) q13 rfl (Nat.le_of_ble_eq_true rfl) rfl fun i14 => ?_
      replace h := h i14
      refine g_ld (v := cI _) rfl (is_I _) ?_
      obtain ⟨n15, q16, h⟩ := h
      obtain ⟨q17, q18, h⟩ := h
      refine g_aldRF (c := 10) q16 q17 q18 rfl (by decide) fun i19 => ?_
      replace h := h i19
      refine g_ld (v := cI _) rfl (is_I _) ?_
      refine g_callV (As := [_, _]) (ci := 4) oC4 (fun _ => rfl) ?_
      refine g_go1 (Nat.le_of_ble_eq_true rfl) (Tn_w (TX4_head hl3 h) fun _ G20 ⟨r21, e, i22, h⟩ => ?_)
      subst e
      refine ⟨n7_I _, ?_⟩
      replace h := h i22
      refine g_pop (ct_I _) ?_
      refine g_inc (lv' := [_, _, _, _, _]) rfl (Nat.le_of_ble_eq_true rfl) (Or.inr (n1_R _)) rfl ?_
      obtain ⟨q23, h⟩ := h
      exact hj0 _ _ _ _ _ q23 hl4 h
    · replace h := h.2 b11
      exact TX4_judge_56 hl3 hl4 hj0 hj1 hj2 hj3 hj4 hj5 h
  · replace h := h.2 b9
    exact TX4_judge_56 hl3 hl4 hj0 hj1 hj2 hj3 hj4 hj5 h
def PX4_judge_0 (J : Nat → List Int → gS → (Int → gS → Prop) → Prop) (a1 : Int) (a2 : Int) (G : gS) (Q : Int → gS → Prop) : Prop :=
  ((a1 = -1 ∨ isO W0 11 (a1)) ∧ (∀ G2 : gS, G2 = uG G 814 0 (a1) → ((a2 = -1 ∨ isO W0 1 (a2)) ∧ (∀ G4 : gS, G4 = uG G2 814 1 (a2) → (∀ G5 : gS, G5 = uG G4 814 2 (0) → PX4_judge_17 J a1 a2 0 G5 Q)))))
set_option maxRecDepth 20000 in
theorem TX4_judge_0 {j : Nat → rx_K} {J : Nat → List Int → gS → (Int → gS → Prop) → Prop} {a1 : Int} {a2 : Int} {G : gS} {Q : Int → gS → Prop}  (hj0 : ∀ (l1 : Int) (l2 : Int) (l3 : Int) (l4 : Nat) (G : gS), (inI l3) → (l4 % 8 ≠ 1) → J 0 [l1, l2, l3] G Q → Tg W0 (j 0) [rf (814), rf (l1), rf (l2), cI (l3), l4] [] G (fun r G => ∃ v, r = cI v ∧ (0 ≤ v ∧ v ≤ 1) ∧ Q v G)) (hj1 : ∀ (l1 : Int) (l2 : Int) (l3 : Int) (l4 : Nat) (G : gS), (inI l3) → (l4 % 8 ≠ 1) → J 1 [l1, l2, l3] G Q → Tg W0 (j 1) [rf (814), rf (l1), rf (l2), cI (l3), l4] [] G (fun r G => ∃ v, r = cI v ∧ (0 ≤ v ∧ v ≤ 1) ∧ Q v G)) (hj2 : ∀ (l1 : Int) (l2 : Int) (l3 : Int) (l4 : Nat) (G : gS), (inI l3) → (l4 % 8 ≠ 1) → J 2 [l1, l2, l3] G Q → Tg W0 (j 2) [rf (814), rf (l1), rf (l2), cI (l3), l4] [] G (fun r G => ∃ v, r = cI v ∧ (0 ≤ v ∧ v ≤ 1) ∧ Q v G)) (hj3 : ∀ (l1 : Int) (l2 : Int) (l3 : Int) (l4 : Nat) (G : gS), (inI l3) → (l4 % 8 ≠ 1) → J 3 [l1, l2, l3] G Q → Tg W0 (j 3) [rf (814), rf (l1), rf (l2), cI (l3), l4] [] G (fun r G => ∃ v, r = cI v ∧ (0 ≤ v ∧ v ≤ 1) ∧ Q v G)) (hj4 : ∀ (l1 : Int) (l2 : Int) (l3 : Int) (l4 : Nat) (G : gS), (inI l3) → (l4 % 8 ≠ 1) → J 4 [l1, l2, l3] G Q → Tg W0 (j 4) [rf (814), rf (l1), rf (l2), cI (l3), l4] [] G (fun r G => ∃ v, r = cI v ∧ (0 ≤ v ∧ v ≤ 1) ∧ Q v G)) (hj5 : ∀ (l1 : Int) (l2 : Int) (l3 : Int) (l4 : Nat) (G : gS), (inI l3) → (l4 % 8 ≠ 1) → J 5 [l1, l2, l3] G Q → Tg W0 (j 5) [rf (814), rf (l1), rf (l2), cI (l3), l4] [] G (fun r G => ∃ v, r = cI v ∧ (0 ≤ v ∧ v ≤ 1) ∧ Q v G)) (h : PX4_judge_0 J a1 a2 G Q) : Tg W0 (vX4_judge_0 j) [rf (814), rf (a1), rf (a2), 7, 7] [] G (fun r G => ∃ v, r = cI v ∧ (0 ≤ v ∧ v ≤ 1) ∧ Q v G) := by
  unfold PX4_judge_0 at h
  unfold vX4_judge_0
  refine g_ld (v := rf _) rfl (is_R _) ?_
  refine g_ld (v := rf _) rfl (is_R _) ?_
  obtain ⟨q1, h⟩ := h
  refine g_putR (kz := 0) (c := 11) oC4 rfl (Nat.le_of_ble_eq_true rfl) rfl (by decide) q1 (zfin_no (c := 814) (j := 0) rfl) ?_
  replace h := h _ rfl
  refine g_ld (v := rf _) rfl (is_R _) ?_
  refine g_ld (v := rf _) rfl (is_R _) ?_
  obtain ⟨q3, h⟩ := h
  refine g_putR (kz := 1) (c := 1) oC4 rfl (Nat.le_of_ble_eq_true rfl) rfl (by decide) q3 (zfin_no (c := 814) (j := 1) rfl) ?_
  replace h := h _ rfl
  refine g_ld (v := rf _) rfl (is_R _) ?_
  refine g_const (v := cI (0)) rfl ?_
  refine g_putI (kz := 2) oC4 rfl (Nat.le_of_ble_eq_true rfl) rfl ⟨by omega, by omega⟩ (zfin_no (c := 814) (j := 2) rfl) ?_
  replace h := h _ rfl
  refine g_const (v := cI (0)) rfl ?_
  refine g_st (lv' := [_, _, _, _, _]) (is_I _) (Nat.le_of_ble_eq_true rfl) (Or.inr (n1_R _)) rfl ?_
  exact TX4_judge_17 ⟨by omega, by omega⟩ (show 7 % 8 ≠ 1 by decide) hj0 hj1 hj2 hj3 hj4 hj5 h
def PX4_judge_J : Nat → Nat → List Int → gS → (Int → gS → Prop) → Prop
  | 0, _, _, _, _ => False
  | f + 1, h, L, G, Q => match h, L with
    | 0, [l1, l2, l3] => PX4_judge_17 (PX4_judge_J f) l1 l2 l3 G Q
    | 1, [l1, l2, l3] => PX4_judge_58 (PX4_judge_J f) l1 l2 l3 G Q
    | 2, [l1, l2, l3] => PX4_judge_142 (PX4_judge_J f) l1 l2 l3 G Q
    | 3, [l1, l2, l3] => PX4_judge_200 (PX4_judge_J f) l1 l2 l3 G Q
    | 4, [l1, l2, l3] => PX4_judge_258 (PX4_judge_J f) l1 l2 l3 G Q
    | 5, [l1, l2, l3] => PX4_judge_329 (PX4_judge_J f) l1 l2 l3 G Q
    | _, _ => False
theorem TX4_judge_J {Q : Int → gS → Prop} : ∀ f N : Nat, f ≤ N → (∀ (l1 : Int) (l2 : Int) (l3 : Int) (l4 : Nat) (G : gS), (inI l3) → (l4 % 8 ≠ 1) → (PX4_judge_J f) 0 [l1, l2, l3] G Q → Tg W0 (rx_J vhX4_judge N 0) [rf (814), rf (l1), rf (l2), cI (l3), l4] [] G (fun r G => ∃ v, r = cI v ∧ (0 ≤ v ∧ v ≤ 1) ∧ Q v G)) ∧ (∀ (l1 : Int) (l2 : Int) (l3 : Int) (l4 : Nat) (G : gS), (inI l3) → (l4 % 8 ≠ 1) → (PX4_judge_J f) 1 [l1, l2, l3] G Q → Tg W0 (rx_J vhX4_judge N 1) [rf (814), rf (l1), rf (l2), cI (l3), l4] [] G (fun r G => ∃ v, r = cI v ∧ (0 ≤ v ∧ v ≤ 1) ∧ Q v G)) ∧ (∀ (l1 : Int) (l2 : Int) (l3 : Int) (l4 : Nat) (G : gS), (inI l3) → (l4 % 8 ≠ 1) → (PX4_judge_J f) 2 [l1, l2, l3] G Q → Tg W0 (rx_J vhX4_judge N 2) [rf (814), rf (l1), rf (l2), cI (l3), l4] [] G (fun r G => ∃ v, r = cI v ∧ (0 ≤ v ∧ v ≤ 1) ∧ Q v G)) ∧ (∀ (l1 : Int) (l2 : Int) (l3 : Int) (l4 : Nat) (G : gS), (inI l3) → (l4 % 8 ≠ 1) → (PX4_judge_J f) 3 [l1, l2, l3] G Q → Tg W0 (rx_J vhX4_judge N 3) [rf (814), rf (l1), rf (l2), cI (l3), l4] [] G (fun r G => ∃ v, r = cI v ∧ (0 ≤ v ∧ v ≤ 1) ∧ Q v G)) ∧ (∀ (l1 : Int) (l2 : Int) (l3 : Int) (l4 : Nat) (G : gS), (inI l3) → (l4 % 8 ≠ 1) → (PX4_judge_J f) 4 [l1, l2, l3] G Q → Tg W0 (rx_J vhX4_judge N 4) [rf (814), rf (l1), rf (l2), cI (l3), l4] [] G (fun r G => ∃ v, r = cI v ∧ (0 ≤ v ∧ v ≤ 1) ∧ Q v G)) ∧ (∀ (l1 : Int) (l2 : Int) (l3 : Int) (l4 : Nat) (G : gS), (inI l3) → (l4 % 8 ≠ 1) → (PX4_judge_J f) 5 [l1, l2, l3] G Q → Tg W0 (rx_J vhX4_judge N 5) [rf (814), rf (l1), rf (l2), cI (l3), l4] [] G (fun r G => ∃ v, r = cI v ∧ (0 ≤ v ∧ v ≤ 1) ∧ Q v G)) := by
  intro f
  induction f with
  | zero => exact fun N _ => ⟨fun _ _ _ _ _ _ _ h => h.elim, fun _ _ _ _ _ _ _ h => h.elim, fun _ _ _ _ _ _ _ h => h.elim, fun _ _ _ _ _ _ _ h => h.elim, fun _ _ _ _ _ _ _ h => h.elim, fun _ _ _ _ _ _ _ h => h.elim⟩
  | succ f ih =>
    intro N hN
    obtain ⟨M, rfl⟩ : ∃ M, N = M + 1 := ⟨N - 1, by omega⟩
    have ih := ih M (by omega)
    exact ⟨fun _ _ _ _ _ hl3 hl4 h => show Tg W0 (vX4_judge_17 (rx_J vhX4_judge M)) _ _ _ _ from TX4_judge_17 hl3 hl4 ih.1 ih.2.1 ih.2.2.1 ih.2.2.2.1 ih.2.2.2.2.1 ih.2.2.2.2.2 h, fun _ _ _ _ _ hl3 hl4 h => show Tg W0 (vX4_judge_58 (rx_J vhX4_judge M)) _ _ _ _ from TX4_judge_58 hl3 hl4 ih.1 ih.2.1 ih.2.2.1 ih.2.2.2.1 ih.2.2.2.2.1 ih.2.2.2.2.2 h, fun _ _ _ _ _ hl3 hl4 h => show Tg W0 (vX4_judge_142 (rx_J vhX4_judge M)) _ _ _ _ from TX4_judge_142 hl3 hl4 ih.1 ih.2.1 ih.2.2.1 ih.2.2.2.1 ih.2.2.2.2.1 ih.2.2.2.2.2 h, fun _ _ _ _ _ hl3 hl4 h => show Tg W0 (vX4_judge_200 (rx_J vhX4_judge M)) _ _ _ _ from TX4_judge_200 hl3 hl4 ih.1 ih.2.1 ih.2.2.1 ih.2.2.2.1 ih.2.2.2.2.1 ih.2.2.2.2.2 h, fun _ _ _ _ _ hl3 hl4 h => show Tg W0 (vX4_judge_258 (rx_J vhX4_judge M)) _ _ _ _ from TX4_judge_258 hl3 hl4 ih.1 ih.2.1 ih.2.2.1 ih.2.2.2.1 ih.2.2.2.2.1 ih.2.2.2.2.2 h, fun _ _ _ _ _ hl3 hl4 h => show Tg W0 (vX4_judge_329 (rx_J vhX4_judge M)) _ _ _ _ from TX4_judge_329 hl3 hl4 ih.1 ih.2.1 ih.2.2.1 ih.2.2.2.1 ih.2.2.2.2.1 ih.2.2.2.2.2 h⟩
def PX4_judge (a1 : Int) (a2 : Int) (G : gS) (Q : Int → gS → Prop) : Prop := ∃ f : Nat, f ≤ 4000000000 ∧ PX4_judge_0 (PX4_judge_J f) a1 a2 G Q
theorem TX4_judge {a1 : Int} {a2 : Int} {G : gS} {Q : Int → gS → Prop}  (h : PX4_judge a1 a2 G Q) : Tn W0 FX4_judge [rf (814), rf (a1), rf (a2)] G (fun r G => ∃ v, r = cI v ∧ (0 ≤ v ∧ v ≤ 1) ∧ Q v G) := by
  obtain ⟨f, hf, h⟩ := h
  have hJ := TX4_judge_J (Q := Q) f 4000000000 hf
  unfold FX4_judge
  refine g_ent (lv' := [rf (814), rf (a1), rf (a2), 7, 7]) (flR (flR (flR fl0))) (Nat.le_of_ble_eq_true rfl) rfl ?_
  exact TX4_judge_0  hJ.1 hJ.2.1 hJ.2.2.1 hJ.2.2.2.1 hJ.2.2.2.2.1 hJ.2.2.2.2.2 h
def PX5_clear_117 (J : Nat → List Int → gS → (Int → gS → Prop) → Prop) (o : Int) (l1 : Int) (l2 : Int) (l3 : Int) (G : gS) (Q : Int → gS → Prop) : Prop :=
  Q 0 G
set_option maxRecDepth 20000 in
theorem TX5_clear_117 {j : Nat → rx_K} {J : Nat → List Int → gS → (Int → gS → Prop) → Prop} {o : Int} {l1 : Int} {l2 : Int} {l3 : Int} {G : gS} {Q : Int → gS → Prop} (hl2 : inI l2) (hl3 : inI l3) (hj0 : ∀ (o : Int) (l1 : Int) (l2 : Int) (l3 : Int) (G : gS), (inI l2) → (inI l3) → J 0 [o, l1, l2, l3] G Q → Tg W0 (j 0) [rf (o), rf (l1), cI (l2), cI (l3)] [] G (fun r G => r = 7 ∧ Q 0 G)) (hj1 : ∀ (o : Int) (l1 : Int) (l2 : Int) (l3 : Int) (G : gS), (inI l2) → (inI l3) → J 1 [o, l1, l2, l3] G Q → Tg W0 (j 1) [rf (o), rf (l1), cI (l2), cI (l3)] [] G (fun r G => r = 7 ∧ Q 0 G)) (h : PX5_clear_117 J o l1 l2 l3 G Q) : Tg W0 (vX5_clear_117 j) [rf (o), rf (l1), cI (l2), cI (l3)] [] G (fun r G => r = 7 ∧ Q 0 G) := by
  unfold PX5_clear_117 at h
  unfold vX5_clear_117
  exact g_ret0 ⟨rfl, h⟩
def PX5_clear_90 (J : Nat → List Int → gS → (Int → gS → Prop) → Prop) (o : Int) (l1 : Int) (l2 : Int) (l3 : Int) (G : gS) (Q : Int → gS → Prop) : Prop :=
  ((l3 < l2 → (isO W0 5 (o) ∧ (((G o 18 = -1 ∨ ∃ n, isA W0 0 n (G o 18)) ∧ ∀ v, W0.2 o 18 = some v → G o 18 = v) → (∃ n39, isA W0 0 n39 (G o 18) ∧ (inI (n39) ∧ ((l3 < n39 → (((G o 18 = -1 ∨ ∃ n, isA W0 0 n (G o 18)) ∧ ∀ v, W0.2 o 18 = some v → G o 18 = v) → (∃ n44, isA W0 0 n44 (G o 18) ∧ ((0 : Int) ≤ l3 ∧ ((l3 : Int) < n44 ∧ (∀ G48 : gS, G48 = uG G (G o 18) l3 (0) → (inI (l3 + 1) ∧ J 1 [o, l1, l2, l3 + 1] G48 Q))))))) ∧ (¬ (l3 < n39) → PX5_clear_117 J o l1 l2 l3 G Q))))))) ∧ (¬ (l3 < l2) → PX5_clear_117 J o l1 l2 l3 G Q))
set_option maxRecDepth 20000 in
theorem TX5_clear_90 {j : Nat → rx_K} {J : Nat → List Int → gS → (Int → gS → Prop) → Prop} {o : Int} {l1 : Int} {l2 : Int} {l3 : Int} {G : gS} {Q : Int → gS → Prop} (hl2 : inI l2) (hl3 : inI l3) (hj0 : ∀ (o : Int) (l1 : Int) (l2 : Int) (l3 : Int) (G : gS), (inI l2) → (inI l3) → J 0 [o, l1, l2, l3] G Q → Tg W0 (j 0) [rf (o), rf (l1), cI (l2), cI (l3)] [] G (fun r G => r = 7 ∧ Q 0 G)) (hj1 : ∀ (o : Int) (l1 : Int) (l2 : Int) (l3 : Int) (G : gS), (inI l2) → (inI l3) → J 1 [o, l1, l2, l3] G Q → Tg W0 (j 1) [rf (o), rf (l1), cI (l2), cI (l3)] [] G (fun r G => r = 7 ∧ Q 0 G)) (h : PX5_clear_90 J o l1 l2 l3 G Q) : Tg W0 (vX5_clear_90 j) [rf (o), rf (l1), cI (l2), cI (l3)] [] G (fun r G => r = 7 ∧ Q 0 G) := by
  unfold PX5_clear_90 at h
  unfold vX5_clear_90
  refine g_ld (v := cI _) rfl (is_I _) ?_
  refine g_ld (v := cI _) rfl (is_I _) ?_
  refine g_lt2 hl3 hl2 (fun b36 => ?_) (fun b36 => ?_)
  · replace h := h.1 b36
    unfold vX5_clear_95
    refine g_ld (v := cI _) rfl (is_I _) ?_
    refine g_ld (v := rf _) rfl (is_R _) ?_
    obtain ⟨q37, h⟩ := h
    refine g_getAF (kz := 18) (c := 0) q37 rfl (Nat.le_of_ble_eq_true rfl) rfl fun i38 => ?_
    replace h := h i38
    obtain ⟨n39, q40, h⟩ := h
    refine g_alen q40 ?_
    obtain ⟨q41, h⟩ := h
    refine g_lt2 hl3 q41 (fun b42 => ?_) (fun b42 => ?_)
    · replace h := h.1 b42
      unfold vX5_clear_104
      refine g_ld (v := rf _) rfl (is_R _) ?_
      refine g_getAF (kz := 18) (c := 0) q37 rfl (Nat.le_of_ble_eq_true rfl) rfl fun i43 => ?_
      replace h := h i43
      refine g_ld (v := cI _) rfl (is_I _) ?_
      refine g_const (v := cI (0)) rfl ?_
      obtain ⟨n44, q45, h⟩ := h
      obtain ⟨q46, q47, h⟩ := h
      refine g_astI q45 q46 q47 ⟨by omega, by omega⟩ (nfI q45) ?_
      replace h := h _ rfl
      refine g_inc (lv' := [_, _, _, _]) rfl (Nat.le_of_ble_eq_true rfl) (Or.inr (n1_I _)) rfl ?_
      obtain ⟨q49, h⟩ := h
      exact hj1 _ _ _ _ _ hl2 q49 h
    · replace h := h.2 b42
      exact TX5_clear_117 hl2 hl3 hj0 hj1 h
  · replace h := h.2 b36
    exact TX5_clear_117 hl2 hl3 hj0 hj1 h
def PX5_clear_88 (J : Nat → List Int → gS → (Int → gS → Prop) → Prop) (o : Int) (l1 : Int) (l2 : Int) (l3 : Int) (G : gS) (Q : Int → gS → Prop) : Prop :=
  PX5_clear_90 J o l1 l2 0 G Q
set_option maxRecDepth 20000 in
theorem TX5_clear_88 {j : Nat → rx_K} {J : Nat → List Int → gS → (Int → gS → Prop) → Prop} {o : Int} {l1 : Int} {l2 : Int} {l3 : Int} {G : gS} {Q : Int → gS → Prop} (hl2 : inI l2) (hl3 : inI l3) (hj0 : ∀ (o : Int) (l1 : Int) (l2 : Int) (l3 : Int) (G : gS), (inI l2) → (inI l3) → J 0 [o, l1, l2, l3] G Q → Tg W0 (j 0) [rf (o), rf (l1), cI (l2), cI (l3)] [] G (fun r G => r = 7 ∧ Q 0 G)) (hj1 : ∀ (o : Int) (l1 : Int) (l2 : Int) (l3 : Int) (G : gS), (inI l2) → (inI l3) → J 1 [o, l1, l2, l3] G Q → Tg W0 (j 1) [rf (o), rf (l1), cI (l2), cI (l3)] [] G (fun r G => r = 7 ∧ Q 0 G)) (h : PX5_clear_88 J o l1 l2 l3 G Q) : Tg W0 (vX5_clear_88 j) [rf (o), rf (l1), cI (l2), cI (l3)] [] G (fun r G => r = 7 ∧ Q 0 G) := by
  unfold PX5_clear_88 at h
  unfold vX5_clear_88
  refine g_const (v := cI (0)) rfl ?_
  refine g_st (lv' := [_, _, _, _]) (is_I _) (Nat.le_of_ble_eq_true rfl) (Or.inr (n1_I _)) rfl ?_
  exact TX5_clear_90 hl2 ⟨by omega, by omega⟩ hj0 hj1 h
def PX5_clear_41 (J : Nat → List Int → gS → (Int → gS → Prop) → Prop) (o : Int) (l1 : Int) (l2 : Int) (l3 : Int) (G : gS) (Q : Int → gS → Prop) : Prop :=
  (isO W0 5 (o) ∧ ((G o 0 = -1 ∨ isO W0 11 (G o 0)) → (isO W0 11 (G o 0) ∧ (inI (G (G o 0) 2) → ((l3 < G (G o 0) 2 → (((G o 18 = -1 ∨ ∃ n, isA W0 0 n (G o 18)) ∧ ∀ v, W0.2 o 18 = some v → G o 18 = v) → (∃ n20, isA W0 0 n20 (G o 18) ∧ (inI (n20) ∧ ((0 < n20 → ((0 : Int) ≤ l3 ∧ ((l3 : Int) < 65 ∧ (∀ G26 : gS, G26 = uG G (o + 10) l3 (l2) → ((G26 o 0 = -1 ∨ isO W0 11 (G26 o 0)) → (isO W0 11 (G26 o 0) ∧ ((0 : Int) ≤ l3 ∧ ((l3 : Int) < 64 ∧ (((G26 ((G26 o 0) + 1) l3 = -1 ∨ isO W0 10 (G26 ((G26 o 0) + 1) l3)) ∧ ∀ v, W0.2 ((G26 o 0) + 1) l3 = some v → G26 ((G26 o 0) + 1) l3 = v) → (isO W0 10 (G26 ((G26 o 0) + 1) l3) ∧ (inI (G26 (G26 ((G26 o 0) + 1) l3) 17) → (inI (l2 + (G26 (G26 ((G26 o 0) + 1) l3) 17)) ∧ (inI (l3 + 1) ∧ J 0 [o, l1, l2 + (G26 (G26 ((G26 o 0) + 1) l3) 17), l3 + 1] G26 Q))))))))))))) ∧ (¬ (0 < n20) → PX5_clear_88 J o l1 l2 l3 G Q)))))) ∧ (¬ (l3 < G (G o 0) 2) → PX5_clear_88 J o l1 l2 l3 G Q))))))
set_option maxRecDepth 20000 in
theorem TX5_clear_41 {j : Nat → rx_K} {J : Nat → List Int → gS → (Int → gS → Prop) → Prop} {o : Int} {l1 : Int} {l2 : Int} {l3 : Int} {G : gS} {Q : Int → gS → Prop} (hl2 : inI l2) (hl3 : inI l3) (hj0 : ∀ (o : Int) (l1 : Int) (l2 : Int) (l3 : Int) (G : gS), (inI l2) → (inI l3) → J 0 [o, l1, l2, l3] G Q → Tg W0 (j 0) [rf (o), rf (l1), cI (l2), cI (l3)] [] G (fun r G => r = 7 ∧ Q 0 G)) (hj1 : ∀ (o : Int) (l1 : Int) (l2 : Int) (l3 : Int) (G : gS), (inI l2) → (inI l3) → J 1 [o, l1, l2, l3] G Q → Tg W0 (j 1) [rf (o), rf (l1), cI (l2), cI (l3)] [] G (fun r G => r = 7 ∧ Q 0 G)) (h : PX5_clear_41 J o l1 l2 l3 G Q) : Tg W0 (vX5_clear_41 j) [rf (o), rf (l1), cI (l2), cI (l3)] [] G (fun r G => r = 7 ∧ Q 0 G) := by
  unfold PX5_clear_41 at h
  unfold vX5_clear_41
  refine g_ld (v := cI _) rfl (is_I _) ?_
  refine g_ld (v := rf _) rfl (is_R _) ?_
  obtain ⟨q14, h⟩ := h
  refine g_getR (kz := 0) (c := 11) q14 rfl (Nat.le_of_ble_eq_true rfl) rfl (by decide) fun i15 => ?_
  replace h := h i15
  obtain ⟨q16, h⟩ := h
  refine g_getI (kz := 2) q16 rfl (Nat.le_of_ble_eq_true rfl) rfl fun i17 => ?_
  replace h := h i17
  refine g_lt2 hl3 i17 (fun b18 => ?_) (fun b18 => ?_)
  · replace h := h.1 b18
    unfold vX5_clear_52
    refine g_ld (v := rf _) rfl (is_R _) ?_
    refine g_getAF (kz := 18) (c := 0) q14 rfl (Nat.le_of_ble_eq_true rfl) rfl fun i19 => ?_
    replace h := h i19
    obtain ⟨n20, q21, h⟩ := h
    refine g_alen q21 ?_
    obtain ⟨q22, h⟩ := h
    refine g_gt1 q22 (fun b23 => ?_) (fun b23 => ?_)
    · replace h := h.1 b23
      unfold vX5_clear_60
      refine g_ld (v := rf _) rfl (is_R _) ?_
      refine g_getF q14 (ff5_17 q14).1 rfl (Nat.le_of_ble_eq_true rfl) (Nat.le_of_ble_eq_true rfl) ?_
      refine g_ld (v := cI _) rfl (is_I _) ?_
      refine g_ld (v := cI _) rfl (is_I _) ?_
      obtain ⟨q24, q25, h⟩ := h
      refine g_astI (ff5_17 q14).2 q24 q25 hl2 (nfI (ff5_17 q14).2) ?_
      replace h := h _ rfl
      refine g_ld (v := cI _) rfl (is_I _) ?_
      refine g_ld (v := rf _) rfl (is_R _) ?_
      refine g_getR (kz := 0) (c := 11) q14 rfl (Nat.le_of_ble_eq_true rfl) rfl (by decide) fun i27 => ?_
      replace h := h i27
      obtain ⟨q28, h⟩ := h
      refine g_getF q28 (ff11_1 q28).1 rfl (Nat.le_of_ble_eq_true rfl) (Nat.le_of_ble_eq_true rfl) ?_
      refine g_ld (v := cI _) rfl (is_I _) ?_
      obtain ⟨q29, q30, h⟩ := h
      refine g_aldRF (c := 10) (ff11_1 q28).2 q29 q30 rfl (by decide) fun i31 => ?_
      replace h := h i31
      obtain ⟨q32, h⟩ := h
      refine g_getI (kz := 17) q32 rfl (Nat.le_of_ble_eq_true rfl) rfl fun i33 => ?_
      replace h := h i33
      refine g_add ?_
      refine g_st (lv' := [_, _, _, _]) (is_I _) (Nat.le_of_ble_eq_true rfl) (Or.inr (n1_R _)) rfl ?_
      obtain ⟨q34, h⟩ := h
      refine g_inc (lv' := [_, _, _, _]) rfl (Nat.le_of_ble_eq_true rfl) (Or.inr (n1_I _)) rfl ?_
      obtain ⟨q35, h⟩ := h
      exact hj0 _ _ _ _ _ q34 q35 h
    · replace h := h.2 b23
      exact TX5_clear_88 hl2 hl3 hj0 hj1 h
  · replace h := h.2 b18
    exact TX5_clear_88 hl2 hl3 hj0 hj1 h
def PX5_clear_0 (J : Nat → List Int → gS → (Int → gS → Prop) → Prop) (o : Int) (a1 : Int) (G : gS) (Q : Int → gS → Prop) : Prop :=
  (isO W0 5 (o) ∧ ((a1 = -1 ∨ isO W0 11 (a1)) ∧ (∀ G3 : gS, G3 = uG G o 0 (a1) → PJ7_fill_53178 (o + 1) 0 G3 (fun _ G4 => ((0 : Int) ≤ 0 ∧ ((0 : Int) < 64 ∧ (∀ G8 : gS, G8 = uG G4 (o + 1) 0 (4) → ((0 : Int) ≤ 1 ∧ ((1 : Int) < 64 ∧ (∀ G11 : gS, G11 = uG G8 (o + 1) 1 (4) → (∀ G12 : gS, G12 = uG G11 o 4 (0) → (∀ G13 : gS, G13 = uG G12 o 6 (0) → PX5_clear_41 J o a1 0 0 G13 Q))))))))))))
set_option maxRecDepth 20000 in
theorem TX5_clear_0 {j : Nat → rx_K} {J : Nat → List Int → gS → (Int → gS → Prop) → Prop} {o : Int} {a1 : Int} {G : gS} {Q : Int → gS → Prop}  (hj0 : ∀ (o : Int) (l1 : Int) (l2 : Int) (l3 : Int) (G : gS), (inI l2) → (inI l3) → J 0 [o, l1, l2, l3] G Q → Tg W0 (j 0) [rf (o), rf (l1), cI (l2), cI (l3)] [] G (fun r G => r = 7 ∧ Q 0 G)) (hj1 : ∀ (o : Int) (l1 : Int) (l2 : Int) (l3 : Int) (G : gS), (inI l2) → (inI l3) → J 1 [o, l1, l2, l3] G Q → Tg W0 (j 1) [rf (o), rf (l1), cI (l2), cI (l3)] [] G (fun r G => r = 7 ∧ Q 0 G)) (h : PX5_clear_0 J o a1 G Q) : Tg W0 (vX5_clear_0 j) [rf (o), rf (a1), 7, 7] [] G (fun r G => r = 7 ∧ Q 0 G) := by
  unfold PX5_clear_0 at h
  unfold vX5_clear_0
  refine g_ld (v := rf _) rfl (is_R _) ?_
  refine g_ld (v := rf _) rfl (is_R _) ?_
  obtain ⟨q1, h⟩ := h
  obtain ⟨q2, h⟩ := h
  refine g_putR (kz := 0) (c := 11) q1 rfl (Nat.le_of_ble_eq_true rfl) rfl (by decide) q2 (nf5_0 q1) ?_
  replace h := h _ rfl
  refine g_ld (v := rf _) rfl (is_R _) ?_
  refine g_getF q1 (ff5_1 q1).1 rfl (Nat.le_of_ble_eq_true rfl) (Nat.le_of_ble_eq_true rfl) ?_
  refine g_const (v := cI (0)) rfl ?_
  refine g_callS (As := [_, _]) (fun _ => rfl) ?_
  refine g_go0 (Nat.le_of_ble_eq_true rfl) (Tn_w (TJ7_fill_53178 ⟨by omega, by omega⟩ h) fun _ G4 ⟨e, h⟩ => ⟨e, ?_⟩)
  refine g_ld (v := rf _) rfl (is_R _) ?_
  refine g_getF q1 (ff5_1 q1).1 rfl (Nat.le_of_ble_eq_true rfl) (Nat.le_of_ble_eq_true rfl) ?_
  refine g_const (v := cI (0)) rfl ?_
  refine g_const (v := cI (4)) rfl ?_
  obtain ⟨q6, q7, h⟩ := h
  refine g_astI (ff5_1 q1).2 q6 q7 ⟨by omega, by omega⟩ (nfI (ff5_1 q1).2) ?_
  replace h := h _ rfl
  refine g_ld (v := rf _) rfl (is_R _) ?_
  refine g_getF q1 (ff5_1 q1).1 rfl (Nat.le_of_ble_eq_true rfl) (Nat.le_of_ble_eq_true rfl) ?_
  refine g_const (v := cI (1)) rfl ?_
  refine g_const (v := cI (4)) rfl ?_
  obtain ⟨q9, q10, h⟩ := h
  refine g_astI (ff5_1 q1).2 q9 q10 ⟨by omega, by omega⟩ (nfI (ff5_1 q1).2) ?_
  replace h := h _ rfl
  refine g_ld (v := rf _) rfl (is_R _) ?_
  refine g_const (v := cI (0)) rfl ?_
  refine g_putI (kz := 4) q1 rfl (Nat.le_of_ble_eq_true rfl) rfl ⟨by omega, by omega⟩ (nf5_4 q1) ?_
  replace h := h _ rfl
  refine g_ld (v := rf _) rfl (is_R _) ?_
  refine g_const (v := cI (0)) rfl ?_
  refine g_putI (kz := 6) q1 rfl (Nat.le_of_ble_eq_true rfl) rfl ⟨by omega, by omega⟩ (nf5_6 q1) ?_
  replace h := h _ rfl
  refine g_const (v := cI (0)) rfl ?_
  unfold vX5_clear_38
  refine g_st (lv' := [_, _, _, _]) (is_I _) (Nat.le_of_ble_eq_true rfl) (Or.inr (n1_R _)) rfl ?_
  refine g_const (v := cI (0)) rfl ?_
  refine g_st (lv' := [_, _, _, _]) (is_I _) (Nat.le_of_ble_eq_true rfl) (Or.inr (n1_I _)) rfl ?_
  exact TX5_clear_41 ⟨by omega, by omega⟩ ⟨by omega, by omega⟩ hj0 hj1 h
def PX5_clear_J : Nat → Nat → List Int → gS → (Int → gS → Prop) → Prop
  | 0, _, _, _, _ => False
  | f + 1, h, L, G, Q => match h, L with
    | 0, [o, l1, l2, l3] => PX5_clear_41 (PX5_clear_J f) o l1 l2 l3 G Q
    | 1, [o, l1, l2, l3] => PX5_clear_90 (PX5_clear_J f) o l1 l2 l3 G Q
    | _, _ => False
theorem TX5_clear_J {Q : Int → gS → Prop} : ∀ f N : Nat, f ≤ N → (∀ (o : Int) (l1 : Int) (l2 : Int) (l3 : Int) (G : gS), (inI l2) → (inI l3) → (PX5_clear_J f) 0 [o, l1, l2, l3] G Q → Tg W0 (rx_J vhX5_clear N 0) [rf (o), rf (l1), cI (l2), cI (l3)] [] G (fun r G => r = 7 ∧ Q 0 G)) ∧ (∀ (o : Int) (l1 : Int) (l2 : Int) (l3 : Int) (G : gS), (inI l2) → (inI l3) → (PX5_clear_J f) 1 [o, l1, l2, l3] G Q → Tg W0 (rx_J vhX5_clear N 1) [rf (o), rf (l1), cI (l2), cI (l3)] [] G (fun r G => r = 7 ∧ Q 0 G)) := by
  intro f
  induction f with
  | zero => exact fun N _ => ⟨fun _ _ _ _ _ _ _ h => h.elim, fun _ _ _ _ _ _ _ h => h.elim⟩
  | succ f ih =>
    intro N hN
    obtain ⟨M, rfl⟩ : ∃ M, N = M + 1 := ⟨N - 1, by omega⟩
    have ih := ih M (by omega)
    exact ⟨fun _ _ _ _ _ hl2 hl3 h => show Tg W0 (vX5_clear_41 (rx_J vhX5_clear M)) _ _ _ _ from TX5_clear_41 hl2 hl3 ih.1 ih.2 h, fun _ _ _ _ _ hl2 hl3 h => show Tg W0 (vX5_clear_90 (rx_J vhX5_clear M)) _ _ _ _ from TX5_clear_90 hl2 hl3 ih.1 ih.2 h⟩
def PX5_clear (o : Int) (a1 : Int) (G : gS) (Q : Int → gS → Prop) : Prop := ∃ f : Nat, f ≤ 4000000000 ∧ PX5_clear_0 (PX5_clear_J f) o a1 G Q
theorem TX5_clear {o : Int} {a1 : Int} {G : gS} {Q : Int → gS → Prop}  (h : PX5_clear o a1 G Q) : Tn W0 FX5_clear [rf (o), rf (a1)] G (fun r G => r = 7 ∧ Q 0 G) := by
  obtain ⟨f, hf, h⟩ := h
  have hJ := TX5_clear_J (Q := Q) f 4000000000 hf
  unfold FX5_clear
  refine g_ent (lv' := [rf (o), rf (a1), 7, 7]) (flR (flR fl0)) (Nat.le_of_ble_eq_true rfl) rfl ?_
  exact TX5_clear_0  hJ.1 hJ.2 h
def PX6_clear_0 (a1 : Int) (G : gS) (Q : Int → gS → Prop) : Prop :=
  ((a1 = -1 ∨ isO W0 11 (a1)) ∧ (∀ G2 : gS, G2 = uG G 938 0 (a1) → (isO W0 5 (939) ∧ PX5_clear 939 a1 G2 (fun _ G4 => (∀ G6 : gS, G6 = uG G4 938 10 (0) → (∀ G7 : gS, G7 = uG G6 938 12 (0) → PJ7_fill_53178 983 0 G7 (fun _ G8 => Q 0 G8)))))))
set_option maxRecDepth 20000 in
theorem TX6_clear_0 {a1 : Int} {G : gS} {Q : Int → gS → Prop}  (h : PX6_clear_0 a1 G Q) : Tg W0 vX6_clear_0 [rf (938), rf (a1)] [] G (fun r G => r = 7 ∧ Q 0 G) := by
  unfold PX6_clear_0 at h
  unfold vX6_clear_0
  refine g_ld (v := rf _) rfl (is_R _) ?_
  refine g_ld (v := rf _) rfl (is_R _) ?_
  obtain ⟨q1, h⟩ := h
  refine g_putR (kz := 0) (c := 11) oC6 rfl (Nat.le_of_ble_eq_true rfl) rfl (by decide) q1 (zfin_no (c := 938) (j := 0) rfl) ?_
  replace h := h _ rfl
  refine g_ld (v := rf _) rfl (is_R _) ?_
  refine g_getF (v := 939) oC6 (hC6_1) rfl (Nat.le_of_ble_eq_true rfl) (Nat.le_of_ble_eq_true rfl) ?_
  refine g_ld (v := rf _) rfl (is_R _) ?_
  obtain ⟨q3, h⟩ := h
  refine g_callV (As := [_]) (ci := 5) q3 (fun _ => rfl) ?_
  refine g_go0 (Nat.le_of_ble_eq_true rfl) (Tn_w (TX5_clear  h) fun _ G4 ⟨e, h⟩ => ⟨e, ?_⟩)
  refine g_ld (v := rf _) rfl (is_R _) ?_
  refine g_const (v := cI (0)) rfl ?_
  refine g_putI (kz := 10) oC6 rfl (Nat.le_of_ble_eq_true rfl) rfl ⟨by omega, by omega⟩ (zfin_no (c := 938) (j := 10) rfl) ?_
  replace h := h _ rfl
  refine g_ld (v := rf _) rfl (is_R _) ?_
  refine g_const (v := cI (0)) rfl ?_
  refine g_putI (kz := 12) oC6 rfl (Nat.le_of_ble_eq_true rfl) rfl ⟨by omega, by omega⟩ (zfin_no (c := 938) (j := 12) rfl) ?_
  replace h := h _ rfl
  refine g_ld (v := rf _) rfl (is_R _) ?_
  refine g_getF (v := 983) oC6 (hC6_13) rfl (Nat.le_of_ble_eq_true rfl) (Nat.le_of_ble_eq_true rfl) ?_
  refine g_const (v := cI (0)) rfl ?_
  refine g_callS (As := [_, _]) (fun _ => rfl) ?_
  refine g_go0 (Nat.le_of_ble_eq_true rfl) (Tn_w (TJ7_fill_53178 ⟨by omega, by omega⟩ h) fun _ G8 ⟨e, h⟩ => ⟨e, ?_⟩)
  exact g_ret0 ⟨rfl, h⟩
abbrev PX6_clear (a1 : Int) (G : gS) (Q : Int → gS → Prop) : Prop := PX6_clear_0 a1 G Q
theorem TX6_clear {a1 : Int} {G : gS} {Q : Int → gS → Prop}  (h : PX6_clear a1 G Q) : Tn W0 FX6_clear [rf (938), rf (a1)] G (fun r G => r = 7 ∧ Q 0 G) := by
  unfold FX6_clear
  refine g_ent (lv' := [rf (938), rf (a1)]) (flR (flR fl0)) (Nat.le_of_ble_eq_true rfl) rfl ?_
  exact TX6_clear_0  h
def PX9_readHead_240 (l1 : Int) (l2 : Int) (l3 : Int) (l4 : Int) (s0 : Int) (G : gS) (Q : Int → gS → Prop) : Prop :=
  Q (s0) G
set_option maxRecDepth 20000 in
theorem TX9_readHead_240 {l1 : Int} {l2 : Int} {l3 : Int} {l4 : Int} {s0 : Int} {G : gS} {Q : Int → gS → Prop} (hl1 : inI l1) (hl2 : inI l2) (hl3 : inI l3) (h : PX9_readHead_240 l1 l2 l3 l4 s0 G Q) : Tg W0 vX9_readHead_240 [rf (7), cI (l1), cI (l2), cI (l3), rf (l4)] [rf (s0)] G (fun r G => ∃ v, r = rf v ∧ Q v G) := by
  unfold PX9_readHead_240 at h
  unfold vX9_readHead_240
  exact g_ret1 (is_R _) ⟨_, rfl, h⟩
def PX9_readHead_239 (l1 : Int) (l2 : Int) (l3 : Int) (l4 : Int) (G : gS) (Q : Int → gS → Prop) : Prop :=
  PX9_readHead_240 l1 l2 l3 l4 (-1) G Q
set_option maxRecDepth 20000 in
theorem TX9_readHead_239 {l1 : Int} {l2 : Int} {l3 : Int} {l4 : Int} {G : gS} {Q : Int → gS → Prop} (hl1 : inI l1) (hl2 : inI l2) (hl3 : inI l3) (h : PX9_readHead_239 l1 l2 l3 l4 G Q) : Tg W0 vX9_readHead_239 [rf (7), cI (l1), cI (l2), cI (l3), rf (l4)] [] G (fun r G => ∃ v, r = rf v ∧ Q v G) := by
  unfold PX9_readHead_239 at h
  unfold vX9_readHead_239
  refine g_const (v := rf (-1)) rfl ?_
  exact TX9_readHead_240 hl1 hl2 hl3 h
def PX9_readHead_182 (l1 : Int) (l2 : Int) (l3 : Int) (l4 : Int) (s0 : Int) (s1 : Int) (G : gS) (Q : Int → gS → Prop) : Prop :=
  (isO W0 10 (s0) ∧ ((0 ≤ s1 ∧ s1 ≤ 1) ∧ (∀ G64 : gS, G64 = uG G s0 6 (s1) → (inI (G64 7 8) → ((0 : Int) ≤ G64 7 8 ∧ ((G64 7 8 : Int) < 704 ∧ (inL (G64 12 (G64 7 8)) → (isO W0 10 (l4) ∧ (∀ G70 : gS, G70 = uG G64 l4 1 (G64 12 (G64 7 8)) → (inI (G70 7 8) → (∀ G72 : gS, G72 = uG G70 l4 2 (G70 7 8) → PX9_take G72 (fun r74 G73 => (0 ≤ r74 ∧ r74 ≤ 1) → ((r74 = 0 → PX9_readHead_239 l1 l2 l3 l4 G73 Q) ∧ (¬ (r74 = 0) → PX9_readParents l4 G73 (fun r78 G77 => (0 ≤ r78 ∧ r78 ≤ 1) → ((r78 = 0 → PX9_readHead_239 l1 l2 l3 l4 G77 Q) ∧ (¬ (r78 = 0) → PX9_need 223 G77 (fun r82 G81 => (0 ≤ r82 ∧ r82 ≤ 1) → ((r82 = 0 → PX9_readHead_239 l1 l2 l3 l4 G81 Q) ∧ (¬ (r82 = 0) → PX9_readHead_240 l1 l2 l3 l4 l4 G81 Q))))))))))))))))))))
set_option maxRecDepth 20000 in
theorem TX9_readHead_182 {l1 : Int} {l2 : Int} {l3 : Int} {l4 : Int} {s0 : Int} {s1 : Int} {G : gS} {Q : Int → gS → Prop} (hl1 : inI l1) (hl2 : inI l2) (hl3 : inI l3) (hs1 : inI s1) (h : PX9_readHead_182 l1 l2 l3 l4 s0 s1 G Q) : Tg W0 vX9_readHead_182 [rf (7), cI (l1), cI (l2), cI (l3), rf (l4)] [cI (s1), rf (s0)] G (fun r G => ∃ v, r = rf v ∧ Q v G) := by
  unfold PX9_readHead_182 at h
  unfold vX9_readHead_182
  obtain ⟨q62, h⟩ := h
  obtain ⟨q63, h⟩ := h
  refine g_putZ (kz := 6) q62 rfl (Nat.le_of_ble_eq_true rfl) rfl q63 (nf10_6 q62) ?_
  replace h := h _ rfl
  refine g_ld (v := rf _) rfl (is_R _) ?_
  refine g_ld (v := rf _) rfl (is_R _) ?_
  refine g_getF (v := 12) oC9 (hC9_4) rfl (Nat.le_of_ble_eq_true rfl) (Nat.le_of_ble_eq_true rfl) ?_
  refine g_ld (v := rf _) rfl (is_R _) ?_
  refine g_getI (kz := 8) oC9 rfl (Nat.le_of_ble_eq_true rfl) rfl fun i65 => ?_
  replace h := h i65
  obtain ⟨q66, q67, h⟩ := h
  refine g_aldL aC12 q66 q67 rfl fun i68 => ?_
  replace h := h i68
  obtain ⟨q69, h⟩ := h
  refine g_putL (kz := 1) q69 rfl (Nat.le_of_ble_eq_true rfl) rfl i68 (nf10_1 q69) ?_
  replace h := h _ rfl
  refine g_ld (v := rf _) rfl (is_R _) ?_
  refine g_ld (v := rf _) rfl (is_R _) ?_
  refine g_getI (kz := 8) oC9 rfl (Nat.le_of_ble_eq_true rfl) rfl fun i71 => ?_
  replace h := h i71
  refine g_putI (kz := 2) q69 rfl (Nat.le_of_ble_eq_true rfl) rfl i71 (nf10_2 q69) ?_
  replace h := h _ rfl
  refine g_ld (v := rf _) rfl (is_R _) ?_
  refine g_callV (As := []) (ci := 9) oC9 (fun _ => rfl) ?_
  refine g_go1 (Nat.le_of_ble_eq_true rfl) (Tn_w (TX9_take  h) fun _ G73 ⟨r74, e, i75, h⟩ => ?_)
  subst e
  refine ⟨n7_I _, ?_⟩
  replace h := h i75
  refine g_eq1 ⟨by omega, by omega⟩ (fun b76 => ?_) (fun b76 => ?_)
  · replace h := h.1 b76
    exact TX9_readHead_239 hl1 hl2 hl3 h
  · replace h := h.2 b76
    unfold vX9_readHead_215
    refine g_ld (v := rf _) rfl (is_R _) ?_
    refine g_ld (v := rf _) rfl (is_R _) ?_
    refine g_callV (As := [_]) (ci := 9) oC9 (fun _ => rfl) ?_
    refine g_go1 (Nat.le_of_ble_eq_true rfl) (Tn_w (TX9_readParents  h) fun _ G77 ⟨r78, e, i79, h⟩ => ?_)
    subst e
    refine ⟨n7_I _, ?_⟩
    replace h := h i79
    refine g_eq1 ⟨by omega, by omega⟩ (fun b80 => ?_) (fun b80 => ?_)
    · replace h := h.1 b80
      exact TX9_readHead_239 hl1 hl2 hl3 h
    · replace h := h.2 b80
      unfold vX9_readHead_224
      refine g_ld (v := rf _) rfl (is_R _) ?_
      refine g_const (v := cI (223)) rfl ?_
      refine g_callV (As := [_]) (ci := 9) oC9 (fun _ => rfl) ?_
      refine g_go1 (Nat.le_of_ble_eq_true rfl) (Tn_w (TX9_need ⟨by omega, by omega⟩ h) fun _ G81 ⟨r82, e, i83, h⟩ => ?_)
      subst e
      refine ⟨n7_I _, ?_⟩
      replace h := h i83
      refine g_eq1 ⟨by omega, by omega⟩ (fun b84 => ?_) (fun b84 => ?_)
      · replace h := h.1 b84
        exact TX9_readHead_239 hl1 hl2 hl3 h
      · replace h := h.2 b84
        unfold vX9_readHead_234
        refine g_ld (v := rf _) rfl (is_R _) ?_
        exact TX9_readHead_240 hl1 hl2 hl3 h
def PX9_readHead_166 (l1 : Int) (l2 : Int) (l3 : Int) (l4 : Int) (s0 : Int) (s1 : Int) (G : gS) (Q : Int → gS → Prop) : Prop :=
  (isO W0 10 (s0) ∧ ((0 ≤ s1 ∧ s1 ≤ 1) ∧ (∀ G60 : gS, G60 = uG G s0 5 (s1) → ((l2 = 21 → PX9_readHead_182 l1 l2 l3 l4 l4 1 G60 Q) ∧ (¬ (l2 = 21) → PX9_readHead_182 l1 l2 l3 l4 l4 0 G60 Q)))))
set_option maxRecDepth 20000 in
theorem TX9_readHead_166 {l1 : Int} {l2 : Int} {l3 : Int} {l4 : Int} {s0 : Int} {s1 : Int} {G : gS} {Q : Int → gS → Prop} (hl1 : inI l1) (hl2 : inI l2) (hl3 : inI l3) (hs1 : inI s1) (h : PX9_readHead_166 l1 l2 l3 l4 s0 s1 G Q) : Tg W0 vX9_readHead_166 [rf (7), cI (l1), cI (l2), cI (l3), rf (l4)] [cI (s1), rf (s0)] G (fun r G => ∃ v, r = rf v ∧ Q v G) := by
  unfold PX9_readHead_166 at h
  unfold vX9_readHead_166
  obtain ⟨q58, h⟩ := h
  obtain ⟨q59, h⟩ := h
  refine g_putZ (kz := 5) q58 rfl (Nat.le_of_ble_eq_true rfl) rfl q59 (nf10_5 q58) ?_
  replace h := h _ rfl
  refine g_ld (v := rf _) rfl (is_R _) ?_
  refine g_ld (v := cI _) rfl (is_I _) ?_
  refine g_const (v := cI (21)) rfl ?_
  refine g_eq2 hl2 ⟨by omega, by omega⟩ (fun b61 => ?_) (fun b61 => ?_)
  · replace h := h.1 b61
    unfold vX9_readHead_177
    refine g_const (v := cI (1)) rfl ?_
    exact TX9_readHead_182 hl1 hl2 hl3 ⟨by omega, by omega⟩ h
  · replace h := h.2 b61
    unfold vX9_readHead_181
    refine g_const (v := cI (0)) rfl ?_
    exact TX9_readHead_182 hl1 hl2 hl3 ⟨by omega, by omega⟩ h
def PX9_readHead_95 (l1 : Int) (l2 : Int) (l3 : Int) (G : gS) (Q : Int → gS → Prop) : Prop :=
  PX9_take G (fun r33 G32 => (0 ≤ r33 ∧ r33 ≤ 1) → ((r33 = 0 → Q (-1) G32) ∧ (¬ (r33 = 0) → PX9_now G32 (fun r37 G36 => inI r37 → ((r37 = 2 → ((G36 7 11 = -1 ∨ isO W0 1 (G36 7 11)) → (isO W0 1 (G36 7 11) ∧ PX1_newRow (G36 7 11) G36 (fun r43 G42 => ((r43 < 0 → PX9_stop 3 G42 (fun r47 G46 => (0 ≤ r47 ∧ r47 ≤ 1) → Q (-1) G46)) ∧ (0 ≤ r43 → (isO W0 10 (r43) ∧ ((0 ≤ l1 ∧ l1 ≤ 1) ∧ (∀ G51 : gS, G51 = uG G42 r43 3 (l1) → ((0 ≤ l3 ∧ l3 ≤ 1) ∧ (∀ G53 : gS, G53 = uG G51 r43 4 (l3) → ((l2 = 20 → PX9_readHead_166 l1 l2 l3 r43 r43 1 G53 Q) ∧ (¬ (l2 = 20) → PX9_readHead_166 l1 l2 l3 r43 r43 0 G53 Q))))))))))))) ∧ (¬ (r37 = 2) → PX9_miss G36 (fun r56 G55 => (0 ≤ r56 ∧ r56 ≤ 1) → Q (-1) G55)))))))
set_option maxRecDepth 20000 in
theorem TX9_readHead_95 {l1 : Int} {l2 : Int} {l3 : Int} {l4 : Nat} {G : gS} {Q : Int → gS → Prop} (hl1 : inI l1) (hl2 : inI l2) (hl3 : inI l3) (hl4 : l4 % 8 ≠ 1) (h : PX9_readHead_95 l1 l2 l3 G Q) : Tg W0 vX9_readHead_95 [rf (7), cI (l1), cI (l2), cI (l3), l4] [] G (fun r G => ∃ v, r = rf v ∧ Q v G) := by
  unfold PX9_readHead_95 at h
  unfold vX9_readHead_95
  refine g_ld (v := rf _) rfl (is_R _) ?_
  refine g_callV (As := []) (ci := 9) oC9 (fun _ => rfl) ?_
  refine g_go1 (Nat.le_of_ble_eq_true rfl) (Tn_w (TX9_take  h) fun _ G32 ⟨r33, e, i34, h⟩ => ?_)
  subst e
  refine ⟨n7_I _, ?_⟩
  replace h := h i34
  refine g_eq1 ⟨by omega, by omega⟩ (fun b35 => ?_) (fun b35 => ?_)
  · replace h := h.1 b35
    unfold vX9_readHead_102
    refine g_const (v := rf (-1)) rfl ?_
    exact g_ret1 (is_R _) ⟨_, rfl, h⟩
  · replace h := h.2 b35
    unfold vX9_readHead_104
    refine g_ld (v := rf _) rfl (is_R _) ?_
    refine g_callV (As := []) (ci := 9) oC9 (fun _ => rfl) ?_
    refine g_go1 (Nat.le_of_ble_eq_true rfl) (Tn_w (TX9_now  h) fun _ G36 ⟨r37, e, i38, h⟩ => ?_)
    subst e
    refine ⟨n7_I _, ?_⟩
    replace h := h i38
    refine g_const (v := cI (2)) rfl ?_
    refine g_eq2 i38 ⟨by omega, by omega⟩ (fun b39 => ?_) (fun b39 => ?_)
    · replace h := h.1 b39
      unfold vX9_readHead_119
      refine g_ld (v := rf _) rfl (is_R _) ?_
      refine g_getR (kz := 11) (c := 1) oC9 rfl (Nat.le_of_ble_eq_true rfl) rfl (by decide) fun i40 => ?_
      replace h := h i40
      obtain ⟨q41, h⟩ := h
      refine g_callV (As := []) (ci := 1) q41 (fun _ => rfl) ?_
      refine g_go1 (Nat.le_of_ble_eq_true rfl) (Tn_w (TX1_newRow  h) fun _ G42 ⟨r43, e, h⟩ => ?_)
      subst e
      refine ⟨n7_R _, ?_⟩
      refine g_st (lv' := [_, _, _, _, _]) (is_R _) (Nat.le_of_ble_eq_true rfl) (Or.inr (n1_I _)) rfl ?_
      refine g_ld (v := rf _) rfl (is_R _) ?_
      refine g_nul (fun b45 => ?_) (fun b45 => ?_)
      · replace h := h.1 b45
        unfold vX9_readHead_133
        refine g_ld (v := rf _) rfl (is_R _) ?_
        refine g_const (v := cI (3)) rfl ?_
        refine g_callV (As := [_]) (ci := 9) oC9 (fun _ => rfl) ?_
        refine g_go1 (Nat.le_of_ble_eq_true rfl) (Tn_w (TX9_stop ⟨by omega, by omega⟩ h) fun _ G46 ⟨r47, e, i48, h⟩ => ?_)
        subst e
        refine ⟨n7_I _, ?_⟩
        replace h := h i48
        refine g_pop (ct_I _) ?_
        refine g_const (v := rf (-1)) rfl ?_
        exact g_ret1 (is_R _) ⟨_, rfl, h⟩
      · replace h := h.2 b45
        unfold vX9_readHead_141
        refine g_ld (v := rf _) rfl (is_R _) ?_
        refine g_ld (v := cI _) rfl (is_I _) ?_
        obtain ⟨q49, h⟩ := h
        obtain ⟨q50, h⟩ := h
        refine g_putZ (kz := 3) q49 rfl (Nat.le_of_ble_eq_true rfl) rfl q50 (nf10_3 q49) ?_
        replace h := h _ rfl
        refine g_ld (v := rf _) rfl (is_R _) ?_
        refine g_ld (v := cI _) rfl (is_I _) ?_
        obtain ⟨q52, h⟩ := h
        refine g_putZ (kz := 4) q49 rfl (Nat.le_of_ble_eq_true rfl) rfl q52 (nf10_4 q49) ?_
        replace h := h _ rfl
        refine g_ld (v := rf _) rfl (is_R _) ?_
        refine g_ld (v := cI _) rfl (is_I _) ?_
        refine g_const (v := cI (20)) rfl ?_
        refine g_eq2 hl2 ⟨by omega, by omega⟩ (fun b54 => ?_) (fun b54 => ?_)
        · replace h := h.1 b54
          unfold vX9_readHead_161
          refine g_const (v := cI (1)) rfl ?_
          exact TX9_readHead_166 hl1 hl2 hl3 ⟨by omega, by omega⟩ h
        · replace h := h.2 b54
          unfold vX9_readHead_165
          refine g_const (v := cI (0)) rfl ?_
          exact TX9_readHead_166 hl1 hl2 hl3 ⟨by omega, by omega⟩ h
    · replace h := h.2 b39
      unfold vX9_readHead_112
      refine g_ld (v := rf _) rfl (is_R _) ?_
      refine g_callV (As := []) (ci := 9) oC9 (fun _ => rfl) ?_
      refine g_go1 (Nat.le_of_ble_eq_true rfl) (Tn_w (TX9_miss  h) fun _ G55 ⟨r56, e, i57, h⟩ => ?_)
      subst e
      refine ⟨n7_I _, ?_⟩
      replace h := h i57
      refine g_pop (ct_I _) ?_
      refine g_const (v := rf (-1)) rfl ?_
      exact g_ret1 (is_R _) ⟨_, rfl, h⟩
def PX9_readHead_74 (l1 : Int) (l2 : Int) (s0 : Int) (G : gS) (Q : Int → gS → Prop) : Prop :=
  ((s0 = 0 → PX9_now G (fun r26 G25 => inI r26 → ((r26 = 10 → PX9_readHead_95 l1 l2 s0 G25 Q) ∧ (¬ (r26 = 10) → PX9_miss G25 (fun r30 G29 => (0 ≤ r30 ∧ r30 ≤ 1) → Q (-1) G29))))) ∧ (¬ (s0 = 0) → PX9_readHead_95 l1 l2 s0 G Q))
set_option maxRecDepth 20000 in
theorem TX9_readHead_74 {l1 : Int} {l2 : Int} {l3 : Nat} {l4 : Nat} {s0 : Int} {G : gS} {Q : Int → gS → Prop} (hl1 : inI l1) (hl2 : inI l2) (hl3 : l3 % 8 ≠ 1) (hl4 : l4 % 8 ≠ 1) (hs0 : inI s0) (h : PX9_readHead_74 l1 l2 s0 G Q) : Tg W0 vX9_readHead_74 [rf (7), cI (l1), cI (l2), l3, l4] [cI (s0)] G (fun r G => ∃ v, r = rf v ∧ Q v G) := by
  unfold PX9_readHead_74 at h
  unfold vX9_readHead_74
  refine g_st (lv' := [_, _, _, _, _]) (is_I _) (Nat.le_of_ble_eq_true rfl) (Or.inr (n1_I _)) rfl ?_
  refine g_ld (v := cI _) rfl (is_I _) ?_
  refine g_eq1 hs0 (fun b24 => ?_) (fun b24 => ?_)
  · replace h := h.1 b24
    unfold vX9_readHead_79
    refine g_ld (v := rf _) rfl (is_R _) ?_
    refine g_callV (As := []) (ci := 9) oC9 (fun _ => rfl) ?_
    refine g_go1 (Nat.le_of_ble_eq_true rfl) (Tn_w (TX9_now  h) fun _ G25 ⟨r26, e, i27, h⟩ => ?_)
    subst e
    refine ⟨n7_I _, ?_⟩
    replace h := h i27
    refine g_const (v := cI (10)) rfl ?_
    refine g_eq2 i27 ⟨by omega, by omega⟩ (fun b28 => ?_) (fun b28 => ?_)
    · replace h := h.1 b28
      exact TX9_readHead_95 hl1 hl2 hs0 hl4 h
    · replace h := h.2 b28
      unfold vX9_readHead_88
      refine g_ld (v := rf _) rfl (is_R _) ?_
      refine g_callV (As := []) (ci := 9) oC9 (fun _ => rfl) ?_
      refine g_go1 (Nat.le_of_ble_eq_true rfl) (Tn_w (TX9_miss  h) fun _ G29 ⟨r30, e, i31, h⟩ => ?_)
      subst e
      refine ⟨n7_I _, ?_⟩
      replace h := h i31
      refine g_pop (ct_I _) ?_
      refine g_const (v := rf (-1)) rfl ?_
      exact g_ret1 (is_R _) ⟨_, rfl, h⟩
  · replace h := h.2 b24
    exact TX9_readHead_95 hl1 hl2 hs0 hl4 h
def PX9_readHead_73 (l1 : Int) (l2 : Int) (G : gS) (Q : Int → gS → Prop) : Prop :=
  PX9_readHead_74 l1 l2 0 G Q
set_option maxRecDepth 20000 in
theorem TX9_readHead_73 {l1 : Int} {l2 : Int} {l3 : Nat} {l4 : Nat} {G : gS} {Q : Int → gS → Prop} (hl1 : inI l1) (hl2 : inI l2) (hl3 : l3 % 8 ≠ 1) (hl4 : l4 % 8 ≠ 1) (h : PX9_readHead_73 l1 l2 G Q) : Tg W0 vX9_readHead_73 [rf (7), cI (l1), cI (l2), l3, l4] [] G (fun r G => ∃ v, r = rf v ∧ Q v G) := by
  unfold PX9_readHead_73 at h
  unfold vX9_readHead_73
  refine g_const (v := cI (0)) rfl ?_
  exact TX9_readHead_74 hl1 hl2 hl3 hl4 ⟨by omega, by omega⟩ h
def PX9_readHead_54 (l1 : Int) (l2 : Int) (G : gS) (Q : Int → gS → Prop) : Prop :=
  PX9_now G (fun r20 G19 => inI r20 → ((r20 = 11 → ((l2 = 11 → PX9_readHead_74 l1 l2 1 G19 Q) ∧ (¬ (l2 = 11) → PX9_readHead_73 l1 l2 G19 Q))) ∧ (¬ (r20 = 11) → PX9_readHead_73 l1 l2 G19 Q)))
set_option maxRecDepth 20000 in
theorem TX9_readHead_54 {l1 : Int} {l2 : Int} {l3 : Nat} {l4 : Nat} {G : gS} {Q : Int → gS → Prop} (hl1 : inI l1) (hl2 : inI l2) (hl3 : l3 % 8 ≠ 1) (hl4 : l4 % 8 ≠ 1) (h : PX9_readHead_54 l1 l2 G Q) : Tg W0 vX9_readHead_54 [rf (7), cI (l1), cI (l2), l3, l4] [] G (fun r G => ∃ v, r = rf v ∧ Q v G) := by
  unfold PX9_readHead_54 at h
  unfold vX9_readHead_54
  refine g_ld (v := rf _) rfl (is_R _) ?_
  refine g_callV (As := []) (ci := 9) oC9 (fun _ => rfl) ?_
  refine g_go1 (Nat.le_of_ble_eq_true rfl) (Tn_w (TX9_now  h) fun _ G19 ⟨r20, e, i21, h⟩ => ?_)
  subst e
  refine ⟨n7_I _, ?_⟩
  replace h := h i21
  refine g_const (v := cI (11)) rfl ?_
  refine g_eq2 i21 ⟨by omega, by omega⟩ (fun b22 => ?_) (fun b22 => ?_)
  · replace h := h.1 b22
    unfold vX9_readHead_63
    refine g_ld (v := cI _) rfl (is_I _) ?_
    refine g_const (v := cI (11)) rfl ?_
    refine g_eq2 hl2 ⟨by omega, by omega⟩ (fun b23 => ?_) (fun b23 => ?_)
    · replace h := h.1 b23
      unfold vX9_readHead_69
      refine g_const (v := cI (1)) rfl ?_
      exact TX9_readHead_74 hl1 hl2 hl3 hl4 ⟨by omega, by omega⟩ h
    · replace h := h.2 b23
      exact TX9_readHead_73 hl1 hl2 hl3 hl4 h
  · replace h := h.2 b22
    exact TX9_readHead_73 hl1 hl2 hl3 hl4 h
def PX9_readHead_45 (l1 : Int) (l2 : Int) (G : gS) (Q : Int → gS → Prop) : Prop :=
  PX9_take G (fun r16 G15 => (0 ≤ r16 ∧ r16 ≤ 1) → ((r16 = 0 → Q (-1) G15) ∧ (¬ (r16 = 0) → PX9_readHead_54 l1 l2 G15 Q)))
set_option maxRecDepth 20000 in
theorem TX9_readHead_45 {l1 : Int} {l2 : Int} {l3 : Nat} {l4 : Nat} {G : gS} {Q : Int → gS → Prop} (hl1 : inI l1) (hl2 : inI l2) (hl3 : l3 % 8 ≠ 1) (hl4 : l4 % 8 ≠ 1) (h : PX9_readHead_45 l1 l2 G Q) : Tg W0 vX9_readHead_45 [rf (7), cI (l1), cI (l2), l3, l4] [] G (fun r G => ∃ v, r = rf v ∧ Q v G) := by
  unfold PX9_readHead_45 at h
  unfold vX9_readHead_45
  refine g_ld (v := rf _) rfl (is_R _) ?_
  refine g_callV (As := []) (ci := 9) oC9 (fun _ => rfl) ?_
  refine g_go1 (Nat.le_of_ble_eq_true rfl) (Tn_w (TX9_take  h) fun _ G15 ⟨r16, e, i17, h⟩ => ?_)
  subst e
  refine ⟨n7_I _, ?_⟩
  replace h := h i17
  refine g_eq1 ⟨by omega, by omega⟩ (fun b18 => ?_) (fun b18 => ?_)
  · replace h := h.1 b18
    unfold vX9_readHead_52
    refine g_const (v := rf (-1)) rfl ?_
    exact g_ret1 (is_R _) ⟨_, rfl, h⟩
  · replace h := h.2 b18
    exact TX9_readHead_54 hl1 hl2 hl3 hl4 h
def PX9_readHead_28 (l1 : Int) (G : gS) (Q : Int → gS → Prop) : Prop :=
  PX9_now G (fun r11 G10 => inI r11 → ((r11 = 20 → PX9_readHead_45 l1 r11 G10 Q) ∧ (¬ (r11 = 20) → ((r11 = 21 → PX9_readHead_45 l1 r11 G10 Q) ∧ (¬ (r11 = 21) → PX9_readHead_54 l1 r11 G10 Q)))))
set_option maxRecDepth 20000 in
theorem TX9_readHead_28 {l1 : Int} {l2 : Nat} {l3 : Nat} {l4 : Nat} {G : gS} {Q : Int → gS → Prop} (hl1 : inI l1) (hl2 : l2 % 8 ≠ 1) (hl3 : l3 % 8 ≠ 1) (hl4 : l4 % 8 ≠ 1) (h : PX9_readHead_28 l1 G Q) : Tg W0 vX9_readHead_28 [rf (7), cI (l1), l2, l3, l4] [] G (fun r G => ∃ v, r = rf v ∧ Q v G) := by
  unfold PX9_readHead_28 at h
  unfold vX9_readHead_28
  refine g_ld (v := rf _) rfl (is_R _) ?_
  refine g_callV (As := []) (ci := 9) oC9 (fun _ => rfl) ?_
  refine g_go1 (Nat.le_of_ble_eq_true rfl) (Tn_w (TX9_now  h) fun _ G10 ⟨r11, e, i12, h⟩ => ?_)
  subst e
  refine ⟨n7_I _, ?_⟩
  replace h := h i12
  refine g_st (lv' := [_, _, _, _, _]) (is_I _) (Nat.le_of_ble_eq_true rfl) (Or.inr (n1_I _)) rfl ?_
  refine g_ld (v := cI _) rfl (is_I _) ?_
  refine g_const (v := cI (20)) rfl ?_
  refine g_eq2 i12 ⟨by omega, by omega⟩ (fun b13 => ?_) (fun b13 => ?_)
  · replace h := h.1 b13
    exact TX9_readHead_45 hl1 i12 hl3 hl4 h
  · replace h := h.2 b13
    unfold vX9_readHead_39
    refine g_ld (v := cI _) rfl (is_I _) ?_
    refine g_const (v := cI (21)) rfl ?_
    refine g_eq2 i12 ⟨by omega, by omega⟩ (fun b14 => ?_) (fun b14 => ?_)
    · replace h := h.1 b14
      exact TX9_readHead_45 hl1 i12 hl3 hl4 h
    · replace h := h.2 b14
      exact TX9_readHead_54 hl1 i12 hl3 hl4 h
def PX9_readHead_14 (s0 : Int) (G : gS) (Q : Int → gS → Prop) : Prop :=
  ((s0 = 0 → PX9_readHead_28 s0 G Q) ∧ (¬ (s0 = 0) → PX9_take G (fun r7 G6 => (0 ≤ r7 ∧ r7 ≤ 1) → ((r7 = 0 → Q (-1) G6) ∧ (¬ (r7 = 0) → PX9_readHead_28 s0 G6 Q)))))
set_option maxRecDepth 20000 in
theorem TX9_readHead_14 {l1 : Nat} {l2 : Nat} {l3 : Nat} {l4 : Nat} {s0 : Int} {G : gS} {Q : Int → gS → Prop} (hl1 : l1 % 8 ≠ 1) (hl2 : l2 % 8 ≠ 1) (hl3 : l3 % 8 ≠ 1) (hl4 : l4 % 8 ≠ 1) (hs0 : inI s0) (h : PX9_readHead_14 s0 G Q) : Tg W0 vX9_readHead_14 [rf (7), l1, l2, l3, l4] [cI (s0)] G (fun r G => ∃ v, r = rf v ∧ Q v G) := by
  unfold PX9_readHead_14 at h
  unfold vX9_readHead_14
  refine g_st (lv' := [_, _, _, _, _]) (is_I _) (Nat.le_of_ble_eq_true rfl) (Or.inr (n1_R _)) rfl ?_
  refine g_ld (v := cI _) rfl (is_I _) ?_
  refine g_eq1 hs0 (fun b5 => ?_) (fun b5 => ?_)
  · replace h := h.1 b5
    exact TX9_readHead_28 hs0 hl2 hl3 hl4 h
  · replace h := h.2 b5
    unfold vX9_readHead_19
    refine g_ld (v := rf _) rfl (is_R _) ?_
    refine g_callV (As := []) (ci := 9) oC9 (fun _ => rfl) ?_
    refine g_go1 (Nat.le_of_ble_eq_true rfl) (Tn_w (TX9_take  h) fun _ G6 ⟨r7, e, i8, h⟩ => ?_)
    subst e
    refine ⟨n7_I _, ?_⟩
    replace h := h i8
    refine g_eq1 ⟨by omega, by omega⟩ (fun b9 => ?_) (fun b9 => ?_)
    · replace h := h.1 b9
      unfold vX9_readHead_26
      refine g_const (v := rf (-1)) rfl ?_
      exact g_ret1 (is_R _) ⟨_, rfl, h⟩
    · replace h := h.2 b9
      exact TX9_readHead_28 hs0 hl2 hl3 hl4 h
def PX9_readHead_0  (G : gS) (Q : Int → gS → Prop) : Prop :=
  PX9_now G (fun r2 G1 => inI r2 → ((r2 = 17 → PX9_readHead_14 1 G1 Q) ∧ (¬ (r2 = 17) → PX9_readHead_14 0 G1 Q)))
set_option maxRecDepth 20000 in
theorem TX9_readHead_0  {G : gS} {Q : Int → gS → Prop}  (h : PX9_readHead_0  G Q) : Tg W0 vX9_readHead_0 [rf (7), 7, 7, 7, 7] [] G (fun r G => ∃ v, r = rf v ∧ Q v G) := by
  unfold PX9_readHead_0 at h
  unfold vX9_readHead_0
  refine g_ld (v := rf _) rfl (is_R _) ?_
  refine g_callV (As := []) (ci := 9) oC9 (fun _ => rfl) ?_
  refine g_go1 (Nat.le_of_ble_eq_true rfl) (Tn_w (TX9_now  h) fun _ G1 ⟨r2, e, i3, h⟩ => ?_)
  subst e
  refine ⟨n7_I _, ?_⟩
  replace h := h i3
  refine g_const (v := cI (17)) rfl ?_
  refine g_eq2 i3 ⟨by omega, by omega⟩ (fun b4 => ?_) (fun b4 => ?_)
  · replace h := h.1 b4
    unfold vX9_readHead_9
    refine g_const (v := cI (1)) rfl ?_
    exact TX9_readHead_14 (show 7 % 8 ≠ 1 by decide) (show 7 % 8 ≠ 1 by decide) (show 7 % 8 ≠ 1 by decide) (show 7 % 8 ≠ 1 by decide) ⟨by omega, by omega⟩ h
  · replace h := h.2 b4
    unfold vX9_readHead_13
    refine g_const (v := cI (0)) rfl ?_
    exact TX9_readHead_14 (show 7 % 8 ≠ 1 by decide) (show 7 % 8 ≠ 1 by decide) (show 7 % 8 ≠ 1 by decide) (show 7 % 8 ≠ 1 by decide) ⟨by omega, by omega⟩ h
abbrev PX9_readHead  (G : gS) (Q : Int → gS → Prop) : Prop := PX9_readHead_0  G Q
theorem TX9_readHead  {G : gS} {Q : Int → gS → Prop}  (h : PX9_readHead  G Q) : Tn W0 FX9_readHead [rf (7)] G (fun r G => ∃ v, r = rf v ∧ Q v G) := by
  unfold FX9_readHead
  refine g_ent (lv' := [rf (7), 7, 7, 7, 7]) (flR fl0) (Nat.le_of_ble_eq_true rfl) rfl ?_
  exact TX9_readHead_0  h
end DE

section DE
def PX13_buildOf_2 (J : Nat → List Int → gS → (Int → gS → Prop) → Prop) (l1 : Int) (l2 : Int) (G : gS) (Q : Int → gS → Prop) : Prop :=
  ((0 : Int) ≤ l1 ∧ ((l1 : Int) < 16 ∧ (inI (G 16087 l1) → ((0 : Int) ≤ (8 * (G 16087 l1)) + l2 ∧ (((8 * (G 16087 l1)) + l2 : Int) < 40 ∧ (inI (G 16088 ((8 * (G 16087 l1)) + l2)) → ((G 16088 ((8 * (G 16087 l1)) + l2) = l1 → Q (l2) G) ∧ (¬ (G 16088 ((8 * (G 16087 l1)) + l2) = l1) → (inI (l2 + 1) ∧ J 0 [l1, l2 + 1] G Q)))))))))
set_option maxRecDepth 20000 in
theorem TX13_buildOf_2 {j : Nat → rx_K} {J : Nat → List Int → gS → (Int → gS → Prop) → Prop} {l1 : Int} {l2 : Int} {G : gS} {Q : Int → gS → Prop} (hl1 : inI l1) (hl2 : inI l2) (hj0 : ∀ (l1 : Int) (l2 : Int) (G : gS), (inI l1) → (inI l2) → J 0 [l1, l2] G Q → Tg W0 (j 0) [rf (16081), cI (l1), cI (l2)] [] G (fun r G => ∃ v, r = cI v ∧ inI v ∧ Q v G)) (h : PX13_buildOf_2 J l1 l2 G Q) : Tg W0 (vX13_buildOf_2 j) [rf (16081), cI (l1), cI (l2)] [] G (fun r G => ∃ v, r = cI v ∧ inI v ∧ Q v G) := by
  unfold PX13_buildOf_2 at h
  unfold vX13_buildOf_2
  refine g_ld (v := rf _) rfl (is_R _) ?_
  refine g_getF (v := 16088) oC13 (hC13_8) rfl (Nat.le_of_ble_eq_true rfl) (Nat.le_of_ble_eq_true rfl) ?_
  refine g_const (v := cI (8)) rfl ?_
  refine g_ld (v := rf _) rfl (is_R _) ?_
  refine g_getF (v := 16087) oC13 (hC13_7) rfl (Nat.le_of_ble_eq_true rfl) (Nat.le_of_ble_eq_true rfl) ?_
  refine g_ld (v := cI _) rfl (is_I _) ?_
  obtain ⟨q1, q2, h⟩ := h
  refine g_aldI aC16087 q1 q2 rfl fun i3 => ?_
  replace h := h i3
  refine g_mul ?_
  refine g_ld (v := cI _) rfl (is_I _) ?_
  refine g_add ?_
  obtain ⟨q4, q5, h⟩ := h
  refine g_aldI aC16088 q4 q5 rfl fun i6 => ?_
  replace h := h i6
  refine g_ld (v := cI _) rfl (is_I _) ?_
  refine g_eq2 i6 hl1 (fun b7 => ?_) (fun b7 => ?_)
  · replace h := h.1 b7
    unfold vX13_buildOf_28
    refine g_ld (v := cI _) rfl (is_I _) ?_
    exact g_ret1 (is_I _) ⟨_, rfl, hl2, h⟩
  · replace h := h.2 b7
    unfold vX13_buildOf_22
    refine g_inc (lv' := [_, _, _]) rfl (Nat.le_of_ble_eq_true rfl) (Or.inr (n1_I _)) rfl ?_
    obtain ⟨q8, h⟩ := h
    exact hj0 _ _ _ hl1 q8 h
def PX13_buildOf_0 (J : Nat → List Int → gS → (Int → gS → Prop) → Prop) (a1 : Int) (G : gS) (Q : Int → gS → Prop) : Prop :=
  PX13_buildOf_2 J a1 0 G Q
set_option maxRecDepth 20000 in
theorem TX13_buildOf_0 {j : Nat → rx_K} {J : Nat → List Int → gS → (Int → gS → Prop) → Prop} {a1 : Int} {G : gS} {Q : Int → gS → Prop} (ha1 : inI a1) (hj0 : ∀ (l1 : Int) (l2 : Int) (G : gS), (inI l1) → (inI l2) → J 0 [l1, l2] G Q → Tg W0 (j 0) [rf (16081), cI (l1), cI (l2)] [] G (fun r G => ∃ v, r = cI v ∧ inI v ∧ Q v G)) (h : PX13_buildOf_0 J a1 G Q) : Tg W0 (vX13_buildOf_0 j) [rf (16081), cI (a1), 7] [] G (fun r G => ∃ v, r = cI v ∧ inI v ∧ Q v G) := by
  unfold PX13_buildOf_0 at h
  unfold vX13_buildOf_0
  refine g_const (v := cI (0)) rfl ?_
  refine g_st (lv' := [_, _, _]) (is_I _) (Nat.le_of_ble_eq_true rfl) (Or.inr (n1_I _)) rfl ?_
  exact TX13_buildOf_2 ha1 ⟨by omega, by omega⟩ hj0 h
def PX13_buildOf_J : Nat → Nat → List Int → gS → (Int → gS → Prop) → Prop
  | 0, _, _, _, _ => False
  | f + 1, h, L, G, Q => match h, L with
    | 0, [l1, l2] => PX13_buildOf_2 (PX13_buildOf_J f) l1 l2 G Q
    | _, _ => False
theorem TX13_buildOf_J {Q : Int → gS → Prop} : ∀ f N : Nat, f ≤ N → (∀ (l1 : Int) (l2 : Int) (G : gS), (inI l1) → (inI l2) → (PX13_buildOf_J f) 0 [l1, l2] G Q → Tg W0 (rx_J vhX13_buildOf N 0) [rf (16081), cI (l1), cI (l2)] [] G (fun r G => ∃ v, r = cI v ∧ inI v ∧ Q v G)) := by
  intro f
  induction f with
  | zero => exact fun N _ => fun _ _ _ _ _ h => h.elim
  | succ f ih =>
    intro N hN
    obtain ⟨M, rfl⟩ : ∃ M, N = M + 1 := ⟨N - 1, by omega⟩
    have ih := ih M (by omega)
    exact fun _ _ _ hl1 hl2 h => show Tg W0 (vX13_buildOf_2 (rx_J vhX13_buildOf M)) _ _ _ _ from TX13_buildOf_2 hl1 hl2 ih h
def PX13_buildOf (a1 : Int) (G : gS) (Q : Int → gS → Prop) : Prop := ∃ f : Nat, f ≤ 4000000000 ∧ PX13_buildOf_0 (PX13_buildOf_J f) a1 G Q
theorem TX13_buildOf {a1 : Int} {G : gS} {Q : Int → gS → Prop} (ha1 : inI a1) (h : PX13_buildOf a1 G Q) : Tn W0 FX13_buildOf [rf (16081), cI (a1)] G (fun r G => ∃ v, r = cI v ∧ inI v ∧ Q v G) := by
  obtain ⟨f, hf, h⟩ := h
  have hJ := TX13_buildOf_J (Q := Q) f 4000000000 hf
  unfold FX13_buildOf
  refine g_ent (lv' := [rf (16081), cI (a1), 7]) (flR (flI fl0)) (Nat.le_of_ble_eq_true rfl) rfl ?_
  exact TX13_buildOf_0 ha1 hJ h
def PX13_picked_38 (l1 : Int) (s0 : Int) (G : gS) (Q : Int → gS → Prop) : Prop :=
  Q (s0) G
set_option maxRecDepth 20000 in
theorem TX13_picked_38 {l1 : Int} {s0 : Int} {G : gS} {Q : Int → gS → Prop} (hl1 : inI l1) (hs0 : inI s0) (h : PX13_picked_38 l1 s0 G Q) : Tg W0 vX13_picked_38 [rf (16081), cI (l1)] [cI (s0)] G (fun r G => ∃ v, r = cI v ∧ inI v ∧ Q v G) := by
  unfold PX13_picked_38 at h
  unfold vX13_picked_38
  exact g_ret1 (is_I _) ⟨_, rfl, hs0, h⟩
def PX13_picked_0 (a1 : Int) (G : gS) (Q : Int → gS → Prop) : Prop :=
  PX13_isLib a1 G (fun r2 G1 => (0 ≤ r2 ∧ r2 ≤ 1) → ((r2 = 0 → PX13_picked_38 a1 (-1) G1 Q) ∧ (¬ (r2 = 0) → ((0 : Int) ≤ a1 ∧ ((a1 : Int) < 5 ∧ (inI (G1 16163 a1) → ((G1 16163 a1 = -2 → PX13_picked_38 a1 (-2) G1 Q) ∧ (¬ (G1 16163 a1 = -2) → ((0 : Int) ≤ a1 ∧ ((a1 : Int) < 5 ∧ (inI (G1 16163 a1) → PX13_buildOf (G1 16163 a1) G1 (fun r13 G12 => inI r13 → PX13_picked_38 a1 r13 G12 Q))))))))))))
set_option maxRecDepth 20000 in
theorem TX13_picked_0 {a1 : Int} {G : gS} {Q : Int → gS → Prop} (ha1 : inI a1) (h : PX13_picked_0 a1 G Q) : Tg W0 vX13_picked_0 [rf (16081), cI (a1)] [] G (fun r G => ∃ v, r = cI v ∧ inI v ∧ Q v G) := by
  unfold PX13_picked_0 at h
  unfold vX13_picked_0
  refine g_ld (v := rf _) rfl (is_R _) ?_
  refine g_ld (v := cI _) rfl (is_I _) ?_
  refine g_callV (As := [_]) (ci := 13) oC13 (fun _ => rfl) ?_
  refine g_go1 (Nat.le_of_ble_eq_true rfl) (Tn_w (TX13_isLib ha1 h) fun _ G1 ⟨r2, e, i3, h⟩ => ?_)
  subst e
  refine ⟨n7_I _, ?_⟩
  replace h := h i3
  refine g_eq1 ⟨by omega, by omega⟩ (fun b4 => ?_) (fun b4 => ?_)
  · replace h := h.1 b4
    unfold vX13_picked_8
    refine g_const (v := cI (-1)) rfl ?_
    exact TX13_picked_38 ha1 ⟨by omega, by omega⟩ h
  · replace h := h.2 b4
    unfold vX13_picked_12
    refine g_ld (v := rf _) rfl (is_R _) ?_
    refine g_getF (v := 16163) oC13 (hC13_90) rfl (Nat.le_of_ble_eq_true rfl) (Nat.le_of_ble_eq_true rfl) ?_
    refine g_ld (v := cI _) rfl (is_I _) ?_
    obtain ⟨q5, q6, h⟩ := h
    refine g_aldI aC16163 q5 q6 rfl fun i7 => ?_
    replace h := h i7
    refine g_const (v := cI (-2)) rfl ?_
    refine g_eq2 i7 ⟨by omega, by omega⟩ (fun b8 => ?_) (fun b8 => ?_)
    · replace h := h.1 b8
      unfold vX13_picked_23
      refine g_const (v := cI (-2)) rfl ?_
      exact TX13_picked_38 ha1 ⟨by omega, by omega⟩ h
    · replace h := h.2 b8
      unfold vX13_picked_28
      refine g_ld (v := rf _) rfl (is_R _) ?_
      refine g_ld (v := rf _) rfl (is_R _) ?_
      refine g_getF (v := 16163) oC13 (hC13_90) rfl (Nat.le_of_ble_eq_true rfl) (Nat.le_of_ble_eq_true rfl) ?_
      refine g_ld (v := cI _) rfl (is_I _) ?_
      obtain ⟨q9, q10, h⟩ := h
      refine g_aldI aC16163 q9 q10 rfl fun i11 => ?_
      replace h := h i11
      refine g_callV (As := [_]) (ci := 13) oC13 (fun _ => rfl) ?_
      refine g_go1 (Nat.le_of_ble_eq_true rfl) (Tn_w (TX13_buildOf i11 h) fun _ G12 ⟨r13, e, i14, h⟩ => ?_)
      subst e
      refine ⟨n7_I _, ?_⟩
      replace h := h i14
      exact TX13_picked_38 ha1 i14 h
abbrev PX13_picked (a1 : Int) (G : gS) (Q : Int → gS → Prop) : Prop := PX13_picked_0 a1 G Q
theorem TX13_picked {a1 : Int} {G : gS} {Q : Int → gS → Prop} (ha1 : inI a1) (h : PX13_picked a1 G Q) : Tn W0 FX13_picked [rf (16081), cI (a1)] G (fun r G => ∃ v, r = cI v ∧ inI v ∧ Q v G) := by
  unfold FX13_picked
  refine g_ent (lv' := [rf (16081), cI (a1)]) (flR (flI fl0)) (Nat.le_of_ble_eq_true rfl) rfl ?_
  exact TX13_picked_0 ha1 h
def PX13_clearSet_25 (J : Nat → List Int → gS → (Int → gS → Prop) → Prop) (l1 : Int) (l2 : Int) (s0 : Int) (s1 : Int) (s2 : Int) (G : gS) (Q : Int → gS → Prop) : Prop :=
  (∃ n5, isA W0 0 n5 (s0) ∧ ((0 : Int) ≤ s1 ∧ ((s1 : Int) < n5 ∧ (∀ G9 : gS, G9 = uG G s0 s1 (s2) → ((0 : Int) ≤ l1 + l2 ∧ ((l1 + l2 : Int) < 128 ∧ (∀ G12 : gS, G12 = uG G9 16191 (l1 + l2) (0) → (inI (l2 + 1) ∧ J 0 [l1, l2 + 1] G12 Q))))))))
set_option maxRecDepth 20000 in
theorem TX13_clearSet_25 {j : Nat → rx_K} {J : Nat → List Int → gS → (Int → gS → Prop) → Prop} {l1 : Int} {l2 : Int} {s0 : Int} {s1 : Int} {s2 : Int} {G : gS} {Q : Int → gS → Prop} (hl1 : inI l1) (hl2 : inI l2) (hs1 : inI s1) (hs2 : inI s2) (hj0 : ∀ (l1 : Int) (l2 : Int) (G : gS), (inI l1) → (inI l2) → J 0 [l1, l2] G Q → Tg W0 (j 0) [rf (16081), cI (l1), cI (l2)] [] G (fun r G => r = 7 ∧ Q 0 G)) (h : PX13_clearSet_25 J l1 l2 s0 s1 s2 G Q) : Tg W0 (vX13_clearSet_25 j) [rf (16081), cI (l1), cI (l2)] [cI (s2), cI (s1), rf (s0)] G (fun r G => r = 7 ∧ Q 0 G) := by
  unfold PX13_clearSet_25 at h
  unfold vX13_clearSet_25
  obtain ⟨n5, q6, h⟩ := h
  obtain ⟨q7, q8, h⟩ := h
  refine g_astI q6 q7 q8 hs2 (nfI q6) ?_
  replace h := h _ rfl
  refine g_ld (v := rf _) rfl (is_R _) ?_
  refine g_getF (v := 16191) oC13 (hC13_133) rfl (Nat.le_of_ble_eq_true rfl) (Nat.le_of_ble_eq_true rfl) ?_
  refine g_ld (v := cI _) rfl (is_I _) ?_
  refine g_ld (v := cI _) rfl (is_I _) ?_
  refine g_add ?_
  refine g_const (v := cI (0)) rfl ?_
  obtain ⟨q10, q11, h⟩ := h
  refine g_astI aC16191 q10 q11 ⟨by omega, by omega⟩ (nfI aC16191) ?_
  replace h := h _ rfl
  refine g_inc (lv' := [_, _, _]) rfl (Nat.le_of_ble_eq_true rfl) (Or.inr (n1_I _)) rfl ?_
  obtain ⟨q13, h⟩ := h
  exact hj0 _ _ _ hl1 q13 h
def PX13_clearSet_2 (J : Nat → List Int → gS → (Int → gS → Prop) → Prop) (l1 : Int) (l2 : Int) (G : gS) (Q : Int → gS → Prop) : Prop :=
  ((l2 < 64 → ((l2 < 2 → (inI (l1 + l2) ∧ PX13_clearSet_25 J l1 l2 16190 (l1 + l2) 4 G Q)) ∧ (¬ (l2 < 2) → (inI (l1 + l2) ∧ PX13_clearSet_25 J l1 l2 16190 (l1 + l2) 0 G Q)))) ∧ (¬ (l2 < 64) → Q 0 G))
set_option maxRecDepth 20000 in
theorem TX13_clearSet_2 {j : Nat → rx_K} {J : Nat → List Int → gS → (Int → gS → Prop) → Prop} {l1 : Int} {l2 : Int} {G : gS} {Q : Int → gS → Prop} (hl1 : inI l1) (hl2 : inI l2) (hj0 : ∀ (l1 : Int) (l2 : Int) (G : gS), (inI l1) → (inI l2) → J 0 [l1, l2] G Q → Tg W0 (j 0) [rf (16081), cI (l1), cI (l2)] [] G (fun r G => r = 7 ∧ Q 0 G)) (h : PX13_clearSet_2 J l1 l2 G Q) : Tg W0 (vX13_clearSet_2 j) [rf (16081), cI (l1), cI (l2)] [] G (fun r G => r = 7 ∧ Q 0 G) := by
  unfold PX13_clearSet_2 at h
  unfold vX13_clearSet_2
  refine g_ld (v := cI _) rfl (is_I _) ?_
  refine g_const (v := cI (64)) rfl ?_
  refine g_lt2 hl2 ⟨by omega, by omega⟩ (fun b1 => ?_) (fun b1 => ?_)
  · replace h := h.1 b1
    unfold vX13_clearSet_8
    refine g_ld (v := rf _) rfl (is_R _) ?_
    refine g_getF (v := 16190) oC13 (hC13_132) rfl (Nat.le_of_ble_eq_true rfl) (Nat.le_of_ble_eq_true rfl) ?_
    refine g_ld (v := cI _) rfl (is_I _) ?_
    refine g_ld (v := cI _) rfl (is_I _) ?_
    refine g_add ?_
    refine g_ld (v := cI _) rfl (is_I _) ?_
    refine g_const (v := cI (2)) rfl ?_
    refine g_lt2 hl2 ⟨by omega, by omega⟩ (fun b2 => ?_) (fun b2 => ?_)
    · replace h := h.1 b2
      unfold vX13_clearSet_20
      refine g_const (v := cI (4)) rfl ?_
      obtain ⟨q3, h⟩ := h
      exact TX13_clearSet_25 hl1 hl2 q3 ⟨by omega, by omega⟩ hj0 h
    · replace h := h.2 b2
      unfold vX13_clearSet_24
      refine g_const (v := cI (0)) rfl ?_
      obtain ⟨q4, h⟩ := h
      exact TX13_clearSet_25 hl1 hl2 q4 ⟨by omega, by omega⟩ hj0 h
  · replace h := h.2 b1
    unfold vX13_clearSet_41
    exact g_ret0 ⟨rfl, h⟩
def PX13_clearSet_0 (J : Nat → List Int → gS → (Int → gS → Prop) → Prop) (a1 : Int) (G : gS) (Q : Int → gS → Prop) : Prop :=
  PX13_clearSet_2 J a1 0 G Q
set_option maxRecDepth 20000 in
theorem TX13_clearSet_0 {j : Nat → rx_K} {J : Nat → List Int → gS → (Int → gS → Prop) → Prop} {a1 : Int} {G : gS} {Q : Int → gS → Prop} (ha1 : inI a1) (hj0 : ∀ (l1 : Int) (l2 : Int) (G : gS), (inI l1) → (inI l2) → J 0 [l1, l2] G Q → Tg W0 (j 0) [rf (16081), cI (l1), cI (l2)] [] G (fun r G => r = 7 ∧ Q 0 G)) (h : PX13_clearSet_0 J a1 G Q) : Tg W0 (vX13_clearSet_0 j) [rf (16081), cI (a1), 7] [] G (fun r G => r = 7 ∧ Q 0 G) := by
  unfold PX13_clearSet_0 at h
  unfold vX13_clearSet_0
  refine g_const (v := cI (0)) rfl ?_
  refine g_st (lv' := [_, _, _]) (is_I _) (Nat.le_of_ble_eq_true rfl) (Or.inr (n1_I _)) rfl ?_
  exact TX13_clearSet_2 ha1 ⟨by omega, by omega⟩ hj0 h
def PX13_clearSet_J : Nat → Nat → List Int → gS → (Int → gS → Prop) → Prop
  | 0, _, _, _, _ => False
  | f + 1, h, L, G, Q => match h, L with
    | 0, [l1, l2] => PX13_clearSet_2 (PX13_clearSet_J f) l1 l2 G Q
    | _, _ => False
theorem TX13_clearSet_J {Q : Int → gS → Prop} : ∀ f N : Nat, f ≤ N → (∀ (l1 : Int) (l2 : Int) (G : gS), (inI l1) → (inI l2) → (PX13_clearSet_J f) 0 [l1, l2] G Q → Tg W0 (rx_J vhX13_clearSet N 0) [rf (16081), cI (l1), cI (l2)] [] G (fun r G => r = 7 ∧ Q 0 G)) := by
  intro f
  induction f with
  | zero => exact fun N _ => fun _ _ _ _ _ h => h.elim
  | succ f ih =>
    intro N hN
    obtain ⟨M, rfl⟩ : ∃ M, N = M + 1 := ⟨N - 1, by omega⟩
    have ih := ih M (by omega)
    exact fun _ _ _ hl1 hl2 h => show Tg W0 (vX13_clearSet_2 (rx_J vhX13_clearSet M)) _ _ _ _ from TX13_clearSet_2 hl1 hl2 ih h
def PX13_clearSet (a1 : Int) (G : gS) (Q : Int → gS → Prop) : Prop := ∃ f : Nat, f ≤ 4000000000 ∧ PX13_clearSet_0 (PX13_clearSet_J f) a1 G Q
theorem TX13_clearSet {a1 : Int} {G : gS} {Q : Int → gS → Prop} (ha1 : inI a1) (h : PX13_clearSet a1 G Q) : Tn W0 FX13_clearSet [rf (16081), cI (a1)] G (fun r G => r = 7 ∧ Q 0 G) := by
  obtain ⟨f, hf, h⟩ := h
  have hJ := TX13_clearSet_J (Q := Q) f 4000000000 hf
  unfold FX13_clearSet
  refine g_ent (lv' := [rf (16081), cI (a1), 7]) (flR (flI fl0)) (Nat.le_of_ble_eq_true rfl) rfl ?_
  exact TX13_clearSet_0 ha1 hJ h
def PX13_intoWorld_0 (a1 : Int) (G : gS) (Q : Int → gS → Prop) : Prop :=
  (inI (G 16081 129) → ((0 : Int) ≤ G 16081 129 ∧ ((G 16081 129 : Int) < 64 ∧ (∀ G4 : gS, G4 = uG G 16188 (G 16081 129) (a1) → (inI (G4 16081 129) → ((0 : Int) ≤ a1 ∧ ((a1 : Int) < 216 ∧ (∀ G8 : gS, G8 = uG G4 16189 a1 (G4 16081 129) → (inI (G8 16081 129) → (inI ((G8 16081 129) + 1) ∧ (∀ G11 : gS, G11 = uG G8 16081 129 ((G8 16081 129) + 1) → Q 0 G11)))))))))))
set_option maxRecDepth 20000 in
theorem TX13_intoWorld_0 {a1 : Int} {G : gS} {Q : Int → gS → Prop} (ha1 : inI a1) (h : PX13_intoWorld_0 a1 G Q) : Tg W0 vX13_intoWorld_0 [rf (16081), cI (a1)] [] G (fun r G => r = 7 ∧ Q 0 G) := by
  unfold PX13_intoWorld_0 at h
  unfold vX13_intoWorld_0
  refine g_ld (v := rf _) rfl (is_R _) ?_
  refine g_getF (v := 16188) oC13 (hC13_130) rfl (Nat.le_of_ble_eq_true rfl) (Nat.le_of_ble_eq_true rfl) ?_
  refine g_ld (v := rf _) rfl (is_R _) ?_
  refine g_getI (kz := 129) oC13 rfl (Nat.le_of_ble_eq_true rfl) rfl fun i1 => ?_
  replace h := h i1
  refine g_ld (v := cI _) rfl (is_I _) ?_
  obtain ⟨q2, q3, h⟩ := h
  refine g_astI aC16188 q2 q3 ha1 (nfI aC16188) ?_
  replace h := h _ rfl
  refine g_ld (v := rf _) rfl (is_R _) ?_
  refine g_getF (v := 16189) oC13 (hC13_131) rfl (Nat.le_of_ble_eq_true rfl) (Nat.le_of_ble_eq_true rfl) ?_
  refine g_ld (v := cI _) rfl (is_I _) ?_
  refine g_ld (v := rf _) rfl (is_R _) ?_
  refine g_getI (kz := 129) oC13 rfl (Nat.le_of_ble_eq_true rfl) rfl fun i5 => ?_
  replace h := h i5
  obtain ⟨q6, q7, h⟩ := h
  refine g_astI aC16189 q6 q7 i5 (nfI aC16189) ?_
  replace h := h _ rfl
  refine g_ld (v := rf _) rfl (is_R _) ?_
  refine g_dup (ct_R _) ?_
  refine g_getI (kz := 129) oC13 rfl (Nat.le_of_ble_eq_true rfl) rfl fun i9 => ?_
  replace h := h i9
  refine g_const (v := cI (1)) rfl ?_
  refine g_add ?_
  obtain ⟨q10, h⟩ := h
  refine g_putI (kz := 129) oC13 rfl (Nat.le_of_ble_eq_true rfl) rfl q10 (zfin_no (c := 16081) (j := 129) rfl) ?_
  replace h := h _ rfl
  exact g_ret0 ⟨rfl, h⟩
abbrev PX13_intoWorld (a1 : Int) (G : gS) (Q : Int → gS → Prop) : Prop := PX13_intoWorld_0 a1 G Q
theorem TX13_intoWorld {a1 : Int} {G : gS} {Q : Int → gS → Prop} (ha1 : inI a1) (h : PX13_intoWorld a1 G Q) : Tn W0 FX13_intoWorld [rf (16081), cI (a1)] G (fun r G => r = 7 ∧ Q 0 G) := by
  unfold FX13_intoWorld
  refine g_ent (lv' := [rf (16081), cI (a1)]) (flR (flI fl0)) (Nat.le_of_ble_eq_true rfl) rfl ?_
  exact TX13_intoWorld_0 ha1 h
def PX13_numberWorld_114 (J : Nat → List Int → gS → (Int → gS → Prop) → Prop) (l1 : Int) (l2 : Int) (G : gS) (Q : Int → gS → Prop) : Prop :=
  (inI (l1 + 1) ∧ J 1 [l1 + 1] G Q)
set_option maxRecDepth 20000 in
theorem TX13_numberWorld_114 {j : Nat → rx_K} {J : Nat → List Int → gS → (Int → gS → Prop) → Prop} {l1 : Int} {l2 : Int} {l3 : Nat} {G : gS} {Q : Int → gS → Prop} (hl1 : inI l1) (hl2 : inI l2) (hl3 : l3 % 8 ≠ 1) (hj0 : ∀ (l1 : Int) (l2 : Nat) (l3 : Nat) (G : gS), (inI l1) → (l2 % 8 ≠ 1) → (l3 % 8 ≠ 1) → J 0 [l1] G Q → Tg W0 (j 0) [rf (16081), cI (l1), l2, l3] [] G (fun r G => r = 7 ∧ Q 0 G)) (hj1 : ∀ (l1 : Int) (l2 : Nat) (l3 : Nat) (G : gS), (inI l1) → (l2 % 8 ≠ 1) → (l3 % 8 ≠ 1) → J 1 [l1] G Q → Tg W0 (j 1) [rf (16081), cI (l1), l2, l3] [] G (fun r G => r = 7 ∧ Q 0 G)) (hj2 : ∀ (l1 : Int) (l2 : Int) (l3 : Nat) (G : gS), (inI l1) → (inI l2) → (l3 % 8 ≠ 1) → J 2 [l1, l2] G Q → Tg W0 (j 2) [rf (16081), cI (l1), cI (l2), l3] [] G (fun r G => r = 7 ∧ Q 0 G)) (h : PX13_numberWorld_114 J l1 l2 G Q) : Tg W0 (vX13_numberWorld_114 j) [rf (16081), cI (l1), cI (l2), l3] [] G (fun r G => r = 7 ∧ Q 0 G) := by
  unfold PX13_numberWorld_114 at h
  unfold vX13_numberWorld_114
  refine g_inc (lv' := [_, _, _, _]) rfl (Nat.le_of_ble_eq_true rfl) (Or.inr (n1_R _)) rfl ?_
  obtain ⟨q36, h⟩ := h
  exact hj1 _ _ _ _ q36 (n1_I _) hl3 h
def PX13_numberWorld_108 (J : Nat → List Int → gS → (Int → gS → Prop) → Prop) (l1 : Int) (l2 : Int) (l3 : Int) (G : gS) (Q : Int → gS → Prop) : Prop :=
  (inI (l2 + 1) ∧ J 2 [l1, l2 + 1] G Q)
set_option maxRecDepth 20000 in
theorem TX13_numberWorld_108 {j : Nat → rx_K} {J : Nat → List Int → gS → (Int → gS → Prop) → Prop} {l1 : Int} {l2 : Int} {l3 : Int} {G : gS} {Q : Int → gS → Prop} (hl1 : inI l1) (hl2 : inI l2) (hl3 : inI l3) (hj0 : ∀ (l1 : Int) (l2 : Nat) (l3 : Nat) (G : gS), (inI l1) → (l2 % 8 ≠ 1) → (l3 % 8 ≠ 1) → J 0 [l1] G Q → Tg W0 (j 0) [rf (16081), cI (l1), l2, l3] [] G (fun r G => r = 7 ∧ Q 0 G)) (hj1 : ∀ (l1 : Int) (l2 : Nat) (l3 : Nat) (G : gS), (inI l1) → (l2 % 8 ≠ 1) → (l3 % 8 ≠ 1) → J 1 [l1] G Q → Tg W0 (j 1) [rf (16081), cI (l1), l2, l3] [] G (fun r G => r = 7 ∧ Q 0 G)) (hj2 : ∀ (l1 : Int) (l2 : Int) (l3 : Nat) (G : gS), (inI l1) → (inI l2) → (l3 % 8 ≠ 1) → J 2 [l1, l2] G Q → Tg W0 (j 2) [rf (16081), cI (l1), cI (l2), l3] [] G (fun r G => r = 7 ∧ Q 0 G)) (h : PX13_numberWorld_108 J l1 l2 l3 G Q) : Tg W0 (vX13_numberWorld_108 j) [rf (16081), cI (l1), cI (l2), cI (l3)] [] G (fun r G => r = 7 ∧ Q 0 G) := by
  unfold PX13_numberWorld_108 at h
  unfold vX13_numberWorld_108
  refine g_inc (lv' := [_, _, _, _]) rfl (Nat.le_of_ble_eq_true rfl) (Or.inr (n1_I _)) rfl ?_
  obtain ⟨q37, h⟩ := h
  exact hj2 _ _ _ _ hl1 q37 (n1_I _) h
def PX13_numberWorld_51 (J : Nat → List Int → gS → (Int → gS → Prop) → Prop) (l1 : Int) (l2 : Int) (G : gS) (Q : Int → gS → Prop) : Prop :=
  ((0 : Int) ≤ l1 ∧ ((l1 : Int) < 5 ∧ (inI (G 16163 l1) → ((G 16163 l1 = -2 → PX13_numberWorld_114 J l1 l2 G Q) ∧ (¬ (G 16163 l1 = -2) → ((0 : Int) ≤ l1 ∧ ((l1 : Int) < 5 ∧ (inI (G 16163 l1) → ((0 : Int) ≤ G 16163 l1 ∧ ((G 16163 l1 : Int) < 18 ∧ (inI (G 16097 (G 16163 l1)) → ((l2 < G 16097 (G 16163 l1) → ((0 : Int) ≤ l1 ∧ ((l1 : Int) < 5 ∧ (inI (G 16163 l1) → (inI (((G 16163 l1) * 12) + l2) ∧ ((0 : Int) ≤ ((G 16163 l1) * 12) + l2 ∧ ((((G 16163 l1) * 12) + l2 : Int) < 216 ∧ (inL (G 16098 (((G 16163 l1) * 12) + l2)) → PX13_find (G 16098 (((G 16163 l1) * 12) + l2)) G (fun r31 G30 => inI r31 → ((r31 = ((G 16163 l1) * 12) + l2 → PX13_intoWorld (((G 16163 l1) * 12) + l2) G30 (fun _ G34 => PX13_numberWorld_108 J l1 l2 (((G 16163 l1) * 12) + l2) G34 Q)) ∧ (¬ (r31 = ((G 16163 l1) * 12) + l2) → PX13_numberWorld_108 J l1 l2 (((G 16163 l1) * 12) + l2) G30 Q))))))))))) ∧ (¬ (l2 < G 16097 (G 16163 l1)) → PX13_numberWorld_114 J l1 l2 G Q)))))))))))))
set_option maxRecDepth 20000 in
theorem TX13_numberWorld_51 {j : Nat → rx_K} {J : Nat → List Int → gS → (Int → gS → Prop) → Prop} {l1 : Int} {l2 : Int} {l3 : Nat} {G : gS} {Q : Int → gS → Prop} (hl1 : inI l1) (hl2 : inI l2) (hl3 : l3 % 8 ≠ 1) (hj0 : ∀ (l1 : Int) (l2 : Nat) (l3 : Nat) (G : gS), (inI l1) → (l2 % 8 ≠ 1) → (l3 % 8 ≠ 1) → J 0 [l1] G Q → Tg W0 (j 0) [rf (16081), cI (l1), l2, l3] [] G (fun r G => r = 7 ∧ Q 0 G)) (hj1 : ∀ (l1 : Int) (l2 : Nat) (l3 : Nat) (G : gS), (inI l1) → (l2 % 8 ≠ 1) → (l3 % 8 ≠ 1) → J 1 [l1] G Q → Tg W0 (j 1) [rf (16081), cI (l1), l2, l3] [] G (fun r G => r = 7 ∧ Q 0 G)) (hj2 : ∀ (l1 : Int) (l2 : Int) (l3 : Nat) (G : gS), (inI l1) → (inI l2) → (l3 % 8 ≠ 1) → J 2 [l1, l2] G Q → Tg W0 (j 2) [rf (16081), cI (l1), cI (l2), l3] [] G (fun r G => r = 7 ∧ Q 0 G)) (h : PX13_numberWorld_51 J l1 l2 G Q) : Tg W0 (vX13_numberWorld_51 j) [rf (16081), cI (l1), cI (l2), l3] [] G (fun r G => r = 7 ∧ Q 0 G) := by
  unfold PX13_numberWorld_51 at h
  unfold vX13_numberWorld_51
  refine g_ld (v := rf _) rfl (is_R _) ?_
  refine g_getF (v := 16163) oC13 (hC13_90) rfl (Nat.le_of_ble_eq_true rfl) (Nat.le_of_ble_eq_true rfl) ?_
  refine g_ld (v := cI _) rfl (is_I _) ?_
  obtain ⟨q12, q13, h⟩ := h
  refine g_aldI aC16163 q12 q13 rfl fun i14 => ?_
  replace h := h i14
  refine g_const (v := cI (-2)) rfl ?_
  refine g_eq2 i14 ⟨by omega, by omega⟩ (fun b15 => ?_) (fun b15 => ?_)
  · replace h := h.1 b15
    exact TX13_numberWorld_114 hl1 hl2 hl3 hj0 hj1 hj2 h
  · replace h := h.2 b15
    unfold vX13_numberWorld_62
    refine g_ld (v := cI _) rfl (is_I _) ?_
    refine g_ld (v := rf _) rfl (is_R _) ?_
    refine g_getF (v := 16097) oC13 (hC13_23) rfl (Nat.le_of_ble_eq_true rfl) (Nat.le_of_ble_eq_true rfl) ?_
    refine g_ld (v := rf _) rfl (is_R _) ?_
    refine g_getF (v := 16163) oC13 (hC13_90) rfl (Nat.le_of_ble_eq_true rfl) (Nat.le_of_ble_eq_true rfl) ?_
    refine g_ld (v := cI _) rfl (is_I _) ?_
    obtain ⟨q16, q17, h⟩ := h
    refine g_aldI aC16163 q16 q17 rfl fun i18 => ?_
    replace h := h i18
    obtain ⟨q19, q20, h⟩ := h
    refine g_aldI aC16097 q19 q20 rfl fun i21 => ?_
    replace h := h i21
    refine g_lt2 hl2 i21 (fun b22 => ?_) (fun b22 => ?_)
    · replace h := h.1 b22
      unfold vX13_numberWorld_77
      refine g_ld (v := rf _) rfl (is_R _) ?_
      refine g_getF (v := 16163) oC13 (hC13_90) rfl (Nat.le_of_ble_eq_true rfl) (Nat.le_of_ble_eq_true rfl) ?_
      refine g_ld (v := cI _) rfl (is_I _) ?_
      obtain ⟨q23, q24, h⟩ := h
      refine g_aldI aC16163 q23 q24 rfl fun i25 => ?_
      replace h := h i25
      refine g_const (v := cI (12)) rfl ?_
      refine g_mul ?_
      refine g_ld (v := cI _) rfl (is_I _) ?_
      refine g_add ?_
      refine g_st (lv' := [_, _, _, _]) (is_I _) (Nat.le_of_ble_eq_true rfl) (Or.inr (n1_I _)) rfl ?_
      obtain ⟨q26, h⟩ := h
      refine g_ld (v := rf _) rfl (is_R _) ?_
      refine g_ld (v := rf _) rfl (is_R _) ?_
      refine g_getF (v := 16098) oC13 (hC13_24) rfl (Nat.le_of_ble_eq_true rfl) (Nat.le_of_ble_eq_true rfl) ?_
      refine g_ld (v := cI _) rfl (is_I _) ?_
      obtain ⟨q27, q28, h⟩ := h
      refine g_aldL aC16098 q27 q28 rfl fun i29 => ?_
      replace h := h i29
      refine g_callV (As := [_]) (ci := 13) oC13 (fun _ => rfl) ?_
      refine g_go1 (Nat.le_of_ble_eq_true rfl) (Tn_w (TX13_find i29 h) fun _ G30 ⟨r31, e, i32, h⟩ => ?_)
      subst e
      refine ⟨n7_I _, ?_⟩
      replace h := h i32
      refine g_ld (v := cI _) rfl (is_I _) ?_
      refine g_eq2 i32 q26 (fun b33 => ?_) (fun b33 => ?_)
      · replace h := h.1 b33
        unfold vX13_numberWorld_103
        refine g_ld (v := rf _) rfl (is_R _) ?_
        refine g_ld (v := cI _) rfl (is_I _) ?_
        refine g_callV (As := [_]) (ci := 13) oC13 (fun _ => rfl) ?_
        refine g_go0 (Nat.le_of_ble_eq_true rfl) (Tn_w (TX13_intoWorld q26 h) fun _ G34 ⟨e, h⟩ => ⟨e, ?_⟩)
        exact TX13_numberWorld_108 hl1 hl2 q26 hj0 hj1 hj2 h
      · replace h := h.2 b33
        exact TX13_numberWorld_108 hl1 hl2 q26 hj0 hj1 hj2 h
    · replace h := h.2 b22
      exact TX13_numberWorld_114 hl1 hl2 hl3 hj0 hj1 hj2 h
def PX13_numberWorld_44 (J : Nat → List Int → gS → (Int → gS → Prop) → Prop) (l1 : Int) (G : gS) (Q : Int → gS → Prop) : Prop :=
  ((l1 < 5 → PX13_numberWorld_51 J l1 0 G Q) ∧ (¬ (l1 < 5) → Q 0 G))
set_option maxRecDepth 20000 in
theorem TX13_numberWorld_44 {j : Nat → rx_K} {J : Nat → List Int → gS → (Int → gS → Prop) → Prop} {l1 : Int} {l2 : Nat} {l3 : Nat} {G : gS} {Q : Int → gS → Prop} (hl1 : inI l1) (hl2 : l2 % 8 ≠ 1) (hl3 : l3 % 8 ≠ 1) (hj0 : ∀ (l1 : Int) (l2 : Nat) (l3 : Nat) (G : gS), (inI l1) → (l2 % 8 ≠ 1) → (l3 % 8 ≠ 1) → J 0 [l1] G Q → Tg W0 (j 0) [rf (16081), cI (l1), l2, l3] [] G (fun r G => r = 7 ∧ Q 0 G)) (hj1 : ∀ (l1 : Int) (l2 : Nat) (l3 : Nat) (G : gS), (inI l1) → (l2 % 8 ≠ 1) → (l3 % 8 ≠ 1) → J 1 [l1] G Q → Tg W0 (j 1) [rf (16081), cI (l1), l2, l3] [] G (fun r G => r = 7 ∧ Q 0 G)) (hj2 : ∀ (l1 : Int) (l2 : Int) (l3 : Nat) (G : gS), (inI l1) → (inI l2) → (l3 % 8 ≠ 1) → J 2 [l1, l2] G Q → Tg W0 (j 2) [rf (16081), cI (l1), cI (l2), l3] [] G (fun r G => r = 7 ∧ Q 0 G)) (h : PX13_numberWorld_44 J l1 G Q) : Tg W0 (vX13_numberWorld_44 j) [rf (16081), cI (l1), l2, l3] [] G (fun r G => r = 7 ∧ Q 0 G) := by
  unfold PX13_numberWorld_44 at h
  unfold vX13_numberWorld_44
  refine g_ld (v := cI _) rfl (is_I _) ?_
  refine g_const (v := cI (5)) rfl ?_
  refine g_lt2 hl1 ⟨by omega, by omega⟩ (fun b11 => ?_) (fun b11 => ?_)
  · replace h := h.1 b11
    unfold vX13_numberWorld_49
    refine g_const (v := cI (0)) rfl ?_
    refine g_st (lv' := [_, _, _, _]) (is_I _) (Nat.le_of_ble_eq_true rfl) (Or.inr (n1_I _)) rfl ?_
    exact TX13_numberWorld_51 hl1 ⟨by omega, by omega⟩ hl3 hj0 hj1 hj2 h
  · replace h := h.2 b11
    unfold vX13_numberWorld_120
    exact g_ret0 ⟨rfl, h⟩
def PX13_numberWorld_2 (J : Nat → List Int → gS → (Int → gS → Prop) → Prop) (l1 : Int) (G : gS) (Q : Int → gS → Prop) : Prop :=
  ((l1 < 216 → ((0 : Int) ≤ l1 ∧ ((l1 : Int) < 216 ∧ (∀ G4 : gS, G4 = uG G 16189 l1 (-2) → (inI (l1 + 1) ∧ J 0 [l1 + 1] G4 Q))))) ∧ (¬ (l1 < 216) → (∀ G6 : gS, G6 = uG G 16081 129 (0) → PX13_intoWorld 204 G6 (fun _ G7 => PX13_intoWorld 205 G7 (fun _ G9 => PX13_numberWorld_44 J 0 G9 Q)))))
set_option maxRecDepth 20000 in
theorem TX13_numberWorld_2 {j : Nat → rx_K} {J : Nat → List Int → gS → (Int → gS → Prop) → Prop} {l1 : Int} {l2 : Nat} {l3 : Nat} {G : gS} {Q : Int → gS → Prop} (hl1 : inI l1) (hl2 : l2 % 8 ≠ 1) (hl3 : l3 % 8 ≠ 1) (hj0 : ∀ (l1 : Int) (l2 : Nat) (l3 : Nat) (G : gS), (inI l1) → (l2 % 8 ≠ 1) → (l3 % 8 ≠ 1) → J 0 [l1] G Q → Tg W0 (j 0) [rf (16081), cI (l1), l2, l3] [] G (fun r G => r = 7 ∧ Q 0 G)) (hj1 : ∀ (l1 : Int) (l2 : Nat) (l3 : Nat) (G : gS), (inI l1) → (l2 % 8 ≠ 1) → (l3 % 8 ≠ 1) → J 1 [l1] G Q → Tg W0 (j 1) [rf (16081), cI (l1), l2, l3] [] G (fun r G => r = 7 ∧ Q 0 G)) (hj2 : ∀ (l1 : Int) (l2 : Int) (l3 : Nat) (G : gS), (inI l1) → (inI l2) → (l3 % 8 ≠ 1) → J 2 [l1, l2] G Q → Tg W0 (j 2) [rf (16081), cI (l1), cI (l2), l3] [] G (fun r G => r = 7 ∧ Q 0 G)) (h : PX13_numberWorld_2 J l1 G Q) : Tg W0 (vX13_numberWorld_2 j) [rf (16081), cI (l1), l2, l3] [] G (fun r G => r = 7 ∧ Q 0 G) := by
  unfold PX13_numberWorld_2 at h
  unfold vX13_numberWorld_2
  refine g_ld (v := cI _) rfl (is_I _) ?_
  refine g_const (v := cI (216)) rfl ?_
  refine g_lt2 hl1 ⟨by omega, by omega⟩ (fun b1 => ?_) (fun b1 => ?_)
  · replace h := h.1 b1
    unfold vX13_numberWorld_9
    refine g_ld (v := rf _) rfl (is_R _) ?_
    refine g_getF (v := 16189) oC13 (hC13_131) rfl (Nat.le_of_ble_eq_true rfl) (Nat.le_of_ble_eq_true rfl) ?_
    refine g_ld (v := cI _) rfl (is_I _) ?_
    refine g_const (v := cI (-2)) rfl ?_
    obtain ⟨q2, q3, h⟩ := h
    refine g_astI aC16189 q2 q3 ⟨by omega, by omega⟩ (nfI aC16189) ?_
    replace h := h _ rfl
    refine g_inc (lv' := [_, _, _, _]) rfl (Nat.le_of_ble_eq_true rfl) (Or.inr (n1_R _)) rfl ?_
    obtain ⟨q5, h⟩ := h
    exact hj0 _ _ _ _ q5 hl2 hl3 h
  · replace h := h.2 b1
    unfold vX13_numberWorld_23
    refine g_ld (v := rf _) rfl (is_R _) ?_
    refine g_const (v := cI (0)) rfl ?_
    refine g_putI (kz := 129) oC13 rfl (Nat.le_of_ble_eq_true rfl) rfl ⟨by omega, by omega⟩ (zfin_no (c := 16081) (j := 129) rfl) ?_
    replace h := h _ rfl
    refine g_ld (v := rf _) rfl (is_R _) ?_
    refine g_const (v := cI (204)) rfl ?_
    refine g_callV (As := [_]) (ci := 13) oC13 (fun _ => rfl) ?_
    refine g_go0 (Nat.le_of_ble_eq_true rfl) (Tn_w (TX13_intoWorld ⟨by omega, by omega⟩ h) fun _ G7 ⟨e, h⟩ => ⟨e, ?_⟩)
    refine g_ld (v := rf _) rfl (is_R _) ?_
    refine g_const (v := cI (205)) rfl ?_
    refine g_callV (As := [_]) (ci := 13) oC13 (fun _ => rfl) ?_
    refine g_go0 (Nat.le_of_ble_eq_true rfl) (Tn_w (TX13_intoWorld ⟨by omega, by omega⟩ h) fun _ G9 ⟨e, h⟩ => ⟨e, ?_⟩)
    refine g_const (v := cI (0)) rfl ?_
    refine g_st (lv' := [_, _, _, _]) (is_I _) (Nat.le_of_ble_eq_true rfl) (Or.inr (n1_R _)) rfl ?_
    exact TX13_numberWorld_44 ⟨by omega, by omega⟩ hl2 hl3 hj0 hj1 hj2 h
def PX13_numberWorld_0 (J : Nat → List Int → gS → (Int → gS → Prop) → Prop)  (G : gS) (Q : Int → gS → Prop) : Prop :=
  PX13_numberWorld_2 J 0 G Q
set_option maxRecDepth 20000 in
theorem TX13_numberWorld_0 {j : Nat → rx_K} {J : Nat → List Int → gS → (Int → gS → Prop) → Prop}  {G : gS} {Q : Int → gS → Prop}  (hj0 : ∀ (l1 : Int) (l2 : Nat) (l3 : Nat) (G : gS), (inI l1) → (l2 % 8 ≠ 1) → (l3 % 8 ≠ 1) → J 0 [l1] G Q → Tg W0 (j 0) [rf (16081), cI (l1), l2, l3] [] G (fun r G => r = 7 ∧ Q 0 G)) (hj1 : ∀ (l1 : Int) (l2 : Nat) (l3 : Nat) (G : gS), (inI l1) → (l2 % 8 ≠ 1) → (l3 % 8 ≠ 1) → J 1 [l1] G Q → Tg W0 (j 1) [rf (16081), cI (l1), l2, l3] [] G (fun r G => r = 7 ∧ Q 0 G)) (hj2 : ∀ (l1 : Int) (l2 : Int) (l3 : Nat) (G : gS), (inI l1) → (inI l2) → (l3 % 8 ≠ 1) → J 2 [l1, l2] G Q → Tg W0 (j 2) [rf (16081), cI (l1), cI (l2), l3] [] G (fun r G => r = 7 ∧ Q 0 G)) (h : PX13_numberWorld_0 J  G Q) : Tg W0 (vX13_numberWorld_0 j) [rf (16081), 7, 7, 7] [] G (fun r G => r = 7 ∧ Q 0 G) := by
  unfold PX13_numberWorld_0 at h
  unfold vX13_numberWorld_0
  refine g_const (v := cI (0)) rfl ?_
  refine g_st (lv' := [_, _, _, _]) (is_I _) (Nat.le_of_ble_eq_true rfl) (Or.inr (n1_R _)) rfl ?_
  exact TX13_numberWorld_2 ⟨by omega, by omega⟩ (show 7 % 8 ≠ 1 by decide) (show 7 % 8 ≠ 1 by decide) hj0 hj1 hj2 h
def PX13_numberWorld_J : Nat → Nat → List Int → gS → (Int → gS → Prop) → Prop
  | 0, _, _, _, _ => False
  | f + 1, h, L, G, Q => match h, L with
    | 0, [l1] => PX13_numberWorld_2 (PX13_numberWorld_J f) l1 G Q
    | 1, [l1] => PX13_numberWorld_44 (PX13_numberWorld_J f) l1 G Q
    | 2, [l1, l2] => PX13_numberWorld_51 (PX13_numberWorld_J f) l1 l2 G Q
    | _, _ => False
theorem TX13_numberWorld_J {Q : Int → gS → Prop} : ∀ f N : Nat, f ≤ N → (∀ (l1 : Int) (l2 : Nat) (l3 : Nat) (G : gS), (inI l1) → (l2 % 8 ≠ 1) → (l3 % 8 ≠ 1) → (PX13_numberWorld_J f) 0 [l1] G Q → Tg W0 (rx_J vhX13_numberWorld N 0) [rf (16081), cI (l1), l2, l3] [] G (fun r G => r = 7 ∧ Q 0 G)) ∧ (∀ (l1 : Int) (l2 : Nat) (l3 : Nat) (G : gS), (inI l1) → (l2 % 8 ≠ 1) → (l3 % 8 ≠ 1) → (PX13_numberWorld_J f) 1 [l1] G Q → Tg W0 (rx_J vhX13_numberWorld N 1) [rf (16081), cI (l1), l2, l3] [] G (fun r G => r = 7 ∧ Q 0 G)) ∧ (∀ (l1 : Int) (l2 : Int) (l3 : Nat) (G : gS), (inI l1) → (inI l2) → (l3 % 8 ≠ 1) → (PX13_numberWorld_J f) 2 [l1, l2] G Q → Tg W0 (rx_J vhX13_numberWorld N 2) [rf (16081), cI (l1), cI (l2), l3] [] G (fun r G => r = 7 ∧ Q 0 G)) := by
  intro f
  induction f with
  | zero => exact fun N _ => ⟨fun _ _ _ _ _ _ _ h => h.elim, fun _ _ _ _ _ _ _ h => h.elim, fun _ _ _ _ _ _ _ h => h.elim⟩
  | succ f ih =>
    intro N hN
    obtain ⟨M, rfl⟩ : ∃ M, N = M + 1 := ⟨N - 1, by omega⟩
    have ih := ih M (by omega)
    exact ⟨fun _ _ _ _ hl1 hl2 hl3 h => show Tg W0 (vX13_numberWorld_2 (rx_J vhX13_numberWorld M)) _ _ _ _ from TX13_numberWorld_2 hl1 hl2 hl3 ih.1 ih.2.1 ih.2.2 h, fun _ _ _ _ hl1 hl2 hl3 h => show Tg W0 (vX13_numberWorld_44 (rx_J vhX13_numberWorld M)) _ _ _ _ from TX13_numberWorld_44 hl1 hl2 hl3 ih.1 ih.2.1 ih.2.2 h, fun _ _ _ _ hl1 hl2 hl3 h => show Tg W0 (vX13_numberWorld_51 (rx_J vhX13_numberWorld M)) _ _ _ _ from TX13_numberWorld_51 hl1 hl2 hl3 ih.1 ih.2.1 ih.2.2 h⟩
def PX13_numberWorld  (G : gS) (Q : Int → gS → Prop) : Prop := ∃ f : Nat, f ≤ 4000000000 ∧ PX13_numberWorld_0 (PX13_numberWorld_J f)  G Q
theorem TX13_numberWorld  {G : gS} {Q : Int → gS → Prop}  (h : PX13_numberWorld  G Q) : Tn W0 FX13_numberWorld [rf (16081)] G (fun r G => r = 7 ∧ Q 0 G) := by
  obtain ⟨f, hf, h⟩ := h
  have hJ := TX13_numberWorld_J (Q := Q) f 4000000000 hf
  unfold FX13_numberWorld
  refine g_ent (lv' := [rf (16081), 7, 7, 7]) (flR fl0) (Nat.le_of_ble_eq_true rfl) rfl ?_
  exact TX13_numberWorld_0  hJ.1 hJ.2.1 hJ.2.2 h
def PX13_settle_31 (J : Nat → List Int → gS → (Int → gS → Prop) → Prop) (l1 : Int) (G : gS) (Q : Int → gS → Prop) : Prop :=
  ((l1 < 7344 → ((0 : Int) ≤ l1 ∧ ((l1 : Int) < 7344 ∧ (∀ G12 : gS, G12 = uG G 16199 l1 (0) → (inI (l1 + 1) ∧ J 0 [l1 + 1] G12 Q))))) ∧ (¬ (l1 < 7344) → Q 0 G))
set_option maxRecDepth 20000 in
theorem TX13_settle_31 {j : Nat → rx_K} {J : Nat → List Int → gS → (Int → gS → Prop) → Prop} {l1 : Int} {G : gS} {Q : Int → gS → Prop} (hl1 : inI l1) (hj0 : ∀ (l1 : Int) (G : gS), (inI l1) → J 0 [l1] G Q → Tg W0 (j 0) [rf (16081), cI (l1)] [] G (fun r G => r = 7 ∧ Q 0 G)) (h : PX13_settle_31 J l1 G Q) : Tg W0 (vX13_settle_31 j) [rf (16081), cI (l1)] [] G (fun r G => r = 7 ∧ Q 0 G) := by
  unfold PX13_settle_31 at h
  unfold vX13_settle_31
  refine g_ld (v := cI _) rfl (is_I _) ?_
  refine g_const (v := cI (7344)) rfl ?_
  refine g_lt2 hl1 ⟨by omega, by omega⟩ (fun b9 => ?_) (fun b9 => ?_)
  · replace h := h.1 b9
    unfold vX13_settle_38
    refine g_ld (v := rf _) rfl (is_R _) ?_
    refine g_getF (v := 16199) oC13 (hC13_148) rfl (Nat.le_of_ble_eq_true rfl) (Nat.le_of_ble_eq_true rfl) ?_
    refine g_ld (v := cI _) rfl (is_I _) ?_
    refine g_const (v := cI (0)) rfl ?_
    obtain ⟨q10, q11, h⟩ := h
    refine g_astI aC16199 q10 q11 ⟨by omega, by omega⟩ (nfI aC16199) ?_
    replace h := h _ rfl
    refine g_inc (lv' := [_, _]) rfl (Nat.le_of_ble_eq_true rfl) (Or.inr (n1_R _)) rfl ?_
    obtain ⟨q13, h⟩ := h
    exact hj0 _ _ q13 h
  · replace h := h.2 b9
    unfold vX13_settle_51
    exact g_ret0 ⟨rfl, h⟩
def PX13_settle_0 (J : Nat → List Int → gS → (Int → gS → Prop) → Prop)  (G : gS) (Q : Int → gS → Prop) : Prop :=
  PX13_numberWorld G (fun _ G1 => (∀ G3 : gS, G3 = uG G1 16081 145 (0) → PX13_clearSet 0 G3 (fun _ G4 => (∀ G6 : gS, G6 = uG G4 16081 136 (0) → (∀ G7 : gS, G7 = uG G6 16081 151 (0) → (∀ G8 : gS, G8 = uG G7 16081 153 (0) → PX13_settle_31 J 0 G8 Q))))))
set_option maxRecDepth 20000 in
theorem TX13_settle_0 {j : Nat → rx_K} {J : Nat → List Int → gS → (Int → gS → Prop) → Prop}  {G : gS} {Q : Int → gS → Prop}  (hj0 : ∀ (l1 : Int) (G : gS), (inI l1) → J 0 [l1] G Q → Tg W0 (j 0) [rf (16081), cI (l1)] [] G (fun r G => r = 7 ∧ Q 0 G)) (h : PX13_settle_0 J  G Q) : Tg W0 (vX13_settle_0 j) [rf (16081), 7] [] G (fun r G => r = 7 ∧ Q 0 G) := by
  unfold PX13_settle_0 at h
  unfold vX13_settle_0
  refine g_ld (v := rf _) rfl (is_R _) ?_
  refine g_callV (As := []) (ci := 13) oC13 (fun _ => rfl) ?_
  refine g_go0 (Nat.le_of_ble_eq_true rfl) (Tn_w (TX13_numberWorld  h) fun _ G1 ⟨e, h⟩ => ⟨e, ?_⟩)
  refine g_ld (v := rf _) rfl (is_R _) ?_
  refine g_const (v := cI (0)) rfl ?_
  refine g_putI (kz := 145) oC13 rfl (Nat.le_of_ble_eq_true rfl) rfl ⟨by omega, by omega⟩ (zfin_no (c := 16081) (j := 145) rfl) ?_
  replace h := h _ rfl
  refine g_ld (v := rf _) rfl (is_R _) ?_
  refine g_const (v := cI (0)) rfl ?_
  refine g_callV (As := [_]) (ci := 13) oC13 (fun _ => rfl) ?_
  refine g_go0 (Nat.le_of_ble_eq_true rfl) (Tn_w (TX13_clearSet ⟨by omega, by omega⟩ h) fun _ G4 ⟨e, h⟩ => ⟨e, ?_⟩)
  refine g_ld (v := rf _) rfl (is_R _) ?_
  refine g_const (v := cI (0)) rfl ?_
  refine g_putI (kz := 136) oC13 rfl (Nat.le_of_ble_eq_true rfl) rfl ⟨by omega, by omega⟩ (zfin_no (c := 16081) (j := 136) rfl) ?_
  replace h := h _ rfl
  refine g_ld (v := rf _) rfl (is_R _) ?_
  refine g_const (v := cI (0)) rfl ?_
  refine g_putI (kz := 151) oC13 rfl (Nat.le_of_ble_eq_true rfl) rfl ⟨by omega, by omega⟩ (zfin_no (c := 16081) (j := 151) rfl) ?_
  replace h := h _ rfl
  refine g_ld (v := rf _) rfl (is_R _) ?_
  refine g_const (v := cI (0)) rfl ?_
  refine g_putI (kz := 153) oC13 rfl (Nat.le_of_ble_eq_true rfl) rfl ⟨by omega, by omega⟩ (zfin_no (c := 16081) (j := 153) rfl) ?_
  replace h := h _ rfl
  refine g_const (v := cI (0)) rfl ?_
  refine g_st (lv' := [_, _]) (is_I _) (Nat.le_of_ble_eq_true rfl) (Or.inr (n1_R _)) rfl ?_
  exact TX13_settle_31 ⟨by omega, by omega⟩ hj0 h
def PX13_settle_J : Nat → Nat → List Int → gS → (Int → gS → Prop) → Prop
  | 0, _, _, _, _ => False
  | f + 1, h, L, G, Q => match h, L with
    | 0, [l1] => PX13_settle_31 (PX13_settle_J f) l1 G Q
    | _, _ => False
theorem TX13_settle_J {Q : Int → gS → Prop} : ∀ f N : Nat, f ≤ N → (∀ (l1 : Int) (G : gS), (inI l1) → (PX13_settle_J f) 0 [l1] G Q → Tg W0 (rx_J vhX13_settle N 0) [rf (16081), cI (l1)] [] G (fun r G => r = 7 ∧ Q 0 G)) := by
  intro f
  induction f with
  | zero => exact fun N _ => fun _ _ _ h => h.elim
  | succ f ih =>
    intro N hN
    obtain ⟨M, rfl⟩ : ∃ M, N = M + 1 := ⟨N - 1, by omega⟩
    have ih := ih M (by omega)
    exact fun _ _ hl1 h => show Tg W0 (vX13_settle_31 (rx_J vhX13_settle M)) _ _ _ _ from TX13_settle_31 hl1 ih h
def PX13_settle  (G : gS) (Q : Int → gS → Prop) : Prop := ∃ f : Nat, f ≤ 4000000000 ∧ PX13_settle_0 (PX13_settle_J f)  G Q
theorem TX13_settle  {G : gS} {Q : Int → gS → Prop}  (h : PX13_settle  G Q) : Tn W0 FX13_settle [rf (16081)] G (fun r G => r = 7 ∧ Q 0 G) := by
  obtain ⟨f, hf, h⟩ := h
  have hJ := TX13_settle_J (Q := Q) f 4000000000 hf
  unfold FX13_settle
  refine g_ent (lv' := [rf (16081), 7]) (flR fl0) (Nat.le_of_ble_eq_true rfl) rfl ?_
  exact TX13_settle_0  hJ h
def PX13_pick_55 (l1 : Int) (l2 : Int) (l3 : Int) (s0 : Int) (s1 : Int) (s2 : Int) (G : gS) (Q : Int → gS → Prop) : Prop :=
  (∃ n17, isA W0 0 n17 (s0) ∧ ((0 : Int) ≤ s1 ∧ ((s1 : Int) < n17 ∧ (∀ G21 : gS, G21 = uG G s0 s1 (s2) → PX13_settle G21 (fun _ G22 => Q (l3) G22)))))
set_option maxRecDepth 20000 in
theorem TX13_pick_55 {l1 : Int} {l2 : Int} {l3 : Int} {s0 : Int} {s1 : Int} {s2 : Int} {G : gS} {Q : Int → gS → Prop} (hl1 : inI l1) (hl2 : inI l2) (hl3 : inI l3) (hs1 : inI s1) (hs2 : inI s2) (h : PX13_pick_55 l1 l2 l3 s0 s1 s2 G Q) : Tg W0 vX13_pick_55 [rf (16081), cI (l1), cI (l2), cI (l3)] [cI (s2), cI (s1), rf (s0)] G (fun r G => ∃ v, r = cI v ∧ inI v ∧ Q v G) := by
  unfold PX13_pick_55 at h
  unfold vX13_pick_55
  obtain ⟨n17, q18, h⟩ := h
  obtain ⟨q19, q20, h⟩ := h
  refine g_astI q18 q19 q20 hs2 (nfI q18) ?_
  replace h := h _ rfl
  refine g_ld (v := rf _) rfl (is_R _) ?_
  refine g_callV (As := []) (ci := 13) oC13 (fun _ => rfl) ?_
  refine g_go0 (Nat.le_of_ble_eq_true rfl) (Tn_w (TX13_settle  h) fun _ G22 ⟨e, h⟩ => ⟨e, ?_⟩)
  refine g_ld (v := cI _) rfl (is_I _) ?_
  exact g_ret1 (is_I _) ⟨_, rfl, hl3, h⟩
def PX13_pick_27 (l1 : Int) (l2 : Int) (G : gS) (Q : Int → gS → Prop) : Prop :=
  PX13_picked l1 G (fun r11 G10 => inI r11 → ((l2 = -2 → PX13_pick_55 l1 l2 r11 16163 l1 (-2) G10 Q) ∧ (¬ (l2 = -2) → PX13_slotAt l1 l2 G10 (fun r15 G14 => inI r15 → PX13_pick_55 l1 l2 r11 16163 l1 r15 G14 Q))))
set_option maxRecDepth 20000 in
theorem TX13_pick_27 {l1 : Int} {l2 : Int} {l3 : Nat} {G : gS} {Q : Int → gS → Prop} (hl1 : inI l1) (hl2 : inI l2) (hl3 : l3 % 8 ≠ 1) (h : PX13_pick_27 l1 l2 G Q) : Tg W0 vX13_pick_27 [rf (16081), cI (l1), cI (l2), l3] [] G (fun r G => ∃ v, r = cI v ∧ inI v ∧ Q v G) := by
  unfold PX13_pick_27 at h
  unfold vX13_pick_27
  refine g_ld (v := rf _) rfl (is_R _) ?_
  refine g_ld (v := cI _) rfl (is_I _) ?_
  refine g_callV (As := [_]) (ci := 13) oC13 (fun _ => rfl) ?_
  refine g_go1 (Nat.le_of_ble_eq_true rfl) (Tn_w (TX13_picked hl1 h) fun _ G10 ⟨r11, e, i12, h⟩ => ?_)
  subst e
  refine ⟨n7_I _, ?_⟩
  replace h := h i12
  refine g_st (lv' := [_, _, _, _]) (is_I _) (Nat.le_of_ble_eq_true rfl) (Or.inr (n1_I _)) rfl ?_
  refine g_ld (v := rf _) rfl (is_R _) ?_
  refine g_getF (v := 16163) oC13 (hC13_90) rfl (Nat.le_of_ble_eq_true rfl) (Nat.le_of_ble_eq_true rfl) ?_
  refine g_ld (v := cI _) rfl (is_I _) ?_
  refine g_ld (v := cI _) rfl (is_I _) ?_
  refine g_const (v := cI (-2)) rfl ?_
  refine g_eq2 hl2 ⟨by omega, by omega⟩ (fun b13 => ?_) (fun b13 => ?_)
  · replace h := h.1 b13
    unfold vX13_pick_44
    refine g_const (v := cI (-2)) rfl ?_
    exact TX13_pick_55 hl1 hl2 i12 hl1 ⟨by omega, by omega⟩ h
  · replace h := h.2 b13
    unfold vX13_pick_49
    refine g_ld (v := rf _) rfl (is_R _) ?_
    refine g_ld (v := cI _) rfl (is_I _) ?_
    refine g_ld (v := cI _) rfl (is_I _) ?_
    refine g_callV (As := [_, _]) (ci := 13) oC13 (fun _ => rfl) ?_
    refine g_go1 (by simp only [cs_c, cs_0, ct_I, ct_L, ct_R]; exact Nat.le_of_ble_eq_true rfl) (Tn_w (TX13_slotAt hl1 hl2 h) fun _ G14 ⟨r15, e, i16, h⟩ => ?_)
    subst e
    refine ⟨n7_I _, ?_⟩
    replace h := h i16
    exact TX13_pick_55 hl1 hl2 i12 hl1 i16 h
def PX13_pick_25 (l1 : Int) (l2 : Int) (G : gS) (Q : Int → gS → Prop) : Prop :=
  Q (-1) G
set_option maxRecDepth 20000 in
theorem TX13_pick_25 {l1 : Int} {l2 : Int} {l3 : Nat} {G : gS} {Q : Int → gS → Prop} (hl1 : inI l1) (hl2 : inI l2) (hl3 : l3 % 8 ≠ 1) (h : PX13_pick_25 l1 l2 G Q) : Tg W0 vX13_pick_25 [rf (16081), cI (l1), cI (l2), l3] [] G (fun r G => ∃ v, r = cI v ∧ inI v ∧ Q v G) := by
  unfold PX13_pick_25 at h
  unfold vX13_pick_25
  refine g_const (v := cI (-1)) rfl ?_
  exact g_ret1 (is_I _) ⟨_, rfl, ⟨by omega, by omega⟩, h⟩
def PX13_pick_0 (a1 : Int) (a2 : Int) (G : gS) (Q : Int → gS → Prop) : Prop :=
  PX13_isLib a1 G (fun r2 G1 => (0 ≤ r2 ∧ r2 ≤ 1) → ((r2 = 0 → PX13_pick_25 a1 a2 G1 Q) ∧ (¬ (r2 = 0) → ((a2 = -2 → PX13_pick_27 a1 a2 G1 Q) ∧ (¬ (a2 = -2) → PX13_slotAt a1 a2 G1 (fun r7 G6 => inI r7 → ((r7 = -2 → PX13_pick_25 a1 a2 G6 Q) ∧ (¬ (r7 = -2) → PX13_pick_27 a1 a2 G6 Q))))))))
set_option maxRecDepth 20000 in
theorem TX13_pick_0 {a1 : Int} {a2 : Int} {G : gS} {Q : Int → gS → Prop} (ha1 : inI a1) (ha2 : inI a2) (h : PX13_pick_0 a1 a2 G Q) : Tg W0 vX13_pick_0 [rf (16081), cI (a1), cI (a2), 7] [] G (fun r G => ∃ v, r = cI v ∧ inI v ∧ Q v G) := by
  unfold PX13_pick_0 at h
  unfold vX13_pick_0
  refine g_ld (v := rf _) rfl (is_R _) ?_
  refine g_ld (v := cI _) rfl (is_I _) ?_
  refine g_callV (As := [_]) (ci := 13) oC13 (fun _ => rfl) ?_
  refine g_go1 (Nat.le_of_ble_eq_true rfl) (Tn_w (TX13_isLib ha1 h) fun _ G1 ⟨r2, e, i3, h⟩ => ?_)
  subst e
  refine ⟨n7_I _, ?_⟩
  replace h := h i3
  refine g_eq1 ⟨by omega, by omega⟩ (fun b4 => ?_) (fun b4 => ?_)
  · replace h := h.1 b4
    exact TX13_pick_25 ha1 ha2 (show 7 % 8 ≠ 1 by decide) h
  · replace h := h.2 b4
    unfold vX13_pick_8
    refine g_ld (v := cI _) rfl (is_I _) ?_
    refine g_const (v := cI (-2)) rfl ?_
    refine g_eq2 ha2 ⟨by omega, by omega⟩ (fun b5 => ?_) (fun b5 => ?_)
    · replace h := h.1 b5
      exact TX13_pick_27 ha1 ha2 (show 7 % 8 ≠ 1 by decide) h
    · replace h := h.2 b5
      unfold vX13_pick_14
      refine g_ld (v := rf _) rfl (is_R _) ?_
      refine g_ld (v := cI _) rfl (is_I _) ?_
      refine g_ld (v := cI _) rfl (is_I _) ?_
      refine g_callV (As := [_, _]) (ci := 13) oC13 (fun _ => rfl) ?_
      refine g_go1 (Nat.le_of_ble_eq_true rfl) (Tn_w (TX13_slotAt ha1 ha2 h) fun _ G6 ⟨r7, e, i8, h⟩ => ?_)
      subst e
      refine ⟨n7_I _, ?_⟩
      replace h := h i8
      refine g_const (v := cI (-2)) rfl ?_
      refine g_eq2 i8 ⟨by omega, by omega⟩ (fun b9 => ?_) (fun b9 => ?_)
      · replace h := h.1 b9
        exact TX13_pick_25 ha1 ha2 (show 7 % 8 ≠ 1 by decide) h
      · replace h := h.2 b9
        exact TX13_pick_27 ha1 ha2 (show 7 % 8 ≠ 1 by decide) h
abbrev PX13_pick (a1 : Int) (a2 : Int) (G : gS) (Q : Int → gS → Prop) : Prop := PX13_pick_0 a1 a2 G Q
theorem TX13_pick {a1 : Int} {a2 : Int} {G : gS} {Q : Int → gS → Prop} (ha1 : inI a1) (ha2 : inI a2) (h : PX13_pick a1 a2 G Q) : Tn W0 FX13_pick [rf (16081), cI (a1), cI (a2)] G (fun r G => ∃ v, r = cI v ∧ inI v ∧ Q v G) := by
  unfold FX13_pick
  refine g_ent (lv' := [rf (16081), cI (a1), cI (a2), 7]) (flR (flI (flI fl0))) (Nat.le_of_ble_eq_true rfl) rfl ?_
  exact TX13_pick_0 ha1 ha2 h
def PX13_classes_23 (l1 : Int) (l2 : Int) (l3 : Int) (s0 : Int) (G : gS) (Q : Int → gS → Prop) : Prop :=
  Q (s0) G
set_option maxRecDepth 20000 in
theorem TX13_classes_23 {l1 : Int} {l2 : Int} {l3 : Int} {s0 : Int} {G : gS} {Q : Int → gS → Prop} (hl1 : inI l1) (hl2 : inI l2) (hl3 : inI l3) (hs0 : inI s0) (h : PX13_classes_23 l1 l2 l3 s0 G Q) : Tg W0 vX13_classes_23 [rf (16081), cI (l1), cI (l2), cI (l3)] [cI (s0)] G (fun r G => ∃ v, r = cI v ∧ inI v ∧ Q v G) := by
  unfold PX13_classes_23 at h
  unfold vX13_classes_23
  exact g_ret1 (is_I _) ⟨_, rfl, hs0, h⟩
def PX13_classes_0 (a1 : Int) (a2 : Int) (G : gS) (Q : Int → gS → Prop) : Prop :=
  PX13_slotAt a1 a2 G (fun r2 G1 => inI r2 → ((r2 = -2 → PX13_classes_23 a1 a2 r2 (-1) G1 Q) ∧ (¬ (r2 = -2) → ((0 : Int) ≤ r2 ∧ ((r2 : Int) < 18 ∧ (inI (G1 16097 r2) → PX13_classes_23 a1 a2 r2 (G1 16097 r2) G1 Q))))))
set_option maxRecDepth 20000 in
theorem TX13_classes_0 {a1 : Int} {a2 : Int} {G : gS} {Q : Int → gS → Prop} (ha1 : inI a1) (ha2 : inI a2) (h : PX13_classes_0 a1 a2 G Q) : Tg W0 vX13_classes_0 [rf (16081), cI (a1), cI (a2), 7] [] G (fun r G => ∃ v, r = cI v ∧ inI v ∧ Q v G) := by
  unfold PX13_classes_0 at h
  unfold vX13_classes_0
  refine g_ld (v := rf _) rfl (is_R _) ?_
  refine g_ld (v := cI _) rfl (is_I _) ?_
  refine g_ld (v := cI _) rfl (is_I _) ?_
  refine g_callV (As := [_, _]) (ci := 13) oC13 (fun _ => rfl) ?_
  refine g_go1 (Nat.le_of_ble_eq_true rfl) (Tn_w (TX13_slotAt ha1 ha2 h) fun _ G1 ⟨r2, e, i3, h⟩ => ?_)
  subst e
  refine ⟨n7_I _, ?_⟩
  replace h := h i3
  refine g_st (lv' := [_, _, _, _]) (is_I _) (Nat.le_of_ble_eq_true rfl) (Or.inr (n1_I _)) rfl ?_
  refine g_ld (v := cI _) rfl (is_I _) ?_
  refine g_const (v := cI (-2)) rfl ?_
  refine g_eq2 i3 ⟨by omega, by omega⟩ (fun b4 => ?_) (fun b4 => ?_)
  · replace h := h.1 b4
    unfold vX13_classes_13
    refine g_const (v := cI (-1)) rfl ?_
    exact TX13_classes_23 ha1 ha2 i3 ⟨by omega, by omega⟩ h
  · replace h := h.2 b4
    unfold vX13_classes_17
    refine g_ld (v := rf _) rfl (is_R _) ?_
    refine g_getF (v := 16097) oC13 (hC13_23) rfl (Nat.le_of_ble_eq_true rfl) (Nat.le_of_ble_eq_true rfl) ?_
    refine g_ld (v := cI _) rfl (is_I _) ?_
    obtain ⟨q5, q6, h⟩ := h
    refine g_aldI aC16097 q5 q6 rfl fun i7 => ?_
    replace h := h i7
    exact TX13_classes_23 ha1 ha2 i3 i7 h
abbrev PX13_classes (a1 : Int) (a2 : Int) (G : gS) (Q : Int → gS → Prop) : Prop := PX13_classes_0 a1 a2 G Q
theorem TX13_classes {a1 : Int} {a2 : Int} {G : gS} {Q : Int → gS → Prop} (ha1 : inI a1) (ha2 : inI a2) (h : PX13_classes a1 a2 G Q) : Tn W0 FX13_classes [rf (16081), cI (a1), cI (a2)] G (fun r G => ∃ v, r = cI v ∧ inI v ∧ Q v G) := by
  unfold FX13_classes
  refine g_ent (lv' := [rf (16081), cI (a1), cI (a2), 7]) (flR (flI (flI fl0))) (Nat.le_of_ble_eq_true rfl) rfl ?_
  exact TX13_classes_0 ha1 ha2 h
def PX13_classAt_42 (l1 : Int) (l2 : Int) (l3 : Int) (l4 : Int) (s0 : Int) (G : gS) (Q : Int → gS → Prop) : Prop :=
  Q (s0) G
set_option maxRecDepth 20000 in
theorem TX13_classAt_42 {l1 : Int} {l2 : Int} {l3 : Int} {l4 : Int} {s0 : Int} {G : gS} {Q : Int → gS → Prop} (hl1 : inI l1) (hl2 : inI l2) (hl3 : inI l3) (hl4 : inI l4) (hs0 : inI s0) (h : PX13_classAt_42 l1 l2 l3 l4 s0 G Q) : Tg W0 vX13_classAt_42 [rf (16081), cI (l1), cI (l2), cI (l3), cI (l4)] [cI (s0)] G (fun r G => ∃ v, r = cI v ∧ inI v ∧ Q v G) := by
  unfold PX13_classAt_42 at h
  unfold vX13_classAt_42
  exact g_ret1 (is_I _) ⟨_, rfl, hs0, h⟩
def PX13_classAt_30 (l1 : Int) (l2 : Int) (l3 : Int) (l4 : Int) (G : gS) (Q : Int → gS → Prop) : Prop :=
  PX13_classAt_42 l1 l2 l3 l4 (-2) G Q
set_option maxRecDepth 20000 in
theorem TX13_classAt_30 {l1 : Int} {l2 : Int} {l3 : Int} {l4 : Int} {G : gS} {Q : Int → gS → Prop} (hl1 : inI l1) (hl2 : inI l2) (hl3 : inI l3) (hl4 : inI l4) (h : PX13_classAt_30 l1 l2 l3 l4 G Q) : Tg W0 vX13_classAt_30 [rf (16081), cI (l1), cI (l2), cI (l3), cI (l4)] [] G (fun r G => ∃ v, r = cI v ∧ inI v ∧ Q v G) := by
  unfold PX13_classAt_30 at h
  unfold vX13_classAt_30
  refine g_const (v := cI (-2)) rfl ?_
  exact TX13_classAt_42 hl1 hl2 hl3 hl4 ⟨by omega, by omega⟩ h
def PX13_classAt_0 (a1 : Int) (a2 : Int) (a3 : Int) (G : gS) (Q : Int → gS → Prop) : Prop :=
  PX13_slotAt a1 a2 G (fun r2 G1 => inI r2 → ((r2 = -2 → PX13_classAt_30 a1 a2 a3 r2 G1 Q) ∧ (¬ (r2 = -2) → ((a3 < 0 → PX13_classAt_30 a1 a2 a3 r2 G1 Q) ∧ (¬ (a3 < 0) → ((0 : Int) ≤ r2 ∧ ((r2 : Int) < 18 ∧ (inI (G1 16097 r2) → ((a3 < G1 16097 r2 → (inI ((r2 * 12) + a3) ∧ PX13_classAt_42 a1 a2 a3 r2 ((r2 * 12) + a3) G1 Q)) ∧ (¬ (a3 < G1 16097 r2) → PX13_classAt_30 a1 a2 a3 r2 G1 Q))))))))))
set_option maxRecDepth 20000 in
theorem TX13_classAt_0 {a1 : Int} {a2 : Int} {a3 : Int} {G : gS} {Q : Int → gS → Prop} (ha1 : inI a1) (ha2 : inI a2) (ha3 : inI a3) (h : PX13_classAt_0 a1 a2 a3 G Q) : Tg W0 vX13_classAt_0 [rf (16081), cI (a1), cI (a2), cI (a3), 7] [] G (fun r G => ∃ v, r = cI v ∧ inI v ∧ Q v G) := by
  unfold PX13_classAt_0 at h
  unfold vX13_classAt_0
  refine g_ld (v := rf _) rfl (is_R _) ?_
  refine g_ld (v := cI _) rfl (is_I _) ?_
  refine g_ld (v := cI _) rfl (is_I _) ?_
  refine g_callV (As := [_, _]) (ci := 13) oC13 (fun _ => rfl) ?_
  refine g_go1 (Nat.le_of_ble_eq_true rfl) (Tn_w (TX13_slotAt ha1 ha2 h) fun _ G1 ⟨r2, e, i3, h⟩ => ?_)
  subst e
  refine ⟨n7_I _, ?_⟩
  replace h := h i3
  refine g_st (lv' := [_, _, _, _, _]) (is_I _) (Nat.le_of_ble_eq_true rfl) (Or.inr (n1_I _)) rfl ?_
  refine g_ld (v := cI _) rfl (is_I _) ?_
  refine g_const (v := cI (-2)) rfl ?_
  refine g_eq2 i3 ⟨by omega, by omega⟩ (fun b4 => ?_) (fun b4 => ?_)
  · replace h := h.1 b4
    exact TX13_classAt_30 ha1 ha2 ha3 i3 h
  · replace h := h.2 b4
    unfold vX13_classAt_15
    refine g_ld (v := cI _) rfl (is_I _) ?_
    refine g_lt1 ha3 (fun b5 => ?_) (fun b5 => ?_)
    · replace h := h.1 b5
      exact TX13_classAt_30 ha1 ha2 ha3 i3 h
    · replace h := h.2 b5
      unfold vX13_classAt_19
      refine g_ld (v := cI _) rfl (is_I _) ?_
      refine g_ld (v := rf _) rfl (is_R _) ?_
      refine g_getF (v := 16097) oC13 (hC13_23) rfl (Nat.le_of_ble_eq_true rfl) (Nat.le_of_ble_eq_true rfl) ?_
      refine g_ld (v := cI _) rfl (is_I _) ?_
      obtain ⟨q6, q7, h⟩ := h
      refine g_aldI aC16097 q6 q7 rfl fun i8 => ?_
      replace h := h i8
      refine g_lt2 ha3 i8 (fun b9 => ?_) (fun b9 => ?_)
      · replace h := h.1 b9
        unfold vX13_classAt_35
        refine g_ld (v := cI _) rfl (is_I _) ?_
        refine g_const (v := cI (12)) rfl ?_
        refine g_mul ?_
        refine g_ld (v := cI _) rfl (is_I _) ?_
        refine g_add ?_
        obtain ⟨q10, h⟩ := h
        exact TX13_classAt_42 ha1 ha2 ha3 i3 q10 h
      · replace h := h.2 b9
        exact TX13_classAt_30 ha1 ha2 ha3 i3 h
abbrev PX13_classAt (a1 : Int) (a2 : Int) (a3 : Int) (G : gS) (Q : Int → gS → Prop) : Prop := PX13_classAt_0 a1 a2 a3 G Q
theorem TX13_classAt {a1 : Int} {a2 : Int} {a3 : Int} {G : gS} {Q : Int → gS → Prop} (ha1 : inI a1) (ha2 : inI a2) (ha3 : inI a3) (h : PX13_classAt a1 a2 a3 G Q) : Tn W0 FX13_classAt [rf (16081), cI (a1), cI (a2), cI (a3)] G (fun r G => ∃ v, r = cI v ∧ inI v ∧ Q v G) := by
  unfold FX13_classAt
  refine g_ent (lv' := [rf (16081), cI (a1), cI (a2), cI (a3), 7]) (flR (flI (flI (flI fl0)))) (Nat.le_of_ble_eq_true rfl) rfl ?_
  exact TX13_classAt_0 ha1 ha2 ha3 h
def PX13_memberAt_48 (J : Nat → List Int → gS → (Int → gS → Prop) → Prop) (l1 : Int) (l2 : Int) (l3 : Int) (l4 : Int) (G : gS) (Q : Int → gS → Prop) : Prop :=
  (inI (l4 + 1) ∧ J 0 [l1, l2, l3, l4 + 1] G Q)
set_option maxRecDepth 20000 in
theorem TX13_memberAt_48 {j : Nat → rx_K} {J : Nat → List Int → gS → (Int → gS → Prop) → Prop} {l1 : Int} {l2 : Int} {l3 : Int} {l4 : Int} {G : gS} {Q : Int → gS → Prop} (hl1 : inI l1) (hl2 : inI l2) (hl3 : inI l3) (hl4 : inI l4) (hj0 : ∀ (l1 : Int) (l2 : Int) (l3 : Int) (l4 : Int) (G : gS), (inI l1) → (inI l2) → (inI l3) → (inI l4) → J 0 [l1, l2, l3, l4] G Q → Tg W0 (j 0) [rf (16081), cI (l1), cI (l2), cI (l3), cI (l4)] [] G (fun r G => ∃ v, r = cI v ∧ inI v ∧ Q v G)) (h : PX13_memberAt_48 J l1 l2 l3 l4 G Q) : Tg W0 (vX13_memberAt_48 j) [rf (16081), cI (l1), cI (l2), cI (l3), cI (l4)] [] G (fun r G => ∃ v, r = cI v ∧ inI v ∧ Q v G) := by
  unfold PX13_memberAt_48 at h
  unfold vX13_memberAt_48
  refine g_inc (lv' := [_, _, _, _, _]) rfl (Nat.le_of_ble_eq_true rfl) (Or.inr (n1_I _)) rfl ?_
  obtain ⟨q12, h⟩ := h
  exact hj0 _ _ _ _ _ hl1 hl2 hl3 q12 h
def PX13_memberAt_5 (J : Nat → List Int → gS → (Int → gS → Prop) → Prop) (l1 : Int) (l2 : Int) (l3 : Int) (l4 : Int) (G : gS) (Q : Int → gS → Prop) : Prop :=
  ((0 : Int) ≤ l1 ∧ ((l1 : Int) < 216 ∧ (inI (G 16115 l1) → ((l4 < G 16115 l1 → ((0 : Int) ≤ (l1 * 34) + l4 ∧ (((l1 * 34) + l4 : Int) < 7344 ∧ (inI (G 16116 ((l1 * 34) + l4)) → ((G 16116 ((l1 * 34) + l4) = 3 → PX13_memberAt_48 J l1 l2 l3 l4 G Q) ∧ (¬ (G 16116 ((l1 * 34) + l4) = 3) → ((l3 = l2 → (inI ((l1 * 34) + l4) ∧ Q ((l1 * 34) + l4) G)) ∧ (¬ (l3 = l2) → (inI (l3 + 1) ∧ PX13_memberAt_48 J l1 l2 (l3 + 1) l4 G Q))))))))) ∧ (¬ (l4 < G 16115 l1) → Q (-2) G)))))
set_option maxRecDepth 20000 in
theorem TX13_memberAt_5 {j : Nat → rx_K} {J : Nat → List Int → gS → (Int → gS → Prop) → Prop} {l1 : Int} {l2 : Int} {l3 : Int} {l4 : Int} {G : gS} {Q : Int → gS → Prop} (hl1 : inI l1) (hl2 : inI l2) (hl3 : inI l3) (hl4 : inI l4) (hj0 : ∀ (l1 : Int) (l2 : Int) (l3 : Int) (l4 : Int) (G : gS), (inI l1) → (inI l2) → (inI l3) → (inI l4) → J 0 [l1, l2, l3, l4] G Q → Tg W0 (j 0) [rf (16081), cI (l1), cI (l2), cI (l3), cI (l4)] [] G (fun r G => ∃ v, r = cI v ∧ inI v ∧ Q v G)) (h : PX13_memberAt_5 J l1 l2 l3 l4 G Q) : Tg W0 (vX13_memberAt_5 j) [rf (16081), cI (l1), cI (l2), cI (l3), cI (l4)] [] G (fun r G => ∃ v, r = cI v ∧ inI v ∧ Q v G) := by
  unfold PX13_memberAt_5 at h
  unfold vX13_memberAt_5
  refine g_ld (v := cI _) rfl (is_I _) ?_
  refine g_ld (v := rf _) rfl (is_R _) ?_
  refine g_getF (v := 16115) oC13 (hC13_41) rfl (Nat.le_of_ble_eq_true rfl) (Nat.le_of_ble_eq_true rfl) ?_
  refine g_ld (v := cI _) rfl (is_I _) ?_
  obtain ⟨q1, q2, h⟩ := h
  refine g_aldI aC16115 q1 q2 rfl fun i3 => ?_
  replace h := h i3
  refine g_lt2 hl4 i3 (fun b4 => ?_) (fun b4 => ?_)
  · replace h := h.1 b4
    unfold vX13_memberAt_16
    refine g_ld (v := rf _) rfl (is_R _) ?_
    refine g_getF (v := 16116) oC13 (hC13_42) rfl (Nat.le_of_ble_eq_true rfl) (Nat.le_of_ble_eq_true rfl) ?_
    refine g_ld (v := cI _) rfl (is_I _) ?_
    refine g_const (v := cI (34)) rfl ?_
    refine g_mul ?_
    refine g_ld (v := cI _) rfl (is_I _) ?_
    refine g_add ?_
    obtain ⟨q5, q6, h⟩ := h
    refine g_aldI aC16116 q5 q6 rfl fun i7 => ?_
    replace h := h i7
    refine g_const (v := cI (3)) rfl ?_
    refine g_eq2 i7 ⟨by omega, by omega⟩ (fun b8 => ?_) (fun b8 => ?_)
    · replace h := h.1 b8
      exact TX13_memberAt_48 hl1 hl2 hl3 hl4 hj0 h
    · replace h := h.2 b8
      unfold vX13_memberAt_32
      refine g_ld (v := cI _) rfl (is_I _) ?_
      refine g_ld (v := cI _) rfl (is_I _) ?_
      refine g_eq2 hl3 hl2 (fun b9 => ?_) (fun b9 => ?_)
      · replace h := h.1 b9
        unfold vX13_memberAt_37
        refine g_ld (v := cI _) rfl (is_I _) ?_
        refine g_const (v := cI (34)) rfl ?_
        refine g_mul ?_
        refine g_ld (v := cI _) rfl (is_I _) ?_
        refine g_add ?_
        obtain ⟨q10, h⟩ := h
        exact g_ret1 (is_I _) ⟨_, rfl, q10, h⟩
      · replace h := h.2 b9
        unfold vX13_memberAt_45
        refine g_inc (lv' := [_, _, _, _, _]) rfl (Nat.le_of_ble_eq_true rfl) (Or.inr (n1_I _)) rfl ?_
        obtain ⟨q11, h⟩ := h
        exact TX13_memberAt_48 hl1 hl2 q11 hl4 hj0 h
  · replace h := h.2 b4
    unfold vX13_memberAt_54
    refine g_const (v := cI (-2)) rfl ?_
    exact g_ret1 (is_I _) ⟨_, rfl, ⟨by omega, by omega⟩, h⟩
def PX13_memberAt_0 (J : Nat → List Int → gS → (Int → gS → Prop) → Prop) (a1 : Int) (a2 : Int) (G : gS) (Q : Int → gS → Prop) : Prop :=
  PX13_memberAt_5 J a1 a2 0 0 G Q
set_option maxRecDepth 20000 in
theorem TX13_memberAt_0 {j : Nat → rx_K} {J : Nat → List Int → gS → (Int → gS → Prop) → Prop} {a1 : Int} {a2 : Int} {G : gS} {Q : Int → gS → Prop} (ha1 : inI a1) (ha2 : inI a2) (hj0 : ∀ (l1 : Int) (l2 : Int) (l3 : Int) (l4 : Int) (G : gS), (inI l1) → (inI l2) → (inI l3) → (inI l4) → J 0 [l1, l2, l3, l4] G Q → Tg W0 (j 0) [rf (16081), cI (l1), cI (l2), cI (l3), cI (l4)] [] G (fun r G => ∃ v, r = cI v ∧ inI v ∧ Q v G)) (h : PX13_memberAt_0 J a1 a2 G Q) : Tg W0 (vX13_memberAt_0 j) [rf (16081), cI (a1), cI (a2), 7, 7] [] G (fun r G => ∃ v, r = cI v ∧ inI v ∧ Q v G) := by
  unfold PX13_memberAt_0 at h
  unfold vX13_memberAt_0
  refine g_const (v := cI (0)) rfl ?_
  refine g_st (lv' := [_, _, _, _, _]) (is_I _) (Nat.le_of_ble_eq_true rfl) (Or.inr (n1_I _)) rfl ?_
  refine g_const (v := cI (0)) rfl ?_
  refine g_st (lv' := [_, _, _, _, _]) (is_I _) (Nat.le_of_ble_eq_true rfl) (Or.inr (n1_I _)) rfl ?_
  exact TX13_memberAt_5 ha1 ha2 ⟨by omega, by omega⟩ ⟨by omega, by omega⟩ hj0 h
def PX13_memberAt_J : Nat → Nat → List Int → gS → (Int → gS → Prop) → Prop
  | 0, _, _, _, _ => False
  | f + 1, h, L, G, Q => match h, L with
    | 0, [l1, l2, l3, l4] => PX13_memberAt_5 (PX13_memberAt_J f) l1 l2 l3 l4 G Q
    | _, _ => False
theorem TX13_memberAt_J {Q : Int → gS → Prop} : ∀ f N : Nat, f ≤ N → (∀ (l1 : Int) (l2 : Int) (l3 : Int) (l4 : Int) (G : gS), (inI l1) → (inI l2) → (inI l3) → (inI l4) → (PX13_memberAt_J f) 0 [l1, l2, l3, l4] G Q → Tg W0 (rx_J vhX13_memberAt N 0) [rf (16081), cI (l1), cI (l2), cI (l3), cI (l4)] [] G (fun r G => ∃ v, r = cI v ∧ inI v ∧ Q v G)) := by
  intro f
  induction f with
  | zero => exact fun N _ => fun _ _ _ _ _ _ _ _ _ h => h.elim
  | succ f ih =>
    intro N hN
    obtain ⟨M, rfl⟩ : ∃ M, N = M + 1 := ⟨N - 1, by omega⟩
    have ih := ih M (by omega)
    exact fun _ _ _ _ _ hl1 hl2 hl3 hl4 h => show Tg W0 (vX13_memberAt_5 (rx_J vhX13_memberAt M)) _ _ _ _ from TX13_memberAt_5 hl1 hl2 hl3 hl4 ih h
def PX13_memberAt (a1 : Int) (a2 : Int) (G : gS) (Q : Int → gS → Prop) : Prop := ∃ f : Nat, f ≤ 4000000000 ∧ PX13_memberAt_0 (PX13_memberAt_J f) a1 a2 G Q
theorem TX13_memberAt {a1 : Int} {a2 : Int} {G : gS} {Q : Int → gS → Prop} (ha1 : inI a1) (ha2 : inI a2) (h : PX13_memberAt a1 a2 G Q) : Tn W0 FX13_memberAt [rf (16081), cI (a1), cI (a2)] G (fun r G => ∃ v, r = cI v ∧ inI v ∧ Q v G) := by
  obtain ⟨f, hf, h⟩ := h
  have hJ := TX13_memberAt_J (Q := Q) f 4000000000 hf
  unfold FX13_memberAt
  refine g_ent (lv' := [rf (16081), cI (a1), cI (a2), 7, 7]) (flR (flI (flI fl0))) (Nat.le_of_ble_eq_true rfl) rfl ?_
  exact TX13_memberAt_0 ha1 ha2 hJ h
def PX13_memberMany_35 (J : Nat → List Int → gS → (Int → gS → Prop) → Prop) (l1 : Int) (l2 : Int) (l3 : Int) (s0 : Int) (s1 : Int) (G : gS) (Q : Int → gS → Prop) : Prop :=
  (inI (s0 + s1) ∧ (inI (l3 + 1) ∧ J 0 [l1, s0 + s1, l3 + 1] G Q))
set_option maxRecDepth 20000 in
theorem TX13_memberMany_35 {j : Nat → rx_K} {J : Nat → List Int → gS → (Int → gS → Prop) → Prop} {l1 : Int} {l2 : Int} {l3 : Int} {s0 : Int} {s1 : Int} {G : gS} {Q : Int → gS → Prop} (hl1 : inI l1) (hl2 : inI l2) (hl3 : inI l3) (hs0 : inI s0) (hs1 : inI s1) (hj0 : ∀ (l1 : Int) (l2 : Int) (l3 : Int) (G : gS), (inI l1) → (inI l2) → (inI l3) → J 0 [l1, l2, l3] G Q → Tg W0 (j 0) [rf (16081), cI (l1), cI (l2), cI (l3)] [] G (fun r G => ∃ v, r = cI v ∧ inI v ∧ Q v G)) (h : PX13_memberMany_35 J l1 l2 l3 s0 s1 G Q) : Tg W0 (vX13_memberMany_35 j) [rf (16081), cI (l1), cI (l2), cI (l3)] [cI (s1), cI (s0)] G (fun r G => ∃ v, r = cI v ∧ inI v ∧ Q v G) := by
  unfold PX13_memberMany_35 at h
  unfold vX13_memberMany_35
  refine g_add ?_
  refine g_st (lv' := [_, _, _, _]) (is_I _) (Nat.le_of_ble_eq_true rfl) (Or.inr (n1_I _)) rfl ?_
  obtain ⟨q9, h⟩ := h
  refine g_inc (lv' := [_, _, _, _]) rfl (Nat.le_of_ble_eq_true rfl) (Or.inr (n1_I _)) rfl ?_
  obtain ⟨q10, h⟩ := h
  exact hj0 _ _ _ _ hl1 q9 q10 h
def PX13_memberMany_4 (J : Nat → List Int → gS → (Int → gS → Prop) → Prop) (l1 : Int) (l2 : Int) (l3 : Int) (G : gS) (Q : Int → gS → Prop) : Prop :=
  ((0 : Int) ≤ l1 ∧ ((l1 : Int) < 216 ∧ (inI (G 16115 l1) → ((l3 < G 16115 l1 → ((0 : Int) ≤ (l1 * 34) + l3 ∧ (((l1 * 34) + l3 : Int) < 7344 ∧ (inI (G 16116 ((l1 * 34) + l3)) → ((G 16116 ((l1 * 34) + l3) = 3 → PX13_memberMany_35 J l1 l2 l3 l2 0 G Q) ∧ (¬ (G 16116 ((l1 * 34) + l3) = 3) → PX13_memberMany_35 J l1 l2 l3 l2 1 G Q)))))) ∧ (¬ (l3 < G 16115 l1) → Q (l2) G)))))
set_option maxRecDepth 20000 in
theorem TX13_memberMany_4 {j : Nat → rx_K} {J : Nat → List Int → gS → (Int → gS → Prop) → Prop} {l1 : Int} {l2 : Int} {l3 : Int} {G : gS} {Q : Int → gS → Prop} (hl1 : inI l1) (hl2 : inI l2) (hl3 : inI l3) (hj0 : ∀ (l1 : Int) (l2 : Int) (l3 : Int) (G : gS), (inI l1) → (inI l2) → (inI l3) → J 0 [l1, l2, l3] G Q → Tg W0 (j 0) [rf (16081), cI (l1), cI (l2), cI (l3)] [] G (fun r G => ∃ v, r = cI v ∧ inI v ∧ Q v G)) (h : PX13_memberMany_4 J l1 l2 l3 G Q) : Tg W0 (vX13_memberMany_4 j) [rf (16081), cI (l1), cI (l2), cI (l3)] [] G (fun r G => ∃ v, r = cI v ∧ inI v ∧ Q v G) := by
  unfold PX13_memberMany_4 at h
  unfold vX13_memberMany_4
  refine g_ld (v := cI _) rfl (is_I _) ?_
  refine g_ld (v := rf _) rfl (is_R _) ?_
  refine g_getF (v := 16115) oC13 (hC13_41) rfl (Nat.le_of_ble_eq_true rfl) (Nat.le_of_ble_eq_true rfl) ?_
  refine g_ld (v := cI _) rfl (is_I _) ?_
  obtain ⟨q1, q2, h⟩ := h
  refine g_aldI aC16115 q1 q2 rfl fun i3 => ?_
  replace h := h i3
  refine g_lt2 hl3 i3 (fun b4 => ?_) (fun b4 => ?_)
  · replace h := h.1 b4
    unfold vX13_memberMany_14
    refine g_ld (v := cI _) rfl (is_I _) ?_
    refine g_ld (v := rf _) rfl (is_R _) ?_
    refine g_getF (v := 16116) oC13 (hC13_42) rfl (Nat.le_of_ble_eq_true rfl) (Nat.le_of_ble_eq_true rfl) ?_
    refine g_ld (v := cI _) rfl (is_I _) ?_
    refine g_const (v := cI (34)) rfl ?_
    refine g_mul ?_
    refine g_ld (v := cI _) rfl (is_I _) ?_
    refine g_add ?_
    obtain ⟨q5, q6, h⟩ := h
    refine g_aldI aC16116 q5 q6 rfl fun i7 => ?_
    replace h := h i7
    refine g_const (v := cI (3)) rfl ?_
    refine g_eq2 i7 ⟨by omega, by omega⟩ (fun b8 => ?_) (fun b8 => ?_)
    · replace h := h.1 b8
      unfold vX13_memberMany_30
      refine g_const (v := cI (0)) rfl ?_
      exact TX13_memberMany_35 hl1 hl2 hl3 hl2 ⟨by omega, by omega⟩ hj0 h
    · replace h := h.2 b8
      unfold vX13_memberMany_34
      refine g_const (v := cI (1)) rfl ?_
      exact TX13_memberMany_35 hl1 hl2 hl3 hl2 ⟨by omega, by omega⟩ hj0 h
  · replace h := h.2 b4
    unfold vX13_memberMany_43
    refine g_ld (v := cI _) rfl (is_I _) ?_
    exact g_ret1 (is_I _) ⟨_, rfl, hl2, h⟩
def PX13_memberMany_0 (J : Nat → List Int → gS → (Int → gS → Prop) → Prop) (a1 : Int) (G : gS) (Q : Int → gS → Prop) : Prop :=
  PX13_memberMany_4 J a1 0 0 G Q
set_option maxRecDepth 20000 in
theorem TX13_memberMany_0 {j : Nat → rx_K} {J : Nat → List Int → gS → (Int → gS → Prop) → Prop} {a1 : Int} {G : gS} {Q : Int → gS → Prop} (ha1 : inI a1) (hj0 : ∀ (l1 : Int) (l2 : Int) (l3 : Int) (G : gS), (inI l1) → (inI l2) → (inI l3) → J 0 [l1, l2, l3] G Q → Tg W0 (j 0) [rf (16081), cI (l1), cI (l2), cI (l3)] [] G (fun r G => ∃ v, r = cI v ∧ inI v ∧ Q v G)) (h : PX13_memberMany_0 J a1 G Q) : Tg W0 (vX13_memberMany_0 j) [rf (16081), cI (a1), 7, 7] [] G (fun r G => ∃ v, r = cI v ∧ inI v ∧ Q v G) := by
  unfold PX13_memberMany_0 at h
  unfold vX13_memberMany_0
  refine g_const (v := cI (0)) rfl ?_
  refine g_st (lv' := [_, _, _, _]) (is_I _) (Nat.le_of_ble_eq_true rfl) (Or.inr (n1_I _)) rfl ?_
  refine g_const (v := cI (0)) rfl ?_
  refine g_st (lv' := [_, _, _, _]) (is_I _) (Nat.le_of_ble_eq_true rfl) (Or.inr (n1_I _)) rfl ?_
  exact TX13_memberMany_4 ha1 ⟨by omega, by omega⟩ ⟨by omega, by omega⟩ hj0 h
def PX13_memberMany_J : Nat → Nat → List Int → gS → (Int → gS → Prop) → Prop
  | 0, _, _, _, _ => False
  | f + 1, h, L, G, Q => match h, L with
    | 0, [l1, l2, l3] => PX13_memberMany_4 (PX13_memberMany_J f) l1 l2 l3 G Q
    | _, _ => False
theorem TX13_memberMany_J {Q : Int → gS → Prop} : ∀ f N : Nat, f ≤ N → (∀ (l1 : Int) (l2 : Int) (l3 : Int) (G : gS), (inI l1) → (inI l2) → (inI l3) → (PX13_memberMany_J f) 0 [l1, l2, l3] G Q → Tg W0 (rx_J vhX13_memberMany N 0) [rf (16081), cI (l1), cI (l2), cI (l3)] [] G (fun r G => ∃ v, r = cI v ∧ inI v ∧ Q v G)) := by
  intro f
  induction f with
  | zero => exact fun N _ => fun _ _ _ _ _ _ _ h => h.elim
  | succ f ih =>
    intro N hN
    obtain ⟨M, rfl⟩ : ∃ M, N = M + 1 := ⟨N - 1, by omega⟩
    have ih := ih M (by omega)
    exact fun _ _ _ _ hl1 hl2 hl3 h => show Tg W0 (vX13_memberMany_4 (rx_J vhX13_memberMany M)) _ _ _ _ from TX13_memberMany_4 hl1 hl2 hl3 ih h
def PX13_memberMany (a1 : Int) (G : gS) (Q : Int → gS → Prop) : Prop := ∃ f : Nat, f ≤ 4000000000 ∧ PX13_memberMany_0 (PX13_memberMany_J f) a1 G Q
theorem TX13_memberMany {a1 : Int} {G : gS} {Q : Int → gS → Prop} (ha1 : inI a1) (h : PX13_memberMany a1 G Q) : Tn W0 FX13_memberMany [rf (16081), cI (a1)] G (fun r G => ∃ v, r = cI v ∧ inI v ∧ Q v G) := by
  obtain ⟨f, hf, h⟩ := h
  have hJ := TX13_memberMany_J (Q := Q) f 4000000000 hf
  unfold FX13_memberMany
  refine g_ent (lv' := [rf (16081), cI (a1), 7, 7]) (flR (flI fl0)) (Nat.le_of_ble_eq_true rfl) rfl ?_
  exact TX13_memberMany_0 ha1 hJ h
def PX13_members_26 (l1 : Int) (l2 : Int) (l3 : Int) (l4 : Int) (s0 : Int) (G : gS) (Q : Int → gS → Prop) : Prop :=
  Q (s0) G
set_option maxRecDepth 20000 in
theorem TX13_members_26 {l1 : Int} {l2 : Int} {l3 : Int} {l4 : Int} {s0 : Int} {G : gS} {Q : Int → gS → Prop} (hl1 : inI l1) (hl2 : inI l2) (hl3 : inI l3) (hl4 : inI l4) (hs0 : inI s0) (h : PX13_members_26 l1 l2 l3 l4 s0 G Q) : Tg W0 vX13_members_26 [rf (16081), cI (l1), cI (l2), cI (l3), cI (l4)] [cI (s0)] G (fun r G => ∃ v, r = cI v ∧ inI v ∧ Q v G) := by
  unfold PX13_members_26 at h
  unfold vX13_members_26
  exact g_ret1 (is_I _) ⟨_, rfl, hs0, h⟩
def PX13_members_0 (a1 : Int) (a2 : Int) (a3 : Int) (G : gS) (Q : Int → gS → Prop) : Prop :=
  PX13_classAt a1 a2 a3 G (fun r2 G1 => inI r2 → ((r2 = -2 → PX13_members_26 a1 a2 a3 r2 (-1) G1 Q) ∧ (¬ (r2 = -2) → PX13_memberMany r2 G1 (fun r6 G5 => inI r6 → PX13_members_26 a1 a2 a3 r2 r6 G5 Q))))
set_option maxRecDepth 20000 in
theorem TX13_members_0 {a1 : Int} {a2 : Int} {a3 : Int} {G : gS} {Q : Int → gS → Prop} (ha1 : inI a1) (ha2 : inI a2) (ha3 : inI a3) (h : PX13_members_0 a1 a2 a3 G Q) : Tg W0 vX13_members_0 [rf (16081), cI (a1), cI (a2), cI (a3), 7] [] G (fun r G => ∃ v, r = cI v ∧ inI v ∧ Q v G) := by
  unfold PX13_members_0 at h
  unfold vX13_members_0
  refine g_ld (v := rf _) rfl (is_R _) ?_
  refine g_ld (v := cI _) rfl (is_I _) ?_
  refine g_ld (v := cI _) rfl (is_I _) ?_
  refine g_ld (v := cI _) rfl (is_I _) ?_
  refine g_callV (As := [_, _, _]) (ci := 13) oC13 (fun _ => rfl) ?_
  refine g_go1 (Nat.le_of_ble_eq_true rfl) (Tn_w (TX13_classAt ha1 ha2 ha3 h) fun _ G1 ⟨r2, e, i3, h⟩ => ?_)
  subst e
  refine ⟨n7_I _, ?_⟩
  replace h := h i3
  refine g_st (lv' := [_, _, _, _, _]) (is_I _) (Nat.le_of_ble_eq_true rfl) (Or.inr (n1_I _)) rfl ?_
  refine g_ld (v := cI _) rfl (is_I _) ?_
  refine g_const (v := cI (-2)) rfl ?_
  refine g_eq2 i3 ⟨by omega, by omega⟩ (fun b4 => ?_) (fun b4 => ?_)
  · replace h := h.1 b4
    unfold vX13_members_16
    refine g_const (v := cI (-1)) rfl ?_
    exact TX13_members_26 ha1 ha2 ha3 i3 ⟨by omega, by omega⟩ h
  · replace h := h.2 b4
    unfold vX13_members_20
    refine g_ld (v := rf _) rfl (is_R _) ?_
    refine g_ld (v := cI _) rfl (is_I _) ?_
    refine g_callV (As := [_]) (ci := 13) oC13 (fun _ => rfl) ?_
    refine g_go1 (Nat.le_of_ble_eq_true rfl) (Tn_w (TX13_memberMany i3 h) fun _ G5 ⟨r6, e, i7, h⟩ => ?_)
    subst e
    refine ⟨n7_I _, ?_⟩
    replace h := h i7
    exact TX13_members_26 ha1 ha2 ha3 i3 i7 h
abbrev PX13_members (a1 : Int) (a2 : Int) (a3 : Int) (G : gS) (Q : Int → gS → Prop) : Prop := PX13_members_0 a1 a2 a3 G Q
theorem TX13_members {a1 : Int} {a2 : Int} {a3 : Int} {G : gS} {Q : Int → gS → Prop} (ha1 : inI a1) (ha2 : inI a2) (ha3 : inI a3) (h : PX13_members a1 a2 a3 G Q) : Tn W0 FX13_members [rf (16081), cI (a1), cI (a2), cI (a3)] G (fun r G => ∃ v, r = cI v ∧ inI v ∧ Q v G) := by
  unfold FX13_members
  refine g_ent (lv' := [rf (16081), cI (a1), cI (a2), cI (a3), 7]) (flR (flI (flI (flI fl0)))) (Nat.le_of_ble_eq_true rfl) rfl ?_
  exact TX13_members_0 ha1 ha2 ha3 h
def PX13_uses_23 (l1 : Int) (l2 : Int) (l3 : Int) (s0 : Int) (G : gS) (Q : Int → gS → Prop) : Prop :=
  Q (s0) G
set_option maxRecDepth 20000 in
theorem TX13_uses_23 {l1 : Int} {l2 : Int} {l3 : Int} {s0 : Int} {G : gS} {Q : Int → gS → Prop} (hl1 : inI l1) (hl2 : inI l2) (hl3 : inI l3) (hs0 : inI s0) (h : PX13_uses_23 l1 l2 l3 s0 G Q) : Tg W0 vX13_uses_23 [rf (16081), cI (l1), cI (l2), cI (l3)] [cI (s0)] G (fun r G => ∃ v, r = cI v ∧ inI v ∧ Q v G) := by
  unfold PX13_uses_23 at h
  unfold vX13_uses_23
  exact g_ret1 (is_I _) ⟨_, rfl, hs0, h⟩
def PX13_uses_0 (a1 : Int) (a2 : Int) (G : gS) (Q : Int → gS → Prop) : Prop :=
  PX13_slotAt a1 a2 G (fun r2 G1 => inI r2 → ((r2 = -2 → PX13_uses_23 a1 a2 r2 (-1) G1 Q) ∧ (¬ (r2 = -2) → ((0 : Int) ≤ r2 ∧ ((r2 : Int) < 17 ∧ (inI (G1 16178 r2) → PX13_uses_23 a1 a2 r2 (G1 16178 r2) G1 Q))))))
set_option maxRecDepth 20000 in
theorem TX13_uses_0 {a1 : Int} {a2 : Int} {G : gS} {Q : Int → gS → Prop} (ha1 : inI a1) (ha2 : inI a2) (h : PX13_uses_0 a1 a2 G Q) : Tg W0 vX13_uses_0 [rf (16081), cI (a1), cI (a2), 7] [] G (fun r G => ∃ v, r = cI v ∧ inI v ∧ Q v G) := by
  unfold PX13_uses_0 at h
  unfold vX13_uses_0
  refine g_ld (v := rf _) rfl (is_R _) ?_
  refine g_ld (v := cI _) rfl (is_I _) ?_
  refine g_ld (v := cI _) rfl (is_I _) ?_
  refine g_callV (As := [_, _]) (ci := 13) oC13 (fun _ => rfl) ?_
  refine g_go1 (Nat.le_of_ble_eq_true rfl) (Tn_w (TX13_slotAt ha1 ha2 h) fun _ G1 ⟨r2, e, i3, h⟩ => ?_)
  subst e
  refine ⟨n7_I _, ?_⟩
  replace h := h i3
  refine g_st (lv' := [_, _, _, _]) (is_I _) (Nat.le_of_ble_eq_true rfl) (Or.inr (n1_I _)) rfl ?_
  refine g_ld (v := cI _) rfl (is_I _) ?_
  refine g_const (v := cI (-2)) rfl ?_
  refine g_eq2 i3 ⟨by omega, by omega⟩ (fun b4 => ?_) (fun b4 => ?_)
  · replace h := h.1 b4
    unfold vX13_uses_13
    refine g_const (v := cI (-1)) rfl ?_
    exact TX13_uses_23 ha1 ha2 i3 ⟨by omega, by omega⟩ h
  · replace h := h.2 b4
    unfold vX13_uses_17
    refine g_ld (v := rf _) rfl (is_R _) ?_
    refine g_getF (v := 16178) oC13 (hC13_118) rfl (Nat.le_of_ble_eq_true rfl) (Nat.le_of_ble_eq_true rfl) ?_
    refine g_ld (v := cI _) rfl (is_I _) ?_
    obtain ⟨q5, q6, h⟩ := h
    refine g_aldI aC16178 q5 q6 rfl fun i7 => ?_
    replace h := h i7
    exact TX13_uses_23 ha1 ha2 i3 i7 h
abbrev PX13_uses (a1 : Int) (a2 : Int) (G : gS) (Q : Int → gS → Prop) : Prop := PX13_uses_0 a1 a2 G Q
theorem TX13_uses {a1 : Int} {a2 : Int} {G : gS} {Q : Int → gS → Prop} (ha1 : inI a1) (ha2 : inI a2) (h : PX13_uses a1 a2 G Q) : Tn W0 FX13_uses [rf (16081), cI (a1), cI (a2)] G (fun r G => ∃ v, r = cI v ∧ inI v ∧ Q v G) := by
  unfold FX13_uses
  refine g_ent (lv' := [rf (16081), cI (a1), cI (a2), 7]) (flR (flI (flI fl0))) (Nat.le_of_ble_eq_true rfl) rfl ?_
  exact TX13_uses_0 ha1 ha2 h
def PX13_useAt_43 (l1 : Int) (l2 : Int) (l3 : Int) (l4 : Int) (s0 : Int) (G : gS) (Q : Int → gS → Prop) : Prop :=
  Q (s0) G
set_option maxRecDepth 20000 in
theorem TX13_useAt_43 {l1 : Int} {l2 : Int} {l3 : Int} {l4 : Int} {s0 : Int} {G : gS} {Q : Int → gS → Prop} (hl1 : inI l1) (hl2 : inI l2) (hl3 : inI l3) (hl4 : inI l4) (hs0 : inI s0) (h : PX13_useAt_43 l1 l2 l3 l4 s0 G Q) : Tg W0 vX13_useAt_43 [rf (16081), cI (l1), cI (l2), cI (l3), cI (l4)] [cI (s0)] G (fun r G => ∃ v, r = cI v ∧ inI v ∧ Q v G) := by
  unfold PX13_useAt_43 at h
  unfold vX13_useAt_43
  exact g_ret1 (is_I _) ⟨_, rfl, hs0, h⟩
def PX13_useAt_30 (l1 : Int) (l2 : Int) (l3 : Int) (l4 : Int) (G : gS) (Q : Int → gS → Prop) : Prop :=
  PX13_useAt_43 l1 l2 l3 l4 (-2) G Q
set_option maxRecDepth 20000 in
theorem TX13_useAt_30 {l1 : Int} {l2 : Int} {l3 : Int} {l4 : Int} {G : gS} {Q : Int → gS → Prop} (hl1 : inI l1) (hl2 : inI l2) (hl3 : inI l3) (hl4 : inI l4) (h : PX13_useAt_30 l1 l2 l3 l4 G Q) : Tg W0 vX13_useAt_30 [rf (16081), cI (l1), cI (l2), cI (l3), cI (l4)] [] G (fun r G => ∃ v, r = cI v ∧ inI v ∧ Q v G) := by
  unfold PX13_useAt_30 at h
  unfold vX13_useAt_30
  refine g_const (v := cI (-2)) rfl ?_
  exact TX13_useAt_43 hl1 hl2 hl3 hl4 ⟨by omega, by omega⟩ h
def PX13_useAt_0 (a1 : Int) (a2 : Int) (a3 : Int) (G : gS) (Q : Int → gS → Prop) : Prop :=
  PX13_slotAt a1 a2 G (fun r2 G1 => inI r2 → ((r2 = -2 → PX13_useAt_30 a1 a2 a3 r2 G1 Q) ∧ (¬ (r2 = -2) → ((a3 < 0 → PX13_useAt_30 a1 a2 a3 r2 G1 Q) ∧ (¬ (a3 < 0) → ((0 : Int) ≤ r2 ∧ ((r2 : Int) < 17 ∧ (inI (G1 16178 r2) → ((a3 < G1 16178 r2 → (inI ((r2 * 1800) + a3) ∧ PX13_useAt_43 a1 a2 a3 r2 ((r2 * 1800) + a3) G1 Q)) ∧ (¬ (a3 < G1 16178 r2) → PX13_useAt_30 a1 a2 a3 r2 G1 Q))))))))))
set_option maxRecDepth 20000 in
theorem TX13_useAt_0 {a1 : Int} {a2 : Int} {a3 : Int} {G : gS} {Q : Int → gS → Prop} (ha1 : inI a1) (ha2 : inI a2) (ha3 : inI a3) (h : PX13_useAt_0 a1 a2 a3 G Q) : Tg W0 vX13_useAt_0 [rf (16081), cI (a1), cI (a2), cI (a3), 7] [] G (fun r G => ∃ v, r = cI v ∧ inI v ∧ Q v G) := by
  unfold PX13_useAt_0 at h
  unfold vX13_useAt_0
  refine g_ld (v := rf _) rfl (is_R _) ?_
  refine g_ld (v := cI _) rfl (is_I _) ?_
  refine g_ld (v := cI _) rfl (is_I _) ?_
  refine g_callV (As := [_, _]) (ci := 13) oC13 (fun _ => rfl) ?_
  refine g_go1 (Nat.le_of_ble_eq_true rfl) (Tn_w (TX13_slotAt ha1 ha2 h) fun _ G1 ⟨r2, e, i3, h⟩ => ?_)
  subst e
  refine ⟨n7_I _, ?_⟩
  replace h := h i3
  refine g_st (lv' := [_, _, _, _, _]) (is_I _) (Nat.le_of_ble_eq_true rfl) (Or.inr (n1_I _)) rfl ?_
  refine g_ld (v := cI _) rfl (is_I _) ?_
  refine g_const (v := cI (-2)) rfl ?_
  refine g_eq2 i3 ⟨by omega, by omega⟩ (fun b4 => ?_) (fun b4 => ?_)
  · replace h := h.1 b4
    exact TX13_useAt_30 ha1 ha2 ha3 i3 h
  · replace h := h.2 b4
    unfold vX13_useAt_15
    refine g_ld (v := cI _) rfl (is_I _) ?_
    refine g_lt1 ha3 (fun b5 => ?_) (fun b5 => ?_)
    · replace h := h.1 b5
      exact TX13_useAt_30 ha1 ha2 ha3 i3 h
    · replace h := h.2 b5
      unfold vX13_useAt_19
      refine g_ld (v := cI _) rfl (is_I _) ?_
      refine g_ld (v := rf _) rfl (is_R _) ?_
      refine g_getF (v := 16178) oC13 (hC13_118) rfl (Nat.le_of_ble_eq_true rfl) (Nat.le_of_ble_eq_true rfl) ?_
      refine g_ld (v := cI _) rfl (is_I _) ?_
      obtain ⟨q6, q7, h⟩ := h
      refine g_aldI aC16178 q6 q7 rfl fun i8 => ?_
      replace h := h i8
      refine g_lt2 ha3 i8 (fun b9 => ?_) (fun b9 => ?_)
      · replace h := h.1 b9
        unfold vX13_useAt_35
        refine g_ld (v := cI _) rfl (is_I _) ?_
        refine g_const (v := cI (1800)) rfl ?_
        refine g_mul ?_
        refine g_ld (v := cI _) rfl (is_I _) ?_
        refine g_add ?_
        obtain ⟨q10, h⟩ := h
        exact TX13_useAt_43 ha1 ha2 ha3 i3 q10 h
      · replace h := h.2 b9
        exact TX13_useAt_30 ha1 ha2 ha3 i3 h
abbrev PX13_useAt (a1 : Int) (a2 : Int) (a3 : Int) (G : gS) (Q : Int → gS → Prop) : Prop := PX13_useAt_0 a1 a2 a3 G Q
theorem TX13_useAt {a1 : Int} {a2 : Int} {a3 : Int} {G : gS} {Q : Int → gS → Prop} (ha1 : inI a1) (ha2 : inI a2) (ha3 : inI a3) (h : PX13_useAt a1 a2 a3 G Q) : Tn W0 FX13_useAt [rf (16081), cI (a1), cI (a2), cI (a3)] G (fun r G => ∃ v, r = cI v ∧ inI v ∧ Q v G) := by
  unfold FX13_useAt
  refine g_ent (lv' := [rf (16081), cI (a1), cI (a2), cI (a3), 7]) (flR (flI (flI (flI fl0)))) (Nat.le_of_ble_eq_true rfl) rfl ?_
  exact TX13_useAt_0 ha1 ha2 ha3 h
def PX13_use_56 (l1 : Int) (l2 : Int) (l3 : Int) (l4 : Int) (l5 : Int) (s0 : Int) (G : gS) (Q : Int → gS → Prop) : Prop :=
  Q (s0) G
set_option maxRecDepth 20000 in
theorem TX13_use_56 {l1 : Int} {l2 : Int} {l3 : Int} {l4 : Int} {l5 : Int} {s0 : Int} {G : gS} {Q : Int → gS → Prop} (hl1 : inI l1) (hl2 : inI l2) (hl3 : inI l3) (hl4 : inI l4) (hl5 : inI l5) (hs0 : inI s0) (h : PX13_use_56 l1 l2 l3 l4 l5 s0 G Q) : Tg W0 vX13_use_56 [rf (16081), cI (l1), cI (l2), cI (l3), cI (l4), cI (l5)] [cI (s0)] G (fun r G => ∃ v, r = cI v ∧ inI v ∧ Q v G) := by
  unfold PX13_use_56 at h
  unfold vX13_use_56
  exact g_ret1 (is_I _) ⟨_, rfl, hs0, h⟩
def PX13_use_27 (l1 : Int) (l2 : Int) (l3 : Int) (l4 : Int) (l5 : Int) (G : gS) (Q : Int → gS → Prop) : Prop :=
  PX13_use_56 l1 l2 l3 l4 l5 (-1) G Q
set_option maxRecDepth 20000 in
theorem TX13_use_27 {l1 : Int} {l2 : Int} {l3 : Int} {l4 : Int} {l5 : Int} {G : gS} {Q : Int → gS → Prop} (hl1 : inI l1) (hl2 : inI l2) (hl3 : inI l3) (hl4 : inI l4) (hl5 : inI l5) (h : PX13_use_27 l1 l2 l3 l4 l5 G Q) : Tg W0 vX13_use_27 [rf (16081), cI (l1), cI (l2), cI (l3), cI (l4), cI (l5)] [] G (fun r G => ∃ v, r = cI v ∧ inI v ∧ Q v G) := by
  unfold PX13_use_27 at h
  unfold vX13_use_27
  refine g_const (v := cI (-1)) rfl ?_
  exact TX13_use_56 hl1 hl2 hl3 hl4 hl5 ⟨by omega, by omega⟩ h
def PX13_use_0 (a1 : Int) (a2 : Int) (a3 : Int) (a4 : Int) (G : gS) (Q : Int → gS → Prop) : Prop :=
  PX13_useAt a1 a2 a3 G (fun r2 G1 => inI r2 → ((r2 = -2 → PX13_use_27 a1 a2 a3 a4 r2 G1 Q) ∧ (¬ (r2 = -2) → ((a4 < 0 → PX13_use_27 a1 a2 a3 a4 r2 G1 Q) ∧ (¬ (a4 < 0) → ((1 < a4 → PX13_use_27 a1 a2 a3 a4 r2 G1 Q) ∧ (¬ (1 < a4) → ((a4 = 0 → ((0 : Int) ≤ r2 ∧ ((r2 : Int) < 30600 ∧ (inI (G1 16179 r2) → PX13_use_56 a1 a2 a3 a4 r2 (G1 16179 r2) G1 Q)))) ∧ (¬ (a4 = 0) → ((0 : Int) ≤ r2 ∧ ((r2 : Int) < 30600 ∧ (inI (G1 16180 r2) → (inI (irem (G1 16180 r2) 12) → PX13_use_56 a1 a2 a3 a4 r2 (irem (G1 16180 r2) 12) G1 Q)))))))))))))
set_option maxRecDepth 20000 in
theorem TX13_use_0 {a1 : Int} {a2 : Int} {a3 : Int} {a4 : Int} {G : gS} {Q : Int → gS → Prop} (ha1 : inI a1) (ha2 : inI a2) (ha3 : inI a3) (ha4 : inI a4) (h : PX13_use_0 a1 a2 a3 a4 G Q) : Tg W0 vX13_use_0 [rf (16081), cI (a1), cI (a2), cI (a3), cI (a4), 7] [] G (fun r G => ∃ v, r = cI v ∧ inI v ∧ Q v G) := by
  unfold PX13_use_0 at h
  unfold vX13_use_0
  refine g_ld (v := rf _) rfl (is_R _) ?_
  refine g_ld (v := cI _) rfl (is_I _) ?_
  refine g_ld (v := cI _) rfl (is_I _) ?_
  refine g_ld (v := cI _) rfl (is_I _) ?_
  refine g_callV (As := [_, _, _]) (ci := 13) oC13 (fun _ => rfl) ?_
  refine g_go1 (Nat.le_of_ble_eq_true rfl) (Tn_w (TX13_useAt ha1 ha2 ha3 h) fun _ G1 ⟨r2, e, i3, h⟩ => ?_)
  subst e
  refine ⟨n7_I _, ?_⟩
  replace h := h i3
  refine g_st (lv' := [_, _, _, _, _, _]) (is_I _) (Nat.le_of_ble_eq_true rfl) (Or.inr (n1_I _)) rfl ?_
  refine g_ld (v := cI _) rfl (is_I _) ?_
  refine g_const (v := cI (-2)) rfl ?_
  refine g_eq2 i3 ⟨by omega, by omega⟩ (fun b4 => ?_) (fun b4 => ?_)
  · replace h := h.1 b4
    exact TX13_use_27 ha1 ha2 ha3 ha4 i3 h
  · replace h := h.2 b4
    unfold vX13_use_16
    refine g_ld (v := cI _) rfl (is_I _) ?_
    refine g_lt1 ha4 (fun b5 => ?_) (fun b5 => ?_)
    · replace h := h.1 b5
      exact TX13_use_27 ha1 ha2 ha3 ha4 i3 h
    · replace h := h.2 b5
      unfold vX13_use_21
      refine g_ld (v := cI _) rfl (is_I _) ?_
      refine g_const (v := cI (1)) rfl ?_
      refine g_gt2 ha4 ⟨by omega, by omega⟩ (fun b6 => ?_) (fun b6 => ?_)
      · replace h := h.1 b6
        exact TX13_use_27 ha1 ha2 ha3 ha4 i3 h
      · replace h := h.2 b6
        unfold vX13_use_31
        refine g_ld (v := cI _) rfl (is_I _) ?_
        refine g_eq1 ha4 (fun b7 => ?_) (fun b7 => ?_)
        · replace h := h.1 b7
          unfold vX13_use_36
          refine g_ld (v := rf _) rfl (is_R _) ?_
          refine g_getF (v := 16179) oC13 (hC13_119) rfl (Nat.le_of_ble_eq_true rfl) (Nat.le_of_ble_eq_true rfl) ?_
          refine g_ld (v := cI _) rfl (is_I _) ?_
          obtain ⟨q8, q9, h⟩ := h
          refine g_aldI aC16179 q8 q9 rfl fun i10 => ?_
          replace h := h i10
          exact TX13_use_56 ha1 ha2 ha3 ha4 i3 i10 h
        · replace h := h.2 b7
          unfold vX13_use_46
          refine g_ld (v := rf _) rfl (is_R _) ?_
          refine g_getF (v := 16180) oC13 (hC13_120) rfl (Nat.le_of_ble_eq_true rfl) (Nat.le_of_ble_eq_true rfl) ?_
          refine g_ld (v := cI _) rfl (is_I _) ?_
          obtain ⟨q11, q12, h⟩ := h
          refine g_aldI aC16180 q11 q12 rfl fun i13 => ?_
          replace h := h i13
          refine g_const (v := cI (12)) rfl ?_
          refine g_irem ⟨by omega, by omega⟩ (by omega) fun i14 => ?_
          replace h := h i14
          exact TX13_use_56 ha1 ha2 ha3 ha4 i3 i14 h
abbrev PX13_use (a1 : Int) (a2 : Int) (a3 : Int) (a4 : Int) (G : gS) (Q : Int → gS → Prop) : Prop := PX13_use_0 a1 a2 a3 a4 G Q
theorem TX13_use {a1 : Int} {a2 : Int} {a3 : Int} {a4 : Int} {G : gS} {Q : Int → gS → Prop} (ha1 : inI a1) (ha2 : inI a2) (ha3 : inI a3) (ha4 : inI a4) (h : PX13_use a1 a2 a3 a4 G Q) : Tn W0 FX13_use [rf (16081), cI (a1), cI (a2), cI (a3), cI (a4)] G (fun r G => ∃ v, r = cI v ∧ inI v ∧ Q v G) := by
  unfold FX13_use
  refine g_ent (lv' := [rf (16081), cI (a1), cI (a2), cI (a3), cI (a4), 7]) (flR (flI (flI (flI (flI fl0))))) (Nat.le_of_ble_eq_true rfl) rfl ?_
  exact TX13_use_0 ha1 ha2 ha3 ha4 h
def PX13_see_0 (a1 : Int) (G : gS) (Q : Int → gS → Prop) : Prop :=
  (inI (G 16081 142) → ((0 : Int) ≤ G 16081 142 ∧ ((G 16081 142 : Int) < 216 ∧ (∀ G4 : gS, G4 = uG G 16194 (G 16081 142) (a1) → (inI (G4 16081 142) → (inI ((G4 16081 142) + 1) ∧ (∀ G7 : gS, G7 = uG G4 16081 142 ((G4 16081 142) + 1) → Q 0 G7)))))))
set_option maxRecDepth 20000 in
theorem TX13_see_0 {a1 : Int} {G : gS} {Q : Int → gS → Prop} (ha1 : inI a1) (h : PX13_see_0 a1 G Q) : Tg W0 vX13_see_0 [rf (16081), cI (a1)] [] G (fun r G => r = 7 ∧ Q 0 G) := by
  unfold PX13_see_0 at h
  unfold vX13_see_0
  refine g_ld (v := rf _) rfl (is_R _) ?_
  refine g_getF (v := 16194) oC13 (hC13_141) rfl (Nat.le_of_ble_eq_true rfl) (Nat.le_of_ble_eq_true rfl) ?_
  refine g_ld (v := rf _) rfl (is_R _) ?_
  refine g_getI (kz := 142) oC13 rfl (Nat.le_of_ble_eq_true rfl) rfl fun i1 => ?_
  replace h := h i1
  refine g_ld (v := cI _) rfl (is_I _) ?_
  obtain ⟨q2, q3, h⟩ := h
  refine g_astI aC16194 q2 q3 ha1 (nfI aC16194) ?_
  replace h := h _ rfl
  refine g_ld (v := rf _) rfl (is_R _) ?_
  refine g_dup (ct_R _) ?_
  refine g_getI (kz := 142) oC13 rfl (Nat.le_of_ble_eq_true rfl) rfl fun i5 => ?_
  replace h := h i5
  refine g_const (v := cI (1)) rfl ?_
  refine g_add ?_
  obtain ⟨q6, h⟩ := h
  refine g_putI (kz := 142) oC13 rfl (Nat.le_of_ble_eq_true rfl) rfl q6 (zfin_no (c := 16081) (j := 142) rfl) ?_
  replace h := h _ rfl
  exact g_ret0 ⟨rfl, h⟩
abbrev PX13_see (a1 : Int) (G : gS) (Q : Int → gS → Prop) : Prop := PX13_see_0 a1 G Q
theorem TX13_see {a1 : Int} {G : gS} {Q : Int → gS → Prop} (ha1 : inI a1) (h : PX13_see a1 G Q) : Tn W0 FX13_see [rf (16081), cI (a1)] G (fun r G => r = 7 ∧ Q 0 G) := by
  unfold FX13_see
  refine g_ent (lv' := [rf (16081), cI (a1)]) (flR (flI fl0)) (Nat.le_of_ble_eq_true rfl) rfl ?_
  exact TX13_see_0 ha1 h
def PX13_askCalled_75 (l1 : Int) (l2 : Int) (l3 : Int) (l4 : Int) (G : gS) (Q : Int → gS → Prop) : Prop :=
  Q (6) G
set_option maxRecDepth 20000 in
theorem TX13_askCalled_75 {l1 : Int} {l2 : Int} {l3 : Int} {l4 : Int} {G : gS} {Q : Int → gS → Prop} (hl1 : inI l1) (hl2 : inI l2) (hl3 : inI l3) (hl4 : inI l4) (h : PX13_askCalled_75 l1 l2 l3 l4 G Q) : Tg W0 vX13_askCalled_75 [rf (16081), cI (l1), cI (l2), cI (l3), cI (l4)] [] G (fun r G => ∃ v, r = cI v ∧ inI v ∧ Q v G) := by
  unfold PX13_askCalled_75 at h
  unfold vX13_askCalled_75
  refine g_const (v := cI (6)) rfl ?_
  exact g_ret1 (is_I _) ⟨_, rfl, ⟨by omega, by omega⟩, h⟩
def PX13_askCalled_56 (l1 : Int) (l2 : Int) (l3 : Int) (s0 : Int) (G : gS) (Q : Int → gS → Prop) : Prop :=
  ((s0 = -2 → PX13_askCalled_75 l1 l2 l3 s0 G Q) ∧ (¬ (s0 = -2) → ((0 : Int) ≤ s0 ∧ ((s0 : Int) < 7344 ∧ ((0 ≤ G 16121 s0 ∧ G 16121 s0 ≤ 1) → ((G 16121 s0 = 0 → (∀ G15 : gS, G15 = uG G 16081 140 (s0) → Q (0) G15)) ∧ (¬ (G 16121 s0 = 0) → PX13_askCalled_75 l1 l2 l3 s0 G Q)))))))
set_option maxRecDepth 20000 in
theorem TX13_askCalled_56 {l1 : Int} {l2 : Int} {l3 : Int} {l4 : Nat} {s0 : Int} {G : gS} {Q : Int → gS → Prop} (hl1 : inI l1) (hl2 : inI l2) (hl3 : inI l3) (hl4 : l4 % 8 ≠ 1) (hs0 : inI s0) (h : PX13_askCalled_56 l1 l2 l3 s0 G Q) : Tg W0 vX13_askCalled_56 [rf (16081), cI (l1), cI (l2), cI (l3), l4] [cI (s0)] G (fun r G => ∃ v, r = cI v ∧ inI v ∧ Q v G) := by
  unfold PX13_askCalled_56 at h
  unfold vX13_askCalled_56
  refine g_st (lv' := [_, _, _, _, _]) (is_I _) (Nat.le_of_ble_eq_true rfl) (Or.inr (n1_I _)) rfl ?_
  refine g_ld (v := cI _) rfl (is_I _) ?_
  refine g_const (v := cI (-2)) rfl ?_
  refine g_eq2 hs0 ⟨by omega, by omega⟩ (fun b10 => ?_) (fun b10 => ?_)
  · replace h := h.1 b10
    exact TX13_askCalled_75 hl1 hl2 hl3 hs0 h
  · replace h := h.2 b10
    unfold vX13_askCalled_65
    refine g_ld (v := rf _) rfl (is_R _) ?_
    refine g_getF (v := 16121) oC13 (hC13_47) rfl (Nat.le_of_ble_eq_true rfl) (Nat.le_of_ble_eq_true rfl) ?_
    refine g_ld (v := cI _) rfl (is_I _) ?_
    obtain ⟨q11, q12, h⟩ := h
    refine g_aldZ aC16121 q11 q12 rfl fun i13 => ?_
    replace h := h i13
    refine g_eq1 ⟨by omega, by omega⟩ (fun b14 => ?_) (fun b14 => ?_)
    · replace h := h.1 b14
      unfold vX13_askCalled_78
      refine g_ld (v := rf _) rfl (is_R _) ?_
      refine g_ld (v := cI _) rfl (is_I _) ?_
      refine g_putI (kz := 140) oC13 rfl (Nat.le_of_ble_eq_true rfl) rfl hs0 (zfin_no (c := 16081) (j := 140) rfl) ?_
      replace h := h _ rfl
      refine g_const (v := cI (0)) rfl ?_
      exact g_ret1 (is_I _) ⟨_, rfl, ⟨by omega, by omega⟩, h⟩
    · replace h := h.2 b14
      exact TX13_askCalled_75 hl1 hl2 hl3 hs0 h
def PX13_askCalled_24 (l1 : Int) (l2 : Int) (s0 : Int) (G : gS) (Q : Int → gS → Prop) : Prop :=
  ((1 < s0 → Q (3) G) ∧ (¬ (1 < s0) → ((l1 = -2 → ((s0 = 1 → (inI (G 16081 102) → PX13_askCalled_56 l1 l2 s0 (G 16081 102) G Q)) ∧ (¬ (s0 = 1) → PX13_askCalled_56 l1 l2 s0 (-2) G Q))) ∧ (¬ (l1 = -2) → PX13_askCalled_56 l1 l2 s0 l1 G Q))))
set_option maxRecDepth 20000 in
theorem TX13_askCalled_24 {l1 : Int} {l2 : Int} {l3 : Nat} {l4 : Nat} {s0 : Int} {G : gS} {Q : Int → gS → Prop} (hl1 : inI l1) (hl2 : inI l2) (hl3 : l3 % 8 ≠ 1) (hl4 : l4 % 8 ≠ 1) (hs0 : inI s0) (h : PX13_askCalled_24 l1 l2 s0 G Q) : Tg W0 vX13_askCalled_24 [rf (16081), cI (l1), cI (l2), l3, l4] [cI (s0)] G (fun r G => ∃ v, r = cI v ∧ inI v ∧ Q v G) := by
  unfold PX13_askCalled_24 at h
  unfold vX13_askCalled_24
  refine g_st (lv' := [_, _, _, _, _]) (is_I _) (Nat.le_of_ble_eq_true rfl) (Or.inr (n1_I _)) rfl ?_
  refine g_ld (v := cI _) rfl (is_I _) ?_
  refine g_const (v := cI (1)) rfl ?_
  refine g_gt2 hs0 ⟨by omega, by omega⟩ (fun b6 => ?_) (fun b6 => ?_)
  · replace h := h.1 b6
    unfold vX13_askCalled_30
    refine g_const (v := cI (3)) rfl ?_
    exact g_ret1 (is_I _) ⟨_, rfl, ⟨by omega, by omega⟩, h⟩
  · replace h := h.2 b6
    unfold vX13_askCalled_32
    refine g_ld (v := cI _) rfl (is_I _) ?_
    refine g_const (v := cI (-2)) rfl ?_
    refine g_eq2 hl1 ⟨by omega, by omega⟩ (fun b7 => ?_) (fun b7 => ?_)
    · replace h := h.1 b7
      unfold vX13_askCalled_42
      refine g_ld (v := cI _) rfl (is_I _) ?_
      refine g_const (v := cI (1)) rfl ?_
      refine g_eq2 hs0 ⟨by omega, by omega⟩ (fun b8 => ?_) (fun b8 => ?_)
      · replace h := h.1 b8
        unfold vX13_askCalled_47
        refine g_ld (v := rf _) rfl (is_R _) ?_
        refine g_getI (kz := 102) oC13 rfl (Nat.le_of_ble_eq_true rfl) rfl fun i9 => ?_
        replace h := h i9
        exact TX13_askCalled_56 hl1 hl2 hs0 hl4 i9 h
      · replace h := h.2 b8
        unfold vX13_askCalled_54
        refine g_const (v := cI (-2)) rfl ?_
        exact TX13_askCalled_56 hl1 hl2 hs0 hl4 ⟨by omega, by omega⟩ h
    · replace h := h.2 b7
      unfold vX13_askCalled_38
      refine g_ld (v := cI _) rfl (is_I _) ?_
      exact TX13_askCalled_56 hl1 hl2 hs0 hl4 hl1 h
def PX13_askCalled_12 (l1 : Int) (l2 : Int) (G : gS) (Q : Int → gS → Prop) : Prop :=
  PX13_askCalled_24 l1 l2 0 G Q
set_option maxRecDepth 20000 in
theorem TX13_askCalled_12 {l1 : Int} {l2 : Int} {l3 : Nat} {l4 : Nat} {G : gS} {Q : Int → gS → Prop} (hl1 : inI l1) (hl2 : inI l2) (hl3 : l3 % 8 ≠ 1) (hl4 : l4 % 8 ≠ 1) (h : PX13_askCalled_12 l1 l2 G Q) : Tg W0 vX13_askCalled_12 [rf (16081), cI (l1), cI (l2), l3, l4] [] G (fun r G => ∃ v, r = cI v ∧ inI v ∧ Q v G) := by
  unfold PX13_askCalled_12 at h
  unfold vX13_askCalled_12
  refine g_const (v := cI (0)) rfl ?_
  exact TX13_askCalled_24 hl1 hl2 hl3 hl4 ⟨by omega, by omega⟩ h
def PX13_askCalled_0 (a1 : Int) (a2 : Int) (G : gS) (Q : Int → gS → Prop) : Prop :=
  ((a1 = -2 → ((a2 = -2 → PX13_askCalled_12 a1 a2 G Q) ∧ (¬ (a2 = -2) → PX13_mostSpecial a2 7343 G (fun r4 G3 => inI r4 → PX13_askCalled_24 a1 a2 r4 G3 Q)))) ∧ (¬ (a1 = -2) → PX13_askCalled_12 a1 a2 G Q))
set_option maxRecDepth 20000 in
theorem TX13_askCalled_0 {a1 : Int} {a2 : Int} {G : gS} {Q : Int → gS → Prop} (ha1 : inI a1) (ha2 : inI a2) (h : PX13_askCalled_0 a1 a2 G Q) : Tg W0 vX13_askCalled_0 [rf (16081), cI (a1), cI (a2), 7, 7] [] G (fun r G => ∃ v, r = cI v ∧ inI v ∧ Q v G) := by
  unfold PX13_askCalled_0 at h
  unfold vX13_askCalled_0
  refine g_ld (v := cI _) rfl (is_I _) ?_
  refine g_const (v := cI (-2)) rfl ?_
  refine g_eq2 ha1 ⟨by omega, by omega⟩ (fun b1 => ?_) (fun b1 => ?_)
  · replace h := h.1 b1
    unfold vX13_askCalled_6
    refine g_ld (v := cI _) rfl (is_I _) ?_
    refine g_const (v := cI (-2)) rfl ?_
    refine g_eq2 ha2 ⟨by omega, by omega⟩ (fun b2 => ?_) (fun b2 => ?_)
    · replace h := h.1 b2
      exact TX13_askCalled_12 ha1 ha2 (show 7 % 8 ≠ 1 by decide) (show 7 % 8 ≠ 1 by decide) h
    · replace h := h.2 b2
      unfold vX13_askCalled_16
      refine g_ld (v := rf _) rfl (is_R _) ?_
      refine g_ld (v := cI _) rfl (is_I _) ?_
      refine g_const (v := cI (7343)) rfl ?_
      refine g_callV (As := [_, _]) (ci := 13) oC13 (fun _ => rfl) ?_
      refine g_go1 (Nat.le_of_ble_eq_true rfl) (Tn_w (TX13_mostSpecial ha2 ⟨by omega, by omega⟩ h) fun _ G3 ⟨r4, e, i5, h⟩ => ?_)
      subst e
      refine ⟨n7_I _, ?_⟩
      replace h := h i5
      exact TX13_askCalled_24 ha1 ha2 (show 7 % 8 ≠ 1 by decide) (show 7 % 8 ≠ 1 by decide) i5 h
  · replace h := h.2 b1
    exact TX13_askCalled_12 ha1 ha2 (show 7 % 8 ≠ 1 by decide) (show 7 % 8 ≠ 1 by decide) h
abbrev PX13_askCalled (a1 : Int) (a2 : Int) (G : gS) (Q : Int → gS → Prop) : Prop := PX13_askCalled_0 a1 a2 G Q
theorem TX13_askCalled {a1 : Int} {a2 : Int} {G : gS} {Q : Int → gS → Prop} (ha1 : inI a1) (ha2 : inI a2) (h : PX13_askCalled a1 a2 G Q) : Tn W0 FX13_askCalled [rf (16081), cI (a1), cI (a2)] G (fun r G => ∃ v, r = cI v ∧ inI v ∧ Q v G) := by
  unfold FX13_askCalled
  refine g_ent (lv' := [rf (16081), cI (a1), cI (a2), 7, 7]) (flR (flI (flI fl0))) (Nat.le_of_ble_eq_true rfl) rfl ?_
  exact TX13_askCalled_0 ha1 ha2 h
def PX13_askFaceSuper_31 (l1 : Int) (l2 : Int) (s0 : Int) (s1 : Int) (G : gS) (Q : Int → gS → Prop) : Prop :=
  (isO W0 13 (s0) ∧ PX13_askCalled s1 l1 G (fun r11 G10 => inI r11 → Q (r11) G10))
set_option maxRecDepth 20000 in
theorem TX13_askFaceSuper_31 {l1 : Int} {l2 : Int} {s0 : Int} {s1 : Int} {G : gS} {Q : Int → gS → Prop} (hl1 : inI l1) (hl2 : inI l2) (hs1 : inI s1) (h : PX13_askFaceSuper_31 l1 l2 s0 s1 G Q) : Tg W0 vX13_askFaceSuper_31 [rf (16081), cI (l1), cI (l2)] [cI (s1), rf (s0)] G (fun r G => ∃ v, r = cI v ∧ inI v ∧ Q v G) := by
  unfold PX13_askFaceSuper_31 at h
  unfold vX13_askFaceSuper_31
  refine g_ld (v := cI _) rfl (is_I _) ?_
  obtain ⟨q9, h⟩ := h
  refine g_callV (As := [_, _]) (ci := 13) q9 (fun _ => rfl) ?_
  refine g_go1 (Nat.le_of_ble_eq_true rfl) (Tn_w (Tn_eq (one13 q9) (TX13_askCalled hs1 hl1 h)) fun _ G10 ⟨r11, e, i12, h⟩ => ?_)
  subst e
  refine ⟨n7_I _, ?_⟩
  replace h := h i12
  exact g_ret1 (is_I _) ⟨_, rfl, i12, h⟩
def PX13_askFaceSuper_29 (l1 : Int) (l2 : Int) (s0 : Int) (G : gS) (Q : Int → gS → Prop) : Prop :=
  PX13_askFaceSuper_31 l1 l2 s0 (-2) G Q
set_option maxRecDepth 20000 in
theorem TX13_askFaceSuper_29 {l1 : Int} {l2 : Int} {s0 : Int} {G : gS} {Q : Int → gS → Prop} (hl1 : inI l1) (hl2 : inI l2) (h : PX13_askFaceSuper_29 l1 l2 s0 G Q) : Tg W0 vX13_askFaceSuper_29 [rf (16081), cI (l1), cI (l2)] [rf (s0)] G (fun r G => ∃ v, r = cI v ∧ inI v ∧ Q v G) := by
  unfold PX13_askFaceSuper_29 at h
  unfold vX13_askFaceSuper_29
  refine g_const (v := cI (-2)) rfl ?_
  exact TX13_askFaceSuper_31 hl1 hl2 ⟨by omega, by omega⟩ h
def PX13_askFaceSuper_0 (a1 : Int) (G : gS) (Q : Int → gS → Prop) : Prop :=
  PX13_ownMethod a1 7343 G (fun r2 G1 => inI r2 → ((r2 = -2 → PX13_askFaceSuper_29 a1 r2 16081 G1 Q) ∧ (¬ (r2 = -2) → ((0 : Int) ≤ r2 ∧ ((r2 : Int) < 7344 ∧ ((0 ≤ G1 16119 r2 ∧ G1 16119 r2 ≤ 1) → ((G1 16119 r2 = 0 → PX13_askFaceSuper_31 a1 r2 16081 r2 G1 Q) ∧ (¬ (G1 16119 r2 = 0) → PX13_askFaceSuper_29 a1 r2 16081 G1 Q))))))))
set_option maxRecDepth 20000 in
theorem TX13_askFaceSuper_0 {a1 : Int} {G : gS} {Q : Int → gS → Prop} (ha1 : inI a1) (h : PX13_askFaceSuper_0 a1 G Q) : Tg W0 vX13_askFaceSuper_0 [rf (16081), cI (a1), 7] [] G (fun r G => ∃ v, r = cI v ∧ inI v ∧ Q v G) := by
  unfold PX13_askFaceSuper_0 at h
  unfold vX13_askFaceSuper_0
  refine g_ld (v := rf _) rfl (is_R _) ?_
  refine g_ld (v := cI _) rfl (is_I _) ?_
  refine g_const (v := cI (7343)) rfl ?_
  refine g_callV (As := [_, _]) (ci := 13) oC13 (fun _ => rfl) ?_
  refine g_go1 (Nat.le_of_ble_eq_true rfl) (Tn_w (TX13_ownMethod ha1 ⟨by omega, by omega⟩ h) fun _ G1 ⟨r2, e, i3, h⟩ => ?_)
  subst e
  refine ⟨n7_I _, ?_⟩
  replace h := h i3
  refine g_st (lv' := [_, _, _]) (is_I _) (Nat.le_of_ble_eq_true rfl) (Or.inr (n1_I _)) rfl ?_
  refine g_ld (v := rf _) rfl (is_R _) ?_
  refine g_ld (v := cI _) rfl (is_I _) ?_
  refine g_const (v := cI (-2)) rfl ?_
  refine g_eq2 i3 ⟨by omega, by omega⟩ (fun b4 => ?_) (fun b4 => ?_)
  · replace h := h.1 b4
    exact TX13_askFaceSuper_29 ha1 i3 h
  · replace h := h.2 b4
    unfold vX13_askFaceSuper_16
    refine g_ld (v := rf _) rfl (is_R _) ?_
    refine g_getF (v := 16119) oC13 (hC13_45) rfl (Nat.le_of_ble_eq_true rfl) (Nat.le_of_ble_eq_true rfl) ?_
    refine g_ld (v := cI _) rfl (is_I _) ?_
    obtain ⟨q5, q6, h⟩ := h
    refine g_aldZ aC16119 q5 q6 rfl fun i7 => ?_
    replace h := h i7
    refine g_eq1 ⟨by omega, by omega⟩ (fun b8 => ?_) (fun b8 => ?_)
    · replace h := h.1 b8
      unfold vX13_askFaceSuper_25
      refine g_ld (v := cI _) rfl (is_I _) ?_
      exact TX13_askFaceSuper_31 ha1 i3 i3 h
    · replace h := h.2 b8
      exact TX13_askFaceSuper_29 ha1 i3 h
abbrev PX13_askFaceSuper (a1 : Int) (G : gS) (Q : Int → gS → Prop) : Prop := PX13_askFaceSuper_0 a1 G Q
theorem TX13_askFaceSuper {a1 : Int} {G : gS} {Q : Int → gS → Prop} (ha1 : inI a1) (h : PX13_askFaceSuper a1 G Q) : Tn W0 FX13_askFaceSuper [rf (16081), cI (a1)] G (fun r G => ∃ v, r = cI v ∧ inI v ∧ Q v G) := by
  unfold FX13_askFaceSuper
  refine g_ent (lv' := [rf (16081), cI (a1), 7]) (flR (flI fl0)) (Nat.le_of_ble_eq_true rfl) rfl ?_
  exact TX13_askFaceSuper_0 ha1 h
def PX13_askSuper_61 (J : Nat → List Int → gS → (Int → gS → Prop) → Prop) (l1 : Int) (l2 : Int) (l3 : Int) (G : gS) (Q : Int → gS → Prop) : Prop :=
  PX13_askCalled l3 l1 G (fun r12 G11 => inI r12 → Q (r12) G11)
set_option maxRecDepth 20000 in
theorem TX13_askSuper_61 {j : Nat → rx_K} {J : Nat → List Int → gS → (Int → gS → Prop) → Prop} {l1 : Int} {l2 : Int} {l3 : Int} {l4 : Nat} {G : gS} {Q : Int → gS → Prop} (hl1 : inI l1) (hl2 : inI l2) (hl3 : inI l3) (hl4 : l4 % 8 ≠ 1) (hj0 : ∀ (l1 : Int) (l2 : Int) (l3 : Int) (l4 : Nat) (G : gS), (inI l1) → (inI l2) → (inI l3) → (l4 % 8 ≠ 1) → J 0 [l1, l2, l3] G Q → Tg W0 (j 0) [rf (16081), cI (l1), cI (l2), cI (l3), l4] [] G (fun r G => ∃ v, r = cI v ∧ inI v ∧ Q v G)) (h : PX13_askSuper_61 J l1 l2 l3 G Q) : Tg W0 (vX13_askSuper_61 j) [rf (16081), cI (l1), cI (l2), cI (l3), l4] [] G (fun r G => ∃ v, r = cI v ∧ inI v ∧ Q v G) := by
  unfold PX13_askSuper_61 at h
  unfold vX13_askSuper_61
  refine g_ld (v := rf _) rfl (is_R _) ?_
  refine g_ld (v := cI _) rfl (is_I _) ?_
  refine g_ld (v := cI _) rfl (is_I _) ?_
  refine g_callV (As := [_, _]) (ci := 13) oC13 (fun _ => rfl) ?_
  refine g_go1 (Nat.le_of_ble_eq_true rfl) (Tn_w (TX13_askCalled hl3 hl1 h) fun _ G11 ⟨r12, e, i13, h⟩ => ?_)
  subst e
  refine ⟨n7_I _, ?_⟩
  replace h := h i13
  exact g_ret1 (is_I _) ⟨_, rfl, i13, h⟩
def PX13_askSuper_51 (J : Nat → List Int → gS → (Int → gS → Prop) → Prop) (l1 : Int) (l2 : Int) (l3 : Int) (l4 : Int) (s0 : Int) (G : gS) (Q : Int → gS → Prop) : Prop :=
  PX13_parent l2 G (fun r15 G14 => inI r15 → J 0 [l1, r15, s0] G14 Q)
set_option maxRecDepth 20000 in
theorem TX13_askSuper_51 {j : Nat → rx_K} {J : Nat → List Int → gS → (Int → gS → Prop) → Prop} {l1 : Int} {l2 : Int} {l3 : Int} {l4 : Int} {s0 : Int} {G : gS} {Q : Int → gS → Prop} (hl1 : inI l1) (hl2 : inI l2) (hl3 : inI l3) (hl4 : inI l4) (hs0 : inI s0) (hj0 : ∀ (l1 : Int) (l2 : Int) (l3 : Int) (l4 : Nat) (G : gS), (inI l1) → (inI l2) → (inI l3) → (l4 % 8 ≠ 1) → J 0 [l1, l2, l3] G Q → Tg W0 (j 0) [rf (16081), cI (l1), cI (l2), cI (l3), l4] [] G (fun r G => ∃ v, r = cI v ∧ inI v ∧ Q v G)) (h : PX13_askSuper_51 J l1 l2 l3 l4 s0 G Q) : Tg W0 (vX13_askSuper_51 j) [rf (16081), cI (l1), cI (l2), cI (l3), cI (l4)] [cI (s0)] G (fun r G => ∃ v, r = cI v ∧ inI v ∧ Q v G) := by
  unfold PX13_askSuper_51 at h
  unfold vX13_askSuper_51
  refine g_st (lv' := [_, _, _, _, _]) (is_I _) (Nat.le_of_ble_eq_true rfl) (Or.inr (n1_I _)) rfl ?_
  refine g_ld (v := rf _) rfl (is_R _) ?_
  refine g_ld (v := cI _) rfl (is_I _) ?_
  refine g_callV (As := [_]) (ci := 13) oC13 (fun _ => rfl) ?_
  refine g_go1 (Nat.le_of_ble_eq_true rfl) (Tn_w (TX13_parent hl2 h) fun _ G14 ⟨r15, e, i16, h⟩ => ?_)
  subst e
  refine ⟨n7_I _, ?_⟩
  replace h := h i16
  refine g_st (lv' := [_, _, _, _, _]) (is_I _) (Nat.le_of_ble_eq_true rfl) (Or.inr (n1_I _)) rfl ?_
  exact hj0 _ _ _ _ _ hl1 i16 hs0 (n1_I _) h
def PX13_askSuper_49 (J : Nat → List Int → gS → (Int → gS → Prop) → Prop) (l1 : Int) (l2 : Int) (l3 : Int) (l4 : Int) (G : gS) (Q : Int → gS → Prop) : Prop :=
  PX13_askSuper_51 J l1 l2 l3 l4 (-2) G Q
set_option maxRecDepth 20000 in
theorem TX13_askSuper_49 {j : Nat → rx_K} {J : Nat → List Int → gS → (Int → gS → Prop) → Prop} {l1 : Int} {l2 : Int} {l3 : Int} {l4 : Int} {G : gS} {Q : Int → gS → Prop} (hl1 : inI l1) (hl2 : inI l2) (hl3 : inI l3) (hl4 : inI l4) (hj0 : ∀ (l1 : Int) (l2 : Int) (l3 : Int) (l4 : Nat) (G : gS), (inI l1) → (inI l2) → (inI l3) → (l4 % 8 ≠ 1) → J 0 [l1, l2, l3] G Q → Tg W0 (j 0) [rf (16081), cI (l1), cI (l2), cI (l3), l4] [] G (fun r G => ∃ v, r = cI v ∧ inI v ∧ Q v G)) (h : PX13_askSuper_49 J l1 l2 l3 l4 G Q) : Tg W0 (vX13_askSuper_49 j) [rf (16081), cI (l1), cI (l2), cI (l3), cI (l4)] [] G (fun r G => ∃ v, r = cI v ∧ inI v ∧ Q v G) := by
  unfold PX13_askSuper_49 at h
  unfold vX13_askSuper_49
  refine g_const (v := cI (-2)) rfl ?_
  exact TX13_askSuper_51 hl1 hl2 hl3 hl4 ⟨by omega, by omega⟩ hj0 h
def PX13_askSuper_5 (J : Nat → List Int → gS → (Int → gS → Prop) → Prop) (l1 : Int) (l2 : Int) (l3 : Int) (G : gS) (Q : Int → gS → Prop) : Prop :=
  ((l2 = -2 → PX13_askSuper_61 J l1 l2 l3 G Q) ∧ (¬ (l2 = -2) → ((l3 = -2 → PX13_ownMethod l2 7343 G (fun r4 G3 => inI r4 → ((r4 = -2 → PX13_askSuper_49 J l1 l2 l3 r4 G3 Q) ∧ (¬ (r4 = -2) → ((0 : Int) ≤ r4 ∧ ((r4 : Int) < 7344 ∧ ((0 ≤ G3 16119 r4 ∧ G3 16119 r4 ≤ 1) → ((G3 16119 r4 = 0 → PX13_askSuper_51 J l1 l2 l3 r4 r4 G3 Q) ∧ (¬ (G3 16119 r4 = 0) → PX13_askSuper_49 J l1 l2 l3 r4 G3 Q))))))))) ∧ (¬ (l3 = -2) → PX13_askSuper_61 J l1 l2 l3 G Q))))
set_option maxRecDepth 20000 in
theorem TX13_askSuper_5 {j : Nat → rx_K} {J : Nat → List Int → gS → (Int → gS → Prop) → Prop} {l1 : Int} {l2 : Int} {l3 : Int} {l4 : Nat} {G : gS} {Q : Int → gS → Prop} (hl1 : inI l1) (hl2 : inI l2) (hl3 : inI l3) (hl4 : l4 % 8 ≠ 1) (hj0 : ∀ (l1 : Int) (l2 : Int) (l3 : Int) (l4 : Nat) (G : gS), (inI l1) → (inI l2) → (inI l3) → (l4 % 8 ≠ 1) → J 0 [l1, l2, l3] G Q → Tg W0 (j 0) [rf (16081), cI (l1), cI (l2), cI (l3), l4] [] G (fun r G => ∃ v, r = cI v ∧ inI v ∧ Q v G)) (h : PX13_askSuper_5 J l1 l2 l3 G Q) : Tg W0 (vX13_askSuper_5 j) [rf (16081), cI (l1), cI (l2), cI (l3), l4] [] G (fun r G => ∃ v, r = cI v ∧ inI v ∧ Q v G) := by
  unfold PX13_askSuper_5 at h
  unfold vX13_askSuper_5
  refine g_ld (v := cI _) rfl (is_I _) ?_
  refine g_const (v := cI (-2)) rfl ?_
  refine g_eq2 hl2 ⟨by omega, by omega⟩ (fun b1 => ?_) (fun b1 => ?_)
  · replace h := h.1 b1
    exact TX13_askSuper_61 hl1 hl2 hl3 hl4 hj0 h
  · replace h := h.2 b1
    unfold vX13_askSuper_11
    refine g_ld (v := cI _) rfl (is_I _) ?_
    refine g_const (v := cI (-2)) rfl ?_
    refine g_eq2 hl3 ⟨by omega, by omega⟩ (fun b2 => ?_) (fun b2 => ?_)
    · replace h := h.1 b2
      unfold vX13_askSuper_17
      refine g_ld (v := rf _) rfl (is_R _) ?_
      refine g_ld (v := cI _) rfl (is_I _) ?_
      refine g_const (v := cI (7343)) rfl ?_
      refine g_callV (As := [_, _]) (ci := 13) oC13 (fun _ => rfl) ?_
      refine g_go1 (Nat.le_of_ble_eq_true rfl) (Tn_w (TX13_ownMethod hl2 ⟨by omega, by omega⟩ h) fun _ G3 ⟨r4, e, i5, h⟩ => ?_)
      subst e
      refine ⟨n7_I _, ?_⟩
      replace h := h i5
      refine g_st (lv' := [_, _, _, _, _]) (is_I _) (Nat.le_of_ble_eq_true rfl) (Or.inr (n1_I _)) rfl ?_
      refine g_ld (v := cI _) rfl (is_I _) ?_
      refine g_const (v := cI (-2)) rfl ?_
      refine g_eq2 i5 ⟨by omega, by omega⟩ (fun b6 => ?_) (fun b6 => ?_)
      · replace h := h.1 b6
        exact TX13_askSuper_49 hl1 hl2 hl3 i5 hj0 h
      · replace h := h.2 b6
        unfold vX13_askSuper_34
        refine g_ld (v := rf _) rfl (is_R _) ?_
        refine g_getF (v := 16119) oC13 (hC13_45) rfl (Nat.le_of_ble_eq_true rfl) (Nat.le_of_ble_eq_true rfl) ?_
        refine g_ld (v := cI _) rfl (is_I _) ?_
        obtain ⟨q7, q8, h⟩ := h
        refine g_aldZ aC16119 q7 q8 rfl fun i9 => ?_
        replace h := h i9
        refine g_eq1 ⟨by omega, by omega⟩ (fun b10 => ?_) (fun b10 => ?_)
        · replace h := h.1 b10
          unfold vX13_askSuper_44
          refine g_ld (v := cI _) rfl (is_I _) ?_
          exact TX13_askSuper_51 hl1 hl2 hl3 i5 i5 hj0 h
        · replace h := h.2 b10
          exact TX13_askSuper_49 hl1 hl2 hl3 i5 hj0 h
    · replace h := h.2 b2
      exact TX13_askSuper_61 hl1 hl2 hl3 hl4 hj0 h
def PX13_askSuper_0 (J : Nat → List Int → gS → (Int → gS → Prop) → Prop) (a1 : Int) (G : gS) (Q : Int → gS → Prop) : Prop :=
  PX13_askSuper_5 J a1 a1 (-2) G Q
set_option maxRecDepth 20000 in
theorem TX13_askSuper_0 {j : Nat → rx_K} {J : Nat → List Int → gS → (Int → gS → Prop) → Prop} {a1 : Int} {G : gS} {Q : Int → gS → Prop} (ha1 : inI a1) (hj0 : ∀ (l1 : Int) (l2 : Int) (l3 : Int) (l4 : Nat) (G : gS), (inI l1) → (inI l2) → (inI l3) → (l4 % 8 ≠ 1) → J 0 [l1, l2, l3] G Q → Tg W0 (j 0) [rf (16081), cI (l1), cI (l2), cI (l3), l4] [] G (fun r G => ∃ v, r = cI v ∧ inI v ∧ Q v G)) (h : PX13_askSuper_0 J a1 G Q) : Tg W0 (vX13_askSuper_0 j) [rf (16081), cI (a1), 7, 7, 7] [] G (fun r G => ∃ v, r = cI v ∧ inI v ∧ Q v G) := by
  unfold PX13_askSuper_0 at h
  unfold vX13_askSuper_0
  refine g_ld (v := cI _) rfl (is_I _) ?_
  refine g_st (lv' := [_, _, _, _, _]) (is_I _) (Nat.le_of_ble_eq_true rfl) (Or.inr (n1_I _)) rfl ?_
  refine g_const (v := cI (-2)) rfl ?_
  refine g_st (lv' := [_, _, _, _, _]) (is_I _) (Nat.le_of_ble_eq_true rfl) (Or.inr (n1_I _)) rfl ?_
  exact TX13_askSuper_5 ha1 ha1 ⟨by omega, by omega⟩ (show 7 % 8 ≠ 1 by decide) hj0 h
def PX13_askSuper_J : Nat → Nat → List Int → gS → (Int → gS → Prop) → Prop
  | 0, _, _, _, _ => False
  | f + 1, h, L, G, Q => match h, L with
    | 0, [l1, l2, l3] => PX13_askSuper_5 (PX13_askSuper_J f) l1 l2 l3 G Q
    | _, _ => False
theorem TX13_askSuper_J {Q : Int → gS → Prop} : ∀ f N : Nat, f ≤ N → (∀ (l1 : Int) (l2 : Int) (l3 : Int) (l4 : Nat) (G : gS), (inI l1) → (inI l2) → (inI l3) → (l4 % 8 ≠ 1) → (PX13_askSuper_J f) 0 [l1, l2, l3] G Q → Tg W0 (rx_J vhX13_askSuper N 0) [rf (16081), cI (l1), cI (l2), cI (l3), l4] [] G (fun r G => ∃ v, r = cI v ∧ inI v ∧ Q v G)) := by
  intro f
  induction f with
  | zero => exact fun N _ => fun _ _ _ _ _ _ _ _ _ h => h.elim
  | succ f ih =>
    intro N hN
    obtain ⟨M, rfl⟩ : ∃ M, N = M + 1 := ⟨N - 1, by omega⟩
    have ih := ih M (by omega)
    exact fun _ _ _ _ _ hl1 hl2 hl3 hl4 h => show Tg W0 (vX13_askSuper_5 (rx_J vhX13_askSuper M)) _ _ _ _ from TX13_askSuper_5 hl1 hl2 hl3 hl4 ih h
def PX13_askSuper (a1 : Int) (G : gS) (Q : Int → gS → Prop) : Prop := ∃ f : Nat, f ≤ 4000000000 ∧ PX13_askSuper_0 (PX13_askSuper_J f) a1 G Q
theorem TX13_askSuper {a1 : Int} {G : gS} {Q : Int → gS → Prop} (ha1 : inI a1) (h : PX13_askSuper a1 G Q) : Tn W0 FX13_askSuper [rf (16081), cI (a1)] G (fun r G => ∃ v, r = cI v ∧ inI v ∧ Q v G) := by
  obtain ⟨f, hf, h⟩ := h
  have hJ := TX13_askSuper_J (Q := Q) f 4000000000 hf
  unfold FX13_askSuper
  refine g_ent (lv' := [rf (16081), cI (a1), 7, 7, 7]) (flR (flI fl0)) (Nat.le_of_ble_eq_true rfl) rfl ?_
  exact TX13_askSuper_0 ha1 hJ h
def PX13_isStale_72 (l1 : Int) (l2 : Int) (l3 : Int) (s0 : Int) (G : gS) (Q : Int → gS → Prop) : Prop :=
  ((0 ≤ s0 ∧ s0 ≤ 1) ∧ Q (s0) G)
set_option maxRecDepth 20000 in
theorem TX13_isStale_72 {l1 : Int} {l2 : Int} {l3 : Int} {s0 : Int} {G : gS} {Q : Int → gS → Prop} (hl1 : inI l1) (hl2 : inI l2) (hl3 : inI l3) (hs0 : inI s0) (h : PX13_isStale_72 l1 l2 l3 s0 G Q) : Tg W0 vX13_isStale_72 [rf (16081), cI (l1), cI (l2), cI (l3)] [cI (s0)] G (fun r G => ∃ v, r = cI v ∧ (0 ≤ v ∧ v ≤ 1) ∧ Q v G) := by
  unfold PX13_isStale_72 at h
  unfold vX13_isStale_72
  obtain ⟨q26, h⟩ := h
  exact g_ret1 (is_Z q26) ⟨_, rfl, q26, h⟩
def PX13_isStale_67 (l1 : Int) (l2 : Int) (l3 : Int) (G : gS) (Q : Int → gS → Prop) : Prop :=
  PX13_isStale_72 l1 l2 l3 1 G Q
set_option maxRecDepth 20000 in
theorem TX13_isStale_67 {l1 : Int} {l2 : Int} {l3 : Int} {G : gS} {Q : Int → gS → Prop} (hl1 : inI l1) (hl2 : inI l2) (hl3 : inI l3) (h : PX13_isStale_67 l1 l2 l3 G Q) : Tg W0 vX13_isStale_67 [rf (16081), cI (l1), cI (l2), cI (l3)] [] G (fun r G => ∃ v, r = cI v ∧ (0 ≤ v ∧ v ≤ 1) ∧ Q v G) := by
  unfold PX13_isStale_67 at h
  unfold vX13_isStale_67
  refine g_const (v := cI (1)) rfl ?_
  exact TX13_isStale_72 hl1 hl2 hl3 ⟨by omega, by omega⟩ h
def PX13_isStale_36 (l1 : Int) (l2 : Int) (s0 : Int) (G : gS) (Q : Int → gS → Prop) : Prop :=
  ((s0 = -2 → PX13_isStale_67 l1 l2 s0 G Q) ∧ (¬ (s0 = -2) → ((0 : Int) ≤ s0 ∧ ((s0 : Int) < 7344 ∧ ((0 ≤ G 16138 s0 ∧ G 16138 s0 ≤ 1) → ((G 16138 s0 = 0 → PX13_isStale_67 l1 l2 s0 G Q) ∧ (¬ (G 16138 s0 = 0) → ((0 : Int) ≤ s0 ∧ ((s0 : Int) < 7344 ∧ (inI (G 16139 s0) → ((0 : Int) ≤ l1 ∧ ((l1 : Int) < 30600 ∧ (inI (G 16187 l1) → ((G 16139 s0 = G 16187 l1 → PX13_isStale_72 l1 l2 s0 0 G Q) ∧ (¬ (G 16139 s0 = G 16187 l1) → PX13_isStale_67 l1 l2 s0 G Q)))))))))))))))
set_option maxRecDepth 20000 in
theorem TX13_isStale_36 {l1 : Int} {l2 : Int} {l3 : Nat} {s0 : Int} {G : gS} {Q : Int → gS → Prop} (hl1 : inI l1) (hl2 : inI l2) (hl3 : l3 % 8 ≠ 1) (hs0 : inI s0) (h : PX13_isStale_36 l1 l2 s0 G Q) : Tg W0 vX13_isStale_36 [rf (16081), cI (l1), cI (l2), l3] [cI (s0)] G (fun r G => ∃ v, r = cI v ∧ (0 ≤ v ∧ v ≤ 1) ∧ Q v G) := by
  unfold PX13_isStale_36 at h
  unfold vX13_isStale_36
  refine g_st (lv' := [_, _, _, _]) (is_I _) (Nat.le_of_ble_eq_true rfl) (Or.inr (n1_I _)) rfl ?_
  refine g_ld (v := cI _) rfl (is_I _) ?_
  refine g_const (v := cI (-2)) rfl ?_
  refine g_eq2 hs0 ⟨by omega, by omega⟩ (fun b14 => ?_) (fun b14 => ?_)
  · replace h := h.1 b14
    exact TX13_isStale_67 hl1 hl2 hs0 h
  · replace h := h.2 b14
    unfold vX13_isStale_43
    refine g_ld (v := rf _) rfl (is_R _) ?_
    refine g_getF (v := 16138) oC13 (hC13_64) rfl (Nat.le_of_ble_eq_true rfl) (Nat.le_of_ble_eq_true rfl) ?_
    refine g_ld (v := cI _) rfl (is_I _) ?_
    obtain ⟨q15, q16, h⟩ := h
    refine g_aldZ aC16138 q15 q16 rfl fun i17 => ?_
    replace h := h i17
    refine g_eq1 ⟨by omega, by omega⟩ (fun b18 => ?_) (fun b18 => ?_)
    · replace h := h.1 b18
      exact TX13_isStale_67 hl1 hl2 hs0 h
    · replace h := h.2 b18
      unfold vX13_isStale_52
      refine g_ld (v := rf _) rfl (is_R _) ?_
      refine g_getF (v := 16139) oC13 (hC13_65) rfl (Nat.le_of_ble_eq_true rfl) (Nat.le_of_ble_eq_true rfl) ?_
      refine g_ld (v := cI _) rfl (is_I _) ?_
      obtain ⟨q19, q20, h⟩ := h
      refine g_aldI aC16139 q19 q20 rfl fun i21 => ?_
      replace h := h i21
      refine g_ld (v := rf _) rfl (is_R _) ?_
      refine g_getF (v := 16187) oC13 (hC13_127) rfl (Nat.le_of_ble_eq_true rfl) (Nat.le_of_ble_eq_true rfl) ?_
      refine g_ld (v := cI _) rfl (is_I _) ?_
      obtain ⟨q22, q23, h⟩ := h
      refine g_aldI aC16187 q22 q23 rfl fun i24 => ?_
      replace h := h i24
      refine g_eq2 i21 i24 (fun b25 => ?_) (fun b25 => ?_)
      · replace h := h.1 b25
        unfold vX13_isStale_71
        refine g_const (v := cI (0)) rfl ?_
        exact TX13_isStale_72 hl1 hl2 hs0 ⟨by omega, by omega⟩ h
      · replace h := h.2 b25
        exact TX13_isStale_67 hl1 hl2 hs0 h
def PX13_isStale_0 (a1 : Int) (G : gS) (Q : Int → gS → Prop) : Prop :=
  ((0 : Int) ≤ a1 ∧ ((a1 : Int) < 30600 ∧ (inL (G 16181 a1) → PX13_find (G 16181 a1) G (fun r5 G4 => inI r5 → ((r5 = -2 → PX13_isStale_36 a1 r5 (-2) G4 Q) ∧ (¬ (r5 = -2) → ((0 : Int) ≤ a1 ∧ ((a1 : Int) < 30600 ∧ (inL (G4 16182 a1) → PX13_theField r5 (G4 16182 a1) 2 G4 (fun r12 G11 => inI r12 → PX13_isStale_36 a1 r5 r12 G11 Q))))))))))
set_option maxRecDepth 20000 in
theorem TX13_isStale_0 {a1 : Int} {G : gS} {Q : Int → gS → Prop} (ha1 : inI a1) (h : PX13_isStale_0 a1 G Q) : Tg W0 vX13_isStale_0 [rf (16081), cI (a1), 7, 7] [] G (fun r G => ∃ v, r = cI v ∧ (0 ≤ v ∧ v ≤ 1) ∧ Q v G) := by
  unfold PX13_isStale_0 at h
  unfold vX13_isStale_0
  refine g_ld (v := rf _) rfl (is_R _) ?_
  refine g_ld (v := rf _) rfl (is_R _) ?_
  refine g_getF (v := 16181) oC13 (hC13_121) rfl (Nat.le_of_ble_eq_true rfl) (Nat.le_of_ble_eq_true rfl) ?_
  refine g_ld (v := cI _) rfl (is_I _) ?_
  obtain ⟨q1, q2, h⟩ := h
  refine g_aldL aC16181 q1 q2 rfl fun i3 => ?_
  replace h := h i3
  refine g_callV (As := [_]) (ci := 13) oC13 (fun _ => rfl) ?_
  refine g_go1 (Nat.le_of_ble_eq_true rfl) (Tn_w (TX13_find i3 h) fun _ G4 ⟨r5, e, i6, h⟩ => ?_)
  subst e
  refine ⟨n7_I _, ?_⟩
  replace h := h i6
  refine g_st (lv' := [_, _, _, _]) (is_I _) (Nat.le_of_ble_eq_true rfl) (Or.inr (n1_I _)) rfl ?_
  refine g_ld (v := cI _) rfl (is_I _) ?_
  refine g_const (v := cI (-2)) rfl ?_
  refine g_eq2 i6 ⟨by omega, by omega⟩ (fun b7 => ?_) (fun b7 => ?_)
  · replace h := h.1 b7
    unfold vX13_isStale_17
    refine g_const (v := cI (-2)) rfl ?_
    exact TX13_isStale_36 ha1 i6 (show 7 % 8 ≠ 1 by decide) ⟨by omega, by omega⟩ h
  · replace h := h.2 b7
    unfold vX13_isStale_22
    refine g_ld (v := rf _) rfl (is_R _) ?_
    refine g_ld (v := cI _) rfl (is_I _) ?_
    refine g_ld (v := rf _) rfl (is_R _) ?_
    refine g_getF (v := 16182) oC13 (hC13_122) rfl (Nat.le_of_ble_eq_true rfl) (Nat.le_of_ble_eq_true rfl) ?_
    refine g_ld (v := cI _) rfl (is_I _) ?_
    obtain ⟨q8, q9, h⟩ := h
    refine g_aldL aC16182 q8 q9 rfl fun i10 => ?_
    replace h := h i10
    refine g_const (v := cL (2)) rfl ?_
    refine g_callV (As := [_, _, _]) (ci := 13) oC13 (fun _ => rfl) ?_
    refine g_go1 (Nat.le_of_ble_eq_true rfl) (Tn_w (TX13_theField i6 i10 ⟨by omega, by omega⟩ h) fun _ G11 ⟨r12, e, i13, h⟩ => ?_)
    subst e
    refine ⟨n7_I _, ?_⟩
    replace h := h i13
    exact TX13_isStale_36 ha1 i6 (show 7 % 8 ≠ 1 by decide) i13 h
abbrev PX13_isStale (a1 : Int) (G : gS) (Q : Int → gS → Prop) : Prop := PX13_isStale_0 a1 G Q
theorem TX13_isStale {a1 : Int} {G : gS} {Q : Int → gS → Prop} (ha1 : inI a1) (h : PX13_isStale a1 G Q) : Tn W0 FX13_isStale [rf (16081), cI (a1)] G (fun r G => ∃ v, r = cI v ∧ (0 ≤ v ∧ v ≤ 1) ∧ Q v G) := by
  unfold FX13_isStale
  refine g_ent (lv' := [rf (16081), cI (a1), 7, 7]) (flR (flI fl0)) (Nat.le_of_ble_eq_true rfl) rfl ?_
  exact TX13_isStale_0 ha1 h
end DE

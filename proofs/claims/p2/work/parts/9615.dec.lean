section DE
def PX6_isOne_114 (l1 : Int) (l2 : Int) (l3 : Int) (l4 : Int) (l5 : Int) (G : gS) (Q : Int → gS → Prop) : Prop :=
  Q (0) G
set_option maxRecDepth 20000 in
theorem TX6_isOne_114 {l1 : Int} {l2 : Int} {l3 : Int} {l4 : Int} {l5 : Int} {G : gS} {Q : Int → gS → Prop} (hl1 : inI l1) (hl2 : inI l2) (hl3 : inI l3) (hl4 : inI l4) (hl5 : inI l5) (h : PX6_isOne_114 l1 l2 l3 l4 l5 G Q) : Tg W0 vX6_isOne_114 [rf (938), cI (l1), cI (l2), cI (l3), cI (l4), cI (l5)] [] G (fun r G => ∃ v, r = cI v ∧ (0 ≤ v ∧ v ≤ 1) ∧ Q v G) := by
  unfold PX6_isOne_114 at h
  unfold vX6_isOne_114
  refine g_const (v := cI (0)) rfl ?_
  exact g_ret1 (is_Z (by omega)) ⟨_, rfl, (by omega), h⟩
def PX6_isOne_82 (l1 : Int) (l2 : Int) (l3 : Int) (l4 : Int) (l5 : Int) (s0 : Int) (s1 : Int) (G : gS) (Q : Int → gS → Prop) : Prop :=
  (isO W0 6 (s0) ∧ PX6_push s1 G (fun _ G30 => Q (1) G30))
set_option maxRecDepth 20000 in
theorem TX6_isOne_82 {l1 : Int} {l2 : Int} {l3 : Int} {l4 : Int} {l5 : Int} {s0 : Int} {s1 : Int} {G : gS} {Q : Int → gS → Prop} (hl1 : inI l1) (hl2 : inI l2) (hl3 : inI l3) (hl4 : inI l4) (hl5 : inI l5) (hs1 : inI s1) (h : PX6_isOne_82 l1 l2 l3 l4 l5 s0 s1 G Q) : Tg W0 vX6_isOne_82 [rf (938), cI (l1), cI (l2), cI (l3), cI (l4), cI (l5)] [cI (s1), rf (s0)] G (fun r G => ∃ v, r = cI v ∧ (0 ≤ v ∧ v ≤ 1) ∧ Q v G) := by
  unfold PX6_isOne_82 at h
  unfold vX6_isOne_82
  obtain ⟨q29, h⟩ := h
  refine g_callV (As := [_]) (ci := 6) q29 (fun _ => rfl) ?_
  refine g_go0 (Nat.le_of_ble_eq_true rfl) (Tn_w (Tn_eq (one6 q29) (TX6_push hs1 h)) fun _ G30 ⟨e, h⟩ => ⟨e, ?_⟩)
  refine g_const (v := cI (1)) rfl ?_
  exact g_ret1 (is_Z (by omega)) ⟨_, rfl, (by omega), h⟩
def PX6_isOne_58 (l1 : Int) (l2 : Int) (l3 : Int) (l4 : Int) (s0 : Int) (G : gS) (Q : Int → gS → Prop) : Prop :=
  ((l1 = 38 → PX6_pop G (fun r20 G19 => inI r20 → ((s0 = 0 → PX6_isOne_82 l1 l2 l3 l4 s0 938 0 G19 Q) ∧ (¬ (s0 = 0) → PX6_isOne_82 l1 l2 l3 l4 s0 938 1 G19 Q)))) ∧ (¬ (l1 = 38) → ((s0 = 0 → ((l1 = 37 → PX6_fail 12 G (fun _ G25 => PX6_isOne_114 l1 l2 l3 l4 s0 G25 Q)) ∧ (¬ (l1 = 37) → PX6_throwOne l3 G (fun _ G27 => PX6_isOne_114 l1 l2 l3 l4 s0 G27 Q)))) ∧ (¬ (s0 = 0) → Q (1) G))))
set_option maxRecDepth 20000 in
theorem TX6_isOne_58 {l1 : Int} {l2 : Int} {l3 : Int} {l4 : Int} {l5 : Nat} {s0 : Int} {G : gS} {Q : Int → gS → Prop} (hl1 : inI l1) (hl2 : inI l2) (hl3 : inI l3) (hl4 : inI l4) (hl5 : l5 % 8 ≠ 1) (hs0 : inI s0) (h : PX6_isOne_58 l1 l2 l3 l4 s0 G Q) : Tg W0 vX6_isOne_58 [rf (938), cI (l1), cI (l2), cI (l3), cI (l4), l5] [cI (s0)] G (fun r G => ∃ v, r = cI v ∧ (0 ≤ v ∧ v ≤ 1) ∧ Q v G) := by
  unfold PX6_isOne_58 at h
  unfold vX6_isOne_58
  refine g_st (lv' := [_, _, _, _, _, _]) (is_I _) (Nat.le_of_ble_eq_true rfl) (Or.inr (n1_I _)) rfl ?_
  refine g_ld (v := cI _) rfl (is_I _) ?_
  refine g_const (v := cI (38)) rfl ?_
  refine g_eq2 hl1 ⟨by omega, by omega⟩ (fun b18 => ?_) (fun b18 => ?_)
  · replace h := h.1 b18
    unfold vX6_isOne_66
    refine g_ld (v := rf _) rfl (is_R _) ?_
    refine g_callV (As := []) (ci := 6) oC6 (fun _ => rfl) ?_
    refine g_go1 (Nat.le_of_ble_eq_true rfl) (Tn_w (TX6_pop  h) fun _ G19 ⟨r20, e, i21, h⟩ => ?_)
    subst e
    refine ⟨n7_I _, ?_⟩
    replace h := h i21
    refine g_pop (ct_I _) ?_
    refine g_ld (v := rf _) rfl (is_R _) ?_
    refine g_ld (v := cI _) rfl (is_I _) ?_
    refine g_eq1 hs0 (fun b22 => ?_) (fun b22 => ?_)
    · replace h := h.1 b22
      unfold vX6_isOne_81
      refine g_const (v := cI (0)) rfl ?_
      exact TX6_isOne_82 hl1 hl2 hl3 hl4 hs0 ⟨by omega, by omega⟩ h
    · replace h := h.2 b22
      unfold vX6_isOne_77
      refine g_const (v := cI (1)) rfl ?_
      exact TX6_isOne_82 hl1 hl2 hl3 hl4 hs0 ⟨by omega, by omega⟩ h
  · replace h := h.2 b18
    unfold vX6_isOne_87
    refine g_ld (v := cI _) rfl (is_I _) ?_
    refine g_eq1 hs0 (fun b23 => ?_) (fun b23 => ?_)
    · replace h := h.1 b23
      unfold vX6_isOne_94
      refine g_ld (v := cI _) rfl (is_I _) ?_
      refine g_const (v := cI (37)) rfl ?_
      refine g_eq2 hl1 ⟨by omega, by omega⟩ (fun b24 => ?_) (fun b24 => ?_)
      · replace h := h.1 b24
        unfold vX6_isOne_100
        refine g_ld (v := rf _) rfl (is_R _) ?_
        refine g_const (v := cI (12)) rfl ?_
        refine g_callV (As := [_]) (ci := 6) oC6 (fun _ => rfl) ?_
        refine g_go0 (Nat.le_of_ble_eq_true rfl) (Tn_w (TX6_fail ⟨by omega, by omega⟩ h) fun _ G25 ⟨e, h⟩ => ⟨e, ?_⟩)
        exact TX6_isOne_114 hl1 hl2 hl3 hl4 hs0 h
      · replace h := h.2 b24
        unfold vX6_isOne_109
        refine g_ld (v := rf _) rfl (is_R _) ?_
        refine g_ld (v := cI _) rfl (is_I _) ?_
        refine g_callV (As := [_]) (ci := 6) oC6 (fun _ => rfl) ?_
        refine g_go0 (Nat.le_of_ble_eq_true rfl) (Tn_w (TX6_throwOne hl3 h) fun _ G27 ⟨e, h⟩ => ⟨e, ?_⟩)
        exact TX6_isOne_114 hl1 hl2 hl3 hl4 hs0 h
    · replace h := h.2 b23
      unfold vX6_isOne_92
      refine g_const (v := cI (1)) rfl ?_
      exact g_ret1 (is_Z (by omega)) ⟨_, rfl, (by omega), h⟩
def PX6_isOne_57 (l1 : Int) (l2 : Int) (l3 : Int) (l4 : Int) (G : gS) (Q : Int → gS → Prop) : Prop :=
  PX6_isOne_58 l1 l2 l3 l4 0 G Q
set_option maxRecDepth 20000 in
theorem TX6_isOne_57 {l1 : Int} {l2 : Int} {l3 : Int} {l4 : Int} {l5 : Nat} {G : gS} {Q : Int → gS → Prop} (hl1 : inI l1) (hl2 : inI l2) (hl3 : inI l3) (hl4 : inI l4) (hl5 : l5 % 8 ≠ 1) (h : PX6_isOne_57 l1 l2 l3 l4 G Q) : Tg W0 vX6_isOne_57 [rf (938), cI (l1), cI (l2), cI (l3), cI (l4), l5] [] G (fun r G => ∃ v, r = cI v ∧ (0 ≤ v ∧ v ≤ 1) ∧ Q v G) := by
  unfold PX6_isOne_57 at h
  unfold vX6_isOne_57
  refine g_const (v := cI (0)) rfl ?_
  exact TX6_isOne_58 hl1 hl2 hl3 hl4 hl5 ⟨by omega, by omega⟩ h
def PX6_isOne_53 (l1 : Int) (l2 : Int) (l3 : Int) (l4 : Int) (G : gS) (Q : Int → gS → Prop) : Prop :=
  PX6_isOne_58 l1 l2 l3 l4 1 G Q
set_option maxRecDepth 20000 in
theorem TX6_isOne_53 {l1 : Int} {l2 : Int} {l3 : Int} {l4 : Int} {l5 : Nat} {G : gS} {Q : Int → gS → Prop} (hl1 : inI l1) (hl2 : inI l2) (hl3 : inI l3) (hl4 : inI l4) (hl5 : l5 % 8 ≠ 1) (h : PX6_isOne_53 l1 l2 l3 l4 G Q) : Tg W0 vX6_isOne_53 [rf (938), cI (l1), cI (l2), cI (l3), cI (l4), l5] [] G (fun r G => ∃ v, r = cI v ∧ (0 ≤ v ∧ v ≤ 1) ∧ Q v G) := by
  unfold PX6_isOne_53 at h
  unfold vX6_isOne_53
  refine g_const (v := cI (1)) rfl ?_
  exact TX6_isOne_58 hl1 hl2 hl3 hl4 hl5 ⟨by omega, by omega⟩ h
def PX6_isOne_28 (l1 : Int) (l2 : Int) (l3 : Int) (s0 : Int) (G : gS) (Q : Int → gS → Prop) : Prop :=
  ((l2 < 0 → PX6_isOne_57 l1 l2 l3 s0 G Q) ∧ (¬ (l2 < 0) → ((s0 = l2 → PX6_isOne_53 l1 l2 l3 s0 G Q) ∧ (¬ (s0 = l2) → ((G 938 0 = -1 ∨ isO W0 11 (G 938 0)) → (isO W0 11 (G 938 0) ∧ PX11_heir (G 938 0) s0 l2 G (fun r15 G14 => (0 ≤ r15 ∧ r15 ≤ 1) → ((r15 = 0 → PX6_isOne_57 l1 l2 l3 s0 G14 Q) ∧ (¬ (r15 = 0) → PX6_isOne_53 l1 l2 l3 s0 G14 Q)))))))))
set_option maxRecDepth 20000 in
theorem TX6_isOne_28 {l1 : Int} {l2 : Int} {l3 : Int} {l4 : Nat} {l5 : Nat} {s0 : Int} {G : gS} {Q : Int → gS → Prop} (hl1 : inI l1) (hl2 : inI l2) (hl3 : inI l3) (hl4 : l4 % 8 ≠ 1) (hl5 : l5 % 8 ≠ 1) (hs0 : inI s0) (h : PX6_isOne_28 l1 l2 l3 s0 G Q) : Tg W0 vX6_isOne_28 [rf (938), cI (l1), cI (l2), cI (l3), l4, l5] [cI (s0)] G (fun r G => ∃ v, r = cI v ∧ (0 ≤ v ∧ v ≤ 1) ∧ Q v G) := by
  unfold PX6_isOne_28 at h
  unfold vX6_isOne_28
  refine g_st (lv' := [_, _, _, _, _, _]) (is_I _) (Nat.le_of_ble_eq_true rfl) (Or.inr (n1_I _)) rfl ?_
  refine g_ld (v := cI _) rfl (is_I _) ?_
  refine g_lt1 hl2 (fun b10 => ?_) (fun b10 => ?_)
  · replace h := h.1 b10
    exact TX6_isOne_57 hl1 hl2 hl3 hs0 hl5 h
  · replace h := h.2 b10
    unfold vX6_isOne_34
    refine g_ld (v := cI _) rfl (is_I _) ?_
    refine g_ld (v := cI _) rfl (is_I _) ?_
    refine g_eq2 hs0 hl2 (fun b11 => ?_) (fun b11 => ?_)
    · replace h := h.1 b11
      exact TX6_isOne_53 hl1 hl2 hl3 hs0 hl5 h
    · replace h := h.2 b11
      unfold vX6_isOne_40
      refine g_ld (v := rf _) rfl (is_R _) ?_
      refine g_getR (kz := 0) (c := 11) oC6 rfl (Nat.le_of_ble_eq_true rfl) rfl (by decide) fun i12 => ?_
      replace h := h i12
      refine g_ld (v := cI _) rfl (is_I _) ?_
      refine g_ld (v := cI _) rfl (is_I _) ?_
      obtain ⟨q13, h⟩ := h
      refine g_callV (As := [_, _]) (ci := 11) q13 (fun _ => rfl) ?_
      refine g_go1 (Nat.le_of_ble_eq_true rfl) (Tn_w (TX11_heir hs0 hl2 h) fun _ G14 ⟨r15, e, i16, h⟩ => ?_)
      subst e
      refine ⟨n7_I _, ?_⟩
      replace h := h i16
      refine g_eq1 ⟨by omega, by omega⟩ (fun b17 => ?_) (fun b17 => ?_)
      · replace h := h.1 b17
        exact TX6_isOne_57 hl1 hl2 hl3 hs0 hl5 h
      · replace h := h.2 b17
        exact TX6_isOne_53 hl1 hl2 hl3 hs0 hl5 h
def PX6_isOne_27 (l1 : Int) (l2 : Int) (l3 : Int) (G : gS) (Q : Int → gS → Prop) : Prop :=
  PX6_isOne_28 l1 l2 l3 0 G Q
set_option maxRecDepth 20000 in
theorem TX6_isOne_27 {l1 : Int} {l2 : Int} {l3 : Int} {l4 : Nat} {l5 : Nat} {G : gS} {Q : Int → gS → Prop} (hl1 : inI l1) (hl2 : inI l2) (hl3 : inI l3) (hl4 : l4 % 8 ≠ 1) (hl5 : l5 % 8 ≠ 1) (h : PX6_isOne_27 l1 l2 l3 G Q) : Tg W0 vX6_isOne_27 [rf (938), cI (l1), cI (l2), cI (l3), l4, l5] [] G (fun r G => ∃ v, r = cI v ∧ (0 ≤ v ∧ v ≤ 1) ∧ Q v G) := by
  unfold PX6_isOne_27 at h
  unfold vX6_isOne_27
  refine g_const (v := cI (0)) rfl ?_
  exact TX6_isOne_28 hl1 hl2 hl3 hl4 hl5 ⟨by omega, by omega⟩ h
def PX6_isOne_0 (a1 : Int) (a2 : Int) (G : gS) (Q : Int → gS → Prop) : Prop :=
  PX6_peek 0 G (fun r2 G1 => inI r2 → ((0 < r2 → (inI (G1 938 10) → ((G1 938 10 < r2 → PX6_isOne_27 a1 a2 r2 G1 Q) ∧ (¬ (G1 938 10 < r2) → ((0 : Int) ≤ r2 ∧ ((r2 : Int) < 202 ∧ (inI (G1 980 r2) → PX6_isOne_28 a1 a2 r2 (G1 980 r2) G1 Q))))))) ∧ (¬ (0 < r2) → PX6_isOne_27 a1 a2 r2 G1 Q)))
set_option maxRecDepth 20000 in
theorem TX6_isOne_0 {a1 : Int} {a2 : Int} {G : gS} {Q : Int → gS → Prop} (ha1 : inI a1) (ha2 : inI a2) (h : PX6_isOne_0 a1 a2 G Q) : Tg W0 vX6_isOne_0 [rf (938), cI (a1), cI (a2), 7, 7, 7] [] G (fun r G => ∃ v, r = cI v ∧ (0 ≤ v ∧ v ≤ 1) ∧ Q v G) := by
  unfold PX6_isOne_0 at h
  unfold vX6_isOne_0
  refine g_ld (v := rf _) rfl (is_R _) ?_
  refine g_const (v := cI (0)) rfl ?_
  refine g_callV (As := [_]) (ci := 6) oC6 (fun _ => rfl) ?_
  refine g_go1 (Nat.le_of_ble_eq_true rfl) (Tn_w (TX6_peek ⟨by omega, by omega⟩ h) fun _ G1 ⟨r2, e, i3, h⟩ => ?_)
  subst e
  refine ⟨n7_I _, ?_⟩
  replace h := h i3
  refine g_st (lv' := [_, _, _, _, _, _]) (is_I _) (Nat.le_of_ble_eq_true rfl) (Or.inr (n1_I _)) rfl ?_
  refine g_ld (v := cI _) rfl (is_I _) ?_
  refine g_gt1 i3 (fun b4 => ?_) (fun b4 => ?_)
  · replace h := h.1 b4
    unfold vX6_isOne_10
    refine g_ld (v := cI _) rfl (is_I _) ?_
    refine g_ld (v := rf _) rfl (is_R _) ?_
    refine g_getI (kz := 10) oC6 rfl (Nat.le_of_ble_eq_true rfl) rfl fun i5 => ?_
    replace h := h i5
    refine g_gt2 i3 i5 (fun b6 => ?_) (fun b6 => ?_)
    · replace h := h.1 b6
      exact TX6_isOne_27 ha1 ha2 i3 (show 7 % 8 ≠ 1 by decide) (show 7 % 8 ≠ 1 by decide) h
    · replace h := h.2 b6
      unfold vX6_isOne_18
      refine g_ld (v := rf _) rfl (is_R _) ?_
      refine g_getF (v := 980) oC6 (hC6_8) rfl (Nat.le_of_ble_eq_true rfl) (Nat.le_of_ble_eq_true rfl) ?_
      refine g_ld (v := cI _) rfl (is_I _) ?_
      obtain ⟨q7, q8, h⟩ := h
      refine g_aldI aC980 q7 q8 rfl fun i9 => ?_
      replace h := h i9
      exact TX6_isOne_28 ha1 ha2 i3 (show 7 % 8 ≠ 1 by decide) (show 7 % 8 ≠ 1 by decide) i9 h
  · replace h := h.2 b4
    exact TX6_isOne_27 ha1 ha2 i3 (show 7 % 8 ≠ 1 by decide) (show 7 % 8 ≠ 1 by decide) h
abbrev PX6_isOne (a1 : Int) (a2 : Int) (G : gS) (Q : Int → gS → Prop) : Prop := PX6_isOne_0 a1 a2 G Q
theorem TX6_isOne {a1 : Int} {a2 : Int} {G : gS} {Q : Int → gS → Prop} (ha1 : inI a1) (ha2 : inI a2) (h : PX6_isOne a1 a2 G Q) : Tn W0 FX6_isOne [rf (938), cI (a1), cI (a2)] G (fun r G => ∃ v, r = cI v ∧ (0 ≤ v ∧ v ≤ 1) ∧ Q v G) := by
  unfold FX6_isOne
  refine g_ent (lv' := [rf (938), cI (a1), cI (a2), 7, 7, 7]) (flR (flI (flI fl0))) (Nat.le_of_ble_eq_true rfl) rfl ?_
  exact TX6_isOne_0 ha1 ha2 h
def PX6_makerOne_0 (a1 : Int) (a2 : Int) (a3 : Int) (G : gS) (Q : Int → gS → Prop) : Prop :=
  ((1 < a2 → (∃ n2, isA W0 0 n2 (a1) ∧ ((0 : Int) ≤ 1 ∧ ((1 : Int) < n2 ∧ (inI (G a1 1) → (∃ n7, isA W0 0 n7 (a1) ∧ ((0 : Int) ≤ 1 ∧ ((1 : Int) < n7 ∧ (inI ((G a1 1) + 2) ∧ (∀ G12 : gS, G12 = uG G a1 1 ((G a1 1) + 2) → (isO W0 7 (a3) ∧ (inI (G12 a3 9) → (inI ((G12 a3 9) + 1) ∧ PX6_call a2 a3 ((G12 a3 9) + 1) 2 G12 (fun _ G16 => Q (0) G16)))))))))))))) ∧ (¬ (1 < a2) → (inI (G 938 3) → (isO W0 7 (a3) ∧ (inI (G a3 9) → (inI (((G 938 3) - (G a3 9)) - 1) ∧ (∀ G22 : gS, G22 = uG G 938 3 ((if ((G 938 3) - (G a3 9)) - 1 < 0 then 0 else ((G 938 3) - (G a3 9)) - 1)) → Q (1) G22)))))))
set_option maxRecDepth 20000 in
theorem TX6_makerOne_0 {a1 : Int} {a2 : Int} {a3 : Int} {G : gS} {Q : Int → gS → Prop} (ha2 : inI a2) (h : PX6_makerOne_0 a1 a2 a3 G Q) : Tg W0 vX6_makerOne_0 [rf (938), rf (a1), cI (a2), rf (a3)] [] G (fun r G => ∃ v, r = cI v ∧ (0 ≤ v ∧ v ≤ 1) ∧ Q v G) := by
  unfold PX6_makerOne_0 at h
  unfold vX6_makerOne_0
  refine g_ld (v := cI _) rfl (is_I _) ?_
  refine g_const (v := cI (1)) rfl ?_
  refine g_gt2 ha2 ⟨by omega, by omega⟩ (fun b1 => ?_) (fun b1 => ?_)
  · replace h := h.1 b1
    unfold vX6_makerOne_26
    refine g_ld (v := rf _) rfl (is_R _) ?_
    refine g_const (v := cI (1)) rfl ?_
    refine g_dup2 (ct_I _) (ct_R _) ?_
    obtain ⟨n2, q3, h⟩ := h
    obtain ⟨q4, q5, h⟩ := h
    refine g_aldI q3 q4 q5 rfl fun i6 => ?_
    replace h := h i6
    refine g_const (v := cI (2)) rfl ?_
    refine g_add ?_
    obtain ⟨n7, q8, h⟩ := h
    obtain ⟨q9, q10, h⟩ := h
    obtain ⟨q11, h⟩ := h
    refine g_astI q8 q9 q10 q11 (nfI q8) ?_
    replace h := h _ rfl
    refine g_ld (v := rf _) rfl (is_R _) ?_
    refine g_ld (v := cI _) rfl (is_I _) ?_
    refine g_ld (v := rf _) rfl (is_R _) ?_
    refine g_ld (v := rf _) rfl (is_R _) ?_
    obtain ⟨q13, h⟩ := h
    refine g_getI (kz := 9) q13 rfl (Nat.le_of_ble_eq_true rfl) rfl fun i14 => ?_
    replace h := h i14
    refine g_const (v := cI (1)) rfl ?_
    refine g_add ?_
    refine g_const (v := cI (2)) rfl ?_
    obtain ⟨q15, h⟩ := h
    refine g_callV (As := [_, _, _, _]) (ci := 6) oC6 (fun _ => rfl) ?_
    refine g_go0 (Nat.le_of_ble_eq_true rfl) (Tn_w (TX6_call ha2 q15 ⟨by omega, by omega⟩ h) fun _ G16 ⟨e, h⟩ => ⟨e, ?_⟩)
    refine g_const (v := cI (0)) rfl ?_
    exact g_ret1 (is_Z (by omega)) ⟨_, rfl, (by omega), h⟩
  · replace h := h.2 b1
    unfold vX6_makerOne_5
    refine g_ld (v := rf _) rfl (is_R _) ?_
    refine g_ld (v := rf _) rfl (is_R _) ?_
    refine g_getI (kz := 3) oC6 rfl (Nat.le_of_ble_eq_true rfl) rfl fun i18 => ?_
    replace h := h i18
    refine g_ld (v := rf _) rfl (is_R _) ?_
    obtain ⟨q19, h⟩ := h
    refine g_getI (kz := 9) q19 rfl (Nat.le_of_ble_eq_true rfl) rfl fun i20 => ?_
    replace h := h i20
    refine g_sub ?_
    refine g_const (v := cI (1)) rfl ?_
    refine g_sub ?_
    refine g_const (v := cI (0)) rfl ?_
    obtain ⟨q21, h⟩ := h
    refine g_max q21 ⟨by omega, by omega⟩ (by simp only [cs_c, cs_0, ct_I, ct_L, ct_R]; exact Nat.le_of_ble_eq_true rfl) ?_
    refine g_putI (kz := 3) oC6 rfl (Nat.le_of_ble_eq_true rfl) rfl (inI_max q21 ⟨by omega, by omega⟩) (zfin_no (c := 938) (j := 3) rfl) ?_
    replace h := h _ rfl
    refine g_const (v := cI (1)) rfl ?_
    exact g_ret1 (is_Z (by omega)) ⟨_, rfl, (by omega), h⟩
abbrev PX6_makerOne (a1 : Int) (a2 : Int) (a3 : Int) (G : gS) (Q : Int → gS → Prop) : Prop := PX6_makerOne_0 a1 a2 a3 G Q
theorem TX6_makerOne {a1 : Int} {a2 : Int} {a3 : Int} {G : gS} {Q : Int → gS → Prop} (ha2 : inI a2) (h : PX6_makerOne a1 a2 a3 G Q) : Tn W0 FX6_makerOne [rf (938), rf (a1), cI (a2), rf (a3)] G (fun r G => ∃ v, r = cI v ∧ (0 ≤ v ∧ v ≤ 1) ∧ Q v G) := by
  unfold FX6_makerOne
  refine g_ent (lv' := [rf (938), rf (a1), cI (a2), rf (a3)]) (flR (flR (flI (flR fl0)))) (Nat.le_of_ble_eq_true rfl) rfl ?_
  exact TX6_makerOne_0 ha2 h
def PX6_newOne_71 (J : Nat → List Int → gS → (Int → gS → Prop) → Prop) (l1 : Int) (l2 : Int) (l3 : Int) (G : gS) (Q : Int → gS → Prop) : Prop :=
  ((l3 < l2 → (inI (G 938 12) → ((0 : Int) ≤ G 938 12 ∧ ((G 938 12 : Int) < 2000 ∧ (∀ G27 : gS, G27 = uG G 982 (G 938 12) (0) → (inI (G27 938 12) → (inI ((G27 938 12) + 1) ∧ (∀ G30 : gS, G30 = uG G27 938 12 ((G27 938 12) + 1) → (inI (l3 + 1) ∧ J 0 [l1, l2, l3 + 1] G30 Q))))))))) ∧ (¬ (l3 < l2) → (inI (G 938 10) → PX6_push (G 938 10) G (fun _ G33 => Q (1) G33))))
set_option maxRecDepth 20000 in
theorem TX6_newOne_71 {j : Nat → rx_K} {J : Nat → List Int → gS → (Int → gS → Prop) → Prop} {l1 : Int} {l2 : Int} {l3 : Int} {G : gS} {Q : Int → gS → Prop} (hl1 : inI l1) (hl2 : inI l2) (hl3 : inI l3) (hj0 : ∀ (l1 : Int) (l2 : Int) (l3 : Int) (G : gS), (inI l1) → (inI l2) → (inI l3) → J 0 [l1, l2, l3] G Q → Tg W0 (j 0) [rf (938), cI (l1), cI (l2), cI (l3)] [] G (fun r G => ∃ v, r = cI v ∧ (0 ≤ v ∧ v ≤ 1) ∧ Q v G)) (h : PX6_newOne_71 J l1 l2 l3 G Q) : Tg W0 (vX6_newOne_71 j) [rf (938), cI (l1), cI (l2), cI (l3)] [] G (fun r G => ∃ v, r = cI v ∧ (0 ≤ v ∧ v ≤ 1) ∧ Q v G) := by
  unfold PX6_newOne_71 at h
  unfold vX6_newOne_71
  refine g_ld (v := cI _) rfl (is_I _) ?_
  refine g_ld (v := cI _) rfl (is_I _) ?_
  refine g_lt2 hl3 hl2 (fun b23 => ?_) (fun b23 => ?_)
  · replace h := h.1 b23
    unfold vX6_newOne_76
    refine g_ld (v := rf _) rfl (is_R _) ?_
    refine g_getF (v := 982) oC6 (hC6_11) rfl (Nat.le_of_ble_eq_true rfl) (Nat.le_of_ble_eq_true rfl) ?_
    refine g_ld (v := rf _) rfl (is_R _) ?_
    refine g_getI (kz := 12) oC6 rfl (Nat.le_of_ble_eq_true rfl) rfl fun i24 => ?_
    replace h := h i24
    refine g_const (v := cI (0)) rfl ?_
    obtain ⟨q25, q26, h⟩ := h
    refine g_astI aC982 q25 q26 ⟨by omega, by omega⟩ (nfI aC982) ?_
    replace h := h _ rfl
    refine g_ld (v := rf _) rfl (is_R _) ?_
    refine g_dup (ct_R _) ?_
    refine g_getI (kz := 12) oC6 rfl (Nat.le_of_ble_eq_true rfl) rfl fun i28 => ?_
    replace h := h i28
    refine g_const (v := cI (1)) rfl ?_
    refine g_add ?_
    obtain ⟨q29, h⟩ := h
    refine g_putI (kz := 12) oC6 rfl (Nat.le_of_ble_eq_true rfl) rfl q29 (zfin_no (c := 938) (j := 12) rfl) ?_
    replace h := h _ rfl
    refine g_inc (lv' := [_, _, _, _]) rfl (Nat.le_of_ble_eq_true rfl) (Or.inr (n1_I _)) rfl ?_
    obtain ⟨q31, h⟩ := h
    exact hj0 _ _ _ _ hl1 hl2 q31 h
  · replace h := h.2 b23
    unfold vX6_newOne_102
    refine g_ld (v := rf _) rfl (is_R _) ?_
    refine g_ld (v := rf _) rfl (is_R _) ?_
    refine g_getI (kz := 10) oC6 rfl (Nat.le_of_ble_eq_true rfl) rfl fun i32 => ?_
    replace h := h i32
    refine g_callV (As := [_]) (ci := 6) oC6 (fun _ => rfl) ?_
    refine g_go0 (Nat.le_of_ble_eq_true rfl) (Tn_w (TX6_push i32 h) fun _ G33 ⟨e, h⟩ => ⟨e, ?_⟩)
    refine g_const (v := cI (1)) rfl ?_
    exact g_ret1 (is_Z (by omega)) ⟨_, rfl, (by omega), h⟩
def PX6_newOne_28 (J : Nat → List Int → gS → (Int → gS → Prop) → Prop) (l1 : Int) (l2 : Int) (G : gS) (Q : Int → gS → Prop) : Prop :=
  PX6_fail 16 G (fun _ G21 => Q (0) G21)
set_option maxRecDepth 20000 in
theorem TX6_newOne_28 {j : Nat → rx_K} {J : Nat → List Int → gS → (Int → gS → Prop) → Prop} {l1 : Int} {l2 : Int} {l3 : Nat} {G : gS} {Q : Int → gS → Prop} (hl1 : inI l1) (hl2 : inI l2) (hl3 : l3 % 8 ≠ 1) (hj0 : ∀ (l1 : Int) (l2 : Int) (l3 : Int) (G : gS), (inI l1) → (inI l2) → (inI l3) → J 0 [l1, l2, l3] G Q → Tg W0 (j 0) [rf (938), cI (l1), cI (l2), cI (l3)] [] G (fun r G => ∃ v, r = cI v ∧ (0 ≤ v ∧ v ≤ 1) ∧ Q v G)) (h : PX6_newOne_28 J l1 l2 G Q) : Tg W0 (vX6_newOne_28 j) [rf (938), cI (l1), cI (l2), l3] [] G (fun r G => ∃ v, r = cI v ∧ (0 ≤ v ∧ v ≤ 1) ∧ Q v G) := by
  unfold PX6_newOne_28 at h
  unfold vX6_newOne_28
  refine g_ld (v := rf _) rfl (is_R _) ?_
  refine g_const (v := cI (16)) rfl ?_
  refine g_callV (As := [_]) (ci := 6) oC6 (fun _ => rfl) ?_
  refine g_go0 (Nat.le_of_ble_eq_true rfl) (Tn_w (TX6_fail ⟨by omega, by omega⟩ h) fun _ G21 ⟨e, h⟩ => ⟨e, ?_⟩)
  refine g_const (v := cI (0)) rfl ?_
  exact g_ret1 (is_Z (by omega)) ⟨_, rfl, (by omega), h⟩
def PX6_newOne_0 (J : Nat → List Int → gS → (Int → gS → Prop) → Prop) (a1 : Int) (G : gS) (Q : Int → gS → Prop) : Prop :=
  PX6_slotsTo a1 G (fun r2 G1 => inI r2 → (inI (G1 938 10) → ((G1 938 10 < 200 → (inI (G1 938 12) → (inI ((G1 938 12) + r2) ∧ ((2000 < (G1 938 12) + r2 → PX6_newOne_28 J a1 r2 G1 Q) ∧ (¬ (2000 < (G1 938 12) + r2) → (inI (G1 938 10) → (inI ((G1 938 10) + 1) ∧ (∀ G11 : gS, G11 = uG G1 938 10 ((G1 938 10) + 1) → (inI (G11 938 10) → ((0 : Int) ≤ G11 938 10 ∧ ((G11 938 10 : Int) < 202 ∧ (∀ G15 : gS, G15 = uG G11 980 (G11 938 10) (a1) → (inI (G15 938 10) → (inI (G15 938 12) → ((0 : Int) ≤ G15 938 10 ∧ ((G15 938 10 : Int) < 202 ∧ (∀ G20 : gS, G20 = uG G15 981 (G15 938 10) (G15 938 12) → PX6_newOne_71 J a1 r2 0 G20 Q))))))))))))))))) ∧ (¬ (G1 938 10 < 200) → PX6_newOne_28 J a1 r2 G1 Q))))
set_option maxRecDepth 20000 in
theorem TX6_newOne_0 {j : Nat → rx_K} {J : Nat → List Int → gS → (Int → gS → Prop) → Prop} {a1 : Int} {G : gS} {Q : Int → gS → Prop} (ha1 : inI a1) (hj0 : ∀ (l1 : Int) (l2 : Int) (l3 : Int) (G : gS), (inI l1) → (inI l2) → (inI l3) → J 0 [l1, l2, l3] G Q → Tg W0 (j 0) [rf (938), cI (l1), cI (l2), cI (l3)] [] G (fun r G => ∃ v, r = cI v ∧ (0 ≤ v ∧ v ≤ 1) ∧ Q v G)) (h : PX6_newOne_0 J a1 G Q) : Tg W0 (vX6_newOne_0 j) [rf (938), cI (a1), 7, 7] [] G (fun r G => ∃ v, r = cI v ∧ (0 ≤ v ∧ v ≤ 1) ∧ Q v G) := by
  unfold PX6_newOne_0 at h
  unfold vX6_newOne_0
  refine g_ld (v := rf _) rfl (is_R _) ?_
  refine g_ld (v := cI _) rfl (is_I _) ?_
  refine g_callV (As := [_]) (ci := 6) oC6 (fun _ => rfl) ?_
  refine g_go1 (Nat.le_of_ble_eq_true rfl) (Tn_w (TX6_slotsTo ha1 h) fun _ G1 ⟨r2, e, i3, h⟩ => ?_)
  subst e
  refine ⟨n7_I _, ?_⟩
  replace h := h i3
  refine g_st (lv' := [_, _, _, _]) (is_I _) (Nat.le_of_ble_eq_true rfl) (Or.inr (n1_I _)) rfl ?_
  refine g_ld (v := rf _) rfl (is_R _) ?_
  refine g_getI (kz := 10) oC6 rfl (Nat.le_of_ble_eq_true rfl) rfl fun i4 => ?_
  replace h := h i4
  refine g_const (v := cI (200)) rfl ?_
  refine g_lt2 i4 ⟨by omega, by omega⟩ (fun b5 => ?_) (fun b5 => ?_)
  · replace h := h.1 b5
    unfold vX6_newOne_16
    refine g_ld (v := rf _) rfl (is_R _) ?_
    refine g_getI (kz := 12) oC6 rfl (Nat.le_of_ble_eq_true rfl) rfl fun i6 => ?_
    replace h := h i6
    refine g_ld (v := cI _) rfl (is_I _) ?_
    refine g_add ?_
    refine g_const (v := cI (2000)) rfl ?_
    obtain ⟨q7, h⟩ := h
    refine g_gt2 q7 ⟨by omega, by omega⟩ (fun b8 => ?_) (fun b8 => ?_)
    · replace h := h.1 b8
      exact TX6_newOne_28 ha1 i3 (show 7 % 8 ≠ 1 by decide) hj0 h
    · replace h := h.2 b8
      unfold vX6_newOne_36
      refine g_ld (v := rf _) rfl (is_R _) ?_
      refine g_dup (ct_R _) ?_
      refine g_getI (kz := 10) oC6 rfl (Nat.le_of_ble_eq_true rfl) rfl fun i9 => ?_
      replace h := h i9
      refine g_const (v := cI (1)) rfl ?_
      refine g_add ?_
      obtain ⟨q10, h⟩ := h
      refine g_putI (kz := 10) oC6 rfl (Nat.le_of_ble_eq_true rfl) rfl q10 (zfin_no (c := 938) (j := 10) rfl) ?_
      replace h := h _ rfl
      refine g_ld (v := rf _) rfl (is_R _) ?_
      refine g_getF (v := 980) oC6 (hC6_8) rfl (Nat.le_of_ble_eq_true rfl) (Nat.le_of_ble_eq_true rfl) ?_
      refine g_ld (v := rf _) rfl (is_R _) ?_
      refine g_getI (kz := 10) oC6 rfl (Nat.le_of_ble_eq_true rfl) rfl fun i12 => ?_
      replace h := h i12
      refine g_ld (v := cI _) rfl (is_I _) ?_
      obtain ⟨q13, q14, h⟩ := h
      refine g_astI aC980 q13 q14 ha1 (nfI aC980) ?_
      replace h := h _ rfl
      refine g_ld (v := rf _) rfl (is_R _) ?_
      refine g_getF (v := 981) oC6 (hC6_9) rfl (Nat.le_of_ble_eq_true rfl) (Nat.le_of_ble_eq_true rfl) ?_
      refine g_ld (v := rf _) rfl (is_R _) ?_
      refine g_getI (kz := 10) oC6 rfl (Nat.le_of_ble_eq_true rfl) rfl fun i16 => ?_
      replace h := h i16
      refine g_ld (v := rf _) rfl (is_R _) ?_
      refine g_getI (kz := 12) oC6 rfl (Nat.le_of_ble_eq_true rfl) rfl fun i17 => ?_
      replace h := h i17
      obtain ⟨q18, q19, h⟩ := h
      refine g_astI aC981 q18 q19 i17 (nfI aC981) ?_
      replace h := h _ rfl
      refine g_const (v := cI (0)) rfl ?_
      refine g_st (lv' := [_, _, _, _]) (is_I _) (Nat.le_of_ble_eq_true rfl) (Or.inr (n1_I _)) rfl ?_
      exact TX6_newOne_71 ha1 i3 ⟨by omega, by omega⟩ hj0 h
  · replace h := h.2 b5
    exact TX6_newOne_28 ha1 i3 (show 7 % 8 ≠ 1 by decide) hj0 h
def PX6_newOne_J : Nat → Nat → List Int → gS → (Int → gS → Prop) → Prop
  | 0, _, _, _, _ => False
  | f + 1, h, L, G, Q => match h, L with
    | 0, [l1, l2, l3] => PX6_newOne_71 (PX6_newOne_J f) l1 l2 l3 G Q
    | _, _ => False
theorem TX6_newOne_J {Q : Int → gS → Prop} : ∀ f N : Nat, f ≤ N → (∀ (l1 : Int) (l2 : Int) (l3 : Int) (G : gS), (inI l1) → (inI l2) → (inI l3) → (PX6_newOne_J f) 0 [l1, l2, l3] G Q → Tg W0 (rx_J vhX6_newOne N 0) [rf (938), cI (l1), cI (l2), cI (l3)] [] G (fun r G => ∃ v, r = cI v ∧ (0 ≤ v ∧ v ≤ 1) ∧ Q v G)) := by
  intro f
  induction f with
  | zero => exact fun N _ => fun _ _ _ _ _ _ _ h => h.elim
  | succ f ih =>
    intro N hN
    obtain ⟨M, rfl⟩ : ∃ M, N = M + 1 := ⟨N - 1, by omega⟩
    have ih := ih M (by omega)
    exact fun _ _ _ _ hl1 hl2 hl3 h => show Tg W0 (vX6_newOne_71 (rx_J vhX6_newOne M)) _ _ _ _ from TX6_newOne_71 hl1 hl2 hl3 ih h
def PX6_newOne (a1 : Int) (G : gS) (Q : Int → gS → Prop) : Prop := ∃ f : Nat, f ≤ 4000000000 ∧ PX6_newOne_0 (PX6_newOne_J f) a1 G Q
theorem TX6_newOne {a1 : Int} {G : gS} {Q : Int → gS → Prop} (ha1 : inI a1) (h : PX6_newOne a1 G Q) : Tn W0 FX6_newOne [rf (938), cI (a1)] G (fun r G => ∃ v, r = cI v ∧ (0 ≤ v ∧ v ≤ 1) ∧ Q v G) := by
  obtain ⟨f, hf, h⟩ := h
  have hJ := TX6_newOne_J (Q := Q) f 4000000000 hf
  unfold FX6_newOne
  refine g_ent (lv' := [rf (938), cI (a1), 7, 7]) (flR (flI fl0)) (Nat.le_of_ble_eq_true rfl) rfl ?_
  exact TX6_newOne_0 ha1 hJ h
def PX6_selectOne_159 (l1 : Int) (l2 : Int) (l3 : Int) (l4 : Int) (l5 : Int) (l6 : Int) (l7 : Int) (l8 : Int) (G : gS) (Q : Int → gS → Prop) : Prop :=
  Q 0 G
set_option maxRecDepth 20000 in
theorem TX6_selectOne_159 {l1 : Int} {l2 : Int} {l3 : Int} {l4 : Int} {l5 : Int} {l6 : Int} {l7 : Int} {l8 : Int} {G : gS} {Q : Int → gS → Prop} (hl2 : inI l2) (hl3 : inI l3) (hl4 : inI l4) (hl6 : inI l6) (hl7 : inI l7) (h : PX6_selectOne_159 l1 l2 l3 l4 l5 l6 l7 l8 G Q) : Tg W0 vX6_selectOne_159 [rf (938), rf (l1), cI (l2), cI (l3), cI (l4), rf (l5), cI (l6), cI (l7), rf (l8)] [] G (fun r G => r = 7 ∧ Q 0 G) := by
  unfold PX6_selectOne_159 at h
  unfold vX6_selectOne_159
  exact g_ret0 ⟨rfl, h⟩
def PX6_selectOne_131 (l1 : Int) (l2 : Int) (l3 : Int) (l4 : Int) (l5 : Int) (l6 : Int) (l7 : Int) (l8 : Int) (G : gS) (Q : Int → gS → Prop) : Prop :=
  (∃ n42, isA W0 0 n42 (l1) ∧ ((0 : Int) ≤ 1 ∧ ((1 : Int) < n42 ∧ (inI (G l1 1) → (∃ n47, isA W0 0 n47 (l1) ∧ ((0 : Int) ≤ 1 ∧ ((1 : Int) < n47 ∧ (inI ((G l1 1) + 2) ∧ (∀ G52 : gS, G52 = uG G l1 1 ((G l1 1) + 2) → ((G52 938 0 = -1 ∨ isO W0 11 (G52 938 0)) → (isO W0 11 (G52 938 0) ∧ (inI (G52 (G52 938 0) 18) → (isO W0 7 (l5) ∧ (inI (G52 l5 9) → (inI ((G52 l5 9) + 1) ∧ PX6_call (G52 (G52 938 0) 18) l8 ((G52 l5 9) + 1) 1 G52 (fun _ G59 => PX6_selectOne_159 l1 l2 l3 l4 l5 l6 l7 l8 G59 Q))))))))))))))))
set_option maxRecDepth 20000 in
theorem TX6_selectOne_131 {l1 : Int} {l2 : Int} {l3 : Int} {l4 : Int} {l5 : Int} {l6 : Int} {l7 : Int} {l8 : Int} {G : gS} {Q : Int → gS → Prop} (hl2 : inI l2) (hl3 : inI l3) (hl4 : inI l4) (hl6 : inI l6) (hl7 : inI l7) (h : PX6_selectOne_131 l1 l2 l3 l4 l5 l6 l7 l8 G Q) : Tg W0 vX6_selectOne_131 [rf (938), rf (l1), cI (l2), cI (l3), cI (l4), rf (l5), cI (l6), cI (l7), rf (l8)] [] G (fun r G => r = 7 ∧ Q 0 G) := by
  unfold PX6_selectOne_131 at h
  unfold vX6_selectOne_131
  refine g_ld (v := rf _) rfl (is_R _) ?_
  refine g_const (v := cI (1)) rfl ?_
  refine g_dup2 (ct_I _) (ct_R _) ?_
  obtain ⟨n42, q43, h⟩ := h
  obtain ⟨q44, q45, h⟩ := h
  refine g_aldI q43 q44 q45 rfl fun i46 => ?_
  replace h := h i46
  refine g_const (v := cI (2)) rfl ?_
  refine g_add ?_
  obtain ⟨n47, q48, h⟩ := h
  obtain ⟨q49, q50, h⟩ := h
  obtain ⟨q51, h⟩ := h
  refine g_astI q48 q49 q50 q51 (nfI q48) ?_
  replace h := h _ rfl
  refine g_ld (v := rf _) rfl (is_R _) ?_
  refine g_ld (v := rf _) rfl (is_R _) ?_
  refine g_getR (kz := 0) (c := 11) oC6 rfl (Nat.le_of_ble_eq_true rfl) rfl (by decide) fun i53 => ?_
  replace h := h i53
  obtain ⟨q54, h⟩ := h
  refine g_getI (kz := 18) q54 rfl (Nat.le_of_ble_eq_true rfl) rfl fun i55 => ?_
  replace h := h i55
  refine g_ld (v := rf _) rfl (is_R _) ?_
  refine g_ld (v := rf _) rfl (is_R _) ?_
  obtain ⟨q56, h⟩ := h
  refine g_getI (kz := 9) q56 rfl (Nat.le_of_ble_eq_true rfl) rfl fun i57 => ?_
  replace h := h i57
  refine g_const (v := cI (1)) rfl ?_
  refine g_add ?_
  refine g_const (v := cI (1)) rfl ?_
  obtain ⟨q58, h⟩ := h
  refine g_callV (As := [_, _, _, _]) (ci := 6) oC6 (fun _ => rfl) ?_
  refine g_go0 (Nat.le_of_ble_eq_true rfl) (Tn_w (TX6_call i55 q58 ⟨by omega, by omega⟩ h) fun _ G59 ⟨e, h⟩ => ⟨e, ?_⟩)
  exact TX6_selectOne_159 hl2 hl3 hl4 hl6 hl7 h
def PX6_selectOne_66 (l1 : Int) (l2 : Int) (l3 : Int) (l4 : Int) (l5 : Int) (l6 : Int) (l7 : Int) (G : gS) (Q : Int → gS → Prop) : Prop :=
  ((G 938 0 = -1 ∨ isO W0 11 (G 938 0)) → (isO W0 11 (G 938 0) ∧ PX11_selected (G 938 0) l5 l4 l7 G (fun r26 G25 => ((r26 < 0 → ((G25 938 0 = -1 ∨ isO W0 11 (G25 938 0)) → (isO W0 11 (G25 938 0) ∧ (inI (G25 (G25 938 0) 19) → PX6_fail (G25 (G25 938 0) 19) G25 (fun _ G32 => PX6_selectOne_159 l1 l2 l3 l4 l5 l6 l7 r26 G32 Q))))) ∧ (0 ≤ r26 → ((l2 = 8 → (isO W0 7 (r26) ∧ (inI (G25 r26 1) → ((G25 r26 1 = 3 → PX6_selectOne_131 l1 l2 l3 l4 l5 l6 l7 r26 G25 Q) ∧ (¬ (G25 r26 1 = 3) → (inI (G25 r26 1) → ((G25 r26 1 = 0 → PX6_selectOne_131 l1 l2 l3 l4 l5 l6 l7 r26 G25 Q) ∧ (¬ (G25 r26 1 = 0) → PX6_fail 2 G25 (fun _ G40 => PX6_selectOne_159 l1 l2 l3 l4 l5 l6 l7 r26 G40 Q))))))))) ∧ (¬ (l2 = 8) → PX6_selectOne_131 l1 l2 l3 l4 l5 l6 l7 r26 G25 Q)))))))
set_option maxRecDepth 20000 in
theorem TX6_selectOne_66 {l1 : Int} {l2 : Int} {l3 : Int} {l4 : Int} {l5 : Int} {l6 : Int} {l7 : Int} {l8 : Nat} {G : gS} {Q : Int → gS → Prop} (hl2 : inI l2) (hl3 : inI l3) (hl4 : inI l4) (hl6 : inI l6) (hl7 : inI l7) (hl8 : l8 % 8 ≠ 1) (h : PX6_selectOne_66 l1 l2 l3 l4 l5 l6 l7 G Q) : Tg W0 vX6_selectOne_66 [rf (938), rf (l1), cI (l2), cI (l3), cI (l4), rf (l5), cI (l6), cI (l7), l8] [] G (fun r G => r = 7 ∧ Q 0 G) := by
  unfold PX6_selectOne_66 at h
  unfold vX6_selectOne_66
  refine g_ld (v := rf _) rfl (is_R _) ?_
  refine g_getR (kz := 0) (c := 11) oC6 rfl (Nat.le_of_ble_eq_true rfl) rfl (by decide) fun i23 => ?_
  replace h := h i23
  refine g_ld (v := rf _) rfl (is_R _) ?_
  refine g_ld (v := cI _) rfl (is_I _) ?_
  refine g_ld (v := cI _) rfl (is_I _) ?_
  obtain ⟨q24, h⟩ := h
  refine g_callV (As := [_, _, _]) (ci := 11) q24 (fun _ => rfl) ?_
  refine g_go1 (Nat.le_of_ble_eq_true rfl) (Tn_w (TX11_selected hl4 hl7 h) fun _ G25 ⟨r26, e, h⟩ => ?_)
  subst e
  refine ⟨n7_R _, ?_⟩
  refine g_st (lv' := [_, _, _, _, _, _, _, _, _]) (is_R _) (Nat.le_of_ble_eq_true rfl) (Or.inr (n1_I _)) rfl ?_
  refine g_ld (v := rf _) rfl (is_R _) ?_
  refine g_nul (fun b28 => ?_) (fun b28 => ?_)
  · replace h := h.1 b28
    unfold vX6_selectOne_86
    refine g_ld (v := rf _) rfl (is_R _) ?_
    refine g_ld (v := rf _) rfl (is_R _) ?_
    refine g_getR (kz := 0) (c := 11) oC6 rfl (Nat.le_of_ble_eq_true rfl) rfl (by decide) fun i29 => ?_
    replace h := h i29
    obtain ⟨q30, h⟩ := h
    refine g_getI (kz := 19) q30 rfl (Nat.le_of_ble_eq_true rfl) rfl fun i31 => ?_
    replace h := h i31
    refine g_callV (As := [_]) (ci := 6) oC6 (fun _ => rfl) ?_
    refine g_go0 (Nat.le_of_ble_eq_true rfl) (Tn_w (TX6_fail i31 h) fun _ G32 ⟨e, h⟩ => ⟨e, ?_⟩)
    exact TX6_selectOne_159 hl2 hl3 hl4 hl6 hl7 h
  · replace h := h.2 b28
    unfold vX6_selectOne_100
    refine g_ld (v := cI _) rfl (is_I _) ?_
    refine g_const (v := cI (8)) rfl ?_
    refine g_eq2 hl2 ⟨by omega, by omega⟩ (fun b34 => ?_) (fun b34 => ?_)
    · replace h := h.1 b34
      unfold vX6_selectOne_106
      refine g_ld (v := rf _) rfl (is_R _) ?_
      obtain ⟨q35, h⟩ := h
      refine g_getI (kz := 1) q35 rfl (Nat.le_of_ble_eq_true rfl) rfl fun i36 => ?_
      replace h := h i36
      refine g_const (v := cI (3)) rfl ?_
      refine g_eq2 i36 ⟨by omega, by omega⟩ (fun b37 => ?_) (fun b37 => ?_)
      · replace h := h.1 b37
        exact TX6_selectOne_131 hl2 hl3 hl4 hl6 hl7 h
      · replace h := h.2 b37
        unfold vX6_selectOne_115
        refine g_ld (v := rf _) rfl (is_R _) ?_
        refine g_getI (kz := 1) q35 rfl (Nat.le_of_ble_eq_true rfl) rfl fun i38 => ?_
        replace h := h i38
        refine g_eq1 i38 (fun b39 => ?_) (fun b39 => ?_)
        · replace h := h.1 b39
          exact TX6_selectOne_131 hl2 hl3 hl4 hl6 hl7 h
        · replace h := h.2 b39
          unfold vX6_selectOne_123
          refine g_ld (v := rf _) rfl (is_R _) ?_
          refine g_const (v := cI (2)) rfl ?_
          refine g_callV (As := [_]) (ci := 6) oC6 (fun _ => rfl) ?_
          refine g_go0 (Nat.le_of_ble_eq_true rfl) (Tn_w (TX6_fail ⟨by omega, by omega⟩ h) fun _ G40 ⟨e, h⟩ => ⟨e, ?_⟩)
          exact TX6_selectOne_159 hl2 hl3 hl4 hl6 hl7 h
    · replace h := h.2 b34
      exact TX6_selectOne_131 hl2 hl3 hl4 hl6 hl7 h
def PX6_selectOne_25 (l1 : Int) (l2 : Int) (l3 : Int) (l4 : Int) (l5 : Int) (l6 : Int) (G : gS) (Q : Int → gS → Prop) : Prop :=
  PX6_fail 13 G (fun _ G21 => Q 0 G21)
set_option maxRecDepth 20000 in
theorem TX6_selectOne_25 {l1 : Int} {l2 : Int} {l3 : Int} {l4 : Int} {l5 : Int} {l6 : Int} {l7 : Nat} {l8 : Nat} {G : gS} {Q : Int → gS → Prop} (hl2 : inI l2) (hl3 : inI l3) (hl4 : inI l4) (hl6 : inI l6) (hl7 : l7 % 8 ≠ 1) (hl8 : l8 % 8 ≠ 1) (h : PX6_selectOne_25 l1 l2 l3 l4 l5 l6 G Q) : Tg W0 vX6_selectOne_25 [rf (938), rf (l1), cI (l2), cI (l3), cI (l4), rf (l5), cI (l6), l7, l8] [] G (fun r G => r = 7 ∧ Q 0 G) := by
  unfold PX6_selectOne_25 at h
  unfold vX6_selectOne_25
  refine g_ld (v := rf _) rfl (is_R _) ?_
  refine g_const (v := cI (13)) rfl ?_
  refine g_callV (As := [_]) (ci := 6) oC6 (fun _ => rfl) ?_
  refine g_go0 (Nat.le_of_ble_eq_true rfl) (Tn_w (TX6_fail ⟨by omega, by omega⟩ h) fun _ G21 ⟨e, h⟩ => ⟨e, ?_⟩)
  exact g_ret0 ⟨rfl, h⟩
def PX6_selectOne_0 (a1 : Int) (a2 : Int) (a3 : Int) (a4 : Int) (a5 : Int) (G : gS) (Q : Int → gS → Prop) : Prop :=
  (isO W0 7 (a5) ∧ (inI (G a5 9) → PX6_peek (G a5 9) G (fun r4 G3 => inI r4 → ((0 < r4 → (inI (G3 938 10) → ((G3 938 10 < r4 → PX6_selectOne_25 a1 a2 a3 a4 a5 r4 G3 Q) ∧ (¬ (G3 938 10 < r4) → ((0 : Int) ≤ r4 ∧ ((r4 : Int) < 202 ∧ (inI (G3 980 r4) → ((a2 = 8 → ((G3 938 0 = -1 ∨ isO W0 11 (G3 938 0)) → (isO W0 11 (G3 938 0) ∧ PX11_heir (G3 938 0) (G3 980 r4) a3 G3 (fun r16 G15 => (0 ≤ r16 ∧ r16 ≤ 1) → ((r16 = 0 → PX6_fail 3 G15 (fun _ G19 => Q 0 G19)) ∧ (¬ (r16 = 0) → PX6_selectOne_66 a1 a2 a3 a4 a5 r4 (G3 980 r4) G15 Q)))))) ∧ (¬ (a2 = 8) → PX6_selectOne_66 a1 a2 a3 a4 a5 r4 (G3 980 r4) G3 Q))))))))) ∧ (¬ (0 < r4) → PX6_selectOne_25 a1 a2 a3 a4 a5 r4 G3 Q)))))
set_option maxRecDepth 20000 in
theorem TX6_selectOne_0 {a1 : Int} {a2 : Int} {a3 : Int} {a4 : Int} {a5 : Int} {G : gS} {Q : Int → gS → Prop} (ha2 : inI a2) (ha3 : inI a3) (ha4 : inI a4) (h : PX6_selectOne_0 a1 a2 a3 a4 a5 G Q) : Tg W0 vX6_selectOne_0 [rf (938), rf (a1), cI (a2), cI (a3), cI (a4), rf (a5), 7, 7, 7] [] G (fun r G => r = 7 ∧ Q 0 G) := by
  unfold PX6_selectOne_0 at h
  unfold vX6_selectOne_0
  refine g_ld (v := rf _) rfl (is_R _) ?_
  refine g_ld (v := rf _) rfl (is_R _) ?_
  obtain ⟨q1, h⟩ := h
  refine g_getI (kz := 9) q1 rfl (Nat.le_of_ble_eq_true rfl) rfl fun i2 => ?_
  replace h := h i2
  refine g_callV (As := [_]) (ci := 6) oC6 (fun _ => rfl) ?_
  refine g_go1 (Nat.le_of_ble_eq_true rfl) (Tn_w (TX6_peek i2 h) fun _ G3 ⟨r4, e, i5, h⟩ => ?_)
  subst e
  refine ⟨n7_I _, ?_⟩
  replace h := h i5
  refine g_st (lv' := [_, _, _, _, _, _, _, _, _]) (is_I _) (Nat.le_of_ble_eq_true rfl) (Or.inr (n1_R _)) rfl ?_
  refine g_ld (v := cI _) rfl (is_I _) ?_
  refine g_gt1 i5 (fun b6 => ?_) (fun b6 => ?_)
  · replace h := h.1 b6
    unfold vX6_selectOne_16
    refine g_ld (v := cI _) rfl (is_I _) ?_
    refine g_ld (v := rf _) rfl (is_R _) ?_
    refine g_getI (kz := 10) oC6 rfl (Nat.le_of_ble_eq_true rfl) rfl fun i7 => ?_
    replace h := h i7
    refine g_gt2 i5 i7 (fun b8 => ?_) (fun b8 => ?_)
    · replace h := h.1 b8
      exact TX6_selectOne_25 ha2 ha3 ha4 i5 (show 7 % 8 ≠ 1 by decide) (show 7 % 8 ≠ 1 by decide) h
    · replace h := h.2 b8
      unfold vX6_selectOne_32
      refine g_ld (v := rf _) rfl (is_R _) ?_
      refine g_getF (v := 980) oC6 (hC6_8) rfl (Nat.le_of_ble_eq_true rfl) (Nat.le_of_ble_eq_true rfl) ?_
      refine g_ld (v := cI _) rfl (is_I _) ?_
      obtain ⟨q9, q10, h⟩ := h
      refine g_aldI aC980 q9 q10 rfl fun i11 => ?_
      replace h := h i11
      refine g_st (lv' := [_, _, _, _, _, _, _, _, _]) (is_I _) (Nat.le_of_ble_eq_true rfl) (Or.inr (n1_I _)) rfl ?_
      refine g_ld (v := cI _) rfl (is_I _) ?_
      refine g_const (v := cI (8)) rfl ?_
      refine g_eq2 ha2 ⟨by omega, by omega⟩ (fun b12 => ?_) (fun b12 => ?_)
      · replace h := h.1 b12
        unfold vX6_selectOne_47
        refine g_ld (v := rf _) rfl (is_R _) ?_
        refine g_getR (kz := 0) (c := 11) oC6 rfl (Nat.le_of_ble_eq_true rfl) rfl (by decide) fun i13 => ?_
        replace h := h i13
        refine g_ld (v := cI _) rfl (is_I _) ?_
        refine g_ld (v := cI _) rfl (is_I _) ?_
        obtain ⟨q14, h⟩ := h
        refine g_callV (As := [_, _]) (ci := 11) q14 (fun _ => rfl) ?_
        refine g_go1 (Nat.le_of_ble_eq_true rfl) (Tn_w (TX11_heir i11 ha3 h) fun _ G15 ⟨r16, e, i17, h⟩ => ?_)
        subst e
        refine ⟨n7_I _, ?_⟩
        replace h := h i17
        refine g_eq1 ⟨by omega, by omega⟩ (fun b18 => ?_) (fun b18 => ?_)
        · replace h := h.1 b18
          unfold vX6_selectOne_60
          refine g_ld (v := rf _) rfl (is_R _) ?_
          refine g_const (v := cI (3)) rfl ?_
          refine g_callV (As := [_]) (ci := 6) oC6 (fun _ => rfl) ?_
          refine g_go0 (Nat.le_of_ble_eq_true rfl) (Tn_w (TX6_fail ⟨by omega, by omega⟩ h) fun _ G19 ⟨e, h⟩ => ⟨e, ?_⟩)
          exact g_ret0 ⟨rfl, h⟩
        · replace h := h.2 b18
          exact TX6_selectOne_66 ha2 ha3 ha4 i5 i11 (show 7 % 8 ≠ 1 by decide) h
      · replace h := h.2 b12
        exact TX6_selectOne_66 ha2 ha3 ha4 i5 i11 (show 7 % 8 ≠ 1 by decide) h
  · replace h := h.2 b6
    exact TX6_selectOne_25 ha2 ha3 ha4 i5 (show 7 % 8 ≠ 1 by decide) (show 7 % 8 ≠ 1 by decide) h
abbrev PX6_selectOne (a1 : Int) (a2 : Int) (a3 : Int) (a4 : Int) (a5 : Int) (G : gS) (Q : Int → gS → Prop) : Prop := PX6_selectOne_0 a1 a2 a3 a4 a5 G Q
theorem TX6_selectOne {a1 : Int} {a2 : Int} {a3 : Int} {a4 : Int} {a5 : Int} {G : gS} {Q : Int → gS → Prop} (ha2 : inI a2) (ha3 : inI a3) (ha4 : inI a4) (h : PX6_selectOne a1 a2 a3 a4 a5 G Q) : Tn W0 FX6_selectOne [rf (938), rf (a1), cI (a2), cI (a3), cI (a4), rf (a5)] G (fun r G => r = 7 ∧ Q 0 G) := by
  unfold FX6_selectOne
  refine g_ent (lv' := [rf (938), rf (a1), cI (a2), cI (a3), cI (a4), rf (a5), 7, 7, 7]) (flR (flR (flI (flI (flI (flR fl0)))))) (Nat.le_of_ble_eq_true rfl) rfl ?_
  exact TX6_selectOne_0 ha2 ha3 ha4 h
def PX6_useOne_201 (l1 : Int) (l2 : Int) (l3 : Int) (l4 : Int) (l5 : Int) (l6 : Int) (s0 : Int) (s1 : Int) (s2 : Int) (s3 : Int) (s4 : Int) (G : gS) (Q : Int → gS → Prop) : Prop :=
  (isO W0 6 (s0) ∧ (inI (s3 + s4) ∧ PX6_call s1 s2 (s3 + s4) 1 G (fun _ G48 => Q (0) G48)))
set_option maxRecDepth 20000 in
theorem TX6_useOne_201 {l1 : Int} {l2 : Int} {l3 : Int} {l4 : Int} {l5 : Int} {l6 : Int} {s0 : Int} {s1 : Int} {s2 : Int} {s3 : Int} {s4 : Int} {G : gS} {Q : Int → gS → Prop} (hl2 : inI l2) (hl3 : inI l3) (hl4 : inI l4) (hl5 : inI l5) (hs1 : inI s1) (hs3 : inI s3) (hs4 : inI s4) (h : PX6_useOne_201 l1 l2 l3 l4 l5 l6 s0 s1 s2 s3 s4 G Q) : Tg W0 vX6_useOne_201 [rf (938), rf (l1), cI (l2), cI (l3), cI (l4), cI (l5), rf (l6)] [cI (s4), cI (s3), rf (s2), cI (s1), rf (s0)] G (fun r G => ∃ v, r = cI v ∧ (0 ≤ v ∧ v ≤ 1) ∧ Q v G) := by
  unfold PX6_useOne_201 at h
  unfold vX6_useOne_201
  refine g_add ?_
  refine g_const (v := cI (1)) rfl ?_
  obtain ⟨q46, h⟩ := h
  obtain ⟨q47, h⟩ := h
  refine g_callV (As := [_, _, _, _]) (ci := 6) q46 (fun _ => rfl) ?_
  refine g_go0 (Nat.le_of_ble_eq_true rfl) (Tn_w (Tn_eq (one6 q46) (TX6_call hs1 q47 ⟨by omega, by omega⟩ h)) fun _ G48 ⟨e, h⟩ => ⟨e, ?_⟩)
  refine g_const (v := cI (0)) rfl ?_
  exact g_ret1 (is_Z (by omega)) ⟨_, rfl, (by omega), h⟩
def PX6_useOne_157 (l1 : Int) (l2 : Int) (l3 : Int) (l4 : Int) (l5 : Int) (l6 : Int) (G : gS) (Q : Int → gS → Prop) : Prop :=
  PX6_selectOne l1 l3 l4 l5 l6 G (fun _ G44 => Q (0) G44)
set_option maxRecDepth 20000 in
theorem TX6_useOne_157 {l1 : Int} {l2 : Int} {l3 : Int} {l4 : Int} {l5 : Int} {l6 : Int} {G : gS} {Q : Int → gS → Prop} (hl2 : inI l2) (hl3 : inI l3) (hl4 : inI l4) (hl5 : inI l5) (h : PX6_useOne_157 l1 l2 l3 l4 l5 l6 G Q) : Tg W0 vX6_useOne_157 [rf (938), rf (l1), cI (l2), cI (l3), cI (l4), cI (l5), rf (l6)] [] G (fun r G => ∃ v, r = cI v ∧ (0 ≤ v ∧ v ≤ 1) ∧ Q v G) := by
  unfold PX6_useOne_157 at h
  unfold vX6_useOne_157
  refine g_ld (v := rf _) rfl (is_R _) ?_
  refine g_ld (v := rf _) rfl (is_R _) ?_
  refine g_ld (v := cI _) rfl (is_I _) ?_
  refine g_ld (v := cI _) rfl (is_I _) ?_
  refine g_ld (v := cI _) rfl (is_I _) ?_
  refine g_ld (v := rf _) rfl (is_R _) ?_
  refine g_callV (As := [_, _, _, _, _]) (ci := 6) oC6 (fun _ => rfl) ?_
  refine g_go0 (Nat.le_of_ble_eq_true rfl) (Tn_w (TX6_selectOne hl3 hl4 hl5 h) fun _ G44 ⟨e, h⟩ => ⟨e, ?_⟩)
  refine g_const (v := cI (0)) rfl ?_
  exact g_ret1 (is_Z (by omega)) ⟨_, rfl, (by omega), h⟩
def PX6_useOne_118 (l1 : Int) (l2 : Int) (l3 : Int) (l4 : Int) (l5 : Int) (l6 : Int) (s0 : Int) (s1 : Int) (G : gS) (Q : Int → gS → Prop) : Prop :=
  (isO W0 7 (l6) ∧ (inI (G l6 17) → (isO W0 6 (s0) ∧ PX6_staticOne s1 l5 (G l6 17) G (fun r54 G53 => (0 ≤ r54 ∧ r54 ≤ 1) → Q (r54) G53))))
set_option maxRecDepth 20000 in
theorem TX6_useOne_118 {l1 : Int} {l2 : Int} {l3 : Int} {l4 : Int} {l5 : Int} {l6 : Int} {s0 : Int} {s1 : Int} {G : gS} {Q : Int → gS → Prop} (hl2 : inI l2) (hl3 : inI l3) (hl4 : inI l4) (hl5 : inI l5) (hs1 : inI s1) (h : PX6_useOne_118 l1 l2 l3 l4 l5 l6 s0 s1 G Q) : Tg W0 vX6_useOne_118 [rf (938), rf (l1), cI (l2), cI (l3), cI (l4), cI (l5), rf (l6)] [cI (s1), rf (s0)] G (fun r G => ∃ v, r = cI v ∧ (0 ≤ v ∧ v ≤ 1) ∧ Q v G) := by
  unfold PX6_useOne_118 at h
  unfold vX6_useOne_118
  refine g_ld (v := cI _) rfl (is_I _) ?_
  refine g_ld (v := rf _) rfl (is_R _) ?_
  obtain ⟨q50, h⟩ := h
  refine g_getI (kz := 17) q50 rfl (Nat.le_of_ble_eq_true rfl) rfl fun i51 => ?_
  replace h := h i51
  obtain ⟨q52, h⟩ := h
  refine g_callV (As := [_, _, _]) (ci := 6) q52 (fun _ => rfl) ?_
  refine g_go1 (Nat.le_of_ble_eq_true rfl) (Tn_w (Tn_eq (one6 q52) (TX6_staticOne hs1 hl5 i51 h)) fun _ G53 ⟨r54, e, i55, h⟩ => ?_)
  subst e
  refine ⟨n7_I _, ?_⟩
  replace h := h i55
  exact g_ret1 (is_Z i55) ⟨_, rfl, i55, h⟩
def PX6_useOne_89 (l1 : Int) (l2 : Int) (l3 : Int) (l4 : Int) (l5 : Int) (l6 : Int) (s0 : Int) (s1 : Int) (G : gS) (Q : Int → gS → Prop) : Prop :=
  (isO W0 7 (l6) ∧ (inI (G l6 17) → (isO W0 6 (s0) ∧ PX6_fieldOne s1 l5 (G l6 17) G (fun r60 G59 => (0 ≤ r60 ∧ r60 ≤ 1) → Q (r60) G59))))
set_option maxRecDepth 20000 in
theorem TX6_useOne_89 {l1 : Int} {l2 : Int} {l3 : Int} {l4 : Int} {l5 : Int} {l6 : Int} {s0 : Int} {s1 : Int} {G : gS} {Q : Int → gS → Prop} (hl2 : inI l2) (hl3 : inI l3) (hl4 : inI l4) (hl5 : inI l5) (hs1 : inI s1) (h : PX6_useOne_89 l1 l2 l3 l4 l5 l6 s0 s1 G Q) : Tg W0 vX6_useOne_89 [rf (938), rf (l1), cI (l2), cI (l3), cI (l4), cI (l5), rf (l6)] [cI (s1), rf (s0)] G (fun r G => ∃ v, r = cI v ∧ (0 ≤ v ∧ v ≤ 1) ∧ Q v G) := by
  unfold PX6_useOne_89 at h
  unfold vX6_useOne_89
  refine g_ld (v := cI _) rfl (is_I _) ?_
  refine g_ld (v := rf _) rfl (is_R _) ?_
  obtain ⟨q56, h⟩ := h
  refine g_getI (kz := 17) q56 rfl (Nat.le_of_ble_eq_true rfl) rfl fun i57 => ?_
  replace h := h i57
  obtain ⟨q58, h⟩ := h
  refine g_callV (As := [_, _, _]) (ci := 6) q58 (fun _ => rfl) ?_
  refine g_go1 (Nat.le_of_ble_eq_true rfl) (Tn_w (Tn_eq (one6 q58) (TX6_fieldOne hs1 hl5 i57 h)) fun _ G59 ⟨r60, e, i61, h⟩ => ?_)
  subst e
  refine ⟨n7_I _, ?_⟩
  replace h := h i61
  exact g_ret1 (is_Z i61) ⟨_, rfl, i61, h⟩
def PX6_useOne_64 (l1 : Int) (l2 : Int) (l3 : Int) (l4 : Int) (l5 : Int) (l6 : Int) (G : gS) (Q : Int → gS → Prop) : Prop :=
  PX6_fail 5 G (fun _ G42 => Q (0) G42)
set_option maxRecDepth 20000 in
theorem TX6_useOne_64 {l1 : Int} {l2 : Int} {l3 : Int} {l4 : Int} {l5 : Int} {l6 : Int} {G : gS} {Q : Int → gS → Prop} (hl2 : inI l2) (hl3 : inI l3) (hl4 : inI l4) (hl5 : inI l5) (h : PX6_useOne_64 l1 l2 l3 l4 l5 l6 G Q) : Tg W0 vX6_useOne_64 [rf (938), rf (l1), cI (l2), cI (l3), cI (l4), cI (l5), rf (l6)] [] G (fun r G => ∃ v, r = cI v ∧ (0 ≤ v ∧ v ≤ 1) ∧ Q v G) := by
  unfold PX6_useOne_64 at h
  unfold vX6_useOne_64
  refine g_ld (v := rf _) rfl (is_R _) ?_
  refine g_const (v := cI (5)) rfl ?_
  refine g_callV (As := [_]) (ci := 6) oC6 (fun _ => rfl) ?_
  refine g_go0 (Nat.le_of_ble_eq_true rfl) (Tn_w (TX6_fail ⟨by omega, by omega⟩ h) fun _ G42 ⟨e, h⟩ => ⟨e, ?_⟩)
  refine g_const (v := cI (0)) rfl ?_
  exact g_ret1 (is_Z (by omega)) ⟨_, rfl, (by omega), h⟩
def PX6_useOne_0 (a1 : Int) (a2 : Int) (a3 : Int) (G : gS) (Q : Int → gS → Prop) : Prop :=
  (isO W0 5 (939) ∧ (inI (G 939 14) → (isO W0 5 (939) ∧ (inI (G 939 12) → (isO W0 5 (939) ∧ ((G 939 11 = -1 ∨ isO W0 7 (G 939 11)) → ((a2 = 35 → PX6_newOne (G 939 14) G (fun r9 G8 => (0 ≤ r9 ∧ r9 ≤ 1) → Q (r9) G8)) ∧ (¬ (a2 = 35) → ((a2 < 37 → ((G 939 11 < 0 → PX6_useOne_64 a1 a2 a3 (G 939 14) (G 939 12) (G 939 11) G Q) ∧ (0 ≤ G 939 11 → ((G 939 12 < 0 → PX6_useOne_64 a1 a2 a3 (G 939 14) (G 939 12) (G 939 11) G Q) ∧ (¬ (G 939 12 < 0) → ((31 < a2 → ((33 < a2 → ((a2 = 36 → PX6_makerOne a1 (G 939 12) (G 939 11) G (fun r18 G17 => (0 ≤ r18 ∧ r18 ≤ 1) → Q (r18) G17)) ∧ (¬ (a2 = 36) → ((a3 = 7 → PX6_useOne_157 a1 a2 a3 (G 939 14) (G 939 12) (G 939 11) G Q) ∧ (¬ (a3 = 7) → ((a3 = 8 → PX6_useOne_157 a1 a2 a3 (G 939 14) (G 939 12) (G 939 11) G Q) ∧ (¬ (a3 = 8) → (∃ n22, isA W0 0 n22 (a1) ∧ ((0 : Int) ≤ 1 ∧ ((1 : Int) < n22 ∧ (inI (G a1 1) → (∃ n27, isA W0 0 n27 (a1) ∧ ((0 : Int) ≤ 1 ∧ ((1 : Int) < n27 ∧ (inI ((G a1 1) + 2) ∧ (∀ G32 : gS, G32 = uG G a1 1 ((G a1 1) + 2) → (isO W0 7 (G 939 11) ∧ (inI (G32 (G 939 11) 9) → ((0 ≤ G32 (G 939 11) 2 ∧ G32 (G 939 11) 2 ≤ 1) → ((G32 (G 939 11) 2 = 0 → PX6_useOne_201 a1 a2 a3 (G 939 14) (G 939 12) (G 939 11) 938 (G 939 12) (G 939 11) (G32 (G 939 11) 9) 1 G32 Q) ∧ (¬ (G32 (G 939 11) 2 = 0) → PX6_useOne_201 a1 a2 a3 (G 939 14) (G 939 12) (G 939 11) 938 (G 939 12) (G 939 11) (G32 (G 939 11) 9) 0 G32 Q))))))))))))))))))))) ∧ (¬ (33 < a2) → ((a2 = 33 → PX6_useOne_118 a1 a2 a3 (G 939 14) (G 939 12) (G 939 11) 938 1 G Q) ∧ (¬ (a2 = 33) → PX6_useOne_118 a1 a2 a3 (G 939 14) (G 939 12) (G 939 11) 938 0 G Q))))) ∧ (¬ (31 < a2) → ((a2 = 31 → PX6_useOne_89 a1 a2 a3 (G 939 14) (G 939 12) (G 939 11) 938 1 G Q) ∧ (¬ (a2 = 31) → PX6_useOne_89 a1 a2 a3 (G 939 14) (G 939 12) (G 939 11) 938 0 G Q))))))))) ∧ (¬ (a2 < 37) → PX6_isOne a2 (G 939 14) G (fun r40 G39 => (0 ≤ r40 ∧ r40 ≤ 1) → Q (r40) G39)))))))))))
set_option maxRecDepth 20000 in
theorem TX6_useOne_0 {a1 : Int} {a2 : Int} {a3 : Int} {G : gS} {Q : Int → gS → Prop} (ha2 : inI a2) (ha3 : inI a3) (h : PX6_useOne_0 a1 a2 a3 G Q) : Tg W0 vX6_useOne_0 [rf (938), rf (a1), cI (a2), cI (a3), 7, 7, 7] [] G (fun r G => ∃ v, r = cI v ∧ (0 ≤ v ∧ v ≤ 1) ∧ Q v G) := by
  unfold PX6_useOne_0 at h
  unfold vX6_useOne_0
  refine g_ld (v := rf _) rfl (is_R _) ?_
  refine g_getF (v := 939) oC6 (hC6_1) rfl (Nat.le_of_ble_eq_true rfl) (Nat.le_of_ble_eq_true rfl) ?_
  obtain ⟨q1, h⟩ := h
  refine g_getI (kz := 14) q1 rfl (Nat.le_of_ble_eq_true rfl) rfl fun i2 => ?_
  replace h := h i2
  refine g_st (lv' := [_, _, _, _, _, _, _]) (is_I _) (Nat.le_of_ble_eq_true rfl) (Or.inr (n1_I _)) rfl ?_
  refine g_ld (v := rf _) rfl (is_R _) ?_
  refine g_getF (v := 939) oC6 (hC6_1) rfl (Nat.le_of_ble_eq_true rfl) (Nat.le_of_ble_eq_true rfl) ?_
  obtain ⟨q3, h⟩ := h
  refine g_getI (kz := 12) q3 rfl (Nat.le_of_ble_eq_true rfl) rfl fun i4 => ?_
  replace h := h i4
  refine g_st (lv' := [_, _, _, _, _, _, _]) (is_I _) (Nat.le_of_ble_eq_true rfl) (Or.inr (n1_I _)) rfl ?_
  refine g_ld (v := rf _) rfl (is_R _) ?_
  refine g_getF (v := 939) oC6 (hC6_1) rfl (Nat.le_of_ble_eq_true rfl) (Nat.le_of_ble_eq_true rfl) ?_
  obtain ⟨q5, h⟩ := h
  refine g_getR (kz := 11) (c := 7) q5 rfl (Nat.le_of_ble_eq_true rfl) rfl (by decide) fun i6 => ?_
  replace h := h i6
  refine g_st (lv' := [_, _, _, _, _, _, _]) (is_R _) (Nat.le_of_ble_eq_true rfl) (Or.inr (n1_I _)) rfl ?_
  refine g_ld (v := cI _) rfl (is_I _) ?_
  refine g_const (v := cI (35)) rfl ?_
  refine g_eq2 ha2 ⟨by omega, by omega⟩ (fun b7 => ?_) (fun b7 => ?_)
  · replace h := h.1 b7
    unfold vX6_useOne_33
    refine g_ld (v := rf _) rfl (is_R _) ?_
    refine g_ld (v := cI _) rfl (is_I _) ?_
    refine g_callV (As := [_]) (ci := 6) oC6 (fun _ => rfl) ?_
    refine g_go1 (Nat.le_of_ble_eq_true rfl) (Tn_w (TX6_newOne i2 h) fun _ G8 ⟨r9, e, i10, h⟩ => ?_)
    subst e
    refine ⟨n7_I _, ?_⟩
    replace h := h i10
    exact g_ret1 (is_Z i10) ⟨_, rfl, i10, h⟩
  · replace h := h.2 b7
    unfold vX6_useOne_40
    refine g_ld (v := cI _) rfl (is_I _) ?_
    refine g_const (v := cI (37)) rfl ?_
    refine g_lt2 ha2 ⟨by omega, by omega⟩ (fun b11 => ?_) (fun b11 => ?_)
    · replace h := h.1 b11
      unfold vX6_useOne_54
      refine g_ld (v := rf _) rfl (is_R _) ?_
      refine g_nul (fun b12 => ?_) (fun b12 => ?_)
      · replace h := h.1 b12
        exact TX6_useOne_64 ha2 ha3 i2 i4 h
      · replace h := h.2 b12
        unfold vX6_useOne_59
        refine g_ld (v := cI _) rfl (is_I _) ?_
        refine g_lt1 i4 (fun b13 => ?_) (fun b13 => ?_)
        · replace h := h.1 b13
          exact TX6_useOne_64 ha2 ha3 i2 i4 h
        · replace h := h.2 b13
          unfold vX6_useOne_71
          refine g_ld (v := cI _) rfl (is_I _) ?_
          refine g_const (v := cI (31)) rfl ?_
          refine g_gt2 ha2 ⟨by omega, by omega⟩ (fun b14 => ?_) (fun b14 => ?_)
          · replace h := h.1 b14
            unfold vX6_useOne_100
            refine g_ld (v := cI _) rfl (is_I _) ?_
            refine g_const (v := cI (33)) rfl ?_
            refine g_gt2 ha2 ⟨by omega, by omega⟩ (fun b15 => ?_) (fun b15 => ?_)
            · replace h := h.1 b15
              unfold vX6_useOne_129
              refine g_ld (v := cI _) rfl (is_I _) ?_
              refine g_const (v := cI (36)) rfl ?_
              refine g_eq2 ha2 ⟨by omega, by omega⟩ (fun b16 => ?_) (fun b16 => ?_)
              · replace h := h.1 b16
                unfold vX6_useOne_135
                refine g_ld (v := rf _) rfl (is_R _) ?_
                refine g_ld (v := rf _) rfl (is_R _) ?_
                refine g_ld (v := cI _) rfl (is_I _) ?_
                refine g_ld (v := rf _) rfl (is_R _) ?_
                refine g_callV (As := [_, _, _]) (ci := 6) oC6 (fun _ => rfl) ?_
                refine g_go1 (Nat.le_of_ble_eq_true rfl) (Tn_w (TX6_makerOne i4 h) fun _ G17 ⟨r18, e, i19, h⟩ => ?_)
                subst e
                refine ⟨n7_I _, ?_⟩
                replace h := h i19
                exact g_ret1 (is_Z i19) ⟨_, rfl, i19, h⟩
              · replace h := h.2 b16
                unfold vX6_useOne_145
                refine g_ld (v := cI _) rfl (is_I _) ?_
                refine g_const (v := cI (7)) rfl ?_
                refine g_eq2 ha3 ⟨by omega, by omega⟩ (fun b20 => ?_) (fun b20 => ?_)
                · replace h := h.1 b20
                  exact TX6_useOne_157 ha2 ha3 i2 i4 h
                · replace h := h.2 b20
                  unfold vX6_useOne_151
                  refine g_ld (v := cI _) rfl (is_I _) ?_
                  refine g_const (v := cI (8)) rfl ?_
                  refine g_eq2 ha3 ⟨by omega, by omega⟩ (fun b21 => ?_) (fun b21 => ?_)
                  · replace h := h.1 b21
                    exact TX6_useOne_157 ha2 ha3 i2 i4 h
                  · replace h := h.2 b21
                    unfold vX6_useOne_171
                    refine g_ld (v := rf _) rfl (is_R _) ?_
                    refine g_const (v := cI (1)) rfl ?_
                    refine g_dup2 (ct_I _) (ct_R _) ?_
                    obtain ⟨n22, q23, h⟩ := h
                    obtain ⟨q24, q25, h⟩ := h
                    refine g_aldI q23 q24 q25 rfl fun i26 => ?_
                    replace h := h i26
                    refine g_const (v := cI (2)) rfl ?_
                    refine g_add ?_
                    obtain ⟨n27, q28, h⟩ := h
                    obtain ⟨q29, q30, h⟩ := h
                    obtain ⟨q31, h⟩ := h
                    refine g_astI q28 q29 q30 q31 (nfI q28) ?_
                    replace h := h _ rfl
                    refine g_ld (v := rf _) rfl (is_R _) ?_
                    refine g_ld (v := cI _) rfl (is_I _) ?_
                    refine g_ld (v := rf _) rfl (is_R _) ?_
                    refine g_ld (v := rf _) rfl (is_R _) ?_
                    obtain ⟨q33, h⟩ := h
                    refine g_getI (kz := 9) q33 rfl (Nat.le_of_ble_eq_true rfl) rfl fun i34 => ?_
                    replace h := h i34
                    refine g_ld (v := rf _) rfl (is_R _) ?_
                    refine g_getZ (kz := 2) q33 rfl (Nat.le_of_ble_eq_true rfl) rfl fun i35 => ?_
                    replace h := h i35
                    refine g_eq1 ⟨by omega, by omega⟩ (fun b36 => ?_) (fun b36 => ?_)
                    · replace h := h.1 b36
                      unfold vX6_useOne_200
                      refine g_const (v := cI (1)) rfl ?_
                      exact TX6_useOne_201 ha2 ha3 i2 i4 i4 i34 ⟨by omega, by omega⟩ h
                    · replace h := h.2 b36
                      unfold vX6_useOne_196
                      refine g_const (v := cI (0)) rfl ?_
                      exact TX6_useOne_201 ha2 ha3 i2 i4 i4 i34 ⟨by omega, by omega⟩ h
            · replace h := h.2 b15
              unfold vX6_useOne_106
              refine g_ld (v := rf _) rfl (is_R _) ?_
              refine g_ld (v := cI _) rfl (is_I _) ?_
              refine g_const (v := cI (33)) rfl ?_
              refine g_eq2 ha2 ⟨by omega, by omega⟩ (fun b37 => ?_) (fun b37 => ?_)
              · replace h := h.1 b37
                unfold vX6_useOne_113
                refine g_const (v := cI (1)) rfl ?_
                exact TX6_useOne_118 ha2 ha3 i2 i4 ⟨by omega, by omega⟩ h
              · replace h := h.2 b37
                unfold vX6_useOne_117
                refine g_const (v := cI (0)) rfl ?_
                exact TX6_useOne_118 ha2 ha3 i2 i4 ⟨by omega, by omega⟩ h
          · replace h := h.2 b14
            unfold vX6_useOne_77
            refine g_ld (v := rf _) rfl (is_R _) ?_
            refine g_ld (v := cI _) rfl (is_I _) ?_
            refine g_const (v := cI (31)) rfl ?_
            refine g_eq2 ha2 ⟨by omega, by omega⟩ (fun b38 => ?_) (fun b38 => ?_)
            · replace h := h.1 b38
              unfold vX6_useOne_84
              refine g_const (v := cI (1)) rfl ?_
              exact TX6_useOne_89 ha2 ha3 i2 i4 ⟨by omega, by omega⟩ h
            · replace h := h.2 b38
              unfold vX6_useOne_88
              refine g_const (v := cI (0)) rfl ?_
              exact TX6_useOne_89 ha2 ha3 i2 i4 ⟨by omega, by omega⟩ h
    · replace h := h.2 b11
      unfold vX6_useOne_46
      refine g_ld (v := rf _) rfl (is_R _) ?_
      refine g_ld (v := cI _) rfl (is_I _) ?_
      refine g_ld (v := cI _) rfl (is_I _) ?_
      refine g_callV (As := [_, _]) (ci := 6) oC6 (fun _ => rfl) ?_
      refine g_go1 (Nat.le_of_ble_eq_true rfl) (Tn_w (TX6_isOne ha2 i2 h) fun _ G39 ⟨r40, e, i41, h⟩ => ?_)
      subst e
      refine ⟨n7_I _, ?_⟩
      replace h := h i41
      exact g_ret1 (is_Z i41) ⟨_, rfl, i41, h⟩
abbrev PX6_useOne (a1 : Int) (a2 : Int) (a3 : Int) (G : gS) (Q : Int → gS → Prop) : Prop := PX6_useOne_0 a1 a2 a3 G Q
theorem TX6_useOne {a1 : Int} {a2 : Int} {a3 : Int} {G : gS} {Q : Int → gS → Prop} (ha2 : inI a2) (ha3 : inI a3) (h : PX6_useOne a1 a2 a3 G Q) : Tn W0 FX6_useOne [rf (938), rf (a1), cI (a2), cI (a3)] G (fun r G => ∃ v, r = cI v ∧ (0 ≤ v ∧ v ≤ 1) ∧ Q v G) := by
  unfold FX6_useOne
  refine g_ent (lv' := [rf (938), rf (a1), cI (a2), cI (a3), 7, 7, 7]) (flR (flR (flI (flI fl0)))) (Nat.le_of_ble_eq_true rfl) rfl ?_
  exact TX6_useOne_0 ha2 ha3 h
def PX6_turn_350 (l1 : Int) (l2 : Int) (l3 : Int) (l4 : Int) (l5 : Int) (l6 : Int) (l7 : Int) (G : gS) (Q : Int → gS → Prop) : Prop :=
  Q 0 G
set_option maxRecDepth 20000 in
theorem TX6_turn_350 {l1 : Int} {l2 : Int} {l3 : Int} {l4 : Int} {l5 : Int} {l6 : Int} {l7 : Int} {l8 : Nat} {l9 : Nat} {G : gS} {Q : Int → gS → Prop} (hl2 : inI l2) (hl4 : inI l4) (hl5 : inI l5) (hl6 : inI l6) (hl7 : inI l7) (hl8 : l8 % 8 ≠ 1) (hl9 : l9 % 8 ≠ 1) (h : PX6_turn_350 l1 l2 l3 l4 l5 l6 l7 G Q) : Tg W0 vX6_turn_350 [rf (938), rf (l1), cI (l2), rf (l3), cI (l4), cI (l5), cI (l6), cI (l7), l8, l9] [] G (fun r G => r = 7 ∧ Q 0 G) := by
  unfold PX6_turn_350 at h
  unfold vX6_turn_350
  exact g_ret0 ⟨rfl, h⟩
def PX6_turn_338 (l1 : Int) (l2 : Int) (l3 : Int) (l4 : Int) (l5 : Int) (l6 : Int) (l7 : Int) (G : gS) (Q : Int → gS → Prop) : Prop :=
  ((l7 = 0 → PX6_turn_350 l1 l2 l3 l4 l5 l6 l7 G Q) ∧ (¬ (l7 = 0) → (∃ n65, isA W0 0 n65 (l1) ∧ ((0 : Int) ≤ 1 ∧ ((1 : Int) < n65 ∧ (inI (l4 + 2) ∧ (∀ G70 : gS, G70 = uG G l1 1 (l4 + 2) → PX6_turn_350 l1 l2 l3 l4 l5 l6 l7 G70 Q)))))))
set_option maxRecDepth 20000 in
theorem TX6_turn_338 {l1 : Int} {l2 : Int} {l3 : Int} {l4 : Int} {l5 : Int} {l6 : Int} {l7 : Int} {l8 : Nat} {l9 : Nat} {G : gS} {Q : Int → gS → Prop} (hl2 : inI l2) (hl4 : inI l4) (hl5 : inI l5) (hl6 : inI l6) (hl7 : inI l7) (hl8 : l8 % 8 ≠ 1) (hl9 : l9 % 8 ≠ 1) (h : PX6_turn_338 l1 l2 l3 l4 l5 l6 l7 G Q) : Tg W0 vX6_turn_338 [rf (938), rf (l1), cI (l2), rf (l3), cI (l4), cI (l5), cI (l6), cI (l7), l8, l9] [] G (fun r G => r = 7 ∧ Q 0 G) := by
  unfold PX6_turn_338 at h
  unfold vX6_turn_338
  refine g_ld (v := cI _) rfl (is_I _) ?_
  refine g_eq1 hl7 (fun b64 => ?_) (fun b64 => ?_)
  · replace h := h.1 b64
    exact TX6_turn_350 hl2 hl4 hl5 hl6 hl7 hl8 hl9 h
  · replace h := h.2 b64
    unfold vX6_turn_343
    refine g_ld (v := rf _) rfl (is_R _) ?_
    refine g_const (v := cI (1)) rfl ?_
    refine g_ld (v := cI _) rfl (is_I _) ?_
    refine g_const (v := cI (2)) rfl ?_
    refine g_add ?_
    obtain ⟨n65, q66, h⟩ := h
    obtain ⟨q67, q68, h⟩ := h
    obtain ⟨q69, h⟩ := h
    refine g_astI q66 q67 q68 q69 (nfI q66) ?_
    replace h := h _ rfl
    exact TX6_turn_350 hl2 hl4 hl5 hl6 hl7 hl8 hl9 h
def PX6_turn_309 (l1 : Int) (l2 : Int) (l3 : Int) (l4 : Int) (l5 : Int) (l6 : Int) (l7 : Int) (l8 : Int) (l9 : Int) (G : gS) (Q : Int → gS → Prop) : Prop :=
  (isO W0 1 (l3) ∧ (((G l3 10 = -1 ∨ ∃ n, isA W0 0 n (G l3 10)) ∧ ∀ v, W0.2 l3 10 = some v → G l3 10 = v) → ((G 938 0 = -1 ∨ isO W0 11 (G 938 0)) → (isO W0 11 (G 938 0) ∧ ((0 : Int) ≤ l2 ∧ ((l2 : Int) < 64 ∧ (((G ((G 938 0) + 1) l2 = -1 ∨ isO W0 10 (G ((G 938 0) + 1) l2)) ∧ ∀ v, W0.2 ((G 938 0) + 1) l2 = some v → G ((G 938 0) + 1) l2 = v) → (isO W0 10 (G ((G 938 0) + 1) l2) ∧ (inI (G (G ((G 938 0) + 1) l2) 16) → (∃ n120, isA W0 0 n120 (G l3 10) ∧ ((0 : Int) ≤ (G (G ((G 938 0) + 1) l2) 16) + l6 ∧ (((G (G ((G 938 0) + 1) l2) 16) + l6 : Int) < n120 ∧ (inI (G (G l3 10) ((G (G ((G 938 0) + 1) l2) 16) + l6)) → PX6_useOne l1 l5 (G (G l3 10) ((G (G ((G 938 0) + 1) l2) 16) + l6)) G (fun r126 G125 => (0 ≤ r126 ∧ r126 ≤ 1) → PX6_turn_338 l1 l2 l3 l4 l5 l6 r126 G125 Q))))))))))))))
set_option maxRecDepth 20000 in
theorem TX6_turn_309 {l1 : Int} {l2 : Int} {l3 : Int} {l4 : Int} {l5 : Int} {l6 : Int} {l7 : Int} {l8 : Int} {l9 : Int} {G : gS} {Q : Int → gS → Prop} (hl2 : inI l2) (hl4 : inI l4) (hl5 : inI l5) (hl6 : inI l6) (hl7 : inI l7) (hl8 : inI l8) (hl9 : inI l9) (h : PX6_turn_309 l1 l2 l3 l4 l5 l6 l7 l8 l9 G Q) : Tg W0 vX6_turn_309 [rf (938), rf (l1), cI (l2), rf (l3), cI (l4), cI (l5), cI (l6), cI (l7), cI (l8), cI (l9)] [] G (fun r G => r = 7 ∧ Q 0 G) := by
  unfold PX6_turn_309 at h
  unfold vX6_turn_309
  refine g_ld (v := rf _) rfl (is_R _) ?_
  refine g_ld (v := rf _) rfl (is_R _) ?_
  refine g_ld (v := cI _) rfl (is_I _) ?_
  refine g_ld (v := rf _) rfl (is_R _) ?_
  obtain ⟨q111, h⟩ := h
  refine g_getAF (kz := 10) (c := 0) q111 rfl (Nat.le_of_ble_eq_true rfl) rfl fun i112 => ?_
  replace h := h i112
  refine g_ld (v := rf _) rfl (is_R _) ?_
  refine g_getR (kz := 0) (c := 11) oC6 rfl (Nat.le_of_ble_eq_true rfl) rfl (by decide) fun i113 => ?_
  replace h := h i113
  obtain ⟨q114, h⟩ := h
  refine g_getF q114 (ff11_1 q114).1 rfl (Nat.le_of_ble_eq_true rfl) (Nat.le_of_ble_eq_true rfl) ?_
  refine g_ld (v := cI _) rfl (is_I _) ?_
  obtain ⟨q115, q116, h⟩ := h
  refine g_aldRF (c := 10) (ff11_1 q114).2 q115 q116 rfl (by decide) fun i117 => ?_
  replace h := h i117
  obtain ⟨q118, h⟩ := h
  refine g_getI (kz := 16) q118 rfl (Nat.le_of_ble_eq_true rfl) rfl fun i119 => ?_
  replace h := h i119
  refine g_ld (v := cI _) rfl (is_I _) ?_
  refine g_add ?_
  obtain ⟨n120, q121, h⟩ := h
  obtain ⟨q122, q123, h⟩ := h
  refine g_aldI q121 q122 q123 rfl fun i124 => ?_
  replace h := h i124
  refine g_callV (As := [_, _, _]) (ci := 6) oC6 (fun _ => rfl) ?_
  refine g_go1 (Nat.le_of_ble_eq_true rfl) (Tn_w (TX6_useOne hl5 i124 h) fun _ G125 ⟨r126, e, i127, h⟩ => ?_)
  subst e
  refine ⟨n7_I _, ?_⟩
  replace h := h i127
  refine g_st (lv' := [_, _, _, _, _, _, _, _, _, _]) (is_I _) (Nat.le_of_ble_eq_true rfl) (Or.inr (n1_I _)) rfl ?_
  exact TX6_turn_338 hl2 hl4 hl5 hl6 ⟨by omega, by omega⟩ (n1_I _) (n1_I _) h
def PX6_turn_270 (l1 : Int) (l2 : Int) (l3 : Int) (l4 : Int) (l5 : Int) (l6 : Int) (l7 : Int) (l8 : Int) (s0 : Int) (G : gS) (Q : Int → gS → Prop) : Prop :=
  ((l8 = 0 → (isO W0 5 (939) ∧ PX5_keep 939 l2 l6 G (fun _ G100 => ((s0 < 0 → PX6_turn_309 l1 l2 l3 l4 l5 l6 l7 l8 s0 G100 Q) ∧ (¬ (s0 < 0) → PX6_ready s0 G100 (fun r104 G103 => (0 ≤ r104 ∧ r104 ≤ 1) → ((r104 = 0 → Q 0 G103) ∧ (¬ (r104 = 0) → PX6_turn_309 l1 l2 l3 l4 l5 l6 l7 l8 s0 G103 Q)))))))) ∧ (¬ (l8 = 0) → PX6_fail l8 G (fun _ G107 => Q 0 G107)))
set_option maxRecDepth 20000 in
theorem TX6_turn_270 {l1 : Int} {l2 : Int} {l3 : Int} {l4 : Int} {l5 : Int} {l6 : Int} {l7 : Int} {l8 : Int} {l9 : Nat} {s0 : Int} {G : gS} {Q : Int → gS → Prop} (hl2 : inI l2) (hl4 : inI l4) (hl5 : inI l5) (hl6 : inI l6) (hl7 : inI l7) (hl8 : inI l8) (hl9 : l9 % 8 ≠ 1) (hs0 : inI s0) (h : PX6_turn_270 l1 l2 l3 l4 l5 l6 l7 l8 s0 G Q) : Tg W0 vX6_turn_270 [rf (938), rf (l1), cI (l2), rf (l3), cI (l4), cI (l5), cI (l6), cI (l7), cI (l8), l9] [cI (s0)] G (fun r G => r = 7 ∧ Q 0 G) := by
  unfold PX6_turn_270 at h
  unfold vX6_turn_270
  refine g_st (lv' := [_, _, _, _, _, _, _, _, _, _]) (is_I _) (Nat.le_of_ble_eq_true rfl) (Or.inr (n1_I _)) rfl ?_
  refine g_ld (v := cI _) rfl (is_I _) ?_
  refine g_eq1 hl8 (fun b98 => ?_) (fun b98 => ?_)
  · replace h := h.1 b98
    unfold vX6_turn_284
    refine g_ld (v := rf _) rfl (is_R _) ?_
    refine g_getF (v := 939) oC6 (hC6_1) rfl (Nat.le_of_ble_eq_true rfl) (Nat.le_of_ble_eq_true rfl) ?_
    refine g_ld (v := cI _) rfl (is_I _) ?_
    refine g_ld (v := cI _) rfl (is_I _) ?_
    obtain ⟨q99, h⟩ := h
    refine g_callV (As := [_, _]) (ci := 5) q99 (fun _ => rfl) ?_
    refine g_go0 (Nat.le_of_ble_eq_true rfl) (Tn_w (TX5_keep hl2 hl6 h) fun _ G100 ⟨e, h⟩ => ⟨e, ?_⟩)
    refine g_ld (v := cI _) rfl (is_I _) ?_
    refine g_lt1 hs0 (fun b102 => ?_) (fun b102 => ?_)
    · replace h := h.1 b102
      exact TX6_turn_309 hl2 hl4 hl5 hl6 hl7 hl8 hs0 h
    · replace h := h.2 b102
      unfold vX6_turn_299
      refine g_ld (v := rf _) rfl (is_R _) ?_
      refine g_ld (v := cI _) rfl (is_I _) ?_
      refine g_callV (As := [_]) (ci := 6) oC6 (fun _ => rfl) ?_
      refine g_go1 (Nat.le_of_ble_eq_true rfl) (Tn_w (TX6_ready hs0 h) fun _ G103 ⟨r104, e, i105, h⟩ => ?_)
      subst e
      refine ⟨n7_I _, ?_⟩
      replace h := h i105
      refine g_eq1 ⟨by omega, by omega⟩ (fun b106 => ?_) (fun b106 => ?_)
      · replace h := h.1 b106
        unfold vX6_turn_308
        exact g_ret0 ⟨rfl, h⟩
      · replace h := h.2 b106
        exact TX6_turn_309 hl2 hl4 hl5 hl6 hl7 hl8 hs0 h
  · replace h := h.2 b98
    unfold vX6_turn_277
    refine g_ld (v := rf _) rfl (is_R _) ?_
    refine g_ld (v := cI _) rfl (is_I _) ?_
    refine g_callV (As := [_]) (ci := 6) oC6 (fun _ => rfl) ?_
    refine g_go0 (Nat.le_of_ble_eq_true rfl) (Tn_w (TX6_fail hl8 h) fun _ G107 ⟨e, h⟩ => ⟨e, ?_⟩)
    exact g_ret0 ⟨rfl, h⟩
def PX6_turn_268 (l1 : Int) (l2 : Int) (l3 : Int) (l4 : Int) (l5 : Int) (l6 : Int) (l7 : Int) (l8 : Int) (G : gS) (Q : Int → gS → Prop) : Prop :=
  PX6_turn_270 l1 l2 l3 l4 l5 l6 l7 l8 (-2) G Q
set_option maxRecDepth 20000 in
theorem TX6_turn_268 {l1 : Int} {l2 : Int} {l3 : Int} {l4 : Int} {l5 : Int} {l6 : Int} {l7 : Int} {l8 : Int} {l9 : Nat} {G : gS} {Q : Int → gS → Prop} (hl2 : inI l2) (hl4 : inI l4) (hl5 : inI l5) (hl6 : inI l6) (hl7 : inI l7) (hl8 : inI l8) (hl9 : l9 % 8 ≠ 1) (h : PX6_turn_268 l1 l2 l3 l4 l5 l6 l7 l8 G Q) : Tg W0 vX6_turn_268 [rf (938), rf (l1), cI (l2), rf (l3), cI (l4), cI (l5), cI (l6), cI (l7), cI (l8), l9] [] G (fun r G => r = 7 ∧ Q 0 G) := by
  unfold PX6_turn_268 at h
  unfold vX6_turn_268
  refine g_const (v := cI (-2)) rfl ?_
  exact TX6_turn_270 hl2 hl4 hl5 hl6 hl7 hl8 hl9 ⟨by omega, by omega⟩ h
def PX6_turn_258 (l1 : Int) (l2 : Int) (l3 : Int) (l4 : Int) (l5 : Int) (l6 : Int) (l7 : Int) (l8 : Int) (G : gS) (Q : Int → gS → Prop) : Prop :=
  (isO W0 5 (939) ∧ (inI (G 939 12) → PX6_turn_270 l1 l2 l3 l4 l5 l6 l7 l8 (G 939 12) G Q))
set_option maxRecDepth 20000 in
theorem TX6_turn_258 {l1 : Int} {l2 : Int} {l3 : Int} {l4 : Int} {l5 : Int} {l6 : Int} {l7 : Int} {l8 : Int} {l9 : Nat} {G : gS} {Q : Int → gS → Prop} (hl2 : inI l2) (hl4 : inI l4) (hl5 : inI l5) (hl6 : inI l6) (hl7 : inI l7) (hl8 : inI l8) (hl9 : l9 % 8 ≠ 1) (h : PX6_turn_258 l1 l2 l3 l4 l5 l6 l7 l8 G Q) : Tg W0 vX6_turn_258 [rf (938), rf (l1), cI (l2), rf (l3), cI (l4), cI (l5), cI (l6), cI (l7), cI (l8), l9] [] G (fun r G => r = 7 ∧ Q 0 G) := by
  unfold PX6_turn_258 at h
  unfold vX6_turn_258
  refine g_ld (v := rf _) rfl (is_R _) ?_
  refine g_getF (v := 939) oC6 (hC6_1) rfl (Nat.le_of_ble_eq_true rfl) (Nat.le_of_ble_eq_true rfl) ?_
  obtain ⟨q109, h⟩ := h
  refine g_getI (kz := 12) q109 rfl (Nat.le_of_ble_eq_true rfl) rfl fun i110 => ?_
  replace h := h i110
  exact TX6_turn_270 hl2 hl4 hl5 hl6 hl7 hl8 hl9 i110 h
def PX6_turn_195 (l1 : Int) (l2 : Int) (l3 : Int) (l4 : Int) (l5 : Int) (l6 : Int) (l7 : Int) (s0 : Int) (G : gS) (Q : Int → gS → Prop) : Prop :=
  ((l5 = 35 → (isO W0 5 (939) ∧ (inI (G 939 14) → PX6_turn_270 l1 l2 l3 l4 l5 l6 l7 s0 (G 939 14) G Q))) ∧ (¬ (l5 = 35) → ((l5 = 32 → PX6_turn_258 l1 l2 l3 l4 l5 l6 l7 s0 G Q) ∧ (¬ (l5 = 32) → ((l5 = 33 → PX6_turn_258 l1 l2 l3 l4 l5 l6 l7 s0 G Q) ∧ (¬ (l5 = 33) → ((l5 = 34 → (isO W0 5 (939) ∧ ((G 939 11 = -1 ∨ isO W0 7 (G 939 11)) → ((G 939 11 < 0 → PX6_turn_268 l1 l2 l3 l4 l5 l6 l7 s0 G Q) ∧ (0 ≤ G 939 11 → (isO W0 5 (939) ∧ ((G 939 11 = -1 ∨ isO W0 7 (G 939 11)) → (isO W0 7 (G 939 11) ∧ ((0 ≤ G (G 939 11) 2 ∧ G (G 939 11) 2 ≤ 1) → ((G (G 939 11) 2 = 0 → PX6_turn_268 l1 l2 l3 l4 l5 l6 l7 s0 G Q) ∧ (¬ (G (G 939 11) 2 = 0) → PX6_turn_258 l1 l2 l3 l4 l5 l6 l7 s0 G Q))))))))))) ∧ (¬ (l5 = 34) → PX6_turn_268 l1 l2 l3 l4 l5 l6 l7 s0 G Q))))))))
set_option maxRecDepth 20000 in
theorem TX6_turn_195 {l1 : Int} {l2 : Int} {l3 : Int} {l4 : Int} {l5 : Int} {l6 : Int} {l7 : Int} {l8 : Nat} {l9 : Nat} {s0 : Int} {G : gS} {Q : Int → gS → Prop} (hl2 : inI l2) (hl4 : inI l4) (hl5 : inI l5) (hl6 : inI l6) (hl7 : inI l7) (hl8 : l8 % 8 ≠ 1) (hl9 : l9 % 8 ≠ 1) (hs0 : inI s0) (h : PX6_turn_195 l1 l2 l3 l4 l5 l6 l7 s0 G Q) : Tg W0 vX6_turn_195 [rf (938), rf (l1), cI (l2), rf (l3), cI (l4), cI (l5), cI (l6), cI (l7), l8, l9] [cI (s0)] G (fun r G => r = 7 ∧ Q 0 G) := by
  unfold PX6_turn_195 at h
  unfold vX6_turn_195
  refine g_st (lv' := [_, _, _, _, _, _, _, _, _, _]) (is_I _) (Nat.le_of_ble_eq_true rfl) (Or.inr (n1_I _)) rfl ?_
  refine g_ld (v := cI _) rfl (is_I _) ?_
  refine g_const (v := cI (35)) rfl ?_
  refine g_eq2 hl5 ⟨by omega, by omega⟩ (fun b84 => ?_) (fun b84 => ?_)
  · replace h := h.1 b84
    unfold vX6_turn_204
    refine g_ld (v := rf _) rfl (is_R _) ?_
    refine g_getF (v := 939) oC6 (hC6_1) rfl (Nat.le_of_ble_eq_true rfl) (Nat.le_of_ble_eq_true rfl) ?_
    obtain ⟨q85, h⟩ := h
    refine g_getI (kz := 14) q85 rfl (Nat.le_of_ble_eq_true rfl) rfl fun i86 => ?_
    replace h := h i86
    exact TX6_turn_270 hl2 hl4 hl5 hl6 hl7 hs0 hl9 i86 h
  · replace h := h.2 b84
    unfold vX6_turn_214
    refine g_ld (v := cI _) rfl (is_I _) ?_
    refine g_const (v := cI (32)) rfl ?_
    refine g_eq2 hl5 ⟨by omega, by omega⟩ (fun b87 => ?_) (fun b87 => ?_)
    · replace h := h.1 b87
      exact TX6_turn_258 hl2 hl4 hl5 hl6 hl7 hs0 hl9 h
    · replace h := h.2 b87
      unfold vX6_turn_221
      refine g_ld (v := cI _) rfl (is_I _) ?_
      refine g_const (v := cI (33)) rfl ?_
      refine g_eq2 hl5 ⟨by omega, by omega⟩ (fun b88 => ?_) (fun b88 => ?_)
      · replace h := h.1 b88
        exact TX6_turn_258 hl2 hl4 hl5 hl6 hl7 hs0 hl9 h
      · replace h := h.2 b88
        unfold vX6_turn_228
        refine g_ld (v := cI _) rfl (is_I _) ?_
        refine g_const (v := cI (34)) rfl ?_
        refine g_eq2 hl5 ⟨by omega, by omega⟩ (fun b89 => ?_) (fun b89 => ?_)
        · replace h := h.1 b89
          unfold vX6_turn_235
          refine g_ld (v := rf _) rfl (is_R _) ?_
          refine g_getF (v := 939) oC6 (hC6_1) rfl (Nat.le_of_ble_eq_true rfl) (Nat.le_of_ble_eq_true rfl) ?_
          obtain ⟨q90, h⟩ := h
          refine g_getR (kz := 11) (c := 7) q90 rfl (Nat.le_of_ble_eq_true rfl) rfl (by decide) fun i91 => ?_
          replace h := h i91
          refine g_nul (fun b92 => ?_) (fun b92 => ?_)
          · replace h := h.1 b92
            exact TX6_turn_268 hl2 hl4 hl5 hl6 hl7 hs0 hl9 h
          · replace h := h.2 b92
            unfold vX6_turn_245
            refine g_ld (v := rf _) rfl (is_R _) ?_
            refine g_getF (v := 939) oC6 (hC6_1) rfl (Nat.le_of_ble_eq_true rfl) (Nat.le_of_ble_eq_true rfl) ?_
            obtain ⟨q93, h⟩ := h
            refine g_getR (kz := 11) (c := 7) q93 rfl (Nat.le_of_ble_eq_true rfl) rfl (by decide) fun i94 => ?_
            replace h := h i94
            obtain ⟨q95, h⟩ := h
            refine g_getZ (kz := 2) q95 rfl (Nat.le_of_ble_eq_true rfl) rfl fun i96 => ?_
            replace h := h i96
            refine g_eq1 ⟨by omega, by omega⟩ (fun b97 => ?_) (fun b97 => ?_)
            · replace h := h.1 b97
              exact TX6_turn_268 hl2 hl4 hl5 hl6 hl7 hs0 hl9 h
            · replace h := h.2 b97
              exact TX6_turn_258 hl2 hl4 hl5 hl6 hl7 hs0 hl9 h
        · replace h := h.2 b89
          exact TX6_turn_268 hl2 hl4 hl5 hl6 hl7 hs0 hl9 h
def PX6_turn_168 (l1 : Int) (l2 : Int) (l3 : Int) (l4 : Int) (l5 : Int) (l6 : Int) (l7 : Int) (G : gS) (Q : Int → gS → Prop) : Prop :=
  (isO W0 5 (939) ∧ PX5_recalls 939 l2 l6 G (fun r77 G76 => (0 ≤ r77 ∧ r77 ≤ 1) → ((r77 = 0 → (isO W0 5 (939) ∧ PX5_ask 939 l2 l6 G76 (fun r82 G81 => inI r82 → PX6_turn_195 l1 l2 l3 l4 l5 l6 l7 r82 G81 Q))) ∧ (¬ (r77 = 0) → PX6_turn_195 l1 l2 l3 l4 l5 l6 l7 0 G76 Q))))
set_option maxRecDepth 20000 in
theorem TX6_turn_168 {l1 : Int} {l2 : Int} {l3 : Int} {l4 : Int} {l5 : Int} {l6 : Int} {l7 : Int} {l8 : Nat} {l9 : Nat} {G : gS} {Q : Int → gS → Prop} (hl2 : inI l2) (hl4 : inI l4) (hl5 : inI l5) (hl6 : inI l6) (hl7 : inI l7) (hl8 : l8 % 8 ≠ 1) (hl9 : l9 % 8 ≠ 1) (h : PX6_turn_168 l1 l2 l3 l4 l5 l6 l7 G Q) : Tg W0 vX6_turn_168 [rf (938), rf (l1), cI (l2), rf (l3), cI (l4), cI (l5), cI (l6), cI (l7), l8, l9] [] G (fun r G => r = 7 ∧ Q 0 G) := by
  unfold PX6_turn_168 at h
  unfold vX6_turn_168
  refine g_ld (v := rf _) rfl (is_R _) ?_
  refine g_getF (v := 939) oC6 (hC6_1) rfl (Nat.le_of_ble_eq_true rfl) (Nat.le_of_ble_eq_true rfl) ?_
  refine g_ld (v := cI _) rfl (is_I _) ?_
  refine g_ld (v := cI _) rfl (is_I _) ?_
  obtain ⟨q75, h⟩ := h
  refine g_callV (As := [_, _]) (ci := 5) q75 (fun _ => rfl) ?_
  refine g_go1 (Nat.le_of_ble_eq_true rfl) (Tn_w (TX5_recalls hl2 hl6 h) fun _ G76 ⟨r77, e, i78, h⟩ => ?_)
  subst e
  refine ⟨n7_I _, ?_⟩
  replace h := h i78
  refine g_eq1 ⟨by omega, by omega⟩ (fun b79 => ?_) (fun b79 => ?_)
  · replace h := h.1 b79
    unfold vX6_turn_185
    refine g_ld (v := rf _) rfl (is_R _) ?_
    refine g_getF (v := 939) oC6 (hC6_1) rfl (Nat.le_of_ble_eq_true rfl) (Nat.le_of_ble_eq_true rfl) ?_
    refine g_ld (v := cI _) rfl (is_I _) ?_
    refine g_ld (v := cI _) rfl (is_I _) ?_
    obtain ⟨q80, h⟩ := h
    refine g_callV (As := [_, _]) (ci := 5) q80 (fun _ => rfl) ?_
    refine g_go1 (Nat.le_of_ble_eq_true rfl) (Tn_w (TX5_ask hl2 hl6 h) fun _ G81 ⟨r82, e, i83, h⟩ => ?_)
    subst e
    refine ⟨n7_I _, ?_⟩
    replace h := h i83
    exact TX6_turn_195 hl2 hl4 hl5 hl6 hl7 hl8 hl9 i83 h
  · replace h := h.2 b79
    unfold vX6_turn_181
    refine g_const (v := cI (0)) rfl ?_
    exact TX6_turn_195 hl2 hl4 hl5 hl6 hl7 hl8 hl9 ⟨by omega, by omega⟩ h
def PX6_turn_160 (l1 : Int) (l2 : Int) (l3 : Int) (l4 : Int) (l5 : Int) (l6 : Int) (l7 : Int) (G : gS) (Q : Int → gS → Prop) : Prop :=
  PX6_peek 0 G (fun r72 G71 => inI r72 → ((r72 = 0 → PX6_turn_338 l1 l2 l3 l4 l5 l6 l7 G71 Q) ∧ (¬ (r72 = 0) → PX6_turn_168 l1 l2 l3 l4 l5 l6 l7 G71 Q)))
set_option maxRecDepth 20000 in
theorem TX6_turn_160 {l1 : Int} {l2 : Int} {l3 : Int} {l4 : Int} {l5 : Int} {l6 : Int} {l7 : Int} {l8 : Nat} {l9 : Nat} {G : gS} {Q : Int → gS → Prop} (hl2 : inI l2) (hl4 : inI l4) (hl5 : inI l5) (hl6 : inI l6) (hl7 : inI l7) (hl8 : l8 % 8 ≠ 1) (hl9 : l9 % 8 ≠ 1) (h : PX6_turn_160 l1 l2 l3 l4 l5 l6 l7 G Q) : Tg W0 vX6_turn_160 [rf (938), rf (l1), cI (l2), rf (l3), cI (l4), cI (l5), cI (l6), cI (l7), l8, l9] [] G (fun r G => r = 7 ∧ Q 0 G) := by
  unfold PX6_turn_160 at h
  unfold vX6_turn_160
  refine g_ld (v := rf _) rfl (is_R _) ?_
  refine g_const (v := cI (0)) rfl ?_
  refine g_callV (As := [_]) (ci := 6) oC6 (fun _ => rfl) ?_
  refine g_go1 (Nat.le_of_ble_eq_true rfl) (Tn_w (TX6_peek ⟨by omega, by omega⟩ h) fun _ G71 ⟨r72, e, i73, h⟩ => ?_)
  subst e
  refine ⟨n7_I _, ?_⟩
  replace h := h i73
  refine g_eq1 i73 (fun b74 => ?_) (fun b74 => ?_)
  · replace h := h.1 b74
    exact TX6_turn_338 hl2 hl4 hl5 hl6 hl7 hl8 hl9 h
  · replace h := h.2 b74
    exact TX6_turn_168 hl2 hl4 hl5 hl6 hl7 hl8 hl9 h
def PX6_turn_74 (l1 : Int) (l2 : Int) (l3 : Int) (l4 : Int) (G : gS) (Q : Int → gS → Prop) : Prop :=
  PX6_fail 14 G (fun _ G62 => Q 0 G62)
set_option maxRecDepth 20000 in
theorem TX6_turn_74 {l1 : Int} {l2 : Int} {l3 : Int} {l4 : Int} {l5 : Nat} {l6 : Nat} {l7 : Nat} {l8 : Nat} {l9 : Nat} {G : gS} {Q : Int → gS → Prop} (hl2 : inI l2) (hl4 : inI l4) (hl5 : l5 % 8 ≠ 1) (hl6 : l6 % 8 ≠ 1) (hl7 : l7 % 8 ≠ 1) (hl8 : l8 % 8 ≠ 1) (hl9 : l9 % 8 ≠ 1) (h : PX6_turn_74 l1 l2 l3 l4 G Q) : Tg W0 vX6_turn_74 [rf (938), rf (l1), cI (l2), rf (l3), cI (l4), l5, l6, l7, l8, l9] [] G (fun r G => r = 7 ∧ Q 0 G) := by
  unfold PX6_turn_74 at h
  unfold vX6_turn_74
  refine g_ld (v := rf _) rfl (is_R _) ?_
  refine g_const (v := cI (14)) rfl ?_
  refine g_callV (As := [_]) (ci := 6) oC6 (fun _ => rfl) ?_
  refine g_go0 (Nat.le_of_ble_eq_true rfl) (Tn_w (TX6_fail ⟨by omega, by omega⟩ h) fun _ G62 ⟨e, h⟩ => ⟨e, ?_⟩)
  exact g_ret0 ⟨rfl, h⟩
def PX6_turn_35 (l1 : Int) (l2 : Int) (G : gS) (Q : Int → gS → Prop) : Prop :=
  Q 0 G
set_option maxRecDepth 20000 in
theorem TX6_turn_35 {l1 : Int} {l2 : Int} {l3 : Nat} {l4 : Nat} {l5 : Nat} {l6 : Nat} {l7 : Nat} {l8 : Nat} {l9 : Nat} {G : gS} {Q : Int → gS → Prop} (hl2 : inI l2) (hl3 : l3 % 8 ≠ 1) (hl4 : l4 % 8 ≠ 1) (hl5 : l5 % 8 ≠ 1) (hl6 : l6 % 8 ≠ 1) (hl7 : l7 % 8 ≠ 1) (hl8 : l8 % 8 ≠ 1) (hl9 : l9 % 8 ≠ 1) (h : PX6_turn_35 l1 l2 G Q) : Tg W0 vX6_turn_35 [rf (938), rf (l1), cI (l2), l3, l4, l5, l6, l7, l8, l9] [] G (fun r G => r = 7 ∧ Q 0 G) := by
  unfold PX6_turn_35 at h
  unfold vX6_turn_35
  exact g_ret0 ⟨rfl, h⟩
def PX6_turn_0  (G : gS) (Q : Int → gS → Prop) : Prop :=
  (inI (G 938 5) → ((0 : Int) ≤ (G 938 5) - 1 ∧ (((G 938 5) - 1 : Int) < 25 ∧ (((G 953 ((G 938 5) - 1) = -1 ∨ ∃ n, isA W0 0 n (G 953 ((G 938 5) - 1))) ∧ ∀ v, W0.2 953 ((G 938 5) - 1) = some v → G 953 ((G 938 5) - 1) = v) → (∃ n5, isA W0 0 n5 (G 953 ((G 938 5) - 1)) ∧ ((0 : Int) ≤ 6 ∧ ((6 : Int) < n5 ∧ (inI (G (G 953 ((G 938 5) - 1)) 6) → ((G (G 953 ((G 938 5) - 1)) 6 < 0 → (∃ n11, isA W0 0 n11 (G 953 ((G 938 5) - 1)) ∧ ((0 : Int) ≤ 0 ∧ ((0 : Int) < n11 ∧ (inI (G (G 953 ((G 938 5) - 1)) 0) → ((G 938 0 = -1 ∨ isO W0 11 (G 938 0)) → (isO W0 11 (G 938 0) ∧ ((0 : Int) ≤ G (G 953 ((G 938 5) - 1)) 0 ∧ ((G (G 953 ((G 938 5) - 1)) 0 : Int) < 64 ∧ (((G ((G 938 0) + 1) (G (G 953 ((G 938 5) - 1)) 0) = -1 ∨ isO W0 10 (G ((G 938 0) + 1) (G (G 953 ((G 938 5) - 1)) 0))) ∧ ∀ v, W0.2 ((G 938 0) + 1) (G (G 953 ((G 938 5) - 1)) 0) = some v → G ((G 938 0) + 1) (G (G 953 ((G 938 5) - 1)) 0) = v) → (isO W0 10 (G ((G 938 0) + 1) (G (G 953 ((G 938 5) - 1)) 0)) ∧ ((G (G ((G 938 0) + 1) (G (G 953 ((G 938 5) - 1)) 0)) 0 = -1 ∨ isO W0 1 (G (G ((G 938 0) + 1) (G (G 953 ((G 938 5) - 1)) 0)) 0)) → (∃ n23, isA W0 0 n23 (G 953 ((G 938 5) - 1)) ∧ ((0 : Int) ≤ 1 ∧ ((1 : Int) < n23 ∧ (inI (G (G 953 ((G 938 5) - 1)) 1) → ((G (G 953 ((G 938 5) - 1)) 1 < 0 → PX6_turn_74 (G 953 ((G 938 5) - 1)) (G (G 953 ((G 938 5) - 1)) 0) (G (G ((G 938 0) + 1) (G (G 953 ((G 938 5) - 1)) 0)) 0) (G (G 953 ((G 938 5) - 1)) 1) G Q) ∧ (¬ (G (G 953 ((G 938 5) - 1)) 1 < 0) → (isO W0 1 (G (G ((G 938 0) + 1) (G (G 953 ((G 938 5) - 1)) 0)) 0) ∧ (inI (G (G (G ((G 938 0) + 1) (G (G 953 ((G 938 5) - 1)) 0)) 0) 17) → (inI ((G (G 953 ((G 938 5) - 1)) 1) + 1) ∧ (((G (G 953 ((G 938 5) - 1)) 1) + 1 < G (G (G ((G 938 0) + 1) (G (G 953 ((G 938 5) - 1)) 0)) 0) 17 → (((G (G (G ((G 938 0) + 1) (G (G 953 ((G 938 5) - 1)) 0)) 0) 16 = -1 ∨ ∃ n, isA W0 0 n (G (G (G ((G 938 0) + 1) (G (G 953 ((G 938 5) - 1)) 0)) 0) 16)) ∧ ∀ v, W0.2 (G (G ((G 938 0) + 1) (G (G 953 ((G 938 5) - 1)) 0)) 0) 16 = some v → G (G (G ((G 938 0) + 1) (G (G 953 ((G 938 5) - 1)) 0)) 0) 16 = v) → (∃ n34, isA W0 0 n34 (G (G (G ((G 938 0) + 1) (G (G 953 ((G 938 5) - 1)) 0)) 0) 16) ∧ ((0 : Int) ≤ G (G 953 ((G 938 5) - 1)) 1 ∧ ((G (G 953 ((G 938 5) - 1)) 1 : Int) < n34 ∧ (inI (G (G (G (G ((G 938 0) + 1) (G (G 953 ((G 938 5) - 1)) 0)) 0) 16) (G (G 953 ((G 938 5) - 1)) 1)) → (((G (G (G ((G 938 0) + 1) (G (G 953 ((G 938 5) - 1)) 0)) 0) 16 = -1 ∨ ∃ n, isA W0 0 n (G (G (G ((G 938 0) + 1) (G (G 953 ((G 938 5) - 1)) 0)) 0) 16)) ∧ ∀ v, W0.2 (G (G ((G 938 0) + 1) (G (G 953 ((G 938 5) - 1)) 0)) 0) 16 = some v → G (G (G ((G 938 0) + 1) (G (G 953 ((G 938 5) - 1)) 0)) 0) 16 = v) → (∃ n40, isA W0 0 n40 (G (G (G ((G 938 0) + 1) (G (G 953 ((G 938 5) - 1)) 0)) 0) 16) ∧ ((0 : Int) ≤ (G (G 953 ((G 938 5) - 1)) 1) + 1 ∧ (((G (G 953 ((G 938 5) - 1)) 1) + 1 : Int) < n40 ∧ (inI (G (G (G (G ((G 938 0) + 1) (G (G 953 ((G 938 5) - 1)) 0)) 0) 16) ((G (G 953 ((G 938 5) - 1)) 1) + 1)) → ((G (G (G (G ((G 938 0) + 1) (G (G 953 ((G 938 5) - 1)) 0)) 0) 16) (G (G 953 ((G 938 5) - 1)) 1) < 12 → PX6_plainOne (G 953 ((G 938 5) - 1)) (G (G (G (G ((G 938 0) + 1) (G (G 953 ((G 938 5) - 1)) 0)) 0) 16) (G (G 953 ((G 938 5) - 1)) 1)) (G (G (G (G ((G 938 0) + 1) (G (G 953 ((G 938 5) - 1)) 0)) 0) 16) ((G (G 953 ((G 938 5) - 1)) 1) + 1)) G (fun r47 G46 => (0 ≤ r47 ∧ r47 ≤ 1) → PX6_turn_338 (G 953 ((G 938 5) - 1)) (G (G 953 ((G 938 5) - 1)) 0) (G (G ((G 938 0) + 1) (G (G 953 ((G 938 5) - 1)) 0)) 0) (G (G 953 ((G 938 5) - 1)) 1) (G (G (G (G ((G 938 0) + 1) (G (G 953 ((G 938 5) - 1)) 0)) 0) 16) (G (G 953 ((G 938 5) - 1)) 1)) (G (G (G (G ((G 938 0) + 1) (G (G 953 ((G 938 5) - 1)) 0)) 0) 16) ((G (G 953 ((G 938 5) - 1)) 1) + 1)) r47 G46 Q)) ∧ (¬ (G (G (G (G ((G 938 0) + 1) (G (G 953 ((G 938 5) - 1)) 0)) 0) 16) (G (G 953 ((G 938 5) - 1)) 1) < 12) → ((G (G (G (G ((G 938 0) + 1) (G (G 953 ((G 938 5) - 1)) 0)) 0) 16) (G (G 953 ((G 938 5) - 1)) 1) < 30 → PX6_goOne (G 953 ((G 938 5) - 1)) (G (G (G (G ((G 938 0) + 1) (G (G 953 ((G 938 5) - 1)) 0)) 0) 16) (G (G 953 ((G 938 5) - 1)) 1)) (G (G (G (G ((G 938 0) + 1) (G (G 953 ((G 938 5) - 1)) 0)) 0) 16) ((G (G 953 ((G 938 5) - 1)) 1) + 1)) G (fun r51 G50 => (0 ≤ r51 ∧ r51 ≤ 1) → PX6_turn_338 (G 953 ((G 938 5) - 1)) (G (G 953 ((G 938 5) - 1)) 0) (G (G ((G 938 0) + 1) (G (G 953 ((G 938 5) - 1)) 0)) 0) (G (G 953 ((G 938 5) - 1)) 1) (G (G (G (G ((G 938 0) + 1) (G (G 953 ((G 938 5) - 1)) 0)) 0) 16) (G (G 953 ((G 938 5) - 1)) 1)) (G (G (G (G ((G 938 0) + 1) (G (G 953 ((G 938 5) - 1)) 0)) 0) 16) ((G (G 953 ((G 938 5) - 1)) 1) + 1)) r51 G50 Q)) ∧ (¬ (G (G (G (G ((G 938 0) + 1) (G (G 953 ((G 938 5) - 1)) 0)) 0) 16) (G (G 953 ((G 938 5) - 1)) 1) < 30) → ((G (G (G (G ((G 938 0) + 1) (G (G 953 ((G 938 5) - 1)) 0)) 0) 16) (G (G 953 ((G 938 5) - 1)) 1) = 37 → PX6_turn_160 (G 953 ((G 938 5) - 1)) (G (G 953 ((G 938 5) - 1)) 0) (G (G ((G 938 0) + 1) (G (G 953 ((G 938 5) - 1)) 0)) 0) (G (G 953 ((G 938 5) - 1)) 1) (G (G (G (G ((G 938 0) + 1) (G (G 953 ((G 938 5) - 1)) 0)) 0) 16) (G (G 953 ((G 938 5) - 1)) 1)) (G (G (G (G ((G 938 0) + 1) (G (G 953 ((G 938 5) - 1)) 0)) 0) 16) ((G (G 953 ((G 938 5) - 1)) 1) + 1)) 1 G Q) ∧ (¬ (G (G (G (G ((G 938 0) + 1) (G (G 953 ((G 938 5) - 1)) 0)) 0) 16) (G (G 953 ((G 938 5) - 1)) 1) = 37) → ((G (G (G (G ((G 938 0) + 1) (G (G 953 ((G 938 5) - 1)) 0)) 0) 16) (G (G 953 ((G 938 5) - 1)) 1) = 38 → PX6_turn_160 (G 953 ((G 938 5) - 1)) (G (G 953 ((G 938 5) - 1)) 0) (G (G ((G 938 0) + 1) (G (G 953 ((G 938 5) - 1)) 0)) 0) (G (G 953 ((G 938 5) - 1)) 1) (G (G (G (G ((G 938 0) + 1) (G (G 953 ((G 938 5) - 1)) 0)) 0) 16) (G (G 953 ((G 938 5) - 1)) 1)) (G (G (G (G ((G 938 0) + 1) (G (G 953 ((G 938 5) - 1)) 0)) 0) 16) ((G (G 953 ((G 938 5) - 1)) 1) + 1)) 1 G Q) ∧ (¬ (G (G (G (G ((G 938 0) + 1) (G (G 953 ((G 938 5) - 1)) 0)) 0) 16) (G (G 953 ((G 938 5) - 1)) 1) = 38) → PX6_turn_168 (G 953 ((G 938 5) - 1)) (G (G 953 ((G 938 5) - 1)) 0) (G (G ((G 938 0) + 1) (G (G 953 ((G 938 5) - 1)) 0)) 0) (G (G 953 ((G 938 5) - 1)) 1) (G (G (G (G ((G 938 0) + 1) (G (G 953 ((G 938 5) - 1)) 0)) 0) 16) (G (G 953 ((G 938 5) - 1)) 1)) (G (G (G (G ((G 938 0) + 1) (G (G 953 ((G 938 5) - 1)) 0)) 0) 16) ((G (G 953 ((G 938 5) - 1)) 1) + 1)) 1 G Q))))))))))))))))))) ∧ (¬ ((G (G 953 ((G 938 5) - 1)) 1) + 1 < G (G (G ((G 938 0) + 1) (G (G 953 ((G 938 5) - 1)) 0)) 0) 17) → PX6_turn_74 (G 953 ((G 938 5) - 1)) (G (G 953 ((G 938 5) - 1)) 0) (G (G ((G 938 0) + 1) (G (G 953 ((G 938 5) - 1)) 0)) 0) (G (G 953 ((G 938 5) - 1)) 1) G Q))))))))))))))))))))))) ∧ (¬ (G (G 953 ((G 938 5) - 1)) 6 < 0) → PX6_nextStart (G 953 ((G 938 5) - 1)) G (fun r56 G55 => inI r56 → ((r56 < 0 → PX6_turn_35 (G 953 ((G 938 5) - 1)) r56 G55 Q) ∧ (¬ (r56 < 0) → PX6_ready r56 G55 (fun r60 G59 => (0 ≤ r60 ∧ r60 ≤ 1) → PX6_turn_35 (G 953 ((G 938 5) - 1)) r56 G59 Q))))))))))))))
set_option maxRecDepth 20000 in
theorem TX6_turn_0  {G : gS} {Q : Int → gS → Prop}  (h : PX6_turn_0  G Q) : Tg W0 vX6_turn_0 [rf (938), 7, 7, 7, 7, 7, 7, 7, 7, 7] [] G (fun r G => r = 7 ∧ Q 0 G) := by
  unfold PX6_turn_0 at h
  unfold vX6_turn_0
  refine g_ld (v := rf _) rfl (is_R _) ?_
  refine g_getF (v := 953) oC6 (hC6_4) rfl (Nat.le_of_ble_eq_true rfl) (Nat.le_of_ble_eq_true rfl) ?_
  refine g_ld (v := rf _) rfl (is_R _) ?_
  refine g_getI (kz := 5) oC6 rfl (Nat.le_of_ble_eq_true rfl) rfl fun i1 => ?_
  replace h := h i1
  refine g_const (v := cI (1)) rfl ?_
  refine g_sub ?_
  obtain ⟨q2, q3, h⟩ := h
  refine g_aldA (c := 0) aC953 q2 q3 rfl fun i4 => ?_
  replace h := h i4
  refine g_st (lv' := [_, _, _, _, _, _, _, _, _, _]) (is_R _) (Nat.le_of_ble_eq_true rfl) (Or.inr (n1_R _)) rfl ?_
  refine g_ld (v := rf _) rfl (is_R _) ?_
  refine g_const (v := cI (6)) rfl ?_
  obtain ⟨n5, q6, h⟩ := h
  obtain ⟨q7, q8, h⟩ := h
  refine g_aldI q6 q7 q8 rfl fun i9 => ?_
  replace h := h i9
  refine g_lt1 i9 (fun b10 => ?_) (fun b10 => ?_)
  · replace h := h.1 b10
    unfold vX6_turn_36
    refine g_ld (v := rf _) rfl (is_R _) ?_
    refine g_const (v := cI (0)) rfl ?_
    obtain ⟨n11, q12, h⟩ := h
    obtain ⟨q13, q14, h⟩ := h
    refine g_aldI q12 q13 q14 rfl fun i15 => ?_
    replace h := h i15
    refine g_st (lv' := [_, _, _, _, _, _, _, _, _, _]) (is_I _) (Nat.le_of_ble_eq_true rfl) (Or.inr (n1_R _)) rfl ?_
    refine g_ld (v := rf _) rfl (is_R _) ?_
    refine g_getR (kz := 0) (c := 11) oC6 rfl (Nat.le_of_ble_eq_true rfl) rfl (by decide) fun i16 => ?_
    replace h := h i16
    obtain ⟨q17, h⟩ := h
    refine g_getF q17 (ff11_1 q17).1 rfl (Nat.le_of_ble_eq_true rfl) (Nat.le_of_ble_eq_true rfl) ?_
    refine g_ld (v := cI _) rfl (is_I _) ?_
    obtain ⟨q18, q19, h⟩ := h
    refine g_aldRF (c := 10) (ff11_1 q17).2 q18 q19 rfl (by decide) fun i20 => ?_
    replace h := h i20
    obtain ⟨q21, h⟩ := h
    refine g_getR (kz := 0) (c := 1) q21 rfl (Nat.le_of_ble_eq_true rfl) rfl (by decide) fun i22 => ?_
    replace h := h i22
    refine g_st (lv' := [_, _, _, _, _, _, _, _, _, _]) (is_R _) (Nat.le_of_ble_eq_true rfl) (Or.inr (n1_I _)) rfl ?_
    refine g_ld (v := rf _) rfl (is_R _) ?_
    refine g_const (v := cI (1)) rfl ?_
    obtain ⟨n23, q24, h⟩ := h
    obtain ⟨q25, q26, h⟩ := h
    refine g_aldI q24 q25 q26 rfl fun i27 => ?_
    replace h := h i27
    refine g_st (lv' := [_, _, _, _, _, _, _, _, _, _]) (is_I _) (Nat.le_of_ble_eq_true rfl) (Or.inr (n1_R _)) rfl ?_
    refine g_ld (v := cI _) rfl (is_I _) ?_
    refine g_lt1 i27 (fun b28 => ?_) (fun b28 => ?_)
    · replace h := h.1 b28
      exact TX6_turn_74 i15 i27 (show 7 % 8 ≠ 1 by decide) (show 7 % 8 ≠ 1 by decide) (show 7 % 8 ≠ 1 by decide) (show 7 % 8 ≠ 1 by decide) (show 7 % 8 ≠ 1 by decide) h
    · replace h := h.2 b28
      unfold vX6_turn_63
      refine g_ld (v := cI _) rfl (is_I _) ?_
      refine g_const (v := cI (1)) rfl ?_
      refine g_add ?_
      refine g_ld (v := rf _) rfl (is_R _) ?_
      obtain ⟨q29, h⟩ := h
      refine g_getI (kz := 17) q29 rfl (Nat.le_of_ble_eq_true rfl) rfl fun i30 => ?_
      replace h := h i30
      obtain ⟨q31, h⟩ := h
      refine g_lt2 q31 i30 (fun b32 => ?_) (fun b32 => ?_)
      · replace h := h.1 b32
        unfold vX6_turn_81
        refine g_ld (v := rf _) rfl (is_R _) ?_
        refine g_getAF (kz := 16) (c := 0) q29 rfl (Nat.le_of_ble_eq_true rfl) rfl fun i33 => ?_
        replace h := h i33
        refine g_ld (v := cI _) rfl (is_I _) ?_
        obtain ⟨n34, q35, h⟩ := h
        obtain ⟨q36, q37, h⟩ := h
        refine g_aldI q35 q36 q37 rfl fun i38 => ?_
        replace h := h i38
        refine g_st (lv' := [_, _, _, _, _, _, _, _, _, _]) (is_I _) (Nat.le_of_ble_eq_true rfl) (Or.inr (n1_I _)) rfl ?_
        refine g_ld (v := rf _) rfl (is_R _) ?_
        refine g_getAF (kz := 16) (c := 0) q29 rfl (Nat.le_of_ble_eq_true rfl) rfl fun i39 => ?_
        replace h := h i39
        refine g_ld (v := cI _) rfl (is_I _) ?_
        refine g_const (v := cI (1)) rfl ?_
        refine g_add ?_
        obtain ⟨n40, q41, h⟩ := h
        obtain ⟨q42, q43, h⟩ := h
        refine g_aldI q41 q42 q43 rfl fun i44 => ?_
        replace h := h i44
        refine g_st (lv' := [_, _, _, _, _, _, _, _, _, _]) (is_I _) (Nat.le_of_ble_eq_true rfl) (Or.inr (n1_I _)) rfl ?_
        refine g_const (v := cI (1)) rfl ?_
        refine g_st (lv' := [_, _, _, _, _, _, _, _, _, _]) (is_I _) (Nat.le_of_ble_eq_true rfl) (Or.inr (n1_I _)) rfl ?_
        refine g_ld (v := cI _) rfl (is_I _) ?_
        refine g_const (v := cI (12)) rfl ?_
        refine g_lt2 i38 ⟨by omega, by omega⟩ (fun b45 => ?_) (fun b45 => ?_)
        · replace h := h.1 b45
          unfold vX6_turn_111
          refine g_ld (v := rf _) rfl (is_R _) ?_
          refine g_ld (v := rf _) rfl (is_R _) ?_
          refine g_ld (v := cI _) rfl (is_I _) ?_
          refine g_ld (v := cI _) rfl (is_I _) ?_
          refine g_callV (As := [_, _, _]) (ci := 6) oC6 (fun _ => rfl) ?_
          refine g_go1 (Nat.le_of_ble_eq_true rfl) (Tn_w (TX6_plainOne i38 i44 h) fun _ G46 ⟨r47, e, i48, h⟩ => ?_)
          subst e
          refine ⟨n7_I _, ?_⟩
          replace h := h i48
          refine g_st (lv' := [_, _, _, _, _, _, _, _, _, _]) (is_I _) (Nat.le_of_ble_eq_true rfl) (Or.inr (n1_I _)) rfl ?_
          exact TX6_turn_338 i15 i27 i38 i44 ⟨by omega, by omega⟩ (show 7 % 8 ≠ 1 by decide) (show 7 % 8 ≠ 1 by decide) h
        · replace h := h.2 b45
          unfold vX6_turn_125
          refine g_ld (v := cI _) rfl (is_I _) ?_
          refine g_const (v := cI (30)) rfl ?_
          refine g_lt2 i38 ⟨by omega, by omega⟩ (fun b49 => ?_) (fun b49 => ?_)
          · replace h := h.1 b49
            unfold vX6_turn_132
            refine g_ld (v := rf _) rfl (is_R _) ?_
            refine g_ld (v := rf _) rfl (is_R _) ?_
            refine g_ld (v := cI _) rfl (is_I _) ?_
            refine g_ld (v := cI _) rfl (is_I _) ?_
            refine g_callV (As := [_, _, _]) (ci := 6) oC6 (fun _ => rfl) ?_
            refine g_go1 (Nat.le_of_ble_eq_true rfl) (Tn_w (TX6_goOne i38 i44 h) fun _ G50 ⟨r51, e, i52, h⟩ => ?_)
            subst e
            refine ⟨n7_I _, ?_⟩
            replace h := h i52
            refine g_st (lv' := [_, _, _, _, _, _, _, _, _, _]) (is_I _) (Nat.le_of_ble_eq_true rfl) (Or.inr (n1_I _)) rfl ?_
            exact TX6_turn_338 i15 i27 i38 i44 ⟨by omega, by omega⟩ (show 7 % 8 ≠ 1 by decide) (show 7 % 8 ≠ 1 by decide) h
          · replace h := h.2 b49
            unfold vX6_turn_146
            refine g_ld (v := cI _) rfl (is_I _) ?_
            refine g_const (v := cI (37)) rfl ?_
            refine g_eq2 i38 ⟨by omega, by omega⟩ (fun b53 => ?_) (fun b53 => ?_)
            · replace h := h.1 b53
              exact TX6_turn_160 i15 i27 i38 i44 ⟨by omega, by omega⟩ (show 7 % 8 ≠ 1 by decide) (show 7 % 8 ≠ 1 by decide) h
            · replace h := h.2 b53
              unfold vX6_turn_153
              refine g_ld (v := cI _) rfl (is_I _) ?_
              refine g_const (v := cI (38)) rfl ?_
              refine g_eq2 i38 ⟨by omega, by omega⟩ (fun b54 => ?_) (fun b54 => ?_)
              · replace h := h.1 b54
                exact TX6_turn_160 i15 i27 i38 i44 ⟨by omega, by omega⟩ (show 7 % 8 ≠ 1 by decide) (show 7 % 8 ≠ 1 by decide) h
              · replace h := h.2 b54
                exact TX6_turn_168 i15 i27 i38 i44 ⟨by omega, by omega⟩ (show 7 % 8 ≠ 1 by decide) (show 7 % 8 ≠ 1 by decide) h
      · replace h := h.2 b32
        exact TX6_turn_74 i15 i27 (show 7 % 8 ≠ 1 by decide) (show 7 % 8 ≠ 1 by decide) (show 7 % 8 ≠ 1 by decide) (show 7 % 8 ≠ 1 by decide) (show 7 % 8 ≠ 1 by decide) h
  · replace h := h.2 b10
    unfold vX6_turn_19
    refine g_ld (v := rf _) rfl (is_R _) ?_
    refine g_ld (v := rf _) rfl (is_R _) ?_
    refine g_callV (As := [_]) (ci := 6) oC6 (fun _ => rfl) ?_
    refine g_go1 (Nat.le_of_ble_eq_true rfl) (Tn_w (TX6_nextStart  h) fun _ G55 ⟨r56, e, i57, h⟩ => ?_)
    subst e
    refine ⟨n7_I _, ?_⟩
    replace h := h i57
    refine g_st (lv' := [_, _, _, _, _, _, _, _, _, _]) (is_I _) (Nat.le_of_ble_eq_true rfl) (Or.inr (n1_R _)) rfl ?_
    refine g_ld (v := cI _) rfl (is_I _) ?_
    refine g_lt1 i57 (fun b58 => ?_) (fun b58 => ?_)
    · replace h := h.1 b58
      exact TX6_turn_35 i57 (show 7 % 8 ≠ 1 by decide) (show 7 % 8 ≠ 1 by decide) (show 7 % 8 ≠ 1 by decide) (show 7 % 8 ≠ 1 by decide) (show 7 % 8 ≠ 1 by decide) (show 7 % 8 ≠ 1 by decide) (show 7 % 8 ≠ 1 by decide) h
    · replace h := h.2 b58
      unfold vX6_turn_29
      refine g_ld (v := rf _) rfl (is_R _) ?_
      refine g_ld (v := cI _) rfl (is_I _) ?_
      refine g_callV (As := [_]) (ci := 6) oC6 (fun _ => rfl) ?_
      refine g_go1 (Nat.le_of_ble_eq_true rfl) (Tn_w (TX6_ready i57 h) fun _ G59 ⟨r60, e, i61, h⟩ => ?_)
      subst e
      refine ⟨n7_I _, ?_⟩
      replace h := h i61
      refine g_pop (ct_I _) ?_
      exact TX6_turn_35 i57 (show 7 % 8 ≠ 1 by decide) (show 7 % 8 ≠ 1 by decide) (show 7 % 8 ≠ 1 by decide) (show 7 % 8 ≠ 1 by decide) (show 7 % 8 ≠ 1 by decide) (show 7 % 8 ≠ 1 by decide) (show 7 % 8 ≠ 1 by decide) h
abbrev PX6_turn  (G : gS) (Q : Int → gS → Prop) : Prop := PX6_turn_0  G Q
theorem TX6_turn  {G : gS} {Q : Int → gS → Prop}  (h : PX6_turn  G Q) : Tn W0 FX6_turn [rf (938)] G (fun r G => r = 7 ∧ Q 0 G) := by
  unfold FX6_turn
  refine g_ent (lv' := [rf (938), 7, 7, 7, 7, 7, 7, 7, 7, 7]) (flR fl0) (Nat.le_of_ble_eq_true rfl) rfl ?_
  exact TX6_turn_0  h
def PX8_clear_0 (o : Int) (a1 : Int) (a2 : Int) (G : gS) (Q : Int → gS → Prop) : Prop :=
  (isO W0 8 (o) ∧ (∀ G2 : gS, G2 = uG G o 0 (a1) → (∀ G3 : gS, G3 = uG G2 o 1 (a2) → (∀ G4 : gS, G4 = uG G3 o 2 (a2) → (∀ G5 : gS, G5 = uG G4 o 3 (0) → (∀ G6 : gS, G6 = uG G5 o 4 (-1) → (∀ G7 : gS, G7 = uG G6 o 5 (-1) → (∀ G8 : gS, G8 = uG G7 o 6 (-1) → (∀ G9 : gS, G9 = uG G8 o 7 (-1) → (∀ G10 : gS, G10 = uG G9 o 8 (-1) → (∀ G11 : gS, G11 = uG G10 o 9 (-4) → (∀ G12 : gS, G12 = uG G11 o 10 (-4) → (∀ G13 : gS, G13 = uG G12 o 11 (-1) → Q 0 G13)))))))))))))
set_option maxRecDepth 20000 in
theorem TX8_clear_0 {o : Int} {a1 : Int} {a2 : Int} {G : gS} {Q : Int → gS → Prop} (ha1 : inI a1) (ha2 : inI a2) (h : PX8_clear_0 o a1 a2 G Q) : Tg W0 vX8_clear_0 [rf (o), cI (a1), cI (a2)] [] G (fun r G => r = 7 ∧ Q 0 G) := by
  unfold PX8_clear_0 at h
  unfold vX8_clear_0
  refine g_ld (v := rf _) rfl (is_R _) ?_
  refine g_ld (v := cI _) rfl (is_I _) ?_
  obtain ⟨q1, h⟩ := h
  refine g_putI (kz := 0) q1 rfl (Nat.le_of_ble_eq_true rfl) rfl ha1 (nf8_0 q1) ?_
  replace h := h _ rfl
  refine g_ld (v := rf _) rfl (is_R _) ?_
  refine g_ld (v := cI _) rfl (is_I _) ?_
  refine g_putI (kz := 1) q1 rfl (Nat.le_of_ble_eq_true rfl) rfl ha2 (nf8_1 q1) ?_
  replace h := h _ rfl
  refine g_ld (v := rf _) rfl (is_R _) ?_
  refine g_ld (v := cI _) rfl (is_I _) ?_
  refine g_putI (kz := 2) q1 rfl (Nat.le_of_ble_eq_true rfl) rfl ha2 (nf8_2 q1) ?_
  replace h := h _ rfl
  refine g_ld (v := rf _) rfl (is_R _) ?_
  refine g_const (v := cI (0)) rfl ?_
  refine g_putI (kz := 3) q1 rfl (Nat.le_of_ble_eq_true rfl) rfl ⟨by omega, by omega⟩ (nf8_3 q1) ?_
  replace h := h _ rfl
  refine g_ld (v := rf _) rfl (is_R _) ?_
  refine g_const (v := cI (-1)) rfl ?_
  refine g_putI (kz := 4) q1 rfl (Nat.le_of_ble_eq_true rfl) rfl ⟨by omega, by omega⟩ (nf8_4 q1) ?_
  replace h := h _ rfl
  refine g_ld (v := rf _) rfl (is_R _) ?_
  refine g_const (v := rf (-1)) rfl ?_
  refine g_putR (kz := 5) (c := 8) q1 rfl (Nat.le_of_ble_eq_true rfl) rfl (by decide) (Or.inl rfl) (nf8_5 q1) ?_
  replace h := h _ rfl
  refine g_ld (v := rf _) rfl (is_R _) ?_
  refine g_const (v := rf (-1)) rfl ?_
  refine g_putR (kz := 6) (c := 8) q1 rfl (Nat.le_of_ble_eq_true rfl) rfl (by decide) (Or.inl rfl) (nf8_6 q1) ?_
  replace h := h _ rfl
  refine g_ld (v := rf _) rfl (is_R _) ?_
  refine g_const (v := rf (-1)) rfl ?_
  refine g_putR (kz := 7) (c := 8) q1 rfl (Nat.le_of_ble_eq_true rfl) rfl (by decide) (Or.inl rfl) (nf8_7 q1) ?_
  replace h := h _ rfl
  unfold vX8_clear_40
  refine g_ld (v := rf _) rfl (is_R _) ?_
  refine g_const (v := rf (-1)) rfl ?_
  refine g_putR (kz := 8) (c := 8) q1 rfl (Nat.le_of_ble_eq_true rfl) rfl (by decide) (Or.inl rfl) (nf8_8 q1) ?_
  replace h := h _ rfl
  refine g_ld (v := rf _) rfl (is_R _) ?_
  refine g_const (v := cL (-4)) rfl ?_
  refine g_putL (kz := 9) q1 rfl (Nat.le_of_ble_eq_true rfl) rfl ⟨by omega, by omega⟩ (nf8_9 q1) ?_
  replace h := h _ rfl
  refine g_ld (v := rf _) rfl (is_R _) ?_
  refine g_const (v := cL (-4)) rfl ?_
  refine g_putL (kz := 10) q1 rfl (Nat.le_of_ble_eq_true rfl) rfl ⟨by omega, by omega⟩ (nf8_10 q1) ?_
  replace h := h _ rfl
  refine g_ld (v := rf _) rfl (is_R _) ?_
  refine g_const (v := rf (-1)) rfl ?_
  refine g_putR (kz := 11) (c := 7) q1 rfl (Nat.le_of_ble_eq_true rfl) rfl (by decide) (Or.inl rfl) (nf8_11 q1) ?_
  replace h := h _ rfl
  exact g_ret0 ⟨rfl, h⟩
abbrev PX8_clear (o : Int) (a1 : Int) (a2 : Int) (G : gS) (Q : Int → gS → Prop) : Prop := PX8_clear_0 o a1 a2 G Q
theorem TX8_clear {o : Int} {a1 : Int} {a2 : Int} {G : gS} {Q : Int → gS → Prop} (ha1 : inI a1) (ha2 : inI a2) (h : PX8_clear o a1 a2 G Q) : Tn W0 FX8_clear [rf (o), cI (a1), cI (a2)] G (fun r G => r = 7 ∧ Q 0 G) := by
  unfold FX8_clear
  refine g_ent (lv' := [rf (o), cI (a1), cI (a2)]) (flR (flI (flI fl0))) (Nat.le_of_ble_eq_true rfl) rfl ?_
  exact TX8_clear_0 ha1 ha2 h
def PX9_sixBits_65 (l0 : Int) (s0 : Int) (G : gS) (Q : Int → gS → Prop) : Prop :=
  Q (s0) G
set_option maxRecDepth 20000 in
theorem TX9_sixBits_65 {l0 : Int} {s0 : Int} {G : gS} {Q : Int → gS → Prop} (hl0 : inI l0) (hs0 : inL s0) (h : PX9_sixBits_65 l0 s0 G Q) : Tg W0 vX9_sixBits_65 [cI (l0)] [cL (s0)] G (fun r G => ∃ v, r = cL v ∧ inL v ∧ Q v G) := by
  unfold PX9_sixBits_65 at h
  unfold vX9_sixBits_65
  exact g_ret1 (is_L _) ⟨_, rfl, hs0, h⟩
def PX9_sixBits_64 (l0 : Int) (G : gS) (Q : Int → gS → Prop) : Prop :=
  PX9_sixBits_65 l0 0 G Q
set_option maxRecDepth 20000 in
theorem TX9_sixBits_64 {l0 : Int} {G : gS} {Q : Int → gS → Prop} (hl0 : inI l0) (h : PX9_sixBits_64 l0 G Q) : Tg W0 vX9_sixBits_64 [cI (l0)] [] G (fun r G => ∃ v, r = cL v ∧ inL v ∧ Q v G) := by
  unfold PX9_sixBits_64 at h
  unfold vX9_sixBits_64
  refine g_const (v := cL (0)) rfl ?_
  exact TX9_sixBits_65 hl0 ⟨by omega, by omega⟩ h
def PX9_sixBits_41 (l0 : Int) (G : gS) (Q : Int → gS → Prop) : Prop :=
  ((l0 < 48 → PX9_sixBits_64 l0 G Q) ∧ (¬ (l0 < 48) → ((57 < l0 → PX9_sixBits_64 l0 G Q) ∧ (¬ (57 < l0) → (inI ((l0 - 48) + 53) ∧ PX9_sixBits_65 l0 ((l0 - 48) + 53) G Q)))))
set_option maxRecDepth 20000 in
theorem TX9_sixBits_41 {l0 : Int} {G : gS} {Q : Int → gS → Prop} (hl0 : inI l0) (h : PX9_sixBits_41 l0 G Q) : Tg W0 vX9_sixBits_41 [cI (l0)] [] G (fun r G => ∃ v, r = cL v ∧ inL v ∧ Q v G) := by
  unfold PX9_sixBits_41 at h
  unfold vX9_sixBits_41
  refine g_ld (v := cI _) rfl (is_I _) ?_
  refine g_const (v := cI (48)) rfl ?_
  refine g_lt2 hl0 ⟨by omega, by omega⟩ (fun b7 => ?_) (fun b7 => ?_)
  · replace h := h.1 b7
    exact TX9_sixBits_64 hl0 h
  · replace h := h.2 b7
    unfold vX9_sixBits_47
    refine g_ld (v := cI _) rfl (is_I _) ?_
    refine g_const (v := cI (57)) rfl ?_
    refine g_gt2 hl0 ⟨by omega, by omega⟩ (fun b8 => ?_) (fun b8 => ?_)
    · replace h := h.1 b8
      exact TX9_sixBits_64 hl0 h
    · replace h := h.2 b8
      unfold vX9_sixBits_53
      refine g_ld (v := cI _) rfl (is_I _) ?_
      refine g_const (v := cI (48)) rfl ?_
      refine g_sub ?_
      refine g_const (v := cI (53)) rfl ?_
      refine g_add ?_
      obtain ⟨q9, h⟩ := h
      refine g_i2l q9 ?_
      exact TX9_sixBits_65 hl0 (inL_I q9) h
def PX9_sixBits_20 (l0 : Int) (G : gS) (Q : Int → gS → Prop) : Prop :=
  ((l0 < 65 → PX9_sixBits_41 l0 G Q) ∧ (¬ (l0 < 65) → ((90 < l0 → PX9_sixBits_41 l0 G Q) ∧ (¬ (90 < l0) → (inI ((l0 - 65) + 27) ∧ Q ((l0 - 65) + 27) G)))))
set_option maxRecDepth 20000 in
theorem TX9_sixBits_20 {l0 : Int} {G : gS} {Q : Int → gS → Prop} (hl0 : inI l0) (h : PX9_sixBits_20 l0 G Q) : Tg W0 vX9_sixBits_20 [cI (l0)] [] G (fun r G => ∃ v, r = cL v ∧ inL v ∧ Q v G) := by
  unfold PX9_sixBits_20 at h
  unfold vX9_sixBits_20
  refine g_ld (v := cI _) rfl (is_I _) ?_
  refine g_const (v := cI (65)) rfl ?_
  refine g_lt2 hl0 ⟨by omega, by omega⟩ (fun b4 => ?_) (fun b4 => ?_)
  · replace h := h.1 b4
    exact TX9_sixBits_41 hl0 h
  · replace h := h.2 b4
    unfold vX9_sixBits_26
    refine g_ld (v := cI _) rfl (is_I _) ?_
    refine g_const (v := cI (90)) rfl ?_
    refine g_gt2 hl0 ⟨by omega, by omega⟩ (fun b5 => ?_) (fun b5 => ?_)
    · replace h := h.1 b5
      exact TX9_sixBits_41 hl0 h
    · replace h := h.2 b5
      unfold vX9_sixBits_32
      refine g_ld (v := cI _) rfl (is_I _) ?_
      refine g_const (v := cI (65)) rfl ?_
      refine g_sub ?_
      refine g_const (v := cI (27)) rfl ?_
      refine g_add ?_
      obtain ⟨q6, h⟩ := h
      refine g_i2l q6 ?_
      exact g_ret1 (is_L _) ⟨_, rfl, (inL_I q6), h⟩
def PX9_sixBits_0 (a0 : Int) (G : gS) (Q : Int → gS → Prop) : Prop :=
  ((a0 < 97 → PX9_sixBits_20 a0 G Q) ∧ (¬ (a0 < 97) → ((122 < a0 → PX9_sixBits_20 a0 G Q) ∧ (¬ (122 < a0) → (inI ((a0 - 97) + 1) ∧ Q ((a0 - 97) + 1) G)))))
set_option maxRecDepth 20000 in
theorem TX9_sixBits_0 {a0 : Int} {G : gS} {Q : Int → gS → Prop} (ha0 : inI a0) (h : PX9_sixBits_0 a0 G Q) : Tg W0 vX9_sixBits_0 [cI (a0)] [] G (fun r G => ∃ v, r = cL v ∧ inL v ∧ Q v G) := by
  unfold PX9_sixBits_0 at h
  unfold vX9_sixBits_0
  refine g_ld (v := cI _) rfl (is_I _) ?_
  refine g_const (v := cI (97)) rfl ?_
  refine g_lt2 ha0 ⟨by omega, by omega⟩ (fun b1 => ?_) (fun b1 => ?_)
  · replace h := h.1 b1
    exact TX9_sixBits_20 ha0 h
  · replace h := h.2 b1
    unfold vX9_sixBits_6
    refine g_ld (v := cI _) rfl (is_I _) ?_
    refine g_const (v := cI (122)) rfl ?_
    refine g_gt2 ha0 ⟨by omega, by omega⟩ (fun b2 => ?_) (fun b2 => ?_)
    · replace h := h.1 b2
      exact TX9_sixBits_20 ha0 h
    · replace h := h.2 b2
      unfold vX9_sixBits_12
      refine g_ld (v := cI _) rfl (is_I _) ?_
      refine g_const (v := cI (97)) rfl ?_
      refine g_sub ?_
      refine g_const (v := cI (1)) rfl ?_
      refine g_add ?_
      obtain ⟨q3, h⟩ := h
      refine g_i2l q3 ?_
      exact g_ret1 (is_L _) ⟨_, rfl, (inL_I q3), h⟩
abbrev PX9_sixBits (a0 : Int) (G : gS) (Q : Int → gS → Prop) : Prop := PX9_sixBits_0 a0 G Q
theorem TX9_sixBits {a0 : Int} {G : gS} {Q : Int → gS → Prop} (ha0 : inI a0) (h : PX9_sixBits a0 G Q) : Tn W0 FX9_sixBits [cI (a0)] G (fun r G => ∃ v, r = cL v ∧ inL v ∧ Q v G) := by
  unfold FX9_sixBits
  refine g_ent (lv' := [cI (a0)]) (flI fl0) (Nat.le_of_ble_eq_true rfl) rfl ?_
  exact TX9_sixBits_0 ha0 h
def PX9_miss_48  (G : gS) (Q : Int → gS → Prop) : Prop :=
  Q (0) G
set_option maxRecDepth 20000 in
theorem TX9_miss_48  {G : gS} {Q : Int → gS → Prop}  (h : PX9_miss_48  G Q) : Tg W0 vX9_miss_48 [rf (7)] [] G (fun r G => ∃ v, r = cI v ∧ (0 ≤ v ∧ v ≤ 1) ∧ Q v G) := by
  unfold PX9_miss_48 at h
  unfold vX9_miss_48
  refine g_const (v := cI (0)) rfl ?_
  exact g_ret1 (is_Z (by omega)) ⟨_, rfl, (by omega), h⟩
def PX9_miss_37 (s0 : Int) (s1 : Int) (G : gS) (Q : Int → gS → Prop) : Prop :=
  (isO W0 9 (s0) ∧ (∀ G12 : gS, G12 = uG G s0 9 (s1) → (inI (G12 7 8) → (∀ G14 : gS, G14 = uG G12 7 10 (G12 7 8) → PX9_miss_48  G14 Q))))
set_option maxRecDepth 20000 in
theorem TX9_miss_37 {s0 : Int} {s1 : Int} {G : gS} {Q : Int → gS → Prop} (hs1 : inI s1) (h : PX9_miss_37 s0 s1 G Q) : Tg W0 vX9_miss_37 [rf (7)] [cI (s1), rf (s0)] G (fun r G => ∃ v, r = cI v ∧ (0 ≤ v ∧ v ≤ 1) ∧ Q v G) := by
  unfold PX9_miss_37 at h
  unfold vX9_miss_37
  obtain ⟨q11, h⟩ := h
  refine g_putI (kz := 9) q11 rfl (Nat.le_of_ble_eq_true rfl) rfl hs1 (by rw [one9 q11]; exact zfin_no (c := 7) (j := 9) rfl) ?_
  replace h := h _ rfl
  refine g_ld (v := rf _) rfl (is_R _) ?_
  refine g_ld (v := rf _) rfl (is_R _) ?_
  refine g_getI (kz := 8) oC9 rfl (Nat.le_of_ble_eq_true rfl) rfl fun i13 => ?_
  replace h := h i13
  refine g_putI (kz := 10) oC9 rfl (Nat.le_of_ble_eq_true rfl) rfl i13 (zfin_no (c := 7) (j := 10) rfl) ?_
  replace h := h _ rfl
  exact TX9_miss_48  h
def PX9_miss_36 (s0 : Int) (G : gS) (Q : Int → gS → Prop) : Prop :=
  PX9_miss_37 s0 2 G Q
set_option maxRecDepth 20000 in
theorem TX9_miss_36 {s0 : Int} {G : gS} {Q : Int → gS → Prop}  (h : PX9_miss_36 s0 G Q) : Tg W0 vX9_miss_36 [rf (7)] [rf (s0)] G (fun r G => ∃ v, r = cI v ∧ (0 ≤ v ∧ v ≤ 1) ∧ Q v G) := by
  unfold PX9_miss_36 at h
  unfold vX9_miss_36
  refine g_const (v := cI (2)) rfl ?_
  exact TX9_miss_37 ⟨by omega, by omega⟩ h
def PX9_miss_0  (G : gS) (Q : Int → gS → Prop) : Prop :=
  (inI (G 7 9) → ((G 7 9 = 0 → (inI (G 7 8) → (inI (G 7 5) → ((G 7 5 < G 7 8 → PX9_miss_36 7 G Q) ∧ (¬ (G 7 5 < G 7 8) → (inI (G 7 8) → ((0 : Int) ≤ G 7 8 ∧ ((G 7 8 : Int) < 704 ∧ (inI (G 9 (G 7 8)) → ((G 9 (G 7 8) = 1 → PX9_miss_37 7 1 G Q) ∧ (¬ (G 9 (G 7 8) = 1) → PX9_miss_36 7 G Q))))))))))) ∧ (¬ (G 7 9 = 0) → PX9_miss_48  G Q)))
set_option maxRecDepth 20000 in
theorem TX9_miss_0  {G : gS} {Q : Int → gS → Prop}  (h : PX9_miss_0  G Q) : Tg W0 vX9_miss_0 [rf (7)] [] G (fun r G => ∃ v, r = cI v ∧ (0 ≤ v ∧ v ≤ 1) ∧ Q v G) := by
  unfold PX9_miss_0 at h
  unfold vX9_miss_0
  refine g_ld (v := rf _) rfl (is_R _) ?_
  refine g_getI (kz := 9) oC9 rfl (Nat.le_of_ble_eq_true rfl) rfl fun i1 => ?_
  replace h := h i1
  refine g_eq1 i1 (fun b2 => ?_) (fun b2 => ?_)
  · replace h := h.1 b2
    unfold vX9_miss_7
    refine g_ld (v := rf _) rfl (is_R _) ?_
    refine g_ld (v := rf _) rfl (is_R _) ?_
    refine g_getI (kz := 8) oC9 rfl (Nat.le_of_ble_eq_true rfl) rfl fun i3 => ?_
    replace h := h i3
    refine g_ld (v := rf _) rfl (is_R _) ?_
    refine g_getI (kz := 5) oC9 rfl (Nat.le_of_ble_eq_true rfl) rfl fun i4 => ?_
    replace h := h i4
    refine g_gt2 i3 i4 (fun b5 => ?_) (fun b5 => ?_)
    · replace h := h.1 b5
      exact TX9_miss_36  h
    · replace h := h.2 b5
      unfold vX9_miss_19
      refine g_ld (v := rf _) rfl (is_R _) ?_
      refine g_getF (v := 9) oC9 (hC9_1) rfl (Nat.le_of_ble_eq_true rfl) (Nat.le_of_ble_eq_true rfl) ?_
      refine g_ld (v := rf _) rfl (is_R _) ?_
      refine g_getI (kz := 8) oC9 rfl (Nat.le_of_ble_eq_true rfl) rfl fun i6 => ?_
      replace h := h i6
      obtain ⟨q7, q8, h⟩ := h
      refine g_aldI aC9 q7 q8 rfl fun i9 => ?_
      replace h := h i9
      refine g_const (v := cI (1)) rfl ?_
      refine g_eq2 i9 ⟨by omega, by omega⟩ (fun b10 => ?_) (fun b10 => ?_)
      · replace h := h.1 b10
        unfold vX9_miss_32
        refine g_const (v := cI (1)) rfl ?_
        exact TX9_miss_37 ⟨by omega, by omega⟩ h
      · replace h := h.2 b10
        exact TX9_miss_36  h
  · replace h := h.2 b2
    exact TX9_miss_48  h
abbrev PX9_miss  (G : gS) (Q : Int → gS → Prop) : Prop := PX9_miss_0  G Q
theorem TX9_miss  {G : gS} {Q : Int → gS → Prop}  (h : PX9_miss  G Q) : Tn W0 FX9_miss [rf (7)] G (fun r G => ∃ v, r = cI v ∧ (0 ≤ v ∧ v ≤ 1) ∧ Q v G) := by
  unfold FX9_miss
  refine g_ent (lv' := [rf (7)]) (flR fl0) (Nat.le_of_ble_eq_true rfl) rfl ?_
  exact TX9_miss_0  h
def PX9_stop_20 (l1 : Int) (G : gS) (Q : Int → gS → Prop) : Prop :=
  Q (0) G
set_option maxRecDepth 20000 in
theorem TX9_stop_20 {l1 : Int} {G : gS} {Q : Int → gS → Prop} (hl1 : inI l1) (h : PX9_stop_20 l1 G Q) : Tg W0 vX9_stop_20 [rf (7), cI (l1)] [] G (fun r G => ∃ v, r = cI v ∧ (0 ≤ v ∧ v ≤ 1) ∧ Q v G) := by
  unfold PX9_stop_20 at h
  unfold vX9_stop_20
  refine g_const (v := cI (0)) rfl ?_
  exact g_ret1 (is_Z (by omega)) ⟨_, rfl, (by omega), h⟩
def PX9_stop_0 (a1 : Int) (G : gS) (Q : Int → gS → Prop) : Prop :=
  (inI (G 7 9) → ((G 7 9 = 0 → (∀ G3 : gS, G3 = uG G 7 9 (a1) → (inI (G3 7 8) → (∀ G5 : gS, G5 = uG G3 7 10 (G3 7 8) → PX9_stop_20 a1 G5 Q)))) ∧ (¬ (G 7 9 = 0) → PX9_stop_20 a1 G Q)))
set_option maxRecDepth 20000 in
theorem TX9_stop_0 {a1 : Int} {G : gS} {Q : Int → gS → Prop} (ha1 : inI a1) (h : PX9_stop_0 a1 G Q) : Tg W0 vX9_stop_0 [rf (7), cI (a1)] [] G (fun r G => ∃ v, r = cI v ∧ (0 ≤ v ∧ v ≤ 1) ∧ Q v G) := by
  unfold PX9_stop_0 at h
  unfold vX9_stop_0
  refine g_ld (v := rf _) rfl (is_R _) ?_
  refine g_getI (kz := 9) oC9 rfl (Nat.le_of_ble_eq_true rfl) rfl fun i1 => ?_
  replace h := h i1
  refine g_eq1 i1 (fun b2 => ?_) (fun b2 => ?_)
  · replace h := h.1 b2
    unfold vX9_stop_7
    refine g_ld (v := rf _) rfl (is_R _) ?_
    refine g_ld (v := cI _) rfl (is_I _) ?_
    refine g_putI (kz := 9) oC9 rfl (Nat.le_of_ble_eq_true rfl) rfl ha1 (zfin_no (c := 7) (j := 9) rfl) ?_
    replace h := h _ rfl
    refine g_ld (v := rf _) rfl (is_R _) ?_
    refine g_ld (v := rf _) rfl (is_R _) ?_
    refine g_getI (kz := 8) oC9 rfl (Nat.le_of_ble_eq_true rfl) rfl fun i4 => ?_
    replace h := h i4
    refine g_putI (kz := 10) oC9 rfl (Nat.le_of_ble_eq_true rfl) rfl i4 (zfin_no (c := 7) (j := 10) rfl) ?_
    replace h := h _ rfl
    exact TX9_stop_20 ha1 h
  · replace h := h.2 b2
    exact TX9_stop_20 ha1 h
abbrev PX9_stop (a1 : Int) (G : gS) (Q : Int → gS → Prop) : Prop := PX9_stop_0 a1 G Q
theorem TX9_stop {a1 : Int} {G : gS} {Q : Int → gS → Prop} (ha1 : inI a1) (h : PX9_stop a1 G Q) : Tn W0 FX9_stop [rf (7), cI (a1)] G (fun r G => ∃ v, r = cI v ∧ (0 ≤ v ∧ v ≤ 1) ∧ Q v G) := by
  unfold FX9_stop
  refine g_ent (lv' := [rf (7), cI (a1)]) (flR (flI fl0)) (Nat.le_of_ble_eq_true rfl) rfl ?_
  exact TX9_stop_0 ha1 h
def PX9_need_24 (l1 : Int) (G : gS) (Q : Int → gS → Prop) : Prop :=
  PX9_miss G (fun r18 G17 => (0 ≤ r18 ∧ r18 ≤ 1) → Q (r18) G17)
set_option maxRecDepth 20000 in
theorem TX9_need_24 {l1 : Int} {G : gS} {Q : Int → gS → Prop} (hl1 : inI l1) (h : PX9_need_24 l1 G Q) : Tg W0 vX9_need_24 [rf (7), cI (l1)] [] G (fun r G => ∃ v, r = cI v ∧ (0 ≤ v ∧ v ≤ 1) ∧ Q v G) := by
  unfold PX9_need_24 at h
  unfold vX9_need_24
  refine g_ld (v := rf _) rfl (is_R _) ?_
  refine g_callV (As := []) (ci := 9) oC9 (fun _ => rfl) ?_
  refine g_go1 (Nat.le_of_ble_eq_true rfl) (Tn_w (TX9_miss  h) fun _ G17 ⟨r18, e, i19, h⟩ => ?_)
  subst e
  refine ⟨n7_I _, ?_⟩
  replace h := h i19
  exact g_ret1 (is_Z i19) ⟨_, rfl, i19, h⟩
def PX9_need_0 (a1 : Int) (G : gS) (Q : Int → gS → Prop) : Prop :=
  (inI (G 7 8) → (inI (G 7 5) → ((G 7 5 < G 7 8 → PX9_need_24 a1 G Q) ∧ (¬ (G 7 5 < G 7 8) → (inI (G 7 8) → ((0 : Int) ≤ G 7 8 ∧ ((G 7 8 : Int) < 704 ∧ (inI (G 9 (G 7 8)) → ((G 9 (G 7 8) = a1 → (inI (G 7 8) → ((G 7 8 < 700 → (inI (G 7 8) → (inI ((G 7 8) + 1) ∧ (∀ G13 : gS, G13 = uG G 7 8 ((G 7 8) + 1) → Q (1) G13)))) ∧ (¬ (G 7 8 < 700) → PX9_stop 3 G (fun r15 G14 => (0 ≤ r15 ∧ r15 ≤ 1) → Q (r15) G14))))) ∧ (¬ (G 9 (G 7 8) = a1) → PX9_need_24 a1 G Q))))))))))
set_option maxRecDepth 20000 in
theorem TX9_need_0 {a1 : Int} {G : gS} {Q : Int → gS → Prop} (ha1 : inI a1) (h : PX9_need_0 a1 G Q) : Tg W0 vX9_need_0 [rf (7), cI (a1)] [] G (fun r G => ∃ v, r = cI v ∧ (0 ≤ v ∧ v ≤ 1) ∧ Q v G) := by
  unfold PX9_need_0 at h
  unfold vX9_need_0
  refine g_ld (v := rf _) rfl (is_R _) ?_
  refine g_getI (kz := 8) oC9 rfl (Nat.le_of_ble_eq_true rfl) rfl fun i1 => ?_
  replace h := h i1
  refine g_ld (v := rf _) rfl (is_R _) ?_
  refine g_getI (kz := 5) oC9 rfl (Nat.le_of_ble_eq_true rfl) rfl fun i2 => ?_
  replace h := h i2
  refine g_gt2 i1 i2 (fun b3 => ?_) (fun b3 => ?_)
  · replace h := h.1 b3
    exact TX9_need_24 ha1 h
  · replace h := h.2 b3
    unfold vX9_need_11
    refine g_ld (v := rf _) rfl (is_R _) ?_
    refine g_getF (v := 9) oC9 (hC9_1) rfl (Nat.le_of_ble_eq_true rfl) (Nat.le_of_ble_eq_true rfl) ?_
    refine g_ld (v := rf _) rfl (is_R _) ?_
    refine g_getI (kz := 8) oC9 rfl (Nat.le_of_ble_eq_true rfl) rfl fun i4 => ?_
    replace h := h i4
    obtain ⟨q5, q6, h⟩ := h
    refine g_aldI aC9 q5 q6 rfl fun i7 => ?_
    replace h := h i7
    refine g_ld (v := cI _) rfl (is_I _) ?_
    refine g_eq2 i7 ha1 (fun b8 => ?_) (fun b8 => ?_)
    · replace h := h.1 b8
      unfold vX9_need_29
      refine g_ld (v := rf _) rfl (is_R _) ?_
      refine g_getI (kz := 8) oC9 rfl (Nat.le_of_ble_eq_true rfl) rfl fun i9 => ?_
      replace h := h i9
      refine g_const (v := cI (700)) rfl ?_
      refine g_lt2 i9 ⟨by omega, by omega⟩ (fun b10 => ?_) (fun b10 => ?_)
      · replace h := h.1 b10
        unfold vX9_need_45
        refine g_ld (v := rf _) rfl (is_R _) ?_
        refine g_dup (ct_R _) ?_
        refine g_getI (kz := 8) oC9 rfl (Nat.le_of_ble_eq_true rfl) rfl fun i11 => ?_
        replace h := h i11
        refine g_const (v := cI (1)) rfl ?_
        refine g_add ?_
        obtain ⟨q12, h⟩ := h
        refine g_putI (kz := 8) oC9 rfl (Nat.le_of_ble_eq_true rfl) rfl q12 (zfin_no (c := 7) (j := 8) rfl) ?_
        replace h := h _ rfl
        refine g_const (v := cI (1)) rfl ?_
        exact g_ret1 (is_Z (by omega)) ⟨_, rfl, (by omega), h⟩
      · replace h := h.2 b10
        unfold vX9_need_39
        refine g_ld (v := rf _) rfl (is_R _) ?_
        refine g_const (v := cI (3)) rfl ?_
        refine g_callV (As := [_]) (ci := 9) oC9 (fun _ => rfl) ?_
        refine g_go1 (Nat.le_of_ble_eq_true rfl) (Tn_w (TX9_stop ⟨by omega, by omega⟩ h) fun _ G14 ⟨r15, e, i16, h⟩ => ?_)
        subst e
        refine ⟨n7_I _, ?_⟩
        replace h := h i16
        exact g_ret1 (is_Z i16) ⟨_, rfl, i16, h⟩
    · replace h := h.2 b8
      exact TX9_need_24 ha1 h
abbrev PX9_need (a1 : Int) (G : gS) (Q : Int → gS → Prop) : Prop := PX9_need_0 a1 G Q
theorem TX9_need {a1 : Int} {G : gS} {Q : Int → gS → Prop} (ha1 : inI a1) (h : PX9_need a1 G Q) : Tn W0 FX9_need [rf (7), cI (a1)] G (fun r G => ∃ v, r = cI v ∧ (0 ≤ v ∧ v ≤ 1) ∧ Q v G) := by
  unfold FX9_need
  refine g_ent (lv' := [rf (7), cI (a1)]) (flR (flI fl0)) (Nat.le_of_ble_eq_true rfl) rfl ?_
  exact TX9_need_0 ha1 h
def PX9_now_24 (s0 : Int) (G : gS) (Q : Int → gS → Prop) : Prop :=
  Q (s0) G
set_option maxRecDepth 20000 in
theorem TX9_now_24 {s0 : Int} {G : gS} {Q : Int → gS → Prop} (hs0 : inI s0) (h : PX9_now_24 s0 G Q) : Tg W0 vX9_now_24 [rf (7)] [cI (s0)] G (fun r G => ∃ v, r = cI v ∧ inI v ∧ Q v G) := by
  unfold PX9_now_24 at h
  unfold vX9_now_24
  exact g_ret1 (is_I _) ⟨_, rfl, hs0, h⟩
def PX9_now_0  (G : gS) (Q : Int → gS → Prop) : Prop :=
  (inI (G 7 8) → (inI (G 7 5) → ((G 7 5 < G 7 8 → PX9_now_24 0 G Q) ∧ (¬ (G 7 5 < G 7 8) → (inI (G 7 8) → ((0 : Int) ≤ G 7 8 ∧ ((G 7 8 : Int) < 704 ∧ (inI (G 9 (G 7 8)) → PX9_now_24 (G 9 (G 7 8)) G Q))))))))
set_option maxRecDepth 20000 in
theorem TX9_now_0  {G : gS} {Q : Int → gS → Prop}  (h : PX9_now_0  G Q) : Tg W0 vX9_now_0 [rf (7)] [] G (fun r G => ∃ v, r = cI v ∧ inI v ∧ Q v G) := by
  unfold PX9_now_0 at h
  unfold vX9_now_0
  refine g_ld (v := rf _) rfl (is_R _) ?_
  refine g_getI (kz := 8) oC9 rfl (Nat.le_of_ble_eq_true rfl) rfl fun i1 => ?_
  replace h := h i1
  refine g_ld (v := rf _) rfl (is_R _) ?_
  refine g_getI (kz := 5) oC9 rfl (Nat.le_of_ble_eq_true rfl) rfl fun i2 => ?_
  replace h := h i2
  refine g_gt2 i1 i2 (fun b3 => ?_) (fun b3 => ?_)
  · replace h := h.1 b3
    unfold vX9_now_23
    refine g_const (v := cI (0)) rfl ?_
    exact TX9_now_24 ⟨by omega, by omega⟩ h
  · replace h := h.2 b3
    unfold vX9_now_11
    refine g_ld (v := rf _) rfl (is_R _) ?_
    refine g_getF (v := 9) oC9 (hC9_1) rfl (Nat.le_of_ble_eq_true rfl) (Nat.le_of_ble_eq_true rfl) ?_
    refine g_ld (v := rf _) rfl (is_R _) ?_
    refine g_getI (kz := 8) oC9 rfl (Nat.le_of_ble_eq_true rfl) rfl fun i4 => ?_
    replace h := h i4
    obtain ⟨q5, q6, h⟩ := h
    refine g_aldI aC9 q5 q6 rfl fun i7 => ?_
    replace h := h i7
    exact TX9_now_24 i7 h
abbrev PX9_now  (G : gS) (Q : Int → gS → Prop) : Prop := PX9_now_0  G Q
theorem TX9_now  {G : gS} {Q : Int → gS → Prop}  (h : PX9_now  G Q) : Tn W0 FX9_now [rf (7)] G (fun r G => ∃ v, r = cI v ∧ inI v ∧ Q v G) := by
  unfold FX9_now
  refine g_ent (lv' := [rf (7)]) (flR fl0) (Nat.le_of_ble_eq_true rfl) rfl ?_
  exact TX9_now_0  h
def PX9_node_23 (l1 : Int) (l2 : Int) (G : gS) (Q : Int → gS → Prop) : Prop :=
  (inI (G 7 14) → ((0 : Int) ≤ G 7 14 ∧ ((G 7 14 : Int) < 800 ∧ (((G 13 (G 7 14) = -1 ∨ isO W0 8 (G 13 (G 7 14))) ∧ ∀ v, W0.2 13 (G 7 14) = some v → G 13 (G 7 14) = v) → (inI (G 7 14) → (inI ((G 7 14) + 1) ∧ (∀ G11 : gS, G11 = uG G 7 14 ((G 7 14) + 1) → (isO W0 8 (G 13 (G 7 14)) ∧ PX8_clear (G 13 (G 7 14)) l1 l2 G11 (fun _ G13 => Q (G 13 (G 7 14)) G13)))))))))
set_option maxRecDepth 20000 in
theorem TX9_node_23 {l1 : Int} {l2 : Int} {l3 : Nat} {G : gS} {Q : Int → gS → Prop} (hl1 : inI l1) (hl2 : inI l2) (hl3 : l3 % 8 ≠ 1) (h : PX9_node_23 l1 l2 G Q) : Tg W0 vX9_node_23 [rf (7), cI (l1), cI (l2), l3] [] G (fun r G => ∃ v, r = rf v ∧ Q v G) := by
  unfold PX9_node_23 at h
  unfold vX9_node_23
  refine g_ld (v := rf _) rfl (is_R _) ?_
  refine g_getF (v := 13) oC9 (hC9_13) rfl (Nat.le_of_ble_eq_true rfl) (Nat.le_of_ble_eq_true rfl) ?_
  refine g_ld (v := rf _) rfl (is_R _) ?_
  refine g_getI (kz := 14) oC9 rfl (Nat.le_of_ble_eq_true rfl) rfl fun i5 => ?_
  replace h := h i5
  obtain ⟨q6, q7, h⟩ := h
  refine g_aldRF (c := 8) aC13 q6 q7 rfl (by decide) fun i8 => ?_
  replace h := h i8
  refine g_st (lv' := [_, _, _, _]) (is_R _) (Nat.le_of_ble_eq_true rfl) (Or.inr (n1_I _)) rfl ?_
  refine g_ld (v := rf _) rfl (is_R _) ?_
  refine g_dup (ct_R _) ?_
  refine g_getI (kz := 14) oC9 rfl (Nat.le_of_ble_eq_true rfl) rfl fun i9 => ?_
  replace h := h i9
  refine g_const (v := cI (1)) rfl ?_
  refine g_add ?_
  obtain ⟨q10, h⟩ := h
  refine g_putI (kz := 14) oC9 rfl (Nat.le_of_ble_eq_true rfl) rfl q10 (zfin_no (c := 7) (j := 14) rfl) ?_
  replace h := h _ rfl
  refine g_ld (v := rf _) rfl (is_R _) ?_
  refine g_ld (v := cI _) rfl (is_I _) ?_
  refine g_ld (v := cI _) rfl (is_I _) ?_
  obtain ⟨q12, h⟩ := h
  refine g_callV (As := [_, _]) (ci := 8) q12 (fun _ => rfl) ?_
  refine g_go0 (Nat.le_of_ble_eq_true rfl) (Tn_w (TX8_clear hl1 hl2 h) fun _ G13 ⟨e, h⟩ => ⟨e, ?_⟩)
  refine g_ld (v := rf _) rfl (is_R _) ?_
  exact g_ret1 (is_R _) ⟨_, rfl, h⟩
def PX9_node_0 (a1 : Int) (a2 : Int) (G : gS) (Q : Int → gS → Prop) : Prop :=
  (inI (G 7 14) → ((G 7 14 < 800 → PX9_node_23 a1 a2 G Q) ∧ (¬ (G 7 14 < 800) → (inI (800 - 1) ∧ (∀ G4 : gS, G4 = uG G 7 14 (800 - 1) → PX9_node_23 a1 a2 G4 Q)))))
set_option maxRecDepth 20000 in
theorem TX9_node_0 {a1 : Int} {a2 : Int} {G : gS} {Q : Int → gS → Prop} (ha1 : inI a1) (ha2 : inI a2) (h : PX9_node_0 a1 a2 G Q) : Tg W0 vX9_node_0 [rf (7), cI (a1), cI (a2), 7] [] G (fun r G => ∃ v, r = rf v ∧ Q v G) := by
  unfold PX9_node_0 at h
  unfold vX9_node_0
  refine g_ld (v := rf _) rfl (is_R _) ?_
  refine g_getI (kz := 14) oC9 rfl (Nat.le_of_ble_eq_true rfl) rfl fun i1 => ?_
  replace h := h i1
  refine g_ld (v := rf _) rfl (is_R _) ?_
  refine g_getF (v := 13) oC9 (hC9_13) rfl (Nat.le_of_ble_eq_true rfl) (Nat.le_of_ble_eq_true rfl) ?_
  refine g_alen aC13 ?_
  refine g_lt2 i1 ⟨by omega, by omega⟩ (fun b2 => ?_) (fun b2 => ?_)
  · replace h := h.1 b2
    exact TX9_node_23 ha1 ha2 (show 7 % 8 ≠ 1 by decide) h
  · replace h := h.2 b2
    unfold vX9_node_12
    refine g_ld (v := rf _) rfl (is_R _) ?_
    refine g_ld (v := rf _) rfl (is_R _) ?_
    refine g_getF (v := 13) oC9 (hC9_13) rfl (Nat.le_of_ble_eq_true rfl) (Nat.le_of_ble_eq_true rfl) ?_
    refine g_alen aC13 ?_
    refine g_const (v := cI (1)) rfl ?_
    refine g_sub ?_
    obtain ⟨q3, h⟩ := h
    refine g_putI (kz := 14) oC9 rfl (Nat.le_of_ble_eq_true rfl) rfl q3 (zfin_no (c := 7) (j := 14) rfl) ?_
    replace h := h _ rfl
    exact TX9_node_23 ha1 ha2 (show 7 % 8 ≠ 1 by decide) h
abbrev PX9_node (a1 : Int) (a2 : Int) (G : gS) (Q : Int → gS → Prop) : Prop := PX9_node_0 a1 a2 G Q
theorem TX9_node {a1 : Int} {a2 : Int} {G : gS} {Q : Int → gS → Prop} (ha1 : inI a1) (ha2 : inI a2) (h : PX9_node a1 a2 G Q) : Tn W0 FX9_node [rf (7), cI (a1), cI (a2)] G (fun r G => ∃ v, r = rf v ∧ Q v G) := by
  unfold FX9_node
  refine g_ent (lv' := [rf (7), cI (a1), cI (a2), 7]) (flR (flI (flI fl0))) (Nat.le_of_ble_eq_true rfl) rfl ?_
  exact TX9_node_0 ha1 ha2 h
end DE

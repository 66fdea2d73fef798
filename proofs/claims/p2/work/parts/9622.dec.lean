section DE
def PX13_wantSign_33 (l1 : Int) (G : gS) (Q : Int → gS → Prop) : Prop :=
  Q 0 G
set_option maxRecDepth 20000 in
theorem TX13_wantSign_33 {l1 : Int} {G : gS} {Q : Int → gS → Prop} (hl1 : inI l1) (h : PX13_wantSign_33 l1 G Q) : Tg W0 vX13_wantSign_33 [rf (16081), cI (l1)] [] G (fun r G => r = 7 ∧ Q 0 G) := by
  unfold PX13_wantSign_33 at h
  unfold vX13_wantSign_33
  exact g_ret0 ⟨rfl, h⟩
def PX13_wantSign_22 (l1 : Int) (G : gS) (Q : Int → gS → Prop) : Prop :=
  (inI (G 16081 20) → ((G 16081 20 = 0 → PX13_wrong G (fun _ G11 => PX13_wantSign_33 l1 G11 Q)) ∧ (¬ (G 16081 20 = 0) → PX13_wantSign_33 l1 G Q)))
set_option maxRecDepth 20000 in
theorem TX13_wantSign_22 {l1 : Int} {G : gS} {Q : Int → gS → Prop} (hl1 : inI l1) (h : PX13_wantSign_22 l1 G Q) : Tg W0 vX13_wantSign_22 [rf (16081), cI (l1)] [] G (fun r G => r = 7 ∧ Q 0 G) := by
  unfold PX13_wantSign_22 at h
  unfold vX13_wantSign_22
  refine g_ld (v := rf _) rfl (is_R _) ?_
  refine g_getI (kz := 20) oC13 rfl (Nat.le_of_ble_eq_true rfl) rfl fun i9 => ?_
  replace h := h i9
  refine g_eq1 i9 (fun b10 => ?_) (fun b10 => ?_)
  · replace h := h.1 b10
    unfold vX13_wantSign_29
    refine g_ld (v := rf _) rfl (is_R _) ?_
    refine g_callV (As := []) (ci := 13) oC13 (fun _ => rfl) ?_
    refine g_go0 (Nat.le_of_ble_eq_true rfl) (Tn_w (TX13_wrong  h) fun _ G11 ⟨e, h⟩ => ⟨e, ?_⟩)
    exact TX13_wantSign_33 hl1 h
  · replace h := h.2 b10
    exact TX13_wantSign_33 hl1 h
def PX13_wantSign_0 (a1 : Int) (G : gS) (Q : Int → gS → Prop) : Prop :=
  (inI (G 16081 20) → ((G 16081 20 = 0 → PX13_isSign a1 G (fun r4 G3 => (0 ≤ r4 ∧ r4 ≤ 1) → ((r4 = 0 → PX13_wantSign_22 a1 G3 Q) ∧ (¬ (r4 = 0) → PX13_step G3 (fun _ G7 => PX13_wantSign_33 a1 G7 Q))))) ∧ (¬ (G 16081 20 = 0) → PX13_wantSign_22 a1 G Q)))
set_option maxRecDepth 20000 in
theorem TX13_wantSign_0 {a1 : Int} {G : gS} {Q : Int → gS → Prop} (ha1 : inI a1) (h : PX13_wantSign_0 a1 G Q) : Tg W0 vX13_wantSign_0 [rf (16081), cI (a1)] [] G (fun r G => r = 7 ∧ Q 0 G) := by
  unfold PX13_wantSign_0 at h
  unfold vX13_wantSign_0
  refine g_ld (v := rf _) rfl (is_R _) ?_
  refine g_getI (kz := 20) oC13 rfl (Nat.le_of_ble_eq_true rfl) rfl fun i1 => ?_
  replace h := h i1
  refine g_eq1 i1 (fun b2 => ?_) (fun b2 => ?_)
  · replace h := h.1 b2
    unfold vX13_wantSign_7
    refine g_ld (v := rf _) rfl (is_R _) ?_
    refine g_ld (v := cI _) rfl (is_I _) ?_
    refine g_callV (As := [_]) (ci := 13) oC13 (fun _ => rfl) ?_
    refine g_go1 (Nat.le_of_ble_eq_true rfl) (Tn_w (TX13_isSign ha1 h) fun _ G3 ⟨r4, e, i5, h⟩ => ?_)
    subst e
    refine ⟨n7_I _, ?_⟩
    replace h := h i5
    refine g_eq1 ⟨by omega, by omega⟩ (fun b6 => ?_) (fun b6 => ?_)
    · replace h := h.1 b6
      exact TX13_wantSign_22 ha1 h
    · replace h := h.2 b6
      unfold vX13_wantSign_15
      refine g_ld (v := rf _) rfl (is_R _) ?_
      refine g_callV (As := []) (ci := 13) oC13 (fun _ => rfl) ?_
      refine g_go0 (Nat.le_of_ble_eq_true rfl) (Tn_w (TX13_step  h) fun _ G7 ⟨e, h⟩ => ⟨e, ?_⟩)
      exact TX13_wantSign_33 ha1 h
  · replace h := h.2 b2
    exact TX13_wantSign_22 ha1 h
abbrev PX13_wantSign (a1 : Int) (G : gS) (Q : Int → gS → Prop) : Prop := PX13_wantSign_0 a1 G Q
theorem TX13_wantSign {a1 : Int} {G : gS} {Q : Int → gS → Prop} (ha1 : inI a1) (h : PX13_wantSign a1 G Q) : Tn W0 FX13_wantSign [rf (16081), cI (a1)] G (fun r G => r = 7 ∧ Q 0 G) := by
  unfold FX13_wantSign
  refine g_ent (lv' := [rf (16081), cI (a1)]) (flR (flI fl0)) (Nat.le_of_ble_eq_true rfl) rfl ?_
  exact TX13_wantSign_0 ha1 h
def PX13_want_59 (l1 : Int) (l2 : Int) (l3 : Int) (G : gS) (Q : Int → gS → Prop) : Prop :=
  Q (l3) G
set_option maxRecDepth 20000 in
theorem TX13_want_59 {l1 : Int} {l2 : Int} {l3 : Int} {G : gS} {Q : Int → gS → Prop} (hl1 : inI l1) (hl2 : inI l2) (hl3 : inI l3) (h : PX13_want_59 l1 l2 l3 G Q) : Tg W0 vX13_want_59 [rf (16081), cI (l1), cI (l2), cI (l3)] [] G (fun r G => ∃ v, r = cI v ∧ inI v ∧ Q v G) := by
  unfold PX13_want_59 at h
  unfold vX13_want_59
  refine g_ld (v := cI _) rfl (is_I _) ?_
  exact g_ret1 (is_I _) ⟨_, rfl, hl3, h⟩
def PX13_want_55 (l1 : Int) (l2 : Int) (l3 : Int) (G : gS) (Q : Int → gS → Prop) : Prop :=
  PX13_step G (fun _ G20 => PX13_want_59 l1 l2 l3 G20 Q)
set_option maxRecDepth 20000 in
theorem TX13_want_55 {l1 : Int} {l2 : Int} {l3 : Int} {G : gS} {Q : Int → gS → Prop} (hl1 : inI l1) (hl2 : inI l2) (hl3 : inI l3) (h : PX13_want_55 l1 l2 l3 G Q) : Tg W0 vX13_want_55 [rf (16081), cI (l1), cI (l2), cI (l3)] [] G (fun r G => ∃ v, r = cI v ∧ inI v ∧ Q v G) := by
  unfold PX13_want_55 at h
  unfold vX13_want_55
  refine g_ld (v := rf _) rfl (is_R _) ?_
  refine g_callV (As := []) (ci := 13) oC13 (fun _ => rfl) ?_
  refine g_go0 (Nat.le_of_ble_eq_true rfl) (Tn_w (TX13_step  h) fun _ G20 ⟨e, h⟩ => ⟨e, ?_⟩)
  exact TX13_want_59 hl1 hl2 hl3 h
def PX13_want_31 (l1 : Int) (l2 : Int) (l3 : Int) (G : gS) (Q : Int → gS → Prop) : Prop :=
  (inI (G 16081 20) → ((G 16081 20 = 0 → ((l2 = 0 → PX13_want_55 l1 l2 l3 G Q) ∧ (¬ (l2 = 0) → (inI (G 16081 22) → PX13_placeAt (G 16081 22) G (fun r16 G15 => inI r16 → PX13_fault 3 r16 G15 (fun _ G18 => PX13_want_55 l1 l2 l3 G18 Q)))))) ∧ (¬ (G 16081 20 = 0) → PX13_want_59 l1 l2 l3 G Q)))
set_option maxRecDepth 20000 in
theorem TX13_want_31 {l1 : Int} {l2 : Int} {l3 : Int} {G : gS} {Q : Int → gS → Prop} (hl1 : inI l1) (hl2 : inI l2) (hl3 : inI l3) (h : PX13_want_31 l1 l2 l3 G Q) : Tg W0 vX13_want_31 [rf (16081), cI (l1), cI (l2), cI (l3)] [] G (fun r G => ∃ v, r = cI v ∧ inI v ∧ Q v G) := by
  unfold PX13_want_31 at h
  unfold vX13_want_31
  refine g_ld (v := rf _) rfl (is_R _) ?_
  refine g_getI (kz := 20) oC13 rfl (Nat.le_of_ble_eq_true rfl) rfl fun i11 => ?_
  replace h := h i11
  refine g_eq1 i11 (fun b12 => ?_) (fun b12 => ?_)
  · replace h := h.1 b12
    unfold vX13_want_38
    refine g_ld (v := cI _) rfl (is_I _) ?_
    refine g_eq1 hl2 (fun b13 => ?_) (fun b13 => ?_)
    · replace h := h.1 b13
      exact TX13_want_55 hl1 hl2 hl3 h
    · replace h := h.2 b13
      unfold vX13_want_42
      refine g_ld (v := rf _) rfl (is_R _) ?_
      refine g_const (v := cI (3)) rfl ?_
      refine g_ld (v := rf _) rfl (is_R _) ?_
      refine g_ld (v := rf _) rfl (is_R _) ?_
      refine g_getI (kz := 22) oC13 rfl (Nat.le_of_ble_eq_true rfl) rfl fun i14 => ?_
      replace h := h i14
      refine g_callV (As := [_]) (ci := 13) oC13 (fun _ => rfl) ?_
      refine g_go1 (by simp only [cs_c, cs_0, ct_I, ct_L, ct_R]; exact Nat.le_of_ble_eq_true rfl) (Tn_w (TX13_placeAt i14 h) fun _ G15 ⟨r16, e, i17, h⟩ => ?_)
      subst e
      refine ⟨n7_I _, ?_⟩
      replace h := h i17
      refine g_callV (As := [_, _]) (ci := 13) oC13 (fun _ => rfl) ?_
      refine g_go0 (Nat.le_of_ble_eq_true rfl) (Tn_w (TX13_fault ⟨by omega, by omega⟩ i17 h) fun _ G18 ⟨e, h⟩ => ⟨e, ?_⟩)
      exact TX13_want_55 hl1 hl2 hl3 h
  · replace h := h.2 b12
    exact TX13_want_59 hl1 hl2 hl3 h
def PX13_want_0 (a1 : Int) (a2 : Int) (G : gS) (Q : Int → gS → Prop) : Prop :=
  (inI (G 16081 22) → (inI (G 16081 20) → ((G 16081 20 = 0 → (inI (G 16081 22) → PX13_kindAt (G 16081 22) G (fun r6 G5 => inI r6 → ((r6 = a1 → PX13_want_31 a1 a2 (G 16081 22) G5 Q) ∧ (¬ (r6 = a1) → PX13_wrong G5 (fun _ G9 => PX13_want_59 a1 a2 (G 16081 22) G9 Q)))))) ∧ (¬ (G 16081 20 = 0) → PX13_want_31 a1 a2 (G 16081 22) G Q))))
set_option maxRecDepth 20000 in
theorem TX13_want_0 {a1 : Int} {a2 : Int} {G : gS} {Q : Int → gS → Prop} (ha1 : inI a1) (ha2 : inI a2) (h : PX13_want_0 a1 a2 G Q) : Tg W0 vX13_want_0 [rf (16081), cI (a1), cI (a2), 7] [] G (fun r G => ∃ v, r = cI v ∧ inI v ∧ Q v G) := by
  unfold PX13_want_0 at h
  unfold vX13_want_0
  refine g_ld (v := rf _) rfl (is_R _) ?_
  refine g_getI (kz := 22) oC13 rfl (Nat.le_of_ble_eq_true rfl) rfl fun i1 => ?_
  replace h := h i1
  refine g_st (lv' := [_, _, _, _]) (is_I _) (Nat.le_of_ble_eq_true rfl) (Or.inr (n1_I _)) rfl ?_
  refine g_ld (v := rf _) rfl (is_R _) ?_
  refine g_getI (kz := 20) oC13 rfl (Nat.le_of_ble_eq_true rfl) rfl fun i2 => ?_
  replace h := h i2
  refine g_eq1 i2 (fun b3 => ?_) (fun b3 => ?_)
  · replace h := h.1 b3
    unfold vX13_want_12
    refine g_ld (v := rf _) rfl (is_R _) ?_
    refine g_ld (v := rf _) rfl (is_R _) ?_
    refine g_getI (kz := 22) oC13 rfl (Nat.le_of_ble_eq_true rfl) rfl fun i4 => ?_
    replace h := h i4
    refine g_callV (As := [_]) (ci := 13) oC13 (fun _ => rfl) ?_
    refine g_go1 (Nat.le_of_ble_eq_true rfl) (Tn_w (TX13_kindAt i4 h) fun _ G5 ⟨r6, e, i7, h⟩ => ?_)
    subst e
    refine ⟨n7_I _, ?_⟩
    replace h := h i7
    refine g_ld (v := cI _) rfl (is_I _) ?_
    refine g_eq2 i7 ha1 (fun b8 => ?_) (fun b8 => ?_)
    · replace h := h.1 b8
      exact TX13_want_31 ha1 ha2 i1 h
    · replace h := h.2 b8
      unfold vX13_want_24
      refine g_ld (v := rf _) rfl (is_R _) ?_
      refine g_callV (As := []) (ci := 13) oC13 (fun _ => rfl) ?_
      refine g_go0 (Nat.le_of_ble_eq_true rfl) (Tn_w (TX13_wrong  h) fun _ G9 ⟨e, h⟩ => ⟨e, ?_⟩)
      exact TX13_want_59 ha1 ha2 i1 h
  · replace h := h.2 b3
    exact TX13_want_31 ha1 ha2 i1 h
abbrev PX13_want (a1 : Int) (a2 : Int) (G : gS) (Q : Int → gS → Prop) : Prop := PX13_want_0 a1 a2 G Q
theorem TX13_want {a1 : Int} {a2 : Int} {G : gS} {Q : Int → gS → Prop} (ha1 : inI a1) (ha2 : inI a2) (h : PX13_want a1 a2 G Q) : Tn W0 FX13_want [rf (16081), cI (a1), cI (a2)] G (fun r G => ∃ v, r = cI v ∧ inI v ∧ Q v G) := by
  unfold FX13_want
  refine g_ent (lv' := [rf (16081), cI (a1), cI (a2), 7]) (flR (flI (flI fl0))) (Nat.le_of_ble_eq_true rfl) rfl ?_
  exact TX13_want_0 ha1 ha2 h
def PX13_node_0 (a1 : Int) (a2 : Int) (G : gS) (Q : Int → gS → Prop) : Prop :=
  (inI (G 16081 19) → (inI (G 16081 19) → ((0 : Int) ≤ G 16081 19 ∧ ((G 16081 19 : Int) < 18 ∧ (inI (G 16143 (G 16081 19)) → (inI (((G 16081 19) * 1700) + (G 16143 (G 16081 19))) ∧ (inI (G 16081 19) → ((0 : Int) ≤ G 16081 19 ∧ ((G 16081 19 : Int) < 18 ∧ (inI (G 16143 (G 16081 19)) → ((0 : Int) ≤ G 16081 19 ∧ ((G 16081 19 : Int) < 18 ∧ (inI ((G 16143 (G 16081 19)) + 1) ∧ (∀ G14 : gS, G14 = uG G 16143 (G 16081 19) ((G 16143 (G 16081 19)) + 1) → ((0 : Int) ≤ ((G 16081 19) * 1700) + (G 16143 (G 16081 19)) ∧ ((((G 16081 19) * 1700) + (G 16143 (G 16081 19)) : Int) < 30600 ∧ (∀ G17 : gS, G17 = uG G14 16144 (((G 16081 19) * 1700) + (G 16143 (G 16081 19))) (a1) → ((0 : Int) ≤ ((G 16081 19) * 1700) + (G 16143 (G 16081 19)) ∧ ((((G 16081 19) * 1700) + (G 16143 (G 16081 19)) : Int) < 30600 ∧ (∀ G20 : gS, G20 = uG G17 16145 (((G 16081 19) * 1700) + (G 16143 (G 16081 19))) (a2) → ((0 : Int) ≤ ((G 16081 19) * 1700) + (G 16143 (G 16081 19)) ∧ ((((G 16081 19) * 1700) + (G 16143 (G 16081 19)) : Int) < 30600 ∧ (∀ G23 : gS, G23 = uG G20 16146 (((G 16081 19) * 1700) + (G 16143 (G 16081 19))) (a2) → ((0 : Int) ≤ ((G 16081 19) * 1700) + (G 16143 (G 16081 19)) ∧ ((((G 16081 19) * 1700) + (G 16143 (G 16081 19)) : Int) < 30600 ∧ (∀ G26 : gS, G26 = uG G23 16147 (((G 16081 19) * 1700) + (G 16143 (G 16081 19))) (a2) → ((0 : Int) ≤ ((G 16081 19) * 1700) + (G 16143 (G 16081 19)) ∧ ((((G 16081 19) * 1700) + (G 16143 (G 16081 19)) : Int) < 30600 ∧ (∀ G29 : gS, G29 = uG G26 16148 (((G 16081 19) * 1700) + (G 16143 (G 16081 19))) (0) → ((0 : Int) ≤ ((G 16081 19) * 1700) + (G 16143 (G 16081 19)) ∧ ((((G 16081 19) * 1700) + (G 16143 (G 16081 19)) : Int) < 30600 ∧ (∀ G32 : gS, G32 = uG G29 16149 (((G 16081 19) * 1700) + (G 16143 (G 16081 19))) (0) → ((0 : Int) ≤ ((G 16081 19) * 1700) + (G 16143 (G 16081 19)) ∧ ((((G 16081 19) * 1700) + (G 16143 (G 16081 19)) : Int) < 30600 ∧ (∀ G35 : gS, G35 = uG G32 16150 (((G 16081 19) * 1700) + (G 16143 (G 16081 19))) (0) → ((0 : Int) ≤ ((G 16081 19) * 1700) + (G 16143 (G 16081 19)) ∧ ((((G 16081 19) * 1700) + (G 16143 (G 16081 19)) : Int) < 30600 ∧ (∀ G38 : gS, G38 = uG G35 16151 (((G 16081 19) * 1700) + (G 16143 (G 16081 19))) (-2) → ((0 : Int) ≤ ((G 16081 19) * 1700) + (G 16143 (G 16081 19)) ∧ ((((G 16081 19) * 1700) + (G 16143 (G 16081 19)) : Int) < 30600 ∧ (∀ G41 : gS, G41 = uG G38 16152 (((G 16081 19) * 1700) + (G 16143 (G 16081 19))) (-2) → ((0 : Int) ≤ ((G 16081 19) * 1700) + (G 16143 (G 16081 19)) ∧ ((((G 16081 19) * 1700) + (G 16143 (G 16081 19)) : Int) < 30600 ∧ (∀ G44 : gS, G44 = uG G41 16153 (((G 16081 19) * 1700) + (G 16143 (G 16081 19))) (-2) → ((0 : Int) ≤ ((G 16081 19) * 1700) + (G 16143 (G 16081 19)) ∧ ((((G 16081 19) * 1700) + (G 16143 (G 16081 19)) : Int) < 30600 ∧ (∀ G47 : gS, G47 = uG G44 16154 (((G 16081 19) * 1700) + (G 16143 (G 16081 19))) (-2) → ((0 : Int) ≤ ((G 16081 19) * 1700) + (G 16143 (G 16081 19)) ∧ ((((G 16081 19) * 1700) + (G 16143 (G 16081 19)) : Int) < 30600 ∧ (∀ G50 : gS, G50 = uG G47 16155 (((G 16081 19) * 1700) + (G 16143 (G 16081 19))) (0) → ((0 : Int) ≤ ((G 16081 19) * 1700) + (G 16143 (G 16081 19)) ∧ ((((G 16081 19) * 1700) + (G 16143 (G 16081 19)) : Int) < 30600 ∧ (∀ G53 : gS, G53 = uG G50 16156 (((G 16081 19) * 1700) + (G 16143 (G 16081 19))) (-2) → ((0 : Int) ≤ ((G 16081 19) * 1700) + (G 16143 (G 16081 19)) ∧ ((((G 16081 19) * 1700) + (G 16143 (G 16081 19)) : Int) < 30600 ∧ (∀ G56 : gS, G56 = uG G53 16157 (((G 16081 19) * 1700) + (G 16143 (G 16081 19))) (0) → ((0 : Int) ≤ ((G 16081 19) * 1700) + (G 16143 (G 16081 19)) ∧ ((((G 16081 19) * 1700) + (G 16143 (G 16081 19)) : Int) < 30600 ∧ (∀ G59 : gS, G59 = uG G56 16158 (((G 16081 19) * 1700) + (G 16143 (G 16081 19))) (0) → ((0 : Int) ≤ ((G 16081 19) * 1700) + (G 16143 (G 16081 19)) ∧ ((((G 16081 19) * 1700) + (G 16143 (G 16081 19)) : Int) < 30600 ∧ (∀ G62 : gS, G62 = uG G59 16159 (((G 16081 19) * 1700) + (G 16143 (G 16081 19))) (0) → ((0 : Int) ≤ ((G 16081 19) * 1700) + (G 16143 (G 16081 19)) ∧ ((((G 16081 19) * 1700) + (G 16143 (G 16081 19)) : Int) < 30600 ∧ (∀ G65 : gS, G65 = uG G62 16161 (((G 16081 19) * 1700) + (G 16143 (G 16081 19))) (-2) → ((0 : Int) ≤ ((G 16081 19) * 1700) + (G 16143 (G 16081 19)) ∧ ((((G 16081 19) * 1700) + (G 16143 (G 16081 19)) : Int) < 30600 ∧ (∀ G68 : gS, G68 = uG G65 16162 (((G 16081 19) * 1700) + (G 16143 (G 16081 19))) (-2) → Q (((G 16081 19) * 1700) + (G 16143 (G 16081 19))) G68))))))))))))))))))))))))))))))))))))))))))))))))))))))))))))))))))))
set_option maxRecDepth 20000 in
theorem TX13_node_0 {a1 : Int} {a2 : Int} {G : gS} {Q : Int → gS → Prop} (ha1 : inI a1) (ha2 : inI a2) (h : PX13_node_0 a1 a2 G Q) : Tg W0 vX13_node_0 [rf (16081), cI (a1), cI (a2), 7] [] G (fun r G => ∃ v, r = cI v ∧ inI v ∧ Q v G) := by
  unfold PX13_node_0 at h
  unfold vX13_node_0
  refine g_ld (v := rf _) rfl (is_R _) ?_
  refine g_getI (kz := 19) oC13 rfl (Nat.le_of_ble_eq_true rfl) rfl fun i1 => ?_
  replace h := h i1
  refine g_const (v := cI (1700)) rfl ?_
  refine g_mul ?_
  refine g_ld (v := rf _) rfl (is_R _) ?_
  refine g_getF (v := 16143) oC13 (hC13_69) rfl (Nat.le_of_ble_eq_true rfl) (Nat.le_of_ble_eq_true rfl) ?_
  refine g_ld (v := rf _) rfl (is_R _) ?_
  refine g_getI (kz := 19) oC13 rfl (Nat.le_of_ble_eq_true rfl) rfl fun i2 => ?_
  replace h := h i2
  obtain ⟨q3, q4, h⟩ := h
  refine g_aldI aC16143 q3 q4 rfl fun i5 => ?_
  replace h := h i5
  refine g_add ?_
  refine g_st (lv' := [_, _, _, _]) (is_I _) (Nat.le_of_ble_eq_true rfl) (Or.inr (n1_I _)) rfl ?_
  obtain ⟨q6, h⟩ := h
  refine g_ld (v := rf _) rfl (is_R _) ?_
  refine g_getF (v := 16143) oC13 (hC13_69) rfl (Nat.le_of_ble_eq_true rfl) (Nat.le_of_ble_eq_true rfl) ?_
  refine g_ld (v := rf _) rfl (is_R _) ?_
  refine g_getI (kz := 19) oC13 rfl (Nat.le_of_ble_eq_true rfl) rfl fun i7 => ?_
  replace h := h i7
  refine g_dup2 (ct_I _) (ct_R _) ?_
  obtain ⟨q8, q9, h⟩ := h
  refine g_aldI aC16143 q8 q9 rfl fun i10 => ?_
  replace h := h i10
  refine g_const (v := cI (1)) rfl ?_
  refine g_add ?_
  obtain ⟨q11, q12, h⟩ := h
  obtain ⟨q13, h⟩ := h
  refine g_astI aC16143 q11 q12 q13 (nfI aC16143) ?_
  replace h := h _ rfl
  refine g_ld (v := rf _) rfl (is_R _) ?_
  refine g_getF (v := 16144) oC13 (hC13_70) rfl (Nat.le_of_ble_eq_true rfl) (Nat.le_of_ble_eq_true rfl) ?_
  refine g_ld (v := cI _) rfl (is_I _) ?_
  refine g_ld (v := cI _) rfl (is_I _) ?_
  unfold vX13_node_38
  obtain ⟨q15, q16, h⟩ := h
  refine g_astI aC16144 q15 q16 ha1 (nfI aC16144) ?_
  replace h := h _ rfl
  refine g_ld (v := rf _) rfl (is_R _) ?_
  refine g_getF (v := 16145) oC13 (hC13_71) rfl (Nat.le_of_ble_eq_true rfl) (Nat.le_of_ble_eq_true rfl) ?_
  refine g_ld (v := cI _) rfl (is_I _) ?_
  refine g_ld (v := cI _) rfl (is_I _) ?_
  obtain ⟨q18, q19, h⟩ := h
  refine g_astI aC16145 q18 q19 ha2 (nfI aC16145) ?_
  replace h := h _ rfl
  refine g_ld (v := rf _) rfl (is_R _) ?_
  refine g_getF (v := 16146) oC13 (hC13_72) rfl (Nat.le_of_ble_eq_true rfl) (Nat.le_of_ble_eq_true rfl) ?_
  refine g_ld (v := cI _) rfl (is_I _) ?_
  refine g_ld (v := cI _) rfl (is_I _) ?_
  obtain ⟨q21, q22, h⟩ := h
  refine g_astI aC16146 q21 q22 ha2 (nfI aC16146) ?_
  replace h := h _ rfl
  refine g_ld (v := rf _) rfl (is_R _) ?_
  refine g_getF (v := 16147) oC13 (hC13_73) rfl (Nat.le_of_ble_eq_true rfl) (Nat.le_of_ble_eq_true rfl) ?_
  refine g_ld (v := cI _) rfl (is_I _) ?_
  refine g_ld (v := cI _) rfl (is_I _) ?_
  obtain ⟨q24, q25, h⟩ := h
  refine g_astI aC16147 q24 q25 ha2 (nfI aC16147) ?_
  replace h := h _ rfl
  refine g_ld (v := rf _) rfl (is_R _) ?_
  refine g_getF (v := 16148) oC13 (hC13_74) rfl (Nat.le_of_ble_eq_true rfl) (Nat.le_of_ble_eq_true rfl) ?_
  refine g_ld (v := cI _) rfl (is_I _) ?_
  refine g_const (v := cL (0)) rfl ?_
  obtain ⟨q27, q28, h⟩ := h
  refine g_astL aC16148 q27 q28 ⟨by omega, by omega⟩ (nfL aC16148) ?_
  replace h := h _ rfl
  refine g_ld (v := rf _) rfl (is_R _) ?_
  refine g_getF (v := 16149) oC13 (hC13_75) rfl (Nat.le_of_ble_eq_true rfl) (Nat.le_of_ble_eq_true rfl) ?_
  refine g_ld (v := cI _) rfl (is_I _) ?_
  unfold vX13_node_72
  refine g_const (v := cL (0)) rfl ?_
  obtain ⟨q30, q31, h⟩ := h
  refine g_astL aC16149 q30 q31 ⟨by omega, by omega⟩ (nfL aC16149) ?_
  replace h := h _ rfl
  refine g_ld (v := rf _) rfl (is_R _) ?_
  refine g_getF (v := 16150) oC13 (hC13_76) rfl (Nat.le_of_ble_eq_true rfl) (Nat.le_of_ble_eq_true rfl) ?_
  refine g_ld (v := cI _) rfl (is_I _) ?_
  refine g_const (v := cL (0)) rfl ?_
  obtain ⟨q33, q34, h⟩ := h
  refine g_astL aC16150 q33 q34 ⟨by omega, by omega⟩ (nfL aC16150) ?_
  replace h := h _ rfl
  refine g_ld (v := rf _) rfl (is_R _) ?_
  refine g_getF (v := 16151) oC13 (hC13_77) rfl (Nat.le_of_ble_eq_true rfl) (Nat.le_of_ble_eq_true rfl) ?_
  refine g_ld (v := cI _) rfl (is_I _) ?_
  refine g_const (v := cI (-2)) rfl ?_
  obtain ⟨q36, q37, h⟩ := h
  refine g_astI aC16151 q36 q37 ⟨by omega, by omega⟩ (nfI aC16151) ?_
  replace h := h _ rfl
  refine g_ld (v := rf _) rfl (is_R _) ?_
  refine g_getF (v := 16152) oC13 (hC13_78) rfl (Nat.le_of_ble_eq_true rfl) (Nat.le_of_ble_eq_true rfl) ?_
  refine g_ld (v := cI _) rfl (is_I _) ?_
  refine g_const (v := cI (-2)) rfl ?_
  obtain ⟨q39, q40, h⟩ := h
  refine g_astI aC16152 q39 q40 ⟨by omega, by omega⟩ (nfI aC16152) ?_
  replace h := h _ rfl
  refine g_ld (v := rf _) rfl (is_R _) ?_
  refine g_getF (v := 16153) oC13 (hC13_79) rfl (Nat.le_of_ble_eq_true rfl) (Nat.le_of_ble_eq_true rfl) ?_
  refine g_ld (v := cI _) rfl (is_I _) ?_
  refine g_const (v := cI (-2)) rfl ?_
  obtain ⟨q42, q43, h⟩ := h
  refine g_astI aC16153 q42 q43 ⟨by omega, by omega⟩ (nfI aC16153) ?_
  replace h := h _ rfl
  refine g_ld (v := rf _) rfl (is_R _) ?_
  refine g_getF (v := 16154) oC13 (hC13_80) rfl (Nat.le_of_ble_eq_true rfl) (Nat.le_of_ble_eq_true rfl) ?_
  unfold vX13_node_109
  refine g_ld (v := cI _) rfl (is_I _) ?_
  refine g_const (v := cI (-2)) rfl ?_
  obtain ⟨q45, q46, h⟩ := h
  refine g_astI aC16154 q45 q46 ⟨by omega, by omega⟩ (nfI aC16154) ?_
  replace h := h _ rfl
  refine g_ld (v := rf _) rfl (is_R _) ?_
  refine g_getF (v := 16155) oC13 (hC13_81) rfl (Nat.le_of_ble_eq_true rfl) (Nat.le_of_ble_eq_true rfl) ?_
  refine g_ld (v := cI _) rfl (is_I _) ?_
  refine g_const (v := cI (0)) rfl ?_
  obtain ⟨q48, q49, h⟩ := h
  refine g_astI aC16155 q48 q49 ⟨by omega, by omega⟩ (nfI aC16155) ?_
  replace h := h _ rfl
  refine g_ld (v := rf _) rfl (is_R _) ?_
  refine g_getF (v := 16156) oC13 (hC13_82) rfl (Nat.le_of_ble_eq_true rfl) (Nat.le_of_ble_eq_true rfl) ?_
  refine g_ld (v := cI _) rfl (is_I _) ?_
  refine g_const (v := cI (-2)) rfl ?_
  obtain ⟨q51, q52, h⟩ := h
  refine g_astI aC16156 q51 q52 ⟨by omega, by omega⟩ (nfI aC16156) ?_
  replace h := h _ rfl
  refine g_ld (v := rf _) rfl (is_R _) ?_
  refine g_getF (v := 16157) oC13 (hC13_83) rfl (Nat.le_of_ble_eq_true rfl) (Nat.le_of_ble_eq_true rfl) ?_
  refine g_ld (v := cI _) rfl (is_I _) ?_
  refine g_const (v := cL (0)) rfl ?_
  obtain ⟨q54, q55, h⟩ := h
  refine g_astL aC16157 q54 q55 ⟨by omega, by omega⟩ (nfL aC16157) ?_
  replace h := h _ rfl
  refine g_ld (v := rf _) rfl (is_R _) ?_
  refine g_getF (v := 16158) oC13 (hC13_84) rfl (Nat.le_of_ble_eq_true rfl) (Nat.le_of_ble_eq_true rfl) ?_
  refine g_ld (v := cI _) rfl (is_I _) ?_
  refine g_const (v := cL (0)) rfl ?_
  obtain ⟨q57, q58, h⟩ := h
  refine g_astL aC16158 q57 q58 ⟨by omega, by omega⟩ (nfL aC16158) ?_
  replace h := h _ rfl
  refine g_ld (v := rf _) rfl (is_R _) ?_
  unfold vX13_node_143
  refine g_getF (v := 16159) oC13 (hC13_85) rfl (Nat.le_of_ble_eq_true rfl) (Nat.le_of_ble_eq_true rfl) ?_
  refine g_ld (v := cI _) rfl (is_I _) ?_
  refine g_const (v := cI (0)) rfl ?_
  obtain ⟨q60, q61, h⟩ := h
  refine g_astI aC16159 q60 q61 ⟨by omega, by omega⟩ (nfI aC16159) ?_
  replace h := h _ rfl
  refine g_ld (v := rf _) rfl (is_R _) ?_
  refine g_getF (v := 16161) oC13 (hC13_87) rfl (Nat.le_of_ble_eq_true rfl) (Nat.le_of_ble_eq_true rfl) ?_
  refine g_ld (v := cI _) rfl (is_I _) ?_
  refine g_const (v := cI (-2)) rfl ?_
  obtain ⟨q63, q64, h⟩ := h
  refine g_astI aC16161 q63 q64 ⟨by omega, by omega⟩ (nfI aC16161) ?_
  replace h := h _ rfl
  refine g_ld (v := rf _) rfl (is_R _) ?_
  refine g_getF (v := 16162) oC13 (hC13_88) rfl (Nat.le_of_ble_eq_true rfl) (Nat.le_of_ble_eq_true rfl) ?_
  refine g_ld (v := cI _) rfl (is_I _) ?_
  refine g_const (v := cI (-2)) rfl ?_
  obtain ⟨q66, q67, h⟩ := h
  refine g_astI aC16162 q66 q67 ⟨by omega, by omega⟩ (nfI aC16162) ?_
  replace h := h _ rfl
  refine g_ld (v := cI _) rfl (is_I _) ?_
  exact g_ret1 (is_I _) ⟨_, rfl, q6, h⟩
abbrev PX13_node (a1 : Int) (a2 : Int) (G : gS) (Q : Int → gS → Prop) : Prop := PX13_node_0 a1 a2 G Q
theorem TX13_node {a1 : Int} {a2 : Int} {G : gS} {Q : Int → gS → Prop} (ha1 : inI a1) (ha2 : inI a2) (h : PX13_node a1 a2 G Q) : Tn W0 FX13_node [rf (16081), cI (a1), cI (a2)] G (fun r G => ∃ v, r = cI v ∧ inI v ∧ Q v G) := by
  unfold FX13_node
  refine g_ent (lv' := [rf (16081), cI (a1), cI (a2), 7]) (flR (flI (flI fl0))) (Nat.le_of_ble_eq_true rfl) rfl ?_
  exact TX13_node_0 ha1 ha2 h
def PX13_list_96 (J : Nat → List Int → gS → (Int → gS → Prop) → Prop) (l1 : Int) (l2 : Int) (l3 : Int) (l4 : Int) (l5 : Int) (l6 : Int) (l7 : Int) (G : gS) (Q : Int → gS → Prop) : Prop :=
  J 0 [l1, l2, l3, l4, l5, l6] G Q
set_option maxRecDepth 20000 in
theorem TX13_list_96 {j : Nat → rx_K} {J : Nat → List Int → gS → (Int → gS → Prop) → Prop} {l1 : Int} {l2 : Int} {l3 : Int} {l4 : Int} {l5 : Int} {l6 : Int} {l7 : Int} {G : gS} {Q : Int → gS → Prop} (hl3 : inI l3) (hl4 : inI l4) (hl5 : inI l5) (hl6 : inI l6) (hl7 : inI l7) (hj0 : ∀ (l1 : Int) (l2 : Int) (l3 : Int) (l4 : Int) (l5 : Int) (l6 : Int) (l7 : Nat) (G : gS), (inI l3) → (inI l4) → (inI l5) → (inI l6) → (l7 % 8 ≠ 1) → J 0 [l1, l2, l3, l4, l5, l6] G Q → Tg W0 (j 0) [rf (16081), rf (l1), rf (l2), cI (l3), cI (l4), cI (l5), cI (l6), l7] [] G (fun r G => ∃ v, r = cI v ∧ inI v ∧ Q v G)) (h : PX13_list_96 J l1 l2 l3 l4 l5 l6 l7 G Q) : Tg W0 (vX13_list_96 j) [rf (16081), rf (l1), rf (l2), cI (l3), cI (l4), cI (l5), cI (l6), cI (l7)] [] G (fun r G => ∃ v, r = cI v ∧ inI v ∧ Q v G) := by
  unfold PX13_list_96 at h
  unfold vX13_list_96
  exact hj0 _ _ _ _ _ _ _ _ hl3 hl4 hl5 hl6 (n1_I _) h
def PX13_list_85 (J : Nat → List Int → gS → (Int → gS → Prop) → Prop) (l1 : Int) (l2 : Int) (l3 : Int) (l4 : Int) (l5 : Int) (l6 : Int) (l7 : Int) (s0 : Int) (G : gS) (Q : Int → gS → Prop) : Prop :=
  ((s0 = 0 → PX13_list_96 J l1 l2 l3 l4 l5 s0 l7 G Q) ∧ (¬ (s0 = 0) → PX13_step G (fun _ G33 => PX13_list_96 J l1 l2 l3 l4 l5 s0 l7 G33 Q)))
set_option maxRecDepth 20000 in
theorem TX13_list_85 {j : Nat → rx_K} {J : Nat → List Int → gS → (Int → gS → Prop) → Prop} {l1 : Int} {l2 : Int} {l3 : Int} {l4 : Int} {l5 : Int} {l6 : Int} {l7 : Int} {s0 : Int} {G : gS} {Q : Int → gS → Prop} (hl3 : inI l3) (hl4 : inI l4) (hl5 : inI l5) (hl6 : inI l6) (hl7 : inI l7) (hs0 : inI s0) (hj0 : ∀ (l1 : Int) (l2 : Int) (l3 : Int) (l4 : Int) (l5 : Int) (l6 : Int) (l7 : Nat) (G : gS), (inI l3) → (inI l4) → (inI l5) → (inI l6) → (l7 % 8 ≠ 1) → J 0 [l1, l2, l3, l4, l5, l6] G Q → Tg W0 (j 0) [rf (16081), rf (l1), rf (l2), cI (l3), cI (l4), cI (l5), cI (l6), l7] [] G (fun r G => ∃ v, r = cI v ∧ inI v ∧ Q v G)) (h : PX13_list_85 J l1 l2 l3 l4 l5 l6 l7 s0 G Q) : Tg W0 (vX13_list_85 j) [rf (16081), rf (l1), rf (l2), cI (l3), cI (l4), cI (l5), cI (l6), cI (l7)] [cI (s0)] G (fun r G => ∃ v, r = cI v ∧ inI v ∧ Q v G) := by
  unfold PX13_list_85 at h
  unfold vX13_list_85
  refine g_st (lv' := [_, _, _, _, _, _, _, _]) (is_I _) (Nat.le_of_ble_eq_true rfl) (Or.inr (n1_I _)) rfl ?_
  refine g_ld (v := cI _) rfl (is_I _) ?_
  refine g_eq1 hs0 (fun b32 => ?_) (fun b32 => ?_)
  · replace h := h.1 b32
    exact TX13_list_96 hl3 hl4 hl5 hs0 hl7 hj0 h
  · replace h := h.2 b32
    unfold vX13_list_92
    refine g_ld (v := rf _) rfl (is_R _) ?_
    refine g_callV (As := []) (ci := 13) oC13 (fun _ => rfl) ?_
    refine g_go0 (Nat.le_of_ble_eq_true rfl) (Tn_w (TX13_step  h) fun _ G33 ⟨e, h⟩ => ⟨e, ?_⟩)
    exact TX13_list_96 hl3 hl4 hl5 hs0 hl7 hj0 h
def PX13_list_84 (J : Nat → List Int → gS → (Int → gS → Prop) → Prop) (l1 : Int) (l2 : Int) (l3 : Int) (l4 : Int) (l5 : Int) (l6 : Int) (l7 : Int) (G : gS) (Q : Int → gS → Prop) : Prop :=
  PX13_list_85 J l1 l2 l3 l4 l5 l6 l7 0 G Q
set_option maxRecDepth 20000 in
theorem TX13_list_84 {j : Nat → rx_K} {J : Nat → List Int → gS → (Int → gS → Prop) → Prop} {l1 : Int} {l2 : Int} {l3 : Int} {l4 : Int} {l5 : Int} {l6 : Int} {l7 : Int} {G : gS} {Q : Int → gS → Prop} (hl3 : inI l3) (hl4 : inI l4) (hl5 : inI l5) (hl6 : inI l6) (hl7 : inI l7) (hj0 : ∀ (l1 : Int) (l2 : Int) (l3 : Int) (l4 : Int) (l5 : Int) (l6 : Int) (l7 : Nat) (G : gS), (inI l3) → (inI l4) → (inI l5) → (inI l6) → (l7 % 8 ≠ 1) → J 0 [l1, l2, l3, l4, l5, l6] G Q → Tg W0 (j 0) [rf (16081), rf (l1), rf (l2), cI (l3), cI (l4), cI (l5), cI (l6), l7] [] G (fun r G => ∃ v, r = cI v ∧ inI v ∧ Q v G)) (h : PX13_list_84 J l1 l2 l3 l4 l5 l6 l7 G Q) : Tg W0 (vX13_list_84 j) [rf (16081), rf (l1), rf (l2), cI (l3), cI (l4), cI (l5), cI (l6), cI (l7)] [] G (fun r G => ∃ v, r = cI v ∧ inI v ∧ Q v G) := by
  unfold PX13_list_84 at h
  unfold vX13_list_84
  refine g_const (v := cI (0)) rfl ?_
  exact TX13_list_85 hl3 hl4 hl5 hl6 hl7 ⟨by omega, by omega⟩ hj0 h
def PX13_list_64 (J : Nat → List Int → gS → (Int → gS → Prop) → Prop) (l1 : Int) (l2 : Int) (l3 : Int) (l4 : Int) (l5 : Int) (l6 : Int) (l7 : Int) (G : gS) (Q : Int → gS → Prop) : Prop :=
  (inI (G 16081 20) → ((G 16081 20 = 0 → PX13_isSign 44 G (fun r29 G28 => (0 ≤ r29 ∧ r29 ≤ 1) → ((r29 = 0 → PX13_list_84 J l1 l2 l3 l4 l5 l6 l7 G28 Q) ∧ (¬ (r29 = 0) → PX13_list_85 J l1 l2 l3 l4 l5 l6 l7 1 G28 Q)))) ∧ (¬ (G 16081 20 = 0) → PX13_list_84 J l1 l2 l3 l4 l5 l6 l7 G Q)))
set_option maxRecDepth 20000 in
theorem TX13_list_64 {j : Nat → rx_K} {J : Nat → List Int → gS → (Int → gS → Prop) → Prop} {l1 : Int} {l2 : Int} {l3 : Int} {l4 : Int} {l5 : Int} {l6 : Int} {l7 : Int} {G : gS} {Q : Int → gS → Prop} (hl3 : inI l3) (hl4 : inI l4) (hl5 : inI l5) (hl6 : inI l6) (hl7 : inI l7) (hj0 : ∀ (l1 : Int) (l2 : Int) (l3 : Int) (l4 : Int) (l5 : Int) (l6 : Int) (l7 : Nat) (G : gS), (inI l3) → (inI l4) → (inI l5) → (inI l6) → (l7 % 8 ≠ 1) → J 0 [l1, l2, l3, l4, l5, l6] G Q → Tg W0 (j 0) [rf (16081), rf (l1), rf (l2), cI (l3), cI (l4), cI (l5), cI (l6), l7] [] G (fun r G => ∃ v, r = cI v ∧ inI v ∧ Q v G)) (h : PX13_list_64 J l1 l2 l3 l4 l5 l6 l7 G Q) : Tg W0 (vX13_list_64 j) [rf (16081), rf (l1), rf (l2), cI (l3), cI (l4), cI (l5), cI (l6), cI (l7)] [] G (fun r G => ∃ v, r = cI v ∧ inI v ∧ Q v G) := by
  unfold PX13_list_64 at h
  unfold vX13_list_64
  refine g_ld (v := rf _) rfl (is_R _) ?_
  refine g_getI (kz := 20) oC13 rfl (Nat.le_of_ble_eq_true rfl) rfl fun i26 => ?_
  replace h := h i26
  refine g_eq1 i26 (fun b27 => ?_) (fun b27 => ?_)
  · replace h := h.1 b27
    unfold vX13_list_71
    refine g_ld (v := rf _) rfl (is_R _) ?_
    refine g_const (v := cI (44)) rfl ?_
    refine g_callV (As := [_]) (ci := 13) oC13 (fun _ => rfl) ?_
    refine g_go1 (Nat.le_of_ble_eq_true rfl) (Tn_w (TX13_isSign ⟨by omega, by omega⟩ h) fun _ G28 ⟨r29, e, i30, h⟩ => ?_)
    subst e
    refine ⟨n7_I _, ?_⟩
    replace h := h i30
    refine g_eq1 ⟨by omega, by omega⟩ (fun b31 => ?_) (fun b31 => ?_)
    · replace h := h.1 b31
      exact TX13_list_84 hl3 hl4 hl5 hl6 hl7 hj0 h
    · replace h := h.2 b31
      unfold vX13_list_80
      refine g_const (v := cI (1)) rfl ?_
      exact TX13_list_85 hl3 hl4 hl5 hl6 hl7 ⟨by omega, by omega⟩ hj0 h
  · replace h := h.2 b27
    exact TX13_list_84 hl3 hl4 hl5 hl6 hl7 hj0 h
def PX13_list_25 (J : Nat → List Int → gS → (Int → gS → Prop) → Prop) (l1 : Int) (l2 : Int) (l3 : Int) (l4 : Int) (l5 : Int) (l6 : Int) (s0 : Int) (s1 : Int) (s2 : Int) (G : gS) (Q : Int → gS → Prop) : Prop :=
  (isO W0 13 (s0) ∧ PX13_want s1 s2 G (fun r5 G4 => inI r5 → (inI (G4 16081 20) → ((G4 16081 20 = 0 → PX13_nameAt r5 G4 (fun r10 G9 => inL r10 → (∃ n12, isA W0 1 n12 (l1) ∧ ((0 : Int) ≤ l3 + l5 ∧ ((l3 + l5 : Int) < n12 ∧ (∀ G16 : gS, G16 = uG G9 l1 (l3 + l5) (r10) → PX13_placeAt r5 G16 (fun r18 G17 => inI r18 → (∃ n20, isA W0 0 n20 (l2) ∧ ((0 : Int) ≤ l3 + l5 ∧ ((l3 + l5 : Int) < n20 ∧ (∀ G24 : gS, G24 = uG G17 l2 (l3 + l5) (r18) → (inI (l5 + 1) ∧ PX13_list_64 J l1 l2 l3 l4 (l5 + 1) l6 r5 G24 Q)))))))))))) ∧ (¬ (G4 16081 20 = 0) → PX13_list_64 J l1 l2 l3 l4 l5 l6 r5 G4 Q)))))
set_option maxRecDepth 20000 in
theorem TX13_list_25 {j : Nat → rx_K} {J : Nat → List Int → gS → (Int → gS → Prop) → Prop} {l1 : Int} {l2 : Int} {l3 : Int} {l4 : Int} {l5 : Int} {l6 : Int} {l7 : Nat} {s0 : Int} {s1 : Int} {s2 : Int} {G : gS} {Q : Int → gS → Prop} (hl3 : inI l3) (hl4 : inI l4) (hl5 : inI l5) (hl6 : inI l6) (hl7 : l7 % 8 ≠ 1) (hs1 : inI s1) (hs2 : inI s2) (hj0 : ∀ (l1 : Int) (l2 : Int) (l3 : Int) (l4 : Int) (l5 : Int) (l6 : Int) (l7 : Nat) (G : gS), (inI l3) → (inI l4) → (inI l5) → (inI l6) → (l7 % 8 ≠ 1) → J 0 [l1, l2, l3, l4, l5, l6] G Q → Tg W0 (j 0) [rf (16081), rf (l1), rf (l2), cI (l3), cI (l4), cI (l5), cI (l6), l7] [] G (fun r G => ∃ v, r = cI v ∧ inI v ∧ Q v G)) (h : PX13_list_25 J l1 l2 l3 l4 l5 l6 s0 s1 s2 G Q) : Tg W0 (vX13_list_25 j) [rf (16081), rf (l1), rf (l2), cI (l3), cI (l4), cI (l5), cI (l6), l7] [cI (s2), cI (s1), rf (s0)] G (fun r G => ∃ v, r = cI v ∧ inI v ∧ Q v G) := by
  unfold PX13_list_25 at h
  unfold vX13_list_25
  obtain ⟨q3, h⟩ := h
  refine g_callV (As := [_, _]) (ci := 13) q3 (fun _ => rfl) ?_
  refine g_go1 (Nat.le_of_ble_eq_true rfl) (Tn_w (Tn_eq (one13 q3) (TX13_want hs1 hs2 h)) fun _ G4 ⟨r5, e, i6, h⟩ => ?_)
  subst e
  refine ⟨n7_I _, ?_⟩
  replace h := h i6
  refine g_st (lv' := [_, _, _, _, _, _, _, _]) (is_I _) (Nat.le_of_ble_eq_true rfl) (Or.inr (n1_I _)) rfl ?_
  refine g_ld (v := rf _) rfl (is_R _) ?_
  refine g_getI (kz := 20) oC13 rfl (Nat.le_of_ble_eq_true rfl) rfl fun i7 => ?_
  replace h := h i7
  refine g_eq1 i7 (fun b8 => ?_) (fun b8 => ?_)
  · replace h := h.1 b8
    unfold vX13_list_37
    refine g_ld (v := rf _) rfl (is_R _) ?_
    refine g_ld (v := cI _) rfl (is_I _) ?_
    refine g_ld (v := cI _) rfl (is_I _) ?_
    refine g_add ?_
    refine g_ld (v := rf _) rfl (is_R _) ?_
    refine g_ld (v := cI _) rfl (is_I _) ?_
    refine g_callV (As := [_]) (ci := 13) oC13 (fun _ => rfl) ?_
    refine g_go1 (by simp only [cs_c, cs_0, ct_I, ct_L, ct_R]; exact Nat.le_of_ble_eq_true rfl) (Tn_w (TX13_nameAt i6 h) fun _ G9 ⟨r10, e, i11, h⟩ => ?_)
    subst e
    refine ⟨n7_L _, ?_⟩
    replace h := h i11
    obtain ⟨n12, q13, h⟩ := h
    obtain ⟨q14, q15, h⟩ := h
    refine g_astL q13 q14 q15 i11 (nfL q13) ?_
    replace h := h _ rfl
    refine g_ld (v := rf _) rfl (is_R _) ?_
    refine g_ld (v := cI _) rfl (is_I _) ?_
    refine g_ld (v := cI _) rfl (is_I _) ?_
    refine g_add ?_
    refine g_ld (v := rf _) rfl (is_R _) ?_
    refine g_ld (v := cI _) rfl (is_I _) ?_
    refine g_callV (As := [_]) (ci := 13) oC13 (fun _ => rfl) ?_
    refine g_go1 (by simp only [cs_c, cs_0, ct_I, ct_L, ct_R]; exact Nat.le_of_ble_eq_true rfl) (Tn_w (TX13_placeAt i6 h) fun _ G17 ⟨r18, e, i19, h⟩ => ?_)
    subst e
    refine ⟨n7_I _, ?_⟩
    replace h := h i19
    obtain ⟨n20, q21, h⟩ := h
    obtain ⟨q22, q23, h⟩ := h
    refine g_astI q21 q22 q23 i19 (nfI q21) ?_
    replace h := h _ rfl
    refine g_inc (lv' := [_, _, _, _, _, _, _, _]) rfl (Nat.le_of_ble_eq_true rfl) (Or.inr (n1_I _)) rfl ?_
    obtain ⟨q25, h⟩ := h
    exact TX13_list_64 hl3 hl4 q25 hl6 i6 hj0 h
  · replace h := h.2 b8
    exact TX13_list_64 hl3 hl4 hl5 hl6 i6 hj0 h
def PX13_list_6 (J : Nat → List Int → gS → (Int → gS → Prop) → Prop) (l1 : Int) (l2 : Int) (l3 : Int) (l4 : Int) (l5 : Int) (l6 : Int) (G : gS) (Q : Int → gS → Prop) : Prop :=
  ((l6 = 0 → Q (l5) G) ∧ (¬ (l6 = 0) → ((l5 = l4 → PX13_list_25 J l1 l2 l3 l4 l5 l6 16081 1 1 G Q) ∧ (¬ (l5 = l4) → PX13_list_25 J l1 l2 l3 l4 l5 l6 16081 1 0 G Q))))
set_option maxRecDepth 20000 in
theorem TX13_list_6 {j : Nat → rx_K} {J : Nat → List Int → gS → (Int → gS → Prop) → Prop} {l1 : Int} {l2 : Int} {l3 : Int} {l4 : Int} {l5 : Int} {l6 : Int} {l7 : Nat} {G : gS} {Q : Int → gS → Prop} (hl3 : inI l3) (hl4 : inI l4) (hl5 : inI l5) (hl6 : inI l6) (hl7 : l7 % 8 ≠ 1) (hj0 : ∀ (l1 : Int) (l2 : Int) (l3 : Int) (l4 : Int) (l5 : Int) (l6 : Int) (l7 : Nat) (G : gS), (inI l3) → (inI l4) → (inI l5) → (inI l6) → (l7 % 8 ≠ 1) → J 0 [l1, l2, l3, l4, l5, l6] G Q → Tg W0 (j 0) [rf (16081), rf (l1), rf (l2), cI (l3), cI (l4), cI (l5), cI (l6), l7] [] G (fun r G => ∃ v, r = cI v ∧ inI v ∧ Q v G)) (h : PX13_list_6 J l1 l2 l3 l4 l5 l6 G Q) : Tg W0 (vX13_list_6 j) [rf (16081), rf (l1), rf (l2), cI (l3), cI (l4), cI (l5), cI (l6), l7] [] G (fun r G => ∃ v, r = cI v ∧ inI v ∧ Q v G) := by
  unfold PX13_list_6 at h
  unfold vX13_list_6
  refine g_ld (v := cI _) rfl (is_I _) ?_
  refine g_eq1 hl6 (fun b1 => ?_) (fun b1 => ?_)
  · replace h := h.1 b1
    unfold vX13_list_99
    refine g_ld (v := cI _) rfl (is_I _) ?_
    exact g_ret1 (is_I _) ⟨_, rfl, hl5, h⟩
  · replace h := h.2 b1
    unfold vX13_list_11
    refine g_ld (v := rf _) rfl (is_R _) ?_
    refine g_const (v := cI (1)) rfl ?_
    refine g_ld (v := cI _) rfl (is_I _) ?_
    refine g_ld (v := cI _) rfl (is_I _) ?_
    refine g_eq2 hl5 hl4 (fun b2 => ?_) (fun b2 => ?_)
    · replace h := h.1 b2
      unfold vX13_list_20
      refine g_const (v := cI (1)) rfl ?_
      exact TX13_list_25 hl3 hl4 hl5 hl6 hl7 ⟨by omega, by omega⟩ ⟨by omega, by omega⟩ hj0 h
    · replace h := h.2 b2
      unfold vX13_list_24
      refine g_const (v := cI (0)) rfl ?_
      exact TX13_list_25 hl3 hl4 hl5 hl6 hl7 ⟨by omega, by omega⟩ ⟨by omega, by omega⟩ hj0 h
def PX13_list_0 (J : Nat → List Int → gS → (Int → gS → Prop) → Prop) (a1 : Int) (a2 : Int) (a3 : Int) (a4 : Int) (G : gS) (Q : Int → gS → Prop) : Prop :=
  PX13_list_6 J a1 a2 a3 a4 0 1 G Q
set_option maxRecDepth 20000 in
theorem TX13_list_0 {j : Nat → rx_K} {J : Nat → List Int → gS → (Int → gS → Prop) → Prop} {a1 : Int} {a2 : Int} {a3 : Int} {a4 : Int} {G : gS} {Q : Int → gS → Prop} (ha3 : inI a3) (ha4 : inI a4) (hj0 : ∀ (l1 : Int) (l2 : Int) (l3 : Int) (l4 : Int) (l5 : Int) (l6 : Int) (l7 : Nat) (G : gS), (inI l3) → (inI l4) → (inI l5) → (inI l6) → (l7 % 8 ≠ 1) → J 0 [l1, l2, l3, l4, l5, l6] G Q → Tg W0 (j 0) [rf (16081), rf (l1), rf (l2), cI (l3), cI (l4), cI (l5), cI (l6), l7] [] G (fun r G => ∃ v, r = cI v ∧ inI v ∧ Q v G)) (h : PX13_list_0 J a1 a2 a3 a4 G Q) : Tg W0 (vX13_list_0 j) [rf (16081), rf (a1), rf (a2), cI (a3), cI (a4), 7, 7, 7] [] G (fun r G => ∃ v, r = cI v ∧ inI v ∧ Q v G) := by
  unfold PX13_list_0 at h
  unfold vX13_list_0
  refine g_const (v := cI (0)) rfl ?_
  refine g_st (lv' := [_, _, _, _, _, _, _, _]) (is_I _) (Nat.le_of_ble_eq_true rfl) (Or.inr (n1_I _)) rfl ?_
  refine g_const (v := cI (1)) rfl ?_
  refine g_st (lv' := [_, _, _, _, _, _, _, _]) (is_I _) (Nat.le_of_ble_eq_true rfl) (Or.inr (n1_I _)) rfl ?_
  exact TX13_list_6 ha3 ha4 ⟨by omega, by omega⟩ ⟨by omega, by omega⟩ (show 7 % 8 ≠ 1 by decide) hj0 h
def PX13_list_J : Nat → Nat → List Int → gS → (Int → gS → Prop) → Prop
  | 0, _, _, _, _ => False
  | f + 1, h, L, G, Q => match h, L with
    | 0, [l1, l2, l3, l4, l5, l6] => PX13_list_6 (PX13_list_J f) l1 l2 l3 l4 l5 l6 G Q
    | _, _ => False
theorem TX13_list_J {Q : Int → gS → Prop} : ∀ f N : Nat, f ≤ N → (∀ (l1 : Int) (l2 : Int) (l3 : Int) (l4 : Int) (l5 : Int) (l6 : Int) (l7 : Nat) (G : gS), (inI l3) → (inI l4) → (inI l5) → (inI l6) → (l7 % 8 ≠ 1) → (PX13_list_J f) 0 [l1, l2, l3, l4, l5, l6] G Q → Tg W0 (rx_J vhX13_list N 0) [rf (16081), rf (l1), rf (l2), cI (l3), cI (l4), cI (l5), cI (l6), l7] [] G (fun r G => ∃ v, r = cI v ∧ inI v ∧ Q v G)) := by
  intro f
  induction f with
  | zero => exact fun N _ => fun _ _ _ _ _ _ _ _ _ _ _ _ _ h => h.elim
  | succ f ih =>
    intro N hN
    obtain ⟨M, rfl⟩ : ∃ M, N = M + 1 := ⟨N - 1, by omega⟩
    have ih := ih M (by omega)
    exact fun _ _ _ _ _ _ _ _ hl3 hl4 hl5 hl6 hl7 h => show Tg W0 (vX13_list_6 (rx_J vhX13_list M)) _ _ _ _ from TX13_list_6 hl3 hl4 hl5 hl6 hl7 ih h
def PX13_list (a1 : Int) (a2 : Int) (a3 : Int) (a4 : Int) (G : gS) (Q : Int → gS → Prop) : Prop := ∃ f : Nat, f ≤ 4000000000 ∧ PX13_list_0 (PX13_list_J f) a1 a2 a3 a4 G Q
theorem TX13_list {a1 : Int} {a2 : Int} {a3 : Int} {a4 : Int} {G : gS} {Q : Int → gS → Prop} (ha3 : inI a3) (ha4 : inI a4) (h : PX13_list a1 a2 a3 a4 G Q) : Tn W0 FX13_list [rf (16081), rf (a1), rf (a2), cI (a3), cI (a4)] G (fun r G => ∃ v, r = cI v ∧ inI v ∧ Q v G) := by
  obtain ⟨f, hf, h⟩ := h
  have hJ := TX13_list_J (Q := Q) f 4000000000 hf
  unfold FX13_list
  refine g_ent (lv' := [rf (16081), rf (a1), rf (a2), cI (a3), cI (a4), 7, 7, 7]) (flR (flR (flR (flI (flI fl0))))) (Nat.le_of_ble_eq_true rfl) rfl ?_
  exact TX13_list_0 ha3 ha4 hJ h
def PX13_effects_174 (l1 : Int) (l2 : Int) (l3 : Int) (G : gS) (Q : Int → gS → Prop) : Prop :=
  Q 0 G
set_option maxRecDepth 20000 in
theorem TX13_effects_174 {l1 : Int} {l2 : Int} {l3 : Int} {G : gS} {Q : Int → gS → Prop} (hl1 : inI l1) (hl2 : inI l2) (hl3 : inI l3) (h : PX13_effects_174 l1 l2 l3 G Q) : Tg W0 vX13_effects_174 [rf (16081), cI (l1), cI (l2), cI (l3)] [] G (fun r G => r = 7 ∧ Q 0 G) := by
  unfold PX13_effects_174 at h
  unfold vX13_effects_174
  exact g_ret0 ⟨rfl, h⟩
def PX13_effects_139 (l1 : Int) (l2 : Int) (l3 : Int) (s0 : Int) (s1 : Int) (s2 : Int) (G : gS) (Q : Int → gS → Prop) : Prop :=
  (∃ n44, isA W0 3 n44 (s0) ∧ ((0 : Int) ≤ s1 ∧ ((s1 : Int) < n44 ∧ ((0 ≤ s2 ∧ s2 ≤ 1) ∧ (∀ G49 : gS, G49 = uG G s0 s1 (s2) → ((l3 = 0 → PX13_effects_174 l1 l2 l3 G49 Q) ∧ (¬ (l3 = 0) → ((0 : Int) ≤ l2 ∧ ((l2 : Int) < 7344 ∧ (inI (G49 16116 l2) → ((G49 16116 l2 = 0 → ((0 : Int) ≤ l2 ∧ ((l2 : Int) < 7344 ∧ (∀ G57 : gS, G57 = uG G49 16119 l2 (1) → ((0 : Int) ≤ l2 ∧ ((l2 : Int) < 7344 ∧ (∀ G60 : gS, G60 = uG G57 16120 l2 (1) → ((0 : Int) ≤ l2 ∧ ((l2 : Int) < 7344 ∧ (∀ G63 : gS, G63 = uG G60 16118 l2 (3) → PX13_effects_174 l1 l2 l3 G63 Q)))))))))) ∧ (¬ (G49 16116 l2 = 0) → PX13_effects_174 l1 l2 l3 G49 Q))))))))))))
set_option maxRecDepth 20000 in
theorem TX13_effects_139 {l1 : Int} {l2 : Int} {l3 : Int} {s0 : Int} {s1 : Int} {s2 : Int} {G : gS} {Q : Int → gS → Prop} (hl1 : inI l1) (hl2 : inI l2) (hl3 : inI l3) (hs1 : inI s1) (hs2 : inI s2) (h : PX13_effects_139 l1 l2 l3 s0 s1 s2 G Q) : Tg W0 vX13_effects_139 [rf (16081), cI (l1), cI (l2), cI (l3)] [cI (s2), cI (s1), rf (s0)] G (fun r G => r = 7 ∧ Q 0 G) := by
  unfold PX13_effects_139 at h
  unfold vX13_effects_139
  obtain ⟨n44, q45, h⟩ := h
  obtain ⟨q46, q47, h⟩ := h
  obtain ⟨q48, h⟩ := h
  refine g_astZ q45 q46 q47 q48 (nfZ q45) ?_
  replace h := h _ rfl
  refine g_ld (v := cI _) rfl (is_I _) ?_
  refine g_eq1 hl3 (fun b50 => ?_) (fun b50 => ?_)
  · replace h := h.1 b50
    exact TX13_effects_174 hl1 hl2 hl3 h
  · replace h := h.2 b50
    unfold vX13_effects_144
    refine g_ld (v := rf _) rfl (is_R _) ?_
    refine g_getF (v := 16116) oC13 (hC13_42) rfl (Nat.le_of_ble_eq_true rfl) (Nat.le_of_ble_eq_true rfl) ?_
    refine g_ld (v := cI _) rfl (is_I _) ?_
    obtain ⟨q51, q52, h⟩ := h
    refine g_aldI aC16116 q51 q52 rfl fun i53 => ?_
    replace h := h i53
    refine g_eq1 i53 (fun b54 => ?_) (fun b54 => ?_)
    · replace h := h.1 b54
      unfold vX13_effects_153
      refine g_ld (v := rf _) rfl (is_R _) ?_
      refine g_getF (v := 16119) oC13 (hC13_45) rfl (Nat.le_of_ble_eq_true rfl) (Nat.le_of_ble_eq_true rfl) ?_
      refine g_ld (v := cI _) rfl (is_I _) ?_
      refine g_const (v := cI (1)) rfl ?_
      obtain ⟨q55, q56, h⟩ := h
      refine g_astZ aC16119 q55 q56 (by omega) (nfZ aC16119) ?_
      replace h := h _ rfl
      refine g_ld (v := rf _) rfl (is_R _) ?_
      refine g_getF (v := 16120) oC13 (hC13_46) rfl (Nat.le_of_ble_eq_true rfl) (Nat.le_of_ble_eq_true rfl) ?_
      refine g_ld (v := cI _) rfl (is_I _) ?_
      refine g_const (v := cI (1)) rfl ?_
      obtain ⟨q58, q59, h⟩ := h
      refine g_astZ aC16120 q58 q59 (by omega) (nfZ aC16120) ?_
      replace h := h _ rfl
      refine g_ld (v := rf _) rfl (is_R _) ?_
      refine g_getF (v := 16118) oC13 (hC13_44) rfl (Nat.le_of_ble_eq_true rfl) (Nat.le_of_ble_eq_true rfl) ?_
      refine g_ld (v := cI _) rfl (is_I _) ?_
      refine g_const (v := cI (3)) rfl ?_
      obtain ⟨q61, q62, h⟩ := h
      refine g_astI aC16118 q61 q62 ⟨by omega, by omega⟩ (nfI aC16118) ?_
      replace h := h _ rfl
      exact TX13_effects_174 hl1 hl2 hl3 h
    · replace h := h.2 b54
      exact TX13_effects_174 hl1 hl2 hl3 h
def PX13_effects_138 (l1 : Int) (l2 : Int) (l3 : Int) (s0 : Int) (s1 : Int) (G : gS) (Q : Int → gS → Prop) : Prop :=
  PX13_effects_139 l1 l2 l3 s0 s1 0 G Q
set_option maxRecDepth 20000 in
theorem TX13_effects_138 {l1 : Int} {l2 : Int} {l3 : Int} {s0 : Int} {s1 : Int} {G : gS} {Q : Int → gS → Prop} (hl1 : inI l1) (hl2 : inI l2) (hl3 : inI l3) (hs1 : inI s1) (h : PX13_effects_138 l1 l2 l3 s0 s1 G Q) : Tg W0 vX13_effects_138 [rf (16081), cI (l1), cI (l2), cI (l3)] [cI (s1), rf (s0)] G (fun r G => r = 7 ∧ Q 0 G) := by
  unfold PX13_effects_138 at h
  unfold vX13_effects_138
  refine g_const (v := cI (0)) rfl ?_
  exact TX13_effects_139 hl1 hl2 hl3 hs1 ⟨by omega, by omega⟩ h
def PX13_effects_134 (l1 : Int) (l2 : Int) (l3 : Int) (s0 : Int) (s1 : Int) (G : gS) (Q : Int → gS → Prop) : Prop :=
  PX13_effects_139 l1 l2 l3 s0 s1 1 G Q
set_option maxRecDepth 20000 in
theorem TX13_effects_134 {l1 : Int} {l2 : Int} {l3 : Int} {s0 : Int} {s1 : Int} {G : gS} {Q : Int → gS → Prop} (hl1 : inI l1) (hl2 : inI l2) (hl3 : inI l3) (hs1 : inI s1) (h : PX13_effects_134 l1 l2 l3 s0 s1 G Q) : Tg W0 vX13_effects_134 [rf (16081), cI (l1), cI (l2), cI (l3)] [cI (s1), rf (s0)] G (fun r G => r = 7 ∧ Q 0 G) := by
  unfold PX13_effects_134 at h
  unfold vX13_effects_134
  refine g_const (v := cI (1)) rfl ?_
  exact TX13_effects_139 hl1 hl2 hl3 hs1 ⟨by omega, by omega⟩ h
def PX13_effects_91 (l1 : Int) (l2 : Int) (l3 : Int) (s0 : Int) (s1 : Int) (s2 : Int) (G : gS) (Q : Int → gS → Prop) : Prop :=
  (∃ n26, isA W0 0 n26 (s0) ∧ ((0 : Int) ≤ s1 ∧ ((s1 : Int) < n26 ∧ (∀ G30 : gS, G30 = uG G s0 s1 (s2) → ((0 : Int) ≤ l2 ∧ ((l2 : Int) < 7344 ∧ (inI (G30 16116 l2) → ((G30 16116 l2 = 1 → ((l3 = 0 → ((0 : Int) ≤ l2 ∧ ((l2 : Int) < 7344 ∧ ((0 ≤ G30 16122 l2 ∧ G30 16122 l2 ≤ 1) → ((G30 16122 l2 = 0 → PX13_effects_138 l1 l2 l3 16121 l2 G30 Q) ∧ (¬ (G30 16122 l2 = 0) → PX13_effects_134 l1 l2 l3 16121 l2 G30 Q)))))) ∧ (¬ (l3 = 0) → ((0 : Int) ≤ l2 ∧ ((l2 : Int) < 7344 ∧ (inI (G30 16135 l2) → ((G30 16135 l2 = -2 → PX13_effects_134 l1 l2 l3 16121 l2 G30 Q) ∧ (¬ (G30 16135 l2 = -2) → PX13_effects_138 l1 l2 l3 16121 l2 G30 Q)))))))) ∧ (¬ (G30 16116 l2 = 1) → PX13_effects_138 l1 l2 l3 16121 l2 G30 Q)))))))))
set_option maxRecDepth 20000 in
theorem TX13_effects_91 {l1 : Int} {l2 : Int} {l3 : Int} {s0 : Int} {s1 : Int} {s2 : Int} {G : gS} {Q : Int → gS → Prop} (hl1 : inI l1) (hl2 : inI l2) (hl3 : inI l3) (hs1 : inI s1) (hs2 : inI s2) (h : PX13_effects_91 l1 l2 l3 s0 s1 s2 G Q) : Tg W0 vX13_effects_91 [rf (16081), cI (l1), cI (l2), cI (l3)] [cI (s2), cI (s1), rf (s0)] G (fun r G => r = 7 ∧ Q 0 G) := by
  unfold PX13_effects_91 at h
  unfold vX13_effects_91
  obtain ⟨n26, q27, h⟩ := h
  obtain ⟨q28, q29, h⟩ := h
  refine g_astI q27 q28 q29 hs2 (nfI q27) ?_
  replace h := h _ rfl
  refine g_ld (v := rf _) rfl (is_R _) ?_
  refine g_getF (v := 16121) oC13 (hC13_47) rfl (Nat.le_of_ble_eq_true rfl) (Nat.le_of_ble_eq_true rfl) ?_
  refine g_ld (v := cI _) rfl (is_I _) ?_
  refine g_ld (v := rf _) rfl (is_R _) ?_
  refine g_getF (v := 16116) oC13 (hC13_42) rfl (Nat.le_of_ble_eq_true rfl) (Nat.le_of_ble_eq_true rfl) ?_
  refine g_ld (v := cI _) rfl (is_I _) ?_
  obtain ⟨q31, q32, h⟩ := h
  refine g_aldI aC16116 q31 q32 rfl fun i33 => ?_
  replace h := h i33
  refine g_const (v := cI (1)) rfl ?_
  refine g_eq2 i33 ⟨by omega, by omega⟩ (fun b34 => ?_) (fun b34 => ?_)
  · replace h := h.1 b34
    unfold vX13_effects_107
    refine g_ld (v := cI _) rfl (is_I _) ?_
    refine g_eq1 hl3 (fun b35 => ?_) (fun b35 => ?_)
    · replace h := h.1 b35
      unfold vX13_effects_125
      refine g_ld (v := rf _) rfl (is_R _) ?_
      refine g_getF (v := 16122) oC13 (hC13_48) rfl (Nat.le_of_ble_eq_true rfl) (Nat.le_of_ble_eq_true rfl) ?_
      refine g_ld (v := cI _) rfl (is_I _) ?_
      obtain ⟨q36, q37, h⟩ := h
      refine g_aldZ aC16122 q36 q37 rfl fun i38 => ?_
      replace h := h i38
      refine g_eq1 ⟨by omega, by omega⟩ (fun b39 => ?_) (fun b39 => ?_)
      · replace h := h.1 b39
        exact TX13_effects_138 hl1 hl2 hl3 hl2 h
      · replace h := h.2 b39
        exact TX13_effects_134 hl1 hl2 hl3 hl2 h
    · replace h := h.2 b35
      unfold vX13_effects_111
      refine g_ld (v := rf _) rfl (is_R _) ?_
      refine g_getF (v := 16135) oC13 (hC13_61) rfl (Nat.le_of_ble_eq_true rfl) (Nat.le_of_ble_eq_true rfl) ?_
      refine g_ld (v := cI _) rfl (is_I _) ?_
      obtain ⟨q40, q41, h⟩ := h
      refine g_aldI aC16135 q40 q41 rfl fun i42 => ?_
      replace h := h i42
      refine g_const (v := cI (-2)) rfl ?_
      refine g_eq2 i42 ⟨by omega, by omega⟩ (fun b43 => ?_) (fun b43 => ?_)
      · replace h := h.1 b43
        unfold vX13_effects_122
        exact TX13_effects_134 hl1 hl2 hl3 hl2 h
      · replace h := h.2 b43
        exact TX13_effects_138 hl1 hl2 hl3 hl2 h
  · replace h := h.2 b34
    exact TX13_effects_138 hl1 hl2 hl3 hl2 h
def PX13_effects_90 (l1 : Int) (l2 : Int) (l3 : Int) (s0 : Int) (s1 : Int) (G : gS) (Q : Int → gS → Prop) : Prop :=
  PX13_effects_91 l1 l2 l3 s0 s1 1 G Q
set_option maxRecDepth 20000 in
theorem TX13_effects_90 {l1 : Int} {l2 : Int} {l3 : Int} {s0 : Int} {s1 : Int} {G : gS} {Q : Int → gS → Prop} (hl1 : inI l1) (hl2 : inI l2) (hl3 : inI l3) (hs1 : inI s1) (h : PX13_effects_90 l1 l2 l3 s0 s1 G Q) : Tg W0 vX13_effects_90 [rf (16081), cI (l1), cI (l2), cI (l3)] [cI (s1), rf (s0)] G (fun r G => r = 7 ∧ Q 0 G) := by
  unfold PX13_effects_90 at h
  unfold vX13_effects_90
  refine g_const (v := cI (1)) rfl ?_
  exact TX13_effects_91 hl1 hl2 hl3 hs1 ⟨by omega, by omega⟩ h
def PX13_effects_86 (l1 : Int) (l2 : Int) (l3 : Int) (s0 : Int) (s1 : Int) (G : gS) (Q : Int → gS → Prop) : Prop :=
  PX13_effects_91 l1 l2 l3 s0 s1 3 G Q
set_option maxRecDepth 20000 in
theorem TX13_effects_86 {l1 : Int} {l2 : Int} {l3 : Int} {s0 : Int} {s1 : Int} {G : gS} {Q : Int → gS → Prop} (hl1 : inI l1) (hl2 : inI l2) (hl3 : inI l3) (hs1 : inI s1) (h : PX13_effects_86 l1 l2 l3 s0 s1 G Q) : Tg W0 vX13_effects_86 [rf (16081), cI (l1), cI (l2), cI (l3)] [cI (s1), rf (s0)] G (fun r G => r = 7 ∧ Q 0 G) := by
  unfold PX13_effects_86 at h
  unfold vX13_effects_86
  refine g_const (v := cI (3)) rfl ?_
  exact TX13_effects_91 hl1 hl2 hl3 hs1 ⟨by omega, by omega⟩ h
def PX13_effects_15 (l1 : Int) (l2 : Int) (s0 : Int) (G : gS) (Q : Int → gS → Prop) : Prop :=
  ((0 : Int) ≤ l2 ∧ ((l2 : Int) < 7344 ∧ (inI (G 16117 l2) → ((G 16117 l2 = 1 → PX13_effects_91 l1 l2 s0 16118 l2 3 G Q) ∧ (¬ (G 16117 l2 = 1) → ((0 : Int) ≤ l2 ∧ ((l2 : Int) < 7344 ∧ (inI (G 16117 l2) → ((G 16117 l2 = 2 → PX13_effects_91 l1 l2 s0 16118 l2 2 G Q) ∧ (¬ (G 16117 l2 = 2) → ((0 : Int) ≤ l2 ∧ ((l2 : Int) < 7344 ∧ (inI (G 16117 l2) → ((G 16117 l2 = 3 → PX13_effects_91 l1 l2 s0 16118 l2 0 G Q) ∧ (¬ (G 16117 l2 = 3) → ((s0 = 0 → PX13_effects_90 l1 l2 s0 16118 l2 G Q) ∧ (¬ (s0 = 0) → ((0 : Int) ≤ l2 ∧ ((l2 : Int) < 7344 ∧ (inI (G 16116 l2) → ((G 16116 l2 = 0 → PX13_effects_86 l1 l2 s0 16118 l2 G Q) ∧ (¬ (G 16116 l2 = 0) → ((0 : Int) ≤ l2 ∧ ((l2 : Int) < 7344 ∧ (inI (G 16116 l2) → ((G 16116 l2 = 1 → PX13_effects_86 l1 l2 s0 16118 l2 G Q) ∧ (¬ (G 16116 l2 = 1) → PX13_effects_90 l1 l2 s0 16118 l2 G Q)))))))))))))))))))))))))))
set_option maxRecDepth 20000 in
theorem TX13_effects_15 {l1 : Int} {l2 : Int} {l3 : Nat} {s0 : Int} {G : gS} {Q : Int → gS → Prop} (hl1 : inI l1) (hl2 : inI l2) (hl3 : l3 % 8 ≠ 1) (hs0 : inI s0) (h : PX13_effects_15 l1 l2 s0 G Q) : Tg W0 vX13_effects_15 [rf (16081), cI (l1), cI (l2), l3] [cI (s0)] G (fun r G => r = 7 ∧ Q 0 G) := by
  unfold PX13_effects_15 at h
  unfold vX13_effects_15
  refine g_st (lv' := [_, _, _, _]) (is_I _) (Nat.le_of_ble_eq_true rfl) (Or.inr (n1_I _)) rfl ?_
  refine g_ld (v := rf _) rfl (is_R _) ?_
  refine g_getF (v := 16118) oC13 (hC13_44) rfl (Nat.le_of_ble_eq_true rfl) (Nat.le_of_ble_eq_true rfl) ?_
  refine g_ld (v := cI _) rfl (is_I _) ?_
  refine g_ld (v := rf _) rfl (is_R _) ?_
  refine g_getF (v := 16117) oC13 (hC13_43) rfl (Nat.le_of_ble_eq_true rfl) (Nat.le_of_ble_eq_true rfl) ?_
  refine g_ld (v := cI _) rfl (is_I _) ?_
  obtain ⟨q5, q6, h⟩ := h
  refine g_aldI aC16117 q5 q6 rfl fun i7 => ?_
  replace h := h i7
  refine g_const (v := cI (1)) rfl ?_
  refine g_eq2 i7 ⟨by omega, by omega⟩ (fun b8 => ?_) (fun b8 => ?_)
  · replace h := h.1 b8
    unfold vX13_effects_31
    refine g_const (v := cI (3)) rfl ?_
    exact TX13_effects_91 hl1 hl2 hs0 hl2 ⟨by omega, by omega⟩ h
  · replace h := h.2 b8
    unfold vX13_effects_35
    refine g_ld (v := rf _) rfl (is_R _) ?_
    refine g_getF (v := 16117) oC13 (hC13_43) rfl (Nat.le_of_ble_eq_true rfl) (Nat.le_of_ble_eq_true rfl) ?_
    refine g_ld (v := cI _) rfl (is_I _) ?_
    obtain ⟨q9, q10, h⟩ := h
    refine g_aldI aC16117 q9 q10 rfl fun i11 => ?_
    replace h := h i11
    refine g_const (v := cI (2)) rfl ?_
    refine g_eq2 i11 ⟨by omega, by omega⟩ (fun b12 => ?_) (fun b12 => ?_)
    · replace h := h.1 b12
      unfold vX13_effects_45
      refine g_const (v := cI (2)) rfl ?_
      exact TX13_effects_91 hl1 hl2 hs0 hl2 ⟨by omega, by omega⟩ h
    · replace h := h.2 b12
      unfold vX13_effects_49
      refine g_ld (v := rf _) rfl (is_R _) ?_
      refine g_getF (v := 16117) oC13 (hC13_43) rfl (Nat.le_of_ble_eq_true rfl) (Nat.le_of_ble_eq_true rfl) ?_
      refine g_ld (v := cI _) rfl (is_I _) ?_
      obtain ⟨q13, q14, h⟩ := h
      refine g_aldI aC16117 q13 q14 rfl fun i15 => ?_
      replace h := h i15
      refine g_const (v := cI (3)) rfl ?_
      refine g_eq2 i15 ⟨by omega, by omega⟩ (fun b16 => ?_) (fun b16 => ?_)
      · replace h := h.1 b16
        unfold vX13_effects_59
        refine g_const (v := cI (0)) rfl ?_
        exact TX13_effects_91 hl1 hl2 hs0 hl2 ⟨by omega, by omega⟩ h
      · replace h := h.2 b16
        unfold vX13_effects_63
        refine g_ld (v := cI _) rfl (is_I _) ?_
        refine g_eq1 hs0 (fun b17 => ?_) (fun b17 => ?_)
        · replace h := h.1 b17
          exact TX13_effects_90 hl1 hl2 hs0 hl2 h
        · replace h := h.2 b17
          unfold vX13_effects_67
          refine g_ld (v := rf _) rfl (is_R _) ?_
          refine g_getF (v := 16116) oC13 (hC13_42) rfl (Nat.le_of_ble_eq_true rfl) (Nat.le_of_ble_eq_true rfl) ?_
          refine g_ld (v := cI _) rfl (is_I _) ?_
          obtain ⟨q18, q19, h⟩ := h
          refine g_aldI aC16116 q18 q19 rfl fun i20 => ?_
          replace h := h i20
          refine g_eq1 i20 (fun b21 => ?_) (fun b21 => ?_)
          · replace h := h.1 b21
            exact TX13_effects_86 hl1 hl2 hs0 hl2 h
          · replace h := h.2 b21
            unfold vX13_effects_76
            refine g_ld (v := rf _) rfl (is_R _) ?_
            refine g_getF (v := 16116) oC13 (hC13_42) rfl (Nat.le_of_ble_eq_true rfl) (Nat.le_of_ble_eq_true rfl) ?_
            refine g_ld (v := cI _) rfl (is_I _) ?_
            obtain ⟨q22, q23, h⟩ := h
            refine g_aldI aC16116 q22 q23 rfl fun i24 => ?_
            replace h := h i24
            refine g_const (v := cI (1)) rfl ?_
            refine g_eq2 i24 ⟨by omega, by omega⟩ (fun b25 => ?_) (fun b25 => ?_)
            · replace h := h.1 b25
              exact TX13_effects_86 hl1 hl2 hs0 hl2 h
            · replace h := h.2 b25
              exact TX13_effects_90 hl1 hl2 hs0 hl2 h
def PX13_effects_0 (a1 : Int) (a2 : Int) (G : gS) (Q : Int → gS → Prop) : Prop :=
  ((0 : Int) ≤ a1 ∧ ((a1 : Int) < 216 ∧ (inI (G 16101 a1) → ((G 16101 a1 = 3 → PX13_effects_15 a1 a2 1 G Q) ∧ (¬ (G 16101 a1 = 3) → PX13_effects_15 a1 a2 0 G Q)))))
set_option maxRecDepth 20000 in
theorem TX13_effects_0 {a1 : Int} {a2 : Int} {G : gS} {Q : Int → gS → Prop} (ha1 : inI a1) (ha2 : inI a2) (h : PX13_effects_0 a1 a2 G Q) : Tg W0 vX13_effects_0 [rf (16081), cI (a1), cI (a2), 7] [] G (fun r G => r = 7 ∧ Q 0 G) := by
  unfold PX13_effects_0 at h
  unfold vX13_effects_0
  refine g_ld (v := rf _) rfl (is_R _) ?_
  refine g_getF (v := 16101) oC13 (hC13_27) rfl (Nat.le_of_ble_eq_true rfl) (Nat.le_of_ble_eq_true rfl) ?_
  refine g_ld (v := cI _) rfl (is_I _) ?_
  obtain ⟨q1, q2, h⟩ := h
  refine g_aldI aC16101 q1 q2 rfl fun i3 => ?_
  replace h := h i3
  refine g_const (v := cI (3)) rfl ?_
  refine g_eq2 i3 ⟨by omega, by omega⟩ (fun b4 => ?_) (fun b4 => ?_)
  · replace h := h.1 b4
    unfold vX13_effects_10
    refine g_const (v := cI (1)) rfl ?_
    exact TX13_effects_15 ha1 ha2 (show 7 % 8 ≠ 1 by decide) ⟨by omega, by omega⟩ h
  · replace h := h.2 b4
    unfold vX13_effects_14
    refine g_const (v := cI (0)) rfl ?_
    exact TX13_effects_15 ha1 ha2 (show 7 % 8 ≠ 1 by decide) ⟨by omega, by omega⟩ h
abbrev PX13_effects (a1 : Int) (a2 : Int) (G : gS) (Q : Int → gS → Prop) : Prop := PX13_effects_0 a1 a2 G Q
theorem TX13_effects {a1 : Int} {a2 : Int} {G : gS} {Q : Int → gS → Prop} (ha1 : inI a1) (ha2 : inI a2) (h : PX13_effects a1 a2 G Q) : Tn W0 FX13_effects [rf (16081), cI (a1), cI (a2)] G (fun r G => r = 7 ∧ Q 0 G) := by
  unfold FX13_effects
  refine g_ent (lv' := [rf (16081), cI (a1), cI (a2), 7]) (flR (flI (flI fl0))) (Nat.le_of_ble_eq_true rfl) rfl ?_
  exact TX13_effects_0 ha1 ha2 h
def PX13_newMember_0 (a1 : Int) (G : gS) (Q : Int → gS → Prop) : Prop :=
  ((0 : Int) ≤ a1 ∧ ((a1 : Int) < 7344 ∧ (∀ G3 : gS, G3 = uG G 16119 a1 (0) → ((0 : Int) ≤ a1 ∧ ((a1 : Int) < 7344 ∧ (∀ G6 : gS, G6 = uG G3 16120 a1 (0) → ((0 : Int) ≤ a1 ∧ ((a1 : Int) < 7344 ∧ (∀ G9 : gS, G9 = uG G6 16122 a1 (0) → ((0 : Int) ≤ a1 ∧ ((a1 : Int) < 7344 ∧ (∀ G12 : gS, G12 = uG G9 16123 a1 (0) → ((0 : Int) ≤ a1 ∧ ((a1 : Int) < 7344 ∧ (∀ G15 : gS, G15 = uG G12 16124 a1 (0) → ((0 : Int) ≤ a1 ∧ ((a1 : Int) < 7344 ∧ (∀ G18 : gS, G18 = uG G15 16125 a1 (0) → ((0 : Int) ≤ a1 ∧ ((a1 : Int) < 7344 ∧ (∀ G21 : gS, G21 = uG G18 16127 a1 (1) → ((0 : Int) ≤ a1 ∧ ((a1 : Int) < 7344 ∧ (∀ G24 : gS, G24 = uG G21 16129 a1 (0) → ((0 : Int) ≤ a1 ∧ ((a1 : Int) < 7344 ∧ (∀ G27 : gS, G27 = uG G24 16134 a1 (-2) → ((0 : Int) ≤ a1 ∧ ((a1 : Int) < 7344 ∧ (∀ G30 : gS, G30 = uG G27 16135 a1 (-2) → ((0 : Int) ≤ a1 ∧ ((a1 : Int) < 7344 ∧ (∀ G33 : gS, G33 = uG G30 16136 a1 (0) → ((0 : Int) ≤ a1 ∧ ((a1 : Int) < 7344 ∧ (∀ G36 : gS, G36 = uG G33 16137 a1 (0) → ((0 : Int) ≤ a1 ∧ ((a1 : Int) < 7344 ∧ (∀ G39 : gS, G39 = uG G36 16138 a1 (0) → ((0 : Int) ≤ a1 ∧ ((a1 : Int) < 7344 ∧ (∀ G42 : gS, G42 = uG G39 16139 a1 (0) → ((0 : Int) ≤ a1 ∧ ((a1 : Int) < 7344 ∧ (∀ G45 : gS, G45 = uG G42 16140 a1 (0) → ((0 : Int) ≤ a1 ∧ ((a1 : Int) < 7344 ∧ (∀ G48 : gS, G48 = uG G45 16141 a1 (-2) → ((0 : Int) ≤ a1 ∧ ((a1 : Int) < 7344 ∧ (∀ G51 : gS, G51 = uG G48 16142 a1 (0) → Q 0 G51)))))))))))))))))))))))))))))))))))))))))))))))))))
set_option maxRecDepth 20000 in
theorem TX13_newMember_0 {a1 : Int} {G : gS} {Q : Int → gS → Prop} (ha1 : inI a1) (h : PX13_newMember_0 a1 G Q) : Tg W0 vX13_newMember_0 [rf (16081), cI (a1)] [] G (fun r G => r = 7 ∧ Q 0 G) := by
  unfold PX13_newMember_0 at h
  unfold vX13_newMember_0
  refine g_ld (v := rf _) rfl (is_R _) ?_
  refine g_getF (v := 16119) oC13 (hC13_45) rfl (Nat.le_of_ble_eq_true rfl) (Nat.le_of_ble_eq_true rfl) ?_
  refine g_ld (v := cI _) rfl (is_I _) ?_
  refine g_const (v := cI (0)) rfl ?_
  obtain ⟨q1, q2, h⟩ := h
  refine g_astZ aC16119 q1 q2 (by omega) (nfZ aC16119) ?_
  replace h := h _ rfl
  refine g_ld (v := rf _) rfl (is_R _) ?_
  refine g_getF (v := 16120) oC13 (hC13_46) rfl (Nat.le_of_ble_eq_true rfl) (Nat.le_of_ble_eq_true rfl) ?_
  refine g_ld (v := cI _) rfl (is_I _) ?_
  refine g_const (v := cI (0)) rfl ?_
  obtain ⟨q4, q5, h⟩ := h
  refine g_astZ aC16120 q4 q5 (by omega) (nfZ aC16120) ?_
  replace h := h _ rfl
  refine g_ld (v := rf _) rfl (is_R _) ?_
  refine g_getF (v := 16122) oC13 (hC13_48) rfl (Nat.le_of_ble_eq_true rfl) (Nat.le_of_ble_eq_true rfl) ?_
  refine g_ld (v := cI _) rfl (is_I _) ?_
  refine g_const (v := cI (0)) rfl ?_
  obtain ⟨q7, q8, h⟩ := h
  refine g_astZ aC16122 q7 q8 (by omega) (nfZ aC16122) ?_
  replace h := h _ rfl
  refine g_ld (v := rf _) rfl (is_R _) ?_
  refine g_getF (v := 16123) oC13 (hC13_49) rfl (Nat.le_of_ble_eq_true rfl) (Nat.le_of_ble_eq_true rfl) ?_
  refine g_ld (v := cI _) rfl (is_I _) ?_
  refine g_const (v := cI (0)) rfl ?_
  obtain ⟨q10, q11, h⟩ := h
  refine g_astZ aC16123 q10 q11 (by omega) (nfZ aC16123) ?_
  replace h := h _ rfl
  refine g_ld (v := rf _) rfl (is_R _) ?_
  refine g_getF (v := 16124) oC13 (hC13_50) rfl (Nat.le_of_ble_eq_true rfl) (Nat.le_of_ble_eq_true rfl) ?_
  refine g_ld (v := cI _) rfl (is_I _) ?_
  refine g_const (v := cI (0)) rfl ?_
  unfold vX13_newMember_34
  obtain ⟨q13, q14, h⟩ := h
  refine g_astZ aC16124 q13 q14 (by omega) (nfZ aC16124) ?_
  replace h := h _ rfl
  refine g_ld (v := rf _) rfl (is_R _) ?_
  refine g_getF (v := 16125) oC13 (hC13_51) rfl (Nat.le_of_ble_eq_true rfl) (Nat.le_of_ble_eq_true rfl) ?_
  refine g_ld (v := cI _) rfl (is_I _) ?_
  refine g_const (v := cL (0)) rfl ?_
  obtain ⟨q16, q17, h⟩ := h
  refine g_astL aC16125 q16 q17 ⟨by omega, by omega⟩ (nfL aC16125) ?_
  replace h := h _ rfl
  refine g_ld (v := rf _) rfl (is_R _) ?_
  refine g_getF (v := 16127) oC13 (hC13_53) rfl (Nat.le_of_ble_eq_true rfl) (Nat.le_of_ble_eq_true rfl) ?_
  refine g_ld (v := cI _) rfl (is_I _) ?_
  refine g_const (v := cL (1)) rfl ?_
  obtain ⟨q19, q20, h⟩ := h
  refine g_astL aC16127 q19 q20 ⟨by omega, by omega⟩ (nfL aC16127) ?_
  replace h := h _ rfl
  refine g_ld (v := rf _) rfl (is_R _) ?_
  refine g_getF (v := 16129) oC13 (hC13_55) rfl (Nat.le_of_ble_eq_true rfl) (Nat.le_of_ble_eq_true rfl) ?_
  refine g_ld (v := cI _) rfl (is_I _) ?_
  refine g_const (v := cI (0)) rfl ?_
  obtain ⟨q22, q23, h⟩ := h
  refine g_astI aC16129 q22 q23 ⟨by omega, by omega⟩ (nfI aC16129) ?_
  replace h := h _ rfl
  refine g_ld (v := rf _) rfl (is_R _) ?_
  refine g_getF (v := 16134) oC13 (hC13_60) rfl (Nat.le_of_ble_eq_true rfl) (Nat.le_of_ble_eq_true rfl) ?_
  refine g_ld (v := cI _) rfl (is_I _) ?_
  refine g_const (v := cI (-2)) rfl ?_
  obtain ⟨q25, q26, h⟩ := h
  refine g_astI aC16134 q25 q26 ⟨by omega, by omega⟩ (nfI aC16134) ?_
  replace h := h _ rfl
  refine g_ld (v := rf _) rfl (is_R _) ?_
  refine g_getF (v := 16135) oC13 (hC13_61) rfl (Nat.le_of_ble_eq_true rfl) (Nat.le_of_ble_eq_true rfl) ?_
  refine g_ld (v := cI _) rfl (is_I _) ?_
  unfold vX13_newMember_69
  refine g_const (v := cI (-2)) rfl ?_
  obtain ⟨q28, q29, h⟩ := h
  refine g_astI aC16135 q28 q29 ⟨by omega, by omega⟩ (nfI aC16135) ?_
  replace h := h _ rfl
  refine g_ld (v := rf _) rfl (is_R _) ?_
  refine g_getF (v := 16136) oC13 (hC13_62) rfl (Nat.le_of_ble_eq_true rfl) (Nat.le_of_ble_eq_true rfl) ?_
  refine g_ld (v := cI _) rfl (is_I _) ?_
  refine g_const (v := cI (0)) rfl ?_
  obtain ⟨q31, q32, h⟩ := h
  refine g_astI aC16136 q31 q32 ⟨by omega, by omega⟩ (nfI aC16136) ?_
  replace h := h _ rfl
  refine g_ld (v := rf _) rfl (is_R _) ?_
  refine g_getF (v := 16137) oC13 (hC13_63) rfl (Nat.le_of_ble_eq_true rfl) (Nat.le_of_ble_eq_true rfl) ?_
  refine g_ld (v := cI _) rfl (is_I _) ?_
  refine g_const (v := cI (0)) rfl ?_
  obtain ⟨q34, q35, h⟩ := h
  refine g_astI aC16137 q34 q35 ⟨by omega, by omega⟩ (nfI aC16137) ?_
  replace h := h _ rfl
  refine g_ld (v := rf _) rfl (is_R _) ?_
  refine g_getF (v := 16138) oC13 (hC13_64) rfl (Nat.le_of_ble_eq_true rfl) (Nat.le_of_ble_eq_true rfl) ?_
  refine g_ld (v := cI _) rfl (is_I _) ?_
  refine g_const (v := cI (0)) rfl ?_
  obtain ⟨q37, q38, h⟩ := h
  refine g_astZ aC16138 q37 q38 (by omega) (nfZ aC16138) ?_
  replace h := h _ rfl
  refine g_ld (v := rf _) rfl (is_R _) ?_
  refine g_getF (v := 16139) oC13 (hC13_65) rfl (Nat.le_of_ble_eq_true rfl) (Nat.le_of_ble_eq_true rfl) ?_
  refine g_ld (v := cI _) rfl (is_I _) ?_
  refine g_const (v := cI (0)) rfl ?_
  obtain ⟨q40, q41, h⟩ := h
  refine g_astI aC16139 q40 q41 ⟨by omega, by omega⟩ (nfI aC16139) ?_
  replace h := h _ rfl
  refine g_ld (v := rf _) rfl (is_R _) ?_
  refine g_getF (v := 16140) oC13 (hC13_66) rfl (Nat.le_of_ble_eq_true rfl) (Nat.le_of_ble_eq_true rfl) ?_
  unfold vX13_newMember_104
  refine g_ld (v := cI _) rfl (is_I _) ?_
  refine g_const (v := cL (0)) rfl ?_
  obtain ⟨q43, q44, h⟩ := h
  refine g_astL aC16140 q43 q44 ⟨by omega, by omega⟩ (nfL aC16140) ?_
  replace h := h _ rfl
  refine g_ld (v := rf _) rfl (is_R _) ?_
  refine g_getF (v := 16141) oC13 (hC13_67) rfl (Nat.le_of_ble_eq_true rfl) (Nat.le_of_ble_eq_true rfl) ?_
  refine g_ld (v := cI _) rfl (is_I _) ?_
  refine g_const (v := cI (-2)) rfl ?_
  obtain ⟨q46, q47, h⟩ := h
  refine g_astI aC16141 q46 q47 ⟨by omega, by omega⟩ (nfI aC16141) ?_
  replace h := h _ rfl
  refine g_ld (v := rf _) rfl (is_R _) ?_
  refine g_getF (v := 16142) oC13 (hC13_68) rfl (Nat.le_of_ble_eq_true rfl) (Nat.le_of_ble_eq_true rfl) ?_
  refine g_ld (v := cI _) rfl (is_I _) ?_
  refine g_const (v := cI (0)) rfl ?_
  obtain ⟨q49, q50, h⟩ := h
  refine g_astI aC16142 q49 q50 ⟨by omega, by omega⟩ (nfI aC16142) ?_
  replace h := h _ rfl
  exact g_ret0 ⟨rfl, h⟩
abbrev PX13_newMember (a1 : Int) (G : gS) (Q : Int → gS → Prop) : Prop := PX13_newMember_0 a1 G Q
theorem TX13_newMember {a1 : Int} {G : gS} {Q : Int → gS → Prop} (ha1 : inI a1) (h : PX13_newMember a1 G Q) : Tn W0 FX13_newMember [rf (16081), cI (a1)] G (fun r G => r = 7 ∧ Q 0 G) := by
  unfold FX13_newMember
  refine g_ent (lv' := [rf (16081), cI (a1)]) (flR (flI fl0)) (Nat.le_of_ble_eq_true rfl) rfl ?_
  exact TX13_newMember_0 ha1 h
def PX13_inSlot_3 (J : Nat → List Int → gS → (Int → gS → Prop) → Prop) (l1 : Int) (l2 : Int) (l4 : Int) (G : gS) (Q : Int → gS → Prop) : Prop :=
  ((0 : Int) ≤ l1 ∧ ((l1 : Int) < 18 ∧ (inI (G 16097 l1) → ((l4 < G 16097 l1 → ((0 : Int) ≤ (l1 * 12) + l4 ∧ (((l1 * 12) + l4 : Int) < 216 ∧ (inL (G 16098 ((l1 * 12) + l4)) → ((G 16098 ((l1 * 12) + l4) = l2 → (inI ((l1 * 12) + l4) ∧ Q ((l1 * 12) + l4) G)) ∧ (¬ (G 16098 ((l1 * 12) + l4) = l2) → (inI (l4 + 1) ∧ J 0 [l1, l2, l4 + 1] G Q))))))) ∧ (¬ (l4 < G 16097 l1) → Q (-2) G)))))
set_option maxRecDepth 20000 in
theorem TX13_inSlot_3 {j : Nat → rx_K} {J : Nat → List Int → gS → (Int → gS → Prop) → Prop} {l1 : Int} {l2 : Int} {l3 : Nat} {l4 : Int} {G : gS} {Q : Int → gS → Prop} (hl1 : inI l1) (hl2 : inL l2) (hl3 : l3 % 8 ≠ 1) (hl4 : inI l4) (hj0 : ∀ (l1 : Int) (l2 : Int) (l3 : Nat) (l4 : Int) (G : gS), (inI l1) → (inL l2) → (l3 % 8 ≠ 1) → (inI l4) → J 0 [l1, l2, l4] G Q → Tg W0 (j 0) [rf (16081), cI (l1), cL (l2), l3, cI (l4)] [] G (fun r G => ∃ v, r = cI v ∧ inI v ∧ Q v G)) (h : PX13_inSlot_3 J l1 l2 l4 G Q) : Tg W0 (vX13_inSlot_3 j) [rf (16081), cI (l1), cL (l2), l3, cI (l4)] [] G (fun r G => ∃ v, r = cI v ∧ inI v ∧ Q v G) := by
  unfold PX13_inSlot_3 at h
  unfold vX13_inSlot_3
  refine g_ld (v := cI _) rfl (is_I _) ?_
  refine g_ld (v := rf _) rfl (is_R _) ?_
  refine g_getF (v := 16097) oC13 (hC13_23) rfl (Nat.le_of_ble_eq_true rfl) (Nat.le_of_ble_eq_true rfl) ?_
  refine g_ld (v := cI _) rfl (is_I _) ?_
  obtain ⟨q1, q2, h⟩ := h
  refine g_aldI aC16097 q1 q2 rfl fun i3 => ?_
  replace h := h i3
  refine g_lt2 hl4 i3 (fun b4 => ?_) (fun b4 => ?_)
  · replace h := h.1 b4
    unfold vX13_inSlot_14
    refine g_ld (v := rf _) rfl (is_R _) ?_
    refine g_getF (v := 16098) oC13 (hC13_24) rfl (Nat.le_of_ble_eq_true rfl) (Nat.le_of_ble_eq_true rfl) ?_
    refine g_ld (v := cI _) rfl (is_I _) ?_
    refine g_const (v := cI (12)) rfl ?_
    refine g_mul ?_
    refine g_ld (v := cI _) rfl (is_I _) ?_
    refine g_add ?_
    obtain ⟨q5, q6, h⟩ := h
    refine g_aldL aC16098 q5 q6 rfl fun i7 => ?_
    replace h := h i7
    refine g_ld (v := cL _) rfl (is_L _) ?_
    refine g_leq i7 hl2 (fun b8 => ?_) (fun b8 => ?_)
    · replace h := h.1 b8
      unfold vX13_inSlot_31
      refine g_ld (v := cI _) rfl (is_I _) ?_
      refine g_const (v := cI (12)) rfl ?_
      refine g_mul ?_
      refine g_ld (v := cI _) rfl (is_I _) ?_
      refine g_add ?_
      obtain ⟨q9, h⟩ := h
      exact g_ret1 (is_I _) ⟨_, rfl, q9, h⟩
    · replace h := h.2 b8
      unfold vX13_inSlot_39
      refine g_inc (lv' := [_, _, _, _, _]) rfl (Nat.le_of_ble_eq_true rfl) (Or.inr hl3) rfl ?_
      obtain ⟨q10, h⟩ := h
      exact hj0 _ _ _ _ _ hl1 hl2 hl3 q10 h
  · replace h := h.2 b4
    unfold vX13_inSlot_45
    refine g_const (v := cI (-2)) rfl ?_
    exact g_ret1 (is_I _) ⟨_, rfl, ⟨by omega, by omega⟩, h⟩
def PX13_inSlot_0 (J : Nat → List Int → gS → (Int → gS → Prop) → Prop) (a1 : Int) (a2 : Int) (G : gS) (Q : Int → gS → Prop) : Prop :=
  PX13_inSlot_3 J a1 a2 0 G Q
set_option maxRecDepth 20000 in
theorem TX13_inSlot_0 {j : Nat → rx_K} {J : Nat → List Int → gS → (Int → gS → Prop) → Prop} {a1 : Int} {a2 : Int} {G : gS} {Q : Int → gS → Prop} (ha1 : inI a1) (ha2 : inL a2) (hj0 : ∀ (l1 : Int) (l2 : Int) (l3 : Nat) (l4 : Int) (G : gS), (inI l1) → (inL l2) → (l3 % 8 ≠ 1) → (inI l4) → J 0 [l1, l2, l4] G Q → Tg W0 (j 0) [rf (16081), cI (l1), cL (l2), l3, cI (l4)] [] G (fun r G => ∃ v, r = cI v ∧ inI v ∧ Q v G)) (h : PX13_inSlot_0 J a1 a2 G Q) : Tg W0 (vX13_inSlot_0 j) [rf (16081), cI (a1), cL (a2), 7, 7] [] G (fun r G => ∃ v, r = cI v ∧ inI v ∧ Q v G) := by
  unfold PX13_inSlot_0 at h
  unfold vX13_inSlot_0
  refine g_const (v := cI (0)) rfl ?_
  refine g_st (lv' := [_, _, _, _, _]) (is_I _) (Nat.le_of_ble_eq_true rfl) (Or.inr (show 7 % 8 ≠ 1 by decide)) rfl ?_
  exact TX13_inSlot_3 ha1 ha2 (show 7 % 8 ≠ 1 by decide) ⟨by omega, by omega⟩ hj0 h
def PX13_inSlot_J : Nat → Nat → List Int → gS → (Int → gS → Prop) → Prop
  | 0, _, _, _, _ => False
  | f + 1, h, L, G, Q => match h, L with
    | 0, [l1, l2, l4] => PX13_inSlot_3 (PX13_inSlot_J f) l1 l2 l4 G Q
    | _, _ => False
theorem TX13_inSlot_J {Q : Int → gS → Prop} : ∀ f N : Nat, f ≤ N → (∀ (l1 : Int) (l2 : Int) (l3 : Nat) (l4 : Int) (G : gS), (inI l1) → (inL l2) → (l3 % 8 ≠ 1) → (inI l4) → (PX13_inSlot_J f) 0 [l1, l2, l4] G Q → Tg W0 (rx_J vhX13_inSlot N 0) [rf (16081), cI (l1), cL (l2), l3, cI (l4)] [] G (fun r G => ∃ v, r = cI v ∧ inI v ∧ Q v G)) := by
  intro f
  induction f with
  | zero => exact fun N _ => fun _ _ _ _ _ _ _ _ _ h => h.elim
  | succ f ih =>
    intro N hN
    obtain ⟨M, rfl⟩ : ∃ M, N = M + 1 := ⟨N - 1, by omega⟩
    have ih := ih M (by omega)
    exact fun _ _ _ _ _ hl1 hl2 hl3 hl4 h => show Tg W0 (vX13_inSlot_3 (rx_J vhX13_inSlot M)) _ _ _ _ from TX13_inSlot_3 hl1 hl2 hl3 hl4 ih h
def PX13_inSlot (a1 : Int) (a2 : Int) (G : gS) (Q : Int → gS → Prop) : Prop := ∃ f : Nat, f ≤ 4000000000 ∧ PX13_inSlot_0 (PX13_inSlot_J f) a1 a2 G Q
theorem TX13_inSlot {a1 : Int} {a2 : Int} {G : gS} {Q : Int → gS → Prop} (ha1 : inI a1) (ha2 : inL a2) (h : PX13_inSlot a1 a2 G Q) : Tn W0 FX13_inSlot [rf (16081), cI (a1), cL (a2)] G (fun r G => ∃ v, r = cI v ∧ inI v ∧ Q v G) := by
  obtain ⟨f, hf, h⟩ := h
  have hJ := TX13_inSlot_J (Q := Q) f 4000000000 hf
  unfold FX13_inSlot
  refine g_ent (lv' := [rf (16081), cI (a1), cL (a2), 7, 7]) (flR (flI (flL fl0))) (Nat.le_of_ble_eq_true rfl) rfl ?_
  exact TX13_inSlot_0 ha1 ha2 hJ h
def PX13_find_150 (J : Nat → List Int → gS → (Int → gS → Prop) → Prop) (l1 : Int) (l3 : Int) (l4 : Int) (G : gS) (Q : Int → gS → Prop) : Prop :=
  Q (l3) G
set_option maxRecDepth 20000 in
theorem TX13_find_150 {j : Nat → rx_K} {J : Nat → List Int → gS → (Int → gS → Prop) → Prop} {l1 : Int} {l2 : Nat} {l3 : Int} {l4 : Int} {l5 : Nat} {G : gS} {Q : Int → gS → Prop} (hl1 : inL l1) (hl2 : l2 % 8 ≠ 1) (hl3 : inI l3) (hl4 : inI l4) (hl5 : l5 % 8 ≠ 1) (hj0 : ∀ (l1 : Int) (l2 : Nat) (l3 : Int) (l4 : Int) (l5 : Nat) (G : gS), (inL l1) → (l2 % 8 ≠ 1) → (inI l3) → (inI l4) → (l5 % 8 ≠ 1) → J 0 [l1, l3, l4] G Q → Tg W0 (j 0) [rf (16081), cL (l1), l2, cI (l3), cI (l4), l5] [] G (fun r G => ∃ v, r = cI v ∧ inI v ∧ Q v G)) (h : PX13_find_150 J l1 l3 l4 G Q) : Tg W0 (vX13_find_150 j) [rf (16081), cL (l1), l2, cI (l3), cI (l4), l5] [] G (fun r G => ∃ v, r = cI v ∧ inI v ∧ Q v G) := by
  unfold PX13_find_150 at h
  unfold vX13_find_150
  refine g_ld (v := cI _) rfl (is_I _) ?_
  exact g_ret1 (is_I _) ⟨_, rfl, hl3, h⟩
def PX13_find_143 (J : Nat → List Int → gS → (Int → gS → Prop) → Prop) (l1 : Int) (l3 : Int) (l4 : Int) (l5 : Int) (s0 : Int) (G : gS) (Q : Int → gS → Prop) : Prop :=
  (inI (l4 + 1) ∧ J 0 [l1, s0, l4 + 1] G Q)
set_option maxRecDepth 20000 in
theorem TX13_find_143 {j : Nat → rx_K} {J : Nat → List Int → gS → (Int → gS → Prop) → Prop} {l1 : Int} {l2 : Nat} {l3 : Int} {l4 : Int} {l5 : Int} {s0 : Int} {G : gS} {Q : Int → gS → Prop} (hl1 : inL l1) (hl2 : l2 % 8 ≠ 1) (hl3 : inI l3) (hl4 : inI l4) (hl5 : inI l5) (hs0 : inI s0) (hj0 : ∀ (l1 : Int) (l2 : Nat) (l3 : Int) (l4 : Int) (l5 : Nat) (G : gS), (inL l1) → (l2 % 8 ≠ 1) → (inI l3) → (inI l4) → (l5 % 8 ≠ 1) → J 0 [l1, l3, l4] G Q → Tg W0 (j 0) [rf (16081), cL (l1), l2, cI (l3), cI (l4), l5] [] G (fun r G => ∃ v, r = cI v ∧ inI v ∧ Q v G)) (h : PX13_find_143 J l1 l3 l4 l5 s0 G Q) : Tg W0 (vX13_find_143 j) [rf (16081), cL (l1), l2, cI (l3), cI (l4), cI (l5)] [cI (s0)] G (fun r G => ∃ v, r = cI v ∧ inI v ∧ Q v G) := by
  unfold PX13_find_143 at h
  unfold vX13_find_143
  refine g_st (lv' := [_, _, _, _, _, _]) (is_I _) (Nat.le_of_ble_eq_true rfl) (Or.inr hl2) rfl ?_
  refine g_inc (lv' := [_, _, _, _, _, _]) rfl (Nat.le_of_ble_eq_true rfl) (Or.inr (n1_I _)) rfl ?_
  obtain ⟨q31, h⟩ := h
  exact hj0 _ _ _ _ _ _ hl1 hl2 hs0 q31 (n1_I _) h
def PX13_find_119 (J : Nat → List Int → gS → (Int → gS → Prop) → Prop) (l1 : Int) (l3 : Int) (l4 : Int) (s0 : Int) (G : gS) (Q : Int → gS → Prop) : Prop :=
  ((s0 = 0 → PX13_find_143 J l1 l3 l4 s0 (-2) G Q) ∧ (¬ (s0 = 0) → ((0 : Int) ≤ l4 ∧ ((l4 : Int) < 5 ∧ (inI (G 16163 l4) → PX13_inSlot (G 16163 l4) l1 G (fun r29 G28 => inI r29 → PX13_find_143 J l1 l3 l4 s0 r29 G28 Q))))))
set_option maxRecDepth 20000 in
theorem TX13_find_119 {j : Nat → rx_K} {J : Nat → List Int → gS → (Int → gS → Prop) → Prop} {l1 : Int} {l2 : Nat} {l3 : Int} {l4 : Int} {l5 : Nat} {s0 : Int} {G : gS} {Q : Int → gS → Prop} (hl1 : inL l1) (hl2 : l2 % 8 ≠ 1) (hl3 : inI l3) (hl4 : inI l4) (hl5 : l5 % 8 ≠ 1) (hs0 : inI s0) (hj0 : ∀ (l1 : Int) (l2 : Nat) (l3 : Int) (l4 : Int) (l5 : Nat) (G : gS), (inL l1) → (l2 % 8 ≠ 1) → (inI l3) → (inI l4) → (l5 % 8 ≠ 1) → J 0 [l1, l3, l4] G Q → Tg W0 (j 0) [rf (16081), cL (l1), l2, cI (l3), cI (l4), l5] [] G (fun r G => ∃ v, r = cI v ∧ inI v ∧ Q v G)) (h : PX13_find_119 J l1 l3 l4 s0 G Q) : Tg W0 (vX13_find_119 j) [rf (16081), cL (l1), l2, cI (l3), cI (l4), l5] [cI (s0)] G (fun r G => ∃ v, r = cI v ∧ inI v ∧ Q v G) := by
  unfold PX13_find_119 at h
  unfold vX13_find_119
  refine g_st (lv' := [_, _, _, _, _, _]) (is_I _) (Nat.le_of_ble_eq_true rfl) (Or.inr (n1_I _)) rfl ?_
  refine g_ld (v := cI _) rfl (is_I _) ?_
  refine g_eq1 hs0 (fun b24 => ?_) (fun b24 => ?_)
  · replace h := h.1 b24
    unfold vX13_find_141
    refine g_const (v := cI (-2)) rfl ?_
    exact TX13_find_143 hl1 hl2 hl3 hl4 hs0 ⟨by omega, by omega⟩ hj0 h
  · replace h := h.2 b24
    unfold vX13_find_126
    refine g_ld (v := rf _) rfl (is_R _) ?_
    refine g_ld (v := rf _) rfl (is_R _) ?_
    refine g_getF (v := 16163) oC13 (hC13_90) rfl (Nat.le_of_ble_eq_true rfl) (Nat.le_of_ble_eq_true rfl) ?_
    refine g_ld (v := cI _) rfl (is_I _) ?_
    obtain ⟨q25, q26, h⟩ := h
    refine g_aldI aC16163 q25 q26 rfl fun i27 => ?_
    replace h := h i27
    refine g_ld (v := cL _) rfl (is_L _) ?_
    refine g_callV (As := [_, _]) (ci := 13) oC13 (fun _ => rfl) ?_
    refine g_go1 (Nat.le_of_ble_eq_true rfl) (Tn_w (TX13_inSlot i27 hl1 h) fun _ G28 ⟨r29, e, i30, h⟩ => ?_)
    subst e
    refine ⟨n7_I _, ?_⟩
    replace h := h i30
    exact TX13_find_143 hl1 hl2 hl3 hl4 hs0 i30 hj0 h
def PX13_find_118 (J : Nat → List Int → gS → (Int → gS → Prop) → Prop) (l1 : Int) (l3 : Int) (l4 : Int) (G : gS) (Q : Int → gS → Prop) : Prop :=
  PX13_find_119 J l1 l3 l4 0 G Q
set_option maxRecDepth 20000 in
theorem TX13_find_118 {j : Nat → rx_K} {J : Nat → List Int → gS → (Int → gS → Prop) → Prop} {l1 : Int} {l2 : Nat} {l3 : Int} {l4 : Int} {l5 : Nat} {G : gS} {Q : Int → gS → Prop} (hl1 : inL l1) (hl2 : l2 % 8 ≠ 1) (hl3 : inI l3) (hl4 : inI l4) (hl5 : l5 % 8 ≠ 1) (hj0 : ∀ (l1 : Int) (l2 : Nat) (l3 : Int) (l4 : Int) (l5 : Nat) (G : gS), (inL l1) → (l2 % 8 ≠ 1) → (inI l3) → (inI l4) → (l5 % 8 ≠ 1) → J 0 [l1, l3, l4] G Q → Tg W0 (j 0) [rf (16081), cL (l1), l2, cI (l3), cI (l4), l5] [] G (fun r G => ∃ v, r = cI v ∧ inI v ∧ Q v G)) (h : PX13_find_118 J l1 l3 l4 G Q) : Tg W0 (vX13_find_118 j) [rf (16081), cL (l1), l2, cI (l3), cI (l4), l5] [] G (fun r G => ∃ v, r = cI v ∧ inI v ∧ Q v G) := by
  unfold PX13_find_118 at h
  unfold vX13_find_118
  refine g_const (v := cI (0)) rfl ?_
  exact TX13_find_119 hl1 hl2 hl3 hl4 hl5 ⟨by omega, by omega⟩ hj0 h
def PX13_find_114 (J : Nat → List Int → gS → (Int → gS → Prop) → Prop) (l1 : Int) (l3 : Int) (l4 : Int) (G : gS) (Q : Int → gS → Prop) : Prop :=
  PX13_find_119 J l1 l3 l4 1 G Q
set_option maxRecDepth 20000 in
theorem TX13_find_114 {j : Nat → rx_K} {J : Nat → List Int → gS → (Int → gS → Prop) → Prop} {l1 : Int} {l2 : Nat} {l3 : Int} {l4 : Int} {l5 : Nat} {G : gS} {Q : Int → gS → Prop} (hl1 : inL l1) (hl2 : l2 % 8 ≠ 1) (hl3 : inI l3) (hl4 : inI l4) (hl5 : l5 % 8 ≠ 1) (hj0 : ∀ (l1 : Int) (l2 : Nat) (l3 : Int) (l4 : Int) (l5 : Nat) (G : gS), (inL l1) → (l2 % 8 ≠ 1) → (inI l3) → (inI l4) → (l5 % 8 ≠ 1) → J 0 [l1, l3, l4] G Q → Tg W0 (j 0) [rf (16081), cL (l1), l2, cI (l3), cI (l4), l5] [] G (fun r G => ∃ v, r = cI v ∧ inI v ∧ Q v G)) (h : PX13_find_114 J l1 l3 l4 G Q) : Tg W0 (vX13_find_114 j) [rf (16081), cL (l1), l2, cI (l3), cI (l4), l5] [] G (fun r G => ∃ v, r = cI v ∧ inI v ∧ Q v G) := by
  unfold PX13_find_114 at h
  unfold vX13_find_114
  refine g_const (v := cI (1)) rfl ?_
  exact TX13_find_119 hl1 hl2 hl3 hl4 hl5 ⟨by omega, by omega⟩ hj0 h
def PX13_find_67 (J : Nat → List Int → gS → (Int → gS → Prop) → Prop) (l1 : Int) (l3 : Int) (l4 : Int) (G : gS) (Q : Int → gS → Prop) : Prop :=
  ((l4 < 5 → ((l3 = -2 → ((0 : Int) ≤ l4 ∧ ((l4 : Int) < 5 ∧ (inI (G 16163 l4) → ((G 16163 l4 = -2 → PX13_find_118 J l1 l3 l4 G Q) ∧ (¬ (G 16163 l4 = -2) → (inI (G 16081 91) → ((G 16081 91 = -2 → PX13_find_114 J l1 l3 l4 G Q) ∧ (¬ (G 16081 91 = -2) → (inI (G 16081 91) → ((0 : Int) ≤ G 16081 91 ∧ ((G 16081 91 : Int) < 16 ∧ (inI (G 16087 (G 16081 91)) → ((l4 = G 16087 (G 16081 91) → PX13_find_118 J l1 l3 l4 G Q) ∧ (¬ (l4 = G 16087 (G 16081 91)) → PX13_find_114 J l1 l3 l4 G Q))))))))))))))) ∧ (¬ (l3 = -2) → PX13_find_150 J l1 l3 l4 G Q))) ∧ (¬ (l4 < 5) → PX13_find_150 J l1 l3 l4 G Q))
set_option maxRecDepth 20000 in
theorem TX13_find_67 {j : Nat → rx_K} {J : Nat → List Int → gS → (Int → gS → Prop) → Prop} {l1 : Int} {l2 : Nat} {l3 : Int} {l4 : Int} {l5 : Nat} {G : gS} {Q : Int → gS → Prop} (hl1 : inL l1) (hl2 : l2 % 8 ≠ 1) (hl3 : inI l3) (hl4 : inI l4) (hl5 : l5 % 8 ≠ 1) (hj0 : ∀ (l1 : Int) (l2 : Nat) (l3 : Int) (l4 : Int) (l5 : Nat) (G : gS), (inL l1) → (l2 % 8 ≠ 1) → (inI l3) → (inI l4) → (l5 % 8 ≠ 1) → J 0 [l1, l3, l4] G Q → Tg W0 (j 0) [rf (16081), cL (l1), l2, cI (l3), cI (l4), l5] [] G (fun r G => ∃ v, r = cI v ∧ inI v ∧ Q v G)) (h : PX13_find_67 J l1 l3 l4 G Q) : Tg W0 (vX13_find_67 j) [rf (16081), cL (l1), l2, cI (l3), cI (l4), l5] [] G (fun r G => ∃ v, r = cI v ∧ inI v ∧ Q v G) := by
  unfold PX13_find_67 at h
  unfold vX13_find_67
  refine g_ld (v := cI _) rfl (is_I _) ?_
  refine g_const (v := cI (5)) rfl ?_
  refine g_lt2 hl4 ⟨by omega, by omega⟩ (fun b11 => ?_) (fun b11 => ?_)
  · replace h := h.1 b11
    unfold vX13_find_73
    refine g_ld (v := cI _) rfl (is_I _) ?_
    refine g_const (v := cI (-2)) rfl ?_
    refine g_eq2 hl3 ⟨by omega, by omega⟩ (fun b12 => ?_) (fun b12 => ?_)
    · replace h := h.1 b12
      unfold vX13_find_79
      refine g_ld (v := rf _) rfl (is_R _) ?_
      refine g_getF (v := 16163) oC13 (hC13_90) rfl (Nat.le_of_ble_eq_true rfl) (Nat.le_of_ble_eq_true rfl) ?_
      refine g_ld (v := cI _) rfl (is_I _) ?_
      obtain ⟨q13, q14, h⟩ := h
      refine g_aldI aC16163 q13 q14 rfl fun i15 => ?_
      replace h := h i15
      refine g_const (v := cI (-2)) rfl ?_
      refine g_eq2 i15 ⟨by omega, by omega⟩ (fun b16 => ?_) (fun b16 => ?_)
      · replace h := h.1 b16
        exact TX13_find_118 hl1 hl2 hl3 hl4 hl5 hj0 h
      · replace h := h.2 b16
        unfold vX13_find_91
        refine g_ld (v := rf _) rfl (is_R _) ?_
        refine g_getI (kz := 91) oC13 rfl (Nat.le_of_ble_eq_true rfl) rfl fun i17 => ?_
        replace h := h i17
        refine g_const (v := cI (-2)) rfl ?_
        refine g_eq2 i17 ⟨by omega, by omega⟩ (fun b18 => ?_) (fun b18 => ?_)
        · replace h := h.1 b18
          exact TX13_find_114 hl1 hl2 hl3 hl4 hl5 hj0 h
        · replace h := h.2 b18
          unfold vX13_find_100
          refine g_ld (v := cI _) rfl (is_I _) ?_
          refine g_ld (v := rf _) rfl (is_R _) ?_
          refine g_getF (v := 16087) oC13 (hC13_7) rfl (Nat.le_of_ble_eq_true rfl) (Nat.le_of_ble_eq_true rfl) ?_
          refine g_ld (v := rf _) rfl (is_R _) ?_
          refine g_getI (kz := 91) oC13 rfl (Nat.le_of_ble_eq_true rfl) rfl fun i19 => ?_
          replace h := h i19
          obtain ⟨q20, q21, h⟩ := h
          refine g_aldI aC16087 q20 q21 rfl fun i22 => ?_
          replace h := h i22
          refine g_eq2 hl4 i22 (fun b23 => ?_) (fun b23 => ?_)
          · replace h := h.1 b23
            exact TX13_find_118 hl1 hl2 hl3 hl4 hl5 hj0 h
          · replace h := h.2 b23
            exact TX13_find_114 hl1 hl2 hl3 hl4 hl5 hj0 h
    · replace h := h.2 b12
      exact TX13_find_150 hl1 hl2 hl3 hl4 hl5 hj0 h
  · replace h := h.2 b11
    exact TX13_find_150 hl1 hl2 hl3 hl4 hl5 hj0 h
def PX13_find_64 (J : Nat → List Int → gS → (Int → gS → Prop) → Prop) (l1 : Int) (l3 : Int) (G : gS) (Q : Int → gS → Prop) : Prop :=
  PX13_find_67 J l1 l3 0 G Q
set_option maxRecDepth 20000 in
theorem TX13_find_64 {j : Nat → rx_K} {J : Nat → List Int → gS → (Int → gS → Prop) → Prop} {l1 : Int} {l2 : Nat} {l3 : Int} {l4 : Nat} {l5 : Nat} {G : gS} {Q : Int → gS → Prop} (hl1 : inL l1) (hl2 : l2 % 8 ≠ 1) (hl3 : inI l3) (hl4 : l4 % 8 ≠ 1) (hl5 : l5 % 8 ≠ 1) (hj0 : ∀ (l1 : Int) (l2 : Nat) (l3 : Int) (l4 : Int) (l5 : Nat) (G : gS), (inL l1) → (l2 % 8 ≠ 1) → (inI l3) → (inI l4) → (l5 % 8 ≠ 1) → J 0 [l1, l3, l4] G Q → Tg W0 (j 0) [rf (16081), cL (l1), l2, cI (l3), cI (l4), l5] [] G (fun r G => ∃ v, r = cI v ∧ inI v ∧ Q v G)) (h : PX13_find_64 J l1 l3 G Q) : Tg W0 (vX13_find_64 j) [rf (16081), cL (l1), l2, cI (l3), l4, l5] [] G (fun r G => ∃ v, r = cI v ∧ inI v ∧ Q v G) := by
  unfold PX13_find_64 at h
  unfold vX13_find_64
  refine g_const (v := cI (0)) rfl ?_
  refine g_st (lv' := [_, _, _, _, _, _]) (is_I _) (Nat.le_of_ble_eq_true rfl) (Or.inr (n1_I _)) rfl ?_
  exact TX13_find_67 hl1 hl2 hl3 ⟨by omega, by omega⟩ hl5 hj0 h
def PX13_find_63 (J : Nat → List Int → gS → (Int → gS → Prop) → Prop) (l1 : Int) (l3 : Int) (s0 : Int) (G : gS) (Q : Int → gS → Prop) : Prop :=
  Q (s0) G
set_option maxRecDepth 20000 in
theorem TX13_find_63 {j : Nat → rx_K} {J : Nat → List Int → gS → (Int → gS → Prop) → Prop} {l1 : Int} {l2 : Nat} {l3 : Int} {l4 : Nat} {l5 : Nat} {s0 : Int} {G : gS} {Q : Int → gS → Prop} (hl1 : inL l1) (hl2 : l2 % 8 ≠ 1) (hl3 : inI l3) (hl4 : l4 % 8 ≠ 1) (hl5 : l5 % 8 ≠ 1) (hs0 : inI s0) (hj0 : ∀ (l1 : Int) (l2 : Nat) (l3 : Int) (l4 : Int) (l5 : Nat) (G : gS), (inL l1) → (l2 % 8 ≠ 1) → (inI l3) → (inI l4) → (l5 % 8 ≠ 1) → J 0 [l1, l3, l4] G Q → Tg W0 (j 0) [rf (16081), cL (l1), l2, cI (l3), cI (l4), l5] [] G (fun r G => ∃ v, r = cI v ∧ inI v ∧ Q v G)) (h : PX13_find_63 J l1 l3 s0 G Q) : Tg W0 (vX13_find_63 j) [rf (16081), cL (l1), l2, cI (l3), l4, l5] [cI (s0)] G (fun r G => ∃ v, r = cI v ∧ inI v ∧ Q v G) := by
  unfold PX13_find_63 at h
  unfold vX13_find_63
  exact g_ret1 (is_I _) ⟨_, rfl, hs0, h⟩
def PX13_find_46 (J : Nat → List Int → gS → (Int → gS → Prop) → Prop) (l1 : Int) (l3 : Int) (G : gS) (Q : Int → gS → Prop) : Prop :=
  ((l1 = 2305843009220621209 → PX13_find_63 J l1 l3 204 G Q) ∧ (¬ (l1 = 2305843009220621209) → PX13_find_63 J l1 l3 205 G Q))
set_option maxRecDepth 20000 in
theorem TX13_find_46 {j : Nat → rx_K} {J : Nat → List Int → gS → (Int → gS → Prop) → Prop} {l1 : Int} {l2 : Nat} {l3 : Int} {l4 : Nat} {l5 : Nat} {G : gS} {Q : Int → gS → Prop} (hl1 : inL l1) (hl2 : l2 % 8 ≠ 1) (hl3 : inI l3) (hl4 : l4 % 8 ≠ 1) (hl5 : l5 % 8 ≠ 1) (hj0 : ∀ (l1 : Int) (l2 : Nat) (l3 : Int) (l4 : Int) (l5 : Nat) (G : gS), (inL l1) → (l2 % 8 ≠ 1) → (inI l3) → (inI l4) → (l5 % 8 ≠ 1) → J 0 [l1, l3, l4] G Q → Tg W0 (j 0) [rf (16081), cL (l1), l2, cI (l3), cI (l4), l5] [] G (fun r G => ∃ v, r = cI v ∧ inI v ∧ Q v G)) (h : PX13_find_46 J l1 l3 G Q) : Tg W0 (vX13_find_46 j) [rf (16081), cL (l1), l2, cI (l3), l4, l5] [] G (fun r G => ∃ v, r = cI v ∧ inI v ∧ Q v G) := by
  unfold PX13_find_46 at h
  unfold vX13_find_46
  refine g_ld (v := cL _) rfl (is_L _) ?_
  refine g_const (v := cL (2305843009220621209)) rfl ?_
  refine g_leq hl1 ⟨by omega, by omega⟩ (fun b10 => ?_) (fun b10 => ?_)
  · replace h := h.1 b10
    unfold vX13_find_54
    refine g_const (v := cI (204)) rfl ?_
    exact TX13_find_63 hl1 hl2 hl3 hl4 hl5 ⟨by omega, by omega⟩ hj0 h
  · replace h := h.2 b10
    unfold vX13_find_60
    refine g_const (v := cI (205)) rfl ?_
    exact TX13_find_63 hl1 hl2 hl3 hl4 hl5 ⟨by omega, by omega⟩ hj0 h
def PX13_find_23 (J : Nat → List Int → gS → (Int → gS → Prop) → Prop) (l1 : Int) (s0 : Int) (G : gS) (Q : Int → gS → Prop) : Prop :=
  ((s0 = -2 → ((l1 = 2305843009220621209 → PX13_find_46 J l1 s0 G Q) ∧ (¬ (l1 = 2305843009220621209) → ((l1 = 2305843009220653836 → PX13_find_46 J l1 s0 G Q) ∧ (¬ (l1 = 2305843009220653836) → PX13_find_64 J l1 s0 G Q))))) ∧ (¬ (s0 = -2) → PX13_find_64 J l1 s0 G Q))
set_option maxRecDepth 20000 in
theorem TX13_find_23 {j : Nat → rx_K} {J : Nat → List Int → gS → (Int → gS → Prop) → Prop} {l1 : Int} {l2 : Nat} {l3 : Nat} {l4 : Nat} {l5 : Nat} {s0 : Int} {G : gS} {Q : Int → gS → Prop} (hl1 : inL l1) (hl2 : l2 % 8 ≠ 1) (hl3 : l3 % 8 ≠ 1) (hl4 : l4 % 8 ≠ 1) (hl5 : l5 % 8 ≠ 1) (hs0 : inI s0) (hj0 : ∀ (l1 : Int) (l2 : Nat) (l3 : Int) (l4 : Int) (l5 : Nat) (G : gS), (inL l1) → (l2 % 8 ≠ 1) → (inI l3) → (inI l4) → (l5 % 8 ≠ 1) → J 0 [l1, l3, l4] G Q → Tg W0 (j 0) [rf (16081), cL (l1), l2, cI (l3), cI (l4), l5] [] G (fun r G => ∃ v, r = cI v ∧ inI v ∧ Q v G)) (h : PX13_find_23 J l1 s0 G Q) : Tg W0 (vX13_find_23 j) [rf (16081), cL (l1), l2, l3, l4, l5] [cI (s0)] G (fun r G => ∃ v, r = cI v ∧ inI v ∧ Q v G) := by
  unfold PX13_find_23 at h
  unfold vX13_find_23
  refine g_st (lv' := [_, _, _, _, _, _]) (is_I _) (Nat.le_of_ble_eq_true rfl) (Or.inr hl2) rfl ?_
  refine g_ld (v := cI _) rfl (is_I _) ?_
  refine g_const (v := cI (-2)) rfl ?_
  refine g_eq2 hs0 ⟨by omega, by omega⟩ (fun b7 => ?_) (fun b7 => ?_)
  · replace h := h.1 b7
    unfold vX13_find_30
    refine g_ld (v := cL _) rfl (is_L _) ?_
    refine g_const (v := cL (2305843009220621209)) rfl ?_
    refine g_leq hl1 ⟨by omega, by omega⟩ (fun b8 => ?_) (fun b8 => ?_)
    · replace h := h.1 b8
      exact TX13_find_46 hl1 hl2 hs0 hl4 hl5 hj0 h
    · replace h := h.2 b8
      unfold vX13_find_38
      refine g_ld (v := cL _) rfl (is_L _) ?_
      refine g_const (v := cL (2305843009220653836)) rfl ?_
      refine g_leq hl1 ⟨by omega, by omega⟩ (fun b9 => ?_) (fun b9 => ?_)
      · replace h := h.1 b9
        exact TX13_find_46 hl1 hl2 hs0 hl4 hl5 hj0 h
      · replace h := h.2 b9
        exact TX13_find_64 hl1 hl2 hs0 hl4 hl5 hj0 h
  · replace h := h.2 b7
    exact TX13_find_64 hl1 hl2 hs0 hl4 hl5 hj0 h
def PX13_find_0 (J : Nat → List Int → gS → (Int → gS → Prop) → Prop) (a1 : Int) (G : gS) (Q : Int → gS → Prop) : Prop :=
  (inI (G 16081 91) → ((G 16081 91 = -2 → PX13_find_23 J a1 (-2) G Q) ∧ (¬ (G 16081 91 = -2) → (inI (G 16081 91) → PX13_inSlot (G 16081 91) a1 G (fun r5 G4 => inI r5 → PX13_find_23 J a1 r5 G4 Q)))))
set_option maxRecDepth 20000 in
theorem TX13_find_0 {j : Nat → rx_K} {J : Nat → List Int → gS → (Int → gS → Prop) → Prop} {a1 : Int} {G : gS} {Q : Int → gS → Prop} (ha1 : inL a1) (hj0 : ∀ (l1 : Int) (l2 : Nat) (l3 : Int) (l4 : Int) (l5 : Nat) (G : gS), (inL l1) → (l2 % 8 ≠ 1) → (inI l3) → (inI l4) → (l5 % 8 ≠ 1) → J 0 [l1, l3, l4] G Q → Tg W0 (j 0) [rf (16081), cL (l1), l2, cI (l3), cI (l4), l5] [] G (fun r G => ∃ v, r = cI v ∧ inI v ∧ Q v G)) (h : PX13_find_0 J a1 G Q) : Tg W0 (vX13_find_0 j) [rf (16081), cL (a1), 7, 7, 7, 7] [] G (fun r G => ∃ v, r = cI v ∧ inI v ∧ Q v G) := by
  unfold PX13_find_0 at h
  unfold vX13_find_0
  refine g_ld (v := rf _) rfl (is_R _) ?_
  refine g_getI (kz := 91) oC13 rfl (Nat.le_of_ble_eq_true rfl) rfl fun i1 => ?_
  replace h := h i1
  refine g_const (v := cI (-2)) rfl ?_
  refine g_eq2 i1 ⟨by omega, by omega⟩ (fun b2 => ?_) (fun b2 => ?_)
  · replace h := h.1 b2
    unfold vX13_find_9
    refine g_const (v := cI (-2)) rfl ?_
    exact TX13_find_23 ha1 (show 7 % 8 ≠ 1 by decide) (show 7 % 8 ≠ 1 by decide) (show 7 % 8 ≠ 1 by decide) (show 7 % 8 ≠ 1 by decide) ⟨by omega, by omega⟩ hj0 h
  · replace h := h.2 b2
    unfold vX13_find_14
    refine g_ld (v := rf _) rfl (is_R _) ?_
    refine g_ld (v := rf _) rfl (is_R _) ?_
    refine g_getI (kz := 91) oC13 rfl (Nat.le_of_ble_eq_true rfl) rfl fun i3 => ?_
    replace h := h i3
    refine g_ld (v := cL _) rfl (is_L _) ?_
    refine g_callV (As := [_, _]) (ci := 13) oC13 (fun _ => rfl) ?_
    refine g_go1 (Nat.le_of_ble_eq_true rfl) (Tn_w (TX13_inSlot i3 ha1 h) fun _ G4 ⟨r5, e, i6, h⟩ => ?_)
    subst e
    refine ⟨n7_I _, ?_⟩
    replace h := h i6
    exact TX13_find_23 ha1 (show 7 % 8 ≠ 1 by decide) (show 7 % 8 ≠ 1 by decide) (show 7 % 8 ≠ 1 by decide) (show 7 % 8 ≠ 1 by decide) i6 hj0 h
def PX13_find_J : Nat → Nat → List Int → gS → (Int → gS → Prop) → Prop
  | 0, _, _, _, _ => False
  | f + 1, h, L, G, Q => match h, L with
    | 0, [l1, l3, l4] => PX13_find_67 (PX13_find_J f) l1 l3 l4 G Q
    | _, _ => False
theorem TX13_find_J {Q : Int → gS → Prop} : ∀ f N : Nat, f ≤ N → (∀ (l1 : Int) (l2 : Nat) (l3 : Int) (l4 : Int) (l5 : Nat) (G : gS), (inL l1) → (l2 % 8 ≠ 1) → (inI l3) → (inI l4) → (l5 % 8 ≠ 1) → (PX13_find_J f) 0 [l1, l3, l4] G Q → Tg W0 (rx_J vhX13_find N 0) [rf (16081), cL (l1), l2, cI (l3), cI (l4), l5] [] G (fun r G => ∃ v, r = cI v ∧ inI v ∧ Q v G)) := by
  intro f
  induction f with
  | zero => exact fun N _ => fun _ _ _ _ _ _ _ _ _ _ _ h => h.elim
  | succ f ih =>
    intro N hN
    obtain ⟨M, rfl⟩ : ∃ M, N = M + 1 := ⟨N - 1, by omega⟩
    have ih := ih M (by omega)
    exact fun _ _ _ _ _ _ hl1 hl2 hl3 hl4 hl5 h => show Tg W0 (vX13_find_67 (rx_J vhX13_find M)) _ _ _ _ from TX13_find_67 hl1 hl2 hl3 hl4 hl5 ih h
def PX13_find (a1 : Int) (G : gS) (Q : Int → gS → Prop) : Prop := ∃ f : Nat, f ≤ 4000000000 ∧ PX13_find_0 (PX13_find_J f) a1 G Q
theorem TX13_find {a1 : Int} {G : gS} {Q : Int → gS → Prop} (ha1 : inL a1) (h : PX13_find a1 G Q) : Tn W0 FX13_find [rf (16081), cL (a1)] G (fun r G => ∃ v, r = cI v ∧ inI v ∧ Q v G) := by
  obtain ⟨f, hf, h⟩ := h
  have hJ := TX13_find_J (Q := Q) f 4000000000 hf
  unfold FX13_find
  refine g_ent (lv' := [rf (16081), cL (a1), 7, 7, 7, 7]) (flR (flL fl0)) (Nat.le_of_ble_eq_true rfl) rfl ?_
  exact TX13_find_0 ha1 hJ h
def PX13_isFace_15 (l1 : Int) (s0 : Int) (G : gS) (Q : Int → gS → Prop) : Prop :=
  ((0 ≤ s0 ∧ s0 ≤ 1) ∧ Q (s0) G)
set_option maxRecDepth 20000 in
theorem TX13_isFace_15 {l1 : Int} {s0 : Int} {G : gS} {Q : Int → gS → Prop} (hl1 : inI l1) (hs0 : inI s0) (h : PX13_isFace_15 l1 s0 G Q) : Tg W0 vX13_isFace_15 [rf (16081), cI (l1)] [cI (s0)] G (fun r G => ∃ v, r = cI v ∧ (0 ≤ v ∧ v ≤ 1) ∧ Q v G) := by
  unfold PX13_isFace_15 at h
  unfold vX13_isFace_15
  obtain ⟨q5, h⟩ := h
  exact g_ret1 (is_Z q5) ⟨_, rfl, q5, h⟩
def PX13_isFace_0 (a1 : Int) (G : gS) (Q : Int → gS → Prop) : Prop :=
  ((0 : Int) ≤ a1 ∧ ((a1 : Int) < 216 ∧ (inI (G 16101 a1) → ((G 16101 a1 = 3 → PX13_isFace_15 a1 1 G Q) ∧ (¬ (G 16101 a1 = 3) → PX13_isFace_15 a1 0 G Q)))))
set_option maxRecDepth 20000 in
theorem TX13_isFace_0 {a1 : Int} {G : gS} {Q : Int → gS → Prop} (ha1 : inI a1) (h : PX13_isFace_0 a1 G Q) : Tg W0 vX13_isFace_0 [rf (16081), cI (a1)] [] G (fun r G => ∃ v, r = cI v ∧ (0 ≤ v ∧ v ≤ 1) ∧ Q v G) := by
  unfold PX13_isFace_0 at h
  unfold vX13_isFace_0
  refine g_ld (v := rf _) rfl (is_R _) ?_
  refine g_getF (v := 16101) oC13 (hC13_27) rfl (Nat.le_of_ble_eq_true rfl) (Nat.le_of_ble_eq_true rfl) ?_
  refine g_ld (v := cI _) rfl (is_I _) ?_
  obtain ⟨q1, q2, h⟩ := h
  refine g_aldI aC16101 q1 q2 rfl fun i3 => ?_
  replace h := h i3
  refine g_const (v := cI (3)) rfl ?_
  refine g_eq2 i3 ⟨by omega, by omega⟩ (fun b4 => ?_) (fun b4 => ?_)
  · replace h := h.1 b4
    unfold vX13_isFace_10
    refine g_const (v := cI (1)) rfl ?_
    exact TX13_isFace_15 ha1 ⟨by omega, by omega⟩ h
  · replace h := h.2 b4
    unfold vX13_isFace_14
    refine g_const (v := cI (0)) rfl ?_
    exact TX13_isFace_15 ha1 ⟨by omega, by omega⟩ h
abbrev PX13_isFace (a1 : Int) (G : gS) (Q : Int → gS → Prop) : Prop := PX13_isFace_0 a1 G Q
theorem TX13_isFace {a1 : Int} {G : gS} {Q : Int → gS → Prop} (ha1 : inI a1) (h : PX13_isFace a1 G Q) : Tn W0 FX13_isFace [rf (16081), cI (a1)] G (fun r G => ∃ v, r = cI v ∧ (0 ≤ v ∧ v ≤ 1) ∧ Q v G) := by
  unfold FX13_isFace
  refine g_ent (lv' := [rf (16081), cI (a1)]) (flR (flI fl0)) (Nat.le_of_ble_eq_true rfl) rfl ?_
  exact TX13_isFace_0 ha1 h
def PX13_classOfMember_0 (a1 : Int) (G : gS) (Q : Int → gS → Prop) : Prop :=
  (inI (idiv a1 34) → Q (idiv a1 34) G)
set_option maxRecDepth 20000 in
theorem TX13_classOfMember_0 {a1 : Int} {G : gS} {Q : Int → gS → Prop} (ha1 : inI a1) (h : PX13_classOfMember_0 a1 G Q) : Tg W0 vX13_classOfMember_0 [rf (16081), cI (a1)] [] G (fun r G => ∃ v, r = cI v ∧ inI v ∧ Q v G) := by
  unfold PX13_classOfMember_0 at h
  unfold vX13_classOfMember_0
  refine g_ld (v := cI _) rfl (is_I _) ?_
  refine g_const (v := cI (34)) rfl ?_
  refine g_idiv ⟨by omega, by omega⟩ (by omega) fun i1 => ?_
  replace h := h i1
  exact g_ret1 (is_I _) ⟨_, rfl, i1, h⟩
abbrev PX13_classOfMember (a1 : Int) (G : gS) (Q : Int → gS → Prop) : Prop := PX13_classOfMember_0 a1 G Q
theorem TX13_classOfMember {a1 : Int} {G : gS} {Q : Int → gS → Prop} (ha1 : inI a1) (h : PX13_classOfMember a1 G Q) : Tn W0 FX13_classOfMember [rf (16081), cI (a1)] G (fun r G => ∃ v, r = cI v ∧ inI v ∧ Q v G) := by
  unfold FX13_classOfMember
  refine g_ent (lv' := [rf (16081), cI (a1)]) (flR (flI fl0)) (Nat.le_of_ble_eq_true rfl) rfl ?_
  exact TX13_classOfMember_0 ha1 h
def PX13_pack_0 (a0 : Int) (G : gS) (Q : Int → gS → Prop) : Prop :=
  PX13_packageOf a0 G (fun r2 G1 => inI r2 → Q (r2) G1)
set_option maxRecDepth 20000 in
theorem TX13_pack_0 {a0 : Int} {G : gS} {Q : Int → gS → Prop} (ha0 : inL a0) (h : PX13_pack_0 a0 G Q) : Tg W0 vX13_pack_0 [cL (a0), 7] [] G (fun r G => ∃ v, r = cI v ∧ inI v ∧ Q v G) := by
  unfold PX13_pack_0 at h
  unfold vX13_pack_0
  refine g_ld (v := cL _) rfl (is_L _) ?_
  refine g_callS (As := [_]) (fun _ => rfl) ?_
  refine g_go1 (Nat.le_of_ble_eq_true rfl) (Tn_w (TX13_packageOf ha0 h) fun _ G1 ⟨r2, e, i3, h⟩ => ?_)
  subst e
  refine ⟨n7_I _, ?_⟩
  replace h := h i3
  exact g_ret1 (is_I _) ⟨_, rfl, i3, h⟩
abbrev PX13_pack (a0 : Int) (G : gS) (Q : Int → gS → Prop) : Prop := PX13_pack_0 a0 G Q
theorem TX13_pack {a0 : Int} {G : gS} {Q : Int → gS → Prop} (ha0 : inL a0) (h : PX13_pack a0 G Q) : Tn W0 FX13_pack [cL (a0)] G (fun r G => ∃ v, r = cI v ∧ inI v ∧ Q v G) := by
  unfold FX13_pack
  refine g_ent (lv' := [cL (a0), 7]) (flL fl0) (Nat.le_of_ble_eq_true rfl) rfl ?_
  exact TX13_pack_0 ha0 h
def PX13_onePackage_26 (l1 : Int) (l2 : Int) (s0 : Int) (G : gS) (Q : Int → gS → Prop) : Prop :=
  ((0 ≤ s0 ∧ s0 ≤ 1) ∧ Q (s0) G)
set_option maxRecDepth 20000 in
theorem TX13_onePackage_26 {l1 : Int} {l2 : Int} {s0 : Int} {G : gS} {Q : Int → gS → Prop} (hl1 : inI l1) (hl2 : inI l2) (hs0 : inI s0) (h : PX13_onePackage_26 l1 l2 s0 G Q) : Tg W0 vX13_onePackage_26 [rf (16081), cI (l1), cI (l2)] [cI (s0)] G (fun r G => ∃ v, r = cI v ∧ (0 ≤ v ∧ v ≤ 1) ∧ Q v G) := by
  unfold PX13_onePackage_26 at h
  unfold vX13_onePackage_26
  obtain ⟨q14, h⟩ := h
  exact g_ret1 (is_Z q14) ⟨_, rfl, q14, h⟩
def PX13_onePackage_0 (a1 : Int) (a2 : Int) (G : gS) (Q : Int → gS → Prop) : Prop :=
  ((0 : Int) ≤ a1 ∧ ((a1 : Int) < 216 ∧ (inL (G 16098 a1) → PX13_pack (G 16098 a1) G (fun r5 G4 => inI r5 → ((0 : Int) ≤ a2 ∧ ((a2 : Int) < 216 ∧ (inL (G4 16098 a2) → PX13_pack (G4 16098 a2) G4 (fun r11 G10 => inI r11 → ((r5 = r11 → PX13_onePackage_26 a1 a2 1 G10 Q) ∧ (¬ (r5 = r11) → PX13_onePackage_26 a1 a2 0 G10 Q))))))))))
set_option maxRecDepth 20000 in
theorem TX13_onePackage_0 {a1 : Int} {a2 : Int} {G : gS} {Q : Int → gS → Prop} (ha1 : inI a1) (ha2 : inI a2) (h : PX13_onePackage_0 a1 a2 G Q) : Tg W0 vX13_onePackage_0 [rf (16081), cI (a1), cI (a2)] [] G (fun r G => ∃ v, r = cI v ∧ (0 ≤ v ∧ v ≤ 1) ∧ Q v G) := by
  unfold PX13_onePackage_0 at h
  unfold vX13_onePackage_0
  refine g_ld (v := rf _) rfl (is_R _) ?_
  refine g_getF (v := 16098) oC13 (hC13_24) rfl (Nat.le_of_ble_eq_true rfl) (Nat.le_of_ble_eq_true rfl) ?_
  refine g_ld (v := cI _) rfl (is_I _) ?_
  obtain ⟨q1, q2, h⟩ := h
  refine g_aldL aC16098 q1 q2 rfl fun i3 => ?_
  replace h := h i3
  refine g_callS (As := [_]) (fun _ => rfl) ?_
  refine g_go1 (Nat.le_of_ble_eq_true rfl) (Tn_w (TX13_pack i3 h) fun _ G4 ⟨r5, e, i6, h⟩ => ?_)
  subst e
  refine ⟨n7_I _, ?_⟩
  replace h := h i6
  refine g_ld (v := rf _) rfl (is_R _) ?_
  refine g_getF (v := 16098) oC13 (hC13_24) rfl (Nat.le_of_ble_eq_true rfl) (Nat.le_of_ble_eq_true rfl) ?_
  refine g_ld (v := cI _) rfl (is_I _) ?_
  obtain ⟨q7, q8, h⟩ := h
  refine g_aldL aC16098 q7 q8 rfl fun i9 => ?_
  replace h := h i9
  refine g_callS (As := [_]) (fun _ => rfl) ?_
  refine g_go1 (by simp only [cs_c, cs_0, ct_I, ct_L, ct_R]; exact Nat.le_of_ble_eq_true rfl) (Tn_w (TX13_pack i9 h) fun _ G10 ⟨r11, e, i12, h⟩ => ?_)
  subst e
  refine ⟨n7_I _, ?_⟩
  replace h := h i12
  refine g_eq2 i6 i12 (fun b13 => ?_) (fun b13 => ?_)
  · replace h := h.1 b13
    unfold vX13_onePackage_21
    refine g_const (v := cI (1)) rfl ?_
    exact TX13_onePackage_26 ha1 ha2 ⟨by omega, by omega⟩ h
  · replace h := h.2 b13
    unfold vX13_onePackage_25
    refine g_const (v := cI (0)) rfl ?_
    exact TX13_onePackage_26 ha1 ha2 ⟨by omega, by omega⟩ h
abbrev PX13_onePackage (a1 : Int) (a2 : Int) (G : gS) (Q : Int → gS → Prop) : Prop := PX13_onePackage_0 a1 a2 G Q
theorem TX13_onePackage {a1 : Int} {a2 : Int} {G : gS} {Q : Int → gS → Prop} (ha1 : inI a1) (ha2 : inI a2) (h : PX13_onePackage a1 a2 G Q) : Tn W0 FX13_onePackage [rf (16081), cI (a1), cI (a2)] G (fun r G => ∃ v, r = cI v ∧ (0 ≤ v ∧ v ≤ 1) ∧ Q v G) := by
  unfold FX13_onePackage
  refine g_ent (lv' := [rf (16081), cI (a1), cI (a2)]) (flR (flI (flI fl0))) (Nat.le_of_ble_eq_true rfl) rfl ?_
  exact TX13_onePackage_0 ha1 ha2 h
def PX13_parent_47 (l1 : Int) (s0 : Int) (G : gS) (Q : Int → gS → Prop) : Prop :=
  Q (s0) G
set_option maxRecDepth 20000 in
theorem TX13_parent_47 {l1 : Int} {s0 : Int} {G : gS} {Q : Int → gS → Prop} (hl1 : inI l1) (hs0 : inI s0) (h : PX13_parent_47 l1 s0 G Q) : Tg W0 vX13_parent_47 [rf (16081), cI (l1)] [cI (s0)] G (fun r G => ∃ v, r = cI v ∧ inI v ∧ Q v G) := by
  unfold PX13_parent_47 at h
  unfold vX13_parent_47
  exact g_ret1 (is_I _) ⟨_, rfl, hs0, h⟩
def PX13_parent_15 (l1 : Int) (G : gS) (Q : Int → gS → Prop) : Prop :=
  PX13_parent_47 l1 (-2) G Q
set_option maxRecDepth 20000 in
theorem TX13_parent_15 {l1 : Int} {G : gS} {Q : Int → gS → Prop} (hl1 : inI l1) (h : PX13_parent_15 l1 G Q) : Tg W0 vX13_parent_15 [rf (16081), cI (l1)] [] G (fun r G => ∃ v, r = cI v ∧ inI v ∧ Q v G) := by
  unfold PX13_parent_15 at h
  unfold vX13_parent_15
  refine g_const (v := cI (-2)) rfl ?_
  exact TX13_parent_47 hl1 ⟨by omega, by omega⟩ h
def PX13_parent_0 (a1 : Int) (G : gS) (Q : Int → gS → Prop) : Prop :=
  PX13_isFace a1 G (fun r2 G1 => (0 ≤ r2 ∧ r2 ≤ 1) → ((r2 = 0 → ((a1 = 204 → PX13_parent_15 a1 G1 Q) ∧ (¬ (a1 = 204) → ((0 : Int) ≤ a1 ∧ ((a1 : Int) < 216 ∧ (inL (G1 16102 a1) → ((G1 16102 a1 = 0 → PX13_parent_47 a1 204 G1 Q) ∧ (¬ (G1 16102 a1 = 0) → ((0 : Int) ≤ a1 ∧ ((a1 : Int) < 216 ∧ (inL (G1 16102 a1) → PX13_find (G1 16102 a1) G1 (fun r14 G13 => inI r14 → PX13_parent_47 a1 r14 G13 Q)))))))))))) ∧ (¬ (r2 = 0) → PX13_parent_15 a1 G1 Q)))
set_option maxRecDepth 20000 in
theorem TX13_parent_0 {a1 : Int} {G : gS} {Q : Int → gS → Prop} (ha1 : inI a1) (h : PX13_parent_0 a1 G Q) : Tg W0 vX13_parent_0 [rf (16081), cI (a1)] [] G (fun r G => ∃ v, r = cI v ∧ inI v ∧ Q v G) := by
  unfold PX13_parent_0 at h
  unfold vX13_parent_0
  refine g_ld (v := rf _) rfl (is_R _) ?_
  refine g_ld (v := cI _) rfl (is_I _) ?_
  refine g_callV (As := [_]) (ci := 13) oC13 (fun _ => rfl) ?_
  refine g_go1 (Nat.le_of_ble_eq_true rfl) (Tn_w (TX13_isFace ha1 h) fun _ G1 ⟨r2, e, i3, h⟩ => ?_)
  subst e
  refine ⟨n7_I _, ?_⟩
  replace h := h i3
  refine g_eq1 ⟨by omega, by omega⟩ (fun b4 => ?_) (fun b4 => ?_)
  · replace h := h.1 b4
    unfold vX13_parent_8
    refine g_ld (v := cI _) rfl (is_I _) ?_
    refine g_const (v := cI (204)) rfl ?_
    refine g_eq2 ha1 ⟨by omega, by omega⟩ (fun b5 => ?_) (fun b5 => ?_)
    · replace h := h.1 b5
      exact TX13_parent_15 ha1 h
    · replace h := h.2 b5
      unfold vX13_parent_20
      refine g_ld (v := rf _) rfl (is_R _) ?_
      refine g_getF (v := 16102) oC13 (hC13_28) rfl (Nat.le_of_ble_eq_true rfl) (Nat.le_of_ble_eq_true rfl) ?_
      refine g_ld (v := cI _) rfl (is_I _) ?_
      obtain ⟨q6, q7, h⟩ := h
      refine g_aldL aC16102 q6 q7 rfl fun i8 => ?_
      replace h := h i8
      refine g_const (v := cL (0)) rfl ?_
      refine g_leq i8 ⟨by omega, by omega⟩ (fun b9 => ?_) (fun b9 => ?_)
      · replace h := h.1 b9
        unfold vX13_parent_31
        refine g_const (v := cI (204)) rfl ?_
        exact TX13_parent_47 ha1 ⟨by omega, by omega⟩ h
      · replace h := h.2 b9
        unfold vX13_parent_37
        refine g_ld (v := rf _) rfl (is_R _) ?_
        refine g_ld (v := rf _) rfl (is_R _) ?_
        refine g_getF (v := 16102) oC13 (hC13_28) rfl (Nat.le_of_ble_eq_true rfl) (Nat.le_of_ble_eq_true rfl) ?_
        refine g_ld (v := cI _) rfl (is_I _) ?_
        obtain ⟨q10, q11, h⟩ := h
        refine g_aldL aC16102 q10 q11 rfl fun i12 => ?_
        replace h := h i12
        refine g_callV (As := [_]) (ci := 13) oC13 (fun _ => rfl) ?_
        refine g_go1 (Nat.le_of_ble_eq_true rfl) (Tn_w (TX13_find i12 h) fun _ G13 ⟨r14, e, i15, h⟩ => ?_)
        subst e
        refine ⟨n7_I _, ?_⟩
        replace h := h i15
        exact TX13_parent_47 ha1 i15 h
  · replace h := h.2 b4
    exact TX13_parent_15 ha1 h
abbrev PX13_parent (a1 : Int) (G : gS) (Q : Int → gS → Prop) : Prop := PX13_parent_0 a1 G Q
theorem TX13_parent {a1 : Int} {G : gS} {Q : Int → gS → Prop} (ha1 : inI a1) (h : PX13_parent a1 G Q) : Tn W0 FX13_parent [rf (16081), cI (a1)] G (fun r G => ∃ v, r = cI v ∧ inI v ∧ Q v G) := by
  unfold FX13_parent
  refine g_ent (lv' := [rf (16081), cI (a1)]) (flR (flI fl0)) (Nat.le_of_ble_eq_true rfl) rfl ?_
  exact TX13_parent_0 ha1 h
def PX13_stoodBefore_28 (J : Nat → List Int → gS → (Int → gS → Prop) → Prop) (l0 : Int) (l1 : Int) (l2 : Int) (l3 : Int) (l4 : Int) (s0 : Int) (G : gS) (Q : Int → gS → Prop) : Prop :=
  (inI (l4 + 1) ∧ J 0 [l0, l1, l2, s0, l4 + 1] G Q)
set_option maxRecDepth 20000 in
theorem TX13_stoodBefore_28 {j : Nat → rx_K} {J : Nat → List Int → gS → (Int → gS → Prop) → Prop} {l0 : Int} {l1 : Int} {l2 : Int} {l3 : Int} {l4 : Int} {s0 : Int} {G : gS} {Q : Int → gS → Prop} (hl1 : inI l1) (hl2 : inI l2) (hl3 : inI l3) (hl4 : inI l4) (hs0 : inI s0) (hj0 : ∀ (l0 : Int) (l1 : Int) (l2 : Int) (l3 : Int) (l4 : Int) (G : gS), (inI l1) → (inI l2) → (inI l3) → (inI l4) → J 0 [l0, l1, l2, l3, l4] G Q → Tg W0 (j 0) [rf (l0), cI (l1), cI (l2), cI (l3), cI (l4)] [] G (fun r G => ∃ v, r = cI v ∧ (0 ≤ v ∧ v ≤ 1) ∧ Q v G)) (h : PX13_stoodBefore_28 J l0 l1 l2 l3 l4 s0 G Q) : Tg W0 (vX13_stoodBefore_28 j) [rf (l0), cI (l1), cI (l2), cI (l3), cI (l4)] [cI (s0)] G (fun r G => ∃ v, r = cI v ∧ (0 ≤ v ∧ v ≤ 1) ∧ Q v G) := by
  unfold PX13_stoodBefore_28 at h
  unfold vX13_stoodBefore_28
  refine g_st (lv' := [_, _, _, _, _]) (is_I _) (Nat.le_of_ble_eq_true rfl) (Or.inr (n1_I _)) rfl ?_
  refine g_inc (lv' := [_, _, _, _, _]) rfl (Nat.le_of_ble_eq_true rfl) (Or.inr (n1_I _)) rfl ?_
  obtain ⟨q10, h⟩ := h
  exact hj0 _ _ _ _ _ _ hl1 hl2 hs0 q10 h
def PX13_stoodBefore_23 (J : Nat → List Int → gS → (Int → gS → Prop) → Prop) (l0 : Int) (l1 : Int) (l2 : Int) (l3 : Int) (l4 : Int) (G : gS) (Q : Int → gS → Prop) : Prop :=
  PX13_stoodBefore_28 J l0 l1 l2 l3 l4 1 G Q
set_option maxRecDepth 20000 in
theorem TX13_stoodBefore_23 {j : Nat → rx_K} {J : Nat → List Int → gS → (Int → gS → Prop) → Prop} {l0 : Int} {l1 : Int} {l2 : Int} {l3 : Int} {l4 : Int} {G : gS} {Q : Int → gS → Prop} (hl1 : inI l1) (hl2 : inI l2) (hl3 : inI l3) (hl4 : inI l4) (hj0 : ∀ (l0 : Int) (l1 : Int) (l2 : Int) (l3 : Int) (l4 : Int) (G : gS), (inI l1) → (inI l2) → (inI l3) → (inI l4) → J 0 [l0, l1, l2, l3, l4] G Q → Tg W0 (j 0) [rf (l0), cI (l1), cI (l2), cI (l3), cI (l4)] [] G (fun r G => ∃ v, r = cI v ∧ (0 ≤ v ∧ v ≤ 1) ∧ Q v G)) (h : PX13_stoodBefore_23 J l0 l1 l2 l3 l4 G Q) : Tg W0 (vX13_stoodBefore_23 j) [rf (l0), cI (l1), cI (l2), cI (l3), cI (l4)] [] G (fun r G => ∃ v, r = cI v ∧ (0 ≤ v ∧ v ≤ 1) ∧ Q v G) := by
  unfold PX13_stoodBefore_23 at h
  unfold vX13_stoodBefore_23
  refine g_const (v := cI (1)) rfl ?_
  exact TX13_stoodBefore_28 hl1 hl2 hl3 hl4 ⟨by omega, by omega⟩ hj0 h
def PX13_stoodBefore_5 (J : Nat → List Int → gS → (Int → gS → Prop) → Prop) (l0 : Int) (l1 : Int) (l2 : Int) (l3 : Int) (l4 : Int) (G : gS) (Q : Int → gS → Prop) : Prop :=
  ((l4 < l1 → ((l3 = 0 → (∃ n3, isA W0 0 n3 (l0) ∧ ((0 : Int) ≤ l4 ∧ ((l4 : Int) < n3 ∧ (inI (G l0 l4) → ((G l0 l4 = l2 → PX13_stoodBefore_23 J l0 l1 l2 l3 l4 G Q) ∧ (¬ (G l0 l4 = l2) → PX13_stoodBefore_28 J l0 l1 l2 l3 l4 0 G Q))))))) ∧ (¬ (l3 = 0) → PX13_stoodBefore_23 J l0 l1 l2 l3 l4 G Q))) ∧ (¬ (l4 < l1) → ((0 ≤ l3 ∧ l3 ≤ 1) ∧ Q (l3) G)))
set_option maxRecDepth 20000 in
theorem TX13_stoodBefore_5 {j : Nat → rx_K} {J : Nat → List Int → gS → (Int → gS → Prop) → Prop} {l0 : Int} {l1 : Int} {l2 : Int} {l3 : Int} {l4 : Int} {G : gS} {Q : Int → gS → Prop} (hl1 : inI l1) (hl2 : inI l2) (hl3 : inI l3) (hl4 : inI l4) (hj0 : ∀ (l0 : Int) (l1 : Int) (l2 : Int) (l3 : Int) (l4 : Int) (G : gS), (inI l1) → (inI l2) → (inI l3) → (inI l4) → J 0 [l0, l1, l2, l3, l4] G Q → Tg W0 (j 0) [rf (l0), cI (l1), cI (l2), cI (l3), cI (l4)] [] G (fun r G => ∃ v, r = cI v ∧ (0 ≤ v ∧ v ≤ 1) ∧ Q v G)) (h : PX13_stoodBefore_5 J l0 l1 l2 l3 l4 G Q) : Tg W0 (vX13_stoodBefore_5 j) [rf (l0), cI (l1), cI (l2), cI (l3), cI (l4)] [] G (fun r G => ∃ v, r = cI v ∧ (0 ≤ v ∧ v ≤ 1) ∧ Q v G) := by
  unfold PX13_stoodBefore_5 at h
  unfold vX13_stoodBefore_5
  refine g_ld (v := cI _) rfl (is_I _) ?_
  refine g_ld (v := cI _) rfl (is_I _) ?_
  refine g_lt2 hl4 hl1 (fun b1 => ?_) (fun b1 => ?_)
  · replace h := h.1 b1
    unfold vX13_stoodBefore_11
    refine g_ld (v := cI _) rfl (is_I _) ?_
    refine g_eq1 hl3 (fun b2 => ?_) (fun b2 => ?_)
    · replace h := h.1 b2
      unfold vX13_stoodBefore_15
      refine g_ld (v := rf _) rfl (is_R _) ?_
      refine g_ld (v := cI _) rfl (is_I _) ?_
      obtain ⟨n3, q4, h⟩ := h
      obtain ⟨q5, q6, h⟩ := h
      refine g_aldI q4 q5 q6 rfl fun i7 => ?_
      replace h := h i7
      refine g_ld (v := cI _) rfl (is_I _) ?_
      refine g_eq2 i7 hl2 (fun b8 => ?_) (fun b8 => ?_)
      · replace h := h.1 b8
        exact TX13_stoodBefore_23 hl1 hl2 hl3 hl4 hj0 h
      · replace h := h.2 b8
        unfold vX13_stoodBefore_27
        refine g_const (v := cI (0)) rfl ?_
        exact TX13_stoodBefore_28 hl1 hl2 hl3 hl4 ⟨by omega, by omega⟩ hj0 h
    · replace h := h.2 b2
      exact TX13_stoodBefore_23 hl1 hl2 hl3 hl4 hj0 h
  · replace h := h.2 b1
    unfold vX13_stoodBefore_35
    refine g_ld (v := cI _) rfl (is_I _) ?_
    obtain ⟨q9, h⟩ := h
    exact g_ret1 (is_Z q9) ⟨_, rfl, q9, h⟩
def PX13_stoodBefore_0 (J : Nat → List Int → gS → (Int → gS → Prop) → Prop) (a0 : Int) (a1 : Int) (a2 : Int) (G : gS) (Q : Int → gS → Prop) : Prop :=
  PX13_stoodBefore_5 J a0 a1 a2 0 0 G Q
set_option maxRecDepth 20000 in
theorem TX13_stoodBefore_0 {j : Nat → rx_K} {J : Nat → List Int → gS → (Int → gS → Prop) → Prop} {a0 : Int} {a1 : Int} {a2 : Int} {G : gS} {Q : Int → gS → Prop} (ha1 : inI a1) (ha2 : inI a2) (hj0 : ∀ (l0 : Int) (l1 : Int) (l2 : Int) (l3 : Int) (l4 : Int) (G : gS), (inI l1) → (inI l2) → (inI l3) → (inI l4) → J 0 [l0, l1, l2, l3, l4] G Q → Tg W0 (j 0) [rf (l0), cI (l1), cI (l2), cI (l3), cI (l4)] [] G (fun r G => ∃ v, r = cI v ∧ (0 ≤ v ∧ v ≤ 1) ∧ Q v G)) (h : PX13_stoodBefore_0 J a0 a1 a2 G Q) : Tg W0 (vX13_stoodBefore_0 j) [rf (a0), cI (a1), cI (a2), 7, 7] [] G (fun r G => ∃ v, r = cI v ∧ (0 ≤ v ∧ v ≤ 1) ∧ Q v G) := by
  unfold PX13_stoodBefore_0 at h
  unfold vX13_stoodBefore_0
  refine g_const (v := cI (0)) rfl ?_
  refine g_st (lv' := [_, _, _, _, _]) (is_I _) (Nat.le_of_ble_eq_true rfl) (Or.inr (n1_I _)) rfl ?_
  refine g_const (v := cI (0)) rfl ?_
  refine g_st (lv' := [_, _, _, _, _]) (is_I _) (Nat.le_of_ble_eq_true rfl) (Or.inr (n1_I _)) rfl ?_
  exact TX13_stoodBefore_5 ha1 ha2 ⟨by omega, by omega⟩ ⟨by omega, by omega⟩ hj0 h
def PX13_stoodBefore_J : Nat → Nat → List Int → gS → (Int → gS → Prop) → Prop
  | 0, _, _, _, _ => False
  | f + 1, h, L, G, Q => match h, L with
    | 0, [l0, l1, l2, l3, l4] => PX13_stoodBefore_5 (PX13_stoodBefore_J f) l0 l1 l2 l3 l4 G Q
    | _, _ => False
theorem TX13_stoodBefore_J {Q : Int → gS → Prop} : ∀ f N : Nat, f ≤ N → (∀ (l0 : Int) (l1 : Int) (l2 : Int) (l3 : Int) (l4 : Int) (G : gS), (inI l1) → (inI l2) → (inI l3) → (inI l4) → (PX13_stoodBefore_J f) 0 [l0, l1, l2, l3, l4] G Q → Tg W0 (rx_J vhX13_stoodBefore N 0) [rf (l0), cI (l1), cI (l2), cI (l3), cI (l4)] [] G (fun r G => ∃ v, r = cI v ∧ (0 ≤ v ∧ v ≤ 1) ∧ Q v G)) := by
  intro f
  induction f with
  | zero => exact fun N _ => fun _ _ _ _ _ _ _ _ _ _ h => h.elim
  | succ f ih =>
    intro N hN
    obtain ⟨M, rfl⟩ : ∃ M, N = M + 1 := ⟨N - 1, by omega⟩
    have ih := ih M (by omega)
    exact fun _ _ _ _ _ _ hl1 hl2 hl3 hl4 h => show Tg W0 (vX13_stoodBefore_5 (rx_J vhX13_stoodBefore M)) _ _ _ _ from TX13_stoodBefore_5 hl1 hl2 hl3 hl4 ih h
def PX13_stoodBefore (a0 : Int) (a1 : Int) (a2 : Int) (G : gS) (Q : Int → gS → Prop) : Prop := ∃ f : Nat, f ≤ 4000000000 ∧ PX13_stoodBefore_0 (PX13_stoodBefore_J f) a0 a1 a2 G Q
theorem TX13_stoodBefore {a0 : Int} {a1 : Int} {a2 : Int} {G : gS} {Q : Int → gS → Prop} (ha1 : inI a1) (ha2 : inI a2) (h : PX13_stoodBefore a0 a1 a2 G Q) : Tn W0 FX13_stoodBefore [rf (a0), cI (a1), cI (a2)] G (fun r G => ∃ v, r = cI v ∧ (0 ≤ v ∧ v ≤ 1) ∧ Q v G) := by
  obtain ⟨f, hf, h⟩ := h
  have hJ := TX13_stoodBefore_J (Q := Q) f 4000000000 hf
  unfold FX13_stoodBefore
  refine g_ent (lv' := [rf (a0), cI (a1), cI (a2), 7, 7]) (flR (flI (flI fl0))) (Nat.le_of_ble_eq_true rfl) rfl ?_
  exact TX13_stoodBefore_0 ha1 ha2 hJ h
def PX13_parents_41 (J : Nat → List Int → gS → (Int → gS → Prop) → Prop) (l1 : Int) (l2 : Int) (l3 : Int) (l4 : Int) (G : gS) (Q : Int → gS → Prop) : Prop :=
  Q (l3) G
set_option maxRecDepth 20000 in
theorem TX13_parents_41 {j : Nat → rx_K} {J : Nat → List Int → gS → (Int → gS → Prop) → Prop} {l1 : Int} {l2 : Int} {l3 : Int} {l4 : Int} {G : gS} {Q : Int → gS → Prop} (hl1 : inI l1) (hl3 : inI l3) (hl4 : inI l4) (hj0 : ∀ (l1 : Int) (l2 : Int) (l3 : Int) (l4 : Int) (G : gS), (inI l1) → (inI l3) → (inI l4) → J 0 [l1, l2, l3, l4] G Q → Tg W0 (j 0) [rf (16081), cI (l1), rf (l2), cI (l3), cI (l4)] [] G (fun r G => ∃ v, r = cI v ∧ inI v ∧ Q v G)) (h : PX13_parents_41 J l1 l2 l3 l4 G Q) : Tg W0 (vX13_parents_41 j) [rf (16081), cI (l1), rf (l2), cI (l3), cI (l4)] [] G (fun r G => ∃ v, r = cI v ∧ inI v ∧ Q v G) := by
  unfold PX13_parents_41 at h
  unfold vX13_parents_41
  refine g_ld (v := cI _) rfl (is_I _) ?_
  exact g_ret1 (is_I _) ⟨_, rfl, hl3, h⟩
def PX13_parents_5 (J : Nat → List Int → gS → (Int → gS → Prop) → Prop) (l1 : Int) (l2 : Int) (l3 : Int) (l4 : Int) (G : gS) (Q : Int → gS → Prop) : Prop :=
  ((l4 = -2 → PX13_parents_41 J l1 l2 l3 l4 G Q) ∧ (¬ (l4 = -2) → PX13_stoodBefore l2 l3 l4 G (fun r3 G2 => (0 ≤ r3 ∧ r3 ≤ 1) → ((r3 = 0 → (inI (l3 + 1) ∧ (∃ n7, isA W0 0 n7 (l2) ∧ ((0 : Int) ≤ l3 ∧ ((l3 : Int) < n7 ∧ (∀ G11 : gS, G11 = uG G2 l2 l3 (l4) → PX13_parent l4 G11 (fun r13 G12 => inI r13 → J 0 [l1, l2, l3 + 1, r13] G12 Q))))))) ∧ (¬ (r3 = 0) → PX13_parents_41 J l1 l2 l3 l4 G2 Q)))))
set_option maxRecDepth 20000 in
theorem TX13_parents_5 {j : Nat → rx_K} {J : Nat → List Int → gS → (Int → gS → Prop) → Prop} {l1 : Int} {l2 : Int} {l3 : Int} {l4 : Int} {G : gS} {Q : Int → gS → Prop} (hl1 : inI l1) (hl3 : inI l3) (hl4 : inI l4) (hj0 : ∀ (l1 : Int) (l2 : Int) (l3 : Int) (l4 : Int) (G : gS), (inI l1) → (inI l3) → (inI l4) → J 0 [l1, l2, l3, l4] G Q → Tg W0 (j 0) [rf (16081), cI (l1), rf (l2), cI (l3), cI (l4)] [] G (fun r G => ∃ v, r = cI v ∧ inI v ∧ Q v G)) (h : PX13_parents_5 J l1 l2 l3 l4 G Q) : Tg W0 (vX13_parents_5 j) [rf (16081), cI (l1), rf (l2), cI (l3), cI (l4)] [] G (fun r G => ∃ v, r = cI v ∧ inI v ∧ Q v G) := by
  unfold PX13_parents_5 at h
  unfold vX13_parents_5
  refine g_ld (v := cI _) rfl (is_I _) ?_
  refine g_const (v := cI (-2)) rfl ?_
  refine g_eq2 hl4 ⟨by omega, by omega⟩ (fun b1 => ?_) (fun b1 => ?_)
  · replace h := h.1 b1
    exact TX13_parents_41 hl1 hl3 hl4 hj0 h
  · replace h := h.2 b1
    unfold vX13_parents_12
    refine g_ld (v := rf _) rfl (is_R _) ?_
    refine g_ld (v := cI _) rfl (is_I _) ?_
    refine g_ld (v := cI _) rfl (is_I _) ?_
    refine g_callS (As := [_, _, _]) (fun _ => rfl) ?_
    refine g_go1 (Nat.le_of_ble_eq_true rfl) (Tn_w (TX13_stoodBefore hl3 hl4 h) fun _ G2 ⟨r3, e, i4, h⟩ => ?_)
    subst e
    refine ⟨n7_I _, ?_⟩
    replace h := h i4
    refine g_eq1 ⟨by omega, by omega⟩ (fun b5 => ?_) (fun b5 => ?_)
    · replace h := h.1 b5
      unfold vX13_parents_22
      refine g_ld (v := rf _) rfl (is_R _) ?_
      refine g_ld (v := cI _) rfl (is_I _) ?_
      refine g_inc (lv' := [_, _, _, _, _]) rfl (Nat.le_of_ble_eq_true rfl) (Or.inr (n1_R _)) rfl ?_
      obtain ⟨q6, h⟩ := h
      refine g_ld (v := cI _) rfl (is_I _) ?_
      obtain ⟨n7, q8, h⟩ := h
      obtain ⟨q9, q10, h⟩ := h
      refine g_astI q8 q9 q10 hl4 (nfI q8) ?_
      replace h := h _ rfl
      refine g_ld (v := rf _) rfl (is_R _) ?_
      refine g_ld (v := cI _) rfl (is_I _) ?_
      refine g_callV (As := [_]) (ci := 13) oC13 (fun _ => rfl) ?_
      refine g_go1 (Nat.le_of_ble_eq_true rfl) (Tn_w (TX13_parent hl4 h) fun _ G12 ⟨r13, e, i14, h⟩ => ?_)
      subst e
      refine ⟨n7_I _, ?_⟩
      replace h := h i14
      refine g_st (lv' := [_, _, _, _, _]) (is_I _) (Nat.le_of_ble_eq_true rfl) (Or.inr (n1_I _)) rfl ?_
      exact hj0 _ _ _ _ _ hl1 q6 i14 h
    · replace h := h.2 b5
      exact TX13_parents_41 hl1 hl3 hl4 hj0 h
def PX13_parents_0 (J : Nat → List Int → gS → (Int → gS → Prop) → Prop) (a1 : Int) (a2 : Int) (G : gS) (Q : Int → gS → Prop) : Prop :=
  PX13_parents_5 J a1 a2 0 a1 G Q
set_option maxRecDepth 20000 in
theorem TX13_parents_0 {j : Nat → rx_K} {J : Nat → List Int → gS → (Int → gS → Prop) → Prop} {a1 : Int} {a2 : Int} {G : gS} {Q : Int → gS → Prop} (ha1 : inI a1) (hj0 : ∀ (l1 : Int) (l2 : Int) (l3 : Int) (l4 : Int) (G : gS), (inI l1) → (inI l3) → (inI l4) → J 0 [l1, l2, l3, l4] G Q → Tg W0 (j 0) [rf (16081), cI (l1), rf (l2), cI (l3), cI (l4)] [] G (fun r G => ∃ v, r = cI v ∧ inI v ∧ Q v G)) (h : PX13_parents_0 J a1 a2 G Q) : Tg W0 (vX13_parents_0 j) [rf (16081), cI (a1), rf (a2), 7, 7] [] G (fun r G => ∃ v, r = cI v ∧ inI v ∧ Q v G) := by
  unfold PX13_parents_0 at h
  unfold vX13_parents_0
  refine g_const (v := cI (0)) rfl ?_
  refine g_st (lv' := [_, _, _, _, _]) (is_I _) (Nat.le_of_ble_eq_true rfl) (Or.inr (n1_R _)) rfl ?_
  refine g_ld (v := cI _) rfl (is_I _) ?_
  refine g_st (lv' := [_, _, _, _, _]) (is_I _) (Nat.le_of_ble_eq_true rfl) (Or.inr (n1_I _)) rfl ?_
  exact TX13_parents_5 ha1 ⟨by omega, by omega⟩ ha1 hj0 h
def PX13_parents_J : Nat → Nat → List Int → gS → (Int → gS → Prop) → Prop
  | 0, _, _, _, _ => False
  | f + 1, h, L, G, Q => match h, L with
    | 0, [l1, l2, l3, l4] => PX13_parents_5 (PX13_parents_J f) l1 l2 l3 l4 G Q
    | _, _ => False
theorem TX13_parents_J {Q : Int → gS → Prop} : ∀ f N : Nat, f ≤ N → (∀ (l1 : Int) (l2 : Int) (l3 : Int) (l4 : Int) (G : gS), (inI l1) → (inI l3) → (inI l4) → (PX13_parents_J f) 0 [l1, l2, l3, l4] G Q → Tg W0 (rx_J vhX13_parents N 0) [rf (16081), cI (l1), rf (l2), cI (l3), cI (l4)] [] G (fun r G => ∃ v, r = cI v ∧ inI v ∧ Q v G)) := by
  intro f
  induction f with
  | zero => exact fun N _ => fun _ _ _ _ _ _ _ _ h => h.elim
  | succ f ih =>
    intro N hN
    obtain ⟨M, rfl⟩ : ∃ M, N = M + 1 := ⟨N - 1, by omega⟩
    have ih := ih M (by omega)
    exact fun _ _ _ _ _ hl1 hl3 hl4 h => show Tg W0 (vX13_parents_5 (rx_J vhX13_parents M)) _ _ _ _ from TX13_parents_5 hl1 hl3 hl4 ih h
def PX13_parents (a1 : Int) (a2 : Int) (G : gS) (Q : Int → gS → Prop) : Prop := ∃ f : Nat, f ≤ 4000000000 ∧ PX13_parents_0 (PX13_parents_J f) a1 a2 G Q
theorem TX13_parents {a1 : Int} {a2 : Int} {G : gS} {Q : Int → gS → Prop} (ha1 : inI a1) (h : PX13_parents a1 a2 G Q) : Tn W0 FX13_parents [rf (16081), cI (a1), rf (a2)] G (fun r G => ∃ v, r = cI v ∧ inI v ∧ Q v G) := by
  obtain ⟨f, hf, h⟩ := h
  have hJ := TX13_parents_J (Q := Q) f 4000000000 hf
  unfold FX13_parents
  refine g_ent (lv' := [rf (16081), cI (a1), rf (a2), 7, 7]) (flR (flI (flR fl0))) (Nat.le_of_ble_eq_true rfl) rfl ?_
  exact TX13_parents_0 ha1 hJ h
end DE

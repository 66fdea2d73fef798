section DE
def PX3_closeRow_98  (G : gS) (Q : Int → gS → Prop) : Prop :=
  ((G 820 1 = -1 ∨ isO W0 1 (G 820 1)) → (inI (G 820 6) → (isO W0 1 (G 820 1) ∧ PX1_patch (G 820 1) (G 820 6) G (fun _ G48 => ((G48 820 1 = -1 ∨ isO W0 1 (G48 820 1)) → (isO W0 1 (G48 820 1) ∧ PX1_emit (G48 820 1) 21 0 G48 (fun r53 G52 => inI r53 → Q 0 G52)))))))
set_option maxRecDepth 20000 in
theorem TX3_closeRow_98  {G : gS} {Q : Int → gS → Prop}  (h : PX3_closeRow_98  G Q) : Tg W0 vX3_closeRow_98 [rf (820)] [] G (fun r G => r = 7 ∧ Q 0 G) := by
  unfold PX3_closeRow_98 at h
  unfold vX3_closeRow_98
  refine g_ld (v := rf _) rfl (is_R _) ?_
  refine g_getR (kz := 1) (c := 1) oC3 rfl (Nat.le_of_ble_eq_true rfl) rfl (by decide) fun i45 => ?_
  replace h := h i45
  refine g_ld (v := rf _) rfl (is_R _) ?_
  refine g_getI (kz := 6) oC3 rfl (Nat.le_of_ble_eq_true rfl) rfl fun i46 => ?_
  replace h := h i46
  obtain ⟨q47, h⟩ := h
  refine g_callV (As := [_]) (ci := 1) q47 (fun _ => rfl) ?_
  refine g_go0 (Nat.le_of_ble_eq_true rfl) (Tn_w (TX1_patch i46 h) fun _ G48 ⟨e, h⟩ => ⟨e, ?_⟩)
  refine g_ld (v := rf _) rfl (is_R _) ?_
  refine g_getR (kz := 1) (c := 1) oC3 rfl (Nat.le_of_ble_eq_true rfl) rfl (by decide) fun i50 => ?_
  replace h := h i50
  refine g_const (v := cI (21)) rfl ?_
  refine g_const (v := cI (0)) rfl ?_
  obtain ⟨q51, h⟩ := h
  refine g_callV (As := [_, _]) (ci := 1) q51 (fun _ => rfl) ?_
  refine g_go1 (Nat.le_of_ble_eq_true rfl) (Tn_w (TX1_emit ⟨by omega, by omega⟩ ⟨by omega, by omega⟩ h) fun _ G52 ⟨r53, e, i54, h⟩ => ?_)
  subst e
  refine ⟨n7_I _, ?_⟩
  replace h := h i54
  refine g_pop (ct_I _) ?_
  exact g_ret0 ⟨rfl, h⟩
def PX3_closeRow_52  (G : gS) (Q : Int → gS → Prop) : Prop :=
  ((G 820 1 = -1 ∨ isO W0 1 (G 820 1)) → (inI (G 820 5) → (isO W0 1 (G 820 1) ∧ PX1_patch (G 820 1) (G 820 5) G (fun _ G28 => ((G28 820 1 = -1 ∨ isO W0 1 (G28 820 1)) → (isO W0 1 (G28 820 1) ∧ PX1_emit (G28 820 1) 22 0 G28 (fun r33 G32 => inI r33 → ((G32 820 2 = -1 ∨ isO W0 10 (G32 820 2)) → (isO W0 10 (G32 820 2) ∧ (inI (G32 (G32 820 2) 19) → ((G32 (G32 820 2) 19 < 0 → ((G32 820 2 = -1 ∨ isO W0 10 (G32 820 2)) → ((G32 820 1 = -1 ∨ isO W0 1 (G32 820 1)) → (isO W0 1 (G32 820 1) ∧ (inI (G32 (G32 820 1) 17) → (isO W0 10 (G32 820 2) ∧ (∀ G44 : gS, G44 = uG G32 (G32 820 2) 19 (G32 (G32 820 1) 17) → PX3_closeRow_98  G44 Q))))))) ∧ (¬ (G32 (G32 820 2) 19 < 0) → PX3_closeRow_98  G32 Q))))))))))))
set_option maxRecDepth 20000 in
theorem TX3_closeRow_52  {G : gS} {Q : Int → gS → Prop}  (h : PX3_closeRow_52  G Q) : Tg W0 vX3_closeRow_52 [rf (820)] [] G (fun r G => r = 7 ∧ Q 0 G) := by
  unfold PX3_closeRow_52 at h
  unfold vX3_closeRow_52
  refine g_ld (v := rf _) rfl (is_R _) ?_
  refine g_getR (kz := 1) (c := 1) oC3 rfl (Nat.le_of_ble_eq_true rfl) rfl (by decide) fun i25 => ?_
  replace h := h i25
  refine g_ld (v := rf _) rfl (is_R _) ?_
  refine g_getI (kz := 5) oC3 rfl (Nat.le_of_ble_eq_true rfl) rfl fun i26 => ?_
  replace h := h i26
  obtain ⟨q27, h⟩ := h
  refine g_callV (As := [_]) (ci := 1) q27 (fun _ => rfl) ?_
  refine g_go0 (Nat.le_of_ble_eq_true rfl) (Tn_w (TX1_patch i26 h) fun _ G28 ⟨e, h⟩ => ⟨e, ?_⟩)
  refine g_ld (v := rf _) rfl (is_R _) ?_
  refine g_getR (kz := 1) (c := 1) oC3 rfl (Nat.le_of_ble_eq_true rfl) rfl (by decide) fun i30 => ?_
  replace h := h i30
  refine g_const (v := cI (22)) rfl ?_
  refine g_const (v := cI (0)) rfl ?_
  obtain ⟨q31, h⟩ := h
  refine g_callV (As := [_, _]) (ci := 1) q31 (fun _ => rfl) ?_
  refine g_go1 (Nat.le_of_ble_eq_true rfl) (Tn_w (TX1_emit ⟨by omega, by omega⟩ ⟨by omega, by omega⟩ h) fun _ G32 ⟨r33, e, i34, h⟩ => ?_)
  subst e
  refine ⟨n7_I _, ?_⟩
  replace h := h i34
  refine g_pop (ct_I _) ?_
  refine g_ld (v := rf _) rfl (is_R _) ?_
  refine g_getR (kz := 2) (c := 10) oC3 rfl (Nat.le_of_ble_eq_true rfl) rfl (by decide) fun i35 => ?_
  replace h := h i35
  obtain ⟨q36, h⟩ := h
  refine g_getI (kz := 19) q36 rfl (Nat.le_of_ble_eq_true rfl) rfl fun i37 => ?_
  replace h := h i37
  refine g_lt1 i37 (fun b38 => ?_) (fun b38 => ?_)
  · replace h := h.1 b38
    unfold vX3_closeRow_84
    refine g_ld (v := rf _) rfl (is_R _) ?_
    refine g_getR (kz := 2) (c := 10) oC3 rfl (Nat.le_of_ble_eq_true rfl) rfl (by decide) fun i39 => ?_
    replace h := h i39
    refine g_ld (v := rf _) rfl (is_R _) ?_
    refine g_getR (kz := 1) (c := 1) oC3 rfl (Nat.le_of_ble_eq_true rfl) rfl (by decide) fun i40 => ?_
    replace h := h i40
    obtain ⟨q41, h⟩ := h
    refine g_getI (kz := 17) q41 rfl (Nat.le_of_ble_eq_true rfl) rfl fun i42 => ?_
    replace h := h i42
    obtain ⟨q43, h⟩ := h
    refine g_putI (kz := 19) q43 rfl (Nat.le_of_ble_eq_true rfl) rfl i42 (nf10_19 q43) ?_
    replace h := h _ rfl
    exact TX3_closeRow_98  h
  · replace h := h.2 b38
    exact TX3_closeRow_98  h
def PX3_closeRow_0  (G : gS) (Q : Int → gS → Prop) : Prop :=
  ((G 820 2 = -1 ∨ isO W0 10 (G 820 2)) → ((G 820 1 = -1 ∨ isO W0 1 (G 820 1)) → (isO W0 1 (G 820 1) ∧ (inI (G (G 820 1) 15) → ((G 820 2 = -1 ∨ isO W0 10 (G 820 2)) → (isO W0 10 (G 820 2) ∧ (inI (G (G 820 2) 16) → (isO W0 10 (G 820 2) ∧ (inI ((G (G 820 1) 15) - (G (G 820 2) 16)) ∧ (∀ G10 : gS, G10 = uG G (G 820 2) 17 ((G (G 820 1) 15) - (G (G 820 2) 16)) → ((G10 820 2 = -1 ∨ isO W0 10 (G10 820 2)) → (isO W0 10 (G10 820 2) ∧ ((G10 (G10 820 2) 18 = -1 ∨ isO W0 7 (G10 (G10 820 2) 18)) → (isO W0 7 (G10 (G10 820 2) 18) ∧ (inI (G10 (G10 (G10 820 2) 18) 17) → ((G10 (G10 (G10 820 2) 18) 17 < 0 → ((G10 820 2 = -1 ∨ isO W0 10 (G10 820 2)) → (isO W0 10 (G10 820 2) ∧ ((G10 (G10 820 2) 18 = -1 ∨ isO W0 7 (G10 (G10 820 2) 18)) → ((G10 820 1 = -1 ∨ isO W0 1 (G10 820 1)) → (isO W0 1 (G10 820 1) ∧ (inI (G10 (G10 820 1) 17) → (isO W0 7 (G10 (G10 820 2) 18) ∧ (∀ G24 : gS, G24 = uG G10 (G10 (G10 820 2) 18) 17 (G10 (G10 820 1) 17) → PX3_closeRow_52  G24 Q))))))))) ∧ (¬ (G10 (G10 (G10 820 2) 18) 17 < 0) → PX3_closeRow_52  G10 Q)))))))))))))))))
set_option maxRecDepth 20000 in
theorem TX3_closeRow_0  {G : gS} {Q : Int → gS → Prop}  (h : PX3_closeRow_0  G Q) : Tg W0 vX3_closeRow_0 [rf (820)] [] G (fun r G => r = 7 ∧ Q 0 G) := by
  unfold PX3_closeRow_0 at h
  unfold vX3_closeRow_0
  refine g_ld (v := rf _) rfl (is_R _) ?_
  refine g_getR (kz := 2) (c := 10) oC3 rfl (Nat.le_of_ble_eq_true rfl) rfl (by decide) fun i1 => ?_
  replace h := h i1
  refine g_ld (v := rf _) rfl (is_R _) ?_
  refine g_getR (kz := 1) (c := 1) oC3 rfl (Nat.le_of_ble_eq_true rfl) rfl (by decide) fun i2 => ?_
  replace h := h i2
  obtain ⟨q3, h⟩ := h
  refine g_getI (kz := 15) q3 rfl (Nat.le_of_ble_eq_true rfl) rfl fun i4 => ?_
  replace h := h i4
  refine g_ld (v := rf _) rfl (is_R _) ?_
  refine g_getR (kz := 2) (c := 10) oC3 rfl (Nat.le_of_ble_eq_true rfl) rfl (by decide) fun i5 => ?_
  replace h := h i5
  obtain ⟨q6, h⟩ := h
  refine g_getI (kz := 16) q6 rfl (Nat.le_of_ble_eq_true rfl) rfl fun i7 => ?_
  replace h := h i7
  refine g_sub ?_
  obtain ⟨q8, h⟩ := h
  obtain ⟨q9, h⟩ := h
  refine g_putI (kz := 17) q8 rfl (Nat.le_of_ble_eq_true rfl) rfl q9 (nf10_17 q8) ?_
  replace h := h _ rfl
  refine g_ld (v := rf _) rfl (is_R _) ?_
  refine g_getR (kz := 2) (c := 10) oC3 rfl (Nat.le_of_ble_eq_true rfl) rfl (by decide) fun i11 => ?_
  replace h := h i11
  obtain ⟨q12, h⟩ := h
  refine g_getR (kz := 18) (c := 7) q12 rfl (Nat.le_of_ble_eq_true rfl) rfl (by decide) fun i13 => ?_
  replace h := h i13
  obtain ⟨q14, h⟩ := h
  refine g_getI (kz := 17) q14 rfl (Nat.le_of_ble_eq_true rfl) rfl fun i15 => ?_
  replace h := h i15
  refine g_lt1 i15 (fun b16 => ?_) (fun b16 => ?_)
  · replace h := h.1 b16
    unfold vX3_closeRow_35
    refine g_ld (v := rf _) rfl (is_R _) ?_
    refine g_getR (kz := 2) (c := 10) oC3 rfl (Nat.le_of_ble_eq_true rfl) rfl (by decide) fun i17 => ?_
    replace h := h i17
    obtain ⟨q18, h⟩ := h
    refine g_getR (kz := 18) (c := 7) q18 rfl (Nat.le_of_ble_eq_true rfl) rfl (by decide) fun i19 => ?_
    replace h := h i19
    refine g_ld (v := rf _) rfl (is_R _) ?_
    refine g_getR (kz := 1) (c := 1) oC3 rfl (Nat.le_of_ble_eq_true rfl) rfl (by decide) fun i20 => ?_
    replace h := h i20
    obtain ⟨q21, h⟩ := h
    refine g_getI (kz := 17) q21 rfl (Nat.le_of_ble_eq_true rfl) rfl fun i22 => ?_
    replace h := h i22
    obtain ⟨q23, h⟩ := h
    refine g_putI (kz := 17) q23 rfl (Nat.le_of_ble_eq_true rfl) rfl i22 (nf7_17 q23) ?_
    replace h := h _ rfl
    exact TX3_closeRow_52  h
  · replace h := h.2 b16
    exact TX3_closeRow_52  h
abbrev PX3_closeRow  (G : gS) (Q : Int → gS → Prop) : Prop := PX3_closeRow_0  G Q
theorem TX3_closeRow  {G : gS} {Q : Int → gS → Prop}  (h : PX3_closeRow  G Q) : Tn W0 FX3_closeRow [rf (820)] G (fun r G => r = 7 ∧ Q 0 G) := by
  unfold FX3_closeRow
  refine g_ent (lv' := [rf (820)]) (flR fl0) (Nat.le_of_ble_eq_true rfl) rfl ?_
  exact TX3_closeRow_0  h
def PX10_add_32 (o : Int) (l1 : Int) (G : gS) (Q : Int → gS → Prop) : Prop :=
  Q 0 G
set_option maxRecDepth 20000 in
theorem TX10_add_32 {o : Int} {l1 : Int} {G : gS} {Q : Int → gS → Prop}  (h : PX10_add_32 o l1 G Q) : Tg W0 vX10_add_32 [rf (o), rf (l1)] [] G (fun r G => r = 7 ∧ Q 0 G) := by
  unfold PX10_add_32 at h
  unfold vX10_add_32
  exact g_ret0 ⟨rfl, h⟩
def PX10_add_0 (o : Int) (a1 : Int) (G : gS) (Q : Int → gS → Prop) : Prop :=
  (isO W0 10 (o) ∧ (inI (G o 15) → ((G o 15 < 33 → (inI (G o 15) → ((0 : Int) ≤ G o 15 ∧ ((G o 15 : Int) < 33 ∧ (W0.2 (o + 4) (G o 15) = none ∧ ((a1 = -1 ∨ isO W0 7 (a1)) ∧ (∀ G9 : gS, G9 = uG G (o + 4) (G o 15) (a1) → (inI (G9 o 15) → (inI ((G9 o 15) + 1) ∧ (∀ G12 : gS, G12 = uG G9 o 15 ((G9 o 15) + 1) → PX10_add_32 o a1 G12 Q)))))))))) ∧ (¬ (G o 15 < 33) → PX10_add_32 o a1 G Q))))
set_option maxRecDepth 20000 in
theorem TX10_add_0 {o : Int} {a1 : Int} {G : gS} {Q : Int → gS → Prop}  (h : PX10_add_0 o a1 G Q) : Tg W0 vX10_add_0 [rf (o), rf (a1)] [] G (fun r G => r = 7 ∧ Q 0 G) := by
  unfold PX10_add_0 at h
  unfold vX10_add_0
  refine g_ld (v := rf _) rfl (is_R _) ?_
  obtain ⟨q1, h⟩ := h
  refine g_getI (kz := 15) q1 rfl (Nat.le_of_ble_eq_true rfl) rfl fun i2 => ?_
  replace h := h i2
  refine g_ld (v := rf _) rfl (is_R _) ?_
  refine g_getF q1 (ff10_14 q1).1 rfl (Nat.le_of_ble_eq_true rfl) (Nat.le_of_ble_eq_true rfl) ?_
  refine g_alen (ff10_14 q1).2 ?_
  refine g_lt2 i2 ⟨by omega, by omega⟩ (fun b3 => ?_) (fun b3 => ?_)
  · replace h := h.1 b3
    unfold vX10_add_12
    refine g_ld (v := rf _) rfl (is_R _) ?_
    refine g_getF q1 (ff10_14 q1).1 rfl (Nat.le_of_ble_eq_true rfl) (Nat.le_of_ble_eq_true rfl) ?_
    refine g_ld (v := rf _) rfl (is_R _) ?_
    refine g_getI (kz := 15) q1 rfl (Nat.le_of_ble_eq_true rfl) rfl fun i4 => ?_
    replace h := h i4
    refine g_ld (v := rf _) rfl (is_R _) ?_
    obtain ⟨q5, q6, q7, h⟩ := h
    obtain ⟨q8, h⟩ := h
    refine g_aastR (c := 7) (ff10_14 q1).2 q5 q6 rfl (by decide) q8 q7 ?_
    replace h := h _ rfl
    refine g_ld (v := rf _) rfl (is_R _) ?_
    refine g_dup (ct_R _) ?_
    refine g_getI (kz := 15) q1 rfl (Nat.le_of_ble_eq_true rfl) rfl fun i10 => ?_
    replace h := h i10
    refine g_const (v := cI (1)) rfl ?_
    refine g_add ?_
    obtain ⟨q11, h⟩ := h
    refine g_putI (kz := 15) q1 rfl (Nat.le_of_ble_eq_true rfl) rfl q11 (nf10_15 q1) ?_
    replace h := h _ rfl
    exact TX10_add_32  h
  · replace h := h.2 b3
    exact TX10_add_32  h
abbrev PX10_add (o : Int) (a1 : Int) (G : gS) (Q : Int → gS → Prop) : Prop := PX10_add_0 o a1 G Q
theorem TX10_add {o : Int} {a1 : Int} {G : gS} {Q : Int → gS → Prop}  (h : PX10_add o a1 G Q) : Tn W0 FX10_add [rf (o), rf (a1)] G (fun r G => r = 7 ∧ Q 0 G) := by
  unfold FX10_add
  refine g_ent (lv' := [rf (o), rf (a1)]) (flR (flR fl0)) (Nat.le_of_ble_eq_true rfl) rfl ?_
  exact TX10_add_0  h
def PX10_addItem_32 (o : Int) (l1 : Int) (G : gS) (Q : Int → gS → Prop) : Prop :=
  Q 0 G
set_option maxRecDepth 20000 in
theorem TX10_addItem_32 {o : Int} {l1 : Int} {G : gS} {Q : Int → gS → Prop}  (h : PX10_addItem_32 o l1 G Q) : Tg W0 vX10_addItem_32 [rf (o), rf (l1)] [] G (fun r G => r = 7 ∧ Q 0 G) := by
  unfold PX10_addItem_32 at h
  unfold vX10_addItem_32
  exact g_ret0 ⟨rfl, h⟩
def PX10_addItem_0 (o : Int) (a1 : Int) (G : gS) (Q : Int → gS → Prop) : Prop :=
  (isO W0 10 (o) ∧ (inI (G o 13) → ((G o 13 < 20 → (inI (G o 13) → ((0 : Int) ≤ G o 13 ∧ ((G o 13 : Int) < 20 ∧ (W0.2 (o + 3) (G o 13) = none ∧ ((a1 = -1 ∨ isO W0 7 (a1)) ∧ (∀ G9 : gS, G9 = uG G (o + 3) (G o 13) (a1) → (inI (G9 o 13) → (inI ((G9 o 13) + 1) ∧ (∀ G12 : gS, G12 = uG G9 o 13 ((G9 o 13) + 1) → PX10_addItem_32 o a1 G12 Q)))))))))) ∧ (¬ (G o 13 < 20) → PX10_addItem_32 o a1 G Q))))
set_option maxRecDepth 20000 in
theorem TX10_addItem_0 {o : Int} {a1 : Int} {G : gS} {Q : Int → gS → Prop}  (h : PX10_addItem_0 o a1 G Q) : Tg W0 vX10_addItem_0 [rf (o), rf (a1)] [] G (fun r G => r = 7 ∧ Q 0 G) := by
  unfold PX10_addItem_0 at h
  unfold vX10_addItem_0
  refine g_ld (v := rf _) rfl (is_R _) ?_
  obtain ⟨q1, h⟩ := h
  refine g_getI (kz := 13) q1 rfl (Nat.le_of_ble_eq_true rfl) rfl fun i2 => ?_
  replace h := h i2
  refine g_ld (v := rf _) rfl (is_R _) ?_
  refine g_getF q1 (ff10_12 q1).1 rfl (Nat.le_of_ble_eq_true rfl) (Nat.le_of_ble_eq_true rfl) ?_
  refine g_alen (ff10_12 q1).2 ?_
  refine g_lt2 i2 ⟨by omega, by omega⟩ (fun b3 => ?_) (fun b3 => ?_)
  · replace h := h.1 b3
    unfold vX10_addItem_12
    refine g_ld (v := rf _) rfl (is_R _) ?_
    refine g_getF q1 (ff10_12 q1).1 rfl (Nat.le_of_ble_eq_true rfl) (Nat.le_of_ble_eq_true rfl) ?_
    refine g_ld (v := rf _) rfl (is_R _) ?_
    refine g_getI (kz := 13) q1 rfl (Nat.le_of_ble_eq_true rfl) rfl fun i4 => ?_
    replace h := h i4
    refine g_ld (v := rf _) rfl (is_R _) ?_
    obtain ⟨q5, q6, q7, h⟩ := h
    obtain ⟨q8, h⟩ := h
    refine g_aastR (c := 7) (ff10_12 q1).2 q5 q6 rfl (by decide) q8 q7 ?_
    replace h := h _ rfl
    refine g_ld (v := rf _) rfl (is_R _) ?_
    refine g_dup (ct_R _) ?_
    refine g_getI (kz := 13) q1 rfl (Nat.le_of_ble_eq_true rfl) rfl fun i10 => ?_
    replace h := h i10
    refine g_const (v := cI (1)) rfl ?_
    refine g_add ?_
    obtain ⟨q11, h⟩ := h
    refine g_putI (kz := 13) q1 rfl (Nat.le_of_ble_eq_true rfl) rfl q11 (nf10_13 q1) ?_
    replace h := h _ rfl
    exact TX10_addItem_32  h
  · replace h := h.2 b3
    exact TX10_addItem_32  h
abbrev PX10_addItem (o : Int) (a1 : Int) (G : gS) (Q : Int → gS → Prop) : Prop := PX10_addItem_0 o a1 G Q
theorem TX10_addItem {o : Int} {a1 : Int} {G : gS} {Q : Int → gS → Prop}  (h : PX10_addItem o a1 G Q) : Tn W0 FX10_addItem [rf (o), rf (a1)] G (fun r G => r = 7 ∧ Q 0 G) := by
  unfold FX10_addItem
  refine g_ent (lv' := [rf (o), rf (a1)]) (flR (flR fl0)) (Nat.le_of_ble_eq_true rfl) rfl ?_
  exact TX10_addItem_0  h
def PX3_addWoven_0 (a1 : Int) (a2 : Int) (G : gS) (Q : Int → gS → Prop) : Prop :=
  PX3_bridge a1 a2 G (fun _ G1 => ((G1 820 2 = -1 ∨ isO W0 10 (G1 820 2)) → ((G1 820 1 = -1 ∨ isO W0 1 (G1 820 1)) → (isO W0 1 (G1 820 1) ∧ (inI (G1 (G1 820 1) 15) → ((G1 820 2 = -1 ∨ isO W0 10 (G1 820 2)) → (isO W0 10 (G1 820 2) ∧ (inI (G1 (G1 820 2) 16) → (isO W0 10 (G1 820 2) ∧ (inI ((G1 (G1 820 1) 15) - (G1 (G1 820 2) 16)) ∧ (∀ G12 : gS, G12 = uG G1 (G1 820 2) 17 ((G1 (G1 820 1) 15) - (G1 (G1 820 2) 16)) → Q 0 G12)))))))))))
set_option maxRecDepth 20000 in
theorem TX3_addWoven_0 {a1 : Int} {a2 : Int} {G : gS} {Q : Int → gS → Prop}  (h : PX3_addWoven_0 a1 a2 G Q) : Tg W0 vX3_addWoven_0 [rf (820), rf (a1), rf (a2)] [] G (fun r G => r = 7 ∧ Q 0 G) := by
  unfold PX3_addWoven_0 at h
  unfold vX3_addWoven_0
  refine g_ld (v := rf _) rfl (is_R _) ?_
  refine g_ld (v := rf _) rfl (is_R _) ?_
  refine g_ld (v := rf _) rfl (is_R _) ?_
  refine g_callV (As := [_, _]) (ci := 3) oC3 (fun _ => rfl) ?_
  refine g_go0 (Nat.le_of_ble_eq_true rfl) (Tn_w (TX3_bridge  h) fun _ G1 ⟨e, h⟩ => ⟨e, ?_⟩)
  refine g_ld (v := rf _) rfl (is_R _) ?_
  refine g_getR (kz := 2) (c := 10) oC3 rfl (Nat.le_of_ble_eq_true rfl) rfl (by decide) fun i3 => ?_
  replace h := h i3
  refine g_ld (v := rf _) rfl (is_R _) ?_
  refine g_getR (kz := 1) (c := 1) oC3 rfl (Nat.le_of_ble_eq_true rfl) rfl (by decide) fun i4 => ?_
  replace h := h i4
  obtain ⟨q5, h⟩ := h
  refine g_getI (kz := 15) q5 rfl (Nat.le_of_ble_eq_true rfl) rfl fun i6 => ?_
  replace h := h i6
  refine g_ld (v := rf _) rfl (is_R _) ?_
  refine g_getR (kz := 2) (c := 10) oC3 rfl (Nat.le_of_ble_eq_true rfl) rfl (by decide) fun i7 => ?_
  replace h := h i7
  obtain ⟨q8, h⟩ := h
  refine g_getI (kz := 16) q8 rfl (Nat.le_of_ble_eq_true rfl) rfl fun i9 => ?_
  replace h := h i9
  refine g_sub ?_
  obtain ⟨q10, h⟩ := h
  obtain ⟨q11, h⟩ := h
  refine g_putI (kz := 17) q10 rfl (Nat.le_of_ble_eq_true rfl) rfl q11 (nf10_17 q10) ?_
  replace h := h _ rfl
  exact g_ret0 ⟨rfl, h⟩
abbrev PX3_addWoven (a1 : Int) (a2 : Int) (G : gS) (Q : Int → gS → Prop) : Prop := PX3_addWoven_0 a1 a2 G Q
theorem TX3_addWoven {a1 : Int} {a2 : Int} {G : gS} {Q : Int → gS → Prop}  (h : PX3_addWoven a1 a2 G Q) : Tn W0 FX3_addWoven [rf (820), rf (a1), rf (a2)] G (fun r G => r = 7 ∧ Q 0 G) := by
  unfold FX3_addWoven
  refine g_ent (lv' := [rf (820), rf (a1), rf (a2)]) (flR (flR (flR fl0))) (Nat.le_of_ble_eq_true rfl) rfl ?_
  exact TX3_addWoven_0  h
def PX4_fail_17 (l1 : Int) (l2 : Int) (G : gS) (Q : Int → gS → Prop) : Prop :=
  Q (0) G
set_option maxRecDepth 20000 in
theorem TX4_fail_17 {l1 : Int} {l2 : Int} {G : gS} {Q : Int → gS → Prop} (hl1 : inI l1) (hl2 : inI l2) (h : PX4_fail_17 l1 l2 G Q) : Tg W0 vX4_fail_17 [rf (814), cI (l1), cI (l2)] [] G (fun r G => ∃ v, r = cI v ∧ (0 ≤ v ∧ v ≤ 1) ∧ Q v G) := by
  unfold PX4_fail_17 at h
  unfold vX4_fail_17
  refine g_const (v := cI (0)) rfl ?_
  exact g_ret1 (is_Z (by omega)) ⟨_, rfl, (by omega), h⟩
def PX4_fail_0 (a1 : Int) (a2 : Int) (G : gS) (Q : Int → gS → Prop) : Prop :=
  (inI (G 814 2) → ((G 814 2 = 0 → (∀ G3 : gS, G3 = uG G 814 2 (a1) → (∀ G4 : gS, G4 = uG G3 814 3 (a2) → PX4_fail_17 a1 a2 G4 Q))) ∧ (¬ (G 814 2 = 0) → PX4_fail_17 a1 a2 G Q)))
set_option maxRecDepth 20000 in
theorem TX4_fail_0 {a1 : Int} {a2 : Int} {G : gS} {Q : Int → gS → Prop} (ha1 : inI a1) (ha2 : inI a2) (h : PX4_fail_0 a1 a2 G Q) : Tg W0 vX4_fail_0 [rf (814), cI (a1), cI (a2)] [] G (fun r G => ∃ v, r = cI v ∧ (0 ≤ v ∧ v ≤ 1) ∧ Q v G) := by
  unfold PX4_fail_0 at h
  unfold vX4_fail_0
  refine g_ld (v := rf _) rfl (is_R _) ?_
  refine g_getI (kz := 2) oC4 rfl (Nat.le_of_ble_eq_true rfl) rfl fun i1 => ?_
  replace h := h i1
  refine g_eq1 i1 (fun b2 => ?_) (fun b2 => ?_)
  · replace h := h.1 b2
    unfold vX4_fail_7
    refine g_ld (v := rf _) rfl (is_R _) ?_
    refine g_ld (v := cI _) rfl (is_I _) ?_
    refine g_putI (kz := 2) oC4 rfl (Nat.le_of_ble_eq_true rfl) rfl ha1 (zfin_no (c := 814) (j := 2) rfl) ?_
    replace h := h _ rfl
    refine g_ld (v := rf _) rfl (is_R _) ?_
    refine g_ld (v := cI _) rfl (is_I _) ?_
    refine g_putI (kz := 3) oC4 rfl (Nat.le_of_ble_eq_true rfl) rfl ha2 (zfin_no (c := 814) (j := 3) rfl) ?_
    replace h := h _ rfl
    exact TX4_fail_17 ha1 ha2 h
  · replace h := h.2 b2
    exact TX4_fail_17 ha1 ha2 h
abbrev PX4_fail (a1 : Int) (a2 : Int) (G : gS) (Q : Int → gS → Prop) : Prop := PX4_fail_0 a1 a2 G Q
theorem TX4_fail {a1 : Int} {a2 : Int} {G : gS} {Q : Int → gS → Prop} (ha1 : inI a1) (ha2 : inI a2) (h : PX4_fail a1 a2 G Q) : Tn W0 FX4_fail [rf (814), cI (a1), cI (a2)] G (fun r G => ∃ v, r = cI v ∧ (0 ≤ v ∧ v ≤ 1) ∧ Q v G) := by
  unfold FX4_fail
  refine g_ent (lv' := [rf (814), cI (a1), cI (a2)]) (flR (flI (flI fl0))) (Nat.le_of_ble_eq_true rfl) rfl ?_
  exact TX4_fail_0 ha1 ha2 h
def PX11_samePackage_33 (o : Int) (l1 : Int) (l2 : Int) (s0 : Int) (G : gS) (Q : Int → gS → Prop) : Prop :=
  ((0 ≤ s0 ∧ s0 ≤ 1) ∧ Q (s0) G)
set_option maxRecDepth 20000 in
theorem TX11_samePackage_33 {o : Int} {l1 : Int} {l2 : Int} {s0 : Int} {G : gS} {Q : Int → gS → Prop} (hl1 : inI l1) (hl2 : inI l2) (hs0 : inI s0) (h : PX11_samePackage_33 o l1 l2 s0 G Q) : Tg W0 vX11_samePackage_33 [rf (o), cI (l1), cI (l2)] [cI (s0)] G (fun r G => ∃ v, r = cI v ∧ (0 ≤ v ∧ v ≤ 1) ∧ Q v G) := by
  unfold PX11_samePackage_33 at h
  unfold vX11_samePackage_33
  obtain ⟨q15, h⟩ := h
  exact g_ret1 (is_Z q15) ⟨_, rfl, q15, h⟩
def PX11_samePackage_0 (o : Int) (a1 : Int) (a2 : Int) (G : gS) (Q : Int → gS → Prop) : Prop :=
  (isO W0 11 (o) ∧ ((0 : Int) ≤ a1 ∧ ((a1 : Int) < 64 ∧ (((G (o + 1) a1 = -1 ∨ isO W0 10 (G (o + 1) a1)) ∧ ∀ v, W0.2 (o + 1) a1 = some v → G (o + 1) a1 = v) → (isO W0 10 (G (o + 1) a1) ∧ (inL (G (G (o + 1) a1) 1) → (inL (lush (G (G (o + 1) a1) 1) 59) → ((0 : Int) ≤ a2 ∧ ((a2 : Int) < 64 ∧ (((G (o + 1) a2 = -1 ∨ isO W0 10 (G (o + 1) a2)) ∧ ∀ v, W0.2 (o + 1) a2 = some v → G (o + 1) a2 = v) → (isO W0 10 (G (o + 1) a2) ∧ (inL (G (G (o + 1) a2) 1) → (inL (lush (G (G (o + 1) a2) 1) 59) → ((lush (G (G (o + 1) a1) 1) 59 = lush (G (G (o + 1) a2) 1) 59 → PX11_samePackage_33 o a1 a2 1 G Q) ∧ (¬ (lush (G (G (o + 1) a1) 1) 59 = lush (G (G (o + 1) a2) 1) 59) → PX11_samePackage_33 o a1 a2 0 G Q)))))))))))))))
set_option maxRecDepth 20000 in
theorem TX11_samePackage_0 {o : Int} {a1 : Int} {a2 : Int} {G : gS} {Q : Int → gS → Prop} (ha1 : inI a1) (ha2 : inI a2) (h : PX11_samePackage_0 o a1 a2 G Q) : Tg W0 vX11_samePackage_0 [rf (o), cI (a1), cI (a2)] [] G (fun r G => ∃ v, r = cI v ∧ (0 ≤ v ∧ v ≤ 1) ∧ Q v G) := by
  unfold PX11_samePackage_0 at h
  unfold vX11_samePackage_0
  refine g_ld (v := rf _) rfl (is_R _) ?_
  obtain ⟨q1, h⟩ := h
  refine g_getF q1 (ff11_1 q1).1 rfl (Nat.le_of_ble_eq_true rfl) (Nat.le_of_ble_eq_true rfl) ?_
  refine g_ld (v := cI _) rfl (is_I _) ?_
  obtain ⟨q2, q3, h⟩ := h
  refine g_aldRF (c := 10) (ff11_1 q1).2 q2 q3 rfl (by decide) fun i4 => ?_
  replace h := h i4
  obtain ⟨q5, h⟩ := h
  refine g_getL (kz := 1) q5 rfl (Nat.le_of_ble_eq_true rfl) rfl fun i6 => ?_
  replace h := h i6
  refine g_const (v := cI (59)) rfl ?_
  refine g_lush fun i7 => ?_
  replace h := h i7
  refine g_ld (v := rf _) rfl (is_R _) ?_
  refine g_getF q1 (ff11_1 q1).1 rfl (Nat.le_of_ble_eq_true rfl) (Nat.le_of_ble_eq_true rfl) ?_
  refine g_ld (v := cI _) rfl (is_I _) ?_
  obtain ⟨q8, q9, h⟩ := h
  refine g_aldRF (c := 10) (ff11_1 q1).2 q8 q9 rfl (by decide) fun i10 => ?_
  replace h := h i10
  obtain ⟨q11, h⟩ := h
  refine g_getL (kz := 1) q11 rfl (Nat.le_of_ble_eq_true rfl) rfl fun i12 => ?_
  replace h := h i12
  refine g_const (v := cI (59)) rfl ?_
  refine g_lush fun i13 => ?_
  replace h := h i13
  refine g_leq i7 i13 (fun b14 => ?_) (fun b14 => ?_)
  · replace h := h.1 b14
    unfold vX11_samePackage_28
    refine g_const (v := cI (1)) rfl ?_
    exact TX11_samePackage_33 ha1 ha2 ⟨by omega, by omega⟩ h
  · replace h := h.2 b14
    unfold vX11_samePackage_32
    refine g_const (v := cI (0)) rfl ?_
    exact TX11_samePackage_33 ha1 ha2 ⟨by omega, by omega⟩ h
abbrev PX11_samePackage (o : Int) (a1 : Int) (a2 : Int) (G : gS) (Q : Int → gS → Prop) : Prop := PX11_samePackage_0 o a1 a2 G Q
theorem TX11_samePackage {o : Int} {a1 : Int} {a2 : Int} {G : gS} {Q : Int → gS → Prop} (ha1 : inI a1) (ha2 : inI a2) (h : PX11_samePackage o a1 a2 G Q) : Tn W0 FX11_samePackage [rf (o), cI (a1), cI (a2)] G (fun r G => ∃ v, r = cI v ∧ (0 ≤ v ∧ v ≤ 1) ∧ Q v G) := by
  unfold FX11_samePackage
  refine g_ent (lv' := [rf (o), cI (a1), cI (a2)]) (flR (flI (flI fl0))) (Nat.le_of_ble_eq_true rfl) rfl ?_
  exact TX11_samePackage_0 ha1 ha2 h
def PX4_aboveIn_74 (l1 : Int) (l2 : Int) (l3 : Int) (l4 : Int) (G : gS) (Q : Int → gS → Prop) : Prop :=
  Q (l4) G
set_option maxRecDepth 20000 in
theorem TX4_aboveIn_74 {l1 : Int} {l2 : Int} {l3 : Int} {l4 : Int} {G : gS} {Q : Int → gS → Prop} (hl1 : inI l1) (hl2 : inI l2) (h : PX4_aboveIn_74 l1 l2 l3 l4 G Q) : Tg W0 vX4_aboveIn_74 [rf (814), cI (l1), cI (l2), rf (l3), rf (l4)] [] G (fun r G => ∃ v, r = rf v ∧ Q v G) := by
  unfold PX4_aboveIn_74 at h
  unfold vX4_aboveIn_74
  refine g_ld (v := rf _) rfl (is_R _) ?_
  exact g_ret1 (is_R _) ⟨_, rfl, h⟩
def PX4_aboveIn_72 (l1 : Int) (l2 : Int) (l3 : Int) (l4 : Int) (G : gS) (Q : Int → gS → Prop) : Prop :=
  Q (-1) G
set_option maxRecDepth 20000 in
theorem TX4_aboveIn_72 {l1 : Int} {l2 : Int} {l3 : Int} {l4 : Int} {G : gS} {Q : Int → gS → Prop} (hl1 : inI l1) (hl2 : inI l2) (h : PX4_aboveIn_72 l1 l2 l3 l4 G Q) : Tg W0 vX4_aboveIn_72 [rf (814), cI (l1), cI (l2), rf (l3), rf (l4)] [] G (fun r G => ∃ v, r = rf v ∧ Q v G) := by
  unfold PX4_aboveIn_72 at h
  unfold vX4_aboveIn_72
  refine g_const (v := rf (-1)) rfl ?_
  exact g_ret1 (is_R _) ⟨_, rfl, h⟩
def PX4_aboveIn_49 (l1 : Int) (l2 : Int) (l3 : Int) (l4 : Int) (G : gS) (Q : Int → gS → Prop) : Prop :=
  (isO W0 7 (l4) ∧ ((0 ≤ G l4 2 ∧ G l4 2 ≤ 1) → ((G l4 2 = 0 → PX4_aboveIn_74 l1 l2 l3 l4 G Q) ∧ (¬ (G l4 2 = 0) → ((G 814 0 = -1 ∨ isO W0 11 (G 814 0)) → (isO W0 11 (G 814 0) ∧ ((0 : Int) ≤ l1 ∧ ((l1 : Int) < 64 ∧ (((G ((G 814 0) + 1) l1 = -1 ∨ isO W0 10 (G ((G 814 0) + 1) l1)) ∧ ∀ v, W0.2 ((G 814 0) + 1) l1 = some v → G ((G 814 0) + 1) l1 = v) → (isO W0 10 (G ((G 814 0) + 1) l1) ∧ ((0 ≤ G (G ((G 814 0) + 1) l1) 4 ∧ G (G ((G 814 0) + 1) l1) 4 ≤ 1) → ((G (G ((G 814 0) + 1) l1) 4 = 0 → PX4_aboveIn_74 l1 l2 l3 l4 G Q) ∧ (¬ (G (G ((G 814 0) + 1) l1) 4 = 0) → PX4_aboveIn_72 l1 l2 l3 l4 G Q)))))))))))))
set_option maxRecDepth 20000 in
theorem TX4_aboveIn_49 {l1 : Int} {l2 : Int} {l3 : Int} {l4 : Int} {G : gS} {Q : Int → gS → Prop} (hl1 : inI l1) (hl2 : inI l2) (h : PX4_aboveIn_49 l1 l2 l3 l4 G Q) : Tg W0 vX4_aboveIn_49 [rf (814), cI (l1), cI (l2), rf (l3), rf (l4)] [] G (fun r G => ∃ v, r = rf v ∧ Q v G) := by
  unfold PX4_aboveIn_49 at h
  unfold vX4_aboveIn_49
  refine g_ld (v := rf _) rfl (is_R _) ?_
  obtain ⟨q22, h⟩ := h
  refine g_getZ (kz := 2) q22 rfl (Nat.le_of_ble_eq_true rfl) rfl fun i23 => ?_
  replace h := h i23
  refine g_eq1 ⟨by omega, by omega⟩ (fun b24 => ?_) (fun b24 => ?_)
  · replace h := h.1 b24
    exact TX4_aboveIn_74 hl1 hl2 h
  · replace h := h.2 b24
    unfold vX4_aboveIn_57
    refine g_ld (v := rf _) rfl (is_R _) ?_
    refine g_getR (kz := 0) (c := 11) oC4 rfl (Nat.le_of_ble_eq_true rfl) rfl (by decide) fun i25 => ?_
    replace h := h i25
    obtain ⟨q26, h⟩ := h
    refine g_getF q26 (ff11_1 q26).1 rfl (Nat.le_of_ble_eq_true rfl) (Nat.le_of_ble_eq_true rfl) ?_
    refine g_ld (v := cI _) rfl (is_I _) ?_
    obtain ⟨q27, q28, h⟩ := h
    refine g_aldRF (c := 10) (ff11_1 q26).2 q27 q28 rfl (by decide) fun i29 => ?_
    replace h := h i29
    obtain ⟨q30, h⟩ := h
    refine g_getZ (kz := 4) q30 rfl (Nat.le_of_ble_eq_true rfl) rfl fun i31 => ?_
    replace h := h i31
    refine g_eq1 ⟨by omega, by omega⟩ (fun b32 => ?_) (fun b32 => ?_)
    · replace h := h.1 b32
      exact TX4_aboveIn_74 hl1 hl2 h
    · replace h := h.2 b32
      exact TX4_aboveIn_72 hl1 hl2 h
def PX4_aboveIn_0 (a1 : Int) (a2 : Int) (a3 : Int) (G : gS) (Q : Int → gS → Prop) : Prop :=
  ((G 814 0 = -1 ∨ isO W0 11 (G 814 0)) → (isO W0 11 (G 814 0) ∧ ((0 : Int) ≤ a1 ∧ ((a1 : Int) < 64 ∧ (((G ((G 814 0) + 1) a1 = -1 ∨ isO W0 10 (G ((G 814 0) + 1) a1)) ∧ ∀ v, W0.2 ((G 814 0) + 1) a1 = some v → G ((G 814 0) + 1) a1 = v) → (isO W0 10 (G ((G 814 0) + 1) a1) ∧ PX10_plain (G ((G 814 0) + 1) a1) a3 G (fun r8 G7 => ((r8 < 0 → PX4_aboveIn_72 a1 a2 a3 r8 G7 Q) ∧ (0 ≤ r8 → (isO W0 7 (r8) ∧ (inI (G7 r8 1) → ((G7 r8 1 = 0 → PX4_aboveIn_72 a1 a2 a3 r8 G7 Q) ∧ (¬ (G7 r8 1 = 0) → (inI (G7 r8 1) → ((G7 r8 1 = 1 → ((G7 814 0 = -1 ∨ isO W0 11 (G7 814 0)) → (isO W0 11 (G7 814 0) ∧ PX11_samePackage (G7 814 0) a1 a2 G7 (fun r19 G18 => (0 ≤ r19 ∧ r19 ≤ 1) → ((r19 = 0 → PX4_aboveIn_72 a1 a2 a3 r8 G18 Q) ∧ (¬ (r19 = 0) → PX4_aboveIn_49 a1 a2 a3 r8 G18 Q)))))) ∧ (¬ (G7 r8 1 = 1) → PX4_aboveIn_49 a1 a2 a3 r8 G7 Q))))))))))))))))
set_option maxRecDepth 20000 in
theorem TX4_aboveIn_0 {a1 : Int} {a2 : Int} {a3 : Int} {G : gS} {Q : Int → gS → Prop} (ha1 : inI a1) (ha2 : inI a2) (h : PX4_aboveIn_0 a1 a2 a3 G Q) : Tg W0 vX4_aboveIn_0 [rf (814), cI (a1), cI (a2), rf (a3), 7] [] G (fun r G => ∃ v, r = rf v ∧ Q v G) := by
  unfold PX4_aboveIn_0 at h
  unfold vX4_aboveIn_0
  refine g_ld (v := rf _) rfl (is_R _) ?_
  refine g_getR (kz := 0) (c := 11) oC4 rfl (Nat.le_of_ble_eq_true rfl) rfl (by decide) fun i1 => ?_
  replace h := h i1
  obtain ⟨q2, h⟩ := h
  refine g_getF q2 (ff11_1 q2).1 rfl (Nat.le_of_ble_eq_true rfl) (Nat.le_of_ble_eq_true rfl) ?_
  refine g_ld (v := cI _) rfl (is_I _) ?_
  obtain ⟨q3, q4, h⟩ := h
  refine g_aldRF (c := 10) (ff11_1 q2).2 q3 q4 rfl (by decide) fun i5 => ?_
  replace h := h i5
  refine g_ld (v := rf _) rfl (is_R _) ?_
  obtain ⟨q6, h⟩ := h
  refine g_callV (As := [_]) (ci := 10) q6 (fun _ => rfl) ?_
  refine g_go1 (Nat.le_of_ble_eq_true rfl) (Tn_w (TX10_plain  h) fun _ G7 ⟨r8, e, h⟩ => ?_)
  subst e
  refine ⟨n7_R _, ?_⟩
  refine g_st (lv' := [_, _, _, _, _]) (is_R _) (Nat.le_of_ble_eq_true rfl) (Or.inr (n1_R _)) rfl ?_
  refine g_ld (v := rf _) rfl (is_R _) ?_
  refine g_nul (fun b10 => ?_) (fun b10 => ?_)
  · replace h := h.1 b10
    exact TX4_aboveIn_72 ha1 ha2 h
  · replace h := h.2 b10
    unfold vX4_aboveIn_20
    refine g_ld (v := rf _) rfl (is_R _) ?_
    obtain ⟨q11, h⟩ := h
    refine g_getI (kz := 1) q11 rfl (Nat.le_of_ble_eq_true rfl) rfl fun i12 => ?_
    replace h := h i12
    refine g_eq1 i12 (fun b13 => ?_) (fun b13 => ?_)
    · replace h := h.1 b13
      exact TX4_aboveIn_72 ha1 ha2 h
    · replace h := h.2 b13
      unfold vX4_aboveIn_28
      refine g_ld (v := rf _) rfl (is_R _) ?_
      refine g_getI (kz := 1) q11 rfl (Nat.le_of_ble_eq_true rfl) rfl fun i14 => ?_
      replace h := h i14
      refine g_const (v := cI (1)) rfl ?_
      refine g_eq2 i14 ⟨by omega, by omega⟩ (fun b15 => ?_) (fun b15 => ?_)
      · replace h := h.1 b15
        unfold vX4_aboveIn_37
        refine g_ld (v := rf _) rfl (is_R _) ?_
        refine g_getR (kz := 0) (c := 11) oC4 rfl (Nat.le_of_ble_eq_true rfl) rfl (by decide) fun i16 => ?_
        replace h := h i16
        refine g_ld (v := cI _) rfl (is_I _) ?_
        refine g_ld (v := cI _) rfl (is_I _) ?_
        obtain ⟨q17, h⟩ := h
        refine g_callV (As := [_, _]) (ci := 11) q17 (fun _ => rfl) ?_
        refine g_go1 (Nat.le_of_ble_eq_true rfl) (Tn_w (TX11_samePackage ha1 ha2 h) fun _ G18 ⟨r19, e, i20, h⟩ => ?_)
        subst e
        refine ⟨n7_I _, ?_⟩
        replace h := h i20
        refine g_eq1 ⟨by omega, by omega⟩ (fun b21 => ?_) (fun b21 => ?_)
        · replace h := h.1 b21
          exact TX4_aboveIn_72 ha1 ha2 h
        · replace h := h.2 b21
          exact TX4_aboveIn_49 ha1 ha2 h
      · replace h := h.2 b15
        exact TX4_aboveIn_49 ha1 ha2 h
abbrev PX4_aboveIn (a1 : Int) (a2 : Int) (a3 : Int) (G : gS) (Q : Int → gS → Prop) : Prop := PX4_aboveIn_0 a1 a2 a3 G Q
theorem TX4_aboveIn {a1 : Int} {a2 : Int} {a3 : Int} {G : gS} {Q : Int → gS → Prop} (ha1 : inI a1) (ha2 : inI a2) (h : PX4_aboveIn a1 a2 a3 G Q) : Tn W0 FX4_aboveIn [rf (814), cI (a1), cI (a2), rf (a3)] G (fun r G => ∃ v, r = rf v ∧ Q v G) := by
  unfold FX4_aboveIn
  refine g_ent (lv' := [rf (814), cI (a1), cI (a2), rf (a3), 7]) (flR (flI (flI (flR fl0)))) (Nat.le_of_ble_eq_true rfl) rfl ?_
  exact TX4_aboveIn_0 ha1 ha2 h
def PX4_against_92 (l1 : Int) (l2 : Int) (l3 : Int) (G : gS) (Q : Int → gS → Prop) : Prop :=
  Q 0 G
set_option maxRecDepth 20000 in
theorem TX4_against_92 {l1 : Int} {l2 : Int} {l3 : Int} {G : gS} {Q : Int → gS → Prop} (hl3 : inI l3) (h : PX4_against_92 l1 l2 l3 G Q) : Tg W0 vX4_against_92 [rf (814), rf (l1), rf (l2), cI (l3)] [] G (fun r G => r = 7 ∧ Q 0 G) := by
  unfold PX4_against_92 at h
  unfold vX4_against_92
  exact g_ret0 ⟨rfl, h⟩
def PX4_against_76 (l1 : Int) (l2 : Int) (s0 : Int) (G : gS) (Q : Int → gS → Prop) : Prop :=
  ((s0 = 0 → PX4_against_92 l1 l2 s0 G Q) ∧ (¬ (s0 = 0) → (isO W0 7 (l1) ∧ (inI (G l1 11) → PX4_fail 9 (G l1 11) G (fun r29 G28 => (0 ≤ r29 ∧ r29 ≤ 1) → PX4_against_92 l1 l2 s0 G28 Q)))))
set_option maxRecDepth 20000 in
theorem TX4_against_76 {l1 : Int} {l2 : Int} {l3 : Nat} {s0 : Int} {G : gS} {Q : Int → gS → Prop} (hl3 : l3 % 8 ≠ 1) (hs0 : inI s0) (h : PX4_against_76 l1 l2 s0 G Q) : Tg W0 vX4_against_76 [rf (814), rf (l1), rf (l2), l3] [cI (s0)] G (fun r G => r = 7 ∧ Q 0 G) := by
  unfold PX4_against_76 at h
  unfold vX4_against_76
  refine g_st (lv' := [_, _, _, _]) (is_I _) (Nat.le_of_ble_eq_true rfl) (Or.inr (n1_R _)) rfl ?_
  refine g_ld (v := cI _) rfl (is_I _) ?_
  refine g_eq1 hs0 (fun b25 => ?_) (fun b25 => ?_)
  · replace h := h.1 b25
    exact TX4_against_92 hs0 h
  · replace h := h.2 b25
    unfold vX4_against_81
    refine g_ld (v := rf _) rfl (is_R _) ?_
    refine g_const (v := cI (9)) rfl ?_
    refine g_ld (v := rf _) rfl (is_R _) ?_
    obtain ⟨q26, h⟩ := h
    refine g_getI (kz := 11) q26 rfl (Nat.le_of_ble_eq_true rfl) rfl fun i27 => ?_
    replace h := h i27
    refine g_callV (As := [_, _]) (ci := 4) oC4 (fun _ => rfl) ?_
    refine g_go1 (Nat.le_of_ble_eq_true rfl) (Tn_w (TX4_fail ⟨by omega, by omega⟩ i27 h) fun _ G28 ⟨r29, e, i30, h⟩ => ?_)
    subst e
    refine ⟨n7_I _, ?_⟩
    replace h := h i30
    refine g_pop (ct_I _) ?_
    exact TX4_against_92 hs0 h
def PX4_against_75 (l1 : Int) (l2 : Int) (G : gS) (Q : Int → gS → Prop) : Prop :=
  PX4_against_76 l1 l2 0 G Q
set_option maxRecDepth 20000 in
theorem TX4_against_75 {l1 : Int} {l2 : Int} {l3 : Nat} {G : gS} {Q : Int → gS → Prop} (hl3 : l3 % 8 ≠ 1) (h : PX4_against_75 l1 l2 G Q) : Tg W0 vX4_against_75 [rf (814), rf (l1), rf (l2), l3] [] G (fun r G => r = 7 ∧ Q 0 G) := by
  unfold PX4_against_75 at h
  unfold vX4_against_75
  refine g_const (v := cI (0)) rfl ?_
  exact TX4_against_76 hl3 ⟨by omega, by omega⟩ h
def PX4_against_71 (l1 : Int) (l2 : Int) (G : gS) (Q : Int → gS → Prop) : Prop :=
  PX4_against_76 l1 l2 1 G Q
set_option maxRecDepth 20000 in
theorem TX4_against_71 {l1 : Int} {l2 : Int} {l3 : Nat} {G : gS} {Q : Int → gS → Prop} (hl3 : l3 % 8 ≠ 1) (h : PX4_against_71 l1 l2 G Q) : Tg W0 vX4_against_71 [rf (814), rf (l1), rf (l2), l3] [] G (fun r G => r = 7 ∧ Q 0 G) := by
  unfold PX4_against_71 at h
  unfold vX4_against_71
  refine g_const (v := cI (1)) rfl ?_
  exact TX4_against_76 hl3 ⟨by omega, by omega⟩ h
def PX4_against_0 (a1 : Int) (a2 : Int) (G : gS) (Q : Int → gS → Prop) : Prop :=
  ((a2 < 0 → Q 0 G) ∧ (0 ≤ a2 → (isO W0 7 (a2) ∧ ((0 ≤ G a2 2 ∧ G a2 2 ≤ 1) → (isO W0 7 (a1) ∧ ((0 ≤ G a1 2 ∧ G a1 2 ≤ 1) → ((G a2 2 = G a1 2 → ((0 ≤ G a2 2 ∧ G a2 2 ≤ 1) → ((G a2 2 = 0 → ((0 ≤ G a2 3 ∧ G a2 3 ≤ 1) → ((G a2 3 = 0 → (inI (G a2 1) → (inI (G a1 1) → ((G a1 1 < G a2 1 → PX4_against_71 a1 a2 G Q) ∧ (¬ (G a1 1 < G a2 1) → (inL (G a2 8) → (inL (G a1 8) → ((G a2 8 = G a1 8 → PX4_against_75 a1 a2 G Q) ∧ (¬ (G a2 8 = G a1 8) → ((G 814 0 = -1 ∨ isO W0 11 (G 814 0)) → (inL (G a1 8) → (inL (G a2 8) → (isO W0 11 (G 814 0) ∧ PX11_fits (G 814 0) (G a1 8) (G a2 8) G (fun r22 G21 => (0 ≤ r22 ∧ r22 ≤ 1) → ((r22 = 0 → PX4_against_71 a1 a2 G21 Q) ∧ (¬ (r22 = 0) → PX4_against_75 a1 a2 G21 Q)))))))))))))))) ∧ (¬ (G a2 3 = 0) → PX4_against_71 a1 a2 G Q)))) ∧ (¬ (G a2 2 = 0) → PX4_against_75 a1 a2 G Q)))) ∧ (¬ (G a2 2 = G a1 2) → PX4_against_71 a1 a2 G Q))))))))
set_option maxRecDepth 20000 in
theorem TX4_against_0 {a1 : Int} {a2 : Int} {G : gS} {Q : Int → gS → Prop}  (h : PX4_against_0 a1 a2 G Q) : Tg W0 vX4_against_0 [rf (814), rf (a1), rf (a2), 7] [] G (fun r G => r = 7 ∧ Q 0 G) := by
  unfold PX4_against_0 at h
  unfold vX4_against_0
  refine g_ld (v := rf _) rfl (is_R _) ?_
  refine g_nul (fun b1 => ?_) (fun b1 => ?_)
  · replace h := h.1 b1
    unfold vX4_against_4
    exact g_ret0 ⟨rfl, h⟩
  · replace h := h.2 b1
    unfold vX4_against_5
    refine g_ld (v := rf _) rfl (is_R _) ?_
    obtain ⟨q2, h⟩ := h
    refine g_getZ (kz := 2) q2 rfl (Nat.le_of_ble_eq_true rfl) rfl fun i3 => ?_
    replace h := h i3
    refine g_ld (v := rf _) rfl (is_R _) ?_
    obtain ⟨q4, h⟩ := h
    refine g_getZ (kz := 2) q4 rfl (Nat.le_of_ble_eq_true rfl) rfl fun i5 => ?_
    replace h := h i5
    refine g_eq2 ⟨by omega, by omega⟩ ⟨by omega, by omega⟩ (fun b6 => ?_) (fun b6 => ?_)
    · replace h := h.1 b6
      unfold vX4_against_16
      refine g_ld (v := rf _) rfl (is_R _) ?_
      refine g_getZ (kz := 2) q2 rfl (Nat.le_of_ble_eq_true rfl) rfl fun i7 => ?_
      replace h := h i7
      refine g_eq1 ⟨by omega, by omega⟩ (fun b8 => ?_) (fun b8 => ?_)
      · replace h := h.1 b8
        unfold vX4_against_23
        refine g_ld (v := rf _) rfl (is_R _) ?_
        refine g_getZ (kz := 3) q2 rfl (Nat.le_of_ble_eq_true rfl) rfl fun i9 => ?_
        replace h := h i9
        refine g_eq1 ⟨by omega, by omega⟩ (fun b10 => ?_) (fun b10 => ?_)
        · replace h := h.1 b10
          unfold vX4_against_30
          refine g_ld (v := rf _) rfl (is_R _) ?_
          refine g_getI (kz := 1) q2 rfl (Nat.le_of_ble_eq_true rfl) rfl fun i11 => ?_
          replace h := h i11
          refine g_ld (v := rf _) rfl (is_R _) ?_
          refine g_getI (kz := 1) q4 rfl (Nat.le_of_ble_eq_true rfl) rfl fun i12 => ?_
          replace h := h i12
          refine g_gt2 i11 i12 (fun b13 => ?_) (fun b13 => ?_)
          · replace h := h.1 b13
            exact TX4_against_71 (show 7 % 8 ≠ 1 by decide) h
          · replace h := h.2 b13
            unfold vX4_against_41
            refine g_ld (v := rf _) rfl (is_R _) ?_
            refine g_getL (kz := 8) q2 rfl (Nat.le_of_ble_eq_true rfl) rfl fun i14 => ?_
            replace h := h i14
            refine g_ld (v := rf _) rfl (is_R _) ?_
            refine g_getL (kz := 8) q4 rfl (Nat.le_of_ble_eq_true rfl) rfl fun i15 => ?_
            replace h := h i15
            refine g_leq i14 i15 (fun b16 => ?_) (fun b16 => ?_)
            · replace h := h.1 b16
              exact TX4_against_75 (show 7 % 8 ≠ 1 by decide) h
            · replace h := h.2 b16
              unfold vX4_against_53
              refine g_ld (v := rf _) rfl (is_R _) ?_
              refine g_getR (kz := 0) (c := 11) oC4 rfl (Nat.le_of_ble_eq_true rfl) rfl (by decide) fun i17 => ?_
              replace h := h i17
              refine g_ld (v := rf _) rfl (is_R _) ?_
              refine g_getL (kz := 8) q4 rfl (Nat.le_of_ble_eq_true rfl) rfl fun i18 => ?_
              replace h := h i18
              refine g_ld (v := rf _) rfl (is_R _) ?_
              refine g_getL (kz := 8) q2 rfl (Nat.le_of_ble_eq_true rfl) rfl fun i19 => ?_
              replace h := h i19
              obtain ⟨q20, h⟩ := h
              refine g_callV (As := [_, _]) (ci := 11) q20 (fun _ => rfl) ?_
              refine g_go1 (Nat.le_of_ble_eq_true rfl) (Tn_w (TX11_fits i18 i19 h) fun _ G21 ⟨r22, e, i23, h⟩ => ?_)
              subst e
              refine ⟨n7_I _, ?_⟩
              replace h := h i23
              refine g_eq1 ⟨by omega, by omega⟩ (fun b24 => ?_) (fun b24 => ?_)
              · replace h := h.1 b24
                exact TX4_against_71 (show 7 % 8 ≠ 1 by decide) h
              · replace h := h.2 b24
                exact TX4_against_75 (show 7 % 8 ≠ 1 by decide) h
        · replace h := h.2 b10
          exact TX4_against_71 (show 7 % 8 ≠ 1 by decide) h
      · replace h := h.2 b8
        exact TX4_against_75 (show 7 % 8 ≠ 1 by decide) h
    · replace h := h.2 b6
      exact TX4_against_71 (show 7 % 8 ≠ 1 by decide) h
abbrev PX4_against (a1 : Int) (a2 : Int) (G : gS) (Q : Int → gS → Prop) : Prop := PX4_against_0 a1 a2 G Q
theorem TX4_against {a1 : Int} {a2 : Int} {G : gS} {Q : Int → gS → Prop}  (h : PX4_against a1 a2 G Q) : Tn W0 FX4_against [rf (814), rf (a1), rf (a2)] G (fun r G => r = 7 ∧ Q 0 G) := by
  unfold FX4_against
  refine g_ent (lv' := [rf (814), rf (a1), rf (a2), 7]) (flR (flR (flR fl0))) (Nat.le_of_ble_eq_true rfl) rfl ?_
  exact TX4_against_0  h
def PX4_above_160 (J : Nat → List Int → gS → (Int → gS → Prop) → Prop) (l1 : Int) (l2 : Int) (l3 : Int) (G : gS) (Q : Int → gS → Prop) : Prop :=
  Q 0 G
set_option maxRecDepth 20000 in
theorem TX4_above_160 {j : Nat → rx_K} {J : Nat → List Int → gS → (Int → gS → Prop) → Prop} {l1 : Int} {l2 : Int} {l3 : Int} {l4 : Nat} {l5 : Nat} {l6 : Nat} {l7 : Nat} {G : gS} {Q : Int → gS → Prop} (hl2 : inI l2) (hl3 : inI l3) (hl4 : l4 % 8 ≠ 1) (hl5 : l5 % 8 ≠ 1) (hl6 : l6 % 8 ≠ 1) (hl7 : l7 % 8 ≠ 1) (hj0 : ∀ (l1 : Int) (l2 : Int) (l3 : Int) (l4 : Nat) (l5 : Nat) (l6 : Nat) (l7 : Nat) (G : gS), (inI l2) → (inI l3) → (l4 % 8 ≠ 1) → (l5 % 8 ≠ 1) → (l6 % 8 ≠ 1) → (l7 % 8 ≠ 1) → J 0 [l1, l2, l3] G Q → Tg W0 (j 0) [rf (814), rf (l1), cI (l2), cI (l3), l4, l5, l6, l7] [] G (fun r G => r = 7 ∧ Q 0 G)) (hj1 : ∀ (l1 : Int) (l2 : Int) (l3 : Int) (l4 : Int) (l5 : Int) (l6 : Int) (l7 : Nat) (G : gS), (inI l2) → (inI l3) → (inI l5) → (inI l6) → (l7 % 8 ≠ 1) → J 1 [l1, l2, l3, l4, l5, l6] G Q → Tg W0 (j 1) [rf (814), rf (l1), cI (l2), cI (l3), rf (l4), cI (l5), cI (l6), l7] [] G (fun r G => r = 7 ∧ Q 0 G)) (hj2 : ∀ (l1 : Int) (l2 : Int) (l3 : Int) (l4 : Int) (l5 : Int) (l6 : Int) (l7 : Int) (G : gS), (inI l2) → (inI l3) → (inI l5) → (inI l6) → (inI l7) → J 2 [l1, l2, l3, l4, l5, l6, l7] G Q → Tg W0 (j 2) [rf (814), rf (l1), cI (l2), cI (l3), rf (l4), cI (l5), cI (l6), cI (l7)] [] G (fun r G => r = 7 ∧ Q 0 G)) (h : PX4_above_160 J l1 l2 l3 G Q) : Tg W0 (vX4_above_160 j) [rf (814), rf (l1), cI (l2), cI (l3), l4, l5, l6, l7] [] G (fun r G => r = 7 ∧ Q 0 G) := by
  unfold PX4_above_160 at h
  unfold vX4_above_160
  exact g_ret0 ⟨rfl, h⟩
def PX4_above_154 (J : Nat → List Int → gS → (Int → gS → Prop) → Prop) (l1 : Int) (l2 : Int) (l3 : Int) (l4 : Int) (G : gS) (Q : Int → gS → Prop) : Prop :=
  (inI (l3 + 1) ∧ J 0 [l1, l2, l3 + 1] G Q)
set_option maxRecDepth 20000 in
theorem TX4_above_154 {j : Nat → rx_K} {J : Nat → List Int → gS → (Int → gS → Prop) → Prop} {l1 : Int} {l2 : Int} {l3 : Int} {l4 : Int} {l5 : Nat} {l6 : Nat} {l7 : Nat} {G : gS} {Q : Int → gS → Prop} (hl2 : inI l2) (hl3 : inI l3) (hl5 : l5 % 8 ≠ 1) (hl6 : l6 % 8 ≠ 1) (hl7 : l7 % 8 ≠ 1) (hj0 : ∀ (l1 : Int) (l2 : Int) (l3 : Int) (l4 : Nat) (l5 : Nat) (l6 : Nat) (l7 : Nat) (G : gS), (inI l2) → (inI l3) → (l4 % 8 ≠ 1) → (l5 % 8 ≠ 1) → (l6 % 8 ≠ 1) → (l7 % 8 ≠ 1) → J 0 [l1, l2, l3] G Q → Tg W0 (j 0) [rf (814), rf (l1), cI (l2), cI (l3), l4, l5, l6, l7] [] G (fun r G => r = 7 ∧ Q 0 G)) (hj1 : ∀ (l1 : Int) (l2 : Int) (l3 : Int) (l4 : Int) (l5 : Int) (l6 : Int) (l7 : Nat) (G : gS), (inI l2) → (inI l3) → (inI l5) → (inI l6) → (l7 % 8 ≠ 1) → J 1 [l1, l2, l3, l4, l5, l6] G Q → Tg W0 (j 1) [rf (814), rf (l1), cI (l2), cI (l3), rf (l4), cI (l5), cI (l6), l7] [] G (fun r G => r = 7 ∧ Q 0 G)) (hj2 : ∀ (l1 : Int) (l2 : Int) (l3 : Int) (l4 : Int) (l5 : Int) (l6 : Int) (l7 : Int) (G : gS), (inI l2) → (inI l3) → (inI l5) → (inI l6) → (inI l7) → J 2 [l1, l2, l3, l4, l5, l6, l7] G Q → Tg W0 (j 2) [rf (814), rf (l1), cI (l2), cI (l3), rf (l4), cI (l5), cI (l6), cI (l7)] [] G (fun r G => r = 7 ∧ Q 0 G)) (h : PX4_above_154 J l1 l2 l3 l4 G Q) : Tg W0 (vX4_above_154 j) [rf (814), rf (l1), cI (l2), cI (l3), rf (l4), l5, l6, l7] [] G (fun r G => r = 7 ∧ Q 0 G) := by
  unfold PX4_above_154 at h
  unfold vX4_above_154
  refine g_inc (lv' := [_, _, _, _, _, _, _, _]) rfl (Nat.le_of_ble_eq_true rfl) (Or.inr (n1_I _)) rfl ?_
  obtain ⟨q35, h⟩ := h
  exact hj0 _ _ _ _ _ _ _ _ hl2 q35 (n1_R _) hl5 hl6 hl7 h
def PX4_above_113 (J : Nat → List Int → gS → (Int → gS → Prop) → Prop) (l1 : Int) (l2 : Int) (l3 : Int) (l4 : Int) (l5 : Int) (l6 : Int) (l7 : Int) (G : gS) (Q : Int → gS → Prop) : Prop :=
  ((l7 < l6 → ((G 814 0 = -1 ∨ isO W0 11 (G 814 0)) → (isO W0 11 (G 814 0) ∧ ((0 : Int) ≤ (l2 * 64) + l7 ∧ (((l2 * 64) + l7 : Int) < 4096 ∧ (inI (G ((G 814 0) + 9) ((l2 * 64) + l7)) → PX4_aboveIn (G ((G 814 0) + 9) ((l2 * 64) + l7)) l2 l4 G (fun r48 G47 => PX4_against l4 r48 G47 (fun _ G50 => (inI (l7 + 1) ∧ J 2 [l1, l2, l3, l4, l5, l6, l7 + 1] G50 Q))))))))) ∧ (¬ (l7 < l6) → PX4_above_154 J l1 l2 l3 l4 G Q))
set_option maxRecDepth 20000 in
theorem TX4_above_113 {j : Nat → rx_K} {J : Nat → List Int → gS → (Int → gS → Prop) → Prop} {l1 : Int} {l2 : Int} {l3 : Int} {l4 : Int} {l5 : Int} {l6 : Int} {l7 : Int} {G : gS} {Q : Int → gS → Prop} (hl2 : inI l2) (hl3 : inI l3) (hl5 : inI l5) (hl6 : inI l6) (hl7 : inI l7) (hj0 : ∀ (l1 : Int) (l2 : Int) (l3 : Int) (l4 : Nat) (l5 : Nat) (l6 : Nat) (l7 : Nat) (G : gS), (inI l2) → (inI l3) → (l4 % 8 ≠ 1) → (l5 % 8 ≠ 1) → (l6 % 8 ≠ 1) → (l7 % 8 ≠ 1) → J 0 [l1, l2, l3] G Q → Tg W0 (j 0) [rf (814), rf (l1), cI (l2), cI (l3), l4, l5, l6, l7] [] G (fun r G => r = 7 ∧ Q 0 G)) (hj1 : ∀ (l1 : Int) (l2 : Int) (l3 : Int) (l4 : Int) (l5 : Int) (l6 : Int) (l7 : Nat) (G : gS), (inI l2) → (inI l3) → (inI l5) → (inI l6) → (l7 % 8 ≠ 1) → J 1 [l1, l2, l3, l4, l5, l6] G Q → Tg W0 (j 1) [rf (814), rf (l1), cI (l2), cI (l3), rf (l4), cI (l5), cI (l6), l7] [] G (fun r G => r = 7 ∧ Q 0 G)) (hj2 : ∀ (l1 : Int) (l2 : Int) (l3 : Int) (l4 : Int) (l5 : Int) (l6 : Int) (l7 : Int) (G : gS), (inI l2) → (inI l3) → (inI l5) → (inI l6) → (inI l7) → J 2 [l1, l2, l3, l4, l5, l6, l7] G Q → Tg W0 (j 2) [rf (814), rf (l1), cI (l2), cI (l3), rf (l4), cI (l5), cI (l6), cI (l7)] [] G (fun r G => r = 7 ∧ Q 0 G)) (h : PX4_above_113 J l1 l2 l3 l4 l5 l6 l7 G Q) : Tg W0 (vX4_above_113 j) [rf (814), rf (l1), cI (l2), cI (l3), rf (l4), cI (l5), cI (l6), cI (l7)] [] G (fun r G => r = 7 ∧ Q 0 G) := by
  unfold PX4_above_113 at h
  unfold vX4_above_113
  refine g_ld (v := cI _) rfl (is_I _) ?_
  refine g_ld (v := cI _) rfl (is_I _) ?_
  refine g_lt2 hl7 hl6 (fun b41 => ?_) (fun b41 => ?_)
  · replace h := h.1 b41
    unfold vX4_above_120
    refine g_ld (v := rf _) rfl (is_R _) ?_
    refine g_ld (v := rf _) rfl (is_R _) ?_
    refine g_ld (v := rf _) rfl (is_R _) ?_
    refine g_ld (v := rf _) rfl (is_R _) ?_
    refine g_getR (kz := 0) (c := 11) oC4 rfl (Nat.le_of_ble_eq_true rfl) rfl (by decide) fun i42 => ?_
    replace h := h i42
    obtain ⟨q43, h⟩ := h
    refine g_getF q43 (ff11_10 q43).1 rfl (Nat.le_of_ble_eq_true rfl) (Nat.le_of_ble_eq_true rfl) ?_
    refine g_ld (v := cI _) rfl (is_I _) ?_
    refine g_const (v := cI (64)) rfl ?_
    refine g_mul ?_
    refine g_ld (v := cI _) rfl (is_I _) ?_
    refine g_add ?_
    obtain ⟨q44, q45, h⟩ := h
    refine g_aldI (ff11_10 q43).2 q44 q45 rfl fun i46 => ?_
    replace h := h i46
    refine g_ld (v := cI _) rfl (is_I _) ?_
    refine g_ld (v := rf _) rfl (is_R _) ?_
    refine g_callV (As := [_, _, _]) (ci := 4) oC4 (fun _ => rfl) ?_
    refine g_go1 (by simp only [cs_c, cs_0, ct_I, ct_L, ct_R]; exact Nat.le_of_ble_eq_true rfl) (Tn_w (TX4_aboveIn i46 hl2 h) fun _ G47 ⟨r48, e, h⟩ => ?_)
    subst e
    refine ⟨n7_R _, ?_⟩
    refine g_callV (As := [_, _]) (ci := 4) oC4 (fun _ => rfl) ?_
    refine g_go0 (Nat.le_of_ble_eq_true rfl) (Tn_w (TX4_against  h) fun _ G50 ⟨e, h⟩ => ⟨e, ?_⟩)
    refine g_inc (lv' := [_, _, _, _, _, _, _, _]) rfl (Nat.le_of_ble_eq_true rfl) (Or.inr (n1_I _)) rfl ?_
    obtain ⟨q52, h⟩ := h
    exact hj2 _ _ _ _ _ _ _ _ hl2 hl3 hl5 hl6 q52 h
  · replace h := h.2 b41
    exact TX4_above_154 hl2 hl3 (n1_I _) (n1_I _) (n1_I _) hj0 hj1 hj2 h
def PX4_above_100 (J : Nat → List Int → gS → (Int → gS → Prop) → Prop) (l1 : Int) (l2 : Int) (l3 : Int) (l4 : Int) (l5 : Int) (l6 : Int) (G : gS) (Q : Int → gS → Prop) : Prop :=
  ((G 814 0 = -1 ∨ isO W0 11 (G 814 0)) → (isO W0 11 (G 814 0) ∧ PX11_faces (G 814 0) l2 G (fun r39 G38 => inI r39 → PX4_above_113 J l1 l2 l3 l4 l5 r39 0 G38 Q)))
set_option maxRecDepth 20000 in
theorem TX4_above_100 {j : Nat → rx_K} {J : Nat → List Int → gS → (Int → gS → Prop) → Prop} {l1 : Int} {l2 : Int} {l3 : Int} {l4 : Int} {l5 : Int} {l6 : Int} {l7 : Nat} {G : gS} {Q : Int → gS → Prop} (hl2 : inI l2) (hl3 : inI l3) (hl5 : inI l5) (hl6 : inI l6) (hl7 : l7 % 8 ≠ 1) (hj0 : ∀ (l1 : Int) (l2 : Int) (l3 : Int) (l4 : Nat) (l5 : Nat) (l6 : Nat) (l7 : Nat) (G : gS), (inI l2) → (inI l3) → (l4 % 8 ≠ 1) → (l5 % 8 ≠ 1) → (l6 % 8 ≠ 1) → (l7 % 8 ≠ 1) → J 0 [l1, l2, l3] G Q → Tg W0 (j 0) [rf (814), rf (l1), cI (l2), cI (l3), l4, l5, l6, l7] [] G (fun r G => r = 7 ∧ Q 0 G)) (hj1 : ∀ (l1 : Int) (l2 : Int) (l3 : Int) (l4 : Int) (l5 : Int) (l6 : Int) (l7 : Nat) (G : gS), (inI l2) → (inI l3) → (inI l5) → (inI l6) → (l7 % 8 ≠ 1) → J 1 [l1, l2, l3, l4, l5, l6] G Q → Tg W0 (j 1) [rf (814), rf (l1), cI (l2), cI (l3), rf (l4), cI (l5), cI (l6), l7] [] G (fun r G => r = 7 ∧ Q 0 G)) (hj2 : ∀ (l1 : Int) (l2 : Int) (l3 : Int) (l4 : Int) (l5 : Int) (l6 : Int) (l7 : Int) (G : gS), (inI l2) → (inI l3) → (inI l5) → (inI l6) → (inI l7) → J 2 [l1, l2, l3, l4, l5, l6, l7] G Q → Tg W0 (j 2) [rf (814), rf (l1), cI (l2), cI (l3), rf (l4), cI (l5), cI (l6), cI (l7)] [] G (fun r G => r = 7 ∧ Q 0 G)) (h : PX4_above_100 J l1 l2 l3 l4 l5 l6 G Q) : Tg W0 (vX4_above_100 j) [rf (814), rf (l1), cI (l2), cI (l3), rf (l4), cI (l5), cI (l6), l7] [] G (fun r G => r = 7 ∧ Q 0 G) := by
  unfold PX4_above_100 at h
  unfold vX4_above_100
  refine g_ld (v := rf _) rfl (is_R _) ?_
  refine g_getR (kz := 0) (c := 11) oC4 rfl (Nat.le_of_ble_eq_true rfl) rfl (by decide) fun i36 => ?_
  replace h := h i36
  refine g_ld (v := cI _) rfl (is_I _) ?_
  obtain ⟨q37, h⟩ := h
  refine g_callV (As := [_]) (ci := 11) q37 (fun _ => rfl) ?_
  refine g_go1 (Nat.le_of_ble_eq_true rfl) (Tn_w (TX11_faces hl2 h) fun _ G38 ⟨r39, e, i40, h⟩ => ?_)
  subst e
  refine ⟨n7_I _, ?_⟩
  replace h := h i40
  refine g_st (lv' := [_, _, _, _, _, _, _, _]) (is_I _) (Nat.le_of_ble_eq_true rfl) (Or.inr (n1_I _)) rfl ?_
  refine g_const (v := cI (0)) rfl ?_
  refine g_st (lv' := [_, _, _, _, _, _, _, _]) (is_I _) (Nat.le_of_ble_eq_true rfl) (Or.inr (n1_I _)) rfl ?_
  exact TX4_above_113 hl2 hl3 hl5 i40 ⟨by omega, by omega⟩ hj0 hj1 hj2 h
def PX4_above_48 (J : Nat → List Int → gS → (Int → gS → Prop) → Prop) (l1 : Int) (l2 : Int) (l3 : Int) (l4 : Int) (l5 : Int) (l6 : Int) (G : gS) (Q : Int → gS → Prop) : Prop :=
  ((G 814 0 = -1 ∨ isO W0 11 (G 814 0)) → (isO W0 11 (G 814 0) ∧ ((0 : Int) ≤ l2 ∧ ((l2 : Int) < 64 ∧ (inI (G ((G 814 0) + 3) l2) → ((l6 < G ((G 814 0) + 3) l2 → ((l5 < 0 → PX4_above_100 J l1 l2 l3 l4 l5 l6 G Q) ∧ (¬ (l5 < 0) → PX4_aboveIn l5 l2 l4 G (fun r25 G24 => PX4_against l4 r25 G24 (fun _ G27 => ((G27 814 0 = -1 ∨ isO W0 11 (G27 814 0)) → (isO W0 11 (G27 814 0) ∧ ((0 : Int) ≤ l5 ∧ ((l5 : Int) < 64 ∧ (inI (G27 ((G27 814 0) + 2) l5) → (inI (l6 + 1) ∧ J 1 [l1, l2, l3, l4, G27 ((G27 814 0) + 2) l5, l6 + 1] G27 Q))))))))))) ∧ (¬ (l6 < G ((G 814 0) + 3) l2) → PX4_above_100 J l1 l2 l3 l4 l5 l6 G Q)))))))
set_option maxRecDepth 20000 in
theorem TX4_above_48 {j : Nat → rx_K} {J : Nat → List Int → gS → (Int → gS → Prop) → Prop} {l1 : Int} {l2 : Int} {l3 : Int} {l4 : Int} {l5 : Int} {l6 : Int} {l7 : Nat} {G : gS} {Q : Int → gS → Prop} (hl2 : inI l2) (hl3 : inI l3) (hl5 : inI l5) (hl6 : inI l6) (hl7 : l7 % 8 ≠ 1) (hj0 : ∀ (l1 : Int) (l2 : Int) (l3 : Int) (l4 : Nat) (l5 : Nat) (l6 : Nat) (l7 : Nat) (G : gS), (inI l2) → (inI l3) → (l4 % 8 ≠ 1) → (l5 % 8 ≠ 1) → (l6 % 8 ≠ 1) → (l7 % 8 ≠ 1) → J 0 [l1, l2, l3] G Q → Tg W0 (j 0) [rf (814), rf (l1), cI (l2), cI (l3), l4, l5, l6, l7] [] G (fun r G => r = 7 ∧ Q 0 G)) (hj1 : ∀ (l1 : Int) (l2 : Int) (l3 : Int) (l4 : Int) (l5 : Int) (l6 : Int) (l7 : Nat) (G : gS), (inI l2) → (inI l3) → (inI l5) → (inI l6) → (l7 % 8 ≠ 1) → J 1 [l1, l2, l3, l4, l5, l6] G Q → Tg W0 (j 1) [rf (814), rf (l1), cI (l2), cI (l3), rf (l4), cI (l5), cI (l6), l7] [] G (fun r G => r = 7 ∧ Q 0 G)) (hj2 : ∀ (l1 : Int) (l2 : Int) (l3 : Int) (l4 : Int) (l5 : Int) (l6 : Int) (l7 : Int) (G : gS), (inI l2) → (inI l3) → (inI l5) → (inI l6) → (inI l7) → J 2 [l1, l2, l3, l4, l5, l6, l7] G Q → Tg W0 (j 2) [rf (814), rf (l1), cI (l2), cI (l3), rf (l4), cI (l5), cI (l6), cI (l7)] [] G (fun r G => r = 7 ∧ Q 0 G)) (h : PX4_above_48 J l1 l2 l3 l4 l5 l6 G Q) : Tg W0 (vX4_above_48 j) [rf (814), rf (l1), cI (l2), cI (l3), rf (l4), cI (l5), cI (l6), l7] [] G (fun r G => r = 7 ∧ Q 0 G) := by
  unfold PX4_above_48 at h
  unfold vX4_above_48
  refine g_ld (v := cI _) rfl (is_I _) ?_
  refine g_ld (v := rf _) rfl (is_R _) ?_
  refine g_getR (kz := 0) (c := 11) oC4 rfl (Nat.le_of_ble_eq_true rfl) rfl (by decide) fun i17 => ?_
  replace h := h i17
  obtain ⟨q18, h⟩ := h
  refine g_getF q18 (ff11_4 q18).1 rfl (Nat.le_of_ble_eq_true rfl) (Nat.le_of_ble_eq_true rfl) ?_
  refine g_ld (v := cI _) rfl (is_I _) ?_
  obtain ⟨q19, q20, h⟩ := h
  refine g_aldI (ff11_4 q18).2 q19 q20 rfl fun i21 => ?_
  replace h := h i21
  refine g_lt2 hl6 i21 (fun b22 => ?_) (fun b22 => ?_)
  · replace h := h.1 b22
    unfold vX4_above_62
    refine g_ld (v := cI _) rfl (is_I _) ?_
    refine g_lt1 hl5 (fun b23 => ?_) (fun b23 => ?_)
    · replace h := h.1 b23
      exact TX4_above_100 hl2 hl3 hl5 hl6 hl7 hj0 hj1 hj2 h
    · replace h := h.2 b23
      unfold vX4_above_67
      refine g_ld (v := rf _) rfl (is_R _) ?_
      refine g_ld (v := rf _) rfl (is_R _) ?_
      refine g_ld (v := rf _) rfl (is_R _) ?_
      refine g_ld (v := cI _) rfl (is_I _) ?_
      refine g_ld (v := cI _) rfl (is_I _) ?_
      refine g_ld (v := rf _) rfl (is_R _) ?_
      refine g_callV (As := [_, _, _]) (ci := 4) oC4 (fun _ => rfl) ?_
      refine g_go1 (by simp only [cs_c, cs_0, ct_I, ct_L, ct_R]; exact Nat.le_of_ble_eq_true rfl) (Tn_w (TX4_aboveIn hl5 hl2 h) fun _ G24 ⟨r25, e, h⟩ => ?_)
      subst e
      refine ⟨n7_R _, ?_⟩
      refine g_callV (As := [_, _]) (ci := 4) oC4 (fun _ => rfl) ?_
      refine g_go0 (Nat.le_of_ble_eq_true rfl) (Tn_w (TX4_against  h) fun _ G27 ⟨e, h⟩ => ⟨e, ?_⟩)
      refine g_ld (v := rf _) rfl (is_R _) ?_
      refine g_getR (kz := 0) (c := 11) oC4 rfl (Nat.le_of_ble_eq_true rfl) rfl (by decide) fun i29 => ?_
      replace h := h i29
      obtain ⟨q30, h⟩ := h
      refine g_getF q30 (ff11_3 q30).1 rfl (Nat.le_of_ble_eq_true rfl) (Nat.le_of_ble_eq_true rfl) ?_
      refine g_ld (v := cI _) rfl (is_I _) ?_
      obtain ⟨q31, q32, h⟩ := h
      refine g_aldI (ff11_3 q30).2 q31 q32 rfl fun i33 => ?_
      replace h := h i33
      refine g_st (lv' := [_, _, _, _, _, _, _, _]) (is_I _) (Nat.le_of_ble_eq_true rfl) (Or.inr (n1_R _)) rfl ?_
      refine g_inc (lv' := [_, _, _, _, _, _, _, _]) rfl (Nat.le_of_ble_eq_true rfl) (Or.inr (n1_I _)) rfl ?_
      obtain ⟨q34, h⟩ := h
      exact hj1 _ _ _ _ _ _ _ _ hl2 hl3 i33 q34 hl7 h
  · replace h := h.2 b22
    exact TX4_above_100 hl2 hl3 hl5 hl6 hl7 hj0 hj1 hj2 h
def PX4_above_2 (J : Nat → List Int → gS → (Int → gS → Prop) → Prop) (l1 : Int) (l2 : Int) (l3 : Int) (G : gS) (Q : Int → gS → Prop) : Prop :=
  (isO W0 10 (l1) ∧ (inI (G l1 15) → ((l3 < G l1 15 → (inI (G 814 2) → ((G 814 2 = 0 → ((0 : Int) ≤ l3 ∧ ((l3 : Int) < 33 ∧ (((G (l1 + 4) l3 = -1 ∨ isO W0 7 (G (l1 + 4) l3)) ∧ ∀ v, W0.2 (l1 + 4) l3 = some v → G (l1 + 4) l3 = v) → (isO W0 7 (G (l1 + 4) l3) ∧ (inI (G (G (l1 + 4) l3) 0) → ((G (G (l1 + 4) l3) 0 = 1 → ((G 814 0 = -1 ∨ isO W0 11 (G 814 0)) → (isO W0 11 (G 814 0) ∧ ((0 : Int) ≤ l2 ∧ ((l2 : Int) < 64 ∧ (inI (G ((G 814 0) + 2) l2) → PX4_above_48 J l1 l2 l3 (G (l1 + 4) l3) (G ((G 814 0) + 2) l2) 0 G Q)))))) ∧ (¬ (G (G (l1 + 4) l3) 0 = 1) → PX4_above_154 J l1 l2 l3 (G (l1 + 4) l3) G Q)))))))) ∧ (¬ (G 814 2 = 0) → PX4_above_160 J l1 l2 l3 G Q)))) ∧ (¬ (l3 < G l1 15) → PX4_above_160 J l1 l2 l3 G Q))))
set_option maxRecDepth 20000 in
theorem TX4_above_2 {j : Nat → rx_K} {J : Nat → List Int → gS → (Int → gS → Prop) → Prop} {l1 : Int} {l2 : Int} {l3 : Int} {l4 : Nat} {l5 : Nat} {l6 : Nat} {l7 : Nat} {G : gS} {Q : Int → gS → Prop} (hl2 : inI l2) (hl3 : inI l3) (hl4 : l4 % 8 ≠ 1) (hl5 : l5 % 8 ≠ 1) (hl6 : l6 % 8 ≠ 1) (hl7 : l7 % 8 ≠ 1) (hj0 : ∀ (l1 : Int) (l2 : Int) (l3 : Int) (l4 : Nat) (l5 : Nat) (l6 : Nat) (l7 : Nat) (G : gS), (inI l2) → (inI l3) → (l4 % 8 ≠ 1) → (l5 % 8 ≠ 1) → (l6 % 8 ≠ 1) → (l7 % 8 ≠ 1) → J 0 [l1, l2, l3] G Q → Tg W0 (j 0) [rf (814), rf (l1), cI (l2), cI (l3), l4, l5, l6, l7] [] G (fun r G => r = 7 ∧ Q 0 G)) (hj1 : ∀ (l1 : Int) (l2 : Int) (l3 : Int) (l4 : Int) (l5 : Int) (l6 : Int) (l7 : Nat) (G : gS), (inI l2) → (inI l3) → (inI l5) → (inI l6) → (l7 % 8 ≠ 1) → J 1 [l1, l2, l3, l4, l5, l6] G Q → Tg W0 (j 1) [rf (814), rf (l1), cI (l2), cI (l3), rf (l4), cI (l5), cI (l6), l7] [] G (fun r G => r = 7 ∧ Q 0 G)) (hj2 : ∀ (l1 : Int) (l2 : Int) (l3 : Int) (l4 : Int) (l5 : Int) (l6 : Int) (l7 : Int) (G : gS), (inI l2) → (inI l3) → (inI l5) → (inI l6) → (inI l7) → J 2 [l1, l2, l3, l4, l5, l6, l7] G Q → Tg W0 (j 2) [rf (814), rf (l1), cI (l2), cI (l3), rf (l4), cI (l5), cI (l6), cI (l7)] [] G (fun r G => r = 7 ∧ Q 0 G)) (h : PX4_above_2 J l1 l2 l3 G Q) : Tg W0 (vX4_above_2 j) [rf (814), rf (l1), cI (l2), cI (l3), l4, l5, l6, l7] [] G (fun r G => r = 7 ∧ Q 0 G) := by
  unfold PX4_above_2 at h
  unfold vX4_above_2
  refine g_ld (v := cI _) rfl (is_I _) ?_
  refine g_ld (v := rf _) rfl (is_R _) ?_
  obtain ⟨q1, h⟩ := h
  refine g_getI (kz := 15) q1 rfl (Nat.le_of_ble_eq_true rfl) rfl fun i2 => ?_
  replace h := h i2
  refine g_lt2 hl3 i2 (fun b3 => ?_) (fun b3 => ?_)
  · replace h := h.1 b3
    unfold vX4_above_10
    refine g_ld (v := rf _) rfl (is_R _) ?_
    refine g_getI (kz := 2) oC4 rfl (Nat.le_of_ble_eq_true rfl) rfl fun i4 => ?_
    replace h := h i4
    refine g_eq1 i4 (fun b5 => ?_) (fun b5 => ?_)
    · replace h := h.1 b5
      unfold vX4_above_17
      refine g_ld (v := rf _) rfl (is_R _) ?_
      refine g_getF q1 (ff10_14 q1).1 rfl (Nat.le_of_ble_eq_true rfl) (Nat.le_of_ble_eq_true rfl) ?_
      refine g_ld (v := cI _) rfl (is_I _) ?_
      obtain ⟨q6, q7, h⟩ := h
      refine g_aldRF (c := 7) (ff10_14 q1).2 q6 q7 rfl (by decide) fun i8 => ?_
      replace h := h i8
      refine g_st (lv' := [_, _, _, _, _, _, _, _]) (is_R _) (Nat.le_of_ble_eq_true rfl) (Or.inr (n1_I _)) rfl ?_
      refine g_ld (v := rf _) rfl (is_R _) ?_
      obtain ⟨q9, h⟩ := h
      refine g_getI (kz := 0) q9 rfl (Nat.le_of_ble_eq_true rfl) rfl fun i10 => ?_
      replace h := h i10
      refine g_const (v := cI (1)) rfl ?_
      refine g_eq2 i10 ⟨by omega, by omega⟩ (fun b11 => ?_) (fun b11 => ?_)
      · replace h := h.1 b11
        unfold vX4_above_34
        refine g_ld (v := rf _) rfl (is_R _) ?_
        refine g_getR (kz := 0) (c := 11) oC4 rfl (Nat.le_of_ble_eq_true rfl) rfl (by decide) fun i12 => ?_
        replace h := h i12
        obtain ⟨q13, h⟩ := h
        refine g_getF q13 (ff11_3 q13).1 rfl (Nat.le_of_ble_eq_true rfl) (Nat.le_of_ble_eq_true rfl) ?_
        refine g_ld (v := cI _) rfl (is_I _) ?_
        obtain ⟨q14, q15, h⟩ := h
        refine g_aldI (ff11_3 q13).2 q14 q15 rfl fun i16 => ?_
        replace h := h i16
        refine g_st (lv' := [_, _, _, _, _, _, _, _]) (is_I _) (Nat.le_of_ble_eq_true rfl) (Or.inr (n1_R _)) rfl ?_
        refine g_const (v := cI (0)) rfl ?_
        refine g_st (lv' := [_, _, _, _, _, _, _, _]) (is_I _) (Nat.le_of_ble_eq_true rfl) (Or.inr (n1_I _)) rfl ?_
        exact TX4_above_48 hl2 hl3 i16 ⟨by omega, by omega⟩ hl7 hj0 hj1 hj2 h
      · replace h := h.2 b11
        exact TX4_above_154 hl2 hl3 hl5 hl6 hl7 hj0 hj1 hj2 h
    · replace h := h.2 b5
      exact TX4_above_160 hl2 hl3 hl4 hl5 hl6 hl7 hj0 hj1 hj2 h
  · replace h := h.2 b3
    exact TX4_above_160 hl2 hl3 hl4 hl5 hl6 hl7 hj0 hj1 hj2 h
def PX4_above_0 (J : Nat → List Int → gS → (Int → gS → Prop) → Prop) (a1 : Int) (a2 : Int) (G : gS) (Q : Int → gS → Prop) : Prop :=
  PX4_above_2 J a1 a2 0 G Q
set_option maxRecDepth 20000 in
theorem TX4_above_0 {j : Nat → rx_K} {J : Nat → List Int → gS → (Int → gS → Prop) → Prop} {a1 : Int} {a2 : Int} {G : gS} {Q : Int → gS → Prop} (ha2 : inI a2) (hj0 : ∀ (l1 : Int) (l2 : Int) (l3 : Int) (l4 : Nat) (l5 : Nat) (l6 : Nat) (l7 : Nat) (G : gS), (inI l2) → (inI l3) → (l4 % 8 ≠ 1) → (l5 % 8 ≠ 1) → (l6 % 8 ≠ 1) → (l7 % 8 ≠ 1) → J 0 [l1, l2, l3] G Q → Tg W0 (j 0) [rf (814), rf (l1), cI (l2), cI (l3), l4, l5, l6, l7] [] G (fun r G => r = 7 ∧ Q 0 G)) (hj1 : ∀ (l1 : Int) (l2 : Int) (l3 : Int) (l4 : Int) (l5 : Int) (l6 : Int) (l7 : Nat) (G : gS), (inI l2) → (inI l3) → (inI l5) → (inI l6) → (l7 % 8 ≠ 1) → J 1 [l1, l2, l3, l4, l5, l6] G Q → Tg W0 (j 1) [rf (814), rf (l1), cI (l2), cI (l3), rf (l4), cI (l5), cI (l6), l7] [] G (fun r G => r = 7 ∧ Q 0 G)) (hj2 : ∀ (l1 : Int) (l2 : Int) (l3 : Int) (l4 : Int) (l5 : Int) (l6 : Int) (l7 : Int) (G : gS), (inI l2) → (inI l3) → (inI l5) → (inI l6) → (inI l7) → J 2 [l1, l2, l3, l4, l5, l6, l7] G Q → Tg W0 (j 2) [rf (814), rf (l1), cI (l2), cI (l3), rf (l4), cI (l5), cI (l6), cI (l7)] [] G (fun r G => r = 7 ∧ Q 0 G)) (h : PX4_above_0 J a1 a2 G Q) : Tg W0 (vX4_above_0 j) [rf (814), rf (a1), cI (a2), 7, 7, 7, 7, 7] [] G (fun r G => r = 7 ∧ Q 0 G) := by
  unfold PX4_above_0 at h
  unfold vX4_above_0
  refine g_const (v := cI (0)) rfl ?_
  refine g_st (lv' := [_, _, _, _, _, _, _, _]) (is_I _) (Nat.le_of_ble_eq_true rfl) (Or.inr (n1_I _)) rfl ?_
  exact TX4_above_2 ha2 ⟨by omega, by omega⟩ (show 7 % 8 ≠ 1 by decide) (show 7 % 8 ≠ 1 by decide) (show 7 % 8 ≠ 1 by decide) (show 7 % 8 ≠ 1 by decide) hj0 hj1 hj2 h
def PX4_above_J : Nat → Nat → List Int → gS → (Int → gS → Prop) → Prop
  | 0, _, _, _, _ => False
  | f + 1, h, L, G, Q => match h, L with
    | 0, [l1, l2, l3] => PX4_above_2 (PX4_above_J f) l1 l2 l3 G Q
    | 1, [l1, l2, l3, l4, l5, l6] => PX4_above_48 (PX4_above_J f) l1 l2 l3 l4 l5 l6 G Q
    | 2, [l1, l2, l3, l4, l5, l6, l7] => PX4_above_113 (PX4_above_J f) l1 l2 l3 l4 l5 l6 l7 G Q
    | _, _ => False
theorem TX4_above_J {Q : Int → gS → Prop} : ∀ f N : Nat, f ≤ N → (∀ (l1 : Int) (l2 : Int) (l3 : Int) (l4 : Nat) (l5 : Nat) (l6 : Nat) (l7 : Nat) (G : gS), (inI l2) → (inI l3) → (l4 % 8 ≠ 1) → (l5 % 8 ≠ 1) → (l6 % 8 ≠ 1) → (l7 % 8 ≠ 1) → (PX4_above_J f) 0 [l1, l2, l3] G Q → Tg W0 (rx_J vhX4_above N 0) [rf (814), rf (l1), cI (l2), cI (l3), l4, l5, l6, l7] [] G (fun r G => r = 7 ∧ Q 0 G)) ∧ (∀ (l1 : Int) (l2 : Int) (l3 : Int) (l4 : Int) (l5 : Int) (l6 : Int) (l7 : Nat) (G : gS), (inI l2) → (inI l3) → (inI l5) → (inI l6) → (l7 % 8 ≠ 1) → (PX4_above_J f) 1 [l1, l2, l3, l4, l5, l6] G Q → Tg W0 (rx_J vhX4_above N 1) [rf (814), rf (l1), cI (l2), cI (l3), rf (l4), cI (l5), cI (l6), l7] [] G (fun r G => r = 7 ∧ Q 0 G)) ∧ (∀ (l1 : Int) (l2 : Int) (l3 : Int) (l4 : Int) (l5 : Int) (l6 : Int) (l7 : Int) (G : gS), (inI l2) → (inI l3) → (inI l5) → (inI l6) → (inI l7) → (PX4_above_J f) 2 [l1, l2, l3, l4, l5, l6, l7] G Q → Tg W0 (rx_J vhX4_above N 2) [rf (814), rf (l1), cI (l2), cI (l3), rf (l4), cI (l5), cI (l6), cI (l7)] [] G (fun r G => r = 7 ∧ Q 0 G)) := by
  intro f
  induction f with
  | zero => exact fun N _ => ⟨fun _ _ _ _ _ _ _ _ _ _ _ _ _ _ h => h.elim, fun _ _ _ _ _ _ _ _ _ _ _ _ _ h => h.elim, fun _ _ _ _ _ _ _ _ _ _ _ _ _ h => h.elim⟩
  | succ f ih =>
    intro N hN
    obtain ⟨M, rfl⟩ : ∃ M, N = M + 1 := ⟨N - 1, by omega⟩
    have ih := ih M (by omega)
    exact ⟨fun _ _ _ _ _ _ _ _ hl2 hl3 hl4 hl5 hl6 hl7 h => show Tg W0 (vX4_above_2 (rx_J vhX4_above M)) _ _ _ _ from TX4_above_2 hl2 hl3 hl4 hl5 hl6 hl7 ih.1 ih.2.1 ih.2.2 h, fun _ _ _ _ _ _ _ _ hl2 hl3 hl5 hl6 hl7 h => show Tg W0 (vX4_above_48 (rx_J vhX4_above M)) _ _ _ _ from TX4_above_48 hl2 hl3 hl5 hl6 hl7 ih.1 ih.2.1 ih.2.2 h, fun _ _ _ _ _ _ _ _ hl2 hl3 hl5 hl6 hl7 h => show Tg W0 (vX4_above_113 (rx_J vhX4_above M)) _ _ _ _ from TX4_above_113 hl2 hl3 hl5 hl6 hl7 ih.1 ih.2.1 ih.2.2 h⟩
def PX4_above (a1 : Int) (a2 : Int) (G : gS) (Q : Int → gS → Prop) : Prop := ∃ f : Nat, f ≤ 4000000000 ∧ PX4_above_0 (PX4_above_J f) a1 a2 G Q
theorem TX4_above {a1 : Int} {a2 : Int} {G : gS} {Q : Int → gS → Prop} (ha2 : inI a2) (h : PX4_above a1 a2 G Q) : Tn W0 FX4_above [rf (814), rf (a1), cI (a2)] G (fun r G => r = 7 ∧ Q 0 G) := by
  obtain ⟨f, hf, h⟩ := h
  have hJ := TX4_above_J (Q := Q) f 4000000000 hf
  unfold FX4_above
  refine g_ent (lv' := [rf (814), rf (a1), cI (a2), 7, 7, 7, 7, 7]) (flR (flR (flI fl0))) (Nat.le_of_ble_eq_true rfl) rfl ?_
  exact TX4_above_0 ha2 hJ.1 hJ.2.1 hJ.2.2 h
def PX10_bridges_30 (J : Nat → List Int → gS → (Int → gS → Prop) → Prop) (o : Int) (l1 : Int) (l2 : Int) (s0 : Int) (s1 : Int) (G : gS) (Q : Int → gS → Prop) : Prop :=
  (inI (s0 + s1) ∧ (inI (l2 + 1) ∧ J 0 [o, s0 + s1, l2 + 1] G Q))
set_option maxRecDepth 20000 in
theorem TX10_bridges_30 {j : Nat → rx_K} {J : Nat → List Int → gS → (Int → gS → Prop) → Prop} {o : Int} {l1 : Int} {l2 : Int} {s0 : Int} {s1 : Int} {G : gS} {Q : Int → gS → Prop} (hl1 : inI l1) (hl2 : inI l2) (hs0 : inI s0) (hs1 : inI s1) (hj0 : ∀ (o : Int) (l1 : Int) (l2 : Int) (G : gS), (inI l1) → (inI l2) → J 0 [o, l1, l2] G Q → Tg W0 (j 0) [rf (o), cI (l1), cI (l2)] [] G (fun r G => ∃ v, r = cI v ∧ inI v ∧ Q v G)) (h : PX10_bridges_30 J o l1 l2 s0 s1 G Q) : Tg W0 (vX10_bridges_30 j) [rf (o), cI (l1), cI (l2)] [cI (s1), cI (s0)] G (fun r G => ∃ v, r = cI v ∧ inI v ∧ Q v G) := by
  unfold PX10_bridges_30 at h
  unfold vX10_bridges_30
  refine g_add ?_
  refine g_st (lv' := [_, _, _]) (is_I _) (Nat.le_of_ble_eq_true rfl) (Or.inr (n1_R _)) rfl ?_
  obtain ⟨q10, h⟩ := h
  refine g_inc (lv' := [_, _, _]) rfl (Nat.le_of_ble_eq_true rfl) (Or.inr (n1_I _)) rfl ?_
  obtain ⟨q11, h⟩ := h
  exact hj0 _ _ _ _ q10 q11 h
def PX10_bridges_4 (J : Nat → List Int → gS → (Int → gS → Prop) → Prop) (o : Int) (l1 : Int) (l2 : Int) (G : gS) (Q : Int → gS → Prop) : Prop :=
  (isO W0 10 (o) ∧ (inI (G o 15) → ((l2 < G o 15 → ((0 : Int) ≤ l2 ∧ ((l2 : Int) < 33 ∧ (((G (o + 4) l2 = -1 ∨ isO W0 7 (G (o + 4) l2)) ∧ ∀ v, W0.2 (o + 4) l2 = some v → G (o + 4) l2 = v) → (isO W0 7 (G (o + 4) l2) ∧ ((0 ≤ G (G (o + 4) l2) 5 ∧ G (G (o + 4) l2) 5 ≤ 1) → ((G (G (o + 4) l2) 5 = 0 → PX10_bridges_30 J o l1 l2 l1 0 G Q) ∧ (¬ (G (G (o + 4) l2) 5 = 0) → PX10_bridges_30 J o l1 l2 l1 1 G Q)))))))) ∧ (¬ (l2 < G o 15) → Q (l1) G))))
set_option maxRecDepth 20000 in
theorem TX10_bridges_4 {j : Nat → rx_K} {J : Nat → List Int → gS → (Int → gS → Prop) → Prop} {o : Int} {l1 : Int} {l2 : Int} {G : gS} {Q : Int → gS → Prop} (hl1 : inI l1) (hl2 : inI l2) (hj0 : ∀ (o : Int) (l1 : Int) (l2 : Int) (G : gS), (inI l1) → (inI l2) → J 0 [o, l1, l2] G Q → Tg W0 (j 0) [rf (o), cI (l1), cI (l2)] [] G (fun r G => ∃ v, r = cI v ∧ inI v ∧ Q v G)) (h : PX10_bridges_4 J o l1 l2 G Q) : Tg W0 (vX10_bridges_4 j) [rf (o), cI (l1), cI (l2)] [] G (fun r G => ∃ v, r = cI v ∧ inI v ∧ Q v G) := by
  unfold PX10_bridges_4 at h
  unfold vX10_bridges_4
  refine g_ld (v := cI _) rfl (is_I _) ?_
  refine g_ld (v := rf _) rfl (is_R _) ?_
  obtain ⟨q1, h⟩ := h
  refine g_getI (kz := 15) q1 rfl (Nat.le_of_ble_eq_true rfl) rfl fun i2 => ?_
  replace h := h i2
  refine g_lt2 hl2 i2 (fun b3 => ?_) (fun b3 => ?_)
  · replace h := h.1 b3
    unfold vX10_bridges_12
    refine g_ld (v := cI _) rfl (is_I _) ?_
    refine g_ld (v := rf _) rfl (is_R _) ?_
    refine g_getF q1 (ff10_14 q1).1 rfl (Nat.le_of_ble_eq_true rfl) (Nat.le_of_ble_eq_true rfl) ?_
    refine g_ld (v := cI _) rfl (is_I _) ?_
    obtain ⟨q4, q5, h⟩ := h
    refine g_aldRF (c := 7) (ff10_14 q1).2 q4 q5 rfl (by decide) fun i6 => ?_
    replace h := h i6
    obtain ⟨q7, h⟩ := h
    refine g_getZ (kz := 5) q7 rfl (Nat.le_of_ble_eq_true rfl) rfl fun i8 => ?_
    replace h := h i8
    refine g_eq1 ⟨by omega, by omega⟩ (fun b9 => ?_) (fun b9 => ?_)
    · replace h := h.1 b9
      unfold vX10_bridges_29
      refine g_const (v := cI (0)) rfl ?_
      exact TX10_bridges_30 hl1 hl2 hl1 ⟨by omega, by omega⟩ hj0 h
    · replace h := h.2 b9
      unfold vX10_bridges_25
      refine g_const (v := cI (1)) rfl ?_
      exact TX10_bridges_30 hl1 hl2 hl1 ⟨by omega, by omega⟩ hj0 h
  · replace h := h.2 b3
    unfold vX10_bridges_38
    refine g_ld (v := cI _) rfl (is_I _) ?_
    exact g_ret1 (is_I _) ⟨_, rfl, hl1, h⟩
def PX10_bridges_0 (J : Nat → List Int → gS → (Int → gS → Prop) → Prop) (o : Int) (G : gS) (Q : Int → gS → Prop) : Prop :=
  PX10_bridges_4 J o 0 0 G Q
set_option maxRecDepth 20000 in
theorem TX10_bridges_0 {j : Nat → rx_K} {J : Nat → List Int → gS → (Int → gS → Prop) → Prop} {o : Int} {G : gS} {Q : Int → gS → Prop}  (hj0 : ∀ (o : Int) (l1 : Int) (l2 : Int) (G : gS), (inI l1) → (inI l2) → J 0 [o, l1, l2] G Q → Tg W0 (j 0) [rf (o), cI (l1), cI (l2)] [] G (fun r G => ∃ v, r = cI v ∧ inI v ∧ Q v G)) (h : PX10_bridges_0 J o G Q) : Tg W0 (vX10_bridges_0 j) [rf (o), 7, 7] [] G (fun r G => ∃ v, r = cI v ∧ inI v ∧ Q v G) := by
  unfold PX10_bridges_0 at h
  unfold vX10_bridges_0
  refine g_const (v := cI (0)) rfl ?_
  refine g_st (lv' := [_, _, _]) (is_I _) (Nat.le_of_ble_eq_true rfl) (Or.inr (n1_R _)) rfl ?_
  refine g_const (v := cI (0)) rfl ?_
  refine g_st (lv' := [_, _, _]) (is_I _) (Nat.le_of_ble_eq_true rfl) (Or.inr (n1_I _)) rfl ?_
  exact TX10_bridges_4 ⟨by omega, by omega⟩ ⟨by omega, by omega⟩ hj0 h
def PX10_bridges_J : Nat → Nat → List Int → gS → (Int → gS → Prop) → Prop
  | 0, _, _, _, _ => False
  | f + 1, h, L, G, Q => match h, L with
    | 0, [o, l1, l2] => PX10_bridges_4 (PX10_bridges_J f) o l1 l2 G Q
    | _, _ => False
theorem TX10_bridges_J {Q : Int → gS → Prop} : ∀ f N : Nat, f ≤ N → (∀ (o : Int) (l1 : Int) (l2 : Int) (G : gS), (inI l1) → (inI l2) → (PX10_bridges_J f) 0 [o, l1, l2] G Q → Tg W0 (rx_J vhX10_bridges N 0) [rf (o), cI (l1), cI (l2)] [] G (fun r G => ∃ v, r = cI v ∧ inI v ∧ Q v G)) := by
  intro f
  induction f with
  | zero => exact fun N _ => fun _ _ _ _ _ _ h => h.elim
  | succ f ih =>
    intro N hN
    obtain ⟨M, rfl⟩ : ∃ M, N = M + 1 := ⟨N - 1, by omega⟩
    have ih := ih M (by omega)
    exact fun _ _ _ _ hl1 hl2 h => show Tg W0 (vX10_bridges_4 (rx_J vhX10_bridges M)) _ _ _ _ from TX10_bridges_4 hl1 hl2 ih h
def PX10_bridges (o : Int) (G : gS) (Q : Int → gS → Prop) : Prop := ∃ f : Nat, f ≤ 4000000000 ∧ PX10_bridges_0 (PX10_bridges_J f) o G Q
theorem TX10_bridges {o : Int} {G : gS} {Q : Int → gS → Prop}  (h : PX10_bridges o G Q) : Tn W0 FX10_bridges [rf (o)] G (fun r G => ∃ v, r = cI v ∧ inI v ∧ Q v G) := by
  obtain ⟨f, hf, h⟩ := h
  have hJ := TX10_bridges_J (Q := Q) f 4000000000 hf
  unfold FX10_bridges
  refine g_ent (lv' := [rf (o), 7, 7]) (flR fl0) (Nat.le_of_ble_eq_true rfl) rfl ?_
  exact TX10_bridges_0  hJ h
def PX10_method_126 (J : Nat → List Int → gS → (Int → gS → Prop) → Prop) (o : Int) (l1 : Int) (l2 : Int) (l3 : Int) (G : gS) (Q : Int → gS → Prop) : Prop :=
  (inI (l2 + 1) ∧ J 0 [o, l1, l2 + 1] G Q)
set_option maxRecDepth 20000 in
theorem TX10_method_126 {j : Nat → rx_K} {J : Nat → List Int → gS → (Int → gS → Prop) → Prop} {o : Int} {l1 : Int} {l2 : Int} {l3 : Int} {G : gS} {Q : Int → gS → Prop} (hl2 : inI l2) (hj0 : ∀ (o : Int) (l1 : Int) (l2 : Int) (l3 : Nat) (G : gS), (inI l2) → (l3 % 8 ≠ 1) → J 0 [o, l1, l2] G Q → Tg W0 (j 0) [rf (o), rf (l1), cI (l2), l3] [] G (fun r G => ∃ v, r = rf v ∧ Q v G)) (h : PX10_method_126 J o l1 l2 l3 G Q) : Tg W0 (vX10_method_126 j) [rf (o), rf (l1), cI (l2), rf (l3)] [] G (fun r G => ∃ v, r = rf v ∧ Q v G) := by
  unfold PX10_method_126 at h
  unfold vX10_method_126
  refine g_inc (lv' := [_, _, _, _]) rfl (Nat.le_of_ble_eq_true rfl) (Or.inr (n1_R _)) rfl ?_
  obtain ⟨q48, h⟩ := h
  exact hj0 _ _ _ _ _ q48 (n1_R _) h
def PX10_method_2 (J : Nat → List Int → gS → (Int → gS → Prop) → Prop) (o : Int) (l1 : Int) (l2 : Int) (G : gS) (Q : Int → gS → Prop) : Prop :=
  (isO W0 10 (o) ∧ (inI (G o 15) → ((l2 < G o 15 → ((0 : Int) ≤ l2 ∧ ((l2 : Int) < 33 ∧ (((G (o + 4) l2 = -1 ∨ isO W0 7 (G (o + 4) l2)) ∧ ∀ v, W0.2 (o + 4) l2 = some v → G (o + 4) l2 = v) → (isO W0 7 (G (o + 4) l2) ∧ (inL (G (G (o + 4) l2) 7) → (isO W0 7 (l1) ∧ (inL (G l1 7) → ((G (G (o + 4) l2) 7 = G l1 7 → (inL (G (G (o + 4) l2) 8) → (inL (G l1 8) → ((G (G (o + 4) l2) 8 = G l1 8 → (inI (G (G (o + 4) l2) 0) → ((G (G (o + 4) l2) 0 = 1 → (inI (G (G (o + 4) l2) 9) → (inI (G l1 9) → ((G (G (o + 4) l2) 9 = G l1 9 → ((0 : Int) ≤ 0 ∧ ((0 : Int) < 4 ∧ (inL (G ((G (o + 4) l2) + 1) 0) → ((0 : Int) ≤ 0 ∧ ((0 : Int) < 4 ∧ (inL (G (l1 + 1) 0) → ((G ((G (o + 4) l2) + 1) 0 = G (l1 + 1) 0 → ((0 : Int) ≤ 1 ∧ ((1 : Int) < 4 ∧ (inL (G ((G (o + 4) l2) + 1) 1) → ((0 : Int) ≤ 1 ∧ ((1 : Int) < 4 ∧ (inL (G (l1 + 1) 1) → ((G ((G (o + 4) l2) + 1) 1 = G (l1 + 1) 1 → ((0 : Int) ≤ 2 ∧ ((2 : Int) < 4 ∧ (inL (G ((G (o + 4) l2) + 1) 2) → ((0 : Int) ≤ 2 ∧ ((2 : Int) < 4 ∧ (inL (G (l1 + 1) 2) → ((G ((G (o + 4) l2) + 1) 2 = G (l1 + 1) 2 → ((0 : Int) ≤ 3 ∧ ((3 : Int) < 4 ∧ (inL (G ((G (o + 4) l2) + 1) 3) → ((0 : Int) ≤ 3 ∧ ((3 : Int) < 4 ∧ (inL (G (l1 + 1) 3) → ((G ((G (o + 4) l2) + 1) 3 = G (l1 + 1) 3 → Q (G (o + 4) l2) G) ∧ (¬ (G ((G (o + 4) l2) + 1) 3 = G (l1 + 1) 3) → PX10_method_126 J o l1 l2 (G (o + 4) l2) G Q))))))))) ∧ (¬ (G ((G (o + 4) l2) + 1) 2 = G (l1 + 1) 2) → PX10_method_126 J o l1 l2 (G (o + 4) l2) G Q))))))))) ∧ (¬ (G ((G (o + 4) l2) + 1) 1 = G (l1 + 1) 1) → PX10_method_126 J o l1 l2 (G (o + 4) l2) G Q))))))))) ∧ (¬ (G ((G (o + 4) l2) + 1) 0 = G (l1 + 1) 0) → PX10_method_126 J o l1 l2 (G (o + 4) l2) G Q))))))))) ∧ (¬ (G (G (o + 4) l2) 9 = G l1 9) → PX10_method_126 J o l1 l2 (G (o + 4) l2) G Q))))) ∧ (¬ (G (G (o + 4) l2) 0 = 1) → PX10_method_126 J o l1 l2 (G (o + 4) l2) G Q)))) ∧ (¬ (G (G (o + 4) l2) 8 = G l1 8) → PX10_method_126 J o l1 l2 (G (o + 4) l2) G Q))))) ∧ (¬ (G (G (o + 4) l2) 7 = G l1 7) → PX10_method_126 J o l1 l2 (G (o + 4) l2) G Q)))))))))) ∧ (¬ (l2 < G o 15) → Q (-1) G))))
set_option maxRecDepth 20000 in
theorem TX10_method_2 {j : Nat → rx_K} {J : Nat → List Int → gS → (Int → gS → Prop) → Prop} {o : Int} {l1 : Int} {l2 : Int} {l3 : Nat} {G : gS} {Q : Int → gS → Prop} (hl2 : inI l2) (hl3 : l3 % 8 ≠ 1) (hj0 : ∀ (o : Int) (l1 : Int) (l2 : Int) (l3 : Nat) (G : gS), (inI l2) → (l3 % 8 ≠ 1) → J 0 [o, l1, l2] G Q → Tg W0 (j 0) [rf (o), rf (l1), cI (l2), l3] [] G (fun r G => ∃ v, r = rf v ∧ Q v G)) (h : PX10_method_2 J o l1 l2 G Q) : Tg W0 (vX10_method_2 j) [rf (o), rf (l1), cI (l2), l3] [] G (fun r G => ∃ v, r = rf v ∧ Q v G) := by
  unfold PX10_method_2 at h
  unfold vX10_method_2
  refine g_ld (v := cI _) rfl (is_I _) ?_
  refine g_ld (v := rf _) rfl (is_R _) ?_
  obtain ⟨q1, h⟩ := h
  refine g_getI (kz := 15) q1 rfl (Nat.le_of_ble_eq_true rfl) rfl fun i2 => ?_
  replace h := h i2
  refine g_lt2 hl2 i2 (fun b3 => ?_) (fun b3 => ?_)
  · replace h := h.1 b3
    unfold vX10_method_10
    refine g_ld (v := rf _) rfl (is_R _) ?_
    refine g_getF q1 (ff10_14 q1).1 rfl (Nat.le_of_ble_eq_true rfl) (Nat.le_of_ble_eq_true rfl) ?_
    refine g_ld (v := cI _) rfl (is_I _) ?_
    obtain ⟨q4, q5, h⟩ := h
    refine g_aldRF (c := 7) (ff10_14 q1).2 q4 q5 rfl (by decide) fun i6 => ?_
    replace h := h i6
    refine g_st (lv' := [_, _, _, _]) (is_R _) (Nat.le_of_ble_eq_true rfl) (Or.inr (n1_I _)) rfl ?_
    refine g_ld (v := rf _) rfl (is_R _) ?_
    obtain ⟨q7, h⟩ := h
    refine g_getL (kz := 7) q7 rfl (Nat.le_of_ble_eq_true rfl) rfl fun i8 => ?_
    replace h := h i8
    refine g_ld (v := rf _) rfl (is_R _) ?_
    obtain ⟨q9, h⟩ := h
    refine g_getL (kz := 7) q9 rfl (Nat.le_of_ble_eq_true rfl) rfl fun i10 => ?_
    replace h := h i10
    refine g_leq i8 i10 (fun b11 => ?_) (fun b11 => ?_)
    · replace h := h.1 b11
      unfold vX10_method_29
      refine g_ld (v := rf _) rfl (is_R _) ?_
      refine g_getL (kz := 8) q7 rfl (Nat.le_of_ble_eq_true rfl) rfl fun i12 => ?_
      replace h := h i12
      refine g_ld (v := rf _) rfl (is_R _) ?_
      refine g_getL (kz := 8) q9 rfl (Nat.le_of_ble_eq_true rfl) rfl fun i13 => ?_
      replace h := h i13
      refine g_leq i12 i13 (fun b14 => ?_) (fun b14 => ?_)
      · replace h := h.1 b14
        unfold vX10_method_41
        refine g_ld (v := rf _) rfl (is_R _) ?_
        refine g_getI (kz := 0) q7 rfl (Nat.le_of_ble_eq_true rfl) rfl fun i15 => ?_
        replace h := h i15
        refine g_const (v := cI (1)) rfl ?_
        refine g_eq2 i15 ⟨by omega, by omega⟩ (fun b16 => ?_) (fun b16 => ?_)
        · replace h := h.1 b16
          unfold vX10_method_49
          refine g_ld (v := rf _) rfl (is_R _) ?_
          refine g_getI (kz := 9) q7 rfl (Nat.le_of_ble_eq_true rfl) rfl fun i17 => ?_
          replace h := h i17
          refine g_ld (v := rf _) rfl (is_R _) ?_
          refine g_getI (kz := 9) q9 rfl (Nat.le_of_ble_eq_true rfl) rfl fun i18 => ?_
          replace h := h i18
          refine g_eq2 i17 i18 (fun b19 => ?_) (fun b19 => ?_)
          · replace h := h.1 b19
            unfold vX10_method_60
            refine g_ld (v := rf _) rfl (is_R _) ?_
            refine g_getF q7 (ff7_10 q7).1 rfl (Nat.le_of_ble_eq_true rfl) (Nat.le_of_ble_eq_true rfl) ?_
            refine g_const (v := cI (0)) rfl ?_
            obtain ⟨q20, q21, h⟩ := h
            refine g_aldL (ff7_10 q7).2 q20 q21 rfl fun i22 => ?_
            replace h := h i22
            refine g_ld (v := rf _) rfl (is_R _) ?_
            refine g_getF q9 (ff7_10 q9).1 rfl (Nat.le_of_ble_eq_true rfl) (Nat.le_of_ble_eq_true rfl) ?_
            refine g_const (v := cI (0)) rfl ?_
            obtain ⟨q23, q24, h⟩ := h
            refine g_aldL (ff7_10 q9).2 q23 q24 rfl fun i25 => ?_
            replace h := h i25
            refine g_leq i22 i25 (fun b26 => ?_) (fun b26 => ?_)
            · replace h := h.1 b26
              unfold vX10_method_76
              refine g_ld (v := rf _) rfl (is_R _) ?_
              refine g_getF q7 (ff7_10 q7).1 rfl (Nat.le_of_ble_eq_true rfl) (Nat.le_of_ble_eq_true rfl) ?_
              refine g_const (v := cI (1)) rfl ?_
              obtain ⟨q27, q28, h⟩ := h
              refine g_aldL (ff7_10 q7).2 q27 q28 rfl fun i29 => ?_
              replace h := h i29
              refine g_ld (v := rf _) rfl (is_R _) ?_
              refine g_getF q9 (ff7_10 q9).1 rfl (Nat.le_of_ble_eq_true rfl) (Nat.le_of_ble_eq_true rfl) ?_
              refine g_const (v := cI (1)) rfl ?_
              obtain ⟨q30, q31, h⟩ := h
              refine g_aldL (ff7_10 q9).2 q30 q31 rfl fun i32 => ?_
              replace h := h i32
              refine g_leq i29 i32 (fun b33 => ?_) (fun b33 => ?_)
              · replace h := h.1 b33
                unfold vX10_method_92
                refine g_ld (v := rf _) rfl (is_R _) ?_
                refine g_getF q7 (ff7_10 q7).1 rfl (Nat.le_of_ble_eq_true rfl) (Nat.le_of_ble_eq_true rfl) ?_
                refine g_const (v := cI (2)) rfl ?_
                obtain ⟨q34, q35, h⟩ := h
                refine g_aldL (ff7_10 q7).2 q34 q35 rfl fun i36 => ?_
                replace h := h i36
                refine g_ld (v := rf _) rfl (is_R _) ?_
                refine g_getF q9 (ff7_10 q9).1 rfl (Nat.le_of_ble_eq_true rfl) (Nat.le_of_ble_eq_true rfl) ?_
                refine g_const (v := cI (2)) rfl ?_
                obtain ⟨q37, q38, h⟩ := h
                refine g_aldL (ff7_10 q9).2 q37 q38 rfl fun i39 => ?_
                replace h := h i39
                refine g_leq i36 i39 (fun b40 => ?_) (fun b40 => ?_)
                · replace h := h.1 b40
                  unfold vX10_method_108
                  refine g_ld (v := rf _) rfl (is_R _) ?_
                  refine g_getF q7 (ff7_10 q7).1 rfl (Nat.le_of_ble_eq_true rfl) (Nat.le_of_ble_eq_true rfl) ?_
                  refine g_const (v := cI (3)) rfl ?_
                  obtain ⟨q41, q42, h⟩ := h
                  refine g_aldL (ff7_10 q7).2 q41 q42 rfl fun i43 => ?_
                  replace h := h i43
                  refine g_ld (v := rf _) rfl (is_R _) ?_
                  refine g_getF q9 (ff7_10 q9).1 rfl (Nat.le_of_ble_eq_true rfl) (Nat.le_of_ble_eq_true rfl) ?_
                  refine g_const (v := cI (3)) rfl ?_
                  obtain ⟨q44, q45, h⟩ := h
                  refine g_aldL (ff7_10 q9).2 q44 q45 rfl fun i46 => ?_
                  replace h := h i46
                  refine g_leq i43 i46 (fun b47 => ?_) (fun b47 => ?_)
                  · replace h := h.1 b47
                    unfold vX10_method_124
                    refine g_ld (v := rf _) rfl (is_R _) ?_
                    exact g_ret1 (is_R _) ⟨_, rfl, h⟩
                  · replace h := h.2 b47
                    exact TX10_method_126 hl2 hj0 h
                · replace h := h.2 b40
                  exact TX10_method_126 hl2 hj0 h
              · replace h := h.2 b33
                exact TX10_method_126 hl2 hj0 h
            · replace h := h.2 b26
              exact TX10_method_126 hl2 hj0 h
          · replace h := h.2 b19
            exact TX10_method_126 hl2 hj0 h
        · replace h := h.2 b16
          exact TX10_method_126 hl2 hj0 h
      · replace h := h.2 b14
        exact TX10_method_126 hl2 hj0 h
    · replace h := h.2 b11
      exact TX10_method_126 hl2 hj0 h
  · replace h := h.2 b3
    unfold vX10_method_132
    refine g_const (v := rf (-1)) rfl ?_
    exact g_ret1 (is_R _) ⟨_, rfl, h⟩
def PX10_method_0 (J : Nat → List Int → gS → (Int → gS → Prop) → Prop) (o : Int) (a1 : Int) (G : gS) (Q : Int → gS → Prop) : Prop :=
  PX10_method_2 J o a1 0 G Q
set_option maxRecDepth 20000 in
theorem TX10_method_0 {j : Nat → rx_K} {J : Nat → List Int → gS → (Int → gS → Prop) → Prop} {o : Int} {a1 : Int} {G : gS} {Q : Int → gS → Prop}  (hj0 : ∀ (o : Int) (l1 : Int) (l2 : Int) (l3 : Nat) (G : gS), (inI l2) → (l3 % 8 ≠ 1) → J 0 [o, l1, l2] G Q → Tg W0 (j 0) [rf (o), rf (l1), cI (l2), l3] [] G (fun r G => ∃ v, r = rf v ∧ Q v G)) (h : PX10_method_0 J o a1 G Q) : Tg W0 (vX10_method_0 j) [rf (o), rf (a1), 7, 7] [] G (fun r G => ∃ v, r = rf v ∧ Q v G) := by
  unfold PX10_method_0 at h
  unfold vX10_method_0
  refine g_const (v := cI (0)) rfl ?_
  refine g_st (lv' := [_, _, _, _]) (is_I _) (Nat.le_of_ble_eq_true rfl) (Or.inr (n1_R _)) rfl ?_
  exact TX10_method_2 ⟨by omega, by omega⟩ (show 7 % 8 ≠ 1 by decide) hj0 h
def PX10_method_J : Nat → Nat → List Int → gS → (Int → gS → Prop) → Prop
  | 0, _, _, _, _ => False
  | f + 1, h, L, G, Q => match h, L with
    | 0, [o, l1, l2] => PX10_method_2 (PX10_method_J f) o l1 l2 G Q
    | _, _ => False
theorem TX10_method_J {Q : Int → gS → Prop} : ∀ f N : Nat, f ≤ N → (∀ (o : Int) (l1 : Int) (l2 : Int) (l3 : Nat) (G : gS), (inI l2) → (l3 % 8 ≠ 1) → (PX10_method_J f) 0 [o, l1, l2] G Q → Tg W0 (rx_J vhX10_method N 0) [rf (o), rf (l1), cI (l2), l3] [] G (fun r G => ∃ v, r = rf v ∧ Q v G)) := by
  intro f
  induction f with
  | zero => exact fun N _ => fun _ _ _ _ _ _ _ h => h.elim
  | succ f ih =>
    intro N hN
    obtain ⟨M, rfl⟩ : ∃ M, N = M + 1 := ⟨N - 1, by omega⟩
    have ih := ih M (by omega)
    exact fun _ _ _ _ _ hl2 hl3 h => show Tg W0 (vX10_method_2 (rx_J vhX10_method M)) _ _ _ _ from TX10_method_2 hl2 hl3 ih h
def PX10_method (o : Int) (a1 : Int) (G : gS) (Q : Int → gS → Prop) : Prop := ∃ f : Nat, f ≤ 4000000000 ∧ PX10_method_0 (PX10_method_J f) o a1 G Q
theorem TX10_method {o : Int} {a1 : Int} {G : gS} {Q : Int → gS → Prop}  (h : PX10_method o a1 G Q) : Tn W0 FX10_method [rf (o), rf (a1)] G (fun r G => ∃ v, r = rf v ∧ Q v G) := by
  obtain ⟨f, hf, h⟩ := h
  have hJ := TX10_method_J (Q := Q) f 4000000000 hf
  unfold FX10_method
  refine g_ent (lv' := [rf (o), rf (a1), 7, 7]) (flR (flR fl0)) (Nat.le_of_ble_eq_true rfl) rfl ?_
  exact TX10_method_0  hJ h
def PX7_ofObjects_19 (o : Int) (s0 : Int) (G : gS) (Q : Int → gS → Prop) : Prop :=
  ((0 ≤ s0 ∧ s0 ≤ 1) ∧ Q (s0) G)
set_option maxRecDepth 20000 in
theorem TX7_ofObjects_19 {o : Int} {s0 : Int} {G : gS} {Q : Int → gS → Prop} (hs0 : inI s0) (h : PX7_ofObjects_19 o s0 G Q) : Tg W0 vX7_ofObjects_19 [rf (o)] [cI (s0)] G (fun r G => ∃ v, r = cI v ∧ (0 ≤ v ∧ v ≤ 1) ∧ Q v G) := by
  unfold PX7_ofObjects_19 at h
  unfold vX7_ofObjects_19
  obtain ⟨q6, h⟩ := h
  exact g_ret1 (is_Z q6) ⟨_, rfl, q6, h⟩
def PX7_ofObjects_18 (o : Int) (G : gS) (Q : Int → gS → Prop) : Prop :=
  PX7_ofObjects_19 o 0 G Q
set_option maxRecDepth 20000 in
theorem TX7_ofObjects_18 {o : Int} {G : gS} {Q : Int → gS → Prop}  (h : PX7_ofObjects_18 o G Q) : Tg W0 vX7_ofObjects_18 [rf (o)] [] G (fun r G => ∃ v, r = cI v ∧ (0 ≤ v ∧ v ≤ 1) ∧ Q v G) := by
  unfold PX7_ofObjects_18 at h
  unfold vX7_ofObjects_18
  refine g_const (v := cI (0)) rfl ?_
  exact TX7_ofObjects_19 ⟨by omega, by omega⟩ h
def PX7_ofObjects_0 (o : Int) (G : gS) (Q : Int → gS → Prop) : Prop :=
  (isO W0 7 (o) ∧ ((0 ≤ G o 2 ∧ G o 2 ≤ 1) → ((G o 2 = 0 → (inI (G o 1) → ((G o 1 = 0 → PX7_ofObjects_18 o G Q) ∧ (¬ (G o 1 = 0) → PX7_ofObjects_19 o 1 G Q)))) ∧ (¬ (G o 2 = 0) → PX7_ofObjects_18 o G Q))))
set_option maxRecDepth 20000 in
theorem TX7_ofObjects_0 {o : Int} {G : gS} {Q : Int → gS → Prop}  (h : PX7_ofObjects_0 o G Q) : Tg W0 vX7_ofObjects_0 [rf (o)] [] G (fun r G => ∃ v, r = cI v ∧ (0 ≤ v ∧ v ≤ 1) ∧ Q v G) := by
  unfold PX7_ofObjects_0 at h
  unfold vX7_ofObjects_0
  refine g_ld (v := rf _) rfl (is_R _) ?_
  obtain ⟨q1, h⟩ := h
  refine g_getZ (kz := 2) q1 rfl (Nat.le_of_ble_eq_true rfl) rfl fun i2 => ?_
  replace h := h i2
  refine g_eq1 ⟨by omega, by omega⟩ (fun b3 => ?_) (fun b3 => ?_)
  · replace h := h.1 b3
    unfold vX7_ofObjects_7
    refine g_ld (v := rf _) rfl (is_R _) ?_
    refine g_getI (kz := 1) q1 rfl (Nat.le_of_ble_eq_true rfl) rfl fun i4 => ?_
    replace h := h i4
    refine g_eq1 i4 (fun b5 => ?_) (fun b5 => ?_)
    · replace h := h.1 b5
      exact TX7_ofObjects_18  h
    · replace h := h.2 b5
      unfold vX7_ofObjects_14
      refine g_const (v := cI (1)) rfl ?_
      exact TX7_ofObjects_19 ⟨by omega, by omega⟩ h
  · replace h := h.2 b3
    exact TX7_ofObjects_18  h
abbrev PX7_ofObjects (o : Int) (G : gS) (Q : Int → gS → Prop) : Prop := PX7_ofObjects_0 o G Q
theorem TX7_ofObjects {o : Int} {G : gS} {Q : Int → gS → Prop}  (h : PX7_ofObjects o G Q) : Tn W0 FX7_ofObjects [rf (o)] G (fun r G => ∃ v, r = cI v ∧ (0 ≤ v ∧ v ≤ 1) ∧ Q v G) := by
  unfold FX7_ofObjects
  refine g_ent (lv' := [rf (o)]) (flR fl0) (Nat.le_of_ble_eq_true rfl) rfl ?_
  exact TX7_ofObjects_0  h
def PX4_barred_61 (l1 : Int) (l2 : Int) (l3 : Int) (s0 : Int) (G : gS) (Q : Int → gS → Prop) : Prop :=
  ((0 ≤ s0 ∧ s0 ≤ 1) ∧ Q (s0) G)
set_option maxRecDepth 20000 in
theorem TX4_barred_61 {l1 : Int} {l2 : Int} {l3 : Int} {s0 : Int} {G : gS} {Q : Int → gS → Prop} (hl1 : inI l1) (hs0 : inI s0) (h : PX4_barred_61 l1 l2 l3 s0 G Q) : Tg W0 vX4_barred_61 [rf (814), cI (l1), rf (l2), rf (l3)] [cI (s0)] G (fun r G => ∃ v, r = cI v ∧ (0 ≤ v ∧ v ≤ 1) ∧ Q v G) := by
  unfold PX4_barred_61 at h
  unfold vX4_barred_61
  obtain ⟨q26, h⟩ := h
  exact g_ret1 (is_Z q26) ⟨_, rfl, q26, h⟩
def PX4_barred_60 (l1 : Int) (l2 : Int) (l3 : Int) (G : gS) (Q : Int → gS → Prop) : Prop :=
  PX4_barred_61 l1 l2 l3 0 G Q
set_option maxRecDepth 20000 in
theorem TX4_barred_60 {l1 : Int} {l2 : Int} {l3 : Int} {G : gS} {Q : Int → gS → Prop} (hl1 : inI l1) (h : PX4_barred_60 l1 l2 l3 G Q) : Tg W0 vX4_barred_60 [rf (814), cI (l1), rf (l2), rf (l3)] [] G (fun r G => ∃ v, r = cI v ∧ (0 ≤ v ∧ v ≤ 1) ∧ Q v G) := by
  unfold PX4_barred_60 at h
  unfold vX4_barred_60
  refine g_const (v := cI (0)) rfl ?_
  exact TX4_barred_61 hl1 ⟨by omega, by omega⟩ h
def PX4_barred_56 (l1 : Int) (l2 : Int) (l3 : Int) (G : gS) (Q : Int → gS → Prop) : Prop :=
  PX4_barred_61 l1 l2 l3 1 G Q
set_option maxRecDepth 20000 in
theorem TX4_barred_56 {l1 : Int} {l2 : Int} {l3 : Int} {G : gS} {Q : Int → gS → Prop} (hl1 : inI l1) (h : PX4_barred_56 l1 l2 l3 G Q) : Tg W0 vX4_barred_56 [rf (814), cI (l1), rf (l2), rf (l3)] [] G (fun r G => ∃ v, r = cI v ∧ (0 ≤ v ∧ v ≤ 1) ∧ Q v G) := by
  unfold PX4_barred_56 at h
  unfold vX4_barred_56
  refine g_const (v := cI (1)) rfl ?_
  exact TX4_barred_61 hl1 ⟨by omega, by omega⟩ h
def PX4_barred_35 (l1 : Int) (l2 : Int) (l3 : Int) (G : gS) (Q : Int → gS → Prop) : Prop :=
  (isO W0 10 (l3) ∧ ((0 : Int) ≤ 2 ∧ ((2 : Int) < 3 ∧ (inI (G (l3 + 2) 2) → ((0 < G (l3 + 2) 2 → (isO W0 10 (l2) ∧ (inL (G l2 1) → PX10_has l3 2 (G l2 1) G (fun r23 G22 => (0 ≤ r23 ∧ r23 ≤ 1) → ((r23 = 0 → PX4_barred_56 l1 l2 l3 G22 Q) ∧ (¬ (r23 = 0) → PX4_barred_60 l1 l2 l3 G22 Q)))))) ∧ (¬ (0 < G (l3 + 2) 2) → PX4_barred_60 l1 l2 l3 G Q))))))
set_option maxRecDepth 20000 in
theorem TX4_barred_35 {l1 : Int} {l2 : Int} {l3 : Int} {G : gS} {Q : Int → gS → Prop} (hl1 : inI l1) (h : PX4_barred_35 l1 l2 l3 G Q) : Tg W0 vX4_barred_35 [rf (814), cI (l1), rf (l2), rf (l3)] [] G (fun r G => ∃ v, r = cI v ∧ (0 ≤ v ∧ v ≤ 1) ∧ Q v G) := by
  unfold PX4_barred_35 at h
  unfold vX4_barred_35
  refine g_ld (v := rf _) rfl (is_R _) ?_
  obtain ⟨q15, h⟩ := h
  refine g_getF q15 (ff10_11 q15).1 rfl (Nat.le_of_ble_eq_true rfl) (Nat.le_of_ble_eq_true rfl) ?_
  refine g_const (v := cI (2)) rfl ?_
  obtain ⟨q16, q17, h⟩ := h
  refine g_aldI (ff10_11 q15).2 q16 q17 rfl fun i18 => ?_
  replace h := h i18
  refine g_gt1 i18 (fun b19 => ?_) (fun b19 => ?_)
  · replace h := h.1 b19
    unfold vX4_barred_44
    refine g_ld (v := rf _) rfl (is_R _) ?_
    refine g_const (v := cI (2)) rfl ?_
    refine g_ld (v := rf _) rfl (is_R _) ?_
    obtain ⟨q20, h⟩ := h
    refine g_getL (kz := 1) q20 rfl (Nat.le_of_ble_eq_true rfl) rfl fun i21 => ?_
    replace h := h i21
    refine g_callV (As := [_, _]) (ci := 10) q15 (fun _ => rfl) ?_
    refine g_go1 (Nat.le_of_ble_eq_true rfl) (Tn_w (TX10_has ⟨by omega, by omega⟩ i21 h) fun _ G22 ⟨r23, e, i24, h⟩ => ?_)
    subst e
    refine ⟨n7_I _, ?_⟩
    replace h := h i24
    refine g_eq1 ⟨by omega, by omega⟩ (fun b25 => ?_) (fun b25 => ?_)
    · replace h := h.1 b25
      exact TX4_barred_56 hl1 h
    · replace h := h.2 b25
      exact TX4_barred_60 hl1 h
  · replace h := h.2 b19
    exact TX4_barred_60 hl1 h
def PX4_barred_0 (a1 : Int) (a2 : Int) (G : gS) (Q : Int → gS → Prop) : Prop :=
  ((G 814 0 = -1 ∨ isO W0 11 (G 814 0)) → (isO W0 11 (G 814 0) ∧ ((0 : Int) ≤ a1 ∧ ((a1 : Int) < 64 ∧ (((G ((G 814 0) + 1) a1 = -1 ∨ isO W0 10 (G ((G 814 0) + 1) a1)) ∧ ∀ v, W0.2 ((G 814 0) + 1) a1 = some v → G ((G 814 0) + 1) a1 = v) → (isO W0 10 (G ((G 814 0) + 1) a1) ∧ ((0 ≤ G (G ((G 814 0) + 1) a1) 3 ∧ G (G ((G 814 0) + 1) a1) 3 ≤ 1) → ((G (G ((G 814 0) + 1) a1) 3 = 0 → (inL (G (G ((G 814 0) + 1) a1) 1) → (inL (lush (G (G ((G 814 0) + 1) a1) 1) 59) → (isO W0 10 (a2) ∧ (inL (G a2 1) → (inL (lush (G a2 1) 59) → ((lush (G (G ((G 814 0) + 1) a1) 1) 59 = lush (G a2 1) 59 → PX4_barred_35 a1 a2 (G ((G 814 0) + 1) a1) G Q) ∧ (¬ (lush (G (G ((G 814 0) + 1) a1) 1) 59 = lush (G a2 1) 59) → PX4_barred_56 a1 a2 (G ((G 814 0) + 1) a1) G Q)))))))) ∧ (¬ (G (G ((G 814 0) + 1) a1) 3 = 0) → PX4_barred_35 a1 a2 (G ((G 814 0) + 1) a1) G Q)))))))))
set_option maxRecDepth 20000 in
theorem TX4_barred_0 {a1 : Int} {a2 : Int} {G : gS} {Q : Int → gS → Prop} (ha1 : inI a1) (h : PX4_barred_0 a1 a2 G Q) : Tg W0 vX4_barred_0 [rf (814), cI (a1), rf (a2), 7] [] G (fun r G => ∃ v, r = cI v ∧ (0 ≤ v ∧ v ≤ 1) ∧ Q v G) := by
  unfold PX4_barred_0 at h
  unfold vX4_barred_0
  refine g_ld (v := rf _) rfl (is_R _) ?_
  refine g_getR (kz := 0) (c := 11) oC4 rfl (Nat.le_of_ble_eq_true rfl) rfl (by decide) fun i1 => ?_
  replace h := h i1
  obtain ⟨q2, h⟩ := h
  refine g_getF q2 (ff11_1 q2).1 rfl (Nat.le_of_ble_eq_true rfl) (Nat.le_of_ble_eq_true rfl) ?_
  refine g_ld (v := cI _) rfl (is_I _) ?_
  obtain ⟨q3, q4, h⟩ := h
  refine g_aldRF (c := 10) (ff11_1 q2).2 q3 q4 rfl (by decide) fun i5 => ?_
  replace h := h i5
  refine g_st (lv' := [_, _, _, _]) (is_R _) (Nat.le_of_ble_eq_true rfl) (Or.inr (n1_R _)) rfl ?_
  refine g_ld (v := rf _) rfl (is_R _) ?_
  obtain ⟨q6, h⟩ := h
  refine g_getZ (kz := 3) q6 rfl (Nat.le_of_ble_eq_true rfl) rfl fun i7 => ?_
  replace h := h i7
  refine g_eq1 ⟨by omega, by omega⟩ (fun b8 => ?_) (fun b8 => ?_)
  · replace h := h.1 b8
    unfold vX4_barred_17
    refine g_ld (v := rf _) rfl (is_R _) ?_
    refine g_getL (kz := 1) q6 rfl (Nat.le_of_ble_eq_true rfl) rfl fun i9 => ?_
    replace h := h i9
    refine g_const (v := cI (59)) rfl ?_
    refine g_lush fun i10 => ?_
    replace h := h i10
    refine g_ld (v := rf _) rfl (is_R _) ?_
    obtain ⟨q11, h⟩ := h
    refine g_getL (kz := 1) q11 rfl (Nat.le_of_ble_eq_true rfl) rfl fun i12 => ?_
    replace h := h i12
    refine g_const (v := cI (59)) rfl ?_
    refine g_lush fun i13 => ?_
    replace h := h i13
    refine g_leq i10 i13 (fun b14 => ?_) (fun b14 => ?_)
    · replace h := h.1 b14
      exact TX4_barred_35 ha1 h
    · replace h := h.2 b14
      exact TX4_barred_56 ha1 h
  · replace h := h.2 b8
    exact TX4_barred_35 ha1 h
abbrev PX4_barred (a1 : Int) (a2 : Int) (G : gS) (Q : Int → gS → Prop) : Prop := PX4_barred_0 a1 a2 G Q
theorem TX4_barred {a1 : Int} {a2 : Int} {G : gS} {Q : Int → gS → Prop} (ha1 : inI a1) (h : PX4_barred a1 a2 G Q) : Tn W0 FX4_barred [rf (814), cI (a1), rf (a2)] G (fun r G => ∃ v, r = cI v ∧ (0 ≤ v ∧ v ≤ 1) ∧ Q v G) := by
  unfold FX4_barred
  refine g_ent (lv' := [rf (814), cI (a1), rf (a2), 7]) (flR (flI (flR fl0))) (Nat.le_of_ble_eq_true rfl) rfl ?_
  exact TX4_barred_0 ha1 h
def PX4_within_144 (J : Nat → List Int → gS → (Int → gS → Prop) → Prop) (l1 : Int) (l2 : Int) (l3 : Int) (l4 : Int) (G : gS) (Q : Int → gS → Prop) : Prop :=
  (isO W0 10 (l1) ∧ ((0 : Int) ≤ 2 ∧ ((2 : Int) < 3 ∧ (inI (G (l1 + 2) 2) → ((l4 < G (l1 + 2) 2 → ((G 814 1 = -1 ∨ isO W0 1 (G 814 1)) → PX10_listedAt l1 2 l4 G (fun r58 G57 => inL r58 → (isO W0 1 (G 814 1) ∧ PX1_named (G 814 1) r58 G57 (fun r62 G61 => ((r62 < 0 → (inI (l3 + 1) ∧ PX4_fail 5 (l3 + 1) G61 (fun r67 G66 => (0 ≤ r67 ∧ r67 ≤ 1) → Q (r67) G66))) ∧ (0 ≤ r62 → (inI (l3 + 2) ∧ (inI (l4 + 1) ∧ J 1 [l1, l2, l3 + 2, l4 + 1] G61 Q))))))))) ∧ (¬ (l4 < G (l1 + 2) 2) → Q (1) G))))))
set_option maxRecDepth 20000 in
theorem TX4_within_144 {j : Nat → rx_K} {J : Nat → List Int → gS → (Int → gS → Prop) → Prop} {l1 : Int} {l2 : Int} {l3 : Int} {l4 : Int} {l5 : Nat} {G : gS} {Q : Int → gS → Prop} (hl2 : inI l2) (hl3 : inI l3) (hl4 : inI l4) (hl5 : l5 % 8 ≠ 1) (hj0 : ∀ (l1 : Int) (l2 : Int) (l3 : Int) (l4 : Int) (l5 : Nat) (G : gS), (inI l2) → (inI l3) → (inI l4) → (l5 % 8 ≠ 1) → J 0 [l1, l2, l3, l4] G Q → Tg W0 (j 0) [rf (814), rf (l1), cI (l2), cI (l3), cI (l4), l5] [] G (fun r G => ∃ v, r = cI v ∧ (0 ≤ v ∧ v ≤ 1) ∧ Q v G)) (hj1 : ∀ (l1 : Int) (l2 : Int) (l3 : Int) (l4 : Int) (l5 : Nat) (G : gS), (inI l2) → (inI l3) → (inI l4) → (l5 % 8 ≠ 1) → J 1 [l1, l2, l3, l4] G Q → Tg W0 (j 1) [rf (814), rf (l1), cI (l2), cI (l3), cI (l4), l5] [] G (fun r G => ∃ v, r = cI v ∧ (0 ≤ v ∧ v ≤ 1) ∧ Q v G)) (h : PX4_within_144 J l1 l2 l3 l4 G Q) : Tg W0 (vX4_within_144 j) [rf (814), rf (l1), cI (l2), cI (l3), cI (l4), l5] [] G (fun r G => ∃ v, r = cI v ∧ (0 ≤ v ∧ v ≤ 1) ∧ Q v G) := by
  unfold PX4_within_144 at h
  unfold vX4_within_144
  refine g_ld (v := cI _) rfl (is_I _) ?_
  refine g_ld (v := rf _) rfl (is_R _) ?_
  obtain ⟨q51, h⟩ := h
  refine g_getF q51 (ff10_11 q51).1 rfl (Nat.le_of_ble_eq_true rfl) (Nat.le_of_ble_eq_true rfl) ?_
  refine g_const (v := cI (2)) rfl ?_
  obtain ⟨q52, q53, h⟩ := h
  refine g_aldI (ff10_11 q51).2 q52 q53 rfl fun i54 => ?_
  replace h := h i54
  refine g_lt2 hl4 i54 (fun b55 => ?_) (fun b55 => ?_)
  · replace h := h.1 b55
    unfold vX4_within_155
    refine g_ld (v := rf _) rfl (is_R _) ?_
    refine g_getR (kz := 1) (c := 1) oC4 rfl (Nat.le_of_ble_eq_true rfl) rfl (by decide) fun i56 => ?_
    replace h := h i56
    refine g_ld (v := rf _) rfl (is_R _) ?_
    refine g_const (v := cI (2)) rfl ?_
    refine g_ld (v := cI _) rfl (is_I _) ?_
    refine g_callV (As := [_, _]) (ci := 10) q51 (fun _ => rfl) ?_
    refine g_go1 (by simp only [cs_c, cs_0, ct_I, ct_L, ct_R]; exact Nat.le_of_ble_eq_true rfl) (Tn_w (TX10_listedAt ⟨by omega, by omega⟩ hl4 h) fun _ G57 ⟨r58, e, i59, h⟩ => ?_)
    subst e
    refine ⟨n7_L _, ?_⟩
    replace h := h i59
    obtain ⟨q60, h⟩ := h
    refine g_callV (As := [_]) (ci := 1) q60 (fun _ => rfl) ?_
    refine g_go1 (Nat.le_of_ble_eq_true rfl) (Tn_w (TX1_named i59 h) fun _ G61 ⟨r62, e, h⟩ => ?_)
    subst e
    refine ⟨n7_R _, ?_⟩
    refine g_nul (fun b64 => ?_) (fun b64 => ?_)
    · replace h := h.1 b64
      unfold vX4_within_172
      refine g_ld (v := rf _) rfl (is_R _) ?_
      refine g_const (v := cI (5)) rfl ?_
      refine g_ld (v := cI _) rfl (is_I _) ?_
      refine g_const (v := cI (1)) rfl ?_
      refine g_add ?_
      obtain ⟨q65, h⟩ := h
      refine g_callV (As := [_, _]) (ci := 4) oC4 (fun _ => rfl) ?_
      refine g_go1 (Nat.le_of_ble_eq_true rfl) (Tn_w (TX4_fail ⟨by omega, by omega⟩ q65 h) fun _ G66 ⟨r67, e, i68, h⟩ => ?_)
      subst e
      refine ⟨n7_I _, ?_⟩
      replace h := h i68
      exact g_ret1 (is_Z i68) ⟨_, rfl, i68, h⟩
    · replace h := h.2 b64
      unfold vX4_within_181
      refine g_inc (lv' := [_, _, _, _, _, _]) rfl (Nat.le_of_ble_eq_true rfl) (Or.inr (n1_I _)) rfl ?_
      obtain ⟨q69, h⟩ := h
      refine g_inc (lv' := [_, _, _, _, _, _]) rfl (Nat.le_of_ble_eq_true rfl) (Or.inr (n1_I _)) rfl ?_
      obtain ⟨q70, h⟩ := h
      exact hj1 _ _ _ _ _ _ hl2 q69 q70 hl5 h
  · replace h := h.2 b55
    unfold vX4_within_190
    refine g_const (v := cI (1)) rfl ?_
    exact g_ret1 (is_Z (by omega)) ⟨_, rfl, (by omega), h⟩
def PX4_within_123 (J : Nat → List Int → gS → (Int → gS → Prop) → Prop) (l1 : Int) (l2 : Int) (l3 : Int) (l4 : Int) (l5 : Int) (G : gS) (Q : Int → gS → Prop) : Prop :=
  (inI (l3 + 1) ∧ PX4_fail 5 (l3 + 1) G (fun r49 G48 => (0 ≤ r49 ∧ r49 ≤ 1) → Q (r49) G48))
set_option maxRecDepth 20000 in
theorem TX4_within_123 {j : Nat → rx_K} {J : Nat → List Int → gS → (Int → gS → Prop) → Prop} {l1 : Int} {l2 : Int} {l3 : Int} {l4 : Int} {l5 : Int} {G : gS} {Q : Int → gS → Prop} (hl2 : inI l2) (hl3 : inI l3) (hl4 : inI l4) (hj0 : ∀ (l1 : Int) (l2 : Int) (l3 : Int) (l4 : Int) (l5 : Nat) (G : gS), (inI l2) → (inI l3) → (inI l4) → (l5 % 8 ≠ 1) → J 0 [l1, l2, l3, l4] G Q → Tg W0 (j 0) [rf (814), rf (l1), cI (l2), cI (l3), cI (l4), l5] [] G (fun r G => ∃ v, r = cI v ∧ (0 ≤ v ∧ v ≤ 1) ∧ Q v G)) (hj1 : ∀ (l1 : Int) (l2 : Int) (l3 : Int) (l4 : Int) (l5 : Nat) (G : gS), (inI l2) → (inI l3) → (inI l4) → (l5 % 8 ≠ 1) → J 1 [l1, l2, l3, l4] G Q → Tg W0 (j 1) [rf (814), rf (l1), cI (l2), cI (l3), cI (l4), l5] [] G (fun r G => ∃ v, r = cI v ∧ (0 ≤ v ∧ v ≤ 1) ∧ Q v G)) (h : PX4_within_123 J l1 l2 l3 l4 l5 G Q) : Tg W0 (vX4_within_123 j) [rf (814), rf (l1), cI (l2), cI (l3), cI (l4), rf (l5)] [] G (fun r G => ∃ v, r = cI v ∧ (0 ≤ v ∧ v ≤ 1) ∧ Q v G) := by
  unfold PX4_within_123 at h
  unfold vX4_within_123
  refine g_ld (v := rf _) rfl (is_R _) ?_
  refine g_const (v := cI (5)) rfl ?_
  refine g_ld (v := cI _) rfl (is_I _) ?_
  refine g_const (v := cI (1)) rfl ?_
  refine g_add ?_
  obtain ⟨q47, h⟩ := h
  refine g_callV (As := [_, _]) (ci := 4) oC4 (fun _ => rfl) ?_
  refine g_go1 (Nat.le_of_ble_eq_true rfl) (Tn_w (TX4_fail ⟨by omega, by omega⟩ q47 h) fun _ G48 ⟨r49, e, i50, h⟩ => ?_)
  subst e
  refine ⟨n7_I _, ?_⟩
  replace h := h i50
  exact g_ret1 (is_Z i50) ⟨_, rfl, i50, h⟩
def PX4_within_78 (J : Nat → List Int → gS → (Int → gS → Prop) → Prop) (l1 : Int) (l2 : Int) (l3 : Int) (l4 : Int) (G : gS) (Q : Int → gS → Prop) : Prop :=
  (isO W0 10 (l1) ∧ ((0 : Int) ≤ 1 ∧ ((1 : Int) < 3 ∧ (inI (G (l1 + 2) 1) → ((l4 < G (l1 + 2) 1 → ((G 814 1 = -1 ∨ isO W0 1 (G 814 1)) → PX10_listedAt l1 1 l4 G (fun r34 G33 => inL r34 → (isO W0 1 (G 814 1) ∧ PX1_named (G 814 1) r34 G33 (fun r38 G37 => ((r38 < 0 → PX4_within_123 J l1 l2 l3 l4 r38 G37 Q) ∧ (0 ≤ r38 → (isO W0 10 (r38) ∧ (inL (G37 r38 9) → (inL (G37 l1 1) → ((G37 r38 9 = G37 l1 1 → (inI (l3 + 2) ∧ (inI (l4 + 1) ∧ J 0 [l1, l2, l3 + 2, l4 + 1] G37 Q))) ∧ (¬ (G37 r38 9 = G37 l1 1) → PX4_within_123 J l1 l2 l3 l4 r38 G37 Q)))))))))))) ∧ (¬ (l4 < G (l1 + 2) 1) → PX4_within_144 J l1 l2 l3 0 G Q))))))
set_option maxRecDepth 20000 in
theorem TX4_within_78 {j : Nat → rx_K} {J : Nat → List Int → gS → (Int → gS → Prop) → Prop} {l1 : Int} {l2 : Int} {l3 : Int} {l4 : Int} {l5 : Nat} {G : gS} {Q : Int → gS → Prop} (hl2 : inI l2) (hl3 : inI l3) (hl4 : inI l4) (hl5 : l5 % 8 ≠ 1) (hj0 : ∀ (l1 : Int) (l2 : Int) (l3 : Int) (l4 : Int) (l5 : Nat) (G : gS), (inI l2) → (inI l3) → (inI l4) → (l5 % 8 ≠ 1) → J 0 [l1, l2, l3, l4] G Q → Tg W0 (j 0) [rf (814), rf (l1), cI (l2), cI (l3), cI (l4), l5] [] G (fun r G => ∃ v, r = cI v ∧ (0 ≤ v ∧ v ≤ 1) ∧ Q v G)) (hj1 : ∀ (l1 : Int) (l2 : Int) (l3 : Int) (l4 : Int) (l5 : Nat) (G : gS), (inI l2) → (inI l3) → (inI l4) → (l5 % 8 ≠ 1) → J 1 [l1, l2, l3, l4] G Q → Tg W0 (j 1) [rf (814), rf (l1), cI (l2), cI (l3), cI (l4), l5] [] G (fun r G => ∃ v, r = cI v ∧ (0 ≤ v ∧ v ≤ 1) ∧ Q v G)) (h : PX4_within_78 J l1 l2 l3 l4 G Q) : Tg W0 (vX4_within_78 j) [rf (814), rf (l1), cI (l2), cI (l3), cI (l4), l5] [] G (fun r G => ∃ v, r = cI v ∧ (0 ≤ v ∧ v ≤ 1) ∧ Q v G) := by
  unfold PX4_within_78 at h
  unfold vX4_within_78
  refine g_ld (v := cI _) rfl (is_I _) ?_
  refine g_ld (v := rf _) rfl (is_R _) ?_
  obtain ⟨q27, h⟩ := h
  refine g_getF q27 (ff10_11 q27).1 rfl (Nat.le_of_ble_eq_true rfl) (Nat.le_of_ble_eq_true rfl) ?_
  refine g_const (v := cI (1)) rfl ?_
  obtain ⟨q28, q29, h⟩ := h
  refine g_aldI (ff10_11 q27).2 q28 q29 rfl fun i30 => ?_
  replace h := h i30
  refine g_lt2 hl4 i30 (fun b31 => ?_) (fun b31 => ?_)
  · replace h := h.1 b31
    unfold vX4_within_89
    refine g_ld (v := rf _) rfl (is_R _) ?_
    refine g_getR (kz := 1) (c := 1) oC4 rfl (Nat.le_of_ble_eq_true rfl) rfl (by decide) fun i32 => ?_
    replace h := h i32
    refine g_ld (v := rf _) rfl (is_R _) ?_
    refine g_const (v := cI (1)) rfl ?_
    refine g_ld (v := cI _) rfl (is_I _) ?_
    refine g_callV (As := [_, _]) (ci := 10) q27 (fun _ => rfl) ?_
    refine g_go1 (by simp only [cs_c, cs_0, ct_I, ct_L, ct_R]; exact Nat.le_of_ble_eq_true rfl) (Tn_w (TX10_listedAt ⟨by omega, by omega⟩ hl4 h) fun _ G33 ⟨r34, e, i35, h⟩ => ?_)
    subst e
    refine ⟨n7_L _, ?_⟩
    replace h := h i35
    obtain ⟨q36, h⟩ := h
    refine g_callV (As := [_]) (ci := 1) q36 (fun _ => rfl) ?_
    refine g_go1 (Nat.le_of_ble_eq_true rfl) (Tn_w (TX1_named i35 h) fun _ G37 ⟨r38, e, h⟩ => ?_)
    subst e
    refine ⟨n7_R _, ?_⟩
    refine g_st (lv' := [_, _, _, _, _, _]) (is_R _) (Nat.le_of_ble_eq_true rfl) (Or.inr (n1_I _)) rfl ?_
    refine g_ld (v := rf _) rfl (is_R _) ?_
    refine g_nul (fun b40 => ?_) (fun b40 => ?_)
    · replace h := h.1 b40
      exact TX4_within_123 hl2 hl3 hl4 hj0 hj1 h
    · replace h := h.2 b40
      unfold vX4_within_110
      refine g_ld (v := rf _) rfl (is_R _) ?_
      obtain ⟨q41, h⟩ := h
      refine g_getL (kz := 9) q41 rfl (Nat.le_of_ble_eq_true rfl) rfl fun i42 => ?_
      replace h := h i42
      refine g_ld (v := rf _) rfl (is_R _) ?_
      refine g_getL (kz := 1) q27 rfl (Nat.le_of_ble_eq_true rfl) rfl fun i43 => ?_
      replace h := h i43
      refine g_leq i42 i43 (fun b44 => ?_) (fun b44 => ?_)
      · replace h := h.1 b44
        unfold vX4_within_132
        refine g_inc (lv' := [_, _, _, _, _, _]) rfl (Nat.le_of_ble_eq_true rfl) (Or.inr (n1_I _)) rfl ?_
        obtain ⟨q45, h⟩ := h
        refine g_inc (lv' := [_, _, _, _, _, _]) rfl (Nat.le_of_ble_eq_true rfl) (Or.inr (n1_I _)) rfl ?_
        obtain ⟨q46, h⟩ := h
        exact hj0 _ _ _ _ _ _ hl2 q45 q46 (n1_R _) h
      · replace h := h.2 b44
        exact TX4_within_123 hl2 hl3 hl4 hj0 hj1 h
  · replace h := h.2 b31
    unfold vX4_within_141
    refine g_const (v := cI (0)) rfl ?_
    refine g_st (lv' := [_, _, _, _, _, _]) (is_I _) (Nat.le_of_ble_eq_true rfl) (Or.inr (n1_I _)) rfl ?_
    exact TX4_within_144 hl2 hl3 ⟨by omega, by omega⟩ hl5 hj0 hj1 h
def PX4_within_75 (J : Nat → List Int → gS → (Int → gS → Prop) → Prop) (l1 : Int) (l2 : Int) (l3 : Int) (G : gS) (Q : Int → gS → Prop) : Prop :=
  PX4_within_78 J l1 l2 l3 0 G Q
set_option maxRecDepth 20000 in
theorem TX4_within_75 {j : Nat → rx_K} {J : Nat → List Int → gS → (Int → gS → Prop) → Prop} {l1 : Int} {l2 : Int} {l3 : Int} {l4 : Nat} {l5 : Nat} {G : gS} {Q : Int → gS → Prop} (hl2 : inI l2) (hl3 : inI l3) (hl4 : l4 % 8 ≠ 1) (hl5 : l5 % 8 ≠ 1) (hj0 : ∀ (l1 : Int) (l2 : Int) (l3 : Int) (l4 : Int) (l5 : Nat) (G : gS), (inI l2) → (inI l3) → (inI l4) → (l5 % 8 ≠ 1) → J 0 [l1, l2, l3, l4] G Q → Tg W0 (j 0) [rf (814), rf (l1), cI (l2), cI (l3), cI (l4), l5] [] G (fun r G => ∃ v, r = cI v ∧ (0 ≤ v ∧ v ≤ 1) ∧ Q v G)) (hj1 : ∀ (l1 : Int) (l2 : Int) (l3 : Int) (l4 : Int) (l5 : Nat) (G : gS), (inI l2) → (inI l3) → (inI l4) → (l5 % 8 ≠ 1) → J 1 [l1, l2, l3, l4] G Q → Tg W0 (j 1) [rf (814), rf (l1), cI (l2), cI (l3), cI (l4), l5] [] G (fun r G => ∃ v, r = cI v ∧ (0 ≤ v ∧ v ≤ 1) ∧ Q v G)) (h : PX4_within_75 J l1 l2 l3 G Q) : Tg W0 (vX4_within_75 j) [rf (814), rf (l1), cI (l2), cI (l3), l4, l5] [] G (fun r G => ∃ v, r = cI v ∧ (0 ≤ v ∧ v ≤ 1) ∧ Q v G) := by
  unfold PX4_within_75 at h
  unfold vX4_within_75
  refine g_const (v := cI (0)) rfl ?_
  refine g_st (lv' := [_, _, _, _, _, _]) (is_I _) (Nat.le_of_ble_eq_true rfl) (Or.inr (n1_I _)) rfl ?_
  exact TX4_within_78 hl2 hl3 ⟨by omega, by omega⟩ hl5 hj0 hj1 h
def PX4_within_63 (J : Nat → List Int → gS → (Int → gS → Prop) → Prop) (l1 : Int) (l2 : Int) (l3 : Int) (l4 : Int) (G : gS) (Q : Int → gS → Prop) : Prop :=
  (inI (l3 + 1) ∧ PX4_fail 5 (l3 + 1) G (fun r25 G24 => (0 ≤ r25 ∧ r25 ≤ 1) → Q (r25) G24))
set_option maxRecDepth 20000 in
theorem TX4_within_63 {j : Nat → rx_K} {J : Nat → List Int → gS → (Int → gS → Prop) → Prop} {l1 : Int} {l2 : Int} {l3 : Int} {l4 : Int} {l5 : Nat} {G : gS} {Q : Int → gS → Prop} (hl2 : inI l2) (hl3 : inI l3) (hl5 : l5 % 8 ≠ 1) (hj0 : ∀ (l1 : Int) (l2 : Int) (l3 : Int) (l4 : Int) (l5 : Nat) (G : gS), (inI l2) → (inI l3) → (inI l4) → (l5 % 8 ≠ 1) → J 0 [l1, l2, l3, l4] G Q → Tg W0 (j 0) [rf (814), rf (l1), cI (l2), cI (l3), cI (l4), l5] [] G (fun r G => ∃ v, r = cI v ∧ (0 ≤ v ∧ v ≤ 1) ∧ Q v G)) (hj1 : ∀ (l1 : Int) (l2 : Int) (l3 : Int) (l4 : Int) (l5 : Nat) (G : gS), (inI l2) → (inI l3) → (inI l4) → (l5 % 8 ≠ 1) → J 1 [l1, l2, l3, l4] G Q → Tg W0 (j 1) [rf (814), rf (l1), cI (l2), cI (l3), cI (l4), l5] [] G (fun r G => ∃ v, r = cI v ∧ (0 ≤ v ∧ v ≤ 1) ∧ Q v G)) (h : PX4_within_63 J l1 l2 l3 l4 G Q) : Tg W0 (vX4_within_63 j) [rf (814), rf (l1), cI (l2), cI (l3), rf (l4), l5] [] G (fun r G => ∃ v, r = cI v ∧ (0 ≤ v ∧ v ≤ 1) ∧ Q v G) := by
  unfold PX4_within_63 at h
  unfold vX4_within_63
  refine g_ld (v := rf _) rfl (is_R _) ?_
  refine g_const (v := cI (5)) rfl ?_
  refine g_ld (v := cI _) rfl (is_I _) ?_
  refine g_const (v := cI (1)) rfl ?_
  refine g_add ?_
  obtain ⟨q23, h⟩ := h
  refine g_callV (As := [_, _]) (ci := 4) oC4 (fun _ => rfl) ?_
  refine g_go1 (Nat.le_of_ble_eq_true rfl) (Tn_w (TX4_fail ⟨by omega, by omega⟩ q23 h) fun _ G24 ⟨r25, e, i26, h⟩ => ?_)
  subst e
  refine ⟨n7_I _, ?_⟩
  replace h := h i26
  exact g_ret1 (is_Z i26) ⟨_, rfl, i26, h⟩
def PX4_within_0 (J : Nat → List Int → gS → (Int → gS → Prop) → Prop) (a1 : Int) (a2 : Int) (G : gS) (Q : Int → gS → Prop) : Prop :=
  (isO W0 10 (a1) ∧ (inL (G a1 9) → ((G a1 9 = -4 → PX4_within_75 J a1 a2 a2 G Q) ∧ (¬ (G a1 9 = -4) → ((G 814 1 = -1 ∨ isO W0 1 (G 814 1)) → (inL (G a1 9) → (isO W0 1 (G 814 1) ∧ PX1_named (G 814 1) (G a1 9) G (fun r8 G7 => ((r8 < 0 → PX4_within_63 J a1 a2 a2 r8 G7 Q) ∧ (0 ≤ r8 → (isO W0 10 (r8) ∧ (inL (G7 r8 1) → (inL (lush (G7 r8 1) 59) → (inL (G7 a1 1) → (inL (lush (G7 a1 1) 59) → ((lush (G7 r8 1) 59 = lush (G7 a1 1) 59 → (inL (G7 a1 1) → PX10_has r8 1 (G7 a1 1) G7 (fun r19 G18 => (0 ≤ r19 ∧ r19 ≤ 1) → ((r19 = 0 → PX4_within_63 J a1 a2 a2 r8 G18 Q) ∧ (¬ (r19 = 0) → (inI (a2 + 2) ∧ PX4_within_75 J a1 a2 (a2 + 2) G18 Q)))))) ∧ (¬ (lush (G7 r8 1) 59 = lush (G7 a1 1) 59) → PX4_within_63 J a1 a2 a2 r8 G7 Q)))))))))))))))))
set_option maxRecDepth 20000 in
theorem TX4_within_0 {j : Nat → rx_K} {J : Nat → List Int → gS → (Int → gS → Prop) → Prop} {a1 : Int} {a2 : Int} {G : gS} {Q : Int → gS → Prop} (ha2 : inI a2) (hj0 : ∀ (l1 : Int) (l2 : Int) (l3 : Int) (l4 : Int) (l5 : Nat) (G : gS), (inI l2) → (inI l3) → (inI l4) → (l5 % 8 ≠ 1) → J 0 [l1, l2, l3, l4] G Q → Tg W0 (j 0) [rf (814), rf (l1), cI (l2), cI (l3), cI (l4), l5] [] G (fun r G => ∃ v, r = cI v ∧ (0 ≤ v ∧ v ≤ 1) ∧ Q v G)) (hj1 : ∀ (l1 : Int) (l2 : Int) (l3 : Int) (l4 : Int) (l5 : Nat) (G : gS), (inI l2) → (inI l3) → (inI l4) → (l5 % 8 ≠ 1) → J 1 [l1, l2, l3, l4] G Q → Tg W0 (j 1) [rf (814), rf (l1), cI (l2), cI (l3), cI (l4), l5] [] G (fun r G => ∃ v, r = cI v ∧ (0 ≤ v ∧ v ≤ 1) ∧ Q v G)) (h : PX4_within_0 J a1 a2 G Q) : Tg W0 (vX4_within_0 j) [rf (814), rf (a1), cI (a2), 7, 7, 7] [] G (fun r G => ∃ v, r = cI v ∧ (0 ≤ v ∧ v ≤ 1) ∧ Q v G) := by
  unfold PX4_within_0 at h
  unfold vX4_within_0
  refine g_ld (v := cI _) rfl (is_I _) ?_
  refine g_st (lv' := [_, _, _, _, _, _]) (is_I _) (Nat.le_of_ble_eq_true rfl) (Or.inr (n1_I _)) rfl ?_
  refine g_ld (v := rf _) rfl (is_R _) ?_
  obtain ⟨q1, h⟩ := h
  refine g_getL (kz := 9) q1 rfl (Nat.le_of_ble_eq_true rfl) rfl fun i2 => ?_
  replace h := h i2
  refine g_const (v := cL (-4)) rfl ?_
  refine g_leq i2 ⟨by omega, by omega⟩ (fun b3 => ?_) (fun b3 => ?_)
  · replace h := h.1 b3
    exact TX4_within_75 ha2 ha2 (show 7 % 8 ≠ 1 by decide) (show 7 % 8 ≠ 1 by decide) hj0 hj1 h
  · replace h := h.2 b3
    unfold vX4_within_13
    refine g_ld (v := rf _) rfl (is_R _) ?_
    refine g_getR (kz := 1) (c := 1) oC4 rfl (Nat.le_of_ble_eq_true rfl) rfl (by decide) fun i4 => ?_
    replace h := h i4
    refine g_ld (v := rf _) rfl (is_R _) ?_
    refine g_getL (kz := 9) q1 rfl (Nat.le_of_ble_eq_true rfl) rfl fun i5 => ?_
    replace h := h i5
    obtain ⟨q6, h⟩ := h
    refine g_callV (As := [_]) (ci := 1) q6 (fun _ => rfl) ?_
    refine g_go1 (Nat.le_of_ble_eq_true rfl) (Tn_w (TX1_named i5 h) fun _ G7 ⟨r8, e, h⟩ => ?_)
    subst e
    refine ⟨n7_R _, ?_⟩
    refine g_st (lv' := [_, _, _, _, _, _]) (is_R _) (Nat.le_of_ble_eq_true rfl) (Or.inr (n1_I _)) rfl ?_
    refine g_ld (v := rf _) rfl (is_R _) ?_
    refine g_nul (fun b10 => ?_) (fun b10 => ?_)
    · replace h := h.1 b10
      exact TX4_within_63 ha2 ha2 (show 7 % 8 ≠ 1 by decide) hj0 hj1 h
    · replace h := h.2 b10
      unfold vX4_within_31
      refine g_ld (v := rf _) rfl (is_R _) ?_
      obtain ⟨q11, h⟩ := h
      refine g_getL (kz := 1) q11 rfl (Nat.le_of_ble_eq_true rfl) rfl fun i12 => ?_
      replace h := h i12
      refine g_const (v := cI (59)) rfl ?_
      refine g_lush fun i13 => ?_
      replace h := h i13
      refine g_ld (v := rf _) rfl (is_R _) ?_
      refine g_getL (kz := 1) q1 rfl (Nat.le_of_ble_eq_true rfl) rfl fun i14 => ?_
      replace h := h i14
      refine g_const (v := cI (59)) rfl ?_
      refine g_lush fun i15 => ?_
      replace h := h i15
      refine g_leq i13 i15 (fun b16 => ?_) (fun b16 => ?_)
      · replace h := h.1 b16
        unfold vX4_within_50
        refine g_ld (v := rf _) rfl (is_R _) ?_
        refine g_const (v := cI (1)) rfl ?_
        refine g_ld (v := rf _) rfl (is_R _) ?_
        refine g_getL (kz := 1) q1 rfl (Nat.le_of_ble_eq_true rfl) rfl fun i17 => ?_
        replace h := h i17
        refine g_callV (As := [_, _]) (ci := 10) q11 (fun _ => rfl) ?_
        refine g_go1 (Nat.le_of_ble_eq_true rfl) (Tn_w (TX10_has ⟨by omega, by omega⟩ i17 h) fun _ G18 ⟨r19, e, i20, h⟩ => ?_)
        subst e
        refine ⟨n7_I _, ?_⟩
        replace h := h i20
        refine g_eq1 ⟨by omega, by omega⟩ (fun b21 => ?_) (fun b21 => ?_)
        · replace h := h.1 b21
          exact TX4_within_63 ha2 ha2 (show 7 % 8 ≠ 1 by decide) hj0 hj1 h
        · replace h := h.2 b21
          unfold vX4_within_72
          refine g_inc (lv' := [_, _, _, _, _, _]) rfl (Nat.le_of_ble_eq_true rfl) (Or.inr (n1_I _)) rfl ?_
          obtain ⟨q22, h⟩ := h
          exact TX4_within_75 ha2 q22 (n1_R _) (show 7 % 8 ≠ 1 by decide) hj0 hj1 h
      · replace h := h.2 b16
        exact TX4_within_63 ha2 ha2 (show 7 % 8 ≠ 1 by decide) hj0 hj1 h
def PX4_within_J : Nat → Nat → List Int → gS → (Int → gS → Prop) → Prop
  | 0, _, _, _, _ => False
  | f + 1, h, L, G, Q => match h, L with
    | 0, [l1, l2, l3, l4] => PX4_within_78 (PX4_within_J f) l1 l2 l3 l4 G Q
    | 1, [l1, l2, l3, l4] => PX4_within_144 (PX4_within_J f) l1 l2 l3 l4 G Q
    | _, _ => False
theorem TX4_within_J {Q : Int → gS → Prop} : ∀ f N : Nat, f ≤ N → (∀ (l1 : Int) (l2 : Int) (l3 : Int) (l4 : Int) (l5 : Nat) (G : gS), (inI l2) → (inI l3) → (inI l4) → (l5 % 8 ≠ 1) → (PX4_within_J f) 0 [l1, l2, l3, l4] G Q → Tg W0 (rx_J vhX4_within N 0) [rf (814), rf (l1), cI (l2), cI (l3), cI (l4), l5] [] G (fun r G => ∃ v, r = cI v ∧ (0 ≤ v ∧ v ≤ 1) ∧ Q v G)) ∧ (∀ (l1 : Int) (l2 : Int) (l3 : Int) (l4 : Int) (l5 : Nat) (G : gS), (inI l2) → (inI l3) → (inI l4) → (l5 % 8 ≠ 1) → (PX4_within_J f) 1 [l1, l2, l3, l4] G Q → Tg W0 (rx_J vhX4_within N 1) [rf (814), rf (l1), cI (l2), cI (l3), cI (l4), l5] [] G (fun r G => ∃ v, r = cI v ∧ (0 ≤ v ∧ v ≤ 1) ∧ Q v G)) := by
  intro f
  induction f with
  | zero => exact fun N _ => ⟨fun _ _ _ _ _ _ _ _ _ _ h => h.elim, fun _ _ _ _ _ _ _ _ _ _ h => h.elim⟩
  | succ f ih =>
    intro N hN
    obtain ⟨M, rfl⟩ : ∃ M, N = M + 1 := ⟨N - 1, by omega⟩
    have ih := ih M (by omega)
    exact ⟨fun _ _ _ _ _ _ hl2 hl3 hl4 hl5 h => show Tg W0 (vX4_within_78 (rx_J vhX4_within M)) _ _ _ _ from TX4_within_78 hl2 hl3 hl4 hl5 ih.1 ih.2 h, fun _ _ _ _ _ _ hl2 hl3 hl4 hl5 h => show Tg W0 (vX4_within_144 (rx_J vhX4_within M)) _ _ _ _ from TX4_within_144 hl2 hl3 hl4 hl5 ih.1 ih.2 h⟩
def PX4_within (a1 : Int) (a2 : Int) (G : gS) (Q : Int → gS → Prop) : Prop := ∃ f : Nat, f ≤ 4000000000 ∧ PX4_within_0 (PX4_within_J f) a1 a2 G Q
theorem TX4_within {a1 : Int} {a2 : Int} {G : gS} {Q : Int → gS → Prop} (ha2 : inI a2) (h : PX4_within a1 a2 G Q) : Tn W0 FX4_within [rf (814), rf (a1), cI (a2)] G (fun r G => ∃ v, r = cI v ∧ (0 ≤ v ∧ v ≤ 1) ∧ Q v G) := by
  obtain ⟨f, hf, h⟩ := h
  have hJ := TX4_within_J (Q := Q) f 4000000000 hf
  unfold FX4_within
  refine g_ent (lv' := [rf (814), rf (a1), cI (a2), 7, 7, 7]) (flR (flR (flI fl0))) (Nat.le_of_ble_eq_true rfl) rfl ?_
  exact TX4_within_0 ha2 hJ.1 hJ.2 h
end DE

section DE
def PX12_looked_28 (l1 : Int) (s0 : Int) (G : gS) (Q : Int → gS → Prop) : Prop :=
  Q (s0) G
set_option maxRecDepth 20000 in
theorem TX12_looked_28 {l1 : Int} {s0 : Int} {G : gS} {Q : Int → gS → Prop} (hl1 : inI l1) (hs0 : inI s0) (h : PX12_looked_28 l1 s0 G Q) : Tg W0 vX12_looked_28 [rf (0), cI (l1)] [cI (s0)] G (fun r G => ∃ v, r = cI v ∧ inI v ∧ Q v G) := by
  unfold PX12_looked_28 at h
  unfold vX12_looked_28
  exact g_ret1 (is_I _) ⟨_, rfl, hs0, h⟩
def PX12_looked_15 (l1 : Int) (G : gS) (Q : Int → gS → Prop) : Prop :=
  PX12_looked_28 l1 (-1) G Q
set_option maxRecDepth 20000 in
theorem TX12_looked_15 {l1 : Int} {G : gS} {Q : Int → gS → Prop} (hl1 : inI l1) (h : PX12_looked_15 l1 G Q) : Tg W0 vX12_looked_15 [rf (0), cI (l1)] [] G (fun r G => ∃ v, r = cI v ∧ inI v ∧ Q v G) := by
  unfold PX12_looked_15 at h
  unfold vX12_looked_15
  refine g_const (v := cI (-1)) rfl ?_
  exact TX12_looked_28 hl1 ⟨by omega, by omega⟩ h
def PX12_looked_0 (a1 : Int) (G : gS) (Q : Int → gS → Prop) : Prop :=
  ((a1 < 0 → PX12_looked_15 a1 G Q) ∧ (¬ (a1 < 0) → (isO W0 5 (907) ∧ (inI (G 907 16) → ((a1 < G 907 16 → (isO W0 5 (907) ∧ ((0 : Int) ≤ a1 ∧ ((a1 : Int) < 130 ∧ (inI (G (907 + 9) a1) → PX12_looked_28 a1 (G (907 + 9) a1) G Q))))) ∧ (¬ (a1 < G 907 16) → PX12_looked_15 a1 G Q))))))
set_option maxRecDepth 20000 in
theorem TX12_looked_0 {a1 : Int} {G : gS} {Q : Int → gS → Prop} (ha1 : inI a1) (h : PX12_looked_0 a1 G Q) : Tg W0 vX12_looked_0 [rf (0), cI (a1)] [] G (fun r G => ∃ v, r = cI v ∧ inI v ∧ Q v G) := by
  unfold PX12_looked_0 at h
  unfold vX12_looked_0
  refine g_ld (v := cI _) rfl (is_I _) ?_
  refine g_lt1 ha1 (fun b1 => ?_) (fun b1 => ?_)
  · replace h := h.1 b1
    exact TX12_looked_15 ha1 h
  · replace h := h.2 b1
    unfold vX12_looked_4
    refine g_ld (v := cI _) rfl (is_I _) ?_
    refine g_ld (v := rf _) rfl (is_R _) ?_
    refine g_getF (v := 907) oC12 (hC12_15) rfl (Nat.le_of_ble_eq_true rfl) (Nat.le_of_ble_eq_true rfl) ?_
    obtain ⟨q2, h⟩ := h
    refine g_getI (kz := 16) q2 rfl (Nat.le_of_ble_eq_true rfl) rfl fun i3 => ?_
    replace h := h i3
    refine g_lt2 ha1 i3 (fun b4 => ?_) (fun b4 => ?_)
    · replace h := h.1 b4
      unfold vX12_looked_19
      refine g_ld (v := rf _) rfl (is_R _) ?_
      refine g_getF (v := 907) oC12 (hC12_15) rfl (Nat.le_of_ble_eq_true rfl) (Nat.le_of_ble_eq_true rfl) ?_
      obtain ⟨q5, h⟩ := h
      refine g_getF q5 (ff5_15 q5).1 rfl (Nat.le_of_ble_eq_true rfl) (Nat.le_of_ble_eq_true rfl) ?_
      refine g_ld (v := cI _) rfl (is_I _) ?_
      obtain ⟨q6, q7, h⟩ := h
      refine g_aldI (ff5_15 q5).2 q6 q7 rfl fun i8 => ?_
      replace h := h i8
      exact TX12_looked_28 ha1 i8 h
    · replace h := h.2 b4
      exact TX12_looked_15 ha1 h
abbrev PX12_looked (a1 : Int) (G : gS) (Q : Int → gS → Prop) : Prop := PX12_looked_0 a1 G Q
theorem TX12_looked {a1 : Int} {G : gS} {Q : Int → gS → Prop} (ha1 : inI a1) (h : PX12_looked a1 G Q) : Tn W0 FX12_looked [rf (0), cI (a1)] G (fun r G => ∃ v, r = cI v ∧ inI v ∧ Q v G) := by
  unfold FX12_looked
  refine g_ent (lv' := [rf (0), cI (a1)]) (flR (flI fl0)) (Nat.le_of_ble_eq_true rfl) rfl ?_
  exact TX12_looked_0 ha1 h
def PX12_list_66 (l1 : Int) (l2 : Int) (l3 : Int) (G : gS) (Q : Int → gS → Prop) : Prop :=
  Q 0 G
set_option maxRecDepth 20000 in
theorem TX12_list_66 {l1 : Int} {l2 : Int} {l3 : Int} {G : gS} {Q : Int → gS → Prop} (hl1 : inI l1) (hl2 : inI l2) (hl3 : inI l3) (h : PX12_list_66 l1 l2 l3 G Q) : Tg W0 vX12_list_66 [rf (0), cI (l1), cI (l2), cI (l3)] [] G (fun r G => r = 7 ∧ Q 0 G) := by
  unfold PX12_list_66 at h
  unfold vX12_list_66
  exact g_ret0 ⟨rfl, h⟩
def PX12_list_0 (a1 : Int) (a2 : Int) (a3 : Int) (G : gS) (Q : Int → gS → Prop) : Prop :=
  (inI (G 0 18) → (inI ((3 * (G 0 18)) + 2) ∧ (((3 * (G 0 18)) + 2 < 14820 → (inI (G 0 18) → ((0 : Int) ≤ 3 * (G 0 18) ∧ ((3 * (G 0 18) : Int) < 14820 ∧ (∀ G7 : gS, G7 = uG G 933 (3 * (G 0 18)) (a1) → (inI (G7 0 18) → ((0 : Int) ≤ (3 * (G7 0 18)) + 1 ∧ (((3 * (G7 0 18)) + 1 : Int) < 14820 ∧ (∀ G11 : gS, G11 = uG G7 933 ((3 * (G7 0 18)) + 1) (a2) → (inI (G11 0 18) → ((0 : Int) ≤ (3 * (G11 0 18)) + 2 ∧ (((3 * (G11 0 18)) + 2 : Int) < 14820 ∧ (∀ G15 : gS, G15 = uG G11 933 ((3 * (G11 0 18)) + 2) (a3) → (inI (G15 0 18) → (inI ((G15 0 18) + 1) ∧ (∀ G18 : gS, G18 = uG G15 0 18 ((G15 0 18) + 1) → PX12_list_66 a1 a2 a3 G18 Q)))))))))))))))) ∧ (¬ ((3 * (G 0 18)) + 2 < 14820) → PX12_list_66 a1 a2 a3 G Q))))
set_option maxRecDepth 20000 in
theorem TX12_list_0 {a1 : Int} {a2 : Int} {a3 : Int} {G : gS} {Q : Int → gS → Prop} (ha1 : inI a1) (ha2 : inI a2) (ha3 : inI a3) (h : PX12_list_0 a1 a2 a3 G Q) : Tg W0 vX12_list_0 [rf (0), cI (a1), cI (a2), cI (a3)] [] G (fun r G => r = 7 ∧ Q 0 G) := by
  unfold PX12_list_0 at h
  unfold vX12_list_0
  refine g_const (v := cI (3)) rfl ?_
  refine g_ld (v := rf _) rfl (is_R _) ?_
  refine g_getI (kz := 18) oC12 rfl (Nat.le_of_ble_eq_true rfl) rfl fun i1 => ?_
  replace h := h i1
  refine g_mul ?_
  refine g_const (v := cI (2)) rfl ?_
  refine g_add ?_
  refine g_ld (v := rf _) rfl (is_R _) ?_
  refine g_getF (v := 933) oC12 (hC12_17) rfl (Nat.le_of_ble_eq_true rfl) (Nat.le_of_ble_eq_true rfl) ?_
  refine g_alen aC933 ?_
  obtain ⟨q2, h⟩ := h
  refine g_lt2 q2 ⟨by omega, by omega⟩ (fun b3 => ?_) (fun b3 => ?_)
  · replace h := h.1 b3
    unfold vX12_list_16
    refine g_ld (v := rf _) rfl (is_R _) ?_
    refine g_getF (v := 933) oC12 (hC12_17) rfl (Nat.le_of_ble_eq_true rfl) (Nat.le_of_ble_eq_true rfl) ?_
    refine g_const (v := cI (3)) rfl ?_
    refine g_ld (v := rf _) rfl (is_R _) ?_
    refine g_getI (kz := 18) oC12 rfl (Nat.le_of_ble_eq_true rfl) rfl fun i4 => ?_
    replace h := h i4
    refine g_mul ?_
    refine g_ld (v := cI _) rfl (is_I _) ?_
    obtain ⟨q5, q6, h⟩ := h
    refine g_astI aC933 q5 q6 ha1 (nfI aC933) ?_
    replace h := h _ rfl
    refine g_ld (v := rf _) rfl (is_R _) ?_
    refine g_getF (v := 933) oC12 (hC12_17) rfl (Nat.le_of_ble_eq_true rfl) (Nat.le_of_ble_eq_true rfl) ?_
    refine g_const (v := cI (3)) rfl ?_
    refine g_ld (v := rf _) rfl (is_R _) ?_
    refine g_getI (kz := 18) oC12 rfl (Nat.le_of_ble_eq_true rfl) rfl fun i8 => ?_
    replace h := h i8
    refine g_mul ?_
    refine g_const (v := cI (1)) rfl ?_
    refine g_add ?_
    refine g_ld (v := cI _) rfl (is_I _) ?_
    obtain ⟨q9, q10, h⟩ := h
    refine g_astI aC933 q9 q10 ha2 (nfI aC933) ?_
    replace h := h _ rfl
    refine g_ld (v := rf _) rfl (is_R _) ?_
    refine g_getF (v := 933) oC12 (hC12_17) rfl (Nat.le_of_ble_eq_true rfl) (Nat.le_of_ble_eq_true rfl) ?_
    refine g_const (v := cI (3)) rfl ?_
    refine g_ld (v := rf _) rfl (is_R _) ?_
    refine g_getI (kz := 18) oC12 rfl (Nat.le_of_ble_eq_true rfl) rfl fun i12 => ?_
    replace h := h i12
    refine g_mul ?_
    unfold vX12_list_52
    refine g_const (v := cI (2)) rfl ?_
    refine g_add ?_
    refine g_ld (v := cI _) rfl (is_I _) ?_
    obtain ⟨q13, q14, h⟩ := h
    refine g_astI aC933 q13 q14 ha3 (nfI aC933) ?_
    replace h := h _ rfl
    refine g_ld (v := rf _) rfl (is_R _) ?_
    refine g_dup (ct_R _) ?_
    refine g_getI (kz := 18) oC12 rfl (Nat.le_of_ble_eq_true rfl) rfl fun i16 => ?_
    replace h := h i16
    refine g_const (v := cI (1)) rfl ?_
    refine g_add ?_
    obtain ⟨q17, h⟩ := h
    refine g_putI (kz := 18) oC12 rfl (Nat.le_of_ble_eq_true rfl) rfl q17 (zfin_no (c := 0) (j := 18) rfl) ?_
    replace h := h _ rfl
    exact TX12_list_66 ha1 ha2 ha3 h
  · replace h := h.2 b3
    exact TX12_list_66 ha1 ha2 ha3 h
abbrev PX12_list (a1 : Int) (a2 : Int) (a3 : Int) (G : gS) (Q : Int → gS → Prop) : Prop := PX12_list_0 a1 a2 a3 G Q
theorem TX12_list {a1 : Int} {a2 : Int} {a3 : Int} {G : gS} {Q : Int → gS → Prop} (ha1 : inI a1) (ha2 : inI a2) (ha3 : inI a3) (h : PX12_list a1 a2 a3 G Q) : Tn W0 FX12_list [rf (0), cI (a1), cI (a2), cI (a3)] G (fun r G => r = 7 ∧ Q 0 G) := by
  unfold FX12_list
  refine g_ent (lv' := [rf (0), cI (a1), cI (a2), cI (a3)]) (flR (flI (flI (flI fl0)))) (Nat.le_of_ble_eq_true rfl) rfl ?_
  exact TX12_list_0 ha1 ha2 ha3 h
def PX12_brokenAt_35 (l1 : Int) (l2 : Int) (s0 : Int) (G : gS) (Q : Int → gS → Prop) : Prop :=
  Q (s0) G
set_option maxRecDepth 20000 in
theorem TX12_brokenAt_35 {l1 : Int} {l2 : Int} {s0 : Int} {G : gS} {Q : Int → gS → Prop} (hl1 : inI l1) (hl2 : inI l2) (hs0 : inI s0) (h : PX12_brokenAt_35 l1 l2 s0 G Q) : Tg W0 vX12_brokenAt_35 [rf (0), cI (l1), cI (l2)] [cI (s0)] G (fun r G => ∃ v, r = cI v ∧ inI v ∧ Q v G) := by
  unfold PX12_brokenAt_35 at h
  unfold vX12_brokenAt_35
  exact g_ret1 (is_I _) ⟨_, rfl, hs0, h⟩
def PX12_brokenAt_21 (l1 : Int) (l2 : Int) (G : gS) (Q : Int → gS → Prop) : Prop :=
  PX12_brokenAt_35 l1 l2 (-1) G Q
set_option maxRecDepth 20000 in
theorem TX12_brokenAt_21 {l1 : Int} {l2 : Int} {G : gS} {Q : Int → gS → Prop} (hl1 : inI l1) (hl2 : inI l2) (h : PX12_brokenAt_21 l1 l2 G Q) : Tg W0 vX12_brokenAt_21 [rf (0), cI (l1), cI (l2)] [] G (fun r G => ∃ v, r = cI v ∧ inI v ∧ Q v G) := by
  unfold PX12_brokenAt_21 at h
  unfold vX12_brokenAt_21
  refine g_const (v := cI (-1)) rfl ?_
  exact TX12_brokenAt_35 hl1 hl2 ⟨by omega, by omega⟩ h
def PX12_brokenAt_0 (a1 : Int) (a2 : Int) (G : gS) (Q : Int → gS → Prop) : Prop :=
  ((a1 < 0 → PX12_brokenAt_21 a1 a2 G Q) ∧ (¬ (a1 < 0) → (inI (G 0 18) → ((a1 < G 0 18 → ((a2 < 0 → PX12_brokenAt_21 a1 a2 G Q) ∧ (¬ (a2 < 0) → ((2 < a2 → PX12_brokenAt_21 a1 a2 G Q) ∧ (¬ (2 < a2) → ((0 : Int) ≤ (3 * a1) + a2 ∧ (((3 * a1) + a2 : Int) < 14820 ∧ (inI (G 933 ((3 * a1) + a2)) → PX12_brokenAt_35 a1 a2 (G 933 ((3 * a1) + a2)) G Q)))))))) ∧ (¬ (a1 < G 0 18) → PX12_brokenAt_21 a1 a2 G Q)))))
set_option maxRecDepth 20000 in
theorem TX12_brokenAt_0 {a1 : Int} {a2 : Int} {G : gS} {Q : Int → gS → Prop} (ha1 : inI a1) (ha2 : inI a2) (h : PX12_brokenAt_0 a1 a2 G Q) : Tg W0 vX12_brokenAt_0 [rf (0), cI (a1), cI (a2)] [] G (fun r G => ∃ v, r = cI v ∧ inI v ∧ Q v G) := by
  unfold PX12_brokenAt_0 at h
  unfold vX12_brokenAt_0
  refine g_ld (v := cI _) rfl (is_I _) ?_
  refine g_lt1 ha1 (fun b1 => ?_) (fun b1 => ?_)
  · replace h := h.1 b1
    exact TX12_brokenAt_21 ha1 ha2 h
  · replace h := h.2 b1
    unfold vX12_brokenAt_4
    refine g_ld (v := cI _) rfl (is_I _) ?_
    refine g_ld (v := rf _) rfl (is_R _) ?_
    refine g_getI (kz := 18) oC12 rfl (Nat.le_of_ble_eq_true rfl) rfl fun i2 => ?_
    replace h := h i2
    refine g_lt2 ha1 i2 (fun b3 => ?_) (fun b3 => ?_)
    · replace h := h.1 b3
      unfold vX12_brokenAt_12
      refine g_ld (v := cI _) rfl (is_I _) ?_
      refine g_lt1 ha2 (fun b4 => ?_) (fun b4 => ?_)
      · replace h := h.1 b4
        exact TX12_brokenAt_21 ha1 ha2 h
      · replace h := h.2 b4
        unfold vX12_brokenAt_16
        refine g_ld (v := cI _) rfl (is_I _) ?_
        refine g_const (v := cI (2)) rfl ?_
        refine g_gt2 ha2 ⟨by omega, by omega⟩ (fun b5 => ?_) (fun b5 => ?_)
        · replace h := h.1 b5
          exact TX12_brokenAt_21 ha1 ha2 h
        · replace h := h.2 b5
          unfold vX12_brokenAt_25
          refine g_ld (v := rf _) rfl (is_R _) ?_
          refine g_getF (v := 933) oC12 (hC12_17) rfl (Nat.le_of_ble_eq_true rfl) (Nat.le_of_ble_eq_true rfl) ?_
          refine g_const (v := cI (3)) rfl ?_
          refine g_ld (v := cI _) rfl (is_I _) ?_
          refine g_mul ?_
          refine g_ld (v := cI _) rfl (is_I _) ?_
          refine g_add ?_
          obtain ⟨q6, q7, h⟩ := h
          refine g_aldI aC933 q6 q7 rfl fun i8 => ?_
          replace h := h i8
          exact TX12_brokenAt_35 ha1 ha2 i8 h
    · replace h := h.2 b3
      exact TX12_brokenAt_21 ha1 ha2 h
abbrev PX12_brokenAt (a1 : Int) (a2 : Int) (G : gS) (Q : Int → gS → Prop) : Prop := PX12_brokenAt_0 a1 a2 G Q
theorem TX12_brokenAt {a1 : Int} {a2 : Int} {G : gS} {Q : Int → gS → Prop} (ha1 : inI a1) (ha2 : inI a2) (h : PX12_brokenAt a1 a2 G Q) : Tn W0 FX12_brokenAt [rf (0), cI (a1), cI (a2)] G (fun r G => ∃ v, r = cI v ∧ inI v ∧ Q v G) := by
  unfold FX12_brokenAt
  refine g_ent (lv' := [rf (0), cI (a1), cI (a2)]) (flR (flI (flI fl0))) (Nat.le_of_ble_eq_true rfl) rfl ?_
  exact TX12_brokenAt_0 ha1 ha2 h
def PX12_greatest_22 (l1 : Int) (s0 : Int) (G : gS) (Q : Int → gS → Prop) : Prop :=
  Q (s0) G
set_option maxRecDepth 20000 in
theorem TX12_greatest_22 {l1 : Int} {s0 : Int} {G : gS} {Q : Int → gS → Prop} (hl1 : inI l1) (hs0 : inI s0) (h : PX12_greatest_22 l1 s0 G Q) : Tg W0 vX12_greatest_22 [rf (0), cI (l1)] [cI (s0)] G (fun r G => ∃ v, r = cI v ∧ inI v ∧ Q v G) := by
  unfold PX12_greatest_22 at h
  unfold vX12_greatest_22
  exact g_ret1 (is_I _) ⟨_, rfl, hs0, h⟩
def PX12_greatest_0 (a1 : Int) (G : gS) (Q : Int → gS → Prop) : Prop :=
  ((0 : Int) ≤ a1 ∧ ((a1 : Int) < 5 ∧ (inI (G 4 a1) → ((G 4 a1 = 0 → PX12_greatest_22 a1 (-2) G Q) ∧ (¬ (G 4 a1 = 0) → ((0 : Int) ≤ a1 ∧ ((a1 : Int) < 5 ∧ (inI (G 4 a1) → (inI ((G 4 a1) - 1) ∧ PX12_greatest_22 a1 ((G 4 a1) - 1) G Q)))))))))
set_option maxRecDepth 20000 in
theorem TX12_greatest_0 {a1 : Int} {G : gS} {Q : Int → gS → Prop} (ha1 : inI a1) (h : PX12_greatest_0 a1 G Q) : Tg W0 vX12_greatest_0 [rf (0), cI (a1)] [] G (fun r G => ∃ v, r = cI v ∧ inI v ∧ Q v G) := by
  unfold PX12_greatest_0 at h
  unfold vX12_greatest_0
  refine g_ld (v := rf _) rfl (is_R _) ?_
  refine g_getF (v := 4) oC12 (hC12_5) rfl (Nat.le_of_ble_eq_true rfl) (Nat.le_of_ble_eq_true rfl) ?_
  refine g_ld (v := cI _) rfl (is_I _) ?_
  obtain ⟨q1, q2, h⟩ := h
  refine g_aldI aC4 q1 q2 rfl fun i3 => ?_
  replace h := h i3
  refine g_eq1 i3 (fun b4 => ?_) (fun b4 => ?_)
  · replace h := h.1 b4
    unfold vX12_greatest_9
    refine g_const (v := cI (-2)) rfl ?_
    exact TX12_greatest_22 ha1 ⟨by omega, by omega⟩ h
  · replace h := h.2 b4
    unfold vX12_greatest_14
    refine g_ld (v := rf _) rfl (is_R _) ?_
    refine g_getF (v := 4) oC12 (hC12_5) rfl (Nat.le_of_ble_eq_true rfl) (Nat.le_of_ble_eq_true rfl) ?_
    refine g_ld (v := cI _) rfl (is_I _) ?_
    obtain ⟨q5, q6, h⟩ := h
    refine g_aldI aC4 q5 q6 rfl fun i7 => ?_
    replace h := h i7
    refine g_const (v := cI (1)) rfl ?_
    refine g_sub ?_
    obtain ⟨q8, h⟩ := h
    exact TX12_greatest_22 ha1 q8 h
abbrev PX12_greatest (a1 : Int) (G : gS) (Q : Int → gS → Prop) : Prop := PX12_greatest_0 a1 G Q
theorem TX12_greatest {a1 : Int} {G : gS} {Q : Int → gS → Prop} (ha1 : inI a1) (h : PX12_greatest a1 G Q) : Tn W0 FX12_greatest [rf (0), cI (a1)] G (fun r G => ∃ v, r = cI v ∧ inI v ∧ Q v G) := by
  unfold FX12_greatest
  refine g_ent (lv' := [rf (0), cI (a1)]) (flR (flI fl0)) (Nat.le_of_ble_eq_true rfl) rfl ?_
  exact TX12_greatest_0 ha1 h
def PX12_lowerTrial_2 (J : Nat → List Int → gS → (Int → gS → Prop) → Prop) (l1 : Int) (G : gS) (Q : Int → gS → Prop) : Prop :=
  ((l1 < 0 → Q 0 G) ∧ (¬ (l1 < 0) → ((0 : Int) ≤ l1 ∧ ((l1 : Int) < 5 ∧ (inI (G 6 l1) → ((0 < G 6 l1 → ((0 : Int) ≤ l1 ∧ ((l1 : Int) < 5 ∧ (inI (G 6 l1) → ((0 : Int) ≤ l1 ∧ ((l1 : Int) < 5 ∧ (inI ((G 6 l1) - 1) ∧ (∀ G12 : gS, G12 = uG G 6 l1 ((G 6 l1) - 1) → Q 0 G12)))))))) ∧ (¬ (0 < G 6 l1) → PX12_greatest l1 G (fun r14 G13 => inI r14 → ((0 : Int) ≤ l1 ∧ ((l1 : Int) < 5 ∧ (∀ G18 : gS, G18 = uG G13 6 l1 (r14) → (inI (l1 + (-1)) ∧ J 0 [l1 + (-1)] G18 Q))))))))))))
set_option maxRecDepth 20000 in
theorem TX12_lowerTrial_2 {j : Nat → rx_K} {J : Nat → List Int → gS → (Int → gS → Prop) → Prop} {l1 : Int} {G : gS} {Q : Int → gS → Prop} (hl1 : inI l1) (hj0 : ∀ (l1 : Int) (G : gS), (inI l1) → J 0 [l1] G Q → Tg W0 (j 0) [rf (0), cI (l1)] [] G (fun r G => r = 7 ∧ Q 0 G)) (h : PX12_lowerTrial_2 J l1 G Q) : Tg W0 (vX12_lowerTrial_2 j) [rf (0), cI (l1)] [] G (fun r G => r = 7 ∧ Q 0 G) := by
  unfold PX12_lowerTrial_2 at h
  unfold vX12_lowerTrial_2
  refine g_ld (v := cI _) rfl (is_I _) ?_
  refine g_lt1 hl1 (fun b1 => ?_) (fun b1 => ?_)
  · replace h := h.1 b1
    unfold vX12_lowerTrial_43
    exact g_ret0 ⟨rfl, h⟩
  · replace h := h.2 b1
    unfold vX12_lowerTrial_6
    refine g_ld (v := rf _) rfl (is_R _) ?_
    refine g_getF (v := 6) oC12 (hC12_7) rfl (Nat.le_of_ble_eq_true rfl) (Nat.le_of_ble_eq_true rfl) ?_
    refine g_ld (v := cI _) rfl (is_I _) ?_
    obtain ⟨q2, q3, h⟩ := h
    refine g_aldI aC6 q2 q3 rfl fun i4 => ?_
    replace h := h i4
    refine g_gt1 i4 (fun b5 => ?_) (fun b5 => ?_)
    · replace h := h.1 b5
      unfold vX12_lowerTrial_15
      refine g_ld (v := rf _) rfl (is_R _) ?_
      refine g_getF (v := 6) oC12 (hC12_7) rfl (Nat.le_of_ble_eq_true rfl) (Nat.le_of_ble_eq_true rfl) ?_
      refine g_ld (v := cI _) rfl (is_I _) ?_
      refine g_dup2 (ct_I _) (ct_R _) ?_
      obtain ⟨q6, q7, h⟩ := h
      refine g_aldI aC6 q6 q7 rfl fun i8 => ?_
      replace h := h i8
      refine g_const (v := cI (1)) rfl ?_
      refine g_sub ?_
      obtain ⟨q9, q10, h⟩ := h
      obtain ⟨q11, h⟩ := h
      refine g_astI aC6 q9 q10 q11 (nfI aC6) ?_
      replace h := h _ rfl
      exact g_ret0 ⟨rfl, h⟩
    · replace h := h.2 b5
      unfold vX12_lowerTrial_26
      refine g_ld (v := rf _) rfl (is_R _) ?_
      refine g_getF (v := 6) oC12 (hC12_7) rfl (Nat.le_of_ble_eq_true rfl) (Nat.le_of_ble_eq_true rfl) ?_
      refine g_ld (v := cI _) rfl (is_I _) ?_
      refine g_ld (v := rf _) rfl (is_R _) ?_
      refine g_ld (v := cI _) rfl (is_I _) ?_
      refine g_callV (As := [_]) (ci := 12) oC12 (fun _ => rfl) ?_
      refine g_go1 (by simp only [cs_c, cs_0, ct_I, ct_L, ct_R]; exact Nat.le_of_ble_eq_true rfl) (Tn_w (TX12_greatest hl1 h) fun _ G13 ⟨r14, e, i15, h⟩ => ?_)
      subst e
      refine ⟨n7_I _, ?_⟩
      replace h := h i15
      obtain ⟨q16, q17, h⟩ := h
      refine g_astI aC6 q16 q17 i15 (nfI aC6) ?_
      replace h := h _ rfl
      refine g_inc (lv' := [_, _]) rfl (Nat.le_of_ble_eq_true rfl) (Or.inr (n1_R _)) rfl ?_
      obtain ⟨q19, h⟩ := h
      exact hj0 _ _ q19 h
def PX12_lowerTrial_0 (J : Nat → List Int → gS → (Int → gS → Prop) → Prop)  (G : gS) (Q : Int → gS → Prop) : Prop :=
  PX12_lowerTrial_2 J 4 G Q
set_option maxRecDepth 20000 in
theorem TX12_lowerTrial_0 {j : Nat → rx_K} {J : Nat → List Int → gS → (Int → gS → Prop) → Prop}  {G : gS} {Q : Int → gS → Prop}  (hj0 : ∀ (l1 : Int) (G : gS), (inI l1) → J 0 [l1] G Q → Tg W0 (j 0) [rf (0), cI (l1)] [] G (fun r G => r = 7 ∧ Q 0 G)) (h : PX12_lowerTrial_0 J  G Q) : Tg W0 (vX12_lowerTrial_0 j) [rf (0), 7] [] G (fun r G => r = 7 ∧ Q 0 G) := by
  unfold PX12_lowerTrial_0 at h
  unfold vX12_lowerTrial_0
  refine g_const (v := cI (4)) rfl ?_
  refine g_st (lv' := [_, _]) (is_I _) (Nat.le_of_ble_eq_true rfl) (Or.inr (n1_R _)) rfl ?_
  exact TX12_lowerTrial_2 ⟨by omega, by omega⟩ hj0 h
def PX12_lowerTrial_J : Nat → Nat → List Int → gS → (Int → gS → Prop) → Prop
  | 0, _, _, _, _ => False
  | f + 1, h, L, G, Q => match h, L with
    | 0, [l1] => PX12_lowerTrial_2 (PX12_lowerTrial_J f) l1 G Q
    | _, _ => False
theorem TX12_lowerTrial_J {Q : Int → gS → Prop} : ∀ f N : Nat, f ≤ N → (∀ (l1 : Int) (G : gS), (inI l1) → (PX12_lowerTrial_J f) 0 [l1] G Q → Tg W0 (rx_J vhX12_lowerTrial N 0) [rf (0), cI (l1)] [] G (fun r G => r = 7 ∧ Q 0 G)) := by
  intro f
  induction f with
  | zero => exact fun N _ => fun _ _ _ h => h.elim
  | succ f ih =>
    intro N hN
    obtain ⟨M, rfl⟩ : ∃ M, N = M + 1 := ⟨N - 1, by omega⟩
    have ih := ih M (by omega)
    exact fun _ _ hl1 h => show Tg W0 (vX12_lowerTrial_2 (rx_J vhX12_lowerTrial M)) _ _ _ _ from TX12_lowerTrial_2 hl1 ih h
def PX12_lowerTrial  (G : gS) (Q : Int → gS → Prop) : Prop := ∃ f : Nat, f ≤ 4000000000 ∧ PX12_lowerTrial_0 (PX12_lowerTrial_J f)  G Q
theorem TX12_lowerTrial  {G : gS} {Q : Int → gS → Prop}  (h : PX12_lowerTrial  G Q) : Tn W0 FX12_lowerTrial [rf (0)] G (fun r G => r = 7 ∧ Q 0 G) := by
  obtain ⟨f, hf, h⟩ := h
  have hJ := TX12_lowerTrial_J (Q := Q) f 4000000000 hf
  unfold FX12_lowerTrial
  refine g_ent (lv' := [rf (0), 7]) (flR fl0) (Nat.le_of_ble_eq_true rfl) rfl ?_
  exact TX12_lowerTrial_0  hJ h
def PX12_differ_42 (l1 : Int) (l2 : Int) (l3 : Int) (l4 : Int) (l5 : Int) (s0 : Int) (G : gS) (Q : Int → gS → Prop) : Prop :=
  Q (s0) G
set_option maxRecDepth 20000 in
theorem TX12_differ_42 {l1 : Int} {l2 : Int} {l3 : Int} {l4 : Int} {l5 : Int} {s0 : Int} {G : gS} {Q : Int → gS → Prop} (hl1 : inI l1) (hl2 : inI l2) (hl3 : inI l3) (hs0 : inI s0) (h : PX12_differ_42 l1 l2 l3 l4 l5 s0 G Q) : Tg W0 vX12_differ_42 [rf (0), cI (l1), cI (l2), cI (l3), rf (l4), rf (l5)] [cI (s0)] G (fun r G => ∃ v, r = cI v ∧ inI v ∧ Q v G) := by
  unfold PX12_differ_42 at h
  unfold vX12_differ_42
  exact g_ret1 (is_I _) ⟨_, rfl, hs0, h⟩
def PX12_differ_26 (l1 : Int) (l2 : Int) (l3 : Int) (l4 : Int) (l5 : Int) (G : gS) (Q : Int → gS → Prop) : Prop :=
  PX12_differ_42 l1 l2 l3 l4 l5 (-1) G Q
set_option maxRecDepth 20000 in
theorem TX12_differ_26 {l1 : Int} {l2 : Int} {l3 : Int} {l4 : Int} {l5 : Int} {G : gS} {Q : Int → gS → Prop} (hl1 : inI l1) (hl2 : inI l2) (hl3 : inI l3) (h : PX12_differ_26 l1 l2 l3 l4 l5 G Q) : Tg W0 vX12_differ_26 [rf (0), cI (l1), cI (l2), cI (l3), rf (l4), rf (l5)] [] G (fun r G => ∃ v, r = cI v ∧ inI v ∧ Q v G) := by
  unfold PX12_differ_26 at h
  unfold vX12_differ_26
  refine g_const (v := cI (-1)) rfl ?_
  exact TX12_differ_42 hl1 hl2 hl3 ⟨by omega, by omega⟩ h
def PX12_differ_0 (a1 : Int) (a2 : Int) (a3 : Int) (G : gS) (Q : Int → gS → Prop) : Prop :=
  PX12_buildOf a1 a2 G (fun r2 G1 => PX12_buildOf a1 a3 G1 (fun r5 G4 => ((r2 < 0 → PX12_differ_26 a1 a2 a3 r2 r5 G4 Q) ∧ (0 ≤ r2 → ((r5 < 0 → PX12_differ_26 a1 a2 a3 r2 r5 G4 Q) ∧ (0 ≤ r5 → PX2_compare r2 r5 1 G4 (fun r10 G9 => inI r10 → PX12_differ_42 a1 a2 a3 r2 r5 r10 G9 Q)))))))
set_option maxRecDepth 20000 in
theorem TX12_differ_0 {a1 : Int} {a2 : Int} {a3 : Int} {G : gS} {Q : Int → gS → Prop} (ha1 : inI a1) (ha2 : inI a2) (ha3 : inI a3) (h : PX12_differ_0 a1 a2 a3 G Q) : Tg W0 vX12_differ_0 [rf (0), cI (a1), cI (a2), cI (a3), 7, 7] [] G (fun r G => ∃ v, r = cI v ∧ inI v ∧ Q v G) := by
  unfold PX12_differ_0 at h
  unfold vX12_differ_0
  refine g_ld (v := rf _) rfl (is_R _) ?_
  refine g_ld (v := cI _) rfl (is_I _) ?_
  refine g_ld (v := cI _) rfl (is_I _) ?_
  refine g_callV (As := [_, _]) (ci := 12) oC12 (fun _ => rfl) ?_
  refine g_go1 (Nat.le_of_ble_eq_true rfl) (Tn_w (TX12_buildOf ha1 ha2 h) fun _ G1 ⟨r2, e, h⟩ => ?_)
  subst e
  refine ⟨n7_R _, ?_⟩
  refine g_st (lv' := [_, _, _, _, _, _]) (is_R _) (Nat.le_of_ble_eq_true rfl) (Or.inr (n1_I _)) rfl ?_
  refine g_ld (v := rf _) rfl (is_R _) ?_
  refine g_ld (v := cI _) rfl (is_I _) ?_
  refine g_ld (v := cI _) rfl (is_I _) ?_
  refine g_callV (As := [_, _]) (ci := 12) oC12 (fun _ => rfl) ?_
  refine g_go1 (Nat.le_of_ble_eq_true rfl) (Tn_w (TX12_buildOf ha1 ha3 h) fun _ G4 ⟨r5, e, h⟩ => ?_)
  subst e
  refine ⟨n7_R _, ?_⟩
  refine g_st (lv' := [_, _, _, _, _, _]) (is_R _) (Nat.le_of_ble_eq_true rfl) (Or.inr (n1_R _)) rfl ?_
  refine g_ld (v := rf _) rfl (is_R _) ?_
  refine g_nul (fun b7 => ?_) (fun b7 => ?_)
  · replace h := h.1 b7
    exact TX12_differ_26 ha1 ha2 ha3 h
  · replace h := h.2 b7
    unfold vX12_differ_21
    refine g_ld (v := rf _) rfl (is_R _) ?_
    refine g_nul (fun b8 => ?_) (fun b8 => ?_)
    · replace h := h.1 b8
      exact TX12_differ_26 ha1 ha2 ha3 h
    · replace h := h.2 b8
      unfold vX12_differ_30
      refine g_ld (v := rf _) rfl (is_R _) ?_
      refine g_getF (v := 934) oC12 (hC12_19) rfl (Nat.le_of_ble_eq_true rfl) (Nat.le_of_ble_eq_true rfl) ?_
      refine g_ld (v := rf _) rfl (is_R _) ?_
      refine g_ld (v := rf _) rfl (is_R _) ?_
      refine g_const (v := cI (1)) rfl ?_
      refine g_callV (As := [_, _, _]) (ci := 2) oC2 (fun _ => rfl) ?_
      refine g_go1 (Nat.le_of_ble_eq_true rfl) (Tn_w (TX2_compare ⟨by omega, by omega⟩ h) fun _ G9 ⟨r10, e, i11, h⟩ => ?_)
      subst e
      refine ⟨n7_I _, ?_⟩
      replace h := h i11
      exact TX12_differ_42 ha1 ha2 ha3 i11 h
abbrev PX12_differ (a1 : Int) (a2 : Int) (a3 : Int) (G : gS) (Q : Int → gS → Prop) : Prop := PX12_differ_0 a1 a2 a3 G Q
theorem TX12_differ {a1 : Int} {a2 : Int} {a3 : Int} {G : gS} {Q : Int → gS → Prop} (ha1 : inI a1) (ha2 : inI a2) (ha3 : inI a3) (h : PX12_differ a1 a2 a3 G Q) : Tn W0 FX12_differ [rf (0), cI (a1), cI (a2), cI (a3)] G (fun r G => ∃ v, r = cI v ∧ inI v ∧ Q v G) := by
  unfold FX12_differ
  refine g_ent (lv' := [rf (0), cI (a1), cI (a2), cI (a3), 7, 7]) (flR (flI (flI (flI fl0)))) (Nat.le_of_ble_eq_true rfl) rfl ?_
  exact TX12_differ_0 ha1 ha2 ha3 h
def PX12_change_41 (l1 : Int) (l2 : Int) (s0 : Int) (G : gS) (Q : Int → gS → Prop) : Prop :=
  Q (s0) G
set_option maxRecDepth 20000 in
theorem TX12_change_41 {l1 : Int} {l2 : Int} {s0 : Int} {G : gS} {Q : Int → gS → Prop} (hl1 : inI l1) (hl2 : inI l2) (hs0 : inI s0) (h : PX12_change_41 l1 l2 s0 G Q) : Tg W0 vX12_change_41 [rf (0), cI (l1), cI (l2)] [cI (s0)] G (fun r G => ∃ v, r = cI v ∧ inI v ∧ Q v G) := by
  unfold PX12_change_41 at h
  unfold vX12_change_41
  exact g_ret1 (is_I _) ⟨_, rfl, hs0, h⟩
def PX12_change_24 (l1 : Int) (l2 : Int) (G : gS) (Q : Int → gS → Prop) : Prop :=
  PX12_change_41 l1 l2 (-1) G Q
set_option maxRecDepth 20000 in
theorem TX12_change_24 {l1 : Int} {l2 : Int} {G : gS} {Q : Int → gS → Prop} (hl1 : inI l1) (hl2 : inI l2) (h : PX12_change_24 l1 l2 G Q) : Tg W0 vX12_change_24 [rf (0), cI (l1), cI (l2)] [] G (fun r G => ∃ v, r = cI v ∧ inI v ∧ Q v G) := by
  unfold PX12_change_24 at h
  unfold vX12_change_24
  refine g_const (v := cI (-1)) rfl ?_
  exact TX12_change_41 hl1 hl2 ⟨by omega, by omega⟩ h
def PX12_change_0 (a1 : Int) (a2 : Int) (G : gS) (Q : Int → gS → Prop) : Prop :=
  ((a1 < 0 → PX12_change_24 a1 a2 G Q) ∧ (¬ (a1 < 0) → (inI (G 934 4) → ((a1 < G 934 4 → ((a2 < 0 → PX12_change_24 a1 a2 G Q) ∧ (¬ (a2 < 0) → ((a2 < 5 → ((0 : Int) ≤ (5 * a1) + a2 ∧ (((5 * a1) + a2 : Int) < 8000 ∧ (inI (G 935 ((5 * a1) + a2)) → PX12_change_41 a1 a2 (G 935 ((5 * a1) + a2)) G Q)))) ∧ (¬ (a2 < 5) → PX12_change_24 a1 a2 G Q))))) ∧ (¬ (a1 < G 934 4) → PX12_change_24 a1 a2 G Q)))))
set_option maxRecDepth 20000 in
theorem TX12_change_0 {a1 : Int} {a2 : Int} {G : gS} {Q : Int → gS → Prop} (ha1 : inI a1) (ha2 : inI a2) (h : PX12_change_0 a1 a2 G Q) : Tg W0 vX12_change_0 [rf (0), cI (a1), cI (a2)] [] G (fun r G => ∃ v, r = cI v ∧ inI v ∧ Q v G) := by
  unfold PX12_change_0 at h
  unfold vX12_change_0
  refine g_ld (v := cI _) rfl (is_I _) ?_
  refine g_lt1 ha1 (fun b1 => ?_) (fun b1 => ?_)
  · replace h := h.1 b1
    exact TX12_change_24 ha1 ha2 h
  · replace h := h.2 b1
    unfold vX12_change_4
    refine g_ld (v := cI _) rfl (is_I _) ?_
    refine g_ld (v := rf _) rfl (is_R _) ?_
    refine g_getF (v := 934) oC12 (hC12_19) rfl (Nat.le_of_ble_eq_true rfl) (Nat.le_of_ble_eq_true rfl) ?_
    refine g_getI (kz := 4) oC2 rfl (Nat.le_of_ble_eq_true rfl) rfl fun i2 => ?_
    replace h := h i2
    refine g_lt2 ha1 i2 (fun b3 => ?_) (fun b3 => ?_)
    · replace h := h.1 b3
      unfold vX12_change_15
      refine g_ld (v := cI _) rfl (is_I _) ?_
      refine g_lt1 ha2 (fun b4 => ?_) (fun b4 => ?_)
      · replace h := h.1 b4
        exact TX12_change_24 ha1 ha2 h
      · replace h := h.2 b4
        unfold vX12_change_19
        refine g_ld (v := cI _) rfl (is_I _) ?_
        refine g_const (v := cI (5)) rfl ?_
        refine g_lt2 ha2 ⟨by omega, by omega⟩ (fun b5 => ?_) (fun b5 => ?_)
        · replace h := h.1 b5
          unfold vX12_change_28
          refine g_ld (v := rf _) rfl (is_R _) ?_
          refine g_getF (v := 934) oC12 (hC12_19) rfl (Nat.le_of_ble_eq_true rfl) (Nat.le_of_ble_eq_true rfl) ?_
          refine g_getF (v := 935) oC2 (hC2_3) rfl (Nat.le_of_ble_eq_true rfl) (Nat.le_of_ble_eq_true rfl) ?_
          refine g_const (v := cI (5)) rfl ?_
          refine g_ld (v := cI _) rfl (is_I _) ?_
          refine g_mul ?_
          refine g_ld (v := cI _) rfl (is_I _) ?_
          refine g_add ?_
          obtain ⟨q6, q7, h⟩ := h
          refine g_aldI aC935 q6 q7 rfl fun i8 => ?_
          replace h := h i8
          exact TX12_change_41 ha1 ha2 i8 h
        · replace h := h.2 b5
          exact TX12_change_24 ha1 ha2 h
    · replace h := h.2 b3
      exact TX12_change_24 ha1 ha2 h
abbrev PX12_change (a1 : Int) (a2 : Int) (G : gS) (Q : Int → gS → Prop) : Prop := PX12_change_0 a1 a2 G Q
theorem TX12_change {a1 : Int} {a2 : Int} {G : gS} {Q : Int → gS → Prop} (ha1 : inI a1) (ha2 : inI a2) (h : PX12_change a1 a2 G Q) : Tn W0 FX12_change [rf (0), cI (a1), cI (a2)] G (fun r G => ∃ v, r = cI v ∧ inI v ∧ Q v G) := by
  unfold FX12_change
  refine g_ent (lv' := [rf (0), cI (a1), cI (a2)]) (flR (flI (flI fl0))) (Nat.le_of_ble_eq_true rfl) rfl ?_
  exact TX12_change_0 ha1 ha2 h
def PX12_word_26 (l1 : Int) (l2 : Int) (l3 : Int) (l4 : Int) (l5 : Int) (G : gS) (Q : Int → gS → Prop) : Prop :=
  Q (-1) G
set_option maxRecDepth 20000 in
theorem TX12_word_26 {l1 : Int} {l2 : Int} {l3 : Int} {l4 : Int} {l5 : Int} {G : gS} {Q : Int → gS → Prop} (hl1 : inI l1) (hl2 : inI l2) (hl3 : inI l3) (h : PX12_word_26 l1 l2 l3 l4 l5 G Q) : Tg W0 vX12_word_26 [rf (0), cI (l1), cI (l2), cI (l3), rf (l4), rf (l5)] [] G (fun r G => ∃ v, r = cI v ∧ inI v ∧ Q v G) := by
  unfold PX12_word_26 at h
  unfold vX12_word_26
  refine g_const (v := cI (-1)) rfl ?_
  exact g_ret1 (is_I _) ⟨_, rfl, ⟨by omega, by omega⟩, h⟩
def PX12_word_0 (a1 : Int) (a2 : Int) (a3 : Int) (G : gS) (Q : Int → gS → Prop) : Prop :=
  PX12_buildOf a1 a2 G (fun r2 G1 => PX12_buildOf a1 a3 G1 (fun r5 G4 => ((r2 < 0 → PX12_word_26 a1 a2 a3 r2 r5 G4 Q) ∧ (0 ≤ r2 → ((r5 < 0 → PX12_word_26 a1 a2 a3 r2 r5 G4 Q) ∧ (0 ≤ r5 → PX2_compare r2 r5 0 G4 (fun r10 G9 => inI r10 → (inI (G9 934 5) → Q (G9 934 5) G9))))))))
set_option maxRecDepth 20000 in
theorem TX12_word_0 {a1 : Int} {a2 : Int} {a3 : Int} {G : gS} {Q : Int → gS → Prop} (ha1 : inI a1) (ha2 : inI a2) (ha3 : inI a3) (h : PX12_word_0 a1 a2 a3 G Q) : Tg W0 vX12_word_0 [rf (0), cI (a1), cI (a2), cI (a3), 7, 7] [] G (fun r G => ∃ v, r = cI v ∧ inI v ∧ Q v G) := by
  unfold PX12_word_0 at h
  unfold vX12_word_0
  refine g_ld (v := rf _) rfl (is_R _) ?_
  refine g_ld (v := cI _) rfl (is_I _) ?_
  refine g_ld (v := cI _) rfl (is_I _) ?_
  refine g_callV (As := [_, _]) (ci := 12) oC12 (fun _ => rfl) ?_
  refine g_go1 (Nat.le_of_ble_eq_true rfl) (Tn_w (TX12_buildOf ha1 ha2 h) fun _ G1 ⟨r2, e, h⟩ => ?_)
  subst e
  refine ⟨n7_R _, ?_⟩
  refine g_st (lv' := [_, _, _, _, _, _]) (is_R _) (Nat.le_of_ble_eq_true rfl) (Or.inr (n1_I _)) rfl ?_
  refine g_ld (v := rf _) rfl (is_R _) ?_
  refine g_ld (v := cI _) rfl (is_I _) ?_
  refine g_ld (v := cI _) rfl (is_I _) ?_
  refine g_callV (As := [_, _]) (ci := 12) oC12 (fun _ => rfl) ?_
  refine g_go1 (Nat.le_of_ble_eq_true rfl) (Tn_w (TX12_buildOf ha1 ha3 h) fun _ G4 ⟨r5, e, h⟩ => ?_)
  subst e
  refine ⟨n7_R _, ?_⟩
  refine g_st (lv' := [_, _, _, _, _, _]) (is_R _) (Nat.le_of_ble_eq_true rfl) (Or.inr (n1_R _)) rfl ?_
  refine g_ld (v := rf _) rfl (is_R _) ?_
  refine g_nul (fun b7 => ?_) (fun b7 => ?_)
  · replace h := h.1 b7
    exact TX12_word_26 ha1 ha2 ha3 h
  · replace h := h.2 b7
    unfold vX12_word_21
    refine g_ld (v := rf _) rfl (is_R _) ?_
    refine g_nul (fun b8 => ?_) (fun b8 => ?_)
    · replace h := h.1 b8
      exact TX12_word_26 ha1 ha2 ha3 h
    · replace h := h.2 b8
      unfold vX12_word_28
      refine g_ld (v := rf _) rfl (is_R _) ?_
      refine g_getF (v := 934) oC12 (hC12_19) rfl (Nat.le_of_ble_eq_true rfl) (Nat.le_of_ble_eq_true rfl) ?_
      refine g_ld (v := rf _) rfl (is_R _) ?_
      refine g_ld (v := rf _) rfl (is_R _) ?_
      refine g_const (v := cI (0)) rfl ?_
      refine g_callV (As := [_, _, _]) (ci := 2) oC2 (fun _ => rfl) ?_
      refine g_go1 (Nat.le_of_ble_eq_true rfl) (Tn_w (TX2_compare ⟨by omega, by omega⟩ h) fun _ G9 ⟨r10, e, i11, h⟩ => ?_)
      subst e
      refine ⟨n7_I _, ?_⟩
      replace h := h i11
      refine g_pop (ct_I _) ?_
      refine g_ld (v := rf _) rfl (is_R _) ?_
      refine g_getF (v := 934) oC12 (hC12_19) rfl (Nat.le_of_ble_eq_true rfl) (Nat.le_of_ble_eq_true rfl) ?_
      refine g_getI (kz := 5) oC2 rfl (Nat.le_of_ble_eq_true rfl) rfl fun i12 => ?_
      replace h := h i12
      exact g_ret1 (is_I _) ⟨_, rfl, i12, h⟩
abbrev PX12_word (a1 : Int) (a2 : Int) (a3 : Int) (G : gS) (Q : Int → gS → Prop) : Prop := PX12_word_0 a1 a2 a3 G Q
theorem TX12_word {a1 : Int} {a2 : Int} {a3 : Int} {G : gS} {Q : Int → gS → Prop} (ha1 : inI a1) (ha2 : inI a2) (ha3 : inI a3) (h : PX12_word a1 a2 a3 G Q) : Tn W0 FX12_word [rf (0), cI (a1), cI (a2), cI (a3)] G (fun r G => ∃ v, r = cI v ∧ inI v ∧ Q v G) := by
  unfold FX12_word
  refine g_ent (lv' := [rf (0), cI (a1), cI (a2), cI (a3), 7, 7]) (flR (flI (flI (flI fl0)))) (Nat.le_of_ble_eq_true rfl) rfl ?_
  exact TX12_word_0 ha1 ha2 ha3 h
def PX12_healing_92 (l1 : Int) (l2 : Int) (l3 : Int) (s0 : Int) (G : gS) (Q : Int → gS → Prop) : Prop :=
  Q (s0) G
set_option maxRecDepth 20000 in
theorem TX12_healing_92 {l1 : Int} {l2 : Int} {l3 : Int} {s0 : Int} {G : gS} {Q : Int → gS → Prop}  (h : PX12_healing_92 l1 l2 l3 s0 G Q) : Tg W0 vX12_healing_92 [rf (0), rf (l1), rf (l2), rf (l3)] [rf (s0)] G (fun r G => ∃ v, r = rf v ∧ Q v G) := by
  unfold PX12_healing_92 at h
  unfold vX12_healing_92
  exact g_ret1 (is_R _) ⟨_, rfl, h⟩
def PX12_healing_91 (l1 : Int) (l2 : Int) (l3 : Int) (G : gS) (Q : Int → gS → Prop) : Prop :=
  PX12_healing_92 l1 l2 l3 (-1) G Q
set_option maxRecDepth 20000 in
theorem TX12_healing_91 {l1 : Int} {l2 : Int} {l3 : Int} {G : gS} {Q : Int → gS → Prop}  (h : PX12_healing_91 l1 l2 l3 G Q) : Tg W0 vX12_healing_91 [rf (0), rf (l1), rf (l2), rf (l3)] [] G (fun r G => ∃ v, r = rf v ∧ Q v G) := by
  unfold PX12_healing_91 at h
  unfold vX12_healing_91
  refine g_const (v := rf (-1)) rfl ?_
  exact TX12_healing_92  h
def PX12_healing_45 (l1 : Int) (l2 : Int) (l3 : Int) (G : gS) (Q : Int → gS → Prop) : Prop :=
  Q (-1) G
set_option maxRecDepth 20000 in
theorem TX12_healing_45 {l1 : Int} {l2 : Int} {l3 : Int} {G : gS} {Q : Int → gS → Prop}  (h : PX12_healing_45 l1 l2 l3 G Q) : Tg W0 vX12_healing_45 [rf (0), rf (l1), rf (l2), rf (l3)] [] G (fun r G => ∃ v, r = rf v ∧ Q v G) := by
  unfold PX12_healing_45 at h
  unfold vX12_healing_45
  refine g_const (v := rf (-1)) rfl ?_
  exact g_ret1 (is_R _) ⟨_, rfl, h⟩
def PX12_healing_0 (a1 : Int) (a2 : Int) (G : gS) (Q : Int → gS → Prop) : Prop :=
  (isO W0 10 (a1) ∧ PX10_method a1 a2 G (fun r3 G2 => ((r3 < 0 → PX10_plain a1 a2 G2 (fun r7 G6 => ((r7 < 0 → PX12_healing_45 a1 a2 r7 G6 Q) ∧ (0 ≤ r7 → (isO W0 7 (r7) ∧ ((0 ≤ G6 r7 4 ∧ G6 r7 4 ≤ 1) → ((G6 r7 4 = 0 → (inI (G6 r7 1) → ((G6 r7 1 = 0 → PX12_healing_45 a1 a2 r7 G6 Q) ∧ (¬ (G6 r7 1 = 0) → ((0 ≤ G6 r7 2 ∧ G6 r7 2 ≤ 1) → (isO W0 7 (a2) ∧ ((0 ≤ G6 a2 2 ∧ G6 a2 2 ≤ 1) → ((G6 r7 2 = G6 a2 2 → (inL (G6 r7 8) → ((G6 r7 8 = -1 → PX12_healing_91 a1 a2 r7 G6 Q) ∧ (¬ (G6 r7 8 = -1) → (inL (G6 r7 8) → ((G6 r7 8 = -3 → PX12_healing_91 a1 a2 r7 G6 Q) ∧ (¬ (G6 r7 8 = -3) → (inL (G6 r7 8) → (inL (G6 a2 8) → (isO W0 11 (864) ∧ PX11_fits 864 (G6 r7 8) (G6 a2 8) G6 (fun r27 G26 => (0 ≤ r27 ∧ r27 ≤ 1) → ((r27 = 0 → PX12_healing_91 a1 a2 r7 G26 Q) ∧ (¬ (r27 = 0) → PX12_healing_92 a1 a2 r7 r7 G26 Q))))))))))))) ∧ (¬ (G6 r7 2 = G6 a2 2) → PX12_healing_45 a1 a2 r7 G6 Q))))))))) ∧ (¬ (G6 r7 4 = 0) → PX12_healing_45 a1 a2 r7 G6 Q)))))))) ∧ (0 ≤ r3 → Q (-1) G2))))
set_option maxRecDepth 20000 in
theorem TX12_healing_0 {a1 : Int} {a2 : Int} {G : gS} {Q : Int → gS → Prop}  (h : PX12_healing_0 a1 a2 G Q) : Tg W0 vX12_healing_0 [rf (0), rf (a1), rf (a2), 7] [] G (fun r G => ∃ v, r = rf v ∧ Q v G) := by
  unfold PX12_healing_0 at h
  unfold vX12_healing_0
  refine g_ld (v := rf _) rfl (is_R _) ?_
  refine g_ld (v := rf _) rfl (is_R _) ?_
  obtain ⟨q1, h⟩ := h
  refine g_callV (As := [_]) (ci := 10) q1 (fun _ => rfl) ?_
  refine g_go1 (Nat.le_of_ble_eq_true rfl) (Tn_w (TX10_method  h) fun _ G2 ⟨r3, e, h⟩ => ?_)
  subst e
  refine ⟨n7_R _, ?_⟩
  refine g_nul (fun b5 => ?_) (fun b5 => ?_)
  · replace h := h.1 b5
    unfold vX12_healing_10
    refine g_ld (v := rf _) rfl (is_R _) ?_
    refine g_ld (v := rf _) rfl (is_R _) ?_
    refine g_callV (As := [_]) (ci := 10) q1 (fun _ => rfl) ?_
    refine g_go1 (Nat.le_of_ble_eq_true rfl) (Tn_w (TX10_plain  h) fun _ G6 ⟨r7, e, h⟩ => ?_)
    subst e
    refine ⟨n7_R _, ?_⟩
    refine g_st (lv' := [_, _, _, _]) (is_R _) (Nat.le_of_ble_eq_true rfl) (Or.inr (n1_R _)) rfl ?_
    refine g_ld (v := rf _) rfl (is_R _) ?_
    refine g_nul (fun b9 => ?_) (fun b9 => ?_)
    · replace h := h.1 b9
      exact TX12_healing_45  h
    · replace h := h.2 b9
      unfold vX12_healing_20
      refine g_ld (v := rf _) rfl (is_R _) ?_
      obtain ⟨q10, h⟩ := h
      refine g_getZ (kz := 4) q10 rfl (Nat.le_of_ble_eq_true rfl) rfl fun i11 => ?_
      replace h := h i11
      refine g_eq1 ⟨by omega, by omega⟩ (fun b12 => ?_) (fun b12 => ?_)
      · replace h := h.1 b12
        unfold vX12_healing_27
        refine g_ld (v := rf _) rfl (is_R _) ?_
        refine g_getI (kz := 1) q10 rfl (Nat.le_of_ble_eq_true rfl) rfl fun i13 => ?_
        replace h := h i13
        refine g_eq1 i13 (fun b14 => ?_) (fun b14 => ?_)
        · replace h := h.1 b14
          exact TX12_healing_45  h
        · replace h := h.2 b14
          unfold vX12_healing_34
          refine g_ld (v := rf _) rfl (is_R _) ?_
          refine g_getZ (kz := 2) q10 rfl (Nat.le_of_ble_eq_true rfl) rfl fun i15 => ?_
          replace h := h i15
          refine g_ld (v := rf _) rfl (is_R _) ?_
          obtain ⟨q16, h⟩ := h
          refine g_getZ (kz := 2) q16 rfl (Nat.le_of_ble_eq_true rfl) rfl fun i17 => ?_
          replace h := h i17
          refine g_eq2 ⟨by omega, by omega⟩ ⟨by omega, by omega⟩ (fun b18 => ?_) (fun b18 => ?_)
          · replace h := h.1 b18
            unfold vX12_healing_47
            refine g_ld (v := rf _) rfl (is_R _) ?_
            refine g_getL (kz := 8) q10 rfl (Nat.le_of_ble_eq_true rfl) rfl fun i19 => ?_
            replace h := h i19
            refine g_const (v := cL (-1)) rfl ?_
            refine g_leq i19 ⟨by omega, by omega⟩ (fun b20 => ?_) (fun b20 => ?_)
            · replace h := h.1 b20
              exact TX12_healing_91  h
            · replace h := h.2 b20
              unfold vX12_healing_58
              refine g_ld (v := rf _) rfl (is_R _) ?_
              refine g_getL (kz := 8) q10 rfl (Nat.le_of_ble_eq_true rfl) rfl fun i21 => ?_
              replace h := h i21
              refine g_const (v := cL (-3)) rfl ?_
              refine g_leq i21 ⟨by omega, by omega⟩ (fun b22 => ?_) (fun b22 => ?_)
              · replace h := h.1 b22
                exact TX12_healing_91  h
              · replace h := h.2 b22
                unfold vX12_healing_69
                refine g_ld (v := rf _) rfl (is_R _) ?_
                refine g_getF (v := 864) oC12 (hC12_14) rfl (Nat.le_of_ble_eq_true rfl) (Nat.le_of_ble_eq_true rfl) ?_
                refine g_ld (v := rf _) rfl (is_R _) ?_
                refine g_getL (kz := 8) q10 rfl (Nat.le_of_ble_eq_true rfl) rfl fun i23 => ?_
                replace h := h i23
                refine g_ld (v := rf _) rfl (is_R _) ?_
                refine g_getL (kz := 8) q16 rfl (Nat.le_of_ble_eq_true rfl) rfl fun i24 => ?_
                replace h := h i24
                obtain ⟨q25, h⟩ := h
                refine g_callV (As := [_, _]) (ci := 11) q25 (fun _ => rfl) ?_
                refine g_go1 (Nat.le_of_ble_eq_true rfl) (Tn_w (TX11_fits i23 i24 h) fun _ G26 ⟨r27, e, i28, h⟩ => ?_)
                subst e
                refine ⟨n7_I _, ?_⟩
                replace h := h i28
                refine g_eq1 ⟨by omega, by omega⟩ (fun b29 => ?_) (fun b29 => ?_)
                · replace h := h.1 b29
                  exact TX12_healing_91  h
                · replace h := h.2 b29
                  unfold vX12_healing_87
                  refine g_ld (v := rf _) rfl (is_R _) ?_
                  exact TX12_healing_92  h
          · replace h := h.2 b18
            exact TX12_healing_45  h
      · replace h := h.2 b12
        exact TX12_healing_45  h
  · replace h := h.2 b5
    unfold vX12_healing_8
    refine g_const (v := rf (-1)) rfl ?_
    exact g_ret1 (is_R _) ⟨_, rfl, h⟩
abbrev PX12_healing (a1 : Int) (a2 : Int) (G : gS) (Q : Int → gS → Prop) : Prop := PX12_healing_0 a1 a2 G Q
theorem TX12_healing {a1 : Int} {a2 : Int} {G : gS} {Q : Int → gS → Prop}  (h : PX12_healing a1 a2 G Q) : Tn W0 FX12_healing [rf (0), rf (a1), rf (a2)] G (fun r G => ∃ v, r = rf v ∧ Q v G) := by
  unfold FX12_healing
  refine g_ent (lv' := [rf (0), rf (a1), rf (a2), 7]) (flR (flR (flR fl0))) (Nat.le_of_ble_eq_true rfl) rfl ?_
  exact TX12_healing_0  h
def PX12_touch_61 (l1 : Int) (l2 : Int) (l3 : Int) (l4 : Int) (s0 : Int) (G : gS) (Q : Int → gS → Prop) : Prop :=
  Q (s0) G
set_option maxRecDepth 20000 in
theorem TX12_touch_61 {l1 : Int} {l2 : Int} {l3 : Int} {l4 : Int} {s0 : Int} {G : gS} {Q : Int → gS → Prop} (hl1 : inI l1) (hl2 : inI l2) (hl3 : inI l3) (hl4 : inI l4) (hs0 : inI s0) (h : PX12_touch_61 l1 l2 l3 l4 s0 G Q) : Tg W0 vX12_touch_61 [rf (0), cI (l1), cI (l2), cI (l3), cI (l4)] [cI (s0)] G (fun r G => ∃ v, r = cI v ∧ inI v ∧ Q v G) := by
  unfold PX12_touch_61 at h
  unfold vX12_touch_61
  exact g_ret1 (is_I _) ⟨_, rfl, hs0, h⟩
def PX12_touch_0 (a1 : Int) (a2 : Int) (a3 : Int) (G : gS) (Q : Int → gS → Prop) : Prop :=
  PX12_buildOf a1 a2 G (fun r2 G1 => PX12_hasUse r2 a3 G1 (fun r5 G4 => (0 ≤ r5 ∧ r5 ≤ 1) → ((r5 = 0 → Q (-1) G4) ∧ (¬ (r5 = 0) → PX12_whereUsed a1 a2 a3 G4 (fun r9 G8 => inI r9 → ((r9 < 0 → PX12_touch_61 a1 a2 a3 r9 (-2) G8 Q) ∧ (¬ (r9 < 0) → (isO W0 11 (821) ∧ ((0 : Int) ≤ r9 ∧ ((r9 : Int) < 64 ∧ (((G8 (821 + 1) r9 = -1 ∨ isO W0 10 (G8 (821 + 1) r9)) ∧ ∀ v, W0.2 (821 + 1) r9 = some v → G8 (821 + 1) r9 = v) → (isO W0 10 (G8 (821 + 1) r9) ∧ (inI (G8 (G8 (821 + 1) r9) 16) → (isO W0 5 (939) ∧ (inI (a3 - (G8 (G8 (821 + 1) r9) 16)) ∧ PX5_ask 939 r9 (a3 - (G8 (G8 (821 + 1) r9) 16)) G8 (fun r21 G20 => inI r21 → PX12_touch_61 a1 a2 a3 r9 r21 G20 Q))))))))))))))))
set_option maxRecDepth 20000 in
theorem TX12_touch_0 {a1 : Int} {a2 : Int} {a3 : Int} {G : gS} {Q : Int → gS → Prop} (ha1 : inI a1) (ha2 : inI a2) (ha3 : inI a3) (h : PX12_touch_0 a1 a2 a3 G Q) : Tg W0 vX12_touch_0 [rf (0), cI (a1), cI (a2), cI (a3), 7] [] G (fun r G => ∃ v, r = cI v ∧ inI v ∧ Q v G) := by
  unfold PX12_touch_0 at h
  unfold vX12_touch_0
  refine g_ld (v := rf _) rfl (is_R _) ?_
  refine g_ld (v := cI _) rfl (is_I _) ?_
  refine g_ld (v := cI _) rfl (is_I _) ?_
  refine g_callV (As := [_, _]) (ci := 12) oC12 (fun _ => rfl) ?_
  refine g_go1 (Nat.le_of_ble_eq_true rfl) (Tn_w (TX12_buildOf ha1 ha2 h) fun _ G1 ⟨r2, e, h⟩ => ?_)
  subst e
  refine ⟨n7_R _, ?_⟩
  refine g_ld (v := cI _) rfl (is_I _) ?_
  refine g_callS (As := [_, _]) (fun _ => rfl) ?_
  refine g_go1 (Nat.le_of_ble_eq_true rfl) (Tn_w (TX12_hasUse ha3 h) fun _ G4 ⟨r5, e, i6, h⟩ => ?_)
  subst e
  refine ⟨n7_I _, ?_⟩
  replace h := h i6
  refine g_eq1 ⟨by omega, by omega⟩ (fun b7 => ?_) (fun b7 => ?_)
  · replace h := h.1 b7
    unfold vX12_touch_13
    refine g_const (v := cI (-1)) rfl ?_
    exact g_ret1 (is_I _) ⟨_, rfl, ⟨by omega, by omega⟩, h⟩
  · replace h := h.2 b7
    unfold vX12_touch_15
    refine g_ld (v := rf _) rfl (is_R _) ?_
    refine g_ld (v := cI _) rfl (is_I _) ?_
    refine g_ld (v := cI _) rfl (is_I _) ?_
    refine g_ld (v := cI _) rfl (is_I _) ?_
    refine g_callV (As := [_, _, _]) (ci := 12) oC12 (fun _ => rfl) ?_
    refine g_go1 (Nat.le_of_ble_eq_true rfl) (Tn_w (TX12_whereUsed ha1 ha2 ha3 h) fun _ G8 ⟨r9, e, i10, h⟩ => ?_)
    subst e
    refine ⟨n7_I _, ?_⟩
    replace h := h i10
    refine g_st (lv' := [_, _, _, _, _]) (is_I _) (Nat.le_of_ble_eq_true rfl) (Or.inr (n1_I _)) rfl ?_
    refine g_ld (v := cI _) rfl (is_I _) ?_
    refine g_lt1 i10 (fun b11 => ?_) (fun b11 => ?_)
    · replace h := h.1 b11
      unfold vX12_touch_29
      refine g_const (v := cI (-2)) rfl ?_
      exact TX12_touch_61 ha1 ha2 ha3 i10 ⟨by omega, by omega⟩ h
    · replace h := h.2 b11
      unfold vX12_touch_34
      refine g_ld (v := rf _) rfl (is_R _) ?_
      refine g_getF (v := 938) oC12 (hC12_20) rfl (Nat.le_of_ble_eq_true rfl) (Nat.le_of_ble_eq_true rfl) ?_
      refine g_getF (v := 939) oC6 (hC6_1) rfl (Nat.le_of_ble_eq_true rfl) (Nat.le_of_ble_eq_true rfl) ?_
      refine g_ld (v := cI _) rfl (is_I _) ?_
      refine g_ld (v := cI _) rfl (is_I _) ?_
      refine g_ld (v := rf _) rfl (is_R _) ?_
      refine g_getF (v := 821) oC12 (hC12_13) rfl (Nat.le_of_ble_eq_true rfl) (Nat.le_of_ble_eq_true rfl) ?_
      obtain ⟨q12, h⟩ := h
      refine g_getF q12 (ff11_1 q12).1 rfl (Nat.le_of_ble_eq_true rfl) (Nat.le_of_ble_eq_true rfl) ?_
      refine g_ld (v := cI _) rfl (is_I _) ?_
      obtain ⟨q13, q14, h⟩ := h
      refine g_aldRF (c := 10) (ff11_1 q12).2 q13 q14 rfl (by decide) fun i15 => ?_
      replace h := h i15
      obtain ⟨q16, h⟩ := h
      refine g_getI (kz := 16) q16 rfl (Nat.le_of_ble_eq_true rfl) rfl fun i17 => ?_
      replace h := h i17
      refine g_sub ?_
      obtain ⟨q18, h⟩ := h
      obtain ⟨q19, h⟩ := h
      refine g_callV (As := [_, _]) (ci := 5) q18 (fun _ => rfl) ?_
      refine g_go1 (Nat.le_of_ble_eq_true rfl) (Tn_w (TX5_ask i10 q19 h) fun _ G20 ⟨r21, e, i22, h⟩ => ?_)
      subst e
      refine ⟨n7_I _, ?_⟩
      replace h := h i22
      exact TX12_touch_61 ha1 ha2 ha3 i10 i22 h
abbrev PX12_touch (a1 : Int) (a2 : Int) (a3 : Int) (G : gS) (Q : Int → gS → Prop) : Prop := PX12_touch_0 a1 a2 a3 G Q
theorem TX12_touch {a1 : Int} {a2 : Int} {a3 : Int} {G : gS} {Q : Int → gS → Prop} (ha1 : inI a1) (ha2 : inI a2) (ha3 : inI a3) (h : PX12_touch a1 a2 a3 G Q) : Tn W0 FX12_touch [rf (0), cI (a1), cI (a2), cI (a3)] G (fun r G => ∃ v, r = cI v ∧ inI v ∧ Q v G) := by
  unfold FX12_touch
  refine g_ent (lv' := [rf (0), cI (a1), cI (a2), cI (a3), 7]) (flR (flI (flI (flI fl0)))) (Nat.le_of_ble_eq_true rfl) rfl ?_
  exact TX12_touch_0 ha1 ha2 ha3 h
def PX12_runnable_64 (J : Nat → List Int → gS → (Int → gS → Prop) → Prop) (l0 : Int) (l1 : Int) (l3 : Int) (l4 : Int) (G : gS) (Q : Int → gS → Prop) : Prop :=
  (inI (l3 + 1) ∧ J 0 [l0, l1, l3 + 1] G Q)
set_option maxRecDepth 20000 in
theorem TX12_runnable_64 {j : Nat → rx_K} {J : Nat → List Int → gS → (Int → gS → Prop) → Prop} {l0 : Int} {l1 : Int} {l2 : Nat} {l3 : Int} {l4 : Int} {G : gS} {Q : Int → gS → Prop} (hl1 : inL l1) (hl2 : l2 % 8 ≠ 1) (hl3 : inI l3) (hj0 : ∀ (l0 : Int) (l1 : Int) (l2 : Nat) (l3 : Int) (l4 : Nat) (G : gS), (inL l1) → (l2 % 8 ≠ 1) → (inI l3) → (l4 % 8 ≠ 1) → J 0 [l0, l1, l3] G Q → Tg W0 (j 0) [rf (l0), cL (l1), l2, cI (l3), l4] [] G (fun r G => ∃ v, r = rf v ∧ Q v G)) (h : PX12_runnable_64 J l0 l1 l3 l4 G Q) : Tg W0 (vX12_runnable_64 j) [rf (l0), cL (l1), l2, cI (l3), rf (l4)] [] G (fun r G => ∃ v, r = rf v ∧ Q v G) := by
  unfold PX12_runnable_64 at h
  unfold vX12_runnable_64
  refine g_inc (lv' := [_, _, _, _, _]) rfl (Nat.le_of_ble_eq_true rfl) (Or.inr hl2) rfl ?_
  obtain ⟨q18, h⟩ := h
  exact hj0 _ _ _ _ _ _ hl1 hl2 q18 (n1_R _) h
def PX12_runnable_2 (J : Nat → List Int → gS → (Int → gS → Prop) → Prop) (l0 : Int) (l1 : Int) (l3 : Int) (G : gS) (Q : Int → gS → Prop) : Prop :=
  (isO W0 10 (l0) ∧ (inI (G l0 15) → ((l3 < G l0 15 → ((0 : Int) ≤ l3 ∧ ((l3 : Int) < 33 ∧ (((G (l0 + 4) l3 = -1 ∨ isO W0 7 (G (l0 + 4) l3)) ∧ ∀ v, W0.2 (l0 + 4) l3 = some v → G (l0 + 4) l3 = v) → (isO W0 7 (G (l0 + 4) l3) ∧ (inI (G (G (l0 + 4) l3) 0) → ((G (G (l0 + 4) l3) 0 = 1 → (inL (G (G (l0 + 4) l3) 7) → ((G (G (l0 + 4) l3) 7 = l1 → ((0 ≤ G (G (l0 + 4) l3) 2 ∧ G (G (l0 + 4) l3) 2 ≤ 1) → ((G (G (l0 + 4) l3) 2 = 0 → PX12_runnable_64 J l0 l1 l3 (G (l0 + 4) l3) G Q) ∧ (¬ (G (G (l0 + 4) l3) 2 = 0) → ((0 ≤ G (G (l0 + 4) l3) 6 ∧ G (G (l0 + 4) l3) 6 ≤ 1) → ((G (G (l0 + 4) l3) 6 = 0 → PX12_runnable_64 J l0 l1 l3 (G (l0 + 4) l3) G Q) ∧ (¬ (G (G (l0 + 4) l3) 6 = 0) → (inI (G (G (l0 + 4) l3) 9) → ((G (G (l0 + 4) l3) 9 = 0 → Q (G (l0 + 4) l3) G) ∧ (¬ (G (G (l0 + 4) l3) 9 = 0) → PX12_runnable_64 J l0 l1 l3 (G (l0 + 4) l3) G Q)))))))))) ∧ (¬ (G (G (l0 + 4) l3) 7 = l1) → PX12_runnable_64 J l0 l1 l3 (G (l0 + 4) l3) G Q)))) ∧ (¬ (G (G (l0 + 4) l3) 0 = 1) → PX12_runnable_64 J l0 l1 l3 (G (l0 + 4) l3) G Q)))))))) ∧ (¬ (l3 < G l0 15) → Q (-1) G))))
set_option maxRecDepth 20000 in
theorem TX12_runnable_2 {j : Nat → rx_K} {J : Nat → List Int → gS → (Int → gS → Prop) → Prop} {l0 : Int} {l1 : Int} {l2 : Nat} {l3 : Int} {l4 : Nat} {G : gS} {Q : Int → gS → Prop} (hl1 : inL l1) (hl2 : l2 % 8 ≠ 1) (hl3 : inI l3) (hl4 : l4 % 8 ≠ 1) (hj0 : ∀ (l0 : Int) (l1 : Int) (l2 : Nat) (l3 : Int) (l4 : Nat) (G : gS), (inL l1) → (l2 % 8 ≠ 1) → (inI l3) → (l4 % 8 ≠ 1) → J 0 [l0, l1, l3] G Q → Tg W0 (j 0) [rf (l0), cL (l1), l2, cI (l3), l4] [] G (fun r G => ∃ v, r = rf v ∧ Q v G)) (h : PX12_runnable_2 J l0 l1 l3 G Q) : Tg W0 (vX12_runnable_2 j) [rf (l0), cL (l1), l2, cI (l3), l4] [] G (fun r G => ∃ v, r = rf v ∧ Q v G) := by
  unfold PX12_runnable_2 at h
  unfold vX12_runnable_2
  refine g_ld (v := cI _) rfl (is_I _) ?_
  refine g_ld (v := rf _) rfl (is_R _) ?_
  obtain ⟨q1, h⟩ := h
  refine g_getI (kz := 15) q1 rfl (Nat.le_of_ble_eq_true rfl) rfl fun i2 => ?_
  replace h := h i2
  refine g_lt2 hl3 i2 (fun b3 => ?_) (fun b3 => ?_)
  · replace h := h.1 b3
    unfold vX12_runnable_10
    refine g_ld (v := rf _) rfl (is_R _) ?_
    refine g_getF q1 (ff10_14 q1).1 rfl (Nat.le_of_ble_eq_true rfl) (Nat.le_of_ble_eq_true rfl) ?_
    refine g_ld (v := cI _) rfl (is_I _) ?_
    obtain ⟨q4, q5, h⟩ := h
    refine g_aldRF (c := 7) (ff10_14 q1).2 q4 q5 rfl (by decide) fun i6 => ?_
    replace h := h i6
    refine g_st (lv' := [_, _, _, _, _]) (is_R _) (Nat.le_of_ble_eq_true rfl) (Or.inr (n1_I _)) rfl ?_
    refine g_ld (v := rf _) rfl (is_R _) ?_
    obtain ⟨q7, h⟩ := h
    refine g_getI (kz := 0) q7 rfl (Nat.le_of_ble_eq_true rfl) rfl fun i8 => ?_
    replace h := h i8
    refine g_const (v := cI (1)) rfl ?_
    refine g_eq2 i8 ⟨by omega, by omega⟩ (fun b9 => ?_) (fun b9 => ?_)
    · replace h := h.1 b9
      unfold vX12_runnable_27
      refine g_ld (v := rf _) rfl (is_R _) ?_
      refine g_getL (kz := 7) q7 rfl (Nat.le_of_ble_eq_true rfl) rfl fun i10 => ?_
      replace h := h i10
      refine g_ld (v := cL _) rfl (is_L _) ?_
      refine g_leq i10 hl1 (fun b11 => ?_) (fun b11 => ?_)
      · replace h := h.1 b11
        unfold vX12_runnable_37
        refine g_ld (v := rf _) rfl (is_R _) ?_
        refine g_getZ (kz := 2) q7 rfl (Nat.le_of_ble_eq_true rfl) rfl fun i12 => ?_
        replace h := h i12
        refine g_eq1 ⟨by omega, by omega⟩ (fun b13 => ?_) (fun b13 => ?_)
        · replace h := h.1 b13
          exact TX12_runnable_64 hl1 hl2 hl3 hj0 h
        · replace h := h.2 b13
          unfold vX12_runnable_45
          refine g_ld (v := rf _) rfl (is_R _) ?_
          refine g_getZ (kz := 6) q7 rfl (Nat.le_of_ble_eq_true rfl) rfl fun i14 => ?_
          replace h := h i14
          refine g_eq1 ⟨by omega, by omega⟩ (fun b15 => ?_) (fun b15 => ?_)
          · replace h := h.1 b15
            exact TX12_runnable_64 hl1 hl2 hl3 hj0 h
          · replace h := h.2 b15
            unfold vX12_runnable_53
            refine g_ld (v := rf _) rfl (is_R _) ?_
            refine g_getI (kz := 9) q7 rfl (Nat.le_of_ble_eq_true rfl) rfl fun i16 => ?_
            replace h := h i16
            refine g_eq1 i16 (fun b17 => ?_) (fun b17 => ?_)
            · replace h := h.1 b17
              unfold vX12_runnable_61
              refine g_ld (v := rf _) rfl (is_R _) ?_
              exact g_ret1 (is_R _) ⟨_, rfl, h⟩
            · replace h := h.2 b17
              exact TX12_runnable_64 hl1 hl2 hl3 hj0 h
      · replace h := h.2 b11
        exact TX12_runnable_64 hl1 hl2 hl3 hj0 h
    · replace h := h.2 b9
      exact TX12_runnable_64 hl1 hl2 hl3 hj0 h
  · replace h := h.2 b3
    unfold vX12_runnable_70
    refine g_const (v := rf (-1)) rfl ?_
    exact g_ret1 (is_R _) ⟨_, rfl, h⟩
def PX12_runnable_0 (J : Nat → List Int → gS → (Int → gS → Prop) → Prop) (a0 : Int) (a1 : Int) (G : gS) (Q : Int → gS → Prop) : Prop :=
  PX12_runnable_2 J a0 a1 0 G Q
set_option maxRecDepth 20000 in
theorem TX12_runnable_0 {j : Nat → rx_K} {J : Nat → List Int → gS → (Int → gS → Prop) → Prop} {a0 : Int} {a1 : Int} {G : gS} {Q : Int → gS → Prop} (ha1 : inL a1) (hj0 : ∀ (l0 : Int) (l1 : Int) (l2 : Nat) (l3 : Int) (l4 : Nat) (G : gS), (inL l1) → (l2 % 8 ≠ 1) → (inI l3) → (l4 % 8 ≠ 1) → J 0 [l0, l1, l3] G Q → Tg W0 (j 0) [rf (l0), cL (l1), l2, cI (l3), l4] [] G (fun r G => ∃ v, r = rf v ∧ Q v G)) (h : PX12_runnable_0 J a0 a1 G Q) : Tg W0 (vX12_runnable_0 j) [rf (a0), cL (a1), 7, 7, 7] [] G (fun r G => ∃ v, r = rf v ∧ Q v G) := by
  unfold PX12_runnable_0 at h
  unfold vX12_runnable_0
  refine g_const (v := cI (0)) rfl ?_
  refine g_st (lv' := [_, _, _, _, _]) (is_I _) (Nat.le_of_ble_eq_true rfl) (Or.inr (show 7 % 8 ≠ 1 by decide)) rfl ?_
  exact TX12_runnable_2 ha1 (show 7 % 8 ≠ 1 by decide) ⟨by omega, by omega⟩ (show 7 % 8 ≠ 1 by decide) hj0 h
def PX12_runnable_J : Nat → Nat → List Int → gS → (Int → gS → Prop) → Prop
  | 0, _, _, _, _ => False
  | f + 1, h, L, G, Q => match h, L with
    | 0, [l0, l1, l3] => PX12_runnable_2 (PX12_runnable_J f) l0 l1 l3 G Q
    | _, _ => False
theorem TX12_runnable_J {Q : Int → gS → Prop} : ∀ f N : Nat, f ≤ N → (∀ (l0 : Int) (l1 : Int) (l2 : Nat) (l3 : Int) (l4 : Nat) (G : gS), (inL l1) → (l2 % 8 ≠ 1) → (inI l3) → (l4 % 8 ≠ 1) → (PX12_runnable_J f) 0 [l0, l1, l3] G Q → Tg W0 (rx_J vhX12_runnable N 0) [rf (l0), cL (l1), l2, cI (l3), l4] [] G (fun r G => ∃ v, r = rf v ∧ Q v G)) := by
  intro f
  induction f with
  | zero => exact fun N _ => fun _ _ _ _ _ _ _ _ _ _ h => h.elim
  | succ f ih =>
    intro N hN
    obtain ⟨M, rfl⟩ : ∃ M, N = M + 1 := ⟨N - 1, by omega⟩
    have ih := ih M (by omega)
    exact fun _ _ _ _ _ _ hl1 hl2 hl3 hl4 h => show Tg W0 (vX12_runnable_2 (rx_J vhX12_runnable M)) _ _ _ _ from TX12_runnable_2 hl1 hl2 hl3 hl4 ih h
def PX12_runnable (a0 : Int) (a1 : Int) (G : gS) (Q : Int → gS → Prop) : Prop := ∃ f : Nat, f ≤ 4000000000 ∧ PX12_runnable_0 (PX12_runnable_J f) a0 a1 G Q
theorem TX12_runnable {a0 : Int} {a1 : Int} {G : gS} {Q : Int → gS → Prop} (ha1 : inL a1) (h : PX12_runnable a0 a1 G Q) : Tn W0 FX12_runnable [rf (a0), cL (a1)] G (fun r G => ∃ v, r = rf v ∧ Q v G) := by
  obtain ⟨f, hf, h⟩ := h
  have hJ := TX12_runnable_J (Q := Q) f 4000000000 hf
  unfold FX12_runnable
  refine g_ent (lv' := [rf (a0), cL (a1), 7, 7, 7]) (flR (flL fl0)) (Nat.le_of_ble_eq_true rfl) rfl ?_
  exact TX12_runnable_0 ha1 hJ h
def PX12_value_27 (s0 : Int) (G : gS) (Q : Int → gS → Prop) : Prop :=
  Q (s0) G
set_option maxRecDepth 20000 in
theorem TX12_value_27 {s0 : Int} {G : gS} {Q : Int → gS → Prop} (hs0 : inI s0) (h : PX12_value_27 s0 G Q) : Tg W0 vX12_value_27 [rf (0)] [cI (s0)] G (fun r G => ∃ v, r = cI v ∧ inI v ∧ Q v G) := by
  unfold PX12_value_27 at h
  unfold vX12_value_27
  exact g_ret1 (is_I _) ⟨_, rfl, hs0, h⟩
def PX12_value_0  (G : gS) (Q : Int → gS → Prop) : Prop :=
  (inI (G 938 18) → ((G 938 18 = 0 → (inI (G 938 19) → PX12_value_27 (G 938 19) G Q)) ∧ (¬ (G 938 18 = 0) → (inI (G 938 18) → PX12_value_27 (G 938 18) G Q))))
set_option maxRecDepth 20000 in
theorem TX12_value_0  {G : gS} {Q : Int → gS → Prop}  (h : PX12_value_0  G Q) : Tg W0 vX12_value_0 [rf (0)] [] G (fun r G => ∃ v, r = cI v ∧ inI v ∧ Q v G) := by
  unfold PX12_value_0 at h
  unfold vX12_value_0
  refine g_ld (v := rf _) rfl (is_R _) ?_
  refine g_getF (v := 938) oC12 (hC12_20) rfl (Nat.le_of_ble_eq_true rfl) (Nat.le_of_ble_eq_true rfl) ?_
  refine g_getI (kz := 18) oC6 rfl (Nat.le_of_ble_eq_true rfl) rfl fun i1 => ?_
  replace h := h i1
  refine g_eq1 i1 (fun b2 => ?_) (fun b2 => ?_)
  · replace h := h.1 b2
    unfold vX12_value_10
    refine g_ld (v := rf _) rfl (is_R _) ?_
    refine g_getF (v := 938) oC12 (hC12_20) rfl (Nat.le_of_ble_eq_true rfl) (Nat.le_of_ble_eq_true rfl) ?_
    refine g_getI (kz := 19) oC6 rfl (Nat.le_of_ble_eq_true rfl) rfl fun i3 => ?_
    replace h := h i3
    exact TX12_value_27 i3 h
  · replace h := h.2 b2
    unfold vX12_value_20
    refine g_ld (v := rf _) rfl (is_R _) ?_
    refine g_getF (v := 938) oC12 (hC12_20) rfl (Nat.le_of_ble_eq_true rfl) (Nat.le_of_ble_eq_true rfl) ?_
    refine g_getI (kz := 18) oC6 rfl (Nat.le_of_ble_eq_true rfl) rfl fun i4 => ?_
    replace h := h i4
    exact TX12_value_27 i4 h
abbrev PX12_value  (G : gS) (Q : Int → gS → Prop) : Prop := PX12_value_0  G Q
theorem TX12_value  {G : gS} {Q : Int → gS → Prop}  (h : PX12_value  G Q) : Tn W0 FX12_value [rf (0)] G (fun r G => ∃ v, r = cI v ∧ inI v ∧ Q v G) := by
  unfold FX12_value
  refine g_ent (lv' := [rf (0)]) (flR fl0) (Nat.le_of_ble_eq_true rfl) rfl ?_
  exact TX12_value_0  h
def PX12_told_0 (a1 : Int) (G : gS) (Q : Int → gS → Prop) : Prop :=
  ((a1 = 0 → (inI (G 938 14) → Q (G 938 14) G)) ∧ (a1 = 1 → (inI (G 938 16) → Q (G 938 16) G)) ∧ (a1 = 2 → (inI (G 938 10) → Q (G 938 10) G)) ∧ (a1 = 3 → (inI (G 938 12) → Q (G 938 12) G)) ∧ (a1 = 4 → (isO W0 5 (939) ∧ (inI (G 939 4) → Q (G 939 4) G))) ∧ (a1 = 5 → (isO W0 11 (821) ∧ (inI (G 821 2) → Q (G 821 2) G))) ∧ (a1 = 6 → (inI (G 0 1) → Q (G 0 1) G)) ∧ (a1 = 7 → PX12_allBuilt G (fun r12 G11 => inI r12 → Q (r12) G11)) ∧ ((a1 < 0 ∨ 8 ≤ a1) → Q (-1) G))
set_option maxRecDepth 20000 in
theorem TX12_told_0 {a1 : Int} {G : gS} {Q : Int → gS → Prop} (ha1 : inI a1) (h : PX12_told_0 a1 G Q) : Tg W0 vX12_told_0 [rf (0), cI (a1)] [] G (fun r G => ∃ v, r = cI v ∧ inI v ∧ Q v G) := by
  unfold PX12_told_0 at h
  unfold vX12_told_0
  refine g_ld (v := cI _) rfl (is_I _) ?_
  rcases (show a1 = 0 ∨ a1 = 1 ∨ a1 = 2 ∨ a1 = 3 ∨ a1 = 4 ∨ a1 = 5 ∨ a1 = 6 ∨ a1 = 7 ∨ (a1 < 0 ∨ 8 ≤ a1) by omega) with b1 | b1 | b1 | b1 | b1 | b1 | b1 | b1 | b1
  · replace h := h.1 b1
    refine g_swI (n := 0) b1 (by omega) ?_
    show Tg W0 (vX12_told_48) _ _ _ _
    unfold vX12_told_48
    refine g_ld (v := rf _) rfl (is_R _) ?_
    refine g_getF (v := 938) oC12 (hC12_20) rfl (Nat.le_of_ble_eq_true rfl) (Nat.le_of_ble_eq_true rfl) ?_
    refine g_getI (kz := 14) oC6 rfl (Nat.le_of_ble_eq_true rfl) rfl fun i2 => ?_
    replace h := h i2
    exact g_ret1 (is_I _) ⟨_, rfl, i2, h⟩
  · replace h := h.2.1 b1
    refine g_swI (n := 1) b1 (by omega) ?_
    show Tg W0 (vX12_told_56) _ _ _ _
    unfold vX12_told_56
    refine g_ld (v := rf _) rfl (is_R _) ?_
    refine g_getF (v := 938) oC12 (hC12_20) rfl (Nat.le_of_ble_eq_true rfl) (Nat.le_of_ble_eq_true rfl) ?_
    refine g_getI (kz := 16) oC6 rfl (Nat.le_of_ble_eq_true rfl) rfl fun i3 => ?_
    replace h := h i3
    exact g_ret1 (is_I _) ⟨_, rfl, i3, h⟩
  · replace h := h.2.2.1 b1
    refine g_swI (n := 2) b1 (by omega) ?_
    show Tg W0 (vX12_told_64) _ _ _ _
    unfold vX12_told_64
    refine g_ld (v := rf _) rfl (is_R _) ?_
    refine g_getF (v := 938) oC12 (hC12_20) rfl (Nat.le_of_ble_eq_true rfl) (Nat.le_of_ble_eq_true rfl) ?_
    refine g_getI (kz := 10) oC6 rfl (Nat.le_of_ble_eq_true rfl) rfl fun i4 => ?_
    replace h := h i4
    exact g_ret1 (is_I _) ⟨_, rfl, i4, h⟩
  · replace h := h.2.2.2.1 b1
    refine g_swI (n := 3) b1 (by omega) ?_
    show Tg W0 (vX12_told_72) _ _ _ _
    unfold vX12_told_72
    refine g_ld (v := rf _) rfl (is_R _) ?_
    refine g_getF (v := 938) oC12 (hC12_20) rfl (Nat.le_of_ble_eq_true rfl) (Nat.le_of_ble_eq_true rfl) ?_
    refine g_getI (kz := 12) oC6 rfl (Nat.le_of_ble_eq_true rfl) rfl fun i5 => ?_
    replace h := h i5
    exact g_ret1 (is_I _) ⟨_, rfl, i5, h⟩
  · replace h := h.2.2.2.2.1 b1
    refine g_swI (n := 4) b1 (by omega) ?_
    show Tg W0 (vX12_told_80) _ _ _ _
    unfold vX12_told_80
    refine g_ld (v := rf _) rfl (is_R _) ?_
    refine g_getF (v := 938) oC12 (hC12_20) rfl (Nat.le_of_ble_eq_true rfl) (Nat.le_of_ble_eq_true rfl) ?_
    refine g_getF (v := 939) oC6 (hC6_1) rfl (Nat.le_of_ble_eq_true rfl) (Nat.le_of_ble_eq_true rfl) ?_
    obtain ⟨q6, h⟩ := h
    refine g_getI (kz := 4) q6 rfl (Nat.le_of_ble_eq_true rfl) rfl fun i7 => ?_
    replace h := h i7
    exact g_ret1 (is_I _) ⟨_, rfl, i7, h⟩
  · replace h := h.2.2.2.2.2.1 b1
    refine g_swI (n := 5) b1 (by omega) ?_
    show Tg W0 (vX12_told_91) _ _ _ _
    unfold vX12_told_91
    refine g_ld (v := rf _) rfl (is_R _) ?_
    refine g_getF (v := 821) oC12 (hC12_13) rfl (Nat.le_of_ble_eq_true rfl) (Nat.le_of_ble_eq_true rfl) ?_
    obtain ⟨q8, h⟩ := h
    refine g_getI (kz := 2) q8 rfl (Nat.le_of_ble_eq_true rfl) rfl fun i9 => ?_
    replace h := h i9
    exact g_ret1 (is_I _) ⟨_, rfl, i9, h⟩
  · replace h := h.2.2.2.2.2.2.1 b1
    refine g_swI (n := 6) b1 (by omega) ?_
    show Tg W0 (vX12_told_99) _ _ _ _
    unfold vX12_told_99
    refine g_ld (v := rf _) rfl (is_R _) ?_
    refine g_getI (kz := 1) oC12 rfl (Nat.le_of_ble_eq_true rfl) rfl fun i10 => ?_
    replace h := h i10
    exact g_ret1 (is_I _) ⟨_, rfl, i10, h⟩
  · replace h := h.2.2.2.2.2.2.2.1 b1
    refine g_swI (n := 7) b1 (by omega) ?_
    show Tg W0 (vX12_told_104) _ _ _ _
    unfold vX12_told_104
    refine g_ld (v := rf _) rfl (is_R _) ?_
    refine g_callV (As := []) (ci := 12) oC12 (fun _ => rfl) ?_
    refine g_go1 (Nat.le_of_ble_eq_true rfl) (Tn_w (TX12_allBuilt  h) fun _ G11 ⟨r12, e, i13, h⟩ => ?_)
    subst e
    refine ⟨n7_I _, ?_⟩
    replace h := h i13
    exact g_ret1 (is_I _) ⟨_, rfl, i13, h⟩
  · replace h := h.2.2.2.2.2.2.2.2 b1
    refine g_swD (m := 8) ha1 rfl b1 (by omega) ?_
    show Tg W0 (vX12_told_109) _ _ _ _
    unfold vX12_told_109
    refine g_const (v := cI (-1)) rfl ?_
    exact g_ret1 (is_I _) ⟨_, rfl, ⟨by omega, by omega⟩, h⟩
abbrev PX12_told (a1 : Int) (G : gS) (Q : Int → gS → Prop) : Prop := PX12_told_0 a1 G Q
theorem TX12_told {a1 : Int} {G : gS} {Q : Int → gS → Prop} (ha1 : inI a1) (h : PX12_told a1 G Q) : Tn W0 FX12_told [rf (0), cI (a1)] G (fun r G => ∃ v, r = cI v ∧ inI v ∧ Q v G) := by
  unfold FX12_told
  refine g_ent (lv' := [rf (0), cI (a1)]) (flR (flI fl0)) (Nat.le_of_ble_eq_true rfl) rfl ?_
  exact TX12_told_0 ha1 h
def PX12_number_28 (l1 : Int) (s0 : Int) (G : gS) (Q : Int → gS → Prop) : Prop :=
  Q (s0) G
set_option maxRecDepth 20000 in
theorem TX12_number_28 {l1 : Int} {s0 : Int} {G : gS} {Q : Int → gS → Prop} (hl1 : inI l1) (hs0 : inI s0) (h : PX12_number_28 l1 s0 G Q) : Tg W0 vX12_number_28 [rf (0), cI (l1)] [cI (s0)] G (fun r G => ∃ v, r = cI v ∧ inI v ∧ Q v G) := by
  unfold PX12_number_28 at h
  unfold vX12_number_28
  exact g_ret1 (is_I _) ⟨_, rfl, hs0, h⟩
def PX12_number_15 (l1 : Int) (G : gS) (Q : Int → gS → Prop) : Prop :=
  PX12_number_28 l1 0 G Q
set_option maxRecDepth 20000 in
theorem TX12_number_15 {l1 : Int} {G : gS} {Q : Int → gS → Prop} (hl1 : inI l1) (h : PX12_number_15 l1 G Q) : Tg W0 vX12_number_15 [rf (0), cI (l1)] [] G (fun r G => ∃ v, r = cI v ∧ inI v ∧ Q v G) := by
  unfold PX12_number_15 at h
  unfold vX12_number_15
  refine g_const (v := cI (0)) rfl ?_
  exact TX12_number_28 hl1 ⟨by omega, by omega⟩ h
def PX12_number_0 (a1 : Int) (G : gS) (Q : Int → gS → Prop) : Prop :=
  ((a1 < 0 → PX12_number_15 a1 G Q) ∧ (¬ (a1 < 0) → (inI (G 938 16) → ((a1 < G 938 16 → ((0 : Int) ≤ a1 ∧ ((a1 : Int) < 100 ∧ (inI (G 984 a1) → PX12_number_28 a1 (G 984 a1) G Q)))) ∧ (¬ (a1 < G 938 16) → PX12_number_15 a1 G Q)))))
set_option maxRecDepth 20000 in
theorem TX12_number_0 {a1 : Int} {G : gS} {Q : Int → gS → Prop} (ha1 : inI a1) (h : PX12_number_0 a1 G Q) : Tg W0 vX12_number_0 [rf (0), cI (a1)] [] G (fun r G => ∃ v, r = cI v ∧ inI v ∧ Q v G) := by
  unfold PX12_number_0 at h
  unfold vX12_number_0
  refine g_ld (v := cI _) rfl (is_I _) ?_
  refine g_lt1 ha1 (fun b1 => ?_) (fun b1 => ?_)
  · replace h := h.1 b1
    exact TX12_number_15 ha1 h
  · replace h := h.2 b1
    unfold vX12_number_4
    refine g_ld (v := cI _) rfl (is_I _) ?_
    refine g_ld (v := rf _) rfl (is_R _) ?_
    refine g_getF (v := 938) oC12 (hC12_20) rfl (Nat.le_of_ble_eq_true rfl) (Nat.le_of_ble_eq_true rfl) ?_
    refine g_getI (kz := 16) oC6 rfl (Nat.le_of_ble_eq_true rfl) rfl fun i2 => ?_
    replace h := h i2
    refine g_lt2 ha1 i2 (fun b3 => ?_) (fun b3 => ?_)
    · replace h := h.1 b3
      unfold vX12_number_19
      refine g_ld (v := rf _) rfl (is_R _) ?_
      refine g_getF (v := 938) oC12 (hC12_20) rfl (Nat.le_of_ble_eq_true rfl) (Nat.le_of_ble_eq_true rfl) ?_
      refine g_getF (v := 984) oC6 (hC6_15) rfl (Nat.le_of_ble_eq_true rfl) (Nat.le_of_ble_eq_true rfl) ?_
      refine g_ld (v := cI _) rfl (is_I _) ?_
      obtain ⟨q4, q5, h⟩ := h
      refine g_aldI aC984 q4 q5 rfl fun i6 => ?_
      replace h := h i6
      exact TX12_number_28 ha1 i6 h
    · replace h := h.2 b3
      exact TX12_number_15 ha1 h
abbrev PX12_number (a1 : Int) (G : gS) (Q : Int → gS → Prop) : Prop := PX12_number_0 a1 G Q
theorem TX12_number {a1 : Int} {G : gS} {Q : Int → gS → Prop} (ha1 : inI a1) (h : PX12_number a1 G Q) : Tn W0 FX12_number [rf (0), cI (a1)] G (fun r G => ∃ v, r = cI v ∧ inI v ∧ Q v G) := by
  unfold FX12_number
  refine g_ent (lv' := [rf (0), cI (a1)]) (flR (flI fl0)) (Nat.le_of_ble_eq_true rfl) rfl ?_
  exact TX12_number_0 ha1 h
def PX12_event_34 (l1 : Int) (s0 : Int) (G : gS) (Q : Int → gS → Prop) : Prop :=
  Q (s0) G
set_option maxRecDepth 20000 in
theorem TX12_event_34 {l1 : Int} {s0 : Int} {G : gS} {Q : Int → gS → Prop} (hl1 : inI l1) (hs0 : inI s0) (h : PX12_event_34 l1 s0 G Q) : Tg W0 vX12_event_34 [rf (0), cI (l1)] [cI (s0)] G (fun r G => ∃ v, r = cI v ∧ inI v ∧ Q v G) := by
  unfold PX12_event_34 at h
  unfold vX12_event_34
  exact g_ret1 (is_I _) ⟨_, rfl, hs0, h⟩
def PX12_event_18 (l1 : Int) (G : gS) (Q : Int → gS → Prop) : Prop :=
  PX12_event_34 l1 (-1) G Q
set_option maxRecDepth 20000 in
theorem TX12_event_18 {l1 : Int} {G : gS} {Q : Int → gS → Prop} (hl1 : inI l1) (h : PX12_event_18 l1 G Q) : Tg W0 vX12_event_18 [rf (0), cI (l1)] [] G (fun r G => ∃ v, r = cI v ∧ inI v ∧ Q v G) := by
  unfold PX12_event_18 at h
  unfold vX12_event_18
  refine g_const (v := cI (-1)) rfl ?_
  exact TX12_event_34 hl1 ⟨by omega, by omega⟩ h
def PX12_event_0 (a1 : Int) (G : gS) (Q : Int → gS → Prop) : Prop :=
  ((a1 < 0 → PX12_event_18 a1 G Q) ∧ (¬ (a1 < 0) → (isO W0 5 (939) ∧ (inI (G 939 4) → ((a1 < G 939 4 → (isO W0 5 (939) ∧ ((0 : Int) ≤ a1 ∧ ((a1 : Int) < 320 ∧ (inI (G (939 + 3) a1) → PX12_event_34 a1 (G (939 + 3) a1) G Q))))) ∧ (¬ (a1 < G 939 4) → PX12_event_18 a1 G Q))))))
set_option maxRecDepth 20000 in
theorem TX12_event_0 {a1 : Int} {G : gS} {Q : Int → gS → Prop} (ha1 : inI a1) (h : PX12_event_0 a1 G Q) : Tg W0 vX12_event_0 [rf (0), cI (a1)] [] G (fun r G => ∃ v, r = cI v ∧ inI v ∧ Q v G) := by
  unfold PX12_event_0 at h
  unfold vX12_event_0
  refine g_ld (v := cI _) rfl (is_I _) ?_
  refine g_lt1 ha1 (fun b1 => ?_) (fun b1 => ?_)
  · replace h := h.1 b1
    exact TX12_event_18 ha1 h
  · replace h := h.2 b1
    unfold vX12_event_4
    refine g_ld (v := cI _) rfl (is_I _) ?_
    refine g_ld (v := rf _) rfl (is_R _) ?_
    refine g_getF (v := 938) oC12 (hC12_20) rfl (Nat.le_of_ble_eq_true rfl) (Nat.le_of_ble_eq_true rfl) ?_
    refine g_getF (v := 939) oC6 (hC6_1) rfl (Nat.le_of_ble_eq_true rfl) (Nat.le_of_ble_eq_true rfl) ?_
    obtain ⟨q2, h⟩ := h
    refine g_getI (kz := 4) q2 rfl (Nat.le_of_ble_eq_true rfl) rfl fun i3 => ?_
    replace h := h i3
    refine g_lt2 ha1 i3 (fun b4 => ?_) (fun b4 => ?_)
    · replace h := h.1 b4
      unfold vX12_event_22
      refine g_ld (v := rf _) rfl (is_R _) ?_
      refine g_getF (v := 938) oC12 (hC12_20) rfl (Nat.le_of_ble_eq_true rfl) (Nat.le_of_ble_eq_true rfl) ?_
      refine g_getF (v := 939) oC6 (hC6_1) rfl (Nat.le_of_ble_eq_true rfl) (Nat.le_of_ble_eq_true rfl) ?_
      obtain ⟨q5, h⟩ := h
      refine g_getF q5 (ff5_3 q5).1 rfl (Nat.le_of_ble_eq_true rfl) (Nat.le_of_ble_eq_true rfl) ?_
      refine g_ld (v := cI _) rfl (is_I _) ?_
      obtain ⟨q6, q7, h⟩ := h
      refine g_aldI (ff5_3 q5).2 q6 q7 rfl fun i8 => ?_
      replace h := h i8
      exact TX12_event_34 ha1 i8 h
    · replace h := h.2 b4
      exact TX12_event_18 ha1 h
abbrev PX12_event (a1 : Int) (G : gS) (Q : Int → gS → Prop) : Prop := PX12_event_0 a1 G Q
theorem TX12_event {a1 : Int} {G : gS} {Q : Int → gS → Prop} (ha1 : inI a1) (h : PX12_event a1 G Q) : Tn W0 FX12_event [rf (0), cI (a1)] G (fun r G => ∃ v, r = cI v ∧ inI v ∧ Q v G) := by
  unfold FX12_event
  refine g_ent (lv' := [rf (0), cI (a1)]) (flR (flI fl0)) (Nat.le_of_ble_eq_true rfl) rfl ?_
  exact TX12_event_0 ha1 h
def PX12_state_31 (l1 : Int) (s0 : Int) (G : gS) (Q : Int → gS → Prop) : Prop :=
  Q (s0) G
set_option maxRecDepth 20000 in
theorem TX12_state_31 {l1 : Int} {s0 : Int} {G : gS} {Q : Int → gS → Prop} (hl1 : inI l1) (hs0 : inI s0) (h : PX12_state_31 l1 s0 G Q) : Tg W0 vX12_state_31 [rf (0), cI (l1)] [cI (s0)] G (fun r G => ∃ v, r = cI v ∧ inI v ∧ Q v G) := by
  unfold PX12_state_31 at h
  unfold vX12_state_31
  exact g_ret1 (is_I _) ⟨_, rfl, hs0, h⟩
def PX12_state_15 (l1 : Int) (G : gS) (Q : Int → gS → Prop) : Prop :=
  PX12_state_31 l1 (-1) G Q
set_option maxRecDepth 20000 in
theorem TX12_state_15 {l1 : Int} {G : gS} {Q : Int → gS → Prop} (hl1 : inI l1) (h : PX12_state_15 l1 G Q) : Tg W0 vX12_state_15 [rf (0), cI (l1)] [] G (fun r G => ∃ v, r = cI v ∧ inI v ∧ Q v G) := by
  unfold PX12_state_15 at h
  unfold vX12_state_15
  refine g_const (v := cI (-1)) rfl ?_
  exact TX12_state_31 hl1 ⟨by omega, by omega⟩ h
def PX12_state_0 (a1 : Int) (G : gS) (Q : Int → gS → Prop) : Prop :=
  ((a1 < 0 → PX12_state_15 a1 G Q) ∧ (¬ (a1 < 0) → (isO W0 11 (821) ∧ (inI (G 821 2) → ((a1 < G 821 2 → (isO W0 5 (939) ∧ ((0 : Int) ≤ a1 ∧ ((a1 : Int) < 64 ∧ (inI (G (939 + 1) a1) → PX12_state_31 a1 (G (939 + 1) a1) G Q))))) ∧ (¬ (a1 < G 821 2) → PX12_state_15 a1 G Q))))))
set_option maxRecDepth 20000 in
theorem TX12_state_0 {a1 : Int} {G : gS} {Q : Int → gS → Prop} (ha1 : inI a1) (h : PX12_state_0 a1 G Q) : Tg W0 vX12_state_0 [rf (0), cI (a1)] [] G (fun r G => ∃ v, r = cI v ∧ inI v ∧ Q v G) := by
  unfold PX12_state_0 at h
  unfold vX12_state_0
  refine g_ld (v := cI _) rfl (is_I _) ?_
  refine g_lt1 ha1 (fun b1 => ?_) (fun b1 => ?_)
  · replace h := h.1 b1
    exact TX12_state_15 ha1 h
  · replace h := h.2 b1
    unfold vX12_state_4
    refine g_ld (v := cI _) rfl (is_I _) ?_
    refine g_ld (v := rf _) rfl (is_R _) ?_
    refine g_getF (v := 821) oC12 (hC12_13) rfl (Nat.le_of_ble_eq_true rfl) (Nat.le_of_ble_eq_true rfl) ?_
    obtain ⟨q2, h⟩ := h
    refine g_getI (kz := 2) q2 rfl (Nat.le_of_ble_eq_true rfl) rfl fun i3 => ?_
    replace h := h i3
    refine g_lt2 ha1 i3 (fun b4 => ?_) (fun b4 => ?_)
    · replace h := h.1 b4
      unfold vX12_state_19
      refine g_ld (v := rf _) rfl (is_R _) ?_
      refine g_getF (v := 938) oC12 (hC12_20) rfl (Nat.le_of_ble_eq_true rfl) (Nat.le_of_ble_eq_true rfl) ?_
      refine g_getF (v := 939) oC6 (hC6_1) rfl (Nat.le_of_ble_eq_true rfl) (Nat.le_of_ble_eq_true rfl) ?_
      obtain ⟨q5, h⟩ := h
      refine g_getF q5 (ff5_1 q5).1 rfl (Nat.le_of_ble_eq_true rfl) (Nat.le_of_ble_eq_true rfl) ?_
      refine g_ld (v := cI _) rfl (is_I _) ?_
      obtain ⟨q6, q7, h⟩ := h
      refine g_aldI (ff5_1 q5).2 q6 q7 rfl fun i8 => ?_
      replace h := h i8
      exact TX12_state_31 ha1 i8 h
    · replace h := h.2 b4
      exact TX12_state_15 ha1 h
abbrev PX12_state (a1 : Int) (G : gS) (Q : Int → gS → Prop) : Prop := PX12_state_0 a1 G Q
theorem TX12_state {a1 : Int} {G : gS} {Q : Int → gS → Prop} (ha1 : inI a1) (h : PX12_state a1 G Q) : Tn W0 FX12_state [rf (0), cI (a1)] G (fun r G => ∃ v, r = cI v ∧ inI v ∧ Q v G) := by
  unfold FX12_state
  refine g_ent (lv' := [rf (0), cI (a1)]) (flR (flI fl0)) (Nat.le_of_ble_eq_true rfl) rfl ?_
  exact TX12_state_0 ha1 h
def PX12_classOf_29 (l1 : Int) (s0 : Int) (G : gS) (Q : Int → gS → Prop) : Prop :=
  Q (s0) G
set_option maxRecDepth 20000 in
theorem TX12_classOf_29 {l1 : Int} {s0 : Int} {G : gS} {Q : Int → gS → Prop} (hl1 : inI l1) (hs0 : inI s0) (h : PX12_classOf_29 l1 s0 G Q) : Tg W0 vX12_classOf_29 [rf (0), cI (l1)] [cI (s0)] G (fun r G => ∃ v, r = cI v ∧ inI v ∧ Q v G) := by
  unfold PX12_classOf_29 at h
  unfold vX12_classOf_29
  exact g_ret1 (is_I _) ⟨_, rfl, hs0, h⟩
def PX12_classOf_16 (l1 : Int) (G : gS) (Q : Int → gS → Prop) : Prop :=
  PX12_classOf_29 l1 (-1) G Q
set_option maxRecDepth 20000 in
theorem TX12_classOf_16 {l1 : Int} {G : gS} {Q : Int → gS → Prop} (hl1 : inI l1) (h : PX12_classOf_16 l1 G Q) : Tg W0 vX12_classOf_16 [rf (0), cI (l1)] [] G (fun r G => ∃ v, r = cI v ∧ inI v ∧ Q v G) := by
  unfold PX12_classOf_16 at h
  unfold vX12_classOf_16
  refine g_const (v := cI (-1)) rfl ?_
  exact TX12_classOf_29 hl1 ⟨by omega, by omega⟩ h
def PX12_classOf_0 (a1 : Int) (G : gS) (Q : Int → gS → Prop) : Prop :=
  ((a1 < 1 → PX12_classOf_16 a1 G Q) ∧ (¬ (a1 < 1) → (inI (G 938 10) → ((G 938 10 < a1 → PX12_classOf_16 a1 G Q) ∧ (¬ (G 938 10 < a1) → ((0 : Int) ≤ a1 ∧ ((a1 : Int) < 202 ∧ (inI (G 980 a1) → PX12_classOf_29 a1 (G 980 a1) G Q))))))))
set_option maxRecDepth 20000 in
theorem TX12_classOf_0 {a1 : Int} {G : gS} {Q : Int → gS → Prop} (ha1 : inI a1) (h : PX12_classOf_0 a1 G Q) : Tg W0 vX12_classOf_0 [rf (0), cI (a1)] [] G (fun r G => ∃ v, r = cI v ∧ inI v ∧ Q v G) := by
  unfold PX12_classOf_0 at h
  unfold vX12_classOf_0
  refine g_ld (v := cI _) rfl (is_I _) ?_
  refine g_const (v := cI (1)) rfl ?_
  refine g_lt2 ha1 ⟨by omega, by omega⟩ (fun b1 => ?_) (fun b1 => ?_)
  · replace h := h.1 b1
    exact TX12_classOf_16 ha1 h
  · replace h := h.2 b1
    unfold vX12_classOf_5
    refine g_ld (v := cI _) rfl (is_I _) ?_
    refine g_ld (v := rf _) rfl (is_R _) ?_
    refine g_getF (v := 938) oC12 (hC12_20) rfl (Nat.le_of_ble_eq_true rfl) (Nat.le_of_ble_eq_true rfl) ?_
    refine g_getI (kz := 10) oC6 rfl (Nat.le_of_ble_eq_true rfl) rfl fun i2 => ?_
    replace h := h i2
    refine g_gt2 ha1 i2 (fun b3 => ?_) (fun b3 => ?_)
    · replace h := h.1 b3
      exact TX12_classOf_16 ha1 h
    · replace h := h.2 b3
      unfold vX12_classOf_20
      refine g_ld (v := rf _) rfl (is_R _) ?_
      refine g_getF (v := 938) oC12 (hC12_20) rfl (Nat.le_of_ble_eq_true rfl) (Nat.le_of_ble_eq_true rfl) ?_
      refine g_getF (v := 980) oC6 (hC6_8) rfl (Nat.le_of_ble_eq_true rfl) (Nat.le_of_ble_eq_true rfl) ?_
      refine g_ld (v := cI _) rfl (is_I _) ?_
      obtain ⟨q4, q5, h⟩ := h
      refine g_aldI aC980 q4 q5 rfl fun i6 => ?_
      replace h := h i6
      exact TX12_classOf_29 ha1 i6 h
abbrev PX12_classOf (a1 : Int) (G : gS) (Q : Int → gS → Prop) : Prop := PX12_classOf_0 a1 G Q
theorem TX12_classOf {a1 : Int} {G : gS} {Q : Int → gS → Prop} (ha1 : inI a1) (h : PX12_classOf a1 G Q) : Tn W0 FX12_classOf [rf (0), cI (a1)] G (fun r G => ∃ v, r = cI v ∧ inI v ∧ Q v G) := by
  unfold FX12_classOf
  refine g_ent (lv' := [rf (0), cI (a1)]) (flR (flI fl0)) (Nat.le_of_ble_eq_true rfl) rfl ?_
  exact TX12_classOf_0 ha1 h
def PX12_fieldOf_40 (l1 : Int) (l2 : Int) (G : gS) (Q : Int → gS → Prop) : Prop :=
  Q (0) G
set_option maxRecDepth 20000 in
theorem TX12_fieldOf_40 {l1 : Int} {l2 : Int} {G : gS} {Q : Int → gS → Prop} (hl1 : inI l1) (hl2 : inI l2) (h : PX12_fieldOf_40 l1 l2 G Q) : Tg W0 vX12_fieldOf_40 [rf (0), cI (l1), cI (l2)] [] G (fun r G => ∃ v, r = cI v ∧ inI v ∧ Q v G) := by
  unfold PX12_fieldOf_40 at h
  unfold vX12_fieldOf_40
  refine g_const (v := cI (0)) rfl ?_
  exact g_ret1 (is_I _) ⟨_, rfl, ⟨by omega, by omega⟩, h⟩
def PX12_fieldOf_0 (a1 : Int) (a2 : Int) (G : gS) (Q : Int → gS → Prop) : Prop :=
  ((a1 < 1 → PX12_fieldOf_40 a1 a2 G Q) ∧ (¬ (a1 < 1) → (inI (G 938 10) → ((G 938 10 < a1 → PX12_fieldOf_40 a1 a2 G Q) ∧ (¬ (G 938 10 < a1) → ((a2 < 0 → PX12_fieldOf_40 a1 a2 G Q) ∧ (¬ (a2 < 0) → ((0 : Int) ≤ a1 ∧ ((a1 : Int) < 202 ∧ (inI (G 980 a1) → PX6_slotsTo (G 980 a1) G (fun r9 G8 => inI r9 → ((a2 < r9 → ((0 : Int) ≤ a1 ∧ ((a1 : Int) < 202 ∧ (inI (G8 981 a1) → ((0 : Int) ≤ (G8 981 a1) + a2 ∧ (((G8 981 a1) + a2 : Int) < 2000 ∧ (inI (G8 982 ((G8 981 a1) + a2)) → Q (G8 982 ((G8 981 a1) + a2)) G8))))))) ∧ (¬ (a2 < r9) → PX12_fieldOf_40 a1 a2 G8 Q)))))))))))))
set_option maxRecDepth 20000 in
theorem TX12_fieldOf_0 {a1 : Int} {a2 : Int} {G : gS} {Q : Int → gS → Prop} (ha1 : inI a1) (ha2 : inI a2) (h : PX12_fieldOf_0 a1 a2 G Q) : Tg W0 vX12_fieldOf_0 [rf (0), cI (a1), cI (a2)] [] G (fun r G => ∃ v, r = cI v ∧ inI v ∧ Q v G) := by
  unfold PX12_fieldOf_0 at h
  unfold vX12_fieldOf_0
  refine g_ld (v := cI _) rfl (is_I _) ?_
  refine g_const (v := cI (1)) rfl ?_
  refine g_lt2 ha1 ⟨by omega, by omega⟩ (fun b1 => ?_) (fun b1 => ?_)
  · replace h := h.1 b1
    exact TX12_fieldOf_40 ha1 ha2 h
  · replace h := h.2 b1
    unfold vX12_fieldOf_5
    refine g_ld (v := cI _) rfl (is_I _) ?_
    refine g_ld (v := rf _) rfl (is_R _) ?_
    refine g_getF (v := 938) oC12 (hC12_20) rfl (Nat.le_of_ble_eq_true rfl) (Nat.le_of_ble_eq_true rfl) ?_
    refine g_getI (kz := 10) oC6 rfl (Nat.le_of_ble_eq_true rfl) rfl fun i2 => ?_
    replace h := h i2
    refine g_gt2 ha1 i2 (fun b3 => ?_) (fun b3 => ?_)
    · replace h := h.1 b3
      exact TX12_fieldOf_40 ha1 ha2 h
    · replace h := h.2 b3
      unfold vX12_fieldOf_16
      refine g_ld (v := cI _) rfl (is_I _) ?_
      refine g_lt1 ha2 (fun b4 => ?_) (fun b4 => ?_)
      · replace h := h.1 b4
        exact TX12_fieldOf_40 ha1 ha2 h
      · replace h := h.2 b4
        unfold vX12_fieldOf_20
        refine g_ld (v := cI _) rfl (is_I _) ?_
        refine g_ld (v := rf _) rfl (is_R _) ?_
        refine g_getF (v := 938) oC12 (hC12_20) rfl (Nat.le_of_ble_eq_true rfl) (Nat.le_of_ble_eq_true rfl) ?_
        refine g_ld (v := rf _) rfl (is_R _) ?_
        refine g_getF (v := 938) oC12 (hC12_20) rfl (Nat.le_of_ble_eq_true rfl) (Nat.le_of_ble_eq_true rfl) ?_
        refine g_getF (v := 980) oC6 (hC6_8) rfl (Nat.le_of_ble_eq_true rfl) (Nat.le_of_ble_eq_true rfl) ?_
        refine g_ld (v := cI _) rfl (is_I _) ?_
        obtain ⟨q5, q6, h⟩ := h
        refine g_aldI aC980 q5 q6 rfl fun i7 => ?_
        replace h := h i7
        refine g_callV (As := [_]) (ci := 6) oC6 (fun _ => rfl) ?_
        refine g_go1 (by simp only [cs_c, cs_0, ct_I, ct_L, ct_R]; exact Nat.le_of_ble_eq_true rfl) (Tn_w (TX6_slotsTo i7 h) fun _ G8 ⟨r9, e, i10, h⟩ => ?_)
        subst e
        refine ⟨n7_I _, ?_⟩
        replace h := h i10
        refine g_lt2 ha2 i10 (fun b11 => ?_) (fun b11 => ?_)
        · replace h := h.1 b11
          unfold vX12_fieldOf_42
          refine g_ld (v := rf _) rfl (is_R _) ?_
          refine g_getF (v := 938) oC12 (hC12_20) rfl (Nat.le_of_ble_eq_true rfl) (Nat.le_of_ble_eq_true rfl) ?_
          refine g_getF (v := 982) oC6 (hC6_11) rfl (Nat.le_of_ble_eq_true rfl) (Nat.le_of_ble_eq_true rfl) ?_
          refine g_ld (v := rf _) rfl (is_R _) ?_
          refine g_getF (v := 938) oC12 (hC12_20) rfl (Nat.le_of_ble_eq_true rfl) (Nat.le_of_ble_eq_true rfl) ?_
          refine g_getF (v := 981) oC6 (hC6_9) rfl (Nat.le_of_ble_eq_true rfl) (Nat.le_of_ble_eq_true rfl) ?_
          refine g_ld (v := cI _) rfl (is_I _) ?_
          obtain ⟨q12, q13, h⟩ := h
          refine g_aldI aC981 q12 q13 rfl fun i14 => ?_
          replace h := h i14
          refine g_ld (v := cI _) rfl (is_I _) ?_
          refine g_add ?_
          obtain ⟨q15, q16, h⟩ := h
          refine g_aldI aC982 q15 q16 rfl fun i17 => ?_
          replace h := h i17
          exact g_ret1 (is_I _) ⟨_, rfl, i17, h⟩
        · replace h := h.2 b11
          exact TX12_fieldOf_40 ha1 ha2 h
abbrev PX12_fieldOf (a1 : Int) (a2 : Int) (G : gS) (Q : Int → gS → Prop) : Prop := PX12_fieldOf_0 a1 a2 G Q
theorem TX12_fieldOf {a1 : Int} {a2 : Int} {G : gS} {Q : Int → gS → Prop} (ha1 : inI a1) (ha2 : inI a2) (h : PX12_fieldOf a1 a2 G Q) : Tn W0 FX12_fieldOf [rf (0), cI (a1), cI (a2)] G (fun r G => ∃ v, r = cI v ∧ inI v ∧ Q v G) := by
  unfold FX12_fieldOf
  refine g_ent (lv' := [rf (0), cI (a1), cI (a2)]) (flR (flI (flI fl0))) (Nat.le_of_ble_eq_true rfl) rfl ?_
  exact TX12_fieldOf_0 ha1 ha2 h
def PX13_sym_66 (l0 : Int) (s0 : Int) (G : gS) (Q : Int → gS → Prop) : Prop :=
  Q (s0) G
set_option maxRecDepth 20000 in
theorem TX13_sym_66 {l0 : Int} {s0 : Int} {G : gS} {Q : Int → gS → Prop} (hl0 : inI l0) (hs0 : inI s0) (h : PX13_sym_66 l0 s0 G Q) : Tg W0 vX13_sym_66 [cI (l0)] [cI (s0)] G (fun r G => ∃ v, r = cI v ∧ inI v ∧ Q v G) := by
  unfold PX13_sym_66 at h
  unfold vX13_sym_66
  exact g_ret1 (is_I _) ⟨_, rfl, hs0, h⟩
def PX13_sym_65 (l0 : Int) (G : gS) (Q : Int → gS → Prop) : Prop :=
  PX13_sym_66 l0 0 G Q
set_option maxRecDepth 20000 in
theorem TX13_sym_65 {l0 : Int} {G : gS} {Q : Int → gS → Prop} (hl0 : inI l0) (h : PX13_sym_65 l0 G Q) : Tg W0 vX13_sym_65 [cI (l0)] [] G (fun r G => ∃ v, r = cI v ∧ inI v ∧ Q v G) := by
  unfold PX13_sym_65 at h
  unfold vX13_sym_65
  refine g_const (v := cI (0)) rfl ?_
  exact TX13_sym_66 hl0 ⟨by omega, by omega⟩ h
def PX13_sym_43 (l0 : Int) (G : gS) (Q : Int → gS → Prop) : Prop :=
  ((l0 < 48 → PX13_sym_65 l0 G Q) ∧ (¬ (l0 < 48) → ((57 < l0 → PX13_sym_65 l0 G Q) ∧ (¬ (57 < l0) → (inI ((l0 - 48) + 53) ∧ PX13_sym_66 l0 ((l0 - 48) + 53) G Q)))))
set_option maxRecDepth 20000 in
theorem TX13_sym_43 {l0 : Int} {G : gS} {Q : Int → gS → Prop} (hl0 : inI l0) (h : PX13_sym_43 l0 G Q) : Tg W0 vX13_sym_43 [cI (l0)] [] G (fun r G => ∃ v, r = cI v ∧ inI v ∧ Q v G) := by
  unfold PX13_sym_43 at h
  unfold vX13_sym_43
  refine g_ld (v := cI _) rfl (is_I _) ?_
  refine g_const (v := cI (48)) rfl ?_
  refine g_lt2 hl0 ⟨by omega, by omega⟩ (fun b7 => ?_) (fun b7 => ?_)
  · replace h := h.1 b7
    exact TX13_sym_65 hl0 h
  · replace h := h.2 b7
    unfold vX13_sym_49
    refine g_ld (v := cI _) rfl (is_I _) ?_
    refine g_const (v := cI (57)) rfl ?_
    refine g_gt2 hl0 ⟨by omega, by omega⟩ (fun b8 => ?_) (fun b8 => ?_)
    · replace h := h.1 b8
      exact TX13_sym_65 hl0 h
    · replace h := h.2 b8
      unfold vX13_sym_55
      refine g_ld (v := cI _) rfl (is_I _) ?_
      refine g_const (v := cI (48)) rfl ?_
      refine g_sub ?_
      refine g_const (v := cI (53)) rfl ?_
      refine g_add ?_
      obtain ⟨q9, h⟩ := h
      exact TX13_sym_66 hl0 q9 h
def PX13_sym_21 (l0 : Int) (G : gS) (Q : Int → gS → Prop) : Prop :=
  ((l0 < 65 → PX13_sym_43 l0 G Q) ∧ (¬ (l0 < 65) → ((90 < l0 → PX13_sym_43 l0 G Q) ∧ (¬ (90 < l0) → (inI ((l0 - 65) + 27) ∧ PX13_sym_66 l0 ((l0 - 65) + 27) G Q)))))
set_option maxRecDepth 20000 in
theorem TX13_sym_21 {l0 : Int} {G : gS} {Q : Int → gS → Prop} (hl0 : inI l0) (h : PX13_sym_21 l0 G Q) : Tg W0 vX13_sym_21 [cI (l0)] [] G (fun r G => ∃ v, r = cI v ∧ inI v ∧ Q v G) := by
  unfold PX13_sym_21 at h
  unfold vX13_sym_21
  refine g_ld (v := cI _) rfl (is_I _) ?_
  refine g_const (v := cI (65)) rfl ?_
  refine g_lt2 hl0 ⟨by omega, by omega⟩ (fun b4 => ?_) (fun b4 => ?_)
  · replace h := h.1 b4
    exact TX13_sym_43 hl0 h
  · replace h := h.2 b4
    unfold vX13_sym_27
    refine g_ld (v := cI _) rfl (is_I _) ?_
    refine g_const (v := cI (90)) rfl ?_
    refine g_gt2 hl0 ⟨by omega, by omega⟩ (fun b5 => ?_) (fun b5 => ?_)
    · replace h := h.1 b5
      exact TX13_sym_43 hl0 h
    · replace h := h.2 b5
      unfold vX13_sym_33
      refine g_ld (v := cI _) rfl (is_I _) ?_
      refine g_const (v := cI (65)) rfl ?_
      refine g_sub ?_
      refine g_const (v := cI (27)) rfl ?_
      refine g_add ?_
      obtain ⟨q6, h⟩ := h
      exact TX13_sym_66 hl0 q6 h
def PX13_sym_0 (a0 : Int) (G : gS) (Q : Int → gS → Prop) : Prop :=
  ((a0 < 97 → PX13_sym_21 a0 G Q) ∧ (¬ (a0 < 97) → ((122 < a0 → PX13_sym_21 a0 G Q) ∧ (¬ (122 < a0) → (inI ((a0 - 97) + 1) ∧ PX13_sym_66 a0 ((a0 - 97) + 1) G Q)))))
set_option maxRecDepth 20000 in
theorem TX13_sym_0 {a0 : Int} {G : gS} {Q : Int → gS → Prop} (ha0 : inI a0) (h : PX13_sym_0 a0 G Q) : Tg W0 vX13_sym_0 [cI (a0)] [] G (fun r G => ∃ v, r = cI v ∧ inI v ∧ Q v G) := by
  unfold PX13_sym_0 at h
  unfold vX13_sym_0
  refine g_ld (v := cI _) rfl (is_I _) ?_
  refine g_const (v := cI (97)) rfl ?_
  refine g_lt2 ha0 ⟨by omega, by omega⟩ (fun b1 => ?_) (fun b1 => ?_)
  · replace h := h.1 b1
    exact TX13_sym_21 ha0 h
  · replace h := h.2 b1
    unfold vX13_sym_6
    refine g_ld (v := cI _) rfl (is_I _) ?_
    refine g_const (v := cI (122)) rfl ?_
    refine g_gt2 ha0 ⟨by omega, by omega⟩ (fun b2 => ?_) (fun b2 => ?_)
    · replace h := h.1 b2
      exact TX13_sym_21 ha0 h
    · replace h := h.2 b2
      unfold vX13_sym_12
      refine g_ld (v := cI _) rfl (is_I _) ?_
      refine g_const (v := cI (97)) rfl ?_
      refine g_sub ?_
      refine g_const (v := cI (1)) rfl ?_
      refine g_add ?_
      obtain ⟨q3, h⟩ := h
      exact TX13_sym_66 ha0 q3 h
abbrev PX13_sym (a0 : Int) (G : gS) (Q : Int → gS → Prop) : Prop := PX13_sym_0 a0 G Q
theorem TX13_sym {a0 : Int} {G : gS} {Q : Int → gS → Prop} (ha0 : inI a0) (h : PX13_sym a0 G Q) : Tn W0 FX13_sym [cI (a0)] G (fun r G => ∃ v, r = cI v ∧ inI v ∧ Q v G) := by
  unfold FX13_sym
  refine g_ent (lv' := [cI (a0)]) (flI fl0) (Nat.le_of_ble_eq_true rfl) rfl ?_
  exact TX13_sym_0 ha0 h
def PX13_letter_38 (l0 : Int) (s0 : Int) (G : gS) (Q : Int → gS → Prop) : Prop :=
  Q (s0) G
set_option maxRecDepth 20000 in
theorem TX13_letter_38 {l0 : Int} {s0 : Int} {G : gS} {Q : Int → gS → Prop} (hl0 : inI l0) (hs0 : inI s0) (h : PX13_letter_38 l0 s0 G Q) : Tg W0 vX13_letter_38 [cI (l0)] [cI (s0)] G (fun r G => ∃ v, r = cI v ∧ inI v ∧ Q v G) := by
  unfold PX13_letter_38 at h
  unfold vX13_letter_38
  exact g_ret1 (is_I _) ⟨_, rfl, hs0, h⟩
def PX13_letter_0 (a0 : Int) (G : gS) (Q : Int → gS → Prop) : Prop :=
  ((26 < a0 → ((52 < a0 → (inI ((48 + a0) - 53) ∧ PX13_letter_38 a0 ((48 + a0) - 53) G Q)) ∧ (¬ (52 < a0) → (inI ((65 + a0) - 27) ∧ PX13_letter_38 a0 ((65 + a0) - 27) G Q)))) ∧ (¬ (26 < a0) → (inI ((97 + a0) - 1) ∧ PX13_letter_38 a0 ((97 + a0) - 1) G Q)))
set_option maxRecDepth 20000 in
theorem TX13_letter_0 {a0 : Int} {G : gS} {Q : Int → gS → Prop} (ha0 : inI a0) (h : PX13_letter_0 a0 G Q) : Tg W0 vX13_letter_0 [cI (a0)] [] G (fun r G => ∃ v, r = cI v ∧ inI v ∧ Q v G) := by
  unfold PX13_letter_0 at h
  unfold vX13_letter_0
  refine g_ld (v := cI _) rfl (is_I _) ?_
  refine g_const (v := cI (26)) rfl ?_
  refine g_gt2 ha0 ⟨by omega, by omega⟩ (fun b1 => ?_) (fun b1 => ?_)
  · replace h := h.1 b1
    unfold vX13_letter_15
    refine g_ld (v := cI _) rfl (is_I _) ?_
    refine g_const (v := cI (52)) rfl ?_
    refine g_gt2 ha0 ⟨by omega, by omega⟩ (fun b2 => ?_) (fun b2 => ?_)
    · replace h := h.1 b2
      unfold vX13_letter_31
      refine g_const (v := cI (48)) rfl ?_
      refine g_ld (v := cI _) rfl (is_I _) ?_
      refine g_add ?_
      refine g_const (v := cI (53)) rfl ?_
      refine g_sub ?_
      obtain ⟨q3, h⟩ := h
      exact TX13_letter_38 ha0 q3 h
    · replace h := h.2 b2
      unfold vX13_letter_21
      refine g_const (v := cI (65)) rfl ?_
      refine g_ld (v := cI _) rfl (is_I _) ?_
      refine g_add ?_
      refine g_const (v := cI (27)) rfl ?_
      refine g_sub ?_
      obtain ⟨q4, h⟩ := h
      exact TX13_letter_38 ha0 q4 h
  · replace h := h.2 b1
    unfold vX13_letter_6
    refine g_const (v := cI (97)) rfl ?_
    refine g_ld (v := cI _) rfl (is_I _) ?_
    refine g_add ?_
    refine g_const (v := cI (1)) rfl ?_
    refine g_sub ?_
    obtain ⟨q5, h⟩ := h
    exact TX13_letter_38 ha0 q5 h
abbrev PX13_letter (a0 : Int) (G : gS) (Q : Int → gS → Prop) : Prop := PX13_letter_0 a0 G Q
theorem TX13_letter {a0 : Int} {G : gS} {Q : Int → gS → Prop} (ha0 : inI a0) (h : PX13_letter a0 G Q) : Tn W0 FX13_letter [cI (a0)] G (fun r G => ∃ v, r = cI v ∧ inI v ∧ Q v G) := by
  unfold FX13_letter
  refine g_ent (lv' := [cI (a0)]) (flI fl0) (Nat.le_of_ble_eq_true rfl) rfl ?_
  exact TX13_letter_0 ha0 h
def PX13_isC_15 (l0 : Int) (s0 : Int) (G : gS) (Q : Int → gS → Prop) : Prop :=
  ((0 ≤ s0 ∧ s0 ≤ 1) ∧ Q (s0) G)
set_option maxRecDepth 20000 in
theorem TX13_isC_15 {l0 : Int} {l1 : Nat} {s0 : Int} {G : gS} {Q : Int → gS → Prop} (hl0 : inL l0) (hl1 : l1 % 8 ≠ 1) (hs0 : inI s0) (h : PX13_isC_15 l0 s0 G Q) : Tg W0 vX13_isC_15 [cL (l0), l1] [cI (s0)] G (fun r G => ∃ v, r = cI v ∧ (0 ≤ v ∧ v ≤ 1) ∧ Q v G) := by
  unfold PX13_isC_15 at h
  unfold vX13_isC_15
  obtain ⟨q3, h⟩ := h
  exact g_ret1 (is_Z q3) ⟨_, rfl, q3, h⟩
def PX13_isC_0 (a0 : Int) (G : gS) (Q : Int → gS → Prop) : Prop :=
  (inL (land a0 2305843009213693952) → ((land a0 2305843009213693952 = 0 → PX13_isC_15 a0 0 G Q) ∧ (¬ (land a0 2305843009213693952 = 0) → PX13_isC_15 a0 1 G Q)))
set_option maxRecDepth 20000 in
theorem TX13_isC_0 {a0 : Int} {G : gS} {Q : Int → gS → Prop} (ha0 : inL a0) (h : PX13_isC_0 a0 G Q) : Tg W0 vX13_isC_0 [cL (a0), 7] [] G (fun r G => ∃ v, r = cI v ∧ (0 ≤ v ∧ v ≤ 1) ∧ Q v G) := by
  unfold PX13_isC_0 at h
  unfold vX13_isC_0
  refine g_ld (v := cL _) rfl (is_L _) ?_
  refine g_const (v := cL (2305843009213693952)) rfl ?_
  refine g_land fun i1 => ?_
  replace h := h i1
  refine g_const (v := cL (0)) rfl ?_
  refine g_leq i1 ⟨by omega, by omega⟩ (fun b2 => ?_) (fun b2 => ?_)
  · replace h := h.1 b2
    unfold vX13_isC_14
    refine g_const (v := cI (0)) rfl ?_
    exact TX13_isC_15 ha0 (show 7 % 8 ≠ 1 by decide) ⟨by omega, by omega⟩ h
  · replace h := h.2 b2
    unfold vX13_isC_10
    refine g_const (v := cI (1)) rfl ?_
    exact TX13_isC_15 ha0 (show 7 % 8 ≠ 1 by decide) ⟨by omega, by omega⟩ h
abbrev PX13_isC (a0 : Int) (G : gS) (Q : Int → gS → Prop) : Prop := PX13_isC_0 a0 G Q
theorem TX13_isC {a0 : Int} {G : gS} {Q : Int → gS → Prop} (ha0 : inL a0) (h : PX13_isC a0 G Q) : Tn W0 FX13_isC [cL (a0)] G (fun r G => ∃ v, r = cI v ∧ (0 ≤ v ∧ v ≤ 1) ∧ Q v G) := by
  unfold FX13_isC
  refine g_ent (lv' := [cL (a0), 7]) (flL fl0) (Nat.le_of_ble_eq_true rfl) rfl ?_
  exact TX13_isC_0 ha0 h
def PX13_packageOf_9 (J : Nat → List Int → gS → (Int → gS → Prop) → Prop) (l0 : Int) (l2 : Int) (l4 : Int) (G : gS) (Q : Int → gS → Prop) : Prop :=
  ((l2 = 0 → Q (l4) G) ∧ (¬ (l2 = 0) → (inL (land l2 63) → (inI (l2i (land l2 63)) → (inL (lush l2 6) → J 0 [l0, lush l2 6, l2i (land l2 63)] G Q)))))
set_option maxRecDepth 20000 in
theorem TX13_packageOf_9 {j : Nat → rx_K} {J : Nat → List Int → gS → (Int → gS → Prop) → Prop} {l0 : Int} {l1 : Nat} {l2 : Int} {l3 : Nat} {l4 : Int} {G : gS} {Q : Int → gS → Prop} (hl0 : inL l0) (hl1 : l1 % 8 ≠ 1) (hl2 : inL l2) (hl3 : l3 % 8 ≠ 1) (hl4 : inI l4) (hj0 : ∀ (l0 : Int) (l1 : Nat) (l2 : Int) (l3 : Nat) (l4 : Int) (G : gS), (inL l0) → (l1 % 8 ≠ 1) → (inL l2) → (l3 % 8 ≠ 1) → (inI l4) → J 0 [l0, l2, l4] G Q → Tg W0 (j 0) [cL (l0), l1, cL (l2), l3, cI (l4)] [] G (fun r G => ∃ v, r = cI v ∧ inI v ∧ Q v G)) (h : PX13_packageOf_9 J l0 l2 l4 G Q) : Tg W0 (vX13_packageOf_9 j) [cL (l0), l1, cL (l2), l3, cI (l4)] [] G (fun r G => ∃ v, r = cI v ∧ inI v ∧ Q v G) := by
  unfold PX13_packageOf_9 at h
  unfold vX13_packageOf_9
  refine g_ld (v := cL _) rfl (is_L _) ?_
  refine g_const (v := cL (0)) rfl ?_
  refine g_leq hl2 ⟨by omega, by omega⟩ (fun b2 => ?_) (fun b2 => ?_)
  · replace h := h.1 b2
    unfold vX13_packageOf_31
    refine g_ld (v := cI _) rfl (is_I _) ?_
    exact g_ret1 (is_I _) ⟨_, rfl, hl4, h⟩
  · replace h := h.2 b2
    unfold vX13_packageOf_15
    refine g_ld (v := cL _) rfl (is_L _) ?_
    refine g_const (v := cL (63)) rfl ?_
    refine g_land fun i3 => ?_
    replace h := h i3
    refine g_l2i fun i4 => ?_
    replace h := h i4
    refine g_st (lv' := [_, _, _, _, _]) (is_I _) (Nat.le_of_ble_eq_true rfl) (Or.inr hl3) rfl ?_
    refine g_ld (v := cL _) rfl (is_L _) ?_
    refine g_const (v := cI (6)) rfl ?_
    refine g_lush fun i5 => ?_
    replace h := h i5
    refine g_stL (lv' := [_, _, _, _, _]) (Nat.le_of_ble_eq_true rfl) (Or.inr hl1) rfl ?_
    exact hj0 _ _ _ _ _ _ hl0 hl1 i5 (show 7 % 8 ≠ 1 by decide) i4 h
def PX13_packageOf_0 (J : Nat → List Int → gS → (Int → gS → Prop) → Prop) (a0 : Int) (G : gS) (Q : Int → gS → Prop) : Prop :=
  (inL (land a0 (-2305843009213693953)) → PX13_packageOf_9 J a0 (land a0 (-2305843009213693953)) 0 G Q)
set_option maxRecDepth 20000 in
theorem TX13_packageOf_0 {j : Nat → rx_K} {J : Nat → List Int → gS → (Int → gS → Prop) → Prop} {a0 : Int} {G : gS} {Q : Int → gS → Prop} (ha0 : inL a0) (hj0 : ∀ (l0 : Int) (l1 : Nat) (l2 : Int) (l3 : Nat) (l4 : Int) (G : gS), (inL l0) → (l1 % 8 ≠ 1) → (inL l2) → (l3 % 8 ≠ 1) → (inI l4) → J 0 [l0, l2, l4] G Q → Tg W0 (j 0) [cL (l0), l1, cL (l2), l3, cI (l4)] [] G (fun r G => ∃ v, r = cI v ∧ inI v ∧ Q v G)) (h : PX13_packageOf_0 J a0 G Q) : Tg W0 (vX13_packageOf_0 j) [cL (a0), 7, 7, 7, 7] [] G (fun r G => ∃ v, r = cI v ∧ inI v ∧ Q v G) := by
  unfold PX13_packageOf_0 at h
  unfold vX13_packageOf_0
  refine g_ld (v := cL _) rfl (is_L _) ?_
  refine g_const (v := cL (-2305843009213693953)) rfl ?_
  refine g_land fun i1 => ?_
  replace h := h i1
  refine g_stL (lv' := [_, _, _, _, _]) (Nat.le_of_ble_eq_true rfl) (Or.inr (show 7 % 8 ≠ 1 by decide)) rfl ?_
  refine g_const (v := cI (0)) rfl ?_
  refine g_st (lv' := [_, _, _, _, _]) (is_I _) (Nat.le_of_ble_eq_true rfl) (Or.inr (show 7 % 8 ≠ 1 by decide)) rfl ?_
  exact TX13_packageOf_9 ha0 (show 7 % 8 ≠ 1 by decide) i1 (show 7 % 8 ≠ 1 by decide) ⟨by omega, by omega⟩ hj0 h
def PX13_packageOf_J : Nat → Nat → List Int → gS → (Int → gS → Prop) → Prop
  | 0, _, _, _, _ => False
  | f + 1, h, L, G, Q => match h, L with
    | 0, [l0, l2, l4] => PX13_packageOf_9 (PX13_packageOf_J f) l0 l2 l4 G Q
    | _, _ => False
theorem TX13_packageOf_J {Q : Int → gS → Prop} : ∀ f N : Nat, f ≤ N → (∀ (l0 : Int) (l1 : Nat) (l2 : Int) (l3 : Nat) (l4 : Int) (G : gS), (inL l0) → (l1 % 8 ≠ 1) → (inL l2) → (l3 % 8 ≠ 1) → (inI l4) → (PX13_packageOf_J f) 0 [l0, l2, l4] G Q → Tg W0 (rx_J vhX13_packageOf N 0) [cL (l0), l1, cL (l2), l3, cI (l4)] [] G (fun r G => ∃ v, r = cI v ∧ inI v ∧ Q v G)) := by
  intro f
  induction f with
  | zero => exact fun N _ => fun _ _ _ _ _ _ _ _ _ _ _ h => h.elim
  | succ f ih =>
    intro N hN
    obtain ⟨M, rfl⟩ : ∃ M, N = M + 1 := ⟨N - 1, by omega⟩
    have ih := ih M (by omega)
    exact fun _ _ _ _ _ _ hl0 hl1 hl2 hl3 hl4 h => show Tg W0 (vX13_packageOf_9 (rx_J vhX13_packageOf M)) _ _ _ _ from TX13_packageOf_9 hl0 hl1 hl2 hl3 hl4 ih h
def PX13_packageOf (a0 : Int) (G : gS) (Q : Int → gS → Prop) : Prop := ∃ f : Nat, f ≤ 4000000000 ∧ PX13_packageOf_0 (PX13_packageOf_J f) a0 G Q
theorem TX13_packageOf {a0 : Int} {G : gS} {Q : Int → gS → Prop} (ha0 : inL a0) (h : PX13_packageOf a0 G Q) : Tn W0 FX13_packageOf [cL (a0)] G (fun r G => ∃ v, r = cI v ∧ inI v ∧ Q v G) := by
  obtain ⟨f, hf, h⟩ := h
  have hJ := TX13_packageOf_J (Q := Q) f 4000000000 hf
  unfold FX13_packageOf
  refine g_ent (lv' := [cL (a0), 7, 7, 7, 7]) (flL fl0) (Nat.le_of_ble_eq_true rfl) rfl ?_
  exact TX13_packageOf_0 ha0 hJ h
def PX13_outByte_0 (a1 : Int) (G : gS) (Q : Int → gS → Prop) : Prop :=
  (inI (G 16081 3) → ((0 : Int) ≤ G 16081 3 ∧ ((G 16081 3 : Int) < 4200 ∧ (∀ G4 : gS, G4 = uG G 16083 (G 16081 3) (a1) → (inI (G4 16081 3) → (inI ((G4 16081 3) + 1) ∧ (∀ G7 : gS, G7 = uG G4 16081 3 ((G4 16081 3) + 1) → Q 0 G7)))))))
set_option maxRecDepth 20000 in
theorem TX13_outByte_0 {a1 : Int} {G : gS} {Q : Int → gS → Prop} (ha1 : inI a1) (h : PX13_outByte_0 a1 G Q) : Tg W0 vX13_outByte_0 [rf (16081), cI (a1)] [] G (fun r G => r = 7 ∧ Q 0 G) := by
  unfold PX13_outByte_0 at h
  unfold vX13_outByte_0
  refine g_ld (v := rf _) rfl (is_R _) ?_
  refine g_getF (v := 16083) oC13 (hC13_2) rfl (Nat.le_of_ble_eq_true rfl) (Nat.le_of_ble_eq_true rfl) ?_
  refine g_ld (v := rf _) rfl (is_R _) ?_
  refine g_getI (kz := 3) oC13 rfl (Nat.le_of_ble_eq_true rfl) rfl fun i1 => ?_
  replace h := h i1
  refine g_ld (v := cI _) rfl (is_I _) ?_
  obtain ⟨q2, q3, h⟩ := h
  refine g_astI aC16083 q2 q3 ha1 (nfI aC16083) ?_
  replace h := h _ rfl
  refine g_ld (v := rf _) rfl (is_R _) ?_
  refine g_dup (ct_R _) ?_
  refine g_getI (kz := 3) oC13 rfl (Nat.le_of_ble_eq_true rfl) rfl fun i5 => ?_
  replace h := h i5
  refine g_const (v := cI (1)) rfl ?_
  refine g_add ?_
  obtain ⟨q6, h⟩ := h
  refine g_putI (kz := 3) oC13 rfl (Nat.le_of_ble_eq_true rfl) rfl q6 (zfin_no (c := 16081) (j := 3) rfl) ?_
  replace h := h _ rfl
  exact g_ret0 ⟨rfl, h⟩
abbrev PX13_outByte (a1 : Int) (G : gS) (Q : Int → gS → Prop) : Prop := PX13_outByte_0 a1 G Q
theorem TX13_outByte {a1 : Int} {G : gS} {Q : Int → gS → Prop} (ha1 : inI a1) (h : PX13_outByte a1 G Q) : Tn W0 FX13_outByte [rf (16081), cI (a1)] G (fun r G => r = 7 ∧ Q 0 G) := by
  unfold FX13_outByte
  refine g_ent (lv' := [rf (16081), cI (a1)]) (flR (flI fl0)) (Nat.le_of_ble_eq_true rfl) rfl ?_
  exact TX13_outByte_0 ha1 h
def PX13_outName_86 (J : Nat → List Int → gS → (Int → gS → Prop) → Prop) (l1 : Int) (l3 : Int) (l5 : Int) (l6 : Int) (G : gS) (Q : Int → gS → Prop) : Prop :=
  (inI (l6 + (-1)) ∧ J 1 [l1, l3, l5, l6 + (-1)] G Q)
set_option maxRecDepth 20000 in
theorem TX13_outName_86 {j : Nat → rx_K} {J : Nat → List Int → gS → (Int → gS → Prop) → Prop} {l1 : Int} {l2 : Nat} {l3 : Int} {l4 : Nat} {l5 : Int} {l6 : Int} {G : gS} {Q : Int → gS → Prop} (hl1 : inL l1) (hl2 : l2 % 8 ≠ 1) (hl3 : inL l3) (hl4 : l4 % 8 ≠ 1) (hl5 : inI l5) (hl6 : inI l6) (hj0 : ∀ (l1 : Int) (l2 : Nat) (l3 : Int) (l4 : Nat) (l5 : Int) (l6 : Nat) (G : gS), (inL l1) → (l2 % 8 ≠ 1) → (inL l3) → (l4 % 8 ≠ 1) → (inI l5) → (l6 % 8 ≠ 1) → J 0 [l1, l3, l5] G Q → Tg W0 (j 0) [rf (16081), cL (l1), l2, cL (l3), l4, cI (l5), l6] [] G (fun r G => r = 7 ∧ Q 0 G)) (hj1 : ∀ (l1 : Int) (l2 : Nat) (l3 : Int) (l4 : Nat) (l5 : Int) (l6 : Int) (G : gS), (inL l1) → (l2 % 8 ≠ 1) → (inL l3) → (l4 % 8 ≠ 1) → (inI l5) → (inI l6) → J 1 [l1, l3, l5, l6] G Q → Tg W0 (j 1) [rf (16081), cL (l1), l2, cL (l3), l4, cI (l5), cI (l6)] [] G (fun r G => r = 7 ∧ Q 0 G)) (h : PX13_outName_86 J l1 l3 l5 l6 G Q) : Tg W0 (vX13_outName_86 j) [rf (16081), cL (l1), l2, cL (l3), l4, cI (l5), cI (l6)] [] G (fun r G => r = 7 ∧ Q 0 G) := by
  unfold PX13_outName_86 at h
  unfold vX13_outName_86
  refine g_inc (lv' := [_, _, _, _, _, _, _]) rfl (Nat.le_of_ble_eq_true rfl) (Or.inr (n1_I _)) rfl ?_
  obtain ⟨q24, h⟩ := h
  exact hj1 _ _ _ _ _ _ _ hl1 hl2 hl3 hl4 hl5 q24 h
def PX13_outName_40 (J : Nat → List Int → gS → (Int → gS → Prop) → Prop) (l1 : Int) (l3 : Int) (l5 : Int) (l6 : Int) (G : gS) (Q : Int → gS → Prop) : Prop :=
  ((l6 < 0 → Q 0 G) ∧ (¬ (l6 < 0) → (inL (lush l3 (6 * l6)) → (inL (land (lush l3 (6 * l6)) 63) → (inI (l2i (land (lush l3 (6 * l6)) 63)) → PX13_letter (l2i (land (lush l3 (6 * l6)) 63)) G (fun r12 G11 => inI r12 → PX13_outByte r12 G11 (fun _ G14 => PX13_isC l1 G14 (fun r17 G16 => (0 ≤ r17 ∧ r17 ≤ 1) → ((r17 = 0 → PX13_outName_86 J l1 l3 l5 l6 G16 Q) ∧ (¬ (r17 = 0) → (inI (l5 - 1) ∧ ((l6 = l5 - 1 → PX13_outByte 46 G16 (fun _ G22 => PX13_outName_86 J l1 l3 l5 l6 G22 Q)) ∧ (¬ (l6 = l5 - 1) → PX13_outName_86 J l1 l3 l5 l6 G16 Q)))))))))))))
set_option maxRecDepth 20000 in
theorem TX13_outName_40 {j : Nat → rx_K} {J : Nat → List Int → gS → (Int → gS → Prop) → Prop} {l1 : Int} {l2 : Nat} {l3 : Int} {l4 : Nat} {l5 : Int} {l6 : Int} {G : gS} {Q : Int → gS → Prop} (hl1 : inL l1) (hl2 : l2 % 8 ≠ 1) (hl3 : inL l3) (hl4 : l4 % 8 ≠ 1) (hl5 : inI l5) (hl6 : inI l6) (hj0 : ∀ (l1 : Int) (l2 : Nat) (l3 : Int) (l4 : Nat) (l5 : Int) (l6 : Nat) (G : gS), (inL l1) → (l2 % 8 ≠ 1) → (inL l3) → (l4 % 8 ≠ 1) → (inI l5) → (l6 % 8 ≠ 1) → J 0 [l1, l3, l5] G Q → Tg W0 (j 0) [rf (16081), cL (l1), l2, cL (l3), l4, cI (l5), l6] [] G (fun r G => r = 7 ∧ Q 0 G)) (hj1 : ∀ (l1 : Int) (l2 : Nat) (l3 : Int) (l4 : Nat) (l5 : Int) (l6 : Int) (G : gS), (inL l1) → (l2 % 8 ≠ 1) → (inL l3) → (l4 % 8 ≠ 1) → (inI l5) → (inI l6) → J 1 [l1, l3, l5, l6] G Q → Tg W0 (j 1) [rf (16081), cL (l1), l2, cL (l3), l4, cI (l5), cI (l6)] [] G (fun r G => r = 7 ∧ Q 0 G)) (h : PX13_outName_40 J l1 l3 l5 l6 G Q) : Tg W0 (vX13_outName_40 j) [rf (16081), cL (l1), l2, cL (l3), l4, cI (l5), cI (l6)] [] G (fun r G => r = 7 ∧ Q 0 G) := by
  unfold PX13_outName_40 at h
  unfold vX13_outName_40
  refine g_ld (v := cI _) rfl (is_I _) ?_
  refine g_lt1 hl6 (fun b7 => ?_) (fun b7 => ?_)
  · replace h := h.1 b7
    unfold vX13_outName_92
    exact g_ret0 ⟨rfl, h⟩
  · replace h := h.2 b7
    unfold vX13_outName_45
    refine g_ld (v := rf _) rfl (is_R _) ?_
    refine g_ld (v := cL _) rfl (is_L _) ?_
    refine g_const (v := cI (6)) rfl ?_
    refine g_ld (v := cI _) rfl (is_I _) ?_
    refine g_mul ?_
    refine g_lush fun i8 => ?_
    replace h := h i8
    refine g_const (v := cL (63)) rfl ?_
    refine g_land fun i9 => ?_
    replace h := h i9
    refine g_l2i fun i10 => ?_
    replace h := h i10
    refine g_callS (As := [_]) (fun _ => rfl) ?_
    refine g_go1 (by simp only [cs_c, cs_0, ct_I, ct_L, ct_R]; exact Nat.le_of_ble_eq_true rfl) (Tn_w (TX13_letter i10 h) fun _ G11 ⟨r12, e, i13, h⟩ => ?_)
    subst e
    refine ⟨n7_I _, ?_⟩
    replace h := h i13
    refine g_callV (As := [_]) (ci := 13) oC13 (fun _ => rfl) ?_
    refine g_go0 (Nat.le_of_ble_eq_true rfl) (Tn_w (TX13_outByte i13 h) fun _ G14 ⟨e, h⟩ => ⟨e, ?_⟩)
    refine g_ld (v := cL _) rfl (is_L _) ?_
    refine g_callS (As := [_]) (fun _ => rfl) ?_
    refine g_go1 (Nat.le_of_ble_eq_true rfl) (Tn_w (TX13_isC hl1 h) fun _ G16 ⟨r17, e, i18, h⟩ => ?_)
    subst e
    refine ⟨n7_I _, ?_⟩
    replace h := h i18
    refine g_eq1 ⟨by omega, by omega⟩ (fun b19 => ?_) (fun b19 => ?_)
    · replace h := h.1 b19
      exact TX13_outName_86 hl1 hl2 hl3 hl4 hl5 hl6 hj0 hj1 h
    · replace h := h.2 b19
      unfold vX13_outName_71
      refine g_ld (v := cI _) rfl (is_I _) ?_
      refine g_ld (v := cI _) rfl (is_I _) ?_
      refine g_const (v := cI (1)) rfl ?_
      refine g_sub ?_
      obtain ⟨q20, h⟩ := h
      refine g_eq2 hl6 q20 (fun b21 => ?_) (fun b21 => ?_)
      · replace h := h.1 b21
        unfold vX13_outName_80
        refine g_ld (v := rf _) rfl (is_R _) ?_
        refine g_const (v := cI (46)) rfl ?_
        refine g_callV (As := [_]) (ci := 13) oC13 (fun _ => rfl) ?_
        refine g_go0 (Nat.le_of_ble_eq_true rfl) (Tn_w (TX13_outByte ⟨by omega, by omega⟩ h) fun _ G22 ⟨e, h⟩ => ⟨e, ?_⟩)
        exact TX13_outName_86 hl1 hl2 hl3 hl4 hl5 hl6 hj0 hj1 h
      · replace h := h.2 b21
        exact TX13_outName_86 hl1 hl2 hl3 hl4 hl5 hl6 hj0 hj1 h
def PX13_outName_34 (J : Nat → List Int → gS → (Int → gS → Prop) → Prop) (l1 : Int) (l3 : Int) (l5 : Int) (G : gS) (Q : Int → gS → Prop) : Prop :=
  (inI (l5 - 1) ∧ PX13_outName_40 J l1 l3 l5 (l5 - 1) G Q)
set_option maxRecDepth 20000 in
theorem TX13_outName_34 {j : Nat → rx_K} {J : Nat → List Int → gS → (Int → gS → Prop) → Prop} {l1 : Int} {l2 : Nat} {l3 : Int} {l4 : Nat} {l5 : Int} {l6 : Nat} {G : gS} {Q : Int → gS → Prop} (hl1 : inL l1) (hl2 : l2 % 8 ≠ 1) (hl3 : inL l3) (hl4 : l4 % 8 ≠ 1) (hl5 : inI l5) (hl6 : l6 % 8 ≠ 1) (hj0 : ∀ (l1 : Int) (l2 : Nat) (l3 : Int) (l4 : Nat) (l5 : Int) (l6 : Nat) (G : gS), (inL l1) → (l2 % 8 ≠ 1) → (inL l3) → (l4 % 8 ≠ 1) → (inI l5) → (l6 % 8 ≠ 1) → J 0 [l1, l3, l5] G Q → Tg W0 (j 0) [rf (16081), cL (l1), l2, cL (l3), l4, cI (l5), l6] [] G (fun r G => r = 7 ∧ Q 0 G)) (hj1 : ∀ (l1 : Int) (l2 : Nat) (l3 : Int) (l4 : Nat) (l5 : Int) (l6 : Int) (G : gS), (inL l1) → (l2 % 8 ≠ 1) → (inL l3) → (l4 % 8 ≠ 1) → (inI l5) → (inI l6) → J 1 [l1, l3, l5, l6] G Q → Tg W0 (j 1) [rf (16081), cL (l1), l2, cL (l3), l4, cI (l5), cI (l6)] [] G (fun r G => r = 7 ∧ Q 0 G)) (h : PX13_outName_34 J l1 l3 l5 G Q) : Tg W0 (vX13_outName_34 j) [rf (16081), cL (l1), l2, cL (l3), l4, cI (l5), l6] [] G (fun r G => r = 7 ∧ Q 0 G) := by
  unfold PX13_outName_34 at h
  unfold vX13_outName_34
  refine g_ld (v := cI _) rfl (is_I _) ?_
  refine g_const (v := cI (1)) rfl ?_
  refine g_sub ?_
  refine g_st (lv' := [_, _, _, _, _, _, _]) (is_I _) (Nat.le_of_ble_eq_true rfl) (Or.inr (n1_I _)) rfl ?_
  obtain ⟨q6, h⟩ := h
  exact TX13_outName_40 hl1 hl2 hl3 hl4 hl5 q6 hj0 hj1 h
def PX13_outName_9 (J : Nat → List Int → gS → (Int → gS → Prop) → Prop) (l1 : Int) (l3 : Int) (l5 : Int) (G : gS) (Q : Int → gS → Prop) : Prop :=
  ((l5 < 10 → (inL (lush l3 (6 * l5)) → ((lush l3 (6 * l5) = 0 → PX13_outName_34 J l1 l3 l5 G Q) ∧ (¬ (lush l3 (6 * l5) = 0) → (inI (l5 + 1) ∧ J 0 [l1, l3, l5 + 1] G Q))))) ∧ (¬ (l5 < 10) → PX13_outName_34 J l1 l3 l5 G Q))
set_option maxRecDepth 20000 in
theorem TX13_outName_9 {j : Nat → rx_K} {J : Nat → List Int → gS → (Int → gS → Prop) → Prop} {l1 : Int} {l2 : Nat} {l3 : Int} {l4 : Nat} {l5 : Int} {l6 : Nat} {G : gS} {Q : Int → gS → Prop} (hl1 : inL l1) (hl2 : l2 % 8 ≠ 1) (hl3 : inL l3) (hl4 : l4 % 8 ≠ 1) (hl5 : inI l5) (hl6 : l6 % 8 ≠ 1) (hj0 : ∀ (l1 : Int) (l2 : Nat) (l3 : Int) (l4 : Nat) (l5 : Int) (l6 : Nat) (G : gS), (inL l1) → (l2 % 8 ≠ 1) → (inL l3) → (l4 % 8 ≠ 1) → (inI l5) → (l6 % 8 ≠ 1) → J 0 [l1, l3, l5] G Q → Tg W0 (j 0) [rf (16081), cL (l1), l2, cL (l3), l4, cI (l5), l6] [] G (fun r G => r = 7 ∧ Q 0 G)) (hj1 : ∀ (l1 : Int) (l2 : Nat) (l3 : Int) (l4 : Nat) (l5 : Int) (l6 : Int) (G : gS), (inL l1) → (l2 % 8 ≠ 1) → (inL l3) → (l4 % 8 ≠ 1) → (inI l5) → (inI l6) → J 1 [l1, l3, l5, l6] G Q → Tg W0 (j 1) [rf (16081), cL (l1), l2, cL (l3), l4, cI (l5), cI (l6)] [] G (fun r G => r = 7 ∧ Q 0 G)) (h : PX13_outName_9 J l1 l3 l5 G Q) : Tg W0 (vX13_outName_9 j) [rf (16081), cL (l1), l2, cL (l3), l4, cI (l5), l6] [] G (fun r G => r = 7 ∧ Q 0 G) := by
  unfold PX13_outName_9 at h
  unfold vX13_outName_9
  refine g_ld (v := cI _) rfl (is_I _) ?_
  refine g_const (v := cI (10)) rfl ?_
  refine g_lt2 hl5 ⟨by omega, by omega⟩ (fun b2 => ?_) (fun b2 => ?_)
  · replace h := h.1 b2
    unfold vX13_outName_16
    refine g_ld (v := cL _) rfl (is_L _) ?_
    refine g_const (v := cI (6)) rfl ?_
    refine g_ld (v := cI _) rfl (is_I _) ?_
    refine g_mul ?_
    refine g_lush fun i3 => ?_
    replace h := h i3
    refine g_const (v := cL (0)) rfl ?_
    refine g_leq i3 ⟨by omega, by omega⟩ (fun b4 => ?_) (fun b4 => ?_)
    · replace h := h.1 b4
      exact TX13_outName_34 hl1 hl2 hl3 hl4 hl5 hl6 hj0 hj1 h
    · replace h := h.2 b4
      unfold vX13_outName_28
      refine g_inc (lv' := [_, _, _, _, _, _, _]) rfl (Nat.le_of_ble_eq_true rfl) (Or.inr hl4) rfl ?_
      obtain ⟨q5, h⟩ := h
      exact hj0 _ _ _ _ _ _ _ hl1 hl2 hl3 hl4 q5 hl6 h
  · replace h := h.2 b2
    exact TX13_outName_34 hl1 hl2 hl3 hl4 hl5 hl6 hj0 hj1 h
def PX13_outName_0 (J : Nat → List Int → gS → (Int → gS → Prop) → Prop) (a1 : Int) (G : gS) (Q : Int → gS → Prop) : Prop :=
  (inL (land a1 (-2305843009213693953)) → PX13_outName_9 J a1 (land a1 (-2305843009213693953)) 0 G Q)
set_option maxRecDepth 20000 in
theorem TX13_outName_0 {j : Nat → rx_K} {J : Nat → List Int → gS → (Int → gS → Prop) → Prop} {a1 : Int} {G : gS} {Q : Int → gS → Prop} (ha1 : inL a1) (hj0 : ∀ (l1 : Int) (l2 : Nat) (l3 : Int) (l4 : Nat) (l5 : Int) (l6 : Nat) (G : gS), (inL l1) → (l2 % 8 ≠ 1) → (inL l3) → (l4 % 8 ≠ 1) → (inI l5) → (l6 % 8 ≠ 1) → J 0 [l1, l3, l5] G Q → Tg W0 (j 0) [rf (16081), cL (l1), l2, cL (l3), l4, cI (l5), l6] [] G (fun r G => r = 7 ∧ Q 0 G)) (hj1 : ∀ (l1 : Int) (l2 : Nat) (l3 : Int) (l4 : Nat) (l5 : Int) (l6 : Int) (G : gS), (inL l1) → (l2 % 8 ≠ 1) → (inL l3) → (l4 % 8 ≠ 1) → (inI l5) → (inI l6) → J 1 [l1, l3, l5, l6] G Q → Tg W0 (j 1) [rf (16081), cL (l1), l2, cL (l3), l4, cI (l5), cI (l6)] [] G (fun r G => r = 7 ∧ Q 0 G)) (h : PX13_outName_0 J a1 G Q) : Tg W0 (vX13_outName_0 j) [rf (16081), cL (a1), 7, 7, 7, 7, 7] [] G (fun r G => r = 7 ∧ Q 0 G) := by
  unfold PX13_outName_0 at h
  unfold vX13_outName_0
  refine g_ld (v := cL _) rfl (is_L _) ?_
  refine g_const (v := cL (-2305843009213693953)) rfl ?_
  refine g_land fun i1 => ?_
  replace h := h i1
  refine g_stL (lv' := [_, _, _, _, _, _, _]) (Nat.le_of_ble_eq_true rfl) (Or.inr (show 7 % 8 ≠ 1 by decide)) rfl ?_
  refine g_const (v := cI (0)) rfl ?_
  refine g_st (lv' := [_, _, _, _, _, _, _]) (is_I _) (Nat.le_of_ble_eq_true rfl) (Or.inr (show 7 % 8 ≠ 1 by decide)) rfl ?_
  exact TX13_outName_9 ha1 (show 7 % 8 ≠ 1 by decide) i1 (show 7 % 8 ≠ 1 by decide) ⟨by omega, by omega⟩ (show 7 % 8 ≠ 1 by decide) hj0 hj1 h
def PX13_outName_J : Nat → Nat → List Int → gS → (Int → gS → Prop) → Prop
  | 0, _, _, _, _ => False
  | f + 1, h, L, G, Q => match h, L with
    | 0, [l1, l3, l5] => PX13_outName_9 (PX13_outName_J f) l1 l3 l5 G Q
    | 1, [l1, l3, l5, l6] => PX13_outName_40 (PX13_outName_J f) l1 l3 l5 l6 G Q
    | _, _ => False
theorem TX13_outName_J {Q : Int → gS → Prop} : ∀ f N : Nat, f ≤ N → (∀ (l1 : Int) (l2 : Nat) (l3 : Int) (l4 : Nat) (l5 : Int) (l6 : Nat) (G : gS), (inL l1) → (l2 % 8 ≠ 1) → (inL l3) → (l4 % 8 ≠ 1) → (inI l5) → (l6 % 8 ≠ 1) → (PX13_outName_J f) 0 [l1, l3, l5] G Q → Tg W0 (rx_J vhX13_outName N 0) [rf (16081), cL (l1), l2, cL (l3), l4, cI (l5), l6] [] G (fun r G => r = 7 ∧ Q 0 G)) ∧ (∀ (l1 : Int) (l2 : Nat) (l3 : Int) (l4 : Nat) (l5 : Int) (l6 : Int) (G : gS), (inL l1) → (l2 % 8 ≠ 1) → (inL l3) → (l4 % 8 ≠ 1) → (inI l5) → (inI l6) → (PX13_outName_J f) 1 [l1, l3, l5, l6] G Q → Tg W0 (rx_J vhX13_outName N 1) [rf (16081), cL (l1), l2, cL (l3), l4, cI (l5), cI (l6)] [] G (fun r G => r = 7 ∧ Q 0 G)) := by
  intro f
  induction f with
  | zero => exact fun N _ => ⟨fun _ _ _ _ _ _ _ _ _ _ _ _ _ h => h.elim, fun _ _ _ _ _ _ _ _ _ _ _ _ _ h => h.elim⟩
  | succ f ih =>
    intro N hN
    obtain ⟨M, rfl⟩ : ∃ M, N = M + 1 := ⟨N - 1, by omega⟩
    have ih := ih M (by omega)
    exact ⟨fun _ _ _ _ _ _ _ hl1 hl2 hl3 hl4 hl5 hl6 h => show Tg W0 (vX13_outName_9 (rx_J vhX13_outName M)) _ _ _ _ from TX13_outName_9 hl1 hl2 hl3 hl4 hl5 hl6 ih.1 ih.2 h, fun _ _ _ _ _ _ _ hl1 hl2 hl3 hl4 hl5 hl6 h => show Tg W0 (vX13_outName_40 (rx_J vhX13_outName M)) _ _ _ _ from TX13_outName_40 hl1 hl2 hl3 hl4 hl5 hl6 ih.1 ih.2 h⟩
def PX13_outName (a1 : Int) (G : gS) (Q : Int → gS → Prop) : Prop := ∃ f : Nat, f ≤ 4000000000 ∧ PX13_outName_0 (PX13_outName_J f) a1 G Q
theorem TX13_outName {a1 : Int} {G : gS} {Q : Int → gS → Prop} (ha1 : inL a1) (h : PX13_outName a1 G Q) : Tn W0 FX13_outName [rf (16081), cL (a1)] G (fun r G => r = 7 ∧ Q 0 G) := by
  obtain ⟨f, hf, h⟩ := h
  have hJ := TX13_outName_J (Q := Q) f 4000000000 hf
  unfold FX13_outName
  refine g_ent (lv' := [rf (16081), cL (a1), 7, 7, 7, 7, 7]) (flR (flL fl0)) (Nat.le_of_ble_eq_true rfl) rfl ?_
  exact TX13_outName_0 ha1 hJ.1 hJ.2 h
end DE

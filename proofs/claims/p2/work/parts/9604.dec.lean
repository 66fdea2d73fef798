section DE
def PX2_note_164 (l1 : Int) (l2 : Int) (l3 : Int) (l4 : Int) (G : gS) (Q : Int → gS → Prop) : Prop :=
  Q (1) G
set_option maxRecDepth 20000 in
theorem TX2_note_164 {l1 : Int} {l2 : Int} {l3 : Int} {l4 : Int} {G : gS} {Q : Int → gS → Prop} (hl1 : inI l1) (hl2 : inI l2) (hl3 : inI l3) (hl4 : inI l4) (h : PX2_note_164 l1 l2 l3 l4 G Q) : Tg W0 vX2_note_164 [rf (934), cI (l1), cI (l2), cI (l3), cI (l4)] [] G (fun r G => ∃ v, r = cI v ∧ inI v ∧ Q v G) := by
  unfold PX2_note_164 at h
  unfold vX2_note_164
  refine g_const (v := cI (1)) rfl ?_
  exact g_ret1 (is_I _) ⟨_, rfl, ⟨by omega, by omega⟩, h⟩
def PX2_note_51 (l1 : Int) (l2 : Int) (l3 : Int) (l4 : Int) (s0 : Int) (s1 : Int) (s2 : Int) (G : gS) (Q : Int → gS → Prop) : Prop :=
  (isO W0 2 (s0) ∧ (∀ G11 : gS, G11 = uG G s0 5 ((if s1 < s2 then s2 else s1)) → ((0 ≤ G11 934 2 ∧ G11 934 2 ≤ 1) → ((G11 934 2 = 0 → PX2_note_164 l1 l2 l3 l4 G11 Q) ∧ (¬ (G11 934 2 = 0) → (inI (G11 934 4) → (inI ((5 * (G11 934 4)) + 5) ∧ ((8000 < (5 * (G11 934 4)) + 5 → PX2_note_164 l1 l2 l3 l4 G11 Q) ∧ (¬ (8000 < (5 * (G11 934 4)) + 5) → (inI (G11 934 4) → ((0 : Int) ≤ 5 * (G11 934 4) ∧ ((5 * (G11 934 4) : Int) < 8000 ∧ (∀ G20 : gS, G20 = uG G11 935 (5 * (G11 934 4)) (l1) → (inI (G20 934 4) → (inI (G20 934 6) → ((0 : Int) ≤ (5 * (G20 934 4)) + 1 ∧ (((5 * (G20 934 4)) + 1 : Int) < 8000 ∧ (∀ G25 : gS, G25 = uG G20 935 ((5 * (G20 934 4)) + 1) (G20 934 6) → (inI (G25 934 4) → (inI (G25 934 7) → ((0 : Int) ≤ (5 * (G25 934 4)) + 2 ∧ (((5 * (G25 934 4)) + 2 : Int) < 8000 ∧ (∀ G30 : gS, G30 = uG G25 935 ((5 * (G25 934 4)) + 2) (G25 934 7) → (inI (G30 934 4) → ((0 : Int) ≤ (5 * (G30 934 4)) + 3 ∧ (((5 * (G30 934 4)) + 3 : Int) < 8000 ∧ (∀ G34 : gS, G34 = uG G30 935 ((5 * (G30 934 4)) + 3) (l2) → (inI (G34 934 4) → ((0 : Int) ≤ (5 * (G34 934 4)) + 4 ∧ (((5 * (G34 934 4)) + 4 : Int) < 8000 ∧ (∀ G38 : gS, G38 = uG G34 935 ((5 * (G34 934 4)) + 4) (l3) → (inI (G38 934 4) → (inI ((G38 934 4) + 1) ∧ (∀ G41 : gS, G41 = uG G38 934 4 ((G38 934 4) + 1) → PX2_note_164 l1 l2 l3 l4 G41 Q))))))))))))))))))))))))))))))))))
set_option maxRecDepth 20000 in
theorem TX2_note_51 {l1 : Int} {l2 : Int} {l3 : Int} {l4 : Int} {s0 : Int} {s1 : Int} {s2 : Int} {G : gS} {Q : Int → gS → Prop} (hl1 : inI l1) (hl2 : inI l2) (hl3 : inI l3) (hl4 : inI l4) (hs1 : inI s1) (hs2 : inI s2) (h : PX2_note_51 l1 l2 l3 l4 s0 s1 s2 G Q) : Tg W0 vX2_note_51 [rf (934), cI (l1), cI (l2), cI (l3), cI (l4)] [cI (s2), cI (s1), rf (s0)] G (fun r G => ∃ v, r = cI v ∧ inI v ∧ Q v G) := by
  unfold PX2_note_51 at h
  unfold vX2_note_51
  refine g_max hs1 hs2 (by simp only [cs_c, cs_0, ct_I, ct_L, ct_R]; exact Nat.le_of_ble_eq_true rfl) ?_
  obtain ⟨q10, h⟩ := h
  refine g_putI (kz := 5) q10 rfl (Nat.le_of_ble_eq_true rfl) rfl (inI_max hs1 hs2) (by rw [one2 q10]; exact zfin_no (c := 934) (j := 5) rfl) ?_
  replace h := h _ rfl
  refine g_ld (v := rf _) rfl (is_R _) ?_
  refine g_getZ (kz := 2) oC2 rfl (Nat.le_of_ble_eq_true rfl) rfl fun i12 => ?_
  replace h := h i12
  refine g_eq1 ⟨by omega, by omega⟩ (fun b13 => ?_) (fun b13 => ?_)
  · replace h := h.1 b13
    exact TX2_note_164 hl1 hl2 hl3 hl4 h
  · replace h := h.2 b13
    unfold vX2_note_64
    refine g_const (v := cI (5)) rfl ?_
    refine g_ld (v := rf _) rfl (is_R _) ?_
    refine g_getI (kz := 4) oC2 rfl (Nat.le_of_ble_eq_true rfl) rfl fun i14 => ?_
    replace h := h i14
    refine g_mul ?_
    refine g_const (v := cI (5)) rfl ?_
    refine g_add ?_
    refine g_ld (v := rf _) rfl (is_R _) ?_
    refine g_getF (v := 935) oC2 (hC2_3) rfl (Nat.le_of_ble_eq_true rfl) (Nat.le_of_ble_eq_true rfl) ?_
    refine g_alen aC935 ?_
    obtain ⟨q15, h⟩ := h
    refine g_gt2 q15 ⟨by omega, by omega⟩ (fun b16 => ?_) (fun b16 => ?_)
    · replace h := h.1 b16
      exact TX2_note_164 hl1 hl2 hl3 hl4 h
    · replace h := h.2 b16
      unfold vX2_note_80
      refine g_ld (v := rf _) rfl (is_R _) ?_
      refine g_getF (v := 935) oC2 (hC2_3) rfl (Nat.le_of_ble_eq_true rfl) (Nat.le_of_ble_eq_true rfl) ?_
      refine g_const (v := cI (5)) rfl ?_
      refine g_ld (v := rf _) rfl (is_R _) ?_
      refine g_getI (kz := 4) oC2 rfl (Nat.le_of_ble_eq_true rfl) rfl fun i17 => ?_
      replace h := h i17
      refine g_mul ?_
      refine g_ld (v := cI _) rfl (is_I _) ?_
      obtain ⟨q18, q19, h⟩ := h
      refine g_astI aC935 q18 q19 hl1 (nfI aC935) ?_
      replace h := h _ rfl
      refine g_ld (v := rf _) rfl (is_R _) ?_
      refine g_getF (v := 935) oC2 (hC2_3) rfl (Nat.le_of_ble_eq_true rfl) (Nat.le_of_ble_eq_true rfl) ?_
      refine g_const (v := cI (5)) rfl ?_
      refine g_ld (v := rf _) rfl (is_R _) ?_
      refine g_getI (kz := 4) oC2 rfl (Nat.le_of_ble_eq_true rfl) rfl fun i21 => ?_
      replace h := h i21
      refine g_mul ?_
      refine g_const (v := cI (1)) rfl ?_
      refine g_add ?_
      refine g_ld (v := rf _) rfl (is_R _) ?_
      refine g_getI (kz := 6) oC2 rfl (Nat.le_of_ble_eq_true rfl) rfl fun i22 => ?_
      replace h := h i22
      obtain ⟨q23, q24, h⟩ := h
      refine g_astI aC935 q23 q24 i22 (nfI aC935) ?_
      replace h := h _ rfl
      refine g_ld (v := rf _) rfl (is_R _) ?_
      refine g_getF (v := 935) oC2 (hC2_3) rfl (Nat.le_of_ble_eq_true rfl) (Nat.le_of_ble_eq_true rfl) ?_
      refine g_const (v := cI (5)) rfl ?_
      refine g_ld (v := rf _) rfl (is_R _) ?_
      refine g_getI (kz := 4) oC2 rfl (Nat.le_of_ble_eq_true rfl) rfl fun i26 => ?_
      replace h := h i26
      unfold vX2_note_118
      refine g_mul ?_
      refine g_const (v := cI (2)) rfl ?_
      refine g_add ?_
      refine g_ld (v := rf _) rfl (is_R _) ?_
      refine g_getI (kz := 7) oC2 rfl (Nat.le_of_ble_eq_true rfl) rfl fun i27 => ?_
      replace h := h i27
      obtain ⟨q28, q29, h⟩ := h
      refine g_astI aC935 q28 q29 i27 (nfI aC935) ?_
      replace h := h _ rfl
      refine g_ld (v := rf _) rfl (is_R _) ?_
      refine g_getF (v := 935) oC2 (hC2_3) rfl (Nat.le_of_ble_eq_true rfl) (Nat.le_of_ble_eq_true rfl) ?_
      refine g_const (v := cI (5)) rfl ?_
      refine g_ld (v := rf _) rfl (is_R _) ?_
      refine g_getI (kz := 4) oC2 rfl (Nat.le_of_ble_eq_true rfl) rfl fun i31 => ?_
      replace h := h i31
      refine g_mul ?_
      refine g_const (v := cI (3)) rfl ?_
      refine g_add ?_
      refine g_ld (v := cI _) rfl (is_I _) ?_
      obtain ⟨q32, q33, h⟩ := h
      refine g_astI aC935 q32 q33 hl2 (nfI aC935) ?_
      replace h := h _ rfl
      refine g_ld (v := rf _) rfl (is_R _) ?_
      refine g_getF (v := 935) oC2 (hC2_3) rfl (Nat.le_of_ble_eq_true rfl) (Nat.le_of_ble_eq_true rfl) ?_
      refine g_const (v := cI (5)) rfl ?_
      refine g_ld (v := rf _) rfl (is_R _) ?_
      refine g_getI (kz := 4) oC2 rfl (Nat.le_of_ble_eq_true rfl) rfl fun i35 => ?_
      replace h := h i35
      refine g_mul ?_
      refine g_const (v := cI (4)) rfl ?_
      refine g_add ?_
      unfold vX2_note_152
      refine g_ld (v := cI _) rfl (is_I _) ?_
      obtain ⟨q36, q37, h⟩ := h
      refine g_astI aC935 q36 q37 hl3 (nfI aC935) ?_
      replace h := h _ rfl
      refine g_ld (v := rf _) rfl (is_R _) ?_
      refine g_dup (ct_R _) ?_
      refine g_getI (kz := 4) oC2 rfl (Nat.le_of_ble_eq_true rfl) rfl fun i39 => ?_
      replace h := h i39
      refine g_const (v := cI (1)) rfl ?_
      refine g_add ?_
      obtain ⟨q40, h⟩ := h
      refine g_putI (kz := 4) oC2 rfl (Nat.le_of_ble_eq_true rfl) rfl q40 (zfin_no (c := 934) (j := 4) rfl) ?_
      replace h := h _ rfl
      exact TX2_note_164 hl1 hl2 hl3 hl4 h
def PX2_note_23 (l1 : Int) (l2 : Int) (l3 : Int) (s0 : Int) (G : gS) (Q : Int → gS → Prop) : Prop :=
  (inI (G 934 5) → ((s0 = 0 → PX2_breaks l1 G (fun r7 G6 => (0 ≤ r7 ∧ r7 ≤ 1) → ((r7 = 0 → PX2_note_51 l1 l2 l3 s0 934 (G 934 5) 2 G6 Q) ∧ (¬ (r7 = 0) → PX2_note_51 l1 l2 l3 s0 934 (G 934 5) 3 G6 Q)))) ∧ (¬ (s0 = 0) → PX2_note_51 l1 l2 l3 s0 934 (G 934 5) 1 G Q)))
set_option maxRecDepth 20000 in
theorem TX2_note_23 {l1 : Int} {l2 : Int} {l3 : Int} {l4 : Nat} {s0 : Int} {G : gS} {Q : Int → gS → Prop} (hl1 : inI l1) (hl2 : inI l2) (hl3 : inI l3) (hl4 : l4 % 8 ≠ 1) (hs0 : inI s0) (h : PX2_note_23 l1 l2 l3 s0 G Q) : Tg W0 vX2_note_23 [rf (934), cI (l1), cI (l2), cI (l3), l4] [cI (s0)] G (fun r G => ∃ v, r = cI v ∧ inI v ∧ Q v G) := by
  unfold PX2_note_23 at h
  unfold vX2_note_23
  refine g_st (lv' := [_, _, _, _, _]) (is_I _) (Nat.le_of_ble_eq_true rfl) (Or.inr (n1_I _)) rfl ?_
  refine g_ld (v := rf _) rfl (is_R _) ?_
  refine g_ld (v := rf _) rfl (is_R _) ?_
  refine g_getI (kz := 5) oC2 rfl (Nat.le_of_ble_eq_true rfl) rfl fun i4 => ?_
  replace h := h i4
  refine g_ld (v := cI _) rfl (is_I _) ?_
  refine g_eq1 hs0 (fun b5 => ?_) (fun b5 => ?_)
  · replace h := h.1 b5
    unfold vX2_note_39
    refine g_ld (v := cI _) rfl (is_I _) ?_
    refine g_callS (As := [_]) (fun _ => rfl) ?_
    refine g_go1 (by simp only [cs_c, cs_0, ct_I, ct_L, ct_R]; exact Nat.le_of_ble_eq_true rfl) (Tn_w (TX2_breaks hl1 h) fun _ G6 ⟨r7, e, i8, h⟩ => ?_)
    subst e
    refine ⟨n7_I _, ?_⟩
    replace h := h i8
    refine g_eq1 ⟨by omega, by omega⟩ (fun b9 => ?_) (fun b9 => ?_)
    · replace h := h.1 b9
      unfold vX2_note_50
      refine g_const (v := cI (2)) rfl ?_
      exact TX2_note_51 hl1 hl2 hl3 hs0 i4 ⟨by omega, by omega⟩ h
    · replace h := h.2 b9
      unfold vX2_note_46
      refine g_const (v := cI (3)) rfl ?_
      exact TX2_note_51 hl1 hl2 hl3 hs0 i4 ⟨by omega, by omega⟩ h
  · replace h := h.2 b5
    unfold vX2_note_35
    refine g_const (v := cI (1)) rfl ?_
    exact TX2_note_51 hl1 hl2 hl3 hs0 i4 ⟨by omega, by omega⟩ h
def PX2_note_18 (l1 : Int) (l2 : Int) (l3 : Int) (G : gS) (Q : Int → gS → Prop) : Prop :=
  PX2_note_23 l1 l2 l3 1 G Q
set_option maxRecDepth 20000 in
theorem TX2_note_18 {l1 : Int} {l2 : Int} {l3 : Int} {l4 : Nat} {G : gS} {Q : Int → gS → Prop} (hl1 : inI l1) (hl2 : inI l2) (hl3 : inI l3) (hl4 : l4 % 8 ≠ 1) (h : PX2_note_18 l1 l2 l3 G Q) : Tg W0 vX2_note_18 [rf (934), cI (l1), cI (l2), cI (l3), l4] [] G (fun r G => ∃ v, r = cI v ∧ inI v ∧ Q v G) := by
  unfold PX2_note_18 at h
  unfold vX2_note_18
  refine g_const (v := cI (1)) rfl ?_
  exact TX2_note_23 hl1 hl2 hl3 hl4 ⟨by omega, by omega⟩ h
def PX2_note_0 (a1 : Int) (a2 : Int) (a3 : Int) (G : gS) (Q : Int → gS → Prop) : Prop :=
  ((a1 = 39 → PX2_note_18 a1 a2 a3 G Q) ∧ (¬ (a1 = 39) → ((a1 = 53 → PX2_note_18 a1 a2 a3 G Q) ∧ (¬ (a1 = 53) → ((a1 = 60 → PX2_note_18 a1 a2 a3 G Q) ∧ (¬ (a1 = 60) → PX2_note_23 a1 a2 a3 0 G Q))))))
set_option maxRecDepth 20000 in
theorem TX2_note_0 {a1 : Int} {a2 : Int} {a3 : Int} {G : gS} {Q : Int → gS → Prop} (ha1 : inI a1) (ha2 : inI a2) (ha3 : inI a3) (h : PX2_note_0 a1 a2 a3 G Q) : Tg W0 vX2_note_0 [rf (934), cI (a1), cI (a2), cI (a3), 7] [] G (fun r G => ∃ v, r = cI v ∧ inI v ∧ Q v G) := by
  unfold PX2_note_0 at h
  unfold vX2_note_0
  refine g_ld (v := cI _) rfl (is_I _) ?_
  refine g_const (v := cI (39)) rfl ?_
  refine g_eq2 ha1 ⟨by omega, by omega⟩ (fun b1 => ?_) (fun b1 => ?_)
  · replace h := h.1 b1
    exact TX2_note_18 ha1 ha2 ha3 (show 7 % 8 ≠ 1 by decide) h
  · replace h := h.2 b1
    unfold vX2_note_6
    refine g_ld (v := cI _) rfl (is_I _) ?_
    refine g_const (v := cI (53)) rfl ?_
    refine g_eq2 ha1 ⟨by omega, by omega⟩ (fun b2 => ?_) (fun b2 => ?_)
    · replace h := h.1 b2
      exact TX2_note_18 ha1 ha2 ha3 (show 7 % 8 ≠ 1 by decide) h
    · replace h := h.2 b2
      unfold vX2_note_12
      refine g_ld (v := cI _) rfl (is_I _) ?_
      refine g_const (v := cI (60)) rfl ?_
      refine g_eq2 ha1 ⟨by omega, by omega⟩ (fun b3 => ?_) (fun b3 => ?_)
      · replace h := h.1 b3
        exact TX2_note_18 ha1 ha2 ha3 (show 7 % 8 ≠ 1 by decide) h
      · replace h := h.2 b3
        unfold vX2_note_22
        refine g_const (v := cI (0)) rfl ?_
        exact TX2_note_23 ha1 ha2 ha3 (show 7 % 8 ≠ 1 by decide) ⟨by omega, by omega⟩ h
abbrev PX2_note (a1 : Int) (a2 : Int) (a3 : Int) (G : gS) (Q : Int → gS → Prop) : Prop := PX2_note_0 a1 a2 a3 G Q
theorem TX2_note {a1 : Int} {a2 : Int} {a3 : Int} {G : gS} {Q : Int → gS → Prop} (ha1 : inI a1) (ha2 : inI a2) (ha3 : inI a3) (h : PX2_note a1 a2 a3 G Q) : Tn W0 FX2_note [rf (934), cI (a1), cI (a2), cI (a3)] G (fun r G => ∃ v, r = cI v ∧ inI v ∧ Q v G) := by
  unfold FX2_note
  refine g_ent (lv' := [rf (934), cI (a1), cI (a2), cI (a3), 7]) (flR (flI (flI (flI fl0)))) (Nat.le_of_ble_eq_true rfl) rfl ?_
  exact TX2_note_0 ha1 ha2 ha3 h
def PX10_listedAt_0 (o : Int) (a1 : Int) (a2 : Int) (G : gS) (Q : Int → gS → Prop) : Prop :=
  (isO W0 10 (o) ∧ ((0 : Int) ≤ (a1 * 8) + a2 ∧ (((a1 * 8) + a2 : Int) < 24 ∧ (inL (G (o + 1) ((a1 * 8) + a2)) → Q (G (o + 1) ((a1 * 8) + a2)) G))))
set_option maxRecDepth 20000 in
theorem TX10_listedAt_0 {o : Int} {a1 : Int} {a2 : Int} {G : gS} {Q : Int → gS → Prop} (ha1 : inI a1) (ha2 : inI a2) (h : PX10_listedAt_0 o a1 a2 G Q) : Tg W0 vX10_listedAt_0 [rf (o), cI (a1), cI (a2)] [] G (fun r G => ∃ v, r = cL v ∧ inL v ∧ Q v G) := by
  unfold PX10_listedAt_0 at h
  unfold vX10_listedAt_0
  refine g_ld (v := rf _) rfl (is_R _) ?_
  obtain ⟨q1, h⟩ := h
  refine g_getF q1 (ff10_10 q1).1 rfl (Nat.le_of_ble_eq_true rfl) (Nat.le_of_ble_eq_true rfl) ?_
  refine g_ld (v := cI _) rfl (is_I _) ?_
  refine g_const (v := cI (8)) rfl ?_
  refine g_mul ?_
  refine g_ld (v := cI _) rfl (is_I _) ?_
  refine g_add ?_
  obtain ⟨q2, q3, h⟩ := h
  refine g_aldL (ff10_10 q1).2 q2 q3 rfl fun i4 => ?_
  replace h := h i4
  exact g_ret1 (is_L _) ⟨_, rfl, i4, h⟩
abbrev PX10_listedAt (o : Int) (a1 : Int) (a2 : Int) (G : gS) (Q : Int → gS → Prop) : Prop := PX10_listedAt_0 o a1 a2 G Q
theorem TX10_listedAt {o : Int} {a1 : Int} {a2 : Int} {G : gS} {Q : Int → gS → Prop} (ha1 : inI a1) (ha2 : inI a2) (h : PX10_listedAt o a1 a2 G Q) : Tn W0 FX10_listedAt [rf (o), cI (a1), cI (a2)] G (fun r G => ∃ v, r = cL v ∧ inL v ∧ Q v G) := by
  unfold FX10_listedAt
  refine g_ent (lv' := [rf (o), cI (a1), cI (a2)]) (flR (flI (flI fl0))) (Nat.le_of_ble_eq_true rfl) rfl ?_
  exact TX10_listedAt_0 ha1 ha2 h
def PX2_faces_133 (J : Nat → List Int → gS → (Int → gS → Prop) → Prop) (l1 : Int) (l2 : Int) (l3 : Int) (l4 : Int) (s0 : Int) (s1 : Int) (G : gS) (Q : Int → gS → Prop) : Prop :=
  (inI (s0 + s1) ∧ Q (s0 + s1) G)
set_option maxRecDepth 20000 in
theorem TX2_faces_133 {j : Nat → rx_K} {J : Nat → List Int → gS → (Int → gS → Prop) → Prop} {l1 : Int} {l2 : Int} {l3 : Int} {l4 : Int} {s0 : Int} {s1 : Int} {G : gS} {Q : Int → gS → Prop} (hl3 : inI l3) (hl4 : inI l4) (hs0 : inI s0) (hs1 : inI s1) (hj0 : ∀ (l1 : Int) (l2 : Int) (l3 : Int) (l4 : Int) (G : gS), (inI l3) → (inI l4) → J 0 [l1, l2, l3, l4] G Q → Tg W0 (j 0) [rf (934), rf (l1), rf (l2), cI (l3), cI (l4)] [] G (fun r G => ∃ v, r = cI v ∧ inI v ∧ Q v G)) (hj1 : ∀ (l1 : Int) (l2 : Int) (l3 : Int) (l4 : Int) (G : gS), (inI l3) → (inI l4) → J 1 [l1, l2, l3, l4] G Q → Tg W0 (j 1) [rf (934), rf (l1), rf (l2), cI (l3), cI (l4)] [] G (fun r G => ∃ v, r = cI v ∧ inI v ∧ Q v G)) (h : PX2_faces_133 J l1 l2 l3 l4 s0 s1 G Q) : Tg W0 (vX2_faces_133 j) [rf (934), rf (l1), rf (l2), cI (l3), cI (l4)] [cI (s1), cI (s0)] G (fun r G => ∃ v, r = cI v ∧ inI v ∧ Q v G) := by
  unfold PX2_faces_133 at h
  unfold vX2_faces_133
  refine g_add ?_
  obtain ⟨q44, h⟩ := h
  exact g_ret1 (is_I _) ⟨_, rfl, q44, h⟩
def PX2_faces_98 (J : Nat → List Int → gS → (Int → gS → Prop) → Prop) (l1 : Int) (l2 : Int) (l3 : Int) (l4 : Int) (s0 : Int) (s1 : Int) (G : gS) (Q : Int → gS → Prop) : Prop :=
  (inI (s0 + s1) ∧ (inI (l4 + 1) ∧ J 1 [l1, l2, s0 + s1, l4 + 1] G Q))
set_option maxRecDepth 20000 in
theorem TX2_faces_98 {j : Nat → rx_K} {J : Nat → List Int → gS → (Int → gS → Prop) → Prop} {l1 : Int} {l2 : Int} {l3 : Int} {l4 : Int} {s0 : Int} {s1 : Int} {G : gS} {Q : Int → gS → Prop} (hl3 : inI l3) (hl4 : inI l4) (hs0 : inI s0) (hs1 : inI s1) (hj0 : ∀ (l1 : Int) (l2 : Int) (l3 : Int) (l4 : Int) (G : gS), (inI l3) → (inI l4) → J 0 [l1, l2, l3, l4] G Q → Tg W0 (j 0) [rf (934), rf (l1), rf (l2), cI (l3), cI (l4)] [] G (fun r G => ∃ v, r = cI v ∧ inI v ∧ Q v G)) (hj1 : ∀ (l1 : Int) (l2 : Int) (l3 : Int) (l4 : Int) (G : gS), (inI l3) → (inI l4) → J 1 [l1, l2, l3, l4] G Q → Tg W0 (j 1) [rf (934), rf (l1), rf (l2), cI (l3), cI (l4)] [] G (fun r G => ∃ v, r = cI v ∧ inI v ∧ Q v G)) (h : PX2_faces_98 J l1 l2 l3 l4 s0 s1 G Q) : Tg W0 (vX2_faces_98 j) [rf (934), rf (l1), rf (l2), cI (l3), cI (l4)] [cI (s1), cI (s0)] G (fun r G => ∃ v, r = cI v ∧ inI v ∧ Q v G) := by
  unfold PX2_faces_98 at h
  unfold vX2_faces_98
  refine g_add ?_
  refine g_st (lv' := [_, _, _, _, _]) (is_I _) (Nat.le_of_ble_eq_true rfl) (Or.inr (n1_R _)) rfl ?_
  obtain ⟨q42, h⟩ := h
  refine g_inc (lv' := [_, _, _, _, _]) rfl (Nat.le_of_ble_eq_true rfl) (Or.inr (n1_I _)) rfl ?_
  obtain ⟨q43, h⟩ := h
  exact hj1 _ _ _ _ _ q42 q43 h
def PX2_faces_57 (J : Nat → List Int → gS → (Int → gS → Prop) → Prop) (l1 : Int) (l2 : Int) (l3 : Int) (l4 : Int) (G : gS) (Q : Int → gS → Prop) : Prop :=
  (isO W0 10 (l2) ∧ ((0 : Int) ≤ 0 ∧ ((0 : Int) < 3 ∧ (inI (G (l2 + 2) 0) → ((l4 < G (l2 + 2) 0 → PX10_listedAt l2 0 l4 G (fun r25 G24 => inL r25 → (isO W0 10 (l1) ∧ PX10_has l1 0 r25 G24 (fun r29 G28 => (0 ≤ r29 ∧ r29 ≤ 1) → ((r29 = 0 → PX2_note 11 (-2) (-2) G28 (fun r33 G32 => inI r33 → PX2_faces_98 J l1 l2 l3 l4 l3 r33 G32 Q)) ∧ (¬ (r29 = 0) → PX2_faces_98 J l1 l2 l3 l4 l3 0 G28 Q)))))) ∧ (¬ (l4 < G (l2 + 2) 0) → (isO W0 10 (l1) ∧ (inL (G l1 9) → (inL (G l2 9) → ((G l1 9 = G l2 9 → PX2_faces_133 J l1 l2 l3 l4 l3 0 G Q) ∧ (¬ (G l1 9 = G l2 9) → PX2_note 12 (-2) (-2) G (fun r40 G39 => inI r40 → PX2_faces_133 J l1 l2 l3 l4 l3 r40 G39 Q))))))))))))
set_option maxRecDepth 20000 in
theorem TX2_faces_57 {j : Nat → rx_K} {J : Nat → List Int → gS → (Int → gS → Prop) → Prop} {l1 : Int} {l2 : Int} {l3 : Int} {l4 : Int} {G : gS} {Q : Int → gS → Prop} (hl3 : inI l3) (hl4 : inI l4) (hj0 : ∀ (l1 : Int) (l2 : Int) (l3 : Int) (l4 : Int) (G : gS), (inI l3) → (inI l4) → J 0 [l1, l2, l3, l4] G Q → Tg W0 (j 0) [rf (934), rf (l1), rf (l2), cI (l3), cI (l4)] [] G (fun r G => ∃ v, r = cI v ∧ inI v ∧ Q v G)) (hj1 : ∀ (l1 : Int) (l2 : Int) (l3 : Int) (l4 : Int) (G : gS), (inI l3) → (inI l4) → J 1 [l1, l2, l3, l4] G Q → Tg W0 (j 1) [rf (934), rf (l1), rf (l2), cI (l3), cI (l4)] [] G (fun r G => ∃ v, r = cI v ∧ inI v ∧ Q v G)) (h : PX2_faces_57 J l1 l2 l3 l4 G Q) : Tg W0 (vX2_faces_57 j) [rf (934), rf (l1), rf (l2), cI (l3), cI (l4)] [] G (fun r G => ∃ v, r = cI v ∧ inI v ∧ Q v G) := by
  unfold PX2_faces_57 at h
  unfold vX2_faces_57
  refine g_ld (v := cI _) rfl (is_I _) ?_
  refine g_ld (v := rf _) rfl (is_R _) ?_
  obtain ⟨q19, h⟩ := h
  refine g_getF q19 (ff10_11 q19).1 rfl (Nat.le_of_ble_eq_true rfl) (Nat.le_of_ble_eq_true rfl) ?_
  refine g_const (v := cI (0)) rfl ?_
  obtain ⟨q20, q21, h⟩ := h
  refine g_aldI (ff10_11 q19).2 q20 q21 rfl fun i22 => ?_
  replace h := h i22
  refine g_lt2 hl4 i22 (fun b23 => ?_) (fun b23 => ?_)
  · replace h := h.1 b23
    unfold vX2_faces_68
    refine g_ld (v := cI _) rfl (is_I _) ?_
    refine g_ld (v := rf _) rfl (is_R _) ?_
    refine g_const (v := cI (0)) rfl ?_
    refine g_ld (v := rf _) rfl (is_R _) ?_
    refine g_const (v := cI (0)) rfl ?_
    refine g_ld (v := cI _) rfl (is_I _) ?_
    refine g_callV (As := [_, _]) (ci := 10) q19 (fun _ => rfl) ?_
    refine g_go1 (by simp only [cs_c, cs_0, ct_I, ct_L, ct_R]; exact Nat.le_of_ble_eq_true rfl) (Tn_w (TX10_listedAt ⟨by omega, by omega⟩ hl4 h) fun _ G24 ⟨r25, e, i26, h⟩ => ?_)
    subst e
    refine ⟨n7_L _, ?_⟩
    replace h := h i26
    obtain ⟨q27, h⟩ := h
    refine g_callV (As := [_, _]) (ci := 10) q27 (fun _ => rfl) ?_
    refine g_go1 (by simp only [cs_c, cs_0, ct_I, ct_L, ct_R]; exact Nat.le_of_ble_eq_true rfl) (Tn_w (TX10_has ⟨by omega, by omega⟩ i26 h) fun _ G28 ⟨r29, e, i30, h⟩ => ?_)
    subst e
    refine ⟨n7_I _, ?_⟩
    replace h := h i30
    refine g_eq1 ⟨by omega, by omega⟩ (fun b31 => ?_) (fun b31 => ?_)
    · replace h := h.1 b31
      unfold vX2_faces_88
      refine g_ld (v := rf _) rfl (is_R _) ?_
      refine g_const (v := cI (11)) rfl ?_
      refine g_const (v := cI (-2)) rfl ?_
      refine g_const (v := cI (-2)) rfl ?_
      refine g_callV (As := [_, _, _]) (ci := 2) oC2 (fun _ => rfl) ?_
      refine g_go1 (by simp only [cs_c, cs_0, ct_I, ct_L, ct_R]; exact Nat.le_of_ble_eq_true rfl) (Tn_w (TX2_note ⟨by omega, by omega⟩ ⟨by omega, by omega⟩ ⟨by omega, by omega⟩ h) fun _ G32 ⟨r33, e, i34, h⟩ => ?_)
      subst e
      refine ⟨n7_I _, ?_⟩
      replace h := h i34
      exact TX2_faces_98 hl3 hl4 hl3 i34 hj0 hj1 h
    · replace h := h.2 b31
      unfold vX2_faces_84
      refine g_const (v := cI (0)) rfl ?_
      exact TX2_faces_98 hl3 hl4 hl3 ⟨by omega, by omega⟩ hj0 hj1 h
  · replace h := h.2 b23
    unfold vX2_faces_106
    refine g_ld (v := cI _) rfl (is_I _) ?_
    refine g_ld (v := rf _) rfl (is_R _) ?_
    obtain ⟨q35, h⟩ := h
    refine g_getL (kz := 9) q35 rfl (Nat.le_of_ble_eq_true rfl) rfl fun i36 => ?_
    replace h := h i36
    refine g_ld (v := rf _) rfl (is_R _) ?_
    refine g_getL (kz := 9) q19 rfl (Nat.le_of_ble_eq_true rfl) rfl fun i37 => ?_
    replace h := h i37
    refine g_leq i36 i37 (fun b38 => ?_) (fun b38 => ?_)
    · replace h := h.1 b38
      unfold vX2_faces_132
      refine g_const (v := cI (0)) rfl ?_
      exact TX2_faces_133 hl3 hl4 hl3 ⟨by omega, by omega⟩ hj0 hj1 h
    · replace h := h.2 b38
      unfold vX2_faces_119
      refine g_ld (v := rf _) rfl (is_R _) ?_
      refine g_const (v := cI (12)) rfl ?_
      refine g_const (v := cI (-2)) rfl ?_
      refine g_const (v := cI (-2)) rfl ?_
      refine g_callV (As := [_, _, _]) (ci := 2) oC2 (fun _ => rfl) ?_
      refine g_go1 (by simp only [cs_c, cs_0, ct_I, ct_L, ct_R]; exact Nat.le_of_ble_eq_true rfl) (Tn_w (TX2_note ⟨by omega, by omega⟩ ⟨by omega, by omega⟩ ⟨by omega, by omega⟩ h) fun _ G39 ⟨r40, e, i41, h⟩ => ?_)
      subst e
      refine ⟨n7_I _, ?_⟩
      replace h := h i41
      exact TX2_faces_133 hl3 hl4 hl3 i41 hj0 hj1 h
def PX2_faces_46 (J : Nat → List Int → gS → (Int → gS → Prop) → Prop) (l1 : Int) (l2 : Int) (l3 : Int) (l4 : Int) (s0 : Int) (s1 : Int) (G : gS) (Q : Int → gS → Prop) : Prop :=
  (inI (s0 + s1) ∧ (inI (l4 + 1) ∧ J 0 [l1, l2, s0 + s1, l4 + 1] G Q))
set_option maxRecDepth 20000 in
theorem TX2_faces_46 {j : Nat → rx_K} {J : Nat → List Int → gS → (Int → gS → Prop) → Prop} {l1 : Int} {l2 : Int} {l3 : Int} {l4 : Int} {s0 : Int} {s1 : Int} {G : gS} {Q : Int → gS → Prop} (hl3 : inI l3) (hl4 : inI l4) (hs0 : inI s0) (hs1 : inI s1) (hj0 : ∀ (l1 : Int) (l2 : Int) (l3 : Int) (l4 : Int) (G : gS), (inI l3) → (inI l4) → J 0 [l1, l2, l3, l4] G Q → Tg W0 (j 0) [rf (934), rf (l1), rf (l2), cI (l3), cI (l4)] [] G (fun r G => ∃ v, r = cI v ∧ inI v ∧ Q v G)) (hj1 : ∀ (l1 : Int) (l2 : Int) (l3 : Int) (l4 : Int) (G : gS), (inI l3) → (inI l4) → J 1 [l1, l2, l3, l4] G Q → Tg W0 (j 1) [rf (934), rf (l1), rf (l2), cI (l3), cI (l4)] [] G (fun r G => ∃ v, r = cI v ∧ inI v ∧ Q v G)) (h : PX2_faces_46 J l1 l2 l3 l4 s0 s1 G Q) : Tg W0 (vX2_faces_46 j) [rf (934), rf (l1), rf (l2), cI (l3), cI (l4)] [cI (s1), cI (s0)] G (fun r G => ∃ v, r = cI v ∧ inI v ∧ Q v G) := by
  unfold PX2_faces_46 at h
  unfold vX2_faces_46
  refine g_add ?_
  refine g_st (lv' := [_, _, _, _, _]) (is_I _) (Nat.le_of_ble_eq_true rfl) (Or.inr (n1_R _)) rfl ?_
  obtain ⟨q17, h⟩ := h
  refine g_inc (lv' := [_, _, _, _, _]) rfl (Nat.le_of_ble_eq_true rfl) (Or.inr (n1_I _)) rfl ?_
  obtain ⟨q18, h⟩ := h
  exact hj0 _ _ _ _ _ q17 q18 h
def PX2_faces_5 (J : Nat → List Int → gS → (Int → gS → Prop) → Prop) (l1 : Int) (l2 : Int) (l3 : Int) (l4 : Int) (G : gS) (Q : Int → gS → Prop) : Prop :=
  (isO W0 10 (l1) ∧ ((0 : Int) ≤ 0 ∧ ((0 : Int) < 3 ∧ (inI (G (l1 + 2) 0) → ((l4 < G (l1 + 2) 0 → PX10_listedAt l1 0 l4 G (fun r7 G6 => inL r7 → (isO W0 10 (l2) ∧ PX10_has l2 0 r7 G6 (fun r11 G10 => (0 ≤ r11 ∧ r11 ≤ 1) → ((r11 = 0 → PX2_note 10 (-2) (-2) G10 (fun r15 G14 => inI r15 → PX2_faces_46 J l1 l2 l3 l4 l3 r15 G14 Q)) ∧ (¬ (r11 = 0) → PX2_faces_46 J l1 l2 l3 l4 l3 0 G10 Q)))))) ∧ (¬ (l4 < G (l1 + 2) 0) → PX2_faces_57 J l1 l2 l3 0 G Q))))))
set_option maxRecDepth 20000 in
theorem TX2_faces_5 {j : Nat → rx_K} {J : Nat → List Int → gS → (Int → gS → Prop) → Prop} {l1 : Int} {l2 : Int} {l3 : Int} {l4 : Int} {G : gS} {Q : Int → gS → Prop} (hl3 : inI l3) (hl4 : inI l4) (hj0 : ∀ (l1 : Int) (l2 : Int) (l3 : Int) (l4 : Int) (G : gS), (inI l3) → (inI l4) → J 0 [l1, l2, l3, l4] G Q → Tg W0 (j 0) [rf (934), rf (l1), rf (l2), cI (l3), cI (l4)] [] G (fun r G => ∃ v, r = cI v ∧ inI v ∧ Q v G)) (hj1 : ∀ (l1 : Int) (l2 : Int) (l3 : Int) (l4 : Int) (G : gS), (inI l3) → (inI l4) → J 1 [l1, l2, l3, l4] G Q → Tg W0 (j 1) [rf (934), rf (l1), rf (l2), cI (l3), cI (l4)] [] G (fun r G => ∃ v, r = cI v ∧ inI v ∧ Q v G)) (h : PX2_faces_5 J l1 l2 l3 l4 G Q) : Tg W0 (vX2_faces_5 j) [rf (934), rf (l1), rf (l2), cI (l3), cI (l4)] [] G (fun r G => ∃ v, r = cI v ∧ inI v ∧ Q v G) := by
  unfold PX2_faces_5 at h
  unfold vX2_faces_5
  refine g_ld (v := cI _) rfl (is_I _) ?_
  refine g_ld (v := rf _) rfl (is_R _) ?_
  obtain ⟨q1, h⟩ := h
  refine g_getF q1 (ff10_11 q1).1 rfl (Nat.le_of_ble_eq_true rfl) (Nat.le_of_ble_eq_true rfl) ?_
  refine g_const (v := cI (0)) rfl ?_
  obtain ⟨q2, q3, h⟩ := h
  refine g_aldI (ff10_11 q1).2 q2 q3 rfl fun i4 => ?_
  replace h := h i4
  refine g_lt2 hl4 i4 (fun b5 => ?_) (fun b5 => ?_)
  · replace h := h.1 b5
    unfold vX2_faces_16
    refine g_ld (v := cI _) rfl (is_I _) ?_
    refine g_ld (v := rf _) rfl (is_R _) ?_
    refine g_const (v := cI (0)) rfl ?_
    refine g_ld (v := rf _) rfl (is_R _) ?_
    refine g_const (v := cI (0)) rfl ?_
    refine g_ld (v := cI _) rfl (is_I _) ?_
    refine g_callV (As := [_, _]) (ci := 10) q1 (fun _ => rfl) ?_
    refine g_go1 (by simp only [cs_c, cs_0, ct_I, ct_L, ct_R]; exact Nat.le_of_ble_eq_true rfl) (Tn_w (TX10_listedAt ⟨by omega, by omega⟩ hl4 h) fun _ G6 ⟨r7, e, i8, h⟩ => ?_)
    subst e
    refine ⟨n7_L _, ?_⟩
    replace h := h i8
    obtain ⟨q9, h⟩ := h
    refine g_callV (As := [_, _]) (ci := 10) q9 (fun _ => rfl) ?_
    refine g_go1 (by simp only [cs_c, cs_0, ct_I, ct_L, ct_R]; exact Nat.le_of_ble_eq_true rfl) (Tn_w (TX10_has ⟨by omega, by omega⟩ i8 h) fun _ G10 ⟨r11, e, i12, h⟩ => ?_)
    subst e
    refine ⟨n7_I _, ?_⟩
    replace h := h i12
    refine g_eq1 ⟨by omega, by omega⟩ (fun b13 => ?_) (fun b13 => ?_)
    · replace h := h.1 b13
      unfold vX2_faces_36
      refine g_ld (v := rf _) rfl (is_R _) ?_
      refine g_const (v := cI (10)) rfl ?_
      refine g_const (v := cI (-2)) rfl ?_
      refine g_const (v := cI (-2)) rfl ?_
      refine g_callV (As := [_, _, _]) (ci := 2) oC2 (fun _ => rfl) ?_
      refine g_go1 (by simp only [cs_c, cs_0, ct_I, ct_L, ct_R]; exact Nat.le_of_ble_eq_true rfl) (Tn_w (TX2_note ⟨by omega, by omega⟩ ⟨by omega, by omega⟩ ⟨by omega, by omega⟩ h) fun _ G14 ⟨r15, e, i16, h⟩ => ?_)
      subst e
      refine ⟨n7_I _, ?_⟩
      replace h := h i16
      exact TX2_faces_46 hl3 hl4 hl3 i16 hj0 hj1 h
    · replace h := h.2 b13
      unfold vX2_faces_32
      refine g_const (v := cI (0)) rfl ?_
      exact TX2_faces_46 hl3 hl4 hl3 ⟨by omega, by omega⟩ hj0 hj1 h
  · replace h := h.2 b5
    unfold vX2_faces_54
    refine g_const (v := cI (0)) rfl ?_
    refine g_st (lv' := [_, _, _, _, _]) (is_I _) (Nat.le_of_ble_eq_true rfl) (Or.inr (n1_I _)) rfl ?_
    exact TX2_faces_57 hl3 ⟨by omega, by omega⟩ hj0 hj1 h
def PX2_faces_0 (J : Nat → List Int → gS → (Int → gS → Prop) → Prop) (a1 : Int) (a2 : Int) (G : gS) (Q : Int → gS → Prop) : Prop :=
  PX2_faces_5 J a1 a2 0 0 G Q
set_option maxRecDepth 20000 in
theorem TX2_faces_0 {j : Nat → rx_K} {J : Nat → List Int → gS → (Int → gS → Prop) → Prop} {a1 : Int} {a2 : Int} {G : gS} {Q : Int → gS → Prop}  (hj0 : ∀ (l1 : Int) (l2 : Int) (l3 : Int) (l4 : Int) (G : gS), (inI l3) → (inI l4) → J 0 [l1, l2, l3, l4] G Q → Tg W0 (j 0) [rf (934), rf (l1), rf (l2), cI (l3), cI (l4)] [] G (fun r G => ∃ v, r = cI v ∧ inI v ∧ Q v G)) (hj1 : ∀ (l1 : Int) (l2 : Int) (l3 : Int) (l4 : Int) (G : gS), (inI l3) → (inI l4) → J 1 [l1, l2, l3, l4] G Q → Tg W0 (j 1) [rf (934), rf (l1), rf (l2), cI (l3), cI (l4)] [] G (fun r G => ∃ v, r = cI v ∧ inI v ∧ Q v G)) (h : PX2_faces_0 J a1 a2 G Q) : Tg W0 (vX2_faces_0 j) [rf (934), rf (a1), rf (a2), 7, 7] [] G (fun r G => ∃ v, r = cI v ∧ inI v ∧ Q v G) := by
  unfold PX2_faces_0 at h
  unfold vX2_faces_0
  refine g_const (v := cI (0)) rfl ?_
  refine g_st (lv' := [_, _, _, _, _]) (is_I _) (Nat.le_of_ble_eq_true rfl) (Or.inr (n1_R _)) rfl ?_
  refine g_const (v := cI (0)) rfl ?_
  refine g_st (lv' := [_, _, _, _, _]) (is_I _) (Nat.le_of_ble_eq_true rfl) (Or.inr (n1_I _)) rfl ?_
  exact TX2_faces_5 ⟨by omega, by omega⟩ ⟨by omega, by omega⟩ hj0 hj1 h
def PX2_faces_J : Nat → Nat → List Int → gS → (Int → gS → Prop) → Prop
  | 0, _, _, _, _ => False
  | f + 1, h, L, G, Q => match h, L with
    | 0, [l1, l2, l3, l4] => PX2_faces_5 (PX2_faces_J f) l1 l2 l3 l4 G Q
    | 1, [l1, l2, l3, l4] => PX2_faces_57 (PX2_faces_J f) l1 l2 l3 l4 G Q
    | _, _ => False
theorem TX2_faces_J {Q : Int → gS → Prop} : ∀ f N : Nat, f ≤ N → (∀ (l1 : Int) (l2 : Int) (l3 : Int) (l4 : Int) (G : gS), (inI l3) → (inI l4) → (PX2_faces_J f) 0 [l1, l2, l3, l4] G Q → Tg W0 (rx_J vhX2_faces N 0) [rf (934), rf (l1), rf (l2), cI (l3), cI (l4)] [] G (fun r G => ∃ v, r = cI v ∧ inI v ∧ Q v G)) ∧ (∀ (l1 : Int) (l2 : Int) (l3 : Int) (l4 : Int) (G : gS), (inI l3) → (inI l4) → (PX2_faces_J f) 1 [l1, l2, l3, l4] G Q → Tg W0 (rx_J vhX2_faces N 1) [rf (934), rf (l1), rf (l2), cI (l3), cI (l4)] [] G (fun r G => ∃ v, r = cI v ∧ inI v ∧ Q v G)) := by
  intro f
  induction f with
  | zero => exact fun N _ => ⟨fun _ _ _ _ _ _ _ h => h.elim, fun _ _ _ _ _ _ _ h => h.elim⟩
  | succ f ih =>
    intro N hN
    obtain ⟨M, rfl⟩ : ∃ M, N = M + 1 := ⟨N - 1, by omega⟩
    have ih := ih M (by omega)
    exact ⟨fun _ _ _ _ _ hl3 hl4 h => show Tg W0 (vX2_faces_5 (rx_J vhX2_faces M)) _ _ _ _ from TX2_faces_5 hl3 hl4 ih.1 ih.2 h, fun _ _ _ _ _ hl3 hl4 h => show Tg W0 (vX2_faces_57 (rx_J vhX2_faces M)) _ _ _ _ from TX2_faces_57 hl3 hl4 ih.1 ih.2 h⟩
def PX2_faces (a1 : Int) (a2 : Int) (G : gS) (Q : Int → gS → Prop) : Prop := ∃ f : Nat, f ≤ 4000000000 ∧ PX2_faces_0 (PX2_faces_J f) a1 a2 G Q
theorem TX2_faces {a1 : Int} {a2 : Int} {G : gS} {Q : Int → gS → Prop}  (h : PX2_faces a1 a2 G Q) : Tn W0 FX2_faces [rf (934), rf (a1), rf (a2)] G (fun r G => ∃ v, r = cI v ∧ inI v ∧ Q v G) := by
  obtain ⟨f, hf, h⟩ := h
  have hJ := TX2_faces_J (Q := Q) f 4000000000 hf
  unfold FX2_faces
  refine g_ent (lv' := [rf (934), rf (a1), rf (a2), 7, 7]) (flR (flR (flR fl0))) (Nat.le_of_ble_eq_true rfl) rfl ?_
  exact TX2_faces_0  hJ.1 hJ.2 h
def PX2_access_29 (l1 : Int) (l2 : Int) (l3 : Int) (l4 : Int) (l5 : Int) (s0 : Int) (G : gS) (Q : Int → gS → Prop) : Prop :=
  Q (s0) G
set_option maxRecDepth 20000 in
theorem TX2_access_29 {l1 : Int} {l2 : Int} {l3 : Int} {l4 : Int} {l5 : Int} {s0 : Int} {G : gS} {Q : Int → gS → Prop} (hl1 : inI l1) (hl2 : inI l2) (hl3 : inI l3) (hl4 : inI l4) (hl5 : inI l5) (hs0 : inI s0) (h : PX2_access_29 l1 l2 l3 l4 l5 s0 G Q) : Tg W0 vX2_access_29 [rf (934), cI (l1), cI (l2), cI (l3), cI (l4), cI (l5)] [cI (s0)] G (fun r G => ∃ v, r = cI v ∧ inI v ∧ Q v G) := by
  unfold PX2_access_29 at h
  unfold vX2_access_29
  exact g_ret1 (is_I _) ⟨_, rfl, hs0, h⟩
def PX2_access_22 (l1 : Int) (l2 : Int) (l3 : Int) (l4 : Int) (l5 : Int) (s0 : Int) (s1 : Int) (G : gS) (Q : Int → gS → Prop) : Prop :=
  (isO W0 2 (s0) ∧ PX2_note s1 l4 l5 G (fun r6 G5 => inI r6 → PX2_access_29 l1 l2 l3 l4 l5 r6 G5 Q))
set_option maxRecDepth 20000 in
theorem TX2_access_22 {l1 : Int} {l2 : Int} {l3 : Int} {l4 : Int} {l5 : Int} {s0 : Int} {s1 : Int} {G : gS} {Q : Int → gS → Prop} (hl1 : inI l1) (hl2 : inI l2) (hl3 : inI l3) (hl4 : inI l4) (hl5 : inI l5) (hs1 : inI s1) (h : PX2_access_22 l1 l2 l3 l4 l5 s0 s1 G Q) : Tg W0 vX2_access_22 [rf (934), cI (l1), cI (l2), cI (l3), cI (l4), cI (l5)] [cI (s1), rf (s0)] G (fun r G => ∃ v, r = cI v ∧ inI v ∧ Q v G) := by
  unfold PX2_access_22 at h
  unfold vX2_access_22
  refine g_ld (v := cI _) rfl (is_I _) ?_
  refine g_ld (v := cI _) rfl (is_I _) ?_
  obtain ⟨q4, h⟩ := h
  refine g_callV (As := [_, _, _]) (ci := 2) q4 (fun _ => rfl) ?_
  refine g_go1 (Nat.le_of_ble_eq_true rfl) (Tn_w (Tn_eq (one2 q4) (TX2_note hs1 hl4 hl5 h)) fun _ G5 ⟨r6, e, i7, h⟩ => ?_)
  subst e
  refine ⟨n7_I _, ?_⟩
  replace h := h i7
  exact TX2_access_29 hl1 hl2 hl3 hl4 hl5 i7 h
def PX2_access_0 (a1 : Int) (a2 : Int) (a3 : Int) (a4 : Int) (a5 : Int) (G : gS) (Q : Int → gS → Prop) : Prop :=
  ((a1 = a2 → PX2_access_29 a1 a2 a3 a4 a5 0 G Q) ∧ (¬ (a1 = a2) → ((a2 < a1 → PX2_access_22 a1 a2 a3 a4 a5 934 a3 G Q) ∧ (¬ (a2 < a1) → (inI (a3 + 1) ∧ PX2_access_22 a1 a2 a3 a4 a5 934 (a3 + 1) G Q)))))
set_option maxRecDepth 20000 in
theorem TX2_access_0 {a1 : Int} {a2 : Int} {a3 : Int} {a4 : Int} {a5 : Int} {G : gS} {Q : Int → gS → Prop} (ha1 : inI a1) (ha2 : inI a2) (ha3 : inI a3) (ha4 : inI a4) (ha5 : inI a5) (h : PX2_access_0 a1 a2 a3 a4 a5 G Q) : Tg W0 vX2_access_0 [rf (934), cI (a1), cI (a2), cI (a3), cI (a4), cI (a5)] [] G (fun r G => ∃ v, r = cI v ∧ inI v ∧ Q v G) := by
  unfold PX2_access_0 at h
  unfold vX2_access_0
  refine g_ld (v := cI _) rfl (is_I _) ?_
  refine g_ld (v := cI _) rfl (is_I _) ?_
  refine g_eq2 ha1 ha2 (fun b1 => ?_) (fun b1 => ?_)
  · replace h := h.1 b1
    unfold vX2_access_5
    refine g_const (v := cI (0)) rfl ?_
    exact TX2_access_29 ha1 ha2 ha3 ha4 ha5 ⟨by omega, by omega⟩ h
  · replace h := h.2 b1
    unfold vX2_access_9
    refine g_ld (v := rf _) rfl (is_R _) ?_
    refine g_ld (v := cI _) rfl (is_I _) ?_
    refine g_ld (v := cI _) rfl (is_I _) ?_
    refine g_lt2 ha2 ha1 (fun b2 => ?_) (fun b2 => ?_)
    · replace h := h.1 b2
      unfold vX2_access_15
      refine g_ld (v := cI _) rfl (is_I _) ?_
      exact TX2_access_22 ha1 ha2 ha3 ha4 ha5 ha3 h
    · replace h := h.2 b2
      unfold vX2_access_19
      refine g_ld (v := cI _) rfl (is_I _) ?_
      refine g_const (v := cI (1)) rfl ?_
      refine g_add ?_
      obtain ⟨q3, h⟩ := h
      exact TX2_access_22 ha1 ha2 ha3 ha4 ha5 q3 h
abbrev PX2_access (a1 : Int) (a2 : Int) (a3 : Int) (a4 : Int) (a5 : Int) (G : gS) (Q : Int → gS → Prop) : Prop := PX2_access_0 a1 a2 a3 a4 a5 G Q
theorem TX2_access {a1 : Int} {a2 : Int} {a3 : Int} {a4 : Int} {a5 : Int} {G : gS} {Q : Int → gS → Prop} (ha1 : inI a1) (ha2 : inI a2) (ha3 : inI a3) (ha4 : inI a4) (ha5 : inI a5) (h : PX2_access a1 a2 a3 a4 a5 G Q) : Tn W0 FX2_access [rf (934), cI (a1), cI (a2), cI (a3), cI (a4), cI (a5)] G (fun r G => ∃ v, r = cI v ∧ inI v ∧ Q v G) := by
  unfold FX2_access
  refine g_ent (lv' := [rf (934), cI (a1), cI (a2), cI (a3), cI (a4), cI (a5)]) (flR (flI (flI (flI (flI (flI fl0)))))) (Nat.le_of_ble_eq_true rfl) rfl ?_
  exact TX2_access_0 ha1 ha2 ha3 ha4 ha5 h
def PX2_turned_28 (l1 : Int) (l2 : Int) (l3 : Int) (l4 : Int) (l5 : Int) (s0 : Int) (G : gS) (Q : Int → gS → Prop) : Prop :=
  Q (s0) G
set_option maxRecDepth 20000 in
theorem TX2_turned_28 {l1 : Int} {l2 : Int} {l3 : Int} {l4 : Int} {l5 : Int} {s0 : Int} {G : gS} {Q : Int → gS → Prop} (hl1 : inI l1) (hl2 : inI l2) (hl3 : inI l3) (hl4 : inI l4) (hl5 : inI l5) (hs0 : inI s0) (h : PX2_turned_28 l1 l2 l3 l4 l5 s0 G Q) : Tg W0 vX2_turned_28 [rf (934), cI (l1), cI (l2), cI (l3), cI (l4), cI (l5)] [cI (s0)] G (fun r G => ∃ v, r = cI v ∧ inI v ∧ Q v G) := by
  unfold PX2_turned_28 at h
  unfold vX2_turned_28
  exact g_ret1 (is_I _) ⟨_, rfl, hs0, h⟩
def PX2_turned_21 (l1 : Int) (l2 : Int) (l3 : Int) (l4 : Int) (l5 : Int) (s0 : Int) (s1 : Int) (G : gS) (Q : Int → gS → Prop) : Prop :=
  (isO W0 2 (s0) ∧ PX2_note s1 l4 l5 G (fun r6 G5 => inI r6 → PX2_turned_28 l1 l2 l3 l4 l5 r6 G5 Q))
set_option maxRecDepth 20000 in
theorem TX2_turned_21 {l1 : Int} {l2 : Int} {l3 : Int} {l4 : Int} {l5 : Int} {s0 : Int} {s1 : Int} {G : gS} {Q : Int → gS → Prop} (hl1 : inI l1) (hl2 : inI l2) (hl3 : inI l3) (hl4 : inI l4) (hl5 : inI l5) (hs1 : inI s1) (h : PX2_turned_21 l1 l2 l3 l4 l5 s0 s1 G Q) : Tg W0 vX2_turned_21 [rf (934), cI (l1), cI (l2), cI (l3), cI (l4), cI (l5)] [cI (s1), rf (s0)] G (fun r G => ∃ v, r = cI v ∧ inI v ∧ Q v G) := by
  unfold PX2_turned_21 at h
  unfold vX2_turned_21
  refine g_ld (v := cI _) rfl (is_I _) ?_
  refine g_ld (v := cI _) rfl (is_I _) ?_
  obtain ⟨q4, h⟩ := h
  refine g_callV (As := [_, _, _]) (ci := 2) q4 (fun _ => rfl) ?_
  refine g_go1 (Nat.le_of_ble_eq_true rfl) (Tn_w (Tn_eq (one2 q4) (TX2_note hs1 hl4 hl5 h)) fun _ G5 ⟨r6, e, i7, h⟩ => ?_)
  subst e
  refine ⟨n7_I _, ?_⟩
  replace h := h i7
  exact TX2_turned_28 hl1 hl2 hl3 hl4 hl5 i7 h
def PX2_turned_0 (a1 : Int) (a2 : Int) (a3 : Int) (a4 : Int) (a5 : Int) (G : gS) (Q : Int → gS → Prop) : Prop :=
  ((a1 = a2 → PX2_turned_28 a1 a2 a3 a4 a5 0 G Q) ∧ (¬ (a1 = a2) → ((a2 = 0 → (inI (a3 + 1) ∧ PX2_turned_21 a1 a2 a3 a4 a5 934 (a3 + 1) G Q)) ∧ (¬ (a2 = 0) → PX2_turned_21 a1 a2 a3 a4 a5 934 a3 G Q))))
set_option maxRecDepth 20000 in
theorem TX2_turned_0 {a1 : Int} {a2 : Int} {a3 : Int} {a4 : Int} {a5 : Int} {G : gS} {Q : Int → gS → Prop} (ha1 : inI a1) (ha2 : inI a2) (ha3 : inI a3) (ha4 : inI a4) (ha5 : inI a5) (h : PX2_turned_0 a1 a2 a3 a4 a5 G Q) : Tg W0 vX2_turned_0 [rf (934), cI (a1), cI (a2), cI (a3), cI (a4), cI (a5)] [] G (fun r G => ∃ v, r = cI v ∧ inI v ∧ Q v G) := by
  unfold PX2_turned_0 at h
  unfold vX2_turned_0
  refine g_ld (v := cI _) rfl (is_I _) ?_
  refine g_ld (v := cI _) rfl (is_I _) ?_
  refine g_eq2 ha1 ha2 (fun b1 => ?_) (fun b1 => ?_)
  · replace h := h.1 b1
    unfold vX2_turned_5
    refine g_const (v := cI (0)) rfl ?_
    exact TX2_turned_28 ha1 ha2 ha3 ha4 ha5 ⟨by omega, by omega⟩ h
  · replace h := h.2 b1
    unfold vX2_turned_9
    refine g_ld (v := rf _) rfl (is_R _) ?_
    refine g_ld (v := cI _) rfl (is_I _) ?_
    refine g_eq1 ha2 (fun b2 => ?_) (fun b2 => ?_)
    · replace h := h.1 b2
      unfold vX2_turned_18
      refine g_ld (v := cI _) rfl (is_I _) ?_
      refine g_const (v := cI (1)) rfl ?_
      refine g_add ?_
      obtain ⟨q3, h⟩ := h
      exact TX2_turned_21 ha1 ha2 ha3 ha4 ha5 q3 h
    · replace h := h.2 b2
      unfold vX2_turned_14
      refine g_ld (v := cI _) rfl (is_I _) ?_
      exact TX2_turned_21 ha1 ha2 ha3 ha4 ha5 ha3 h
abbrev PX2_turned (a1 : Int) (a2 : Int) (a3 : Int) (a4 : Int) (a5 : Int) (G : gS) (Q : Int → gS → Prop) : Prop := PX2_turned_0 a1 a2 a3 a4 a5 G Q
theorem TX2_turned {a1 : Int} {a2 : Int} {a3 : Int} {a4 : Int} {a5 : Int} {G : gS} {Q : Int → gS → Prop} (ha1 : inI a1) (ha2 : inI a2) (ha3 : inI a3) (ha4 : inI a4) (ha5 : inI a5) (h : PX2_turned a1 a2 a3 a4 a5 G Q) : Tn W0 FX2_turned [rf (934), cI (a1), cI (a2), cI (a3), cI (a4), cI (a5)] G (fun r G => ∃ v, r = cI v ∧ inI v ∧ Q v G) := by
  unfold FX2_turned
  refine g_ent (lv' := [rf (934), cI (a1), cI (a2), cI (a3), cI (a4), cI (a5)]) (flR (flI (flI (flI (flI (flI fl0)))))) (Nat.le_of_ble_eq_true rfl) rfl ?_
  exact TX2_turned_0 ha1 ha2 ha3 ha4 ha5 h
def PX2_field_161 (l1 : Int) (l2 : Int) (l3 : Int) (l4 : Int) (l5 : Int) (l6 : Int) (s0 : Int) (s1 : Int) (G : gS) (Q : Int → gS → Prop) : Prop :=
  (inI (s0 + s1) ∧ Q (s0 + s1) G)
set_option maxRecDepth 20000 in
theorem TX2_field_161 {l1 : Int} {l2 : Int} {l3 : Int} {l4 : Int} {l5 : Int} {l6 : Int} {s0 : Int} {s1 : Int} {G : gS} {Q : Int → gS → Prop} (hl3 : inI l3) (hl4 : inI l4) (hl5 : inI l5) (hl6 : inI l6) (hs0 : inI s0) (hs1 : inI s1) (h : PX2_field_161 l1 l2 l3 l4 l5 l6 s0 s1 G Q) : Tg W0 vX2_field_161 [rf (934), rf (l1), rf (l2), cI (l3), cI (l4), cI (l5), cI (l6)] [cI (s1), cI (s0)] G (fun r G => ∃ v, r = cI v ∧ inI v ∧ Q v G) := by
  unfold PX2_field_161 at h
  unfold vX2_field_161
  refine g_add ?_
  obtain ⟨q44, h⟩ := h
  exact g_ret1 (is_I _) ⟨_, rfl, q44, h⟩
def PX2_field_139 (l1 : Int) (l2 : Int) (l3 : Int) (l4 : Int) (l5 : Int) (s0 : Int) (G : gS) (Q : Int → gS → Prop) : Prop :=
  ((s0 = 0 → PX2_field_161 l1 l2 l3 l4 l5 s0 l5 0 G Q) ∧ (¬ (s0 = 0) → PX2_note 27 l3 l4 G (fun r42 G41 => inI r42 → PX2_field_161 l1 l2 l3 l4 l5 s0 l5 r42 G41 Q)))
set_option maxRecDepth 20000 in
theorem TX2_field_139 {l1 : Int} {l2 : Int} {l3 : Int} {l4 : Int} {l5 : Int} {l6 : Nat} {s0 : Int} {G : gS} {Q : Int → gS → Prop} (hl3 : inI l3) (hl4 : inI l4) (hl5 : inI l5) (hl6 : l6 % 8 ≠ 1) (hs0 : inI s0) (h : PX2_field_139 l1 l2 l3 l4 l5 s0 G Q) : Tg W0 vX2_field_139 [rf (934), rf (l1), rf (l2), cI (l3), cI (l4), cI (l5), l6] [cI (s0)] G (fun r G => ∃ v, r = cI v ∧ inI v ∧ Q v G) := by
  unfold PX2_field_139 at h
  unfold vX2_field_139
  refine g_st (lv' := [_, _, _, _, _, _, _]) (is_I _) (Nat.le_of_ble_eq_true rfl) (Or.inr (n1_I _)) rfl ?_
  refine g_ld (v := cI _) rfl (is_I _) ?_
  refine g_ld (v := cI _) rfl (is_I _) ?_
  refine g_eq1 hs0 (fun b40 => ?_) (fun b40 => ?_)
  · replace h := h.1 b40
    unfold vX2_field_160
    refine g_const (v := cI (0)) rfl ?_
    exact TX2_field_161 hl3 hl4 hl5 hs0 hl5 ⟨by omega, by omega⟩ h
  · replace h := h.2 b40
    unfold vX2_field_148
    refine g_ld (v := rf _) rfl (is_R _) ?_
    refine g_const (v := cI (27)) rfl ?_
    refine g_ld (v := cI _) rfl (is_I _) ?_
    refine g_ld (v := cI _) rfl (is_I _) ?_
    refine g_callV (As := [_, _, _]) (ci := 2) oC2 (fun _ => rfl) ?_
    refine g_go1 (by simp only [cs_c, cs_0, ct_I, ct_L, ct_R]; exact Nat.le_of_ble_eq_true rfl) (Tn_w (TX2_note ⟨by omega, by omega⟩ hl3 hl4 h) fun _ G41 ⟨r42, e, i43, h⟩ => ?_)
    subst e
    refine ⟨n7_I _, ?_⟩
    replace h := h i43
    exact TX2_field_161 hl3 hl4 hl5 hs0 hl5 i43 h
def PX2_field_138 (l1 : Int) (l2 : Int) (l3 : Int) (l4 : Int) (l5 : Int) (G : gS) (Q : Int → gS → Prop) : Prop :=
  PX2_field_139 l1 l2 l3 l4 l5 0 G Q
set_option maxRecDepth 20000 in
theorem TX2_field_138 {l1 : Int} {l2 : Int} {l3 : Int} {l4 : Int} {l5 : Int} {l6 : Nat} {G : gS} {Q : Int → gS → Prop} (hl3 : inI l3) (hl4 : inI l4) (hl5 : inI l5) (hl6 : l6 % 8 ≠ 1) (h : PX2_field_138 l1 l2 l3 l4 l5 G Q) : Tg W0 vX2_field_138 [rf (934), rf (l1), rf (l2), cI (l3), cI (l4), cI (l5), l6] [] G (fun r G => ∃ v, r = cI v ∧ inI v ∧ Q v G) := by
  unfold PX2_field_138 at h
  unfold vX2_field_138
  refine g_const (v := cI (0)) rfl ?_
  exact TX2_field_139 hl3 hl4 hl5 hl6 ⟨by omega, by omega⟩ h
def PX2_field_134 (l1 : Int) (l2 : Int) (l3 : Int) (l4 : Int) (l5 : Int) (G : gS) (Q : Int → gS → Prop) : Prop :=
  PX2_field_139 l1 l2 l3 l4 l5 1 G Q
set_option maxRecDepth 20000 in
theorem TX2_field_134 {l1 : Int} {l2 : Int} {l3 : Int} {l4 : Int} {l5 : Int} {l6 : Nat} {G : gS} {Q : Int → gS → Prop} (hl3 : inI l3) (hl4 : inI l4) (hl5 : inI l5) (hl6 : l6 % 8 ≠ 1) (h : PX2_field_134 l1 l2 l3 l4 l5 G Q) : Tg W0 vX2_field_134 [rf (934), rf (l1), rf (l2), cI (l3), cI (l4), cI (l5), l6] [] G (fun r G => ∃ v, r = cI v ∧ inI v ∧ Q v G) := by
  unfold PX2_field_134 at h
  unfold vX2_field_134
  refine g_const (v := cI (1)) rfl ?_
  exact TX2_field_139 hl3 hl4 hl5 hl6 ⟨by omega, by omega⟩ h
def PX2_field_53 (l1 : Int) (l2 : Int) (l3 : Int) (l4 : Int) (l5 : Int) (s0 : Int) (s1 : Int) (G : gS) (Q : Int → gS → Prop) : Prop :=
  (inI (s0 + s1) ∧ ((0 < s0 + s1 → Q (s0 + s1) G) ∧ (¬ (0 < s0 + s1) → (isO W0 7 (l1) ∧ ((0 ≤ G l1 3 ∧ G l1 3 ≤ 1) → (isO W0 7 (l2) ∧ ((0 ≤ G l2 3 ∧ G l2 3 ≤ 1) → PX2_turned (G l1 3) (G l2 3) 23 l3 l4 G (fun r24 G23 => inI r24 → (inI (G23 l1 1) → (inI (G23 l2 1) → PX2_access (G23 l1 1) (G23 l2 1) 25 l3 l4 G23 (fun r29 G28 => inI r29 → (inI (r24 + r29) ∧ ((0 ≤ G28 l1 15 ∧ G28 l1 15 ≤ 1) → ((0 ≤ G28 l2 15 ∧ G28 l2 15 ≤ 1) → ((G28 l1 15 = G28 l2 15 → ((0 ≤ G28 l1 15 ∧ G28 l1 15 ≤ 1) → ((G28 l1 15 = 0 → PX2_field_138 l1 l2 l3 l4 (r24 + r29) G28 Q) ∧ (¬ (G28 l1 15 = 0) → (inI (G28 l1 16) → (inI (G28 l2 16) → ((G28 l1 16 = G28 l2 16 → PX2_field_138 l1 l2 l3 l4 (r24 + r29) G28 Q) ∧ (¬ (G28 l1 16 = G28 l2 16) → PX2_field_134 l1 l2 l3 l4 (r24 + r29) G28 Q)))))))) ∧ (¬ (G28 l1 15 = G28 l2 15) → PX2_field_134 l1 l2 l3 l4 (r24 + r29) G28 Q))))))))))))))))
set_option maxRecDepth 20000 in
theorem TX2_field_53 {l1 : Int} {l2 : Int} {l3 : Int} {l4 : Int} {l5 : Int} {l6 : Nat} {s0 : Int} {s1 : Int} {G : gS} {Q : Int → gS → Prop} (hl3 : inI l3) (hl4 : inI l4) (hl5 : inI l5) (hl6 : l6 % 8 ≠ 1) (hs0 : inI s0) (hs1 : inI s1) (h : PX2_field_53 l1 l2 l3 l4 l5 s0 s1 G Q) : Tg W0 vX2_field_53 [rf (934), rf (l1), rf (l2), cI (l3), cI (l4), cI (l5), l6] [cI (s1), cI (s0)] G (fun r G => ∃ v, r = cI v ∧ inI v ∧ Q v G) := by
  unfold PX2_field_53 at h
  unfold vX2_field_53
  refine g_add ?_
  refine g_st (lv' := [_, _, _, _, _, _, _]) (is_I _) (Nat.le_of_ble_eq_true rfl) (Or.inr (n1_I _)) rfl ?_
  obtain ⟨q17, h⟩ := h
  refine g_ld (v := cI _) rfl (is_I _) ?_
  refine g_gt1 q17 (fun b18 => ?_) (fun b18 => ?_)
  · replace h := h.1 b18
    unfold vX2_field_61
    refine g_ld (v := cI _) rfl (is_I _) ?_
    exact g_ret1 (is_I _) ⟨_, rfl, q17, h⟩
  · replace h := h.2 b18
    unfold vX2_field_64
    refine g_ld (v := rf _) rfl (is_R _) ?_
    refine g_ld (v := rf _) rfl (is_R _) ?_
    obtain ⟨q19, h⟩ := h
    refine g_getZ (kz := 3) q19 rfl (Nat.le_of_ble_eq_true rfl) rfl fun i20 => ?_
    replace h := h i20
    refine g_ld (v := rf _) rfl (is_R _) ?_
    obtain ⟨q21, h⟩ := h
    refine g_getZ (kz := 3) q21 rfl (Nat.le_of_ble_eq_true rfl) rfl fun i22 => ?_
    replace h := h i22
    refine g_const (v := cI (23)) rfl ?_
    refine g_ld (v := cI _) rfl (is_I _) ?_
    refine g_ld (v := cI _) rfl (is_I _) ?_
    refine g_callV (As := [_, _, _, _, _]) (ci := 2) oC2 (fun _ => rfl) ?_
    refine g_go1 (Nat.le_of_ble_eq_true rfl) (Tn_w (TX2_turned ⟨by omega, by omega⟩ ⟨by omega, by omega⟩ ⟨by omega, by omega⟩ hl3 hl4 h) fun _ G23 ⟨r24, e, i25, h⟩ => ?_)
    subst e
    refine ⟨n7_I _, ?_⟩
    replace h := h i25
    refine g_st (lv' := [_, _, _, _, _, _, _]) (is_I _) (Nat.le_of_ble_eq_true rfl) (Or.inr (n1_I _)) rfl ?_
    refine g_ld (v := cI _) rfl (is_I _) ?_
    refine g_ld (v := rf _) rfl (is_R _) ?_
    refine g_ld (v := rf _) rfl (is_R _) ?_
    refine g_getI (kz := 1) q19 rfl (Nat.le_of_ble_eq_true rfl) rfl fun i26 => ?_
    replace h := h i26
    refine g_ld (v := rf _) rfl (is_R _) ?_
    refine g_getI (kz := 1) q21 rfl (Nat.le_of_ble_eq_true rfl) rfl fun i27 => ?_
    replace h := h i27
    refine g_const (v := cI (25)) rfl ?_
    refine g_ld (v := cI _) rfl (is_I _) ?_
    refine g_ld (v := cI _) rfl (is_I _) ?_
    refine g_callV (As := [_, _, _, _, _]) (ci := 2) oC2 (fun _ => rfl) ?_
    refine g_go1 (by simp only [cs_c, cs_0, ct_I, ct_L, ct_R]; exact Nat.le_of_ble_eq_true rfl) (Tn_w (TX2_access i26 i27 ⟨by omega, by omega⟩ hl3 hl4 h) fun _ G28 ⟨r29, e, i30, h⟩ => ?_)
    subst e
    refine ⟨n7_I _, ?_⟩
    replace h := h i30
    refine g_add ?_
    refine g_st (lv' := [_, _, _, _, _, _, _]) (is_I _) (Nat.le_of_ble_eq_true rfl) (Or.inr (n1_I _)) rfl ?_
    obtain ⟨q31, h⟩ := h
    refine g_ld (v := rf _) rfl (is_R _) ?_
    refine g_getZ (kz := 15) q19 rfl (Nat.le_of_ble_eq_true rfl) rfl fun i32 => ?_
    replace h := h i32
    unfold vX2_field_109
    refine g_ld (v := rf _) rfl (is_R _) ?_
    refine g_getZ (kz := 15) q21 rfl (Nat.le_of_ble_eq_true rfl) rfl fun i33 => ?_
    replace h := h i33
    refine g_eq2 ⟨by omega, by omega⟩ ⟨by omega, by omega⟩ (fun b34 => ?_) (fun b34 => ?_)
    · replace h := h.1 b34
      unfold vX2_field_116
      refine g_ld (v := rf _) rfl (is_R _) ?_
      refine g_getZ (kz := 15) q19 rfl (Nat.le_of_ble_eq_true rfl) rfl fun i35 => ?_
      replace h := h i35
      refine g_eq1 ⟨by omega, by omega⟩ (fun b36 => ?_) (fun b36 => ?_)
      · replace h := h.1 b36
        exact TX2_field_138 hl3 hl4 q31 hl6 h
      · replace h := h.2 b36
        unfold vX2_field_123
        refine g_ld (v := rf _) rfl (is_R _) ?_
        refine g_getI (kz := 16) q19 rfl (Nat.le_of_ble_eq_true rfl) rfl fun i37 => ?_
        replace h := h i37
        refine g_ld (v := rf _) rfl (is_R _) ?_
        refine g_getI (kz := 16) q21 rfl (Nat.le_of_ble_eq_true rfl) rfl fun i38 => ?_
        replace h := h i38
        refine g_eq2 i37 i38 (fun b39 => ?_) (fun b39 => ?_)
        · replace h := h.1 b39
          exact TX2_field_138 hl3 hl4 q31 hl6 h
        · replace h := h.2 b39
          exact TX2_field_134 hl3 hl4 q31 hl6 h
    · replace h := h.2 b34
      exact TX2_field_134 hl3 hl4 q31 hl6 h
def PX2_field_25 (l1 : Int) (l2 : Int) (l3 : Int) (l4 : Int) (s0 : Int) (G : gS) (Q : Int → gS → Prop) : Prop :=
  (isO W0 7 (l1) ∧ ((0 ≤ G l1 2 ∧ G l1 2 ≤ 1) → (isO W0 7 (l2) ∧ ((0 ≤ G l2 2 ∧ G l2 2 ≤ 1) → ((G l1 2 = G l2 2 → PX2_field_53 l1 l2 l3 l4 s0 s0 0 G Q) ∧ (¬ (G l1 2 = G l2 2) → PX2_note 22 l3 l4 G (fun r15 G14 => inI r15 → PX2_field_53 l1 l2 l3 l4 s0 s0 r15 G14 Q)))))))
set_option maxRecDepth 20000 in
theorem TX2_field_25 {l1 : Int} {l2 : Int} {l3 : Int} {l4 : Int} {l5 : Nat} {l6 : Nat} {s0 : Int} {G : gS} {Q : Int → gS → Prop} (hl3 : inI l3) (hl4 : inI l4) (hl5 : l5 % 8 ≠ 1) (hl6 : l6 % 8 ≠ 1) (hs0 : inI s0) (h : PX2_field_25 l1 l2 l3 l4 s0 G Q) : Tg W0 vX2_field_25 [rf (934), rf (l1), rf (l2), cI (l3), cI (l4), l5, l6] [cI (s0)] G (fun r G => ∃ v, r = cI v ∧ inI v ∧ Q v G) := by
  unfold PX2_field_25 at h
  unfold vX2_field_25
  refine g_st (lv' := [_, _, _, _, _, _, _]) (is_I _) (Nat.le_of_ble_eq_true rfl) (Or.inr (n1_I _)) rfl ?_
  refine g_ld (v := cI _) rfl (is_I _) ?_
  refine g_ld (v := rf _) rfl (is_R _) ?_
  obtain ⟨q9, h⟩ := h
  refine g_getZ (kz := 2) q9 rfl (Nat.le_of_ble_eq_true rfl) rfl fun i10 => ?_
  replace h := h i10
  refine g_ld (v := rf _) rfl (is_R _) ?_
  obtain ⟨q11, h⟩ := h
  refine g_getZ (kz := 2) q11 rfl (Nat.le_of_ble_eq_true rfl) rfl fun i12 => ?_
  replace h := h i12
  refine g_eq2 ⟨by omega, by omega⟩ ⟨by omega, by omega⟩ (fun b13 => ?_) (fun b13 => ?_)
  · replace h := h.1 b13
    unfold vX2_field_52
    refine g_const (v := cI (0)) rfl ?_
    exact TX2_field_53 hl3 hl4 hs0 hl6 hs0 ⟨by omega, by omega⟩ h
  · replace h := h.2 b13
    unfold vX2_field_40
    refine g_ld (v := rf _) rfl (is_R _) ?_
    refine g_const (v := cI (22)) rfl ?_
    refine g_ld (v := cI _) rfl (is_I _) ?_
    refine g_ld (v := cI _) rfl (is_I _) ?_
    refine g_callV (As := [_, _, _]) (ci := 2) oC2 (fun _ => rfl) ?_
    refine g_go1 (by simp only [cs_c, cs_0, ct_I, ct_L, ct_R]; exact Nat.le_of_ble_eq_true rfl) (Tn_w (TX2_note ⟨by omega, by omega⟩ hl3 hl4 h) fun _ G14 ⟨r15, e, i16, h⟩ => ?_)
    subst e
    refine ⟨n7_I _, ?_⟩
    replace h := h i16
    exact TX2_field_53 hl3 hl4 hs0 hl6 hs0 i16 h
def PX2_field_0 (a1 : Int) (a2 : Int) (a3 : Int) (a4 : Int) (G : gS) (Q : Int → gS → Prop) : Prop :=
  (isO W0 7 (a1) ∧ (inL (G a1 8) → (isO W0 7 (a2) ∧ (inL (G a2 8) → ((G a1 8 = G a2 8 → PX2_field_25 a1 a2 a3 a4 0 G Q) ∧ (¬ (G a1 8 = G a2 8) → PX2_note 21 a3 a4 G (fun r7 G6 => inI r7 → PX2_field_25 a1 a2 a3 a4 r7 G6 Q)))))))
set_option maxRecDepth 20000 in
theorem TX2_field_0 {a1 : Int} {a2 : Int} {a3 : Int} {a4 : Int} {G : gS} {Q : Int → gS → Prop} (ha3 : inI a3) (ha4 : inI a4) (h : PX2_field_0 a1 a2 a3 a4 G Q) : Tg W0 vX2_field_0 [rf (934), rf (a1), rf (a2), cI (a3), cI (a4), 7, 7] [] G (fun r G => ∃ v, r = cI v ∧ inI v ∧ Q v G) := by
  unfold PX2_field_0 at h
  unfold vX2_field_0
  refine g_ld (v := rf _) rfl (is_R _) ?_
  obtain ⟨q1, h⟩ := h
  refine g_getL (kz := 8) q1 rfl (Nat.le_of_ble_eq_true rfl) rfl fun i2 => ?_
  replace h := h i2
  refine g_ld (v := rf _) rfl (is_R _) ?_
  obtain ⟨q3, h⟩ := h
  refine g_getL (kz := 8) q3 rfl (Nat.le_of_ble_eq_true rfl) rfl fun i4 => ?_
  replace h := h i4
  refine g_leq i2 i4 (fun b5 => ?_) (fun b5 => ?_)
  · replace h := h.1 b5
    unfold vX2_field_24
    refine g_const (v := cI (0)) rfl ?_
    exact TX2_field_25 ha3 ha4 (show 7 % 8 ≠ 1 by decide) (show 7 % 8 ≠ 1 by decide) ⟨by omega, by omega⟩ h
  · replace h := h.2 b5
    unfold vX2_field_12
    refine g_ld (v := rf _) rfl (is_R _) ?_
    refine g_const (v := cI (21)) rfl ?_
    refine g_ld (v := cI _) rfl (is_I _) ?_
    refine g_ld (v := cI _) rfl (is_I _) ?_
    refine g_callV (As := [_, _, _]) (ci := 2) oC2 (fun _ => rfl) ?_
    refine g_go1 (Nat.le_of_ble_eq_true rfl) (Tn_w (TX2_note ⟨by omega, by omega⟩ ha3 ha4 h) fun _ G6 ⟨r7, e, i8, h⟩ => ?_)
    subst e
    refine ⟨n7_I _, ?_⟩
    replace h := h i8
    exact TX2_field_25 ha3 ha4 (show 7 % 8 ≠ 1 by decide) (show 7 % 8 ≠ 1 by decide) i8 h
abbrev PX2_field (a1 : Int) (a2 : Int) (a3 : Int) (a4 : Int) (G : gS) (Q : Int → gS → Prop) : Prop := PX2_field_0 a1 a2 a3 a4 G Q
theorem TX2_field {a1 : Int} {a2 : Int} {a3 : Int} {a4 : Int} {G : gS} {Q : Int → gS → Prop} (ha3 : inI a3) (ha4 : inI a4) (h : PX2_field a1 a2 a3 a4 G Q) : Tn W0 FX2_field [rf (934), rf (a1), rf (a2), cI (a3), cI (a4)] G (fun r G => ∃ v, r = cI v ∧ inI v ∧ Q v G) := by
  unfold FX2_field
  refine g_ent (lv' := [rf (934), rf (a1), rf (a2), cI (a3), cI (a4), 7, 7]) (flR (flR (flR (flI (flI fl0))))) (Nat.le_of_ble_eq_true rfl) rfl ?_
  exact TX2_field_0 ha3 ha4 h
def PX2_indexIn_2 (J : Nat → List Int → gS → (Int → gS → Prop) → Prop) (l0 : Int) (l1 : Int) (l2 : Int) (G : gS) (Q : Int → gS → Prop) : Prop :=
  (isO W0 10 (l0) ∧ (inI (G l0 15) → ((l2 < G l0 15 → ((0 : Int) ≤ l2 ∧ ((l2 : Int) < 33 ∧ (((G (l0 + 4) l2 = -1 ∨ isO W0 7 (G (l0 + 4) l2)) ∧ ∀ v, W0.2 (l0 + 4) l2 = some v → G (l0 + 4) l2 = v) → ((-1 : Int) ≤ G (l0 + 4) l2 ∧ ((-1 : Int) ≤ l1 ∧ ((G (l0 + 4) l2 = l1 → Q (l2) G) ∧ (¬ (G (l0 + 4) l2 = l1) → (inI (l2 + 1) ∧ J 0 [l0, l1, l2 + 1] G Q))))))))) ∧ (¬ (l2 < G l0 15) → Q (-2) G))))
set_option maxRecDepth 20000 in
theorem TX2_indexIn_2 {j : Nat → rx_K} {J : Nat → List Int → gS → (Int → gS → Prop) → Prop} {l0 : Int} {l1 : Int} {l2 : Int} {G : gS} {Q : Int → gS → Prop} (hl2 : inI l2) (hj0 : ∀ (l0 : Int) (l1 : Int) (l2 : Int) (G : gS), (inI l2) → J 0 [l0, l1, l2] G Q → Tg W0 (j 0) [rf (l0), rf (l1), cI (l2)] [] G (fun r G => ∃ v, r = cI v ∧ inI v ∧ Q v G)) (h : PX2_indexIn_2 J l0 l1 l2 G Q) : Tg W0 (vX2_indexIn_2 j) [rf (l0), rf (l1), cI (l2)] [] G (fun r G => ∃ v, r = cI v ∧ inI v ∧ Q v G) := by
  unfold PX2_indexIn_2 at h
  unfold vX2_indexIn_2
  refine g_ld (v := cI _) rfl (is_I _) ?_
  refine g_ld (v := rf _) rfl (is_R _) ?_
  obtain ⟨q1, h⟩ := h
  refine g_getI (kz := 15) q1 rfl (Nat.le_of_ble_eq_true rfl) rfl fun i2 => ?_
  replace h := h i2
  refine g_lt2 hl2 i2 (fun b3 => ?_) (fun b3 => ?_)
  · replace h := h.1 b3
    unfold vX2_indexIn_10
    refine g_ld (v := rf _) rfl (is_R _) ?_
    refine g_getF q1 (ff10_14 q1).1 rfl (Nat.le_of_ble_eq_true rfl) (Nat.le_of_ble_eq_true rfl) ?_
    refine g_ld (v := cI _) rfl (is_I _) ?_
    obtain ⟨q4, q5, h⟩ := h
    refine g_aldRF (c := 7) (ff10_14 q1).2 q4 q5 rfl (by decide) fun i6 => ?_
    replace h := h i6
    refine g_ld (v := rf _) rfl (is_R _) ?_
    obtain ⟨q7, q8, h⟩ := h
    refine g_acmp q7 q8 (fun b9 => ?_) (fun b9 => ?_)
    · replace h := h.1 b9
      unfold vX2_indexIn_20
      refine g_ld (v := cI _) rfl (is_I _) ?_
      exact g_ret1 (is_I _) ⟨_, rfl, hl2, h⟩
    · replace h := h.2 b9
      unfold vX2_indexIn_22
      refine g_inc (lv' := [_, _, _]) rfl (Nat.le_of_ble_eq_true rfl) (Or.inr (n1_R _)) rfl ?_
      obtain ⟨q10, h⟩ := h
      exact hj0 _ _ _ _ q10 h
  · replace h := h.2 b3
    unfold vX2_indexIn_28
    refine g_const (v := cI (-2)) rfl ?_
    exact g_ret1 (is_I _) ⟨_, rfl, ⟨by omega, by omega⟩, h⟩
def PX2_indexIn_0 (J : Nat → List Int → gS → (Int → gS → Prop) → Prop) (a0 : Int) (a1 : Int) (G : gS) (Q : Int → gS → Prop) : Prop :=
  PX2_indexIn_2 J a0 a1 0 G Q
set_option maxRecDepth 20000 in
theorem TX2_indexIn_0 {j : Nat → rx_K} {J : Nat → List Int → gS → (Int → gS → Prop) → Prop} {a0 : Int} {a1 : Int} {G : gS} {Q : Int → gS → Prop}  (hj0 : ∀ (l0 : Int) (l1 : Int) (l2 : Int) (G : gS), (inI l2) → J 0 [l0, l1, l2] G Q → Tg W0 (j 0) [rf (l0), rf (l1), cI (l2)] [] G (fun r G => ∃ v, r = cI v ∧ inI v ∧ Q v G)) (h : PX2_indexIn_0 J a0 a1 G Q) : Tg W0 (vX2_indexIn_0 j) [rf (a0), rf (a1), 7] [] G (fun r G => ∃ v, r = cI v ∧ inI v ∧ Q v G) := by
  unfold PX2_indexIn_0 at h
  unfold vX2_indexIn_0
  refine g_const (v := cI (0)) rfl ?_
  refine g_st (lv' := [_, _, _]) (is_I _) (Nat.le_of_ble_eq_true rfl) (Or.inr (n1_R _)) rfl ?_
  exact TX2_indexIn_2 ⟨by omega, by omega⟩ hj0 h
def PX2_indexIn_J : Nat → Nat → List Int → gS → (Int → gS → Prop) → Prop
  | 0, _, _, _, _ => False
  | f + 1, h, L, G, Q => match h, L with
    | 0, [l0, l1, l2] => PX2_indexIn_2 (PX2_indexIn_J f) l0 l1 l2 G Q
    | _, _ => False
theorem TX2_indexIn_J {Q : Int → gS → Prop} : ∀ f N : Nat, f ≤ N → (∀ (l0 : Int) (l1 : Int) (l2 : Int) (G : gS), (inI l2) → (PX2_indexIn_J f) 0 [l0, l1, l2] G Q → Tg W0 (rx_J vhX2_indexIn N 0) [rf (l0), rf (l1), cI (l2)] [] G (fun r G => ∃ v, r = cI v ∧ inI v ∧ Q v G)) := by
  intro f
  induction f with
  | zero => exact fun N _ => fun _ _ _ _ _ h => h.elim
  | succ f ih =>
    intro N hN
    obtain ⟨M, rfl⟩ : ∃ M, N = M + 1 := ⟨N - 1, by omega⟩
    have ih := ih M (by omega)
    exact fun _ _ _ _ hl2 h => show Tg W0 (vX2_indexIn_2 (rx_J vhX2_indexIn M)) _ _ _ _ from TX2_indexIn_2 hl2 ih h
def PX2_indexIn (a0 : Int) (a1 : Int) (G : gS) (Q : Int → gS → Prop) : Prop := ∃ f : Nat, f ≤ 4000000000 ∧ PX2_indexIn_0 (PX2_indexIn_J f) a0 a1 G Q
theorem TX2_indexIn {a0 : Int} {a1 : Int} {G : gS} {Q : Int → gS → Prop}  (h : PX2_indexIn a0 a1 G Q) : Tn W0 FX2_indexIn [rf (a0), rf (a1)] G (fun r G => ∃ v, r = cI v ∧ inI v ∧ Q v G) := by
  obtain ⟨f, hf, h⟩ := h
  have hJ := TX2_indexIn_J (Q := Q) f 4000000000 hf
  unfold FX2_indexIn
  refine g_ent (lv' := [rf (a0), rf (a1), 7]) (flR (flR fl0)) (Nat.le_of_ble_eq_true rfl) rfl ?_
  exact TX2_indexIn_0  hJ h
def PX2_fields_147 (J : Nat → List Int → gS → (Int → gS → Prop) → Prop) (l1 : Int) (l2 : Int) (l3 : Int) (l4 : Int) (l5 : Int) (s0 : Int) (s1 : Int) (G : gS) (Q : Int → gS → Prop) : Prop :=
  (inI (s0 + s1) ∧ (inI (l4 + 1) ∧ J 1 [l1, l2, s0 + s1, l4 + 1] G Q))
set_option maxRecDepth 20000 in
theorem TX2_fields_147 {j : Nat → rx_K} {J : Nat → List Int → gS → (Int → gS → Prop) → Prop} {l1 : Int} {l2 : Int} {l3 : Int} {l4 : Int} {l5 : Int} {l6 : Nat} {s0 : Int} {s1 : Int} {G : gS} {Q : Int → gS → Prop} (hl3 : inI l3) (hl4 : inI l4) (hl6 : l6 % 8 ≠ 1) (hs0 : inI s0) (hs1 : inI s1) (hj0 : ∀ (l1 : Int) (l2 : Int) (l3 : Int) (l4 : Int) (l5 : Nat) (l6 : Nat) (G : gS), (inI l3) → (inI l4) → (l5 % 8 ≠ 1) → (l6 % 8 ≠ 1) → J 0 [l1, l2, l3, l4] G Q → Tg W0 (j 0) [rf (934), rf (l1), rf (l2), cI (l3), cI (l4), l5, l6] [] G (fun r G => ∃ v, r = cI v ∧ inI v ∧ Q v G)) (hj1 : ∀ (l1 : Int) (l2 : Int) (l3 : Int) (l4 : Int) (l5 : Nat) (l6 : Nat) (G : gS), (inI l3) → (inI l4) → (l5 % 8 ≠ 1) → (l6 % 8 ≠ 1) → J 1 [l1, l2, l3, l4] G Q → Tg W0 (j 1) [rf (934), rf (l1), rf (l2), cI (l3), cI (l4), l5, l6] [] G (fun r G => ∃ v, r = cI v ∧ inI v ∧ Q v G)) (h : PX2_fields_147 J l1 l2 l3 l4 l5 s0 s1 G Q) : Tg W0 (vX2_fields_147 j) [rf (934), rf (l1), rf (l2), cI (l3), cI (l4), rf (l5), l6] [cI (s1), cI (s0)] G (fun r G => ∃ v, r = cI v ∧ inI v ∧ Q v G) := by
  unfold PX2_fields_147 at h
  unfold vX2_fields_147
  refine g_add ?_
  refine g_st (lv' := [_, _, _, _, _, _, _]) (is_I _) (Nat.le_of_ble_eq_true rfl) (Or.inr (n1_R _)) rfl ?_
  obtain ⟨q45, h⟩ := h
  refine g_inc (lv' := [_, _, _, _, _, _, _]) rfl (Nat.le_of_ble_eq_true rfl) (Or.inr (n1_I _)) rfl ?_
  obtain ⟨q46, h⟩ := h
  exact hj1 _ _ _ _ _ _ _ q45 q46 (n1_R _) hl6 h
def PX2_fields_146 (J : Nat → List Int → gS → (Int → gS → Prop) → Prop) (l1 : Int) (l2 : Int) (l3 : Int) (l4 : Int) (l5 : Int) (s0 : Int) (G : gS) (Q : Int → gS → Prop) : Prop :=
  PX2_fields_147 J l1 l2 l3 l4 l5 s0 0 G Q
set_option maxRecDepth 20000 in
theorem TX2_fields_146 {j : Nat → rx_K} {J : Nat → List Int → gS → (Int → gS → Prop) → Prop} {l1 : Int} {l2 : Int} {l3 : Int} {l4 : Int} {l5 : Int} {l6 : Nat} {s0 : Int} {G : gS} {Q : Int → gS → Prop} (hl3 : inI l3) (hl4 : inI l4) (hl6 : l6 % 8 ≠ 1) (hs0 : inI s0) (hj0 : ∀ (l1 : Int) (l2 : Int) (l3 : Int) (l4 : Int) (l5 : Nat) (l6 : Nat) (G : gS), (inI l3) → (inI l4) → (l5 % 8 ≠ 1) → (l6 % 8 ≠ 1) → J 0 [l1, l2, l3, l4] G Q → Tg W0 (j 0) [rf (934), rf (l1), rf (l2), cI (l3), cI (l4), l5, l6] [] G (fun r G => ∃ v, r = cI v ∧ inI v ∧ Q v G)) (hj1 : ∀ (l1 : Int) (l2 : Int) (l3 : Int) (l4 : Int) (l5 : Nat) (l6 : Nat) (G : gS), (inI l3) → (inI l4) → (l5 % 8 ≠ 1) → (l6 % 8 ≠ 1) → J 1 [l1, l2, l3, l4] G Q → Tg W0 (j 1) [rf (934), rf (l1), rf (l2), cI (l3), cI (l4), l5, l6] [] G (fun r G => ∃ v, r = cI v ∧ inI v ∧ Q v G)) (h : PX2_fields_146 J l1 l2 l3 l4 l5 s0 G Q) : Tg W0 (vX2_fields_146 j) [rf (934), rf (l1), rf (l2), cI (l3), cI (l4), rf (l5), l6] [cI (s0)] G (fun r G => ∃ v, r = cI v ∧ inI v ∧ Q v G) := by
  unfold PX2_fields_146 at h
  unfold vX2_fields_146
  refine g_const (v := cI (0)) rfl ?_
  exact TX2_fields_147 hl3 hl4 hl6 hs0 ⟨by omega, by omega⟩ hj0 hj1 h
def PX2_fields_91 (J : Nat → List Int → gS → (Int → gS → Prop) → Prop) (l1 : Int) (l2 : Int) (l3 : Int) (l4 : Int) (G : gS) (Q : Int → gS → Prop) : Prop :=
  (isO W0 10 (l2) ∧ (inI (G l2 15) → ((l4 < G l2 15 → ((0 : Int) ≤ l4 ∧ ((l4 : Int) < 33 ∧ (((G (l2 + 4) l4 = -1 ∨ isO W0 7 (G (l2 + 4) l4)) ∧ ∀ v, W0.2 (l2 + 4) l4 = some v → G (l2 + 4) l4 = v) → (isO W0 7 (G (l2 + 4) l4) ∧ (inI (G (G (l2 + 4) l4) 0) → ((G (G (l2 + 4) l4) 0 = 0 → (inL (G (G (l2 + 4) l4) 7) → (isO W0 10 (l1) ∧ PX10_field l1 (G (G (l2 + 4) l4) 7) (-4) G (fun r39 G38 => ((r39 < 0 → PX2_note 28 (-2) l4 G38 (fun r43 G42 => inI r43 → PX2_fields_147 J l1 l2 l3 l4 (G (l2 + 4) l4) l3 r43 G42 Q)) ∧ (0 ≤ r39 → PX2_fields_146 J l1 l2 l3 l4 (G (l2 + 4) l4) l3 G38 Q)))))) ∧ (¬ (G (G (l2 + 4) l4) 0 = 0) → PX2_fields_146 J l1 l2 l3 l4 (G (l2 + 4) l4) l3 G Q)))))))) ∧ (¬ (l4 < G l2 15) → Q (l3) G))))
set_option maxRecDepth 20000 in
theorem TX2_fields_91 {j : Nat → rx_K} {J : Nat → List Int → gS → (Int → gS → Prop) → Prop} {l1 : Int} {l2 : Int} {l3 : Int} {l4 : Int} {l5 : Nat} {l6 : Nat} {G : gS} {Q : Int → gS → Prop} (hl3 : inI l3) (hl4 : inI l4) (hl5 : l5 % 8 ≠ 1) (hl6 : l6 % 8 ≠ 1) (hj0 : ∀ (l1 : Int) (l2 : Int) (l3 : Int) (l4 : Int) (l5 : Nat) (l6 : Nat) (G : gS), (inI l3) → (inI l4) → (l5 % 8 ≠ 1) → (l6 % 8 ≠ 1) → J 0 [l1, l2, l3, l4] G Q → Tg W0 (j 0) [rf (934), rf (l1), rf (l2), cI (l3), cI (l4), l5, l6] [] G (fun r G => ∃ v, r = cI v ∧ inI v ∧ Q v G)) (hj1 : ∀ (l1 : Int) (l2 : Int) (l3 : Int) (l4 : Int) (l5 : Nat) (l6 : Nat) (G : gS), (inI l3) → (inI l4) → (l5 % 8 ≠ 1) → (l6 % 8 ≠ 1) → J 1 [l1, l2, l3, l4] G Q → Tg W0 (j 1) [rf (934), rf (l1), rf (l2), cI (l3), cI (l4), l5, l6] [] G (fun r G => ∃ v, r = cI v ∧ inI v ∧ Q v G)) (h : PX2_fields_91 J l1 l2 l3 l4 G Q) : Tg W0 (vX2_fields_91 j) [rf (934), rf (l1), rf (l2), cI (l3), cI (l4), l5, l6] [] G (fun r G => ∃ v, r = cI v ∧ inI v ∧ Q v G) := by
  unfold PX2_fields_91 at h
  unfold vX2_fields_91
  refine g_ld (v := cI _) rfl (is_I _) ?_
  refine g_ld (v := rf _) rfl (is_R _) ?_
  obtain ⟨q27, h⟩ := h
  refine g_getI (kz := 15) q27 rfl (Nat.le_of_ble_eq_true rfl) rfl fun i28 => ?_
  replace h := h i28
  refine g_lt2 hl4 i28 (fun b29 => ?_) (fun b29 => ?_)
  · replace h := h.1 b29
    unfold vX2_fields_100
    refine g_ld (v := rf _) rfl (is_R _) ?_
    refine g_getF q27 (ff10_14 q27).1 rfl (Nat.le_of_ble_eq_true rfl) (Nat.le_of_ble_eq_true rfl) ?_
    refine g_ld (v := cI _) rfl (is_I _) ?_
    obtain ⟨q30, q31, h⟩ := h
    refine g_aldRF (c := 7) (ff10_14 q27).2 q30 q31 rfl (by decide) fun i32 => ?_
    replace h := h i32
    refine g_st (lv' := [_, _, _, _, _, _, _]) (is_R _) (Nat.le_of_ble_eq_true rfl) (Or.inr (n1_I _)) rfl ?_
    refine g_ld (v := cI _) rfl (is_I _) ?_
    refine g_ld (v := rf _) rfl (is_R _) ?_
    obtain ⟨q33, h⟩ := h
    refine g_getI (kz := 0) q33 rfl (Nat.le_of_ble_eq_true rfl) rfl fun i34 => ?_
    replace h := h i34
    refine g_eq1 i34 (fun b35 => ?_) (fun b35 => ?_)
    · replace h := h.1 b35
      unfold vX2_fields_118
      refine g_ld (v := rf _) rfl (is_R _) ?_
      refine g_ld (v := rf _) rfl (is_R _) ?_
      refine g_getL (kz := 7) q33 rfl (Nat.le_of_ble_eq_true rfl) rfl fun i36 => ?_
      replace h := h i36
      refine g_const (v := cL (-4)) rfl ?_
      obtain ⟨q37, h⟩ := h
      refine g_callV (As := [_, _]) (ci := 10) q37 (fun _ => rfl) ?_
      refine g_go1 (by simp only [cs_c, cs_0, ct_I, ct_L, ct_R]; exact Nat.le_of_ble_eq_true rfl) (Tn_w (TX10_field i36 ⟨by omega, by omega⟩ h) fun _ G38 ⟨r39, e, h⟩ => ?_)
      subst e
      refine ⟨n7_R _, ?_⟩
      refine g_nul (fun b41 => ?_) (fun b41 => ?_)
      · replace h := h.1 b41
        unfold vX2_fields_133
        refine g_ld (v := rf _) rfl (is_R _) ?_
        refine g_const (v := cI (28)) rfl ?_
        refine g_const (v := cI (-2)) rfl ?_
        refine g_ld (v := cI _) rfl (is_I _) ?_
        refine g_callV (As := [_, _, _]) (ci := 2) oC2 (fun _ => rfl) ?_
        refine g_go1 (by simp only [cs_c, cs_0, ct_I, ct_L, ct_R]; exact Nat.le_of_ble_eq_true rfl) (Tn_w (TX2_note ⟨by omega, by omega⟩ ⟨by omega, by omega⟩ hl4 h) fun _ G42 ⟨r43, e, i44, h⟩ => ?_)
        subst e
        refine ⟨n7_I _, ?_⟩
        replace h := h i44
        exact TX2_fields_147 hl3 hl4 hl6 hl3 i44 hj0 hj1 h
      · replace h := h.2 b41
        exact TX2_fields_146 hl3 hl4 hl6 hl3 hj0 hj1 h
    · replace h := h.2 b35
      exact TX2_fields_146 hl3 hl4 hl6 hl3 hj0 hj1 h
  · replace h := h.2 b29
    unfold vX2_fields_155
    refine g_ld (v := cI _) rfl (is_I _) ?_
    exact g_ret1 (is_I _) ⟨_, rfl, hl3, h⟩
def PX2_fields_82 (J : Nat → List Int → gS → (Int → gS → Prop) → Prop) (l1 : Int) (l2 : Int) (l3 : Int) (l4 : Int) (l5 : Int) (G : gS) (Q : Int → gS → Prop) : Prop :=
  (inI (l4 + 1) ∧ J 0 [l1, l2, l3, l4 + 1] G Q)
set_option maxRecDepth 20000 in
theorem TX2_fields_82 {j : Nat → rx_K} {J : Nat → List Int → gS → (Int → gS → Prop) → Prop} {l1 : Int} {l2 : Int} {l3 : Int} {l4 : Int} {l5 : Int} {l6 : Nat} {G : gS} {Q : Int → gS → Prop} (hl3 : inI l3) (hl4 : inI l4) (hl6 : l6 % 8 ≠ 1) (hj0 : ∀ (l1 : Int) (l2 : Int) (l3 : Int) (l4 : Int) (l5 : Nat) (l6 : Nat) (G : gS), (inI l3) → (inI l4) → (l5 % 8 ≠ 1) → (l6 % 8 ≠ 1) → J 0 [l1, l2, l3, l4] G Q → Tg W0 (j 0) [rf (934), rf (l1), rf (l2), cI (l3), cI (l4), l5, l6] [] G (fun r G => ∃ v, r = cI v ∧ inI v ∧ Q v G)) (hj1 : ∀ (l1 : Int) (l2 : Int) (l3 : Int) (l4 : Int) (l5 : Nat) (l6 : Nat) (G : gS), (inI l3) → (inI l4) → (l5 % 8 ≠ 1) → (l6 % 8 ≠ 1) → J 1 [l1, l2, l3, l4] G Q → Tg W0 (j 1) [rf (934), rf (l1), rf (l2), cI (l3), cI (l4), l5, l6] [] G (fun r G => ∃ v, r = cI v ∧ inI v ∧ Q v G)) (h : PX2_fields_82 J l1 l2 l3 l4 l5 G Q) : Tg W0 (vX2_fields_82 j) [rf (934), rf (l1), rf (l2), cI (l3), cI (l4), rf (l5), l6] [] G (fun r G => ∃ v, r = cI v ∧ inI v ∧ Q v G) := by
  unfold PX2_fields_82 at h
  unfold vX2_fields_82
  refine g_inc (lv' := [_, _, _, _, _, _, _]) rfl (Nat.le_of_ble_eq_true rfl) (Or.inr (n1_I _)) rfl ?_
  obtain ⟨q26, h⟩ := h
  exact hj0 _ _ _ _ _ _ _ hl3 q26 (n1_R _) hl6 h
def PX2_fields_80 (J : Nat → List Int → gS → (Int → gS → Prop) → Prop) (l1 : Int) (l2 : Int) (l3 : Int) (l4 : Int) (l5 : Int) (l6 : Int) (s0 : Int) (s1 : Int) (G : gS) (Q : Int → gS → Prop) : Prop :=
  (inI (s0 + s1) ∧ PX2_fields_82 J l1 l2 (s0 + s1) l4 l5 G Q)
set_option maxRecDepth 20000 in
theorem TX2_fields_80 {j : Nat → rx_K} {J : Nat → List Int → gS → (Int → gS → Prop) → Prop} {l1 : Int} {l2 : Int} {l3 : Int} {l4 : Int} {l5 : Int} {l6 : Int} {s0 : Int} {s1 : Int} {G : gS} {Q : Int → gS → Prop} (hl3 : inI l3) (hl4 : inI l4) (hs0 : inI s0) (hs1 : inI s1) (hj0 : ∀ (l1 : Int) (l2 : Int) (l3 : Int) (l4 : Int) (l5 : Nat) (l6 : Nat) (G : gS), (inI l3) → (inI l4) → (l5 % 8 ≠ 1) → (l6 % 8 ≠ 1) → J 0 [l1, l2, l3, l4] G Q → Tg W0 (j 0) [rf (934), rf (l1), rf (l2), cI (l3), cI (l4), l5, l6] [] G (fun r G => ∃ v, r = cI v ∧ inI v ∧ Q v G)) (hj1 : ∀ (l1 : Int) (l2 : Int) (l3 : Int) (l4 : Int) (l5 : Nat) (l6 : Nat) (G : gS), (inI l3) → (inI l4) → (l5 % 8 ≠ 1) → (l6 % 8 ≠ 1) → J 1 [l1, l2, l3, l4] G Q → Tg W0 (j 1) [rf (934), rf (l1), rf (l2), cI (l3), cI (l4), l5, l6] [] G (fun r G => ∃ v, r = cI v ∧ inI v ∧ Q v G)) (h : PX2_fields_80 J l1 l2 l3 l4 l5 l6 s0 s1 G Q) : Tg W0 (vX2_fields_80 j) [rf (934), rf (l1), rf (l2), cI (l3), cI (l4), rf (l5), rf (l6)] [cI (s1), cI (s0)] G (fun r G => ∃ v, r = cI v ∧ inI v ∧ Q v G) := by
  unfold PX2_fields_80 at h
  unfold vX2_fields_80
  refine g_add ?_
  refine g_st (lv' := [_, _, _, _, _, _, _]) (is_I _) (Nat.le_of_ble_eq_true rfl) (Or.inr (n1_R _)) rfl ?_
  obtain ⟨q25, h⟩ := h
  exact TX2_fields_82 q25 hl4 (n1_R _) hj0 hj1 h
def PX2_fields_5 (J : Nat → List Int → gS → (Int → gS → Prop) → Prop) (l1 : Int) (l2 : Int) (l3 : Int) (l4 : Int) (G : gS) (Q : Int → gS → Prop) : Prop :=
  (isO W0 10 (l1) ∧ (inI (G l1 15) → ((l4 < G l1 15 → ((0 : Int) ≤ l4 ∧ ((l4 : Int) < 33 ∧ (((G (l1 + 4) l4 = -1 ∨ isO W0 7 (G (l1 + 4) l4)) ∧ ∀ v, W0.2 (l1 + 4) l4 = some v → G (l1 + 4) l4 = v) → (isO W0 7 (G (l1 + 4) l4) ∧ (inI (G (G (l1 + 4) l4) 0) → ((G (G (l1 + 4) l4) 0 = 0 → (inL (G (G (l1 + 4) l4) 7) → (isO W0 10 (l2) ∧ PX10_field l2 (G (G (l1 + 4) l4) 7) (-4) G (fun r13 G12 => ((r13 < 0 → PX2_note 20 l4 (-2) G12 (fun r17 G16 => inI r17 → PX2_fields_80 J l1 l2 l3 l4 (G (l1 + 4) l4) r13 l3 r17 G16 Q)) ∧ (0 ≤ r13 → PX2_indexIn l2 r13 G12 (fun r20 G19 => inI r20 → PX2_field (G (l1 + 4) l4) r13 l4 r20 G19 (fun r23 G22 => inI r23 → PX2_fields_80 J l1 l2 l3 l4 (G (l1 + 4) l4) r13 l3 r23 G22 Q)))))))) ∧ (¬ (G (G (l1 + 4) l4) 0 = 0) → PX2_fields_82 J l1 l2 l3 l4 (G (l1 + 4) l4) G Q)))))))) ∧ (¬ (l4 < G l1 15) → PX2_fields_91 J l1 l2 l3 0 G Q))))
set_option maxRecDepth 20000 in
theorem TX2_fields_5 {j : Nat → rx_K} {J : Nat → List Int → gS → (Int → gS → Prop) → Prop} {l1 : Int} {l2 : Int} {l3 : Int} {l4 : Int} {l5 : Nat} {l6 : Nat} {G : gS} {Q : Int → gS → Prop} (hl3 : inI l3) (hl4 : inI l4) (hl5 : l5 % 8 ≠ 1) (hl6 : l6 % 8 ≠ 1) (hj0 : ∀ (l1 : Int) (l2 : Int) (l3 : Int) (l4 : Int) (l5 : Nat) (l6 : Nat) (G : gS), (inI l3) → (inI l4) → (l5 % 8 ≠ 1) → (l6 % 8 ≠ 1) → J 0 [l1, l2, l3, l4] G Q → Tg W0 (j 0) [rf (934), rf (l1), rf (l2), cI (l3), cI (l4), l5, l6] [] G (fun r G => ∃ v, r = cI v ∧ inI v ∧ Q v G)) (hj1 : ∀ (l1 : Int) (l2 : Int) (l3 : Int) (l4 : Int) (l5 : Nat) (l6 : Nat) (G : gS), (inI l3) → (inI l4) → (l5 % 8 ≠ 1) → (l6 % 8 ≠ 1) → J 1 [l1, l2, l3, l4] G Q → Tg W0 (j 1) [rf (934), rf (l1), rf (l2), cI (l3), cI (l4), l5, l6] [] G (fun r G => ∃ v, r = cI v ∧ inI v ∧ Q v G)) (h : PX2_fields_5 J l1 l2 l3 l4 G Q) : Tg W0 (vX2_fields_5 j) [rf (934), rf (l1), rf (l2), cI (l3), cI (l4), l5, l6] [] G (fun r G => ∃ v, r = cI v ∧ inI v ∧ Q v G) := by
  unfold PX2_fields_5 at h
  unfold vX2_fields_5
  refine g_ld (v := cI _) rfl (is_I _) ?_
  refine g_ld (v := rf _) rfl (is_R _) ?_
  obtain ⟨q1, h⟩ := h
  refine g_getI (kz := 15) q1 rfl (Nat.le_of_ble_eq_true rfl) rfl fun i2 => ?_
  replace h := h i2
  refine g_lt2 hl4 i2 (fun b3 => ?_) (fun b3 => ?_)
  · replace h := h.1 b3
    unfold vX2_fields_14
    refine g_ld (v := rf _) rfl (is_R _) ?_
    refine g_getF q1 (ff10_14 q1).1 rfl (Nat.le_of_ble_eq_true rfl) (Nat.le_of_ble_eq_true rfl) ?_
    refine g_ld (v := cI _) rfl (is_I _) ?_
    obtain ⟨q4, q5, h⟩ := h
    refine g_aldRF (c := 7) (ff10_14 q1).2 q4 q5 rfl (by decide) fun i6 => ?_
    replace h := h i6
    refine g_st (lv' := [_, _, _, _, _, _, _]) (is_R _) (Nat.le_of_ble_eq_true rfl) (Or.inr (n1_I _)) rfl ?_
    refine g_ld (v := rf _) rfl (is_R _) ?_
    obtain ⟨q7, h⟩ := h
    refine g_getI (kz := 0) q7 rfl (Nat.le_of_ble_eq_true rfl) rfl fun i8 => ?_
    replace h := h i8
    refine g_eq1 i8 (fun b9 => ?_) (fun b9 => ?_)
    · replace h := h.1 b9
      unfold vX2_fields_31
      refine g_ld (v := rf _) rfl (is_R _) ?_
      refine g_ld (v := rf _) rfl (is_R _) ?_
      refine g_getL (kz := 7) q7 rfl (Nat.le_of_ble_eq_true rfl) rfl fun i10 => ?_
      replace h := h i10
      refine g_const (v := cL (-4)) rfl ?_
      obtain ⟨q11, h⟩ := h
      refine g_callV (As := [_, _]) (ci := 10) q11 (fun _ => rfl) ?_
      refine g_go1 (Nat.le_of_ble_eq_true rfl) (Tn_w (TX10_field i10 ⟨by omega, by omega⟩ h) fun _ G12 ⟨r13, e, h⟩ => ?_)
      subst e
      refine ⟨n7_R _, ?_⟩
      refine g_st (lv' := [_, _, _, _, _, _, _]) (is_R _) (Nat.le_of_ble_eq_true rfl) (Or.inr (n1_R _)) rfl ?_
      refine g_ld (v := cI _) rfl (is_I _) ?_
      refine g_ld (v := rf _) rfl (is_R _) ?_
      refine g_nul (fun b15 => ?_) (fun b15 => ?_)
      · replace h := h.1 b15
        unfold vX2_fields_51
        refine g_ld (v := rf _) rfl (is_R _) ?_
        refine g_const (v := cI (20)) rfl ?_
        refine g_ld (v := cI _) rfl (is_I _) ?_
        refine g_const (v := cI (-2)) rfl ?_
        refine g_callV (As := [_, _, _]) (ci := 2) oC2 (fun _ => rfl) ?_
        refine g_go1 (by simp only [cs_c, cs_0, ct_I, ct_L, ct_R]; exact Nat.le_of_ble_eq_true rfl) (Tn_w (TX2_note ⟨by omega, by omega⟩ hl4 ⟨by omega, by omega⟩ h) fun _ G16 ⟨r17, e, i18, h⟩ => ?_)
        subst e
        refine ⟨n7_I _, ?_⟩
        replace h := h i18
        exact TX2_fields_80 hl3 hl4 hl3 i18 hj0 hj1 h
      · replace h := h.2 b15
        unfold vX2_fields_64
        refine g_ld (v := rf _) rfl (is_R _) ?_
        refine g_ld (v := rf _) rfl (is_R _) ?_
        refine g_ld (v := rf _) rfl (is_R _) ?_
        refine g_ld (v := cI _) rfl (is_I _) ?_
        refine g_ld (v := rf _) rfl (is_R _) ?_
        refine g_ld (v := rf _) rfl (is_R _) ?_
        refine g_callS (As := [_, _]) (fun _ => rfl) ?_
        refine g_go1 (by simp only [cs_c, cs_0, ct_I, ct_L, ct_R]; exact Nat.le_of_ble_eq_true rfl) (Tn_w (TX2_indexIn  h) fun _ G19 ⟨r20, e, i21, h⟩ => ?_)
        subst e
        refine ⟨n7_I _, ?_⟩
        replace h := h i21
        refine g_callV (As := [_, _, _, _]) (ci := 2) oC2 (fun _ => rfl) ?_
        refine g_go1 (by simp only [cs_c, cs_0, ct_I, ct_L, ct_R]; exact Nat.le_of_ble_eq_true rfl) (Tn_w (TX2_field hl4 i21 h) fun _ G22 ⟨r23, e, i24, h⟩ => ?_)
        subst e
        refine ⟨n7_I _, ?_⟩
        replace h := h i24
        exact TX2_fields_80 hl3 hl4 hl3 i24 hj0 hj1 h
    · replace h := h.2 b9
      exact TX2_fields_82 hl3 hl4 hl6 hj0 hj1 h
  · replace h := h.2 b3
    unfold vX2_fields_88
    refine g_const (v := cI (0)) rfl ?_
    refine g_st (lv' := [_, _, _, _, _, _, _]) (is_I _) (Nat.le_of_ble_eq_true rfl) (Or.inr (n1_I _)) rfl ?_
    exact TX2_fields_91 hl3 ⟨by omega, by omega⟩ hl5 hl6 hj0 hj1 h
def PX2_fields_0 (J : Nat → List Int → gS → (Int → gS → Prop) → Prop) (a1 : Int) (a2 : Int) (G : gS) (Q : Int → gS → Prop) : Prop :=
  PX2_fields_5 J a1 a2 0 0 G Q
set_option maxRecDepth 20000 in
theorem TX2_fields_0 {j : Nat → rx_K} {J : Nat → List Int → gS → (Int → gS → Prop) → Prop} {a1 : Int} {a2 : Int} {G : gS} {Q : Int → gS → Prop}  (hj0 : ∀ (l1 : Int) (l2 : Int) (l3 : Int) (l4 : Int) (l5 : Nat) (l6 : Nat) (G : gS), (inI l3) → (inI l4) → (l5 % 8 ≠ 1) → (l6 % 8 ≠ 1) → J 0 [l1, l2, l3, l4] G Q → Tg W0 (j 0) [rf (934), rf (l1), rf (l2), cI (l3), cI (l4), l5, l6] [] G (fun r G => ∃ v, r = cI v ∧ inI v ∧ Q v G)) (hj1 : ∀ (l1 : Int) (l2 : Int) (l3 : Int) (l4 : Int) (l5 : Nat) (l6 : Nat) (G : gS), (inI l3) → (inI l4) → (l5 % 8 ≠ 1) → (l6 % 8 ≠ 1) → J 1 [l1, l2, l3, l4] G Q → Tg W0 (j 1) [rf (934), rf (l1), rf (l2), cI (l3), cI (l4), l5, l6] [] G (fun r G => ∃ v, r = cI v ∧ inI v ∧ Q v G)) (h : PX2_fields_0 J a1 a2 G Q) : Tg W0 (vX2_fields_0 j) [rf (934), rf (a1), rf (a2), 7, 7, 7, 7] [] G (fun r G => ∃ v, r = cI v ∧ inI v ∧ Q v G) := by
  unfold PX2_fields_0 at h
  unfold vX2_fields_0
  refine g_const (v := cI (0)) rfl ?_
  refine g_st (lv' := [_, _, _, _, _, _, _]) (is_I _) (Nat.le_of_ble_eq_true rfl) (Or.inr (n1_R _)) rfl ?_
  refine g_const (v := cI (0)) rfl ?_
  refine g_st (lv' := [_, _, _, _, _, _, _]) (is_I _) (Nat.le_of_ble_eq_true rfl) (Or.inr (n1_I _)) rfl ?_
  exact TX2_fields_5 ⟨by omega, by omega⟩ ⟨by omega, by omega⟩ (show 7 % 8 ≠ 1 by decide) (show 7 % 8 ≠ 1 by decide) hj0 hj1 h
def PX2_fields_J : Nat → Nat → List Int → gS → (Int → gS → Prop) → Prop
  | 0, _, _, _, _ => False
  | f + 1, h, L, G, Q => match h, L with
    | 0, [l1, l2, l3, l4] => PX2_fields_5 (PX2_fields_J f) l1 l2 l3 l4 G Q
    | 1, [l1, l2, l3, l4] => PX2_fields_91 (PX2_fields_J f) l1 l2 l3 l4 G Q
    | _, _ => False
theorem TX2_fields_J {Q : Int → gS → Prop} : ∀ f N : Nat, f ≤ N → (∀ (l1 : Int) (l2 : Int) (l3 : Int) (l4 : Int) (l5 : Nat) (l6 : Nat) (G : gS), (inI l3) → (inI l4) → (l5 % 8 ≠ 1) → (l6 % 8 ≠ 1) → (PX2_fields_J f) 0 [l1, l2, l3, l4] G Q → Tg W0 (rx_J vhX2_fields N 0) [rf (934), rf (l1), rf (l2), cI (l3), cI (l4), l5, l6] [] G (fun r G => ∃ v, r = cI v ∧ inI v ∧ Q v G)) ∧ (∀ (l1 : Int) (l2 : Int) (l3 : Int) (l4 : Int) (l5 : Nat) (l6 : Nat) (G : gS), (inI l3) → (inI l4) → (l5 % 8 ≠ 1) → (l6 % 8 ≠ 1) → (PX2_fields_J f) 1 [l1, l2, l3, l4] G Q → Tg W0 (rx_J vhX2_fields N 1) [rf (934), rf (l1), rf (l2), cI (l3), cI (l4), l5, l6] [] G (fun r G => ∃ v, r = cI v ∧ inI v ∧ Q v G)) := by
  intro f
  induction f with
  | zero => exact fun N _ => ⟨fun _ _ _ _ _ _ _ _ _ _ _ h => h.elim, fun _ _ _ _ _ _ _ _ _ _ _ h => h.elim⟩
  | succ f ih =>
    intro N hN
    obtain ⟨M, rfl⟩ : ∃ M, N = M + 1 := ⟨N - 1, by omega⟩
    have ih := ih M (by omega)
    exact ⟨fun _ _ _ _ _ _ _ hl3 hl4 hl5 hl6 h => show Tg W0 (vX2_fields_5 (rx_J vhX2_fields M)) _ _ _ _ from TX2_fields_5 hl3 hl4 hl5 hl6 ih.1 ih.2 h, fun _ _ _ _ _ _ _ hl3 hl4 hl5 hl6 h => show Tg W0 (vX2_fields_91 (rx_J vhX2_fields M)) _ _ _ _ from TX2_fields_91 hl3 hl4 hl5 hl6 ih.1 ih.2 h⟩
def PX2_fields (a1 : Int) (a2 : Int) (G : gS) (Q : Int → gS → Prop) : Prop := ∃ f : Nat, f ≤ 4000000000 ∧ PX2_fields_0 (PX2_fields_J f) a1 a2 G Q
theorem TX2_fields {a1 : Int} {a2 : Int} {G : gS} {Q : Int → gS → Prop}  (h : PX2_fields a1 a2 G Q) : Tn W0 FX2_fields [rf (934), rf (a1), rf (a2)] G (fun r G => ∃ v, r = cI v ∧ inI v ∧ Q v G) := by
  obtain ⟨f, hf, h⟩ := h
  have hJ := TX2_fields_J (Q := Q) f 4000000000 hf
  unfold FX2_fields
  refine g_ent (lv' := [rf (934), rf (a1), rf (a2), 7, 7, 7, 7]) (flR (flR (flR fl0))) (Nat.le_of_ble_eq_true rfl) rfl ?_
  exact TX2_fields_0  hJ.1 hJ.2 h
def PX2_heads_102 (l1 : Int) (l2 : Int) (l3 : Int) (s0 : Int) (s1 : Int) (G : gS) (Q : Int → gS → Prop) : Prop :=
  (inI (s0 + s1) ∧ Q (s0 + s1) G)
set_option maxRecDepth 20000 in
theorem TX2_heads_102 {l1 : Int} {l2 : Int} {l3 : Int} {s0 : Int} {s1 : Int} {G : gS} {Q : Int → gS → Prop} (hl3 : inI l3) (hs0 : inI s0) (hs1 : inI s1) (h : PX2_heads_102 l1 l2 l3 s0 s1 G Q) : Tg W0 vX2_heads_102 [rf (934), rf (l1), rf (l2), cI (l3)] [cI (s1), cI (s0)] G (fun r G => ∃ v, r = cI v ∧ inI v ∧ Q v G) := by
  unfold PX2_heads_102 at h
  unfold vX2_heads_102
  refine g_add ?_
  obtain ⟨q31, h⟩ := h
  exact g_ret1 (is_I _) ⟨_, rfl, q31, h⟩
def PX2_heads_25 (l1 : Int) (l2 : Int) (s0 : Int) (s1 : Int) (s2 : Int) (G : gS) (Q : Int → gS → Prop) : Prop :=
  (isO W0 2 (s0) ∧ PX2_turned s1 s2 3 (-2) (-2) G (fun r9 G8 => inI r9 → (isO W0 10 (l1) ∧ ((0 ≤ G8 l1 5 ∧ G8 l1 5 ≤ 1) → (isO W0 10 (l2) ∧ ((0 ≤ G8 l2 5 ∧ G8 l2 5 ≤ 1) → PX2_turned (G8 l1 5) (G8 l2 5) 5 (-2) (-2) G8 (fun r16 G15 => inI r16 → (inI (r9 + r16) ∧ ((0 ≤ G15 l1 6 ∧ G15 l1 6 ≤ 1) → ((0 ≤ G15 l2 6 ∧ G15 l2 6 ≤ 1) → PX2_turned (G15 l1 6) (G15 l2 6) 7 (-2) (-2) G15 (fun r22 G21 => inI r22 → (inI ((r9 + r16) + r22) ∧ (inL (G21 l1 8) → (inL (G21 l2 8) → ((G21 l1 8 = G21 l2 8 → PX2_heads_102 l1 l2 ((r9 + r16) + r22) ((r9 + r16) + r22) 0 G21 Q) ∧ (¬ (G21 l1 8 = G21 l2 8) → PX2_note 9 (-2) (-2) G21 (fun r29 G28 => inI r29 → PX2_heads_102 l1 l2 ((r9 + r16) + r22) ((r9 + r16) + r22) r29 G28 Q)))))))))))))))))
set_option maxRecDepth 20000 in
theorem TX2_heads_25 {l1 : Int} {l2 : Int} {l3 : Nat} {s0 : Int} {s1 : Int} {s2 : Int} {G : gS} {Q : Int → gS → Prop} (hl3 : l3 % 8 ≠ 1) (hs1 : inI s1) (hs2 : inI s2) (h : PX2_heads_25 l1 l2 s0 s1 s2 G Q) : Tg W0 vX2_heads_25 [rf (934), rf (l1), rf (l2), l3] [cI (s2), cI (s1), rf (s0)] G (fun r G => ∃ v, r = cI v ∧ inI v ∧ Q v G) := by
  unfold PX2_heads_25 at h
  unfold vX2_heads_25
  refine g_const (v := cI (3)) rfl ?_
  refine g_const (v := cI (-2)) rfl ?_
  refine g_const (v := cI (-2)) rfl ?_
  obtain ⟨q7, h⟩ := h
  refine g_callV (As := [_, _, _, _, _]) (ci := 2) q7 (fun _ => rfl) ?_
  refine g_go1 (Nat.le_of_ble_eq_true rfl) (Tn_w (Tn_eq (one2 q7) (TX2_turned hs1 hs2 ⟨by omega, by omega⟩ ⟨by omega, by omega⟩ ⟨by omega, by omega⟩ h)) fun _ G8 ⟨r9, e, i10, h⟩ => ?_)
  subst e
  refine ⟨n7_I _, ?_⟩
  replace h := h i10
  refine g_st (lv' := [_, _, _, _]) (is_I _) (Nat.le_of_ble_eq_true rfl) (Or.inr (n1_R _)) rfl ?_
  refine g_ld (v := cI _) rfl (is_I _) ?_
  refine g_ld (v := rf _) rfl (is_R _) ?_
  refine g_ld (v := rf _) rfl (is_R _) ?_
  obtain ⟨q11, h⟩ := h
  refine g_getZ (kz := 5) q11 rfl (Nat.le_of_ble_eq_true rfl) rfl fun i12 => ?_
  replace h := h i12
  refine g_ld (v := rf _) rfl (is_R _) ?_
  obtain ⟨q13, h⟩ := h
  refine g_getZ (kz := 5) q13 rfl (Nat.le_of_ble_eq_true rfl) rfl fun i14 => ?_
  replace h := h i14
  refine g_const (v := cI (5)) rfl ?_
  refine g_const (v := cI (-2)) rfl ?_
  refine g_const (v := cI (-2)) rfl ?_
  refine g_callV (As := [_, _, _, _, _]) (ci := 2) oC2 (fun _ => rfl) ?_
  refine g_go1 (by simp only [cs_c, cs_0, ct_I, ct_L, ct_R]; exact Nat.le_of_ble_eq_true rfl) (Tn_w (TX2_turned ⟨by omega, by omega⟩ ⟨by omega, by omega⟩ ⟨by omega, by omega⟩ ⟨by omega, by omega⟩ ⟨by omega, by omega⟩ h) fun _ G15 ⟨r16, e, i17, h⟩ => ?_)
  subst e
  refine ⟨n7_I _, ?_⟩
  replace h := h i17
  refine g_add ?_
  refine g_st (lv' := [_, _, _, _]) (is_I _) (Nat.le_of_ble_eq_true rfl) (Or.inr (n1_R _)) rfl ?_
  obtain ⟨q18, h⟩ := h
  refine g_ld (v := cI _) rfl (is_I _) ?_
  refine g_ld (v := rf _) rfl (is_R _) ?_
  refine g_ld (v := rf _) rfl (is_R _) ?_
  refine g_getZ (kz := 6) q11 rfl (Nat.le_of_ble_eq_true rfl) rfl fun i19 => ?_
  replace h := h i19
  refine g_ld (v := rf _) rfl (is_R _) ?_
  refine g_getZ (kz := 6) q13 rfl (Nat.le_of_ble_eq_true rfl) rfl fun i20 => ?_
  replace h := h i20
  refine g_const (v := cI (7)) rfl ?_
  unfold vX2_heads_66
  refine g_const (v := cI (-2)) rfl ?_
  refine g_const (v := cI (-2)) rfl ?_
  refine g_callV (As := [_, _, _, _, _]) (ci := 2) oC2 (fun _ => rfl) ?_
  refine g_go1 (by simp only [cs_c, cs_0, ct_I, ct_L, ct_R]; exact Nat.le_of_ble_eq_true rfl) (Tn_w (TX2_turned ⟨by omega, by omega⟩ ⟨by omega, by omega⟩ ⟨by omega, by omega⟩ ⟨by omega, by omega⟩ ⟨by omega, by omega⟩ h) fun _ G21 ⟨r22, e, i23, h⟩ => ?_)
  subst e
  refine ⟨n7_I _, ?_⟩
  replace h := h i23
  refine g_add ?_
  refine g_st (lv' := [_, _, _, _]) (is_I _) (Nat.le_of_ble_eq_true rfl) (Or.inr (n1_R _)) rfl ?_
  obtain ⟨q24, h⟩ := h
  refine g_ld (v := cI _) rfl (is_I _) ?_
  refine g_ld (v := rf _) rfl (is_R _) ?_
  refine g_getL (kz := 8) q11 rfl (Nat.le_of_ble_eq_true rfl) rfl fun i25 => ?_
  replace h := h i25
  refine g_ld (v := rf _) rfl (is_R _) ?_
  refine g_getL (kz := 8) q13 rfl (Nat.le_of_ble_eq_true rfl) rfl fun i26 => ?_
  replace h := h i26
  refine g_leq i25 i26 (fun b27 => ?_) (fun b27 => ?_)
  · replace h := h.1 b27
    unfold vX2_heads_101
    refine g_const (v := cI (0)) rfl ?_
    exact TX2_heads_102 q24 q24 ⟨by omega, by omega⟩ h
  · replace h := h.2 b27
    unfold vX2_heads_88
    refine g_ld (v := rf _) rfl (is_R _) ?_
    refine g_const (v := cI (9)) rfl ?_
    refine g_const (v := cI (-2)) rfl ?_
    refine g_const (v := cI (-2)) rfl ?_
    refine g_callV (As := [_, _, _]) (ci := 2) oC2 (fun _ => rfl) ?_
    refine g_go1 (by simp only [cs_c, cs_0, ct_I, ct_L, ct_R]; exact Nat.le_of_ble_eq_true rfl) (Tn_w (TX2_note ⟨by omega, by omega⟩ ⟨by omega, by omega⟩ ⟨by omega, by omega⟩ h) fun _ G28 ⟨r29, e, i30, h⟩ => ?_)
    subst e
    refine ⟨n7_I _, ?_⟩
    replace h := h i30
    exact TX2_heads_102 q24 q24 i30 h
def PX2_heads_13 (l1 : Int) (l2 : Int) (s0 : Int) (s1 : Int) (G : gS) (Q : Int → gS → Prop) : Prop :=
  (isO W0 10 (l2) ∧ ((0 ≤ G l2 3 ∧ G l2 3 ≤ 1) → ((G l2 3 = 0 → PX2_heads_25 l1 l2 s0 s1 1 G Q) ∧ (¬ (G l2 3 = 0) → PX2_heads_25 l1 l2 s0 s1 0 G Q))))
set_option maxRecDepth 20000 in
theorem TX2_heads_13 {l1 : Int} {l2 : Int} {l3 : Nat} {s0 : Int} {s1 : Int} {G : gS} {Q : Int → gS → Prop} (hl3 : l3 % 8 ≠ 1) (hs1 : inI s1) (h : PX2_heads_13 l1 l2 s0 s1 G Q) : Tg W0 vX2_heads_13 [rf (934), rf (l1), rf (l2), l3] [cI (s1), rf (s0)] G (fun r G => ∃ v, r = cI v ∧ inI v ∧ Q v G) := by
  unfold PX2_heads_13 at h
  unfold vX2_heads_13
  refine g_ld (v := rf _) rfl (is_R _) ?_
  obtain ⟨q4, h⟩ := h
  refine g_getZ (kz := 3) q4 rfl (Nat.le_of_ble_eq_true rfl) rfl fun i5 => ?_
  replace h := h i5
  refine g_eq1 ⟨by omega, by omega⟩ (fun b6 => ?_) (fun b6 => ?_)
  · replace h := h.1 b6
    unfold vX2_heads_20
    refine g_const (v := cI (1)) rfl ?_
    exact TX2_heads_25 hl3 hs1 ⟨by omega, by omega⟩ h
  · replace h := h.2 b6
    unfold vX2_heads_24
    refine g_const (v := cI (0)) rfl ?_
    exact TX2_heads_25 hl3 hs1 ⟨by omega, by omega⟩ h
def PX2_heads_0 (a1 : Int) (a2 : Int) (G : gS) (Q : Int → gS → Prop) : Prop :=
  (isO W0 10 (a1) ∧ ((0 ≤ G a1 3 ∧ G a1 3 ≤ 1) → ((G a1 3 = 0 → PX2_heads_13 a1 a2 934 1 G Q) ∧ (¬ (G a1 3 = 0) → PX2_heads_13 a1 a2 934 0 G Q))))
set_option maxRecDepth 20000 in
theorem TX2_heads_0 {a1 : Int} {a2 : Int} {G : gS} {Q : Int → gS → Prop}  (h : PX2_heads_0 a1 a2 G Q) : Tg W0 vX2_heads_0 [rf (934), rf (a1), rf (a2), 7] [] G (fun r G => ∃ v, r = cI v ∧ inI v ∧ Q v G) := by
  unfold PX2_heads_0 at h
  unfold vX2_heads_0
  refine g_ld (v := rf _) rfl (is_R _) ?_
  refine g_ld (v := rf _) rfl (is_R _) ?_
  obtain ⟨q1, h⟩ := h
  refine g_getZ (kz := 3) q1 rfl (Nat.le_of_ble_eq_true rfl) rfl fun i2 => ?_
  replace h := h i2
  refine g_eq1 ⟨by omega, by omega⟩ (fun b3 => ?_) (fun b3 => ?_)
  · replace h := h.1 b3
    unfold vX2_heads_8
    refine g_const (v := cI (1)) rfl ?_
    exact TX2_heads_13 (show 7 % 8 ≠ 1 by decide) ⟨by omega, by omega⟩ h
  · replace h := h.2 b3
    unfold vX2_heads_12
    refine g_const (v := cI (0)) rfl ?_
    exact TX2_heads_13 (show 7 % 8 ≠ 1 by decide) ⟨by omega, by omega⟩ h
abbrev PX2_heads (a1 : Int) (a2 : Int) (G : gS) (Q : Int → gS → Prop) : Prop := PX2_heads_0 a1 a2 G Q
theorem TX2_heads {a1 : Int} {a2 : Int} {G : gS} {Q : Int → gS → Prop}  (h : PX2_heads a1 a2 G Q) : Tn W0 FX2_heads [rf (934), rf (a1), rf (a2)] G (fun r G => ∃ v, r = cI v ∧ inI v ∧ Q v G) := by
  unfold FX2_heads
  refine g_ent (lv' := [rf (934), rf (a1), rf (a2), 7]) (flR (flR (flR fl0))) (Nat.le_of_ble_eq_true rfl) rfl ?_
  exact TX2_heads_0  h
def PX2_range_37 (J : Nat → List Int → gS → (Int → gS → Prop) → Prop) (l0 : Int) (l1 : Int) (l2 : Int) (l3 : Int) (l4 : Int) (G : gS) (Q : Int → gS → Prop) : Prop :=
  Q (l3) G
set_option maxRecDepth 20000 in
theorem TX2_range_37 {j : Nat → rx_K} {J : Nat → List Int → gS → (Int → gS → Prop) → Prop} {l0 : Int} {l1 : Int} {l2 : Int} {l3 : Int} {l4 : Int} {G : gS} {Q : Int → gS → Prop} (hl2 : inI l2) (hl3 : inI l3) (hl4 : inI l4) (hj0 : ∀ (l0 : Int) (l1 : Int) (l2 : Int) (l3 : Int) (l4 : Int) (G : gS), (inI l2) → (inI l3) → (inI l4) → J 0 [l0, l1, l2, l3, l4] G Q → Tg W0 (j 0) [rf (l0), rf (l1), cI (l2), cI (l3), cI (l4)] [] G (fun r G => ∃ v, r = cI v ∧ inI v ∧ Q v G)) (h : PX2_range_37 J l0 l1 l2 l3 l4 G Q) : Tg W0 (vX2_range_37 j) [rf (l0), rf (l1), cI (l2), cI (l3), cI (l4)] [] G (fun r G => ∃ v, r = cI v ∧ inI v ∧ Q v G) := by
  unfold PX2_range_37 at h
  unfold vX2_range_37
  refine g_ld (v := cI _) rfl (is_I _) ?_
  exact g_ret1 (is_I _) ⟨_, rfl, hl3, h⟩
def PX2_range_8 (J : Nat → List Int → gS → (Int → gS → Prop) → Prop) (l0 : Int) (l1 : Int) (l2 : Int) (l3 : Int) (l4 : Int) (G : gS) (Q : Int → gS → Prop) : Prop :=
  (isO W0 7 (l0) ∧ (inI (G l0 13) → ((l4 < G l0 13 → (∃ n6, isA W0 0 n6 (l1) ∧ (inI (n6) ∧ ((l3 < n6 → (∃ n10, isA W0 0 n10 (l1) ∧ ((0 : Int) ≤ l3 ∧ ((l3 : Int) < n10 ∧ (∀ G14 : gS, G14 = uG G l1 l3 (l4) → (inI (l3 + 1) ∧ (inI (l4 + 1) ∧ J 0 [l0, l1, l2, l3 + 1, l4 + 1] G14 Q))))))) ∧ (¬ (l3 < n6) → PX2_range_37 J l0 l1 l2 l3 l4 G Q))))) ∧ (¬ (l4 < G l0 13) → PX2_range_37 J l0 l1 l2 l3 l4 G Q))))
set_option maxRecDepth 20000 in
theorem TX2_range_8 {j : Nat → rx_K} {J : Nat → List Int → gS → (Int → gS → Prop) → Prop} {l0 : Int} {l1 : Int} {l2 : Int} {l3 : Int} {l4 : Int} {G : gS} {Q : Int → gS → Prop} (hl2 : inI l2) (hl3 : inI l3) (hl4 : inI l4) (hj0 : ∀ (l0 : Int) (l1 : Int) (l2 : Int) (l3 : Int) (l4 : Int) (G : gS), (inI l2) → (inI l3) → (inI l4) → J 0 [l0, l1, l2, l3, l4] G Q → Tg W0 (j 0) [rf (l0), rf (l1), cI (l2), cI (l3), cI (l4)] [] G (fun r G => ∃ v, r = cI v ∧ inI v ∧ Q v G)) (h : PX2_range_8 J l0 l1 l2 l3 l4 G Q) : Tg W0 (vX2_range_8 j) [rf (l0), rf (l1), cI (l2), cI (l3), cI (l4)] [] G (fun r G => ∃ v, r = cI v ∧ inI v ∧ Q v G) := by
  unfold PX2_range_8 at h
  unfold vX2_range_8
  refine g_ld (v := cI _) rfl (is_I _) ?_
  refine g_ld (v := rf _) rfl (is_R _) ?_
  obtain ⟨q3, h⟩ := h
  refine g_getI (kz := 13) q3 rfl (Nat.le_of_ble_eq_true rfl) rfl fun i4 => ?_
  replace h := h i4
  refine g_lt2 hl4 i4 (fun b5 => ?_) (fun b5 => ?_)
  · replace h := h.1 b5
    unfold vX2_range_17
    refine g_ld (v := cI _) rfl (is_I _) ?_
    refine g_ld (v := rf _) rfl (is_R _) ?_
    obtain ⟨n6, q7, h⟩ := h
    refine g_alen q7 ?_
    obtain ⟨q8, h⟩ := h
    refine g_lt2 hl3 q8 (fun b9 => ?_) (fun b9 => ?_)
    · replace h := h.1 b9
      unfold vX2_range_23
      refine g_ld (v := rf _) rfl (is_R _) ?_
      refine g_ld (v := cI _) rfl (is_I _) ?_
      refine g_ld (v := cI _) rfl (is_I _) ?_
      obtain ⟨n10, q11, h⟩ := h
      obtain ⟨q12, q13, h⟩ := h
      refine g_astI q11 q12 q13 hl4 (nfI q11) ?_
      replace h := h _ rfl
      refine g_inc (lv' := [_, _, _, _, _]) rfl (Nat.le_of_ble_eq_true rfl) (Or.inr (n1_I _)) rfl ?_
      obtain ⟨q15, h⟩ := h
      refine g_inc (lv' := [_, _, _, _, _]) rfl (Nat.le_of_ble_eq_true rfl) (Or.inr (n1_I _)) rfl ?_
      obtain ⟨q16, h⟩ := h
      exact hj0 _ _ _ _ _ _ hl2 q15 q16 h
    · replace h := h.2 b9
      exact TX2_range_37 hl2 hl3 hl4 hj0 h
  · replace h := h.2 b5
    exact TX2_range_37 hl2 hl3 hl4 hj0 h
def PX2_range_0 (J : Nat → List Int → gS → (Int → gS → Prop) → Prop) (a0 : Int) (a1 : Int) (a2 : Int) (G : gS) (Q : Int → gS → Prop) : Prop :=
  (isO W0 7 (a0) ∧ (inI (G a0 12) → PX2_range_8 J a0 a1 a2 a2 (G a0 12) G Q))
set_option maxRecDepth 20000 in
theorem TX2_range_0 {j : Nat → rx_K} {J : Nat → List Int → gS → (Int → gS → Prop) → Prop} {a0 : Int} {a1 : Int} {a2 : Int} {G : gS} {Q : Int → gS → Prop} (ha2 : inI a2) (hj0 : ∀ (l0 : Int) (l1 : Int) (l2 : Int) (l3 : Int) (l4 : Int) (G : gS), (inI l2) → (inI l3) → (inI l4) → J 0 [l0, l1, l2, l3, l4] G Q → Tg W0 (j 0) [rf (l0), rf (l1), cI (l2), cI (l3), cI (l4)] [] G (fun r G => ∃ v, r = cI v ∧ inI v ∧ Q v G)) (h : PX2_range_0 J a0 a1 a2 G Q) : Tg W0 (vX2_range_0 j) [rf (a0), rf (a1), cI (a2), 7, 7] [] G (fun r G => ∃ v, r = cI v ∧ inI v ∧ Q v G) := by
  unfold PX2_range_0 at h
  unfold vX2_range_0
  refine g_ld (v := cI _) rfl (is_I _) ?_
  refine g_st (lv' := [_, _, _, _, _]) (is_I _) (Nat.le_of_ble_eq_true rfl) (Or.inr (n1_I _)) rfl ?_
  refine g_ld (v := rf _) rfl (is_R _) ?_
  obtain ⟨q1, h⟩ := h
  refine g_getI (kz := 12) q1 rfl (Nat.le_of_ble_eq_true rfl) rfl fun i2 => ?_
  replace h := h i2
  refine g_st (lv' := [_, _, _, _, _]) (is_I _) (Nat.le_of_ble_eq_true rfl) (Or.inr (n1_I _)) rfl ?_
  exact TX2_range_8 ha2 ha2 i2 hj0 h
def PX2_range_J : Nat → Nat → List Int → gS → (Int → gS → Prop) → Prop
  | 0, _, _, _, _ => False
  | f + 1, h, L, G, Q => match h, L with
    | 0, [l0, l1, l2, l3, l4] => PX2_range_8 (PX2_range_J f) l0 l1 l2 l3 l4 G Q
    | _, _ => False
theorem TX2_range_J {Q : Int → gS → Prop} : ∀ f N : Nat, f ≤ N → (∀ (l0 : Int) (l1 : Int) (l2 : Int) (l3 : Int) (l4 : Int) (G : gS), (inI l2) → (inI l3) → (inI l4) → (PX2_range_J f) 0 [l0, l1, l2, l3, l4] G Q → Tg W0 (rx_J vhX2_range N 0) [rf (l0), rf (l1), cI (l2), cI (l3), cI (l4)] [] G (fun r G => ∃ v, r = cI v ∧ inI v ∧ Q v G)) := by
  intro f
  induction f with
  | zero => exact fun N _ => fun _ _ _ _ _ _ _ _ _ h => h.elim
  | succ f ih =>
    intro N hN
    obtain ⟨M, rfl⟩ : ∃ M, N = M + 1 := ⟨N - 1, by omega⟩
    have ih := ih M (by omega)
    exact fun _ _ _ _ _ _ hl2 hl3 hl4 h => show Tg W0 (vX2_range_8 (rx_J vhX2_range M)) _ _ _ _ from TX2_range_8 hl2 hl3 hl4 ih h
def PX2_range (a0 : Int) (a1 : Int) (a2 : Int) (G : gS) (Q : Int → gS → Prop) : Prop := ∃ f : Nat, f ≤ 4000000000 ∧ PX2_range_0 (PX2_range_J f) a0 a1 a2 G Q
theorem TX2_range {a0 : Int} {a1 : Int} {a2 : Int} {G : gS} {Q : Int → gS → Prop} (ha2 : inI a2) (h : PX2_range a0 a1 a2 G Q) : Tn W0 FX2_range [rf (a0), rf (a1), cI (a2)] G (fun r G => ∃ v, r = cI v ∧ inI v ∧ Q v G) := by
  obtain ⟨f, hf, h⟩ := h
  have hJ := TX2_range_J (Q := Q) f 4000000000 hf
  unfold FX2_range
  refine g_ent (lv' := [rf (a0), rf (a1), cI (a2), 7, 7]) (flR (flR (flI fl0))) (Nat.le_of_ble_eq_true rfl) rfl ?_
  exact TX2_range_0 ha2 hJ h
def PX2_sameTokens_83 (J : Nat → List Int → gS → (Int → gS → Prop) → Prop) (l1 : Int) (l2 : Int) (l3 : Int) (l4 : Int) (l5 : Int) (l6 : Int) (G : gS) (Q : Int → gS → Prop) : Prop :=
  ((l6 < l4 → ((G 934 0 = -1 ∨ isO W0 1 (G 934 0)) → (isO W0 1 (G 934 0) ∧ (((G (G 934 0) 6 = -1 ∨ ∃ n, isA W0 2 n (G (G 934 0) 6)) ∧ ∀ v, W0.2 (G 934 0) 6 = some v → G (G 934 0) 6 = v) → (∃ n53, isA W0 2 n53 (G (G 934 0) 6) ∧ ((0 : Int) ≤ l3 + l6 ∧ ((l3 + l6 : Int) < n53 ∧ ((-128 ≤ G (G (G 934 0) 6) (l3 + l6) ∧ G (G (G 934 0) 6) (l3 + l6) < 128) → ((G 934 1 = -1 ∨ isO W0 1 (G 934 1)) → (isO W0 1 (G 934 1) ∧ (((G (G 934 1) 6 = -1 ∨ ∃ n, isA W0 2 n (G (G 934 1) 6)) ∧ ∀ v, W0.2 (G 934 1) 6 = some v → G (G 934 1) 6 = v) → (∃ n61, isA W0 2 n61 (G (G 934 1) 6) ∧ ((0 : Int) ≤ l5 + l6 ∧ ((l5 + l6 : Int) < n61 ∧ ((-128 ≤ G (G (G 934 1) 6) (l5 + l6) ∧ G (G (G 934 1) 6) (l5 + l6) < 128) → ((G (G (G 934 0) 6) (l3 + l6) = G (G (G 934 1) 6) (l5 + l6) → (inI (l6 + 1) ∧ J 1 [l1, l2, l3, l4, l5, l6 + 1] G Q)) ∧ (¬ (G (G (G 934 0) 6) (l3 + l6) = G (G (G 934 1) 6) (l5 + l6)) → Q (0) G))))))))))))))))) ∧ (¬ (l6 < l4) → (inI (l2 + 1) ∧ J 0 [l1, l2 + 1] G Q)))
set_option maxRecDepth 20000 in
theorem TX2_sameTokens_83 {j : Nat → rx_K} {J : Nat → List Int → gS → (Int → gS → Prop) → Prop} {l1 : Int} {l2 : Int} {l3 : Int} {l4 : Int} {l5 : Int} {l6 : Int} {G : gS} {Q : Int → gS → Prop} (hl1 : inI l1) (hl2 : inI l2) (hl3 : inI l3) (hl4 : inI l4) (hl5 : inI l5) (hl6 : inI l6) (hj0 : ∀ (l1 : Int) (l2 : Int) (l3 : Nat) (l4 : Nat) (l5 : Nat) (l6 : Nat) (G : gS), (inI l1) → (inI l2) → (l3 % 8 ≠ 1) → (l4 % 8 ≠ 1) → (l5 % 8 ≠ 1) → (l6 % 8 ≠ 1) → J 0 [l1, l2] G Q → Tg W0 (j 0) [rf (934), cI (l1), cI (l2), l3, l4, l5, l6] [] G (fun r G => ∃ v, r = cI v ∧ (0 ≤ v ∧ v ≤ 1) ∧ Q v G)) (hj1 : ∀ (l1 : Int) (l2 : Int) (l3 : Int) (l4 : Int) (l5 : Int) (l6 : Int) (G : gS), (inI l1) → (inI l2) → (inI l3) → (inI l4) → (inI l5) → (inI l6) → J 1 [l1, l2, l3, l4, l5, l6] G Q → Tg W0 (j 1) [rf (934), cI (l1), cI (l2), cI (l3), cI (l4), cI (l5), cI (l6)] [] G (fun r G => ∃ v, r = cI v ∧ (0 ≤ v ∧ v ≤ 1) ∧ Q v G)) (h : PX2_sameTokens_83 J l1 l2 l3 l4 l5 l6 G Q) : Tg W0 (vX2_sameTokens_83 j) [rf (934), cI (l1), cI (l2), cI (l3), cI (l4), cI (l5), cI (l6)] [] G (fun r G => ∃ v, r = cI v ∧ (0 ≤ v ∧ v ≤ 1) ∧ Q v G) := by
  unfold PX2_sameTokens_83 at h
  unfold vX2_sameTokens_83
  refine g_ld (v := cI _) rfl (is_I _) ?_
  refine g_ld (v := cI _) rfl (is_I _) ?_
  refine g_lt2 hl6 hl4 (fun b49 => ?_) (fun b49 => ?_)
  · replace h := h.1 b49
    unfold vX2_sameTokens_90
    refine g_ld (v := rf _) rfl (is_R _) ?_
    refine g_getR (kz := 0) (c := 1) oC2 rfl (Nat.le_of_ble_eq_true rfl) rfl (by decide) fun i50 => ?_
    replace h := h i50
    obtain ⟨q51, h⟩ := h
    refine g_getAF (kz := 6) (c := 2) q51 rfl (Nat.le_of_ble_eq_true rfl) rfl fun i52 => ?_
    replace h := h i52
    refine g_ld (v := cI _) rfl (is_I _) ?_
    refine g_ld (v := cI _) rfl (is_I _) ?_
    refine g_add ?_
    obtain ⟨n53, q54, h⟩ := h
    obtain ⟨q55, q56, h⟩ := h
    refine g_aldB q54 q55 q56 rfl fun i57 => ?_
    replace h := h i57
    refine g_ld (v := rf _) rfl (is_R _) ?_
    refine g_getR (kz := 1) (c := 1) oC2 rfl (Nat.le_of_ble_eq_true rfl) rfl (by decide) fun i58 => ?_
    replace h := h i58
    obtain ⟨q59, h⟩ := h
    refine g_getAF (kz := 6) (c := 2) q59 rfl (Nat.le_of_ble_eq_true rfl) rfl fun i60 => ?_
    replace h := h i60
    refine g_ld (v := cI _) rfl (is_I _) ?_
    refine g_ld (v := cI _) rfl (is_I _) ?_
    refine g_add ?_
    obtain ⟨n61, q62, h⟩ := h
    obtain ⟨q63, q64, h⟩ := h
    refine g_aldB q62 q63 q64 rfl fun i65 => ?_
    replace h := h i65
    refine g_eq2 ⟨by omega, by omega⟩ ⟨by omega, by omega⟩ (fun b66 => ?_) (fun b66 => ?_)
    · replace h := h.1 b66
      unfold vX2_sameTokens_120
      refine g_inc (lv' := [_, _, _, _, _, _, _]) rfl (Nat.le_of_ble_eq_true rfl) (Or.inr (n1_I _)) rfl ?_
      obtain ⟨q67, h⟩ := h
      exact hj1 _ _ _ _ _ _ _ hl1 hl2 hl3 hl4 hl5 q67 h
    · replace h := h.2 b66
      unfold vX2_sameTokens_118
      refine g_const (v := cI (0)) rfl ?_
      exact g_ret1 (is_Z (by omega)) ⟨_, rfl, (by omega), h⟩
  · replace h := h.2 b49
    unfold vX2_sameTokens_126
    refine g_inc (lv' := [_, _, _, _, _, _, _]) rfl (Nat.le_of_ble_eq_true rfl) (Or.inr (n1_I _)) rfl ?_
    obtain ⟨q68, h⟩ := h
    exact hj0 _ _ _ _ _ _ _ hl1 q68 (n1_I _) (n1_I _) (n1_I _) (n1_I _) h
def PX2_sameTokens_2 (J : Nat → List Int → gS → (Int → gS → Prop) → Prop) (l1 : Int) (l2 : Int) (G : gS) (Q : Int → gS → Prop) : Prop :=
  ((l2 < l1 → ((G 934 0 = -1 ∨ isO W0 1 (G 934 0)) → (isO W0 1 (G 934 0) ∧ (((G (G 934 0) 8 = -1 ∨ ∃ n, isA W0 0 n (G (G 934 0) 8)) ∧ ∀ v, W0.2 (G 934 0) 8 = some v → G (G 934 0) 8 = v) → ((0 : Int) ≤ l2 ∧ ((l2 : Int) < 700 ∧ (inI (G 936 l2) → (∃ n8, isA W0 0 n8 (G (G 934 0) 8) ∧ ((0 : Int) ≤ G 936 l2 ∧ ((G 936 l2 : Int) < n8 ∧ (inI (G (G (G 934 0) 8) (G 936 l2)) → ((G 934 0 = -1 ∨ isO W0 1 (G 934 0)) → (isO W0 1 (G 934 0) ∧ (((G (G 934 0) 9 = -1 ∨ ∃ n, isA W0 0 n (G (G 934 0) 9)) ∧ ∀ v, W0.2 (G 934 0) 9 = some v → G (G 934 0) 9 = v) → ((0 : Int) ≤ l2 ∧ ((l2 : Int) < 700 ∧ (inI (G 936 l2) → (∃ n19, isA W0 0 n19 (G (G 934 0) 9) ∧ ((0 : Int) ≤ G 936 l2 ∧ ((G 936 l2 : Int) < n19 ∧ (inI (G (G (G 934 0) 9) (G 936 l2)) → (inI ((G (G (G 934 0) 9) (G 936 l2)) - (G (G (G 934 0) 8) (G 936 l2))) ∧ ((G 934 1 = -1 ∨ isO W0 1 (G 934 1)) → (isO W0 1 (G 934 1) ∧ (((G (G 934 1) 8 = -1 ∨ ∃ n, isA W0 0 n (G (G 934 1) 8)) ∧ ∀ v, W0.2 (G 934 1) 8 = some v → G (G 934 1) 8 = v) → ((0 : Int) ≤ l2 ∧ ((l2 : Int) < 700 ∧ (inI (G 937 l2) → (∃ n31, isA W0 0 n31 (G (G 934 1) 8) ∧ ((0 : Int) ≤ G 937 l2 ∧ ((G 937 l2 : Int) < n31 ∧ (inI (G (G (G 934 1) 8) (G 937 l2)) → ((G 934 1 = -1 ∨ isO W0 1 (G 934 1)) → (isO W0 1 (G 934 1) ∧ (((G (G 934 1) 9 = -1 ∨ ∃ n, isA W0 0 n (G (G 934 1) 9)) ∧ ∀ v, W0.2 (G 934 1) 9 = some v → G (G 934 1) 9 = v) → ((0 : Int) ≤ l2 ∧ ((l2 : Int) < 700 ∧ (inI (G 937 l2) → (∃ n42, isA W0 0 n42 (G (G 934 1) 9) ∧ ((0 : Int) ≤ G 937 l2 ∧ ((G 937 l2 : Int) < n42 ∧ (inI (G (G (G 934 1) 9) (G 937 l2)) → (inI ((G (G (G 934 1) 9) (G 937 l2)) - (G (G (G 934 1) 8) (G 937 l2))) ∧ (((G (G (G 934 1) 9) (G 937 l2)) - (G (G (G 934 1) 8) (G 937 l2)) = (G (G (G 934 0) 9) (G 936 l2)) - (G (G (G 934 0) 8) (G 936 l2)) → PX2_sameTokens_83 J l1 l2 (G (G (G 934 0) 8) (G 936 l2)) ((G (G (G 934 0) 9) (G 936 l2)) - (G (G (G 934 0) 8) (G 936 l2))) (G (G (G 934 1) 8) (G 937 l2)) 0 G Q) ∧ (¬ ((G (G (G 934 1) 9) (G 937 l2)) - (G (G (G 934 1) 8) (G 937 l2)) = (G (G (G 934 0) 9) (G 936 l2)) - (G (G (G 934 0) 8) (G 936 l2))) → Q (0) G))))))))))))))))))))))))))))))))))))))))))))) ∧ (¬ (l2 < l1) → Q (1) G))
set_option maxRecDepth 20000 in
theorem TX2_sameTokens_2 {j : Nat → rx_K} {J : Nat → List Int → gS → (Int → gS → Prop) → Prop} {l1 : Int} {l2 : Int} {l3 : Nat} {l4 : Nat} {l5 : Nat} {l6 : Nat} {G : gS} {Q : Int → gS → Prop} (hl1 : inI l1) (hl2 : inI l2) (hl3 : l3 % 8 ≠ 1) (hl4 : l4 % 8 ≠ 1) (hl5 : l5 % 8 ≠ 1) (hl6 : l6 % 8 ≠ 1) (hj0 : ∀ (l1 : Int) (l2 : Int) (l3 : Nat) (l4 : Nat) (l5 : Nat) (l6 : Nat) (G : gS), (inI l1) → (inI l2) → (l3 % 8 ≠ 1) → (l4 % 8 ≠ 1) → (l5 % 8 ≠ 1) → (l6 % 8 ≠ 1) → J 0 [l1, l2] G Q → Tg W0 (j 0) [rf (934), cI (l1), cI (l2), l3, l4, l5, l6] [] G (fun r G => ∃ v, r = cI v ∧ (0 ≤ v ∧ v ≤ 1) ∧ Q v G)) (hj1 : ∀ (l1 : Int) (l2 : Int) (l3 : Int) (l4 : Int) (l5 : Int) (l6 : Int) (G : gS), (inI l1) → (inI l2) → (inI l3) → (inI l4) → (inI l5) → (inI l6) → J 1 [l1, l2, l3, l4, l5, l6] G Q → Tg W0 (j 1) [rf (934), cI (l1), cI (l2), cI (l3), cI (l4), cI (l5), cI (l6)] [] G (fun r G => ∃ v, r = cI v ∧ (0 ≤ v ∧ v ≤ 1) ∧ Q v G)) (h : PX2_sameTokens_2 J l1 l2 G Q) : Tg W0 (vX2_sameTokens_2 j) [rf (934), cI (l1), cI (l2), l3, l4, l5, l6] [] G (fun r G => ∃ v, r = cI v ∧ (0 ≤ v ∧ v ≤ 1) ∧ Q v G) := by
  unfold PX2_sameTokens_2 at h
  unfold vX2_sameTokens_2
  refine g_ld (v := cI _) rfl (is_I _) ?_
  refine g_ld (v := cI _) rfl (is_I _) ?_
  refine g_lt2 hl2 hl1 (fun b1 => ?_) (fun b1 => ?_)
  · replace h := h.1 b1
    unfold vX2_sameTokens_7
    refine g_ld (v := rf _) rfl (is_R _) ?_
    refine g_getR (kz := 0) (c := 1) oC2 rfl (Nat.le_of_ble_eq_true rfl) rfl (by decide) fun i2 => ?_
    replace h := h i2
    obtain ⟨q3, h⟩ := h
    refine g_getAF (kz := 8) (c := 0) q3 rfl (Nat.le_of_ble_eq_true rfl) rfl fun i4 => ?_
    replace h := h i4
    refine g_ld (v := rf _) rfl (is_R _) ?_
    refine g_getF (v := 936) oC2 (hC2_8) rfl (Nat.le_of_ble_eq_true rfl) (Nat.le_of_ble_eq_true rfl) ?_
    refine g_ld (v := cI _) rfl (is_I _) ?_
    obtain ⟨q5, q6, h⟩ := h
    refine g_aldI aC936 q5 q6 rfl fun i7 => ?_
    replace h := h i7
    obtain ⟨n8, q9, h⟩ := h
    obtain ⟨q10, q11, h⟩ := h
    refine g_aldI q9 q10 q11 rfl fun i12 => ?_
    replace h := h i12
    refine g_st (lv' := [_, _, _, _, _, _, _]) (is_I _) (Nat.le_of_ble_eq_true rfl) (Or.inr (n1_I _)) rfl ?_
    refine g_ld (v := rf _) rfl (is_R _) ?_
    refine g_getR (kz := 0) (c := 1) oC2 rfl (Nat.le_of_ble_eq_true rfl) rfl (by decide) fun i13 => ?_
    replace h := h i13
    obtain ⟨q14, h⟩ := h
    refine g_getAF (kz := 9) (c := 0) q14 rfl (Nat.le_of_ble_eq_true rfl) rfl fun i15 => ?_
    replace h := h i15
    refine g_ld (v := rf _) rfl (is_R _) ?_
    refine g_getF (v := 936) oC2 (hC2_8) rfl (Nat.le_of_ble_eq_true rfl) (Nat.le_of_ble_eq_true rfl) ?_
    refine g_ld (v := cI _) rfl (is_I _) ?_
    obtain ⟨q16, q17, h⟩ := h
    refine g_aldI aC936 q16 q17 rfl fun i18 => ?_
    replace h := h i18
    obtain ⟨n19, q20, h⟩ := h
    obtain ⟨q21, q22, h⟩ := h
    refine g_aldI q20 q21 q22 rfl fun i23 => ?_
    replace h := h i23
    refine g_ld (v := cI _) rfl (is_I _) ?_
    refine g_sub ?_
    refine g_st (lv' := [_, _, _, _, _, _, _]) (is_I _) (Nat.le_of_ble_eq_true rfl) (Or.inr (n1_I _)) rfl ?_
    obtain ⟨q24, h⟩ := h
    refine g_ld (v := rf _) rfl (is_R _) ?_
    refine g_getR (kz := 1) (c := 1) oC2 rfl (Nat.le_of_ble_eq_true rfl) rfl (by decide) fun i25 => ?_
    replace h := h i25
    obtain ⟨q26, h⟩ := h
    refine g_getAF (kz := 8) (c := 0) q26 rfl (Nat.le_of_ble_eq_true rfl) rfl fun i27 => ?_
    replace h := h i27
    refine g_ld (v := rf _) rfl (is_R _) ?_
    unfold vX2_sameTokens_48
    refine g_getF (v := 937) oC2 (hC2_9) rfl (Nat.le_of_ble_eq_true rfl) (Nat.le_of_ble_eq_true rfl) ?_
    refine g_ld (v := cI _) rfl (is_I _) ?_
    obtain ⟨q28, q29, h⟩ := h
    refine g_aldI aC937 q28 q29 rfl fun i30 => ?_
    replace h := h i30
    obtain ⟨n31, q32, h⟩ := h
    obtain ⟨q33, q34, h⟩ := h
    refine g_aldI q32 q33 q34 rfl fun i35 => ?_
    replace h := h i35
    refine g_st (lv' := [_, _, _, _, _, _, _]) (is_I _) (Nat.le_of_ble_eq_true rfl) (Or.inr (n1_I _)) rfl ?_
    refine g_ld (v := rf _) rfl (is_R _) ?_
    refine g_getR (kz := 1) (c := 1) oC2 rfl (Nat.le_of_ble_eq_true rfl) rfl (by decide) fun i36 => ?_
    replace h := h i36
    obtain ⟨q37, h⟩ := h
    refine g_getAF (kz := 9) (c := 0) q37 rfl (Nat.le_of_ble_eq_true rfl) rfl fun i38 => ?_
    replace h := h i38
    refine g_ld (v := rf _) rfl (is_R _) ?_
    refine g_getF (v := 937) oC2 (hC2_9) rfl (Nat.le_of_ble_eq_true rfl) (Nat.le_of_ble_eq_true rfl) ?_
    refine g_ld (v := cI _) rfl (is_I _) ?_
    obtain ⟨q39, q40, h⟩ := h
    refine g_aldI aC937 q39 q40 rfl fun i41 => ?_
    replace h := h i41
    obtain ⟨n42, q43, h⟩ := h
    obtain ⟨q44, q45, h⟩ := h
    refine g_aldI q43 q44 q45 rfl fun i46 => ?_
    replace h := h i46
    refine g_ld (v := cI _) rfl (is_I _) ?_
    refine g_sub ?_
    refine g_ld (v := cI _) rfl (is_I _) ?_
    obtain ⟨q47, h⟩ := h
    refine g_eq2 q47 q24 (fun b48 => ?_) (fun b48 => ?_)
    · replace h := h.1 b48
      unfold vX2_sameTokens_80
      refine g_const (v := cI (0)) rfl ?_
      refine g_st (lv' := [_, _, _, _, _, _, _]) (is_I _) (Nat.le_of_ble_eq_true rfl) (Or.inr (n1_I _)) rfl ?_
      exact TX2_sameTokens_83 hl1 hl2 i12 q24 i35 ⟨by omega, by omega⟩ hj0 hj1 h
    · replace h := h.2 b48
      unfold vX2_sameTokens_78
      refine g_const (v := cI (0)) rfl ?_
      exact g_ret1 (is_Z (by omega)) ⟨_, rfl, (by omega), h⟩
  · replace h := h.2 b1
    unfold vX2_sameTokens_132
    refine g_const (v := cI (1)) rfl ?_
    exact g_ret1 (is_Z (by omega)) ⟨_, rfl, (by omega), h⟩
def PX2_sameTokens_0 (J : Nat → List Int → gS → (Int → gS → Prop) → Prop) (a1 : Int) (G : gS) (Q : Int → gS → Prop) : Prop :=
  PX2_sameTokens_2 J a1 0 G Q
set_option maxRecDepth 20000 in
theorem TX2_sameTokens_0 {j : Nat → rx_K} {J : Nat → List Int → gS → (Int → gS → Prop) → Prop} {a1 : Int} {G : gS} {Q : Int → gS → Prop} (ha1 : inI a1) (hj0 : ∀ (l1 : Int) (l2 : Int) (l3 : Nat) (l4 : Nat) (l5 : Nat) (l6 : Nat) (G : gS), (inI l1) → (inI l2) → (l3 % 8 ≠ 1) → (l4 % 8 ≠ 1) → (l5 % 8 ≠ 1) → (l6 % 8 ≠ 1) → J 0 [l1, l2] G Q → Tg W0 (j 0) [rf (934), cI (l1), cI (l2), l3, l4, l5, l6] [] G (fun r G => ∃ v, r = cI v ∧ (0 ≤ v ∧ v ≤ 1) ∧ Q v G)) (hj1 : ∀ (l1 : Int) (l2 : Int) (l3 : Int) (l4 : Int) (l5 : Int) (l6 : Int) (G : gS), (inI l1) → (inI l2) → (inI l3) → (inI l4) → (inI l5) → (inI l6) → J 1 [l1, l2, l3, l4, l5, l6] G Q → Tg W0 (j 1) [rf (934), cI (l1), cI (l2), cI (l3), cI (l4), cI (l5), cI (l6)] [] G (fun r G => ∃ v, r = cI v ∧ (0 ≤ v ∧ v ≤ 1) ∧ Q v G)) (h : PX2_sameTokens_0 J a1 G Q) : Tg W0 (vX2_sameTokens_0 j) [rf (934), cI (a1), 7, 7, 7, 7, 7] [] G (fun r G => ∃ v, r = cI v ∧ (0 ≤ v ∧ v ≤ 1) ∧ Q v G) := by
  unfold PX2_sameTokens_0 at h
  unfold vX2_sameTokens_0
  refine g_const (v := cI (0)) rfl ?_
  refine g_st (lv' := [_, _, _, _, _, _, _]) (is_I _) (Nat.le_of_ble_eq_true rfl) (Or.inr (n1_I _)) rfl ?_
  exact TX2_sameTokens_2 ha1 ⟨by omega, by omega⟩ (show 7 % 8 ≠ 1 by decide) (show 7 % 8 ≠ 1 by decide) (show 7 % 8 ≠ 1 by decide) (show 7 % 8 ≠ 1 by decide) hj0 hj1 h
def PX2_sameTokens_J : Nat → Nat → List Int → gS → (Int → gS → Prop) → Prop
  | 0, _, _, _, _ => False
  | f + 1, h, L, G, Q => match h, L with
    | 0, [l1, l2] => PX2_sameTokens_2 (PX2_sameTokens_J f) l1 l2 G Q
    | 1, [l1, l2, l3, l4, l5, l6] => PX2_sameTokens_83 (PX2_sameTokens_J f) l1 l2 l3 l4 l5 l6 G Q
    | _, _ => False
theorem TX2_sameTokens_J {Q : Int → gS → Prop} : ∀ f N : Nat, f ≤ N → (∀ (l1 : Int) (l2 : Int) (l3 : Nat) (l4 : Nat) (l5 : Nat) (l6 : Nat) (G : gS), (inI l1) → (inI l2) → (l3 % 8 ≠ 1) → (l4 % 8 ≠ 1) → (l5 % 8 ≠ 1) → (l6 % 8 ≠ 1) → (PX2_sameTokens_J f) 0 [l1, l2] G Q → Tg W0 (rx_J vhX2_sameTokens N 0) [rf (934), cI (l1), cI (l2), l3, l4, l5, l6] [] G (fun r G => ∃ v, r = cI v ∧ (0 ≤ v ∧ v ≤ 1) ∧ Q v G)) ∧ (∀ (l1 : Int) (l2 : Int) (l3 : Int) (l4 : Int) (l5 : Int) (l6 : Int) (G : gS), (inI l1) → (inI l2) → (inI l3) → (inI l4) → (inI l5) → (inI l6) → (PX2_sameTokens_J f) 1 [l1, l2, l3, l4, l5, l6] G Q → Tg W0 (rx_J vhX2_sameTokens N 1) [rf (934), cI (l1), cI (l2), cI (l3), cI (l4), cI (l5), cI (l6)] [] G (fun r G => ∃ v, r = cI v ∧ (0 ≤ v ∧ v ≤ 1) ∧ Q v G)) := by
  intro f
  induction f with
  | zero => exact fun N _ => ⟨fun _ _ _ _ _ _ _ _ _ _ _ _ _ h => h.elim, fun _ _ _ _ _ _ _ _ _ _ _ _ _ h => h.elim⟩
  | succ f ih =>
    intro N hN
    obtain ⟨M, rfl⟩ : ∃ M, N = M + 1 := ⟨N - 1, by omega⟩
    have ih := ih M (by omega)
    exact ⟨fun _ _ _ _ _ _ _ hl1 hl2 hl3 hl4 hl5 hl6 h => show Tg W0 (vX2_sameTokens_2 (rx_J vhX2_sameTokens M)) _ _ _ _ from TX2_sameTokens_2 hl1 hl2 hl3 hl4 hl5 hl6 ih.1 ih.2 h, fun _ _ _ _ _ _ _ hl1 hl2 hl3 hl4 hl5 hl6 h => show Tg W0 (vX2_sameTokens_83 (rx_J vhX2_sameTokens M)) _ _ _ _ from TX2_sameTokens_83 hl1 hl2 hl3 hl4 hl5 hl6 ih.1 ih.2 h⟩
def PX2_sameTokens (a1 : Int) (G : gS) (Q : Int → gS → Prop) : Prop := ∃ f : Nat, f ≤ 4000000000 ∧ PX2_sameTokens_0 (PX2_sameTokens_J f) a1 G Q
theorem TX2_sameTokens {a1 : Int} {G : gS} {Q : Int → gS → Prop} (ha1 : inI a1) (h : PX2_sameTokens a1 G Q) : Tn W0 FX2_sameTokens [rf (934), cI (a1)] G (fun r G => ∃ v, r = cI v ∧ (0 ≤ v ∧ v ≤ 1) ∧ Q v G) := by
  obtain ⟨f, hf, h⟩ := h
  have hJ := TX2_sameTokens_J (Q := Q) f 4000000000 hf
  unfold FX2_sameTokens
  refine g_ent (lv' := [rf (934), cI (a1), 7, 7, 7, 7, 7]) (flR (flI fl0)) (Nat.le_of_ble_eq_true rfl) rfl ?_
  exact TX2_sameTokens_0 ha1 hJ.1 hJ.2 h
def PX2_sameBlocks_96 (l1 : Int) (l2 : Int) (l3 : Int) (s0 : Int) (G : gS) (Q : Int → gS → Prop) : Prop :=
  ((0 ≤ s0 ∧ s0 ≤ 1) ∧ Q (s0) G)
set_option maxRecDepth 20000 in
theorem TX2_sameBlocks_96 {l1 : Int} {l2 : Int} {l3 : Int} {s0 : Int} {G : gS} {Q : Int → gS → Prop} (hl3 : inI l3) (hs0 : inI s0) (h : PX2_sameBlocks_96 l1 l2 l3 s0 G Q) : Tg W0 vX2_sameBlocks_96 [rf (934), rf (l1), rf (l2), cI (l3)] [cI (s0)] G (fun r G => ∃ v, r = cI v ∧ (0 ≤ v ∧ v ≤ 1) ∧ Q v G) := by
  unfold PX2_sameBlocks_96 at h
  unfold vX2_sameBlocks_96
  obtain ⟨q25, h⟩ := h
  exact g_ret1 (is_Z q25) ⟨_, rfl, q25, h⟩
def PX2_sameBlocks_95 (l1 : Int) (l2 : Int) (l3 : Int) (G : gS) (Q : Int → gS → Prop) : Prop :=
  PX2_sameBlocks_96 l1 l2 l3 0 G Q
set_option maxRecDepth 20000 in
theorem TX2_sameBlocks_95 {l1 : Int} {l2 : Int} {l3 : Int} {G : gS} {Q : Int → gS → Prop} (hl3 : inI l3) (h : PX2_sameBlocks_95 l1 l2 l3 G Q) : Tg W0 vX2_sameBlocks_95 [rf (934), rf (l1), rf (l2), cI (l3)] [] G (fun r G => ∃ v, r = cI v ∧ (0 ≤ v ∧ v ≤ 1) ∧ Q v G) := by
  unfold PX2_sameBlocks_95 at h
  unfold vX2_sameBlocks_95
  refine g_const (v := cI (0)) rfl ?_
  exact TX2_sameBlocks_96 hl3 ⟨by omega, by omega⟩ h
def PX2_sameBlocks_59 (l1 : Int) (l2 : Int) (s0 : Int) (G : gS) (Q : Int → gS → Prop) : Prop :=
  ((0 ≤ s0 ∧ s0 ≤ 1) ∧ Q (s0) G)
set_option maxRecDepth 20000 in
theorem TX2_sameBlocks_59 {l1 : Int} {l2 : Int} {l3 : Nat} {s0 : Int} {G : gS} {Q : Int → gS → Prop} (hl3 : l3 % 8 ≠ 1) (hs0 : inI s0) (h : PX2_sameBlocks_59 l1 l2 s0 G Q) : Tg W0 vX2_sameBlocks_59 [rf (934), rf (l1), rf (l2), l3] [cI (s0)] G (fun r G => ∃ v, r = cI v ∧ (0 ≤ v ∧ v ≤ 1) ∧ Q v G) := by
  unfold PX2_sameBlocks_59 at h
  unfold vX2_sameBlocks_59
  obtain ⟨q33, h⟩ := h
  exact g_ret1 (is_Z q33) ⟨_, rfl, q33, h⟩
def PX2_sameBlocks_58 (l1 : Int) (l2 : Int) (G : gS) (Q : Int → gS → Prop) : Prop :=
  PX2_sameBlocks_59 l1 l2 0 G Q
set_option maxRecDepth 20000 in
theorem TX2_sameBlocks_58 {l1 : Int} {l2 : Int} {l3 : Nat} {G : gS} {Q : Int → gS → Prop} (hl3 : l3 % 8 ≠ 1) (h : PX2_sameBlocks_58 l1 l2 G Q) : Tg W0 vX2_sameBlocks_58 [rf (934), rf (l1), rf (l2), l3] [] G (fun r G => ∃ v, r = cI v ∧ (0 ≤ v ∧ v ≤ 1) ∧ Q v G) := by
  unfold PX2_sameBlocks_58 at h
  unfold vX2_sameBlocks_58
  refine g_const (v := cI (0)) rfl ?_
  exact TX2_sameBlocks_59 hl3 ⟨by omega, by omega⟩ h
def PX2_sameBlocks_54 (l1 : Int) (l2 : Int) (G : gS) (Q : Int → gS → Prop) : Prop :=
  PX2_sameBlocks_59 l1 l2 1 G Q
set_option maxRecDepth 20000 in
theorem TX2_sameBlocks_54 {l1 : Int} {l2 : Int} {l3 : Nat} {G : gS} {Q : Int → gS → Prop} (hl3 : l3 % 8 ≠ 1) (h : PX2_sameBlocks_54 l1 l2 G Q) : Tg W0 vX2_sameBlocks_54 [rf (934), rf (l1), rf (l2), l3] [] G (fun r G => ∃ v, r = cI v ∧ (0 ≤ v ∧ v ≤ 1) ∧ Q v G) := by
  unfold PX2_sameBlocks_54 at h
  unfold vX2_sameBlocks_54
  refine g_const (v := cI (1)) rfl ?_
  exact TX2_sameBlocks_59 hl3 ⟨by omega, by omega⟩ h
def PX2_sameBlocks_34 (l1 : Int) (l2 : Int) (G : gS) (Q : Int → gS → Prop) : Prop :=
  (isO W0 7 (l2) ∧ ((0 ≤ G l2 6 ∧ G l2 6 ≤ 1) → ((G l2 6 = 0 → PX2_sameBlocks_54 l1 l2 G Q) ∧ (¬ (G l2 6 = 0) → (inI (G l2 13) → (inI (G l2 12) → (inI ((G l2 13) - (G l2 12)) ∧ (((G l2 13) - (G l2 12) = 2 → PX2_sameBlocks_54 l1 l2 G Q) ∧ (¬ ((G l2 13) - (G l2 12) = 2) → PX2_sameBlocks_58 l1 l2 G Q)))))))))
set_option maxRecDepth 20000 in
theorem TX2_sameBlocks_34 {l1 : Int} {l2 : Int} {l3 : Nat} {G : gS} {Q : Int → gS → Prop} (hl3 : l3 % 8 ≠ 1) (h : PX2_sameBlocks_34 l1 l2 G Q) : Tg W0 vX2_sameBlocks_34 [rf (934), rf (l1), rf (l2), l3] [] G (fun r G => ∃ v, r = cI v ∧ (0 ≤ v ∧ v ≤ 1) ∧ Q v G) := by
  unfold PX2_sameBlocks_34 at h
  unfold vX2_sameBlocks_34
  refine g_ld (v := rf _) rfl (is_R _) ?_
  obtain ⟨q26, h⟩ := h
  refine g_getZ (kz := 6) q26 rfl (Nat.le_of_ble_eq_true rfl) rfl fun i27 => ?_
  replace h := h i27
  refine g_eq1 ⟨by omega, by omega⟩ (fun b28 => ?_) (fun b28 => ?_)
  · replace h := h.1 b28
    exact TX2_sameBlocks_54 hl3 h
  · replace h := h.2 b28
    unfold vX2_sameBlocks_41
    refine g_ld (v := rf _) rfl (is_R _) ?_
    refine g_getI (kz := 13) q26 rfl (Nat.le_of_ble_eq_true rfl) rfl fun i29 => ?_
    replace h := h i29
    refine g_ld (v := rf _) rfl (is_R _) ?_
    refine g_getI (kz := 12) q26 rfl (Nat.le_of_ble_eq_true rfl) rfl fun i30 => ?_
    replace h := h i30
    refine g_sub ?_
    refine g_const (v := cI (2)) rfl ?_
    obtain ⟨q31, h⟩ := h
    refine g_eq2 q31 ⟨by omega, by omega⟩ (fun b32 => ?_) (fun b32 => ?_)
    · replace h := h.1 b32
      exact TX2_sameBlocks_54 hl3 h
    · replace h := h.2 b32
      exact TX2_sameBlocks_58 hl3 h
def PX2_sameBlocks_14 (l1 : Int) (l2 : Int) (G : gS) (Q : Int → gS → Prop) : Prop :=
  (isO W0 7 (l1) ∧ ((0 ≤ G l1 6 ∧ G l1 6 ≤ 1) → ((G l1 6 = 0 → PX2_sameBlocks_34 l1 l2 G Q) ∧ (¬ (G l1 6 = 0) → (inI (G l1 13) → (inI (G l1 12) → (inI ((G l1 13) - (G l1 12)) ∧ (((G l1 13) - (G l1 12) = 2 → PX2_sameBlocks_34 l1 l2 G Q) ∧ (¬ ((G l1 13) - (G l1 12) = 2) → PX2_sameBlocks_58 l1 l2 G Q)))))))))
set_option maxRecDepth 20000 in
theorem TX2_sameBlocks_14 {l1 : Int} {l2 : Int} {l3 : Nat} {G : gS} {Q : Int → gS → Prop} (hl3 : l3 % 8 ≠ 1) (h : PX2_sameBlocks_14 l1 l2 G Q) : Tg W0 vX2_sameBlocks_14 [rf (934), rf (l1), rf (l2), l3] [] G (fun r G => ∃ v, r = cI v ∧ (0 ≤ v ∧ v ≤ 1) ∧ Q v G) := by
  unfold PX2_sameBlocks_14 at h
  unfold vX2_sameBlocks_14
  refine g_ld (v := rf _) rfl (is_R _) ?_
  obtain ⟨q18, h⟩ := h
  refine g_getZ (kz := 6) q18 rfl (Nat.le_of_ble_eq_true rfl) rfl fun i19 => ?_
  replace h := h i19
  refine g_eq1 ⟨by omega, by omega⟩ (fun b20 => ?_) (fun b20 => ?_)
  · replace h := h.1 b20
    exact TX2_sameBlocks_34 hl3 h
  · replace h := h.2 b20
    unfold vX2_sameBlocks_21
    refine g_ld (v := rf _) rfl (is_R _) ?_
    refine g_getI (kz := 13) q18 rfl (Nat.le_of_ble_eq_true rfl) rfl fun i21 => ?_
    replace h := h i21
    refine g_ld (v := rf _) rfl (is_R _) ?_
    refine g_getI (kz := 12) q18 rfl (Nat.le_of_ble_eq_true rfl) rfl fun i22 => ?_
    replace h := h i22
    refine g_sub ?_
    refine g_const (v := cI (2)) rfl ?_
    obtain ⟨q23, h⟩ := h
    refine g_eq2 q23 ⟨by omega, by omega⟩ (fun b24 => ?_) (fun b24 => ?_)
    · replace h := h.1 b24
      exact TX2_sameBlocks_34 hl3 h
    · replace h := h.2 b24
      exact TX2_sameBlocks_58 hl3 h
def PX2_sameBlocks_0 (a1 : Int) (a2 : Int) (G : gS) (Q : Int → gS → Prop) : Prop :=
  (isO W0 7 (a1) ∧ ((0 ≤ G a1 6 ∧ G a1 6 ≤ 1) → ((G a1 6 = 0 → PX2_sameBlocks_14 a1 a2 G Q) ∧ (¬ (G a1 6 = 0) → (isO W0 7 (a2) ∧ ((0 ≤ G a2 6 ∧ G a2 6 ≤ 1) → ((G a2 6 = 0 → PX2_sameBlocks_14 a1 a2 G Q) ∧ (¬ (G a2 6 = 0) → PX2_range a1 936 0 G (fun r8 G7 => inI r8 → PX2_range a2 937 0 G7 (fun r11 G10 => inI r11 → ((r8 = r11 → PX2_sameTokens r8 G10 (fun r15 G14 => (0 ≤ r15 ∧ r15 ≤ 1) → ((r15 = 0 → PX2_sameBlocks_95 a1 a2 r8 G14 Q) ∧ (¬ (r15 = 0) → PX2_sameBlocks_96 a1 a2 r8 1 G14 Q)))) ∧ (¬ (r8 = r11) → PX2_sameBlocks_95 a1 a2 r8 G10 Q))))))))))))
set_option maxRecDepth 20000 in
theorem TX2_sameBlocks_0 {a1 : Int} {a2 : Int} {G : gS} {Q : Int → gS → Prop}  (h : PX2_sameBlocks_0 a1 a2 G Q) : Tg W0 vX2_sameBlocks_0 [rf (934), rf (a1), rf (a2), 7] [] G (fun r G => ∃ v, r = cI v ∧ (0 ≤ v ∧ v ≤ 1) ∧ Q v G) := by
  unfold PX2_sameBlocks_0 at h
  unfold vX2_sameBlocks_0
  refine g_ld (v := rf _) rfl (is_R _) ?_
  obtain ⟨q1, h⟩ := h
  refine g_getZ (kz := 6) q1 rfl (Nat.le_of_ble_eq_true rfl) rfl fun i2 => ?_
  replace h := h i2
  refine g_eq1 ⟨by omega, by omega⟩ (fun b3 => ?_) (fun b3 => ?_)
  · replace h := h.1 b3
    exact TX2_sameBlocks_14 (show 7 % 8 ≠ 1 by decide) h
  · replace h := h.2 b3
    unfold vX2_sameBlocks_7
    refine g_ld (v := rf _) rfl (is_R _) ?_
    obtain ⟨q4, h⟩ := h
    refine g_getZ (kz := 6) q4 rfl (Nat.le_of_ble_eq_true rfl) rfl fun i5 => ?_
    replace h := h i5
    refine g_eq1 ⟨by omega, by omega⟩ (fun b6 => ?_) (fun b6 => ?_)
    · replace h := h.1 b6
      exact TX2_sameBlocks_14 (show 7 % 8 ≠ 1 by decide) h
    · replace h := h.2 b6
      unfold vX2_sameBlocks_60
      refine g_ld (v := rf _) rfl (is_R _) ?_
      refine g_ld (v := rf _) rfl (is_R _) ?_
      refine g_getF (v := 936) oC2 (hC2_8) rfl (Nat.le_of_ble_eq_true rfl) (Nat.le_of_ble_eq_true rfl) ?_
      refine g_const (v := cI (0)) rfl ?_
      refine g_callS (As := [_, _, _]) (fun _ => rfl) ?_
      refine g_go1 (Nat.le_of_ble_eq_true rfl) (Tn_w (TX2_range ⟨by omega, by omega⟩ h) fun _ G7 ⟨r8, e, i9, h⟩ => ?_)
      subst e
      refine ⟨n7_I _, ?_⟩
      replace h := h i9
      refine g_st (lv' := [_, _, _, _]) (is_I _) (Nat.le_of_ble_eq_true rfl) (Or.inr (n1_R _)) rfl ?_
      refine g_ld (v := cI _) rfl (is_I _) ?_
      refine g_ld (v := rf _) rfl (is_R _) ?_
      refine g_ld (v := rf _) rfl (is_R _) ?_
      refine g_getF (v := 937) oC2 (hC2_9) rfl (Nat.le_of_ble_eq_true rfl) (Nat.le_of_ble_eq_true rfl) ?_
      refine g_const (v := cI (0)) rfl ?_
      refine g_callS (As := [_, _, _]) (fun _ => rfl) ?_
      refine g_go1 (by simp only [cs_c, cs_0, ct_I, ct_L, ct_R]; exact Nat.le_of_ble_eq_true rfl) (Tn_w (TX2_range ⟨by omega, by omega⟩ h) fun _ G10 ⟨r11, e, i12, h⟩ => ?_)
      subst e
      refine ⟨n7_I _, ?_⟩
      replace h := h i12
      refine g_eq2 i9 i12 (fun b13 => ?_) (fun b13 => ?_)
      · replace h := h.1 b13
        unfold vX2_sameBlocks_83
        refine g_ld (v := rf _) rfl (is_R _) ?_
        refine g_ld (v := cI _) rfl (is_I _) ?_
        refine g_callV (As := [_]) (ci := 2) oC2 (fun _ => rfl) ?_
        refine g_go1 (Nat.le_of_ble_eq_true rfl) (Tn_w (TX2_sameTokens i9 h) fun _ G14 ⟨r15, e, i16, h⟩ => ?_)
        subst e
        refine ⟨n7_I _, ?_⟩
        replace h := h i16
        refine g_eq1 ⟨by omega, by omega⟩ (fun b17 => ?_) (fun b17 => ?_)
        · replace h := h.1 b17
          exact TX2_sameBlocks_95 i9 h
        · replace h := h.2 b17
          unfold vX2_sameBlocks_91
          refine g_const (v := cI (1)) rfl ?_
          exact TX2_sameBlocks_96 i9 ⟨by omega, by omega⟩ h
      · replace h := h.2 b13
        exact TX2_sameBlocks_95 i9 h
abbrev PX2_sameBlocks (a1 : Int) (a2 : Int) (G : gS) (Q : Int → gS → Prop) : Prop := PX2_sameBlocks_0 a1 a2 G Q
theorem TX2_sameBlocks {a1 : Int} {a2 : Int} {G : gS} {Q : Int → gS → Prop}  (h : PX2_sameBlocks a1 a2 G Q) : Tn W0 FX2_sameBlocks [rf (934), rf (a1), rf (a2)] G (fun r G => ∃ v, r = cI v ∧ (0 ≤ v ∧ v ≤ 1) ∧ Q v G) := by
  unfold FX2_sameBlocks
  refine g_ent (lv' := [rf (934), rf (a1), rf (a2), 7]) (flR (flR (flR fl0))) (Nat.le_of_ble_eq_true rfl) rfl ?_
  exact TX2_sameBlocks_0  h
end DE

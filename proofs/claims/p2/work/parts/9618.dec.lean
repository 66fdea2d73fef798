section DE
def PX12_allBuilt_4 (J : Nat → List Int → gS → (Int → gS → Prop) → Prop) (l1 : Int) (l2 : Int) (G : gS) (Q : Int → gS → Prop) : Prop :=
  ((l2 < 5 → ((0 : Int) ≤ l2 ∧ ((l2 : Int) < 5 ∧ (inI (G 4 l2) → (inI (l1 + (G 4 l2)) ∧ (inI (l2 + 1) ∧ J 0 [l1 + (G 4 l2), l2 + 1] G Q)))))) ∧ (¬ (l2 < 5) → Q (l1) G))
set_option maxRecDepth 20000 in
theorem TX12_allBuilt_4 {j : Nat → rx_K} {J : Nat → List Int → gS → (Int → gS → Prop) → Prop} {l1 : Int} {l2 : Int} {G : gS} {Q : Int → gS → Prop} (hl1 : inI l1) (hl2 : inI l2) (hj0 : ∀ (l1 : Int) (l2 : Int) (G : gS), (inI l1) → (inI l2) → J 0 [l1, l2] G Q → Tg W0 (j 0) [rf (0), cI (l1), cI (l2)] [] G (fun r G => ∃ v, r = cI v ∧ inI v ∧ Q v G)) (h : PX12_allBuilt_4 J l1 l2 G Q) : Tg W0 (vX12_allBuilt_4 j) [rf (0), cI (l1), cI (l2)] [] G (fun r G => ∃ v, r = cI v ∧ inI v ∧ Q v G) := by
  unfold PX12_allBuilt_4 at h
  unfold vX12_allBuilt_4
  refine g_ld (v := cI _) rfl (is_I _) ?_
  refine g_const (v := cI (5)) rfl ?_
  refine g_lt2 hl2 ⟨by omega, by omega⟩ (fun b1 => ?_) (fun b1 => ?_)
  · replace h := h.1 b1
    unfold vX12_allBuilt_9
    refine g_ld (v := cI _) rfl (is_I _) ?_
    refine g_ld (v := rf _) rfl (is_R _) ?_
    refine g_getF (v := 4) oC12 (hC12_5) rfl (Nat.le_of_ble_eq_true rfl) (Nat.le_of_ble_eq_true rfl) ?_
    refine g_ld (v := cI _) rfl (is_I _) ?_
    obtain ⟨q2, q3, h⟩ := h
    refine g_aldI aC4 q2 q3 rfl fun i4 => ?_
    replace h := h i4
    refine g_add ?_
    refine g_st (lv' := [_, _, _]) (is_I _) (Nat.le_of_ble_eq_true rfl) (Or.inr (n1_R _)) rfl ?_
    obtain ⟨q5, h⟩ := h
    refine g_inc (lv' := [_, _, _]) rfl (Nat.le_of_ble_eq_true rfl) (Or.inr (n1_I _)) rfl ?_
    obtain ⟨q6, h⟩ := h
    exact hj0 _ _ _ q5 q6 h
  · replace h := h.2 b1
    unfold vX12_allBuilt_24
    refine g_ld (v := cI _) rfl (is_I _) ?_
    exact g_ret1 (is_I _) ⟨_, rfl, hl1, h⟩
def PX12_allBuilt_0 (J : Nat → List Int → gS → (Int → gS → Prop) → Prop)  (G : gS) (Q : Int → gS → Prop) : Prop :=
  PX12_allBuilt_4 J 0 0 G Q
set_option maxRecDepth 20000 in
theorem TX12_allBuilt_0 {j : Nat → rx_K} {J : Nat → List Int → gS → (Int → gS → Prop) → Prop}  {G : gS} {Q : Int → gS → Prop}  (hj0 : ∀ (l1 : Int) (l2 : Int) (G : gS), (inI l1) → (inI l2) → J 0 [l1, l2] G Q → Tg W0 (j 0) [rf (0), cI (l1), cI (l2)] [] G (fun r G => ∃ v, r = cI v ∧ inI v ∧ Q v G)) (h : PX12_allBuilt_0 J  G Q) : Tg W0 (vX12_allBuilt_0 j) [rf (0), 7, 7] [] G (fun r G => ∃ v, r = cI v ∧ inI v ∧ Q v G) := by
  unfold PX12_allBuilt_0 at h
  unfold vX12_allBuilt_0
  refine g_const (v := cI (0)) rfl ?_
  refine g_st (lv' := [_, _, _]) (is_I _) (Nat.le_of_ble_eq_true rfl) (Or.inr (n1_R _)) rfl ?_
  refine g_const (v := cI (0)) rfl ?_
  refine g_st (lv' := [_, _, _]) (is_I _) (Nat.le_of_ble_eq_true rfl) (Or.inr (n1_I _)) rfl ?_
  exact TX12_allBuilt_4 ⟨by omega, by omega⟩ ⟨by omega, by omega⟩ hj0 h
def PX12_allBuilt_J : Nat → Nat → List Int → gS → (Int → gS → Prop) → Prop
  | 0, _, _, _, _ => False
  | f + 1, h, L, G, Q => match h, L with
    | 0, [l1, l2] => PX12_allBuilt_4 (PX12_allBuilt_J f) l1 l2 G Q
    | _, _ => False
theorem TX12_allBuilt_J {Q : Int → gS → Prop} : ∀ f N : Nat, f ≤ N → (∀ (l1 : Int) (l2 : Int) (G : gS), (inI l1) → (inI l2) → (PX12_allBuilt_J f) 0 [l1, l2] G Q → Tg W0 (rx_J vhX12_allBuilt N 0) [rf (0), cI (l1), cI (l2)] [] G (fun r G => ∃ v, r = cI v ∧ inI v ∧ Q v G)) := by
  intro f
  induction f with
  | zero => exact fun N _ => fun _ _ _ _ _ h => h.elim
  | succ f ih =>
    intro N hN
    obtain ⟨M, rfl⟩ : ∃ M, N = M + 1 := ⟨N - 1, by omega⟩
    have ih := ih M (by omega)
    exact fun _ _ _ hl1 hl2 h => show Tg W0 (vX12_allBuilt_4 (rx_J vhX12_allBuilt M)) _ _ _ _ from TX12_allBuilt_4 hl1 hl2 ih h
def PX12_allBuilt  (G : gS) (Q : Int → gS → Prop) : Prop := ∃ f : Nat, f ≤ 4000000000 ∧ PX12_allBuilt_0 (PX12_allBuilt_J f)  G Q
theorem TX12_allBuilt  {G : gS} {Q : Int → gS → Prop}  (h : PX12_allBuilt  G Q) : Tn W0 FX12_allBuilt [rf (0)] G (fun r G => ∃ v, r = cI v ∧ inI v ∧ Q v G) := by
  obtain ⟨f, hf, h⟩ := h
  have hJ := TX12_allBuilt_J (Q := Q) f 4000000000 hf
  unfold FX12_allBuilt
  refine g_ent (lv' := [rf (0), 7, 7]) (flR fl0) (Nat.le_of_ble_eq_true rfl) rfl ?_
  exact TX12_allBuilt_0  hJ h
def PX12_buildOf_50 (J : Nat → List Int → gS → (Int → gS → Prop) → Prop) (l1 : Int) (l2 : Int) (l3 : Int) (l4 : Int) (G : gS) (Q : Int → gS → Prop) : Prop :=
  (inI (l4 + 1) ∧ J 0 [l1, l2, l3, l4 + 1] G Q)
set_option maxRecDepth 20000 in
theorem TX12_buildOf_50 {j : Nat → rx_K} {J : Nat → List Int → gS → (Int → gS → Prop) → Prop} {l1 : Int} {l2 : Int} {l3 : Int} {l4 : Int} {G : gS} {Q : Int → gS → Prop} (hl1 : inI l1) (hl2 : inI l2) (hl3 : inI l3) (hl4 : inI l4) (hj0 : ∀ (l1 : Int) (l2 : Int) (l3 : Int) (l4 : Int) (G : gS), (inI l1) → (inI l2) → (inI l3) → (inI l4) → J 0 [l1, l2, l3, l4] G Q → Tg W0 (j 0) [rf (0), cI (l1), cI (l2), cI (l3), cI (l4)] [] G (fun r G => ∃ v, r = rf v ∧ Q v G)) (h : PX12_buildOf_50 J l1 l2 l3 l4 G Q) : Tg W0 (vX12_buildOf_50 j) [rf (0), cI (l1), cI (l2), cI (l3), cI (l4)] [] G (fun r G => ∃ v, r = rf v ∧ Q v G) := by
  unfold PX12_buildOf_50 at h
  unfold vX12_buildOf_50
  refine g_inc (lv' := [_, _, _, _, _]) rfl (Nat.le_of_ble_eq_true rfl) (Or.inr (n1_I _)) rfl ?_
  obtain ⟨q20, h⟩ := h
  exact hj0 _ _ _ _ _ hl1 hl2 hl3 q20 h
def PX12_buildOf_8 (J : Nat → List Int → gS → (Int → gS → Prop) → Prop) (l1 : Int) (l2 : Int) (l3 : Int) (l4 : Int) (G : gS) (Q : Int → gS → Prop) : Prop :=
  ((l4 < l3 → ((0 : Int) ≤ l4 ∧ ((l4 : Int) < 17 ∧ (((G 3 l4 = -1 ∨ isO W0 1 (G 3 l4)) ∧ ∀ v, W0.2 3 l4 = some v → G 3 l4 = v) → (isO W0 1 (G 3 l4) ∧ (inI (G (G 3 l4) 0) → ((G (G 3 l4) 0 = l1 → ((0 : Int) ≤ l4 ∧ ((l4 : Int) < 17 ∧ (((G 3 l4 = -1 ∨ isO W0 1 (G 3 l4)) ∧ ∀ v, W0.2 3 l4 = some v → G 3 l4 = v) → (isO W0 1 (G 3 l4) ∧ (inI (G (G 3 l4) 1) → ((G (G 3 l4) 1 = l2 → ((0 : Int) ≤ l4 ∧ ((l4 : Int) < 17 ∧ (((G 3 l4 = -1 ∨ isO W0 1 (G 3 l4)) ∧ ∀ v, W0.2 3 l4 = some v → G 3 l4 = v) → Q (G 3 l4) G)))) ∧ (¬ (G (G 3 l4) 1 = l2) → PX12_buildOf_50 J l1 l2 l3 l4 G Q)))))))) ∧ (¬ (G (G 3 l4) 0 = l1) → PX12_buildOf_50 J l1 l2 l3 l4 G Q)))))))) ∧ (¬ (l4 < l3) → Q (-1) G))
set_option maxRecDepth 20000 in
theorem TX12_buildOf_8 {j : Nat → rx_K} {J : Nat → List Int → gS → (Int → gS → Prop) → Prop} {l1 : Int} {l2 : Int} {l3 : Int} {l4 : Int} {G : gS} {Q : Int → gS → Prop} (hl1 : inI l1) (hl2 : inI l2) (hl3 : inI l3) (hl4 : inI l4) (hj0 : ∀ (l1 : Int) (l2 : Int) (l3 : Int) (l4 : Int) (G : gS), (inI l1) → (inI l2) → (inI l3) → (inI l4) → J 0 [l1, l2, l3, l4] G Q → Tg W0 (j 0) [rf (0), cI (l1), cI (l2), cI (l3), cI (l4)] [] G (fun r G => ∃ v, r = rf v ∧ Q v G)) (h : PX12_buildOf_8 J l1 l2 l3 l4 G Q) : Tg W0 (vX12_buildOf_8 j) [rf (0), cI (l1), cI (l2), cI (l3), cI (l4)] [] G (fun r G => ∃ v, r = rf v ∧ Q v G) := by
  unfold PX12_buildOf_8 at h
  unfold vX12_buildOf_8
  refine g_ld (v := cI _) rfl (is_I _) ?_
  refine g_ld (v := cI _) rfl (is_I _) ?_
  refine g_lt2 hl4 hl3 (fun b4 => ?_) (fun b4 => ?_)
  · replace h := h.1 b4
    unfold vX12_buildOf_14
    refine g_ld (v := rf _) rfl (is_R _) ?_
    refine g_getF (v := 3) oC12 (hC12_4) rfl (Nat.le_of_ble_eq_true rfl) (Nat.le_of_ble_eq_true rfl) ?_
    refine g_ld (v := cI _) rfl (is_I _) ?_
    obtain ⟨q5, q6, h⟩ := h
    refine g_aldRF (c := 1) aC3 q5 q6 rfl (by decide) fun i7 => ?_
    replace h := h i7
    obtain ⟨q8, h⟩ := h
    refine g_getI (kz := 0) q8 rfl (Nat.le_of_ble_eq_true rfl) rfl fun i9 => ?_
    replace h := h i9
    refine g_ld (v := cI _) rfl (is_I _) ?_
    refine g_eq2 i9 hl1 (fun b10 => ?_) (fun b10 => ?_)
    · replace h := h.1 b10
      unfold vX12_buildOf_28
      refine g_ld (v := rf _) rfl (is_R _) ?_
      refine g_getF (v := 3) oC12 (hC12_4) rfl (Nat.le_of_ble_eq_true rfl) (Nat.le_of_ble_eq_true rfl) ?_
      refine g_ld (v := cI _) rfl (is_I _) ?_
      obtain ⟨q11, q12, h⟩ := h
      refine g_aldRF (c := 1) aC3 q11 q12 rfl (by decide) fun i13 => ?_
      replace h := h i13
      obtain ⟨q14, h⟩ := h
      refine g_getI (kz := 1) q14 rfl (Nat.le_of_ble_eq_true rfl) rfl fun i15 => ?_
      replace h := h i15
      refine g_ld (v := cI _) rfl (is_I _) ?_
      refine g_eq2 i15 hl2 (fun b16 => ?_) (fun b16 => ?_)
      · replace h := h.1 b16
        unfold vX12_buildOf_42
        refine g_ld (v := rf _) rfl (is_R _) ?_
        refine g_getF (v := 3) oC12 (hC12_4) rfl (Nat.le_of_ble_eq_true rfl) (Nat.le_of_ble_eq_true rfl) ?_
        refine g_ld (v := cI _) rfl (is_I _) ?_
        obtain ⟨q17, q18, h⟩ := h
        refine g_aldRF (c := 1) aC3 q17 q18 rfl (by decide) fun i19 => ?_
        replace h := h i19
        exact g_ret1 (is_R _) ⟨_, rfl, h⟩
      · replace h := h.2 b16
        exact TX12_buildOf_50 hl1 hl2 hl3 hl4 hj0 h
    · replace h := h.2 b10
      exact TX12_buildOf_50 hl1 hl2 hl3 hl4 hj0 h
  · replace h := h.2 b4
    unfold vX12_buildOf_56
    refine g_const (v := rf (-1)) rfl ?_
    exact g_ret1 (is_R _) ⟨_, rfl, h⟩
def PX12_buildOf_0 (J : Nat → List Int → gS → (Int → gS → Prop) → Prop) (a1 : Int) (a2 : Int) (G : gS) (Q : Int → gS → Prop) : Prop :=
  PX12_allBuilt G (fun r2 G1 => inI r2 → PX12_buildOf_8 J a1 a2 r2 0 G1 Q)
set_option maxRecDepth 20000 in
theorem TX12_buildOf_0 {j : Nat → rx_K} {J : Nat → List Int → gS → (Int → gS → Prop) → Prop} {a1 : Int} {a2 : Int} {G : gS} {Q : Int → gS → Prop} (ha1 : inI a1) (ha2 : inI a2) (hj0 : ∀ (l1 : Int) (l2 : Int) (l3 : Int) (l4 : Int) (G : gS), (inI l1) → (inI l2) → (inI l3) → (inI l4) → J 0 [l1, l2, l3, l4] G Q → Tg W0 (j 0) [rf (0), cI (l1), cI (l2), cI (l3), cI (l4)] [] G (fun r G => ∃ v, r = rf v ∧ Q v G)) (h : PX12_buildOf_0 J a1 a2 G Q) : Tg W0 (vX12_buildOf_0 j) [rf (0), cI (a1), cI (a2), 7, 7] [] G (fun r G => ∃ v, r = rf v ∧ Q v G) := by
  unfold PX12_buildOf_0 at h
  unfold vX12_buildOf_0
  refine g_ld (v := rf _) rfl (is_R _) ?_
  refine g_callV (As := []) (ci := 12) oC12 (fun _ => rfl) ?_
  refine g_go1 (Nat.le_of_ble_eq_true rfl) (Tn_w (TX12_allBuilt  h) fun _ G1 ⟨r2, e, i3, h⟩ => ?_)
  subst e
  refine ⟨n7_I _, ?_⟩
  replace h := h i3
  refine g_st (lv' := [_, _, _, _, _]) (is_I _) (Nat.le_of_ble_eq_true rfl) (Or.inr (n1_I _)) rfl ?_
  refine g_const (v := cI (0)) rfl ?_
  refine g_st (lv' := [_, _, _, _, _]) (is_I _) (Nat.le_of_ble_eq_true rfl) (Or.inr (n1_I _)) rfl ?_
  exact TX12_buildOf_8 ha1 ha2 i3 ⟨by omega, by omega⟩ hj0 h
def PX12_buildOf_J : Nat → Nat → List Int → gS → (Int → gS → Prop) → Prop
  | 0, _, _, _, _ => False
  | f + 1, h, L, G, Q => match h, L with
    | 0, [l1, l2, l3, l4] => PX12_buildOf_8 (PX12_buildOf_J f) l1 l2 l3 l4 G Q
    | _, _ => False
theorem TX12_buildOf_J {Q : Int → gS → Prop} : ∀ f N : Nat, f ≤ N → (∀ (l1 : Int) (l2 : Int) (l3 : Int) (l4 : Int) (G : gS), (inI l1) → (inI l2) → (inI l3) → (inI l4) → (PX12_buildOf_J f) 0 [l1, l2, l3, l4] G Q → Tg W0 (rx_J vhX12_buildOf N 0) [rf (0), cI (l1), cI (l2), cI (l3), cI (l4)] [] G (fun r G => ∃ v, r = rf v ∧ Q v G)) := by
  intro f
  induction f with
  | zero => exact fun N _ => fun _ _ _ _ _ _ _ _ _ h => h.elim
  | succ f ih =>
    intro N hN
    obtain ⟨M, rfl⟩ : ∃ M, N = M + 1 := ⟨N - 1, by omega⟩
    have ih := ih M (by omega)
    exact fun _ _ _ _ _ hl1 hl2 hl3 hl4 h => show Tg W0 (vX12_buildOf_8 (rx_J vhX12_buildOf M)) _ _ _ _ from TX12_buildOf_8 hl1 hl2 hl3 hl4 ih h
def PX12_buildOf (a1 : Int) (a2 : Int) (G : gS) (Q : Int → gS → Prop) : Prop := ∃ f : Nat, f ≤ 4000000000 ∧ PX12_buildOf_0 (PX12_buildOf_J f) a1 a2 G Q
theorem TX12_buildOf {a1 : Int} {a2 : Int} {G : gS} {Q : Int → gS → Prop} (ha1 : inI a1) (ha2 : inI a2) (h : PX12_buildOf a1 a2 G Q) : Tn W0 FX12_buildOf [rf (0), cI (a1), cI (a2)] G (fun r G => ∃ v, r = rf v ∧ Q v G) := by
  obtain ⟨f, hf, h⟩ := h
  have hJ := TX12_buildOf_J (Q := Q) f 4000000000 hf
  unfold FX12_buildOf
  refine g_ent (lv' := [rf (0), cI (a1), cI (a2), 7, 7]) (flR (flI (flI fl0))) (Nat.le_of_ble_eq_true rfl) rfl ?_
  exact TX12_buildOf_0 ha1 ha2 hJ h
def PX12_fourBytes_46 (J : Nat → List Int → gS → (Int → gS → Prop) → Prop) (l1 : Int) (l2 : Int) (G : gS) (Q : Int → gS → Prop) : Prop :=
  Q 0 G
set_option maxRecDepth 20000 in
theorem TX12_fourBytes_46 {j : Nat → rx_K} {J : Nat → List Int → gS → (Int → gS → Prop) → Prop} {l1 : Int} {l2 : Int} {G : gS} {Q : Int → gS → Prop} (hl1 : inI l1) (hl2 : inI l2) (hj0 : ∀ (l1 : Int) (l2 : Int) (G : gS), (inI l1) → (inI l2) → J 0 [l1, l2] G Q → Tg W0 (j 0) [rf (0), cI (l1), cI (l2)] [] G (fun r G => r = 7 ∧ Q 0 G)) (h : PX12_fourBytes_46 J l1 l2 G Q) : Tg W0 (vX12_fourBytes_46 j) [rf (0), cI (l1), cI (l2)] [] G (fun r G => r = 7 ∧ Q 0 G) := by
  unfold PX12_fourBytes_46 at h
  unfold vX12_fourBytes_46
  exact g_ret0 ⟨rfl, h⟩
def PX12_fourBytes_3 (J : Nat → List Int → gS → (Int → gS → Prop) → Prop) (l1 : Int) (l2 : Int) (G : gS) (Q : Int → gS → Prop) : Prop :=
  ((l2 < 0 → PX12_fourBytes_46 J l1 l2 G Q) ∧ (¬ (l2 < 0) → (inI (G 0 1) → ((G 0 1 < 4000 → (inI (G 0 1) → (inI (iush l1 l2) → ((0 : Int) ≤ G 0 1 ∧ ((G 0 1 : Int) < 4000 ∧ (∀ G8 : gS, G8 = uG G 1 (G 0 1) (b8 (b8 (iush l1 l2))) → (inI (G8 0 1) → (inI ((G8 0 1) + 1) ∧ (∀ G11 : gS, G11 = uG G8 0 1 ((G8 0 1) + 1) → (inI (l2 + (-8)) ∧ J 0 [l1, l2 + (-8)] G11 Q)))))))))) ∧ (¬ (G 0 1 < 4000) → PX12_fourBytes_46 J l1 l2 G Q)))))
set_option maxRecDepth 20000 in
theorem TX12_fourBytes_3 {j : Nat → rx_K} {J : Nat → List Int → gS → (Int → gS → Prop) → Prop} {l1 : Int} {l2 : Int} {G : gS} {Q : Int → gS → Prop} (hl1 : inI l1) (hl2 : inI l2) (hj0 : ∀ (l1 : Int) (l2 : Int) (G : gS), (inI l1) → (inI l2) → J 0 [l1, l2] G Q → Tg W0 (j 0) [rf (0), cI (l1), cI (l2)] [] G (fun r G => r = 7 ∧ Q 0 G)) (h : PX12_fourBytes_3 J l1 l2 G Q) : Tg W0 (vX12_fourBytes_3 j) [rf (0), cI (l1), cI (l2)] [] G (fun r G => r = 7 ∧ Q 0 G) := by
  unfold PX12_fourBytes_3 at h
  unfold vX12_fourBytes_3
  refine g_ld (v := cI _) rfl (is_I _) ?_
  refine g_lt1 hl2 (fun b1 => ?_) (fun b1 => ?_)
  · replace h := h.1 b1
    exact TX12_fourBytes_46 hl1 hl2 hj0 h
  · replace h := h.2 b1
    unfold vX12_fourBytes_7
    refine g_ld (v := rf _) rfl (is_R _) ?_
    refine g_getI (kz := 1) oC12 rfl (Nat.le_of_ble_eq_true rfl) rfl fun i2 => ?_
    replace h := h i2
    refine g_const (v := cI (4000)) rfl ?_
    refine g_lt2 i2 ⟨by omega, by omega⟩ (fun b3 => ?_) (fun b3 => ?_)
    · replace h := h.1 b3
      unfold vX12_fourBytes_17
      refine g_ld (v := rf _) rfl (is_R _) ?_
      refine g_getF (v := 1) oC12 (hC12_0) rfl (Nat.le_of_ble_eq_true rfl) (Nat.le_of_ble_eq_true rfl) ?_
      refine g_ld (v := rf _) rfl (is_R _) ?_
      refine g_getI (kz := 1) oC12 rfl (Nat.le_of_ble_eq_true rfl) rfl fun i4 => ?_
      replace h := h i4
      refine g_ld (v := cI _) rfl (is_I _) ?_
      refine g_ld (v := cI _) rfl (is_I _) ?_
      refine g_iush fun i5 => ?_
      replace h := h i5
      refine g_i2b ?_
      obtain ⟨q6, q7, h⟩ := h
      refine g_astB aC1 q6 q7 (nfB aC1) ?_
      replace h := h _ rfl
      refine g_ld (v := rf _) rfl (is_R _) ?_
      refine g_dup (ct_R _) ?_
      refine g_getI (kz := 1) oC12 rfl (Nat.le_of_ble_eq_true rfl) rfl fun i9 => ?_
      replace h := h i9
      refine g_const (v := cI (1)) rfl ?_
      refine g_add ?_
      obtain ⟨q10, h⟩ := h
      refine g_putI (kz := 1) oC12 rfl (Nat.le_of_ble_eq_true rfl) rfl q10 (zfin_no (c := 0) (j := 1) rfl) ?_
      replace h := h _ rfl
      refine g_inc (lv' := [_, _, _]) rfl (Nat.le_of_ble_eq_true rfl) (Or.inr (n1_I _)) rfl ?_
      obtain ⟨q12, h⟩ := h
      exact hj0 _ _ _ hl1 q12 h
    · replace h := h.2 b3
      exact TX12_fourBytes_46 hl1 hl2 hj0 h
def PX12_fourBytes_0 (J : Nat → List Int → gS → (Int → gS → Prop) → Prop) (a1 : Int) (G : gS) (Q : Int → gS → Prop) : Prop :=
  PX12_fourBytes_3 J a1 24 G Q
set_option maxRecDepth 20000 in
theorem TX12_fourBytes_0 {j : Nat → rx_K} {J : Nat → List Int → gS → (Int → gS → Prop) → Prop} {a1 : Int} {G : gS} {Q : Int → gS → Prop} (ha1 : inI a1) (hj0 : ∀ (l1 : Int) (l2 : Int) (G : gS), (inI l1) → (inI l2) → J 0 [l1, l2] G Q → Tg W0 (j 0) [rf (0), cI (l1), cI (l2)] [] G (fun r G => r = 7 ∧ Q 0 G)) (h : PX12_fourBytes_0 J a1 G Q) : Tg W0 (vX12_fourBytes_0 j) [rf (0), cI (a1), 7] [] G (fun r G => r = 7 ∧ Q 0 G) := by
  unfold PX12_fourBytes_0 at h
  unfold vX12_fourBytes_0
  refine g_const (v := cI (24)) rfl ?_
  refine g_st (lv' := [_, _, _]) (is_I _) (Nat.le_of_ble_eq_true rfl) (Or.inr (n1_I _)) rfl ?_
  exact TX12_fourBytes_3 ha1 ⟨by omega, by omega⟩ hj0 h
def PX12_fourBytes_J : Nat → Nat → List Int → gS → (Int → gS → Prop) → Prop
  | 0, _, _, _, _ => False
  | f + 1, h, L, G, Q => match h, L with
    | 0, [l1, l2] => PX12_fourBytes_3 (PX12_fourBytes_J f) l1 l2 G Q
    | _, _ => False
theorem TX12_fourBytes_J {Q : Int → gS → Prop} : ∀ f N : Nat, f ≤ N → (∀ (l1 : Int) (l2 : Int) (G : gS), (inI l1) → (inI l2) → (PX12_fourBytes_J f) 0 [l1, l2] G Q → Tg W0 (rx_J vhX12_fourBytes N 0) [rf (0), cI (l1), cI (l2)] [] G (fun r G => r = 7 ∧ Q 0 G)) := by
  intro f
  induction f with
  | zero => exact fun N _ => fun _ _ _ _ _ h => h.elim
  | succ f ih =>
    intro N hN
    obtain ⟨M, rfl⟩ : ∃ M, N = M + 1 := ⟨N - 1, by omega⟩
    have ih := ih M (by omega)
    exact fun _ _ _ hl1 hl2 h => show Tg W0 (vX12_fourBytes_3 (rx_J vhX12_fourBytes M)) _ _ _ _ from TX12_fourBytes_3 hl1 hl2 ih h
def PX12_fourBytes (a1 : Int) (G : gS) (Q : Int → gS → Prop) : Prop := ∃ f : Nat, f ≤ 4000000000 ∧ PX12_fourBytes_0 (PX12_fourBytes_J f) a1 G Q
theorem TX12_fourBytes {a1 : Int} {G : gS} {Q : Int → gS → Prop} (ha1 : inI a1) (h : PX12_fourBytes a1 G Q) : Tn W0 FX12_fourBytes [rf (0), cI (a1)] G (fun r G => r = 7 ∧ Q 0 G) := by
  obtain ⟨f, hf, h⟩ := h
  have hJ := TX12_fourBytes_J (Q := Q) f 4000000000 hf
  unfold FX12_fourBytes
  refine g_ent (lv' := [rf (0), cI (a1), 7]) (flR (flI fl0)) (Nat.le_of_ble_eq_true rfl) rfl ?_
  exact TX12_fourBytes_0 ha1 hJ h
def PX12_feed_0 (a1 : Int) (a2 : Int) (a3 : Int) (a4 : Int) (a5 : Int) (G : gS) (Q : Int → gS → Prop) : Prop :=
  (inI (G 0 1) → (inI ((G 0 1) + 20) ∧ ((4000 < (G 0 1) + 20 → Q (-3) G) ∧ (¬ (4000 < (G 0 1) + 20) → PX12_fourBytes a1 G (fun _ G4 => PX12_fourBytes a2 G4 (fun _ G6 => PX12_fourBytes a3 G6 (fun _ G8 => PX12_fourBytes a4 G8 (fun _ G10 => PX12_fourBytes a5 G10 (fun _ G12 => (inI (G12 0 1) → Q (G12 0 1) G12))))))))))
set_option maxRecDepth 20000 in
theorem TX12_feed_0 {a1 : Int} {a2 : Int} {a3 : Int} {a4 : Int} {a5 : Int} {G : gS} {Q : Int → gS → Prop} (ha1 : inI a1) (ha2 : inI a2) (ha3 : inI a3) (ha4 : inI a4) (ha5 : inI a5) (h : PX12_feed_0 a1 a2 a3 a4 a5 G Q) : Tg W0 vX12_feed_0 [rf (0), cI (a1), cI (a2), cI (a3), cI (a4), cI (a5)] [] G (fun r G => ∃ v, r = cI v ∧ inI v ∧ Q v G) := by
  unfold PX12_feed_0 at h
  unfold vX12_feed_0
  refine g_ld (v := rf _) rfl (is_R _) ?_
  refine g_getI (kz := 1) oC12 rfl (Nat.le_of_ble_eq_true rfl) rfl fun i1 => ?_
  replace h := h i1
  refine g_const (v := cI (20)) rfl ?_
  refine g_add ?_
  refine g_const (v := cI (4000)) rfl ?_
  obtain ⟨q2, h⟩ := h
  refine g_gt2 q2 ⟨by omega, by omega⟩ (fun b3 => ?_) (fun b3 => ?_)
  · replace h := h.1 b3
    unfold vX12_feed_13
    refine g_const (v := cI (-3)) rfl ?_
    exact g_ret1 (is_I _) ⟨_, rfl, ⟨by omega, by omega⟩, h⟩
  · replace h := h.2 b3
    unfold vX12_feed_16
    refine g_ld (v := rf _) rfl (is_R _) ?_
    refine g_ld (v := cI _) rfl (is_I _) ?_
    refine g_callV (As := [_]) (ci := 12) oC12 (fun _ => rfl) ?_
    refine g_go0 (Nat.le_of_ble_eq_true rfl) (Tn_w (TX12_fourBytes ha1 h) fun _ G4 ⟨e, h⟩ => ⟨e, ?_⟩)
    refine g_ld (v := rf _) rfl (is_R _) ?_
    refine g_ld (v := cI _) rfl (is_I _) ?_
    refine g_callV (As := [_]) (ci := 12) oC12 (fun _ => rfl) ?_
    refine g_go0 (Nat.le_of_ble_eq_true rfl) (Tn_w (TX12_fourBytes ha2 h) fun _ G6 ⟨e, h⟩ => ⟨e, ?_⟩)
    refine g_ld (v := rf _) rfl (is_R _) ?_
    refine g_ld (v := cI _) rfl (is_I _) ?_
    refine g_callV (As := [_]) (ci := 12) oC12 (fun _ => rfl) ?_
    refine g_go0 (Nat.le_of_ble_eq_true rfl) (Tn_w (TX12_fourBytes ha3 h) fun _ G8 ⟨e, h⟩ => ⟨e, ?_⟩)
    refine g_ld (v := rf _) rfl (is_R _) ?_
    refine g_ld (v := cI _) rfl (is_I _) ?_
    refine g_callV (As := [_]) (ci := 12) oC12 (fun _ => rfl) ?_
    refine g_go0 (Nat.le_of_ble_eq_true rfl) (Tn_w (TX12_fourBytes ha4 h) fun _ G10 ⟨e, h⟩ => ⟨e, ?_⟩)
    refine g_ld (v := rf _) rfl (is_R _) ?_
    refine g_ld (v := cI _) rfl (is_I _) ?_
    refine g_callV (As := [_]) (ci := 12) oC12 (fun _ => rfl) ?_
    refine g_go0 (Nat.le_of_ble_eq_true rfl) (Tn_w (TX12_fourBytes ha5 h) fun _ G12 ⟨e, h⟩ => ⟨e, ?_⟩)
    refine g_ld (v := rf _) rfl (is_R _) ?_
    refine g_getI (kz := 1) oC12 rfl (Nat.le_of_ble_eq_true rfl) rfl fun i14 => ?_
    replace h := h i14
    exact g_ret1 (is_I _) ⟨_, rfl, i14, h⟩
abbrev PX12_feed (a1 : Int) (a2 : Int) (a3 : Int) (a4 : Int) (a5 : Int) (G : gS) (Q : Int → gS → Prop) : Prop := PX12_feed_0 a1 a2 a3 a4 a5 G Q
theorem TX12_feed {a1 : Int} {a2 : Int} {a3 : Int} {a4 : Int} {a5 : Int} {G : gS} {Q : Int → gS → Prop} (ha1 : inI a1) (ha2 : inI a2) (ha3 : inI a3) (ha4 : inI a4) (ha5 : inI a5) (h : PX12_feed a1 a2 a3 a4 a5 G Q) : Tn W0 FX12_feed [rf (0), cI (a1), cI (a2), cI (a3), cI (a4), cI (a5)] G (fun r G => ∃ v, r = cI v ∧ inI v ∧ Q v G) := by
  unfold FX12_feed
  refine g_ent (lv' := [rf (0), cI (a1), cI (a2), cI (a3), cI (a4), cI (a5)]) (flR (flI (flI (flI (flI (flI fl0)))))) (Nat.le_of_ble_eq_true rfl) rfl ?_
  exact TX12_feed_0 ha1 ha2 ha3 ha4 ha5 h
def PX12_cut_12 (l1 : Int) (G : gS) (Q : Int → gS → Prop) : Prop :=
  Q (-1) G
set_option maxRecDepth 20000 in
theorem TX12_cut_12 {l1 : Int} {G : gS} {Q : Int → gS → Prop} (hl1 : inI l1) (h : PX12_cut_12 l1 G Q) : Tg W0 vX12_cut_12 [rf (0), cI (l1)] [] G (fun r G => ∃ v, r = cI v ∧ inI v ∧ Q v G) := by
  unfold PX12_cut_12 at h
  unfold vX12_cut_12
  refine g_const (v := cI (-1)) rfl ?_
  exact g_ret1 (is_I _) ⟨_, rfl, ⟨by omega, by omega⟩, h⟩
def PX12_cut_0 (a1 : Int) (G : gS) (Q : Int → gS → Prop) : Prop :=
  ((a1 < 0 → PX12_cut_12 a1 G Q) ∧ (¬ (a1 < 0) → (inI (G 0 1) → ((G 0 1 < a1 → PX12_cut_12 a1 G Q) ∧ (¬ (G 0 1 < a1) → (inI (G 0 1) → (inI ((G 0 1) - a1) ∧ (∀ G6 : gS, G6 = uG G 0 1 ((G 0 1) - a1) → (inI (G6 0 1) → Q (G6 0 1) G6)))))))))
set_option maxRecDepth 20000 in
theorem TX12_cut_0 {a1 : Int} {G : gS} {Q : Int → gS → Prop} (ha1 : inI a1) (h : PX12_cut_0 a1 G Q) : Tg W0 vX12_cut_0 [rf (0), cI (a1)] [] G (fun r G => ∃ v, r = cI v ∧ inI v ∧ Q v G) := by
  unfold PX12_cut_0 at h
  unfold vX12_cut_0
  refine g_ld (v := cI _) rfl (is_I _) ?_
  refine g_lt1 ha1 (fun b1 => ?_) (fun b1 => ?_)
  · replace h := h.1 b1
    exact TX12_cut_12 ha1 h
  · replace h := h.2 b1
    unfold vX12_cut_4
    refine g_ld (v := cI _) rfl (is_I _) ?_
    refine g_ld (v := rf _) rfl (is_R _) ?_
    refine g_getI (kz := 1) oC12 rfl (Nat.le_of_ble_eq_true rfl) rfl fun i2 => ?_
    replace h := h i2
    refine g_gt2 ha1 i2 (fun b3 => ?_) (fun b3 => ?_)
    · replace h := h.1 b3
      exact TX12_cut_12 ha1 h
    · replace h := h.2 b3
      unfold vX12_cut_14
      refine g_ld (v := rf _) rfl (is_R _) ?_
      refine g_dup (ct_R _) ?_
      refine g_getI (kz := 1) oC12 rfl (Nat.le_of_ble_eq_true rfl) rfl fun i4 => ?_
      replace h := h i4
      refine g_ld (v := cI _) rfl (is_I _) ?_
      refine g_sub ?_
      obtain ⟨q5, h⟩ := h
      refine g_putI (kz := 1) oC12 rfl (Nat.le_of_ble_eq_true rfl) rfl q5 (zfin_no (c := 0) (j := 1) rfl) ?_
      replace h := h _ rfl
      refine g_ld (v := rf _) rfl (is_R _) ?_
      refine g_getI (kz := 1) oC12 rfl (Nat.le_of_ble_eq_true rfl) rfl fun i7 => ?_
      replace h := h i7
      exact g_ret1 (is_I _) ⟨_, rfl, i7, h⟩
abbrev PX12_cut (a1 : Int) (G : gS) (Q : Int → gS → Prop) : Prop := PX12_cut_0 a1 G Q
theorem TX12_cut {a1 : Int} {G : gS} {Q : Int → gS → Prop} (ha1 : inI a1) (h : PX12_cut a1 G Q) : Tn W0 FX12_cut [rf (0), cI (a1)] G (fun r G => ∃ v, r = cI v ∧ inI v ∧ Q v G) := by
  unfold FX12_cut
  refine g_ent (lv' := [rf (0), cI (a1)]) (flR (flI fl0)) (Nat.le_of_ble_eq_true rfl) rfl ?_
  exact TX12_cut_0 ha1 h
def PX12_unused_0  (G : gS) (Q : Int → gS → Prop) : Prop :=
  PX12_allBuilt G (fun r2 G1 => inI r2 → ((0 : Int) ≤ (if 16 < r2 then 16 else r2) ∧ (((if 16 < r2 then 16 else r2) : Int) < 17 ∧ (((G1 3 ((if 16 < r2 then 16 else r2)) = -1 ∨ isO W0 1 (G1 3 ((if 16 < r2 then 16 else r2)))) ∧ ∀ v, W0.2 3 ((if 16 < r2 then 16 else r2)) = some v → G1 3 ((if 16 < r2 then 16 else r2)) = v) → Q (G1 3 ((if 16 < r2 then 16 else r2))) G1))))
set_option maxRecDepth 20000 in
theorem TX12_unused_0  {G : gS} {Q : Int → gS → Prop}  (h : PX12_unused_0  G Q) : Tg W0 vX12_unused_0 [rf (0)] [] G (fun r G => ∃ v, r = rf v ∧ Q v G) := by
  unfold PX12_unused_0 at h
  unfold vX12_unused_0
  refine g_ld (v := rf _) rfl (is_R _) ?_
  refine g_getF (v := 3) oC12 (hC12_4) rfl (Nat.le_of_ble_eq_true rfl) (Nat.le_of_ble_eq_true rfl) ?_
  refine g_ld (v := rf _) rfl (is_R _) ?_
  refine g_callV (As := []) (ci := 12) oC12 (fun _ => rfl) ?_
  refine g_go1 (by simp only [cs_c, cs_0, ct_I, ct_L, ct_R]; exact Nat.le_of_ble_eq_true rfl) (Tn_w (TX12_allBuilt  h) fun _ G1 ⟨r2, e, i3, h⟩ => ?_)
  subst e
  refine ⟨n7_I _, ?_⟩
  replace h := h i3
  refine g_const (v := cI (16)) rfl ?_
  refine g_min i3 ⟨by omega, by omega⟩ (by simp only [cs_c, cs_0, ct_I, ct_L, ct_R]; exact Nat.le_of_ble_eq_true rfl) ?_
  obtain ⟨q4, q5, h⟩ := h
  refine g_aldRF (c := 1) aC3 q4 q5 rfl (by decide) fun i6 => ?_
  replace h := h i6
  exact g_ret1 (is_R _) ⟨_, rfl, h⟩
abbrev PX12_unused  (G : gS) (Q : Int → gS → Prop) : Prop := PX12_unused_0  G Q
theorem TX12_unused  {G : gS} {Q : Int → gS → Prop}  (h : PX12_unused  G Q) : Tn W0 FX12_unused [rf (0)] G (fun r G => ∃ v, r = rf v ∧ Q v G) := by
  unfold FX12_unused
  refine g_ent (lv' := [rf (0)]) (flR fl0) (Nat.le_of_ble_eq_true rfl) rfl ?_
  exact TX12_unused_0  h
def PX12_splice_44 (l1 : Int) (l2 : Int) (l3 : Int) (l4 : Int) (G : gS) (Q : Int → gS → Prop) : Prop :=
  Q (-1) G
set_option maxRecDepth 20000 in
theorem TX12_splice_44 {l1 : Int} {l2 : Int} {l3 : Int} {l4 : Int} {l5 : Nat} {G : gS} {Q : Int → gS → Prop} (hl1 : inI l1) (hl2 : inI l2) (hl3 : inI l3) (hl4 : inI l4) (hl5 : l5 % 8 ≠ 1) (h : PX12_splice_44 l1 l2 l3 l4 G Q) : Tg W0 vX12_splice_44 [rf (0), cI (l1), cI (l2), cI (l3), cI (l4), l5] [] G (fun r G => ∃ v, r = cI v ∧ inI v ∧ Q v G) := by
  unfold PX12_splice_44 at h
  unfold vX12_splice_44
  refine g_const (v := cI (-1)) rfl ?_
  exact g_ret1 (is_I _) ⟨_, rfl, ⟨by omega, by omega⟩, h⟩
def PX12_splice_12 (l1 : Int) (l2 : Int) (l3 : Int) (G : gS) (Q : Int → gS → Prop) : Prop :=
  Q (-1) G
set_option maxRecDepth 20000 in
theorem TX12_splice_12 {l1 : Int} {l2 : Int} {l3 : Int} {l4 : Nat} {l5 : Nat} {G : gS} {Q : Int → gS → Prop} (hl1 : inI l1) (hl2 : inI l2) (hl3 : inI l3) (hl4 : l4 % 8 ≠ 1) (hl5 : l5 % 8 ≠ 1) (h : PX12_splice_12 l1 l2 l3 G Q) : Tg W0 vX12_splice_12 [rf (0), cI (l1), cI (l2), cI (l3), l4, l5] [] G (fun r G => ∃ v, r = cI v ∧ inI v ∧ Q v G) := by
  unfold PX12_splice_12 at h
  unfold vX12_splice_12
  refine g_const (v := cI (-1)) rfl ?_
  exact g_ret1 (is_I _) ⟨_, rfl, ⟨by omega, by omega⟩, h⟩
def PX12_splice_0 (a1 : Int) (a2 : Int) (a3 : Int) (G : gS) (Q : Int → gS → Prop) : Prop :=
  ((a3 < 0 → PX12_splice_12 a1 a2 a3 G Q) ∧ (¬ (a3 < 0) → (inI (G 0 1) → ((G 0 1 < a3 → PX12_splice_12 a1 a2 a3 G Q) ∧ (¬ (G 0 1 < a3) → (inI (G 0 1) → (inI ((G 0 1) - a3) ∧ ((a1 < 0 → PX12_splice_44 a1 a2 a3 ((G 0 1) - a3) G Q) ∧ (¬ (a1 < 0) → (((G 0 1) - a3 < a1 → PX12_splice_44 a1 a2 a3 ((G 0 1) - a3) G Q) ∧ (¬ ((G 0 1) - a3 < a1) → ((a2 < 0 → PX12_splice_44 a1 a2 a3 ((G 0 1) - a3) G Q) ∧ (¬ (a2 < 0) → (inI (((G 0 1) - a3) - a1) ∧ ((((G 0 1) - a3) - a1 < a2 → PX12_splice_44 a1 a2 a3 ((G 0 1) - a3) G Q) ∧ (¬ (((G 0 1) - a3) - a1 < a2) → PX12_unused G (fun r12 G11 => (isO W0 1 (r12) ∧ (((G11 r12 6 = -1 ∨ ∃ n, isA W0 2 n (G11 r12 6)) ∧ ∀ v, W0.2 r12 6 = some v → G11 r12 6 = v) → (∃ n16, isA W0 2 n16 (G11 r12 6) ∧ ((0 : Int) ≤ (G 0 1) - a3 ∧ ((((G 0 1) - a3) + a3 : Int) ≤ 4000 ∧ ((0 : Int) ≤ 0 ∧ ((0 + a3 : Int) ≤ n16 ∧ ((0 : Int) ≤ a3 ∧ (∀ G23 : gS, G23 = cpG G11 1 ((G 0 1) - a3) (G11 r12 6) 0 a3 → ((0 : Int) ≤ a1 + a2 ∧ (((a1 + a2) + ((((G 0 1) - a3) - a1) - a2) : Int) ≤ 4000 ∧ ((0 : Int) ≤ a1 + a3 ∧ (((a1 + a3) + ((((G 0 1) - a3) - a1) - a2) : Int) ≤ 4000 ∧ ((0 : Int) ≤ (((G 0 1) - a3) - a1) - a2 ∧ (∀ G29 : gS, G29 = cpG G23 1 (a1 + a2) 1 (a1 + a3) ((((G 0 1) - a3) - a1) - a2) → (∃ n30, isA W0 2 n30 (G11 r12 6) ∧ ((0 : Int) ≤ 0 ∧ ((0 + a3 : Int) ≤ n30 ∧ ((0 : Int) ≤ a1 ∧ ((a1 + a3 : Int) ≤ 4000 ∧ ((0 : Int) ≤ a3 ∧ (∀ G37 : gS, G37 = cpG G29 (G11 r12 6) 0 1 a1 a3 → (inI (G37 0 1) → (inI ((G37 0 1) - a2) ∧ (∀ G40 : gS, G40 = uG G37 0 1 ((G37 0 1) - a2) → (inI (G40 0 1) → Q (G40 0 1) G40)))))))))))))))))))))))))))))))))))))))))))
set_option maxRecDepth 20000 in
theorem TX12_splice_0 {a1 : Int} {a2 : Int} {a3 : Int} {G : gS} {Q : Int → gS → Prop} (ha1 : inI a1) (ha2 : inI a2) (ha3 : inI a3) (h : PX12_splice_0 a1 a2 a3 G Q) : Tg W0 vX12_splice_0 [rf (0), cI (a1), cI (a2), cI (a3), 7, 7] [] G (fun r G => ∃ v, r = cI v ∧ inI v ∧ Q v G) := by
  unfold PX12_splice_0 at h
  unfold vX12_splice_0
  refine g_ld (v := cI _) rfl (is_I _) ?_
  refine g_lt1 ha3 (fun b1 => ?_) (fun b1 => ?_)
  · replace h := h.1 b1
    exact TX12_splice_12 ha1 ha2 ha3 (show 7 % 8 ≠ 1 by decide) (show 7 % 8 ≠ 1 by decide) h
  · replace h := h.2 b1
    unfold vX12_splice_4
    refine g_ld (v := cI _) rfl (is_I _) ?_
    refine g_ld (v := rf _) rfl (is_R _) ?_
    refine g_getI (kz := 1) oC12 rfl (Nat.le_of_ble_eq_true rfl) rfl fun i2 => ?_
    replace h := h i2
    refine g_gt2 ha3 i2 (fun b3 => ?_) (fun b3 => ?_)
    · replace h := h.1 b3
      exact TX12_splice_12 ha1 ha2 ha3 (show 7 % 8 ≠ 1 by decide) (show 7 % 8 ≠ 1 by decide) h
    · replace h := h.2 b3
      unfold vX12_splice_14
      refine g_ld (v := rf _) rfl (is_R _) ?_
      refine g_getI (kz := 1) oC12 rfl (Nat.le_of_ble_eq_true rfl) rfl fun i4 => ?_
      replace h := h i4
      refine g_ld (v := cI _) rfl (is_I _) ?_
      refine g_sub ?_
      refine g_st (lv' := [_, _, _, _, _, _]) (is_I _) (Nat.le_of_ble_eq_true rfl) (Or.inr (n1_I _)) rfl ?_
      obtain ⟨q5, h⟩ := h
      refine g_ld (v := cI _) rfl (is_I _) ?_
      refine g_lt1 ha1 (fun b6 => ?_) (fun b6 => ?_)
      · replace h := h.1 b6
        exact TX12_splice_44 ha1 ha2 ha3 q5 (show 7 % 8 ≠ 1 by decide) h
      · replace h := h.2 b6
        unfold vX12_splice_26
        refine g_ld (v := cI _) rfl (is_I _) ?_
        refine g_ld (v := cI _) rfl (is_I _) ?_
        refine g_gt2 ha1 q5 (fun b7 => ?_) (fun b7 => ?_)
        · replace h := h.1 b7
          exact TX12_splice_44 ha1 ha2 ha3 q5 (show 7 % 8 ≠ 1 by decide) h
        · replace h := h.2 b7
          unfold vX12_splice_32
          refine g_ld (v := cI _) rfl (is_I _) ?_
          refine g_lt1 ha2 (fun b8 => ?_) (fun b8 => ?_)
          · replace h := h.1 b8
            exact TX12_splice_44 ha1 ha2 ha3 q5 (show 7 % 8 ≠ 1 by decide) h
          · replace h := h.2 b8
            unfold vX12_splice_36
            refine g_ld (v := cI _) rfl (is_I _) ?_
            refine g_ld (v := cI _) rfl (is_I _) ?_
            refine g_ld (v := cI _) rfl (is_I _) ?_
            refine g_sub ?_
            obtain ⟨q9, h⟩ := h
            refine g_gt2 ha2 q9 (fun b10 => ?_) (fun b10 => ?_)
            · replace h := h.1 b10
              exact TX12_splice_44 ha1 ha2 ha3 q5 (show 7 % 8 ≠ 1 by decide) h
            · replace h := h.2 b10
              unfold vX12_splice_46
              refine g_ld (v := rf _) rfl (is_R _) ?_
              refine g_callV (As := []) (ci := 12) oC12 (fun _ => rfl) ?_
              refine g_go1 (Nat.le_of_ble_eq_true rfl) (Tn_w (TX12_unused  h) fun _ G11 ⟨r12, e, h⟩ => ?_)
              subst e
              refine ⟨n7_R _, ?_⟩
              obtain ⟨q14, h⟩ := h
              refine g_getAF (kz := 6) (c := 2) q14 rfl (Nat.le_of_ble_eq_true rfl) rfl fun i15 => ?_
              replace h := h i15
              refine g_st (lv' := [_, _, _, _, _, _]) (is_R _) (Nat.le_of_ble_eq_true rfl) (Or.inr (n1_I _)) rfl ?_
              refine g_ld (v := rf _) rfl (is_R _) ?_
              refine g_getF (v := 1) oC12 (hC12_0) rfl (Nat.le_of_ble_eq_true rfl) (Nat.le_of_ble_eq_true rfl) ?_
              refine g_ld (v := cI _) rfl (is_I _) ?_
              refine g_ld (v := rf _) rfl (is_R _) ?_
              refine g_const (v := cI (0)) rfl ?_
              refine g_ld (v := cI _) rfl (is_I _) ?_
              obtain ⟨n16, q17, h⟩ := h
              obtain ⟨q18, q19, q20, q21, q22, h⟩ := h
              refine g_copyB aC1 q17 q18 q19 q20 q21 q22 (Nat.le_of_ble_eq_true rfl) (fun _ => nfB q17) ?_
              replace h := h _ rfl
              refine g_ld (v := rf _) rfl (is_R _) ?_
              refine g_getF (v := 1) oC12 (hC12_0) rfl (Nat.le_of_ble_eq_true rfl) (Nat.le_of_ble_eq_true rfl) ?_
              refine g_ld (v := cI _) rfl (is_I _) ?_
              refine g_ld (v := cI _) rfl (is_I _) ?_
              refine g_add ?_
              refine g_ld (v := rf _) rfl (is_R _) ?_
              refine g_getF (v := 1) oC12 (hC12_0) rfl (Nat.le_of_ble_eq_true rfl) (Nat.le_of_ble_eq_true rfl) ?_
              refine g_ld (v := cI _) rfl (is_I _) ?_
              refine g_ld (v := cI _) rfl (is_I _) ?_
              refine g_add ?_
              refine g_ld (v := cI _) rfl (is_I _) ?_
              refine g_ld (v := cI _) rfl (is_I _) ?_
              refine g_sub ?_
              unfold vX12_splice_86
              refine g_ld (v := cI _) rfl (is_I _) ?_
              refine g_sub ?_
              obtain ⟨q24, q25, q26, q27, q28, h⟩ := h
              refine g_copyB aC1 aC1 q24 q25 q26 q27 q28 (Nat.le_of_ble_eq_true rfl) (fun _ => nfB aC1) ?_
              replace h := h _ rfl
              refine g_ld (v := rf _) rfl (is_R _) ?_
              refine g_const (v := cI (0)) rfl ?_
              refine g_ld (v := rf _) rfl (is_R _) ?_
              refine g_getF (v := 1) oC12 (hC12_0) rfl (Nat.le_of_ble_eq_true rfl) (Nat.le_of_ble_eq_true rfl) ?_
              refine g_ld (v := cI _) rfl (is_I _) ?_
              refine g_ld (v := cI _) rfl (is_I _) ?_
              obtain ⟨n30, q31, h⟩ := h
              obtain ⟨q32, q33, q34, q35, q36, h⟩ := h
              refine g_copyB q31 aC1 q32 q33 q34 q35 q36 (Nat.le_of_ble_eq_true rfl) (fun _ => nfB aC1) ?_
              replace h := h _ rfl
              refine g_ld (v := rf _) rfl (is_R _) ?_
              refine g_dup (ct_R _) ?_
              refine g_getI (kz := 1) oC12 rfl (Nat.le_of_ble_eq_true rfl) rfl fun i38 => ?_
              replace h := h i38
              refine g_ld (v := cI _) rfl (is_I _) ?_
              refine g_sub ?_
              obtain ⟨q39, h⟩ := h
              refine g_putI (kz := 1) oC12 rfl (Nat.le_of_ble_eq_true rfl) rfl q39 (zfin_no (c := 0) (j := 1) rfl) ?_
              replace h := h _ rfl
              refine g_ld (v := rf _) rfl (is_R _) ?_
              refine g_getI (kz := 1) oC12 rfl (Nat.le_of_ble_eq_true rfl) rfl fun i41 => ?_
              replace h := h i41
              exact g_ret1 (is_I _) ⟨_, rfl, i41, h⟩
abbrev PX12_splice (a1 : Int) (a2 : Int) (a3 : Int) (G : gS) (Q : Int → gS → Prop) : Prop := PX12_splice_0 a1 a2 a3 G Q
theorem TX12_splice {a1 : Int} {a2 : Int} {a3 : Int} {G : gS} {Q : Int → gS → Prop} (ha1 : inI a1) (ha2 : inI a2) (ha3 : inI a3) (h : PX12_splice a1 a2 a3 G Q) : Tn W0 FX12_splice [rf (0), cI (a1), cI (a2), cI (a3)] G (fun r G => ∃ v, r = cI v ∧ inI v ∧ Q v G) := by
  unfold FX12_splice
  refine g_ent (lv' := [rf (0), cI (a1), cI (a2), cI (a3), 7, 7]) (flR (flI (flI (flI fl0)))) (Nat.le_of_ble_eq_true rfl) rfl ?_
  exact TX12_splice_0 ha1 ha2 ha3 h
def PX12_text_0 (a1 : Int) (a2 : Int) (G : gS) (Q : Int → gS → Prop) : Prop :=
  PX12_buildOf a1 a2 G (fun r2 G1 => ((r2 < 0 → Q (-1) G1) ∧ (0 ≤ r2 → (isO W0 1 (r2) ∧ (((G1 r2 6 = -1 ∨ ∃ n, isA W0 2 n (G1 r2 6)) ∧ ∀ v, W0.2 r2 6 = some v → G1 r2 6 = v) → (inI (G1 r2 7) → (∃ n8, isA W0 2 n8 (G1 r2 6) ∧ ((0 : Int) ≤ 0 ∧ ((0 + (G1 r2 7) : Int) ≤ n8 ∧ ((0 : Int) ≤ 0 ∧ ((0 + (G1 r2 7) : Int) ≤ 4000 ∧ ((0 : Int) ≤ G1 r2 7 ∧ (∀ G15 : gS, G15 = cpG G1 (G1 r2 6) 0 1 0 (G1 r2 7) → (inI (G15 r2 7) → (∀ G17 : gS, G17 = uG G15 0 1 (G15 r2 7) → (inI (G17 0 1) → Q (G17 0 1) G17))))))))))))))))
set_option maxRecDepth 20000 in
theorem TX12_text_0 {a1 : Int} {a2 : Int} {G : gS} {Q : Int → gS → Prop} (ha1 : inI a1) (ha2 : inI a2) (h : PX12_text_0 a1 a2 G Q) : Tg W0 vX12_text_0 [rf (0), cI (a1), cI (a2), 7] [] G (fun r G => ∃ v, r = cI v ∧ inI v ∧ Q v G) := by
  unfold PX12_text_0 at h
  unfold vX12_text_0
  refine g_ld (v := rf _) rfl (is_R _) ?_
  refine g_ld (v := cI _) rfl (is_I _) ?_
  refine g_ld (v := cI _) rfl (is_I _) ?_
  refine g_callV (As := [_, _]) (ci := 12) oC12 (fun _ => rfl) ?_
  refine g_go1 (Nat.le_of_ble_eq_true rfl) (Tn_w (TX12_buildOf ha1 ha2 h) fun _ G1 ⟨r2, e, h⟩ => ?_)
  subst e
  refine ⟨n7_R _, ?_⟩
  refine g_st (lv' := [_, _, _, _]) (is_R _) (Nat.le_of_ble_eq_true rfl) (Or.inr (n1_I _)) rfl ?_
  refine g_ld (v := rf _) rfl (is_R _) ?_
  refine g_nul (fun b4 => ?_) (fun b4 => ?_)
  · replace h := h.1 b4
    unfold vX12_text_11
    refine g_const (v := cI (-1)) rfl ?_
    exact g_ret1 (is_I _) ⟨_, rfl, ⟨by omega, by omega⟩, h⟩
  · replace h := h.2 b4
    unfold vX12_text_13
    refine g_ld (v := rf _) rfl (is_R _) ?_
    obtain ⟨q5, h⟩ := h
    refine g_getAF (kz := 6) (c := 2) q5 rfl (Nat.le_of_ble_eq_true rfl) rfl fun i6 => ?_
    replace h := h i6
    refine g_const (v := cI (0)) rfl ?_
    refine g_ld (v := rf _) rfl (is_R _) ?_
    refine g_getF (v := 1) oC12 (hC12_0) rfl (Nat.le_of_ble_eq_true rfl) (Nat.le_of_ble_eq_true rfl) ?_
    refine g_const (v := cI (0)) rfl ?_
    refine g_ld (v := rf _) rfl (is_R _) ?_
    refine g_getI (kz := 7) q5 rfl (Nat.le_of_ble_eq_true rfl) rfl fun i7 => ?_
    replace h := h i7
    obtain ⟨n8, q9, h⟩ := h
    obtain ⟨q10, q11, q12, q13, q14, h⟩ := h
    refine g_copyB q9 aC1 q10 q11 q12 q13 q14 (Nat.le_of_ble_eq_true rfl) (fun _ => nfB aC1) ?_
    replace h := h _ rfl
    refine g_ld (v := rf _) rfl (is_R _) ?_
    refine g_ld (v := rf _) rfl (is_R _) ?_
    refine g_getI (kz := 7) q5 rfl (Nat.le_of_ble_eq_true rfl) rfl fun i16 => ?_
    replace h := h i16
    refine g_putI (kz := 1) oC12 rfl (Nat.le_of_ble_eq_true rfl) rfl i16 (zfin_no (c := 0) (j := 1) rfl) ?_
    replace h := h _ rfl
    refine g_ld (v := rf _) rfl (is_R _) ?_
    refine g_getI (kz := 1) oC12 rfl (Nat.le_of_ble_eq_true rfl) rfl fun i18 => ?_
    replace h := h i18
    exact g_ret1 (is_I _) ⟨_, rfl, i18, h⟩
abbrev PX12_text (a1 : Int) (a2 : Int) (G : gS) (Q : Int → gS → Prop) : Prop := PX12_text_0 a1 a2 G Q
theorem TX12_text {a1 : Int} {a2 : Int} {G : gS} {Q : Int → gS → Prop} (ha1 : inI a1) (ha2 : inI a2) (h : PX12_text a1 a2 G Q) : Tn W0 FX12_text [rf (0), cI (a1), cI (a2)] G (fun r G => ∃ v, r = cI v ∧ inI v ∧ Q v G) := by
  unfold FX12_text
  refine g_ent (lv' := [rf (0), cI (a1), cI (a2), 7]) (flR (flI (flI fl0))) (Nat.le_of_ble_eq_true rfl) rfl ?_
  exact TX12_text_0 ha1 ha2 h
def PX12_size_0  (G : gS) (Q : Int → gS → Prop) : Prop :=
  (inI (G 0 3) → Q (G 0 3) G)
set_option maxRecDepth 20000 in
theorem TX12_size_0  {G : gS} {Q : Int → gS → Prop}  (h : PX12_size_0  G Q) : Tg W0 vX12_size_0 [rf (0)] [] G (fun r G => ∃ v, r = cI v ∧ inI v ∧ Q v G) := by
  unfold PX12_size_0 at h
  unfold vX12_size_0
  refine g_ld (v := rf _) rfl (is_R _) ?_
  refine g_getI (kz := 3) oC12 rfl (Nat.le_of_ble_eq_true rfl) rfl fun i1 => ?_
  replace h := h i1
  exact g_ret1 (is_I _) ⟨_, rfl, i1, h⟩
abbrev PX12_size  (G : gS) (Q : Int → gS → Prop) : Prop := PX12_size_0  G Q
theorem TX12_size  {G : gS} {Q : Int → gS → Prop}  (h : PX12_size  G Q) : Tn W0 FX12_size [rf (0)] G (fun r G => ∃ v, r = cI v ∧ inI v ∧ Q v G) := by
  unfold FX12_size
  refine g_ent (lv' := [rf (0)]) (flR fl0) (Nat.le_of_ble_eq_true rfl) rfl ?_
  exact TX12_size_0  h
def PX12_octet_26 (l1 : Int) (s0 : Int) (G : gS) (Q : Int → gS → Prop) : Prop :=
  Q (s0) G
set_option maxRecDepth 20000 in
theorem TX12_octet_26 {l1 : Int} {s0 : Int} {G : gS} {Q : Int → gS → Prop} (hl1 : inI l1) (hs0 : inI s0) (h : PX12_octet_26 l1 s0 G Q) : Tg W0 vX12_octet_26 [rf (0), cI (l1)] [cI (s0)] G (fun r G => ∃ v, r = cI v ∧ inI v ∧ Q v G) := by
  unfold PX12_octet_26 at h
  unfold vX12_octet_26
  exact g_ret1 (is_I _) ⟨_, rfl, hs0, h⟩
def PX12_octet_12 (l1 : Int) (G : gS) (Q : Int → gS → Prop) : Prop :=
  PX12_octet_26 l1 (-1) G Q
set_option maxRecDepth 20000 in
theorem TX12_octet_12 {l1 : Int} {G : gS} {Q : Int → gS → Prop} (hl1 : inI l1) (h : PX12_octet_12 l1 G Q) : Tg W0 vX12_octet_12 [rf (0), cI (l1)] [] G (fun r G => ∃ v, r = cI v ∧ inI v ∧ Q v G) := by
  unfold PX12_octet_12 at h
  unfold vX12_octet_12
  refine g_const (v := cI (-1)) rfl ?_
  exact TX12_octet_26 hl1 ⟨by omega, by omega⟩ h
def PX12_octet_0 (a1 : Int) (G : gS) (Q : Int → gS → Prop) : Prop :=
  ((a1 < 0 → PX12_octet_12 a1 G Q) ∧ (¬ (a1 < 0) → (inI (G 0 3) → ((a1 < G 0 3 → ((0 : Int) ≤ a1 ∧ ((a1 : Int) < 600 ∧ ((-128 ≤ G 2 a1 ∧ G 2 a1 < 128) → (inI (iand (G 2 a1) 255) → PX12_octet_26 a1 (iand (G 2 a1) 255) G Q))))) ∧ (¬ (a1 < G 0 3) → PX12_octet_12 a1 G Q)))))
set_option maxRecDepth 20000 in
theorem TX12_octet_0 {a1 : Int} {G : gS} {Q : Int → gS → Prop} (ha1 : inI a1) (h : PX12_octet_0 a1 G Q) : Tg W0 vX12_octet_0 [rf (0), cI (a1)] [] G (fun r G => ∃ v, r = cI v ∧ inI v ∧ Q v G) := by
  unfold PX12_octet_0 at h
  unfold vX12_octet_0
  refine g_ld (v := cI _) rfl (is_I _) ?_
  refine g_lt1 ha1 (fun b1 => ?_) (fun b1 => ?_)
  · replace h := h.1 b1
    exact TX12_octet_12 ha1 h
  · replace h := h.2 b1
    unfold vX12_octet_4
    refine g_ld (v := cI _) rfl (is_I _) ?_
    refine g_ld (v := rf _) rfl (is_R _) ?_
    refine g_getI (kz := 3) oC12 rfl (Nat.le_of_ble_eq_true rfl) rfl fun i2 => ?_
    replace h := h i2
    refine g_lt2 ha1 i2 (fun b3 => ?_) (fun b3 => ?_)
    · replace h := h.1 b3
      unfold vX12_octet_16
      refine g_ld (v := rf _) rfl (is_R _) ?_
      refine g_getF (v := 2) oC12 (hC12_2) rfl (Nat.le_of_ble_eq_true rfl) (Nat.le_of_ble_eq_true rfl) ?_
      refine g_ld (v := cI _) rfl (is_I _) ?_
      obtain ⟨q4, q5, h⟩ := h
      refine g_aldB aC2 q4 q5 rfl fun i6 => ?_
      replace h := h i6
      refine g_const (v := cI (255)) rfl ?_
      refine g_iand fun i7 => ?_
      replace h := h i7
      exact TX12_octet_26 ha1 i7 h
    · replace h := h.2 b3
      exact TX12_octet_12 ha1 h
abbrev PX12_octet (a1 : Int) (G : gS) (Q : Int → gS → Prop) : Prop := PX12_octet_0 a1 G Q
theorem TX12_octet {a1 : Int} {G : gS} {Q : Int → gS → Prop} (ha1 : inI a1) (h : PX12_octet a1 G Q) : Tn W0 FX12_octet [rf (0), cI (a1)] G (fun r G => ∃ v, r = cI v ∧ inI v ∧ Q v G) := by
  unfold FX12_octet
  refine g_ent (lv' := [rf (0), cI (a1)]) (flR (flI fl0)) (Nat.le_of_ble_eq_true rfl) rfl ?_
  exact TX12_octet_0 ha1 h
def PX12_isLibrary_14 (l0 : Int) (s0 : Int) (G : gS) (Q : Int → gS → Prop) : Prop :=
  ((0 ≤ s0 ∧ s0 ≤ 1) ∧ Q (s0) G)
set_option maxRecDepth 20000 in
theorem TX12_isLibrary_14 {l0 : Int} {s0 : Int} {G : gS} {Q : Int → gS → Prop} (hl0 : inI l0) (hs0 : inI s0) (h : PX12_isLibrary_14 l0 s0 G Q) : Tg W0 vX12_isLibrary_14 [cI (l0)] [cI (s0)] G (fun r G => ∃ v, r = cI v ∧ (0 ≤ v ∧ v ≤ 1) ∧ Q v G) := by
  unfold PX12_isLibrary_14 at h
  unfold vX12_isLibrary_14
  obtain ⟨q3, h⟩ := h
  exact g_ret1 (is_Z q3) ⟨_, rfl, q3, h⟩
def PX12_isLibrary_13 (l0 : Int) (G : gS) (Q : Int → gS → Prop) : Prop :=
  PX12_isLibrary_14 l0 0 G Q
set_option maxRecDepth 20000 in
theorem TX12_isLibrary_13 {l0 : Int} {G : gS} {Q : Int → gS → Prop} (hl0 : inI l0) (h : PX12_isLibrary_13 l0 G Q) : Tg W0 vX12_isLibrary_13 [cI (l0)] [] G (fun r G => ∃ v, r = cI v ∧ (0 ≤ v ∧ v ≤ 1) ∧ Q v G) := by
  unfold PX12_isLibrary_13 at h
  unfold vX12_isLibrary_13
  refine g_const (v := cI (0)) rfl ?_
  exact TX12_isLibrary_14 hl0 ⟨by omega, by omega⟩ h
def PX12_isLibrary_0 (a0 : Int) (G : gS) (Q : Int → gS → Prop) : Prop :=
  ((a0 < 0 → PX12_isLibrary_13 a0 G Q) ∧ (¬ (a0 < 0) → ((a0 < 5 → PX12_isLibrary_14 a0 1 G Q) ∧ (¬ (a0 < 5) → PX12_isLibrary_13 a0 G Q))))
set_option maxRecDepth 20000 in
theorem TX12_isLibrary_0 {a0 : Int} {G : gS} {Q : Int → gS → Prop} (ha0 : inI a0) (h : PX12_isLibrary_0 a0 G Q) : Tg W0 vX12_isLibrary_0 [cI (a0)] [] G (fun r G => ∃ v, r = cI v ∧ (0 ≤ v ∧ v ≤ 1) ∧ Q v G) := by
  unfold PX12_isLibrary_0 at h
  unfold vX12_isLibrary_0
  refine g_ld (v := cI _) rfl (is_I _) ?_
  refine g_lt1 ha0 (fun b1 => ?_) (fun b1 => ?_)
  · replace h := h.1 b1
    exact TX12_isLibrary_13 ha0 h
  · replace h := h.2 b1
    unfold vX12_isLibrary_4
    refine g_ld (v := cI _) rfl (is_I _) ?_
    refine g_const (v := cI (5)) rfl ?_
    refine g_lt2 ha0 ⟨by omega, by omega⟩ (fun b2 => ?_) (fun b2 => ?_)
    · replace h := h.1 b2
      unfold vX12_isLibrary_9
      refine g_const (v := cI (1)) rfl ?_
      exact TX12_isLibrary_14 ha0 ⟨by omega, by omega⟩ h
    · replace h := h.2 b2
      exact TX12_isLibrary_13 ha0 h
abbrev PX12_isLibrary (a0 : Int) (G : gS) (Q : Int → gS → Prop) : Prop := PX12_isLibrary_0 a0 G Q
theorem TX12_isLibrary {a0 : Int} {G : gS} {Q : Int → gS → Prop} (ha0 : inI a0) (h : PX12_isLibrary a0 G Q) : Tn W0 FX12_isLibrary [cI (a0)] G (fun r G => ∃ v, r = cI v ∧ (0 ≤ v ∧ v ≤ 1) ∧ Q v G) := by
  unfold FX12_isLibrary
  refine g_ent (lv' := [cI (a0)]) (flI fl0) (Nat.le_of_ble_eq_true rfl) rfl ?_
  exact TX12_isLibrary_0 ha0 h
def PX12_rowOf_37 (l1 : Int) (l2 : Int) (l3 : Int) (l4 : Int) (s0 : Int) (G : gS) (Q : Int → gS → Prop) : Prop :=
  Q (s0) G
set_option maxRecDepth 20000 in
theorem TX12_rowOf_37 {l1 : Int} {l2 : Int} {l3 : Int} {l4 : Int} {s0 : Int} {G : gS} {Q : Int → gS → Prop} (hl1 : inI l1) (hl2 : inI l2) (hl3 : inI l3) (h : PX12_rowOf_37 l1 l2 l3 l4 s0 G Q) : Tg W0 vX12_rowOf_37 [rf (0), cI (l1), cI (l2), cI (l3), rf (l4)] [rf (s0)] G (fun r G => ∃ v, r = rf v ∧ Q v G) := by
  unfold PX12_rowOf_37 at h
  unfold vX12_rowOf_37
  exact g_ret1 (is_R _) ⟨_, rfl, h⟩
def PX12_rowOf_26 (l1 : Int) (l2 : Int) (l3 : Int) (l4 : Int) (G : gS) (Q : Int → gS → Prop) : Prop :=
  PX12_rowOf_37 l1 l2 l3 l4 (-1) G Q
set_option maxRecDepth 20000 in
theorem TX12_rowOf_26 {l1 : Int} {l2 : Int} {l3 : Int} {l4 : Int} {G : gS} {Q : Int → gS → Prop} (hl1 : inI l1) (hl2 : inI l2) (hl3 : inI l3) (h : PX12_rowOf_26 l1 l2 l3 l4 G Q) : Tg W0 vX12_rowOf_26 [rf (0), cI (l1), cI (l2), cI (l3), rf (l4)] [] G (fun r G => ∃ v, r = rf v ∧ Q v G) := by
  unfold PX12_rowOf_26 at h
  unfold vX12_rowOf_26
  refine g_const (v := rf (-1)) rfl ?_
  exact TX12_rowOf_37 hl1 hl2 hl3 h
def PX12_rowOf_0 (a1 : Int) (a2 : Int) (a3 : Int) (G : gS) (Q : Int → gS → Prop) : Prop :=
  PX12_buildOf a1 a2 G (fun r2 G1 => ((r2 < 0 → PX12_rowOf_26 a1 a2 a3 r2 G1 Q) ∧ (0 ≤ r2 → ((a3 < 0 → PX12_rowOf_26 a1 a2 a3 r2 G1 Q) ∧ (¬ (a3 < 0) → (isO W0 1 (r2) ∧ (inI (G1 r2 3) → ((a3 < G1 r2 3 → (((G1 r2 2 = -1 ∨ ∃ n, isA W0 4 n (G1 r2 2)) ∧ ∀ v, W0.2 r2 2 = some v → G1 r2 2 = v) → (∃ n10, isA W0 4 n10 (G1 r2 2) ∧ ((0 : Int) ≤ a3 ∧ ((a3 : Int) < n10 ∧ (((G1 (G1 r2 2) a3 = -1 ∨ isO W0 10 (G1 (G1 r2 2) a3)) ∧ ∀ v, W0.2 (G1 r2 2) a3 = some v → G1 (G1 r2 2) a3 = v) → PX12_rowOf_37 a1 a2 a3 r2 (G1 (G1 r2 2) a3) G1 Q)))))) ∧ (¬ (a3 < G1 r2 3) → PX12_rowOf_26 a1 a2 a3 r2 G1 Q)))))))))
set_option maxRecDepth 20000 in
theorem TX12_rowOf_0 {a1 : Int} {a2 : Int} {a3 : Int} {G : gS} {Q : Int → gS → Prop} (ha1 : inI a1) (ha2 : inI a2) (ha3 : inI a3) (h : PX12_rowOf_0 a1 a2 a3 G Q) : Tg W0 vX12_rowOf_0 [rf (0), cI (a1), cI (a2), cI (a3), 7] [] G (fun r G => ∃ v, r = rf v ∧ Q v G) := by
  unfold PX12_rowOf_0 at h
  unfold vX12_rowOf_0
  refine g_ld (v := rf _) rfl (is_R _) ?_
  refine g_ld (v := cI _) rfl (is_I _) ?_
  refine g_ld (v := cI _) rfl (is_I _) ?_
  refine g_callV (As := [_, _]) (ci := 12) oC12 (fun _ => rfl) ?_
  refine g_go1 (Nat.le_of_ble_eq_true rfl) (Tn_w (TX12_buildOf ha1 ha2 h) fun _ G1 ⟨r2, e, h⟩ => ?_)
  subst e
  refine ⟨n7_R _, ?_⟩
  refine g_st (lv' := [_, _, _, _, _]) (is_R _) (Nat.le_of_ble_eq_true rfl) (Or.inr (n1_I _)) rfl ?_
  refine g_ld (v := rf _) rfl (is_R _) ?_
  refine g_nul (fun b4 => ?_) (fun b4 => ?_)
  · replace h := h.1 b4
    exact TX12_rowOf_26 ha1 ha2 ha3 h
  · replace h := h.2 b4
    unfold vX12_rowOf_13
    refine g_ld (v := cI _) rfl (is_I _) ?_
    refine g_lt1 ha3 (fun b5 => ?_) (fun b5 => ?_)
    · replace h := h.1 b5
      exact TX12_rowOf_26 ha1 ha2 ha3 h
    · replace h := h.2 b5
      unfold vX12_rowOf_17
      refine g_ld (v := cI _) rfl (is_I _) ?_
      refine g_ld (v := rf _) rfl (is_R _) ?_
      obtain ⟨q6, h⟩ := h
      refine g_getI (kz := 3) q6 rfl (Nat.le_of_ble_eq_true rfl) rfl fun i7 => ?_
      replace h := h i7
      refine g_lt2 ha3 i7 (fun b8 => ?_) (fun b8 => ?_)
      · replace h := h.1 b8
        unfold vX12_rowOf_30
        refine g_ld (v := rf _) rfl (is_R _) ?_
        refine g_getAF (kz := 2) (c := 4) q6 rfl (Nat.le_of_ble_eq_true rfl) rfl fun i9 => ?_
        replace h := h i9
        refine g_ld (v := cI _) rfl (is_I _) ?_
        obtain ⟨n10, q11, h⟩ := h
        obtain ⟨q12, q13, h⟩ := h
        refine g_aldRF (c := 10) q11 q12 q13 rfl (by decide) fun i14 => ?_
        replace h := h i14
        exact TX12_rowOf_37 ha1 ha2 ha3 h
      · replace h := h.2 b8
        exact TX12_rowOf_26 ha1 ha2 ha3 h
abbrev PX12_rowOf (a1 : Int) (a2 : Int) (a3 : Int) (G : gS) (Q : Int → gS → Prop) : Prop := PX12_rowOf_0 a1 a2 a3 G Q
theorem TX12_rowOf {a1 : Int} {a2 : Int} {a3 : Int} {G : gS} {Q : Int → gS → Prop} (ha1 : inI a1) (ha2 : inI a2) (ha3 : inI a3) (h : PX12_rowOf a1 a2 a3 G Q) : Tn W0 FX12_rowOf [rf (0), cI (a1), cI (a2), cI (a3)] G (fun r G => ∃ v, r = rf v ∧ Q v G) := by
  unfold FX12_rowOf
  refine g_ent (lv' := [rf (0), cI (a1), cI (a2), cI (a3), 7]) (flR (flI (flI (flI fl0)))) (Nat.le_of_ble_eq_true rfl) rfl ?_
  exact TX12_rowOf_0 ha1 ha2 ha3 h
def PX12_isFull_25 (l1 : Int) (s0 : Int) (G : gS) (Q : Int → gS → Prop) : Prop :=
  ((0 ≤ s0 ∧ s0 ≤ 1) ∧ Q (s0) G)
set_option maxRecDepth 20000 in
theorem TX12_isFull_25 {l1 : Int} {s0 : Int} {G : gS} {Q : Int → gS → Prop} (hl1 : inI l1) (hs0 : inI s0) (h : PX12_isFull_25 l1 s0 G Q) : Tg W0 vX12_isFull_25 [rf (0), cI (l1)] [cI (s0)] G (fun r G => ∃ v, r = cI v ∧ (0 ≤ v ∧ v ≤ 1) ∧ Q v G) := by
  unfold PX12_isFull_25 at h
  unfold vX12_isFull_25
  obtain ⟨q9, h⟩ := h
  exact g_ret1 (is_Z q9) ⟨_, rfl, q9, h⟩
def PX12_isFull_20 (l1 : Int) (G : gS) (Q : Int → gS → Prop) : Prop :=
  PX12_isFull_25 l1 1 G Q
set_option maxRecDepth 20000 in
theorem TX12_isFull_20 {l1 : Int} {G : gS} {Q : Int → gS → Prop} (hl1 : inI l1) (h : PX12_isFull_20 l1 G Q) : Tg W0 vX12_isFull_20 [rf (0), cI (l1)] [] G (fun r G => ∃ v, r = cI v ∧ (0 ≤ v ∧ v ≤ 1) ∧ Q v G) := by
  unfold PX12_isFull_20 at h
  unfold vX12_isFull_20
  refine g_const (v := cI (1)) rfl ?_
  exact TX12_isFull_25 hl1 ⟨by omega, by omega⟩ h
def PX12_isFull_0 (a1 : Int) (G : gS) (Q : Int → gS → Prop) : Prop :=
  ((0 : Int) ≤ a1 ∧ ((a1 : Int) < 5 ∧ (inI (G 4 a1) → ((G 4 a1 < 8 → PX12_allBuilt G (fun r6 G5 => inI r6 → ((r6 < 16 → PX12_isFull_25 a1 0 G5 Q) ∧ (¬ (r6 < 16) → PX12_isFull_20 a1 G5 Q)))) ∧ (¬ (G 4 a1 < 8) → PX12_isFull_20 a1 G Q)))))
set_option maxRecDepth 20000 in
theorem TX12_isFull_0 {a1 : Int} {G : gS} {Q : Int → gS → Prop} (ha1 : inI a1) (h : PX12_isFull_0 a1 G Q) : Tg W0 vX12_isFull_0 [rf (0), cI (a1)] [] G (fun r G => ∃ v, r = cI v ∧ (0 ≤ v ∧ v ≤ 1) ∧ Q v G) := by
  unfold PX12_isFull_0 at h
  unfold vX12_isFull_0
  refine g_ld (v := rf _) rfl (is_R _) ?_
  refine g_getF (v := 4) oC12 (hC12_5) rfl (Nat.le_of_ble_eq_true rfl) (Nat.le_of_ble_eq_true rfl) ?_
  refine g_ld (v := cI _) rfl (is_I _) ?_
  obtain ⟨q1, q2, h⟩ := h
  refine g_aldI aC4 q1 q2 rfl fun i3 => ?_
  replace h := h i3
  refine g_const (v := cI (8)) rfl ?_
  refine g_lt2 i3 ⟨by omega, by omega⟩ (fun b4 => ?_) (fun b4 => ?_)
  · replace h := h.1 b4
    unfold vX12_isFull_11
    refine g_ld (v := rf _) rfl (is_R _) ?_
    refine g_callV (As := []) (ci := 12) oC12 (fun _ => rfl) ?_
    refine g_go1 (Nat.le_of_ble_eq_true rfl) (Tn_w (TX12_allBuilt  h) fun _ G5 ⟨r6, e, i7, h⟩ => ?_)
    subst e
    refine ⟨n7_I _, ?_⟩
    replace h := h i7
    refine g_const (v := cI (16)) rfl ?_
    refine g_lt2 i7 ⟨by omega, by omega⟩ (fun b8 => ?_) (fun b8 => ?_)
    · replace h := h.1 b8
      unfold vX12_isFull_24
      refine g_const (v := cI (0)) rfl ?_
      exact TX12_isFull_25 ha1 ⟨by omega, by omega⟩ h
    · replace h := h.2 b8
      exact TX12_isFull_20 ha1 h
  · replace h := h.2 b4
    exact TX12_isFull_20 ha1 h
abbrev PX12_isFull (a1 : Int) (G : gS) (Q : Int → gS → Prop) : Prop := PX12_isFull_0 a1 G Q
theorem TX12_isFull {a1 : Int} {G : gS} {Q : Int → gS → Prop} (ha1 : inI a1) (h : PX12_isFull a1 G Q) : Tn W0 FX12_isFull [rf (0), cI (a1)] G (fun r G => ∃ v, r = cI v ∧ (0 ≤ v ∧ v ≤ 1) ∧ Q v G) := by
  unfold FX12_isFull
  refine g_ent (lv' := [rf (0), cI (a1)]) (flR (flI fl0)) (Nat.le_of_ble_eq_true rfl) rfl ?_
  exact TX12_isFull_0 ha1 h
def PX12_faulted_0 (a1 : Int) (a2 : Int) (G : gS) (Q : Int → gS → Prop) : Prop :=
  ((0 : Int) ≤ a2 ∧ ((a2 : Int) < 704 ∧ (inI (G 10 a2) → (∀ G4 : gS, G4 = uG G 0 12 (G 10 a2) → (inI ((-10) - a1) ∧ Q ((-10) - a1) G4)))))
set_option maxRecDepth 20000 in
theorem TX12_faulted_0 {a1 : Int} {a2 : Int} {G : gS} {Q : Int → gS → Prop} (ha1 : inI a1) (ha2 : inI a2) (h : PX12_faulted_0 a1 a2 G Q) : Tg W0 vX12_faulted_0 [rf (0), cI (a1), cI (a2)] [] G (fun r G => ∃ v, r = cI v ∧ inI v ∧ Q v G) := by
  unfold PX12_faulted_0 at h
  unfold vX12_faulted_0
  refine g_ld (v := rf _) rfl (is_R _) ?_
  refine g_ld (v := rf _) rfl (is_R _) ?_
  refine g_getF (v := 7) oC12 (hC12_8) rfl (Nat.le_of_ble_eq_true rfl) (Nat.le_of_ble_eq_true rfl) ?_
  refine g_getF (v := 10) oC9 (hC9_2) rfl (Nat.le_of_ble_eq_true rfl) (Nat.le_of_ble_eq_true rfl) ?_
  refine g_ld (v := cI _) rfl (is_I _) ?_
  obtain ⟨q1, q2, h⟩ := h
  refine g_aldI aC10 q1 q2 rfl fun i3 => ?_
  replace h := h i3
  refine g_putI (kz := 12) oC12 rfl (Nat.le_of_ble_eq_true rfl) rfl i3 (zfin_no (c := 0) (j := 12) rfl) ?_
  replace h := h _ rfl
  refine g_const (v := cI (-10)) rfl ?_
  refine g_ld (v := cI _) rfl (is_I _) ?_
  refine g_sub ?_
  obtain ⟨q5, h⟩ := h
  exact g_ret1 (is_I _) ⟨_, rfl, q5, h⟩
abbrev PX12_faulted (a1 : Int) (a2 : Int) (G : gS) (Q : Int → gS → Prop) : Prop := PX12_faulted_0 a1 a2 G Q
theorem TX12_faulted {a1 : Int} {a2 : Int} {G : gS} {Q : Int → gS → Prop} (ha1 : inI a1) (ha2 : inI a2) (h : PX12_faulted a1 a2 G Q) : Tn W0 FX12_faulted [rf (0), cI (a1), cI (a2)] G (fun r G => ∃ v, r = cI v ∧ inI v ∧ Q v G) := by
  unfold FX12_faulted
  refine g_ent (lv' := [rf (0), cI (a1), cI (a2)]) (flR (flI (flI fl0))) (Nat.le_of_ble_eq_true rfl) rfl ?_
  exact TX12_faulted_0 ha1 ha2 h
def PX12_keep_0 (a1 : Int) (a2 : Int) (G : gS) (Q : Int → gS → Prop) : Prop :=
  (isO W0 1 (a1) ∧ (∀ G2 : gS, G2 = uG G a1 0 (a2) → ((0 : Int) ≤ a2 ∧ ((a2 : Int) < 5 ∧ (inI (G2 4 a2) → (∀ G6 : gS, G6 = uG G2 a1 1 (G2 4 a2) → ((0 : Int) ≤ a2 ∧ ((a2 : Int) < 5 ∧ (inI (G6 4 a2) → ((0 : Int) ≤ a2 ∧ ((a2 : Int) < 5 ∧ (inI ((G6 4 a2) + 1) ∧ (∀ G13 : gS, G13 = uG G6 4 a2 ((G6 4 a2) + 1) → (inI (G13 a1 1) → Q (G13 a1 1) G13))))))))))))))
set_option maxRecDepth 20000 in
theorem TX12_keep_0 {a1 : Int} {a2 : Int} {G : gS} {Q : Int → gS → Prop} (ha2 : inI a2) (h : PX12_keep_0 a1 a2 G Q) : Tg W0 vX12_keep_0 [rf (0), rf (a1), cI (a2)] [] G (fun r G => ∃ v, r = cI v ∧ inI v ∧ Q v G) := by
  unfold PX12_keep_0 at h
  unfold vX12_keep_0
  refine g_ld (v := rf _) rfl (is_R _) ?_
  refine g_ld (v := cI _) rfl (is_I _) ?_
  obtain ⟨q1, h⟩ := h
  refine g_putI (kz := 0) q1 rfl (Nat.le_of_ble_eq_true rfl) rfl ha2 (nf1_0 q1) ?_
  replace h := h _ rfl
  refine g_ld (v := rf _) rfl (is_R _) ?_
  refine g_ld (v := rf _) rfl (is_R _) ?_
  refine g_getF (v := 4) oC12 (hC12_5) rfl (Nat.le_of_ble_eq_true rfl) (Nat.le_of_ble_eq_true rfl) ?_
  refine g_ld (v := cI _) rfl (is_I _) ?_
  obtain ⟨q3, q4, h⟩ := h
  refine g_aldI aC4 q3 q4 rfl fun i5 => ?_
  replace h := h i5
  refine g_putI (kz := 1) q1 rfl (Nat.le_of_ble_eq_true rfl) rfl i5 (nf1_1 q1) ?_
  replace h := h _ rfl
  refine g_ld (v := rf _) rfl (is_R _) ?_
  refine g_getF (v := 4) oC12 (hC12_5) rfl (Nat.le_of_ble_eq_true rfl) (Nat.le_of_ble_eq_true rfl) ?_
  refine g_ld (v := cI _) rfl (is_I _) ?_
  refine g_dup2 (ct_I _) (ct_R _) ?_
  obtain ⟨q7, q8, h⟩ := h
  refine g_aldI aC4 q7 q8 rfl fun i9 => ?_
  replace h := h i9
  refine g_const (v := cI (1)) rfl ?_
  refine g_add ?_
  obtain ⟨q10, q11, h⟩ := h
  obtain ⟨q12, h⟩ := h
  refine g_astI aC4 q10 q11 q12 (nfI aC4) ?_
  replace h := h _ rfl
  refine g_ld (v := rf _) rfl (is_R _) ?_
  refine g_getI (kz := 1) q1 rfl (Nat.le_of_ble_eq_true rfl) rfl fun i14 => ?_
  replace h := h i14
  exact g_ret1 (is_I _) ⟨_, rfl, i14, h⟩
abbrev PX12_keep (a1 : Int) (a2 : Int) (G : gS) (Q : Int → gS → Prop) : Prop := PX12_keep_0 a1 a2 G Q
theorem TX12_keep {a1 : Int} {a2 : Int} {G : gS} {Q : Int → gS → Prop} (ha2 : inI a2) (h : PX12_keep a1 a2 G Q) : Tn W0 FX12_keep [rf (0), rf (a1), cI (a2)] G (fun r G => ∃ v, r = cI v ∧ inI v ∧ Q v G) := by
  unfold FX12_keep
  refine g_ent (lv' := [rf (0), rf (a1), cI (a2)]) (flR (flR (flI fl0))) (Nat.le_of_ble_eq_true rfl) rfl ?_
  exact TX12_keep_0 ha2 h
def PX12_place_0  (G : gS) (Q : Int → gS → Prop) : Prop :=
  (inI (G 0 12) → Q (G 0 12) G)
set_option maxRecDepth 20000 in
theorem TX12_place_0  {G : gS} {Q : Int → gS → Prop}  (h : PX12_place_0  G Q) : Tg W0 vX12_place_0 [rf (0)] [] G (fun r G => ∃ v, r = cI v ∧ inI v ∧ Q v G) := by
  unfold PX12_place_0 at h
  unfold vX12_place_0
  refine g_ld (v := rf _) rfl (is_R _) ?_
  refine g_getI (kz := 12) oC12 rfl (Nat.le_of_ble_eq_true rfl) rfl fun i1 => ?_
  replace h := h i1
  exact g_ret1 (is_I _) ⟨_, rfl, i1, h⟩
abbrev PX12_place  (G : gS) (Q : Int → gS → Prop) : Prop := PX12_place_0  G Q
theorem TX12_place  {G : gS} {Q : Int → gS → Prop}  (h : PX12_place  G Q) : Tn W0 FX12_place [rf (0)] G (fun r G => ∃ v, r = cI v ∧ inI v ∧ Q v G) := by
  unfold FX12_place
  refine g_ent (lv' := [rf (0)]) (flR fl0) (Nat.le_of_ble_eq_true rfl) rfl ?_
  exact TX12_place_0  h
def PX12_builds_17 (l1 : Int) (s0 : Int) (G : gS) (Q : Int → gS → Prop) : Prop :=
  Q (s0) G
set_option maxRecDepth 20000 in
theorem TX12_builds_17 {l1 : Int} {s0 : Int} {G : gS} {Q : Int → gS → Prop} (hl1 : inI l1) (hs0 : inI s0) (h : PX12_builds_17 l1 s0 G Q) : Tg W0 vX12_builds_17 [rf (0), cI (l1)] [cI (s0)] G (fun r G => ∃ v, r = cI v ∧ inI v ∧ Q v G) := by
  unfold PX12_builds_17 at h
  unfold vX12_builds_17
  exact g_ret1 (is_I _) ⟨_, rfl, hs0, h⟩
def PX12_builds_0 (a1 : Int) (G : gS) (Q : Int → gS → Prop) : Prop :=
  PX12_isLibrary a1 G (fun r2 G1 => (0 ≤ r2 ∧ r2 ≤ 1) → ((r2 = 0 → PX12_builds_17 a1 (-1) G1 Q) ∧ (¬ (r2 = 0) → ((0 : Int) ≤ a1 ∧ ((a1 : Int) < 5 ∧ (inI (G1 4 a1) → PX12_builds_17 a1 (G1 4 a1) G1 Q))))))
set_option maxRecDepth 20000 in
theorem TX12_builds_0 {a1 : Int} {G : gS} {Q : Int → gS → Prop} (ha1 : inI a1) (h : PX12_builds_0 a1 G Q) : Tg W0 vX12_builds_0 [rf (0), cI (a1)] [] G (fun r G => ∃ v, r = cI v ∧ inI v ∧ Q v G) := by
  unfold PX12_builds_0 at h
  unfold vX12_builds_0
  refine g_ld (v := cI _) rfl (is_I _) ?_
  refine g_callS (As := [_]) (fun _ => rfl) ?_
  refine g_go1 (Nat.le_of_ble_eq_true rfl) (Tn_w (TX12_isLibrary ha1 h) fun _ G1 ⟨r2, e, i3, h⟩ => ?_)
  subst e
  refine ⟨n7_I _, ?_⟩
  replace h := h i3
  refine g_eq1 ⟨by omega, by omega⟩ (fun b4 => ?_) (fun b4 => ?_)
  · replace h := h.1 b4
    unfold vX12_builds_16
    refine g_const (v := cI (-1)) rfl ?_
    exact TX12_builds_17 ha1 ⟨by omega, by omega⟩ h
  · replace h := h.2 b4
    unfold vX12_builds_7
    refine g_ld (v := rf _) rfl (is_R _) ?_
    refine g_getF (v := 4) oC12 (hC12_5) rfl (Nat.le_of_ble_eq_true rfl) (Nat.le_of_ble_eq_true rfl) ?_
    refine g_ld (v := cI _) rfl (is_I _) ?_
    obtain ⟨q5, q6, h⟩ := h
    refine g_aldI aC4 q5 q6 rfl fun i7 => ?_
    replace h := h i7
    exact TX12_builds_17 ha1 i7 h
abbrev PX12_builds (a1 : Int) (G : gS) (Q : Int → gS → Prop) : Prop := PX12_builds_0 a1 G Q
theorem TX12_builds {a1 : Int} {G : gS} {Q : Int → gS → Prop} (ha1 : inI a1) (h : PX12_builds a1 G Q) : Tn W0 FX12_builds [rf (0), cI (a1)] G (fun r G => ∃ v, r = cI v ∧ inI v ∧ Q v G) := by
  unfold FX12_builds
  refine g_ent (lv' := [rf (0), cI (a1)]) (flR (flI fl0)) (Nat.le_of_ble_eq_true rfl) rfl ?_
  exact TX12_builds_0 ha1 h
def PX12_picked_17 (l1 : Int) (s0 : Int) (G : gS) (Q : Int → gS → Prop) : Prop :=
  Q (s0) G
set_option maxRecDepth 20000 in
theorem TX12_picked_17 {l1 : Int} {s0 : Int} {G : gS} {Q : Int → gS → Prop} (hl1 : inI l1) (hs0 : inI s0) (h : PX12_picked_17 l1 s0 G Q) : Tg W0 vX12_picked_17 [rf (0), cI (l1)] [cI (s0)] G (fun r G => ∃ v, r = cI v ∧ inI v ∧ Q v G) := by
  unfold PX12_picked_17 at h
  unfold vX12_picked_17
  exact g_ret1 (is_I _) ⟨_, rfl, hs0, h⟩
def PX12_picked_0 (a1 : Int) (G : gS) (Q : Int → gS → Prop) : Prop :=
  PX12_isLibrary a1 G (fun r2 G1 => (0 ≤ r2 ∧ r2 ≤ 1) → ((r2 = 0 → PX12_picked_17 a1 (-1) G1 Q) ∧ (¬ (r2 = 0) → ((0 : Int) ≤ a1 ∧ ((a1 : Int) < 5 ∧ (inI (G1 5 a1) → PX12_picked_17 a1 (G1 5 a1) G1 Q))))))
set_option maxRecDepth 20000 in
theorem TX12_picked_0 {a1 : Int} {G : gS} {Q : Int → gS → Prop} (ha1 : inI a1) (h : PX12_picked_0 a1 G Q) : Tg W0 vX12_picked_0 [rf (0), cI (a1)] [] G (fun r G => ∃ v, r = cI v ∧ inI v ∧ Q v G) := by
  unfold PX12_picked_0 at h
  unfold vX12_picked_0
  refine g_ld (v := cI _) rfl (is_I _) ?_
  refine g_callS (As := [_]) (fun _ => rfl) ?_
  refine g_go1 (Nat.le_of_ble_eq_true rfl) (Tn_w (TX12_isLibrary ha1 h) fun _ G1 ⟨r2, e, i3, h⟩ => ?_)
  subst e
  refine ⟨n7_I _, ?_⟩
  replace h := h i3
  refine g_eq1 ⟨by omega, by omega⟩ (fun b4 => ?_) (fun b4 => ?_)
  · replace h := h.1 b4
    unfold vX12_picked_16
    refine g_const (v := cI (-1)) rfl ?_
    exact TX12_picked_17 ha1 ⟨by omega, by omega⟩ h
  · replace h := h.2 b4
    unfold vX12_picked_7
    refine g_ld (v := rf _) rfl (is_R _) ?_
    refine g_getF (v := 5) oC12 (hC12_6) rfl (Nat.le_of_ble_eq_true rfl) (Nat.le_of_ble_eq_true rfl) ?_
    refine g_ld (v := cI _) rfl (is_I _) ?_
    obtain ⟨q5, q6, h⟩ := h
    refine g_aldI aC5 q5 q6 rfl fun i7 => ?_
    replace h := h i7
    exact TX12_picked_17 ha1 i7 h
abbrev PX12_picked (a1 : Int) (G : gS) (Q : Int → gS → Prop) : Prop := PX12_picked_0 a1 G Q
theorem TX12_picked {a1 : Int} {G : gS} {Q : Int → gS → Prop} (ha1 : inI a1) (h : PX12_picked a1 G Q) : Tn W0 FX12_picked [rf (0), cI (a1)] G (fun r G => ∃ v, r = cI v ∧ inI v ∧ Q v G) := by
  unfold FX12_picked
  refine g_ent (lv' := [rf (0), cI (a1)]) (flR (flI fl0)) (Nat.le_of_ble_eq_true rfl) rfl ?_
  exact TX12_picked_0 ha1 h
def PX12_classes_19 (l1 : Int) (l2 : Int) (l3 : Int) (s0 : Int) (G : gS) (Q : Int → gS → Prop) : Prop :=
  Q (s0) G
set_option maxRecDepth 20000 in
theorem TX12_classes_19 {l1 : Int} {l2 : Int} {l3 : Int} {s0 : Int} {G : gS} {Q : Int → gS → Prop} (hl1 : inI l1) (hl2 : inI l2) (hs0 : inI s0) (h : PX12_classes_19 l1 l2 l3 s0 G Q) : Tg W0 vX12_classes_19 [rf (0), cI (l1), cI (l2), rf (l3)] [cI (s0)] G (fun r G => ∃ v, r = cI v ∧ inI v ∧ Q v G) := by
  unfold PX12_classes_19 at h
  unfold vX12_classes_19
  exact g_ret1 (is_I _) ⟨_, rfl, hs0, h⟩
def PX12_classes_0 (a1 : Int) (a2 : Int) (G : gS) (Q : Int → gS → Prop) : Prop :=
  PX12_buildOf a1 a2 G (fun r2 G1 => ((r2 < 0 → PX12_classes_19 a1 a2 r2 (-1) G1 Q) ∧ (0 ≤ r2 → (isO W0 1 (r2) ∧ (inI (G1 r2 3) → PX12_classes_19 a1 a2 r2 (G1 r2 3) G1 Q)))))
set_option maxRecDepth 20000 in
theorem TX12_classes_0 {a1 : Int} {a2 : Int} {G : gS} {Q : Int → gS → Prop} (ha1 : inI a1) (ha2 : inI a2) (h : PX12_classes_0 a1 a2 G Q) : Tg W0 vX12_classes_0 [rf (0), cI (a1), cI (a2), 7] [] G (fun r G => ∃ v, r = cI v ∧ inI v ∧ Q v G) := by
  unfold PX12_classes_0 at h
  unfold vX12_classes_0
  refine g_ld (v := rf _) rfl (is_R _) ?_
  refine g_ld (v := cI _) rfl (is_I _) ?_
  refine g_ld (v := cI _) rfl (is_I _) ?_
  refine g_callV (As := [_, _]) (ci := 12) oC12 (fun _ => rfl) ?_
  refine g_go1 (Nat.le_of_ble_eq_true rfl) (Tn_w (TX12_buildOf ha1 ha2 h) fun _ G1 ⟨r2, e, h⟩ => ?_)
  subst e
  refine ⟨n7_R _, ?_⟩
  refine g_st (lv' := [_, _, _, _]) (is_R _) (Nat.le_of_ble_eq_true rfl) (Or.inr (n1_I _)) rfl ?_
  refine g_ld (v := rf _) rfl (is_R _) ?_
  refine g_nul (fun b4 => ?_) (fun b4 => ?_)
  · replace h := h.1 b4
    unfold vX12_classes_11
    refine g_const (v := cI (-1)) rfl ?_
    exact TX12_classes_19 ha1 ha2 ⟨by omega, by omega⟩ h
  · replace h := h.2 b4
    unfold vX12_classes_15
    refine g_ld (v := rf _) rfl (is_R _) ?_
    obtain ⟨q5, h⟩ := h
    refine g_getI (kz := 3) q5 rfl (Nat.le_of_ble_eq_true rfl) rfl fun i6 => ?_
    replace h := h i6
    exact TX12_classes_19 ha1 ha2 i6 h
abbrev PX12_classes (a1 : Int) (a2 : Int) (G : gS) (Q : Int → gS → Prop) : Prop := PX12_classes_0 a1 a2 G Q
theorem TX12_classes {a1 : Int} {a2 : Int} {G : gS} {Q : Int → gS → Prop} (ha1 : inI a1) (ha2 : inI a2) (h : PX12_classes a1 a2 G Q) : Tn W0 FX12_classes [rf (0), cI (a1), cI (a2)] G (fun r G => ∃ v, r = cI v ∧ inI v ∧ Q v G) := by
  unfold FX12_classes
  refine g_ent (lv' := [rf (0), cI (a1), cI (a2), 7]) (flR (flI (flI fl0))) (Nat.le_of_ble_eq_true rfl) rfl ?_
  exact TX12_classes_0 ha1 ha2 h
def PX12_members_23 (l1 : Int) (l2 : Int) (l3 : Int) (l4 : Int) (s0 : Int) (G : gS) (Q : Int → gS → Prop) : Prop :=
  Q (s0) G
set_option maxRecDepth 20000 in
theorem TX12_members_23 {l1 : Int} {l2 : Int} {l3 : Int} {l4 : Int} {s0 : Int} {G : gS} {Q : Int → gS → Prop} (hl1 : inI l1) (hl2 : inI l2) (hl3 : inI l3) (hs0 : inI s0) (h : PX12_members_23 l1 l2 l3 l4 s0 G Q) : Tg W0 vX12_members_23 [rf (0), cI (l1), cI (l2), cI (l3), rf (l4)] [cI (s0)] G (fun r G => ∃ v, r = cI v ∧ inI v ∧ Q v G) := by
  unfold PX12_members_23 at h
  unfold vX12_members_23
  exact g_ret1 (is_I _) ⟨_, rfl, hs0, h⟩
def PX12_members_0 (a1 : Int) (a2 : Int) (a3 : Int) (G : gS) (Q : Int → gS → Prop) : Prop :=
  PX12_rowOf a1 a2 a3 G (fun r2 G1 => ((r2 < 0 → PX12_members_23 a1 a2 a3 r2 (-1) G1 Q) ∧ (0 ≤ r2 → (isO W0 10 (r2) ∧ (inI (G1 r2 15) → PX12_members_23 a1 a2 a3 r2 (G1 r2 15) G1 Q)))))
set_option maxRecDepth 20000 in
theorem TX12_members_0 {a1 : Int} {a2 : Int} {a3 : Int} {G : gS} {Q : Int → gS → Prop} (ha1 : inI a1) (ha2 : inI a2) (ha3 : inI a3) (h : PX12_members_0 a1 a2 a3 G Q) : Tg W0 vX12_members_0 [rf (0), cI (a1), cI (a2), cI (a3), 7] [] G (fun r G => ∃ v, r = cI v ∧ inI v ∧ Q v G) := by
  unfold PX12_members_0 at h
  unfold vX12_members_0
  refine g_ld (v := rf _) rfl (is_R _) ?_
  refine g_ld (v := cI _) rfl (is_I _) ?_
  refine g_ld (v := cI _) rfl (is_I _) ?_
  refine g_ld (v := cI _) rfl (is_I _) ?_
  refine g_callV (As := [_, _, _]) (ci := 12) oC12 (fun _ => rfl) ?_
  refine g_go1 (Nat.le_of_ble_eq_true rfl) (Tn_w (TX12_rowOf ha1 ha2 ha3 h) fun _ G1 ⟨r2, e, h⟩ => ?_)
  subst e
  refine ⟨n7_R _, ?_⟩
  refine g_st (lv' := [_, _, _, _, _]) (is_R _) (Nat.le_of_ble_eq_true rfl) (Or.inr (n1_I _)) rfl ?_
  refine g_ld (v := rf _) rfl (is_R _) ?_
  refine g_nul (fun b4 => ?_) (fun b4 => ?_)
  · replace h := h.1 b4
    unfold vX12_members_14
    refine g_const (v := cI (-1)) rfl ?_
    exact TX12_members_23 ha1 ha2 ha3 ⟨by omega, by omega⟩ h
  · replace h := h.2 b4
    unfold vX12_members_18
    refine g_ld (v := rf _) rfl (is_R _) ?_
    obtain ⟨q5, h⟩ := h
    refine g_getI (kz := 15) q5 rfl (Nat.le_of_ble_eq_true rfl) rfl fun i6 => ?_
    replace h := h i6
    exact TX12_members_23 ha1 ha2 ha3 i6 h
abbrev PX12_members (a1 : Int) (a2 : Int) (a3 : Int) (G : gS) (Q : Int → gS → Prop) : Prop := PX12_members_0 a1 a2 a3 G Q
theorem TX12_members {a1 : Int} {a2 : Int} {a3 : Int} {G : gS} {Q : Int → gS → Prop} (ha1 : inI a1) (ha2 : inI a2) (ha3 : inI a3) (h : PX12_members a1 a2 a3 G Q) : Tn W0 FX12_members [rf (0), cI (a1), cI (a2), cI (a3)] G (fun r G => ∃ v, r = cI v ∧ inI v ∧ Q v G) := by
  unfold FX12_members
  refine g_ent (lv' := [rf (0), cI (a1), cI (a2), cI (a3), 7]) (flR (flI (flI (flI fl0)))) (Nat.le_of_ble_eq_true rfl) rfl ?_
  exact TX12_members_0 ha1 ha2 ha3 h
def PX12_tellByte_31 (l1 : Int) (G : gS) (Q : Int → gS → Prop) : Prop :=
  Q 0 G
set_option maxRecDepth 20000 in
theorem TX12_tellByte_31 {l1 : Int} {G : gS} {Q : Int → gS → Prop} (hl1 : inI l1) (h : PX12_tellByte_31 l1 G Q) : Tg W0 vX12_tellByte_31 [rf (0), cI (l1)] [] G (fun r G => r = 7 ∧ Q 0 G) := by
  unfold PX12_tellByte_31 at h
  unfold vX12_tellByte_31
  exact g_ret0 ⟨rfl, h⟩
def PX12_tellByte_0 (a1 : Int) (G : gS) (Q : Int → gS → Prop) : Prop :=
  (inI (G 0 3) → ((G 0 3 < 600 → (inI (G 0 3) → ((0 : Int) ≤ G 0 3 ∧ ((G 0 3 : Int) < 600 ∧ (∀ G6 : gS, G6 = uG G 2 (G 0 3) (b8 (b8 a1)) → (inI (G6 0 3) → (inI ((G6 0 3) + 1) ∧ (∀ G9 : gS, G9 = uG G6 0 3 ((G6 0 3) + 1) → PX12_tellByte_31 a1 G9 Q)))))))) ∧ (¬ (G 0 3 < 600) → PX12_tellByte_31 a1 G Q)))
set_option maxRecDepth 20000 in
theorem TX12_tellByte_0 {a1 : Int} {G : gS} {Q : Int → gS → Prop} (ha1 : inI a1) (h : PX12_tellByte_0 a1 G Q) : Tg W0 vX12_tellByte_0 [rf (0), cI (a1)] [] G (fun r G => r = 7 ∧ Q 0 G) := by
  unfold PX12_tellByte_0 at h
  unfold vX12_tellByte_0
  refine g_ld (v := rf _) rfl (is_R _) ?_
  refine g_getI (kz := 3) oC12 rfl (Nat.le_of_ble_eq_true rfl) rfl fun i1 => ?_
  replace h := h i1
  refine g_const (v := cI (600)) rfl ?_
  refine g_lt2 i1 ⟨by omega, by omega⟩ (fun b2 => ?_) (fun b2 => ?_)
  · replace h := h.1 b2
    unfold vX12_tellByte_10
    refine g_ld (v := rf _) rfl (is_R _) ?_
    refine g_getF (v := 2) oC12 (hC12_2) rfl (Nat.le_of_ble_eq_true rfl) (Nat.le_of_ble_eq_true rfl) ?_
    refine g_ld (v := rf _) rfl (is_R _) ?_
    refine g_getI (kz := 3) oC12 rfl (Nat.le_of_ble_eq_true rfl) rfl fun i3 => ?_
    replace h := h i3
    refine g_ld (v := cI _) rfl (is_I _) ?_
    refine g_i2b ?_
    obtain ⟨q4, q5, h⟩ := h
    refine g_astB aC2 q4 q5 (nfB aC2) ?_
    replace h := h _ rfl
    refine g_ld (v := rf _) rfl (is_R _) ?_
    refine g_dup (ct_R _) ?_
    refine g_getI (kz := 3) oC12 rfl (Nat.le_of_ble_eq_true rfl) rfl fun i7 => ?_
    replace h := h i7
    refine g_const (v := cI (1)) rfl ?_
    refine g_add ?_
    obtain ⟨q8, h⟩ := h
    refine g_putI (kz := 3) oC12 rfl (Nat.le_of_ble_eq_true rfl) rfl q8 (zfin_no (c := 0) (j := 3) rfl) ?_
    replace h := h _ rfl
    exact TX12_tellByte_31 ha1 h
  · replace h := h.2 b2
    exact TX12_tellByte_31 ha1 h
abbrev PX12_tellByte (a1 : Int) (G : gS) (Q : Int → gS → Prop) : Prop := PX12_tellByte_0 a1 G Q
theorem TX12_tellByte {a1 : Int} {G : gS} {Q : Int → gS → Prop} (ha1 : inI a1) (h : PX12_tellByte a1 G Q) : Tn W0 FX12_tellByte [rf (0), cI (a1)] G (fun r G => r = 7 ∧ Q 0 G) := by
  unfold FX12_tellByte
  refine g_ent (lv' := [rf (0), cI (a1)]) (flR (flI fl0)) (Nat.le_of_ble_eq_true rfl) rfl ?_
  exact TX12_tellByte_0 ha1 h
def PX12_tellLetters_69 (J : Nat → List Int → gS → (Int → gS → Prop) → Prop) (l1 : Int) (l3 : Int) (l4 : Int) (G : gS) (Q : Int → gS → Prop) : Prop :=
  (inI (l3 + (-6)) ∧ J 0 [l1, l3 + (-6)] G Q)
set_option maxRecDepth 20000 in
theorem TX12_tellLetters_69 {j : Nat → rx_K} {J : Nat → List Int → gS → (Int → gS → Prop) → Prop} {l1 : Int} {l2 : Nat} {l3 : Int} {l4 : Int} {G : gS} {Q : Int → gS → Prop} (hl1 : inL l1) (hl2 : l2 % 8 ≠ 1) (hl3 : inI l3) (hl4 : inI l4) (hj0 : ∀ (l1 : Int) (l2 : Nat) (l3 : Int) (l4 : Nat) (G : gS), (inL l1) → (l2 % 8 ≠ 1) → (inI l3) → (l4 % 8 ≠ 1) → J 0 [l1, l3] G Q → Tg W0 (j 0) [rf (0), cL (l1), l2, cI (l3), l4] [] G (fun r G => r = 7 ∧ Q 0 G)) (h : PX12_tellLetters_69 J l1 l3 l4 G Q) : Tg W0 (vX12_tellLetters_69 j) [rf (0), cL (l1), l2, cI (l3), cI (l4)] [] G (fun r G => r = 7 ∧ Q 0 G) := by
  unfold PX12_tellLetters_69 at h
  unfold vX12_tellLetters_69
  refine g_inc (lv' := [_, _, _, _, _]) rfl (Nat.le_of_ble_eq_true rfl) (Or.inr hl2) rfl ?_
  obtain ⟨q14, h⟩ := h
  exact hj0 _ _ _ _ _ hl1 hl2 q14 (n1_I _) h
def PX12_tellLetters_66 (J : Nat → List Int → gS → (Int → gS → Prop) → Prop) (l1 : Int) (l3 : Int) (l4 : Int) (s0 : Int) (s1 : Int) (G : gS) (Q : Int → gS → Prop) : Prop :=
  (isO W0 12 (s0) ∧ PX12_tellByte s1 G (fun _ G12 => PX12_tellLetters_69 J l1 l3 l4 G12 Q))
set_option maxRecDepth 20000 in
theorem TX12_tellLetters_66 {j : Nat → rx_K} {J : Nat → List Int → gS → (Int → gS → Prop) → Prop} {l1 : Int} {l2 : Nat} {l3 : Int} {l4 : Int} {s0 : Int} {s1 : Int} {G : gS} {Q : Int → gS → Prop} (hl1 : inL l1) (hl2 : l2 % 8 ≠ 1) (hl3 : inI l3) (hl4 : inI l4) (hs1 : inI s1) (hj0 : ∀ (l1 : Int) (l2 : Nat) (l3 : Int) (l4 : Nat) (G : gS), (inL l1) → (l2 % 8 ≠ 1) → (inI l3) → (l4 % 8 ≠ 1) → J 0 [l1, l3] G Q → Tg W0 (j 0) [rf (0), cL (l1), l2, cI (l3), l4] [] G (fun r G => r = 7 ∧ Q 0 G)) (h : PX12_tellLetters_66 J l1 l3 l4 s0 s1 G Q) : Tg W0 (vX12_tellLetters_66 j) [rf (0), cL (l1), l2, cI (l3), cI (l4)] [cI (s1), rf (s0)] G (fun r G => r = 7 ∧ Q 0 G) := by
  unfold PX12_tellLetters_66 at h
  unfold vX12_tellLetters_66
  obtain ⟨q11, h⟩ := h
  refine g_callV (As := [_]) (ci := 12) q11 (fun _ => rfl) ?_
  refine g_go0 (Nat.le_of_ble_eq_true rfl) (Tn_w (Tn_eq (one12 q11) (TX12_tellByte hs1 h)) fun _ G12 ⟨e, h⟩ => ⟨e, ?_⟩)
  exact TX12_tellLetters_69 hl1 hl2 hl3 hl4 hj0 h
def PX12_tellLetters_3 (J : Nat → List Int → gS → (Int → gS → Prop) → Prop) (l1 : Int) (l3 : Int) (G : gS) (Q : Int → gS → Prop) : Prop :=
  ((l3 < 0 → Q 0 G) ∧ (¬ (l3 < 0) → (inL (lush l1 l3) → (inL (land (lush l1 l3) 63) → (inI (l2i (land (lush l1 l3) 63)) → ((0 < l2i (land (lush l1 l3) 63) → ((26 < l2i (land (lush l1 l3) 63) → ((52 < l2i (land (lush l1 l3) 63) → (inI ((48 + (l2i (land (lush l1 l3) 63))) - 53) ∧ PX12_tellLetters_66 J l1 l3 (l2i (land (lush l1 l3) 63)) 0 ((48 + (l2i (land (lush l1 l3) 63))) - 53) G Q)) ∧ (¬ (52 < l2i (land (lush l1 l3) 63)) → (inI ((65 + (l2i (land (lush l1 l3) 63))) - 27) ∧ PX12_tellLetters_66 J l1 l3 (l2i (land (lush l1 l3) 63)) 0 ((65 + (l2i (land (lush l1 l3) 63))) - 27) G Q)))) ∧ (¬ (26 < l2i (land (lush l1 l3) 63)) → (inI ((97 + (l2i (land (lush l1 l3) 63))) - 1) ∧ PX12_tellLetters_66 J l1 l3 (l2i (land (lush l1 l3) 63)) 0 ((97 + (l2i (land (lush l1 l3) 63))) - 1) G Q)))) ∧ (¬ (0 < l2i (land (lush l1 l3) 63)) → PX12_tellLetters_69 J l1 l3 (l2i (land (lush l1 l3) 63)) G Q)))))))
set_option maxRecDepth 20000 in
theorem TX12_tellLetters_3 {j : Nat → rx_K} {J : Nat → List Int → gS → (Int → gS → Prop) → Prop} {l1 : Int} {l2 : Nat} {l3 : Int} {l4 : Nat} {G : gS} {Q : Int → gS → Prop} (hl1 : inL l1) (hl2 : l2 % 8 ≠ 1) (hl3 : inI l3) (hl4 : l4 % 8 ≠ 1) (hj0 : ∀ (l1 : Int) (l2 : Nat) (l3 : Int) (l4 : Nat) (G : gS), (inL l1) → (l2 % 8 ≠ 1) → (inI l3) → (l4 % 8 ≠ 1) → J 0 [l1, l3] G Q → Tg W0 (j 0) [rf (0), cL (l1), l2, cI (l3), l4] [] G (fun r G => r = 7 ∧ Q 0 G)) (h : PX12_tellLetters_3 J l1 l3 G Q) : Tg W0 (vX12_tellLetters_3 j) [rf (0), cL (l1), l2, cI (l3), l4] [] G (fun r G => r = 7 ∧ Q 0 G) := by
  unfold PX12_tellLetters_3 at h
  unfold vX12_tellLetters_3
  refine g_ld (v := cI _) rfl (is_I _) ?_
  refine g_lt1 hl3 (fun b1 => ?_) (fun b1 => ?_)
  · replace h := h.1 b1
    unfold vX12_tellLetters_75
    exact g_ret0 ⟨rfl, h⟩
  · replace h := h.2 b1
    unfold vX12_tellLetters_7
    refine g_ld (v := cL _) rfl (is_L _) ?_
    refine g_ld (v := cI _) rfl (is_I _) ?_
    refine g_lush fun i2 => ?_
    replace h := h i2
    refine g_const (v := cL (63)) rfl ?_
    refine g_land fun i3 => ?_
    replace h := h i3
    refine g_l2i fun i4 => ?_
    replace h := h i4
    refine g_st (lv' := [_, _, _, _, _]) (is_I _) (Nat.le_of_ble_eq_true rfl) (Or.inr (n1_I _)) rfl ?_
    refine g_ld (v := cI _) rfl (is_I _) ?_
    refine g_gt1 i4 (fun b5 => ?_) (fun b5 => ?_)
    · replace h := h.1 b5
      unfold vX12_tellLetters_22
      refine g_ld (v := rf _) rfl (is_R _) ?_
      refine g_ld (v := cI _) rfl (is_I _) ?_
      refine g_const (v := cI (26)) rfl ?_
      refine g_gt2 i4 ⟨by omega, by omega⟩ (fun b6 => ?_) (fun b6 => ?_)
      · replace h := h.1 b6
        unfold vX12_tellLetters_40
        refine g_ld (v := cI _) rfl (is_I _) ?_
        refine g_const (v := cI (52)) rfl ?_
        refine g_gt2 i4 ⟨by omega, by omega⟩ (fun b7 => ?_) (fun b7 => ?_)
        · replace h := h.1 b7
          unfold vX12_tellLetters_58
          refine g_const (v := cI (48)) rfl ?_
          refine g_ld (v := cI _) rfl (is_I _) ?_
          refine g_add ?_
          refine g_const (v := cI (53)) rfl ?_
          refine g_sub ?_
          obtain ⟨q8, h⟩ := h
          exact TX12_tellLetters_66 hl1 hl2 hl3 i4 q8 hj0 h
        · replace h := h.2 b7
          unfold vX12_tellLetters_47
          refine g_const (v := cI (65)) rfl ?_
          refine g_ld (v := cI _) rfl (is_I _) ?_
          refine g_add ?_
          refine g_const (v := cI (27)) rfl ?_
          refine g_sub ?_
          obtain ⟨q9, h⟩ := h
          exact TX12_tellLetters_66 hl1 hl2 hl3 i4 q9 hj0 h
      · replace h := h.2 b6
        unfold vX12_tellLetters_30
        refine g_const (v := cI (97)) rfl ?_
        refine g_ld (v := cI _) rfl (is_I _) ?_
        refine g_add ?_
        refine g_const (v := cI (1)) rfl ?_
        refine g_sub ?_
        obtain ⟨q10, h⟩ := h
        exact TX12_tellLetters_66 hl1 hl2 hl3 i4 q10 hj0 h
    · replace h := h.2 b5
      exact TX12_tellLetters_69 hl1 hl2 hl3 i4 hj0 h
def PX12_tellLetters_0 (J : Nat → List Int → gS → (Int → gS → Prop) → Prop) (a1 : Int) (G : gS) (Q : Int → gS → Prop) : Prop :=
  PX12_tellLetters_3 J a1 48 G Q
set_option maxRecDepth 20000 in
theorem TX12_tellLetters_0 {j : Nat → rx_K} {J : Nat → List Int → gS → (Int → gS → Prop) → Prop} {a1 : Int} {G : gS} {Q : Int → gS → Prop} (ha1 : inL a1) (hj0 : ∀ (l1 : Int) (l2 : Nat) (l3 : Int) (l4 : Nat) (G : gS), (inL l1) → (l2 % 8 ≠ 1) → (inI l3) → (l4 % 8 ≠ 1) → J 0 [l1, l3] G Q → Tg W0 (j 0) [rf (0), cL (l1), l2, cI (l3), l4] [] G (fun r G => r = 7 ∧ Q 0 G)) (h : PX12_tellLetters_0 J a1 G Q) : Tg W0 (vX12_tellLetters_0 j) [rf (0), cL (a1), 7, 7, 7] [] G (fun r G => r = 7 ∧ Q 0 G) := by
  unfold PX12_tellLetters_0 at h
  unfold vX12_tellLetters_0
  refine g_const (v := cI (48)) rfl ?_
  refine g_st (lv' := [_, _, _, _, _]) (is_I _) (Nat.le_of_ble_eq_true rfl) (Or.inr (show 7 % 8 ≠ 1 by decide)) rfl ?_
  exact TX12_tellLetters_3 ha1 (show 7 % 8 ≠ 1 by decide) ⟨by omega, by omega⟩ (show 7 % 8 ≠ 1 by decide) hj0 h
def PX12_tellLetters_J : Nat → Nat → List Int → gS → (Int → gS → Prop) → Prop
  | 0, _, _, _, _ => False
  | f + 1, h, L, G, Q => match h, L with
    | 0, [l1, l3] => PX12_tellLetters_3 (PX12_tellLetters_J f) l1 l3 G Q
    | _, _ => False
theorem TX12_tellLetters_J {Q : Int → gS → Prop} : ∀ f N : Nat, f ≤ N → (∀ (l1 : Int) (l2 : Nat) (l3 : Int) (l4 : Nat) (G : gS), (inL l1) → (l2 % 8 ≠ 1) → (inI l3) → (l4 % 8 ≠ 1) → (PX12_tellLetters_J f) 0 [l1, l3] G Q → Tg W0 (rx_J vhX12_tellLetters N 0) [rf (0), cL (l1), l2, cI (l3), l4] [] G (fun r G => r = 7 ∧ Q 0 G)) := by
  intro f
  induction f with
  | zero => exact fun N _ => fun _ _ _ _ _ _ _ _ _ h => h.elim
  | succ f ih =>
    intro N hN
    obtain ⟨M, rfl⟩ : ∃ M, N = M + 1 := ⟨N - 1, by omega⟩
    have ih := ih M (by omega)
    exact fun _ _ _ _ _ hl1 hl2 hl3 hl4 h => show Tg W0 (vX12_tellLetters_3 (rx_J vhX12_tellLetters M)) _ _ _ _ from TX12_tellLetters_3 hl1 hl2 hl3 hl4 ih h
def PX12_tellLetters (a1 : Int) (G : gS) (Q : Int → gS → Prop) : Prop := ∃ f : Nat, f ≤ 4000000000 ∧ PX12_tellLetters_0 (PX12_tellLetters_J f) a1 G Q
theorem TX12_tellLetters {a1 : Int} {G : gS} {Q : Int → gS → Prop} (ha1 : inL a1) (h : PX12_tellLetters a1 G Q) : Tn W0 FX12_tellLetters [rf (0), cL (a1)] G (fun r G => r = 7 ∧ Q 0 G) := by
  obtain ⟨f, hf, h⟩ := h
  have hJ := TX12_tellLetters_J (Q := Q) f 4000000000 hf
  unfold FX12_tellLetters
  refine g_ent (lv' := [rf (0), cL (a1), 7, 7, 7]) (flR (flL fl0)) (Nat.le_of_ble_eq_true rfl) rfl ?_
  exact TX12_tellLetters_0 ha1 hJ h
def PX12_tellName_0 (a1 : Int) (G : gS) (Q : Int → gS → Prop) : Prop :=
  (inL (lush a1 54) → (inL (land (lush a1 54) 31) → (inI (l2i (land (lush a1 54) 31)) → (inI (97 + (l2i (land (lush a1 54) 31))) ∧ PX12_tellByte (97 + (l2i (land (lush a1 54) 31))) G (fun _ G5 => PX12_tellLetters a1 G5 (fun _ G7 => Q 0 G7))))))
set_option maxRecDepth 20000 in
theorem TX12_tellName_0 {a1 : Int} {G : gS} {Q : Int → gS → Prop} (ha1 : inL a1) (h : PX12_tellName_0 a1 G Q) : Tg W0 vX12_tellName_0 [rf (0), cL (a1), 7] [] G (fun r G => r = 7 ∧ Q 0 G) := by
  unfold PX12_tellName_0 at h
  unfold vX12_tellName_0
  refine g_ld (v := rf _) rfl (is_R _) ?_
  refine g_const (v := cI (97)) rfl ?_
  refine g_ld (v := cL _) rfl (is_L _) ?_
  refine g_const (v := cI (54)) rfl ?_
  refine g_lush fun i1 => ?_
  replace h := h i1
  refine g_const (v := cL (31)) rfl ?_
  refine g_land fun i2 => ?_
  replace h := h i2
  refine g_l2i fun i3 => ?_
  replace h := h i3
  refine g_add ?_
  obtain ⟨q4, h⟩ := h
  refine g_callV (As := [_]) (ci := 12) oC12 (fun _ => rfl) ?_
  refine g_go0 (Nat.le_of_ble_eq_true rfl) (Tn_w (TX12_tellByte q4 h) fun _ G5 ⟨e, h⟩ => ⟨e, ?_⟩)
  refine g_ld (v := rf _) rfl (is_R _) ?_
  refine g_ld (v := cL _) rfl (is_L _) ?_
  refine g_callV (As := [_]) (ci := 12) oC12 (fun _ => rfl) ?_
  refine g_go0 (Nat.le_of_ble_eq_true rfl) (Tn_w (TX12_tellLetters ha1 h) fun _ G7 ⟨e, h⟩ => ⟨e, ?_⟩)
  exact g_ret0 ⟨rfl, h⟩
abbrev PX12_tellName (a1 : Int) (G : gS) (Q : Int → gS → Prop) : Prop := PX12_tellName_0 a1 G Q
theorem TX12_tellName {a1 : Int} {G : gS} {Q : Int → gS → Prop} (ha1 : inL a1) (h : PX12_tellName a1 G Q) : Tn W0 FX12_tellName [rf (0), cL (a1)] G (fun r G => r = 7 ∧ Q 0 G) := by
  unfold FX12_tellName
  refine g_ent (lv' := [rf (0), cL (a1), 7]) (flR (flL fl0)) (Nat.le_of_ble_eq_true rfl) rfl ?_
  exact TX12_tellName_0 ha1 h
def PX12_tellNumber_110 (J : Nat → List Int → gS → (Int → gS → Prop) → Prop) (l1 : Int) (l3 : Int) (l5 : Int) (l7 : Int) (G : gS) (Q : Int → gS → Prop) : Prop :=
  Q 0 G
set_option maxRecDepth 20000 in
theorem TX12_tellNumber_110 {j : Nat → rx_K} {J : Nat → List Int → gS → (Int → gS → Prop) → Prop} {l1 : Int} {l2 : Nat} {l3 : Int} {l4 : Nat} {l5 : Int} {l6 : Nat} {l7 : Int} {G : gS} {Q : Int → gS → Prop} (hl1 : inL l1) (hl2 : l2 % 8 ≠ 1) (hl3 : inL l3) (hl4 : l4 % 8 ≠ 1) (hl5 : inL l5) (hl6 : l6 % 8 ≠ 1) (hl7 : inI l7) (hj0 : ∀ (l1 : Int) (l2 : Nat) (l3 : Int) (l4 : Nat) (l5 : Int) (l6 : Nat) (l7 : Int) (G : gS), (inL l1) → (l2 % 8 ≠ 1) → (inL l3) → (l4 % 8 ≠ 1) → (inL l5) → (l6 % 8 ≠ 1) → (inI l7) → J 0 [l1, l3, l5, l7] G Q → Tg W0 (j 0) [rf (0), cL (l1), l2, cL (l3), l4, cL (l5), l6, cI (l7)] [] G (fun r G => r = 7 ∧ Q 0 G)) (hj1 : ∀ (l1 : Int) (l2 : Nat) (l3 : Int) (l4 : Nat) (l5 : Int) (l6 : Nat) (l7 : Int) (G : gS), (inL l1) → (l2 % 8 ≠ 1) → (inL l3) → (l4 % 8 ≠ 1) → (inL l5) → (l6 % 8 ≠ 1) → (inI l7) → J 1 [l1, l3, l5, l7] G Q → Tg W0 (j 1) [rf (0), cL (l1), l2, cL (l3), l4, cL (l5), l6, cI (l7)] [] G (fun r G => r = 7 ∧ Q 0 G)) (h : PX12_tellNumber_110 J l1 l3 l5 l7 G Q) : Tg W0 (vX12_tellNumber_110 j) [rf (0), cL (l1), l2, cL (l3), l4, cL (l5), l6, cI (l7)] [] G (fun r G => r = 7 ∧ Q 0 G) := by
  unfold PX12_tellNumber_110 at h
  unfold vX12_tellNumber_110
  exact g_ret0 ⟨rfl, h⟩
def PX12_tellNumber_66 (J : Nat → List Int → gS → (Int → gS → Prop) → Prop) (l1 : Int) (l3 : Int) (l5 : Int) (l7 : Int) (G : gS) (Q : Int → gS → Prop) : Prop :=
  ((l7 < 19 → ((0 < l5 → ((l5 ≠ 0) ∧ (inL (ldiv l3 l5) → (inL (lrem (ldiv l3 l5) 10) → (inI (l2i (lrem (ldiv l3 l5) 10)) → (inI (48 + (l2i (lrem (ldiv l3 l5) 10))) ∧ PX12_tellByte (48 + (l2i (lrem (ldiv l3 l5) 10))) G (fun _ G18 => (inL (ldiv l5 10) → (inI (l7 + 1) ∧ J 1 [l1, l3, ldiv l5 10, l7 + 1] G18 Q))))))))) ∧ (¬ (0 < l5) → PX12_tellNumber_110 J l1 l3 l5 l7 G Q))) ∧ (¬ (l7 < 19) → PX12_tellNumber_110 J l1 l3 l5 l7 G Q))
set_option maxRecDepth 20000 in
theorem TX12_tellNumber_66 {j : Nat → rx_K} {J : Nat → List Int → gS → (Int → gS → Prop) → Prop} {l1 : Int} {l2 : Nat} {l3 : Int} {l4 : Nat} {l5 : Int} {l6 : Nat} {l7 : Int} {G : gS} {Q : Int → gS → Prop} (hl1 : inL l1) (hl2 : l2 % 8 ≠ 1) (hl3 : inL l3) (hl4 : l4 % 8 ≠ 1) (hl5 : inL l5) (hl6 : l6 % 8 ≠ 1) (hl7 : inI l7) (hj0 : ∀ (l1 : Int) (l2 : Nat) (l3 : Int) (l4 : Nat) (l5 : Int) (l6 : Nat) (l7 : Int) (G : gS), (inL l1) → (l2 % 8 ≠ 1) → (inL l3) → (l4 % 8 ≠ 1) → (inL l5) → (l6 % 8 ≠ 1) → (inI l7) → J 0 [l1, l3, l5, l7] G Q → Tg W0 (j 0) [rf (0), cL (l1), l2, cL (l3), l4, cL (l5), l6, cI (l7)] [] G (fun r G => r = 7 ∧ Q 0 G)) (hj1 : ∀ (l1 : Int) (l2 : Nat) (l3 : Int) (l4 : Nat) (l5 : Int) (l6 : Nat) (l7 : Int) (G : gS), (inL l1) → (l2 % 8 ≠ 1) → (inL l3) → (l4 % 8 ≠ 1) → (inL l5) → (l6 % 8 ≠ 1) → (inI l7) → J 1 [l1, l3, l5, l7] G Q → Tg W0 (j 1) [rf (0), cL (l1), l2, cL (l3), l4, cL (l5), l6, cI (l7)] [] G (fun r G => r = 7 ∧ Q 0 G)) (h : PX12_tellNumber_66 J l1 l3 l5 l7 G Q) : Tg W0 (vX12_tellNumber_66 j) [rf (0), cL (l1), l2, cL (l3), l4, cL (l5), l6, cI (l7)] [] G (fun r G => r = 7 ∧ Q 0 G) := by
  unfold PX12_tellNumber_66 at h
  unfold vX12_tellNumber_66
  refine g_ld (v := cI _) rfl (is_I _) ?_
  refine g_const (v := cI (19)) rfl ?_
  refine g_lt2 hl7 ⟨by omega, by omega⟩ (fun b11 => ?_) (fun b11 => ?_)
  · replace h := h.1 b11
    unfold vX12_tellNumber_73
    refine g_ld (v := cL _) rfl (is_L _) ?_
    refine g_const (v := cL (0)) rfl ?_
    refine g_lgt hl5 ⟨by omega, by omega⟩ (fun b12 => ?_) (fun b12 => ?_)
    · replace h := h.1 b12
      unfold vX12_tellNumber_80
      refine g_ld (v := rf _) rfl (is_R _) ?_
      refine g_const (v := cI (48)) rfl ?_
      refine g_ld (v := cL _) rfl (is_L _) ?_
      refine g_ld (v := cL _) rfl (is_L _) ?_
      obtain ⟨q14, h⟩ := h
      refine g_ldiv hl5 q14 fun i13 => ?_
      replace h := h i13
      refine g_const (v := cL (10)) rfl ?_
      refine g_lrem ⟨by omega, by omega⟩ (by omega) fun i15 => ?_
      replace h := h i15
      refine g_l2i fun i16 => ?_
      replace h := h i16
      refine g_add ?_
      obtain ⟨q17, h⟩ := h
      refine g_callV (As := [_]) (ci := 12) oC12 (fun _ => rfl) ?_
      refine g_go0 (Nat.le_of_ble_eq_true rfl) (Tn_w (TX12_tellByte q17 h) fun _ G18 ⟨e, h⟩ => ⟨e, ?_⟩)
      refine g_ld (v := cL _) rfl (is_L _) ?_
      refine g_const (v := cL (10)) rfl ?_
      refine g_ldiv ⟨by omega, by omega⟩ (by omega) fun i20 => ?_
      replace h := h i20
      refine g_stL (lv' := [_, _, _, _, _, _, _, _]) (Nat.le_of_ble_eq_true rfl) (Or.inr hl4) rfl ?_
      refine g_inc (lv' := [_, _, _, _, _, _, _, _]) rfl (Nat.le_of_ble_eq_true rfl) (Or.inr (show 7 % 8 ≠ 1 by decide)) rfl ?_
      obtain ⟨q21, h⟩ := h
      exact hj1 _ _ _ _ _ _ _ _ hl1 hl2 hl3 hl4 i20 (show 7 % 8 ≠ 1 by decide) q21 h
    · replace h := h.2 b12
      exact TX12_tellNumber_110 hl1 hl2 hl3 hl4 hl5 hl6 hl7 hj0 hj1 h
  · replace h := h.2 b11
    exact TX12_tellNumber_110 hl1 hl2 hl3 hl4 hl5 hl6 hl7 hj0 hj1 h
def PX12_tellNumber_63 (J : Nat → List Int → gS → (Int → gS → Prop) → Prop) (l1 : Int) (l3 : Int) (l5 : Int) (l7 : Int) (G : gS) (Q : Int → gS → Prop) : Prop :=
  PX12_tellNumber_66 J l1 l3 l5 0 G Q
set_option maxRecDepth 20000 in
theorem TX12_tellNumber_63 {j : Nat → rx_K} {J : Nat → List Int → gS → (Int → gS → Prop) → Prop} {l1 : Int} {l2 : Nat} {l3 : Int} {l4 : Nat} {l5 : Int} {l6 : Nat} {l7 : Int} {G : gS} {Q : Int → gS → Prop} (hl1 : inL l1) (hl2 : l2 % 8 ≠ 1) (hl3 : inL l3) (hl4 : l4 % 8 ≠ 1) (hl5 : inL l5) (hl6 : l6 % 8 ≠ 1) (hl7 : inI l7) (hj0 : ∀ (l1 : Int) (l2 : Nat) (l3 : Int) (l4 : Nat) (l5 : Int) (l6 : Nat) (l7 : Int) (G : gS), (inL l1) → (l2 % 8 ≠ 1) → (inL l3) → (l4 % 8 ≠ 1) → (inL l5) → (l6 % 8 ≠ 1) → (inI l7) → J 0 [l1, l3, l5, l7] G Q → Tg W0 (j 0) [rf (0), cL (l1), l2, cL (l3), l4, cL (l5), l6, cI (l7)] [] G (fun r G => r = 7 ∧ Q 0 G)) (hj1 : ∀ (l1 : Int) (l2 : Nat) (l3 : Int) (l4 : Nat) (l5 : Int) (l6 : Nat) (l7 : Int) (G : gS), (inL l1) → (l2 % 8 ≠ 1) → (inL l3) → (l4 % 8 ≠ 1) → (inL l5) → (l6 % 8 ≠ 1) → (inI l7) → J 1 [l1, l3, l5, l7] G Q → Tg W0 (j 1) [rf (0), cL (l1), l2, cL (l3), l4, cL (l5), l6, cI (l7)] [] G (fun r G => r = 7 ∧ Q 0 G)) (h : PX12_tellNumber_63 J l1 l3 l5 l7 G Q) : Tg W0 (vX12_tellNumber_63 j) [rf (0), cL (l1), l2, cL (l3), l4, cL (l5), l6, cI (l7)] [] G (fun r G => r = 7 ∧ Q 0 G) := by
  unfold PX12_tellNumber_63 at h
  unfold vX12_tellNumber_63
  refine g_const (v := cI (0)) rfl ?_
  refine g_st (lv' := [_, _, _, _, _, _, _, _]) (is_I _) (Nat.le_of_ble_eq_true rfl) (Or.inr hl6) rfl ?_
  exact TX12_tellNumber_66 hl1 hl2 hl3 hl4 hl5 hl6 ⟨by omega, by omega⟩ hj0 hj1 h
def PX12_tellNumber_51 (J : Nat → List Int → gS → (Int → gS → Prop) → Prop) (l1 : Int) (l3 : Int) (l5 : Int) (l7 : Int) (G : gS) (Q : Int → gS → Prop) : Prop :=
  ((l1 < 0 → PX12_tellByte 45 G (fun _ G9 => PX12_tellNumber_63 J l1 l3 l5 l7 G9 Q)) ∧ (¬ (l1 < 0) → PX12_tellNumber_63 J l1 l3 l5 l7 G Q))
set_option maxRecDepth 20000 in
theorem TX12_tellNumber_51 {j : Nat → rx_K} {J : Nat → List Int → gS → (Int → gS → Prop) → Prop} {l1 : Int} {l2 : Nat} {l3 : Int} {l4 : Nat} {l5 : Int} {l6 : Nat} {l7 : Int} {G : gS} {Q : Int → gS → Prop} (hl1 : inL l1) (hl2 : l2 % 8 ≠ 1) (hl3 : inL l3) (hl4 : l4 % 8 ≠ 1) (hl5 : inL l5) (hl6 : l6 % 8 ≠ 1) (hl7 : inI l7) (hj0 : ∀ (l1 : Int) (l2 : Nat) (l3 : Int) (l4 : Nat) (l5 : Int) (l6 : Nat) (l7 : Int) (G : gS), (inL l1) → (l2 % 8 ≠ 1) → (inL l3) → (l4 % 8 ≠ 1) → (inL l5) → (l6 % 8 ≠ 1) → (inI l7) → J 0 [l1, l3, l5, l7] G Q → Tg W0 (j 0) [rf (0), cL (l1), l2, cL (l3), l4, cL (l5), l6, cI (l7)] [] G (fun r G => r = 7 ∧ Q 0 G)) (hj1 : ∀ (l1 : Int) (l2 : Nat) (l3 : Int) (l4 : Nat) (l5 : Int) (l6 : Nat) (l7 : Int) (G : gS), (inL l1) → (l2 % 8 ≠ 1) → (inL l3) → (l4 % 8 ≠ 1) → (inL l5) → (l6 % 8 ≠ 1) → (inI l7) → J 1 [l1, l3, l5, l7] G Q → Tg W0 (j 1) [rf (0), cL (l1), l2, cL (l3), l4, cL (l5), l6, cI (l7)] [] G (fun r G => r = 7 ∧ Q 0 G)) (h : PX12_tellNumber_51 J l1 l3 l5 l7 G Q) : Tg W0 (vX12_tellNumber_51 j) [rf (0), cL (l1), l2, cL (l3), l4, cL (l5), l6, cI (l7)] [] G (fun r G => r = 7 ∧ Q 0 G) := by
  unfold PX12_tellNumber_51 at h
  unfold vX12_tellNumber_51
  refine g_ld (v := cL _) rfl (is_L _) ?_
  refine g_const (v := cL (0)) rfl ?_
  refine g_llt hl1 ⟨by omega, by omega⟩ (fun b8 => ?_) (fun b8 => ?_)
  · replace h := h.1 b8
    unfold vX12_tellNumber_57
    refine g_ld (v := rf _) rfl (is_R _) ?_
    refine g_const (v := cI (45)) rfl ?_
    refine g_callV (As := [_]) (ci := 12) oC12 (fun _ => rfl) ?_
    refine g_go0 (Nat.le_of_ble_eq_true rfl) (Tn_w (TX12_tellByte ⟨by omega, by omega⟩ h) fun _ G9 ⟨e, h⟩ => ⟨e, ?_⟩)
    exact TX12_tellNumber_63 hl1 hl2 hl3 hl4 hl5 hl6 hl7 hj0 hj1 h
  · replace h := h.2 b8
    exact TX12_tellNumber_63 hl1 hl2 hl3 hl4 hl5 hl6 hl7 hj0 hj1 h
def PX12_tellNumber_19 (J : Nat → List Int → gS → (Int → gS → Prop) → Prop) (l1 : Int) (l3 : Int) (l5 : Int) (l7 : Int) (G : gS) (Q : Int → gS → Prop) : Prop :=
  ((l7 < 18 → (inL (ldiv l3 10) → ((ldiv l3 10 < l5 → PX12_tellNumber_51 J l1 l3 l5 l7 G Q) ∧ (¬ (ldiv l3 10 < l5) → (inL (l5 * 10) ∧ (inI (l7 + 1) ∧ J 0 [l1, l3, l5 * 10, l7 + 1] G Q)))))) ∧ (¬ (l7 < 18) → PX12_tellNumber_51 J l1 l3 l5 l7 G Q))
set_option maxRecDepth 20000 in
theorem TX12_tellNumber_19 {j : Nat → rx_K} {J : Nat → List Int → gS → (Int → gS → Prop) → Prop} {l1 : Int} {l2 : Nat} {l3 : Int} {l4 : Nat} {l5 : Int} {l6 : Nat} {l7 : Int} {G : gS} {Q : Int → gS → Prop} (hl1 : inL l1) (hl2 : l2 % 8 ≠ 1) (hl3 : inL l3) (hl4 : l4 % 8 ≠ 1) (hl5 : inL l5) (hl6 : l6 % 8 ≠ 1) (hl7 : inI l7) (hj0 : ∀ (l1 : Int) (l2 : Nat) (l3 : Int) (l4 : Nat) (l5 : Int) (l6 : Nat) (l7 : Int) (G : gS), (inL l1) → (l2 % 8 ≠ 1) → (inL l3) → (l4 % 8 ≠ 1) → (inL l5) → (l6 % 8 ≠ 1) → (inI l7) → J 0 [l1, l3, l5, l7] G Q → Tg W0 (j 0) [rf (0), cL (l1), l2, cL (l3), l4, cL (l5), l6, cI (l7)] [] G (fun r G => r = 7 ∧ Q 0 G)) (hj1 : ∀ (l1 : Int) (l2 : Nat) (l3 : Int) (l4 : Nat) (l5 : Int) (l6 : Nat) (l7 : Int) (G : gS), (inL l1) → (l2 % 8 ≠ 1) → (inL l3) → (l4 % 8 ≠ 1) → (inL l5) → (l6 % 8 ≠ 1) → (inI l7) → J 1 [l1, l3, l5, l7] G Q → Tg W0 (j 1) [rf (0), cL (l1), l2, cL (l3), l4, cL (l5), l6, cI (l7)] [] G (fun r G => r = 7 ∧ Q 0 G)) (h : PX12_tellNumber_19 J l1 l3 l5 l7 G Q) : Tg W0 (vX12_tellNumber_19 j) [rf (0), cL (l1), l2, cL (l3), l4, cL (l5), l6, cI (l7)] [] G (fun r G => r = 7 ∧ Q 0 G) := by
  unfold PX12_tellNumber_19 at h
  unfold vX12_tellNumber_19
  refine g_ld (v := cI _) rfl (is_I _) ?_
  refine g_const (v := cI (18)) rfl ?_
  refine g_lt2 hl7 ⟨by omega, by omega⟩ (fun b3 => ?_) (fun b3 => ?_)
  · replace h := h.1 b3
    unfold vX12_tellNumber_26
    refine g_ld (v := cL _) rfl (is_L _) ?_
    refine g_ld (v := cL _) rfl (is_L _) ?_
    refine g_const (v := cL (10)) rfl ?_
    refine g_ldiv ⟨by omega, by omega⟩ (by omega) fun i4 => ?_
    replace h := h i4
    refine g_lgt hl5 i4 (fun b5 => ?_) (fun b5 => ?_)
    · replace h := h.1 b5
      exact TX12_tellNumber_51 hl1 hl2 hl3 hl4 hl5 hl6 hl7 hj0 hj1 h
    · replace h := h.2 b5
      unfold vX12_tellNumber_37
      refine g_ld (v := cL _) rfl (is_L _) ?_
      refine g_const (v := cL (10)) rfl ?_
      refine g_lmul ?_
      refine g_stL (lv' := [_, _, _, _, _, _, _, _]) (Nat.le_of_ble_eq_true rfl) (Or.inr hl4) rfl ?_
      obtain ⟨q6, h⟩ := h
      refine g_inc (lv' := [_, _, _, _, _, _, _, _]) rfl (Nat.le_of_ble_eq_true rfl) (Or.inr (show 7 % 8 ≠ 1 by decide)) rfl ?_
      obtain ⟨q7, h⟩ := h
      exact hj0 _ _ _ _ _ _ _ _ hl1 hl2 hl3 hl4 q6 (show 7 % 8 ≠ 1 by decide) q7 h
  · replace h := h.2 b3
    exact TX12_tellNumber_51 hl1 hl2 hl3 hl4 hl5 hl6 hl7 hj0 hj1 h
def PX12_tellNumber_12 (J : Nat → List Int → gS → (Int → gS → Prop) → Prop) (l1 : Int) (s0 : Int) (G : gS) (Q : Int → gS → Prop) : Prop :=
  PX12_tellNumber_19 J l1 s0 1 0 G Q
set_option maxRecDepth 20000 in
theorem TX12_tellNumber_12 {j : Nat → rx_K} {J : Nat → List Int → gS → (Int → gS → Prop) → Prop} {l1 : Int} {l2 : Nat} {l3 : Nat} {l4 : Nat} {l5 : Nat} {l6 : Nat} {l7 : Nat} {s0 : Int} {G : gS} {Q : Int → gS → Prop} (hl1 : inL l1) (hl2 : l2 % 8 ≠ 1) (hl3 : l3 % 8 ≠ 1) (hl4 : l4 % 8 ≠ 1) (hl5 : l5 % 8 ≠ 1) (hl6 : l6 % 8 ≠ 1) (hl7 : l7 % 8 ≠ 1) (hs0 : inL s0) (hj0 : ∀ (l1 : Int) (l2 : Nat) (l3 : Int) (l4 : Nat) (l5 : Int) (l6 : Nat) (l7 : Int) (G : gS), (inL l1) → (l2 % 8 ≠ 1) → (inL l3) → (l4 % 8 ≠ 1) → (inL l5) → (l6 % 8 ≠ 1) → (inI l7) → J 0 [l1, l3, l5, l7] G Q → Tg W0 (j 0) [rf (0), cL (l1), l2, cL (l3), l4, cL (l5), l6, cI (l7)] [] G (fun r G => r = 7 ∧ Q 0 G)) (hj1 : ∀ (l1 : Int) (l2 : Nat) (l3 : Int) (l4 : Nat) (l5 : Int) (l6 : Nat) (l7 : Int) (G : gS), (inL l1) → (l2 % 8 ≠ 1) → (inL l3) → (l4 % 8 ≠ 1) → (inL l5) → (l6 % 8 ≠ 1) → (inI l7) → J 1 [l1, l3, l5, l7] G Q → Tg W0 (j 1) [rf (0), cL (l1), l2, cL (l3), l4, cL (l5), l6, cI (l7)] [] G (fun r G => r = 7 ∧ Q 0 G)) (h : PX12_tellNumber_12 J l1 s0 G Q) : Tg W0 (vX12_tellNumber_12 j) [rf (0), cL (l1), l2, l3, l4, l5, l6, l7] [cL (s0)] G (fun r G => r = 7 ∧ Q 0 G) := by
  unfold PX12_tellNumber_12 at h
  unfold vX12_tellNumber_12
  refine g_stL (lv' := [_, _, _, _, _, _, _, _]) (Nat.le_of_ble_eq_true rfl) (Or.inr hl2) rfl ?_
  refine g_const (v := cL (1)) rfl ?_
  refine g_stL (lv' := [_, _, _, _, _, _, _, _]) (Nat.le_of_ble_eq_true rfl) (Or.inr (show 7 % 8 ≠ 1 by decide)) rfl ?_
  refine g_const (v := cI (0)) rfl ?_
  refine g_st (lv' := [_, _, _, _, _, _, _, _]) (is_I _) (Nat.le_of_ble_eq_true rfl) (Or.inr (show 7 % 8 ≠ 1 by decide)) rfl ?_
  exact TX12_tellNumber_19 hl1 hl2 hs0 (show 7 % 8 ≠ 1 by decide) ⟨by omega, by omega⟩ (show 7 % 8 ≠ 1 by decide) ⟨by omega, by omega⟩ hj0 hj1 h
def PX12_tellNumber_0 (J : Nat → List Int → gS → (Int → gS → Prop) → Prop) (a1 : Int) (G : gS) (Q : Int → gS → Prop) : Prop :=
  ((a1 < 0 → (inL (-a1) ∧ PX12_tellNumber_12 J a1 (-a1) G Q)) ∧ (¬ (a1 < 0) → PX12_tellNumber_12 J a1 a1 G Q))
set_option maxRecDepth 20000 in
theorem TX12_tellNumber_0 {j : Nat → rx_K} {J : Nat → List Int → gS → (Int → gS → Prop) → Prop} {a1 : Int} {G : gS} {Q : Int → gS → Prop} (ha1 : inL a1) (hj0 : ∀ (l1 : Int) (l2 : Nat) (l3 : Int) (l4 : Nat) (l5 : Int) (l6 : Nat) (l7 : Int) (G : gS), (inL l1) → (l2 % 8 ≠ 1) → (inL l3) → (l4 % 8 ≠ 1) → (inL l5) → (l6 % 8 ≠ 1) → (inI l7) → J 0 [l1, l3, l5, l7] G Q → Tg W0 (j 0) [rf (0), cL (l1), l2, cL (l3), l4, cL (l5), l6, cI (l7)] [] G (fun r G => r = 7 ∧ Q 0 G)) (hj1 : ∀ (l1 : Int) (l2 : Nat) (l3 : Int) (l4 : Nat) (l5 : Int) (l6 : Nat) (l7 : Int) (G : gS), (inL l1) → (l2 % 8 ≠ 1) → (inL l3) → (l4 % 8 ≠ 1) → (inL l5) → (l6 % 8 ≠ 1) → (inI l7) → J 1 [l1, l3, l5, l7] G Q → Tg W0 (j 1) [rf (0), cL (l1), l2, cL (l3), l4, cL (l5), l6, cI (l7)] [] G (fun r G => r = 7 ∧ Q 0 G)) (h : PX12_tellNumber_0 J a1 G Q) : Tg W0 (vX12_tellNumber_0 j) [rf (0), cL (a1), 7, 7, 7, 7, 7, 7] [] G (fun r G => r = 7 ∧ Q 0 G) := by
  unfold PX12_tellNumber_0 at h
  unfold vX12_tellNumber_0
  refine g_ld (v := cL _) rfl (is_L _) ?_
  refine g_const (v := cL (0)) rfl ?_
  refine g_llt ha1 ⟨by omega, by omega⟩ (fun b1 => ?_) (fun b1 => ?_)
  · replace h := h.1 b1
    unfold vX12_tellNumber_6
    refine g_ld (v := cL _) rfl (is_L _) ?_
    refine g_lneg ?_
    obtain ⟨q2, h⟩ := h
    exact TX12_tellNumber_12 ha1 (show 7 % 8 ≠ 1 by decide) (show 7 % 8 ≠ 1 by decide) (show 7 % 8 ≠ 1 by decide) (show 7 % 8 ≠ 1 by decide) (show 7 % 8 ≠ 1 by decide) (show 7 % 8 ≠ 1 by decide) q2 hj0 hj1 h
  · replace h := h.2 b1
    unfold vX12_tellNumber_11
    refine g_ld (v := cL _) rfl (is_L _) ?_
    exact TX12_tellNumber_12 ha1 (show 7 % 8 ≠ 1 by decide) (show 7 % 8 ≠ 1 by decide) (show 7 % 8 ≠ 1 by decide) (show 7 % 8 ≠ 1 by decide) (show 7 % 8 ≠ 1 by decide) (show 7 % 8 ≠ 1 by decide) ha1 hj0 hj1 h
def PX12_tellNumber_J : Nat → Nat → List Int → gS → (Int → gS → Prop) → Prop
  | 0, _, _, _, _ => False
  | f + 1, h, L, G, Q => match h, L with
    | 0, [l1, l3, l5, l7] => PX12_tellNumber_19 (PX12_tellNumber_J f) l1 l3 l5 l7 G Q
    | 1, [l1, l3, l5, l7] => PX12_tellNumber_66 (PX12_tellNumber_J f) l1 l3 l5 l7 G Q
    | _, _ => False
theorem TX12_tellNumber_J {Q : Int → gS → Prop} : ∀ f N : Nat, f ≤ N → (∀ (l1 : Int) (l2 : Nat) (l3 : Int) (l4 : Nat) (l5 : Int) (l6 : Nat) (l7 : Int) (G : gS), (inL l1) → (l2 % 8 ≠ 1) → (inL l3) → (l4 % 8 ≠ 1) → (inL l5) → (l6 % 8 ≠ 1) → (inI l7) → (PX12_tellNumber_J f) 0 [l1, l3, l5, l7] G Q → Tg W0 (rx_J vhX12_tellNumber N 0) [rf (0), cL (l1), l2, cL (l3), l4, cL (l5), l6, cI (l7)] [] G (fun r G => r = 7 ∧ Q 0 G)) ∧ (∀ (l1 : Int) (l2 : Nat) (l3 : Int) (l4 : Nat) (l5 : Int) (l6 : Nat) (l7 : Int) (G : gS), (inL l1) → (l2 % 8 ≠ 1) → (inL l3) → (l4 % 8 ≠ 1) → (inL l5) → (l6 % 8 ≠ 1) → (inI l7) → (PX12_tellNumber_J f) 1 [l1, l3, l5, l7] G Q → Tg W0 (rx_J vhX12_tellNumber N 1) [rf (0), cL (l1), l2, cL (l3), l4, cL (l5), l6, cI (l7)] [] G (fun r G => r = 7 ∧ Q 0 G)) := by
  intro f
  induction f with
  | zero => exact fun N _ => ⟨fun _ _ _ _ _ _ _ _ _ _ _ _ _ _ _ h => h.elim, fun _ _ _ _ _ _ _ _ _ _ _ _ _ _ _ h => h.elim⟩
  | succ f ih =>
    intro N hN
    obtain ⟨M, rfl⟩ : ∃ M, N = M + 1 := ⟨N - 1, by omega⟩
    have ih := ih M (by omega)
    exact ⟨fun _ _ _ _ _ _ _ _ hl1 hl2 hl3 hl4 hl5 hl6 hl7 h => show Tg W0 (vX12_tellNumber_19 (rx_J vhX12_tellNumber M)) _ _ _ _ from TX12_tellNumber_19 hl1 hl2 hl3 hl4 hl5 hl6 hl7 ih.1 ih.2 h, fun _ _ _ _ _ _ _ _ hl1 hl2 hl3 hl4 hl5 hl6 hl7 h => show Tg W0 (vX12_tellNumber_66 (rx_J vhX12_tellNumber M)) _ _ _ _ from TX12_tellNumber_66 hl1 hl2 hl3 hl4 hl5 hl6 hl7 ih.1 ih.2 h⟩
def PX12_tellNumber (a1 : Int) (G : gS) (Q : Int → gS → Prop) : Prop := ∃ f : Nat, f ≤ 4000000000 ∧ PX12_tellNumber_0 (PX12_tellNumber_J f) a1 G Q
theorem TX12_tellNumber {a1 : Int} {G : gS} {Q : Int → gS → Prop} (ha1 : inL a1) (h : PX12_tellNumber a1 G Q) : Tn W0 FX12_tellNumber [rf (0), cL (a1)] G (fun r G => r = 7 ∧ Q 0 G) := by
  obtain ⟨f, hf, h⟩ := h
  have hJ := TX12_tellNumber_J (Q := Q) f 4000000000 hf
  unfold FX12_tellNumber
  refine g_ent (lv' := [rf (0), cL (a1), 7, 7, 7, 7, 7, 7]) (flR (flL fl0)) (Nat.le_of_ble_eq_true rfl) rfl ?_
  exact TX12_tellNumber_0 ha1 hJ.1 hJ.2 h
def PX12_uses_19 (l1 : Int) (l2 : Int) (l3 : Int) (s0 : Int) (G : gS) (Q : Int → gS → Prop) : Prop :=
  Q (s0) G
set_option maxRecDepth 20000 in
theorem TX12_uses_19 {l1 : Int} {l2 : Int} {l3 : Int} {s0 : Int} {G : gS} {Q : Int → gS → Prop} (hl1 : inI l1) (hl2 : inI l2) (hs0 : inI s0) (h : PX12_uses_19 l1 l2 l3 s0 G Q) : Tg W0 vX12_uses_19 [rf (0), cI (l1), cI (l2), rf (l3)] [cI (s0)] G (fun r G => ∃ v, r = cI v ∧ inI v ∧ Q v G) := by
  unfold PX12_uses_19 at h
  unfold vX12_uses_19
  exact g_ret1 (is_I _) ⟨_, rfl, hs0, h⟩
def PX12_uses_0 (a1 : Int) (a2 : Int) (G : gS) (Q : Int → gS → Prop) : Prop :=
  PX12_buildOf a1 a2 G (fun r2 G1 => ((r2 < 0 → PX12_uses_19 a1 a2 r2 (-1) G1 Q) ∧ (0 ≤ r2 → (isO W0 1 (r2) ∧ (inI (G1 r2 15) → PX12_uses_19 a1 a2 r2 (G1 r2 15) G1 Q)))))
set_option maxRecDepth 20000 in
theorem TX12_uses_0 {a1 : Int} {a2 : Int} {G : gS} {Q : Int → gS → Prop} (ha1 : inI a1) (ha2 : inI a2) (h : PX12_uses_0 a1 a2 G Q) : Tg W0 vX12_uses_0 [rf (0), cI (a1), cI (a2), 7] [] G (fun r G => ∃ v, r = cI v ∧ inI v ∧ Q v G) := by
  unfold PX12_uses_0 at h
  unfold vX12_uses_0
  refine g_ld (v := rf _) rfl (is_R _) ?_
  refine g_ld (v := cI _) rfl (is_I _) ?_
  refine g_ld (v := cI _) rfl (is_I _) ?_
  refine g_callV (As := [_, _]) (ci := 12) oC12 (fun _ => rfl) ?_
  refine g_go1 (Nat.le_of_ble_eq_true rfl) (Tn_w (TX12_buildOf ha1 ha2 h) fun _ G1 ⟨r2, e, h⟩ => ?_)
  subst e
  refine ⟨n7_R _, ?_⟩
  refine g_st (lv' := [_, _, _, _]) (is_R _) (Nat.le_of_ble_eq_true rfl) (Or.inr (n1_I _)) rfl ?_
  refine g_ld (v := rf _) rfl (is_R _) ?_
  refine g_nul (fun b4 => ?_) (fun b4 => ?_)
  · replace h := h.1 b4
    unfold vX12_uses_11
    refine g_const (v := cI (-1)) rfl ?_
    exact TX12_uses_19 ha1 ha2 ⟨by omega, by omega⟩ h
  · replace h := h.2 b4
    unfold vX12_uses_15
    refine g_ld (v := rf _) rfl (is_R _) ?_
    obtain ⟨q5, h⟩ := h
    refine g_getI (kz := 15) q5 rfl (Nat.le_of_ble_eq_true rfl) rfl fun i6 => ?_
    replace h := h i6
    exact TX12_uses_19 ha1 ha2 i6 h
abbrev PX12_uses (a1 : Int) (a2 : Int) (G : gS) (Q : Int → gS → Prop) : Prop := PX12_uses_0 a1 a2 G Q
theorem TX12_uses {a1 : Int} {a2 : Int} {G : gS} {Q : Int → gS → Prop} (ha1 : inI a1) (ha2 : inI a2) (h : PX12_uses a1 a2 G Q) : Tn W0 FX12_uses [rf (0), cI (a1), cI (a2)] G (fun r G => ∃ v, r = cI v ∧ inI v ∧ Q v G) := by
  unfold FX12_uses
  refine g_ent (lv' := [rf (0), cI (a1), cI (a2), 7]) (flR (flI (flI fl0))) (Nat.le_of_ble_eq_true rfl) rfl ?_
  exact TX12_uses_0 ha1 ha2 h
def PX12_hasUse_21 (l0 : Int) (l1 : Int) (s0 : Int) (G : gS) (Q : Int → gS → Prop) : Prop :=
  ((0 ≤ s0 ∧ s0 ≤ 1) ∧ Q (s0) G)
set_option maxRecDepth 20000 in
theorem TX12_hasUse_21 {l0 : Int} {l1 : Int} {s0 : Int} {G : gS} {Q : Int → gS → Prop} (hl1 : inI l1) (hs0 : inI s0) (h : PX12_hasUse_21 l0 l1 s0 G Q) : Tg W0 vX12_hasUse_21 [rf (l0), cI (l1)] [cI (s0)] G (fun r G => ∃ v, r = cI v ∧ (0 ≤ v ∧ v ≤ 1) ∧ Q v G) := by
  unfold PX12_hasUse_21 at h
  unfold vX12_hasUse_21
  obtain ⟨q6, h⟩ := h
  exact g_ret1 (is_Z q6) ⟨_, rfl, q6, h⟩
def PX12_hasUse_20 (l0 : Int) (l1 : Int) (G : gS) (Q : Int → gS → Prop) : Prop :=
  PX12_hasUse_21 l0 l1 0 G Q
set_option maxRecDepth 20000 in
theorem TX12_hasUse_20 {l0 : Int} {l1 : Int} {G : gS} {Q : Int → gS → Prop} (hl1 : inI l1) (h : PX12_hasUse_20 l0 l1 G Q) : Tg W0 vX12_hasUse_20 [rf (l0), cI (l1)] [] G (fun r G => ∃ v, r = cI v ∧ (0 ≤ v ∧ v ≤ 1) ∧ Q v G) := by
  unfold PX12_hasUse_20 at h
  unfold vX12_hasUse_20
  refine g_const (v := cI (0)) rfl ?_
  exact TX12_hasUse_21 hl1 ⟨by omega, by omega⟩ h
def PX12_hasUse_0 (a0 : Int) (a1 : Int) (G : gS) (Q : Int → gS → Prop) : Prop :=
  ((a0 < 0 → PX12_hasUse_20 a0 a1 G Q) ∧ (0 ≤ a0 → ((a1 < 0 → PX12_hasUse_20 a0 a1 G Q) ∧ (¬ (a1 < 0) → (isO W0 1 (a0) ∧ (inI (G a0 15) → ((a1 < G a0 15 → PX12_hasUse_21 a0 a1 1 G Q) ∧ (¬ (a1 < G a0 15) → PX12_hasUse_20 a0 a1 G Q))))))))
set_option maxRecDepth 20000 in
theorem TX12_hasUse_0 {a0 : Int} {a1 : Int} {G : gS} {Q : Int → gS → Prop} (ha1 : inI a1) (h : PX12_hasUse_0 a0 a1 G Q) : Tg W0 vX12_hasUse_0 [rf (a0), cI (a1)] [] G (fun r G => ∃ v, r = cI v ∧ (0 ≤ v ∧ v ≤ 1) ∧ Q v G) := by
  unfold PX12_hasUse_0 at h
  unfold vX12_hasUse_0
  refine g_ld (v := rf _) rfl (is_R _) ?_
  refine g_nul (fun b1 => ?_) (fun b1 => ?_)
  · replace h := h.1 b1
    exact TX12_hasUse_20 ha1 h
  · replace h := h.2 b1
    unfold vX12_hasUse_4
    refine g_ld (v := cI _) rfl (is_I _) ?_
    refine g_lt1 ha1 (fun b2 => ?_) (fun b2 => ?_)
    · replace h := h.1 b2
      exact TX12_hasUse_20 ha1 h
    · replace h := h.2 b2
      unfold vX12_hasUse_8
      refine g_ld (v := cI _) rfl (is_I _) ?_
      refine g_ld (v := rf _) rfl (is_R _) ?_
      obtain ⟨q3, h⟩ := h
      refine g_getI (kz := 15) q3 rfl (Nat.le_of_ble_eq_true rfl) rfl fun i4 => ?_
      replace h := h i4
      refine g_lt2 ha1 i4 (fun b5 => ?_) (fun b5 => ?_)
      · replace h := h.1 b5
        unfold vX12_hasUse_16
        refine g_const (v := cI (1)) rfl ?_
        exact TX12_hasUse_21 ha1 ⟨by omega, by omega⟩ h
      · replace h := h.2 b5
        exact TX12_hasUse_20 ha1 h
abbrev PX12_hasUse (a0 : Int) (a1 : Int) (G : gS) (Q : Int → gS → Prop) : Prop := PX12_hasUse_0 a0 a1 G Q
theorem TX12_hasUse {a0 : Int} {a1 : Int} {G : gS} {Q : Int → gS → Prop} (ha1 : inI a1) (h : PX12_hasUse a0 a1 G Q) : Tn W0 FX12_hasUse [rf (a0), cI (a1)] G (fun r G => ∃ v, r = cI v ∧ (0 ≤ v ∧ v ≤ 1) ∧ Q v G) := by
  unfold FX12_hasUse
  refine g_ent (lv' := [rf (a0), cI (a1)]) (flR (flI fl0)) (Nat.le_of_ble_eq_true rfl) rfl ?_
  exact TX12_hasUse_0 ha1 h
def PX12_use_52 (l1 : Int) (l2 : Int) (l3 : Int) (l4 : Int) (l5 : Int) (s0 : Int) (G : gS) (Q : Int → gS → Prop) : Prop :=
  Q (s0) G
set_option maxRecDepth 20000 in
theorem TX12_use_52 {l1 : Int} {l2 : Int} {l3 : Int} {l4 : Int} {l5 : Int} {s0 : Int} {G : gS} {Q : Int → gS → Prop} (hl1 : inI l1) (hl2 : inI l2) (hl3 : inI l3) (hl4 : inI l4) (hs0 : inI s0) (h : PX12_use_52 l1 l2 l3 l4 l5 s0 G Q) : Tg W0 vX12_use_52 [rf (0), cI (l1), cI (l2), cI (l3), cI (l4), rf (l5)] [cI (s0)] G (fun r G => ∃ v, r = cI v ∧ inI v ∧ Q v G) := by
  unfold PX12_use_52 at h
  unfold vX12_use_52
  exact g_ret1 (is_I _) ⟨_, rfl, hs0, h⟩
def PX12_use_28 (l1 : Int) (l2 : Int) (l3 : Int) (l4 : Int) (l5 : Int) (G : gS) (Q : Int → gS → Prop) : Prop :=
  Q (-1) G
set_option maxRecDepth 20000 in
theorem TX12_use_28 {l1 : Int} {l2 : Int} {l3 : Int} {l4 : Int} {l5 : Int} {G : gS} {Q : Int → gS → Prop} (hl1 : inI l1) (hl2 : inI l2) (hl3 : inI l3) (hl4 : inI l4) (h : PX12_use_28 l1 l2 l3 l4 l5 G Q) : Tg W0 vX12_use_28 [rf (0), cI (l1), cI (l2), cI (l3), cI (l4), rf (l5)] [] G (fun r G => ∃ v, r = cI v ∧ inI v ∧ Q v G) := by
  unfold PX12_use_28 at h
  unfold vX12_use_28
  refine g_const (v := cI (-1)) rfl ?_
  exact g_ret1 (is_I _) ⟨_, rfl, ⟨by omega, by omega⟩, h⟩
def PX12_use_0 (a1 : Int) (a2 : Int) (a3 : Int) (a4 : Int) (G : gS) (Q : Int → gS → Prop) : Prop :=
  PX12_buildOf a1 a2 G (fun r2 G1 => PX12_hasUse r2 a3 G1 (fun r5 G4 => (0 ≤ r5 ∧ r5 ≤ 1) → ((r5 = 0 → PX12_use_28 a1 a2 a3 a4 r2 G4 Q) ∧ (¬ (r5 = 0) → ((a4 < 0 → PX12_use_28 a1 a2 a3 a4 r2 G4 Q) ∧ (¬ (a4 < 0) → ((1 < a4 → PX12_use_28 a1 a2 a3 a4 r2 G4 Q) ∧ (¬ (1 < a4) → ((a4 = 0 → (isO W0 1 (r2) ∧ (((G4 r2 10 = -1 ∨ ∃ n, isA W0 0 n (G4 r2 10)) ∧ ∀ v, W0.2 r2 10 = some v → G4 r2 10 = v) → (∃ n13, isA W0 0 n13 (G4 r2 10) ∧ ((0 : Int) ≤ a3 ∧ ((a3 : Int) < n13 ∧ (inI (G4 (G4 r2 10) a3) → PX12_use_52 a1 a2 a3 a4 r2 (G4 (G4 r2 10) a3) G4 Q))))))) ∧ (¬ (a4 = 0) → (isO W0 1 (r2) ∧ (((G4 r2 11 = -1 ∨ ∃ n, isA W0 0 n (G4 r2 11)) ∧ ∀ v, W0.2 r2 11 = some v → G4 r2 11 = v) → (∃ n20, isA W0 0 n20 (G4 r2 11) ∧ ((0 : Int) ≤ a3 ∧ ((a3 : Int) < n20 ∧ (inI (G4 (G4 r2 11) a3) → PX12_use_52 a1 a2 a3 a4 r2 (G4 (G4 r2 11) a3) G4 Q))))))))))))))))
set_option maxRecDepth 20000 in
theorem TX12_use_0 {a1 : Int} {a2 : Int} {a3 : Int} {a4 : Int} {G : gS} {Q : Int → gS → Prop} (ha1 : inI a1) (ha2 : inI a2) (ha3 : inI a3) (ha4 : inI a4) (h : PX12_use_0 a1 a2 a3 a4 G Q) : Tg W0 vX12_use_0 [rf (0), cI (a1), cI (a2), cI (a3), cI (a4), 7] [] G (fun r G => ∃ v, r = cI v ∧ inI v ∧ Q v G) := by
  unfold PX12_use_0 at h
  unfold vX12_use_0
  refine g_ld (v := rf _) rfl (is_R _) ?_
  refine g_ld (v := cI _) rfl (is_I _) ?_
  refine g_ld (v := cI _) rfl (is_I _) ?_
  refine g_callV (As := [_, _]) (ci := 12) oC12 (fun _ => rfl) ?_
  refine g_go1 (Nat.le_of_ble_eq_true rfl) (Tn_w (TX12_buildOf ha1 ha2 h) fun _ G1 ⟨r2, e, h⟩ => ?_)
  subst e
  refine ⟨n7_R _, ?_⟩
  refine g_st (lv' := [_, _, _, _, _, _]) (is_R _) (Nat.le_of_ble_eq_true rfl) (Or.inr (n1_I _)) rfl ?_
  refine g_ld (v := rf _) rfl (is_R _) ?_
  refine g_ld (v := cI _) rfl (is_I _) ?_
  refine g_callS (As := [_, _]) (fun _ => rfl) ?_
  refine g_go1 (Nat.le_of_ble_eq_true rfl) (Tn_w (TX12_hasUse ha3 h) fun _ G4 ⟨r5, e, i6, h⟩ => ?_)
  subst e
  refine ⟨n7_I _, ?_⟩
  replace h := h i6
  refine g_eq1 ⟨by omega, by omega⟩ (fun b7 => ?_) (fun b7 => ?_)
  · replace h := h.1 b7
    exact TX12_use_28 ha1 ha2 ha3 ha4 h
  · replace h := h.2 b7
    unfold vX12_use_17
    refine g_ld (v := cI _) rfl (is_I _) ?_
    refine g_lt1 ha4 (fun b8 => ?_) (fun b8 => ?_)
    · replace h := h.1 b8
      exact TX12_use_28 ha1 ha2 ha3 ha4 h
    · replace h := h.2 b8
      unfold vX12_use_22
      refine g_ld (v := cI _) rfl (is_I _) ?_
      refine g_const (v := cI (1)) rfl ?_
      refine g_gt2 ha4 ⟨by omega, by omega⟩ (fun b9 => ?_) (fun b9 => ?_)
      · replace h := h.1 b9
        exact TX12_use_28 ha1 ha2 ha3 ha4 h
      · replace h := h.2 b9
        unfold vX12_use_30
        refine g_ld (v := cI _) rfl (is_I _) ?_
        refine g_eq1 ha4 (fun b10 => ?_) (fun b10 => ?_)
        · replace h := h.1 b10
          unfold vX12_use_35
          refine g_ld (v := rf _) rfl (is_R _) ?_
          obtain ⟨q11, h⟩ := h
          refine g_getAF (kz := 10) (c := 0) q11 rfl (Nat.le_of_ble_eq_true rfl) rfl fun i12 => ?_
          replace h := h i12
          refine g_ld (v := cI _) rfl (is_I _) ?_
          obtain ⟨n13, q14, h⟩ := h
          obtain ⟨q15, q16, h⟩ := h
          refine g_aldI q14 q15 q16 rfl fun i17 => ?_
          replace h := h i17
          exact TX12_use_52 ha1 ha2 ha3 ha4 i17 h
        · replace h := h.2 b10
          unfold vX12_use_45
          refine g_ld (v := rf _) rfl (is_R _) ?_
          obtain ⟨q18, h⟩ := h
          refine g_getAF (kz := 11) (c := 0) q18 rfl (Nat.le_of_ble_eq_true rfl) rfl fun i19 => ?_
          replace h := h i19
          refine g_ld (v := cI _) rfl (is_I _) ?_
          obtain ⟨n20, q21, h⟩ := h
          obtain ⟨q22, q23, h⟩ := h
          refine g_aldI q21 q22 q23 rfl fun i24 => ?_
          replace h := h i24
          exact TX12_use_52 ha1 ha2 ha3 ha4 i24 h
abbrev PX12_use (a1 : Int) (a2 : Int) (a3 : Int) (a4 : Int) (G : gS) (Q : Int → gS → Prop) : Prop := PX12_use_0 a1 a2 a3 a4 G Q
theorem TX12_use {a1 : Int} {a2 : Int} {a3 : Int} {a4 : Int} {G : gS} {Q : Int → gS → Prop} (ha1 : inI a1) (ha2 : inI a2) (ha3 : inI a3) (ha4 : inI a4) (h : PX12_use a1 a2 a3 a4 G Q) : Tn W0 FX12_use [rf (0), cI (a1), cI (a2), cI (a3), cI (a4)] G (fun r G => ∃ v, r = cI v ∧ inI v ∧ Q v G) := by
  unfold FX12_use
  refine g_ent (lv' := [rf (0), cI (a1), cI (a2), cI (a3), cI (a4), 7]) (flR (flI (flI (flI (flI fl0))))) (Nat.le_of_ble_eq_true rfl) rfl ?_
  exact TX12_use_0 ha1 ha2 ha3 ha4 h
def PX12_whereUsed_82 (l1 : Int) (l2 : Int) (l3 : Int) (l4 : Int) (l5 : Int) (l6 : Int) (s0 : Int) (G : gS) (Q : Int → gS → Prop) : Prop :=
  Q (s0) G
set_option maxRecDepth 20000 in
theorem TX12_whereUsed_82 {l1 : Int} {l2 : Int} {l3 : Int} {l4 : Int} {l5 : Int} {l6 : Int} {s0 : Int} {G : gS} {Q : Int → gS → Prop} (hl1 : inI l1) (hl2 : inI l2) (hl3 : inI l3) (hl6 : inI l6) (hs0 : inI s0) (h : PX12_whereUsed_82 l1 l2 l3 l4 l5 l6 s0 G Q) : Tg W0 vX12_whereUsed_82 [rf (0), cI (l1), cI (l2), cI (l3), rf (l4), rf (l5), cI (l6)] [cI (s0)] G (fun r G => ∃ v, r = cI v ∧ inI v ∧ Q v G) := by
  unfold PX12_whereUsed_82 at h
  unfold vX12_whereUsed_82
  exact g_ret1 (is_I _) ⟨_, rfl, hs0, h⟩
def PX12_whereUsed_80 (l1 : Int) (l2 : Int) (l3 : Int) (l4 : Int) (l5 : Int) (l6 : Int) (G : gS) (Q : Int → gS → Prop) : Prop :=
  PX12_whereUsed_82 l1 l2 l3 l4 l5 l6 (-2) G Q
set_option maxRecDepth 20000 in
theorem TX12_whereUsed_80 {l1 : Int} {l2 : Int} {l3 : Int} {l4 : Int} {l5 : Int} {l6 : Int} {G : gS} {Q : Int → gS → Prop} (hl1 : inI l1) (hl2 : inI l2) (hl3 : inI l3) (hl6 : inI l6) (h : PX12_whereUsed_80 l1 l2 l3 l4 l5 l6 G Q) : Tg W0 vX12_whereUsed_80 [rf (0), cI (l1), cI (l2), cI (l3), rf (l4), rf (l5), cI (l6)] [] G (fun r G => ∃ v, r = cI v ∧ inI v ∧ Q v G) := by
  unfold PX12_whereUsed_80 at h
  unfold vX12_whereUsed_80
  refine g_const (v := cI (-2)) rfl ?_
  exact TX12_whereUsed_82 hl1 hl2 hl3 hl6 ⟨by omega, by omega⟩ h
def PX12_whereUsed_23 (l1 : Int) (l2 : Int) (l3 : Int) (l4 : Int) (G : gS) (Q : Int → gS → Prop) : Prop :=
  Q (-2) G
set_option maxRecDepth 20000 in
theorem TX12_whereUsed_23 {l1 : Int} {l2 : Int} {l3 : Int} {l4 : Int} {l5 : Nat} {l6 : Nat} {G : gS} {Q : Int → gS → Prop} (hl1 : inI l1) (hl2 : inI l2) (hl3 : inI l3) (hl5 : l5 % 8 ≠ 1) (hl6 : l6 % 8 ≠ 1) (h : PX12_whereUsed_23 l1 l2 l3 l4 G Q) : Tg W0 vX12_whereUsed_23 [rf (0), cI (l1), cI (l2), cI (l3), rf (l4), l5, l6] [] G (fun r G => ∃ v, r = cI v ∧ inI v ∧ Q v G) := by
  unfold PX12_whereUsed_23 at h
  unfold vX12_whereUsed_23
  refine g_const (v := cI (-2)) rfl ?_
  exact g_ret1 (is_I _) ⟨_, rfl, ⟨by omega, by omega⟩, h⟩
def PX12_whereUsed_0 (a1 : Int) (a2 : Int) (a3 : Int) (G : gS) (Q : Int → gS → Prop) : Prop :=
  PX12_buildOf a1 a2 G (fun r2 G1 => ((r2 < 0 → PX12_whereUsed_23 a1 a2 a3 r2 G1 Q) ∧ (0 ≤ r2 → ((0 : Int) ≤ a1 ∧ ((a1 : Int) < 5 ∧ (inI (G1 5 a1) → ((G1 5 a1 = a2 → (isO W0 1 (r2) ∧ (((G1 r2 2 = -1 ∨ ∃ n, isA W0 4 n (G1 r2 2)) ∧ ∀ v, W0.2 r2 2 = some v → G1 r2 2 = v) → (((G1 r2 11 = -1 ∨ ∃ n, isA W0 0 n (G1 r2 11)) ∧ ∀ v, W0.2 r2 11 = some v → G1 r2 11 = v) → (∃ n12, isA W0 0 n12 (G1 r2 11) ∧ ((0 : Int) ≤ a3 ∧ ((a3 : Int) < n12 ∧ (inI (G1 (G1 r2 11) a3) → (∃ n17, isA W0 4 n17 (G1 r2 2) ∧ ((0 : Int) ≤ G1 (G1 r2 11) a3 ∧ ((G1 (G1 r2 11) a3 : Int) < n17 ∧ (((G1 (G1 r2 2) (G1 (G1 r2 11) a3) = -1 ∨ isO W0 10 (G1 (G1 r2 2) (G1 (G1 r2 11) a3))) ∧ ∀ v, W0.2 (G1 r2 2) (G1 (G1 r2 11) a3) = some v → G1 (G1 r2 2) (G1 (G1 r2 11) a3) = v) → (isO W0 10 (G1 (G1 r2 2) (G1 (G1 r2 11) a3)) ∧ (inL (G1 (G1 (G1 r2 2) (G1 (G1 r2 11) a3)) 1) → (isO W0 11 (821) ∧ PX11_find 821 (G1 (G1 (G1 r2 2) (G1 (G1 r2 11) a3)) 1) G1 (fun r26 G25 => inI r26 → ((r26 < 0 → PX12_whereUsed_80 a1 a2 a3 r2 (G1 (G1 r2 2) (G1 (G1 r2 11) a3)) r26 G25 Q) ∧ (¬ (r26 < 0) → (isO W0 11 (821) ∧ ((0 : Int) ≤ r26 ∧ ((r26 : Int) < 64 ∧ (((G25 (821 + 1) r26 = -1 ∨ isO W0 10 (G25 (821 + 1) r26)) ∧ ∀ v, W0.2 (821 + 1) r26 = some v → G25 (821 + 1) r26 = v) → ((-1 : Int) ≤ G25 (821 + 1) r26 ∧ ((-1 : Int) ≤ G1 (G1 r2 2) (G1 (G1 r2 11) a3) ∧ ((G25 (821 + 1) r26 = G1 (G1 r2 2) (G1 (G1 r2 11) a3) → PX12_whereUsed_82 a1 a2 a3 r2 (G1 (G1 r2 2) (G1 (G1 r2 11) a3)) r26 r26 G25 Q) ∧ (¬ (G25 (821 + 1) r26 = G1 (G1 r2 2) (G1 (G1 r2 11) a3)) → PX12_whereUsed_80 a1 a2 a3 r2 (G1 (G1 r2 2) (G1 (G1 r2 11) a3)) r26 G25 Q)))))))))))))))))))))))))) ∧ (¬ (G1 5 a1 = a2) → PX12_whereUsed_23 a1 a2 a3 r2 G1 Q))))))))
set_option maxRecDepth 20000 in
theorem TX12_whereUsed_0 {a1 : Int} {a2 : Int} {a3 : Int} {G : gS} {Q : Int → gS → Prop} (ha1 : inI a1) (ha2 : inI a2) (ha3 : inI a3) (h : PX12_whereUsed_0 a1 a2 a3 G Q) : Tg W0 vX12_whereUsed_0 [rf (0), cI (a1), cI (a2), cI (a3), 7, 7, 7] [] G (fun r G => ∃ v, r = cI v ∧ inI v ∧ Q v G) := by
  unfold PX12_whereUsed_0 at h
  unfold vX12_whereUsed_0
  refine g_ld (v := rf _) rfl (is_R _) ?_
  refine g_ld (v := cI _) rfl (is_I _) ?_
  refine g_ld (v := cI _) rfl (is_I _) ?_
  refine g_callV (As := [_, _]) (ci := 12) oC12 (fun _ => rfl) ?_
  refine g_go1 (Nat.le_of_ble_eq_true rfl) (Tn_w (TX12_buildOf ha1 ha2 h) fun _ G1 ⟨r2, e, h⟩ => ?_)
  subst e
  refine ⟨n7_R _, ?_⟩
  refine g_st (lv' := [_, _, _, _, _, _, _]) (is_R _) (Nat.le_of_ble_eq_true rfl) (Or.inr (n1_I _)) rfl ?_
  refine g_ld (v := rf _) rfl (is_R _) ?_
  refine g_nul (fun b4 => ?_) (fun b4 => ?_)
  · replace h := h.1 b4
    exact TX12_whereUsed_23 ha1 ha2 ha3 (show 7 % 8 ≠ 1 by decide) (show 7 % 8 ≠ 1 by decide) h
  · replace h := h.2 b4
    unfold vX12_whereUsed_13
    refine g_ld (v := rf _) rfl (is_R _) ?_
    refine g_getF (v := 5) oC12 (hC12_6) rfl (Nat.le_of_ble_eq_true rfl) (Nat.le_of_ble_eq_true rfl) ?_
    refine g_ld (v := cI _) rfl (is_I _) ?_
    obtain ⟨q5, q6, h⟩ := h
    refine g_aldI aC5 q5 q6 rfl fun i7 => ?_
    replace h := h i7
    refine g_ld (v := cI _) rfl (is_I _) ?_
    refine g_eq2 i7 ha2 (fun b8 => ?_) (fun b8 => ?_)
    · replace h := h.1 b8
      unfold vX12_whereUsed_26
      refine g_ld (v := rf _) rfl (is_R _) ?_
      obtain ⟨q9, h⟩ := h
      refine g_getAF (kz := 2) (c := 4) q9 rfl (Nat.le_of_ble_eq_true rfl) rfl fun i10 => ?_
      replace h := h i10
      refine g_ld (v := rf _) rfl (is_R _) ?_
      refine g_getAF (kz := 11) (c := 0) q9 rfl (Nat.le_of_ble_eq_true rfl) rfl fun i11 => ?_
      replace h := h i11
      refine g_ld (v := cI _) rfl (is_I _) ?_
      obtain ⟨n12, q13, h⟩ := h
      obtain ⟨q14, q15, h⟩ := h
      refine g_aldI q13 q14 q15 rfl fun i16 => ?_
      replace h := h i16
      obtain ⟨n17, q18, h⟩ := h
      obtain ⟨q19, q20, h⟩ := h
      refine g_aldRF (c := 10) q18 q19 q20 rfl (by decide) fun i21 => ?_
      replace h := h i21
      refine g_st (lv' := [_, _, _, _, _, _, _]) (is_R _) (Nat.le_of_ble_eq_true rfl) (Or.inr (n1_R _)) rfl ?_
      refine g_ld (v := rf _) rfl (is_R _) ?_
      refine g_getF (v := 821) oC12 (hC12_13) rfl (Nat.le_of_ble_eq_true rfl) (Nat.le_of_ble_eq_true rfl) ?_
      refine g_ld (v := rf _) rfl (is_R _) ?_
      obtain ⟨q22, h⟩ := h
      refine g_getL (kz := 1) q22 rfl (Nat.le_of_ble_eq_true rfl) rfl fun i23 => ?_
      replace h := h i23
      obtain ⟨q24, h⟩ := h
      refine g_callV (As := [_]) (ci := 11) q24 (fun _ => rfl) ?_
      refine g_go1 (Nat.le_of_ble_eq_true rfl) (Tn_w (TX11_find i23 h) fun _ G25 ⟨r26, e, i27, h⟩ => ?_)
      subst e
      refine ⟨n7_I _, ?_⟩
      replace h := h i27
      refine g_st (lv' := [_, _, _, _, _, _, _]) (is_I _) (Nat.le_of_ble_eq_true rfl) (Or.inr (n1_R _)) rfl ?_
      refine g_ld (v := cI _) rfl (is_I _) ?_
      refine g_lt1 i27 (fun b28 => ?_) (fun b28 => ?_)
      · replace h := h.1 b28
        exact TX12_whereUsed_80 ha1 ha2 ha3 i27 h
      · replace h := h.2 b28
        unfold vX12_whereUsed_60
        refine g_ld (v := rf _) rfl (is_R _) ?_
        refine g_getF (v := 821) oC12 (hC12_13) rfl (Nat.le_of_ble_eq_true rfl) (Nat.le_of_ble_eq_true rfl) ?_
        obtain ⟨q29, h⟩ := h
        refine g_getF q29 (ff11_1 q29).1 rfl (Nat.le_of_ble_eq_true rfl) (Nat.le_of_ble_eq_true rfl) ?_
        refine g_ld (v := cI _) rfl (is_I _) ?_
        obtain ⟨q30, q31, h⟩ := h
        refine g_aldRF (c := 10) (ff11_1 q29).2 q30 q31 rfl (by decide) fun i32 => ?_
        replace h := h i32
        refine g_ld (v := rf _) rfl (is_R _) ?_
        obtain ⟨q33, q34, h⟩ := h
        refine g_acmp q33 q34 (fun b35 => ?_) (fun b35 => ?_)
        · replace h := h.1 b35
          unfold vX12_whereUsed_75
          refine g_ld (v := cI _) rfl (is_I _) ?_
          exact TX12_whereUsed_82 ha1 ha2 ha3 i27 i27 h
        · replace h := h.2 b35
          exact TX12_whereUsed_80 ha1 ha2 ha3 i27 h
    · replace h := h.2 b8
      exact TX12_whereUsed_23 ha1 ha2 ha3 (show 7 % 8 ≠ 1 by decide) (show 7 % 8 ≠ 1 by decide) h
abbrev PX12_whereUsed (a1 : Int) (a2 : Int) (a3 : Int) (G : gS) (Q : Int → gS → Prop) : Prop := PX12_whereUsed_0 a1 a2 a3 G Q
theorem TX12_whereUsed {a1 : Int} {a2 : Int} {a3 : Int} {G : gS} {Q : Int → gS → Prop} (ha1 : inI a1) (ha2 : inI a2) (ha3 : inI a3) (h : PX12_whereUsed a1 a2 a3 G Q) : Tn W0 FX12_whereUsed [rf (0), cI (a1), cI (a2), cI (a3)] G (fun r G => ∃ v, r = cI v ∧ inI v ∧ Q v G) := by
  unfold FX12_whereUsed
  refine g_ent (lv' := [rf (0), cI (a1), cI (a2), cI (a3), 7, 7, 7]) (flR (flI (flI (flI fl0)))) (Nat.le_of_ble_eq_true rfl) rfl ?_
  exact TX12_whereUsed_0 ha1 ha2 ha3 h
end DE

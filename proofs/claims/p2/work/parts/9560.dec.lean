section DE
def PX10_field_60 (J : Nat → List Int → gS → (Int → gS → Prop) → Prop) (o : Int) (l1 : Int) (l3 : Int) (l5 : Int) (l6 : Int) (G : gS) (Q : Int → gS → Prop) : Prop :=
  (inI (l5 + 1) ∧ J 0 [o, l1, l3, l5 + 1] G Q)
set_option maxRecDepth 20000 in
theorem TX10_field_60 {j : Nat → rx_K} {J : Nat → List Int → gS → (Int → gS → Prop) → Prop} {o : Int} {l1 : Int} {l2 : Nat} {l3 : Int} {l4 : Nat} {l5 : Int} {l6 : Int} {G : gS} {Q : Int → gS → Prop} (hl1 : inL l1) (hl2 : l2 % 8 ≠ 1) (hl3 : inL l3) (hl4 : l4 % 8 ≠ 1) (hl5 : inI l5) (hj0 : ∀ (o : Int) (l1 : Int) (l2 : Nat) (l3 : Int) (l4 : Nat) (l5 : Int) (l6 : Nat) (G : gS), (inL l1) → (l2 % 8 ≠ 1) → (inL l3) → (l4 % 8 ≠ 1) → (inI l5) → (l6 % 8 ≠ 1) → J 0 [o, l1, l3, l5] G Q → Tg W0 (j 0) [rf (o), cL (l1), l2, cL (l3), l4, cI (l5), l6] [] G (fun r G => ∃ v, r = rf v ∧ Q v G)) (h : PX10_field_60 J o l1 l3 l5 l6 G Q) : Tg W0 (vX10_field_60 j) [rf (o), cL (l1), l2, cL (l3), l4, cI (l5), rf (l6)] [] G (fun r G => ∃ v, r = rf v ∧ Q v G) := by
  unfold PX10_field_60 at h
  unfold vX10_field_60
  refine g_inc (lv' := [rf (o), cL (l1), l2, cL (l3), l4, cI (l5 + 1), rf (l6)]) rfl (Nat.le_of_ble_eq_true rfl) (Or.inr hl4) rfl ?_
  obtain ⟨q15, h⟩ := h
  exact hj0 _ _ _ _ _ _ _ _ hl1 hl2 hl3 hl4 q15 (n1_R _) h
def PX10_field_57 (J : Nat → List Int → gS → (Int → gS → Prop) → Prop) (o : Int) (l1 : Int) (l3 : Int) (l5 : Int) (l6 : Int) (G : gS) (Q : Int → gS → Prop) : Prop :=
  Q (l6) G
set_option maxRecDepth 20000 in
theorem TX10_field_57 {j : Nat → rx_K} {J : Nat → List Int → gS → (Int → gS → Prop) → Prop} {o : Int} {l1 : Int} {l2 : Nat} {l3 : Int} {l4 : Nat} {l5 : Int} {l6 : Int} {G : gS} {Q : Int → gS → Prop} (hl1 : inL l1) (hl2 : l2 % 8 ≠ 1) (hl3 : inL l3) (hl4 : l4 % 8 ≠ 1) (hl5 : inI l5) (hj0 : ∀ (o : Int) (l1 : Int) (l2 : Nat) (l3 : Int) (l4 : Nat) (l5 : Int) (l6 : Nat) (G : gS), (inL l1) → (l2 % 8 ≠ 1) → (inL l3) → (l4 % 8 ≠ 1) → (inI l5) → (l6 % 8 ≠ 1) → J 0 [o, l1, l3, l5] G Q → Tg W0 (j 0) [rf (o), cL (l1), l2, cL (l3), l4, cI (l5), l6] [] G (fun r G => ∃ v, r = rf v ∧ Q v G)) (h : PX10_field_57 J o l1 l3 l5 l6 G Q) : Tg W0 (vX10_field_57 j) [rf (o), cL (l1), l2, cL (l3), l4, cI (l5), rf (l6)] [] G (fun r G => ∃ v, r = rf v ∧ Q v G) := by
  unfold PX10_field_57 at h
  unfold vX10_field_57
  refine g_ld rfl (is_R _) ?_
  exact g_ret1 (is_R _) ⟨_, rfl, h⟩
def PX10_field_3 (J : Nat → List Int → gS → (Int → gS → Prop) → Prop) (o : Int) (l1 : Int) (l3 : Int) (l5 : Int) (G : gS) (Q : Int → gS → Prop) : Prop :=
  (isO W0 10 (o) ∧ (inI (G o 15) → ((l5 < G o 15 → ((0 : Int) ≤ l5 ∧ ((l5 : Int) < 33 ∧ (((G (o + 4) l5 = -1 ∨ isO W0 7 (G (o + 4) l5)) ∧ ∀ v, W0.2 (o + 4) l5 = some v → G (o + 4) l5 = v) → (isO W0 7 (G (o + 4) l5) ∧ (inI (G (G (o + 4) l5) 0) → ((G (G (o + 4) l5) 0 = 0 → (inL (G (G (o + 4) l5) 7) → ((G (G (o + 4) l5) 7 = l1 → ((l3 = -4 → PX10_field_57 J o l1 l3 l5 (G (o + 4) l5) G Q) ∧ (¬ (l3 = -4) → (inL (G (G (o + 4) l5) 8) → ((G (G (o + 4) l5) 8 = l3 → PX10_field_57 J o l1 l3 l5 (G (o + 4) l5) G Q) ∧ (¬ (G (G (o + 4) l5) 8 = l3) → PX10_field_60 J o l1 l3 l5 (G (o + 4) l5) G Q)))))) ∧ (¬ (G (G (o + 4) l5) 7 = l1) → PX10_field_60 J o l1 l3 l5 (G (o + 4) l5) G Q)))) ∧ (¬ (G (G (o + 4) l5) 0 = 0) → PX10_field_60 J o l1 l3 l5 (G (o + 4) l5) G Q)))))))) ∧ (¬ (l5 < G o 15) → Q (-1) G))))
set_option maxRecDepth 20000 in
theorem TX10_field_3 {j : Nat → rx_K} {J : Nat → List Int → gS → (Int → gS → Prop) → Prop} {o : Int} {l1 : Int} {l2 : Nat} {l3 : Int} {l4 : Nat} {l5 : Int} {l6 : Nat} {G : gS} {Q : Int → gS → Prop} (hl1 : inL l1) (hl2 : l2 % 8 ≠ 1) (hl3 : inL l3) (hl4 : l4 % 8 ≠ 1) (hl5 : inI l5) (hl6 : l6 % 8 ≠ 1) (hj0 : ∀ (o : Int) (l1 : Int) (l2 : Nat) (l3 : Int) (l4 : Nat) (l5 : Int) (l6 : Nat) (G : gS), (inL l1) → (l2 % 8 ≠ 1) → (inL l3) → (l4 % 8 ≠ 1) → (inI l5) → (l6 % 8 ≠ 1) → J 0 [o, l1, l3, l5] G Q → Tg W0 (j 0) [rf (o), cL (l1), l2, cL (l3), l4, cI (l5), l6] [] G (fun r G => ∃ v, r = rf v ∧ Q v G)) (h : PX10_field_3 J o l1 l3 l5 G Q) : Tg W0 (vX10_field_3 j) [rf (o), cL (l1), l2, cL (l3), l4, cI (l5), l6] [] G (fun r G => ∃ v, r = rf v ∧ Q v G) := by
  unfold PX10_field_3 at h
  unfold vX10_field_3
  refine g_ld rfl (is_I _) ?_
  refine g_ld rfl (is_R _) ?_
  obtain ⟨q1, h⟩ := h
  refine g_getI (kz := 15) q1 rfl (Nat.le_of_ble_eq_true rfl) rfl fun i2 => ?_
  replace h := h i2
  refine g_lt2 hl5 i2 (fun b3 => ?_) (fun b3 => ?_)
  · replace h := h.1 b3
    unfold vX10_field_12
    refine g_ld rfl (is_R _) ?_
    refine g_getF q1 (ff10_14 q1).1 rfl (Nat.le_of_ble_eq_true rfl) (Nat.le_of_ble_eq_true rfl) ?_
    refine g_ld rfl (is_I _) ?_
    obtain ⟨q4, q5, h⟩ := h
    refine g_aldRF (c := 7) (ff10_14 q1).2 q4 q5 rfl (by decide) fun i6 => ?_
    replace h := h i6
    refine g_st (lv' := [rf (o), cL (l1), l2, cL (l3), l4, cI (l5), rf (G (o + 4) l5)]) (is_R _) (Nat.le_of_ble_eq_true rfl) (Or.inr (n1_I _)) rfl ?_
    refine g_ld rfl (is_R _) ?_
    obtain ⟨q7, h⟩ := h
    refine g_getI (kz := 0) q7 rfl (Nat.le_of_ble_eq_true rfl) rfl fun i8 => ?_
    replace h := h i8
    refine g_eq1 i8 (fun b9 => ?_) (fun b9 => ?_)
    · replace h := h.1 b9
      unfold vX10_field_29
      refine g_ld rfl (is_R _) ?_
      refine g_getL (kz := 7) q7 rfl (Nat.le_of_ble_eq_true rfl) rfl fun i10 => ?_
      replace h := h i10
      refine g_ld rfl (is_L _) ?_
      refine g_leq i10 hl1 (fun b11 => ?_) (fun b11 => ?_)
      · replace h := h.1 b11
        unfold vX10_field_39
        refine g_ld rfl (is_L _) ?_
        refine g_const (v := cL (-4)) rfl ?_
        refine g_leq hl3 ⟨by omega, by omega⟩ (fun b12 => ?_) (fun b12 => ?_)
        · replace h := h.1 b12
          exact TX10_field_57 hl1 hl2 hl3 hl4 hl5 hj0 h
        · replace h := h.2 b12
          unfold vX10_field_47
          refine g_ld rfl (is_R _) ?_
          refine g_getL (kz := 8) q7 rfl (Nat.le_of_ble_eq_true rfl) rfl fun i13 => ?_
          replace h := h i13
          refine g_ld rfl (is_L _) ?_
          refine g_leq i13 hl3 (fun b14 => ?_) (fun b14 => ?_)
          · replace h := h.1 b14
            exact TX10_field_57 hl1 hl2 hl3 hl4 hl5 hj0 h
          · replace h := h.2 b14
            exact TX10_field_60 hl1 hl2 hl3 hl4 hl5 hj0 h
      · replace h := h.2 b11
        exact TX10_field_60 hl1 hl2 hl3 hl4 hl5 hj0 h
    · replace h := h.2 b9
      exact TX10_field_60 hl1 hl2 hl3 hl4 hl5 hj0 h
  · replace h := h.2 b3
    unfold vX10_field_66
    refine g_const (v := rf (-1)) rfl ?_
    exact g_ret1 (is_R _) ⟨_, rfl, h⟩
def PX10_field_0 (J : Nat → List Int → gS → (Int → gS → Prop) → Prop) (o : Int) (a1 : Int) (a3 : Int) (G : gS) (Q : Int → gS → Prop) : Prop :=
  PX10_field_3 J o a1 a3 0 G Q
set_option maxRecDepth 20000 in
theorem TX10_field_0 {j : Nat → rx_K} {J : Nat → List Int → gS → (Int → gS → Prop) → Prop} {o : Int} {a1 : Int} {a3 : Int} {G : gS} {Q : Int → gS → Prop} (ha1 : inL a1) (ha3 : inL a3) (hj0 : ∀ (o : Int) (l1 : Int) (l2 : Nat) (l3 : Int) (l4 : Nat) (l5 : Int) (l6 : Nat) (G : gS), (inL l1) → (l2 % 8 ≠ 1) → (inL l3) → (l4 % 8 ≠ 1) → (inI l5) → (l6 % 8 ≠ 1) → J 0 [o, l1, l3, l5] G Q → Tg W0 (j 0) [rf (o), cL (l1), l2, cL (l3), l4, cI (l5), l6] [] G (fun r G => ∃ v, r = rf v ∧ Q v G)) (h : PX10_field_0 J o a1 a3 G Q) : Tg W0 (vX10_field_0 j) [rf (o), cL (a1), 7, cL (a3), 7, 7, 7] [] G (fun r G => ∃ v, r = rf v ∧ Q v G) := by
  unfold PX10_field_0 at h
  unfold vX10_field_0
  refine g_const (v := cI (0)) rfl ?_
  refine g_st (lv' := [rf (o), cL (a1), 7, cL (a3), 7, cI (0), 7]) (is_I _) (Nat.le_of_ble_eq_true rfl) (Or.inr (show 7 % 8 ≠ 1 by decide)) rfl ?_
  exact TX10_field_3 ha1 (show 7 % 8 ≠ 1 by decide) ha3 (show 7 % 8 ≠ 1 by decide) ⟨by omega, by omega⟩ (show 7 % 8 ≠ 1 by decide) hj0 h
def PX10_field_J : Nat → Nat → List Int → gS → (Int → gS → Prop) → Prop
  | 0, _, _, _, _ => False
  | f + 1, h, L, G, Q => match h, L with
    | 0, [o, l1, l3, l5] => PX10_field_3 (PX10_field_J f) o l1 l3 l5 G Q
    | _, _ => False
theorem TX10_field_J {Q : Int → gS → Prop} : ∀ f N : Nat, f ≤ N → (∀ (o : Int) (l1 : Int) (l2 : Nat) (l3 : Int) (l4 : Nat) (l5 : Int) (l6 : Nat) (G : gS), (inL l1) → (l2 % 8 ≠ 1) → (inL l3) → (l4 % 8 ≠ 1) → (inI l5) → (l6 % 8 ≠ 1) → (PX10_field_J f) 0 [o, l1, l3, l5] G Q → Tg W0 (rx_J vhX10_field N 0) [rf (o), cL (l1), l2, cL (l3), l4, cI (l5), l6] [] G (fun r G => ∃ v, r = rf v ∧ Q v G)) := by
  intro f
  induction f with
  | zero => exact fun N _ => fun _ _ _ _ _ _ _ _ _ _ _ _ _ _ h => h.elim
  | succ f ih =>
    intro N hN
    obtain ⟨M, rfl⟩ : ∃ M, N = M + 1 := ⟨N - 1, by omega⟩
    have ih := ih M (by omega)
    exact fun _ _ _ _ _ _ _ _ hl1 hl2 hl3 hl4 hl5 hl6 h => show Tg W0 (vX10_field_3 (rx_J vhX10_field M)) _ _ _ _ from TX10_field_3 hl1 hl2 hl3 hl4 hl5 hl6 ih h
def PX10_field (o : Int) (a1 : Int) (a3 : Int) (G : gS) (Q : Int → gS → Prop) : Prop := ∃ f : Nat, f ≤ 4000000000 ∧ PX10_field_0 (PX10_field_J f) o a1 a3 G Q
theorem TX10_field {o : Int} {a1 : Int} {a3 : Int} {G : gS} {Q : Int → gS → Prop} (ha1 : inL a1) (ha3 : inL a3) (h : PX10_field o a1 a3 G Q) : Tn W0 FX10_field [rf (o), cL (a1), cL (a3)] G (fun r G => ∃ v, r = rf v ∧ Q v G) := by
  obtain ⟨f, hf, h⟩ := h
  have hJ := TX10_field_J (Q := Q) f 4000000000 hf
  unfold FX10_field
  refine g_ent (lv' := [rf (o), cL (a1), 7, cL (a3), 7, 7, 7]) (flR (flL (flL fl0))) (Nat.le_of_ble_eq_true rfl) rfl ?_
  exact TX10_field_0 ha1 ha3 hJ h
def PX11_find_58 (J : Nat → List Int → gS → (Int → gS → Prop) → Prop) (o : Int) (l1 : Int) (l3 : Int) (s0 : Int) (G : gS) (Q : Int → gS → Prop) : Prop :=
  Q (s0) G
set_option maxRecDepth 20000 in
theorem TX11_find_58 {j : Nat → rx_K} {J : Nat → List Int → gS → (Int → gS → Prop) → Prop} {o : Int} {l1 : Int} {l2 : Nat} {l3 : Int} {s0 : Int} {G : gS} {Q : Int → gS → Prop} (hl1 : inL l1) (hl2 : l2 % 8 ≠ 1) (hl3 : inI l3) (hs0 : inI s0) (hj0 : ∀ (o : Int) (l1 : Int) (l2 : Nat) (l3 : Int) (G : gS), (inL l1) → (l2 % 8 ≠ 1) → (inI l3) → J 0 [o, l1, l3] G Q → Tg W0 (j 0) [rf (o), cL (l1), l2, cI (l3)] [] G (fun r G => ∃ v, r = cI v ∧ inI v ∧ Q v G)) (h : PX11_find_58 J o l1 l3 s0 G Q) : Tg W0 (vX11_find_58 j) [rf (o), cL (l1), l2, cI (l3)] [cI (s0)] G (fun r G => ∃ v, r = cI v ∧ inI v ∧ Q v G) := by
  unfold PX11_find_58 at h
  unfold vX11_find_58
  exact g_ret1 (is_I _) ⟨_, rfl, hs0, h⟩
def PX11_find_2 (J : Nat → List Int → gS → (Int → gS → Prop) → Prop) (o : Int) (l1 : Int) (l3 : Int) (G : gS) (Q : Int → gS → Prop) : Prop :=
  (isO W0 11 (o) ∧ (inI (G o 2) → ((l3 < G o 2 → ((0 : Int) ≤ l3 ∧ ((l3 : Int) < 64 ∧ (((G (o + 1) l3 = -1 ∨ isO W0 10 (G (o + 1) l3)) ∧ ∀ v, W0.2 (o + 1) l3 = some v → G (o + 1) l3 = v) → (isO W0 10 (G (o + 1) l3) ∧ (inL (G (G (o + 1) l3) 1) → ((G (G (o + 1) l3) 1 = l1 → Q (l3) G) ∧ (¬ (G (G (o + 1) l3) 1 = l1) → (inI (l3 + 1) ∧ J 0 [o, l1, l3 + 1] G Q))))))))) ∧ (¬ (l3 < G o 2) → ((l1 = -4031174665287237632 → PX11_find_58 J o l1 l3 0 G Q) ∧ (¬ (l1 = -4031174665287237632) → ((l1 = -3887679601769447424 → PX11_find_58 J o l1 l3 1 G Q) ∧ (¬ (l1 = -3887679601769447424) → PX11_find_58 J o l1 l3 (-2) G Q))))))))
set_option maxRecDepth 20000 in
theorem TX11_find_2 {j : Nat → rx_K} {J : Nat → List Int → gS → (Int → gS → Prop) → Prop} {o : Int} {l1 : Int} {l2 : Nat} {l3 : Int} {G : gS} {Q : Int → gS → Prop} (hl1 : inL l1) (hl2 : l2 % 8 ≠ 1) (hl3 : inI l3) (hj0 : ∀ (o : Int) (l1 : Int) (l2 : Nat) (l3 : Int) (G : gS), (inL l1) → (l2 % 8 ≠ 1) → (inI l3) → J 0 [o, l1, l3] G Q → Tg W0 (j 0) [rf (o), cL (l1), l2, cI (l3)] [] G (fun r G => ∃ v, r = cI v ∧ inI v ∧ Q v G)) (h : PX11_find_2 J o l1 l3 G Q) : Tg W0 (vX11_find_2 j) [rf (o), cL (l1), l2, cI (l3)] [] G (fun r G => ∃ v, r = cI v ∧ inI v ∧ Q v G) := by
  unfold PX11_find_2 at h
  unfold vX11_find_2
  refine g_ld rfl (is_I _) ?_
  refine g_ld rfl (is_R _) ?_
  obtain ⟨q1, h⟩ := h
  refine g_getI (kz := 2) q1 rfl (Nat.le_of_ble_eq_true rfl) rfl fun i2 => ?_
  replace h := h i2
  refine g_lt2 hl3 i2 (fun b3 => ?_) (fun b3 => ?_)
  · replace h := h.1 b3
    unfold vX11_find_10
    refine g_ld rfl (is_R _) ?_
    refine g_getF q1 (ff11_1 q1).1 rfl (Nat.le_of_ble_eq_true rfl) (Nat.le_of_ble_eq_true rfl) ?_
    refine g_ld rfl (is_I _) ?_
    obtain ⟨q4, q5, h⟩ := h
    refine g_aldRF (c := 10) (ff11_1 q1).2 q4 q5 rfl (by decide) fun i6 => ?_
    replace h := h i6
    obtain ⟨q7, h⟩ := h
    refine g_getL (kz := 1) q7 rfl (Nat.le_of_ble_eq_true rfl) rfl fun i8 => ?_
    replace h := h i8
    refine g_ld rfl (is_L _) ?_
    refine g_leq i8 hl1 (fun b9 => ?_) (fun b9 => ?_)
    · replace h := h.1 b9
      unfold vX11_find_24
      refine g_ld rfl (is_I _) ?_
      exact g_ret1 (is_I _) ⟨_, rfl, hl3, h⟩
    · replace h := h.2 b9
      unfold vX11_find_26
      refine g_inc (lv' := [rf (o), cL (l1), l2, cI (l3 + 1)]) rfl (Nat.le_of_ble_eq_true rfl) (Or.inr hl2) rfl ?_
      obtain ⟨q10, h⟩ := h
      exact hj0 _ _ _ _ _ hl1 hl2 q10 h
  · replace h := h.2 b3
    unfold vX11_find_32
    refine g_ld rfl (is_L _) ?_
    refine g_const (v := cL (-4031174665287237632)) rfl ?_
    refine g_leq hl1 ⟨by omega, by omega⟩ (fun b11 => ?_) (fun b11 => ?_)
    · replace h := h.1 b11
      unfold vX11_find_40
      refine g_const (v := cI (0)) rfl ?_
      exact TX11_find_58 hl1 hl2 hl3 ⟨by omega, by omega⟩ hj0 h
    · replace h := h.2 b11
      unfold vX11_find_44
      refine g_ld rfl (is_L _) ?_
      refine g_const (v := cL (-3887679601769447424)) rfl ?_
      refine g_leq hl1 ⟨by omega, by omega⟩ (fun b12 => ?_) (fun b12 => ?_)
      · replace h := h.1 b12
        unfold vX11_find_52
        refine g_const (v := cI (1)) rfl ?_
        exact TX11_find_58 hl1 hl2 hl3 ⟨by omega, by omega⟩ hj0 h
      · replace h := h.2 b12
        unfold vX11_find_56
        refine g_const (v := cI (-2)) rfl ?_
        exact TX11_find_58 hl1 hl2 hl3 ⟨by omega, by omega⟩ hj0 h
def PX11_find_0 (J : Nat → List Int → gS → (Int → gS → Prop) → Prop) (o : Int) (a1 : Int) (G : gS) (Q : Int → gS → Prop) : Prop :=
  PX11_find_2 J o a1 2 G Q
set_option maxRecDepth 20000 in
theorem TX11_find_0 {j : Nat → rx_K} {J : Nat → List Int → gS → (Int → gS → Prop) → Prop} {o : Int} {a1 : Int} {G : gS} {Q : Int → gS → Prop} (ha1 : inL a1) (hj0 : ∀ (o : Int) (l1 : Int) (l2 : Nat) (l3 : Int) (G : gS), (inL l1) → (l2 % 8 ≠ 1) → (inI l3) → J 0 [o, l1, l3] G Q → Tg W0 (j 0) [rf (o), cL (l1), l2, cI (l3)] [] G (fun r G => ∃ v, r = cI v ∧ inI v ∧ Q v G)) (h : PX11_find_0 J o a1 G Q) : Tg W0 (vX11_find_0 j) [rf (o), cL (a1), 7, 7] [] G (fun r G => ∃ v, r = cI v ∧ inI v ∧ Q v G) := by
  unfold PX11_find_0 at h
  unfold vX11_find_0
  refine g_const (v := cI (2)) rfl ?_
  refine g_st (lv' := [rf (o), cL (a1), 7, cI (2)]) (is_I _) (Nat.le_of_ble_eq_true rfl) (Or.inr (show 7 % 8 ≠ 1 by decide)) rfl ?_
  exact TX11_find_2 ha1 (show 7 % 8 ≠ 1 by decide) ⟨by omega, by omega⟩ hj0 h
def PX11_find_J : Nat → Nat → List Int → gS → (Int → gS → Prop) → Prop
  | 0, _, _, _, _ => False
  | f + 1, h, L, G, Q => match h, L with
    | 0, [o, l1, l3] => PX11_find_2 (PX11_find_J f) o l1 l3 G Q
    | _, _ => False
theorem TX11_find_J {Q : Int → gS → Prop} : ∀ f N : Nat, f ≤ N → (∀ (o : Int) (l1 : Int) (l2 : Nat) (l3 : Int) (G : gS), (inL l1) → (l2 % 8 ≠ 1) → (inI l3) → (PX11_find_J f) 0 [o, l1, l3] G Q → Tg W0 (rx_J vhX11_find N 0) [rf (o), cL (l1), l2, cI (l3)] [] G (fun r G => ∃ v, r = cI v ∧ inI v ∧ Q v G)) := by
  intro f
  induction f with
  | zero => exact fun N _ => fun _ _ _ _ _ _ _ _ h => h.elim
  | succ f ih =>
    intro N hN
    obtain ⟨M, rfl⟩ : ∃ M, N = M + 1 := ⟨N - 1, by omega⟩
    have ih := ih M (by omega)
    exact fun _ _ _ _ _ hl1 hl2 hl3 h => show Tg W0 (vX11_find_2 (rx_J vhX11_find M)) _ _ _ _ from TX11_find_2 hl1 hl2 hl3 ih h
def PX11_find (o : Int) (a1 : Int) (G : gS) (Q : Int → gS → Prop) : Prop := ∃ f : Nat, f ≤ 4000000000 ∧ PX11_find_0 (PX11_find_J f) o a1 G Q
theorem TX11_find {o : Int} {a1 : Int} {G : gS} {Q : Int → gS → Prop} (ha1 : inL a1) (h : PX11_find o a1 G Q) : Tn W0 FX11_find [rf (o), cL (a1)] G (fun r G => ∃ v, r = cI v ∧ inI v ∧ Q v G) := by
  obtain ⟨f, hf, h⟩ := h
  have hJ := TX11_find_J (Q := Q) f 4000000000 hf
  unfold FX11_find
  refine g_ent (lv' := [rf (o), cL (a1), 7, 7]) (flR (flL fl0)) (Nat.le_of_ble_eq_true rfl) rfl ?_
  exact TX11_find_0 ha1 hJ h
def PX10_has_3 (J : Nat → List Int → gS → (Int → gS → Prop) → Prop) (o : Int) (l1 : Int) (l2 : Int) (l4 : Int) (G : gS) (Q : Int → gS → Prop) : Prop :=
  (isO W0 10 (o) ∧ ((0 : Int) ≤ l1 ∧ ((l1 : Int) < 3 ∧ (inI (G (o + 2) l1) → ((l4 < G (o + 2) l1 → ((0 : Int) ≤ (l1 * 8) + l4 ∧ (((l1 * 8) + l4 : Int) < 24 ∧ (inL (G (o + 1) ((l1 * 8) + l4)) → ((G (o + 1) ((l1 * 8) + l4) = l2 → Q (1) G) ∧ (¬ (G (o + 1) ((l1 * 8) + l4) = l2) → (inI (l4 + 1) ∧ J 0 [o, l1, l2, l4 + 1] G Q))))))) ∧ (¬ (l4 < G (o + 2) l1) → Q (0) G))))))
set_option maxRecDepth 20000 in
theorem TX10_has_3 {j : Nat → rx_K} {J : Nat → List Int → gS → (Int → gS → Prop) → Prop} {o : Int} {l1 : Int} {l2 : Int} {l3 : Nat} {l4 : Int} {G : gS} {Q : Int → gS → Prop} (hl1 : inI l1) (hl2 : inL l2) (hl3 : l3 % 8 ≠ 1) (hl4 : inI l4) (hj0 : ∀ (o : Int) (l1 : Int) (l2 : Int) (l3 : Nat) (l4 : Int) (G : gS), (inI l1) → (inL l2) → (l3 % 8 ≠ 1) → (inI l4) → J 0 [o, l1, l2, l4] G Q → Tg W0 (j 0) [rf (o), cI (l1), cL (l2), l3, cI (l4)] [] G (fun r G => ∃ v, r = cI v ∧ (0 ≤ v ∧ v ≤ 1) ∧ Q v G)) (h : PX10_has_3 J o l1 l2 l4 G Q) : Tg W0 (vX10_has_3 j) [rf (o), cI (l1), cL (l2), l3, cI (l4)] [] G (fun r G => ∃ v, r = cI v ∧ (0 ≤ v ∧ v ≤ 1) ∧ Q v G) := by
  unfold PX10_has_3 at h
  unfold vX10_has_3
  refine g_ld rfl (is_I _) ?_
  refine g_ld rfl (is_R _) ?_
  obtain ⟨q1, h⟩ := h
  refine g_getF q1 (ff10_11 q1).1 rfl (Nat.le_of_ble_eq_true rfl) (Nat.le_of_ble_eq_true rfl) ?_
  refine g_ld rfl (is_I _) ?_
  obtain ⟨q2, q3, h⟩ := h
  refine g_aldI (ff10_11 q1).2 q2 q3 rfl fun i4 => ?_
  replace h := h i4
  refine g_lt2 hl4 i4 (fun b5 => ?_) (fun b5 => ?_)
  · replace h := h.1 b5
    unfold vX10_has_14
    refine g_ld rfl (is_R _) ?_
    refine g_getF q1 (ff10_10 q1).1 rfl (Nat.le_of_ble_eq_true rfl) (Nat.le_of_ble_eq_true rfl) ?_
    refine g_ld rfl (is_I _) ?_
    refine g_const (v := cI (8)) rfl ?_
    refine g_mul ?_
    refine g_ld rfl (is_I _) ?_
    refine g_add ?_
    obtain ⟨q6, q7, h⟩ := h
    refine g_aldL (ff10_10 q1).2 q6 q7 rfl fun i8 => ?_
    replace h := h i8
    refine g_ld rfl (is_L _) ?_
    refine g_leq i8 hl2 (fun b9 => ?_) (fun b9 => ?_)
    · replace h := h.1 b9
      unfold vX10_has_31
      refine g_const (v := cI (1)) rfl ?_
      exact g_ret1 (is_Z (by omega)) ⟨_, rfl, (by omega), h⟩
    · replace h := h.2 b9
      unfold vX10_has_33
      refine g_inc (lv' := [rf (o), cI (l1), cL (l2), l3, cI (l4 + 1)]) rfl (Nat.le_of_ble_eq_true rfl) (Or.inr hl3) rfl ?_
      obtain ⟨q10, h⟩ := h
      exact hj0 _ _ _ _ _ _ hl1 hl2 hl3 q10 h
  · replace h := h.2 b5
    unfold vX10_has_39
    refine g_const (v := cI (0)) rfl ?_
    exact g_ret1 (is_Z (by omega)) ⟨_, rfl, (by omega), h⟩
def PX10_has_0 (J : Nat → List Int → gS → (Int → gS → Prop) → Prop) (o : Int) (a1 : Int) (a2 : Int) (G : gS) (Q : Int → gS → Prop) : Prop :=
  PX10_has_3 J o a1 a2 0 G Q
set_option maxRecDepth 20000 in
theorem TX10_has_0 {j : Nat → rx_K} {J : Nat → List Int → gS → (Int → gS → Prop) → Prop} {o : Int} {a1 : Int} {a2 : Int} {G : gS} {Q : Int → gS → Prop} (ha1 : inI a1) (ha2 : inL a2) (hj0 : ∀ (o : Int) (l1 : Int) (l2 : Int) (l3 : Nat) (l4 : Int) (G : gS), (inI l1) → (inL l2) → (l3 % 8 ≠ 1) → (inI l4) → J 0 [o, l1, l2, l4] G Q → Tg W0 (j 0) [rf (o), cI (l1), cL (l2), l3, cI (l4)] [] G (fun r G => ∃ v, r = cI v ∧ (0 ≤ v ∧ v ≤ 1) ∧ Q v G)) (h : PX10_has_0 J o a1 a2 G Q) : Tg W0 (vX10_has_0 j) [rf (o), cI (a1), cL (a2), 7, 7] [] G (fun r G => ∃ v, r = cI v ∧ (0 ≤ v ∧ v ≤ 1) ∧ Q v G) := by
  unfold PX10_has_0 at h
  unfold vX10_has_0
  refine g_const (v := cI (0)) rfl ?_
  refine g_st (lv' := [rf (o), cI (a1), cL (a2), 7, cI (0)]) (is_I _) (Nat.le_of_ble_eq_true rfl) (Or.inr (show 7 % 8 ≠ 1 by decide)) rfl ?_
  exact TX10_has_3 ha1 ha2 (show 7 % 8 ≠ 1 by decide) ⟨by omega, by omega⟩ hj0 h
def PX10_has_J : Nat → Nat → List Int → gS → (Int → gS → Prop) → Prop
  | 0, _, _, _, _ => False
  | f + 1, h, L, G, Q => match h, L with
    | 0, [o, l1, l2, l4] => PX10_has_3 (PX10_has_J f) o l1 l2 l4 G Q
    | _, _ => False
theorem TX10_has_J {Q : Int → gS → Prop} : ∀ f N : Nat, f ≤ N → (∀ (o : Int) (l1 : Int) (l2 : Int) (l3 : Nat) (l4 : Int) (G : gS), (inI l1) → (inL l2) → (l3 % 8 ≠ 1) → (inI l4) → (PX10_has_J f) 0 [o, l1, l2, l4] G Q → Tg W0 (rx_J vhX10_has N 0) [rf (o), cI (l1), cL (l2), l3, cI (l4)] [] G (fun r G => ∃ v, r = cI v ∧ (0 ≤ v ∧ v ≤ 1) ∧ Q v G)) := by
  intro f
  induction f with
  | zero => exact fun N _ => fun _ _ _ _ _ _ _ _ _ _ h => h.elim
  | succ f ih =>
    intro N hN
    obtain ⟨M, rfl⟩ : ∃ M, N = M + 1 := ⟨N - 1, by omega⟩
    have ih := ih M (by omega)
    exact fun _ _ _ _ _ _ hl1 hl2 hl3 hl4 h => show Tg W0 (vX10_has_3 (rx_J vhX10_has M)) _ _ _ _ from TX10_has_3 hl1 hl2 hl3 hl4 ih h
def PX10_has (o : Int) (a1 : Int) (a2 : Int) (G : gS) (Q : Int → gS → Prop) : Prop := ∃ f : Nat, f ≤ 4000000000 ∧ PX10_has_0 (PX10_has_J f) o a1 a2 G Q
theorem TX10_has {o : Int} {a1 : Int} {a2 : Int} {G : gS} {Q : Int → gS → Prop} (ha1 : inI a1) (ha2 : inL a2) (h : PX10_has o a1 a2 G Q) : Tn W0 FX10_has [rf (o), cI (a1), cL (a2)] G (fun r G => ∃ v, r = cI v ∧ (0 ≤ v ∧ v ≤ 1) ∧ Q v G) := by
  obtain ⟨f, hf, h⟩ := h
  have hJ := TX10_has_J (Q := Q) f 4000000000 hf
  unfold FX10_has
  refine g_ent (lv' := [rf (o), cI (a1), cL (a2), 7, 7]) (flR (flI (flL fl0))) (Nat.le_of_ble_eq_true rfl) rfl ?_
  exact TX10_has_0 ha1 ha2 hJ h
def PX10_bridges_30 (J : Nat → List Int → gS → (Int → gS → Prop) → Prop) (o : Int) (l1 : Int) (l2 : Int) (s0 : Int) (s1 : Int) (G : gS) (Q : Int → gS → Prop) : Prop :=
  (inI (s0 + s1) ∧ (inI (l2 + 1) ∧ J 0 [o, s0 + s1, l2 + 1] G Q))
set_option maxRecDepth 20000 in
theorem TX10_bridges_30 {j : Nat → rx_K} {J : Nat → List Int → gS → (Int → gS → Prop) → Prop} {o : Int} {l1 : Int} {l2 : Int} {s0 : Int} {s1 : Int} {G : gS} {Q : Int → gS → Prop} (hl1 : inI l1) (hl2 : inI l2) (hs0 : inI s0) (hs1 : inI s1) (hj0 : ∀ (o : Int) (l1 : Int) (l2 : Int) (G : gS), (inI l1) → (inI l2) → J 0 [o, l1, l2] G Q → Tg W0 (j 0) [rf (o), cI (l1), cI (l2)] [] G (fun r G => ∃ v, r = cI v ∧ inI v ∧ Q v G)) (h : PX10_bridges_30 J o l1 l2 s0 s1 G Q) : Tg W0 (vX10_bridges_30 j) [rf (o), cI (l1), cI (l2)] [cI (s1), cI (s0)] G (fun r G => ∃ v, r = cI v ∧ inI v ∧ Q v G) := by
  unfold PX10_bridges_30 at h
  unfold vX10_bridges_30
  refine g_add ?_
  refine g_st (lv' := [rf (o), cI (s0 + s1), cI (l2)]) (is_I _) (Nat.le_of_ble_eq_true rfl) (Or.inr (n1_R _)) rfl ?_
  obtain ⟨q10, h⟩ := h
  refine g_inc (lv' := [rf (o), cI (s0 + s1), cI (l2 + 1)]) rfl (Nat.le_of_ble_eq_true rfl) (Or.inr (n1_I _)) rfl ?_
  obtain ⟨q11, h⟩ := h
  exact hj0 _ _ _ _ q10 q11 h
def PX10_bridges_4 (J : Nat → List Int → gS → (Int → gS → Prop) → Prop) (o : Int) (l1 : Int) (l2 : Int) (G : gS) (Q : Int → gS → Prop) : Prop :=
  (isO W0 10 (o) ∧ (inI (G o 15) → ((l2 < G o 15 → ((0 : Int) ≤ l2 ∧ ((l2 : Int) < 33 ∧ (((G (o + 4) l2 = -1 ∨ isO W0 7 (G (o + 4) l2)) ∧ ∀ v, W0.2 (o + 4) l2 = some v → G (o + 4) l2 = v) → (isO W0 7 (G (o + 4) l2) ∧ ((0 ≤ G (G (o + 4) l2) 5 ∧ G (G (o + 4) l2) 5 ≤ 1) → ((G (G (o + 4) l2) 5 = 0 → PX10_bridges_30 J o l1 l2 l1 0 G Q) ∧ (¬ (G (G (o + 4) l2) 5 = 0) → PX10_bridges_30 J o l1 l2 l1 1 G Q)))))))) ∧ (¬ (l2 < G o 15) → Q (l1) G))))
set_option maxRecDepth 20000 in
theorem TX10_bridges_4 {j : Nat → rx_K} {J : Nat → List Int → gS → (Int → gS → Prop) → Prop} {o : Int} {l1 : Int} {l2 : Int} {G : gS} {Q : Int → gS → Prop} (hl1 : inI l1) (hl2 : inI l2) (hj0 : ∀ (o : Int) (l1 : Int) (l2 : Int) (G : gS), (inI l1) → (inI l2) → J 0 [o, l1, l2] G Q → Tg W0 (j 0) [rf (o), cI (l1), cI (l2)] [] G (fun r G => ∃ v, r = cI v ∧ inI v ∧ Q v G)) (h : PX10_bridges_4 J o l1 l2 G Q) : Tg W0 (vX10_bridges_4 j) [rf (o), cI (l1), cI (l2)] [] G (fun r G => ∃ v, r = cI v ∧ inI v ∧ Q v G) := by
  unfold PX10_bridges_4 at h
  unfold vX10_bridges_4
  refine g_ld rfl (is_I _) ?_
  refine g_ld rfl (is_R _) ?_
  obtain ⟨q1, h⟩ := h
  refine g_getI (kz := 15) q1 rfl (Nat.le_of_ble_eq_true rfl) rfl fun i2 => ?_
  replace h := h i2
  refine g_lt2 hl2 i2 (fun b3 => ?_) (fun b3 => ?_)
  · replace h := h.1 b3
    unfold vX10_bridges_12
    refine g_ld rfl (is_I _) ?_
    refine g_ld rfl (is_R _) ?_
    refine g_getF q1 (ff10_14 q1).1 rfl (Nat.le_of_ble_eq_true rfl) (Nat.le_of_ble_eq_true rfl) ?_
    refine g_ld rfl (is_I _) ?_
    obtain ⟨q4, q5, h⟩ := h
    refine g_aldRF (c := 7) (ff10_14 q1).2 q4 q5 rfl (by decide) fun i6 => ?_
    replace h := h i6
    obtain ⟨q7, h⟩ := h
    refine g_getZ (kz := 5) q7 rfl (Nat.le_of_ble_eq_true rfl) rfl fun i8 => ?_
    replace h := h i8
    refine g_eq1 ⟨by omega, by omega⟩ (fun b9 => ?_) (fun b9 => ?_)
    · replace h := h.1 b9
      unfold vX10_bridges_29
      refine g_const (v := cI (0)) rfl ?_
      exact TX10_bridges_30 hl1 hl2 hl1 ⟨by omega, by omega⟩ hj0 h
    · replace h := h.2 b9
      unfold vX10_bridges_25
      refine g_const (v := cI (1)) rfl ?_
      exact TX10_bridges_30 hl1 hl2 hl1 ⟨by omega, by omega⟩ hj0 h
  · replace h := h.2 b3
    unfold vX10_bridges_38
    refine g_ld rfl (is_I _) ?_
    exact g_ret1 (is_I _) ⟨_, rfl, hl1, h⟩
def PX10_bridges_0 (J : Nat → List Int → gS → (Int → gS → Prop) → Prop) (o : Int) (G : gS) (Q : Int → gS → Prop) : Prop :=
  PX10_bridges_4 J o 0 0 G Q
set_option maxRecDepth 20000 in
theorem TX10_bridges_0 {j : Nat → rx_K} {J : Nat → List Int → gS → (Int → gS → Prop) → Prop} {o : Int} {G : gS} {Q : Int → gS → Prop}  (hj0 : ∀ (o : Int) (l1 : Int) (l2 : Int) (G : gS), (inI l1) → (inI l2) → J 0 [o, l1, l2] G Q → Tg W0 (j 0) [rf (o), cI (l1), cI (l2)] [] G (fun r G => ∃ v, r = cI v ∧ inI v ∧ Q v G)) (h : PX10_bridges_0 J o G Q) : Tg W0 (vX10_bridges_0 j) [rf (o), 7, 7] [] G (fun r G => ∃ v, r = cI v ∧ inI v ∧ Q v G) := by
  unfold PX10_bridges_0 at h
  unfold vX10_bridges_0
  refine g_const (v := cI (0)) rfl ?_
  refine g_st (lv' := [rf (o), cI (0), 7]) (is_I _) (Nat.le_of_ble_eq_true rfl) (Or.inr (n1_R _)) rfl ?_
  refine g_const (v := cI (0)) rfl ?_
  refine g_st (lv' := [rf (o), cI (0), cI (0)]) (is_I _) (Nat.le_of_ble_eq_true rfl) (Or.inr (n1_I _)) rfl ?_
  exact TX10_bridges_4 ⟨by omega, by omega⟩ ⟨by omega, by omega⟩ hj0 h
def PX10_bridges_J : Nat → Nat → List Int → gS → (Int → gS → Prop) → Prop
  | 0, _, _, _, _ => False
  | f + 1, h, L, G, Q => match h, L with
    | 0, [o, l1, l2] => PX10_bridges_4 (PX10_bridges_J f) o l1 l2 G Q
    | _, _ => False
theorem TX10_bridges_J {Q : Int → gS → Prop} : ∀ f N : Nat, f ≤ N → (∀ (o : Int) (l1 : Int) (l2 : Int) (G : gS), (inI l1) → (inI l2) → (PX10_bridges_J f) 0 [o, l1, l2] G Q → Tg W0 (rx_J vhX10_bridges N 0) [rf (o), cI (l1), cI (l2)] [] G (fun r G => ∃ v, r = cI v ∧ inI v ∧ Q v G)) := by
  intro f
  induction f with
  | zero => exact fun N _ => fun _ _ _ _ _ _ h => h.elim
  | succ f ih =>
    intro N hN
    obtain ⟨M, rfl⟩ : ∃ M, N = M + 1 := ⟨N - 1, by omega⟩
    have ih := ih M (by omega)
    exact fun _ _ _ _ hl1 hl2 h => show Tg W0 (vX10_bridges_4 (rx_J vhX10_bridges M)) _ _ _ _ from TX10_bridges_4 hl1 hl2 ih h
def PX10_bridges (o : Int) (G : gS) (Q : Int → gS → Prop) : Prop := ∃ f : Nat, f ≤ 4000000000 ∧ PX10_bridges_0 (PX10_bridges_J f) o G Q
theorem TX10_bridges {o : Int} {G : gS} {Q : Int → gS → Prop}  (h : PX10_bridges o G Q) : Tn W0 FX10_bridges [rf (o)] G (fun r G => ∃ v, r = cI v ∧ inI v ∧ Q v G) := by
  obtain ⟨f, hf, h⟩ := h
  have hJ := TX10_bridges_J (Q := Q) f 4000000000 hf
  unfold FX10_bridges
  refine g_ent (lv' := [rf (o), 7, 7]) (flR fl0) (Nat.le_of_ble_eq_true rfl) rfl ?_
  exact TX10_bridges_0  hJ h
def PX10_method_126 (J : Nat → List Int → gS → (Int → gS → Prop) → Prop) (o : Int) (l1 : Int) (l2 : Int) (l3 : Int) (G : gS) (Q : Int → gS → Prop) : Prop :=
  (inI (l2 + 1) ∧ J 0 [o, l1, l2 + 1] G Q)
set_option maxRecDepth 20000 in
theorem TX10_method_126 {j : Nat → rx_K} {J : Nat → List Int → gS → (Int → gS → Prop) → Prop} {o : Int} {l1 : Int} {l2 : Int} {l3 : Int} {G : gS} {Q : Int → gS → Prop} (hl2 : inI l2) (hj0 : ∀ (o : Int) (l1 : Int) (l2 : Int) (l3 : Nat) (G : gS), (inI l2) → (l3 % 8 ≠ 1) → J 0 [o, l1, l2] G Q → Tg W0 (j 0) [rf (o), rf (l1), cI (l2), l3] [] G (fun r G => ∃ v, r = rf v ∧ Q v G)) (h : PX10_method_126 J o l1 l2 l3 G Q) : Tg W0 (vX10_method_126 j) [rf (o), rf (l1), cI (l2), rf (l3)] [] G (fun r G => ∃ v, r = rf v ∧ Q v G) := by
  unfold PX10_method_126 at h
  unfold vX10_method_126
  refine g_inc (lv' := [rf (o), rf (l1), cI (l2 + 1), rf (l3)]) rfl (Nat.le_of_ble_eq_true rfl) (Or.inr (n1_R _)) rfl ?_
  obtain ⟨q48, h⟩ := h
  exact hj0 _ _ _ _ _ q48 (n1_R _) h
def PX10_method_2 (J : Nat → List Int → gS → (Int → gS → Prop) → Prop) (o : Int) (l1 : Int) (l2 : Int) (G : gS) (Q : Int → gS → Prop) : Prop :=
  (isO W0 10 (o) ∧ (inI (G o 15) → ((l2 < G o 15 → ((0 : Int) ≤ l2 ∧ ((l2 : Int) < 33 ∧ (((G (o + 4) l2 = -1 ∨ isO W0 7 (G (o + 4) l2)) ∧ ∀ v, W0.2 (o + 4) l2 = some v → G (o + 4) l2 = v) → (isO W0 7 (G (o + 4) l2) ∧ (inL (G (G (o + 4) l2) 7) → (isO W0 7 (l1) ∧ (inL (G l1 7) → ((G (G (o + 4) l2) 7 = G l1 7 → (inL (G (G (o + 4) l2) 8) → (inL (G l1 8) → ((G (G (o + 4) l2) 8 = G l1 8 → (inI (G (G (o + 4) l2) 0) → ((G (G (o + 4) l2) 0 = 1 → (inI (G (G (o + 4) l2) 9) → (inI (G l1 9) → ((G (G (o + 4) l2) 9 = G l1 9 → ((0 : Int) ≤ 0 ∧ ((0 : Int) < 4 ∧ (inL (G ((G (o + 4) l2) + 1) 0) → ((0 : Int) ≤ 0 ∧ ((0 : Int) < 4 ∧ (inL (G (l1 + 1) 0) → ((G ((G (o + 4) l2) + 1) 0 = G (l1 + 1) 0 → ((0 : Int) ≤ 1 ∧ ((1 : Int) < 4 ∧ (inL (G ((G (o + 4) l2) + 1) 1) → ((0 : Int) ≤ 1 ∧ ((1 : Int) < 4 ∧ (inL (G (l1 + 1) 1) → ((G ((G (o + 4) l2) + 1) 1 = G (l1 + 1) 1 → ((0 : Int) ≤ 2 ∧ ((2 : Int) < 4 ∧ (inL (G ((G (o + 4) l2) + 1) 2) → ((0 : Int) ≤ 2 ∧ ((2 : Int) < 4 ∧ (inL (G (l1 + 1) 2) → ((G ((G (o + 4) l2) + 1) 2 = G (l1 + 1) 2 → ((0 : Int) ≤ 3 ∧ ((3 : Int) < 4 ∧ (inL (G ((G (o + 4) l2) + 1) 3) → ((0 : Int) ≤ 3 ∧ ((3 : Int) < 4 ∧ (inL (G (l1 + 1) 3) → ((G ((G (o + 4) l2) + 1) 3 = G (l1 + 1) 3 → Q (G (o + 4) l2) G) ∧ (¬ (G ((G (o + 4) l2) + 1) 3 = G (l1 + 1) 3) → PX10_method_126 J o l1 l2 (G (o + 4) l2) G Q))))))))) ∧ (¬ (G ((G (o + 4) l2) + 1) 2 = G (l1 + 1) 2) → PX10_method_126 J o l1 l2 (G (o + 4) l2) G Q))))))))) ∧ (¬ (G ((G (o + 4) l2) + 1) 1 = G (l1 + 1) 1) → PX10_method_126 J o l1 l2 (G (o + 4) l2) G Q))))))))) ∧ (¬ (G ((G (o + 4) l2) + 1) 0 = G (l1 + 1) 0) → PX10_method_126 J o l1 l2 (G (o + 4) l2) G Q))))))))) ∧ (¬ (G (G (o + 4) l2) 9 = G l1 9) → PX10_method_126 J o l1 l2 (G (o + 4) l2) G Q))))) ∧ (¬ (G (G (o + 4) l2) 0 = 1) → PX10_method_126 J o l1 l2 (G (o + 4) l2) G Q)))) ∧ (¬ (G (G (o + 4) l2) 8 = G l1 8) → PX10_method_126 J o l1 l2 (G (o + 4) l2) G Q))))) ∧ (¬ (G (G (o + 4) l2) 7 = G l1 7) → PX10_method_126 J o l1 l2 (G (o + 4) l2) G Q)))))))))) ∧ (¬ (l2 < G o 15) → Q (-1) G))))
set_option maxRecDepth 20000 in
theorem TX10_method_2 {j : Nat → rx_K} {J : Nat → List Int → gS → (Int → gS → Prop) → Prop} {o : Int} {l1 : Int} {l2 : Int} {l3 : Nat} {G : gS} {Q : Int → gS → Prop} (hl2 : inI l2) (hl3 : l3 % 8 ≠ 1) (hj0 : ∀ (o : Int) (l1 : Int) (l2 : Int) (l3 : Nat) (G : gS), (inI l2) → (l3 % 8 ≠ 1) → J 0 [o, l1, l2] G Q → Tg W0 (j 0) [rf (o), rf (l1), cI (l2), l3] [] G (fun r G => ∃ v, r = rf v ∧ Q v G)) (h : PX10_method_2 J o l1 l2 G Q) : Tg W0 (vX10_method_2 j) [rf (o), rf (l1), cI (l2), l3] [] G (fun r G => ∃ v, r = rf v ∧ Q v G) := by
  unfold PX10_method_2 at h
  unfold vX10_method_2
  refine g_ld rfl (is_I _) ?_
  refine g_ld rfl (is_R _) ?_
  obtain ⟨q1, h⟩ := h
  refine g_getI (kz := 15) q1 rfl (Nat.le_of_ble_eq_true rfl) rfl fun i2 => ?_
  replace h := h i2
  refine g_lt2 hl2 i2 (fun b3 => ?_) (fun b3 => ?_)
  · replace h := h.1 b3
    unfold vX10_method_10
    refine g_ld rfl (is_R _) ?_
    refine g_getF q1 (ff10_14 q1).1 rfl (Nat.le_of_ble_eq_true rfl) (Nat.le_of_ble_eq_true rfl) ?_
    refine g_ld rfl (is_I _) ?_
    obtain ⟨q4, q5, h⟩ := h
    refine g_aldRF (c := 7) (ff10_14 q1).2 q4 q5 rfl (by decide) fun i6 => ?_
    replace h := h i6
    refine g_st (lv' := [rf (o), rf (l1), cI (l2), rf (G (o + 4) l2)]) (is_R _) (Nat.le_of_ble_eq_true rfl) (Or.inr (n1_I _)) rfl ?_
    refine g_ld rfl (is_R _) ?_
    obtain ⟨q7, h⟩ := h
    refine g_getL (kz := 7) q7 rfl (Nat.le_of_ble_eq_true rfl) rfl fun i8 => ?_
    replace h := h i8
    refine g_ld rfl (is_R _) ?_
    obtain ⟨q9, h⟩ := h
    refine g_getL (kz := 7) q9 rfl (Nat.le_of_ble_eq_true rfl) rfl fun i10 => ?_
    replace h := h i10
    refine g_leq i8 i10 (fun b11 => ?_) (fun b11 => ?_)
    · replace h := h.1 b11
      unfold vX10_method_29
      refine g_ld rfl (is_R _) ?_
      refine g_getL (kz := 8) q7 rfl (Nat.le_of_ble_eq_true rfl) rfl fun i12 => ?_
      replace h := h i12
      refine g_ld rfl (is_R _) ?_
      refine g_getL (kz := 8) q9 rfl (Nat.le_of_ble_eq_true rfl) rfl fun i13 => ?_
      replace h := h i13
      refine g_leq i12 i13 (fun b14 => ?_) (fun b14 => ?_)
      · replace h := h.1 b14
        unfold vX10_method_41
        refine g_ld rfl (is_R _) ?_
        refine g_getI (kz := 0) q7 rfl (Nat.le_of_ble_eq_true rfl) rfl fun i15 => ?_
        replace h := h i15
        refine g_const (v := cI (1)) rfl ?_
        refine g_eq2 i15 ⟨by omega, by omega⟩ (fun b16 => ?_) (fun b16 => ?_)
        · replace h := h.1 b16
          unfold vX10_method_49
          refine g_ld rfl (is_R _) ?_
          refine g_getI (kz := 9) q7 rfl (Nat.le_of_ble_eq_true rfl) rfl fun i17 => ?_
          replace h := h i17
          refine g_ld rfl (is_R _) ?_
          refine g_getI (kz := 9) q9 rfl (Nat.le_of_ble_eq_true rfl) rfl fun i18 => ?_
          replace h := h i18
          refine g_eq2 i17 i18 (fun b19 => ?_) (fun b19 => ?_)
          · replace h := h.1 b19
            unfold vX10_method_60
            refine g_ld rfl (is_R _) ?_
            refine g_getF q7 (ff7_10 q7).1 rfl (Nat.le_of_ble_eq_true rfl) (Nat.le_of_ble_eq_true rfl) ?_
            refine g_const (v := cI (0)) rfl ?_
            obtain ⟨q20, q21, h⟩ := h
            refine g_aldL (ff7_10 q7).2 q20 q21 rfl fun i22 => ?_
            replace h := h i22
            refine g_ld rfl (is_R _) ?_
            refine g_getF q9 (ff7_10 q9).1 rfl (Nat.le_of_ble_eq_true rfl) (Nat.le_of_ble_eq_true rfl) ?_
            refine g_const (v := cI (0)) rfl ?_
            obtain ⟨q23, q24, h⟩ := h
            refine g_aldL (ff7_10 q9).2 q23 q24 rfl fun i25 => ?_
            replace h := h i25
            refine g_leq i22 i25 (fun b26 => ?_) (fun b26 => ?_)
            · replace h := h.1 b26
              unfold vX10_method_76
              refine g_ld rfl (is_R _) ?_
              refine g_getF q7 (ff7_10 q7).1 rfl (Nat.le_of_ble_eq_true rfl) (Nat.le_of_ble_eq_true rfl) ?_
              refine g_const (v := cI (1)) rfl ?_
              obtain ⟨q27, q28, h⟩ := h
              refine g_aldL (ff7_10 q7).2 q27 q28 rfl fun i29 => ?_
              replace h := h i29
              refine g_ld rfl (is_R _) ?_
              refine g_getF q9 (ff7_10 q9).1 rfl (Nat.le_of_ble_eq_true rfl) (Nat.le_of_ble_eq_true rfl) ?_
              refine g_const (v := cI (1)) rfl ?_
              obtain ⟨q30, q31, h⟩ := h
              refine g_aldL (ff7_10 q9).2 q30 q31 rfl fun i32 => ?_
              replace h := h i32
              refine g_leq i29 i32 (fun b33 => ?_) (fun b33 => ?_)
              · replace h := h.1 b33
                unfold vX10_method_92
                refine g_ld rfl (is_R _) ?_
                refine g_getF q7 (ff7_10 q7).1 rfl (Nat.le_of_ble_eq_true rfl) (Nat.le_of_ble_eq_true rfl) ?_
                refine g_const (v := cI (2)) rfl ?_
                obtain ⟨q34, q35, h⟩ := h
                refine g_aldL (ff7_10 q7).2 q34 q35 rfl fun i36 => ?_
                replace h := h i36
                refine g_ld rfl (is_R _) ?_
                refine g_getF q9 (ff7_10 q9).1 rfl (Nat.le_of_ble_eq_true rfl) (Nat.le_of_ble_eq_true rfl) ?_
                refine g_const (v := cI (2)) rfl ?_
                obtain ⟨q37, q38, h⟩ := h
                refine g_aldL (ff7_10 q9).2 q37 q38 rfl fun i39 => ?_
                replace h := h i39
                refine g_leq i36 i39 (fun b40 => ?_) (fun b40 => ?_)
                · replace h := h.1 b40
                  unfold vX10_method_108
                  refine g_ld rfl (is_R _) ?_
                  refine g_getF q7 (ff7_10 q7).1 rfl (Nat.le_of_ble_eq_true rfl) (Nat.le_of_ble_eq_true rfl) ?_
                  refine g_const (v := cI (3)) rfl ?_
                  obtain ⟨q41, q42, h⟩ := h
                  refine g_aldL (ff7_10 q7).2 q41 q42 rfl fun i43 => ?_
                  replace h := h i43
                  refine g_ld rfl (is_R _) ?_
                  refine g_getF q9 (ff7_10 q9).1 rfl (Nat.le_of_ble_eq_true rfl) (Nat.le_of_ble_eq_true rfl) ?_
                  refine g_const (v := cI (3)) rfl ?_
                  obtain ⟨q44, q45, h⟩ := h
                  refine g_aldL (ff7_10 q9).2 q44 q45 rfl fun i46 => ?_
                  replace h := h i46
                  refine g_leq i43 i46 (fun b47 => ?_) (fun b47 => ?_)
                  · replace h := h.1 b47
                    unfold vX10_method_124
                    refine g_ld rfl (is_R _) ?_
                    exact g_ret1 (is_R _) ⟨_, rfl, h⟩
                  · replace h := h.2 b47
                    exact TX10_method_126 hl2 hj0 h
                · replace h := h.2 b40
                  exact TX10_method_126 hl2 hj0 h
              · replace h := h.2 b33
                exact TX10_method_126 hl2 hj0 h
            · replace h := h.2 b26
              exact TX10_method_126 hl2 hj0 h
          · replace h := h.2 b19
            exact TX10_method_126 hl2 hj0 h
        · replace h := h.2 b16
          exact TX10_method_126 hl2 hj0 h
      · replace h := h.2 b14
        exact TX10_method_126 hl2 hj0 h
    · replace h := h.2 b11
      exact TX10_method_126 hl2 hj0 h
  · replace h := h.2 b3
    unfold vX10_method_132
    refine g_const (v := rf (-1)) rfl ?_
    exact g_ret1 (is_R _) ⟨_, rfl, h⟩
def PX10_method_0 (J : Nat → List Int → gS → (Int → gS → Prop) → Prop) (o : Int) (a1 : Int) (G : gS) (Q : Int → gS → Prop) : Prop :=
  PX10_method_2 J o a1 0 G Q
set_option maxRecDepth 20000 in
theorem TX10_method_0 {j : Nat → rx_K} {J : Nat → List Int → gS → (Int → gS → Prop) → Prop} {o : Int} {a1 : Int} {G : gS} {Q : Int → gS → Prop}  (hj0 : ∀ (o : Int) (l1 : Int) (l2 : Int) (l3 : Nat) (G : gS), (inI l2) → (l3 % 8 ≠ 1) → J 0 [o, l1, l2] G Q → Tg W0 (j 0) [rf (o), rf (l1), cI (l2), l3] [] G (fun r G => ∃ v, r = rf v ∧ Q v G)) (h : PX10_method_0 J o a1 G Q) : Tg W0 (vX10_method_0 j) [rf (o), rf (a1), 7, 7] [] G (fun r G => ∃ v, r = rf v ∧ Q v G) := by
  unfold PX10_method_0 at h
  unfold vX10_method_0
  refine g_const (v := cI (0)) rfl ?_
  refine g_st (lv' := [rf (o), rf (a1), cI (0), 7]) (is_I _) (Nat.le_of_ble_eq_true rfl) (Or.inr (n1_R _)) rfl ?_
  exact TX10_method_2 ⟨by omega, by omega⟩ (show 7 % 8 ≠ 1 by decide) hj0 h
def PX10_method_J : Nat → Nat → List Int → gS → (Int → gS → Prop) → Prop
  | 0, _, _, _, _ => False
  | f + 1, h, L, G, Q => match h, L with
    | 0, [o, l1, l2] => PX10_method_2 (PX10_method_J f) o l1 l2 G Q
    | _, _ => False
theorem TX10_method_J {Q : Int → gS → Prop} : ∀ f N : Nat, f ≤ N → (∀ (o : Int) (l1 : Int) (l2 : Int) (l3 : Nat) (G : gS), (inI l2) → (l3 % 8 ≠ 1) → (PX10_method_J f) 0 [o, l1, l2] G Q → Tg W0 (rx_J vhX10_method N 0) [rf (o), rf (l1), cI (l2), l3] [] G (fun r G => ∃ v, r = rf v ∧ Q v G)) := by
  intro f
  induction f with
  | zero => exact fun N _ => fun _ _ _ _ _ _ _ h => h.elim
  | succ f ih =>
    intro N hN
    obtain ⟨M, rfl⟩ : ∃ M, N = M + 1 := ⟨N - 1, by omega⟩
    have ih := ih M (by omega)
    exact fun _ _ _ _ _ hl2 hl3 h => show Tg W0 (vX10_method_2 (rx_J vhX10_method M)) _ _ _ _ from TX10_method_2 hl2 hl3 ih h
def PX10_method (o : Int) (a1 : Int) (G : gS) (Q : Int → gS → Prop) : Prop := ∃ f : Nat, f ≤ 4000000000 ∧ PX10_method_0 (PX10_method_J f) o a1 G Q
theorem TX10_method {o : Int} {a1 : Int} {G : gS} {Q : Int → gS → Prop}  (h : PX10_method o a1 G Q) : Tn W0 FX10_method [rf (o), rf (a1)] G (fun r G => ∃ v, r = rf v ∧ Q v G) := by
  obtain ⟨f, hf, h⟩ := h
  have hJ := TX10_method_J (Q := Q) f 4000000000 hf
  unfold FX10_method
  refine g_ent (lv' := [rf (o), rf (a1), 7, 7]) (flR (flR fl0)) (Nat.le_of_ble_eq_true rfl) rfl ?_
  exact TX10_method_0  hJ h
def PX11_heir_20 (o : Int) (l1 : Int) (l2 : Int) (s0 : Int) (G : gS) (Q : Int → gS → Prop) : Prop :=
  ((0 ≤ s0 ∧ s0 ≤ 1) ∧ Q (s0) G)
set_option maxRecDepth 20000 in
theorem TX11_heir_20 {o : Int} {l1 : Int} {l2 : Int} {s0 : Int} {G : gS} {Q : Int → gS → Prop} (hl1 : inI l1) (hl2 : inI l2) (hs0 : inI s0) (h : PX11_heir_20 o l1 l2 s0 G Q) : Tg W0 vX11_heir_20 [rf (o), cI (l1), cI (l2)] [cI (s0)] G (fun r G => ∃ v, r = cI v ∧ (0 ≤ v ∧ v ≤ 1) ∧ Q v G) := by
  unfold PX11_heir_20 at h
  unfold vX11_heir_20
  obtain ⟨q8, h⟩ := h
  exact g_ret1 (is_Z q8) ⟨_, rfl, q8, h⟩
def PX11_heir_0 (o : Int) (a1 : Int) (a2 : Int) (G : gS) (Q : Int → gS → Prop) : Prop :=
  (isO W0 11 (o) ∧ ((0 : Int) ≤ a1 ∧ ((a1 : Int) < 64 ∧ (inL (G (o + 8) a1) → (inL (lush (G (o + 8) a1) a2) → (inL (land (lush (G (o + 8) a1) a2) 1) → ((land (lush (G (o + 8) a1) a2) 1 = 0 → PX11_heir_20 o a1 a2 0 G Q) ∧ (¬ (land (lush (G (o + 8) a1) a2) 1 = 0) → PX11_heir_20 o a1 a2 1 G Q))))))))
set_option maxRecDepth 20000 in
theorem TX11_heir_0 {o : Int} {a1 : Int} {a2 : Int} {G : gS} {Q : Int → gS → Prop} (ha1 : inI a1) (ha2 : inI a2) (h : PX11_heir_0 o a1 a2 G Q) : Tg W0 vX11_heir_0 [rf (o), cI (a1), cI (a2)] [] G (fun r G => ∃ v, r = cI v ∧ (0 ≤ v ∧ v ≤ 1) ∧ Q v G) := by
  unfold PX11_heir_0 at h
  unfold vX11_heir_0
  refine g_ld rfl (is_R _) ?_
  obtain ⟨q1, h⟩ := h
  refine g_getF q1 (ff11_9 q1).1 rfl (Nat.le_of_ble_eq_true rfl) (Nat.le_of_ble_eq_true rfl) ?_
  refine g_ld rfl (is_I _) ?_
  obtain ⟨q2, q3, h⟩ := h
  refine g_aldL (ff11_9 q1).2 q2 q3 rfl fun i4 => ?_
  replace h := h i4
  refine g_ld rfl (is_I _) ?_
  refine g_lush fun i5 => ?_
  replace h := h i5
  refine g_const (v := cL (1)) rfl ?_
  refine g_land fun i6 => ?_
  replace h := h i6
  refine g_const (v := cL (0)) rfl ?_
  refine g_leq i6 ⟨by omega, by omega⟩ (fun b7 => ?_) (fun b7 => ?_)
  · replace h := h.1 b7
    unfold vX11_heir_19
    refine g_const (v := cI (0)) rfl ?_
    exact TX11_heir_20 ha1 ha2 ⟨by omega, by omega⟩ h
  · replace h := h.2 b7
    unfold vX11_heir_15
    refine g_const (v := cI (1)) rfl ?_
    exact TX11_heir_20 ha1 ha2 ⟨by omega, by omega⟩ h
abbrev PX11_heir (o : Int) (a1 : Int) (a2 : Int) (G : gS) (Q : Int → gS → Prop) : Prop := PX11_heir_0 o a1 a2 G Q
theorem TX11_heir {o : Int} {a1 : Int} {a2 : Int} {G : gS} {Q : Int → gS → Prop} (ha1 : inI a1) (ha2 : inI a2) (h : PX11_heir o a1 a2 G Q) : Tn W0 FX11_heir [rf (o), cI (a1), cI (a2)] G (fun r G => ∃ v, r = cI v ∧ (0 ≤ v ∧ v ≤ 1) ∧ Q v G) := by
  unfold FX11_heir
  refine g_ent (lv' := [rf (o), cI (a1), cI (a2)]) (flR (flI (flI fl0))) (Nat.le_of_ble_eq_true rfl) rfl ?_
  exact TX11_heir_0 ha1 ha2 h
def PX9_now_24 (s0 : Int) (G : gS) (Q : Int → gS → Prop) : Prop :=
  Q (s0) G
set_option maxRecDepth 20000 in
theorem TX9_now_24 {s0 : Int} {G : gS} {Q : Int → gS → Prop} (hs0 : inI s0) (h : PX9_now_24 s0 G Q) : Tg W0 vX9_now_24 [rf (7)] [cI (s0)] G (fun r G => ∃ v, r = cI v ∧ inI v ∧ Q v G) := by
  unfold PX9_now_24 at h
  unfold vX9_now_24
  exact g_ret1 (is_I _) ⟨_, rfl, hs0, h⟩
def PX9_now_0  (G : gS) (Q : Int → gS → Prop) : Prop :=
  (inI (G 7 8) → (inI (G 7 5) → ((G 7 5 < G 7 8 → PX9_now_24 0 G Q) ∧ (¬ (G 7 5 < G 7 8) → (inI (G 7 8) → ((0 : Int) ≤ G 7 8 ∧ ((G 7 8 : Int) < 704 ∧ (inI (G 9 (G 7 8)) → PX9_now_24 (G 9 (G 7 8)) G Q))))))))
set_option maxRecDepth 20000 in
theorem TX9_now_0  {G : gS} {Q : Int → gS → Prop}  (h : PX9_now_0  G Q) : Tg W0 vX9_now_0 [rf (7)] [] G (fun r G => ∃ v, r = cI v ∧ inI v ∧ Q v G) := by
  unfold PX9_now_0 at h
  unfold vX9_now_0
  refine g_ld rfl (is_R _) ?_
  refine g_getI (kz := 8) oC9 rfl (Nat.le_of_ble_eq_true rfl) rfl fun i1 => ?_
  replace h := h i1
  refine g_ld rfl (is_R _) ?_
  refine g_getI (kz := 5) oC9 rfl (Nat.le_of_ble_eq_true rfl) rfl fun i2 => ?_
  replace h := h i2
  refine g_gt2 i1 i2 (fun b3 => ?_) (fun b3 => ?_)
  · replace h := h.1 b3
    unfold vX9_now_23
    refine g_const (v := cI (0)) rfl ?_
    exact TX9_now_24 ⟨by omega, by omega⟩ h
  · replace h := h.2 b3
    unfold vX9_now_11
    refine g_ld rfl (is_R _) ?_
    refine g_getF (v := 9) oC9 (hC9_1) rfl (Nat.le_of_ble_eq_true rfl) (Nat.le_of_ble_eq_true rfl) ?_
    refine g_ld rfl (is_R _) ?_
    refine g_getI (kz := 8) oC9 rfl (Nat.le_of_ble_eq_true rfl) rfl fun i4 => ?_
    replace h := h i4
    obtain ⟨q5, q6, h⟩ := h
    refine g_aldI aC9 q5 q6 rfl fun i7 => ?_
    replace h := h i7
    exact TX9_now_24 i7 h
abbrev PX9_now  (G : gS) (Q : Int → gS → Prop) : Prop := PX9_now_0  G Q
theorem TX9_now  {G : gS} {Q : Int → gS → Prop}  (h : PX9_now  G Q) : Tn W0 FX9_now [rf (7)] G (fun r G => ∃ v, r = cI v ∧ inI v ∧ Q v G) := by
  unfold FX9_now
  refine g_ent (lv' := [rf (7)]) (flR fl0) (Nat.le_of_ble_eq_true rfl) rfl ?_
  exact TX9_now_0  h
def PX13_four_3 (J : Nat → List Int → gS → (Int → gS → Prop) → Prop) (l1 : Int) (l2 : Int) (G : gS) (Q : Int → gS → Prop) : Prop :=
  ((l2 < 0 → Q 0 G) ∧ (¬ (l2 < 0) → (inI (G 16081 1) → (inI (iush l1 l2) → (inI (iand (iush l1 l2) 255) → ((0 : Int) ≤ G 16081 1 ∧ ((G 16081 1 : Int) < 4000 ∧ (∀ G7 : gS, G7 = uG G 16082 (G 16081 1) (iand (iush l1 l2) 255) → (inI (G7 16081 1) → (inI ((G7 16081 1) + 1) ∧ (∀ G10 : gS, G10 = uG G7 16081 1 ((G7 16081 1) + 1) → (inI (l2 + (-8)) ∧ J 0 [l1, l2 + (-8)] G10 Q))))))))))))
set_option maxRecDepth 20000 in
theorem TX13_four_3 {j : Nat → rx_K} {J : Nat → List Int → gS → (Int → gS → Prop) → Prop} {l1 : Int} {l2 : Int} {G : gS} {Q : Int → gS → Prop} (hl1 : inI l1) (hl2 : inI l2) (hj0 : ∀ (l1 : Int) (l2 : Int) (G : gS), (inI l1) → (inI l2) → J 0 [l1, l2] G Q → Tg W0 (j 0) [rf (16081), cI (l1), cI (l2)] [] G (fun r G => r = 7 ∧ Q 0 G)) (h : PX13_four_3 J l1 l2 G Q) : Tg W0 (vX13_four_3 j) [rf (16081), cI (l1), cI (l2)] [] G (fun r G => r = 7 ∧ Q 0 G) := by
  unfold PX13_four_3 at h
  unfold vX13_four_3
  refine g_ld rfl (is_I _) ?_
  refine g_lt1 hl2 (fun b1 => ?_) (fun b1 => ?_)
  · replace h := h.1 b1
    unfold vX13_four_39
    exact g_ret0 ⟨rfl, h⟩
  · replace h := h.2 b1
    unfold vX13_four_7
    refine g_ld rfl (is_R _) ?_
    refine g_getF (v := 16082) oC13 (hC13_0) rfl (Nat.le_of_ble_eq_true rfl) (Nat.le_of_ble_eq_true rfl) ?_
    refine g_ld rfl (is_R _) ?_
    refine g_getI (kz := 1) oC13 rfl (Nat.le_of_ble_eq_true rfl) rfl fun i2 => ?_
    replace h := h i2
    refine g_ld rfl (is_I _) ?_
    refine g_ld rfl (is_I _) ?_
    refine g_iush fun i3 => ?_
    replace h := h i3
    refine g_const (v := cI (255)) rfl ?_
    refine g_iand fun i4 => ?_
    replace h := h i4
    obtain ⟨q5, q6, h⟩ := h
    refine g_astI aC16082 q5 q6 i4 (nfI aC16082) ?_
    replace h := h _ rfl
    refine g_ld rfl (is_R _) ?_
    refine g_dup (ct_R _) ?_
    refine g_getI (kz := 1) oC13 rfl (Nat.le_of_ble_eq_true rfl) rfl fun i8 => ?_
    replace h := h i8
    refine g_const (v := cI (1)) rfl ?_
    refine g_add ?_
    obtain ⟨q9, h⟩ := h
    refine g_putI (kz := 1) oC13 rfl (Nat.le_of_ble_eq_true rfl) rfl q9 (zfin_no (c := 16081) (j := 1) rfl) ?_
    replace h := h _ rfl
    refine g_inc (lv' := [rf (16081), cI (l1), cI (l2 + (-8))]) rfl (Nat.le_of_ble_eq_true rfl) (Or.inr (n1_I _)) rfl ?_
    obtain ⟨q11, h⟩ := h
    exact hj0 _ _ _ hl1 q11 h
def PX13_four_0 (J : Nat → List Int → gS → (Int → gS → Prop) → Prop) (a1 : Int) (G : gS) (Q : Int → gS → Prop) : Prop :=
  PX13_four_3 J a1 24 G Q
set_option maxRecDepth 20000 in
theorem TX13_four_0 {j : Nat → rx_K} {J : Nat → List Int → gS → (Int → gS → Prop) → Prop} {a1 : Int} {G : gS} {Q : Int → gS → Prop} (ha1 : inI a1) (hj0 : ∀ (l1 : Int) (l2 : Int) (G : gS), (inI l1) → (inI l2) → J 0 [l1, l2] G Q → Tg W0 (j 0) [rf (16081), cI (l1), cI (l2)] [] G (fun r G => r = 7 ∧ Q 0 G)) (h : PX13_four_0 J a1 G Q) : Tg W0 (vX13_four_0 j) [rf (16081), cI (a1), 7] [] G (fun r G => r = 7 ∧ Q 0 G) := by
  unfold PX13_four_0 at h
  unfold vX13_four_0
  refine g_const (v := cI (24)) rfl ?_
  refine g_st (lv' := [rf (16081), cI (a1), cI (24)]) (is_I _) (Nat.le_of_ble_eq_true rfl) (Or.inr (n1_I _)) rfl ?_
  exact TX13_four_3 ha1 ⟨by omega, by omega⟩ hj0 h
def PX13_four_J : Nat → Nat → List Int → gS → (Int → gS → Prop) → Prop
  | 0, _, _, _, _ => False
  | f + 1, h, L, G, Q => match h, L with
    | 0, [l1, l2] => PX13_four_3 (PX13_four_J f) l1 l2 G Q
    | _, _ => False
theorem TX13_four_J {Q : Int → gS → Prop} : ∀ f N : Nat, f ≤ N → (∀ (l1 : Int) (l2 : Int) (G : gS), (inI l1) → (inI l2) → (PX13_four_J f) 0 [l1, l2] G Q → Tg W0 (rx_J vhX13_four N 0) [rf (16081), cI (l1), cI (l2)] [] G (fun r G => r = 7 ∧ Q 0 G)) := by
  intro f
  induction f with
  | zero => exact fun N _ => fun _ _ _ _ _ h => h.elim
  | succ f ih =>
    intro N hN
    obtain ⟨M, rfl⟩ : ∃ M, N = M + 1 := ⟨N - 1, by omega⟩
    have ih := ih M (by omega)
    exact fun _ _ _ hl1 hl2 h => show Tg W0 (vX13_four_3 (rx_J vhX13_four M)) _ _ _ _ from TX13_four_3 hl1 hl2 ih h
def PX13_four (a1 : Int) (G : gS) (Q : Int → gS → Prop) : Prop := ∃ f : Nat, f ≤ 4000000000 ∧ PX13_four_0 (PX13_four_J f) a1 G Q
theorem TX13_four {a1 : Int} {G : gS} {Q : Int → gS → Prop} (ha1 : inI a1) (h : PX13_four a1 G Q) : Tn W0 FX13_four [rf (16081), cI (a1)] G (fun r G => r = 7 ∧ Q 0 G) := by
  obtain ⟨f, hf, h⟩ := h
  have hJ := TX13_four_J (Q := Q) f 4000000000 hf
  unfold FX13_four
  refine g_ent (lv' := [rf (16081), cI (a1), 7]) (flR (flI fl0)) (Nat.le_of_ble_eq_true rfl) rfl ?_
  exact TX13_four_0 ha1 hJ h
def PX13_feed_0 (a1 : Int) (a2 : Int) (a3 : Int) (a4 : Int) (a5 : Int) (G : gS) (Q : Int → gS → Prop) : Prop :=
  (inI (G 16081 1) → (inI ((G 16081 1) + 20) ∧ ((4000 < (G 16081 1) + 20 → Q (-3) G) ∧ (¬ (4000 < (G 16081 1) + 20) → PX13_four a1 G (fun _ G4 => PX13_four a2 G4 (fun _ G6 => PX13_four a3 G6 (fun _ G8 => PX13_four a4 G8 (fun _ G10 => PX13_four a5 G10 (fun _ G12 => (inI (G12 16081 1) → Q (G12 16081 1) G12))))))))))
set_option maxRecDepth 20000 in
theorem TX13_feed_0 {a1 : Int} {a2 : Int} {a3 : Int} {a4 : Int} {a5 : Int} {G : gS} {Q : Int → gS → Prop} (ha1 : inI a1) (ha2 : inI a2) (ha3 : inI a3) (ha4 : inI a4) (ha5 : inI a5) (h : PX13_feed_0 a1 a2 a3 a4 a5 G Q) : Tg W0 vX13_feed_0 [rf (16081), cI (a1), cI (a2), cI (a3), cI (a4), cI (a5)] [] G (fun r G => ∃ v, r = cI v ∧ inI v ∧ Q v G) := by
  unfold PX13_feed_0 at h
  unfold vX13_feed_0
  refine g_ld rfl (is_R _) ?_
  refine g_getI (kz := 1) oC13 rfl (Nat.le_of_ble_eq_true rfl) rfl fun i1 => ?_
  replace h := h i1
  refine g_const (v := cI (20)) rfl ?_
  refine g_add ?_
  refine g_const (v := cI (4000)) rfl ?_
  obtain ⟨q2, h⟩ := h
  refine g_gt2 q2 ⟨by omega, by omega⟩ (fun b3 => ?_) (fun b3 => ?_)
  · replace h := h.1 b3
    unfold vX13_feed_13
    refine g_const (v := cI (-3)) rfl ?_
    exact g_ret1 (is_I _) ⟨_, rfl, ⟨by omega, by omega⟩, h⟩
  · replace h := h.2 b3
    unfold vX13_feed_16
    refine g_ld rfl (is_R _) ?_
    refine g_ld rfl (is_I _) ?_
    refine g_callV (As := [cI (a1)]) (ci := 13) oC13 (fun _ => rfl) ?_
    refine g_go0 (Nat.le_of_ble_eq_true rfl) (Tn_w (TX13_four ha1 h) fun _ G4 ⟨e, h⟩ => ⟨e, ?_⟩)
    refine g_ld rfl (is_R _) ?_
    refine g_ld rfl (is_I _) ?_
    refine g_callV (As := [cI (a2)]) (ci := 13) oC13 (fun _ => rfl) ?_
    refine g_go0 (Nat.le_of_ble_eq_true rfl) (Tn_w (TX13_four ha2 h) fun _ G6 ⟨e, h⟩ => ⟨e, ?_⟩)
    refine g_ld rfl (is_R _) ?_
    refine g_ld rfl (is_I _) ?_
    refine g_callV (As := [cI (a3)]) (ci := 13) oC13 (fun _ => rfl) ?_
    refine g_go0 (Nat.le_of_ble_eq_true rfl) (Tn_w (TX13_four ha3 h) fun _ G8 ⟨e, h⟩ => ⟨e, ?_⟩)
    refine g_ld rfl (is_R _) ?_
    refine g_ld rfl (is_I _) ?_
    refine g_callV (As := [cI (a4)]) (ci := 13) oC13 (fun _ => rfl) ?_
    refine g_go0 (Nat.le_of_ble_eq_true rfl) (Tn_w (TX13_four ha4 h) fun _ G10 ⟨e, h⟩ => ⟨e, ?_⟩)
    refine g_ld rfl (is_R _) ?_
    refine g_ld rfl (is_I _) ?_
    refine g_callV (As := [cI (a5)]) (ci := 13) oC13 (fun _ => rfl) ?_
    refine g_go0 (Nat.le_of_ble_eq_true rfl) (Tn_w (TX13_four ha5 h) fun _ G12 ⟨e, h⟩ => ⟨e, ?_⟩)
    refine g_ld rfl (is_R _) ?_
    refine g_getI (kz := 1) oC13 rfl (Nat.le_of_ble_eq_true rfl) rfl fun i14 => ?_
    replace h := h i14
    exact g_ret1 (is_I _) ⟨_, rfl, i14, h⟩
abbrev PX13_feed (a1 : Int) (a2 : Int) (a3 : Int) (a4 : Int) (a5 : Int) (G : gS) (Q : Int → gS → Prop) : Prop := PX13_feed_0 a1 a2 a3 a4 a5 G Q
theorem TX13_feed {a1 : Int} {a2 : Int} {a3 : Int} {a4 : Int} {a5 : Int} {G : gS} {Q : Int → gS → Prop} (ha1 : inI a1) (ha2 : inI a2) (ha3 : inI a3) (ha4 : inI a4) (ha5 : inI a5) (h : PX13_feed a1 a2 a3 a4 a5 G Q) : Tn W0 FX13_feed [rf (16081), cI (a1), cI (a2), cI (a3), cI (a4), cI (a5)] G (fun r G => ∃ v, r = cI v ∧ inI v ∧ Q v G) := by
  unfold FX13_feed
  refine g_ent (lv' := [rf (16081), cI (a1), cI (a2), cI (a3), cI (a4), cI (a5)]) (flR (flI (flI (flI (flI (flI fl0)))))) (Nat.le_of_ble_eq_true rfl) rfl ?_
  exact TX13_feed_0 ha1 ha2 ha3 ha4 ha5 h
def PX13_cut_12 (l1 : Int) (G : gS) (Q : Int → gS → Prop) : Prop :=
  Q (-1) G
set_option maxRecDepth 20000 in
theorem TX13_cut_12 {l1 : Int} {G : gS} {Q : Int → gS → Prop} (hl1 : inI l1) (h : PX13_cut_12 l1 G Q) : Tg W0 vX13_cut_12 [rf (16081), cI (l1)] [] G (fun r G => ∃ v, r = cI v ∧ inI v ∧ Q v G) := by
  unfold PX13_cut_12 at h
  unfold vX13_cut_12
  refine g_const (v := cI (-1)) rfl ?_
  exact g_ret1 (is_I _) ⟨_, rfl, ⟨by omega, by omega⟩, h⟩
def PX13_cut_0 (a1 : Int) (G : gS) (Q : Int → gS → Prop) : Prop :=
  ((a1 < 0 → PX13_cut_12 a1 G Q) ∧ (¬ (a1 < 0) → (inI (G 16081 1) → ((G 16081 1 < a1 → PX13_cut_12 a1 G Q) ∧ (¬ (G 16081 1 < a1) → (inI (G 16081 1) → (inI ((G 16081 1) - a1) ∧ (∀ G6 : gS, G6 = uG G 16081 1 ((G 16081 1) - a1) → (inI (G6 16081 1) → Q (G6 16081 1) G6)))))))))
set_option maxRecDepth 20000 in
theorem TX13_cut_0 {a1 : Int} {G : gS} {Q : Int → gS → Prop} (ha1 : inI a1) (h : PX13_cut_0 a1 G Q) : Tg W0 vX13_cut_0 [rf (16081), cI (a1)] [] G (fun r G => ∃ v, r = cI v ∧ inI v ∧ Q v G) := by
  unfold PX13_cut_0 at h
  unfold vX13_cut_0
  refine g_ld rfl (is_I _) ?_
  refine g_lt1 ha1 (fun b1 => ?_) (fun b1 => ?_)
  · replace h := h.1 b1
    exact TX13_cut_12 ha1 h
  · replace h := h.2 b1
    unfold vX13_cut_4
    refine g_ld rfl (is_I _) ?_
    refine g_ld rfl (is_R _) ?_
    refine g_getI (kz := 1) oC13 rfl (Nat.le_of_ble_eq_true rfl) rfl fun i2 => ?_
    replace h := h i2
    refine g_gt2 ha1 i2 (fun b3 => ?_) (fun b3 => ?_)
    · replace h := h.1 b3
      exact TX13_cut_12 ha1 h
    · replace h := h.2 b3
      unfold vX13_cut_14
      refine g_ld rfl (is_R _) ?_
      refine g_dup (ct_R _) ?_
      refine g_getI (kz := 1) oC13 rfl (Nat.le_of_ble_eq_true rfl) rfl fun i4 => ?_
      replace h := h i4
      refine g_ld rfl (is_I _) ?_
      refine g_sub ?_
      obtain ⟨q5, h⟩ := h
      refine g_putI (kz := 1) oC13 rfl (Nat.le_of_ble_eq_true rfl) rfl q5 (zfin_no (c := 16081) (j := 1) rfl) ?_
      replace h := h _ rfl
      refine g_ld rfl (is_R _) ?_
      refine g_getI (kz := 1) oC13 rfl (Nat.le_of_ble_eq_true rfl) rfl fun i7 => ?_
      replace h := h i7
      exact g_ret1 (is_I _) ⟨_, rfl, i7, h⟩
abbrev PX13_cut (a1 : Int) (G : gS) (Q : Int → gS → Prop) : Prop := PX13_cut_0 a1 G Q
theorem TX13_cut {a1 : Int} {G : gS} {Q : Int → gS → Prop} (ha1 : inI a1) (h : PX13_cut a1 G Q) : Tn W0 FX13_cut [rf (16081), cI (a1)] G (fun r G => ∃ v, r = cI v ∧ inI v ∧ Q v G) := by
  unfold FX13_cut
  refine g_ent (lv' := [rf (16081), cI (a1)]) (flR (flI fl0)) (Nat.le_of_ble_eq_true rfl) rfl ?_
  exact TX13_cut_0 ha1 h
def PX13_splice_160 (J : Nat → List Int → gS → (Int → gS → Prop) → Prop) (l1 : Int) (l2 : Int) (l3 : Int) (l4 : Int) (l5 : Int) (l6 : Int) (G : gS) (Q : Int → gS → Prop) : Prop :=
  ((l6 < l5 → ((0 : Int) ≤ l6 ∧ ((l6 : Int) < 4000 ∧ (inI (G 16084 l6) → ((0 : Int) ≤ l6 ∧ ((l6 : Int) < 4000 ∧ (∀ G48 : gS, G48 = uG G 16082 l6 (G 16084 l6) → (inI (l6 + 1) ∧ J 3 [l1, l2, l3, l4, l5, l6 + 1] G48 Q)))))))) ∧ (¬ (l6 < l5) → (∀ G50 : gS, G50 = uG G 16081 1 (l5) → (inI (G50 16081 1) → Q (G50 16081 1) G50))))
set_option maxRecDepth 20000 in
theorem TX13_splice_160 {j : Nat → rx_K} {J : Nat → List Int → gS → (Int → gS → Prop) → Prop} {l1 : Int} {l2 : Int} {l3 : Int} {l4 : Int} {l5 : Int} {l6 : Int} {G : gS} {Q : Int → gS → Prop} (hl1 : inI l1) (hl2 : inI l2) (hl3 : inI l3) (hl4 : inI l4) (hl5 : inI l5) (hl6 : inI l6) (hj0 : ∀ (l1 : Int) (l2 : Int) (l3 : Int) (l4 : Int) (l5 : Int) (l6 : Int) (G : gS), (inI l1) → (inI l2) → (inI l3) → (inI l4) → (inI l5) → (inI l6) → J 0 [l1, l2, l3, l4, l5, l6] G Q → Tg W0 (j 0) [rf (16081), cI (l1), cI (l2), cI (l3), cI (l4), cI (l5), cI (l6)] [] G (fun r G => ∃ v, r = cI v ∧ inI v ∧ Q v G)) (hj1 : ∀ (l1 : Int) (l2 : Int) (l3 : Int) (l4 : Int) (l5 : Int) (l6 : Int) (G : gS), (inI l1) → (inI l2) → (inI l3) → (inI l4) → (inI l5) → (inI l6) → J 1 [l1, l2, l3, l4, l5, l6] G Q → Tg W0 (j 1) [rf (16081), cI (l1), cI (l2), cI (l3), cI (l4), cI (l5), cI (l6)] [] G (fun r G => ∃ v, r = cI v ∧ inI v ∧ Q v G)) (hj2 : ∀ (l1 : Int) (l2 : Int) (l3 : Int) (l4 : Int) (l5 : Int) (l6 : Int) (G : gS), (inI l1) → (inI l2) → (inI l3) → (inI l4) → (inI l5) → (inI l6) → J 2 [l1, l2, l3, l4, l5, l6] G Q → Tg W0 (j 2) [rf (16081), cI (l1), cI (l2), cI (l3), cI (l4), cI (l5), cI (l6)] [] G (fun r G => ∃ v, r = cI v ∧ inI v ∧ Q v G)) (hj3 : ∀ (l1 : Int) (l2 : Int) (l3 : Int) (l4 : Int) (l5 : Int) (l6 : Int) (G : gS), (inI l1) → (inI l2) → (inI l3) → (inI l4) → (inI l5) → (inI l6) → J 3 [l1, l2, l3, l4, l5, l6] G Q → Tg W0 (j 3) [rf (16081), cI (l1), cI (l2), cI (l3), cI (l4), cI (l5), cI (l6)] [] G (fun r G => ∃ v, r = cI v ∧ inI v ∧ Q v G)) (h : PX13_splice_160 J l1 l2 l3 l4 l5 l6 G Q) : Tg W0 (vX13_splice_160 j) [rf (16081), cI (l1), cI (l2), cI (l3), cI (l4), cI (l5), cI (l6)] [] G (fun r G => ∃ v, r = cI v ∧ inI v ∧ Q v G) := by
  unfold PX13_splice_160 at h
  unfold vX13_splice_160
  refine g_ld rfl (is_I _) ?_
  refine g_ld rfl (is_I _) ?_
  refine g_lt2 hl6 hl5 (fun b42 => ?_) (fun b42 => ?_)
  · replace h := h.1 b42
    unfold vX13_splice_167
    refine g_ld rfl (is_R _) ?_
    refine g_getF (v := 16082) oC13 (hC13_0) rfl (Nat.le_of_ble_eq_true rfl) (Nat.le_of_ble_eq_true rfl) ?_
    refine g_ld rfl (is_I _) ?_
    refine g_ld rfl (is_R _) ?_
    refine g_getF (v := 16084) oC13 (hC13_4) rfl (Nat.le_of_ble_eq_true rfl) (Nat.le_of_ble_eq_true rfl) ?_
    refine g_ld rfl (is_I _) ?_
    obtain ⟨q43, q44, h⟩ := h
    refine g_aldI aC16084 q43 q44 rfl fun i45 => ?_
    replace h := h i45
    obtain ⟨q46, q47, h⟩ := h
    refine g_astI aC16082 q46 q47 i45 (nfI aC16082) ?_
    replace h := h _ rfl
    refine g_inc (lv' := [rf (16081), cI (l1), cI (l2), cI (l3), cI (l4), cI (l5), cI (l6 + 1)]) rfl (Nat.le_of_ble_eq_true rfl) (Or.inr (n1_I _)) rfl ?_
    obtain ⟨q49, h⟩ := h
    exact hj3 _ _ _ _ _ _ _ hl1 hl2 hl3 hl4 hl5 q49 h
  · replace h := h.2 b42
    unfold vX13_splice_187
    refine g_ld rfl (is_R _) ?_
    refine g_ld rfl (is_I _) ?_
    refine g_putI (kz := 1) oC13 rfl (Nat.le_of_ble_eq_true rfl) rfl hl5 (zfin_no (c := 16081) (j := 1) rfl) ?_
    replace h := h _ rfl
    refine g_ld rfl (is_R _) ?_
    refine g_getI (kz := 1) oC13 rfl (Nat.le_of_ble_eq_true rfl) rfl fun i51 => ?_
    replace h := h i51
    exact g_ret1 (is_I _) ⟨_, rfl, i51, h⟩
def PX13_splice_127 (J : Nat → List Int → gS → (Int → gS → Prop) → Prop) (l1 : Int) (l2 : Int) (l3 : Int) (l4 : Int) (l5 : Int) (l6 : Int) (G : gS) (Q : Int → gS → Prop) : Prop :=
  ((l6 < l4 → (inI (l5 + 1) ∧ ((0 : Int) ≤ l6 ∧ ((l6 : Int) < 4000 ∧ (inI (G 16082 l6) → ((0 : Int) ≤ l5 ∧ ((l5 : Int) < 4000 ∧ (∀ G40 : gS, G40 = uG G 16084 l5 (G 16082 l6) → (inI (l6 + 1) ∧ J 2 [l1, l2, l3, l4, l5 + 1, l6 + 1] G40 Q))))))))) ∧ (¬ (l6 < l4) → PX13_splice_160 J l1 l2 l3 l4 l5 0 G Q))
set_option maxRecDepth 20000 in
theorem TX13_splice_127 {j : Nat → rx_K} {J : Nat → List Int → gS → (Int → gS → Prop) → Prop} {l1 : Int} {l2 : Int} {l3 : Int} {l4 : Int} {l5 : Int} {l6 : Int} {G : gS} {Q : Int → gS → Prop} (hl1 : inI l1) (hl2 : inI l2) (hl3 : inI l3) (hl4 : inI l4) (hl5 : inI l5) (hl6 : inI l6) (hj0 : ∀ (l1 : Int) (l2 : Int) (l3 : Int) (l4 : Int) (l5 : Int) (l6 : Int) (G : gS), (inI l1) → (inI l2) → (inI l3) → (inI l4) → (inI l5) → (inI l6) → J 0 [l1, l2, l3, l4, l5, l6] G Q → Tg W0 (j 0) [rf (16081), cI (l1), cI (l2), cI (l3), cI (l4), cI (l5), cI (l6)] [] G (fun r G => ∃ v, r = cI v ∧ inI v ∧ Q v G)) (hj1 : ∀ (l1 : Int) (l2 : Int) (l3 : Int) (l4 : Int) (l5 : Int) (l6 : Int) (G : gS), (inI l1) → (inI l2) → (inI l3) → (inI l4) → (inI l5) → (inI l6) → J 1 [l1, l2, l3, l4, l5, l6] G Q → Tg W0 (j 1) [rf (16081), cI (l1), cI (l2), cI (l3), cI (l4), cI (l5), cI (l6)] [] G (fun r G => ∃ v, r = cI v ∧ inI v ∧ Q v G)) (hj2 : ∀ (l1 : Int) (l2 : Int) (l3 : Int) (l4 : Int) (l5 : Int) (l6 : Int) (G : gS), (inI l1) → (inI l2) → (inI l3) → (inI l4) → (inI l5) → (inI l6) → J 2 [l1, l2, l3, l4, l5, l6] G Q → Tg W0 (j 2) [rf (16081), cI (l1), cI (l2), cI (l3), cI (l4), cI (l5), cI (l6)] [] G (fun r G => ∃ v, r = cI v ∧ inI v ∧ Q v G)) (hj3 : ∀ (l1 : Int) (l2 : Int) (l3 : Int) (l4 : Int) (l5 : Int) (l6 : Int) (G : gS), (inI l1) → (inI l2) → (inI l3) → (inI l4) → (inI l5) → (inI l6) → J 3 [l1, l2, l3, l4, l5, l6] G Q → Tg W0 (j 3) [rf (16081), cI (l1), cI (l2), cI (l3), cI (l4), cI (l5), cI (l6)] [] G (fun r G => ∃ v, r = cI v ∧ inI v ∧ Q v G)) (h : PX13_splice_127 J l1 l2 l3 l4 l5 l6 G Q) : Tg W0 (vX13_splice_127 j) [rf (16081), cI (l1), cI (l2), cI (l3), cI (l4), cI (l5), cI (l6)] [] G (fun r G => ∃ v, r = cI v ∧ inI v ∧ Q v G) := by
  unfold PX13_splice_127 at h
  unfold vX13_splice_127
  refine g_ld rfl (is_I _) ?_
  refine g_ld rfl (is_I _) ?_
  refine g_lt2 hl6 hl4 (fun b33 => ?_) (fun b33 => ?_)
  · replace h := h.1 b33
    unfold vX13_splice_134
    refine g_ld rfl (is_R _) ?_
    refine g_getF (v := 16084) oC13 (hC13_4) rfl (Nat.le_of_ble_eq_true rfl) (Nat.le_of_ble_eq_true rfl) ?_
    refine g_ld rfl (is_I _) ?_
    refine g_inc (lv' := [rf (16081), cI (l1), cI (l2), cI (l3), cI (l4), cI (l5 + 1), cI (l6)]) rfl (Nat.le_of_ble_eq_true rfl) (Or.inr (n1_I _)) rfl ?_
    obtain ⟨q34, h⟩ := h
    refine g_ld rfl (is_R _) ?_
    refine g_getF (v := 16082) oC13 (hC13_0) rfl (Nat.le_of_ble_eq_true rfl) (Nat.le_of_ble_eq_true rfl) ?_
    refine g_ld rfl (is_I _) ?_
    obtain ⟨q35, q36, h⟩ := h
    refine g_aldI aC16082 q35 q36 rfl fun i37 => ?_
    replace h := h i37
    obtain ⟨q38, q39, h⟩ := h
    refine g_astI aC16084 q38 q39 i37 (nfI aC16084) ?_
    replace h := h _ rfl
    refine g_inc (lv' := [rf (16081), cI (l1), cI (l2), cI (l3), cI (l4), cI (l5 + 1), cI (l6 + 1)]) rfl (Nat.le_of_ble_eq_true rfl) (Or.inr (n1_I _)) rfl ?_
    obtain ⟨q41, h⟩ := h
    exact hj2 _ _ _ _ _ _ _ hl1 hl2 hl3 hl4 q34 q41 h
  · replace h := h.2 b33
    unfold vX13_splice_157
    refine g_const (v := cI (0)) rfl ?_
    refine g_st (lv' := [rf (16081), cI (l1), cI (l2), cI (l3), cI (l4), cI (l5), cI (0)]) (is_I _) (Nat.le_of_ble_eq_true rfl) (Or.inr (n1_I _)) rfl ?_
    exact TX13_splice_160 hl1 hl2 hl3 hl4 hl5 ⟨by omega, by omega⟩ hj0 hj1 hj2 hj3 h
def PX13_splice_90 (J : Nat → List Int → gS → (Int → gS → Prop) → Prop) (l1 : Int) (l2 : Int) (l3 : Int) (l4 : Int) (l5 : Int) (l6 : Int) (G : gS) (Q : Int → gS → Prop) : Prop :=
  ((l6 < l3 → (inI (l5 + 1) ∧ ((0 : Int) ≤ l4 + l6 ∧ ((l4 + l6 : Int) < 4000 ∧ (inI (G 16082 (l4 + l6)) → ((0 : Int) ≤ l5 ∧ ((l5 : Int) < 4000 ∧ (∀ G30 : gS, G30 = uG G 16084 l5 (G 16082 (l4 + l6)) → (inI (l6 + 1) ∧ J 1 [l1, l2, l3, l4, l5 + 1, l6 + 1] G30 Q))))))))) ∧ (¬ (l6 < l3) → (inI (l1 + l2) ∧ PX13_splice_127 J l1 l2 l3 l4 l5 (l1 + l2) G Q)))
set_option maxRecDepth 20000 in
theorem TX13_splice_90 {j : Nat → rx_K} {J : Nat → List Int → gS → (Int → gS → Prop) → Prop} {l1 : Int} {l2 : Int} {l3 : Int} {l4 : Int} {l5 : Int} {l6 : Int} {G : gS} {Q : Int → gS → Prop} (hl1 : inI l1) (hl2 : inI l2) (hl3 : inI l3) (hl4 : inI l4) (hl5 : inI l5) (hl6 : inI l6) (hj0 : ∀ (l1 : Int) (l2 : Int) (l3 : Int) (l4 : Int) (l5 : Int) (l6 : Int) (G : gS), (inI l1) → (inI l2) → (inI l3) → (inI l4) → (inI l5) → (inI l6) → J 0 [l1, l2, l3, l4, l5, l6] G Q → Tg W0 (j 0) [rf (16081), cI (l1), cI (l2), cI (l3), cI (l4), cI (l5), cI (l6)] [] G (fun r G => ∃ v, r = cI v ∧ inI v ∧ Q v G)) (hj1 : ∀ (l1 : Int) (l2 : Int) (l3 : Int) (l4 : Int) (l5 : Int) (l6 : Int) (G : gS), (inI l1) → (inI l2) → (inI l3) → (inI l4) → (inI l5) → (inI l6) → J 1 [l1, l2, l3, l4, l5, l6] G Q → Tg W0 (j 1) [rf (16081), cI (l1), cI (l2), cI (l3), cI (l4), cI (l5), cI (l6)] [] G (fun r G => ∃ v, r = cI v ∧ inI v ∧ Q v G)) (hj2 : ∀ (l1 : Int) (l2 : Int) (l3 : Int) (l4 : Int) (l5 : Int) (l6 : Int) (G : gS), (inI l1) → (inI l2) → (inI l3) → (inI l4) → (inI l5) → (inI l6) → J 2 [l1, l2, l3, l4, l5, l6] G Q → Tg W0 (j 2) [rf (16081), cI (l1), cI (l2), cI (l3), cI (l4), cI (l5), cI (l6)] [] G (fun r G => ∃ v, r = cI v ∧ inI v ∧ Q v G)) (hj3 : ∀ (l1 : Int) (l2 : Int) (l3 : Int) (l4 : Int) (l5 : Int) (l6 : Int) (G : gS), (inI l1) → (inI l2) → (inI l3) → (inI l4) → (inI l5) → (inI l6) → J 3 [l1, l2, l3, l4, l5, l6] G Q → Tg W0 (j 3) [rf (16081), cI (l1), cI (l2), cI (l3), cI (l4), cI (l5), cI (l6)] [] G (fun r G => ∃ v, r = cI v ∧ inI v ∧ Q v G)) (h : PX13_splice_90 J l1 l2 l3 l4 l5 l6 G Q) : Tg W0 (vX13_splice_90 j) [rf (16081), cI (l1), cI (l2), cI (l3), cI (l4), cI (l5), cI (l6)] [] G (fun r G => ∃ v, r = cI v ∧ inI v ∧ Q v G) := by
  unfold PX13_splice_90 at h
  unfold vX13_splice_90
  refine g_ld rfl (is_I _) ?_
  refine g_ld rfl (is_I _) ?_
  refine g_lt2 hl6 hl3 (fun b23 => ?_) (fun b23 => ?_)
  · replace h := h.1 b23
    unfold vX13_splice_96
    refine g_ld rfl (is_R _) ?_
    refine g_getF (v := 16084) oC13 (hC13_4) rfl (Nat.le_of_ble_eq_true rfl) (Nat.le_of_ble_eq_true rfl) ?_
    refine g_ld rfl (is_I _) ?_
    refine g_inc (lv' := [rf (16081), cI (l1), cI (l2), cI (l3), cI (l4), cI (l5 + 1), cI (l6)]) rfl (Nat.le_of_ble_eq_true rfl) (Or.inr (n1_I _)) rfl ?_
    obtain ⟨q24, h⟩ := h
    refine g_ld rfl (is_R _) ?_
    refine g_getF (v := 16082) oC13 (hC13_0) rfl (Nat.le_of_ble_eq_true rfl) (Nat.le_of_ble_eq_true rfl) ?_
    refine g_ld rfl (is_I _) ?_
    refine g_ld rfl (is_I _) ?_
    refine g_add ?_
    obtain ⟨q25, q26, h⟩ := h
    refine g_aldI aC16082 q25 q26 rfl fun i27 => ?_
    replace h := h i27
    obtain ⟨q28, q29, h⟩ := h
    refine g_astI aC16084 q28 q29 i27 (nfI aC16084) ?_
    replace h := h _ rfl
    refine g_inc (lv' := [rf (16081), cI (l1), cI (l2), cI (l3), cI (l4), cI (l5 + 1), cI (l6 + 1)]) rfl (Nat.le_of_ble_eq_true rfl) (Or.inr (n1_I _)) rfl ?_
    obtain ⟨q31, h⟩ := h
    exact hj1 _ _ _ _ _ _ _ hl1 hl2 hl3 hl4 q24 q31 h
  · replace h := h.2 b23
    unfold vX13_splice_122
    refine g_ld rfl (is_I _) ?_
    refine g_ld rfl (is_I _) ?_
    refine g_add ?_
    refine g_st (lv' := [rf (16081), cI (l1), cI (l2), cI (l3), cI (l4), cI (l5), cI (l1 + l2)]) (is_I _) (Nat.le_of_ble_eq_true rfl) (Or.inr (n1_I _)) rfl ?_
    obtain ⟨q32, h⟩ := h
    exact TX13_splice_127 hl1 hl2 hl3 hl4 hl5 q32 hj0 hj1 hj2 hj3 h
def PX13_splice_58 (J : Nat → List Int → gS → (Int → gS → Prop) → Prop) (l1 : Int) (l2 : Int) (l3 : Int) (l4 : Int) (l5 : Int) (l6 : Int) (G : gS) (Q : Int → gS → Prop) : Prop :=
  ((l6 < l1 → (inI (l5 + 1) ∧ ((0 : Int) ≤ l6 ∧ ((l6 : Int) < 4000 ∧ (inI (G 16082 l6) → ((0 : Int) ≤ l5 ∧ ((l5 : Int) < 4000 ∧ (∀ G21 : gS, G21 = uG G 16084 l5 (G 16082 l6) → (inI (l6 + 1) ∧ J 0 [l1, l2, l3, l4, l5 + 1, l6 + 1] G21 Q))))))))) ∧ (¬ (l6 < l1) → PX13_splice_90 J l1 l2 l3 l4 l5 0 G Q))
set_option maxRecDepth 20000 in
theorem TX13_splice_58 {j : Nat → rx_K} {J : Nat → List Int → gS → (Int → gS → Prop) → Prop} {l1 : Int} {l2 : Int} {l3 : Int} {l4 : Int} {l5 : Int} {l6 : Int} {G : gS} {Q : Int → gS → Prop} (hl1 : inI l1) (hl2 : inI l2) (hl3 : inI l3) (hl4 : inI l4) (hl5 : inI l5) (hl6 : inI l6) (hj0 : ∀ (l1 : Int) (l2 : Int) (l3 : Int) (l4 : Int) (l5 : Int) (l6 : Int) (G : gS), (inI l1) → (inI l2) → (inI l3) → (inI l4) → (inI l5) → (inI l6) → J 0 [l1, l2, l3, l4, l5, l6] G Q → Tg W0 (j 0) [rf (16081), cI (l1), cI (l2), cI (l3), cI (l4), cI (l5), cI (l6)] [] G (fun r G => ∃ v, r = cI v ∧ inI v ∧ Q v G)) (hj1 : ∀ (l1 : Int) (l2 : Int) (l3 : Int) (l4 : Int) (l5 : Int) (l6 : Int) (G : gS), (inI l1) → (inI l2) → (inI l3) → (inI l4) → (inI l5) → (inI l6) → J 1 [l1, l2, l3, l4, l5, l6] G Q → Tg W0 (j 1) [rf (16081), cI (l1), cI (l2), cI (l3), cI (l4), cI (l5), cI (l6)] [] G (fun r G => ∃ v, r = cI v ∧ inI v ∧ Q v G)) (hj2 : ∀ (l1 : Int) (l2 : Int) (l3 : Int) (l4 : Int) (l5 : Int) (l6 : Int) (G : gS), (inI l1) → (inI l2) → (inI l3) → (inI l4) → (inI l5) → (inI l6) → J 2 [l1, l2, l3, l4, l5, l6] G Q → Tg W0 (j 2) [rf (16081), cI (l1), cI (l2), cI (l3), cI (l4), cI (l5), cI (l6)] [] G (fun r G => ∃ v, r = cI v ∧ inI v ∧ Q v G)) (hj3 : ∀ (l1 : Int) (l2 : Int) (l3 : Int) (l4 : Int) (l5 : Int) (l6 : Int) (G : gS), (inI l1) → (inI l2) → (inI l3) → (inI l4) → (inI l5) → (inI l6) → J 3 [l1, l2, l3, l4, l5, l6] G Q → Tg W0 (j 3) [rf (16081), cI (l1), cI (l2), cI (l3), cI (l4), cI (l5), cI (l6)] [] G (fun r G => ∃ v, r = cI v ∧ inI v ∧ Q v G)) (h : PX13_splice_58 J l1 l2 l3 l4 l5 l6 G Q) : Tg W0 (vX13_splice_58 j) [rf (16081), cI (l1), cI (l2), cI (l3), cI (l4), cI (l5), cI (l6)] [] G (fun r G => ∃ v, r = cI v ∧ inI v ∧ Q v G) := by
  unfold PX13_splice_58 at h
  unfold vX13_splice_58
  refine g_ld rfl (is_I _) ?_
  refine g_ld rfl (is_I _) ?_
  refine g_lt2 hl6 hl1 (fun b14 => ?_) (fun b14 => ?_)
  · replace h := h.1 b14
    unfold vX13_splice_64
    refine g_ld rfl (is_R _) ?_
    refine g_getF (v := 16084) oC13 (hC13_4) rfl (Nat.le_of_ble_eq_true rfl) (Nat.le_of_ble_eq_true rfl) ?_
    refine g_ld rfl (is_I _) ?_
    refine g_inc (lv' := [rf (16081), cI (l1), cI (l2), cI (l3), cI (l4), cI (l5 + 1), cI (l6)]) rfl (Nat.le_of_ble_eq_true rfl) (Or.inr (n1_I _)) rfl ?_
    obtain ⟨q15, h⟩ := h
    refine g_ld rfl (is_R _) ?_
    refine g_getF (v := 16082) oC13 (hC13_0) rfl (Nat.le_of_ble_eq_true rfl) (Nat.le_of_ble_eq_true rfl) ?_
    refine g_ld rfl (is_I _) ?_
    obtain ⟨q16, q17, h⟩ := h
    refine g_aldI aC16082 q16 q17 rfl fun i18 => ?_
    replace h := h i18
    obtain ⟨q19, q20, h⟩ := h
    refine g_astI aC16084 q19 q20 i18 (nfI aC16084) ?_
    replace h := h _ rfl
    refine g_inc (lv' := [rf (16081), cI (l1), cI (l2), cI (l3), cI (l4), cI (l5 + 1), cI (l6 + 1)]) rfl (Nat.le_of_ble_eq_true rfl) (Or.inr (n1_I _)) rfl ?_
    obtain ⟨q22, h⟩ := h
    exact hj0 _ _ _ _ _ _ _ hl1 hl2 hl3 hl4 q15 q22 h
  · replace h := h.2 b14
    unfold vX13_splice_87
    refine g_const (v := cI (0)) rfl ?_
    refine g_st (lv' := [rf (16081), cI (l1), cI (l2), cI (l3), cI (l4), cI (l5), cI (0)]) (is_I _) (Nat.le_of_ble_eq_true rfl) (Or.inr (n1_I _)) rfl ?_
    exact TX13_splice_90 hl1 hl2 hl3 hl4 hl5 ⟨by omega, by omega⟩ hj0 hj1 hj2 hj3 h
def PX13_splice_42 (J : Nat → List Int → gS → (Int → gS → Prop) → Prop) (l1 : Int) (l2 : Int) (l3 : Int) (G : gS) (Q : Int → gS → Prop) : Prop :=
  Q (-1) G
set_option maxRecDepth 20000 in
theorem TX13_splice_42 {j : Nat → rx_K} {J : Nat → List Int → gS → (Int → gS → Prop) → Prop} {l1 : Int} {l2 : Int} {l3 : Int} {l4 : Nat} {l5 : Nat} {l6 : Nat} {G : gS} {Q : Int → gS → Prop} (hl1 : inI l1) (hl2 : inI l2) (hl3 : inI l3) (hl4 : l4 % 8 ≠ 1) (hl5 : l5 % 8 ≠ 1) (hl6 : l6 % 8 ≠ 1) (hj0 : ∀ (l1 : Int) (l2 : Int) (l3 : Int) (l4 : Int) (l5 : Int) (l6 : Int) (G : gS), (inI l1) → (inI l2) → (inI l3) → (inI l4) → (inI l5) → (inI l6) → J 0 [l1, l2, l3, l4, l5, l6] G Q → Tg W0 (j 0) [rf (16081), cI (l1), cI (l2), cI (l3), cI (l4), cI (l5), cI (l6)] [] G (fun r G => ∃ v, r = cI v ∧ inI v ∧ Q v G)) (hj1 : ∀ (l1 : Int) (l2 : Int) (l3 : Int) (l4 : Int) (l5 : Int) (l6 : Int) (G : gS), (inI l1) → (inI l2) → (inI l3) → (inI l4) → (inI l5) → (inI l6) → J 1 [l1, l2, l3, l4, l5, l6] G Q → Tg W0 (j 1) [rf (16081), cI (l1), cI (l2), cI (l3), cI (l4), cI (l5), cI (l6)] [] G (fun r G => ∃ v, r = cI v ∧ inI v ∧ Q v G)) (hj2 : ∀ (l1 : Int) (l2 : Int) (l3 : Int) (l4 : Int) (l5 : Int) (l6 : Int) (G : gS), (inI l1) → (inI l2) → (inI l3) → (inI l4) → (inI l5) → (inI l6) → J 2 [l1, l2, l3, l4, l5, l6] G Q → Tg W0 (j 2) [rf (16081), cI (l1), cI (l2), cI (l3), cI (l4), cI (l5), cI (l6)] [] G (fun r G => ∃ v, r = cI v ∧ inI v ∧ Q v G)) (hj3 : ∀ (l1 : Int) (l2 : Int) (l3 : Int) (l4 : Int) (l5 : Int) (l6 : Int) (G : gS), (inI l1) → (inI l2) → (inI l3) → (inI l4) → (inI l5) → (inI l6) → J 3 [l1, l2, l3, l4, l5, l6] G Q → Tg W0 (j 3) [rf (16081), cI (l1), cI (l2), cI (l3), cI (l4), cI (l5), cI (l6)] [] G (fun r G => ∃ v, r = cI v ∧ inI v ∧ Q v G)) (h : PX13_splice_42 J l1 l2 l3 G Q) : Tg W0 (vX13_splice_42 j) [rf (16081), cI (l1), cI (l2), cI (l3), l4, l5, l6] [] G (fun r G => ∃ v, r = cI v ∧ inI v ∧ Q v G) := by
  unfold PX13_splice_42 at h
  unfold vX13_splice_42
  refine g_const (v := cI (-1)) rfl ?_
  exact g_ret1 (is_I _) ⟨_, rfl, ⟨by omega, by omega⟩, h⟩
def PX13_splice_0 (J : Nat → List Int → gS → (Int → gS → Prop) → Prop) (a1 : Int) (a2 : Int) (a3 : Int) (G : gS) (Q : Int → gS → Prop) : Prop :=
  ((a3 < 0 → PX13_splice_42 J a1 a2 a3 G Q) ∧ (¬ (a3 < 0) → (inI (G 16081 1) → ((G 16081 1 < a3 → PX13_splice_42 J a1 a2 a3 G Q) ∧ (¬ (G 16081 1 < a3) → ((a1 < 0 → PX13_splice_42 J a1 a2 a3 G Q) ∧ (¬ (a1 < 0) → (inI (G 16081 1) → (inI ((G 16081 1) - a3) ∧ (((G 16081 1) - a3 < a1 → PX13_splice_42 J a1 a2 a3 G Q) ∧ (¬ ((G 16081 1) - a3 < a1) → ((a2 < 0 → PX13_splice_42 J a1 a2 a3 G Q) ∧ (¬ (a2 < 0) → (inI (G 16081 1) → (inI (((G 16081 1) - a3) - a1) ∧ ((((G 16081 1) - a3) - a1 < a2 → PX13_splice_42 J a1 a2 a3 G Q) ∧ (¬ (((G 16081 1) - a3) - a1 < a2) → (inI (G 16081 1) → (inI ((G 16081 1) - a3) ∧ PX13_splice_58 J a1 a2 a3 ((G 16081 1) - a3) 0 0 G Q)))))))))))))))))))
set_option maxRecDepth 20000 in
theorem TX13_splice_0 {j : Nat → rx_K} {J : Nat → List Int → gS → (Int → gS → Prop) → Prop} {a1 : Int} {a2 : Int} {a3 : Int} {G : gS} {Q : Int → gS → Prop} (ha1 : inI a1) (ha2 : inI a2) (ha3 : inI a3) (hj0 : ∀ (l1 : Int) (l2 : Int) (l3 : Int) (l4 : Int) (l5 : Int) (l6 : Int) (G : gS), (inI l1) → (inI l2) → (inI l3) → (inI l4) → (inI l5) → (inI l6) → J 0 [l1, l2, l3, l4, l5, l6] G Q → Tg W0 (j 0) [rf (16081), cI (l1), cI (l2), cI (l3), cI (l4), cI (l5), cI (l6)] [] G (fun r G => ∃ v, r = cI v ∧ inI v ∧ Q v G)) (hj1 : ∀ (l1 : Int) (l2 : Int) (l3 : Int) (l4 : Int) (l5 : Int) (l6 : Int) (G : gS), (inI l1) → (inI l2) → (inI l3) → (inI l4) → (inI l5) → (inI l6) → J 1 [l1, l2, l3, l4, l5, l6] G Q → Tg W0 (j 1) [rf (16081), cI (l1), cI (l2), cI (l3), cI (l4), cI (l5), cI (l6)] [] G (fun r G => ∃ v, r = cI v ∧ inI v ∧ Q v G)) (hj2 : ∀ (l1 : Int) (l2 : Int) (l3 : Int) (l4 : Int) (l5 : Int) (l6 : Int) (G : gS), (inI l1) → (inI l2) → (inI l3) → (inI l4) → (inI l5) → (inI l6) → J 2 [l1, l2, l3, l4, l5, l6] G Q → Tg W0 (j 2) [rf (16081), cI (l1), cI (l2), cI (l3), cI (l4), cI (l5), cI (l6)] [] G (fun r G => ∃ v, r = cI v ∧ inI v ∧ Q v G)) (hj3 : ∀ (l1 : Int) (l2 : Int) (l3 : Int) (l4 : Int) (l5 : Int) (l6 : Int) (G : gS), (inI l1) → (inI l2) → (inI l3) → (inI l4) → (inI l5) → (inI l6) → J 3 [l1, l2, l3, l4, l5, l6] G Q → Tg W0 (j 3) [rf (16081), cI (l1), cI (l2), cI (l3), cI (l4), cI (l5), cI (l6)] [] G (fun r G => ∃ v, r = cI v ∧ inI v ∧ Q v G)) (h : PX13_splice_0 J a1 a2 a3 G Q) : Tg W0 (vX13_splice_0 j) [rf (16081), cI (a1), cI (a2), cI (a3), 7, 7, 7] [] G (fun r G => ∃ v, r = cI v ∧ inI v ∧ Q v G) := by
  unfold PX13_splice_0 at h
  unfold vX13_splice_0
  refine g_ld rfl (is_I _) ?_
  refine g_lt1 ha3 (fun b1 => ?_) (fun b1 => ?_)
  · replace h := h.1 b1
    exact TX13_splice_42 ha1 ha2 ha3 (show 7 % 8 ≠ 1 by decide) (show 7 % 8 ≠ 1 by decide) (show 7 % 8 ≠ 1 by decide) hj0 hj1 hj2 hj3 h
  · replace h := h.2 b1
    unfold vX13_splice_4
    refine g_ld rfl (is_I _) ?_
    refine g_ld rfl (is_R _) ?_
    refine g_getI (kz := 1) oC13 rfl (Nat.le_of_ble_eq_true rfl) rfl fun i2 => ?_
    replace h := h i2
    refine g_gt2 ha3 i2 (fun b3 => ?_) (fun b3 => ?_)
    · replace h := h.1 b3
      exact TX13_splice_42 ha1 ha2 ha3 (show 7 % 8 ≠ 1 by decide) (show 7 % 8 ≠ 1 by decide) (show 7 % 8 ≠ 1 by decide) hj0 hj1 hj2 hj3 h
    · replace h := h.2 b3
      unfold vX13_splice_12
      refine g_ld rfl (is_I _) ?_
      refine g_lt1 ha1 (fun b4 => ?_) (fun b4 => ?_)
      · replace h := h.1 b4
        exact TX13_splice_42 ha1 ha2 ha3 (show 7 % 8 ≠ 1 by decide) (show 7 % 8 ≠ 1 by decide) (show 7 % 8 ≠ 1 by decide) hj0 hj1 hj2 hj3 h
      · replace h := h.2 b4
        unfold vX13_splice_16
        refine g_ld rfl (is_I _) ?_
        refine g_ld rfl (is_R _) ?_
        refine g_getI (kz := 1) oC13 rfl (Nat.le_of_ble_eq_true rfl) rfl fun i5 => ?_
        replace h := h i5
        refine g_ld rfl (is_I _) ?_
        refine g_sub ?_
        obtain ⟨q6, h⟩ := h
        refine g_gt2 ha1 q6 (fun b7 => ?_) (fun b7 => ?_)
        · replace h := h.1 b7
          exact TX13_splice_42 ha1 ha2 ha3 (show 7 % 8 ≠ 1 by decide) (show 7 % 8 ≠ 1 by decide) (show 7 % 8 ≠ 1 by decide) hj0 hj1 hj2 hj3 h
        · replace h := h.2 b7
          unfold vX13_splice_26
          refine g_ld rfl (is_I _) ?_
          refine g_lt1 ha2 (fun b8 => ?_) (fun b8 => ?_)
          · replace h := h.1 b8
            exact TX13_splice_42 ha1 ha2 ha3 (show 7 % 8 ≠ 1 by decide) (show 7 % 8 ≠ 1 by decide) (show 7 % 8 ≠ 1 by decide) hj0 hj1 hj2 hj3 h
          · replace h := h.2 b8
            unfold vX13_splice_30
            refine g_ld rfl (is_I _) ?_
            refine g_ld rfl (is_R _) ?_
            refine g_getI (kz := 1) oC13 rfl (Nat.le_of_ble_eq_true rfl) rfl fun i9 => ?_
            replace h := h i9
            refine g_ld rfl (is_I _) ?_
            refine g_sub ?_
            refine g_ld rfl (is_I _) ?_
            refine g_sub ?_
            obtain ⟨q10, h⟩ := h
            refine g_gt2 ha2 q10 (fun b11 => ?_) (fun b11 => ?_)
            · replace h := h.1 b11
              exact TX13_splice_42 ha1 ha2 ha3 (show 7 % 8 ≠ 1 by decide) (show 7 % 8 ≠ 1 by decide) (show 7 % 8 ≠ 1 by decide) hj0 hj1 hj2 hj3 h
            · replace h := h.2 b11
              unfold vX13_splice_44
              refine g_ld rfl (is_R _) ?_
              refine g_getI (kz := 1) oC13 rfl (Nat.le_of_ble_eq_true rfl) rfl fun i12 => ?_
              replace h := h i12
              refine g_ld rfl (is_I _) ?_
              refine g_sub ?_
              refine g_st (lv' := [rf (16081), cI (a1), cI (a2), cI (a3), cI ((G 16081 1) - a3), 7, 7]) (is_I _) (Nat.le_of_ble_eq_true rfl) (Or.inr (n1_I _)) rfl ?_
              obtain ⟨q13, h⟩ := h
              refine g_const (v := cI (0)) rfl ?_
              refine g_st (lv' := [rf (16081), cI (a1), cI (a2), cI (a3), cI ((G 16081 1) - a3), cI (0), 7]) (is_I _) (Nat.le_of_ble_eq_true rfl) (Or.inr (n1_I _)) rfl ?_
              refine g_const (v := cI (0)) rfl ?_
              refine g_st (lv' := [rf (16081), cI (a1), cI (a2), cI (a3), cI ((G 16081 1) - a3), cI (0), cI (0)]) (is_I _) (Nat.le_of_ble_eq_true rfl) (Or.inr (n1_I _)) rfl ?_
              exact TX13_splice_58 ha1 ha2 ha3 q13 ⟨by omega, by omega⟩ ⟨by omega, by omega⟩ hj0 hj1 hj2 hj3 h
def PX13_splice_J : Nat → Nat → List Int → gS → (Int → gS → Prop) → Prop
  | 0, _, _, _, _ => False
  | f + 1, h, L, G, Q => match h, L with
    | 0, [l1, l2, l3, l4, l5, l6] => PX13_splice_58 (PX13_splice_J f) l1 l2 l3 l4 l5 l6 G Q
    | 1, [l1, l2, l3, l4, l5, l6] => PX13_splice_90 (PX13_splice_J f) l1 l2 l3 l4 l5 l6 G Q
    | 2, [l1, l2, l3, l4, l5, l6] => PX13_splice_127 (PX13_splice_J f) l1 l2 l3 l4 l5 l6 G Q
    | 3, [l1, l2, l3, l4, l5, l6] => PX13_splice_160 (PX13_splice_J f) l1 l2 l3 l4 l5 l6 G Q
    | _, _ => False
theorem TX13_splice_J {Q : Int → gS → Prop} : ∀ f N : Nat, f ≤ N → (∀ (l1 : Int) (l2 : Int) (l3 : Int) (l4 : Int) (l5 : Int) (l6 : Int) (G : gS), (inI l1) → (inI l2) → (inI l3) → (inI l4) → (inI l5) → (inI l6) → (PX13_splice_J f) 0 [l1, l2, l3, l4, l5, l6] G Q → Tg W0 (rx_J vhX13_splice N 0) [rf (16081), cI (l1), cI (l2), cI (l3), cI (l4), cI (l5), cI (l6)] [] G (fun r G => ∃ v, r = cI v ∧ inI v ∧ Q v G)) ∧ (∀ (l1 : Int) (l2 : Int) (l3 : Int) (l4 : Int) (l5 : Int) (l6 : Int) (G : gS), (inI l1) → (inI l2) → (inI l3) → (inI l4) → (inI l5) → (inI l6) → (PX13_splice_J f) 1 [l1, l2, l3, l4, l5, l6] G Q → Tg W0 (rx_J vhX13_splice N 1) [rf (16081), cI (l1), cI (l2), cI (l3), cI (l4), cI (l5), cI (l6)] [] G (fun r G => ∃ v, r = cI v ∧ inI v ∧ Q v G)) ∧ (∀ (l1 : Int) (l2 : Int) (l3 : Int) (l4 : Int) (l5 : Int) (l6 : Int) (G : gS), (inI l1) → (inI l2) → (inI l3) → (inI l4) → (inI l5) → (inI l6) → (PX13_splice_J f) 2 [l1, l2, l3, l4, l5, l6] G Q → Tg W0 (rx_J vhX13_splice N 2) [rf (16081), cI (l1), cI (l2), cI (l3), cI (l4), cI (l5), cI (l6)] [] G (fun r G => ∃ v, r = cI v ∧ inI v ∧ Q v G)) ∧ (∀ (l1 : Int) (l2 : Int) (l3 : Int) (l4 : Int) (l5 : Int) (l6 : Int) (G : gS), (inI l1) → (inI l2) → (inI l3) → (inI l4) → (inI l5) → (inI l6) → (PX13_splice_J f) 3 [l1, l2, l3, l4, l5, l6] G Q → Tg W0 (rx_J vhX13_splice N 3) [rf (16081), cI (l1), cI (l2), cI (l3), cI (l4), cI (l5), cI (l6)] [] G (fun r G => ∃ v, r = cI v ∧ inI v ∧ Q v G)) := by
  intro f
  induction f with
  | zero => exact fun N _ => ⟨fun _ _ _ _ _ _ _ _ _ _ _ _ _ h => h.elim, fun _ _ _ _ _ _ _ _ _ _ _ _ _ h => h.elim, fun _ _ _ _ _ _ _ _ _ _ _ _ _ h => h.elim, fun _ _ _ _ _ _ _ _ _ _ _ _ _ h => h.elim⟩
  | succ f ih =>
    intro N hN
    obtain ⟨M, rfl⟩ : ∃ M, N = M + 1 := ⟨N - 1, by omega⟩
    have ih := ih M (by omega)
    exact ⟨fun _ _ _ _ _ _ _ hl1 hl2 hl3 hl4 hl5 hl6 h => show Tg W0 (vX13_splice_58 (rx_J vhX13_splice M)) _ _ _ _ from TX13_splice_58 hl1 hl2 hl3 hl4 hl5 hl6 ih.1 ih.2.1 ih.2.2.1 ih.2.2.2 h, fun _ _ _ _ _ _ _ hl1 hl2 hl3 hl4 hl5 hl6 h => show Tg W0 (vX13_splice_90 (rx_J vhX13_splice M)) _ _ _ _ from TX13_splice_90 hl1 hl2 hl3 hl4 hl5 hl6 ih.1 ih.2.1 ih.2.2.1 ih.2.2.2 h, fun _ _ _ _ _ _ _ hl1 hl2 hl3 hl4 hl5 hl6 h => show Tg W0 (vX13_splice_127 (rx_J vhX13_splice M)) _ _ _ _ from TX13_splice_127 hl1 hl2 hl3 hl4 hl5 hl6 ih.1 ih.2.1 ih.2.2.1 ih.2.2.2 h, fun _ _ _ _ _ _ _ hl1 hl2 hl3 hl4 hl5 hl6 h => show Tg W0 (vX13_splice_160 (rx_J vhX13_splice M)) _ _ _ _ from TX13_splice_160 hl1 hl2 hl3 hl4 hl5 hl6 ih.1 ih.2.1 ih.2.2.1 ih.2.2.2 h⟩
def PX13_splice (a1 : Int) (a2 : Int) (a3 : Int) (G : gS) (Q : Int → gS → Prop) : Prop := ∃ f : Nat, f ≤ 4000000000 ∧ PX13_splice_0 (PX13_splice_J f) a1 a2 a3 G Q
theorem TX13_splice {a1 : Int} {a2 : Int} {a3 : Int} {G : gS} {Q : Int → gS → Prop} (ha1 : inI a1) (ha2 : inI a2) (ha3 : inI a3) (h : PX13_splice a1 a2 a3 G Q) : Tn W0 FX13_splice [rf (16081), cI (a1), cI (a2), cI (a3)] G (fun r G => ∃ v, r = cI v ∧ inI v ∧ Q v G) := by
  obtain ⟨f, hf, h⟩ := h
  have hJ := TX13_splice_J (Q := Q) f 4000000000 hf
  unfold FX13_splice
  refine g_ent (lv' := [rf (16081), cI (a1), cI (a2), cI (a3), 7, 7, 7]) (flR (flI (flI (flI fl0)))) (Nat.le_of_ble_eq_true rfl) rfl ?_
  exact TX13_splice_0 ha1 ha2 ha3 hJ.1 hJ.2.1 hJ.2.2.1 hJ.2.2.2 h
def PX13_kindAt_0 (a1 : Int) (G : gS) (Q : Int → gS → Prop) : Prop :=
  (inI (G 16081 19) → ((0 : Int) ≤ ((G 16081 19) * 702) + a1 ∧ ((((G 16081 19) * 702) + a1 : Int) < 12636 ∧ (inI (G 16090 (((G 16081 19) * 702) + a1)) → Q (G 16090 (((G 16081 19) * 702) + a1)) G))))
set_option maxRecDepth 20000 in
theorem TX13_kindAt_0 {a1 : Int} {G : gS} {Q : Int → gS → Prop} (ha1 : inI a1) (h : PX13_kindAt_0 a1 G Q) : Tg W0 vX13_kindAt_0 [rf (16081), cI (a1)] [] G (fun r G => ∃ v, r = cI v ∧ inI v ∧ Q v G) := by
  unfold PX13_kindAt_0 at h
  unfold vX13_kindAt_0
  refine g_ld rfl (is_R _) ?_
  refine g_getF (v := 16090) oC13 (hC13_11) rfl (Nat.le_of_ble_eq_true rfl) (Nat.le_of_ble_eq_true rfl) ?_
  refine g_ld rfl (is_R _) ?_
  refine g_getI (kz := 19) oC13 rfl (Nat.le_of_ble_eq_true rfl) rfl fun i1 => ?_
  replace h := h i1
  refine g_const (v := cI (702)) rfl ?_
  refine g_mul ?_
  refine g_ld rfl (is_I _) ?_
  refine g_add ?_
  obtain ⟨q2, q3, h⟩ := h
  refine g_aldI aC16090 q2 q3 rfl fun i4 => ?_
  replace h := h i4
  exact g_ret1 (is_I _) ⟨_, rfl, i4, h⟩
abbrev PX13_kindAt (a1 : Int) (G : gS) (Q : Int → gS → Prop) : Prop := PX13_kindAt_0 a1 G Q
theorem TX13_kindAt {a1 : Int} {G : gS} {Q : Int → gS → Prop} (ha1 : inI a1) (h : PX13_kindAt a1 G Q) : Tn W0 FX13_kindAt [rf (16081), cI (a1)] G (fun r G => ∃ v, r = cI v ∧ inI v ∧ Q v G) := by
  unfold FX13_kindAt
  refine g_ent (lv' := [rf (16081), cI (a1)]) (flR (flI fl0)) (Nat.le_of_ble_eq_true rfl) rfl ?_
  exact TX13_kindAt_0 ha1 h
def PX13_isSign_39 (l1 : Int) (s0 : Int) (G : gS) (Q : Int → gS → Prop) : Prop :=
  ((0 ≤ s0 ∧ s0 ≤ 1) ∧ Q (s0) G)
set_option maxRecDepth 20000 in
theorem TX13_isSign_39 {l1 : Int} {s0 : Int} {G : gS} {Q : Int → gS → Prop} (hl1 : inI l1) (hs0 : inI s0) (h : PX13_isSign_39 l1 s0 G Q) : Tg W0 vX13_isSign_39 [rf (16081), cI (l1)] [cI (s0)] G (fun r G => ∃ v, r = cI v ∧ (0 ≤ v ∧ v ≤ 1) ∧ Q v G) := by
  unfold PX13_isSign_39 at h
  unfold vX13_isSign_39
  obtain ⟨q12, h⟩ := h
  exact g_ret1 (is_Z q12) ⟨_, rfl, q12, h⟩
def PX13_isSign_38 (l1 : Int) (G : gS) (Q : Int → gS → Prop) : Prop :=
  PX13_isSign_39 l1 0 G Q
set_option maxRecDepth 20000 in
theorem TX13_isSign_38 {l1 : Int} {G : gS} {Q : Int → gS → Prop} (hl1 : inI l1) (h : PX13_isSign_38 l1 G Q) : Tg W0 vX13_isSign_38 [rf (16081), cI (l1)] [] G (fun r G => ∃ v, r = cI v ∧ (0 ≤ v ∧ v ≤ 1) ∧ Q v G) := by
  unfold PX13_isSign_38 at h
  unfold vX13_isSign_38
  refine g_const (v := cI (0)) rfl ?_
  exact TX13_isSign_39 hl1 ⟨by omega, by omega⟩ h
def PX13_isSign_0 (a1 : Int) (G : gS) (Q : Int → gS → Prop) : Prop :=
  (inI (G 16081 22) → PX13_kindAt (G 16081 22) G (fun r3 G2 => inI r3 → ((r3 = 5 → (inI (G2 16081 19) → (inI (G2 16081 22) → ((0 : Int) ≤ ((G2 16081 19) * 702) + (G2 16081 22) ∧ ((((G2 16081 19) * 702) + (G2 16081 22) : Int) < 12636 ∧ (inI (G2 16094 (((G2 16081 19) * 702) + (G2 16081 22))) → ((G2 16094 (((G2 16081 19) * 702) + (G2 16081 22)) = a1 → PX13_isSign_39 a1 1 G2 Q) ∧ (¬ (G2 16094 (((G2 16081 19) * 702) + (G2 16081 22)) = a1) → PX13_isSign_38 a1 G2 Q)))))))) ∧ (¬ (r3 = 5) → PX13_isSign_38 a1 G2 Q))))
set_option maxRecDepth 20000 in
theorem TX13_isSign_0 {a1 : Int} {G : gS} {Q : Int → gS → Prop} (ha1 : inI a1) (h : PX13_isSign_0 a1 G Q) : Tg W0 vX13_isSign_0 [rf (16081), cI (a1)] [] G (fun r G => ∃ v, r = cI v ∧ (0 ≤ v ∧ v ≤ 1) ∧ Q v G) := by
  unfold PX13_isSign_0 at h
  unfold vX13_isSign_0
  refine g_ld rfl (is_R _) ?_
  refine g_ld rfl (is_R _) ?_
  refine g_getI (kz := 22) oC13 rfl (Nat.le_of_ble_eq_true rfl) rfl fun i1 => ?_
  replace h := h i1
  refine g_callV (As := [cI (G 16081 22)]) (ci := 13) oC13 (fun _ => rfl) ?_
  refine g_go1 (Nat.le_of_ble_eq_true rfl) (Tn_w (TX13_kindAt i1 h) fun _ G2 ⟨r3, e, i4, h⟩ => ?_)
  subst e
  refine ⟨n7_I _, ?_⟩
  replace h := h i4
  refine g_const (v := cI (5)) rfl ?_
  refine g_eq2 i4 ⟨by omega, by omega⟩ (fun b5 => ?_) (fun b5 => ?_)
  · replace h := h.1 b5
    unfold vX13_isSign_12
    refine g_ld rfl (is_R _) ?_
    refine g_getF (v := 16094) oC13 (hC13_15) rfl (Nat.le_of_ble_eq_true rfl) (Nat.le_of_ble_eq_true rfl) ?_
    refine g_ld rfl (is_R _) ?_
    refine g_getI (kz := 19) oC13 rfl (Nat.le_of_ble_eq_true rfl) rfl fun i6 => ?_
    replace h := h i6
    refine g_const (v := cI (702)) rfl ?_
    refine g_mul ?_
    refine g_ld rfl (is_R _) ?_
    refine g_getI (kz := 22) oC13 rfl (Nat.le_of_ble_eq_true rfl) rfl fun i7 => ?_
    replace h := h i7
    refine g_add ?_
    obtain ⟨q8, q9, h⟩ := h
    refine g_aldI aC16094 q8 q9 rfl fun i10 => ?_
    replace h := h i10
    refine g_ld rfl (is_I _) ?_
    refine g_eq2 i10 ha1 (fun b11 => ?_) (fun b11 => ?_)
    · replace h := h.1 b11
      unfold vX13_isSign_34
      refine g_const (v := cI (1)) rfl ?_
      exact TX13_isSign_39 ha1 ⟨by omega, by omega⟩ h
    · replace h := h.2 b11
      exact TX13_isSign_38 ha1 h
  · replace h := h.2 b5
    exact TX13_isSign_38 ha1 h
abbrev PX13_isSign (a1 : Int) (G : gS) (Q : Int → gS → Prop) : Prop := PX13_isSign_0 a1 G Q
theorem TX13_isSign {a1 : Int} {G : gS} {Q : Int → gS → Prop} (ha1 : inI a1) (h : PX13_isSign a1 G Q) : Tn W0 FX13_isSign [rf (16081), cI (a1)] G (fun r G => ∃ v, r = cI v ∧ (0 ≤ v ∧ v ≤ 1) ∧ Q v G) := by
  unfold FX13_isSign
  refine g_ent (lv' := [rf (16081), cI (a1)]) (flR (flI fl0)) (Nat.le_of_ble_eq_true rfl) rfl ?_
  exact TX13_isSign_0 ha1 h
end DE

section DE
def PX13_outInt_42 (J : Nat → List Int → gS → (Int → gS → Prop) → Prop) (l1 : Int) (l3 : Int) (l5 : Int) (G : gS) (Q : Int → gS → Prop) : Prop :=
  ((0 < l5 → ((l5 ≠ 0) ∧ (inL (ldiv l3 l5) → (inL (lrem (ldiv l3 l5) 10) → (inI (l2i (lrem (ldiv l3 l5) 10)) → (inI (48 + (l2i (lrem (ldiv l3 l5) 10))) ∧ PX13_outByte (48 + (l2i (lrem (ldiv l3 l5) 10))) G (fun _ G15 => (inL (ldiv l5 10) → J 1 [l1, l3, ldiv l5 10] G15 Q)))))))) ∧ (¬ (0 < l5) → Q 0 G))
set_option maxRecDepth 20000 in
theorem TX13_outInt_42 {j : Nat → rx_K} {J : Nat → List Int → gS → (Int → gS → Prop) → Prop} {l1 : Int} {l2 : Nat} {l3 : Int} {l4 : Nat} {l5 : Int} {l6 : Nat} {G : gS} {Q : Int → gS → Prop} (hl1 : inL l1) (hl2 : l2 % 8 ≠ 1) (hl3 : inL l3) (hl4 : l4 % 8 ≠ 1) (hl5 : inL l5) (hl6 : l6 % 8 ≠ 1) (hj0 : ∀ (l1 : Int) (l2 : Nat) (l3 : Int) (l4 : Nat) (l5 : Int) (l6 : Nat) (G : gS), (inL l1) → (l2 % 8 ≠ 1) → (inL l3) → (l4 % 8 ≠ 1) → (inL l5) → (l6 % 8 ≠ 1) → J 0 [l1, l3, l5] G Q → Tg W0 (j 0) [rf (16081), cL (l1), l2, cL (l3), l4, cL (l5), l6] [] G (fun r G => r = 7 ∧ Q 0 G)) (hj1 : ∀ (l1 : Int) (l2 : Nat) (l3 : Int) (l4 : Nat) (l5 : Int) (l6 : Nat) (G : gS), (inL l1) → (l2 % 8 ≠ 1) → (inL l3) → (l4 % 8 ≠ 1) → (inL l5) → (l6 % 8 ≠ 1) → J 1 [l1, l3, l5] G Q → Tg W0 (j 1) [rf (16081), cL (l1), l2, cL (l3), l4, cL (l5), l6] [] G (fun r G => r = 7 ∧ Q 0 G)) (h : PX13_outInt_42 J l1 l3 l5 G Q) : Tg W0 (vX13_outInt_42 j) [rf (16081), cL (l1), l2, cL (l3), l4, cL (l5), l6] [] G (fun r G => r = 7 ∧ Q 0 G) := by
  unfold PX13_outInt_42 at h
  unfold vX13_outInt_42
  refine g_ld (v := cL _) rfl (is_L _) ?_
  refine g_const (v := cL (0)) rfl ?_
  refine g_lgt hl5 ⟨by omega, by omega⟩ (fun b9 => ?_) (fun b9 => ?_)
  · replace h := h.1 b9
    unfold vX13_outInt_49
    refine g_ld (v := rf _) rfl (is_R _) ?_
    refine g_const (v := cI (48)) rfl ?_
    refine g_ld (v := cL _) rfl (is_L _) ?_
    refine g_ld (v := cL _) rfl (is_L _) ?_
    obtain ⟨q11, h⟩ := h
    refine g_ldiv hl5 q11 fun i10 => ?_
    replace h := h i10
    refine g_const (v := cL (10)) rfl ?_
    refine g_lrem ⟨by omega, by omega⟩ (by omega) fun i12 => ?_
    replace h := h i12
    refine g_l2i fun i13 => ?_
    replace h := h i13
    refine g_add ?_
    obtain ⟨q14, h⟩ := h
    refine g_callV (As := [_]) (ci := 13) oC13 (fun _ => rfl) ?_
    refine g_go0 (Nat.le_of_ble_eq_true rfl) (Tn_w (TX13_outByte q14 h) fun _ G15 ⟨e, h⟩ => ⟨e, ?_⟩)
    refine g_ld (v := cL _) rfl (is_L _) ?_
    refine g_const (v := cL (10)) rfl ?_
    refine g_ldiv ⟨by omega, by omega⟩ (by omega) fun i17 => ?_
    replace h := h i17
    refine g_stL (lv' := [_, _, _, _, _, _, _]) (Nat.le_of_ble_eq_true rfl) (Or.inr hl4) rfl ?_
    exact hj1 _ _ _ _ _ _ _ hl1 hl2 hl3 hl4 i17 (show 7 % 8 ≠ 1 by decide) h
  · replace h := h.2 b9
    unfold vX13_outInt_76
    exact g_ret0 ⟨rfl, h⟩
def PX13_outInt_20 (J : Nat → List Int → gS → (Int → gS → Prop) → Prop) (l1 : Int) (l3 : Int) (l5 : Int) (G : gS) (Q : Int → gS → Prop) : Prop :=
  ((l5 ≠ 0) ∧ (inL (ldiv l3 l5) → ((ldiv l3 l5 < 10 → PX13_outInt_42 J l1 l3 l5 G Q) ∧ (¬ (ldiv l3 l5 < 10) → (inL (l5 * 10) ∧ J 0 [l1, l3, l5 * 10] G Q)))))
set_option maxRecDepth 20000 in
theorem TX13_outInt_20 {j : Nat → rx_K} {J : Nat → List Int → gS → (Int → gS → Prop) → Prop} {l1 : Int} {l2 : Nat} {l3 : Int} {l4 : Nat} {l5 : Int} {l6 : Nat} {G : gS} {Q : Int → gS → Prop} (hl1 : inL l1) (hl2 : l2 % 8 ≠ 1) (hl3 : inL l3) (hl4 : l4 % 8 ≠ 1) (hl5 : inL l5) (hl6 : l6 % 8 ≠ 1) (hj0 : ∀ (l1 : Int) (l2 : Nat) (l3 : Int) (l4 : Nat) (l5 : Int) (l6 : Nat) (G : gS), (inL l1) → (l2 % 8 ≠ 1) → (inL l3) → (l4 % 8 ≠ 1) → (inL l5) → (l6 % 8 ≠ 1) → J 0 [l1, l3, l5] G Q → Tg W0 (j 0) [rf (16081), cL (l1), l2, cL (l3), l4, cL (l5), l6] [] G (fun r G => r = 7 ∧ Q 0 G)) (hj1 : ∀ (l1 : Int) (l2 : Nat) (l3 : Int) (l4 : Nat) (l5 : Int) (l6 : Nat) (G : gS), (inL l1) → (l2 % 8 ≠ 1) → (inL l3) → (l4 % 8 ≠ 1) → (inL l5) → (l6 % 8 ≠ 1) → J 1 [l1, l3, l5] G Q → Tg W0 (j 1) [rf (16081), cL (l1), l2, cL (l3), l4, cL (l5), l6] [] G (fun r G => r = 7 ∧ Q 0 G)) (h : PX13_outInt_20 J l1 l3 l5 G Q) : Tg W0 (vX13_outInt_20 j) [rf (16081), cL (l1), l2, cL (l3), l4, cL (l5), l6] [] G (fun r G => r = 7 ∧ Q 0 G) := by
  unfold PX13_outInt_20 at h
  unfold vX13_outInt_20
  refine g_ld (v := cL _) rfl (is_L _) ?_
  refine g_ld (v := cL _) rfl (is_L _) ?_
  obtain ⟨q6, h⟩ := h
  refine g_ldiv hl5 q6 fun i5 => ?_
  replace h := h i5
  refine g_const (v := cL (10)) rfl ?_
  refine g_llt i5 ⟨by omega, by omega⟩ (fun b7 => ?_) (fun b7 => ?_)
  · replace h := h.1 b7
    exact TX13_outInt_42 hl1 hl2 hl3 hl4 hl5 hl6 hj0 hj1 h
  · replace h := h.2 b7
    unfold vX13_outInt_31
    refine g_ld (v := cL _) rfl (is_L _) ?_
    refine g_const (v := cL (10)) rfl ?_
    refine g_lmul ?_
    refine g_stL (lv' := [_, _, _, _, _, _, _]) (Nat.le_of_ble_eq_true rfl) (Or.inr hl4) rfl ?_
    obtain ⟨q8, h⟩ := h
    exact hj0 _ _ _ _ _ _ _ hl1 hl2 hl3 hl4 q8 (show 7 % 8 ≠ 1 by decide) h
def PX13_outInt_17 (J : Nat → List Int → gS → (Int → gS → Prop) → Prop) (l1 : Int) (l3 : Int) (G : gS) (Q : Int → gS → Prop) : Prop :=
  PX13_outInt_20 J l1 l3 1 G Q
set_option maxRecDepth 20000 in
theorem TX13_outInt_17 {j : Nat → rx_K} {J : Nat → List Int → gS → (Int → gS → Prop) → Prop} {l1 : Int} {l2 : Nat} {l3 : Int} {l4 : Nat} {l5 : Nat} {l6 : Nat} {G : gS} {Q : Int → gS → Prop} (hl1 : inL l1) (hl2 : l2 % 8 ≠ 1) (hl3 : inL l3) (hl4 : l4 % 8 ≠ 1) (hl5 : l5 % 8 ≠ 1) (hl6 : l6 % 8 ≠ 1) (hj0 : ∀ (l1 : Int) (l2 : Nat) (l3 : Int) (l4 : Nat) (l5 : Int) (l6 : Nat) (G : gS), (inL l1) → (l2 % 8 ≠ 1) → (inL l3) → (l4 % 8 ≠ 1) → (inL l5) → (l6 % 8 ≠ 1) → J 0 [l1, l3, l5] G Q → Tg W0 (j 0) [rf (16081), cL (l1), l2, cL (l3), l4, cL (l5), l6] [] G (fun r G => r = 7 ∧ Q 0 G)) (hj1 : ∀ (l1 : Int) (l2 : Nat) (l3 : Int) (l4 : Nat) (l5 : Int) (l6 : Nat) (G : gS), (inL l1) → (l2 % 8 ≠ 1) → (inL l3) → (l4 % 8 ≠ 1) → (inL l5) → (l6 % 8 ≠ 1) → J 1 [l1, l3, l5] G Q → Tg W0 (j 1) [rf (16081), cL (l1), l2, cL (l3), l4, cL (l5), l6] [] G (fun r G => r = 7 ∧ Q 0 G)) (h : PX13_outInt_17 J l1 l3 G Q) : Tg W0 (vX13_outInt_17 j) [rf (16081), cL (l1), l2, cL (l3), l4, l5, l6] [] G (fun r G => r = 7 ∧ Q 0 G) := by
  unfold PX13_outInt_17 at h
  unfold vX13_outInt_17
  refine g_const (v := cL (1)) rfl ?_
  refine g_stL (lv' := [_, _, _, _, _, _, _]) (Nat.le_of_ble_eq_true rfl) (Or.inr hl4) rfl ?_
  exact TX13_outInt_20 hl1 hl2 hl3 hl4 ⟨by omega, by omega⟩ (show 7 % 8 ≠ 1 by decide) hj0 hj1 h
def PX13_outInt_0 (J : Nat → List Int → gS → (Int → gS → Prop) → Prop) (a1 : Int) (G : gS) (Q : Int → gS → Prop) : Prop :=
  ((a1 < 0 → PX13_outByte 45 G (fun _ G2 => (inL (-a1) ∧ PX13_outInt_17 J a1 (-a1) G2 Q))) ∧ (¬ (a1 < 0) → PX13_outInt_17 J a1 a1 G Q))
set_option maxRecDepth 20000 in
theorem TX13_outInt_0 {j : Nat → rx_K} {J : Nat → List Int → gS → (Int → gS → Prop) → Prop} {a1 : Int} {G : gS} {Q : Int → gS → Prop} (ha1 : inL a1) (hj0 : ∀ (l1 : Int) (l2 : Nat) (l3 : Int) (l4 : Nat) (l5 : Int) (l6 : Nat) (G : gS), (inL l1) → (l2 % 8 ≠ 1) → (inL l3) → (l4 % 8 ≠ 1) → (inL l5) → (l6 % 8 ≠ 1) → J 0 [l1, l3, l5] G Q → Tg W0 (j 0) [rf (16081), cL (l1), l2, cL (l3), l4, cL (l5), l6] [] G (fun r G => r = 7 ∧ Q 0 G)) (hj1 : ∀ (l1 : Int) (l2 : Nat) (l3 : Int) (l4 : Nat) (l5 : Int) (l6 : Nat) (G : gS), (inL l1) → (l2 % 8 ≠ 1) → (inL l3) → (l4 % 8 ≠ 1) → (inL l5) → (l6 % 8 ≠ 1) → J 1 [l1, l3, l5] G Q → Tg W0 (j 1) [rf (16081), cL (l1), l2, cL (l3), l4, cL (l5), l6] [] G (fun r G => r = 7 ∧ Q 0 G)) (h : PX13_outInt_0 J a1 G Q) : Tg W0 (vX13_outInt_0 j) [rf (16081), cL (a1), 7, 7, 7, 7, 7] [] G (fun r G => r = 7 ∧ Q 0 G) := by
  unfold PX13_outInt_0 at h
  unfold vX13_outInt_0
  refine g_ld (v := cL _) rfl (is_L _) ?_
  refine g_stL (lv' := [_, _, _, _, _, _, _]) (Nat.le_of_ble_eq_true rfl) (Or.inr (show 7 % 8 ≠ 1 by decide)) rfl ?_
  refine g_ld (v := cL _) rfl (is_L _) ?_
  refine g_const (v := cL (0)) rfl ?_
  refine g_llt ha1 ⟨by omega, by omega⟩ (fun b1 => ?_) (fun b1 => ?_)
  · replace h := h.1 b1
    unfold vX13_outInt_8
    refine g_ld (v := rf _) rfl (is_R _) ?_
    refine g_const (v := cI (45)) rfl ?_
    refine g_callV (As := [_]) (ci := 13) oC13 (fun _ => rfl) ?_
    refine g_go0 (Nat.le_of_ble_eq_true rfl) (Tn_w (TX13_outByte ⟨by omega, by omega⟩ h) fun _ G2 ⟨e, h⟩ => ⟨e, ?_⟩)
    refine g_ld (v := cL _) rfl (is_L _) ?_
    refine g_lneg ?_
    refine g_stL (lv' := [_, _, _, _, _, _, _]) (Nat.le_of_ble_eq_true rfl) (Or.inr (show 7 % 8 ≠ 1 by decide)) rfl ?_
    obtain ⟨q4, h⟩ := h
    exact TX13_outInt_17 ha1 (show 7 % 8 ≠ 1 by decide) q4 (show 7 % 8 ≠ 1 by decide) (show 7 % 8 ≠ 1 by decide) (show 7 % 8 ≠ 1 by decide) hj0 hj1 h
  · replace h := h.2 b1
    exact TX13_outInt_17 ha1 (show 7 % 8 ≠ 1 by decide) ha1 (show 7 % 8 ≠ 1 by decide) (show 7 % 8 ≠ 1 by decide) (show 7 % 8 ≠ 1 by decide) hj0 hj1 h
def PX13_outInt_J : Nat → Nat → List Int → gS → (Int → gS → Prop) → Prop
  | 0, _, _, _, _ => False
  | f + 1, h, L, G, Q => match h, L with
    | 0, [l1, l3, l5] => PX13_outInt_20 (PX13_outInt_J f) l1 l3 l5 G Q
    | 1, [l1, l3, l5] => PX13_outInt_42 (PX13_outInt_J f) l1 l3 l5 G Q
    | _, _ => False
theorem TX13_outInt_J {Q : Int → gS → Prop} : ∀ f N : Nat, f ≤ N → (∀ (l1 : Int) (l2 : Nat) (l3 : Int) (l4 : Nat) (l5 : Int) (l6 : Nat) (G : gS), (inL l1) → (l2 % 8 ≠ 1) → (inL l3) → (l4 % 8 ≠ 1) → (inL l5) → (l6 % 8 ≠ 1) → (PX13_outInt_J f) 0 [l1, l3, l5] G Q → Tg W0 (rx_J vhX13_outInt N 0) [rf (16081), cL (l1), l2, cL (l3), l4, cL (l5), l6] [] G (fun r G => r = 7 ∧ Q 0 G)) ∧ (∀ (l1 : Int) (l2 : Nat) (l3 : Int) (l4 : Nat) (l5 : Int) (l6 : Nat) (G : gS), (inL l1) → (l2 % 8 ≠ 1) → (inL l3) → (l4 % 8 ≠ 1) → (inL l5) → (l6 % 8 ≠ 1) → (PX13_outInt_J f) 1 [l1, l3, l5] G Q → Tg W0 (rx_J vhX13_outInt N 1) [rf (16081), cL (l1), l2, cL (l3), l4, cL (l5), l6] [] G (fun r G => r = 7 ∧ Q 0 G)) := by
  intro f
  induction f with
  | zero => exact fun N _ => ⟨fun _ _ _ _ _ _ _ _ _ _ _ _ _ h => h.elim, fun _ _ _ _ _ _ _ _ _ _ _ _ _ h => h.elim⟩
  | succ f ih =>
    intro N hN
    obtain ⟨M, rfl⟩ : ∃ M, N = M + 1 := ⟨N - 1, by omega⟩
    have ih := ih M (by omega)
    exact ⟨fun _ _ _ _ _ _ _ hl1 hl2 hl3 hl4 hl5 hl6 h => show Tg W0 (vX13_outInt_20 (rx_J vhX13_outInt M)) _ _ _ _ from TX13_outInt_20 hl1 hl2 hl3 hl4 hl5 hl6 ih.1 ih.2 h, fun _ _ _ _ _ _ _ hl1 hl2 hl3 hl4 hl5 hl6 h => show Tg W0 (vX13_outInt_42 (rx_J vhX13_outInt M)) _ _ _ _ from TX13_outInt_42 hl1 hl2 hl3 hl4 hl5 hl6 ih.1 ih.2 h⟩
def PX13_outInt (a1 : Int) (G : gS) (Q : Int → gS → Prop) : Prop := ∃ f : Nat, f ≤ 4000000000 ∧ PX13_outInt_0 (PX13_outInt_J f) a1 G Q
theorem TX13_outInt {a1 : Int} {G : gS} {Q : Int → gS → Prop} (ha1 : inL a1) (h : PX13_outInt a1 G Q) : Tn W0 FX13_outInt [rf (16081), cL (a1)] G (fun r G => r = 7 ∧ Q 0 G) := by
  obtain ⟨f, hf, h⟩ := h
  have hJ := TX13_outInt_J (Q := Q) f 4000000000 hf
  unfold FX13_outInt
  refine g_ent (lv' := [rf (16081), cL (a1), 7, 7, 7, 7, 7]) (flR (flL fl0)) (Nat.le_of_ble_eq_true rfl) rfl ?_
  exact TX13_outInt_0 ha1 hJ.1 hJ.2 h
def PX13_four_3 (J : Nat → List Int → gS → (Int → gS → Prop) → Prop) (l1 : Int) (l2 : Int) (G : gS) (Q : Int → gS → Prop) : Prop :=
  ((l2 < 0 → Q 0 G) ∧ (¬ (l2 < 0) → (inI (G 16081 1) → (inI (iush l1 l2) → (inI (iand (iush l1 l2) 255) → ((0 : Int) ≤ G 16081 1 ∧ ((G 16081 1 : Int) < 4000 ∧ (∀ G7 : gS, G7 = uG G 16082 (G 16081 1) (iand (iush l1 l2) 255) → (inI (G7 16081 1) → (inI ((G7 16081 1) + 1) ∧ (∀ G10 : gS, G10 = uG G7 16081 1 ((G7 16081 1) + 1) → (inI (l2 + (-8)) ∧ J 0 [l1, l2 + (-8)] G10 Q))))))))))))
set_option maxRecDepth 20000 in
theorem TX13_four_3 {j : Nat → rx_K} {J : Nat → List Int → gS → (Int → gS → Prop) → Prop} {l1 : Int} {l2 : Int} {G : gS} {Q : Int → gS → Prop} (hl1 : inI l1) (hl2 : inI l2) (hj0 : ∀ (l1 : Int) (l2 : Int) (G : gS), (inI l1) → (inI l2) → J 0 [l1, l2] G Q → Tg W0 (j 0) [rf (16081), cI (l1), cI (l2)] [] G (fun r G => r = 7 ∧ Q 0 G)) (h : PX13_four_3 J l1 l2 G Q) : Tg W0 (vX13_four_3 j) [rf (16081), cI (l1), cI (l2)] [] G (fun r G => r = 7 ∧ Q 0 G) := by
  unfold PX13_four_3 at h
  unfold vX13_four_3
  refine g_ld (v := cI _) rfl (is_I _) ?_
  refine g_lt1 hl2 (fun b1 => ?_) (fun b1 => ?_)
  · replace h := h.1 b1
    unfold vX13_four_39
    exact g_ret0 ⟨rfl, h⟩
  · replace h := h.2 b1
    unfold vX13_four_7
    refine g_ld (v := rf _) rfl (is_R _) ?_
    refine g_getF (v := 16082) oC13 (hC13_0) rfl (Nat.le_of_ble_eq_true rfl) (Nat.le_of_ble_eq_true rfl) ?_
    refine g_ld (v := rf _) rfl (is_R _) ?_
    refine g_getI (kz := 1) oC13 rfl (Nat.le_of_ble_eq_true rfl) rfl fun i2 => ?_
    replace h := h i2
    refine g_ld (v := cI _) rfl (is_I _) ?_
    refine g_ld (v := cI _) rfl (is_I _) ?_
    refine g_iush fun i3 => ?_
    replace h := h i3
    refine g_const (v := cI (255)) rfl ?_
    refine g_iand fun i4 => ?_
    replace h := h i4
    obtain ⟨q5, q6, h⟩ := h
    refine g_astI aC16082 q5 q6 i4 (nfI aC16082) ?_
    replace h := h _ rfl
    refine g_ld (v := rf _) rfl (is_R _) ?_
    refine g_dup (ct_R _) ?_
    refine g_getI (kz := 1) oC13 rfl (Nat.le_of_ble_eq_true rfl) rfl fun i8 => ?_
    replace h := h i8
    refine g_const (v := cI (1)) rfl ?_
    refine g_add ?_
    obtain ⟨q9, h⟩ := h
    refine g_putI (kz := 1) oC13 rfl (Nat.le_of_ble_eq_true rfl) rfl q9 (zfin_no (c := 16081) (j := 1) rfl) ?_
    replace h := h _ rfl
    refine g_inc (lv' := [_, _, _]) rfl (Nat.le_of_ble_eq_true rfl) (Or.inr (n1_I _)) rfl ?_
    obtain ⟨q11, h⟩ := h
    exact hj0 _ _ _ hl1 q11 h
def PX13_four_0 (J : Nat → List Int → gS → (Int → gS → Prop) → Prop) (a1 : Int) (G : gS) (Q : Int → gS → Prop) : Prop :=
  PX13_four_3 J a1 24 G Q
set_option maxRecDepth 20000 in
theorem TX13_four_0 {j : Nat → rx_K} {J : Nat → List Int → gS → (Int → gS → Prop) → Prop} {a1 : Int} {G : gS} {Q : Int → gS → Prop} (ha1 : inI a1) (hj0 : ∀ (l1 : Int) (l2 : Int) (G : gS), (inI l1) → (inI l2) → J 0 [l1, l2] G Q → Tg W0 (j 0) [rf (16081), cI (l1), cI (l2)] [] G (fun r G => r = 7 ∧ Q 0 G)) (h : PX13_four_0 J a1 G Q) : Tg W0 (vX13_four_0 j) [rf (16081), cI (a1), 7] [] G (fun r G => r = 7 ∧ Q 0 G) := by
  unfold PX13_four_0 at h
  unfold vX13_four_0
  refine g_const (v := cI (24)) rfl ?_
  refine g_st (lv' := [_, _, _]) (is_I _) (Nat.le_of_ble_eq_true rfl) (Or.inr (n1_I _)) rfl ?_
  exact TX13_four_3 ha1 ⟨by omega, by omega⟩ hj0 h
def PX13_four_J : Nat → Nat → List Int → gS → (Int → gS → Prop) → Prop
  | 0, _, _, _, _ => False
  | f + 1, h, L, G, Q => match h, L with
    | 0, [l1, l2] => PX13_four_3 (PX13_four_J f) l1 l2 G Q
    | _, _ => False
theorem TX13_four_J {Q : Int → gS → Prop} : ∀ f N : Nat, f ≤ N → (∀ (l1 : Int) (l2 : Int) (G : gS), (inI l1) → (inI l2) → (PX13_four_J f) 0 [l1, l2] G Q → Tg W0 (rx_J vhX13_four N 0) [rf (16081), cI (l1), cI (l2)] [] G (fun r G => r = 7 ∧ Q 0 G)) := by
  intro f
  induction f with
  | zero => exact fun N _ => fun _ _ _ _ _ h => h.elim
  | succ f ih =>
    intro N hN
    obtain ⟨M, rfl⟩ : ∃ M, N = M + 1 := ⟨N - 1, by omega⟩
    have ih := ih M (by omega)
    exact fun _ _ _ hl1 hl2 h => show Tg W0 (vX13_four_3 (rx_J vhX13_four M)) _ _ _ _ from TX13_four_3 hl1 hl2 ih h
def PX13_four (a1 : Int) (G : gS) (Q : Int → gS → Prop) : Prop := ∃ f : Nat, f ≤ 4000000000 ∧ PX13_four_0 (PX13_four_J f) a1 G Q
theorem TX13_four {a1 : Int} {G : gS} {Q : Int → gS → Prop} (ha1 : inI a1) (h : PX13_four a1 G Q) : Tn W0 FX13_four [rf (16081), cI (a1)] G (fun r G => r = 7 ∧ Q 0 G) := by
  obtain ⟨f, hf, h⟩ := h
  have hJ := TX13_four_J (Q := Q) f 4000000000 hf
  unfold FX13_four
  refine g_ent (lv' := [rf (16081), cI (a1), 7]) (flR (flI fl0)) (Nat.le_of_ble_eq_true rfl) rfl ?_
  exact TX13_four_0 ha1 hJ h
def PX13_feed_0 (a1 : Int) (a2 : Int) (a3 : Int) (a4 : Int) (a5 : Int) (G : gS) (Q : Int → gS → Prop) : Prop :=
  (inI (G 16081 1) → (inI ((G 16081 1) + 20) ∧ ((4000 < (G 16081 1) + 20 → Q (-3) G) ∧ (¬ (4000 < (G 16081 1) + 20) → PX13_four a1 G (fun _ G4 => PX13_four a2 G4 (fun _ G6 => PX13_four a3 G6 (fun _ G8 => PX13_four a4 G8 (fun _ G10 => PX13_four a5 G10 (fun _ G12 => (inI (G12 16081 1) → Q (G12 16081 1) G12))))))))))
set_option maxRecDepth 20000 in
theorem TX13_feed_0 {a1 : Int} {a2 : Int} {a3 : Int} {a4 : Int} {a5 : Int} {G : gS} {Q : Int → gS → Prop} (ha1 : inI a1) (ha2 : inI a2) (ha3 : inI a3) (ha4 : inI a4) (ha5 : inI a5) (h : PX13_feed_0 a1 a2 a3 a4 a5 G Q) : Tg W0 vX13_feed_0 [rf (16081), cI (a1), cI (a2), cI (a3), cI (a4), cI (a5)] [] G (fun r G => ∃ v, r = cI v ∧ inI v ∧ Q v G) := by
  unfold PX13_feed_0 at h
  unfold vX13_feed_0
  refine g_ld (v := rf _) rfl (is_R _) ?_
  refine g_getI (kz := 1) oC13 rfl (Nat.le_of_ble_eq_true rfl) rfl fun i1 => ?_
  replace h := h i1
  refine g_const (v := cI (20)) rfl ?_
  refine g_add ?_
  refine g_const (v := cI (4000)) rfl ?_
  obtain ⟨q2, h⟩ := h
  refine g_gt2 q2 ⟨by omega, by omega⟩ (fun b3 => ?_) (fun b3 => ?_)
  · replace h := h.1 b3
    unfold vX13_feed_13
    refine g_const (v := cI (-3)) rfl ?_
    exact g_ret1 (is_I _) ⟨_, rfl, ⟨by omega, by omega⟩, h⟩
  · replace h := h.2 b3
    unfold vX13_feed_16
    refine g_ld (v := rf _) rfl (is_R _) ?_
    refine g_ld (v := cI _) rfl (is_I _) ?_
    refine g_callV (As := [_]) (ci := 13) oC13 (fun _ => rfl) ?_
    refine g_go0 (Nat.le_of_ble_eq_true rfl) (Tn_w (TX13_four ha1 h) fun _ G4 ⟨e, h⟩ => ⟨e, ?_⟩)
    refine g_ld (v := rf _) rfl (is_R _) ?_
    refine g_ld (v := cI _) rfl (is_I _) ?_
    refine g_callV (As := [_]) (ci := 13) oC13 (fun _ => rfl) ?_
    refine g_go0 (Nat.le_of_ble_eq_true rfl) (Tn_w (TX13_four ha2 h) fun _ G6 ⟨e, h⟩ => ⟨e, ?_⟩)
    refine g_ld (v := rf _) rfl (is_R _) ?_
    refine g_ld (v := cI _) rfl (is_I _) ?_
    refine g_callV (As := [_]) (ci := 13) oC13 (fun _ => rfl) ?_
    refine g_go0 (Nat.le_of_ble_eq_true rfl) (Tn_w (TX13_four ha3 h) fun _ G8 ⟨e, h⟩ => ⟨e, ?_⟩)
    refine g_ld (v := rf _) rfl (is_R _) ?_
    refine g_ld (v := cI _) rfl (is_I _) ?_
    refine g_callV (As := [_]) (ci := 13) oC13 (fun _ => rfl) ?_
    refine g_go0 (Nat.le_of_ble_eq_true rfl) (Tn_w (TX13_four ha4 h) fun _ G10 ⟨e, h⟩ => ⟨e, ?_⟩)
    refine g_ld (v := rf _) rfl (is_R _) ?_
    refine g_ld (v := cI _) rfl (is_I _) ?_
    refine g_callV (As := [_]) (ci := 13) oC13 (fun _ => rfl) ?_
    refine g_go0 (Nat.le_of_ble_eq_true rfl) (Tn_w (TX13_four ha5 h) fun _ G12 ⟨e, h⟩ => ⟨e, ?_⟩)
    refine g_ld (v := rf _) rfl (is_R _) ?_
    refine g_getI (kz := 1) oC13 rfl (Nat.le_of_ble_eq_true rfl) rfl fun i14 => ?_
    replace h := h i14
    exact g_ret1 (is_I _) ⟨_, rfl, i14, h⟩
abbrev PX13_feed (a1 : Int) (a2 : Int) (a3 : Int) (a4 : Int) (a5 : Int) (G : gS) (Q : Int → gS → Prop) : Prop := PX13_feed_0 a1 a2 a3 a4 a5 G Q
theorem TX13_feed {a1 : Int} {a2 : Int} {a3 : Int} {a4 : Int} {a5 : Int} {G : gS} {Q : Int → gS → Prop} (ha1 : inI a1) (ha2 : inI a2) (ha3 : inI a3) (ha4 : inI a4) (ha5 : inI a5) (h : PX13_feed a1 a2 a3 a4 a5 G Q) : Tn W0 FX13_feed [rf (16081), cI (a1), cI (a2), cI (a3), cI (a4), cI (a5)] G (fun r G => ∃ v, r = cI v ∧ inI v ∧ Q v G) := by
  unfold FX13_feed
  refine g_ent (lv' := [rf (16081), cI (a1), cI (a2), cI (a3), cI (a4), cI (a5)]) (flR (flI (flI (flI (flI (flI fl0)))))) (Nat.le_of_ble_eq_true rfl) rfl ?_
  exact TX13_feed_0 ha1 ha2 ha3 ha4 ha5 h
def PX13_cut_12 (l1 : Int) (G : gS) (Q : Int → gS → Prop) : Prop :=
  Q (-1) G
set_option maxRecDepth 20000 in
theorem TX13_cut_12 {l1 : Int} {G : gS} {Q : Int → gS → Prop} (hl1 : inI l1) (h : PX13_cut_12 l1 G Q) : Tg W0 vX13_cut_12 [rf (16081), cI (l1)] [] G (fun r G => ∃ v, r = cI v ∧ inI v ∧ Q v G) := by
  unfold PX13_cut_12 at h
  unfold vX13_cut_12
  refine g_const (v := cI (-1)) rfl ?_
  exact g_ret1 (is_I _) ⟨_, rfl, ⟨by omega, by omega⟩, h⟩
def PX13_cut_0 (a1 : Int) (G : gS) (Q : Int → gS → Prop) : Prop :=
  ((a1 < 0 → PX13_cut_12 a1 G Q) ∧ (¬ (a1 < 0) → (inI (G 16081 1) → ((G 16081 1 < a1 → PX13_cut_12 a1 G Q) ∧ (¬ (G 16081 1 < a1) → (inI (G 16081 1) → (inI ((G 16081 1) - a1) ∧ (∀ G6 : gS, G6 = uG G 16081 1 ((G 16081 1) - a1) → (inI (G6 16081 1) → Q (G6 16081 1) G6)))))))))
set_option maxRecDepth 20000 in
theorem TX13_cut_0 {a1 : Int} {G : gS} {Q : Int → gS → Prop} (ha1 : inI a1) (h : PX13_cut_0 a1 G Q) : Tg W0 vX13_cut_0 [rf (16081), cI (a1)] [] G (fun r G => ∃ v, r = cI v ∧ inI v ∧ Q v G) := by
  unfold PX13_cut_0 at h
  unfold vX13_cut_0
  refine g_ld (v := cI _) rfl (is_I _) ?_
  refine g_lt1 ha1 (fun b1 => ?_) (fun b1 => ?_)
  · replace h := h.1 b1
    exact TX13_cut_12 ha1 h
  · replace h := h.2 b1
    unfold vX13_cut_4
    refine g_ld (v := cI _) rfl (is_I _) ?_
    refine g_ld (v := rf _) rfl (is_R _) ?_
    refine g_getI (kz := 1) oC13 rfl (Nat.le_of_ble_eq_true rfl) rfl fun i2 => ?_
    replace h := h i2
    refine g_gt2 ha1 i2 (fun b3 => ?_) (fun b3 => ?_)
    · replace h := h.1 b3
      exact TX13_cut_12 ha1 h
    · replace h := h.2 b3
      unfold vX13_cut_14
      refine g_ld (v := rf _) rfl (is_R _) ?_
      refine g_dup (ct_R _) ?_
      refine g_getI (kz := 1) oC13 rfl (Nat.le_of_ble_eq_true rfl) rfl fun i4 => ?_
      replace h := h i4
      refine g_ld (v := cI _) rfl (is_I _) ?_
      refine g_sub ?_
      obtain ⟨q5, h⟩ := h
      refine g_putI (kz := 1) oC13 rfl (Nat.le_of_ble_eq_true rfl) rfl q5 (zfin_no (c := 16081) (j := 1) rfl) ?_
      replace h := h _ rfl
      refine g_ld (v := rf _) rfl (is_R _) ?_
      refine g_getI (kz := 1) oC13 rfl (Nat.le_of_ble_eq_true rfl) rfl fun i7 => ?_
      replace h := h i7
      exact g_ret1 (is_I _) ⟨_, rfl, i7, h⟩
abbrev PX13_cut (a1 : Int) (G : gS) (Q : Int → gS → Prop) : Prop := PX13_cut_0 a1 G Q
theorem TX13_cut {a1 : Int} {G : gS} {Q : Int → gS → Prop} (ha1 : inI a1) (h : PX13_cut a1 G Q) : Tn W0 FX13_cut [rf (16081), cI (a1)] G (fun r G => ∃ v, r = cI v ∧ inI v ∧ Q v G) := by
  unfold FX13_cut
  refine g_ent (lv' := [rf (16081), cI (a1)]) (flR (flI fl0)) (Nat.le_of_ble_eq_true rfl) rfl ?_
  exact TX13_cut_0 ha1 h
def PX13_splice_160 (J : Nat → List Int → gS → (Int → gS → Prop) → Prop) (l1 : Int) (l2 : Int) (l3 : Int) (l4 : Int) (l5 : Int) (l6 : Int) (G : gS) (Q : Int → gS → Prop) : Prop :=
  ((l6 < l5 → ((0 : Int) ≤ l6 ∧ ((l6 : Int) < 4000 ∧ (inI (G 16084 l6) → ((0 : Int) ≤ l6 ∧ ((l6 : Int) < 4000 ∧ (∀ G48 : gS, G48 = uG G 16082 l6 (G 16084 l6) → (inI (l6 + 1) ∧ J 3 [l1, l2, l3, l4, l5, l6 + 1] G48 Q)))))))) ∧ (¬ (l6 < l5) → (∀ G50 : gS, G50 = uG G 16081 1 (l5) → (inI (G50 16081 1) → Q (G50 16081 1) G50))))
set_option maxRecDepth 20000 in
theorem TX13_splice_160 {j : Nat → rx_K} {J : Nat → List Int → gS → (Int → gS → Prop) → Prop} {l1 : Int} {l2 : Int} {l3 : Int} {l4 : Int} {l5 : Int} {l6 : Int} {G : gS} {Q : Int → gS → Prop} (hl1 : inI l1) (hl2 : inI l2) (hl3 : inI l3) (hl4 : inI l4) (hl5 : inI l5) (hl6 : inI l6) (hj0 : ∀ (l1 : Int) (l2 : Int) (l3 : Int) (l4 : Int) (l5 : Int) (l6 : Int) (G : gS), (inI l1) → (inI l2) → (inI l3) → (inI l4) → (inI l5) → (inI l6) → J 0 [l1, l2, l3, l4, l5, l6] G Q → Tg W0 (j 0) [rf (16081), cI (l1), cI (l2), cI (l3), cI (l4), cI (l5), cI (l6)] [] G (fun r G => ∃ v, r = cI v ∧ inI v ∧ Q v G)) (hj1 : ∀ (l1 : Int) (l2 : Int) (l3 : Int) (l4 : Int) (l5 : Int) (l6 : Int) (G : gS), (inI l1) → (inI l2) → (inI l3) → (inI l4) → (inI l5) → (inI l6) → J 1 [l1, l2, l3, l4, l5, l6] G Q → Tg W0 (j 1) [rf (16081), cI (l1), cI (l2), cI (l3), cI (l4), cI (l5), cI (l6)] [] G (fun r G => ∃ v, r = cI v ∧ inI v ∧ Q v G)) (hj2 : ∀ (l1 : Int) (l2 : Int) (l3 : Int) (l4 : Int) (l5 : Int) (l6 : Int) (G : gS), (inI l1) → (inI l2) → (inI l3) → (inI l4) → (inI l5) → (inI l6) → J 2 [l1, l2, l3, l4, l5, l6] G Q → Tg W0 (j 2) [rf (16081), cI (l1), cI (l2), cI (l3), cI (l4), cI (l5), cI (l6)] [] G (fun r G => ∃ v, r = cI v ∧ inI v ∧ Q v G)) (hj3 : ∀ (l1 : Int) (l2 : Int) (l3 : Int) (l4 : Int) (l5 : Int) (l6 : Int) (G : gS), (inI l1) → (inI l2) → (inI l3) → (inI l4) → (inI l5) → (inI l6) → J 3 [l1, l2, l3, l4, l5, l6] G Q → Tg W0 (j 3) [rf (16081), cI (l1), cI (l2), cI (l3), cI (l4), cI (l5), cI (l6)] [] G (fun r G => ∃ v, r = cI v ∧ inI v ∧ Q v G)) (h : PX13_splice_160 J l1 l2 l3 l4 l5 l6 G Q) : Tg W0 (vX13_splice_160 j) [rf (16081), cI (l1), cI (l2), cI (l3), cI (l4), cI (l5), cI (l6)] [] G (fun r G => ∃ v, r = cI v ∧ inI v ∧ Q v G) := by
  unfold PX13_splice_160 at h
  unfold vX13_splice_160
  refine g_ld (v := cI _) rfl (is_I _) ?_
  refine g_ld (v := cI _) rfl (is_I _) ?_
  refine g_lt2 hl6 hl5 (fun b42 => ?_) (fun b42 => ?_)
  · replace h := h.1 b42
    unfold vX13_splice_167
    refine g_ld (v := rf _) rfl (is_R _) ?_
    refine g_getF (v := 16082) oC13 (hC13_0) rfl (Nat.le_of_ble_eq_true rfl) (Nat.le_of_ble_eq_true rfl) ?_
    refine g_ld (v := cI _) rfl (is_I _) ?_
    refine g_ld (v := rf _) rfl (is_R _) ?_
    refine g_getF (v := 16084) oC13 (hC13_4) rfl (Nat.le_of_ble_eq_true rfl) (Nat.le_of_ble_eq_true rfl) ?_
    refine g_ld (v := cI _) rfl (is_I _) ?_
    obtain ⟨q43, q44, h⟩ := h
    refine g_aldI aC16084 q43 q44 rfl fun i45 => ?_
    replace h := h i45
    obtain ⟨q46, q47, h⟩ := h
    refine g_astI aC16082 q46 q47 i45 (nfI aC16082) ?_
    replace h := h _ rfl
    refine g_inc (lv' := [_, _, _, _, _, _, _]) rfl (Nat.le_of_ble_eq_true rfl) (Or.inr (n1_I _)) rfl ?_
    obtain ⟨q49, h⟩ := h
    exact hj3 _ _ _ _ _ _ _ hl1 hl2 hl3 hl4 hl5 q49 h
  · replace h := h.2 b42
    unfold vX13_splice_187
    refine g_ld (v := rf _) rfl (is_R _) ?_
    refine g_ld (v := cI _) rfl (is_I _) ?_
    refine g_putI (kz := 1) oC13 rfl (Nat.le_of_ble_eq_true rfl) rfl hl5 (zfin_no (c := 16081) (j := 1) rfl) ?_
    replace h := h _ rfl
    refine g_ld (v := rf _) rfl (is_R _) ?_
    refine g_getI (kz := 1) oC13 rfl (Nat.le_of_ble_eq_true rfl) rfl fun i51 => ?_
    replace h := h i51
    exact g_ret1 (is_I _) ⟨_, rfl, i51, h⟩
def PX13_splice_127 (J : Nat → List Int → gS → (Int → gS → Prop) → Prop) (l1 : Int) (l2 : Int) (l3 : Int) (l4 : Int) (l5 : Int) (l6 : Int) (G : gS) (Q : Int → gS → Prop) : Prop :=
  ((l6 < l4 → (inI (l5 + 1) ∧ ((0 : Int) ≤ l6 ∧ ((l6 : Int) < 4000 ∧ (inI (G 16082 l6) → ((0 : Int) ≤ l5 ∧ ((l5 : Int) < 4000 ∧ (∀ G40 : gS, G40 = uG G 16084 l5 (G 16082 l6) → (inI (l6 + 1) ∧ J 2 [l1, l2, l3, l4, l5 + 1, l6 + 1] G40 Q))))))))) ∧ (¬ (l6 < l4) → PX13_splice_160 J l1 l2 l3 l4 l5 0 G Q))
set_option maxRecDepth 20000 in
theorem TX13_splice_127 {j : Nat → rx_K} {J : Nat → List Int → gS → (Int → gS → Prop) → Prop} {l1 : Int} {l2 : Int} {l3 : Int} {l4 : Int} {l5 : Int} {l6 : Int} {G : gS} {Q : Int → gS → Prop} (hl1 : inI l1) (hl2 : inI l2) (hl3 : inI l3) (hl4 : inI l4) (hl5 : inI l5) (hl6 : inI l6) (hj0 : ∀ (l1 : Int) (l2 : Int) (l3 : Int) (l4 : Int) (l5 : Int) (l6 : Int) (G : gS), (inI l1) → (inI l2) → (inI l3) → (inI l4) → (inI l5) → (inI l6) → J 0 [l1, l2, l3, l4, l5, l6] G Q → Tg W0 (j 0) [rf (16081), cI (l1), cI (l2), cI (l3), cI (l4), cI (l5), cI (l6)] [] G (fun r G => ∃ v, r = cI v ∧ inI v ∧ Q v G)) (hj1 : ∀ (l1 : Int) (l2 : Int) (l3 : Int) (l4 : Int) (l5 : Int) (l6 : Int) (G : gS), (inI l1) → (inI l2) → (inI l3) → (inI l4) → (inI l5) → (inI l6) → J 1 [l1, l2, l3, l4, l5, l6] G Q → Tg W0 (j 1) [rf (16081), cI (l1), cI (l2), cI (l3), cI (l4), cI (l5), cI (l6)] [] G (fun r G => ∃ v, r = cI v ∧ inI v ∧ Q v G)) (hj2 : ∀ (l1 : Int) (l2 : Int) (l3 : Int) (l4 : Int) (l5 : Int) (l6 : Int) (G : gS), (inI l1) → (inI l2) → (inI l3) → (inI l4) → (inI l5) → (inI l6) → J 2 [l1, l2, l3, l4, l5, l6] G Q → Tg W0 (j 2) [rf (16081), cI (l1), cI (l2), cI (l3), cI (l4), cI (l5), cI (l6)] [] G (fun r G => ∃ v, r = cI v ∧ inI v ∧ Q v G)) (hj3 : ∀ (l1 : Int) (l2 : Int) (l3 : Int) (l4 : Int) (l5 : Int) (l6 : Int) (G : gS), (inI l1) → (inI l2) → (inI l3) → (inI l4) → (inI l5) → (inI l6) → J 3 [l1, l2, l3, l4, l5, l6] G Q → Tg W0 (j 3) [rf (16081), cI (l1), cI (l2), cI (l3), cI (l4), cI (l5), cI (l6)] [] G (fun r G => ∃ v, r = cI v ∧ inI v ∧ Q v G)) (h : PX13_splice_127 J l1 l2 l3 l4 l5 l6 G Q) : Tg W0 (vX13_splice_127 j) [rf (16081), cI (l1), cI (l2), cI (l3), cI (l4), cI (l5), cI (l6)] [] G (fun r G => ∃ v, r = cI v ∧ inI v ∧ Q v G) := by
  unfold PX13_splice_127 at h
  unfold vX13_splice_127
  refine g_ld (v := cI _) rfl (is_I _) ?_
  refine g_ld (v := cI _) rfl (is_I _) ?_
  refine g_lt2 hl6 hl4 (fun b33 => ?_) (fun b33 => ?_)
  · replace h := h.1 b33
    unfold vX13_splice_134
    refine g_ld (v := rf _) rfl (is_R _) ?_
    refine g_getF (v := 16084) oC13 (hC13_4) rfl (Nat.le_of_ble_eq_true rfl) (Nat.le_of_ble_eq_true rfl) ?_
    refine g_ld (v := cI _) rfl (is_I _) ?_
    refine g_inc (lv' := [_, _, _, _, _, _, _]) rfl (Nat.le_of_ble_eq_true rfl) (Or.inr (n1_I _)) rfl ?_
    obtain ⟨q34, h⟩ := h
    refine g_ld (v := rf _) rfl (is_R _) ?_
    refine g_getF (v := 16082) oC13 (hC13_0) rfl (Nat.le_of_ble_eq_true rfl) (Nat.le_of_ble_eq_true rfl) ?_
    refine g_ld (v := cI _) rfl (is_I _) ?_
    obtain ⟨q35, q36, h⟩ := h
    refine g_aldI aC16082 q35 q36 rfl fun i37 => ?_
    replace h := h i37
    obtain ⟨q38, q39, h⟩ := h
    refine g_astI aC16084 q38 q39 i37 (nfI aC16084) ?_
    replace h := h _ rfl
    refine g_inc (lv' := [_, _, _, _, _, _, _]) rfl (Nat.le_of_ble_eq_true rfl) (Or.inr (n1_I _)) rfl ?_
    obtain ⟨q41, h⟩ := h
    exact hj2 _ _ _ _ _ _ _ hl1 hl2 hl3 hl4 q34 q41 h
  · replace h := h.2 b33
    unfold vX13_splice_157
    refine g_const (v := cI (0)) rfl ?_
    refine g_st (lv' := [_, _, _, _, _, _, _]) (is_I _) (Nat.le_of_ble_eq_true rfl) (Or.inr (n1_I _)) rfl ?_
    exact TX13_splice_160 hl1 hl2 hl3 hl4 hl5 ⟨by omega, by omega⟩ hj0 hj1 hj2 hj3 h
def PX13_splice_90 (J : Nat → List Int → gS → (Int → gS → Prop) → Prop) (l1 : Int) (l2 : Int) (l3 : Int) (l4 : Int) (l5 : Int) (l6 : Int) (G : gS) (Q : Int → gS → Prop) : Prop :=
  ((l6 < l3 → (inI (l5 + 1) ∧ ((0 : Int) ≤ l4 + l6 ∧ ((l4 + l6 : Int) < 4000 ∧ (inI (G 16082 (l4 + l6)) → ((0 : Int) ≤ l5 ∧ ((l5 : Int) < 4000 ∧ (∀ G30 : gS, G30 = uG G 16084 l5 (G 16082 (l4 + l6)) → (inI (l6 + 1) ∧ J 1 [l1, l2, l3, l4, l5 + 1, l6 + 1] G30 Q))))))))) ∧ (¬ (l6 < l3) → (inI (l1 + l2) ∧ PX13_splice_127 J l1 l2 l3 l4 l5 (l1 + l2) G Q)))
set_option maxRecDepth 20000 in
theorem TX13_splice_90 {j : Nat → rx_K} {J : Nat → List Int → gS → (Int → gS → Prop) → Prop} {l1 : Int} {l2 : Int} {l3 : Int} {l4 : Int} {l5 : Int} {l6 : Int} {G : gS} {Q : Int → gS → Prop} (hl1 : inI l1) (hl2 : inI l2) (hl3 : inI l3) (hl4 : inI l4) (hl5 : inI l5) (hl6 : inI l6) (hj0 : ∀ (l1 : Int) (l2 : Int) (l3 : Int) (l4 : Int) (l5 : Int) (l6 : Int) (G : gS), (inI l1) → (inI l2) → (inI l3) → (inI l4) → (inI l5) → (inI l6) → J 0 [l1, l2, l3, l4, l5, l6] G Q → Tg W0 (j 0) [rf (16081), cI (l1), cI (l2), cI (l3), cI (l4), cI (l5), cI (l6)] [] G (fun r G => ∃ v, r = cI v ∧ inI v ∧ Q v G)) (hj1 : ∀ (l1 : Int) (l2 : Int) (l3 : Int) (l4 : Int) (l5 : Int) (l6 : Int) (G : gS), (inI l1) → (inI l2) → (inI l3) → (inI l4) → (inI l5) → (inI l6) → J 1 [l1, l2, l3, l4, l5, l6] G Q → Tg W0 (j 1) [rf (16081), cI (l1), cI (l2), cI (l3), cI (l4), cI (l5), cI (l6)] [] G (fun r G => ∃ v, r = cI v ∧ inI v ∧ Q v G)) (hj2 : ∀ (l1 : Int) (l2 : Int) (l3 : Int) (l4 : Int) (l5 : Int) (l6 : Int) (G : gS), (inI l1) → (inI l2) → (inI l3) → (inI l4) → (inI l5) → (inI l6) → J 2 [l1, l2, l3, l4, l5, l6] G Q → Tg W0 (j 2) [rf (16081), cI (l1), cI (l2), cI (l3), cI (l4), cI (l5), cI (l6)] [] G (fun r G => ∃ v, r = cI v ∧ inI v ∧ Q v G)) (hj3 : ∀ (l1 : Int) (l2 : Int) (l3 : Int) (l4 : Int) (l5 : Int) (l6 : Int) (G : gS), (inI l1) → (inI l2) → (inI l3) → (inI l4) → (inI l5) → (inI l6) → J 3 [l1, l2, l3, l4, l5, l6] G Q → Tg W0 (j 3) [rf (16081), cI (l1), cI (l2), cI (l3), cI (l4), cI (l5), cI (l6)] [] G (fun r G => ∃ v, r = cI v ∧ inI v ∧ Q v G)) (h : PX13_splice_90 J l1 l2 l3 l4 l5 l6 G Q) : Tg W0 (vX13_splice_90 j) [rf (16081), cI (l1), cI (l2), cI (l3), cI (l4), cI (l5), cI (l6)] [] G (fun r G => ∃ v, r = cI v ∧ inI v ∧ Q v G) := by
  unfold PX13_splice_90 at h
  unfold vX13_splice_90
  refine g_ld (v := cI _) rfl (is_I _) ?_
  refine g_ld (v := cI _) rfl (is_I _) ?_
  refine g_lt2 hl6 hl3 (fun b23 => ?_) (fun b23 => ?_)
  · replace h := h.1 b23
    unfold vX13_splice_96
    refine g_ld (v := rf _) rfl (is_R _) ?_
    refine g_getF (v := 16084) oC13 (hC13_4) rfl (Nat.le_of_ble_eq_true rfl) (Nat.le_of_ble_eq_true rfl) ?_
    refine g_ld (v := cI _) rfl (is_I _) ?_
    refine g_inc (lv' := [_, _, _, _, _, _, _]) rfl (Nat.le_of_ble_eq_true rfl) (Or.inr (n1_I _)) rfl ?_
    obtain ⟨q24, h⟩ := h
    refine g_ld (v := rf _) rfl (is_R _) ?_
    refine g_getF (v := 16082) oC13 (hC13_0) rfl (Nat.le_of_ble_eq_true rfl) (Nat.le_of_ble_eq_true rfl) ?_
    refine g_ld (v := cI _) rfl (is_I _) ?_
    refine g_ld (v := cI _) rfl (is_I _) ?_
    refine g_add ?_
    obtain ⟨q25, q26, h⟩ := h
    refine g_aldI aC16082 q25 q26 rfl fun i27 => ?_
    replace h := h i27
    obtain ⟨q28, q29, h⟩ := h
    refine g_astI aC16084 q28 q29 i27 (nfI aC16084) ?_
    replace h := h _ rfl
    refine g_inc (lv' := [_, _, _, _, _, _, _]) rfl (Nat.le_of_ble_eq_true rfl) (Or.inr (n1_I _)) rfl ?_
    obtain ⟨q31, h⟩ := h
    exact hj1 _ _ _ _ _ _ _ hl1 hl2 hl3 hl4 q24 q31 h
  · replace h := h.2 b23
    unfold vX13_splice_122
    refine g_ld (v := cI _) rfl (is_I _) ?_
    refine g_ld (v := cI _) rfl (is_I _) ?_
    refine g_add ?_
    refine g_st (lv' := [_, _, _, _, _, _, _]) (is_I _) (Nat.le_of_ble_eq_true rfl) (Or.inr (n1_I _)) rfl ?_
    obtain ⟨q32, h⟩ := h
    exact TX13_splice_127 hl1 hl2 hl3 hl4 hl5 q32 hj0 hj1 hj2 hj3 h
def PX13_splice_58 (J : Nat → List Int → gS → (Int → gS → Prop) → Prop) (l1 : Int) (l2 : Int) (l3 : Int) (l4 : Int) (l5 : Int) (l6 : Int) (G : gS) (Q : Int → gS → Prop) : Prop :=
  ((l6 < l1 → (inI (l5 + 1) ∧ ((0 : Int) ≤ l6 ∧ ((l6 : Int) < 4000 ∧ (inI (G 16082 l6) → ((0 : Int) ≤ l5 ∧ ((l5 : Int) < 4000 ∧ (∀ G21 : gS, G21 = uG G 16084 l5 (G 16082 l6) → (inI (l6 + 1) ∧ J 0 [l1, l2, l3, l4, l5 + 1, l6 + 1] G21 Q))))))))) ∧ (¬ (l6 < l1) → PX13_splice_90 J l1 l2 l3 l4 l5 0 G Q))
set_option maxRecDepth 20000 in
theorem TX13_splice_58 {j : Nat → rx_K} {J : Nat → List Int → gS → (Int → gS → Prop) → Prop} {l1 : Int} {l2 : Int} {l3 : Int} {l4 : Int} {l5 : Int} {l6 : Int} {G : gS} {Q : Int → gS → Prop} (hl1 : inI l1) (hl2 : inI l2) (hl3 : inI l3) (hl4 : inI l4) (hl5 : inI l5) (hl6 : inI l6) (hj0 : ∀ (l1 : Int) (l2 : Int) (l3 : Int) (l4 : Int) (l5 : Int) (l6 : Int) (G : gS), (inI l1) → (inI l2) → (inI l3) → (inI l4) → (inI l5) → (inI l6) → J 0 [l1, l2, l3, l4, l5, l6] G Q → Tg W0 (j 0) [rf (16081), cI (l1), cI (l2), cI (l3), cI (l4), cI (l5), cI (l6)] [] G (fun r G => ∃ v, r = cI v ∧ inI v ∧ Q v G)) (hj1 : ∀ (l1 : Int) (l2 : Int) (l3 : Int) (l4 : Int) (l5 : Int) (l6 : Int) (G : gS), (inI l1) → (inI l2) → (inI l3) → (inI l4) → (inI l5) → (inI l6) → J 1 [l1, l2, l3, l4, l5, l6] G Q → Tg W0 (j 1) [rf (16081), cI (l1), cI (l2), cI (l3), cI (l4), cI (l5), cI (l6)] [] G (fun r G => ∃ v, r = cI v ∧ inI v ∧ Q v G)) (hj2 : ∀ (l1 : Int) (l2 : Int) (l3 : Int) (l4 : Int) (l5 : Int) (l6 : Int) (G : gS), (inI l1) → (inI l2) → (inI l3) → (inI l4) → (inI l5) → (inI l6) → J 2 [l1, l2, l3, l4, l5, l6] G Q → Tg W0 (j 2) [rf (16081), cI (l1), cI (l2), cI (l3), cI (l4), cI (l5), cI (l6)] [] G (fun r G => ∃ v, r = cI v ∧ inI v ∧ Q v G)) (hj3 : ∀ (l1 : Int) (l2 : Int) (l3 : Int) (l4 : Int) (l5 : Int) (l6 : Int) (G : gS), (inI l1) → (inI l2) → (inI l3) → (inI l4) → (inI l5) → (inI l6) → J 3 [l1, l2, l3, l4, l5, l6] G Q → Tg W0 (j 3) [rf (16081), cI (l1), cI (l2), cI (l3), cI (l4), cI (l5), cI (l6)] [] G (fun r G => ∃ v, r = cI v ∧ inI v ∧ Q v G)) (h : PX13_splice_58 J l1 l2 l3 l4 l5 l6 G Q) : Tg W0 (vX13_splice_58 j) [rf (16081), cI (l1), cI (l2), cI (l3), cI (l4), cI (l5), cI (l6)] [] G (fun r G => ∃ v, r = cI v ∧ inI v ∧ Q v G) := by
  unfold PX13_splice_58 at h
  unfold vX13_splice_58
  refine g_ld (v := cI _) rfl (is_I _) ?_
  refine g_ld (v := cI _) rfl (is_I _) ?_
  refine g_lt2 hl6 hl1 (fun b14 => ?_) (fun b14 => ?_)
  · replace h := h.1 b14
    unfold vX13_splice_64
    refine g_ld (v := rf _) rfl (is_R _) ?_
    refine g_getF (v := 16084) oC13 (hC13_4) rfl (Nat.le_of_ble_eq_true rfl) (Nat.le_of_ble_eq_true rfl) ?_
    refine g_ld (v := cI _) rfl (is_I _) ?_
    refine g_inc (lv' := [_, _, _, _, _, _, _]) rfl (Nat.le_of_ble_eq_true rfl) (Or.inr (n1_I _)) rfl ?_
    obtain ⟨q15, h⟩ := h
    refine g_ld (v := rf _) rfl (is_R _) ?_
    refine g_getF (v := 16082) oC13 (hC13_0) rfl (Nat.le_of_ble_eq_true rfl) (Nat.le_of_ble_eq_true rfl) ?_
    refine g_ld (v := cI _) rfl (is_I _) ?_
    obtain ⟨q16, q17, h⟩ := h
    refine g_aldI aC16082 q16 q17 rfl fun i18 => ?_
    replace h := h i18
    obtain ⟨q19, q20, h⟩ := h
    refine g_astI aC16084 q19 q20 i18 (nfI aC16084) ?_
    replace h := h _ rfl
    refine g_inc (lv' := [_, _, _, _, _, _, _]) rfl (Nat.le_of_ble_eq_true rfl) (Or.inr (n1_I _)) rfl ?_
    obtain ⟨q22, h⟩ := h
    exact hj0 _ _ _ _ _ _ _ hl1 hl2 hl3 hl4 q15 q22 h
  · replace h := h.2 b14
    unfold vX13_splice_87
    refine g_const (v := cI (0)) rfl ?_
    refine g_st (lv' := [_, _, _, _, _, _, _]) (is_I _) (Nat.le_of_ble_eq_true rfl) (Or.inr (n1_I _)) rfl ?_
    exact TX13_splice_90 hl1 hl2 hl3 hl4 hl5 ⟨by omega, by omega⟩ hj0 hj1 hj2 hj3 h
def PX13_splice_42 (J : Nat → List Int → gS → (Int → gS → Prop) → Prop) (l1 : Int) (l2 : Int) (l3 : Int) (G : gS) (Q : Int → gS → Prop) : Prop :=
  Q (-1) G
set_option maxRecDepth 20000 in
theorem TX13_splice_42 {j : Nat → rx_K} {J : Nat → List Int → gS → (Int → gS → Prop) → Prop} {l1 : Int} {l2 : Int} {l3 : Int} {l4 : Nat} {l5 : Nat} {l6 : Nat} {G : gS} {Q : Int → gS → Prop} (hl1 : inI l1) (hl2 : inI l2) (hl3 : inI l3) (hl4 : l4 % 8 ≠ 1) (hl5 : l5 % 8 ≠ 1) (hl6 : l6 % 8 ≠ 1) (hj0 : ∀ (l1 : Int) (l2 : Int) (l3 : Int) (l4 : Int) (l5 : Int) (l6 : Int) (G : gS), (inI l1) → (inI l2) → (inI l3) → (inI l4) → (inI l5) → (inI l6) → J 0 [l1, l2, l3, l4, l5, l6] G Q → Tg W0 (j 0) [rf (16081), cI (l1), cI (l2), cI (l3), cI (l4), cI (l5), cI (l6)] [] G (fun r G => ∃ v, r = cI v ∧ inI v ∧ Q v G)) (hj1 : ∀ (l1 : Int) (l2 : Int) (l3 : Int) (l4 : Int) (l5 : Int) (l6 : Int) (G : gS), (inI l1) → (inI l2) → (inI l3) → (inI l4) → (inI l5) → (inI l6) → J 1 [l1, l2, l3, l4, l5, l6] G Q → Tg W0 (j 1) [rf (16081), cI (l1), cI (l2), cI (l3), cI (l4), cI (l5), cI (l6)] [] G (fun r G => ∃ v, r = cI v ∧ inI v ∧ Q v G)) (hj2 : ∀ (l1 : Int) (l2 : Int) (l3 : Int) (l4 : Int) (l5 : Int) (l6 : Int) (G : gS), (inI l1) → (inI l2) → (inI l3) → (inI l4) → (inI l5) → (inI l6) → J 2 [l1, l2, l3, l4, l5, l6] G Q → Tg W0 (j 2) [rf (16081), cI (l1), cI (l2), cI (l3), cI (l4), cI (l5), cI (l6)] [] G (fun r G => ∃ v, r = cI v ∧ inI v ∧ Q v G)) (hj3 : ∀ (l1 : Int) (l2 : Int) (l3 : Int) (l4 : Int) (l5 : Int) (l6 : Int) (G : gS), (inI l1) → (inI l2) → (inI l3) → (inI l4) → (inI l5) → (inI l6) → J 3 [l1, l2, l3, l4, l5, l6] G Q → Tg W0 (j 3) [rf (16081), cI (l1), cI (l2), cI (l3), cI (l4), cI (l5), cI (l6)] [] G (fun r G => ∃ v, r = cI v ∧ inI v ∧ Q v G)) (h : PX13_splice_42 J l1 l2 l3 G Q) : Tg W0 (vX13_splice_42 j) [rf (16081), cI (l1), cI (l2), cI (l3), l4, l5, l6] [] G (fun r G => ∃ v, r = cI v ∧ inI v ∧ Q v G) := by
  unfold PX13_splice_42 at h
  unfold vX13_splice_42
  refine g_const (v := cI (-1)) rfl ?_
  exact g_ret1 (is_I _) ⟨_, rfl, ⟨by omega, by omega⟩, h⟩
def PX13_splice_0 (J : Nat → List Int → gS → (Int → gS → Prop) → Prop) (a1 : Int) (a2 : Int) (a3 : Int) (G : gS) (Q : Int → gS → Prop) : Prop :=
  ((a3 < 0 → PX13_splice_42 J a1 a2 a3 G Q) ∧ (¬ (a3 < 0) → (inI (G 16081 1) → ((G 16081 1 < a3 → PX13_splice_42 J a1 a2 a3 G Q) ∧ (¬ (G 16081 1 < a3) → ((a1 < 0 → PX13_splice_42 J a1 a2 a3 G Q) ∧ (¬ (a1 < 0) → (inI (G 16081 1) → (inI ((G 16081 1) - a3) ∧ (((G 16081 1) - a3 < a1 → PX13_splice_42 J a1 a2 a3 G Q) ∧ (¬ ((G 16081 1) - a3 < a1) → ((a2 < 0 → PX13_splice_42 J a1 a2 a3 G Q) ∧ (¬ (a2 < 0) → (inI (G 16081 1) → (inI (((G 16081 1) - a3) - a1) ∧ ((((G 16081 1) - a3) - a1 < a2 → PX13_splice_42 J a1 a2 a3 G Q) ∧ (¬ (((G 16081 1) - a3) - a1 < a2) → (inI (G 16081 1) → (inI ((G 16081 1) - a3) ∧ PX13_splice_58 J a1 a2 a3 ((G 16081 1) - a3) 0 0 G Q)))))))))))))))))))
set_option maxRecDepth 20000 in
theorem TX13_splice_0 {j : Nat → rx_K} {J : Nat → List Int → gS → (Int → gS → Prop) → Prop} {a1 : Int} {a2 : Int} {a3 : Int} {G : gS} {Q : Int → gS → Prop} (ha1 : inI a1) (ha2 : inI a2) (ha3 : inI a3) (hj0 : ∀ (l1 : Int) (l2 : Int) (l3 : Int) (l4 : Int) (l5 : Int) (l6 : Int) (G : gS), (inI l1) → (inI l2) → (inI l3) → (inI l4) → (inI l5) → (inI l6) → J 0 [l1, l2, l3, l4, l5, l6] G Q → Tg W0 (j 0) [rf (16081), cI (l1), cI (l2), cI (l3), cI (l4), cI (l5), cI (l6)] [] G (fun r G => ∃ v, r = cI v ∧ inI v ∧ Q v G)) (hj1 : ∀ (l1 : Int) (l2 : Int) (l3 : Int) (l4 : Int) (l5 : Int) (l6 : Int) (G : gS), (inI l1) → (inI l2) → (inI l3) → (inI l4) → (inI l5) → (inI l6) → J 1 [l1, l2, l3, l4, l5, l6] G Q → Tg W0 (j 1) [rf (16081), cI (l1), cI (l2), cI (l3), cI (l4), cI (l5), cI (l6)] [] G (fun r G => ∃ v, r = cI v ∧ inI v ∧ Q v G)) (hj2 : ∀ (l1 : Int) (l2 : Int) (l3 : Int) (l4 : Int) (l5 : Int) (l6 : Int) (G : gS), (inI l1) → (inI l2) → (inI l3) → (inI l4) → (inI l5) → (inI l6) → J 2 [l1, l2, l3, l4, l5, l6] G Q → Tg W0 (j 2) [rf (16081), cI (l1), cI (l2), cI (l3), cI (l4), cI (l5), cI (l6)] [] G (fun r G => ∃ v, r = cI v ∧ inI v ∧ Q v G)) (hj3 : ∀ (l1 : Int) (l2 : Int) (l3 : Int) (l4 : Int) (l5 : Int) (l6 : Int) (G : gS), (inI l1) → (inI l2) → (inI l3) → (inI l4) → (inI l5) → (inI l6) → J 3 [l1, l2, l3, l4, l5, l6] G Q → Tg W0 (j 3) [rf (16081), cI (l1), cI (l2), cI (l3), cI (l4), cI (l5), cI (l6)] [] G (fun r G => ∃ v, r = cI v ∧ inI v ∧ Q v G)) (h : PX13_splice_0 J a1 a2 a3 G Q) : Tg W0 (vX13_splice_0 j) [rf (16081), cI (a1), cI (a2), cI (a3), 7, 7, 7] [] G (fun r G => ∃ v, r = cI v ∧ inI v ∧ Q v G) := by
  unfold PX13_splice_0 at h
  unfold vX13_splice_0
  refine g_ld (v := cI _) rfl (is_I _) ?_
  refine g_lt1 ha3 (fun b1 => ?_) (fun b1 => ?_)
  · replace h := h.1 b1
    exact TX13_splice_42 ha1 ha2 ha3 (show 7 % 8 ≠ 1 by decide) (show 7 % 8 ≠ 1 by decide) (show 7 % 8 ≠ 1 by decide) hj0 hj1 hj2 hj3 h
  · replace h := h.2 b1
    unfold vX13_splice_4
    refine g_ld (v := cI _) rfl (is_I _) ?_
    refine g_ld (v := rf _) rfl (is_R _) ?_
    refine g_getI (kz := 1) oC13 rfl (Nat.le_of_ble_eq_true rfl) rfl fun i2 => ?_
    replace h := h i2
    refine g_gt2 ha3 i2 (fun b3 => ?_) (fun b3 => ?_)
    · replace h := h.1 b3
      exact TX13_splice_42 ha1 ha2 ha3 (show 7 % 8 ≠ 1 by decide) (show 7 % 8 ≠ 1 by decide) (show 7 % 8 ≠ 1 by decide) hj0 hj1 hj2 hj3 h
    · replace h := h.2 b3
      unfold vX13_splice_12
      refine g_ld (v := cI _) rfl (is_I _) ?_
      refine g_lt1 ha1 (fun b4 => ?_) (fun b4 => ?_)
      · replace h := h.1 b4
        exact TX13_splice_42 ha1 ha2 ha3 (show 7 % 8 ≠ 1 by decide) (show 7 % 8 ≠ 1 by decide) (show 7 % 8 ≠ 1 by decide) hj0 hj1 hj2 hj3 h
      · replace h := h.2 b4
        unfold vX13_splice_16
        refine g_ld (v := cI _) rfl (is_I _) ?_
        refine g_ld (v := rf _) rfl (is_R _) ?_
        refine g_getI (kz := 1) oC13 rfl (Nat.le_of_ble_eq_true rfl) rfl fun i5 => ?_
        replace h := h i5
        refine g_ld (v := cI _) rfl (is_I _) ?_
        refine g_sub ?_
        obtain ⟨q6, h⟩ := h
        refine g_gt2 ha1 q6 (fun b7 => ?_) (fun b7 => ?_)
        · replace h := h.1 b7
          exact TX13_splice_42 ha1 ha2 ha3 (show 7 % 8 ≠ 1 by decide) (show 7 % 8 ≠ 1 by decide) (show 7 % 8 ≠ 1 by decide) hj0 hj1 hj2 hj3 h
        · replace h := h.2 b7
          unfold vX13_splice_26
          refine g_ld (v := cI _) rfl (is_I _) ?_
          refine g_lt1 ha2 (fun b8 => ?_) (fun b8 => ?_)
          · replace h := h.1 b8
            exact TX13_splice_42 ha1 ha2 ha3 (show 7 % 8 ≠ 1 by decide) (show 7 % 8 ≠ 1 by decide) (show 7 % 8 ≠ 1 by decide) hj0 hj1 hj2 hj3 h
          · replace h := h.2 b8
            unfold vX13_splice_30
            refine g_ld (v := cI _) rfl (is_I _) ?_
            refine g_ld (v := rf _) rfl (is_R _) ?_
            refine g_getI (kz := 1) oC13 rfl (Nat.le_of_ble_eq_true rfl) rfl fun i9 => ?_
            replace h := h i9
            refine g_ld (v := cI _) rfl (is_I _) ?_
            refine g_sub ?_
            refine g_ld (v := cI _) rfl (is_I _) ?_
            refine g_sub ?_
            obtain ⟨q10, h⟩ := h
            refine g_gt2 ha2 q10 (fun b11 => ?_) (fun b11 => ?_)
            · replace h := h.1 b11
              exact TX13_splice_42 ha1 ha2 ha3 (show 7 % 8 ≠ 1 by decide) (show 7 % 8 ≠ 1 by decide) (show 7 % 8 ≠ 1 by decide) hj0 hj1 hj2 hj3 h
            · replace h := h.2 b11
              unfold vX13_splice_44
              refine g_ld (v := rf _) rfl (is_R _) ?_
              refine g_getI (kz := 1) oC13 rfl (Nat.le_of_ble_eq_true rfl) rfl fun i12 => ?_
              replace h := h i12
              refine g_ld (v := cI _) rfl (is_I _) ?_
              refine g_sub ?_
              refine g_st (lv' := [_, _, _, _, _, _, _]) (is_I _) (Nat.le_of_ble_eq_true rfl) (Or.inr (n1_I _)) rfl ?_
              obtain ⟨q13, h⟩ := h
              refine g_const (v := cI (0)) rfl ?_
              refine g_st (lv' := [_, _, _, _, _, _, _]) (is_I _) (Nat.le_of_ble_eq_true rfl) (Or.inr (n1_I _)) rfl ?_
              refine g_const (v := cI (0)) rfl ?_
              refine g_st (lv' := [_, _, _, _, _, _, _]) (is_I _) (Nat.le_of_ble_eq_true rfl) (Or.inr (n1_I _)) rfl ?_
              exact TX13_splice_58 ha1 ha2 ha3 q13 ⟨by omega, by omega⟩ ⟨by omega, by omega⟩ hj0 hj1 hj2 hj3 h
def PX13_splice_J : Nat → Nat → List Int → gS → (Int → gS → Prop) → Prop
  | 0, _, _, _, _ => False
  | f + 1, h, L, G, Q => match h, L with
    | 0, [l1, l2, l3, l4, l5, l6] => PX13_splice_58 (PX13_splice_J f) l1 l2 l3 l4 l5 l6 G Q
    | 1, [l1, l2, l3, l4, l5, l6] => PX13_splice_90 (PX13_splice_J f) l1 l2 l3 l4 l5 l6 G Q
    | 2, [l1, l2, l3, l4, l5, l6] => PX13_splice_127 (PX13_splice_J f) l1 l2 l3 l4 l5 l6 G Q
    | 3, [l1, l2, l3, l4, l5, l6] => PX13_splice_160 (PX13_splice_J f) l1 l2 l3 l4 l5 l6 G Q
    | _, _ => False
theorem TX13_splice_J {Q : Int → gS → Prop} : ∀ f N : Nat, f ≤ N → (∀ (l1 : Int) (l2 : Int) (l3 : Int) (l4 : Int) (l5 : Int) (l6 : Int) (G : gS), (inI l1) → (inI l2) → (inI l3) → (inI l4) → (inI l5) → (inI l6) → (PX13_splice_J f) 0 [l1, l2, l3, l4, l5, l6] G Q → Tg W0 (rx_J vhX13_splice N 0) [rf (16081), cI (l1), cI (l2), cI (l3), cI (l4), cI (l5), cI (l6)] [] G (fun r G => ∃ v, r = cI v ∧ inI v ∧ Q v G)) ∧ (∀ (l1 : Int) (l2 : Int) (l3 : Int) (l4 : Int) (l5 : Int) (l6 : Int) (G : gS), (inI l1) → (inI l2) → (inI l3) → (inI l4) → (inI l5) → (inI l6) → (PX13_splice_J f) 1 [l1, l2, l3, l4, l5, l6] G Q → Tg W0 (rx_J vhX13_splice N 1) [rf (16081), cI (l1), cI (l2), cI (l3), cI (l4), cI (l5), cI (l6)] [] G (fun r G => ∃ v, r = cI v ∧ inI v ∧ Q v G)) ∧ (∀ (l1 : Int) (l2 : Int) (l3 : Int) (l4 : Int) (l5 : Int) (l6 : Int) (G : gS), (inI l1) → (inI l2) → (inI l3) → (inI l4) → (inI l5) → (inI l6) → (PX13_splice_J f) 2 [l1, l2, l3, l4, l5, l6] G Q → Tg W0 (rx_J vhX13_splice N 2) [rf (16081), cI (l1), cI (l2), cI (l3), cI (l4), cI (l5), cI (l6)] [] G (fun r G => ∃ v, r = cI v ∧ inI v ∧ Q v G)) ∧ (∀ (l1 : Int) (l2 : Int) (l3 : Int) (l4 : Int) (l5 : Int) (l6 : Int) (G : gS), (inI l1) → (inI l2) → (inI l3) → (inI l4) → (inI l5) → (inI l6) → (PX13_splice_J f) 3 [l1, l2, l3, l4, l5, l6] G Q → Tg W0 (rx_J vhX13_splice N 3) [rf (16081), cI (l1), cI (l2), cI (l3), cI (l4), cI (l5), cI (l6)] [] G (fun r G => ∃ v, r = cI v ∧ inI v ∧ Q v G)) := by
  intro f
  induction f with
  | zero => exact fun N _ => ⟨fun _ _ _ _ _ _ _ _ _ _ _ _ _ h => h.elim, fun _ _ _ _ _ _ _ _ _ _ _ _ _ h => h.elim, fun _ _ _ _ _ _ _ _ _ _ _ _ _ h => h.elim, fun _ _ _ _ _ _ _ _ _ _ _ _ _ h => h.elim⟩
  | succ f ih =>
    intro N hN
    obtain ⟨M, rfl⟩ : ∃ M, N = M + 1 := ⟨N - 1, by omega⟩
    have ih := ih M (by omega)
    exact ⟨fun _ _ _ _ _ _ _ hl1 hl2 hl3 hl4 hl5 hl6 h => show Tg W0 (vX13_splice_58 (rx_J vhX13_splice M)) _ _ _ _ from TX13_splice_58 hl1 hl2 hl3 hl4 hl5 hl6 ih.1 ih.2.1 ih.2.2.1 ih.2.2.2 h, fun _ _ _ _ _ _ _ hl1 hl2 hl3 hl4 hl5 hl6 h => show Tg W0 (vX13_splice_90 (rx_J vhX13_splice M)) _ _ _ _ from TX13_splice_90 hl1 hl2 hl3 hl4 hl5 hl6 ih.1 ih.2.1 ih.2.2.1 ih.2.2.2 h, fun _ _ _ _ _ _ _ hl1 hl2 hl3 hl4 hl5 hl6 h => show Tg W0 (vX13_splice_127 (rx_J vhX13_splice M)) _ _ _ _ from TX13_splice_127 hl1 hl2 hl3 hl4 hl5 hl6 ih.1 ih.2.1 ih.2.2.1 ih.2.2.2 h, fun _ _ _ _ _ _ _ hl1 hl2 hl3 hl4 hl5 hl6 h => show Tg W0 (vX13_splice_160 (rx_J vhX13_splice M)) _ _ _ _ from TX13_splice_160 hl1 hl2 hl3 hl4 hl5 hl6 ih.1 ih.2.1 ih.2.2.1 ih.2.2.2 h⟩
def PX13_splice (a1 : Int) (a2 : Int) (a3 : Int) (G : gS) (Q : Int → gS → Prop) : Prop := ∃ f : Nat, f ≤ 4000000000 ∧ PX13_splice_0 (PX13_splice_J f) a1 a2 a3 G Q
theorem TX13_splice {a1 : Int} {a2 : Int} {a3 : Int} {G : gS} {Q : Int → gS → Prop} (ha1 : inI a1) (ha2 : inI a2) (ha3 : inI a3) (h : PX13_splice a1 a2 a3 G Q) : Tn W0 FX13_splice [rf (16081), cI (a1), cI (a2), cI (a3)] G (fun r G => ∃ v, r = cI v ∧ inI v ∧ Q v G) := by
  obtain ⟨f, hf, h⟩ := h
  have hJ := TX13_splice_J (Q := Q) f 4000000000 hf
  unfold FX13_splice
  refine g_ent (lv' := [rf (16081), cI (a1), cI (a2), cI (a3), 7, 7, 7]) (flR (flI (flI (flI fl0)))) (Nat.le_of_ble_eq_true rfl) rfl ?_
  exact TX13_splice_0 ha1 ha2 ha3 hJ.1 hJ.2.1 hJ.2.2.1 hJ.2.2.2 h
def PX13_size_0  (G : gS) (Q : Int → gS → Prop) : Prop :=
  (inI (G 16081 3) → Q (G 16081 3) G)
set_option maxRecDepth 20000 in
theorem TX13_size_0  {G : gS} {Q : Int → gS → Prop}  (h : PX13_size_0  G Q) : Tg W0 vX13_size_0 [rf (16081)] [] G (fun r G => ∃ v, r = cI v ∧ inI v ∧ Q v G) := by
  unfold PX13_size_0 at h
  unfold vX13_size_0
  refine g_ld (v := rf _) rfl (is_R _) ?_
  refine g_getI (kz := 3) oC13 rfl (Nat.le_of_ble_eq_true rfl) rfl fun i1 => ?_
  replace h := h i1
  exact g_ret1 (is_I _) ⟨_, rfl, i1, h⟩
abbrev PX13_size  (G : gS) (Q : Int → gS → Prop) : Prop := PX13_size_0  G Q
theorem TX13_size  {G : gS} {Q : Int → gS → Prop}  (h : PX13_size  G Q) : Tn W0 FX13_size [rf (16081)] G (fun r G => ∃ v, r = cI v ∧ inI v ∧ Q v G) := by
  unfold FX13_size
  refine g_ent (lv' := [rf (16081)]) (flR fl0) (Nat.le_of_ble_eq_true rfl) rfl ?_
  exact TX13_size_0  h
def PX13_octet_22 (l1 : Int) (s0 : Int) (G : gS) (Q : Int → gS → Prop) : Prop :=
  Q (s0) G
set_option maxRecDepth 20000 in
theorem TX13_octet_22 {l1 : Int} {s0 : Int} {G : gS} {Q : Int → gS → Prop} (hl1 : inI l1) (hs0 : inI s0) (h : PX13_octet_22 l1 s0 G Q) : Tg W0 vX13_octet_22 [rf (16081), cI (l1)] [cI (s0)] G (fun r G => ∃ v, r = cI v ∧ inI v ∧ Q v G) := by
  unfold PX13_octet_22 at h
  unfold vX13_octet_22
  exact g_ret1 (is_I _) ⟨_, rfl, hs0, h⟩
def PX13_octet_12 (l1 : Int) (G : gS) (Q : Int → gS → Prop) : Prop :=
  PX13_octet_22 l1 (-1) G Q
set_option maxRecDepth 20000 in
theorem TX13_octet_12 {l1 : Int} {G : gS} {Q : Int → gS → Prop} (hl1 : inI l1) (h : PX13_octet_12 l1 G Q) : Tg W0 vX13_octet_12 [rf (16081), cI (l1)] [] G (fun r G => ∃ v, r = cI v ∧ inI v ∧ Q v G) := by
  unfold PX13_octet_12 at h
  unfold vX13_octet_12
  refine g_const (v := cI (-1)) rfl ?_
  exact TX13_octet_22 hl1 ⟨by omega, by omega⟩ h
def PX13_octet_0 (a1 : Int) (G : gS) (Q : Int → gS → Prop) : Prop :=
  ((a1 < 0 → PX13_octet_12 a1 G Q) ∧ (¬ (a1 < 0) → (inI (G 16081 3) → ((a1 < G 16081 3 → ((0 : Int) ≤ a1 ∧ ((a1 : Int) < 4200 ∧ (inI (G 16083 a1) → PX13_octet_22 a1 (G 16083 a1) G Q)))) ∧ (¬ (a1 < G 16081 3) → PX13_octet_12 a1 G Q)))))
set_option maxRecDepth 20000 in
theorem TX13_octet_0 {a1 : Int} {G : gS} {Q : Int → gS → Prop} (ha1 : inI a1) (h : PX13_octet_0 a1 G Q) : Tg W0 vX13_octet_0 [rf (16081), cI (a1)] [] G (fun r G => ∃ v, r = cI v ∧ inI v ∧ Q v G) := by
  unfold PX13_octet_0 at h
  unfold vX13_octet_0
  refine g_ld (v := cI _) rfl (is_I _) ?_
  refine g_lt1 ha1 (fun b1 => ?_) (fun b1 => ?_)
  · replace h := h.1 b1
    exact TX13_octet_12 ha1 h
  · replace h := h.2 b1
    unfold vX13_octet_4
    refine g_ld (v := cI _) rfl (is_I _) ?_
    refine g_ld (v := rf _) rfl (is_R _) ?_
    refine g_getI (kz := 3) oC13 rfl (Nat.le_of_ble_eq_true rfl) rfl fun i2 => ?_
    replace h := h i2
    refine g_lt2 ha1 i2 (fun b3 => ?_) (fun b3 => ?_)
    · replace h := h.1 b3
      unfold vX13_octet_16
      refine g_ld (v := rf _) rfl (is_R _) ?_
      refine g_getF (v := 16083) oC13 (hC13_2) rfl (Nat.le_of_ble_eq_true rfl) (Nat.le_of_ble_eq_true rfl) ?_
      refine g_ld (v := cI _) rfl (is_I _) ?_
      obtain ⟨q4, q5, h⟩ := h
      refine g_aldI aC16083 q4 q5 rfl fun i6 => ?_
      replace h := h i6
      exact TX13_octet_22 ha1 i6 h
    · replace h := h.2 b3
      exact TX13_octet_12 ha1 h
abbrev PX13_octet (a1 : Int) (G : gS) (Q : Int → gS → Prop) : Prop := PX13_octet_0 a1 G Q
theorem TX13_octet {a1 : Int} {G : gS} {Q : Int → gS → Prop} (ha1 : inI a1) (h : PX13_octet a1 G Q) : Tn W0 FX13_octet [rf (16081), cI (a1)] G (fun r G => ∃ v, r = cI v ∧ inI v ∧ Q v G) := by
  unfold FX13_octet
  refine g_ent (lv' := [rf (16081), cI (a1)]) (flR (flI fl0)) (Nat.le_of_ble_eq_true rfl) rfl ?_
  exact TX13_octet_0 ha1 h
def PX13_isWord_2 (J : Nat → List Int → gS → (Int → gS → Prop) → Prop) (l1 : Int) (l3 : Int) (G : gS) (Q : Int → gS → Prop) : Prop :=
  (inI (G 16081 18) → ((l3 < G 16081 18 → ((0 : Int) ≤ l3 ∧ ((l3 : Int) < 32 ∧ (inL (G 16096 l3) → ((G 16096 l3 = l1 → Q (1) G) ∧ (¬ (G 16096 l3 = l1) → (inI (l3 + 1) ∧ J 0 [l1, l3 + 1] G Q))))))) ∧ (¬ (l3 < G 16081 18) → Q (0) G)))
set_option maxRecDepth 20000 in
theorem TX13_isWord_2 {j : Nat → rx_K} {J : Nat → List Int → gS → (Int → gS → Prop) → Prop} {l1 : Int} {l2 : Nat} {l3 : Int} {G : gS} {Q : Int → gS → Prop} (hl1 : inL l1) (hl2 : l2 % 8 ≠ 1) (hl3 : inI l3) (hj0 : ∀ (l1 : Int) (l2 : Nat) (l3 : Int) (G : gS), (inL l1) → (l2 % 8 ≠ 1) → (inI l3) → J 0 [l1, l3] G Q → Tg W0 (j 0) [rf (16081), cL (l1), l2, cI (l3)] [] G (fun r G => ∃ v, r = cI v ∧ (0 ≤ v ∧ v ≤ 1) ∧ Q v G)) (h : PX13_isWord_2 J l1 l3 G Q) : Tg W0 (vX13_isWord_2 j) [rf (16081), cL (l1), l2, cI (l3)] [] G (fun r G => ∃ v, r = cI v ∧ (0 ≤ v ∧ v ≤ 1) ∧ Q v G) := by
  unfold PX13_isWord_2 at h
  unfold vX13_isWord_2
  refine g_ld (v := cI _) rfl (is_I _) ?_
  refine g_ld (v := rf _) rfl (is_R _) ?_
  refine g_getI (kz := 18) oC13 rfl (Nat.le_of_ble_eq_true rfl) rfl fun i1 => ?_
  replace h := h i1
  refine g_lt2 hl3 i1 (fun b2 => ?_) (fun b2 => ?_)
  · replace h := h.1 b2
    unfold vX13_isWord_10
    refine g_ld (v := rf _) rfl (is_R _) ?_
    refine g_getF (v := 16096) oC13 (hC13_17) rfl (Nat.le_of_ble_eq_true rfl) (Nat.le_of_ble_eq_true rfl) ?_
    refine g_ld (v := cI _) rfl (is_I _) ?_
    obtain ⟨q3, q4, h⟩ := h
    refine g_aldL aC16096 q3 q4 rfl fun i5 => ?_
    replace h := h i5
    refine g_ld (v := cL _) rfl (is_L _) ?_
    refine g_leq i5 hl1 (fun b6 => ?_) (fun b6 => ?_)
    · replace h := h.1 b6
      unfold vX13_isWord_21
      refine g_const (v := cI (1)) rfl ?_
      exact g_ret1 (is_Z (by omega)) ⟨_, rfl, (by omega), h⟩
    · replace h := h.2 b6
      unfold vX13_isWord_23
      refine g_inc (lv' := [_, _, _, _]) rfl (Nat.le_of_ble_eq_true rfl) (Or.inr hl2) rfl ?_
      obtain ⟨q7, h⟩ := h
      exact hj0 _ _ _ _ hl1 hl2 q7 h
  · replace h := h.2 b2
    unfold vX13_isWord_29
    refine g_const (v := cI (0)) rfl ?_
    exact g_ret1 (is_Z (by omega)) ⟨_, rfl, (by omega), h⟩
def PX13_isWord_0 (J : Nat → List Int → gS → (Int → gS → Prop) → Prop) (a1 : Int) (G : gS) (Q : Int → gS → Prop) : Prop :=
  PX13_isWord_2 J a1 0 G Q
set_option maxRecDepth 20000 in
theorem TX13_isWord_0 {j : Nat → rx_K} {J : Nat → List Int → gS → (Int → gS → Prop) → Prop} {a1 : Int} {G : gS} {Q : Int → gS → Prop} (ha1 : inL a1) (hj0 : ∀ (l1 : Int) (l2 : Nat) (l3 : Int) (G : gS), (inL l1) → (l2 % 8 ≠ 1) → (inI l3) → J 0 [l1, l3] G Q → Tg W0 (j 0) [rf (16081), cL (l1), l2, cI (l3)] [] G (fun r G => ∃ v, r = cI v ∧ (0 ≤ v ∧ v ≤ 1) ∧ Q v G)) (h : PX13_isWord_0 J a1 G Q) : Tg W0 (vX13_isWord_0 j) [rf (16081), cL (a1), 7, 7] [] G (fun r G => ∃ v, r = cI v ∧ (0 ≤ v ∧ v ≤ 1) ∧ Q v G) := by
  unfold PX13_isWord_0 at h
  unfold vX13_isWord_0
  refine g_const (v := cI (0)) rfl ?_
  refine g_st (lv' := [_, _, _, _]) (is_I _) (Nat.le_of_ble_eq_true rfl) (Or.inr (show 7 % 8 ≠ 1 by decide)) rfl ?_
  exact TX13_isWord_2 ha1 (show 7 % 8 ≠ 1 by decide) ⟨by omega, by omega⟩ hj0 h
def PX13_isWord_J : Nat → Nat → List Int → gS → (Int → gS → Prop) → Prop
  | 0, _, _, _, _ => False
  | f + 1, h, L, G, Q => match h, L with
    | 0, [l1, l3] => PX13_isWord_2 (PX13_isWord_J f) l1 l3 G Q
    | _, _ => False
theorem TX13_isWord_J {Q : Int → gS → Prop} : ∀ f N : Nat, f ≤ N → (∀ (l1 : Int) (l2 : Nat) (l3 : Int) (G : gS), (inL l1) → (l2 % 8 ≠ 1) → (inI l3) → (PX13_isWord_J f) 0 [l1, l3] G Q → Tg W0 (rx_J vhX13_isWord N 0) [rf (16081), cL (l1), l2, cI (l3)] [] G (fun r G => ∃ v, r = cI v ∧ (0 ≤ v ∧ v ≤ 1) ∧ Q v G)) := by
  intro f
  induction f with
  | zero => exact fun N _ => fun _ _ _ _ _ _ _ h => h.elim
  | succ f ih =>
    intro N hN
    obtain ⟨M, rfl⟩ : ∃ M, N = M + 1 := ⟨N - 1, by omega⟩
    have ih := ih M (by omega)
    exact fun _ _ _ _ hl1 hl2 hl3 h => show Tg W0 (vX13_isWord_2 (rx_J vhX13_isWord M)) _ _ _ _ from TX13_isWord_2 hl1 hl2 hl3 ih h
def PX13_isWord (a1 : Int) (G : gS) (Q : Int → gS → Prop) : Prop := ∃ f : Nat, f ≤ 4000000000 ∧ PX13_isWord_0 (PX13_isWord_J f) a1 G Q
theorem TX13_isWord {a1 : Int} {G : gS} {Q : Int → gS → Prop} (ha1 : inL a1) (h : PX13_isWord a1 G Q) : Tn W0 FX13_isWord [rf (16081), cL (a1)] G (fun r G => ∃ v, r = cI v ∧ (0 ≤ v ∧ v ≤ 1) ∧ Q v G) := by
  obtain ⟨f, hf, h⟩ := h
  have hJ := TX13_isWord_J (Q := Q) f 4000000000 hf
  unfold FX13_isWord
  refine g_ent (lv' := [rf (16081), cL (a1), 7, 7]) (flR (flL fl0)) (Nat.le_of_ble_eq_true rfl) rfl ?_
  exact TX13_isWord_0 ha1 hJ h
def PX13_byteAt_36 (l1 : Int) (s0 : Int) (G : gS) (Q : Int → gS → Prop) : Prop :=
  Q (s0) G
set_option maxRecDepth 20000 in
theorem TX13_byteAt_36 {l1 : Int} {s0 : Int} {G : gS} {Q : Int → gS → Prop} (hl1 : inI l1) (hs0 : inI s0) (h : PX13_byteAt_36 l1 s0 G Q) : Tg W0 vX13_byteAt_36 [rf (16081), cI (l1)] [cI (s0)] G (fun r G => ∃ v, r = cI v ∧ inI v ∧ Q v G) := by
  unfold PX13_byteAt_36 at h
  unfold vX13_byteAt_36
  exact g_ret1 (is_I _) ⟨_, rfl, hs0, h⟩
def PX13_byteAt_0 (a1 : Int) (G : gS) (Q : Int → gS → Prop) : Prop :=
  (inI (G 16081 19) → ((0 : Int) ≤ G 16081 19 ∧ ((G 16081 19 : Int) < 16 ∧ (inI (G 16086 (G 16081 19)) → ((a1 < G 16086 (G 16081 19) → (inI (G 16081 19) → ((0 : Int) ≤ ((G 16081 19) * 4000) + a1 ∧ ((((G 16081 19) * 4000) + a1 : Int) < 64000 ∧ ((-128 ≤ G 16085 (((G 16081 19) * 4000) + a1) ∧ G 16085 (((G 16081 19) * 4000) + a1) < 128) → (inI (iand (G 16085 (((G 16081 19) * 4000) + a1)) 255) → PX13_byteAt_36 a1 (iand (G 16085 (((G 16081 19) * 4000) + a1)) 255) G Q)))))) ∧ (¬ (a1 < G 16086 (G 16081 19)) → PX13_byteAt_36 a1 0 G Q))))))
set_option maxRecDepth 20000 in
theorem TX13_byteAt_0 {a1 : Int} {G : gS} {Q : Int → gS → Prop} (ha1 : inI a1) (h : PX13_byteAt_0 a1 G Q) : Tg W0 vX13_byteAt_0 [rf (16081), cI (a1)] [] G (fun r G => ∃ v, r = cI v ∧ inI v ∧ Q v G) := by
  unfold PX13_byteAt_0 at h
  unfold vX13_byteAt_0
  refine g_ld (v := cI _) rfl (is_I _) ?_
  refine g_ld (v := rf _) rfl (is_R _) ?_
  refine g_getF (v := 16086) oC13 (hC13_6) rfl (Nat.le_of_ble_eq_true rfl) (Nat.le_of_ble_eq_true rfl) ?_
  refine g_ld (v := rf _) rfl (is_R _) ?_
  refine g_getI (kz := 19) oC13 rfl (Nat.le_of_ble_eq_true rfl) rfl fun i1 => ?_
  replace h := h i1
  obtain ⟨q2, q3, h⟩ := h
  refine g_aldI aC16086 q2 q3 rfl fun i4 => ?_
  replace h := h i4
  refine g_lt2 ha1 i4 (fun b5 => ?_) (fun b5 => ?_)
  · replace h := h.1 b5
    unfold vX13_byteAt_13
    refine g_ld (v := rf _) rfl (is_R _) ?_
    refine g_getF (v := 16085) oC13 (hC13_5) rfl (Nat.le_of_ble_eq_true rfl) (Nat.le_of_ble_eq_true rfl) ?_
    refine g_ld (v := rf _) rfl (is_R _) ?_
    refine g_getI (kz := 19) oC13 rfl (Nat.le_of_ble_eq_true rfl) rfl fun i6 => ?_
    replace h := h i6
    refine g_const (v := cI (4000)) rfl ?_
    refine g_mul ?_
    refine g_ld (v := cI _) rfl (is_I _) ?_
    refine g_add ?_
    obtain ⟨q7, q8, h⟩ := h
    refine g_aldB aC16085 q7 q8 rfl fun i9 => ?_
    replace h := h i9
    refine g_const (v := cI (255)) rfl ?_
    refine g_iand fun i10 => ?_
    replace h := h i10
    exact TX13_byteAt_36 ha1 i10 h
  · replace h := h.2 b5
    unfold vX13_byteAt_35
    refine g_const (v := cI (0)) rfl ?_
    exact TX13_byteAt_36 ha1 ⟨by omega, by omega⟩ h
abbrev PX13_byteAt (a1 : Int) (G : gS) (Q : Int → gS → Prop) : Prop := PX13_byteAt_0 a1 G Q
theorem TX13_byteAt {a1 : Int} {G : gS} {Q : Int → gS → Prop} (ha1 : inI a1) (h : PX13_byteAt a1 G Q) : Tn W0 FX13_byteAt [rf (16081), cI (a1)] G (fun r G => ∃ v, r = cI v ∧ inI v ∧ Q v G) := by
  unfold FX13_byteAt
  refine g_ent (lv' := [rf (16081), cI (a1)]) (flR (flI fl0)) (Nat.le_of_ble_eq_true rfl) rfl ?_
  exact TX13_byteAt_0 ha1 h
def PX13_isSmall_17 (l0 : Int) (s0 : Int) (G : gS) (Q : Int → gS → Prop) : Prop :=
  ((0 ≤ s0 ∧ s0 ≤ 1) ∧ Q (s0) G)
set_option maxRecDepth 20000 in
theorem TX13_isSmall_17 {l0 : Int} {s0 : Int} {G : gS} {Q : Int → gS → Prop} (hl0 : inI l0) (hs0 : inI s0) (h : PX13_isSmall_17 l0 s0 G Q) : Tg W0 vX13_isSmall_17 [cI (l0)] [cI (s0)] G (fun r G => ∃ v, r = cI v ∧ (0 ≤ v ∧ v ≤ 1) ∧ Q v G) := by
  unfold PX13_isSmall_17 at h
  unfold vX13_isSmall_17
  obtain ⟨q3, h⟩ := h
  exact g_ret1 (is_Z q3) ⟨_, rfl, q3, h⟩
def PX13_isSmall_16 (l0 : Int) (G : gS) (Q : Int → gS → Prop) : Prop :=
  PX13_isSmall_17 l0 0 G Q
set_option maxRecDepth 20000 in
theorem TX13_isSmall_16 {l0 : Int} {G : gS} {Q : Int → gS → Prop} (hl0 : inI l0) (h : PX13_isSmall_16 l0 G Q) : Tg W0 vX13_isSmall_16 [cI (l0)] [] G (fun r G => ∃ v, r = cI v ∧ (0 ≤ v ∧ v ≤ 1) ∧ Q v G) := by
  unfold PX13_isSmall_16 at h
  unfold vX13_isSmall_16
  refine g_const (v := cI (0)) rfl ?_
  exact TX13_isSmall_17 hl0 ⟨by omega, by omega⟩ h
def PX13_isSmall_0 (a0 : Int) (G : gS) (Q : Int → gS → Prop) : Prop :=
  ((a0 < 97 → PX13_isSmall_16 a0 G Q) ∧ (¬ (a0 < 97) → ((122 < a0 → PX13_isSmall_16 a0 G Q) ∧ (¬ (122 < a0) → PX13_isSmall_17 a0 1 G Q))))
set_option maxRecDepth 20000 in
theorem TX13_isSmall_0 {a0 : Int} {G : gS} {Q : Int → gS → Prop} (ha0 : inI a0) (h : PX13_isSmall_0 a0 G Q) : Tg W0 vX13_isSmall_0 [cI (a0)] [] G (fun r G => ∃ v, r = cI v ∧ (0 ≤ v ∧ v ≤ 1) ∧ Q v G) := by
  unfold PX13_isSmall_0 at h
  unfold vX13_isSmall_0
  refine g_ld (v := cI _) rfl (is_I _) ?_
  refine g_const (v := cI (97)) rfl ?_
  refine g_lt2 ha0 ⟨by omega, by omega⟩ (fun b1 => ?_) (fun b1 => ?_)
  · replace h := h.1 b1
    exact TX13_isSmall_16 ha0 h
  · replace h := h.2 b1
    unfold vX13_isSmall_6
    refine g_ld (v := cI _) rfl (is_I _) ?_
    refine g_const (v := cI (122)) rfl ?_
    refine g_gt2 ha0 ⟨by omega, by omega⟩ (fun b2 => ?_) (fun b2 => ?_)
    · replace h := h.1 b2
      exact TX13_isSmall_16 ha0 h
    · replace h := h.2 b2
      unfold vX13_isSmall_12
      refine g_const (v := cI (1)) rfl ?_
      exact TX13_isSmall_17 ha0 ⟨by omega, by omega⟩ h
abbrev PX13_isSmall (a0 : Int) (G : gS) (Q : Int → gS → Prop) : Prop := PX13_isSmall_0 a0 G Q
theorem TX13_isSmall {a0 : Int} {G : gS} {Q : Int → gS → Prop} (ha0 : inI a0) (h : PX13_isSmall a0 G Q) : Tn W0 FX13_isSmall [cI (a0)] G (fun r G => ∃ v, r = cI v ∧ (0 ≤ v ∧ v ≤ 1) ∧ Q v G) := by
  unfold FX13_isSmall
  refine g_ent (lv' := [cI (a0)]) (flI fl0) (Nat.le_of_ble_eq_true rfl) rfl ?_
  exact TX13_isSmall_0 ha0 h
def PX13_isGreat_17 (l0 : Int) (s0 : Int) (G : gS) (Q : Int → gS → Prop) : Prop :=
  ((0 ≤ s0 ∧ s0 ≤ 1) ∧ Q (s0) G)
set_option maxRecDepth 20000 in
theorem TX13_isGreat_17 {l0 : Int} {s0 : Int} {G : gS} {Q : Int → gS → Prop} (hl0 : inI l0) (hs0 : inI s0) (h : PX13_isGreat_17 l0 s0 G Q) : Tg W0 vX13_isGreat_17 [cI (l0)] [cI (s0)] G (fun r G => ∃ v, r = cI v ∧ (0 ≤ v ∧ v ≤ 1) ∧ Q v G) := by
  unfold PX13_isGreat_17 at h
  unfold vX13_isGreat_17
  obtain ⟨q3, h⟩ := h
  exact g_ret1 (is_Z q3) ⟨_, rfl, q3, h⟩
def PX13_isGreat_16 (l0 : Int) (G : gS) (Q : Int → gS → Prop) : Prop :=
  PX13_isGreat_17 l0 0 G Q
set_option maxRecDepth 20000 in
theorem TX13_isGreat_16 {l0 : Int} {G : gS} {Q : Int → gS → Prop} (hl0 : inI l0) (h : PX13_isGreat_16 l0 G Q) : Tg W0 vX13_isGreat_16 [cI (l0)] [] G (fun r G => ∃ v, r = cI v ∧ (0 ≤ v ∧ v ≤ 1) ∧ Q v G) := by
  unfold PX13_isGreat_16 at h
  unfold vX13_isGreat_16
  refine g_const (v := cI (0)) rfl ?_
  exact TX13_isGreat_17 hl0 ⟨by omega, by omega⟩ h
def PX13_isGreat_0 (a0 : Int) (G : gS) (Q : Int → gS → Prop) : Prop :=
  ((a0 < 65 → PX13_isGreat_16 a0 G Q) ∧ (¬ (a0 < 65) → ((90 < a0 → PX13_isGreat_16 a0 G Q) ∧ (¬ (90 < a0) → PX13_isGreat_17 a0 1 G Q))))
set_option maxRecDepth 20000 in
theorem TX13_isGreat_0 {a0 : Int} {G : gS} {Q : Int → gS → Prop} (ha0 : inI a0) (h : PX13_isGreat_0 a0 G Q) : Tg W0 vX13_isGreat_0 [cI (a0)] [] G (fun r G => ∃ v, r = cI v ∧ (0 ≤ v ∧ v ≤ 1) ∧ Q v G) := by
  unfold PX13_isGreat_0 at h
  unfold vX13_isGreat_0
  refine g_ld (v := cI _) rfl (is_I _) ?_
  refine g_const (v := cI (65)) rfl ?_
  refine g_lt2 ha0 ⟨by omega, by omega⟩ (fun b1 => ?_) (fun b1 => ?_)
  · replace h := h.1 b1
    exact TX13_isGreat_16 ha0 h
  · replace h := h.2 b1
    unfold vX13_isGreat_6
    refine g_ld (v := cI _) rfl (is_I _) ?_
    refine g_const (v := cI (90)) rfl ?_
    refine g_gt2 ha0 ⟨by omega, by omega⟩ (fun b2 => ?_) (fun b2 => ?_)
    · replace h := h.1 b2
      exact TX13_isGreat_16 ha0 h
    · replace h := h.2 b2
      unfold vX13_isGreat_12
      refine g_const (v := cI (1)) rfl ?_
      exact TX13_isGreat_17 ha0 ⟨by omega, by omega⟩ h
abbrev PX13_isGreat (a0 : Int) (G : gS) (Q : Int → gS → Prop) : Prop := PX13_isGreat_0 a0 G Q
theorem TX13_isGreat {a0 : Int} {G : gS} {Q : Int → gS → Prop} (ha0 : inI a0) (h : PX13_isGreat a0 G Q) : Tn W0 FX13_isGreat [cI (a0)] G (fun r G => ∃ v, r = cI v ∧ (0 ≤ v ∧ v ≤ 1) ∧ Q v G) := by
  unfold FX13_isGreat
  refine g_ent (lv' := [cI (a0)]) (flI fl0) (Nat.le_of_ble_eq_true rfl) rfl ?_
  exact TX13_isGreat_0 ha0 h
def PX13_wordEnd_2 (J : Nat → List Int → gS → (Int → gS → Prop) → Prop) (l1 : Int) (l2 : Int) (G : gS) (Q : Int → gS → Prop) : Prop :=
  PX13_byteAt l2 G (fun r2 G1 => inI r2 → PX13_sym r2 G1 (fun r5 G4 => inI r5 → ((r5 = 0 → Q (l2) G4) ∧ (¬ (r5 = 0) → (inI (l2 + 1) ∧ J 0 [l1, l2 + 1] G4 Q)))))
set_option maxRecDepth 20000 in
theorem TX13_wordEnd_2 {j : Nat → rx_K} {J : Nat → List Int → gS → (Int → gS → Prop) → Prop} {l1 : Int} {l2 : Int} {G : gS} {Q : Int → gS → Prop} (hl1 : inI l1) (hl2 : inI l2) (hj0 : ∀ (l1 : Int) (l2 : Int) (G : gS), (inI l1) → (inI l2) → J 0 [l1, l2] G Q → Tg W0 (j 0) [rf (16081), cI (l1), cI (l2)] [] G (fun r G => ∃ v, r = cI v ∧ inI v ∧ Q v G)) (h : PX13_wordEnd_2 J l1 l2 G Q) : Tg W0 (vX13_wordEnd_2 j) [rf (16081), cI (l1), cI (l2)] [] G (fun r G => ∃ v, r = cI v ∧ inI v ∧ Q v G) := by
  unfold PX13_wordEnd_2 at h
  unfold vX13_wordEnd_2
  refine g_ld (v := rf _) rfl (is_R _) ?_
  refine g_ld (v := cI _) rfl (is_I _) ?_
  refine g_callV (As := [_]) (ci := 13) oC13 (fun _ => rfl) ?_
  refine g_go1 (Nat.le_of_ble_eq_true rfl) (Tn_w (TX13_byteAt hl2 h) fun _ G1 ⟨r2, e, i3, h⟩ => ?_)
  subst e
  refine ⟨n7_I _, ?_⟩
  replace h := h i3
  refine g_callS (As := [_]) (fun _ => rfl) ?_
  refine g_go1 (Nat.le_of_ble_eq_true rfl) (Tn_w (TX13_sym i3 h) fun _ G4 ⟨r5, e, i6, h⟩ => ?_)
  subst e
  refine ⟨n7_I _, ?_⟩
  replace h := h i6
  refine g_eq1 i6 (fun b7 => ?_) (fun b7 => ?_)
  · replace h := h.1 b7
    unfold vX13_wordEnd_19
    refine g_ld (v := cI _) rfl (is_I _) ?_
    exact g_ret1 (is_I _) ⟨_, rfl, hl2, h⟩
  · replace h := h.2 b7
    unfold vX13_wordEnd_13
    refine g_inc (lv' := [_, _, _]) rfl (Nat.le_of_ble_eq_true rfl) (Or.inr (n1_I _)) rfl ?_
    obtain ⟨q8, h⟩ := h
    exact hj0 _ _ _ hl1 q8 h
def PX13_wordEnd_0 (J : Nat → List Int → gS → (Int → gS → Prop) → Prop) (a1 : Int) (G : gS) (Q : Int → gS → Prop) : Prop :=
  PX13_wordEnd_2 J a1 a1 G Q
set_option maxRecDepth 20000 in
theorem TX13_wordEnd_0 {j : Nat → rx_K} {J : Nat → List Int → gS → (Int → gS → Prop) → Prop} {a1 : Int} {G : gS} {Q : Int → gS → Prop} (ha1 : inI a1) (hj0 : ∀ (l1 : Int) (l2 : Int) (G : gS), (inI l1) → (inI l2) → J 0 [l1, l2] G Q → Tg W0 (j 0) [rf (16081), cI (l1), cI (l2)] [] G (fun r G => ∃ v, r = cI v ∧ inI v ∧ Q v G)) (h : PX13_wordEnd_0 J a1 G Q) : Tg W0 (vX13_wordEnd_0 j) [rf (16081), cI (a1), 7] [] G (fun r G => ∃ v, r = cI v ∧ inI v ∧ Q v G) := by
  unfold PX13_wordEnd_0 at h
  unfold vX13_wordEnd_0
  refine g_ld (v := cI _) rfl (is_I _) ?_
  refine g_st (lv' := [_, _, _]) (is_I _) (Nat.le_of_ble_eq_true rfl) (Or.inr (n1_I _)) rfl ?_
  exact TX13_wordEnd_2 ha1 ha1 hj0 h
def PX13_wordEnd_J : Nat → Nat → List Int → gS → (Int → gS → Prop) → Prop
  | 0, _, _, _, _ => False
  | f + 1, h, L, G, Q => match h, L with
    | 0, [l1, l2] => PX13_wordEnd_2 (PX13_wordEnd_J f) l1 l2 G Q
    | _, _ => False
theorem TX13_wordEnd_J {Q : Int → gS → Prop} : ∀ f N : Nat, f ≤ N → (∀ (l1 : Int) (l2 : Int) (G : gS), (inI l1) → (inI l2) → (PX13_wordEnd_J f) 0 [l1, l2] G Q → Tg W0 (rx_J vhX13_wordEnd N 0) [rf (16081), cI (l1), cI (l2)] [] G (fun r G => ∃ v, r = cI v ∧ inI v ∧ Q v G)) := by
  intro f
  induction f with
  | zero => exact fun N _ => fun _ _ _ _ _ h => h.elim
  | succ f ih =>
    intro N hN
    obtain ⟨M, rfl⟩ : ∃ M, N = M + 1 := ⟨N - 1, by omega⟩
    have ih := ih M (by omega)
    exact fun _ _ _ hl1 hl2 h => show Tg W0 (vX13_wordEnd_2 (rx_J vhX13_wordEnd M)) _ _ _ _ from TX13_wordEnd_2 hl1 hl2 ih h
def PX13_wordEnd (a1 : Int) (G : gS) (Q : Int → gS → Prop) : Prop := ∃ f : Nat, f ≤ 4000000000 ∧ PX13_wordEnd_0 (PX13_wordEnd_J f) a1 G Q
theorem TX13_wordEnd {a1 : Int} {G : gS} {Q : Int → gS → Prop} (ha1 : inI a1) (h : PX13_wordEnd a1 G Q) : Tn W0 FX13_wordEnd [rf (16081), cI (a1)] G (fun r G => ∃ v, r = cI v ∧ inI v ∧ Q v G) := by
  obtain ⟨f, hf, h⟩ := h
  have hJ := TX13_wordEnd_J (Q := Q) f 4000000000 hf
  unfold FX13_wordEnd
  refine g_ent (lv' := [rf (16081), cI (a1), 7]) (flR (flI fl0)) (Nat.le_of_ble_eq_true rfl) rfl ?_
  exact TX13_wordEnd_0 ha1 hJ h
end DE

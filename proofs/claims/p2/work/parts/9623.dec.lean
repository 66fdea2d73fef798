section DE
def PX13_newStamp_44 (J : Nat → List Int → gS → (Int → gS → Prop) → Prop)  (G : gS) (Q : Int → gS → Prop) : Prop :=
  (inI (G 16081 95) → (inI ((G 16081 95) + 1) ∧ (∀ G14 : gS, G14 = uG G 16081 95 ((G 16081 95) + 1) → Q 0 G14)))
set_option maxRecDepth 20000 in
theorem TX13_newStamp_44 {j : Nat → rx_K} {J : Nat → List Int → gS → (Int → gS → Prop) → Prop} {l1 : Nat} {G : gS} {Q : Int → gS → Prop} (hl1 : l1 % 8 ≠ 1) (hj0 : ∀ (l1 : Int) (G : gS), (inI l1) → J 0 [l1] G Q → Tg W0 (j 0) [rf (16081), cI (l1)] [] G (fun r G => r = 7 ∧ Q 0 G)) (h : PX13_newStamp_44 J  G Q) : Tg W0 (vX13_newStamp_44 j) [rf (16081), l1] [] G (fun r G => r = 7 ∧ Q 0 G) := by
  unfold PX13_newStamp_44 at h
  unfold vX13_newStamp_44
  refine g_ld (v := rf _) rfl (is_R _) ?_
  refine g_dup (ct_R _) ?_
  refine g_getI (kz := 95) oC13 rfl (Nat.le_of_ble_eq_true rfl) rfl fun i12 => ?_
  replace h := h i12
  refine g_const (v := cI (1)) rfl ?_
  refine g_add ?_
  obtain ⟨q13, h⟩ := h
  refine g_putI (kz := 95) oC13 rfl (Nat.le_of_ble_eq_true rfl) rfl q13 (zfin_no (c := 16081) (j := 95) rfl) ?_
  replace h := h _ rfl
  exact g_ret0 ⟨rfl, h⟩
def PX13_newStamp_12 (J : Nat → List Int → gS → (Int → gS → Prop) → Prop) (l1 : Int) (G : gS) (Q : Int → gS → Prop) : Prop :=
  ((l1 < 216 → ((0 : Int) ≤ l1 ∧ ((l1 : Int) < 216 ∧ (∀ G6 : gS, G6 = uG G 16164 l1 (0) → ((0 : Int) ≤ l1 ∧ ((l1 : Int) < 216 ∧ (∀ G9 : gS, G9 = uG G6 16165 l1 (0) → (inI (l1 + 1) ∧ J 0 [l1 + 1] G9 Q)))))))) ∧ (¬ (l1 < 216) → (∀ G11 : gS, G11 = uG G 16081 95 (0) → PX13_newStamp_44 J  G11 Q)))
set_option maxRecDepth 20000 in
theorem TX13_newStamp_12 {j : Nat → rx_K} {J : Nat → List Int → gS → (Int → gS → Prop) → Prop} {l1 : Int} {G : gS} {Q : Int → gS → Prop} (hl1 : inI l1) (hj0 : ∀ (l1 : Int) (G : gS), (inI l1) → J 0 [l1] G Q → Tg W0 (j 0) [rf (16081), cI (l1)] [] G (fun r G => r = 7 ∧ Q 0 G)) (h : PX13_newStamp_12 J l1 G Q) : Tg W0 (vX13_newStamp_12 j) [rf (16081), cI (l1)] [] G (fun r G => r = 7 ∧ Q 0 G) := by
  unfold PX13_newStamp_12 at h
  unfold vX13_newStamp_12
  refine g_ld (v := cI _) rfl (is_I _) ?_
  refine g_const (v := cI (216)) rfl ?_
  refine g_lt2 hl1 ⟨by omega, by omega⟩ (fun b3 => ?_) (fun b3 => ?_)
  · replace h := h.1 b3
    unfold vX13_newStamp_19
    refine g_ld (v := rf _) rfl (is_R _) ?_
    refine g_getF (v := 16164) oC13 (hC13_93) rfl (Nat.le_of_ble_eq_true rfl) (Nat.le_of_ble_eq_true rfl) ?_
    refine g_ld (v := cI _) rfl (is_I _) ?_
    refine g_const (v := cI (0)) rfl ?_
    obtain ⟨q4, q5, h⟩ := h
    refine g_astI aC16164 q4 q5 ⟨by omega, by omega⟩ (nfI aC16164) ?_
    replace h := h _ rfl
    refine g_ld (v := rf _) rfl (is_R _) ?_
    refine g_getF (v := 16165) oC13 (hC13_94) rfl (Nat.le_of_ble_eq_true rfl) (Nat.le_of_ble_eq_true rfl) ?_
    refine g_ld (v := cI _) rfl (is_I _) ?_
    refine g_const (v := cI (0)) rfl ?_
    obtain ⟨q7, q8, h⟩ := h
    refine g_astI aC16165 q7 q8 ⟨by omega, by omega⟩ (nfI aC16165) ?_
    replace h := h _ rfl
    refine g_inc (lv' := [_, _]) rfl (Nat.le_of_ble_eq_true rfl) (Or.inr (n1_R _)) rfl ?_
    obtain ⟨q10, h⟩ := h
    exact hj0 _ _ q10 h
  · replace h := h.2 b3
    unfold vX13_newStamp_39
    refine g_ld (v := rf _) rfl (is_R _) ?_
    refine g_const (v := cI (0)) rfl ?_
    refine g_putI (kz := 95) oC13 rfl (Nat.le_of_ble_eq_true rfl) rfl ⟨by omega, by omega⟩ (zfin_no (c := 16081) (j := 95) rfl) ?_
    replace h := h _ rfl
    exact TX13_newStamp_44 (n1_I _) hj0 h
def PX13_newStamp_0 (J : Nat → List Int → gS → (Int → gS → Prop) → Prop)  (G : gS) (Q : Int → gS → Prop) : Prop :=
  (inI (G 16081 95) → ((G 16081 95 = 2147483647 → PX13_newStamp_12 J 0 G Q) ∧ (¬ (G 16081 95 = 2147483647) → PX13_newStamp_44 J  G Q)))
set_option maxRecDepth 20000 in
theorem TX13_newStamp_0 {j : Nat → rx_K} {J : Nat → List Int → gS → (Int → gS → Prop) → Prop}  {G : gS} {Q : Int → gS → Prop}  (hj0 : ∀ (l1 : Int) (G : gS), (inI l1) → J 0 [l1] G Q → Tg W0 (j 0) [rf (16081), cI (l1)] [] G (fun r G => r = 7 ∧ Q 0 G)) (h : PX13_newStamp_0 J  G Q) : Tg W0 (vX13_newStamp_0 j) [rf (16081), 7] [] G (fun r G => r = 7 ∧ Q 0 G) := by
  unfold PX13_newStamp_0 at h
  unfold vX13_newStamp_0
  refine g_ld (v := rf _) rfl (is_R _) ?_
  refine g_getI (kz := 95) oC13 rfl (Nat.le_of_ble_eq_true rfl) rfl fun i1 => ?_
  replace h := h i1
  refine g_const (v := cI (2147483647)) rfl ?_
  refine g_eq2 i1 ⟨by omega, by omega⟩ (fun b2 => ?_) (fun b2 => ?_)
  · replace h := h.1 b2
    unfold vX13_newStamp_10
    refine g_const (v := cI (0)) rfl ?_
    refine g_st (lv' := [_, _]) (is_I _) (Nat.le_of_ble_eq_true rfl) (Or.inr (n1_R _)) rfl ?_
    exact TX13_newStamp_12 ⟨by omega, by omega⟩ hj0 h
  · replace h := h.2 b2
    exact TX13_newStamp_44 (show 7 % 8 ≠ 1 by decide) hj0 h
def PX13_newStamp_J : Nat → Nat → List Int → gS → (Int → gS → Prop) → Prop
  | 0, _, _, _, _ => False
  | f + 1, h, L, G, Q => match h, L with
    | 0, [l1] => PX13_newStamp_12 (PX13_newStamp_J f) l1 G Q
    | _, _ => False
theorem TX13_newStamp_J {Q : Int → gS → Prop} : ∀ f N : Nat, f ≤ N → (∀ (l1 : Int) (G : gS), (inI l1) → (PX13_newStamp_J f) 0 [l1] G Q → Tg W0 (rx_J vhX13_newStamp N 0) [rf (16081), cI (l1)] [] G (fun r G => r = 7 ∧ Q 0 G)) := by
  intro f
  induction f with
  | zero => exact fun N _ => fun _ _ _ h => h.elim
  | succ f ih =>
    intro N hN
    obtain ⟨M, rfl⟩ : ∃ M, N = M + 1 := ⟨N - 1, by omega⟩
    have ih := ih M (by omega)
    exact fun _ _ hl1 h => show Tg W0 (vX13_newStamp_12 (rx_J vhX13_newStamp M)) _ _ _ _ from TX13_newStamp_12 hl1 ih h
def PX13_newStamp  (G : gS) (Q : Int → gS → Prop) : Prop := ∃ f : Nat, f ≤ 4000000000 ∧ PX13_newStamp_0 (PX13_newStamp_J f)  G Q
theorem TX13_newStamp  {G : gS} {Q : Int → gS → Prop}  (h : PX13_newStamp  G Q) : Tn W0 FX13_newStamp [rf (16081)] G (fun r G => r = 7 ∧ Q 0 G) := by
  obtain ⟨f, hf, h⟩ := h
  have hJ := TX13_newStamp_J (Q := Q) f 4000000000 hf
  unfold FX13_newStamp
  refine g_ent (lv' := [rf (16081), 7]) (flR fl0) (Nat.le_of_ble_eq_true rfl) rfl ?_
  exact TX13_newStamp_0  hJ h
def PX13_allFaces_224 (J : Nat → List Int → gS → (Int → gS → Prop) → Prop) (l1 : Int) (l2 : Int) (l3 : Int) (l4 : Int) (l5 : Int) (G : gS) (Q : Int → gS → Prop) : Prop :=
  J 0 [l1, l2, l3, l4] G Q
set_option maxRecDepth 20000 in
theorem TX13_allFaces_224 {j : Nat → rx_K} {J : Nat → List Int → gS → (Int → gS → Prop) → Prop} {l1 : Int} {l2 : Int} {l3 : Int} {l4 : Int} {l5 : Int} {l6 : Nat} {l7 : Nat} {l8 : Nat} {G : gS} {Q : Int → gS → Prop} (hl1 : inI l1) (hl3 : inI l3) (hl4 : inI l4) (hl5 : inI l5) (hl6 : l6 % 8 ≠ 1) (hl7 : l7 % 8 ≠ 1) (hl8 : l8 % 8 ≠ 1) (hj0 : ∀ (l1 : Int) (l2 : Int) (l3 : Int) (l4 : Int) (l5 : Nat) (l6 : Nat) (l7 : Nat) (l8 : Nat) (G : gS), (inI l1) → (inI l3) → (inI l4) → (l5 % 8 ≠ 1) → (l6 % 8 ≠ 1) → (l7 % 8 ≠ 1) → (l8 % 8 ≠ 1) → J 0 [l1, l2, l3, l4] G Q → Tg W0 (j 0) [rf (16081), cI (l1), rf (l2), cI (l3), cI (l4), l5, l6, l7, l8] [] G (fun r G => ∃ v, r = cI v ∧ inI v ∧ Q v G)) (hj1 : ∀ (l1 : Int) (l2 : Int) (l3 : Int) (l4 : Int) (l5 : Int) (l6 : Int) (l7 : Int) (l8 : Nat) (G : gS), (inI l1) → (inI l3) → (inI l4) → (inI l5) → (inI l6) → (inI l7) → (l8 % 8 ≠ 1) → J 1 [l1, l2, l3, l4, l5, l6, l7] G Q → Tg W0 (j 1) [rf (16081), cI (l1), rf (l2), cI (l3), cI (l4), cI (l5), cI (l6), cI (l7), l8] [] G (fun r G => ∃ v, r = cI v ∧ inI v ∧ Q v G)) (h : PX13_allFaces_224 J l1 l2 l3 l4 l5 G Q) : Tg W0 (vX13_allFaces_224 j) [rf (16081), cI (l1), rf (l2), cI (l3), cI (l4), cI (l5), l6, l7, l8] [] G (fun r G => ∃ v, r = cI v ∧ inI v ∧ Q v G) := by
  unfold PX13_allFaces_224 at h
  unfold vX13_allFaces_224
  exact hj0 _ _ _ _ _ _ _ _ _ hl1 hl3 hl4 (n1_I _) hl6 hl7 hl8 h
def PX13_allFaces_218 (J : Nat → List Int → gS → (Int → gS → Prop) → Prop) (l1 : Int) (l2 : Int) (l3 : Int) (l4 : Int) (l5 : Int) (l6 : Int) (l7 : Int) (l8 : Int) (G : gS) (Q : Int → gS → Prop) : Prop :=
  (inI (l7 + (-1)) ∧ J 1 [l1, l2, l3, l4, l5, l6, l7 + (-1)] G Q)
set_option maxRecDepth 20000 in
theorem TX13_allFaces_218 {j : Nat → rx_K} {J : Nat → List Int → gS → (Int → gS → Prop) → Prop} {l1 : Int} {l2 : Int} {l3 : Int} {l4 : Int} {l5 : Int} {l6 : Int} {l7 : Int} {l8 : Int} {G : gS} {Q : Int → gS → Prop} (hl1 : inI l1) (hl3 : inI l3) (hl4 : inI l4) (hl5 : inI l5) (hl6 : inI l6) (hl7 : inI l7) (hl8 : inI l8) (hj0 : ∀ (l1 : Int) (l2 : Int) (l3 : Int) (l4 : Int) (l5 : Nat) (l6 : Nat) (l7 : Nat) (l8 : Nat) (G : gS), (inI l1) → (inI l3) → (inI l4) → (l5 % 8 ≠ 1) → (l6 % 8 ≠ 1) → (l7 % 8 ≠ 1) → (l8 % 8 ≠ 1) → J 0 [l1, l2, l3, l4] G Q → Tg W0 (j 0) [rf (16081), cI (l1), rf (l2), cI (l3), cI (l4), l5, l6, l7, l8] [] G (fun r G => ∃ v, r = cI v ∧ inI v ∧ Q v G)) (hj1 : ∀ (l1 : Int) (l2 : Int) (l3 : Int) (l4 : Int) (l5 : Int) (l6 : Int) (l7 : Int) (l8 : Nat) (G : gS), (inI l1) → (inI l3) → (inI l4) → (inI l5) → (inI l6) → (inI l7) → (l8 % 8 ≠ 1) → J 1 [l1, l2, l3, l4, l5, l6, l7] G Q → Tg W0 (j 1) [rf (16081), cI (l1), rf (l2), cI (l3), cI (l4), cI (l5), cI (l6), cI (l7), l8] [] G (fun r G => ∃ v, r = cI v ∧ inI v ∧ Q v G)) (h : PX13_allFaces_218 J l1 l2 l3 l4 l5 l6 l7 l8 G Q) : Tg W0 (vX13_allFaces_218 j) [rf (16081), cI (l1), rf (l2), cI (l3), cI (l4), cI (l5), cI (l6), cI (l7), cI (l8)] [] G (fun r G => ∃ v, r = cI v ∧ inI v ∧ Q v G) := by
  unfold PX13_allFaces_218 at h
  unfold vX13_allFaces_218
  refine g_inc (lv' := [_, _, _, _, _, _, _, _, _]) rfl (Nat.le_of_ble_eq_true rfl) (Or.inr (n1_I _)) rfl ?_
  obtain ⟨q74, h⟩ := h
  exact hj1 _ _ _ _ _ _ _ _ _ hl1 hl3 hl4 hl5 hl6 q74 (n1_I _) h
def PX13_allFaces_174 (J : Nat → List Int → gS → (Int → gS → Prop) → Prop) (l1 : Int) (l2 : Int) (l3 : Int) (l4 : Int) (l5 : Int) (l6 : Int) (l7 : Int) (G : gS) (Q : Int → gS → Prop) : Prop :=
  ((l7 < 0 → PX13_allFaces_224 J l1 l2 l3 l4 l5 G Q) ∧ (¬ (l7 < 0) → ((0 : Int) ≤ (4 * l5) + l7 ∧ (((4 * l5) + l7 : Int) < 864 ∧ (inL (G 16104 ((4 * l5) + l7)) → PX13_find (G 16104 ((4 * l5) + l7)) G (fun r66 G65 => inI r66 → ((r66 = -2 → PX13_allFaces_218 J l1 l2 l3 l4 l5 l6 l7 r66 G65 Q) ∧ (¬ (r66 = -2) → (inI (l4 + 1) ∧ ((0 : Int) ≤ l4 ∧ ((l4 : Int) < 4000 ∧ (inI (2 * r66) ∧ (∀ G73 : gS, G73 = uG G65 16166 l4 (2 * r66) → PX13_allFaces_218 J l1 l2 l3 (l4 + 1) l5 l6 l7 r66 G73 Q)))))))))))))
set_option maxRecDepth 20000 in
theorem TX13_allFaces_174 {j : Nat → rx_K} {J : Nat → List Int → gS → (Int → gS → Prop) → Prop} {l1 : Int} {l2 : Int} {l3 : Int} {l4 : Int} {l5 : Int} {l6 : Int} {l7 : Int} {l8 : Nat} {G : gS} {Q : Int → gS → Prop} (hl1 : inI l1) (hl3 : inI l3) (hl4 : inI l4) (hl5 : inI l5) (hl6 : inI l6) (hl7 : inI l7) (hl8 : l8 % 8 ≠ 1) (hj0 : ∀ (l1 : Int) (l2 : Int) (l3 : Int) (l4 : Int) (l5 : Nat) (l6 : Nat) (l7 : Nat) (l8 : Nat) (G : gS), (inI l1) → (inI l3) → (inI l4) → (l5 % 8 ≠ 1) → (l6 % 8 ≠ 1) → (l7 % 8 ≠ 1) → (l8 % 8 ≠ 1) → J 0 [l1, l2, l3, l4] G Q → Tg W0 (j 0) [rf (16081), cI (l1), rf (l2), cI (l3), cI (l4), l5, l6, l7, l8] [] G (fun r G => ∃ v, r = cI v ∧ inI v ∧ Q v G)) (hj1 : ∀ (l1 : Int) (l2 : Int) (l3 : Int) (l4 : Int) (l5 : Int) (l6 : Int) (l7 : Int) (l8 : Nat) (G : gS), (inI l1) → (inI l3) → (inI l4) → (inI l5) → (inI l6) → (inI l7) → (l8 % 8 ≠ 1) → J 1 [l1, l2, l3, l4, l5, l6, l7] G Q → Tg W0 (j 1) [rf (16081), cI (l1), rf (l2), cI (l3), cI (l4), cI (l5), cI (l6), cI (l7), l8] [] G (fun r G => ∃ v, r = cI v ∧ inI v ∧ Q v G)) (h : PX13_allFaces_174 J l1 l2 l3 l4 l5 l6 l7 G Q) : Tg W0 (vX13_allFaces_174 j) [rf (16081), cI (l1), rf (l2), cI (l3), cI (l4), cI (l5), cI (l6), cI (l7), l8] [] G (fun r G => ∃ v, r = cI v ∧ inI v ∧ Q v G) := by
  unfold PX13_allFaces_174 at h
  unfold vX13_allFaces_174
  refine g_ld (v := cI _) rfl (is_I _) ?_
  refine g_lt1 hl7 (fun b61 => ?_) (fun b61 => ?_)
  · replace h := h.1 b61
    exact TX13_allFaces_224 hl1 hl3 hl4 hl5 (n1_I _) (n1_I _) hl8 hj0 hj1 h
  · replace h := h.2 b61
    unfold vX13_allFaces_179
    refine g_ld (v := rf _) rfl (is_R _) ?_
    refine g_ld (v := rf _) rfl (is_R _) ?_
    refine g_getF (v := 16104) oC13 (hC13_30) rfl (Nat.le_of_ble_eq_true rfl) (Nat.le_of_ble_eq_true rfl) ?_
    refine g_const (v := cI (4)) rfl ?_
    refine g_ld (v := cI _) rfl (is_I _) ?_
    refine g_mul ?_
    refine g_ld (v := cI _) rfl (is_I _) ?_
    refine g_add ?_
    obtain ⟨q62, q63, h⟩ := h
    refine g_aldL aC16104 q62 q63 rfl fun i64 => ?_
    replace h := h i64
    refine g_callV (As := [_]) (ci := 13) oC13 (fun _ => rfl) ?_
    refine g_go1 (Nat.le_of_ble_eq_true rfl) (Tn_w (TX13_find i64 h) fun _ G65 ⟨r66, e, i67, h⟩ => ?_)
    subst e
    refine ⟨n7_I _, ?_⟩
    replace h := h i67
    refine g_st (lv' := [_, _, _, _, _, _, _, _, _]) (is_I _) (Nat.le_of_ble_eq_true rfl) (Or.inr (n1_I _)) rfl ?_
    refine g_ld (v := cI _) rfl (is_I _) ?_
    refine g_const (v := cI (-2)) rfl ?_
    refine g_eq2 i67 ⟨by omega, by omega⟩ (fun b68 => ?_) (fun b68 => ?_)
    · replace h := h.1 b68
      exact TX13_allFaces_218 hl1 hl3 hl4 hl5 hl6 hl7 i67 hj0 hj1 h
    · replace h := h.2 b68
      unfold vX13_allFaces_204
      refine g_ld (v := rf _) rfl (is_R _) ?_
      refine g_getF (v := 16166) oC13 (hC13_96) rfl (Nat.le_of_ble_eq_true rfl) (Nat.le_of_ble_eq_true rfl) ?_
      refine g_ld (v := cI _) rfl (is_I _) ?_
      refine g_inc (lv' := [_, _, _, _, _, _, _, _, _]) rfl (Nat.le_of_ble_eq_true rfl) (Or.inr (n1_I _)) rfl ?_
      obtain ⟨q69, h⟩ := h
      refine g_const (v := cI (2)) rfl ?_
      refine g_ld (v := cI _) rfl (is_I _) ?_
      refine g_mul ?_
      obtain ⟨q70, q71, h⟩ := h
      obtain ⟨q72, h⟩ := h
      refine g_astI aC16166 q70 q71 q72 (nfI aC16166) ?_
      replace h := h _ rfl
      exact TX13_allFaces_218 hl1 hl3 q69 hl5 hl6 hl7 i67 hj0 hj1 h
def PX13_allFaces_163 (J : Nat → List Int → gS → (Int → gS → Prop) → Prop) (l1 : Int) (l2 : Int) (l3 : Int) (l4 : Int) (l5 : Int) (l6 : Int) (G : gS) (Q : Int → gS → Prop) : Prop :=
  ((0 : Int) ≤ l5 ∧ ((l5 : Int) < 216 ∧ (inI (G 16106 l5) → (inI ((G 16106 l5) - 1) ∧ PX13_allFaces_174 J l1 l2 l3 l4 l5 l6 ((G 16106 l5) - 1) G Q))))
set_option maxRecDepth 20000 in
theorem TX13_allFaces_163 {j : Nat → rx_K} {J : Nat → List Int → gS → (Int → gS → Prop) → Prop} {l1 : Int} {l2 : Int} {l3 : Int} {l4 : Int} {l5 : Int} {l6 : Int} {l7 : Nat} {l8 : Nat} {G : gS} {Q : Int → gS → Prop} (hl1 : inI l1) (hl3 : inI l3) (hl4 : inI l4) (hl5 : inI l5) (hl6 : inI l6) (hl7 : l7 % 8 ≠ 1) (hl8 : l8 % 8 ≠ 1) (hj0 : ∀ (l1 : Int) (l2 : Int) (l3 : Int) (l4 : Int) (l5 : Nat) (l6 : Nat) (l7 : Nat) (l8 : Nat) (G : gS), (inI l1) → (inI l3) → (inI l4) → (l5 % 8 ≠ 1) → (l6 % 8 ≠ 1) → (l7 % 8 ≠ 1) → (l8 % 8 ≠ 1) → J 0 [l1, l2, l3, l4] G Q → Tg W0 (j 0) [rf (16081), cI (l1), rf (l2), cI (l3), cI (l4), l5, l6, l7, l8] [] G (fun r G => ∃ v, r = cI v ∧ inI v ∧ Q v G)) (hj1 : ∀ (l1 : Int) (l2 : Int) (l3 : Int) (l4 : Int) (l5 : Int) (l6 : Int) (l7 : Int) (l8 : Nat) (G : gS), (inI l1) → (inI l3) → (inI l4) → (inI l5) → (inI l6) → (inI l7) → (l8 % 8 ≠ 1) → J 1 [l1, l2, l3, l4, l5, l6, l7] G Q → Tg W0 (j 1) [rf (16081), cI (l1), rf (l2), cI (l3), cI (l4), cI (l5), cI (l6), cI (l7), l8] [] G (fun r G => ∃ v, r = cI v ∧ inI v ∧ Q v G)) (h : PX13_allFaces_163 J l1 l2 l3 l4 l5 l6 G Q) : Tg W0 (vX13_allFaces_163 j) [rf (16081), cI (l1), rf (l2), cI (l3), cI (l4), cI (l5), cI (l6), l7, l8] [] G (fun r G => ∃ v, r = cI v ∧ inI v ∧ Q v G) := by
  unfold PX13_allFaces_163 at h
  unfold vX13_allFaces_163
  refine g_ld (v := rf _) rfl (is_R _) ?_
  refine g_getF (v := 16106) oC13 (hC13_32) rfl (Nat.le_of_ble_eq_true rfl) (Nat.le_of_ble_eq_true rfl) ?_
  refine g_ld (v := cI _) rfl (is_I _) ?_
  obtain ⟨q57, q58, h⟩ := h
  refine g_aldI aC16106 q57 q58 rfl fun i59 => ?_
  replace h := h i59
  refine g_const (v := cI (1)) rfl ?_
  refine g_sub ?_
  refine g_st (lv' := [_, _, _, _, _, _, _, _, _]) (is_I _) (Nat.le_of_ble_eq_true rfl) (Or.inr (n1_I _)) rfl ?_
  obtain ⟨q60, h⟩ := h
  exact TX13_allFaces_174 hl1 hl3 hl4 hl5 hl6 q60 hl8 hj0 hj1 h
def PX13_allFaces_24 (J : Nat → List Int → gS → (Int → gS → Prop) → Prop) (l1 : Int) (l2 : Int) (l3 : Int) (l4 : Int) (G : gS) (Q : Int → gS → Prop) : Prop :=
  ((0 < l4 → (inI (l4 + (-1)) ∧ ((0 : Int) ≤ l4 + (-1) ∧ ((l4 + (-1) : Int) < 4000 ∧ (inI (G 16166 (l4 + (-1))) → (inI (idiv (G 16166 (l4 + (-1))) 2) → ((0 : Int) ≤ l4 + (-1) ∧ ((l4 + (-1) : Int) < 4000 ∧ (inI (G 16166 (l4 + (-1))) → (inI (irem (G 16166 (l4 + (-1))) 2) → ((irem (G 16166 (l4 + (-1))) 2 = 0 → ((0 : Int) ≤ idiv (G 16166 (l4 + (-1))) 2 ∧ ((idiv (G 16166 (l4 + (-1))) 2 : Int) < 216 ∧ (inI (G 16164 (idiv (G 16166 (l4 + (-1))) 2)) → (inI (G 16081 95) → ((G 16164 (idiv (G 16166 (l4 + (-1))) 2) = G 16081 95 → PX13_allFaces_224 J l1 l2 l3 (l4 + (-1)) (idiv (G 16166 (l4 + (-1))) 2) G Q) ∧ (¬ (G 16164 (idiv (G 16166 (l4 + (-1))) 2) = G 16081 95) → (inI (G 16081 95) → ((0 : Int) ≤ idiv (G 16166 (l4 + (-1))) 2 ∧ ((idiv (G 16166 (l4 + (-1))) 2 : Int) < 216 ∧ (∀ G27 : gS, G27 = uG G 16164 (idiv (G 16166 (l4 + (-1))) 2) (G 16081 95) → (inI (l3 + 1) ∧ (∃ n29, isA W0 0 n29 (l2) ∧ ((0 : Int) ≤ l3 ∧ ((l3 : Int) < n29 ∧ (∀ G33 : gS, G33 = uG G27 l2 l3 (idiv (G 16166 (l4 + (-1))) 2) → (inI ((l4 + (-1)) + 1) ∧ ((0 : Int) ≤ l4 + (-1) ∧ ((l4 + (-1) : Int) < 4000 ∧ (inI ((2 * (idiv (G 16166 (l4 + (-1))) 2)) + 1) ∧ (∀ G38 : gS, G38 = uG G33 16166 (l4 + (-1)) ((2 * (idiv (G 16166 (l4 + (-1))) 2)) + 1) → PX13_allFaces_224 J l1 l2 (l3 + 1) ((l4 + (-1)) + 1) (idiv (G 16166 (l4 + (-1))) 2) G38 Q))))))))))))))))))))) ∧ (¬ (irem (G 16166 (l4 + (-1))) 2 = 0) → ((0 : Int) ≤ idiv (G 16166 (l4 + (-1))) 2 ∧ ((idiv (G 16166 (l4 + (-1))) 2 : Int) < 216 ∧ (inI (G 16165 (idiv (G 16166 (l4 + (-1))) 2)) → (inI (G 16081 95) → ((G 16165 (idiv (G 16166 (l4 + (-1))) 2) = G 16081 95 → PX13_allFaces_224 J l1 l2 l3 (l4 + (-1)) (idiv (G 16166 (l4 + (-1))) 2) G Q) ∧ (¬ (G 16165 (idiv (G 16166 (l4 + (-1))) 2) = G 16081 95) → (inI (G 16081 95) → ((0 : Int) ≤ idiv (G 16166 (l4 + (-1))) 2 ∧ ((idiv (G 16166 (l4 + (-1))) 2 : Int) < 216 ∧ (∀ G47 : gS, G47 = uG G 16165 (idiv (G 16166 (l4 + (-1))) 2) (G 16081 95) → PX13_parent (idiv (G 16166 (l4 + (-1))) 2) G47 (fun r49 G48 => inI r49 → ((r49 = -2 → PX13_allFaces_163 J l1 l2 l3 (l4 + (-1)) (idiv (G 16166 (l4 + (-1))) 2) r49 G48 Q) ∧ (¬ (r49 = -2) → (inI ((l4 + (-1)) + 1) ∧ ((0 : Int) ≤ l4 + (-1) ∧ ((l4 + (-1) : Int) < 4000 ∧ (inI ((2 * r49) + 1) ∧ (∀ G56 : gS, G56 = uG G48 16166 (l4 + (-1)) ((2 * r49) + 1) → PX13_allFaces_163 J l1 l2 l3 ((l4 + (-1)) + 1) (idiv (G 16166 (l4 + (-1))) 2) r49 G56 Q)))))))))))))))))))))))))))))) ∧ (¬ (0 < l4) → Q (l3) G))
set_option maxRecDepth 20000 in
theorem TX13_allFaces_24 {j : Nat → rx_K} {J : Nat → List Int → gS → (Int → gS → Prop) → Prop} {l1 : Int} {l2 : Int} {l3 : Int} {l4 : Int} {l5 : Nat} {l6 : Nat} {l7 : Nat} {l8 : Nat} {G : gS} {Q : Int → gS → Prop} (hl1 : inI l1) (hl3 : inI l3) (hl4 : inI l4) (hl5 : l5 % 8 ≠ 1) (hl6 : l6 % 8 ≠ 1) (hl7 : l7 % 8 ≠ 1) (hl8 : l8 % 8 ≠ 1) (hj0 : ∀ (l1 : Int) (l2 : Int) (l3 : Int) (l4 : Int) (l5 : Nat) (l6 : Nat) (l7 : Nat) (l8 : Nat) (G : gS), (inI l1) → (inI l3) → (inI l4) → (l5 % 8 ≠ 1) → (l6 % 8 ≠ 1) → (l7 % 8 ≠ 1) → (l8 % 8 ≠ 1) → J 0 [l1, l2, l3, l4] G Q → Tg W0 (j 0) [rf (16081), cI (l1), rf (l2), cI (l3), cI (l4), l5, l6, l7, l8] [] G (fun r G => ∃ v, r = cI v ∧ inI v ∧ Q v G)) (hj1 : ∀ (l1 : Int) (l2 : Int) (l3 : Int) (l4 : Int) (l5 : Int) (l6 : Int) (l7 : Int) (l8 : Nat) (G : gS), (inI l1) → (inI l3) → (inI l4) → (inI l5) → (inI l6) → (inI l7) → (l8 % 8 ≠ 1) → J 1 [l1, l2, l3, l4, l5, l6, l7] G Q → Tg W0 (j 1) [rf (16081), cI (l1), rf (l2), cI (l3), cI (l4), cI (l5), cI (l6), cI (l7), l8] [] G (fun r G => ∃ v, r = cI v ∧ inI v ∧ Q v G)) (h : PX13_allFaces_24 J l1 l2 l3 l4 G Q) : Tg W0 (vX13_allFaces_24 j) [rf (16081), cI (l1), rf (l2), cI (l3), cI (l4), l5, l6, l7, l8] [] G (fun r G => ∃ v, r = cI v ∧ inI v ∧ Q v G) := by
  unfold PX13_allFaces_24 at h
  unfold vX13_allFaces_24
  refine g_ld (v := cI _) rfl (is_I _) ?_
  refine g_gt1 hl4 (fun b8 => ?_) (fun b8 => ?_)
  · replace h := h.1 b8
    unfold vX13_allFaces_29
    refine g_inc (lv' := [_, _, _, _, _, _, _, _, _]) rfl (Nat.le_of_ble_eq_true rfl) (Or.inr (n1_I _)) rfl ?_
    obtain ⟨q9, h⟩ := h
    refine g_ld (v := rf _) rfl (is_R _) ?_
    refine g_getF (v := 16166) oC13 (hC13_96) rfl (Nat.le_of_ble_eq_true rfl) (Nat.le_of_ble_eq_true rfl) ?_
    refine g_ld (v := cI _) rfl (is_I _) ?_
    obtain ⟨q10, q11, h⟩ := h
    refine g_aldI aC16166 q10 q11 rfl fun i12 => ?_
    replace h := h i12
    refine g_const (v := cI (2)) rfl ?_
    refine g_idiv ⟨by omega, by omega⟩ (by omega) fun i13 => ?_
    replace h := h i13
    refine g_st (lv' := [_, _, _, _, _, _, _, _, _]) (is_I _) (Nat.le_of_ble_eq_true rfl) (Or.inr (n1_I _)) rfl ?_
    refine g_ld (v := rf _) rfl (is_R _) ?_
    refine g_getF (v := 16166) oC13 (hC13_96) rfl (Nat.le_of_ble_eq_true rfl) (Nat.le_of_ble_eq_true rfl) ?_
    refine g_ld (v := cI _) rfl (is_I _) ?_
    obtain ⟨q14, q15, h⟩ := h
    refine g_aldI aC16166 q14 q15 rfl fun i16 => ?_
    replace h := h i16
    refine g_const (v := cI (2)) rfl ?_
    refine g_irem ⟨by omega, by omega⟩ (by omega) fun i17 => ?_
    replace h := h i17
    refine g_eq1 i17 (fun b18 => ?_) (fun b18 => ?_)
    · replace h := h.1 b18
      unfold vX13_allFaces_55
      refine g_ld (v := rf _) rfl (is_R _) ?_
      refine g_getF (v := 16164) oC13 (hC13_93) rfl (Nat.le_of_ble_eq_true rfl) (Nat.le_of_ble_eq_true rfl) ?_
      refine g_ld (v := cI _) rfl (is_I _) ?_
      obtain ⟨q19, q20, h⟩ := h
      refine g_aldI aC16164 q19 q20 rfl fun i21 => ?_
      replace h := h i21
      refine g_ld (v := rf _) rfl (is_R _) ?_
      refine g_getI (kz := 95) oC13 rfl (Nat.le_of_ble_eq_true rfl) rfl fun i22 => ?_
      replace h := h i22
      refine g_eq2 i21 i22 (fun b23 => ?_) (fun b23 => ?_)
      · replace h := h.1 b23
        exact TX13_allFaces_224 hl1 hl3 q9 i13 hl6 hl7 hl8 hj0 hj1 h
      · replace h := h.2 b23
        unfold vX13_allFaces_69
        refine g_ld (v := rf _) rfl (is_R _) ?_
        refine g_getF (v := 16164) oC13 (hC13_93) rfl (Nat.le_of_ble_eq_true rfl) (Nat.le_of_ble_eq_true rfl) ?_
        refine g_ld (v := cI _) rfl (is_I _) ?_
        refine g_ld (v := rf _) rfl (is_R _) ?_
        refine g_getI (kz := 95) oC13 rfl (Nat.le_of_ble_eq_true rfl) rfl fun i24 => ?_
        replace h := h i24
        obtain ⟨q25, q26, h⟩ := h
        refine g_astI aC16164 q25 q26 i24 (nfI aC16164) ?_
        replace h := h _ rfl
        refine g_ld (v := rf _) rfl (is_R _) ?_
        refine g_ld (v := cI _) rfl (is_I _) ?_
        refine g_inc (lv' := [_, _, _, _, _, _, _, _, _]) rfl (Nat.le_of_ble_eq_true rfl) (Or.inr (n1_R _)) rfl ?_
        obtain ⟨q28, h⟩ := h
        refine g_ld (v := cI _) rfl (is_I _) ?_
        obtain ⟨n29, q30, h⟩ := h
        obtain ⟨q31, q32, h⟩ := h
        refine g_astI q30 q31 q32 i13 (nfI q30) ?_
        replace h := h _ rfl
        refine g_ld (v := rf _) rfl (is_R _) ?_
        refine g_getF (v := 16166) oC13 (hC13_96) rfl (Nat.le_of_ble_eq_true rfl) (Nat.le_of_ble_eq_true rfl) ?_
        refine g_ld (v := cI _) rfl (is_I _) ?_
        refine g_inc (lv' := [_, _, _, _, _, _, _, _, _]) rfl (Nat.le_of_ble_eq_true rfl) (Or.inr (n1_I _)) rfl ?_
        obtain ⟨q34, h⟩ := h
        refine g_const (v := cI (2)) rfl ?_
        refine g_ld (v := cI _) rfl (is_I _) ?_
        refine g_mul ?_
        refine g_const (v := cI (1)) rfl ?_
        refine g_add ?_
        obtain ⟨q35, q36, h⟩ := h
        obtain ⟨q37, h⟩ := h
        refine g_astI aC16166 q35 q36 q37 (nfI aC16166) ?_
        replace h := h _ rfl
        exact TX13_allFaces_224 hl1 q28 q34 i13 hl6 hl7 hl8 hj0 hj1 h
    · replace h := h.2 b18
      unfold vX13_allFaces_107
      refine g_ld (v := rf _) rfl (is_R _) ?_
      refine g_getF (v := 16165) oC13 (hC13_94) rfl (Nat.le_of_ble_eq_true rfl) (Nat.le_of_ble_eq_true rfl) ?_
      refine g_ld (v := cI _) rfl (is_I _) ?_
      obtain ⟨q39, q40, h⟩ := h
      refine g_aldI aC16165 q39 q40 rfl fun i41 => ?_
      replace h := h i41
      refine g_ld (v := rf _) rfl (is_R _) ?_
      refine g_getI (kz := 95) oC13 rfl (Nat.le_of_ble_eq_true rfl) rfl fun i42 => ?_
      replace h := h i42
      refine g_eq2 i41 i42 (fun b43 => ?_) (fun b43 => ?_)
      · replace h := h.1 b43
        exact TX13_allFaces_224 hl1 hl3 q9 i13 hl6 hl7 hl8 hj0 hj1 h
      · replace h := h.2 b43
        unfold vX13_allFaces_121
        refine g_ld (v := rf _) rfl (is_R _) ?_
        refine g_getF (v := 16165) oC13 (hC13_94) rfl (Nat.le_of_ble_eq_true rfl) (Nat.le_of_ble_eq_true rfl) ?_
        refine g_ld (v := cI _) rfl (is_I _) ?_
        refine g_ld (v := rf _) rfl (is_R _) ?_
        refine g_getI (kz := 95) oC13 rfl (Nat.le_of_ble_eq_true rfl) rfl fun i44 => ?_
        replace h := h i44
        obtain ⟨q45, q46, h⟩ := h
        refine g_astI aC16165 q45 q46 i44 (nfI aC16165) ?_
        replace h := h _ rfl
        refine g_ld (v := rf _) rfl (is_R _) ?_
        refine g_ld (v := cI _) rfl (is_I _) ?_
        refine g_callV (As := [_]) (ci := 13) oC13 (fun _ => rfl) ?_
        refine g_go1 (Nat.le_of_ble_eq_true rfl) (Tn_w (TX13_parent i13 h) fun _ G48 ⟨r49, e, i50, h⟩ => ?_)
        subst e
        refine ⟨n7_I _, ?_⟩
        replace h := h i50
        refine g_st (lv' := [_, _, _, _, _, _, _, _, _]) (is_I _) (Nat.le_of_ble_eq_true rfl) (Or.inr (n1_I _)) rfl ?_
        refine g_ld (v := cI _) rfl (is_I _) ?_
        refine g_const (v := cI (-2)) rfl ?_
        refine g_eq2 i50 ⟨by omega, by omega⟩ (fun b51 => ?_) (fun b51 => ?_)
        · replace h := h.1 b51
          exact TX13_allFaces_163 hl1 hl3 q9 i13 i50 hl7 hl8 hj0 hj1 h
        · replace h := h.2 b51
          unfold vX13_allFaces_147
          refine g_ld (v := rf _) rfl (is_R _) ?_
          refine g_getF (v := 16166) oC13 (hC13_96) rfl (Nat.le_of_ble_eq_true rfl) (Nat.le_of_ble_eq_true rfl) ?_
          refine g_ld (v := cI _) rfl (is_I _) ?_
          refine g_inc (lv' := [_, _, _, _, _, _, _, _, _]) rfl (Nat.le_of_ble_eq_true rfl) (Or.inr (n1_I _)) rfl ?_
          obtain ⟨q52, h⟩ := h
          refine g_const (v := cI (2)) rfl ?_
          refine g_ld (v := cI _) rfl (is_I _) ?_
          refine g_mul ?_
          refine g_const (v := cI (1)) rfl ?_
          refine g_add ?_
          obtain ⟨q53, q54, h⟩ := h
          obtain ⟨q55, h⟩ := h
          refine g_astI aC16166 q53 q54 q55 (nfI aC16166) ?_
          replace h := h _ rfl
          exact TX13_allFaces_163 hl1 hl3 q52 i13 i50 hl7 hl8 hj0 hj1 h
  · replace h := h.2 b8
    unfold vX13_allFaces_227
    refine g_ld (v := cI _) rfl (is_I _) ?_
    exact g_ret1 (is_I _) ⟨_, rfl, hl3, h⟩
def PX13_allFaces_0 (J : Nat → List Int → gS → (Int → gS → Prop) → Prop) (a1 : Int) (a2 : Int) (G : gS) (Q : Int → gS → Prop) : Prop :=
  PX13_newStamp G (fun _ G1 => (inI (0 + 1) ∧ ((0 : Int) ≤ 0 ∧ ((0 : Int) < 4000 ∧ (inI ((2 * a1) + 1) ∧ (∀ G7 : gS, G7 = uG G1 16166 0 ((2 * a1) + 1) → PX13_allFaces_24 J a1 a2 0 (0 + 1) G7 Q))))))
set_option maxRecDepth 20000 in
theorem TX13_allFaces_0 {j : Nat → rx_K} {J : Nat → List Int → gS → (Int → gS → Prop) → Prop} {a1 : Int} {a2 : Int} {G : gS} {Q : Int → gS → Prop} (ha1 : inI a1) (hj0 : ∀ (l1 : Int) (l2 : Int) (l3 : Int) (l4 : Int) (l5 : Nat) (l6 : Nat) (l7 : Nat) (l8 : Nat) (G : gS), (inI l1) → (inI l3) → (inI l4) → (l5 % 8 ≠ 1) → (l6 % 8 ≠ 1) → (l7 % 8 ≠ 1) → (l8 % 8 ≠ 1) → J 0 [l1, l2, l3, l4] G Q → Tg W0 (j 0) [rf (16081), cI (l1), rf (l2), cI (l3), cI (l4), l5, l6, l7, l8] [] G (fun r G => ∃ v, r = cI v ∧ inI v ∧ Q v G)) (hj1 : ∀ (l1 : Int) (l2 : Int) (l3 : Int) (l4 : Int) (l5 : Int) (l6 : Int) (l7 : Int) (l8 : Nat) (G : gS), (inI l1) → (inI l3) → (inI l4) → (inI l5) → (inI l6) → (inI l7) → (l8 % 8 ≠ 1) → J 1 [l1, l2, l3, l4, l5, l6, l7] G Q → Tg W0 (j 1) [rf (16081), cI (l1), rf (l2), cI (l3), cI (l4), cI (l5), cI (l6), cI (l7), l8] [] G (fun r G => ∃ v, r = cI v ∧ inI v ∧ Q v G)) (h : PX13_allFaces_0 J a1 a2 G Q) : Tg W0 (vX13_allFaces_0 j) [rf (16081), cI (a1), rf (a2), 7, 7, 7, 7, 7, 7] [] G (fun r G => ∃ v, r = cI v ∧ inI v ∧ Q v G) := by
  unfold PX13_allFaces_0 at h
  unfold vX13_allFaces_0
  refine g_ld (v := rf _) rfl (is_R _) ?_
  refine g_callV (As := []) (ci := 13) oC13 (fun _ => rfl) ?_
  refine g_go0 (Nat.le_of_ble_eq_true rfl) (Tn_w (TX13_newStamp  h) fun _ G1 ⟨e, h⟩ => ⟨e, ?_⟩)
  refine g_const (v := cI (0)) rfl ?_
  refine g_st (lv' := [_, _, _, _, _, _, _, _, _]) (is_I _) (Nat.le_of_ble_eq_true rfl) (Or.inr (n1_R _)) rfl ?_
  refine g_const (v := cI (0)) rfl ?_
  refine g_st (lv' := [_, _, _, _, _, _, _, _, _]) (is_I _) (Nat.le_of_ble_eq_true rfl) (Or.inr (n1_I _)) rfl ?_
  refine g_ld (v := rf _) rfl (is_R _) ?_
  refine g_getF (v := 16166) oC13 (hC13_96) rfl (Nat.le_of_ble_eq_true rfl) (Nat.le_of_ble_eq_true rfl) ?_
  refine g_ld (v := cI _) rfl (is_I _) ?_
  refine g_inc (lv' := [_, _, _, _, _, _, _, _, _]) rfl (Nat.le_of_ble_eq_true rfl) (Or.inr (n1_I _)) rfl ?_
  obtain ⟨q3, h⟩ := h
  refine g_const (v := cI (2)) rfl ?_
  refine g_ld (v := cI _) rfl (is_I _) ?_
  refine g_mul ?_
  refine g_const (v := cI (1)) rfl ?_
  refine g_add ?_
  obtain ⟨q4, q5, h⟩ := h
  obtain ⟨q6, h⟩ := h
  refine g_astI aC16166 q4 q5 q6 (nfI aC16166) ?_
  replace h := h _ rfl
  exact TX13_allFaces_24 ha1 ⟨by omega, by omega⟩ q3 (show 7 % 8 ≠ 1 by decide) (show 7 % 8 ≠ 1 by decide) (show 7 % 8 ≠ 1 by decide) (show 7 % 8 ≠ 1 by decide) hj0 hj1 h
def PX13_allFaces_J : Nat → Nat → List Int → gS → (Int → gS → Prop) → Prop
  | 0, _, _, _, _ => False
  | f + 1, h, L, G, Q => match h, L with
    | 0, [l1, l2, l3, l4] => PX13_allFaces_24 (PX13_allFaces_J f) l1 l2 l3 l4 G Q
    | 1, [l1, l2, l3, l4, l5, l6, l7] => PX13_allFaces_174 (PX13_allFaces_J f) l1 l2 l3 l4 l5 l6 l7 G Q
    | _, _ => False
theorem TX13_allFaces_J {Q : Int → gS → Prop} : ∀ f N : Nat, f ≤ N → (∀ (l1 : Int) (l2 : Int) (l3 : Int) (l4 : Int) (l5 : Nat) (l6 : Nat) (l7 : Nat) (l8 : Nat) (G : gS), (inI l1) → (inI l3) → (inI l4) → (l5 % 8 ≠ 1) → (l6 % 8 ≠ 1) → (l7 % 8 ≠ 1) → (l8 % 8 ≠ 1) → (PX13_allFaces_J f) 0 [l1, l2, l3, l4] G Q → Tg W0 (rx_J vhX13_allFaces N 0) [rf (16081), cI (l1), rf (l2), cI (l3), cI (l4), l5, l6, l7, l8] [] G (fun r G => ∃ v, r = cI v ∧ inI v ∧ Q v G)) ∧ (∀ (l1 : Int) (l2 : Int) (l3 : Int) (l4 : Int) (l5 : Int) (l6 : Int) (l7 : Int) (l8 : Nat) (G : gS), (inI l1) → (inI l3) → (inI l4) → (inI l5) → (inI l6) → (inI l7) → (l8 % 8 ≠ 1) → (PX13_allFaces_J f) 1 [l1, l2, l3, l4, l5, l6, l7] G Q → Tg W0 (rx_J vhX13_allFaces N 1) [rf (16081), cI (l1), rf (l2), cI (l3), cI (l4), cI (l5), cI (l6), cI (l7), l8] [] G (fun r G => ∃ v, r = cI v ∧ inI v ∧ Q v G)) := by
  intro f
  induction f with
  | zero => exact fun N _ => ⟨fun _ _ _ _ _ _ _ _ _ _ _ _ _ _ _ _ h => h.elim, fun _ _ _ _ _ _ _ _ _ _ _ _ _ _ _ _ h => h.elim⟩
  | succ f ih =>
    intro N hN
    obtain ⟨M, rfl⟩ : ∃ M, N = M + 1 := ⟨N - 1, by omega⟩
    have ih := ih M (by omega)
    exact ⟨fun _ _ _ _ _ _ _ _ _ hl1 hl3 hl4 hl5 hl6 hl7 hl8 h => show Tg W0 (vX13_allFaces_24 (rx_J vhX13_allFaces M)) _ _ _ _ from TX13_allFaces_24 hl1 hl3 hl4 hl5 hl6 hl7 hl8 ih.1 ih.2 h, fun _ _ _ _ _ _ _ _ _ hl1 hl3 hl4 hl5 hl6 hl7 hl8 h => show Tg W0 (vX13_allFaces_174 (rx_J vhX13_allFaces M)) _ _ _ _ from TX13_allFaces_174 hl1 hl3 hl4 hl5 hl6 hl7 hl8 ih.1 ih.2 h⟩
def PX13_allFaces (a1 : Int) (a2 : Int) (G : gS) (Q : Int → gS → Prop) : Prop := ∃ f : Nat, f ≤ 4000000000 ∧ PX13_allFaces_0 (PX13_allFaces_J f) a1 a2 G Q
theorem TX13_allFaces {a1 : Int} {a2 : Int} {G : gS} {Q : Int → gS → Prop} (ha1 : inI a1) (h : PX13_allFaces a1 a2 G Q) : Tn W0 FX13_allFaces [rf (16081), cI (a1), rf (a2)] G (fun r G => ∃ v, r = cI v ∧ inI v ∧ Q v G) := by
  obtain ⟨f, hf, h⟩ := h
  have hJ := TX13_allFaces_J (Q := Q) f 4000000000 hf
  unfold FX13_allFaces
  refine g_ent (lv' := [rf (16081), cI (a1), rf (a2), 7, 7, 7, 7, 7, 7]) (flR (flI (flR fl0))) (Nat.le_of_ble_eq_true rfl) rfl ?_
  exact TX13_allFaces_0 ha1 hJ.1 hJ.2 h
def PX13_isHeir_188 (J : Nat → List Int → gS → (Int → gS → Prop) → Prop) (l1 : Int) (l2 : Int) (l3 : Int) (l4 : Int) (G : gS) (Q : Int → gS → Prop) : Prop :=
  ((0 ≤ l4 ∧ l4 ≤ 1) ∧ Q (l4) G)
set_option maxRecDepth 20000 in
theorem TX13_isHeir_188 {j : Nat → rx_K} {J : Nat → List Int → gS → (Int → gS → Prop) → Prop} {l1 : Int} {l2 : Int} {l3 : Int} {l4 : Int} {l5 : Nat} {l6 : Nat} {l7 : Nat} {l8 : Nat} {G : gS} {Q : Int → gS → Prop} (hl1 : inI l1) (hl2 : inI l2) (hl3 : inI l3) (hl4 : inI l4) (hl5 : l5 % 8 ≠ 1) (hl6 : l6 % 8 ≠ 1) (hl7 : l7 % 8 ≠ 1) (hl8 : l8 % 8 ≠ 1) (hj0 : ∀ (l1 : Int) (l2 : Int) (l3 : Int) (l4 : Int) (l5 : Nat) (l6 : Nat) (l7 : Nat) (l8 : Nat) (G : gS), (inI l1) → (inI l2) → (inI l3) → (inI l4) → (l5 % 8 ≠ 1) → (l6 % 8 ≠ 1) → (l7 % 8 ≠ 1) → (l8 % 8 ≠ 1) → J 0 [l1, l2, l3, l4] G Q → Tg W0 (j 0) [rf (16081), cI (l1), cI (l2), cI (l3), cI (l4), l5, l6, l7, l8] [] G (fun r G => ∃ v, r = cI v ∧ (0 ≤ v ∧ v ≤ 1) ∧ Q v G)) (hj1 : ∀ (l1 : Int) (l2 : Int) (l3 : Int) (l4 : Int) (l5 : Int) (l6 : Int) (l7 : Int) (l8 : Nat) (G : gS), (inI l1) → (inI l2) → (inI l3) → (inI l4) → (inI l5) → (inI l6) → (inI l7) → (l8 % 8 ≠ 1) → J 1 [l1, l2, l3, l4, l5, l6, l7] G Q → Tg W0 (j 1) [rf (16081), cI (l1), cI (l2), cI (l3), cI (l4), cI (l5), cI (l6), cI (l7), l8] [] G (fun r G => ∃ v, r = cI v ∧ (0 ≤ v ∧ v ≤ 1) ∧ Q v G)) (h : PX13_isHeir_188 J l1 l2 l3 l4 G Q) : Tg W0 (vX13_isHeir_188 j) [rf (16081), cI (l1), cI (l2), cI (l3), cI (l4), l5, l6, l7, l8] [] G (fun r G => ∃ v, r = cI v ∧ (0 ≤ v ∧ v ≤ 1) ∧ Q v G) := by
  unfold PX13_isHeir_188 at h
  unfold vX13_isHeir_188
  refine g_ld (v := cI _) rfl (is_I _) ?_
  obtain ⟨q31, h⟩ := h
  exact g_ret1 (is_Z q31) ⟨_, rfl, q31, h⟩
def PX13_isHeir_185 (J : Nat → List Int → gS → (Int → gS → Prop) → Prop) (l1 : Int) (l2 : Int) (l3 : Int) (l4 : Int) (l5 : Int) (G : gS) (Q : Int → gS → Prop) : Prop :=
  J 0 [l1, l2, l3, l4] G Q
set_option maxRecDepth 20000 in
theorem TX13_isHeir_185 {j : Nat → rx_K} {J : Nat → List Int → gS → (Int → gS → Prop) → Prop} {l1 : Int} {l2 : Int} {l3 : Int} {l4 : Int} {l5 : Int} {l6 : Nat} {l7 : Nat} {l8 : Nat} {G : gS} {Q : Int → gS → Prop} (hl1 : inI l1) (hl2 : inI l2) (hl3 : inI l3) (hl4 : inI l4) (hl5 : inI l5) (hl6 : l6 % 8 ≠ 1) (hl7 : l7 % 8 ≠ 1) (hl8 : l8 % 8 ≠ 1) (hj0 : ∀ (l1 : Int) (l2 : Int) (l3 : Int) (l4 : Int) (l5 : Nat) (l6 : Nat) (l7 : Nat) (l8 : Nat) (G : gS), (inI l1) → (inI l2) → (inI l3) → (inI l4) → (l5 % 8 ≠ 1) → (l6 % 8 ≠ 1) → (l7 % 8 ≠ 1) → (l8 % 8 ≠ 1) → J 0 [l1, l2, l3, l4] G Q → Tg W0 (j 0) [rf (16081), cI (l1), cI (l2), cI (l3), cI (l4), l5, l6, l7, l8] [] G (fun r G => ∃ v, r = cI v ∧ (0 ≤ v ∧ v ≤ 1) ∧ Q v G)) (hj1 : ∀ (l1 : Int) (l2 : Int) (l3 : Int) (l4 : Int) (l5 : Int) (l6 : Int) (l7 : Int) (l8 : Nat) (G : gS), (inI l1) → (inI l2) → (inI l3) → (inI l4) → (inI l5) → (inI l6) → (inI l7) → (l8 % 8 ≠ 1) → J 1 [l1, l2, l3, l4, l5, l6, l7] G Q → Tg W0 (j 1) [rf (16081), cI (l1), cI (l2), cI (l3), cI (l4), cI (l5), cI (l6), cI (l7), l8] [] G (fun r G => ∃ v, r = cI v ∧ (0 ≤ v ∧ v ≤ 1) ∧ Q v G)) (h : PX13_isHeir_185 J l1 l2 l3 l4 l5 G Q) : Tg W0 (vX13_isHeir_185 j) [rf (16081), cI (l1), cI (l2), cI (l3), cI (l4), cI (l5), l6, l7, l8] [] G (fun r G => ∃ v, r = cI v ∧ (0 ≤ v ∧ v ≤ 1) ∧ Q v G) := by
  unfold PX13_isHeir_185 at h
  unfold vX13_isHeir_185
  exact hj0 _ _ _ _ _ _ _ _ _ hl1 hl2 hl3 hl4 (n1_I _) hl6 hl7 hl8 h
def PX13_isHeir_179 (J : Nat → List Int → gS → (Int → gS → Prop) → Prop) (l1 : Int) (l2 : Int) (l3 : Int) (l4 : Int) (l5 : Int) (l6 : Int) (l7 : Int) (l8 : Int) (G : gS) (Q : Int → gS → Prop) : Prop :=
  (inI (l7 + 1) ∧ J 1 [l1, l2, l3, l4, l5, l6, l7 + 1] G Q)
set_option maxRecDepth 20000 in
theorem TX13_isHeir_179 {j : Nat → rx_K} {J : Nat → List Int → gS → (Int → gS → Prop) → Prop} {l1 : Int} {l2 : Int} {l3 : Int} {l4 : Int} {l5 : Int} {l6 : Int} {l7 : Int} {l8 : Int} {G : gS} {Q : Int → gS → Prop} (hl1 : inI l1) (hl2 : inI l2) (hl3 : inI l3) (hl4 : inI l4) (hl5 : inI l5) (hl6 : inI l6) (hl7 : inI l7) (hl8 : inI l8) (hj0 : ∀ (l1 : Int) (l2 : Int) (l3 : Int) (l4 : Int) (l5 : Nat) (l6 : Nat) (l7 : Nat) (l8 : Nat) (G : gS), (inI l1) → (inI l2) → (inI l3) → (inI l4) → (l5 % 8 ≠ 1) → (l6 % 8 ≠ 1) → (l7 % 8 ≠ 1) → (l8 % 8 ≠ 1) → J 0 [l1, l2, l3, l4] G Q → Tg W0 (j 0) [rf (16081), cI (l1), cI (l2), cI (l3), cI (l4), l5, l6, l7, l8] [] G (fun r G => ∃ v, r = cI v ∧ (0 ≤ v ∧ v ≤ 1) ∧ Q v G)) (hj1 : ∀ (l1 : Int) (l2 : Int) (l3 : Int) (l4 : Int) (l5 : Int) (l6 : Int) (l7 : Int) (l8 : Nat) (G : gS), (inI l1) → (inI l2) → (inI l3) → (inI l4) → (inI l5) → (inI l6) → (inI l7) → (l8 % 8 ≠ 1) → J 1 [l1, l2, l3, l4, l5, l6, l7] G Q → Tg W0 (j 1) [rf (16081), cI (l1), cI (l2), cI (l3), cI (l4), cI (l5), cI (l6), cI (l7), l8] [] G (fun r G => ∃ v, r = cI v ∧ (0 ≤ v ∧ v ≤ 1) ∧ Q v G)) (h : PX13_isHeir_179 J l1 l2 l3 l4 l5 l6 l7 l8 G Q) : Tg W0 (vX13_isHeir_179 j) [rf (16081), cI (l1), cI (l2), cI (l3), cI (l4), cI (l5), cI (l6), cI (l7), cI (l8)] [] G (fun r G => ∃ v, r = cI v ∧ (0 ≤ v ∧ v ≤ 1) ∧ Q v G) := by
  unfold PX13_isHeir_179 at h
  unfold vX13_isHeir_179
  refine g_inc (lv' := [_, _, _, _, _, _, _, _, _]) rfl (Nat.le_of_ble_eq_true rfl) (Or.inr (n1_I _)) rfl ?_
  obtain ⟨q50, h⟩ := h
  exact hj1 _ _ _ _ _ _ _ _ _ hl1 hl2 hl3 hl4 hl5 hl6 q50 (n1_I _) h
def PX13_isHeir_159 (J : Nat → List Int → gS → (Int → gS → Prop) → Prop) (l1 : Int) (l2 : Int) (l3 : Int) (l4 : Int) (l5 : Int) (l6 : Int) (l7 : Int) (l8 : Int) (s0 : Int) (G : gS) (Q : Int → gS → Prop) : Prop :=
  ((l8 = -2 → PX13_isHeir_179 J l1 l2 l3 s0 l5 l6 l7 l8 G Q) ∧ (¬ (l8 = -2) → (inI (l3 + 1) ∧ ((0 : Int) ≤ l3 ∧ ((l3 : Int) < 4000 ∧ (∀ G49 : gS, G49 = uG G 16166 l3 (l8) → PX13_isHeir_179 J l1 l2 (l3 + 1) s0 l5 l6 l7 l8 G49 Q))))))
set_option maxRecDepth 20000 in
theorem TX13_isHeir_159 {j : Nat → rx_K} {J : Nat → List Int → gS → (Int → gS → Prop) → Prop} {l1 : Int} {l2 : Int} {l3 : Int} {l4 : Int} {l5 : Int} {l6 : Int} {l7 : Int} {l8 : Int} {s0 : Int} {G : gS} {Q : Int → gS → Prop} (hl1 : inI l1) (hl2 : inI l2) (hl3 : inI l3) (hl4 : inI l4) (hl5 : inI l5) (hl6 : inI l6) (hl7 : inI l7) (hl8 : inI l8) (hs0 : inI s0) (hj0 : ∀ (l1 : Int) (l2 : Int) (l3 : Int) (l4 : Int) (l5 : Nat) (l6 : Nat) (l7 : Nat) (l8 : Nat) (G : gS), (inI l1) → (inI l2) → (inI l3) → (inI l4) → (l5 % 8 ≠ 1) → (l6 % 8 ≠ 1) → (l7 % 8 ≠ 1) → (l8 % 8 ≠ 1) → J 0 [l1, l2, l3, l4] G Q → Tg W0 (j 0) [rf (16081), cI (l1), cI (l2), cI (l3), cI (l4), l5, l6, l7, l8] [] G (fun r G => ∃ v, r = cI v ∧ (0 ≤ v ∧ v ≤ 1) ∧ Q v G)) (hj1 : ∀ (l1 : Int) (l2 : Int) (l3 : Int) (l4 : Int) (l5 : Int) (l6 : Int) (l7 : Int) (l8 : Nat) (G : gS), (inI l1) → (inI l2) → (inI l3) → (inI l4) → (inI l5) → (inI l6) → (inI l7) → (l8 % 8 ≠ 1) → J 1 [l1, l2, l3, l4, l5, l6, l7] G Q → Tg W0 (j 1) [rf (16081), cI (l1), cI (l2), cI (l3), cI (l4), cI (l5), cI (l6), cI (l7), l8] [] G (fun r G => ∃ v, r = cI v ∧ (0 ≤ v ∧ v ≤ 1) ∧ Q v G)) (h : PX13_isHeir_159 J l1 l2 l3 l4 l5 l6 l7 l8 s0 G Q) : Tg W0 (vX13_isHeir_159 j) [rf (16081), cI (l1), cI (l2), cI (l3), cI (l4), cI (l5), cI (l6), cI (l7), cI (l8)] [cI (s0)] G (fun r G => ∃ v, r = cI v ∧ (0 ≤ v ∧ v ≤ 1) ∧ Q v G) := by
  unfold PX13_isHeir_159 at h
  unfold vX13_isHeir_159
  refine g_st (lv' := [_, _, _, _, _, _, _, _, _]) (is_I _) (Nat.le_of_ble_eq_true rfl) (Or.inr (n1_I _)) rfl ?_
  refine g_ld (v := cI _) rfl (is_I _) ?_
  refine g_const (v := cI (-2)) rfl ?_
  refine g_eq2 hl8 ⟨by omega, by omega⟩ (fun b45 => ?_) (fun b45 => ?_)
  · replace h := h.1 b45
    exact TX13_isHeir_179 hl1 hl2 hl3 hs0 hl5 hl6 hl7 hl8 hj0 hj1 h
  · replace h := h.2 b45
    unfold vX13_isHeir_168
    refine g_ld (v := rf _) rfl (is_R _) ?_
    refine g_getF (v := 16166) oC13 (hC13_96) rfl (Nat.le_of_ble_eq_true rfl) (Nat.le_of_ble_eq_true rfl) ?_
    refine g_ld (v := cI _) rfl (is_I _) ?_
    refine g_inc (lv' := [_, _, _, _, _, _, _, _, _]) rfl (Nat.le_of_ble_eq_true rfl) (Or.inr (n1_I _)) rfl ?_
    obtain ⟨q46, h⟩ := h
    refine g_ld (v := cI _) rfl (is_I _) ?_
    obtain ⟨q47, q48, h⟩ := h
    refine g_astI aC16166 q47 q48 hl8 (nfI aC16166) ?_
    replace h := h _ rfl
    exact TX13_isHeir_179 hl1 hl2 q46 hs0 hl5 hl6 hl7 hl8 hj0 hj1 h
def PX13_isHeir_158 (J : Nat → List Int → gS → (Int → gS → Prop) → Prop) (l1 : Int) (l2 : Int) (l3 : Int) (l4 : Int) (l5 : Int) (l6 : Int) (l7 : Int) (l8 : Int) (G : gS) (Q : Int → gS → Prop) : Prop :=
  PX13_isHeir_159 J l1 l2 l3 l4 l5 l6 l7 l8 0 G Q
set_option maxRecDepth 20000 in
theorem TX13_isHeir_158 {j : Nat → rx_K} {J : Nat → List Int → gS → (Int → gS → Prop) → Prop} {l1 : Int} {l2 : Int} {l3 : Int} {l4 : Int} {l5 : Int} {l6 : Int} {l7 : Int} {l8 : Int} {G : gS} {Q : Int → gS → Prop} (hl1 : inI l1) (hl2 : inI l2) (hl3 : inI l3) (hl4 : inI l4) (hl5 : inI l5) (hl6 : inI l6) (hl7 : inI l7) (hl8 : inI l8) (hj0 : ∀ (l1 : Int) (l2 : Int) (l3 : Int) (l4 : Int) (l5 : Nat) (l6 : Nat) (l7 : Nat) (l8 : Nat) (G : gS), (inI l1) → (inI l2) → (inI l3) → (inI l4) → (l5 % 8 ≠ 1) → (l6 % 8 ≠ 1) → (l7 % 8 ≠ 1) → (l8 % 8 ≠ 1) → J 0 [l1, l2, l3, l4] G Q → Tg W0 (j 0) [rf (16081), cI (l1), cI (l2), cI (l3), cI (l4), l5, l6, l7, l8] [] G (fun r G => ∃ v, r = cI v ∧ (0 ≤ v ∧ v ≤ 1) ∧ Q v G)) (hj1 : ∀ (l1 : Int) (l2 : Int) (l3 : Int) (l4 : Int) (l5 : Int) (l6 : Int) (l7 : Int) (l8 : Nat) (G : gS), (inI l1) → (inI l2) → (inI l3) → (inI l4) → (inI l5) → (inI l6) → (inI l7) → (l8 % 8 ≠ 1) → J 1 [l1, l2, l3, l4, l5, l6, l7] G Q → Tg W0 (j 1) [rf (16081), cI (l1), cI (l2), cI (l3), cI (l4), cI (l5), cI (l6), cI (l7), l8] [] G (fun r G => ∃ v, r = cI v ∧ (0 ≤ v ∧ v ≤ 1) ∧ Q v G)) (h : PX13_isHeir_158 J l1 l2 l3 l4 l5 l6 l7 l8 G Q) : Tg W0 (vX13_isHeir_158 j) [rf (16081), cI (l1), cI (l2), cI (l3), cI (l4), cI (l5), cI (l6), cI (l7), cI (l8)] [] G (fun r G => ∃ v, r = cI v ∧ (0 ≤ v ∧ v ≤ 1) ∧ Q v G) := by
  unfold PX13_isHeir_158 at h
  unfold vX13_isHeir_158
  refine g_const (v := cI (0)) rfl ?_
  exact TX13_isHeir_159 hl1 hl2 hl3 hl4 hl5 hl6 hl7 hl8 ⟨by omega, by omega⟩ hj0 hj1 h
def PX13_isHeir_154 (J : Nat → List Int → gS → (Int → gS → Prop) → Prop) (l1 : Int) (l2 : Int) (l3 : Int) (l4 : Int) (l5 : Int) (l6 : Int) (l7 : Int) (l8 : Int) (G : gS) (Q : Int → gS → Prop) : Prop :=
  PX13_isHeir_159 J l1 l2 l3 l4 l5 l6 l7 l8 1 G Q
set_option maxRecDepth 20000 in
theorem TX13_isHeir_154 {j : Nat → rx_K} {J : Nat → List Int → gS → (Int → gS → Prop) → Prop} {l1 : Int} {l2 : Int} {l3 : Int} {l4 : Int} {l5 : Int} {l6 : Int} {l7 : Int} {l8 : Int} {G : gS} {Q : Int → gS → Prop} (hl1 : inI l1) (hl2 : inI l2) (hl3 : inI l3) (hl4 : inI l4) (hl5 : inI l5) (hl6 : inI l6) (hl7 : inI l7) (hl8 : inI l8) (hj0 : ∀ (l1 : Int) (l2 : Int) (l3 : Int) (l4 : Int) (l5 : Nat) (l6 : Nat) (l7 : Nat) (l8 : Nat) (G : gS), (inI l1) → (inI l2) → (inI l3) → (inI l4) → (l5 % 8 ≠ 1) → (l6 % 8 ≠ 1) → (l7 % 8 ≠ 1) → (l8 % 8 ≠ 1) → J 0 [l1, l2, l3, l4] G Q → Tg W0 (j 0) [rf (16081), cI (l1), cI (l2), cI (l3), cI (l4), l5, l6, l7, l8] [] G (fun r G => ∃ v, r = cI v ∧ (0 ≤ v ∧ v ≤ 1) ∧ Q v G)) (hj1 : ∀ (l1 : Int) (l2 : Int) (l3 : Int) (l4 : Int) (l5 : Int) (l6 : Int) (l7 : Int) (l8 : Nat) (G : gS), (inI l1) → (inI l2) → (inI l3) → (inI l4) → (inI l5) → (inI l6) → (inI l7) → (l8 % 8 ≠ 1) → J 1 [l1, l2, l3, l4, l5, l6, l7] G Q → Tg W0 (j 1) [rf (16081), cI (l1), cI (l2), cI (l3), cI (l4), cI (l5), cI (l6), cI (l7), l8] [] G (fun r G => ∃ v, r = cI v ∧ (0 ≤ v ∧ v ≤ 1) ∧ Q v G)) (h : PX13_isHeir_154 J l1 l2 l3 l4 l5 l6 l7 l8 G Q) : Tg W0 (vX13_isHeir_154 j) [rf (16081), cI (l1), cI (l2), cI (l3), cI (l4), cI (l5), cI (l6), cI (l7), cI (l8)] [] G (fun r G => ∃ v, r = cI v ∧ (0 ≤ v ∧ v ≤ 1) ∧ Q v G) := by
  unfold PX13_isHeir_154 at h
  unfold vX13_isHeir_154
  refine g_const (v := cI (1)) rfl ?_
  exact TX13_isHeir_159 hl1 hl2 hl3 hl4 hl5 hl6 hl7 hl8 ⟨by omega, by omega⟩ hj0 hj1 h
def PX13_isHeir_106 (J : Nat → List Int → gS → (Int → gS → Prop) → Prop) (l1 : Int) (l2 : Int) (l3 : Int) (l4 : Int) (l5 : Int) (l6 : Int) (l7 : Int) (G : gS) (Q : Int → gS → Prop) : Prop :=
  ((0 : Int) ≤ l5 ∧ ((l5 : Int) < 216 ∧ (inI (G 16106 l5) → ((l7 < G 16106 l5 → ((0 : Int) ≤ (4 * l5) + l7 ∧ (((4 * l5) + l7 : Int) < 864 ∧ (inL (G 16104 ((4 * l5) + l7)) → PX13_find (G 16104 ((4 * l5) + l7)) G (fun r40 G39 => inI r40 → ((l4 = 0 → ((r40 = l2 → ((r40 = -2 → PX13_isHeir_158 J l1 l2 l3 l4 l5 l6 l7 r40 G39 Q) ∧ (¬ (r40 = -2) → PX13_isHeir_154 J l1 l2 l3 l4 l5 l6 l7 r40 G39 Q))) ∧ (¬ (r40 = l2) → PX13_isHeir_158 J l1 l2 l3 l4 l5 l6 l7 r40 G39 Q))) ∧ (¬ (l4 = 0) → PX13_isHeir_154 J l1 l2 l3 l4 l5 l6 l7 r40 G39 Q))))))) ∧ (¬ (l7 < G 16106 l5) → PX13_isHeir_185 J l1 l2 l3 l4 l5 G Q)))))
set_option maxRecDepth 20000 in
theorem TX13_isHeir_106 {j : Nat → rx_K} {J : Nat → List Int → gS → (Int → gS → Prop) → Prop} {l1 : Int} {l2 : Int} {l3 : Int} {l4 : Int} {l5 : Int} {l6 : Int} {l7 : Int} {l8 : Nat} {G : gS} {Q : Int → gS → Prop} (hl1 : inI l1) (hl2 : inI l2) (hl3 : inI l3) (hl4 : inI l4) (hl5 : inI l5) (hl6 : inI l6) (hl7 : inI l7) (hl8 : l8 % 8 ≠ 1) (hj0 : ∀ (l1 : Int) (l2 : Int) (l3 : Int) (l4 : Int) (l5 : Nat) (l6 : Nat) (l7 : Nat) (l8 : Nat) (G : gS), (inI l1) → (inI l2) → (inI l3) → (inI l4) → (l5 % 8 ≠ 1) → (l6 % 8 ≠ 1) → (l7 % 8 ≠ 1) → (l8 % 8 ≠ 1) → J 0 [l1, l2, l3, l4] G Q → Tg W0 (j 0) [rf (16081), cI (l1), cI (l2), cI (l3), cI (l4), l5, l6, l7, l8] [] G (fun r G => ∃ v, r = cI v ∧ (0 ≤ v ∧ v ≤ 1) ∧ Q v G)) (hj1 : ∀ (l1 : Int) (l2 : Int) (l3 : Int) (l4 : Int) (l5 : Int) (l6 : Int) (l7 : Int) (l8 : Nat) (G : gS), (inI l1) → (inI l2) → (inI l3) → (inI l4) → (inI l5) → (inI l6) → (inI l7) → (l8 % 8 ≠ 1) → J 1 [l1, l2, l3, l4, l5, l6, l7] G Q → Tg W0 (j 1) [rf (16081), cI (l1), cI (l2), cI (l3), cI (l4), cI (l5), cI (l6), cI (l7), l8] [] G (fun r G => ∃ v, r = cI v ∧ (0 ≤ v ∧ v ≤ 1) ∧ Q v G)) (h : PX13_isHeir_106 J l1 l2 l3 l4 l5 l6 l7 G Q) : Tg W0 (vX13_isHeir_106 j) [rf (16081), cI (l1), cI (l2), cI (l3), cI (l4), cI (l5), cI (l6), cI (l7), l8] [] G (fun r G => ∃ v, r = cI v ∧ (0 ≤ v ∧ v ≤ 1) ∧ Q v G) := by
  unfold PX13_isHeir_106 at h
  unfold vX13_isHeir_106
  refine g_ld (v := cI _) rfl (is_I _) ?_
  refine g_ld (v := rf _) rfl (is_R _) ?_
  refine g_getF (v := 16106) oC13 (hC13_32) rfl (Nat.le_of_ble_eq_true rfl) (Nat.le_of_ble_eq_true rfl) ?_
  refine g_ld (v := cI _) rfl (is_I _) ?_
  obtain ⟨q32, q33, h⟩ := h
  refine g_aldI aC16106 q32 q33 rfl fun i34 => ?_
  replace h := h i34
  refine g_lt2 hl7 i34 (fun b35 => ?_) (fun b35 => ?_)
  · replace h := h.1 b35
    unfold vX13_isHeir_118
    refine g_ld (v := rf _) rfl (is_R _) ?_
    refine g_ld (v := rf _) rfl (is_R _) ?_
    refine g_getF (v := 16104) oC13 (hC13_30) rfl (Nat.le_of_ble_eq_true rfl) (Nat.le_of_ble_eq_true rfl) ?_
    refine g_const (v := cI (4)) rfl ?_
    refine g_ld (v := cI _) rfl (is_I _) ?_
    refine g_mul ?_
    refine g_ld (v := cI _) rfl (is_I _) ?_
    refine g_add ?_
    obtain ⟨q36, q37, h⟩ := h
    refine g_aldL aC16104 q36 q37 rfl fun i38 => ?_
    replace h := h i38
    refine g_callV (As := [_]) (ci := 13) oC13 (fun _ => rfl) ?_
    refine g_go1 (Nat.le_of_ble_eq_true rfl) (Tn_w (TX13_find i38 h) fun _ G39 ⟨r40, e, i41, h⟩ => ?_)
    subst e
    refine ⟨n7_I _, ?_⟩
    replace h := h i41
    refine g_st (lv' := [_, _, _, _, _, _, _, _, _]) (is_I _) (Nat.le_of_ble_eq_true rfl) (Or.inr (n1_I _)) rfl ?_
    refine g_ld (v := cI _) rfl (is_I _) ?_
    refine g_eq1 hl4 (fun b42 => ?_) (fun b42 => ?_)
    · replace h := h.1 b42
      unfold vX13_isHeir_141
      refine g_ld (v := cI _) rfl (is_I _) ?_
      refine g_ld (v := cI _) rfl (is_I _) ?_
      refine g_eq2 i41 hl2 (fun b43 => ?_) (fun b43 => ?_)
      · replace h := h.1 b43
        unfold vX13_isHeir_147
        refine g_ld (v := cI _) rfl (is_I _) ?_
        refine g_const (v := cI (-2)) rfl ?_
        refine g_eq2 i41 ⟨by omega, by omega⟩ (fun b44 => ?_) (fun b44 => ?_)
        · replace h := h.1 b44
          exact TX13_isHeir_158 hl1 hl2 hl3 hl4 hl5 hl6 hl7 i41 hj0 hj1 h
        · replace h := h.2 b44
          exact TX13_isHeir_154 hl1 hl2 hl3 hl4 hl5 hl6 hl7 i41 hj0 hj1 h
      · replace h := h.2 b43
        exact TX13_isHeir_158 hl1 hl2 hl3 hl4 hl5 hl6 hl7 i41 hj0 hj1 h
    · replace h := h.2 b42
      exact TX13_isHeir_154 hl1 hl2 hl3 hl4 hl5 hl6 hl7 i41 hj0 hj1 h
  · replace h := h.2 b35
    exact TX13_isHeir_185 hl1 hl2 hl3 hl4 hl5 (n1_I _) (n1_I _) hl8 hj0 hj1 h
def PX13_isHeir_103 (J : Nat → List Int → gS → (Int → gS → Prop) → Prop) (l1 : Int) (l2 : Int) (l3 : Int) (l4 : Int) (l5 : Int) (l6 : Int) (G : gS) (Q : Int → gS → Prop) : Prop :=
  PX13_isHeir_106 J l1 l2 l3 l4 l5 l6 0 G Q
set_option maxRecDepth 20000 in
theorem TX13_isHeir_103 {j : Nat → rx_K} {J : Nat → List Int → gS → (Int → gS → Prop) → Prop} {l1 : Int} {l2 : Int} {l3 : Int} {l4 : Int} {l5 : Int} {l6 : Int} {l7 : Nat} {l8 : Nat} {G : gS} {Q : Int → gS → Prop} (hl1 : inI l1) (hl2 : inI l2) (hl3 : inI l3) (hl4 : inI l4) (hl5 : inI l5) (hl6 : inI l6) (hl7 : l7 % 8 ≠ 1) (hl8 : l8 % 8 ≠ 1) (hj0 : ∀ (l1 : Int) (l2 : Int) (l3 : Int) (l4 : Int) (l5 : Nat) (l6 : Nat) (l7 : Nat) (l8 : Nat) (G : gS), (inI l1) → (inI l2) → (inI l3) → (inI l4) → (l5 % 8 ≠ 1) → (l6 % 8 ≠ 1) → (l7 % 8 ≠ 1) → (l8 % 8 ≠ 1) → J 0 [l1, l2, l3, l4] G Q → Tg W0 (j 0) [rf (16081), cI (l1), cI (l2), cI (l3), cI (l4), l5, l6, l7, l8] [] G (fun r G => ∃ v, r = cI v ∧ (0 ≤ v ∧ v ≤ 1) ∧ Q v G)) (hj1 : ∀ (l1 : Int) (l2 : Int) (l3 : Int) (l4 : Int) (l5 : Int) (l6 : Int) (l7 : Int) (l8 : Nat) (G : gS), (inI l1) → (inI l2) → (inI l3) → (inI l4) → (inI l5) → (inI l6) → (inI l7) → (l8 % 8 ≠ 1) → J 1 [l1, l2, l3, l4, l5, l6, l7] G Q → Tg W0 (j 1) [rf (16081), cI (l1), cI (l2), cI (l3), cI (l4), cI (l5), cI (l6), cI (l7), l8] [] G (fun r G => ∃ v, r = cI v ∧ (0 ≤ v ∧ v ≤ 1) ∧ Q v G)) (h : PX13_isHeir_103 J l1 l2 l3 l4 l5 l6 G Q) : Tg W0 (vX13_isHeir_103 j) [rf (16081), cI (l1), cI (l2), cI (l3), cI (l4), cI (l5), cI (l6), l7, l8] [] G (fun r G => ∃ v, r = cI v ∧ (0 ≤ v ∧ v ≤ 1) ∧ Q v G) := by
  unfold PX13_isHeir_103 at h
  unfold vX13_isHeir_103
  refine g_const (v := cI (0)) rfl ?_
  refine g_st (lv' := [_, _, _, _, _, _, _, _, _]) (is_I _) (Nat.le_of_ble_eq_true rfl) (Or.inr (n1_I _)) rfl ?_
  exact TX13_isHeir_106 hl1 hl2 hl3 hl4 hl5 hl6 ⟨by omega, by omega⟩ hl8 hj0 hj1 h
def PX13_isHeir_83 (J : Nat → List Int → gS → (Int → gS → Prop) → Prop) (l1 : Int) (l2 : Int) (l3 : Int) (l4 : Int) (l5 : Int) (l6 : Int) (s0 : Int) (G : gS) (Q : Int → gS → Prop) : Prop :=
  ((l6 = -2 → PX13_isHeir_103 J l1 l2 l3 s0 l5 l6 G Q) ∧ (¬ (l6 = -2) → (inI (l3 + 1) ∧ ((0 : Int) ≤ l3 ∧ ((l3 : Int) < 4000 ∧ (∀ G30 : gS, G30 = uG G 16166 l3 (l6) → PX13_isHeir_103 J l1 l2 (l3 + 1) s0 l5 l6 G30 Q))))))
set_option maxRecDepth 20000 in
theorem TX13_isHeir_83 {j : Nat → rx_K} {J : Nat → List Int → gS → (Int → gS → Prop) → Prop} {l1 : Int} {l2 : Int} {l3 : Int} {l4 : Int} {l5 : Int} {l6 : Int} {l7 : Nat} {l8 : Nat} {s0 : Int} {G : gS} {Q : Int → gS → Prop} (hl1 : inI l1) (hl2 : inI l2) (hl3 : inI l3) (hl4 : inI l4) (hl5 : inI l5) (hl6 : inI l6) (hl7 : l7 % 8 ≠ 1) (hl8 : l8 % 8 ≠ 1) (hs0 : inI s0) (hj0 : ∀ (l1 : Int) (l2 : Int) (l3 : Int) (l4 : Int) (l5 : Nat) (l6 : Nat) (l7 : Nat) (l8 : Nat) (G : gS), (inI l1) → (inI l2) → (inI l3) → (inI l4) → (l5 % 8 ≠ 1) → (l6 % 8 ≠ 1) → (l7 % 8 ≠ 1) → (l8 % 8 ≠ 1) → J 0 [l1, l2, l3, l4] G Q → Tg W0 (j 0) [rf (16081), cI (l1), cI (l2), cI (l3), cI (l4), l5, l6, l7, l8] [] G (fun r G => ∃ v, r = cI v ∧ (0 ≤ v ∧ v ≤ 1) ∧ Q v G)) (hj1 : ∀ (l1 : Int) (l2 : Int) (l3 : Int) (l4 : Int) (l5 : Int) (l6 : Int) (l7 : Int) (l8 : Nat) (G : gS), (inI l1) → (inI l2) → (inI l3) → (inI l4) → (inI l5) → (inI l6) → (inI l7) → (l8 % 8 ≠ 1) → J 1 [l1, l2, l3, l4, l5, l6, l7] G Q → Tg W0 (j 1) [rf (16081), cI (l1), cI (l2), cI (l3), cI (l4), cI (l5), cI (l6), cI (l7), l8] [] G (fun r G => ∃ v, r = cI v ∧ (0 ≤ v ∧ v ≤ 1) ∧ Q v G)) (h : PX13_isHeir_83 J l1 l2 l3 l4 l5 l6 s0 G Q) : Tg W0 (vX13_isHeir_83 j) [rf (16081), cI (l1), cI (l2), cI (l3), cI (l4), cI (l5), cI (l6), l7, l8] [cI (s0)] G (fun r G => ∃ v, r = cI v ∧ (0 ≤ v ∧ v ≤ 1) ∧ Q v G) := by
  unfold PX13_isHeir_83 at h
  unfold vX13_isHeir_83
  refine g_st (lv' := [_, _, _, _, _, _, _, _, _]) (is_I _) (Nat.le_of_ble_eq_true rfl) (Or.inr (n1_I _)) rfl ?_
  refine g_ld (v := cI _) rfl (is_I _) ?_
  refine g_const (v := cI (-2)) rfl ?_
  refine g_eq2 hl6 ⟨by omega, by omega⟩ (fun b26 => ?_) (fun b26 => ?_)
  · replace h := h.1 b26
    exact TX13_isHeir_103 hl1 hl2 hl3 hs0 hl5 hl6 hl7 hl8 hj0 hj1 h
  · replace h := h.2 b26
    unfold vX13_isHeir_92
    refine g_ld (v := rf _) rfl (is_R _) ?_
    refine g_getF (v := 16166) oC13 (hC13_96) rfl (Nat.le_of_ble_eq_true rfl) (Nat.le_of_ble_eq_true rfl) ?_
    refine g_ld (v := cI _) rfl (is_I _) ?_
    refine g_inc (lv' := [_, _, _, _, _, _, _, _, _]) rfl (Nat.le_of_ble_eq_true rfl) (Or.inr (n1_I _)) rfl ?_
    obtain ⟨q27, h⟩ := h
    refine g_ld (v := cI _) rfl (is_I _) ?_
    obtain ⟨q28, q29, h⟩ := h
    refine g_astI aC16166 q28 q29 hl6 (nfI aC16166) ?_
    replace h := h _ rfl
    exact TX13_isHeir_103 hl1 hl2 q27 hs0 hl5 hl6 hl7 hl8 hj0 hj1 h
def PX13_isHeir_19 (J : Nat → List Int → gS → (Int → gS → Prop) → Prop) (l1 : Int) (l2 : Int) (l3 : Int) (l4 : Int) (G : gS) (Q : Int → gS → Prop) : Prop :=
  ((0 < l3 → ((l4 = 0 → (inI (l3 + (-1)) ∧ ((0 : Int) ≤ l3 + (-1) ∧ ((l3 + (-1) : Int) < 4000 ∧ (inI (G 16166 (l3 + (-1))) → ((0 : Int) ≤ G 16166 (l3 + (-1)) ∧ ((G 16166 (l3 + (-1)) : Int) < 216 ∧ (inI (G 16165 (G 16166 (l3 + (-1)))) → (inI (G 16081 95) → ((G 16165 (G 16166 (l3 + (-1))) = G 16081 95 → PX13_isHeir_185 J l1 l2 (l3 + (-1)) l4 (G 16166 (l3 + (-1))) G Q) ∧ (¬ (G 16165 (G 16166 (l3 + (-1))) = G 16081 95) → (inI (G 16081 95) → ((0 : Int) ≤ G 16166 (l3 + (-1)) ∧ ((G 16166 (l3 + (-1)) : Int) < 216 ∧ (∀ G21 : gS, G21 = uG G 16165 (G 16166 (l3 + (-1))) (G 16081 95) → PX13_parent (G 16166 (l3 + (-1))) G21 (fun r23 G22 => inI r23 → ((r23 = l2 → PX13_isHeir_83 J l1 l2 (l3 + (-1)) l4 (G 16166 (l3 + (-1))) r23 1 G22 Q) ∧ (¬ (r23 = l2) → PX13_isHeir_83 J l1 l2 (l3 + (-1)) l4 (G 16166 (l3 + (-1))) r23 0 G22 Q)))))))))))))))))) ∧ (¬ (l4 = 0) → PX13_isHeir_188 J l1 l2 l3 l4 G Q))) ∧ (¬ (0 < l3) → PX13_isHeir_188 J l1 l2 l3 l4 G Q))
set_option maxRecDepth 20000 in
theorem TX13_isHeir_19 {j : Nat → rx_K} {J : Nat → List Int → gS → (Int → gS → Prop) → Prop} {l1 : Int} {l2 : Int} {l3 : Int} {l4 : Int} {l5 : Nat} {l6 : Nat} {l7 : Nat} {l8 : Nat} {G : gS} {Q : Int → gS → Prop} (hl1 : inI l1) (hl2 : inI l2) (hl3 : inI l3) (hl4 : inI l4) (hl5 : l5 % 8 ≠ 1) (hl6 : l6 % 8 ≠ 1) (hl7 : l7 % 8 ≠ 1) (hl8 : l8 % 8 ≠ 1) (hj0 : ∀ (l1 : Int) (l2 : Int) (l3 : Int) (l4 : Int) (l5 : Nat) (l6 : Nat) (l7 : Nat) (l8 : Nat) (G : gS), (inI l1) → (inI l2) → (inI l3) → (inI l4) → (l5 % 8 ≠ 1) → (l6 % 8 ≠ 1) → (l7 % 8 ≠ 1) → (l8 % 8 ≠ 1) → J 0 [l1, l2, l3, l4] G Q → Tg W0 (j 0) [rf (16081), cI (l1), cI (l2), cI (l3), cI (l4), l5, l6, l7, l8] [] G (fun r G => ∃ v, r = cI v ∧ (0 ≤ v ∧ v ≤ 1) ∧ Q v G)) (hj1 : ∀ (l1 : Int) (l2 : Int) (l3 : Int) (l4 : Int) (l5 : Int) (l6 : Int) (l7 : Int) (l8 : Nat) (G : gS), (inI l1) → (inI l2) → (inI l3) → (inI l4) → (inI l5) → (inI l6) → (inI l7) → (l8 % 8 ≠ 1) → J 1 [l1, l2, l3, l4, l5, l6, l7] G Q → Tg W0 (j 1) [rf (16081), cI (l1), cI (l2), cI (l3), cI (l4), cI (l5), cI (l6), cI (l7), l8] [] G (fun r G => ∃ v, r = cI v ∧ (0 ≤ v ∧ v ≤ 1) ∧ Q v G)) (h : PX13_isHeir_19 J l1 l2 l3 l4 G Q) : Tg W0 (vX13_isHeir_19 j) [rf (16081), cI (l1), cI (l2), cI (l3), cI (l4), l5, l6, l7, l8] [] G (fun r G => ∃ v, r = cI v ∧ (0 ≤ v ∧ v ≤ 1) ∧ Q v G) := by
  unfold PX13_isHeir_19 at h
  unfold vX13_isHeir_19
  refine g_ld (v := cI _) rfl (is_I _) ?_
  refine g_gt1 hl3 (fun b7 => ?_) (fun b7 => ?_)
  · replace h := h.1 b7
    unfold vX13_isHeir_23
    refine g_ld (v := cI _) rfl (is_I _) ?_
    refine g_eq1 hl4 (fun b8 => ?_) (fun b8 => ?_)
    · replace h := h.1 b8
      unfold vX13_isHeir_28
      refine g_inc (lv' := [_, _, _, _, _, _, _, _, _]) rfl (Nat.le_of_ble_eq_true rfl) (Or.inr (n1_I _)) rfl ?_
      obtain ⟨q9, h⟩ := h
      refine g_ld (v := rf _) rfl (is_R _) ?_
      refine g_getF (v := 16166) oC13 (hC13_96) rfl (Nat.le_of_ble_eq_true rfl) (Nat.le_of_ble_eq_true rfl) ?_
      refine g_ld (v := cI _) rfl (is_I _) ?_
      obtain ⟨q10, q11, h⟩ := h
      refine g_aldI aC16166 q10 q11 rfl fun i12 => ?_
      replace h := h i12
      refine g_st (lv' := [_, _, _, _, _, _, _, _, _]) (is_I _) (Nat.le_of_ble_eq_true rfl) (Or.inr (n1_I _)) rfl ?_
      refine g_ld (v := rf _) rfl (is_R _) ?_
      refine g_getF (v := 16165) oC13 (hC13_94) rfl (Nat.le_of_ble_eq_true rfl) (Nat.le_of_ble_eq_true rfl) ?_
      refine g_ld (v := cI _) rfl (is_I _) ?_
      obtain ⟨q13, q14, h⟩ := h
      refine g_aldI aC16165 q13 q14 rfl fun i15 => ?_
      replace h := h i15
      refine g_ld (v := rf _) rfl (is_R _) ?_
      refine g_getI (kz := 95) oC13 rfl (Nat.le_of_ble_eq_true rfl) rfl fun i16 => ?_
      replace h := h i16
      refine g_eq2 i15 i16 (fun b17 => ?_) (fun b17 => ?_)
      · replace h := h.1 b17
        exact TX13_isHeir_185 hl1 hl2 q9 hl4 i12 hl6 hl7 hl8 hj0 hj1 h
      · replace h := h.2 b17
        unfold vX13_isHeir_53
        refine g_ld (v := rf _) rfl (is_R _) ?_
        refine g_getF (v := 16165) oC13 (hC13_94) rfl (Nat.le_of_ble_eq_true rfl) (Nat.le_of_ble_eq_true rfl) ?_
        refine g_ld (v := cI _) rfl (is_I _) ?_
        refine g_ld (v := rf _) rfl (is_R _) ?_
        refine g_getI (kz := 95) oC13 rfl (Nat.le_of_ble_eq_true rfl) rfl fun i18 => ?_
        replace h := h i18
        obtain ⟨q19, q20, h⟩ := h
        refine g_astI aC16165 q19 q20 i18 (nfI aC16165) ?_
        replace h := h _ rfl
        refine g_ld (v := rf _) rfl (is_R _) ?_
        refine g_ld (v := cI _) rfl (is_I _) ?_
        refine g_callV (As := [_]) (ci := 13) oC13 (fun _ => rfl) ?_
        refine g_go1 (Nat.le_of_ble_eq_true rfl) (Tn_w (TX13_parent i12 h) fun _ G22 ⟨r23, e, i24, h⟩ => ?_)
        subst e
        refine ⟨n7_I _, ?_⟩
        replace h := h i24
        refine g_st (lv' := [_, _, _, _, _, _, _, _, _]) (is_I _) (Nat.le_of_ble_eq_true rfl) (Or.inr (n1_I _)) rfl ?_
        refine g_ld (v := cI _) rfl (is_I _) ?_
        refine g_ld (v := cI _) rfl (is_I _) ?_
        refine g_eq2 i24 hl2 (fun b25 => ?_) (fun b25 => ?_)
        · replace h := h.1 b25
          unfold vX13_isHeir_78
          refine g_const (v := cI (1)) rfl ?_
          exact TX13_isHeir_83 hl1 hl2 q9 hl4 i12 i24 hl7 hl8 ⟨by omega, by omega⟩ hj0 hj1 h
        · replace h := h.2 b25
          unfold vX13_isHeir_82
          refine g_const (v := cI (0)) rfl ?_
          exact TX13_isHeir_83 hl1 hl2 q9 hl4 i12 i24 hl7 hl8 ⟨by omega, by omega⟩ hj0 hj1 h
    · replace h := h.2 b8
      exact TX13_isHeir_188 hl1 hl2 hl3 hl4 hl5 hl6 hl7 hl8 hj0 hj1 h
  · replace h := h.2 b7
    exact TX13_isHeir_188 hl1 hl2 hl3 hl4 hl5 hl6 hl7 hl8 hj0 hj1 h
def PX13_isHeir_0 (J : Nat → List Int → gS → (Int → gS → Prop) → Prop) (a1 : Int) (a2 : Int) (G : gS) (Q : Int → gS → Prop) : Prop :=
  PX13_newStamp G (fun _ G1 => (inI (0 + 1) ∧ ((0 : Int) ≤ 0 ∧ ((0 : Int) < 4000 ∧ (∀ G6 : gS, G6 = uG G1 16166 0 (a1) → PX13_isHeir_19 J a1 a2 (0 + 1) 0 G6 Q)))))
set_option maxRecDepth 20000 in
theorem TX13_isHeir_0 {j : Nat → rx_K} {J : Nat → List Int → gS → (Int → gS → Prop) → Prop} {a1 : Int} {a2 : Int} {G : gS} {Q : Int → gS → Prop} (ha1 : inI a1) (ha2 : inI a2) (hj0 : ∀ (l1 : Int) (l2 : Int) (l3 : Int) (l4 : Int) (l5 : Nat) (l6 : Nat) (l7 : Nat) (l8 : Nat) (G : gS), (inI l1) → (inI l2) → (inI l3) → (inI l4) → (l5 % 8 ≠ 1) → (l6 % 8 ≠ 1) → (l7 % 8 ≠ 1) → (l8 % 8 ≠ 1) → J 0 [l1, l2, l3, l4] G Q → Tg W0 (j 0) [rf (16081), cI (l1), cI (l2), cI (l3), cI (l4), l5, l6, l7, l8] [] G (fun r G => ∃ v, r = cI v ∧ (0 ≤ v ∧ v ≤ 1) ∧ Q v G)) (hj1 : ∀ (l1 : Int) (l2 : Int) (l3 : Int) (l4 : Int) (l5 : Int) (l6 : Int) (l7 : Int) (l8 : Nat) (G : gS), (inI l1) → (inI l2) → (inI l3) → (inI l4) → (inI l5) → (inI l6) → (inI l7) → (l8 % 8 ≠ 1) → J 1 [l1, l2, l3, l4, l5, l6, l7] G Q → Tg W0 (j 1) [rf (16081), cI (l1), cI (l2), cI (l3), cI (l4), cI (l5), cI (l6), cI (l7), l8] [] G (fun r G => ∃ v, r = cI v ∧ (0 ≤ v ∧ v ≤ 1) ∧ Q v G)) (h : PX13_isHeir_0 J a1 a2 G Q) : Tg W0 (vX13_isHeir_0 j) [rf (16081), cI (a1), cI (a2), 7, 7, 7, 7, 7, 7] [] G (fun r G => ∃ v, r = cI v ∧ (0 ≤ v ∧ v ≤ 1) ∧ Q v G) := by
  unfold PX13_isHeir_0 at h
  unfold vX13_isHeir_0
  refine g_ld (v := rf _) rfl (is_R _) ?_
  refine g_callV (As := []) (ci := 13) oC13 (fun _ => rfl) ?_
  refine g_go0 (Nat.le_of_ble_eq_true rfl) (Tn_w (TX13_newStamp  h) fun _ G1 ⟨e, h⟩ => ⟨e, ?_⟩)
  refine g_const (v := cI (0)) rfl ?_
  refine g_st (lv' := [_, _, _, _, _, _, _, _, _]) (is_I _) (Nat.le_of_ble_eq_true rfl) (Or.inr (n1_I _)) rfl ?_
  refine g_ld (v := rf _) rfl (is_R _) ?_
  refine g_getF (v := 16166) oC13 (hC13_96) rfl (Nat.le_of_ble_eq_true rfl) (Nat.le_of_ble_eq_true rfl) ?_
  refine g_ld (v := cI _) rfl (is_I _) ?_
  refine g_inc (lv' := [_, _, _, _, _, _, _, _, _]) rfl (Nat.le_of_ble_eq_true rfl) (Or.inr (n1_I _)) rfl ?_
  obtain ⟨q3, h⟩ := h
  refine g_ld (v := cI _) rfl (is_I _) ?_
  obtain ⟨q4, q5, h⟩ := h
  refine g_astI aC16166 q4 q5 ha1 (nfI aC16166) ?_
  replace h := h _ rfl
  refine g_const (v := cI (0)) rfl ?_
  refine g_st (lv' := [_, _, _, _, _, _, _, _, _]) (is_I _) (Nat.le_of_ble_eq_true rfl) (Or.inr (n1_I _)) rfl ?_
  exact TX13_isHeir_19 ha1 ha2 q3 ⟨by omega, by omega⟩ (show 7 % 8 ≠ 1 by decide) (show 7 % 8 ≠ 1 by decide) (show 7 % 8 ≠ 1 by decide) (show 7 % 8 ≠ 1 by decide) hj0 hj1 h
def PX13_isHeir_J : Nat → Nat → List Int → gS → (Int → gS → Prop) → Prop
  | 0, _, _, _, _ => False
  | f + 1, h, L, G, Q => match h, L with
    | 0, [l1, l2, l3, l4] => PX13_isHeir_19 (PX13_isHeir_J f) l1 l2 l3 l4 G Q
    | 1, [l1, l2, l3, l4, l5, l6, l7] => PX13_isHeir_106 (PX13_isHeir_J f) l1 l2 l3 l4 l5 l6 l7 G Q
    | _, _ => False
theorem TX13_isHeir_J {Q : Int → gS → Prop} : ∀ f N : Nat, f ≤ N → (∀ (l1 : Int) (l2 : Int) (l3 : Int) (l4 : Int) (l5 : Nat) (l6 : Nat) (l7 : Nat) (l8 : Nat) (G : gS), (inI l1) → (inI l2) → (inI l3) → (inI l4) → (l5 % 8 ≠ 1) → (l6 % 8 ≠ 1) → (l7 % 8 ≠ 1) → (l8 % 8 ≠ 1) → (PX13_isHeir_J f) 0 [l1, l2, l3, l4] G Q → Tg W0 (rx_J vhX13_isHeir N 0) [rf (16081), cI (l1), cI (l2), cI (l3), cI (l4), l5, l6, l7, l8] [] G (fun r G => ∃ v, r = cI v ∧ (0 ≤ v ∧ v ≤ 1) ∧ Q v G)) ∧ (∀ (l1 : Int) (l2 : Int) (l3 : Int) (l4 : Int) (l5 : Int) (l6 : Int) (l7 : Int) (l8 : Nat) (G : gS), (inI l1) → (inI l2) → (inI l3) → (inI l4) → (inI l5) → (inI l6) → (inI l7) → (l8 % 8 ≠ 1) → (PX13_isHeir_J f) 1 [l1, l2, l3, l4, l5, l6, l7] G Q → Tg W0 (rx_J vhX13_isHeir N 1) [rf (16081), cI (l1), cI (l2), cI (l3), cI (l4), cI (l5), cI (l6), cI (l7), l8] [] G (fun r G => ∃ v, r = cI v ∧ (0 ≤ v ∧ v ≤ 1) ∧ Q v G)) := by
  intro f
  induction f with
  | zero => exact fun N _ => ⟨fun _ _ _ _ _ _ _ _ _ _ _ _ _ _ _ _ _ h => h.elim, fun _ _ _ _ _ _ _ _ _ _ _ _ _ _ _ _ _ h => h.elim⟩
  | succ f ih =>
    intro N hN
    obtain ⟨M, rfl⟩ : ∃ M, N = M + 1 := ⟨N - 1, by omega⟩
    have ih := ih M (by omega)
    exact ⟨fun _ _ _ _ _ _ _ _ _ hl1 hl2 hl3 hl4 hl5 hl6 hl7 hl8 h => show Tg W0 (vX13_isHeir_19 (rx_J vhX13_isHeir M)) _ _ _ _ from TX13_isHeir_19 hl1 hl2 hl3 hl4 hl5 hl6 hl7 hl8 ih.1 ih.2 h, fun _ _ _ _ _ _ _ _ _ hl1 hl2 hl3 hl4 hl5 hl6 hl7 hl8 h => show Tg W0 (vX13_isHeir_106 (rx_J vhX13_isHeir M)) _ _ _ _ from TX13_isHeir_106 hl1 hl2 hl3 hl4 hl5 hl6 hl7 hl8 ih.1 ih.2 h⟩
def PX13_isHeir (a1 : Int) (a2 : Int) (G : gS) (Q : Int → gS → Prop) : Prop := ∃ f : Nat, f ≤ 4000000000 ∧ PX13_isHeir_0 (PX13_isHeir_J f) a1 a2 G Q
theorem TX13_isHeir {a1 : Int} {a2 : Int} {G : gS} {Q : Int → gS → Prop} (ha1 : inI a1) (ha2 : inI a2) (h : PX13_isHeir a1 a2 G Q) : Tn W0 FX13_isHeir [rf (16081), cI (a1), cI (a2)] G (fun r G => ∃ v, r = cI v ∧ (0 ≤ v ∧ v ≤ 1) ∧ Q v G) := by
  obtain ⟨f, hf, h⟩ := h
  have hJ := TX13_isHeir_J (Q := Q) f 4000000000 hf
  unfold FX13_isHeir
  refine g_ent (lv' := [rf (16081), cI (a1), cI (a2), 7, 7, 7, 7, 7, 7]) (flR (flI (flI fl0))) (Nat.le_of_ble_eq_true rfl) rfl ?_
  exact TX13_isHeir_0 ha1 ha2 hJ.1 hJ.2 h
def PX13_fits_126 (l1 : Int) (l3 : Int) (l5 : Int) (l6 : Int) (s0 : Int) (G : gS) (Q : Int → gS → Prop) : Prop :=
  ((0 ≤ s0 ∧ s0 ≤ 1) ∧ Q (s0) G)
set_option maxRecDepth 20000 in
theorem TX13_fits_126 {l1 : Int} {l2 : Nat} {l3 : Int} {l4 : Nat} {l5 : Int} {l6 : Int} {s0 : Int} {G : gS} {Q : Int → gS → Prop} (hl1 : inL l1) (hl2 : l2 % 8 ≠ 1) (hl3 : inL l3) (hl4 : l4 % 8 ≠ 1) (hl5 : inI l5) (hl6 : inI l6) (hs0 : inI s0) (h : PX13_fits_126 l1 l3 l5 l6 s0 G Q) : Tg W0 vX13_fits_126 [rf (16081), cL (l1), l2, cL (l3), l4, cI (l5), cI (l6)] [cI (s0)] G (fun r G => ∃ v, r = cI v ∧ (0 ≤ v ∧ v ≤ 1) ∧ Q v G) := by
  unfold PX13_fits_126 at h
  unfold vX13_fits_126
  obtain ⟨q36, h⟩ := h
  exact g_ret1 (is_Z q36) ⟨_, rfl, q36, h⟩
def PX13_fits_125 (l1 : Int) (l3 : Int) (l5 : Int) (l6 : Int) (G : gS) (Q : Int → gS → Prop) : Prop :=
  PX13_fits_126 l1 l3 l5 l6 0 G Q
set_option maxRecDepth 20000 in
theorem TX13_fits_125 {l1 : Int} {l2 : Nat} {l3 : Int} {l4 : Nat} {l5 : Int} {l6 : Int} {G : gS} {Q : Int → gS → Prop} (hl1 : inL l1) (hl2 : l2 % 8 ≠ 1) (hl3 : inL l3) (hl4 : l4 % 8 ≠ 1) (hl5 : inI l5) (hl6 : inI l6) (h : PX13_fits_125 l1 l3 l5 l6 G Q) : Tg W0 vX13_fits_125 [rf (16081), cL (l1), l2, cL (l3), l4, cI (l5), cI (l6)] [] G (fun r G => ∃ v, r = cI v ∧ (0 ≤ v ∧ v ≤ 1) ∧ Q v G) := by
  unfold PX13_fits_125 at h
  unfold vX13_fits_125
  refine g_const (v := cI (0)) rfl ?_
  exact TX13_fits_126 hl1 hl2 hl3 hl4 hl5 hl6 ⟨by omega, by omega⟩ h
def PX13_fits_121 (l1 : Int) (l3 : Int) (l5 : Int) (l6 : Int) (G : gS) (Q : Int → gS → Prop) : Prop :=
  PX13_fits_126 l1 l3 l5 l6 1 G Q
set_option maxRecDepth 20000 in
theorem TX13_fits_121 {l1 : Int} {l2 : Nat} {l3 : Int} {l4 : Nat} {l5 : Int} {l6 : Int} {G : gS} {Q : Int → gS → Prop} (hl1 : inL l1) (hl2 : l2 % 8 ≠ 1) (hl3 : inL l3) (hl4 : l4 % 8 ≠ 1) (hl5 : inI l5) (hl6 : inI l6) (h : PX13_fits_121 l1 l3 l5 l6 G Q) : Tg W0 vX13_fits_121 [rf (16081), cL (l1), l2, cL (l3), l4, cI (l5), cI (l6)] [] G (fun r G => ∃ v, r = cI v ∧ (0 ≤ v ∧ v ≤ 1) ∧ Q v G) := by
  unfold PX13_fits_121 at h
  unfold vX13_fits_121
  refine g_const (v := cI (1)) rfl ?_
  exact TX13_fits_126 hl1 hl2 hl3 hl4 hl5 hl6 ⟨by omega, by omega⟩ h
def PX13_fits_110 (l1 : Int) (l3 : Int) (l5 : Int) (l6 : Int) (G : gS) (Q : Int → gS → Prop) : Prop :=
  PX13_isHeir l5 l6 G (fun r32 G31 => (0 ≤ r32 ∧ r32 ≤ 1) → ((r32 = 0 → PX13_fits_125 l1 l3 l5 l6 G31 Q) ∧ (¬ (r32 = 0) → PX13_fits_121 l1 l3 l5 l6 G31 Q)))
set_option maxRecDepth 20000 in
theorem TX13_fits_110 {l1 : Int} {l2 : Nat} {l3 : Int} {l4 : Nat} {l5 : Int} {l6 : Int} {G : gS} {Q : Int → gS → Prop} (hl1 : inL l1) (hl2 : l2 % 8 ≠ 1) (hl3 : inL l3) (hl4 : l4 % 8 ≠ 1) (hl5 : inI l5) (hl6 : inI l6) (h : PX13_fits_110 l1 l3 l5 l6 G Q) : Tg W0 vX13_fits_110 [rf (16081), cL (l1), l2, cL (l3), l4, cI (l5), cI (l6)] [] G (fun r G => ∃ v, r = cI v ∧ (0 ≤ v ∧ v ≤ 1) ∧ Q v G) := by
  unfold PX13_fits_110 at h
  unfold vX13_fits_110
  refine g_ld (v := rf _) rfl (is_R _) ?_
  refine g_ld (v := cI _) rfl (is_I _) ?_
  refine g_ld (v := cI _) rfl (is_I _) ?_
  refine g_callV (As := [_, _]) (ci := 13) oC13 (fun _ => rfl) ?_
  refine g_go1 (Nat.le_of_ble_eq_true rfl) (Tn_w (TX13_isHeir hl5 hl6 h) fun _ G31 ⟨r32, e, i33, h⟩ => ?_)
  subst e
  refine ⟨n7_I _, ?_⟩
  replace h := h i33
  refine g_eq1 ⟨by omega, by omega⟩ (fun b34 => ?_) (fun b34 => ?_)
  · replace h := h.1 b34
    exact TX13_fits_125 hl1 hl2 hl3 hl4 hl5 hl6 h
  · replace h := h.2 b34
    exact TX13_fits_121 hl1 hl2 hl3 hl4 hl5 hl6 h
def PX13_fits_64 (l1 : Int) (l3 : Int) (s0 : Int) (G : gS) (Q : Int → gS → Prop) : Prop :=
  ((0 ≤ s0 ∧ s0 ≤ 1) ∧ Q (s0) G)
set_option maxRecDepth 20000 in
theorem TX13_fits_64 {l1 : Int} {l2 : Nat} {l3 : Int} {l4 : Nat} {l5 : Nat} {l6 : Nat} {s0 : Int} {G : gS} {Q : Int → gS → Prop} (hl1 : inL l1) (hl2 : l2 % 8 ≠ 1) (hl3 : inL l3) (hl4 : l4 % 8 ≠ 1) (hl5 : l5 % 8 ≠ 1) (hl6 : l6 % 8 ≠ 1) (hs0 : inI s0) (h : PX13_fits_64 l1 l3 s0 G Q) : Tg W0 vX13_fits_64 [rf (16081), cL (l1), l2, cL (l3), l4, l5, l6] [cI (s0)] G (fun r G => ∃ v, r = cI v ∧ (0 ≤ v ∧ v ≤ 1) ∧ Q v G) := by
  unfold PX13_fits_64 at h
  unfold vX13_fits_64
  obtain ⟨q35, h⟩ := h
  exact g_ret1 (is_Z q35) ⟨_, rfl, q35, h⟩
def PX13_fits_63 (l1 : Int) (l3 : Int) (G : gS) (Q : Int → gS → Prop) : Prop :=
  PX13_fits_64 l1 l3 0 G Q
set_option maxRecDepth 20000 in
theorem TX13_fits_63 {l1 : Int} {l2 : Nat} {l3 : Int} {l4 : Nat} {l5 : Nat} {l6 : Nat} {G : gS} {Q : Int → gS → Prop} (hl1 : inL l1) (hl2 : l2 % 8 ≠ 1) (hl3 : inL l3) (hl4 : l4 % 8 ≠ 1) (hl5 : l5 % 8 ≠ 1) (hl6 : l6 % 8 ≠ 1) (h : PX13_fits_63 l1 l3 G Q) : Tg W0 vX13_fits_63 [rf (16081), cL (l1), l2, cL (l3), l4, l5, l6] [] G (fun r G => ∃ v, r = cI v ∧ (0 ≤ v ∧ v ≤ 1) ∧ Q v G) := by
  unfold PX13_fits_63 at h
  unfold vX13_fits_63
  refine g_const (v := cI (0)) rfl ?_
  exact TX13_fits_64 hl1 hl2 hl3 hl4 hl5 hl6 ⟨by omega, by omega⟩ h
def PX13_fits_44 (l1 : Int) (l3 : Int) (G : gS) (Q : Int → gS → Prop) : Prop :=
  ((l1 = 3 → PX13_isC l3 G (fun r28 G27 => (0 ≤ r28 ∧ r28 ≤ 1) → ((r28 = 0 → PX13_fits_63 l1 l3 G27 Q) ∧ (¬ (r28 = 0) → PX13_fits_64 l1 l3 1 G27 Q)))) ∧ (¬ (l1 = 3) → PX13_fits_63 l1 l3 G Q))
set_option maxRecDepth 20000 in
theorem TX13_fits_44 {l1 : Int} {l2 : Nat} {l3 : Int} {l4 : Nat} {l5 : Nat} {l6 : Nat} {G : gS} {Q : Int → gS → Prop} (hl1 : inL l1) (hl2 : l2 % 8 ≠ 1) (hl3 : inL l3) (hl4 : l4 % 8 ≠ 1) (hl5 : l5 % 8 ≠ 1) (hl6 : l6 % 8 ≠ 1) (h : PX13_fits_44 l1 l3 G Q) : Tg W0 vX13_fits_44 [rf (16081), cL (l1), l2, cL (l3), l4, l5, l6] [] G (fun r G => ∃ v, r = cI v ∧ (0 ≤ v ∧ v ≤ 1) ∧ Q v G) := by
  unfold PX13_fits_44 at h
  unfold vX13_fits_44
  refine g_ld (v := cL _) rfl (is_L _) ?_
  refine g_const (v := cL (3)) rfl ?_
  refine g_leq hl1 ⟨by omega, by omega⟩ (fun b26 => ?_) (fun b26 => ?_)
  · replace h := h.1 b26
    unfold vX13_fits_52
    refine g_ld (v := cL _) rfl (is_L _) ?_
    refine g_callS (As := [_]) (fun _ => rfl) ?_
    refine g_go1 (Nat.le_of_ble_eq_true rfl) (Tn_w (TX13_isC hl3 h) fun _ G27 ⟨r28, e, i29, h⟩ => ?_)
    subst e
    refine ⟨n7_I _, ?_⟩
    replace h := h i29
    refine g_eq1 ⟨by omega, by omega⟩ (fun b30 => ?_) (fun b30 => ?_)
    · replace h := h.1 b30
      exact TX13_fits_63 hl1 hl2 hl3 hl4 hl5 hl6 h
    · replace h := h.2 b30
      unfold vX13_fits_59
      refine g_const (v := cI (1)) rfl ?_
      exact TX13_fits_64 hl1 hl2 hl3 hl4 hl5 hl6 ⟨by omega, by omega⟩ h
  · replace h := h.2 b26
    exact TX13_fits_63 hl1 hl2 hl3 hl4 hl5 hl6 h
def PX13_fits_12 (l1 : Int) (l3 : Int) (G : gS) (Q : Int → gS → Prop) : Prop :=
  Q (0) G
set_option maxRecDepth 20000 in
theorem TX13_fits_12 {l1 : Int} {l2 : Nat} {l3 : Int} {l4 : Nat} {l5 : Nat} {l6 : Nat} {G : gS} {Q : Int → gS → Prop} (hl1 : inL l1) (hl2 : l2 % 8 ≠ 1) (hl3 : inL l3) (hl4 : l4 % 8 ≠ 1) (hl5 : l5 % 8 ≠ 1) (hl6 : l6 % 8 ≠ 1) (h : PX13_fits_12 l1 l3 G Q) : Tg W0 vX13_fits_12 [rf (16081), cL (l1), l2, cL (l3), l4, l5, l6] [] G (fun r G => ∃ v, r = cI v ∧ (0 ≤ v ∧ v ≤ 1) ∧ Q v G) := by
  unfold PX13_fits_12 at h
  unfold vX13_fits_12
  refine g_const (v := cI (0)) rfl ?_
  exact g_ret1 (is_Z (by omega)) ⟨_, rfl, (by omega), h⟩
def PX13_fits_0 (a1 : Int) (a3 : Int) (G : gS) (Q : Int → gS → Prop) : Prop :=
  ((a1 = 1 → PX13_fits_12 a1 a3 G Q) ∧ (¬ (a1 = 1) → ((a3 = 1 → PX13_fits_12 a1 a3 G Q) ∧ (¬ (a3 = 1) → ((a1 = a3 → Q (1) G) ∧ (¬ (a1 = a3) → ((a1 = 3 → PX13_fits_44 a1 a3 G Q) ∧ (¬ (a1 = 3) → PX13_isC a1 G (fun r6 G5 => (0 ≤ r6 ∧ r6 ≤ 1) → ((r6 = 0 → PX13_fits_44 a1 a3 G5 Q) ∧ (¬ (r6 = 0) → PX13_isC a3 G5 (fun r10 G9 => (0 ≤ r10 ∧ r10 ≤ 1) → ((r10 = 0 → PX13_fits_44 a1 a3 G9 Q) ∧ (¬ (r10 = 0) → PX13_find a1 G9 (fun r14 G13 => inI r14 → PX13_find a3 G13 (fun r17 G16 => inI r17 → ((r14 = -2 → PX13_fits_125 a1 a3 r14 r17 G16 Q) ∧ (¬ (r14 = -2) → ((r17 = -2 → PX13_fits_125 a1 a3 r14 r17 G16 Q) ∧ (¬ (r17 = -2) → ((r17 = 204 → PX13_isFace r14 G16 (fun r23 G22 => (0 ≤ r23 ∧ r23 ≤ 1) → ((r23 = 0 → PX13_fits_110 a1 a3 r14 r17 G22 Q) ∧ (¬ (r23 = 0) → PX13_fits_121 a1 a3 r14 r17 G22 Q)))) ∧ (¬ (r17 = 204) → PX13_fits_110 a1 a3 r14 r17 G16 Q))))))))))))))))))))))
set_option maxRecDepth 20000 in
theorem TX13_fits_0 {a1 : Int} {a3 : Int} {G : gS} {Q : Int → gS → Prop} (ha1 : inL a1) (ha3 : inL a3) (h : PX13_fits_0 a1 a3 G Q) : Tg W0 vX13_fits_0 [rf (16081), cL (a1), 7, cL (a3), 7, 7, 7] [] G (fun r G => ∃ v, r = cI v ∧ (0 ≤ v ∧ v ≤ 1) ∧ Q v G) := by
  unfold PX13_fits_0 at h
  unfold vX13_fits_0
  refine g_ld (v := cL _) rfl (is_L _) ?_
  refine g_const (v := cL (1)) rfl ?_
  refine g_leq ha1 ⟨by omega, by omega⟩ (fun b1 => ?_) (fun b1 => ?_)
  · replace h := h.1 b1
    exact TX13_fits_12 ha1 (show 7 % 8 ≠ 1 by decide) ha3 (show 7 % 8 ≠ 1 by decide) (show 7 % 8 ≠ 1 by decide) (show 7 % 8 ≠ 1 by decide) h
  · replace h := h.2 b1
    unfold vX13_fits_6
    refine g_ld (v := cL _) rfl (is_L _) ?_
    refine g_const (v := cL (1)) rfl ?_
    refine g_leq ha3 ⟨by omega, by omega⟩ (fun b2 => ?_) (fun b2 => ?_)
    · replace h := h.1 b2
      exact TX13_fits_12 ha1 (show 7 % 8 ≠ 1 by decide) ha3 (show 7 % 8 ≠ 1 by decide) (show 7 % 8 ≠ 1 by decide) (show 7 % 8 ≠ 1 by decide) h
    · replace h := h.2 b2
      unfold vX13_fits_14
      refine g_ld (v := cL _) rfl (is_L _) ?_
      refine g_ld (v := cL _) rfl (is_L _) ?_
      refine g_leq ha1 ha3 (fun b3 => ?_) (fun b3 => ?_)
      · replace h := h.1 b3
        unfold vX13_fits_20
        refine g_const (v := cI (1)) rfl ?_
        exact g_ret1 (is_Z (by omega)) ⟨_, rfl, (by omega), h⟩
      · replace h := h.2 b3
        unfold vX13_fits_22
        refine g_ld (v := cL _) rfl (is_L _) ?_
        refine g_const (v := cL (3)) rfl ?_
        refine g_leq ha1 ⟨by omega, by omega⟩ (fun b4 => ?_) (fun b4 => ?_)
        · replace h := h.1 b4
          exact TX13_fits_44 ha1 (show 7 % 8 ≠ 1 by decide) ha3 (show 7 % 8 ≠ 1 by decide) (show 7 % 8 ≠ 1 by decide) (show 7 % 8 ≠ 1 by decide) h
        · replace h := h.2 b4
          unfold vX13_fits_30
          refine g_ld (v := cL _) rfl (is_L _) ?_
          refine g_callS (As := [_]) (fun _ => rfl) ?_
          refine g_go1 (Nat.le_of_ble_eq_true rfl) (Tn_w (TX13_isC ha1 h) fun _ G5 ⟨r6, e, i7, h⟩ => ?_)
          subst e
          refine ⟨n7_I _, ?_⟩
          replace h := h i7
          refine g_eq1 ⟨by omega, by omega⟩ (fun b8 => ?_) (fun b8 => ?_)
          · replace h := h.1 b8
            exact TX13_fits_44 ha1 (show 7 % 8 ≠ 1 by decide) ha3 (show 7 % 8 ≠ 1 by decide) (show 7 % 8 ≠ 1 by decide) (show 7 % 8 ≠ 1 by decide) h
          · replace h := h.2 b8
            unfold vX13_fits_37
            refine g_ld (v := cL _) rfl (is_L _) ?_
            refine g_callS (As := [_]) (fun _ => rfl) ?_
            refine g_go1 (Nat.le_of_ble_eq_true rfl) (Tn_w (TX13_isC ha3 h) fun _ G9 ⟨r10, e, i11, h⟩ => ?_)
            subst e
            refine ⟨n7_I _, ?_⟩
            replace h := h i11
            refine g_eq1 ⟨by omega, by omega⟩ (fun b12 => ?_) (fun b12 => ?_)
            · replace h := h.1 b12
              exact TX13_fits_44 ha1 (show 7 % 8 ≠ 1 by decide) ha3 (show 7 % 8 ≠ 1 by decide) (show 7 % 8 ≠ 1 by decide) (show 7 % 8 ≠ 1 by decide) h
            · replace h := h.2 b12
              unfold vX13_fits_65
              refine g_ld (v := rf _) rfl (is_R _) ?_
              refine g_ld (v := cL _) rfl (is_L _) ?_
              refine g_callV (As := [_]) (ci := 13) oC13 (fun _ => rfl) ?_
              refine g_go1 (Nat.le_of_ble_eq_true rfl) (Tn_w (TX13_find ha1 h) fun _ G13 ⟨r14, e, i15, h⟩ => ?_)
              subst e
              refine ⟨n7_I _, ?_⟩
              replace h := h i15
              refine g_st (lv' := [_, _, _, _, _, _, _]) (is_I _) (Nat.le_of_ble_eq_true rfl) (Or.inr (show 7 % 8 ≠ 1 by decide)) rfl ?_
              refine g_ld (v := rf _) rfl (is_R _) ?_
              refine g_ld (v := cL _) rfl (is_L _) ?_
              refine g_callV (As := [_]) (ci := 13) oC13 (fun _ => rfl) ?_
              refine g_go1 (Nat.le_of_ble_eq_true rfl) (Tn_w (TX13_find ha3 h) fun _ G16 ⟨r17, e, i18, h⟩ => ?_)
              subst e
              refine ⟨n7_I _, ?_⟩
              replace h := h i18
              refine g_st (lv' := [_, _, _, _, _, _, _]) (is_I _) (Nat.le_of_ble_eq_true rfl) (Or.inr (n1_I _)) rfl ?_
              refine g_ld (v := cI _) rfl (is_I _) ?_
              refine g_const (v := cI (-2)) rfl ?_
              refine g_eq2 i15 ⟨by omega, by omega⟩ (fun b19 => ?_) (fun b19 => ?_)
              · replace h := h.1 b19
                exact TX13_fits_125 ha1 (show 7 % 8 ≠ 1 by decide) ha3 (show 7 % 8 ≠ 1 by decide) i15 i18 h
              · replace h := h.2 b19
                unfold vX13_fits_86
                refine g_ld (v := cI _) rfl (is_I _) ?_
                refine g_const (v := cI (-2)) rfl ?_
                refine g_eq2 i18 ⟨by omega, by omega⟩ (fun b20 => ?_) (fun b20 => ?_)
                · replace h := h.1 b20
                  exact TX13_fits_125 ha1 (show 7 % 8 ≠ 1 by decide) ha3 (show 7 % 8 ≠ 1 by decide) i15 i18 h
                · replace h := h.2 b20
                  unfold vX13_fits_93
                  refine g_ld (v := cI _) rfl (is_I _) ?_
                  refine g_const (v := cI (204)) rfl ?_
                  refine g_eq2 i18 ⟨by omega, by omega⟩ (fun b21 => ?_) (fun b21 => ?_)
                  · replace h := h.1 b21
                    unfold vX13_fits_101
                    refine g_ld (v := rf _) rfl (is_R _) ?_
                    refine g_ld (v := cI _) rfl (is_I _) ?_
                    refine g_callV (As := [_]) (ci := 13) oC13 (fun _ => rfl) ?_
                    refine g_go1 (Nat.le_of_ble_eq_true rfl) (Tn_w (TX13_isFace i15 h) fun _ G22 ⟨r23, e, i24, h⟩ => ?_)
                    subst e
                    refine ⟨n7_I _, ?_⟩
                    replace h := h i24
                    refine g_eq1 ⟨by omega, by omega⟩ (fun b25 => ?_) (fun b25 => ?_)
                    · replace h := h.1 b25
                      exact TX13_fits_110 ha1 (show 7 % 8 ≠ 1 by decide) ha3 (show 7 % 8 ≠ 1 by decide) i15 i18 h
                    · replace h := h.2 b25
                      exact TX13_fits_121 ha1 (show 7 % 8 ≠ 1 by decide) ha3 (show 7 % 8 ≠ 1 by decide) i15 i18 h
                  · replace h := h.2 b21
                    exact TX13_fits_110 ha1 (show 7 % 8 ≠ 1 by decide) ha3 (show 7 % 8 ≠ 1 by decide) i15 i18 h
abbrev PX13_fits (a1 : Int) (a3 : Int) (G : gS) (Q : Int → gS → Prop) : Prop := PX13_fits_0 a1 a3 G Q
theorem TX13_fits {a1 : Int} {a3 : Int} {G : gS} {Q : Int → gS → Prop} (ha1 : inL a1) (ha3 : inL a3) (h : PX13_fits a1 a3 G Q) : Tn W0 FX13_fits [rf (16081), cL (a1), cL (a3)] G (fun r G => ∃ v, r = cI v ∧ (0 ≤ v ∧ v ≤ 1) ∧ Q v G) := by
  unfold FX13_fits
  refine g_ent (lv' := [rf (16081), cL (a1), 7, cL (a3), 7, 7, 7]) (flR (flL (flL fl0))) (Nat.le_of_ble_eq_true rfl) rfl ?_
  exact TX13_fits_0 ha1 ha3 h
def PX13_isLet_23 (l1 : Int) (l2 : Int) (s0 : Int) (G : gS) (Q : Int → gS → Prop) : Prop :=
  ((0 ≤ s0 ∧ s0 ≤ 1) ∧ Q (s0) G)
set_option maxRecDepth 20000 in
theorem TX13_isLet_23 {l1 : Int} {l2 : Int} {s0 : Int} {G : gS} {Q : Int → gS → Prop} (hl1 : inI l1) (hl2 : inI l2) (hs0 : inI s0) (h : PX13_isLet_23 l1 l2 s0 G Q) : Tg W0 vX13_isLet_23 [rf (16081), cI (l1), cI (l2)] [cI (s0)] G (fun r G => ∃ v, r = cI v ∧ (0 ≤ v ∧ v ≤ 1) ∧ Q v G) := by
  unfold PX13_isLet_23 at h
  unfold vX13_isLet_23
  obtain ⟨q9, h⟩ := h
  exact g_ret1 (is_Z q9) ⟨_, rfl, q9, h⟩
def PX13_isLet_18 (l1 : Int) (l2 : Int) (G : gS) (Q : Int → gS → Prop) : Prop :=
  PX13_isLet_23 l1 l2 1 G Q
set_option maxRecDepth 20000 in
theorem TX13_isLet_18 {l1 : Int} {l2 : Int} {G : gS} {Q : Int → gS → Prop} (hl1 : inI l1) (hl2 : inI l2) (h : PX13_isLet_18 l1 l2 G Q) : Tg W0 vX13_isLet_18 [rf (16081), cI (l1), cI (l2)] [] G (fun r G => ∃ v, r = cI v ∧ (0 ≤ v ∧ v ≤ 1) ∧ Q v G) := by
  unfold PX13_isLet_18 at h
  unfold vX13_isLet_18
  refine g_const (v := cI (1)) rfl ?_
  exact TX13_isLet_23 hl1 hl2 ⟨by omega, by omega⟩ h
def PX13_isLet_0 (a1 : Int) (a2 : Int) (G : gS) (Q : Int → gS → Prop) : Prop :=
  ((0 : Int) ≤ a1 ∧ ((a1 : Int) < 216 ∧ ((0 ≤ G 16100 a1 ∧ G 16100 a1 ≤ 1) → ((G 16100 a1 = 0 → PX13_onePackage a1 a2 G (fun r6 G5 => (0 ≤ r6 ∧ r6 ≤ 1) → ((r6 = 0 → PX13_isLet_23 a1 a2 0 G5 Q) ∧ (¬ (r6 = 0) → PX13_isLet_18 a1 a2 G5 Q)))) ∧ (¬ (G 16100 a1 = 0) → PX13_isLet_18 a1 a2 G Q)))))
set_option maxRecDepth 20000 in
theorem TX13_isLet_0 {a1 : Int} {a2 : Int} {G : gS} {Q : Int → gS → Prop} (ha1 : inI a1) (ha2 : inI a2) (h : PX13_isLet_0 a1 a2 G Q) : Tg W0 vX13_isLet_0 [rf (16081), cI (a1), cI (a2)] [] G (fun r G => ∃ v, r = cI v ∧ (0 ≤ v ∧ v ≤ 1) ∧ Q v G) := by
  unfold PX13_isLet_0 at h
  unfold vX13_isLet_0
  refine g_ld (v := rf _) rfl (is_R _) ?_
  refine g_getF (v := 16100) oC13 (hC13_26) rfl (Nat.le_of_ble_eq_true rfl) (Nat.le_of_ble_eq_true rfl) ?_
  refine g_ld (v := cI _) rfl (is_I _) ?_
  obtain ⟨q1, q2, h⟩ := h
  refine g_aldZ aC16100 q1 q2 rfl fun i3 => ?_
  replace h := h i3
  refine g_eq1 ⟨by omega, by omega⟩ (fun b4 => ?_) (fun b4 => ?_)
  · replace h := h.1 b4
    unfold vX13_isLet_9
    refine g_ld (v := rf _) rfl (is_R _) ?_
    refine g_ld (v := cI _) rfl (is_I _) ?_
    refine g_ld (v := cI _) rfl (is_I _) ?_
    refine g_callV (As := [_, _]) (ci := 13) oC13 (fun _ => rfl) ?_
    refine g_go1 (Nat.le_of_ble_eq_true rfl) (Tn_w (TX13_onePackage ha1 ha2 h) fun _ G5 ⟨r6, e, i7, h⟩ => ?_)
    subst e
    refine ⟨n7_I _, ?_⟩
    replace h := h i7
    refine g_eq1 ⟨by omega, by omega⟩ (fun b8 => ?_) (fun b8 => ?_)
    · replace h := h.1 b8
      unfold vX13_isLet_22
      refine g_const (v := cI (0)) rfl ?_
      exact TX13_isLet_23 ha1 ha2 ⟨by omega, by omega⟩ h
    · replace h := h.2 b8
      exact TX13_isLet_18 ha1 ha2 h
  · replace h := h.2 b4
    exact TX13_isLet_18 ha1 ha2 h
abbrev PX13_isLet (a1 : Int) (a2 : Int) (G : gS) (Q : Int → gS → Prop) : Prop := PX13_isLet_0 a1 a2 G Q
theorem TX13_isLet {a1 : Int} {a2 : Int} {G : gS} {Q : Int → gS → Prop} (ha1 : inI a1) (ha2 : inI a2) (h : PX13_isLet a1 a2 G Q) : Tn W0 FX13_isLet [rf (16081), cI (a1), cI (a2)] G (fun r G => ∃ v, r = cI v ∧ (0 ≤ v ∧ v ≤ 1) ∧ Q v G) := by
  unfold FX13_isLet
  refine g_ent (lv' := [rf (16081), cI (a1), cI (a2)]) (flR (flI (flI fl0))) (Nat.le_of_ble_eq_true rfl) rfl ?_
  exact TX13_isLet_0 ha1 ha2 h
def PX13_stands_33 (J : Nat → List Int → gS → (Int → gS → Prop) → Prop) (l0 : Int) (l1 : Int) (l2 : Int) (l3 : Int) (l5 : Int) (l6 : Int) (s0 : Int) (G : gS) (Q : Int → gS → Prop) : Prop :=
  (inI (l6 + 1) ∧ J 0 [l0, l1, l2, l3, s0, l6 + 1] G Q)
set_option maxRecDepth 20000 in
theorem TX13_stands_33 {j : Nat → rx_K} {J : Nat → List Int → gS → (Int → gS → Prop) → Prop} {l0 : Int} {l1 : Int} {l2 : Int} {l3 : Int} {l4 : Nat} {l5 : Int} {l6 : Int} {s0 : Int} {G : gS} {Q : Int → gS → Prop} (hl1 : inI l1) (hl2 : inI l2) (hl3 : inL l3) (hl4 : l4 % 8 ≠ 1) (hl5 : inI l5) (hl6 : inI l6) (hs0 : inI s0) (hj0 : ∀ (l0 : Int) (l1 : Int) (l2 : Int) (l3 : Int) (l4 : Nat) (l5 : Int) (l6 : Int) (G : gS), (inI l1) → (inI l2) → (inL l3) → (l4 % 8 ≠ 1) → (inI l5) → (inI l6) → J 0 [l0, l1, l2, l3, l5, l6] G Q → Tg W0 (j 0) [rf (l0), cI (l1), cI (l2), cL (l3), l4, cI (l5), cI (l6)] [] G (fun r G => ∃ v, r = cI v ∧ (0 ≤ v ∧ v ≤ 1) ∧ Q v G)) (h : PX13_stands_33 J l0 l1 l2 l3 l5 l6 s0 G Q) : Tg W0 (vX13_stands_33 j) [rf (l0), cI (l1), cI (l2), cL (l3), l4, cI (l5), cI (l6)] [cI (s0)] G (fun r G => ∃ v, r = cI v ∧ (0 ≤ v ∧ v ≤ 1) ∧ Q v G) := by
  unfold PX13_stands_33 at h
  unfold vX13_stands_33
  refine g_st (lv' := [_, _, _, _, _, _, _]) (is_I _) (Nat.le_of_ble_eq_true rfl) (Or.inr hl4) rfl ?_
  refine g_inc (lv' := [_, _, _, _, _, _, _]) rfl (Nat.le_of_ble_eq_true rfl) (Or.inr (n1_I _)) rfl ?_
  obtain ⟨q10, h⟩ := h
  exact hj0 _ _ _ _ _ _ _ _ hl1 hl2 hl3 hl4 hs0 q10 h
def PX13_stands_28 (J : Nat → List Int → gS → (Int → gS → Prop) → Prop) (l0 : Int) (l1 : Int) (l2 : Int) (l3 : Int) (l5 : Int) (l6 : Int) (G : gS) (Q : Int → gS → Prop) : Prop :=
  PX13_stands_33 J l0 l1 l2 l3 l5 l6 1 G Q
set_option maxRecDepth 20000 in
theorem TX13_stands_28 {j : Nat → rx_K} {J : Nat → List Int → gS → (Int → gS → Prop) → Prop} {l0 : Int} {l1 : Int} {l2 : Int} {l3 : Int} {l4 : Nat} {l5 : Int} {l6 : Int} {G : gS} {Q : Int → gS → Prop} (hl1 : inI l1) (hl2 : inI l2) (hl3 : inL l3) (hl4 : l4 % 8 ≠ 1) (hl5 : inI l5) (hl6 : inI l6) (hj0 : ∀ (l0 : Int) (l1 : Int) (l2 : Int) (l3 : Int) (l4 : Nat) (l5 : Int) (l6 : Int) (G : gS), (inI l1) → (inI l2) → (inL l3) → (l4 % 8 ≠ 1) → (inI l5) → (inI l6) → J 0 [l0, l1, l2, l3, l5, l6] G Q → Tg W0 (j 0) [rf (l0), cI (l1), cI (l2), cL (l3), l4, cI (l5), cI (l6)] [] G (fun r G => ∃ v, r = cI v ∧ (0 ≤ v ∧ v ≤ 1) ∧ Q v G)) (h : PX13_stands_28 J l0 l1 l2 l3 l5 l6 G Q) : Tg W0 (vX13_stands_28 j) [rf (l0), cI (l1), cI (l2), cL (l3), l4, cI (l5), cI (l6)] [] G (fun r G => ∃ v, r = cI v ∧ (0 ≤ v ∧ v ≤ 1) ∧ Q v G) := by
  unfold PX13_stands_28 at h
  unfold vX13_stands_28
  refine g_const (v := cI (1)) rfl ?_
  exact TX13_stands_33 hl1 hl2 hl3 hl4 hl5 hl6 ⟨by omega, by omega⟩ hj0 h
def PX13_stands_6 (J : Nat → List Int → gS → (Int → gS → Prop) → Prop) (l0 : Int) (l1 : Int) (l2 : Int) (l3 : Int) (l5 : Int) (l6 : Int) (G : gS) (Q : Int → gS → Prop) : Prop :=
  ((l6 < l2 → ((l5 = 0 → (∃ n3, isA W0 1 n3 (l0) ∧ ((0 : Int) ≤ l1 + l6 ∧ ((l1 + l6 : Int) < n3 ∧ (inL (G l0 (l1 + l6)) → ((G l0 (l1 + l6) = l3 → PX13_stands_28 J l0 l1 l2 l3 l5 l6 G Q) ∧ (¬ (G l0 (l1 + l6) = l3) → PX13_stands_33 J l0 l1 l2 l3 l5 l6 0 G Q))))))) ∧ (¬ (l5 = 0) → PX13_stands_28 J l0 l1 l2 l3 l5 l6 G Q))) ∧ (¬ (l6 < l2) → ((0 ≤ l5 ∧ l5 ≤ 1) ∧ Q (l5) G)))
set_option maxRecDepth 20000 in
theorem TX13_stands_6 {j : Nat → rx_K} {J : Nat → List Int → gS → (Int → gS → Prop) → Prop} {l0 : Int} {l1 : Int} {l2 : Int} {l3 : Int} {l4 : Nat} {l5 : Int} {l6 : Int} {G : gS} {Q : Int → gS → Prop} (hl1 : inI l1) (hl2 : inI l2) (hl3 : inL l3) (hl4 : l4 % 8 ≠ 1) (hl5 : inI l5) (hl6 : inI l6) (hj0 : ∀ (l0 : Int) (l1 : Int) (l2 : Int) (l3 : Int) (l4 : Nat) (l5 : Int) (l6 : Int) (G : gS), (inI l1) → (inI l2) → (inL l3) → (l4 % 8 ≠ 1) → (inI l5) → (inI l6) → J 0 [l0, l1, l2, l3, l5, l6] G Q → Tg W0 (j 0) [rf (l0), cI (l1), cI (l2), cL (l3), l4, cI (l5), cI (l6)] [] G (fun r G => ∃ v, r = cI v ∧ (0 ≤ v ∧ v ≤ 1) ∧ Q v G)) (h : PX13_stands_6 J l0 l1 l2 l3 l5 l6 G Q) : Tg W0 (vX13_stands_6 j) [rf (l0), cI (l1), cI (l2), cL (l3), l4, cI (l5), cI (l6)] [] G (fun r G => ∃ v, r = cI v ∧ (0 ≤ v ∧ v ≤ 1) ∧ Q v G) := by
  unfold PX13_stands_6 at h
  unfold vX13_stands_6
  refine g_ld (v := cI _) rfl (is_I _) ?_
  refine g_ld (v := cI _) rfl (is_I _) ?_
  refine g_lt2 hl6 hl2 (fun b1 => ?_) (fun b1 => ?_)
  · replace h := h.1 b1
    unfold vX13_stands_12
    refine g_ld (v := cI _) rfl (is_I _) ?_
    refine g_eq1 hl5 (fun b2 => ?_) (fun b2 => ?_)
    · replace h := h.1 b2
      unfold vX13_stands_17
      refine g_ld (v := rf _) rfl (is_R _) ?_
      refine g_ld (v := cI _) rfl (is_I _) ?_
      refine g_ld (v := cI _) rfl (is_I _) ?_
      refine g_add ?_
      obtain ⟨n3, q4, h⟩ := h
      obtain ⟨q5, q6, h⟩ := h
      refine g_aldL q4 q5 q6 rfl fun i7 => ?_
      replace h := h i7
      refine g_ld (v := cL _) rfl (is_L _) ?_
      refine g_leq i7 hl3 (fun b8 => ?_) (fun b8 => ?_)
      · replace h := h.1 b8
        exact TX13_stands_28 hl1 hl2 hl3 hl4 hl5 hl6 hj0 h
      · replace h := h.2 b8
        unfold vX13_stands_32
        refine g_const (v := cI (0)) rfl ?_
        exact TX13_stands_33 hl1 hl2 hl3 hl4 hl5 hl6 ⟨by omega, by omega⟩ hj0 h
    · replace h := h.2 b2
      exact TX13_stands_28 hl1 hl2 hl3 hl4 hl5 hl6 hj0 h
  · replace h := h.2 b1
    unfold vX13_stands_41
    refine g_ld (v := cI _) rfl (is_I _) ?_
    obtain ⟨q9, h⟩ := h
    exact g_ret1 (is_Z q9) ⟨_, rfl, q9, h⟩
def PX13_stands_0 (J : Nat → List Int → gS → (Int → gS → Prop) → Prop) (a0 : Int) (a1 : Int) (a2 : Int) (a3 : Int) (G : gS) (Q : Int → gS → Prop) : Prop :=
  PX13_stands_6 J a0 a1 a2 a3 0 0 G Q
set_option maxRecDepth 20000 in
theorem TX13_stands_0 {j : Nat → rx_K} {J : Nat → List Int → gS → (Int → gS → Prop) → Prop} {a0 : Int} {a1 : Int} {a2 : Int} {a3 : Int} {G : gS} {Q : Int → gS → Prop} (ha1 : inI a1) (ha2 : inI a2) (ha3 : inL a3) (hj0 : ∀ (l0 : Int) (l1 : Int) (l2 : Int) (l3 : Int) (l4 : Nat) (l5 : Int) (l6 : Int) (G : gS), (inI l1) → (inI l2) → (inL l3) → (l4 % 8 ≠ 1) → (inI l5) → (inI l6) → J 0 [l0, l1, l2, l3, l5, l6] G Q → Tg W0 (j 0) [rf (l0), cI (l1), cI (l2), cL (l3), l4, cI (l5), cI (l6)] [] G (fun r G => ∃ v, r = cI v ∧ (0 ≤ v ∧ v ≤ 1) ∧ Q v G)) (h : PX13_stands_0 J a0 a1 a2 a3 G Q) : Tg W0 (vX13_stands_0 j) [rf (a0), cI (a1), cI (a2), cL (a3), 7, 7, 7] [] G (fun r G => ∃ v, r = cI v ∧ (0 ≤ v ∧ v ≤ 1) ∧ Q v G) := by
  unfold PX13_stands_0 at h
  unfold vX13_stands_0
  refine g_const (v := cI (0)) rfl ?_
  refine g_st (lv' := [_, _, _, _, _, _, _]) (is_I _) (Nat.le_of_ble_eq_true rfl) (Or.inr (show 7 % 8 ≠ 1 by decide)) rfl ?_
  refine g_const (v := cI (0)) rfl ?_
  refine g_st (lv' := [_, _, _, _, _, _, _]) (is_I _) (Nat.le_of_ble_eq_true rfl) (Or.inr (n1_I _)) rfl ?_
  exact TX13_stands_6 ha1 ha2 ha3 (show 7 % 8 ≠ 1 by decide) ⟨by omega, by omega⟩ ⟨by omega, by omega⟩ hj0 h
def PX13_stands_J : Nat → Nat → List Int → gS → (Int → gS → Prop) → Prop
  | 0, _, _, _, _ => False
  | f + 1, h, L, G, Q => match h, L with
    | 0, [l0, l1, l2, l3, l5, l6] => PX13_stands_6 (PX13_stands_J f) l0 l1 l2 l3 l5 l6 G Q
    | _, _ => False
theorem TX13_stands_J {Q : Int → gS → Prop} : ∀ f N : Nat, f ≤ N → (∀ (l0 : Int) (l1 : Int) (l2 : Int) (l3 : Int) (l4 : Nat) (l5 : Int) (l6 : Int) (G : gS), (inI l1) → (inI l2) → (inL l3) → (l4 % 8 ≠ 1) → (inI l5) → (inI l6) → (PX13_stands_J f) 0 [l0, l1, l2, l3, l5, l6] G Q → Tg W0 (rx_J vhX13_stands N 0) [rf (l0), cI (l1), cI (l2), cL (l3), l4, cI (l5), cI (l6)] [] G (fun r G => ∃ v, r = cI v ∧ (0 ≤ v ∧ v ≤ 1) ∧ Q v G)) := by
  intro f
  induction f with
  | zero => exact fun N _ => fun _ _ _ _ _ _ _ _ _ _ _ _ _ _ h => h.elim
  | succ f ih =>
    intro N hN
    obtain ⟨M, rfl⟩ : ∃ M, N = M + 1 := ⟨N - 1, by omega⟩
    have ih := ih M (by omega)
    exact fun _ _ _ _ _ _ _ _ hl1 hl2 hl3 hl4 hl5 hl6 h => show Tg W0 (vX13_stands_6 (rx_J vhX13_stands M)) _ _ _ _ from TX13_stands_6 hl1 hl2 hl3 hl4 hl5 hl6 ih h
def PX13_stands (a0 : Int) (a1 : Int) (a2 : Int) (a3 : Int) (G : gS) (Q : Int → gS → Prop) : Prop := ∃ f : Nat, f ≤ 4000000000 ∧ PX13_stands_0 (PX13_stands_J f) a0 a1 a2 a3 G Q
theorem TX13_stands {a0 : Int} {a1 : Int} {a2 : Int} {a3 : Int} {G : gS} {Q : Int → gS → Prop} (ha1 : inI a1) (ha2 : inI a2) (ha3 : inL a3) (h : PX13_stands a0 a1 a2 a3 G Q) : Tn W0 FX13_stands [rf (a0), cI (a1), cI (a2), cL (a3)] G (fun r G => ∃ v, r = cI v ∧ (0 ≤ v ∧ v ≤ 1) ∧ Q v G) := by
  obtain ⟨f, hf, h⟩ := h
  have hJ := TX13_stands_J (Q := Q) f 4000000000 hf
  unfold FX13_stands
  refine g_ent (lv' := [rf (a0), cI (a1), cI (a2), cL (a3), 7, 7, 7]) (flR (flI (flI (flL fl0)))) (Nat.le_of_ble_eq_true rfl) rfl ?_
  exact TX13_stands_0 ha1 ha2 ha3 hJ h
def PX13_event_43 (l1 : Int) (l2 : Int) (G : gS) (Q : Int → gS → Prop) : Prop :=
  Q 0 G
set_option maxRecDepth 20000 in
theorem TX13_event_43 {l1 : Int} {l2 : Int} {G : gS} {Q : Int → gS → Prop} (hl1 : inI l1) (hl2 : inI l2) (h : PX13_event_43 l1 l2 G Q) : Tg W0 vX13_event_43 [rf (16081), cI (l1), cI (l2)] [] G (fun r G => r = 7 ∧ Q 0 G) := by
  unfold PX13_event_43 at h
  unfold vX13_event_43
  exact g_ret0 ⟨rfl, h⟩
def PX13_event_0 (a1 : Int) (a2 : Int) (G : gS) (Q : Int → gS → Prop) : Prop :=
  (inI (G 16081 134) → ((G 16081 134 = 0 → ((a2 = 8 → PX13_event_43 a1 a2 G Q) ∧ (¬ (a2 = 8) → (inI (G 16081 136) → ((0 : Int) ≤ a1 ∧ ((a1 : Int) < 216 ∧ (inI (G 16189 a1) → ((0 : Int) ≤ G 16081 136 ∧ ((G 16081 136 : Int) < 600 ∧ (inI ((100 * (G 16189 a1)) + a2) ∧ (∀ G11 : gS, G11 = uG G 16192 (G 16081 136) ((100 * (G 16189 a1)) + a2) → (inI (G11 16081 136) → (inI ((G11 16081 136) + 1) ∧ (∀ G14 : gS, G14 = uG G11 16081 136 ((G11 16081 136) + 1) → PX13_event_43 a1 a2 G14 Q)))))))))))))) ∧ (¬ (G 16081 134 = 0) → PX13_event_43 a1 a2 G Q)))
set_option maxRecDepth 20000 in
theorem TX13_event_0 {a1 : Int} {a2 : Int} {G : gS} {Q : Int → gS → Prop} (ha1 : inI a1) (ha2 : inI a2) (h : PX13_event_0 a1 a2 G Q) : Tg W0 vX13_event_0 [rf (16081), cI (a1), cI (a2)] [] G (fun r G => r = 7 ∧ Q 0 G) := by
  unfold PX13_event_0 at h
  unfold vX13_event_0
  refine g_ld (v := rf _) rfl (is_R _) ?_
  refine g_getI (kz := 134) oC13 rfl (Nat.le_of_ble_eq_true rfl) rfl fun i1 => ?_
  replace h := h i1
  refine g_eq1 i1 (fun b2 => ?_) (fun b2 => ?_)
  · replace h := h.1 b2
    unfold vX13_event_7
    refine g_ld (v := cI _) rfl (is_I _) ?_
    refine g_const (v := cI (8)) rfl ?_
    refine g_eq2 ha2 ⟨by omega, by omega⟩ (fun b3 => ?_) (fun b3 => ?_)
    · replace h := h.1 b3
      exact TX13_event_43 ha1 ha2 h
    · replace h := h.2 b3
      unfold vX13_event_13
      refine g_ld (v := rf _) rfl (is_R _) ?_
      refine g_getF (v := 16192) oC13 (hC13_135) rfl (Nat.le_of_ble_eq_true rfl) (Nat.le_of_ble_eq_true rfl) ?_
      refine g_ld (v := rf _) rfl (is_R _) ?_
      refine g_getI (kz := 136) oC13 rfl (Nat.le_of_ble_eq_true rfl) rfl fun i4 => ?_
      replace h := h i4
      refine g_const (v := cI (100)) rfl ?_
      refine g_ld (v := rf _) rfl (is_R _) ?_
      refine g_getF (v := 16189) oC13 (hC13_131) rfl (Nat.le_of_ble_eq_true rfl) (Nat.le_of_ble_eq_true rfl) ?_
      refine g_ld (v := cI _) rfl (is_I _) ?_
      obtain ⟨q5, q6, h⟩ := h
      refine g_aldI aC16189 q5 q6 rfl fun i7 => ?_
      replace h := h i7
      refine g_mul ?_
      refine g_ld (v := cI _) rfl (is_I _) ?_
      refine g_add ?_
      obtain ⟨q8, q9, h⟩ := h
      obtain ⟨q10, h⟩ := h
      refine g_astI aC16192 q8 q9 q10 (nfI aC16192) ?_
      replace h := h _ rfl
      refine g_ld (v := rf _) rfl (is_R _) ?_
      refine g_dup (ct_R _) ?_
      refine g_getI (kz := 136) oC13 rfl (Nat.le_of_ble_eq_true rfl) rfl fun i12 => ?_
      replace h := h i12
      refine g_const (v := cI (1)) rfl ?_
      refine g_add ?_
      obtain ⟨q13, h⟩ := h
      refine g_putI (kz := 136) oC13 rfl (Nat.le_of_ble_eq_true rfl) rfl q13 (zfin_no (c := 16081) (j := 136) rfl) ?_
      replace h := h _ rfl
      exact TX13_event_43 ha1 ha2 h
  · replace h := h.2 b2
    exact TX13_event_43 ha1 ha2 h
abbrev PX13_event (a1 : Int) (a2 : Int) (G : gS) (Q : Int → gS → Prop) : Prop := PX13_event_0 a1 a2 G Q
theorem TX13_event {a1 : Int} {a2 : Int} {G : gS} {Q : Int → gS → Prop} (ha1 : inI a1) (ha2 : inI a2) (h : PX13_event a1 a2 G Q) : Tn W0 FX13_event [rf (16081), cI (a1), cI (a2)] G (fun r G => r = 7 ∧ Q 0 G) := by
  unfold FX13_event
  refine g_ent (lv' := [rf (16081), cI (a1), cI (a2)]) (flR (flI (flI fl0))) (Nat.le_of_ble_eq_true rfl) rfl ?_
  exact TX13_event_0 ha1 ha2 h
def PX13_becomes_0 (a1 : Int) (a2 : Int) (a3 : Int) (G : gS) (Q : Int → gS → Prop) : Prop :=
  (inI (G 16081 134) → ((0 : Int) ≤ a1 ∧ ((a1 : Int) < 216 ∧ (inI (G 16189 a1) → ((0 : Int) ≤ (G 16081 134) + (G 16189 a1) ∧ (((G 16081 134) + (G 16189 a1) : Int) < 128 ∧ (∀ G7 : gS, G7 = uG G 16190 ((G 16081 134) + (G 16189 a1)) (a2) → (inI (G7 16081 134) → ((0 : Int) ≤ a1 ∧ ((a1 : Int) < 216 ∧ (inI (G7 16189 a1) → ((0 : Int) ≤ (G7 16081 134) + (G7 16189 a1) ∧ (((G7 16081 134) + (G7 16189 a1) : Int) < 128 ∧ (∀ G14 : gS, G14 = uG G7 16191 ((G7 16081 134) + (G7 16189 a1)) (a3) → PX13_event a1 a2 G14 (fun _ G15 => Q 0 G15)))))))))))))))
set_option maxRecDepth 20000 in
theorem TX13_becomes_0 {a1 : Int} {a2 : Int} {a3 : Int} {G : gS} {Q : Int → gS → Prop} (ha1 : inI a1) (ha2 : inI a2) (ha3 : inI a3) (h : PX13_becomes_0 a1 a2 a3 G Q) : Tg W0 vX13_becomes_0 [rf (16081), cI (a1), cI (a2), cI (a3)] [] G (fun r G => r = 7 ∧ Q 0 G) := by
  unfold PX13_becomes_0 at h
  unfold vX13_becomes_0
  refine g_ld (v := rf _) rfl (is_R _) ?_
  refine g_getF (v := 16190) oC13 (hC13_132) rfl (Nat.le_of_ble_eq_true rfl) (Nat.le_of_ble_eq_true rfl) ?_
  refine g_ld (v := rf _) rfl (is_R _) ?_
  refine g_getI (kz := 134) oC13 rfl (Nat.le_of_ble_eq_true rfl) rfl fun i1 => ?_
  replace h := h i1
  refine g_ld (v := rf _) rfl (is_R _) ?_
  refine g_getF (v := 16189) oC13 (hC13_131) rfl (Nat.le_of_ble_eq_true rfl) (Nat.le_of_ble_eq_true rfl) ?_
  refine g_ld (v := cI _) rfl (is_I _) ?_
  obtain ⟨q2, q3, h⟩ := h
  refine g_aldI aC16189 q2 q3 rfl fun i4 => ?_
  replace h := h i4
  refine g_add ?_
  refine g_ld (v := cI _) rfl (is_I _) ?_
  obtain ⟨q5, q6, h⟩ := h
  refine g_astI aC16190 q5 q6 ha2 (nfI aC16190) ?_
  replace h := h _ rfl
  refine g_ld (v := rf _) rfl (is_R _) ?_
  refine g_getF (v := 16191) oC13 (hC13_133) rfl (Nat.le_of_ble_eq_true rfl) (Nat.le_of_ble_eq_true rfl) ?_
  refine g_ld (v := rf _) rfl (is_R _) ?_
  refine g_getI (kz := 134) oC13 rfl (Nat.le_of_ble_eq_true rfl) rfl fun i8 => ?_
  replace h := h i8
  refine g_ld (v := rf _) rfl (is_R _) ?_
  refine g_getF (v := 16189) oC13 (hC13_131) rfl (Nat.le_of_ble_eq_true rfl) (Nat.le_of_ble_eq_true rfl) ?_
  refine g_ld (v := cI _) rfl (is_I _) ?_
  obtain ⟨q9, q10, h⟩ := h
  refine g_aldI aC16189 q9 q10 rfl fun i11 => ?_
  replace h := h i11
  refine g_add ?_
  refine g_ld (v := cI _) rfl (is_I _) ?_
  obtain ⟨q12, q13, h⟩ := h
  refine g_astI aC16191 q12 q13 ha3 (nfI aC16191) ?_
  replace h := h _ rfl
  refine g_ld (v := rf _) rfl (is_R _) ?_
  refine g_ld (v := cI _) rfl (is_I _) ?_
  unfold vX13_becomes_36
  refine g_ld (v := cI _) rfl (is_I _) ?_
  refine g_callV (As := [_, _]) (ci := 13) oC13 (fun _ => rfl) ?_
  refine g_go0 (Nat.le_of_ble_eq_true rfl) (Tn_w (TX13_event ha1 ha2 h) fun _ G15 ⟨e, h⟩ => ⟨e, ?_⟩)
  exact g_ret0 ⟨rfl, h⟩
abbrev PX13_becomes (a1 : Int) (a2 : Int) (a3 : Int) (G : gS) (Q : Int → gS → Prop) : Prop := PX13_becomes_0 a1 a2 a3 G Q
theorem TX13_becomes {a1 : Int} {a2 : Int} {a3 : Int} {G : gS} {Q : Int → gS → Prop} (ha1 : inI a1) (ha2 : inI a2) (ha3 : inI a3) (h : PX13_becomes a1 a2 a3 G Q) : Tn W0 FX13_becomes [rf (16081), cI (a1), cI (a2), cI (a3)] G (fun r G => r = 7 ∧ Q 0 G) := by
  unfold FX13_becomes
  refine g_ent (lv' := [rf (16081), cI (a1), cI (a2), cI (a3)]) (flR (flI (flI (flI fl0)))) (Nat.le_of_ble_eq_true rfl) rfl ?_
  exact TX13_becomes_0 ha1 ha2 ha3 h
def PX13_letsBelow_49 (l1 : Int) (l2 : Int) (s0 : Int) (G : gS) (Q : Int → gS → Prop) : Prop :=
  ((0 ≤ s0 ∧ s0 ≤ 1) ∧ Q (s0) G)
set_option maxRecDepth 20000 in
theorem TX13_letsBelow_49 {l1 : Int} {l2 : Int} {s0 : Int} {G : gS} {Q : Int → gS → Prop} (hl1 : inI l1) (hl2 : inI l2) (hs0 : inI s0) (h : PX13_letsBelow_49 l1 l2 s0 G Q) : Tg W0 vX13_letsBelow_49 [rf (16081), cI (l1), cI (l2)] [cI (s0)] G (fun r G => ∃ v, r = cI v ∧ (0 ≤ v ∧ v ≤ 1) ∧ Q v G) := by
  unfold PX13_letsBelow_49 at h
  unfold vX13_letsBelow_49
  obtain ⟨q20, h⟩ := h
  exact g_ret1 (is_Z q20) ⟨_, rfl, q20, h⟩
def PX13_letsBelow_48 (l1 : Int) (l2 : Int) (G : gS) (Q : Int → gS → Prop) : Prop :=
  PX13_letsBelow_49 l1 l2 0 G Q
set_option maxRecDepth 20000 in
theorem TX13_letsBelow_48 {l1 : Int} {l2 : Int} {G : gS} {Q : Int → gS → Prop} (hl1 : inI l1) (hl2 : inI l2) (h : PX13_letsBelow_48 l1 l2 G Q) : Tg W0 vX13_letsBelow_48 [rf (16081), cI (l1), cI (l2)] [] G (fun r G => ∃ v, r = cI v ∧ (0 ≤ v ∧ v ≤ 1) ∧ Q v G) := by
  unfold PX13_letsBelow_48 at h
  unfold vX13_letsBelow_48
  refine g_const (v := cI (0)) rfl ?_
  exact TX13_letsBelow_49 hl1 hl2 ⟨by omega, by omega⟩ h
def PX13_letsBelow_44 (l1 : Int) (l2 : Int) (G : gS) (Q : Int → gS → Prop) : Prop :=
  PX13_letsBelow_49 l1 l2 1 G Q
set_option maxRecDepth 20000 in
theorem TX13_letsBelow_44 {l1 : Int} {l2 : Int} {G : gS} {Q : Int → gS → Prop} (hl1 : inI l1) (hl2 : inI l2) (h : PX13_letsBelow_44 l1 l2 G Q) : Tg W0 vX13_letsBelow_44 [rf (16081), cI (l1), cI (l2)] [] G (fun r G => ∃ v, r = cI v ∧ (0 ≤ v ∧ v ≤ 1) ∧ Q v G) := by
  unfold PX13_letsBelow_44 at h
  unfold vX13_letsBelow_44
  refine g_const (v := cI (1)) rfl ?_
  exact TX13_letsBelow_49 hl1 hl2 ⟨by omega, by omega⟩ h
def PX13_letsBelow_0 (a1 : Int) (a2 : Int) (G : gS) (Q : Int → gS → Prop) : Prop :=
  PX13_isLet a1 a2 G (fun r2 G1 => (0 ≤ r2 ∧ r2 ≤ 1) → ((r2 = 0 → PX13_letsBelow_48 a1 a2 G1 Q) ∧ (¬ (r2 = 0) → ((0 : Int) ≤ a1 ∧ ((a1 : Int) < 216 ∧ (inI (G1 16114 a1) → ((G1 16114 a1 = 0 → PX13_letsBelow_44 a1 a2 G1 Q) ∧ (¬ (G1 16114 a1 = 0) → ((0 : Int) ≤ a1 ∧ ((a1 : Int) < 216 ∧ (inI (G1 16114 a1) → ((0 : Int) ≤ a2 ∧ ((a2 : Int) < 216 ∧ (inL (G1 16098 a2) → (inI (8 * a1) ∧ PX13_stands 16112 (8 * a1) (G1 16114 a1) (G1 16098 a2) G1 (fun r17 G16 => (0 ≤ r17 ∧ r17 ≤ 1) → ((r17 = 0 → PX13_letsBelow_48 a1 a2 G16 Q) ∧ (¬ (r17 = 0) → PX13_letsBelow_44 a1 a2 G16 Q))))))))))))))))))
set_option maxRecDepth 20000 in
theorem TX13_letsBelow_0 {a1 : Int} {a2 : Int} {G : gS} {Q : Int → gS → Prop} (ha1 : inI a1) (ha2 : inI a2) (h : PX13_letsBelow_0 a1 a2 G Q) : Tg W0 vX13_letsBelow_0 [rf (16081), cI (a1), cI (a2)] [] G (fun r G => ∃ v, r = cI v ∧ (0 ≤ v ∧ v ≤ 1) ∧ Q v G) := by
  unfold PX13_letsBelow_0 at h
  unfold vX13_letsBelow_0
  refine g_ld (v := rf _) rfl (is_R _) ?_
  refine g_ld (v := cI _) rfl (is_I _) ?_
  refine g_ld (v := cI _) rfl (is_I _) ?_
  refine g_callV (As := [_, _]) (ci := 13) oC13 (fun _ => rfl) ?_
  refine g_go1 (Nat.le_of_ble_eq_true rfl) (Tn_w (TX13_isLet ha1 ha2 h) fun _ G1 ⟨r2, e, i3, h⟩ => ?_)
  subst e
  refine ⟨n7_I _, ?_⟩
  replace h := h i3
  refine g_eq1 ⟨by omega, by omega⟩ (fun b4 => ?_) (fun b4 => ?_)
  · replace h := h.1 b4
    exact TX13_letsBelow_48 ha1 ha2 h
  · replace h := h.2 b4
    unfold vX13_letsBelow_9
    refine g_ld (v := rf _) rfl (is_R _) ?_
    refine g_getF (v := 16114) oC13 (hC13_40) rfl (Nat.le_of_ble_eq_true rfl) (Nat.le_of_ble_eq_true rfl) ?_
    refine g_ld (v := cI _) rfl (is_I _) ?_
    obtain ⟨q5, q6, h⟩ := h
    refine g_aldI aC16114 q5 q6 rfl fun i7 => ?_
    replace h := h i7
    refine g_eq1 i7 (fun b8 => ?_) (fun b8 => ?_)
    · replace h := h.1 b8
      exact TX13_letsBelow_44 ha1 ha2 h
    · replace h := h.2 b8
      unfold vX13_letsBelow_18
      refine g_ld (v := rf _) rfl (is_R _) ?_
      refine g_getF (v := 16112) oC13 (hC13_38) rfl (Nat.le_of_ble_eq_true rfl) (Nat.le_of_ble_eq_true rfl) ?_
      refine g_const (v := cI (8)) rfl ?_
      refine g_ld (v := cI _) rfl (is_I _) ?_
      refine g_mul ?_
      refine g_ld (v := rf _) rfl (is_R _) ?_
      refine g_getF (v := 16114) oC13 (hC13_40) rfl (Nat.le_of_ble_eq_true rfl) (Nat.le_of_ble_eq_true rfl) ?_
      refine g_ld (v := cI _) rfl (is_I _) ?_
      obtain ⟨q9, q10, h⟩ := h
      refine g_aldI aC16114 q9 q10 rfl fun i11 => ?_
      replace h := h i11
      refine g_ld (v := rf _) rfl (is_R _) ?_
      refine g_getF (v := 16098) oC13 (hC13_24) rfl (Nat.le_of_ble_eq_true rfl) (Nat.le_of_ble_eq_true rfl) ?_
      refine g_ld (v := cI _) rfl (is_I _) ?_
      obtain ⟨q12, q13, h⟩ := h
      refine g_aldL aC16098 q12 q13 rfl fun i14 => ?_
      replace h := h i14
      obtain ⟨q15, h⟩ := h
      refine g_callS (As := [_, _, _, _]) (fun _ => rfl) ?_
      refine g_go1 (Nat.le_of_ble_eq_true rfl) (Tn_w (TX13_stands q15 i11 i14 h) fun _ G16 ⟨r17, e, i18, h⟩ => ?_)
      subst e
      refine ⟨n7_I _, ?_⟩
      replace h := h i18
      refine g_eq1 ⟨by omega, by omega⟩ (fun b19 => ?_) (fun b19 => ?_)
      · replace h := h.1 b19
        exact TX13_letsBelow_48 ha1 ha2 h
      · replace h := h.2 b19
        exact TX13_letsBelow_44 ha1 ha2 h
abbrev PX13_letsBelow (a1 : Int) (a2 : Int) (G : gS) (Q : Int → gS → Prop) : Prop := PX13_letsBelow_0 a1 a2 G Q
theorem TX13_letsBelow {a1 : Int} {a2 : Int} {G : gS} {Q : Int → gS → Prop} (ha1 : inI a1) (ha2 : inI a2) (h : PX13_letsBelow a1 a2 G Q) : Tn W0 FX13_letsBelow [rf (16081), cI (a1), cI (a2)] G (fun r G => ∃ v, r = cI v ∧ (0 ≤ v ∧ v ≤ 1) ∧ Q v G) := by
  unfold FX13_letsBelow
  refine g_ent (lv' := [rf (16081), cI (a1), cI (a2)]) (flR (flI (flI fl0))) (Nat.le_of_ble_eq_true rfl) rfl ?_
  exact TX13_letsBelow_0 ha1 ha2 h
def PX13_stateOf_0 (a1 : Int) (G : gS) (Q : Int → gS → Prop) : Prop :=
  (inI (G 16081 134) → ((0 : Int) ≤ a1 ∧ ((a1 : Int) < 216 ∧ (inI (G 16189 a1) → ((0 : Int) ≤ (G 16081 134) + (G 16189 a1) ∧ (((G 16081 134) + (G 16189 a1) : Int) < 128 ∧ (inI (G 16190 ((G 16081 134) + (G 16189 a1))) → Q (G 16190 ((G 16081 134) + (G 16189 a1))) G)))))))
set_option maxRecDepth 20000 in
theorem TX13_stateOf_0 {a1 : Int} {G : gS} {Q : Int → gS → Prop} (ha1 : inI a1) (h : PX13_stateOf_0 a1 G Q) : Tg W0 vX13_stateOf_0 [rf (16081), cI (a1)] [] G (fun r G => ∃ v, r = cI v ∧ inI v ∧ Q v G) := by
  unfold PX13_stateOf_0 at h
  unfold vX13_stateOf_0
  refine g_ld (v := rf _) rfl (is_R _) ?_
  refine g_getF (v := 16190) oC13 (hC13_132) rfl (Nat.le_of_ble_eq_true rfl) (Nat.le_of_ble_eq_true rfl) ?_
  refine g_ld (v := rf _) rfl (is_R _) ?_
  refine g_getI (kz := 134) oC13 rfl (Nat.le_of_ble_eq_true rfl) rfl fun i1 => ?_
  replace h := h i1
  refine g_ld (v := rf _) rfl (is_R _) ?_
  refine g_getF (v := 16189) oC13 (hC13_131) rfl (Nat.le_of_ble_eq_true rfl) (Nat.le_of_ble_eq_true rfl) ?_
  refine g_ld (v := cI _) rfl (is_I _) ?_
  obtain ⟨q2, q3, h⟩ := h
  refine g_aldI aC16189 q2 q3 rfl fun i4 => ?_
  replace h := h i4
  refine g_add ?_
  obtain ⟨q5, q6, h⟩ := h
  refine g_aldI aC16190 q5 q6 rfl fun i7 => ?_
  replace h := h i7
  exact g_ret1 (is_I _) ⟨_, rfl, i7, h⟩
abbrev PX13_stateOf (a1 : Int) (G : gS) (Q : Int → gS → Prop) : Prop := PX13_stateOf_0 a1 G Q
theorem TX13_stateOf {a1 : Int} {G : gS} {Q : Int → gS → Prop} (ha1 : inI a1) (h : PX13_stateOf a1 G Q) : Tn W0 FX13_stateOf [rf (16081), cI (a1)] G (fun r G => ∃ v, r = cI v ∧ inI v ∧ Q v G) := by
  unfold FX13_stateOf
  refine g_ent (lv' := [rf (16081), cI (a1)]) (flR (flI fl0)) (Nat.le_of_ble_eq_true rfl) rfl ?_
  exact TX13_stateOf_0 ha1 h
def PX13_ownField_68 (J : Nat → List Int → gS → (Int → gS → Prop) → Prop) (l1 : Int) (l2 : Int) (l4 : Int) (l6 : Int) (l7 : Int) (G : gS) (Q : Int → gS → Prop) : Prop :=
  (inI (l6 + 1) ∧ J 0 [l1, l2, l4, l6 + 1] G Q)
set_option maxRecDepth 20000 in
theorem TX13_ownField_68 {j : Nat → rx_K} {J : Nat → List Int → gS → (Int → gS → Prop) → Prop} {l1 : Int} {l2 : Int} {l3 : Nat} {l4 : Int} {l5 : Nat} {l6 : Int} {l7 : Int} {G : gS} {Q : Int → gS → Prop} (hl1 : inI l1) (hl2 : inL l2) (hl3 : l3 % 8 ≠ 1) (hl4 : inL l4) (hl5 : l5 % 8 ≠ 1) (hl6 : inI l6) (hl7 : inI l7) (hj0 : ∀ (l1 : Int) (l2 : Int) (l3 : Nat) (l4 : Int) (l5 : Nat) (l6 : Int) (l7 : Nat) (G : gS), (inI l1) → (inL l2) → (l3 % 8 ≠ 1) → (inL l4) → (l5 % 8 ≠ 1) → (inI l6) → (l7 % 8 ≠ 1) → J 0 [l1, l2, l4, l6] G Q → Tg W0 (j 0) [rf (16081), cI (l1), cL (l2), l3, cL (l4), l5, cI (l6), l7] [] G (fun r G => ∃ v, r = cI v ∧ inI v ∧ Q v G)) (h : PX13_ownField_68 J l1 l2 l4 l6 l7 G Q) : Tg W0 (vX13_ownField_68 j) [rf (16081), cI (l1), cL (l2), l3, cL (l4), l5, cI (l6), cI (l7)] [] G (fun r G => ∃ v, r = cI v ∧ inI v ∧ Q v G) := by
  unfold PX13_ownField_68 at h
  unfold vX13_ownField_68
  refine g_inc (lv' := [_, _, _, _, _, _, _, _]) rfl (Nat.le_of_ble_eq_true rfl) (Or.inr hl5) rfl ?_
  obtain ⟨q19, h⟩ := h
  exact hj0 _ _ _ _ _ _ _ _ hl1 hl2 hl3 hl4 hl5 q19 (n1_I _) h
def PX13_ownField_65 (J : Nat → List Int → gS → (Int → gS → Prop) → Prop) (l1 : Int) (l2 : Int) (l4 : Int) (l6 : Int) (l7 : Int) (G : gS) (Q : Int → gS → Prop) : Prop :=
  Q (l7) G
set_option maxRecDepth 20000 in
theorem TX13_ownField_65 {j : Nat → rx_K} {J : Nat → List Int → gS → (Int → gS → Prop) → Prop} {l1 : Int} {l2 : Int} {l3 : Nat} {l4 : Int} {l5 : Nat} {l6 : Int} {l7 : Int} {G : gS} {Q : Int → gS → Prop} (hl1 : inI l1) (hl2 : inL l2) (hl3 : l3 % 8 ≠ 1) (hl4 : inL l4) (hl5 : l5 % 8 ≠ 1) (hl6 : inI l6) (hl7 : inI l7) (hj0 : ∀ (l1 : Int) (l2 : Int) (l3 : Nat) (l4 : Int) (l5 : Nat) (l6 : Int) (l7 : Nat) (G : gS), (inI l1) → (inL l2) → (l3 % 8 ≠ 1) → (inL l4) → (l5 % 8 ≠ 1) → (inI l6) → (l7 % 8 ≠ 1) → J 0 [l1, l2, l4, l6] G Q → Tg W0 (j 0) [rf (16081), cI (l1), cL (l2), l3, cL (l4), l5, cI (l6), l7] [] G (fun r G => ∃ v, r = cI v ∧ inI v ∧ Q v G)) (h : PX13_ownField_65 J l1 l2 l4 l6 l7 G Q) : Tg W0 (vX13_ownField_65 j) [rf (16081), cI (l1), cL (l2), l3, cL (l4), l5, cI (l6), cI (l7)] [] G (fun r G => ∃ v, r = cI v ∧ inI v ∧ Q v G) := by
  unfold PX13_ownField_65 at h
  unfold vX13_ownField_65
  refine g_ld (v := cI _) rfl (is_I _) ?_
  exact g_ret1 (is_I _) ⟨_, rfl, hl7, h⟩
def PX13_ownField_3 (J : Nat → List Int → gS → (Int → gS → Prop) → Prop) (l1 : Int) (l2 : Int) (l4 : Int) (l6 : Int) (G : gS) (Q : Int → gS → Prop) : Prop :=
  ((0 : Int) ≤ l1 ∧ ((l1 : Int) < 216 ∧ (inI (G 16115 l1) → ((l6 < G 16115 l1 → (inI ((l1 * 34) + l6) ∧ ((0 : Int) ≤ (l1 * 34) + l6 ∧ (((l1 * 34) + l6 : Int) < 7344 ∧ (inI (G 16116 ((l1 * 34) + l6)) → ((G 16116 ((l1 * 34) + l6) = 0 → ((0 : Int) ≤ (l1 * 34) + l6 ∧ (((l1 * 34) + l6 : Int) < 7344 ∧ (inL (G 16125 ((l1 * 34) + l6)) → ((G 16125 ((l1 * 34) + l6) = l2 → ((l4 = 0 → PX13_ownField_65 J l1 l2 l4 l6 ((l1 * 34) + l6) G Q) ∧ (¬ (l4 = 0) → ((0 : Int) ≤ (l1 * 34) + l6 ∧ (((l1 * 34) + l6 : Int) < 7344 ∧ (inL (G 16127 ((l1 * 34) + l6)) → ((G 16127 ((l1 * 34) + l6) = l4 → PX13_ownField_65 J l1 l2 l4 l6 ((l1 * 34) + l6) G Q) ∧ (¬ (G 16127 ((l1 * 34) + l6) = l4) → PX13_ownField_68 J l1 l2 l4 l6 ((l1 * 34) + l6) G Q)))))))) ∧ (¬ (G 16125 ((l1 * 34) + l6) = l2) → PX13_ownField_68 J l1 l2 l4 l6 ((l1 * 34) + l6) G Q)))))) ∧ (¬ (G 16116 ((l1 * 34) + l6) = 0) → PX13_ownField_68 J l1 l2 l4 l6 ((l1 * 34) + l6) G Q))))))) ∧ (¬ (l6 < G 16115 l1) → Q (-2) G)))))
set_option maxRecDepth 20000 in
theorem TX13_ownField_3 {j : Nat → rx_K} {J : Nat → List Int → gS → (Int → gS → Prop) → Prop} {l1 : Int} {l2 : Int} {l3 : Nat} {l4 : Int} {l5 : Nat} {l6 : Int} {l7 : Nat} {G : gS} {Q : Int → gS → Prop} (hl1 : inI l1) (hl2 : inL l2) (hl3 : l3 % 8 ≠ 1) (hl4 : inL l4) (hl5 : l5 % 8 ≠ 1) (hl6 : inI l6) (hl7 : l7 % 8 ≠ 1) (hj0 : ∀ (l1 : Int) (l2 : Int) (l3 : Nat) (l4 : Int) (l5 : Nat) (l6 : Int) (l7 : Nat) (G : gS), (inI l1) → (inL l2) → (l3 % 8 ≠ 1) → (inL l4) → (l5 % 8 ≠ 1) → (inI l6) → (l7 % 8 ≠ 1) → J 0 [l1, l2, l4, l6] G Q → Tg W0 (j 0) [rf (16081), cI (l1), cL (l2), l3, cL (l4), l5, cI (l6), l7] [] G (fun r G => ∃ v, r = cI v ∧ inI v ∧ Q v G)) (h : PX13_ownField_3 J l1 l2 l4 l6 G Q) : Tg W0 (vX13_ownField_3 j) [rf (16081), cI (l1), cL (l2), l3, cL (l4), l5, cI (l6), l7] [] G (fun r G => ∃ v, r = cI v ∧ inI v ∧ Q v G) := by
  unfold PX13_ownField_3 at h
  unfold vX13_ownField_3
  refine g_ld (v := cI _) rfl (is_I _) ?_
  refine g_ld (v := rf _) rfl (is_R _) ?_
  refine g_getF (v := 16115) oC13 (hC13_41) rfl (Nat.le_of_ble_eq_true rfl) (Nat.le_of_ble_eq_true rfl) ?_
  refine g_ld (v := cI _) rfl (is_I _) ?_
  obtain ⟨q1, q2, h⟩ := h
  refine g_aldI aC16115 q1 q2 rfl fun i3 => ?_
  replace h := h i3
  refine g_lt2 hl6 i3 (fun b4 => ?_) (fun b4 => ?_)
  · replace h := h.1 b4
    unfold vX13_ownField_14
    refine g_ld (v := cI _) rfl (is_I _) ?_
    refine g_const (v := cI (34)) rfl ?_
    refine g_mul ?_
    refine g_ld (v := cI _) rfl (is_I _) ?_
    refine g_add ?_
    refine g_st (lv' := [_, _, _, _, _, _, _, _]) (is_I _) (Nat.le_of_ble_eq_true rfl) (Or.inr (n1_I _)) rfl ?_
    obtain ⟨q5, h⟩ := h
    refine g_ld (v := rf _) rfl (is_R _) ?_
    refine g_getF (v := 16116) oC13 (hC13_42) rfl (Nat.le_of_ble_eq_true rfl) (Nat.le_of_ble_eq_true rfl) ?_
    refine g_ld (v := cI _) rfl (is_I _) ?_
    obtain ⟨q6, q7, h⟩ := h
    refine g_aldI aC16116 q6 q7 rfl fun i8 => ?_
    replace h := h i8
    refine g_eq1 i8 (fun b9 => ?_) (fun b9 => ?_)
    · replace h := h.1 b9
      unfold vX13_ownField_33
      refine g_ld (v := rf _) rfl (is_R _) ?_
      refine g_getF (v := 16125) oC13 (hC13_51) rfl (Nat.le_of_ble_eq_true rfl) (Nat.le_of_ble_eq_true rfl) ?_
      refine g_ld (v := cI _) rfl (is_I _) ?_
      obtain ⟨q10, q11, h⟩ := h
      refine g_aldL aC16125 q10 q11 rfl fun i12 => ?_
      replace h := h i12
      refine g_ld (v := cL _) rfl (is_L _) ?_
      refine g_leq i12 hl2 (fun b13 => ?_) (fun b13 => ?_)
      · replace h := h.1 b13
        unfold vX13_ownField_45
        refine g_ld (v := cL _) rfl (is_L _) ?_
        refine g_const (v := cL (0)) rfl ?_
        refine g_leq hl4 ⟨by omega, by omega⟩ (fun b14 => ?_) (fun b14 => ?_)
        · replace h := h.1 b14
          exact TX13_ownField_65 hl1 hl2 hl3 hl4 hl5 hl6 q5 hj0 h
        · replace h := h.2 b14
          unfold vX13_ownField_52
          refine g_ld (v := rf _) rfl (is_R _) ?_
          refine g_getF (v := 16127) oC13 (hC13_53) rfl (Nat.le_of_ble_eq_true rfl) (Nat.le_of_ble_eq_true rfl) ?_
          refine g_ld (v := cI _) rfl (is_I _) ?_
          obtain ⟨q15, q16, h⟩ := h
          refine g_aldL aC16127 q15 q16 rfl fun i17 => ?_
          replace h := h i17
          refine g_ld (v := cL _) rfl (is_L _) ?_
          refine g_leq i17 hl4 (fun b18 => ?_) (fun b18 => ?_)
          · replace h := h.1 b18
            exact TX13_ownField_65 hl1 hl2 hl3 hl4 hl5 hl6 q5 hj0 h
          · replace h := h.2 b18
            exact TX13_ownField_68 hl1 hl2 hl3 hl4 hl5 hl6 q5 hj0 h
      · replace h := h.2 b13
        exact TX13_ownField_68 hl1 hl2 hl3 hl4 hl5 hl6 q5 hj0 h
    · replace h := h.2 b9
      exact TX13_ownField_68 hl1 hl2 hl3 hl4 hl5 hl6 q5 hj0 h
  · replace h := h.2 b4
    unfold vX13_ownField_74
    refine g_const (v := cI (-2)) rfl ?_
    exact g_ret1 (is_I _) ⟨_, rfl, ⟨by omega, by omega⟩, h⟩
def PX13_ownField_0 (J : Nat → List Int → gS → (Int → gS → Prop) → Prop) (a1 : Int) (a2 : Int) (a4 : Int) (G : gS) (Q : Int → gS → Prop) : Prop :=
  PX13_ownField_3 J a1 a2 a4 0 G Q
set_option maxRecDepth 20000 in
theorem TX13_ownField_0 {j : Nat → rx_K} {J : Nat → List Int → gS → (Int → gS → Prop) → Prop} {a1 : Int} {a2 : Int} {a4 : Int} {G : gS} {Q : Int → gS → Prop} (ha1 : inI a1) (ha2 : inL a2) (ha4 : inL a4) (hj0 : ∀ (l1 : Int) (l2 : Int) (l3 : Nat) (l4 : Int) (l5 : Nat) (l6 : Int) (l7 : Nat) (G : gS), (inI l1) → (inL l2) → (l3 % 8 ≠ 1) → (inL l4) → (l5 % 8 ≠ 1) → (inI l6) → (l7 % 8 ≠ 1) → J 0 [l1, l2, l4, l6] G Q → Tg W0 (j 0) [rf (16081), cI (l1), cL (l2), l3, cL (l4), l5, cI (l6), l7] [] G (fun r G => ∃ v, r = cI v ∧ inI v ∧ Q v G)) (h : PX13_ownField_0 J a1 a2 a4 G Q) : Tg W0 (vX13_ownField_0 j) [rf (16081), cI (a1), cL (a2), 7, cL (a4), 7, 7, 7] [] G (fun r G => ∃ v, r = cI v ∧ inI v ∧ Q v G) := by
  unfold PX13_ownField_0 at h
  unfold vX13_ownField_0
  refine g_const (v := cI (0)) rfl ?_
  refine g_st (lv' := [_, _, _, _, _, _, _, _]) (is_I _) (Nat.le_of_ble_eq_true rfl) (Or.inr (show 7 % 8 ≠ 1 by decide)) rfl ?_
  exact TX13_ownField_3 ha1 ha2 (show 7 % 8 ≠ 1 by decide) ha4 (show 7 % 8 ≠ 1 by decide) ⟨by omega, by omega⟩ (show 7 % 8 ≠ 1 by decide) hj0 h
def PX13_ownField_J : Nat → Nat → List Int → gS → (Int → gS → Prop) → Prop
  | 0, _, _, _, _ => False
  | f + 1, h, L, G, Q => match h, L with
    | 0, [l1, l2, l4, l6] => PX13_ownField_3 (PX13_ownField_J f) l1 l2 l4 l6 G Q
    | _, _ => False
theorem TX13_ownField_J {Q : Int → gS → Prop} : ∀ f N : Nat, f ≤ N → (∀ (l1 : Int) (l2 : Int) (l3 : Nat) (l4 : Int) (l5 : Nat) (l6 : Int) (l7 : Nat) (G : gS), (inI l1) → (inL l2) → (l3 % 8 ≠ 1) → (inL l4) → (l5 % 8 ≠ 1) → (inI l6) → (l7 % 8 ≠ 1) → (PX13_ownField_J f) 0 [l1, l2, l4, l6] G Q → Tg W0 (rx_J vhX13_ownField N 0) [rf (16081), cI (l1), cL (l2), l3, cL (l4), l5, cI (l6), l7] [] G (fun r G => ∃ v, r = cI v ∧ inI v ∧ Q v G)) := by
  intro f
  induction f with
  | zero => exact fun N _ => fun _ _ _ _ _ _ _ _ _ _ _ _ _ _ _ h => h.elim
  | succ f ih =>
    intro N hN
    obtain ⟨M, rfl⟩ : ∃ M, N = M + 1 := ⟨N - 1, by omega⟩
    have ih := ih M (by omega)
    exact fun _ _ _ _ _ _ _ _ hl1 hl2 hl3 hl4 hl5 hl6 hl7 h => show Tg W0 (vX13_ownField_3 (rx_J vhX13_ownField M)) _ _ _ _ from TX13_ownField_3 hl1 hl2 hl3 hl4 hl5 hl6 hl7 ih h
def PX13_ownField (a1 : Int) (a2 : Int) (a4 : Int) (G : gS) (Q : Int → gS → Prop) : Prop := ∃ f : Nat, f ≤ 4000000000 ∧ PX13_ownField_0 (PX13_ownField_J f) a1 a2 a4 G Q
theorem TX13_ownField {a1 : Int} {a2 : Int} {a4 : Int} {G : gS} {Q : Int → gS → Prop} (ha1 : inI a1) (ha2 : inL a2) (ha4 : inL a4) (h : PX13_ownField a1 a2 a4 G Q) : Tn W0 FX13_ownField [rf (16081), cI (a1), cL (a2), cL (a4)] G (fun r G => ∃ v, r = cI v ∧ inI v ∧ Q v G) := by
  obtain ⟨f, hf, h⟩ := h
  have hJ := TX13_ownField_J (Q := Q) f 4000000000 hf
  unfold FX13_ownField
  refine g_ent (lv' := [rf (16081), cI (a1), cL (a2), 7, cL (a4), 7, 7, 7]) (flR (flI (flL (flL fl0)))) (Nat.le_of_ble_eq_true rfl) rfl ?_
  exact TX13_ownField_0 ha1 ha2 ha4 hJ h
end DE

section DE
def PX0_consider_115 (J : Nat → List Int → gS → (Int → gS → Prop) → Prop) (l1 : Int) (l2 : Int) (l3 : Int) (l4 : Int) (G : gS) (Q : Int → gS → Prop) : Prop :=
  Q 0 G
set_option maxRecDepth 20000 in
theorem TX0_consider_115 {j : Nat → rx_K} {J : Nat → List Int → gS → (Int → gS → Prop) → Prop} {l1 : Int} {l2 : Int} {l3 : Int} {l4 : Int} {G : gS} {Q : Int → gS → Prop} (hl3 : inI l3) (hl4 : inI l4) (hj0 : ∀ (l1 : Int) (l2 : Int) (l3 : Int) (l4 : Int) (G : gS), (inI l3) → J 0 [l1, l2, l3, l4] G Q → Tg W0 (j 0) [rf (815), rf (l1), rf (l2), cI (l3), rf (l4)] [] G (fun r G => r = 7 ∧ Q 0 G)) (hj1 : ∀ (l1 : Int) (l2 : Int) (l3 : Int) (l4 : Int) (G : gS), (inI l3) → (inI l4) → J 1 [l1, l2, l3, l4] G Q → Tg W0 (j 1) [rf (815), rf (l1), rf (l2), cI (l3), cI (l4)] [] G (fun r G => r = 7 ∧ Q 0 G)) (h : PX0_consider_115 J l1 l2 l3 l4 G Q) : Tg W0 (vX0_consider_115 j) [rf (815), rf (l1), rf (l2), cI (l3), cI (l4)] [] G (fun r G => r = 7 ∧ Q 0 G) := by
  unfold PX0_consider_115 at h
  unfold vX0_consider_115
  exact g_ret0 ⟨rfl, h⟩
def PX0_consider_53 (J : Nat → List Int → gS → (Int → gS → Prop) → Prop) (l1 : Int) (l2 : Int) (l3 : Int) (l4 : Int) (G : gS) (Q : Int → gS → Prop) : Prop :=
  (inI (G 815 14) → ((l4 < G 815 14 → ((0 : Int) ≤ l4 ∧ ((l4 : Int) < 1280 ∧ (((G 818 l4 = -1 ∨ isO W0 7 (G 818 l4)) ∧ ∀ v, W0.2 818 l4 = some v → G 818 l4 = v) → (isO W0 7 (G 818 l4) ∧ PX7_sameParams (G 818 l4) l1 G (fun r24 G23 => (0 ≤ r24 ∧ r24 ≤ 1) → ((r24 = 0 → (inI (l4 + 1) ∧ J 1 [l1, l2, l3, l4 + 1] G23 Q)) ∧ (¬ (r24 = 0) → Q 0 G23)))))))) ∧ (¬ (l4 < G 815 14) → (inI (G 815 14) → ((G 815 14 < 1280 → (inI (G 815 14) → ((0 : Int) ≤ G 815 14 ∧ ((G 815 14 : Int) < 1280 ∧ (W0.2 818 (G 815 14) = none ∧ ((l1 = -1 ∨ isO W0 7 (l1)) ∧ (∀ G35 : gS, G35 = uG G 818 (G 815 14) (l1) → (inI (G35 815 14) → (inI ((G35 815 14) + 1) ∧ (∀ G38 : gS, G38 = uG G35 815 14 ((G35 815 14) + 1) → PX0_consider_115 J l1 l2 l3 l4 G38 Q)))))))))) ∧ (¬ (G 815 14 < 1280) → PX0_consider_115 J l1 l2 l3 l4 G Q))))))
set_option maxRecDepth 20000 in
theorem TX0_consider_53 {j : Nat → rx_K} {J : Nat → List Int → gS → (Int → gS → Prop) → Prop} {l1 : Int} {l2 : Int} {l3 : Int} {l4 : Int} {G : gS} {Q : Int → gS → Prop} (hl3 : inI l3) (hl4 : inI l4) (hj0 : ∀ (l1 : Int) (l2 : Int) (l3 : Int) (l4 : Int) (G : gS), (inI l3) → J 0 [l1, l2, l3, l4] G Q → Tg W0 (j 0) [rf (815), rf (l1), rf (l2), cI (l3), rf (l4)] [] G (fun r G => r = 7 ∧ Q 0 G)) (hj1 : ∀ (l1 : Int) (l2 : Int) (l3 : Int) (l4 : Int) (G : gS), (inI l3) → (inI l4) → J 1 [l1, l2, l3, l4] G Q → Tg W0 (j 1) [rf (815), rf (l1), rf (l2), cI (l3), cI (l4)] [] G (fun r G => r = 7 ∧ Q 0 G)) (h : PX0_consider_53 J l1 l2 l3 l4 G Q) : Tg W0 (vX0_consider_53 j) [rf (815), rf (l1), rf (l2), cI (l3), cI (l4)] [] G (fun r G => r = 7 ∧ Q 0 G) := by
  unfold PX0_consider_53 at h
  unfold vX0_consider_53
  refine g_ld (v := cI _) rfl (is_I _) ?_
  refine g_ld (v := rf _) rfl (is_R _) ?_
  refine g_getI (kz := 14) oC0 rfl (Nat.le_of_ble_eq_true rfl) rfl fun i17 => ?_
  replace h := h i17
  refine g_lt2 hl4 i17 (fun b18 => ?_) (fun b18 => ?_)
  · replace h := h.1 b18
    unfold vX0_consider_62
    refine g_ld (v := rf _) rfl (is_R _) ?_
    refine g_getF (v := 818) oC0 (hC0_13) rfl (Nat.le_of_ble_eq_true rfl) (Nat.le_of_ble_eq_true rfl) ?_
    refine g_ld (v := cI _) rfl (is_I _) ?_
    obtain ⟨q19, q20, h⟩ := h
    refine g_aldRF (c := 7) aC818 q19 q20 rfl (by decide) fun i21 => ?_
    replace h := h i21
    refine g_ld (v := rf _) rfl (is_R _) ?_
    obtain ⟨q22, h⟩ := h
    refine g_callV (As := [_]) (ci := 7) q22 (fun _ => rfl) ?_
    refine g_go1 (Nat.le_of_ble_eq_true rfl) (Tn_w (TX7_sameParams  h) fun _ G23 ⟨r24, e, i25, h⟩ => ?_)
    subst e
    refine ⟨n7_I _, ?_⟩
    replace h := h i25
    refine g_eq1 ⟨by omega, by omega⟩ (fun b26 => ?_) (fun b26 => ?_)
    · replace h := h.1 b26
      unfold vX0_consider_77
      refine g_inc (lv' := [_, _, _, _, _]) rfl (Nat.le_of_ble_eq_true rfl) (Or.inr (n1_I _)) rfl ?_
      obtain ⟨q27, h⟩ := h
      exact hj1 _ _ _ _ _ hl3 q27 h
    · replace h := h.2 b26
      unfold vX0_consider_76
      exact g_ret0 ⟨rfl, h⟩
  · replace h := h.2 b18
    unfold vX0_consider_83
    refine g_ld (v := rf _) rfl (is_R _) ?_
    refine g_getI (kz := 14) oC0 rfl (Nat.le_of_ble_eq_true rfl) rfl fun i28 => ?_
    replace h := h i28
    refine g_ld (v := rf _) rfl (is_R _) ?_
    refine g_getF (v := 818) oC0 (hC0_13) rfl (Nat.le_of_ble_eq_true rfl) (Nat.le_of_ble_eq_true rfl) ?_
    refine g_alen aC818 ?_
    refine g_lt2 i28 ⟨by omega, by omega⟩ (fun b29 => ?_) (fun b29 => ?_)
    · replace h := h.1 b29
      unfold vX0_consider_95
      refine g_ld (v := rf _) rfl (is_R _) ?_
      refine g_getF (v := 818) oC0 (hC0_13) rfl (Nat.le_of_ble_eq_true rfl) (Nat.le_of_ble_eq_true rfl) ?_
      refine g_ld (v := rf _) rfl (is_R _) ?_
      refine g_getI (kz := 14) oC0 rfl (Nat.le_of_ble_eq_true rfl) rfl fun i30 => ?_
      replace h := h i30
      refine g_ld (v := rf _) rfl (is_R _) ?_
      obtain ⟨q31, q32, q33, h⟩ := h
      obtain ⟨q34, h⟩ := h
      refine g_aastR (c := 7) aC818 q31 q32 rfl (by decide) q34 q33 ?_
      replace h := h _ rfl
      refine g_ld (v := rf _) rfl (is_R _) ?_
      refine g_dup (ct_R _) ?_
      refine g_getI (kz := 14) oC0 rfl (Nat.le_of_ble_eq_true rfl) rfl fun i36 => ?_
      replace h := h i36
      refine g_const (v := cI (1)) rfl ?_
      refine g_add ?_
      obtain ⟨q37, h⟩ := h
      refine g_putI (kz := 14) oC0 rfl (Nat.le_of_ble_eq_true rfl) rfl q37 (zfin_no (c := 815) (j := 14) rfl) ?_
      replace h := h _ rfl
      exact TX0_consider_115 hl3 hl4 hj0 hj1 h
    · replace h := h.2 b29
      exact TX0_consider_115 hl3 hl4 hj0 hj1 h
def PX0_consider_50 (J : Nat → List Int → gS → (Int → gS → Prop) → Prop) (l1 : Int) (l2 : Int) (l3 : Int) (l4 : Int) (G : gS) (Q : Int → gS → Prop) : Prop :=
  PX0_consider_53 J l1 l2 l3 0 G Q
set_option maxRecDepth 20000 in
theorem TX0_consider_50 {j : Nat → rx_K} {J : Nat → List Int → gS → (Int → gS → Prop) → Prop} {l1 : Int} {l2 : Int} {l3 : Int} {l4 : Int} {G : gS} {Q : Int → gS → Prop} (hl3 : inI l3) (hj0 : ∀ (l1 : Int) (l2 : Int) (l3 : Int) (l4 : Int) (G : gS), (inI l3) → J 0 [l1, l2, l3, l4] G Q → Tg W0 (j 0) [rf (815), rf (l1), rf (l2), cI (l3), rf (l4)] [] G (fun r G => r = 7 ∧ Q 0 G)) (hj1 : ∀ (l1 : Int) (l2 : Int) (l3 : Int) (l4 : Int) (G : gS), (inI l3) → (inI l4) → J 1 [l1, l2, l3, l4] G Q → Tg W0 (j 1) [rf (815), rf (l1), rf (l2), cI (l3), cI (l4)] [] G (fun r G => r = 7 ∧ Q 0 G)) (h : PX0_consider_50 J l1 l2 l3 l4 G Q) : Tg W0 (vX0_consider_50 j) [rf (815), rf (l1), rf (l2), cI (l3), rf (l4)] [] G (fun r G => r = 7 ∧ Q 0 G) := by
  unfold PX0_consider_50 at h
  unfold vX0_consider_50
  refine g_const (v := cI (0)) rfl ?_
  refine g_st (lv' := [_, _, _, _, _]) (is_I _) (Nat.le_of_ble_eq_true rfl) (Or.inr (n1_I _)) rfl ?_
  exact TX0_consider_53 hl3 ⟨by omega, by omega⟩ hj0 hj1 h
def PX0_consider_5 (J : Nat → List Int → gS → (Int → gS → Prop) → Prop) (l1 : Int) (l2 : Int) (l3 : Int) (l4 : Int) (G : gS) (Q : Int → gS → Prop) : Prop :=
  ((l4 < 0 → PX0_consider_50 J l1 l2 l3 l4 G Q) ∧ (0 ≤ l4 → ((l3 < 4 → ((G 815 0 = -1 ∨ isO W0 11 (G 815 0)) → (isO W0 8 (l4) ∧ (inL (G l4 9) → (isO W0 7 (l1) ∧ ((0 : Int) ≤ l3 ∧ ((l3 : Int) < 4 ∧ (inL (G (l1 + 1) l3) → (isO W0 11 (G 815 0) ∧ PX11_fits (G 815 0) (G l4 9) (G (l1 + 1) l3) G (fun r12 G11 => (0 ≤ r12 ∧ r12 ≤ 1) → ((r12 = 0 → Q 0 G11) ∧ (¬ (r12 = 0) → (inI (l3 + 1) ∧ ((G11 l4 8 = -1 ∨ isO W0 8 (G11 l4 8)) → J 0 [l1, l2, l3 + 1, G11 l4 8] G11 Q)))))))))))))) ∧ (¬ (l3 < 4) → PX0_consider_50 J l1 l2 l3 l4 G Q))))
set_option maxRecDepth 20000 in
theorem TX0_consider_5 {j : Nat → rx_K} {J : Nat → List Int → gS → (Int → gS → Prop) → Prop} {l1 : Int} {l2 : Int} {l3 : Int} {l4 : Int} {G : gS} {Q : Int → gS → Prop} (hl3 : inI l3) (hj0 : ∀ (l1 : Int) (l2 : Int) (l3 : Int) (l4 : Int) (G : gS), (inI l3) → J 0 [l1, l2, l3, l4] G Q → Tg W0 (j 0) [rf (815), rf (l1), rf (l2), cI (l3), rf (l4)] [] G (fun r G => r = 7 ∧ Q 0 G)) (hj1 : ∀ (l1 : Int) (l2 : Int) (l3 : Int) (l4 : Int) (G : gS), (inI l3) → (inI l4) → J 1 [l1, l2, l3, l4] G Q → Tg W0 (j 1) [rf (815), rf (l1), rf (l2), cI (l3), cI (l4)] [] G (fun r G => r = 7 ∧ Q 0 G)) (h : PX0_consider_5 J l1 l2 l3 l4 G Q) : Tg W0 (vX0_consider_5 j) [rf (815), rf (l1), rf (l2), cI (l3), rf (l4)] [] G (fun r G => r = 7 ∧ Q 0 G) := by
  unfold PX0_consider_5 at h
  unfold vX0_consider_5
  refine g_ld (v := rf _) rfl (is_R _) ?_
  refine g_nul (fun b1 => ?_) (fun b1 => ?_)
  · replace h := h.1 b1
    exact TX0_consider_50 hl3 hj0 hj1 h
  · replace h := h.2 b1
    unfold vX0_consider_10
    refine g_ld (v := cI _) rfl (is_I _) ?_
    refine g_const (v := cI (4)) rfl ?_
    refine g_lt2 hl3 ⟨by omega, by omega⟩ (fun b2 => ?_) (fun b2 => ?_)
    · replace h := h.1 b2
      unfold vX0_consider_15
      refine g_ld (v := rf _) rfl (is_R _) ?_
      refine g_getR (kz := 0) (c := 11) oC0 rfl (Nat.le_of_ble_eq_true rfl) rfl (by decide) fun i3 => ?_
      replace h := h i3
      refine g_ld (v := rf _) rfl (is_R _) ?_
      obtain ⟨q4, h⟩ := h
      refine g_getL (kz := 9) q4 rfl (Nat.le_of_ble_eq_true rfl) rfl fun i5 => ?_
      replace h := h i5
      refine g_ld (v := rf _) rfl (is_R _) ?_
      obtain ⟨q6, h⟩ := h
      refine g_getF q6 (ff7_10 q6).1 rfl (Nat.le_of_ble_eq_true rfl) (Nat.le_of_ble_eq_true rfl) ?_
      refine g_ld (v := cI _) rfl (is_I _) ?_
      obtain ⟨q7, q8, h⟩ := h
      refine g_aldL (ff7_10 q6).2 q7 q8 rfl fun i9 => ?_
      replace h := h i9
      obtain ⟨q10, h⟩ := h
      refine g_callV (As := [_, _]) (ci := 11) q10 (fun _ => rfl) ?_
      refine g_go1 (Nat.le_of_ble_eq_true rfl) (Tn_w (TX11_fits i5 i9 h) fun _ G11 ⟨r12, e, i13, h⟩ => ?_)
      subst e
      refine ⟨n7_I _, ?_⟩
      replace h := h i13
      refine g_eq1 ⟨by omega, by omega⟩ (fun b14 => ?_) (fun b14 => ?_)
      · replace h := h.1 b14
        unfold vX0_consider_36
        exact g_ret0 ⟨rfl, h⟩
      · replace h := h.2 b14
        unfold vX0_consider_37
        refine g_inc (lv' := [_, _, _, _, _]) rfl (Nat.le_of_ble_eq_true rfl) (Or.inr (n1_R _)) rfl ?_
        obtain ⟨q15, h⟩ := h
        refine g_ld (v := rf _) rfl (is_R _) ?_
        refine g_getR (kz := 8) (c := 8) q4 rfl (Nat.le_of_ble_eq_true rfl) rfl (by decide) fun i16 => ?_
        replace h := h i16
        refine g_st (lv' := [_, _, _, _, _]) (is_R _) (Nat.le_of_ble_eq_true rfl) (Or.inr (n1_I _)) rfl ?_
        exact hj0 _ _ _ _ _ q15 h
    · replace h := h.2 b2
      exact TX0_consider_50 hl3 hj0 hj1 h
def PX0_consider_0 (J : Nat → List Int → gS → (Int → gS → Prop) → Prop) (a1 : Int) (a2 : Int) (G : gS) (Q : Int → gS → Prop) : Prop :=
  PX0_consider_5 J a1 a2 0 a2 G Q
set_option maxRecDepth 20000 in
theorem TX0_consider_0 {j : Nat → rx_K} {J : Nat → List Int → gS → (Int → gS → Prop) → Prop} {a1 : Int} {a2 : Int} {G : gS} {Q : Int → gS → Prop}  (hj0 : ∀ (l1 : Int) (l2 : Int) (l3 : Int) (l4 : Int) (G : gS), (inI l3) → J 0 [l1, l2, l3, l4] G Q → Tg W0 (j 0) [rf (815), rf (l1), rf (l2), cI (l3), rf (l4)] [] G (fun r G => r = 7 ∧ Q 0 G)) (hj1 : ∀ (l1 : Int) (l2 : Int) (l3 : Int) (l4 : Int) (G : gS), (inI l3) → (inI l4) → J 1 [l1, l2, l3, l4] G Q → Tg W0 (j 1) [rf (815), rf (l1), rf (l2), cI (l3), cI (l4)] [] G (fun r G => r = 7 ∧ Q 0 G)) (h : PX0_consider_0 J a1 a2 G Q) : Tg W0 (vX0_consider_0 j) [rf (815), rf (a1), rf (a2), 7, 7] [] G (fun r G => r = 7 ∧ Q 0 G) := by
  unfold PX0_consider_0 at h
  unfold vX0_consider_0
  refine g_const (v := cI (0)) rfl ?_
  refine g_st (lv' := [_, _, _, _, _]) (is_I _) (Nat.le_of_ble_eq_true rfl) (Or.inr (n1_R _)) rfl ?_
  refine g_ld (v := rf _) rfl (is_R _) ?_
  refine g_st (lv' := [_, _, _, _, _]) (is_R _) (Nat.le_of_ble_eq_true rfl) (Or.inr (n1_I _)) rfl ?_
  exact TX0_consider_5 ⟨by omega, by omega⟩ hj0 hj1 h
def PX0_consider_J : Nat → Nat → List Int → gS → (Int → gS → Prop) → Prop
  | 0, _, _, _, _ => False
  | f + 1, h, L, G, Q => match h, L with
    | 0, [l1, l2, l3, l4] => PX0_consider_5 (PX0_consider_J f) l1 l2 l3 l4 G Q
    | 1, [l1, l2, l3, l4] => PX0_consider_53 (PX0_consider_J f) l1 l2 l3 l4 G Q
    | _, _ => False
theorem TX0_consider_J {Q : Int → gS → Prop} : ∀ f N : Nat, f ≤ N → (∀ (l1 : Int) (l2 : Int) (l3 : Int) (l4 : Int) (G : gS), (inI l3) → (PX0_consider_J f) 0 [l1, l2, l3, l4] G Q → Tg W0 (rx_J vhX0_consider N 0) [rf (815), rf (l1), rf (l2), cI (l3), rf (l4)] [] G (fun r G => r = 7 ∧ Q 0 G)) ∧ (∀ (l1 : Int) (l2 : Int) (l3 : Int) (l4 : Int) (G : gS), (inI l3) → (inI l4) → (PX0_consider_J f) 1 [l1, l2, l3, l4] G Q → Tg W0 (rx_J vhX0_consider N 1) [rf (815), rf (l1), rf (l2), cI (l3), cI (l4)] [] G (fun r G => r = 7 ∧ Q 0 G)) := by
  intro f
  induction f with
  | zero => exact fun N _ => ⟨fun _ _ _ _ _ _ h => h.elim, fun _ _ _ _ _ _ _ h => h.elim⟩
  | succ f ih =>
    intro N hN
    obtain ⟨M, rfl⟩ : ∃ M, N = M + 1 := ⟨N - 1, by omega⟩
    have ih := ih M (by omega)
    exact ⟨fun _ _ _ _ _ hl3 h => show Tg W0 (vX0_consider_5 (rx_J vhX0_consider M)) _ _ _ _ from TX0_consider_5 hl3 ih.1 ih.2 h, fun _ _ _ _ _ hl3 hl4 h => show Tg W0 (vX0_consider_53 (rx_J vhX0_consider M)) _ _ _ _ from TX0_consider_53 hl3 hl4 ih.1 ih.2 h⟩
def PX0_consider (a1 : Int) (a2 : Int) (G : gS) (Q : Int → gS → Prop) : Prop := ∃ f : Nat, f ≤ 4000000000 ∧ PX0_consider_0 (PX0_consider_J f) a1 a2 G Q
theorem TX0_consider {a1 : Int} {a2 : Int} {G : gS} {Q : Int → gS → Prop}  (h : PX0_consider a1 a2 G Q) : Tn W0 FX0_consider [rf (815), rf (a1), rf (a2)] G (fun r G => r = 7 ∧ Q 0 G) := by
  obtain ⟨f, hf, h⟩ := h
  have hJ := TX0_consider_J (Q := Q) f 4000000000 hf
  unfold FX0_consider
  refine g_ent (lv' := [rf (815), rf (a1), rf (a2), 7, 7]) (flR (flR (flR fl0))) (Nat.le_of_ble_eq_true rfl) rfl ?_
  exact TX0_consider_0  hJ.1 hJ.2 h
def PX11_faces_237 (J : Nat → List Int → gS → (Int → gS → Prop) → Prop) (o : Int) (l1 : Int) (l2 : Int) (l3 : Int) (l5 : Int) (l7 : Int) (l8 : Int) (G : gS) (Q : Int → gS → Prop) : Prop :=
  (isO W0 11 (o) ∧ ((0 : Int) ≤ l1 ∧ ((l1 : Int) < 64 ∧ (∀ G57 : gS, G57 = uG G (o + 10) l1 (l2) → Q (l2) G57))))
set_option maxRecDepth 20000 in
theorem TX11_faces_237 {j : Nat → rx_K} {J : Nat → List Int → gS → (Int → gS → Prop) → Prop} {o : Int} {l1 : Int} {l2 : Int} {l3 : Int} {l4 : Nat} {l5 : Int} {l6 : Nat} {l7 : Int} {l8 : Int} {l9 : Nat} {l10 : Nat} {l11 : Nat} {G : gS} {Q : Int → gS → Prop} (hl1 : inI l1) (hl2 : inI l2) (hl3 : inL l3) (hl4 : l4 % 8 ≠ 1) (hl5 : inL l5) (hl6 : l6 % 8 ≠ 1) (hl7 : inI l7) (hl8 : inI l8) (hl9 : l9 % 8 ≠ 1) (hl10 : l10 % 8 ≠ 1) (hl11 : l11 % 8 ≠ 1) (hj0 : ∀ (o : Int) (l1 : Int) (l2 : Int) (l3 : Int) (l4 : Nat) (l5 : Int) (l6 : Nat) (l7 : Int) (l8 : Int) (l9 : Nat) (l10 : Nat) (l11 : Nat) (G : gS), (inI l1) → (inI l2) → (inL l3) → (l4 % 8 ≠ 1) → (inL l5) → (l6 % 8 ≠ 1) → (inI l7) → (inI l8) → (l9 % 8 ≠ 1) → (l10 % 8 ≠ 1) → (l11 % 8 ≠ 1) → J 0 [o, l1, l2, l3, l5, l7, l8] G Q → Tg W0 (j 0) [rf (o), cI (l1), cI (l2), cL (l3), l4, cL (l5), l6, cI (l7), cI (l8), l9, l10, l11] [] G (fun r G => ∃ v, r = cI v ∧ inI v ∧ Q v G)) (h : PX11_faces_237 J o l1 l2 l3 l5 l7 l8 G Q) : Tg W0 (vX11_faces_237 j) [rf (o), cI (l1), cI (l2), cL (l3), l4, cL (l5), l6, cI (l7), cI (l8), l9, l10, l11] [] G (fun r G => ∃ v, r = cI v ∧ inI v ∧ Q v G) := by
  unfold PX11_faces_237 at h
  unfold vX11_faces_237
  refine g_ld (v := rf _) rfl (is_R _) ?_
  obtain ⟨q54, h⟩ := h
  refine g_getF q54 (ff11_11 q54).1 rfl (Nat.le_of_ble_eq_true rfl) (Nat.le_of_ble_eq_true rfl) ?_
  refine g_ld (v := cI _) rfl (is_I _) ?_
  refine g_ld (v := cI _) rfl (is_I _) ?_
  obtain ⟨q55, q56, h⟩ := h
  refine g_astI (ff11_11 q54).2 q55 q56 hl2 (nfI (ff11_11 q54).2) ?_
  replace h := h _ rfl
  refine g_ld (v := cI _) rfl (is_I _) ?_
  exact g_ret1 (is_I _) ⟨_, rfl, hl2, h⟩
def PX11_faces_231 (J : Nat → List Int → gS → (Int → gS → Prop) → Prop) (o : Int) (l1 : Int) (l2 : Int) (l3 : Int) (l5 : Int) (l7 : Int) (l8 : Int) (l9 : Int) (l10 : Int) (l11 : Int) (G : gS) (Q : Int → gS → Prop) : Prop :=
  (inI (l8 + 1) ∧ J 0 [o, l1, l2, l3, l5, l7, l8 + 1] G Q)
set_option maxRecDepth 20000 in
theorem TX11_faces_231 {j : Nat → rx_K} {J : Nat → List Int → gS → (Int → gS → Prop) → Prop} {o : Int} {l1 : Int} {l2 : Int} {l3 : Int} {l4 : Nat} {l5 : Int} {l6 : Nat} {l7 : Int} {l8 : Int} {l9 : Int} {l10 : Int} {l11 : Int} {G : gS} {Q : Int → gS → Prop} (hl1 : inI l1) (hl2 : inI l2) (hl3 : inL l3) (hl4 : l4 % 8 ≠ 1) (hl5 : inL l5) (hl6 : l6 % 8 ≠ 1) (hl7 : inI l7) (hl8 : inI l8) (hl9 : inI l9) (hl10 : inI l10) (hl11 : inI l11) (hj0 : ∀ (o : Int) (l1 : Int) (l2 : Int) (l3 : Int) (l4 : Nat) (l5 : Int) (l6 : Nat) (l7 : Int) (l8 : Int) (l9 : Nat) (l10 : Nat) (l11 : Nat) (G : gS), (inI l1) → (inI l2) → (inL l3) → (l4 % 8 ≠ 1) → (inL l5) → (l6 % 8 ≠ 1) → (inI l7) → (inI l8) → (l9 % 8 ≠ 1) → (l10 % 8 ≠ 1) → (l11 % 8 ≠ 1) → J 0 [o, l1, l2, l3, l5, l7, l8] G Q → Tg W0 (j 0) [rf (o), cI (l1), cI (l2), cL (l3), l4, cL (l5), l6, cI (l7), cI (l8), l9, l10, l11] [] G (fun r G => ∃ v, r = cI v ∧ inI v ∧ Q v G)) (h : PX11_faces_231 J o l1 l2 l3 l5 l7 l8 l9 l10 l11 G Q) : Tg W0 (vX11_faces_231 j) [rf (o), cI (l1), cI (l2), cL (l3), l4, cL (l5), l6, cI (l7), cI (l8), cI (l9), cI (l10), cI (l11)] [] G (fun r G => ∃ v, r = cI v ∧ inI v ∧ Q v G) := by
  unfold PX11_faces_231 at h
  unfold vX11_faces_231
  refine g_inc (lv' := [_, _, _, _, _, _, _, _, _, _, _, _]) rfl (Nat.le_of_ble_eq_true rfl) (Or.inr (n1_I _)) rfl ?_
  obtain ⟨q58, h⟩ := h
  exact hj0 _ _ _ _ _ _ _ _ _ _ _ _ _ hl1 hl2 hl3 hl4 hl5 hl6 hl7 q58 (n1_I _) (n1_I _) (n1_I _) h
def PX11_faces_190 (J : Nat → List Int → gS → (Int → gS → Prop) → Prop) (o : Int) (l1 : Int) (l2 : Int) (l3 : Int) (l5 : Int) (l7 : Int) (l8 : Int) (l9 : Int) (l10 : Int) (l11 : Int) (G : gS) (Q : Int → gS → Prop) : Prop :=
  (inL (lush l5 l11) → (inL (land (lush l5 l11) 1) → ((land (lush l5 l11) 1 = 0 → (inL (lshl 1 l11) → (inL (lor l5 (lshl 1 l11)) → (isO W0 11 (o) ∧ ((0 : Int) ≤ l7 ∧ ((l7 : Int) < 66 ∧ (∀ G67 : gS, G67 = uG G (o + 11) l7 (l11) → ((0 : Int) ≤ l7 ∧ ((l7 : Int) < 66 ∧ (∀ G70 : gS, G70 = uG G67 (o + 12) l7 (0) → (inI (l7 + 1) ∧ PX11_faces_231 J o l1 l2 l3 (lor l5 (lshl 1 l11)) (l7 + 1) l8 l9 l10 l11 G70 Q))))))))))) ∧ (¬ (land (lush l5 l11) 1 = 0) → PX11_faces_231 J o l1 l2 l3 l5 l7 l8 l9 l10 l11 G Q))))
set_option maxRecDepth 20000 in
theorem TX11_faces_190 {j : Nat → rx_K} {J : Nat → List Int → gS → (Int → gS → Prop) → Prop} {o : Int} {l1 : Int} {l2 : Int} {l3 : Int} {l4 : Nat} {l5 : Int} {l6 : Nat} {l7 : Int} {l8 : Int} {l9 : Int} {l10 : Int} {l11 : Int} {G : gS} {Q : Int → gS → Prop} (hl1 : inI l1) (hl2 : inI l2) (hl3 : inL l3) (hl4 : l4 % 8 ≠ 1) (hl5 : inL l5) (hl6 : l6 % 8 ≠ 1) (hl7 : inI l7) (hl8 : inI l8) (hl9 : inI l9) (hl10 : inI l10) (hl11 : inI l11) (hj0 : ∀ (o : Int) (l1 : Int) (l2 : Int) (l3 : Int) (l4 : Nat) (l5 : Int) (l6 : Nat) (l7 : Int) (l8 : Int) (l9 : Nat) (l10 : Nat) (l11 : Nat) (G : gS), (inI l1) → (inI l2) → (inL l3) → (l4 % 8 ≠ 1) → (inL l5) → (l6 % 8 ≠ 1) → (inI l7) → (inI l8) → (l9 % 8 ≠ 1) → (l10 % 8 ≠ 1) → (l11 % 8 ≠ 1) → J 0 [o, l1, l2, l3, l5, l7, l8] G Q → Tg W0 (j 0) [rf (o), cI (l1), cI (l2), cL (l3), l4, cL (l5), l6, cI (l7), cI (l8), l9, l10, l11] [] G (fun r G => ∃ v, r = cI v ∧ inI v ∧ Q v G)) (h : PX11_faces_190 J o l1 l2 l3 l5 l7 l8 l9 l10 l11 G Q) : Tg W0 (vX11_faces_190 j) [rf (o), cI (l1), cI (l2), cL (l3), l4, cL (l5), l6, cI (l7), cI (l8), cI (l9), cI (l10), cI (l11)] [] G (fun r G => ∃ v, r = cI v ∧ inI v ∧ Q v G) := by
  unfold PX11_faces_190 at h
  unfold vX11_faces_190
  refine g_ld (v := cL _) rfl (is_L _) ?_
  refine g_ld (v := cI _) rfl (is_I _) ?_
  refine g_lush fun i59 => ?_
  replace h := h i59
  refine g_const (v := cL (1)) rfl ?_
  refine g_land fun i60 => ?_
  replace h := h i60
  refine g_const (v := cL (0)) rfl ?_
  refine g_leq i60 ⟨by omega, by omega⟩ (fun b61 => ?_) (fun b61 => ?_)
  · replace h := h.1 b61
    unfold vX11_faces_202
    refine g_ld (v := cL _) rfl (is_L _) ?_
    refine g_const (v := cL (1)) rfl ?_
    refine g_ld (v := cI _) rfl (is_I _) ?_
    refine g_lshl fun i62 => ?_
    replace h := h i62
    refine g_lor fun i63 => ?_
    replace h := h i63
    refine g_stL (lv' := [_, _, _, _, _, _, _, _, _, _, _, _]) (Nat.le_of_ble_eq_true rfl) (Or.inr hl4) rfl ?_
    refine g_ld (v := rf _) rfl (is_R _) ?_
    obtain ⟨q64, h⟩ := h
    refine g_getF q64 (ff11_12 q64).1 rfl (Nat.le_of_ble_eq_true rfl) (Nat.le_of_ble_eq_true rfl) ?_
    refine g_ld (v := cI _) rfl (is_I _) ?_
    refine g_ld (v := cI _) rfl (is_I _) ?_
    obtain ⟨q65, q66, h⟩ := h
    refine g_astI (ff11_12 q64).2 q65 q66 hl11 (nfI (ff11_12 q64).2) ?_
    replace h := h _ rfl
    refine g_ld (v := rf _) rfl (is_R _) ?_
    refine g_getF q64 (ff11_13 q64).1 rfl (Nat.le_of_ble_eq_true rfl) (Nat.le_of_ble_eq_true rfl) ?_
    refine g_ld (v := cI _) rfl (is_I _) ?_
    refine g_const (v := cI (0)) rfl ?_
    obtain ⟨q68, q69, h⟩ := h
    refine g_astI (ff11_13 q64).2 q68 q69 ⟨by omega, by omega⟩ (nfI (ff11_13 q64).2) ?_
    replace h := h _ rfl
    refine g_inc (lv' := [_, _, _, _, _, _, _, _, _, _, _, _]) rfl (Nat.le_of_ble_eq_true rfl) (Or.inr (show 7 % 8 ≠ 1 by decide)) rfl ?_
    obtain ⟨q71, h⟩ := h
    exact TX11_faces_231 hl1 hl2 hl3 hl4 i63 (show 7 % 8 ≠ 1 by decide) q71 hl8 hl9 hl10 hl11 hj0 h
  · replace h := h.2 b61
    exact TX11_faces_231 hl1 hl2 hl3 hl4 hl5 hl6 hl7 hl8 hl9 hl10 hl11 hj0 h
def PX11_faces_131 (J : Nat → List Int → gS → (Int → gS → Prop) → Prop) (o : Int) (l1 : Int) (l2 : Int) (l3 : Int) (l5 : Int) (l7 : Int) (l8 : Int) (l9 : Int) (l10 : Int) (s0 : Int) (G : gS) (Q : Int → gS → Prop) : Prop :=
  ((4 < l10 → (inI (l7 + (-1)) ∧ PX11_faces_231 J o l1 l2 l3 l5 (l7 + (-1)) l8 l9 l10 s0 G Q)) ∧ (¬ (4 < l10) → ((s0 < 0 → PX11_faces_231 J o l1 l2 l3 l5 l7 l8 l9 l10 s0 G Q) ∧ (¬ (s0 < 0) → ((l10 < 4 → (inL (lush l3 s0) → (inL (land (lush l3 s0) 1) → ((land (lush l3 s0) 1 = 0 → (inL (lshl 1 s0) → (inL (lor l3 (lshl 1 s0)) → (isO W0 11 (o) ∧ ((0 : Int) ≤ (l1 * 64) + l2 ∧ (((l1 * 64) + l2 : Int) < 4096 ∧ (∀ G52 : gS, G52 = uG G (o + 9) ((l1 * 64) + l2) (s0) → (inI (l2 + 1) ∧ PX11_faces_190 J o l1 (l2 + 1) (lor l3 (lshl 1 s0)) l5 l7 l8 l9 l10 s0 G52 Q)))))))) ∧ (¬ (land (lush l3 s0) 1 = 0) → PX11_faces_190 J o l1 l2 l3 l5 l7 l8 l9 l10 s0 G Q))))) ∧ (¬ (l10 < 4) → PX11_faces_190 J o l1 l2 l3 l5 l7 l8 l9 l10 s0 G Q))))))
set_option maxRecDepth 20000 in
theorem TX11_faces_131 {j : Nat → rx_K} {J : Nat → List Int → gS → (Int → gS → Prop) → Prop} {o : Int} {l1 : Int} {l2 : Int} {l3 : Int} {l4 : Nat} {l5 : Int} {l6 : Nat} {l7 : Int} {l8 : Int} {l9 : Int} {l10 : Int} {l11 : Nat} {s0 : Int} {G : gS} {Q : Int → gS → Prop} (hl1 : inI l1) (hl2 : inI l2) (hl3 : inL l3) (hl4 : l4 % 8 ≠ 1) (hl5 : inL l5) (hl6 : l6 % 8 ≠ 1) (hl7 : inI l7) (hl8 : inI l8) (hl9 : inI l9) (hl10 : inI l10) (hl11 : l11 % 8 ≠ 1) (hs0 : inI s0) (hj0 : ∀ (o : Int) (l1 : Int) (l2 : Int) (l3 : Int) (l4 : Nat) (l5 : Int) (l6 : Nat) (l7 : Int) (l8 : Int) (l9 : Nat) (l10 : Nat) (l11 : Nat) (G : gS), (inI l1) → (inI l2) → (inL l3) → (l4 % 8 ≠ 1) → (inL l5) → (l6 % 8 ≠ 1) → (inI l7) → (inI l8) → (l9 % 8 ≠ 1) → (l10 % 8 ≠ 1) → (l11 % 8 ≠ 1) → J 0 [o, l1, l2, l3, l5, l7, l8] G Q → Tg W0 (j 0) [rf (o), cI (l1), cI (l2), cL (l3), l4, cL (l5), l6, cI (l7), cI (l8), l9, l10, l11] [] G (fun r G => ∃ v, r = cI v ∧ inI v ∧ Q v G)) (h : PX11_faces_131 J o l1 l2 l3 l5 l7 l8 l9 l10 s0 G Q) : Tg W0 (vX11_faces_131 j) [rf (o), cI (l1), cI (l2), cL (l3), l4, cL (l5), l6, cI (l7), cI (l8), cI (l9), cI (l10), l11] [cI (s0)] G (fun r G => ∃ v, r = cI v ∧ inI v ∧ Q v G) := by
  unfold PX11_faces_131 at h
  unfold vX11_faces_131
  refine g_st (lv' := [_, _, _, _, _, _, _, _, _, _, _, _]) (is_I _) (Nat.le_of_ble_eq_true rfl) (Or.inr (n1_I _)) rfl ?_
  refine g_ld (v := cI _) rfl (is_I _) ?_
  refine g_const (v := cI (4)) rfl ?_
  refine g_gt2 hl10 ⟨by omega, by omega⟩ (fun b40 => ?_) (fun b40 => ?_)
  · replace h := h.1 b40
    unfold vX11_faces_139
    refine g_inc (lv' := [_, _, _, _, _, _, _, _, _, _, _, _]) rfl (Nat.le_of_ble_eq_true rfl) (Or.inr hl6) rfl ?_
    obtain ⟨q41, h⟩ := h
    exact TX11_faces_231 hl1 hl2 hl3 hl4 hl5 hl6 q41 hl8 hl9 hl10 hs0 hj0 h
  · replace h := h.2 b40
    unfold vX11_faces_145
    refine g_ld (v := cI _) rfl (is_I _) ?_
    refine g_lt1 hs0 (fun b42 => ?_) (fun b42 => ?_)
    · replace h := h.1 b42
      exact TX11_faces_231 hl1 hl2 hl3 hl4 hl5 hl6 hl7 hl8 hl9 hl10 hs0 hj0 h
    · replace h := h.2 b42
      unfold vX11_faces_150
      refine g_ld (v := cI _) rfl (is_I _) ?_
      refine g_const (v := cI (4)) rfl ?_
      refine g_lt2 hl10 ⟨by omega, by omega⟩ (fun b43 => ?_) (fun b43 => ?_)
      · replace h := h.1 b43
        unfold vX11_faces_156
        refine g_ld (v := cL _) rfl (is_L _) ?_
        refine g_ld (v := cI _) rfl (is_I _) ?_
        refine g_lush fun i44 => ?_
        replace h := h i44
        refine g_const (v := cL (1)) rfl ?_
        refine g_land fun i45 => ?_
        replace h := h i45
        refine g_const (v := cL (0)) rfl ?_
        refine g_leq i45 ⟨by omega, by omega⟩ (fun b46 => ?_) (fun b46 => ?_)
        · replace h := h.1 b46
          unfold vX11_faces_167
          refine g_ld (v := cL _) rfl (is_L _) ?_
          refine g_const (v := cL (1)) rfl ?_
          refine g_ld (v := cI _) rfl (is_I _) ?_
          refine g_lshl fun i47 => ?_
          replace h := h i47
          refine g_lor fun i48 => ?_
          replace h := h i48
          refine g_stL (lv' := [_, _, _, _, _, _, _, _, _, _, _, _]) (Nat.le_of_ble_eq_true rfl) (Or.inr (n1_I _)) rfl ?_
          refine g_ld (v := rf _) rfl (is_R _) ?_
          obtain ⟨q49, h⟩ := h
          refine g_getF q49 (ff11_10 q49).1 rfl (Nat.le_of_ble_eq_true rfl) (Nat.le_of_ble_eq_true rfl) ?_
          refine g_ld (v := cI _) rfl (is_I _) ?_
          refine g_const (v := cI (64)) rfl ?_
          refine g_mul ?_
          refine g_ld (v := cI _) rfl (is_I _) ?_
          refine g_add ?_
          refine g_ld (v := cI _) rfl (is_I _) ?_
          obtain ⟨q50, q51, h⟩ := h
          refine g_astI (ff11_10 q49).2 q50 q51 hs0 (nfI (ff11_10 q49).2) ?_
          replace h := h _ rfl
          refine g_inc (lv' := [_, _, _, _, _, _, _, _, _, _, _, _]) rfl (Nat.le_of_ble_eq_true rfl) (Or.inr (n1_I _)) rfl ?_
          obtain ⟨q53, h⟩ := h
          exact TX11_faces_190 hl1 q53 i48 (show 7 % 8 ≠ 1 by decide) hl5 hl6 hl7 hl8 hl9 hl10 hs0 hj0 h
        · replace h := h.2 b46
          exact TX11_faces_190 hl1 hl2 hl3 hl4 hl5 hl6 hl7 hl8 hl9 hl10 hs0 hj0 h
      · replace h := h.2 b43
        exact TX11_faces_190 hl1 hl2 hl3 hl4 hl5 hl6 hl7 hl8 hl9 hl10 hs0 hj0 h
def PX11_faces_45 (J : Nat → List Int → gS → (Int → gS → Prop) → Prop) (o : Int) (l1 : Int) (l2 : Int) (l3 : Int) (l5 : Int) (l7 : Int) (l8 : Int) (G : gS) (Q : Int → gS → Prop) : Prop :=
  ((l8 < 100000000 → ((0 < l7 → (isO W0 11 (o) ∧ ((0 : Int) ≤ l7 - 1 ∧ ((l7 - 1 : Int) < 66 ∧ (inI (G (o + 11) (l7 - 1)) → ((0 : Int) ≤ l7 - 1 ∧ ((l7 - 1 : Int) < 66 ∧ (inI (G (o + 12) (l7 - 1)) → ((0 : Int) ≤ l7 - 1 ∧ ((l7 - 1 : Int) < 66 ∧ (inI (G (o + 12) (l7 - 1)) → ((0 : Int) ≤ l7 - 1 ∧ ((l7 - 1 : Int) < 66 ∧ (inI ((G (o + 12) (l7 - 1)) + 1) ∧ (∀ G31 : gS, G31 = uG G (o + 12) (l7 - 1) ((G (o + 12) (l7 - 1)) + 1) → ((G (o + 12) (l7 - 1) < 4 → ((0 : Int) ≤ ((G (o + 11) (l7 - 1)) * 4) + (G (o + 12) (l7 - 1)) ∧ ((((G (o + 11) (l7 - 1)) * 4) + (G (o + 12) (l7 - 1)) : Int) < 256 ∧ (inI (G31 (o + 4) (((G (o + 11) (l7 - 1)) * 4) + (G (o + 12) (l7 - 1)))) → PX11_faces_131 J o l1 l2 l3 l5 l7 l8 (G (o + 11) (l7 - 1)) (G (o + 12) (l7 - 1)) (G31 (o + 4) (((G (o + 11) (l7 - 1)) * 4) + (G (o + 12) (l7 - 1)))) G31 Q)))) ∧ (¬ (G (o + 12) (l7 - 1) < 4) → ((G (o + 12) (l7 - 1) = 4 → ((0 : Int) ≤ G (o + 11) (l7 - 1) ∧ ((G (o + 11) (l7 - 1) : Int) < 64 ∧ (inI (G31 (o + 2) (G (o + 11) (l7 - 1))) → PX11_faces_131 J o l1 l2 l3 l5 l7 l8 (G (o + 11) (l7 - 1)) (G (o + 12) (l7 - 1)) (G31 (o + 2) (G (o + 11) (l7 - 1))) G31 Q)))) ∧ (¬ (G (o + 12) (l7 - 1) = 4) → PX11_faces_131 J o l1 l2 l3 l5 l7 l8 (G (o + 11) (l7 - 1)) (G (o + 12) (l7 - 1)) (-2) G31 Q))))))))))))))))))) ∧ (¬ (0 < l7) → PX11_faces_237 J o l1 l2 l3 l5 l7 l8 G Q))) ∧ (¬ (l8 < 100000000) → PX11_faces_237 J o l1 l2 l3 l5 l7 l8 G Q))
set_option maxRecDepth 20000 in
theorem TX11_faces_45 {j : Nat → rx_K} {J : Nat → List Int → gS → (Int → gS → Prop) → Prop} {o : Int} {l1 : Int} {l2 : Int} {l3 : Int} {l4 : Nat} {l5 : Int} {l6 : Nat} {l7 : Int} {l8 : Int} {l9 : Nat} {l10 : Nat} {l11 : Nat} {G : gS} {Q : Int → gS → Prop} (hl1 : inI l1) (hl2 : inI l2) (hl3 : inL l3) (hl4 : l4 % 8 ≠ 1) (hl5 : inL l5) (hl6 : l6 % 8 ≠ 1) (hl7 : inI l7) (hl8 : inI l8) (hl9 : l9 % 8 ≠ 1) (hl10 : l10 % 8 ≠ 1) (hl11 : l11 % 8 ≠ 1) (hj0 : ∀ (o : Int) (l1 : Int) (l2 : Int) (l3 : Int) (l4 : Nat) (l5 : Int) (l6 : Nat) (l7 : Int) (l8 : Int) (l9 : Nat) (l10 : Nat) (l11 : Nat) (G : gS), (inI l1) → (inI l2) → (inL l3) → (l4 % 8 ≠ 1) → (inL l5) → (l6 % 8 ≠ 1) → (inI l7) → (inI l8) → (l9 % 8 ≠ 1) → (l10 % 8 ≠ 1) → (l11 % 8 ≠ 1) → J 0 [o, l1, l2, l3, l5, l7, l8] G Q → Tg W0 (j 0) [rf (o), cI (l1), cI (l2), cL (l3), l4, cL (l5), l6, cI (l7), cI (l8), l9, l10, l11] [] G (fun r G => ∃ v, r = cI v ∧ inI v ∧ Q v G)) (h : PX11_faces_45 J o l1 l2 l3 l5 l7 l8 G Q) : Tg W0 (vX11_faces_45 j) [rf (o), cI (l1), cI (l2), cL (l3), l4, cL (l5), l6, cI (l7), cI (l8), l9, l10, l11] [] G (fun r G => ∃ v, r = cI v ∧ inI v ∧ Q v G) := by
  unfold PX11_faces_45 at h
  unfold vX11_faces_45
  refine g_ld (v := cI _) rfl (is_I _) ?_
  refine g_const (v := cI (100000000)) rfl ?_
  refine g_lt2 hl8 ⟨by omega, by omega⟩ (fun b16 => ?_) (fun b16 => ?_)
  · replace h := h.1 b16
    unfold vX11_faces_52
    refine g_ld (v := cI _) rfl (is_I _) ?_
    refine g_gt1 hl7 (fun b17 => ?_) (fun b17 => ?_)
    · replace h := h.1 b17
      unfold vX11_faces_57
      refine g_ld (v := rf _) rfl (is_R _) ?_
      obtain ⟨q18, h⟩ := h
      refine g_getF q18 (ff11_12 q18).1 rfl (Nat.le_of_ble_eq_true rfl) (Nat.le_of_ble_eq_true rfl) ?_
      refine g_ld (v := cI _) rfl (is_I _) ?_
      refine g_const (v := cI (1)) rfl ?_
      refine g_sub ?_
      obtain ⟨q19, q20, h⟩ := h
      refine g_aldI (ff11_12 q18).2 q19 q20 rfl fun i21 => ?_
      replace h := h i21
      refine g_st (lv' := [_, _, _, _, _, _, _, _, _, _, _, _]) (is_I _) (Nat.le_of_ble_eq_true rfl) (Or.inr (n1_I _)) rfl ?_
      refine g_ld (v := rf _) rfl (is_R _) ?_
      refine g_getF q18 (ff11_13 q18).1 rfl (Nat.le_of_ble_eq_true rfl) (Nat.le_of_ble_eq_true rfl) ?_
      refine g_ld (v := cI _) rfl (is_I _) ?_
      refine g_const (v := cI (1)) rfl ?_
      refine g_sub ?_
      obtain ⟨q22, q23, h⟩ := h
      refine g_aldI (ff11_13 q18).2 q22 q23 rfl fun i24 => ?_
      replace h := h i24
      refine g_st (lv' := [_, _, _, _, _, _, _, _, _, _, _, _]) (is_I _) (Nat.le_of_ble_eq_true rfl) (Or.inr (n1_I _)) rfl ?_
      refine g_ld (v := rf _) rfl (is_R _) ?_
      refine g_getF q18 (ff11_13 q18).1 rfl (Nat.le_of_ble_eq_true rfl) (Nat.le_of_ble_eq_true rfl) ?_
      refine g_ld (v := cI _) rfl (is_I _) ?_
      refine g_const (v := cI (1)) rfl ?_
      refine g_sub ?_
      refine g_dup2 (ct_I _) (ct_R _) ?_
      obtain ⟨q25, q26, h⟩ := h
      refine g_aldI (ff11_13 q18).2 q25 q26 rfl fun i27 => ?_
      replace h := h i27
      refine g_const (v := cI (1)) rfl ?_
      refine g_add ?_
      obtain ⟨q28, q29, h⟩ := h
      obtain ⟨q30, h⟩ := h
      refine g_astI (ff11_13 q18).2 q28 q29 q30 (nfI (ff11_13 q18).2) ?_
      replace h := h _ rfl
      unfold vX11_faces_92
      refine g_ld (v := cI _) rfl (is_I _) ?_
      refine g_const (v := cI (4)) rfl ?_
      refine g_lt2 i24 ⟨by omega, by omega⟩ (fun b32 => ?_) (fun b32 => ?_)
      · replace h := h.1 b32
        unfold vX11_faces_98
        refine g_ld (v := rf _) rfl (is_R _) ?_
        refine g_getF q18 (ff11_5 q18).1 rfl (Nat.le_of_ble_eq_true rfl) (Nat.le_of_ble_eq_true rfl) ?_
        refine g_ld (v := cI _) rfl (is_I _) ?_
        refine g_const (v := cI (4)) rfl ?_
        refine g_mul ?_
        refine g_ld (v := cI _) rfl (is_I _) ?_
        refine g_add ?_
        obtain ⟨q33, q34, h⟩ := h
        refine g_aldI (ff11_5 q18).2 q33 q34 rfl fun i35 => ?_
        replace h := h i35
        exact TX11_faces_131 hl1 hl2 hl3 hl4 hl5 hl6 hl7 hl8 i21 i24 hl11 i35 hj0 h
      · replace h := h.2 b32
        unfold vX11_faces_113
        refine g_ld (v := cI _) rfl (is_I _) ?_
        refine g_const (v := cI (4)) rfl ?_
        refine g_eq2 i24 ⟨by omega, by omega⟩ (fun b36 => ?_) (fun b36 => ?_)
        · replace h := h.1 b36
          unfold vX11_faces_119
          refine g_ld (v := rf _) rfl (is_R _) ?_
          refine g_getF q18 (ff11_3 q18).1 rfl (Nat.le_of_ble_eq_true rfl) (Nat.le_of_ble_eq_true rfl) ?_
          refine g_ld (v := cI _) rfl (is_I _) ?_
          obtain ⟨q37, q38, h⟩ := h
          refine g_aldI (ff11_3 q18).2 q37 q38 rfl fun i39 => ?_
          replace h := h i39
          exact TX11_faces_131 hl1 hl2 hl3 hl4 hl5 hl6 hl7 hl8 i21 i24 hl11 i39 hj0 h
        · replace h := h.2 b36
          unfold vX11_faces_129
          refine g_const (v := cI (-2)) rfl ?_
          exact TX11_faces_131 hl1 hl2 hl3 hl4 hl5 hl6 hl7 hl8 i21 i24 hl11 ⟨by omega, by omega⟩ hj0 h
    · replace h := h.2 b17
      exact TX11_faces_237 hl1 hl2 hl3 hl4 hl5 hl6 hl7 hl8 hl9 hl10 hl11 hj0 h
  · replace h := h.2 b16
    exact TX11_faces_237 hl1 hl2 hl3 hl4 hl5 hl6 hl7 hl8 hl9 hl10 hl11 hj0 h
def PX11_faces_0 (J : Nat → List Int → gS → (Int → gS → Prop) → Prop) (o : Int) (a1 : Int) (G : gS) (Q : Int → gS → Prop) : Prop :=
  (isO W0 11 (o) ∧ ((0 : Int) ≤ a1 ∧ ((a1 : Int) < 64 ∧ (inI (G (o + 10) a1) → ((G (o + 10) a1 < 0 → (inL (lshl 1 a1) → ((0 : Int) ≤ 0 ∧ ((0 : Int) < 66 ∧ (∀ G9 : gS, G9 = uG G (o + 11) 0 (a1) → ((0 : Int) ≤ 0 ∧ ((0 : Int) < 66 ∧ (∀ G12 : gS, G12 = uG G9 (o + 12) 0 (0) → PX11_faces_45 J o a1 0 0 (lshl 1 a1) 1 0 G12 Q)))))))) ∧ (¬ (G (o + 10) a1 < 0) → ((0 : Int) ≤ a1 ∧ ((a1 : Int) < 64 ∧ (inI (G (o + 10) a1) → Q (G (o + 10) a1) G)))))))))
set_option maxRecDepth 20000 in
theorem TX11_faces_0 {j : Nat → rx_K} {J : Nat → List Int → gS → (Int → gS → Prop) → Prop} {o : Int} {a1 : Int} {G : gS} {Q : Int → gS → Prop} (ha1 : inI a1) (hj0 : ∀ (o : Int) (l1 : Int) (l2 : Int) (l3 : Int) (l4 : Nat) (l5 : Int) (l6 : Nat) (l7 : Int) (l8 : Int) (l9 : Nat) (l10 : Nat) (l11 : Nat) (G : gS), (inI l1) → (inI l2) → (inL l3) → (l4 % 8 ≠ 1) → (inL l5) → (l6 % 8 ≠ 1) → (inI l7) → (inI l8) → (l9 % 8 ≠ 1) → (l10 % 8 ≠ 1) → (l11 % 8 ≠ 1) → J 0 [o, l1, l2, l3, l5, l7, l8] G Q → Tg W0 (j 0) [rf (o), cI (l1), cI (l2), cL (l3), l4, cL (l5), l6, cI (l7), cI (l8), l9, l10, l11] [] G (fun r G => ∃ v, r = cI v ∧ inI v ∧ Q v G)) (h : PX11_faces_0 J o a1 G Q) : Tg W0 (vX11_faces_0 j) [rf (o), cI (a1), 7, 7, 7, 7, 7, 7, 7, 7, 7, 7] [] G (fun r G => ∃ v, r = cI v ∧ inI v ∧ Q v G) := by
  unfold PX11_faces_0 at h
  unfold vX11_faces_0
  refine g_ld (v := rf _) rfl (is_R _) ?_
  obtain ⟨q1, h⟩ := h
  refine g_getF q1 (ff11_11 q1).1 rfl (Nat.le_of_ble_eq_true rfl) (Nat.le_of_ble_eq_true rfl) ?_
  refine g_ld (v := cI _) rfl (is_I _) ?_
  obtain ⟨q2, q3, h⟩ := h
  refine g_aldI (ff11_11 q1).2 q2 q3 rfl fun i4 => ?_
  replace h := h i4
  refine g_lt1 i4 (fun b5 => ?_) (fun b5 => ?_)
  · replace h := h.1 b5
    unfold vX11_faces_16
    refine g_const (v := cI (0)) rfl ?_
    refine g_st (lv' := [_, _, _, _, _, _, _, _, _, _, _, _]) (is_I _) (Nat.le_of_ble_eq_true rfl) (Or.inr (n1_I _)) rfl ?_
    refine g_const (v := cL (0)) rfl ?_
    refine g_stL (lv' := [_, _, _, _, _, _, _, _, _, _, _, _]) (Nat.le_of_ble_eq_true rfl) (Or.inr (n1_I _)) rfl ?_
    refine g_const (v := cL (1)) rfl ?_
    refine g_ld (v := cI _) rfl (is_I _) ?_
    refine g_lshl fun i6 => ?_
    replace h := h i6
    refine g_stL (lv' := [_, _, _, _, _, _, _, _, _, _, _, _]) (Nat.le_of_ble_eq_true rfl) (Or.inr (show 7 % 8 ≠ 1 by decide)) rfl ?_
    refine g_const (v := cI (1)) rfl ?_
    refine g_st (lv' := [_, _, _, _, _, _, _, _, _, _, _, _]) (is_I _) (Nat.le_of_ble_eq_true rfl) (Or.inr (show 7 % 8 ≠ 1 by decide)) rfl ?_
    refine g_ld (v := rf _) rfl (is_R _) ?_
    refine g_getF q1 (ff11_12 q1).1 rfl (Nat.le_of_ble_eq_true rfl) (Nat.le_of_ble_eq_true rfl) ?_
    refine g_const (v := cI (0)) rfl ?_
    refine g_ld (v := cI _) rfl (is_I _) ?_
    obtain ⟨q7, q8, h⟩ := h
    refine g_astI (ff11_12 q1).2 q7 q8 ha1 (nfI (ff11_12 q1).2) ?_
    replace h := h _ rfl
    refine g_ld (v := rf _) rfl (is_R _) ?_
    refine g_getF q1 (ff11_13 q1).1 rfl (Nat.le_of_ble_eq_true rfl) (Nat.le_of_ble_eq_true rfl) ?_
    refine g_const (v := cI (0)) rfl ?_
    refine g_const (v := cI (0)) rfl ?_
    obtain ⟨q10, q11, h⟩ := h
    refine g_astI (ff11_13 q1).2 q10 q11 ⟨by omega, by omega⟩ (nfI (ff11_13 q1).2) ?_
    replace h := h _ rfl
    refine g_const (v := cI (0)) rfl ?_
    refine g_st (lv' := [_, _, _, _, _, _, _, _, _, _, _, _]) (is_I _) (Nat.le_of_ble_eq_true rfl) (Or.inr (n1_I _)) rfl ?_
    exact TX11_faces_45 ha1 ⟨by omega, by omega⟩ ⟨by omega, by omega⟩ (show 7 % 8 ≠ 1 by decide) i6 (show 7 % 8 ≠ 1 by decide) ⟨by omega, by omega⟩ ⟨by omega, by omega⟩ (show 7 % 8 ≠ 1 by decide) (show 7 % 8 ≠ 1 by decide) (show 7 % 8 ≠ 1 by decide) hj0 h
  · replace h := h.2 b5
    unfold vX11_faces_9
    refine g_ld (v := rf _) rfl (is_R _) ?_
    refine g_getF q1 (ff11_11 q1).1 rfl (Nat.le_of_ble_eq_true rfl) (Nat.le_of_ble_eq_true rfl) ?_
    refine g_ld (v := cI _) rfl (is_I _) ?_
    obtain ⟨q13, q14, h⟩ := h
    refine g_aldI (ff11_11 q1).2 q13 q14 rfl fun i15 => ?_
    replace h := h i15
    exact g_ret1 (is_I _) ⟨_, rfl, i15, h⟩
def PX11_faces_J : Nat → Nat → List Int → gS → (Int → gS → Prop) → Prop
  | 0, _, _, _, _ => False
  | f + 1, h, L, G, Q => match h, L with
    | 0, [o, l1, l2, l3, l5, l7, l8] => PX11_faces_45 (PX11_faces_J f) o l1 l2 l3 l5 l7 l8 G Q
    | _, _ => False
theorem TX11_faces_J {Q : Int → gS → Prop} : ∀ f N : Nat, f ≤ N → (∀ (o : Int) (l1 : Int) (l2 : Int) (l3 : Int) (l4 : Nat) (l5 : Int) (l6 : Nat) (l7 : Int) (l8 : Int) (l9 : Nat) (l10 : Nat) (l11 : Nat) (G : gS), (inI l1) → (inI l2) → (inL l3) → (l4 % 8 ≠ 1) → (inL l5) → (l6 % 8 ≠ 1) → (inI l7) → (inI l8) → (l9 % 8 ≠ 1) → (l10 % 8 ≠ 1) → (l11 % 8 ≠ 1) → (PX11_faces_J f) 0 [o, l1, l2, l3, l5, l7, l8] G Q → Tg W0 (rx_J vhX11_faces N 0) [rf (o), cI (l1), cI (l2), cL (l3), l4, cL (l5), l6, cI (l7), cI (l8), l9, l10, l11] [] G (fun r G => ∃ v, r = cI v ∧ inI v ∧ Q v G)) := by
  intro f
  induction f with
  | zero => exact fun N _ => fun _ _ _ _ _ _ _ _ _ _ _ _ _ _ _ _ _ _ _ _ _ _ _ _ h => h.elim
  | succ f ih =>
    intro N hN
    obtain ⟨M, rfl⟩ : ∃ M, N = M + 1 := ⟨N - 1, by omega⟩
    have ih := ih M (by omega)
    exact fun _ _ _ _ _ _ _ _ _ _ _ _ _ hl1 hl2 hl3 hl4 hl5 hl6 hl7 hl8 hl9 hl10 hl11 h => show Tg W0 (vX11_faces_45 (rx_J vhX11_faces M)) _ _ _ _ from TX11_faces_45 hl1 hl2 hl3 hl4 hl5 hl6 hl7 hl8 hl9 hl10 hl11 ih h
def PX11_faces (o : Int) (a1 : Int) (G : gS) (Q : Int → gS → Prop) : Prop := ∃ f : Nat, f ≤ 4000000000 ∧ PX11_faces_0 (PX11_faces_J f) o a1 G Q
theorem TX11_faces {o : Int} {a1 : Int} {G : gS} {Q : Int → gS → Prop} (ha1 : inI a1) (h : PX11_faces o a1 G Q) : Tn W0 FX11_faces [rf (o), cI (a1)] G (fun r G => ∃ v, r = cI v ∧ inI v ∧ Q v G) := by
  obtain ⟨f, hf, h⟩ := h
  have hJ := TX11_faces_J (Q := Q) f 4000000000 hf
  unfold FX11_faces
  refine g_ent (lv' := [rf (o), cI (a1), 7, 7, 7, 7, 7, 7, 7, 7, 7, 7]) (flR (flI fl0)) (Nat.le_of_ble_eq_true rfl) rfl ?_
  exact TX11_faces_0 ha1 hJ h
def PX0_whereLooked_96 (J : Nat → List Int → gS → (Int → gS → Prop) → Prop) (l1 : Int) (l2 : Int) (l3 : Int) (l4 : Int) (l5 : Int) (l6 : Int) (G : gS) (Q : Int → gS → Prop) : Prop :=
  ((l6 < l5 → ((G 815 0 = -1 ∨ isO W0 11 (G 815 0)) → (isO W0 11 (G 815 0) ∧ ((0 : Int) ≤ (l1 * 64) + l6 ∧ (((l1 * 64) + l6 : Int) < 4096 ∧ (inI (G ((G 815 0) + 9) ((l1 * 64) + l6)) → ((0 : Int) ≤ l3 ∧ ((l3 : Int) < 130 ∧ (∀ G41 : gS, G41 = uG G 819 l3 (G ((G 815 0) + 9) ((l1 * 64) + l6)) → (inI (l3 + 1) ∧ (inI (l6 + 1) ∧ J 1 [l1, l2, l3 + 1, l4, l5, l6 + 1] G41 Q))))))))))) ∧ (¬ (l6 < l5) → Q (l3) G))
set_option maxRecDepth 20000 in
theorem TX0_whereLooked_96 {j : Nat → rx_K} {J : Nat → List Int → gS → (Int → gS → Prop) → Prop} {l1 : Int} {l2 : Int} {l3 : Int} {l4 : Int} {l5 : Int} {l6 : Int} {G : gS} {Q : Int → gS → Prop} (hl1 : inI l1) (hl2 : inI l2) (hl3 : inI l3) (hl4 : inI l4) (hl5 : inI l5) (hl6 : inI l6) (hj0 : ∀ (l1 : Int) (l2 : Int) (l3 : Int) (l4 : Int) (l5 : Int) (l6 : Nat) (G : gS), (inI l1) → (inI l2) → (inI l3) → (inI l4) → (inI l5) → (l6 % 8 ≠ 1) → J 0 [l1, l2, l3, l4, l5] G Q → Tg W0 (j 0) [rf (815), cI (l1), cI (l2), cI (l3), cI (l4), cI (l5), l6] [] G (fun r G => ∃ v, r = cI v ∧ inI v ∧ Q v G)) (hj1 : ∀ (l1 : Int) (l2 : Int) (l3 : Int) (l4 : Int) (l5 : Int) (l6 : Int) (G : gS), (inI l1) → (inI l2) → (inI l3) → (inI l4) → (inI l5) → (inI l6) → J 1 [l1, l2, l3, l4, l5, l6] G Q → Tg W0 (j 1) [rf (815), cI (l1), cI (l2), cI (l3), cI (l4), cI (l5), cI (l6)] [] G (fun r G => ∃ v, r = cI v ∧ inI v ∧ Q v G)) (h : PX0_whereLooked_96 J l1 l2 l3 l4 l5 l6 G Q) : Tg W0 (vX0_whereLooked_96 j) [rf (815), cI (l1), cI (l2), cI (l3), cI (l4), cI (l5), cI (l6)] [] G (fun r G => ∃ v, r = cI v ∧ inI v ∧ Q v G) := by
  unfold PX0_whereLooked_96 at h
  unfold vX0_whereLooked_96
  refine g_ld (v := cI _) rfl (is_I _) ?_
  refine g_ld (v := cI _) rfl (is_I _) ?_
  refine g_lt2 hl6 hl5 (fun b33 => ?_) (fun b33 => ?_)
  · replace h := h.1 b33
    unfold vX0_whereLooked_103
    refine g_ld (v := rf _) rfl (is_R _) ?_
    refine g_getF (v := 819) oC0 (hC0_15) rfl (Nat.le_of_ble_eq_true rfl) (Nat.le_of_ble_eq_true rfl) ?_
    refine g_ld (v := cI _) rfl (is_I _) ?_
    refine g_ld (v := rf _) rfl (is_R _) ?_
    refine g_getR (kz := 0) (c := 11) oC0 rfl (Nat.le_of_ble_eq_true rfl) rfl (by decide) fun i34 => ?_
    replace h := h i34
    obtain ⟨q35, h⟩ := h
    refine g_getF q35 (ff11_10 q35).1 rfl (Nat.le_of_ble_eq_true rfl) (Nat.le_of_ble_eq_true rfl) ?_
    refine g_ld (v := cI _) rfl (is_I _) ?_
    refine g_const (v := cI (64)) rfl ?_
    refine g_mul ?_
    refine g_ld (v := cI _) rfl (is_I _) ?_
    refine g_add ?_
    obtain ⟨q36, q37, h⟩ := h
    refine g_aldI (ff11_10 q35).2 q36 q37 rfl fun i38 => ?_
    replace h := h i38
    obtain ⟨q39, q40, h⟩ := h
    refine g_astI aC819 q39 q40 i38 (nfI aC819) ?_
    replace h := h _ rfl
    refine g_inc (lv' := [_, _, _, _, _, _, _]) rfl (Nat.le_of_ble_eq_true rfl) (Or.inr (n1_I _)) rfl ?_
    obtain ⟨q42, h⟩ := h
    refine g_inc (lv' := [_, _, _, _, _, _, _]) rfl (Nat.le_of_ble_eq_true rfl) (Or.inr (n1_I _)) rfl ?_
    obtain ⟨q43, h⟩ := h
    exact hj1 _ _ _ _ _ _ _ hl1 hl2 q42 hl4 hl5 q43 h
  · replace h := h.2 b33
    unfold vX0_whereLooked_133
    refine g_ld (v := cI _) rfl (is_I _) ?_
    exact g_ret1 (is_I _) ⟨_, rfl, hl3, h⟩
def PX0_whereLooked_91 (J : Nat → List Int → gS → (Int → gS → Prop) → Prop) (l1 : Int) (l2 : Int) (l3 : Int) (l4 : Int) (l5 : Int) (s0 : Int) (G : gS) (Q : Int → gS → Prop) : Prop :=
  PX0_whereLooked_96 J l1 l2 l3 l4 s0 0 G Q
set_option maxRecDepth 20000 in
theorem TX0_whereLooked_91 {j : Nat → rx_K} {J : Nat → List Int → gS → (Int → gS → Prop) → Prop} {l1 : Int} {l2 : Int} {l3 : Int} {l4 : Int} {l5 : Int} {l6 : Nat} {s0 : Int} {G : gS} {Q : Int → gS → Prop} (hl1 : inI l1) (hl2 : inI l2) (hl3 : inI l3) (hl4 : inI l4) (hl5 : inI l5) (hl6 : l6 % 8 ≠ 1) (hs0 : inI s0) (hj0 : ∀ (l1 : Int) (l2 : Int) (l3 : Int) (l4 : Int) (l5 : Int) (l6 : Nat) (G : gS), (inI l1) → (inI l2) → (inI l3) → (inI l4) → (inI l5) → (l6 % 8 ≠ 1) → J 0 [l1, l2, l3, l4, l5] G Q → Tg W0 (j 0) [rf (815), cI (l1), cI (l2), cI (l3), cI (l4), cI (l5), l6] [] G (fun r G => ∃ v, r = cI v ∧ inI v ∧ Q v G)) (hj1 : ∀ (l1 : Int) (l2 : Int) (l3 : Int) (l4 : Int) (l5 : Int) (l6 : Int) (G : gS), (inI l1) → (inI l2) → (inI l3) → (inI l4) → (inI l5) → (inI l6) → J 1 [l1, l2, l3, l4, l5, l6] G Q → Tg W0 (j 1) [rf (815), cI (l1), cI (l2), cI (l3), cI (l4), cI (l5), cI (l6)] [] G (fun r G => ∃ v, r = cI v ∧ inI v ∧ Q v G)) (h : PX0_whereLooked_91 J l1 l2 l3 l4 l5 s0 G Q) : Tg W0 (vX0_whereLooked_91 j) [rf (815), cI (l1), cI (l2), cI (l3), cI (l4), cI (l5), l6] [cI (s0)] G (fun r G => ∃ v, r = cI v ∧ inI v ∧ Q v G) := by
  unfold PX0_whereLooked_91 at h
  unfold vX0_whereLooked_91
  refine g_st (lv' := [_, _, _, _, _, _, _]) (is_I _) (Nat.le_of_ble_eq_true rfl) (Or.inr (n1_I _)) rfl ?_
  refine g_const (v := cI (0)) rfl ?_
  refine g_st (lv' := [_, _, _, _, _, _, _]) (is_I _) (Nat.le_of_ble_eq_true rfl) (Or.inr (n1_I _)) rfl ?_
  exact TX0_whereLooked_96 hl1 hl2 hl3 hl4 hs0 ⟨by omega, by omega⟩ hj0 hj1 h
def PX0_whereLooked_75 (J : Nat → List Int → gS → (Int → gS → Prop) → Prop) (l1 : Int) (l2 : Int) (l3 : Int) (l4 : Int) (l5 : Int) (G : gS) (Q : Int → gS → Prop) : Prop :=
  ((l2 = 0 → ((G 815 0 = -1 ∨ isO W0 11 (G 815 0)) → (isO W0 11 (G 815 0) ∧ PX11_faces (G 815 0) l1 G (fun r31 G30 => inI r31 → PX0_whereLooked_91 J l1 l2 l3 l4 l5 r31 G30 Q)))) ∧ (¬ (l2 = 0) → PX0_whereLooked_91 J l1 l2 l3 l4 l5 0 G Q))
set_option maxRecDepth 20000 in
theorem TX0_whereLooked_75 {j : Nat → rx_K} {J : Nat → List Int → gS → (Int → gS → Prop) → Prop} {l1 : Int} {l2 : Int} {l3 : Int} {l4 : Int} {l5 : Int} {l6 : Nat} {G : gS} {Q : Int → gS → Prop} (hl1 : inI l1) (hl2 : inI l2) (hl3 : inI l3) (hl4 : inI l4) (hl5 : inI l5) (hl6 : l6 % 8 ≠ 1) (hj0 : ∀ (l1 : Int) (l2 : Int) (l3 : Int) (l4 : Int) (l5 : Int) (l6 : Nat) (G : gS), (inI l1) → (inI l2) → (inI l3) → (inI l4) → (inI l5) → (l6 % 8 ≠ 1) → J 0 [l1, l2, l3, l4, l5] G Q → Tg W0 (j 0) [rf (815), cI (l1), cI (l2), cI (l3), cI (l4), cI (l5), l6] [] G (fun r G => ∃ v, r = cI v ∧ inI v ∧ Q v G)) (hj1 : ∀ (l1 : Int) (l2 : Int) (l3 : Int) (l4 : Int) (l5 : Int) (l6 : Int) (G : gS), (inI l1) → (inI l2) → (inI l3) → (inI l4) → (inI l5) → (inI l6) → J 1 [l1, l2, l3, l4, l5, l6] G Q → Tg W0 (j 1) [rf (815), cI (l1), cI (l2), cI (l3), cI (l4), cI (l5), cI (l6)] [] G (fun r G => ∃ v, r = cI v ∧ inI v ∧ Q v G)) (h : PX0_whereLooked_75 J l1 l2 l3 l4 l5 G Q) : Tg W0 (vX0_whereLooked_75 j) [rf (815), cI (l1), cI (l2), cI (l3), cI (l4), cI (l5), l6] [] G (fun r G => ∃ v, r = cI v ∧ inI v ∧ Q v G) := by
  unfold PX0_whereLooked_75 at h
  unfold vX0_whereLooked_75
  refine g_ld (v := cI _) rfl (is_I _) ?_
  refine g_eq1 hl2 (fun b27 => ?_) (fun b27 => ?_)
  · replace h := h.1 b27
    unfold vX0_whereLooked_83
    refine g_ld (v := rf _) rfl (is_R _) ?_
    refine g_getR (kz := 0) (c := 11) oC0 rfl (Nat.le_of_ble_eq_true rfl) rfl (by decide) fun i28 => ?_
    replace h := h i28
    refine g_ld (v := cI _) rfl (is_I _) ?_
    obtain ⟨q29, h⟩ := h
    refine g_callV (As := [_]) (ci := 11) q29 (fun _ => rfl) ?_
    refine g_go1 (Nat.le_of_ble_eq_true rfl) (Tn_w (TX11_faces hl1 h) fun _ G30 ⟨r31, e, i32, h⟩ => ?_)
    subst e
    refine ⟨n7_I _, ?_⟩
    replace h := h i32
    exact TX0_whereLooked_91 hl1 hl2 hl3 hl4 hl5 hl6 i32 hj0 hj1 h
  · replace h := h.2 b27
    unfold vX0_whereLooked_79
    refine g_const (v := cI (0)) rfl ?_
    exact TX0_whereLooked_91 hl1 hl2 hl3 hl4 hl5 hl6 ⟨by omega, by omega⟩ hj0 hj1 h
def PX0_whereLooked_23 (J : Nat → List Int → gS → (Int → gS → Prop) → Prop) (l1 : Int) (l2 : Int) (l3 : Int) (l4 : Int) (l5 : Int) (G : gS) (Q : Int → gS → Prop) : Prop :=
  ((G 815 0 = -1 ∨ isO W0 11 (G 815 0)) → (isO W0 11 (G 815 0) ∧ ((0 : Int) ≤ l1 ∧ ((l1 : Int) < 64 ∧ (inI (G ((G 815 0) + 3) l1) → ((l5 < G ((G 815 0) + 3) l1 → ((l4 < 0 → PX0_whereLooked_75 J l1 l2 l3 l4 l5 G Q) ∧ (¬ (l4 < 0) → ((l2 = 0 → ((0 : Int) ≤ l3 ∧ ((l3 : Int) < 130 ∧ (∀ G19 : gS, G19 = uG G 819 l3 (l4) → (inI (l3 + 1) ∧ ((G19 815 0 = -1 ∨ isO W0 11 (G19 815 0)) → (isO W0 11 (G19 815 0) ∧ ((0 : Int) ≤ l4 ∧ ((l4 : Int) < 64 ∧ (inI (G19 ((G19 815 0) + 2) l4) → (inI (l5 + 1) ∧ J 0 [l1, l2, l3 + 1, G19 ((G19 815 0) + 2) l4, l5 + 1] G19 Q))))))))))) ∧ (¬ (l2 = 0) → PX0_whereLooked_75 J l1 l2 l3 l4 l5 G Q))))) ∧ (¬ (l5 < G ((G 815 0) + 3) l1) → PX0_whereLooked_75 J l1 l2 l3 l4 l5 G Q)))))))
set_option maxRecDepth 20000 in
theorem TX0_whereLooked_23 {j : Nat → rx_K} {J : Nat → List Int → gS → (Int → gS → Prop) → Prop} {l1 : Int} {l2 : Int} {l3 : Int} {l4 : Int} {l5 : Int} {l6 : Nat} {G : gS} {Q : Int → gS → Prop} (hl1 : inI l1) (hl2 : inI l2) (hl3 : inI l3) (hl4 : inI l4) (hl5 : inI l5) (hl6 : l6 % 8 ≠ 1) (hj0 : ∀ (l1 : Int) (l2 : Int) (l3 : Int) (l4 : Int) (l5 : Int) (l6 : Nat) (G : gS), (inI l1) → (inI l2) → (inI l3) → (inI l4) → (inI l5) → (l6 % 8 ≠ 1) → J 0 [l1, l2, l3, l4, l5] G Q → Tg W0 (j 0) [rf (815), cI (l1), cI (l2), cI (l3), cI (l4), cI (l5), l6] [] G (fun r G => ∃ v, r = cI v ∧ inI v ∧ Q v G)) (hj1 : ∀ (l1 : Int) (l2 : Int) (l3 : Int) (l4 : Int) (l5 : Int) (l6 : Int) (G : gS), (inI l1) → (inI l2) → (inI l3) → (inI l4) → (inI l5) → (inI l6) → J 1 [l1, l2, l3, l4, l5, l6] G Q → Tg W0 (j 1) [rf (815), cI (l1), cI (l2), cI (l3), cI (l4), cI (l5), cI (l6)] [] G (fun r G => ∃ v, r = cI v ∧ inI v ∧ Q v G)) (h : PX0_whereLooked_23 J l1 l2 l3 l4 l5 G Q) : Tg W0 (vX0_whereLooked_23 j) [rf (815), cI (l1), cI (l2), cI (l3), cI (l4), cI (l5), l6] [] G (fun r G => ∃ v, r = cI v ∧ inI v ∧ Q v G) := by
  unfold PX0_whereLooked_23 at h
  unfold vX0_whereLooked_23
  refine g_ld (v := cI _) rfl (is_I _) ?_
  refine g_ld (v := rf _) rfl (is_R _) ?_
  refine g_getR (kz := 0) (c := 11) oC0 rfl (Nat.le_of_ble_eq_true rfl) rfl (by decide) fun i9 => ?_
  replace h := h i9
  obtain ⟨q10, h⟩ := h
  refine g_getF q10 (ff11_4 q10).1 rfl (Nat.le_of_ble_eq_true rfl) (Nat.le_of_ble_eq_true rfl) ?_
  refine g_ld (v := cI _) rfl (is_I _) ?_
  obtain ⟨q11, q12, h⟩ := h
  refine g_aldI (ff11_4 q10).2 q11 q12 rfl fun i13 => ?_
  replace h := h i13
  refine g_lt2 hl5 i13 (fun b14 => ?_) (fun b14 => ?_)
  · replace h := h.1 b14
    unfold vX0_whereLooked_37
    refine g_ld (v := cI _) rfl (is_I _) ?_
    refine g_lt1 hl4 (fun b15 => ?_) (fun b15 => ?_)
    · replace h := h.1 b15
      exact TX0_whereLooked_75 hl1 hl2 hl3 hl4 hl5 hl6 hj0 hj1 h
    · replace h := h.2 b15
      unfold vX0_whereLooked_42
      refine g_ld (v := cI _) rfl (is_I _) ?_
      refine g_eq1 hl2 (fun b16 => ?_) (fun b16 => ?_)
      · replace h := h.1 b16
        unfold vX0_whereLooked_46
        refine g_ld (v := rf _) rfl (is_R _) ?_
        refine g_getF (v := 819) oC0 (hC0_15) rfl (Nat.le_of_ble_eq_true rfl) (Nat.le_of_ble_eq_true rfl) ?_
        refine g_ld (v := cI _) rfl (is_I _) ?_
        refine g_ld (v := cI _) rfl (is_I _) ?_
        obtain ⟨q17, q18, h⟩ := h
        refine g_astI aC819 q17 q18 hl4 (nfI aC819) ?_
        replace h := h _ rfl
        refine g_inc (lv' := [_, _, _, _, _, _, _]) rfl (Nat.le_of_ble_eq_true rfl) (Or.inr (n1_I _)) rfl ?_
        obtain ⟨q20, h⟩ := h
        refine g_ld (v := rf _) rfl (is_R _) ?_
        refine g_getR (kz := 0) (c := 11) oC0 rfl (Nat.le_of_ble_eq_true rfl) rfl (by decide) fun i21 => ?_
        replace h := h i21
        obtain ⟨q22, h⟩ := h
        refine g_getF q22 (ff11_3 q22).1 rfl (Nat.le_of_ble_eq_true rfl) (Nat.le_of_ble_eq_true rfl) ?_
        refine g_ld (v := cI _) rfl (is_I _) ?_
        obtain ⟨q23, q24, h⟩ := h
        refine g_aldI (ff11_3 q22).2 q23 q24 rfl fun i25 => ?_
        replace h := h i25
        refine g_st (lv' := [_, _, _, _, _, _, _]) (is_I _) (Nat.le_of_ble_eq_true rfl) (Or.inr (n1_I _)) rfl ?_
        refine g_inc (lv' := [_, _, _, _, _, _, _]) rfl (Nat.le_of_ble_eq_true rfl) (Or.inr (n1_I _)) rfl ?_
        obtain ⟨q26, h⟩ := h
        exact hj0 _ _ _ _ _ _ _ hl1 hl2 q20 i25 q26 hl6 h
      · replace h := h.2 b16
        exact TX0_whereLooked_75 hl1 hl2 hl3 hl4 hl5 hl6 hj0 hj1 h
  · replace h := h.2 b14
    exact TX0_whereLooked_75 hl1 hl2 hl3 hl4 hl5 hl6 hj0 hj1 h
def PX0_whereLooked_0 (J : Nat → List Int → gS → (Int → gS → Prop) → Prop) (a1 : Int) (a2 : Int) (G : gS) (Q : Int → gS → Prop) : Prop :=
  ((0 : Int) ≤ 0 ∧ ((0 : Int) < 130 ∧ (∀ G3 : gS, G3 = uG G 819 0 (a1) → ((G3 815 0 = -1 ∨ isO W0 11 (G3 815 0)) → (isO W0 11 (G3 815 0) ∧ ((0 : Int) ≤ a1 ∧ ((a1 : Int) < 64 ∧ (inI (G3 ((G3 815 0) + 2) a1) → PX0_whereLooked_23 J a1 a2 1 (G3 ((G3 815 0) + 2) a1) 0 G3 Q))))))))
set_option maxRecDepth 20000 in
theorem TX0_whereLooked_0 {j : Nat → rx_K} {J : Nat → List Int → gS → (Int → gS → Prop) → Prop} {a1 : Int} {a2 : Int} {G : gS} {Q : Int → gS → Prop} (ha1 : inI a1) (ha2 : inI a2) (hj0 : ∀ (l1 : Int) (l2 : Int) (l3 : Int) (l4 : Int) (l5 : Int) (l6 : Nat) (G : gS), (inI l1) → (inI l2) → (inI l3) → (inI l4) → (inI l5) → (l6 % 8 ≠ 1) → J 0 [l1, l2, l3, l4, l5] G Q → Tg W0 (j 0) [rf (815), cI (l1), cI (l2), cI (l3), cI (l4), cI (l5), l6] [] G (fun r G => ∃ v, r = cI v ∧ inI v ∧ Q v G)) (hj1 : ∀ (l1 : Int) (l2 : Int) (l3 : Int) (l4 : Int) (l5 : Int) (l6 : Int) (G : gS), (inI l1) → (inI l2) → (inI l3) → (inI l4) → (inI l5) → (inI l6) → J 1 [l1, l2, l3, l4, l5, l6] G Q → Tg W0 (j 1) [rf (815), cI (l1), cI (l2), cI (l3), cI (l4), cI (l5), cI (l6)] [] G (fun r G => ∃ v, r = cI v ∧ inI v ∧ Q v G)) (h : PX0_whereLooked_0 J a1 a2 G Q) : Tg W0 (vX0_whereLooked_0 j) [rf (815), cI (a1), cI (a2), 7, 7, 7, 7] [] G (fun r G => ∃ v, r = cI v ∧ inI v ∧ Q v G) := by
  unfold PX0_whereLooked_0 at h
  unfold vX0_whereLooked_0
  refine g_ld (v := rf _) rfl (is_R _) ?_
  refine g_getF (v := 819) oC0 (hC0_15) rfl (Nat.le_of_ble_eq_true rfl) (Nat.le_of_ble_eq_true rfl) ?_
  refine g_const (v := cI (0)) rfl ?_
  refine g_ld (v := cI _) rfl (is_I _) ?_
  obtain ⟨q1, q2, h⟩ := h
  refine g_astI aC819 q1 q2 ha1 (nfI aC819) ?_
  replace h := h _ rfl
  refine g_const (v := cI (1)) rfl ?_
  refine g_st (lv' := [_, _, _, _, _, _, _]) (is_I _) (Nat.le_of_ble_eq_true rfl) (Or.inr (n1_I _)) rfl ?_
  refine g_ld (v := rf _) rfl (is_R _) ?_
  refine g_getR (kz := 0) (c := 11) oC0 rfl (Nat.le_of_ble_eq_true rfl) rfl (by decide) fun i4 => ?_
  replace h := h i4
  obtain ⟨q5, h⟩ := h
  refine g_getF q5 (ff11_3 q5).1 rfl (Nat.le_of_ble_eq_true rfl) (Nat.le_of_ble_eq_true rfl) ?_
  refine g_ld (v := cI _) rfl (is_I _) ?_
  obtain ⟨q6, q7, h⟩ := h
  refine g_aldI (ff11_3 q5).2 q6 q7 rfl fun i8 => ?_
  replace h := h i8
  refine g_st (lv' := [_, _, _, _, _, _, _]) (is_I _) (Nat.le_of_ble_eq_true rfl) (Or.inr (n1_I _)) rfl ?_
  refine g_const (v := cI (0)) rfl ?_
  refine g_st (lv' := [_, _, _, _, _, _, _]) (is_I _) (Nat.le_of_ble_eq_true rfl) (Or.inr (n1_I _)) rfl ?_
  exact TX0_whereLooked_23 ha1 ha2 ⟨by omega, by omega⟩ i8 ⟨by omega, by omega⟩ (show 7 % 8 ≠ 1 by decide) hj0 hj1 h
def PX0_whereLooked_J : Nat → Nat → List Int → gS → (Int → gS → Prop) → Prop
  | 0, _, _, _, _ => False
  | f + 1, h, L, G, Q => match h, L with
    | 0, [l1, l2, l3, l4, l5] => PX0_whereLooked_23 (PX0_whereLooked_J f) l1 l2 l3 l4 l5 G Q
    | 1, [l1, l2, l3, l4, l5, l6] => PX0_whereLooked_96 (PX0_whereLooked_J f) l1 l2 l3 l4 l5 l6 G Q
    | _, _ => False
theorem TX0_whereLooked_J {Q : Int → gS → Prop} : ∀ f N : Nat, f ≤ N → (∀ (l1 : Int) (l2 : Int) (l3 : Int) (l4 : Int) (l5 : Int) (l6 : Nat) (G : gS), (inI l1) → (inI l2) → (inI l3) → (inI l4) → (inI l5) → (l6 % 8 ≠ 1) → (PX0_whereLooked_J f) 0 [l1, l2, l3, l4, l5] G Q → Tg W0 (rx_J vhX0_whereLooked N 0) [rf (815), cI (l1), cI (l2), cI (l3), cI (l4), cI (l5), l6] [] G (fun r G => ∃ v, r = cI v ∧ inI v ∧ Q v G)) ∧ (∀ (l1 : Int) (l2 : Int) (l3 : Int) (l4 : Int) (l5 : Int) (l6 : Int) (G : gS), (inI l1) → (inI l2) → (inI l3) → (inI l4) → (inI l5) → (inI l6) → (PX0_whereLooked_J f) 1 [l1, l2, l3, l4, l5, l6] G Q → Tg W0 (rx_J vhX0_whereLooked N 1) [rf (815), cI (l1), cI (l2), cI (l3), cI (l4), cI (l5), cI (l6)] [] G (fun r G => ∃ v, r = cI v ∧ inI v ∧ Q v G)) := by
  intro f
  induction f with
  | zero => exact fun N _ => ⟨fun _ _ _ _ _ _ _ _ _ _ _ _ _ h => h.elim, fun _ _ _ _ _ _ _ _ _ _ _ _ _ h => h.elim⟩
  | succ f ih =>
    intro N hN
    obtain ⟨M, rfl⟩ : ∃ M, N = M + 1 := ⟨N - 1, by omega⟩
    have ih := ih M (by omega)
    exact ⟨fun _ _ _ _ _ _ _ hl1 hl2 hl3 hl4 hl5 hl6 h => show Tg W0 (vX0_whereLooked_23 (rx_J vhX0_whereLooked M)) _ _ _ _ from TX0_whereLooked_23 hl1 hl2 hl3 hl4 hl5 hl6 ih.1 ih.2 h, fun _ _ _ _ _ _ _ hl1 hl2 hl3 hl4 hl5 hl6 h => show Tg W0 (vX0_whereLooked_96 (rx_J vhX0_whereLooked M)) _ _ _ _ from TX0_whereLooked_96 hl1 hl2 hl3 hl4 hl5 hl6 ih.1 ih.2 h⟩
def PX0_whereLooked (a1 : Int) (a2 : Int) (G : gS) (Q : Int → gS → Prop) : Prop := ∃ f : Nat, f ≤ 4000000000 ∧ PX0_whereLooked_0 (PX0_whereLooked_J f) a1 a2 G Q
theorem TX0_whereLooked {a1 : Int} {a2 : Int} {G : gS} {Q : Int → gS → Prop} (ha1 : inI a1) (ha2 : inI a2) (h : PX0_whereLooked a1 a2 G Q) : Tn W0 FX0_whereLooked [rf (815), cI (a1), cI (a2)] G (fun r G => ∃ v, r = cI v ∧ inI v ∧ Q v G) := by
  obtain ⟨f, hf, h⟩ := h
  have hJ := TX0_whereLooked_J (Q := Q) f 4000000000 hf
  unfold FX0_whereLooked
  refine g_ent (lv' := [rf (815), cI (a1), cI (a2), 7, 7, 7, 7]) (flR (flI (flI fl0))) (Nat.le_of_ble_eq_true rfl) rfl ?_
  exact TX0_whereLooked_0 ha1 ha2 hJ.1 hJ.2 h
end DE

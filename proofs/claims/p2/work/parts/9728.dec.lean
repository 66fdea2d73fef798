section DE
def PX9_scanAll_49 (J : Nat → List Int → gS → (Int → gS → Prop) → Prop) (l1 : Int) (l2 : Int) (l3 : Int) (l4 : Int) (G : gS) (Q : Int → gS → Prop) : Prop :=
  (inI (G 7 5) → ((0 : Int) ≤ G 7 5 ∧ ((G 7 5 : Int) < 704 ∧ (∀ G15 : gS, G15 = uG G 9 (G 7 5) (0) → (inI (G15 7 5) → (inI (G15 7 7) → ((0 : Int) ≤ G15 7 5 ∧ ((G15 7 5 : Int) < 704 ∧ (∀ G20 : gS, G20 = uG G15 10 (G15 7 5) (G15 7 7) → (inI (G20 7 5) → (inI (G20 7 7) → ((0 : Int) ≤ G20 7 5 ∧ ((G20 7 5 : Int) < 704 ∧ (∀ G25 : gS, G25 = uG G20 11 (G20 7 5) (G20 7 7) → Q 0 G25))))))))))))))
set_option maxRecDepth 20000 in
theorem TX9_scanAll_49 {j : Nat → rx_K} {J : Nat → List Int → gS → (Int → gS → Prop) → Prop} {l1 : Int} {l2 : Int} {l3 : Int} {l4 : Int} {G : gS} {Q : Int → gS → Prop} (hl2 : inI l2) (hl3 : inI l3) (hl4 : inI l4) (hj0 : ∀ (l1 : Int) (l2 : Int) (l3 : Int) (l4 : Int) (G : gS), (inI l2) → (inI l3) → (inI l4) → J 0 [l1, l2, l3, l4] G Q → Tg W0 (j 0) [rf (7), rf (l1), cI (l2), cI (l3), cI (l4)] [] G (fun r G => r = 7 ∧ Q 0 G)) (h : PX9_scanAll_49 J l1 l2 l3 l4 G Q) : Tg W0 (vX9_scanAll_49 j) [rf (7), rf (l1), cI (l2), cI (l3), cI (l4)] [] G (fun r G => r = 7 ∧ Q 0 G) := by
  unfold PX9_scanAll_49 at h
  unfold vX9_scanAll_49
  refine g_ld (v := rf _) rfl (is_R _) ?_
  refine g_getF (v := 9) oC9 (hC9_1) rfl (Nat.le_of_ble_eq_true rfl) (Nat.le_of_ble_eq_true rfl) ?_
  refine g_ld (v := rf _) rfl (is_R _) ?_
  refine g_getI (kz := 5) oC9 rfl (Nat.le_of_ble_eq_true rfl) rfl fun i12 => ?_
  replace h := h i12
  refine g_const (v := cI (0)) rfl ?_
  obtain ⟨q13, q14, h⟩ := h
  refine g_astI aC9 q13 q14 ⟨by omega, by omega⟩ (nfI aC9) ?_
  replace h := h _ rfl
  refine g_ld (v := rf _) rfl (is_R _) ?_
  refine g_getF (v := 10) oC9 (hC9_2) rfl (Nat.le_of_ble_eq_true rfl) (Nat.le_of_ble_eq_true rfl) ?_
  refine g_ld (v := rf _) rfl (is_R _) ?_
  refine g_getI (kz := 5) oC9 rfl (Nat.le_of_ble_eq_true rfl) rfl fun i16 => ?_
  replace h := h i16
  refine g_ld (v := rf _) rfl (is_R _) ?_
  refine g_getI (kz := 7) oC9 rfl (Nat.le_of_ble_eq_true rfl) rfl fun i17 => ?_
  replace h := h i17
  obtain ⟨q18, q19, h⟩ := h
  refine g_astI aC10 q18 q19 i17 (nfI aC10) ?_
  replace h := h _ rfl
  refine g_ld (v := rf _) rfl (is_R _) ?_
  refine g_getF (v := 11) oC9 (hC9_3) rfl (Nat.le_of_ble_eq_true rfl) (Nat.le_of_ble_eq_true rfl) ?_
  refine g_ld (v := rf _) rfl (is_R _) ?_
  refine g_getI (kz := 5) oC9 rfl (Nat.le_of_ble_eq_true rfl) rfl fun i21 => ?_
  replace h := h i21
  refine g_ld (v := rf _) rfl (is_R _) ?_
  refine g_getI (kz := 7) oC9 rfl (Nat.le_of_ble_eq_true rfl) rfl fun i22 => ?_
  replace h := h i22
  obtain ⟨q23, q24, h⟩ := h
  refine g_astI aC11 q23 q24 i22 (nfI aC11) ?_
  replace h := h _ rfl
  exact g_ret0 ⟨rfl, h⟩
def PX9_scanAll_25 (J : Nat → List Int → gS → (Int → gS → Prop) → Prop) (l1 : Int) (l2 : Int) (l3 : Int) (l4 : Int) (G : gS) (Q : Int → gS → Prop) : Prop :=
  ((l4 < 702 → ((l3 < 0 → PX9_scanAll_49 J l1 l2 l3 l4 G Q) ∧ (¬ (l3 < 0) → PX9_scan l3 G (fun r9 G8 => inI r9 → (inI (l4 + 1) ∧ J 0 [l1, l2, r9, l4 + 1] G8 Q))))) ∧ (¬ (l4 < 702) → PX9_scanAll_49 J l1 l2 l3 l4 G Q))
set_option maxRecDepth 20000 in
theorem TX9_scanAll_25 {j : Nat → rx_K} {J : Nat → List Int → gS → (Int → gS → Prop) → Prop} {l1 : Int} {l2 : Int} {l3 : Int} {l4 : Int} {G : gS} {Q : Int → gS → Prop} (hl2 : inI l2) (hl3 : inI l3) (hl4 : inI l4) (hj0 : ∀ (l1 : Int) (l2 : Int) (l3 : Int) (l4 : Int) (G : gS), (inI l2) → (inI l3) → (inI l4) → J 0 [l1, l2, l3, l4] G Q → Tg W0 (j 0) [rf (7), rf (l1), cI (l2), cI (l3), cI (l4)] [] G (fun r G => r = 7 ∧ Q 0 G)) (h : PX9_scanAll_25 J l1 l2 l3 l4 G Q) : Tg W0 (vX9_scanAll_25 j) [rf (7), rf (l1), cI (l2), cI (l3), cI (l4)] [] G (fun r G => r = 7 ∧ Q 0 G) := by
  unfold PX9_scanAll_25 at h
  unfold vX9_scanAll_25
  refine g_ld (v := cI _) rfl (is_I _) ?_
  refine g_const (v := cI (702)) rfl ?_
  refine g_lt2 hl4 ⟨by omega, by omega⟩ (fun b6 => ?_) (fun b6 => ?_)
  · replace h := h.1 b6
    unfold vX9_scanAll_33
    refine g_ld (v := cI _) rfl (is_I _) ?_
    refine g_lt1 hl3 (fun b7 => ?_) (fun b7 => ?_)
    · replace h := h.1 b7
      exact TX9_scanAll_49 hl2 hl3 hl4 hj0 h
    · replace h := h.2 b7
      unfold vX9_scanAll_37
      refine g_ld (v := rf _) rfl (is_R _) ?_
      refine g_ld (v := cI _) rfl (is_I _) ?_
      refine g_callV (As := [_]) (ci := 9) oC9 (fun _ => rfl) ?_
      refine g_go1 (Nat.le_of_ble_eq_true rfl) (Tn_w (TX9_scan hl3 h) fun _ G8 ⟨r9, e, i10, h⟩ => ?_)
      subst e
      refine ⟨n7_I _, ?_⟩
      replace h := h i10
      refine g_st (lv' := [_, _, _, _, _]) (is_I _) (Nat.le_of_ble_eq_true rfl) (Or.inr (n1_I _)) rfl ?_
      refine g_inc (lv' := [_, _, _, _, _]) rfl (Nat.le_of_ble_eq_true rfl) (Or.inr (n1_I _)) rfl ?_
      obtain ⟨q11, h⟩ := h
      exact hj0 _ _ _ _ _ hl2 i10 q11 h
  · replace h := h.2 b6
    exact TX9_scanAll_49 hl2 hl3 hl4 hj0 h
def PX9_scanAll_0 (J : Nat → List Int → gS → (Int → gS → Prop) → Prop) (a1 : Int) (a2 : Int) (G : gS) (Q : Int → gS → Prop) : Prop :=
  ((a1 = -1 ∨ ∃ n, isA W0 2 n (a1)) ∧ (∀ G2 : gS, G2 = uG G 7 6 (a1) → (∀ G3 : gS, G3 = uG G2 7 7 (a2) → (∀ G4 : gS, G4 = uG G3 7 5 (0) → (∀ G5 : gS, G5 = uG G4 7 8 (0) → PX9_scanAll_25 J a1 a2 0 0 G5 Q)))))
set_option maxRecDepth 20000 in
theorem TX9_scanAll_0 {j : Nat → rx_K} {J : Nat → List Int → gS → (Int → gS → Prop) → Prop} {a1 : Int} {a2 : Int} {G : gS} {Q : Int → gS → Prop} (ha2 : inI a2) (hj0 : ∀ (l1 : Int) (l2 : Int) (l3 : Int) (l4 : Int) (G : gS), (inI l2) → (inI l3) → (inI l4) → J 0 [l1, l2, l3, l4] G Q → Tg W0 (j 0) [rf (7), rf (l1), cI (l2), cI (l3), cI (l4)] [] G (fun r G => r = 7 ∧ Q 0 G)) (h : PX9_scanAll_0 J a1 a2 G Q) : Tg W0 (vX9_scanAll_0 j) [rf (7), rf (a1), cI (a2), 7, 7] [] G (fun r G => r = 7 ∧ Q 0 G) := by
  unfold PX9_scanAll_0 at h
  unfold vX9_scanAll_0
  refine g_ld (v := rf _) rfl (is_R _) ?_
  refine g_ld (v := rf _) rfl (is_R _) ?_
  obtain ⟨q1, h⟩ := h
  refine g_putA (kz := 6) (c := 2) oC9 rfl (Nat.le_of_ble_eq_true rfl) rfl q1 (zfin_no (c := 7) (j := 6) rfl) ?_
  replace h := h _ rfl
  refine g_ld (v := rf _) rfl (is_R _) ?_
  refine g_ld (v := cI _) rfl (is_I _) ?_
  refine g_putI (kz := 7) oC9 rfl (Nat.le_of_ble_eq_true rfl) rfl ha2 (zfin_no (c := 7) (j := 7) rfl) ?_
  replace h := h _ rfl
  refine g_ld (v := rf _) rfl (is_R _) ?_
  refine g_const (v := cI (0)) rfl ?_
  refine g_putI (kz := 5) oC9 rfl (Nat.le_of_ble_eq_true rfl) rfl ⟨by omega, by omega⟩ (zfin_no (c := 7) (j := 5) rfl) ?_
  replace h := h _ rfl
  refine g_ld (v := rf _) rfl (is_R _) ?_
  refine g_const (v := cI (0)) rfl ?_
  refine g_putI (kz := 8) oC9 rfl (Nat.le_of_ble_eq_true rfl) rfl ⟨by omega, by omega⟩ (zfin_no (c := 7) (j := 8) rfl) ?_
  replace h := h _ rfl
  refine g_const (v := cI (0)) rfl ?_
  refine g_st (lv' := [_, _, _, _, _]) (is_I _) (Nat.le_of_ble_eq_true rfl) (Or.inr (n1_I _)) rfl ?_
  refine g_const (v := cI (0)) rfl ?_
  refine g_st (lv' := [_, _, _, _, _]) (is_I _) (Nat.le_of_ble_eq_true rfl) (Or.inr (n1_I _)) rfl ?_
  exact TX9_scanAll_25 ha2 ⟨by omega, by omega⟩ ⟨by omega, by omega⟩ hj0 h
def PX9_scanAll_J : Nat → Nat → List Int → gS → (Int → gS → Prop) → Prop
  | 0, _, _, _, _ => False
  | f + 1, h, L, G, Q => match h, L with
    | 0, [l1, l2, l3, l4] => PX9_scanAll_25 (PX9_scanAll_J f) l1 l2 l3 l4 G Q
    | _, _ => False
theorem TX9_scanAll_J {Q : Int → gS → Prop} : ∀ f N : Nat, f ≤ N → (∀ (l1 : Int) (l2 : Int) (l3 : Int) (l4 : Int) (G : gS), (inI l2) → (inI l3) → (inI l4) → (PX9_scanAll_J f) 0 [l1, l2, l3, l4] G Q → Tg W0 (rx_J vhX9_scanAll N 0) [rf (7), rf (l1), cI (l2), cI (l3), cI (l4)] [] G (fun r G => r = 7 ∧ Q 0 G)) := by
  intro f
  induction f with
  | zero => exact fun N _ => fun _ _ _ _ _ _ _ _ h => h.elim
  | succ f ih =>
    intro N hN
    obtain ⟨M, rfl⟩ : ∃ M, N = M + 1 := ⟨N - 1, by omega⟩
    have ih := ih M (by omega)
    exact fun _ _ _ _ _ hl2 hl3 hl4 h => show Tg W0 (vX9_scanAll_25 (rx_J vhX9_scanAll M)) _ _ _ _ from TX9_scanAll_25 hl2 hl3 hl4 ih h
def PX9_scanAll (a1 : Int) (a2 : Int) (G : gS) (Q : Int → gS → Prop) : Prop := ∃ f : Nat, f ≤ 4000000000 ∧ PX9_scanAll_0 (PX9_scanAll_J f) a1 a2 G Q
theorem TX9_scanAll {a1 : Int} {a2 : Int} {G : gS} {Q : Int → gS → Prop} (ha2 : inI a2) (h : PX9_scanAll a1 a2 G Q) : Tn W0 FX9_scanAll [rf (7), rf (a1), cI (a2)] G (fun r G => r = 7 ∧ Q 0 G) := by
  obtain ⟨f, hf, h⟩ := h
  have hJ := TX9_scanAll_J (Q := Q) f 4000000000 hf
  unfold FX9_scanAll
  refine g_ent (lv' := [rf (7), rf (a1), cI (a2), 7, 7]) (flR (flR (flI fl0))) (Nat.le_of_ble_eq_true rfl) rfl ?_
  exact TX9_scanAll_0 ha2 hJ h
end DE

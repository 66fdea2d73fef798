section DE
def PX13_tokenAt_502 (J : Nat → List Int → gS → (Int → gS → Prop) → Prop) (l1 : Int) (l2 : Int) (l3 : Int) (l4 : Int) (l5 : Int) (s0 : Int) (G : gS) (Q : Int → gS → Prop) : Prop :=
  Q (s0) G
set_option maxRecDepth 20000 in
theorem TX13_tokenAt_502 {j : Nat → rx_K} {J : Nat → List Int → gS → (Int → gS → Prop) → Prop} {l1 : Int} {l2 : Int} {l3 : Int} {l4 : Int} {l5 : Int} {l6 : Nat} {l7 : Nat} {s0 : Int} {G : gS} {Q : Int → gS → Prop} (hl1 : inI l1) (hl2 : inI l2) (hl3 : inI l3) (hl4 : inI l4) (hl5 : inI l5) (hl6 : l6 % 8 ≠ 1) (hl7 : l7 % 8 ≠ 1) (hs0 : inI s0) (hj0 : ∀ (l1 : Int) (l2 : Int) (l3 : Int) (l4 : Int) (l5 : Int) (l6 : Nat) (l7 : Int) (G : gS), (inI l1) → (inI l2) → (inI l3) → (inI l4) → (inL l5) → (l6 % 8 ≠ 1) → (inI l7) → J 0 [l1, l2, l3, l4, l5, l7] G Q → Tg W0 (j 0) [rf (16081), cI (l1), cI (l2), cI (l3), cI (l4), cL (l5), l6, cI (l7)] [] G (fun r G => ∃ v, r = cI v ∧ inI v ∧ Q v G)) (hj1 : ∀ (l1 : Int) (l2 : Int) (l3 : Int) (l4 : Int) (l5 : Int) (l6 : Nat) (l7 : Int) (G : gS), (inI l1) → (inI l2) → (inI l3) → (inI l4) → (inL l5) → (l6 % 8 ≠ 1) → (inI l7) → J 1 [l1, l2, l3, l4, l5, l7] G Q → Tg W0 (j 1) [rf (16081), cI (l1), cI (l2), cI (l3), cI (l4), cL (l5), l6, cI (l7)] [] G (fun r G => ∃ v, r = cI v ∧ inI v ∧ Q v G)) (hj2 : ∀ (l1 : Int) (l2 : Int) (l3 : Int) (l4 : Int) (l5 : Int) (l6 : Nat) (l7 : Nat) (G : gS), (inI l1) → (inI l2) → (inI l3) → (inI l4) → (inI l5) → (l6 % 8 ≠ 1) → (l7 % 8 ≠ 1) → J 2 [l1, l2, l3, l4, l5] G Q → Tg W0 (j 2) [rf (16081), cI (l1), cI (l2), cI (l3), cI (l4), cI (l5), l6, l7] [] G (fun r G => ∃ v, r = cI v ∧ inI v ∧ Q v G)) (h : PX13_tokenAt_502 J l1 l2 l3 l4 l5 s0 G Q) : Tg W0 (vX13_tokenAt_502 j) [rf (16081), cI (l1), cI (l2), cI (l3), cI (l4), cI (l5), l6, l7] [cI (s0)] G (fun r G => ∃ v, r = cI v ∧ inI v ∧ Q v G) := by
  unfold PX13_tokenAt_502 at h
  unfold vX13_tokenAt_502
  exact g_ret1 (is_I _) ⟨_, rfl, hs0, h⟩
def PX13_tokenAt_487 (J : Nat → List Int → gS → (Int → gS → Prop) → Prop) (l1 : Int) (l2 : Int) (l3 : Int) (l4 : Int) (l5 : Int) (s0 : Int) (s1 : Int) (s2 : Int) (G : gS) (Q : Int → gS → Prop) : Prop :=
  (∃ n137, isA W0 0 n137 (s0) ∧ ((0 : Int) ≤ s1 ∧ ((s1 : Int) < n137 ∧ (∀ G141 : gS, G141 = uG G s0 s1 (s2) → ((l5 = 0 → (inI (l2 + 1) ∧ PX13_tokenAt_502 J l1 l2 l3 l4 l5 (l2 + 1) G141 Q)) ∧ (¬ (l5 = 0) → (inI (l2 + 2) ∧ PX13_tokenAt_502 J l1 l2 l3 l4 l5 (l2 + 2) G141 Q)))))))
set_option maxRecDepth 20000 in
theorem TX13_tokenAt_487 {j : Nat → rx_K} {J : Nat → List Int → gS → (Int → gS → Prop) → Prop} {l1 : Int} {l2 : Int} {l3 : Int} {l4 : Int} {l5 : Int} {l6 : Nat} {l7 : Nat} {s0 : Int} {s1 : Int} {s2 : Int} {G : gS} {Q : Int → gS → Prop} (hl1 : inI l1) (hl2 : inI l2) (hl3 : inI l3) (hl4 : inI l4) (hl5 : inI l5) (hl6 : l6 % 8 ≠ 1) (hl7 : l7 % 8 ≠ 1) (hs1 : inI s1) (hs2 : inI s2) (hj0 : ∀ (l1 : Int) (l2 : Int) (l3 : Int) (l4 : Int) (l5 : Int) (l6 : Nat) (l7 : Int) (G : gS), (inI l1) → (inI l2) → (inI l3) → (inI l4) → (inL l5) → (l6 % 8 ≠ 1) → (inI l7) → J 0 [l1, l2, l3, l4, l5, l7] G Q → Tg W0 (j 0) [rf (16081), cI (l1), cI (l2), cI (l3), cI (l4), cL (l5), l6, cI (l7)] [] G (fun r G => ∃ v, r = cI v ∧ inI v ∧ Q v G)) (hj1 : ∀ (l1 : Int) (l2 : Int) (l3 : Int) (l4 : Int) (l5 : Int) (l6 : Nat) (l7 : Int) (G : gS), (inI l1) → (inI l2) → (inI l3) → (inI l4) → (inL l5) → (l6 % 8 ≠ 1) → (inI l7) → J 1 [l1, l2, l3, l4, l5, l7] G Q → Tg W0 (j 1) [rf (16081), cI (l1), cI (l2), cI (l3), cI (l4), cL (l5), l6, cI (l7)] [] G (fun r G => ∃ v, r = cI v ∧ inI v ∧ Q v G)) (hj2 : ∀ (l1 : Int) (l2 : Int) (l3 : Int) (l4 : Int) (l5 : Int) (l6 : Nat) (l7 : Nat) (G : gS), (inI l1) → (inI l2) → (inI l3) → (inI l4) → (inI l5) → (l6 % 8 ≠ 1) → (l7 % 8 ≠ 1) → J 2 [l1, l2, l3, l4, l5] G Q → Tg W0 (j 2) [rf (16081), cI (l1), cI (l2), cI (l3), cI (l4), cI (l5), l6, l7] [] G (fun r G => ∃ v, r = cI v ∧ inI v ∧ Q v G)) (h : PX13_tokenAt_487 J l1 l2 l3 l4 l5 s0 s1 s2 G Q) : Tg W0 (vX13_tokenAt_487 j) [rf (16081), cI (l1), cI (l2), cI (l3), cI (l4), cI (l5), l6, l7] [cI (s2), cI (s1), rf (s0)] G (fun r G => ∃ v, r = cI v ∧ inI v ∧ Q v G) := by
  unfold PX13_tokenAt_487 at h
  unfold vX13_tokenAt_487
  obtain ⟨n137, q138, h⟩ := h
  obtain ⟨q139, q140, h⟩ := h
  refine g_astI q138 q139 q140 hs2 (nfI q138) ?_
  replace h := h _ rfl
  refine g_ld (v := cI _) rfl (is_I _) ?_
  refine g_eq1 hl5 (fun b142 => ?_) (fun b142 => ?_)
  · replace h := h.1 b142
    unfold vX13_tokenAt_499
    refine g_ld (v := cI _) rfl (is_I _) ?_
    refine g_const (v := cI (1)) rfl ?_
    refine g_add ?_
    obtain ⟨q143, h⟩ := h
    exact TX13_tokenAt_502 hl1 hl2 hl3 hl4 hl5 hl6 hl7 q143 hj0 hj1 hj2 h
  · replace h := h.2 b142
    unfold vX13_tokenAt_493
    refine g_ld (v := cI _) rfl (is_I _) ?_
    refine g_const (v := cI (2)) rfl ?_
    refine g_add ?_
    obtain ⟨q144, h⟩ := h
    exact TX13_tokenAt_502 hl1 hl2 hl3 hl4 hl5 hl6 hl7 q144 hj0 hj1 hj2 h
def PX13_tokenAt_468 (J : Nat → List Int → gS → (Int → gS → Prop) → Prop) (l1 : Int) (l2 : Int) (l3 : Int) (l4 : Int) (s0 : Int) (G : gS) (Q : Int → gS → Prop) : Prop :=
  ((s0 = 0 → PX13_tokenAt_487 J l1 l2 l3 l4 s0 16094 l1 l3 G Q) ∧ (¬ (s0 = 0) → PX13_tokenAt_487 J l1 l2 l3 l4 s0 16094 l1 256 G Q))
set_option maxRecDepth 20000 in
theorem TX13_tokenAt_468 {j : Nat → rx_K} {J : Nat → List Int → gS → (Int → gS → Prop) → Prop} {l1 : Int} {l2 : Int} {l3 : Int} {l4 : Int} {l5 : Nat} {l6 : Nat} {l7 : Nat} {s0 : Int} {G : gS} {Q : Int → gS → Prop} (hl1 : inI l1) (hl2 : inI l2) (hl3 : inI l3) (hl4 : inI l4) (hl5 : l5 % 8 ≠ 1) (hl6 : l6 % 8 ≠ 1) (hl7 : l7 % 8 ≠ 1) (hs0 : inI s0) (hj0 : ∀ (l1 : Int) (l2 : Int) (l3 : Int) (l4 : Int) (l5 : Int) (l6 : Nat) (l7 : Int) (G : gS), (inI l1) → (inI l2) → (inI l3) → (inI l4) → (inL l5) → (l6 % 8 ≠ 1) → (inI l7) → J 0 [l1, l2, l3, l4, l5, l7] G Q → Tg W0 (j 0) [rf (16081), cI (l1), cI (l2), cI (l3), cI (l4), cL (l5), l6, cI (l7)] [] G (fun r G => ∃ v, r = cI v ∧ inI v ∧ Q v G)) (hj1 : ∀ (l1 : Int) (l2 : Int) (l3 : Int) (l4 : Int) (l5 : Int) (l6 : Nat) (l7 : Int) (G : gS), (inI l1) → (inI l2) → (inI l3) → (inI l4) → (inL l5) → (l6 % 8 ≠ 1) → (inI l7) → J 1 [l1, l2, l3, l4, l5, l7] G Q → Tg W0 (j 1) [rf (16081), cI (l1), cI (l2), cI (l3), cI (l4), cL (l5), l6, cI (l7)] [] G (fun r G => ∃ v, r = cI v ∧ inI v ∧ Q v G)) (hj2 : ∀ (l1 : Int) (l2 : Int) (l3 : Int) (l4 : Int) (l5 : Int) (l6 : Nat) (l7 : Nat) (G : gS), (inI l1) → (inI l2) → (inI l3) → (inI l4) → (inI l5) → (l6 % 8 ≠ 1) → (l7 % 8 ≠ 1) → J 2 [l1, l2, l3, l4, l5] G Q → Tg W0 (j 2) [rf (16081), cI (l1), cI (l2), cI (l3), cI (l4), cI (l5), l6, l7] [] G (fun r G => ∃ v, r = cI v ∧ inI v ∧ Q v G)) (h : PX13_tokenAt_468 J l1 l2 l3 l4 s0 G Q) : Tg W0 (vX13_tokenAt_468 j) [rf (16081), cI (l1), cI (l2), cI (l3), cI (l4), l5, l6, l7] [cI (s0)] G (fun r G => ∃ v, r = cI v ∧ inI v ∧ Q v G) := by
  unfold PX13_tokenAt_468 at h
  unfold vX13_tokenAt_468
  refine g_st (lv' := [_, _, _, _, _, _, _, _]) (is_I _) (Nat.le_of_ble_eq_true rfl) (Or.inr (n1_I _)) rfl ?_
  refine g_ld (v := rf _) rfl (is_R _) ?_
  refine g_getF (v := 16094) oC13 (hC13_15) rfl (Nat.le_of_ble_eq_true rfl) (Nat.le_of_ble_eq_true rfl) ?_
  refine g_ld (v := cI _) rfl (is_I _) ?_
  refine g_ld (v := cI _) rfl (is_I _) ?_
  refine g_eq1 hs0 (fun b136 => ?_) (fun b136 => ?_)
  · replace h := h.1 b136
    unfold vX13_tokenAt_486
    refine g_ld (v := cI _) rfl (is_I _) ?_
    exact TX13_tokenAt_487 hl1 hl2 hl3 hl4 hs0 hl6 hl7 hl1 hl3 hj0 hj1 hj2 h
  · replace h := h.2 b136
    unfold vX13_tokenAt_480
    refine g_const (v := cI (256)) rfl ?_
    exact TX13_tokenAt_487 hl1 hl2 hl3 hl4 hs0 hl6 hl7 hl1 ⟨by omega, by omega⟩ hj0 hj1 hj2 h
def PX13_tokenAt_467 (J : Nat → List Int → gS → (Int → gS → Prop) → Prop) (l1 : Int) (l2 : Int) (l3 : Int) (l4 : Int) (G : gS) (Q : Int → gS → Prop) : Prop :=
  PX13_tokenAt_468 J l1 l2 l3 l4 0 G Q
set_option maxRecDepth 20000 in
theorem TX13_tokenAt_467 {j : Nat → rx_K} {J : Nat → List Int → gS → (Int → gS → Prop) → Prop} {l1 : Int} {l2 : Int} {l3 : Int} {l4 : Int} {l5 : Nat} {l6 : Nat} {l7 : Nat} {G : gS} {Q : Int → gS → Prop} (hl1 : inI l1) (hl2 : inI l2) (hl3 : inI l3) (hl4 : inI l4) (hl5 : l5 % 8 ≠ 1) (hl6 : l6 % 8 ≠ 1) (hl7 : l7 % 8 ≠ 1) (hj0 : ∀ (l1 : Int) (l2 : Int) (l3 : Int) (l4 : Int) (l5 : Int) (l6 : Nat) (l7 : Int) (G : gS), (inI l1) → (inI l2) → (inI l3) → (inI l4) → (inL l5) → (l6 % 8 ≠ 1) → (inI l7) → J 0 [l1, l2, l3, l4, l5, l7] G Q → Tg W0 (j 0) [rf (16081), cI (l1), cI (l2), cI (l3), cI (l4), cL (l5), l6, cI (l7)] [] G (fun r G => ∃ v, r = cI v ∧ inI v ∧ Q v G)) (hj1 : ∀ (l1 : Int) (l2 : Int) (l3 : Int) (l4 : Int) (l5 : Int) (l6 : Nat) (l7 : Int) (G : gS), (inI l1) → (inI l2) → (inI l3) → (inI l4) → (inL l5) → (l6 % 8 ≠ 1) → (inI l7) → J 1 [l1, l2, l3, l4, l5, l7] G Q → Tg W0 (j 1) [rf (16081), cI (l1), cI (l2), cI (l3), cI (l4), cL (l5), l6, cI (l7)] [] G (fun r G => ∃ v, r = cI v ∧ inI v ∧ Q v G)) (hj2 : ∀ (l1 : Int) (l2 : Int) (l3 : Int) (l4 : Int) (l5 : Int) (l6 : Nat) (l7 : Nat) (G : gS), (inI l1) → (inI l2) → (inI l3) → (inI l4) → (inI l5) → (l6 % 8 ≠ 1) → (l7 % 8 ≠ 1) → J 2 [l1, l2, l3, l4, l5] G Q → Tg W0 (j 2) [rf (16081), cI (l1), cI (l2), cI (l3), cI (l4), cI (l5), l6, l7] [] G (fun r G => ∃ v, r = cI v ∧ inI v ∧ Q v G)) (h : PX13_tokenAt_467 J l1 l2 l3 l4 G Q) : Tg W0 (vX13_tokenAt_467 j) [rf (16081), cI (l1), cI (l2), cI (l3), cI (l4), l5, l6, l7] [] G (fun r G => ∃ v, r = cI v ∧ inI v ∧ Q v G) := by
  unfold PX13_tokenAt_467 at h
  unfold vX13_tokenAt_467
  refine g_const (v := cI (0)) rfl ?_
  exact TX13_tokenAt_468 hl1 hl2 hl3 hl4 hl5 hl6 hl7 ⟨by omega, by omega⟩ hj0 hj1 hj2 h
def PX13_tokenAt_444 (J : Nat → List Int → gS → (Int → gS → Prop) → Prop) (l1 : Int) (l2 : Int) (l3 : Int) (l4 : Int) (s0 : Int) (s1 : Int) (s2 : Int) (G : gS) (Q : Int → gS → Prop) : Prop :=
  (∃ n109, isA W0 0 n109 (s0) ∧ ((0 : Int) ≤ s1 ∧ ((s1 : Int) < n109 ∧ (∀ G113 : gS, G113 = uG G s0 s1 (s2) → ((l3 = 61 → (inI (l2 + 1) ∧ PX13_byteAt (l2 + 1) G113 (fun r117 G116 => inI r117 → ((r117 = 61 → PX13_tokenAt_468 J l1 l2 l3 l4 1 G116 Q) ∧ (¬ (r117 = 61) → PX13_tokenAt_467 J l1 l2 l3 l4 G116 Q))))) ∧ (¬ (l3 = 61) → PX13_tokenAt_467 J l1 l2 l3 l4 G113 Q))))))
set_option maxRecDepth 20000 in
theorem TX13_tokenAt_444 {j : Nat → rx_K} {J : Nat → List Int → gS → (Int → gS → Prop) → Prop} {l1 : Int} {l2 : Int} {l3 : Int} {l4 : Int} {l5 : Nat} {l6 : Nat} {l7 : Nat} {s0 : Int} {s1 : Int} {s2 : Int} {G : gS} {Q : Int → gS → Prop} (hl1 : inI l1) (hl2 : inI l2) (hl3 : inI l3) (hl4 : inI l4) (hl5 : l5 % 8 ≠ 1) (hl6 : l6 % 8 ≠ 1) (hl7 : l7 % 8 ≠ 1) (hs1 : inI s1) (hs2 : inI s2) (hj0 : ∀ (l1 : Int) (l2 : Int) (l3 : Int) (l4 : Int) (l5 : Int) (l6 : Nat) (l7 : Int) (G : gS), (inI l1) → (inI l2) → (inI l3) → (inI l4) → (inL l5) → (l6 % 8 ≠ 1) → (inI l7) → J 0 [l1, l2, l3, l4, l5, l7] G Q → Tg W0 (j 0) [rf (16081), cI (l1), cI (l2), cI (l3), cI (l4), cL (l5), l6, cI (l7)] [] G (fun r G => ∃ v, r = cI v ∧ inI v ∧ Q v G)) (hj1 : ∀ (l1 : Int) (l2 : Int) (l3 : Int) (l4 : Int) (l5 : Int) (l6 : Nat) (l7 : Int) (G : gS), (inI l1) → (inI l2) → (inI l3) → (inI l4) → (inL l5) → (l6 % 8 ≠ 1) → (inI l7) → J 1 [l1, l2, l3, l4, l5, l7] G Q → Tg W0 (j 1) [rf (16081), cI (l1), cI (l2), cI (l3), cI (l4), cL (l5), l6, cI (l7)] [] G (fun r G => ∃ v, r = cI v ∧ inI v ∧ Q v G)) (hj2 : ∀ (l1 : Int) (l2 : Int) (l3 : Int) (l4 : Int) (l5 : Int) (l6 : Nat) (l7 : Nat) (G : gS), (inI l1) → (inI l2) → (inI l3) → (inI l4) → (inI l5) → (l6 % 8 ≠ 1) → (l7 % 8 ≠ 1) → J 2 [l1, l2, l3, l4, l5] G Q → Tg W0 (j 2) [rf (16081), cI (l1), cI (l2), cI (l3), cI (l4), cI (l5), l6, l7] [] G (fun r G => ∃ v, r = cI v ∧ inI v ∧ Q v G)) (h : PX13_tokenAt_444 J l1 l2 l3 l4 s0 s1 s2 G Q) : Tg W0 (vX13_tokenAt_444 j) [rf (16081), cI (l1), cI (l2), cI (l3), cI (l4), l5, l6, l7] [cI (s2), cI (s1), rf (s0)] G (fun r G => ∃ v, r = cI v ∧ inI v ∧ Q v G) := by
  unfold PX13_tokenAt_444 at h
  unfold vX13_tokenAt_444
  obtain ⟨n109, q110, h⟩ := h
  obtain ⟨q111, q112, h⟩ := h
  refine g_astI q110 q111 q112 hs2 (nfI q110) ?_
  replace h := h _ rfl
  refine g_ld (v := cI _) rfl (is_I _) ?_
  refine g_const (v := cI (61)) rfl ?_
  refine g_eq2 hl3 ⟨by omega, by omega⟩ (fun b114 => ?_) (fun b114 => ?_)
  · replace h := h.1 b114
    unfold vX13_tokenAt_451
    refine g_ld (v := rf _) rfl (is_R _) ?_
    refine g_ld (v := cI _) rfl (is_I _) ?_
    refine g_const (v := cI (1)) rfl ?_
    refine g_add ?_
    obtain ⟨q115, h⟩ := h
    refine g_callV (As := [_]) (ci := 13) oC13 (fun _ => rfl) ?_
    refine g_go1 (Nat.le_of_ble_eq_true rfl) (Tn_w (TX13_byteAt q115 h) fun _ G116 ⟨r117, e, i118, h⟩ => ?_)
    subst e
    refine ⟨n7_I _, ?_⟩
    replace h := h i118
    refine g_const (v := cI (61)) rfl ?_
    refine g_eq2 i118 ⟨by omega, by omega⟩ (fun b119 => ?_) (fun b119 => ?_)
    · replace h := h.1 b119
      unfold vX13_tokenAt_463
      refine g_const (v := cI (1)) rfl ?_
      exact TX13_tokenAt_468 hl1 hl2 hl3 hl4 hl5 hl6 hl7 ⟨by omega, by omega⟩ hj0 hj1 hj2 h
    · replace h := h.2 b119
      exact TX13_tokenAt_467 hl1 hl2 hl3 hl4 hl5 hl6 hl7 hj0 hj1 hj2 h
  · replace h := h.2 b114
    exact TX13_tokenAt_467 hl1 hl2 hl3 hl4 hl5 hl6 hl7 hj0 hj1 hj2 h
def PX13_tokenAt_426 (J : Nat → List Int → gS → (Int → gS → Prop) → Prop) (l1 : Int) (l2 : Int) (l3 : Int) (s0 : Int) (G : gS) (Q : Int → gS → Prop) : Prop :=
  ((s0 = 0 → PX13_tokenAt_444 J l1 l2 l3 s0 16090 l1 6 G Q) ∧ (¬ (s0 = 0) → PX13_tokenAt_444 J l1 l2 l3 s0 16090 l1 5 G Q))
set_option maxRecDepth 20000 in
theorem TX13_tokenAt_426 {j : Nat → rx_K} {J : Nat → List Int → gS → (Int → gS → Prop) → Prop} {l1 : Int} {l2 : Int} {l3 : Int} {l4 : Nat} {l5 : Nat} {l6 : Nat} {l7 : Nat} {s0 : Int} {G : gS} {Q : Int → gS → Prop} (hl1 : inI l1) (hl2 : inI l2) (hl3 : inI l3) (hl4 : l4 % 8 ≠ 1) (hl5 : l5 % 8 ≠ 1) (hl6 : l6 % 8 ≠ 1) (hl7 : l7 % 8 ≠ 1) (hs0 : inI s0) (hj0 : ∀ (l1 : Int) (l2 : Int) (l3 : Int) (l4 : Int) (l5 : Int) (l6 : Nat) (l7 : Int) (G : gS), (inI l1) → (inI l2) → (inI l3) → (inI l4) → (inL l5) → (l6 % 8 ≠ 1) → (inI l7) → J 0 [l1, l2, l3, l4, l5, l7] G Q → Tg W0 (j 0) [rf (16081), cI (l1), cI (l2), cI (l3), cI (l4), cL (l5), l6, cI (l7)] [] G (fun r G => ∃ v, r = cI v ∧ inI v ∧ Q v G)) (hj1 : ∀ (l1 : Int) (l2 : Int) (l3 : Int) (l4 : Int) (l5 : Int) (l6 : Nat) (l7 : Int) (G : gS), (inI l1) → (inI l2) → (inI l3) → (inI l4) → (inL l5) → (l6 % 8 ≠ 1) → (inI l7) → J 1 [l1, l2, l3, l4, l5, l7] G Q → Tg W0 (j 1) [rf (16081), cI (l1), cI (l2), cI (l3), cI (l4), cL (l5), l6, cI (l7)] [] G (fun r G => ∃ v, r = cI v ∧ inI v ∧ Q v G)) (hj2 : ∀ (l1 : Int) (l2 : Int) (l3 : Int) (l4 : Int) (l5 : Int) (l6 : Nat) (l7 : Nat) (G : gS), (inI l1) → (inI l2) → (inI l3) → (inI l4) → (inI l5) → (l6 % 8 ≠ 1) → (l7 % 8 ≠ 1) → J 2 [l1, l2, l3, l4, l5] G Q → Tg W0 (j 2) [rf (16081), cI (l1), cI (l2), cI (l3), cI (l4), cI (l5), l6, l7] [] G (fun r G => ∃ v, r = cI v ∧ inI v ∧ Q v G)) (h : PX13_tokenAt_426 J l1 l2 l3 s0 G Q) : Tg W0 (vX13_tokenAt_426 j) [rf (16081), cI (l1), cI (l2), cI (l3), l4, l5, l6, l7] [cI (s0)] G (fun r G => ∃ v, r = cI v ∧ inI v ∧ Q v G) := by
  unfold PX13_tokenAt_426 at h
  unfold vX13_tokenAt_426
  refine g_st (lv' := [_, _, _, _, _, _, _, _]) (is_I _) (Nat.le_of_ble_eq_true rfl) (Or.inr (n1_I _)) rfl ?_
  refine g_ld (v := rf _) rfl (is_R _) ?_
  refine g_getF (v := 16090) oC13 (hC13_11) rfl (Nat.le_of_ble_eq_true rfl) (Nat.le_of_ble_eq_true rfl) ?_
  refine g_ld (v := cI _) rfl (is_I _) ?_
  refine g_ld (v := cI _) rfl (is_I _) ?_
  refine g_eq1 hs0 (fun b95 => ?_) (fun b95 => ?_)
  · replace h := h.1 b95
    unfold vX13_tokenAt_442
    refine g_const (v := cI (6)) rfl ?_
    exact TX13_tokenAt_444 hl1 hl2 hl3 hs0 hl5 hl6 hl7 hl1 ⟨by omega, by omega⟩ hj0 hj1 hj2 h
  · replace h := h.2 b95
    unfold vX13_tokenAt_438
    refine g_const (v := cI (5)) rfl ?_
    exact TX13_tokenAt_444 hl1 hl2 hl3 hs0 hl5 hl6 hl7 hl1 ⟨by omega, by omega⟩ hj0 hj1 hj2 h
def PX13_tokenAt_421 (J : Nat → List Int → gS → (Int → gS → Prop) → Prop) (l1 : Int) (l2 : Int) (l3 : Int) (G : gS) (Q : Int → gS → Prop) : Prop :=
  PX13_tokenAt_426 J l1 l2 l3 1 G Q
set_option maxRecDepth 20000 in
theorem TX13_tokenAt_421 {j : Nat → rx_K} {J : Nat → List Int → gS → (Int → gS → Prop) → Prop} {l1 : Int} {l2 : Int} {l3 : Int} {l4 : Nat} {l5 : Nat} {l6 : Nat} {l7 : Nat} {G : gS} {Q : Int → gS → Prop} (hl1 : inI l1) (hl2 : inI l2) (hl3 : inI l3) (hl4 : l4 % 8 ≠ 1) (hl5 : l5 % 8 ≠ 1) (hl6 : l6 % 8 ≠ 1) (hl7 : l7 % 8 ≠ 1) (hj0 : ∀ (l1 : Int) (l2 : Int) (l3 : Int) (l4 : Int) (l5 : Int) (l6 : Nat) (l7 : Int) (G : gS), (inI l1) → (inI l2) → (inI l3) → (inI l4) → (inL l5) → (l6 % 8 ≠ 1) → (inI l7) → J 0 [l1, l2, l3, l4, l5, l7] G Q → Tg W0 (j 0) [rf (16081), cI (l1), cI (l2), cI (l3), cI (l4), cL (l5), l6, cI (l7)] [] G (fun r G => ∃ v, r = cI v ∧ inI v ∧ Q v G)) (hj1 : ∀ (l1 : Int) (l2 : Int) (l3 : Int) (l4 : Int) (l5 : Int) (l6 : Nat) (l7 : Int) (G : gS), (inI l1) → (inI l2) → (inI l3) → (inI l4) → (inL l5) → (l6 % 8 ≠ 1) → (inI l7) → J 1 [l1, l2, l3, l4, l5, l7] G Q → Tg W0 (j 1) [rf (16081), cI (l1), cI (l2), cI (l3), cI (l4), cL (l5), l6, cI (l7)] [] G (fun r G => ∃ v, r = cI v ∧ inI v ∧ Q v G)) (hj2 : ∀ (l1 : Int) (l2 : Int) (l3 : Int) (l4 : Int) (l5 : Int) (l6 : Nat) (l7 : Nat) (G : gS), (inI l1) → (inI l2) → (inI l3) → (inI l4) → (inI l5) → (l6 % 8 ≠ 1) → (l7 % 8 ≠ 1) → J 2 [l1, l2, l3, l4, l5] G Q → Tg W0 (j 2) [rf (16081), cI (l1), cI (l2), cI (l3), cI (l4), cI (l5), l6, l7] [] G (fun r G => ∃ v, r = cI v ∧ inI v ∧ Q v G)) (h : PX13_tokenAt_421 J l1 l2 l3 G Q) : Tg W0 (vX13_tokenAt_421 j) [rf (16081), cI (l1), cI (l2), cI (l3), l4, l5, l6, l7] [] G (fun r G => ∃ v, r = cI v ∧ inI v ∧ Q v G) := by
  unfold PX13_tokenAt_421 at h
  unfold vX13_tokenAt_421
  refine g_const (v := cI (1)) rfl ?_
  exact TX13_tokenAt_426 hl1 hl2 hl3 hl4 hl5 hl6 hl7 ⟨by omega, by omega⟩ hj0 hj1 hj2 h
def PX13_tokenAt_349 (J : Nat → List Int → gS → (Int → gS → Prop) → Prop) (l1 : Int) (l2 : Int) (l3 : Int) (G : gS) (Q : Int → gS → Prop) : Prop :=
  ((l3 = 123 → PX13_tokenAt_421 J l1 l2 l3 G Q) ∧ (¬ (l3 = 123) → ((l3 = 125 → PX13_tokenAt_421 J l1 l2 l3 G Q) ∧ (¬ (l3 = 125) → ((l3 = 40 → PX13_tokenAt_421 J l1 l2 l3 G Q) ∧ (¬ (l3 = 40) → ((l3 = 41 → PX13_tokenAt_421 J l1 l2 l3 G Q) ∧ (¬ (l3 = 41) → ((l3 = 44 → PX13_tokenAt_421 J l1 l2 l3 G Q) ∧ (¬ (l3 = 44) → ((l3 = 59 → PX13_tokenAt_421 J l1 l2 l3 G Q) ∧ (¬ (l3 = 59) → ((l3 = 46 → PX13_tokenAt_421 J l1 l2 l3 G Q) ∧ (¬ (l3 = 46) → ((l3 = 61 → PX13_tokenAt_421 J l1 l2 l3 G Q) ∧ (¬ (l3 = 61) → ((l3 = 60 → PX13_tokenAt_421 J l1 l2 l3 G Q) ∧ (¬ (l3 = 60) → ((l3 = 43 → PX13_tokenAt_421 J l1 l2 l3 G Q) ∧ (¬ (l3 = 43) → ((l3 = 45 → PX13_tokenAt_421 J l1 l2 l3 G Q) ∧ (¬ (l3 = 45) → ((l3 = 42 → PX13_tokenAt_421 J l1 l2 l3 G Q) ∧ (¬ (l3 = 42) → PX13_tokenAt_426 J l1 l2 l3 0 G Q))))))))))))))))))))))))
set_option maxRecDepth 20000 in
theorem TX13_tokenAt_349 {j : Nat → rx_K} {J : Nat → List Int → gS → (Int → gS → Prop) → Prop} {l1 : Int} {l2 : Int} {l3 : Int} {l4 : Nat} {l5 : Nat} {l6 : Nat} {l7 : Nat} {G : gS} {Q : Int → gS → Prop} (hl1 : inI l1) (hl2 : inI l2) (hl3 : inI l3) (hl4 : l4 % 8 ≠ 1) (hl5 : l5 % 8 ≠ 1) (hl6 : l6 % 8 ≠ 1) (hl7 : l7 % 8 ≠ 1) (hj0 : ∀ (l1 : Int) (l2 : Int) (l3 : Int) (l4 : Int) (l5 : Int) (l6 : Nat) (l7 : Int) (G : gS), (inI l1) → (inI l2) → (inI l3) → (inI l4) → (inL l5) → (l6 % 8 ≠ 1) → (inI l7) → J 0 [l1, l2, l3, l4, l5, l7] G Q → Tg W0 (j 0) [rf (16081), cI (l1), cI (l2), cI (l3), cI (l4), cL (l5), l6, cI (l7)] [] G (fun r G => ∃ v, r = cI v ∧ inI v ∧ Q v G)) (hj1 : ∀ (l1 : Int) (l2 : Int) (l3 : Int) (l4 : Int) (l5 : Int) (l6 : Nat) (l7 : Int) (G : gS), (inI l1) → (inI l2) → (inI l3) → (inI l4) → (inL l5) → (l6 % 8 ≠ 1) → (inI l7) → J 1 [l1, l2, l3, l4, l5, l7] G Q → Tg W0 (j 1) [rf (16081), cI (l1), cI (l2), cI (l3), cI (l4), cL (l5), l6, cI (l7)] [] G (fun r G => ∃ v, r = cI v ∧ inI v ∧ Q v G)) (hj2 : ∀ (l1 : Int) (l2 : Int) (l3 : Int) (l4 : Int) (l5 : Int) (l6 : Nat) (l7 : Nat) (G : gS), (inI l1) → (inI l2) → (inI l3) → (inI l4) → (inI l5) → (l6 % 8 ≠ 1) → (l7 % 8 ≠ 1) → J 2 [l1, l2, l3, l4, l5] G Q → Tg W0 (j 2) [rf (16081), cI (l1), cI (l2), cI (l3), cI (l4), cI (l5), l6, l7] [] G (fun r G => ∃ v, r = cI v ∧ inI v ∧ Q v G)) (h : PX13_tokenAt_349 J l1 l2 l3 G Q) : Tg W0 (vX13_tokenAt_349 j) [rf (16081), cI (l1), cI (l2), cI (l3), l4, l5, l6, l7] [] G (fun r G => ∃ v, r = cI v ∧ inI v ∧ Q v G) := by
  unfold PX13_tokenAt_349 at h
  unfold vX13_tokenAt_349
  refine g_ld (v := cI _) rfl (is_I _) ?_
  refine g_const (v := cI (123)) rfl ?_
  refine g_eq2 hl3 ⟨by omega, by omega⟩ (fun b45 => ?_) (fun b45 => ?_)
  · replace h := h.1 b45
    exact TX13_tokenAt_421 hl1 hl2 hl3 hl4 hl5 hl6 hl7 hj0 hj1 hj2 h
  · replace h := h.2 b45
    unfold vX13_tokenAt_355
    refine g_ld (v := cI _) rfl (is_I _) ?_
    refine g_const (v := cI (125)) rfl ?_
    refine g_eq2 hl3 ⟨by omega, by omega⟩ (fun b46 => ?_) (fun b46 => ?_)
    · replace h := h.1 b46
      exact TX13_tokenAt_421 hl1 hl2 hl3 hl4 hl5 hl6 hl7 hj0 hj1 hj2 h
    · replace h := h.2 b46
      unfold vX13_tokenAt_361
      refine g_ld (v := cI _) rfl (is_I _) ?_
      refine g_const (v := cI (40)) rfl ?_
      refine g_eq2 hl3 ⟨by omega, by omega⟩ (fun b47 => ?_) (fun b47 => ?_)
      · replace h := h.1 b47
        exact TX13_tokenAt_421 hl1 hl2 hl3 hl4 hl5 hl6 hl7 hj0 hj1 hj2 h
      · replace h := h.2 b47
        unfold vX13_tokenAt_367
        refine g_ld (v := cI _) rfl (is_I _) ?_
        refine g_const (v := cI (41)) rfl ?_
        refine g_eq2 hl3 ⟨by omega, by omega⟩ (fun b48 => ?_) (fun b48 => ?_)
        · replace h := h.1 b48
          exact TX13_tokenAt_421 hl1 hl2 hl3 hl4 hl5 hl6 hl7 hj0 hj1 hj2 h
        · replace h := h.2 b48
          unfold vX13_tokenAt_373
          refine g_ld (v := cI _) rfl (is_I _) ?_
          refine g_const (v := cI (44)) rfl ?_
          refine g_eq2 hl3 ⟨by omega, by omega⟩ (fun b49 => ?_) (fun b49 => ?_)
          · replace h := h.1 b49
            exact TX13_tokenAt_421 hl1 hl2 hl3 hl4 hl5 hl6 hl7 hj0 hj1 hj2 h
          · replace h := h.2 b49
            unfold vX13_tokenAt_379
            refine g_ld (v := cI _) rfl (is_I _) ?_
            refine g_const (v := cI (59)) rfl ?_
            refine g_eq2 hl3 ⟨by omega, by omega⟩ (fun b50 => ?_) (fun b50 => ?_)
            · replace h := h.1 b50
              exact TX13_tokenAt_421 hl1 hl2 hl3 hl4 hl5 hl6 hl7 hj0 hj1 hj2 h
            · replace h := h.2 b50
              unfold vX13_tokenAt_385
              refine g_ld (v := cI _) rfl (is_I _) ?_
              refine g_const (v := cI (46)) rfl ?_
              refine g_eq2 hl3 ⟨by omega, by omega⟩ (fun b51 => ?_) (fun b51 => ?_)
              · replace h := h.1 b51
                exact TX13_tokenAt_421 hl1 hl2 hl3 hl4 hl5 hl6 hl7 hj0 hj1 hj2 h
              · replace h := h.2 b51
                unfold vX13_tokenAt_391
                refine g_ld (v := cI _) rfl (is_I _) ?_
                refine g_const (v := cI (61)) rfl ?_
                refine g_eq2 hl3 ⟨by omega, by omega⟩ (fun b52 => ?_) (fun b52 => ?_)
                · replace h := h.1 b52
                  exact TX13_tokenAt_421 hl1 hl2 hl3 hl4 hl5 hl6 hl7 hj0 hj1 hj2 h
                · replace h := h.2 b52
                  unfold vX13_tokenAt_397
                  refine g_ld (v := cI _) rfl (is_I _) ?_
                  refine g_const (v := cI (60)) rfl ?_
                  refine g_eq2 hl3 ⟨by omega, by omega⟩ (fun b53 => ?_) (fun b53 => ?_)
                  · replace h := h.1 b53
                    exact TX13_tokenAt_421 hl1 hl2 hl3 hl4 hl5 hl6 hl7 hj0 hj1 hj2 h
                  · replace h := h.2 b53
                    unfold vX13_tokenAt_403
                    refine g_ld (v := cI _) rfl (is_I _) ?_
                    refine g_const (v := cI (43)) rfl ?_
                    refine g_eq2 hl3 ⟨by omega, by omega⟩ (fun b54 => ?_) (fun b54 => ?_)
                    · replace h := h.1 b54
                      exact TX13_tokenAt_421 hl1 hl2 hl3 hl4 hl5 hl6 hl7 hj0 hj1 hj2 h
                    · replace h := h.2 b54
                      unfold vX13_tokenAt_409
                      refine g_ld (v := cI _) rfl (is_I _) ?_
                      refine g_const (v := cI (45)) rfl ?_
                      refine g_eq2 hl3 ⟨by omega, by omega⟩ (fun b55 => ?_) (fun b55 => ?_)
                      · replace h := h.1 b55
                        exact TX13_tokenAt_421 hl1 hl2 hl3 hl4 hl5 hl6 hl7 hj0 hj1 hj2 h
                      · replace h := h.2 b55
                        unfold vX13_tokenAt_415
                        refine g_ld (v := cI _) rfl (is_I _) ?_
                        refine g_const (v := cI (42)) rfl ?_
                        refine g_eq2 hl3 ⟨by omega, by omega⟩ (fun b56 => ?_) (fun b56 => ?_)
                        · replace h := h.1 b56
                          exact TX13_tokenAt_421 hl1 hl2 hl3 hl4 hl5 hl6 hl7 hj0 hj1 hj2 h
                        · replace h := h.2 b56
                          unfold vX13_tokenAt_425
                          refine g_const (v := cI (0)) rfl ?_
                          exact TX13_tokenAt_426 hl1 hl2 hl3 hl4 hl5 hl6 hl7 ⟨by omega, by omega⟩ hj0 hj1 hj2 h
def PX13_tokenAt_337 (J : Nat → List Int → gS → (Int → gS → Prop) → Prop) (l1 : Int) (l2 : Int) (l3 : Int) (l4 : Int) (l5 : Int) (s0 : Int) (s1 : Int) (s2 : Int) (G : gS) (Q : Int → gS → Prop) : Prop :=
  (∃ n120, isA W0 0 n120 (s0) ∧ ((0 : Int) ≤ s1 ∧ ((s1 : Int) < n120 ∧ (∀ G124 : gS, G124 = uG G s0 s1 (s2) → ((0 : Int) ≤ l1 ∧ ((l1 : Int) < 12636 ∧ (∀ G127 : gS, G127 = uG G124 16094 l1 (l5) → Q (l4) G127)))))))
set_option maxRecDepth 20000 in
theorem TX13_tokenAt_337 {j : Nat → rx_K} {J : Nat → List Int → gS → (Int → gS → Prop) → Prop} {l1 : Int} {l2 : Int} {l3 : Int} {l4 : Int} {l5 : Int} {l6 : Nat} {l7 : Nat} {s0 : Int} {s1 : Int} {s2 : Int} {G : gS} {Q : Int → gS → Prop} (hl1 : inI l1) (hl2 : inI l2) (hl3 : inI l3) (hl4 : inI l4) (hl5 : inI l5) (hl6 : l6 % 8 ≠ 1) (hl7 : l7 % 8 ≠ 1) (hs1 : inI s1) (hs2 : inI s2) (hj0 : ∀ (l1 : Int) (l2 : Int) (l3 : Int) (l4 : Int) (l5 : Int) (l6 : Nat) (l7 : Int) (G : gS), (inI l1) → (inI l2) → (inI l3) → (inI l4) → (inL l5) → (l6 % 8 ≠ 1) → (inI l7) → J 0 [l1, l2, l3, l4, l5, l7] G Q → Tg W0 (j 0) [rf (16081), cI (l1), cI (l2), cI (l3), cI (l4), cL (l5), l6, cI (l7)] [] G (fun r G => ∃ v, r = cI v ∧ inI v ∧ Q v G)) (hj1 : ∀ (l1 : Int) (l2 : Int) (l3 : Int) (l4 : Int) (l5 : Int) (l6 : Nat) (l7 : Int) (G : gS), (inI l1) → (inI l2) → (inI l3) → (inI l4) → (inL l5) → (l6 % 8 ≠ 1) → (inI l7) → J 1 [l1, l2, l3, l4, l5, l7] G Q → Tg W0 (j 1) [rf (16081), cI (l1), cI (l2), cI (l3), cI (l4), cL (l5), l6, cI (l7)] [] G (fun r G => ∃ v, r = cI v ∧ inI v ∧ Q v G)) (hj2 : ∀ (l1 : Int) (l2 : Int) (l3 : Int) (l4 : Int) (l5 : Int) (l6 : Nat) (l7 : Nat) (G : gS), (inI l1) → (inI l2) → (inI l3) → (inI l4) → (inI l5) → (l6 % 8 ≠ 1) → (l7 % 8 ≠ 1) → J 2 [l1, l2, l3, l4, l5] G Q → Tg W0 (j 2) [rf (16081), cI (l1), cI (l2), cI (l3), cI (l4), cI (l5), l6, l7] [] G (fun r G => ∃ v, r = cI v ∧ inI v ∧ Q v G)) (h : PX13_tokenAt_337 J l1 l2 l3 l4 l5 s0 s1 s2 G Q) : Tg W0 (vX13_tokenAt_337 j) [rf (16081), cI (l1), cI (l2), cI (l3), cI (l4), cI (l5), l6, l7] [cI (s2), cI (s1), rf (s0)] G (fun r G => ∃ v, r = cI v ∧ inI v ∧ Q v G) := by
  unfold PX13_tokenAt_337 at h
  unfold vX13_tokenAt_337
  obtain ⟨n120, q121, h⟩ := h
  obtain ⟨q122, q123, h⟩ := h
  refine g_astI q121 q122 q123 hs2 (nfI q121) ?_
  replace h := h _ rfl
  refine g_ld (v := rf _) rfl (is_R _) ?_
  refine g_getF (v := 16094) oC13 (hC13_15) rfl (Nat.le_of_ble_eq_true rfl) (Nat.le_of_ble_eq_true rfl) ?_
  refine g_ld (v := cI _) rfl (is_I _) ?_
  refine g_ld (v := cI _) rfl (is_I _) ?_
  obtain ⟨q125, q126, h⟩ := h
  refine g_astI aC16094 q125 q126 hl5 (nfI aC16094) ?_
  replace h := h _ rfl
  refine g_ld (v := cI _) rfl (is_I _) ?_
  exact g_ret1 (is_I _) ⟨_, rfl, hl4, h⟩
def PX13_tokenAt_317 (J : Nat → List Int → gS → (Int → gS → Prop) → Prop) (l1 : Int) (l2 : Int) (l3 : Int) (l4 : Int) (l5 : Int) (G : gS) (Q : Int → gS → Prop) : Prop :=
  (inI (l4 - l2) ∧ ((9 < l4 - l2 → PX13_tokenAt_337 J l1 l2 l3 l4 l5 16090 l1 6 G Q) ∧ (¬ (9 < l4 - l2) → PX13_tokenAt_337 J l1 l2 l3 l4 l5 16090 l1 4 G Q)))
set_option maxRecDepth 20000 in
theorem TX13_tokenAt_317 {j : Nat → rx_K} {J : Nat → List Int → gS → (Int → gS → Prop) → Prop} {l1 : Int} {l2 : Int} {l3 : Int} {l4 : Int} {l5 : Int} {l6 : Nat} {l7 : Nat} {G : gS} {Q : Int → gS → Prop} (hl1 : inI l1) (hl2 : inI l2) (hl3 : inI l3) (hl4 : inI l4) (hl5 : inI l5) (hl6 : l6 % 8 ≠ 1) (hl7 : l7 % 8 ≠ 1) (hj0 : ∀ (l1 : Int) (l2 : Int) (l3 : Int) (l4 : Int) (l5 : Int) (l6 : Nat) (l7 : Int) (G : gS), (inI l1) → (inI l2) → (inI l3) → (inI l4) → (inL l5) → (l6 % 8 ≠ 1) → (inI l7) → J 0 [l1, l2, l3, l4, l5, l7] G Q → Tg W0 (j 0) [rf (16081), cI (l1), cI (l2), cI (l3), cI (l4), cL (l5), l6, cI (l7)] [] G (fun r G => ∃ v, r = cI v ∧ inI v ∧ Q v G)) (hj1 : ∀ (l1 : Int) (l2 : Int) (l3 : Int) (l4 : Int) (l5 : Int) (l6 : Nat) (l7 : Int) (G : gS), (inI l1) → (inI l2) → (inI l3) → (inI l4) → (inL l5) → (l6 % 8 ≠ 1) → (inI l7) → J 1 [l1, l2, l3, l4, l5, l7] G Q → Tg W0 (j 1) [rf (16081), cI (l1), cI (l2), cI (l3), cI (l4), cL (l5), l6, cI (l7)] [] G (fun r G => ∃ v, r = cI v ∧ inI v ∧ Q v G)) (hj2 : ∀ (l1 : Int) (l2 : Int) (l3 : Int) (l4 : Int) (l5 : Int) (l6 : Nat) (l7 : Nat) (G : gS), (inI l1) → (inI l2) → (inI l3) → (inI l4) → (inI l5) → (l6 % 8 ≠ 1) → (l7 % 8 ≠ 1) → J 2 [l1, l2, l3, l4, l5] G Q → Tg W0 (j 2) [rf (16081), cI (l1), cI (l2), cI (l3), cI (l4), cI (l5), l6, l7] [] G (fun r G => ∃ v, r = cI v ∧ inI v ∧ Q v G)) (h : PX13_tokenAt_317 J l1 l2 l3 l4 l5 G Q) : Tg W0 (vX13_tokenAt_317 j) [rf (16081), cI (l1), cI (l2), cI (l3), cI (l4), cI (l5), l6, l7] [] G (fun r G => ∃ v, r = cI v ∧ inI v ∧ Q v G) := by
  unfold PX13_tokenAt_317 at h
  unfold vX13_tokenAt_317
  refine g_ld (v := rf _) rfl (is_R _) ?_
  refine g_getF (v := 16090) oC13 (hC13_11) rfl (Nat.le_of_ble_eq_true rfl) (Nat.le_of_ble_eq_true rfl) ?_
  refine g_ld (v := cI _) rfl (is_I _) ?_
  refine g_ld (v := cI _) rfl (is_I _) ?_
  refine g_ld (v := cI _) rfl (is_I _) ?_
  refine g_sub ?_
  refine g_const (v := cI (9)) rfl ?_
  obtain ⟨q96, h⟩ := h
  refine g_gt2 q96 ⟨by omega, by omega⟩ (fun b97 => ?_) (fun b97 => ?_)
  · replace h := h.1 b97
    unfold vX13_tokenAt_331
    refine g_const (v := cI (6)) rfl ?_
    exact TX13_tokenAt_337 hl1 hl2 hl3 hl4 hl5 hl6 hl7 hl1 ⟨by omega, by omega⟩ hj0 hj1 hj2 h
  · replace h := h.2 b97
    unfold vX13_tokenAt_336
    refine g_const (v := cI (4)) rfl ?_
    exact TX13_tokenAt_337 hl1 hl2 hl3 hl4 hl5 hl6 hl7 hl1 ⟨by omega, by omega⟩ hj0 hj1 hj2 h
def PX13_tokenAt_309 (J : Nat → List Int → gS → (Int → gS → Prop) → Prop) (l1 : Int) (l2 : Int) (l3 : Int) (l4 : Int) (l5 : Int) (s0 : Int) (G : gS) (Q : Int → gS → Prop) : Prop :=
  (inI (l4 + 1) ∧ J 2 [l1, l2, l3, l4 + 1, s0] G Q)
set_option maxRecDepth 20000 in
theorem TX13_tokenAt_309 {j : Nat → rx_K} {J : Nat → List Int → gS → (Int → gS → Prop) → Prop} {l1 : Int} {l2 : Int} {l3 : Int} {l4 : Int} {l5 : Int} {l6 : Nat} {l7 : Nat} {s0 : Int} {G : gS} {Q : Int → gS → Prop} (hl1 : inI l1) (hl2 : inI l2) (hl3 : inI l3) (hl4 : inI l4) (hl5 : inI l5) (hl6 : l6 % 8 ≠ 1) (hl7 : l7 % 8 ≠ 1) (hs0 : inI s0) (hj0 : ∀ (l1 : Int) (l2 : Int) (l3 : Int) (l4 : Int) (l5 : Int) (l6 : Nat) (l7 : Int) (G : gS), (inI l1) → (inI l2) → (inI l3) → (inI l4) → (inL l5) → (l6 % 8 ≠ 1) → (inI l7) → J 0 [l1, l2, l3, l4, l5, l7] G Q → Tg W0 (j 0) [rf (16081), cI (l1), cI (l2), cI (l3), cI (l4), cL (l5), l6, cI (l7)] [] G (fun r G => ∃ v, r = cI v ∧ inI v ∧ Q v G)) (hj1 : ∀ (l1 : Int) (l2 : Int) (l3 : Int) (l4 : Int) (l5 : Int) (l6 : Nat) (l7 : Int) (G : gS), (inI l1) → (inI l2) → (inI l3) → (inI l4) → (inL l5) → (l6 % 8 ≠ 1) → (inI l7) → J 1 [l1, l2, l3, l4, l5, l7] G Q → Tg W0 (j 1) [rf (16081), cI (l1), cI (l2), cI (l3), cI (l4), cL (l5), l6, cI (l7)] [] G (fun r G => ∃ v, r = cI v ∧ inI v ∧ Q v G)) (hj2 : ∀ (l1 : Int) (l2 : Int) (l3 : Int) (l4 : Int) (l5 : Int) (l6 : Nat) (l7 : Nat) (G : gS), (inI l1) → (inI l2) → (inI l3) → (inI l4) → (inI l5) → (l6 % 8 ≠ 1) → (l7 % 8 ≠ 1) → J 2 [l1, l2, l3, l4, l5] G Q → Tg W0 (j 2) [rf (16081), cI (l1), cI (l2), cI (l3), cI (l4), cI (l5), l6, l7] [] G (fun r G => ∃ v, r = cI v ∧ inI v ∧ Q v G)) (h : PX13_tokenAt_309 J l1 l2 l3 l4 l5 s0 G Q) : Tg W0 (vX13_tokenAt_309 j) [rf (16081), cI (l1), cI (l2), cI (l3), cI (l4), cI (l5), l6, l7] [cI (s0)] G (fun r G => ∃ v, r = cI v ∧ inI v ∧ Q v G) := by
  unfold PX13_tokenAt_309 at h
  unfold vX13_tokenAt_309
  refine g_st (lv' := [_, _, _, _, _, _, _, _]) (is_I _) (Nat.le_of_ble_eq_true rfl) (Or.inr (n1_I _)) rfl ?_
  refine g_inc (lv' := [_, _, _, _, _, _, _, _]) rfl (Nat.le_of_ble_eq_true rfl) (Or.inr (n1_I _)) rfl ?_
  obtain ⟨q98, h⟩ := h
  exact hj2 _ _ _ _ _ _ _ _ hl1 hl2 hl3 q98 hs0 hl6 hl7 h
def PX13_tokenAt_258 (J : Nat → List Int → gS → (Int → gS → Prop) → Prop) (l1 : Int) (l2 : Int) (l3 : Int) (l4 : Int) (l5 : Int) (G : gS) (Q : Int → gS → Prop) : Prop :=
  PX13_byteAt l4 G (fun r58 G57 => inI r58 → ((r58 < 48 → PX13_tokenAt_317 J l1 l2 l3 l4 l5 G57 Q) ∧ (¬ (r58 < 48) → PX13_byteAt l4 G57 (fun r62 G61 => inI r62 → ((57 < r62 → PX13_tokenAt_317 J l1 l2 l3 l4 l5 G61 Q) ∧ (¬ (57 < r62) → (inI (l4 - l2) ∧ ((l4 - l2 < 9 → PX13_byteAt l4 G61 (fun r68 G67 => inI r68 → (inI (((10 * l5) + r68) - 48) ∧ PX13_tokenAt_309 J l1 l2 l3 l4 l5 (((10 * l5) + r68) - 48) G67 Q))) ∧ (¬ (l4 - l2 < 9) → PX13_tokenAt_309 J l1 l2 l3 l4 l5 l5 G61 Q)))))))))
set_option maxRecDepth 20000 in
theorem TX13_tokenAt_258 {j : Nat → rx_K} {J : Nat → List Int → gS → (Int → gS → Prop) → Prop} {l1 : Int} {l2 : Int} {l3 : Int} {l4 : Int} {l5 : Int} {l6 : Nat} {l7 : Nat} {G : gS} {Q : Int → gS → Prop} (hl1 : inI l1) (hl2 : inI l2) (hl3 : inI l3) (hl4 : inI l4) (hl5 : inI l5) (hl6 : l6 % 8 ≠ 1) (hl7 : l7 % 8 ≠ 1) (hj0 : ∀ (l1 : Int) (l2 : Int) (l3 : Int) (l4 : Int) (l5 : Int) (l6 : Nat) (l7 : Int) (G : gS), (inI l1) → (inI l2) → (inI l3) → (inI l4) → (inL l5) → (l6 % 8 ≠ 1) → (inI l7) → J 0 [l1, l2, l3, l4, l5, l7] G Q → Tg W0 (j 0) [rf (16081), cI (l1), cI (l2), cI (l3), cI (l4), cL (l5), l6, cI (l7)] [] G (fun r G => ∃ v, r = cI v ∧ inI v ∧ Q v G)) (hj1 : ∀ (l1 : Int) (l2 : Int) (l3 : Int) (l4 : Int) (l5 : Int) (l6 : Nat) (l7 : Int) (G : gS), (inI l1) → (inI l2) → (inI l3) → (inI l4) → (inL l5) → (l6 % 8 ≠ 1) → (inI l7) → J 1 [l1, l2, l3, l4, l5, l7] G Q → Tg W0 (j 1) [rf (16081), cI (l1), cI (l2), cI (l3), cI (l4), cL (l5), l6, cI (l7)] [] G (fun r G => ∃ v, r = cI v ∧ inI v ∧ Q v G)) (hj2 : ∀ (l1 : Int) (l2 : Int) (l3 : Int) (l4 : Int) (l5 : Int) (l6 : Nat) (l7 : Nat) (G : gS), (inI l1) → (inI l2) → (inI l3) → (inI l4) → (inI l5) → (l6 % 8 ≠ 1) → (l7 % 8 ≠ 1) → J 2 [l1, l2, l3, l4, l5] G Q → Tg W0 (j 2) [rf (16081), cI (l1), cI (l2), cI (l3), cI (l4), cI (l5), l6, l7] [] G (fun r G => ∃ v, r = cI v ∧ inI v ∧ Q v G)) (h : PX13_tokenAt_258 J l1 l2 l3 l4 l5 G Q) : Tg W0 (vX13_tokenAt_258 j) [rf (16081), cI (l1), cI (l2), cI (l3), cI (l4), cI (l5), l6, l7] [] G (fun r G => ∃ v, r = cI v ∧ inI v ∧ Q v G) := by
  unfold PX13_tokenAt_258 at h
  unfold vX13_tokenAt_258
  refine g_ld (v := rf _) rfl (is_R _) ?_
  refine g_ld (v := cI _) rfl (is_I _) ?_
  refine g_callV (As := [_]) (ci := 13) oC13 (fun _ => rfl) ?_
  refine g_go1 (Nat.le_of_ble_eq_true rfl) (Tn_w (TX13_byteAt hl4 h) fun _ G57 ⟨r58, e, i59, h⟩ => ?_)
  subst e
  refine ⟨n7_I _, ?_⟩
  replace h := h i59
  refine g_const (v := cI (48)) rfl ?_
  refine g_lt2 i59 ⟨by omega, by omega⟩ (fun b60 => ?_) (fun b60 => ?_)
  · replace h := h.1 b60
    exact TX13_tokenAt_317 hl1 hl2 hl3 hl4 hl5 hl6 hl7 hj0 hj1 hj2 h
  · replace h := h.2 b60
    unfold vX13_tokenAt_269
    refine g_ld (v := rf _) rfl (is_R _) ?_
    refine g_ld (v := cI _) rfl (is_I _) ?_
    refine g_callV (As := [_]) (ci := 13) oC13 (fun _ => rfl) ?_
    refine g_go1 (Nat.le_of_ble_eq_true rfl) (Tn_w (TX13_byteAt hl4 h) fun _ G61 ⟨r62, e, i63, h⟩ => ?_)
    subst e
    refine ⟨n7_I _, ?_⟩
    replace h := h i63
    refine g_const (v := cI (57)) rfl ?_
    refine g_gt2 i63 ⟨by omega, by omega⟩ (fun b64 => ?_) (fun b64 => ?_)
    · replace h := h.1 b64
      exact TX13_tokenAt_317 hl1 hl2 hl3 hl4 hl5 hl6 hl7 hj0 hj1 hj2 h
    · replace h := h.2 b64
      unfold vX13_tokenAt_280
      refine g_ld (v := cI _) rfl (is_I _) ?_
      refine g_ld (v := cI _) rfl (is_I _) ?_
      refine g_sub ?_
      refine g_const (v := cI (9)) rfl ?_
      obtain ⟨q65, h⟩ := h
      refine g_lt2 q65 ⟨by omega, by omega⟩ (fun b66 => ?_) (fun b66 => ?_)
      · replace h := h.1 b66
        unfold vX13_tokenAt_289
        refine g_const (v := cI (10)) rfl ?_
        refine g_ld (v := cI _) rfl (is_I _) ?_
        refine g_mul ?_
        refine g_ld (v := rf _) rfl (is_R _) ?_
        refine g_ld (v := cI _) rfl (is_I _) ?_
        refine g_callV (As := [_]) (ci := 13) oC13 (fun _ => rfl) ?_
        refine g_go1 (by simp only [cs_c, cs_0, ct_I, ct_L, ct_R]; exact Nat.le_of_ble_eq_true rfl) (Tn_w (TX13_byteAt hl4 h) fun _ G67 ⟨r68, e, i69, h⟩ => ?_)
        subst e
        refine ⟨n7_I _, ?_⟩
        replace h := h i69
        refine g_add ?_
        refine g_const (v := cI (48)) rfl ?_
        refine g_sub ?_
        obtain ⟨q70, h⟩ := h
        exact TX13_tokenAt_309 hl1 hl2 hl3 hl4 hl5 hl6 hl7 q70 hj0 hj1 hj2 h
      · replace h := h.2 b66
        unfold vX13_tokenAt_307
        refine g_ld (v := cI _) rfl (is_I _) ?_
        exact TX13_tokenAt_309 hl1 hl2 hl3 hl4 hl5 hl6 hl7 hl5 hj0 hj1 hj2 h
def PX13_tokenAt_228 (J : Nat → List Int → gS → (Int → gS → Prop) → Prop) (l1 : Int) (l2 : Int) (l3 : Int) (l4 : Int) (l5 : Int) (l7 : Int) (s0 : Int) (s1 : Int) (s2 : Int) (G : gS) (Q : Int → gS → Prop) : Prop :=
  (∃ n128, isA W0 0 n128 (s0) ∧ ((0 : Int) ≤ s1 ∧ ((s1 : Int) < n128 ∧ (∀ G132 : gS, G132 = uG G s0 s1 (s2) → ((0 : Int) ≤ l1 ∧ ((l1 : Int) < 12636 ∧ (∀ G135 : gS, G135 = uG G132 16093 l1 (l5) → Q (l4) G135)))))))
set_option maxRecDepth 20000 in
theorem TX13_tokenAt_228 {j : Nat → rx_K} {J : Nat → List Int → gS → (Int → gS → Prop) → Prop} {l1 : Int} {l2 : Int} {l3 : Int} {l4 : Int} {l5 : Int} {l6 : Nat} {l7 : Int} {s0 : Int} {s1 : Int} {s2 : Int} {G : gS} {Q : Int → gS → Prop} (hl1 : inI l1) (hl2 : inI l2) (hl3 : inI l3) (hl4 : inI l4) (hl5 : inL l5) (hl6 : l6 % 8 ≠ 1) (hl7 : inI l7) (hs1 : inI s1) (hs2 : inI s2) (hj0 : ∀ (l1 : Int) (l2 : Int) (l3 : Int) (l4 : Int) (l5 : Int) (l6 : Nat) (l7 : Int) (G : gS), (inI l1) → (inI l2) → (inI l3) → (inI l4) → (inL l5) → (l6 % 8 ≠ 1) → (inI l7) → J 0 [l1, l2, l3, l4, l5, l7] G Q → Tg W0 (j 0) [rf (16081), cI (l1), cI (l2), cI (l3), cI (l4), cL (l5), l6, cI (l7)] [] G (fun r G => ∃ v, r = cI v ∧ inI v ∧ Q v G)) (hj1 : ∀ (l1 : Int) (l2 : Int) (l3 : Int) (l4 : Int) (l5 : Int) (l6 : Nat) (l7 : Int) (G : gS), (inI l1) → (inI l2) → (inI l3) → (inI l4) → (inL l5) → (l6 % 8 ≠ 1) → (inI l7) → J 1 [l1, l2, l3, l4, l5, l7] G Q → Tg W0 (j 1) [rf (16081), cI (l1), cI (l2), cI (l3), cI (l4), cL (l5), l6, cI (l7)] [] G (fun r G => ∃ v, r = cI v ∧ inI v ∧ Q v G)) (hj2 : ∀ (l1 : Int) (l2 : Int) (l3 : Int) (l4 : Int) (l5 : Int) (l6 : Nat) (l7 : Nat) (G : gS), (inI l1) → (inI l2) → (inI l3) → (inI l4) → (inI l5) → (l6 % 8 ≠ 1) → (l7 % 8 ≠ 1) → J 2 [l1, l2, l3, l4, l5] G Q → Tg W0 (j 2) [rf (16081), cI (l1), cI (l2), cI (l3), cI (l4), cI (l5), l6, l7] [] G (fun r G => ∃ v, r = cI v ∧ inI v ∧ Q v G)) (h : PX13_tokenAt_228 J l1 l2 l3 l4 l5 l7 s0 s1 s2 G Q) : Tg W0 (vX13_tokenAt_228 j) [rf (16081), cI (l1), cI (l2), cI (l3), cI (l4), cL (l5), l6, cI (l7)] [cI (s2), cI (s1), rf (s0)] G (fun r G => ∃ v, r = cI v ∧ inI v ∧ Q v G) := by
  unfold PX13_tokenAt_228 at h
  unfold vX13_tokenAt_228
  obtain ⟨n128, q129, h⟩ := h
  obtain ⟨q130, q131, h⟩ := h
  refine g_astI q129 q130 q131 hs2 (nfI q129) ?_
  replace h := h _ rfl
  refine g_ld (v := rf _) rfl (is_R _) ?_
  refine g_getF (v := 16093) oC13 (hC13_14) rfl (Nat.le_of_ble_eq_true rfl) (Nat.le_of_ble_eq_true rfl) ?_
  refine g_ld (v := cI _) rfl (is_I _) ?_
  refine g_ld (v := cL _) rfl (is_L _) ?_
  obtain ⟨q133, q134, h⟩ := h
  refine g_astL aC16093 q133 q134 hl5 (nfL aC16093) ?_
  replace h := h _ rfl
  refine g_ld (v := cI _) rfl (is_I _) ?_
  exact g_ret1 (is_I _) ⟨_, rfl, hl4, h⟩
def PX13_tokenAt_195 (J : Nat → List Int → gS → (Int → gS → Prop) → Prop) (l1 : Int) (l2 : Int) (l3 : Int) (l4 : Int) (l5 : Int) (l7 : Int) (G : gS) (Q : Int → gS → Prop) : Prop :=
  (inI (l4 - l2) ∧ ((10 < l4 - l2 → PX13_tokenAt_228 J l1 l2 l3 l4 l5 l7 16090 l1 6 G Q) ∧ (¬ (10 < l4 - l2) → PX13_isWord l5 G (fun r102 G101 => (0 ≤ r102 ∧ r102 ≤ 1) → ((r102 = 0 → PX13_tokenAt_228 J l1 l2 l3 l4 l5 l7 16090 l1 2 G101 Q) ∧ (¬ (r102 = 0) → PX13_tokenAt_228 J l1 l2 l3 l4 l5 l7 16090 l1 3 G101 Q))))))
set_option maxRecDepth 20000 in
theorem TX13_tokenAt_195 {j : Nat → rx_K} {J : Nat → List Int → gS → (Int → gS → Prop) → Prop} {l1 : Int} {l2 : Int} {l3 : Int} {l4 : Int} {l5 : Int} {l6 : Nat} {l7 : Int} {G : gS} {Q : Int → gS → Prop} (hl1 : inI l1) (hl2 : inI l2) (hl3 : inI l3) (hl4 : inI l4) (hl5 : inL l5) (hl6 : l6 % 8 ≠ 1) (hl7 : inI l7) (hj0 : ∀ (l1 : Int) (l2 : Int) (l3 : Int) (l4 : Int) (l5 : Int) (l6 : Nat) (l7 : Int) (G : gS), (inI l1) → (inI l2) → (inI l3) → (inI l4) → (inL l5) → (l6 % 8 ≠ 1) → (inI l7) → J 0 [l1, l2, l3, l4, l5, l7] G Q → Tg W0 (j 0) [rf (16081), cI (l1), cI (l2), cI (l3), cI (l4), cL (l5), l6, cI (l7)] [] G (fun r G => ∃ v, r = cI v ∧ inI v ∧ Q v G)) (hj1 : ∀ (l1 : Int) (l2 : Int) (l3 : Int) (l4 : Int) (l5 : Int) (l6 : Nat) (l7 : Int) (G : gS), (inI l1) → (inI l2) → (inI l3) → (inI l4) → (inL l5) → (l6 % 8 ≠ 1) → (inI l7) → J 1 [l1, l2, l3, l4, l5, l7] G Q → Tg W0 (j 1) [rf (16081), cI (l1), cI (l2), cI (l3), cI (l4), cL (l5), l6, cI (l7)] [] G (fun r G => ∃ v, r = cI v ∧ inI v ∧ Q v G)) (hj2 : ∀ (l1 : Int) (l2 : Int) (l3 : Int) (l4 : Int) (l5 : Int) (l6 : Nat) (l7 : Nat) (G : gS), (inI l1) → (inI l2) → (inI l3) → (inI l4) → (inI l5) → (l6 % 8 ≠ 1) → (l7 % 8 ≠ 1) → J 2 [l1, l2, l3, l4, l5] G Q → Tg W0 (j 2) [rf (16081), cI (l1), cI (l2), cI (l3), cI (l4), cI (l5), l6, l7] [] G (fun r G => ∃ v, r = cI v ∧ inI v ∧ Q v G)) (h : PX13_tokenAt_195 J l1 l2 l3 l4 l5 l7 G Q) : Tg W0 (vX13_tokenAt_195 j) [rf (16081), cI (l1), cI (l2), cI (l3), cI (l4), cL (l5), l6, cI (l7)] [] G (fun r G => ∃ v, r = cI v ∧ inI v ∧ Q v G) := by
  unfold PX13_tokenAt_195 at h
  unfold vX13_tokenAt_195
  refine g_ld (v := rf _) rfl (is_R _) ?_
  refine g_getF (v := 16090) oC13 (hC13_11) rfl (Nat.le_of_ble_eq_true rfl) (Nat.le_of_ble_eq_true rfl) ?_
  refine g_ld (v := cI _) rfl (is_I _) ?_
  refine g_ld (v := cI _) rfl (is_I _) ?_
  refine g_ld (v := cI _) rfl (is_I _) ?_
  refine g_sub ?_
  refine g_const (v := cI (10)) rfl ?_
  obtain ⟨q99, h⟩ := h
  refine g_gt2 q99 ⟨by omega, by omega⟩ (fun b100 => ?_) (fun b100 => ?_)
  · replace h := h.1 b100
    unfold vX13_tokenAt_209
    refine g_const (v := cI (6)) rfl ?_
    exact TX13_tokenAt_228 hl1 hl2 hl3 hl4 hl5 hl6 hl7 hl1 ⟨by omega, by omega⟩ hj0 hj1 hj2 h
  · replace h := h.2 b100
    unfold vX13_tokenAt_214
    refine g_ld (v := rf _) rfl (is_R _) ?_
    refine g_ld (v := cL _) rfl (is_L _) ?_
    refine g_callV (As := [_]) (ci := 13) oC13 (fun _ => rfl) ?_
    refine g_go1 (by simp only [cs_c, cs_0, ct_I, ct_L, ct_R]; exact Nat.le_of_ble_eq_true rfl) (Tn_w (TX13_isWord hl5 h) fun _ G101 ⟨r102, e, i103, h⟩ => ?_)
    subst e
    refine ⟨n7_I _, ?_⟩
    replace h := h i103
    refine g_eq1 ⟨by omega, by omega⟩ (fun b104 => ?_) (fun b104 => ?_)
    · replace h := h.1 b104
      unfold vX13_tokenAt_227
      refine g_const (v := cI (2)) rfl ?_
      exact TX13_tokenAt_228 hl1 hl2 hl3 hl4 hl5 hl6 hl7 hl1 ⟨by omega, by omega⟩ hj0 hj1 hj2 h
    · replace h := h.2 b104
      unfold vX13_tokenAt_223
      refine g_const (v := cI (3)) rfl ?_
      exact TX13_tokenAt_228 hl1 hl2 hl3 hl4 hl5 hl6 hl7 hl1 ⟨by omega, by omega⟩ hj0 hj1 hj2 h
def PX13_tokenAt_155 (J : Nat → List Int → gS → (Int → gS → Prop) → Prop) (l1 : Int) (l2 : Int) (l3 : Int) (l4 : Int) (l5 : Int) (l7 : Int) (G : gS) (Q : Int → gS → Prop) : Prop :=
  ((l7 < l4 → (inI (l2 + 10) ∧ ((l7 < l2 + 10 → (inL (lshl l5 6) → PX13_byteAt l7 G (fun r76 G75 => inI r76 → PX13_sym r76 G75 (fun r79 G78 => inI r79 → (inL (lor (lshl l5 6) r79) → (inI (l7 + 1) ∧ J 1 [l1, l2, l3, l4, lor (lshl l5 6) r79, l7 + 1] G78 Q)))))) ∧ (¬ (l7 < l2 + 10) → PX13_tokenAt_195 J l1 l2 l3 l4 l5 l7 G Q)))) ∧ (¬ (l7 < l4) → PX13_tokenAt_195 J l1 l2 l3 l4 l5 l7 G Q))
set_option maxRecDepth 20000 in
theorem TX13_tokenAt_155 {j : Nat → rx_K} {J : Nat → List Int → gS → (Int → gS → Prop) → Prop} {l1 : Int} {l2 : Int} {l3 : Int} {l4 : Int} {l5 : Int} {l6 : Nat} {l7 : Int} {G : gS} {Q : Int → gS → Prop} (hl1 : inI l1) (hl2 : inI l2) (hl3 : inI l3) (hl4 : inI l4) (hl5 : inL l5) (hl6 : l6 % 8 ≠ 1) (hl7 : inI l7) (hj0 : ∀ (l1 : Int) (l2 : Int) (l3 : Int) (l4 : Int) (l5 : Int) (l6 : Nat) (l7 : Int) (G : gS), (inI l1) → (inI l2) → (inI l3) → (inI l4) → (inL l5) → (l6 % 8 ≠ 1) → (inI l7) → J 0 [l1, l2, l3, l4, l5, l7] G Q → Tg W0 (j 0) [rf (16081), cI (l1), cI (l2), cI (l3), cI (l4), cL (l5), l6, cI (l7)] [] G (fun r G => ∃ v, r = cI v ∧ inI v ∧ Q v G)) (hj1 : ∀ (l1 : Int) (l2 : Int) (l3 : Int) (l4 : Int) (l5 : Int) (l6 : Nat) (l7 : Int) (G : gS), (inI l1) → (inI l2) → (inI l3) → (inI l4) → (inL l5) → (l6 % 8 ≠ 1) → (inI l7) → J 1 [l1, l2, l3, l4, l5, l7] G Q → Tg W0 (j 1) [rf (16081), cI (l1), cI (l2), cI (l3), cI (l4), cL (l5), l6, cI (l7)] [] G (fun r G => ∃ v, r = cI v ∧ inI v ∧ Q v G)) (hj2 : ∀ (l1 : Int) (l2 : Int) (l3 : Int) (l4 : Int) (l5 : Int) (l6 : Nat) (l7 : Nat) (G : gS), (inI l1) → (inI l2) → (inI l3) → (inI l4) → (inI l5) → (l6 % 8 ≠ 1) → (l7 % 8 ≠ 1) → J 2 [l1, l2, l3, l4, l5] G Q → Tg W0 (j 2) [rf (16081), cI (l1), cI (l2), cI (l3), cI (l4), cI (l5), l6, l7] [] G (fun r G => ∃ v, r = cI v ∧ inI v ∧ Q v G)) (h : PX13_tokenAt_155 J l1 l2 l3 l4 l5 l7 G Q) : Tg W0 (vX13_tokenAt_155 j) [rf (16081), cI (l1), cI (l2), cI (l3), cI (l4), cL (l5), l6, cI (l7)] [] G (fun r G => ∃ v, r = cI v ∧ inI v ∧ Q v G) := by
  unfold PX13_tokenAt_155 at h
  unfold vX13_tokenAt_155
  refine g_ld (v := cI _) rfl (is_I _) ?_
  refine g_ld (v := cI _) rfl (is_I _) ?_
  refine g_lt2 hl7 hl4 (fun b71 => ?_) (fun b71 => ?_)
  · replace h := h.1 b71
    unfold vX13_tokenAt_162
    refine g_ld (v := cI _) rfl (is_I _) ?_
    refine g_ld (v := cI _) rfl (is_I _) ?_
    refine g_const (v := cI (10)) rfl ?_
    refine g_add ?_
    obtain ⟨q72, h⟩ := h
    refine g_lt2 hl7 q72 (fun b73 => ?_) (fun b73 => ?_)
    · replace h := h.1 b73
      unfold vX13_tokenAt_171
      refine g_ld (v := cL _) rfl (is_L _) ?_
      refine g_const (v := cI (6)) rfl ?_
      refine g_lshl fun i74 => ?_
      replace h := h i74
      refine g_ld (v := rf _) rfl (is_R _) ?_
      refine g_ld (v := cI _) rfl (is_I _) ?_
      refine g_callV (As := [_]) (ci := 13) oC13 (fun _ => rfl) ?_
      refine g_go1 (by simp only [cs_c, cs_0, ct_I, ct_L, ct_R]; exact Nat.le_of_ble_eq_true rfl) (Tn_w (TX13_byteAt hl7 h) fun _ G75 ⟨r76, e, i77, h⟩ => ?_)
      subst e
      refine ⟨n7_I _, ?_⟩
      replace h := h i77
      refine g_callS (As := [_]) (fun _ => rfl) ?_
      refine g_go1 (by simp only [cs_c, cs_0, ct_I, ct_L, ct_R]; exact Nat.le_of_ble_eq_true rfl) (Tn_w (TX13_sym i77 h) fun _ G78 ⟨r79, e, i80, h⟩ => ?_)
      subst e
      refine ⟨n7_I _, ?_⟩
      replace h := h i80
      refine g_i2l i80 ?_
      refine g_lor fun i81 => ?_
      replace h := h i81
      refine g_stL (lv' := [_, _, _, _, _, _, _, _]) (Nat.le_of_ble_eq_true rfl) (Or.inr (n1_I _)) rfl ?_
      refine g_inc (lv' := [_, _, _, _, _, _, _, _]) rfl (Nat.le_of_ble_eq_true rfl) (Or.inr (show 7 % 8 ≠ 1 by decide)) rfl ?_
      obtain ⟨q82, h⟩ := h
      exact hj1 _ _ _ _ _ _ _ _ hl1 hl2 hl3 hl4 i81 (show 7 % 8 ≠ 1 by decide) q82 h
    · replace h := h.2 b73
      exact TX13_tokenAt_195 hl1 hl2 hl3 hl4 hl5 hl6 hl7 hj0 hj1 hj2 h
  · replace h := h.2 b71
    exact TX13_tokenAt_195 hl1 hl2 hl3 hl4 hl5 hl6 hl7 hj0 hj1 hj2 h
def PX13_tokenAt_135 (J : Nat → List Int → gS → (Int → gS → Prop) → Prop) (l1 : Int) (l2 : Int) (l3 : Int) (G : gS) (Q : Int → gS → Prop) : Prop :=
  PX13_isSmall l3 G (fun r28 G27 => (0 ≤ r28 ∧ r28 ≤ 1) → ((r28 = 0 → ((l3 < 48 → PX13_tokenAt_349 J l1 l2 l3 G27 Q) ∧ (¬ (l3 < 48) → ((57 < l3 → PX13_tokenAt_349 J l1 l2 l3 G27 Q) ∧ (¬ (57 < l3) → PX13_tokenAt_258 J l1 l2 l3 l2 0 G27 Q))))) ∧ (¬ (r28 = 0) → PX13_wordEnd l2 G27 (fun r34 G33 => inI r34 → PX13_tokenAt_155 J l1 l2 l3 r34 0 l2 G33 Q))))
set_option maxRecDepth 20000 in
theorem TX13_tokenAt_135 {j : Nat → rx_K} {J : Nat → List Int → gS → (Int → gS → Prop) → Prop} {l1 : Int} {l2 : Int} {l3 : Int} {l4 : Nat} {l5 : Nat} {l6 : Nat} {l7 : Nat} {G : gS} {Q : Int → gS → Prop} (hl1 : inI l1) (hl2 : inI l2) (hl3 : inI l3) (hl4 : l4 % 8 ≠ 1) (hl5 : l5 % 8 ≠ 1) (hl6 : l6 % 8 ≠ 1) (hl7 : l7 % 8 ≠ 1) (hj0 : ∀ (l1 : Int) (l2 : Int) (l3 : Int) (l4 : Int) (l5 : Int) (l6 : Nat) (l7 : Int) (G : gS), (inI l1) → (inI l2) → (inI l3) → (inI l4) → (inL l5) → (l6 % 8 ≠ 1) → (inI l7) → J 0 [l1, l2, l3, l4, l5, l7] G Q → Tg W0 (j 0) [rf (16081), cI (l1), cI (l2), cI (l3), cI (l4), cL (l5), l6, cI (l7)] [] G (fun r G => ∃ v, r = cI v ∧ inI v ∧ Q v G)) (hj1 : ∀ (l1 : Int) (l2 : Int) (l3 : Int) (l4 : Int) (l5 : Int) (l6 : Nat) (l7 : Int) (G : gS), (inI l1) → (inI l2) → (inI l3) → (inI l4) → (inL l5) → (l6 % 8 ≠ 1) → (inI l7) → J 1 [l1, l2, l3, l4, l5, l7] G Q → Tg W0 (j 1) [rf (16081), cI (l1), cI (l2), cI (l3), cI (l4), cL (l5), l6, cI (l7)] [] G (fun r G => ∃ v, r = cI v ∧ inI v ∧ Q v G)) (hj2 : ∀ (l1 : Int) (l2 : Int) (l3 : Int) (l4 : Int) (l5 : Int) (l6 : Nat) (l7 : Nat) (G : gS), (inI l1) → (inI l2) → (inI l3) → (inI l4) → (inI l5) → (l6 % 8 ≠ 1) → (l7 % 8 ≠ 1) → J 2 [l1, l2, l3, l4, l5] G Q → Tg W0 (j 2) [rf (16081), cI (l1), cI (l2), cI (l3), cI (l4), cI (l5), l6, l7] [] G (fun r G => ∃ v, r = cI v ∧ inI v ∧ Q v G)) (h : PX13_tokenAt_135 J l1 l2 l3 G Q) : Tg W0 (vX13_tokenAt_135 j) [rf (16081), cI (l1), cI (l2), cI (l3), l4, l5, l6, l7] [] G (fun r G => ∃ v, r = cI v ∧ inI v ∧ Q v G) := by
  unfold PX13_tokenAt_135 at h
  unfold vX13_tokenAt_135
  refine g_ld (v := cI _) rfl (is_I _) ?_
  refine g_callS (As := [_]) (fun _ => rfl) ?_
  refine g_go1 (Nat.le_of_ble_eq_true rfl) (Tn_w (TX13_isSmall hl3 h) fun _ G27 ⟨r28, e, i29, h⟩ => ?_)
  subst e
  refine ⟨n7_I _, ?_⟩
  replace h := h i29
  refine g_eq1 ⟨by omega, by omega⟩ (fun b30 => ?_) (fun b30 => ?_)
  · replace h := h.1 b30
    unfold vX13_tokenAt_240
    refine g_ld (v := cI _) rfl (is_I _) ?_
    refine g_const (v := cI (48)) rfl ?_
    refine g_lt2 hl3 ⟨by omega, by omega⟩ (fun b31 => ?_) (fun b31 => ?_)
    · replace h := h.1 b31
      exact TX13_tokenAt_349 hl1 hl2 hl3 hl4 hl5 hl6 hl7 hj0 hj1 hj2 h
    · replace h := h.2 b31
      unfold vX13_tokenAt_246
      refine g_ld (v := cI _) rfl (is_I _) ?_
      refine g_const (v := cI (57)) rfl ?_
      refine g_gt2 hl3 ⟨by omega, by omega⟩ (fun b32 => ?_) (fun b32 => ?_)
      · replace h := h.1 b32
        exact TX13_tokenAt_349 hl1 hl2 hl3 hl4 hl5 hl6 hl7 hj0 hj1 hj2 h
      · replace h := h.2 b32
        unfold vX13_tokenAt_252
        refine g_ld (v := cI _) rfl (is_I _) ?_
        refine g_st (lv' := [_, _, _, _, _, _, _, _]) (is_I _) (Nat.le_of_ble_eq_true rfl) (Or.inr (n1_I _)) rfl ?_
        refine g_const (v := cI (0)) rfl ?_
        refine g_st (lv' := [_, _, _, _, _, _, _, _]) (is_I _) (Nat.le_of_ble_eq_true rfl) (Or.inr (n1_I _)) rfl ?_
        exact TX13_tokenAt_258 hl1 hl2 hl3 hl2 ⟨by omega, by omega⟩ hl6 hl7 hj0 hj1 hj2 h
  · replace h := h.2 b30
    unfold vX13_tokenAt_142
    refine g_ld (v := rf _) rfl (is_R _) ?_
    refine g_ld (v := cI _) rfl (is_I _) ?_
    refine g_callV (As := [_]) (ci := 13) oC13 (fun _ => rfl) ?_
    refine g_go1 (Nat.le_of_ble_eq_true rfl) (Tn_w (TX13_wordEnd hl2 h) fun _ G33 ⟨r34, e, i35, h⟩ => ?_)
    subst e
    refine ⟨n7_I _, ?_⟩
    replace h := h i35
    refine g_st (lv' := [_, _, _, _, _, _, _, _]) (is_I _) (Nat.le_of_ble_eq_true rfl) (Or.inr (n1_I _)) rfl ?_
    refine g_const (v := cL (0)) rfl ?_
    refine g_stL (lv' := [_, _, _, _, _, _, _, _]) (Nat.le_of_ble_eq_true rfl) (Or.inr (n1_I _)) rfl ?_
    refine g_ld (v := cI _) rfl (is_I _) ?_
    refine g_st (lv' := [_, _, _, _, _, _, _, _]) (is_I _) (Nat.le_of_ble_eq_true rfl) (Or.inr (show 7 % 8 ≠ 1 by decide)) rfl ?_
    exact TX13_tokenAt_155 hl1 hl2 hl3 i35 ⟨by omega, by omega⟩ (show 7 % 8 ≠ 1 by decide) hl2 hj0 hj1 hj2 h
def PX13_tokenAt_120 (J : Nat → List Int → gS → (Int → gS → Prop) → Prop) (l1 : Int) (l2 : Int) (l3 : Int) (l4 : Int) (l5 : Int) (l7 : Int) (G : gS) (Q : Int → gS → Prop) : Prop :=
  (inL (lor l5 2305843009213693952) → ((0 : Int) ≤ l1 ∧ ((l1 : Int) < 12636 ∧ (∀ G108 : gS, G108 = uG G 16093 l1 (lor l5 2305843009213693952) → Q (l4) G108))))
set_option maxRecDepth 20000 in
theorem TX13_tokenAt_120 {j : Nat → rx_K} {J : Nat → List Int → gS → (Int → gS → Prop) → Prop} {l1 : Int} {l2 : Int} {l3 : Int} {l4 : Int} {l5 : Int} {l6 : Nat} {l7 : Int} {G : gS} {Q : Int → gS → Prop} (hl1 : inI l1) (hl2 : inI l2) (hl3 : inI l3) (hl4 : inI l4) (hl5 : inL l5) (hl6 : l6 % 8 ≠ 1) (hl7 : inI l7) (hj0 : ∀ (l1 : Int) (l2 : Int) (l3 : Int) (l4 : Int) (l5 : Int) (l6 : Nat) (l7 : Int) (G : gS), (inI l1) → (inI l2) → (inI l3) → (inI l4) → (inL l5) → (l6 % 8 ≠ 1) → (inI l7) → J 0 [l1, l2, l3, l4, l5, l7] G Q → Tg W0 (j 0) [rf (16081), cI (l1), cI (l2), cI (l3), cI (l4), cL (l5), l6, cI (l7)] [] G (fun r G => ∃ v, r = cI v ∧ inI v ∧ Q v G)) (hj1 : ∀ (l1 : Int) (l2 : Int) (l3 : Int) (l4 : Int) (l5 : Int) (l6 : Nat) (l7 : Int) (G : gS), (inI l1) → (inI l2) → (inI l3) → (inI l4) → (inL l5) → (l6 % 8 ≠ 1) → (inI l7) → J 1 [l1, l2, l3, l4, l5, l7] G Q → Tg W0 (j 1) [rf (16081), cI (l1), cI (l2), cI (l3), cI (l4), cL (l5), l6, cI (l7)] [] G (fun r G => ∃ v, r = cI v ∧ inI v ∧ Q v G)) (hj2 : ∀ (l1 : Int) (l2 : Int) (l3 : Int) (l4 : Int) (l5 : Int) (l6 : Nat) (l7 : Nat) (G : gS), (inI l1) → (inI l2) → (inI l3) → (inI l4) → (inI l5) → (l6 % 8 ≠ 1) → (l7 % 8 ≠ 1) → J 2 [l1, l2, l3, l4, l5] G Q → Tg W0 (j 2) [rf (16081), cI (l1), cI (l2), cI (l3), cI (l4), cI (l5), l6, l7] [] G (fun r G => ∃ v, r = cI v ∧ inI v ∧ Q v G)) (h : PX13_tokenAt_120 J l1 l2 l3 l4 l5 l7 G Q) : Tg W0 (vX13_tokenAt_120 j) [rf (16081), cI (l1), cI (l2), cI (l3), cI (l4), cL (l5), l6, cI (l7)] [] G (fun r G => ∃ v, r = cI v ∧ inI v ∧ Q v G) := by
  unfold PX13_tokenAt_120 at h
  unfold vX13_tokenAt_120
  refine g_ld (v := rf _) rfl (is_R _) ?_
  refine g_getF (v := 16093) oC13 (hC13_14) rfl (Nat.le_of_ble_eq_true rfl) (Nat.le_of_ble_eq_true rfl) ?_
  refine g_ld (v := cI _) rfl (is_I _) ?_
  refine g_ld (v := cL _) rfl (is_L _) ?_
  refine g_const (v := cL (2305843009213693952)) rfl ?_
  refine g_lor fun i105 => ?_
  replace h := h i105
  obtain ⟨q106, q107, h⟩ := h
  refine g_astL aC16093 q106 q107 i105 (nfL aC16093) ?_
  replace h := h _ rfl
  refine g_ld (v := cI _) rfl (is_I _) ?_
  exact g_ret1 (is_I _) ⟨_, rfl, hl4, h⟩
def PX13_tokenAt_80 (J : Nat → List Int → gS → (Int → gS → Prop) → Prop) (l1 : Int) (l2 : Int) (l3 : Int) (l4 : Int) (l5 : Int) (l7 : Int) (G : gS) (Q : Int → gS → Prop) : Prop :=
  ((l7 < l4 → (inI (l2 + 11) ∧ ((l7 < l2 + 11 → (inL (lshl l5 6) → PX13_byteAt l7 G (fun r88 G87 => inI r88 → PX13_sym r88 G87 (fun r91 G90 => inI r91 → (inL (lor (lshl l5 6) r91) → (inI (l7 + 1) ∧ J 0 [l1, l2, l3, l4, lor (lshl l5 6) r91, l7 + 1] G90 Q)))))) ∧ (¬ (l7 < l2 + 11) → PX13_tokenAt_120 J l1 l2 l3 l4 l5 l7 G Q)))) ∧ (¬ (l7 < l4) → PX13_tokenAt_120 J l1 l2 l3 l4 l5 l7 G Q))
set_option maxRecDepth 20000 in
theorem TX13_tokenAt_80 {j : Nat → rx_K} {J : Nat → List Int → gS → (Int → gS → Prop) → Prop} {l1 : Int} {l2 : Int} {l3 : Int} {l4 : Int} {l5 : Int} {l6 : Nat} {l7 : Int} {G : gS} {Q : Int → gS → Prop} (hl1 : inI l1) (hl2 : inI l2) (hl3 : inI l3) (hl4 : inI l4) (hl5 : inL l5) (hl6 : l6 % 8 ≠ 1) (hl7 : inI l7) (hj0 : ∀ (l1 : Int) (l2 : Int) (l3 : Int) (l4 : Int) (l5 : Int) (l6 : Nat) (l7 : Int) (G : gS), (inI l1) → (inI l2) → (inI l3) → (inI l4) → (inL l5) → (l6 % 8 ≠ 1) → (inI l7) → J 0 [l1, l2, l3, l4, l5, l7] G Q → Tg W0 (j 0) [rf (16081), cI (l1), cI (l2), cI (l3), cI (l4), cL (l5), l6, cI (l7)] [] G (fun r G => ∃ v, r = cI v ∧ inI v ∧ Q v G)) (hj1 : ∀ (l1 : Int) (l2 : Int) (l3 : Int) (l4 : Int) (l5 : Int) (l6 : Nat) (l7 : Int) (G : gS), (inI l1) → (inI l2) → (inI l3) → (inI l4) → (inL l5) → (l6 % 8 ≠ 1) → (inI l7) → J 1 [l1, l2, l3, l4, l5, l7] G Q → Tg W0 (j 1) [rf (16081), cI (l1), cI (l2), cI (l3), cI (l4), cL (l5), l6, cI (l7)] [] G (fun r G => ∃ v, r = cI v ∧ inI v ∧ Q v G)) (hj2 : ∀ (l1 : Int) (l2 : Int) (l3 : Int) (l4 : Int) (l5 : Int) (l6 : Nat) (l7 : Nat) (G : gS), (inI l1) → (inI l2) → (inI l3) → (inI l4) → (inI l5) → (l6 % 8 ≠ 1) → (l7 % 8 ≠ 1) → J 2 [l1, l2, l3, l4, l5] G Q → Tg W0 (j 2) [rf (16081), cI (l1), cI (l2), cI (l3), cI (l4), cI (l5), l6, l7] [] G (fun r G => ∃ v, r = cI v ∧ inI v ∧ Q v G)) (h : PX13_tokenAt_80 J l1 l2 l3 l4 l5 l7 G Q) : Tg W0 (vX13_tokenAt_80 j) [rf (16081), cI (l1), cI (l2), cI (l3), cI (l4), cL (l5), l6, cI (l7)] [] G (fun r G => ∃ v, r = cI v ∧ inI v ∧ Q v G) := by
  unfold PX13_tokenAt_80 at h
  unfold vX13_tokenAt_80
  refine g_ld (v := cI _) rfl (is_I _) ?_
  refine g_ld (v := cI _) rfl (is_I _) ?_
  refine g_lt2 hl7 hl4 (fun b83 => ?_) (fun b83 => ?_)
  · replace h := h.1 b83
    unfold vX13_tokenAt_87
    refine g_ld (v := cI _) rfl (is_I _) ?_
    refine g_ld (v := cI _) rfl (is_I _) ?_
    refine g_const (v := cI (11)) rfl ?_
    refine g_add ?_
    obtain ⟨q84, h⟩ := h
    refine g_lt2 hl7 q84 (fun b85 => ?_) (fun b85 => ?_)
    · replace h := h.1 b85
      unfold vX13_tokenAt_96
      refine g_ld (v := cL _) rfl (is_L _) ?_
      refine g_const (v := cI (6)) rfl ?_
      refine g_lshl fun i86 => ?_
      replace h := h i86
      refine g_ld (v := rf _) rfl (is_R _) ?_
      refine g_ld (v := cI _) rfl (is_I _) ?_
      refine g_callV (As := [_]) (ci := 13) oC13 (fun _ => rfl) ?_
      refine g_go1 (by simp only [cs_c, cs_0, ct_I, ct_L, ct_R]; exact Nat.le_of_ble_eq_true rfl) (Tn_w (TX13_byteAt hl7 h) fun _ G87 ⟨r88, e, i89, h⟩ => ?_)
      subst e
      refine ⟨n7_I _, ?_⟩
      replace h := h i89
      refine g_callS (As := [_]) (fun _ => rfl) ?_
      refine g_go1 (by simp only [cs_c, cs_0, ct_I, ct_L, ct_R]; exact Nat.le_of_ble_eq_true rfl) (Tn_w (TX13_sym i89 h) fun _ G90 ⟨r91, e, i92, h⟩ => ?_)
      subst e
      refine ⟨n7_I _, ?_⟩
      replace h := h i92
      refine g_i2l i92 ?_
      refine g_lor fun i93 => ?_
      replace h := h i93
      refine g_stL (lv' := [_, _, _, _, _, _, _, _]) (Nat.le_of_ble_eq_true rfl) (Or.inr (n1_I _)) rfl ?_
      refine g_inc (lv' := [_, _, _, _, _, _, _, _]) rfl (Nat.le_of_ble_eq_true rfl) (Or.inr (show 7 % 8 ≠ 1 by decide)) rfl ?_
      obtain ⟨q94, h⟩ := h
      exact hj0 _ _ _ _ _ _ _ _ hl1 hl2 hl3 hl4 i93 (show 7 % 8 ≠ 1 by decide) q94 h
    · replace h := h.2 b85
      exact TX13_tokenAt_120 hl1 hl2 hl3 hl4 hl5 hl6 hl7 hj0 hj1 hj2 h
  · replace h := h.2 b83
    exact TX13_tokenAt_120 hl1 hl2 hl3 hl4 hl5 hl6 hl7 hj0 hj1 hj2 h
def PX13_tokenAt_67 (J : Nat → List Int → gS → (Int → gS → Prop) → Prop) (l1 : Int) (l2 : Int) (l3 : Int) (l4 : Int) (s0 : Int) (s1 : Int) (s2 : Int) (G : gS) (Q : Int → gS → Prop) : Prop :=
  (∃ n36, isA W0 0 n36 (s0) ∧ ((0 : Int) ≤ s1 ∧ ((s1 : Int) < n36 ∧ (∀ G40 : gS, G40 = uG G s0 s1 (s2) → PX13_sym l3 G40 (fun r42 G41 => inI r42 → (inI (l2 + 2) ∧ PX13_tokenAt_80 J l1 l2 l3 l4 r42 (l2 + 2) G41 Q))))))
set_option maxRecDepth 20000 in
theorem TX13_tokenAt_67 {j : Nat → rx_K} {J : Nat → List Int → gS → (Int → gS → Prop) → Prop} {l1 : Int} {l2 : Int} {l3 : Int} {l4 : Int} {l5 : Nat} {l6 : Nat} {l7 : Nat} {s0 : Int} {s1 : Int} {s2 : Int} {G : gS} {Q : Int → gS → Prop} (hl1 : inI l1) (hl2 : inI l2) (hl3 : inI l3) (hl4 : inI l4) (hl5 : l5 % 8 ≠ 1) (hl6 : l6 % 8 ≠ 1) (hl7 : l7 % 8 ≠ 1) (hs1 : inI s1) (hs2 : inI s2) (hj0 : ∀ (l1 : Int) (l2 : Int) (l3 : Int) (l4 : Int) (l5 : Int) (l6 : Nat) (l7 : Int) (G : gS), (inI l1) → (inI l2) → (inI l3) → (inI l4) → (inL l5) → (l6 % 8 ≠ 1) → (inI l7) → J 0 [l1, l2, l3, l4, l5, l7] G Q → Tg W0 (j 0) [rf (16081), cI (l1), cI (l2), cI (l3), cI (l4), cL (l5), l6, cI (l7)] [] G (fun r G => ∃ v, r = cI v ∧ inI v ∧ Q v G)) (hj1 : ∀ (l1 : Int) (l2 : Int) (l3 : Int) (l4 : Int) (l5 : Int) (l6 : Nat) (l7 : Int) (G : gS), (inI l1) → (inI l2) → (inI l3) → (inI l4) → (inL l5) → (l6 % 8 ≠ 1) → (inI l7) → J 1 [l1, l2, l3, l4, l5, l7] G Q → Tg W0 (j 1) [rf (16081), cI (l1), cI (l2), cI (l3), cI (l4), cL (l5), l6, cI (l7)] [] G (fun r G => ∃ v, r = cI v ∧ inI v ∧ Q v G)) (hj2 : ∀ (l1 : Int) (l2 : Int) (l3 : Int) (l4 : Int) (l5 : Int) (l6 : Nat) (l7 : Nat) (G : gS), (inI l1) → (inI l2) → (inI l3) → (inI l4) → (inI l5) → (l6 % 8 ≠ 1) → (l7 % 8 ≠ 1) → J 2 [l1, l2, l3, l4, l5] G Q → Tg W0 (j 2) [rf (16081), cI (l1), cI (l2), cI (l3), cI (l4), cI (l5), l6, l7] [] G (fun r G => ∃ v, r = cI v ∧ inI v ∧ Q v G)) (h : PX13_tokenAt_67 J l1 l2 l3 l4 s0 s1 s2 G Q) : Tg W0 (vX13_tokenAt_67 j) [rf (16081), cI (l1), cI (l2), cI (l3), cI (l4), l5, l6, l7] [cI (s2), cI (s1), rf (s0)] G (fun r G => ∃ v, r = cI v ∧ inI v ∧ Q v G) := by
  unfold PX13_tokenAt_67 at h
  unfold vX13_tokenAt_67
  obtain ⟨n36, q37, h⟩ := h
  obtain ⟨q38, q39, h⟩ := h
  refine g_astI q37 q38 q39 hs2 (nfI q37) ?_
  replace h := h _ rfl
  refine g_ld (v := cI _) rfl (is_I _) ?_
  refine g_callS (As := [_]) (fun _ => rfl) ?_
  refine g_go1 (Nat.le_of_ble_eq_true rfl) (Tn_w (TX13_sym hl3 h) fun _ G41 ⟨r42, e, i43, h⟩ => ?_)
  subst e
  refine ⟨n7_I _, ?_⟩
  replace h := h i43
  refine g_i2l i43 ?_
  refine g_stL (lv' := [_, _, _, _, _, _, _, _]) (Nat.le_of_ble_eq_true rfl) (Or.inr (n1_I _)) rfl ?_
  refine g_ld (v := cI _) rfl (is_I _) ?_
  refine g_const (v := cI (2)) rfl ?_
  refine g_add ?_
  refine g_st (lv' := [_, _, _, _, _, _, _, _]) (is_I _) (Nat.le_of_ble_eq_true rfl) (Or.inr (show 7 % 8 ≠ 1 by decide)) rfl ?_
  obtain ⟨q44, h⟩ := h
  exact TX13_tokenAt_80 hl1 hl2 hl3 hl4 (inL_I i43) (show 7 % 8 ≠ 1 by decide) q44 hj0 hj1 hj2 h
def PX13_tokenAt_0 (J : Nat → List Int → gS → (Int → gS → Prop) → Prop) (a1 : Int) (a2 : Int) (G : gS) (Q : Int → gS → Prop) : Prop :=
  PX13_byteAt a2 G (fun r2 G1 => inI r2 → PX13_isSmall r2 G1 (fun r5 G4 => (0 ≤ r5 ∧ r5 ≤ 1) → ((r5 = 0 → PX13_tokenAt_135 J a1 a2 r2 G4 Q) ∧ (¬ (r5 = 0) → (inI (a2 + 1) ∧ PX13_byteAt (a2 + 1) G4 (fun r10 G9 => inI r10 → ((r10 = 46 → (inI (a2 + 2) ∧ PX13_byteAt (a2 + 2) G9 (fun r15 G14 => inI r15 → PX13_isGreat r15 G14 (fun r18 G17 => (0 ≤ r18 ∧ r18 ≤ 1) → ((r18 = 0 → PX13_tokenAt_135 J a1 a2 r2 G17 Q) ∧ (¬ (r18 = 0) → (inI (a2 + 2) ∧ PX13_wordEnd (a2 + 2) G17 (fun r23 G22 => inI r23 → (inI (r23 - a2) ∧ ((11 < r23 - a2 → PX13_tokenAt_67 J a1 a2 r2 r23 16090 a1 6 G22 Q) ∧ (¬ (11 < r23 - a2) → PX13_tokenAt_67 J a1 a2 r2 r23 16090 a1 1 G22 Q))))))))))) ∧ (¬ (r10 = 46) → PX13_tokenAt_135 J a1 a2 r2 G9 Q))))))))
set_option maxRecDepth 20000 in
theorem TX13_tokenAt_0 {j : Nat → rx_K} {J : Nat → List Int → gS → (Int → gS → Prop) → Prop} {a1 : Int} {a2 : Int} {G : gS} {Q : Int → gS → Prop} (ha1 : inI a1) (ha2 : inI a2) (hj0 : ∀ (l1 : Int) (l2 : Int) (l3 : Int) (l4 : Int) (l5 : Int) (l6 : Nat) (l7 : Int) (G : gS), (inI l1) → (inI l2) → (inI l3) → (inI l4) → (inL l5) → (l6 % 8 ≠ 1) → (inI l7) → J 0 [l1, l2, l3, l4, l5, l7] G Q → Tg W0 (j 0) [rf (16081), cI (l1), cI (l2), cI (l3), cI (l4), cL (l5), l6, cI (l7)] [] G (fun r G => ∃ v, r = cI v ∧ inI v ∧ Q v G)) (hj1 : ∀ (l1 : Int) (l2 : Int) (l3 : Int) (l4 : Int) (l5 : Int) (l6 : Nat) (l7 : Int) (G : gS), (inI l1) → (inI l2) → (inI l3) → (inI l4) → (inL l5) → (l6 % 8 ≠ 1) → (inI l7) → J 1 [l1, l2, l3, l4, l5, l7] G Q → Tg W0 (j 1) [rf (16081), cI (l1), cI (l2), cI (l3), cI (l4), cL (l5), l6, cI (l7)] [] G (fun r G => ∃ v, r = cI v ∧ inI v ∧ Q v G)) (hj2 : ∀ (l1 : Int) (l2 : Int) (l3 : Int) (l4 : Int) (l5 : Int) (l6 : Nat) (l7 : Nat) (G : gS), (inI l1) → (inI l2) → (inI l3) → (inI l4) → (inI l5) → (l6 % 8 ≠ 1) → (l7 % 8 ≠ 1) → J 2 [l1, l2, l3, l4, l5] G Q → Tg W0 (j 2) [rf (16081), cI (l1), cI (l2), cI (l3), cI (l4), cI (l5), l6, l7] [] G (fun r G => ∃ v, r = cI v ∧ inI v ∧ Q v G)) (h : PX13_tokenAt_0 J a1 a2 G Q) : Tg W0 (vX13_tokenAt_0 j) [rf (16081), cI (a1), cI (a2), 7, 7, 7, 7, 7] [] G (fun r G => ∃ v, r = cI v ∧ inI v ∧ Q v G) := by
  unfold PX13_tokenAt_0 at h
  unfold vX13_tokenAt_0
  refine g_ld (v := rf _) rfl (is_R _) ?_
  refine g_ld (v := cI _) rfl (is_I _) ?_
  refine g_callV (As := [_]) (ci := 13) oC13 (fun _ => rfl) ?_
  refine g_go1 (Nat.le_of_ble_eq_true rfl) (Tn_w (TX13_byteAt ha2 h) fun _ G1 ⟨r2, e, i3, h⟩ => ?_)
  subst e
  refine ⟨n7_I _, ?_⟩
  replace h := h i3
  refine g_st (lv' := [_, _, _, _, _, _, _, _]) (is_I _) (Nat.le_of_ble_eq_true rfl) (Or.inr (n1_I _)) rfl ?_
  refine g_ld (v := cI _) rfl (is_I _) ?_
  refine g_callS (As := [_]) (fun _ => rfl) ?_
  refine g_go1 (Nat.le_of_ble_eq_true rfl) (Tn_w (TX13_isSmall i3 h) fun _ G4 ⟨r5, e, i6, h⟩ => ?_)
  subst e
  refine ⟨n7_I _, ?_⟩
  replace h := h i6
  refine g_eq1 ⟨by omega, by omega⟩ (fun b7 => ?_) (fun b7 => ?_)
  · replace h := h.1 b7
    exact TX13_tokenAt_135 ha1 ha2 i3 (show 7 % 8 ≠ 1 by decide) (show 7 % 8 ≠ 1 by decide) (show 7 % 8 ≠ 1 by decide) (show 7 % 8 ≠ 1 by decide) hj0 hj1 hj2 h
  · replace h := h.2 b7
    unfold vX13_tokenAt_13
    refine g_ld (v := rf _) rfl (is_R _) ?_
    refine g_ld (v := cI _) rfl (is_I _) ?_
    refine g_const (v := cI (1)) rfl ?_
    refine g_add ?_
    obtain ⟨q8, h⟩ := h
    refine g_callV (As := [_]) (ci := 13) oC13 (fun _ => rfl) ?_
    refine g_go1 (Nat.le_of_ble_eq_true rfl) (Tn_w (TX13_byteAt q8 h) fun _ G9 ⟨r10, e, i11, h⟩ => ?_)
    subst e
    refine ⟨n7_I _, ?_⟩
    replace h := h i11
    refine g_const (v := cI (46)) rfl ?_
    refine g_eq2 i11 ⟨by omega, by omega⟩ (fun b12 => ?_) (fun b12 => ?_)
    · replace h := h.1 b12
      unfold vX13_tokenAt_25
      refine g_ld (v := rf _) rfl (is_R _) ?_
      refine g_ld (v := cI _) rfl (is_I _) ?_
      refine g_const (v := cI (2)) rfl ?_
      refine g_add ?_
      obtain ⟨q13, h⟩ := h
      refine g_callV (As := [_]) (ci := 13) oC13 (fun _ => rfl) ?_
      refine g_go1 (Nat.le_of_ble_eq_true rfl) (Tn_w (TX13_byteAt q13 h) fun _ G14 ⟨r15, e, i16, h⟩ => ?_)
      subst e
      refine ⟨n7_I _, ?_⟩
      replace h := h i16
      refine g_callS (As := [_]) (fun _ => rfl) ?_
      refine g_go1 (Nat.le_of_ble_eq_true rfl) (Tn_w (TX13_isGreat i16 h) fun _ G17 ⟨r18, e, i19, h⟩ => ?_)
      subst e
      refine ⟨n7_I _, ?_⟩
      replace h := h i19
      refine g_eq1 ⟨by omega, by omega⟩ (fun b20 => ?_) (fun b20 => ?_)
      · replace h := h.1 b20
        exact TX13_tokenAt_135 ha1 ha2 i3 (show 7 % 8 ≠ 1 by decide) (show 7 % 8 ≠ 1 by decide) (show 7 % 8 ≠ 1 by decide) (show 7 % 8 ≠ 1 by decide) hj0 hj1 hj2 h
      · replace h := h.2 b20
        unfold vX13_tokenAt_38
        refine g_ld (v := rf _) rfl (is_R _) ?_
        refine g_ld (v := cI _) rfl (is_I _) ?_
        refine g_const (v := cI (2)) rfl ?_
        refine g_add ?_
        obtain ⟨q21, h⟩ := h
        refine g_callV (As := [_]) (ci := 13) oC13 (fun _ => rfl) ?_
        refine g_go1 (Nat.le_of_ble_eq_true rfl) (Tn_w (TX13_wordEnd q21 h) fun _ G22 ⟨r23, e, i24, h⟩ => ?_)
        subst e
        refine ⟨n7_I _, ?_⟩
        replace h := h i24
        refine g_st (lv' := [_, _, _, _, _, _, _, _]) (is_I _) (Nat.le_of_ble_eq_true rfl) (Or.inr (n1_I _)) rfl ?_
        refine g_ld (v := rf _) rfl (is_R _) ?_
        refine g_getF (v := 16090) oC13 (hC13_11) rfl (Nat.le_of_ble_eq_true rfl) (Nat.le_of_ble_eq_true rfl) ?_
        refine g_ld (v := cI _) rfl (is_I _) ?_
        refine g_ld (v := cI _) rfl (is_I _) ?_
        refine g_ld (v := cI _) rfl (is_I _) ?_
        refine g_sub ?_
        refine g_const (v := cI (11)) rfl ?_
        obtain ⟨q25, h⟩ := h
        refine g_gt2 q25 ⟨by omega, by omega⟩ (fun b26 => ?_) (fun b26 => ?_)
        · replace h := h.1 b26
          unfold vX13_tokenAt_61
          refine g_const (v := cI (6)) rfl ?_
          exact TX13_tokenAt_67 ha1 ha2 i3 i24 (show 7 % 8 ≠ 1 by decide) (show 7 % 8 ≠ 1 by decide) (show 7 % 8 ≠ 1 by decide) ha1 ⟨by omega, by omega⟩ hj0 hj1 hj2 h
        · replace h := h.2 b26
          unfold vX13_tokenAt_66
          refine g_const (v := cI (1)) rfl ?_
          exact TX13_tokenAt_67 ha1 ha2 i3 i24 (show 7 % 8 ≠ 1 by decide) (show 7 % 8 ≠ 1 by decide) (show 7 % 8 ≠ 1 by decide) ha1 ⟨by omega, by omega⟩ hj0 hj1 hj2 h
    · replace h := h.2 b12
      exact TX13_tokenAt_135 ha1 ha2 i3 (show 7 % 8 ≠ 1 by decide) (show 7 % 8 ≠ 1 by decide) (show 7 % 8 ≠ 1 by decide) (show 7 % 8 ≠ 1 by decide) hj0 hj1 hj2 h
def PX13_tokenAt_J : Nat → Nat → List Int → gS → (Int → gS → Prop) → Prop
  | 0, _, _, _, _ => False
  | f + 1, h, L, G, Q => match h, L with
    | 0, [l1, l2, l3, l4, l5, l7] => PX13_tokenAt_80 (PX13_tokenAt_J f) l1 l2 l3 l4 l5 l7 G Q
    | 1, [l1, l2, l3, l4, l5, l7] => PX13_tokenAt_155 (PX13_tokenAt_J f) l1 l2 l3 l4 l5 l7 G Q
    | 2, [l1, l2, l3, l4, l5] => PX13_tokenAt_258 (PX13_tokenAt_J f) l1 l2 l3 l4 l5 G Q
    | _, _ => False
theorem TX13_tokenAt_J {Q : Int → gS → Prop} : ∀ f N : Nat, f ≤ N → (∀ (l1 : Int) (l2 : Int) (l3 : Int) (l4 : Int) (l5 : Int) (l6 : Nat) (l7 : Int) (G : gS), (inI l1) → (inI l2) → (inI l3) → (inI l4) → (inL l5) → (l6 % 8 ≠ 1) → (inI l7) → (PX13_tokenAt_J f) 0 [l1, l2, l3, l4, l5, l7] G Q → Tg W0 (rx_J vhX13_tokenAt N 0) [rf (16081), cI (l1), cI (l2), cI (l3), cI (l4), cL (l5), l6, cI (l7)] [] G (fun r G => ∃ v, r = cI v ∧ inI v ∧ Q v G)) ∧ (∀ (l1 : Int) (l2 : Int) (l3 : Int) (l4 : Int) (l5 : Int) (l6 : Nat) (l7 : Int) (G : gS), (inI l1) → (inI l2) → (inI l3) → (inI l4) → (inL l5) → (l6 % 8 ≠ 1) → (inI l7) → (PX13_tokenAt_J f) 1 [l1, l2, l3, l4, l5, l7] G Q → Tg W0 (rx_J vhX13_tokenAt N 1) [rf (16081), cI (l1), cI (l2), cI (l3), cI (l4), cL (l5), l6, cI (l7)] [] G (fun r G => ∃ v, r = cI v ∧ inI v ∧ Q v G)) ∧ (∀ (l1 : Int) (l2 : Int) (l3 : Int) (l4 : Int) (l5 : Int) (l6 : Nat) (l7 : Nat) (G : gS), (inI l1) → (inI l2) → (inI l3) → (inI l4) → (inI l5) → (l6 % 8 ≠ 1) → (l7 % 8 ≠ 1) → (PX13_tokenAt_J f) 2 [l1, l2, l3, l4, l5] G Q → Tg W0 (rx_J vhX13_tokenAt N 2) [rf (16081), cI (l1), cI (l2), cI (l3), cI (l4), cI (l5), l6, l7] [] G (fun r G => ∃ v, r = cI v ∧ inI v ∧ Q v G)) := by
  intro f
  induction f with
  | zero => exact fun N _ => ⟨fun _ _ _ _ _ _ _ _ _ _ _ _ _ _ _ h => h.elim, fun _ _ _ _ _ _ _ _ _ _ _ _ _ _ _ h => h.elim, fun _ _ _ _ _ _ _ _ _ _ _ _ _ _ _ h => h.elim⟩
  | succ f ih =>
    intro N hN
    obtain ⟨M, rfl⟩ : ∃ M, N = M + 1 := ⟨N - 1, by omega⟩
    have ih := ih M (by omega)
    exact ⟨fun _ _ _ _ _ _ _ _ hl1 hl2 hl3 hl4 hl5 hl6 hl7 h => show Tg W0 (vX13_tokenAt_80 (rx_J vhX13_tokenAt M)) _ _ _ _ from TX13_tokenAt_80 hl1 hl2 hl3 hl4 hl5 hl6 hl7 ih.1 ih.2.1 ih.2.2 h, fun _ _ _ _ _ _ _ _ hl1 hl2 hl3 hl4 hl5 hl6 hl7 h => show Tg W0 (vX13_tokenAt_155 (rx_J vhX13_tokenAt M)) _ _ _ _ from TX13_tokenAt_155 hl1 hl2 hl3 hl4 hl5 hl6 hl7 ih.1 ih.2.1 ih.2.2 h, fun _ _ _ _ _ _ _ _ hl1 hl2 hl3 hl4 hl5 hl6 hl7 h => show Tg W0 (vX13_tokenAt_258 (rx_J vhX13_tokenAt M)) _ _ _ _ from TX13_tokenAt_258 hl1 hl2 hl3 hl4 hl5 hl6 hl7 ih.1 ih.2.1 ih.2.2 h⟩
def PX13_tokenAt (a1 : Int) (a2 : Int) (G : gS) (Q : Int → gS → Prop) : Prop := ∃ f : Nat, f ≤ 4000000000 ∧ PX13_tokenAt_0 (PX13_tokenAt_J f) a1 a2 G Q
theorem TX13_tokenAt {a1 : Int} {a2 : Int} {G : gS} {Q : Int → gS → Prop} (ha1 : inI a1) (ha2 : inI a2) (h : PX13_tokenAt a1 a2 G Q) : Tn W0 FX13_tokenAt [rf (16081), cI (a1), cI (a2)] G (fun r G => ∃ v, r = cI v ∧ inI v ∧ Q v G) := by
  obtain ⟨f, hf, h⟩ := h
  have hJ := TX13_tokenAt_J (Q := Q) f 4000000000 hf
  unfold FX13_tokenAt
  refine g_ent (lv' := [rf (16081), cI (a1), cI (a2), 7, 7, 7, 7, 7]) (flR (flI (flI fl0))) (Nat.le_of_ble_eq_true rfl) rfl ?_
  exact TX13_tokenAt_0 ha1 ha2 hJ.1 hJ.2.1 hJ.2.2 h
def PX13_tokenize_162 (J : Nat → List Int → gS → (Int → gS → Prop) → Prop) (l1 : Int) (l2 : Int) (l3 : Int) (l4 : Int) (l5 : Int) (s0 : Int) (G : gS) (Q : Int → gS → Prop) : Prop :=
  (inI (l2 + 1) ∧ J 0 [l5, l2 + 1, s0] G Q)
set_option maxRecDepth 20000 in
theorem TX13_tokenize_162 {j : Nat → rx_K} {J : Nat → List Int → gS → (Int → gS → Prop) → Prop} {l1 : Int} {l2 : Int} {l3 : Int} {l4 : Int} {l5 : Int} {s0 : Int} {G : gS} {Q : Int → gS → Prop} (hl1 : inI l1) (hl2 : inI l2) (hl3 : inI l3) (hl4 : inI l4) (hl5 : inI l5) (hs0 : inI s0) (hj0 : ∀ (l1 : Int) (l2 : Int) (l3 : Int) (l4 : Nat) (l5 : Nat) (G : gS), (inI l1) → (inI l2) → (inI l3) → (l4 % 8 ≠ 1) → (l5 % 8 ≠ 1) → J 0 [l1, l2, l3] G Q → Tg W0 (j 0) [rf (16081), cI (l1), cI (l2), cI (l3), l4, l5] [] G (fun r G => r = 7 ∧ Q 0 G)) (hj1 : ∀ (l1 : Int) (l2 : Int) (l3 : Int) (l4 : Nat) (l5 : Nat) (G : gS), (inI l1) → (inI l2) → (inI l3) → (l4 % 8 ≠ 1) → (l5 % 8 ≠ 1) → J 1 [l1, l2, l3] G Q → Tg W0 (j 1) [rf (16081), cI (l1), cI (l2), cI (l3), l4, l5] [] G (fun r G => r = 7 ∧ Q 0 G)) (h : PX13_tokenize_162 J l1 l2 l3 l4 l5 s0 G Q) : Tg W0 (vX13_tokenize_162 j) [rf (16081), cI (l1), cI (l2), cI (l3), cI (l4), cI (l5)] [cI (s0)] G (fun r G => r = 7 ∧ Q 0 G) := by
  unfold PX13_tokenize_162 at h
  unfold vX13_tokenize_162
  refine g_st (lv' := [_, _, _, _, _, _]) (is_I _) (Nat.le_of_ble_eq_true rfl) (Or.inr (n1_I _)) rfl ?_
  refine g_ld (v := cI _) rfl (is_I _) ?_
  refine g_st (lv' := [_, _, _, _, _, _]) (is_I _) (Nat.le_of_ble_eq_true rfl) (Or.inr (n1_R _)) rfl ?_
  refine g_inc (lv' := [_, _, _, _, _, _]) rfl (Nat.le_of_ble_eq_true rfl) (Or.inr (n1_I _)) rfl ?_
  obtain ⟨q54, h⟩ := h
  exact hj0 _ _ _ _ _ _ hl5 q54 hs0 (n1_I _) (n1_I _) h
def PX13_tokenize_161 (J : Nat → List Int → gS → (Int → gS → Prop) → Prop) (l1 : Int) (l2 : Int) (l3 : Int) (l4 : Int) (l5 : Int) (G : gS) (Q : Int → gS → Prop) : Prop :=
  PX13_tokenize_162 J l1 l2 l3 l4 l5 0 G Q
set_option maxRecDepth 20000 in
theorem TX13_tokenize_161 {j : Nat → rx_K} {J : Nat → List Int → gS → (Int → gS → Prop) → Prop} {l1 : Int} {l2 : Int} {l3 : Int} {l4 : Int} {l5 : Int} {G : gS} {Q : Int → gS → Prop} (hl1 : inI l1) (hl2 : inI l2) (hl3 : inI l3) (hl4 : inI l4) (hl5 : inI l5) (hj0 : ∀ (l1 : Int) (l2 : Int) (l3 : Int) (l4 : Nat) (l5 : Nat) (G : gS), (inI l1) → (inI l2) → (inI l3) → (l4 % 8 ≠ 1) → (l5 % 8 ≠ 1) → J 0 [l1, l2, l3] G Q → Tg W0 (j 0) [rf (16081), cI (l1), cI (l2), cI (l3), l4, l5] [] G (fun r G => r = 7 ∧ Q 0 G)) (hj1 : ∀ (l1 : Int) (l2 : Int) (l3 : Int) (l4 : Nat) (l5 : Nat) (G : gS), (inI l1) → (inI l2) → (inI l3) → (l4 % 8 ≠ 1) → (l5 % 8 ≠ 1) → J 1 [l1, l2, l3] G Q → Tg W0 (j 1) [rf (16081), cI (l1), cI (l2), cI (l3), l4, l5] [] G (fun r G => r = 7 ∧ Q 0 G)) (h : PX13_tokenize_161 J l1 l2 l3 l4 l5 G Q) : Tg W0 (vX13_tokenize_161 j) [rf (16081), cI (l1), cI (l2), cI (l3), cI (l4), cI (l5)] [] G (fun r G => r = 7 ∧ Q 0 G) := by
  unfold PX13_tokenize_161 at h
  unfold vX13_tokenize_161
  refine g_const (v := cI (0)) rfl ?_
  exact TX13_tokenize_162 hl1 hl2 hl3 hl4 hl5 ⟨by omega, by omega⟩ hj0 hj1 h
def PX13_tokenize_117 (J : Nat → List Int → gS → (Int → gS → Prop) → Prop) (l1 : Int) (l2 : Int) (l3 : Int) (l4 : Int) (s0 : Int) (G : gS) (Q : Int → gS → Prop) : Prop :=
  ((0 : Int) ≤ l4 ∧ ((l4 : Int) < 12636 ∧ (∀ G44 : gS, G44 = uG G 16092 l4 (s0) → ((0 : Int) ≤ l4 ∧ ((l4 : Int) < 12636 ∧ (inI (G44 16090 l4) → ((G44 16090 l4 = 0 → PX13_tokenize_161 J l1 l2 l3 l4 s0 G44 Q) ∧ (¬ (G44 16090 l4 = 0) → ((0 : Int) ≤ l4 ∧ ((l4 : Int) < 12636 ∧ (inI (G44 16090 l4) → ((G44 16090 l4 = 6 → PX13_tokenize_161 J l1 l2 l3 l4 s0 G44 Q) ∧ (¬ (G44 16090 l4 = 6) → ((l2 < 700 → PX13_tokenize_162 J l1 l2 l3 l4 s0 1 G44 Q) ∧ (¬ (l2 < 700) → PX13_tokenize_161 J l1 l2 l3 l4 s0 G44 Q)))))))))))))))
set_option maxRecDepth 20000 in
theorem TX13_tokenize_117 {j : Nat → rx_K} {J : Nat → List Int → gS → (Int → gS → Prop) → Prop} {l1 : Int} {l2 : Int} {l3 : Int} {l4 : Int} {l5 : Nat} {s0 : Int} {G : gS} {Q : Int → gS → Prop} (hl1 : inI l1) (hl2 : inI l2) (hl3 : inI l3) (hl4 : inI l4) (hl5 : l5 % 8 ≠ 1) (hs0 : inI s0) (hj0 : ∀ (l1 : Int) (l2 : Int) (l3 : Int) (l4 : Nat) (l5 : Nat) (G : gS), (inI l1) → (inI l2) → (inI l3) → (l4 % 8 ≠ 1) → (l5 % 8 ≠ 1) → J 0 [l1, l2, l3] G Q → Tg W0 (j 0) [rf (16081), cI (l1), cI (l2), cI (l3), l4, l5] [] G (fun r G => r = 7 ∧ Q 0 G)) (hj1 : ∀ (l1 : Int) (l2 : Int) (l3 : Int) (l4 : Nat) (l5 : Nat) (G : gS), (inI l1) → (inI l2) → (inI l3) → (l4 % 8 ≠ 1) → (l5 % 8 ≠ 1) → J 1 [l1, l2, l3] G Q → Tg W0 (j 1) [rf (16081), cI (l1), cI (l2), cI (l3), l4, l5] [] G (fun r G => r = 7 ∧ Q 0 G)) (h : PX13_tokenize_117 J l1 l2 l3 l4 s0 G Q) : Tg W0 (vX13_tokenize_117 j) [rf (16081), cI (l1), cI (l2), cI (l3), cI (l4), l5] [cI (s0)] G (fun r G => r = 7 ∧ Q 0 G) := by
  unfold PX13_tokenize_117 at h
  unfold vX13_tokenize_117
  refine g_st (lv' := [_, _, _, _, _, _]) (is_I _) (Nat.le_of_ble_eq_true rfl) (Or.inr (n1_I _)) rfl ?_
  refine g_ld (v := rf _) rfl (is_R _) ?_
  refine g_getF (v := 16092) oC13 (hC13_13) rfl (Nat.le_of_ble_eq_true rfl) (Nat.le_of_ble_eq_true rfl) ?_
  refine g_ld (v := cI _) rfl (is_I _) ?_
  refine g_ld (v := cI _) rfl (is_I _) ?_
  obtain ⟨q42, q43, h⟩ := h
  refine g_astI aC16092 q42 q43 hs0 (nfI aC16092) ?_
  replace h := h _ rfl
  refine g_ld (v := rf _) rfl (is_R _) ?_
  refine g_getF (v := 16090) oC13 (hC13_11) rfl (Nat.le_of_ble_eq_true rfl) (Nat.le_of_ble_eq_true rfl) ?_
  refine g_ld (v := cI _) rfl (is_I _) ?_
  obtain ⟨q45, q46, h⟩ := h
  refine g_aldI aC16090 q45 q46 rfl fun i47 => ?_
  replace h := h i47
  refine g_eq1 i47 (fun b48 => ?_) (fun b48 => ?_)
  · replace h := h.1 b48
    exact TX13_tokenize_161 hl1 hl2 hl3 hl4 hs0 hj0 hj1 h
  · replace h := h.2 b48
    unfold vX13_tokenize_138
    refine g_ld (v := rf _) rfl (is_R _) ?_
    refine g_getF (v := 16090) oC13 (hC13_11) rfl (Nat.le_of_ble_eq_true rfl) (Nat.le_of_ble_eq_true rfl) ?_
    refine g_ld (v := cI _) rfl (is_I _) ?_
    obtain ⟨q49, q50, h⟩ := h
    refine g_aldI aC16090 q49 q50 rfl fun i51 => ?_
    replace h := h i51
    refine g_const (v := cI (6)) rfl ?_
    refine g_eq2 i51 ⟨by omega, by omega⟩ (fun b52 => ?_) (fun b52 => ?_)
    · replace h := h.1 b52
      exact TX13_tokenize_161 hl1 hl2 hl3 hl4 hs0 hj0 hj1 h
    · replace h := h.2 b52
      unfold vX13_tokenize_150
      refine g_ld (v := cI _) rfl (is_I _) ?_
      refine g_const (v := cI (700)) rfl ?_
      refine g_lt2 hl2 ⟨by omega, by omega⟩ (fun b53 => ?_) (fun b53 => ?_)
      · replace h := h.1 b53
        unfold vX13_tokenize_157
        refine g_const (v := cI (1)) rfl ?_
        exact TX13_tokenize_162 hl1 hl2 hl3 hl4 hs0 ⟨by omega, by omega⟩ hj0 hj1 h
      · replace h := h.2 b53
        exact TX13_tokenize_161 hl1 hl2 hl3 hl4 hs0 hj0 hj1 h
def PX13_tokenize_49 (J : Nat → List Int → gS → (Int → gS → Prop) → Prop) (l1 : Int) (l2 : Int) (l3 : Int) (G : gS) (Q : Int → gS → Prop) : Prop :=
  (inI (G 16081 19) → (inI (((G 16081 19) * 702) + l2) ∧ ((0 : Int) ≤ ((G 16081 19) * 702) + l2 ∧ ((((G 16081 19) * 702) + l2 : Int) < 12636 ∧ (∀ G24 : gS, G24 = uG G 16091 (((G 16081 19) * 702) + l2) (l1) → ((0 : Int) ≤ ((G 16081 19) * 702) + l2 ∧ ((((G 16081 19) * 702) + l2 : Int) < 12636 ∧ (∀ G27 : gS, G27 = uG G24 16093 (((G 16081 19) * 702) + l2) (0) → ((0 : Int) ≤ ((G 16081 19) * 702) + l2 ∧ ((((G 16081 19) * 702) + l2 : Int) < 12636 ∧ (∀ G30 : gS, G30 = uG G27 16094 (((G 16081 19) * 702) + l2) (0) → ((0 : Int) ≤ ((G 16081 19) * 702) + l2 ∧ ((((G 16081 19) * 702) + l2 : Int) < 12636 ∧ (∀ G33 : gS, G33 = uG G30 16090 (((G 16081 19) * 702) + l2) (0) → (inI (G33 16081 19) → ((0 : Int) ≤ G33 16081 19 ∧ ((G33 16081 19 : Int) < 16 ∧ (inI (G33 16086 (G33 16081 19)) → ((l1 < G33 16086 (G33 16081 19) → PX13_tokenAt (((G 16081 19) * 702) + l2) l1 G33 (fun r40 G39 => inI r40 → PX13_tokenize_117 J l1 l2 l3 (((G 16081 19) * 702) + l2) r40 G39 Q)) ∧ (¬ (l1 < G33 16086 (G33 16081 19)) → PX13_tokenize_117 J l1 l2 l3 (((G 16081 19) * 702) + l2) l1 G33 Q))))))))))))))))))))
set_option maxRecDepth 20000 in
theorem TX13_tokenize_49 {j : Nat → rx_K} {J : Nat → List Int → gS → (Int → gS → Prop) → Prop} {l1 : Int} {l2 : Int} {l3 : Int} {l4 : Nat} {l5 : Nat} {G : gS} {Q : Int → gS → Prop} (hl1 : inI l1) (hl2 : inI l2) (hl3 : inI l3) (hl4 : l4 % 8 ≠ 1) (hl5 : l5 % 8 ≠ 1) (hj0 : ∀ (l1 : Int) (l2 : Int) (l3 : Int) (l4 : Nat) (l5 : Nat) (G : gS), (inI l1) → (inI l2) → (inI l3) → (l4 % 8 ≠ 1) → (l5 % 8 ≠ 1) → J 0 [l1, l2, l3] G Q → Tg W0 (j 0) [rf (16081), cI (l1), cI (l2), cI (l3), l4, l5] [] G (fun r G => r = 7 ∧ Q 0 G)) (hj1 : ∀ (l1 : Int) (l2 : Int) (l3 : Int) (l4 : Nat) (l5 : Nat) (G : gS), (inI l1) → (inI l2) → (inI l3) → (l4 % 8 ≠ 1) → (l5 % 8 ≠ 1) → J 1 [l1, l2, l3] G Q → Tg W0 (j 1) [rf (16081), cI (l1), cI (l2), cI (l3), l4, l5] [] G (fun r G => r = 7 ∧ Q 0 G)) (h : PX13_tokenize_49 J l1 l2 l3 G Q) : Tg W0 (vX13_tokenize_49 j) [rf (16081), cI (l1), cI (l2), cI (l3), l4, l5] [] G (fun r G => r = 7 ∧ Q 0 G) := by
  unfold PX13_tokenize_49 at h
  unfold vX13_tokenize_49
  refine g_ld (v := rf _) rfl (is_R _) ?_
  refine g_getI (kz := 19) oC13 rfl (Nat.le_of_ble_eq_true rfl) rfl fun i20 => ?_
  replace h := h i20
  refine g_const (v := cI (702)) rfl ?_
  refine g_mul ?_
  refine g_ld (v := cI _) rfl (is_I _) ?_
  refine g_add ?_
  refine g_st (lv' := [_, _, _, _, _, _]) (is_I _) (Nat.le_of_ble_eq_true rfl) (Or.inr (n1_I _)) rfl ?_
  obtain ⟨q21, h⟩ := h
  refine g_ld (v := rf _) rfl (is_R _) ?_
  refine g_getF (v := 16091) oC13 (hC13_12) rfl (Nat.le_of_ble_eq_true rfl) (Nat.le_of_ble_eq_true rfl) ?_
  refine g_ld (v := cI _) rfl (is_I _) ?_
  refine g_ld (v := cI _) rfl (is_I _) ?_
  obtain ⟨q22, q23, h⟩ := h
  refine g_astI aC16091 q22 q23 hl1 (nfI aC16091) ?_
  replace h := h _ rfl
  refine g_ld (v := rf _) rfl (is_R _) ?_
  refine g_getF (v := 16093) oC13 (hC13_14) rfl (Nat.le_of_ble_eq_true rfl) (Nat.le_of_ble_eq_true rfl) ?_
  refine g_ld (v := cI _) rfl (is_I _) ?_
  refine g_const (v := cL (0)) rfl ?_
  obtain ⟨q25, q26, h⟩ := h
  refine g_astL aC16093 q25 q26 ⟨by omega, by omega⟩ (nfL aC16093) ?_
  replace h := h _ rfl
  refine g_ld (v := rf _) rfl (is_R _) ?_
  refine g_getF (v := 16094) oC13 (hC13_15) rfl (Nat.le_of_ble_eq_true rfl) (Nat.le_of_ble_eq_true rfl) ?_
  refine g_ld (v := cI _) rfl (is_I _) ?_
  refine g_const (v := cI (0)) rfl ?_
  obtain ⟨q28, q29, h⟩ := h
  refine g_astI aC16094 q28 q29 ⟨by omega, by omega⟩ (nfI aC16094) ?_
  replace h := h _ rfl
  refine g_ld (v := rf _) rfl (is_R _) ?_
  refine g_getF (v := 16090) oC13 (hC13_11) rfl (Nat.le_of_ble_eq_true rfl) (Nat.le_of_ble_eq_true rfl) ?_
  unfold vX13_tokenize_89
  refine g_ld (v := cI _) rfl (is_I _) ?_
  refine g_const (v := cI (0)) rfl ?_
  obtain ⟨q31, q32, h⟩ := h
  refine g_astI aC16090 q31 q32 ⟨by omega, by omega⟩ (nfI aC16090) ?_
  replace h := h _ rfl
  refine g_ld (v := cI _) rfl (is_I _) ?_
  refine g_ld (v := rf _) rfl (is_R _) ?_
  refine g_getF (v := 16086) oC13 (hC13_6) rfl (Nat.le_of_ble_eq_true rfl) (Nat.le_of_ble_eq_true rfl) ?_
  refine g_ld (v := rf _) rfl (is_R _) ?_
  refine g_getI (kz := 19) oC13 rfl (Nat.le_of_ble_eq_true rfl) rfl fun i34 => ?_
  replace h := h i34
  obtain ⟨q35, q36, h⟩ := h
  refine g_aldI aC16086 q35 q36 rfl fun i37 => ?_
  replace h := h i37
  refine g_lt2 hl1 i37 (fun b38 => ?_) (fun b38 => ?_)
  · replace h := h.1 b38
    unfold vX13_tokenize_106
    refine g_ld (v := rf _) rfl (is_R _) ?_
    refine g_ld (v := cI _) rfl (is_I _) ?_
    refine g_ld (v := cI _) rfl (is_I _) ?_
    refine g_callV (As := [_, _]) (ci := 13) oC13 (fun _ => rfl) ?_
    refine g_go1 (Nat.le_of_ble_eq_true rfl) (Tn_w (TX13_tokenAt q21 hl1 h) fun _ G39 ⟨r40, e, i41, h⟩ => ?_)
    subst e
    refine ⟨n7_I _, ?_⟩
    replace h := h i41
    exact TX13_tokenize_117 hl1 hl2 hl3 q21 hl5 i41 hj0 hj1 h
  · replace h := h.2 b38
    unfold vX13_tokenize_116
    refine g_ld (v := cI _) rfl (is_I _) ?_
    exact TX13_tokenize_117 hl1 hl2 hl3 q21 hl5 hl1 hj0 hj1 h
def PX13_tokenize_43 (J : Nat → List Int → gS → (Int → gS → Prop) → Prop) (l1 : Int) (l2 : Int) (l3 : Int) (G : gS) (Q : Int → gS → Prop) : Prop :=
  (inI (l1 + 1) ∧ J 1 [l1 + 1, l2, l3] G Q)
set_option maxRecDepth 20000 in
theorem TX13_tokenize_43 {j : Nat → rx_K} {J : Nat → List Int → gS → (Int → gS → Prop) → Prop} {l1 : Int} {l2 : Int} {l3 : Int} {l4 : Nat} {l5 : Nat} {G : gS} {Q : Int → gS → Prop} (hl1 : inI l1) (hl2 : inI l2) (hl3 : inI l3) (hl4 : l4 % 8 ≠ 1) (hl5 : l5 % 8 ≠ 1) (hj0 : ∀ (l1 : Int) (l2 : Int) (l3 : Int) (l4 : Nat) (l5 : Nat) (G : gS), (inI l1) → (inI l2) → (inI l3) → (l4 % 8 ≠ 1) → (l5 % 8 ≠ 1) → J 0 [l1, l2, l3] G Q → Tg W0 (j 0) [rf (16081), cI (l1), cI (l2), cI (l3), l4, l5] [] G (fun r G => r = 7 ∧ Q 0 G)) (hj1 : ∀ (l1 : Int) (l2 : Int) (l3 : Int) (l4 : Nat) (l5 : Nat) (G : gS), (inI l1) → (inI l2) → (inI l3) → (l4 % 8 ≠ 1) → (l5 % 8 ≠ 1) → J 1 [l1, l2, l3] G Q → Tg W0 (j 1) [rf (16081), cI (l1), cI (l2), cI (l3), l4, l5] [] G (fun r G => r = 7 ∧ Q 0 G)) (h : PX13_tokenize_43 J l1 l2 l3 G Q) : Tg W0 (vX13_tokenize_43 j) [rf (16081), cI (l1), cI (l2), cI (l3), l4, l5] [] G (fun r G => r = 7 ∧ Q 0 G) := by
  unfold PX13_tokenize_43 at h
  unfold vX13_tokenize_43
  refine g_inc (lv' := [_, _, _, _, _, _]) rfl (Nat.le_of_ble_eq_true rfl) (Or.inr (n1_R _)) rfl ?_
  obtain ⟨q19, h⟩ := h
  exact hj1 _ _ _ _ _ _ q19 hl2 hl3 hl4 hl5 h
def PX13_tokenize_10 (J : Nat → List Int → gS → (Int → gS → Prop) → Prop) (l1 : Int) (l2 : Int) (l3 : Int) (G : gS) (Q : Int → gS → Prop) : Prop :=
  (inI (G 16081 19) → ((0 : Int) ≤ G 16081 19 ∧ ((G 16081 19 : Int) < 16 ∧ (inI (G 16086 (G 16081 19)) → ((l1 < G 16086 (G 16081 19) → PX13_byteAt l1 G (fun r12 G11 => inI r12 → ((r12 = 10 → PX13_tokenize_43 J l1 l2 l3 G11 Q) ∧ (¬ (r12 = 10) → PX13_byteAt l1 G11 (fun r16 G15 => inI r16 → ((r16 = 32 → PX13_tokenize_43 J l1 l2 l3 G15 Q) ∧ (¬ (r16 = 32) → PX13_tokenize_49 J l1 l2 l3 G15 Q))))))) ∧ (¬ (l1 < G 16086 (G 16081 19)) → PX13_tokenize_49 J l1 l2 l3 G Q))))))
set_option maxRecDepth 20000 in
theorem TX13_tokenize_10 {j : Nat → rx_K} {J : Nat → List Int → gS → (Int → gS → Prop) → Prop} {l1 : Int} {l2 : Int} {l3 : Int} {l4 : Nat} {l5 : Nat} {G : gS} {Q : Int → gS → Prop} (hl1 : inI l1) (hl2 : inI l2) (hl3 : inI l3) (hl4 : l4 % 8 ≠ 1) (hl5 : l5 % 8 ≠ 1) (hj0 : ∀ (l1 : Int) (l2 : Int) (l3 : Int) (l4 : Nat) (l5 : Nat) (G : gS), (inI l1) → (inI l2) → (inI l3) → (l4 % 8 ≠ 1) → (l5 % 8 ≠ 1) → J 0 [l1, l2, l3] G Q → Tg W0 (j 0) [rf (16081), cI (l1), cI (l2), cI (l3), l4, l5] [] G (fun r G => r = 7 ∧ Q 0 G)) (hj1 : ∀ (l1 : Int) (l2 : Int) (l3 : Int) (l4 : Nat) (l5 : Nat) (G : gS), (inI l1) → (inI l2) → (inI l3) → (l4 % 8 ≠ 1) → (l5 % 8 ≠ 1) → J 1 [l1, l2, l3] G Q → Tg W0 (j 1) [rf (16081), cI (l1), cI (l2), cI (l3), l4, l5] [] G (fun r G => r = 7 ∧ Q 0 G)) (h : PX13_tokenize_10 J l1 l2 l3 G Q) : Tg W0 (vX13_tokenize_10 j) [rf (16081), cI (l1), cI (l2), cI (l3), l4, l5] [] G (fun r G => r = 7 ∧ Q 0 G) := by
  unfold PX13_tokenize_10 at h
  unfold vX13_tokenize_10
  refine g_ld (v := cI _) rfl (is_I _) ?_
  refine g_ld (v := rf _) rfl (is_R _) ?_
  refine g_getF (v := 16086) oC13 (hC13_6) rfl (Nat.le_of_ble_eq_true rfl) (Nat.le_of_ble_eq_true rfl) ?_
  refine g_ld (v := rf _) rfl (is_R _) ?_
  refine g_getI (kz := 19) oC13 rfl (Nat.le_of_ble_eq_true rfl) rfl fun i6 => ?_
  replace h := h i6
  obtain ⟨q7, q8, h⟩ := h
  refine g_aldI aC16086 q7 q8 rfl fun i9 => ?_
  replace h := h i9
  refine g_lt2 hl1 i9 (fun b10 => ?_) (fun b10 => ?_)
  · replace h := h.1 b10
    unfold vX13_tokenize_23
    refine g_ld (v := rf _) rfl (is_R _) ?_
    refine g_ld (v := cI _) rfl (is_I _) ?_
    refine g_callV (As := [_]) (ci := 13) oC13 (fun _ => rfl) ?_
    refine g_go1 (Nat.le_of_ble_eq_true rfl) (Tn_w (TX13_byteAt hl1 h) fun _ G11 ⟨r12, e, i13, h⟩ => ?_)
    subst e
    refine ⟨n7_I _, ?_⟩
    replace h := h i13
    refine g_const (v := cI (10)) rfl ?_
    refine g_eq2 i13 ⟨by omega, by omega⟩ (fun b14 => ?_) (fun b14 => ?_)
    · replace h := h.1 b14
      exact TX13_tokenize_43 hl1 hl2 hl3 hl4 hl5 hj0 hj1 h
    · replace h := h.2 b14
      unfold vX13_tokenize_33
      refine g_ld (v := rf _) rfl (is_R _) ?_
      refine g_ld (v := cI _) rfl (is_I _) ?_
      refine g_callV (As := [_]) (ci := 13) oC13 (fun _ => rfl) ?_
      refine g_go1 (Nat.le_of_ble_eq_true rfl) (Tn_w (TX13_byteAt hl1 h) fun _ G15 ⟨r16, e, i17, h⟩ => ?_)
      subst e
      refine ⟨n7_I _, ?_⟩
      replace h := h i17
      refine g_const (v := cI (32)) rfl ?_
      refine g_eq2 i17 ⟨by omega, by omega⟩ (fun b18 => ?_) (fun b18 => ?_)
      · replace h := h.1 b18
        exact TX13_tokenize_43 hl1 hl2 hl3 hl4 hl5 hj0 hj1 h
      · replace h := h.2 b18
        exact TX13_tokenize_49 hl1 hl2 hl3 hl4 hl5 hj0 hj1 h
  · replace h := h.2 b10
    exact TX13_tokenize_49 hl1 hl2 hl3 hl4 hl5 hj0 hj1 h
def PX13_tokenize_6 (J : Nat → List Int → gS → (Int → gS → Prop) → Prop) (l1 : Int) (l2 : Int) (l3 : Int) (G : gS) (Q : Int → gS → Prop) : Prop :=
  ((l3 = 0 → (inI (G 16081 19) → ((0 : Int) ≤ G 16081 19 ∧ ((G 16081 19 : Int) < 18 ∧ (∀ G5 : gS, G5 = uG G 16095 (G 16081 19) (l2) → Q 0 G5))))) ∧ (¬ (l3 = 0) → PX13_tokenize_10 J l1 l2 l3 G Q))
set_option maxRecDepth 20000 in
theorem TX13_tokenize_6 {j : Nat → rx_K} {J : Nat → List Int → gS → (Int → gS → Prop) → Prop} {l1 : Int} {l2 : Int} {l3 : Int} {l4 : Nat} {l5 : Nat} {G : gS} {Q : Int → gS → Prop} (hl1 : inI l1) (hl2 : inI l2) (hl3 : inI l3) (hl4 : l4 % 8 ≠ 1) (hl5 : l5 % 8 ≠ 1) (hj0 : ∀ (l1 : Int) (l2 : Int) (l3 : Int) (l4 : Nat) (l5 : Nat) (G : gS), (inI l1) → (inI l2) → (inI l3) → (l4 % 8 ≠ 1) → (l5 % 8 ≠ 1) → J 0 [l1, l2, l3] G Q → Tg W0 (j 0) [rf (16081), cI (l1), cI (l2), cI (l3), l4, l5] [] G (fun r G => r = 7 ∧ Q 0 G)) (hj1 : ∀ (l1 : Int) (l2 : Int) (l3 : Int) (l4 : Nat) (l5 : Nat) (G : gS), (inI l1) → (inI l2) → (inI l3) → (l4 % 8 ≠ 1) → (l5 % 8 ≠ 1) → J 1 [l1, l2, l3] G Q → Tg W0 (j 1) [rf (16081), cI (l1), cI (l2), cI (l3), l4, l5] [] G (fun r G => r = 7 ∧ Q 0 G)) (h : PX13_tokenize_6 J l1 l2 l3 G Q) : Tg W0 (vX13_tokenize_6 j) [rf (16081), cI (l1), cI (l2), cI (l3), l4, l5] [] G (fun r G => r = 7 ∧ Q 0 G) := by
  unfold PX13_tokenize_6 at h
  unfold vX13_tokenize_6
  refine g_ld (v := cI _) rfl (is_I _) ?_
  refine g_eq1 hl3 (fun b1 => ?_) (fun b1 => ?_)
  · replace h := h.1 b1
    unfold vX13_tokenize_172
    refine g_ld (v := rf _) rfl (is_R _) ?_
    refine g_getF (v := 16095) oC13 (hC13_16) rfl (Nat.le_of_ble_eq_true rfl) (Nat.le_of_ble_eq_true rfl) ?_
    refine g_ld (v := rf _) rfl (is_R _) ?_
    refine g_getI (kz := 19) oC13 rfl (Nat.le_of_ble_eq_true rfl) rfl fun i2 => ?_
    replace h := h i2
    refine g_ld (v := cI _) rfl (is_I _) ?_
    obtain ⟨q3, q4, h⟩ := h
    refine g_astI aC16095 q3 q4 hl2 (nfI aC16095) ?_
    replace h := h _ rfl
    exact g_ret0 ⟨rfl, h⟩
  · replace h := h.2 b1
    exact TX13_tokenize_10 hl1 hl2 hl3 hl4 hl5 hj0 hj1 h
def PX13_tokenize_0 (J : Nat → List Int → gS → (Int → gS → Prop) → Prop)  (G : gS) (Q : Int → gS → Prop) : Prop :=
  PX13_tokenize_6 J 0 0 1 G Q
set_option maxRecDepth 20000 in
theorem TX13_tokenize_0 {j : Nat → rx_K} {J : Nat → List Int → gS → (Int → gS → Prop) → Prop}  {G : gS} {Q : Int → gS → Prop}  (hj0 : ∀ (l1 : Int) (l2 : Int) (l3 : Int) (l4 : Nat) (l5 : Nat) (G : gS), (inI l1) → (inI l2) → (inI l3) → (l4 % 8 ≠ 1) → (l5 % 8 ≠ 1) → J 0 [l1, l2, l3] G Q → Tg W0 (j 0) [rf (16081), cI (l1), cI (l2), cI (l3), l4, l5] [] G (fun r G => r = 7 ∧ Q 0 G)) (hj1 : ∀ (l1 : Int) (l2 : Int) (l3 : Int) (l4 : Nat) (l5 : Nat) (G : gS), (inI l1) → (inI l2) → (inI l3) → (l4 % 8 ≠ 1) → (l5 % 8 ≠ 1) → J 1 [l1, l2, l3] G Q → Tg W0 (j 1) [rf (16081), cI (l1), cI (l2), cI (l3), l4, l5] [] G (fun r G => r = 7 ∧ Q 0 G)) (h : PX13_tokenize_0 J  G Q) : Tg W0 (vX13_tokenize_0 j) [rf (16081), 7, 7, 7, 7, 7] [] G (fun r G => r = 7 ∧ Q 0 G) := by
  unfold PX13_tokenize_0 at h
  unfold vX13_tokenize_0
  refine g_const (v := cI (0)) rfl ?_
  refine g_st (lv' := [_, _, _, _, _, _]) (is_I _) (Nat.le_of_ble_eq_true rfl) (Or.inr (n1_R _)) rfl ?_
  refine g_const (v := cI (0)) rfl ?_
  refine g_st (lv' := [_, _, _, _, _, _]) (is_I _) (Nat.le_of_ble_eq_true rfl) (Or.inr (n1_I _)) rfl ?_
  refine g_const (v := cI (1)) rfl ?_
  refine g_st (lv' := [_, _, _, _, _, _]) (is_I _) (Nat.le_of_ble_eq_true rfl) (Or.inr (n1_I _)) rfl ?_
  exact TX13_tokenize_6 ⟨by omega, by omega⟩ ⟨by omega, by omega⟩ ⟨by omega, by omega⟩ (show 7 % 8 ≠ 1 by decide) (show 7 % 8 ≠ 1 by decide) hj0 hj1 h
def PX13_tokenize_J : Nat → Nat → List Int → gS → (Int → gS → Prop) → Prop
  | 0, _, _, _, _ => False
  | f + 1, h, L, G, Q => match h, L with
    | 0, [l1, l2, l3] => PX13_tokenize_6 (PX13_tokenize_J f) l1 l2 l3 G Q
    | 1, [l1, l2, l3] => PX13_tokenize_10 (PX13_tokenize_J f) l1 l2 l3 G Q
    | _, _ => False
theorem TX13_tokenize_J {Q : Int → gS → Prop} : ∀ f N : Nat, f ≤ N → (∀ (l1 : Int) (l2 : Int) (l3 : Int) (l4 : Nat) (l5 : Nat) (G : gS), (inI l1) → (inI l2) → (inI l3) → (l4 % 8 ≠ 1) → (l5 % 8 ≠ 1) → (PX13_tokenize_J f) 0 [l1, l2, l3] G Q → Tg W0 (rx_J vhX13_tokenize N 0) [rf (16081), cI (l1), cI (l2), cI (l3), l4, l5] [] G (fun r G => r = 7 ∧ Q 0 G)) ∧ (∀ (l1 : Int) (l2 : Int) (l3 : Int) (l4 : Nat) (l5 : Nat) (G : gS), (inI l1) → (inI l2) → (inI l3) → (l4 % 8 ≠ 1) → (l5 % 8 ≠ 1) → (PX13_tokenize_J f) 1 [l1, l2, l3] G Q → Tg W0 (rx_J vhX13_tokenize N 1) [rf (16081), cI (l1), cI (l2), cI (l3), l4, l5] [] G (fun r G => r = 7 ∧ Q 0 G)) := by
  intro f
  induction f with
  | zero => exact fun N _ => ⟨fun _ _ _ _ _ _ _ _ _ _ _ h => h.elim, fun _ _ _ _ _ _ _ _ _ _ _ h => h.elim⟩
  | succ f ih =>
    intro N hN
    obtain ⟨M, rfl⟩ : ∃ M, N = M + 1 := ⟨N - 1, by omega⟩
    have ih := ih M (by omega)
    exact ⟨fun _ _ _ _ _ _ hl1 hl2 hl3 hl4 hl5 h => show Tg W0 (vX13_tokenize_6 (rx_J vhX13_tokenize M)) _ _ _ _ from TX13_tokenize_6 hl1 hl2 hl3 hl4 hl5 ih.1 ih.2 h, fun _ _ _ _ _ _ hl1 hl2 hl3 hl4 hl5 h => show Tg W0 (vX13_tokenize_10 (rx_J vhX13_tokenize M)) _ _ _ _ from TX13_tokenize_10 hl1 hl2 hl3 hl4 hl5 ih.1 ih.2 h⟩
def PX13_tokenize  (G : gS) (Q : Int → gS → Prop) : Prop := ∃ f : Nat, f ≤ 4000000000 ∧ PX13_tokenize_0 (PX13_tokenize_J f)  G Q
theorem TX13_tokenize  {G : gS} {Q : Int → gS → Prop}  (h : PX13_tokenize  G Q) : Tn W0 FX13_tokenize [rf (16081)] G (fun r G => r = 7 ∧ Q 0 G) := by
  obtain ⟨f, hf, h⟩ := h
  have hJ := TX13_tokenize_J (Q := Q) f 4000000000 hf
  unfold FX13_tokenize
  refine g_ent (lv' := [rf (16081), 7, 7, 7, 7, 7]) (flR fl0) (Nat.le_of_ble_eq_true rfl) rfl ?_
  exact TX13_tokenize_0  hJ.1 hJ.2 h
def PX13_fault_17 (l1 : Int) (l2 : Int) (G : gS) (Q : Int → gS → Prop) : Prop :=
  Q 0 G
set_option maxRecDepth 20000 in
theorem TX13_fault_17 {l1 : Int} {l2 : Int} {G : gS} {Q : Int → gS → Prop} (hl1 : inI l1) (hl2 : inI l2) (h : PX13_fault_17 l1 l2 G Q) : Tg W0 vX13_fault_17 [rf (16081), cI (l1), cI (l2)] [] G (fun r G => r = 7 ∧ Q 0 G) := by
  unfold PX13_fault_17 at h
  unfold vX13_fault_17
  exact g_ret0 ⟨rfl, h⟩
def PX13_fault_0 (a1 : Int) (a2 : Int) (G : gS) (Q : Int → gS → Prop) : Prop :=
  (inI (G 16081 20) → ((G 16081 20 = 0 → (∀ G3 : gS, G3 = uG G 16081 20 (a1) → (∀ G4 : gS, G4 = uG G3 16081 21 (a2) → PX13_fault_17 a1 a2 G4 Q))) ∧ (¬ (G 16081 20 = 0) → PX13_fault_17 a1 a2 G Q)))
set_option maxRecDepth 20000 in
theorem TX13_fault_0 {a1 : Int} {a2 : Int} {G : gS} {Q : Int → gS → Prop} (ha1 : inI a1) (ha2 : inI a2) (h : PX13_fault_0 a1 a2 G Q) : Tg W0 vX13_fault_0 [rf (16081), cI (a1), cI (a2)] [] G (fun r G => r = 7 ∧ Q 0 G) := by
  unfold PX13_fault_0 at h
  unfold vX13_fault_0
  refine g_ld (v := rf _) rfl (is_R _) ?_
  refine g_getI (kz := 20) oC13 rfl (Nat.le_of_ble_eq_true rfl) rfl fun i1 => ?_
  replace h := h i1
  refine g_eq1 i1 (fun b2 => ?_) (fun b2 => ?_)
  · replace h := h.1 b2
    unfold vX13_fault_7
    refine g_ld (v := rf _) rfl (is_R _) ?_
    refine g_ld (v := cI _) rfl (is_I _) ?_
    refine g_putI (kz := 20) oC13 rfl (Nat.le_of_ble_eq_true rfl) rfl ha1 (zfin_no (c := 16081) (j := 20) rfl) ?_
    replace h := h _ rfl
    refine g_ld (v := rf _) rfl (is_R _) ?_
    refine g_ld (v := cI _) rfl (is_I _) ?_
    refine g_putI (kz := 21) oC13 rfl (Nat.le_of_ble_eq_true rfl) rfl ha2 (zfin_no (c := 16081) (j := 21) rfl) ?_
    replace h := h _ rfl
    exact TX13_fault_17 ha1 ha2 h
  · replace h := h.2 b2
    exact TX13_fault_17 ha1 ha2 h
abbrev PX13_fault (a1 : Int) (a2 : Int) (G : gS) (Q : Int → gS → Prop) : Prop := PX13_fault_0 a1 a2 G Q
theorem TX13_fault {a1 : Int} {a2 : Int} {G : gS} {Q : Int → gS → Prop} (ha1 : inI a1) (ha2 : inI a2) (h : PX13_fault a1 a2 G Q) : Tn W0 FX13_fault [rf (16081), cI (a1), cI (a2)] G (fun r G => r = 7 ∧ Q 0 G) := by
  unfold FX13_fault
  refine g_ent (lv' := [rf (16081), cI (a1), cI (a2)]) (flR (flI (flI fl0))) (Nat.le_of_ble_eq_true rfl) rfl ?_
  exact TX13_fault_0 ha1 ha2 h
def PX13_kindAt_0 (a1 : Int) (G : gS) (Q : Int → gS → Prop) : Prop :=
  (inI (G 16081 19) → ((0 : Int) ≤ ((G 16081 19) * 702) + a1 ∧ ((((G 16081 19) * 702) + a1 : Int) < 12636 ∧ (inI (G 16090 (((G 16081 19) * 702) + a1)) → Q (G 16090 (((G 16081 19) * 702) + a1)) G))))
set_option maxRecDepth 20000 in
theorem TX13_kindAt_0 {a1 : Int} {G : gS} {Q : Int → gS → Prop} (ha1 : inI a1) (h : PX13_kindAt_0 a1 G Q) : Tg W0 vX13_kindAt_0 [rf (16081), cI (a1)] [] G (fun r G => ∃ v, r = cI v ∧ inI v ∧ Q v G) := by
  unfold PX13_kindAt_0 at h
  unfold vX13_kindAt_0
  refine g_ld (v := rf _) rfl (is_R _) ?_
  refine g_getF (v := 16090) oC13 (hC13_11) rfl (Nat.le_of_ble_eq_true rfl) (Nat.le_of_ble_eq_true rfl) ?_
  refine g_ld (v := rf _) rfl (is_R _) ?_
  refine g_getI (kz := 19) oC13 rfl (Nat.le_of_ble_eq_true rfl) rfl fun i1 => ?_
  replace h := h i1
  refine g_const (v := cI (702)) rfl ?_
  refine g_mul ?_
  refine g_ld (v := cI _) rfl (is_I _) ?_
  refine g_add ?_
  obtain ⟨q2, q3, h⟩ := h
  refine g_aldI aC16090 q2 q3 rfl fun i4 => ?_
  replace h := h i4
  exact g_ret1 (is_I _) ⟨_, rfl, i4, h⟩
abbrev PX13_kindAt (a1 : Int) (G : gS) (Q : Int → gS → Prop) : Prop := PX13_kindAt_0 a1 G Q
theorem TX13_kindAt {a1 : Int} {G : gS} {Q : Int → gS → Prop} (ha1 : inI a1) (h : PX13_kindAt a1 G Q) : Tn W0 FX13_kindAt [rf (16081), cI (a1)] G (fun r G => ∃ v, r = cI v ∧ inI v ∧ Q v G) := by
  unfold FX13_kindAt
  refine g_ent (lv' := [rf (16081), cI (a1)]) (flR (flI fl0)) (Nat.le_of_ble_eq_true rfl) rfl ?_
  exact TX13_kindAt_0 ha1 h
def PX13_placeAt_0 (a1 : Int) (G : gS) (Q : Int → gS → Prop) : Prop :=
  (inI (G 16081 19) → ((0 : Int) ≤ ((G 16081 19) * 702) + a1 ∧ ((((G 16081 19) * 702) + a1 : Int) < 12636 ∧ (inI (G 16091 (((G 16081 19) * 702) + a1)) → Q (G 16091 (((G 16081 19) * 702) + a1)) G))))
set_option maxRecDepth 20000 in
theorem TX13_placeAt_0 {a1 : Int} {G : gS} {Q : Int → gS → Prop} (ha1 : inI a1) (h : PX13_placeAt_0 a1 G Q) : Tg W0 vX13_placeAt_0 [rf (16081), cI (a1)] [] G (fun r G => ∃ v, r = cI v ∧ inI v ∧ Q v G) := by
  unfold PX13_placeAt_0 at h
  unfold vX13_placeAt_0
  refine g_ld (v := rf _) rfl (is_R _) ?_
  refine g_getF (v := 16091) oC13 (hC13_12) rfl (Nat.le_of_ble_eq_true rfl) (Nat.le_of_ble_eq_true rfl) ?_
  refine g_ld (v := rf _) rfl (is_R _) ?_
  refine g_getI (kz := 19) oC13 rfl (Nat.le_of_ble_eq_true rfl) rfl fun i1 => ?_
  replace h := h i1
  refine g_const (v := cI (702)) rfl ?_
  refine g_mul ?_
  refine g_ld (v := cI _) rfl (is_I _) ?_
  refine g_add ?_
  obtain ⟨q2, q3, h⟩ := h
  refine g_aldI aC16091 q2 q3 rfl fun i4 => ?_
  replace h := h i4
  exact g_ret1 (is_I _) ⟨_, rfl, i4, h⟩
abbrev PX13_placeAt (a1 : Int) (G : gS) (Q : Int → gS → Prop) : Prop := PX13_placeAt_0 a1 G Q
theorem TX13_placeAt {a1 : Int} {G : gS} {Q : Int → gS → Prop} (ha1 : inI a1) (h : PX13_placeAt a1 G Q) : Tn W0 FX13_placeAt [rf (16081), cI (a1)] G (fun r G => ∃ v, r = cI v ∧ inI v ∧ Q v G) := by
  unfold FX13_placeAt
  refine g_ent (lv' := [rf (16081), cI (a1)]) (flR (flI fl0)) (Nat.le_of_ble_eq_true rfl) rfl ?_
  exact TX13_placeAt_0 ha1 h
def PX13_nameAt_0 (a1 : Int) (G : gS) (Q : Int → gS → Prop) : Prop :=
  (inI (G 16081 19) → ((0 : Int) ≤ ((G 16081 19) * 702) + a1 ∧ ((((G 16081 19) * 702) + a1 : Int) < 12636 ∧ (inL (G 16093 (((G 16081 19) * 702) + a1)) → Q (G 16093 (((G 16081 19) * 702) + a1)) G))))
set_option maxRecDepth 20000 in
theorem TX13_nameAt_0 {a1 : Int} {G : gS} {Q : Int → gS → Prop} (ha1 : inI a1) (h : PX13_nameAt_0 a1 G Q) : Tg W0 vX13_nameAt_0 [rf (16081), cI (a1)] [] G (fun r G => ∃ v, r = cL v ∧ inL v ∧ Q v G) := by
  unfold PX13_nameAt_0 at h
  unfold vX13_nameAt_0
  refine g_ld (v := rf _) rfl (is_R _) ?_
  refine g_getF (v := 16093) oC13 (hC13_14) rfl (Nat.le_of_ble_eq_true rfl) (Nat.le_of_ble_eq_true rfl) ?_
  refine g_ld (v := rf _) rfl (is_R _) ?_
  refine g_getI (kz := 19) oC13 rfl (Nat.le_of_ble_eq_true rfl) rfl fun i1 => ?_
  replace h := h i1
  refine g_const (v := cI (702)) rfl ?_
  refine g_mul ?_
  refine g_ld (v := cI _) rfl (is_I _) ?_
  refine g_add ?_
  obtain ⟨q2, q3, h⟩ := h
  refine g_aldL aC16093 q2 q3 rfl fun i4 => ?_
  replace h := h i4
  exact g_ret1 (is_L _) ⟨_, rfl, i4, h⟩
abbrev PX13_nameAt (a1 : Int) (G : gS) (Q : Int → gS → Prop) : Prop := PX13_nameAt_0 a1 G Q
theorem TX13_nameAt {a1 : Int} {G : gS} {Q : Int → gS → Prop} (ha1 : inI a1) (h : PX13_nameAt a1 G Q) : Tn W0 FX13_nameAt [rf (16081), cI (a1)] G (fun r G => ∃ v, r = cL v ∧ inL v ∧ Q v G) := by
  unfold FX13_nameAt
  refine g_ent (lv' := [rf (16081), cI (a1)]) (flR (flI fl0)) (Nat.le_of_ble_eq_true rfl) rfl ?_
  exact TX13_nameAt_0 ha1 h
def PX13_isSign_39 (l1 : Int) (s0 : Int) (G : gS) (Q : Int → gS → Prop) : Prop :=
  ((0 ≤ s0 ∧ s0 ≤ 1) ∧ Q (s0) G)
set_option maxRecDepth 20000 in
theorem TX13_isSign_39 {l1 : Int} {s0 : Int} {G : gS} {Q : Int → gS → Prop} (hl1 : inI l1) (hs0 : inI s0) (h : PX13_isSign_39 l1 s0 G Q) : Tg W0 vX13_isSign_39 [rf (16081), cI (l1)] [cI (s0)] G (fun r G => ∃ v, r = cI v ∧ (0 ≤ v ∧ v ≤ 1) ∧ Q v G) := by
  unfold PX13_isSign_39 at h
  unfold vX13_isSign_39
  obtain ⟨q12, h⟩ := h
  exact g_ret1 (is_Z q12) ⟨_, rfl, q12, h⟩
def PX13_isSign_38 (l1 : Int) (G : gS) (Q : Int → gS → Prop) : Prop :=
  PX13_isSign_39 l1 0 G Q
set_option maxRecDepth 20000 in
theorem TX13_isSign_38 {l1 : Int} {G : gS} {Q : Int → gS → Prop} (hl1 : inI l1) (h : PX13_isSign_38 l1 G Q) : Tg W0 vX13_isSign_38 [rf (16081), cI (l1)] [] G (fun r G => ∃ v, r = cI v ∧ (0 ≤ v ∧ v ≤ 1) ∧ Q v G) := by
  unfold PX13_isSign_38 at h
  unfold vX13_isSign_38
  refine g_const (v := cI (0)) rfl ?_
  exact TX13_isSign_39 hl1 ⟨by omega, by omega⟩ h
def PX13_isSign_0 (a1 : Int) (G : gS) (Q : Int → gS → Prop) : Prop :=
  (inI (G 16081 22) → PX13_kindAt (G 16081 22) G (fun r3 G2 => inI r3 → ((r3 = 5 → (inI (G2 16081 19) → (inI (G2 16081 22) → ((0 : Int) ≤ ((G2 16081 19) * 702) + (G2 16081 22) ∧ ((((G2 16081 19) * 702) + (G2 16081 22) : Int) < 12636 ∧ (inI (G2 16094 (((G2 16081 19) * 702) + (G2 16081 22))) → ((G2 16094 (((G2 16081 19) * 702) + (G2 16081 22)) = a1 → PX13_isSign_39 a1 1 G2 Q) ∧ (¬ (G2 16094 (((G2 16081 19) * 702) + (G2 16081 22)) = a1) → PX13_isSign_38 a1 G2 Q)))))))) ∧ (¬ (r3 = 5) → PX13_isSign_38 a1 G2 Q))))
set_option maxRecDepth 20000 in
theorem TX13_isSign_0 {a1 : Int} {G : gS} {Q : Int → gS → Prop} (ha1 : inI a1) (h : PX13_isSign_0 a1 G Q) : Tg W0 vX13_isSign_0 [rf (16081), cI (a1)] [] G (fun r G => ∃ v, r = cI v ∧ (0 ≤ v ∧ v ≤ 1) ∧ Q v G) := by
  unfold PX13_isSign_0 at h
  unfold vX13_isSign_0
  refine g_ld (v := rf _) rfl (is_R _) ?_
  refine g_ld (v := rf _) rfl (is_R _) ?_
  refine g_getI (kz := 22) oC13 rfl (Nat.le_of_ble_eq_true rfl) rfl fun i1 => ?_
  replace h := h i1
  refine g_callV (As := [_]) (ci := 13) oC13 (fun _ => rfl) ?_
  refine g_go1 (Nat.le_of_ble_eq_true rfl) (Tn_w (TX13_kindAt i1 h) fun _ G2 ⟨r3, e, i4, h⟩ => ?_)
  subst e
  refine ⟨n7_I _, ?_⟩
  replace h := h i4
  refine g_const (v := cI (5)) rfl ?_
  refine g_eq2 i4 ⟨by omega, by omega⟩ (fun b5 => ?_) (fun b5 => ?_)
  · replace h := h.1 b5
    unfold vX13_isSign_12
    refine g_ld (v := rf _) rfl (is_R _) ?_
    refine g_getF (v := 16094) oC13 (hC13_15) rfl (Nat.le_of_ble_eq_true rfl) (Nat.le_of_ble_eq_true rfl) ?_
    refine g_ld (v := rf _) rfl (is_R _) ?_
    refine g_getI (kz := 19) oC13 rfl (Nat.le_of_ble_eq_true rfl) rfl fun i6 => ?_
    replace h := h i6
    refine g_const (v := cI (702)) rfl ?_
    refine g_mul ?_
    refine g_ld (v := rf _) rfl (is_R _) ?_
    refine g_getI (kz := 22) oC13 rfl (Nat.le_of_ble_eq_true rfl) rfl fun i7 => ?_
    replace h := h i7
    refine g_add ?_
    obtain ⟨q8, q9, h⟩ := h
    refine g_aldI aC16094 q8 q9 rfl fun i10 => ?_
    replace h := h i10
    refine g_ld (v := cI _) rfl (is_I _) ?_
    refine g_eq2 i10 ha1 (fun b11 => ?_) (fun b11 => ?_)
    · replace h := h.1 b11
      unfold vX13_isSign_34
      refine g_const (v := cI (1)) rfl ?_
      exact TX13_isSign_39 ha1 ⟨by omega, by omega⟩ h
    · replace h := h.2 b11
      exact TX13_isSign_38 ha1 h
  · replace h := h.2 b5
    exact TX13_isSign_38 ha1 h
abbrev PX13_isSign (a1 : Int) (G : gS) (Q : Int → gS → Prop) : Prop := PX13_isSign_0 a1 G Q
theorem TX13_isSign {a1 : Int} {G : gS} {Q : Int → gS → Prop} (ha1 : inI a1) (h : PX13_isSign a1 G Q) : Tn W0 FX13_isSign [rf (16081), cI (a1)] G (fun r G => ∃ v, r = cI v ∧ (0 ≤ v ∧ v ≤ 1) ∧ Q v G) := by
  unfold FX13_isSign
  refine g_ent (lv' := [rf (16081), cI (a1)]) (flR (flI fl0)) (Nat.le_of_ble_eq_true rfl) rfl ?_
  exact TX13_isSign_0 ha1 h
def PX13_isSignNext_77 (l1 : Int) (s0 : Int) (G : gS) (Q : Int → gS → Prop) : Prop :=
  ((0 ≤ s0 ∧ s0 ≤ 1) ∧ Q (s0) G)
set_option maxRecDepth 20000 in
theorem TX13_isSignNext_77 {l1 : Int} {s0 : Int} {G : gS} {Q : Int → gS → Prop} (hl1 : inI l1) (hs0 : inI s0) (h : PX13_isSignNext_77 l1 s0 G Q) : Tg W0 vX13_isSignNext_77 [rf (16081), cI (l1)] [cI (s0)] G (fun r G => ∃ v, r = cI v ∧ (0 ≤ v ∧ v ≤ 1) ∧ Q v G) := by
  unfold PX13_isSignNext_77 at h
  unfold vX13_isSignNext_77
  obtain ⟨q25, h⟩ := h
  exact g_ret1 (is_Z q25) ⟨_, rfl, q25, h⟩
def PX13_isSignNext_76 (l1 : Int) (G : gS) (Q : Int → gS → Prop) : Prop :=
  PX13_isSignNext_77 l1 0 G Q
set_option maxRecDepth 20000 in
theorem TX13_isSignNext_76 {l1 : Int} {G : gS} {Q : Int → gS → Prop} (hl1 : inI l1) (h : PX13_isSignNext_76 l1 G Q) : Tg W0 vX13_isSignNext_76 [rf (16081), cI (l1)] [] G (fun r G => ∃ v, r = cI v ∧ (0 ≤ v ∧ v ≤ 1) ∧ Q v G) := by
  unfold PX13_isSignNext_76 at h
  unfold vX13_isSignNext_76
  refine g_const (v := cI (0)) rfl ?_
  exact TX13_isSignNext_77 hl1 ⟨by omega, by omega⟩ h
def PX13_isSignNext_0 (a1 : Int) (G : gS) (Q : Int → gS → Prop) : Prop :=
  (inI (G 16081 22) → PX13_kindAt (G 16081 22) G (fun r3 G2 => inI r3 → ((r3 = 0 → PX13_isSignNext_76 a1 G2 Q) ∧ (¬ (r3 = 0) → (inI (G2 16081 22) → PX13_kindAt (G2 16081 22) G2 (fun r8 G7 => inI r8 → ((r8 = 6 → PX13_isSignNext_76 a1 G7 Q) ∧ (¬ (r8 = 6) → (inI (G7 16081 22) → ((G7 16081 22 < 700 → (inI (G7 16081 22) → (inI ((G7 16081 22) + 1) ∧ PX13_kindAt ((G7 16081 22) + 1) G7 (fun r16 G15 => inI r16 → ((r16 = 5 → (inI (G15 16081 19) → (inI (G15 16081 22) → ((0 : Int) ≤ (((G15 16081 19) * 702) + (G15 16081 22)) + 1 ∧ (((((G15 16081 19) * 702) + (G15 16081 22)) + 1 : Int) < 12636 ∧ (inI (G15 16094 ((((G15 16081 19) * 702) + (G15 16081 22)) + 1)) → ((G15 16094 ((((G15 16081 19) * 702) + (G15 16081 22)) + 1) = a1 → PX13_isSignNext_77 a1 1 G15 Q) ∧ (¬ (G15 16094 ((((G15 16081 19) * 702) + (G15 16081 22)) + 1) = a1) → PX13_isSignNext_76 a1 G15 Q)))))))) ∧ (¬ (r16 = 5) → PX13_isSignNext_76 a1 G15 Q)))))) ∧ (¬ (G7 16081 22 < 700) → PX13_isSignNext_76 a1 G7 Q)))))))))))
set_option maxRecDepth 20000 in
theorem TX13_isSignNext_0 {a1 : Int} {G : gS} {Q : Int → gS → Prop} (ha1 : inI a1) (h : PX13_isSignNext_0 a1 G Q) : Tg W0 vX13_isSignNext_0 [rf (16081), cI (a1)] [] G (fun r G => ∃ v, r = cI v ∧ (0 ≤ v ∧ v ≤ 1) ∧ Q v G) := by
  unfold PX13_isSignNext_0 at h
  unfold vX13_isSignNext_0
  refine g_ld (v := rf _) rfl (is_R _) ?_
  refine g_ld (v := rf _) rfl (is_R _) ?_
  refine g_getI (kz := 22) oC13 rfl (Nat.le_of_ble_eq_true rfl) rfl fun i1 => ?_
  replace h := h i1
  refine g_callV (As := [_]) (ci := 13) oC13 (fun _ => rfl) ?_
  refine g_go1 (Nat.le_of_ble_eq_true rfl) (Tn_w (TX13_kindAt i1 h) fun _ G2 ⟨r3, e, i4, h⟩ => ?_)
  subst e
  refine ⟨n7_I _, ?_⟩
  replace h := h i4
  refine g_eq1 i4 (fun b5 => ?_) (fun b5 => ?_)
  · replace h := h.1 b5
    exact TX13_isSignNext_76 ha1 h
  · replace h := h.2 b5
    unfold vX13_isSignNext_11
    refine g_ld (v := rf _) rfl (is_R _) ?_
    refine g_ld (v := rf _) rfl (is_R _) ?_
    refine g_getI (kz := 22) oC13 rfl (Nat.le_of_ble_eq_true rfl) rfl fun i6 => ?_
    replace h := h i6
    refine g_callV (As := [_]) (ci := 13) oC13 (fun _ => rfl) ?_
    refine g_go1 (Nat.le_of_ble_eq_true rfl) (Tn_w (TX13_kindAt i6 h) fun _ G7 ⟨r8, e, i9, h⟩ => ?_)
    subst e
    refine ⟨n7_I _, ?_⟩
    replace h := h i9
    refine g_const (v := cI (6)) rfl ?_
    refine g_eq2 i9 ⟨by omega, by omega⟩ (fun b10 => ?_) (fun b10 => ?_)
    · replace h := h.1 b10
      exact TX13_isSignNext_76 ha1 h
    · replace h := h.2 b10
      unfold vX13_isSignNext_24
      refine g_ld (v := rf _) rfl (is_R _) ?_
      refine g_getI (kz := 22) oC13 rfl (Nat.le_of_ble_eq_true rfl) rfl fun i11 => ?_
      replace h := h i11
      refine g_const (v := cI (700)) rfl ?_
      refine g_lt2 i11 ⟨by omega, by omega⟩ (fun b12 => ?_) (fun b12 => ?_)
      · replace h := h.1 b12
        unfold vX13_isSignNext_34
        refine g_ld (v := rf _) rfl (is_R _) ?_
        refine g_ld (v := rf _) rfl (is_R _) ?_
        refine g_getI (kz := 22) oC13 rfl (Nat.le_of_ble_eq_true rfl) rfl fun i13 => ?_
        replace h := h i13
        refine g_const (v := cI (1)) rfl ?_
        refine g_add ?_
        obtain ⟨q14, h⟩ := h
        refine g_callV (As := [_]) (ci := 13) oC13 (fun _ => rfl) ?_
        refine g_go1 (Nat.le_of_ble_eq_true rfl) (Tn_w (TX13_kindAt q14 h) fun _ G15 ⟨r16, e, i17, h⟩ => ?_)
        subst e
        refine ⟨n7_I _, ?_⟩
        replace h := h i17
        refine g_const (v := cI (5)) rfl ?_
        refine g_eq2 i17 ⟨by omega, by omega⟩ (fun b18 => ?_) (fun b18 => ?_)
        · replace h := h.1 b18
          unfold vX13_isSignNext_48
          refine g_ld (v := rf _) rfl (is_R _) ?_
          refine g_getF (v := 16094) oC13 (hC13_15) rfl (Nat.le_of_ble_eq_true rfl) (Nat.le_of_ble_eq_true rfl) ?_
          refine g_ld (v := rf _) rfl (is_R _) ?_
          refine g_getI (kz := 19) oC13 rfl (Nat.le_of_ble_eq_true rfl) rfl fun i19 => ?_
          replace h := h i19
          refine g_const (v := cI (702)) rfl ?_
          refine g_mul ?_
          refine g_ld (v := rf _) rfl (is_R _) ?_
          refine g_getI (kz := 22) oC13 rfl (Nat.le_of_ble_eq_true rfl) rfl fun i20 => ?_
          replace h := h i20
          refine g_add ?_
          refine g_const (v := cI (1)) rfl ?_
          refine g_add ?_
          obtain ⟨q21, q22, h⟩ := h
          refine g_aldI aC16094 q21 q22 rfl fun i23 => ?_
          replace h := h i23
          refine g_ld (v := cI _) rfl (is_I _) ?_
          refine g_eq2 i23 ha1 (fun b24 => ?_) (fun b24 => ?_)
          · replace h := h.1 b24
            unfold vX13_isSignNext_72
            refine g_const (v := cI (1)) rfl ?_
            exact TX13_isSignNext_77 ha1 ⟨by omega, by omega⟩ h
          · replace h := h.2 b24
            exact TX13_isSignNext_76 ha1 h
        · replace h := h.2 b18
          exact TX13_isSignNext_76 ha1 h
      · replace h := h.2 b12
        exact TX13_isSignNext_76 ha1 h
abbrev PX13_isSignNext (a1 : Int) (G : gS) (Q : Int → gS → Prop) : Prop := PX13_isSignNext_0 a1 G Q
theorem TX13_isSignNext {a1 : Int} {G : gS} {Q : Int → gS → Prop} (ha1 : inI a1) (h : PX13_isSignNext a1 G Q) : Tn W0 FX13_isSignNext [rf (16081), cI (a1)] G (fun r G => ∃ v, r = cI v ∧ (0 ≤ v ∧ v ≤ 1) ∧ Q v G) := by
  unfold FX13_isSignNext
  refine g_ent (lv' := [rf (16081), cI (a1)]) (flR (flI fl0)) (Nat.le_of_ble_eq_true rfl) rfl ?_
  exact TX13_isSignNext_0 ha1 h
def PX13_wrong_19 (s0 : Int) (s1 : Int) (G : gS) (Q : Int → gS → Prop) : Prop :=
  (inI (G 16081 22) → PX13_placeAt (G 16081 22) G (fun r8 G7 => inI r8 → (isO W0 13 (s0) ∧ PX13_fault s1 r8 G7 (fun _ G11 => Q 0 G11))))
set_option maxRecDepth 20000 in
theorem TX13_wrong_19 {s0 : Int} {s1 : Int} {G : gS} {Q : Int → gS → Prop} (hs1 : inI s1) (h : PX13_wrong_19 s0 s1 G Q) : Tg W0 vX13_wrong_19 [rf (16081)] [cI (s1), rf (s0)] G (fun r G => r = 7 ∧ Q 0 G) := by
  unfold PX13_wrong_19 at h
  unfold vX13_wrong_19
  refine g_ld (v := rf _) rfl (is_R _) ?_
  refine g_ld (v := rf _) rfl (is_R _) ?_
  refine g_getI (kz := 22) oC13 rfl (Nat.le_of_ble_eq_true rfl) rfl fun i6 => ?_
  replace h := h i6
  refine g_callV (As := [_]) (ci := 13) oC13 (fun _ => rfl) ?_
  refine g_go1 (by simp only [cs_c, cs_0, ct_I, ct_L, ct_R]; exact Nat.le_of_ble_eq_true rfl) (Tn_w (TX13_placeAt i6 h) fun _ G7 ⟨r8, e, i9, h⟩ => ?_)
  subst e
  refine ⟨n7_I _, ?_⟩
  replace h := h i9
  obtain ⟨q10, h⟩ := h
  refine g_callV (As := [_, _]) (ci := 13) q10 (fun _ => rfl) ?_
  refine g_go0 (Nat.le_of_ble_eq_true rfl) (Tn_w (Tn_eq (one13 q10) (TX13_fault hs1 i9 h)) fun _ G11 ⟨e, h⟩ => ⟨e, ?_⟩)
  exact g_ret0 ⟨rfl, h⟩
def PX13_wrong_0  (G : gS) (Q : Int → gS → Prop) : Prop :=
  (inI (G 16081 22) → PX13_kindAt (G 16081 22) G (fun r3 G2 => inI r3 → ((r3 = 6 → PX13_wrong_19 16081 1 G2 Q) ∧ (¬ (r3 = 6) → PX13_wrong_19 16081 2 G2 Q))))
set_option maxRecDepth 20000 in
theorem TX13_wrong_0  {G : gS} {Q : Int → gS → Prop}  (h : PX13_wrong_0  G Q) : Tg W0 vX13_wrong_0 [rf (16081)] [] G (fun r G => r = 7 ∧ Q 0 G) := by
  unfold PX13_wrong_0 at h
  unfold vX13_wrong_0
  refine g_ld (v := rf _) rfl (is_R _) ?_
  refine g_ld (v := rf _) rfl (is_R _) ?_
  refine g_ld (v := rf _) rfl (is_R _) ?_
  refine g_getI (kz := 22) oC13 rfl (Nat.le_of_ble_eq_true rfl) rfl fun i1 => ?_
  replace h := h i1
  refine g_callV (As := [_]) (ci := 13) oC13 (fun _ => rfl) ?_
  refine g_go1 (by simp only [cs_c, cs_0, ct_I, ct_L, ct_R]; exact Nat.le_of_ble_eq_true rfl) (Tn_w (TX13_kindAt i1 h) fun _ G2 ⟨r3, e, i4, h⟩ => ?_)
  subst e
  refine ⟨n7_I _, ?_⟩
  replace h := h i4
  refine g_const (v := cI (6)) rfl ?_
  refine g_eq2 i4 ⟨by omega, by omega⟩ (fun b5 => ?_) (fun b5 => ?_)
  · replace h := h.1 b5
    unfold vX13_wrong_14
    refine g_const (v := cI (1)) rfl ?_
    exact TX13_wrong_19 ⟨by omega, by omega⟩ h
  · replace h := h.2 b5
    unfold vX13_wrong_18
    refine g_const (v := cI (2)) rfl ?_
    exact TX13_wrong_19 ⟨by omega, by omega⟩ h
abbrev PX13_wrong  (G : gS) (Q : Int → gS → Prop) : Prop := PX13_wrong_0  G Q
theorem TX13_wrong  {G : gS} {Q : Int → gS → Prop}  (h : PX13_wrong  G Q) : Tn W0 FX13_wrong [rf (16081)] G (fun r G => r = 7 ∧ Q 0 G) := by
  unfold FX13_wrong
  refine g_ent (lv' := [rf (16081)]) (flR fl0) (Nat.le_of_ble_eq_true rfl) rfl ?_
  exact TX13_wrong_0  h
def PX13_step_51  (G : gS) (Q : Int → gS → Prop) : Prop :=
  Q 0 G
set_option maxRecDepth 20000 in
theorem TX13_step_51  {G : gS} {Q : Int → gS → Prop}  (h : PX13_step_51  G Q) : Tg W0 vX13_step_51 [rf (16081)] [] G (fun r G => r = 7 ∧ Q 0 G) := by
  unfold PX13_step_51 at h
  unfold vX13_step_51
  exact g_ret0 ⟨rfl, h⟩
def PX13_step_34  (G : gS) (Q : Int → gS → Prop) : Prop :=
  (inI (G 16081 20) → ((G 16081 20 = 0 → (inI (G 16081 22) → (inI ((G 16081 22) + 1) ∧ (∀ G18 : gS, G18 = uG G 16081 22 ((G 16081 22) + 1) → PX13_step_51  G18 Q)))) ∧ (¬ (G 16081 20 = 0) → PX13_step_51  G Q)))
set_option maxRecDepth 20000 in
theorem TX13_step_34  {G : gS} {Q : Int → gS → Prop}  (h : PX13_step_34  G Q) : Tg W0 vX13_step_34 [rf (16081)] [] G (fun r G => r = 7 ∧ Q 0 G) := by
  unfold PX13_step_34 at h
  unfold vX13_step_34
  refine g_ld (v := rf _) rfl (is_R _) ?_
  refine g_getI (kz := 20) oC13 rfl (Nat.le_of_ble_eq_true rfl) rfl fun i14 => ?_
  replace h := h i14
  refine g_eq1 i14 (fun b15 => ?_) (fun b15 => ?_)
  · replace h := h.1 b15
    unfold vX13_step_41
    refine g_ld (v := rf _) rfl (is_R _) ?_
    refine g_dup (ct_R _) ?_
    refine g_getI (kz := 22) oC13 rfl (Nat.le_of_ble_eq_true rfl) rfl fun i16 => ?_
    replace h := h i16
    refine g_const (v := cI (1)) rfl ?_
    refine g_add ?_
    obtain ⟨q17, h⟩ := h
    refine g_putI (kz := 22) oC13 rfl (Nat.le_of_ble_eq_true rfl) rfl q17 (zfin_no (c := 16081) (j := 22) rfl) ?_
    replace h := h _ rfl
    exact TX13_step_51  h
  · replace h := h.2 b15
    exact TX13_step_51  h
def PX13_step_0  (G : gS) (Q : Int → gS → Prop) : Prop :=
  (inI (G 16081 22) → ((G 16081 22 = 700 → (inI (G 16081 22) → PX13_kindAt (G 16081 22) G (fun r5 G4 => inI r5 → ((r5 = 0 → PX13_step_34  G4 Q) ∧ (¬ (r5 = 0) → (inI (G4 16081 22) → PX13_placeAt (G4 16081 22) G4 (fun r10 G9 => inI r10 → PX13_fault 3 r10 G9 (fun _ G12 => PX13_step_34  G12 Q)))))))) ∧ (¬ (G 16081 22 = 700) → PX13_step_34  G Q)))
set_option maxRecDepth 20000 in
theorem TX13_step_0  {G : gS} {Q : Int → gS → Prop}  (h : PX13_step_0  G Q) : Tg W0 vX13_step_0 [rf (16081)] [] G (fun r G => r = 7 ∧ Q 0 G) := by
  unfold PX13_step_0 at h
  unfold vX13_step_0
  refine g_ld (v := rf _) rfl (is_R _) ?_
  refine g_getI (kz := 22) oC13 rfl (Nat.le_of_ble_eq_true rfl) rfl fun i1 => ?_
  replace h := h i1
  refine g_const (v := cI (700)) rfl ?_
  refine g_eq2 i1 ⟨by omega, by omega⟩ (fun b2 => ?_) (fun b2 => ?_)
  · replace h := h.1 b2
    unfold vX13_step_10
    refine g_ld (v := rf _) rfl (is_R _) ?_
    refine g_ld (v := rf _) rfl (is_R _) ?_
    refine g_getI (kz := 22) oC13 rfl (Nat.le_of_ble_eq_true rfl) rfl fun i3 => ?_
    replace h := h i3
    refine g_callV (As := [_]) (ci := 13) oC13 (fun _ => rfl) ?_
    refine g_go1 (Nat.le_of_ble_eq_true rfl) (Tn_w (TX13_kindAt i3 h) fun _ G4 ⟨r5, e, i6, h⟩ => ?_)
    subst e
    refine ⟨n7_I _, ?_⟩
    replace h := h i6
    refine g_eq1 i6 (fun b7 => ?_) (fun b7 => ?_)
    · replace h := h.1 b7
      exact TX13_step_34  h
    · replace h := h.2 b7
      unfold vX13_step_21
      refine g_ld (v := rf _) rfl (is_R _) ?_
      refine g_const (v := cI (3)) rfl ?_
      refine g_ld (v := rf _) rfl (is_R _) ?_
      refine g_ld (v := rf _) rfl (is_R _) ?_
      refine g_getI (kz := 22) oC13 rfl (Nat.le_of_ble_eq_true rfl) rfl fun i8 => ?_
      replace h := h i8
      refine g_callV (As := [_]) (ci := 13) oC13 (fun _ => rfl) ?_
      refine g_go1 (by simp only [cs_c, cs_0, ct_I, ct_L, ct_R]; exact Nat.le_of_ble_eq_true rfl) (Tn_w (TX13_placeAt i8 h) fun _ G9 ⟨r10, e, i11, h⟩ => ?_)
      subst e
      refine ⟨n7_I _, ?_⟩
      replace h := h i11
      refine g_callV (As := [_, _]) (ci := 13) oC13 (fun _ => rfl) ?_
      refine g_go0 (Nat.le_of_ble_eq_true rfl) (Tn_w (TX13_fault ⟨by omega, by omega⟩ i11 h) fun _ G12 ⟨e, h⟩ => ⟨e, ?_⟩)
      exact TX13_step_34  h
  · replace h := h.2 b2
    exact TX13_step_34  h
abbrev PX13_step  (G : gS) (Q : Int → gS → Prop) : Prop := PX13_step_0  G Q
theorem TX13_step  {G : gS} {Q : Int → gS → Prop}  (h : PX13_step  G Q) : Tn W0 FX13_step [rf (16081)] G (fun r G => r = 7 ∧ Q 0 G) := by
  unfold FX13_step
  refine g_ent (lv' := [rf (16081)]) (flR fl0) (Nat.le_of_ble_eq_true rfl) rfl ?_
  exact TX13_step_0  h
end DE

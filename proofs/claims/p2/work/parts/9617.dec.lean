section DE
def PX9_scanName_287 (J : Nat → List Int → gS → (Int → gS → Prop) → Prop) (l1 : Int) (l2 : Int) (l3 : Int) (l5 : Int) (l6 : Int) (l7 : Int) (G : gS) (Q : Int → gS → Prop) : Prop :=
  Q (l5) G
set_option maxRecDepth 20000 in
theorem TX9_scanName_287 {j : Nat → rx_K} {J : Nat → List Int → gS → (Int → gS → Prop) → Prop} {l1 : Int} {l2 : Int} {l3 : Int} {l4 : Nat} {l5 : Int} {l6 : Int} {l7 : Int} {G : gS} {Q : Int → gS → Prop} (hl1 : inI l1) (hl2 : inI l2) (hl3 : inL l3) (hl4 : l4 % 8 ≠ 1) (hl5 : inI l5) (hl6 : inI l6) (hl7 : inI l7) (hj0 : ∀ (l1 : Int) (l2 : Int) (l3 : Int) (l4 : Nat) (l5 : Int) (l6 : Int) (l7 : Nat) (G : gS), (inI l1) → (inI l2) → (inL l3) → (l4 % 8 ≠ 1) → (inI l5) → (inI l6) → (l7 % 8 ≠ 1) → J 0 [l1, l2, l3, l5, l6] G Q → Tg W0 (j 0) [rf (7), cI (l1), cI (l2), cL (l3), l4, cI (l5), cI (l6), l7] [] G (fun r G => ∃ v, r = cI v ∧ inI v ∧ Q v G)) (hj1 : ∀ (l1 : Int) (l2 : Int) (l3 : Int) (l4 : Nat) (l5 : Int) (l6 : Int) (l7 : Int) (G : gS), (inI l1) → (inI l2) → (inL l3) → (l4 % 8 ≠ 1) → (inI l5) → (inI l6) → (inI l7) → J 1 [l1, l2, l3, l5, l6, l7] G Q → Tg W0 (j 1) [rf (7), cI (l1), cI (l2), cL (l3), l4, cI (l5), cI (l6), cI (l7)] [] G (fun r G => ∃ v, r = cI v ∧ inI v ∧ Q v G)) (h : PX9_scanName_287 J l1 l2 l3 l5 l6 l7 G Q) : Tg W0 (vX9_scanName_287 j) [rf (7), cI (l1), cI (l2), cL (l3), l4, cI (l5), cI (l6), cI (l7)] [] G (fun r G => ∃ v, r = cI v ∧ inI v ∧ Q v G) := by
  unfold PX9_scanName_287 at h
  unfold vX9_scanName_287
  refine g_ld (v := cI _) rfl (is_I _) ?_
  exact g_ret1 (is_I _) ⟨_, rfl, hl5, h⟩
def PX9_scanName_281 (J : Nat → List Int → gS → (Int → gS → Prop) → Prop) (l1 : Int) (l2 : Int) (l3 : Int) (l5 : Int) (l6 : Int) (l7 : Int) (G : gS) (Q : Int → gS → Prop) : Prop :=
  (inI (l7 + 1) ∧ J 1 [l1, l2, l3, l5, l6, l7 + 1] G Q)
set_option maxRecDepth 20000 in
theorem TX9_scanName_281 {j : Nat → rx_K} {J : Nat → List Int → gS → (Int → gS → Prop) → Prop} {l1 : Int} {l2 : Int} {l3 : Int} {l4 : Nat} {l5 : Int} {l6 : Int} {l7 : Int} {G : gS} {Q : Int → gS → Prop} (hl1 : inI l1) (hl2 : inI l2) (hl3 : inL l3) (hl4 : l4 % 8 ≠ 1) (hl5 : inI l5) (hl6 : inI l6) (hl7 : inI l7) (hj0 : ∀ (l1 : Int) (l2 : Int) (l3 : Int) (l4 : Nat) (l5 : Int) (l6 : Int) (l7 : Nat) (G : gS), (inI l1) → (inI l2) → (inL l3) → (l4 % 8 ≠ 1) → (inI l5) → (inI l6) → (l7 % 8 ≠ 1) → J 0 [l1, l2, l3, l5, l6] G Q → Tg W0 (j 0) [rf (7), cI (l1), cI (l2), cL (l3), l4, cI (l5), cI (l6), l7] [] G (fun r G => ∃ v, r = cI v ∧ inI v ∧ Q v G)) (hj1 : ∀ (l1 : Int) (l2 : Int) (l3 : Int) (l4 : Nat) (l5 : Int) (l6 : Int) (l7 : Int) (G : gS), (inI l1) → (inI l2) → (inL l3) → (l4 % 8 ≠ 1) → (inI l5) → (inI l6) → (inI l7) → J 1 [l1, l2, l3, l5, l6, l7] G Q → Tg W0 (j 1) [rf (7), cI (l1), cI (l2), cL (l3), l4, cI (l5), cI (l6), cI (l7)] [] G (fun r G => ∃ v, r = cI v ∧ inI v ∧ Q v G)) (h : PX9_scanName_281 J l1 l2 l3 l5 l6 l7 G Q) : Tg W0 (vX9_scanName_281 j) [rf (7), cI (l1), cI (l2), cL (l3), l4, cI (l5), cI (l6), cI (l7)] [] G (fun r G => ∃ v, r = cI v ∧ inI v ∧ Q v G) := by
  unfold PX9_scanName_281 at h
  unfold vX9_scanName_281
  refine g_inc (lv' := [_, _, _, _, _, _, _, _]) rfl (Nat.le_of_ble_eq_true rfl) (Or.inr (n1_I _)) rfl ?_
  obtain ⟨q110, h⟩ := h
  exact hj1 _ _ _ _ _ _ _ _ hl1 hl2 hl3 hl4 hl5 hl6 q110 h
def PX9_scanName_235 (J : Nat → List Int → gS → (Int → gS → Prop) → Prop) (l1 : Int) (l2 : Int) (l3 : Int) (l5 : Int) (l6 : Int) (l7 : Int) (G : gS) (Q : Int → gS → Prop) : Prop :=
  ((l7 < 30 → (inI (G 7 5) → ((0 : Int) ≤ G 7 5 ∧ ((G 7 5 : Int) < 704 ∧ (inI (G 9 (G 7 5)) → ((G 9 (G 7 5) = 3 → ((0 : Int) ≤ l7 ∧ ((l7 : Int) < 30 ∧ (inL (G 8 l7) → ((G 8 l7 = l3 → (inI (G 7 5) → ((0 : Int) ≤ G 7 5 ∧ ((G 7 5 : Int) < 704 ∧ (inI (10 + l7) ∧ (∀ G109 : gS, G109 = uG G 9 (G 7 5) (10 + l7) → PX9_scanName_281 J l1 l2 l3 l5 l6 l7 G109 Q)))))) ∧ (¬ (G 8 l7 = l3) → PX9_scanName_281 J l1 l2 l3 l5 l6 l7 G Q)))))) ∧ (¬ (G 9 (G 7 5) = 3) → PX9_scanName_287 J l1 l2 l3 l5 l6 l7 G Q))))))) ∧ (¬ (l7 < 30) → PX9_scanName_287 J l1 l2 l3 l5 l6 l7 G Q))
set_option maxRecDepth 20000 in
theorem TX9_scanName_235 {j : Nat → rx_K} {J : Nat → List Int → gS → (Int → gS → Prop) → Prop} {l1 : Int} {l2 : Int} {l3 : Int} {l4 : Nat} {l5 : Int} {l6 : Int} {l7 : Int} {G : gS} {Q : Int → gS → Prop} (hl1 : inI l1) (hl2 : inI l2) (hl3 : inL l3) (hl4 : l4 % 8 ≠ 1) (hl5 : inI l5) (hl6 : inI l6) (hl7 : inI l7) (hj0 : ∀ (l1 : Int) (l2 : Int) (l3 : Int) (l4 : Nat) (l5 : Int) (l6 : Int) (l7 : Nat) (G : gS), (inI l1) → (inI l2) → (inL l3) → (l4 % 8 ≠ 1) → (inI l5) → (inI l6) → (l7 % 8 ≠ 1) → J 0 [l1, l2, l3, l5, l6] G Q → Tg W0 (j 0) [rf (7), cI (l1), cI (l2), cL (l3), l4, cI (l5), cI (l6), l7] [] G (fun r G => ∃ v, r = cI v ∧ inI v ∧ Q v G)) (hj1 : ∀ (l1 : Int) (l2 : Int) (l3 : Int) (l4 : Nat) (l5 : Int) (l6 : Int) (l7 : Int) (G : gS), (inI l1) → (inI l2) → (inL l3) → (l4 % 8 ≠ 1) → (inI l5) → (inI l6) → (inI l7) → J 1 [l1, l2, l3, l5, l6, l7] G Q → Tg W0 (j 1) [rf (7), cI (l1), cI (l2), cL (l3), l4, cI (l5), cI (l6), cI (l7)] [] G (fun r G => ∃ v, r = cI v ∧ inI v ∧ Q v G)) (h : PX9_scanName_235 J l1 l2 l3 l5 l6 l7 G Q) : Tg W0 (vX9_scanName_235 j) [rf (7), cI (l1), cI (l2), cL (l3), l4, cI (l5), cI (l6), cI (l7)] [] G (fun r G => ∃ v, r = cI v ∧ inI v ∧ Q v G) := by
  unfold PX9_scanName_235 at h
  unfold vX9_scanName_235
  refine g_ld (v := cI _) rfl (is_I _) ?_
  refine g_const (v := cI (30)) rfl ?_
  refine g_lt2 hl7 ⟨by omega, by omega⟩ (fun b95 => ?_) (fun b95 => ?_)
  · replace h := h.1 b95
    unfold vX9_scanName_242
    refine g_ld (v := rf _) rfl (is_R _) ?_
    refine g_getF (v := 9) oC9 (hC9_1) rfl (Nat.le_of_ble_eq_true rfl) (Nat.le_of_ble_eq_true rfl) ?_
    refine g_ld (v := rf _) rfl (is_R _) ?_
    refine g_getI (kz := 5) oC9 rfl (Nat.le_of_ble_eq_true rfl) rfl fun i96 => ?_
    replace h := h i96
    obtain ⟨q97, q98, h⟩ := h
    refine g_aldI aC9 q97 q98 rfl fun i99 => ?_
    replace h := h i99
    refine g_const (v := cI (3)) rfl ?_
    refine g_eq2 i99 ⟨by omega, by omega⟩ (fun b100 => ?_) (fun b100 => ?_)
    · replace h := h.1 b100
      unfold vX9_scanName_255
      refine g_ld (v := rf _) rfl (is_R _) ?_
      refine g_getF (v := 8) oC9 (hC9_0) rfl (Nat.le_of_ble_eq_true rfl) (Nat.le_of_ble_eq_true rfl) ?_
      refine g_ld (v := cI _) rfl (is_I _) ?_
      obtain ⟨q101, q102, h⟩ := h
      refine g_aldL aC8 q101 q102 rfl fun i103 => ?_
      replace h := h i103
      refine g_ld (v := cL _) rfl (is_L _) ?_
      refine g_leq i103 hl3 (fun b104 => ?_) (fun b104 => ?_)
      · replace h := h.1 b104
        unfold vX9_scanName_267
        refine g_ld (v := rf _) rfl (is_R _) ?_
        refine g_getF (v := 9) oC9 (hC9_1) rfl (Nat.le_of_ble_eq_true rfl) (Nat.le_of_ble_eq_true rfl) ?_
        refine g_ld (v := rf _) rfl (is_R _) ?_
        refine g_getI (kz := 5) oC9 rfl (Nat.le_of_ble_eq_true rfl) rfl fun i105 => ?_
        replace h := h i105
        refine g_const (v := cI (10)) rfl ?_
        refine g_ld (v := cI _) rfl (is_I _) ?_
        refine g_add ?_
        obtain ⟨q106, q107, h⟩ := h
        obtain ⟨q108, h⟩ := h
        refine g_astI aC9 q106 q107 q108 (nfI aC9) ?_
        replace h := h _ rfl
        exact TX9_scanName_281 hl1 hl2 hl3 hl4 hl5 hl6 hl7 hj0 hj1 h
      · replace h := h.2 b104
        exact TX9_scanName_281 hl1 hl2 hl3 hl4 hl5 hl6 hl7 hj0 hj1 h
    · replace h := h.2 b100
      exact TX9_scanName_287 hl1 hl2 hl3 hl4 hl5 hl6 hl7 hj0 hj1 h
  · replace h := h.2 b95
    exact TX9_scanName_287 hl1 hl2 hl3 hl4 hl5 hl6 hl7 hj0 hj1 h
def PX9_scanName_221 (J : Nat → List Int → gS → (Int → gS → Prop) → Prop) (l1 : Int) (l2 : Int) (l3 : Int) (l5 : Int) (l6 : Int) (s0 : Int) (s1 : Int) (s2 : Int) (G : gS) (Q : Int → gS → Prop) : Prop :=
  (∃ n86, isA W0 0 n86 (s0) ∧ ((0 : Int) ≤ s1 ∧ ((s1 : Int) < n86 ∧ (∀ G90 : gS, G90 = uG G s0 s1 (s2) → (inI (G90 7 5) → ((0 : Int) ≤ G90 7 5 ∧ ((G90 7 5 : Int) < 704 ∧ (∀ G94 : gS, G94 = uG G90 12 (G90 7 5) (l3) → PX9_scanName_235 J l1 l2 l3 l5 l6 0 G94 Q))))))))
set_option maxRecDepth 20000 in
theorem TX9_scanName_221 {j : Nat → rx_K} {J : Nat → List Int → gS → (Int → gS → Prop) → Prop} {l1 : Int} {l2 : Int} {l3 : Int} {l4 : Nat} {l5 : Int} {l6 : Int} {l7 : Nat} {s0 : Int} {s1 : Int} {s2 : Int} {G : gS} {Q : Int → gS → Prop} (hl1 : inI l1) (hl2 : inI l2) (hl3 : inL l3) (hl4 : l4 % 8 ≠ 1) (hl5 : inI l5) (hl6 : inI l6) (hl7 : l7 % 8 ≠ 1) (hs1 : inI s1) (hs2 : inI s2) (hj0 : ∀ (l1 : Int) (l2 : Int) (l3 : Int) (l4 : Nat) (l5 : Int) (l6 : Int) (l7 : Nat) (G : gS), (inI l1) → (inI l2) → (inL l3) → (l4 % 8 ≠ 1) → (inI l5) → (inI l6) → (l7 % 8 ≠ 1) → J 0 [l1, l2, l3, l5, l6] G Q → Tg W0 (j 0) [rf (7), cI (l1), cI (l2), cL (l3), l4, cI (l5), cI (l6), l7] [] G (fun r G => ∃ v, r = cI v ∧ inI v ∧ Q v G)) (hj1 : ∀ (l1 : Int) (l2 : Int) (l3 : Int) (l4 : Nat) (l5 : Int) (l6 : Int) (l7 : Int) (G : gS), (inI l1) → (inI l2) → (inL l3) → (l4 % 8 ≠ 1) → (inI l5) → (inI l6) → (inI l7) → J 1 [l1, l2, l3, l5, l6, l7] G Q → Tg W0 (j 1) [rf (7), cI (l1), cI (l2), cL (l3), l4, cI (l5), cI (l6), cI (l7)] [] G (fun r G => ∃ v, r = cI v ∧ inI v ∧ Q v G)) (h : PX9_scanName_221 J l1 l2 l3 l5 l6 s0 s1 s2 G Q) : Tg W0 (vX9_scanName_221 j) [rf (7), cI (l1), cI (l2), cL (l3), l4, cI (l5), cI (l6), l7] [cI (s2), cI (s1), rf (s0)] G (fun r G => ∃ v, r = cI v ∧ inI v ∧ Q v G) := by
  unfold PX9_scanName_221 at h
  unfold vX9_scanName_221
  obtain ⟨n86, q87, h⟩ := h
  obtain ⟨q88, q89, h⟩ := h
  refine g_astI q87 q88 q89 hs2 (nfI q87) ?_
  replace h := h _ rfl
  refine g_ld (v := rf _) rfl (is_R _) ?_
  refine g_getF (v := 12) oC9 (hC9_4) rfl (Nat.le_of_ble_eq_true rfl) (Nat.le_of_ble_eq_true rfl) ?_
  refine g_ld (v := rf _) rfl (is_R _) ?_
  refine g_getI (kz := 5) oC9 rfl (Nat.le_of_ble_eq_true rfl) rfl fun i91 => ?_
  replace h := h i91
  refine g_ld (v := cL _) rfl (is_L _) ?_
  obtain ⟨q92, q93, h⟩ := h
  refine g_astL aC12 q92 q93 hl3 (nfL aC12) ?_
  replace h := h _ rfl
  refine g_const (v := cI (0)) rfl ?_
  refine g_st (lv' := [_, _, _, _, _, _, _, _]) (is_I _) (Nat.le_of_ble_eq_true rfl) (Or.inr (n1_I _)) rfl ?_
  exact TX9_scanName_235 hl1 hl2 hl3 hl4 hl5 hl6 ⟨by omega, by omega⟩ hj0 hj1 h
def PX9_scanName_205 (J : Nat → List Int → gS → (Int → gS → Prop) → Prop) (l1 : Int) (l2 : Int) (l3 : Int) (l5 : Int) (l6 : Int) (s0 : Int) (s1 : Int) (s2 : Int) (s3 : Int) (G : gS) (Q : Int → gS → Prop) : Prop :=
  ((s3 < s2 → PX9_scanName_221 J l1 l2 l3 l5 l6 s0 s1 1 G Q) ∧ (¬ (s3 < s2) → ((l2 = 0 → PX9_scanName_221 J l1 l2 l3 l5 l6 s0 s1 3 G Q) ∧ (¬ (l2 = 0) → PX9_scanName_221 J l1 l2 l3 l5 l6 s0 s1 2 G Q))))
set_option maxRecDepth 20000 in
theorem TX9_scanName_205 {j : Nat → rx_K} {J : Nat → List Int → gS → (Int → gS → Prop) → Prop} {l1 : Int} {l2 : Int} {l3 : Int} {l4 : Nat} {l5 : Int} {l6 : Int} {l7 : Nat} {s0 : Int} {s1 : Int} {s2 : Int} {s3 : Int} {G : gS} {Q : Int → gS → Prop} (hl1 : inI l1) (hl2 : inI l2) (hl3 : inL l3) (hl4 : l4 % 8 ≠ 1) (hl5 : inI l5) (hl6 : inI l6) (hl7 : l7 % 8 ≠ 1) (hs1 : inI s1) (hs2 : inI s2) (hs3 : inI s3) (hj0 : ∀ (l1 : Int) (l2 : Int) (l3 : Int) (l4 : Nat) (l5 : Int) (l6 : Int) (l7 : Nat) (G : gS), (inI l1) → (inI l2) → (inL l3) → (l4 % 8 ≠ 1) → (inI l5) → (inI l6) → (l7 % 8 ≠ 1) → J 0 [l1, l2, l3, l5, l6] G Q → Tg W0 (j 0) [rf (7), cI (l1), cI (l2), cL (l3), l4, cI (l5), cI (l6), l7] [] G (fun r G => ∃ v, r = cI v ∧ inI v ∧ Q v G)) (hj1 : ∀ (l1 : Int) (l2 : Int) (l3 : Int) (l4 : Nat) (l5 : Int) (l6 : Int) (l7 : Int) (G : gS), (inI l1) → (inI l2) → (inL l3) → (l4 % 8 ≠ 1) → (inI l5) → (inI l6) → (inI l7) → J 1 [l1, l2, l3, l5, l6, l7] G Q → Tg W0 (j 1) [rf (7), cI (l1), cI (l2), cL (l3), l4, cI (l5), cI (l6), cI (l7)] [] G (fun r G => ∃ v, r = cI v ∧ inI v ∧ Q v G)) (h : PX9_scanName_205 J l1 l2 l3 l5 l6 s0 s1 s2 s3 G Q) : Tg W0 (vX9_scanName_205 j) [rf (7), cI (l1), cI (l2), cL (l3), l4, cI (l5), cI (l6), l7] [cI (s3), cI (s2), cI (s1), rf (s0)] G (fun r G => ∃ v, r = cI v ∧ inI v ∧ Q v G) := by
  unfold PX9_scanName_205 at h
  unfold vX9_scanName_205
  refine g_gt2 hs2 hs3 (fun b84 => ?_) (fun b84 => ?_)
  · replace h := h.1 b84
    unfold vX9_scanName_208
    refine g_const (v := cI (1)) rfl ?_
    exact TX9_scanName_221 hl1 hl2 hl3 hl4 hl5 hl6 hl7 hs1 ⟨by omega, by omega⟩ hj0 hj1 h
  · replace h := h.2 b84
    unfold vX9_scanName_212
    refine g_ld (v := cI _) rfl (is_I _) ?_
    refine g_eq1 hl2 (fun b85 => ?_) (fun b85 => ?_)
    · replace h := h.1 b85
      unfold vX9_scanName_220
      refine g_const (v := cI (3)) rfl ?_
      exact TX9_scanName_221 hl1 hl2 hl3 hl4 hl5 hl6 hl7 hs1 ⟨by omega, by omega⟩ hj0 hj1 h
    · replace h := h.2 b85
      unfold vX9_scanName_216
      refine g_const (v := cI (2)) rfl ?_
      exact TX9_scanName_221 hl1 hl2 hl3 hl4 hl5 hl6 hl7 hs1 ⟨by omega, by omega⟩ hj0 hj1 h
def PX9_scanName_182 (J : Nat → List Int → gS → (Int → gS → Prop) → Prop) (l1 : Int) (l2 : Int) (l3 : Int) (l5 : Int) (l6 : Int) (G : gS) (Q : Int → gS → Prop) : Prop :=
  (inI (G 7 5) → ((l2 = 0 → (inI (l5 - l1) ∧ PX9_scanName_205 J l1 l2 l3 l5 l6 9 (G 7 5) (l5 - l1) 10 G Q)) ∧ (¬ (l2 = 0) → (inI (l5 - l1) ∧ PX9_scanName_205 J l1 l2 l3 l5 l6 9 (G 7 5) (l5 - l1) 11 G Q))))
set_option maxRecDepth 20000 in
theorem TX9_scanName_182 {j : Nat → rx_K} {J : Nat → List Int → gS → (Int → gS → Prop) → Prop} {l1 : Int} {l2 : Int} {l3 : Int} {l4 : Nat} {l5 : Int} {l6 : Int} {l7 : Nat} {G : gS} {Q : Int → gS → Prop} (hl1 : inI l1) (hl2 : inI l2) (hl3 : inL l3) (hl4 : l4 % 8 ≠ 1) (hl5 : inI l5) (hl6 : inI l6) (hl7 : l7 % 8 ≠ 1) (hj0 : ∀ (l1 : Int) (l2 : Int) (l3 : Int) (l4 : Nat) (l5 : Int) (l6 : Int) (l7 : Nat) (G : gS), (inI l1) → (inI l2) → (inL l3) → (l4 % 8 ≠ 1) → (inI l5) → (inI l6) → (l7 % 8 ≠ 1) → J 0 [l1, l2, l3, l5, l6] G Q → Tg W0 (j 0) [rf (7), cI (l1), cI (l2), cL (l3), l4, cI (l5), cI (l6), l7] [] G (fun r G => ∃ v, r = cI v ∧ inI v ∧ Q v G)) (hj1 : ∀ (l1 : Int) (l2 : Int) (l3 : Int) (l4 : Nat) (l5 : Int) (l6 : Int) (l7 : Int) (G : gS), (inI l1) → (inI l2) → (inL l3) → (l4 % 8 ≠ 1) → (inI l5) → (inI l6) → (inI l7) → J 1 [l1, l2, l3, l5, l6, l7] G Q → Tg W0 (j 1) [rf (7), cI (l1), cI (l2), cL (l3), l4, cI (l5), cI (l6), cI (l7)] [] G (fun r G => ∃ v, r = cI v ∧ inI v ∧ Q v G)) (h : PX9_scanName_182 J l1 l2 l3 l5 l6 G Q) : Tg W0 (vX9_scanName_182 j) [rf (7), cI (l1), cI (l2), cL (l3), l4, cI (l5), cI (l6), l7] [] G (fun r G => ∃ v, r = cI v ∧ inI v ∧ Q v G) := by
  unfold PX9_scanName_182 at h
  unfold vX9_scanName_182
  refine g_ld (v := rf _) rfl (is_R _) ?_
  refine g_getF (v := 9) oC9 (hC9_1) rfl (Nat.le_of_ble_eq_true rfl) (Nat.le_of_ble_eq_true rfl) ?_
  refine g_ld (v := rf _) rfl (is_R _) ?_
  refine g_getI (kz := 5) oC9 rfl (Nat.le_of_ble_eq_true rfl) rfl fun i80 => ?_
  replace h := h i80
  refine g_ld (v := cI _) rfl (is_I _) ?_
  refine g_ld (v := cI _) rfl (is_I _) ?_
  refine g_sub ?_
  refine g_ld (v := cI _) rfl (is_I _) ?_
  refine g_eq1 hl2 (fun b81 => ?_) (fun b81 => ?_)
  · replace h := h.1 b81
    unfold vX9_scanName_203
    refine g_const (v := cI (10)) rfl ?_
    obtain ⟨q82, h⟩ := h
    exact TX9_scanName_205 hl1 hl2 hl3 hl4 hl5 hl6 hl7 i80 q82 ⟨by omega, by omega⟩ hj0 hj1 h
  · replace h := h.2 b81
    unfold vX9_scanName_198
    refine g_const (v := cI (11)) rfl ?_
    obtain ⟨q83, h⟩ := h
    exact TX9_scanName_205 hl1 hl2 hl3 hl4 hl5 hl6 hl7 i80 q83 ⟨by omega, by omega⟩ hj0 hj1 h
def PX9_scanName_171 (J : Nat → List Int → gS → (Int → gS → Prop) → Prop) (l1 : Int) (l2 : Int) (l3 : Int) (l5 : Int) (l6 : Int) (s0 : Int) (s1 : Int) (G : gS) (Q : Int → gS → Prop) : Prop :=
  (inL (lor s0 s1) → (inI (l6 + (-6)) ∧ (inI (l5 + 1) ∧ J 0 [l1, l2, lor s0 s1, l5 + 1, l6 + (-6)] G Q)))
set_option maxRecDepth 20000 in
theorem TX9_scanName_171 {j : Nat → rx_K} {J : Nat → List Int → gS → (Int → gS → Prop) → Prop} {l1 : Int} {l2 : Int} {l3 : Int} {l4 : Nat} {l5 : Int} {l6 : Int} {l7 : Nat} {s0 : Int} {s1 : Int} {G : gS} {Q : Int → gS → Prop} (hl1 : inI l1) (hl2 : inI l2) (hl3 : inL l3) (hl4 : l4 % 8 ≠ 1) (hl5 : inI l5) (hl6 : inI l6) (hl7 : l7 % 8 ≠ 1) (hs0 : inL s0) (hs1 : inL s1) (hj0 : ∀ (l1 : Int) (l2 : Int) (l3 : Int) (l4 : Nat) (l5 : Int) (l6 : Int) (l7 : Nat) (G : gS), (inI l1) → (inI l2) → (inL l3) → (l4 % 8 ≠ 1) → (inI l5) → (inI l6) → (l7 % 8 ≠ 1) → J 0 [l1, l2, l3, l5, l6] G Q → Tg W0 (j 0) [rf (7), cI (l1), cI (l2), cL (l3), l4, cI (l5), cI (l6), l7] [] G (fun r G => ∃ v, r = cI v ∧ inI v ∧ Q v G)) (hj1 : ∀ (l1 : Int) (l2 : Int) (l3 : Int) (l4 : Nat) (l5 : Int) (l6 : Int) (l7 : Int) (G : gS), (inI l1) → (inI l2) → (inL l3) → (l4 % 8 ≠ 1) → (inI l5) → (inI l6) → (inI l7) → J 1 [l1, l2, l3, l5, l6, l7] G Q → Tg W0 (j 1) [rf (7), cI (l1), cI (l2), cL (l3), l4, cI (l5), cI (l6), cI (l7)] [] G (fun r G => ∃ v, r = cI v ∧ inI v ∧ Q v G)) (h : PX9_scanName_171 J l1 l2 l3 l5 l6 s0 s1 G Q) : Tg W0 (vX9_scanName_171 j) [rf (7), cI (l1), cI (l2), cL (l3), l4, cI (l5), cI (l6), l7] [cL (s1), cL (s0)] G (fun r G => ∃ v, r = cI v ∧ inI v ∧ Q v G) := by
  unfold PX9_scanName_171 at h
  unfold vX9_scanName_171
  refine g_lor fun i77 => ?_
  replace h := h i77
  refine g_stL (lv' := [_, _, _, _, _, _, _, _]) (Nat.le_of_ble_eq_true rfl) (Or.inr (n1_I _)) rfl ?_
  refine g_inc (lv' := [_, _, _, _, _, _, _, _]) rfl (Nat.le_of_ble_eq_true rfl) (Or.inr (n1_I _)) rfl ?_
  obtain ⟨q78, h⟩ := h
  refine g_inc (lv' := [_, _, _, _, _, _, _, _]) rfl (Nat.le_of_ble_eq_true rfl) (Or.inr (show 7 % 8 ≠ 1 by decide)) rfl ?_
  obtain ⟨q79, h⟩ := h
  exact hj0 _ _ _ _ _ _ _ _ hl1 hl2 i77 (show 7 % 8 ≠ 1 by decide) q79 q78 hl7 h
def PX9_scanName_124 (J : Nat → List Int → gS → (Int → gS → Prop) → Prop) (l1 : Int) (l2 : Int) (l3 : Int) (l5 : Int) (l6 : Int) (G : gS) (Q : Int → gS → Prop) : Prop :=
  (inI (G 7 7) → ((l5 < G 7 7 → ((G 7 6 = -1 ∨ ∃ n, isA W0 2 n (G 7 6)) → (∃ n57, isA W0 2 n57 (G 7 6) ∧ ((0 : Int) ≤ l5 ∧ ((l5 : Int) < n57 ∧ ((-128 ≤ G (G 7 6) l5 ∧ G (G 7 6) l5 < 128) → PX9_sixBits (G (G 7 6) l5) G (fun r63 G62 => inL r63 → ((0 < r63 → ((l6 < 0 → PX9_scanName_171 J l1 l2 l3 l5 l6 l3 0 G62 Q) ∧ (¬ (l6 < 0) → ((G62 7 6 = -1 ∨ ∃ n, isA W0 2 n (G62 7 6)) → (∃ n68, isA W0 2 n68 (G62 7 6) ∧ ((0 : Int) ≤ l5 ∧ ((l5 : Int) < n68 ∧ ((-128 ≤ G62 (G62 7 6) l5 ∧ G62 (G62 7 6) l5 < 128) → PX9_sixBits (G62 (G62 7 6) l5) G62 (fun r74 G73 => inL r74 → (inL (lshl r74 l6) → PX9_scanName_171 J l1 l2 l3 l5 l6 l3 (lshl r74 l6) G73 Q)))))))))) ∧ (¬ (0 < r63) → PX9_scanName_182 J l1 l2 l3 l5 l6 G62 Q))))))))) ∧ (¬ (l5 < G 7 7) → PX9_scanName_182 J l1 l2 l3 l5 l6 G Q)))
set_option maxRecDepth 20000 in
theorem TX9_scanName_124 {j : Nat → rx_K} {J : Nat → List Int → gS → (Int → gS → Prop) → Prop} {l1 : Int} {l2 : Int} {l3 : Int} {l4 : Nat} {l5 : Int} {l6 : Int} {l7 : Nat} {G : gS} {Q : Int → gS → Prop} (hl1 : inI l1) (hl2 : inI l2) (hl3 : inL l3) (hl4 : l4 % 8 ≠ 1) (hl5 : inI l5) (hl6 : inI l6) (hl7 : l7 % 8 ≠ 1) (hj0 : ∀ (l1 : Int) (l2 : Int) (l3 : Int) (l4 : Nat) (l5 : Int) (l6 : Int) (l7 : Nat) (G : gS), (inI l1) → (inI l2) → (inL l3) → (l4 % 8 ≠ 1) → (inI l5) → (inI l6) → (l7 % 8 ≠ 1) → J 0 [l1, l2, l3, l5, l6] G Q → Tg W0 (j 0) [rf (7), cI (l1), cI (l2), cL (l3), l4, cI (l5), cI (l6), l7] [] G (fun r G => ∃ v, r = cI v ∧ inI v ∧ Q v G)) (hj1 : ∀ (l1 : Int) (l2 : Int) (l3 : Int) (l4 : Nat) (l5 : Int) (l6 : Int) (l7 : Int) (G : gS), (inI l1) → (inI l2) → (inL l3) → (l4 % 8 ≠ 1) → (inI l5) → (inI l6) → (inI l7) → J 1 [l1, l2, l3, l5, l6, l7] G Q → Tg W0 (j 1) [rf (7), cI (l1), cI (l2), cL (l3), l4, cI (l5), cI (l6), cI (l7)] [] G (fun r G => ∃ v, r = cI v ∧ inI v ∧ Q v G)) (h : PX9_scanName_124 J l1 l2 l3 l5 l6 G Q) : Tg W0 (vX9_scanName_124 j) [rf (7), cI (l1), cI (l2), cL (l3), l4, cI (l5), cI (l6), l7] [] G (fun r G => ∃ v, r = cI v ∧ inI v ∧ Q v G) := by
  unfold PX9_scanName_124 at h
  unfold vX9_scanName_124
  refine g_ld (v := cI _) rfl (is_I _) ?_
  refine g_ld (v := rf _) rfl (is_R _) ?_
  refine g_getI (kz := 7) oC9 rfl (Nat.le_of_ble_eq_true rfl) rfl fun i54 => ?_
  replace h := h i54
  refine g_lt2 hl5 i54 (fun b55 => ?_) (fun b55 => ?_)
  · replace h := h.1 b55
    unfold vX9_scanName_133
    refine g_ld (v := rf _) rfl (is_R _) ?_
    refine g_getA (kz := 6) (c := 2) oC9 rfl (Nat.le_of_ble_eq_true rfl) rfl fun i56 => ?_
    replace h := h i56
    refine g_ld (v := cI _) rfl (is_I _) ?_
    obtain ⟨n57, q58, h⟩ := h
    obtain ⟨q59, q60, h⟩ := h
    refine g_aldB q58 q59 q60 rfl fun i61 => ?_
    replace h := h i61
    refine g_callS (As := [_]) (fun _ => rfl) ?_
    refine g_go1 (Nat.le_of_ble_eq_true rfl) (Tn_w (TX9_sixBits ⟨by omega, by omega⟩ h) fun _ G62 ⟨r63, e, i64, h⟩ => ?_)
    subst e
    refine ⟨n7_L _, ?_⟩
    replace h := h i64
    refine g_const (v := cL (0)) rfl ?_
    refine g_lgt i64 ⟨by omega, by omega⟩ (fun b65 => ?_) (fun b65 => ?_)
    · replace h := h.1 b65
      unfold vX9_scanName_148
      refine g_ld (v := cL _) rfl (is_L _) ?_
      refine g_ld (v := cI _) rfl (is_I _) ?_
      refine g_lt1 hl6 (fun b66 => ?_) (fun b66 => ?_)
      · replace h := h.1 b66
        unfold vX9_scanName_170
        refine g_const (v := cL (0)) rfl ?_
        exact TX9_scanName_171 hl1 hl2 hl3 hl4 hl5 hl6 hl7 hl3 ⟨by omega, by omega⟩ hj0 hj1 h
      · replace h := h.2 b66
        unfold vX9_scanName_154
        refine g_ld (v := rf _) rfl (is_R _) ?_
        refine g_getA (kz := 6) (c := 2) oC9 rfl (Nat.le_of_ble_eq_true rfl) rfl fun i67 => ?_
        replace h := h i67
        refine g_ld (v := cI _) rfl (is_I _) ?_
        obtain ⟨n68, q69, h⟩ := h
        obtain ⟨q70, q71, h⟩ := h
        refine g_aldB q69 q70 q71 rfl fun i72 => ?_
        replace h := h i72
        refine g_callS (As := [_]) (fun _ => rfl) ?_
        refine g_go1 (by simp only [cs_c, cs_0, ct_I, ct_L, ct_R]; exact Nat.le_of_ble_eq_true rfl) (Tn_w (TX9_sixBits ⟨by omega, by omega⟩ h) fun _ G73 ⟨r74, e, i75, h⟩ => ?_)
        subst e
        refine ⟨n7_L _, ?_⟩
        replace h := h i75
        refine g_ld (v := cI _) rfl (is_I _) ?_
        refine g_lshl fun i76 => ?_
        replace h := h i76
        exact TX9_scanName_171 hl1 hl2 hl3 hl4 hl5 hl6 hl7 hl3 i76 hj0 hj1 h
    · replace h := h.2 b65
      exact TX9_scanName_182 hl1 hl2 hl3 hl4 hl5 hl6 hl7 hj0 hj1 h
  · replace h := h.2 b55
    exact TX9_scanName_182 hl1 hl2 hl3 hl4 hl5 hl6 hl7 hj0 hj1 h
def PX9_scanName_118 (J : Nat → List Int → gS → (Int → gS → Prop) → Prop) (l1 : Int) (l2 : Int) (l3 : Int) (s0 : Int) (G : gS) (Q : Int → gS → Prop) : Prop :=
  PX9_scanName_124 J l1 l2 l3 s0 48 G Q
set_option maxRecDepth 20000 in
theorem TX9_scanName_118 {j : Nat → rx_K} {J : Nat → List Int → gS → (Int → gS → Prop) → Prop} {l1 : Int} {l2 : Int} {l3 : Int} {l4 : Nat} {l5 : Nat} {l6 : Nat} {l7 : Nat} {s0 : Int} {G : gS} {Q : Int → gS → Prop} (hl1 : inI l1) (hl2 : inI l2) (hl3 : inL l3) (hl4 : l4 % 8 ≠ 1) (hl5 : l5 % 8 ≠ 1) (hl6 : l6 % 8 ≠ 1) (hl7 : l7 % 8 ≠ 1) (hs0 : inI s0) (hj0 : ∀ (l1 : Int) (l2 : Int) (l3 : Int) (l4 : Nat) (l5 : Int) (l6 : Int) (l7 : Nat) (G : gS), (inI l1) → (inI l2) → (inL l3) → (l4 % 8 ≠ 1) → (inI l5) → (inI l6) → (l7 % 8 ≠ 1) → J 0 [l1, l2, l3, l5, l6] G Q → Tg W0 (j 0) [rf (7), cI (l1), cI (l2), cL (l3), l4, cI (l5), cI (l6), l7] [] G (fun r G => ∃ v, r = cI v ∧ inI v ∧ Q v G)) (hj1 : ∀ (l1 : Int) (l2 : Int) (l3 : Int) (l4 : Nat) (l5 : Int) (l6 : Int) (l7 : Int) (G : gS), (inI l1) → (inI l2) → (inL l3) → (l4 % 8 ≠ 1) → (inI l5) → (inI l6) → (inI l7) → J 1 [l1, l2, l3, l5, l6, l7] G Q → Tg W0 (j 1) [rf (7), cI (l1), cI (l2), cL (l3), l4, cI (l5), cI (l6), cI (l7)] [] G (fun r G => ∃ v, r = cI v ∧ inI v ∧ Q v G)) (h : PX9_scanName_118 J l1 l2 l3 s0 G Q) : Tg W0 (vX9_scanName_118 j) [rf (7), cI (l1), cI (l2), cL (l3), l4, l5, l6, l7] [cI (s0)] G (fun r G => ∃ v, r = cI v ∧ inI v ∧ Q v G) := by
  unfold PX9_scanName_118 at h
  unfold vX9_scanName_118
  refine g_st (lv' := [_, _, _, _, _, _, _, _]) (is_I _) (Nat.le_of_ble_eq_true rfl) (Or.inr hl4) rfl ?_
  refine g_const (v := cI (48)) rfl ?_
  refine g_st (lv' := [_, _, _, _, _, _, _, _]) (is_I _) (Nat.le_of_ble_eq_true rfl) (Or.inr (n1_I _)) rfl ?_
  exact TX9_scanName_124 hl1 hl2 hl3 hl4 hs0 ⟨by omega, by omega⟩ hl7 hj0 hj1 h
def PX9_scanName_104 (J : Nat → List Int → gS → (Int → gS → Prop) → Prop) (l1 : Int) (l2 : Int) (s0 : Int) (G : gS) (Q : Int → gS → Prop) : Prop :=
  ((l2 = 0 → (inI (l1 + 1) ∧ PX9_scanName_118 J l1 l2 s0 (l1 + 1) G Q)) ∧ (¬ (l2 = 0) → (inI (l1 + 3) ∧ PX9_scanName_118 J l1 l2 s0 (l1 + 3) G Q)))
set_option maxRecDepth 20000 in
theorem TX9_scanName_104 {j : Nat → rx_K} {J : Nat → List Int → gS → (Int → gS → Prop) → Prop} {l1 : Int} {l2 : Int} {l3 : Nat} {l4 : Nat} {l5 : Nat} {l6 : Nat} {l7 : Nat} {s0 : Int} {G : gS} {Q : Int → gS → Prop} (hl1 : inI l1) (hl2 : inI l2) (hl3 : l3 % 8 ≠ 1) (hl4 : l4 % 8 ≠ 1) (hl5 : l5 % 8 ≠ 1) (hl6 : l6 % 8 ≠ 1) (hl7 : l7 % 8 ≠ 1) (hs0 : inL s0) (hj0 : ∀ (l1 : Int) (l2 : Int) (l3 : Int) (l4 : Nat) (l5 : Int) (l6 : Int) (l7 : Nat) (G : gS), (inI l1) → (inI l2) → (inL l3) → (l4 % 8 ≠ 1) → (inI l5) → (inI l6) → (l7 % 8 ≠ 1) → J 0 [l1, l2, l3, l5, l6] G Q → Tg W0 (j 0) [rf (7), cI (l1), cI (l2), cL (l3), l4, cI (l5), cI (l6), l7] [] G (fun r G => ∃ v, r = cI v ∧ inI v ∧ Q v G)) (hj1 : ∀ (l1 : Int) (l2 : Int) (l3 : Int) (l4 : Nat) (l5 : Int) (l6 : Int) (l7 : Int) (G : gS), (inI l1) → (inI l2) → (inL l3) → (l4 % 8 ≠ 1) → (inI l5) → (inI l6) → (inI l7) → J 1 [l1, l2, l3, l5, l6, l7] G Q → Tg W0 (j 1) [rf (7), cI (l1), cI (l2), cL (l3), l4, cI (l5), cI (l6), cI (l7)] [] G (fun r G => ∃ v, r = cI v ∧ inI v ∧ Q v G)) (h : PX9_scanName_104 J l1 l2 s0 G Q) : Tg W0 (vX9_scanName_104 j) [rf (7), cI (l1), cI (l2), l3, l4, l5, l6, l7] [cL (s0)] G (fun r G => ∃ v, r = cI v ∧ inI v ∧ Q v G) := by
  unfold PX9_scanName_104 at h
  unfold vX9_scanName_104
  refine g_stL (lv' := [_, _, _, _, _, _, _, _]) (Nat.le_of_ble_eq_true rfl) (Or.inr (n1_I _)) rfl ?_
  refine g_ld (v := cI _) rfl (is_I _) ?_
  refine g_eq1 hl2 (fun b51 => ?_) (fun b51 => ?_)
  · replace h := h.1 b51
    unfold vX9_scanName_115
    refine g_ld (v := cI _) rfl (is_I _) ?_
    refine g_const (v := cI (1)) rfl ?_
    refine g_add ?_
    obtain ⟨q52, h⟩ := h
    exact TX9_scanName_118 hl1 hl2 hs0 (show 7 % 8 ≠ 1 by decide) hl5 hl6 hl7 q52 hj0 hj1 h
  · replace h := h.2 b51
    unfold vX9_scanName_109
    refine g_ld (v := cI _) rfl (is_I _) ?_
    refine g_const (v := cI (3)) rfl ?_
    refine g_add ?_
    obtain ⟨q53, h⟩ := h
    exact TX9_scanName_118 hl1 hl2 hs0 (show 7 % 8 ≠ 1 by decide) hl5 hl6 hl7 q53 hj0 hj1 h
def PX9_scanName_54 (J : Nat → List Int → gS → (Int → gS → Prop) → Prop) (l1 : Int) (s0 : Int) (G : gS) (Q : Int → gS → Prop) : Prop :=
  ((s0 = 0 → ((G 7 6 = -1 ∨ ∃ n, isA W0 2 n (G 7 6)) → (∃ n27, isA W0 2 n27 (G 7 6) ∧ ((0 : Int) ≤ l1 ∧ ((l1 : Int) < n27 ∧ ((-128 ≤ G (G 7 6) l1 ∧ G (G 7 6) l1 < 128) → (inI ((G (G 7 6) l1) - 97) ∧ (inL (lshl ((G (G 7 6) l1) - 97) 54) → PX9_scanName_104 J l1 s0 (lshl ((G (G 7 6) l1) - 97) 54) G Q)))))))) ∧ (¬ (s0 = 0) → ((G 7 6 = -1 ∨ ∃ n, isA W0 2 n (G 7 6)) → (∃ n35, isA W0 2 n35 (G 7 6) ∧ ((0 : Int) ≤ l1 ∧ ((l1 : Int) < n35 ∧ ((-128 ≤ G (G 7 6) l1 ∧ G (G 7 6) l1 < 128) → (inI ((G (G 7 6) l1) - 97) ∧ (inL (lshl ((G (G 7 6) l1) - 97) 59) → ((G 7 6 = -1 ∨ ∃ n, isA W0 2 n (G 7 6)) → (∃ n43, isA W0 2 n43 (G 7 6) ∧ ((0 : Int) ≤ l1 + 2 ∧ ((l1 + 2 : Int) < n43 ∧ ((-128 ≤ G (G 7 6) (l1 + 2) ∧ G (G 7 6) (l1 + 2) < 128) → (inI ((G (G 7 6) (l1 + 2)) - 65) ∧ (inL (lshl ((G (G 7 6) (l1 + 2)) - 65) 54) → (inL (lor (lshl ((G (G 7 6) l1) - 97) 59) (lshl ((G (G 7 6) (l1 + 2)) - 65) 54)) → PX9_scanName_104 J l1 s0 (lor (lshl ((G (G 7 6) l1) - 97) 59) (lshl ((G (G 7 6) (l1 + 2)) - 65) 54)) G Q)))))))))))))))))
set_option maxRecDepth 20000 in
theorem TX9_scanName_54 {j : Nat → rx_K} {J : Nat → List Int → gS → (Int → gS → Prop) → Prop} {l1 : Int} {l2 : Nat} {l3 : Nat} {l4 : Nat} {l5 : Nat} {l6 : Nat} {l7 : Nat} {s0 : Int} {G : gS} {Q : Int → gS → Prop} (hl1 : inI l1) (hl2 : l2 % 8 ≠ 1) (hl3 : l3 % 8 ≠ 1) (hl4 : l4 % 8 ≠ 1) (hl5 : l5 % 8 ≠ 1) (hl6 : l6 % 8 ≠ 1) (hl7 : l7 % 8 ≠ 1) (hs0 : inI s0) (hj0 : ∀ (l1 : Int) (l2 : Int) (l3 : Int) (l4 : Nat) (l5 : Int) (l6 : Int) (l7 : Nat) (G : gS), (inI l1) → (inI l2) → (inL l3) → (l4 % 8 ≠ 1) → (inI l5) → (inI l6) → (l7 % 8 ≠ 1) → J 0 [l1, l2, l3, l5, l6] G Q → Tg W0 (j 0) [rf (7), cI (l1), cI (l2), cL (l3), l4, cI (l5), cI (l6), l7] [] G (fun r G => ∃ v, r = cI v ∧ inI v ∧ Q v G)) (hj1 : ∀ (l1 : Int) (l2 : Int) (l3 : Int) (l4 : Nat) (l5 : Int) (l6 : Int) (l7 : Int) (G : gS), (inI l1) → (inI l2) → (inL l3) → (l4 % 8 ≠ 1) → (inI l5) → (inI l6) → (inI l7) → J 1 [l1, l2, l3, l5, l6, l7] G Q → Tg W0 (j 1) [rf (7), cI (l1), cI (l2), cL (l3), l4, cI (l5), cI (l6), cI (l7)] [] G (fun r G => ∃ v, r = cI v ∧ inI v ∧ Q v G)) (h : PX9_scanName_54 J l1 s0 G Q) : Tg W0 (vX9_scanName_54 j) [rf (7), cI (l1), l2, l3, l4, l5, l6, l7] [cI (s0)] G (fun r G => ∃ v, r = cI v ∧ inI v ∧ Q v G) := by
  unfold PX9_scanName_54 at h
  unfold vX9_scanName_54
  refine g_st (lv' := [_, _, _, _, _, _, _, _]) (is_I _) (Nat.le_of_ble_eq_true rfl) (Or.inr (n1_I _)) rfl ?_
  refine g_ld (v := cI _) rfl (is_I _) ?_
  refine g_eq1 hs0 (fun b25 => ?_) (fun b25 => ?_)
  · replace h := h.1 b25
    unfold vX9_scanName_91
    refine g_ld (v := rf _) rfl (is_R _) ?_
    refine g_getA (kz := 6) (c := 2) oC9 rfl (Nat.le_of_ble_eq_true rfl) rfl fun i26 => ?_
    replace h := h i26
    refine g_ld (v := cI _) rfl (is_I _) ?_
    obtain ⟨n27, q28, h⟩ := h
    obtain ⟨q29, q30, h⟩ := h
    refine g_aldB q28 q29 q30 rfl fun i31 => ?_
    replace h := h i31
    refine g_const (v := cI (97)) rfl ?_
    refine g_sub ?_
    obtain ⟨q32, h⟩ := h
    refine g_i2l q32 ?_
    refine g_const (v := cI (54)) rfl ?_
    refine g_lshl fun i33 => ?_
    replace h := h i33
    exact TX9_scanName_104 hl1 hs0 hl3 hl4 hl5 hl6 hl7 i33 hj0 hj1 h
  · replace h := h.2 b25
    unfold vX9_scanName_59
    refine g_ld (v := rf _) rfl (is_R _) ?_
    refine g_getA (kz := 6) (c := 2) oC9 rfl (Nat.le_of_ble_eq_true rfl) rfl fun i34 => ?_
    replace h := h i34
    refine g_ld (v := cI _) rfl (is_I _) ?_
    obtain ⟨n35, q36, h⟩ := h
    obtain ⟨q37, q38, h⟩ := h
    refine g_aldB q36 q37 q38 rfl fun i39 => ?_
    replace h := h i39
    refine g_const (v := cI (97)) rfl ?_
    refine g_sub ?_
    obtain ⟨q40, h⟩ := h
    refine g_i2l q40 ?_
    refine g_const (v := cI (59)) rfl ?_
    refine g_lshl fun i41 => ?_
    replace h := h i41
    refine g_ld (v := rf _) rfl (is_R _) ?_
    refine g_getA (kz := 6) (c := 2) oC9 rfl (Nat.le_of_ble_eq_true rfl) rfl fun i42 => ?_
    replace h := h i42
    refine g_ld (v := cI _) rfl (is_I _) ?_
    refine g_const (v := cI (2)) rfl ?_
    refine g_add ?_
    obtain ⟨n43, q44, h⟩ := h
    obtain ⟨q45, q46, h⟩ := h
    refine g_aldB q44 q45 q46 rfl fun i47 => ?_
    replace h := h i47
    refine g_const (v := cI (65)) rfl ?_
    refine g_sub ?_
    obtain ⟨q48, h⟩ := h
    refine g_i2l q48 ?_
    refine g_const (v := cI (54)) rfl ?_
    refine g_lshl fun i49 => ?_
    replace h := h i49
    refine g_lor fun i50 => ?_
    replace h := h i50
    exact TX9_scanName_104 hl1 hs0 hl3 hl4 hl5 hl6 hl7 i50 hj0 hj1 h
def PX9_scanName_53 (J : Nat → List Int → gS → (Int → gS → Prop) → Prop) (l1 : Int) (G : gS) (Q : Int → gS → Prop) : Prop :=
  PX9_scanName_54 J l1 0 G Q
set_option maxRecDepth 20000 in
theorem TX9_scanName_53 {j : Nat → rx_K} {J : Nat → List Int → gS → (Int → gS → Prop) → Prop} {l1 : Int} {l2 : Nat} {l3 : Nat} {l4 : Nat} {l5 : Nat} {l6 : Nat} {l7 : Nat} {G : gS} {Q : Int → gS → Prop} (hl1 : inI l1) (hl2 : l2 % 8 ≠ 1) (hl3 : l3 % 8 ≠ 1) (hl4 : l4 % 8 ≠ 1) (hl5 : l5 % 8 ≠ 1) (hl6 : l6 % 8 ≠ 1) (hl7 : l7 % 8 ≠ 1) (hj0 : ∀ (l1 : Int) (l2 : Int) (l3 : Int) (l4 : Nat) (l5 : Int) (l6 : Int) (l7 : Nat) (G : gS), (inI l1) → (inI l2) → (inL l3) → (l4 % 8 ≠ 1) → (inI l5) → (inI l6) → (l7 % 8 ≠ 1) → J 0 [l1, l2, l3, l5, l6] G Q → Tg W0 (j 0) [rf (7), cI (l1), cI (l2), cL (l3), l4, cI (l5), cI (l6), l7] [] G (fun r G => ∃ v, r = cI v ∧ inI v ∧ Q v G)) (hj1 : ∀ (l1 : Int) (l2 : Int) (l3 : Int) (l4 : Nat) (l5 : Int) (l6 : Int) (l7 : Int) (G : gS), (inI l1) → (inI l2) → (inL l3) → (l4 % 8 ≠ 1) → (inI l5) → (inI l6) → (inI l7) → J 1 [l1, l2, l3, l5, l6, l7] G Q → Tg W0 (j 1) [rf (7), cI (l1), cI (l2), cL (l3), l4, cI (l5), cI (l6), cI (l7)] [] G (fun r G => ∃ v, r = cI v ∧ inI v ∧ Q v G)) (h : PX9_scanName_53 J l1 G Q) : Tg W0 (vX9_scanName_53 j) [rf (7), cI (l1), l2, l3, l4, l5, l6, l7] [] G (fun r G => ∃ v, r = cI v ∧ inI v ∧ Q v G) := by
  unfold PX9_scanName_53 at h
  unfold vX9_scanName_53
  refine g_const (v := cI (0)) rfl ?_
  exact TX9_scanName_54 hl1 hl2 hl3 hl4 hl5 hl6 hl7 ⟨by omega, by omega⟩ hj0 hj1 h
def PX9_scanName_0 (J : Nat → List Int → gS → (Int → gS → Prop) → Prop) (a1 : Int) (G : gS) (Q : Int → gS → Prop) : Prop :=
  (inI (G 7 7) → (inI (a1 + 2) ∧ ((a1 + 2 < G 7 7 → ((G 7 6 = -1 ∨ ∃ n, isA W0 2 n (G 7 6)) → (∃ n5, isA W0 2 n5 (G 7 6) ∧ ((0 : Int) ≤ a1 + 1 ∧ ((a1 + 1 : Int) < n5 ∧ ((-128 ≤ G (G 7 6) (a1 + 1) ∧ G (G 7 6) (a1 + 1) < 128) → ((G (G 7 6) (a1 + 1) = 46 → ((G 7 6 = -1 ∨ ∃ n, isA W0 2 n (G 7 6)) → (∃ n12, isA W0 2 n12 (G 7 6) ∧ ((0 : Int) ≤ a1 + 2 ∧ ((a1 + 2 : Int) < n12 ∧ ((-128 ≤ G (G 7 6) (a1 + 2) ∧ G (G 7 6) (a1 + 2) < 128) → ((G (G 7 6) (a1 + 2) < 65 → PX9_scanName_53 J a1 G Q) ∧ (¬ (G (G 7 6) (a1 + 2) < 65) → ((G 7 6 = -1 ∨ ∃ n, isA W0 2 n (G 7 6)) → (∃ n19, isA W0 2 n19 (G 7 6) ∧ ((0 : Int) ≤ a1 + 2 ∧ ((a1 + 2 : Int) < n19 ∧ ((-128 ≤ G (G 7 6) (a1 + 2) ∧ G (G 7 6) (a1 + 2) < 128) → ((90 < G (G 7 6) (a1 + 2) → PX9_scanName_53 J a1 G Q) ∧ (¬ (90 < G (G 7 6) (a1 + 2)) → PX9_scanName_54 J a1 1 G Q))))))))))))))) ∧ (¬ (G (G 7 6) (a1 + 1) = 46) → PX9_scanName_53 J a1 G Q)))))))) ∧ (¬ (a1 + 2 < G 7 7) → PX9_scanName_53 J a1 G Q))))
set_option maxRecDepth 20000 in
theorem TX9_scanName_0 {j : Nat → rx_K} {J : Nat → List Int → gS → (Int → gS → Prop) → Prop} {a1 : Int} {G : gS} {Q : Int → gS → Prop} (ha1 : inI a1) (hj0 : ∀ (l1 : Int) (l2 : Int) (l3 : Int) (l4 : Nat) (l5 : Int) (l6 : Int) (l7 : Nat) (G : gS), (inI l1) → (inI l2) → (inL l3) → (l4 % 8 ≠ 1) → (inI l5) → (inI l6) → (l7 % 8 ≠ 1) → J 0 [l1, l2, l3, l5, l6] G Q → Tg W0 (j 0) [rf (7), cI (l1), cI (l2), cL (l3), l4, cI (l5), cI (l6), l7] [] G (fun r G => ∃ v, r = cI v ∧ inI v ∧ Q v G)) (hj1 : ∀ (l1 : Int) (l2 : Int) (l3 : Int) (l4 : Nat) (l5 : Int) (l6 : Int) (l7 : Int) (G : gS), (inI l1) → (inI l2) → (inL l3) → (l4 % 8 ≠ 1) → (inI l5) → (inI l6) → (inI l7) → J 1 [l1, l2, l3, l5, l6, l7] G Q → Tg W0 (j 1) [rf (7), cI (l1), cI (l2), cL (l3), l4, cI (l5), cI (l6), cI (l7)] [] G (fun r G => ∃ v, r = cI v ∧ inI v ∧ Q v G)) (h : PX9_scanName_0 J a1 G Q) : Tg W0 (vX9_scanName_0 j) [rf (7), cI (a1), 7, 7, 7, 7, 7, 7] [] G (fun r G => ∃ v, r = cI v ∧ inI v ∧ Q v G) := by
  unfold PX9_scanName_0 at h
  unfold vX9_scanName_0
  refine g_ld (v := cI _) rfl (is_I _) ?_
  refine g_const (v := cI (2)) rfl ?_
  refine g_add ?_
  refine g_ld (v := rf _) rfl (is_R _) ?_
  refine g_getI (kz := 7) oC9 rfl (Nat.le_of_ble_eq_true rfl) rfl fun i1 => ?_
  replace h := h i1
  obtain ⟨q2, h⟩ := h
  refine g_lt2 q2 i1 (fun b3 => ?_) (fun b3 => ?_)
  · replace h := h.1 b3
    unfold vX9_scanName_10
    refine g_ld (v := rf _) rfl (is_R _) ?_
    refine g_getA (kz := 6) (c := 2) oC9 rfl (Nat.le_of_ble_eq_true rfl) rfl fun i4 => ?_
    replace h := h i4
    refine g_ld (v := cI _) rfl (is_I _) ?_
    refine g_const (v := cI (1)) rfl ?_
    refine g_add ?_
    obtain ⟨n5, q6, h⟩ := h
    obtain ⟨q7, q8, h⟩ := h
    refine g_aldB q6 q7 q8 rfl fun i9 => ?_
    replace h := h i9
    refine g_const (v := cI (46)) rfl ?_
    refine g_eq2 ⟨by omega, by omega⟩ ⟨by omega, by omega⟩ (fun b10 => ?_) (fun b10 => ?_)
    · replace h := h.1 b10
      unfold vX9_scanName_23
      refine g_ld (v := rf _) rfl (is_R _) ?_
      refine g_getA (kz := 6) (c := 2) oC9 rfl (Nat.le_of_ble_eq_true rfl) rfl fun i11 => ?_
      replace h := h i11
      refine g_ld (v := cI _) rfl (is_I _) ?_
      refine g_const (v := cI (2)) rfl ?_
      refine g_add ?_
      obtain ⟨n12, q13, h⟩ := h
      obtain ⟨q14, q15, h⟩ := h
      refine g_aldB q13 q14 q15 rfl fun i16 => ?_
      replace h := h i16
      refine g_const (v := cI (65)) rfl ?_
      refine g_lt2 ⟨by omega, by omega⟩ ⟨by omega, by omega⟩ (fun b17 => ?_) (fun b17 => ?_)
      · replace h := h.1 b17
        exact TX9_scanName_53 ha1 (show 7 % 8 ≠ 1 by decide) (show 7 % 8 ≠ 1 by decide) (show 7 % 8 ≠ 1 by decide) (show 7 % 8 ≠ 1 by decide) (show 7 % 8 ≠ 1 by decide) (show 7 % 8 ≠ 1 by decide) hj0 hj1 h
      · replace h := h.2 b17
        unfold vX9_scanName_36
        refine g_ld (v := rf _) rfl (is_R _) ?_
        refine g_getA (kz := 6) (c := 2) oC9 rfl (Nat.le_of_ble_eq_true rfl) rfl fun i18 => ?_
        replace h := h i18
        refine g_ld (v := cI _) rfl (is_I _) ?_
        refine g_const (v := cI (2)) rfl ?_
        refine g_add ?_
        obtain ⟨n19, q20, h⟩ := h
        obtain ⟨q21, q22, h⟩ := h
        refine g_aldB q20 q21 q22 rfl fun i23 => ?_
        replace h := h i23
        refine g_const (v := cI (90)) rfl ?_
        refine g_gt2 ⟨by omega, by omega⟩ ⟨by omega, by omega⟩ (fun b24 => ?_) (fun b24 => ?_)
        · replace h := h.1 b24
          exact TX9_scanName_53 ha1 (show 7 % 8 ≠ 1 by decide) (show 7 % 8 ≠ 1 by decide) (show 7 % 8 ≠ 1 by decide) (show 7 % 8 ≠ 1 by decide) (show 7 % 8 ≠ 1 by decide) (show 7 % 8 ≠ 1 by decide) hj0 hj1 h
        · replace h := h.2 b24
          unfold vX9_scanName_49
          refine g_const (v := cI (1)) rfl ?_
          exact TX9_scanName_54 ha1 (show 7 % 8 ≠ 1 by decide) (show 7 % 8 ≠ 1 by decide) (show 7 % 8 ≠ 1 by decide) (show 7 % 8 ≠ 1 by decide) (show 7 % 8 ≠ 1 by decide) (show 7 % 8 ≠ 1 by decide) ⟨by omega, by omega⟩ hj0 hj1 h
    · replace h := h.2 b10
      exact TX9_scanName_53 ha1 (show 7 % 8 ≠ 1 by decide) (show 7 % 8 ≠ 1 by decide) (show 7 % 8 ≠ 1 by decide) (show 7 % 8 ≠ 1 by decide) (show 7 % 8 ≠ 1 by decide) (show 7 % 8 ≠ 1 by decide) hj0 hj1 h
  · replace h := h.2 b3
    exact TX9_scanName_53 ha1 (show 7 % 8 ≠ 1 by decide) (show 7 % 8 ≠ 1 by decide) (show 7 % 8 ≠ 1 by decide) (show 7 % 8 ≠ 1 by decide) (show 7 % 8 ≠ 1 by decide) (show 7 % 8 ≠ 1 by decide) hj0 hj1 h
def PX9_scanName_J : Nat → Nat → List Int → gS → (Int → gS → Prop) → Prop
  | 0, _, _, _, _ => False
  | f + 1, h, L, G, Q => match h, L with
    | 0, [l1, l2, l3, l5, l6] => PX9_scanName_124 (PX9_scanName_J f) l1 l2 l3 l5 l6 G Q
    | 1, [l1, l2, l3, l5, l6, l7] => PX9_scanName_235 (PX9_scanName_J f) l1 l2 l3 l5 l6 l7 G Q
    | _, _ => False
theorem TX9_scanName_J {Q : Int → gS → Prop} : ∀ f N : Nat, f ≤ N → (∀ (l1 : Int) (l2 : Int) (l3 : Int) (l4 : Nat) (l5 : Int) (l6 : Int) (l7 : Nat) (G : gS), (inI l1) → (inI l2) → (inL l3) → (l4 % 8 ≠ 1) → (inI l5) → (inI l6) → (l7 % 8 ≠ 1) → (PX9_scanName_J f) 0 [l1, l2, l3, l5, l6] G Q → Tg W0 (rx_J vhX9_scanName N 0) [rf (7), cI (l1), cI (l2), cL (l3), l4, cI (l5), cI (l6), l7] [] G (fun r G => ∃ v, r = cI v ∧ inI v ∧ Q v G)) ∧ (∀ (l1 : Int) (l2 : Int) (l3 : Int) (l4 : Nat) (l5 : Int) (l6 : Int) (l7 : Int) (G : gS), (inI l1) → (inI l2) → (inL l3) → (l4 % 8 ≠ 1) → (inI l5) → (inI l6) → (inI l7) → (PX9_scanName_J f) 1 [l1, l2, l3, l5, l6, l7] G Q → Tg W0 (rx_J vhX9_scanName N 1) [rf (7), cI (l1), cI (l2), cL (l3), l4, cI (l5), cI (l6), cI (l7)] [] G (fun r G => ∃ v, r = cI v ∧ inI v ∧ Q v G)) := by
  intro f
  induction f with
  | zero => exact fun N _ => ⟨fun _ _ _ _ _ _ _ _ _ _ _ _ _ _ _ h => h.elim, fun _ _ _ _ _ _ _ _ _ _ _ _ _ _ _ h => h.elim⟩
  | succ f ih =>
    intro N hN
    obtain ⟨M, rfl⟩ : ∃ M, N = M + 1 := ⟨N - 1, by omega⟩
    have ih := ih M (by omega)
    exact ⟨fun _ _ _ _ _ _ _ _ hl1 hl2 hl3 hl4 hl5 hl6 hl7 h => show Tg W0 (vX9_scanName_124 (rx_J vhX9_scanName M)) _ _ _ _ from TX9_scanName_124 hl1 hl2 hl3 hl4 hl5 hl6 hl7 ih.1 ih.2 h, fun _ _ _ _ _ _ _ _ hl1 hl2 hl3 hl4 hl5 hl6 hl7 h => show Tg W0 (vX9_scanName_235 (rx_J vhX9_scanName M)) _ _ _ _ from TX9_scanName_235 hl1 hl2 hl3 hl4 hl5 hl6 hl7 ih.1 ih.2 h⟩
def PX9_scanName (a1 : Int) (G : gS) (Q : Int → gS → Prop) : Prop := ∃ f : Nat, f ≤ 4000000000 ∧ PX9_scanName_0 (PX9_scanName_J f) a1 G Q
theorem TX9_scanName {a1 : Int} {G : gS} {Q : Int → gS → Prop} (ha1 : inI a1) (h : PX9_scanName a1 G Q) : Tn W0 FX9_scanName [rf (7), cI (a1)] G (fun r G => ∃ v, r = cI v ∧ inI v ∧ Q v G) := by
  obtain ⟨f, hf, h⟩ := h
  have hJ := TX9_scanName_J (Q := Q) f 4000000000 hf
  unfold FX9_scanName
  refine g_ent (lv' := [rf (7), cI (a1), 7, 7, 7, 7, 7, 7]) (flR (flI fl0)) (Nat.le_of_ble_eq_true rfl) rfl ?_
  exact TX9_scanName_0 ha1 hJ.1 hJ.2 h
def PX9_scanNumber_90 (J : Nat → List Int → gS → (Int → gS → Prop) → Prop) (l1 : Int) (l2 : Int) (l3 : Int) (s0 : Int) (s1 : Int) (s2 : Int) (G : gS) (Q : Int → gS → Prop) : Prop :=
  (∃ n31, isA W0 0 n31 (s0) ∧ ((0 : Int) ≤ s1 ∧ ((s1 : Int) < n31 ∧ (∀ G35 : gS, G35 = uG G s0 s1 (s2) → (inI (G35 7 5) → ((0 : Int) ≤ G35 7 5 ∧ ((G35 7 5 : Int) < 704 ∧ (∀ G39 : gS, G39 = uG G35 12 (G35 7 5) (l3) → Q (l2) G39))))))))
set_option maxRecDepth 20000 in
theorem TX9_scanNumber_90 {j : Nat → rx_K} {J : Nat → List Int → gS → (Int → gS → Prop) → Prop} {l1 : Int} {l2 : Int} {l3 : Int} {l4 : Nat} {s0 : Int} {s1 : Int} {s2 : Int} {G : gS} {Q : Int → gS → Prop} (hl1 : inI l1) (hl2 : inI l2) (hl3 : inL l3) (hl4 : l4 % 8 ≠ 1) (hs1 : inI s1) (hs2 : inI s2) (hj0 : ∀ (l1 : Int) (l2 : Int) (l3 : Int) (l4 : Nat) (G : gS), (inI l1) → (inI l2) → (inL l3) → (l4 % 8 ≠ 1) → J 0 [l1, l2, l3] G Q → Tg W0 (j 0) [rf (7), cI (l1), cI (l2), cL (l3), l4] [] G (fun r G => ∃ v, r = cI v ∧ inI v ∧ Q v G)) (h : PX9_scanNumber_90 J l1 l2 l3 s0 s1 s2 G Q) : Tg W0 (vX9_scanNumber_90 j) [rf (7), cI (l1), cI (l2), cL (l3), l4] [cI (s2), cI (s1), rf (s0)] G (fun r G => ∃ v, r = cI v ∧ inI v ∧ Q v G) := by
  unfold PX9_scanNumber_90 at h
  unfold vX9_scanNumber_90
  obtain ⟨n31, q32, h⟩ := h
  obtain ⟨q33, q34, h⟩ := h
  refine g_astI q32 q33 q34 hs2 (nfI q32) ?_
  replace h := h _ rfl
  refine g_ld (v := rf _) rfl (is_R _) ?_
  refine g_getF (v := 12) oC9 (hC9_4) rfl (Nat.le_of_ble_eq_true rfl) (Nat.le_of_ble_eq_true rfl) ?_
  refine g_ld (v := rf _) rfl (is_R _) ?_
  refine g_getI (kz := 5) oC9 rfl (Nat.le_of_ble_eq_true rfl) rfl fun i36 => ?_
  replace h := h i36
  refine g_ld (v := cL _) rfl (is_L _) ?_
  obtain ⟨q37, q38, h⟩ := h
  refine g_astL aC12 q37 q38 hl3 (nfL aC12) ?_
  replace h := h _ rfl
  refine g_ld (v := cI _) rfl (is_I _) ?_
  exact g_ret1 (is_I _) ⟨_, rfl, hl2, h⟩
def PX9_scanNumber_69 (J : Nat → List Int → gS → (Int → gS → Prop) → Prop) (l1 : Int) (l2 : Int) (l3 : Int) (G : gS) (Q : Int → gS → Prop) : Prop :=
  (inI (G 7 5) → (inI (l2 - l1) ∧ ((9 < l2 - l1 → PX9_scanNumber_90 J l1 l2 l3 9 (G 7 5) 1 G Q) ∧ (¬ (9 < l2 - l1) → PX9_scanNumber_90 J l1 l2 l3 9 (G 7 5) 4 G Q))))
set_option maxRecDepth 20000 in
theorem TX9_scanNumber_69 {j : Nat → rx_K} {J : Nat → List Int → gS → (Int → gS → Prop) → Prop} {l1 : Int} {l2 : Int} {l3 : Int} {l4 : Nat} {G : gS} {Q : Int → gS → Prop} (hl1 : inI l1) (hl2 : inI l2) (hl3 : inL l3) (hl4 : l4 % 8 ≠ 1) (hj0 : ∀ (l1 : Int) (l2 : Int) (l3 : Int) (l4 : Nat) (G : gS), (inI l1) → (inI l2) → (inL l3) → (l4 % 8 ≠ 1) → J 0 [l1, l2, l3] G Q → Tg W0 (j 0) [rf (7), cI (l1), cI (l2), cL (l3), l4] [] G (fun r G => ∃ v, r = cI v ∧ inI v ∧ Q v G)) (h : PX9_scanNumber_69 J l1 l2 l3 G Q) : Tg W0 (vX9_scanNumber_69 j) [rf (7), cI (l1), cI (l2), cL (l3), l4] [] G (fun r G => ∃ v, r = cI v ∧ inI v ∧ Q v G) := by
  unfold PX9_scanNumber_69 at h
  unfold vX9_scanNumber_69
  refine g_ld (v := rf _) rfl (is_R _) ?_
  refine g_getF (v := 9) oC9 (hC9_1) rfl (Nat.le_of_ble_eq_true rfl) (Nat.le_of_ble_eq_true rfl) ?_
  refine g_ld (v := rf _) rfl (is_R _) ?_
  refine g_getI (kz := 5) oC9 rfl (Nat.le_of_ble_eq_true rfl) rfl fun i27 => ?_
  replace h := h i27
  refine g_ld (v := cI _) rfl (is_I _) ?_
  refine g_ld (v := cI _) rfl (is_I _) ?_
  refine g_sub ?_
  refine g_const (v := cI (9)) rfl ?_
  obtain ⟨q28, h⟩ := h
  refine g_gt2 q28 ⟨by omega, by omega⟩ (fun b29 => ?_) (fun b29 => ?_)
  · replace h := h.1 b29
    unfold vX9_scanNumber_85
    refine g_const (v := cI (1)) rfl ?_
    exact TX9_scanNumber_90 hl1 hl2 hl3 hl4 i27 ⟨by omega, by omega⟩ hj0 h
  · replace h := h.2 b29
    unfold vX9_scanNumber_89
    refine g_const (v := cI (4)) rfl ?_
    exact TX9_scanNumber_90 hl1 hl2 hl3 hl4 i27 ⟨by omega, by omega⟩ hj0 h
def PX9_scanNumber_62 (J : Nat → List Int → gS → (Int → gS → Prop) → Prop) (l1 : Int) (l2 : Int) (l3 : Int) (s0 : Int) (G : gS) (Q : Int → gS → Prop) : Prop :=
  (inI (l2 + 1) ∧ J 0 [l1, l2 + 1, s0] G Q)
set_option maxRecDepth 20000 in
theorem TX9_scanNumber_62 {j : Nat → rx_K} {J : Nat → List Int → gS → (Int → gS → Prop) → Prop} {l1 : Int} {l2 : Int} {l3 : Int} {l4 : Nat} {s0 : Int} {G : gS} {Q : Int → gS → Prop} (hl1 : inI l1) (hl2 : inI l2) (hl3 : inL l3) (hl4 : l4 % 8 ≠ 1) (hs0 : inL s0) (hj0 : ∀ (l1 : Int) (l2 : Int) (l3 : Int) (l4 : Nat) (G : gS), (inI l1) → (inI l2) → (inL l3) → (l4 % 8 ≠ 1) → J 0 [l1, l2, l3] G Q → Tg W0 (j 0) [rf (7), cI (l1), cI (l2), cL (l3), l4] [] G (fun r G => ∃ v, r = cI v ∧ inI v ∧ Q v G)) (h : PX9_scanNumber_62 J l1 l2 l3 s0 G Q) : Tg W0 (vX9_scanNumber_62 j) [rf (7), cI (l1), cI (l2), cL (l3), l4] [cL (s0)] G (fun r G => ∃ v, r = cI v ∧ inI v ∧ Q v G) := by
  unfold PX9_scanNumber_62 at h
  unfold vX9_scanNumber_62
  refine g_stL (lv' := [_, _, _, _, _]) (Nat.le_of_ble_eq_true rfl) (Or.inr (n1_I _)) rfl ?_
  refine g_inc (lv' := [_, _, _, _, _]) rfl (Nat.le_of_ble_eq_true rfl) (Or.inr (n1_I _)) rfl ?_
  obtain ⟨q30, h⟩ := h
  exact hj0 _ _ _ _ _ hl1 q30 hs0 (show 7 % 8 ≠ 1 by decide) h
def PX9_scanNumber_4 (J : Nat → List Int → gS → (Int → gS → Prop) → Prop) (l1 : Int) (l2 : Int) (l3 : Int) (G : gS) (Q : Int → gS → Prop) : Prop :=
  (inI (G 7 7) → ((l2 < G 7 7 → ((G 7 6 = -1 ∨ ∃ n, isA W0 2 n (G 7 6)) → (∃ n4, isA W0 2 n4 (G 7 6) ∧ ((0 : Int) ≤ l2 ∧ ((l2 : Int) < n4 ∧ ((-128 ≤ G (G 7 6) l2 ∧ G (G 7 6) l2 < 128) → ((G (G 7 6) l2 < 48 → PX9_scanNumber_69 J l1 l2 l3 G Q) ∧ (¬ (G (G 7 6) l2 < 48) → ((G 7 6 = -1 ∨ ∃ n, isA W0 2 n (G 7 6)) → (∃ n11, isA W0 2 n11 (G 7 6) ∧ ((0 : Int) ≤ l2 ∧ ((l2 : Int) < n11 ∧ ((-128 ≤ G (G 7 6) l2 ∧ G (G 7 6) l2 < 128) → ((57 < G (G 7 6) l2 → PX9_scanNumber_69 J l1 l2 l3 G Q) ∧ (¬ (57 < G (G 7 6) l2) → (inI (l2 - l1) ∧ ((l2 - l1 < 9 → ((G 7 6 = -1 ∨ ∃ n, isA W0 2 n (G 7 6)) → (∃ n20, isA W0 2 n20 (G 7 6) ∧ ((0 : Int) ≤ l2 ∧ ((l2 : Int) < n20 ∧ ((-128 ≤ G (G 7 6) l2 ∧ G (G 7 6) l2 < 128) → (inI ((G (G 7 6) l2) - 48) ∧ (inL ((l3 * 10) + ((G (G 7 6) l2) - 48)) ∧ PX9_scanNumber_62 J l1 l2 l3 ((l3 * 10) + ((G (G 7 6) l2) - 48)) G Q)))))))) ∧ (¬ (l2 - l1 < 9) → PX9_scanNumber_62 J l1 l2 l3 l3 G Q)))))))))))))))))) ∧ (¬ (l2 < G 7 7) → PX9_scanNumber_69 J l1 l2 l3 G Q)))
set_option maxRecDepth 20000 in
theorem TX9_scanNumber_4 {j : Nat → rx_K} {J : Nat → List Int → gS → (Int → gS → Prop) → Prop} {l1 : Int} {l2 : Int} {l3 : Int} {l4 : Nat} {G : gS} {Q : Int → gS → Prop} (hl1 : inI l1) (hl2 : inI l2) (hl3 : inL l3) (hl4 : l4 % 8 ≠ 1) (hj0 : ∀ (l1 : Int) (l2 : Int) (l3 : Int) (l4 : Nat) (G : gS), (inI l1) → (inI l2) → (inL l3) → (l4 % 8 ≠ 1) → J 0 [l1, l2, l3] G Q → Tg W0 (j 0) [rf (7), cI (l1), cI (l2), cL (l3), l4] [] G (fun r G => ∃ v, r = cI v ∧ inI v ∧ Q v G)) (h : PX9_scanNumber_4 J l1 l2 l3 G Q) : Tg W0 (vX9_scanNumber_4 j) [rf (7), cI (l1), cI (l2), cL (l3), l4] [] G (fun r G => ∃ v, r = cI v ∧ inI v ∧ Q v G) := by
  unfold PX9_scanNumber_4 at h
  unfold vX9_scanNumber_4
  refine g_ld (v := cI _) rfl (is_I _) ?_
  refine g_ld (v := rf _) rfl (is_R _) ?_
  refine g_getI (kz := 7) oC9 rfl (Nat.le_of_ble_eq_true rfl) rfl fun i1 => ?_
  replace h := h i1
  refine g_lt2 hl2 i1 (fun b2 => ?_) (fun b2 => ?_)
  · replace h := h.1 b2
    unfold vX9_scanNumber_12
    refine g_ld (v := rf _) rfl (is_R _) ?_
    refine g_getA (kz := 6) (c := 2) oC9 rfl (Nat.le_of_ble_eq_true rfl) rfl fun i3 => ?_
    replace h := h i3
    refine g_ld (v := cI _) rfl (is_I _) ?_
    obtain ⟨n4, q5, h⟩ := h
    obtain ⟨q6, q7, h⟩ := h
    refine g_aldB q5 q6 q7 rfl fun i8 => ?_
    replace h := h i8
    refine g_const (v := cI (48)) rfl ?_
    refine g_lt2 ⟨by omega, by omega⟩ ⟨by omega, by omega⟩ (fun b9 => ?_) (fun b9 => ?_)
    · replace h := h.1 b9
      exact TX9_scanNumber_69 hl1 hl2 hl3 hl4 hj0 h
    · replace h := h.2 b9
      unfold vX9_scanNumber_23
      refine g_ld (v := rf _) rfl (is_R _) ?_
      refine g_getA (kz := 6) (c := 2) oC9 rfl (Nat.le_of_ble_eq_true rfl) rfl fun i10 => ?_
      replace h := h i10
      refine g_ld (v := cI _) rfl (is_I _) ?_
      obtain ⟨n11, q12, h⟩ := h
      obtain ⟨q13, q14, h⟩ := h
      refine g_aldB q12 q13 q14 rfl fun i15 => ?_
      replace h := h i15
      refine g_const (v := cI (57)) rfl ?_
      refine g_gt2 ⟨by omega, by omega⟩ ⟨by omega, by omega⟩ (fun b16 => ?_) (fun b16 => ?_)
      · replace h := h.1 b16
        exact TX9_scanNumber_69 hl1 hl2 hl3 hl4 hj0 h
      · replace h := h.2 b16
        unfold vX9_scanNumber_34
        refine g_ld (v := cI _) rfl (is_I _) ?_
        refine g_ld (v := cI _) rfl (is_I _) ?_
        refine g_sub ?_
        refine g_const (v := cI (9)) rfl ?_
        obtain ⟨q17, h⟩ := h
        refine g_lt2 q17 ⟨by omega, by omega⟩ (fun b18 => ?_) (fun b18 => ?_)
        · replace h := h.1 b18
          unfold vX9_scanNumber_42
          refine g_ld (v := cL _) rfl (is_L _) ?_
          refine g_const (v := cL (10)) rfl ?_
          refine g_lmul ?_
          refine g_ld (v := rf _) rfl (is_R _) ?_
          refine g_getA (kz := 6) (c := 2) oC9 rfl (Nat.le_of_ble_eq_true rfl) rfl fun i19 => ?_
          replace h := h i19
          refine g_ld (v := cI _) rfl (is_I _) ?_
          obtain ⟨n20, q21, h⟩ := h
          obtain ⟨q22, q23, h⟩ := h
          refine g_aldB q21 q22 q23 rfl fun i24 => ?_
          replace h := h i24
          refine g_const (v := cI (48)) rfl ?_
          refine g_sub ?_
          obtain ⟨q25, h⟩ := h
          refine g_i2l q25 ?_
          refine g_ladd ?_
          obtain ⟨q26, h⟩ := h
          exact TX9_scanNumber_62 hl1 hl2 hl3 hl4 q26 hj0 h
        · replace h := h.2 b18
          unfold vX9_scanNumber_61
          refine g_ld (v := cL _) rfl (is_L _) ?_
          exact TX9_scanNumber_62 hl1 hl2 hl3 hl4 hl3 hj0 h
  · replace h := h.2 b2
    exact TX9_scanNumber_69 hl1 hl2 hl3 hl4 hj0 h
def PX9_scanNumber_0 (J : Nat → List Int → gS → (Int → gS → Prop) → Prop) (a1 : Int) (G : gS) (Q : Int → gS → Prop) : Prop :=
  PX9_scanNumber_4 J a1 a1 0 G Q
set_option maxRecDepth 20000 in
theorem TX9_scanNumber_0 {j : Nat → rx_K} {J : Nat → List Int → gS → (Int → gS → Prop) → Prop} {a1 : Int} {G : gS} {Q : Int → gS → Prop} (ha1 : inI a1) (hj0 : ∀ (l1 : Int) (l2 : Int) (l3 : Int) (l4 : Nat) (G : gS), (inI l1) → (inI l2) → (inL l3) → (l4 % 8 ≠ 1) → J 0 [l1, l2, l3] G Q → Tg W0 (j 0) [rf (7), cI (l1), cI (l2), cL (l3), l4] [] G (fun r G => ∃ v, r = cI v ∧ inI v ∧ Q v G)) (h : PX9_scanNumber_0 J a1 G Q) : Tg W0 (vX9_scanNumber_0 j) [rf (7), cI (a1), 7, 7, 7] [] G (fun r G => ∃ v, r = cI v ∧ inI v ∧ Q v G) := by
  unfold PX9_scanNumber_0 at h
  unfold vX9_scanNumber_0
  refine g_ld (v := cI _) rfl (is_I _) ?_
  refine g_st (lv' := [_, _, _, _, _]) (is_I _) (Nat.le_of_ble_eq_true rfl) (Or.inr (n1_I _)) rfl ?_
  refine g_const (v := cL (0)) rfl ?_
  refine g_stL (lv' := [_, _, _, _, _]) (Nat.le_of_ble_eq_true rfl) (Or.inr (n1_I _)) rfl ?_
  exact TX9_scanNumber_4 ha1 ha1 ⟨by omega, by omega⟩ (show 7 % 8 ≠ 1 by decide) hj0 h
def PX9_scanNumber_J : Nat → Nat → List Int → gS → (Int → gS → Prop) → Prop
  | 0, _, _, _, _ => False
  | f + 1, h, L, G, Q => match h, L with
    | 0, [l1, l2, l3] => PX9_scanNumber_4 (PX9_scanNumber_J f) l1 l2 l3 G Q
    | _, _ => False
theorem TX9_scanNumber_J {Q : Int → gS → Prop} : ∀ f N : Nat, f ≤ N → (∀ (l1 : Int) (l2 : Int) (l3 : Int) (l4 : Nat) (G : gS), (inI l1) → (inI l2) → (inL l3) → (l4 % 8 ≠ 1) → (PX9_scanNumber_J f) 0 [l1, l2, l3] G Q → Tg W0 (rx_J vhX9_scanNumber N 0) [rf (7), cI (l1), cI (l2), cL (l3), l4] [] G (fun r G => ∃ v, r = cI v ∧ inI v ∧ Q v G)) := by
  intro f
  induction f with
  | zero => exact fun N _ => fun _ _ _ _ _ _ _ _ _ h => h.elim
  | succ f ih =>
    intro N hN
    obtain ⟨M, rfl⟩ : ∃ M, N = M + 1 := ⟨N - 1, by omega⟩
    have ih := ih M (by omega)
    exact fun _ _ _ _ _ hl1 hl2 hl3 hl4 h => show Tg W0 (vX9_scanNumber_4 (rx_J vhX9_scanNumber M)) _ _ _ _ from TX9_scanNumber_4 hl1 hl2 hl3 hl4 ih h
def PX9_scanNumber (a1 : Int) (G : gS) (Q : Int → gS → Prop) : Prop := ∃ f : Nat, f ≤ 4000000000 ∧ PX9_scanNumber_0 (PX9_scanNumber_J f) a1 G Q
theorem TX9_scanNumber {a1 : Int} {G : gS} {Q : Int → gS → Prop} (ha1 : inI a1) (h : PX9_scanNumber a1 G Q) : Tn W0 FX9_scanNumber [rf (7), cI (a1)] G (fun r G => ∃ v, r = cI v ∧ inI v ∧ Q v G) := by
  obtain ⟨f, hf, h⟩ := h
  have hJ := TX9_scanNumber_J (Q := Q) f 4000000000 hf
  unfold FX9_scanNumber
  refine g_ent (lv' := [rf (7), cI (a1), 7, 7, 7]) (flR (flI fl0)) (Nat.le_of_ble_eq_true rfl) rfl ?_
  exact TX9_scanNumber_0 ha1 hJ h
def PX9_scan_246 (J : Nat → List Int → gS → (Int → gS → Prop) → Prop) (l1 : Int) (l2 : Int) (l3 : Int) (l4 : Int) (s0 : Int) (G : gS) (Q : Int → gS → Prop) : Prop :=
  Q (s0) G
set_option maxRecDepth 20000 in
theorem TX9_scan_246 {j : Nat → rx_K} {J : Nat → List Int → gS → (Int → gS → Prop) → Prop} {l1 : Int} {l2 : Int} {l3 : Int} {l4 : Int} {l5 : Nat} {s0 : Int} {G : gS} {Q : Int → gS → Prop} (hl1 : inI l1) (hl2 : inI l2) (hl3 : inI l3) (hl4 : inI l4) (hl5 : l5 % 8 ≠ 1) (hs0 : inI s0) (hj0 : ∀ (l1 : Int) (l2 : Int) (l3 : Nat) (l4 : Nat) (l5 : Nat) (G : gS), (inI l1) → (inI l2) → (l3 % 8 ≠ 1) → (l4 % 8 ≠ 1) → (l5 % 8 ≠ 1) → J 0 [l1, l2] G Q → Tg W0 (j 0) [rf (7), cI (l1), cI (l2), l3, l4, l5] [] G (fun r G => ∃ v, r = cI v ∧ inI v ∧ Q v G)) (h : PX9_scan_246 J l1 l2 l3 l4 s0 G Q) : Tg W0 (vX9_scan_246 j) [rf (7), cI (l1), cI (l2), cI (l3), cI (l4), l5] [cI (s0)] G (fun r G => ∃ v, r = cI v ∧ inI v ∧ Q v G) := by
  unfold PX9_scan_246 at h
  unfold vX9_scan_246
  exact g_ret1 (is_I _) ⟨_, rfl, hs0, h⟩
def PX9_scan_195 (J : Nat → List Int → gS → (Int → gS → Prop) → Prop) (l1 : Int) (l2 : Int) (l3 : Int) (l4 : Int) (G : gS) (Q : Int → gS → Prop) : Prop :=
  (inI (G 7 5) → ((0 : Int) ≤ G 7 5 ∧ ((G 7 5 : Int) < 704 ∧ (∀ G40 : gS, G40 = uG G 10 (G 7 5) (l2) → (inI (G40 7 5) → ((0 : Int) ≤ G40 7 5 ∧ ((G40 7 5 : Int) < 704 ∧ (∀ G44 : gS, G44 = uG G40 11 (G40 7 5) (l3) → (inI (G44 7 5) → (inI ((G44 7 5) + 1) ∧ (∀ G47 : gS, G47 = uG G44 7 5 ((G44 7 5) + 1) → (inI (G47 7 5) → ((0 : Int) ≤ (G47 7 5) - 1 ∧ (((G47 7 5) - 1 : Int) < 704 ∧ (inI (G47 9 ((G47 7 5) - 1)) → ((G47 9 ((G47 7 5) - 1) = 1 → PX9_scan_246 J l1 l2 l3 l4 (-2) G47 Q) ∧ (¬ (G47 9 ((G47 7 5) - 1) = 1) → PX9_scan_246 J l1 l2 l3 l4 l3 G47 Q)))))))))))))))))
set_option maxRecDepth 20000 in
theorem TX9_scan_195 {j : Nat → rx_K} {J : Nat → List Int → gS → (Int → gS → Prop) → Prop} {l1 : Int} {l2 : Int} {l3 : Int} {l4 : Int} {l5 : Nat} {G : gS} {Q : Int → gS → Prop} (hl1 : inI l1) (hl2 : inI l2) (hl3 : inI l3) (hl4 : inI l4) (hl5 : l5 % 8 ≠ 1) (hj0 : ∀ (l1 : Int) (l2 : Int) (l3 : Nat) (l4 : Nat) (l5 : Nat) (G : gS), (inI l1) → (inI l2) → (l3 % 8 ≠ 1) → (l4 % 8 ≠ 1) → (l5 % 8 ≠ 1) → J 0 [l1, l2] G Q → Tg W0 (j 0) [rf (7), cI (l1), cI (l2), l3, l4, l5] [] G (fun r G => ∃ v, r = cI v ∧ inI v ∧ Q v G)) (h : PX9_scan_195 J l1 l2 l3 l4 G Q) : Tg W0 (vX9_scan_195 j) [rf (7), cI (l1), cI (l2), cI (l3), cI (l4), l5] [] G (fun r G => ∃ v, r = cI v ∧ inI v ∧ Q v G) := by
  unfold PX9_scan_195 at h
  unfold vX9_scan_195
  refine g_ld (v := rf _) rfl (is_R _) ?_
  refine g_getF (v := 10) oC9 (hC9_2) rfl (Nat.le_of_ble_eq_true rfl) (Nat.le_of_ble_eq_true rfl) ?_
  refine g_ld (v := rf _) rfl (is_R _) ?_
  refine g_getI (kz := 5) oC9 rfl (Nat.le_of_ble_eq_true rfl) rfl fun i37 => ?_
  replace h := h i37
  refine g_ld (v := cI _) rfl (is_I _) ?_
  obtain ⟨q38, q39, h⟩ := h
  refine g_astI aC10 q38 q39 hl2 (nfI aC10) ?_
  replace h := h _ rfl
  refine g_ld (v := rf _) rfl (is_R _) ?_
  refine g_getF (v := 11) oC9 (hC9_3) rfl (Nat.le_of_ble_eq_true rfl) (Nat.le_of_ble_eq_true rfl) ?_
  refine g_ld (v := rf _) rfl (is_R _) ?_
  refine g_getI (kz := 5) oC9 rfl (Nat.le_of_ble_eq_true rfl) rfl fun i41 => ?_
  replace h := h i41
  refine g_ld (v := cI _) rfl (is_I _) ?_
  obtain ⟨q42, q43, h⟩ := h
  refine g_astI aC11 q42 q43 hl3 (nfI aC11) ?_
  replace h := h _ rfl
  refine g_ld (v := rf _) rfl (is_R _) ?_
  refine g_dup (ct_R _) ?_
  refine g_getI (kz := 5) oC9 rfl (Nat.le_of_ble_eq_true rfl) rfl fun i45 => ?_
  replace h := h i45
  refine g_const (v := cI (1)) rfl ?_
  refine g_add ?_
  obtain ⟨q46, h⟩ := h
  refine g_putI (kz := 5) oC9 rfl (Nat.le_of_ble_eq_true rfl) rfl q46 (zfin_no (c := 7) (j := 5) rfl) ?_
  replace h := h _ rfl
  refine g_ld (v := rf _) rfl (is_R _) ?_
  refine g_getF (v := 9) oC9 (hC9_1) rfl (Nat.le_of_ble_eq_true rfl) (Nat.le_of_ble_eq_true rfl) ?_
  refine g_ld (v := rf _) rfl (is_R _) ?_
  refine g_getI (kz := 5) oC9 rfl (Nat.le_of_ble_eq_true rfl) rfl fun i48 => ?_
  replace h := h i48
  refine g_const (v := cI (1)) rfl ?_
  refine g_sub ?_
  unfold vX9_scan_235
  obtain ⟨q49, q50, h⟩ := h
  refine g_aldI aC9 q49 q50 rfl fun i51 => ?_
  replace h := h i51
  refine g_const (v := cI (1)) rfl ?_
  refine g_eq2 i51 ⟨by omega, by omega⟩ (fun b52 => ?_) (fun b52 => ?_)
  · replace h := h.1 b52
    unfold vX9_scan_240
    refine g_const (v := cI (-2)) rfl ?_
    exact TX9_scan_246 hl1 hl2 hl3 hl4 hl5 ⟨by omega, by omega⟩ hj0 h
  · replace h := h.2 b52
    unfold vX9_scan_245
    refine g_ld (v := cI _) rfl (is_I _) ?_
    exact TX9_scan_246 hl1 hl2 hl3 hl4 hl5 hl3 hj0 h
def PX9_scan_194 (J : Nat → List Int → gS → (Int → gS → Prop) → Prop) (l1 : Int) (l2 : Int) (l3 : Int) (l4 : Int) (l5 : Int) (s0 : Int) (s1 : Int) (s2 : Int) (G : gS) (Q : Int → gS → Prop) : Prop :=
  (∃ n74, isA W0 0 n74 (s0) ∧ ((0 : Int) ≤ s1 ∧ ((s1 : Int) < n74 ∧ (∀ G78 : gS, G78 = uG G s0 s1 (s2) → PX9_scan_195 J l1 l2 l3 l4 G78 Q))))
set_option maxRecDepth 20000 in
theorem TX9_scan_194 {j : Nat → rx_K} {J : Nat → List Int → gS → (Int → gS → Prop) → Prop} {l1 : Int} {l2 : Int} {l3 : Int} {l4 : Int} {l5 : Int} {s0 : Int} {s1 : Int} {s2 : Int} {G : gS} {Q : Int → gS → Prop} (hl1 : inI l1) (hl2 : inI l2) (hl3 : inI l3) (hl4 : inI l4) (hl5 : inI l5) (hs1 : inI s1) (hs2 : inI s2) (hj0 : ∀ (l1 : Int) (l2 : Int) (l3 : Nat) (l4 : Nat) (l5 : Nat) (G : gS), (inI l1) → (inI l2) → (l3 % 8 ≠ 1) → (l4 % 8 ≠ 1) → (l5 % 8 ≠ 1) → J 0 [l1, l2] G Q → Tg W0 (j 0) [rf (7), cI (l1), cI (l2), l3, l4, l5] [] G (fun r G => ∃ v, r = cI v ∧ inI v ∧ Q v G)) (h : PX9_scan_194 J l1 l2 l3 l4 l5 s0 s1 s2 G Q) : Tg W0 (vX9_scan_194 j) [rf (7), cI (l1), cI (l2), cI (l3), cI (l4), cI (l5)] [cI (s2), cI (s1), rf (s0)] G (fun r G => ∃ v, r = cI v ∧ inI v ∧ Q v G) := by
  unfold PX9_scan_194 at h
  unfold vX9_scan_194
  obtain ⟨n74, q75, h⟩ := h
  obtain ⟨q76, q77, h⟩ := h
  refine g_astI q75 q76 q77 hs2 (nfI q75) ?_
  replace h := h _ rfl
  exact TX9_scan_195 hl1 hl2 hl3 hl4 (n1_I _) hj0 h
def PX9_scan_158 (J : Nat → List Int → gS → (Int → gS → Prop) → Prop) (l1 : Int) (l2 : Int) (l3 : Int) (l4 : Int) (l5 : Int) (s0 : Int) (G : gS) (Q : Int → gS → Prop) : Prop :=
  (inI (G 7 5) → ((l5 = 0 → PX9_isSign l4 G (fun r70 G69 => (0 ≤ r70 ∧ r70 ≤ 1) → ((r70 = 0 → PX9_scan_194 J l1 l2 s0 l4 l5 9 (G 7 5) 1 G69 Q) ∧ (¬ (r70 = 0) → (inI (100 + l4) ∧ PX9_scan_194 J l1 l2 s0 l4 l5 9 (G 7 5) (100 + l4) G69 Q))))) ∧ (¬ (l5 = 0) → PX9_scan_194 J l1 l2 s0 l4 l5 9 (G 7 5) 99 G Q)))
set_option maxRecDepth 20000 in
theorem TX9_scan_158 {j : Nat → rx_K} {J : Nat → List Int → gS → (Int → gS → Prop) → Prop} {l1 : Int} {l2 : Int} {l3 : Int} {l4 : Int} {l5 : Int} {s0 : Int} {G : gS} {Q : Int → gS → Prop} (hl1 : inI l1) (hl2 : inI l2) (hl3 : inI l3) (hl4 : inI l4) (hl5 : inI l5) (hs0 : inI s0) (hj0 : ∀ (l1 : Int) (l2 : Int) (l3 : Nat) (l4 : Nat) (l5 : Nat) (G : gS), (inI l1) → (inI l2) → (l3 % 8 ≠ 1) → (l4 % 8 ≠ 1) → (l5 % 8 ≠ 1) → J 0 [l1, l2] G Q → Tg W0 (j 0) [rf (7), cI (l1), cI (l2), l3, l4, l5] [] G (fun r G => ∃ v, r = cI v ∧ inI v ∧ Q v G)) (h : PX9_scan_158 J l1 l2 l3 l4 l5 s0 G Q) : Tg W0 (vX9_scan_158 j) [rf (7), cI (l1), cI (l2), cI (l3), cI (l4), cI (l5)] [cI (s0)] G (fun r G => ∃ v, r = cI v ∧ inI v ∧ Q v G) := by
  unfold PX9_scan_158 at h
  unfold vX9_scan_158
  refine g_st (lv' := [_, _, _, _, _, _]) (is_I _) (Nat.le_of_ble_eq_true rfl) (Or.inr (n1_I _)) rfl ?_
  refine g_ld (v := rf _) rfl (is_R _) ?_
  refine g_getF (v := 9) oC9 (hC9_1) rfl (Nat.le_of_ble_eq_true rfl) (Nat.le_of_ble_eq_true rfl) ?_
  refine g_ld (v := rf _) rfl (is_R _) ?_
  refine g_getI (kz := 5) oC9 rfl (Nat.le_of_ble_eq_true rfl) rfl fun i67 => ?_
  replace h := h i67
  refine g_ld (v := cI _) rfl (is_I _) ?_
  refine g_eq1 hl5 (fun b68 => ?_) (fun b68 => ?_)
  · replace h := h.1 b68
    unfold vX9_scan_177
    refine g_ld (v := cI _) rfl (is_I _) ?_
    refine g_callS (As := [_]) (fun _ => rfl) ?_
    refine g_go1 (by simp only [cs_c, cs_0, ct_I, ct_L, ct_R]; exact Nat.le_of_ble_eq_true rfl) (Tn_w (TX9_isSign hl4 h) fun _ G69 ⟨r70, e, i71, h⟩ => ?_)
    subst e
    refine ⟨n7_I _, ?_⟩
    replace h := h i71
    refine g_eq1 ⟨by omega, by omega⟩ (fun b72 => ?_) (fun b72 => ?_)
    · replace h := h.1 b72
      unfold vX9_scan_193
      refine g_const (v := cI (1)) rfl ?_
      exact TX9_scan_194 hl1 hl2 hs0 hl4 hl5 i67 ⟨by omega, by omega⟩ hj0 h
    · replace h := h.2 b72
      unfold vX9_scan_185
      refine g_const (v := cI (100)) rfl ?_
      refine g_ld (v := cI _) rfl (is_I _) ?_
      refine g_add ?_
      obtain ⟨q73, h⟩ := h
      exact TX9_scan_194 hl1 hl2 hs0 hl4 hl5 i67 q73 hj0 h
  · replace h := h.2 b68
    unfold vX9_scan_172
    refine g_const (v := cI (99)) rfl ?_
    exact TX9_scan_194 hl1 hl2 hs0 hl4 hl5 i67 ⟨by omega, by omega⟩ hj0 h
def PX9_scan_142 (J : Nat → List Int → gS → (Int → gS → Prop) → Prop) (l1 : Int) (l2 : Int) (l3 : Int) (l4 : Int) (s0 : Int) (G : gS) (Q : Int → gS → Prop) : Prop :=
  ((s0 = 0 → (inI (l2 + 1) ∧ PX9_scan_158 J l1 l2 l3 l4 s0 (l2 + 1) G Q)) ∧ (¬ (s0 = 0) → (inI (l2 + 2) ∧ PX9_scan_158 J l1 l2 l3 l4 s0 (l2 + 2) G Q)))
set_option maxRecDepth 20000 in
theorem TX9_scan_142 {j : Nat → rx_K} {J : Nat → List Int → gS → (Int → gS → Prop) → Prop} {l1 : Int} {l2 : Int} {l3 : Int} {l4 : Int} {l5 : Nat} {s0 : Int} {G : gS} {Q : Int → gS → Prop} (hl1 : inI l1) (hl2 : inI l2) (hl3 : inI l3) (hl4 : inI l4) (hl5 : l5 % 8 ≠ 1) (hs0 : inI s0) (hj0 : ∀ (l1 : Int) (l2 : Int) (l3 : Nat) (l4 : Nat) (l5 : Nat) (G : gS), (inI l1) → (inI l2) → (l3 % 8 ≠ 1) → (l4 % 8 ≠ 1) → (l5 % 8 ≠ 1) → J 0 [l1, l2] G Q → Tg W0 (j 0) [rf (7), cI (l1), cI (l2), l3, l4, l5] [] G (fun r G => ∃ v, r = cI v ∧ inI v ∧ Q v G)) (h : PX9_scan_142 J l1 l2 l3 l4 s0 G Q) : Tg W0 (vX9_scan_142 j) [rf (7), cI (l1), cI (l2), cI (l3), cI (l4), l5] [cI (s0)] G (fun r G => ∃ v, r = cI v ∧ inI v ∧ Q v G) := by
  unfold PX9_scan_142 at h
  unfold vX9_scan_142
  refine g_st (lv' := [_, _, _, _, _, _]) (is_I _) (Nat.le_of_ble_eq_true rfl) (Or.inr (n1_I _)) rfl ?_
  refine g_ld (v := cI _) rfl (is_I _) ?_
  refine g_eq1 hs0 (fun b64 => ?_) (fun b64 => ?_)
  · replace h := h.1 b64
    unfold vX9_scan_155
    refine g_ld (v := cI _) rfl (is_I _) ?_
    refine g_const (v := cI (1)) rfl ?_
    refine g_add ?_
    obtain ⟨q65, h⟩ := h
    exact TX9_scan_158 hl1 hl2 hl3 hl4 hs0 q65 hj0 h
  · replace h := h.2 b64
    unfold vX9_scan_149
    refine g_ld (v := cI _) rfl (is_I _) ?_
    refine g_const (v := cI (2)) rfl ?_
    refine g_add ?_
    obtain ⟨q66, h⟩ := h
    exact TX9_scan_158 hl1 hl2 hl3 hl4 hs0 q66 hj0 h
def PX9_scan_141 (J : Nat → List Int → gS → (Int → gS → Prop) → Prop) (l1 : Int) (l2 : Int) (l3 : Int) (l4 : Int) (G : gS) (Q : Int → gS → Prop) : Prop :=
  PX9_scan_142 J l1 l2 l3 l4 0 G Q
set_option maxRecDepth 20000 in
theorem TX9_scan_141 {j : Nat → rx_K} {J : Nat → List Int → gS → (Int → gS → Prop) → Prop} {l1 : Int} {l2 : Int} {l3 : Int} {l4 : Int} {l5 : Nat} {G : gS} {Q : Int → gS → Prop} (hl1 : inI l1) (hl2 : inI l2) (hl3 : inI l3) (hl4 : inI l4) (hl5 : l5 % 8 ≠ 1) (hj0 : ∀ (l1 : Int) (l2 : Int) (l3 : Nat) (l4 : Nat) (l5 : Nat) (G : gS), (inI l1) → (inI l2) → (l3 % 8 ≠ 1) → (l4 % 8 ≠ 1) → (l5 % 8 ≠ 1) → J 0 [l1, l2] G Q → Tg W0 (j 0) [rf (7), cI (l1), cI (l2), l3, l4, l5] [] G (fun r G => ∃ v, r = cI v ∧ inI v ∧ Q v G)) (h : PX9_scan_141 J l1 l2 l3 l4 G Q) : Tg W0 (vX9_scan_141 j) [rf (7), cI (l1), cI (l2), cI (l3), cI (l4), l5] [] G (fun r G => ∃ v, r = cI v ∧ inI v ∧ Q v G) := by
  unfold PX9_scan_141 at h
  unfold vX9_scan_141
  refine g_const (v := cI (0)) rfl ?_
  exact TX9_scan_142 hl1 hl2 hl3 hl4 hl5 ⟨by omega, by omega⟩ hj0 h
def PX9_scan_107 (J : Nat → List Int → gS → (Int → gS → Prop) → Prop) (l1 : Int) (l2 : Int) (l3 : Int) (l4 : Int) (G : gS) (Q : Int → gS → Prop) : Prop :=
  ((l4 = 61 → (inI (G 7 7) → (inI (l2 + 1) ∧ ((l2 + 1 < G 7 7 → ((G 7 6 = -1 ∨ ∃ n, isA W0 2 n (G 7 6)) → (∃ n58, isA W0 2 n58 (G 7 6) ∧ ((0 : Int) ≤ l2 + 1 ∧ ((l2 + 1 : Int) < n58 ∧ ((-128 ≤ G (G 7 6) (l2 + 1) ∧ G (G 7 6) (l2 + 1) < 128) → ((G (G 7 6) (l2 + 1) = 61 → PX9_scan_142 J l1 l2 l3 l4 1 G Q) ∧ (¬ (G (G 7 6) (l2 + 1) = 61) → PX9_scan_141 J l1 l2 l3 l4 G Q)))))))) ∧ (¬ (l2 + 1 < G 7 7) → PX9_scan_141 J l1 l2 l3 l4 G Q))))) ∧ (¬ (l4 = 61) → PX9_scan_141 J l1 l2 l3 l4 G Q))
set_option maxRecDepth 20000 in
theorem TX9_scan_107 {j : Nat → rx_K} {J : Nat → List Int → gS → (Int → gS → Prop) → Prop} {l1 : Int} {l2 : Int} {l3 : Int} {l4 : Int} {l5 : Nat} {G : gS} {Q : Int → gS → Prop} (hl1 : inI l1) (hl2 : inI l2) (hl3 : inI l3) (hl4 : inI l4) (hl5 : l5 % 8 ≠ 1) (hj0 : ∀ (l1 : Int) (l2 : Int) (l3 : Nat) (l4 : Nat) (l5 : Nat) (G : gS), (inI l1) → (inI l2) → (l3 % 8 ≠ 1) → (l4 % 8 ≠ 1) → (l5 % 8 ≠ 1) → J 0 [l1, l2] G Q → Tg W0 (j 0) [rf (7), cI (l1), cI (l2), l3, l4, l5] [] G (fun r G => ∃ v, r = cI v ∧ inI v ∧ Q v G)) (h : PX9_scan_107 J l1 l2 l3 l4 G Q) : Tg W0 (vX9_scan_107 j) [rf (7), cI (l1), cI (l2), cI (l3), cI (l4), l5] [] G (fun r G => ∃ v, r = cI v ∧ inI v ∧ Q v G) := by
  unfold PX9_scan_107 at h
  unfold vX9_scan_107
  refine g_ld (v := cI _) rfl (is_I _) ?_
  refine g_const (v := cI (61)) rfl ?_
  refine g_eq2 hl4 ⟨by omega, by omega⟩ (fun b53 => ?_) (fun b53 => ?_)
  · replace h := h.1 b53
    unfold vX9_scan_114
    refine g_ld (v := cI _) rfl (is_I _) ?_
    refine g_const (v := cI (1)) rfl ?_
    refine g_add ?_
    refine g_ld (v := rf _) rfl (is_R _) ?_
    refine g_getI (kz := 7) oC9 rfl (Nat.le_of_ble_eq_true rfl) rfl fun i54 => ?_
    replace h := h i54
    obtain ⟨q55, h⟩ := h
    refine g_lt2 q55 i54 (fun b56 => ?_) (fun b56 => ?_)
    · replace h := h.1 b56
      unfold vX9_scan_124
      refine g_ld (v := rf _) rfl (is_R _) ?_
      refine g_getA (kz := 6) (c := 2) oC9 rfl (Nat.le_of_ble_eq_true rfl) rfl fun i57 => ?_
      replace h := h i57
      refine g_ld (v := cI _) rfl (is_I _) ?_
      refine g_const (v := cI (1)) rfl ?_
      refine g_add ?_
      obtain ⟨n58, q59, h⟩ := h
      obtain ⟨q60, q61, h⟩ := h
      refine g_aldB q59 q60 q61 rfl fun i62 => ?_
      replace h := h i62
      refine g_const (v := cI (61)) rfl ?_
      refine g_eq2 ⟨by omega, by omega⟩ ⟨by omega, by omega⟩ (fun b63 => ?_) (fun b63 => ?_)
      · replace h := h.1 b63
        unfold vX9_scan_137
        refine g_const (v := cI (1)) rfl ?_
        exact TX9_scan_142 hl1 hl2 hl3 hl4 hl5 ⟨by omega, by omega⟩ hj0 h
      · replace h := h.2 b63
        exact TX9_scan_141 hl1 hl2 hl3 hl4 hl5 hj0 h
    · replace h := h.2 b56
      exact TX9_scan_141 hl1 hl2 hl3 hl4 hl5 hj0 h
  · replace h := h.2 b53
    exact TX9_scan_141 hl1 hl2 hl3 hl4 hl5 hj0 h
def PX9_scan_84 (J : Nat → List Int → gS → (Int → gS → Prop) → Prop) (l1 : Int) (l2 : Int) (l3 : Int) (l4 : Int) (G : gS) (Q : Int → gS → Prop) : Prop :=
  ((l4 < 48 → PX9_scan_107 J l1 l2 l3 l4 G Q) ∧ (¬ (l4 < 48) → ((57 < l4 → PX9_scan_107 J l1 l2 l3 l4 G Q) ∧ (¬ (57 < l4) → PX9_scanNumber l2 G (fun r35 G34 => inI r35 → PX9_scan_195 J l1 l2 r35 l4 G34 Q)))))
set_option maxRecDepth 20000 in
theorem TX9_scan_84 {j : Nat → rx_K} {J : Nat → List Int → gS → (Int → gS → Prop) → Prop} {l1 : Int} {l2 : Int} {l3 : Int} {l4 : Int} {l5 : Nat} {G : gS} {Q : Int → gS → Prop} (hl1 : inI l1) (hl2 : inI l2) (hl3 : inI l3) (hl4 : inI l4) (hl5 : l5 % 8 ≠ 1) (hj0 : ∀ (l1 : Int) (l2 : Int) (l3 : Nat) (l4 : Nat) (l5 : Nat) (G : gS), (inI l1) → (inI l2) → (l3 % 8 ≠ 1) → (l4 % 8 ≠ 1) → (l5 % 8 ≠ 1) → J 0 [l1, l2] G Q → Tg W0 (j 0) [rf (7), cI (l1), cI (l2), l3, l4, l5] [] G (fun r G => ∃ v, r = cI v ∧ inI v ∧ Q v G)) (h : PX9_scan_84 J l1 l2 l3 l4 G Q) : Tg W0 (vX9_scan_84 j) [rf (7), cI (l1), cI (l2), cI (l3), cI (l4), l5] [] G (fun r G => ∃ v, r = cI v ∧ inI v ∧ Q v G) := by
  unfold PX9_scan_84 at h
  unfold vX9_scan_84
  refine g_ld (v := cI _) rfl (is_I _) ?_
  refine g_const (v := cI (48)) rfl ?_
  refine g_lt2 hl4 ⟨by omega, by omega⟩ (fun b32 => ?_) (fun b32 => ?_)
  · replace h := h.1 b32
    exact TX9_scan_107 hl1 hl2 hl3 hl4 hl5 hj0 h
  · replace h := h.2 b32
    unfold vX9_scan_91
    refine g_ld (v := cI _) rfl (is_I _) ?_
    refine g_const (v := cI (57)) rfl ?_
    refine g_gt2 hl4 ⟨by omega, by omega⟩ (fun b33 => ?_) (fun b33 => ?_)
    · replace h := h.1 b33
      exact TX9_scan_107 hl1 hl2 hl3 hl4 hl5 hj0 h
    · replace h := h.2 b33
      unfold vX9_scan_98
      refine g_ld (v := rf _) rfl (is_R _) ?_
      refine g_ld (v := cI _) rfl (is_I _) ?_
      refine g_callV (As := [_]) (ci := 9) oC9 (fun _ => rfl) ?_
      refine g_go1 (Nat.le_of_ble_eq_true rfl) (Tn_w (TX9_scanNumber hl2 h) fun _ G34 ⟨r35, e, i36, h⟩ => ?_)
      subst e
      refine ⟨n7_I _, ?_⟩
      replace h := h i36
      refine g_st (lv' := [_, _, _, _, _, _]) (is_I _) (Nat.le_of_ble_eq_true rfl) (Or.inr (n1_I _)) rfl ?_
      exact TX9_scan_195 hl1 hl2 i36 hl4 hl5 hj0 h
def PX9_scan_38 (J : Nat → List Int → gS → (Int → gS → Prop) → Prop) (l1 : Int) (l2 : Int) (G : gS) (Q : Int → gS → Prop) : Prop :=
  (inI (G 7 7) → ((l2 < G 7 7 → (inI (l2 + 1) ∧ ((G 7 6 = -1 ∨ ∃ n, isA W0 2 n (G 7 6)) → (∃ n22, isA W0 2 n22 (G 7 6) ∧ ((0 : Int) ≤ l2 ∧ ((l2 : Int) < n22 ∧ ((-128 ≤ G (G 7 6) l2 ∧ G (G 7 6) l2 < 128) → ((G (G 7 6) l2 < 97 → PX9_scan_84 J l1 l2 (l2 + 1) (G (G 7 6) l2) G Q) ∧ (¬ (G (G 7 6) l2 < 97) → ((122 < G (G 7 6) l2 → PX9_scan_84 J l1 l2 (l2 + 1) (G (G 7 6) l2) G Q) ∧ (¬ (122 < G (G 7 6) l2) → PX9_scanName l2 G (fun r30 G29 => inI r30 → PX9_scan_195 J l1 l2 r30 (G (G 7 6) l2) G29 Q)))))))))))) ∧ (¬ (l2 < G 7 7) → Q (-2) G)))
set_option maxRecDepth 20000 in
theorem TX9_scan_38 {j : Nat → rx_K} {J : Nat → List Int → gS → (Int → gS → Prop) → Prop} {l1 : Int} {l2 : Int} {l3 : Nat} {l4 : Nat} {l5 : Nat} {G : gS} {Q : Int → gS → Prop} (hl1 : inI l1) (hl2 : inI l2) (hl3 : l3 % 8 ≠ 1) (hl4 : l4 % 8 ≠ 1) (hl5 : l5 % 8 ≠ 1) (hj0 : ∀ (l1 : Int) (l2 : Int) (l3 : Nat) (l4 : Nat) (l5 : Nat) (G : gS), (inI l1) → (inI l2) → (l3 % 8 ≠ 1) → (l4 % 8 ≠ 1) → (l5 % 8 ≠ 1) → J 0 [l1, l2] G Q → Tg W0 (j 0) [rf (7), cI (l1), cI (l2), l3, l4, l5] [] G (fun r G => ∃ v, r = cI v ∧ inI v ∧ Q v G)) (h : PX9_scan_38 J l1 l2 G Q) : Tg W0 (vX9_scan_38 j) [rf (7), cI (l1), cI (l2), l3, l4, l5] [] G (fun r G => ∃ v, r = cI v ∧ inI v ∧ Q v G) := by
  unfold PX9_scan_38 at h
  unfold vX9_scan_38
  refine g_ld (v := cI _) rfl (is_I _) ?_
  refine g_ld (v := rf _) rfl (is_R _) ?_
  refine g_getI (kz := 7) oC9 rfl (Nat.le_of_ble_eq_true rfl) rfl fun i18 => ?_
  replace h := h i18
  refine g_lt2 hl2 i18 (fun b19 => ?_) (fun b19 => ?_)
  · replace h := h.1 b19
    unfold vX9_scan_49
    refine g_ld (v := cI _) rfl (is_I _) ?_
    refine g_const (v := cI (1)) rfl ?_
    refine g_add ?_
    refine g_st (lv' := [_, _, _, _, _, _]) (is_I _) (Nat.le_of_ble_eq_true rfl) (Or.inr (n1_I _)) rfl ?_
    obtain ⟨q20, h⟩ := h
    refine g_ld (v := rf _) rfl (is_R _) ?_
    refine g_getA (kz := 6) (c := 2) oC9 rfl (Nat.le_of_ble_eq_true rfl) rfl fun i21 => ?_
    replace h := h i21
    refine g_ld (v := cI _) rfl (is_I _) ?_
    obtain ⟨n22, q23, h⟩ := h
    obtain ⟨q24, q25, h⟩ := h
    refine g_aldB q23 q24 q25 rfl fun i26 => ?_
    replace h := h i26
    refine g_st (lv' := [_, _, _, _, _, _]) (is_I _) (Nat.le_of_ble_eq_true rfl) (Or.inr (n1_I _)) rfl ?_
    refine g_ld (v := cI _) rfl (is_I _) ?_
    refine g_const (v := cI (97)) rfl ?_
    refine g_lt2 ⟨by omega, by omega⟩ ⟨by omega, by omega⟩ (fun b27 => ?_) (fun b27 => ?_)
    · replace h := h.1 b27
      exact TX9_scan_84 hl1 hl2 q20 ⟨by omega, by omega⟩ hl5 hj0 h
    · replace h := h.2 b27
      unfold vX9_scan_68
      refine g_ld (v := cI _) rfl (is_I _) ?_
      refine g_const (v := cI (122)) rfl ?_
      refine g_gt2 ⟨by omega, by omega⟩ ⟨by omega, by omega⟩ (fun b28 => ?_) (fun b28 => ?_)
      · replace h := h.1 b28
        exact TX9_scan_84 hl1 hl2 q20 ⟨by omega, by omega⟩ hl5 hj0 h
      · replace h := h.2 b28
        unfold vX9_scan_75
        refine g_ld (v := rf _) rfl (is_R _) ?_
        refine g_ld (v := cI _) rfl (is_I _) ?_
        refine g_callV (As := [_]) (ci := 9) oC9 (fun _ => rfl) ?_
        refine g_go1 (Nat.le_of_ble_eq_true rfl) (Tn_w (TX9_scanName hl2 h) fun _ G29 ⟨r30, e, i31, h⟩ => ?_)
        subst e
        refine ⟨n7_I _, ?_⟩
        replace h := h i31
        refine g_st (lv' := [_, _, _, _, _, _]) (is_I _) (Nat.le_of_ble_eq_true rfl) (Or.inr (n1_I _)) rfl ?_
        exact TX9_scan_195 hl1 hl2 i31 ⟨by omega, by omega⟩ hl5 hj0 h
  · replace h := h.2 b19
    unfold vX9_scan_46
    refine g_const (v := cI (-2)) rfl ?_
    exact g_ret1 (is_I _) ⟨_, rfl, ⟨by omega, by omega⟩, h⟩
def PX9_scan_32 (J : Nat → List Int → gS → (Int → gS → Prop) → Prop) (l1 : Int) (l2 : Int) (G : gS) (Q : Int → gS → Prop) : Prop :=
  (inI (l2 + 1) ∧ J 0 [l1, l2 + 1] G Q)
set_option maxRecDepth 20000 in
theorem TX9_scan_32 {j : Nat → rx_K} {J : Nat → List Int → gS → (Int → gS → Prop) → Prop} {l1 : Int} {l2 : Int} {l3 : Nat} {l4 : Nat} {l5 : Nat} {G : gS} {Q : Int → gS → Prop} (hl1 : inI l1) (hl2 : inI l2) (hl3 : l3 % 8 ≠ 1) (hl4 : l4 % 8 ≠ 1) (hl5 : l5 % 8 ≠ 1) (hj0 : ∀ (l1 : Int) (l2 : Int) (l3 : Nat) (l4 : Nat) (l5 : Nat) (G : gS), (inI l1) → (inI l2) → (l3 % 8 ≠ 1) → (l4 % 8 ≠ 1) → (l5 % 8 ≠ 1) → J 0 [l1, l2] G Q → Tg W0 (j 0) [rf (7), cI (l1), cI (l2), l3, l4, l5] [] G (fun r G => ∃ v, r = cI v ∧ inI v ∧ Q v G)) (h : PX9_scan_32 J l1 l2 G Q) : Tg W0 (vX9_scan_32 j) [rf (7), cI (l1), cI (l2), l3, l4, l5] [] G (fun r G => ∃ v, r = cI v ∧ inI v ∧ Q v G) := by
  unfold PX9_scan_32 at h
  unfold vX9_scan_32
  refine g_inc (lv' := [_, _, _, _, _, _]) rfl (Nat.le_of_ble_eq_true rfl) (Or.inr (n1_I _)) rfl ?_
  obtain ⟨q17, h⟩ := h
  exact hj0 _ _ _ _ _ _ hl1 q17 hl3 hl4 hl5 h
def PX9_scan_2 (J : Nat → List Int → gS → (Int → gS → Prop) → Prop) (l1 : Int) (l2 : Int) (G : gS) (Q : Int → gS → Prop) : Prop :=
  (inI (G 7 7) → ((l2 < G 7 7 → ((G 7 6 = -1 ∨ ∃ n, isA W0 2 n (G 7 6)) → (∃ n4, isA W0 2 n4 (G 7 6) ∧ ((0 : Int) ≤ l2 ∧ ((l2 : Int) < n4 ∧ ((-128 ≤ G (G 7 6) l2 ∧ G (G 7 6) l2 < 128) → ((G (G 7 6) l2 = 10 → PX9_scan_32 J l1 l2 G Q) ∧ (¬ (G (G 7 6) l2 = 10) → ((G 7 6 = -1 ∨ ∃ n, isA W0 2 n (G 7 6)) → (∃ n11, isA W0 2 n11 (G 7 6) ∧ ((0 : Int) ≤ l2 ∧ ((l2 : Int) < n11 ∧ ((-128 ≤ G (G 7 6) l2 ∧ G (G 7 6) l2 < 128) → ((G (G 7 6) l2 = 32 → PX9_scan_32 J l1 l2 G Q) ∧ (¬ (G (G 7 6) l2 = 32) → PX9_scan_38 J l1 l2 G Q))))))))))))))) ∧ (¬ (l2 < G 7 7) → PX9_scan_38 J l1 l2 G Q)))
set_option maxRecDepth 20000 in
theorem TX9_scan_2 {j : Nat → rx_K} {J : Nat → List Int → gS → (Int → gS → Prop) → Prop} {l1 : Int} {l2 : Int} {l3 : Nat} {l4 : Nat} {l5 : Nat} {G : gS} {Q : Int → gS → Prop} (hl1 : inI l1) (hl2 : inI l2) (hl3 : l3 % 8 ≠ 1) (hl4 : l4 % 8 ≠ 1) (hl5 : l5 % 8 ≠ 1) (hj0 : ∀ (l1 : Int) (l2 : Int) (l3 : Nat) (l4 : Nat) (l5 : Nat) (G : gS), (inI l1) → (inI l2) → (l3 % 8 ≠ 1) → (l4 % 8 ≠ 1) → (l5 % 8 ≠ 1) → J 0 [l1, l2] G Q → Tg W0 (j 0) [rf (7), cI (l1), cI (l2), l3, l4, l5] [] G (fun r G => ∃ v, r = cI v ∧ inI v ∧ Q v G)) (h : PX9_scan_2 J l1 l2 G Q) : Tg W0 (vX9_scan_2 j) [rf (7), cI (l1), cI (l2), l3, l4, l5] [] G (fun r G => ∃ v, r = cI v ∧ inI v ∧ Q v G) := by
  unfold PX9_scan_2 at h
  unfold vX9_scan_2
  refine g_ld (v := cI _) rfl (is_I _) ?_
  refine g_ld (v := rf _) rfl (is_R _) ?_
  refine g_getI (kz := 7) oC9 rfl (Nat.le_of_ble_eq_true rfl) rfl fun i1 => ?_
  replace h := h i1
  refine g_lt2 hl2 i1 (fun b2 => ?_) (fun b2 => ?_)
  · replace h := h.1 b2
    unfold vX9_scan_10
    refine g_ld (v := rf _) rfl (is_R _) ?_
    refine g_getA (kz := 6) (c := 2) oC9 rfl (Nat.le_of_ble_eq_true rfl) rfl fun i3 => ?_
    replace h := h i3
    refine g_ld (v := cI _) rfl (is_I _) ?_
    obtain ⟨n4, q5, h⟩ := h
    obtain ⟨q6, q7, h⟩ := h
    refine g_aldB q5 q6 q7 rfl fun i8 => ?_
    replace h := h i8
    refine g_const (v := cI (10)) rfl ?_
    refine g_eq2 ⟨by omega, by omega⟩ ⟨by omega, by omega⟩ (fun b9 => ?_) (fun b9 => ?_)
    · replace h := h.1 b9
      exact TX9_scan_32 hl1 hl2 hl3 hl4 hl5 hj0 h
    · replace h := h.2 b9
      unfold vX9_scan_21
      refine g_ld (v := rf _) rfl (is_R _) ?_
      refine g_getA (kz := 6) (c := 2) oC9 rfl (Nat.le_of_ble_eq_true rfl) rfl fun i10 => ?_
      replace h := h i10
      refine g_ld (v := cI _) rfl (is_I _) ?_
      obtain ⟨n11, q12, h⟩ := h
      obtain ⟨q13, q14, h⟩ := h
      refine g_aldB q12 q13 q14 rfl fun i15 => ?_
      replace h := h i15
      refine g_const (v := cI (32)) rfl ?_
      refine g_eq2 ⟨by omega, by omega⟩ ⟨by omega, by omega⟩ (fun b16 => ?_) (fun b16 => ?_)
      · replace h := h.1 b16
        exact TX9_scan_32 hl1 hl2 hl3 hl4 hl5 hj0 h
      · replace h := h.2 b16
        exact TX9_scan_38 hl1 hl2 hl3 hl4 hl5 hj0 h
  · replace h := h.2 b2
    exact TX9_scan_38 hl1 hl2 hl3 hl4 hl5 hj0 h
def PX9_scan_0 (J : Nat → List Int → gS → (Int → gS → Prop) → Prop) (a1 : Int) (G : gS) (Q : Int → gS → Prop) : Prop :=
  PX9_scan_2 J a1 a1 G Q
set_option maxRecDepth 20000 in
theorem TX9_scan_0 {j : Nat → rx_K} {J : Nat → List Int → gS → (Int → gS → Prop) → Prop} {a1 : Int} {G : gS} {Q : Int → gS → Prop} (ha1 : inI a1) (hj0 : ∀ (l1 : Int) (l2 : Int) (l3 : Nat) (l4 : Nat) (l5 : Nat) (G : gS), (inI l1) → (inI l2) → (l3 % 8 ≠ 1) → (l4 % 8 ≠ 1) → (l5 % 8 ≠ 1) → J 0 [l1, l2] G Q → Tg W0 (j 0) [rf (7), cI (l1), cI (l2), l3, l4, l5] [] G (fun r G => ∃ v, r = cI v ∧ inI v ∧ Q v G)) (h : PX9_scan_0 J a1 G Q) : Tg W0 (vX9_scan_0 j) [rf (7), cI (a1), 7, 7, 7, 7] [] G (fun r G => ∃ v, r = cI v ∧ inI v ∧ Q v G) := by
  unfold PX9_scan_0 at h
  unfold vX9_scan_0
  refine g_ld (v := cI _) rfl (is_I _) ?_
  refine g_st (lv' := [_, _, _, _, _, _]) (is_I _) (Nat.le_of_ble_eq_true rfl) (Or.inr (n1_I _)) rfl ?_
  exact TX9_scan_2 ha1 ha1 (show 7 % 8 ≠ 1 by decide) (show 7 % 8 ≠ 1 by decide) (show 7 % 8 ≠ 1 by decide) hj0 h
def PX9_scan_J : Nat → Nat → List Int → gS → (Int → gS → Prop) → Prop
  | 0, _, _, _, _ => False
  | f + 1, h, L, G, Q => match h, L with
    | 0, [l1, l2] => PX9_scan_2 (PX9_scan_J f) l1 l2 G Q
    | _, _ => False
theorem TX9_scan_J {Q : Int → gS → Prop} : ∀ f N : Nat, f ≤ N → (∀ (l1 : Int) (l2 : Int) (l3 : Nat) (l4 : Nat) (l5 : Nat) (G : gS), (inI l1) → (inI l2) → (l3 % 8 ≠ 1) → (l4 % 8 ≠ 1) → (l5 % 8 ≠ 1) → (PX9_scan_J f) 0 [l1, l2] G Q → Tg W0 (rx_J vhX9_scan N 0) [rf (7), cI (l1), cI (l2), l3, l4, l5] [] G (fun r G => ∃ v, r = cI v ∧ inI v ∧ Q v G)) := by
  intro f
  induction f with
  | zero => exact fun N _ => fun _ _ _ _ _ _ _ _ _ _ _ h => h.elim
  | succ f ih =>
    intro N hN
    obtain ⟨M, rfl⟩ : ∃ M, N = M + 1 := ⟨N - 1, by omega⟩
    have ih := ih M (by omega)
    exact fun _ _ _ _ _ _ hl1 hl2 hl3 hl4 hl5 h => show Tg W0 (vX9_scan_2 (rx_J vhX9_scan M)) _ _ _ _ from TX9_scan_2 hl1 hl2 hl3 hl4 hl5 ih h
def PX9_scan (a1 : Int) (G : gS) (Q : Int → gS → Prop) : Prop := ∃ f : Nat, f ≤ 4000000000 ∧ PX9_scan_0 (PX9_scan_J f) a1 G Q
theorem TX9_scan {a1 : Int} {G : gS} {Q : Int → gS → Prop} (ha1 : inI a1) (h : PX9_scan a1 G Q) : Tn W0 FX9_scan [rf (7), cI (a1)] G (fun r G => ∃ v, r = cI v ∧ inI v ∧ Q v G) := by
  obtain ⟨f, hf, h⟩ := h
  have hJ := TX9_scan_J (Q := Q) f 4000000000 hf
  unfold FX9_scan
  refine g_ent (lv' := [rf (7), cI (a1), 7, 7, 7, 7]) (flR (flI fl0)) (Nat.le_of_ble_eq_true rfl) rfl ?_
  exact TX9_scan_0 ha1 hJ h
def PX9_keep_0  (G : gS) (Q : Int → gS → Prop) : Prop :=
  ((G 7 6 = -1 ∨ ∃ n, isA W0 2 n (G 7 6)) → ((G 7 11 = -1 ∨ isO W0 1 (G 7 11)) → (isO W0 1 (G 7 11) ∧ (((G (G 7 11) 6 = -1 ∨ ∃ n, isA W0 2 n (G (G 7 11) 6)) ∧ ∀ v, W0.2 (G 7 11) 6 = some v → G (G 7 11) 6 = v) → (inI (G 7 7) → ((G 7 11 = -1 ∨ isO W0 1 (G 7 11)) → (isO W0 1 (G 7 11) ∧ (((G (G 7 11) 6 = -1 ∨ ∃ n, isA W0 2 n (G (G 7 11) 6)) ∧ ∀ v, W0.2 (G 7 11) 6 = some v → G (G 7 11) 6 = v) → (∃ n9, isA W0 2 n9 (G (G 7 11) 6) ∧ (inI (n9) ∧ (∃ n12, isA W0 2 n12 (G 7 6) ∧ (∃ n14, isA W0 2 n14 (G (G 7 11) 6) ∧ ((0 : Int) ≤ 0 ∧ ((0 + ((if n9 < G 7 7 then n9 else G 7 7)) : Int) ≤ n12 ∧ ((0 : Int) ≤ 0 ∧ ((0 + ((if n9 < G 7 7 then n9 else G 7 7)) : Int) ≤ n14 ∧ ((0 : Int) ≤ (if n9 < G 7 7 then n9 else G 7 7) ∧ (∀ G21 : gS, G21 = cpG G (G 7 6) 0 (G (G 7 11) 6) 0 ((if n9 < G 7 7 then n9 else G 7 7)) → ((G21 7 11 = -1 ∨ isO W0 1 (G21 7 11)) → (inI (G21 7 7) → (isO W0 1 (G21 7 11) ∧ (∀ G25 : gS, G25 = uG G21 (G21 7 11) 7 (G21 7 7) → ((G25 7 11 = -1 ∨ isO W0 1 (G25 7 11)) → (isO W0 1 (G25 7 11) ∧ (((G25 (G25 7 11) 8 = -1 ∨ ∃ n, isA W0 0 n (G25 (G25 7 11) 8)) ∧ ∀ v, W0.2 (G25 7 11) 8 = some v → G25 (G25 7 11) 8 = v) → (inI (G25 7 5) → ((G25 7 11 = -1 ∨ isO W0 1 (G25 7 11)) → (isO W0 1 (G25 7 11) ∧ (((G25 (G25 7 11) 8 = -1 ∨ ∃ n, isA W0 0 n (G25 (G25 7 11) 8)) ∧ ∀ v, W0.2 (G25 7 11) 8 = some v → G25 (G25 7 11) 8 = v) → (∃ n33, isA W0 0 n33 (G25 (G25 7 11) 8) ∧ (inI (n33) ∧ (∃ n36, isA W0 0 n36 (G25 (G25 7 11) 8) ∧ ((0 : Int) ≤ 0 ∧ ((0 + ((if n33 < G25 7 5 then n33 else G25 7 5)) : Int) ≤ 704 ∧ ((0 : Int) ≤ 0 ∧ ((0 + ((if n33 < G25 7 5 then n33 else G25 7 5)) : Int) ≤ n36 ∧ ((0 : Int) ≤ (if n33 < G25 7 5 then n33 else G25 7 5) ∧ (∀ G43 : gS, G43 = cpG G25 10 0 (G25 (G25 7 11) 8) 0 ((if n33 < G25 7 5 then n33 else G25 7 5)) → ((G43 7 11 = -1 ∨ isO W0 1 (G43 7 11)) → (isO W0 1 (G43 7 11) ∧ (((G43 (G43 7 11) 9 = -1 ∨ ∃ n, isA W0 0 n (G43 (G43 7 11) 9)) ∧ ∀ v, W0.2 (G43 7 11) 9 = some v → G43 (G43 7 11) 9 = v) → (inI (G43 7 5) → ((G43 7 11 = -1 ∨ isO W0 1 (G43 7 11)) → (isO W0 1 (G43 7 11) ∧ (((G43 (G43 7 11) 9 = -1 ∨ ∃ n, isA W0 0 n (G43 (G43 7 11) 9)) ∧ ∀ v, W0.2 (G43 7 11) 9 = some v → G43 (G43 7 11) 9 = v) → (∃ n51, isA W0 0 n51 (G43 (G43 7 11) 9) ∧ (inI (n51) ∧ (∃ n54, isA W0 0 n54 (G43 (G43 7 11) 9) ∧ ((0 : Int) ≤ 0 ∧ ((0 + ((if n51 < G43 7 5 then n51 else G43 7 5)) : Int) ≤ 704 ∧ ((0 : Int) ≤ 0 ∧ ((0 + ((if n51 < G43 7 5 then n51 else G43 7 5)) : Int) ≤ n54 ∧ ((0 : Int) ≤ (if n51 < G43 7 5 then n51 else G43 7 5) ∧ (∀ G61 : gS, G61 = cpG G43 11 0 (G43 (G43 7 11) 9) 0 ((if n51 < G43 7 5 then n51 else G43 7 5)) → Q 0 G61))))))))))))))))))))))))))))))))))))))))))))))))))))))
set_option maxRecDepth 20000 in
theorem TX9_keep_0  {G : gS} {Q : Int → gS → Prop}  (h : PX9_keep_0  G Q) : Tg W0 vX9_keep_0 [rf (7)] [] G (fun r G => r = 7 ∧ Q 0 G) := by
  unfold PX9_keep_0 at h
  unfold vX9_keep_0
  refine g_ld (v := rf _) rfl (is_R _) ?_
  refine g_getA (kz := 6) (c := 2) oC9 rfl (Nat.le_of_ble_eq_true rfl) rfl fun i1 => ?_
  replace h := h i1
  refine g_const (v := cI (0)) rfl ?_
  refine g_ld (v := rf _) rfl (is_R _) ?_
  refine g_getR (kz := 11) (c := 1) oC9 rfl (Nat.le_of_ble_eq_true rfl) rfl (by decide) fun i2 => ?_
  replace h := h i2
  obtain ⟨q3, h⟩ := h
  refine g_getAF (kz := 6) (c := 2) q3 rfl (Nat.le_of_ble_eq_true rfl) rfl fun i4 => ?_
  replace h := h i4
  refine g_const (v := cI (0)) rfl ?_
  refine g_ld (v := rf _) rfl (is_R _) ?_
  refine g_getI (kz := 7) oC9 rfl (Nat.le_of_ble_eq_true rfl) rfl fun i5 => ?_
  replace h := h i5
  refine g_ld (v := rf _) rfl (is_R _) ?_
  refine g_getR (kz := 11) (c := 1) oC9 rfl (Nat.le_of_ble_eq_true rfl) rfl (by decide) fun i6 => ?_
  replace h := h i6
  obtain ⟨q7, h⟩ := h
  refine g_getAF (kz := 6) (c := 2) q7 rfl (Nat.le_of_ble_eq_true rfl) rfl fun i8 => ?_
  replace h := h i8
  obtain ⟨n9, q10, h⟩ := h
  refine g_alen q10 ?_
  obtain ⟨q11, h⟩ := h
  refine g_min i5 q11 (by simp only [cs_c, cs_0, ct_I, ct_L, ct_R]; exact Nat.le_of_ble_eq_true rfl) ?_
  obtain ⟨n12, q13, h⟩ := h
  obtain ⟨n14, q15, h⟩ := h
  obtain ⟨q16, q17, q18, q19, q20, h⟩ := h
  refine g_copyB q13 q15 q16 q17 q18 q19 q20 (Nat.le_of_ble_eq_true rfl) (fun _ => nfB q15) ?_
  replace h := h _ rfl
  refine g_ld (v := rf _) rfl (is_R _) ?_
  refine g_getR (kz := 11) (c := 1) oC9 rfl (Nat.le_of_ble_eq_true rfl) rfl (by decide) fun i22 => ?_
  replace h := h i22
  refine g_ld (v := rf _) rfl (is_R _) ?_
  refine g_getI (kz := 7) oC9 rfl (Nat.le_of_ble_eq_true rfl) rfl fun i23 => ?_
  replace h := h i23
  obtain ⟨q24, h⟩ := h
  refine g_putI (kz := 7) q24 rfl (Nat.le_of_ble_eq_true rfl) rfl i23 (nf1_7 q24) ?_
  replace h := h _ rfl
  refine g_ld (v := rf _) rfl (is_R _) ?_
  refine g_getF (v := 10) oC9 (hC9_2) rfl (Nat.le_of_ble_eq_true rfl) (Nat.le_of_ble_eq_true rfl) ?_
  refine g_const (v := cI (0)) rfl ?_
  refine g_ld (v := rf _) rfl (is_R _) ?_
  unfold vX9_keep_48
  refine g_getR (kz := 11) (c := 1) oC9 rfl (Nat.le_of_ble_eq_true rfl) rfl (by decide) fun i26 => ?_
  replace h := h i26
  obtain ⟨q27, h⟩ := h
  refine g_getAF (kz := 8) (c := 0) q27 rfl (Nat.le_of_ble_eq_true rfl) rfl fun i28 => ?_
  replace h := h i28
  refine g_const (v := cI (0)) rfl ?_
  refine g_ld (v := rf _) rfl (is_R _) ?_
  refine g_getI (kz := 5) oC9 rfl (Nat.le_of_ble_eq_true rfl) rfl fun i29 => ?_
  replace h := h i29
  refine g_ld (v := rf _) rfl (is_R _) ?_
  refine g_getR (kz := 11) (c := 1) oC9 rfl (Nat.le_of_ble_eq_true rfl) rfl (by decide) fun i30 => ?_
  replace h := h i30
  obtain ⟨q31, h⟩ := h
  refine g_getAF (kz := 8) (c := 0) q31 rfl (Nat.le_of_ble_eq_true rfl) rfl fun i32 => ?_
  replace h := h i32
  obtain ⟨n33, q34, h⟩ := h
  refine g_alen q34 ?_
  obtain ⟨q35, h⟩ := h
  refine g_min i29 q35 (by simp only [cs_c, cs_0, ct_I, ct_L, ct_R]; exact Nat.le_of_ble_eq_true rfl) ?_
  obtain ⟨n36, q37, h⟩ := h
  obtain ⟨q38, q39, q40, q41, q42, h⟩ := h
  refine g_copyI aC10 q37 q38 q39 q40 q41 q42 (Nat.le_of_ble_eq_true rfl) (fun _ => nfI q37) ?_
  replace h := h _ rfl
  refine g_ld (v := rf _) rfl (is_R _) ?_
  refine g_getF (v := 11) oC9 (hC9_3) rfl (Nat.le_of_ble_eq_true rfl) (Nat.le_of_ble_eq_true rfl) ?_
  refine g_const (v := cI (0)) rfl ?_
  refine g_ld (v := rf _) rfl (is_R _) ?_
  refine g_getR (kz := 11) (c := 1) oC9 rfl (Nat.le_of_ble_eq_true rfl) rfl (by decide) fun i44 => ?_
  replace h := h i44
  obtain ⟨q45, h⟩ := h
  refine g_getAF (kz := 9) (c := 0) q45 rfl (Nat.le_of_ble_eq_true rfl) rfl fun i46 => ?_
  replace h := h i46
  refine g_const (v := cI (0)) rfl ?_
  refine g_ld (v := rf _) rfl (is_R _) ?_
  refine g_getI (kz := 5) oC9 rfl (Nat.le_of_ble_eq_true rfl) rfl fun i47 => ?_
  replace h := h i47
  refine g_ld (v := rf _) rfl (is_R _) ?_
  refine g_getR (kz := 11) (c := 1) oC9 rfl (Nat.le_of_ble_eq_true rfl) rfl (by decide) fun i48 => ?_
  replace h := h i48
  obtain ⟨q49, h⟩ := h
  refine g_getAF (kz := 9) (c := 0) q49 rfl (Nat.le_of_ble_eq_true rfl) rfl fun i50 => ?_
  replace h := h i50
  obtain ⟨n51, q52, h⟩ := h
  refine g_alen q52 ?_
  unfold vX9_keep_98
  obtain ⟨q53, h⟩ := h
  refine g_min i47 q53 (by simp only [cs_c, cs_0, ct_I, ct_L, ct_R]; exact Nat.le_of_ble_eq_true rfl) ?_
  obtain ⟨n54, q55, h⟩ := h
  obtain ⟨q56, q57, q58, q59, q60, h⟩ := h
  refine g_copyI aC11 q55 q56 q57 q58 q59 q60 (Nat.le_of_ble_eq_true rfl) (fun _ => nfI q55) ?_
  replace h := h _ rfl
  exact g_ret0 ⟨rfl, h⟩
abbrev PX9_keep  (G : gS) (Q : Int → gS → Prop) : Prop := PX9_keep_0  G Q
theorem TX9_keep  {G : gS} {Q : Int → gS → Prop}  (h : PX9_keep  G Q) : Tn W0 FX9_keep [rf (7)] G (fun r G => r = 7 ∧ Q 0 G) := by
  unfold FX9_keep
  refine g_ent (lv' := [rf (7)]) (flR fl0) (Nat.le_of_ble_eq_true rfl) rfl ?_
  exact TX9_keep_0  h
def PX11_openMaker_0 (a0 : Int) (G : gS) (Q : Int → gS → Prop) : Prop :=
  (isO W0 7 (a0) ∧ (∀ G2 : gS, G2 = uG G a0 0 (2) → (∀ G3 : gS, G3 = uG G2 a0 1 (3) → Q (a0) G3)))
set_option maxRecDepth 20000 in
theorem TX11_openMaker_0 {a0 : Int} {G : gS} {Q : Int → gS → Prop}  (h : PX11_openMaker_0 a0 G Q) : Tg W0 vX11_openMaker_0 [rf (a0)] [] G (fun r G => ∃ v, r = rf v ∧ Q v G) := by
  unfold PX11_openMaker_0 at h
  unfold vX11_openMaker_0
  refine g_ld (v := rf _) rfl (is_R _) ?_
  refine g_const (v := cI (2)) rfl ?_
  obtain ⟨q1, h⟩ := h
  refine g_putI (kz := 0) q1 rfl (Nat.le_of_ble_eq_true rfl) rfl ⟨by omega, by omega⟩ (nf7_0 q1) ?_
  replace h := h _ rfl
  refine g_ld (v := rf _) rfl (is_R _) ?_
  refine g_const (v := cI (3)) rfl ?_
  refine g_putI (kz := 1) q1 rfl (Nat.le_of_ble_eq_true rfl) rfl ⟨by omega, by omega⟩ (nf7_1 q1) ?_
  replace h := h _ rfl
  refine g_ld (v := rf _) rfl (is_R _) ?_
  exact g_ret1 (is_R _) ⟨_, rfl, h⟩
abbrev PX11_openMaker (a0 : Int) (G : gS) (Q : Int → gS → Prop) : Prop := PX11_openMaker_0 a0 G Q
theorem TX11_openMaker {a0 : Int} {G : gS} {Q : Int → gS → Prop}  (h : PX11_openMaker a0 G Q) : Tn W0 FX11_openMaker [rf (a0)] G (fun r G => ∃ v, r = rf v ∧ Q v G) := by
  unfold FX11_openMaker
  refine g_ent (lv' := [rf (a0)]) (flR fl0) (Nat.le_of_ble_eq_true rfl) rfl ?_
  exact TX11_openMaker_0  h
def PX11_clear_0 (o : Int) (G : gS) (Q : Int → gS → Prop) : Prop :=
  (isO W0 11 (o) ∧ (∀ G2 : gS, G2 = uG G o 2 (2) → (((G2 (o + 15) 2 = -1 ∨ ∃ n, isA W0 4 n (G2 (o + 15) 2)) ∧ ∀ v, W0.2 (o + 15) 2 = some v → G2 (o + 15) 2 = v) → (∃ n4, isA W0 4 n4 (G2 (o + 15) 2) ∧ ((0 : Int) ≤ 0 ∧ ((0 : Int) < n4 ∧ (((G2 (G2 (o + 15) 2) 0 = -1 ∨ isO W0 10 (G2 (G2 (o + 15) 2) 0)) ∧ ∀ v, W0.2 (G2 (o + 15) 2) 0 = some v → G2 (G2 (o + 15) 2) 0 = v) → ((0 : Int) ≤ 0 ∧ ((0 : Int) < 64 ∧ (W0.2 (o + 1) 0 = none ∧ ((G2 (G2 (o + 15) 2) 0 = -1 ∨ isO W0 10 (G2 (G2 (o + 15) 2) 0)) ∧ (∀ G13 : gS, G13 = uG G2 (o + 1) 0 (G2 (G2 (o + 15) 2) 0) → (((G13 (o + 15) 2 = -1 ∨ ∃ n, isA W0 4 n (G13 (o + 15) 2)) ∧ ∀ v, W0.2 (o + 15) 2 = some v → G13 (o + 15) 2 = v) → (∃ n15, isA W0 4 n15 (G13 (o + 15) 2) ∧ ((0 : Int) ≤ 1 ∧ ((1 : Int) < n15 ∧ (((G13 (G13 (o + 15) 2) 1 = -1 ∨ isO W0 10 (G13 (G13 (o + 15) 2) 1)) ∧ ∀ v, W0.2 (G13 (o + 15) 2) 1 = some v → G13 (G13 (o + 15) 2) 1 = v) → ((0 : Int) ≤ 1 ∧ ((1 : Int) < 64 ∧ (W0.2 (o + 1) 1 = none ∧ ((G13 (G13 (o + 15) 2) 1 = -1 ∨ isO W0 10 (G13 (G13 (o + 15) 2) 1)) ∧ (∀ G24 : gS, G24 = uG G13 (o + 1) 1 (G13 (G13 (o + 15) 2) 1) → Q 0 G24))))))))))))))))))))))
set_option maxRecDepth 20000 in
theorem TX11_clear_0 {o : Int} {G : gS} {Q : Int → gS → Prop}  (h : PX11_clear_0 o G Q) : Tg W0 vX11_clear_0 [rf (o)] [] G (fun r G => r = 7 ∧ Q 0 G) := by
  unfold PX11_clear_0 at h
  unfold vX11_clear_0
  refine g_ld (v := rf _) rfl (is_R _) ?_
  refine g_const (v := cI (2)) rfl ?_
  obtain ⟨q1, h⟩ := h
  refine g_putI (kz := 2) q1 rfl (Nat.le_of_ble_eq_true rfl) rfl ⟨by omega, by omega⟩ (nf11_2 q1) ?_
  replace h := h _ rfl
  refine g_ld (v := rf _) rfl (is_R _) ?_
  refine g_getF q1 (ff11_1 q1).1 rfl (Nat.le_of_ble_eq_true rfl) (Nat.le_of_ble_eq_true rfl) ?_
  refine g_const (v := cI (0)) rfl ?_
  refine g_ld (v := rf _) rfl (is_R _) ?_
  refine g_getF q1 (ff11_0 q1).1 rfl (Nat.le_of_ble_eq_true rfl) (Nat.le_of_ble_eq_true rfl) ?_
  refine g_getAF (kz := 2) (c := 4) (ff11_0 q1).2 rfl (Nat.le_of_ble_eq_true rfl) rfl fun i3 => ?_
  replace h := h i3
  refine g_const (v := cI (0)) rfl ?_
  obtain ⟨n4, q5, h⟩ := h
  obtain ⟨q6, q7, h⟩ := h
  refine g_aldRF (c := 10) q5 q6 q7 rfl (by decide) fun i8 => ?_
  replace h := h i8
  obtain ⟨q9, q10, q11, h⟩ := h
  obtain ⟨q12, h⟩ := h
  refine g_aastR (c := 10) (ff11_1 q1).2 q9 q10 rfl (by decide) q12 q11 ?_
  replace h := h _ rfl
  refine g_ld (v := rf _) rfl (is_R _) ?_
  refine g_getF q1 (ff11_1 q1).1 rfl (Nat.le_of_ble_eq_true rfl) (Nat.le_of_ble_eq_true rfl) ?_
  refine g_const (v := cI (1)) rfl ?_
  refine g_ld (v := rf _) rfl (is_R _) ?_
  refine g_getF q1 (ff11_0 q1).1 rfl (Nat.le_of_ble_eq_true rfl) (Nat.le_of_ble_eq_true rfl) ?_
  refine g_getAF (kz := 2) (c := 4) (ff11_0 q1).2 rfl (Nat.le_of_ble_eq_true rfl) rfl fun i14 => ?_
  replace h := h i14
  refine g_const (v := cI (1)) rfl ?_
  obtain ⟨n15, q16, h⟩ := h
  obtain ⟨q17, q18, h⟩ := h
  refine g_aldRF (c := 10) q16 q17 q18 rfl (by decide) fun i19 => ?_
  replace h := h i19
  obtain ⟨q20, q21, q22, h⟩ := h
  obtain ⟨q23, h⟩ := h
  refine g_aastR (c := 10) (ff11_1 q1).2 q20 q21 rfl (by decide) q23 q22 ?_
  replace h := h _ rfl
  exact g_ret0 ⟨rfl, h⟩
abbrev PX11_clear (o : Int) (G : gS) (Q : Int → gS → Prop) : Prop := PX11_clear_0 o G Q
theorem TX11_clear {o : Int} {G : gS} {Q : Int → gS → Prop}  (h : PX11_clear o G Q) : Tn W0 FX11_clear [rf (o)] G (fun r G => r = 7 ∧ Q 0 G) := by
  unfold FX11_clear
  refine g_ent (lv' := [rf (o)]) (flR fl0) (Nat.le_of_ble_eq_true rfl) rfl ?_
  exact TX11_clear_0  h
def PX11_enter_115 (J : Nat → List Int → gS → (Int → gS → Prop) → Prop) (o : Int) (l1 : Int) (l2 : Int) (G : gS) (Q : Int → gS → Prop) : Prop :=
  Q 0 G
set_option maxRecDepth 20000 in
theorem TX11_enter_115 {j : Nat → rx_K} {J : Nat → List Int → gS → (Int → gS → Prop) → Prop} {o : Int} {l1 : Int} {l2 : Int} {l3 : Nat} {l4 : Nat} {G : gS} {Q : Int → gS → Prop} (hl2 : inI l2) (hl3 : l3 % 8 ≠ 1) (hl4 : l4 % 8 ≠ 1) (hj0 : ∀ (o : Int) (l1 : Int) (l2 : Int) (l3 : Nat) (l4 : Nat) (G : gS), (inI l2) → (l3 % 8 ≠ 1) → (l4 % 8 ≠ 1) → J 0 [o, l1, l2] G Q → Tg W0 (j 0) [rf (o), rf (l1), cI (l2), l3, l4] [] G (fun r G => r = 7 ∧ Q 0 G)) (hj1 : ∀ (o : Int) (l1 : Int) (l2 : Int) (l3 : Int) (l4 : Int) (G : gS), (inI l2) → (inI l3) → (inI l4) → J 1 [o, l1, l2, l3, l4] G Q → Tg W0 (j 1) [rf (o), rf (l1), cI (l2), cI (l3), cI (l4)] [] G (fun r G => r = 7 ∧ Q 0 G)) (h : PX11_enter_115 J o l1 l2 G Q) : Tg W0 (vX11_enter_115 j) [rf (o), rf (l1), cI (l2), l3, l4] [] G (fun r G => r = 7 ∧ Q 0 G) := by
  unfold PX11_enter_115 at h
  unfold vX11_enter_115
  exact g_ret0 ⟨rfl, h⟩
def PX11_enter_109 (J : Nat → List Int → gS → (Int → gS → Prop) → Prop) (o : Int) (l1 : Int) (l2 : Int) (l3 : Int) (l4 : Int) (G : gS) (Q : Int → gS → Prop) : Prop :=
  (inI (l2 + 1) ∧ J 0 [o, l1, l2 + 1] G Q)
set_option maxRecDepth 20000 in
theorem TX11_enter_109 {j : Nat → rx_K} {J : Nat → List Int → gS → (Int → gS → Prop) → Prop} {o : Int} {l1 : Int} {l2 : Int} {l3 : Int} {l4 : Int} {G : gS} {Q : Int → gS → Prop} (hl2 : inI l2) (hl3 : inI l3) (hl4 : inI l4) (hj0 : ∀ (o : Int) (l1 : Int) (l2 : Int) (l3 : Nat) (l4 : Nat) (G : gS), (inI l2) → (l3 % 8 ≠ 1) → (l4 % 8 ≠ 1) → J 0 [o, l1, l2] G Q → Tg W0 (j 0) [rf (o), rf (l1), cI (l2), l3, l4] [] G (fun r G => r = 7 ∧ Q 0 G)) (hj1 : ∀ (o : Int) (l1 : Int) (l2 : Int) (l3 : Int) (l4 : Int) (G : gS), (inI l2) → (inI l3) → (inI l4) → J 1 [o, l1, l2, l3, l4] G Q → Tg W0 (j 1) [rf (o), rf (l1), cI (l2), cI (l3), cI (l4)] [] G (fun r G => r = 7 ∧ Q 0 G)) (h : PX11_enter_109 J o l1 l2 l3 l4 G Q) : Tg W0 (vX11_enter_109 j) [rf (o), rf (l1), cI (l2), cI (l3), cI (l4)] [] G (fun r G => r = 7 ∧ Q 0 G) := by
  unfold PX11_enter_109 at h
  unfold vX11_enter_109
  refine g_inc (lv' := [_, _, _, _, _]) rfl (Nat.le_of_ble_eq_true rfl) (Or.inr (n1_R _)) rfl ?_
  obtain ⟨q46, h⟩ := h
  exact hj0 _ _ _ _ _ _ q46 (n1_I _) (n1_I _) h
def PX11_enter_80 (J : Nat → List Int → gS → (Int → gS → Prop) → Prop) (o : Int) (l1 : Int) (l2 : Int) (l3 : Int) (l4 : Int) (G : gS) (Q : Int → gS → Prop) : Prop :=
  ((l3 = 0 → (isO W0 11 (o) ∧ (inI (G o 2) → (isO W0 1 (l1) ∧ (((G l1 2 = -1 ∨ ∃ n, isA W0 4 n (G l1 2)) ∧ ∀ v, W0.2 l1 2 = some v → G l1 2 = v) → (∃ n33, isA W0 4 n33 (G l1 2) ∧ ((0 : Int) ≤ l2 ∧ ((l2 : Int) < n33 ∧ (((G (G l1 2) l2 = -1 ∨ isO W0 10 (G (G l1 2) l2)) ∧ ∀ v, W0.2 (G l1 2) l2 = some v → G (G l1 2) l2 = v) → ((0 : Int) ≤ G o 2 ∧ ((G o 2 : Int) < 64 ∧ (W0.2 (o + 1) (G o 2) = none ∧ ((G (G l1 2) l2 = -1 ∨ isO W0 10 (G (G l1 2) l2)) ∧ (∀ G42 : gS, G42 = uG G (o + 1) (G o 2) (G (G l1 2) l2) → (inI (G42 o 2) → (inI ((G42 o 2) + 1) ∧ (∀ G45 : gS, G45 = uG G42 o 2 ((G42 o 2) + 1) → PX11_enter_109 J o l1 l2 l3 l4 G45 Q))))))))))))))))) ∧ (¬ (l3 = 0) → PX11_enter_109 J o l1 l2 l3 l4 G Q))
set_option maxRecDepth 20000 in
theorem TX11_enter_80 {j : Nat → rx_K} {J : Nat → List Int → gS → (Int → gS → Prop) → Prop} {o : Int} {l1 : Int} {l2 : Int} {l3 : Int} {l4 : Int} {G : gS} {Q : Int → gS → Prop} (hl2 : inI l2) (hl3 : inI l3) (hl4 : inI l4) (hj0 : ∀ (o : Int) (l1 : Int) (l2 : Int) (l3 : Nat) (l4 : Nat) (G : gS), (inI l2) → (l3 % 8 ≠ 1) → (l4 % 8 ≠ 1) → J 0 [o, l1, l2] G Q → Tg W0 (j 0) [rf (o), rf (l1), cI (l2), l3, l4] [] G (fun r G => r = 7 ∧ Q 0 G)) (hj1 : ∀ (o : Int) (l1 : Int) (l2 : Int) (l3 : Int) (l4 : Int) (G : gS), (inI l2) → (inI l3) → (inI l4) → J 1 [o, l1, l2, l3, l4] G Q → Tg W0 (j 1) [rf (o), rf (l1), cI (l2), cI (l3), cI (l4)] [] G (fun r G => r = 7 ∧ Q 0 G)) (h : PX11_enter_80 J o l1 l2 l3 l4 G Q) : Tg W0 (vX11_enter_80 j) [rf (o), rf (l1), cI (l2), cI (l3), cI (l4)] [] G (fun r G => r = 7 ∧ Q 0 G) := by
  unfold PX11_enter_80 at h
  unfold vX11_enter_80
  refine g_ld (v := cI _) rfl (is_I _) ?_
  refine g_eq1 hl3 (fun b28 => ?_) (fun b28 => ?_)
  · replace h := h.1 b28
    unfold vX11_enter_84
    refine g_ld (v := rf _) rfl (is_R _) ?_
    obtain ⟨q29, h⟩ := h
    refine g_getF q29 (ff11_1 q29).1 rfl (Nat.le_of_ble_eq_true rfl) (Nat.le_of_ble_eq_true rfl) ?_
    refine g_ld (v := rf _) rfl (is_R _) ?_
    refine g_getI (kz := 2) q29 rfl (Nat.le_of_ble_eq_true rfl) rfl fun i30 => ?_
    replace h := h i30
    refine g_ld (v := rf _) rfl (is_R _) ?_
    obtain ⟨q31, h⟩ := h
    refine g_getAF (kz := 2) (c := 4) q31 rfl (Nat.le_of_ble_eq_true rfl) rfl fun i32 => ?_
    replace h := h i32
    refine g_ld (v := cI _) rfl (is_I _) ?_
    obtain ⟨n33, q34, h⟩ := h
    obtain ⟨q35, q36, h⟩ := h
    refine g_aldRF (c := 10) q34 q35 q36 rfl (by decide) fun i37 => ?_
    replace h := h i37
    obtain ⟨q38, q39, q40, h⟩ := h
    obtain ⟨q41, h⟩ := h
    refine g_aastR (c := 10) (ff11_1 q29).2 q38 q39 rfl (by decide) q41 q40 ?_
    replace h := h _ rfl
    refine g_ld (v := rf _) rfl (is_R _) ?_
    refine g_dup (ct_R _) ?_
    refine g_getI (kz := 2) q29 rfl (Nat.le_of_ble_eq_true rfl) rfl fun i43 => ?_
    replace h := h i43
    refine g_const (v := cI (1)) rfl ?_
    refine g_add ?_
    obtain ⟨q44, h⟩ := h
    refine g_putI (kz := 2) q29 rfl (Nat.le_of_ble_eq_true rfl) rfl q44 (nf11_2 q29) ?_
    replace h := h _ rfl
    exact TX11_enter_109 hl2 hl3 hl4 hj0 hj1 h
  · replace h := h.2 b28
    exact TX11_enter_109 hl2 hl3 hl4 hj0 hj1 h
def PX11_enter_73 (J : Nat → List Int → gS → (Int → gS → Prop) → Prop) (o : Int) (l1 : Int) (l2 : Int) (l3 : Int) (l4 : Int) (s0 : Int) (G : gS) (Q : Int → gS → Prop) : Prop :=
  (inI (l4 + 1) ∧ J 1 [o, l1, l2, s0, l4 + 1] G Q)
set_option maxRecDepth 20000 in
theorem TX11_enter_73 {j : Nat → rx_K} {J : Nat → List Int → gS → (Int → gS → Prop) → Prop} {o : Int} {l1 : Int} {l2 : Int} {l3 : Int} {l4 : Int} {s0 : Int} {G : gS} {Q : Int → gS → Prop} (hl2 : inI l2) (hl3 : inI l3) (hl4 : inI l4) (hs0 : inI s0) (hj0 : ∀ (o : Int) (l1 : Int) (l2 : Int) (l3 : Nat) (l4 : Nat) (G : gS), (inI l2) → (l3 % 8 ≠ 1) → (l4 % 8 ≠ 1) → J 0 [o, l1, l2] G Q → Tg W0 (j 0) [rf (o), rf (l1), cI (l2), l3, l4] [] G (fun r G => r = 7 ∧ Q 0 G)) (hj1 : ∀ (o : Int) (l1 : Int) (l2 : Int) (l3 : Int) (l4 : Int) (G : gS), (inI l2) → (inI l3) → (inI l4) → J 1 [o, l1, l2, l3, l4] G Q → Tg W0 (j 1) [rf (o), rf (l1), cI (l2), cI (l3), cI (l4)] [] G (fun r G => r = 7 ∧ Q 0 G)) (h : PX11_enter_73 J o l1 l2 l3 l4 s0 G Q) : Tg W0 (vX11_enter_73 j) [rf (o), rf (l1), cI (l2), cI (l3), cI (l4)] [cI (s0)] G (fun r G => r = 7 ∧ Q 0 G) := by
  unfold PX11_enter_73 at h
  unfold vX11_enter_73
  refine g_st (lv' := [_, _, _, _, _]) (is_I _) (Nat.le_of_ble_eq_true rfl) (Or.inr (n1_I _)) rfl ?_
  refine g_inc (lv' := [_, _, _, _, _]) rfl (Nat.le_of_ble_eq_true rfl) (Or.inr (n1_I _)) rfl ?_
  obtain ⟨q27, h⟩ := h
  exact hj1 _ _ _ _ _ _ hl2 hs0 q27 h
def PX11_enter_32 (J : Nat → List Int → gS → (Int → gS → Prop) → Prop) (o : Int) (l1 : Int) (l2 : Int) (l3 : Int) (l4 : Int) (G : gS) (Q : Int → gS → Prop) : Prop :=
  (isO W0 11 (o) ∧ (inI (G o 2) → ((l4 < G o 2 → ((l3 = 0 → ((0 : Int) ≤ l4 ∧ ((l4 : Int) < 64 ∧ (((G (o + 1) l4 = -1 ∨ isO W0 10 (G (o + 1) l4)) ∧ ∀ v, W0.2 (o + 1) l4 = some v → G (o + 1) l4 = v) → (isO W0 10 (G (o + 1) l4) ∧ (inL (G (G (o + 1) l4) 1) → (isO W0 1 (l1) ∧ (((G l1 2 = -1 ∨ ∃ n, isA W0 4 n (G l1 2)) ∧ ∀ v, W0.2 l1 2 = some v → G l1 2 = v) → (∃ n19, isA W0 4 n19 (G l1 2) ∧ ((0 : Int) ≤ l2 ∧ ((l2 : Int) < n19 ∧ (((G (G l1 2) l2 = -1 ∨ isO W0 10 (G (G l1 2) l2)) ∧ ∀ v, W0.2 (G l1 2) l2 = some v → G (G l1 2) l2 = v) → (isO W0 10 (G (G l1 2) l2) ∧ (inL (G (G (G l1 2) l2) 1) → ((G (G (o + 1) l4) 1 = G (G (G l1 2) l2) 1 → PX11_enter_73 J o l1 l2 l3 l4 1 G Q) ∧ (¬ (G (G (o + 1) l4) 1 = G (G (G l1 2) l2) 1) → PX11_enter_73 J o l1 l2 l3 l4 0 G Q)))))))))))))))) ∧ (¬ (l3 = 0) → PX11_enter_80 J o l1 l2 l3 l4 G Q))) ∧ (¬ (l4 < G o 2) → PX11_enter_80 J o l1 l2 l3 l4 G Q))))
set_option maxRecDepth 20000 in
theorem TX11_enter_32 {j : Nat → rx_K} {J : Nat → List Int → gS → (Int → gS → Prop) → Prop} {o : Int} {l1 : Int} {l2 : Int} {l3 : Int} {l4 : Int} {G : gS} {Q : Int → gS → Prop} (hl2 : inI l2) (hl3 : inI l3) (hl4 : inI l4) (hj0 : ∀ (o : Int) (l1 : Int) (l2 : Int) (l3 : Nat) (l4 : Nat) (G : gS), (inI l2) → (l3 % 8 ≠ 1) → (l4 % 8 ≠ 1) → J 0 [o, l1, l2] G Q → Tg W0 (j 0) [rf (o), rf (l1), cI (l2), l3, l4] [] G (fun r G => r = 7 ∧ Q 0 G)) (hj1 : ∀ (o : Int) (l1 : Int) (l2 : Int) (l3 : Int) (l4 : Int) (G : gS), (inI l2) → (inI l3) → (inI l4) → J 1 [o, l1, l2, l3, l4] G Q → Tg W0 (j 1) [rf (o), rf (l1), cI (l2), cI (l3), cI (l4)] [] G (fun r G => r = 7 ∧ Q 0 G)) (h : PX11_enter_32 J o l1 l2 l3 l4 G Q) : Tg W0 (vX11_enter_32 j) [rf (o), rf (l1), cI (l2), cI (l3), cI (l4)] [] G (fun r G => r = 7 ∧ Q 0 G) := by
  unfold PX11_enter_32 at h
  unfold vX11_enter_32
  refine g_ld (v := cI _) rfl (is_I _) ?_
  refine g_ld (v := rf _) rfl (is_R _) ?_
  obtain ⟨q8, h⟩ := h
  refine g_getI (kz := 2) q8 rfl (Nat.le_of_ble_eq_true rfl) rfl fun i9 => ?_
  replace h := h i9
  refine g_lt2 hl4 i9 (fun b10 => ?_) (fun b10 => ?_)
  · replace h := h.1 b10
    unfold vX11_enter_41
    refine g_ld (v := cI _) rfl (is_I _) ?_
    refine g_eq1 hl3 (fun b11 => ?_) (fun b11 => ?_)
    · replace h := h.1 b11
      unfold vX11_enter_45
      refine g_ld (v := rf _) rfl (is_R _) ?_
      refine g_getF q8 (ff11_1 q8).1 rfl (Nat.le_of_ble_eq_true rfl) (Nat.le_of_ble_eq_true rfl) ?_
      refine g_ld (v := cI _) rfl (is_I _) ?_
      obtain ⟨q12, q13, h⟩ := h
      refine g_aldRF (c := 10) (ff11_1 q8).2 q12 q13 rfl (by decide) fun i14 => ?_
      replace h := h i14
      obtain ⟨q15, h⟩ := h
      refine g_getL (kz := 1) q15 rfl (Nat.le_of_ble_eq_true rfl) rfl fun i16 => ?_
      replace h := h i16
      refine g_ld (v := rf _) rfl (is_R _) ?_
      obtain ⟨q17, h⟩ := h
      refine g_getAF (kz := 2) (c := 4) q17 rfl (Nat.le_of_ble_eq_true rfl) rfl fun i18 => ?_
      replace h := h i18
      refine g_ld (v := cI _) rfl (is_I _) ?_
      obtain ⟨n19, q20, h⟩ := h
      obtain ⟨q21, q22, h⟩ := h
      refine g_aldRF (c := 10) q20 q21 q22 rfl (by decide) fun i23 => ?_
      replace h := h i23
      obtain ⟨q24, h⟩ := h
      refine g_getL (kz := 1) q24 rfl (Nat.le_of_ble_eq_true rfl) rfl fun i25 => ?_
      replace h := h i25
      refine g_leq i16 i25 (fun b26 => ?_) (fun b26 => ?_)
      · replace h := h.1 b26
        unfold vX11_enter_68
        refine g_const (v := cI (1)) rfl ?_
        exact TX11_enter_73 hl2 hl3 hl4 ⟨by omega, by omega⟩ hj0 hj1 h
      · replace h := h.2 b26
        unfold vX11_enter_72
        refine g_const (v := cI (0)) rfl ?_
        exact TX11_enter_73 hl2 hl3 hl4 ⟨by omega, by omega⟩ hj0 hj1 h
    · replace h := h.2 b11
      exact TX11_enter_80 hl2 hl3 hl4 hj0 hj1 h
  · replace h := h.2 b10
    exact TX11_enter_80 hl2 hl3 hl4 hj0 hj1 h
def PX11_enter_28 (J : Nat → List Int → gS → (Int → gS → Prop) → Prop) (o : Int) (l1 : Int) (l2 : Int) (s0 : Int) (G : gS) (Q : Int → gS → Prop) : Prop :=
  PX11_enter_32 J o l1 l2 s0 2 G Q
set_option maxRecDepth 20000 in
theorem TX11_enter_28 {j : Nat → rx_K} {J : Nat → List Int → gS → (Int → gS → Prop) → Prop} {o : Int} {l1 : Int} {l2 : Int} {l3 : Nat} {l4 : Nat} {s0 : Int} {G : gS} {Q : Int → gS → Prop} (hl2 : inI l2) (hl3 : l3 % 8 ≠ 1) (hl4 : l4 % 8 ≠ 1) (hs0 : inI s0) (hj0 : ∀ (o : Int) (l1 : Int) (l2 : Int) (l3 : Nat) (l4 : Nat) (G : gS), (inI l2) → (l3 % 8 ≠ 1) → (l4 % 8 ≠ 1) → J 0 [o, l1, l2] G Q → Tg W0 (j 0) [rf (o), rf (l1), cI (l2), l3, l4] [] G (fun r G => r = 7 ∧ Q 0 G)) (hj1 : ∀ (o : Int) (l1 : Int) (l2 : Int) (l3 : Int) (l4 : Int) (G : gS), (inI l2) → (inI l3) → (inI l4) → J 1 [o, l1, l2, l3, l4] G Q → Tg W0 (j 1) [rf (o), rf (l1), cI (l2), cI (l3), cI (l4)] [] G (fun r G => r = 7 ∧ Q 0 G)) (h : PX11_enter_28 J o l1 l2 s0 G Q) : Tg W0 (vX11_enter_28 j) [rf (o), rf (l1), cI (l2), l3, l4] [cI (s0)] G (fun r G => r = 7 ∧ Q 0 G) := by
  unfold PX11_enter_28 at h
  unfold vX11_enter_28
  refine g_st (lv' := [_, _, _, _, _]) (is_I _) (Nat.le_of_ble_eq_true rfl) (Or.inr (n1_I _)) rfl ?_
  refine g_const (v := cI (2)) rfl ?_
  refine g_st (lv' := [_, _, _, _, _]) (is_I _) (Nat.le_of_ble_eq_true rfl) (Or.inr (n1_I _)) rfl ?_
  exact TX11_enter_32 hl2 hs0 ⟨by omega, by omega⟩ hj0 hj1 h
def PX11_enter_2 (J : Nat → List Int → gS → (Int → gS → Prop) → Prop) (o : Int) (l1 : Int) (l2 : Int) (G : gS) (Q : Int → gS → Prop) : Prop :=
  ((l1 < 0 → PX11_enter_115 J o l1 l2 G Q) ∧ (0 ≤ l1 → (isO W0 1 (l1) ∧ (inI (G l1 3) → ((l2 < G l1 3 → (isO W0 11 (o) ∧ (inI (G o 2) → ((G o 2 < 64 → PX11_enter_28 J o l1 l2 0 G Q) ∧ (¬ (G o 2 < 64) → PX11_enter_28 J o l1 l2 1 G Q))))) ∧ (¬ (l2 < G l1 3) → PX11_enter_115 J o l1 l2 G Q))))))
set_option maxRecDepth 20000 in
theorem TX11_enter_2 {j : Nat → rx_K} {J : Nat → List Int → gS → (Int → gS → Prop) → Prop} {o : Int} {l1 : Int} {l2 : Int} {l3 : Nat} {l4 : Nat} {G : gS} {Q : Int → gS → Prop} (hl2 : inI l2) (hl3 : l3 % 8 ≠ 1) (hl4 : l4 % 8 ≠ 1) (hj0 : ∀ (o : Int) (l1 : Int) (l2 : Int) (l3 : Nat) (l4 : Nat) (G : gS), (inI l2) → (l3 % 8 ≠ 1) → (l4 % 8 ≠ 1) → J 0 [o, l1, l2] G Q → Tg W0 (j 0) [rf (o), rf (l1), cI (l2), l3, l4] [] G (fun r G => r = 7 ∧ Q 0 G)) (hj1 : ∀ (o : Int) (l1 : Int) (l2 : Int) (l3 : Int) (l4 : Int) (G : gS), (inI l2) → (inI l3) → (inI l4) → J 1 [o, l1, l2, l3, l4] G Q → Tg W0 (j 1) [rf (o), rf (l1), cI (l2), cI (l3), cI (l4)] [] G (fun r G => r = 7 ∧ Q 0 G)) (h : PX11_enter_2 J o l1 l2 G Q) : Tg W0 (vX11_enter_2 j) [rf (o), rf (l1), cI (l2), l3, l4] [] G (fun r G => r = 7 ∧ Q 0 G) := by
  unfold PX11_enter_2 at h
  unfold vX11_enter_2
  refine g_ld (v := rf _) rfl (is_R _) ?_
  refine g_nul (fun b1 => ?_) (fun b1 => ?_)
  · replace h := h.1 b1
    exact TX11_enter_115 hl2 hl3 hl4 hj0 hj1 h
  · replace h := h.2 b1
    unfold vX11_enter_6
    refine g_ld (v := cI _) rfl (is_I _) ?_
    refine g_ld (v := rf _) rfl (is_R _) ?_
    obtain ⟨q2, h⟩ := h
    refine g_getI (kz := 3) q2 rfl (Nat.le_of_ble_eq_true rfl) rfl fun i3 => ?_
    replace h := h i3
    refine g_lt2 hl2 i3 (fun b4 => ?_) (fun b4 => ?_)
    · replace h := h.1 b4
      unfold vX11_enter_14
      refine g_ld (v := rf _) rfl (is_R _) ?_
      obtain ⟨q5, h⟩ := h
      refine g_getI (kz := 2) q5 rfl (Nat.le_of_ble_eq_true rfl) rfl fun i6 => ?_
      replace h := h i6
      refine g_const (v := cI (64)) rfl ?_
      refine g_lt2 i6 ⟨by omega, by omega⟩ (fun b7 => ?_) (fun b7 => ?_)
      · replace h := h.1 b7
        unfold vX11_enter_27
        refine g_const (v := cI (0)) rfl ?_
        exact TX11_enter_28 hl2 hl3 hl4 ⟨by omega, by omega⟩ hj0 hj1 h
      · replace h := h.2 b7
        unfold vX11_enter_23
        refine g_const (v := cI (1)) rfl ?_
        exact TX11_enter_28 hl2 hl3 hl4 ⟨by omega, by omega⟩ hj0 hj1 h
    · replace h := h.2 b4
      exact TX11_enter_115 hl2 hl3 hl4 hj0 hj1 h
def PX11_enter_0 (J : Nat → List Int → gS → (Int → gS → Prop) → Prop) (o : Int) (a1 : Int) (G : gS) (Q : Int → gS → Prop) : Prop :=
  PX11_enter_2 J o a1 0 G Q
set_option maxRecDepth 20000 in
theorem TX11_enter_0 {j : Nat → rx_K} {J : Nat → List Int → gS → (Int → gS → Prop) → Prop} {o : Int} {a1 : Int} {G : gS} {Q : Int → gS → Prop}  (hj0 : ∀ (o : Int) (l1 : Int) (l2 : Int) (l3 : Nat) (l4 : Nat) (G : gS), (inI l2) → (l3 % 8 ≠ 1) → (l4 % 8 ≠ 1) → J 0 [o, l1, l2] G Q → Tg W0 (j 0) [rf (o), rf (l1), cI (l2), l3, l4] [] G (fun r G => r = 7 ∧ Q 0 G)) (hj1 : ∀ (o : Int) (l1 : Int) (l2 : Int) (l3 : Int) (l4 : Int) (G : gS), (inI l2) → (inI l3) → (inI l4) → J 1 [o, l1, l2, l3, l4] G Q → Tg W0 (j 1) [rf (o), rf (l1), cI (l2), cI (l3), cI (l4)] [] G (fun r G => r = 7 ∧ Q 0 G)) (h : PX11_enter_0 J o a1 G Q) : Tg W0 (vX11_enter_0 j) [rf (o), rf (a1), 7, 7, 7] [] G (fun r G => r = 7 ∧ Q 0 G) := by
  unfold PX11_enter_0 at h
  unfold vX11_enter_0
  refine g_const (v := cI (0)) rfl ?_
  refine g_st (lv' := [_, _, _, _, _]) (is_I _) (Nat.le_of_ble_eq_true rfl) (Or.inr (n1_R _)) rfl ?_
  exact TX11_enter_2 ⟨by omega, by omega⟩ (show 7 % 8 ≠ 1 by decide) (show 7 % 8 ≠ 1 by decide) hj0 hj1 h
def PX11_enter_J : Nat → Nat → List Int → gS → (Int → gS → Prop) → Prop
  | 0, _, _, _, _ => False
  | f + 1, h, L, G, Q => match h, L with
    | 0, [o, l1, l2] => PX11_enter_2 (PX11_enter_J f) o l1 l2 G Q
    | 1, [o, l1, l2, l3, l4] => PX11_enter_32 (PX11_enter_J f) o l1 l2 l3 l4 G Q
    | _, _ => False
theorem TX11_enter_J {Q : Int → gS → Prop} : ∀ f N : Nat, f ≤ N → (∀ (o : Int) (l1 : Int) (l2 : Int) (l3 : Nat) (l4 : Nat) (G : gS), (inI l2) → (l3 % 8 ≠ 1) → (l4 % 8 ≠ 1) → (PX11_enter_J f) 0 [o, l1, l2] G Q → Tg W0 (rx_J vhX11_enter N 0) [rf (o), rf (l1), cI (l2), l3, l4] [] G (fun r G => r = 7 ∧ Q 0 G)) ∧ (∀ (o : Int) (l1 : Int) (l2 : Int) (l3 : Int) (l4 : Int) (G : gS), (inI l2) → (inI l3) → (inI l4) → (PX11_enter_J f) 1 [o, l1, l2, l3, l4] G Q → Tg W0 (rx_J vhX11_enter N 1) [rf (o), rf (l1), cI (l2), cI (l3), cI (l4)] [] G (fun r G => r = 7 ∧ Q 0 G)) := by
  intro f
  induction f with
  | zero => exact fun N _ => ⟨fun _ _ _ _ _ _ _ _ _ h => h.elim, fun _ _ _ _ _ _ _ _ _ h => h.elim⟩
  | succ f ih =>
    intro N hN
    obtain ⟨M, rfl⟩ : ∃ M, N = M + 1 := ⟨N - 1, by omega⟩
    have ih := ih M (by omega)
    exact ⟨fun _ _ _ _ _ _ hl2 hl3 hl4 h => show Tg W0 (vX11_enter_2 (rx_J vhX11_enter M)) _ _ _ _ from TX11_enter_2 hl2 hl3 hl4 ih.1 ih.2 h, fun _ _ _ _ _ _ hl2 hl3 hl4 h => show Tg W0 (vX11_enter_32 (rx_J vhX11_enter M)) _ _ _ _ from TX11_enter_32 hl2 hl3 hl4 ih.1 ih.2 h⟩
def PX11_enter (o : Int) (a1 : Int) (G : gS) (Q : Int → gS → Prop) : Prop := ∃ f : Nat, f ≤ 4000000000 ∧ PX11_enter_0 (PX11_enter_J f) o a1 G Q
theorem TX11_enter {o : Int} {a1 : Int} {G : gS} {Q : Int → gS → Prop}  (h : PX11_enter o a1 G Q) : Tn W0 FX11_enter [rf (o), rf (a1)] G (fun r G => r = 7 ∧ Q 0 G) := by
  obtain ⟨f, hf, h⟩ := h
  have hJ := TX11_enter_J (Q := Q) f 4000000000 hf
  unfold FX11_enter
  refine g_ent (lv' := [rf (o), rf (a1), 7, 7, 7]) (flR (flR fl0)) (Nat.le_of_ble_eq_true rfl) rfl ?_
  exact TX11_enter_0  hJ.1 hJ.2 h
def PX11_bars_94 (o : Int) (l1 : Int) (l2 : Int) (l3 : Int) (l4 : Int) (s0 : Int) (G : gS) (Q : Int → gS → Prop) : Prop :=
  Q (s0) G
set_option maxRecDepth 20000 in
theorem TX11_bars_94 {o : Int} {l1 : Int} {l2 : Int} {l3 : Int} {l4 : Int} {s0 : Int} {G : gS} {Q : Int → gS → Prop} (hl2 : inI l2) (hl3 : inI l3) (hs0 : inI s0) (h : PX11_bars_94 o l1 l2 l3 l4 s0 G Q) : Tg W0 vX11_bars_94 [rf (o), rf (l1), cI (l2), cI (l3), rf (l4)] [cI (s0)] G (fun r G => ∃ v, r = cI v ∧ inI v ∧ Q v G) := by
  unfold PX11_bars_94 at h
  unfold vX11_bars_94
  exact g_ret1 (is_I _) ⟨_, rfl, hs0, h⟩
def PX11_bars_93 (o : Int) (l1 : Int) (l2 : Int) (l3 : Int) (l4 : Int) (G : gS) (Q : Int → gS → Prop) : Prop :=
  PX11_bars_94 o l1 l2 l3 l4 0 G Q
set_option maxRecDepth 20000 in
theorem TX11_bars_93 {o : Int} {l1 : Int} {l2 : Int} {l3 : Int} {l4 : Int} {G : gS} {Q : Int → gS → Prop} (hl2 : inI l2) (hl3 : inI l3) (h : PX11_bars_93 o l1 l2 l3 l4 G Q) : Tg W0 vX11_bars_93 [rf (o), rf (l1), cI (l2), cI (l3), rf (l4)] [] G (fun r G => ∃ v, r = cI v ∧ inI v ∧ Q v G) := by
  unfold PX11_bars_93 at h
  unfold vX11_bars_93
  refine g_const (v := cI (0)) rfl ?_
  exact TX11_bars_94 hl2 hl3 ⟨by omega, by omega⟩ h
def PX11_bars_89 (o : Int) (l1 : Int) (l2 : Int) (l3 : Int) (l4 : Int) (G : gS) (Q : Int → gS → Prop) : Prop :=
  PX11_bars_94 o l1 l2 l3 l4 3 G Q
set_option maxRecDepth 20000 in
theorem TX11_bars_89 {o : Int} {l1 : Int} {l2 : Int} {l3 : Int} {l4 : Int} {G : gS} {Q : Int → gS → Prop} (hl2 : inI l2) (hl3 : inI l3) (h : PX11_bars_89 o l1 l2 l3 l4 G Q) : Tg W0 vX11_bars_89 [rf (o), rf (l1), cI (l2), cI (l3), rf (l4)] [] G (fun r G => ∃ v, r = cI v ∧ inI v ∧ Q v G) := by
  unfold PX11_bars_89 at h
  unfold vX11_bars_89
  refine g_const (v := cI (3)) rfl ?_
  exact TX11_bars_94 hl2 hl3 ⟨by omega, by omega⟩ h
def PX11_bars_66 (o : Int) (l1 : Int) (l2 : Int) (l3 : Int) (l4 : Int) (G : gS) (Q : Int → gS → Prop) : Prop :=
  (isO W0 10 (l4) ∧ ((0 : Int) ≤ 2 ∧ ((2 : Int) < 3 ∧ (inI (G (l4 + 2) 2) → ((0 < G (l4 + 2) 2 → (isO W0 10 (l1) ∧ (inL (G l1 1) → PX10_has l4 2 (G l1 1) G (fun r29 G28 => (0 ≤ r29 ∧ r29 ≤ 1) → ((r29 = 0 → PX11_bars_89 o l1 l2 l3 l4 G28 Q) ∧ (¬ (r29 = 0) → PX11_bars_93 o l1 l2 l3 l4 G28 Q)))))) ∧ (¬ (0 < G (l4 + 2) 2) → PX11_bars_93 o l1 l2 l3 l4 G Q))))))
set_option maxRecDepth 20000 in
theorem TX11_bars_66 {o : Int} {l1 : Int} {l2 : Int} {l3 : Int} {l4 : Int} {G : gS} {Q : Int → gS → Prop} (hl2 : inI l2) (hl3 : inI l3) (h : PX11_bars_66 o l1 l2 l3 l4 G Q) : Tg W0 vX11_bars_66 [rf (o), rf (l1), cI (l2), cI (l3), rf (l4)] [] G (fun r G => ∃ v, r = cI v ∧ inI v ∧ Q v G) := by
  unfold PX11_bars_66 at h
  unfold vX11_bars_66
  refine g_ld (v := rf _) rfl (is_R _) ?_
  obtain ⟨q21, h⟩ := h
  refine g_getF q21 (ff10_11 q21).1 rfl (Nat.le_of_ble_eq_true rfl) (Nat.le_of_ble_eq_true rfl) ?_
  refine g_const (v := cI (2)) rfl ?_
  obtain ⟨q22, q23, h⟩ := h
  refine g_aldI (ff10_11 q21).2 q22 q23 rfl fun i24 => ?_
  replace h := h i24
  refine g_gt1 i24 (fun b25 => ?_) (fun b25 => ?_)
  · replace h := h.1 b25
    unfold vX11_bars_76
    refine g_ld (v := rf _) rfl (is_R _) ?_
    refine g_const (v := cI (2)) rfl ?_
    refine g_ld (v := rf _) rfl (is_R _) ?_
    obtain ⟨q26, h⟩ := h
    refine g_getL (kz := 1) q26 rfl (Nat.le_of_ble_eq_true rfl) rfl fun i27 => ?_
    replace h := h i27
    refine g_callV (As := [_, _]) (ci := 10) q21 (fun _ => rfl) ?_
    refine g_go1 (Nat.le_of_ble_eq_true rfl) (Tn_w (TX10_has ⟨by omega, by omega⟩ i27 h) fun _ G28 ⟨r29, e, i30, h⟩ => ?_)
    subst e
    refine ⟨n7_I _, ?_⟩
    replace h := h i30
    refine g_eq1 ⟨by omega, by omega⟩ (fun b31 => ?_) (fun b31 => ?_)
    · replace h := h.1 b31
      exact TX11_bars_89 hl2 hl3 h
    · replace h := h.2 b31
      exact TX11_bars_93 hl2 hl3 h
  · replace h := h.2 b25
    exact TX11_bars_93 hl2 hl3 h
def PX11_bars_54 (o : Int) (l1 : Int) (l2 : Int) (l3 : Int) (l4 : Int) (G : gS) (Q : Int → gS → Prop) : Prop :=
  ((l3 = 0 → PX11_bars_66 o l1 l2 l3 l4 G Q) ∧ (¬ (l3 = 0) → (isO W0 10 (l4) ∧ ((0 ≤ G l4 5 ∧ G l4 5 ≤ 1) → ((G l4 5 = 0 → PX11_bars_66 o l1 l2 l3 l4 G Q) ∧ (¬ (G l4 5 = 0) → PX11_bars_89 o l1 l2 l3 l4 G Q))))))
set_option maxRecDepth 20000 in
theorem TX11_bars_54 {o : Int} {l1 : Int} {l2 : Int} {l3 : Int} {l4 : Int} {G : gS} {Q : Int → gS → Prop} (hl2 : inI l2) (hl3 : inI l3) (h : PX11_bars_54 o l1 l2 l3 l4 G Q) : Tg W0 vX11_bars_54 [rf (o), rf (l1), cI (l2), cI (l3), rf (l4)] [] G (fun r G => ∃ v, r = cI v ∧ inI v ∧ Q v G) := by
  unfold PX11_bars_54 at h
  unfold vX11_bars_54
  refine g_ld (v := cI _) rfl (is_I _) ?_
  refine g_eq1 hl3 (fun b17 => ?_) (fun b17 => ?_)
  · replace h := h.1 b17
    exact TX11_bars_66 hl2 hl3 h
  · replace h := h.2 b17
    unfold vX11_bars_58
    refine g_ld (v := rf _) rfl (is_R _) ?_
    obtain ⟨q18, h⟩ := h
    refine g_getZ (kz := 5) q18 rfl (Nat.le_of_ble_eq_true rfl) rfl fun i19 => ?_
    replace h := h i19
    refine g_eq1 ⟨by omega, by omega⟩ (fun b20 => ?_) (fun b20 => ?_)
    · replace h := h.1 b20
      exact TX11_bars_66 hl2 hl3 h
    · replace h := h.2 b20
      exact TX11_bars_89 hl2 hl3 h
def PX11_bars_0 (o : Int) (a1 : Int) (a2 : Int) (a3 : Int) (G : gS) (Q : Int → gS → Prop) : Prop :=
  ((a2 < 0 → Q (1) G) ∧ (¬ (a2 < 0) → (isO W0 11 (o) ∧ ((0 : Int) ≤ a2 ∧ ((a2 : Int) < 64 ∧ (((G (o + 1) a2 = -1 ∨ isO W0 10 (G (o + 1) a2)) ∧ ∀ v, W0.2 (o + 1) a2 = some v → G (o + 1) a2 = v) → (isO W0 10 (G (o + 1) a2) ∧ ((0 ≤ G (G (o + 1) a2) 4 ∧ G (G (o + 1) a2) 4 ≤ 1) → ((G (G (o + 1) a2) 4 = a3 → Q (3) G) ∧ (¬ (G (G (o + 1) a2) 4 = a3) → ((0 ≤ G (G (o + 1) a2) 3 ∧ G (G (o + 1) a2) 3 ≤ 1) → ((G (G (o + 1) a2) 3 = 0 → (inL (G (G (o + 1) a2) 1) → (inL (lush (G (G (o + 1) a2) 1) 59) → (isO W0 10 (a1) ∧ (inL (G a1 1) → (inL (lush (G a1 1) 59) → ((lush (G (G (o + 1) a2) 1) 59 = lush (G a1 1) 59 → PX11_bars_54 o a1 a2 a3 (G (o + 1) a2) G Q) ∧ (¬ (lush (G (G (o + 1) a2) 1) 59 = lush (G a1 1) 59) → Q (2) G)))))))) ∧ (¬ (G (G (o + 1) a2) 3 = 0) → PX11_bars_54 o a1 a2 a3 (G (o + 1) a2) G Q)))))))))))))
set_option maxRecDepth 20000 in
theorem TX11_bars_0 {o : Int} {a1 : Int} {a2 : Int} {a3 : Int} {G : gS} {Q : Int → gS → Prop} (ha2 : inI a2) (ha3 : inI a3) (h : PX11_bars_0 o a1 a2 a3 G Q) : Tg W0 vX11_bars_0 [rf (o), rf (a1), cI (a2), cI (a3), 7] [] G (fun r G => ∃ v, r = cI v ∧ inI v ∧ Q v G) := by
  unfold PX11_bars_0 at h
  unfold vX11_bars_0
  refine g_ld (v := cI _) rfl (is_I _) ?_
  refine g_lt1 ha2 (fun b1 => ?_) (fun b1 => ?_)
  · replace h := h.1 b1
    unfold vX11_bars_4
    refine g_const (v := cI (1)) rfl ?_
    exact g_ret1 (is_I _) ⟨_, rfl, ⟨by omega, by omega⟩, h⟩
  · replace h := h.2 b1
    unfold vX11_bars_6
    refine g_ld (v := rf _) rfl (is_R _) ?_
    obtain ⟨q2, h⟩ := h
    refine g_getF q2 (ff11_1 q2).1 rfl (Nat.le_of_ble_eq_true rfl) (Nat.le_of_ble_eq_true rfl) ?_
    refine g_ld (v := cI _) rfl (is_I _) ?_
    obtain ⟨q3, q4, h⟩ := h
    refine g_aldRF (c := 10) (ff11_1 q2).2 q3 q4 rfl (by decide) fun i5 => ?_
    replace h := h i5
    refine g_st (lv' := [_, _, _, _, _]) (is_R _) (Nat.le_of_ble_eq_true rfl) (Or.inr (n1_I _)) rfl ?_
    refine g_ld (v := rf _) rfl (is_R _) ?_
    obtain ⟨q6, h⟩ := h
    refine g_getZ (kz := 4) q6 rfl (Nat.le_of_ble_eq_true rfl) rfl fun i7 => ?_
    replace h := h i7
    refine g_ld (v := cI _) rfl (is_I _) ?_
    refine g_eq2 ⟨by omega, by omega⟩ ha3 (fun b8 => ?_) (fun b8 => ?_)
    · replace h := h.1 b8
      unfold vX11_bars_23
      refine g_const (v := cI (3)) rfl ?_
      exact g_ret1 (is_I _) ⟨_, rfl, ⟨by omega, by omega⟩, h⟩
    · replace h := h.2 b8
      unfold vX11_bars_25
      refine g_ld (v := rf _) rfl (is_R _) ?_
      refine g_getZ (kz := 3) q6 rfl (Nat.le_of_ble_eq_true rfl) rfl fun i9 => ?_
      replace h := h i9
      refine g_eq1 ⟨by omega, by omega⟩ (fun b10 => ?_) (fun b10 => ?_)
      · replace h := h.1 b10
        unfold vX11_bars_33
        refine g_ld (v := rf _) rfl (is_R _) ?_
        refine g_getL (kz := 1) q6 rfl (Nat.le_of_ble_eq_true rfl) rfl fun i11 => ?_
        replace h := h i11
        refine g_const (v := cI (59)) rfl ?_
        refine g_lush fun i12 => ?_
        replace h := h i12
        refine g_ld (v := rf _) rfl (is_R _) ?_
        obtain ⟨q13, h⟩ := h
        refine g_getL (kz := 1) q13 rfl (Nat.le_of_ble_eq_true rfl) rfl fun i14 => ?_
        replace h := h i14
        refine g_const (v := cI (59)) rfl ?_
        refine g_lush fun i15 => ?_
        replace h := h i15
        refine g_leq i12 i15 (fun b16 => ?_) (fun b16 => ?_)
        · replace h := h.1 b16
          exact TX11_bars_54 ha2 ha3 h
        · replace h := h.2 b16
          unfold vX11_bars_52
          refine g_const (v := cI (2)) rfl ?_
          exact g_ret1 (is_I _) ⟨_, rfl, ⟨by omega, by omega⟩, h⟩
      · replace h := h.2 b10
        exact TX11_bars_54 ha2 ha3 h
abbrev PX11_bars (o : Int) (a1 : Int) (a2 : Int) (a3 : Int) (G : gS) (Q : Int → gS → Prop) : Prop := PX11_bars_0 o a1 a2 a3 G Q
theorem TX11_bars {o : Int} {a1 : Int} {a2 : Int} {a3 : Int} {G : gS} {Q : Int → gS → Prop} (ha2 : inI a2) (ha3 : inI a3) (h : PX11_bars o a1 a2 a3 G Q) : Tn W0 FX11_bars [rf (o), rf (a1), cI (a2), cI (a3)] G (fun r G => ∃ v, r = cI v ∧ inI v ∧ Q v G) := by
  unfold FX11_bars
  refine g_ent (lv' := [rf (o), rf (a1), cI (a2), cI (a3), 7]) (flR (flR (flI (flI fl0)))) (Nat.le_of_ble_eq_true rfl) rfl ?_
  exact TX11_bars_0 ha2 ha3 h
end DE

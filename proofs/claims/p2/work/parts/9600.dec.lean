section DE
def PX0_fail_17 (l1 : Int) (l2 : Int) (G : gS) (Q : Int → gS → Prop) : Prop :=
  Q (0) G
set_option maxRecDepth 20000 in
theorem TX0_fail_17 {l1 : Int} {l2 : Int} {G : gS} {Q : Int → gS → Prop} (hl1 : inI l1) (hl2 : inI l2) (h : PX0_fail_17 l1 l2 G Q) : Tg W0 vX0_fail_17 [rf (815), cI (l1), cI (l2)] [] G (fun r G => ∃ v, r = cI v ∧ (0 ≤ v ∧ v ≤ 1) ∧ Q v G) := by
  unfold PX0_fail_17 at h
  unfold vX0_fail_17
  refine g_const (v := cI (0)) rfl ?_
  exact g_ret1 (is_Z (by omega)) ⟨_, rfl, (by omega), h⟩
def PX0_fail_0 (a1 : Int) (a2 : Int) (G : gS) (Q : Int → gS → Prop) : Prop :=
  (inI (G 815 3) → ((G 815 3 = 0 → (∀ G3 : gS, G3 = uG G 815 3 (a1) → (∀ G4 : gS, G4 = uG G3 815 4 (a2) → PX0_fail_17 a1 a2 G4 Q))) ∧ (¬ (G 815 3 = 0) → PX0_fail_17 a1 a2 G Q)))
set_option maxRecDepth 20000 in
theorem TX0_fail_0 {a1 : Int} {a2 : Int} {G : gS} {Q : Int → gS → Prop} (ha1 : inI a1) (ha2 : inI a2) (h : PX0_fail_0 a1 a2 G Q) : Tg W0 vX0_fail_0 [rf (815), cI (a1), cI (a2)] [] G (fun r G => ∃ v, r = cI v ∧ (0 ≤ v ∧ v ≤ 1) ∧ Q v G) := by
  unfold PX0_fail_0 at h
  unfold vX0_fail_0
  refine g_ld (v := rf _) rfl (is_R _) ?_
  refine g_getI (kz := 3) oC0 rfl (Nat.le_of_ble_eq_true rfl) rfl fun i1 => ?_
  replace h := h i1
  refine g_eq1 i1 (fun b2 => ?_) (fun b2 => ?_)
  · replace h := h.1 b2
    unfold vX0_fail_7
    refine g_ld (v := rf _) rfl (is_R _) ?_
    refine g_ld (v := cI _) rfl (is_I _) ?_
    refine g_putI (kz := 3) oC0 rfl (Nat.le_of_ble_eq_true rfl) rfl ha1 (zfin_no (c := 815) (j := 3) rfl) ?_
    replace h := h _ rfl
    refine g_ld (v := rf _) rfl (is_R _) ?_
    refine g_ld (v := cI _) rfl (is_I _) ?_
    refine g_putI (kz := 4) oC0 rfl (Nat.le_of_ble_eq_true rfl) rfl ha2 (zfin_no (c := 815) (j := 4) rfl) ?_
    replace h := h _ rfl
    exact TX0_fail_17 ha1 ha2 h
  · replace h := h.2 b2
    exact TX0_fail_17 ha1 ha2 h
abbrev PX0_fail (a1 : Int) (a2 : Int) (G : gS) (Q : Int → gS → Prop) : Prop := PX0_fail_0 a1 a2 G Q
theorem TX0_fail {a1 : Int} {a2 : Int} {G : gS} {Q : Int → gS → Prop} (ha1 : inI a1) (ha2 : inI a2) (h : PX0_fail a1 a2 G Q) : Tn W0 FX0_fail [rf (815), cI (a1), cI (a2)] G (fun r G => ∃ v, r = cI v ∧ (0 ≤ v ∧ v ≤ 1) ∧ Q v G) := by
  unfold FX0_fail
  refine g_ent (lv' := [rf (815), cI (a1), cI (a2)]) (flR (flI (flI fl0))) (Nat.le_of_ble_eq_true rfl) rfl ?_
  exact TX0_fail_0 ha1 ha2 h
def PX0_calls_0 (a1 : Int) (a2 : Int) (a3 : Int) (G : gS) (Q : Int → gS → Prop) : Prop :=
  ((a3 < 0 → (isO W0 8 (a1) ∧ (inI (G a1 2) → PX0_fail 12 (G a1 2) G (fun r5 G4 => (0 ≤ r5 ∧ r5 ≤ 1) → Q (r5) G4)))) ∧ (0 ≤ a3 → (isO W0 8 (a1) ∧ ((a3 = -1 ∨ isO W0 7 (a3)) ∧ (∀ G9 : gS, G9 = uG G a1 11 (a3) → (isO W0 7 (a3) ∧ (inL (G9 a3 8) → (∀ G12 : gS, G12 = uG G9 a1 9 (G9 a3 8) → ((G12 815 0 = -1 ∨ isO W0 11 (G12 815 0)) → (isO W0 11 (G12 815 0) ∧ ((0 : Int) ≤ a2 ∧ ((a2 : Int) < 64 ∧ (((G12 ((G12 815 0) + 1) a2 = -1 ∨ isO W0 10 (G12 ((G12 815 0) + 1) a2)) ∧ ∀ v, W0.2 ((G12 815 0) + 1) a2 = some v → G12 ((G12 815 0) + 1) a2 = v) → (isO W0 10 (G12 ((G12 815 0) + 1) a2) ∧ (inL (G12 (G12 ((G12 815 0) + 1) a2) 1) → (∀ G20 : gS, G20 = uG G12 a1 10 (G12 (G12 ((G12 815 0) + 1) a2) 1) → Q (1) G20))))))))))))))))
set_option maxRecDepth 20000 in
theorem TX0_calls_0 {a1 : Int} {a2 : Int} {a3 : Int} {G : gS} {Q : Int → gS → Prop} (ha2 : inI a2) (h : PX0_calls_0 a1 a2 a3 G Q) : Tg W0 vX0_calls_0 [rf (815), rf (a1), cI (a2), rf (a3)] [] G (fun r G => ∃ v, r = cI v ∧ (0 ≤ v ∧ v ≤ 1) ∧ Q v G) := by
  unfold PX0_calls_0 at h
  unfold vX0_calls_0
  refine g_ld (v := rf _) rfl (is_R _) ?_
  refine g_nul (fun b1 => ?_) (fun b1 => ?_)
  · replace h := h.1 b1
    unfold vX0_calls_4
    refine g_ld (v := rf _) rfl (is_R _) ?_
    refine g_const (v := cI (12)) rfl ?_
    refine g_ld (v := rf _) rfl (is_R _) ?_
    obtain ⟨q2, h⟩ := h
    refine g_getI (kz := 2) q2 rfl (Nat.le_of_ble_eq_true rfl) rfl fun i3 => ?_
    replace h := h i3
    refine g_callV (As := [_, _]) (ci := 0) oC0 (fun _ => rfl) ?_
    refine g_go1 (Nat.le_of_ble_eq_true rfl) (Tn_w (TX0_fail ⟨by omega, by omega⟩ i3 h) fun _ G4 ⟨r5, e, i6, h⟩ => ?_)
    subst e
    refine ⟨n7_I _, ?_⟩
    replace h := h i6
    exact g_ret1 (is_Z i6) ⟨_, rfl, i6, h⟩
  · replace h := h.2 b1
    unfold vX0_calls_15
    refine g_ld (v := rf _) rfl (is_R _) ?_
    refine g_ld (v := rf _) rfl (is_R _) ?_
    obtain ⟨q7, h⟩ := h
    obtain ⟨q8, h⟩ := h
    refine g_putR (kz := 11) (c := 7) q7 rfl (Nat.le_of_ble_eq_true rfl) rfl (by decide) q8 (nf8_11 q7) ?_
    replace h := h _ rfl
    refine g_ld (v := rf _) rfl (is_R _) ?_
    refine g_ld (v := rf _) rfl (is_R _) ?_
    obtain ⟨q10, h⟩ := h
    refine g_getL (kz := 8) q10 rfl (Nat.le_of_ble_eq_true rfl) rfl fun i11 => ?_
    replace h := h i11
    refine g_putL (kz := 9) q7 rfl (Nat.le_of_ble_eq_true rfl) rfl i11 (nf8_9 q7) ?_
    replace h := h _ rfl
    refine g_ld (v := rf _) rfl (is_R _) ?_
    refine g_ld (v := rf _) rfl (is_R _) ?_
    refine g_getR (kz := 0) (c := 11) oC0 rfl (Nat.le_of_ble_eq_true rfl) rfl (by decide) fun i13 => ?_
    replace h := h i13
    obtain ⟨q14, h⟩ := h
    refine g_getF q14 (ff11_1 q14).1 rfl (Nat.le_of_ble_eq_true rfl) (Nat.le_of_ble_eq_true rfl) ?_
    refine g_ld (v := cI _) rfl (is_I _) ?_
    obtain ⟨q15, q16, h⟩ := h
    refine g_aldRF (c := 10) (ff11_1 q14).2 q15 q16 rfl (by decide) fun i17 => ?_
    replace h := h i17
    obtain ⟨q18, h⟩ := h
    refine g_getL (kz := 1) q18 rfl (Nat.le_of_ble_eq_true rfl) rfl fun i19 => ?_
    replace h := h i19
    refine g_putL (kz := 10) q7 rfl (Nat.le_of_ble_eq_true rfl) rfl i19 (nf8_10 q7) ?_
    replace h := h _ rfl
    refine g_const (v := cI (1)) rfl ?_
    exact g_ret1 (is_Z (by omega)) ⟨_, rfl, (by omega), h⟩
abbrev PX0_calls (a1 : Int) (a2 : Int) (a3 : Int) (G : gS) (Q : Int → gS → Prop) : Prop := PX0_calls_0 a1 a2 a3 G Q
theorem TX0_calls {a1 : Int} {a2 : Int} {a3 : Int} {G : gS} {Q : Int → gS → Prop} (ha2 : inI a2) (h : PX0_calls a1 a2 a3 G Q) : Tn W0 FX0_calls [rf (815), rf (a1), cI (a2), rf (a3)] G (fun r G => ∃ v, r = cI v ∧ (0 ≤ v ∧ v ≤ 1) ∧ Q v G) := by
  unfold FX0_calls
  refine g_ent (lv' := [rf (815), rf (a1), cI (a2), rf (a3)]) (flR (flR (flI (flR fl0)))) (Nat.le_of_ble_eq_true rfl) rfl ?_
  exact TX0_calls_0 ha2 h
def PX11_fits_226 (J : Nat → List Int → gS → (Int → gS → Prop) → Prop) (o : Int) (l1 : Int) (l3 : Int) (l5 : Int) (l6 : Int) (l7 : Int) (s0 : Int) (G : gS) (Q : Int → gS → Prop) : Prop :=
  ((0 ≤ s0 ∧ s0 ≤ 1) ∧ Q (s0) G)
set_option maxRecDepth 20000 in
theorem TX11_fits_226 {j : Nat → rx_K} {J : Nat → List Int → gS → (Int → gS → Prop) → Prop} {o : Int} {l1 : Int} {l2 : Nat} {l3 : Int} {l4 : Nat} {l5 : Int} {l6 : Int} {l7 : Int} {s0 : Int} {G : gS} {Q : Int → gS → Prop} (hl1 : inL l1) (hl2 : l2 % 8 ≠ 1) (hl3 : inL l3) (hl4 : l4 % 8 ≠ 1) (hl5 : inI l5) (hl6 : inI l6) (hl7 : inI l7) (hs0 : inI s0) (hj0 : ∀ (o : Int) (l1 : Int) (l2 : Nat) (l3 : Int) (l4 : Nat) (l5 : Int) (l6 : Int) (l7 : Int) (G : gS), (inL l1) → (l2 % 8 ≠ 1) → (inL l3) → (l4 % 8 ≠ 1) → (inI l5) → (inI l6) → (inI l7) → J 0 [o, l1, l3, l5, l6, l7] G Q → Tg W0 (j 0) [rf (o), cL (l1), l2, cL (l3), l4, cI (l5), cI (l6), cI (l7)] [] G (fun r G => ∃ v, r = cI v ∧ (0 ≤ v ∧ v ≤ 1) ∧ Q v G)) (h : PX11_fits_226 J o l1 l3 l5 l6 l7 s0 G Q) : Tg W0 (vX11_fits_226 j) [rf (o), cL (l1), l2, cL (l3), l4, cI (l5), cI (l6), cI (l7)] [cI (s0)] G (fun r G => ∃ v, r = cI v ∧ (0 ≤ v ∧ v ≤ 1) ∧ Q v G) := by
  unfold PX11_fits_226 at h
  unfold vX11_fits_226
  obtain ⟨q43, h⟩ := h
  exact g_ret1 (is_Z q43) ⟨_, rfl, q43, h⟩
def PX11_fits_225 (J : Nat → List Int → gS → (Int → gS → Prop) → Prop) (o : Int) (l1 : Int) (l3 : Int) (l5 : Int) (l6 : Int) (l7 : Int) (G : gS) (Q : Int → gS → Prop) : Prop :=
  PX11_fits_226 J o l1 l3 l5 l6 l7 0 G Q
set_option maxRecDepth 20000 in
theorem TX11_fits_225 {j : Nat → rx_K} {J : Nat → List Int → gS → (Int → gS → Prop) → Prop} {o : Int} {l1 : Int} {l2 : Nat} {l3 : Int} {l4 : Nat} {l5 : Int} {l6 : Int} {l7 : Int} {G : gS} {Q : Int → gS → Prop} (hl1 : inL l1) (hl2 : l2 % 8 ≠ 1) (hl3 : inL l3) (hl4 : l4 % 8 ≠ 1) (hl5 : inI l5) (hl6 : inI l6) (hl7 : inI l7) (hj0 : ∀ (o : Int) (l1 : Int) (l2 : Nat) (l3 : Int) (l4 : Nat) (l5 : Int) (l6 : Int) (l7 : Int) (G : gS), (inL l1) → (l2 % 8 ≠ 1) → (inL l3) → (l4 % 8 ≠ 1) → (inI l5) → (inI l6) → (inI l7) → J 0 [o, l1, l3, l5, l6, l7] G Q → Tg W0 (j 0) [rf (o), cL (l1), l2, cL (l3), l4, cI (l5), cI (l6), cI (l7)] [] G (fun r G => ∃ v, r = cI v ∧ (0 ≤ v ∧ v ≤ 1) ∧ Q v G)) (h : PX11_fits_225 J o l1 l3 l5 l6 l7 G Q) : Tg W0 (vX11_fits_225 j) [rf (o), cL (l1), l2, cL (l3), l4, cI (l5), cI (l6), cI (l7)] [] G (fun r G => ∃ v, r = cI v ∧ (0 ≤ v ∧ v ≤ 1) ∧ Q v G) := by
  unfold PX11_fits_225 at h
  unfold vX11_fits_225
  refine g_const (v := cI (0)) rfl ?_
  exact TX11_fits_226 hl1 hl2 hl3 hl4 hl5 hl6 hl7 ⟨by omega, by omega⟩ hj0 h
def PX11_fits_221 (J : Nat → List Int → gS → (Int → gS → Prop) → Prop) (o : Int) (l1 : Int) (l3 : Int) (l5 : Int) (l6 : Int) (l7 : Int) (G : gS) (Q : Int → gS → Prop) : Prop :=
  PX11_fits_226 J o l1 l3 l5 l6 l7 1 G Q
set_option maxRecDepth 20000 in
theorem TX11_fits_221 {j : Nat → rx_K} {J : Nat → List Int → gS → (Int → gS → Prop) → Prop} {o : Int} {l1 : Int} {l2 : Nat} {l3 : Int} {l4 : Nat} {l5 : Int} {l6 : Int} {l7 : Int} {G : gS} {Q : Int → gS → Prop} (hl1 : inL l1) (hl2 : l2 % 8 ≠ 1) (hl3 : inL l3) (hl4 : l4 % 8 ≠ 1) (hl5 : inI l5) (hl6 : inI l6) (hl7 : inI l7) (hj0 : ∀ (o : Int) (l1 : Int) (l2 : Nat) (l3 : Int) (l4 : Nat) (l5 : Int) (l6 : Int) (l7 : Int) (G : gS), (inL l1) → (l2 % 8 ≠ 1) → (inL l3) → (l4 % 8 ≠ 1) → (inI l5) → (inI l6) → (inI l7) → J 0 [o, l1, l3, l5, l6, l7] G Q → Tg W0 (j 0) [rf (o), cL (l1), l2, cL (l3), l4, cI (l5), cI (l6), cI (l7)] [] G (fun r G => ∃ v, r = cI v ∧ (0 ≤ v ∧ v ≤ 1) ∧ Q v G)) (h : PX11_fits_221 J o l1 l3 l5 l6 l7 G Q) : Tg W0 (vX11_fits_221 j) [rf (o), cL (l1), l2, cL (l3), l4, cI (l5), cI (l6), cI (l7)] [] G (fun r G => ∃ v, r = cI v ∧ (0 ≤ v ∧ v ≤ 1) ∧ Q v G) := by
  unfold PX11_fits_221 at h
  unfold vX11_fits_221
  refine g_const (v := cI (1)) rfl ?_
  exact TX11_fits_226 hl1 hl2 hl3 hl4 hl5 hl6 hl7 ⟨by omega, by omega⟩ hj0 h
def PX11_fits_168 (J : Nat → List Int → gS → (Int → gS → Prop) → Prop) (o : Int) (l1 : Int) (l3 : Int) (l5 : Int) (l6 : Int) (l7 : Int) (s0 : Int) (G : gS) (Q : Int → gS → Prop) : Prop :=
  (inI (l7 + 1) ∧ J 0 [o, l1, l3, l5, s0, l7 + 1] G Q)
set_option maxRecDepth 20000 in
theorem TX11_fits_168 {j : Nat → rx_K} {J : Nat → List Int → gS → (Int → gS → Prop) → Prop} {o : Int} {l1 : Int} {l2 : Nat} {l3 : Int} {l4 : Nat} {l5 : Int} {l6 : Int} {l7 : Int} {s0 : Int} {G : gS} {Q : Int → gS → Prop} (hl1 : inL l1) (hl2 : l2 % 8 ≠ 1) (hl3 : inL l3) (hl4 : l4 % 8 ≠ 1) (hl5 : inI l5) (hl6 : inI l6) (hl7 : inI l7) (hs0 : inI s0) (hj0 : ∀ (o : Int) (l1 : Int) (l2 : Nat) (l3 : Int) (l4 : Nat) (l5 : Int) (l6 : Int) (l7 : Int) (G : gS), (inL l1) → (l2 % 8 ≠ 1) → (inL l3) → (l4 % 8 ≠ 1) → (inI l5) → (inI l6) → (inI l7) → J 0 [o, l1, l3, l5, l6, l7] G Q → Tg W0 (j 0) [rf (o), cL (l1), l2, cL (l3), l4, cI (l5), cI (l6), cI (l7)] [] G (fun r G => ∃ v, r = cI v ∧ (0 ≤ v ∧ v ≤ 1) ∧ Q v G)) (h : PX11_fits_168 J o l1 l3 l5 l6 l7 s0 G Q) : Tg W0 (vX11_fits_168 j) [rf (o), cL (l1), l2, cL (l3), l4, cI (l5), cI (l6), cI (l7)] [cI (s0)] G (fun r G => ∃ v, r = cI v ∧ (0 ≤ v ∧ v ≤ 1) ∧ Q v G) := by
  unfold PX11_fits_168 at h
  unfold vX11_fits_168
  refine g_st (lv' := [_, _, _, _, _, _, _, _]) (is_I _) (Nat.le_of_ble_eq_true rfl) (Or.inr (n1_I _)) rfl ?_
  refine g_inc (lv' := [_, _, _, _, _, _, _, _]) rfl (Nat.le_of_ble_eq_true rfl) (Or.inr (n1_I _)) rfl ?_
  obtain ⟨q42, h⟩ := h
  exact hj0 _ _ _ _ _ _ _ _ _ hl1 hl2 hl3 hl4 hl5 hs0 q42 h
def PX11_fits_144 (J : Nat → List Int → gS → (Int → gS → Prop) → Prop) (o : Int) (l1 : Int) (l3 : Int) (l5 : Int) (l6 : Int) (l7 : Int) (s0 : Int) (G : gS) (Q : Int → gS → Prop) : Prop :=
  (isO W0 11 (o) ∧ ((0 : Int) ≤ l7 ∧ ((l7 : Int) < 64 ∧ (((G (o + 1) l7 = -1 ∨ isO W0 10 (G (o + 1) l7)) ∧ ∀ v, W0.2 (o + 1) l7 = some v → G (o + 1) l7 = v) → (isO W0 10 (G (o + 1) l7) ∧ (inL (G (G (o + 1) l7) 1) → ((G (G (o + 1) l7) 1 = l3 → PX11_fits_168 J o l1 l3 s0 l6 l7 l7 G Q) ∧ (¬ (G (G (o + 1) l7) 1 = l3) → PX11_fits_168 J o l1 l3 s0 l6 l7 l6 G Q))))))))
set_option maxRecDepth 20000 in
theorem TX11_fits_144 {j : Nat → rx_K} {J : Nat → List Int → gS → (Int → gS → Prop) → Prop} {o : Int} {l1 : Int} {l2 : Nat} {l3 : Int} {l4 : Nat} {l5 : Int} {l6 : Int} {l7 : Int} {s0 : Int} {G : gS} {Q : Int → gS → Prop} (hl1 : inL l1) (hl2 : l2 % 8 ≠ 1) (hl3 : inL l3) (hl4 : l4 % 8 ≠ 1) (hl5 : inI l5) (hl6 : inI l6) (hl7 : inI l7) (hs0 : inI s0) (hj0 : ∀ (o : Int) (l1 : Int) (l2 : Nat) (l3 : Int) (l4 : Nat) (l5 : Int) (l6 : Int) (l7 : Int) (G : gS), (inL l1) → (l2 % 8 ≠ 1) → (inL l3) → (l4 % 8 ≠ 1) → (inI l5) → (inI l6) → (inI l7) → J 0 [o, l1, l3, l5, l6, l7] G Q → Tg W0 (j 0) [rf (o), cL (l1), l2, cL (l3), l4, cI (l5), cI (l6), cI (l7)] [] G (fun r G => ∃ v, r = cI v ∧ (0 ≤ v ∧ v ≤ 1) ∧ Q v G)) (h : PX11_fits_144 J o l1 l3 l5 l6 l7 s0 G Q) : Tg W0 (vX11_fits_144 j) [rf (o), cL (l1), l2, cL (l3), l4, cI (l5), cI (l6), cI (l7)] [cI (s0)] G (fun r G => ∃ v, r = cI v ∧ (0 ≤ v ∧ v ≤ 1) ∧ Q v G) := by
  unfold PX11_fits_144 at h
  unfold vX11_fits_144
  refine g_st (lv' := [_, _, _, _, _, _, _, _]) (is_I _) (Nat.le_of_ble_eq_true rfl) (Or.inr hl4) rfl ?_
  refine g_ld (v := rf _) rfl (is_R _) ?_
  obtain ⟨q35, h⟩ := h
  refine g_getF q35 (ff11_1 q35).1 rfl (Nat.le_of_ble_eq_true rfl) (Nat.le_of_ble_eq_true rfl) ?_
  refine g_ld (v := cI _) rfl (is_I _) ?_
  obtain ⟨q36, q37, h⟩ := h
  refine g_aldRF (c := 10) (ff11_1 q35).2 q36 q37 rfl (by decide) fun i38 => ?_
  replace h := h i38
  obtain ⟨q39, h⟩ := h
  refine g_getL (kz := 1) q39 rfl (Nat.le_of_ble_eq_true rfl) rfl fun i40 => ?_
  replace h := h i40
  refine g_ld (v := cL _) rfl (is_L _) ?_
  refine g_leq i40 hl3 (fun b41 => ?_) (fun b41 => ?_)
  · replace h := h.1 b41
    unfold vX11_fits_161
    refine g_ld (v := cI _) rfl (is_I _) ?_
    exact TX11_fits_168 hl1 hl2 hl3 hl4 hs0 hl6 hl7 hl7 hj0 h
  · replace h := h.2 b41
    unfold vX11_fits_166
    refine g_ld (v := cI _) rfl (is_I _) ?_
    exact TX11_fits_168 hl1 hl2 hl3 hl4 hs0 hl6 hl7 hl6 hj0 h
def PX11_fits_113 (J : Nat → List Int → gS → (Int → gS → Prop) → Prop) (o : Int) (l1 : Int) (l3 : Int) (l5 : Int) (l6 : Int) (l7 : Int) (G : gS) (Q : Int → gS → Prop) : Prop :=
  (isO W0 11 (o) ∧ (inI (G o 2) → ((l7 < G o 2 → ((0 : Int) ≤ l7 ∧ ((l7 : Int) < 64 ∧ (((G (o + 1) l7 = -1 ∨ isO W0 10 (G (o + 1) l7)) ∧ ∀ v, W0.2 (o + 1) l7 = some v → G (o + 1) l7 = v) → (isO W0 10 (G (o + 1) l7) ∧ (inL (G (G (o + 1) l7) 1) → ((G (G (o + 1) l7) 1 = l1 → PX11_fits_144 J o l1 l3 l5 l6 l7 l7 G Q) ∧ (¬ (G (G (o + 1) l7) 1 = l1) → PX11_fits_144 J o l1 l3 l5 l6 l7 l5 G Q)))))))) ∧ (¬ (l7 < G o 2) → ((l5 < 0 → PX11_fits_225 J o l1 l3 l5 l6 l7 G Q) ∧ (¬ (l5 < 0) → ((l6 < 0 → PX11_fits_225 J o l1 l3 l5 l6 l7 G Q) ∧ (¬ (l6 < 0) → ((0 : Int) ≤ l5 ∧ ((l5 : Int) < 64 ∧ (inL (G (o + 8) l5) → (inL (lush (G (o + 8) l5) l6) → (inL (land (lush (G (o + 8) l5) l6) 1) → ((land (lush (G (o + 8) l5) l6) 1 = 0 → ((l6 = 0 → ((0 : Int) ≤ l5 ∧ ((l5 : Int) < 64 ∧ (((G (o + 1) l5 = -1 ∨ isO W0 10 (G (o + 1) l5)) ∧ ∀ v, W0.2 (o + 1) l5 = some v → G (o + 1) l5 = v) → (isO W0 10 (G (o + 1) l5) ∧ ((0 ≤ G (G (o + 1) l5) 4 ∧ G (G (o + 1) l5) 4 ≤ 1) → ((G (G (o + 1) l5) 4 = 0 → PX11_fits_225 J o l1 l3 l5 l6 l7 G Q) ∧ (¬ (G (G (o + 1) l5) 4 = 0) → PX11_fits_221 J o l1 l3 l5 l6 l7 G Q)))))))) ∧ (¬ (l6 = 0) → PX11_fits_225 J o l1 l3 l5 l6 l7 G Q))) ∧ (¬ (land (lush (G (o + 8) l5) l6) 1 = 0) → PX11_fits_221 J o l1 l3 l5 l6 l7 G Q)))))))))))))))
set_option maxRecDepth 20000 in
theorem TX11_fits_113 {j : Nat → rx_K} {J : Nat → List Int → gS → (Int → gS → Prop) → Prop} {o : Int} {l1 : Int} {l2 : Nat} {l3 : Int} {l4 : Nat} {l5 : Int} {l6 : Int} {l7 : Int} {G : gS} {Q : Int → gS → Prop} (hl1 : inL l1) (hl2 : l2 % 8 ≠ 1) (hl3 : inL l3) (hl4 : l4 % 8 ≠ 1) (hl5 : inI l5) (hl6 : inI l6) (hl7 : inI l7) (hj0 : ∀ (o : Int) (l1 : Int) (l2 : Nat) (l3 : Int) (l4 : Nat) (l5 : Int) (l6 : Int) (l7 : Int) (G : gS), (inL l1) → (l2 % 8 ≠ 1) → (inL l3) → (l4 % 8 ≠ 1) → (inI l5) → (inI l6) → (inI l7) → J 0 [o, l1, l3, l5, l6, l7] G Q → Tg W0 (j 0) [rf (o), cL (l1), l2, cL (l3), l4, cI (l5), cI (l6), cI (l7)] [] G (fun r G => ∃ v, r = cI v ∧ (0 ≤ v ∧ v ≤ 1) ∧ Q v G)) (h : PX11_fits_113 J o l1 l3 l5 l6 l7 G Q) : Tg W0 (vX11_fits_113 j) [rf (o), cL (l1), l2, cL (l3), l4, cI (l5), cI (l6), cI (l7)] [] G (fun r G => ∃ v, r = cI v ∧ (0 ≤ v ∧ v ≤ 1) ∧ Q v G) := by
  unfold PX11_fits_113 at h
  unfold vX11_fits_113
  refine g_ld (v := cI _) rfl (is_I _) ?_
  refine g_ld (v := rf _) rfl (is_R _) ?_
  obtain ⟨q11, h⟩ := h
  refine g_getI (kz := 2) q11 rfl (Nat.le_of_ble_eq_true rfl) rfl fun i12 => ?_
  replace h := h i12
  refine g_lt2 hl7 i12 (fun b13 => ?_) (fun b13 => ?_)
  · replace h := h.1 b13
    unfold vX11_fits_122
    refine g_ld (v := rf _) rfl (is_R _) ?_
    refine g_getF q11 (ff11_1 q11).1 rfl (Nat.le_of_ble_eq_true rfl) (Nat.le_of_ble_eq_true rfl) ?_
    refine g_ld (v := cI _) rfl (is_I _) ?_
    obtain ⟨q14, q15, h⟩ := h
    refine g_aldRF (c := 10) (ff11_1 q11).2 q14 q15 rfl (by decide) fun i16 => ?_
    replace h := h i16
    obtain ⟨q17, h⟩ := h
    refine g_getL (kz := 1) q17 rfl (Nat.le_of_ble_eq_true rfl) rfl fun i18 => ?_
    replace h := h i18
    refine g_ld (v := cL _) rfl (is_L _) ?_
    refine g_leq i18 hl1 (fun b19 => ?_) (fun b19 => ?_)
    · replace h := h.1 b19
      unfold vX11_fits_137
      refine g_ld (v := cI _) rfl (is_I _) ?_
      exact TX11_fits_144 hl1 hl2 hl3 hl4 hl5 hl6 hl7 hl7 hj0 h
    · replace h := h.2 b19
      unfold vX11_fits_142
      refine g_ld (v := cI _) rfl (is_I _) ?_
      exact TX11_fits_144 hl1 hl2 hl3 hl4 hl5 hl6 hl7 hl5 hj0 h
  · replace h := h.2 b13
    unfold vX11_fits_176
    refine g_ld (v := cI _) rfl (is_I _) ?_
    refine g_lt1 hl5 (fun b20 => ?_) (fun b20 => ?_)
    · replace h := h.1 b20
      exact TX11_fits_225 hl1 hl2 hl3 hl4 hl5 hl6 hl7 hj0 h
    · replace h := h.2 b20
      unfold vX11_fits_181
      refine g_ld (v := cI _) rfl (is_I _) ?_
      refine g_lt1 hl6 (fun b21 => ?_) (fun b21 => ?_)
      · replace h := h.1 b21
        exact TX11_fits_225 hl1 hl2 hl3 hl4 hl5 hl6 hl7 hj0 h
      · replace h := h.2 b21
        unfold vX11_fits_186
        refine g_ld (v := rf _) rfl (is_R _) ?_
        refine g_getF q11 (ff11_9 q11).1 rfl (Nat.le_of_ble_eq_true rfl) (Nat.le_of_ble_eq_true rfl) ?_
        refine g_ld (v := cI _) rfl (is_I _) ?_
        obtain ⟨q22, q23, h⟩ := h
        refine g_aldL (ff11_9 q11).2 q22 q23 rfl fun i24 => ?_
        replace h := h i24
        refine g_ld (v := cI _) rfl (is_I _) ?_
        refine g_lush fun i25 => ?_
        replace h := h i25
        refine g_const (v := cL (1)) rfl ?_
        refine g_land fun i26 => ?_
        replace h := h i26
        refine g_const (v := cL (0)) rfl ?_
        refine g_leq i26 ⟨by omega, by omega⟩ (fun b27 => ?_) (fun b27 => ?_)
        · replace h := h.1 b27
          unfold vX11_fits_203
          refine g_ld (v := cI _) rfl (is_I _) ?_
          refine g_eq1 hl6 (fun b28 => ?_) (fun b28 => ?_)
          · replace h := h.1 b28
            unfold vX11_fits_208
            refine g_ld (v := rf _) rfl (is_R _) ?_
            refine g_getF q11 (ff11_1 q11).1 rfl (Nat.le_of_ble_eq_true rfl) (Nat.le_of_ble_eq_true rfl) ?_
            refine g_ld (v := cI _) rfl (is_I _) ?_
            obtain ⟨q29, q30, h⟩ := h
            refine g_aldRF (c := 10) (ff11_1 q11).2 q29 q30 rfl (by decide) fun i31 => ?_
            replace h := h i31
            obtain ⟨q32, h⟩ := h
            refine g_getZ (kz := 4) q32 rfl (Nat.le_of_ble_eq_true rfl) rfl fun i33 => ?_
            replace h := h i33
            refine g_eq1 ⟨by omega, by omega⟩ (fun b34 => ?_) (fun b34 => ?_)
            · replace h := h.1 b34
              exact TX11_fits_225 hl1 hl2 hl3 hl4 hl5 hl6 hl7 hj0 h
            · replace h := h.2 b34
              exact TX11_fits_221 hl1 hl2 hl3 hl4 hl5 hl6 hl7 hj0 h
          · replace h := h.2 b28
            exact TX11_fits_225 hl1 hl2 hl3 hl4 hl5 hl6 hl7 hj0 h
        · replace h := h.2 b27
          exact TX11_fits_221 hl1 hl2 hl3 hl4 hl5 hl6 hl7 hj0 h
def PX11_fits_108 (J : Nat → List Int → gS → (Int → gS → Prop) → Prop) (o : Int) (l1 : Int) (l3 : Int) (l5 : Int) (s0 : Int) (G : gS) (Q : Int → gS → Prop) : Prop :=
  PX11_fits_113 J o l1 l3 l5 s0 2 G Q
set_option maxRecDepth 20000 in
theorem TX11_fits_108 {j : Nat → rx_K} {J : Nat → List Int → gS → (Int → gS → Prop) → Prop} {o : Int} {l1 : Int} {l2 : Nat} {l3 : Int} {l4 : Nat} {l5 : Int} {l6 : Nat} {l7 : Nat} {s0 : Int} {G : gS} {Q : Int → gS → Prop} (hl1 : inL l1) (hl2 : l2 % 8 ≠ 1) (hl3 : inL l3) (hl4 : l4 % 8 ≠ 1) (hl5 : inI l5) (hl6 : l6 % 8 ≠ 1) (hl7 : l7 % 8 ≠ 1) (hs0 : inI s0) (hj0 : ∀ (o : Int) (l1 : Int) (l2 : Nat) (l3 : Int) (l4 : Nat) (l5 : Int) (l6 : Int) (l7 : Int) (G : gS), (inL l1) → (l2 % 8 ≠ 1) → (inL l3) → (l4 % 8 ≠ 1) → (inI l5) → (inI l6) → (inI l7) → J 0 [o, l1, l3, l5, l6, l7] G Q → Tg W0 (j 0) [rf (o), cL (l1), l2, cL (l3), l4, cI (l5), cI (l6), cI (l7)] [] G (fun r G => ∃ v, r = cI v ∧ (0 ≤ v ∧ v ≤ 1) ∧ Q v G)) (h : PX11_fits_108 J o l1 l3 l5 s0 G Q) : Tg W0 (vX11_fits_108 j) [rf (o), cL (l1), l2, cL (l3), l4, cI (l5), l6, l7] [cI (s0)] G (fun r G => ∃ v, r = cI v ∧ (0 ≤ v ∧ v ≤ 1) ∧ Q v G) := by
  unfold PX11_fits_108 at h
  unfold vX11_fits_108
  refine g_st (lv' := [_, _, _, _, _, _, _, _]) (is_I _) (Nat.le_of_ble_eq_true rfl) (Or.inr (n1_I _)) rfl ?_
  refine g_const (v := cI (2)) rfl ?_
  refine g_st (lv' := [_, _, _, _, _, _, _, _]) (is_I _) (Nat.le_of_ble_eq_true rfl) (Or.inr (n1_I _)) rfl ?_
  exact TX11_fits_113 hl1 hl2 hl3 hl4 hl5 hs0 ⟨by omega, by omega⟩ hj0 h
def PX11_fits_80 (J : Nat → List Int → gS → (Int → gS → Prop) → Prop) (o : Int) (l1 : Int) (l3 : Int) (s0 : Int) (G : gS) (Q : Int → gS → Prop) : Prop :=
  ((l3 = -4031174665287237632 → PX11_fits_108 J o l1 l3 s0 0 G Q) ∧ (¬ (l3 = -4031174665287237632) → ((l3 = -3887679601769447424 → PX11_fits_108 J o l1 l3 s0 1 G Q) ∧ (¬ (l3 = -3887679601769447424) → PX11_fits_108 J o l1 l3 s0 (-2) G Q))))
set_option maxRecDepth 20000 in
theorem TX11_fits_80 {j : Nat → rx_K} {J : Nat → List Int → gS → (Int → gS → Prop) → Prop} {o : Int} {l1 : Int} {l2 : Nat} {l3 : Int} {l4 : Nat} {l5 : Nat} {l6 : Nat} {l7 : Nat} {s0 : Int} {G : gS} {Q : Int → gS → Prop} (hl1 : inL l1) (hl2 : l2 % 8 ≠ 1) (hl3 : inL l3) (hl4 : l4 % 8 ≠ 1) (hl5 : l5 % 8 ≠ 1) (hl6 : l6 % 8 ≠ 1) (hl7 : l7 % 8 ≠ 1) (hs0 : inI s0) (hj0 : ∀ (o : Int) (l1 : Int) (l2 : Nat) (l3 : Int) (l4 : Nat) (l5 : Int) (l6 : Int) (l7 : Int) (G : gS), (inL l1) → (l2 % 8 ≠ 1) → (inL l3) → (l4 % 8 ≠ 1) → (inI l5) → (inI l6) → (inI l7) → J 0 [o, l1, l3, l5, l6, l7] G Q → Tg W0 (j 0) [rf (o), cL (l1), l2, cL (l3), l4, cI (l5), cI (l6), cI (l7)] [] G (fun r G => ∃ v, r = cI v ∧ (0 ≤ v ∧ v ≤ 1) ∧ Q v G)) (h : PX11_fits_80 J o l1 l3 s0 G Q) : Tg W0 (vX11_fits_80 j) [rf (o), cL (l1), l2, cL (l3), l4, l5, l6, l7] [cI (s0)] G (fun r G => ∃ v, r = cI v ∧ (0 ≤ v ∧ v ≤ 1) ∧ Q v G) := by
  unfold PX11_fits_80 at h
  unfold vX11_fits_80
  refine g_st (lv' := [_, _, _, _, _, _, _, _]) (is_I _) (Nat.le_of_ble_eq_true rfl) (Or.inr hl4) rfl ?_
  refine g_ld (v := cL _) rfl (is_L _) ?_
  refine g_const (v := cL (-4031174665287237632)) rfl ?_
  refine g_leq hl3 ⟨by omega, by omega⟩ (fun b9 => ?_) (fun b9 => ?_)
  · replace h := h.1 b9
    unfold vX11_fits_90
    refine g_const (v := cI (0)) rfl ?_
    exact TX11_fits_108 hl1 hl2 hl3 hl4 hs0 hl6 hl7 ⟨by omega, by omega⟩ hj0 h
  · replace h := h.2 b9
    unfold vX11_fits_94
    refine g_ld (v := cL _) rfl (is_L _) ?_
    refine g_const (v := cL (-3887679601769447424)) rfl ?_
    refine g_leq hl3 ⟨by omega, by omega⟩ (fun b10 => ?_) (fun b10 => ?_)
    · replace h := h.1 b10
      unfold vX11_fits_102
      refine g_const (v := cI (1)) rfl ?_
      exact TX11_fits_108 hl1 hl2 hl3 hl4 hs0 hl6 hl7 ⟨by omega, by omega⟩ hj0 h
    · replace h := h.2 b10
      unfold vX11_fits_106
      refine g_const (v := cI (-2)) rfl ?_
      exact TX11_fits_108 hl1 hl2 hl3 hl4 hs0 hl6 hl7 ⟨by omega, by omega⟩ hj0 h
def PX11_fits_42 (J : Nat → List Int → gS → (Int → gS → Prop) → Prop) (o : Int) (l1 : Int) (l3 : Int) (G : gS) (Q : Int → gS → Prop) : Prop :=
  Q (0) G
set_option maxRecDepth 20000 in
theorem TX11_fits_42 {j : Nat → rx_K} {J : Nat → List Int → gS → (Int → gS → Prop) → Prop} {o : Int} {l1 : Int} {l2 : Nat} {l3 : Int} {l4 : Nat} {l5 : Nat} {l6 : Nat} {l7 : Nat} {G : gS} {Q : Int → gS → Prop} (hl1 : inL l1) (hl2 : l2 % 8 ≠ 1) (hl3 : inL l3) (hl4 : l4 % 8 ≠ 1) (hl5 : l5 % 8 ≠ 1) (hl6 : l6 % 8 ≠ 1) (hl7 : l7 % 8 ≠ 1) (hj0 : ∀ (o : Int) (l1 : Int) (l2 : Nat) (l3 : Int) (l4 : Nat) (l5 : Int) (l6 : Int) (l7 : Int) (G : gS), (inL l1) → (l2 % 8 ≠ 1) → (inL l3) → (l4 % 8 ≠ 1) → (inI l5) → (inI l6) → (inI l7) → J 0 [o, l1, l3, l5, l6, l7] G Q → Tg W0 (j 0) [rf (o), cL (l1), l2, cL (l3), l4, cI (l5), cI (l6), cI (l7)] [] G (fun r G => ∃ v, r = cI v ∧ (0 ≤ v ∧ v ≤ 1) ∧ Q v G)) (h : PX11_fits_42 J o l1 l3 G Q) : Tg W0 (vX11_fits_42 j) [rf (o), cL (l1), l2, cL (l3), l4, l5, l6, l7] [] G (fun r G => ∃ v, r = cI v ∧ (0 ≤ v ∧ v ≤ 1) ∧ Q v G) := by
  unfold PX11_fits_42 at h
  unfold vX11_fits_42
  refine g_const (v := cI (0)) rfl ?_
  exact g_ret1 (is_Z (by omega)) ⟨_, rfl, (by omega), h⟩
def PX11_fits_16 (J : Nat → List Int → gS → (Int → gS → Prop) → Prop) (o : Int) (l1 : Int) (l3 : Int) (G : gS) (Q : Int → gS → Prop) : Prop :=
  Q (0) G
set_option maxRecDepth 20000 in
theorem TX11_fits_16 {j : Nat → rx_K} {J : Nat → List Int → gS → (Int → gS → Prop) → Prop} {o : Int} {l1 : Int} {l2 : Nat} {l3 : Int} {l4 : Nat} {l5 : Nat} {l6 : Nat} {l7 : Nat} {G : gS} {Q : Int → gS → Prop} (hl1 : inL l1) (hl2 : l2 % 8 ≠ 1) (hl3 : inL l3) (hl4 : l4 % 8 ≠ 1) (hl5 : l5 % 8 ≠ 1) (hl6 : l6 % 8 ≠ 1) (hl7 : l7 % 8 ≠ 1) (hj0 : ∀ (o : Int) (l1 : Int) (l2 : Nat) (l3 : Int) (l4 : Nat) (l5 : Int) (l6 : Int) (l7 : Int) (G : gS), (inL l1) → (l2 % 8 ≠ 1) → (inL l3) → (l4 % 8 ≠ 1) → (inI l5) → (inI l6) → (inI l7) → J 0 [o, l1, l3, l5, l6, l7] G Q → Tg W0 (j 0) [rf (o), cL (l1), l2, cL (l3), l4, cI (l5), cI (l6), cI (l7)] [] G (fun r G => ∃ v, r = cI v ∧ (0 ≤ v ∧ v ≤ 1) ∧ Q v G)) (h : PX11_fits_16 J o l1 l3 G Q) : Tg W0 (vX11_fits_16 j) [rf (o), cL (l1), l2, cL (l3), l4, l5, l6, l7] [] G (fun r G => ∃ v, r = cI v ∧ (0 ≤ v ∧ v ≤ 1) ∧ Q v G) := by
  unfold PX11_fits_16 at h
  unfold vX11_fits_16
  refine g_const (v := cI (0)) rfl ?_
  exact g_ret1 (is_Z (by omega)) ⟨_, rfl, (by omega), h⟩
def PX11_fits_0 (J : Nat → List Int → gS → (Int → gS → Prop) → Prop) (o : Int) (a1 : Int) (a3 : Int) (G : gS) (Q : Int → gS → Prop) : Prop :=
  ((a1 = -3 → PX11_fits_16 J o a1 a3 G Q) ∧ (¬ (a1 = -3) → ((a3 = -3 → PX11_fits_16 J o a1 a3 G Q) ∧ (¬ (a3 = -3) → ((a1 = a3 → Q (1) G) ∧ (¬ (a1 = a3) → ((a1 = -1 → PX11_fits_42 J o a1 a3 G Q) ∧ (¬ (a1 = -1) → ((a3 = -1 → PX11_fits_42 J o a1 a3 G Q) ∧ (¬ (a3 = -1) → ((a1 = -2 → Q (1) G) ∧ (¬ (a1 = -2) → ((a1 = -4031174665287237632 → PX11_fits_80 J o a1 a3 0 G Q) ∧ (¬ (a1 = -4031174665287237632) → ((a1 = -3887679601769447424 → PX11_fits_80 J o a1 a3 1 G Q) ∧ (¬ (a1 = -3887679601769447424) → PX11_fits_80 J o a1 a3 (-2) G Q))))))))))))))))
set_option maxRecDepth 20000 in
theorem TX11_fits_0 {j : Nat → rx_K} {J : Nat → List Int → gS → (Int → gS → Prop) → Prop} {o : Int} {a1 : Int} {a3 : Int} {G : gS} {Q : Int → gS → Prop} (ha1 : inL a1) (ha3 : inL a3) (hj0 : ∀ (o : Int) (l1 : Int) (l2 : Nat) (l3 : Int) (l4 : Nat) (l5 : Int) (l6 : Int) (l7 : Int) (G : gS), (inL l1) → (l2 % 8 ≠ 1) → (inL l3) → (l4 % 8 ≠ 1) → (inI l5) → (inI l6) → (inI l7) → J 0 [o, l1, l3, l5, l6, l7] G Q → Tg W0 (j 0) [rf (o), cL (l1), l2, cL (l3), l4, cI (l5), cI (l6), cI (l7)] [] G (fun r G => ∃ v, r = cI v ∧ (0 ≤ v ∧ v ≤ 1) ∧ Q v G)) (h : PX11_fits_0 J o a1 a3 G Q) : Tg W0 (vX11_fits_0 j) [rf (o), cL (a1), 7, cL (a3), 7, 7, 7, 7] [] G (fun r G => ∃ v, r = cI v ∧ (0 ≤ v ∧ v ≤ 1) ∧ Q v G) := by
  unfold PX11_fits_0 at h
  unfold vX11_fits_0
  refine g_ld (v := cL _) rfl (is_L _) ?_
  refine g_const (v := cL (-3)) rfl ?_
  refine g_leq ha1 ⟨by omega, by omega⟩ (fun b1 => ?_) (fun b1 => ?_)
  · replace h := h.1 b1
    exact TX11_fits_16 ha1 (show 7 % 8 ≠ 1 by decide) ha3 (show 7 % 8 ≠ 1 by decide) (show 7 % 8 ≠ 1 by decide) (show 7 % 8 ≠ 1 by decide) (show 7 % 8 ≠ 1 by decide) hj0 h
  · replace h := h.2 b1
    unfold vX11_fits_8
    refine g_ld (v := cL _) rfl (is_L _) ?_
    refine g_const (v := cL (-3)) rfl ?_
    refine g_leq ha3 ⟨by omega, by omega⟩ (fun b2 => ?_) (fun b2 => ?_)
    · replace h := h.1 b2
      exact TX11_fits_16 ha1 (show 7 % 8 ≠ 1 by decide) ha3 (show 7 % 8 ≠ 1 by decide) (show 7 % 8 ≠ 1 by decide) (show 7 % 8 ≠ 1 by decide) (show 7 % 8 ≠ 1 by decide) hj0 h
    · replace h := h.2 b2
      unfold vX11_fits_18
      refine g_ld (v := cL _) rfl (is_L _) ?_
      refine g_ld (v := cL _) rfl (is_L _) ?_
      refine g_leq ha1 ha3 (fun b3 => ?_) (fun b3 => ?_)
      · replace h := h.1 b3
        unfold vX11_fits_24
        refine g_const (v := cI (1)) rfl ?_
        exact g_ret1 (is_Z (by omega)) ⟨_, rfl, (by omega), h⟩
      · replace h := h.2 b3
        unfold vX11_fits_26
        refine g_ld (v := cL _) rfl (is_L _) ?_
        refine g_const (v := cL (-1)) rfl ?_
        refine g_leq ha1 ⟨by omega, by omega⟩ (fun b4 => ?_) (fun b4 => ?_)
        · replace h := h.1 b4
          exact TX11_fits_42 ha1 (show 7 % 8 ≠ 1 by decide) ha3 (show 7 % 8 ≠ 1 by decide) (show 7 % 8 ≠ 1 by decide) (show 7 % 8 ≠ 1 by decide) (show 7 % 8 ≠ 1 by decide) hj0 h
        · replace h := h.2 b4
          unfold vX11_fits_34
          refine g_ld (v := cL _) rfl (is_L _) ?_
          refine g_const (v := cL (-1)) rfl ?_
          refine g_leq ha3 ⟨by omega, by omega⟩ (fun b5 => ?_) (fun b5 => ?_)
          · replace h := h.1 b5
            exact TX11_fits_42 ha1 (show 7 % 8 ≠ 1 by decide) ha3 (show 7 % 8 ≠ 1 by decide) (show 7 % 8 ≠ 1 by decide) (show 7 % 8 ≠ 1 by decide) (show 7 % 8 ≠ 1 by decide) hj0 h
          · replace h := h.2 b5
            unfold vX11_fits_44
            refine g_ld (v := cL _) rfl (is_L _) ?_
            refine g_const (v := cL (-2)) rfl ?_
            refine g_leq ha1 ⟨by omega, by omega⟩ (fun b6 => ?_) (fun b6 => ?_)
            · replace h := h.1 b6
              unfold vX11_fits_52
              refine g_const (v := cI (1)) rfl ?_
              exact g_ret1 (is_Z (by omega)) ⟨_, rfl, (by omega), h⟩
            · replace h := h.2 b6
              unfold vX11_fits_54
              refine g_ld (v := cL _) rfl (is_L _) ?_
              refine g_const (v := cL (-4031174665287237632)) rfl ?_
              refine g_leq ha1 ⟨by omega, by omega⟩ (fun b7 => ?_) (fun b7 => ?_)
              · replace h := h.1 b7
                unfold vX11_fits_62
                refine g_const (v := cI (0)) rfl ?_
                exact TX11_fits_80 ha1 (show 7 % 8 ≠ 1 by decide) ha3 (show 7 % 8 ≠ 1 by decide) (show 7 % 8 ≠ 1 by decide) (show 7 % 8 ≠ 1 by decide) (show 7 % 8 ≠ 1 by decide) ⟨by omega, by omega⟩ hj0 h
              · replace h := h.2 b7
                unfold vX11_fits_66
                refine g_ld (v := cL _) rfl (is_L _) ?_
                refine g_const (v := cL (-3887679601769447424)) rfl ?_
                refine g_leq ha1 ⟨by omega, by omega⟩ (fun b8 => ?_) (fun b8 => ?_)
                · replace h := h.1 b8
                  unfold vX11_fits_74
                  refine g_const (v := cI (1)) rfl ?_
                  exact TX11_fits_80 ha1 (show 7 % 8 ≠ 1 by decide) ha3 (show 7 % 8 ≠ 1 by decide) (show 7 % 8 ≠ 1 by decide) (show 7 % 8 ≠ 1 by decide) (show 7 % 8 ≠ 1 by decide) ⟨by omega, by omega⟩ hj0 h
                · replace h := h.2 b8
                  unfold vX11_fits_78
                  refine g_const (v := cI (-2)) rfl ?_
                  exact TX11_fits_80 ha1 (show 7 % 8 ≠ 1 by decide) ha3 (show 7 % 8 ≠ 1 by decide) (show 7 % 8 ≠ 1 by decide) (show 7 % 8 ≠ 1 by decide) (show 7 % 8 ≠ 1 by decide) ⟨by omega, by omega⟩ hj0 h
def PX11_fits_J : Nat → Nat → List Int → gS → (Int → gS → Prop) → Prop
  | 0, _, _, _, _ => False
  | f + 1, h, L, G, Q => match h, L with
    | 0, [o, l1, l3, l5, l6, l7] => PX11_fits_113 (PX11_fits_J f) o l1 l3 l5 l6 l7 G Q
    | _, _ => False
theorem TX11_fits_J {Q : Int → gS → Prop} : ∀ f N : Nat, f ≤ N → (∀ (o : Int) (l1 : Int) (l2 : Nat) (l3 : Int) (l4 : Nat) (l5 : Int) (l6 : Int) (l7 : Int) (G : gS), (inL l1) → (l2 % 8 ≠ 1) → (inL l3) → (l4 % 8 ≠ 1) → (inI l5) → (inI l6) → (inI l7) → (PX11_fits_J f) 0 [o, l1, l3, l5, l6, l7] G Q → Tg W0 (rx_J vhX11_fits N 0) [rf (o), cL (l1), l2, cL (l3), l4, cI (l5), cI (l6), cI (l7)] [] G (fun r G => ∃ v, r = cI v ∧ (0 ≤ v ∧ v ≤ 1) ∧ Q v G)) := by
  intro f
  induction f with
  | zero => exact fun N _ => fun _ _ _ _ _ _ _ _ _ _ _ _ _ _ _ _ h => h.elim
  | succ f ih =>
    intro N hN
    obtain ⟨M, rfl⟩ : ∃ M, N = M + 1 := ⟨N - 1, by omega⟩
    have ih := ih M (by omega)
    exact fun _ _ _ _ _ _ _ _ _ hl1 hl2 hl3 hl4 hl5 hl6 hl7 h => show Tg W0 (vX11_fits_113 (rx_J vhX11_fits M)) _ _ _ _ from TX11_fits_113 hl1 hl2 hl3 hl4 hl5 hl6 hl7 ih h
def PX11_fits (o : Int) (a1 : Int) (a3 : Int) (G : gS) (Q : Int → gS → Prop) : Prop := ∃ f : Nat, f ≤ 4000000000 ∧ PX11_fits_0 (PX11_fits_J f) o a1 a3 G Q
theorem TX11_fits {o : Int} {a1 : Int} {a3 : Int} {G : gS} {Q : Int → gS → Prop} (ha1 : inL a1) (ha3 : inL a3) (h : PX11_fits o a1 a3 G Q) : Tn W0 FX11_fits [rf (o), cL (a1), cL (a3)] G (fun r G => ∃ v, r = cI v ∧ (0 ≤ v ∧ v ≤ 1) ∧ Q v G) := by
  obtain ⟨f, hf, h⟩ := h
  have hJ := TX11_fits_J (Q := Q) f 4000000000 hf
  unfold FX11_fits
  refine g_ent (lv' := [rf (o), cL (a1), 7, cL (a3), 7, 7, 7, 7]) (flR (flL (flL fl0))) (Nat.le_of_ble_eq_true rfl) rfl ?_
  exact TX11_fits_0 ha1 ha3 hJ h
def PX0_wanted_33 (l1 : Int) (l2 : Int) (s0 : Int) (G : gS) (Q : Int → gS → Prop) : Prop :=
  ((0 ≤ s0 ∧ s0 ≤ 1) ∧ Q (s0) G)
set_option maxRecDepth 20000 in
theorem TX0_wanted_33 {l1 : Int} {l2 : Int} {l3 : Nat} {s0 : Int} {G : gS} {Q : Int → gS → Prop} (hl2 : inL l2) (hl3 : l3 % 8 ≠ 1) (hs0 : inI s0) (h : PX0_wanted_33 l1 l2 s0 G Q) : Tg W0 vX0_wanted_33 [rf (815), rf (l1), cL (l2), l3] [cI (s0)] G (fun r G => ∃ v, r = cI v ∧ (0 ≤ v ∧ v ≤ 1) ∧ Q v G) := by
  unfold PX0_wanted_33 at h
  unfold vX0_wanted_33
  obtain ⟨q14, h⟩ := h
  exact g_ret1 (is_Z q14) ⟨_, rfl, q14, h⟩
def PX0_wanted_28 (l1 : Int) (l2 : Int) (G : gS) (Q : Int → gS → Prop) : Prop :=
  PX0_wanted_33 l1 l2 1 G Q
set_option maxRecDepth 20000 in
theorem TX0_wanted_28 {l1 : Int} {l2 : Int} {l3 : Nat} {G : gS} {Q : Int → gS → Prop} (hl2 : inL l2) (hl3 : l3 % 8 ≠ 1) (h : PX0_wanted_28 l1 l2 G Q) : Tg W0 vX0_wanted_28 [rf (815), rf (l1), cL (l2), l3] [] G (fun r G => ∃ v, r = cI v ∧ (0 ≤ v ∧ v ≤ 1) ∧ Q v G) := by
  unfold PX0_wanted_28 at h
  unfold vX0_wanted_28
  refine g_const (v := cI (1)) rfl ?_
  exact TX0_wanted_33 hl2 hl3 ⟨by omega, by omega⟩ h
def PX0_wanted_0 (a1 : Int) (a2 : Int) (G : gS) (Q : Int → gS → Prop) : Prop :=
  ((G 815 0 = -1 ∨ isO W0 11 (G 815 0)) → (isO W0 8 (a1) ∧ (inL (G a1 9) → (isO W0 11 (G 815 0) ∧ PX11_fits (G 815 0) (G a1 9) a2 G (fun r6 G5 => (0 ≤ r6 ∧ r6 ≤ 1) → ((r6 = 0 → (inI (G5 a1 1) → PX0_fail 13 (G5 a1 1) G5 (fun r11 G10 => (0 ≤ r11 ∧ r11 ≤ 1) → ((r11 = 0 → PX0_wanted_33 a1 a2 0 G10 Q) ∧ (¬ (r11 = 0) → PX0_wanted_28 a1 a2 G10 Q))))) ∧ (¬ (r6 = 0) → PX0_wanted_28 a1 a2 G5 Q)))))))
set_option maxRecDepth 20000 in
theorem TX0_wanted_0 {a1 : Int} {a2 : Int} {G : gS} {Q : Int → gS → Prop} (ha2 : inL a2) (h : PX0_wanted_0 a1 a2 G Q) : Tg W0 vX0_wanted_0 [rf (815), rf (a1), cL (a2), 7] [] G (fun r G => ∃ v, r = cI v ∧ (0 ≤ v ∧ v ≤ 1) ∧ Q v G) := by
  unfold PX0_wanted_0 at h
  unfold vX0_wanted_0
  refine g_ld (v := rf _) rfl (is_R _) ?_
  refine g_getR (kz := 0) (c := 11) oC0 rfl (Nat.le_of_ble_eq_true rfl) rfl (by decide) fun i1 => ?_
  replace h := h i1
  refine g_ld (v := rf _) rfl (is_R _) ?_
  obtain ⟨q2, h⟩ := h
  refine g_getL (kz := 9) q2 rfl (Nat.le_of_ble_eq_true rfl) rfl fun i3 => ?_
  replace h := h i3
  refine g_ld (v := cL _) rfl (is_L _) ?_
  obtain ⟨q4, h⟩ := h
  refine g_callV (As := [_, _]) (ci := 11) q4 (fun _ => rfl) ?_
  refine g_go1 (Nat.le_of_ble_eq_true rfl) (Tn_w (TX11_fits i3 ha2 h) fun _ G5 ⟨r6, e, i7, h⟩ => ?_)
  subst e
  refine ⟨n7_I _, ?_⟩
  replace h := h i7
  refine g_eq1 ⟨by omega, by omega⟩ (fun b8 => ?_) (fun b8 => ?_)
  · replace h := h.1 b8
    unfold vX0_wanted_15
    refine g_ld (v := rf _) rfl (is_R _) ?_
    refine g_const (v := cI (13)) rfl ?_
    refine g_ld (v := rf _) rfl (is_R _) ?_
    refine g_getI (kz := 1) q2 rfl (Nat.le_of_ble_eq_true rfl) rfl fun i9 => ?_
    replace h := h i9
    refine g_callV (As := [_, _]) (ci := 0) oC0 (fun _ => rfl) ?_
    refine g_go1 (Nat.le_of_ble_eq_true rfl) (Tn_w (TX0_fail ⟨by omega, by omega⟩ i9 h) fun _ G10 ⟨r11, e, i12, h⟩ => ?_)
    subst e
    refine ⟨n7_I _, ?_⟩
    replace h := h i12
    refine g_eq1 ⟨by omega, by omega⟩ (fun b13 => ?_) (fun b13 => ?_)
    · replace h := h.1 b13
      unfold vX0_wanted_32
      refine g_const (v := cI (0)) rfl ?_
      exact TX0_wanted_33 ha2 (show 7 % 8 ≠ 1 by decide) ⟨by omega, by omega⟩ h
    · replace h := h.2 b13
      exact TX0_wanted_28 ha2 (show 7 % 8 ≠ 1 by decide) h
  · replace h := h.2 b8
    exact TX0_wanted_28 ha2 (show 7 % 8 ≠ 1 by decide) h
abbrev PX0_wanted (a1 : Int) (a2 : Int) (G : gS) (Q : Int → gS → Prop) : Prop := PX0_wanted_0 a1 a2 G Q
theorem TX0_wanted {a1 : Int} {a2 : Int} {G : gS} {Q : Int → gS → Prop} (ha2 : inL a2) (h : PX0_wanted a1 a2 G Q) : Tn W0 FX0_wanted [rf (815), rf (a1), cL (a2)] G (fun r G => ∃ v, r = cI v ∧ (0 ≤ v ∧ v ≤ 1) ∧ Q v G) := by
  unfold FX0_wanted
  refine g_ent (lv' := [rf (815), rf (a1), cL (a2), 7]) (flR (flR (flL fl0))) (Nat.le_of_ble_eq_true rfl) rfl ?_
  exact TX0_wanted_0 ha2 h
def PX10_field_60 (J : Nat → List Int → gS → (Int → gS → Prop) → Prop) (o : Int) (l1 : Int) (l3 : Int) (l5 : Int) (l6 : Int) (G : gS) (Q : Int → gS → Prop) : Prop :=
  (inI (l5 + 1) ∧ J 0 [o, l1, l3, l5 + 1] G Q)
set_option maxRecDepth 20000 in
theorem TX10_field_60 {j : Nat → rx_K} {J : Nat → List Int → gS → (Int → gS → Prop) → Prop} {o : Int} {l1 : Int} {l2 : Nat} {l3 : Int} {l4 : Nat} {l5 : Int} {l6 : Int} {G : gS} {Q : Int → gS → Prop} (hl1 : inL l1) (hl2 : l2 % 8 ≠ 1) (hl3 : inL l3) (hl4 : l4 % 8 ≠ 1) (hl5 : inI l5) (hj0 : ∀ (o : Int) (l1 : Int) (l2 : Nat) (l3 : Int) (l4 : Nat) (l5 : Int) (l6 : Nat) (G : gS), (inL l1) → (l2 % 8 ≠ 1) → (inL l3) → (l4 % 8 ≠ 1) → (inI l5) → (l6 % 8 ≠ 1) → J 0 [o, l1, l3, l5] G Q → Tg W0 (j 0) [rf (o), cL (l1), l2, cL (l3), l4, cI (l5), l6] [] G (fun r G => ∃ v, r = rf v ∧ Q v G)) (h : PX10_field_60 J o l1 l3 l5 l6 G Q) : Tg W0 (vX10_field_60 j) [rf (o), cL (l1), l2, cL (l3), l4, cI (l5), rf (l6)] [] G (fun r G => ∃ v, r = rf v ∧ Q v G) := by
  unfold PX10_field_60 at h
  unfold vX10_field_60
  refine g_inc (lv' := [_, _, _, _, _, _, _]) rfl (Nat.le_of_ble_eq_true rfl) (Or.inr hl4) rfl ?_
  obtain ⟨q15, h⟩ := h
  exact hj0 _ _ _ _ _ _ _ _ hl1 hl2 hl3 hl4 q15 (n1_R _) h
def PX10_field_57 (J : Nat → List Int → gS → (Int → gS → Prop) → Prop) (o : Int) (l1 : Int) (l3 : Int) (l5 : Int) (l6 : Int) (G : gS) (Q : Int → gS → Prop) : Prop :=
  Q (l6) G
set_option maxRecDepth 20000 in
theorem TX10_field_57 {j : Nat → rx_K} {J : Nat → List Int → gS → (Int → gS → Prop) → Prop} {o : Int} {l1 : Int} {l2 : Nat} {l3 : Int} {l4 : Nat} {l5 : Int} {l6 : Int} {G : gS} {Q : Int → gS → Prop} (hl1 : inL l1) (hl2 : l2 % 8 ≠ 1) (hl3 : inL l3) (hl4 : l4 % 8 ≠ 1) (hl5 : inI l5) (hj0 : ∀ (o : Int) (l1 : Int) (l2 : Nat) (l3 : Int) (l4 : Nat) (l5 : Int) (l6 : Nat) (G : gS), (inL l1) → (l2 % 8 ≠ 1) → (inL l3) → (l4 % 8 ≠ 1) → (inI l5) → (l6 % 8 ≠ 1) → J 0 [o, l1, l3, l5] G Q → Tg W0 (j 0) [rf (o), cL (l1), l2, cL (l3), l4, cI (l5), l6] [] G (fun r G => ∃ v, r = rf v ∧ Q v G)) (h : PX10_field_57 J o l1 l3 l5 l6 G Q) : Tg W0 (vX10_field_57 j) [rf (o), cL (l1), l2, cL (l3), l4, cI (l5), rf (l6)] [] G (fun r G => ∃ v, r = rf v ∧ Q v G) := by
  unfold PX10_field_57 at h
  unfold vX10_field_57
  refine g_ld (v := rf _) rfl (is_R _) ?_
  exact g_ret1 (is_R _) ⟨_, rfl, h⟩
def PX10_field_3 (J : Nat → List Int → gS → (Int → gS → Prop) → Prop) (o : Int) (l1 : Int) (l3 : Int) (l5 : Int) (G : gS) (Q : Int → gS → Prop) : Prop :=
  (isO W0 10 (o) ∧ (inI (G o 15) → ((l5 < G o 15 → ((0 : Int) ≤ l5 ∧ ((l5 : Int) < 33 ∧ (((G (o + 4) l5 = -1 ∨ isO W0 7 (G (o + 4) l5)) ∧ ∀ v, W0.2 (o + 4) l5 = some v → G (o + 4) l5 = v) → (isO W0 7 (G (o + 4) l5) ∧ (inI (G (G (o + 4) l5) 0) → ((G (G (o + 4) l5) 0 = 0 → (inL (G (G (o + 4) l5) 7) → ((G (G (o + 4) l5) 7 = l1 → ((l3 = -4 → PX10_field_57 J o l1 l3 l5 (G (o + 4) l5) G Q) ∧ (¬ (l3 = -4) → (inL (G (G (o + 4) l5) 8) → ((G (G (o + 4) l5) 8 = l3 → PX10_field_57 J o l1 l3 l5 (G (o + 4) l5) G Q) ∧ (¬ (G (G (o + 4) l5) 8 = l3) → PX10_field_60 J o l1 l3 l5 (G (o + 4) l5) G Q)))))) ∧ (¬ (G (G (o + 4) l5) 7 = l1) → PX10_field_60 J o l1 l3 l5 (G (o + 4) l5) G Q)))) ∧ (¬ (G (G (o + 4) l5) 0 = 0) → PX10_field_60 J o l1 l3 l5 (G (o + 4) l5) G Q)))))))) ∧ (¬ (l5 < G o 15) → Q (-1) G))))
set_option maxRecDepth 20000 in
theorem TX10_field_3 {j : Nat → rx_K} {J : Nat → List Int → gS → (Int → gS → Prop) → Prop} {o : Int} {l1 : Int} {l2 : Nat} {l3 : Int} {l4 : Nat} {l5 : Int} {l6 : Nat} {G : gS} {Q : Int → gS → Prop} (hl1 : inL l1) (hl2 : l2 % 8 ≠ 1) (hl3 : inL l3) (hl4 : l4 % 8 ≠ 1) (hl5 : inI l5) (hl6 : l6 % 8 ≠ 1) (hj0 : ∀ (o : Int) (l1 : Int) (l2 : Nat) (l3 : Int) (l4 : Nat) (l5 : Int) (l6 : Nat) (G : gS), (inL l1) → (l2 % 8 ≠ 1) → (inL l3) → (l4 % 8 ≠ 1) → (inI l5) → (l6 % 8 ≠ 1) → J 0 [o, l1, l3, l5] G Q → Tg W0 (j 0) [rf (o), cL (l1), l2, cL (l3), l4, cI (l5), l6] [] G (fun r G => ∃ v, r = rf v ∧ Q v G)) (h : PX10_field_3 J o l1 l3 l5 G Q) : Tg W0 (vX10_field_3 j) [rf (o), cL (l1), l2, cL (l3), l4, cI (l5), l6] [] G (fun r G => ∃ v, r = rf v ∧ Q v G) := by
  unfold PX10_field_3 at h
  unfold vX10_field_3
  refine g_ld (v := cI _) rfl (is_I _) ?_
  refine g_ld (v := rf _) rfl (is_R _) ?_
  obtain ⟨q1, h⟩ := h
  refine g_getI (kz := 15) q1 rfl (Nat.le_of_ble_eq_true rfl) rfl fun i2 => ?_
  replace h := h i2
  refine g_lt2 hl5 i2 (fun b3 => ?_) (fun b3 => ?_)
  · replace h := h.1 b3
    unfold vX10_field_12
    refine g_ld (v := rf _) rfl (is_R _) ?_
    refine g_getF q1 (ff10_14 q1).1 rfl (Nat.le_of_ble_eq_true rfl) (Nat.le_of_ble_eq_true rfl) ?_
    refine g_ld (v := cI _) rfl (is_I _) ?_
    obtain ⟨q4, q5, h⟩ := h
    refine g_aldRF (c := 7) (ff10_14 q1).2 q4 q5 rfl (by decide) fun i6 => ?_
    replace h := h i6
    refine g_st (lv' := [_, _, _, _, _, _, _]) (is_R _) (Nat.le_of_ble_eq_true rfl) (Or.inr (n1_I _)) rfl ?_
    refine g_ld (v := rf _) rfl (is_R _) ?_
    obtain ⟨q7, h⟩ := h
    refine g_getI (kz := 0) q7 rfl (Nat.le_of_ble_eq_true rfl) rfl fun i8 => ?_
    replace h := h i8
    refine g_eq1 i8 (fun b9 => ?_) (fun b9 => ?_)
    · replace h := h.1 b9
      unfold vX10_field_29
      refine g_ld (v := rf _) rfl (is_R _) ?_
      refine g_getL (kz := 7) q7 rfl (Nat.le_of_ble_eq_true rfl) rfl fun i10 => ?_
      replace h := h i10
      refine g_ld (v := cL _) rfl (is_L _) ?_
      refine g_leq i10 hl1 (fun b11 => ?_) (fun b11 => ?_)
      · replace h := h.1 b11
        unfold vX10_field_39
        refine g_ld (v := cL _) rfl (is_L _) ?_
        refine g_const (v := cL (-4)) rfl ?_
        refine g_leq hl3 ⟨by omega, by omega⟩ (fun b12 => ?_) (fun b12 => ?_)
        · replace h := h.1 b12
          exact TX10_field_57 hl1 hl2 hl3 hl4 hl5 hj0 h
        · replace h := h.2 b12
          unfold vX10_field_47
          refine g_ld (v := rf _) rfl (is_R _) ?_
          refine g_getL (kz := 8) q7 rfl (Nat.le_of_ble_eq_true rfl) rfl fun i13 => ?_
          replace h := h i13
          refine g_ld (v := cL _) rfl (is_L _) ?_
          refine g_leq i13 hl3 (fun b14 => ?_) (fun b14 => ?_)
          · replace h := h.1 b14
            exact TX10_field_57 hl1 hl2 hl3 hl4 hl5 hj0 h
          · replace h := h.2 b14
            exact TX10_field_60 hl1 hl2 hl3 hl4 hl5 hj0 h
      · replace h := h.2 b11
        exact TX10_field_60 hl1 hl2 hl3 hl4 hl5 hj0 h
    · replace h := h.2 b9
      exact TX10_field_60 hl1 hl2 hl3 hl4 hl5 hj0 h
  · replace h := h.2 b3
    unfold vX10_field_66
    refine g_const (v := rf (-1)) rfl ?_
    exact g_ret1 (is_R _) ⟨_, rfl, h⟩
def PX10_field_0 (J : Nat → List Int → gS → (Int → gS → Prop) → Prop) (o : Int) (a1 : Int) (a3 : Int) (G : gS) (Q : Int → gS → Prop) : Prop :=
  PX10_field_3 J o a1 a3 0 G Q
set_option maxRecDepth 20000 in
theorem TX10_field_0 {j : Nat → rx_K} {J : Nat → List Int → gS → (Int → gS → Prop) → Prop} {o : Int} {a1 : Int} {a3 : Int} {G : gS} {Q : Int → gS → Prop} (ha1 : inL a1) (ha3 : inL a3) (hj0 : ∀ (o : Int) (l1 : Int) (l2 : Nat) (l3 : Int) (l4 : Nat) (l5 : Int) (l6 : Nat) (G : gS), (inL l1) → (l2 % 8 ≠ 1) → (inL l3) → (l4 % 8 ≠ 1) → (inI l5) → (l6 % 8 ≠ 1) → J 0 [o, l1, l3, l5] G Q → Tg W0 (j 0) [rf (o), cL (l1), l2, cL (l3), l4, cI (l5), l6] [] G (fun r G => ∃ v, r = rf v ∧ Q v G)) (h : PX10_field_0 J o a1 a3 G Q) : Tg W0 (vX10_field_0 j) [rf (o), cL (a1), 7, cL (a3), 7, 7, 7] [] G (fun r G => ∃ v, r = rf v ∧ Q v G) := by
  unfold PX10_field_0 at h
  unfold vX10_field_0
  refine g_const (v := cI (0)) rfl ?_
  refine g_st (lv' := [_, _, _, _, _, _, _]) (is_I _) (Nat.le_of_ble_eq_true rfl) (Or.inr (show 7 % 8 ≠ 1 by decide)) rfl ?_
  exact TX10_field_3 ha1 (show 7 % 8 ≠ 1 by decide) ha3 (show 7 % 8 ≠ 1 by decide) ⟨by omega, by omega⟩ (show 7 % 8 ≠ 1 by decide) hj0 h
def PX10_field_J : Nat → Nat → List Int → gS → (Int → gS → Prop) → Prop
  | 0, _, _, _, _ => False
  | f + 1, h, L, G, Q => match h, L with
    | 0, [o, l1, l3, l5] => PX10_field_3 (PX10_field_J f) o l1 l3 l5 G Q
    | _, _ => False
theorem TX10_field_J {Q : Int → gS → Prop} : ∀ f N : Nat, f ≤ N → (∀ (o : Int) (l1 : Int) (l2 : Nat) (l3 : Int) (l4 : Nat) (l5 : Int) (l6 : Nat) (G : gS), (inL l1) → (l2 % 8 ≠ 1) → (inL l3) → (l4 % 8 ≠ 1) → (inI l5) → (l6 % 8 ≠ 1) → (PX10_field_J f) 0 [o, l1, l3, l5] G Q → Tg W0 (rx_J vhX10_field N 0) [rf (o), cL (l1), l2, cL (l3), l4, cI (l5), l6] [] G (fun r G => ∃ v, r = rf v ∧ Q v G)) := by
  intro f
  induction f with
  | zero => exact fun N _ => fun _ _ _ _ _ _ _ _ _ _ _ _ _ _ h => h.elim
  | succ f ih =>
    intro N hN
    obtain ⟨M, rfl⟩ : ∃ M, N = M + 1 := ⟨N - 1, by omega⟩
    have ih := ih M (by omega)
    exact fun _ _ _ _ _ _ _ _ hl1 hl2 hl3 hl4 hl5 hl6 h => show Tg W0 (vX10_field_3 (rx_J vhX10_field M)) _ _ _ _ from TX10_field_3 hl1 hl2 hl3 hl4 hl5 hl6 ih h
def PX10_field (o : Int) (a1 : Int) (a3 : Int) (G : gS) (Q : Int → gS → Prop) : Prop := ∃ f : Nat, f ≤ 4000000000 ∧ PX10_field_0 (PX10_field_J f) o a1 a3 G Q
theorem TX10_field {o : Int} {a1 : Int} {a3 : Int} {G : gS} {Q : Int → gS → Prop} (ha1 : inL a1) (ha3 : inL a3) (h : PX10_field o a1 a3 G Q) : Tn W0 FX10_field [rf (o), cL (a1), cL (a3)] G (fun r G => ∃ v, r = rf v ∧ Q v G) := by
  obtain ⟨f, hf, h⟩ := h
  have hJ := TX10_field_J (Q := Q) f 4000000000 hf
  unfold FX10_field
  refine g_ent (lv' := [rf (o), cL (a1), 7, cL (a3), 7, 7, 7]) (flR (flL (flL fl0))) (Nat.le_of_ble_eq_true rfl) rfl ?_
  exact TX10_field_0 ha1 ha3 hJ h
def PX11_fieldIn_255 (J : Nat → List Int → gS → (Int → gS → Prop) → Prop) (o : Int) (l1 : Int) (l2 : Int) (l4 : Int) (l6 : Int) (l8 : Int) (l9 : Int) (l10 : Int) (G : gS) (Q : Int → gS → Prop) : Prop :=
  Q (l9) G
set_option maxRecDepth 20000 in
theorem TX11_fieldIn_255 {j : Nat → rx_K} {J : Nat → List Int → gS → (Int → gS → Prop) → Prop} {o : Int} {l1 : Int} {l2 : Int} {l3 : Nat} {l4 : Int} {l5 : Nat} {l6 : Int} {l7 : Nat} {l8 : Int} {l9 : Int} {l10 : Int} {l11 : Nat} {l12 : Nat} {l13 : Nat} {G : gS} {Q : Int → gS → Prop} (hl1 : inI l1) (hl2 : inL l2) (hl3 : l3 % 8 ≠ 1) (hl4 : inL l4) (hl5 : l5 % 8 ≠ 1) (hl6 : inL l6) (hl7 : l7 % 8 ≠ 1) (hl8 : inI l8) (hl10 : inI l10) (hl11 : l11 % 8 ≠ 1) (hl12 : l12 % 8 ≠ 1) (hl13 : l13 % 8 ≠ 1) (hj0 : ∀ (o : Int) (l1 : Int) (l2 : Int) (l3 : Nat) (l4 : Int) (l5 : Nat) (l6 : Int) (l7 : Nat) (l8 : Int) (l9 : Int) (l10 : Int) (l11 : Nat) (l12 : Nat) (l13 : Nat) (G : gS), (inI l1) → (inL l2) → (l3 % 8 ≠ 1) → (inL l4) → (l5 % 8 ≠ 1) → (inL l6) → (l7 % 8 ≠ 1) → (inI l8) → (inI l10) → (l11 % 8 ≠ 1) → (l12 % 8 ≠ 1) → (l13 % 8 ≠ 1) → J 0 [o, l1, l2, l4, l6, l8, l9, l10] G Q → Tg W0 (j 0) [rf (o), cI (l1), cL (l2), l3, cL (l4), l5, cL (l6), l7, cI (l8), rf (l9), cI (l10), l11, l12, l13] [] G (fun r G => ∃ v, r = rf v ∧ Q v G)) (h : PX11_fieldIn_255 J o l1 l2 l4 l6 l8 l9 l10 G Q) : Tg W0 (vX11_fieldIn_255 j) [rf (o), cI (l1), cL (l2), l3, cL (l4), l5, cL (l6), l7, cI (l8), rf (l9), cI (l10), l11, l12, l13] [] G (fun r G => ∃ v, r = rf v ∧ Q v G) := by
  unfold PX11_fieldIn_255 at h
  unfold vX11_fieldIn_255
  refine g_ld (v := rf _) rfl (is_R _) ?_
  exact g_ret1 (is_R _) ⟨_, rfl, h⟩
def PX11_fieldIn_249 (J : Nat → List Int → gS → (Int → gS → Prop) → Prop) (o : Int) (l1 : Int) (l2 : Int) (l4 : Int) (l6 : Int) (l8 : Int) (l9 : Int) (l10 : Int) (l11 : Int) (l12 : Int) (l13 : Int) (G : gS) (Q : Int → gS → Prop) : Prop :=
  (inI (l10 + 1) ∧ J 0 [o, l1, l2, l4, l6, l8, l9, l10 + 1] G Q)
set_option maxRecDepth 20000 in
theorem TX11_fieldIn_249 {j : Nat → rx_K} {J : Nat → List Int → gS → (Int → gS → Prop) → Prop} {o : Int} {l1 : Int} {l2 : Int} {l3 : Nat} {l4 : Int} {l5 : Nat} {l6 : Int} {l7 : Nat} {l8 : Int} {l9 : Int} {l10 : Int} {l11 : Int} {l12 : Int} {l13 : Int} {G : gS} {Q : Int → gS → Prop} (hl1 : inI l1) (hl2 : inL l2) (hl3 : l3 % 8 ≠ 1) (hl4 : inL l4) (hl5 : l5 % 8 ≠ 1) (hl6 : inL l6) (hl7 : l7 % 8 ≠ 1) (hl8 : inI l8) (hl10 : inI l10) (hl11 : inI l11) (hl12 : inI l12) (hl13 : inI l13) (hj0 : ∀ (o : Int) (l1 : Int) (l2 : Int) (l3 : Nat) (l4 : Int) (l5 : Nat) (l6 : Int) (l7 : Nat) (l8 : Int) (l9 : Int) (l10 : Int) (l11 : Nat) (l12 : Nat) (l13 : Nat) (G : gS), (inI l1) → (inL l2) → (l3 % 8 ≠ 1) → (inL l4) → (l5 % 8 ≠ 1) → (inL l6) → (l7 % 8 ≠ 1) → (inI l8) → (inI l10) → (l11 % 8 ≠ 1) → (l12 % 8 ≠ 1) → (l13 % 8 ≠ 1) → J 0 [o, l1, l2, l4, l6, l8, l9, l10] G Q → Tg W0 (j 0) [rf (o), cI (l1), cL (l2), l3, cL (l4), l5, cL (l6), l7, cI (l8), rf (l9), cI (l10), l11, l12, l13] [] G (fun r G => ∃ v, r = rf v ∧ Q v G)) (h : PX11_fieldIn_249 J o l1 l2 l4 l6 l8 l9 l10 l11 l12 l13 G Q) : Tg W0 (vX11_fieldIn_249 j) [rf (o), cI (l1), cL (l2), l3, cL (l4), l5, cL (l6), l7, cI (l8), rf (l9), cI (l10), cI (l11), cI (l12), cI (l13)] [] G (fun r G => ∃ v, r = rf v ∧ Q v G) := by
  unfold PX11_fieldIn_249 at h
  unfold vX11_fieldIn_249
  refine g_inc (lv' := [_, _, _, _, _, _, _, _, _, _, _, _, _, _]) rfl (Nat.le_of_ble_eq_true rfl) (Or.inr (n1_R _)) rfl ?_
  obtain ⟨q77, h⟩ := h
  exact hj0 _ _ _ _ _ _ _ _ _ _ _ _ _ _ _ hl1 hl2 hl3 hl4 hl5 hl6 hl7 hl8 q77 (n1_I _) (n1_I _) (n1_I _) h
def PX11_fieldIn_147 (J : Nat → List Int → gS → (Int → gS → Prop) → Prop) (o : Int) (l1 : Int) (l2 : Int) (l4 : Int) (l6 : Int) (l8 : Int) (l9 : Int) (l10 : Int) (l11 : Int) (l12 : Int) (s0 : Int) (G : gS) (Q : Int → gS → Prop) : Prop :=
  ((4 < l12 → (inI (l8 + (-1)) ∧ PX11_fieldIn_249 J o l1 l2 l4 l6 (l8 + (-1)) l9 l10 l11 l12 s0 G Q)) ∧ (¬ (4 < l12) → ((s0 < 0 → PX11_fieldIn_249 J o l1 l2 l4 l6 l8 l9 l10 l11 l12 s0 G Q) ∧ (¬ (s0 < 0) → (inL (lush l6 s0) → (inL (land (lush l6 s0) 1) → ((land (lush l6 s0) 1 = 0 → (inL (lshl 1 s0) → (inL (lor l6 (lshl 1 s0)) → (isO W0 11 (o) ∧ ((0 : Int) ≤ l8 ∧ ((l8 : Int) < 66 ∧ (∀ G57 : gS, G57 = uG G (o + 11) l8 (s0) → ((0 : Int) ≤ l8 ∧ ((l8 : Int) < 66 ∧ (∀ G60 : gS, G60 = uG G57 (o + 12) l8 (0) → (inI (l8 + 1) ∧ (inI (G60 o 15) → ((0 : Int) ≤ G60 o 15 ∧ ((G60 o 15 : Int) < 64 ∧ (∀ G65 : gS, G65 = uG G60 (o + 13) (G60 o 15) (s0) → (inI (G65 o 15) → (inI ((G65 o 15) + 1) ∧ (∀ G68 : gS, G68 = uG G65 o 15 ((G65 o 15) + 1) → (∀ G69 : gS, G69 = uG G68 o 18 (s0) → ((0 : Int) ≤ s0 ∧ ((s0 : Int) < 64 ∧ (((G69 (o + 1) s0 = -1 ∨ isO W0 10 (G69 (o + 1) s0)) ∧ ∀ v, W0.2 (o + 1) s0 = some v → G69 (o + 1) s0 = v) → (isO W0 10 (G69 (o + 1) s0) ∧ PX10_field (G69 (o + 1) s0) l2 l4 G69 (fun r75 G74 => PX11_fieldIn_249 J o l1 l2 l4 (lor l6 (lshl 1 s0)) (l8 + 1) r75 l10 l11 l12 s0 G74 Q)))))))))))))))))))))))) ∧ (¬ (land (lush l6 s0) 1 = 0) → PX11_fieldIn_249 J o l1 l2 l4 l6 l8 l9 l10 l11 l12 s0 G Q))))))))
set_option maxRecDepth 20000 in
theorem TX11_fieldIn_147 {j : Nat → rx_K} {J : Nat → List Int → gS → (Int → gS → Prop) → Prop} {o : Int} {l1 : Int} {l2 : Int} {l3 : Nat} {l4 : Int} {l5 : Nat} {l6 : Int} {l7 : Nat} {l8 : Int} {l9 : Int} {l10 : Int} {l11 : Int} {l12 : Int} {l13 : Nat} {s0 : Int} {G : gS} {Q : Int → gS → Prop} (hl1 : inI l1) (hl2 : inL l2) (hl3 : l3 % 8 ≠ 1) (hl4 : inL l4) (hl5 : l5 % 8 ≠ 1) (hl6 : inL l6) (hl7 : l7 % 8 ≠ 1) (hl8 : inI l8) (hl10 : inI l10) (hl11 : inI l11) (hl12 : inI l12) (hl13 : l13 % 8 ≠ 1) (hs0 : inI s0) (hj0 : ∀ (o : Int) (l1 : Int) (l2 : Int) (l3 : Nat) (l4 : Int) (l5 : Nat) (l6 : Int) (l7 : Nat) (l8 : Int) (l9 : Int) (l10 : Int) (l11 : Nat) (l12 : Nat) (l13 : Nat) (G : gS), (inI l1) → (inL l2) → (l3 % 8 ≠ 1) → (inL l4) → (l5 % 8 ≠ 1) → (inL l6) → (l7 % 8 ≠ 1) → (inI l8) → (inI l10) → (l11 % 8 ≠ 1) → (l12 % 8 ≠ 1) → (l13 % 8 ≠ 1) → J 0 [o, l1, l2, l4, l6, l8, l9, l10] G Q → Tg W0 (j 0) [rf (o), cI (l1), cL (l2), l3, cL (l4), l5, cL (l6), l7, cI (l8), rf (l9), cI (l10), l11, l12, l13] [] G (fun r G => ∃ v, r = rf v ∧ Q v G)) (h : PX11_fieldIn_147 J o l1 l2 l4 l6 l8 l9 l10 l11 l12 s0 G Q) : Tg W0 (vX11_fieldIn_147 j) [rf (o), cI (l1), cL (l2), l3, cL (l4), l5, cL (l6), l7, cI (l8), rf (l9), cI (l10), cI (l11), cI (l12), l13] [cI (s0)] G (fun r G => ∃ v, r = rf v ∧ Q v G) := by
  unfold PX11_fieldIn_147 at h
  unfold vX11_fieldIn_147
  refine g_st (lv' := [_, _, _, _, _, _, _, _, _, _, _, _, _, _]) (is_I _) (Nat.le_of_ble_eq_true rfl) (Or.inr (n1_I _)) rfl ?_
  refine g_ld (v := cI _) rfl (is_I _) ?_
  refine g_const (v := cI (4)) rfl ?_
  refine g_gt2 hl12 ⟨by omega, by omega⟩ (fun b46 => ?_) (fun b46 => ?_)
  · replace h := h.1 b46
    unfold vX11_fieldIn_155
    refine g_inc (lv' := [_, _, _, _, _, _, _, _, _, _, _, _, _, _]) rfl (Nat.le_of_ble_eq_true rfl) (Or.inr hl7) rfl ?_
    obtain ⟨q47, h⟩ := h
    exact TX11_fieldIn_249 hl1 hl2 hl3 hl4 hl5 hl6 hl7 q47 hl10 hl11 hl12 hs0 hj0 h
  · replace h := h.2 b46
    unfold vX11_fieldIn_161
    refine g_ld (v := cI _) rfl (is_I _) ?_
    refine g_lt1 hs0 (fun b48 => ?_) (fun b48 => ?_)
    · replace h := h.1 b48
      exact TX11_fieldIn_249 hl1 hl2 hl3 hl4 hl5 hl6 hl7 hl8 hl10 hl11 hl12 hs0 hj0 h
    · replace h := h.2 b48
      unfold vX11_fieldIn_166
      refine g_ld (v := cL _) rfl (is_L _) ?_
      refine g_ld (v := cI _) rfl (is_I _) ?_
      refine g_lush fun i49 => ?_
      replace h := h i49
      refine g_const (v := cL (1)) rfl ?_
      refine g_land fun i50 => ?_
      replace h := h i50
      refine g_const (v := cL (0)) rfl ?_
      refine g_leq i50 ⟨by omega, by omega⟩ (fun b51 => ?_) (fun b51 => ?_)
      · replace h := h.1 b51
        unfold vX11_fieldIn_178
        refine g_ld (v := cL _) rfl (is_L _) ?_
        refine g_const (v := cL (1)) rfl ?_
        refine g_ld (v := cI _) rfl (is_I _) ?_
        refine g_lshl fun i52 => ?_
        replace h := h i52
        refine g_lor fun i53 => ?_
        replace h := h i53
        refine g_stL (lv' := [_, _, _, _, _, _, _, _, _, _, _, _, _, _]) (Nat.le_of_ble_eq_true rfl) (Or.inr hl5) rfl ?_
        refine g_ld (v := rf _) rfl (is_R _) ?_
        obtain ⟨q54, h⟩ := h
        refine g_getF q54 (ff11_12 q54).1 rfl (Nat.le_of_ble_eq_true rfl) (Nat.le_of_ble_eq_true rfl) ?_
        refine g_ld (v := cI _) rfl (is_I _) ?_
        refine g_ld (v := cI _) rfl (is_I _) ?_
        obtain ⟨q55, q56, h⟩ := h
        refine g_astI (ff11_12 q54).2 q55 q56 hs0 (nfI (ff11_12 q54).2) ?_
        replace h := h _ rfl
        refine g_ld (v := rf _) rfl (is_R _) ?_
        refine g_getF q54 (ff11_13 q54).1 rfl (Nat.le_of_ble_eq_true rfl) (Nat.le_of_ble_eq_true rfl) ?_
        refine g_ld (v := cI _) rfl (is_I _) ?_
        refine g_const (v := cI (0)) rfl ?_
        obtain ⟨q58, q59, h⟩ := h
        refine g_astI (ff11_13 q54).2 q58 q59 ⟨by omega, by omega⟩ (nfI (ff11_13 q54).2) ?_
        replace h := h _ rfl
        refine g_inc (lv' := [_, _, _, _, _, _, _, _, _, _, _, _, _, _]) rfl (Nat.le_of_ble_eq_true rfl) (Or.inr (show 7 % 8 ≠ 1 by decide)) rfl ?_
        obtain ⟨q61, h⟩ := h
        refine g_ld (v := rf _) rfl (is_R _) ?_
        refine g_getF q54 (ff11_14 q54).1 rfl (Nat.le_of_ble_eq_true rfl) (Nat.le_of_ble_eq_true rfl) ?_
        refine g_ld (v := rf _) rfl (is_R _) ?_
        refine g_getI (kz := 15) q54 rfl (Nat.le_of_ble_eq_true rfl) rfl fun i62 => ?_
        replace h := h i62
        refine g_ld (v := cI _) rfl (is_I _) ?_
        obtain ⟨q63, q64, h⟩ := h
        refine g_astI (ff11_14 q54).2 q63 q64 hs0 (nfI (ff11_14 q54).2) ?_
        replace h := h _ rfl
        refine g_ld (v := rf _) rfl (is_R _) ?_
        unfold vX11_fieldIn_219
        refine g_dup (ct_R _) ?_
        refine g_getI (kz := 15) q54 rfl (Nat.le_of_ble_eq_true rfl) rfl fun i66 => ?_
        replace h := h i66
        refine g_const (v := cI (1)) rfl ?_
        refine g_add ?_
        obtain ⟨q67, h⟩ := h
        refine g_putI (kz := 15) q54 rfl (Nat.le_of_ble_eq_true rfl) rfl q67 (nf11_15 q54) ?_
        replace h := h _ rfl
        refine g_ld (v := rf _) rfl (is_R _) ?_
        refine g_ld (v := cI _) rfl (is_I _) ?_
        refine g_putI (kz := 18) q54 rfl (Nat.le_of_ble_eq_true rfl) rfl hs0 (nf11_18 q54) ?_
        replace h := h _ rfl
        refine g_ld (v := rf _) rfl (is_R _) ?_
        refine g_getF q54 (ff11_1 q54).1 rfl (Nat.le_of_ble_eq_true rfl) (Nat.le_of_ble_eq_true rfl) ?_
        refine g_ld (v := cI _) rfl (is_I _) ?_
        obtain ⟨q70, q71, h⟩ := h
        refine g_aldRF (c := 10) (ff11_1 q54).2 q70 q71 rfl (by decide) fun i72 => ?_
        replace h := h i72
        refine g_ld (v := cL _) rfl (is_L _) ?_
        refine g_ld (v := cL _) rfl (is_L _) ?_
        obtain ⟨q73, h⟩ := h
        refine g_callV (As := [_, _]) (ci := 10) q73 (fun _ => rfl) ?_
        refine g_go1 (Nat.le_of_ble_eq_true rfl) (Tn_w (TX10_field hl2 hl4 h) fun _ G74 ⟨r75, e, h⟩ => ?_)
        subst e
        refine ⟨n7_R _, ?_⟩
        refine g_st (lv' := [_, _, _, _, _, _, _, _, _, _, _, _, _, _]) (is_R _) (Nat.le_of_ble_eq_true rfl) (Or.inr (n1_I _)) rfl ?_
        exact TX11_fieldIn_249 hl1 hl2 hl3 hl4 hl5 i53 (show 7 % 8 ≠ 1 by decide) q61 hl10 hl11 hl12 hs0 hj0 h
      · replace h := h.2 b51
        exact TX11_fieldIn_249 hl1 hl2 hl3 hl4 hl5 hl6 hl7 hl8 hl10 hl11 hl12 hs0 hj0 h
def PX11_fieldIn_56 (J : Nat → List Int → gS → (Int → gS → Prop) → Prop) (o : Int) (l1 : Int) (l2 : Int) (l4 : Int) (l6 : Int) (l8 : Int) (l9 : Int) (l10 : Int) (G : gS) (Q : Int → gS → Prop) : Prop :=
  ((l10 < 100000000 → ((0 < l8 → ((l9 < 0 → (isO W0 11 (o) ∧ ((0 : Int) ≤ l8 - 1 ∧ ((l8 - 1 : Int) < 66 ∧ (inI (G (o + 11) (l8 - 1)) → ((0 : Int) ≤ l8 - 1 ∧ ((l8 - 1 : Int) < 66 ∧ (inI (G (o + 12) (l8 - 1)) → ((0 : Int) ≤ l8 - 1 ∧ ((l8 - 1 : Int) < 66 ∧ (inI (G (o + 12) (l8 - 1)) → ((0 : Int) ≤ l8 - 1 ∧ ((l8 - 1 : Int) < 66 ∧ (inI ((G (o + 12) (l8 - 1)) + 1) ∧ (∀ G37 : gS, G37 = uG G (o + 12) (l8 - 1) ((G (o + 12) (l8 - 1)) + 1) → ((G (o + 12) (l8 - 1) < 4 → ((0 : Int) ≤ ((G (o + 11) (l8 - 1)) * 4) + (G (o + 12) (l8 - 1)) ∧ ((((G (o + 11) (l8 - 1)) * 4) + (G (o + 12) (l8 - 1)) : Int) < 256 ∧ (inI (G37 (o + 4) (((G (o + 11) (l8 - 1)) * 4) + (G (o + 12) (l8 - 1)))) → PX11_fieldIn_147 J o l1 l2 l4 l6 l8 l9 l10 (G (o + 11) (l8 - 1)) (G (o + 12) (l8 - 1)) (G37 (o + 4) (((G (o + 11) (l8 - 1)) * 4) + (G (o + 12) (l8 - 1)))) G37 Q)))) ∧ (¬ (G (o + 12) (l8 - 1) < 4) → ((G (o + 12) (l8 - 1) = 4 → ((0 : Int) ≤ G (o + 11) (l8 - 1) ∧ ((G (o + 11) (l8 - 1) : Int) < 64 ∧ (inI (G37 (o + 2) (G (o + 11) (l8 - 1))) → PX11_fieldIn_147 J o l1 l2 l4 l6 l8 l9 l10 (G (o + 11) (l8 - 1)) (G (o + 12) (l8 - 1)) (G37 (o + 2) (G (o + 11) (l8 - 1))) G37 Q)))) ∧ (¬ (G (o + 12) (l8 - 1) = 4) → PX11_fieldIn_147 J o l1 l2 l4 l6 l8 l9 l10 (G (o + 11) (l8 - 1)) (G (o + 12) (l8 - 1)) (-2) G37 Q))))))))))))))))))) ∧ (0 ≤ l9 → PX11_fieldIn_255 J o l1 l2 l4 l6 l8 l9 l10 G Q))) ∧ (¬ (0 < l8) → PX11_fieldIn_255 J o l1 l2 l4 l6 l8 l9 l10 G Q))) ∧ (¬ (l10 < 100000000) → PX11_fieldIn_255 J o l1 l2 l4 l6 l8 l9 l10 G Q))
set_option maxRecDepth 20000 in
theorem TX11_fieldIn_56 {j : Nat → rx_K} {J : Nat → List Int → gS → (Int → gS → Prop) → Prop} {o : Int} {l1 : Int} {l2 : Int} {l3 : Nat} {l4 : Int} {l5 : Nat} {l6 : Int} {l7 : Nat} {l8 : Int} {l9 : Int} {l10 : Int} {l11 : Nat} {l12 : Nat} {l13 : Nat} {G : gS} {Q : Int → gS → Prop} (hl1 : inI l1) (hl2 : inL l2) (hl3 : l3 % 8 ≠ 1) (hl4 : inL l4) (hl5 : l5 % 8 ≠ 1) (hl6 : inL l6) (hl7 : l7 % 8 ≠ 1) (hl8 : inI l8) (hl10 : inI l10) (hl11 : l11 % 8 ≠ 1) (hl12 : l12 % 8 ≠ 1) (hl13 : l13 % 8 ≠ 1) (hj0 : ∀ (o : Int) (l1 : Int) (l2 : Int) (l3 : Nat) (l4 : Int) (l5 : Nat) (l6 : Int) (l7 : Nat) (l8 : Int) (l9 : Int) (l10 : Int) (l11 : Nat) (l12 : Nat) (l13 : Nat) (G : gS), (inI l1) → (inL l2) → (l3 % 8 ≠ 1) → (inL l4) → (l5 % 8 ≠ 1) → (inL l6) → (l7 % 8 ≠ 1) → (inI l8) → (inI l10) → (l11 % 8 ≠ 1) → (l12 % 8 ≠ 1) → (l13 % 8 ≠ 1) → J 0 [o, l1, l2, l4, l6, l8, l9, l10] G Q → Tg W0 (j 0) [rf (o), cI (l1), cL (l2), l3, cL (l4), l5, cL (l6), l7, cI (l8), rf (l9), cI (l10), l11, l12, l13] [] G (fun r G => ∃ v, r = rf v ∧ Q v G)) (h : PX11_fieldIn_56 J o l1 l2 l4 l6 l8 l9 l10 G Q) : Tg W0 (vX11_fieldIn_56 j) [rf (o), cI (l1), cL (l2), l3, cL (l4), l5, cL (l6), l7, cI (l8), rf (l9), cI (l10), l11, l12, l13] [] G (fun r G => ∃ v, r = rf v ∧ Q v G) := by
  unfold PX11_fieldIn_56 at h
  unfold vX11_fieldIn_56
  refine g_ld (v := cI _) rfl (is_I _) ?_
  refine g_const (v := cI (100000000)) rfl ?_
  refine g_lt2 hl10 ⟨by omega, by omega⟩ (fun b21 => ?_) (fun b21 => ?_)
  · replace h := h.1 b21
    unfold vX11_fieldIn_63
    refine g_ld (v := cI _) rfl (is_I _) ?_
    refine g_gt1 hl8 (fun b22 => ?_) (fun b22 => ?_)
    · replace h := h.1 b22
      unfold vX11_fieldIn_68
      refine g_ld (v := rf _) rfl (is_R _) ?_
      refine g_nul (fun b23 => ?_) (fun b23 => ?_)
      · replace h := h.1 b23
        unfold vX11_fieldIn_73
        refine g_ld (v := rf _) rfl (is_R _) ?_
        obtain ⟨q24, h⟩ := h
        refine g_getF q24 (ff11_12 q24).1 rfl (Nat.le_of_ble_eq_true rfl) (Nat.le_of_ble_eq_true rfl) ?_
        refine g_ld (v := cI _) rfl (is_I _) ?_
        refine g_const (v := cI (1)) rfl ?_
        refine g_sub ?_
        obtain ⟨q25, q26, h⟩ := h
        refine g_aldI (ff11_12 q24).2 q25 q26 rfl fun i27 => ?_
        replace h := h i27
        refine g_st (lv' := [_, _, _, _, _, _, _, _, _, _, _, _, _, _]) (is_I _) (Nat.le_of_ble_eq_true rfl) (Or.inr (n1_I _)) rfl ?_
        refine g_ld (v := rf _) rfl (is_R _) ?_
        refine g_getF q24 (ff11_13 q24).1 rfl (Nat.le_of_ble_eq_true rfl) (Nat.le_of_ble_eq_true rfl) ?_
        refine g_ld (v := cI _) rfl (is_I _) ?_
        refine g_const (v := cI (1)) rfl ?_
        refine g_sub ?_
        obtain ⟨q28, q29, h⟩ := h
        refine g_aldI (ff11_13 q24).2 q28 q29 rfl fun i30 => ?_
        replace h := h i30
        refine g_st (lv' := [_, _, _, _, _, _, _, _, _, _, _, _, _, _]) (is_I _) (Nat.le_of_ble_eq_true rfl) (Or.inr (n1_I _)) rfl ?_
        refine g_ld (v := rf _) rfl (is_R _) ?_
        refine g_getF q24 (ff11_13 q24).1 rfl (Nat.le_of_ble_eq_true rfl) (Nat.le_of_ble_eq_true rfl) ?_
        refine g_ld (v := cI _) rfl (is_I _) ?_
        refine g_const (v := cI (1)) rfl ?_
        refine g_sub ?_
        refine g_dup2 (ct_I _) (ct_R _) ?_
        obtain ⟨q31, q32, h⟩ := h
        refine g_aldI (ff11_13 q24).2 q31 q32 rfl fun i33 => ?_
        replace h := h i33
        refine g_const (v := cI (1)) rfl ?_
        refine g_add ?_
        obtain ⟨q34, q35, h⟩ := h
        obtain ⟨q36, h⟩ := h
        refine g_astI (ff11_13 q24).2 q34 q35 q36 (nfI (ff11_13 q24).2) ?_
        replace h := h _ rfl
        unfold vX11_fieldIn_108
        refine g_ld (v := cI _) rfl (is_I _) ?_
        refine g_const (v := cI (4)) rfl ?_
        refine g_lt2 i30 ⟨by omega, by omega⟩ (fun b38 => ?_) (fun b38 => ?_)
        · replace h := h.1 b38
          unfold vX11_fieldIn_114
          refine g_ld (v := rf _) rfl (is_R _) ?_
          refine g_getF q24 (ff11_5 q24).1 rfl (Nat.le_of_ble_eq_true rfl) (Nat.le_of_ble_eq_true rfl) ?_
          refine g_ld (v := cI _) rfl (is_I _) ?_
          refine g_const (v := cI (4)) rfl ?_
          refine g_mul ?_
          refine g_ld (v := cI _) rfl (is_I _) ?_
          refine g_add ?_
          obtain ⟨q39, q40, h⟩ := h
          refine g_aldI (ff11_5 q24).2 q39 q40 rfl fun i41 => ?_
          replace h := h i41
          exact TX11_fieldIn_147 hl1 hl2 hl3 hl4 hl5 hl6 hl7 hl8 hl10 i27 i30 hl13 i41 hj0 h
        · replace h := h.2 b38
          unfold vX11_fieldIn_129
          refine g_ld (v := cI _) rfl (is_I _) ?_
          refine g_const (v := cI (4)) rfl ?_
          refine g_eq2 i30 ⟨by omega, by omega⟩ (fun b42 => ?_) (fun b42 => ?_)
          · replace h := h.1 b42
            unfold vX11_fieldIn_135
            refine g_ld (v := rf _) rfl (is_R _) ?_
            refine g_getF q24 (ff11_3 q24).1 rfl (Nat.le_of_ble_eq_true rfl) (Nat.le_of_ble_eq_true rfl) ?_
            refine g_ld (v := cI _) rfl (is_I _) ?_
            obtain ⟨q43, q44, h⟩ := h
            refine g_aldI (ff11_3 q24).2 q43 q44 rfl fun i45 => ?_
            replace h := h i45
            exact TX11_fieldIn_147 hl1 hl2 hl3 hl4 hl5 hl6 hl7 hl8 hl10 i27 i30 hl13 i45 hj0 h
          · replace h := h.2 b42
            unfold vX11_fieldIn_145
            refine g_const (v := cI (-2)) rfl ?_
            exact TX11_fieldIn_147 hl1 hl2 hl3 hl4 hl5 hl6 hl7 hl8 hl10 i27 i30 hl13 ⟨by omega, by omega⟩ hj0 h
      · replace h := h.2 b23
        exact TX11_fieldIn_255 hl1 hl2 hl3 hl4 hl5 hl6 hl7 hl8 hl10 hl11 hl12 hl13 hj0 h
    · replace h := h.2 b22
      exact TX11_fieldIn_255 hl1 hl2 hl3 hl4 hl5 hl6 hl7 hl8 hl10 hl11 hl12 hl13 hj0 h
  · replace h := h.2 b21
    exact TX11_fieldIn_255 hl1 hl2 hl3 hl4 hl5 hl6 hl7 hl8 hl10 hl11 hl12 hl13 hj0 h
def PX11_fieldIn_0 (J : Nat → List Int → gS → (Int → gS → Prop) → Prop) (o : Int) (a1 : Int) (a2 : Int) (a4 : Int) (G : gS) (Q : Int → gS → Prop) : Prop :=
  (inL (lshl 1 a1) → (isO W0 11 (o) ∧ ((0 : Int) ≤ 0 ∧ ((0 : Int) < 66 ∧ (∀ G5 : gS, G5 = uG G (o + 11) 0 (a1) → ((0 : Int) ≤ 0 ∧ ((0 : Int) < 66 ∧ (∀ G8 : gS, G8 = uG G5 (o + 12) 0 (0) → (∀ G9 : gS, G9 = uG G8 o 15 (1) → ((0 : Int) ≤ 0 ∧ ((0 : Int) < 64 ∧ (∀ G12 : gS, G12 = uG G9 (o + 13) 0 (a1) → (∀ G13 : gS, G13 = uG G12 o 18 (a1) → ((0 : Int) ≤ a1 ∧ ((a1 : Int) < 64 ∧ (((G13 (o + 1) a1 = -1 ∨ isO W0 10 (G13 (o + 1) a1)) ∧ ∀ v, W0.2 (o + 1) a1 = some v → G13 (o + 1) a1 = v) → (isO W0 10 (G13 (o + 1) a1) ∧ PX10_field (G13 (o + 1) a1) a2 a4 G13 (fun r19 G18 => PX11_fieldIn_56 J o a1 a2 a4 (lshl 1 a1) 1 r19 0 G18 Q))))))))))))))))))
set_option maxRecDepth 20000 in
theorem TX11_fieldIn_0 {j : Nat → rx_K} {J : Nat → List Int → gS → (Int → gS → Prop) → Prop} {o : Int} {a1 : Int} {a2 : Int} {a4 : Int} {G : gS} {Q : Int → gS → Prop} (ha1 : inI a1) (ha2 : inL a2) (ha4 : inL a4) (hj0 : ∀ (o : Int) (l1 : Int) (l2 : Int) (l3 : Nat) (l4 : Int) (l5 : Nat) (l6 : Int) (l7 : Nat) (l8 : Int) (l9 : Int) (l10 : Int) (l11 : Nat) (l12 : Nat) (l13 : Nat) (G : gS), (inI l1) → (inL l2) → (l3 % 8 ≠ 1) → (inL l4) → (l5 % 8 ≠ 1) → (inL l6) → (l7 % 8 ≠ 1) → (inI l8) → (inI l10) → (l11 % 8 ≠ 1) → (l12 % 8 ≠ 1) → (l13 % 8 ≠ 1) → J 0 [o, l1, l2, l4, l6, l8, l9, l10] G Q → Tg W0 (j 0) [rf (o), cI (l1), cL (l2), l3, cL (l4), l5, cL (l6), l7, cI (l8), rf (l9), cI (l10), l11, l12, l13] [] G (fun r G => ∃ v, r = rf v ∧ Q v G)) (h : PX11_fieldIn_0 J o a1 a2 a4 G Q) : Tg W0 (vX11_fieldIn_0 j) [rf (o), cI (a1), cL (a2), 7, cL (a4), 7, 7, 7, 7, 7, 7, 7, 7, 7] [] G (fun r G => ∃ v, r = rf v ∧ Q v G) := by
  unfold PX11_fieldIn_0 at h
  unfold vX11_fieldIn_0
  refine g_const (v := cL (1)) rfl ?_
  refine g_ld (v := cI _) rfl (is_I _) ?_
  refine g_lshl fun i1 => ?_
  replace h := h i1
  refine g_stL (lv' := [_, _, _, _, _, _, _, _, _, _, _, _, _, _]) (Nat.le_of_ble_eq_true rfl) (Or.inr (show 7 % 8 ≠ 1 by decide)) rfl ?_
  refine g_const (v := cI (1)) rfl ?_
  refine g_st (lv' := [_, _, _, _, _, _, _, _, _, _, _, _, _, _]) (is_I _) (Nat.le_of_ble_eq_true rfl) (Or.inr (show 7 % 8 ≠ 1 by decide)) rfl ?_
  refine g_ld (v := rf _) rfl (is_R _) ?_
  obtain ⟨q2, h⟩ := h
  refine g_getF q2 (ff11_12 q2).1 rfl (Nat.le_of_ble_eq_true rfl) (Nat.le_of_ble_eq_true rfl) ?_
  refine g_const (v := cI (0)) rfl ?_
  refine g_ld (v := cI _) rfl (is_I _) ?_
  obtain ⟨q3, q4, h⟩ := h
  refine g_astI (ff11_12 q2).2 q3 q4 ha1 (nfI (ff11_12 q2).2) ?_
  replace h := h _ rfl
  refine g_ld (v := rf _) rfl (is_R _) ?_
  refine g_getF q2 (ff11_13 q2).1 rfl (Nat.le_of_ble_eq_true rfl) (Nat.le_of_ble_eq_true rfl) ?_
  refine g_const (v := cI (0)) rfl ?_
  refine g_const (v := cI (0)) rfl ?_
  obtain ⟨q6, q7, h⟩ := h
  refine g_astI (ff11_13 q2).2 q6 q7 ⟨by omega, by omega⟩ (nfI (ff11_13 q2).2) ?_
  replace h := h _ rfl
  refine g_ld (v := rf _) rfl (is_R _) ?_
  refine g_const (v := cI (1)) rfl ?_
  refine g_putI (kz := 15) q2 rfl (Nat.le_of_ble_eq_true rfl) rfl ⟨by omega, by omega⟩ (nf11_15 q2) ?_
  replace h := h _ rfl
  refine g_ld (v := rf _) rfl (is_R _) ?_
  refine g_getF q2 (ff11_14 q2).1 rfl (Nat.le_of_ble_eq_true rfl) (Nat.le_of_ble_eq_true rfl) ?_
  refine g_const (v := cI (0)) rfl ?_
  refine g_ld (v := cI _) rfl (is_I _) ?_
  obtain ⟨q10, q11, h⟩ := h
  refine g_astI (ff11_14 q2).2 q10 q11 ha1 (nfI (ff11_14 q2).2) ?_
  replace h := h _ rfl
  unfold vX11_fieldIn_34
  refine g_ld (v := rf _) rfl (is_R _) ?_
  refine g_ld (v := cI _) rfl (is_I _) ?_
  refine g_putI (kz := 18) q2 rfl (Nat.le_of_ble_eq_true rfl) rfl ha1 (nf11_18 q2) ?_
  replace h := h _ rfl
  refine g_ld (v := rf _) rfl (is_R _) ?_
  refine g_getF q2 (ff11_1 q2).1 rfl (Nat.le_of_ble_eq_true rfl) (Nat.le_of_ble_eq_true rfl) ?_
  refine g_ld (v := cI _) rfl (is_I _) ?_
  obtain ⟨q14, q15, h⟩ := h
  refine g_aldRF (c := 10) (ff11_1 q2).2 q14 q15 rfl (by decide) fun i16 => ?_
  replace h := h i16
  refine g_ld (v := cL _) rfl (is_L _) ?_
  refine g_ld (v := cL _) rfl (is_L _) ?_
  obtain ⟨q17, h⟩ := h
  refine g_callV (As := [_, _]) (ci := 10) q17 (fun _ => rfl) ?_
  refine g_go1 (Nat.le_of_ble_eq_true rfl) (Tn_w (TX10_field ha2 ha4 h) fun _ G18 ⟨r19, e, h⟩ => ?_)
  subst e
  refine ⟨n7_R _, ?_⟩
  refine g_st (lv' := [_, _, _, _, _, _, _, _, _, _, _, _, _, _]) (is_R _) (Nat.le_of_ble_eq_true rfl) (Or.inr (n1_I _)) rfl ?_
  refine g_const (v := cI (0)) rfl ?_
  refine g_st (lv' := [_, _, _, _, _, _, _, _, _, _, _, _, _, _]) (is_I _) (Nat.le_of_ble_eq_true rfl) (Or.inr (n1_R _)) rfl ?_
  exact TX11_fieldIn_56 ha1 ha2 (show 7 % 8 ≠ 1 by decide) ha4 (show 7 % 8 ≠ 1 by decide) i1 (show 7 % 8 ≠ 1 by decide) ⟨by omega, by omega⟩ ⟨by omega, by omega⟩ (show 7 % 8 ≠ 1 by decide) (show 7 % 8 ≠ 1 by decide) (show 7 % 8 ≠ 1 by decide) hj0 h
def PX11_fieldIn_J : Nat → Nat → List Int → gS → (Int → gS → Prop) → Prop
  | 0, _, _, _, _ => False
  | f + 1, h, L, G, Q => match h, L with
    | 0, [o, l1, l2, l4, l6, l8, l9, l10] => PX11_fieldIn_56 (PX11_fieldIn_J f) o l1 l2 l4 l6 l8 l9 l10 G Q
    | _, _ => False
theorem TX11_fieldIn_J {Q : Int → gS → Prop} : ∀ f N : Nat, f ≤ N → (∀ (o : Int) (l1 : Int) (l2 : Int) (l3 : Nat) (l4 : Int) (l5 : Nat) (l6 : Int) (l7 : Nat) (l8 : Int) (l9 : Int) (l10 : Int) (l11 : Nat) (l12 : Nat) (l13 : Nat) (G : gS), (inI l1) → (inL l2) → (l3 % 8 ≠ 1) → (inL l4) → (l5 % 8 ≠ 1) → (inL l6) → (l7 % 8 ≠ 1) → (inI l8) → (inI l10) → (l11 % 8 ≠ 1) → (l12 % 8 ≠ 1) → (l13 % 8 ≠ 1) → (PX11_fieldIn_J f) 0 [o, l1, l2, l4, l6, l8, l9, l10] G Q → Tg W0 (rx_J vhX11_fieldIn N 0) [rf (o), cI (l1), cL (l2), l3, cL (l4), l5, cL (l6), l7, cI (l8), rf (l9), cI (l10), l11, l12, l13] [] G (fun r G => ∃ v, r = rf v ∧ Q v G)) := by
  intro f
  induction f with
  | zero => exact fun N _ => fun _ _ _ _ _ _ _ _ _ _ _ _ _ _ _ _ _ _ _ _ _ _ _ _ _ _ _ h => h.elim
  | succ f ih =>
    intro N hN
    obtain ⟨M, rfl⟩ : ∃ M, N = M + 1 := ⟨N - 1, by omega⟩
    have ih := ih M (by omega)
    exact fun _ _ _ _ _ _ _ _ _ _ _ _ _ _ _ hl1 hl2 hl3 hl4 hl5 hl6 hl7 hl8 hl10 hl11 hl12 hl13 h => show Tg W0 (vX11_fieldIn_56 (rx_J vhX11_fieldIn M)) _ _ _ _ from TX11_fieldIn_56 hl1 hl2 hl3 hl4 hl5 hl6 hl7 hl8 hl10 hl11 hl12 hl13 ih h
def PX11_fieldIn (o : Int) (a1 : Int) (a2 : Int) (a4 : Int) (G : gS) (Q : Int → gS → Prop) : Prop := ∃ f : Nat, f ≤ 4000000000 ∧ PX11_fieldIn_0 (PX11_fieldIn_J f) o a1 a2 a4 G Q
theorem TX11_fieldIn {o : Int} {a1 : Int} {a2 : Int} {a4 : Int} {G : gS} {Q : Int → gS → Prop} (ha1 : inI a1) (ha2 : inL a2) (ha4 : inL a4) (h : PX11_fieldIn o a1 a2 a4 G Q) : Tn W0 FX11_fieldIn [rf (o), cI (a1), cL (a2), cL (a4)] G (fun r G => ∃ v, r = rf v ∧ Q v G) := by
  obtain ⟨f, hf, h⟩ := h
  have hJ := TX11_fieldIn_J (Q := Q) f 4000000000 hf
  unfold FX11_fieldIn
  refine g_ent (lv' := [rf (o), cI (a1), cL (a2), 7, cL (a4), 7, 7, 7, 7, 7, 7, 7, 7, 7]) (flR (flI (flL (flL fl0)))) (Nat.le_of_ble_eq_true rfl) rfl ?_
  exact TX11_fieldIn_0 ha1 ha2 ha4 hJ h
def PX11_isLet__156 (o : Int) (l1 : Int) (l2 : Int) (l3 : Int) (l4 : Int) (s0 : Int) (G : gS) (Q : Int → gS → Prop) : Prop :=
  ((0 ≤ s0 ∧ s0 ≤ 1) ∧ Q (s0) G)
set_option maxRecDepth 20000 in
theorem TX11_isLet__156 {o : Int} {l1 : Int} {l2 : Int} {l3 : Int} {l4 : Int} {s0 : Int} {G : gS} {Q : Int → gS → Prop} (hl2 : inI l2) (hl3 : inI l3) (hl4 : inI l4) (hs0 : inI s0) (h : PX11_isLet__156 o l1 l2 l3 l4 s0 G Q) : Tg W0 vX11_isLet__156 [rf (o), rf (l1), cI (l2), cI (l3), cI (l4)] [cI (s0)] G (fun r G => ∃ v, r = cI v ∧ (0 ≤ v ∧ v ≤ 1) ∧ Q v G) := by
  unfold PX11_isLet__156 at h
  unfold vX11_isLet__156
  obtain ⟨q56, h⟩ := h
  exact g_ret1 (is_Z q56) ⟨_, rfl, q56, h⟩
def PX11_isLet__155 (o : Int) (l1 : Int) (l2 : Int) (l3 : Int) (l4 : Int) (G : gS) (Q : Int → gS → Prop) : Prop :=
  PX11_isLet__156 o l1 l2 l3 l4 0 G Q
set_option maxRecDepth 20000 in
theorem TX11_isLet__155 {o : Int} {l1 : Int} {l2 : Int} {l3 : Int} {l4 : Int} {G : gS} {Q : Int → gS → Prop} (hl2 : inI l2) (hl3 : inI l3) (hl4 : inI l4) (h : PX11_isLet__155 o l1 l2 l3 l4 G Q) : Tg W0 vX11_isLet__155 [rf (o), rf (l1), cI (l2), cI (l3), cI (l4)] [] G (fun r G => ∃ v, r = cI v ∧ (0 ≤ v ∧ v ≤ 1) ∧ Q v G) := by
  unfold PX11_isLet__155 at h
  unfold vX11_isLet__155
  refine g_const (v := cI (0)) rfl ?_
  exact TX11_isLet__156 hl2 hl3 hl4 ⟨by omega, by omega⟩ h
def PX11_isLet__151 (o : Int) (l1 : Int) (l2 : Int) (l3 : Int) (l4 : Int) (G : gS) (Q : Int → gS → Prop) : Prop :=
  PX11_isLet__156 o l1 l2 l3 l4 1 G Q
set_option maxRecDepth 20000 in
theorem TX11_isLet__151 {o : Int} {l1 : Int} {l2 : Int} {l3 : Int} {l4 : Int} {G : gS} {Q : Int → gS → Prop} (hl2 : inI l2) (hl3 : inI l3) (hl4 : inI l4) (h : PX11_isLet__151 o l1 l2 l3 l4 G Q) : Tg W0 vX11_isLet__151 [rf (o), rf (l1), cI (l2), cI (l3), cI (l4)] [] G (fun r G => ∃ v, r = cI v ∧ (0 ≤ v ∧ v ≤ 1) ∧ Q v G) := by
  unfold PX11_isLet__151 at h
  unfold vX11_isLet__151
  refine g_const (v := cI (1)) rfl ?_
  exact TX11_isLet__156 hl2 hl3 hl4 ⟨by omega, by omega⟩ h
def PX11_isLet__106 (o : Int) (l1 : Int) (l2 : Int) (l3 : Int) (l4 : Int) (G : gS) (Q : Int → gS → Prop) : Prop :=
  (isO W0 7 (l1) ∧ ((0 ≤ G l1 2 ∧ G l1 2 ≤ 1) → ((G l1 2 = 0 → ((l3 = l4 → PX11_isLet__151 o l1 l2 l3 l4 G Q) ∧ (¬ (l3 = l4) → (isO W0 11 (o) ∧ ((0 : Int) ≤ l3 ∧ ((l3 : Int) < 64 ∧ (inL (G (o + 8) l3) → (inL (lush (G (o + 8) l3) l4) → (inL (land (lush (G (o + 8) l3) l4) 1) → ((land (lush (G (o + 8) l3) l4) 1 = 0 → ((0 : Int) ≤ l4 ∧ ((l4 : Int) < 64 ∧ (inL (G (o + 8) l4) → (inL (lush (G (o + 8) l4) l3) → (inL (land (lush (G (o + 8) l4) l3) 1) → ((land (lush (G (o + 8) l4) l3) 1 = 0 → PX11_isLet__155 o l1 l2 l3 l4 G Q) ∧ (¬ (land (lush (G (o + 8) l4) l3) 1 = 0) → PX11_isLet__151 o l1 l2 l3 l4 G Q)))))))) ∧ (¬ (land (lush (G (o + 8) l3) l4) 1 = 0) → PX11_isLet__151 o l1 l2 l3 l4 G Q))))))))))) ∧ (¬ (G l1 2 = 0) → PX11_isLet__151 o l1 l2 l3 l4 G Q))))
set_option maxRecDepth 20000 in
theorem TX11_isLet__106 {o : Int} {l1 : Int} {l2 : Int} {l3 : Int} {l4 : Int} {G : gS} {Q : Int → gS → Prop} (hl2 : inI l2) (hl3 : inI l3) (hl4 : inI l4) (h : PX11_isLet__106 o l1 l2 l3 l4 G Q) : Tg W0 vX11_isLet__106 [rf (o), rf (l1), cI (l2), cI (l3), cI (l4)] [] G (fun r G => ∃ v, r = cI v ∧ (0 ≤ v ∧ v ≤ 1) ∧ Q v G) := by
  unfold PX11_isLet__106 at h
  unfold vX11_isLet__106
  refine g_ld (v := rf _) rfl (is_R _) ?_
  obtain ⟨q39, h⟩ := h
  refine g_getZ (kz := 2) q39 rfl (Nat.le_of_ble_eq_true rfl) rfl fun i40 => ?_
  replace h := h i40
  refine g_eq1 ⟨by omega, by omega⟩ (fun b41 => ?_) (fun b41 => ?_)
  · replace h := h.1 b41
    unfold vX11_isLet__113
    refine g_ld (v := cI _) rfl (is_I _) ?_
    refine g_ld (v := cI _) rfl (is_I _) ?_
    refine g_eq2 hl3 hl4 (fun b42 => ?_) (fun b42 => ?_)
    · replace h := h.1 b42
      exact TX11_isLet__151 hl2 hl3 hl4 h
    · replace h := h.2 b42
      unfold vX11_isLet__119
      refine g_ld (v := rf _) rfl (is_R _) ?_
      obtain ⟨q43, h⟩ := h
      refine g_getF q43 (ff11_9 q43).1 rfl (Nat.le_of_ble_eq_true rfl) (Nat.le_of_ble_eq_true rfl) ?_
      refine g_ld (v := cI _) rfl (is_I _) ?_
      obtain ⟨q44, q45, h⟩ := h
      refine g_aldL (ff11_9 q43).2 q44 q45 rfl fun i46 => ?_
      replace h := h i46
      refine g_ld (v := cI _) rfl (is_I _) ?_
      refine g_lush fun i47 => ?_
      replace h := h i47
      refine g_const (v := cL (1)) rfl ?_
      refine g_land fun i48 => ?_
      replace h := h i48
      refine g_const (v := cL (0)) rfl ?_
      refine g_leq i48 ⟨by omega, by omega⟩ (fun b49 => ?_) (fun b49 => ?_)
      · replace h := h.1 b49
        unfold vX11_isLet__135
        refine g_ld (v := rf _) rfl (is_R _) ?_
        refine g_getF q43 (ff11_9 q43).1 rfl (Nat.le_of_ble_eq_true rfl) (Nat.le_of_ble_eq_true rfl) ?_
        refine g_ld (v := cI _) rfl (is_I _) ?_
        obtain ⟨q50, q51, h⟩ := h
        refine g_aldL (ff11_9 q43).2 q50 q51 rfl fun i52 => ?_
        replace h := h i52
        refine g_ld (v := cI _) rfl (is_I _) ?_
        refine g_lush fun i53 => ?_
        replace h := h i53
        refine g_const (v := cL (1)) rfl ?_
        refine g_land fun i54 => ?_
        replace h := h i54
        refine g_const (v := cL (0)) rfl ?_
        refine g_leq i54 ⟨by omega, by omega⟩ (fun b55 => ?_) (fun b55 => ?_)
        · replace h := h.1 b55
          exact TX11_isLet__155 hl2 hl3 hl4 h
        · replace h := h.2 b55
          exact TX11_isLet__151 hl2 hl3 hl4 h
      · replace h := h.2 b49
        exact TX11_isLet__151 hl2 hl3 hl4 h
  · replace h := h.2 b41
    exact TX11_isLet__151 hl2 hl3 hl4 h
def PX11_isLet__44 (o : Int) (l1 : Int) (l2 : Int) (l3 : Int) (l4 : Int) (s0 : Int) (G : gS) (Q : Int → gS → Prop) : Prop :=
  ((0 ≤ s0 ∧ s0 ≤ 1) ∧ Q (s0) G)
set_option maxRecDepth 20000 in
theorem TX11_isLet__44 {o : Int} {l1 : Int} {l2 : Int} {l3 : Int} {l4 : Int} {s0 : Int} {G : gS} {Q : Int → gS → Prop} (hl2 : inI l2) (hl3 : inI l3) (hl4 : inI l4) (hs0 : inI s0) (h : PX11_isLet__44 o l1 l2 l3 l4 s0 G Q) : Tg W0 vX11_isLet__44 [rf (o), rf (l1), cI (l2), cI (l3), cI (l4)] [cI (s0)] G (fun r G => ∃ v, r = cI v ∧ (0 ≤ v ∧ v ≤ 1) ∧ Q v G) := by
  unfold PX11_isLet__44 at h
  unfold vX11_isLet__44
  obtain ⟨q38, h⟩ := h
  exact g_ret1 (is_Z q38) ⟨_, rfl, q38, h⟩
def PX11_isLet__39 (o : Int) (l1 : Int) (l2 : Int) (l3 : Int) (l4 : Int) (G : gS) (Q : Int → gS → Prop) : Prop :=
  PX11_isLet__44 o l1 l2 l3 l4 1 G Q
set_option maxRecDepth 20000 in
theorem TX11_isLet__39 {o : Int} {l1 : Int} {l2 : Int} {l3 : Int} {l4 : Int} {G : gS} {Q : Int → gS → Prop} (hl2 : inI l2) (hl3 : inI l3) (hl4 : inI l4) (h : PX11_isLet__39 o l1 l2 l3 l4 G Q) : Tg W0 vX11_isLet__39 [rf (o), rf (l1), cI (l2), cI (l3), cI (l4)] [] G (fun r G => ∃ v, r = cI v ∧ (0 ≤ v ∧ v ≤ 1) ∧ Q v G) := by
  unfold PX11_isLet__39 at h
  unfold vX11_isLet__39
  refine g_const (v := cI (1)) rfl ?_
  exact TX11_isLet__44 hl2 hl3 hl4 ⟨by omega, by omega⟩ h
def PX11_isLet__0 (o : Int) (a1 : Int) (a2 : Int) (a3 : Int) (a4 : Int) (G : gS) (Q : Int → gS → Prop) : Prop :=
  (isO W0 7 (a1) ∧ (inI (G a1 1) → ((G a1 1 = 3 → Q (1) G) ∧ (¬ (G a1 1 = 3) → (inI (G a1 1) → ((G a1 1 = 0 → ((a4 = a2 → PX11_isLet__39 o a1 a2 a3 a4 G Q) ∧ (¬ (a4 = a2) → (isO W0 11 (o) ∧ ((0 : Int) ≤ a4 ∧ ((a4 : Int) < 64 ∧ (inI (G (o + 7) a4) → ((0 : Int) ≤ a2 ∧ ((a2 : Int) < 64 ∧ (inI (G (o + 7) a2) → ((G (o + 7) a4 = G (o + 7) a2 → PX11_isLet__39 o a1 a2 a3 a4 G Q) ∧ (¬ (G (o + 7) a4 = G (o + 7) a2) → PX11_isLet__44 o a1 a2 a3 a4 0 G Q)))))))))))) ∧ (¬ (G a1 1 = 0) → (isO W0 11 (o) ∧ ((0 : Int) ≤ a4 ∧ ((a4 : Int) < 64 ∧ (((G (o + 1) a4 = -1 ∨ isO W0 10 (G (o + 1) a4)) ∧ ∀ v, W0.2 (o + 1) a4 = some v → G (o + 1) a4 = v) → (isO W0 10 (G (o + 1) a4) ∧ (inL (G (G (o + 1) a4) 1) → (inL (lush (G (G (o + 1) a4) 1) 59) → ((0 : Int) ≤ a2 ∧ ((a2 : Int) < 64 ∧ (((G (o + 1) a2 = -1 ∨ isO W0 10 (G (o + 1) a2)) ∧ ∀ v, W0.2 (o + 1) a2 = some v → G (o + 1) a2 = v) → (isO W0 10 (G (o + 1) a2) ∧ (inL (G (G (o + 1) a2) 1) → (inL (lush (G (G (o + 1) a2) 1) 59) → ((lush (G (G (o + 1) a4) 1) 59 = lush (G (G (o + 1) a2) 1) 59 → Q (1) G) ∧ (¬ (lush (G (G (o + 1) a4) 1) 59 = lush (G (G (o + 1) a2) 1) 59) → (inI (G a1 1) → ((G a1 1 = 2 → ((a4 = a2 → PX11_isLet__106 o a1 a2 a3 a4 G Q) ∧ (¬ (a4 = a2) → ((0 : Int) ≤ a4 ∧ ((a4 : Int) < 64 ∧ (inL (G (o + 8) a4) → (inL (lush (G (o + 8) a4) a2) → (inL (land (lush (G (o + 8) a4) a2) 1) → ((land (lush (G (o + 8) a4) a2) 1 = 0 → PX11_isLet__155 o a1 a2 a3 a4 G Q) ∧ (¬ (land (lush (G (o + 8) a4) a2) 1 = 0) → PX11_isLet__106 o a1 a2 a3 a4 G Q)))))))))) ∧ (¬ (G a1 1 = 2) → PX11_isLet__155 o a1 a2 a3 a4 G Q)))))))))))))))))))))))))
set_option maxRecDepth 20000 in
theorem TX11_isLet__0 {o : Int} {a1 : Int} {a2 : Int} {a3 : Int} {a4 : Int} {G : gS} {Q : Int → gS → Prop} (ha2 : inI a2) (ha3 : inI a3) (ha4 : inI a4) (h : PX11_isLet__0 o a1 a2 a3 a4 G Q) : Tg W0 vX11_isLet__0 [rf (o), rf (a1), cI (a2), cI (a3), cI (a4)] [] G (fun r G => ∃ v, r = cI v ∧ (0 ≤ v ∧ v ≤ 1) ∧ Q v G) := by
  unfold PX11_isLet__0 at h
  unfold vX11_isLet__0
  refine g_ld (v := rf _) rfl (is_R _) ?_
  obtain ⟨q1, h⟩ := h
  refine g_getI (kz := 1) q1 rfl (Nat.le_of_ble_eq_true rfl) rfl fun i2 => ?_
  replace h := h i2
  refine g_const (v := cI (3)) rfl ?_
  refine g_eq2 i2 ⟨by omega, by omega⟩ (fun b3 => ?_) (fun b3 => ?_)
  · replace h := h.1 b3
    unfold vX11_isLet__8
    refine g_const (v := cI (1)) rfl ?_
    exact g_ret1 (is_Z (by omega)) ⟨_, rfl, (by omega), h⟩
  · replace h := h.2 b3
    unfold vX11_isLet__10
    refine g_ld (v := rf _) rfl (is_R _) ?_
    refine g_getI (kz := 1) q1 rfl (Nat.le_of_ble_eq_true rfl) rfl fun i4 => ?_
    replace h := h i4
    refine g_eq1 i4 (fun b5 => ?_) (fun b5 => ?_)
    · replace h := h.1 b5
      unfold vX11_isLet__17
      refine g_ld (v := cI _) rfl (is_I _) ?_
      refine g_ld (v := cI _) rfl (is_I _) ?_
      refine g_eq2 ha4 ha2 (fun b6 => ?_) (fun b6 => ?_)
      · replace h := h.1 b6
        exact TX11_isLet__39 ha2 ha3 ha4 h
      · replace h := h.2 b6
        unfold vX11_isLet__23
        refine g_ld (v := rf _) rfl (is_R _) ?_
        obtain ⟨q7, h⟩ := h
        refine g_getF q7 (ff11_8 q7).1 rfl (Nat.le_of_ble_eq_true rfl) (Nat.le_of_ble_eq_true rfl) ?_
        refine g_ld (v := cI _) rfl (is_I _) ?_
        obtain ⟨q8, q9, h⟩ := h
        refine g_aldI (ff11_8 q7).2 q8 q9 rfl fun i10 => ?_
        replace h := h i10
        refine g_ld (v := rf _) rfl (is_R _) ?_
        refine g_getF q7 (ff11_8 q7).1 rfl (Nat.le_of_ble_eq_true rfl) (Nat.le_of_ble_eq_true rfl) ?_
        refine g_ld (v := cI _) rfl (is_I _) ?_
        obtain ⟨q11, q12, h⟩ := h
        refine g_aldI (ff11_8 q7).2 q11 q12 rfl fun i13 => ?_
        replace h := h i13
        refine g_eq2 i10 i13 (fun b14 => ?_) (fun b14 => ?_)
        · replace h := h.1 b14
          exact TX11_isLet__39 ha2 ha3 ha4 h
        · replace h := h.2 b14
          unfold vX11_isLet__43
          refine g_const (v := cI (0)) rfl ?_
          exact TX11_isLet__44 ha2 ha3 ha4 ⟨by omega, by omega⟩ h
    · replace h := h.2 b5
      unfold vX11_isLet__45
      refine g_ld (v := rf _) rfl (is_R _) ?_
      obtain ⟨q15, h⟩ := h
      refine g_getF q15 (ff11_1 q15).1 rfl (Nat.le_of_ble_eq_true rfl) (Nat.le_of_ble_eq_true rfl) ?_
      refine g_ld (v := cI _) rfl (is_I _) ?_
      obtain ⟨q16, q17, h⟩ := h
      refine g_aldRF (c := 10) (ff11_1 q15).2 q16 q17 rfl (by decide) fun i18 => ?_
      replace h := h i18
      obtain ⟨q19, h⟩ := h
      refine g_getL (kz := 1) q19 rfl (Nat.le_of_ble_eq_true rfl) rfl fun i20 => ?_
      replace h := h i20
      refine g_const (v := cI (59)) rfl ?_
      refine g_lush fun i21 => ?_
      replace h := h i21
      refine g_ld (v := rf _) rfl (is_R _) ?_
      refine g_getF q15 (ff11_1 q15).1 rfl (Nat.le_of_ble_eq_true rfl) (Nat.le_of_ble_eq_true rfl) ?_
      refine g_ld (v := cI _) rfl (is_I _) ?_
      obtain ⟨q22, q23, h⟩ := h
      refine g_aldRF (c := 10) (ff11_1 q15).2 q22 q23 rfl (by decide) fun i24 => ?_
      replace h := h i24
      obtain ⟨q25, h⟩ := h
      refine g_getL (kz := 1) q25 rfl (Nat.le_of_ble_eq_true rfl) rfl fun i26 => ?_
      replace h := h i26
      refine g_const (v := cI (59)) rfl ?_
      refine g_lush fun i27 => ?_
      replace h := h i27
      refine g_leq i21 i27 (fun b28 => ?_) (fun b28 => ?_)
      · replace h := h.1 b28
        unfold vX11_isLet__74
        refine g_const (v := cI (1)) rfl ?_
        exact g_ret1 (is_Z (by omega)) ⟨_, rfl, (by omega), h⟩
      · replace h := h.2 b28
        unfold vX11_isLet__76
        refine g_ld (v := rf _) rfl (is_R _) ?_
        refine g_getI (kz := 1) q1 rfl (Nat.le_of_ble_eq_true rfl) rfl fun i29 => ?_
        replace h := h i29
        refine g_const (v := cI (2)) rfl ?_
        refine g_eq2 i29 ⟨by omega, by omega⟩ (fun b30 => ?_) (fun b30 => ?_)
        · replace h := h.1 b30
          unfold vX11_isLet__84
          refine g_ld (v := cI _) rfl (is_I _) ?_
          refine g_ld (v := cI _) rfl (is_I _) ?_
          refine g_eq2 ha4 ha2 (fun b31 => ?_) (fun b31 => ?_)
          · replace h := h.1 b31
            exact TX11_isLet__106 ha2 ha3 ha4 h
          · replace h := h.2 b31
            unfold vX11_isLet__90
            refine g_ld (v := rf _) rfl (is_R _) ?_
            refine g_getF q15 (ff11_9 q15).1 rfl (Nat.le_of_ble_eq_true rfl) (Nat.le_of_ble_eq_true rfl) ?_
            refine g_ld (v := cI _) rfl (is_I _) ?_
            obtain ⟨q32, q33, h⟩ := h
            refine g_aldL (ff11_9 q15).2 q32 q33 rfl fun i34 => ?_
            replace h := h i34
            refine g_ld (v := cI _) rfl (is_I _) ?_
            refine g_lush fun i35 => ?_
            replace h := h i35
            refine g_const (v := cL (1)) rfl ?_
            refine g_land fun i36 => ?_
            replace h := h i36
            refine g_const (v := cL (0)) rfl ?_
            refine g_leq i36 ⟨by omega, by omega⟩ (fun b37 => ?_) (fun b37 => ?_)
            · replace h := h.1 b37
              exact TX11_isLet__155 ha2 ha3 ha4 h
            · replace h := h.2 b37
              exact TX11_isLet__106 ha2 ha3 ha4 h
        · replace h := h.2 b30
          exact TX11_isLet__155 ha2 ha3 ha4 h
abbrev PX11_isLet_ (o : Int) (a1 : Int) (a2 : Int) (a3 : Int) (a4 : Int) (G : gS) (Q : Int → gS → Prop) : Prop := PX11_isLet__0 o a1 a2 a3 a4 G Q
theorem TX11_isLet_ {o : Int} {a1 : Int} {a2 : Int} {a3 : Int} {a4 : Int} {G : gS} {Q : Int → gS → Prop} (ha2 : inI a2) (ha3 : inI a3) (ha4 : inI a4) (h : PX11_isLet_ o a1 a2 a3 a4 G Q) : Tn W0 FX11_isLet_ [rf (o), rf (a1), cI (a2), cI (a3), cI (a4)] G (fun r G => ∃ v, r = cI v ∧ (0 ≤ v ∧ v ≤ 1) ∧ Q v G) := by
  unfold FX11_isLet_
  refine g_ent (lv' := [rf (o), rf (a1), cI (a2), cI (a3), cI (a4)]) (flR (flR (flI (flI (flI fl0))))) (Nat.le_of_ble_eq_true rfl) rfl ?_
  exact TX11_isLet__0 ha2 ha3 ha4 h
def PX0_field_43 (l1 : Int) (l2 : Int) (l3 : Int) (l5 : Int) (G : gS) (Q : Int → gS → Prop) : Prop :=
  (isO W0 8 (l1) ∧ (inI (G l1 2) → PX0_fail 11 (G l1 2) G (fun r34 G33 => (0 ≤ r34 ∧ r34 ≤ 1) → Q (r34) G33)))
set_option maxRecDepth 20000 in
theorem TX0_field_43 {l1 : Int} {l2 : Int} {l3 : Int} {l4 : Nat} {l5 : Int} {G : gS} {Q : Int → gS → Prop} (hl2 : inI l2) (hl3 : inL l3) (hl4 : l4 % 8 ≠ 1) (h : PX0_field_43 l1 l2 l3 l5 G Q) : Tg W0 vX0_field_43 [rf (815), rf (l1), cI (l2), cL (l3), l4, rf (l5)] [] G (fun r G => ∃ v, r = cI v ∧ (0 ≤ v ∧ v ≤ 1) ∧ Q v G) := by
  unfold PX0_field_43 at h
  unfold vX0_field_43
  refine g_ld (v := rf _) rfl (is_R _) ?_
  refine g_const (v := cI (11)) rfl ?_
  refine g_ld (v := rf _) rfl (is_R _) ?_
  obtain ⟨q31, h⟩ := h
  refine g_getI (kz := 2) q31 rfl (Nat.le_of_ble_eq_true rfl) rfl fun i32 => ?_
  replace h := h i32
  refine g_callV (As := [_, _]) (ci := 0) oC0 (fun _ => rfl) ?_
  refine g_go1 (Nat.le_of_ble_eq_true rfl) (Tn_w (TX0_fail ⟨by omega, by omega⟩ i32 h) fun _ G33 ⟨r34, e, i35, h⟩ => ?_)
  subst e
  refine ⟨n7_I _, ?_⟩
  replace h := h i35
  exact g_ret1 (is_Z i35) ⟨_, rfl, i35, h⟩
def PX0_field_0 (a1 : Int) (a2 : Int) (a3 : Int) (G : gS) (Q : Int → gS → Prop) : Prop :=
  ((G 815 0 = -1 ∨ isO W0 11 (G 815 0)) → (isO W0 11 (G 815 0) ∧ PX11_fieldIn (G 815 0) a2 a3 (-4) G (fun r4 G3 => ((r4 < 0 → PX0_field_43 a1 a2 a3 r4 G3 Q) ∧ (0 ≤ r4 → ((G3 815 0 = -1 ∨ isO W0 11 (G3 815 0)) → ((G3 815 0 = -1 ∨ isO W0 11 (G3 815 0)) → (isO W0 11 (G3 815 0) ∧ (inI (G3 (G3 815 0) 18) → (inI (G3 815 6) → (isO W0 11 (G3 815 0) ∧ PX11_isLet_ (G3 815 0) r4 (G3 (G3 815 0) 18) a2 (G3 815 6) G3 (fun r14 G13 => (0 ≤ r14 ∧ r14 ≤ 1) → ((r14 = 0 → PX0_field_43 a1 a2 a3 r4 G13 Q) ∧ (¬ (r14 = 0) → (isO W0 8 (a1) ∧ ((r4 = -1 ∨ isO W0 7 (r4)) ∧ (∀ G19 : gS, G19 = uG G13 a1 11 (r4) → (isO W0 7 (r4) ∧ (inL (G19 r4 8) → (∀ G22 : gS, G22 = uG G19 a1 9 (G19 r4 8) → ((G22 815 0 = -1 ∨ isO W0 11 (G22 815 0)) → (isO W0 11 (G22 815 0) ∧ ((0 : Int) ≤ a2 ∧ ((a2 : Int) < 64 ∧ (((G22 ((G22 815 0) + 1) a2 = -1 ∨ isO W0 10 (G22 ((G22 815 0) + 1) a2)) ∧ ∀ v, W0.2 ((G22 815 0) + 1) a2 = some v → G22 ((G22 815 0) + 1) a2 = v) → (isO W0 10 (G22 ((G22 815 0) + 1) a2) ∧ (inL (G22 (G22 ((G22 815 0) + 1) a2) 1) → (∀ G30 : gS, G30 = uG G22 a1 10 (G22 (G22 ((G22 815 0) + 1) a2) 1) → Q (1) G30))))))))))))))))))))))))))))
set_option maxRecDepth 20000 in
theorem TX0_field_0 {a1 : Int} {a2 : Int} {a3 : Int} {G : gS} {Q : Int → gS → Prop} (ha2 : inI a2) (ha3 : inL a3) (h : PX0_field_0 a1 a2 a3 G Q) : Tg W0 vX0_field_0 [rf (815), rf (a1), cI (a2), cL (a3), 7, 7] [] G (fun r G => ∃ v, r = cI v ∧ (0 ≤ v ∧ v ≤ 1) ∧ Q v G) := by
  unfold PX0_field_0 at h
  unfold vX0_field_0
  refine g_ld (v := rf _) rfl (is_R _) ?_
  refine g_getR (kz := 0) (c := 11) oC0 rfl (Nat.le_of_ble_eq_true rfl) rfl (by decide) fun i1 => ?_
  replace h := h i1
  refine g_ld (v := cI _) rfl (is_I _) ?_
  refine g_ld (v := cL _) rfl (is_L _) ?_
  refine g_const (v := cL (-4)) rfl ?_
  obtain ⟨q2, h⟩ := h
  refine g_callV (As := [_, _, _]) (ci := 11) q2 (fun _ => rfl) ?_
  refine g_go1 (Nat.le_of_ble_eq_true rfl) (Tn_w (TX11_fieldIn ha2 ha3 ⟨by omega, by omega⟩ h) fun _ G3 ⟨r4, e, h⟩ => ?_)
  subst e
  refine ⟨n7_R _, ?_⟩
  refine g_st (lv' := [_, _, _, _, _, _]) (is_R _) (Nat.le_of_ble_eq_true rfl) (Or.inr (show 7 % 8 ≠ 1 by decide)) rfl ?_
  refine g_ld (v := rf _) rfl (is_R _) ?_
  refine g_nul (fun b6 => ?_) (fun b6 => ?_)
  · replace h := h.1 b6
    exact TX0_field_43 ha2 ha3 (show 7 % 8 ≠ 1 by decide) h
  · replace h := h.2 b6
    unfold vX0_field_19
    refine g_ld (v := rf _) rfl (is_R _) ?_
    refine g_getR (kz := 0) (c := 11) oC0 rfl (Nat.le_of_ble_eq_true rfl) rfl (by decide) fun i7 => ?_
    replace h := h i7
    refine g_ld (v := rf _) rfl (is_R _) ?_
    refine g_ld (v := rf _) rfl (is_R _) ?_
    refine g_getR (kz := 0) (c := 11) oC0 rfl (Nat.le_of_ble_eq_true rfl) rfl (by decide) fun i8 => ?_
    replace h := h i8
    obtain ⟨q9, h⟩ := h
    refine g_getI (kz := 18) q9 rfl (Nat.le_of_ble_eq_true rfl) rfl fun i10 => ?_
    replace h := h i10
    refine g_ld (v := cI _) rfl (is_I _) ?_
    refine g_ld (v := rf _) rfl (is_R _) ?_
    refine g_getI (kz := 6) oC0 rfl (Nat.le_of_ble_eq_true rfl) rfl fun i11 => ?_
    replace h := h i11
    obtain ⟨q12, h⟩ := h
    refine g_callV (As := [_, _, _, _]) (ci := 11) q12 (fun _ => rfl) ?_
    refine g_go1 (Nat.le_of_ble_eq_true rfl) (Tn_w (TX11_isLet_ i10 ha2 i11 h) fun _ G13 ⟨r14, e, i15, h⟩ => ?_)
    subst e
    refine ⟨n7_I _, ?_⟩
    replace h := h i15
    refine g_eq1 ⟨by omega, by omega⟩ (fun b16 => ?_) (fun b16 => ?_)
    · replace h := h.1 b16
      exact TX0_field_43 ha2 ha3 (show 7 % 8 ≠ 1 by decide) h
    · replace h := h.2 b16
      unfold vX0_field_54
      refine g_ld (v := rf _) rfl (is_R _) ?_
      refine g_ld (v := rf _) rfl (is_R _) ?_
      obtain ⟨q17, h⟩ := h
      obtain ⟨q18, h⟩ := h
      refine g_putR (kz := 11) (c := 7) q17 rfl (Nat.le_of_ble_eq_true rfl) rfl (by decide) q18 (nf8_11 q17) ?_
      replace h := h _ rfl
      refine g_ld (v := rf _) rfl (is_R _) ?_
      refine g_ld (v := rf _) rfl (is_R _) ?_
      obtain ⟨q20, h⟩ := h
      refine g_getL (kz := 8) q20 rfl (Nat.le_of_ble_eq_true rfl) rfl fun i21 => ?_
      replace h := h i21
      refine g_putL (kz := 9) q17 rfl (Nat.le_of_ble_eq_true rfl) rfl i21 (nf8_9 q17) ?_
      replace h := h _ rfl
      refine g_ld (v := rf _) rfl (is_R _) ?_
      refine g_ld (v := rf _) rfl (is_R _) ?_
      refine g_getR (kz := 0) (c := 11) oC0 rfl (Nat.le_of_ble_eq_true rfl) rfl (by decide) fun i23 => ?_
      replace h := h i23
      obtain ⟨q24, h⟩ := h
      refine g_getF q24 (ff11_1 q24).1 rfl (Nat.le_of_ble_eq_true rfl) (Nat.le_of_ble_eq_true rfl) ?_
      refine g_ld (v := cI _) rfl (is_I _) ?_
      obtain ⟨q25, q26, h⟩ := h
      refine g_aldRF (c := 10) (ff11_1 q24).2 q25 q26 rfl (by decide) fun i27 => ?_
      replace h := h i27
      obtain ⟨q28, h⟩ := h
      refine g_getL (kz := 1) q28 rfl (Nat.le_of_ble_eq_true rfl) rfl fun i29 => ?_
      replace h := h i29
      refine g_putL (kz := 10) q17 rfl (Nat.le_of_ble_eq_true rfl) rfl i29 (nf8_10 q17) ?_
      replace h := h _ rfl
      refine g_const (v := cI (1)) rfl ?_
      exact g_ret1 (is_Z (by omega)) ⟨_, rfl, (by omega), h⟩
abbrev PX0_field (a1 : Int) (a2 : Int) (a3 : Int) (G : gS) (Q : Int → gS → Prop) : Prop := PX0_field_0 a1 a2 a3 G Q
theorem TX0_field {a1 : Int} {a2 : Int} {a3 : Int} {G : gS} {Q : Int → gS → Prop} (ha2 : inI a2) (ha3 : inL a3) (h : PX0_field a1 a2 a3 G Q) : Tn W0 FX0_field [rf (815), rf (a1), cI (a2), cL (a3)] G (fun r G => ∃ v, r = cI v ∧ (0 ≤ v ∧ v ≤ 1) ∧ Q v G) := by
  unfold FX0_field
  refine g_ent (lv' := [rf (815), rf (a1), cI (a2), cL (a3), 7, 7]) (flR (flR (flI (flL fl0)))) (Nat.le_of_ble_eq_true rfl) rfl ?_
  exact TX0_field_0 ha2 ha3 h
def PX0_localOf_2 (J : Nat → List Int → gS → (Int → gS → Prop) → Prop) (l1 : Int) (l3 : Int) (G : gS) (Q : Int → gS → Prop) : Prop :=
  (inI (G 815 11) → ((l3 < G 815 11 → ((0 : Int) ≤ l3 ∧ ((l3 : Int) < 700 ∧ (inL (G 816 l3) → ((G 816 l3 = l1 → Q (l3) G) ∧ (¬ (G 816 l3 = l1) → (inI (l3 + 1) ∧ J 0 [l1, l3 + 1] G Q))))))) ∧ (¬ (l3 < G 815 11) → Q (-2) G)))
set_option maxRecDepth 20000 in
theorem TX0_localOf_2 {j : Nat → rx_K} {J : Nat → List Int → gS → (Int → gS → Prop) → Prop} {l1 : Int} {l2 : Nat} {l3 : Int} {G : gS} {Q : Int → gS → Prop} (hl1 : inL l1) (hl2 : l2 % 8 ≠ 1) (hl3 : inI l3) (hj0 : ∀ (l1 : Int) (l2 : Nat) (l3 : Int) (G : gS), (inL l1) → (l2 % 8 ≠ 1) → (inI l3) → J 0 [l1, l3] G Q → Tg W0 (j 0) [rf (815), cL (l1), l2, cI (l3)] [] G (fun r G => ∃ v, r = cI v ∧ inI v ∧ Q v G)) (h : PX0_localOf_2 J l1 l3 G Q) : Tg W0 (vX0_localOf_2 j) [rf (815), cL (l1), l2, cI (l3)] [] G (fun r G => ∃ v, r = cI v ∧ inI v ∧ Q v G) := by
  unfold PX0_localOf_2 at h
  unfold vX0_localOf_2
  refine g_ld (v := cI _) rfl (is_I _) ?_
  refine g_ld (v := rf _) rfl (is_R _) ?_
  refine g_getI (kz := 11) oC0 rfl (Nat.le_of_ble_eq_true rfl) rfl fun i1 => ?_
  replace h := h i1
  refine g_lt2 hl3 i1 (fun b2 => ?_) (fun b2 => ?_)
  · replace h := h.1 b2
    unfold vX0_localOf_10
    refine g_ld (v := rf _) rfl (is_R _) ?_
    refine g_getF (v := 816) oC0 (hC0_9) rfl (Nat.le_of_ble_eq_true rfl) (Nat.le_of_ble_eq_true rfl) ?_
    refine g_ld (v := cI _) rfl (is_I _) ?_
    obtain ⟨q3, q4, h⟩ := h
    refine g_aldL aC816 q3 q4 rfl fun i5 => ?_
    replace h := h i5
    refine g_ld (v := cL _) rfl (is_L _) ?_
    refine g_leq i5 hl1 (fun b6 => ?_) (fun b6 => ?_)
    · replace h := h.1 b6
      unfold vX0_localOf_21
      refine g_ld (v := cI _) rfl (is_I _) ?_
      exact g_ret1 (is_I _) ⟨_, rfl, hl3, h⟩
    · replace h := h.2 b6
      unfold vX0_localOf_23
      refine g_inc (lv' := [_, _, _, _]) rfl (Nat.le_of_ble_eq_true rfl) (Or.inr hl2) rfl ?_
      obtain ⟨q7, h⟩ := h
      exact hj0 _ _ _ _ hl1 hl2 q7 h
  · replace h := h.2 b2
    unfold vX0_localOf_29
    refine g_const (v := cI (-2)) rfl ?_
    exact g_ret1 (is_I _) ⟨_, rfl, ⟨by omega, by omega⟩, h⟩
def PX0_localOf_0 (J : Nat → List Int → gS → (Int → gS → Prop) → Prop) (a1 : Int) (G : gS) (Q : Int → gS → Prop) : Prop :=
  PX0_localOf_2 J a1 0 G Q
set_option maxRecDepth 20000 in
theorem TX0_localOf_0 {j : Nat → rx_K} {J : Nat → List Int → gS → (Int → gS → Prop) → Prop} {a1 : Int} {G : gS} {Q : Int → gS → Prop} (ha1 : inL a1) (hj0 : ∀ (l1 : Int) (l2 : Nat) (l3 : Int) (G : gS), (inL l1) → (l2 % 8 ≠ 1) → (inI l3) → J 0 [l1, l3] G Q → Tg W0 (j 0) [rf (815), cL (l1), l2, cI (l3)] [] G (fun r G => ∃ v, r = cI v ∧ inI v ∧ Q v G)) (h : PX0_localOf_0 J a1 G Q) : Tg W0 (vX0_localOf_0 j) [rf (815), cL (a1), 7, 7] [] G (fun r G => ∃ v, r = cI v ∧ inI v ∧ Q v G) := by
  unfold PX0_localOf_0 at h
  unfold vX0_localOf_0
  refine g_const (v := cI (0)) rfl ?_
  refine g_st (lv' := [_, _, _, _]) (is_I _) (Nat.le_of_ble_eq_true rfl) (Or.inr (show 7 % 8 ≠ 1 by decide)) rfl ?_
  exact TX0_localOf_2 ha1 (show 7 % 8 ≠ 1 by decide) ⟨by omega, by omega⟩ hj0 h
def PX0_localOf_J : Nat → Nat → List Int → gS → (Int → gS → Prop) → Prop
  | 0, _, _, _, _ => False
  | f + 1, h, L, G, Q => match h, L with
    | 0, [l1, l3] => PX0_localOf_2 (PX0_localOf_J f) l1 l3 G Q
    | _, _ => False
theorem TX0_localOf_J {Q : Int → gS → Prop} : ∀ f N : Nat, f ≤ N → (∀ (l1 : Int) (l2 : Nat) (l3 : Int) (G : gS), (inL l1) → (l2 % 8 ≠ 1) → (inI l3) → (PX0_localOf_J f) 0 [l1, l3] G Q → Tg W0 (rx_J vhX0_localOf N 0) [rf (815), cL (l1), l2, cI (l3)] [] G (fun r G => ∃ v, r = cI v ∧ inI v ∧ Q v G)) := by
  intro f
  induction f with
  | zero => exact fun N _ => fun _ _ _ _ _ _ _ h => h.elim
  | succ f ih =>
    intro N hN
    obtain ⟨M, rfl⟩ : ∃ M, N = M + 1 := ⟨N - 1, by omega⟩
    have ih := ih M (by omega)
    exact fun _ _ _ _ hl1 hl2 hl3 h => show Tg W0 (vX0_localOf_2 (rx_J vhX0_localOf M)) _ _ _ _ from TX0_localOf_2 hl1 hl2 hl3 ih h
def PX0_localOf (a1 : Int) (G : gS) (Q : Int → gS → Prop) : Prop := ∃ f : Nat, f ≤ 4000000000 ∧ PX0_localOf_0 (PX0_localOf_J f) a1 G Q
theorem TX0_localOf {a1 : Int} {G : gS} {Q : Int → gS → Prop} (ha1 : inL a1) (h : PX0_localOf a1 G Q) : Tn W0 FX0_localOf [rf (815), cL (a1)] G (fun r G => ∃ v, r = cI v ∧ inI v ∧ Q v G) := by
  obtain ⟨f, hf, h⟩ := h
  have hJ := TX0_localOf_J (Q := Q) f 4000000000 hf
  unfold FX0_localOf
  refine g_ent (lv' := [rf (815), cL (a1), 7, 7]) (flR (flL fl0)) (Nat.le_of_ble_eq_true rfl) rfl ?_
  exact TX0_localOf_0 ha1 hJ h
def PX0_isLocal_37 (l1 : Int) (l2 : Int) (s0 : Int) (s1 : Int) (s2 : Int) (G : gS) (Q : Int → gS → Prop) : Prop :=
  (isO W0 8 (s0) ∧ (inI (s1 + s2) ∧ (∀ G16 : gS, G16 = uG G s0 4 (s1 + s2) → ((0 : Int) ≤ l2 ∧ ((l2 : Int) < 700 ∧ (inL (G16 817 l2) → (isO W0 8 (l1) ∧ (∀ G21 : gS, G21 = uG G16 l1 9 (G16 817 l2) → Q (1) G21))))))))
set_option maxRecDepth 20000 in
theorem TX0_isLocal_37 {l1 : Int} {l2 : Int} {s0 : Int} {s1 : Int} {s2 : Int} {G : gS} {Q : Int → gS → Prop} (hl2 : inI l2) (hs1 : inI s1) (hs2 : inI s2) (h : PX0_isLocal_37 l1 l2 s0 s1 s2 G Q) : Tg W0 vX0_isLocal_37 [rf (815), rf (l1), cI (l2)] [cI (s2), cI (s1), rf (s0)] G (fun r G => ∃ v, r = cI v ∧ (0 ≤ v ∧ v ≤ 1) ∧ Q v G) := by
  unfold PX0_isLocal_37 at h
  unfold vX0_isLocal_37
  refine g_add ?_
  obtain ⟨q14, h⟩ := h
  obtain ⟨q15, h⟩ := h
  refine g_putI (kz := 4) q14 rfl (Nat.le_of_ble_eq_true rfl) rfl q15 (nf8_4 q14) ?_
  replace h := h _ rfl
  refine g_ld (v := rf _) rfl (is_R _) ?_
  refine g_ld (v := rf _) rfl (is_R _) ?_
  refine g_getF (v := 817) oC0 (hC0_10) rfl (Nat.le_of_ble_eq_true rfl) (Nat.le_of_ble_eq_true rfl) ?_
  refine g_ld (v := cI _) rfl (is_I _) ?_
  obtain ⟨q17, q18, h⟩ := h
  refine g_aldL aC817 q17 q18 rfl fun i19 => ?_
  replace h := h i19
  obtain ⟨q20, h⟩ := h
  refine g_putL (kz := 9) q20 rfl (Nat.le_of_ble_eq_true rfl) rfl i19 (nf8_9 q20) ?_
  replace h := h _ rfl
  refine g_const (v := cI (1)) rfl ?_
  exact g_ret1 (is_Z (by omega)) ⟨_, rfl, (by omega), h⟩
def PX0_isLocal_0 (a1 : Int) (G : gS) (Q : Int → gS → Prop) : Prop :=
  ((G 815 2 = -1 ∨ isO W0 9 (G 815 2)) → (isO W0 9 (G 815 2) ∧ (isO W0 8 (a1) ∧ (inI (G a1 2) → ((0 : Int) ≤ G a1 2 ∧ ((G a1 2 : Int) < 704 ∧ (inL (G 12 (G a1 2)) → PX0_localOf (G 12 (G a1 2)) G (fun r9 G8 => inI r9 → ((r9 < 0 → Q (0) G8) ∧ (¬ (r9 < 0) → ((0 ≤ G8 815 8 ∧ G8 815 8 ≤ 1) → ((G8 815 8 = 0 → PX0_isLocal_37 a1 r9 a1 r9 1 G8 Q) ∧ (¬ (G8 815 8 = 0) → PX0_isLocal_37 a1 r9 a1 r9 0 G8 Q)))))))))))))
set_option maxRecDepth 20000 in
theorem TX0_isLocal_0 {a1 : Int} {G : gS} {Q : Int → gS → Prop}  (h : PX0_isLocal_0 a1 G Q) : Tg W0 vX0_isLocal_0 [rf (815), rf (a1), 7] [] G (fun r G => ∃ v, r = cI v ∧ (0 ≤ v ∧ v ≤ 1) ∧ Q v G) := by
  unfold PX0_isLocal_0 at h
  unfold vX0_isLocal_0
  refine g_ld (v := rf _) rfl (is_R _) ?_
  refine g_ld (v := rf _) rfl (is_R _) ?_
  refine g_getR (kz := 2) (c := 9) oC0 rfl (Nat.le_of_ble_eq_true rfl) rfl (by decide) fun i1 => ?_
  replace h := h i1
  obtain ⟨q2, h⟩ := h
  refine g_getF (v := 12) q2 (by rw [one9 q2]; exact hC9_4) rfl (Nat.le_of_ble_eq_true rfl) (Nat.le_of_ble_eq_true rfl) ?_
  refine g_ld (v := rf _) rfl (is_R _) ?_
  obtain ⟨q3, h⟩ := h
  refine g_getI (kz := 2) q3 rfl (Nat.le_of_ble_eq_true rfl) rfl fun i4 => ?_
  replace h := h i4
  obtain ⟨q5, q6, h⟩ := h
  refine g_aldL aC12 q5 q6 rfl fun i7 => ?_
  replace h := h i7
  refine g_callV (As := [_]) (ci := 0) oC0 (fun _ => rfl) ?_
  refine g_go1 (Nat.le_of_ble_eq_true rfl) (Tn_w (TX0_localOf i7 h) fun _ G8 ⟨r9, e, i10, h⟩ => ?_)
  subst e
  refine ⟨n7_I _, ?_⟩
  replace h := h i10
  refine g_st (lv' := [_, _, _]) (is_I _) (Nat.le_of_ble_eq_true rfl) (Or.inr (n1_R _)) rfl ?_
  refine g_ld (v := cI _) rfl (is_I _) ?_
  refine g_lt1 i10 (fun b11 => ?_) (fun b11 => ?_)
  · replace h := h.1 b11
    unfold vX0_isLocal_21
    refine g_const (v := cI (0)) rfl ?_
    exact g_ret1 (is_Z (by omega)) ⟨_, rfl, (by omega), h⟩
  · replace h := h.2 b11
    unfold vX0_isLocal_23
    refine g_ld (v := rf _) rfl (is_R _) ?_
    refine g_ld (v := cI _) rfl (is_I _) ?_
    refine g_ld (v := rf _) rfl (is_R _) ?_
    refine g_getZ (kz := 8) oC0 rfl (Nat.le_of_ble_eq_true rfl) rfl fun i12 => ?_
    replace h := h i12
    refine g_eq1 ⟨by omega, by omega⟩ (fun b13 => ?_) (fun b13 => ?_)
    · replace h := h.1 b13
      unfold vX0_isLocal_36
      refine g_const (v := cI (1)) rfl ?_
      exact TX0_isLocal_37 i10 i10 ⟨by omega, by omega⟩ h
    · replace h := h.2 b13
      unfold vX0_isLocal_32
      refine g_const (v := cI (0)) rfl ?_
      exact TX0_isLocal_37 i10 i10 ⟨by omega, by omega⟩ h
abbrev PX0_isLocal (a1 : Int) (G : gS) (Q : Int → gS → Prop) : Prop := PX0_isLocal_0 a1 G Q
theorem TX0_isLocal {a1 : Int} {G : gS} {Q : Int → gS → Prop}  (h : PX0_isLocal a1 G Q) : Tn W0 FX0_isLocal [rf (815), rf (a1)] G (fun r G => ∃ v, r = cI v ∧ (0 ≤ v ∧ v ≤ 1) ∧ Q v G) := by
  unfold FX0_isLocal
  refine g_ent (lv' := [rf (815), rf (a1), 7]) (flR (flR fl0)) (Nat.le_of_ble_eq_true rfl) rfl ?_
  exact TX0_isLocal_0  h
def PX0_isObject_31 (l1 : Int) (l3 : Int) (s0 : Int) (G : gS) (Q : Int → gS → Prop) : Prop :=
  ((0 ≤ s0 ∧ s0 ≤ 1) ∧ Q (s0) G)
set_option maxRecDepth 20000 in
theorem TX0_isObject_31 {l1 : Int} {l2 : Nat} {l3 : Int} {s0 : Int} {G : gS} {Q : Int → gS → Prop} (hl1 : inL l1) (hl2 : l2 % 8 ≠ 1) (hl3 : inI l3) (hs0 : inI s0) (h : PX0_isObject_31 l1 l3 s0 G Q) : Tg W0 vX0_isObject_31 [rf (815), cL (l1), l2, cI (l3)] [cI (s0)] G (fun r G => ∃ v, r = cI v ∧ (0 ≤ v ∧ v ≤ 1) ∧ Q v G) := by
  unfold PX0_isObject_31 at h
  unfold vX0_isObject_31
  obtain ⟨q7, h⟩ := h
  exact g_ret1 (is_Z q7) ⟨_, rfl, q7, h⟩
def PX0_isObject_26 (l1 : Int) (l3 : Int) (G : gS) (Q : Int → gS → Prop) : Prop :=
  PX0_isObject_31 l1 l3 1 G Q
set_option maxRecDepth 20000 in
theorem TX0_isObject_26 {l1 : Int} {l2 : Nat} {l3 : Int} {G : gS} {Q : Int → gS → Prop} (hl1 : inL l1) (hl2 : l2 % 8 ≠ 1) (hl3 : inI l3) (h : PX0_isObject_26 l1 l3 G Q) : Tg W0 vX0_isObject_26 [rf (815), cL (l1), l2, cI (l3)] [] G (fun r G => ∃ v, r = cI v ∧ (0 ≤ v ∧ v ≤ 1) ∧ Q v G) := by
  unfold PX0_isObject_26 at h
  unfold vX0_isObject_26
  refine g_const (v := cI (1)) rfl ?_
  exact TX0_isObject_31 hl1 hl2 hl3 ⟨by omega, by omega⟩ h
def PX0_isObject_16 (l1 : Int) (l3 : Int) (G : gS) (Q : Int → gS → Prop) : Prop :=
  PX0_fail 13 l3 G (fun r4 G3 => (0 ≤ r4 ∧ r4 ≤ 1) → ((r4 = 0 → PX0_isObject_31 l1 l3 0 G3 Q) ∧ (¬ (r4 = 0) → PX0_isObject_26 l1 l3 G3 Q)))
set_option maxRecDepth 20000 in
theorem TX0_isObject_16 {l1 : Int} {l2 : Nat} {l3 : Int} {G : gS} {Q : Int → gS → Prop} (hl1 : inL l1) (hl2 : l2 % 8 ≠ 1) (hl3 : inI l3) (h : PX0_isObject_16 l1 l3 G Q) : Tg W0 vX0_isObject_16 [rf (815), cL (l1), l2, cI (l3)] [] G (fun r G => ∃ v, r = cI v ∧ (0 ≤ v ∧ v ≤ 1) ∧ Q v G) := by
  unfold PX0_isObject_16 at h
  unfold vX0_isObject_16
  refine g_ld (v := rf _) rfl (is_R _) ?_
  refine g_const (v := cI (13)) rfl ?_
  refine g_ld (v := cI _) rfl (is_I _) ?_
  refine g_callV (As := [_, _]) (ci := 0) oC0 (fun _ => rfl) ?_
  refine g_go1 (Nat.le_of_ble_eq_true rfl) (Tn_w (TX0_fail ⟨by omega, by omega⟩ hl3 h) fun _ G3 ⟨r4, e, i5, h⟩ => ?_)
  subst e
  refine ⟨n7_I _, ?_⟩
  replace h := h i5
  refine g_eq1 ⟨by omega, by omega⟩ (fun b6 => ?_) (fun b6 => ?_)
  · replace h := h.1 b6
    unfold vX0_isObject_30
    refine g_const (v := cI (0)) rfl ?_
    exact TX0_isObject_31 hl1 hl2 hl3 ⟨by omega, by omega⟩ h
  · replace h := h.2 b6
    exact TX0_isObject_26 hl1 hl2 hl3 h
def PX0_isObject_0 (a1 : Int) (a3 : Int) (G : gS) (Q : Int → gS → Prop) : Prop :=
  ((a1 = -1 → PX0_isObject_16 a1 a3 G Q) ∧ (¬ (a1 = -1) → ((a1 = -3 → PX0_isObject_16 a1 a3 G Q) ∧ (¬ (a1 = -3) → PX0_isObject_26 a1 a3 G Q))))
set_option maxRecDepth 20000 in
theorem TX0_isObject_0 {a1 : Int} {a3 : Int} {G : gS} {Q : Int → gS → Prop} (ha1 : inL a1) (ha3 : inI a3) (h : PX0_isObject_0 a1 a3 G Q) : Tg W0 vX0_isObject_0 [rf (815), cL (a1), 7, cI (a3)] [] G (fun r G => ∃ v, r = cI v ∧ (0 ≤ v ∧ v ≤ 1) ∧ Q v G) := by
  unfold PX0_isObject_0 at h
  unfold vX0_isObject_0
  refine g_ld (v := cL _) rfl (is_L _) ?_
  refine g_const (v := cL (-1)) rfl ?_
  refine g_leq ha1 ⟨by omega, by omega⟩ (fun b1 => ?_) (fun b1 => ?_)
  · replace h := h.1 b1
    exact TX0_isObject_16 ha1 (show 7 % 8 ≠ 1 by decide) ha3 h
  · replace h := h.2 b1
    unfold vX0_isObject_8
    refine g_ld (v := cL _) rfl (is_L _) ?_
    refine g_const (v := cL (-3)) rfl ?_
    refine g_leq ha1 ⟨by omega, by omega⟩ (fun b2 => ?_) (fun b2 => ?_)
    · replace h := h.1 b2
      exact TX0_isObject_16 ha1 (show 7 % 8 ≠ 1 by decide) ha3 h
    · replace h := h.2 b2
      exact TX0_isObject_26 ha1 (show 7 % 8 ≠ 1 by decide) ha3 h
abbrev PX0_isObject (a1 : Int) (a3 : Int) (G : gS) (Q : Int → gS → Prop) : Prop := PX0_isObject_0 a1 a3 G Q
theorem TX0_isObject {a1 : Int} {a3 : Int} {G : gS} {Q : Int → gS → Prop} (ha1 : inL a1) (ha3 : inI a3) (h : PX0_isObject a1 a3 G Q) : Tn W0 FX0_isObject [rf (815), cL (a1), cI (a3)] G (fun r G => ∃ v, r = cI v ∧ (0 ≤ v ∧ v ≤ 1) ∧ Q v G) := by
  unfold FX0_isObject
  refine g_ent (lv' := [rf (815), cL (a1), 7, cI (a3)]) (flR (flL (flI fl0))) (Nat.le_of_ble_eq_true rfl) rfl ?_
  exact TX0_isObject_0 ha1 ha3 h
def PX7_sameParams_80 (o : Int) (l1 : Int) (s0 : Int) (G : gS) (Q : Int → gS → Prop) : Prop :=
  ((0 ≤ s0 ∧ s0 ≤ 1) ∧ Q (s0) G)
set_option maxRecDepth 20000 in
theorem TX7_sameParams_80 {o : Int} {l1 : Int} {s0 : Int} {G : gS} {Q : Int → gS → Prop} (hs0 : inI s0) (h : PX7_sameParams_80 o l1 s0 G Q) : Tg W0 vX7_sameParams_80 [rf (o), rf (l1)] [cI (s0)] G (fun r G => ∃ v, r = cI v ∧ (0 ≤ v ∧ v ≤ 1) ∧ Q v G) := by
  unfold PX7_sameParams_80 at h
  unfold vX7_sameParams_80
  obtain ⟨q34, h⟩ := h
  exact g_ret1 (is_Z q34) ⟨_, rfl, q34, h⟩
def PX7_sameParams_79 (o : Int) (l1 : Int) (G : gS) (Q : Int → gS → Prop) : Prop :=
  PX7_sameParams_80 o l1 0 G Q
set_option maxRecDepth 20000 in
theorem TX7_sameParams_79 {o : Int} {l1 : Int} {G : gS} {Q : Int → gS → Prop}  (h : PX7_sameParams_79 o l1 G Q) : Tg W0 vX7_sameParams_79 [rf (o), rf (l1)] [] G (fun r G => ∃ v, r = cI v ∧ (0 ≤ v ∧ v ≤ 1) ∧ Q v G) := by
  unfold PX7_sameParams_79 at h
  unfold vX7_sameParams_79
  refine g_const (v := cI (0)) rfl ?_
  exact TX7_sameParams_80 ⟨by omega, by omega⟩ h
def PX7_sameParams_0 (o : Int) (a1 : Int) (G : gS) (Q : Int → gS → Prop) : Prop :=
  (isO W0 7 (o) ∧ (inI (G o 9) → (isO W0 7 (a1) ∧ (inI (G a1 9) → ((G o 9 = G a1 9 → ((0 : Int) ≤ 0 ∧ ((0 : Int) < 4 ∧ (inL (G (o + 1) 0) → ((0 : Int) ≤ 0 ∧ ((0 : Int) < 4 ∧ (inL (G (a1 + 1) 0) → ((G (o + 1) 0 = G (a1 + 1) 0 → ((0 : Int) ≤ 1 ∧ ((1 : Int) < 4 ∧ (inL (G (o + 1) 1) → ((0 : Int) ≤ 1 ∧ ((1 : Int) < 4 ∧ (inL (G (a1 + 1) 1) → ((G (o + 1) 1 = G (a1 + 1) 1 → ((0 : Int) ≤ 2 ∧ ((2 : Int) < 4 ∧ (inL (G (o + 1) 2) → ((0 : Int) ≤ 2 ∧ ((2 : Int) < 4 ∧ (inL (G (a1 + 1) 2) → ((G (o + 1) 2 = G (a1 + 1) 2 → ((0 : Int) ≤ 3 ∧ ((3 : Int) < 4 ∧ (inL (G (o + 1) 3) → ((0 : Int) ≤ 3 ∧ ((3 : Int) < 4 ∧ (inL (G (a1 + 1) 3) → ((G (o + 1) 3 = G (a1 + 1) 3 → PX7_sameParams_80 o a1 1 G Q) ∧ (¬ (G (o + 1) 3 = G (a1 + 1) 3) → PX7_sameParams_79 o a1 G Q))))))))) ∧ (¬ (G (o + 1) 2 = G (a1 + 1) 2) → PX7_sameParams_79 o a1 G Q))))))))) ∧ (¬ (G (o + 1) 1 = G (a1 + 1) 1) → PX7_sameParams_79 o a1 G Q))))))))) ∧ (¬ (G (o + 1) 0 = G (a1 + 1) 0) → PX7_sameParams_79 o a1 G Q))))))))) ∧ (¬ (G o 9 = G a1 9) → PX7_sameParams_79 o a1 G Q))))))
set_option maxRecDepth 20000 in
theorem TX7_sameParams_0 {o : Int} {a1 : Int} {G : gS} {Q : Int → gS → Prop}  (h : PX7_sameParams_0 o a1 G Q) : Tg W0 vX7_sameParams_0 [rf (o), rf (a1)] [] G (fun r G => ∃ v, r = cI v ∧ (0 ≤ v ∧ v ≤ 1) ∧ Q v G) := by
  unfold PX7_sameParams_0 at h
  unfold vX7_sameParams_0
  refine g_ld (v := rf _) rfl (is_R _) ?_
  obtain ⟨q1, h⟩ := h
  refine g_getI (kz := 9) q1 rfl (Nat.le_of_ble_eq_true rfl) rfl fun i2 => ?_
  replace h := h i2
  refine g_ld (v := rf _) rfl (is_R _) ?_
  obtain ⟨q3, h⟩ := h
  refine g_getI (kz := 9) q3 rfl (Nat.le_of_ble_eq_true rfl) rfl fun i4 => ?_
  replace h := h i4
  refine g_eq2 i2 i4 (fun b5 => ?_) (fun b5 => ?_)
  · replace h := h.1 b5
    unfold vX7_sameParams_11
    refine g_ld (v := rf _) rfl (is_R _) ?_
    refine g_getF q1 (ff7_10 q1).1 rfl (Nat.le_of_ble_eq_true rfl) (Nat.le_of_ble_eq_true rfl) ?_
    refine g_const (v := cI (0)) rfl ?_
    obtain ⟨q6, q7, h⟩ := h
    refine g_aldL (ff7_10 q1).2 q6 q7 rfl fun i8 => ?_
    replace h := h i8
    refine g_ld (v := rf _) rfl (is_R _) ?_
    refine g_getF q3 (ff7_10 q3).1 rfl (Nat.le_of_ble_eq_true rfl) (Nat.le_of_ble_eq_true rfl) ?_
    refine g_const (v := cI (0)) rfl ?_
    obtain ⟨q9, q10, h⟩ := h
    refine g_aldL (ff7_10 q3).2 q9 q10 rfl fun i11 => ?_
    replace h := h i11
    refine g_leq i8 i11 (fun b12 => ?_) (fun b12 => ?_)
    · replace h := h.1 b12
      unfold vX7_sameParams_27
      refine g_ld (v := rf _) rfl (is_R _) ?_
      refine g_getF q1 (ff7_10 q1).1 rfl (Nat.le_of_ble_eq_true rfl) (Nat.le_of_ble_eq_true rfl) ?_
      refine g_const (v := cI (1)) rfl ?_
      obtain ⟨q13, q14, h⟩ := h
      refine g_aldL (ff7_10 q1).2 q13 q14 rfl fun i15 => ?_
      replace h := h i15
      refine g_ld (v := rf _) rfl (is_R _) ?_
      refine g_getF q3 (ff7_10 q3).1 rfl (Nat.le_of_ble_eq_true rfl) (Nat.le_of_ble_eq_true rfl) ?_
      refine g_const (v := cI (1)) rfl ?_
      obtain ⟨q16, q17, h⟩ := h
      refine g_aldL (ff7_10 q3).2 q16 q17 rfl fun i18 => ?_
      replace h := h i18
      refine g_leq i15 i18 (fun b19 => ?_) (fun b19 => ?_)
      · replace h := h.1 b19
        unfold vX7_sameParams_43
        refine g_ld (v := rf _) rfl (is_R _) ?_
        refine g_getF q1 (ff7_10 q1).1 rfl (Nat.le_of_ble_eq_true rfl) (Nat.le_of_ble_eq_true rfl) ?_
        refine g_const (v := cI (2)) rfl ?_
        obtain ⟨q20, q21, h⟩ := h
        refine g_aldL (ff7_10 q1).2 q20 q21 rfl fun i22 => ?_
        replace h := h i22
        refine g_ld (v := rf _) rfl (is_R _) ?_
        refine g_getF q3 (ff7_10 q3).1 rfl (Nat.le_of_ble_eq_true rfl) (Nat.le_of_ble_eq_true rfl) ?_
        refine g_const (v := cI (2)) rfl ?_
        obtain ⟨q23, q24, h⟩ := h
        refine g_aldL (ff7_10 q3).2 q23 q24 rfl fun i25 => ?_
        replace h := h i25
        refine g_leq i22 i25 (fun b26 => ?_) (fun b26 => ?_)
        · replace h := h.1 b26
          unfold vX7_sameParams_59
          refine g_ld (v := rf _) rfl (is_R _) ?_
          refine g_getF q1 (ff7_10 q1).1 rfl (Nat.le_of_ble_eq_true rfl) (Nat.le_of_ble_eq_true rfl) ?_
          refine g_const (v := cI (3)) rfl ?_
          obtain ⟨q27, q28, h⟩ := h
          refine g_aldL (ff7_10 q1).2 q27 q28 rfl fun i29 => ?_
          replace h := h i29
          refine g_ld (v := rf _) rfl (is_R _) ?_
          refine g_getF q3 (ff7_10 q3).1 rfl (Nat.le_of_ble_eq_true rfl) (Nat.le_of_ble_eq_true rfl) ?_
          refine g_const (v := cI (3)) rfl ?_
          obtain ⟨q30, q31, h⟩ := h
          refine g_aldL (ff7_10 q3).2 q30 q31 rfl fun i32 => ?_
          replace h := h i32
          refine g_leq i29 i32 (fun b33 => ?_) (fun b33 => ?_)
          · replace h := h.1 b33
            unfold vX7_sameParams_75
            refine g_const (v := cI (1)) rfl ?_
            exact TX7_sameParams_80 ⟨by omega, by omega⟩ h
          · replace h := h.2 b33
            exact TX7_sameParams_79  h
        · replace h := h.2 b26
          exact TX7_sameParams_79  h
      · replace h := h.2 b19
        exact TX7_sameParams_79  h
    · replace h := h.2 b12
      exact TX7_sameParams_79  h
  · replace h := h.2 b5
    exact TX7_sameParams_79  h
abbrev PX7_sameParams (o : Int) (a1 : Int) (G : gS) (Q : Int → gS → Prop) : Prop := PX7_sameParams_0 o a1 G Q
theorem TX7_sameParams {o : Int} {a1 : Int} {G : gS} {Q : Int → gS → Prop}  (h : PX7_sameParams o a1 G Q) : Tn W0 FX7_sameParams [rf (o), rf (a1)] G (fun r G => ∃ v, r = cI v ∧ (0 ≤ v ∧ v ≤ 1) ∧ Q v G) := by
  unfold FX7_sameParams
  refine g_ent (lv' := [rf (o), rf (a1)]) (flR (flR fl0)) (Nat.le_of_ble_eq_true rfl) rfl ?_
  exact TX7_sameParams_0  h
end DE

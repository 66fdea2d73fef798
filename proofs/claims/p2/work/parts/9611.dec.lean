section DE
def PX5_askFit_111 (o : Int) (l1 : Int) (l3 : Int) (l5 : Int) (l6 : Int) (l7 : Int) (s0 : Int) (G : gS) (Q : Int → gS → Prop) : Prop :=
  Q (s0) G
set_option maxRecDepth 20000 in
theorem TX5_askFit_111 {o : Int} {l1 : Int} {l2 : Nat} {l3 : Int} {l4 : Nat} {l5 : Int} {l6 : Int} {l7 : Int} {s0 : Int} {G : gS} {Q : Int → gS → Prop} (hl1 : inL l1) (hl2 : l2 % 8 ≠ 1) (hl3 : inL l3) (hl4 : l4 % 8 ≠ 1) (hl5 : inI l5) (hl6 : inI l6) (hl7 : inI l7) (hs0 : inI s0) (h : PX5_askFit_111 o l1 l3 l5 l6 l7 s0 G Q) : Tg W0 vX5_askFit_111 [rf (o), cL (l1), l2, cL (l3), l4, cI (l5), cI (l6), cI (l7)] [cI (s0)] G (fun r G => ∃ v, r = cI v ∧ inI v ∧ Q v G) := by
  unfold PX5_askFit_111 at h
  unfold vX5_askFit_111
  exact g_ret1 (is_I _) ⟨_, rfl, hs0, h⟩
def PX5_askFit_104 (o : Int) (l1 : Int) (l3 : Int) (l5 : Int) (l6 : Int) (l7 : Int) (G : gS) (Q : Int → gS → Prop) : Prop :=
  PX5_askFit_111 o l1 l3 l5 l6 l7 l6 G Q
set_option maxRecDepth 20000 in
theorem TX5_askFit_104 {o : Int} {l1 : Int} {l2 : Nat} {l3 : Int} {l4 : Nat} {l5 : Int} {l6 : Int} {l7 : Int} {G : gS} {Q : Int → gS → Prop} (hl1 : inL l1) (hl2 : l2 % 8 ≠ 1) (hl3 : inL l3) (hl4 : l4 % 8 ≠ 1) (hl5 : inI l5) (hl6 : inI l6) (hl7 : inI l7) (h : PX5_askFit_104 o l1 l3 l5 l6 l7 G Q) : Tg W0 vX5_askFit_104 [rf (o), cL (l1), l2, cL (l3), l4, cI (l5), cI (l6), cI (l7)] [] G (fun r G => ∃ v, r = cI v ∧ inI v ∧ Q v G) := by
  unfold PX5_askFit_104 at h
  unfold vX5_askFit_104
  refine g_ld (v := cI _) rfl (is_I _) ?_
  exact TX5_askFit_111 hl1 hl2 hl3 hl4 hl5 hl6 hl7 hl6 h
def PX5_askFit_76 (o : Int) (l1 : Int) (l3 : Int) (l5 : Int) (l6 : Int) (l7 : Int) (s0 : Int) (G : gS) (Q : Int → gS → Prop) : Prop :=
  ((s0 = 0 → ((l7 = l5 → PX5_askFit_104 o l1 l3 l5 s0 l7 G Q) ∧ (¬ (l7 = l5) → (isO W0 5 (o) ∧ ((G o 0 = -1 ∨ isO W0 11 (G o 0)) → (isO W0 11 (G o 0) ∧ PX11_heir (G o 0) l7 l5 G (fun r36 G35 => (0 ≤ r36 ∧ r36 ≤ 1) → ((r36 = 0 → PX5_askFit_111 o l1 l3 l5 s0 l7 11 G35 Q) ∧ (¬ (r36 = 0) → PX5_askFit_104 o l1 l3 l5 s0 l7 G35 Q))))))))) ∧ (¬ (s0 = 0) → PX5_askFit_104 o l1 l3 l5 s0 l7 G Q))
set_option maxRecDepth 20000 in
theorem TX5_askFit_76 {o : Int} {l1 : Int} {l2 : Nat} {l3 : Int} {l4 : Nat} {l5 : Int} {l6 : Int} {l7 : Int} {s0 : Int} {G : gS} {Q : Int → gS → Prop} (hl1 : inL l1) (hl2 : l2 % 8 ≠ 1) (hl3 : inL l3) (hl4 : l4 % 8 ≠ 1) (hl5 : inI l5) (hl6 : inI l6) (hl7 : inI l7) (hs0 : inI s0) (h : PX5_askFit_76 o l1 l3 l5 l6 l7 s0 G Q) : Tg W0 vX5_askFit_76 [rf (o), cL (l1), l2, cL (l3), l4, cI (l5), cI (l6), cI (l7)] [cI (s0)] G (fun r G => ∃ v, r = cI v ∧ inI v ∧ Q v G) := by
  unfold PX5_askFit_76 at h
  unfold vX5_askFit_76
  refine g_st (lv' := [_, _, _, _, _, _, _, _]) (is_I _) (Nat.le_of_ble_eq_true rfl) (Or.inr (n1_I _)) rfl ?_
  refine g_ld (v := cI _) rfl (is_I _) ?_
  refine g_eq1 hs0 (fun b30 => ?_) (fun b30 => ?_)
  · replace h := h.1 b30
    unfold vX5_askFit_83
    refine g_ld (v := cI _) rfl (is_I _) ?_
    refine g_ld (v := cI _) rfl (is_I _) ?_
    refine g_eq2 hl7 hl5 (fun b31 => ?_) (fun b31 => ?_)
    · replace h := h.1 b31
      exact TX5_askFit_104 hl1 hl2 hl3 hl4 hl5 hs0 hl7 h
    · replace h := h.2 b31
      unfold vX5_askFit_90
      refine g_ld (v := rf _) rfl (is_R _) ?_
      obtain ⟨q32, h⟩ := h
      refine g_getR (kz := 0) (c := 11) q32 rfl (Nat.le_of_ble_eq_true rfl) rfl (by decide) fun i33 => ?_
      replace h := h i33
      refine g_ld (v := cI _) rfl (is_I _) ?_
      refine g_ld (v := cI _) rfl (is_I _) ?_
      obtain ⟨q34, h⟩ := h
      refine g_callV (As := [_, _]) (ci := 11) q34 (fun _ => rfl) ?_
      refine g_go1 (Nat.le_of_ble_eq_true rfl) (Tn_w (TX11_heir hl7 hl5 h) fun _ G35 ⟨r36, e, i37, h⟩ => ?_)
      subst e
      refine ⟨n7_I _, ?_⟩
      replace h := h i37
      refine g_eq1 ⟨by omega, by omega⟩ (fun b38 => ?_) (fun b38 => ?_)
      · replace h := h.1 b38
        unfold vX5_askFit_109
        refine g_const (v := cI (11)) rfl ?_
        exact TX5_askFit_111 hl1 hl2 hl3 hl4 hl5 hs0 hl7 ⟨by omega, by omega⟩ h
      · replace h := h.2 b38
        exact TX5_askFit_104 hl1 hl2 hl3 hl4 hl5 hs0 hl7 h
  · replace h := h.2 b30
    exact TX5_askFit_104 hl1 hl2 hl3 hl4 hl5 hs0 hl7 h
def PX5_askFit_48 (o : Int) (l1 : Int) (l3 : Int) (l5 : Int) (l6 : Int) (G : gS) (Q : Int → gS → Prop) : Prop :=
  Q (l6) G
set_option maxRecDepth 20000 in
theorem TX5_askFit_48 {o : Int} {l1 : Int} {l2 : Nat} {l3 : Int} {l4 : Nat} {l5 : Int} {l6 : Int} {l7 : Nat} {G : gS} {Q : Int → gS → Prop} (hl1 : inL l1) (hl2 : l2 % 8 ≠ 1) (hl3 : inL l3) (hl4 : l4 % 8 ≠ 1) (hl5 : inI l5) (hl6 : inI l6) (hl7 : l7 % 8 ≠ 1) (h : PX5_askFit_48 o l1 l3 l5 l6 G Q) : Tg W0 vX5_askFit_48 [rf (o), cL (l1), l2, cL (l3), l4, cI (l5), cI (l6), l7] [] G (fun r G => ∃ v, r = cI v ∧ inI v ∧ Q v G) := by
  unfold PX5_askFit_48 at h
  unfold vX5_askFit_48
  refine g_ld (v := cI _) rfl (is_I _) ?_
  exact g_ret1 (is_I _) ⟨_, rfl, hl6, h⟩
def PX5_askFit_25 (o : Int) (l1 : Int) (l3 : Int) (l5 : Int) (s0 : Int) (G : gS) (Q : Int → gS → Prop) : Prop :=
  ((s0 = 0 → (isO W0 5 (o) ∧ ((G o 0 = -1 ∨ isO W0 11 (G o 0)) → (isO W0 11 (G o 0) ∧ ((0 : Int) ≤ l5 ∧ ((l5 : Int) < 64 ∧ (((G ((G o 0) + 1) l5 = -1 ∨ isO W0 10 (G ((G o 0) + 1) l5)) ∧ ∀ v, W0.2 ((G o 0) + 1) l5 = some v → G ((G o 0) + 1) l5 = v) → (isO W0 10 (G ((G o 0) + 1) l5) ∧ ((0 ≤ G (G ((G o 0) + 1) l5) 4 ∧ G (G ((G o 0) + 1) l5) 4 ≤ 1) → ((G (G ((G o 0) + 1) l5) 4 = 0 → ((G o 0 = -1 ∨ isO W0 11 (G o 0)) → (isO W0 11 (G o 0) ∧ PX11_find (G o 0) l1 G (fun r24 G23 => inI r24 → ((r24 < 0 → PX5_askFit_76 o l1 l3 l5 s0 r24 1 G23 Q) ∧ (¬ (r24 < 0) → PX5_load o r24 G23 (fun r28 G27 => inI r28 → PX5_askFit_76 o l1 l3 l5 s0 r24 r28 G27 Q))))))) ∧ (¬ (G (G ((G o 0) + 1) l5) 4 = 0) → PX5_askFit_48 o l1 l3 l5 s0 G Q))))))))))) ∧ (¬ (s0 = 0) → PX5_askFit_48 o l1 l3 l5 s0 G Q))
set_option maxRecDepth 20000 in
theorem TX5_askFit_25 {o : Int} {l1 : Int} {l2 : Nat} {l3 : Int} {l4 : Nat} {l5 : Int} {l6 : Nat} {l7 : Nat} {s0 : Int} {G : gS} {Q : Int → gS → Prop} (hl1 : inL l1) (hl2 : l2 % 8 ≠ 1) (hl3 : inL l3) (hl4 : l4 % 8 ≠ 1) (hl5 : inI l5) (hl6 : l6 % 8 ≠ 1) (hl7 : l7 % 8 ≠ 1) (hs0 : inI s0) (h : PX5_askFit_25 o l1 l3 l5 s0 G Q) : Tg W0 vX5_askFit_25 [rf (o), cL (l1), l2, cL (l3), l4, cI (l5), l6, l7] [cI (s0)] G (fun r G => ∃ v, r = cI v ∧ inI v ∧ Q v G) := by
  unfold PX5_askFit_25 at h
  unfold vX5_askFit_25
  refine g_st (lv' := [_, _, _, _, _, _, _, _]) (is_I _) (Nat.le_of_ble_eq_true rfl) (Or.inr (n1_I _)) rfl ?_
  refine g_ld (v := cI _) rfl (is_I _) ?_
  refine g_eq1 hs0 (fun b11 => ?_) (fun b11 => ?_)
  · replace h := h.1 b11
    unfold vX5_askFit_32
    refine g_ld (v := rf _) rfl (is_R _) ?_
    obtain ⟨q12, h⟩ := h
    refine g_getR (kz := 0) (c := 11) q12 rfl (Nat.le_of_ble_eq_true rfl) rfl (by decide) fun i13 => ?_
    replace h := h i13
    obtain ⟨q14, h⟩ := h
    refine g_getF q14 (ff11_1 q14).1 rfl (Nat.le_of_ble_eq_true rfl) (Nat.le_of_ble_eq_true rfl) ?_
    refine g_ld (v := cI _) rfl (is_I _) ?_
    obtain ⟨q15, q16, h⟩ := h
    refine g_aldRF (c := 10) (ff11_1 q14).2 q15 q16 rfl (by decide) fun i17 => ?_
    replace h := h i17
    obtain ⟨q18, h⟩ := h
    refine g_getZ (kz := 4) q18 rfl (Nat.le_of_ble_eq_true rfl) rfl fun i19 => ?_
    replace h := h i19
    refine g_eq1 ⟨by omega, by omega⟩ (fun b20 => ?_) (fun b20 => ?_)
    · replace h := h.1 b20
      unfold vX5_askFit_51
      refine g_ld (v := rf _) rfl (is_R _) ?_
      refine g_getR (kz := 0) (c := 11) q12 rfl (Nat.le_of_ble_eq_true rfl) rfl (by decide) fun i21 => ?_
      replace h := h i21
      refine g_ld (v := cL _) rfl (is_L _) ?_
      obtain ⟨q22, h⟩ := h
      refine g_callV (As := [_]) (ci := 11) q22 (fun _ => rfl) ?_
      refine g_go1 (Nat.le_of_ble_eq_true rfl) (Tn_w (TX11_find hl1 h) fun _ G23 ⟨r24, e, i25, h⟩ => ?_)
      subst e
      refine ⟨n7_I _, ?_⟩
      replace h := h i25
      refine g_st (lv' := [_, _, _, _, _, _, _, _]) (is_I _) (Nat.le_of_ble_eq_true rfl) (Or.inr (n1_I _)) rfl ?_
      refine g_ld (v := cI _) rfl (is_I _) ?_
      refine g_lt1 i25 (fun b26 => ?_) (fun b26 => ?_)
      · replace h := h.1 b26
        unfold vX5_askFit_66
        refine g_const (v := cI (1)) rfl ?_
        exact TX5_askFit_76 hl1 hl2 hl3 hl4 hl5 hs0 i25 ⟨by omega, by omega⟩ h
      · replace h := h.2 b26
        unfold vX5_askFit_70
        refine g_ld (v := rf _) rfl (is_R _) ?_
        refine g_ld (v := cI _) rfl (is_I _) ?_
        refine g_callV (As := [_]) (ci := 5) q12 (fun _ => rfl) ?_
        refine g_go1 (Nat.le_of_ble_eq_true rfl) (Tn_w (TX5_load i25 h) fun _ G27 ⟨r28, e, i29, h⟩ => ?_)
        subst e
        refine ⟨n7_I _, ?_⟩
        replace h := h i29
        exact TX5_askFit_76 hl1 hl2 hl3 hl4 hl5 hs0 i25 i29 h
    · replace h := h.2 b20
      exact TX5_askFit_48 hl1 hl2 hl3 hl4 hl5 hs0 hl7 h
  · replace h := h.2 b11
    exact TX5_askFit_48 hl1 hl2 hl3 hl4 hl5 hs0 hl7 h
def PX5_askFit_0 (o : Int) (a1 : Int) (a3 : Int) (G : gS) (Q : Int → gS → Prop) : Prop :=
  (isO W0 5 (o) ∧ ((G o 0 = -1 ∨ isO W0 11 (G o 0)) → (isO W0 11 (G o 0) ∧ PX11_find (G o 0) a3 G (fun r5 G4 => inI r5 → ((r5 < 0 → PX5_askFit_25 o a1 a3 r5 1 G4 Q) ∧ (¬ (r5 < 0) → PX5_load o r5 G4 (fun r9 G8 => inI r9 → PX5_askFit_25 o a1 a3 r5 r9 G8 Q)))))))
set_option maxRecDepth 20000 in
theorem TX5_askFit_0 {o : Int} {a1 : Int} {a3 : Int} {G : gS} {Q : Int → gS → Prop} (ha1 : inL a1) (ha3 : inL a3) (h : PX5_askFit_0 o a1 a3 G Q) : Tg W0 vX5_askFit_0 [rf (o), cL (a1), 7, cL (a3), 7, 7, 7, 7] [] G (fun r G => ∃ v, r = cI v ∧ inI v ∧ Q v G) := by
  unfold PX5_askFit_0 at h
  unfold vX5_askFit_0
  refine g_ld (v := rf _) rfl (is_R _) ?_
  obtain ⟨q1, h⟩ := h
  refine g_getR (kz := 0) (c := 11) q1 rfl (Nat.le_of_ble_eq_true rfl) rfl (by decide) fun i2 => ?_
  replace h := h i2
  refine g_ld (v := cL _) rfl (is_L _) ?_
  obtain ⟨q3, h⟩ := h
  refine g_callV (As := [_]) (ci := 11) q3 (fun _ => rfl) ?_
  refine g_go1 (Nat.le_of_ble_eq_true rfl) (Tn_w (TX11_find ha3 h) fun _ G4 ⟨r5, e, i6, h⟩ => ?_)
  subst e
  refine ⟨n7_I _, ?_⟩
  replace h := h i6
  refine g_st (lv' := [_, _, _, _, _, _, _, _]) (is_I _) (Nat.le_of_ble_eq_true rfl) (Or.inr (show 7 % 8 ≠ 1 by decide)) rfl ?_
  refine g_ld (v := cI _) rfl (is_I _) ?_
  refine g_lt1 i6 (fun b7 => ?_) (fun b7 => ?_)
  · replace h := h.1 b7
    unfold vX5_askFit_15
    refine g_const (v := cI (1)) rfl ?_
    exact TX5_askFit_25 ha1 (show 7 % 8 ≠ 1 by decide) ha3 (show 7 % 8 ≠ 1 by decide) i6 (show 7 % 8 ≠ 1 by decide) (show 7 % 8 ≠ 1 by decide) ⟨by omega, by omega⟩ h
  · replace h := h.2 b7
    unfold vX5_askFit_19
    refine g_ld (v := rf _) rfl (is_R _) ?_
    refine g_ld (v := cI _) rfl (is_I _) ?_
    refine g_callV (As := [_]) (ci := 5) q1 (fun _ => rfl) ?_
    refine g_go1 (Nat.le_of_ble_eq_true rfl) (Tn_w (TX5_load i6 h) fun _ G8 ⟨r9, e, i10, h⟩ => ?_)
    subst e
    refine ⟨n7_I _, ?_⟩
    replace h := h i10
    exact TX5_askFit_25 ha1 (show 7 % 8 ≠ 1 by decide) ha3 (show 7 % 8 ≠ 1 by decide) i6 (show 7 % 8 ≠ 1 by decide) (show 7 % 8 ≠ 1 by decide) i10 h
abbrev PX5_askFit (o : Int) (a1 : Int) (a3 : Int) (G : gS) (Q : Int → gS → Prop) : Prop := PX5_askFit_0 o a1 a3 G Q
theorem TX5_askFit {o : Int} {a1 : Int} {a3 : Int} {G : gS} {Q : Int → gS → Prop} (ha1 : inL a1) (ha3 : inL a3) (h : PX5_askFit o a1 a3 G Q) : Tn W0 FX5_askFit [rf (o), cL (a1), cL (a3)] G (fun r G => ∃ v, r = cI v ∧ inI v ∧ Q v G) := by
  unfold FX5_askFit
  refine g_ent (lv' := [rf (o), cL (a1), 7, cL (a3), 7, 7, 7, 7]) (flR (flL (flL fl0))) (Nat.le_of_ble_eq_true rfl) rfl ?_
  exact TX5_askFit_0 ha1 ha3 h
def PX5_linkOwn_249 (J : Nat → List Int → gS → (Int → gS → Prop) → Prop) (o : Int) (l1 : Int) (l2 : Int) (l3 : Int) (l4 : Int) (s0 : Int) (G : gS) (Q : Int → gS → Prop) : Prop :=
  ((s0 = 0 → (inI (l4 + 1) ∧ J 2 [o, l1, l2, l3, l4 + 1] G Q)) ∧ (¬ (s0 = 0) → Q (s0) G))
set_option maxRecDepth 20000 in
theorem TX5_linkOwn_249 {j : Nat → rx_K} {J : Nat → List Int → gS → (Int → gS → Prop) → Prop} {o : Int} {l1 : Int} {l2 : Int} {l3 : Int} {l4 : Int} {l5 : Nat} {l6 : Nat} {l7 : Nat} {s0 : Int} {G : gS} {Q : Int → gS → Prop} (hl1 : inI l1) (hl4 : inI l4) (hl5 : l5 % 8 ≠ 1) (hl6 : l6 % 8 ≠ 1) (hl7 : l7 % 8 ≠ 1) (hs0 : inI s0) (hj0 : ∀ (o : Int) (l1 : Int) (l2 : Int) (l3 : Int) (l4 : Nat) (l5 : Nat) (l6 : Nat) (l7 : Nat) (G : gS), (inI l1) → (inI l3) → (l4 % 8 ≠ 1) → (l5 % 8 ≠ 1) → (l6 % 8 ≠ 1) → (l7 % 8 ≠ 1) → J 0 [o, l1, l2, l3] G Q → Tg W0 (j 0) [rf (o), cI (l1), rf (l2), cI (l3), l4, l5, l6, l7] [] G (fun r G => ∃ v, r = cI v ∧ inI v ∧ Q v G)) (hj1 : ∀ (o : Int) (l1 : Int) (l2 : Int) (l3 : Int) (l4 : Int) (l5 : Int) (l6 : Int) (l7 : Nat) (G : gS), (inI l1) → (inI l3) → (inI l5) → (inI l6) → (l7 % 8 ≠ 1) → J 1 [o, l1, l2, l3, l4, l5, l6] G Q → Tg W0 (j 1) [rf (o), cI (l1), rf (l2), cI (l3), rf (l4), cI (l5), cI (l6), l7] [] G (fun r G => ∃ v, r = cI v ∧ inI v ∧ Q v G)) (hj2 : ∀ (o : Int) (l1 : Int) (l2 : Int) (l3 : Int) (l4 : Int) (l5 : Nat) (l6 : Nat) (l7 : Nat) (G : gS), (inI l1) → (inI l4) → (l5 % 8 ≠ 1) → (l6 % 8 ≠ 1) → (l7 % 8 ≠ 1) → J 2 [o, l1, l2, l3, l4] G Q → Tg W0 (j 2) [rf (o), cI (l1), rf (l2), rf (l3), cI (l4), l5, l6, l7] [] G (fun r G => ∃ v, r = cI v ∧ inI v ∧ Q v G)) (h : PX5_linkOwn_249 J o l1 l2 l3 l4 s0 G Q) : Tg W0 (vX5_linkOwn_249 j) [rf (o), cI (l1), rf (l2), rf (l3), cI (l4), l5, l6, l7] [cI (s0)] G (fun r G => ∃ v, r = cI v ∧ inI v ∧ Q v G) := by
  unfold PX5_linkOwn_249 at h
  unfold vX5_linkOwn_249
  refine g_st (lv' := [_, _, _, _, _, _, _, _]) (is_I _) (Nat.le_of_ble_eq_true rfl) (Or.inr (n1_I _)) rfl ?_
  refine g_ld (v := cI _) rfl (is_I _) ?_
  refine g_eq1 hs0 (fun b116 => ?_) (fun b116 => ?_)
  · replace h := h.1 b116
    unfold vX5_linkOwn_259
    refine g_inc (lv' := [_, _, _, _, _, _, _, _]) rfl (Nat.le_of_ble_eq_true rfl) (Or.inr (n1_R _)) rfl ?_
    obtain ⟨q117, h⟩ := h
    exact hj2 _ _ _ _ _ _ _ _ _ hl1 q117 (n1_I _) hl6 hl7 h
  · replace h := h.2 b116
    unfold vX5_linkOwn_256
    refine g_ld (v := cI _) rfl (is_I _) ?_
    exact g_ret1 (is_I _) ⟨_, rfl, hs0, h⟩
def PX5_linkOwn_175 (J : Nat → List Int → gS → (Int → gS → Prop) → Prop) (o : Int) (l1 : Int) (l2 : Int) (l3 : Int) (l4 : Int) (G : gS) (Q : Int → gS → Prop) : Prop :=
  (isO W0 10 (l2) ∧ (inI (G l2 16) → (inI (G l2 17) → (inI ((G l2 16) + (G l2 17)) ∧ ((l4 < (G l2 16) + (G l2 17) → (isO W0 1 (l3) ∧ (((G l3 10 = -1 ∨ ∃ n, isA W0 0 n (G l3 10)) ∧ ∀ v, W0.2 l3 10 = some v → G l3 10 = v) → (∃ n77, isA W0 0 n77 (G l3 10) ∧ ((0 : Int) ≤ l4 ∧ ((l4 : Int) < n77 ∧ (inI (G (G l3 10) l4) → ((G (G l3 10) l4 = 17 → (((G l3 12 = -1 ∨ ∃ n, isA W0 1 n (G l3 12)) ∧ ∀ v, W0.2 l3 12 = some v → G l3 12 = v) → (∃ n84, isA W0 1 n84 (G l3 12) ∧ ((0 : Int) ≤ l4 ∧ ((l4 : Int) < n84 ∧ (inL (G (G l3 12) l4) → (((G l3 14 = -1 ∨ ∃ n, isA W0 1 n (G l3 14)) ∧ ∀ v, W0.2 l3 14 = some v → G l3 14 = v) → (∃ n90, isA W0 1 n90 (G l3 14) ∧ ((0 : Int) ≤ l4 ∧ ((l4 : Int) < n90 ∧ (inL (G (G l3 14) l4) → (isO W0 5 (o) ∧ PX5_askFit o (G (G l3 12) l4) (G (G l3 14) l4) G (fun r97 G96 => inI r97 → PX5_linkOwn_249 J o l1 l2 l3 l4 r97 G96 Q))))))))))))) ∧ (¬ (G (G l3 10) l4 = 17) → (((G l3 10 = -1 ∨ ∃ n, isA W0 0 n (G l3 10)) ∧ ∀ v, W0.2 l3 10 = some v → G l3 10 = v) → (∃ n100, isA W0 0 n100 (G l3 10) ∧ ((0 : Int) ≤ l4 ∧ ((l4 : Int) < n100 ∧ (inI (G (G l3 10) l4) → ((G (G l3 10) l4 = 15 → (((G l3 12 = -1 ∨ ∃ n, isA W0 1 n (G l3 12)) ∧ ∀ v, W0.2 l3 12 = some v → G l3 12 = v) → (∃ n107, isA W0 1 n107 (G l3 12) ∧ ((0 : Int) ≤ l4 ∧ ((l4 : Int) < n107 ∧ (inL (G (G l3 12) l4) → (isO W0 5 (o) ∧ PX5_askCatch o (G (G l3 12) l4) G (fun r114 G113 => inI r114 → PX5_linkOwn_249 J o l1 l2 l3 l4 r114 G113 Q)))))))) ∧ (¬ (G (G l3 10) l4 = 15) → PX5_linkOwn_249 J o l1 l2 l3 l4 0 G Q)))))))))))))))) ∧ (¬ (l4 < (G l2 16) + (G l2 17)) → Q (0) G))))))
set_option maxRecDepth 20000 in
theorem TX5_linkOwn_175 {j : Nat → rx_K} {J : Nat → List Int → gS → (Int → gS → Prop) → Prop} {o : Int} {l1 : Int} {l2 : Int} {l3 : Int} {l4 : Int} {l5 : Nat} {l6 : Nat} {l7 : Nat} {G : gS} {Q : Int → gS → Prop} (hl1 : inI l1) (hl4 : inI l4) (hl5 : l5 % 8 ≠ 1) (hl6 : l6 % 8 ≠ 1) (hl7 : l7 % 8 ≠ 1) (hj0 : ∀ (o : Int) (l1 : Int) (l2 : Int) (l3 : Int) (l4 : Nat) (l5 : Nat) (l6 : Nat) (l7 : Nat) (G : gS), (inI l1) → (inI l3) → (l4 % 8 ≠ 1) → (l5 % 8 ≠ 1) → (l6 % 8 ≠ 1) → (l7 % 8 ≠ 1) → J 0 [o, l1, l2, l3] G Q → Tg W0 (j 0) [rf (o), cI (l1), rf (l2), cI (l3), l4, l5, l6, l7] [] G (fun r G => ∃ v, r = cI v ∧ inI v ∧ Q v G)) (hj1 : ∀ (o : Int) (l1 : Int) (l2 : Int) (l3 : Int) (l4 : Int) (l5 : Int) (l6 : Int) (l7 : Nat) (G : gS), (inI l1) → (inI l3) → (inI l5) → (inI l6) → (l7 % 8 ≠ 1) → J 1 [o, l1, l2, l3, l4, l5, l6] G Q → Tg W0 (j 1) [rf (o), cI (l1), rf (l2), cI (l3), rf (l4), cI (l5), cI (l6), l7] [] G (fun r G => ∃ v, r = cI v ∧ inI v ∧ Q v G)) (hj2 : ∀ (o : Int) (l1 : Int) (l2 : Int) (l3 : Int) (l4 : Int) (l5 : Nat) (l6 : Nat) (l7 : Nat) (G : gS), (inI l1) → (inI l4) → (l5 % 8 ≠ 1) → (l6 % 8 ≠ 1) → (l7 % 8 ≠ 1) → J 2 [o, l1, l2, l3, l4] G Q → Tg W0 (j 2) [rf (o), cI (l1), rf (l2), rf (l3), cI (l4), l5, l6, l7] [] G (fun r G => ∃ v, r = cI v ∧ inI v ∧ Q v G)) (h : PX5_linkOwn_175 J o l1 l2 l3 l4 G Q) : Tg W0 (vX5_linkOwn_175 j) [rf (o), cI (l1), rf (l2), rf (l3), cI (l4), l5, l6, l7] [] G (fun r G => ∃ v, r = cI v ∧ inI v ∧ Q v G) := by
  unfold PX5_linkOwn_175 at h
  unfold vX5_linkOwn_175
  refine g_ld (v := cI _) rfl (is_I _) ?_
  refine g_ld (v := rf _) rfl (is_R _) ?_
  obtain ⟨q70, h⟩ := h
  refine g_getI (kz := 16) q70 rfl (Nat.le_of_ble_eq_true rfl) rfl fun i71 => ?_
  replace h := h i71
  refine g_ld (v := rf _) rfl (is_R _) ?_
  refine g_getI (kz := 17) q70 rfl (Nat.le_of_ble_eq_true rfl) rfl fun i72 => ?_
  replace h := h i72
  refine g_add ?_
  obtain ⟨q73, h⟩ := h
  refine g_lt2 hl4 q73 (fun b74 => ?_) (fun b74 => ?_)
  · replace h := h.1 b74
    unfold vX5_linkOwn_189
    refine g_ld (v := rf _) rfl (is_R _) ?_
    obtain ⟨q75, h⟩ := h
    refine g_getAF (kz := 10) (c := 0) q75 rfl (Nat.le_of_ble_eq_true rfl) rfl fun i76 => ?_
    replace h := h i76
    refine g_ld (v := cI _) rfl (is_I _) ?_
    obtain ⟨n77, q78, h⟩ := h
    obtain ⟨q79, q80, h⟩ := h
    refine g_aldI q78 q79 q80 rfl fun i81 => ?_
    replace h := h i81
    refine g_const (v := cI (17)) rfl ?_
    refine g_eq2 i81 ⟨by omega, by omega⟩ (fun b82 => ?_) (fun b82 => ?_)
    · replace h := h.1 b82
      unfold vX5_linkOwn_201
      refine g_ld (v := rf _) rfl (is_R _) ?_
      refine g_ld (v := rf _) rfl (is_R _) ?_
      refine g_getAF (kz := 12) (c := 1) q75 rfl (Nat.le_of_ble_eq_true rfl) rfl fun i83 => ?_
      replace h := h i83
      refine g_ld (v := cI _) rfl (is_I _) ?_
      obtain ⟨n84, q85, h⟩ := h
      obtain ⟨q86, q87, h⟩ := h
      refine g_aldL q85 q86 q87 rfl fun i88 => ?_
      replace h := h i88
      refine g_ld (v := rf _) rfl (is_R _) ?_
      refine g_getAF (kz := 14) (c := 1) q75 rfl (Nat.le_of_ble_eq_true rfl) rfl fun i89 => ?_
      replace h := h i89
      refine g_ld (v := cI _) rfl (is_I _) ?_
      obtain ⟨n90, q91, h⟩ := h
      obtain ⟨q92, q93, h⟩ := h
      refine g_aldL q91 q92 q93 rfl fun i94 => ?_
      replace h := h i94
      obtain ⟨q95, h⟩ := h
      refine g_callV (As := [_, _]) (ci := 5) q95 (fun _ => rfl) ?_
      refine g_go1 (Nat.le_of_ble_eq_true rfl) (Tn_w (TX5_askFit i88 i94 h) fun _ G96 ⟨r97, e, i98, h⟩ => ?_)
      subst e
      refine ⟨n7_I _, ?_⟩
      replace h := h i98
      exact TX5_linkOwn_249 hl1 hl4 hl5 hl6 hl7 i98 hj0 hj1 hj2 h
    · replace h := h.2 b82
      unfold vX5_linkOwn_222
      refine g_ld (v := rf _) rfl (is_R _) ?_
      refine g_getAF (kz := 10) (c := 0) q75 rfl (Nat.le_of_ble_eq_true rfl) rfl fun i99 => ?_
      replace h := h i99
      refine g_ld (v := cI _) rfl (is_I _) ?_
      obtain ⟨n100, q101, h⟩ := h
      obtain ⟨q102, q103, h⟩ := h
      refine g_aldI q101 q102 q103 rfl fun i104 => ?_
      replace h := h i104
      refine g_const (v := cI (15)) rfl ?_
      refine g_eq2 i104 ⟨by omega, by omega⟩ (fun b105 => ?_) (fun b105 => ?_)
      · replace h := h.1 b105
        unfold vX5_linkOwn_234
        refine g_ld (v := rf _) rfl (is_R _) ?_
        refine g_ld (v := rf _) rfl (is_R _) ?_
        refine g_getAF (kz := 12) (c := 1) q75 rfl (Nat.le_of_ble_eq_true rfl) rfl fun i106 => ?_
        replace h := h i106
        refine g_ld (v := cI _) rfl (is_I _) ?_
        obtain ⟨n107, q108, h⟩ := h
        obtain ⟨q109, q110, h⟩ := h
        refine g_aldL q108 q109 q110 rfl fun i111 => ?_
        replace h := h i111
        obtain ⟨q112, h⟩ := h
        refine g_callV (As := [_]) (ci := 5) q112 (fun _ => rfl) ?_
        refine g_go1 (Nat.le_of_ble_eq_true rfl) (Tn_w (TX5_askCatch i111 h) fun _ G113 ⟨r114, e, i115, h⟩ => ?_)
        subst e
        refine ⟨n7_I _, ?_⟩
        replace h := h i115
        exact TX5_linkOwn_249 hl1 hl4 hl5 hl6 hl7 i115 hj0 hj1 hj2 h
      · replace h := h.2 b105
        unfold vX5_linkOwn_248
        refine g_const (v := cI (0)) rfl ?_
        exact TX5_linkOwn_249 hl1 hl4 hl5 hl6 hl7 ⟨by omega, by omega⟩ hj0 hj1 hj2 h
  · replace h := h.2 b74
    unfold vX5_linkOwn_265
    refine g_const (v := cI (0)) rfl ?_
    exact g_ret1 (is_I _) ⟨_, rfl, ⟨by omega, by omega⟩, h⟩
def PX5_linkOwn_164 (J : Nat → List Int → gS → (Int → gS → Prop) → Prop) (o : Int) (l1 : Int) (l2 : Int) (l3 : Int) (G : gS) (Q : Int → gS → Prop) : Prop :=
  (isO W0 10 (l2) ∧ ((G l2 0 = -1 ∨ isO W0 1 (G l2 0)) → (inI (G l2 16) → PX5_linkOwn_175 J o l1 l2 (G l2 0) (G l2 16) G Q)))
set_option maxRecDepth 20000 in
theorem TX5_linkOwn_164 {j : Nat → rx_K} {J : Nat → List Int → gS → (Int → gS → Prop) → Prop} {o : Int} {l1 : Int} {l2 : Int} {l3 : Int} {l4 : Nat} {l5 : Nat} {l6 : Nat} {l7 : Nat} {G : gS} {Q : Int → gS → Prop} (hl1 : inI l1) (hl3 : inI l3) (hl4 : l4 % 8 ≠ 1) (hl5 : l5 % 8 ≠ 1) (hl6 : l6 % 8 ≠ 1) (hl7 : l7 % 8 ≠ 1) (hj0 : ∀ (o : Int) (l1 : Int) (l2 : Int) (l3 : Int) (l4 : Nat) (l5 : Nat) (l6 : Nat) (l7 : Nat) (G : gS), (inI l1) → (inI l3) → (l4 % 8 ≠ 1) → (l5 % 8 ≠ 1) → (l6 % 8 ≠ 1) → (l7 % 8 ≠ 1) → J 0 [o, l1, l2, l3] G Q → Tg W0 (j 0) [rf (o), cI (l1), rf (l2), cI (l3), l4, l5, l6, l7] [] G (fun r G => ∃ v, r = cI v ∧ inI v ∧ Q v G)) (hj1 : ∀ (o : Int) (l1 : Int) (l2 : Int) (l3 : Int) (l4 : Int) (l5 : Int) (l6 : Int) (l7 : Nat) (G : gS), (inI l1) → (inI l3) → (inI l5) → (inI l6) → (l7 % 8 ≠ 1) → J 1 [o, l1, l2, l3, l4, l5, l6] G Q → Tg W0 (j 1) [rf (o), cI (l1), rf (l2), cI (l3), rf (l4), cI (l5), cI (l6), l7] [] G (fun r G => ∃ v, r = cI v ∧ inI v ∧ Q v G)) (hj2 : ∀ (o : Int) (l1 : Int) (l2 : Int) (l3 : Int) (l4 : Int) (l5 : Nat) (l6 : Nat) (l7 : Nat) (G : gS), (inI l1) → (inI l4) → (l5 % 8 ≠ 1) → (l6 % 8 ≠ 1) → (l7 % 8 ≠ 1) → J 2 [o, l1, l2, l3, l4] G Q → Tg W0 (j 2) [rf (o), cI (l1), rf (l2), rf (l3), cI (l4), l5, l6, l7] [] G (fun r G => ∃ v, r = cI v ∧ inI v ∧ Q v G)) (h : PX5_linkOwn_164 J o l1 l2 l3 G Q) : Tg W0 (vX5_linkOwn_164 j) [rf (o), cI (l1), rf (l2), cI (l3), l4, l5, l6, l7] [] G (fun r G => ∃ v, r = cI v ∧ inI v ∧ Q v G) := by
  unfold PX5_linkOwn_164 at h
  unfold vX5_linkOwn_164
  refine g_ld (v := rf _) rfl (is_R _) ?_
  obtain ⟨q59, h⟩ := h
  refine g_getR (kz := 0) (c := 1) q59 rfl (Nat.le_of_ble_eq_true rfl) rfl (by decide) fun i60 => ?_
  replace h := h i60
  refine g_st (lv' := [_, _, _, _, _, _, _, _]) (is_R _) (Nat.le_of_ble_eq_true rfl) (Or.inr (n1_R _)) rfl ?_
  refine g_ld (v := rf _) rfl (is_R _) ?_
  refine g_getI (kz := 16) q59 rfl (Nat.le_of_ble_eq_true rfl) rfl fun i61 => ?_
  replace h := h i61
  refine g_st (lv' := [_, _, _, _, _, _, _, _]) (is_I _) (Nat.le_of_ble_eq_true rfl) (Or.inr (n1_R _)) rfl ?_
  exact TX5_linkOwn_175 hl1 i61 hl5 hl6 hl7 hj0 hj1 hj2 h
def PX5_linkOwn_158 (J : Nat → List Int → gS → (Int → gS → Prop) → Prop) (o : Int) (l1 : Int) (l2 : Int) (l3 : Int) (l4 : Int) (l5 : Int) (l6 : Int) (G : gS) (Q : Int → gS → Prop) : Prop :=
  (inI (l3 + 1) ∧ J 0 [o, l1, l2, l3 + 1] G Q)
set_option maxRecDepth 20000 in
theorem TX5_linkOwn_158 {j : Nat → rx_K} {J : Nat → List Int → gS → (Int → gS → Prop) → Prop} {o : Int} {l1 : Int} {l2 : Int} {l3 : Int} {l4 : Int} {l5 : Int} {l6 : Int} {l7 : Nat} {G : gS} {Q : Int → gS → Prop} (hl1 : inI l1) (hl3 : inI l3) (hl5 : inI l5) (hl6 : inI l6) (hl7 : l7 % 8 ≠ 1) (hj0 : ∀ (o : Int) (l1 : Int) (l2 : Int) (l3 : Int) (l4 : Nat) (l5 : Nat) (l6 : Nat) (l7 : Nat) (G : gS), (inI l1) → (inI l3) → (l4 % 8 ≠ 1) → (l5 % 8 ≠ 1) → (l6 % 8 ≠ 1) → (l7 % 8 ≠ 1) → J 0 [o, l1, l2, l3] G Q → Tg W0 (j 0) [rf (o), cI (l1), rf (l2), cI (l3), l4, l5, l6, l7] [] G (fun r G => ∃ v, r = cI v ∧ inI v ∧ Q v G)) (hj1 : ∀ (o : Int) (l1 : Int) (l2 : Int) (l3 : Int) (l4 : Int) (l5 : Int) (l6 : Int) (l7 : Nat) (G : gS), (inI l1) → (inI l3) → (inI l5) → (inI l6) → (l7 % 8 ≠ 1) → J 1 [o, l1, l2, l3, l4, l5, l6] G Q → Tg W0 (j 1) [rf (o), cI (l1), rf (l2), cI (l3), rf (l4), cI (l5), cI (l6), l7] [] G (fun r G => ∃ v, r = cI v ∧ inI v ∧ Q v G)) (hj2 : ∀ (o : Int) (l1 : Int) (l2 : Int) (l3 : Int) (l4 : Int) (l5 : Nat) (l6 : Nat) (l7 : Nat) (G : gS), (inI l1) → (inI l4) → (l5 % 8 ≠ 1) → (l6 % 8 ≠ 1) → (l7 % 8 ≠ 1) → J 2 [o, l1, l2, l3, l4] G Q → Tg W0 (j 2) [rf (o), cI (l1), rf (l2), rf (l3), cI (l4), l5, l6, l7] [] G (fun r G => ∃ v, r = cI v ∧ inI v ∧ Q v G)) (h : PX5_linkOwn_158 J o l1 l2 l3 l4 l5 l6 G Q) : Tg W0 (vX5_linkOwn_158 j) [rf (o), cI (l1), rf (l2), cI (l3), rf (l4), cI (l5), cI (l6), l7] [] G (fun r G => ∃ v, r = cI v ∧ inI v ∧ Q v G) := by
  unfold PX5_linkOwn_158 at h
  unfold vX5_linkOwn_158
  refine g_inc (lv' := [_, _, _, _, _, _, _, _]) rfl (Nat.le_of_ble_eq_true rfl) (Or.inr (n1_R _)) rfl ?_
  obtain ⟨q62, h⟩ := h
  exact hj0 _ _ _ _ _ _ _ _ _ hl1 q62 (n1_R _) (n1_I _) (n1_I _) hl7 h
def PX5_linkOwn_140 (J : Nat → List Int → gS → (Int → gS → Prop) → Prop) (o : Int) (l1 : Int) (l2 : Int) (l3 : Int) (l4 : Int) (l5 : Int) (l6 : Int) (l7 : Int) (G : gS) (Q : Int → gS → Prop) : Prop :=
  (isO W0 5 (o) ∧ ((G o 0 = -1 ∨ isO W0 11 (G o 0)) → (isO W0 11 (G o 0) ∧ ((0 : Int) ≤ l5 ∧ ((l5 : Int) < 64 ∧ (inI (G ((G o 0) + 2) l5) → (inI (l6 + 1) ∧ J 1 [o, l1, l2, l3, l4, G ((G o 0) + 2) l5, l6 + 1] G Q)))))))
set_option maxRecDepth 20000 in
theorem TX5_linkOwn_140 {j : Nat → rx_K} {J : Nat → List Int → gS → (Int → gS → Prop) → Prop} {o : Int} {l1 : Int} {l2 : Int} {l3 : Int} {l4 : Int} {l5 : Int} {l6 : Int} {l7 : Int} {G : gS} {Q : Int → gS → Prop} (hl1 : inI l1) (hl3 : inI l3) (hl5 : inI l5) (hl6 : inI l6) (hj0 : ∀ (o : Int) (l1 : Int) (l2 : Int) (l3 : Int) (l4 : Nat) (l5 : Nat) (l6 : Nat) (l7 : Nat) (G : gS), (inI l1) → (inI l3) → (l4 % 8 ≠ 1) → (l5 % 8 ≠ 1) → (l6 % 8 ≠ 1) → (l7 % 8 ≠ 1) → J 0 [o, l1, l2, l3] G Q → Tg W0 (j 0) [rf (o), cI (l1), rf (l2), cI (l3), l4, l5, l6, l7] [] G (fun r G => ∃ v, r = cI v ∧ inI v ∧ Q v G)) (hj1 : ∀ (o : Int) (l1 : Int) (l2 : Int) (l3 : Int) (l4 : Int) (l5 : Int) (l6 : Int) (l7 : Nat) (G : gS), (inI l1) → (inI l3) → (inI l5) → (inI l6) → (l7 % 8 ≠ 1) → J 1 [o, l1, l2, l3, l4, l5, l6] G Q → Tg W0 (j 1) [rf (o), cI (l1), rf (l2), cI (l3), rf (l4), cI (l5), cI (l6), l7] [] G (fun r G => ∃ v, r = cI v ∧ inI v ∧ Q v G)) (hj2 : ∀ (o : Int) (l1 : Int) (l2 : Int) (l3 : Int) (l4 : Int) (l5 : Nat) (l6 : Nat) (l7 : Nat) (G : gS), (inI l1) → (inI l4) → (l5 % 8 ≠ 1) → (l6 % 8 ≠ 1) → (l7 % 8 ≠ 1) → J 2 [o, l1, l2, l3, l4] G Q → Tg W0 (j 2) [rf (o), cI (l1), rf (l2), rf (l3), cI (l4), l5, l6, l7] [] G (fun r G => ∃ v, r = cI v ∧ inI v ∧ Q v G)) (h : PX5_linkOwn_140 J o l1 l2 l3 l4 l5 l6 l7 G Q) : Tg W0 (vX5_linkOwn_140 j) [rf (o), cI (l1), rf (l2), cI (l3), rf (l4), cI (l5), cI (l6), rf (l7)] [] G (fun r G => ∃ v, r = cI v ∧ inI v ∧ Q v G) := by
  unfold PX5_linkOwn_140 at h
  unfold vX5_linkOwn_140
  refine g_ld (v := rf _) rfl (is_R _) ?_
  obtain ⟨q63, h⟩ := h
  refine g_getR (kz := 0) (c := 11) q63 rfl (Nat.le_of_ble_eq_true rfl) rfl (by decide) fun i64 => ?_
  replace h := h i64
  obtain ⟨q65, h⟩ := h
  refine g_getF q65 (ff11_3 q65).1 rfl (Nat.le_of_ble_eq_true rfl) (Nat.le_of_ble_eq_true rfl) ?_
  refine g_ld (v := cI _) rfl (is_I _) ?_
  obtain ⟨q66, q67, h⟩ := h
  refine g_aldI (ff11_3 q65).2 q66 q67 rfl fun i68 => ?_
  replace h := h i68
  refine g_st (lv' := [_, _, _, _, _, _, _, _]) (is_I _) (Nat.le_of_ble_eq_true rfl) (Or.inr (n1_R _)) rfl ?_
  refine g_inc (lv' := [_, _, _, _, _, _, _, _]) rfl (Nat.le_of_ble_eq_true rfl) (Or.inr (n1_I _)) rfl ?_
  obtain ⟨q69, h⟩ := h
  exact hj1 _ _ _ _ _ _ _ _ _ hl1 hl3 i68 q69 (n1_R _) h
def PX5_linkOwn_49 (J : Nat → List Int → gS → (Int → gS → Prop) → Prop) (o : Int) (l1 : Int) (l2 : Int) (l3 : Int) (l4 : Int) (l5 : Int) (l6 : Int) (G : gS) (Q : Int → gS → Prop) : Prop :=
  (isO W0 5 (o) ∧ ((G o 0 = -1 ∨ isO W0 11 (G o 0)) → (isO W0 11 (G o 0) ∧ ((0 : Int) ≤ l1 ∧ ((l1 : Int) < 64 ∧ (inI (G ((G o 0) + 3) l1) → ((l6 < G ((G o 0) + 3) l1 → ((l5 < 0 → PX5_linkOwn_158 J o l1 l2 l3 l4 l5 l6 G Q) ∧ (¬ (l5 < 0) → (isO W0 7 (l4) ∧ (inI (G l4 0) → ((G l4 0 = 1 → PX7_ofObjects l4 G (fun r33 G32 => (0 ≤ r33 ∧ r33 ≤ 1) → ((r33 = 0 → PX5_linkOwn_158 J o l1 l2 l3 l4 l5 l6 G32 Q) ∧ (¬ (r33 = 0) → ((G32 o 0 = -1 ∨ isO W0 11 (G32 o 0)) → (isO W0 11 (G32 o 0) ∧ ((0 : Int) ≤ l5 ∧ ((l5 : Int) < 64 ∧ (((G32 ((G32 o 0) + 1) l5 = -1 ∨ isO W0 10 (G32 ((G32 o 0) + 1) l5)) ∧ ∀ v, W0.2 ((G32 o 0) + 1) l5 = some v → G32 ((G32 o 0) + 1) l5 = v) → (isO W0 10 (G32 ((G32 o 0) + 1) l5) ∧ PX10_method (G32 ((G32 o 0) + 1) l5) l4 G32 (fun r43 G42 => ((r43 < 0 → PX5_linkOwn_140 J o l1 l2 l3 l4 l5 l6 r43 G42 Q) ∧ (0 ≤ r43 → (isO W0 7 (r43) ∧ ((0 ≤ G42 r43 3 ∧ G42 r43 3 ≤ 1) → ((G42 r43 3 = 0 → PX5_linkOwn_140 J o l1 l2 l3 l4 l5 l6 r43 G42 Q) ∧ (¬ (G42 r43 3 = 0) → PX7_ofObjects r43 G42 (fun r50 G49 => (0 ≤ r50 ∧ r50 ≤ 1) → ((r50 = 0 → PX5_linkOwn_140 J o l1 l2 l3 l4 l5 l6 r43 G49 Q) ∧ (¬ (r50 = 0) → ((G49 o 0 = -1 ∨ isO W0 11 (G49 o 0)) → (isO W0 11 (G49 o 0) ∧ PX11_overrides (G49 o 0) l1 l5 r43 G49 (fun r56 G55 => (0 ≤ r56 ∧ r56 ≤ 1) → ((r56 = 0 → PX5_linkOwn_140 J o l1 l2 l3 l4 l5 l6 r43 G55 Q) ∧ (¬ (r56 = 0) → Q (3) G55))))))))))))))))))))))))) ∧ (¬ (G l4 0 = 1) → PX5_linkOwn_158 J o l1 l2 l3 l4 l5 l6 G Q))))))) ∧ (¬ (l6 < G ((G o 0) + 3) l1) → PX5_linkOwn_158 J o l1 l2 l3 l4 l5 l6 G Q))))))))
set_option maxRecDepth 20000 in
theorem TX5_linkOwn_49 {j : Nat → rx_K} {J : Nat → List Int → gS → (Int → gS → Prop) → Prop} {o : Int} {l1 : Int} {l2 : Int} {l3 : Int} {l4 : Int} {l5 : Int} {l6 : Int} {l7 : Nat} {G : gS} {Q : Int → gS → Prop} (hl1 : inI l1) (hl3 : inI l3) (hl5 : inI l5) (hl6 : inI l6) (hl7 : l7 % 8 ≠ 1) (hj0 : ∀ (o : Int) (l1 : Int) (l2 : Int) (l3 : Int) (l4 : Nat) (l5 : Nat) (l6 : Nat) (l7 : Nat) (G : gS), (inI l1) → (inI l3) → (l4 % 8 ≠ 1) → (l5 % 8 ≠ 1) → (l6 % 8 ≠ 1) → (l7 % 8 ≠ 1) → J 0 [o, l1, l2, l3] G Q → Tg W0 (j 0) [rf (o), cI (l1), rf (l2), cI (l3), l4, l5, l6, l7] [] G (fun r G => ∃ v, r = cI v ∧ inI v ∧ Q v G)) (hj1 : ∀ (o : Int) (l1 : Int) (l2 : Int) (l3 : Int) (l4 : Int) (l5 : Int) (l6 : Int) (l7 : Nat) (G : gS), (inI l1) → (inI l3) → (inI l5) → (inI l6) → (l7 % 8 ≠ 1) → J 1 [o, l1, l2, l3, l4, l5, l6] G Q → Tg W0 (j 1) [rf (o), cI (l1), rf (l2), cI (l3), rf (l4), cI (l5), cI (l6), l7] [] G (fun r G => ∃ v, r = cI v ∧ inI v ∧ Q v G)) (hj2 : ∀ (o : Int) (l1 : Int) (l2 : Int) (l3 : Int) (l4 : Int) (l5 : Nat) (l6 : Nat) (l7 : Nat) (G : gS), (inI l1) → (inI l4) → (l5 % 8 ≠ 1) → (l6 % 8 ≠ 1) → (l7 % 8 ≠ 1) → J 2 [o, l1, l2, l3, l4] G Q → Tg W0 (j 2) [rf (o), cI (l1), rf (l2), rf (l3), cI (l4), l5, l6, l7] [] G (fun r G => ∃ v, r = cI v ∧ inI v ∧ Q v G)) (h : PX5_linkOwn_49 J o l1 l2 l3 l4 l5 l6 G Q) : Tg W0 (vX5_linkOwn_49 j) [rf (o), cI (l1), rf (l2), cI (l3), rf (l4), cI (l5), cI (l6), l7] [] G (fun r G => ∃ v, r = cI v ∧ inI v ∧ Q v G) := by
  unfold PX5_linkOwn_49 at h
  unfold vX5_linkOwn_49
  refine g_ld (v := cI _) rfl (is_I _) ?_
  refine g_ld (v := rf _) rfl (is_R _) ?_
  obtain ⟨q21, h⟩ := h
  refine g_getR (kz := 0) (c := 11) q21 rfl (Nat.le_of_ble_eq_true rfl) rfl (by decide) fun i22 => ?_
  replace h := h i22
  obtain ⟨q23, h⟩ := h
  refine g_getF q23 (ff11_4 q23).1 rfl (Nat.le_of_ble_eq_true rfl) (Nat.le_of_ble_eq_true rfl) ?_
  refine g_ld (v := cI _) rfl (is_I _) ?_
  obtain ⟨q24, q25, h⟩ := h
  refine g_aldI (ff11_4 q23).2 q24 q25 rfl fun i26 => ?_
  replace h := h i26
  refine g_lt2 hl6 i26 (fun b27 => ?_) (fun b27 => ?_)
  · replace h := h.1 b27
    unfold vX5_linkOwn_63
    refine g_ld (v := cI _) rfl (is_I _) ?_
    refine g_lt1 hl5 (fun b28 => ?_) (fun b28 => ?_)
    · replace h := h.1 b28
      exact TX5_linkOwn_158 hl1 hl3 hl5 hl6 hl7 hj0 hj1 hj2 h
    · replace h := h.2 b28
      unfold vX5_linkOwn_68
      refine g_ld (v := rf _) rfl (is_R _) ?_
      obtain ⟨q29, h⟩ := h
      refine g_getI (kz := 0) q29 rfl (Nat.le_of_ble_eq_true rfl) rfl fun i30 => ?_
      replace h := h i30
      refine g_const (v := cI (1)) rfl ?_
      refine g_eq2 i30 ⟨by omega, by omega⟩ (fun b31 => ?_) (fun b31 => ?_)
      · replace h := h.1 b31
        unfold vX5_linkOwn_77
        refine g_ld (v := rf _) rfl (is_R _) ?_
        refine g_callV (As := []) (ci := 7) q29 (fun _ => rfl) ?_
        refine g_go1 (Nat.le_of_ble_eq_true rfl) (Tn_w (TX7_ofObjects  h) fun _ G32 ⟨r33, e, i34, h⟩ => ?_)
        subst e
        refine ⟨n7_I _, ?_⟩
        replace h := h i34
        refine g_eq1 ⟨by omega, by omega⟩ (fun b35 => ?_) (fun b35 => ?_)
        · replace h := h.1 b35
          exact TX5_linkOwn_158 hl1 hl3 hl5 hl6 hl7 hj0 hj1 hj2 h
        · replace h := h.2 b35
          unfold vX5_linkOwn_85
          refine g_ld (v := rf _) rfl (is_R _) ?_
          refine g_getR (kz := 0) (c := 11) q21 rfl (Nat.le_of_ble_eq_true rfl) rfl (by decide) fun i36 => ?_
          replace h := h i36
          obtain ⟨q37, h⟩ := h
          refine g_getF q37 (ff11_1 q37).1 rfl (Nat.le_of_ble_eq_true rfl) (Nat.le_of_ble_eq_true rfl) ?_
          refine g_ld (v := cI _) rfl (is_I _) ?_
          obtain ⟨q38, q39, h⟩ := h
          refine g_aldRF (c := 10) (ff11_1 q37).2 q38 q39 rfl (by decide) fun i40 => ?_
          replace h := h i40
          refine g_ld (v := rf _) rfl (is_R _) ?_
          obtain ⟨q41, h⟩ := h
          refine g_callV (As := [_]) (ci := 10) q41 (fun _ => rfl) ?_
          refine g_go1 (Nat.le_of_ble_eq_true rfl) (Tn_w (TX10_method  h) fun _ G42 ⟨r43, e, h⟩ => ?_)
          subst e
          refine ⟨n7_R _, ?_⟩
          refine g_st (lv' := [_, _, _, _, _, _, _, _]) (is_R _) (Nat.le_of_ble_eq_true rfl) (Or.inr (n1_I _)) rfl ?_
          refine g_ld (v := rf _) rfl (is_R _) ?_
          refine g_nul (fun b45 => ?_) (fun b45 => ?_)
          · replace h := h.1 b45
            exact TX5_linkOwn_140 hl1 hl3 hl5 hl6 hj0 hj1 hj2 h
          · replace h := h.2 b45
            unfold vX5_linkOwn_107
            refine g_ld (v := rf _) rfl (is_R _) ?_
            obtain ⟨q46, h⟩ := h
            refine g_getZ (kz := 3) q46 rfl (Nat.le_of_ble_eq_true rfl) rfl fun i47 => ?_
            replace h := h i47
            refine g_eq1 ⟨by omega, by omega⟩ (fun b48 => ?_) (fun b48 => ?_)
            · replace h := h.1 b48
              exact TX5_linkOwn_140 hl1 hl3 hl5 hl6 hj0 hj1 hj2 h
            · replace h := h.2 b48
              unfold vX5_linkOwn_115
              refine g_ld (v := rf _) rfl (is_R _) ?_
              refine g_callV (As := []) (ci := 7) q46 (fun _ => rfl) ?_
              refine g_go1 (Nat.le_of_ble_eq_true rfl) (Tn_w (TX7_ofObjects  h) fun _ G49 ⟨r50, e, i51, h⟩ => ?_)
              subst e
              refine ⟨n7_I _, ?_⟩
              replace h := h i51
              refine g_eq1 ⟨by omega, by omega⟩ (fun b52 => ?_) (fun b52 => ?_)
              · replace h := h.1 b52
                exact TX5_linkOwn_140 hl1 hl3 hl5 hl6 hj0 hj1 hj2 h
              · replace h := h.2 b52
                unfold vX5_linkOwn_123
                refine g_ld (v := rf _) rfl (is_R _) ?_
                refine g_getR (kz := 0) (c := 11) q21 rfl (Nat.le_of_ble_eq_true rfl) rfl (by decide) fun i53 => ?_
                replace h := h i53
                refine g_ld (v := cI _) rfl (is_I _) ?_
                refine g_ld (v := cI _) rfl (is_I _) ?_
                refine g_ld (v := rf _) rfl (is_R _) ?_
                obtain ⟨q54, h⟩ := h
                refine g_callV (As := [_, _, _]) (ci := 11) q54 (fun _ => rfl) ?_
                refine g_go1 (Nat.le_of_ble_eq_true rfl) (Tn_w (TX11_overrides hl1 hl5 h) fun _ G55 ⟨r56, e, i57, h⟩ => ?_)
                subst e
                refine ⟨n7_I _, ?_⟩
                replace h := h i57
                refine g_eq1 ⟨by omega, by omega⟩ (fun b58 => ?_) (fun b58 => ?_)
                · replace h := h.1 b58
                  exact TX5_linkOwn_140 hl1 hl3 hl5 hl6 hj0 hj1 hj2 h
                · replace h := h.2 b58
                  unfold vX5_linkOwn_138
                  refine g_const (v := cI (3)) rfl ?_
                  exact g_ret1 (is_I _) ⟨_, rfl, ⟨by omega, by omega⟩, h⟩
      · replace h := h.2 b31
        exact TX5_linkOwn_158 hl1 hl3 hl5 hl6 hl7 hj0 hj1 hj2 h
  · replace h := h.2 b27
    exact TX5_linkOwn_158 hl1 hl3 hl5 hl6 hl7 hj0 hj1 hj2 h
def PX5_linkOwn_12 (J : Nat → List Int → gS → (Int → gS → Prop) → Prop) (o : Int) (l1 : Int) (l2 : Int) (l3 : Int) (G : gS) (Q : Int → gS → Prop) : Prop :=
  (isO W0 10 (l2) ∧ (inI (G l2 15) → ((l3 < G l2 15 → ((0 ≤ G l2 4 ∧ G l2 4 ≤ 1) → ((G l2 4 = 0 → ((0 : Int) ≤ l3 ∧ ((l3 : Int) < 33 ∧ (((G (l2 + 4) l3 = -1 ∨ isO W0 7 (G (l2 + 4) l3)) ∧ ∀ v, W0.2 (l2 + 4) l3 = some v → G (l2 + 4) l3 = v) → (isO W0 5 (o) ∧ ((G o 0 = -1 ∨ isO W0 11 (G o 0)) → (isO W0 11 (G o 0) ∧ ((0 : Int) ≤ l1 ∧ ((l1 : Int) < 64 ∧ (inI (G ((G o 0) + 2) l1) → PX5_linkOwn_49 J o l1 l2 l3 (G (l2 + 4) l3) (G ((G o 0) + 2) l1) 0 G Q)))))))))) ∧ (¬ (G l2 4 = 0) → PX5_linkOwn_164 J o l1 l2 l3 G Q)))) ∧ (¬ (l3 < G l2 15) → PX5_linkOwn_164 J o l1 l2 l3 G Q))))
set_option maxRecDepth 20000 in
theorem TX5_linkOwn_12 {j : Nat → rx_K} {J : Nat → List Int → gS → (Int → gS → Prop) → Prop} {o : Int} {l1 : Int} {l2 : Int} {l3 : Int} {l4 : Nat} {l5 : Nat} {l6 : Nat} {l7 : Nat} {G : gS} {Q : Int → gS → Prop} (hl1 : inI l1) (hl3 : inI l3) (hl4 : l4 % 8 ≠ 1) (hl5 : l5 % 8 ≠ 1) (hl6 : l6 % 8 ≠ 1) (hl7 : l7 % 8 ≠ 1) (hj0 : ∀ (o : Int) (l1 : Int) (l2 : Int) (l3 : Int) (l4 : Nat) (l5 : Nat) (l6 : Nat) (l7 : Nat) (G : gS), (inI l1) → (inI l3) → (l4 % 8 ≠ 1) → (l5 % 8 ≠ 1) → (l6 % 8 ≠ 1) → (l7 % 8 ≠ 1) → J 0 [o, l1, l2, l3] G Q → Tg W0 (j 0) [rf (o), cI (l1), rf (l2), cI (l3), l4, l5, l6, l7] [] G (fun r G => ∃ v, r = cI v ∧ inI v ∧ Q v G)) (hj1 : ∀ (o : Int) (l1 : Int) (l2 : Int) (l3 : Int) (l4 : Int) (l5 : Int) (l6 : Int) (l7 : Nat) (G : gS), (inI l1) → (inI l3) → (inI l5) → (inI l6) → (l7 % 8 ≠ 1) → J 1 [o, l1, l2, l3, l4, l5, l6] G Q → Tg W0 (j 1) [rf (o), cI (l1), rf (l2), cI (l3), rf (l4), cI (l5), cI (l6), l7] [] G (fun r G => ∃ v, r = cI v ∧ inI v ∧ Q v G)) (hj2 : ∀ (o : Int) (l1 : Int) (l2 : Int) (l3 : Int) (l4 : Int) (l5 : Nat) (l6 : Nat) (l7 : Nat) (G : gS), (inI l1) → (inI l4) → (l5 % 8 ≠ 1) → (l6 % 8 ≠ 1) → (l7 % 8 ≠ 1) → J 2 [o, l1, l2, l3, l4] G Q → Tg W0 (j 2) [rf (o), cI (l1), rf (l2), rf (l3), cI (l4), l5, l6, l7] [] G (fun r G => ∃ v, r = cI v ∧ inI v ∧ Q v G)) (h : PX5_linkOwn_12 J o l1 l2 l3 G Q) : Tg W0 (vX5_linkOwn_12 j) [rf (o), cI (l1), rf (l2), cI (l3), l4, l5, l6, l7] [] G (fun r G => ∃ v, r = cI v ∧ inI v ∧ Q v G) := by
  unfold PX5_linkOwn_12 at h
  unfold vX5_linkOwn_12
  refine g_ld (v := cI _) rfl (is_I _) ?_
  refine g_ld (v := rf _) rfl (is_R _) ?_
  obtain ⟨q7, h⟩ := h
  refine g_getI (kz := 15) q7 rfl (Nat.le_of_ble_eq_true rfl) rfl fun i8 => ?_
  replace h := h i8
  refine g_lt2 hl3 i8 (fun b9 => ?_) (fun b9 => ?_)
  · replace h := h.1 b9
    unfold vX5_linkOwn_20
    refine g_ld (v := rf _) rfl (is_R _) ?_
    refine g_getZ (kz := 4) q7 rfl (Nat.le_of_ble_eq_true rfl) rfl fun i10 => ?_
    replace h := h i10
    refine g_eq1 ⟨by omega, by omega⟩ (fun b11 => ?_) (fun b11 => ?_)
    · replace h := h.1 b11
      unfold vX5_linkOwn_27
      refine g_ld (v := rf _) rfl (is_R _) ?_
      refine g_getF q7 (ff10_14 q7).1 rfl (Nat.le_of_ble_eq_true rfl) (Nat.le_of_ble_eq_true rfl) ?_
      refine g_ld (v := cI _) rfl (is_I _) ?_
      obtain ⟨q12, q13, h⟩ := h
      refine g_aldRF (c := 7) (ff10_14 q7).2 q12 q13 rfl (by decide) fun i14 => ?_
      replace h := h i14
      refine g_st (lv' := [_, _, _, _, _, _, _, _]) (is_R _) (Nat.le_of_ble_eq_true rfl) (Or.inr (n1_I _)) rfl ?_
      refine g_ld (v := rf _) rfl (is_R _) ?_
      obtain ⟨q15, h⟩ := h
      refine g_getR (kz := 0) (c := 11) q15 rfl (Nat.le_of_ble_eq_true rfl) rfl (by decide) fun i16 => ?_
      replace h := h i16
      obtain ⟨q17, h⟩ := h
      refine g_getF q17 (ff11_3 q17).1 rfl (Nat.le_of_ble_eq_true rfl) (Nat.le_of_ble_eq_true rfl) ?_
      refine g_ld (v := cI _) rfl (is_I _) ?_
      obtain ⟨q18, q19, h⟩ := h
      refine g_aldI (ff11_3 q17).2 q18 q19 rfl fun i20 => ?_
      replace h := h i20
      refine g_st (lv' := [_, _, _, _, _, _, _, _]) (is_I _) (Nat.le_of_ble_eq_true rfl) (Or.inr (n1_R _)) rfl ?_
      refine g_const (v := cI (0)) rfl ?_
      refine g_st (lv' := [_, _, _, _, _, _, _, _]) (is_I _) (Nat.le_of_ble_eq_true rfl) (Or.inr (n1_I _)) rfl ?_
      exact TX5_linkOwn_49 hl1 hl3 i20 ⟨by omega, by omega⟩ hl7 hj0 hj1 hj2 h
    · replace h := h.2 b11
      exact TX5_linkOwn_164 hl1 hl3 hl4 hl5 hl6 hl7 hj0 hj1 hj2 h
  · replace h := h.2 b9
    exact TX5_linkOwn_164 hl1 hl3 hl4 hl5 hl6 hl7 hj0 hj1 hj2 h
def PX5_linkOwn_0 (J : Nat → List Int → gS → (Int → gS → Prop) → Prop) (o : Int) (a1 : Int) (G : gS) (Q : Int → gS → Prop) : Prop :=
  (isO W0 5 (o) ∧ ((G o 0 = -1 ∨ isO W0 11 (G o 0)) → (isO W0 11 (G o 0) ∧ ((0 : Int) ≤ a1 ∧ ((a1 : Int) < 64 ∧ (((G ((G o 0) + 1) a1 = -1 ∨ isO W0 10 (G ((G o 0) + 1) a1)) ∧ ∀ v, W0.2 ((G o 0) + 1) a1 = some v → G ((G o 0) + 1) a1 = v) → PX5_linkOwn_12 J o a1 (G ((G o 0) + 1) a1) 0 G Q))))))
set_option maxRecDepth 20000 in
theorem TX5_linkOwn_0 {j : Nat → rx_K} {J : Nat → List Int → gS → (Int → gS → Prop) → Prop} {o : Int} {a1 : Int} {G : gS} {Q : Int → gS → Prop} (ha1 : inI a1) (hj0 : ∀ (o : Int) (l1 : Int) (l2 : Int) (l3 : Int) (l4 : Nat) (l5 : Nat) (l6 : Nat) (l7 : Nat) (G : gS), (inI l1) → (inI l3) → (l4 % 8 ≠ 1) → (l5 % 8 ≠ 1) → (l6 % 8 ≠ 1) → (l7 % 8 ≠ 1) → J 0 [o, l1, l2, l3] G Q → Tg W0 (j 0) [rf (o), cI (l1), rf (l2), cI (l3), l4, l5, l6, l7] [] G (fun r G => ∃ v, r = cI v ∧ inI v ∧ Q v G)) (hj1 : ∀ (o : Int) (l1 : Int) (l2 : Int) (l3 : Int) (l4 : Int) (l5 : Int) (l6 : Int) (l7 : Nat) (G : gS), (inI l1) → (inI l3) → (inI l5) → (inI l6) → (l7 % 8 ≠ 1) → J 1 [o, l1, l2, l3, l4, l5, l6] G Q → Tg W0 (j 1) [rf (o), cI (l1), rf (l2), cI (l3), rf (l4), cI (l5), cI (l6), l7] [] G (fun r G => ∃ v, r = cI v ∧ inI v ∧ Q v G)) (hj2 : ∀ (o : Int) (l1 : Int) (l2 : Int) (l3 : Int) (l4 : Int) (l5 : Nat) (l6 : Nat) (l7 : Nat) (G : gS), (inI l1) → (inI l4) → (l5 % 8 ≠ 1) → (l6 % 8 ≠ 1) → (l7 % 8 ≠ 1) → J 2 [o, l1, l2, l3, l4] G Q → Tg W0 (j 2) [rf (o), cI (l1), rf (l2), rf (l3), cI (l4), l5, l6, l7] [] G (fun r G => ∃ v, r = cI v ∧ inI v ∧ Q v G)) (h : PX5_linkOwn_0 J o a1 G Q) : Tg W0 (vX5_linkOwn_0 j) [rf (o), cI (a1), 7, 7, 7, 7, 7, 7] [] G (fun r G => ∃ v, r = cI v ∧ inI v ∧ Q v G) := by
  unfold PX5_linkOwn_0 at h
  unfold vX5_linkOwn_0
  refine g_ld (v := rf _) rfl (is_R _) ?_
  obtain ⟨q1, h⟩ := h
  refine g_getR (kz := 0) (c := 11) q1 rfl (Nat.le_of_ble_eq_true rfl) rfl (by decide) fun i2 => ?_
  replace h := h i2
  obtain ⟨q3, h⟩ := h
  refine g_getF q3 (ff11_1 q3).1 rfl (Nat.le_of_ble_eq_true rfl) (Nat.le_of_ble_eq_true rfl) ?_
  refine g_ld (v := cI _) rfl (is_I _) ?_
  obtain ⟨q4, q5, h⟩ := h
  refine g_aldRF (c := 10) (ff11_1 q3).2 q4 q5 rfl (by decide) fun i6 => ?_
  replace h := h i6
  refine g_st (lv' := [_, _, _, _, _, _, _, _]) (is_R _) (Nat.le_of_ble_eq_true rfl) (Or.inr (n1_I _)) rfl ?_
  refine g_const (v := cI (0)) rfl ?_
  refine g_st (lv' := [_, _, _, _, _, _, _, _]) (is_I _) (Nat.le_of_ble_eq_true rfl) (Or.inr (n1_R _)) rfl ?_
  exact TX5_linkOwn_12 ha1 ⟨by omega, by omega⟩ (show 7 % 8 ≠ 1 by decide) (show 7 % 8 ≠ 1 by decide) (show 7 % 8 ≠ 1 by decide) (show 7 % 8 ≠ 1 by decide) hj0 hj1 hj2 h
def PX5_linkOwn_J : Nat → Nat → List Int → gS → (Int → gS → Prop) → Prop
  | 0, _, _, _, _ => False
  | f + 1, h, L, G, Q => match h, L with
    | 0, [o, l1, l2, l3] => PX5_linkOwn_12 (PX5_linkOwn_J f) o l1 l2 l3 G Q
    | 1, [o, l1, l2, l3, l4, l5, l6] => PX5_linkOwn_49 (PX5_linkOwn_J f) o l1 l2 l3 l4 l5 l6 G Q
    | 2, [o, l1, l2, l3, l4] => PX5_linkOwn_175 (PX5_linkOwn_J f) o l1 l2 l3 l4 G Q
    | _, _ => False
theorem TX5_linkOwn_J {Q : Int → gS → Prop} : ∀ f N : Nat, f ≤ N → (∀ (o : Int) (l1 : Int) (l2 : Int) (l3 : Int) (l4 : Nat) (l5 : Nat) (l6 : Nat) (l7 : Nat) (G : gS), (inI l1) → (inI l3) → (l4 % 8 ≠ 1) → (l5 % 8 ≠ 1) → (l6 % 8 ≠ 1) → (l7 % 8 ≠ 1) → (PX5_linkOwn_J f) 0 [o, l1, l2, l3] G Q → Tg W0 (rx_J vhX5_linkOwn N 0) [rf (o), cI (l1), rf (l2), cI (l3), l4, l5, l6, l7] [] G (fun r G => ∃ v, r = cI v ∧ inI v ∧ Q v G)) ∧ (∀ (o : Int) (l1 : Int) (l2 : Int) (l3 : Int) (l4 : Int) (l5 : Int) (l6 : Int) (l7 : Nat) (G : gS), (inI l1) → (inI l3) → (inI l5) → (inI l6) → (l7 % 8 ≠ 1) → (PX5_linkOwn_J f) 1 [o, l1, l2, l3, l4, l5, l6] G Q → Tg W0 (rx_J vhX5_linkOwn N 1) [rf (o), cI (l1), rf (l2), cI (l3), rf (l4), cI (l5), cI (l6), l7] [] G (fun r G => ∃ v, r = cI v ∧ inI v ∧ Q v G)) ∧ (∀ (o : Int) (l1 : Int) (l2 : Int) (l3 : Int) (l4 : Int) (l5 : Nat) (l6 : Nat) (l7 : Nat) (G : gS), (inI l1) → (inI l4) → (l5 % 8 ≠ 1) → (l6 % 8 ≠ 1) → (l7 % 8 ≠ 1) → (PX5_linkOwn_J f) 2 [o, l1, l2, l3, l4] G Q → Tg W0 (rx_J vhX5_linkOwn N 2) [rf (o), cI (l1), rf (l2), rf (l3), cI (l4), l5, l6, l7] [] G (fun r G => ∃ v, r = cI v ∧ inI v ∧ Q v G)) := by
  intro f
  induction f with
  | zero => exact fun N _ => ⟨fun _ _ _ _ _ _ _ _ _ _ _ _ _ _ _ h => h.elim, fun _ _ _ _ _ _ _ _ _ _ _ _ _ _ h => h.elim, fun _ _ _ _ _ _ _ _ _ _ _ _ _ _ h => h.elim⟩
  | succ f ih =>
    intro N hN
    obtain ⟨M, rfl⟩ : ∃ M, N = M + 1 := ⟨N - 1, by omega⟩
    have ih := ih M (by omega)
    exact ⟨fun _ _ _ _ _ _ _ _ _ hl1 hl3 hl4 hl5 hl6 hl7 h => show Tg W0 (vX5_linkOwn_12 (rx_J vhX5_linkOwn M)) _ _ _ _ from TX5_linkOwn_12 hl1 hl3 hl4 hl5 hl6 hl7 ih.1 ih.2.1 ih.2.2 h, fun _ _ _ _ _ _ _ _ _ hl1 hl3 hl5 hl6 hl7 h => show Tg W0 (vX5_linkOwn_49 (rx_J vhX5_linkOwn M)) _ _ _ _ from TX5_linkOwn_49 hl1 hl3 hl5 hl6 hl7 ih.1 ih.2.1 ih.2.2 h, fun _ _ _ _ _ _ _ _ _ hl1 hl4 hl5 hl6 hl7 h => show Tg W0 (vX5_linkOwn_175 (rx_J vhX5_linkOwn M)) _ _ _ _ from TX5_linkOwn_175 hl1 hl4 hl5 hl6 hl7 ih.1 ih.2.1 ih.2.2 h⟩
def PX5_linkOwn (o : Int) (a1 : Int) (G : gS) (Q : Int → gS → Prop) : Prop := ∃ f : Nat, f ≤ 4000000000 ∧ PX5_linkOwn_0 (PX5_linkOwn_J f) o a1 G Q
theorem TX5_linkOwn {o : Int} {a1 : Int} {G : gS} {Q : Int → gS → Prop} (ha1 : inI a1) (h : PX5_linkOwn o a1 G Q) : Tn W0 FX5_linkOwn [rf (o), cI (a1)] G (fun r G => ∃ v, r = cI v ∧ inI v ∧ Q v G) := by
  obtain ⟨f, hf, h⟩ := h
  have hJ := TX5_linkOwn_J (Q := Q) f 4000000000 hf
  unfold FX5_linkOwn
  refine g_ent (lv' := [rf (o), cI (a1), 7, 7, 7, 7, 7, 7]) (flR (flI fl0)) (Nat.le_of_ble_eq_true rfl) rfl ?_
  exact TX5_linkOwn_0 ha1 hJ.1 hJ.2.1 hJ.2.2 h
def PX5_link_317 (J : Nat → List Int → gS → (Int → gS → Prop) → Prop) (o : Int) (l1 : Int) (l2 : Int) (l3 : Int) (l4 : Int) (s0 : Int) (G : gS) (Q : Int → gS → Prop) : Prop :=
  Q (s0) G
set_option maxRecDepth 20000 in
theorem TX5_link_317 {j : Nat → rx_K} {J : Nat → List Int → gS → (Int → gS → Prop) → Prop} {o : Int} {l1 : Int} {l2 : Int} {l3 : Int} {l4 : Int} {l5 : Nat} {l6 : Nat} {l7 : Nat} {l8 : Nat} {s0 : Int} {G : gS} {Q : Int → gS → Prop} (hl1 : inI l1) (hl2 : inI l2) (hl3 : inI l3) (hl4 : inI l4) (hl5 : l5 % 8 ≠ 1) (hl6 : l6 % 8 ≠ 1) (hl7 : l7 % 8 ≠ 1) (hl8 : l8 % 8 ≠ 1) (hs0 : inI s0) (hj0 : ∀ (o : Int) (l1 : Int) (l2 : Int) (l3 : Int) (l4 : Int) (l5 : Nat) (l6 : Nat) (l7 : Nat) (l8 : Nat) (G : gS), (inI l1) → (inI l2) → (inI l3) → (inI l4) → (l5 % 8 ≠ 1) → (l6 % 8 ≠ 1) → (l7 % 8 ≠ 1) → (l8 % 8 ≠ 1) → J 0 [o, l1, l2, l3, l4] G Q → Tg W0 (j 0) [rf (o), cI (l1), cI (l2), cI (l3), cI (l4), l5, l6, l7, l8] [] G (fun r G => ∃ v, r = cI v ∧ inI v ∧ Q v G)) (h : PX5_link_317 J o l1 l2 l3 l4 s0 G Q) : Tg W0 (vX5_link_317 j) [rf (o), cI (l1), cI (l2), cI (l3), cI (l4), l5, l6, l7, l8] [cI (s0)] G (fun r G => ∃ v, r = cI v ∧ inI v ∧ Q v G) := by
  unfold PX5_link_317 at h
  unfold vX5_link_317
  exact g_ret1 (is_I _) ⟨_, rfl, hs0, h⟩
def PX5_link_307 (J : Nat → List Int → gS → (Int → gS → Prop) → Prop) (o : Int) (l1 : Int) (l2 : Int) (l3 : Int) (l4 : Int) (G : gS) (Q : Int → gS → Prop) : Prop :=
  (isO W0 5 (o) ∧ ((0 : Int) ≤ l1 ∧ ((l1 : Int) < 64 ∧ (inI (G (o + 2) l1) → PX5_link_317 J o l1 l2 l3 l4 (G (o + 2) l1) G Q))))
set_option maxRecDepth 20000 in
theorem TX5_link_307 {j : Nat → rx_K} {J : Nat → List Int → gS → (Int → gS → Prop) → Prop} {o : Int} {l1 : Int} {l2 : Int} {l3 : Int} {l4 : Int} {l5 : Nat} {l6 : Nat} {l7 : Nat} {l8 : Nat} {G : gS} {Q : Int → gS → Prop} (hl1 : inI l1) (hl2 : inI l2) (hl3 : inI l3) (hl4 : inI l4) (hl5 : l5 % 8 ≠ 1) (hl6 : l6 % 8 ≠ 1) (hl7 : l7 % 8 ≠ 1) (hl8 : l8 % 8 ≠ 1) (hj0 : ∀ (o : Int) (l1 : Int) (l2 : Int) (l3 : Int) (l4 : Int) (l5 : Nat) (l6 : Nat) (l7 : Nat) (l8 : Nat) (G : gS), (inI l1) → (inI l2) → (inI l3) → (inI l4) → (l5 % 8 ≠ 1) → (l6 % 8 ≠ 1) → (l7 % 8 ≠ 1) → (l8 % 8 ≠ 1) → J 0 [o, l1, l2, l3, l4] G Q → Tg W0 (j 0) [rf (o), cI (l1), cI (l2), cI (l3), cI (l4), l5, l6, l7, l8] [] G (fun r G => ∃ v, r = cI v ∧ inI v ∧ Q v G)) (h : PX5_link_307 J o l1 l2 l3 l4 G Q) : Tg W0 (vX5_link_307 j) [rf (o), cI (l1), cI (l2), cI (l3), cI (l4), l5, l6, l7, l8] [] G (fun r G => ∃ v, r = cI v ∧ inI v ∧ Q v G) := by
  unfold PX5_link_307 at h
  unfold vX5_link_307
  refine g_ld (v := rf _) rfl (is_R _) ?_
  obtain ⟨q61, h⟩ := h
  refine g_getF q61 (ff5_2 q61).1 rfl (Nat.le_of_ble_eq_true rfl) (Nat.le_of_ble_eq_true rfl) ?_
  refine g_ld (v := cI _) rfl (is_I _) ?_
  obtain ⟨q62, q63, h⟩ := h
  refine g_aldI (ff5_2 q61).2 q62 q63 rfl fun i64 => ?_
  replace h := h i64
  exact TX5_link_317 hl1 hl2 hl3 hl4 hl5 hl6 hl7 hl8 i64 hj0 h
def PX5_link_286 (J : Nat → List Int → gS → (Int → gS → Prop) → Prop) (o : Int) (l1 : Int) (l2 : Int) (l3 : Int) (l4 : Int) (G : gS) (Q : Int → gS → Prop) : Prop :=
  (isO W0 5 (o) ∧ ((0 : Int) ≤ l1 ∧ ((l1 : Int) < 64 ∧ (inI (G (o + 1) l1) → ((G (o + 1) l1 = 6 → PX5_link_307 J o l1 l2 l3 l4 G Q) ∧ (¬ (G (o + 1) l1 = 6) → ((0 : Int) ≤ l1 ∧ ((l1 : Int) < 64 ∧ (inI (G (o + 1) l1) → ((G (o + 1) l1 = 5 → PX5_link_307 J o l1 l2 l3 l4 G Q) ∧ (¬ (G (o + 1) l1 = 5) → PX5_link_317 J o l1 l2 l3 l4 l3 G Q)))))))))))
set_option maxRecDepth 20000 in
theorem TX5_link_286 {j : Nat → rx_K} {J : Nat → List Int → gS → (Int → gS → Prop) → Prop} {o : Int} {l1 : Int} {l2 : Int} {l3 : Int} {l4 : Int} {l5 : Nat} {l6 : Nat} {l7 : Nat} {l8 : Nat} {G : gS} {Q : Int → gS → Prop} (hl1 : inI l1) (hl2 : inI l2) (hl3 : inI l3) (hl4 : inI l4) (hl5 : l5 % 8 ≠ 1) (hl6 : l6 % 8 ≠ 1) (hl7 : l7 % 8 ≠ 1) (hl8 : l8 % 8 ≠ 1) (hj0 : ∀ (o : Int) (l1 : Int) (l2 : Int) (l3 : Int) (l4 : Int) (l5 : Nat) (l6 : Nat) (l7 : Nat) (l8 : Nat) (G : gS), (inI l1) → (inI l2) → (inI l3) → (inI l4) → (l5 % 8 ≠ 1) → (l6 % 8 ≠ 1) → (l7 % 8 ≠ 1) → (l8 % 8 ≠ 1) → J 0 [o, l1, l2, l3, l4] G Q → Tg W0 (j 0) [rf (o), cI (l1), cI (l2), cI (l3), cI (l4), l5, l6, l7, l8] [] G (fun r G => ∃ v, r = cI v ∧ inI v ∧ Q v G)) (h : PX5_link_286 J o l1 l2 l3 l4 G Q) : Tg W0 (vX5_link_286 j) [rf (o), cI (l1), cI (l2), cI (l3), cI (l4), l5, l6, l7, l8] [] G (fun r G => ∃ v, r = cI v ∧ inI v ∧ Q v G) := by
  unfold PX5_link_286 at h
  unfold vX5_link_286
  refine g_ld (v := rf _) rfl (is_R _) ?_
  obtain ⟨q38, h⟩ := h
  refine g_getF q38 (ff5_1 q38).1 rfl (Nat.le_of_ble_eq_true rfl) (Nat.le_of_ble_eq_true rfl) ?_
  refine g_ld (v := cI _) rfl (is_I _) ?_
  obtain ⟨q39, q40, h⟩ := h
  refine g_aldI (ff5_1 q38).2 q39 q40 rfl fun i41 => ?_
  replace h := h i41
  refine g_const (v := cI (6)) rfl ?_
  refine g_eq2 i41 ⟨by omega, by omega⟩ (fun b42 => ?_) (fun b42 => ?_)
  · replace h := h.1 b42
    exact TX5_link_307 hl1 hl2 hl3 hl4 hl5 hl6 hl7 hl8 hj0 h
  · replace h := h.2 b42
    unfold vX5_link_297
    refine g_ld (v := rf _) rfl (is_R _) ?_
    refine g_getF q38 (ff5_1 q38).1 rfl (Nat.le_of_ble_eq_true rfl) (Nat.le_of_ble_eq_true rfl) ?_
    refine g_ld (v := cI _) rfl (is_I _) ?_
    obtain ⟨q43, q44, h⟩ := h
    refine g_aldI (ff5_1 q38).2 q43 q44 rfl fun i45 => ?_
    replace h := h i45
    refine g_const (v := cI (5)) rfl ?_
    refine g_eq2 i45 ⟨by omega, by omega⟩ (fun b46 => ?_) (fun b46 => ?_)
    · replace h := h.1 b46
      exact TX5_link_307 hl1 hl2 hl3 hl4 hl5 hl6 hl7 hl8 hj0 h
    · replace h := h.2 b46
      unfold vX5_link_316
      refine g_ld (v := cI _) rfl (is_I _) ?_
      exact TX5_link_317 hl1 hl2 hl3 hl4 hl5 hl6 hl7 hl8 hl3 hj0 h
def PX5_link_280 (J : Nat → List Int → gS → (Int → gS → Prop) → Prop) (o : Int) (l1 : Int) (l2 : Int) (l3 : Int) (l4 : Int) (l5 : Int) (l6 : Int) (l7 : Int) (l8 : Int) (G : gS) (Q : Int → gS → Prop) : Prop :=
  (inI (l4 + 1) ∧ J 0 [o, l1, l2, l3, l4 + 1] G Q)
set_option maxRecDepth 20000 in
theorem TX5_link_280 {j : Nat → rx_K} {J : Nat → List Int → gS → (Int → gS → Prop) → Prop} {o : Int} {l1 : Int} {l2 : Int} {l3 : Int} {l4 : Int} {l5 : Int} {l6 : Int} {l7 : Int} {l8 : Int} {G : gS} {Q : Int → gS → Prop} (hl1 : inI l1) (hl2 : inI l2) (hl3 : inI l3) (hl4 : inI l4) (hl5 : inI l5) (hl6 : inI l6) (hl7 : inI l7) (hl8 : inI l8) (hj0 : ∀ (o : Int) (l1 : Int) (l2 : Int) (l3 : Int) (l4 : Int) (l5 : Nat) (l6 : Nat) (l7 : Nat) (l8 : Nat) (G : gS), (inI l1) → (inI l2) → (inI l3) → (inI l4) → (l5 % 8 ≠ 1) → (l6 % 8 ≠ 1) → (l7 % 8 ≠ 1) → (l8 % 8 ≠ 1) → J 0 [o, l1, l2, l3, l4] G Q → Tg W0 (j 0) [rf (o), cI (l1), cI (l2), cI (l3), cI (l4), l5, l6, l7, l8] [] G (fun r G => ∃ v, r = cI v ∧ inI v ∧ Q v G)) (h : PX5_link_280 J o l1 l2 l3 l4 l5 l6 l7 l8 G Q) : Tg W0 (vX5_link_280 j) [rf (o), cI (l1), cI (l2), cI (l3), cI (l4), cI (l5), cI (l6), cI (l7), cI (l8)] [] G (fun r G => ∃ v, r = cI v ∧ inI v ∧ Q v G) := by
  unfold PX5_link_280 at h
  unfold vX5_link_280
  refine g_inc (lv' := [_, _, _, _, _, _, _, _, _]) rfl (Nat.le_of_ble_eq_true rfl) (Or.inr (n1_I _)) rfl ?_
  obtain ⟨q85, h⟩ := h
  exact hj0 _ _ _ _ _ _ _ _ _ _ hl1 hl2 hl3 q85 (n1_I _) (n1_I _) (n1_I _) (n1_I _) h
def PX5_link_255 (J : Nat → List Int → gS → (Int → gS → Prop) → Prop) (o : Int) (l1 : Int) (l2 : Int) (l3 : Int) (l4 : Int) (l5 : Int) (l6 : Int) (l7 : Int) (l8 : Int) (s0 : Int) (s1 : Int) (s2 : Int) (G : gS) (Q : Int → gS → Prop) : Prop :=
  (∃ n90, isA W0 0 n90 (s0) ∧ ((0 : Int) ≤ s1 ∧ ((s1 : Int) < n90 ∧ (∀ G94 : gS, G94 = uG G s0 s1 (s2) → (isO W0 5 (o) ∧ ((0 : Int) ≤ l5 ∧ ((l5 : Int) < 64 ∧ (∀ G98 : gS, G98 = uG G94 (o + 2) l5 (l3) → ((0 : Int) ≤ l5 ∧ ((l5 : Int) < 64 ∧ (inI (G98 (o + 1) l5) → PX5_tellEvent o l5 (G98 (o + 1) l5) G98 (fun _ G102 => (inI (l2 + (-1)) ∧ PX5_link_280 J o l1 (l2 + (-1)) l3 l4 l5 l6 l7 l8 G102 Q)))))))))))))
set_option maxRecDepth 20000 in
theorem TX5_link_255 {j : Nat → rx_K} {J : Nat → List Int → gS → (Int → gS → Prop) → Prop} {o : Int} {l1 : Int} {l2 : Int} {l3 : Int} {l4 : Int} {l5 : Int} {l6 : Int} {l7 : Int} {l8 : Int} {s0 : Int} {s1 : Int} {s2 : Int} {G : gS} {Q : Int → gS → Prop} (hl1 : inI l1) (hl2 : inI l2) (hl3 : inI l3) (hl4 : inI l4) (hl5 : inI l5) (hl6 : inI l6) (hl7 : inI l7) (hl8 : inI l8) (hs1 : inI s1) (hs2 : inI s2) (hj0 : ∀ (o : Int) (l1 : Int) (l2 : Int) (l3 : Int) (l4 : Int) (l5 : Nat) (l6 : Nat) (l7 : Nat) (l8 : Nat) (G : gS), (inI l1) → (inI l2) → (inI l3) → (inI l4) → (l5 % 8 ≠ 1) → (l6 % 8 ≠ 1) → (l7 % 8 ≠ 1) → (l8 % 8 ≠ 1) → J 0 [o, l1, l2, l3, l4] G Q → Tg W0 (j 0) [rf (o), cI (l1), cI (l2), cI (l3), cI (l4), l5, l6, l7, l8] [] G (fun r G => ∃ v, r = cI v ∧ inI v ∧ Q v G)) (h : PX5_link_255 J o l1 l2 l3 l4 l5 l6 l7 l8 s0 s1 s2 G Q) : Tg W0 (vX5_link_255 j) [rf (o), cI (l1), cI (l2), cI (l3), cI (l4), cI (l5), cI (l6), cI (l7), cI (l8)] [cI (s2), cI (s1), rf (s0)] G (fun r G => ∃ v, r = cI v ∧ inI v ∧ Q v G) := by
  unfold PX5_link_255 at h
  unfold vX5_link_255
  obtain ⟨n90, q91, h⟩ := h
  obtain ⟨q92, q93, h⟩ := h
  refine g_astI q91 q92 q93 hs2 (nfI q91) ?_
  replace h := h _ rfl
  refine g_ld (v := rf _) rfl (is_R _) ?_
  obtain ⟨q95, h⟩ := h
  refine g_getF q95 (ff5_2 q95).1 rfl (Nat.le_of_ble_eq_true rfl) (Nat.le_of_ble_eq_true rfl) ?_
  refine g_ld (v := cI _) rfl (is_I _) ?_
  refine g_ld (v := cI _) rfl (is_I _) ?_
  obtain ⟨q96, q97, h⟩ := h
  refine g_astI (ff5_2 q95).2 q96 q97 hl3 (nfI (ff5_2 q95).2) ?_
  replace h := h _ rfl
  refine g_ld (v := rf _) rfl (is_R _) ?_
  refine g_ld (v := cI _) rfl (is_I _) ?_
  refine g_ld (v := rf _) rfl (is_R _) ?_
  refine g_getF q95 (ff5_1 q95).1 rfl (Nat.le_of_ble_eq_true rfl) (Nat.le_of_ble_eq_true rfl) ?_
  refine g_ld (v := cI _) rfl (is_I _) ?_
  obtain ⟨q99, q100, h⟩ := h
  refine g_aldI (ff5_1 q95).2 q99 q100 rfl fun i101 => ?_
  replace h := h i101
  refine g_callV (As := [_, _]) (ci := 5) q95 (fun _ => rfl) ?_
  refine g_go0 (Nat.le_of_ble_eq_true rfl) (Tn_w (TX5_tellEvent hl5 i101 h) fun _ G102 ⟨e, h⟩ => ⟨e, ?_⟩)
  refine g_inc (lv' := [_, _, _, _, _, _, _, _, _]) rfl (Nat.le_of_ble_eq_true rfl) (Or.inr (n1_I _)) rfl ?_
  obtain ⟨q104, h⟩ := h
  exact TX5_link_280 hl1 q104 hl3 hl4 hl5 hl6 hl7 hl8 hj0 h
def PX5_link_239 (J : Nat → List Int → gS → (Int → gS → Prop) → Prop) (o : Int) (l1 : Int) (l2 : Int) (l3 : Int) (l4 : Int) (l5 : Int) (l6 : Int) (l7 : Int) (l8 : Int) (G : gS) (Q : Int → gS → Prop) : Prop :=
  (isO W0 5 (o) ∧ ((l3 = 0 → PX5_link_255 J o l1 l2 l3 l4 l5 l6 l7 l8 (o + 1) l5 2 G Q) ∧ (¬ (l3 = 0) → PX5_link_255 J o l1 l2 l3 l4 l5 l6 l7 l8 (o + 1) l5 6 G Q)))
set_option maxRecDepth 20000 in
theorem TX5_link_239 {j : Nat → rx_K} {J : Nat → List Int → gS → (Int → gS → Prop) → Prop} {o : Int} {l1 : Int} {l2 : Int} {l3 : Int} {l4 : Int} {l5 : Int} {l6 : Int} {l7 : Int} {l8 : Int} {G : gS} {Q : Int → gS → Prop} (hl1 : inI l1) (hl2 : inI l2) (hl3 : inI l3) (hl4 : inI l4) (hl5 : inI l5) (hl6 : inI l6) (hl7 : inI l7) (hl8 : inI l8) (hj0 : ∀ (o : Int) (l1 : Int) (l2 : Int) (l3 : Int) (l4 : Int) (l5 : Nat) (l6 : Nat) (l7 : Nat) (l8 : Nat) (G : gS), (inI l1) → (inI l2) → (inI l3) → (inI l4) → (l5 % 8 ≠ 1) → (l6 % 8 ≠ 1) → (l7 % 8 ≠ 1) → (l8 % 8 ≠ 1) → J 0 [o, l1, l2, l3, l4] G Q → Tg W0 (j 0) [rf (o), cI (l1), cI (l2), cI (l3), cI (l4), l5, l6, l7, l8] [] G (fun r G => ∃ v, r = cI v ∧ inI v ∧ Q v G)) (h : PX5_link_239 J o l1 l2 l3 l4 l5 l6 l7 l8 G Q) : Tg W0 (vX5_link_239 j) [rf (o), cI (l1), cI (l2), cI (l3), cI (l4), cI (l5), cI (l6), cI (l7), cI (l8)] [] G (fun r G => ∃ v, r = cI v ∧ inI v ∧ Q v G) := by
  unfold PX5_link_239 at h
  unfold vX5_link_239
  refine g_ld (v := rf _) rfl (is_R _) ?_
  obtain ⟨q88, h⟩ := h
  refine g_getF q88 (ff5_1 q88).1 rfl (Nat.le_of_ble_eq_true rfl) (Nat.le_of_ble_eq_true rfl) ?_
  refine g_ld (v := cI _) rfl (is_I _) ?_
  refine g_ld (v := cI _) rfl (is_I _) ?_
  refine g_eq1 hl3 (fun b89 => ?_) (fun b89 => ?_)
  · replace h := h.1 b89
    unfold vX5_link_249
    refine g_const (v := cI (2)) rfl ?_
    exact TX5_link_255 hl1 hl2 hl3 hl4 hl5 hl6 hl7 hl8 hl5 ⟨by omega, by omega⟩ hj0 h
  · replace h := h.2 b89
    unfold vX5_link_253
    refine g_const (v := cI (6)) rfl ?_
    exact TX5_link_255 hl1 hl2 hl3 hl4 hl5 hl6 hl7 hl8 hl5 ⟨by omega, by omega⟩ hj0 h
def PX5_link_229 (J : Nat → List Int → gS → (Int → gS → Prop) → Prop) (o : Int) (l1 : Int) (l2 : Int) (l3 : Int) (l4 : Int) (l5 : Int) (l6 : Int) (l7 : Int) (l8 : Int) (s0 : Int) (G : gS) (Q : Int → gS → Prop) : Prop :=
  ((l8 = 0 → ((s0 = 0 → PX5_link_280 J o l1 l2 s0 l4 l5 l6 l7 l8 G Q) ∧ (¬ (s0 = 0) → PX5_link_239 J o l1 l2 s0 l4 l5 l6 l7 l8 G Q))) ∧ (¬ (l8 = 0) → PX5_link_239 J o l1 l2 s0 l4 l5 l6 l7 l8 G Q))
set_option maxRecDepth 20000 in
theorem TX5_link_229 {j : Nat → rx_K} {J : Nat → List Int → gS → (Int → gS → Prop) → Prop} {o : Int} {l1 : Int} {l2 : Int} {l3 : Int} {l4 : Int} {l5 : Int} {l6 : Int} {l7 : Int} {l8 : Int} {s0 : Int} {G : gS} {Q : Int → gS → Prop} (hl1 : inI l1) (hl2 : inI l2) (hl3 : inI l3) (hl4 : inI l4) (hl5 : inI l5) (hl6 : inI l6) (hl7 : inI l7) (hl8 : inI l8) (hs0 : inI s0) (hj0 : ∀ (o : Int) (l1 : Int) (l2 : Int) (l3 : Int) (l4 : Int) (l5 : Nat) (l6 : Nat) (l7 : Nat) (l8 : Nat) (G : gS), (inI l1) → (inI l2) → (inI l3) → (inI l4) → (l5 % 8 ≠ 1) → (l6 % 8 ≠ 1) → (l7 % 8 ≠ 1) → (l8 % 8 ≠ 1) → J 0 [o, l1, l2, l3, l4] G Q → Tg W0 (j 0) [rf (o), cI (l1), cI (l2), cI (l3), cI (l4), l5, l6, l7, l8] [] G (fun r G => ∃ v, r = cI v ∧ inI v ∧ Q v G)) (h : PX5_link_229 J o l1 l2 l3 l4 l5 l6 l7 l8 s0 G Q) : Tg W0 (vX5_link_229 j) [rf (o), cI (l1), cI (l2), cI (l3), cI (l4), cI (l5), cI (l6), cI (l7), cI (l8)] [cI (s0)] G (fun r G => ∃ v, r = cI v ∧ inI v ∧ Q v G) := by
  unfold PX5_link_229 at h
  unfold vX5_link_229
  refine g_st (lv' := [_, _, _, _, _, _, _, _, _]) (is_I _) (Nat.le_of_ble_eq_true rfl) (Or.inr (n1_I _)) rfl ?_
  refine g_ld (v := cI _) rfl (is_I _) ?_
  refine g_eq1 hl8 (fun b86 => ?_) (fun b86 => ?_)
  · replace h := h.1 b86
    unfold vX5_link_235
    refine g_ld (v := cI _) rfl (is_I _) ?_
    refine g_eq1 hs0 (fun b87 => ?_) (fun b87 => ?_)
    · replace h := h.1 b87
      exact TX5_link_280 hl1 hl2 hs0 hl4 hl5 hl6 hl7 hl8 hj0 h
    · replace h := h.2 b87
      exact TX5_link_239 hl1 hl2 hs0 hl4 hl5 hl6 hl7 hl8 hj0 h
  · replace h := h.2 b86
    exact TX5_link_239 hl1 hl2 hs0 hl4 hl5 hl6 hl7 hl8 hj0 h
def PX5_link_228 (J : Nat → List Int → gS → (Int → gS → Prop) → Prop) (o : Int) (l1 : Int) (l2 : Int) (l3 : Int) (l4 : Int) (l5 : Int) (l6 : Int) (l7 : Int) (l8 : Int) (G : gS) (Q : Int → gS → Prop) : Prop :=
  PX5_link_229 J o l1 l2 l3 l4 l5 l6 l7 l8 0 G Q
set_option maxRecDepth 20000 in
theorem TX5_link_228 {j : Nat → rx_K} {J : Nat → List Int → gS → (Int → gS → Prop) → Prop} {o : Int} {l1 : Int} {l2 : Int} {l3 : Int} {l4 : Int} {l5 : Int} {l6 : Int} {l7 : Int} {l8 : Int} {G : gS} {Q : Int → gS → Prop} (hl1 : inI l1) (hl2 : inI l2) (hl3 : inI l3) (hl4 : inI l4) (hl5 : inI l5) (hl6 : inI l6) (hl7 : inI l7) (hl8 : inI l8) (hj0 : ∀ (o : Int) (l1 : Int) (l2 : Int) (l3 : Int) (l4 : Int) (l5 : Nat) (l6 : Nat) (l7 : Nat) (l8 : Nat) (G : gS), (inI l1) → (inI l2) → (inI l3) → (inI l4) → (l5 % 8 ≠ 1) → (l6 % 8 ≠ 1) → (l7 % 8 ≠ 1) → (l8 % 8 ≠ 1) → J 0 [o, l1, l2, l3, l4] G Q → Tg W0 (j 0) [rf (o), cI (l1), cI (l2), cI (l3), cI (l4), l5, l6, l7, l8] [] G (fun r G => ∃ v, r = cI v ∧ inI v ∧ Q v G)) (h : PX5_link_228 J o l1 l2 l3 l4 l5 l6 l7 l8 G Q) : Tg W0 (vX5_link_228 j) [rf (o), cI (l1), cI (l2), cI (l3), cI (l4), cI (l5), cI (l6), cI (l7), cI (l8)] [] G (fun r G => ∃ v, r = cI v ∧ inI v ∧ Q v G) := by
  unfold PX5_link_228 at h
  unfold vX5_link_228
  refine g_const (v := cI (0)) rfl ?_
  exact TX5_link_229 hl1 hl2 hl3 hl4 hl5 hl6 hl7 hl8 ⟨by omega, by omega⟩ hj0 h
def PX5_link_175 (J : Nat → List Int → gS → (Int → gS → Prop) → Prop) (o : Int) (l1 : Int) (l2 : Int) (l3 : Int) (l4 : Int) (l5 : Int) (l6 : Int) (l7 : Int) (l8 : Int) (G : gS) (Q : Int → gS → Prop) : Prop :=
  (isO W0 5 (o) ∧ ((0 : Int) ≤ l2 - 1 ∧ ((l2 - 1 : Int) < 66 ∧ (inI (G (o + 8) (l2 - 1)) → ((0 : Int) ≤ l2 - 1 ∧ ((l2 - 1 : Int) < 66 ∧ (inI ((G (o + 8) (l2 - 1)) + 1) ∧ (∀ G72 : gS, G72 = uG G (o + 8) (l2 - 1) ((G (o + 8) (l2 - 1)) + 1) → ((l8 = 0 → ((l7 < 0 → PX5_link_228 J o l1 l2 l3 l4 l5 l6 l7 l8 G72 Q) ∧ (¬ (l7 < 0) → ((0 : Int) ≤ l7 ∧ ((l7 : Int) < 64 ∧ (inI (G72 (o + 1) l7) → ((G72 (o + 1) l7 = 6 → ((0 : Int) ≤ l7 ∧ ((l7 : Int) < 64 ∧ (inI (G72 (o + 2) l7) → PX5_link_229 J o l1 l2 l3 l4 l5 l6 l7 l8 (G72 (o + 2) l7) G72 Q)))) ∧ (¬ (G72 (o + 1) l7 = 6) → PX5_link_228 J o l1 l2 l3 l4 l5 l6 l7 l8 G72 Q)))))))) ∧ (¬ (l8 = 0) → PX5_linkOwn o l5 G72 (fun r83 G82 => inI r83 → PX5_link_229 J o l1 l2 l3 l4 l5 l6 l7 l8 r83 G82 Q)))))))))))
set_option maxRecDepth 20000 in
theorem TX5_link_175 {j : Nat → rx_K} {J : Nat → List Int → gS → (Int → gS → Prop) → Prop} {o : Int} {l1 : Int} {l2 : Int} {l3 : Int} {l4 : Int} {l5 : Int} {l6 : Int} {l7 : Int} {l8 : Int} {G : gS} {Q : Int → gS → Prop} (hl1 : inI l1) (hl2 : inI l2) (hl3 : inI l3) (hl4 : inI l4) (hl5 : inI l5) (hl6 : inI l6) (hl7 : inI l7) (hl8 : inI l8) (hj0 : ∀ (o : Int) (l1 : Int) (l2 : Int) (l3 : Int) (l4 : Int) (l5 : Nat) (l6 : Nat) (l7 : Nat) (l8 : Nat) (G : gS), (inI l1) → (inI l2) → (inI l3) → (inI l4) → (l5 % 8 ≠ 1) → (l6 % 8 ≠ 1) → (l7 % 8 ≠ 1) → (l8 % 8 ≠ 1) → J 0 [o, l1, l2, l3, l4] G Q → Tg W0 (j 0) [rf (o), cI (l1), cI (l2), cI (l3), cI (l4), l5, l6, l7, l8] [] G (fun r G => ∃ v, r = cI v ∧ inI v ∧ Q v G)) (h : PX5_link_175 J o l1 l2 l3 l4 l5 l6 l7 l8 G Q) : Tg W0 (vX5_link_175 j) [rf (o), cI (l1), cI (l2), cI (l3), cI (l4), cI (l5), cI (l6), cI (l7), cI (l8)] [] G (fun r G => ∃ v, r = cI v ∧ inI v ∧ Q v G) := by
  unfold PX5_link_175 at h
  unfold vX5_link_175
  refine g_ld (v := rf _) rfl (is_R _) ?_
  obtain ⟨q65, h⟩ := h
  refine g_getF q65 (ff5_10 q65).1 rfl (Nat.le_of_ble_eq_true rfl) (Nat.le_of_ble_eq_true rfl) ?_
  refine g_ld (v := cI _) rfl (is_I _) ?_
  refine g_const (v := cI (1)) rfl ?_
  refine g_sub ?_
  refine g_dup2 (ct_I _) (ct_R _) ?_
  obtain ⟨q66, q67, h⟩ := h
  refine g_aldI (ff5_10 q65).2 q66 q67 rfl fun i68 => ?_
  replace h := h i68
  refine g_const (v := cI (1)) rfl ?_
  refine g_add ?_
  obtain ⟨q69, q70, h⟩ := h
  obtain ⟨q71, h⟩ := h
  refine g_astI (ff5_10 q65).2 q69 q70 q71 (nfI (ff5_10 q65).2) ?_
  replace h := h _ rfl
  refine g_ld (v := cI _) rfl (is_I _) ?_
  refine g_eq1 hl8 (fun b73 => ?_) (fun b73 => ?_)
  · replace h := h.1 b73
    unfold vX5_link_201
    refine g_ld (v := cI _) rfl (is_I _) ?_
    refine g_lt1 hl7 (fun b74 => ?_) (fun b74 => ?_)
    · replace h := h.1 b74
      exact TX5_link_228 hl1 hl2 hl3 hl4 hl5 hl6 hl7 hl8 hj0 h
    · replace h := h.2 b74
      unfold vX5_link_206
      refine g_ld (v := rf _) rfl (is_R _) ?_
      refine g_getF q65 (ff5_1 q65).1 rfl (Nat.le_of_ble_eq_true rfl) (Nat.le_of_ble_eq_true rfl) ?_
      refine g_ld (v := cI _) rfl (is_I _) ?_
      obtain ⟨q75, q76, h⟩ := h
      refine g_aldI (ff5_1 q65).2 q75 q76 rfl fun i77 => ?_
      replace h := h i77
      refine g_const (v := cI (6)) rfl ?_
      refine g_eq2 i77 ⟨by omega, by omega⟩ (fun b78 => ?_) (fun b78 => ?_)
      · replace h := h.1 b78
        unfold vX5_link_218
        refine g_ld (v := rf _) rfl (is_R _) ?_
        refine g_getF q65 (ff5_2 q65).1 rfl (Nat.le_of_ble_eq_true rfl) (Nat.le_of_ble_eq_true rfl) ?_
        refine g_ld (v := cI _) rfl (is_I _) ?_
        obtain ⟨q79, q80, h⟩ := h
        refine g_aldI (ff5_2 q65).2 q79 q80 rfl fun i81 => ?_
        replace h := h i81
        exact TX5_link_229 hl1 hl2 hl3 hl4 hl5 hl6 hl7 hl8 i81 hj0 h
      · replace h := h.2 b78
        exact TX5_link_228 hl1 hl2 hl3 hl4 hl5 hl6 hl7 hl8 hj0 h
  · replace h := h.2 b73
    unfold vX5_link_192
    refine g_ld (v := rf _) rfl (is_R _) ?_
    refine g_ld (v := cI _) rfl (is_I _) ?_
    refine g_callV (As := [_]) (ci := 5) q65 (fun _ => rfl) ?_
    refine g_go1 (Nat.le_of_ble_eq_true rfl) (Tn_w (TX5_linkOwn hl5 h) fun _ G82 ⟨r83, e, i84, h⟩ => ?_)
    subst e
    refine ⟨n7_I _, ?_⟩
    replace h := h i84
    exact TX5_link_229 hl1 hl2 hl3 hl4 hl5 hl6 hl7 hl8 i84 hj0 h
def PX5_link_131 (J : Nat → List Int → gS → (Int → gS → Prop) → Prop) (o : Int) (l1 : Int) (l2 : Int) (l3 : Int) (l4 : Int) (l5 : Int) (l6 : Int) (l7 : Int) (s0 : Int) (G : gS) (Q : Int → gS → Prop) : Prop :=
  ((s0 = 0 → ((l7 < 0 → PX5_link_175 J o l1 l2 l3 l4 l5 l6 l7 s0 G Q) ∧ (¬ (l7 < 0) → (isO W0 5 (o) ∧ ((0 : Int) ≤ l7 ∧ ((l7 : Int) < 64 ∧ (inI (G (o + 1) l7) → ((G (o + 1) l7 = 1 → ((0 : Int) ≤ l2 ∧ ((l2 : Int) < 66 ∧ (∀ G56 : gS, G56 = uG G (o + 7) l2 (l7) → ((0 : Int) ≤ l2 ∧ ((l2 : Int) < 66 ∧ (∀ G59 : gS, G59 = uG G56 (o + 8) l2 (0) → (inI (l2 + 1) ∧ PX5_link_280 J o l1 (l2 + 1) l3 l4 l5 l6 l7 s0 G59 Q)))))))) ∧ (¬ (G (o + 1) l7 = 1) → PX5_link_175 J o l1 l2 l3 l4 l5 l6 l7 s0 G Q))))))))) ∧ (¬ (s0 = 0) → PX5_link_175 J o l1 l2 l3 l4 l5 l6 l7 s0 G Q))
set_option maxRecDepth 20000 in
theorem TX5_link_131 {j : Nat → rx_K} {J : Nat → List Int → gS → (Int → gS → Prop) → Prop} {o : Int} {l1 : Int} {l2 : Int} {l3 : Int} {l4 : Int} {l5 : Int} {l6 : Int} {l7 : Int} {l8 : Nat} {s0 : Int} {G : gS} {Q : Int → gS → Prop} (hl1 : inI l1) (hl2 : inI l2) (hl3 : inI l3) (hl4 : inI l4) (hl5 : inI l5) (hl6 : inI l6) (hl7 : inI l7) (hl8 : l8 % 8 ≠ 1) (hs0 : inI s0) (hj0 : ∀ (o : Int) (l1 : Int) (l2 : Int) (l3 : Int) (l4 : Int) (l5 : Nat) (l6 : Nat) (l7 : Nat) (l8 : Nat) (G : gS), (inI l1) → (inI l2) → (inI l3) → (inI l4) → (l5 % 8 ≠ 1) → (l6 % 8 ≠ 1) → (l7 % 8 ≠ 1) → (l8 % 8 ≠ 1) → J 0 [o, l1, l2, l3, l4] G Q → Tg W0 (j 0) [rf (o), cI (l1), cI (l2), cI (l3), cI (l4), l5, l6, l7, l8] [] G (fun r G => ∃ v, r = cI v ∧ inI v ∧ Q v G)) (h : PX5_link_131 J o l1 l2 l3 l4 l5 l6 l7 s0 G Q) : Tg W0 (vX5_link_131 j) [rf (o), cI (l1), cI (l2), cI (l3), cI (l4), cI (l5), cI (l6), cI (l7), l8] [cI (s0)] G (fun r G => ∃ v, r = cI v ∧ inI v ∧ Q v G) := by
  unfold PX5_link_131 at h
  unfold vX5_link_131
  refine g_st (lv' := [_, _, _, _, _, _, _, _, _]) (is_I _) (Nat.le_of_ble_eq_true rfl) (Or.inr (n1_I _)) rfl ?_
  refine g_ld (v := cI _) rfl (is_I _) ?_
  refine g_eq1 hs0 (fun b47 => ?_) (fun b47 => ?_)
  · replace h := h.1 b47
    unfold vX5_link_138
    refine g_ld (v := cI _) rfl (is_I _) ?_
    refine g_lt1 hl7 (fun b48 => ?_) (fun b48 => ?_)
    · replace h := h.1 b48
      exact TX5_link_175 hl1 hl2 hl3 hl4 hl5 hl6 hl7 hs0 hj0 h
    · replace h := h.2 b48
      unfold vX5_link_143
      refine g_ld (v := rf _) rfl (is_R _) ?_
      obtain ⟨q49, h⟩ := h
      refine g_getF q49 (ff5_1 q49).1 rfl (Nat.le_of_ble_eq_true rfl) (Nat.le_of_ble_eq_true rfl) ?_
      refine g_ld (v := cI _) rfl (is_I _) ?_
      obtain ⟨q50, q51, h⟩ := h
      refine g_aldI (ff5_1 q49).2 q50 q51 rfl fun i52 => ?_
      replace h := h i52
      refine g_const (v := cI (1)) rfl ?_
      refine g_eq2 i52 ⟨by omega, by omega⟩ (fun b53 => ?_) (fun b53 => ?_)
      · replace h := h.1 b53
        unfold vX5_link_154
        refine g_ld (v := rf _) rfl (is_R _) ?_
        refine g_getF q49 (ff5_9 q49).1 rfl (Nat.le_of_ble_eq_true rfl) (Nat.le_of_ble_eq_true rfl) ?_
        refine g_ld (v := cI _) rfl (is_I _) ?_
        refine g_ld (v := cI _) rfl (is_I _) ?_
        obtain ⟨q54, q55, h⟩ := h
        refine g_astI (ff5_9 q49).2 q54 q55 hl7 (nfI (ff5_9 q49).2) ?_
        replace h := h _ rfl
        refine g_ld (v := rf _) rfl (is_R _) ?_
        refine g_getF q49 (ff5_10 q49).1 rfl (Nat.le_of_ble_eq_true rfl) (Nat.le_of_ble_eq_true rfl) ?_
        refine g_ld (v := cI _) rfl (is_I _) ?_
        refine g_const (v := cI (0)) rfl ?_
        obtain ⟨q57, q58, h⟩ := h
        refine g_astI (ff5_10 q49).2 q57 q58 ⟨by omega, by omega⟩ (nfI (ff5_10 q49).2) ?_
        replace h := h _ rfl
        refine g_inc (lv' := [_, _, _, _, _, _, _, _, _]) rfl (Nat.le_of_ble_eq_true rfl) (Or.inr (n1_I _)) rfl ?_
        obtain ⟨q60, h⟩ := h
        exact TX5_link_280 hl1 q60 hl3 hl4 hl5 hl6 hl7 hs0 hj0 h
      · replace h := h.2 b53
        exact TX5_link_175 hl1 hl2 hl3 hl4 hl5 hl6 hl7 hs0 hj0 h
  · replace h := h.2 b47
    exact TX5_link_175 hl1 hl2 hl3 hl4 hl5 hl6 hl7 hs0 hj0 h
def PX5_link_118 (J : Nat → List Int → gS → (Int → gS → Prop) → Prop) (o : Int) (l1 : Int) (l2 : Int) (l3 : Int) (l4 : Int) (l5 : Int) (l6 : Int) (s0 : Int) (G : gS) (Q : Int → gS → Prop) : Prop :=
  ((4 < l6 → PX5_link_131 J o l1 l2 l3 l4 l5 l6 s0 1 G Q) ∧ (¬ (4 < l6) → PX5_link_131 J o l1 l2 l3 l4 l5 l6 s0 0 G Q))
set_option maxRecDepth 20000 in
theorem TX5_link_118 {j : Nat → rx_K} {J : Nat → List Int → gS → (Int → gS → Prop) → Prop} {o : Int} {l1 : Int} {l2 : Int} {l3 : Int} {l4 : Int} {l5 : Int} {l6 : Int} {l7 : Nat} {l8 : Nat} {s0 : Int} {G : gS} {Q : Int → gS → Prop} (hl1 : inI l1) (hl2 : inI l2) (hl3 : inI l3) (hl4 : inI l4) (hl5 : inI l5) (hl6 : inI l6) (hl7 : l7 % 8 ≠ 1) (hl8 : l8 % 8 ≠ 1) (hs0 : inI s0) (hj0 : ∀ (o : Int) (l1 : Int) (l2 : Int) (l3 : Int) (l4 : Int) (l5 : Nat) (l6 : Nat) (l7 : Nat) (l8 : Nat) (G : gS), (inI l1) → (inI l2) → (inI l3) → (inI l4) → (l5 % 8 ≠ 1) → (l6 % 8 ≠ 1) → (l7 % 8 ≠ 1) → (l8 % 8 ≠ 1) → J 0 [o, l1, l2, l3, l4] G Q → Tg W0 (j 0) [rf (o), cI (l1), cI (l2), cI (l3), cI (l4), l5, l6, l7, l8] [] G (fun r G => ∃ v, r = cI v ∧ inI v ∧ Q v G)) (h : PX5_link_118 J o l1 l2 l3 l4 l5 l6 s0 G Q) : Tg W0 (vX5_link_118 j) [rf (o), cI (l1), cI (l2), cI (l3), cI (l4), cI (l5), cI (l6), l7, l8] [cI (s0)] G (fun r G => ∃ v, r = cI v ∧ inI v ∧ Q v G) := by
  unfold PX5_link_118 at h
  unfold vX5_link_118
  refine g_st (lv' := [_, _, _, _, _, _, _, _, _]) (is_I _) (Nat.le_of_ble_eq_true rfl) (Or.inr (n1_I _)) rfl ?_
  refine g_ld (v := cI _) rfl (is_I _) ?_
  refine g_const (v := cI (4)) rfl ?_
  refine g_gt2 hl6 ⟨by omega, by omega⟩ (fun b37 => ?_) (fun b37 => ?_)
  · replace h := h.1 b37
    unfold vX5_link_126
    refine g_const (v := cI (1)) rfl ?_
    exact TX5_link_131 hl1 hl2 hl3 hl4 hl5 hl6 hs0 hl8 ⟨by omega, by omega⟩ hj0 h
  · replace h := h.2 b37
    unfold vX5_link_130
    refine g_const (v := cI (0)) rfl ?_
    exact TX5_link_131 hl1 hl2 hl3 hl4 hl5 hl6 hs0 hl8 ⟨by omega, by omega⟩ hj0 h
def PX5_link_41 (J : Nat → List Int → gS → (Int → gS → Prop) → Prop) (o : Int) (l1 : Int) (l2 : Int) (l3 : Int) (l4 : Int) (G : gS) (Q : Int → gS → Prop) : Prop :=
  ((l4 < 100000000 → ((0 < l2 → (isO W0 5 (o) ∧ ((0 : Int) ≤ l2 - 1 ∧ ((l2 - 1 : Int) < 66 ∧ (inI (G (o + 7) (l2 - 1)) → ((0 : Int) ≤ l2 - 1 ∧ ((l2 - 1 : Int) < 66 ∧ (inI (G (o + 8) (l2 - 1)) → ((G (o + 8) (l2 - 1) = 0 → ((G o 0 = -1 ∨ isO W0 11 (G o 0)) → (isO W0 11 (G o 0) ∧ ((0 : Int) ≤ G (o + 7) (l2 - 1) ∧ ((G (o + 7) (l2 - 1) : Int) < 64 ∧ (inI (G ((G o 0) + 2) (G (o + 7) (l2 - 1))) → PX5_link_118 J o l1 l2 l3 l4 (G (o + 7) (l2 - 1)) (G (o + 8) (l2 - 1)) (G ((G o 0) + 2) (G (o + 7) (l2 - 1))) G Q)))))) ∧ (¬ (G (o + 8) (l2 - 1) = 0) → ((4 < G (o + 8) (l2 - 1) → PX5_link_118 J o l1 l2 l3 l4 (G (o + 7) (l2 - 1)) (G (o + 8) (l2 - 1)) (-2) G Q) ∧ (¬ (4 < G (o + 8) (l2 - 1)) → ((G o 0 = -1 ∨ isO W0 11 (G o 0)) → (isO W0 11 (G o 0) ∧ ((0 : Int) ≤ (((G (o + 7) (l2 - 1)) * 4) + (G (o + 8) (l2 - 1))) - 1 ∧ (((((G (o + 7) (l2 - 1)) * 4) + (G (o + 8) (l2 - 1))) - 1 : Int) < 256 ∧ (inI (G ((G o 0) + 4) ((((G (o + 7) (l2 - 1)) * 4) + (G (o + 8) (l2 - 1))) - 1)) → PX5_link_118 J o l1 l2 l3 l4 (G (o + 7) (l2 - 1)) (G (o + 8) (l2 - 1)) (G ((G o 0) + 4) ((((G (o + 7) (l2 - 1)) * 4) + (G (o + 8) (l2 - 1))) - 1)) G Q))))))))))))))))) ∧ (¬ (0 < l2) → PX5_link_286 J o l1 l2 l3 l4 G Q))) ∧ (¬ (l4 < 100000000) → PX5_link_286 J o l1 l2 l3 l4 G Q))
set_option maxRecDepth 20000 in
theorem TX5_link_41 {j : Nat → rx_K} {J : Nat → List Int → gS → (Int → gS → Prop) → Prop} {o : Int} {l1 : Int} {l2 : Int} {l3 : Int} {l4 : Int} {l5 : Nat} {l6 : Nat} {l7 : Nat} {l8 : Nat} {G : gS} {Q : Int → gS → Prop} (hl1 : inI l1) (hl2 : inI l2) (hl3 : inI l3) (hl4 : inI l4) (hl5 : l5 % 8 ≠ 1) (hl6 : l6 % 8 ≠ 1) (hl7 : l7 % 8 ≠ 1) (hl8 : l8 % 8 ≠ 1) (hj0 : ∀ (o : Int) (l1 : Int) (l2 : Int) (l3 : Int) (l4 : Int) (l5 : Nat) (l6 : Nat) (l7 : Nat) (l8 : Nat) (G : gS), (inI l1) → (inI l2) → (inI l3) → (inI l4) → (l5 % 8 ≠ 1) → (l6 % 8 ≠ 1) → (l7 % 8 ≠ 1) → (l8 % 8 ≠ 1) → J 0 [o, l1, l2, l3, l4] G Q → Tg W0 (j 0) [rf (o), cI (l1), cI (l2), cI (l3), cI (l4), l5, l6, l7, l8] [] G (fun r G => ∃ v, r = cI v ∧ inI v ∧ Q v G)) (h : PX5_link_41 J o l1 l2 l3 l4 G Q) : Tg W0 (vX5_link_41 j) [rf (o), cI (l1), cI (l2), cI (l3), cI (l4), l5, l6, l7, l8] [] G (fun r G => ∃ v, r = cI v ∧ inI v ∧ Q v G) := by
  unfold PX5_link_41 at h
  unfold vX5_link_41
  refine g_ld (v := cI _) rfl (is_I _) ?_
  refine g_const (v := cI (100000000)) rfl ?_
  refine g_lt2 hl4 ⟨by omega, by omega⟩ (fun b16 => ?_) (fun b16 => ?_)
  · replace h := h.1 b16
    unfold vX5_link_48
    refine g_ld (v := cI _) rfl (is_I _) ?_
    refine g_gt1 hl2 (fun b17 => ?_) (fun b17 => ?_)
    · replace h := h.1 b17
      unfold vX5_link_52
      refine g_ld (v := rf _) rfl (is_R _) ?_
      obtain ⟨q18, h⟩ := h
      refine g_getF q18 (ff5_9 q18).1 rfl (Nat.le_of_ble_eq_true rfl) (Nat.le_of_ble_eq_true rfl) ?_
      refine g_ld (v := cI _) rfl (is_I _) ?_
      refine g_const (v := cI (1)) rfl ?_
      refine g_sub ?_
      obtain ⟨q19, q20, h⟩ := h
      refine g_aldI (ff5_9 q18).2 q19 q20 rfl fun i21 => ?_
      replace h := h i21
      refine g_st (lv' := [_, _, _, _, _, _, _, _, _]) (is_I _) (Nat.le_of_ble_eq_true rfl) (Or.inr (n1_I _)) rfl ?_
      refine g_ld (v := rf _) rfl (is_R _) ?_
      refine g_getF q18 (ff5_10 q18).1 rfl (Nat.le_of_ble_eq_true rfl) (Nat.le_of_ble_eq_true rfl) ?_
      refine g_ld (v := cI _) rfl (is_I _) ?_
      refine g_const (v := cI (1)) rfl ?_
      refine g_sub ?_
      obtain ⟨q22, q23, h⟩ := h
      refine g_aldI (ff5_10 q18).2 q22 q23 rfl fun i24 => ?_
      replace h := h i24
      refine g_st (lv' := [_, _, _, _, _, _, _, _, _]) (is_I _) (Nat.le_of_ble_eq_true rfl) (Or.inr (n1_I _)) rfl ?_
      refine g_ld (v := cI _) rfl (is_I _) ?_
      refine g_eq1 i24 (fun b25 => ?_) (fun b25 => ?_)
      · replace h := h.1 b25
        unfold vX5_link_77
        refine g_ld (v := rf _) rfl (is_R _) ?_
        refine g_getR (kz := 0) (c := 11) q18 rfl (Nat.le_of_ble_eq_true rfl) rfl (by decide) fun i26 => ?_
        replace h := h i26
        obtain ⟨q27, h⟩ := h
        refine g_getF q27 (ff11_3 q27).1 rfl (Nat.le_of_ble_eq_true rfl) (Nat.le_of_ble_eq_true rfl) ?_
        refine g_ld (v := cI _) rfl (is_I _) ?_
        obtain ⟨q28, q29, h⟩ := h
        refine g_aldI (ff11_3 q27).2 q28 q29 rfl fun i30 => ?_
        replace h := h i30
        exact TX5_link_118 hl1 hl2 hl3 hl4 i21 i24 hl7 hl8 i30 hj0 h
      · replace h := h.2 b25
        unfold vX5_link_90
        refine g_ld (v := cI _) rfl (is_I _) ?_
        refine g_const (v := cI (4)) rfl ?_
        refine g_gt2 i24 ⟨by omega, by omega⟩ (fun b31 => ?_) (fun b31 => ?_)
        · replace h := h.1 b31
          unfold vX5_link_116
          refine g_const (v := cI (-2)) rfl ?_
          exact TX5_link_118 hl1 hl2 hl3 hl4 i21 i24 hl7 hl8 ⟨by omega, by omega⟩ hj0 h
        · replace h := h.2 b31
          unfold vX5_link_96
          refine g_ld (v := rf _) rfl (is_R _) ?_
          refine g_getR (kz := 0) (c := 11) q18 rfl (Nat.le_of_ble_eq_true rfl) rfl (by decide) fun i32 => ?_
          replace h := h i32
          obtain ⟨q33, h⟩ := h
          refine g_getF q33 (ff11_5 q33).1 rfl (Nat.le_of_ble_eq_true rfl) (Nat.le_of_ble_eq_true rfl) ?_
          refine g_ld (v := cI _) rfl (is_I _) ?_
          refine g_const (v := cI (4)) rfl ?_
          refine g_mul ?_
          refine g_ld (v := cI _) rfl (is_I _) ?_
          refine g_add ?_
          refine g_const (v := cI (1)) rfl ?_
          refine g_sub ?_
          obtain ⟨q34, q35, h⟩ := h
          refine g_aldI (ff11_5 q33).2 q34 q35 rfl fun i36 => ?_
          replace h := h i36
          exact TX5_link_118 hl1 hl2 hl3 hl4 i21 i24 hl7 hl8 i36 hj0 h
    · replace h := h.2 b17
      exact TX5_link_286 hl1 hl2 hl3 hl4 hl5 hl6 hl7 hl8 hj0 h
  · replace h := h.2 b16
    exact TX5_link_286 hl1 hl2 hl3 hl4 hl5 hl6 hl7 hl8 hj0 h
def PX5_link_38 (J : Nat → List Int → gS → (Int → gS → Prop) → Prop) (o : Int) (l1 : Int) (l2 : Int) (l3 : Int) (G : gS) (Q : Int → gS → Prop) : Prop :=
  PX5_link_41 J o l1 l2 l3 0 G Q
set_option maxRecDepth 20000 in
theorem TX5_link_38 {j : Nat → rx_K} {J : Nat → List Int → gS → (Int → gS → Prop) → Prop} {o : Int} {l1 : Int} {l2 : Int} {l3 : Int} {l4 : Nat} {l5 : Nat} {l6 : Nat} {l7 : Nat} {l8 : Nat} {G : gS} {Q : Int → gS → Prop} (hl1 : inI l1) (hl2 : inI l2) (hl3 : inI l3) (hl4 : l4 % 8 ≠ 1) (hl5 : l5 % 8 ≠ 1) (hl6 : l6 % 8 ≠ 1) (hl7 : l7 % 8 ≠ 1) (hl8 : l8 % 8 ≠ 1) (hj0 : ∀ (o : Int) (l1 : Int) (l2 : Int) (l3 : Int) (l4 : Int) (l5 : Nat) (l6 : Nat) (l7 : Nat) (l8 : Nat) (G : gS), (inI l1) → (inI l2) → (inI l3) → (inI l4) → (l5 % 8 ≠ 1) → (l6 % 8 ≠ 1) → (l7 % 8 ≠ 1) → (l8 % 8 ≠ 1) → J 0 [o, l1, l2, l3, l4] G Q → Tg W0 (j 0) [rf (o), cI (l1), cI (l2), cI (l3), cI (l4), l5, l6, l7, l8] [] G (fun r G => ∃ v, r = cI v ∧ inI v ∧ Q v G)) (h : PX5_link_38 J o l1 l2 l3 G Q) : Tg W0 (vX5_link_38 j) [rf (o), cI (l1), cI (l2), cI (l3), l4, l5, l6, l7, l8] [] G (fun r G => ∃ v, r = cI v ∧ inI v ∧ Q v G) := by
  unfold PX5_link_38 at h
  unfold vX5_link_38
  refine g_const (v := cI (0)) rfl ?_
  refine g_st (lv' := [_, _, _, _, _, _, _, _, _]) (is_I _) (Nat.le_of_ble_eq_true rfl) (Or.inr (n1_I _)) rfl ?_
  exact TX5_link_41 hl1 hl2 hl3 ⟨by omega, by omega⟩ hl5 hl6 hl7 hl8 hj0 h
def PX5_link_0 (J : Nat → List Int → gS → (Int → gS → Prop) → Prop) (o : Int) (a1 : Int) (G : gS) (Q : Int → gS → Prop) : Prop :=
  (isO W0 5 (o) ∧ PX5_load o a1 G (fun r3 G2 => inI r3 → ((r3 = 0 → ((0 : Int) ≤ a1 ∧ ((a1 : Int) < 64 ∧ (inI (G2 (o + 1) a1) → ((G2 (o + 1) a1 = 1 → ((0 : Int) ≤ 0 ∧ ((0 : Int) < 66 ∧ (∀ G12 : gS, G12 = uG G2 (o + 7) 0 (a1) → ((0 : Int) ≤ 0 ∧ ((0 : Int) < 66 ∧ (∀ G15 : gS, G15 = uG G12 (o + 8) 0 (0) → PX5_link_38 J o a1 1 r3 G15 Q))))))) ∧ (¬ (G2 (o + 1) a1 = 1) → PX5_link_38 J o a1 0 r3 G2 Q)))))) ∧ (¬ (r3 = 0) → PX5_link_38 J o a1 0 r3 G2 Q))))
set_option maxRecDepth 20000 in
theorem TX5_link_0 {j : Nat → rx_K} {J : Nat → List Int → gS → (Int → gS → Prop) → Prop} {o : Int} {a1 : Int} {G : gS} {Q : Int → gS → Prop} (ha1 : inI a1) (hj0 : ∀ (o : Int) (l1 : Int) (l2 : Int) (l3 : Int) (l4 : Int) (l5 : Nat) (l6 : Nat) (l7 : Nat) (l8 : Nat) (G : gS), (inI l1) → (inI l2) → (inI l3) → (inI l4) → (l5 % 8 ≠ 1) → (l6 % 8 ≠ 1) → (l7 % 8 ≠ 1) → (l8 % 8 ≠ 1) → J 0 [o, l1, l2, l3, l4] G Q → Tg W0 (j 0) [rf (o), cI (l1), cI (l2), cI (l3), cI (l4), l5, l6, l7, l8] [] G (fun r G => ∃ v, r = cI v ∧ inI v ∧ Q v G)) (h : PX5_link_0 J o a1 G Q) : Tg W0 (vX5_link_0 j) [rf (o), cI (a1), 7, 7, 7, 7, 7, 7, 7] [] G (fun r G => ∃ v, r = cI v ∧ inI v ∧ Q v G) := by
  unfold PX5_link_0 at h
  unfold vX5_link_0
  refine g_const (v := cI (0)) rfl ?_
  refine g_st (lv' := [_, _, _, _, _, _, _, _, _]) (is_I _) (Nat.le_of_ble_eq_true rfl) (Or.inr (n1_I _)) rfl ?_
  refine g_ld (v := rf _) rfl (is_R _) ?_
  refine g_ld (v := cI _) rfl (is_I _) ?_
  obtain ⟨q1, h⟩ := h
  refine g_callV (As := [_]) (ci := 5) q1 (fun _ => rfl) ?_
  refine g_go1 (Nat.le_of_ble_eq_true rfl) (Tn_w (TX5_load ha1 h) fun _ G2 ⟨r3, e, i4, h⟩ => ?_)
  subst e
  refine ⟨n7_I _, ?_⟩
  replace h := h i4
  refine g_st (lv' := [_, _, _, _, _, _, _, _, _]) (is_I _) (Nat.le_of_ble_eq_true rfl) (Or.inr (n1_I _)) rfl ?_
  refine g_ld (v := cI _) rfl (is_I _) ?_
  refine g_eq1 i4 (fun b5 => ?_) (fun b5 => ?_)
  · replace h := h.1 b5
    unfold vX5_link_12
    refine g_ld (v := rf _) rfl (is_R _) ?_
    refine g_getF q1 (ff5_1 q1).1 rfl (Nat.le_of_ble_eq_true rfl) (Nat.le_of_ble_eq_true rfl) ?_
    refine g_ld (v := cI _) rfl (is_I _) ?_
    obtain ⟨q6, q7, h⟩ := h
    refine g_aldI (ff5_1 q1).2 q6 q7 rfl fun i8 => ?_
    replace h := h i8
    refine g_const (v := cI (1)) rfl ?_
    refine g_eq2 i8 ⟨by omega, by omega⟩ (fun b9 => ?_) (fun b9 => ?_)
    · replace h := h.1 b9
      unfold vX5_link_22
      refine g_ld (v := rf _) rfl (is_R _) ?_
      refine g_getF q1 (ff5_9 q1).1 rfl (Nat.le_of_ble_eq_true rfl) (Nat.le_of_ble_eq_true rfl) ?_
      refine g_const (v := cI (0)) rfl ?_
      refine g_ld (v := cI _) rfl (is_I _) ?_
      obtain ⟨q10, q11, h⟩ := h
      refine g_astI (ff5_9 q1).2 q10 q11 ha1 (nfI (ff5_9 q1).2) ?_
      replace h := h _ rfl
      refine g_ld (v := rf _) rfl (is_R _) ?_
      refine g_getF q1 (ff5_10 q1).1 rfl (Nat.le_of_ble_eq_true rfl) (Nat.le_of_ble_eq_true rfl) ?_
      refine g_const (v := cI (0)) rfl ?_
      refine g_const (v := cI (0)) rfl ?_
      obtain ⟨q13, q14, h⟩ := h
      refine g_astI (ff5_10 q1).2 q13 q14 ⟨by omega, by omega⟩ (nfI (ff5_10 q1).2) ?_
      replace h := h _ rfl
      refine g_const (v := cI (1)) rfl ?_
      refine g_st (lv' := [_, _, _, _, _, _, _, _, _]) (is_I _) (Nat.le_of_ble_eq_true rfl) (Or.inr (n1_I _)) rfl ?_
      exact TX5_link_38 ha1 ⟨by omega, by omega⟩ i4 (show 7 % 8 ≠ 1 by decide) (show 7 % 8 ≠ 1 by decide) (show 7 % 8 ≠ 1 by decide) (show 7 % 8 ≠ 1 by decide) (show 7 % 8 ≠ 1 by decide) hj0 h
    · replace h := h.2 b9
      exact TX5_link_38 ha1 ⟨by omega, by omega⟩ i4 (show 7 % 8 ≠ 1 by decide) (show 7 % 8 ≠ 1 by decide) (show 7 % 8 ≠ 1 by decide) (show 7 % 8 ≠ 1 by decide) (show 7 % 8 ≠ 1 by decide) hj0 h
  · replace h := h.2 b5
    exact TX5_link_38 ha1 ⟨by omega, by omega⟩ i4 (show 7 % 8 ≠ 1 by decide) (show 7 % 8 ≠ 1 by decide) (show 7 % 8 ≠ 1 by decide) (show 7 % 8 ≠ 1 by decide) (show 7 % 8 ≠ 1 by decide) hj0 h
def PX5_link_J : Nat → Nat → List Int → gS → (Int → gS → Prop) → Prop
  | 0, _, _, _, _ => False
  | f + 1, h, L, G, Q => match h, L with
    | 0, [o, l1, l2, l3, l4] => PX5_link_41 (PX5_link_J f) o l1 l2 l3 l4 G Q
    | _, _ => False
theorem TX5_link_J {Q : Int → gS → Prop} : ∀ f N : Nat, f ≤ N → (∀ (o : Int) (l1 : Int) (l2 : Int) (l3 : Int) (l4 : Int) (l5 : Nat) (l6 : Nat) (l7 : Nat) (l8 : Nat) (G : gS), (inI l1) → (inI l2) → (inI l3) → (inI l4) → (l5 % 8 ≠ 1) → (l6 % 8 ≠ 1) → (l7 % 8 ≠ 1) → (l8 % 8 ≠ 1) → (PX5_link_J f) 0 [o, l1, l2, l3, l4] G Q → Tg W0 (rx_J vhX5_link N 0) [rf (o), cI (l1), cI (l2), cI (l3), cI (l4), l5, l6, l7, l8] [] G (fun r G => ∃ v, r = cI v ∧ inI v ∧ Q v G)) := by
  intro f
  induction f with
  | zero => exact fun N _ => fun _ _ _ _ _ _ _ _ _ _ _ _ _ _ _ _ _ _ h => h.elim
  | succ f ih =>
    intro N hN
    obtain ⟨M, rfl⟩ : ∃ M, N = M + 1 := ⟨N - 1, by omega⟩
    have ih := ih M (by omega)
    exact fun _ _ _ _ _ _ _ _ _ _ hl1 hl2 hl3 hl4 hl5 hl6 hl7 hl8 h => show Tg W0 (vX5_link_41 (rx_J vhX5_link M)) _ _ _ _ from TX5_link_41 hl1 hl2 hl3 hl4 hl5 hl6 hl7 hl8 ih h
def PX5_link (o : Int) (a1 : Int) (G : gS) (Q : Int → gS → Prop) : Prop := ∃ f : Nat, f ≤ 4000000000 ∧ PX5_link_0 (PX5_link_J f) o a1 G Q
theorem TX5_link {o : Int} {a1 : Int} {G : gS} {Q : Int → gS → Prop} (ha1 : inI a1) (h : PX5_link o a1 G Q) : Tn W0 FX5_link [rf (o), cI (a1)] G (fun r G => ∃ v, r = cI v ∧ inI v ∧ Q v G) := by
  obtain ⟨f, hf, h⟩ := h
  have hJ := TX5_link_J (Q := Q) f 4000000000 hf
  unfold FX5_link
  refine g_ent (lv' := [rf (o), cI (a1), 7, 7, 7, 7, 7, 7, 7]) (flR (flI fl0)) (Nat.le_of_ble_eq_true rfl) rfl ?_
  exact TX5_link_0 ha1 hJ h
def PX5_askCopy_72 (o : Int) (l1 : Int) (l3 : Int) (l4 : Int) (l6 : Int) (l7 : Int) (s0 : Int) (G : gS) (Q : Int → gS → Prop) : Prop :=
  Q (s0) G
set_option maxRecDepth 20000 in
theorem TX5_askCopy_72 {o : Int} {l1 : Int} {l2 : Nat} {l3 : Int} {l4 : Int} {l5 : Nat} {l6 : Int} {l7 : Int} {s0 : Int} {G : gS} {Q : Int → gS → Prop} (hl1 : inL l1) (hl2 : l2 % 8 ≠ 1) (hl4 : inL l4) (hl5 : l5 % 8 ≠ 1) (hl6 : inI l6) (hs0 : inI s0) (h : PX5_askCopy_72 o l1 l3 l4 l6 l7 s0 G Q) : Tg W0 vX5_askCopy_72 [rf (o), cL (l1), l2, rf (l3), cL (l4), l5, cI (l6), rf (l7)] [cI (s0)] G (fun r G => ∃ v, r = cI v ∧ inI v ∧ Q v G) := by
  unfold PX5_askCopy_72 at h
  unfold vX5_askCopy_72
  exact g_ret1 (is_I _) ⟨_, rfl, hs0, h⟩
def PX5_askCopy_70 (o : Int) (l1 : Int) (l3 : Int) (l4 : Int) (l6 : Int) (l7 : Int) (G : gS) (Q : Int → gS → Prop) : Prop :=
  PX5_askCopy_72 o l1 l3 l4 l6 l7 17 G Q
set_option maxRecDepth 20000 in
theorem TX5_askCopy_70 {o : Int} {l1 : Int} {l2 : Nat} {l3 : Int} {l4 : Int} {l5 : Nat} {l6 : Int} {l7 : Int} {G : gS} {Q : Int → gS → Prop} (hl1 : inL l1) (hl2 : l2 % 8 ≠ 1) (hl4 : inL l4) (hl5 : l5 % 8 ≠ 1) (hl6 : inI l6) (h : PX5_askCopy_70 o l1 l3 l4 l6 l7 G Q) : Tg W0 vX5_askCopy_70 [rf (o), cL (l1), l2, rf (l3), cL (l4), l5, cI (l6), rf (l7)] [] G (fun r G => ∃ v, r = cI v ∧ inI v ∧ Q v G) := by
  unfold PX5_askCopy_70 at h
  unfold vX5_askCopy_70
  refine g_const (v := cI (17)) rfl ?_
  exact TX5_askCopy_72 hl1 hl2 hl4 hl5 hl6 ⟨by omega, by omega⟩ h
def PX5_askCopy_39 (o : Int) (l1 : Int) (l3 : Int) (l4 : Int) (l6 : Int) (s0 : Int) (G : gS) (Q : Int → gS → Prop) : Prop :=
  ((s0 < 0 → PX5_askCopy_70 o l1 l3 l4 l6 s0 G Q) ∧ (0 ≤ s0 → (isO W0 7 (s0) ∧ ((0 ≤ G s0 15 ∧ G s0 15 ≤ 1) → ((G s0 15 = 0 → PX5_askCopy_70 o l1 l3 l4 l6 s0 G Q) ∧ (¬ (G s0 15 = 0) → (inI (G s0 16) → ((G s0 16 = l4 → PX5_askCopy_72 o l1 l3 l4 l6 s0 0 G Q) ∧ (¬ (G s0 16 = l4) → PX5_askCopy_70 o l1 l3 l4 l6 s0 G Q)))))))))
set_option maxRecDepth 20000 in
theorem TX5_askCopy_39 {o : Int} {l1 : Int} {l2 : Nat} {l3 : Int} {l4 : Int} {l5 : Nat} {l6 : Int} {l7 : Nat} {s0 : Int} {G : gS} {Q : Int → gS → Prop} (hl1 : inL l1) (hl2 : l2 % 8 ≠ 1) (hl4 : inL l4) (hl5 : l5 % 8 ≠ 1) (hl6 : inI l6) (hl7 : l7 % 8 ≠ 1) (h : PX5_askCopy_39 o l1 l3 l4 l6 s0 G Q) : Tg W0 vX5_askCopy_39 [rf (o), cL (l1), l2, rf (l3), cL (l4), l5, cI (l6), l7] [rf (s0)] G (fun r G => ∃ v, r = cI v ∧ inI v ∧ Q v G) := by
  unfold PX5_askCopy_39 at h
  unfold vX5_askCopy_39
  refine g_st (lv' := [_, _, _, _, _, _, _, _]) (is_R _) (Nat.le_of_ble_eq_true rfl) (Or.inr (n1_I _)) rfl ?_
  refine g_ld (v := rf _) rfl (is_R _) ?_
  refine g_nul (fun b16 => ?_) (fun b16 => ?_)
  · replace h := h.1 b16
    exact TX5_askCopy_70 hl1 hl2 hl4 hl5 hl6 h
  · replace h := h.2 b16
    unfold vX5_askCopy_46
    refine g_ld (v := rf _) rfl (is_R _) ?_
    obtain ⟨q17, h⟩ := h
    refine g_getZ (kz := 15) q17 rfl (Nat.le_of_ble_eq_true rfl) rfl fun i18 => ?_
    replace h := h i18
    refine g_eq1 ⟨by omega, by omega⟩ (fun b19 => ?_) (fun b19 => ?_)
    · replace h := h.1 b19
      exact TX5_askCopy_70 hl1 hl2 hl4 hl5 hl6 h
    · replace h := h.2 b19
      unfold vX5_askCopy_54
      refine g_ld (v := rf _) rfl (is_R _) ?_
      refine g_getI (kz := 16) q17 rfl (Nat.le_of_ble_eq_true rfl) rfl fun i20 => ?_
      replace h := h i20
      refine g_i2l i20 ?_
      refine g_ld (v := cL _) rfl (is_L _) ?_
      refine g_leq (inL_I i20) hl4 (fun b21 => ?_) (fun b21 => ?_)
      · replace h := h.1 b21
        unfold vX5_askCopy_66
        refine g_const (v := cI (0)) rfl ?_
        exact TX5_askCopy_72 hl1 hl2 hl4 hl5 hl6 ⟨by omega, by omega⟩ h
      · replace h := h.2 b21
        exact TX5_askCopy_70 hl1 hl2 hl4 hl5 hl6 h
def PX5_askCopy_19 (o : Int) (l1 : Int) (l3 : Int) (l4 : Int) (l6 : Int) (G : gS) (Q : Int → gS → Prop) : Prop :=
  PX5_askCopy_39 o l1 l3 l4 l6 (-1) G Q
set_option maxRecDepth 20000 in
theorem TX5_askCopy_19 {o : Int} {l1 : Int} {l2 : Nat} {l3 : Int} {l4 : Int} {l5 : Nat} {l6 : Int} {l7 : Nat} {G : gS} {Q : Int → gS → Prop} (hl1 : inL l1) (hl2 : l2 % 8 ≠ 1) (hl4 : inL l4) (hl5 : l5 % 8 ≠ 1) (hl6 : inI l6) (hl7 : l7 % 8 ≠ 1) (h : PX5_askCopy_19 o l1 l3 l4 l6 G Q) : Tg W0 vX5_askCopy_19 [rf (o), cL (l1), l2, rf (l3), cL (l4), l5, cI (l6), l7] [] G (fun r G => ∃ v, r = cI v ∧ inI v ∧ Q v G) := by
  unfold PX5_askCopy_19 at h
  unfold vX5_askCopy_19
  refine g_const (v := rf (-1)) rfl ?_
  exact TX5_askCopy_39 hl1 hl2 hl4 hl5 hl6 hl7 h
def PX5_askCopy_0 (o : Int) (a1 : Int) (a3 : Int) (a4 : Int) (G : gS) (Q : Int → gS → Prop) : Prop :=
  (isO W0 5 (o) ∧ ((G o 0 = -1 ∨ isO W0 11 (G o 0)) → (isO W0 11 (G o 0) ∧ PX11_find (G o 0) a1 G (fun r5 G4 => inI r5 → ((r5 < 0 → PX5_askCopy_19 o a1 a3 a4 r5 G4 Q) ∧ (¬ (r5 < 0) → ((a3 < 0 → PX5_askCopy_19 o a1 a3 a4 r5 G4 Q) ∧ (0 ≤ a3 → ((G4 o 0 = -1 ∨ isO W0 11 (G4 o 0)) → (isO W0 7 (a3) ∧ (inL (G4 a3 7) → (isO W0 11 (G4 o 0) ∧ PX11_fieldIn (G4 o 0) r5 (G4 a3 7) (-1) G4 (fun r14 G13 => PX5_askCopy_39 o a1 a3 a4 r5 r14 G13 Q)))))))))))))
set_option maxRecDepth 20000 in
theorem TX5_askCopy_0 {o : Int} {a1 : Int} {a3 : Int} {a4 : Int} {G : gS} {Q : Int → gS → Prop} (ha1 : inL a1) (ha4 : inL a4) (h : PX5_askCopy_0 o a1 a3 a4 G Q) : Tg W0 vX5_askCopy_0 [rf (o), cL (a1), 7, rf (a3), cL (a4), 7, 7, 7] [] G (fun r G => ∃ v, r = cI v ∧ inI v ∧ Q v G) := by
  unfold PX5_askCopy_0 at h
  unfold vX5_askCopy_0
  refine g_ld (v := rf _) rfl (is_R _) ?_
  obtain ⟨q1, h⟩ := h
  refine g_getR (kz := 0) (c := 11) q1 rfl (Nat.le_of_ble_eq_true rfl) rfl (by decide) fun i2 => ?_
  replace h := h i2
  refine g_ld (v := cL _) rfl (is_L _) ?_
  obtain ⟨q3, h⟩ := h
  refine g_callV (As := [_]) (ci := 11) q3 (fun _ => rfl) ?_
  refine g_go1 (Nat.le_of_ble_eq_true rfl) (Tn_w (TX11_find ha1 h) fun _ G4 ⟨r5, e, i6, h⟩ => ?_)
  subst e
  refine ⟨n7_I _, ?_⟩
  replace h := h i6
  refine g_st (lv' := [_, _, _, _, _, _, _, _]) (is_I _) (Nat.le_of_ble_eq_true rfl) (Or.inr (show 7 % 8 ≠ 1 by decide)) rfl ?_
  refine g_ld (v := cI _) rfl (is_I _) ?_
  refine g_lt1 i6 (fun b7 => ?_) (fun b7 => ?_)
  · replace h := h.1 b7
    exact TX5_askCopy_19 ha1 (show 7 % 8 ≠ 1 by decide) ha4 (show 7 % 8 ≠ 1 by decide) i6 (show 7 % 8 ≠ 1 by decide) h
  · replace h := h.2 b7
    unfold vX5_askCopy_15
    refine g_ld (v := rf _) rfl (is_R _) ?_
    refine g_nul (fun b8 => ?_) (fun b8 => ?_)
    · replace h := h.1 b8
      exact TX5_askCopy_19 ha1 (show 7 % 8 ≠ 1 by decide) ha4 (show 7 % 8 ≠ 1 by decide) i6 (show 7 % 8 ≠ 1 by decide) h
    · replace h := h.2 b8
      unfold vX5_askCopy_23
      refine g_ld (v := rf _) rfl (is_R _) ?_
      refine g_getR (kz := 0) (c := 11) q1 rfl (Nat.le_of_ble_eq_true rfl) rfl (by decide) fun i9 => ?_
      replace h := h i9
      refine g_ld (v := cI _) rfl (is_I _) ?_
      refine g_ld (v := rf _) rfl (is_R _) ?_
      obtain ⟨q10, h⟩ := h
      refine g_getL (kz := 7) q10 rfl (Nat.le_of_ble_eq_true rfl) rfl fun i11 => ?_
      replace h := h i11
      refine g_const (v := cL (-1)) rfl ?_
      obtain ⟨q12, h⟩ := h
      refine g_callV (As := [_, _, _]) (ci := 11) q12 (fun _ => rfl) ?_
      refine g_go1 (Nat.le_of_ble_eq_true rfl) (Tn_w (TX11_fieldIn i6 i11 ⟨by omega, by omega⟩ h) fun _ G13 ⟨r14, e, h⟩ => ?_)
      subst e
      refine ⟨n7_R _, ?_⟩
      exact TX5_askCopy_39 ha1 (show 7 % 8 ≠ 1 by decide) ha4 (show 7 % 8 ≠ 1 by decide) i6 (show 7 % 8 ≠ 1 by decide) h
abbrev PX5_askCopy (o : Int) (a1 : Int) (a3 : Int) (a4 : Int) (G : gS) (Q : Int → gS → Prop) : Prop := PX5_askCopy_0 o a1 a3 a4 G Q
theorem TX5_askCopy {o : Int} {a1 : Int} {a3 : Int} {a4 : Int} {G : gS} {Q : Int → gS → Prop} (ha1 : inL a1) (ha4 : inL a4) (h : PX5_askCopy o a1 a3 a4 G Q) : Tn W0 FX5_askCopy [rf (o), cL (a1), rf (a3), cL (a4)] G (fun r G => ∃ v, r = cI v ∧ inI v ∧ Q v G) := by
  unfold FX5_askCopy
  refine g_ent (lv' := [rf (o), cL (a1), 7, rf (a3), cL (a4), 7, 7, 7]) (flR (flL (flR (flL fl0)))) (Nat.le_of_ble_eq_true rfl) rfl ?_
  exact TX5_askCopy_0 ha1 ha4 h
def PX5_isLet_128 (o : Int) (l1 : Int) (l2 : Int) (l3 : Int) (l4 : Int) (l5 : Int) (l6 : Int) (s0 : Int) (G : gS) (Q : Int → gS → Prop) : Prop :=
  ((0 ≤ s0 ∧ s0 ≤ 1) ∧ Q (s0) G)
set_option maxRecDepth 20000 in
theorem TX5_isLet_128 {o : Int} {l1 : Int} {l2 : Int} {l3 : Int} {l4 : Int} {l5 : Int} {l6 : Int} {s0 : Int} {G : gS} {Q : Int → gS → Prop} (hl2 : inI l2) (hl3 : inI l3) (hl4 : inI l4) (hl5 : inI l5) (hl6 : inI l6) (hs0 : inI s0) (h : PX5_isLet_128 o l1 l2 l3 l4 l5 l6 s0 G Q) : Tg W0 vX5_isLet_128 [rf (o), rf (l1), cI (l2), cI (l3), cI (l4), cI (l5), cI (l6)] [cI (s0)] G (fun r G => ∃ v, r = cI v ∧ (0 ≤ v ∧ v ≤ 1) ∧ Q v G) := by
  unfold PX5_isLet_128 at h
  unfold vX5_isLet_128
  obtain ⟨q54, h⟩ := h
  exact g_ret1 (is_Z q54) ⟨_, rfl, q54, h⟩
def PX5_isLet_114 (o : Int) (l1 : Int) (l2 : Int) (l3 : Int) (l4 : Int) (l5 : Int) (s0 : Int) (G : gS) (Q : Int → gS → Prop) : Prop :=
  ((l5 = s0 → PX5_isLet_128 o l1 l2 l3 l4 l5 s0 1 G Q) ∧ (¬ (l5 = s0) → PX5_isLet_128 o l1 l2 l3 l4 l5 s0 0 G Q))
set_option maxRecDepth 20000 in
theorem TX5_isLet_114 {o : Int} {l1 : Int} {l2 : Int} {l3 : Int} {l4 : Int} {l5 : Int} {l6 : Nat} {s0 : Int} {G : gS} {Q : Int → gS → Prop} (hl2 : inI l2) (hl3 : inI l3) (hl4 : inI l4) (hl5 : inI l5) (hl6 : l6 % 8 ≠ 1) (hs0 : inI s0) (h : PX5_isLet_114 o l1 l2 l3 l4 l5 s0 G Q) : Tg W0 vX5_isLet_114 [rf (o), rf (l1), cI (l2), cI (l3), cI (l4), cI (l5), l6] [cI (s0)] G (fun r G => ∃ v, r = cI v ∧ (0 ≤ v ∧ v ≤ 1) ∧ Q v G) := by
  unfold PX5_isLet_114 at h
  unfold vX5_isLet_114
  refine g_st (lv' := [_, _, _, _, _, _, _]) (is_I _) (Nat.le_of_ble_eq_true rfl) (Or.inr (n1_I _)) rfl ?_
  refine g_ld (v := cI _) rfl (is_I _) ?_
  refine g_ld (v := cI _) rfl (is_I _) ?_
  refine g_eq2 hl5 hs0 (fun b53 => ?_) (fun b53 => ?_)
  · replace h := h.1 b53
    unfold vX5_isLet_123
    refine g_const (v := cI (1)) rfl ?_
    exact TX5_isLet_128 hl2 hl3 hl4 hl5 hs0 ⟨by omega, by omega⟩ h
  · replace h := h.2 b53
    unfold vX5_isLet_127
    refine g_const (v := cI (0)) rfl ?_
    exact TX5_isLet_128 hl2 hl3 hl4 hl5 hs0 ⟨by omega, by omega⟩ h
def PX5_isLet_113 (o : Int) (l1 : Int) (l2 : Int) (l3 : Int) (l4 : Int) (l5 : Int) (G : gS) (Q : Int → gS → Prop) : Prop :=
  PX5_isLet_114 o l1 l2 l3 l4 l5 l2 G Q
set_option maxRecDepth 20000 in
theorem TX5_isLet_113 {o : Int} {l1 : Int} {l2 : Int} {l3 : Int} {l4 : Int} {l5 : Int} {l6 : Nat} {G : gS} {Q : Int → gS → Prop} (hl2 : inI l2) (hl3 : inI l3) (hl4 : inI l4) (hl5 : inI l5) (hl6 : l6 % 8 ≠ 1) (h : PX5_isLet_113 o l1 l2 l3 l4 l5 G Q) : Tg W0 vX5_isLet_113 [rf (o), rf (l1), cI (l2), cI (l3), cI (l4), cI (l5), l6] [] G (fun r G => ∃ v, r = cI v ∧ (0 ≤ v ∧ v ≤ 1) ∧ Q v G) := by
  unfold PX5_isLet_113 at h
  unfold vX5_isLet_113
  refine g_ld (v := cI _) rfl (is_I _) ?_
  exact TX5_isLet_114 hl2 hl3 hl4 hl5 hl6 hl2 h
def PX5_isLet_71 (o : Int) (l1 : Int) (l2 : Int) (l3 : Int) (l4 : Int) (s0 : Int) (G : gS) (Q : Int → gS → Prop) : Prop :=
  (isO W0 5 (o) ∧ ((G o 0 = -1 ∨ isO W0 11 (G o 0)) → (isO W0 11 (G o 0) ∧ ((0 : Int) ≤ l2 ∧ ((l2 : Int) < 64 ∧ (inI (G ((G o 0) + 6) l2) → ((G ((G o 0) + 6) l2 < 0 → PX5_isLet_113 o l1 l2 l3 l4 s0 G Q) ∧ (¬ (G ((G o 0) + 6) l2 < 0) → ((G o 0 = -1 ∨ isO W0 11 (G o 0)) → (isO W0 11 (G o 0) ∧ ((0 : Int) ≤ l2 ∧ ((l2 : Int) < 64 ∧ (inI (G ((G o 0) + 6) l2) → PX5_load o (G ((G o 0) + 6) l2) G (fun r45 G44 => inI r45 → ((r45 = 0 → ((G44 o 0 = -1 ∨ isO W0 11 (G44 o 0)) → (isO W0 11 (G44 o 0) ∧ ((0 : Int) ≤ l2 ∧ ((l2 : Int) < 64 ∧ (inI (G44 ((G44 o 0) + 7) l2) → PX5_isLet_114 o l1 l2 l3 l4 s0 (G44 ((G44 o 0) + 7) l2) G44 Q)))))) ∧ (¬ (r45 = 0) → PX5_isLet_113 o l1 l2 l3 l4 s0 G44 Q))))))))))))))))
set_option maxRecDepth 20000 in
theorem TX5_isLet_71 {o : Int} {l1 : Int} {l2 : Int} {l3 : Int} {l4 : Int} {l5 : Nat} {l6 : Nat} {s0 : Int} {G : gS} {Q : Int → gS → Prop} (hl2 : inI l2) (hl3 : inI l3) (hl4 : inI l4) (hl5 : l5 % 8 ≠ 1) (hl6 : l6 % 8 ≠ 1) (hs0 : inI s0) (h : PX5_isLet_71 o l1 l2 l3 l4 s0 G Q) : Tg W0 vX5_isLet_71 [rf (o), rf (l1), cI (l2), cI (l3), cI (l4), l5, l6] [cI (s0)] G (fun r G => ∃ v, r = cI v ∧ (0 ≤ v ∧ v ≤ 1) ∧ Q v G) := by
  unfold PX5_isLet_71 at h
  unfold vX5_isLet_71
  refine g_st (lv' := [_, _, _, _, _, _, _]) (is_I _) (Nat.le_of_ble_eq_true rfl) (Or.inr (n1_I _)) rfl ?_
  refine g_ld (v := rf _) rfl (is_R _) ?_
  obtain ⟨q32, h⟩ := h
  refine g_getR (kz := 0) (c := 11) q32 rfl (Nat.le_of_ble_eq_true rfl) rfl (by decide) fun i33 => ?_
  replace h := h i33
  obtain ⟨q34, h⟩ := h
  refine g_getF q34 (ff11_7 q34).1 rfl (Nat.le_of_ble_eq_true rfl) (Nat.le_of_ble_eq_true rfl) ?_
  refine g_ld (v := cI _) rfl (is_I _) ?_
  obtain ⟨q35, q36, h⟩ := h
  refine g_aldI (ff11_7 q34).2 q35 q36 rfl fun i37 => ?_
  replace h := h i37
  refine g_lt1 i37 (fun b38 => ?_) (fun b38 => ?_)
  · replace h := h.1 b38
    exact TX5_isLet_113 hl2 hl3 hl4 hs0 hl6 h
  · replace h := h.2 b38
    unfold vX5_isLet_85
    refine g_ld (v := rf _) rfl (is_R _) ?_
    refine g_ld (v := rf _) rfl (is_R _) ?_
    refine g_getR (kz := 0) (c := 11) q32 rfl (Nat.le_of_ble_eq_true rfl) rfl (by decide) fun i39 => ?_
    replace h := h i39
    obtain ⟨q40, h⟩ := h
    refine g_getF q40 (ff11_7 q40).1 rfl (Nat.le_of_ble_eq_true rfl) (Nat.le_of_ble_eq_true rfl) ?_
    refine g_ld (v := cI _) rfl (is_I _) ?_
    obtain ⟨q41, q42, h⟩ := h
    refine g_aldI (ff11_7 q40).2 q41 q42 rfl fun i43 => ?_
    replace h := h i43
    refine g_callV (As := [_]) (ci := 5) q32 (fun _ => rfl) ?_
    refine g_go1 (Nat.le_of_ble_eq_true rfl) (Tn_w (TX5_load i43 h) fun _ G44 ⟨r45, e, i46, h⟩ => ?_)
    subst e
    refine ⟨n7_I _, ?_⟩
    replace h := h i46
    refine g_eq1 i46 (fun b47 => ?_) (fun b47 => ?_)
    · replace h := h.1 b47
      unfold vX5_isLet_101
      refine g_ld (v := rf _) rfl (is_R _) ?_
      refine g_getR (kz := 0) (c := 11) q32 rfl (Nat.le_of_ble_eq_true rfl) rfl (by decide) fun i48 => ?_
      replace h := h i48
      obtain ⟨q49, h⟩ := h
      refine g_getF q49 (ff11_8 q49).1 rfl (Nat.le_of_ble_eq_true rfl) (Nat.le_of_ble_eq_true rfl) ?_
      refine g_ld (v := cI _) rfl (is_I _) ?_
      obtain ⟨q50, q51, h⟩ := h
      refine g_aldI (ff11_8 q49).2 q50 q51 rfl fun i52 => ?_
      replace h := h i52
      exact TX5_isLet_114 hl2 hl3 hl4 hs0 hl6 i52 h
    · replace h := h.2 b47
      exact TX5_isLet_113 hl2 hl3 hl4 hs0 hl6 h
def PX5_isLet_69 (o : Int) (l1 : Int) (l2 : Int) (l3 : Int) (l4 : Int) (G : gS) (Q : Int → gS → Prop) : Prop :=
  PX5_isLet_71 o l1 l2 l3 l4 l4 G Q
set_option maxRecDepth 20000 in
theorem TX5_isLet_69 {o : Int} {l1 : Int} {l2 : Int} {l3 : Int} {l4 : Int} {l5 : Nat} {l6 : Nat} {G : gS} {Q : Int → gS → Prop} (hl2 : inI l2) (hl3 : inI l3) (hl4 : inI l4) (hl5 : l5 % 8 ≠ 1) (hl6 : l6 % 8 ≠ 1) (h : PX5_isLet_69 o l1 l2 l3 l4 G Q) : Tg W0 vX5_isLet_69 [rf (o), rf (l1), cI (l2), cI (l3), cI (l4), l5, l6] [] G (fun r G => ∃ v, r = cI v ∧ (0 ≤ v ∧ v ≤ 1) ∧ Q v G) := by
  unfold PX5_isLet_69 at h
  unfold vX5_isLet_69
  refine g_ld (v := cI _) rfl (is_I _) ?_
  exact TX5_isLet_71 hl2 hl3 hl4 hl5 hl6 hl4 h
def PX5_isLet_13 (o : Int) (l1 : Int) (l2 : Int) (l3 : Int) (l4 : Int) (G : gS) (Q : Int → gS → Prop) : Prop :=
  (isO W0 5 (o) ∧ ((G o 0 = -1 ∨ isO W0 11 (G o 0)) → (isO W0 11 (G o 0) ∧ PX11_isLet_ (G o 0) l1 l2 l3 l4 G (fun r30 G29 => (0 ≤ r30 ∧ r30 ≤ 1) → Q (r30) G29))))
set_option maxRecDepth 20000 in
theorem TX5_isLet_13 {o : Int} {l1 : Int} {l2 : Int} {l3 : Int} {l4 : Int} {l5 : Nat} {l6 : Nat} {G : gS} {Q : Int → gS → Prop} (hl2 : inI l2) (hl3 : inI l3) (hl4 : inI l4) (hl5 : l5 % 8 ≠ 1) (hl6 : l6 % 8 ≠ 1) (h : PX5_isLet_13 o l1 l2 l3 l4 G Q) : Tg W0 vX5_isLet_13 [rf (o), rf (l1), cI (l2), cI (l3), cI (l4), l5, l6] [] G (fun r G => ∃ v, r = cI v ∧ (0 ≤ v ∧ v ≤ 1) ∧ Q v G) := by
  unfold PX5_isLet_13 at h
  unfold vX5_isLet_13
  refine g_ld (v := rf _) rfl (is_R _) ?_
  obtain ⟨q26, h⟩ := h
  refine g_getR (kz := 0) (c := 11) q26 rfl (Nat.le_of_ble_eq_true rfl) rfl (by decide) fun i27 => ?_
  replace h := h i27
  refine g_ld (v := rf _) rfl (is_R _) ?_
  refine g_ld (v := cI _) rfl (is_I _) ?_
  refine g_ld (v := cI _) rfl (is_I _) ?_
  refine g_ld (v := cI _) rfl (is_I _) ?_
  obtain ⟨q28, h⟩ := h
  refine g_callV (As := [_, _, _, _]) (ci := 11) q28 (fun _ => rfl) ?_
  refine g_go1 (Nat.le_of_ble_eq_true rfl) (Tn_w (TX11_isLet_ hl2 hl3 hl4 h) fun _ G29 ⟨r30, e, i31, h⟩ => ?_)
  subst e
  refine ⟨n7_I _, ?_⟩
  replace h := h i31
  exact g_ret1 (is_Z i31) ⟨_, rfl, i31, h⟩
def PX5_isLet_0 (o : Int) (a1 : Int) (a2 : Int) (a3 : Int) (a4 : Int) (G : gS) (Q : Int → gS → Prop) : Prop :=
  (isO W0 7 (a1) ∧ (inI (G a1 1) → ((G a1 1 = 0 → ((a4 = a2 → PX5_isLet_13 o a1 a2 a3 a4 G Q) ∧ (¬ (a4 = a2) → (isO W0 5 (o) ∧ ((G o 0 = -1 ∨ isO W0 11 (G o 0)) → (isO W0 11 (G o 0) ∧ ((0 : Int) ≤ a4 ∧ ((a4 : Int) < 64 ∧ (inI (G ((G o 0) + 6) a4) → ((G ((G o 0) + 6) a4 < 0 → PX5_isLet_69 o a1 a2 a3 a4 G Q) ∧ (¬ (G ((G o 0) + 6) a4 < 0) → ((G o 0 = -1 ∨ isO W0 11 (G o 0)) → (isO W0 11 (G o 0) ∧ ((0 : Int) ≤ a4 ∧ ((a4 : Int) < 64 ∧ (inI (G ((G o 0) + 6) a4) → PX5_load o (G ((G o 0) + 6) a4) G (fun r18 G17 => inI r18 → ((r18 = 0 → ((G17 o 0 = -1 ∨ isO W0 11 (G17 o 0)) → (isO W0 11 (G17 o 0) ∧ ((0 : Int) ≤ a4 ∧ ((a4 : Int) < 64 ∧ (inI (G17 ((G17 o 0) + 7) a4) → PX5_isLet_71 o a1 a2 a3 a4 (G17 ((G17 o 0) + 7) a4) G17 Q)))))) ∧ (¬ (r18 = 0) → PX5_isLet_69 o a1 a2 a3 a4 G17 Q))))))))))))))))))) ∧ (¬ (G a1 1 = 0) → PX5_isLet_13 o a1 a2 a3 a4 G Q))))
set_option maxRecDepth 20000 in
theorem TX5_isLet_0 {o : Int} {a1 : Int} {a2 : Int} {a3 : Int} {a4 : Int} {G : gS} {Q : Int → gS → Prop} (ha2 : inI a2) (ha3 : inI a3) (ha4 : inI a4) (h : PX5_isLet_0 o a1 a2 a3 a4 G Q) : Tg W0 vX5_isLet_0 [rf (o), rf (a1), cI (a2), cI (a3), cI (a4), 7, 7] [] G (fun r G => ∃ v, r = cI v ∧ (0 ≤ v ∧ v ≤ 1) ∧ Q v G) := by
  unfold PX5_isLet_0 at h
  unfold vX5_isLet_0
  refine g_ld (v := rf _) rfl (is_R _) ?_
  obtain ⟨q1, h⟩ := h
  refine g_getI (kz := 1) q1 rfl (Nat.le_of_ble_eq_true rfl) rfl fun i2 => ?_
  replace h := h i2
  refine g_eq1 i2 (fun b3 => ?_) (fun b3 => ?_)
  · replace h := h.1 b3
    unfold vX5_isLet_7
    refine g_ld (v := cI _) rfl (is_I _) ?_
    refine g_ld (v := cI _) rfl (is_I _) ?_
    refine g_eq2 ha4 ha2 (fun b4 => ?_) (fun b4 => ?_)
    · replace h := h.1 b4
      exact TX5_isLet_13 ha2 ha3 ha4 (show 7 % 8 ≠ 1 by decide) (show 7 % 8 ≠ 1 by decide) h
    · replace h := h.2 b4
      unfold vX5_isLet_26
      refine g_ld (v := rf _) rfl (is_R _) ?_
      obtain ⟨q5, h⟩ := h
      refine g_getR (kz := 0) (c := 11) q5 rfl (Nat.le_of_ble_eq_true rfl) rfl (by decide) fun i6 => ?_
      replace h := h i6
      obtain ⟨q7, h⟩ := h
      refine g_getF q7 (ff11_7 q7).1 rfl (Nat.le_of_ble_eq_true rfl) (Nat.le_of_ble_eq_true rfl) ?_
      refine g_ld (v := cI _) rfl (is_I _) ?_
      obtain ⟨q8, q9, h⟩ := h
      refine g_aldI (ff11_7 q7).2 q8 q9 rfl fun i10 => ?_
      replace h := h i10
      refine g_lt1 i10 (fun b11 => ?_) (fun b11 => ?_)
      · replace h := h.1 b11
        exact TX5_isLet_69 ha2 ha3 ha4 (show 7 % 8 ≠ 1 by decide) (show 7 % 8 ≠ 1 by decide) h
      · replace h := h.2 b11
        unfold vX5_isLet_39
        refine g_ld (v := rf _) rfl (is_R _) ?_
        refine g_ld (v := rf _) rfl (is_R _) ?_
        refine g_getR (kz := 0) (c := 11) q5 rfl (Nat.le_of_ble_eq_true rfl) rfl (by decide) fun i12 => ?_
        replace h := h i12
        obtain ⟨q13, h⟩ := h
        refine g_getF q13 (ff11_7 q13).1 rfl (Nat.le_of_ble_eq_true rfl) (Nat.le_of_ble_eq_true rfl) ?_
        refine g_ld (v := cI _) rfl (is_I _) ?_
        obtain ⟨q14, q15, h⟩ := h
        refine g_aldI (ff11_7 q13).2 q14 q15 rfl fun i16 => ?_
        replace h := h i16
        refine g_callV (As := [_]) (ci := 5) q5 (fun _ => rfl) ?_
        refine g_go1 (Nat.le_of_ble_eq_true rfl) (Tn_w (TX5_load i16 h) fun _ G17 ⟨r18, e, i19, h⟩ => ?_)
        subst e
        refine ⟨n7_I _, ?_⟩
        replace h := h i19
        refine g_eq1 i19 (fun b20 => ?_) (fun b20 => ?_)
        · replace h := h.1 b20
          unfold vX5_isLet_56
          refine g_ld (v := rf _) rfl (is_R _) ?_
          refine g_getR (kz := 0) (c := 11) q5 rfl (Nat.le_of_ble_eq_true rfl) rfl (by decide) fun i21 => ?_
          replace h := h i21
          obtain ⟨q22, h⟩ := h
          refine g_getF q22 (ff11_8 q22).1 rfl (Nat.le_of_ble_eq_true rfl) (Nat.le_of_ble_eq_true rfl) ?_
          refine g_ld (v := cI _) rfl (is_I _) ?_
          obtain ⟨q23, q24, h⟩ := h
          refine g_aldI (ff11_8 q22).2 q23 q24 rfl fun i25 => ?_
          replace h := h i25
          exact TX5_isLet_71 ha2 ha3 ha4 (show 7 % 8 ≠ 1 by decide) (show 7 % 8 ≠ 1 by decide) i25 h
        · replace h := h.2 b20
          exact TX5_isLet_69 ha2 ha3 ha4 (show 7 % 8 ≠ 1 by decide) (show 7 % 8 ≠ 1 by decide) h
  · replace h := h.2 b3
    exact TX5_isLet_13 ha2 ha3 ha4 (show 7 % 8 ≠ 1 by decide) (show 7 % 8 ≠ 1 by decide) h
abbrev PX5_isLet (o : Int) (a1 : Int) (a2 : Int) (a3 : Int) (a4 : Int) (G : gS) (Q : Int → gS → Prop) : Prop := PX5_isLet_0 o a1 a2 a3 a4 G Q
theorem TX5_isLet {o : Int} {a1 : Int} {a2 : Int} {a3 : Int} {a4 : Int} {G : gS} {Q : Int → gS → Prop} (ha2 : inI a2) (ha3 : inI a3) (ha4 : inI a4) (h : PX5_isLet o a1 a2 a3 a4 G Q) : Tn W0 FX5_isLet [rf (o), rf (a1), cI (a2), cI (a3), cI (a4)] G (fun r G => ∃ v, r = cI v ∧ (0 ≤ v ∧ v ≤ 1) ∧ Q v G) := by
  unfold FX5_isLet
  refine g_ent (lv' := [rf (o), rf (a1), cI (a2), cI (a3), cI (a4), 7, 7]) (flR (flR (flI (flI (flI fl0))))) (Nat.le_of_ble_eq_true rfl) rfl ?_
  exact TX5_isLet_0 ha2 ha3 ha4 h
end DE

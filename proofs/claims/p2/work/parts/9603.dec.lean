section DE
def PX10_has_3 (J : Nat → List Int → gS → (Int → gS → Prop) → Prop) (o : Int) (l1 : Int) (l2 : Int) (l4 : Int) (G : gS) (Q : Int → gS → Prop) : Prop :=
  (isO W0 10 (o) ∧ ((0 : Int) ≤ l1 ∧ ((l1 : Int) < 3 ∧ (inI (G (o + 2) l1) → ((l4 < G (o + 2) l1 → ((0 : Int) ≤ (l1 * 8) + l4 ∧ (((l1 * 8) + l4 : Int) < 24 ∧ (inL (G (o + 1) ((l1 * 8) + l4)) → ((G (o + 1) ((l1 * 8) + l4) = l2 → Q (1) G) ∧ (¬ (G (o + 1) ((l1 * 8) + l4) = l2) → (inI (l4 + 1) ∧ J 0 [o, l1, l2, l4 + 1] G Q))))))) ∧ (¬ (l4 < G (o + 2) l1) → Q (0) G))))))
set_option maxRecDepth 20000 in
theorem TX10_has_3 {j : Nat → rx_K} {J : Nat → List Int → gS → (Int → gS → Prop) → Prop} {o : Int} {l1 : Int} {l2 : Int} {l3 : Nat} {l4 : Int} {G : gS} {Q : Int → gS → Prop} (hl1 : inI l1) (hl2 : inL l2) (hl3 : l3 % 8 ≠ 1) (hl4 : inI l4) (hj0 : ∀ (o : Int) (l1 : Int) (l2 : Int) (l3 : Nat) (l4 : Int) (G : gS), (inI l1) → (inL l2) → (l3 % 8 ≠ 1) → (inI l4) → J 0 [o, l1, l2, l4] G Q → Tg W0 (j 0) [rf (o), cI (l1), cL (l2), l3, cI (l4)] [] G (fun r G => ∃ v, r = cI v ∧ (0 ≤ v ∧ v ≤ 1) ∧ Q v G)) (h : PX10_has_3 J o l1 l2 l4 G Q) : Tg W0 (vX10_has_3 j) [rf (o), cI (l1), cL (l2), l3, cI (l4)] [] G (fun r G => ∃ v, r = cI v ∧ (0 ≤ v ∧ v ≤ 1) ∧ Q v G) := by
  unfold PX10_has_3 at h
  unfold vX10_has_3
  refine g_ld (v := cI _) rfl (is_I _) ?_
  refine g_ld (v := rf _) rfl (is_R _) ?_
  obtain ⟨q1, h⟩ := h
  refine g_getF q1 (ff10_11 q1).1 rfl (Nat.le_of_ble_eq_true rfl) (Nat.le_of_ble_eq_true rfl) ?_
  refine g_ld (v := cI _) rfl (is_I _) ?_
  obtain ⟨q2, q3, h⟩ := h
  refine g_aldI (ff10_11 q1).2 q2 q3 rfl fun i4 => ?_
  replace h := h i4
  refine g_lt2 hl4 i4 (fun b5 => ?_) (fun b5 => ?_)
  · replace h := h.1 b5
    unfold vX10_has_14
    refine g_ld (v := rf _) rfl (is_R _) ?_
    refine g_getF q1 (ff10_10 q1).1 rfl (Nat.le_of_ble_eq_true rfl) (Nat.le_of_ble_eq_true rfl) ?_
    refine g_ld (v := cI _) rfl (is_I _) ?_
    refine g_const (v := cI (8)) rfl ?_
    refine g_mul ?_
    refine g_ld (v := cI _) rfl (is_I _) ?_
    refine g_add ?_
    obtain ⟨q6, q7, h⟩ := h
    refine g_aldL (ff10_10 q1).2 q6 q7 rfl fun i8 => ?_
    replace h := h i8
    refine g_ld (v := cL _) rfl (is_L _) ?_
    refine g_leq i8 hl2 (fun b9 => ?_) (fun b9 => ?_)
    · replace h := h.1 b9
      unfold vX10_has_31
      refine g_const (v := cI (1)) rfl ?_
      exact g_ret1 (is_Z (by omega)) ⟨_, rfl, (by omega), h⟩
    · replace h := h.2 b9
      unfold vX10_has_33
      refine g_inc (lv' := [_, _, _, _, _]) rfl (Nat.le_of_ble_eq_true rfl) (Or.inr hl3) rfl ?_
      obtain ⟨q10, h⟩ := h
      exact hj0 _ _ _ _ _ _ hl1 hl2 hl3 q10 h
  · replace h := h.2 b5
    unfold vX10_has_39
    refine g_const (v := cI (0)) rfl ?_
    exact g_ret1 (is_Z (by omega)) ⟨_, rfl, (by omega), h⟩
def PX10_has_0 (J : Nat → List Int → gS → (Int → gS → Prop) → Prop) (o : Int) (a1 : Int) (a2 : Int) (G : gS) (Q : Int → gS → Prop) : Prop :=
  PX10_has_3 J o a1 a2 0 G Q
set_option maxRecDepth 20000 in
theorem TX10_has_0 {j : Nat → rx_K} {J : Nat → List Int → gS → (Int → gS → Prop) → Prop} {o : Int} {a1 : Int} {a2 : Int} {G : gS} {Q : Int → gS → Prop} (ha1 : inI a1) (ha2 : inL a2) (hj0 : ∀ (o : Int) (l1 : Int) (l2 : Int) (l3 : Nat) (l4 : Int) (G : gS), (inI l1) → (inL l2) → (l3 % 8 ≠ 1) → (inI l4) → J 0 [o, l1, l2, l4] G Q → Tg W0 (j 0) [rf (o), cI (l1), cL (l2), l3, cI (l4)] [] G (fun r G => ∃ v, r = cI v ∧ (0 ≤ v ∧ v ≤ 1) ∧ Q v G)) (h : PX10_has_0 J o a1 a2 G Q) : Tg W0 (vX10_has_0 j) [rf (o), cI (a1), cL (a2), 7, 7] [] G (fun r G => ∃ v, r = cI v ∧ (0 ≤ v ∧ v ≤ 1) ∧ Q v G) := by
  unfold PX10_has_0 at h
  unfold vX10_has_0
  refine g_const (v := cI (0)) rfl ?_
  refine g_st (lv' := [_, _, _, _, _]) (is_I _) (Nat.le_of_ble_eq_true rfl) (Or.inr (show 7 % 8 ≠ 1 by decide)) rfl ?_
  exact TX10_has_3 ha1 ha2 (show 7 % 8 ≠ 1 by decide) ⟨by omega, by omega⟩ hj0 h
def PX10_has_J : Nat → Nat → List Int → gS → (Int → gS → Prop) → Prop
  | 0, _, _, _, _ => False
  | f + 1, h, L, G, Q => match h, L with
    | 0, [o, l1, l2, l4] => PX10_has_3 (PX10_has_J f) o l1 l2 l4 G Q
    | _, _ => False
theorem TX10_has_J {Q : Int → gS → Prop} : ∀ f N : Nat, f ≤ N → (∀ (o : Int) (l1 : Int) (l2 : Int) (l3 : Nat) (l4 : Int) (G : gS), (inI l1) → (inL l2) → (l3 % 8 ≠ 1) → (inI l4) → (PX10_has_J f) 0 [o, l1, l2, l4] G Q → Tg W0 (rx_J vhX10_has N 0) [rf (o), cI (l1), cL (l2), l3, cI (l4)] [] G (fun r G => ∃ v, r = cI v ∧ (0 ≤ v ∧ v ≤ 1) ∧ Q v G)) := by
  intro f
  induction f with
  | zero => exact fun N _ => fun _ _ _ _ _ _ _ _ _ _ h => h.elim
  | succ f ih =>
    intro N hN
    obtain ⟨M, rfl⟩ : ∃ M, N = M + 1 := ⟨N - 1, by omega⟩
    have ih := ih M (by omega)
    exact fun _ _ _ _ _ _ hl1 hl2 hl3 hl4 h => show Tg W0 (vX10_has_3 (rx_J vhX10_has M)) _ _ _ _ from TX10_has_3 hl1 hl2 hl3 hl4 ih h
def PX10_has (o : Int) (a1 : Int) (a2 : Int) (G : gS) (Q : Int → gS → Prop) : Prop := ∃ f : Nat, f ≤ 4000000000 ∧ PX10_has_0 (PX10_has_J f) o a1 a2 G Q
theorem TX10_has {o : Int} {a1 : Int} {a2 : Int} {G : gS} {Q : Int → gS → Prop} (ha1 : inI a1) (ha2 : inL a2) (h : PX10_has o a1 a2 G Q) : Tn W0 FX10_has [rf (o), cI (a1), cL (a2)] G (fun r G => ∃ v, r = cI v ∧ (0 ≤ v ∧ v ≤ 1) ∧ Q v G) := by
  obtain ⟨f, hf, h⟩ := h
  have hJ := TX10_has_J (Q := Q) f 4000000000 hf
  unfold FX10_has
  refine g_ent (lv' := [rf (o), cI (a1), cL (a2), 7, 7]) (flR (flI (flL fl0))) (Nat.le_of_ble_eq_true rfl) rfl ?_
  exact TX10_has_0 ha1 ha2 hJ h
def PX0_local_90 (l1 : Int) (l3 : Int) (l5 : Int) (s0 : Int) (s1 : Int) (G : gS) (Q : Int → gS → Prop) : Prop :=
  (inI (s0 + s1) ∧ Q (s0 + s1) G)
set_option maxRecDepth 20000 in
theorem TX0_local_90 {l1 : Int} {l2 : Nat} {l3 : Int} {l4 : Nat} {l5 : Int} {s0 : Int} {s1 : Int} {G : gS} {Q : Int → gS → Prop} (hl1 : inL l1) (hl2 : l2 % 8 ≠ 1) (hl3 : inL l3) (hl4 : l4 % 8 ≠ 1) (hl5 : inI l5) (hs0 : inI s0) (hs1 : inI s1) (h : PX0_local_90 l1 l3 l5 s0 s1 G Q) : Tg W0 vX0_local_90 [rf (815), cL (l1), l2, cL (l3), l4, cI (l5)] [cI (s1), cI (s0)] G (fun r G => ∃ v, r = cI v ∧ inI v ∧ Q v G) := by
  unfold PX0_local_90 at h
  unfold vX0_local_90
  refine g_add ?_
  obtain ⟨q29, h⟩ := h
  exact g_ret1 (is_I _) ⟨_, rfl, q29, h⟩
def PX0_local_57 (l1 : Int) (l3 : Int) (l5 : Int) (G : gS) (Q : Int → gS → Prop) : Prop :=
  (inI (G 815 12) → (inI (G 815 11) → (∀ G23 : gS, G23 = uG G 815 12 ((if G 815 12 < G 815 11 then G 815 11 else G 815 12)) → (inI (G23 815 11) → ((0 ≤ G23 815 8 ∧ G23 815 8 ≤ 1) → ((G23 815 8 = 0 → (inI ((G23 815 11) - 1) ∧ PX0_local_90 l1 l3 l5 ((G23 815 11) - 1) 1 G23 Q)) ∧ (¬ (G23 815 8 = 0) → (inI ((G23 815 11) - 1) ∧ PX0_local_90 l1 l3 l5 ((G23 815 11) - 1) 0 G23 Q))))))))
set_option maxRecDepth 20000 in
theorem TX0_local_57 {l1 : Int} {l2 : Nat} {l3 : Int} {l4 : Nat} {l5 : Int} {G : gS} {Q : Int → gS → Prop} (hl1 : inL l1) (hl2 : l2 % 8 ≠ 1) (hl3 : inL l3) (hl4 : l4 % 8 ≠ 1) (hl5 : inI l5) (h : PX0_local_57 l1 l3 l5 G Q) : Tg W0 vX0_local_57 [rf (815), cL (l1), l2, cL (l3), l4, cI (l5)] [] G (fun r G => ∃ v, r = cI v ∧ inI v ∧ Q v G) := by
  unfold PX0_local_57 at h
  unfold vX0_local_57
  refine g_ld (v := rf _) rfl (is_R _) ?_
  refine g_ld (v := rf _) rfl (is_R _) ?_
  refine g_getI (kz := 12) oC0 rfl (Nat.le_of_ble_eq_true rfl) rfl fun i21 => ?_
  replace h := h i21
  refine g_ld (v := rf _) rfl (is_R _) ?_
  refine g_getI (kz := 11) oC0 rfl (Nat.le_of_ble_eq_true rfl) rfl fun i22 => ?_
  replace h := h i22
  refine g_max i21 i22 (by simp only [cs_c, cs_0, ct_I, ct_L, ct_R]; exact Nat.le_of_ble_eq_true rfl) ?_
  refine g_putI (kz := 12) oC0 rfl (Nat.le_of_ble_eq_true rfl) rfl (inI_max i21 i22) (zfin_no (c := 815) (j := 12) rfl) ?_
  replace h := h _ rfl
  refine g_ld (v := rf _) rfl (is_R _) ?_
  refine g_getI (kz := 11) oC0 rfl (Nat.le_of_ble_eq_true rfl) rfl fun i24 => ?_
  replace h := h i24
  refine g_const (v := cI (1)) rfl ?_
  refine g_sub ?_
  refine g_ld (v := rf _) rfl (is_R _) ?_
  refine g_getZ (kz := 8) oC0 rfl (Nat.le_of_ble_eq_true rfl) rfl fun i25 => ?_
  replace h := h i25
  refine g_eq1 ⟨by omega, by omega⟩ (fun b26 => ?_) (fun b26 => ?_)
  · replace h := h.1 b26
    unfold vX0_local_89
    refine g_const (v := cI (1)) rfl ?_
    obtain ⟨q27, h⟩ := h
    exact TX0_local_90 hl1 hl2 hl3 hl4 hl5 q27 ⟨by omega, by omega⟩ h
  · replace h := h.2 b26
    unfold vX0_local_85
    refine g_const (v := cI (0)) rfl ?_
    obtain ⟨q28, h⟩ := h
    exact TX0_local_90 hl1 hl2 hl3 hl4 hl5 q28 ⟨by omega, by omega⟩ h
def PX0_local_17 (l1 : Int) (l3 : Int) (l5 : Int) (G : gS) (Q : Int → gS → Prop) : Prop :=
  (inI (G 815 11) → ((G 815 11 < 700 → (inI (G 815 11) → ((0 : Int) ≤ G 815 11 ∧ ((G 815 11 : Int) < 700 ∧ (∀ G13 : gS, G13 = uG G 816 (G 815 11) (l3) → (inI (G13 815 11) → ((0 : Int) ≤ G13 815 11 ∧ ((G13 815 11 : Int) < 700 ∧ (∀ G17 : gS, G17 = uG G13 817 (G13 815 11) (l1) → (inI (G17 815 11) → (inI ((G17 815 11) + 1) ∧ (∀ G20 : gS, G20 = uG G17 815 11 ((G17 815 11) + 1) → PX0_local_57 l1 l3 l5 G20 Q)))))))))))) ∧ (¬ (G 815 11 < 700) → PX0_local_57 l1 l3 l5 G Q)))
set_option maxRecDepth 20000 in
theorem TX0_local_17 {l1 : Int} {l2 : Nat} {l3 : Int} {l4 : Nat} {l5 : Int} {G : gS} {Q : Int → gS → Prop} (hl1 : inL l1) (hl2 : l2 % 8 ≠ 1) (hl3 : inL l3) (hl4 : l4 % 8 ≠ 1) (hl5 : inI l5) (h : PX0_local_17 l1 l3 l5 G Q) : Tg W0 vX0_local_17 [rf (815), cL (l1), l2, cL (l3), l4, cI (l5)] [] G (fun r G => ∃ v, r = cI v ∧ inI v ∧ Q v G) := by
  unfold PX0_local_17 at h
  unfold vX0_local_17
  refine g_ld (v := rf _) rfl (is_R _) ?_
  refine g_getI (kz := 11) oC0 rfl (Nat.le_of_ble_eq_true rfl) rfl fun i8 => ?_
  replace h := h i8
  refine g_const (v := cI (700)) rfl ?_
  refine g_lt2 i8 ⟨by omega, by omega⟩ (fun b9 => ?_) (fun b9 => ?_)
  · replace h := h.1 b9
    unfold vX0_local_27
    refine g_ld (v := rf _) rfl (is_R _) ?_
    refine g_getF (v := 816) oC0 (hC0_9) rfl (Nat.le_of_ble_eq_true rfl) (Nat.le_of_ble_eq_true rfl) ?_
    refine g_ld (v := rf _) rfl (is_R _) ?_
    refine g_getI (kz := 11) oC0 rfl (Nat.le_of_ble_eq_true rfl) rfl fun i10 => ?_
    replace h := h i10
    refine g_ld (v := cL _) rfl (is_L _) ?_
    obtain ⟨q11, q12, h⟩ := h
    refine g_astL aC816 q11 q12 hl3 (nfL aC816) ?_
    replace h := h _ rfl
    refine g_ld (v := rf _) rfl (is_R _) ?_
    refine g_getF (v := 817) oC0 (hC0_10) rfl (Nat.le_of_ble_eq_true rfl) (Nat.le_of_ble_eq_true rfl) ?_
    refine g_ld (v := rf _) rfl (is_R _) ?_
    refine g_getI (kz := 11) oC0 rfl (Nat.le_of_ble_eq_true rfl) rfl fun i14 => ?_
    replace h := h i14
    refine g_ld (v := cL _) rfl (is_L _) ?_
    obtain ⟨q15, q16, h⟩ := h
    refine g_astL aC817 q15 q16 hl1 (nfL aC817) ?_
    replace h := h _ rfl
    refine g_ld (v := rf _) rfl (is_R _) ?_
    refine g_dup (ct_R _) ?_
    refine g_getI (kz := 11) oC0 rfl (Nat.le_of_ble_eq_true rfl) rfl fun i18 => ?_
    replace h := h i18
    refine g_const (v := cI (1)) rfl ?_
    refine g_add ?_
    obtain ⟨q19, h⟩ := h
    refine g_putI (kz := 11) oC0 rfl (Nat.le_of_ble_eq_true rfl) rfl q19 (zfin_no (c := 815) (j := 11) rfl) ?_
    replace h := h _ rfl
    exact TX0_local_57 hl1 hl2 hl3 hl4 hl5 h
  · replace h := h.2 b9
    exact TX0_local_57 hl1 hl2 hl3 hl4 hl5 h
def PX0_local_0 (a1 : Int) (a3 : Int) (a5 : Int) (G : gS) (Q : Int → gS → Prop) : Prop :=
  PX0_localOf a3 G (fun r2 G1 => inI r2 → ((r2 < 0 → PX0_local_17 a1 a3 a5 G1 Q) ∧ (¬ (r2 < 0) → PX0_fail 16 a5 G1 (fun r6 G5 => (0 ≤ r6 ∧ r6 ≤ 1) → PX0_local_17 a1 a3 a5 G5 Q))))
set_option maxRecDepth 20000 in
theorem TX0_local_0 {a1 : Int} {a3 : Int} {a5 : Int} {G : gS} {Q : Int → gS → Prop} (ha1 : inL a1) (ha3 : inL a3) (ha5 : inI a5) (h : PX0_local_0 a1 a3 a5 G Q) : Tg W0 vX0_local_0 [rf (815), cL (a1), 7, cL (a3), 7, cI (a5)] [] G (fun r G => ∃ v, r = cI v ∧ inI v ∧ Q v G) := by
  unfold PX0_local_0 at h
  unfold vX0_local_0
  refine g_ld (v := rf _) rfl (is_R _) ?_
  refine g_ld (v := cL _) rfl (is_L _) ?_
  refine g_callV (As := [_]) (ci := 0) oC0 (fun _ => rfl) ?_
  refine g_go1 (Nat.le_of_ble_eq_true rfl) (Tn_w (TX0_localOf ha3 h) fun _ G1 ⟨r2, e, i3, h⟩ => ?_)
  subst e
  refine ⟨n7_I _, ?_⟩
  replace h := h i3
  refine g_lt1 i3 (fun b4 => ?_) (fun b4 => ?_)
  · replace h := h.1 b4
    exact TX0_local_17 ha1 (show 7 % 8 ≠ 1 by decide) ha3 (show 7 % 8 ≠ 1 by decide) ha5 h
  · replace h := h.2 b4
    unfold vX0_local_8
    refine g_ld (v := rf _) rfl (is_R _) ?_
    refine g_const (v := cI (16)) rfl ?_
    refine g_ld (v := cI _) rfl (is_I _) ?_
    refine g_callV (As := [_, _]) (ci := 0) oC0 (fun _ => rfl) ?_
    refine g_go1 (Nat.le_of_ble_eq_true rfl) (Tn_w (TX0_fail ⟨by omega, by omega⟩ ha5 h) fun _ G5 ⟨r6, e, i7, h⟩ => ?_)
    subst e
    refine ⟨n7_I _, ?_⟩
    replace h := h i7
    refine g_pop (ct_I _) ?_
    exact TX0_local_17 ha1 (show 7 % 8 ≠ 1 by decide) ha3 (show 7 % 8 ≠ 1 by decide) ha5 h
abbrev PX0_local (a1 : Int) (a3 : Int) (a5 : Int) (G : gS) (Q : Int → gS → Prop) : Prop := PX0_local_0 a1 a3 a5 G Q
theorem TX0_local {a1 : Int} {a3 : Int} {a5 : Int} {G : gS} {Q : Int → gS → Prop} (ha1 : inL a1) (ha3 : inL a3) (ha5 : inI a5) (h : PX0_local a1 a3 a5 G Q) : Tn W0 FX0_local [rf (815), cL (a1), cL (a3), cI (a5)] G (fun r G => ∃ v, r = cI v ∧ inI v ∧ Q v G) := by
  unfold FX0_local
  refine g_ent (lv' := [rf (815), cL (a1), 7, cL (a3), 7, cI (a5)]) (flR (flL (flL (flI fl0)))) (Nat.le_of_ble_eq_true rfl) rfl ?_
  exact TX0_local_0 ha1 ha3 ha5 h
def PX0_isCall_101 (J : Nat → List Int → gS → (Int → gS → Prop) → Prop) (l0 : Int) (s0 : Int) (G : gS) (Q : Int → gS → Prop) : Prop :=
  ((0 ≤ s0 ∧ s0 ≤ 1) ∧ Q (s0) G)
set_option maxRecDepth 20000 in
theorem TX0_isCall_101 {j : Nat → rx_K} {J : Nat → List Int → gS → (Int → gS → Prop) → Prop} {l0 : Int} {l1 : Nat} {l2 : Nat} {s0 : Int} {G : gS} {Q : Int → gS → Prop} (hl1 : l1 % 8 ≠ 1) (hl2 : l2 % 8 ≠ 1) (hs0 : inI s0) (hj0 : ∀ (l0 : Int) (l1 : Int) (l2 : Int) (G : gS), J 0 [l0, l1, l2] G Q → Tg W0 (j 0) [rf (l0), rf (l1), rf (l2)] [] G (fun r G => ∃ v, r = cI v ∧ (0 ≤ v ∧ v ≤ 1) ∧ Q v G)) (h : PX0_isCall_101 J l0 s0 G Q) : Tg W0 (vX0_isCall_101 j) [rf (l0), l1, l2] [cI (s0)] G (fun r G => ∃ v, r = cI v ∧ (0 ≤ v ∧ v ≤ 1) ∧ Q v G) := by
  unfold PX0_isCall_101 at h
  unfold vX0_isCall_101
  obtain ⟨q23, h⟩ := h
  exact g_ret1 (is_Z q23) ⟨_, rfl, q23, h⟩
def PX0_isCall_96 (J : Nat → List Int → gS → (Int → gS → Prop) → Prop) (l0 : Int) (G : gS) (Q : Int → gS → Prop) : Prop :=
  PX0_isCall_101 J l0 1 G Q
set_option maxRecDepth 20000 in
theorem TX0_isCall_96 {j : Nat → rx_K} {J : Nat → List Int → gS → (Int → gS → Prop) → Prop} {l0 : Int} {l1 : Nat} {l2 : Nat} {G : gS} {Q : Int → gS → Prop} (hl1 : l1 % 8 ≠ 1) (hl2 : l2 % 8 ≠ 1) (hj0 : ∀ (l0 : Int) (l1 : Int) (l2 : Int) (G : gS), J 0 [l0, l1, l2] G Q → Tg W0 (j 0) [rf (l0), rf (l1), rf (l2)] [] G (fun r G => ∃ v, r = cI v ∧ (0 ≤ v ∧ v ≤ 1) ∧ Q v G)) (h : PX0_isCall_96 J l0 G Q) : Tg W0 (vX0_isCall_96 j) [rf (l0), l1, l2] [] G (fun r G => ∃ v, r = cI v ∧ (0 ≤ v ∧ v ≤ 1) ∧ Q v G) := by
  unfold PX0_isCall_96 at h
  unfold vX0_isCall_96
  refine g_const (v := cI (1)) rfl ?_
  exact TX0_isCall_101 hl1 hl2 ⟨by omega, by omega⟩ hj0 h
def PX0_isCall_51 (J : Nat → List Int → gS → (Int → gS → Prop) → Prop) (l0 : Int) (l1 : Int) (l2 : Int) (s0 : Int) (G : gS) (Q : Int → gS → Prop) : Prop :=
  ((0 ≤ s0 ∧ s0 ≤ 1) ∧ Q (s0) G)
set_option maxRecDepth 20000 in
theorem TX0_isCall_51 {j : Nat → rx_K} {J : Nat → List Int → gS → (Int → gS → Prop) → Prop} {l0 : Int} {l1 : Int} {l2 : Int} {s0 : Int} {G : gS} {Q : Int → gS → Prop} (hs0 : inI s0) (hj0 : ∀ (l0 : Int) (l1 : Int) (l2 : Int) (G : gS), J 0 [l0, l1, l2] G Q → Tg W0 (j 0) [rf (l0), rf (l1), rf (l2)] [] G (fun r G => ∃ v, r = cI v ∧ (0 ≤ v ∧ v ≤ 1) ∧ Q v G)) (h : PX0_isCall_51 J l0 l1 l2 s0 G Q) : Tg W0 (vX0_isCall_51 j) [rf (l0), rf (l1), rf (l2)] [cI (s0)] G (fun r G => ∃ v, r = cI v ∧ (0 ≤ v ∧ v ≤ 1) ∧ Q v G) := by
  unfold PX0_isCall_51 at h
  unfold vX0_isCall_51
  obtain ⟨q24, h⟩ := h
  exact g_ret1 (is_Z q24) ⟨_, rfl, q24, h⟩
def PX0_isCall_50 (J : Nat → List Int → gS → (Int → gS → Prop) → Prop) (l0 : Int) (l1 : Int) (l2 : Int) (G : gS) (Q : Int → gS → Prop) : Prop :=
  PX0_isCall_51 J l0 l1 l2 0 G Q
set_option maxRecDepth 20000 in
theorem TX0_isCall_50 {j : Nat → rx_K} {J : Nat → List Int → gS → (Int → gS → Prop) → Prop} {l0 : Int} {l1 : Int} {l2 : Int} {G : gS} {Q : Int → gS → Prop}  (hj0 : ∀ (l0 : Int) (l1 : Int) (l2 : Int) (G : gS), J 0 [l0, l1, l2] G Q → Tg W0 (j 0) [rf (l0), rf (l1), rf (l2)] [] G (fun r G => ∃ v, r = cI v ∧ (0 ≤ v ∧ v ≤ 1) ∧ Q v G)) (h : PX0_isCall_50 J l0 l1 l2 G Q) : Tg W0 (vX0_isCall_50 j) [rf (l0), rf (l1), rf (l2)] [] G (fun r G => ∃ v, r = cI v ∧ (0 ≤ v ∧ v ≤ 1) ∧ Q v G) := by
  unfold PX0_isCall_50 at h
  unfold vX0_isCall_50
  refine g_const (v := cI (0)) rfl ?_
  exact TX0_isCall_51 ⟨by omega, by omega⟩ hj0 h
def PX0_isCall_19 (J : Nat → List Int → gS → (Int → gS → Prop) → Prop) (l0 : Int) (l1 : Int) (l2 : Int) (G : gS) (Q : Int → gS → Prop) : Prop :=
  ((l2 < 0 → ((l1 < 0 → PX0_isCall_50 J l0 l1 l2 G Q) ∧ (0 ≤ l1 → (isO W0 8 (l1) ∧ (inI (G l1 0) → ((G l1 0 = 15 → PX0_isCall_51 J l0 l1 l2 1 G Q) ∧ (¬ (G l1 0 = 15) → PX0_isCall_50 J l0 l1 l2 G Q))))))) ∧ (0 ≤ l2 → (isO W0 8 (l2) ∧ ((G l2 8 = -1 ∨ isO W0 8 (G l2 8)) → J 0 [l0, l2, G l2 8] G Q))))
set_option maxRecDepth 20000 in
theorem TX0_isCall_19 {j : Nat → rx_K} {J : Nat → List Int → gS → (Int → gS → Prop) → Prop} {l0 : Int} {l1 : Int} {l2 : Int} {G : gS} {Q : Int → gS → Prop}  (hj0 : ∀ (l0 : Int) (l1 : Int) (l2 : Int) (G : gS), J 0 [l0, l1, l2] G Q → Tg W0 (j 0) [rf (l0), rf (l1), rf (l2)] [] G (fun r G => ∃ v, r = cI v ∧ (0 ≤ v ∧ v ≤ 1) ∧ Q v G)) (h : PX0_isCall_19 J l0 l1 l2 G Q) : Tg W0 (vX0_isCall_19 j) [rf (l0), rf (l1), rf (l2)] [] G (fun r G => ∃ v, r = cI v ∧ (0 ≤ v ∧ v ≤ 1) ∧ Q v G) := by
  unfold PX0_isCall_19 at h
  unfold vX0_isCall_19
  refine g_ld (v := rf _) rfl (is_R _) ?_
  refine g_nul (fun b16 => ?_) (fun b16 => ?_)
  · replace h := h.1 b16
    unfold vX0_isCall_33
    refine g_ld (v := rf _) rfl (is_R _) ?_
    refine g_nul (fun b17 => ?_) (fun b17 => ?_)
    · replace h := h.1 b17
      exact TX0_isCall_50  hj0 h
    · replace h := h.2 b17
      unfold vX0_isCall_37
      refine g_ld (v := rf _) rfl (is_R _) ?_
      obtain ⟨q18, h⟩ := h
      refine g_getI (kz := 0) q18 rfl (Nat.le_of_ble_eq_true rfl) rfl fun i19 => ?_
      replace h := h i19
      refine g_const (v := cI (15)) rfl ?_
      refine g_eq2 i19 ⟨by omega, by omega⟩ (fun b20 => ?_) (fun b20 => ?_)
      · replace h := h.1 b20
        unfold vX0_isCall_46
        refine g_const (v := cI (1)) rfl ?_
        exact TX0_isCall_51 ⟨by omega, by omega⟩ hj0 h
      · replace h := h.2 b20
        exact TX0_isCall_50  hj0 h
  · replace h := h.2 b16
    unfold vX0_isCall_23
    refine g_ld (v := rf _) rfl (is_R _) ?_
    refine g_st (lv' := [_, _, _]) (is_R _) (Nat.le_of_ble_eq_true rfl) (Or.inr (n1_R _)) rfl ?_
    refine g_ld (v := rf _) rfl (is_R _) ?_
    obtain ⟨q21, h⟩ := h
    refine g_getR (kz := 8) (c := 8) q21 rfl (Nat.le_of_ble_eq_true rfl) rfl (by decide) fun i22 => ?_
    replace h := h i22
    refine g_st (lv' := [_, _, _]) (is_R _) (Nat.le_of_ble_eq_true rfl) (Or.inr (n1_R _)) rfl ?_
    exact hj0 _ _ _ _  h
def PX0_isCall_0 (J : Nat → List Int → gS → (Int → gS → Prop) → Prop) (a0 : Int) (G : gS) (Q : Int → gS → Prop) : Prop :=
  (isO W0 8 (a0) ∧ (inI (G a0 0) → ((G a0 0 = 13 → ((G a0 6 = -1 ∨ isO W0 8 (G a0 6)) → ((G a0 6 = -1 ∨ isO W0 8 (G a0 6)) → PX0_isCall_19 J a0 (G a0 6) (G a0 6) G Q))) ∧ (¬ (G a0 0 = 13) → (inI (G a0 0) → ((G a0 0 = 5 → PX0_isCall_96 J a0 G Q) ∧ (¬ (G a0 0 = 5) → (inI (G a0 0) → ((G a0 0 = 7 → PX0_isCall_96 J a0 G Q) ∧ (¬ (G a0 0 = 7) → (inI (G a0 0) → ((G a0 0 = 8 → PX0_isCall_96 J a0 G Q) ∧ (¬ (G a0 0 = 8) → (inI (G a0 0) → ((G a0 0 = 9 → PX0_isCall_96 J a0 G Q) ∧ (¬ (G a0 0 = 9) → (inI (G a0 0) → ((G a0 0 = 10 → PX0_isCall_96 J a0 G Q) ∧ (¬ (G a0 0 = 10) → PX0_isCall_101 J a0 0 G Q)))))))))))))))))))
set_option maxRecDepth 20000 in
theorem TX0_isCall_0 {j : Nat → rx_K} {J : Nat → List Int → gS → (Int → gS → Prop) → Prop} {a0 : Int} {G : gS} {Q : Int → gS → Prop}  (hj0 : ∀ (l0 : Int) (l1 : Int) (l2 : Int) (G : gS), J 0 [l0, l1, l2] G Q → Tg W0 (j 0) [rf (l0), rf (l1), rf (l2)] [] G (fun r G => ∃ v, r = cI v ∧ (0 ≤ v ∧ v ≤ 1) ∧ Q v G)) (h : PX0_isCall_0 J a0 G Q) : Tg W0 (vX0_isCall_0 j) [rf (a0), 7, 7] [] G (fun r G => ∃ v, r = cI v ∧ (0 ≤ v ∧ v ≤ 1) ∧ Q v G) := by
  unfold PX0_isCall_0 at h
  unfold vX0_isCall_0
  refine g_ld (v := rf _) rfl (is_R _) ?_
  obtain ⟨q1, h⟩ := h
  refine g_getI (kz := 0) q1 rfl (Nat.le_of_ble_eq_true rfl) rfl fun i2 => ?_
  replace h := h i2
  refine g_const (v := cI (13)) rfl ?_
  refine g_eq2 i2 ⟨by omega, by omega⟩ (fun b3 => ?_) (fun b3 => ?_)
  · replace h := h.1 b3
    unfold vX0_isCall_9
    refine g_ld (v := rf _) rfl (is_R _) ?_
    refine g_getR (kz := 6) (c := 8) q1 rfl (Nat.le_of_ble_eq_true rfl) rfl (by decide) fun i4 => ?_
    replace h := h i4
    refine g_st (lv' := [_, _, _]) (is_R _) (Nat.le_of_ble_eq_true rfl) (Or.inr (n1_R _)) rfl ?_
    refine g_ld (v := rf _) rfl (is_R _) ?_
    refine g_getR (kz := 6) (c := 8) q1 rfl (Nat.le_of_ble_eq_true rfl) rfl (by decide) fun i5 => ?_
    replace h := h i5
    refine g_st (lv' := [_, _, _]) (is_R _) (Nat.le_of_ble_eq_true rfl) (Or.inr (n1_R _)) rfl ?_
    exact TX0_isCall_19  hj0 h
  · replace h := h.2 b3
    unfold vX0_isCall_52
    refine g_ld (v := rf _) rfl (is_R _) ?_
    refine g_getI (kz := 0) q1 rfl (Nat.le_of_ble_eq_true rfl) rfl fun i6 => ?_
    replace h := h i6
    refine g_const (v := cI (5)) rfl ?_
    refine g_eq2 i6 ⟨by omega, by omega⟩ (fun b7 => ?_) (fun b7 => ?_)
    · replace h := h.1 b7
      exact TX0_isCall_96 (show 7 % 8 ≠ 1 by decide) (show 7 % 8 ≠ 1 by decide) hj0 h
    · replace h := h.2 b7
      unfold vX0_isCall_60
      refine g_ld (v := rf _) rfl (is_R _) ?_
      refine g_getI (kz := 0) q1 rfl (Nat.le_of_ble_eq_true rfl) rfl fun i8 => ?_
      replace h := h i8
      refine g_const (v := cI (7)) rfl ?_
      refine g_eq2 i8 ⟨by omega, by omega⟩ (fun b9 => ?_) (fun b9 => ?_)
      · replace h := h.1 b9
        exact TX0_isCall_96 (show 7 % 8 ≠ 1 by decide) (show 7 % 8 ≠ 1 by decide) hj0 h
      · replace h := h.2 b9
        unfold vX0_isCall_69
        refine g_ld (v := rf _) rfl (is_R _) ?_
        refine g_getI (kz := 0) q1 rfl (Nat.le_of_ble_eq_true rfl) rfl fun i10 => ?_
        replace h := h i10
        refine g_const (v := cI (8)) rfl ?_
        refine g_eq2 i10 ⟨by omega, by omega⟩ (fun b11 => ?_) (fun b11 => ?_)
        · replace h := h.1 b11
          exact TX0_isCall_96 (show 7 % 8 ≠ 1 by decide) (show 7 % 8 ≠ 1 by decide) hj0 h
        · replace h := h.2 b11
          unfold vX0_isCall_78
          refine g_ld (v := rf _) rfl (is_R _) ?_
          refine g_getI (kz := 0) q1 rfl (Nat.le_of_ble_eq_true rfl) rfl fun i12 => ?_
          replace h := h i12
          refine g_const (v := cI (9)) rfl ?_
          refine g_eq2 i12 ⟨by omega, by omega⟩ (fun b13 => ?_) (fun b13 => ?_)
          · replace h := h.1 b13
            exact TX0_isCall_96 (show 7 % 8 ≠ 1 by decide) (show 7 % 8 ≠ 1 by decide) hj0 h
          · replace h := h.2 b13
            unfold vX0_isCall_87
            refine g_ld (v := rf _) rfl (is_R _) ?_
            refine g_getI (kz := 0) q1 rfl (Nat.le_of_ble_eq_true rfl) rfl fun i14 => ?_
            replace h := h i14
            refine g_const (v := cI (10)) rfl ?_
            refine g_eq2 i14 ⟨by omega, by omega⟩ (fun b15 => ?_) (fun b15 => ?_)
            · replace h := h.1 b15
              exact TX0_isCall_96 (show 7 % 8 ≠ 1 by decide) (show 7 % 8 ≠ 1 by decide) hj0 h
            · replace h := h.2 b15
              unfold vX0_isCall_100
              refine g_const (v := cI (0)) rfl ?_
              exact TX0_isCall_101 (show 7 % 8 ≠ 1 by decide) (show 7 % 8 ≠ 1 by decide) ⟨by omega, by omega⟩ hj0 h
def PX0_isCall_J : Nat → Nat → List Int → gS → (Int → gS → Prop) → Prop
  | 0, _, _, _, _ => False
  | f + 1, h, L, G, Q => match h, L with
    | 0, [l0, l1, l2] => PX0_isCall_19 (PX0_isCall_J f) l0 l1 l2 G Q
    | _, _ => False
theorem TX0_isCall_J {Q : Int → gS → Prop} : ∀ f N : Nat, f ≤ N → (∀ (l0 : Int) (l1 : Int) (l2 : Int) (G : gS), (PX0_isCall_J f) 0 [l0, l1, l2] G Q → Tg W0 (rx_J vhX0_isCall N 0) [rf (l0), rf (l1), rf (l2)] [] G (fun r G => ∃ v, r = cI v ∧ (0 ≤ v ∧ v ≤ 1) ∧ Q v G)) := by
  intro f
  induction f with
  | zero => exact fun N _ => fun _ _ _ _  h => h.elim
  | succ f ih =>
    intro N hN
    obtain ⟨M, rfl⟩ : ∃ M, N = M + 1 := ⟨N - 1, by omega⟩
    have ih := ih M (by omega)
    exact fun _ _ _ _  h => show Tg W0 (vX0_isCall_19 (rx_J vhX0_isCall M)) _ _ _ _ from TX0_isCall_19  ih h
def PX0_isCall (a0 : Int) (G : gS) (Q : Int → gS → Prop) : Prop := ∃ f : Nat, f ≤ 4000000000 ∧ PX0_isCall_0 (PX0_isCall_J f) a0 G Q
theorem TX0_isCall {a0 : Int} {G : gS} {Q : Int → gS → Prop}  (h : PX0_isCall a0 G Q) : Tn W0 FX0_isCall [rf (a0)] G (fun r G => ∃ v, r = cI v ∧ (0 ≤ v ∧ v ≤ 1) ∧ Q v G) := by
  obtain ⟨f, hf, h⟩ := h
  have hJ := TX0_isCall_J (Q := Q) f 4000000000 hf
  unfold FX0_isCall
  refine g_ent (lv' := [rf (a0), 7, 7]) (flR fl0) (Nat.le_of_ble_eq_true rfl) rfl ?_
  exact TX0_isCall_0  hJ h
def PX0_let_68 (l1 : Int) (s0 : Int) (G : gS) (Q : Int → gS → Prop) : Prop :=
  ((0 ≤ s0 ∧ s0 ≤ 1) ∧ Q (s0) G)
set_option maxRecDepth 20000 in
theorem TX0_let_68 {l1 : Int} {s0 : Int} {G : gS} {Q : Int → gS → Prop} (hs0 : inI s0) (h : PX0_let_68 l1 s0 G Q) : Tg W0 vX0_let_68 [rf (815), rf (l1)] [cI (s0)] G (fun r G => ∃ v, r = cI v ∧ (0 ≤ v ∧ v ≤ 1) ∧ Q v G) := by
  unfold PX0_let_68 at h
  unfold vX0_let_68
  obtain ⟨q25, h⟩ := h
  exact g_ret1 (is_Z q25) ⟨_, rfl, q25, h⟩
def PX0_let_22 (l1 : Int) (G : gS) (Q : Int → gS → Prop) : Prop :=
  Q (0) G
set_option maxRecDepth 20000 in
theorem TX0_let_22 {l1 : Int} {G : gS} {Q : Int → gS → Prop}  (h : PX0_let_22 l1 G Q) : Tg W0 vX0_let_22 [rf (815), rf (l1)] [] G (fun r G => ∃ v, r = cI v ∧ (0 ≤ v ∧ v ≤ 1) ∧ Q v G) := by
  unfold PX0_let_22 at h
  unfold vX0_let_22
  refine g_const (v := cI (0)) rfl ?_
  exact g_ret1 (is_Z (by omega)) ⟨_, rfl, (by omega), h⟩
def PX0_let_0 (a1 : Int) (G : gS) (Q : Int → gS → Prop) : Prop :=
  (isO W0 8 (a1) ∧ ((G a1 5 = -1 ∨ isO W0 8 (G a1 5)) → ((G a1 5 < 0 → PX0_let_22 a1 G Q) ∧ (0 ≤ G a1 5 → ((G a1 5 = -1 ∨ isO W0 8 (G a1 5)) → (inL (G a1 9) → PX0_wanted (G a1 5) (G a1 9) G (fun r7 G6 => (0 ≤ r7 ∧ r7 ≤ 1) → ((r7 = 0 → PX0_let_22 a1 G6 Q) ∧ (¬ (r7 = 0) → (inL (G6 a1 9) → ((G6 815 2 = -1 ∨ isO W0 9 (G6 815 2)) → (isO W0 9 (G6 815 2) ∧ (inI (G6 a1 1) → ((0 : Int) ≤ (G6 a1 1) + 2 ∧ (((G6 a1 1) + 2 : Int) < 704 ∧ (inL (G6 12 ((G6 a1 1) + 2)) → (inI (G6 a1 1) → (inI ((G6 a1 1) + 2) ∧ PX0_local (G6 a1 9) (G6 12 ((G6 a1 1) + 2)) ((G6 a1 1) + 2) G6 (fun r20 G19 => inI r20 → (∀ G22 : gS, G22 = uG G19 a1 4 (r20) → (inI (G22 815 3) → ((G22 815 3 = 0 → PX0_let_68 a1 1 G22 Q) ∧ (¬ (G22 815 3 = 0) → PX0_let_68 a1 0 G22 Q)))))))))))))))))))))))
set_option maxRecDepth 20000 in
theorem TX0_let_0 {a1 : Int} {G : gS} {Q : Int → gS → Prop}  (h : PX0_let_0 a1 G Q) : Tg W0 vX0_let_0 [rf (815), rf (a1)] [] G (fun r G => ∃ v, r = cI v ∧ (0 ≤ v ∧ v ≤ 1) ∧ Q v G) := by
  unfold PX0_let_0 at h
  unfold vX0_let_0
  refine g_ld (v := rf _) rfl (is_R _) ?_
  obtain ⟨q1, h⟩ := h
  refine g_getR (kz := 5) (c := 8) q1 rfl (Nat.le_of_ble_eq_true rfl) rfl (by decide) fun i2 => ?_
  replace h := h i2
  refine g_nul (fun b3 => ?_) (fun b3 => ?_)
  · replace h := h.1 b3
    exact TX0_let_22  h
  · replace h := h.2 b3
    unfold vX0_let_7
    refine g_ld (v := rf _) rfl (is_R _) ?_
    refine g_ld (v := rf _) rfl (is_R _) ?_
    refine g_getR (kz := 5) (c := 8) q1 rfl (Nat.le_of_ble_eq_true rfl) rfl (by decide) fun i4 => ?_
    replace h := h i4
    refine g_ld (v := rf _) rfl (is_R _) ?_
    refine g_getL (kz := 9) q1 rfl (Nat.le_of_ble_eq_true rfl) rfl fun i5 => ?_
    replace h := h i5
    refine g_callV (As := [_, _]) (ci := 0) oC0 (fun _ => rfl) ?_
    refine g_go1 (Nat.le_of_ble_eq_true rfl) (Tn_w (TX0_wanted i5 h) fun _ G6 ⟨r7, e, i8, h⟩ => ?_)
    subst e
    refine ⟨n7_I _, ?_⟩
    replace h := h i8
    refine g_eq1 ⟨by omega, by omega⟩ (fun b9 => ?_) (fun b9 => ?_)
    · replace h := h.1 b9
      exact TX0_let_22  h
    · replace h := h.2 b9
      unfold vX0_let_24
      refine g_ld (v := rf _) rfl (is_R _) ?_
      refine g_ld (v := rf _) rfl (is_R _) ?_
      refine g_ld (v := rf _) rfl (is_R _) ?_
      refine g_getL (kz := 9) q1 rfl (Nat.le_of_ble_eq_true rfl) rfl fun i10 => ?_
      replace h := h i10
      refine g_ld (v := rf _) rfl (is_R _) ?_
      refine g_getR (kz := 2) (c := 9) oC0 rfl (Nat.le_of_ble_eq_true rfl) rfl (by decide) fun i11 => ?_
      replace h := h i11
      obtain ⟨q12, h⟩ := h
      refine g_getF (v := 12) q12 (by rw [one9 q12]; exact hC9_4) rfl (Nat.le_of_ble_eq_true rfl) (Nat.le_of_ble_eq_true rfl) ?_
      refine g_ld (v := rf _) rfl (is_R _) ?_
      refine g_getI (kz := 1) q1 rfl (Nat.le_of_ble_eq_true rfl) rfl fun i13 => ?_
      replace h := h i13
      refine g_const (v := cI (2)) rfl ?_
      refine g_add ?_
      obtain ⟨q14, q15, h⟩ := h
      refine g_aldL aC12 q14 q15 rfl fun i16 => ?_
      replace h := h i16
      refine g_ld (v := rf _) rfl (is_R _) ?_
      refine g_getI (kz := 1) q1 rfl (Nat.le_of_ble_eq_true rfl) rfl fun i17 => ?_
      replace h := h i17
      refine g_const (v := cI (2)) rfl ?_
      refine g_add ?_
      obtain ⟨q18, h⟩ := h
      refine g_callV (As := [_, _, _]) (ci := 0) oC0 (fun _ => rfl) ?_
      refine g_go1 (by simp only [cs_c, cs_0, ct_I, ct_L, ct_R]; exact Nat.le_of_ble_eq_true rfl) (Tn_w (TX0_local i10 i16 q18 h) fun _ G19 ⟨r20, e, i21, h⟩ => ?_)
      subst e
      refine ⟨n7_I _, ?_⟩
      replace h := h i21
      refine g_putI (kz := 4) q1 rfl (Nat.le_of_ble_eq_true rfl) rfl i21 (nf8_4 q1) ?_
      replace h := h _ rfl
      refine g_ld (v := rf _) rfl (is_R _) ?_
      refine g_getI (kz := 3) oC0 rfl (Nat.le_of_ble_eq_true rfl) rfl fun i23 => ?_
      replace h := h i23
      refine g_eq1 i23 (fun b24 => ?_) (fun b24 => ?_)
      · replace h := h.1 b24
        unfold vX0_let_63
        refine g_const (v := cI (1)) rfl ?_
        exact TX0_let_68 ⟨by omega, by omega⟩ h
      · replace h := h.2 b24
        unfold vX0_let_67
        refine g_const (v := cI (0)) rfl ?_
        exact TX0_let_68 ⟨by omega, by omega⟩ h
abbrev PX0_let (a1 : Int) (G : gS) (Q : Int → gS → Prop) : Prop := PX0_let_0 a1 G Q
theorem TX0_let {a1 : Int} {G : gS} {Q : Int → gS → Prop}  (h : PX0_let a1 G Q) : Tn W0 FX0_let [rf (815), rf (a1)] G (fun r G => ∃ v, r = cI v ∧ (0 ≤ v ∧ v ≤ 1) ∧ Q v G) := by
  unfold FX0_let
  refine g_ent (lv' := [rf (815), rf (a1)]) (flR (flR fl0)) (Nat.le_of_ble_eq_true rfl) rfl ?_
  exact TX0_let_0  h
def PX0_target_71 (J : Nat → List Int → gS → (Int → gS → Prop) → Prop) (l0 : Int) (l1 : Int) (l2 : Int) (s0 : Int) (G : gS) (Q : Int → gS → Prop) : Prop :=
  Q (s0) G
set_option maxRecDepth 20000 in
theorem TX0_target_71 {j : Nat → rx_K} {J : Nat → List Int → gS → (Int → gS → Prop) → Prop} {l0 : Int} {l1 : Int} {l2 : Int} {s0 : Int} {G : gS} {Q : Int → gS → Prop}  (hj0 : ∀ (l0 : Int) (l1 : Int) (l2 : Int) (G : gS), J 0 [l0, l1, l2] G Q → Tg W0 (j 0) [rf (l0), rf (l1), rf (l2)] [] G (fun r G => ∃ v, r = rf v ∧ Q v G)) (h : PX0_target_71 J l0 l1 l2 s0 G Q) : Tg W0 (vX0_target_71 j) [rf (l0), rf (l1), rf (l2)] [rf (s0)] G (fun r G => ∃ v, r = rf v ∧ Q v G) := by
  unfold PX0_target_71 at h
  unfold vX0_target_71
  exact g_ret1 (is_R _) ⟨_, rfl, h⟩
def PX0_target_70 (J : Nat → List Int → gS → (Int → gS → Prop) → Prop) (l0 : Int) (l1 : Int) (l2 : Int) (G : gS) (Q : Int → gS → Prop) : Prop :=
  PX0_target_71 J l0 l1 l2 (-1) G Q
set_option maxRecDepth 20000 in
theorem TX0_target_70 {j : Nat → rx_K} {J : Nat → List Int → gS → (Int → gS → Prop) → Prop} {l0 : Int} {l1 : Int} {l2 : Int} {G : gS} {Q : Int → gS → Prop}  (hj0 : ∀ (l0 : Int) (l1 : Int) (l2 : Int) (G : gS), J 0 [l0, l1, l2] G Q → Tg W0 (j 0) [rf (l0), rf (l1), rf (l2)] [] G (fun r G => ∃ v, r = rf v ∧ Q v G)) (h : PX0_target_70 J l0 l1 l2 G Q) : Tg W0 (vX0_target_70 j) [rf (l0), rf (l1), rf (l2)] [] G (fun r G => ∃ v, r = rf v ∧ Q v G) := by
  unfold PX0_target_70 at h
  unfold vX0_target_70
  refine g_const (v := rf (-1)) rfl ?_
  exact TX0_target_71  hj0 h
def PX0_target_39 (J : Nat → List Int → gS → (Int → gS → Prop) → Prop) (l0 : Int) (l1 : Int) (l2 : Int) (G : gS) (Q : Int → gS → Prop) : Prop :=
  ((l2 < 0 → ((l1 < 0 → PX0_target_70 J l0 l1 l2 G Q) ∧ (0 ≤ l1 → (isO W0 8 (l1) ∧ (inI (G l1 0) → ((G l1 0 = 14 → PX0_target_71 J l0 l1 l2 l1 G Q) ∧ (¬ (G l1 0 = 14) → PX0_target_70 J l0 l1 l2 G Q))))))) ∧ (0 ≤ l2 → (isO W0 8 (l2) ∧ ((G l2 8 = -1 ∨ isO W0 8 (G l2 8)) → J 0 [l0, l2, G l2 8] G Q))))
set_option maxRecDepth 20000 in
theorem TX0_target_39 {j : Nat → rx_K} {J : Nat → List Int → gS → (Int → gS → Prop) → Prop} {l0 : Int} {l1 : Int} {l2 : Int} {G : gS} {Q : Int → gS → Prop}  (hj0 : ∀ (l0 : Int) (l1 : Int) (l2 : Int) (G : gS), J 0 [l0, l1, l2] G Q → Tg W0 (j 0) [rf (l0), rf (l1), rf (l2)] [] G (fun r G => ∃ v, r = rf v ∧ Q v G)) (h : PX0_target_39 J l0 l1 l2 G Q) : Tg W0 (vX0_target_39 j) [rf (l0), rf (l1), rf (l2)] [] G (fun r G => ∃ v, r = rf v ∧ Q v G) := by
  unfold PX0_target_39 at h
  unfold vX0_target_39
  refine g_ld (v := rf _) rfl (is_R _) ?_
  refine g_nul (fun b9 => ?_) (fun b9 => ?_)
  · replace h := h.1 b9
    unfold vX0_target_53
    refine g_ld (v := rf _) rfl (is_R _) ?_
    refine g_nul (fun b10 => ?_) (fun b10 => ?_)
    · replace h := h.1 b10
      exact TX0_target_70  hj0 h
    · replace h := h.2 b10
      unfold vX0_target_57
      refine g_ld (v := rf _) rfl (is_R _) ?_
      obtain ⟨q11, h⟩ := h
      refine g_getI (kz := 0) q11 rfl (Nat.le_of_ble_eq_true rfl) rfl fun i12 => ?_
      replace h := h i12
      refine g_const (v := cI (14)) rfl ?_
      refine g_eq2 i12 ⟨by omega, by omega⟩ (fun b13 => ?_) (fun b13 => ?_)
      · replace h := h.1 b13
        unfold vX0_target_66
        refine g_ld (v := rf _) rfl (is_R _) ?_
        exact TX0_target_71  hj0 h
      · replace h := h.2 b13
        exact TX0_target_70  hj0 h
  · replace h := h.2 b9
    unfold vX0_target_43
    refine g_ld (v := rf _) rfl (is_R _) ?_
    refine g_st (lv' := [_, _, _]) (is_R _) (Nat.le_of_ble_eq_true rfl) (Or.inr (n1_R _)) rfl ?_
    refine g_ld (v := rf _) rfl (is_R _) ?_
    obtain ⟨q14, h⟩ := h
    refine g_getR (kz := 8) (c := 8) q14 rfl (Nat.le_of_ble_eq_true rfl) rfl (by decide) fun i15 => ?_
    replace h := h i15
    refine g_st (lv' := [_, _, _]) (is_R _) (Nat.le_of_ble_eq_true rfl) (Or.inr (n1_R _)) rfl ?_
    exact hj0 _ _ _ _  h
def PX0_target_36 (J : Nat → List Int → gS → (Int → gS → Prop) → Prop) (l0 : Int) (s0 : Int) (G : gS) (Q : Int → gS → Prop) : Prop :=
  PX0_target_39 J l0 s0 s0 G Q
set_option maxRecDepth 20000 in
theorem TX0_target_36 {j : Nat → rx_K} {J : Nat → List Int → gS → (Int → gS → Prop) → Prop} {l0 : Int} {l1 : Nat} {l2 : Nat} {s0 : Int} {G : gS} {Q : Int → gS → Prop} (hl1 : l1 % 8 ≠ 1) (hl2 : l2 % 8 ≠ 1) (hj0 : ∀ (l0 : Int) (l1 : Int) (l2 : Int) (G : gS), J 0 [l0, l1, l2] G Q → Tg W0 (j 0) [rf (l0), rf (l1), rf (l2)] [] G (fun r G => ∃ v, r = rf v ∧ Q v G)) (h : PX0_target_36 J l0 s0 G Q) : Tg W0 (vX0_target_36 j) [rf (l0), l1, l2] [rf (s0)] G (fun r G => ∃ v, r = rf v ∧ Q v G) := by
  unfold PX0_target_36 at h
  unfold vX0_target_36
  refine g_st (lv' := [_, _, _]) (is_R _) (Nat.le_of_ble_eq_true rfl) (Or.inr (n1_R _)) rfl ?_
  refine g_ld (v := rf _) rfl (is_R _) ?_
  refine g_st (lv' := [_, _, _]) (is_R _) (Nat.le_of_ble_eq_true rfl) (Or.inr (n1_R _)) rfl ?_
  exact TX0_target_39  hj0 h
def PX0_target_17 (J : Nat → List Int → gS → (Int → gS → Prop) → Prop) (l0 : Int) (G : gS) (Q : Int → gS → Prop) : Prop :=
  Q (l0) G
set_option maxRecDepth 20000 in
theorem TX0_target_17 {j : Nat → rx_K} {J : Nat → List Int → gS → (Int → gS → Prop) → Prop} {l0 : Int} {l1 : Nat} {l2 : Nat} {G : gS} {Q : Int → gS → Prop} (hl1 : l1 % 8 ≠ 1) (hl2 : l2 % 8 ≠ 1) (hj0 : ∀ (l0 : Int) (l1 : Int) (l2 : Int) (G : gS), J 0 [l0, l1, l2] G Q → Tg W0 (j 0) [rf (l0), rf (l1), rf (l2)] [] G (fun r G => ∃ v, r = rf v ∧ Q v G)) (h : PX0_target_17 J l0 G Q) : Tg W0 (vX0_target_17 j) [rf (l0), l1, l2] [] G (fun r G => ∃ v, r = rf v ∧ Q v G) := by
  unfold PX0_target_17 at h
  unfold vX0_target_17
  refine g_ld (v := rf _) rfl (is_R _) ?_
  exact g_ret1 (is_R _) ⟨_, rfl, h⟩
def PX0_target_0 (J : Nat → List Int → gS → (Int → gS → Prop) → Prop) (a0 : Int) (G : gS) (Q : Int → gS → Prop) : Prop :=
  (isO W0 8 (a0) ∧ (inI (G a0 0) → ((G a0 0 = 4 → PX0_target_17 J a0 G Q) ∧ (¬ (G a0 0 = 4) → (inI (G a0 0) → ((G a0 0 = 6 → PX0_target_17 J a0 G Q) ∧ (¬ (G a0 0 = 6) → (inI (G a0 0) → ((G a0 0 = 13 → ((G a0 6 = -1 ∨ isO W0 8 (G a0 6)) → PX0_target_36 J a0 (G a0 6) G Q)) ∧ (¬ (G a0 0 = 13) → PX0_target_36 J a0 (-1) G Q))))))))))
set_option maxRecDepth 20000 in
theorem TX0_target_0 {j : Nat → rx_K} {J : Nat → List Int → gS → (Int → gS → Prop) → Prop} {a0 : Int} {G : gS} {Q : Int → gS → Prop}  (hj0 : ∀ (l0 : Int) (l1 : Int) (l2 : Int) (G : gS), J 0 [l0, l1, l2] G Q → Tg W0 (j 0) [rf (l0), rf (l1), rf (l2)] [] G (fun r G => ∃ v, r = rf v ∧ Q v G)) (h : PX0_target_0 J a0 G Q) : Tg W0 (vX0_target_0 j) [rf (a0), 7, 7] [] G (fun r G => ∃ v, r = rf v ∧ Q v G) := by
  unfold PX0_target_0 at h
  unfold vX0_target_0
  refine g_ld (v := rf _) rfl (is_R _) ?_
  obtain ⟨q1, h⟩ := h
  refine g_getI (kz := 0) q1 rfl (Nat.le_of_ble_eq_true rfl) rfl fun i2 => ?_
  replace h := h i2
  refine g_const (v := cI (4)) rfl ?_
  refine g_eq2 i2 ⟨by omega, by omega⟩ (fun b3 => ?_) (fun b3 => ?_)
  · replace h := h.1 b3
    exact TX0_target_17 (show 7 % 8 ≠ 1 by decide) (show 7 % 8 ≠ 1 by decide) hj0 h
  · replace h := h.2 b3
    unfold vX0_target_8
    refine g_ld (v := rf _) rfl (is_R _) ?_
    refine g_getI (kz := 0) q1 rfl (Nat.le_of_ble_eq_true rfl) rfl fun i4 => ?_
    replace h := h i4
    refine g_const (v := cI (6)) rfl ?_
    refine g_eq2 i4 ⟨by omega, by omega⟩ (fun b5 => ?_) (fun b5 => ?_)
    · replace h := h.1 b5
      exact TX0_target_17 (show 7 % 8 ≠ 1 by decide) (show 7 % 8 ≠ 1 by decide) hj0 h
    · replace h := h.2 b5
      unfold vX0_target_19
      refine g_ld (v := rf _) rfl (is_R _) ?_
      refine g_getI (kz := 0) q1 rfl (Nat.le_of_ble_eq_true rfl) rfl fun i6 => ?_
      replace h := h i6
      refine g_const (v := cI (13)) rfl ?_
      refine g_eq2 i6 ⟨by omega, by omega⟩ (fun b7 => ?_) (fun b7 => ?_)
      · replace h := h.1 b7
        unfold vX0_target_28
        refine g_ld (v := rf _) rfl (is_R _) ?_
        refine g_getR (kz := 6) (c := 8) q1 rfl (Nat.le_of_ble_eq_true rfl) rfl (by decide) fun i8 => ?_
        replace h := h i8
        exact TX0_target_36 (show 7 % 8 ≠ 1 by decide) (show 7 % 8 ≠ 1 by decide) hj0 h
      · replace h := h.2 b7
        unfold vX0_target_35
        refine g_const (v := rf (-1)) rfl ?_
        exact TX0_target_36 (show 7 % 8 ≠ 1 by decide) (show 7 % 8 ≠ 1 by decide) hj0 h
def PX0_target_J : Nat → Nat → List Int → gS → (Int → gS → Prop) → Prop
  | 0, _, _, _, _ => False
  | f + 1, h, L, G, Q => match h, L with
    | 0, [l0, l1, l2] => PX0_target_39 (PX0_target_J f) l0 l1 l2 G Q
    | _, _ => False
theorem TX0_target_J {Q : Int → gS → Prop} : ∀ f N : Nat, f ≤ N → (∀ (l0 : Int) (l1 : Int) (l2 : Int) (G : gS), (PX0_target_J f) 0 [l0, l1, l2] G Q → Tg W0 (rx_J vhX0_target N 0) [rf (l0), rf (l1), rf (l2)] [] G (fun r G => ∃ v, r = rf v ∧ Q v G)) := by
  intro f
  induction f with
  | zero => exact fun N _ => fun _ _ _ _  h => h.elim
  | succ f ih =>
    intro N hN
    obtain ⟨M, rfl⟩ : ∃ M, N = M + 1 := ⟨N - 1, by omega⟩
    have ih := ih M (by omega)
    exact fun _ _ _ _  h => show Tg W0 (vX0_target_39 (rx_J vhX0_target M)) _ _ _ _ from TX0_target_39  ih h
def PX0_target (a0 : Int) (G : gS) (Q : Int → gS → Prop) : Prop := ∃ f : Nat, f ≤ 4000000000 ∧ PX0_target_0 (PX0_target_J f) a0 G Q
theorem TX0_target {a0 : Int} {G : gS} {Q : Int → gS → Prop}  (h : PX0_target a0 G Q) : Tn W0 FX0_target [rf (a0)] G (fun r G => ∃ v, r = rf v ∧ Q v G) := by
  obtain ⟨f, hf, h⟩ := h
  have hJ := TX0_target_J (Q := Q) f 4000000000 hf
  unfold FX0_target
  refine g_ent (lv' := [rf (a0), 7, 7]) (flR fl0) (Nat.le_of_ble_eq_true rfl) rfl ?_
  exact TX0_target_0  hJ h
def PX0_put_133 (l1 : Int) (l2 : Int) (l3 : Int) (G : gS) (Q : Int → gS → Prop) : Prop :=
  (isO W0 8 (l1) ∧ ((G l1 6 = -1 ∨ isO W0 8 (G l1 6)) → ((G l1 5 = -1 ∨ isO W0 8 (G l1 5)) → (isO W0 8 (G l1 5) ∧ (inL (G (G l1 5) 9) → PX0_wanted (G l1 6) (G (G l1 5) 9) G (fun r37 G36 => (0 ≤ r37 ∧ r37 ≤ 1) → Q (r37) G36))))))
set_option maxRecDepth 20000 in
theorem TX0_put_133 {l1 : Int} {l2 : Int} {l3 : Int} {l4 : Nat} {G : gS} {Q : Int → gS → Prop} (hl4 : l4 % 8 ≠ 1) (h : PX0_put_133 l1 l2 l3 G Q) : Tg W0 vX0_put_133 [rf (815), rf (l1), rf (l2), rf (l3), l4] [] G (fun r G => ∃ v, r = cI v ∧ (0 ≤ v ∧ v ≤ 1) ∧ Q v G) := by
  unfold PX0_put_133 at h
  unfold vX0_put_133
  refine g_ld (v := rf _) rfl (is_R _) ?_
  refine g_ld (v := rf _) rfl (is_R _) ?_
  obtain ⟨q31, h⟩ := h
  refine g_getR (kz := 6) (c := 8) q31 rfl (Nat.le_of_ble_eq_true rfl) rfl (by decide) fun i32 => ?_
  replace h := h i32
  refine g_ld (v := rf _) rfl (is_R _) ?_
  refine g_getR (kz := 5) (c := 8) q31 rfl (Nat.le_of_ble_eq_true rfl) rfl (by decide) fun i33 => ?_
  replace h := h i33
  obtain ⟨q34, h⟩ := h
  refine g_getL (kz := 9) q34 rfl (Nat.le_of_ble_eq_true rfl) rfl fun i35 => ?_
  replace h := h i35
  refine g_callV (As := [_, _]) (ci := 0) oC0 (fun _ => rfl) ?_
  refine g_go1 (Nat.le_of_ble_eq_true rfl) (Tn_w (TX0_wanted i35 h) fun _ G36 ⟨r37, e, i38, h⟩ => ?_)
  subst e
  refine ⟨n7_I _, ?_⟩
  replace h := h i38
  exact g_ret1 (is_Z i38) ⟨_, rfl, i38, h⟩
def PX0_put_122 (l1 : Int) (l2 : Int) (l3 : Int) (l4 : Int) (G : gS) (Q : Int → gS → Prop) : Prop :=
  (isO W0 8 (l1) ∧ (inI (G l1 1) → PX0_fail 15 (G l1 1) G (fun r53 G52 => (0 ≤ r53 ∧ r53 ≤ 1) → Q (r53) G52)))
set_option maxRecDepth 20000 in
theorem TX0_put_122 {l1 : Int} {l2 : Int} {l3 : Int} {l4 : Int} {G : gS} {Q : Int → gS → Prop} (hl4 : inI l4) (h : PX0_put_122 l1 l2 l3 l4 G Q) : Tg W0 vX0_put_122 [rf (815), rf (l1), rf (l2), rf (l3), cI (l4)] [] G (fun r G => ∃ v, r = cI v ∧ (0 ≤ v ∧ v ≤ 1) ∧ Q v G) := by
  unfold PX0_put_122 at h
  unfold vX0_put_122
  refine g_ld (v := rf _) rfl (is_R _) ?_
  refine g_const (v := cI (15)) rfl ?_
  refine g_ld (v := rf _) rfl (is_R _) ?_
  obtain ⟨q50, h⟩ := h
  refine g_getI (kz := 1) q50 rfl (Nat.le_of_ble_eq_true rfl) rfl fun i51 => ?_
  replace h := h i51
  refine g_callV (As := [_, _]) (ci := 0) oC0 (fun _ => rfl) ?_
  refine g_go1 (Nat.le_of_ble_eq_true rfl) (Tn_w (TX0_fail ⟨by omega, by omega⟩ i51 h) fun _ G52 ⟨r53, e, i54, h⟩ => ?_)
  subst e
  refine ⟨n7_I _, ?_⟩
  replace h := h i54
  exact g_ret1 (is_Z i54) ⟨_, rfl, i54, h⟩
def PX0_put_97 (l1 : Int) (l2 : Int) (l3 : Int) (s0 : Int) (G : gS) (Q : Int → gS → Prop) : Prop :=
  ((s0 = 0 → PX0_put_122 l1 l2 l3 s0 G Q) ∧ (¬ (s0 = 0) → ((G 815 5 = -1 ∨ isO W0 10 (G 815 5)) → (isO W0 7 (l3) ∧ (inL (G l3 7) → (isO W0 10 (G 815 5) ∧ PX10_field (G 815 5) (G l3 7) (-4) G (fun r45 G44 => ((-1 : Int) ≤ r45 ∧ ((-1 : Int) ≤ l3 ∧ ((r45 = l3 → PX0_put_133 l1 l2 l3 G44 Q) ∧ (¬ (r45 = l3) → PX0_put_122 l1 l2 l3 s0 G44 Q)))))))))))
set_option maxRecDepth 20000 in
theorem TX0_put_97 {l1 : Int} {l2 : Int} {l3 : Int} {l4 : Nat} {s0 : Int} {G : gS} {Q : Int → gS → Prop} (hl4 : l4 % 8 ≠ 1) (hs0 : inI s0) (h : PX0_put_97 l1 l2 l3 s0 G Q) : Tg W0 vX0_put_97 [rf (815), rf (l1), rf (l2), rf (l3), l4] [cI (s0)] G (fun r G => ∃ v, r = cI v ∧ (0 ≤ v ∧ v ≤ 1) ∧ Q v G) := by
  unfold PX0_put_97 at h
  unfold vX0_put_97
  refine g_st (lv' := [_, _, _, _, _]) (is_I _) (Nat.le_of_ble_eq_true rfl) (Or.inr (n1_R _)) rfl ?_
  refine g_ld (v := cI _) rfl (is_I _) ?_
  refine g_eq1 hs0 (fun b39 => ?_) (fun b39 => ?_)
  · replace h := h.1 b39
    exact TX0_put_122 hs0 h
  · replace h := h.2 b39
    unfold vX0_put_104
    refine g_ld (v := rf _) rfl (is_R _) ?_
    refine g_getR (kz := 5) (c := 10) oC0 rfl (Nat.le_of_ble_eq_true rfl) rfl (by decide) fun i40 => ?_
    replace h := h i40
    refine g_ld (v := rf _) rfl (is_R _) ?_
    obtain ⟨q41, h⟩ := h
    refine g_getL (kz := 7) q41 rfl (Nat.le_of_ble_eq_true rfl) rfl fun i42 => ?_
    replace h := h i42
    refine g_const (v := cL (-4)) rfl ?_
    obtain ⟨q43, h⟩ := h
    refine g_callV (As := [_, _]) (ci := 10) q43 (fun _ => rfl) ?_
    refine g_go1 (Nat.le_of_ble_eq_true rfl) (Tn_w (TX10_field i42 ⟨by omega, by omega⟩ h) fun _ G44 ⟨r45, e, h⟩ => ?_)
    subst e
    refine ⟨n7_R _, ?_⟩
    refine g_ld (v := rf _) rfl (is_R _) ?_
    obtain ⟨q47, q48, h⟩ := h
    refine g_acmp q47 q48 (fun b49 => ?_) (fun b49 => ?_)
    · replace h := h.1 b49
      exact TX0_put_133 (n1_I _) h
    · replace h := h.2 b49
      exact TX0_put_122 hs0 h
def PX0_put_14 (l1 : Int) (G : gS) (Q : Int → gS → Prop) : Prop :=
  Q (0) G
set_option maxRecDepth 20000 in
theorem TX0_put_14 {l1 : Int} {l2 : Nat} {l3 : Nat} {l4 : Nat} {G : gS} {Q : Int → gS → Prop} (hl2 : l2 % 8 ≠ 1) (hl3 : l3 % 8 ≠ 1) (hl4 : l4 % 8 ≠ 1) (h : PX0_put_14 l1 G Q) : Tg W0 vX0_put_14 [rf (815), rf (l1), l2, l3, l4] [] G (fun r G => ∃ v, r = cI v ∧ (0 ≤ v ∧ v ≤ 1) ∧ Q v G) := by
  unfold PX0_put_14 at h
  unfold vX0_put_14
  refine g_const (v := cI (0)) rfl ?_
  exact g_ret1 (is_Z (by omega)) ⟨_, rfl, (by omega), h⟩
def PX0_put_0 (a1 : Int) (G : gS) (Q : Int → gS → Prop) : Prop :=
  (isO W0 8 (a1) ∧ ((G a1 5 = -1 ∨ isO W0 8 (G a1 5)) → ((G a1 5 < 0 → PX0_put_14 a1 G Q) ∧ (0 ≤ G a1 5 → ((G a1 6 = -1 ∨ isO W0 8 (G a1 6)) → ((G a1 6 < 0 → PX0_put_14 a1 G Q) ∧ (0 ≤ G a1 6 → ((G a1 5 = -1 ∨ isO W0 8 (G a1 5)) → PX0_target (G a1 5) G (fun r8 G7 => ((r8 < 0 → (inI (G7 a1 1) → PX0_fail 15 (G7 a1 1) G7 (fun r13 G12 => (0 ≤ r13 ∧ r13 ≤ 1) → Q (r13) G12))) ∧ (0 ≤ r8 → (isO W0 8 (r8) ∧ ((G7 r8 11 = -1 ∨ isO W0 7 (G7 r8 11)) → ((G7 r8 11 < 0 → PX0_put_133 a1 r8 (G7 r8 11) G7 Q) ∧ (0 ≤ G7 r8 11 → (isO W0 7 (G7 r8 11) ∧ ((0 ≤ G7 (G7 r8 11) 3 ∧ G7 (G7 r8 11) 3 ≤ 1) → ((G7 (G7 r8 11) 3 = 0 → PX0_put_133 a1 r8 (G7 r8 11) G7 Q) ∧ (¬ (G7 (G7 r8 11) 3 = 0) → ((0 ≤ G7 (G7 r8 11) 2 ∧ G7 (G7 r8 11) 2 ≤ 1) → ((G7 (G7 r8 11) 2 = 0 → ((G7 815 7 = -1 ∨ isO W0 7 (G7 815 7)) → (isO W0 7 (G7 815 7) ∧ (inI (G7 (G7 815 7) 0) → ((G7 (G7 815 7) 0 = 2 → PX0_put_97 a1 r8 (G7 r8 11) 1 G7 Q) ∧ (¬ (G7 (G7 815 7) 0 = 2) → PX0_put_97 a1 r8 (G7 r8 11) 0 G7 Q)))))) ∧ (¬ (G7 (G7 r8 11) 2 = 0) → ((G7 815 7 = -1 ∨ isO W0 7 (G7 815 7)) → (isO W0 7 (G7 815 7) ∧ (inI (G7 (G7 815 7) 0) → ((G7 (G7 815 7) 0 = 3 → PX0_put_97 a1 r8 (G7 r8 11) 1 G7 Q) ∧ (¬ (G7 (G7 815 7) 0 = 3) → PX0_put_97 a1 r8 (G7 r8 11) 0 G7 Q)))))))))))))))))))))))))))
set_option maxRecDepth 20000 in
theorem TX0_put_0 {a1 : Int} {G : gS} {Q : Int → gS → Prop}  (h : PX0_put_0 a1 G Q) : Tg W0 vX0_put_0 [rf (815), rf (a1), 7, 7, 7] [] G (fun r G => ∃ v, r = cI v ∧ (0 ≤ v ∧ v ≤ 1) ∧ Q v G) := by
  unfold PX0_put_0 at h
  unfold vX0_put_0
  refine g_ld (v := rf _) rfl (is_R _) ?_
  obtain ⟨q1, h⟩ := h
  refine g_getR (kz := 5) (c := 8) q1 rfl (Nat.le_of_ble_eq_true rfl) rfl (by decide) fun i2 => ?_
  replace h := h i2
  refine g_nul (fun b3 => ?_) (fun b3 => ?_)
  · replace h := h.1 b3
    exact TX0_put_14 (show 7 % 8 ≠ 1 by decide) (show 7 % 8 ≠ 1 by decide) (show 7 % 8 ≠ 1 by decide) h
  · replace h := h.2 b3
    unfold vX0_put_7
    refine g_ld (v := rf _) rfl (is_R _) ?_
    refine g_getR (kz := 6) (c := 8) q1 rfl (Nat.le_of_ble_eq_true rfl) rfl (by decide) fun i4 => ?_
    replace h := h i4
    refine g_nul (fun b5 => ?_) (fun b5 => ?_)
    · replace h := h.1 b5
      exact TX0_put_14 (show 7 % 8 ≠ 1 by decide) (show 7 % 8 ≠ 1 by decide) (show 7 % 8 ≠ 1 by decide) h
    · replace h := h.2 b5
      unfold vX0_put_16
      refine g_ld (v := rf _) rfl (is_R _) ?_
      refine g_getR (kz := 5) (c := 8) q1 rfl (Nat.le_of_ble_eq_true rfl) rfl (by decide) fun i6 => ?_
      replace h := h i6
      refine g_callS (As := [_]) (fun _ => rfl) ?_
      refine g_go1 (Nat.le_of_ble_eq_true rfl) (Tn_w (TX0_target  h) fun _ G7 ⟨r8, e, h⟩ => ?_)
      subst e
      refine ⟨n7_R _, ?_⟩
      refine g_st (lv' := [_, _, _, _, _]) (is_R _) (Nat.le_of_ble_eq_true rfl) (Or.inr (n1_R _)) rfl ?_
      refine g_ld (v := rf _) rfl (is_R _) ?_
      refine g_nul (fun b10 => ?_) (fun b10 => ?_)
      · replace h := h.1 b10
        unfold vX0_put_28
        refine g_ld (v := rf _) rfl (is_R _) ?_
        refine g_const (v := cI (15)) rfl ?_
        refine g_ld (v := rf _) rfl (is_R _) ?_
        refine g_getI (kz := 1) q1 rfl (Nat.le_of_ble_eq_true rfl) rfl fun i11 => ?_
        replace h := h i11
        refine g_callV (As := [_, _]) (ci := 0) oC0 (fun _ => rfl) ?_
        refine g_go1 (Nat.le_of_ble_eq_true rfl) (Tn_w (TX0_fail ⟨by omega, by omega⟩ i11 h) fun _ G12 ⟨r13, e, i14, h⟩ => ?_)
        subst e
        refine ⟨n7_I _, ?_⟩
        replace h := h i14
        exact g_ret1 (is_Z i14) ⟨_, rfl, i14, h⟩
      · replace h := h.2 b10
        unfold vX0_put_39
        refine g_ld (v := rf _) rfl (is_R _) ?_
        obtain ⟨q15, h⟩ := h
        refine g_getR (kz := 11) (c := 7) q15 rfl (Nat.le_of_ble_eq_true rfl) rfl (by decide) fun i16 => ?_
        replace h := h i16
        refine g_st (lv' := [_, _, _, _, _]) (is_R _) (Nat.le_of_ble_eq_true rfl) (Or.inr (n1_R _)) rfl ?_
        refine g_ld (v := rf _) rfl (is_R _) ?_
        refine g_nul (fun b17 => ?_) (fun b17 => ?_)
        · replace h := h.1 b17
          exact TX0_put_133 (show 7 % 8 ≠ 1 by decide) h
        · replace h := h.2 b17
          unfold vX0_put_48
          refine g_ld (v := rf _) rfl (is_R _) ?_
          obtain ⟨q18, h⟩ := h
          refine g_getZ (kz := 3) q18 rfl (Nat.le_of_ble_eq_true rfl) rfl fun i19 => ?_
          replace h := h i19
          refine g_eq1 ⟨by omega, by omega⟩ (fun b20 => ?_) (fun b20 => ?_)
          · replace h := h.1 b20
            exact TX0_put_133 (show 7 % 8 ≠ 1 by decide) h
          · replace h := h.2 b20
            unfold vX0_put_55
            refine g_ld (v := rf _) rfl (is_R _) ?_
            refine g_getZ (kz := 2) q18 rfl (Nat.le_of_ble_eq_true rfl) rfl fun i21 => ?_
            replace h := h i21
            refine g_eq1 ⟨by omega, by omega⟩ (fun b22 => ?_) (fun b22 => ?_)
            · replace h := h.1 b22
              unfold vX0_put_81
              refine g_ld (v := rf _) rfl (is_R _) ?_
              refine g_getR (kz := 7) (c := 7) oC0 rfl (Nat.le_of_ble_eq_true rfl) rfl (by decide) fun i23 => ?_
              replace h := h i23
              obtain ⟨q24, h⟩ := h
              refine g_getI (kz := 0) q24 rfl (Nat.le_of_ble_eq_true rfl) rfl fun i25 => ?_
              replace h := h i25
              refine g_const (v := cI (2)) rfl ?_
              refine g_eq2 i25 ⟨by omega, by omega⟩ (fun b26 => ?_) (fun b26 => ?_)
              · replace h := h.1 b26
                unfold vX0_put_92
                refine g_const (v := cI (1)) rfl ?_
                exact TX0_put_97 (show 7 % 8 ≠ 1 by decide) ⟨by omega, by omega⟩ h
              · replace h := h.2 b26
                unfold vX0_put_96
                refine g_const (v := cI (0)) rfl ?_
                exact TX0_put_97 (show 7 % 8 ≠ 1 by decide) ⟨by omega, by omega⟩ h
            · replace h := h.2 b22
              unfold vX0_put_62
              refine g_ld (v := rf _) rfl (is_R _) ?_
              refine g_getR (kz := 7) (c := 7) oC0 rfl (Nat.le_of_ble_eq_true rfl) rfl (by decide) fun i27 => ?_
              replace h := h i27
              obtain ⟨q28, h⟩ := h
              refine g_getI (kz := 0) q28 rfl (Nat.le_of_ble_eq_true rfl) rfl fun i29 => ?_
              replace h := h i29
              refine g_const (v := cI (3)) rfl ?_
              refine g_eq2 i29 ⟨by omega, by omega⟩ (fun b30 => ?_) (fun b30 => ?_)
              · replace h := h.1 b30
                unfold vX0_put_73
                refine g_const (v := cI (1)) rfl ?_
                exact TX0_put_97 (show 7 % 8 ≠ 1 by decide) ⟨by omega, by omega⟩ h
              · replace h := h.2 b30
                unfold vX0_put_77
                refine g_const (v := cI (0)) rfl ?_
                exact TX0_put_97 (show 7 % 8 ≠ 1 by decide) ⟨by omega, by omega⟩ h
abbrev PX0_put (a1 : Int) (G : gS) (Q : Int → gS → Prop) : Prop := PX0_put_0 a1 G Q
theorem TX0_put {a1 : Int} {G : gS} {Q : Int → gS → Prop}  (h : PX0_put a1 G Q) : Tn W0 FX0_put [rf (815), rf (a1)] G (fun r G => ∃ v, r = cI v ∧ (0 ≤ v ∧ v ≤ 1) ∧ Q v G) := by
  unfold FX0_put
  refine g_ent (lv' := [rf (815), rf (a1), 7, 7, 7]) (flR (flR fl0)) (Nat.le_of_ble_eq_true rfl) rfl ?_
  exact TX0_put_0  h
def PX0_returned_99 (l1 : Int) (l2 : Int) (s0 : Int) (G : gS) (Q : Int → gS → Prop) : Prop :=
  ((0 ≤ s0 ∧ s0 ≤ 1) ∧ Q (s0) G)
set_option maxRecDepth 20000 in
theorem TX0_returned_99 {l1 : Int} {l2 : Int} {s0 : Int} {G : gS} {Q : Int → gS → Prop} (hl2 : inI l2) (hs0 : inI s0) (h : PX0_returned_99 l1 l2 s0 G Q) : Tg W0 vX0_returned_99 [rf (815), rf (l1), cI (l2)] [cI (s0)] G (fun r G => ∃ v, r = cI v ∧ (0 ≤ v ∧ v ≤ 1) ∧ Q v G) := by
  unfold PX0_returned_99 at h
  unfold vX0_returned_99
  obtain ⟨q33, h⟩ := h
  exact g_ret1 (is_Z q33) ⟨_, rfl, q33, h⟩
def PX0_returned_94 (l1 : Int) (l2 : Int) (G : gS) (Q : Int → gS → Prop) : Prop :=
  PX0_returned_99 l1 l2 1 G Q
set_option maxRecDepth 20000 in
theorem TX0_returned_94 {l1 : Int} {l2 : Int} {G : gS} {Q : Int → gS → Prop} (hl2 : inI l2) (h : PX0_returned_94 l1 l2 G Q) : Tg W0 vX0_returned_94 [rf (815), rf (l1), cI (l2)] [] G (fun r G => ∃ v, r = cI v ∧ (0 ≤ v ∧ v ≤ 1) ∧ Q v G) := by
  unfold PX0_returned_94 at h
  unfold vX0_returned_94
  refine g_const (v := cI (1)) rfl ?_
  exact TX0_returned_99 hl2 ⟨by omega, by omega⟩ h
def PX0_returned_58 (l1 : Int) (l2 : Int) (G : gS) (Q : Int → gS → Prop) : Prop :=
  (isO W0 8 (l1) ∧ (inI (G l1 1) → PX0_fail 17 (G l1 1) G (fun r19 G18 => (0 ≤ r19 ∧ r19 ≤ 1) → Q (r19) G18)))
set_option maxRecDepth 20000 in
theorem TX0_returned_58 {l1 : Int} {l2 : Int} {G : gS} {Q : Int → gS → Prop} (hl2 : inI l2) (h : PX0_returned_58 l1 l2 G Q) : Tg W0 vX0_returned_58 [rf (815), rf (l1), cI (l2)] [] G (fun r G => ∃ v, r = cI v ∧ (0 ≤ v ∧ v ≤ 1) ∧ Q v G) := by
  unfold PX0_returned_58 at h
  unfold vX0_returned_58
  refine g_ld (v := rf _) rfl (is_R _) ?_
  refine g_const (v := cI (17)) rfl ?_
  refine g_ld (v := rf _) rfl (is_R _) ?_
  obtain ⟨q16, h⟩ := h
  refine g_getI (kz := 1) q16 rfl (Nat.le_of_ble_eq_true rfl) rfl fun i17 => ?_
  replace h := h i17
  refine g_callV (As := [_, _]) (ci := 0) oC0 (fun _ => rfl) ?_
  refine g_go1 (Nat.le_of_ble_eq_true rfl) (Tn_w (TX0_fail ⟨by omega, by omega⟩ i17 h) fun _ G18 ⟨r19, e, i20, h⟩ => ?_)
  subst e
  refine ⟨n7_I _, ?_⟩
  replace h := h i20
  exact g_ret1 (is_Z i20) ⟨_, rfl, i20, h⟩
def PX0_returned_55 (l1 : Int) (l2 : Int) (s0 : Int) (s1 : Int) (G : gS) (Q : Int → gS → Prop) : Prop :=
  ((s0 = s1 → (isO W0 8 (l1) ∧ ((G l1 5 = -1 ∨ isO W0 8 (G l1 5)) → ((G l1 5 < 0 → PX0_returned_94 l1 l2 G Q) ∧ (0 ≤ G l1 5 → ((G l1 5 = -1 ∨ isO W0 8 (G l1 5)) → ((G 815 7 = -1 ∨ isO W0 7 (G 815 7)) → (isO W0 7 (G 815 7) ∧ (inL (G (G 815 7) 8) → PX0_wanted (G l1 5) (G (G 815 7) 8) G (fun r30 G29 => (0 ≤ r30 ∧ r30 ≤ 1) → ((r30 = 0 → PX0_returned_99 l1 l2 0 G29 Q) ∧ (¬ (r30 = 0) → PX0_returned_94 l1 l2 G29 Q)))))))))))) ∧ (¬ (s0 = s1) → PX0_returned_58 l1 l2 G Q))
set_option maxRecDepth 20000 in
theorem TX0_returned_55 {l1 : Int} {l2 : Int} {s0 : Int} {s1 : Int} {G : gS} {Q : Int → gS → Prop} (hl2 : inI l2) (hs0 : inI s0) (hs1 : inI s1) (h : PX0_returned_55 l1 l2 s0 s1 G Q) : Tg W0 vX0_returned_55 [rf (815), rf (l1), cI (l2)] [cI (s1), cI (s0)] G (fun r G => ∃ v, r = cI v ∧ (0 ≤ v ∧ v ≤ 1) ∧ Q v G) := by
  unfold PX0_returned_55 at h
  unfold vX0_returned_55
  refine g_eq2 hs0 hs1 (fun b21 => ?_) (fun b21 => ?_)
  · replace h := h.1 b21
    unfold vX0_returned_69
    refine g_ld (v := rf _) rfl (is_R _) ?_
    obtain ⟨q22, h⟩ := h
    refine g_getR (kz := 5) (c := 8) q22 rfl (Nat.le_of_ble_eq_true rfl) rfl (by decide) fun i23 => ?_
    replace h := h i23
    refine g_nul (fun b24 => ?_) (fun b24 => ?_)
    · replace h := h.1 b24
      exact TX0_returned_94 hl2 h
    · replace h := h.2 b24
      unfold vX0_returned_76
      refine g_ld (v := rf _) rfl (is_R _) ?_
      refine g_ld (v := rf _) rfl (is_R _) ?_
      refine g_getR (kz := 5) (c := 8) q22 rfl (Nat.le_of_ble_eq_true rfl) rfl (by decide) fun i25 => ?_
      replace h := h i25
      refine g_ld (v := rf _) rfl (is_R _) ?_
      refine g_getR (kz := 7) (c := 7) oC0 rfl (Nat.le_of_ble_eq_true rfl) rfl (by decide) fun i26 => ?_
      replace h := h i26
      obtain ⟨q27, h⟩ := h
      refine g_getL (kz := 8) q27 rfl (Nat.le_of_ble_eq_true rfl) rfl fun i28 => ?_
      replace h := h i28
      refine g_callV (As := [_, _]) (ci := 0) oC0 (fun _ => rfl) ?_
      refine g_go1 (Nat.le_of_ble_eq_true rfl) (Tn_w (TX0_wanted i28 h) fun _ G29 ⟨r30, e, i31, h⟩ => ?_)
      subst e
      refine ⟨n7_I _, ?_⟩
      replace h := h i31
      refine g_eq1 ⟨by omega, by omega⟩ (fun b32 => ?_) (fun b32 => ?_)
      · replace h := h.1 b32
        unfold vX0_returned_98
        refine g_const (v := cI (0)) rfl ?_
        exact TX0_returned_99 hl2 ⟨by omega, by omega⟩ h
      · replace h := h.2 b32
        exact TX0_returned_94 hl2 h
  · replace h := h.2 b21
    exact TX0_returned_58 hl2 h
def PX0_returned_30 (l1 : Int) (s0 : Int) (G : gS) (Q : Int → gS → Prop) : Prop :=
  ((G 815 7 = -1 ∨ isO W0 7 (G 815 7)) → (isO W0 7 (G 815 7) ∧ (inI (G (G 815 7) 0) → ((G (G 815 7) 0 = 3 → PX0_returned_58 l1 s0 G Q) ∧ (¬ (G (G 815 7) 0 = 3) → (isO W0 8 (l1) ∧ ((G l1 5 = -1 ∨ isO W0 8 (G l1 5)) → ((G l1 5 < 0 → PX0_returned_55 l1 s0 s0 0 G Q) ∧ (0 ≤ G l1 5 → PX0_returned_55 l1 s0 s0 1 G Q)))))))))
set_option maxRecDepth 20000 in
theorem TX0_returned_30 {l1 : Int} {l2 : Nat} {s0 : Int} {G : gS} {Q : Int → gS → Prop} (hl2 : l2 % 8 ≠ 1) (hs0 : inI s0) (h : PX0_returned_30 l1 s0 G Q) : Tg W0 vX0_returned_30 [rf (815), rf (l1), l2] [cI (s0)] G (fun r G => ∃ v, r = cI v ∧ (0 ≤ v ∧ v ≤ 1) ∧ Q v G) := by
  unfold PX0_returned_30 at h
  unfold vX0_returned_30
  refine g_st (lv' := [_, _, _]) (is_I _) (Nat.le_of_ble_eq_true rfl) (Or.inr (n1_R _)) rfl ?_
  refine g_ld (v := rf _) rfl (is_R _) ?_
  refine g_getR (kz := 7) (c := 7) oC0 rfl (Nat.le_of_ble_eq_true rfl) rfl (by decide) fun i9 => ?_
  replace h := h i9
  obtain ⟨q10, h⟩ := h
  refine g_getI (kz := 0) q10 rfl (Nat.le_of_ble_eq_true rfl) rfl fun i11 => ?_
  replace h := h i11
  refine g_const (v := cI (3)) rfl ?_
  refine g_eq2 i11 ⟨by omega, by omega⟩ (fun b12 => ?_) (fun b12 => ?_)
  · replace h := h.1 b12
    exact TX0_returned_58 hs0 h
  · replace h := h.2 b12
    unfold vX0_returned_42
    refine g_ld (v := cI _) rfl (is_I _) ?_
    refine g_ld (v := rf _) rfl (is_R _) ?_
    obtain ⟨q13, h⟩ := h
    refine g_getR (kz := 5) (c := 8) q13 rfl (Nat.le_of_ble_eq_true rfl) rfl (by decide) fun i14 => ?_
    replace h := h i14
    refine g_nul (fun b15 => ?_) (fun b15 => ?_)
    · replace h := h.1 b15
      unfold vX0_returned_54
      refine g_const (v := cI (0)) rfl ?_
      exact TX0_returned_55 hs0 hs0 ⟨by omega, by omega⟩ h
    · replace h := h.2 b15
      unfold vX0_returned_50
      refine g_const (v := cI (1)) rfl ?_
      exact TX0_returned_55 hs0 hs0 ⟨by omega, by omega⟩ h
def PX0_returned_29 (l1 : Int) (G : gS) (Q : Int → gS → Prop) : Prop :=
  PX0_returned_30 l1 0 G Q
set_option maxRecDepth 20000 in
theorem TX0_returned_29 {l1 : Int} {l2 : Nat} {G : gS} {Q : Int → gS → Prop} (hl2 : l2 % 8 ≠ 1) (h : PX0_returned_29 l1 G Q) : Tg W0 vX0_returned_29 [rf (815), rf (l1), l2] [] G (fun r G => ∃ v, r = cI v ∧ (0 ≤ v ∧ v ≤ 1) ∧ Q v G) := by
  unfold PX0_returned_29 at h
  unfold vX0_returned_29
  refine g_const (v := cI (0)) rfl ?_
  exact TX0_returned_30 hl2 ⟨by omega, by omega⟩ h
def PX0_returned_0 (a1 : Int) (G : gS) (Q : Int → gS → Prop) : Prop :=
  ((G 815 7 = -1 ∨ isO W0 7 (G 815 7)) → (isO W0 7 (G 815 7) ∧ (inI (G (G 815 7) 0) → ((G (G 815 7) 0 = 1 → ((G 815 7 = -1 ∨ isO W0 7 (G 815 7)) → (isO W0 7 (G 815 7) ∧ (inL (G (G 815 7) 8) → ((G (G 815 7) 8 = -3 → PX0_returned_29 a1 G Q) ∧ (¬ (G (G 815 7) 8 = -3) → PX0_returned_30 a1 1 G Q)))))) ∧ (¬ (G (G 815 7) 0 = 1) → PX0_returned_29 a1 G Q)))))
set_option maxRecDepth 20000 in
theorem TX0_returned_0 {a1 : Int} {G : gS} {Q : Int → gS → Prop}  (h : PX0_returned_0 a1 G Q) : Tg W0 vX0_returned_0 [rf (815), rf (a1), 7] [] G (fun r G => ∃ v, r = cI v ∧ (0 ≤ v ∧ v ≤ 1) ∧ Q v G) := by
  unfold PX0_returned_0 at h
  unfold vX0_returned_0
  refine g_ld (v := rf _) rfl (is_R _) ?_
  refine g_getR (kz := 7) (c := 7) oC0 rfl (Nat.le_of_ble_eq_true rfl) rfl (by decide) fun i1 => ?_
  replace h := h i1
  obtain ⟨q2, h⟩ := h
  refine g_getI (kz := 0) q2 rfl (Nat.le_of_ble_eq_true rfl) rfl fun i3 => ?_
  replace h := h i3
  refine g_const (v := cI (1)) rfl ?_
  refine g_eq2 i3 ⟨by omega, by omega⟩ (fun b4 => ?_) (fun b4 => ?_)
  · replace h := h.1 b4
    unfold vX0_returned_11
    refine g_ld (v := rf _) rfl (is_R _) ?_
    refine g_getR (kz := 7) (c := 7) oC0 rfl (Nat.le_of_ble_eq_true rfl) rfl (by decide) fun i5 => ?_
    replace h := h i5
    obtain ⟨q6, h⟩ := h
    refine g_getL (kz := 8) q6 rfl (Nat.le_of_ble_eq_true rfl) rfl fun i7 => ?_
    replace h := h i7
    refine g_const (v := cL (-3)) rfl ?_
    refine g_leq i7 ⟨by omega, by omega⟩ (fun b8 => ?_) (fun b8 => ?_)
    · replace h := h.1 b8
      exact TX0_returned_29 (show 7 % 8 ≠ 1 by decide) h
    · replace h := h.2 b8
      unfold vX0_returned_25
      refine g_const (v := cI (1)) rfl ?_
      exact TX0_returned_30 (show 7 % 8 ≠ 1 by decide) ⟨by omega, by omega⟩ h
  · replace h := h.2 b4
    exact TX0_returned_29 (show 7 % 8 ≠ 1 by decide) h
abbrev PX0_returned (a1 : Int) (G : gS) (Q : Int → gS → Prop) : Prop := PX0_returned_0 a1 G Q
theorem TX0_returned {a1 : Int} {G : gS} {Q : Int → gS → Prop}  (h : PX0_returned a1 G Q) : Tn W0 FX0_returned [rf (815), rf (a1)] G (fun r G => ∃ v, r = cI v ∧ (0 ≤ v ∧ v ≤ 1) ∧ Q v G) := by
  unfold FX0_returned
  refine g_ent (lv' := [rf (815), rf (a1), 7]) (flR (flR fl0)) (Nat.le_of_ble_eq_true rfl) rfl ?_
  exact TX0_returned_0  h
def PX0_superMaker_113 (l1 : Int) (l2 : Int) (s0 : Int) (G : gS) (Q : Int → gS → Prop) : Prop :=
  ((0 ≤ s0 ∧ s0 ≤ 1) ∧ Q (s0) G)
set_option maxRecDepth 20000 in
theorem TX0_superMaker_113 {l1 : Int} {l2 : Int} {s0 : Int} {G : gS} {Q : Int → gS → Prop} (hl2 : inI l2) (hs0 : inI s0) (h : PX0_superMaker_113 l1 l2 s0 G Q) : Tg W0 vX0_superMaker_113 [rf (815), rf (l1), cI (l2)] [cI (s0)] G (fun r G => ∃ v, r = cI v ∧ (0 ≤ v ∧ v ≤ 1) ∧ Q v G) := by
  unfold PX0_superMaker_113 at h
  unfold vX0_superMaker_113
  obtain ⟨q44, h⟩ := h
  exact g_ret1 (is_Z q44) ⟨_, rfl, q44, h⟩
def PX0_superMaker_108 (l1 : Int) (l2 : Int) (G : gS) (Q : Int → gS → Prop) : Prop :=
  PX0_superMaker_113 l1 l2 1 G Q
set_option maxRecDepth 20000 in
theorem TX0_superMaker_108 {l1 : Int} {l2 : Int} {G : gS} {Q : Int → gS → Prop} (hl2 : inI l2) (h : PX0_superMaker_108 l1 l2 G Q) : Tg W0 vX0_superMaker_108 [rf (815), rf (l1), cI (l2)] [] G (fun r G => ∃ v, r = cI v ∧ (0 ≤ v ∧ v ≤ 1) ∧ Q v G) := by
  unfold PX0_superMaker_108 at h
  unfold vX0_superMaker_108
  refine g_const (v := cI (1)) rfl ?_
  exact TX0_superMaker_113 hl2 ⟨by omega, by omega⟩ h
def PX0_superMaker_74 (l1 : Int) (l2 : Int) (s0 : Int) (s1 : Int) (G : gS) (Q : Int → gS → Prop) : Prop :=
  (isO W0 8 (s0) ∧ ((s1 = -1 ∨ isO W0 7 (s1)) ∧ (∀ G31 : gS, G31 = uG G s0 11 (s1) → ((G31 815 5 = -1 ∨ isO W0 10 (G31 815 5)) → (isO W0 10 (G31 815 5) ∧ (inL (G31 (G31 815 5) 8) → (isO W0 8 (l1) ∧ (∀ G36 : gS, G36 = uG G31 l1 10 (G31 (G31 815 5) 8) → ((G36 l1 11 = -1 ∨ isO W0 7 (G36 l1 11)) → ((G36 l1 11 < 0 → (inI (G36 l1 1) → PX0_fail 18 (G36 l1 1) G36 (fun r41 G40 => (0 ≤ r41 ∧ r41 ≤ 1) → ((r41 = 0 → PX0_superMaker_113 l1 l2 0 G40 Q) ∧ (¬ (r41 = 0) → PX0_superMaker_108 l1 l2 G40 Q))))) ∧ (0 ≤ G36 l1 11 → PX0_superMaker_108 l1 l2 G36 Q)))))))))))
set_option maxRecDepth 20000 in
theorem TX0_superMaker_74 {l1 : Int} {l2 : Int} {s0 : Int} {s1 : Int} {G : gS} {Q : Int → gS → Prop} (hl2 : inI l2) (h : PX0_superMaker_74 l1 l2 s0 s1 G Q) : Tg W0 vX0_superMaker_74 [rf (815), rf (l1), cI (l2)] [rf (s1), rf (s0)] G (fun r G => ∃ v, r = cI v ∧ (0 ≤ v ∧ v ≤ 1) ∧ Q v G) := by
  unfold PX0_superMaker_74 at h
  unfold vX0_superMaker_74
  obtain ⟨q29, h⟩ := h
  obtain ⟨q30, h⟩ := h
  refine g_putR (kz := 11) (c := 7) q29 rfl (Nat.le_of_ble_eq_true rfl) rfl (by decide) q30 (nf8_11 q29) ?_
  replace h := h _ rfl
  refine g_ld (v := rf _) rfl (is_R _) ?_
  refine g_ld (v := rf _) rfl (is_R _) ?_
  refine g_getR (kz := 5) (c := 10) oC0 rfl (Nat.le_of_ble_eq_true rfl) rfl (by decide) fun i32 => ?_
  replace h := h i32
  obtain ⟨q33, h⟩ := h
  refine g_getL (kz := 8) q33 rfl (Nat.le_of_ble_eq_true rfl) rfl fun i34 => ?_
  replace h := h i34
  obtain ⟨q35, h⟩ := h
  refine g_putL (kz := 10) q35 rfl (Nat.le_of_ble_eq_true rfl) rfl i34 (nf8_10 q35) ?_
  replace h := h _ rfl
  refine g_ld (v := rf _) rfl (is_R _) ?_
  refine g_getR (kz := 11) (c := 7) q35 rfl (Nat.le_of_ble_eq_true rfl) rfl (by decide) fun i37 => ?_
  replace h := h i37
  refine g_nul (fun b38 => ?_) (fun b38 => ?_)
  · replace h := h.1 b38
    unfold vX0_superMaker_95
    refine g_ld (v := rf _) rfl (is_R _) ?_
    refine g_const (v := cI (18)) rfl ?_
    refine g_ld (v := rf _) rfl (is_R _) ?_
    refine g_getI (kz := 1) q35 rfl (Nat.le_of_ble_eq_true rfl) rfl fun i39 => ?_
    replace h := h i39
    refine g_callV (As := [_, _]) (ci := 0) oC0 (fun _ => rfl) ?_
    refine g_go1 (Nat.le_of_ble_eq_true rfl) (Tn_w (TX0_fail ⟨by omega, by omega⟩ i39 h) fun _ G40 ⟨r41, e, i42, h⟩ => ?_)
    subst e
    refine ⟨n7_I _, ?_⟩
    replace h := h i42
    refine g_eq1 ⟨by omega, by omega⟩ (fun b43 => ?_) (fun b43 => ?_)
    · replace h := h.1 b43
      unfold vX0_superMaker_112
      refine g_const (v := cI (0)) rfl ?_
      exact TX0_superMaker_113 hl2 ⟨by omega, by omega⟩ h
    · replace h := h.2 b43
      exact TX0_superMaker_108 hl2 h
  · replace h := h.2 b38
    exact TX0_superMaker_108 hl2 h
def PX0_superMaker_40 (l1 : Int) (s0 : Int) (G : gS) (Q : Int → gS → Prop) : Prop :=
  ((s0 = 0 → PX0_superMaker_74 l1 s0 l1 (-1) G Q) ∧ (¬ (s0 = 0) → ((G 815 0 = -1 ∨ isO W0 11 (G 815 0)) → (isO W0 11 (G 815 0) ∧ (inI (G 815 6) → ((0 : Int) ≤ G 815 6 ∧ ((G 815 6 : Int) < 64 ∧ (inI (G ((G 815 0) + 2) (G 815 6)) → (isO W0 8 (l1) ∧ ((G l1 5 = -1 ∨ isO W0 8 (G l1 5)) → PX0_meant (G ((G 815 0) + 2) (G 815 6)) (-4) (G l1 5) 1 G (fun r27 G26 => PX0_superMaker_74 l1 s0 l1 r27 G26 Q)))))))))))
set_option maxRecDepth 20000 in
theorem TX0_superMaker_40 {l1 : Int} {l2 : Nat} {s0 : Int} {G : gS} {Q : Int → gS → Prop} (hl2 : l2 % 8 ≠ 1) (hs0 : inI s0) (h : PX0_superMaker_40 l1 s0 G Q) : Tg W0 vX0_superMaker_40 [rf (815), rf (l1), l2] [cI (s0)] G (fun r G => ∃ v, r = cI v ∧ (0 ≤ v ∧ v ≤ 1) ∧ Q v G) := by
  unfold PX0_superMaker_40 at h
  unfold vX0_superMaker_40
  refine g_st (lv' := [_, _, _]) (is_I _) (Nat.le_of_ble_eq_true rfl) (Or.inr (n1_R _)) rfl ?_
  refine g_ld (v := rf _) rfl (is_R _) ?_
  refine g_ld (v := cI _) rfl (is_I _) ?_
  refine g_eq1 hs0 (fun b17 => ?_) (fun b17 => ?_)
  · replace h := h.1 b17
    unfold vX0_superMaker_73
    refine g_const (v := rf (-1)) rfl ?_
    exact TX0_superMaker_74 hs0 h
  · replace h := h.2 b17
    unfold vX0_superMaker_46
    refine g_ld (v := rf _) rfl (is_R _) ?_
    refine g_ld (v := rf _) rfl (is_R _) ?_
    refine g_getR (kz := 0) (c := 11) oC0 rfl (Nat.le_of_ble_eq_true rfl) rfl (by decide) fun i18 => ?_
    replace h := h i18
    obtain ⟨q19, h⟩ := h
    refine g_getF q19 (ff11_3 q19).1 rfl (Nat.le_of_ble_eq_true rfl) (Nat.le_of_ble_eq_true rfl) ?_
    refine g_ld (v := rf _) rfl (is_R _) ?_
    refine g_getI (kz := 6) oC0 rfl (Nat.le_of_ble_eq_true rfl) rfl fun i20 => ?_
    replace h := h i20
    obtain ⟨q21, q22, h⟩ := h
    refine g_aldI (ff11_3 q19).2 q21 q22 rfl fun i23 => ?_
    replace h := h i23
    refine g_const (v := cL (-4)) rfl ?_
    refine g_ld (v := rf _) rfl (is_R _) ?_
    obtain ⟨q24, h⟩ := h
    refine g_getR (kz := 5) (c := 8) q24 rfl (Nat.le_of_ble_eq_true rfl) rfl (by decide) fun i25 => ?_
    replace h := h i25
    refine g_const (v := cI (1)) rfl ?_
    refine g_callV (As := [_, _, _, _]) (ci := 0) oC0 (fun _ => rfl) ?_
    refine g_go1 (by simp only [cs_c, cs_0, ct_I, ct_L, ct_R]; exact Nat.le_of_ble_eq_true rfl) (Tn_w (TX0_meant i23 ⟨by omega, by omega⟩ ⟨by omega, by omega⟩ h) fun _ G26 ⟨r27, e, h⟩ => ?_)
    subst e
    refine ⟨n7_R _, ?_⟩
    exact TX0_superMaker_74 hs0 h
def PX0_superMaker_39 (l1 : Int) (G : gS) (Q : Int → gS → Prop) : Prop :=
  PX0_superMaker_40 l1 0 G Q
set_option maxRecDepth 20000 in
theorem TX0_superMaker_39 {l1 : Int} {l2 : Nat} {G : gS} {Q : Int → gS → Prop} (hl2 : l2 % 8 ≠ 1) (h : PX0_superMaker_39 l1 G Q) : Tg W0 vX0_superMaker_39 [rf (815), rf (l1), l2] [] G (fun r G => ∃ v, r = cI v ∧ (0 ≤ v ∧ v ≤ 1) ∧ Q v G) := by
  unfold PX0_superMaker_39 at h
  unfold vX0_superMaker_39
  refine g_const (v := cI (0)) rfl ?_
  exact TX0_superMaker_40 hl2 ⟨by omega, by omega⟩ h
def PX0_superMaker_0 (a1 : Int) (G : gS) (Q : Int → gS → Prop) : Prop :=
  ((G 815 7 = -1 ∨ isO W0 7 (G 815 7)) → (isO W0 7 (G 815 7) ∧ (inI (G (G 815 7) 0) → ((G (G 815 7) 0 = 2 → ((G 815 7 = -1 ∨ isO W0 7 (G 815 7)) → (isO W0 7 (G 815 7) ∧ ((G (G 815 7) 14 = -1 ∨ isO W0 8 (G (G 815 7) 14)) → ((G (G 815 7) 14 < 0 → PX0_superMaker_39 a1 G Q) ∧ (0 ≤ G (G 815 7) 14 → ((G 815 7 = -1 ∨ isO W0 7 (G 815 7)) → (isO W0 7 (G 815 7) ∧ ((G (G 815 7) 14 = -1 ∨ isO W0 8 (G (G 815 7) 14)) → (isO W0 8 (G (G 815 7) 14) ∧ ((G (G (G 815 7) 14) 5 = -1 ∨ isO W0 8 (G (G (G 815 7) 14) 5)) → ((-1 : Int) ≤ G (G (G 815 7) 14) 5 ∧ ((-1 : Int) ≤ a1 ∧ ((G (G (G 815 7) 14) 5 = a1 → PX0_superMaker_40 a1 1 G Q) ∧ (¬ (G (G (G 815 7) 14) 5 = a1) → PX0_superMaker_39 a1 G Q))))))))))))))) ∧ (¬ (G (G 815 7) 0 = 2) → PX0_superMaker_39 a1 G Q)))))
set_option maxRecDepth 20000 in
theorem TX0_superMaker_0 {a1 : Int} {G : gS} {Q : Int → gS → Prop}  (h : PX0_superMaker_0 a1 G Q) : Tg W0 vX0_superMaker_0 [rf (815), rf (a1), 7] [] G (fun r G => ∃ v, r = cI v ∧ (0 ≤ v ∧ v ≤ 1) ∧ Q v G) := by
  unfold PX0_superMaker_0 at h
  unfold vX0_superMaker_0
  refine g_ld (v := rf _) rfl (is_R _) ?_
  refine g_getR (kz := 7) (c := 7) oC0 rfl (Nat.le_of_ble_eq_true rfl) rfl (by decide) fun i1 => ?_
  replace h := h i1
  obtain ⟨q2, h⟩ := h
  refine g_getI (kz := 0) q2 rfl (Nat.le_of_ble_eq_true rfl) rfl fun i3 => ?_
  replace h := h i3
  refine g_const (v := cI (2)) rfl ?_
  refine g_eq2 i3 ⟨by omega, by omega⟩ (fun b4 => ?_) (fun b4 => ?_)
  · replace h := h.1 b4
    unfold vX0_superMaker_11
    refine g_ld (v := rf _) rfl (is_R _) ?_
    refine g_getR (kz := 7) (c := 7) oC0 rfl (Nat.le_of_ble_eq_true rfl) rfl (by decide) fun i5 => ?_
    replace h := h i5
    obtain ⟨q6, h⟩ := h
    refine g_getR (kz := 14) (c := 8) q6 rfl (Nat.le_of_ble_eq_true rfl) rfl (by decide) fun i7 => ?_
    replace h := h i7
    refine g_nul (fun b8 => ?_) (fun b8 => ?_)
    · replace h := h.1 b8
      exact TX0_superMaker_39 (show 7 % 8 ≠ 1 by decide) h
    · replace h := h.2 b8
      unfold vX0_superMaker_21
      refine g_ld (v := rf _) rfl (is_R _) ?_
      refine g_getR (kz := 7) (c := 7) oC0 rfl (Nat.le_of_ble_eq_true rfl) rfl (by decide) fun i9 => ?_
      replace h := h i9
      obtain ⟨q10, h⟩ := h
      refine g_getR (kz := 14) (c := 8) q10 rfl (Nat.le_of_ble_eq_true rfl) rfl (by decide) fun i11 => ?_
      replace h := h i11
      obtain ⟨q12, h⟩ := h
      refine g_getR (kz := 5) (c := 8) q12 rfl (Nat.le_of_ble_eq_true rfl) rfl (by decide) fun i13 => ?_
      replace h := h i13
      refine g_ld (v := rf _) rfl (is_R _) ?_
      obtain ⟨q14, q15, h⟩ := h
      refine g_acmp q14 q15 (fun b16 => ?_) (fun b16 => ?_)
      · replace h := h.1 b16
        unfold vX0_superMaker_35
        refine g_const (v := cI (1)) rfl ?_
        exact TX0_superMaker_40 (show 7 % 8 ≠ 1 by decide) ⟨by omega, by omega⟩ h
      · replace h := h.2 b16
        exact TX0_superMaker_39 (show 7 % 8 ≠ 1 by decide) h
  · replace h := h.2 b4
    exact TX0_superMaker_39 (show 7 % 8 ≠ 1 by decide) h
abbrev PX0_superMaker (a1 : Int) (G : gS) (Q : Int → gS → Prop) : Prop := PX0_superMaker_0 a1 G Q
theorem TX0_superMaker {a1 : Int} {G : gS} {Q : Int → gS → Prop}  (h : PX0_superMaker a1 G Q) : Tn W0 FX0_superMaker [rf (815), rf (a1)] G (fun r G => ∃ v, r = cI v ∧ (0 ≤ v ∧ v ≤ 1) ∧ Q v G) := by
  unfold FX0_superMaker
  refine g_ent (lv' := [rf (815), rf (a1), 7]) (flR (flR fl0)) (Nat.le_of_ble_eq_true rfl) rfl ?_
  exact TX0_superMaker_0  h
def PX0_superFirst_37 (l0 : Int) (s0 : Int) (G : gS) (Q : Int → gS → Prop) : Prop :=
  ((0 ≤ s0 ∧ s0 ≤ 1) ∧ Q (s0) G)
set_option maxRecDepth 20000 in
theorem TX0_superFirst_37 {l0 : Int} {s0 : Int} {G : gS} {Q : Int → gS → Prop} (hs0 : inI s0) (h : PX0_superFirst_37 l0 s0 G Q) : Tg W0 vX0_superFirst_37 [rf (l0)] [cI (s0)] G (fun r G => ∃ v, r = cI v ∧ (0 ≤ v ∧ v ≤ 1) ∧ Q v G) := by
  unfold PX0_superFirst_37 at h
  unfold vX0_superFirst_37
  obtain ⟨q14, h⟩ := h
  exact g_ret1 (is_Z q14) ⟨_, rfl, q14, h⟩
def PX0_superFirst_36 (l0 : Int) (G : gS) (Q : Int → gS → Prop) : Prop :=
  PX0_superFirst_37 l0 0 G Q
set_option maxRecDepth 20000 in
theorem TX0_superFirst_36 {l0 : Int} {G : gS} {Q : Int → gS → Prop}  (h : PX0_superFirst_36 l0 G Q) : Tg W0 vX0_superFirst_36 [rf (l0)] [] G (fun r G => ∃ v, r = cI v ∧ (0 ≤ v ∧ v ≤ 1) ∧ Q v G) := by
  unfold PX0_superFirst_36 at h
  unfold vX0_superFirst_36
  refine g_const (v := cI (0)) rfl ?_
  exact TX0_superFirst_37 ⟨by omega, by omega⟩ h
def PX0_superFirst_0 (a0 : Int) (G : gS) (Q : Int → gS → Prop) : Prop :=
  (isO W0 7 (a0) ∧ ((G a0 14 = -1 ∨ isO W0 8 (G a0 14)) → ((G a0 14 < 0 → PX0_superFirst_36 a0 G Q) ∧ (0 ≤ G a0 14 → ((G a0 14 = -1 ∨ isO W0 8 (G a0 14)) → (isO W0 8 (G a0 14) ∧ ((G (G a0 14) 5 = -1 ∨ isO W0 8 (G (G a0 14) 5)) → ((G (G a0 14) 5 < 0 → PX0_superFirst_36 a0 G Q) ∧ (0 ≤ G (G a0 14) 5 → ((G a0 14 = -1 ∨ isO W0 8 (G a0 14)) → (isO W0 8 (G a0 14) ∧ ((G (G a0 14) 5 = -1 ∨ isO W0 8 (G (G a0 14) 5)) → (isO W0 8 (G (G a0 14) 5) ∧ (inI (G (G (G a0 14) 5) 0) → ((G (G (G a0 14) 5) 0 = 38 → PX0_superFirst_37 a0 1 G Q) ∧ (¬ (G (G (G a0 14) 5) 0 = 38) → PX0_superFirst_36 a0 G Q))))))))))))))))
set_option maxRecDepth 20000 in
theorem TX0_superFirst_0 {a0 : Int} {G : gS} {Q : Int → gS → Prop}  (h : PX0_superFirst_0 a0 G Q) : Tg W0 vX0_superFirst_0 [rf (a0)] [] G (fun r G => ∃ v, r = cI v ∧ (0 ≤ v ∧ v ≤ 1) ∧ Q v G) := by
  unfold PX0_superFirst_0 at h
  unfold vX0_superFirst_0
  refine g_ld (v := rf _) rfl (is_R _) ?_
  obtain ⟨q1, h⟩ := h
  refine g_getR (kz := 14) (c := 8) q1 rfl (Nat.le_of_ble_eq_true rfl) rfl (by decide) fun i2 => ?_
  replace h := h i2
  refine g_nul (fun b3 => ?_) (fun b3 => ?_)
  · replace h := h.1 b3
    exact TX0_superFirst_36  h
  · replace h := h.2 b3
    unfold vX0_superFirst_7
    refine g_ld (v := rf _) rfl (is_R _) ?_
    refine g_getR (kz := 14) (c := 8) q1 rfl (Nat.le_of_ble_eq_true rfl) rfl (by decide) fun i4 => ?_
    replace h := h i4
    obtain ⟨q5, h⟩ := h
    refine g_getR (kz := 5) (c := 8) q5 rfl (Nat.le_of_ble_eq_true rfl) rfl (by decide) fun i6 => ?_
    replace h := h i6
    refine g_nul (fun b7 => ?_) (fun b7 => ?_)
    · replace h := h.1 b7
      exact TX0_superFirst_36  h
    · replace h := h.2 b7
      unfold vX0_superFirst_17
      refine g_ld (v := rf _) rfl (is_R _) ?_
      refine g_getR (kz := 14) (c := 8) q1 rfl (Nat.le_of_ble_eq_true rfl) rfl (by decide) fun i8 => ?_
      replace h := h i8
      obtain ⟨q9, h⟩ := h
      refine g_getR (kz := 5) (c := 8) q9 rfl (Nat.le_of_ble_eq_true rfl) rfl (by decide) fun i10 => ?_
      replace h := h i10
      obtain ⟨q11, h⟩ := h
      refine g_getI (kz := 0) q11 rfl (Nat.le_of_ble_eq_true rfl) rfl fun i12 => ?_
      replace h := h i12
      refine g_const (v := cI (38)) rfl ?_
      refine g_eq2 i12 ⟨by omega, by omega⟩ (fun b13 => ?_) (fun b13 => ?_)
      · replace h := h.1 b13
        unfold vX0_superFirst_32
        refine g_const (v := cI (1)) rfl ?_
        exact TX0_superFirst_37 ⟨by omega, by omega⟩ h
      · replace h := h.2 b13
        exact TX0_superFirst_36  h
abbrev PX0_superFirst (a0 : Int) (G : gS) (Q : Int → gS → Prop) : Prop := PX0_superFirst_0 a0 G Q
theorem TX0_superFirst {a0 : Int} {G : gS} {Q : Int → gS → Prop}  (h : PX0_superFirst a0 G Q) : Tn W0 FX0_superFirst [rf (a0)] G (fun r G => ∃ v, r = cI v ∧ (0 ≤ v ∧ v ≤ 1) ∧ Q v G) := by
  unfold FX0_superFirst
  refine g_ent (lv' := [rf (a0)]) (flR fl0) (Nat.le_of_ble_eq_true rfl) rfl ?_
  exact TX0_superFirst_0  h
def PX0_foldField_51 (l1 : Int) (l2 : Int) (l4 : Int) (G : gS) (Q : Int → gS → Prop) : Prop :=
  Q (0) G
set_option maxRecDepth 20000 in
theorem TX0_foldField_51 {l1 : Int} {l2 : Int} {l3 : Nat} {l4 : Int} {G : gS} {Q : Int → gS → Prop} (hl1 : inI l1) (hl2 : inL l2) (hl3 : l3 % 8 ≠ 1) (h : PX0_foldField_51 l1 l2 l4 G Q) : Tg W0 vX0_foldField_51 [rf (815), cI (l1), cL (l2), l3, rf (l4)] [] G (fun r G => ∃ v, r = cI v ∧ (0 ≤ v ∧ v ≤ 1) ∧ Q v G) := by
  unfold PX0_foldField_51 at h
  unfold vX0_foldField_51
  refine g_const (v := cI (0)) rfl ?_
  exact g_ret1 (is_Z (by omega)) ⟨_, rfl, (by omega), h⟩
def PX0_foldField_0 (a1 : Int) (a2 : Int) (G : gS) (Q : Int → gS → Prop) : Prop :=
  ((G 815 0 = -1 ∨ isO W0 11 (G 815 0)) → (isO W0 11 (G 815 0) ∧ PX11_fieldIn (G 815 0) a1 a2 (-4) G (fun r4 G3 => ((r4 < 0 → PX0_foldField_51 a1 a2 r4 G3 Q) ∧ (0 ≤ r4 → (isO W0 7 (r4) ∧ ((0 ≤ G3 r4 15 ∧ G3 r4 15 ≤ 1) → ((G3 r4 15 = 0 → PX0_foldField_51 a1 a2 r4 G3 Q) ∧ (¬ (G3 r4 15 = 0) → ((G3 815 0 = -1 ∨ isO W0 11 (G3 815 0)) → ((G3 815 0 = -1 ∨ isO W0 11 (G3 815 0)) → (isO W0 11 (G3 815 0) ∧ (inI (G3 (G3 815 0) 18) → (inI (G3 815 6) → (isO W0 11 (G3 815 0) ∧ PX11_isLet_ (G3 815 0) r4 (G3 (G3 815 0) 18) a1 (G3 815 6) G3 (fun r17 G16 => (0 ≤ r17 ∧ r17 ≤ 1) → ((r17 = 0 → PX0_foldField_51 a1 a2 r4 G16 Q) ∧ (¬ (r17 = 0) → (inI (G16 r4 16) → (∀ G21 : gS, G21 = uG G16 815 16 (G16 r4 16) → Q (1) G21))))))))))))))))))))
set_option maxRecDepth 20000 in
theorem TX0_foldField_0 {a1 : Int} {a2 : Int} {G : gS} {Q : Int → gS → Prop} (ha1 : inI a1) (ha2 : inL a2) (h : PX0_foldField_0 a1 a2 G Q) : Tg W0 vX0_foldField_0 [rf (815), cI (a1), cL (a2), 7, 7] [] G (fun r G => ∃ v, r = cI v ∧ (0 ≤ v ∧ v ≤ 1) ∧ Q v G) := by
  unfold PX0_foldField_0 at h
  unfold vX0_foldField_0
  refine g_ld (v := rf _) rfl (is_R _) ?_
  refine g_getR (kz := 0) (c := 11) oC0 rfl (Nat.le_of_ble_eq_true rfl) rfl (by decide) fun i1 => ?_
  replace h := h i1
  refine g_ld (v := cI _) rfl (is_I _) ?_
  refine g_ld (v := cL _) rfl (is_L _) ?_
  refine g_const (v := cL (-4)) rfl ?_
  obtain ⟨q2, h⟩ := h
  refine g_callV (As := [_, _, _]) (ci := 11) q2 (fun _ => rfl) ?_
  refine g_go1 (Nat.le_of_ble_eq_true rfl) (Tn_w (TX11_fieldIn ha1 ha2 ⟨by omega, by omega⟩ h) fun _ G3 ⟨r4, e, h⟩ => ?_)
  subst e
  refine ⟨n7_R _, ?_⟩
  refine g_st (lv' := [_, _, _, _, _]) (is_R _) (Nat.le_of_ble_eq_true rfl) (Or.inr (show 7 % 8 ≠ 1 by decide)) rfl ?_
  refine g_ld (v := rf _) rfl (is_R _) ?_
  refine g_nul (fun b6 => ?_) (fun b6 => ?_)
  · replace h := h.1 b6
    exact TX0_foldField_51 ha1 ha2 (show 7 % 8 ≠ 1 by decide) h
  · replace h := h.2 b6
    unfold vX0_foldField_19
    refine g_ld (v := rf _) rfl (is_R _) ?_
    obtain ⟨q7, h⟩ := h
    refine g_getZ (kz := 15) q7 rfl (Nat.le_of_ble_eq_true rfl) rfl fun i8 => ?_
    replace h := h i8
    refine g_eq1 ⟨by omega, by omega⟩ (fun b9 => ?_) (fun b9 => ?_)
    · replace h := h.1 b9
      exact TX0_foldField_51 ha1 ha2 (show 7 % 8 ≠ 1 by decide) h
    · replace h := h.2 b9
      unfold vX0_foldField_27
      refine g_ld (v := rf _) rfl (is_R _) ?_
      refine g_getR (kz := 0) (c := 11) oC0 rfl (Nat.le_of_ble_eq_true rfl) rfl (by decide) fun i10 => ?_
      replace h := h i10
      refine g_ld (v := rf _) rfl (is_R _) ?_
      refine g_ld (v := rf _) rfl (is_R _) ?_
      refine g_getR (kz := 0) (c := 11) oC0 rfl (Nat.le_of_ble_eq_true rfl) rfl (by decide) fun i11 => ?_
      replace h := h i11
      obtain ⟨q12, h⟩ := h
      refine g_getI (kz := 18) q12 rfl (Nat.le_of_ble_eq_true rfl) rfl fun i13 => ?_
      replace h := h i13
      refine g_ld (v := cI _) rfl (is_I _) ?_
      refine g_ld (v := rf _) rfl (is_R _) ?_
      refine g_getI (kz := 6) oC0 rfl (Nat.le_of_ble_eq_true rfl) rfl fun i14 => ?_
      replace h := h i14
      obtain ⟨q15, h⟩ := h
      refine g_callV (As := [_, _, _, _]) (ci := 11) q15 (fun _ => rfl) ?_
      refine g_go1 (Nat.le_of_ble_eq_true rfl) (Tn_w (TX11_isLet_ i13 ha1 i14 h) fun _ G16 ⟨r17, e, i18, h⟩ => ?_)
      subst e
      refine ⟨n7_I _, ?_⟩
      replace h := h i18
      refine g_eq1 ⟨by omega, by omega⟩ (fun b19 => ?_) (fun b19 => ?_)
      · replace h := h.1 b19
        exact TX0_foldField_51 ha1 ha2 (show 7 % 8 ≠ 1 by decide) h
      · replace h := h.2 b19
        unfold vX0_foldField_53
        refine g_ld (v := rf _) rfl (is_R _) ?_
        refine g_ld (v := rf _) rfl (is_R _) ?_
        refine g_getI (kz := 16) q7 rfl (Nat.le_of_ble_eq_true rfl) rfl fun i20 => ?_
        replace h := h i20
        refine g_putI (kz := 16) oC0 rfl (Nat.le_of_ble_eq_true rfl) rfl i20 (zfin_no (c := 815) (j := 16) rfl) ?_
        replace h := h _ rfl
        refine g_const (v := cI (1)) rfl ?_
        exact g_ret1 (is_Z (by omega)) ⟨_, rfl, (by omega), h⟩
abbrev PX0_foldField (a1 : Int) (a2 : Int) (G : gS) (Q : Int → gS → Prop) : Prop := PX0_foldField_0 a1 a2 G Q
theorem TX0_foldField {a1 : Int} {a2 : Int} {G : gS} {Q : Int → gS → Prop} (ha1 : inI a1) (ha2 : inL a2) (h : PX0_foldField a1 a2 G Q) : Tn W0 FX0_foldField [rf (815), cI (a1), cL (a2)] G (fun r G => ∃ v, r = cI v ∧ (0 ≤ v ∧ v ≤ 1) ∧ Q v G) := by
  unfold FX0_foldField
  refine g_ent (lv' := [rf (815), cI (a1), cL (a2), 7, 7]) (flR (flI (flL fl0))) (Nat.le_of_ble_eq_true rfl) rfl ?_
  exact TX0_foldField_0 ha1 ha2 h
def PX1_clear_0 (o : Int) (G : gS) (Q : Int → gS → Prop) : Prop :=
  (isO W0 1 (o) ∧ (∀ G2 : gS, G2 = uG G o 3 (0) → (∀ G3 : gS, G3 = uG G2 o 5 (0) → (∀ G4 : gS, G4 = uG G3 o 7 (0) → (∀ G5 : gS, G5 = uG G4 o 15 (0) → (∀ G6 : gS, G6 = uG G5 o 17 (0) → Q 0 G6))))))
set_option maxRecDepth 20000 in
theorem TX1_clear_0 {o : Int} {G : gS} {Q : Int → gS → Prop}  (h : PX1_clear_0 o G Q) : Tg W0 vX1_clear_0 [rf (o)] [] G (fun r G => r = 7 ∧ Q 0 G) := by
  unfold PX1_clear_0 at h
  unfold vX1_clear_0
  refine g_ld (v := rf _) rfl (is_R _) ?_
  refine g_const (v := cI (0)) rfl ?_
  obtain ⟨q1, h⟩ := h
  refine g_putI (kz := 3) q1 rfl (Nat.le_of_ble_eq_true rfl) rfl ⟨by omega, by omega⟩ (nf1_3 q1) ?_
  replace h := h _ rfl
  refine g_ld (v := rf _) rfl (is_R _) ?_
  refine g_const (v := cI (0)) rfl ?_
  refine g_putI (kz := 5) q1 rfl (Nat.le_of_ble_eq_true rfl) rfl ⟨by omega, by omega⟩ (nf1_5 q1) ?_
  replace h := h _ rfl
  refine g_ld (v := rf _) rfl (is_R _) ?_
  refine g_const (v := cI (0)) rfl ?_
  refine g_putI (kz := 7) q1 rfl (Nat.le_of_ble_eq_true rfl) rfl ⟨by omega, by omega⟩ (nf1_7 q1) ?_
  replace h := h _ rfl
  refine g_ld (v := rf _) rfl (is_R _) ?_
  refine g_const (v := cI (0)) rfl ?_
  refine g_putI (kz := 15) q1 rfl (Nat.le_of_ble_eq_true rfl) rfl ⟨by omega, by omega⟩ (nf1_15 q1) ?_
  replace h := h _ rfl
  refine g_ld (v := rf _) rfl (is_R _) ?_
  refine g_const (v := cI (0)) rfl ?_
  refine g_putI (kz := 17) q1 rfl (Nat.le_of_ble_eq_true rfl) rfl ⟨by omega, by omega⟩ (nf1_17 q1) ?_
  replace h := h _ rfl
  exact g_ret0 ⟨rfl, h⟩
abbrev PX1_clear (o : Int) (G : gS) (Q : Int → gS → Prop) : Prop := PX1_clear_0 o G Q
theorem TX1_clear {o : Int} {G : gS} {Q : Int → gS → Prop}  (h : PX1_clear o G Q) : Tn W0 FX1_clear [rf (o)] G (fun r G => r = 7 ∧ Q 0 G) := by
  unfold FX1_clear
  refine g_ent (lv' := [rf (o)]) (flR fl0) (Nat.le_of_ble_eq_true rfl) rfl ?_
  exact TX1_clear_0  h
def PX1_indexOf_2 (J : Nat → List Int → gS → (Int → gS → Prop) → Prop) (o : Int) (l1 : Int) (l2 : Int) (G : gS) (Q : Int → gS → Prop) : Prop :=
  (isO W0 1 (o) ∧ (inI (G o 3) → ((l2 < G o 3 → (((G o 2 = -1 ∨ ∃ n, isA W0 4 n (G o 2)) ∧ ∀ v, W0.2 o 2 = some v → G o 2 = v) → (∃ n5, isA W0 4 n5 (G o 2) ∧ ((0 : Int) ≤ l2 ∧ ((l2 : Int) < n5 ∧ (((G (G o 2) l2 = -1 ∨ isO W0 10 (G (G o 2) l2)) ∧ ∀ v, W0.2 (G o 2) l2 = some v → G (G o 2) l2 = v) → ((-1 : Int) ≤ G (G o 2) l2 ∧ ((-1 : Int) ≤ l1 ∧ ((G (G o 2) l2 = l1 → Q (l2) G) ∧ (¬ (G (G o 2) l2 = l1) → (inI (l2 + 1) ∧ J 0 [o, l1, l2 + 1] G Q))))))))))) ∧ (¬ (l2 < G o 3) → Q (-2) G))))
set_option maxRecDepth 20000 in
theorem TX1_indexOf_2 {j : Nat → rx_K} {J : Nat → List Int → gS → (Int → gS → Prop) → Prop} {o : Int} {l1 : Int} {l2 : Int} {G : gS} {Q : Int → gS → Prop} (hl2 : inI l2) (hj0 : ∀ (o : Int) (l1 : Int) (l2 : Int) (G : gS), (inI l2) → J 0 [o, l1, l2] G Q → Tg W0 (j 0) [rf (o), rf (l1), cI (l2)] [] G (fun r G => ∃ v, r = cI v ∧ inI v ∧ Q v G)) (h : PX1_indexOf_2 J o l1 l2 G Q) : Tg W0 (vX1_indexOf_2 j) [rf (o), rf (l1), cI (l2)] [] G (fun r G => ∃ v, r = cI v ∧ inI v ∧ Q v G) := by
  unfold PX1_indexOf_2 at h
  unfold vX1_indexOf_2
  refine g_ld (v := cI _) rfl (is_I _) ?_
  refine g_ld (v := rf _) rfl (is_R _) ?_
  obtain ⟨q1, h⟩ := h
  refine g_getI (kz := 3) q1 rfl (Nat.le_of_ble_eq_true rfl) rfl fun i2 => ?_
  replace h := h i2
  refine g_lt2 hl2 i2 (fun b3 => ?_) (fun b3 => ?_)
  · replace h := h.1 b3
    unfold vX1_indexOf_10
    refine g_ld (v := rf _) rfl (is_R _) ?_
    refine g_getAF (kz := 2) (c := 4) q1 rfl (Nat.le_of_ble_eq_true rfl) rfl fun i4 => ?_
    replace h := h i4
    refine g_ld (v := cI _) rfl (is_I _) ?_
    obtain ⟨n5, q6, h⟩ := h
    obtain ⟨q7, q8, h⟩ := h
    refine g_aldRF (c := 10) q6 q7 q8 rfl (by decide) fun i9 => ?_
    replace h := h i9
    refine g_ld (v := rf _) rfl (is_R _) ?_
    obtain ⟨q10, q11, h⟩ := h
    refine g_acmp q10 q11 (fun b12 => ?_) (fun b12 => ?_)
    · replace h := h.1 b12
      unfold vX1_indexOf_20
      refine g_ld (v := cI _) rfl (is_I _) ?_
      exact g_ret1 (is_I _) ⟨_, rfl, hl2, h⟩
    · replace h := h.2 b12
      unfold vX1_indexOf_22
      refine g_inc (lv' := [_, _, _]) rfl (Nat.le_of_ble_eq_true rfl) (Or.inr (n1_R _)) rfl ?_
      obtain ⟨q13, h⟩ := h
      exact hj0 _ _ _ _ q13 h
  · replace h := h.2 b3
    unfold vX1_indexOf_28
    refine g_const (v := cI (-2)) rfl ?_
    exact g_ret1 (is_I _) ⟨_, rfl, ⟨by omega, by omega⟩, h⟩
def PX1_indexOf_0 (J : Nat → List Int → gS → (Int → gS → Prop) → Prop) (o : Int) (a1 : Int) (G : gS) (Q : Int → gS → Prop) : Prop :=
  PX1_indexOf_2 J o a1 0 G Q
set_option maxRecDepth 20000 in
theorem TX1_indexOf_0 {j : Nat → rx_K} {J : Nat → List Int → gS → (Int → gS → Prop) → Prop} {o : Int} {a1 : Int} {G : gS} {Q : Int → gS → Prop}  (hj0 : ∀ (o : Int) (l1 : Int) (l2 : Int) (G : gS), (inI l2) → J 0 [o, l1, l2] G Q → Tg W0 (j 0) [rf (o), rf (l1), cI (l2)] [] G (fun r G => ∃ v, r = cI v ∧ inI v ∧ Q v G)) (h : PX1_indexOf_0 J o a1 G Q) : Tg W0 (vX1_indexOf_0 j) [rf (o), rf (a1), 7] [] G (fun r G => ∃ v, r = cI v ∧ inI v ∧ Q v G) := by
  unfold PX1_indexOf_0 at h
  unfold vX1_indexOf_0
  refine g_const (v := cI (0)) rfl ?_
  refine g_st (lv' := [_, _, _]) (is_I _) (Nat.le_of_ble_eq_true rfl) (Or.inr (n1_R _)) rfl ?_
  exact TX1_indexOf_2 ⟨by omega, by omega⟩ hj0 h
def PX1_indexOf_J : Nat → Nat → List Int → gS → (Int → gS → Prop) → Prop
  | 0, _, _, _, _ => False
  | f + 1, h, L, G, Q => match h, L with
    | 0, [o, l1, l2] => PX1_indexOf_2 (PX1_indexOf_J f) o l1 l2 G Q
    | _, _ => False
theorem TX1_indexOf_J {Q : Int → gS → Prop} : ∀ f N : Nat, f ≤ N → (∀ (o : Int) (l1 : Int) (l2 : Int) (G : gS), (inI l2) → (PX1_indexOf_J f) 0 [o, l1, l2] G Q → Tg W0 (rx_J vhX1_indexOf N 0) [rf (o), rf (l1), cI (l2)] [] G (fun r G => ∃ v, r = cI v ∧ inI v ∧ Q v G)) := by
  intro f
  induction f with
  | zero => exact fun N _ => fun _ _ _ _ _ h => h.elim
  | succ f ih =>
    intro N hN
    obtain ⟨M, rfl⟩ : ∃ M, N = M + 1 := ⟨N - 1, by omega⟩
    have ih := ih M (by omega)
    exact fun _ _ _ _ hl2 h => show Tg W0 (vX1_indexOf_2 (rx_J vhX1_indexOf M)) _ _ _ _ from TX1_indexOf_2 hl2 ih h
def PX1_indexOf (o : Int) (a1 : Int) (G : gS) (Q : Int → gS → Prop) : Prop := ∃ f : Nat, f ≤ 4000000000 ∧ PX1_indexOf_0 (PX1_indexOf_J f) o a1 G Q
theorem TX1_indexOf {o : Int} {a1 : Int} {G : gS} {Q : Int → gS → Prop}  (h : PX1_indexOf o a1 G Q) : Tn W0 FX1_indexOf [rf (o), rf (a1)] G (fun r G => ∃ v, r = cI v ∧ inI v ∧ Q v G) := by
  obtain ⟨f, hf, h⟩ := h
  have hJ := TX1_indexOf_J (Q := Q) f 4000000000 hf
  unfold FX1_indexOf
  refine g_ent (lv' := [rf (o), rf (a1), 7]) (flR (flR fl0)) (Nat.le_of_ble_eq_true rfl) rfl ?_
  exact TX1_indexOf_0  hJ h
def PX1_named_2 (J : Nat → List Int → gS → (Int → gS → Prop) → Prop) (o : Int) (l1 : Int) (l3 : Int) (G : gS) (Q : Int → gS → Prop) : Prop :=
  (isO W0 1 (o) ∧ (inI (G o 3) → ((l3 < G o 3 → (((G o 2 = -1 ∨ ∃ n, isA W0 4 n (G o 2)) ∧ ∀ v, W0.2 o 2 = some v → G o 2 = v) → (∃ n5, isA W0 4 n5 (G o 2) ∧ ((0 : Int) ≤ l3 ∧ ((l3 : Int) < n5 ∧ (((G (G o 2) l3 = -1 ∨ isO W0 10 (G (G o 2) l3)) ∧ ∀ v, W0.2 (G o 2) l3 = some v → G (G o 2) l3 = v) → (isO W0 10 (G (G o 2) l3) ∧ (inL (G (G (G o 2) l3) 1) → ((G (G (G o 2) l3) 1 = l1 → (((G o 2 = -1 ∨ ∃ n, isA W0 4 n (G o 2)) ∧ ∀ v, W0.2 o 2 = some v → G o 2 = v) → (∃ n14, isA W0 4 n14 (G o 2) ∧ ((0 : Int) ≤ l3 ∧ ((l3 : Int) < n14 ∧ (((G (G o 2) l3 = -1 ∨ isO W0 10 (G (G o 2) l3)) ∧ ∀ v, W0.2 (G o 2) l3 = some v → G (G o 2) l3 = v) → Q (G (G o 2) l3) G)))))) ∧ (¬ (G (G (G o 2) l3) 1 = l1) → (inI (l3 + 1) ∧ J 0 [o, l1, l3 + 1] G Q))))))))))) ∧ (¬ (l3 < G o 3) → Q (-1) G))))
set_option maxRecDepth 20000 in
theorem TX1_named_2 {j : Nat → rx_K} {J : Nat → List Int → gS → (Int → gS → Prop) → Prop} {o : Int} {l1 : Int} {l2 : Nat} {l3 : Int} {G : gS} {Q : Int → gS → Prop} (hl1 : inL l1) (hl2 : l2 % 8 ≠ 1) (hl3 : inI l3) (hj0 : ∀ (o : Int) (l1 : Int) (l2 : Nat) (l3 : Int) (G : gS), (inL l1) → (l2 % 8 ≠ 1) → (inI l3) → J 0 [o, l1, l3] G Q → Tg W0 (j 0) [rf (o), cL (l1), l2, cI (l3)] [] G (fun r G => ∃ v, r = rf v ∧ Q v G)) (h : PX1_named_2 J o l1 l3 G Q) : Tg W0 (vX1_named_2 j) [rf (o), cL (l1), l2, cI (l3)] [] G (fun r G => ∃ v, r = rf v ∧ Q v G) := by
  unfold PX1_named_2 at h
  unfold vX1_named_2
  refine g_ld (v := cI _) rfl (is_I _) ?_
  refine g_ld (v := rf _) rfl (is_R _) ?_
  obtain ⟨q1, h⟩ := h
  refine g_getI (kz := 3) q1 rfl (Nat.le_of_ble_eq_true rfl) rfl fun i2 => ?_
  replace h := h i2
  refine g_lt2 hl3 i2 (fun b3 => ?_) (fun b3 => ?_)
  · replace h := h.1 b3
    unfold vX1_named_10
    refine g_ld (v := rf _) rfl (is_R _) ?_
    refine g_getAF (kz := 2) (c := 4) q1 rfl (Nat.le_of_ble_eq_true rfl) rfl fun i4 => ?_
    replace h := h i4
    refine g_ld (v := cI _) rfl (is_I _) ?_
    obtain ⟨n5, q6, h⟩ := h
    obtain ⟨q7, q8, h⟩ := h
    refine g_aldRF (c := 10) q6 q7 q8 rfl (by decide) fun i9 => ?_
    replace h := h i9
    obtain ⟨q10, h⟩ := h
    refine g_getL (kz := 1) q10 rfl (Nat.le_of_ble_eq_true rfl) rfl fun i11 => ?_
    replace h := h i11
    refine g_ld (v := cL _) rfl (is_L _) ?_
    refine g_leq i11 hl1 (fun b12 => ?_) (fun b12 => ?_)
    · replace h := h.1 b12
      unfold vX1_named_24
      refine g_ld (v := rf _) rfl (is_R _) ?_
      refine g_getAF (kz := 2) (c := 4) q1 rfl (Nat.le_of_ble_eq_true rfl) rfl fun i13 => ?_
      replace h := h i13
      refine g_ld (v := cI _) rfl (is_I _) ?_
      obtain ⟨n14, q15, h⟩ := h
      obtain ⟨q16, q17, h⟩ := h
      refine g_aldRF (c := 10) q15 q16 q17 rfl (by decide) fun i18 => ?_
      replace h := h i18
      exact g_ret1 (is_R _) ⟨_, rfl, h⟩
    · replace h := h.2 b12
      unfold vX1_named_31
      refine g_inc (lv' := [_, _, _, _]) rfl (Nat.le_of_ble_eq_true rfl) (Or.inr hl2) rfl ?_
      obtain ⟨q19, h⟩ := h
      exact hj0 _ _ _ _ _ hl1 hl2 q19 h
  · replace h := h.2 b3
    unfold vX1_named_37
    refine g_const (v := rf (-1)) rfl ?_
    exact g_ret1 (is_R _) ⟨_, rfl, h⟩
def PX1_named_0 (J : Nat → List Int → gS → (Int → gS → Prop) → Prop) (o : Int) (a1 : Int) (G : gS) (Q : Int → gS → Prop) : Prop :=
  PX1_named_2 J o a1 0 G Q
set_option maxRecDepth 20000 in
theorem TX1_named_0 {j : Nat → rx_K} {J : Nat → List Int → gS → (Int → gS → Prop) → Prop} {o : Int} {a1 : Int} {G : gS} {Q : Int → gS → Prop} (ha1 : inL a1) (hj0 : ∀ (o : Int) (l1 : Int) (l2 : Nat) (l3 : Int) (G : gS), (inL l1) → (l2 % 8 ≠ 1) → (inI l3) → J 0 [o, l1, l3] G Q → Tg W0 (j 0) [rf (o), cL (l1), l2, cI (l3)] [] G (fun r G => ∃ v, r = rf v ∧ Q v G)) (h : PX1_named_0 J o a1 G Q) : Tg W0 (vX1_named_0 j) [rf (o), cL (a1), 7, 7] [] G (fun r G => ∃ v, r = rf v ∧ Q v G) := by
  unfold PX1_named_0 at h
  unfold vX1_named_0
  refine g_const (v := cI (0)) rfl ?_
  refine g_st (lv' := [_, _, _, _]) (is_I _) (Nat.le_of_ble_eq_true rfl) (Or.inr (show 7 % 8 ≠ 1 by decide)) rfl ?_
  exact TX1_named_2 ha1 (show 7 % 8 ≠ 1 by decide) ⟨by omega, by omega⟩ hj0 h
def PX1_named_J : Nat → Nat → List Int → gS → (Int → gS → Prop) → Prop
  | 0, _, _, _, _ => False
  | f + 1, h, L, G, Q => match h, L with
    | 0, [o, l1, l3] => PX1_named_2 (PX1_named_J f) o l1 l3 G Q
    | _, _ => False
theorem TX1_named_J {Q : Int → gS → Prop} : ∀ f N : Nat, f ≤ N → (∀ (o : Int) (l1 : Int) (l2 : Nat) (l3 : Int) (G : gS), (inL l1) → (l2 % 8 ≠ 1) → (inI l3) → (PX1_named_J f) 0 [o, l1, l3] G Q → Tg W0 (rx_J vhX1_named N 0) [rf (o), cL (l1), l2, cI (l3)] [] G (fun r G => ∃ v, r = rf v ∧ Q v G)) := by
  intro f
  induction f with
  | zero => exact fun N _ => fun _ _ _ _ _ _ _ _ h => h.elim
  | succ f ih =>
    intro N hN
    obtain ⟨M, rfl⟩ : ∃ M, N = M + 1 := ⟨N - 1, by omega⟩
    have ih := ih M (by omega)
    exact fun _ _ _ _ _ hl1 hl2 hl3 h => show Tg W0 (vX1_named_2 (rx_J vhX1_named M)) _ _ _ _ from TX1_named_2 hl1 hl2 hl3 ih h
def PX1_named (o : Int) (a1 : Int) (G : gS) (Q : Int → gS → Prop) : Prop := ∃ f : Nat, f ≤ 4000000000 ∧ PX1_named_0 (PX1_named_J f) o a1 G Q
theorem TX1_named {o : Int} {a1 : Int} {G : gS} {Q : Int → gS → Prop} (ha1 : inL a1) (h : PX1_named o a1 G Q) : Tn W0 FX1_named [rf (o), cL (a1)] G (fun r G => ∃ v, r = rf v ∧ Q v G) := by
  obtain ⟨f, hf, h⟩ := h
  have hJ := TX1_named_J (Q := Q) f 4000000000 hf
  unfold FX1_named
  refine g_ent (lv' := [rf (o), cL (a1), 7, 7]) (flR (flL fl0)) (Nat.le_of_ble_eq_true rfl) rfl ?_
  exact TX1_named_0 ha1 hJ h
def PX1_emit_0 (o : Int) (a1 : Int) (a2 : Int) (G : gS) (Q : Int → gS → Prop) : Prop :=
  (isO W0 1 (o) ∧ (inI (G o 17) → (((G o 16 = -1 ∨ ∃ n, isA W0 0 n (G o 16)) ∧ ∀ v, W0.2 o 16 = some v → G o 16 = v) → (∃ n4, isA W0 0 n4 (G o 16) ∧ (inI ((G o 17) + 2) ∧ (inI (n4) ∧ ((n4 < (G o 17) + 2 → Q (-2) G) ∧ (¬ (n4 < (G o 17) + 2) → (((G o 16 = -1 ∨ ∃ n, isA W0 0 n (G o 16)) ∧ ∀ v, W0.2 o 16 = some v → G o 16 = v) → (inI (G o 17) → (∃ n11, isA W0 0 n11 (G o 16) ∧ ((0 : Int) ≤ G o 17 ∧ ((G o 17 : Int) < n11 ∧ (∀ G15 : gS, G15 = uG G (G o 16) (G o 17) (a1) → (((G15 o 16 = -1 ∨ ∃ n, isA W0 0 n (G15 o 16)) ∧ ∀ v, W0.2 o 16 = some v → G15 o 16 = v) → (inI (G15 o 17) → (∃ n18, isA W0 0 n18 (G15 o 16) ∧ ((0 : Int) ≤ (G15 o 17) + 1 ∧ (((G15 o 17) + 1 : Int) < n18 ∧ (∀ G22 : gS, G22 = uG G15 (G15 o 16) ((G15 o 17) + 1) (a2) → (inI (G22 o 17) → (inI ((G22 o 17) + 2) ∧ (∀ G25 : gS, G25 = uG G22 o 17 ((G22 o 17) + 2) → (inI (G25 o 17) → (inI ((G25 o 17) - 1) ∧ Q ((G25 o 17) - 1) G25)))))))))))))))))))))))))
set_option maxRecDepth 20000 in
theorem TX1_emit_0 {o : Int} {a1 : Int} {a2 : Int} {G : gS} {Q : Int → gS → Prop} (ha1 : inI a1) (ha2 : inI a2) (h : PX1_emit_0 o a1 a2 G Q) : Tg W0 vX1_emit_0 [rf (o), cI (a1), cI (a2)] [] G (fun r G => ∃ v, r = cI v ∧ inI v ∧ Q v G) := by
  unfold PX1_emit_0 at h
  unfold vX1_emit_0
  refine g_ld (v := rf _) rfl (is_R _) ?_
  obtain ⟨q1, h⟩ := h
  refine g_getI (kz := 17) q1 rfl (Nat.le_of_ble_eq_true rfl) rfl fun i2 => ?_
  replace h := h i2
  refine g_const (v := cI (2)) rfl ?_
  refine g_add ?_
  refine g_ld (v := rf _) rfl (is_R _) ?_
  refine g_getAF (kz := 16) (c := 0) q1 rfl (Nat.le_of_ble_eq_true rfl) rfl fun i3 => ?_
  replace h := h i3
  obtain ⟨n4, q5, h⟩ := h
  refine g_alen q5 ?_
  obtain ⟨q6, h⟩ := h
  obtain ⟨q7, h⟩ := h
  refine g_gt2 q6 q7 (fun b8 => ?_) (fun b8 => ?_)
  · replace h := h.1 b8
    unfold vX1_emit_14
    refine g_const (v := cI (-2)) rfl ?_
    exact g_ret1 (is_I _) ⟨_, rfl, ⟨by omega, by omega⟩, h⟩
  · replace h := h.2 b8
    unfold vX1_emit_17
    refine g_ld (v := rf _) rfl (is_R _) ?_
    refine g_getAF (kz := 16) (c := 0) q1 rfl (Nat.le_of_ble_eq_true rfl) rfl fun i9 => ?_
    replace h := h i9
    refine g_ld (v := rf _) rfl (is_R _) ?_
    refine g_getI (kz := 17) q1 rfl (Nat.le_of_ble_eq_true rfl) rfl fun i10 => ?_
    replace h := h i10
    refine g_ld (v := cI _) rfl (is_I _) ?_
    obtain ⟨n11, q12, h⟩ := h
    obtain ⟨q13, q14, h⟩ := h
    refine g_astI q12 q13 q14 ha1 (nfI q12) ?_
    replace h := h _ rfl
    refine g_ld (v := rf _) rfl (is_R _) ?_
    refine g_getAF (kz := 16) (c := 0) q1 rfl (Nat.le_of_ble_eq_true rfl) rfl fun i16 => ?_
    replace h := h i16
    refine g_ld (v := rf _) rfl (is_R _) ?_
    refine g_getI (kz := 17) q1 rfl (Nat.le_of_ble_eq_true rfl) rfl fun i17 => ?_
    replace h := h i17
    refine g_const (v := cI (1)) rfl ?_
    refine g_add ?_
    refine g_ld (v := cI _) rfl (is_I _) ?_
    obtain ⟨n18, q19, h⟩ := h
    obtain ⟨q20, q21, h⟩ := h
    refine g_astI q19 q20 q21 ha2 (nfI q19) ?_
    replace h := h _ rfl
    refine g_ld (v := rf _) rfl (is_R _) ?_
    refine g_dup (ct_R _) ?_
    refine g_getI (kz := 17) q1 rfl (Nat.le_of_ble_eq_true rfl) rfl fun i23 => ?_
    replace h := h i23
    refine g_const (v := cI (2)) rfl ?_
    refine g_add ?_
    obtain ⟨q24, h⟩ := h
    refine g_putI (kz := 17) q1 rfl (Nat.le_of_ble_eq_true rfl) rfl q24 (nf1_17 q1) ?_
    replace h := h _ rfl
    refine g_ld (v := rf _) rfl (is_R _) ?_
    refine g_getI (kz := 17) q1 rfl (Nat.le_of_ble_eq_true rfl) rfl fun i26 => ?_
    replace h := h i26
    refine g_const (v := cI (1)) rfl ?_
    refine g_sub ?_
    unfold vX1_emit_55
    obtain ⟨q27, h⟩ := h
    exact g_ret1 (is_I _) ⟨_, rfl, q27, h⟩
abbrev PX1_emit (o : Int) (a1 : Int) (a2 : Int) (G : gS) (Q : Int → gS → Prop) : Prop := PX1_emit_0 o a1 a2 G Q
theorem TX1_emit {o : Int} {a1 : Int} {a2 : Int} {G : gS} {Q : Int → gS → Prop} (ha1 : inI a1) (ha2 : inI a2) (h : PX1_emit o a1 a2 G Q) : Tn W0 FX1_emit [rf (o), cI (a1), cI (a2)] G (fun r G => ∃ v, r = cI v ∧ inI v ∧ Q v G) := by
  unfold FX1_emit
  refine g_ent (lv' := [rf (o), cI (a1), cI (a2)]) (flR (flI (flI fl0))) (Nat.le_of_ble_eq_true rfl) rfl ?_
  exact TX1_emit_0 ha1 ha2 h
def PX1_patch_23 (o : Int) (l1 : Int) (G : gS) (Q : Int → gS → Prop) : Prop :=
  Q 0 G
set_option maxRecDepth 20000 in
theorem TX1_patch_23 {o : Int} {l1 : Int} {G : gS} {Q : Int → gS → Prop} (hl1 : inI l1) (h : PX1_patch_23 o l1 G Q) : Tg W0 vX1_patch_23 [rf (o), cI (l1)] [] G (fun r G => r = 7 ∧ Q 0 G) := by
  unfold PX1_patch_23 at h
  unfold vX1_patch_23
  exact g_ret0 ⟨rfl, h⟩
def PX1_patch_0 (o : Int) (a1 : Int) (G : gS) (Q : Int → gS → Prop) : Prop :=
  ((a1 < 0 → PX1_patch_23 o a1 G Q) ∧ (¬ (a1 < 0) → (isO W0 1 (o) ∧ (((G o 16 = -1 ∨ ∃ n, isA W0 0 n (G o 16)) ∧ ∀ v, W0.2 o 16 = some v → G o 16 = v) → (∃ n4, isA W0 0 n4 (G o 16) ∧ (inI (n4) ∧ ((a1 < n4 → (((G o 16 = -1 ∨ ∃ n, isA W0 0 n (G o 16)) ∧ ∀ v, W0.2 o 16 = some v → G o 16 = v) → (inI (G o 17) → (∃ n10, isA W0 0 n10 (G o 16) ∧ ((0 : Int) ≤ a1 ∧ ((a1 : Int) < n10 ∧ (∀ G14 : gS, G14 = uG G (G o 16) a1 (G o 17) → PX1_patch_23 o a1 G14 Q))))))) ∧ (¬ (a1 < n4) → PX1_patch_23 o a1 G Q))))))))
set_option maxRecDepth 20000 in
theorem TX1_patch_0 {o : Int} {a1 : Int} {G : gS} {Q : Int → gS → Prop} (ha1 : inI a1) (h : PX1_patch_0 o a1 G Q) : Tg W0 vX1_patch_0 [rf (o), cI (a1)] [] G (fun r G => r = 7 ∧ Q 0 G) := by
  unfold PX1_patch_0 at h
  unfold vX1_patch_0
  refine g_ld (v := cI _) rfl (is_I _) ?_
  refine g_lt1 ha1 (fun b1 => ?_) (fun b1 => ?_)
  · replace h := h.1 b1
    exact TX1_patch_23 ha1 h
  · replace h := h.2 b1
    unfold vX1_patch_4
    refine g_ld (v := cI _) rfl (is_I _) ?_
    refine g_ld (v := rf _) rfl (is_R _) ?_
    obtain ⟨q2, h⟩ := h
    refine g_getAF (kz := 16) (c := 0) q2 rfl (Nat.le_of_ble_eq_true rfl) rfl fun i3 => ?_
    replace h := h i3
    obtain ⟨n4, q5, h⟩ := h
    refine g_alen q5 ?_
    obtain ⟨q6, h⟩ := h
    refine g_lt2 ha1 q6 (fun b7 => ?_) (fun b7 => ?_)
    · replace h := h.1 b7
      unfold vX1_patch_13
      refine g_ld (v := rf _) rfl (is_R _) ?_
      refine g_getAF (kz := 16) (c := 0) q2 rfl (Nat.le_of_ble_eq_true rfl) rfl fun i8 => ?_
      replace h := h i8
      refine g_ld (v := cI _) rfl (is_I _) ?_
      refine g_ld (v := rf _) rfl (is_R _) ?_
      refine g_getI (kz := 17) q2 rfl (Nat.le_of_ble_eq_true rfl) rfl fun i9 => ?_
      replace h := h i9
      obtain ⟨n10, q11, h⟩ := h
      obtain ⟨q12, q13, h⟩ := h
      refine g_astI q11 q12 q13 i9 (nfI q11) ?_
      replace h := h _ rfl
      exact TX1_patch_23 ha1 h
    · replace h := h.2 b7
      exact TX1_patch_23 ha1 h
abbrev PX1_patch (o : Int) (a1 : Int) (G : gS) (Q : Int → gS → Prop) : Prop := PX1_patch_0 o a1 G Q
theorem TX1_patch {o : Int} {a1 : Int} {G : gS} {Q : Int → gS → Prop} (ha1 : inI a1) (h : PX1_patch o a1 G Q) : Tn W0 FX1_patch [rf (o), cI (a1)] G (fun r G => r = 7 ∧ Q 0 G) := by
  unfold FX1_patch
  refine g_ent (lv' := [rf (o), cI (a1)]) (flR (flI fl0)) (Nat.le_of_ble_eq_true rfl) rfl ?_
  exact TX1_patch_0 ha1 h
def PX2_breaks_0 (a0 : Int) (G : gS) (Q : Int → gS → Prop) : Prop :=
  ((a0 = 1 → Q (1) G) ∧ (a0 = 2 → Q (1) G) ∧ (a0 = 3 → Q (1) G) ∧ (a0 = 4 → Q (0) G) ∧ (a0 = 5 → Q (1) G) ∧ (a0 = 6 → Q (0) G) ∧ (a0 = 7 → Q (1) G) ∧ (a0 = 8 → Q (0) G) ∧ (a0 = 9 → Q (1) G) ∧ (a0 = 10 → Q (1) G) ∧ (a0 = 11 → Q (0) G) ∧ (a0 = 12 → Q (0) G) ∧ (a0 = 13 → Q (1) G) ∧ (a0 = 14 → Q (0) G) ∧ (a0 = 15 → Q (0) G) ∧ (a0 = 16 → Q (0) G) ∧ (a0 = 17 → Q (0) G) ∧ (a0 = 18 → Q (0) G) ∧ (a0 = 19 → Q (0) G) ∧ (a0 = 20 → Q (1) G) ∧ (a0 = 21 → Q (1) G) ∧ (a0 = 22 → Q (1) G) ∧ (a0 = 23 → Q (1) G) ∧ (a0 = 24 → Q (0) G) ∧ (a0 = 25 → Q (1) G) ∧ (a0 = 26 → Q (0) G) ∧ (a0 = 27 → Q (0) G) ∧ (a0 = 28 → Q (0) G) ∧ (a0 = 29 → Q (0) G) ∧ (a0 = 30 → Q (1) G) ∧ (a0 = 31 → Q (1) G) ∧ (a0 = 32 → Q (1) G) ∧ (a0 = 33 → Q (1) G) ∧ (a0 = 34 → Q (0) G) ∧ (a0 = 35 → Q (1) G) ∧ (a0 = 36 → Q (0) G) ∧ (a0 = 37 → Q (1) G) ∧ (a0 = 38 → Q (0) G) ∧ (a0 = 39 → Q (0) G) ∧ (a0 = 40 → Q (0) G) ∧ (a0 = 41 → Q (1) G) ∧ (a0 = 42 → Q (0) G) ∧ (a0 = 43 → Q (0) G) ∧ (a0 = 44 → Q (0) G) ∧ (a0 = 45 → Q (0) G) ∧ (a0 = 46 → Q (0) G) ∧ (a0 = 47 → Q (0) G) ∧ (a0 = 48 → Q (0) G) ∧ (a0 = 49 → Q (0) G) ∧ (a0 = 50 → Q (1) G) ∧ (a0 = 51 → Q (1) G) ∧ ((a0 < 1 ∨ 52 ≤ a0) → Q (0) G))
set_option maxRecDepth 20000 in
theorem TX2_breaks_0 {a0 : Int} {G : gS} {Q : Int → gS → Prop} (ha0 : inI a0) (h : PX2_breaks_0 a0 G Q) : Tg W0 vX2_breaks_0 [cI (a0)] [] G (fun r G => ∃ v, r = cI v ∧ (0 ≤ v ∧ v ≤ 1) ∧ Q v G) := by
  unfold PX2_breaks_0 at h
  unfold vX2_breaks_0
  refine g_ld (v := cI _) rfl (is_I _) ?_
  rcases (show a0 = 1 ∨ a0 = 2 ∨ a0 = 3 ∨ a0 = 4 ∨ a0 = 5 ∨ a0 = 6 ∨ a0 = 7 ∨ a0 = 8 ∨ a0 = 9 ∨ a0 = 10 ∨ a0 = 11 ∨ a0 = 12 ∨ a0 = 13 ∨ a0 = 14 ∨ a0 = 15 ∨ a0 = 16 ∨ a0 = 17 ∨ a0 = 18 ∨ a0 = 19 ∨ a0 = 20 ∨ a0 = 21 ∨ a0 = 22 ∨ a0 = 23 ∨ a0 = 24 ∨ a0 = 25 ∨ a0 = 26 ∨ a0 = 27 ∨ a0 = 28 ∨ a0 = 29 ∨ a0 = 30 ∨ a0 = 31 ∨ a0 = 32 ∨ a0 = 33 ∨ a0 = 34 ∨ a0 = 35 ∨ a0 = 36 ∨ a0 = 37 ∨ a0 = 38 ∨ a0 = 39 ∨ a0 = 40 ∨ a0 = 41 ∨ a0 = 42 ∨ a0 = 43 ∨ a0 = 44 ∨ a0 = 45 ∨ a0 = 46 ∨ a0 = 47 ∨ a0 = 48 ∨ a0 = 49 ∨ a0 = 50 ∨ a0 = 51 ∨ (a0 < 1 ∨ 52 ≤ a0) by omega) with b1 | b1 | b1 | b1 | b1 | b1 | b1 | b1 | b1 | b1 | b1 | b1 | b1 | b1 | b1 | b1 | b1 | b1 | b1 | b1 | b1 | b1 | b1 | b1 | b1 | b1 | b1 | b1 | b1 | b1 | b1 | b1 | b1 | b1 | b1 | b1 | b1 | b1 | b1 | b1 | b1 | b1 | b1 | b1 | b1 | b1 | b1 | b1 | b1 | b1 | b1 | b1
  · replace h := h.1 b1
    refine g_swI (n := 0) b1 (by omega) ?_
    show Tg W0 (vX2_breaks_220) _ _ _ _
    unfold vX2_breaks_220
    refine g_const (v := cI (1)) rfl ?_
    exact g_ret1 (is_Z (by omega)) ⟨_, rfl, (by omega), h⟩
  · replace h := h.2.1 b1
    refine g_swI (n := 1) b1 (by omega) ?_
    show Tg W0 (vX2_breaks_220) _ _ _ _
    unfold vX2_breaks_220
    refine g_const (v := cI (1)) rfl ?_
    exact g_ret1 (is_Z (by omega)) ⟨_, rfl, (by omega), h⟩
  · replace h := h.2.2.1 b1
    refine g_swI (n := 2) b1 (by omega) ?_
    show Tg W0 (vX2_breaks_220) _ _ _ _
    unfold vX2_breaks_220
    refine g_const (v := cI (1)) rfl ?_
    exact g_ret1 (is_Z (by omega)) ⟨_, rfl, (by omega), h⟩
  · replace h := h.2.2.2.1 b1
    refine g_swI (n := 3) b1 (by omega) ?_
    show Tg W0 (vX2_breaks_222) _ _ _ _
    unfold vX2_breaks_222
    refine g_const (v := cI (0)) rfl ?_
    exact g_ret1 (is_Z (by omega)) ⟨_, rfl, (by omega), h⟩
  · replace h := h.2.2.2.2.1 b1
    refine g_swI (n := 4) b1 (by omega) ?_
    show Tg W0 (vX2_breaks_220) _ _ _ _
    unfold vX2_breaks_220
    refine g_const (v := cI (1)) rfl ?_
    exact g_ret1 (is_Z (by omega)) ⟨_, rfl, (by omega), h⟩
  · replace h := h.2.2.2.2.2.1 b1
    refine g_swI (n := 5) b1 (by omega) ?_
    show Tg W0 (vX2_breaks_222) _ _ _ _
    unfold vX2_breaks_222
    refine g_const (v := cI (0)) rfl ?_
    exact g_ret1 (is_Z (by omega)) ⟨_, rfl, (by omega), h⟩
  · replace h := h.2.2.2.2.2.2.1 b1
    refine g_swI (n := 6) b1 (by omega) ?_
    show Tg W0 (vX2_breaks_220) _ _ _ _
    unfold vX2_breaks_220
    refine g_const (v := cI (1)) rfl ?_
    exact g_ret1 (is_Z (by omega)) ⟨_, rfl, (by omega), h⟩
  · replace h := h.2.2.2.2.2.2.2.1 b1
    refine g_swI (n := 7) b1 (by omega) ?_
    show Tg W0 (vX2_breaks_222) _ _ _ _
    unfold vX2_breaks_222
    refine g_const (v := cI (0)) rfl ?_
    exact g_ret1 (is_Z (by omega)) ⟨_, rfl, (by omega), h⟩
  · replace h := h.2.2.2.2.2.2.2.2.1 b1
    refine g_swI (n := 8) b1 (by omega) ?_
    show Tg W0 (vX2_breaks_220) _ _ _ _
    unfold vX2_breaks_220
    refine g_const (v := cI (1)) rfl ?_
    exact g_ret1 (is_Z (by omega)) ⟨_, rfl, (by omega), h⟩
  · replace h := h.2.2.2.2.2.2.2.2.2.1 b1
    refine g_swI (n := 9) b1 (by omega) ?_
    show Tg W0 (vX2_breaks_220) _ _ _ _
    unfold vX2_breaks_220
    refine g_const (v := cI (1)) rfl ?_
    exact g_ret1 (is_Z (by omega)) ⟨_, rfl, (by omega), h⟩
  · replace h := h.2.2.2.2.2.2.2.2.2.2.1 b1
    refine g_swI (n := 10) b1 (by omega) ?_
    show Tg W0 (vX2_breaks_222) _ _ _ _
    unfold vX2_breaks_222
    refine g_const (v := cI (0)) rfl ?_
    exact g_ret1 (is_Z (by omega)) ⟨_, rfl, (by omega), h⟩
  · replace h := h.2.2.2.2.2.2.2.2.2.2.2.1 b1
    refine g_swI (n := 11) b1 (by omega) ?_
    show Tg W0 (vX2_breaks_222) _ _ _ _
    unfold vX2_breaks_222
    refine g_const (v := cI (0)) rfl ?_
    exact g_ret1 (is_Z (by omega)) ⟨_, rfl, (by omega), h⟩
  · replace h := h.2.2.2.2.2.2.2.2.2.2.2.2.1 b1
    refine g_swI (n := 12) b1 (by omega) ?_
    show Tg W0 (vX2_breaks_220) _ _ _ _
    unfold vX2_breaks_220
    refine g_const (v := cI (1)) rfl ?_
    exact g_ret1 (is_Z (by omega)) ⟨_, rfl, (by omega), h⟩
  · replace h := h.2.2.2.2.2.2.2.2.2.2.2.2.2.1 b1
    refine g_swI (n := 13) b1 (by omega) ?_
    show Tg W0 (vX2_breaks_222) _ _ _ _
    unfold vX2_breaks_222
    refine g_const (v := cI (0)) rfl ?_
    exact g_ret1 (is_Z (by omega)) ⟨_, rfl, (by omega), h⟩
  · replace h := h.2.2.2.2.2.2.2.2.2.2.2.2.2.2.1 b1
    refine g_swI (n := 14) b1 (by omega) ?_
    show Tg W0 (vX2_breaks_222) _ _ _ _
    unfold vX2_breaks_222
    refine g_const (v := cI (0)) rfl ?_
    exact g_ret1 (is_Z (by omega)) ⟨_, rfl, (by omega), h⟩
  · replace h := h.2.2.2.2.2.2.2.2.2.2.2.2.2.2.2.1 b1
    refine g_swI (n := 15) b1 (by omega) ?_
    show Tg W0 (vX2_breaks_222) _ _ _ _
    unfold vX2_breaks_222
    refine g_const (v := cI (0)) rfl ?_
    exact g_ret1 (is_Z (by omega)) ⟨_, rfl, (by omega), h⟩
  · replace h := h.2.2.2.2.2.2.2.2.2.2.2.2.2.2.2.2.1 b1
    refine g_swI (n := 16) b1 (by omega) ?_
    show Tg W0 (vX2_breaks_222) _ _ _ _
    unfold vX2_breaks_222
    refine g_const (v := cI (0)) rfl ?_
    exact g_ret1 (is_Z (by omega)) ⟨_, rfl, (by omega), h⟩
  · replace h := h.2.2.2.2.2.2.2.2.2.2.2.2.2.2.2.2.2.1 b1
    refine g_swI (n := 17) b1 (by omega) ?_
    show Tg W0 (vX2_breaks_222) _ _ _ _
    unfold vX2_breaks_222
    refine g_const (v := cI (0)) rfl ?_
    exact g_ret1 (is_Z (by omega)) ⟨_, rfl, (by omega), h⟩
  · replace h := h.2.2.2.2.2.2.2.2.2.2.2.2.2.2.2.2.2.2.1 b1
    refine g_swI (n := 18) b1 (by omega) ?_
    show Tg W0 (vX2_breaks_222) _ _ _ _
    unfold vX2_breaks_222
    refine g_const (v := cI (0)) rfl ?_
    exact g_ret1 (is_Z (by omega)) ⟨_, rfl, (by omega), h⟩
  · replace h := h.2.2.2.2.2.2.2.2.2.2.2.2.2.2.2.2.2.2.2.1 b1
    refine g_swI (n := 19) b1 (by omega) ?_
    show Tg W0 (vX2_breaks_220) _ _ _ _
    unfold vX2_breaks_220
    refine g_const (v := cI (1)) rfl ?_
    exact g_ret1 (is_Z (by omega)) ⟨_, rfl, (by omega), h⟩
  · replace h := h.2.2.2.2.2.2.2.2.2.2.2.2.2.2.2.2.2.2.2.2.1 b1
    refine g_swI (n := 20) b1 (by omega) ?_
    show Tg W0 (vX2_breaks_220) _ _ _ _
    unfold vX2_breaks_220
    refine g_const (v := cI (1)) rfl ?_
    exact g_ret1 (is_Z (by omega)) ⟨_, rfl, (by omega), h⟩
  · replace h := h.2.2.2.2.2.2.2.2.2.2.2.2.2.2.2.2.2.2.2.2.2.1 b1
    refine g_swI (n := 21) b1 (by omega) ?_
    show Tg W0 (vX2_breaks_220) _ _ _ _
    unfold vX2_breaks_220
    refine g_const (v := cI (1)) rfl ?_
    exact g_ret1 (is_Z (by omega)) ⟨_, rfl, (by omega), h⟩
  · replace h := h.2.2.2.2.2.2.2.2.2.2.2.2.2.2.2.2.2.2.2.2.2.2.1 b1
    refine g_swI (n := 22) b1 (by omega) ?_
    show Tg W0 (vX2_breaks_220) _ _ _ _
    unfold vX2_breaks_220
    refine g_const (v := cI (1)) rfl ?_
    exact g_ret1 (is_Z (by omega)) ⟨_, rfl, (by omega), h⟩
  · replace h := h.2.2.2.2.2.2.2.2.2.2.2.2.2.2.2.2.2.2.2.2.2.2.2.1 b1
    refine g_swI (n := 23) b1 (by omega) ?_
    show Tg W0 (vX2_breaks_222) _ _ _ _
    unfold vX2_breaks_222
    refine g_const (v := cI (0)) rfl ?_
    exact g_ret1 (is_Z (by omega)) ⟨_, rfl, (by omega), h⟩
  · replace h := h.2.2.2.2.2.2.2.2.2.2.2.2.2.2.2.2.2.2.2.2.2.2.2.2.1 b1
    refine g_swI (n := 24) b1 (by omega) ?_
    show Tg W0 (vX2_breaks_220) _ _ _ _
    unfold vX2_breaks_220
    refine g_const (v := cI (1)) rfl ?_
    exact g_ret1 (is_Z (by omega)) ⟨_, rfl, (by omega), h⟩
  · replace h := h.2.2.2.2.2.2.2.2.2.2.2.2.2.2.2.2.2.2.2.2.2.2.2.2.2.1 b1
    refine g_swI (n := 25) b1 (by omega) ?_
    show Tg W0 (vX2_breaks_222) _ _ _ _
    unfold vX2_breaks_222
    refine g_const (v := cI (0)) rfl ?_
    exact g_ret1 (is_Z (by omega)) ⟨_, rfl, (by omega), h⟩
  · replace h := h.2.2.2.2.2.2.2.2.2.2.2.2.2.2.2.2.2.2.2.2.2.2.2.2.2.2.1 b1
    refine g_swI (n := 26) b1 (by omega) ?_
    show Tg W0 (vX2_breaks_222) _ _ _ _
    unfold vX2_breaks_222
    refine g_const (v := cI (0)) rfl ?_
    exact g_ret1 (is_Z (by omega)) ⟨_, rfl, (by omega), h⟩
  · replace h := h.2.2.2.2.2.2.2.2.2.2.2.2.2.2.2.2.2.2.2.2.2.2.2.2.2.2.2.1 b1
    refine g_swI (n := 27) b1 (by omega) ?_
    show Tg W0 (vX2_breaks_222) _ _ _ _
    unfold vX2_breaks_222
    refine g_const (v := cI (0)) rfl ?_
    exact g_ret1 (is_Z (by omega)) ⟨_, rfl, (by omega), h⟩
  · replace h := h.2.2.2.2.2.2.2.2.2.2.2.2.2.2.2.2.2.2.2.2.2.2.2.2.2.2.2.2.1 b1
    refine g_swI (n := 28) b1 (by omega) ?_
    show Tg W0 (vX2_breaks_222) _ _ _ _
    unfold vX2_breaks_222
    refine g_const (v := cI (0)) rfl ?_
    exact g_ret1 (is_Z (by omega)) ⟨_, rfl, (by omega), h⟩
  · replace h := h.2.2.2.2.2.2.2.2.2.2.2.2.2.2.2.2.2.2.2.2.2.2.2.2.2.2.2.2.2.1 b1
    refine g_swI (n := 29) b1 (by omega) ?_
    show Tg W0 (vX2_breaks_220) _ _ _ _
    unfold vX2_breaks_220
    refine g_const (v := cI (1)) rfl ?_
    exact g_ret1 (is_Z (by omega)) ⟨_, rfl, (by omega), h⟩
  · replace h := h.2.2.2.2.2.2.2.2.2.2.2.2.2.2.2.2.2.2.2.2.2.2.2.2.2.2.2.2.2.2.1 b1
    refine g_swI (n := 30) b1 (by omega) ?_
    show Tg W0 (vX2_breaks_220) _ _ _ _
    unfold vX2_breaks_220
    refine g_const (v := cI (1)) rfl ?_
    exact g_ret1 (is_Z (by omega)) ⟨_, rfl, (by omega), h⟩
  · replace h := h.2.2.2.2.2.2.2.2.2.2.2.2.2.2.2.2.2.2.2.2.2.2.2.2.2.2.2.2.2.2.2.1 b1
    refine g_swI (n := 31) b1 (by omega) ?_
    show Tg W0 (vX2_breaks_220) _ _ _ _
    unfold vX2_breaks_220
    refine g_const (v := cI (1)) rfl ?_
    exact g_ret1 (is_Z (by omega)) ⟨_, rfl, (by omega), h⟩
  · replace h := h.2.2.2.2.2.2.2.2.2.2.2.2.2.2.2.2.2.2.2.2.2.2.2.2.2.2.2.2.2.2.2.2.1 b1
    refine g_swI (n := 32) b1 (by omega) ?_
    show Tg W0 (vX2_breaks_220) _ _ _ _
    unfold vX2_breaks_220
    refine g_const (v := cI (1)) rfl ?_
    exact g_ret1 (is_Z (by omega)) ⟨_, rfl, (by omega), h⟩
  · replace h := h.2.2.2.2.2.2.2.2.2.2.2.2.2.2.2.2.2.2.2.2.2.2.2.2.2.2.2.2.2.2.2.2.2.1 b1
    refine g_swI (n := 33) b1 (by omega) ?_
    show Tg W0 (vX2_breaks_222) _ _ _ _
    unfold vX2_breaks_222
    refine g_const (v := cI (0)) rfl ?_
    exact g_ret1 (is_Z (by omega)) ⟨_, rfl, (by omega), h⟩
  · replace h := h.2.2.2.2.2.2.2.2.2.2.2.2.2.2.2.2.2.2.2.2.2.2.2.2.2.2.2.2.2.2.2.2.2.2.1 b1
    refine g_swI (n := 34) b1 (by omega) ?_
    show Tg W0 (vX2_breaks_220) _ _ _ _
    unfold vX2_breaks_220
    refine g_const (v := cI (1)) rfl ?_
    exact g_ret1 (is_Z (by omega)) ⟨_, rfl, (by omega), h⟩
  · replace h := h.2.2.2.2.2.2.2.2.2.2.2.2.2.2.2.2.2.2.2.2.2.2.2.2.2.2.2.2.2.2.2.2.2.2.2.1 b1
    refine g_swI (n := 35) b1 (by omega) ?_
    show Tg W0 (vX2_breaks_222) _ _ _ _
    unfold vX2_breaks_222
    refine g_const (v := cI (0)) rfl ?_
    exact g_ret1 (is_Z (by omega)) ⟨_, rfl, (by omega), h⟩
  · replace h := h.2.2.2.2.2.2.2.2.2.2.2.2.2.2.2.2.2.2.2.2.2.2.2.2.2.2.2.2.2.2.2.2.2.2.2.2.1 b1
    refine g_swI (n := 36) b1 (by omega) ?_
    show Tg W0 (vX2_breaks_220) _ _ _ _
    unfold vX2_breaks_220
    refine g_const (v := cI (1)) rfl ?_
    exact g_ret1 (is_Z (by omega)) ⟨_, rfl, (by omega), h⟩
  · replace h := h.2.2.2.2.2.2.2.2.2.2.2.2.2.2.2.2.2.2.2.2.2.2.2.2.2.2.2.2.2.2.2.2.2.2.2.2.2.1 b1
    refine g_swI (n := 37) b1 (by omega) ?_
    show Tg W0 (vX2_breaks_222) _ _ _ _
    unfold vX2_breaks_222
    refine g_const (v := cI (0)) rfl ?_
    exact g_ret1 (is_Z (by omega)) ⟨_, rfl, (by omega), h⟩
  · replace h := h.2.2.2.2.2.2.2.2.2.2.2.2.2.2.2.2.2.2.2.2.2.2.2.2.2.2.2.2.2.2.2.2.2.2.2.2.2.2.1 b1
    refine g_swI (n := 38) b1 (by omega) ?_
    show Tg W0 (vX2_breaks_222) _ _ _ _
    unfold vX2_breaks_222
    refine g_const (v := cI (0)) rfl ?_
    exact g_ret1 (is_Z (by omega)) ⟨_, rfl, (by omega), h⟩
  · replace h := h.2.2.2.2.2.2.2.2.2.2.2.2.2.2.2.2.2.2.2.2.2.2.2.2.2.2.2.2.2.2.2.2.2.2.2.2.2.2.2.1 b1
    refine g_swI (n := 39) b1 (by omega) ?_
    show Tg W0 (vX2_breaks_222) _ _ _ _
    unfold vX2_breaks_222
    refine g_const (v := cI (0)) rfl ?_
    exact g_ret1 (is_Z (by omega)) ⟨_, rfl, (by omega), h⟩
  · replace h := h.2.2.2.2.2.2.2.2.2.2.2.2.2.2.2.2.2.2.2.2.2.2.2.2.2.2.2.2.2.2.2.2.2.2.2.2.2.2.2.2.1 b1
    refine g_swI (n := 40) b1 (by omega) ?_
    show Tg W0 (vX2_breaks_220) _ _ _ _
    unfold vX2_breaks_220
    refine g_const (v := cI (1)) rfl ?_
    exact g_ret1 (is_Z (by omega)) ⟨_, rfl, (by omega), h⟩
  · replace h := h.2.2.2.2.2.2.2.2.2.2.2.2.2.2.2.2.2.2.2.2.2.2.2.2.2.2.2.2.2.2.2.2.2.2.2.2.2.2.2.2.2.1 b1
    refine g_swI (n := 41) b1 (by omega) ?_
    show Tg W0 (vX2_breaks_222) _ _ _ _
    unfold vX2_breaks_222
    refine g_const (v := cI (0)) rfl ?_
    exact g_ret1 (is_Z (by omega)) ⟨_, rfl, (by omega), h⟩
  · replace h := h.2.2.2.2.2.2.2.2.2.2.2.2.2.2.2.2.2.2.2.2.2.2.2.2.2.2.2.2.2.2.2.2.2.2.2.2.2.2.2.2.2.2.1 b1
    refine g_swI (n := 42) b1 (by omega) ?_
    show Tg W0 (vX2_breaks_222) _ _ _ _
    unfold vX2_breaks_222
    refine g_const (v := cI (0)) rfl ?_
    exact g_ret1 (is_Z (by omega)) ⟨_, rfl, (by omega), h⟩
  · replace h := h.2.2.2.2.2.2.2.2.2.2.2.2.2.2.2.2.2.2.2.2.2.2.2.2.2.2.2.2.2.2.2.2.2.2.2.2.2.2.2.2.2.2.2.1 b1
    refine g_swI (n := 43) b1 (by omega) ?_
    show Tg W0 (vX2_breaks_222) _ _ _ _
    unfold vX2_breaks_222
    refine g_const (v := cI (0)) rfl ?_
    exact g_ret1 (is_Z (by omega)) ⟨_, rfl, (by omega), h⟩
  · replace h := h.2.2.2.2.2.2.2.2.2.2.2.2.2.2.2.2.2.2.2.2.2.2.2.2.2.2.2.2.2.2.2.2.2.2.2.2.2.2.2.2.2.2.2.2.1 b1
    refine g_swI (n := 44) b1 (by omega) ?_
    show Tg W0 (vX2_breaks_222) _ _ _ _
    unfold vX2_breaks_222
    refine g_const (v := cI (0)) rfl ?_
    exact g_ret1 (is_Z (by omega)) ⟨_, rfl, (by omega), h⟩
  · replace h := h.2.2.2.2.2.2.2.2.2.2.2.2.2.2.2.2.2.2.2.2.2.2.2.2.2.2.2.2.2.2.2.2.2.2.2.2.2.2.2.2.2.2.2.2.2.1 b1
    refine g_swI (n := 45) b1 (by omega) ?_
    show Tg W0 (vX2_breaks_222) _ _ _ _
    unfold vX2_breaks_222
    refine g_const (v := cI (0)) rfl ?_
    exact g_ret1 (is_Z (by omega)) ⟨_, rfl, (by omega), h⟩
  · replace h := h.2.2.2.2.2.2.2.2.2.2.2.2.2.2.2.2.2.2.2.2.2.2.2.2.2.2.2.2.2.2.2.2.2.2.2.2.2.2.2.2.2.2.2.2.2.2.1 b1
    refine g_swI (n := 46) b1 (by omega) ?_
    show Tg W0 (vX2_breaks_222) _ _ _ _
    unfold vX2_breaks_222
    refine g_const (v := cI (0)) rfl ?_
    exact g_ret1 (is_Z (by omega)) ⟨_, rfl, (by omega), h⟩
  · replace h := h.2.2.2.2.2.2.2.2.2.2.2.2.2.2.2.2.2.2.2.2.2.2.2.2.2.2.2.2.2.2.2.2.2.2.2.2.2.2.2.2.2.2.2.2.2.2.2.1 b1
    refine g_swI (n := 47) b1 (by omega) ?_
    show Tg W0 (vX2_breaks_222) _ _ _ _
    unfold vX2_breaks_222
    refine g_const (v := cI (0)) rfl ?_
    exact g_ret1 (is_Z (by omega)) ⟨_, rfl, (by omega), h⟩
  · replace h := h.2.2.2.2.2.2.2.2.2.2.2.2.2.2.2.2.2.2.2.2.2.2.2.2.2.2.2.2.2.2.2.2.2.2.2.2.2.2.2.2.2.2.2.2.2.2.2.2.1 b1
    refine g_swI (n := 48) b1 (by omega) ?_
    show Tg W0 (vX2_breaks_222) _ _ _ _
    unfold vX2_breaks_222
    refine g_const (v := cI (0)) rfl ?_
    exact g_ret1 (is_Z (by omega)) ⟨_, rfl, (by omega), h⟩
  · replace h := h.2.2.2.2.2.2.2.2.2.2.2.2.2.2.2.2.2.2.2.2.2.2.2.2.2.2.2.2.2.2.2.2.2.2.2.2.2.2.2.2.2.2.2.2.2.2.2.2.2.1 b1
    refine g_swI (n := 49) b1 (by omega) ?_
    show Tg W0 (vX2_breaks_220) _ _ _ _
    unfold vX2_breaks_220
    refine g_const (v := cI (1)) rfl ?_
    exact g_ret1 (is_Z (by omega)) ⟨_, rfl, (by omega), h⟩
  · replace h := h.2.2.2.2.2.2.2.2.2.2.2.2.2.2.2.2.2.2.2.2.2.2.2.2.2.2.2.2.2.2.2.2.2.2.2.2.2.2.2.2.2.2.2.2.2.2.2.2.2.2.1 b1
    refine g_swI (n := 50) b1 (by omega) ?_
    show Tg W0 (vX2_breaks_220) _ _ _ _
    unfold vX2_breaks_220
    refine g_const (v := cI (1)) rfl ?_
    exact g_ret1 (is_Z (by omega)) ⟨_, rfl, (by omega), h⟩
  · replace h := h.2.2.2.2.2.2.2.2.2.2.2.2.2.2.2.2.2.2.2.2.2.2.2.2.2.2.2.2.2.2.2.2.2.2.2.2.2.2.2.2.2.2.2.2.2.2.2.2.2.2.2 b1
    refine g_swD (m := 51) ha0 rfl b1 (by omega) ?_
    show Tg W0 (vX2_breaks_222) _ _ _ _
    unfold vX2_breaks_222
    refine g_const (v := cI (0)) rfl ?_
    exact g_ret1 (is_Z (by omega)) ⟨_, rfl, (by omega), h⟩
abbrev PX2_breaks (a0 : Int) (G : gS) (Q : Int → gS → Prop) : Prop := PX2_breaks_0 a0 G Q
theorem TX2_breaks {a0 : Int} {G : gS} {Q : Int → gS → Prop} (ha0 : inI a0) (h : PX2_breaks a0 G Q) : Tn W0 FX2_breaks [cI (a0)] G (fun r G => ∃ v, r = cI v ∧ (0 ≤ v ∧ v ≤ 1) ∧ Q v G) := by
  unfold FX2_breaks
  refine g_ent (lv' := [cI (a0)]) (flI fl0) (Nat.le_of_ble_eq_true rfl) rfl ?_
  exact TX2_breaks_0 ha0 h
end DE

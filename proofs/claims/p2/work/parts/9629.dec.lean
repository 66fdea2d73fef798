section DE
def PX13_local_108 (J : Nat → List Int → gS → (Int → gS → Prop) → Prop) (l1 : Int) (l3 : Int) (l5 : Int) (l6 : Int) (s0 : Int) (s1 : Int) (s2 : Int) (G : gS) (Q : Int → gS → Prop) : Prop :=
  (∃ n33, isA W0 0 n33 (s0) ∧ ((0 : Int) ≤ s1 ∧ ((s1 : Int) < n33 ∧ (∀ G37 : gS, G37 = uG G s0 s1 (s2) → Q 0 G37))))
set_option maxRecDepth 20000 in
theorem TX13_local_108 {j : Nat → rx_K} {J : Nat → List Int → gS → (Int → gS → Prop) → Prop} {l1 : Int} {l2 : Nat} {l3 : Int} {l4 : Nat} {l5 : Int} {l6 : Int} {s0 : Int} {s1 : Int} {s2 : Int} {G : gS} {Q : Int → gS → Prop} (hl1 : inL l1) (hl2 : l2 % 8 ≠ 1) (hl3 : inL l3) (hl4 : l4 % 8 ≠ 1) (hl5 : inI l5) (hl6 : inI l6) (hs1 : inI s1) (hs2 : inI s2) (hj0 : ∀ (l1 : Int) (l2 : Nat) (l3 : Int) (l4 : Nat) (l5 : Int) (l6 : Int) (G : gS), (inL l1) → (l2 % 8 ≠ 1) → (inL l3) → (l4 % 8 ≠ 1) → (inI l5) → (inI l6) → J 0 [l1, l3, l5, l6] G Q → Tg W0 (j 0) [rf (16081), cL (l1), l2, cL (l3), l4, cI (l5), cI (l6)] [] G (fun r G => r = 7 ∧ Q 0 G)) (h : PX13_local_108 J l1 l3 l5 l6 s0 s1 s2 G Q) : Tg W0 (vX13_local_108 j) [rf (16081), cL (l1), l2, cL (l3), l4, cI (l5), cI (l6)] [cI (s2), cI (s1), rf (s0)] G (fun r G => r = 7 ∧ Q 0 G) := by
  unfold PX13_local_108 at h
  unfold vX13_local_108
  obtain ⟨n33, q34, h⟩ := h
  obtain ⟨q35, q36, h⟩ := h
  refine g_astI q34 q35 q36 hs2 (nfI q34) ?_
  replace h := h _ rfl
  exact g_ret0 ⟨rfl, h⟩
def PX13_local_32 (J : Nat → List Int → gS → (Int → gS → Prop) → Prop) (l1 : Int) (l3 : Int) (l5 : Int) (l6 : Int) (G : gS) (Q : Int → gS → Prop) : Prop :=
  (inI (l6 + 1) ∧ J 0 [l1, l3, l5, l6 + 1] G Q)
set_option maxRecDepth 20000 in
theorem TX13_local_32 {j : Nat → rx_K} {J : Nat → List Int → gS → (Int → gS → Prop) → Prop} {l1 : Int} {l2 : Nat} {l3 : Int} {l4 : Nat} {l5 : Int} {l6 : Int} {G : gS} {Q : Int → gS → Prop} (hl1 : inL l1) (hl2 : l2 % 8 ≠ 1) (hl3 : inL l3) (hl4 : l4 % 8 ≠ 1) (hl5 : inI l5) (hl6 : inI l6) (hj0 : ∀ (l1 : Int) (l2 : Nat) (l3 : Int) (l4 : Nat) (l5 : Int) (l6 : Int) (G : gS), (inL l1) → (l2 % 8 ≠ 1) → (inL l3) → (l4 % 8 ≠ 1) → (inI l5) → (inI l6) → J 0 [l1, l3, l5, l6] G Q → Tg W0 (j 0) [rf (16081), cL (l1), l2, cL (l3), l4, cI (l5), cI (l6)] [] G (fun r G => r = 7 ∧ Q 0 G)) (h : PX13_local_32 J l1 l3 l5 l6 G Q) : Tg W0 (vX13_local_32 j) [rf (16081), cL (l1), l2, cL (l3), l4, cI (l5), cI (l6)] [] G (fun r G => r = 7 ∧ Q 0 G) := by
  unfold PX13_local_32 at h
  unfold vX13_local_32
  refine g_inc (lv' := [_, _, _, _, _, _, _]) rfl (Nat.le_of_ble_eq_true rfl) (Or.inr (n1_I _)) rfl ?_
  obtain ⟨q32, h⟩ := h
  exact hj0 _ _ _ _ _ _ _ hl1 hl2 hl3 hl4 hl5 q32 h
def PX13_local_3 (J : Nat → List Int → gS → (Int → gS → Prop) → Prop) (l1 : Int) (l3 : Int) (l5 : Int) (l6 : Int) (G : gS) (Q : Int → gS → Prop) : Prop :=
  (inI (G 16081 114) → ((l6 < G 16081 114 → ((0 : Int) ≤ l6 ∧ ((l6 : Int) < 720 ∧ (inL (G 16174 l6) → ((G 16174 l6 = l1 → PX13_fault 16 l5 G (fun _ G7 => PX13_local_32 J l1 l3 l5 l6 G7 Q)) ∧ (¬ (G 16174 l6 = l1) → PX13_local_32 J l1 l3 l5 l6 G Q)))))) ∧ (¬ (l6 < G 16081 114) → (inI (G 16081 114) → ((0 : Int) ≤ G 16081 114 ∧ ((G 16081 114 : Int) < 720 ∧ (∀ G12 : gS, G12 = uG G 16174 (G 16081 114) (l1) → (inI (G12 16081 114) → ((0 : Int) ≤ G12 16081 114 ∧ ((G12 16081 114 : Int) < 720 ∧ (∀ G16 : gS, G16 = uG G12 16175 (G12 16081 114) (l3) → (inI (G16 16081 114) → (inI ((G16 16081 114) + 1) ∧ (∀ G19 : gS, G19 = uG G16 16081 114 ((G16 16081 114) + 1) → (inI (G19 16081 110) → (inI (G19 16081 110) → ((0 : Int) ≤ G19 16081 110 ∧ ((G19 16081 110 : Int) < 7344 ∧ (inI (G19 16142 (G19 16081 110)) → (inI (G19 16081 114) → ((G19 16142 (G19 16081 110) < G19 16081 114 → (inI (G19 16081 114) → PX13_local_108 J l1 l3 l5 l6 16142 (G19 16081 110) (G19 16081 114) G19 Q)) ∧ (¬ (G19 16142 (G19 16081 110) < G19 16081 114) → (inI (G19 16081 110) → ((0 : Int) ≤ G19 16081 110 ∧ ((G19 16081 110 : Int) < 7344 ∧ (inI (G19 16142 (G19 16081 110)) → PX13_local_108 J l1 l3 l5 l6 16142 (G19 16081 110) (G19 16142 (G19 16081 110)) G19 Q))))))))))))))))))))))))))
set_option maxRecDepth 20000 in
theorem TX13_local_3 {j : Nat → rx_K} {J : Nat → List Int → gS → (Int → gS → Prop) → Prop} {l1 : Int} {l2 : Nat} {l3 : Int} {l4 : Nat} {l5 : Int} {l6 : Int} {G : gS} {Q : Int → gS → Prop} (hl1 : inL l1) (hl2 : l2 % 8 ≠ 1) (hl3 : inL l3) (hl4 : l4 % 8 ≠ 1) (hl5 : inI l5) (hl6 : inI l6) (hj0 : ∀ (l1 : Int) (l2 : Nat) (l3 : Int) (l4 : Nat) (l5 : Int) (l6 : Int) (G : gS), (inL l1) → (l2 % 8 ≠ 1) → (inL l3) → (l4 % 8 ≠ 1) → (inI l5) → (inI l6) → J 0 [l1, l3, l5, l6] G Q → Tg W0 (j 0) [rf (16081), cL (l1), l2, cL (l3), l4, cI (l5), cI (l6)] [] G (fun r G => r = 7 ∧ Q 0 G)) (h : PX13_local_3 J l1 l3 l5 l6 G Q) : Tg W0 (vX13_local_3 j) [rf (16081), cL (l1), l2, cL (l3), l4, cI (l5), cI (l6)] [] G (fun r G => r = 7 ∧ Q 0 G) := by
  unfold PX13_local_3 at h
  unfold vX13_local_3
  refine g_ld (v := cI _) rfl (is_I _) ?_
  refine g_ld (v := rf _) rfl (is_R _) ?_
  refine g_getI (kz := 114) oC13 rfl (Nat.le_of_ble_eq_true rfl) rfl fun i1 => ?_
  replace h := h i1
  refine g_lt2 hl6 i1 (fun b2 => ?_) (fun b2 => ?_)
  · replace h := h.1 b2
    unfold vX13_local_12
    refine g_ld (v := rf _) rfl (is_R _) ?_
    refine g_getF (v := 16174) oC13 (hC13_112) rfl (Nat.le_of_ble_eq_true rfl) (Nat.le_of_ble_eq_true rfl) ?_
    refine g_ld (v := cI _) rfl (is_I _) ?_
    obtain ⟨q3, q4, h⟩ := h
    refine g_aldL aC16174 q3 q4 rfl fun i5 => ?_
    replace h := h i5
    refine g_ld (v := cL _) rfl (is_L _) ?_
    refine g_leq i5 hl1 (fun b6 => ?_) (fun b6 => ?_)
    · replace h := h.1 b6
      unfold vX13_local_24
      refine g_ld (v := rf _) rfl (is_R _) ?_
      refine g_const (v := cI (16)) rfl ?_
      refine g_ld (v := cI _) rfl (is_I _) ?_
      refine g_callV (As := [_, _]) (ci := 13) oC13 (fun _ => rfl) ?_
      refine g_go0 (Nat.le_of_ble_eq_true rfl) (Tn_w (TX13_fault ⟨by omega, by omega⟩ hl5 h) fun _ G7 ⟨e, h⟩ => ⟨e, ?_⟩)
      exact TX13_local_32 hl1 hl2 hl3 hl4 hl5 hl6 hj0 h
    · replace h := h.2 b6
      exact TX13_local_32 hl1 hl2 hl3 hl4 hl5 hl6 hj0 h
  · replace h := h.2 b2
    unfold vX13_local_38
    refine g_ld (v := rf _) rfl (is_R _) ?_
    refine g_getF (v := 16174) oC13 (hC13_112) rfl (Nat.le_of_ble_eq_true rfl) (Nat.le_of_ble_eq_true rfl) ?_
    refine g_ld (v := rf _) rfl (is_R _) ?_
    refine g_getI (kz := 114) oC13 rfl (Nat.le_of_ble_eq_true rfl) rfl fun i9 => ?_
    replace h := h i9
    refine g_ld (v := cL _) rfl (is_L _) ?_
    obtain ⟨q10, q11, h⟩ := h
    refine g_astL aC16174 q10 q11 hl1 (nfL aC16174) ?_
    replace h := h _ rfl
    refine g_ld (v := rf _) rfl (is_R _) ?_
    refine g_getF (v := 16175) oC13 (hC13_113) rfl (Nat.le_of_ble_eq_true rfl) (Nat.le_of_ble_eq_true rfl) ?_
    refine g_ld (v := rf _) rfl (is_R _) ?_
    refine g_getI (kz := 114) oC13 rfl (Nat.le_of_ble_eq_true rfl) rfl fun i13 => ?_
    replace h := h i13
    refine g_ld (v := cL _) rfl (is_L _) ?_
    obtain ⟨q14, q15, h⟩ := h
    refine g_astL aC16175 q14 q15 hl3 (nfL aC16175) ?_
    replace h := h _ rfl
    refine g_ld (v := rf _) rfl (is_R _) ?_
    refine g_dup (ct_R _) ?_
    refine g_getI (kz := 114) oC13 rfl (Nat.le_of_ble_eq_true rfl) rfl fun i17 => ?_
    replace h := h i17
    refine g_const (v := cI (1)) rfl ?_
    refine g_add ?_
    obtain ⟨q18, h⟩ := h
    refine g_putI (kz := 114) oC13 rfl (Nat.le_of_ble_eq_true rfl) rfl q18 (zfin_no (c := 16081) (j := 114) rfl) ?_
    replace h := h _ rfl
    refine g_ld (v := rf _) rfl (is_R _) ?_
    refine g_getF (v := 16142) oC13 (hC13_68) rfl (Nat.le_of_ble_eq_true rfl) (Nat.le_of_ble_eq_true rfl) ?_
    refine g_ld (v := rf _) rfl (is_R _) ?_
    refine g_getI (kz := 110) oC13 rfl (Nat.le_of_ble_eq_true rfl) rfl fun i20 => ?_
    replace h := h i20
    refine g_ld (v := rf _) rfl (is_R _) ?_
    refine g_getF (v := 16142) oC13 (hC13_68) rfl (Nat.le_of_ble_eq_true rfl) (Nat.le_of_ble_eq_true rfl) ?_
    unfold vX13_local_80
    refine g_ld (v := rf _) rfl (is_R _) ?_
    refine g_getI (kz := 110) oC13 rfl (Nat.le_of_ble_eq_true rfl) rfl fun i21 => ?_
    replace h := h i21
    obtain ⟨q22, q23, h⟩ := h
    refine g_aldI aC16142 q22 q23 rfl fun i24 => ?_
    replace h := h i24
    refine g_ld (v := rf _) rfl (is_R _) ?_
    refine g_getI (kz := 114) oC13 rfl (Nat.le_of_ble_eq_true rfl) rfl fun i25 => ?_
    replace h := h i25
    refine g_lt2 i24 i25 (fun b26 => ?_) (fun b26 => ?_)
    · replace h := h.1 b26
      unfold vX13_local_92
      refine g_ld (v := rf _) rfl (is_R _) ?_
      refine g_getI (kz := 114) oC13 rfl (Nat.le_of_ble_eq_true rfl) rfl fun i27 => ?_
      replace h := h i27
      exact TX13_local_108 hl1 hl2 hl3 hl4 hl5 hl6 i20 i27 hj0 h
    · replace h := h.2 b26
      unfold vX13_local_99
      refine g_ld (v := rf _) rfl (is_R _) ?_
      refine g_getF (v := 16142) oC13 (hC13_68) rfl (Nat.le_of_ble_eq_true rfl) (Nat.le_of_ble_eq_true rfl) ?_
      refine g_ld (v := rf _) rfl (is_R _) ?_
      refine g_getI (kz := 110) oC13 rfl (Nat.le_of_ble_eq_true rfl) rfl fun i28 => ?_
      replace h := h i28
      obtain ⟨q29, q30, h⟩ := h
      refine g_aldI aC16142 q29 q30 rfl fun i31 => ?_
      replace h := h i31
      exact TX13_local_108 hl1 hl2 hl3 hl4 hl5 hl6 i20 i31 hj0 h
def PX13_local_0 (J : Nat → List Int → gS → (Int → gS → Prop) → Prop) (a1 : Int) (a3 : Int) (a5 : Int) (G : gS) (Q : Int → gS → Prop) : Prop :=
  PX13_local_3 J a1 a3 a5 0 G Q
set_option maxRecDepth 20000 in
theorem TX13_local_0 {j : Nat → rx_K} {J : Nat → List Int → gS → (Int → gS → Prop) → Prop} {a1 : Int} {a3 : Int} {a5 : Int} {G : gS} {Q : Int → gS → Prop} (ha1 : inL a1) (ha3 : inL a3) (ha5 : inI a5) (hj0 : ∀ (l1 : Int) (l2 : Nat) (l3 : Int) (l4 : Nat) (l5 : Int) (l6 : Int) (G : gS), (inL l1) → (l2 % 8 ≠ 1) → (inL l3) → (l4 % 8 ≠ 1) → (inI l5) → (inI l6) → J 0 [l1, l3, l5, l6] G Q → Tg W0 (j 0) [rf (16081), cL (l1), l2, cL (l3), l4, cI (l5), cI (l6)] [] G (fun r G => r = 7 ∧ Q 0 G)) (h : PX13_local_0 J a1 a3 a5 G Q) : Tg W0 (vX13_local_0 j) [rf (16081), cL (a1), 7, cL (a3), 7, cI (a5), 7] [] G (fun r G => r = 7 ∧ Q 0 G) := by
  unfold PX13_local_0 at h
  unfold vX13_local_0
  refine g_const (v := cI (0)) rfl ?_
  refine g_st (lv' := [_, _, _, _, _, _, _]) (is_I _) (Nat.le_of_ble_eq_true rfl) (Or.inr (n1_I _)) rfl ?_
  exact TX13_local_3 ha1 (show 7 % 8 ≠ 1 by decide) ha3 (show 7 % 8 ≠ 1 by decide) ha5 ⟨by omega, by omega⟩ hj0 h
def PX13_local_J : Nat → Nat → List Int → gS → (Int → gS → Prop) → Prop
  | 0, _, _, _, _ => False
  | f + 1, h, L, G, Q => match h, L with
    | 0, [l1, l3, l5, l6] => PX13_local_3 (PX13_local_J f) l1 l3 l5 l6 G Q
    | _, _ => False
theorem TX13_local_J {Q : Int → gS → Prop} : ∀ f N : Nat, f ≤ N → (∀ (l1 : Int) (l2 : Nat) (l3 : Int) (l4 : Nat) (l5 : Int) (l6 : Int) (G : gS), (inL l1) → (l2 % 8 ≠ 1) → (inL l3) → (l4 % 8 ≠ 1) → (inI l5) → (inI l6) → (PX13_local_J f) 0 [l1, l3, l5, l6] G Q → Tg W0 (rx_J vhX13_local N 0) [rf (16081), cL (l1), l2, cL (l3), l4, cI (l5), cI (l6)] [] G (fun r G => r = 7 ∧ Q 0 G)) := by
  intro f
  induction f with
  | zero => exact fun N _ => fun _ _ _ _ _ _ _ _ _ _ _ _ _ h => h.elim
  | succ f ih =>
    intro N hN
    obtain ⟨M, rfl⟩ : ∃ M, N = M + 1 := ⟨N - 1, by omega⟩
    have ih := ih M (by omega)
    exact fun _ _ _ _ _ _ _ hl1 hl2 hl3 hl4 hl5 hl6 h => show Tg W0 (vX13_local_3 (rx_J vhX13_local M)) _ _ _ _ from TX13_local_3 hl1 hl2 hl3 hl4 hl5 hl6 ih h
def PX13_local (a1 : Int) (a3 : Int) (a5 : Int) (G : gS) (Q : Int → gS → Prop) : Prop := ∃ f : Nat, f ≤ 4000000000 ∧ PX13_local_0 (PX13_local_J f) a1 a3 a5 G Q
theorem TX13_local {a1 : Int} {a3 : Int} {a5 : Int} {G : gS} {Q : Int → gS → Prop} (ha1 : inL a1) (ha3 : inL a3) (ha5 : inI a5) (h : PX13_local a1 a3 a5 G Q) : Tn W0 FX13_local [rf (16081), cL (a1), cL (a3), cI (a5)] G (fun r G => r = 7 ∧ Q 0 G) := by
  obtain ⟨f, hf, h⟩ := h
  have hJ := TX13_local_J (Q := Q) f 4000000000 hf
  unfold FX13_local
  refine g_ent (lv' := [rf (16081), cL (a1), 7, cL (a3), 7, cI (a5), 7]) (flR (flL (flL (flI fl0)))) (Nat.le_of_ble_eq_true rfl) rfl ?_
  exact TX13_local_0 ha1 ha3 ha5 hJ h
def PX13_nextUse_0 (a1 : Int) (a2 : Int) (a4 : Int) (a6 : Int) (G : gS) (Q : Int → gS → Prop) : Prop :=
  (inI (G 16081 19) → (inI (G 16081 19) → ((0 : Int) ≤ G 16081 19 ∧ ((G 16081 19 : Int) < 17 ∧ (inI (G 16178 (G 16081 19)) → (inI (((G 16081 19) * 1800) + (G 16178 (G 16081 19))) ∧ ((0 : Int) ≤ ((G 16081 19) * 1800) + (G 16178 (G 16081 19)) ∧ ((((G 16081 19) * 1800) + (G 16178 (G 16081 19)) : Int) < 30600 ∧ (∀ G9 : gS, G9 = uG G 16179 (((G 16081 19) * 1800) + (G 16178 (G 16081 19))) (a1) → (inI (G9 16081 109) → ((0 : Int) ≤ ((G 16081 19) * 1800) + (G 16178 (G 16081 19)) ∧ ((((G 16081 19) * 1800) + (G 16178 (G 16081 19)) : Int) < 30600 ∧ (∀ G13 : gS, G13 = uG G9 16180 (((G 16081 19) * 1800) + (G 16178 (G 16081 19))) (G9 16081 109) → ((0 : Int) ≤ ((G 16081 19) * 1800) + (G 16178 (G 16081 19)) ∧ ((((G 16081 19) * 1800) + (G 16178 (G 16081 19)) : Int) < 30600 ∧ (∀ G16 : gS, G16 = uG G13 16181 (((G 16081 19) * 1800) + (G 16178 (G 16081 19))) (a2) → ((0 : Int) ≤ ((G 16081 19) * 1800) + (G 16178 (G 16081 19)) ∧ ((((G 16081 19) * 1800) + (G 16178 (G 16081 19)) : Int) < 30600 ∧ (∀ G19 : gS, G19 = uG G16 16182 (((G 16081 19) * 1800) + (G 16178 (G 16081 19))) (a4) → ((0 : Int) ≤ ((G 16081 19) * 1800) + (G 16178 (G 16081 19)) ∧ ((((G 16081 19) * 1800) + (G 16178 (G 16081 19)) : Int) < 30600 ∧ (∀ G22 : gS, G22 = uG G19 16183 (((G 16081 19) * 1800) + (G 16178 (G 16081 19))) (a6) → ((0 : Int) ≤ ((G 16081 19) * 1800) + (G 16178 (G 16081 19)) ∧ ((((G 16081 19) * 1800) + (G 16178 (G 16081 19)) : Int) < 30600 ∧ (∀ G25 : gS, G25 = uG G22 16184 (((G 16081 19) * 1800) + (G 16178 (G 16081 19))) (0) → ((0 : Int) ≤ ((G 16081 19) * 1800) + (G 16178 (G 16081 19)) ∧ ((((G 16081 19) * 1800) + (G 16178 (G 16081 19)) : Int) < 30600 ∧ (∀ G28 : gS, G28 = uG G25 16186 (((G 16081 19) * 1800) + (G 16178 (G 16081 19))) (0) → ((0 : Int) ≤ ((G 16081 19) * 1800) + (G 16178 (G 16081 19)) ∧ ((((G 16081 19) * 1800) + (G 16178 (G 16081 19)) : Int) < 30600 ∧ (∀ G31 : gS, G31 = uG G28 16187 (((G 16081 19) * 1800) + (G 16178 (G 16081 19))) (0) → Q (((G 16081 19) * 1800) + (G 16178 (G 16081 19))) G31)))))))))))))))))))))))))))))))
set_option maxRecDepth 20000 in
theorem TX13_nextUse_0 {a1 : Int} {a2 : Int} {a4 : Int} {a6 : Int} {G : gS} {Q : Int → gS → Prop} (ha1 : inI a1) (ha2 : inL a2) (ha4 : inL a4) (ha6 : inL a6) (h : PX13_nextUse_0 a1 a2 a4 a6 G Q) : Tg W0 vX13_nextUse_0 [rf (16081), cI (a1), cL (a2), 7, cL (a4), 7, cL (a6), 7, 7] [] G (fun r G => ∃ v, r = cI v ∧ inI v ∧ Q v G) := by
  unfold PX13_nextUse_0 at h
  unfold vX13_nextUse_0
  refine g_ld (v := rf _) rfl (is_R _) ?_
  refine g_getI (kz := 19) oC13 rfl (Nat.le_of_ble_eq_true rfl) rfl fun i1 => ?_
  replace h := h i1
  refine g_const (v := cI (1800)) rfl ?_
  refine g_mul ?_
  refine g_ld (v := rf _) rfl (is_R _) ?_
  refine g_getF (v := 16178) oC13 (hC13_118) rfl (Nat.le_of_ble_eq_true rfl) (Nat.le_of_ble_eq_true rfl) ?_
  refine g_ld (v := rf _) rfl (is_R _) ?_
  refine g_getI (kz := 19) oC13 rfl (Nat.le_of_ble_eq_true rfl) rfl fun i2 => ?_
  replace h := h i2
  obtain ⟨q3, q4, h⟩ := h
  refine g_aldI aC16178 q3 q4 rfl fun i5 => ?_
  replace h := h i5
  refine g_add ?_
  refine g_st (lv' := [_, _, _, _, _, _, _, _, _]) (is_I _) (Nat.le_of_ble_eq_true rfl) (Or.inr (show 7 % 8 ≠ 1 by decide)) rfl ?_
  obtain ⟨q6, h⟩ := h
  refine g_ld (v := rf _) rfl (is_R _) ?_
  refine g_getF (v := 16179) oC13 (hC13_119) rfl (Nat.le_of_ble_eq_true rfl) (Nat.le_of_ble_eq_true rfl) ?_
  refine g_ld (v := cI _) rfl (is_I _) ?_
  refine g_ld (v := cI _) rfl (is_I _) ?_
  obtain ⟨q7, q8, h⟩ := h
  refine g_astI aC16179 q7 q8 ha1 (nfI aC16179) ?_
  replace h := h _ rfl
  refine g_ld (v := rf _) rfl (is_R _) ?_
  refine g_getF (v := 16180) oC13 (hC13_120) rfl (Nat.le_of_ble_eq_true rfl) (Nat.le_of_ble_eq_true rfl) ?_
  refine g_ld (v := cI _) rfl (is_I _) ?_
  refine g_ld (v := rf _) rfl (is_R _) ?_
  refine g_getI (kz := 109) oC13 rfl (Nat.le_of_ble_eq_true rfl) rfl fun i10 => ?_
  replace h := h i10
  obtain ⟨q11, q12, h⟩ := h
  refine g_astI aC16180 q11 q12 i10 (nfI aC16180) ?_
  replace h := h _ rfl
  refine g_ld (v := rf _) rfl (is_R _) ?_
  refine g_getF (v := 16181) oC13 (hC13_121) rfl (Nat.le_of_ble_eq_true rfl) (Nat.le_of_ble_eq_true rfl) ?_
  unfold vX13_nextUse_43
  refine g_ld (v := cI _) rfl (is_I _) ?_
  refine g_ld (v := cL _) rfl (is_L _) ?_
  obtain ⟨q14, q15, h⟩ := h
  refine g_astL aC16181 q14 q15 ha2 (nfL aC16181) ?_
  replace h := h _ rfl
  refine g_ld (v := rf _) rfl (is_R _) ?_
  refine g_getF (v := 16182) oC13 (hC13_122) rfl (Nat.le_of_ble_eq_true rfl) (Nat.le_of_ble_eq_true rfl) ?_
  refine g_ld (v := cI _) rfl (is_I _) ?_
  refine g_ld (v := cL _) rfl (is_L _) ?_
  obtain ⟨q17, q18, h⟩ := h
  refine g_astL aC16182 q17 q18 ha4 (nfL aC16182) ?_
  replace h := h _ rfl
  refine g_ld (v := rf _) rfl (is_R _) ?_
  refine g_getF (v := 16183) oC13 (hC13_123) rfl (Nat.le_of_ble_eq_true rfl) (Nat.le_of_ble_eq_true rfl) ?_
  refine g_ld (v := cI _) rfl (is_I _) ?_
  refine g_ld (v := cL _) rfl (is_L _) ?_
  obtain ⟨q20, q21, h⟩ := h
  refine g_astL aC16183 q20 q21 ha6 (nfL aC16183) ?_
  replace h := h _ rfl
  refine g_ld (v := rf _) rfl (is_R _) ?_
  refine g_getF (v := 16184) oC13 (hC13_124) rfl (Nat.le_of_ble_eq_true rfl) (Nat.le_of_ble_eq_true rfl) ?_
  refine g_ld (v := cI _) rfl (is_I _) ?_
  refine g_const (v := cI (0)) rfl ?_
  obtain ⟨q23, q24, h⟩ := h
  refine g_astI aC16184 q23 q24 ⟨by omega, by omega⟩ (nfI aC16184) ?_
  replace h := h _ rfl
  refine g_ld (v := rf _) rfl (is_R _) ?_
  refine g_getF (v := 16186) oC13 (hC13_126) rfl (Nat.le_of_ble_eq_true rfl) (Nat.le_of_ble_eq_true rfl) ?_
  refine g_ld (v := cI _) rfl (is_I _) ?_
  refine g_const (v := cL (0)) rfl ?_
  obtain ⟨q26, q27, h⟩ := h
  refine g_astL aC16186 q26 q27 ⟨by omega, by omega⟩ (nfL aC16186) ?_
  replace h := h _ rfl
  refine g_ld (v := rf _) rfl (is_R _) ?_
  unfold vX13_nextUse_82
  refine g_getF (v := 16187) oC13 (hC13_127) rfl (Nat.le_of_ble_eq_true rfl) (Nat.le_of_ble_eq_true rfl) ?_
  refine g_ld (v := cI _) rfl (is_I _) ?_
  refine g_const (v := cI (0)) rfl ?_
  obtain ⟨q29, q30, h⟩ := h
  refine g_astI aC16187 q29 q30 ⟨by omega, by omega⟩ (nfI aC16187) ?_
  replace h := h _ rfl
  refine g_ld (v := cI _) rfl (is_I _) ?_
  exact g_ret1 (is_I _) ⟨_, rfl, q6, h⟩
abbrev PX13_nextUse (a1 : Int) (a2 : Int) (a4 : Int) (a6 : Int) (G : gS) (Q : Int → gS → Prop) : Prop := PX13_nextUse_0 a1 a2 a4 a6 G Q
theorem TX13_nextUse {a1 : Int} {a2 : Int} {a4 : Int} {a6 : Int} {G : gS} {Q : Int → gS → Prop} (ha1 : inI a1) (ha2 : inL a2) (ha4 : inL a4) (ha6 : inL a6) (h : PX13_nextUse a1 a2 a4 a6 G Q) : Tn W0 FX13_nextUse [rf (16081), cI (a1), cL (a2), cL (a4), cL (a6)] G (fun r G => ∃ v, r = cI v ∧ inI v ∧ Q v G) := by
  unfold FX13_nextUse
  refine g_ent (lv' := [rf (16081), cI (a1), cL (a2), 7, cL (a4), 7, cL (a6), 7, 7]) (flR (flI (flL (flL (flL fl0))))) (Nat.le_of_ble_eq_true rfl) rfl ?_
  exact TX13_nextUse_0 ha1 ha2 ha4 ha6 h
def PX13_keepUse_212 (J : Nat → List Int → gS → (Int → gS → Prop) → Prop) (l1 : Int) (l2 : Int) (G : gS) (Q : Int → gS → Prop) : Prop :=
  (inI (G 16081 19) → ((0 : Int) ≤ G 16081 19 ∧ ((G 16081 19 : Int) < 17 ∧ (inI (G 16178 (G 16081 19)) → ((0 : Int) ≤ G 16081 19 ∧ ((G 16081 19 : Int) < 17 ∧ (inI ((G 16178 (G 16081 19)) + 1) ∧ (∀ G66 : gS, G66 = uG G 16178 (G 16081 19) ((G 16178 (G 16081 19)) + 1) → Q (l1) G66))))))))
set_option maxRecDepth 20000 in
theorem TX13_keepUse_212 {j : Nat → rx_K} {J : Nat → List Int → gS → (Int → gS → Prop) → Prop} {l1 : Int} {l2 : Int} {l3 : Nat} {l4 : Nat} {G : gS} {Q : Int → gS → Prop} (hl1 : inI l1) (hl2 : inI l2) (hl3 : l3 % 8 ≠ 1) (hl4 : l4 % 8 ≠ 1) (hj0 : ∀ (l1 : Int) (l2 : Int) (l3 : Nat) (l4 : Nat) (G : gS), (inI l1) → (inI l2) → (l3 % 8 ≠ 1) → (l4 % 8 ≠ 1) → J 0 [l1, l2] G Q → Tg W0 (j 0) [rf (16081), cI (l1), cI (l2), l3, l4] [] G (fun r G => ∃ v, r = cI v ∧ inI v ∧ Q v G)) (hj1 : ∀ (l1 : Int) (l2 : Int) (l3 : Int) (l4 : Int) (G : gS), (inI l1) → (inI l2) → (inI l3) → (inI l4) → J 1 [l1, l2, l3, l4] G Q → Tg W0 (j 1) [rf (16081), cI (l1), cI (l2), cI (l3), cI (l4)] [] G (fun r G => ∃ v, r = cI v ∧ inI v ∧ Q v G)) (h : PX13_keepUse_212 J l1 l2 G Q) : Tg W0 (vX13_keepUse_212 j) [rf (16081), cI (l1), cI (l2), l3, l4] [] G (fun r G => ∃ v, r = cI v ∧ inI v ∧ Q v G) := by
  unfold PX13_keepUse_212 at h
  unfold vX13_keepUse_212
  refine g_ld (v := rf _) rfl (is_R _) ?_
  refine g_getF (v := 16178) oC13 (hC13_118) rfl (Nat.le_of_ble_eq_true rfl) (Nat.le_of_ble_eq_true rfl) ?_
  refine g_ld (v := rf _) rfl (is_R _) ?_
  refine g_getI (kz := 19) oC13 rfl (Nat.le_of_ble_eq_true rfl) rfl fun i59 => ?_
  replace h := h i59
  refine g_dup2 (ct_I _) (ct_R _) ?_
  obtain ⟨q60, q61, h⟩ := h
  refine g_aldI aC16178 q60 q61 rfl fun i62 => ?_
  replace h := h i62
  refine g_const (v := cI (1)) rfl ?_
  refine g_add ?_
  obtain ⟨q63, q64, h⟩ := h
  obtain ⟨q65, h⟩ := h
  refine g_astI aC16178 q63 q64 q65 (nfI aC16178) ?_
  replace h := h _ rfl
  refine g_ld (v := cI _) rfl (is_I _) ?_
  exact g_ret1 (is_I _) ⟨_, rfl, hl1, h⟩
def PX13_keepUse_200 (J : Nat → List Int → gS → (Int → gS → Prop) → Prop) (l1 : Int) (l2 : Int) (l3 : Int) (l4 : Int) (G : gS) (Q : Int → gS → Prop) : Prop :=
  ((l3 = 0 → (inI (l2 + (-1)) ∧ J 0 [l1, l2 + (-1)] G Q)) ∧ (¬ (l3 = 0) → Q (l2) G))
set_option maxRecDepth 20000 in
theorem TX13_keepUse_200 {j : Nat → rx_K} {J : Nat → List Int → gS → (Int → gS → Prop) → Prop} {l1 : Int} {l2 : Int} {l3 : Int} {l4 : Int} {G : gS} {Q : Int → gS → Prop} (hl1 : inI l1) (hl2 : inI l2) (hl3 : inI l3) (hl4 : inI l4) (hj0 : ∀ (l1 : Int) (l2 : Int) (l3 : Nat) (l4 : Nat) (G : gS), (inI l1) → (inI l2) → (l3 % 8 ≠ 1) → (l4 % 8 ≠ 1) → J 0 [l1, l2] G Q → Tg W0 (j 0) [rf (16081), cI (l1), cI (l2), l3, l4] [] G (fun r G => ∃ v, r = cI v ∧ inI v ∧ Q v G)) (hj1 : ∀ (l1 : Int) (l2 : Int) (l3 : Int) (l4 : Int) (G : gS), (inI l1) → (inI l2) → (inI l3) → (inI l4) → J 1 [l1, l2, l3, l4] G Q → Tg W0 (j 1) [rf (16081), cI (l1), cI (l2), cI (l3), cI (l4)] [] G (fun r G => ∃ v, r = cI v ∧ inI v ∧ Q v G)) (h : PX13_keepUse_200 J l1 l2 l3 l4 G Q) : Tg W0 (vX13_keepUse_200 j) [rf (16081), cI (l1), cI (l2), cI (l3), cI (l4)] [] G (fun r G => ∃ v, r = cI v ∧ inI v ∧ Q v G) := by
  unfold PX13_keepUse_200 at h
  unfold vX13_keepUse_200
  refine g_ld (v := cI _) rfl (is_I _) ?_
  refine g_eq1 hl3 (fun b79 => ?_) (fun b79 => ?_)
  · replace h := h.1 b79
    unfold vX13_keepUse_206
    refine g_inc (lv' := [_, _, _, _, _]) rfl (Nat.le_of_ble_eq_true rfl) (Or.inr (n1_I _)) rfl ?_
    obtain ⟨q80, h⟩ := h
    exact hj0 _ _ _ _ _ hl1 q80 (n1_I _) (n1_I _) h
  · replace h := h.2 b79
    unfold vX13_keepUse_204
    refine g_ld (v := cI _) rfl (is_I _) ?_
    exact g_ret1 (is_I _) ⟨_, rfl, hl2, h⟩
def PX13_keepUse_193 (J : Nat → List Int → gS → (Int → gS → Prop) → Prop) (l1 : Int) (l2 : Int) (l3 : Int) (l4 : Int) (s0 : Int) (G : gS) (Q : Int → gS → Prop) : Prop :=
  (inI (l4 + 1) ∧ J 1 [l1, l2, s0, l4 + 1] G Q)
set_option maxRecDepth 20000 in
theorem TX13_keepUse_193 {j : Nat → rx_K} {J : Nat → List Int → gS → (Int → gS → Prop) → Prop} {l1 : Int} {l2 : Int} {l3 : Int} {l4 : Int} {s0 : Int} {G : gS} {Q : Int → gS → Prop} (hl1 : inI l1) (hl2 : inI l2) (hl3 : inI l3) (hl4 : inI l4) (hs0 : inI s0) (hj0 : ∀ (l1 : Int) (l2 : Int) (l3 : Nat) (l4 : Nat) (G : gS), (inI l1) → (inI l2) → (l3 % 8 ≠ 1) → (l4 % 8 ≠ 1) → J 0 [l1, l2] G Q → Tg W0 (j 0) [rf (16081), cI (l1), cI (l2), l3, l4] [] G (fun r G => ∃ v, r = cI v ∧ inI v ∧ Q v G)) (hj1 : ∀ (l1 : Int) (l2 : Int) (l3 : Int) (l4 : Int) (G : gS), (inI l1) → (inI l2) → (inI l3) → (inI l4) → J 1 [l1, l2, l3, l4] G Q → Tg W0 (j 1) [rf (16081), cI (l1), cI (l2), cI (l3), cI (l4)] [] G (fun r G => ∃ v, r = cI v ∧ inI v ∧ Q v G)) (h : PX13_keepUse_193 J l1 l2 l3 l4 s0 G Q) : Tg W0 (vX13_keepUse_193 j) [rf (16081), cI (l1), cI (l2), cI (l3), cI (l4)] [cI (s0)] G (fun r G => ∃ v, r = cI v ∧ inI v ∧ Q v G) := by
  unfold PX13_keepUse_193 at h
  unfold vX13_keepUse_193
  refine g_st (lv' := [_, _, _, _, _]) (is_I _) (Nat.le_of_ble_eq_true rfl) (Or.inr (n1_I _)) rfl ?_
  refine g_inc (lv' := [_, _, _, _, _]) rfl (Nat.le_of_ble_eq_true rfl) (Or.inr (n1_I _)) rfl ?_
  obtain ⟨q81, h⟩ := h
  exact hj1 _ _ _ _ _ hl1 hl2 hs0 q81 h
def PX13_keepUse_147 (J : Nat → List Int → gS → (Int → gS → Prop) → Prop) (l1 : Int) (l2 : Int) (l3 : Int) (l4 : Int) (G : gS) (Q : Int → gS → Prop) : Prop :=
  ((0 : Int) ≤ l1 ∧ ((l1 : Int) < 30600 ∧ (inI (G 16184 l1) → ((l4 < G 16184 l1 → ((l3 = 0 → PX13_keepUse_200 J l1 l2 l3 l4 G Q) ∧ (¬ (l3 = 0) → ((0 : Int) ≤ (4 * l2) + l4 ∧ (((4 * l2) + l4 : Int) < 122400 ∧ (inL (G 16185 ((4 * l2) + l4)) → ((0 : Int) ≤ (4 * l1) + l4 ∧ (((4 * l1) + l4 : Int) < 122400 ∧ (inL (G 16185 ((4 * l1) + l4)) → ((G 16185 ((4 * l2) + l4) = G 16185 ((4 * l1) + l4) → PX13_keepUse_193 J l1 l2 l3 l4 1 G Q) ∧ (¬ (G 16185 ((4 * l2) + l4) = G 16185 ((4 * l1) + l4)) → PX13_keepUse_193 J l1 l2 l3 l4 0 G Q))))))))))) ∧ (¬ (l4 < G 16184 l1) → PX13_keepUse_200 J l1 l2 l3 l4 G Q)))))
set_option maxRecDepth 20000 in
theorem TX13_keepUse_147 {j : Nat → rx_K} {J : Nat → List Int → gS → (Int → gS → Prop) → Prop} {l1 : Int} {l2 : Int} {l3 : Int} {l4 : Int} {G : gS} {Q : Int → gS → Prop} (hl1 : inI l1) (hl2 : inI l2) (hl3 : inI l3) (hl4 : inI l4) (hj0 : ∀ (l1 : Int) (l2 : Int) (l3 : Nat) (l4 : Nat) (G : gS), (inI l1) → (inI l2) → (l3 % 8 ≠ 1) → (l4 % 8 ≠ 1) → J 0 [l1, l2] G Q → Tg W0 (j 0) [rf (16081), cI (l1), cI (l2), l3, l4] [] G (fun r G => ∃ v, r = cI v ∧ inI v ∧ Q v G)) (hj1 : ∀ (l1 : Int) (l2 : Int) (l3 : Int) (l4 : Int) (G : gS), (inI l1) → (inI l2) → (inI l3) → (inI l4) → J 1 [l1, l2, l3, l4] G Q → Tg W0 (j 1) [rf (16081), cI (l1), cI (l2), cI (l3), cI (l4)] [] G (fun r G => ∃ v, r = cI v ∧ inI v ∧ Q v G)) (h : PX13_keepUse_147 J l1 l2 l3 l4 G Q) : Tg W0 (vX13_keepUse_147 j) [rf (16081), cI (l1), cI (l2), cI (l3), cI (l4)] [] G (fun r G => ∃ v, r = cI v ∧ inI v ∧ Q v G) := by
  unfold PX13_keepUse_147 at h
  unfold vX13_keepUse_147
  refine g_ld (v := cI _) rfl (is_I _) ?_
  refine g_ld (v := rf _) rfl (is_R _) ?_
  refine g_getF (v := 16184) oC13 (hC13_124) rfl (Nat.le_of_ble_eq_true rfl) (Nat.le_of_ble_eq_true rfl) ?_
  refine g_ld (v := cI _) rfl (is_I _) ?_
  obtain ⟨q67, q68, h⟩ := h
  refine g_aldI aC16184 q67 q68 rfl fun i69 => ?_
  replace h := h i69
  refine g_lt2 hl4 i69 (fun b70 => ?_) (fun b70 => ?_)
  · replace h := h.1 b70
    unfold vX13_keepUse_158
    refine g_ld (v := cI _) rfl (is_I _) ?_
    refine g_eq1 hl3 (fun b71 => ?_) (fun b71 => ?_)
    · replace h := h.1 b71
      exact TX13_keepUse_200 hl1 hl2 hl3 hl4 hj0 hj1 h
    · replace h := h.2 b71
      unfold vX13_keepUse_162
      refine g_ld (v := rf _) rfl (is_R _) ?_
      refine g_getF (v := 16185) oC13 (hC13_125) rfl (Nat.le_of_ble_eq_true rfl) (Nat.le_of_ble_eq_true rfl) ?_
      refine g_const (v := cI (4)) rfl ?_
      refine g_ld (v := cI _) rfl (is_I _) ?_
      refine g_mul ?_
      refine g_ld (v := cI _) rfl (is_I _) ?_
      refine g_add ?_
      obtain ⟨q72, q73, h⟩ := h
      refine g_aldL aC16185 q72 q73 rfl fun i74 => ?_
      replace h := h i74
      refine g_ld (v := rf _) rfl (is_R _) ?_
      refine g_getF (v := 16185) oC13 (hC13_125) rfl (Nat.le_of_ble_eq_true rfl) (Nat.le_of_ble_eq_true rfl) ?_
      refine g_const (v := cI (4)) rfl ?_
      refine g_ld (v := cI _) rfl (is_I _) ?_
      refine g_mul ?_
      refine g_ld (v := cI _) rfl (is_I _) ?_
      refine g_add ?_
      obtain ⟨q75, q76, h⟩ := h
      refine g_aldL aC16185 q75 q76 rfl fun i77 => ?_
      replace h := h i77
      refine g_leq i74 i77 (fun b78 => ?_) (fun b78 => ?_)
      · replace h := h.1 b78
        unfold vX13_keepUse_188
        refine g_const (v := cI (1)) rfl ?_
        exact TX13_keepUse_193 hl1 hl2 hl3 hl4 ⟨by omega, by omega⟩ hj0 hj1 h
      · replace h := h.2 b78
        unfold vX13_keepUse_192
        refine g_const (v := cI (0)) rfl ?_
        exact TX13_keepUse_193 hl1 hl2 hl3 hl4 ⟨by omega, by omega⟩ hj0 hj1 h
  · replace h := h.2 b70
    exact TX13_keepUse_200 hl1 hl2 hl3 hl4 hj0 hj1 h
def PX13_keepUse_143 (J : Nat → List Int → gS → (Int → gS → Prop) → Prop) (l1 : Int) (l2 : Int) (s0 : Int) (G : gS) (Q : Int → gS → Prop) : Prop :=
  PX13_keepUse_147 J l1 l2 s0 0 G Q
set_option maxRecDepth 20000 in
theorem TX13_keepUse_143 {j : Nat → rx_K} {J : Nat → List Int → gS → (Int → gS → Prop) → Prop} {l1 : Int} {l2 : Int} {l3 : Nat} {l4 : Nat} {s0 : Int} {G : gS} {Q : Int → gS → Prop} (hl1 : inI l1) (hl2 : inI l2) (hl3 : l3 % 8 ≠ 1) (hl4 : l4 % 8 ≠ 1) (hs0 : inI s0) (hj0 : ∀ (l1 : Int) (l2 : Int) (l3 : Nat) (l4 : Nat) (G : gS), (inI l1) → (inI l2) → (l3 % 8 ≠ 1) → (l4 % 8 ≠ 1) → J 0 [l1, l2] G Q → Tg W0 (j 0) [rf (16081), cI (l1), cI (l2), l3, l4] [] G (fun r G => ∃ v, r = cI v ∧ inI v ∧ Q v G)) (hj1 : ∀ (l1 : Int) (l2 : Int) (l3 : Int) (l4 : Int) (G : gS), (inI l1) → (inI l2) → (inI l3) → (inI l4) → J 1 [l1, l2, l3, l4] G Q → Tg W0 (j 1) [rf (16081), cI (l1), cI (l2), cI (l3), cI (l4)] [] G (fun r G => ∃ v, r = cI v ∧ inI v ∧ Q v G)) (h : PX13_keepUse_143 J l1 l2 s0 G Q) : Tg W0 (vX13_keepUse_143 j) [rf (16081), cI (l1), cI (l2), l3, l4] [cI (s0)] G (fun r G => ∃ v, r = cI v ∧ inI v ∧ Q v G) := by
  unfold PX13_keepUse_143 at h
  unfold vX13_keepUse_143
  refine g_st (lv' := [_, _, _, _, _]) (is_I _) (Nat.le_of_ble_eq_true rfl) (Or.inr (n1_I _)) rfl ?_
  refine g_const (v := cI (0)) rfl ?_
  refine g_st (lv' := [_, _, _, _, _]) (is_I _) (Nat.le_of_ble_eq_true rfl) (Or.inr (n1_I _)) rfl ?_
  exact TX13_keepUse_147 hl1 hl2 hs0 ⟨by omega, by omega⟩ hj0 hj1 h
def PX13_keepUse_142 (J : Nat → List Int → gS → (Int → gS → Prop) → Prop) (l1 : Int) (l2 : Int) (G : gS) (Q : Int → gS → Prop) : Prop :=
  PX13_keepUse_143 J l1 l2 0 G Q
set_option maxRecDepth 20000 in
theorem TX13_keepUse_142 {j : Nat → rx_K} {J : Nat → List Int → gS → (Int → gS → Prop) → Prop} {l1 : Int} {l2 : Int} {l3 : Nat} {l4 : Nat} {G : gS} {Q : Int → gS → Prop} (hl1 : inI l1) (hl2 : inI l2) (hl3 : l3 % 8 ≠ 1) (hl4 : l4 % 8 ≠ 1) (hj0 : ∀ (l1 : Int) (l2 : Int) (l3 : Nat) (l4 : Nat) (G : gS), (inI l1) → (inI l2) → (l3 % 8 ≠ 1) → (l4 % 8 ≠ 1) → J 0 [l1, l2] G Q → Tg W0 (j 0) [rf (16081), cI (l1), cI (l2), l3, l4] [] G (fun r G => ∃ v, r = cI v ∧ inI v ∧ Q v G)) (hj1 : ∀ (l1 : Int) (l2 : Int) (l3 : Int) (l4 : Int) (G : gS), (inI l1) → (inI l2) → (inI l3) → (inI l4) → J 1 [l1, l2, l3, l4] G Q → Tg W0 (j 1) [rf (16081), cI (l1), cI (l2), cI (l3), cI (l4)] [] G (fun r G => ∃ v, r = cI v ∧ inI v ∧ Q v G)) (h : PX13_keepUse_142 J l1 l2 G Q) : Tg W0 (vX13_keepUse_142 j) [rf (16081), cI (l1), cI (l2), l3, l4] [] G (fun r G => ∃ v, r = cI v ∧ inI v ∧ Q v G) := by
  unfold PX13_keepUse_142 at h
  unfold vX13_keepUse_142
  refine g_const (v := cI (0)) rfl ?_
  exact TX13_keepUse_143 hl1 hl2 hl3 hl4 ⟨by omega, by omega⟩ hj0 hj1 h
def PX13_keepUse_4 (J : Nat → List Int → gS → (Int → gS → Prop) → Prop) (l1 : Int) (l2 : Int) (G : gS) (Q : Int → gS → Prop) : Prop :=
  (inI (G 16081 19) → (inI ((G 16081 19) * 1800) ∧ ((l2 < (G 16081 19) * 1800 → PX13_keepUse_212 J l1 l2 G Q) ∧ (¬ (l2 < (G 16081 19) * 1800) → ((0 : Int) ≤ l2 ∧ ((l2 : Int) < 30600 ∧ (inI (G 16180 l2) → (inI (G 16081 109) → ((G 16180 l2 = G 16081 109 → ((0 : Int) ≤ l2 ∧ ((l2 : Int) < 30600 ∧ (inI (G 16179 l2) → ((0 : Int) ≤ l1 ∧ ((l1 : Int) < 30600 ∧ (inI (G 16179 l1) → ((G 16179 l2 = G 16179 l1 → ((0 : Int) ≤ l2 ∧ ((l2 : Int) < 30600 ∧ (inL (G 16181 l2) → ((0 : Int) ≤ l1 ∧ ((l1 : Int) < 30600 ∧ (inL (G 16181 l1) → ((G 16181 l2 = G 16181 l1 → ((0 : Int) ≤ l2 ∧ ((l2 : Int) < 30600 ∧ (inL (G 16182 l2) → ((0 : Int) ≤ l1 ∧ ((l1 : Int) < 30600 ∧ (inL (G 16182 l1) → ((G 16182 l2 = G 16182 l1 → ((0 : Int) ≤ l2 ∧ ((l2 : Int) < 30600 ∧ (inL (G 16183 l2) → ((0 : Int) ≤ l1 ∧ ((l1 : Int) < 30600 ∧ (inL (G 16183 l1) → ((G 16183 l2 = G 16183 l1 → ((0 : Int) ≤ l2 ∧ ((l2 : Int) < 30600 ∧ (inL (G 16186 l2) → ((0 : Int) ≤ l1 ∧ ((l1 : Int) < 30600 ∧ (inL (G 16186 l1) → ((G 16186 l2 = G 16186 l1 → ((0 : Int) ≤ l2 ∧ ((l2 : Int) < 30600 ∧ (inI (G 16187 l2) → ((0 : Int) ≤ l1 ∧ ((l1 : Int) < 30600 ∧ (inI (G 16187 l1) → ((G 16187 l2 = G 16187 l1 → ((0 : Int) ≤ l2 ∧ ((l2 : Int) < 30600 ∧ (inI (G 16184 l2) → ((0 : Int) ≤ l1 ∧ ((l1 : Int) < 30600 ∧ (inI (G 16184 l1) → ((G 16184 l2 = G 16184 l1 → PX13_keepUse_143 J l1 l2 1 G Q) ∧ (¬ (G 16184 l2 = G 16184 l1) → PX13_keepUse_142 J l1 l2 G Q))))))))) ∧ (¬ (G 16187 l2 = G 16187 l1) → PX13_keepUse_142 J l1 l2 G Q))))))))) ∧ (¬ (G 16186 l2 = G 16186 l1) → PX13_keepUse_142 J l1 l2 G Q))))))))) ∧ (¬ (G 16183 l2 = G 16183 l1) → PX13_keepUse_142 J l1 l2 G Q))))))))) ∧ (¬ (G 16182 l2 = G 16182 l1) → PX13_keepUse_142 J l1 l2 G Q))))))))) ∧ (¬ (G 16181 l2 = G 16181 l1) → PX13_keepUse_142 J l1 l2 G Q))))))))) ∧ (¬ (G 16179 l2 = G 16179 l1) → PX13_keepUse_142 J l1 l2 G Q))))))))) ∧ (¬ (G 16180 l2 = G 16081 109) → PX13_keepUse_212 J l1 l2 G Q))))))))))
set_option maxRecDepth 20000 in
theorem TX13_keepUse_4 {j : Nat → rx_K} {J : Nat → List Int → gS → (Int → gS → Prop) → Prop} {l1 : Int} {l2 : Int} {l3 : Nat} {l4 : Nat} {G : gS} {Q : Int → gS → Prop} (hl1 : inI l1) (hl2 : inI l2) (hl3 : l3 % 8 ≠ 1) (hl4 : l4 % 8 ≠ 1) (hj0 : ∀ (l1 : Int) (l2 : Int) (l3 : Nat) (l4 : Nat) (G : gS), (inI l1) → (inI l2) → (l3 % 8 ≠ 1) → (l4 % 8 ≠ 1) → J 0 [l1, l2] G Q → Tg W0 (j 0) [rf (16081), cI (l1), cI (l2), l3, l4] [] G (fun r G => ∃ v, r = cI v ∧ inI v ∧ Q v G)) (hj1 : ∀ (l1 : Int) (l2 : Int) (l3 : Int) (l4 : Int) (G : gS), (inI l1) → (inI l2) → (inI l3) → (inI l4) → J 1 [l1, l2, l3, l4] G Q → Tg W0 (j 1) [rf (16081), cI (l1), cI (l2), cI (l3), cI (l4)] [] G (fun r G => ∃ v, r = cI v ∧ inI v ∧ Q v G)) (h : PX13_keepUse_4 J l1 l2 G Q) : Tg W0 (vX13_keepUse_4 j) [rf (16081), cI (l1), cI (l2), l3, l4] [] G (fun r G => ∃ v, r = cI v ∧ inI v ∧ Q v G) := by
  unfold PX13_keepUse_4 at h
  unfold vX13_keepUse_4
  refine g_ld (v := cI _) rfl (is_I _) ?_
  refine g_ld (v := rf _) rfl (is_R _) ?_
  refine g_getI (kz := 19) oC13 rfl (Nat.le_of_ble_eq_true rfl) rfl fun i2 => ?_
  replace h := h i2
  refine g_const (v := cI (1800)) rfl ?_
  refine g_mul ?_
  obtain ⟨q3, h⟩ := h
  refine g_lt2 hl2 q3 (fun b4 => ?_) (fun b4 => ?_)
  · replace h := h.1 b4
    exact TX13_keepUse_212 hl1 hl2 hl3 hl4 hj0 hj1 h
  · replace h := h.2 b4
    unfold vX13_keepUse_16
    refine g_ld (v := rf _) rfl (is_R _) ?_
    refine g_getF (v := 16180) oC13 (hC13_120) rfl (Nat.le_of_ble_eq_true rfl) (Nat.le_of_ble_eq_true rfl) ?_
    refine g_ld (v := cI _) rfl (is_I _) ?_
    obtain ⟨q5, q6, h⟩ := h
    refine g_aldI aC16180 q5 q6 rfl fun i7 => ?_
    replace h := h i7
    refine g_ld (v := rf _) rfl (is_R _) ?_
    refine g_getI (kz := 109) oC13 rfl (Nat.le_of_ble_eq_true rfl) rfl fun i8 => ?_
    replace h := h i8
    refine g_eq2 i7 i8 (fun b9 => ?_) (fun b9 => ?_)
    · replace h := h.1 b9
      unfold vX13_keepUse_29
      refine g_ld (v := rf _) rfl (is_R _) ?_
      refine g_getF (v := 16179) oC13 (hC13_119) rfl (Nat.le_of_ble_eq_true rfl) (Nat.le_of_ble_eq_true rfl) ?_
      refine g_ld (v := cI _) rfl (is_I _) ?_
      obtain ⟨q10, q11, h⟩ := h
      refine g_aldI aC16179 q10 q11 rfl fun i12 => ?_
      replace h := h i12
      refine g_ld (v := rf _) rfl (is_R _) ?_
      refine g_getF (v := 16179) oC13 (hC13_119) rfl (Nat.le_of_ble_eq_true rfl) (Nat.le_of_ble_eq_true rfl) ?_
      refine g_ld (v := cI _) rfl (is_I _) ?_
      obtain ⟨q13, q14, h⟩ := h
      refine g_aldI aC16179 q13 q14 rfl fun i15 => ?_
      replace h := h i15
      refine g_eq2 i12 i15 (fun b16 => ?_) (fun b16 => ?_)
      · replace h := h.1 b16
        unfold vX13_keepUse_44
        refine g_ld (v := rf _) rfl (is_R _) ?_
        refine g_getF (v := 16181) oC13 (hC13_121) rfl (Nat.le_of_ble_eq_true rfl) (Nat.le_of_ble_eq_true rfl) ?_
        refine g_ld (v := cI _) rfl (is_I _) ?_
        obtain ⟨q17, q18, h⟩ := h
        refine g_aldL aC16181 q17 q18 rfl fun i19 => ?_
        replace h := h i19
        refine g_ld (v := rf _) rfl (is_R _) ?_
        refine g_getF (v := 16181) oC13 (hC13_121) rfl (Nat.le_of_ble_eq_true rfl) (Nat.le_of_ble_eq_true rfl) ?_
        refine g_ld (v := cI _) rfl (is_I _) ?_
        obtain ⟨q20, q21, h⟩ := h
        refine g_aldL aC16181 q20 q21 rfl fun i22 => ?_
        replace h := h i22
        refine g_leq i19 i22 (fun b23 => ?_) (fun b23 => ?_)
        · replace h := h.1 b23
          unfold vX13_keepUse_60
          refine g_ld (v := rf _) rfl (is_R _) ?_
          refine g_getF (v := 16182) oC13 (hC13_122) rfl (Nat.le_of_ble_eq_true rfl) (Nat.le_of_ble_eq_true rfl) ?_
          refine g_ld (v := cI _) rfl (is_I _) ?_
          obtain ⟨q24, q25, h⟩ := h
          refine g_aldL aC16182 q24 q25 rfl fun i26 => ?_
          replace h := h i26
          refine g_ld (v := rf _) rfl (is_R _) ?_
          refine g_getF (v := 16182) oC13 (hC13_122) rfl (Nat.le_of_ble_eq_true rfl) (Nat.le_of_ble_eq_true rfl) ?_
          refine g_ld (v := cI _) rfl (is_I _) ?_
          obtain ⟨q27, q28, h⟩ := h
          refine g_aldL aC16182 q27 q28 rfl fun i29 => ?_
          replace h := h i29
          refine g_leq i26 i29 (fun b30 => ?_) (fun b30 => ?_)
          · replace h := h.1 b30
            unfold vX13_keepUse_76
            refine g_ld (v := rf _) rfl (is_R _) ?_
            refine g_getF (v := 16183) oC13 (hC13_123) rfl (Nat.le_of_ble_eq_true rfl) (Nat.le_of_ble_eq_true rfl) ?_
            refine g_ld (v := cI _) rfl (is_I _) ?_
            obtain ⟨q31, q32, h⟩ := h
            refine g_aldL aC16183 q31 q32 rfl fun i33 => ?_
            replace h := h i33
            refine g_ld (v := rf _) rfl (is_R _) ?_
            refine g_getF (v := 16183) oC13 (hC13_123) rfl (Nat.le_of_ble_eq_true rfl) (Nat.le_of_ble_eq_true rfl) ?_
            refine g_ld (v := cI _) rfl (is_I _) ?_
            obtain ⟨q34, q35, h⟩ := h
            refine g_aldL aC16183 q34 q35 rfl fun i36 => ?_
            replace h := h i36
            refine g_leq i33 i36 (fun b37 => ?_) (fun b37 => ?_)
            · replace h := h.1 b37
              unfold vX13_keepUse_92
              refine g_ld (v := rf _) rfl (is_R _) ?_
              refine g_getF (v := 16186) oC13 (hC13_126) rfl (Nat.le_of_ble_eq_true rfl) (Nat.le_of_ble_eq_true rfl) ?_
              refine g_ld (v := cI _) rfl (is_I _) ?_
              obtain ⟨q38, q39, h⟩ := h
              refine g_aldL aC16186 q38 q39 rfl fun i40 => ?_
              replace h := h i40
              refine g_ld (v := rf _) rfl (is_R _) ?_
              refine g_getF (v := 16186) oC13 (hC13_126) rfl (Nat.le_of_ble_eq_true rfl) (Nat.le_of_ble_eq_true rfl) ?_
              refine g_ld (v := cI _) rfl (is_I _) ?_
              obtain ⟨q41, q42, h⟩ := h
              refine g_aldL aC16186 q41 q42 rfl fun i43 => ?_
              replace h := h i43
              refine g_leq i40 i43 (fun b44 => ?_) (fun b44 => ?_)
              · replace h := h.1 b44
                unfold vX13_keepUse_108
                refine g_ld (v := rf _) rfl (is_R _) ?_
                refine g_getF (v := 16187) oC13 (hC13_127) rfl (Nat.le_of_ble_eq_true rfl) (Nat.le_of_ble_eq_true rfl) ?_
                refine g_ld (v := cI _) rfl (is_I _) ?_
                obtain ⟨q45, q46, h⟩ := h
                refine g_aldI aC16187 q45 q46 rfl fun i47 => ?_
                replace h := h i47
                refine g_ld (v := rf _) rfl (is_R _) ?_
                refine g_getF (v := 16187) oC13 (hC13_127) rfl (Nat.le_of_ble_eq_true rfl) (Nat.le_of_ble_eq_true rfl) ?_
                refine g_ld (v := cI _) rfl (is_I _) ?_
                obtain ⟨q48, q49, h⟩ := h
                refine g_aldI aC16187 q48 q49 rfl fun i50 => ?_
                replace h := h i50
                refine g_eq2 i47 i50 (fun b51 => ?_) (fun b51 => ?_)
                · replace h := h.1 b51
                  unfold vX13_keepUse_123
                  refine g_ld (v := rf _) rfl (is_R _) ?_
                  refine g_getF (v := 16184) oC13 (hC13_124) rfl (Nat.le_of_ble_eq_true rfl) (Nat.le_of_ble_eq_true rfl) ?_
                  refine g_ld (v := cI _) rfl (is_I _) ?_
                  obtain ⟨q52, q53, h⟩ := h
                  refine g_aldI aC16184 q52 q53 rfl fun i54 => ?_
                  replace h := h i54
                  refine g_ld (v := rf _) rfl (is_R _) ?_
                  refine g_getF (v := 16184) oC13 (hC13_124) rfl (Nat.le_of_ble_eq_true rfl) (Nat.le_of_ble_eq_true rfl) ?_
                  refine g_ld (v := cI _) rfl (is_I _) ?_
                  obtain ⟨q55, q56, h⟩ := h
                  refine g_aldI aC16184 q55 q56 rfl fun i57 => ?_
                  replace h := h i57
                  refine g_eq2 i54 i57 (fun b58 => ?_) (fun b58 => ?_)
                  · replace h := h.1 b58
                    unfold vX13_keepUse_138
                    refine g_const (v := cI (1)) rfl ?_
                    exact TX13_keepUse_143 hl1 hl2 hl3 hl4 ⟨by omega, by omega⟩ hj0 hj1 h
                  · replace h := h.2 b58
                    exact TX13_keepUse_142 hl1 hl2 hl3 hl4 hj0 hj1 h
                · replace h := h.2 b51
                  exact TX13_keepUse_142 hl1 hl2 hl3 hl4 hj0 hj1 h
              · replace h := h.2 b44
                exact TX13_keepUse_142 hl1 hl2 hl3 hl4 hj0 hj1 h
            · replace h := h.2 b37
              exact TX13_keepUse_142 hl1 hl2 hl3 hl4 hj0 hj1 h
          · replace h := h.2 b30
            exact TX13_keepUse_142 hl1 hl2 hl3 hl4 hj0 hj1 h
        · replace h := h.2 b23
          exact TX13_keepUse_142 hl1 hl2 hl3 hl4 hj0 hj1 h
      · replace h := h.2 b16
        exact TX13_keepUse_142 hl1 hl2 hl3 hl4 hj0 hj1 h
    · replace h := h.2 b9
      exact TX13_keepUse_212 hl1 hl2 hl3 hl4 hj0 hj1 h
def PX13_keepUse_0 (J : Nat → List Int → gS → (Int → gS → Prop) → Prop) (a1 : Int) (G : gS) (Q : Int → gS → Prop) : Prop :=
  (inI (a1 - 1) ∧ PX13_keepUse_4 J a1 (a1 - 1) G Q)
set_option maxRecDepth 20000 in
theorem TX13_keepUse_0 {j : Nat → rx_K} {J : Nat → List Int → gS → (Int → gS → Prop) → Prop} {a1 : Int} {G : gS} {Q : Int → gS → Prop} (ha1 : inI a1) (hj0 : ∀ (l1 : Int) (l2 : Int) (l3 : Nat) (l4 : Nat) (G : gS), (inI l1) → (inI l2) → (l3 % 8 ≠ 1) → (l4 % 8 ≠ 1) → J 0 [l1, l2] G Q → Tg W0 (j 0) [rf (16081), cI (l1), cI (l2), l3, l4] [] G (fun r G => ∃ v, r = cI v ∧ inI v ∧ Q v G)) (hj1 : ∀ (l1 : Int) (l2 : Int) (l3 : Int) (l4 : Int) (G : gS), (inI l1) → (inI l2) → (inI l3) → (inI l4) → J 1 [l1, l2, l3, l4] G Q → Tg W0 (j 1) [rf (16081), cI (l1), cI (l2), cI (l3), cI (l4)] [] G (fun r G => ∃ v, r = cI v ∧ inI v ∧ Q v G)) (h : PX13_keepUse_0 J a1 G Q) : Tg W0 (vX13_keepUse_0 j) [rf (16081), cI (a1), 7, 7, 7] [] G (fun r G => ∃ v, r = cI v ∧ inI v ∧ Q v G) := by
  unfold PX13_keepUse_0 at h
  unfold vX13_keepUse_0
  refine g_ld (v := cI _) rfl (is_I _) ?_
  refine g_const (v := cI (1)) rfl ?_
  refine g_sub ?_
  refine g_st (lv' := [_, _, _, _, _]) (is_I _) (Nat.le_of_ble_eq_true rfl) (Or.inr (n1_I _)) rfl ?_
  obtain ⟨q1, h⟩ := h
  exact TX13_keepUse_4 ha1 q1 (show 7 % 8 ≠ 1 by decide) (show 7 % 8 ≠ 1 by decide) hj0 hj1 h
def PX13_keepUse_J : Nat → Nat → List Int → gS → (Int → gS → Prop) → Prop
  | 0, _, _, _, _ => False
  | f + 1, h, L, G, Q => match h, L with
    | 0, [l1, l2] => PX13_keepUse_4 (PX13_keepUse_J f) l1 l2 G Q
    | 1, [l1, l2, l3, l4] => PX13_keepUse_147 (PX13_keepUse_J f) l1 l2 l3 l4 G Q
    | _, _ => False
theorem TX13_keepUse_J {Q : Int → gS → Prop} : ∀ f N : Nat, f ≤ N → (∀ (l1 : Int) (l2 : Int) (l3 : Nat) (l4 : Nat) (G : gS), (inI l1) → (inI l2) → (l3 % 8 ≠ 1) → (l4 % 8 ≠ 1) → (PX13_keepUse_J f) 0 [l1, l2] G Q → Tg W0 (rx_J vhX13_keepUse N 0) [rf (16081), cI (l1), cI (l2), l3, l4] [] G (fun r G => ∃ v, r = cI v ∧ inI v ∧ Q v G)) ∧ (∀ (l1 : Int) (l2 : Int) (l3 : Int) (l4 : Int) (G : gS), (inI l1) → (inI l2) → (inI l3) → (inI l4) → (PX13_keepUse_J f) 1 [l1, l2, l3, l4] G Q → Tg W0 (rx_J vhX13_keepUse N 1) [rf (16081), cI (l1), cI (l2), cI (l3), cI (l4)] [] G (fun r G => ∃ v, r = cI v ∧ inI v ∧ Q v G)) := by
  intro f
  induction f with
  | zero => exact fun N _ => ⟨fun _ _ _ _ _ _ _ _ _ h => h.elim, fun _ _ _ _ _ _ _ _ _ h => h.elim⟩
  | succ f ih =>
    intro N hN
    obtain ⟨M, rfl⟩ : ∃ M, N = M + 1 := ⟨N - 1, by omega⟩
    have ih := ih M (by omega)
    exact ⟨fun _ _ _ _ _ hl1 hl2 hl3 hl4 h => show Tg W0 (vX13_keepUse_4 (rx_J vhX13_keepUse M)) _ _ _ _ from TX13_keepUse_4 hl1 hl2 hl3 hl4 ih.1 ih.2 h, fun _ _ _ _ _ hl1 hl2 hl3 hl4 h => show Tg W0 (vX13_keepUse_147 (rx_J vhX13_keepUse M)) _ _ _ _ from TX13_keepUse_147 hl1 hl2 hl3 hl4 ih.1 ih.2 h⟩
def PX13_keepUse (a1 : Int) (G : gS) (Q : Int → gS → Prop) : Prop := ∃ f : Nat, f ≤ 4000000000 ∧ PX13_keepUse_0 (PX13_keepUse_J f) a1 G Q
theorem TX13_keepUse {a1 : Int} {G : gS} {Q : Int → gS → Prop} (ha1 : inI a1) (h : PX13_keepUse a1 G Q) : Tn W0 FX13_keepUse [rf (16081), cI (a1)] G (fun r G => ∃ v, r = cI v ∧ inI v ∧ Q v G) := by
  obtain ⟨f, hf, h⟩ := h
  have hJ := TX13_keepUse_J (Q := Q) f 4000000000 hf
  unfold FX13_keepUse
  refine g_ent (lv' := [rf (16081), cI (a1), 7, 7, 7]) (flR (flI fl0)) (Nat.le_of_ble_eq_true rfl) rfl ?_
  exact TX13_keepUse_0 ha1 hJ.1 hJ.2 h
def PX13_useFor_0 (a1 : Int) (a2 : Int) (a4 : Int) (a6 : Int) (G : gS) (Q : Int → gS → Prop) : Prop :=
  PX13_nextUse a1 a2 a4 a6 G (fun r2 G1 => inI r2 → PX13_keepUse r2 G1 (fun r5 G4 => inI r5 → Q (r5) G4))
set_option maxRecDepth 20000 in
theorem TX13_useFor_0 {a1 : Int} {a2 : Int} {a4 : Int} {a6 : Int} {G : gS} {Q : Int → gS → Prop} (ha1 : inI a1) (ha2 : inL a2) (ha4 : inL a4) (ha6 : inL a6) (h : PX13_useFor_0 a1 a2 a4 a6 G Q) : Tg W0 vX13_useFor_0 [rf (16081), cI (a1), cL (a2), 7, cL (a4), 7, cL (a6), 7] [] G (fun r G => ∃ v, r = cI v ∧ inI v ∧ Q v G) := by
  unfold PX13_useFor_0 at h
  unfold vX13_useFor_0
  refine g_ld (v := rf _) rfl (is_R _) ?_
  refine g_ld (v := rf _) rfl (is_R _) ?_
  refine g_ld (v := cI _) rfl (is_I _) ?_
  refine g_ld (v := cL _) rfl (is_L _) ?_
  refine g_ld (v := cL _) rfl (is_L _) ?_
  refine g_ld (v := cL _) rfl (is_L _) ?_
  refine g_callV (As := [_, _, _, _]) (ci := 13) oC13 (fun _ => rfl) ?_
  refine g_go1 (by simp only [cs_c, cs_0, ct_I, ct_L, ct_R]; exact Nat.le_of_ble_eq_true rfl) (Tn_w (TX13_nextUse ha1 ha2 ha4 ha6 h) fun _ G1 ⟨r2, e, i3, h⟩ => ?_)
  subst e
  refine ⟨n7_I _, ?_⟩
  replace h := h i3
  refine g_callV (As := [_]) (ci := 13) oC13 (fun _ => rfl) ?_
  refine g_go1 (Nat.le_of_ble_eq_true rfl) (Tn_w (TX13_keepUse i3 h) fun _ G4 ⟨r5, e, i6, h⟩ => ?_)
  subst e
  refine ⟨n7_I _, ?_⟩
  replace h := h i6
  exact g_ret1 (is_I _) ⟨_, rfl, i6, h⟩
abbrev PX13_useFor (a1 : Int) (a2 : Int) (a4 : Int) (a6 : Int) (G : gS) (Q : Int → gS → Prop) : Prop := PX13_useFor_0 a1 a2 a4 a6 G Q
theorem TX13_useFor {a1 : Int} {a2 : Int} {a4 : Int} {a6 : Int} {G : gS} {Q : Int → gS → Prop} (ha1 : inI a1) (ha2 : inL a2) (ha4 : inL a4) (ha6 : inL a6) (h : PX13_useFor a1 a2 a4 a6 G Q) : Tn W0 FX13_useFor [rf (16081), cI (a1), cL (a2), cL (a4), cL (a6)] G (fun r G => ∃ v, r = cI v ∧ inI v ∧ Q v G) := by
  unfold FX13_useFor
  refine g_ent (lv' := [rf (16081), cI (a1), cL (a2), 7, cL (a4), 7, cL (a6), 7]) (flR (flI (flL (flL (flL fl0))))) (Nat.le_of_ble_eq_true rfl) rfl ?_
  exact TX13_useFor_0 ha1 ha2 ha4 ha6 h
def PX13_useOf_28 (J : Nat → List Int → gS → (Int → gS → Prop) → Prop) (l1 : Int) (l2 : Int) (l3 : Int) (l5 : Int) (l7 : Int) (l9 : Int) (l10 : Int) (G : gS) (Q : Int → gS → Prop) : Prop :=
  ((0 : Int) ≤ l1 ∧ ((l1 : Int) < 30600 ∧ (inI (G 16159 l1) → ((l10 < G 16159 l1 → ((0 : Int) ≤ (4 * l1) + l10 ∧ (((4 * l1) + l10 : Int) < 122400 ∧ (inL (G 16160 ((4 * l1) + l10)) → ((0 : Int) ≤ (4 * l9) + l10 ∧ (((4 * l9) + l10 : Int) < 122400 ∧ (∀ G19 : gS, G19 = uG G 16185 ((4 * l9) + l10) (G 16160 ((4 * l1) + l10)) → (inI (l10 + 1) ∧ J 0 [l1, l2, l3, l5, l7, l9, l10 + 1] G19 Q)))))))) ∧ (¬ (l10 < G 16159 l1) → PX13_keepUse l9 G (fun r22 G21 => inI r22 → Q (r22) G21))))))
set_option maxRecDepth 20000 in
theorem TX13_useOf_28 {j : Nat → rx_K} {J : Nat → List Int → gS → (Int → gS → Prop) → Prop} {l1 : Int} {l2 : Int} {l3 : Int} {l4 : Nat} {l5 : Int} {l6 : Nat} {l7 : Int} {l8 : Nat} {l9 : Int} {l10 : Int} {G : gS} {Q : Int → gS → Prop} (hl1 : inI l1) (hl2 : inI l2) (hl3 : inL l3) (hl4 : l4 % 8 ≠ 1) (hl5 : inL l5) (hl6 : l6 % 8 ≠ 1) (hl7 : inL l7) (hl8 : l8 % 8 ≠ 1) (hl9 : inI l9) (hl10 : inI l10) (hj0 : ∀ (l1 : Int) (l2 : Int) (l3 : Int) (l4 : Nat) (l5 : Int) (l6 : Nat) (l7 : Int) (l8 : Nat) (l9 : Int) (l10 : Int) (G : gS), (inI l1) → (inI l2) → (inL l3) → (l4 % 8 ≠ 1) → (inL l5) → (l6 % 8 ≠ 1) → (inL l7) → (l8 % 8 ≠ 1) → (inI l9) → (inI l10) → J 0 [l1, l2, l3, l5, l7, l9, l10] G Q → Tg W0 (j 0) [rf (16081), cI (l1), cI (l2), cL (l3), l4, cL (l5), l6, cL (l7), l8, cI (l9), cI (l10)] [] G (fun r G => ∃ v, r = cI v ∧ inI v ∧ Q v G)) (h : PX13_useOf_28 J l1 l2 l3 l5 l7 l9 l10 G Q) : Tg W0 (vX13_useOf_28 j) [rf (16081), cI (l1), cI (l2), cL (l3), l4, cL (l5), l6, cL (l7), l8, cI (l9), cI (l10)] [] G (fun r G => ∃ v, r = cI v ∧ inI v ∧ Q v G) := by
  unfold PX13_useOf_28 at h
  unfold vX13_useOf_28
  refine g_ld (v := cI _) rfl (is_I _) ?_
  refine g_ld (v := rf _) rfl (is_R _) ?_
  refine g_getF (v := 16159) oC13 (hC13_85) rfl (Nat.le_of_ble_eq_true rfl) (Nat.le_of_ble_eq_true rfl) ?_
  refine g_ld (v := cI _) rfl (is_I _) ?_
  obtain ⟨q10, q11, h⟩ := h
  refine g_aldI aC16159 q10 q11 rfl fun i12 => ?_
  replace h := h i12
  refine g_lt2 hl10 i12 (fun b13 => ?_) (fun b13 => ?_)
  · replace h := h.1 b13
    unfold vX13_useOf_39
    refine g_ld (v := rf _) rfl (is_R _) ?_
    refine g_getF (v := 16185) oC13 (hC13_125) rfl (Nat.le_of_ble_eq_true rfl) (Nat.le_of_ble_eq_true rfl) ?_
    refine g_const (v := cI (4)) rfl ?_
    refine g_ld (v := cI _) rfl (is_I _) ?_
    refine g_mul ?_
    refine g_ld (v := cI _) rfl (is_I _) ?_
    refine g_add ?_
    refine g_ld (v := rf _) rfl (is_R _) ?_
    refine g_getF (v := 16160) oC13 (hC13_86) rfl (Nat.le_of_ble_eq_true rfl) (Nat.le_of_ble_eq_true rfl) ?_
    refine g_const (v := cI (4)) rfl ?_
    refine g_ld (v := cI _) rfl (is_I _) ?_
    refine g_mul ?_
    refine g_ld (v := cI _) rfl (is_I _) ?_
    refine g_add ?_
    obtain ⟨q14, q15, h⟩ := h
    refine g_aldL aC16160 q14 q15 rfl fun i16 => ?_
    replace h := h i16
    obtain ⟨q17, q18, h⟩ := h
    refine g_astL aC16185 q17 q18 i16 (nfL aC16185) ?_
    replace h := h _ rfl
    refine g_inc (lv' := [_, _, _, _, _, _, _, _, _, _, _]) rfl (Nat.le_of_ble_eq_true rfl) (Or.inr (n1_I _)) rfl ?_
    obtain ⟨q20, h⟩ := h
    exact hj0 _ _ _ _ _ _ _ _ _ _ _ hl1 hl2 hl3 hl4 hl5 hl6 hl7 hl8 hl9 q20 h
  · replace h := h.2 b13
    unfold vX13_useOf_68
    refine g_ld (v := rf _) rfl (is_R _) ?_
    refine g_ld (v := cI _) rfl (is_I _) ?_
    refine g_callV (As := [_]) (ci := 13) oC13 (fun _ => rfl) ?_
    refine g_go1 (Nat.le_of_ble_eq_true rfl) (Tn_w (TX13_keepUse hl9 h) fun _ G21 ⟨r22, e, i23, h⟩ => ?_)
    subst e
    refine ⟨n7_I _, ?_⟩
    replace h := h i23
    exact g_ret1 (is_I _) ⟨_, rfl, i23, h⟩
def PX13_useOf_0 (J : Nat → List Int → gS → (Int → gS → Prop) → Prop) (a1 : Int) (a2 : Int) (a3 : Int) (a5 : Int) (a7 : Int) (G : gS) (Q : Int → gS → Prop) : Prop :=
  PX13_nextUse a2 a3 a5 a7 G (fun r2 G1 => inI r2 → ((0 : Int) ≤ a1 ∧ ((a1 : Int) < 30600 ∧ (inI (G1 16159 a1) → ((0 : Int) ≤ r2 ∧ ((r2 : Int) < 30600 ∧ (∀ G9 : gS, G9 = uG G1 16184 r2 (G1 16159 a1) → PX13_useOf_28 J a1 a2 a3 a5 a7 r2 0 G9 Q)))))))
set_option maxRecDepth 20000 in
theorem TX13_useOf_0 {j : Nat → rx_K} {J : Nat → List Int → gS → (Int → gS → Prop) → Prop} {a1 : Int} {a2 : Int} {a3 : Int} {a5 : Int} {a7 : Int} {G : gS} {Q : Int → gS → Prop} (ha1 : inI a1) (ha2 : inI a2) (ha3 : inL a3) (ha5 : inL a5) (ha7 : inL a7) (hj0 : ∀ (l1 : Int) (l2 : Int) (l3 : Int) (l4 : Nat) (l5 : Int) (l6 : Nat) (l7 : Int) (l8 : Nat) (l9 : Int) (l10 : Int) (G : gS), (inI l1) → (inI l2) → (inL l3) → (l4 % 8 ≠ 1) → (inL l5) → (l6 % 8 ≠ 1) → (inL l7) → (l8 % 8 ≠ 1) → (inI l9) → (inI l10) → J 0 [l1, l2, l3, l5, l7, l9, l10] G Q → Tg W0 (j 0) [rf (16081), cI (l1), cI (l2), cL (l3), l4, cL (l5), l6, cL (l7), l8, cI (l9), cI (l10)] [] G (fun r G => ∃ v, r = cI v ∧ inI v ∧ Q v G)) (h : PX13_useOf_0 J a1 a2 a3 a5 a7 G Q) : Tg W0 (vX13_useOf_0 j) [rf (16081), cI (a1), cI (a2), cL (a3), 7, cL (a5), 7, cL (a7), 7, 7, 7] [] G (fun r G => ∃ v, r = cI v ∧ inI v ∧ Q v G) := by
  unfold PX13_useOf_0 at h
  unfold vX13_useOf_0
  refine g_ld (v := rf _) rfl (is_R _) ?_
  refine g_ld (v := cI _) rfl (is_I _) ?_
  refine g_ld (v := cL _) rfl (is_L _) ?_
  refine g_ld (v := cL _) rfl (is_L _) ?_
  refine g_ld (v := cL _) rfl (is_L _) ?_
  refine g_callV (As := [_, _, _, _]) (ci := 13) oC13 (fun _ => rfl) ?_
  refine g_go1 (Nat.le_of_ble_eq_true rfl) (Tn_w (TX13_nextUse ha2 ha3 ha5 ha7 h) fun _ G1 ⟨r2, e, i3, h⟩ => ?_)
  subst e
  refine ⟨n7_I _, ?_⟩
  replace h := h i3
  refine g_st (lv' := [_, _, _, _, _, _, _, _, _, _, _]) (is_I _) (Nat.le_of_ble_eq_true rfl) (Or.inr (show 7 % 8 ≠ 1 by decide)) rfl ?_
  refine g_ld (v := rf _) rfl (is_R _) ?_
  refine g_getF (v := 16184) oC13 (hC13_124) rfl (Nat.le_of_ble_eq_true rfl) (Nat.le_of_ble_eq_true rfl) ?_
  refine g_ld (v := cI _) rfl (is_I _) ?_
  refine g_ld (v := rf _) rfl (is_R _) ?_
  refine g_getF (v := 16159) oC13 (hC13_85) rfl (Nat.le_of_ble_eq_true rfl) (Nat.le_of_ble_eq_true rfl) ?_
  refine g_ld (v := cI _) rfl (is_I _) ?_
  obtain ⟨q4, q5, h⟩ := h
  refine g_aldI aC16159 q4 q5 rfl fun i6 => ?_
  replace h := h i6
  obtain ⟨q7, q8, h⟩ := h
  refine g_astI aC16184 q7 q8 i6 (nfI aC16184) ?_
  replace h := h _ rfl
  refine g_const (v := cI (0)) rfl ?_
  refine g_st (lv' := [_, _, _, _, _, _, _, _, _, _, _]) (is_I _) (Nat.le_of_ble_eq_true rfl) (Or.inr (n1_I _)) rfl ?_
  exact TX13_useOf_28 ha1 ha2 ha3 (show 7 % 8 ≠ 1 by decide) ha5 (show 7 % 8 ≠ 1 by decide) ha7 (show 7 % 8 ≠ 1 by decide) i3 ⟨by omega, by omega⟩ hj0 h
def PX13_useOf_J : Nat → Nat → List Int → gS → (Int → gS → Prop) → Prop
  | 0, _, _, _, _ => False
  | f + 1, h, L, G, Q => match h, L with
    | 0, [l1, l2, l3, l5, l7, l9, l10] => PX13_useOf_28 (PX13_useOf_J f) l1 l2 l3 l5 l7 l9 l10 G Q
    | _, _ => False
theorem TX13_useOf_J {Q : Int → gS → Prop} : ∀ f N : Nat, f ≤ N → (∀ (l1 : Int) (l2 : Int) (l3 : Int) (l4 : Nat) (l5 : Int) (l6 : Nat) (l7 : Int) (l8 : Nat) (l9 : Int) (l10 : Int) (G : gS), (inI l1) → (inI l2) → (inL l3) → (l4 % 8 ≠ 1) → (inL l5) → (l6 % 8 ≠ 1) → (inL l7) → (l8 % 8 ≠ 1) → (inI l9) → (inI l10) → (PX13_useOf_J f) 0 [l1, l2, l3, l5, l7, l9, l10] G Q → Tg W0 (rx_J vhX13_useOf N 0) [rf (16081), cI (l1), cI (l2), cL (l3), l4, cL (l5), l6, cL (l7), l8, cI (l9), cI (l10)] [] G (fun r G => ∃ v, r = cI v ∧ inI v ∧ Q v G)) := by
  intro f
  induction f with
  | zero => exact fun N _ => fun _ _ _ _ _ _ _ _ _ _ _ _ _ _ _ _ _ _ _ _ _ h => h.elim
  | succ f ih =>
    intro N hN
    obtain ⟨M, rfl⟩ : ∃ M, N = M + 1 := ⟨N - 1, by omega⟩
    have ih := ih M (by omega)
    exact fun _ _ _ _ _ _ _ _ _ _ _ hl1 hl2 hl3 hl4 hl5 hl6 hl7 hl8 hl9 hl10 h => show Tg W0 (vX13_useOf_28 (rx_J vhX13_useOf M)) _ _ _ _ from TX13_useOf_28 hl1 hl2 hl3 hl4 hl5 hl6 hl7 hl8 hl9 hl10 ih h
def PX13_useOf (a1 : Int) (a2 : Int) (a3 : Int) (a5 : Int) (a7 : Int) (G : gS) (Q : Int → gS → Prop) : Prop := ∃ f : Nat, f ≤ 4000000000 ∧ PX13_useOf_0 (PX13_useOf_J f) a1 a2 a3 a5 a7 G Q
theorem TX13_useOf {a1 : Int} {a2 : Int} {a3 : Int} {a5 : Int} {a7 : Int} {G : gS} {Q : Int → gS → Prop} (ha1 : inI a1) (ha2 : inI a2) (ha3 : inL a3) (ha5 : inL a5) (ha7 : inL a7) (h : PX13_useOf a1 a2 a3 a5 a7 G Q) : Tn W0 FX13_useOf [rf (16081), cI (a1), cI (a2), cL (a3), cL (a5), cL (a7)] G (fun r G => ∃ v, r = cI v ∧ inI v ∧ Q v G) := by
  obtain ⟨f, hf, h⟩ := h
  have hJ := TX13_useOf_J (Q := Q) f 4000000000 hf
  unfold FX13_useOf
  refine g_ent (lv' := [rf (16081), cI (a1), cI (a2), cL (a3), 7, cL (a5), 7, cL (a7), 7, 7, 7]) (flR (flI (flI (flL (flL (flL fl0)))))) (Nat.le_of_ble_eq_true rfl) rfl ?_
  exact TX13_useOf_0 ha1 ha2 ha3 ha5 ha7 hJ h
def PX13_copyOf_0 (a1 : Int) (G : gS) (Q : Int → gS → Prop) : Prop :=
  ((0 : Int) ≤ a1 ∧ ((a1 : Int) < 30600 ∧ (inL (G 16157 a1) → ((0 : Int) ≤ a1 ∧ ((a1 : Int) < 30600 ∧ (inL (G 16148 a1) → PX13_nextUse 16 (G 16157 a1) (G 16148 a1) 0 G (fun r8 G7 => inI r8 → ((0 : Int) ≤ a1 ∧ ((a1 : Int) < 30600 ∧ (inI (G7 16155 a1) → ((0 : Int) ≤ r8 ∧ ((r8 : Int) < 30600 ∧ (∀ G15 : gS, G15 = uG G7 16187 r8 (G7 16155 a1) → PX13_keepUse r8 G15 (fun r17 G16 => inI r17 → Q (r17) G16))))))))))))))
set_option maxRecDepth 20000 in
theorem TX13_copyOf_0 {a1 : Int} {G : gS} {Q : Int → gS → Prop} (ha1 : inI a1) (h : PX13_copyOf_0 a1 G Q) : Tg W0 vX13_copyOf_0 [rf (16081), cI (a1), 7] [] G (fun r G => ∃ v, r = cI v ∧ inI v ∧ Q v G) := by
  unfold PX13_copyOf_0 at h
  unfold vX13_copyOf_0
  refine g_ld (v := rf _) rfl (is_R _) ?_
  refine g_const (v := cI (16)) rfl ?_
  refine g_ld (v := rf _) rfl (is_R _) ?_
  refine g_getF (v := 16157) oC13 (hC13_83) rfl (Nat.le_of_ble_eq_true rfl) (Nat.le_of_ble_eq_true rfl) ?_
  refine g_ld (v := cI _) rfl (is_I _) ?_
  obtain ⟨q1, q2, h⟩ := h
  refine g_aldL aC16157 q1 q2 rfl fun i3 => ?_
  replace h := h i3
  refine g_ld (v := rf _) rfl (is_R _) ?_
  refine g_getF (v := 16148) oC13 (hC13_74) rfl (Nat.le_of_ble_eq_true rfl) (Nat.le_of_ble_eq_true rfl) ?_
  refine g_ld (v := cI _) rfl (is_I _) ?_
  obtain ⟨q4, q5, h⟩ := h
  refine g_aldL aC16148 q4 q5 rfl fun i6 => ?_
  replace h := h i6
  refine g_const (v := cL (0)) rfl ?_
  refine g_callV (As := [_, _, _, _]) (ci := 13) oC13 (fun _ => rfl) ?_
  refine g_go1 (Nat.le_of_ble_eq_true rfl) (Tn_w (TX13_nextUse ⟨by omega, by omega⟩ i3 i6 ⟨by omega, by omega⟩ h) fun _ G7 ⟨r8, e, i9, h⟩ => ?_)
  subst e
  refine ⟨n7_I _, ?_⟩
  replace h := h i9
  refine g_st (lv' := [_, _, _]) (is_I _) (Nat.le_of_ble_eq_true rfl) (Or.inr (n1_I _)) rfl ?_
  refine g_ld (v := rf _) rfl (is_R _) ?_
  refine g_getF (v := 16187) oC13 (hC13_127) rfl (Nat.le_of_ble_eq_true rfl) (Nat.le_of_ble_eq_true rfl) ?_
  refine g_ld (v := cI _) rfl (is_I _) ?_
  refine g_ld (v := rf _) rfl (is_R _) ?_
  refine g_getF (v := 16155) oC13 (hC13_81) rfl (Nat.le_of_ble_eq_true rfl) (Nat.le_of_ble_eq_true rfl) ?_
  refine g_ld (v := cI _) rfl (is_I _) ?_
  obtain ⟨q10, q11, h⟩ := h
  refine g_aldI aC16155 q10 q11 rfl fun i12 => ?_
  replace h := h i12
  obtain ⟨q13, q14, h⟩ := h
  refine g_astI aC16187 q13 q14 i12 (nfI aC16187) ?_
  replace h := h _ rfl
  refine g_ld (v := rf _) rfl (is_R _) ?_
  refine g_ld (v := cI _) rfl (is_I _) ?_
  refine g_callV (As := [_]) (ci := 13) oC13 (fun _ => rfl) ?_
  refine g_go1 (Nat.le_of_ble_eq_true rfl) (Tn_w (TX13_keepUse i9 h) fun _ G16 ⟨r17, e, i18, h⟩ => ?_)
  subst e
  refine ⟨n7_I _, ?_⟩
  replace h := h i18
  unfold vX13_copyOf_37
  exact g_ret1 (is_I _) ⟨_, rfl, i18, h⟩
abbrev PX13_copyOf (a1 : Int) (G : gS) (Q : Int → gS → Prop) : Prop := PX13_copyOf_0 a1 G Q
theorem TX13_copyOf {a1 : Int} {G : gS} {Q : Int → gS → Prop} (ha1 : inI a1) (h : PX13_copyOf a1 G Q) : Tn W0 FX13_copyOf [rf (16081), cI (a1)] G (fun r G => ∃ v, r = cI v ∧ inI v ∧ Q v G) := by
  unfold FX13_copyOf
  refine g_ent (lv' := [rf (16081), cI (a1), 7]) (flR (flI fl0)) (Nat.le_of_ble_eq_true rfl) rfl ?_
  exact TX13_copyOf_0 ha1 h
def PX13_fit_65 (l1 : Int) (l2 : Int) (l4 : Int) (G : gS) (Q : Int → gS → Prop) : Prop :=
  Q 0 G
set_option maxRecDepth 20000 in
theorem TX13_fit_65 {l1 : Int} {l2 : Int} {l3 : Nat} {l4 : Int} {l5 : Nat} {l6 : Nat} {G : gS} {Q : Int → gS → Prop} (hl1 : inI l1) (hl2 : inL l2) (hl3 : l3 % 8 ≠ 1) (hl4 : inL l4) (hl5 : l5 % 8 ≠ 1) (hl6 : l6 % 8 ≠ 1) (h : PX13_fit_65 l1 l2 l4 G Q) : Tg W0 vX13_fit_65 [rf (16081), cI (l1), cL (l2), l3, cL (l4), l5, l6] [] G (fun r G => r = 7 ∧ Q 0 G) := by
  unfold PX13_fit_65 at h
  unfold vX13_fit_65
  exact g_ret0 ⟨rfl, h⟩
def PX13_fit_0 (a1 : Int) (a2 : Int) (G : gS) (Q : Int → gS → Prop) : Prop :=
  ((0 : Int) ≤ a1 ∧ ((a1 : Int) < 30600 ∧ (inL (G 16150 a1) → PX13_isC (G 16150 a1) G (fun r5 G4 => (0 ≤ r5 ∧ r5 ≤ 1) → ((r5 = 0 → PX13_fit_65 a1 a2 (G 16150 a1) G4 Q) ∧ (¬ (r5 = 0) → PX13_isC a2 G4 (fun r9 G8 => (0 ≤ r9 ∧ r9 ≤ 1) → ((r9 = 0 → PX13_fit_65 a1 a2 (G 16150 a1) G8 Q) ∧ (¬ (r9 = 0) → ((G 16150 a1 = a2 → PX13_fit_65 a1 a2 (G 16150 a1) G8 Q) ∧ (¬ (G 16150 a1 = a2) → ((a2 = 2305843009220621209 → PX13_fit_65 a1 a2 (G 16150 a1) G8 Q) ∧ (¬ (a2 = 2305843009220621209) → PX13_nextUse 17 (G 16150 a1) 0 0 G8 (fun r15 G14 => inI r15 → ((0 : Int) ≤ r15 ∧ ((r15 : Int) < 30600 ∧ (∀ G19 : gS, G19 = uG G14 16186 r15 (a2) → PX13_keepUse r15 G19 (fun r21 G20 => inI r21 → PX13_fit_65 a1 a2 (G 16150 a1) G20 Q))))))))))))))))))
set_option maxRecDepth 20000 in
theorem TX13_fit_0 {a1 : Int} {a2 : Int} {G : gS} {Q : Int → gS → Prop} (ha1 : inI a1) (ha2 : inL a2) (h : PX13_fit_0 a1 a2 G Q) : Tg W0 vX13_fit_0 [rf (16081), cI (a1), cL (a2), 7, 7, 7, 7] [] G (fun r G => r = 7 ∧ Q 0 G) := by
  unfold PX13_fit_0 at h
  unfold vX13_fit_0
  refine g_ld (v := rf _) rfl (is_R _) ?_
  refine g_getF (v := 16150) oC13 (hC13_76) rfl (Nat.le_of_ble_eq_true rfl) (Nat.le_of_ble_eq_true rfl) ?_
  refine g_ld (v := cI _) rfl (is_I _) ?_
  obtain ⟨q1, q2, h⟩ := h
  refine g_aldL aC16150 q1 q2 rfl fun i3 => ?_
  replace h := h i3
  refine g_stL (lv' := [_, _, _, _, _, _, _]) (Nat.le_of_ble_eq_true rfl) (Or.inr (show 7 % 8 ≠ 1 by decide)) rfl ?_
  refine g_ld (v := cL _) rfl (is_L _) ?_
  refine g_callS (As := [_]) (fun _ => rfl) ?_
  refine g_go1 (Nat.le_of_ble_eq_true rfl) (Tn_w (TX13_isC i3 h) fun _ G4 ⟨r5, e, i6, h⟩ => ?_)
  subst e
  refine ⟨n7_I _, ?_⟩
  replace h := h i6
  refine g_eq1 ⟨by omega, by omega⟩ (fun b7 => ?_) (fun b7 => ?_)
  · replace h := h.1 b7
    exact TX13_fit_65 ha1 ha2 (show 7 % 8 ≠ 1 by decide) i3 (show 7 % 8 ≠ 1 by decide) (show 7 % 8 ≠ 1 by decide) h
  · replace h := h.2 b7
    unfold vX13_fit_16
    refine g_ld (v := cL _) rfl (is_L _) ?_
    refine g_callS (As := [_]) (fun _ => rfl) ?_
    refine g_go1 (Nat.le_of_ble_eq_true rfl) (Tn_w (TX13_isC ha2 h) fun _ G8 ⟨r9, e, i10, h⟩ => ?_)
    subst e
    refine ⟨n7_I _, ?_⟩
    replace h := h i10
    refine g_eq1 ⟨by omega, by omega⟩ (fun b11 => ?_) (fun b11 => ?_)
    · replace h := h.1 b11
      exact TX13_fit_65 ha1 ha2 (show 7 % 8 ≠ 1 by decide) i3 (show 7 % 8 ≠ 1 by decide) (show 7 % 8 ≠ 1 by decide) h
    · replace h := h.2 b11
      unfold vX13_fit_23
      refine g_ld (v := cL _) rfl (is_L _) ?_
      refine g_ld (v := cL _) rfl (is_L _) ?_
      refine g_leq i3 ha2 (fun b12 => ?_) (fun b12 => ?_)
      · replace h := h.1 b12
        exact TX13_fit_65 ha1 ha2 (show 7 % 8 ≠ 1 by decide) i3 (show 7 % 8 ≠ 1 by decide) (show 7 % 8 ≠ 1 by decide) h
      · replace h := h.2 b12
        unfold vX13_fit_30
        refine g_ld (v := cL _) rfl (is_L _) ?_
        refine g_const (v := cL (2305843009220621209)) rfl ?_
        refine g_leq ha2 ⟨by omega, by omega⟩ (fun b13 => ?_) (fun b13 => ?_)
        · replace h := h.1 b13
          exact TX13_fit_65 ha1 ha2 (show 7 % 8 ≠ 1 by decide) i3 (show 7 % 8 ≠ 1 by decide) (show 7 % 8 ≠ 1 by decide) h
        · replace h := h.2 b13
          unfold vX13_fit_38
          refine g_ld (v := rf _) rfl (is_R _) ?_
          refine g_const (v := cI (17)) rfl ?_
          refine g_ld (v := cL _) rfl (is_L _) ?_
          refine g_const (v := cL (0)) rfl ?_
          refine g_const (v := cL (0)) rfl ?_
          refine g_callV (As := [_, _, _, _]) (ci := 13) oC13 (fun _ => rfl) ?_
          refine g_go1 (Nat.le_of_ble_eq_true rfl) (Tn_w (TX13_nextUse ⟨by omega, by omega⟩ i3 ⟨by omega, by omega⟩ ⟨by omega, by omega⟩ h) fun _ G14 ⟨r15, e, i16, h⟩ => ?_)
          subst e
          refine ⟨n7_I _, ?_⟩
          replace h := h i16
          refine g_st (lv' := [_, _, _, _, _, _, _]) (is_I _) (Nat.le_of_ble_eq_true rfl) (Or.inr (show 7 % 8 ≠ 1 by decide)) rfl ?_
          refine g_ld (v := rf _) rfl (is_R _) ?_
          refine g_getF (v := 16186) oC13 (hC13_126) rfl (Nat.le_of_ble_eq_true rfl) (Nat.le_of_ble_eq_true rfl) ?_
          refine g_ld (v := cI _) rfl (is_I _) ?_
          refine g_ld (v := cL _) rfl (is_L _) ?_
          obtain ⟨q17, q18, h⟩ := h
          refine g_astL aC16186 q17 q18 ha2 (nfL aC16186) ?_
          replace h := h _ rfl
          refine g_ld (v := rf _) rfl (is_R _) ?_
          refine g_ld (v := cI _) rfl (is_I _) ?_
          refine g_callV (As := [_]) (ci := 13) oC13 (fun _ => rfl) ?_
          refine g_go1 (Nat.le_of_ble_eq_true rfl) (Tn_w (TX13_keepUse i16 h) fun _ G20 ⟨r21, e, i22, h⟩ => ?_)
          subst e
          refine ⟨n7_I _, ?_⟩
          replace h := h i22
          refine g_pop (ct_I _) ?_
          exact TX13_fit_65 ha1 ha2 (show 7 % 8 ≠ 1 by decide) i3 (show 7 % 8 ≠ 1 by decide) (n1_I _) h
abbrev PX13_fit (a1 : Int) (a2 : Int) (G : gS) (Q : Int → gS → Prop) : Prop := PX13_fit_0 a1 a2 G Q
theorem TX13_fit {a1 : Int} {a2 : Int} {G : gS} {Q : Int → gS → Prop} (ha1 : inI a1) (ha2 : inL a2) (h : PX13_fit a1 a2 G Q) : Tn W0 FX13_fit [rf (16081), cI (a1), cL (a2)] G (fun r G => r = 7 ∧ Q 0 G) := by
  unfold FX13_fit
  refine g_ent (lv' := [rf (16081), cI (a1), cL (a2), 7, 7, 7, 7]) (flR (flI (flL fl0))) (Nat.le_of_ble_eq_true rfl) rfl ?_
  exact TX13_fit_0 ha1 ha2 h
def PX13_bridgeUse_209 (J : Nat → List Int → gS → (Int → gS → Prop) → Prop) (l1 : Int) (l2 : Int) (l3 : Int) (l4 : Int) (l5 : Int) (G : gS) (Q : Int → gS → Prop) : Prop :=
  Q (l4) G
set_option maxRecDepth 20000 in
theorem TX13_bridgeUse_209 {j : Nat → rx_K} {J : Nat → List Int → gS → (Int → gS → Prop) → Prop} {l1 : Int} {l2 : Int} {l3 : Int} {l4 : Int} {l5 : Int} {G : gS} {Q : Int → gS → Prop} (hl1 : inI l1) (hl2 : inI l2) (hl3 : inI l3) (hl4 : inI l4) (hl5 : inI l5) (hj0 : ∀ (l1 : Int) (l2 : Int) (l3 : Int) (l4 : Int) (l5 : Int) (G : gS), (inI l1) → (inI l2) → (inI l3) → (inI l4) → (inI l5) → J 0 [l1, l2, l3, l4, l5] G Q → Tg W0 (j 0) [rf (16081), cI (l1), cI (l2), cI (l3), cI (l4), cI (l5)] [] G (fun r G => ∃ v, r = cI v ∧ inI v ∧ Q v G)) (h : PX13_bridgeUse_209 J l1 l2 l3 l4 l5 G Q) : Tg W0 (vX13_bridgeUse_209 j) [rf (16081), cI (l1), cI (l2), cI (l3), cI (l4), cI (l5)] [] G (fun r G => ∃ v, r = cI v ∧ inI v ∧ Q v G) := by
  unfold PX13_bridgeUse_209 at h
  unfold vX13_bridgeUse_209
  refine g_ld (v := cI _) rfl (is_I _) ?_
  exact g_ret1 (is_I _) ⟨_, rfl, hl4, h⟩
def PX13_bridgeUse_72 (J : Nat → List Int → gS → (Int → gS → Prop) → Prop) (l1 : Int) (l2 : Int) (l3 : Int) (l4 : Int) (l5 : Int) (G : gS) (Q : Int → gS → Prop) : Prop :=
  ((0 : Int) ≤ l2 ∧ ((l2 : Int) < 7344 ∧ (inI (G 16129 l2) → ((l5 < G 16129 l2 → ((0 : Int) ≤ (4 * l2) + l5 ∧ (((4 * l2) + l5 : Int) < 29376 ∧ (inL (G 16130 ((4 * l2) + l5)) → ((0 : Int) ≤ (4 * l4) + l5 ∧ (((4 * l4) + l5 : Int) < 122400 ∧ (∀ G37 : gS, G37 = uG G 16185 ((4 * l4) + l5) (G 16130 ((4 * l2) + l5)) → (inI (l5 + 1) ∧ J 0 [l1, l2, l3, l4, l5 + 1] G37 Q)))))))) ∧ (¬ (l5 < G 16129 l2) → PX13_keepUse l4 G (fun r40 G39 => inI r40 → ((0 : Int) ≤ l2 ∧ ((l2 : Int) < 7344 ∧ (inL (G39 16140 l2) → PX13_isC (G39 16140 l2) G39 (fun r46 G45 => (0 ≤ r46 ∧ r46 ≤ 1) → ((r46 = 0 → PX13_bridgeUse_209 J l1 l2 l3 r40 l5 G45 Q) ∧ (¬ (r46 = 0) → ((0 : Int) ≤ l2 ∧ ((l2 : Int) < 7344 ∧ (inL (G45 16127 l2) → PX13_isC (G45 16127 l2) G45 (fun r53 G52 => (0 ≤ r53 ∧ r53 ≤ 1) → ((r53 = 0 → PX13_bridgeUse_209 J l1 l2 l3 r40 l5 G52 Q) ∧ (¬ (r53 = 0) → ((0 : Int) ≤ l2 ∧ ((l2 : Int) < 7344 ∧ (inL (G52 16140 l2) → ((0 : Int) ≤ l2 ∧ ((l2 : Int) < 7344 ∧ (inL (G52 16127 l2) → ((G52 16140 l2 = G52 16127 l2 → PX13_bridgeUse_209 J l1 l2 l3 r40 l5 G52 Q) ∧ (¬ (G52 16140 l2 = G52 16127 l2) → ((0 : Int) ≤ l2 ∧ ((l2 : Int) < 7344 ∧ (inL (G52 16127 l2) → ((G52 16127 l2 = 2305843009220621209 → PX13_bridgeUse_209 J l1 l2 l3 r40 l5 G52 Q) ∧ (¬ (G52 16127 l2 = 2305843009220621209) → ((0 : Int) ≤ l2 ∧ ((l2 : Int) < 7344 ∧ (inL (G52 16140 l2) → PX13_nextUse 17 (G52 16140 l2) 0 0 G52 (fun r71 G70 => inI r71 → ((0 : Int) ≤ l2 ∧ ((l2 : Int) < 7344 ∧ (inL (G70 16127 l2) → ((0 : Int) ≤ r71 ∧ ((r71 : Int) < 30600 ∧ (∀ G78 : gS, G78 = uG G70 16186 r71 (G70 16127 l2) → PX13_keepUse r71 G78 (fun r80 G79 => inI r80 → PX13_bridgeUse_209 J l1 l2 l3 r40 r71 G79 Q))))))))))))))))))))))))))))))))))))))))))
set_option maxRecDepth 20000 in
theorem TX13_bridgeUse_72 {j : Nat → rx_K} {J : Nat → List Int → gS → (Int → gS → Prop) → Prop} {l1 : Int} {l2 : Int} {l3 : Int} {l4 : Int} {l5 : Int} {G : gS} {Q : Int → gS → Prop} (hl1 : inI l1) (hl2 : inI l2) (hl3 : inI l3) (hl4 : inI l4) (hl5 : inI l5) (hj0 : ∀ (l1 : Int) (l2 : Int) (l3 : Int) (l4 : Int) (l5 : Int) (G : gS), (inI l1) → (inI l2) → (inI l3) → (inI l4) → (inI l5) → J 0 [l1, l2, l3, l4, l5] G Q → Tg W0 (j 0) [rf (16081), cI (l1), cI (l2), cI (l3), cI (l4), cI (l5)] [] G (fun r G => ∃ v, r = cI v ∧ inI v ∧ Q v G)) (h : PX13_bridgeUse_72 J l1 l2 l3 l4 l5 G Q) : Tg W0 (vX13_bridgeUse_72 j) [rf (16081), cI (l1), cI (l2), cI (l3), cI (l4), cI (l5)] [] G (fun r G => ∃ v, r = cI v ∧ inI v ∧ Q v G) := by
  unfold PX13_bridgeUse_72 at h
  unfold vX13_bridgeUse_72
  refine g_ld (v := cI _) rfl (is_I _) ?_
  refine g_ld (v := rf _) rfl (is_R _) ?_
  refine g_getF (v := 16129) oC13 (hC13_55) rfl (Nat.le_of_ble_eq_true rfl) (Nat.le_of_ble_eq_true rfl) ?_
  refine g_ld (v := cI _) rfl (is_I _) ?_
  obtain ⟨q28, q29, h⟩ := h
  refine g_aldI aC16129 q28 q29 rfl fun i30 => ?_
  replace h := h i30
  refine g_lt2 hl5 i30 (fun b31 => ?_) (fun b31 => ?_)
  · replace h := h.1 b31
    unfold vX13_bridgeUse_83
    refine g_ld (v := rf _) rfl (is_R _) ?_
    refine g_getF (v := 16185) oC13 (hC13_125) rfl (Nat.le_of_ble_eq_true rfl) (Nat.le_of_ble_eq_true rfl) ?_
    refine g_const (v := cI (4)) rfl ?_
    refine g_ld (v := cI _) rfl (is_I _) ?_
    refine g_mul ?_
    refine g_ld (v := cI _) rfl (is_I _) ?_
    refine g_add ?_
    refine g_ld (v := rf _) rfl (is_R _) ?_
    refine g_getF (v := 16130) oC13 (hC13_56) rfl (Nat.le_of_ble_eq_true rfl) (Nat.le_of_ble_eq_true rfl) ?_
    refine g_const (v := cI (4)) rfl ?_
    refine g_ld (v := cI _) rfl (is_I _) ?_
    refine g_mul ?_
    refine g_ld (v := cI _) rfl (is_I _) ?_
    refine g_add ?_
    obtain ⟨q32, q33, h⟩ := h
    refine g_aldL aC16130 q32 q33 rfl fun i34 => ?_
    replace h := h i34
    obtain ⟨q35, q36, h⟩ := h
    refine g_astL aC16185 q35 q36 i34 (nfL aC16185) ?_
    replace h := h _ rfl
    refine g_inc (lv' := [_, _, _, _, _, _]) rfl (Nat.le_of_ble_eq_true rfl) (Or.inr (n1_I _)) rfl ?_
    obtain ⟨q38, h⟩ := h
    exact hj0 _ _ _ _ _ _ hl1 hl2 hl3 hl4 q38 h
  · replace h := h.2 b31
    unfold vX13_bridgeUse_112
    refine g_ld (v := rf _) rfl (is_R _) ?_
    refine g_ld (v := cI _) rfl (is_I _) ?_
    refine g_callV (As := [_]) (ci := 13) oC13 (fun _ => rfl) ?_
    refine g_go1 (Nat.le_of_ble_eq_true rfl) (Tn_w (TX13_keepUse hl4 h) fun _ G39 ⟨r40, e, i41, h⟩ => ?_)
    subst e
    refine ⟨n7_I _, ?_⟩
    replace h := h i41
    refine g_st (lv' := [_, _, _, _, _, _]) (is_I _) (Nat.le_of_ble_eq_true rfl) (Or.inr (n1_I _)) rfl ?_
    refine g_ld (v := rf _) rfl (is_R _) ?_
    refine g_getF (v := 16140) oC13 (hC13_66) rfl (Nat.le_of_ble_eq_true rfl) (Nat.le_of_ble_eq_true rfl) ?_
    refine g_ld (v := cI _) rfl (is_I _) ?_
    obtain ⟨q42, q43, h⟩ := h
    refine g_aldL aC16140 q42 q43 rfl fun i44 => ?_
    replace h := h i44
    refine g_callS (As := [_]) (fun _ => rfl) ?_
    refine g_go1 (Nat.le_of_ble_eq_true rfl) (Tn_w (TX13_isC i44 h) fun _ G45 ⟨r46, e, i47, h⟩ => ?_)
    subst e
    refine ⟨n7_I _, ?_⟩
    replace h := h i47
    refine g_eq1 ⟨by omega, by omega⟩ (fun b48 => ?_) (fun b48 => ?_)
    · replace h := h.1 b48
      exact TX13_bridgeUse_209 hl1 hl2 hl3 i41 hl5 hj0 h
    · replace h := h.2 b48
      unfold vX13_bridgeUse_132
      refine g_ld (v := rf _) rfl (is_R _) ?_
      refine g_getF (v := 16127) oC13 (hC13_53) rfl (Nat.le_of_ble_eq_true rfl) (Nat.le_of_ble_eq_true rfl) ?_
      refine g_ld (v := cI _) rfl (is_I _) ?_
      obtain ⟨q49, q50, h⟩ := h
      refine g_aldL aC16127 q49 q50 rfl fun i51 => ?_
      replace h := h i51
      refine g_callS (As := [_]) (fun _ => rfl) ?_
      refine g_go1 (Nat.le_of_ble_eq_true rfl) (Tn_w (TX13_isC i51 h) fun _ G52 ⟨r53, e, i54, h⟩ => ?_)
      subst e
      refine ⟨n7_I _, ?_⟩
      replace h := h i54
      refine g_eq1 ⟨by omega, by omega⟩ (fun b55 => ?_) (fun b55 => ?_)
      · replace h := h.1 b55
        exact TX13_bridgeUse_209 hl1 hl2 hl3 i41 hl5 hj0 h
      · replace h := h.2 b55
        unfold vX13_bridgeUse_144
        refine g_ld (v := rf _) rfl (is_R _) ?_
        refine g_getF (v := 16140) oC13 (hC13_66) rfl (Nat.le_of_ble_eq_true rfl) (Nat.le_of_ble_eq_true rfl) ?_
        refine g_ld (v := cI _) rfl (is_I _) ?_
        obtain ⟨q56, q57, h⟩ := h
        refine g_aldL aC16140 q56 q57 rfl fun i58 => ?_
        replace h := h i58
        refine g_ld (v := rf _) rfl (is_R _) ?_
        refine g_getF (v := 16127) oC13 (hC13_53) rfl (Nat.le_of_ble_eq_true rfl) (Nat.le_of_ble_eq_true rfl) ?_
        refine g_ld (v := cI _) rfl (is_I _) ?_
        obtain ⟨q59, q60, h⟩ := h
        refine g_aldL aC16127 q59 q60 rfl fun i61 => ?_
        replace h := h i61
        refine g_leq i58 i61 (fun b62 => ?_) (fun b62 => ?_)
        · replace h := h.1 b62
          exact TX13_bridgeUse_209 hl1 hl2 hl3 i41 hl5 hj0 h
        · replace h := h.2 b62
          unfold vX13_bridgeUse_160
          refine g_ld (v := rf _) rfl (is_R _) ?_
          refine g_getF (v := 16127) oC13 (hC13_53) rfl (Nat.le_of_ble_eq_true rfl) (Nat.le_of_ble_eq_true rfl) ?_
          refine g_ld (v := cI _) rfl (is_I _) ?_
          obtain ⟨q63, q64, h⟩ := h
          refine g_aldL aC16127 q63 q64 rfl fun i65 => ?_
          replace h := h i65
          refine g_const (v := cL (2305843009220621209)) rfl ?_
          refine g_leq i65 ⟨by omega, by omega⟩ (fun b66 => ?_) (fun b66 => ?_)
          · replace h := h.1 b66
            exact TX13_bridgeUse_209 hl1 hl2 hl3 i41 hl5 hj0 h
          · replace h := h.2 b66
            unfold vX13_bridgeUse_173
            refine g_ld (v := rf _) rfl (is_R _) ?_
            refine g_const (v := cI (17)) rfl ?_
            refine g_ld (v := rf _) rfl (is_R _) ?_
            refine g_getF (v := 16140) oC13 (hC13_66) rfl (Nat.le_of_ble_eq_true rfl) (Nat.le_of_ble_eq_true rfl) ?_
            refine g_ld (v := cI _) rfl (is_I _) ?_
            obtain ⟨q67, q68, h⟩ := h
            refine g_aldL aC16140 q67 q68 rfl fun i69 => ?_
            replace h := h i69
            refine g_const (v := cL (0)) rfl ?_
            refine g_const (v := cL (0)) rfl ?_
            refine g_callV (As := [_, _, _, _]) (ci := 13) oC13 (fun _ => rfl) ?_
            refine g_go1 (Nat.le_of_ble_eq_true rfl) (Tn_w (TX13_nextUse ⟨by omega, by omega⟩ i69 ⟨by omega, by omega⟩ ⟨by omega, by omega⟩ h) fun _ G70 ⟨r71, e, i72, h⟩ => ?_)
            subst e
            refine ⟨n7_I _, ?_⟩
            replace h := h i72
            refine g_st (lv' := [_, _, _, _, _, _]) (is_I _) (Nat.le_of_ble_eq_true rfl) (Or.inr (n1_I _)) rfl ?_
            refine g_ld (v := rf _) rfl (is_R _) ?_
            refine g_getF (v := 16186) oC13 (hC13_126) rfl (Nat.le_of_ble_eq_true rfl) (Nat.le_of_ble_eq_true rfl) ?_
            refine g_ld (v := cI _) rfl (is_I _) ?_
            refine g_ld (v := rf _) rfl (is_R _) ?_
            refine g_getF (v := 16127) oC13 (hC13_53) rfl (Nat.le_of_ble_eq_true rfl) (Nat.le_of_ble_eq_true rfl) ?_
            refine g_ld (v := cI _) rfl (is_I _) ?_
            obtain ⟨q73, q74, h⟩ := h
            refine g_aldL aC16127 q73 q74 rfl fun i75 => ?_
            replace h := h i75
            obtain ⟨q76, q77, h⟩ := h
            refine g_astL aC16186 q76 q77 i75 (nfL aC16186) ?_
            replace h := h _ rfl
            refine g_ld (v := rf _) rfl (is_R _) ?_
            refine g_ld (v := cI _) rfl (is_I _) ?_
            refine g_callV (As := [_]) (ci := 13) oC13 (fun _ => rfl) ?_
            refine g_go1 (Nat.le_of_ble_eq_true rfl) (Tn_w (TX13_keepUse i72 h) fun _ G79 ⟨r80, e, i81, h⟩ => ?_)
            subst e
            refine ⟨n7_I _, ?_⟩
            replace h := h i81
            refine g_pop (ct_I _) ?_
            exact TX13_bridgeUse_209 hl1 hl2 hl3 i41 i72 hj0 h
def PX13_bridgeUse_29 (J : Nat → List Int → gS → (Int → gS → Prop) → Prop) (l1 : Int) (l2 : Int) (s0 : Int) (s1 : Int) (G : gS) (Q : Int → gS → Prop) : Prop :=
  (inI (s0 + s1) ∧ ((0 : Int) ≤ l1 ∧ ((l1 : Int) < 216 ∧ (inL (G 16098 l1) → ((0 : Int) ≤ l2 ∧ ((l2 : Int) < 7344 ∧ (inL (G 16125 l2) → ((0 : Int) ≤ l2 ∧ ((l2 : Int) < 7344 ∧ (inL (G 16140 l2) → PX13_nextUse (s0 + s1) (G 16098 l1) (G 16125 l2) (G 16140 l2) G (fun r20 G19 => inI r20 → ((0 : Int) ≤ l2 ∧ ((l2 : Int) < 7344 ∧ (inI (G19 16129 l2) → ((0 : Int) ≤ r20 ∧ ((r20 : Int) < 30600 ∧ (∀ G27 : gS, G27 = uG G19 16184 r20 (G19 16129 l2) → PX13_bridgeUse_72 J l1 l2 (s0 + s1) r20 0 G27 Q)))))))))))))))))
set_option maxRecDepth 20000 in
theorem TX13_bridgeUse_29 {j : Nat → rx_K} {J : Nat → List Int → gS → (Int → gS → Prop) → Prop} {l1 : Int} {l2 : Int} {l3 : Nat} {l4 : Nat} {l5 : Nat} {s0 : Int} {s1 : Int} {G : gS} {Q : Int → gS → Prop} (hl1 : inI l1) (hl2 : inI l2) (hl3 : l3 % 8 ≠ 1) (hl4 : l4 % 8 ≠ 1) (hl5 : l5 % 8 ≠ 1) (hs0 : inI s0) (hs1 : inI s1) (hj0 : ∀ (l1 : Int) (l2 : Int) (l3 : Int) (l4 : Int) (l5 : Int) (G : gS), (inI l1) → (inI l2) → (inI l3) → (inI l4) → (inI l5) → J 0 [l1, l2, l3, l4, l5] G Q → Tg W0 (j 0) [rf (16081), cI (l1), cI (l2), cI (l3), cI (l4), cI (l5)] [] G (fun r G => ∃ v, r = cI v ∧ inI v ∧ Q v G)) (h : PX13_bridgeUse_29 J l1 l2 s0 s1 G Q) : Tg W0 (vX13_bridgeUse_29 j) [rf (16081), cI (l1), cI (l2), l3, l4, l5] [cI (s1), cI (s0)] G (fun r G => ∃ v, r = cI v ∧ inI v ∧ Q v G) := by
  unfold PX13_bridgeUse_29 at h
  unfold vX13_bridgeUse_29
  refine g_add ?_
  refine g_st (lv' := [_, _, _, _, _, _]) (is_I _) (Nat.le_of_ble_eq_true rfl) (Or.inr (n1_I _)) rfl ?_
  obtain ⟨q9, h⟩ := h
  refine g_ld (v := rf _) rfl (is_R _) ?_
  refine g_ld (v := cI _) rfl (is_I _) ?_
  refine g_ld (v := rf _) rfl (is_R _) ?_
  refine g_getF (v := 16098) oC13 (hC13_24) rfl (Nat.le_of_ble_eq_true rfl) (Nat.le_of_ble_eq_true rfl) ?_
  refine g_ld (v := cI _) rfl (is_I _) ?_
  obtain ⟨q10, q11, h⟩ := h
  refine g_aldL aC16098 q10 q11 rfl fun i12 => ?_
  replace h := h i12
  refine g_ld (v := rf _) rfl (is_R _) ?_
  refine g_getF (v := 16125) oC13 (hC13_51) rfl (Nat.le_of_ble_eq_true rfl) (Nat.le_of_ble_eq_true rfl) ?_
  refine g_ld (v := cI _) rfl (is_I _) ?_
  obtain ⟨q13, q14, h⟩ := h
  refine g_aldL aC16125 q13 q14 rfl fun i15 => ?_
  replace h := h i15
  refine g_ld (v := rf _) rfl (is_R _) ?_
  refine g_getF (v := 16140) oC13 (hC13_66) rfl (Nat.le_of_ble_eq_true rfl) (Nat.le_of_ble_eq_true rfl) ?_
  refine g_ld (v := cI _) rfl (is_I _) ?_
  obtain ⟨q16, q17, h⟩ := h
  refine g_aldL aC16140 q16 q17 rfl fun i18 => ?_
  replace h := h i18
  refine g_callV (As := [_, _, _, _]) (ci := 13) oC13 (fun _ => rfl) ?_
  refine g_go1 (Nat.le_of_ble_eq_true rfl) (Tn_w (TX13_nextUse q9 i12 i15 i18 h) fun _ G19 ⟨r20, e, i21, h⟩ => ?_)
  subst e
  refine ⟨n7_I _, ?_⟩
  replace h := h i21
  refine g_st (lv' := [_, _, _, _, _, _]) (is_I _) (Nat.le_of_ble_eq_true rfl) (Or.inr (n1_I _)) rfl ?_
  refine g_ld (v := rf _) rfl (is_R _) ?_
  refine g_getF (v := 16184) oC13 (hC13_124) rfl (Nat.le_of_ble_eq_true rfl) (Nat.le_of_ble_eq_true rfl) ?_
  refine g_ld (v := cI _) rfl (is_I _) ?_
  refine g_ld (v := rf _) rfl (is_R _) ?_
  refine g_getF (v := 16129) oC13 (hC13_55) rfl (Nat.le_of_ble_eq_true rfl) (Nat.le_of_ble_eq_true rfl) ?_
  refine g_ld (v := cI _) rfl (is_I _) ?_
  unfold vX13_bridgeUse_67
  obtain ⟨q22, q23, h⟩ := h
  refine g_aldI aC16129 q22 q23 rfl fun i24 => ?_
  replace h := h i24
  obtain ⟨q25, q26, h⟩ := h
  refine g_astI aC16184 q25 q26 i24 (nfI aC16184) ?_
  replace h := h _ rfl
  refine g_const (v := cI (0)) rfl ?_
  refine g_st (lv' := [_, _, _, _, _, _]) (is_I _) (Nat.le_of_ble_eq_true rfl) (Or.inr (n1_I _)) rfl ?_
  exact TX13_bridgeUse_72 hl1 hl2 q9 i21 ⟨by omega, by omega⟩ hj0 h
def PX13_bridgeUse_15 (J : Nat → List Int → gS → (Int → gS → Prop) → Prop) (l1 : Int) (l2 : Int) (s0 : Int) (G : gS) (Q : Int → gS → Prop) : Prop :=
  ((0 : Int) ≤ l2 ∧ ((l2 : Int) < 7344 ∧ ((0 ≤ G 16119 l2 ∧ G 16119 l2 ≤ 1) → ((G 16119 l2 = 0 → PX13_bridgeUse_29 J l1 l2 s0 0 G Q) ∧ (¬ (G 16119 l2 = 0) → PX13_bridgeUse_29 J l1 l2 s0 2 G Q)))))
set_option maxRecDepth 20000 in
theorem TX13_bridgeUse_15 {j : Nat → rx_K} {J : Nat → List Int → gS → (Int → gS → Prop) → Prop} {l1 : Int} {l2 : Int} {l3 : Nat} {l4 : Nat} {l5 : Nat} {s0 : Int} {G : gS} {Q : Int → gS → Prop} (hl1 : inI l1) (hl2 : inI l2) (hl3 : l3 % 8 ≠ 1) (hl4 : l4 % 8 ≠ 1) (hl5 : l5 % 8 ≠ 1) (hs0 : inI s0) (hj0 : ∀ (l1 : Int) (l2 : Int) (l3 : Int) (l4 : Int) (l5 : Int) (G : gS), (inI l1) → (inI l2) → (inI l3) → (inI l4) → (inI l5) → J 0 [l1, l2, l3, l4, l5] G Q → Tg W0 (j 0) [rf (16081), cI (l1), cI (l2), cI (l3), cI (l4), cI (l5)] [] G (fun r G => ∃ v, r = cI v ∧ inI v ∧ Q v G)) (h : PX13_bridgeUse_15 J l1 l2 s0 G Q) : Tg W0 (vX13_bridgeUse_15 j) [rf (16081), cI (l1), cI (l2), l3, l4, l5] [cI (s0)] G (fun r G => ∃ v, r = cI v ∧ inI v ∧ Q v G) := by
  unfold PX13_bridgeUse_15 at h
  unfold vX13_bridgeUse_15
  refine g_ld (v := rf _) rfl (is_R _) ?_
  refine g_getF (v := 16119) oC13 (hC13_45) rfl (Nat.le_of_ble_eq_true rfl) (Nat.le_of_ble_eq_true rfl) ?_
  refine g_ld (v := cI _) rfl (is_I _) ?_
  obtain ⟨q5, q6, h⟩ := h
  refine g_aldZ aC16119 q5 q6 rfl fun i7 => ?_
  replace h := h i7
  refine g_eq1 ⟨by omega, by omega⟩ (fun b8 => ?_) (fun b8 => ?_)
  · replace h := h.1 b8
    unfold vX13_bridgeUse_28
    refine g_const (v := cI (0)) rfl ?_
    exact TX13_bridgeUse_29 hl1 hl2 hl3 hl4 hl5 hs0 ⟨by omega, by omega⟩ hj0 h
  · replace h := h.2 b8
    unfold vX13_bridgeUse_24
    refine g_const (v := cI (2)) rfl ?_
    exact TX13_bridgeUse_29 hl1 hl2 hl3 hl4 hl5 hs0 ⟨by omega, by omega⟩ hj0 h
def PX13_bridgeUse_0 (J : Nat → List Int → gS → (Int → gS → Prop) → Prop) (a1 : Int) (a2 : Int) (G : gS) (Q : Int → gS → Prop) : Prop :=
  PX13_isFace a1 G (fun r2 G1 => (0 ≤ r2 ∧ r2 ≤ 1) → ((r2 = 0 → PX13_bridgeUse_15 J a1 a2 7 G1 Q) ∧ (¬ (r2 = 0) → PX13_bridgeUse_15 J a1 a2 8 G1 Q)))
set_option maxRecDepth 20000 in
theorem TX13_bridgeUse_0 {j : Nat → rx_K} {J : Nat → List Int → gS → (Int → gS → Prop) → Prop} {a1 : Int} {a2 : Int} {G : gS} {Q : Int → gS → Prop} (ha1 : inI a1) (ha2 : inI a2) (hj0 : ∀ (l1 : Int) (l2 : Int) (l3 : Int) (l4 : Int) (l5 : Int) (G : gS), (inI l1) → (inI l2) → (inI l3) → (inI l4) → (inI l5) → J 0 [l1, l2, l3, l4, l5] G Q → Tg W0 (j 0) [rf (16081), cI (l1), cI (l2), cI (l3), cI (l4), cI (l5)] [] G (fun r G => ∃ v, r = cI v ∧ inI v ∧ Q v G)) (h : PX13_bridgeUse_0 J a1 a2 G Q) : Tg W0 (vX13_bridgeUse_0 j) [rf (16081), cI (a1), cI (a2), 7, 7, 7] [] G (fun r G => ∃ v, r = cI v ∧ inI v ∧ Q v G) := by
  unfold PX13_bridgeUse_0 at h
  unfold vX13_bridgeUse_0
  refine g_ld (v := rf _) rfl (is_R _) ?_
  refine g_ld (v := cI _) rfl (is_I _) ?_
  refine g_callV (As := [_]) (ci := 13) oC13 (fun _ => rfl) ?_
  refine g_go1 (Nat.le_of_ble_eq_true rfl) (Tn_w (TX13_isFace ha1 h) fun _ G1 ⟨r2, e, i3, h⟩ => ?_)
  subst e
  refine ⟨n7_I _, ?_⟩
  replace h := h i3
  refine g_eq1 ⟨by omega, by omega⟩ (fun b4 => ?_) (fun b4 => ?_)
  · replace h := h.1 b4
    unfold vX13_bridgeUse_13
    refine g_const (v := cI (7)) rfl ?_
    exact TX13_bridgeUse_15 ha1 ha2 (show 7 % 8 ≠ 1 by decide) (show 7 % 8 ≠ 1 by decide) (show 7 % 8 ≠ 1 by decide) ⟨by omega, by omega⟩ hj0 h
  · replace h := h.2 b4
    unfold vX13_bridgeUse_8
    refine g_const (v := cI (8)) rfl ?_
    exact TX13_bridgeUse_15 ha1 ha2 (show 7 % 8 ≠ 1 by decide) (show 7 % 8 ≠ 1 by decide) (show 7 % 8 ≠ 1 by decide) ⟨by omega, by omega⟩ hj0 h
def PX13_bridgeUse_J : Nat → Nat → List Int → gS → (Int → gS → Prop) → Prop
  | 0, _, _, _, _ => False
  | f + 1, h, L, G, Q => match h, L with
    | 0, [l1, l2, l3, l4, l5] => PX13_bridgeUse_72 (PX13_bridgeUse_J f) l1 l2 l3 l4 l5 G Q
    | _, _ => False
theorem TX13_bridgeUse_J {Q : Int → gS → Prop} : ∀ f N : Nat, f ≤ N → (∀ (l1 : Int) (l2 : Int) (l3 : Int) (l4 : Int) (l5 : Int) (G : gS), (inI l1) → (inI l2) → (inI l3) → (inI l4) → (inI l5) → (PX13_bridgeUse_J f) 0 [l1, l2, l3, l4, l5] G Q → Tg W0 (rx_J vhX13_bridgeUse N 0) [rf (16081), cI (l1), cI (l2), cI (l3), cI (l4), cI (l5)] [] G (fun r G => ∃ v, r = cI v ∧ inI v ∧ Q v G)) := by
  intro f
  induction f with
  | zero => exact fun N _ => fun _ _ _ _ _ _ _ _ _ _ _ h => h.elim
  | succ f ih =>
    intro N hN
    obtain ⟨M, rfl⟩ : ∃ M, N = M + 1 := ⟨N - 1, by omega⟩
    have ih := ih M (by omega)
    exact fun _ _ _ _ _ _ hl1 hl2 hl3 hl4 hl5 h => show Tg W0 (vX13_bridgeUse_72 (rx_J vhX13_bridgeUse M)) _ _ _ _ from TX13_bridgeUse_72 hl1 hl2 hl3 hl4 hl5 ih h
def PX13_bridgeUse (a1 : Int) (a2 : Int) (G : gS) (Q : Int → gS → Prop) : Prop := ∃ f : Nat, f ≤ 4000000000 ∧ PX13_bridgeUse_0 (PX13_bridgeUse_J f) a1 a2 G Q
theorem TX13_bridgeUse {a1 : Int} {a2 : Int} {G : gS} {Q : Int → gS → Prop} (ha1 : inI a1) (ha2 : inI a2) (h : PX13_bridgeUse a1 a2 G Q) : Tn W0 FX13_bridgeUse [rf (16081), cI (a1), cI (a2)] G (fun r G => ∃ v, r = cI v ∧ inI v ∧ Q v G) := by
  obtain ⟨f, hf, h⟩ := h
  have hJ := TX13_bridgeUse_J (Q := Q) f 4000000000 hf
  unfold FX13_bridgeUse
  refine g_ent (lv' := [rf (16081), cI (a1), cI (a2), 7, 7, 7]) (flR (flI (flI fl0))) (Nat.le_of_ble_eq_true rfl) rfl ?_
  exact TX13_bridgeUse_0 ha1 ha2 hJ h
def PX13_callUse_71 (l1 : Int) (l2 : Int) (l3 : Int) (s0 : Int) (G : gS) (Q : Int → gS → Prop) : Prop :=
  ((0 : Int) ≤ l1 ∧ ((l1 : Int) < 30600 ∧ (inL (G 16157 l1) → ((0 : Int) ≤ l1 ∧ ((l1 : Int) < 30600 ∧ (inL (G 16148 l1) → ((0 : Int) ≤ l1 ∧ ((l1 : Int) < 30600 ∧ (inL (G 16158 l1) → PX13_useOf l1 s0 (G 16157 l1) (G 16148 l1) (G 16158 l1) G (fun r26 G25 => inI r26 → Q (r26) G25))))))))))
set_option maxRecDepth 20000 in
theorem TX13_callUse_71 {l1 : Int} {l2 : Int} {l3 : Int} {l4 : Nat} {s0 : Int} {G : gS} {Q : Int → gS → Prop} (hl1 : inI l1) (hl2 : inI l2) (hl3 : inI l3) (hl4 : l4 % 8 ≠ 1) (hs0 : inI s0) (h : PX13_callUse_71 l1 l2 l3 s0 G Q) : Tg W0 vX13_callUse_71 [rf (16081), cI (l1), cI (l2), cI (l3), l4] [cI (s0)] G (fun r G => ∃ v, r = cI v ∧ inI v ∧ Q v G) := by
  unfold PX13_callUse_71 at h
  unfold vX13_callUse_71
  refine g_st (lv' := [_, _, _, _, _]) (is_I _) (Nat.le_of_ble_eq_true rfl) (Or.inr (n1_I _)) rfl ?_
  refine g_ld (v := rf _) rfl (is_R _) ?_
  refine g_ld (v := cI _) rfl (is_I _) ?_
  refine g_ld (v := cI _) rfl (is_I _) ?_
  refine g_ld (v := rf _) rfl (is_R _) ?_
  refine g_getF (v := 16157) oC13 (hC13_83) rfl (Nat.le_of_ble_eq_true rfl) (Nat.le_of_ble_eq_true rfl) ?_
  refine g_ld (v := cI _) rfl (is_I _) ?_
  obtain ⟨q16, q17, h⟩ := h
  refine g_aldL aC16157 q16 q17 rfl fun i18 => ?_
  replace h := h i18
  refine g_ld (v := rf _) rfl (is_R _) ?_
  refine g_getF (v := 16148) oC13 (hC13_74) rfl (Nat.le_of_ble_eq_true rfl) (Nat.le_of_ble_eq_true rfl) ?_
  refine g_ld (v := cI _) rfl (is_I _) ?_
  obtain ⟨q19, q20, h⟩ := h
  refine g_aldL aC16148 q19 q20 rfl fun i21 => ?_
  replace h := h i21
  refine g_ld (v := rf _) rfl (is_R _) ?_
  refine g_getF (v := 16158) oC13 (hC13_84) rfl (Nat.le_of_ble_eq_true rfl) (Nat.le_of_ble_eq_true rfl) ?_
  refine g_ld (v := cI _) rfl (is_I _) ?_
  obtain ⟨q22, q23, h⟩ := h
  refine g_aldL aC16158 q22 q23 rfl fun i24 => ?_
  replace h := h i24
  refine g_callV (As := [_, _, _, _, _]) (ci := 13) oC13 (fun _ => rfl) ?_
  refine g_go1 (Nat.le_of_ble_eq_true rfl) (Tn_w (TX13_useOf hl1 hs0 i18 i21 i24 h) fun _ G25 ⟨r26, e, i27, h⟩ => ?_)
  subst e
  refine ⟨n7_I _, ?_⟩
  replace h := h i27
  exact g_ret1 (is_I _) ⟨_, rfl, i27, h⟩
def PX13_callUse_70 (l1 : Int) (l2 : Int) (l3 : Int) (s0 : Int) (s1 : Int) (G : gS) (Q : Int → gS → Prop) : Prop :=
  (inI (s0 + s1) ∧ PX13_callUse_71 l1 l2 l3 (s0 + s1) G Q)
set_option maxRecDepth 20000 in
theorem TX13_callUse_70 {l1 : Int} {l2 : Int} {l3 : Int} {l4 : Nat} {s0 : Int} {s1 : Int} {G : gS} {Q : Int → gS → Prop} (hl1 : inI l1) (hl2 : inI l2) (hl3 : inI l3) (hl4 : l4 % 8 ≠ 1) (hs0 : inI s0) (hs1 : inI s1) (h : PX13_callUse_70 l1 l2 l3 s0 s1 G Q) : Tg W0 vX13_callUse_70 [rf (16081), cI (l1), cI (l2), cI (l3), l4] [cI (s1), cI (s0)] G (fun r G => ∃ v, r = cI v ∧ inI v ∧ Q v G) := by
  unfold PX13_callUse_70 at h
  unfold vX13_callUse_70
  refine g_add ?_
  obtain ⟨q32, h⟩ := h
  exact TX13_callUse_71 hl1 hl2 hl3 hl4 q32 h
def PX13_callUse_55 (l1 : Int) (l2 : Int) (l3 : Int) (s0 : Int) (G : gS) (Q : Int → gS → Prop) : Prop :=
  ((0 : Int) ≤ l1 ∧ ((l1 : Int) < 30600 ∧ (inI (G 16156 l1) → ((G 16156 l1 = 1 → PX13_callUse_70 l1 l2 l3 s0 2 G Q) ∧ (¬ (G 16156 l1 = 1) → PX13_callUse_70 l1 l2 l3 s0 0 G Q)))))
set_option maxRecDepth 20000 in
theorem TX13_callUse_55 {l1 : Int} {l2 : Int} {l3 : Int} {l4 : Nat} {s0 : Int} {G : gS} {Q : Int → gS → Prop} (hl1 : inI l1) (hl2 : inI l2) (hl3 : inI l3) (hl4 : l4 % 8 ≠ 1) (hs0 : inI s0) (h : PX13_callUse_55 l1 l2 l3 s0 G Q) : Tg W0 vX13_callUse_55 [rf (16081), cI (l1), cI (l2), cI (l3), l4] [cI (s0)] G (fun r G => ∃ v, r = cI v ∧ inI v ∧ Q v G) := by
  unfold PX13_callUse_55 at h
  unfold vX13_callUse_55
  refine g_ld (v := rf _) rfl (is_R _) ?_
  refine g_getF (v := 16156) oC13 (hC13_82) rfl (Nat.le_of_ble_eq_true rfl) (Nat.le_of_ble_eq_true rfl) ?_
  refine g_ld (v := cI _) rfl (is_I _) ?_
  obtain ⟨q28, q29, h⟩ := h
  refine g_aldI aC16156 q28 q29 rfl fun i30 => ?_
  replace h := h i30
  refine g_const (v := cI (1)) rfl ?_
  refine g_eq2 i30 ⟨by omega, by omega⟩ (fun b31 => ?_) (fun b31 => ?_)
  · replace h := h.1 b31
    unfold vX13_callUse_65
    refine g_const (v := cI (2)) rfl ?_
    exact TX13_callUse_70 hl1 hl2 hl3 hl4 hs0 ⟨by omega, by omega⟩ h
  · replace h := h.2 b31
    unfold vX13_callUse_69
    refine g_const (v := cI (0)) rfl ?_
    exact TX13_callUse_70 hl1 hl2 hl3 hl4 hs0 ⟨by omega, by omega⟩ h
def PX13_callUse_0 (a1 : Int) (G : gS) (Q : Int → gS → Prop) : Prop :=
  ((0 : Int) ≤ a1 ∧ ((a1 : Int) < 30600 ∧ (inI (G 16144 a1) → ((0 : Int) ≤ a1 ∧ ((a1 : Int) < 30600 ∧ (inL (G 16157 a1) → PX13_find (G 16157 a1) G (fun r8 G7 => inI r8 → PX13_isFace r8 G7 (fun r11 G10 => (0 ≤ r11 ∧ r11 ≤ 1) → ((G 16144 a1 = 8 → PX13_callUse_71 a1 (G 16144 a1) r11 11 G10 Q) ∧ (¬ (G 16144 a1 = 8) → ((G 16144 a1 = 7 → PX13_callUse_71 a1 (G 16144 a1) r11 12 G10 Q) ∧ (¬ (G 16144 a1 = 7) → ((r11 = 0 → PX13_callUse_55 a1 (G 16144 a1) r11 7 G10 Q) ∧ (¬ (r11 = 0) → PX13_callUse_55 a1 (G 16144 a1) r11 8 G10 Q))))))))))))))
set_option maxRecDepth 20000 in
theorem TX13_callUse_0 {a1 : Int} {G : gS} {Q : Int → gS → Prop} (ha1 : inI a1) (h : PX13_callUse_0 a1 G Q) : Tg W0 vX13_callUse_0 [rf (16081), cI (a1), 7, 7, 7] [] G (fun r G => ∃ v, r = cI v ∧ inI v ∧ Q v G) := by
  unfold PX13_callUse_0 at h
  unfold vX13_callUse_0
  refine g_ld (v := rf _) rfl (is_R _) ?_
  refine g_getF (v := 16144) oC13 (hC13_70) rfl (Nat.le_of_ble_eq_true rfl) (Nat.le_of_ble_eq_true rfl) ?_
  refine g_ld (v := cI _) rfl (is_I _) ?_
  obtain ⟨q1, q2, h⟩ := h
  refine g_aldI aC16144 q1 q2 rfl fun i3 => ?_
  replace h := h i3
  refine g_st (lv' := [_, _, _, _, _]) (is_I _) (Nat.le_of_ble_eq_true rfl) (Or.inr (n1_I _)) rfl ?_
  refine g_ld (v := rf _) rfl (is_R _) ?_
  refine g_ld (v := rf _) rfl (is_R _) ?_
  refine g_ld (v := rf _) rfl (is_R _) ?_
  refine g_getF (v := 16157) oC13 (hC13_83) rfl (Nat.le_of_ble_eq_true rfl) (Nat.le_of_ble_eq_true rfl) ?_
  refine g_ld (v := cI _) rfl (is_I _) ?_
  obtain ⟨q4, q5, h⟩ := h
  refine g_aldL aC16157 q4 q5 rfl fun i6 => ?_
  replace h := h i6
  refine g_callV (As := [_]) (ci := 13) oC13 (fun _ => rfl) ?_
  refine g_go1 (by simp only [cs_c, cs_0, ct_I, ct_L, ct_R]; exact Nat.le_of_ble_eq_true rfl) (Tn_w (TX13_find i6 h) fun _ G7 ⟨r8, e, i9, h⟩ => ?_)
  subst e
  refine ⟨n7_I _, ?_⟩
  replace h := h i9
  refine g_callV (As := [_]) (ci := 13) oC13 (fun _ => rfl) ?_
  refine g_go1 (Nat.le_of_ble_eq_true rfl) (Tn_w (TX13_isFace i9 h) fun _ G10 ⟨r11, e, i12, h⟩ => ?_)
  subst e
  refine ⟨n7_I _, ?_⟩
  replace h := h i12
  refine g_st (lv' := [_, _, _, _, _]) (is_I _) (Nat.le_of_ble_eq_true rfl) (Or.inr (n1_I _)) rfl ?_
  refine g_ld (v := cI _) rfl (is_I _) ?_
  refine g_const (v := cI (8)) rfl ?_
  refine g_eq2 i3 ⟨by omega, by omega⟩ (fun b13 => ?_) (fun b13 => ?_)
  · replace h := h.1 b13
    unfold vX13_callUse_28
    refine g_const (v := cI (11)) rfl ?_
    exact TX13_callUse_71 ha1 i3 ⟨by omega, by omega⟩ (show 7 % 8 ≠ 1 by decide) ⟨by omega, by omega⟩ h
  · replace h := h.2 b13
    unfold vX13_callUse_33
    refine g_ld (v := cI _) rfl (is_I _) ?_
    refine g_const (v := cI (7)) rfl ?_
    refine g_eq2 i3 ⟨by omega, by omega⟩ (fun b14 => ?_) (fun b14 => ?_)
    · replace h := h.1 b14
      unfold vX13_callUse_39
      refine g_const (v := cI (12)) rfl ?_
      exact TX13_callUse_71 ha1 i3 ⟨by omega, by omega⟩ (show 7 % 8 ≠ 1 by decide) ⟨by omega, by omega⟩ h
    · replace h := h.2 b14
      unfold vX13_callUse_44
      refine g_ld (v := cI _) rfl (is_I _) ?_
      refine g_eq1 ⟨by omega, by omega⟩ (fun b15 => ?_) (fun b15 => ?_)
      · replace h := h.1 b15
        unfold vX13_callUse_53
        refine g_const (v := cI (7)) rfl ?_
        exact TX13_callUse_55 ha1 i3 ⟨by omega, by omega⟩ (show 7 % 8 ≠ 1 by decide) ⟨by omega, by omega⟩ h
      · replace h := h.2 b15
        unfold vX13_callUse_48
        refine g_const (v := cI (8)) rfl ?_
        exact TX13_callUse_55 ha1 i3 ⟨by omega, by omega⟩ (show 7 % 8 ≠ 1 by decide) ⟨by omega, by omega⟩ h
abbrev PX13_callUse (a1 : Int) (G : gS) (Q : Int → gS → Prop) : Prop := PX13_callUse_0 a1 G Q
theorem TX13_callUse {a1 : Int} {G : gS} {Q : Int → gS → Prop} (ha1 : inI a1) (h : PX13_callUse a1 G Q) : Tn W0 FX13_callUse [rf (16081), cI (a1)] G (fun r G => ∃ v, r = cI v ∧ inI v ∧ Q v G) := by
  unfold FX13_callUse
  refine g_ent (lv' := [rf (16081), cI (a1), 7, 7, 7]) (flR (flI fl0)) (Nat.le_of_ble_eq_true rfl) rfl ?_
  exact TX13_callUse_0 ha1 h
def PX13_fieldUse_41 (l1 : Int) (l2 : Int) (s0 : Int) (s1 : Int) (G : gS) (Q : Int → gS → Prop) : Prop :=
  ((0 : Int) ≤ l1 ∧ ((l1 : Int) < 30600 ∧ (inL (G 16157 l1) → ((0 : Int) ≤ l1 ∧ ((l1 : Int) < 30600 ∧ (inL (G 16148 l1) → ((0 : Int) ≤ l1 ∧ ((l1 : Int) < 30600 ∧ (inL (G 16158 l1) → (isO W0 13 (s0) ∧ PX13_useFor s1 (G 16157 l1) (G 16148 l1) (G 16158 l1) G (fun r25 G24 => inI r25 → Q (r25) G24)))))))))))
set_option maxRecDepth 20000 in
theorem TX13_fieldUse_41 {l1 : Int} {l2 : Int} {s0 : Int} {s1 : Int} {G : gS} {Q : Int → gS → Prop} (hl1 : inI l1) (hl2 : inI l2) (hs1 : inI s1) (h : PX13_fieldUse_41 l1 l2 s0 s1 G Q) : Tg W0 vX13_fieldUse_41 [rf (16081), cI (l1), cI (l2)] [cI (s1), rf (s0)] G (fun r G => ∃ v, r = cI v ∧ inI v ∧ Q v G) := by
  unfold PX13_fieldUse_41 at h
  unfold vX13_fieldUse_41
  refine g_ld (v := rf _) rfl (is_R _) ?_
  refine g_getF (v := 16157) oC13 (hC13_83) rfl (Nat.le_of_ble_eq_true rfl) (Nat.le_of_ble_eq_true rfl) ?_
  refine g_ld (v := cI _) rfl (is_I _) ?_
  obtain ⟨q14, q15, h⟩ := h
  refine g_aldL aC16157 q14 q15 rfl fun i16 => ?_
  replace h := h i16
  refine g_ld (v := rf _) rfl (is_R _) ?_
  refine g_getF (v := 16148) oC13 (hC13_74) rfl (Nat.le_of_ble_eq_true rfl) (Nat.le_of_ble_eq_true rfl) ?_
  refine g_ld (v := cI _) rfl (is_I _) ?_
  obtain ⟨q17, q18, h⟩ := h
  refine g_aldL aC16148 q17 q18 rfl fun i19 => ?_
  replace h := h i19
  refine g_ld (v := rf _) rfl (is_R _) ?_
  refine g_getF (v := 16158) oC13 (hC13_84) rfl (Nat.le_of_ble_eq_true rfl) (Nat.le_of_ble_eq_true rfl) ?_
  refine g_ld (v := cI _) rfl (is_I _) ?_
  obtain ⟨q20, q21, h⟩ := h
  refine g_aldL aC16158 q20 q21 rfl fun i22 => ?_
  replace h := h i22
  obtain ⟨q23, h⟩ := h
  refine g_callV (As := [_, _, _, _]) (ci := 13) q23 (fun _ => rfl) ?_
  refine g_go1 (Nat.le_of_ble_eq_true rfl) (Tn_w (Tn_eq (one13 q23) (TX13_useFor hs1 i16 i19 i22 h)) fun _ G24 ⟨r25, e, i26, h⟩ => ?_)
  subst e
  refine ⟨n7_I _, ?_⟩
  replace h := h i26
  exact g_ret1 (is_I _) ⟨_, rfl, i26, h⟩
def PX13_fieldUse_22 (l1 : Int) (l2 : Int) (G : gS) (Q : Int → gS → Prop) : Prop :=
  ((0 : Int) ≤ l1 ∧ ((l1 : Int) < 30600 ∧ (inI (G 16156 l1) → ((G 16156 l1 = -12 → PX13_fieldUse_41 l1 l2 16081 l2 G Q) ∧ (¬ (G 16156 l1 = -12) → (inI (l2 + 2) ∧ PX13_fieldUse_41 l1 l2 16081 (l2 + 2) G Q))))))
set_option maxRecDepth 20000 in
theorem TX13_fieldUse_22 {l1 : Int} {l2 : Int} {G : gS} {Q : Int → gS → Prop} (hl1 : inI l1) (hl2 : inI l2) (h : PX13_fieldUse_22 l1 l2 G Q) : Tg W0 vX13_fieldUse_22 [rf (16081), cI (l1), cI (l2)] [] G (fun r G => ∃ v, r = cI v ∧ inI v ∧ Q v G) := by
  unfold PX13_fieldUse_22 at h
  unfold vX13_fieldUse_22
  refine g_ld (v := rf _) rfl (is_R _) ?_
  refine g_ld (v := rf _) rfl (is_R _) ?_
  refine g_getF (v := 16156) oC13 (hC13_82) rfl (Nat.le_of_ble_eq_true rfl) (Nat.le_of_ble_eq_true rfl) ?_
  refine g_ld (v := cI _) rfl (is_I _) ?_
  obtain ⟨q9, q10, h⟩ := h
  refine g_aldI aC16156 q9 q10 rfl fun i11 => ?_
  replace h := h i11
  refine g_const (v := cI (-12)) rfl ?_
  refine g_eq2 i11 ⟨by omega, by omega⟩ (fun b12 => ?_) (fun b12 => ?_)
  · replace h := h.1 b12
    unfold vX13_fieldUse_34
    refine g_ld (v := cI _) rfl (is_I _) ?_
    exact TX13_fieldUse_41 hl1 hl2 hl2 h
  · replace h := h.2 b12
    unfold vX13_fieldUse_38
    refine g_ld (v := cI _) rfl (is_I _) ?_
    refine g_const (v := cI (2)) rfl ?_
    refine g_add ?_
    obtain ⟨q13, h⟩ := h
    exact TX13_fieldUse_41 hl1 hl2 q13 h
def PX13_fieldUse_0 (a1 : Int) (a2 : Int) (G : gS) (Q : Int → gS → Prop) : Prop :=
  ((0 : Int) ≤ a1 ∧ ((a1 : Int) < 30600 ∧ (inI (G 16156 a1) → ((G 16156 a1 = -10 → ((a2 = 3 → PX13_copyOf a1 G (fun r7 G6 => inI r7 → Q (r7) G6)) ∧ (¬ (a2 = 3) → PX13_fieldUse_22 a1 a2 G Q))) ∧ (¬ (G 16156 a1 = -10) → PX13_fieldUse_22 a1 a2 G Q)))))
set_option maxRecDepth 20000 in
theorem TX13_fieldUse_0 {a1 : Int} {a2 : Int} {G : gS} {Q : Int → gS → Prop} (ha1 : inI a1) (ha2 : inI a2) (h : PX13_fieldUse_0 a1 a2 G Q) : Tg W0 vX13_fieldUse_0 [rf (16081), cI (a1), cI (a2)] [] G (fun r G => ∃ v, r = cI v ∧ inI v ∧ Q v G) := by
  unfold PX13_fieldUse_0 at h
  unfold vX13_fieldUse_0
  refine g_ld (v := rf _) rfl (is_R _) ?_
  refine g_getF (v := 16156) oC13 (hC13_82) rfl (Nat.le_of_ble_eq_true rfl) (Nat.le_of_ble_eq_true rfl) ?_
  refine g_ld (v := cI _) rfl (is_I _) ?_
  obtain ⟨q1, q2, h⟩ := h
  refine g_aldI aC16156 q1 q2 rfl fun i3 => ?_
  replace h := h i3
  refine g_const (v := cI (-10)) rfl ?_
  refine g_eq2 i3 ⟨by omega, by omega⟩ (fun b4 => ?_) (fun b4 => ?_)
  · replace h := h.1 b4
    unfold vX13_fieldUse_11
    refine g_ld (v := cI _) rfl (is_I _) ?_
    refine g_const (v := cI (3)) rfl ?_
    refine g_eq2 ha2 ⟨by omega, by omega⟩ (fun b5 => ?_) (fun b5 => ?_)
    · replace h := h.1 b5
      unfold vX13_fieldUse_16
      refine g_ld (v := rf _) rfl (is_R _) ?_
      refine g_ld (v := cI _) rfl (is_I _) ?_
      refine g_callV (As := [_]) (ci := 13) oC13 (fun _ => rfl) ?_
      refine g_go1 (Nat.le_of_ble_eq_true rfl) (Tn_w (TX13_copyOf ha1 h) fun _ G6 ⟨r7, e, i8, h⟩ => ?_)
      subst e
      refine ⟨n7_I _, ?_⟩
      replace h := h i8
      exact g_ret1 (is_I _) ⟨_, rfl, i8, h⟩
    · replace h := h.2 b5
      exact TX13_fieldUse_22 ha1 ha2 h
  · replace h := h.2 b4
    exact TX13_fieldUse_22 ha1 ha2 h
abbrev PX13_fieldUse (a1 : Int) (a2 : Int) (G : gS) (Q : Int → gS → Prop) : Prop := PX13_fieldUse_0 a1 a2 G Q
theorem TX13_fieldUse {a1 : Int} {a2 : Int} {G : gS} {Q : Int → gS → Prop} (ha1 : inI a1) (ha2 : inI a2) (h : PX13_fieldUse a1 a2 G Q) : Tn W0 FX13_fieldUse [rf (16081), cI (a1), cI (a2)] G (fun r G => ∃ v, r = cI v ∧ inI v ∧ Q v G) := by
  unfold FX13_fieldUse
  refine g_ent (lv' := [rf (16081), cI (a1), cI (a2)]) (flR (flI (flI fl0))) (Nat.le_of_ble_eq_true rfl) rfl ?_
  exact TX13_fieldUse_0 ha1 ha2 h
def PX13_isLib_14 (l1 : Int) (s0 : Int) (G : gS) (Q : Int → gS → Prop) : Prop :=
  ((0 ≤ s0 ∧ s0 ≤ 1) ∧ Q (s0) G)
set_option maxRecDepth 20000 in
theorem TX13_isLib_14 {l1 : Int} {s0 : Int} {G : gS} {Q : Int → gS → Prop} (hl1 : inI l1) (hs0 : inI s0) (h : PX13_isLib_14 l1 s0 G Q) : Tg W0 vX13_isLib_14 [rf (16081), cI (l1)] [cI (s0)] G (fun r G => ∃ v, r = cI v ∧ (0 ≤ v ∧ v ≤ 1) ∧ Q v G) := by
  unfold PX13_isLib_14 at h
  unfold vX13_isLib_14
  obtain ⟨q3, h⟩ := h
  exact g_ret1 (is_Z q3) ⟨_, rfl, q3, h⟩
def PX13_isLib_13 (l1 : Int) (G : gS) (Q : Int → gS → Prop) : Prop :=
  PX13_isLib_14 l1 0 G Q
set_option maxRecDepth 20000 in
theorem TX13_isLib_13 {l1 : Int} {G : gS} {Q : Int → gS → Prop} (hl1 : inI l1) (h : PX13_isLib_13 l1 G Q) : Tg W0 vX13_isLib_13 [rf (16081), cI (l1)] [] G (fun r G => ∃ v, r = cI v ∧ (0 ≤ v ∧ v ≤ 1) ∧ Q v G) := by
  unfold PX13_isLib_13 at h
  unfold vX13_isLib_13
  refine g_const (v := cI (0)) rfl ?_
  exact TX13_isLib_14 hl1 ⟨by omega, by omega⟩ h
def PX13_isLib_0 (a1 : Int) (G : gS) (Q : Int → gS → Prop) : Prop :=
  ((a1 < 0 → PX13_isLib_13 a1 G Q) ∧ (¬ (a1 < 0) → ((a1 < 5 → PX13_isLib_14 a1 1 G Q) ∧ (¬ (a1 < 5) → PX13_isLib_13 a1 G Q))))
set_option maxRecDepth 20000 in
theorem TX13_isLib_0 {a1 : Int} {G : gS} {Q : Int → gS → Prop} (ha1 : inI a1) (h : PX13_isLib_0 a1 G Q) : Tg W0 vX13_isLib_0 [rf (16081), cI (a1)] [] G (fun r G => ∃ v, r = cI v ∧ (0 ≤ v ∧ v ≤ 1) ∧ Q v G) := by
  unfold PX13_isLib_0 at h
  unfold vX13_isLib_0
  refine g_ld (v := cI _) rfl (is_I _) ?_
  refine g_lt1 ha1 (fun b1 => ?_) (fun b1 => ?_)
  · replace h := h.1 b1
    exact TX13_isLib_13 ha1 h
  · replace h := h.2 b1
    unfold vX13_isLib_4
    refine g_ld (v := cI _) rfl (is_I _) ?_
    refine g_const (v := cI (5)) rfl ?_
    refine g_lt2 ha1 ⟨by omega, by omega⟩ (fun b2 => ?_) (fun b2 => ?_)
    · replace h := h.1 b2
      unfold vX13_isLib_9
      refine g_const (v := cI (1)) rfl ?_
      exact TX13_isLib_14 ha1 ⟨by omega, by omega⟩ h
    · replace h := h.2 b2
      exact TX13_isLib_13 ha1 h
abbrev PX13_isLib (a1 : Int) (G : gS) (Q : Int → gS → Prop) : Prop := PX13_isLib_0 a1 G Q
theorem TX13_isLib {a1 : Int} {G : gS} {Q : Int → gS → Prop} (ha1 : inI a1) (h : PX13_isLib a1 G Q) : Tn W0 FX13_isLib [rf (16081), cI (a1)] G (fun r G => ∃ v, r = cI v ∧ (0 ≤ v ∧ v ≤ 1) ∧ Q v G) := by
  unfold FX13_isLib
  refine g_ent (lv' := [rf (16081), cI (a1)]) (flR (flI fl0)) (Nat.le_of_ble_eq_true rfl) rfl ?_
  exact TX13_isLib_0 ha1 h
def PX13_slotAt_38 (l1 : Int) (l2 : Int) (s0 : Int) (G : gS) (Q : Int → gS → Prop) : Prop :=
  Q (s0) G
set_option maxRecDepth 20000 in
theorem TX13_slotAt_38 {l1 : Int} {l2 : Int} {s0 : Int} {G : gS} {Q : Int → gS → Prop} (hl1 : inI l1) (hl2 : inI l2) (hs0 : inI s0) (h : PX13_slotAt_38 l1 l2 s0 G Q) : Tg W0 vX13_slotAt_38 [rf (16081), cI (l1), cI (l2)] [cI (s0)] G (fun r G => ∃ v, r = cI v ∧ inI v ∧ Q v G) := by
  unfold PX13_slotAt_38 at h
  unfold vX13_slotAt_38
  exact g_ret1 (is_I _) ⟨_, rfl, hs0, h⟩
def PX13_slotAt_36 (l1 : Int) (l2 : Int) (G : gS) (Q : Int → gS → Prop) : Prop :=
  PX13_slotAt_38 l1 l2 (-2) G Q
set_option maxRecDepth 20000 in
theorem TX13_slotAt_36 {l1 : Int} {l2 : Int} {G : gS} {Q : Int → gS → Prop} (hl1 : inI l1) (hl2 : inI l2) (h : PX13_slotAt_36 l1 l2 G Q) : Tg W0 vX13_slotAt_36 [rf (16081), cI (l1), cI (l2)] [] G (fun r G => ∃ v, r = cI v ∧ inI v ∧ Q v G) := by
  unfold PX13_slotAt_36 at h
  unfold vX13_slotAt_36
  refine g_const (v := cI (-2)) rfl ?_
  exact TX13_slotAt_38 hl1 hl2 ⟨by omega, by omega⟩ h
def PX13_slotAt_0 (a1 : Int) (a2 : Int) (G : gS) (Q : Int → gS → Prop) : Prop :=
  PX13_isLib a1 G (fun r2 G1 => (0 ≤ r2 ∧ r2 ≤ 1) → ((r2 = 0 → PX13_slotAt_36 a1 a2 G1 Q) ∧ (¬ (r2 = 0) → ((a2 < 0 → PX13_slotAt_36 a1 a2 G1 Q) ∧ (¬ (a2 < 0) → ((0 : Int) ≤ a1 ∧ ((a1 : Int) < 5 ∧ (inI (G1 16089 a1) → ((a2 < G1 16089 a1 → ((0 : Int) ≤ (8 * a1) + a2 ∧ (((8 * a1) + a2 : Int) < 40 ∧ (inI (G1 16088 ((8 * a1) + a2)) → PX13_slotAt_38 a1 a2 (G1 16088 ((8 * a1) + a2)) G1 Q)))) ∧ (¬ (a2 < G1 16089 a1) → PX13_slotAt_36 a1 a2 G1 Q))))))))))
set_option maxRecDepth 20000 in
theorem TX13_slotAt_0 {a1 : Int} {a2 : Int} {G : gS} {Q : Int → gS → Prop} (ha1 : inI a1) (ha2 : inI a2) (h : PX13_slotAt_0 a1 a2 G Q) : Tg W0 vX13_slotAt_0 [rf (16081), cI (a1), cI (a2)] [] G (fun r G => ∃ v, r = cI v ∧ inI v ∧ Q v G) := by
  unfold PX13_slotAt_0 at h
  unfold vX13_slotAt_0
  refine g_ld (v := rf _) rfl (is_R _) ?_
  refine g_ld (v := cI _) rfl (is_I _) ?_
  refine g_callV (As := [_]) (ci := 13) oC13 (fun _ => rfl) ?_
  refine g_go1 (Nat.le_of_ble_eq_true rfl) (Tn_w (TX13_isLib ha1 h) fun _ G1 ⟨r2, e, i3, h⟩ => ?_)
  subst e
  refine ⟨n7_I _, ?_⟩
  replace h := h i3
  refine g_eq1 ⟨by omega, by omega⟩ (fun b4 => ?_) (fun b4 => ?_)
  · replace h := h.1 b4
    exact TX13_slotAt_36 ha1 ha2 h
  · replace h := h.2 b4
    unfold vX13_slotAt_8
    refine g_ld (v := cI _) rfl (is_I _) ?_
    refine g_lt1 ha2 (fun b5 => ?_) (fun b5 => ?_)
    · replace h := h.1 b5
      exact TX13_slotAt_36 ha1 ha2 h
    · replace h := h.2 b5
      unfold vX13_slotAt_12
      refine g_ld (v := cI _) rfl (is_I _) ?_
      refine g_ld (v := rf _) rfl (is_R _) ?_
      refine g_getF (v := 16089) oC13 (hC13_9) rfl (Nat.le_of_ble_eq_true rfl) (Nat.le_of_ble_eq_true rfl) ?_
      refine g_ld (v := cI _) rfl (is_I _) ?_
      obtain ⟨q6, q7, h⟩ := h
      refine g_aldI aC16089 q6 q7 rfl fun i8 => ?_
      replace h := h i8
      refine g_lt2 ha2 i8 (fun b9 => ?_) (fun b9 => ?_)
      · replace h := h.1 b9
        unfold vX13_slotAt_22
        refine g_ld (v := rf _) rfl (is_R _) ?_
        refine g_getF (v := 16088) oC13 (hC13_8) rfl (Nat.le_of_ble_eq_true rfl) (Nat.le_of_ble_eq_true rfl) ?_
        refine g_const (v := cI (8)) rfl ?_
        refine g_ld (v := cI _) rfl (is_I _) ?_
        refine g_mul ?_
        refine g_ld (v := cI _) rfl (is_I _) ?_
        refine g_add ?_
        obtain ⟨q10, q11, h⟩ := h
        refine g_aldI aC16088 q10 q11 rfl fun i12 => ?_
        replace h := h i12
        exact TX13_slotAt_38 ha1 ha2 i12 h
      · replace h := h.2 b9
        exact TX13_slotAt_36 ha1 ha2 h
abbrev PX13_slotAt (a1 : Int) (a2 : Int) (G : gS) (Q : Int → gS → Prop) : Prop := PX13_slotAt_0 a1 a2 G Q
theorem TX13_slotAt {a1 : Int} {a2 : Int} {G : gS} {Q : Int → gS → Prop} (ha1 : inI a1) (ha2 : inI a2) (h : PX13_slotAt a1 a2 G Q) : Tn W0 FX13_slotAt [rf (16081), cI (a1), cI (a2)] G (fun r G => ∃ v, r = cI v ∧ inI v ∧ Q v G) := by
  unfold FX13_slotAt
  refine g_ent (lv' := [rf (16081), cI (a1), cI (a2)]) (flR (flI (flI fl0))) (Nat.le_of_ble_eq_true rfl) rfl ?_
  exact TX13_slotAt_0 ha1 ha2 h
def PX13_place_0  (G : gS) (Q : Int → gS → Prop) : Prop :=
  (inI (G 16081 128) → Q (G 16081 128) G)
set_option maxRecDepth 20000 in
theorem TX13_place_0  {G : gS} {Q : Int → gS → Prop}  (h : PX13_place_0  G Q) : Tg W0 vX13_place_0 [rf (16081)] [] G (fun r G => ∃ v, r = cI v ∧ inI v ∧ Q v G) := by
  unfold PX13_place_0 at h
  unfold vX13_place_0
  refine g_ld (v := rf _) rfl (is_R _) ?_
  refine g_getI (kz := 128) oC13 rfl (Nat.le_of_ble_eq_true rfl) rfl fun i1 => ?_
  replace h := h i1
  exact g_ret1 (is_I _) ⟨_, rfl, i1, h⟩
abbrev PX13_place  (G : gS) (Q : Int → gS → Prop) : Prop := PX13_place_0  G Q
theorem TX13_place  {G : gS} {Q : Int → gS → Prop}  (h : PX13_place  G Q) : Tn W0 FX13_place [rf (16081)] G (fun r G => ∃ v, r = cI v ∧ inI v ∧ Q v G) := by
  unfold FX13_place
  refine g_ent (lv' := [rf (16081)]) (flR fl0) (Nat.le_of_ble_eq_true rfl) rfl ?_
  exact TX13_place_0  h
def PX13_builds_18 (l1 : Int) (s0 : Int) (G : gS) (Q : Int → gS → Prop) : Prop :=
  Q (s0) G
set_option maxRecDepth 20000 in
theorem TX13_builds_18 {l1 : Int} {s0 : Int} {G : gS} {Q : Int → gS → Prop} (hl1 : inI l1) (hs0 : inI s0) (h : PX13_builds_18 l1 s0 G Q) : Tg W0 vX13_builds_18 [rf (16081), cI (l1)] [cI (s0)] G (fun r G => ∃ v, r = cI v ∧ inI v ∧ Q v G) := by
  unfold PX13_builds_18 at h
  unfold vX13_builds_18
  exact g_ret1 (is_I _) ⟨_, rfl, hs0, h⟩
def PX13_builds_0 (a1 : Int) (G : gS) (Q : Int → gS → Prop) : Prop :=
  PX13_isLib a1 G (fun r2 G1 => (0 ≤ r2 ∧ r2 ≤ 1) → ((r2 = 0 → PX13_builds_18 a1 (-1) G1 Q) ∧ (¬ (r2 = 0) → ((0 : Int) ≤ a1 ∧ ((a1 : Int) < 5 ∧ (inI (G1 16089 a1) → PX13_builds_18 a1 (G1 16089 a1) G1 Q))))))
set_option maxRecDepth 20000 in
theorem TX13_builds_0 {a1 : Int} {G : gS} {Q : Int → gS → Prop} (ha1 : inI a1) (h : PX13_builds_0 a1 G Q) : Tg W0 vX13_builds_0 [rf (16081), cI (a1)] [] G (fun r G => ∃ v, r = cI v ∧ inI v ∧ Q v G) := by
  unfold PX13_builds_0 at h
  unfold vX13_builds_0
  refine g_ld (v := rf _) rfl (is_R _) ?_
  refine g_ld (v := cI _) rfl (is_I _) ?_
  refine g_callV (As := [_]) (ci := 13) oC13 (fun _ => rfl) ?_
  refine g_go1 (Nat.le_of_ble_eq_true rfl) (Tn_w (TX13_isLib ha1 h) fun _ G1 ⟨r2, e, i3, h⟩ => ?_)
  subst e
  refine ⟨n7_I _, ?_⟩
  replace h := h i3
  refine g_eq1 ⟨by omega, by omega⟩ (fun b4 => ?_) (fun b4 => ?_)
  · replace h := h.1 b4
    unfold vX13_builds_17
    refine g_const (v := cI (-1)) rfl ?_
    exact TX13_builds_18 ha1 ⟨by omega, by omega⟩ h
  · replace h := h.2 b4
    unfold vX13_builds_8
    refine g_ld (v := rf _) rfl (is_R _) ?_
    refine g_getF (v := 16089) oC13 (hC13_9) rfl (Nat.le_of_ble_eq_true rfl) (Nat.le_of_ble_eq_true rfl) ?_
    refine g_ld (v := cI _) rfl (is_I _) ?_
    obtain ⟨q5, q6, h⟩ := h
    refine g_aldI aC16089 q5 q6 rfl fun i7 => ?_
    replace h := h i7
    exact TX13_builds_18 ha1 i7 h
abbrev PX13_builds (a1 : Int) (G : gS) (Q : Int → gS → Prop) : Prop := PX13_builds_0 a1 G Q
theorem TX13_builds {a1 : Int} {G : gS} {Q : Int → gS → Prop} (ha1 : inI a1) (h : PX13_builds a1 G Q) : Tn W0 FX13_builds [rf (16081), cI (a1)] G (fun r G => ∃ v, r = cI v ∧ inI v ∧ Q v G) := by
  unfold FX13_builds
  refine g_ent (lv' := [rf (16081), cI (a1)]) (flR (flI fl0)) (Nat.le_of_ble_eq_true rfl) rfl ?_
  exact TX13_builds_0 ha1 h
def PX13_text_28 (J : Nat → List Int → gS → (Int → gS → Prop) → Prop) (l1 : Int) (l2 : Int) (l3 : Int) (l4 : Int) (G : gS) (Q : Int → gS → Prop) : Prop :=
  (inI (G 16081 1) → ((l4 < G 16081 1 → ((0 : Int) ≤ (l3 * 4000) + l4 ∧ (((l3 * 4000) + l4 : Int) < 64000 ∧ ((-128 ≤ G 16085 ((l3 * 4000) + l4) ∧ G 16085 ((l3 * 4000) + l4) < 128) → (inI (iand (G 16085 ((l3 * 4000) + l4)) 255) → ((0 : Int) ≤ l4 ∧ ((l4 : Int) < 4000 ∧ (∀ G17 : gS, G17 = uG G 16082 l4 (iand (G 16085 ((l3 * 4000) + l4)) 255) → (inI (l4 + 1) ∧ J 0 [l1, l2, l3, l4 + 1] G17 Q))))))))) ∧ (¬ (l4 < G 16081 1) → (inI (G 16081 1) → Q (G 16081 1) G))))
set_option maxRecDepth 20000 in
theorem TX13_text_28 {j : Nat → rx_K} {J : Nat → List Int → gS → (Int → gS → Prop) → Prop} {l1 : Int} {l2 : Int} {l3 : Int} {l4 : Int} {G : gS} {Q : Int → gS → Prop} (hl1 : inI l1) (hl2 : inI l2) (hl3 : inI l3) (hl4 : inI l4) (hj0 : ∀ (l1 : Int) (l2 : Int) (l3 : Int) (l4 : Int) (G : gS), (inI l1) → (inI l2) → (inI l3) → (inI l4) → J 0 [l1, l2, l3, l4] G Q → Tg W0 (j 0) [rf (16081), cI (l1), cI (l2), cI (l3), cI (l4)] [] G (fun r G => ∃ v, r = cI v ∧ inI v ∧ Q v G)) (h : PX13_text_28 J l1 l2 l3 l4 G Q) : Tg W0 (vX13_text_28 j) [rf (16081), cI (l1), cI (l2), cI (l3), cI (l4)] [] G (fun r G => ∃ v, r = cI v ∧ inI v ∧ Q v G) := by
  unfold PX13_text_28 at h
  unfold vX13_text_28
  refine g_ld (v := cI _) rfl (is_I _) ?_
  refine g_ld (v := rf _) rfl (is_R _) ?_
  refine g_getI (kz := 1) oC13 rfl (Nat.le_of_ble_eq_true rfl) rfl fun i9 => ?_
  replace h := h i9
  refine g_lt2 hl4 i9 (fun b10 => ?_) (fun b10 => ?_)
  · replace h := h.1 b10
    unfold vX13_text_37
    refine g_ld (v := rf _) rfl (is_R _) ?_
    refine g_getF (v := 16082) oC13 (hC13_0) rfl (Nat.le_of_ble_eq_true rfl) (Nat.le_of_ble_eq_true rfl) ?_
    refine g_ld (v := cI _) rfl (is_I _) ?_
    refine g_ld (v := rf _) rfl (is_R _) ?_
    refine g_getF (v := 16085) oC13 (hC13_5) rfl (Nat.le_of_ble_eq_true rfl) (Nat.le_of_ble_eq_true rfl) ?_
    refine g_ld (v := cI _) rfl (is_I _) ?_
    refine g_const (v := cI (4000)) rfl ?_
    refine g_mul ?_
    refine g_ld (v := cI _) rfl (is_I _) ?_
    refine g_add ?_
    obtain ⟨q11, q12, h⟩ := h
    refine g_aldB aC16085 q11 q12 rfl fun i13 => ?_
    replace h := h i13
    refine g_const (v := cI (255)) rfl ?_
    refine g_iand fun i14 => ?_
    replace h := h i14
    obtain ⟨q15, q16, h⟩ := h
    refine g_astI aC16082 q15 q16 i14 (nfI aC16082) ?_
    replace h := h _ rfl
    refine g_inc (lv' := [_, _, _, _, _]) rfl (Nat.le_of_ble_eq_true rfl) (Or.inr (n1_I _)) rfl ?_
    obtain ⟨q18, h⟩ := h
    exact hj0 _ _ _ _ _ hl1 hl2 hl3 q18 h
  · replace h := h.2 b10
    unfold vX13_text_67
    refine g_ld (v := rf _) rfl (is_R _) ?_
    refine g_getI (kz := 1) oC13 rfl (Nat.le_of_ble_eq_true rfl) rfl fun i19 => ?_
    replace h := h i19
    exact g_ret1 (is_I _) ⟨_, rfl, i19, h⟩
def PX13_text_0 (J : Nat → List Int → gS → (Int → gS → Prop) → Prop) (a1 : Int) (a2 : Int) (G : gS) (Q : Int → gS → Prop) : Prop :=
  PX13_slotAt a1 a2 G (fun r2 G1 => inI r2 → ((r2 = -2 → Q (-1) G1) ∧ (¬ (r2 = -2) → ((0 : Int) ≤ r2 ∧ ((r2 : Int) < 16 ∧ (inI (G1 16086 r2) → (∀ G8 : gS, G8 = uG G1 16081 1 (G1 16086 r2) → PX13_text_28 J a1 a2 r2 0 G8 Q)))))))
set_option maxRecDepth 20000 in
theorem TX13_text_0 {j : Nat → rx_K} {J : Nat → List Int → gS → (Int → gS → Prop) → Prop} {a1 : Int} {a2 : Int} {G : gS} {Q : Int → gS → Prop} (ha1 : inI a1) (ha2 : inI a2) (hj0 : ∀ (l1 : Int) (l2 : Int) (l3 : Int) (l4 : Int) (G : gS), (inI l1) → (inI l2) → (inI l3) → (inI l4) → J 0 [l1, l2, l3, l4] G Q → Tg W0 (j 0) [rf (16081), cI (l1), cI (l2), cI (l3), cI (l4)] [] G (fun r G => ∃ v, r = cI v ∧ inI v ∧ Q v G)) (h : PX13_text_0 J a1 a2 G Q) : Tg W0 (vX13_text_0 j) [rf (16081), cI (a1), cI (a2), 7, 7] [] G (fun r G => ∃ v, r = cI v ∧ inI v ∧ Q v G) := by
  unfold PX13_text_0 at h
  unfold vX13_text_0
  refine g_ld (v := rf _) rfl (is_R _) ?_
  refine g_ld (v := cI _) rfl (is_I _) ?_
  refine g_ld (v := cI _) rfl (is_I _) ?_
  refine g_callV (As := [_, _]) (ci := 13) oC13 (fun _ => rfl) ?_
  refine g_go1 (Nat.le_of_ble_eq_true rfl) (Tn_w (TX13_slotAt ha1 ha2 h) fun _ G1 ⟨r2, e, i3, h⟩ => ?_)
  subst e
  refine ⟨n7_I _, ?_⟩
  replace h := h i3
  refine g_st (lv' := [_, _, _, _, _]) (is_I _) (Nat.le_of_ble_eq_true rfl) (Or.inr (n1_I _)) rfl ?_
  refine g_ld (v := cI _) rfl (is_I _) ?_
  refine g_const (v := cI (-2)) rfl ?_
  refine g_eq2 i3 ⟨by omega, by omega⟩ (fun b4 => ?_) (fun b4 => ?_)
  · replace h := h.1 b4
    unfold vX13_text_13
    refine g_const (v := cI (-1)) rfl ?_
    exact g_ret1 (is_I _) ⟨_, rfl, ⟨by omega, by omega⟩, h⟩
  · replace h := h.2 b4
    unfold vX13_text_15
    refine g_ld (v := rf _) rfl (is_R _) ?_
    refine g_ld (v := rf _) rfl (is_R _) ?_
    refine g_getF (v := 16086) oC13 (hC13_6) rfl (Nat.le_of_ble_eq_true rfl) (Nat.le_of_ble_eq_true rfl) ?_
    refine g_ld (v := cI _) rfl (is_I _) ?_
    obtain ⟨q5, q6, h⟩ := h
    refine g_aldI aC16086 q5 q6 rfl fun i7 => ?_
    replace h := h i7
    refine g_putI (kz := 1) oC13 rfl (Nat.le_of_ble_eq_true rfl) rfl i7 (zfin_no (c := 16081) (j := 1) rfl) ?_
    replace h := h _ rfl
    refine g_const (v := cI (0)) rfl ?_
    refine g_st (lv' := [_, _, _, _, _]) (is_I _) (Nat.le_of_ble_eq_true rfl) (Or.inr (n1_I _)) rfl ?_
    exact TX13_text_28 ha1 ha2 i3 ⟨by omega, by omega⟩ hj0 h
def PX13_text_J : Nat → Nat → List Int → gS → (Int → gS → Prop) → Prop
  | 0, _, _, _, _ => False
  | f + 1, h, L, G, Q => match h, L with
    | 0, [l1, l2, l3, l4] => PX13_text_28 (PX13_text_J f) l1 l2 l3 l4 G Q
    | _, _ => False
theorem TX13_text_J {Q : Int → gS → Prop} : ∀ f N : Nat, f ≤ N → (∀ (l1 : Int) (l2 : Int) (l3 : Int) (l4 : Int) (G : gS), (inI l1) → (inI l2) → (inI l3) → (inI l4) → (PX13_text_J f) 0 [l1, l2, l3, l4] G Q → Tg W0 (rx_J vhX13_text N 0) [rf (16081), cI (l1), cI (l2), cI (l3), cI (l4)] [] G (fun r G => ∃ v, r = cI v ∧ inI v ∧ Q v G)) := by
  intro f
  induction f with
  | zero => exact fun N _ => fun _ _ _ _ _ _ _ _ _ h => h.elim
  | succ f ih =>
    intro N hN
    obtain ⟨M, rfl⟩ : ∃ M, N = M + 1 := ⟨N - 1, by omega⟩
    have ih := ih M (by omega)
    exact fun _ _ _ _ _ hl1 hl2 hl3 hl4 h => show Tg W0 (vX13_text_28 (rx_J vhX13_text M)) _ _ _ _ from TX13_text_28 hl1 hl2 hl3 hl4 ih h
def PX13_text (a1 : Int) (a2 : Int) (G : gS) (Q : Int → gS → Prop) : Prop := ∃ f : Nat, f ≤ 4000000000 ∧ PX13_text_0 (PX13_text_J f) a1 a2 G Q
theorem TX13_text {a1 : Int} {a2 : Int} {G : gS} {Q : Int → gS → Prop} (ha1 : inI a1) (ha2 : inI a2) (h : PX13_text a1 a2 G Q) : Tn W0 FX13_text [rf (16081), cI (a1), cI (a2)] G (fun r G => ∃ v, r = cI v ∧ inI v ∧ Q v G) := by
  obtain ⟨f, hf, h⟩ := h
  have hJ := TX13_text_J (Q := Q) f 4000000000 hf
  unfold FX13_text
  refine g_ent (lv' := [rf (16081), cI (a1), cI (a2), 7, 7]) (flR (flI (flI fl0))) (Nat.le_of_ble_eq_true rfl) rfl ?_
  exact TX13_text_0 ha1 ha2 hJ h
end DE

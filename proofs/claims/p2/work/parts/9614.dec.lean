section DE
def PX6_throwOne_120 (J : Nat → List Int → gS → (Int → gS → Prop) → Prop) (l1 : Int) (l2 : Int) (G : gS) (Q : Int → gS → Prop) : Prop :=
  (∀ G48 : gS, G48 = uG G 938 18 (l1) → Q 0 G48)
set_option maxRecDepth 20000 in
theorem TX6_throwOne_120 {j : Nat → rx_K} {J : Nat → List Int → gS → (Int → gS → Prop) → Prop} {l1 : Int} {l2 : Int} {l3 : Nat} {G : gS} {Q : Int → gS → Prop} (hl1 : inI l1) (hl2 : inI l2) (hl3 : l3 % 8 ≠ 1) (hj0 : ∀ (l1 : Int) (l2 : Int) (l3 : Nat) (G : gS), (inI l1) → (inI l2) → (l3 % 8 ≠ 1) → J 0 [l1, l2] G Q → Tg W0 (j 0) [rf (938), cI (l1), cI (l2), l3] [] G (fun r G => r = 7 ∧ Q 0 G)) (h : PX6_throwOne_120 J l1 l2 G Q) : Tg W0 (vX6_throwOne_120 j) [rf (938), cI (l1), cI (l2), l3] [] G (fun r G => r = 7 ∧ Q 0 G) := by
  unfold PX6_throwOne_120 at h
  unfold vX6_throwOne_120
  refine g_ld (v := rf _) rfl (is_R _) ?_
  refine g_ld (v := cI _) rfl (is_I _) ?_
  refine g_putI (kz := 18) oC6 rfl (Nat.le_of_ble_eq_true rfl) rfl hl1 (zfin_no (c := 938) (j := 18) rfl) ?_
  replace h := h _ rfl
  exact g_ret0 ⟨rfl, h⟩
def PX6_throwOne_13 (J : Nat → List Int → gS → (Int → gS → Prop) → Prop) (l1 : Int) (l2 : Int) (G : gS) (Q : Int → gS → Prop) : Prop :=
  ((24 < l2 → PX6_throwOne_120 J l1 l2 G Q) ∧ (¬ (24 < l2) → (inI (G 938 5) → ((0 < G 938 5 → (inI (G 938 5) → ((0 : Int) ≤ (G 938 5) - 1 ∧ (((G 938 5) - 1 : Int) < 25 ∧ (((G 953 ((G 938 5) - 1) = -1 ∨ ∃ n, isA W0 0 n (G 953 ((G 938 5) - 1))) ∧ ∀ v, W0.2 953 ((G 938 5) - 1) = some v → G 953 ((G 938 5) - 1) = v) → (inI (G 938 7) → (∃ n12, isA W0 0 n12 (G 953 ((G 938 5) - 1)) ∧ ((0 : Int) ≤ 3 ∧ ((3 : Int) < n12 ∧ (inI (G (G 953 ((G 938 5) - 1)) 3) → ((G (G 953 ((G 938 5) - 1)) 3 < G 938 7 → (inI (G 938 7) → (inI ((G 938 7) - 1) ∧ (∀ G20 : gS, G20 = uG G 938 7 ((G 938 7) - 1) → (inI (G20 938 7) → ((0 : Int) ≤ 2 * (G20 938 7) ∧ ((2 * (G20 938 7) : Int) < 1152 ∧ (inI (G20 979 (2 * (G20 938 7))) → (∃ n25, isA W0 0 n25 (G 953 ((G 938 5) - 1)) ∧ ((0 : Int) ≤ 1 ∧ ((1 : Int) < n25 ∧ (∀ G29 : gS, G29 = uG G20 (G 953 ((G 938 5) - 1)) 1 (G20 979 (2 * (G20 938 7))) → (inI (G29 938 7) → ((0 : Int) ≤ (2 * (G29 938 7)) + 1 ∧ (((2 * (G29 938 7)) + 1 : Int) < 1152 ∧ (inI (G29 979 ((2 * (G29 938 7)) + 1)) → (∀ G34 : gS, G34 = uG G29 938 3 (G29 979 ((2 * (G29 938 7)) + 1)) → PX6_push l1 G34 (fun _ G35 => Q 0 G35)))))))))))))))))) ∧ (¬ (G (G 953 ((G 938 5) - 1)) 3 < G 938 7) → (∃ n37, isA W0 0 n37 (G 953 ((G 938 5) - 1)) ∧ ((0 : Int) ≤ 4 ∧ ((4 : Int) < n37 ∧ (inI (G (G 953 ((G 938 5) - 1)) 4) → ((G (G 953 ((G 938 5) - 1)) 4 = 3 → PX6_fail 8 G (fun _ G43 => Q 0 G43)) ∧ (¬ (G (G 953 ((G 938 5) - 1)) 4 = 3) → PX6_close (G 953 ((G 938 5) - 1)) G (fun _ G45 => (inI (l2 + 1) ∧ J 0 [l1, l2 + 1] G45 Q)))))))))))))))))))) ∧ (¬ (0 < G 938 5) → PX6_throwOne_120 J l1 l2 G Q)))))
set_option maxRecDepth 20000 in
theorem TX6_throwOne_13 {j : Nat → rx_K} {J : Nat → List Int → gS → (Int → gS → Prop) → Prop} {l1 : Int} {l2 : Int} {l3 : Nat} {G : gS} {Q : Int → gS → Prop} (hl1 : inI l1) (hl2 : inI l2) (hl3 : l3 % 8 ≠ 1) (hj0 : ∀ (l1 : Int) (l2 : Int) (l3 : Nat) (G : gS), (inI l1) → (inI l2) → (l3 % 8 ≠ 1) → J 0 [l1, l2] G Q → Tg W0 (j 0) [rf (938), cI (l1), cI (l2), l3] [] G (fun r G => r = 7 ∧ Q 0 G)) (h : PX6_throwOne_13 J l1 l2 G Q) : Tg W0 (vX6_throwOne_13 j) [rf (938), cI (l1), cI (l2), l3] [] G (fun r G => r = 7 ∧ Q 0 G) := by
  unfold PX6_throwOne_13 at h
  unfold vX6_throwOne_13
  refine g_ld (v := cI _) rfl (is_I _) ?_
  refine g_const (v := cI (24)) rfl ?_
  refine g_gt2 hl2 ⟨by omega, by omega⟩ (fun b4 => ?_) (fun b4 => ?_)
  · replace h := h.1 b4
    exact TX6_throwOne_120 hl1 hl2 hl3 hj0 h
  · replace h := h.2 b4
    unfold vX6_throwOne_19
    refine g_ld (v := rf _) rfl (is_R _) ?_
    refine g_getI (kz := 5) oC6 rfl (Nat.le_of_ble_eq_true rfl) rfl fun i5 => ?_
    replace h := h i5
    refine g_gt1 i5 (fun b6 => ?_) (fun b6 => ?_)
    · replace h := h.1 b6
      unfold vX6_throwOne_26
      refine g_ld (v := rf _) rfl (is_R _) ?_
      refine g_getF (v := 953) oC6 (hC6_4) rfl (Nat.le_of_ble_eq_true rfl) (Nat.le_of_ble_eq_true rfl) ?_
      refine g_ld (v := rf _) rfl (is_R _) ?_
      refine g_getI (kz := 5) oC6 rfl (Nat.le_of_ble_eq_true rfl) rfl fun i7 => ?_
      replace h := h i7
      refine g_const (v := cI (1)) rfl ?_
      refine g_sub ?_
      obtain ⟨q8, q9, h⟩ := h
      refine g_aldA (c := 0) aC953 q8 q9 rfl fun i10 => ?_
      replace h := h i10
      refine g_st (lv' := [_, _, _, _]) (is_R _) (Nat.le_of_ble_eq_true rfl) (Or.inr (n1_I _)) rfl ?_
      refine g_ld (v := rf _) rfl (is_R _) ?_
      refine g_getI (kz := 7) oC6 rfl (Nat.le_of_ble_eq_true rfl) rfl fun i11 => ?_
      replace h := h i11
      refine g_ld (v := rf _) rfl (is_R _) ?_
      refine g_const (v := cI (3)) rfl ?_
      obtain ⟨n12, q13, h⟩ := h
      obtain ⟨q14, q15, h⟩ := h
      refine g_aldI q13 q14 q15 rfl fun i16 => ?_
      replace h := h i16
      refine g_gt2 i11 i16 (fun b17 => ?_) (fun b17 => ?_)
      · replace h := h.1 b17
        unfold vX6_throwOne_48
        refine g_ld (v := rf _) rfl (is_R _) ?_
        refine g_dup (ct_R _) ?_
        refine g_getI (kz := 7) oC6 rfl (Nat.le_of_ble_eq_true rfl) rfl fun i18 => ?_
        replace h := h i18
        refine g_const (v := cI (1)) rfl ?_
        refine g_sub ?_
        obtain ⟨q19, h⟩ := h
        refine g_putI (kz := 7) oC6 rfl (Nat.le_of_ble_eq_true rfl) rfl q19 (zfin_no (c := 938) (j := 7) rfl) ?_
        replace h := h _ rfl
        refine g_ld (v := rf _) rfl (is_R _) ?_
        refine g_const (v := cI (1)) rfl ?_
        refine g_ld (v := rf _) rfl (is_R _) ?_
        refine g_getF (v := 979) oC6 (hC6_6) rfl (Nat.le_of_ble_eq_true rfl) (Nat.le_of_ble_eq_true rfl) ?_
        refine g_const (v := cI (2)) rfl ?_
        refine g_ld (v := rf _) rfl (is_R _) ?_
        refine g_getI (kz := 7) oC6 rfl (Nat.le_of_ble_eq_true rfl) rfl fun i21 => ?_
        replace h := h i21
        refine g_mul ?_
        obtain ⟨q22, q23, h⟩ := h
        refine g_aldI aC979 q22 q23 rfl fun i24 => ?_
        replace h := h i24
        obtain ⟨n25, q26, h⟩ := h
        obtain ⟨q27, q28, h⟩ := h
        refine g_astI q26 q27 q28 i24 (nfI q26) ?_
        replace h := h _ rfl
        refine g_ld (v := rf _) rfl (is_R _) ?_
        refine g_ld (v := rf _) rfl (is_R _) ?_
        refine g_getF (v := 979) oC6 (hC6_6) rfl (Nat.le_of_ble_eq_true rfl) (Nat.le_of_ble_eq_true rfl) ?_
        refine g_const (v := cI (2)) rfl ?_
        refine g_ld (v := rf _) rfl (is_R _) ?_
        refine g_getI (kz := 7) oC6 rfl (Nat.le_of_ble_eq_true rfl) rfl fun i30 => ?_
        replace h := h i30
        refine g_mul ?_
        refine g_const (v := cI (1)) rfl ?_
        unfold vX6_throwOne_84
        refine g_add ?_
        obtain ⟨q31, q32, h⟩ := h
        refine g_aldI aC979 q31 q32 rfl fun i33 => ?_
        replace h := h i33
        refine g_putI (kz := 3) oC6 rfl (Nat.le_of_ble_eq_true rfl) rfl i33 (zfin_no (c := 938) (j := 3) rfl) ?_
        replace h := h _ rfl
        refine g_ld (v := rf _) rfl (is_R _) ?_
        refine g_ld (v := cI _) rfl (is_I _) ?_
        refine g_callV (As := [_]) (ci := 6) oC6 (fun _ => rfl) ?_
        refine g_go0 (Nat.le_of_ble_eq_true rfl) (Tn_w (TX6_push hl1 h) fun _ G35 ⟨e, h⟩ => ⟨e, ?_⟩)
        exact g_ret0 ⟨rfl, h⟩
      · replace h := h.2 b17
        unfold vX6_throwOne_95
        refine g_ld (v := rf _) rfl (is_R _) ?_
        refine g_const (v := cI (4)) rfl ?_
        obtain ⟨n37, q38, h⟩ := h
        obtain ⟨q39, q40, h⟩ := h
        refine g_aldI q38 q39 q40 rfl fun i41 => ?_
        replace h := h i41
        refine g_const (v := cI (3)) rfl ?_
        refine g_eq2 i41 ⟨by omega, by omega⟩ (fun b42 => ?_) (fun b42 => ?_)
        · replace h := h.1 b42
          unfold vX6_throwOne_102
          refine g_ld (v := rf _) rfl (is_R _) ?_
          refine g_const (v := cI (8)) rfl ?_
          refine g_callV (As := [_]) (ci := 6) oC6 (fun _ => rfl) ?_
          refine g_go0 (Nat.le_of_ble_eq_true rfl) (Tn_w (TX6_fail ⟨by omega, by omega⟩ h) fun _ G43 ⟨e, h⟩ => ⟨e, ?_⟩)
          exact g_ret0 ⟨rfl, h⟩
        · replace h := h.2 b42
          unfold vX6_throwOne_109
          refine g_ld (v := rf _) rfl (is_R _) ?_
          refine g_ld (v := rf _) rfl (is_R _) ?_
          refine g_callV (As := [_]) (ci := 6) oC6 (fun _ => rfl) ?_
          refine g_go0 (Nat.le_of_ble_eq_true rfl) (Tn_w (TX6_close  h) fun _ G45 ⟨e, h⟩ => ⟨e, ?_⟩)
          refine g_inc (lv' := [_, _, _, _]) rfl (Nat.le_of_ble_eq_true rfl) (Or.inr (n1_I _)) rfl ?_
          obtain ⟨q47, h⟩ := h
          exact hj0 _ _ _ _ hl1 q47 (n1_R _) h
    · replace h := h.2 b6
      exact TX6_throwOne_120 hl1 hl2 hl3 hj0 h
def PX6_throwOne_0 (J : Nat → List Int → gS → (Int → gS → Prop) → Prop) (a1 : Int) (G : gS) (Q : Int → gS → Prop) : Prop :=
  ((a1 = 0 → PX6_fail 13 G (fun _ G2 => Q 0 G2)) ∧ (¬ (a1 = 0) → PX6_throwOne_13 J a1 0 G Q))
set_option maxRecDepth 20000 in
theorem TX6_throwOne_0 {j : Nat → rx_K} {J : Nat → List Int → gS → (Int → gS → Prop) → Prop} {a1 : Int} {G : gS} {Q : Int → gS → Prop} (ha1 : inI a1) (hj0 : ∀ (l1 : Int) (l2 : Int) (l3 : Nat) (G : gS), (inI l1) → (inI l2) → (l3 % 8 ≠ 1) → J 0 [l1, l2] G Q → Tg W0 (j 0) [rf (938), cI (l1), cI (l2), l3] [] G (fun r G => r = 7 ∧ Q 0 G)) (h : PX6_throwOne_0 J a1 G Q) : Tg W0 (vX6_throwOne_0 j) [rf (938), cI (a1), 7, 7] [] G (fun r G => r = 7 ∧ Q 0 G) := by
  unfold PX6_throwOne_0 at h
  unfold vX6_throwOne_0
  refine g_ld (v := cI _) rfl (is_I _) ?_
  refine g_eq1 ha1 (fun b1 => ?_) (fun b1 => ?_)
  · replace h := h.1 b1
    unfold vX6_throwOne_4
    refine g_ld (v := rf _) rfl (is_R _) ?_
    refine g_const (v := cI (13)) rfl ?_
    refine g_callV (As := [_]) (ci := 6) oC6 (fun _ => rfl) ?_
    refine g_go0 (Nat.le_of_ble_eq_true rfl) (Tn_w (TX6_fail ⟨by omega, by omega⟩ h) fun _ G2 ⟨e, h⟩ => ⟨e, ?_⟩)
    exact g_ret0 ⟨rfl, h⟩
  · replace h := h.2 b1
    unfold vX6_throwOne_11
    refine g_const (v := cI (0)) rfl ?_
    refine g_st (lv' := [_, _, _, _]) (is_I _) (Nat.le_of_ble_eq_true rfl) (Or.inr (n1_I _)) rfl ?_
    exact TX6_throwOne_13 ha1 ⟨by omega, by omega⟩ (show 7 % 8 ≠ 1 by decide) hj0 h
def PX6_throwOne_J : Nat → Nat → List Int → gS → (Int → gS → Prop) → Prop
  | 0, _, _, _, _ => False
  | f + 1, h, L, G, Q => match h, L with
    | 0, [l1, l2] => PX6_throwOne_13 (PX6_throwOne_J f) l1 l2 G Q
    | _, _ => False
theorem TX6_throwOne_J {Q : Int → gS → Prop} : ∀ f N : Nat, f ≤ N → (∀ (l1 : Int) (l2 : Int) (l3 : Nat) (G : gS), (inI l1) → (inI l2) → (l3 % 8 ≠ 1) → (PX6_throwOne_J f) 0 [l1, l2] G Q → Tg W0 (rx_J vhX6_throwOne N 0) [rf (938), cI (l1), cI (l2), l3] [] G (fun r G => r = 7 ∧ Q 0 G)) := by
  intro f
  induction f with
  | zero => exact fun N _ => fun _ _ _ _ _ _ _ h => h.elim
  | succ f ih =>
    intro N hN
    obtain ⟨M, rfl⟩ : ∃ M, N = M + 1 := ⟨N - 1, by omega⟩
    have ih := ih M (by omega)
    exact fun _ _ _ _ hl1 hl2 hl3 h => show Tg W0 (vX6_throwOne_13 (rx_J vhX6_throwOne M)) _ _ _ _ from TX6_throwOne_13 hl1 hl2 hl3 ih h
def PX6_throwOne (a1 : Int) (G : gS) (Q : Int → gS → Prop) : Prop := ∃ f : Nat, f ≤ 4000000000 ∧ PX6_throwOne_0 (PX6_throwOne_J f) a1 G Q
theorem TX6_throwOne {a1 : Int} {G : gS} {Q : Int → gS → Prop} (ha1 : inI a1) (h : PX6_throwOne a1 G Q) : Tn W0 FX6_throwOne [rf (938), cI (a1)] G (fun r G => r = 7 ∧ Q 0 G) := by
  obtain ⟨f, hf, h⟩ := h
  have hJ := TX6_throwOne_J (Q := Q) f 4000000000 hf
  unfold FX6_throwOne
  refine g_ent (lv' := [rf (938), cI (a1), 7, 7]) (flR (flI fl0)) (Nat.le_of_ble_eq_true rfl) rfl ?_
  exact TX6_throwOne_0 ha1 hJ h
def PX6_goOne_332 (l1 : Int) (l2 : Int) (l3 : Int) (s0 : Int) (s1 : Int) (s2 : Int) (G : gS) (Q : Int → gS → Prop) : Prop :=
  (isO W0 6 (s0) ∧ PX6_giveBack s1 s2 G (fun _ G143 => Q (0) G143))
set_option maxRecDepth 20000 in
theorem TX6_goOne_332 {l1 : Int} {l2 : Int} {l3 : Int} {l4 : Nat} {l5 : Nat} {s0 : Int} {s1 : Int} {s2 : Int} {G : gS} {Q : Int → gS → Prop} (hl2 : inI l2) (hl3 : inI l3) (hl4 : l4 % 8 ≠ 1) (hl5 : l5 % 8 ≠ 1) (hs2 : inI s2) (h : PX6_goOne_332 l1 l2 l3 s0 s1 s2 G Q) : Tg W0 vX6_goOne_332 [rf (938), rf (l1), cI (l2), cI (l3), l4, l5] [cI (s2), rf (s1), rf (s0)] G (fun r G => ∃ v, r = cI v ∧ (0 ≤ v ∧ v ≤ 1) ∧ Q v G) := by
  unfold PX6_goOne_332 at h
  unfold vX6_goOne_332
  obtain ⟨q142, h⟩ := h
  refine g_callV (As := [_, _]) (ci := 6) q142 (fun _ => rfl) ?_
  refine g_go0 (Nat.le_of_ble_eq_true rfl) (Tn_w (Tn_eq (one6 q142) (TX6_giveBack hs2 h)) fun _ G143 ⟨e, h⟩ => ⟨e, ?_⟩)
  refine g_const (v := cI (0)) rfl ?_
  exact g_ret1 (is_Z (by omega)) ⟨_, rfl, (by omega), h⟩
def PX6_goOne_211 (l1 : Int) (l2 : Int) (l3 : Int) (G : gS) (Q : Int → gS → Prop) : Prop :=
  Q (1) G
set_option maxRecDepth 20000 in
theorem TX6_goOne_211 {l1 : Int} {l2 : Int} {l3 : Int} {l4 : Nat} {l5 : Nat} {G : gS} {Q : Int → gS → Prop} (hl2 : inI l2) (hl3 : inI l3) (hl4 : l4 % 8 ≠ 1) (hl5 : l5 % 8 ≠ 1) (h : PX6_goOne_211 l1 l2 l3 G Q) : Tg W0 vX6_goOne_211 [rf (938), rf (l1), cI (l2), cI (l3), l4, l5] [] G (fun r G => ∃ v, r = cI v ∧ (0 ≤ v ∧ v ≤ 1) ∧ Q v G) := by
  unfold PX6_goOne_211 at h
  unfold vX6_goOne_211
  refine g_const (v := cI (1)) rfl ?_
  exact g_ret1 (is_Z (by omega)) ⟨_, rfl, (by omega), h⟩
def PX6_goOne_144 (l1 : Int) (l2 : Int) (l3 : Int) (l5 : Int) (G : gS) (Q : Int → gS → Prop) : Prop :=
  Q (1) G
set_option maxRecDepth 20000 in
theorem TX6_goOne_144 {l1 : Int} {l2 : Int} {l3 : Int} {l4 : Nat} {l5 : Int} {G : gS} {Q : Int → gS → Prop} (hl2 : inI l2) (hl3 : inI l3) (hl4 : l4 % 8 ≠ 1) (hl5 : inI l5) (h : PX6_goOne_144 l1 l2 l3 l5 G Q) : Tg W0 vX6_goOne_144 [rf (938), rf (l1), cI (l2), cI (l3), l4, cI (l5)] [] G (fun r G => ∃ v, r = cI v ∧ (0 ≤ v ∧ v ≤ 1) ∧ Q v G) := by
  unfold PX6_goOne_144 at h
  unfold vX6_goOne_144
  refine g_const (v := cI (1)) rfl ?_
  exact g_ret1 (is_Z (by omega)) ⟨_, rfl, (by omega), h⟩
def PX6_goOne_107 (l1 : Int) (l2 : Int) (l3 : Int) (l4 : Int) (s0 : Int) (G : gS) (Q : Int → gS → Prop) : Prop :=
  ((0 ≤ s0 ∧ s0 ≤ 1) ∧ Q (s0) G)
set_option maxRecDepth 20000 in
theorem TX6_goOne_107 {l1 : Int} {l2 : Int} {l3 : Int} {l4 : Int} {l5 : Nat} {s0 : Int} {G : gS} {Q : Int → gS → Prop} (hl2 : inI l2) (hl3 : inI l3) (hl4 : inI l4) (hl5 : l5 % 8 ≠ 1) (hs0 : inI s0) (h : PX6_goOne_107 l1 l2 l3 l4 s0 G Q) : Tg W0 vX6_goOne_107 [rf (938), rf (l1), cI (l2), cI (l3), cI (l4), l5] [cI (s0)] G (fun r G => ∃ v, r = cI v ∧ (0 ≤ v ∧ v ≤ 1) ∧ Q v G) := by
  unfold PX6_goOne_107 at h
  unfold vX6_goOne_107
  obtain ⟨q146, h⟩ := h
  exact g_ret1 (is_Z q146) ⟨_, rfl, q146, h⟩
def PX6_goOne_97 (l1 : Int) (l2 : Int) (l3 : Int) (l4 : Int) (G : gS) (Q : Int → gS → Prop) : Prop :=
  ((l4 = 0 → PX6_goOne_107 l1 l2 l3 l4 1 G Q) ∧ (¬ (l4 = 0) → PX6_goOne_107 l1 l2 l3 l4 0 G Q))
set_option maxRecDepth 20000 in
theorem TX6_goOne_97 {l1 : Int} {l2 : Int} {l3 : Int} {l4 : Int} {l5 : Nat} {G : gS} {Q : Int → gS → Prop} (hl2 : inI l2) (hl3 : inI l3) (hl4 : inI l4) (hl5 : l5 % 8 ≠ 1) (h : PX6_goOne_97 l1 l2 l3 l4 G Q) : Tg W0 vX6_goOne_97 [rf (938), rf (l1), cI (l2), cI (l3), cI (l4), l5] [] G (fun r G => ∃ v, r = cI v ∧ (0 ≤ v ∧ v ≤ 1) ∧ Q v G) := by
  unfold PX6_goOne_97 at h
  unfold vX6_goOne_97
  refine g_ld (v := cI _) rfl (is_I _) ?_
  refine g_eq1 hl4 (fun b145 => ?_) (fun b145 => ?_)
  · replace h := h.1 b145
    unfold vX6_goOne_102
    refine g_const (v := cI (1)) rfl ?_
    exact TX6_goOne_107 hl2 hl3 hl4 hl5 ⟨by omega, by omega⟩ h
  · replace h := h.2 b145
    unfold vX6_goOne_106
    refine g_const (v := cI (0)) rfl ?_
    exact TX6_goOne_107 hl2 hl3 hl4 hl5 ⟨by omega, by omega⟩ h
def PX6_goOne_86 (l1 : Int) (l2 : Int) (l3 : Int) (s0 : Int) (G : gS) (Q : Int → gS → Prop) : Prop :=
  ((s0 = 0 → PX6_goOne_97 l1 l2 l3 s0 G Q) ∧ (¬ (s0 = 0) → (∃ n137, isA W0 0 n137 (l1) ∧ ((0 : Int) ≤ 1 ∧ ((1 : Int) < n137 ∧ (∀ G141 : gS, G141 = uG G l1 1 (l3) → PX6_goOne_97 l1 l2 l3 s0 G141 Q))))))
set_option maxRecDepth 20000 in
theorem TX6_goOne_86 {l1 : Int} {l2 : Int} {l3 : Int} {l4 : Nat} {l5 : Nat} {s0 : Int} {G : gS} {Q : Int → gS → Prop} (hl2 : inI l2) (hl3 : inI l3) (hl4 : l4 % 8 ≠ 1) (hl5 : l5 % 8 ≠ 1) (hs0 : inI s0) (h : PX6_goOne_86 l1 l2 l3 s0 G Q) : Tg W0 vX6_goOne_86 [rf (938), rf (l1), cI (l2), cI (l3), l4, l5] [cI (s0)] G (fun r G => ∃ v, r = cI v ∧ (0 ≤ v ∧ v ≤ 1) ∧ Q v G) := by
  unfold PX6_goOne_86 at h
  unfold vX6_goOne_86
  refine g_st (lv' := [_, _, _, _, _, _]) (is_I _) (Nat.le_of_ble_eq_true rfl) (Or.inr (n1_I _)) rfl ?_
  refine g_ld (v := cI _) rfl (is_I _) ?_
  refine g_eq1 hs0 (fun b136 => ?_) (fun b136 => ?_)
  · replace h := h.1 b136
    exact TX6_goOne_97 hl2 hl3 hs0 hl5 h
  · replace h := h.2 b136
    unfold vX6_goOne_93
    refine g_ld (v := rf _) rfl (is_R _) ?_
    refine g_const (v := cI (1)) rfl ?_
    refine g_ld (v := cI _) rfl (is_I _) ?_
    obtain ⟨n137, q138, h⟩ := h
    obtain ⟨q139, q140, h⟩ := h
    refine g_astI q138 q139 q140 hl3 (nfI q138) ?_
    replace h := h _ rfl
    exact TX6_goOne_97 hl2 hl3 hs0 hl5 h
def PX6_goOne_0 (a1 : Int) (a2 : Int) (a3 : Int) (G : gS) (Q : Int → gS → Prop) : Prop :=
  ((a2 = 12 → (∃ n2, isA W0 0 n2 (a1) ∧ ((0 : Int) ≤ 1 ∧ ((1 : Int) < n2 ∧ (∀ G6 : gS, G6 = uG G a1 1 (a3) → Q (0) G6))))) ∧ (a2 = 13 → PX6_pop G (fun r8 G7 => inI r8 → ((r8 = 0 → PX6_goOne_86 a1 a2 a3 1 G7 Q) ∧ (¬ (r8 = 0) → PX6_goOne_86 a1 a2 a3 0 G7 Q)))) ∧ (a2 = 14 → PX6_pop G (fun r12 G11 => inI r12 → (inI (G11 938 16) → ((G11 938 16 < 100 → (inI (G11 938 16) → ((0 : Int) ≤ G11 938 16 ∧ ((G11 938 16 : Int) < 100 ∧ (∀ G19 : gS, G19 = uG G11 984 (G11 938 16) (r12) → (inI (G19 938 16) → (inI ((G19 938 16) + 1) ∧ (∀ G22 : gS, G22 = uG G19 938 16 ((G19 938 16) + 1) → PX6_goOne_144 a1 a2 a3 r12 G22 Q)))))))) ∧ (¬ (G11 938 16 < 100) → PX6_goOne_144 a1 a2 a3 r12 G11 Q))))) ∧ (a2 = 15 → PX6_pop G (fun r24 G23 => inI r24 → PX6_throwOne r24 G23 (fun _ G26 => Q (0) G26))) ∧ (a2 = 16 → (inI (G 938 7) → (inI ((2 * (G 938 7)) + 1) ∧ (((2 * (G 938 7)) + 1 < 1152 → (inI (G 938 7) → ((0 : Int) ≤ 2 * (G 938 7) ∧ ((2 * (G 938 7) : Int) < 1152 ∧ (∀ G34 : gS, G34 = uG G 979 (2 * (G 938 7)) (a3) → (inI (G34 938 7) → (inI (G34 938 3) → ((0 : Int) ≤ (2 * (G34 938 7)) + 1 ∧ (((2 * (G34 938 7)) + 1 : Int) < 1152 ∧ (∀ G39 : gS, G39 = uG G34 979 ((2 * (G34 938 7)) + 1) (G34 938 3) → (inI (G39 938 7) → (inI ((G39 938 7) + 1) ∧ (∀ G42 : gS, G42 = uG G39 938 7 ((G39 938 7) + 1) → PX6_goOne_211 a1 a2 a3 G42 Q))))))))))))) ∧ (¬ ((2 * (G 938 7)) + 1 < 1152) → PX6_goOne_211 a1 a2 a3 G Q))))) ∧ (a2 = 17 → (inI (G 938 7) → (∃ n44, isA W0 0 n44 (a1) ∧ ((0 : Int) ≤ 3 ∧ ((3 : Int) < n44 ∧ (inI (G a1 3) → (inI ((G 938 7) - 1) ∧ (∀ G50 : gS, G50 = uG G 938 7 ((if (G 938 7) - 1 < G a1 3 then G a1 3 else (G 938 7) - 1)) → Q (1) G50)))))))) ∧ (a2 = 18 → ((a2 = 19 → PX6_pop G (fun r53 G52 => inI r53 → PX6_goOne_332 a1 a2 a3 938 a1 r53 G52 Q)) ∧ (¬ (a2 = 19) → PX6_goOne_332 a1 a2 a3 938 a1 0 G Q))) ∧ (a2 = 19 → ((a2 = 19 → PX6_pop G (fun r57 G56 => inI r57 → PX6_goOne_332 a1 a2 a3 938 a1 r57 G56 Q)) ∧ (¬ (a2 = 19) → PX6_goOne_332 a1 a2 a3 938 a1 0 G Q))) ∧ (a2 = 20 → (∃ n59, isA W0 0 n59 (a1) ∧ ((0 : Int) ≤ 1 ∧ ((1 : Int) < n59 ∧ (inI (G a1 1) → (∃ n64, isA W0 0 n64 (a1) ∧ ((0 : Int) ≤ 5 ∧ ((5 : Int) < n64 ∧ (inI ((G a1 1) + 2) ∧ (∀ G69 : gS, G69 = uG G a1 5 ((G a1 1) + 2) → ((G69 938 0 = -1 ∨ isO W0 11 (G69 938 0)) → (isO W0 11 (G69 938 0) ∧ (∃ n72, isA W0 0 n72 (a1) ∧ ((0 : Int) ≤ 0 ∧ ((0 : Int) < n72 ∧ (inI (G69 a1 0) → ((0 : Int) ≤ G69 a1 0 ∧ ((G69 a1 0 : Int) < 64 ∧ (((G69 ((G69 938 0) + 1) (G69 a1 0) = -1 ∨ isO W0 10 (G69 ((G69 938 0) + 1) (G69 a1 0))) ∧ ∀ v, W0.2 ((G69 938 0) + 1) (G69 a1 0) = some v → G69 ((G69 938 0) + 1) (G69 a1 0) = v) → (isO W0 10 (G69 ((G69 938 0) + 1) (G69 a1 0)) ∧ (inI (G69 (G69 ((G69 938 0) + 1) (G69 a1 0)) 19) → (∃ n82, isA W0 0 n82 (a1) ∧ ((0 : Int) ≤ 1 ∧ ((1 : Int) < n82 ∧ (∀ G86 : gS, G86 = uG G69 a1 1 (G69 (G69 ((G69 938 0) + 1) (G69 a1 0)) 19) → Q (0) G86))))))))))))))))))))))))) ∧ (a2 = 21 → (∃ n87, isA W0 0 n87 (a1) ∧ ((0 : Int) ≤ 5 ∧ ((5 : Int) < n87 ∧ (inI (G a1 5) → (∃ n92, isA W0 0 n92 (a1) ∧ ((0 : Int) ≤ 1 ∧ ((1 : Int) < n92 ∧ (∀ G96 : gS, G96 = uG G a1 1 (G a1 5) → Q (0) G96))))))))) ∧ (a2 = 22 → (isO W0 5 (939) ∧ (∃ n98, isA W0 0 n98 (a1) ∧ ((0 : Int) ≤ 0 ∧ ((0 : Int) < n98 ∧ (inI (G a1 0) → ((0 : Int) ≤ G a1 0 ∧ ((G a1 0 : Int) < 64 ∧ (∀ G105 : gS, G105 = uG G (939 + 1) (G a1 0) (4) → (∃ n106, isA W0 0 n106 (a1) ∧ ((0 : Int) ≤ 0 ∧ ((0 : Int) < n106 ∧ (inI (G105 a1 0) → (isO W0 5 (939) ∧ PX5_tellEvent 939 (G105 a1 0) 4 G105 (fun _ G112 => PX6_close a1 G112 (fun _ G114 => Q (0) G114)))))))))))))))) ∧ (a2 = 23 → (∃ n116, isA W0 0 n116 (a1) ∧ ((0 : Int) ≤ 0 ∧ ((0 : Int) < n116 ∧ (inI (G a1 0) → PX6_fieldOne 1 (G a1 0) a3 G (fun r122 G121 => (0 ≤ r122 ∧ r122 ≤ 1) → Q (r122) G121)))))) ∧ (a2 = 24 → (∃ n124, isA W0 0 n124 (a1) ∧ ((0 : Int) ≤ 0 ∧ ((0 : Int) < n124 ∧ (inI (G a1 0) → PX6_staticOne 1 (G a1 0) a3 G (fun r130 G129 => (0 ≤ r130 ∧ r130 ≤ 1) → Q (r130) G129)))))) ∧ ((a2 < 12 ∨ 25 ≤ a2) → ((a2 = 19 → PX6_pop G (fun r134 G133 => inI r134 → PX6_goOne_332 a1 a2 a3 938 a1 r134 G133 Q)) ∧ (¬ (a2 = 19) → PX6_goOne_332 a1 a2 a3 938 a1 0 G Q))))
set_option maxRecDepth 20000 in
theorem TX6_goOne_0 {a1 : Int} {a2 : Int} {a3 : Int} {G : gS} {Q : Int → gS → Prop} (ha2 : inI a2) (ha3 : inI a3) (h : PX6_goOne_0 a1 a2 a3 G Q) : Tg W0 vX6_goOne_0 [rf (938), rf (a1), cI (a2), cI (a3), 7, 7] [] G (fun r G => ∃ v, r = cI v ∧ (0 ≤ v ∧ v ≤ 1) ∧ Q v G) := by
  unfold PX6_goOne_0 at h
  unfold vX6_goOne_0
  refine g_ld (v := cI _) rfl (is_I _) ?_
  rcases (show a2 = 12 ∨ a2 = 13 ∨ a2 = 14 ∨ a2 = 15 ∨ a2 = 16 ∨ a2 = 17 ∨ a2 = 18 ∨ a2 = 19 ∨ a2 = 20 ∨ a2 = 21 ∨ a2 = 22 ∨ a2 = 23 ∨ a2 = 24 ∨ (a2 < 12 ∨ 25 ≤ a2) by omega) with b1 | b1 | b1 | b1 | b1 | b1 | b1 | b1 | b1 | b1 | b1 | b1 | b1 | b1
  · replace h := h.1 b1
    refine g_swI (n := 0) b1 (by omega) ?_
    show Tg W0 (vX6_goOne_68) _ _ _ _
    unfold vX6_goOne_68
    refine g_ld (v := rf _) rfl (is_R _) ?_
    refine g_const (v := cI (1)) rfl ?_
    refine g_ld (v := cI _) rfl (is_I _) ?_
    obtain ⟨n2, q3, h⟩ := h
    obtain ⟨q4, q5, h⟩ := h
    refine g_astI q3 q4 q5 ha3 (nfI q3) ?_
    replace h := h _ rfl
    refine g_const (v := cI (0)) rfl ?_
    exact g_ret1 (is_Z (by omega)) ⟨_, rfl, (by omega), h⟩
  · replace h := h.2.1 b1
    refine g_swI (n := 1) b1 (by omega) ?_
    show Tg W0 (vX6_goOne_74) _ _ _ _
    unfold vX6_goOne_74
    refine g_ld (v := rf _) rfl (is_R _) ?_
    refine g_callV (As := []) (ci := 6) oC6 (fun _ => rfl) ?_
    refine g_go1 (Nat.le_of_ble_eq_true rfl) (Tn_w (TX6_pop  h) fun _ G7 ⟨r8, e, i9, h⟩ => ?_)
    subst e
    refine ⟨n7_I _, ?_⟩
    replace h := h i9
    refine g_eq1 i9 (fun b10 => ?_) (fun b10 => ?_)
    · replace h := h.1 b10
      unfold vX6_goOne_81
      refine g_const (v := cI (1)) rfl ?_
      exact TX6_goOne_86 ha2 ha3 (show 7 % 8 ≠ 1 by decide) (show 7 % 8 ≠ 1 by decide) ⟨by omega, by omega⟩ h
    · replace h := h.2 b10
      unfold vX6_goOne_85
      refine g_const (v := cI (0)) rfl ?_
      exact TX6_goOne_86 ha2 ha3 (show 7 % 8 ≠ 1 by decide) (show 7 % 8 ≠ 1 by decide) ⟨by omega, by omega⟩ h
  · replace h := h.2.2.1 b1
    refine g_swI (n := 2) b1 (by omega) ?_
    show Tg W0 (vX6_goOne_108) _ _ _ _
    unfold vX6_goOne_108
    refine g_ld (v := rf _) rfl (is_R _) ?_
    refine g_callV (As := []) (ci := 6) oC6 (fun _ => rfl) ?_
    refine g_go1 (Nat.le_of_ble_eq_true rfl) (Tn_w (TX6_pop  h) fun _ G11 ⟨r12, e, i13, h⟩ => ?_)
    subst e
    refine ⟨n7_I _, ?_⟩
    replace h := h i13
    refine g_st (lv' := [_, _, _, _, _, _]) (is_I _) (Nat.le_of_ble_eq_true rfl) (Or.inr (show 7 % 8 ≠ 1 by decide)) rfl ?_
    refine g_ld (v := rf _) rfl (is_R _) ?_
    refine g_getI (kz := 16) oC6 rfl (Nat.le_of_ble_eq_true rfl) rfl fun i14 => ?_
    replace h := h i14
    refine g_const (v := cI (100)) rfl ?_
    refine g_lt2 i14 ⟨by omega, by omega⟩ (fun b15 => ?_) (fun b15 => ?_)
    · replace h := h.1 b15
      unfold vX6_goOne_123
      refine g_ld (v := rf _) rfl (is_R _) ?_
      refine g_getF (v := 984) oC6 (hC6_15) rfl (Nat.le_of_ble_eq_true rfl) (Nat.le_of_ble_eq_true rfl) ?_
      refine g_ld (v := rf _) rfl (is_R _) ?_
      refine g_getI (kz := 16) oC6 rfl (Nat.le_of_ble_eq_true rfl) rfl fun i16 => ?_
      replace h := h i16
      refine g_ld (v := cI _) rfl (is_I _) ?_
      obtain ⟨q17, q18, h⟩ := h
      refine g_astI aC984 q17 q18 i13 (nfI aC984) ?_
      replace h := h _ rfl
      refine g_ld (v := rf _) rfl (is_R _) ?_
      refine g_dup (ct_R _) ?_
      refine g_getI (kz := 16) oC6 rfl (Nat.le_of_ble_eq_true rfl) rfl fun i20 => ?_
      replace h := h i20
      refine g_const (v := cI (1)) rfl ?_
      refine g_add ?_
      obtain ⟨q21, h⟩ := h
      refine g_putI (kz := 16) oC6 rfl (Nat.le_of_ble_eq_true rfl) rfl q21 (zfin_no (c := 938) (j := 16) rfl) ?_
      replace h := h _ rfl
      exact TX6_goOne_144 ha2 ha3 (show 7 % 8 ≠ 1 by decide) i13 h
    · replace h := h.2 b15
      exact TX6_goOne_144 ha2 ha3 (show 7 % 8 ≠ 1 by decide) i13 h
  · replace h := h.2.2.2.1 b1
    refine g_swI (n := 3) b1 (by omega) ?_
    show Tg W0 (vX6_goOne_146) _ _ _ _
    unfold vX6_goOne_146
    refine g_ld (v := rf _) rfl (is_R _) ?_
    refine g_ld (v := rf _) rfl (is_R _) ?_
    refine g_callV (As := []) (ci := 6) oC6 (fun _ => rfl) ?_
    refine g_go1 (by simp only [cs_c, cs_0, ct_I, ct_L, ct_R]; exact Nat.le_of_ble_eq_true rfl) (Tn_w (TX6_pop  h) fun _ G23 ⟨r24, e, i25, h⟩ => ?_)
    subst e
    refine ⟨n7_I _, ?_⟩
    replace h := h i25
    refine g_callV (As := [_]) (ci := 6) oC6 (fun _ => rfl) ?_
    refine g_go0 (Nat.le_of_ble_eq_true rfl) (Tn_w (TX6_throwOne i25 h) fun _ G26 ⟨e, h⟩ => ⟨e, ?_⟩)
    refine g_const (v := cI (0)) rfl ?_
    exact g_ret1 (is_Z (by omega)) ⟨_, rfl, (by omega), h⟩
  · replace h := h.2.2.2.2.1 b1
    refine g_swI (n := 4) b1 (by omega) ?_
    show Tg W0 (vX6_goOne_156) _ _ _ _
    unfold vX6_goOne_156
    refine g_const (v := cI (2)) rfl ?_
    refine g_ld (v := rf _) rfl (is_R _) ?_
    refine g_getI (kz := 7) oC6 rfl (Nat.le_of_ble_eq_true rfl) rfl fun i28 => ?_
    replace h := h i28
    refine g_mul ?_
    refine g_const (v := cI (1)) rfl ?_
    refine g_add ?_
    refine g_ld (v := rf _) rfl (is_R _) ?_
    refine g_getF (v := 979) oC6 (hC6_6) rfl (Nat.le_of_ble_eq_true rfl) (Nat.le_of_ble_eq_true rfl) ?_
    refine g_alen aC979 ?_
    obtain ⟨q29, h⟩ := h
    refine g_lt2 q29 ⟨by omega, by omega⟩ (fun b30 => ?_) (fun b30 => ?_)
    · replace h := h.1 b30
      unfold vX6_goOne_172
      refine g_ld (v := rf _) rfl (is_R _) ?_
      refine g_getF (v := 979) oC6 (hC6_6) rfl (Nat.le_of_ble_eq_true rfl) (Nat.le_of_ble_eq_true rfl) ?_
      refine g_const (v := cI (2)) rfl ?_
      refine g_ld (v := rf _) rfl (is_R _) ?_
      refine g_getI (kz := 7) oC6 rfl (Nat.le_of_ble_eq_true rfl) rfl fun i31 => ?_
      replace h := h i31
      refine g_mul ?_
      refine g_ld (v := cI _) rfl (is_I _) ?_
      obtain ⟨q32, q33, h⟩ := h
      refine g_astI aC979 q32 q33 ha3 (nfI aC979) ?_
      replace h := h _ rfl
      refine g_ld (v := rf _) rfl (is_R _) ?_
      refine g_getF (v := 979) oC6 (hC6_6) rfl (Nat.le_of_ble_eq_true rfl) (Nat.le_of_ble_eq_true rfl) ?_
      refine g_const (v := cI (2)) rfl ?_
      refine g_ld (v := rf _) rfl (is_R _) ?_
      refine g_getI (kz := 7) oC6 rfl (Nat.le_of_ble_eq_true rfl) rfl fun i35 => ?_
      replace h := h i35
      refine g_mul ?_
      refine g_const (v := cI (1)) rfl ?_
      refine g_add ?_
      refine g_ld (v := rf _) rfl (is_R _) ?_
      refine g_getI (kz := 3) oC6 rfl (Nat.le_of_ble_eq_true rfl) rfl fun i36 => ?_
      replace h := h i36
      obtain ⟨q37, q38, h⟩ := h
      refine g_astI aC979 q37 q38 i36 (nfI aC979) ?_
      replace h := h _ rfl
      refine g_ld (v := rf _) rfl (is_R _) ?_
      refine g_dup (ct_R _) ?_
      refine g_getI (kz := 7) oC6 rfl (Nat.le_of_ble_eq_true rfl) rfl fun i40 => ?_
      replace h := h i40
      refine g_const (v := cI (1)) rfl ?_
      refine g_add ?_
      unfold vX6_goOne_208
      obtain ⟨q41, h⟩ := h
      refine g_putI (kz := 7) oC6 rfl (Nat.le_of_ble_eq_true rfl) rfl q41 (zfin_no (c := 938) (j := 7) rfl) ?_
      replace h := h _ rfl
      exact TX6_goOne_211 ha2 ha3 (show 7 % 8 ≠ 1 by decide) (show 7 % 8 ≠ 1 by decide) h
    · replace h := h.2 b30
      exact TX6_goOne_211 ha2 ha3 (show 7 % 8 ≠ 1 by decide) (show 7 % 8 ≠ 1 by decide) h
  · replace h := h.2.2.2.2.2.1 b1
    refine g_swI (n := 5) b1 (by omega) ?_
    show Tg W0 (vX6_goOne_213) _ _ _ _
    unfold vX6_goOne_213
    refine g_ld (v := rf _) rfl (is_R _) ?_
    refine g_ld (v := rf _) rfl (is_R _) ?_
    refine g_getI (kz := 7) oC6 rfl (Nat.le_of_ble_eq_true rfl) rfl fun i43 => ?_
    replace h := h i43
    refine g_const (v := cI (1)) rfl ?_
    refine g_sub ?_
    refine g_ld (v := rf _) rfl (is_R _) ?_
    refine g_const (v := cI (3)) rfl ?_
    obtain ⟨n44, q45, h⟩ := h
    obtain ⟨q46, q47, h⟩ := h
    refine g_aldI q45 q46 q47 rfl fun i48 => ?_
    replace h := h i48
    obtain ⟨q49, h⟩ := h
    refine g_max q49 i48 (by simp only [cs_c, cs_0, ct_I, ct_L, ct_R]; exact Nat.le_of_ble_eq_true rfl) ?_
    refine g_putI (kz := 7) oC6 rfl (Nat.le_of_ble_eq_true rfl) rfl (inI_max q49 i48) (zfin_no (c := 938) (j := 7) rfl) ?_
    replace h := h _ rfl
    refine g_const (v := cI (1)) rfl ?_
    exact g_ret1 (is_Z (by omega)) ⟨_, rfl, (by omega), h⟩
  · replace h := h.2.2.2.2.2.2.1 b1
    refine g_swI (n := 6) b1 (by omega) ?_
    show Tg W0 (vX6_goOne_316) _ _ _ _
    unfold vX6_goOne_316
    refine g_ld (v := rf _) rfl (is_R _) ?_
    refine g_ld (v := rf _) rfl (is_R _) ?_
    refine g_ld (v := cI _) rfl (is_I _) ?_
    refine g_const (v := cI (19)) rfl ?_
    refine g_eq2 ha2 ⟨by omega, by omega⟩ (fun b51 => ?_) (fun b51 => ?_)
    · replace h := h.1 b51
      unfold vX6_goOne_324
      refine g_ld (v := rf _) rfl (is_R _) ?_
      refine g_callV (As := []) (ci := 6) oC6 (fun _ => rfl) ?_
      refine g_go1 (by simp only [cs_c, cs_0, ct_I, ct_L, ct_R]; exact Nat.le_of_ble_eq_true rfl) (Tn_w (TX6_pop  h) fun _ G52 ⟨r53, e, i54, h⟩ => ?_)
      subst e
      refine ⟨n7_I _, ?_⟩
      replace h := h i54
      exact TX6_goOne_332 ha2 ha3 (show 7 % 8 ≠ 1 by decide) (show 7 % 8 ≠ 1 by decide) i54 h
    · replace h := h.2 b51
      unfold vX6_goOne_331
      refine g_const (v := cI (0)) rfl ?_
      exact TX6_goOne_332 ha2 ha3 (show 7 % 8 ≠ 1 by decide) (show 7 % 8 ≠ 1 by decide) ⟨by omega, by omega⟩ h
  · replace h := h.2.2.2.2.2.2.2.1 b1
    refine g_swI (n := 7) b1 (by omega) ?_
    show Tg W0 (vX6_goOne_316) _ _ _ _
    unfold vX6_goOne_316
    refine g_ld (v := rf _) rfl (is_R _) ?_
    refine g_ld (v := rf _) rfl (is_R _) ?_
    refine g_ld (v := cI _) rfl (is_I _) ?_
    refine g_const (v := cI (19)) rfl ?_
    refine g_eq2 ha2 ⟨by omega, by omega⟩ (fun b55 => ?_) (fun b55 => ?_)
    · replace h := h.1 b55
      unfold vX6_goOne_324
      refine g_ld (v := rf _) rfl (is_R _) ?_
      refine g_callV (As := []) (ci := 6) oC6 (fun _ => rfl) ?_
      refine g_go1 (by simp only [cs_c, cs_0, ct_I, ct_L, ct_R]; exact Nat.le_of_ble_eq_true rfl) (Tn_w (TX6_pop  h) fun _ G56 ⟨r57, e, i58, h⟩ => ?_)
      subst e
      refine ⟨n7_I _, ?_⟩
      replace h := h i58
      exact TX6_goOne_332 ha2 ha3 (show 7 % 8 ≠ 1 by decide) (show 7 % 8 ≠ 1 by decide) i58 h
    · replace h := h.2 b55
      unfold vX6_goOne_331
      refine g_const (v := cI (0)) rfl ?_
      exact TX6_goOne_332 ha2 ha3 (show 7 % 8 ≠ 1 by decide) (show 7 % 8 ≠ 1 by decide) ⟨by omega, by omega⟩ h
  · replace h := h.2.2.2.2.2.2.2.2.1 b1
    refine g_swI (n := 8) b1 (by omega) ?_
    show Tg W0 (vX6_goOne_231) _ _ _ _
    unfold vX6_goOne_231
    refine g_ld (v := rf _) rfl (is_R _) ?_
    refine g_const (v := cI (5)) rfl ?_
    refine g_ld (v := rf _) rfl (is_R _) ?_
    refine g_const (v := cI (1)) rfl ?_
    obtain ⟨n59, q60, h⟩ := h
    obtain ⟨q61, q62, h⟩ := h
    refine g_aldI q60 q61 q62 rfl fun i63 => ?_
    replace h := h i63
    refine g_const (v := cI (2)) rfl ?_
    refine g_add ?_
    obtain ⟨n64, q65, h⟩ := h
    obtain ⟨q66, q67, h⟩ := h
    obtain ⟨q68, h⟩ := h
    refine g_astI q65 q66 q67 q68 (nfI q65) ?_
    replace h := h _ rfl
    refine g_ld (v := rf _) rfl (is_R _) ?_
    refine g_const (v := cI (1)) rfl ?_
    refine g_ld (v := rf _) rfl (is_R _) ?_
    refine g_getR (kz := 0) (c := 11) oC6 rfl (Nat.le_of_ble_eq_true rfl) rfl (by decide) fun i70 => ?_
    replace h := h i70
    obtain ⟨q71, h⟩ := h
    refine g_getF q71 (ff11_1 q71).1 rfl (Nat.le_of_ble_eq_true rfl) (Nat.le_of_ble_eq_true rfl) ?_
    refine g_ld (v := rf _) rfl (is_R _) ?_
    refine g_const (v := cI (0)) rfl ?_
    obtain ⟨n72, q73, h⟩ := h
    obtain ⟨q74, q75, h⟩ := h
    refine g_aldI q73 q74 q75 rfl fun i76 => ?_
    replace h := h i76
    obtain ⟨q77, q78, h⟩ := h
    refine g_aldRF (c := 10) (ff11_1 q71).2 q77 q78 rfl (by decide) fun i79 => ?_
    replace h := h i79
    obtain ⟨q80, h⟩ := h
    refine g_getI (kz := 19) q80 rfl (Nat.le_of_ble_eq_true rfl) rfl fun i81 => ?_
    replace h := h i81
    obtain ⟨n82, q83, h⟩ := h
    obtain ⟨q84, q85, h⟩ := h
    refine g_astI q83 q84 q85 i81 (nfI q83) ?_
    replace h := h _ rfl
    refine g_const (v := cI (0)) rfl ?_
    exact g_ret1 (is_Z (by omega)) ⟨_, rfl, (by omega), h⟩
  · replace h := h.2.2.2.2.2.2.2.2.2.1 b1
    refine g_swI (n := 9) b1 (by omega) ?_
    show Tg W0 (vX6_goOne_258) _ _ _ _
    unfold vX6_goOne_258
    refine g_ld (v := rf _) rfl (is_R _) ?_
    refine g_const (v := cI (1)) rfl ?_
    refine g_ld (v := rf _) rfl (is_R _) ?_
    refine g_const (v := cI (5)) rfl ?_
    obtain ⟨n87, q88, h⟩ := h
    obtain ⟨q89, q90, h⟩ := h
    refine g_aldI q88 q89 q90 rfl fun i91 => ?_
    replace h := h i91
    obtain ⟨n92, q93, h⟩ := h
    obtain ⟨q94, q95, h⟩ := h
    refine g_astI q93 q94 q95 i91 (nfI q93) ?_
    replace h := h _ rfl
    refine g_const (v := cI (0)) rfl ?_
    exact g_ret1 (is_Z (by omega)) ⟨_, rfl, (by omega), h⟩
  · replace h := h.2.2.2.2.2.2.2.2.2.2.1 b1
    refine g_swI (n := 10) b1 (by omega) ?_
    show Tg W0 (vX6_goOne_286) _ _ _ _
    unfold vX6_goOne_286
    refine g_ld (v := rf _) rfl (is_R _) ?_
    refine g_getF (v := 939) oC6 (hC6_1) rfl (Nat.le_of_ble_eq_true rfl) (Nat.le_of_ble_eq_true rfl) ?_
    obtain ⟨q97, h⟩ := h
    refine g_getF q97 (ff5_1 q97).1 rfl (Nat.le_of_ble_eq_true rfl) (Nat.le_of_ble_eq_true rfl) ?_
    refine g_ld (v := rf _) rfl (is_R _) ?_
    refine g_const (v := cI (0)) rfl ?_
    obtain ⟨n98, q99, h⟩ := h
    obtain ⟨q100, q101, h⟩ := h
    refine g_aldI q99 q100 q101 rfl fun i102 => ?_
    replace h := h i102
    refine g_const (v := cI (4)) rfl ?_
    obtain ⟨q103, q104, h⟩ := h
    refine g_astI (ff5_1 q97).2 q103 q104 ⟨by omega, by omega⟩ (nfI (ff5_1 q97).2) ?_
    replace h := h _ rfl
    refine g_ld (v := rf _) rfl (is_R _) ?_
    refine g_getF (v := 939) oC6 (hC6_1) rfl (Nat.le_of_ble_eq_true rfl) (Nat.le_of_ble_eq_true rfl) ?_
    refine g_ld (v := rf _) rfl (is_R _) ?_
    refine g_const (v := cI (0)) rfl ?_
    obtain ⟨n106, q107, h⟩ := h
    obtain ⟨q108, q109, h⟩ := h
    refine g_aldI q107 q108 q109 rfl fun i110 => ?_
    replace h := h i110
    refine g_const (v := cI (4)) rfl ?_
    obtain ⟨q111, h⟩ := h
    refine g_callV (As := [_, _]) (ci := 5) q111 (fun _ => rfl) ?_
    refine g_go0 (Nat.le_of_ble_eq_true rfl) (Tn_w (TX5_tellEvent i110 ⟨by omega, by omega⟩ h) fun _ G112 ⟨e, h⟩ => ⟨e, ?_⟩)
    refine g_ld (v := rf _) rfl (is_R _) ?_
    refine g_ld (v := rf _) rfl (is_R _) ?_
    refine g_callV (As := [_]) (ci := 6) oC6 (fun _ => rfl) ?_
    refine g_go0 (Nat.le_of_ble_eq_true rfl) (Tn_w (TX6_close  h) fun _ G114 ⟨e, h⟩ => ⟨e, ?_⟩)
    refine g_const (v := cI (0)) rfl ?_
    exact g_ret1 (is_Z (by omega)) ⟨_, rfl, (by omega), h⟩
  · replace h := h.2.2.2.2.2.2.2.2.2.2.2.1 b1
    refine g_swI (n := 11) b1 (by omega) ?_
    show Tg W0 (vX6_goOne_266) _ _ _ _
    unfold vX6_goOne_266
    refine g_ld (v := rf _) rfl (is_R _) ?_
    refine g_const (v := cI (1)) rfl ?_
    refine g_ld (v := rf _) rfl (is_R _) ?_
    refine g_const (v := cI (0)) rfl ?_
    obtain ⟨n116, q117, h⟩ := h
    obtain ⟨q118, q119, h⟩ := h
    refine g_aldI q117 q118 q119 rfl fun i120 => ?_
    replace h := h i120
    refine g_ld (v := cI _) rfl (is_I _) ?_
    refine g_callV (As := [_, _, _]) (ci := 6) oC6 (fun _ => rfl) ?_
    refine g_go1 (Nat.le_of_ble_eq_true rfl) (Tn_w (TX6_fieldOne ⟨by omega, by omega⟩ i120 ha3 h) fun _ G121 ⟨r122, e, i123, h⟩ => ?_)
    subst e
    refine ⟨n7_I _, ?_⟩
    replace h := h i123
    exact g_ret1 (is_Z i123) ⟨_, rfl, i123, h⟩
  · replace h := h.2.2.2.2.2.2.2.2.2.2.2.2.1 b1
    refine g_swI (n := 12) b1 (by omega) ?_
    show Tg W0 (vX6_goOne_276) _ _ _ _
    unfold vX6_goOne_276
    refine g_ld (v := rf _) rfl (is_R _) ?_
    refine g_const (v := cI (1)) rfl ?_
    refine g_ld (v := rf _) rfl (is_R _) ?_
    refine g_const (v := cI (0)) rfl ?_
    obtain ⟨n124, q125, h⟩ := h
    obtain ⟨q126, q127, h⟩ := h
    refine g_aldI q125 q126 q127 rfl fun i128 => ?_
    replace h := h i128
    refine g_ld (v := cI _) rfl (is_I _) ?_
    refine g_callV (As := [_, _, _]) (ci := 6) oC6 (fun _ => rfl) ?_
    refine g_go1 (Nat.le_of_ble_eq_true rfl) (Tn_w (TX6_staticOne ⟨by omega, by omega⟩ i128 ha3 h) fun _ G129 ⟨r130, e, i131, h⟩ => ?_)
    subst e
    refine ⟨n7_I _, ?_⟩
    replace h := h i131
    exact g_ret1 (is_Z i131) ⟨_, rfl, i131, h⟩
  · replace h := h.2.2.2.2.2.2.2.2.2.2.2.2.2 b1
    refine g_swD (m := 13) ha2 rfl b1 (by omega) ?_
    show Tg W0 (vX6_goOne_316) _ _ _ _
    unfold vX6_goOne_316
    refine g_ld (v := rf _) rfl (is_R _) ?_
    refine g_ld (v := rf _) rfl (is_R _) ?_
    refine g_ld (v := cI _) rfl (is_I _) ?_
    refine g_const (v := cI (19)) rfl ?_
    refine g_eq2 ha2 ⟨by omega, by omega⟩ (fun b132 => ?_) (fun b132 => ?_)
    · replace h := h.1 b132
      unfold vX6_goOne_324
      refine g_ld (v := rf _) rfl (is_R _) ?_
      refine g_callV (As := []) (ci := 6) oC6 (fun _ => rfl) ?_
      refine g_go1 (by simp only [cs_c, cs_0, ct_I, ct_L, ct_R]; exact Nat.le_of_ble_eq_true rfl) (Tn_w (TX6_pop  h) fun _ G133 ⟨r134, e, i135, h⟩ => ?_)
      subst e
      refine ⟨n7_I _, ?_⟩
      replace h := h i135
      exact TX6_goOne_332 ha2 ha3 (show 7 % 8 ≠ 1 by decide) (show 7 % 8 ≠ 1 by decide) i135 h
    · replace h := h.2 b132
      unfold vX6_goOne_331
      refine g_const (v := cI (0)) rfl ?_
      exact TX6_goOne_332 ha2 ha3 (show 7 % 8 ≠ 1 by decide) (show 7 % 8 ≠ 1 by decide) ⟨by omega, by omega⟩ h
abbrev PX6_goOne (a1 : Int) (a2 : Int) (a3 : Int) (G : gS) (Q : Int → gS → Prop) : Prop := PX6_goOne_0 a1 a2 a3 G Q
theorem TX6_goOne {a1 : Int} {a2 : Int} {a3 : Int} {G : gS} {Q : Int → gS → Prop} (ha2 : inI a2) (ha3 : inI a3) (h : PX6_goOne a1 a2 a3 G Q) : Tn W0 FX6_goOne [rf (938), rf (a1), cI (a2), cI (a3)] G (fun r G => ∃ v, r = cI v ∧ (0 ≤ v ∧ v ≤ 1) ∧ Q v G) := by
  unfold FX6_goOne
  refine g_ent (lv' := [rf (938), rf (a1), cI (a2), cI (a3), 7, 7]) (flR (flR (flI (flI fl0)))) (Nat.le_of_ble_eq_true rfl) rfl ?_
  exact TX6_goOne_0 ha2 ha3 h
def PX10_hasRunning_41 (J : Nat → List Int → gS → (Int → gS → Prop) → Prop) (o : Int) (l1 : Int) (l2 : Int) (G : gS) (Q : Int → gS → Prop) : Prop :=
  (inI (l1 + 1) ∧ J 0 [o, l1 + 1] G Q)
set_option maxRecDepth 20000 in
theorem TX10_hasRunning_41 {j : Nat → rx_K} {J : Nat → List Int → gS → (Int → gS → Prop) → Prop} {o : Int} {l1 : Int} {l2 : Int} {G : gS} {Q : Int → gS → Prop} (hl1 : inI l1) (hj0 : ∀ (o : Int) (l1 : Int) (l2 : Nat) (G : gS), (inI l1) → (l2 % 8 ≠ 1) → J 0 [o, l1] G Q → Tg W0 (j 0) [rf (o), cI (l1), l2] [] G (fun r G => ∃ v, r = cI v ∧ (0 ≤ v ∧ v ≤ 1) ∧ Q v G)) (h : PX10_hasRunning_41 J o l1 l2 G Q) : Tg W0 (vX10_hasRunning_41 j) [rf (o), cI (l1), rf (l2)] [] G (fun r G => ∃ v, r = cI v ∧ (0 ≤ v ∧ v ≤ 1) ∧ Q v G) := by
  unfold PX10_hasRunning_41 at h
  unfold vX10_hasRunning_41
  refine g_inc (lv' := [_, _, _]) rfl (Nat.le_of_ble_eq_true rfl) (Or.inr (n1_R _)) rfl ?_
  obtain ⟨q14, h⟩ := h
  exact hj0 _ _ _ _ q14 (n1_R _) h
def PX10_hasRunning_2 (J : Nat → List Int → gS → (Int → gS → Prop) → Prop) (o : Int) (l1 : Int) (G : gS) (Q : Int → gS → Prop) : Prop :=
  (isO W0 10 (o) ∧ (inI (G o 15) → ((l1 < G o 15 → ((0 : Int) ≤ l1 ∧ ((l1 : Int) < 33 ∧ (((G (o + 4) l1 = -1 ∨ isO W0 7 (G (o + 4) l1)) ∧ ∀ v, W0.2 (o + 4) l1 = some v → G (o + 4) l1 = v) → (isO W0 7 (G (o + 4) l1) ∧ (inI (G (G (o + 4) l1) 0) → ((G (G (o + 4) l1) 0 = 1 → ((0 ≤ G (G (o + 4) l1) 4 ∧ G (G (o + 4) l1) 4 ≤ 1) → ((G (G (o + 4) l1) 4 = 0 → ((0 ≤ G (G (o + 4) l1) 2 ∧ G (G (o + 4) l1) 2 ≤ 1) → ((G (G (o + 4) l1) 2 = 0 → Q (1) G) ∧ (¬ (G (G (o + 4) l1) 2 = 0) → PX10_hasRunning_41 J o l1 (G (o + 4) l1) G Q)))) ∧ (¬ (G (G (o + 4) l1) 4 = 0) → PX10_hasRunning_41 J o l1 (G (o + 4) l1) G Q)))) ∧ (¬ (G (G (o + 4) l1) 0 = 1) → PX10_hasRunning_41 J o l1 (G (o + 4) l1) G Q)))))))) ∧ (¬ (l1 < G o 15) → Q (0) G))))
set_option maxRecDepth 20000 in
theorem TX10_hasRunning_2 {j : Nat → rx_K} {J : Nat → List Int → gS → (Int → gS → Prop) → Prop} {o : Int} {l1 : Int} {l2 : Nat} {G : gS} {Q : Int → gS → Prop} (hl1 : inI l1) (hl2 : l2 % 8 ≠ 1) (hj0 : ∀ (o : Int) (l1 : Int) (l2 : Nat) (G : gS), (inI l1) → (l2 % 8 ≠ 1) → J 0 [o, l1] G Q → Tg W0 (j 0) [rf (o), cI (l1), l2] [] G (fun r G => ∃ v, r = cI v ∧ (0 ≤ v ∧ v ≤ 1) ∧ Q v G)) (h : PX10_hasRunning_2 J o l1 G Q) : Tg W0 (vX10_hasRunning_2 j) [rf (o), cI (l1), l2] [] G (fun r G => ∃ v, r = cI v ∧ (0 ≤ v ∧ v ≤ 1) ∧ Q v G) := by
  unfold PX10_hasRunning_2 at h
  unfold vX10_hasRunning_2
  refine g_ld (v := cI _) rfl (is_I _) ?_
  refine g_ld (v := rf _) rfl (is_R _) ?_
  obtain ⟨q1, h⟩ := h
  refine g_getI (kz := 15) q1 rfl (Nat.le_of_ble_eq_true rfl) rfl fun i2 => ?_
  replace h := h i2
  refine g_lt2 hl1 i2 (fun b3 => ?_) (fun b3 => ?_)
  · replace h := h.1 b3
    unfold vX10_hasRunning_10
    refine g_ld (v := rf _) rfl (is_R _) ?_
    refine g_getF q1 (ff10_14 q1).1 rfl (Nat.le_of_ble_eq_true rfl) (Nat.le_of_ble_eq_true rfl) ?_
    refine g_ld (v := cI _) rfl (is_I _) ?_
    obtain ⟨q4, q5, h⟩ := h
    refine g_aldRF (c := 7) (ff10_14 q1).2 q4 q5 rfl (by decide) fun i6 => ?_
    replace h := h i6
    refine g_st (lv' := [_, _, _]) (is_R _) (Nat.le_of_ble_eq_true rfl) (Or.inr (n1_I _)) rfl ?_
    refine g_ld (v := rf _) rfl (is_R _) ?_
    obtain ⟨q7, h⟩ := h
    refine g_getI (kz := 0) q7 rfl (Nat.le_of_ble_eq_true rfl) rfl fun i8 => ?_
    replace h := h i8
    refine g_const (v := cI (1)) rfl ?_
    refine g_eq2 i8 ⟨by omega, by omega⟩ (fun b9 => ?_) (fun b9 => ?_)
    · replace h := h.1 b9
      unfold vX10_hasRunning_25
      refine g_ld (v := rf _) rfl (is_R _) ?_
      refine g_getZ (kz := 4) q7 rfl (Nat.le_of_ble_eq_true rfl) rfl fun i10 => ?_
      replace h := h i10
      refine g_eq1 ⟨by omega, by omega⟩ (fun b11 => ?_) (fun b11 => ?_)
      · replace h := h.1 b11
        unfold vX10_hasRunning_32
        refine g_ld (v := rf _) rfl (is_R _) ?_
        refine g_getZ (kz := 2) q7 rfl (Nat.le_of_ble_eq_true rfl) rfl fun i12 => ?_
        replace h := h i12
        refine g_eq1 ⟨by omega, by omega⟩ (fun b13 => ?_) (fun b13 => ?_)
        · replace h := h.1 b13
          unfold vX10_hasRunning_39
          refine g_const (v := cI (1)) rfl ?_
          exact g_ret1 (is_Z (by omega)) ⟨_, rfl, (by omega), h⟩
        · replace h := h.2 b13
          exact TX10_hasRunning_41 hl1 hj0 h
      · replace h := h.2 b11
        exact TX10_hasRunning_41 hl1 hj0 h
    · replace h := h.2 b9
      exact TX10_hasRunning_41 hl1 hj0 h
  · replace h := h.2 b3
    unfold vX10_hasRunning_47
    refine g_const (v := cI (0)) rfl ?_
    exact g_ret1 (is_Z (by omega)) ⟨_, rfl, (by omega), h⟩
def PX10_hasRunning_0 (J : Nat → List Int → gS → (Int → gS → Prop) → Prop) (o : Int) (G : gS) (Q : Int → gS → Prop) : Prop :=
  PX10_hasRunning_2 J o 0 G Q
set_option maxRecDepth 20000 in
theorem TX10_hasRunning_0 {j : Nat → rx_K} {J : Nat → List Int → gS → (Int → gS → Prop) → Prop} {o : Int} {G : gS} {Q : Int → gS → Prop}  (hj0 : ∀ (o : Int) (l1 : Int) (l2 : Nat) (G : gS), (inI l1) → (l2 % 8 ≠ 1) → J 0 [o, l1] G Q → Tg W0 (j 0) [rf (o), cI (l1), l2] [] G (fun r G => ∃ v, r = cI v ∧ (0 ≤ v ∧ v ≤ 1) ∧ Q v G)) (h : PX10_hasRunning_0 J o G Q) : Tg W0 (vX10_hasRunning_0 j) [rf (o), 7, 7] [] G (fun r G => ∃ v, r = cI v ∧ (0 ≤ v ∧ v ≤ 1) ∧ Q v G) := by
  unfold PX10_hasRunning_0 at h
  unfold vX10_hasRunning_0
  refine g_const (v := cI (0)) rfl ?_
  refine g_st (lv' := [_, _, _]) (is_I _) (Nat.le_of_ble_eq_true rfl) (Or.inr (n1_R _)) rfl ?_
  exact TX10_hasRunning_2 ⟨by omega, by omega⟩ (show 7 % 8 ≠ 1 by decide) hj0 h
def PX10_hasRunning_J : Nat → Nat → List Int → gS → (Int → gS → Prop) → Prop
  | 0, _, _, _, _ => False
  | f + 1, h, L, G, Q => match h, L with
    | 0, [o, l1] => PX10_hasRunning_2 (PX10_hasRunning_J f) o l1 G Q
    | _, _ => False
theorem TX10_hasRunning_J {Q : Int → gS → Prop} : ∀ f N : Nat, f ≤ N → (∀ (o : Int) (l1 : Int) (l2 : Nat) (G : gS), (inI l1) → (l2 % 8 ≠ 1) → (PX10_hasRunning_J f) 0 [o, l1] G Q → Tg W0 (rx_J vhX10_hasRunning N 0) [rf (o), cI (l1), l2] [] G (fun r G => ∃ v, r = cI v ∧ (0 ≤ v ∧ v ≤ 1) ∧ Q v G)) := by
  intro f
  induction f with
  | zero => exact fun N _ => fun _ _ _ _ _ _ h => h.elim
  | succ f ih =>
    intro N hN
    obtain ⟨M, rfl⟩ : ∃ M, N = M + 1 := ⟨N - 1, by omega⟩
    have ih := ih M (by omega)
    exact fun _ _ _ _ hl1 hl2 h => show Tg W0 (vX10_hasRunning_2 (rx_J vhX10_hasRunning M)) _ _ _ _ from TX10_hasRunning_2 hl1 hl2 ih h
def PX10_hasRunning (o : Int) (G : gS) (Q : Int → gS → Prop) : Prop := ∃ f : Nat, f ≤ 4000000000 ∧ PX10_hasRunning_0 (PX10_hasRunning_J f) o G Q
theorem TX10_hasRunning {o : Int} {G : gS} {Q : Int → gS → Prop}  (h : PX10_hasRunning o G Q) : Tn W0 FX10_hasRunning [rf (o)] G (fun r G => ∃ v, r = cI v ∧ (0 ≤ v ∧ v ≤ 1) ∧ Q v G) := by
  obtain ⟨f, hf, h⟩ := h
  have hJ := TX10_hasRunning_J (Q := Q) f 4000000000 hf
  unfold FX10_hasRunning
  refine g_ent (lv' := [rf (o), 7, 7]) (flR fl0) (Nat.le_of_ble_eq_true rfl) rfl ?_
  exact TX10_hasRunning_0  hJ h
def PX6_startedFace_240 (J : Nat → List Int → gS → (Int → gS → Prop) → Prop) (l1 : Int) (l2 : Int) (l3 : Int) (l5 : Int) (l6 : Int) (l7 : Int) (l8 : Int) (G : gS) (Q : Int → gS → Prop) : Prop :=
  Q (-2) G
set_option maxRecDepth 20000 in
theorem TX6_startedFace_240 {j : Nat → rx_K} {J : Nat → List Int → gS → (Int → gS → Prop) → Prop} {l1 : Int} {l2 : Int} {l3 : Int} {l4 : Nat} {l5 : Int} {l6 : Int} {l7 : Int} {l8 : Int} {l9 : Nat} {l10 : Nat} {l11 : Nat} {l12 : Nat} {G : gS} {Q : Int → gS → Prop} (hl1 : inI l1) (hl2 : inI l2) (hl3 : inL l3) (hl4 : l4 % 8 ≠ 1) (hl5 : inI l5) (hl6 : inI l6) (hl7 : inI l7) (hl8 : inI l8) (hl9 : l9 % 8 ≠ 1) (hl10 : l10 % 8 ≠ 1) (hl11 : l11 % 8 ≠ 1) (hl12 : l12 % 8 ≠ 1) (hj0 : ∀ (l1 : Int) (l2 : Int) (l3 : Int) (l4 : Nat) (l5 : Int) (l6 : Int) (l7 : Int) (l8 : Int) (l9 : Nat) (l10 : Nat) (l11 : Nat) (l12 : Nat) (G : gS), (inI l1) → (inI l2) → (inL l3) → (l4 % 8 ≠ 1) → (inI l5) → (inI l6) → (inI l7) → (inI l8) → (l9 % 8 ≠ 1) → (l10 % 8 ≠ 1) → (l11 % 8 ≠ 1) → (l12 % 8 ≠ 1) → J 0 [l1, l2, l3, l5, l6, l7, l8] G Q → Tg W0 (j 0) [rf (938), cI (l1), cI (l2), cL (l3), l4, cI (l5), cI (l6), cI (l7), cI (l8), l9, l10, l11, l12] [] G (fun r G => ∃ v, r = cI v ∧ inI v ∧ Q v G)) (h : PX6_startedFace_240 J l1 l2 l3 l5 l6 l7 l8 G Q) : Tg W0 (vX6_startedFace_240 j) [rf (938), cI (l1), cI (l2), cL (l3), l4, cI (l5), cI (l6), cI (l7), cI (l8), l9, l10, l11, l12] [] G (fun r G => ∃ v, r = cI v ∧ inI v ∧ Q v G) := by
  unfold PX6_startedFace_240 at h
  unfold vX6_startedFace_240
  refine g_const (v := cI (-2)) rfl ?_
  exact g_ret1 (is_I _) ⟨_, rfl, ⟨by omega, by omega⟩, h⟩
def PX6_startedFace_234 (J : Nat → List Int → gS → (Int → gS → Prop) → Prop) (l1 : Int) (l2 : Int) (l3 : Int) (l5 : Int) (l6 : Int) (l7 : Int) (l8 : Int) (l9 : Int) (l10 : Int) (l11 : Int) (l12 : Int) (G : gS) (Q : Int → gS → Prop) : Prop :=
  (inI (l8 + 1) ∧ J 0 [l1, l2, l3, l5, l6, l7, l8 + 1] G Q)
set_option maxRecDepth 20000 in
theorem TX6_startedFace_234 {j : Nat → rx_K} {J : Nat → List Int → gS → (Int → gS → Prop) → Prop} {l1 : Int} {l2 : Int} {l3 : Int} {l4 : Nat} {l5 : Int} {l6 : Int} {l7 : Int} {l8 : Int} {l9 : Int} {l10 : Int} {l11 : Int} {l12 : Int} {G : gS} {Q : Int → gS → Prop} (hl1 : inI l1) (hl2 : inI l2) (hl3 : inL l3) (hl4 : l4 % 8 ≠ 1) (hl5 : inI l5) (hl6 : inI l6) (hl7 : inI l7) (hl8 : inI l8) (hl9 : inI l9) (hl10 : inI l10) (hl11 : inI l11) (hl12 : inI l12) (hj0 : ∀ (l1 : Int) (l2 : Int) (l3 : Int) (l4 : Nat) (l5 : Int) (l6 : Int) (l7 : Int) (l8 : Int) (l9 : Nat) (l10 : Nat) (l11 : Nat) (l12 : Nat) (G : gS), (inI l1) → (inI l2) → (inL l3) → (l4 % 8 ≠ 1) → (inI l5) → (inI l6) → (inI l7) → (inI l8) → (l9 % 8 ≠ 1) → (l10 % 8 ≠ 1) → (l11 % 8 ≠ 1) → (l12 % 8 ≠ 1) → J 0 [l1, l2, l3, l5, l6, l7, l8] G Q → Tg W0 (j 0) [rf (938), cI (l1), cI (l2), cL (l3), l4, cI (l5), cI (l6), cI (l7), cI (l8), l9, l10, l11, l12] [] G (fun r G => ∃ v, r = cI v ∧ inI v ∧ Q v G)) (h : PX6_startedFace_234 J l1 l2 l3 l5 l6 l7 l8 l9 l10 l11 l12 G Q) : Tg W0 (vX6_startedFace_234 j) [rf (938), cI (l1), cI (l2), cL (l3), l4, cI (l5), cI (l6), cI (l7), cI (l8), cI (l9), cI (l10), cI (l11), cI (l12)] [] G (fun r G => ∃ v, r = cI v ∧ inI v ∧ Q v G) := by
  unfold PX6_startedFace_234 at h
  unfold vX6_startedFace_234
  refine g_inc (lv' := [_, _, _, _, _, _, _, _, _, _, _, _, _]) rfl (Nat.le_of_ble_eq_true rfl) (Or.inr (n1_I _)) rfl ?_
  obtain ⟨q58, h⟩ := h
  exact hj0 _ _ _ _ _ _ _ _ _ _ _ _ _ hl1 hl2 hl3 hl4 hl5 hl6 hl7 q58 (n1_I _) (n1_I _) (n1_I _) (n1_I _) h
def PX6_startedFace_176 (J : Nat → List Int → gS → (Int → gS → Prop) → Prop) (l1 : Int) (l2 : Int) (l3 : Int) (l5 : Int) (l6 : Int) (l7 : Int) (l8 : Int) (l9 : Int) (l10 : Int) (l11 : Int) (l12 : Int) (s0 : Int) (s1 : Int) (G : gS) (Q : Int → gS → Prop) : Prop :=
  (inI (s0 - s1) ∧ ((s0 - s1 = 0 → Q (l10) G) ∧ (¬ (s0 - s1 = 0) → PX6_startedFace_234 J l1 l2 l3 (s0 - s1) l6 l7 l8 l9 l10 l11 l12 G Q)))
set_option maxRecDepth 20000 in
theorem TX6_startedFace_176 {j : Nat → rx_K} {J : Nat → List Int → gS → (Int → gS → Prop) → Prop} {l1 : Int} {l2 : Int} {l3 : Int} {l4 : Nat} {l5 : Int} {l6 : Int} {l7 : Int} {l8 : Int} {l9 : Int} {l10 : Int} {l11 : Int} {l12 : Int} {s0 : Int} {s1 : Int} {G : gS} {Q : Int → gS → Prop} (hl1 : inI l1) (hl2 : inI l2) (hl3 : inL l3) (hl4 : l4 % 8 ≠ 1) (hl5 : inI l5) (hl6 : inI l6) (hl7 : inI l7) (hl8 : inI l8) (hl9 : inI l9) (hl10 : inI l10) (hl11 : inI l11) (hl12 : inI l12) (hs0 : inI s0) (hs1 : inI s1) (hj0 : ∀ (l1 : Int) (l2 : Int) (l3 : Int) (l4 : Nat) (l5 : Int) (l6 : Int) (l7 : Int) (l8 : Int) (l9 : Nat) (l10 : Nat) (l11 : Nat) (l12 : Nat) (G : gS), (inI l1) → (inI l2) → (inL l3) → (l4 % 8 ≠ 1) → (inI l5) → (inI l6) → (inI l7) → (inI l8) → (l9 % 8 ≠ 1) → (l10 % 8 ≠ 1) → (l11 % 8 ≠ 1) → (l12 % 8 ≠ 1) → J 0 [l1, l2, l3, l5, l6, l7, l8] G Q → Tg W0 (j 0) [rf (938), cI (l1), cI (l2), cL (l3), l4, cI (l5), cI (l6), cI (l7), cI (l8), l9, l10, l11, l12] [] G (fun r G => ∃ v, r = cI v ∧ inI v ∧ Q v G)) (h : PX6_startedFace_176 J l1 l2 l3 l5 l6 l7 l8 l9 l10 l11 l12 s0 s1 G Q) : Tg W0 (vX6_startedFace_176 j) [rf (938), cI (l1), cI (l2), cL (l3), l4, cI (l5), cI (l6), cI (l7), cI (l8), cI (l9), cI (l10), cI (l11), cI (l12)] [cI (s1), cI (s0)] G (fun r G => ∃ v, r = cI v ∧ inI v ∧ Q v G) := by
  unfold PX6_startedFace_176 at h
  unfold vX6_startedFace_176
  refine g_sub ?_
  refine g_st (lv' := [_, _, _, _, _, _, _, _, _, _, _, _, _]) (is_I _) (Nat.le_of_ble_eq_true rfl) (Or.inr hl4) rfl ?_
  obtain ⟨q59, h⟩ := h
  refine g_ld (v := cI _) rfl (is_I _) ?_
  refine g_eq1 q59 (fun b60 => ?_) (fun b60 => ?_)
  · replace h := h.1 b60
    unfold vX6_startedFace_184
    refine g_ld (v := cI _) rfl (is_I _) ?_
    exact g_ret1 (is_I _) ⟨_, rfl, hl10, h⟩
  · replace h := h.2 b60
    exact TX6_startedFace_234 hl1 hl2 hl3 hl4 q59 hl6 hl7 hl8 hl9 hl10 hl11 hl12 hj0 h
def PX6_startedFace_175 (J : Nat → List Int → gS → (Int → gS → Prop) → Prop) (l1 : Int) (l2 : Int) (l3 : Int) (l5 : Int) (l6 : Int) (l7 : Int) (l8 : Int) (l9 : Int) (l10 : Int) (l11 : Int) (l12 : Int) (s0 : Int) (G : gS) (Q : Int → gS → Prop) : Prop :=
  PX6_startedFace_176 J l1 l2 l3 l5 l6 l7 l8 l9 l10 l11 l12 s0 0 G Q
set_option maxRecDepth 20000 in
theorem TX6_startedFace_175 {j : Nat → rx_K} {J : Nat → List Int → gS → (Int → gS → Prop) → Prop} {l1 : Int} {l2 : Int} {l3 : Int} {l4 : Nat} {l5 : Int} {l6 : Int} {l7 : Int} {l8 : Int} {l9 : Int} {l10 : Int} {l11 : Int} {l12 : Int} {s0 : Int} {G : gS} {Q : Int → gS → Prop} (hl1 : inI l1) (hl2 : inI l2) (hl3 : inL l3) (hl4 : l4 % 8 ≠ 1) (hl5 : inI l5) (hl6 : inI l6) (hl7 : inI l7) (hl8 : inI l8) (hl9 : inI l9) (hl10 : inI l10) (hl11 : inI l11) (hl12 : inI l12) (hs0 : inI s0) (hj0 : ∀ (l1 : Int) (l2 : Int) (l3 : Int) (l4 : Nat) (l5 : Int) (l6 : Int) (l7 : Int) (l8 : Int) (l9 : Nat) (l10 : Nat) (l11 : Nat) (l12 : Nat) (G : gS), (inI l1) → (inI l2) → (inL l3) → (l4 % 8 ≠ 1) → (inI l5) → (inI l6) → (inI l7) → (inI l8) → (l9 % 8 ≠ 1) → (l10 % 8 ≠ 1) → (l11 % 8 ≠ 1) → (l12 % 8 ≠ 1) → J 0 [l1, l2, l3, l5, l6, l7, l8] G Q → Tg W0 (j 0) [rf (938), cI (l1), cI (l2), cL (l3), l4, cI (l5), cI (l6), cI (l7), cI (l8), l9, l10, l11, l12] [] G (fun r G => ∃ v, r = cI v ∧ inI v ∧ Q v G)) (h : PX6_startedFace_175 J l1 l2 l3 l5 l6 l7 l8 l9 l10 l11 l12 s0 G Q) : Tg W0 (vX6_startedFace_175 j) [rf (938), cI (l1), cI (l2), cL (l3), l4, cI (l5), cI (l6), cI (l7), cI (l8), cI (l9), cI (l10), cI (l11), cI (l12)] [cI (s0)] G (fun r G => ∃ v, r = cI v ∧ inI v ∧ Q v G) := by
  unfold PX6_startedFace_175 at h
  unfold vX6_startedFace_175
  refine g_const (v := cI (0)) rfl ?_
  exact TX6_startedFace_176 hl1 hl2 hl3 hl4 hl5 hl6 hl7 hl8 hl9 hl10 hl11 hl12 hs0 ⟨by omega, by omega⟩ hj0 h
def PX6_startedFace_136 (J : Nat → List Int → gS → (Int → gS → Prop) → Prop) (l1 : Int) (l2 : Int) (l3 : Int) (l5 : Int) (l6 : Int) (l7 : Int) (l8 : Int) (l9 : Int) (l10 : Int) (l11 : Int) (s0 : Int) (G : gS) (Q : Int → gS → Prop) : Prop :=
  ((l11 < 4 → ((s0 < 0 → PX6_startedFace_234 J l1 l2 l3 l5 l6 l7 l8 l9 l10 l11 s0 G Q) ∧ (¬ (s0 < 0) → (inL (lush l3 s0) → (inL (land (lush l3 s0) 1) → ((land (lush l3 s0) 1 = 0 → (inL (lshl 1 s0) → (inL (lor l3 (lshl 1 s0)) → ((0 : Int) ≤ l9 + 2 ∧ ((l9 + 2 : Int) < 24000 ∧ (∀ G41 : gS, G41 = uG G 952 (l9 + 2) (s0) → ((0 : Int) ≤ l9 + 3 ∧ ((l9 + 3 : Int) < 24000 ∧ (∀ G44 : gS, G44 = uG G41 952 (l9 + 3) (0) → (inI (l6 + 1) ∧ PX6_startedFace_234 J l1 l2 (lor l3 (lshl 1 s0)) l5 (l6 + 1) l7 l8 l9 l10 l11 s0 G44 Q)))))))))) ∧ (¬ (land (lush l3 s0) 1 = 0) → PX6_startedFace_234 J l1 l2 l3 l5 l6 l7 l8 l9 l10 l11 s0 G Q))))))) ∧ (¬ (l11 < 4) → (inI (l6 + (-1)) ∧ ((l10 = l1 → PX6_startedFace_175 J l1 l2 l3 l5 (l6 + (-1)) l7 l8 l9 l10 l11 s0 l5 G Q) ∧ (¬ (l10 = l1) → ((G 938 0 = -1 ∨ isO W0 11 (G 938 0)) → (isO W0 11 (G 938 0) ∧ ((0 : Int) ≤ l10 ∧ ((l10 : Int) < 64 ∧ (((G ((G 938 0) + 1) l10 = -1 ∨ isO W0 10 (G ((G 938 0) + 1) l10)) ∧ ∀ v, W0.2 ((G 938 0) + 1) l10 = some v → G ((G 938 0) + 1) l10 = v) → (isO W0 10 (G ((G 938 0) + 1) l10) ∧ PX10_hasRunning (G ((G 938 0) + 1) l10) G (fun r55 G54 => (0 ≤ r55 ∧ r55 ≤ 1) → ((r55 = 0 → PX6_startedFace_175 J l1 l2 l3 l5 (l6 + (-1)) l7 l8 l9 l10 l11 s0 l5 G54 Q) ∧ (¬ (r55 = 0) → PX6_startedFace_176 J l1 l2 l3 l5 (l6 + (-1)) l7 l8 l9 l10 l11 s0 l5 1 G54 Q))))))))))))))
set_option maxRecDepth 20000 in
theorem TX6_startedFace_136 {j : Nat → rx_K} {J : Nat → List Int → gS → (Int → gS → Prop) → Prop} {l1 : Int} {l2 : Int} {l3 : Int} {l4 : Nat} {l5 : Int} {l6 : Int} {l7 : Int} {l8 : Int} {l9 : Int} {l10 : Int} {l11 : Int} {l12 : Nat} {s0 : Int} {G : gS} {Q : Int → gS → Prop} (hl1 : inI l1) (hl2 : inI l2) (hl3 : inL l3) (hl4 : l4 % 8 ≠ 1) (hl5 : inI l5) (hl6 : inI l6) (hl7 : inI l7) (hl8 : inI l8) (hl9 : inI l9) (hl10 : inI l10) (hl11 : inI l11) (hl12 : l12 % 8 ≠ 1) (hs0 : inI s0) (hj0 : ∀ (l1 : Int) (l2 : Int) (l3 : Int) (l4 : Nat) (l5 : Int) (l6 : Int) (l7 : Int) (l8 : Int) (l9 : Nat) (l10 : Nat) (l11 : Nat) (l12 : Nat) (G : gS), (inI l1) → (inI l2) → (inL l3) → (l4 % 8 ≠ 1) → (inI l5) → (inI l6) → (inI l7) → (inI l8) → (l9 % 8 ≠ 1) → (l10 % 8 ≠ 1) → (l11 % 8 ≠ 1) → (l12 % 8 ≠ 1) → J 0 [l1, l2, l3, l5, l6, l7, l8] G Q → Tg W0 (j 0) [rf (938), cI (l1), cI (l2), cL (l3), l4, cI (l5), cI (l6), cI (l7), cI (l8), l9, l10, l11, l12] [] G (fun r G => ∃ v, r = cI v ∧ inI v ∧ Q v G)) (h : PX6_startedFace_136 J l1 l2 l3 l5 l6 l7 l8 l9 l10 l11 s0 G Q) : Tg W0 (vX6_startedFace_136 j) [rf (938), cI (l1), cI (l2), cL (l3), l4, cI (l5), cI (l6), cI (l7), cI (l8), cI (l9), cI (l10), cI (l11), l12] [cI (s0)] G (fun r G => ∃ v, r = cI v ∧ inI v ∧ Q v G) := by
  unfold PX6_startedFace_136 at h
  unfold vX6_startedFace_136
  refine g_st (lv' := [_, _, _, _, _, _, _, _, _, _, _, _, _]) (is_I _) (Nat.le_of_ble_eq_true rfl) (Or.inr (n1_I _)) rfl ?_
  refine g_ld (v := cI _) rfl (is_I _) ?_
  refine g_const (v := cI (4)) rfl ?_
  refine g_lt2 hl11 ⟨by omega, by omega⟩ (fun b32 => ?_) (fun b32 => ?_)
  · replace h := h.1 b32
    unfold vX6_startedFace_187
    refine g_ld (v := cI _) rfl (is_I _) ?_
    refine g_lt1 hs0 (fun b33 => ?_) (fun b33 => ?_)
    · replace h := h.1 b33
      exact TX6_startedFace_234 hl1 hl2 hl3 hl4 hl5 hl6 hl7 hl8 hl9 hl10 hl11 hs0 hj0 h
    · replace h := h.2 b33
      unfold vX6_startedFace_192
      refine g_ld (v := cL _) rfl (is_L _) ?_
      refine g_ld (v := cI _) rfl (is_I _) ?_
      refine g_lush fun i34 => ?_
      replace h := h i34
      refine g_const (v := cL (1)) rfl ?_
      refine g_land fun i35 => ?_
      replace h := h i35
      refine g_const (v := cL (0)) rfl ?_
      refine g_leq i35 ⟨by omega, by omega⟩ (fun b36 => ?_) (fun b36 => ?_)
      · replace h := h.1 b36
        unfold vX6_startedFace_203
        refine g_ld (v := cL _) rfl (is_L _) ?_
        refine g_const (v := cL (1)) rfl ?_
        refine g_ld (v := cI _) rfl (is_I _) ?_
        refine g_lshl fun i37 => ?_
        replace h := h i37
        refine g_lor fun i38 => ?_
        replace h := h i38
        refine g_stL (lv' := [_, _, _, _, _, _, _, _, _, _, _, _, _]) (Nat.le_of_ble_eq_true rfl) (Or.inr (n1_I _)) rfl ?_
        refine g_ld (v := rf _) rfl (is_R _) ?_
        refine g_getF (v := 952) oC6 (hC6_2) rfl (Nat.le_of_ble_eq_true rfl) (Nat.le_of_ble_eq_true rfl) ?_
        refine g_ld (v := cI _) rfl (is_I _) ?_
        refine g_const (v := cI (2)) rfl ?_
        refine g_add ?_
        refine g_ld (v := cI _) rfl (is_I _) ?_
        obtain ⟨q39, q40, h⟩ := h
        refine g_astI aC952 q39 q40 hs0 (nfI aC952) ?_
        replace h := h _ rfl
        refine g_ld (v := rf _) rfl (is_R _) ?_
        refine g_getF (v := 952) oC6 (hC6_2) rfl (Nat.le_of_ble_eq_true rfl) (Nat.le_of_ble_eq_true rfl) ?_
        refine g_ld (v := cI _) rfl (is_I _) ?_
        refine g_const (v := cI (3)) rfl ?_
        refine g_add ?_
        refine g_const (v := cI (0)) rfl ?_
        obtain ⟨q42, q43, h⟩ := h
        refine g_astI aC952 q42 q43 ⟨by omega, by omega⟩ (nfI aC952) ?_
        replace h := h _ rfl
        refine g_inc (lv' := [_, _, _, _, _, _, _, _, _, _, _, _, _]) rfl (Nat.le_of_ble_eq_true rfl) (Or.inr (n1_I _)) rfl ?_
        obtain ⟨q45, h⟩ := h
        exact TX6_startedFace_234 hl1 hl2 i38 (show 7 % 8 ≠ 1 by decide) hl5 q45 hl7 hl8 hl9 hl10 hl11 hs0 hj0 h
      · replace h := h.2 b36
        exact TX6_startedFace_234 hl1 hl2 hl3 hl4 hl5 hl6 hl7 hl8 hl9 hl10 hl11 hs0 hj0 h
  · replace h := h.2 b32
    unfold vX6_startedFace_144
    refine g_inc (lv' := [_, _, _, _, _, _, _, _, _, _, _, _, _]) rfl (Nat.le_of_ble_eq_true rfl) (Or.inr (n1_I _)) rfl ?_
    obtain ⟨q46, h⟩ := h
    refine g_ld (v := cI _) rfl (is_I _) ?_
    refine g_ld (v := cI _) rfl (is_I _) ?_
    refine g_ld (v := cI _) rfl (is_I _) ?_
    refine g_eq2 hl10 hl1 (fun b47 => ?_) (fun b47 => ?_)
    · replace h := h.1 b47
      exact TX6_startedFace_175 hl1 hl2 hl3 hl4 hl5 q46 hl7 hl8 hl9 hl10 hl11 hs0 hl5 hj0 h
    · replace h := h.2 b47
      unfold vX6_startedFace_155
      refine g_ld (v := rf _) rfl (is_R _) ?_
      refine g_getR (kz := 0) (c := 11) oC6 rfl (Nat.le_of_ble_eq_true rfl) rfl (by decide) fun i48 => ?_
      replace h := h i48
      obtain ⟨q49, h⟩ := h
      refine g_getF q49 (ff11_1 q49).1 rfl (Nat.le_of_ble_eq_true rfl) (Nat.le_of_ble_eq_true rfl) ?_
      refine g_ld (v := cI _) rfl (is_I _) ?_
      obtain ⟨q50, q51, h⟩ := h
      refine g_aldRF (c := 10) (ff11_1 q49).2 q50 q51 rfl (by decide) fun i52 => ?_
      replace h := h i52
      obtain ⟨q53, h⟩ := h
      refine g_callV (As := []) (ci := 10) q53 (fun _ => rfl) ?_
      refine g_go1 (by simp only [cs_c, cs_0, ct_I, ct_L, ct_R]; exact Nat.le_of_ble_eq_true rfl) (Tn_w (TX10_hasRunning  h) fun _ G54 ⟨r55, e, i56, h⟩ => ?_)
      subst e
      refine ⟨n7_I _, ?_⟩
      replace h := h i56
      refine g_eq1 ⟨by omega, by omega⟩ (fun b57 => ?_) (fun b57 => ?_)
      · replace h := h.1 b57
        exact TX6_startedFace_175 hl1 hl2 hl3 hl4 hl5 q46 hl7 hl8 hl9 hl10 hl11 hs0 hl5 hj0 h
      · replace h := h.2 b57
        unfold vX6_startedFace_171
        refine g_const (v := cI (1)) rfl ?_
        exact TX6_startedFace_176 hl1 hl2 hl3 hl4 hl5 q46 hl7 hl8 hl9 hl10 hl11 hs0 hl5 ⟨by omega, by omega⟩ hj0 h
def PX6_startedFace_54 (J : Nat → List Int → gS → (Int → gS → Prop) → Prop) (l1 : Int) (l2 : Int) (l3 : Int) (l5 : Int) (l6 : Int) (l7 : Int) (l8 : Int) (G : gS) (Q : Int → gS → Prop) : Prop :=
  ((l8 < 100000000 → ((0 < l6 → (inI (l7 + (2 * (l6 - 1))) ∧ ((0 : Int) ≤ l7 + (2 * (l6 - 1)) ∧ ((l7 + (2 * (l6 - 1)) : Int) < 24000 ∧ (inI (G 952 (l7 + (2 * (l6 - 1)))) → ((0 : Int) ≤ (l7 + (2 * (l6 - 1))) + 1 ∧ (((l7 + (2 * (l6 - 1))) + 1 : Int) < 24000 ∧ (inI (G 952 ((l7 + (2 * (l6 - 1))) + 1)) → ((0 : Int) ≤ (l7 + (2 * (l6 - 1))) + 1 ∧ (((l7 + (2 * (l6 - 1))) + 1 : Int) < 24000 ∧ (inI (G 952 ((l7 + (2 * (l6 - 1))) + 1)) → ((0 : Int) ≤ (l7 + (2 * (l6 - 1))) + 1 ∧ (((l7 + (2 * (l6 - 1))) + 1 : Int) < 24000 ∧ (inI ((G 952 ((l7 + (2 * (l6 - 1))) + 1)) + 1) ∧ (∀ G25 : gS, G25 = uG G 952 ((l7 + (2 * (l6 - 1))) + 1) ((G 952 ((l7 + (2 * (l6 - 1))) + 1)) + 1) → ((G 952 ((l7 + (2 * (l6 - 1))) + 1) < 4 → ((G25 938 0 = -1 ∨ isO W0 11 (G25 938 0)) → (isO W0 11 (G25 938 0) ∧ ((0 : Int) ≤ ((G 952 (l7 + (2 * (l6 - 1)))) * 4) + (G 952 ((l7 + (2 * (l6 - 1))) + 1)) ∧ ((((G 952 (l7 + (2 * (l6 - 1)))) * 4) + (G 952 ((l7 + (2 * (l6 - 1))) + 1)) : Int) < 256 ∧ (inI (G25 ((G25 938 0) + 4) (((G 952 (l7 + (2 * (l6 - 1)))) * 4) + (G 952 ((l7 + (2 * (l6 - 1))) + 1)))) → PX6_startedFace_136 J l1 l2 l3 l5 l6 l7 l8 (l7 + (2 * (l6 - 1))) (G 952 (l7 + (2 * (l6 - 1)))) (G 952 ((l7 + (2 * (l6 - 1))) + 1)) (G25 ((G25 938 0) + 4) (((G 952 (l7 + (2 * (l6 - 1)))) * 4) + (G 952 ((l7 + (2 * (l6 - 1))) + 1)))) G25 Q)))))) ∧ (¬ (G 952 ((l7 + (2 * (l6 - 1))) + 1) < 4) → PX6_startedFace_136 J l1 l2 l3 l5 l6 l7 l8 (l7 + (2 * (l6 - 1))) (G 952 (l7 + (2 * (l6 - 1)))) (G 952 ((l7 + (2 * (l6 - 1))) + 1)) (-2) G25 Q))))))))))))))))) ∧ (¬ (0 < l6) → PX6_startedFace_240 J l1 l2 l3 l5 l6 l7 l8 G Q))) ∧ (¬ (l8 < 100000000) → PX6_startedFace_240 J l1 l2 l3 l5 l6 l7 l8 G Q))
set_option maxRecDepth 20000 in
theorem TX6_startedFace_54 {j : Nat → rx_K} {J : Nat → List Int → gS → (Int → gS → Prop) → Prop} {l1 : Int} {l2 : Int} {l3 : Int} {l4 : Nat} {l5 : Int} {l6 : Int} {l7 : Int} {l8 : Int} {l9 : Nat} {l10 : Nat} {l11 : Nat} {l12 : Nat} {G : gS} {Q : Int → gS → Prop} (hl1 : inI l1) (hl2 : inI l2) (hl3 : inL l3) (hl4 : l4 % 8 ≠ 1) (hl5 : inI l5) (hl6 : inI l6) (hl7 : inI l7) (hl8 : inI l8) (hl9 : l9 % 8 ≠ 1) (hl10 : l10 % 8 ≠ 1) (hl11 : l11 % 8 ≠ 1) (hl12 : l12 % 8 ≠ 1) (hj0 : ∀ (l1 : Int) (l2 : Int) (l3 : Int) (l4 : Nat) (l5 : Int) (l6 : Int) (l7 : Int) (l8 : Int) (l9 : Nat) (l10 : Nat) (l11 : Nat) (l12 : Nat) (G : gS), (inI l1) → (inI l2) → (inL l3) → (l4 % 8 ≠ 1) → (inI l5) → (inI l6) → (inI l7) → (inI l8) → (l9 % 8 ≠ 1) → (l10 % 8 ≠ 1) → (l11 % 8 ≠ 1) → (l12 % 8 ≠ 1) → J 0 [l1, l2, l3, l5, l6, l7, l8] G Q → Tg W0 (j 0) [rf (938), cI (l1), cI (l2), cL (l3), l4, cI (l5), cI (l6), cI (l7), cI (l8), l9, l10, l11, l12] [] G (fun r G => ∃ v, r = cI v ∧ inI v ∧ Q v G)) (h : PX6_startedFace_54 J l1 l2 l3 l5 l6 l7 l8 G Q) : Tg W0 (vX6_startedFace_54 j) [rf (938), cI (l1), cI (l2), cL (l3), l4, cI (l5), cI (l6), cI (l7), cI (l8), l9, l10, l11, l12] [] G (fun r G => ∃ v, r = cI v ∧ inI v ∧ Q v G) := by
  unfold PX6_startedFace_54 at h
  unfold vX6_startedFace_54
  refine g_ld (v := cI _) rfl (is_I _) ?_
  refine g_const (v := cI (100000000)) rfl ?_
  refine g_lt2 hl8 ⟨by omega, by omega⟩ (fun b10 => ?_) (fun b10 => ?_)
  · replace h := h.1 b10
    unfold vX6_startedFace_61
    refine g_ld (v := cI _) rfl (is_I _) ?_
    refine g_gt1 hl6 (fun b11 => ?_) (fun b11 => ?_)
    · replace h := h.1 b11
      unfold vX6_startedFace_66
      refine g_ld (v := cI _) rfl (is_I _) ?_
      refine g_const (v := cI (2)) rfl ?_
      refine g_ld (v := cI _) rfl (is_I _) ?_
      refine g_const (v := cI (1)) rfl ?_
      refine g_sub ?_
      refine g_mul ?_
      refine g_add ?_
      refine g_st (lv' := [_, _, _, _, _, _, _, _, _, _, _, _, _]) (is_I _) (Nat.le_of_ble_eq_true rfl) (Or.inr (n1_I _)) rfl ?_
      obtain ⟨q12, h⟩ := h
      refine g_ld (v := rf _) rfl (is_R _) ?_
      refine g_getF (v := 952) oC6 (hC6_2) rfl (Nat.le_of_ble_eq_true rfl) (Nat.le_of_ble_eq_true rfl) ?_
      refine g_ld (v := cI _) rfl (is_I _) ?_
      obtain ⟨q13, q14, h⟩ := h
      refine g_aldI aC952 q13 q14 rfl fun i15 => ?_
      replace h := h i15
      refine g_st (lv' := [_, _, _, _, _, _, _, _, _, _, _, _, _]) (is_I _) (Nat.le_of_ble_eq_true rfl) (Or.inr (n1_I _)) rfl ?_
      refine g_ld (v := rf _) rfl (is_R _) ?_
      refine g_getF (v := 952) oC6 (hC6_2) rfl (Nat.le_of_ble_eq_true rfl) (Nat.le_of_ble_eq_true rfl) ?_
      refine g_ld (v := cI _) rfl (is_I _) ?_
      refine g_const (v := cI (1)) rfl ?_
      refine g_add ?_
      obtain ⟨q16, q17, h⟩ := h
      refine g_aldI aC952 q16 q17 rfl fun i18 => ?_
      replace h := h i18
      refine g_st (lv' := [_, _, _, _, _, _, _, _, _, _, _, _, _]) (is_I _) (Nat.le_of_ble_eq_true rfl) (Or.inr (n1_I _)) rfl ?_
      refine g_ld (v := rf _) rfl (is_R _) ?_
      refine g_getF (v := 952) oC6 (hC6_2) rfl (Nat.le_of_ble_eq_true rfl) (Nat.le_of_ble_eq_true rfl) ?_
      refine g_ld (v := cI _) rfl (is_I _) ?_
      refine g_const (v := cI (1)) rfl ?_
      unfold vX6_startedFace_104
      refine g_add ?_
      refine g_dup2 (ct_I _) (ct_R _) ?_
      obtain ⟨q19, q20, h⟩ := h
      refine g_aldI aC952 q19 q20 rfl fun i21 => ?_
      replace h := h i21
      refine g_const (v := cI (1)) rfl ?_
      refine g_add ?_
      obtain ⟨q22, q23, h⟩ := h
      obtain ⟨q24, h⟩ := h
      refine g_astI aC952 q22 q23 q24 (nfI aC952) ?_
      replace h := h _ rfl
      refine g_ld (v := cI _) rfl (is_I _) ?_
      refine g_const (v := cI (4)) rfl ?_
      refine g_lt2 i18 ⟨by omega, by omega⟩ (fun b26 => ?_) (fun b26 => ?_)
      · replace h := h.1 b26
        unfold vX6_startedFace_116
        refine g_ld (v := rf _) rfl (is_R _) ?_
        refine g_getR (kz := 0) (c := 11) oC6 rfl (Nat.le_of_ble_eq_true rfl) rfl (by decide) fun i27 => ?_
        replace h := h i27
        obtain ⟨q28, h⟩ := h
        refine g_getF q28 (ff11_5 q28).1 rfl (Nat.le_of_ble_eq_true rfl) (Nat.le_of_ble_eq_true rfl) ?_
        refine g_ld (v := cI _) rfl (is_I _) ?_
        refine g_const (v := cI (4)) rfl ?_
        refine g_mul ?_
        refine g_ld (v := cI _) rfl (is_I _) ?_
        refine g_add ?_
        obtain ⟨q29, q30, h⟩ := h
        refine g_aldI (ff11_5 q28).2 q29 q30 rfl fun i31 => ?_
        replace h := h i31
        exact TX6_startedFace_136 hl1 hl2 hl3 hl4 hl5 hl6 hl7 hl8 q12 i15 i18 hl12 i31 hj0 h
      · replace h := h.2 b26
        unfold vX6_startedFace_134
        refine g_const (v := cI (-2)) rfl ?_
        exact TX6_startedFace_136 hl1 hl2 hl3 hl4 hl5 hl6 hl7 hl8 q12 i15 i18 hl12 ⟨by omega, by omega⟩ hj0 h
    · replace h := h.2 b11
      exact TX6_startedFace_240 hl1 hl2 hl3 hl4 hl5 hl6 hl7 hl8 hl9 hl10 hl11 hl12 hj0 h
  · replace h := h.2 b10
    exact TX6_startedFace_240 hl1 hl2 hl3 hl4 hl5 hl6 hl7 hl8 hl9 hl10 hl11 hl12 hj0 h
def PX6_startedFace_0 (J : Nat → List Int → gS → (Int → gS → Prop) → Prop) (a1 : Int) (a2 : Int) (G : gS) (Q : Int → gS → Prop) : Prop :=
  (inI (G 938 3) → (inI (((G 938 3) + 128) + 2) ∧ ((24000 < ((G 938 3) + 128) + 2 → Q (-2) G) ∧ (¬ (24000 < ((G 938 3) + 128) + 2) → ((0 : Int) ≤ G 938 3 ∧ ((G 938 3 : Int) < 24000 ∧ (∀ G6 : gS, G6 = uG G 952 (G 938 3) (a1) → ((0 : Int) ≤ (G 938 3) + 1 ∧ (((G 938 3) + 1 : Int) < 24000 ∧ (∀ G9 : gS, G9 = uG G6 952 ((G 938 3) + 1) (0) → PX6_startedFace_54 J a1 a2 0 a2 1 (G 938 3) 0 G9 Q))))))))))
set_option maxRecDepth 20000 in
theorem TX6_startedFace_0 {j : Nat → rx_K} {J : Nat → List Int → gS → (Int → gS → Prop) → Prop} {a1 : Int} {a2 : Int} {G : gS} {Q : Int → gS → Prop} (ha1 : inI a1) (ha2 : inI a2) (hj0 : ∀ (l1 : Int) (l2 : Int) (l3 : Int) (l4 : Nat) (l5 : Int) (l6 : Int) (l7 : Int) (l8 : Int) (l9 : Nat) (l10 : Nat) (l11 : Nat) (l12 : Nat) (G : gS), (inI l1) → (inI l2) → (inL l3) → (l4 % 8 ≠ 1) → (inI l5) → (inI l6) → (inI l7) → (inI l8) → (l9 % 8 ≠ 1) → (l10 % 8 ≠ 1) → (l11 % 8 ≠ 1) → (l12 % 8 ≠ 1) → J 0 [l1, l2, l3, l5, l6, l7, l8] G Q → Tg W0 (j 0) [rf (938), cI (l1), cI (l2), cL (l3), l4, cI (l5), cI (l6), cI (l7), cI (l8), l9, l10, l11, l12] [] G (fun r G => ∃ v, r = cI v ∧ inI v ∧ Q v G)) (h : PX6_startedFace_0 J a1 a2 G Q) : Tg W0 (vX6_startedFace_0 j) [rf (938), cI (a1), cI (a2), 7, 7, 7, 7, 7, 7, 7, 7, 7, 7] [] G (fun r G => ∃ v, r = cI v ∧ inI v ∧ Q v G) := by
  unfold PX6_startedFace_0 at h
  unfold vX6_startedFace_0
  refine g_const (v := cL (0)) rfl ?_
  refine g_stL (lv' := [_, _, _, _, _, _, _, _, _, _, _, _, _]) (Nat.le_of_ble_eq_true rfl) (Or.inr (n1_I _)) rfl ?_
  refine g_ld (v := cI _) rfl (is_I _) ?_
  refine g_st (lv' := [_, _, _, _, _, _, _, _, _, _, _, _, _]) (is_I _) (Nat.le_of_ble_eq_true rfl) (Or.inr (show 7 % 8 ≠ 1 by decide)) rfl ?_
  refine g_const (v := cI (1)) rfl ?_
  refine g_st (lv' := [_, _, _, _, _, _, _, _, _, _, _, _, _]) (is_I _) (Nat.le_of_ble_eq_true rfl) (Or.inr (n1_I _)) rfl ?_
  refine g_ld (v := rf _) rfl (is_R _) ?_
  refine g_getI (kz := 3) oC6 rfl (Nat.le_of_ble_eq_true rfl) rfl fun i1 => ?_
  replace h := h i1
  refine g_st (lv' := [_, _, _, _, _, _, _, _, _, _, _, _, _]) (is_I _) (Nat.le_of_ble_eq_true rfl) (Or.inr (n1_I _)) rfl ?_
  refine g_ld (v := cI _) rfl (is_I _) ?_
  refine g_const (v := cI (128)) rfl ?_
  refine g_add ?_
  refine g_const (v := cI (2)) rfl ?_
  refine g_add ?_
  refine g_ld (v := rf _) rfl (is_R _) ?_
  refine g_getF (v := 952) oC6 (hC6_2) rfl (Nat.le_of_ble_eq_true rfl) (Nat.le_of_ble_eq_true rfl) ?_
  refine g_alen aC952 ?_
  obtain ⟨q2, h⟩ := h
  refine g_gt2 q2 ⟨by omega, by omega⟩ (fun b3 => ?_) (fun b3 => ?_)
  · replace h := h.1 b3
    unfold vX6_startedFace_30
    refine g_const (v := cI (-2)) rfl ?_
    exact g_ret1 (is_I _) ⟨_, rfl, ⟨by omega, by omega⟩, h⟩
  · replace h := h.2 b3
    unfold vX6_startedFace_33
    refine g_ld (v := rf _) rfl (is_R _) ?_
    refine g_getF (v := 952) oC6 (hC6_2) rfl (Nat.le_of_ble_eq_true rfl) (Nat.le_of_ble_eq_true rfl) ?_
    refine g_ld (v := cI _) rfl (is_I _) ?_
    refine g_ld (v := cI _) rfl (is_I _) ?_
    obtain ⟨q4, q5, h⟩ := h
    refine g_astI aC952 q4 q5 ha1 (nfI aC952) ?_
    replace h := h _ rfl
    refine g_ld (v := rf _) rfl (is_R _) ?_
    refine g_getF (v := 952) oC6 (hC6_2) rfl (Nat.le_of_ble_eq_true rfl) (Nat.le_of_ble_eq_true rfl) ?_
    refine g_ld (v := cI _) rfl (is_I _) ?_
    refine g_const (v := cI (1)) rfl ?_
    refine g_add ?_
    refine g_const (v := cI (0)) rfl ?_
    obtain ⟨q7, q8, h⟩ := h
    refine g_astI aC952 q7 q8 ⟨by omega, by omega⟩ (nfI aC952) ?_
    replace h := h _ rfl
    refine g_const (v := cI (0)) rfl ?_
    refine g_st (lv' := [_, _, _, _, _, _, _, _, _, _, _, _, _]) (is_I _) (Nat.le_of_ble_eq_true rfl) (Or.inr (n1_I _)) rfl ?_
    exact TX6_startedFace_54 ha1 ha2 ⟨by omega, by omega⟩ (show 7 % 8 ≠ 1 by decide) ha2 ⟨by omega, by omega⟩ i1 ⟨by omega, by omega⟩ (show 7 % 8 ≠ 1 by decide) (show 7 % 8 ≠ 1 by decide) (show 7 % 8 ≠ 1 by decide) (show 7 % 8 ≠ 1 by decide) hj0 h
def PX6_startedFace_J : Nat → Nat → List Int → gS → (Int → gS → Prop) → Prop
  | 0, _, _, _, _ => False
  | f + 1, h, L, G, Q => match h, L with
    | 0, [l1, l2, l3, l5, l6, l7, l8] => PX6_startedFace_54 (PX6_startedFace_J f) l1 l2 l3 l5 l6 l7 l8 G Q
    | _, _ => False
theorem TX6_startedFace_J {Q : Int → gS → Prop} : ∀ f N : Nat, f ≤ N → (∀ (l1 : Int) (l2 : Int) (l3 : Int) (l4 : Nat) (l5 : Int) (l6 : Int) (l7 : Int) (l8 : Int) (l9 : Nat) (l10 : Nat) (l11 : Nat) (l12 : Nat) (G : gS), (inI l1) → (inI l2) → (inL l3) → (l4 % 8 ≠ 1) → (inI l5) → (inI l6) → (inI l7) → (inI l8) → (l9 % 8 ≠ 1) → (l10 % 8 ≠ 1) → (l11 % 8 ≠ 1) → (l12 % 8 ≠ 1) → (PX6_startedFace_J f) 0 [l1, l2, l3, l5, l6, l7, l8] G Q → Tg W0 (rx_J vhX6_startedFace N 0) [rf (938), cI (l1), cI (l2), cL (l3), l4, cI (l5), cI (l6), cI (l7), cI (l8), l9, l10, l11, l12] [] G (fun r G => ∃ v, r = cI v ∧ inI v ∧ Q v G)) := by
  intro f
  induction f with
  | zero => exact fun N _ => fun _ _ _ _ _ _ _ _ _ _ _ _ _ _ _ _ _ _ _ _ _ _ _ _ _ h => h.elim
  | succ f ih =>
    intro N hN
    obtain ⟨M, rfl⟩ : ∃ M, N = M + 1 := ⟨N - 1, by omega⟩
    have ih := ih M (by omega)
    exact fun _ _ _ _ _ _ _ _ _ _ _ _ _ hl1 hl2 hl3 hl4 hl5 hl6 hl7 hl8 hl9 hl10 hl11 hl12 h => show Tg W0 (vX6_startedFace_54 (rx_J vhX6_startedFace M)) _ _ _ _ from TX6_startedFace_54 hl1 hl2 hl3 hl4 hl5 hl6 hl7 hl8 hl9 hl10 hl11 hl12 ih h
def PX6_startedFace (a1 : Int) (a2 : Int) (G : gS) (Q : Int → gS → Prop) : Prop := ∃ f : Nat, f ≤ 4000000000 ∧ PX6_startedFace_0 (PX6_startedFace_J f) a1 a2 G Q
theorem TX6_startedFace {a1 : Int} {a2 : Int} {G : gS} {Q : Int → gS → Prop} (ha1 : inI a1) (ha2 : inI a2) (h : PX6_startedFace a1 a2 G Q) : Tn W0 FX6_startedFace [rf (938), cI (a1), cI (a2)] G (fun r G => ∃ v, r = cI v ∧ inI v ∧ Q v G) := by
  obtain ⟨f, hf, h⟩ := h
  have hJ := TX6_startedFace_J (Q := Q) f 4000000000 hf
  unfold FX6_startedFace
  refine g_ent (lv' := [rf (938), cI (a1), cI (a2), 7, 7, 7, 7, 7, 7, 7, 7, 7, 7]) (flR (flI (flI fl0))) (Nat.le_of_ble_eq_true rfl) rfl ?_
  exact TX6_startedFace_0 ha1 ha2 hJ h
def PX6_nextStart_145 (J : Nat → List Int → gS → (Int → gS → Prop) → Prop) (l1 : Int) (l2 : Int) (l3 : Int) (l4 : Int) (l5 : Int) (l6 : Int) (l7 : Int) (G : gS) (Q : Int → gS → Prop) : Prop :=
  (inI (l6 + 1) ∧ J 0 [l1, l2, l3, l4, l5, l6 + 1] G Q)
set_option maxRecDepth 20000 in
theorem TX6_nextStart_145 {j : Nat → rx_K} {J : Nat → List Int → gS → (Int → gS → Prop) → Prop} {l1 : Int} {l2 : Int} {l3 : Int} {l4 : Int} {l5 : Int} {l6 : Int} {l7 : Int} {G : gS} {Q : Int → gS → Prop} (hl2 : inI l2) (hl3 : inI l3) (hl4 : inI l4) (hl6 : inI l6) (hj0 : ∀ (l1 : Int) (l2 : Int) (l3 : Int) (l4 : Int) (l5 : Int) (l6 : Int) (l7 : Nat) (G : gS), (inI l2) → (inI l3) → (inI l4) → (inI l6) → (l7 % 8 ≠ 1) → J 0 [l1, l2, l3, l4, l5, l6] G Q → Tg W0 (j 0) [rf (938), rf (l1), cI (l2), cI (l3), cI (l4), rf (l5), cI (l6), l7] [] G (fun r G => ∃ v, r = cI v ∧ inI v ∧ Q v G)) (h : PX6_nextStart_145 J l1 l2 l3 l4 l5 l6 l7 G Q) : Tg W0 (vX6_nextStart_145 j) [rf (938), rf (l1), cI (l2), cI (l3), cI (l4), rf (l5), cI (l6), rf (l7)] [] G (fun r G => ∃ v, r = cI v ∧ inI v ∧ Q v G) := by
  unfold PX6_nextStart_145 at h
  unfold vX6_nextStart_145
  refine g_inc (lv' := [_, _, _, _, _, _, _, _]) rfl (Nat.le_of_ble_eq_true rfl) (Or.inr (n1_R _)) rfl ?_
  obtain ⟨q66, h⟩ := h
  exact hj0 _ _ _ _ _ _ _ _ hl2 hl3 hl4 q66 (n1_R _) h
def PX6_nextStart_89 (J : Nat → List Int → gS → (Int → gS → Prop) → Prop) (l1 : Int) (l2 : Int) (l3 : Int) (l4 : Int) (l5 : Int) (l6 : Int) (G : gS) (Q : Int → gS → Prop) : Prop :=
  (isO W0 10 (l5) ∧ (inI (G l5 15) → ((l6 < G l5 15 → ((0 : Int) ≤ l6 ∧ ((l6 : Int) < 33 ∧ (((G (l5 + 4) l6 = -1 ∨ isO W0 7 (G (l5 + 4) l6)) ∧ ∀ v, W0.2 (l5 + 4) l6 = some v → G (l5 + 4) l6 = v) → (isO W0 7 (G (l5 + 4) l6) ∧ (inI (G (G (l5 + 4) l6) 0) → ((G (G (l5 + 4) l6) 0 = 0 → ((0 ≤ G (G (l5 + 4) l6) 15 ∧ G (G (l5 + 4) l6) 15 ≤ 1) → ((G (G (l5 + 4) l6) 15 = 0 → PX6_nextStart_145 J l1 l2 l3 l4 l5 l6 (G (l5 + 4) l6) G Q) ∧ (¬ (G (G (l5 + 4) l6) 15 = 0) → (inI (G (G (l5 + 4) l6) 17) → (inI (G (G (l5 + 4) l6) 16) → ((0 : Int) ≤ (l2 * 20) + (G (G (l5 + 4) l6) 17) ∧ (((l2 * 20) + (G (G (l5 + 4) l6) 17) : Int) < 1280 ∧ (∀ G65 : gS, G65 = uG G 983 ((l2 * 20) + (G (G (l5 + 4) l6) 17)) (G (G (l5 + 4) l6) 16) → PX6_nextStart_145 J l1 l2 l3 l4 l5 l6 (G (l5 + 4) l6) G65 Q))))))))) ∧ (¬ (G (G (l5 + 4) l6) 0 = 0) → PX6_nextStart_145 J l1 l2 l3 l4 l5 l6 (G (l5 + 4) l6) G Q)))))))) ∧ (¬ (l6 < G l5 15) → Q (-2) G))))
set_option maxRecDepth 20000 in
theorem TX6_nextStart_89 {j : Nat → rx_K} {J : Nat → List Int → gS → (Int → gS → Prop) → Prop} {l1 : Int} {l2 : Int} {l3 : Int} {l4 : Int} {l5 : Int} {l6 : Int} {l7 : Nat} {G : gS} {Q : Int → gS → Prop} (hl2 : inI l2) (hl3 : inI l3) (hl4 : inI l4) (hl6 : inI l6) (hl7 : l7 % 8 ≠ 1) (hj0 : ∀ (l1 : Int) (l2 : Int) (l3 : Int) (l4 : Int) (l5 : Int) (l6 : Int) (l7 : Nat) (G : gS), (inI l2) → (inI l3) → (inI l4) → (inI l6) → (l7 % 8 ≠ 1) → J 0 [l1, l2, l3, l4, l5, l6] G Q → Tg W0 (j 0) [rf (938), rf (l1), cI (l2), cI (l3), cI (l4), rf (l5), cI (l6), l7] [] G (fun r G => ∃ v, r = cI v ∧ inI v ∧ Q v G)) (h : PX6_nextStart_89 J l1 l2 l3 l4 l5 l6 G Q) : Tg W0 (vX6_nextStart_89 j) [rf (938), rf (l1), cI (l2), cI (l3), cI (l4), rf (l5), cI (l6), l7] [] G (fun r G => ∃ v, r = cI v ∧ inI v ∧ Q v G) := by
  unfold PX6_nextStart_89 at h
  unfold vX6_nextStart_89
  refine g_ld (v := cI _) rfl (is_I _) ?_
  refine g_ld (v := rf _) rfl (is_R _) ?_
  obtain ⟨q50, h⟩ := h
  refine g_getI (kz := 15) q50 rfl (Nat.le_of_ble_eq_true rfl) rfl fun i51 => ?_
  replace h := h i51
  refine g_lt2 hl6 i51 (fun b52 => ?_) (fun b52 => ?_)
  · replace h := h.1 b52
    unfold vX6_nextStart_99
    refine g_ld (v := rf _) rfl (is_R _) ?_
    refine g_getF q50 (ff10_14 q50).1 rfl (Nat.le_of_ble_eq_true rfl) (Nat.le_of_ble_eq_true rfl) ?_
    refine g_ld (v := cI _) rfl (is_I _) ?_
    obtain ⟨q53, q54, h⟩ := h
    refine g_aldRF (c := 7) (ff10_14 q50).2 q53 q54 rfl (by decide) fun i55 => ?_
    replace h := h i55
    refine g_st (lv' := [_, _, _, _, _, _, _, _]) (is_R _) (Nat.le_of_ble_eq_true rfl) (Or.inr (n1_I _)) rfl ?_
    refine g_ld (v := rf _) rfl (is_R _) ?_
    obtain ⟨q56, h⟩ := h
    refine g_getI (kz := 0) q56 rfl (Nat.le_of_ble_eq_true rfl) rfl fun i57 => ?_
    replace h := h i57
    refine g_eq1 i57 (fun b58 => ?_) (fun b58 => ?_)
    · replace h := h.1 b58
      unfold vX6_nextStart_117
      refine g_ld (v := rf _) rfl (is_R _) ?_
      refine g_getZ (kz := 15) q56 rfl (Nat.le_of_ble_eq_true rfl) rfl fun i59 => ?_
      replace h := h i59
      refine g_eq1 ⟨by omega, by omega⟩ (fun b60 => ?_) (fun b60 => ?_)
      · replace h := h.1 b60
        exact TX6_nextStart_145 hl2 hl3 hl4 hl6 hj0 h
      · replace h := h.2 b60
        unfold vX6_nextStart_125
        refine g_ld (v := rf _) rfl (is_R _) ?_
        refine g_getF (v := 983) oC6 (hC6_13) rfl (Nat.le_of_ble_eq_true rfl) (Nat.le_of_ble_eq_true rfl) ?_
        refine g_ld (v := cI _) rfl (is_I _) ?_
        refine g_const (v := cI (20)) rfl ?_
        refine g_mul ?_
        refine g_ld (v := rf _) rfl (is_R _) ?_
        refine g_getI (kz := 17) q56 rfl (Nat.le_of_ble_eq_true rfl) rfl fun i61 => ?_
        replace h := h i61
        refine g_add ?_
        refine g_ld (v := rf _) rfl (is_R _) ?_
        refine g_getI (kz := 16) q56 rfl (Nat.le_of_ble_eq_true rfl) rfl fun i62 => ?_
        replace h := h i62
        obtain ⟨q63, q64, h⟩ := h
        refine g_astI aC983 q63 q64 i62 (nfI aC983) ?_
        replace h := h _ rfl
        exact TX6_nextStart_145 hl2 hl3 hl4 hl6 hj0 h
    · replace h := h.2 b58
      exact TX6_nextStart_145 hl2 hl3 hl4 hl6 hj0 h
  · replace h := h.2 b52
    unfold vX6_nextStart_151
    refine g_const (v := cI (-2)) rfl ?_
    exact g_ret1 (is_I _) ⟨_, rfl, ⟨by omega, by omega⟩, h⟩
def PX6_nextStart_51 (J : Nat → List Int → gS → (Int → gS → Prop) → Prop) (l1 : Int) (l2 : Int) (l3 : Int) (s0 : Int) (G : gS) (Q : Int → gS → Prop) : Prop :=
  (∃ n28, isA W0 0 n28 (l1) ∧ ((0 : Int) ≤ 6 ∧ ((6 : Int) < n28 ∧ (inI (G l1 6) → (∃ n33, isA W0 0 n33 (l1) ∧ ((0 : Int) ≤ 6 ∧ ((6 : Int) < n33 ∧ (inI ((G l1 6) + 1) ∧ (∀ G38 : gS, G38 = uG G l1 6 ((G l1 6) + 1) → ((s0 < 0 → (∃ n40, isA W0 0 n40 (l1) ∧ ((0 : Int) ≤ 6 ∧ ((6 : Int) < n40 ∧ (∀ G44 : gS, G44 = uG G38 l1 6 (-2) → ((G44 938 0 = -1 ∨ isO W0 11 (G44 938 0)) → (isO W0 11 (G44 938 0) ∧ ((0 : Int) ≤ l2 ∧ ((l2 : Int) < 64 ∧ (((G44 ((G44 938 0) + 1) l2 = -1 ∨ isO W0 10 (G44 ((G44 938 0) + 1) l2)) ∧ ∀ v, W0.2 ((G44 938 0) + 1) l2 = some v → G44 ((G44 938 0) + 1) l2 = v) → PX6_nextStart_89 J l1 l2 l3 s0 (G44 ((G44 938 0) + 1) l2) 0 G44 Q)))))))))) ∧ (¬ (s0 < 0) → Q (s0) G38)))))))))))
set_option maxRecDepth 20000 in
theorem TX6_nextStart_51 {j : Nat → rx_K} {J : Nat → List Int → gS → (Int → gS → Prop) → Prop} {l1 : Int} {l2 : Int} {l3 : Int} {l4 : Nat} {l5 : Nat} {l6 : Nat} {l7 : Nat} {s0 : Int} {G : gS} {Q : Int → gS → Prop} (hl2 : inI l2) (hl3 : inI l3) (hl4 : l4 % 8 ≠ 1) (hl5 : l5 % 8 ≠ 1) (hl6 : l6 % 8 ≠ 1) (hl7 : l7 % 8 ≠ 1) (hs0 : inI s0) (hj0 : ∀ (l1 : Int) (l2 : Int) (l3 : Int) (l4 : Int) (l5 : Int) (l6 : Int) (l7 : Nat) (G : gS), (inI l2) → (inI l3) → (inI l4) → (inI l6) → (l7 % 8 ≠ 1) → J 0 [l1, l2, l3, l4, l5, l6] G Q → Tg W0 (j 0) [rf (938), rf (l1), cI (l2), cI (l3), cI (l4), rf (l5), cI (l6), l7] [] G (fun r G => ∃ v, r = cI v ∧ inI v ∧ Q v G)) (h : PX6_nextStart_51 J l1 l2 l3 s0 G Q) : Tg W0 (vX6_nextStart_51 j) [rf (938), rf (l1), cI (l2), cI (l3), l4, l5, l6, l7] [cI (s0)] G (fun r G => ∃ v, r = cI v ∧ inI v ∧ Q v G) := by
  unfold PX6_nextStart_51 at h
  unfold vX6_nextStart_51
  refine g_st (lv' := [_, _, _, _, _, _, _, _]) (is_I _) (Nat.le_of_ble_eq_true rfl) (Or.inr (n1_I _)) rfl ?_
  refine g_ld (v := rf _) rfl (is_R _) ?_
  refine g_const (v := cI (6)) rfl ?_
  refine g_dup2 (ct_I _) (ct_R _) ?_
  obtain ⟨n28, q29, h⟩ := h
  obtain ⟨q30, q31, h⟩ := h
  refine g_aldI q29 q30 q31 rfl fun i32 => ?_
  replace h := h i32
  refine g_const (v := cI (1)) rfl ?_
  refine g_add ?_
  obtain ⟨n33, q34, h⟩ := h
  obtain ⟨q35, q36, h⟩ := h
  obtain ⟨q37, h⟩ := h
  refine g_astI q34 q35 q36 q37 (nfI q34) ?_
  replace h := h _ rfl
  refine g_ld (v := cI _) rfl (is_I _) ?_
  refine g_lt1 hs0 (fun b39 => ?_) (fun b39 => ?_)
  · replace h := h.1 b39
    unfold vX6_nextStart_69
    refine g_ld (v := rf _) rfl (is_R _) ?_
    refine g_const (v := cI (6)) rfl ?_
    refine g_const (v := cI (-2)) rfl ?_
    obtain ⟨n40, q41, h⟩ := h
    obtain ⟨q42, q43, h⟩ := h
    refine g_astI q41 q42 q43 ⟨by omega, by omega⟩ (nfI q41) ?_
    replace h := h _ rfl
    refine g_ld (v := rf _) rfl (is_R _) ?_
    refine g_getR (kz := 0) (c := 11) oC6 rfl (Nat.le_of_ble_eq_true rfl) rfl (by decide) fun i45 => ?_
    replace h := h i45
    obtain ⟨q46, h⟩ := h
    refine g_getF q46 (ff11_1 q46).1 rfl (Nat.le_of_ble_eq_true rfl) (Nat.le_of_ble_eq_true rfl) ?_
    refine g_ld (v := cI _) rfl (is_I _) ?_
    obtain ⟨q47, q48, h⟩ := h
    refine g_aldRF (c := 10) (ff11_1 q46).2 q47 q48 rfl (by decide) fun i49 => ?_
    replace h := h i49
    refine g_st (lv' := [_, _, _, _, _, _, _, _]) (is_R _) (Nat.le_of_ble_eq_true rfl) (Or.inr (n1_I _)) rfl ?_
    refine g_const (v := cI (0)) rfl ?_
    refine g_st (lv' := [_, _, _, _, _, _, _, _]) (is_I _) (Nat.le_of_ble_eq_true rfl) (Or.inr (n1_R _)) rfl ?_
    exact TX6_nextStart_89 hl2 hl3 hs0 ⟨by omega, by omega⟩ hl7 hj0 h
  · replace h := h.2 b39
    unfold vX6_nextStart_66
    refine g_ld (v := cI _) rfl (is_I _) ?_
    exact g_ret1 (is_I _) ⟨_, rfl, hs0, h⟩
def PX6_nextStart_0 (J : Nat → List Int → gS → (Int → gS → Prop) → Prop) (a1 : Int) (G : gS) (Q : Int → gS → Prop) : Prop :=
  (∃ n1, isA W0 0 n1 (a1) ∧ ((0 : Int) ≤ 0 ∧ ((0 : Int) < n1 ∧ (inI (G a1 0) → (∃ n6, isA W0 0 n6 (a1) ∧ ((0 : Int) ≤ 6 ∧ ((6 : Int) < n6 ∧ (inI (G a1 6) → ((G 938 0 = -1 ∨ isO W0 11 (G 938 0)) → (isO W0 11 (G 938 0) ∧ ((0 : Int) ≤ G a1 0 ∧ ((G a1 0 : Int) < 64 ∧ (((G ((G 938 0) + 1) (G a1 0) = -1 ∨ isO W0 10 (G ((G 938 0) + 1) (G a1 0))) ∧ ∀ v, W0.2 ((G 938 0) + 1) (G a1 0) = some v → G ((G 938 0) + 1) (G a1 0) = v) → (isO W0 10 (G ((G 938 0) + 1) (G a1 0)) ∧ ((0 ≤ G (G ((G 938 0) + 1) (G a1 0)) 4 ∧ G (G ((G 938 0) + 1) (G a1 0)) 4 ≤ 1) → ((G (G ((G 938 0) + 1) (G a1 0)) 4 = 0 → ((G a1 6 = 0 → ((G 938 0 = -1 ∨ isO W0 11 (G 938 0)) → (isO W0 11 (G 938 0) ∧ ((0 : Int) ≤ G a1 0 ∧ ((G a1 0 : Int) < 64 ∧ (inI (G ((G 938 0) + 2) (G a1 0)) → PX6_nextStart_51 J a1 (G a1 0) (G a1 6) (G ((G 938 0) + 2) (G a1 0)) G Q)))))) ∧ (¬ (G a1 6 = 0) → PX6_startedFace (G a1 0) (G a1 6) G (fun r26 G25 => inI r26 → PX6_nextStart_51 J a1 (G a1 0) (G a1 6) r26 G25 Q)))) ∧ (¬ (G (G ((G 938 0) + 1) (G a1 0)) 4 = 0) → PX6_nextStart_51 J a1 (G a1 0) (G a1 6) (-2) G Q)))))))))))))))))
set_option maxRecDepth 20000 in
theorem TX6_nextStart_0 {j : Nat → rx_K} {J : Nat → List Int → gS → (Int → gS → Prop) → Prop} {a1 : Int} {G : gS} {Q : Int → gS → Prop}  (hj0 : ∀ (l1 : Int) (l2 : Int) (l3 : Int) (l4 : Int) (l5 : Int) (l6 : Int) (l7 : Nat) (G : gS), (inI l2) → (inI l3) → (inI l4) → (inI l6) → (l7 % 8 ≠ 1) → J 0 [l1, l2, l3, l4, l5, l6] G Q → Tg W0 (j 0) [rf (938), rf (l1), cI (l2), cI (l3), cI (l4), rf (l5), cI (l6), l7] [] G (fun r G => ∃ v, r = cI v ∧ inI v ∧ Q v G)) (h : PX6_nextStart_0 J a1 G Q) : Tg W0 (vX6_nextStart_0 j) [rf (938), rf (a1), 7, 7, 7, 7, 7, 7] [] G (fun r G => ∃ v, r = cI v ∧ inI v ∧ Q v G) := by
  unfold PX6_nextStart_0 at h
  unfold vX6_nextStart_0
  refine g_ld (v := rf _) rfl (is_R _) ?_
  refine g_const (v := cI (0)) rfl ?_
  obtain ⟨n1, q2, h⟩ := h
  obtain ⟨q3, q4, h⟩ := h
  refine g_aldI q2 q3 q4 rfl fun i5 => ?_
  replace h := h i5
  refine g_st (lv' := [_, _, _, _, _, _, _, _]) (is_I _) (Nat.le_of_ble_eq_true rfl) (Or.inr (n1_R _)) rfl ?_
  refine g_ld (v := rf _) rfl (is_R _) ?_
  refine g_const (v := cI (6)) rfl ?_
  obtain ⟨n6, q7, h⟩ := h
  obtain ⟨q8, q9, h⟩ := h
  refine g_aldI q7 q8 q9 rfl fun i10 => ?_
  replace h := h i10
  refine g_st (lv' := [_, _, _, _, _, _, _, _]) (is_I _) (Nat.le_of_ble_eq_true rfl) (Or.inr (n1_I _)) rfl ?_
  refine g_ld (v := rf _) rfl (is_R _) ?_
  refine g_getR (kz := 0) (c := 11) oC6 rfl (Nat.le_of_ble_eq_true rfl) rfl (by decide) fun i11 => ?_
  replace h := h i11
  obtain ⟨q12, h⟩ := h
  refine g_getF q12 (ff11_1 q12).1 rfl (Nat.le_of_ble_eq_true rfl) (Nat.le_of_ble_eq_true rfl) ?_
  refine g_ld (v := cI _) rfl (is_I _) ?_
  obtain ⟨q13, q14, h⟩ := h
  refine g_aldRF (c := 10) (ff11_1 q12).2 q13 q14 rfl (by decide) fun i15 => ?_
  replace h := h i15
  obtain ⟨q16, h⟩ := h
  refine g_getZ (kz := 4) q16 rfl (Nat.le_of_ble_eq_true rfl) rfl fun i17 => ?_
  replace h := h i17
  refine g_eq1 ⟨by omega, by omega⟩ (fun b18 => ?_) (fun b18 => ?_)
  · replace h := h.1 b18
    unfold vX6_nextStart_29
    refine g_ld (v := cI _) rfl (is_I _) ?_
    refine g_eq1 i10 (fun b19 => ?_) (fun b19 => ?_)
    · replace h := h.1 b19
      unfold vX6_nextStart_33
      refine g_ld (v := rf _) rfl (is_R _) ?_
      refine g_getR (kz := 0) (c := 11) oC6 rfl (Nat.le_of_ble_eq_true rfl) rfl (by decide) fun i20 => ?_
      replace h := h i20
      obtain ⟨q21, h⟩ := h
      refine g_getF q21 (ff11_3 q21).1 rfl (Nat.le_of_ble_eq_true rfl) (Nat.le_of_ble_eq_true rfl) ?_
      refine g_ld (v := cI _) rfl (is_I _) ?_
      obtain ⟨q22, q23, h⟩ := h
      refine g_aldI (ff11_3 q21).2 q22 q23 rfl fun i24 => ?_
      replace h := h i24
      exact TX6_nextStart_51 i5 i10 (show 7 % 8 ≠ 1 by decide) (show 7 % 8 ≠ 1 by decide) (show 7 % 8 ≠ 1 by decide) (show 7 % 8 ≠ 1 by decide) i24 hj0 h
    · replace h := h.2 b19
      unfold vX6_nextStart_45
      refine g_ld (v := rf _) rfl (is_R _) ?_
      refine g_ld (v := cI _) rfl (is_I _) ?_
      refine g_ld (v := cI _) rfl (is_I _) ?_
      refine g_callV (As := [_, _]) (ci := 6) oC6 (fun _ => rfl) ?_
      refine g_go1 (Nat.le_of_ble_eq_true rfl) (Tn_w (TX6_startedFace i5 i10 h) fun _ G25 ⟨r26, e, i27, h⟩ => ?_)
      subst e
      refine ⟨n7_I _, ?_⟩
      replace h := h i27
      exact TX6_nextStart_51 i5 i10 (show 7 % 8 ≠ 1 by decide) (show 7 % 8 ≠ 1 by decide) (show 7 % 8 ≠ 1 by decide) (show 7 % 8 ≠ 1 by decide) i27 hj0 h
  · replace h := h.2 b18
    unfold vX6_nextStart_24
    refine g_const (v := cI (-2)) rfl ?_
    exact TX6_nextStart_51 i5 i10 (show 7 % 8 ≠ 1 by decide) (show 7 % 8 ≠ 1 by decide) (show 7 % 8 ≠ 1 by decide) (show 7 % 8 ≠ 1 by decide) ⟨by omega, by omega⟩ hj0 h
def PX6_nextStart_J : Nat → Nat → List Int → gS → (Int → gS → Prop) → Prop
  | 0, _, _, _, _ => False
  | f + 1, h, L, G, Q => match h, L with
    | 0, [l1, l2, l3, l4, l5, l6] => PX6_nextStart_89 (PX6_nextStart_J f) l1 l2 l3 l4 l5 l6 G Q
    | _, _ => False
theorem TX6_nextStart_J {Q : Int → gS → Prop} : ∀ f N : Nat, f ≤ N → (∀ (l1 : Int) (l2 : Int) (l3 : Int) (l4 : Int) (l5 : Int) (l6 : Int) (l7 : Nat) (G : gS), (inI l2) → (inI l3) → (inI l4) → (inI l6) → (l7 % 8 ≠ 1) → (PX6_nextStart_J f) 0 [l1, l2, l3, l4, l5, l6] G Q → Tg W0 (rx_J vhX6_nextStart N 0) [rf (938), rf (l1), cI (l2), cI (l3), cI (l4), rf (l5), cI (l6), l7] [] G (fun r G => ∃ v, r = cI v ∧ inI v ∧ Q v G)) := by
  intro f
  induction f with
  | zero => exact fun N _ => fun _ _ _ _ _ _ _ _ _ _ _ _ _ h => h.elim
  | succ f ih =>
    intro N hN
    obtain ⟨M, rfl⟩ : ∃ M, N = M + 1 := ⟨N - 1, by omega⟩
    have ih := ih M (by omega)
    exact fun _ _ _ _ _ _ _ _ hl2 hl3 hl4 hl6 hl7 h => show Tg W0 (vX6_nextStart_89 (rx_J vhX6_nextStart M)) _ _ _ _ from TX6_nextStart_89 hl2 hl3 hl4 hl6 hl7 ih h
def PX6_nextStart (a1 : Int) (G : gS) (Q : Int → gS → Prop) : Prop := ∃ f : Nat, f ≤ 4000000000 ∧ PX6_nextStart_0 (PX6_nextStart_J f) a1 G Q
theorem TX6_nextStart {a1 : Int} {G : gS} {Q : Int → gS → Prop}  (h : PX6_nextStart a1 G Q) : Tn W0 FX6_nextStart [rf (938), rf (a1)] G (fun r G => ∃ v, r = cI v ∧ inI v ∧ Q v G) := by
  obtain ⟨f, hf, h⟩ := h
  have hJ := TX6_nextStart_J (Q := Q) f 4000000000 hf
  unfold FX6_nextStart
  refine g_ent (lv' := [rf (938), rf (a1), 7, 7, 7, 7, 7, 7]) (flR (flR fl0)) (Nat.le_of_ble_eq_true rfl) rfl ?_
  exact TX6_nextStart_0  hJ h
def PX6_reckon_65 (l0 : Int) (l1 : Int) (l2 : Int) (s0 : Int) (G : gS) (Q : Int → gS → Prop) : Prop :=
  Q (s0) G
set_option maxRecDepth 20000 in
theorem TX6_reckon_65 {l0 : Int} {l1 : Int} {l2 : Int} {s0 : Int} {G : gS} {Q : Int → gS → Prop} (hl0 : inI l0) (hl1 : inI l1) (hl2 : inI l2) (hs0 : inI s0) (h : PX6_reckon_65 l0 l1 l2 s0 G Q) : Tg W0 vX6_reckon_65 [cI (l0), cI (l1), cI (l2)] [cI (s0)] G (fun r G => ∃ v, r = cI v ∧ inI v ∧ Q v G) := by
  unfold PX6_reckon_65 at h
  unfold vX6_reckon_65
  exact g_ret1 (is_I _) ⟨_, rfl, hs0, h⟩
def PX6_reckon_54 (l0 : Int) (l1 : Int) (l2 : Int) (s0 : Int) (G : gS) (Q : Int → gS → Prop) : Prop :=
  Q (s0) G
set_option maxRecDepth 20000 in
theorem TX6_reckon_54 {l0 : Int} {l1 : Int} {l2 : Int} {s0 : Int} {G : gS} {Q : Int → gS → Prop} (hl0 : inI l0) (hl1 : inI l1) (hl2 : inI l2) (hs0 : inI s0) (h : PX6_reckon_54 l0 l1 l2 s0 G Q) : Tg W0 vX6_reckon_54 [cI (l0), cI (l1), cI (l2)] [cI (s0)] G (fun r G => ∃ v, r = cI v ∧ inI v ∧ Q v G) := by
  unfold PX6_reckon_54 at h
  unfold vX6_reckon_54
  exact g_ret1 (is_I _) ⟨_, rfl, hs0, h⟩
def PX6_reckon_0 (a0 : Int) (a1 : Int) (a2 : Int) (G : gS) (Q : Int → gS → Prop) : Prop :=
  ((a0 = 7 → (inI (a1 + a2) ∧ Q (a1 + a2) G)) ∧ (a0 = 8 → (inI (a1 - a2) ∧ Q (a1 - a2) G)) ∧ (a0 = 9 → (inI (a1 * a2) ∧ Q (a1 * a2) G)) ∧ (a0 = 10 → ((a1 < a2 → PX6_reckon_54 a0 a1 a2 1 G Q) ∧ (¬ (a1 < a2) → PX6_reckon_54 a0 a1 a2 0 G Q))) ∧ ((a0 < 7 ∨ 11 ≤ a0) → ((a1 = a2 → PX6_reckon_65 a0 a1 a2 1 G Q) ∧ (¬ (a1 = a2) → PX6_reckon_65 a0 a1 a2 0 G Q))))
set_option maxRecDepth 20000 in
theorem TX6_reckon_0 {a0 : Int} {a1 : Int} {a2 : Int} {G : gS} {Q : Int → gS → Prop} (ha0 : inI a0) (ha1 : inI a1) (ha2 : inI a2) (h : PX6_reckon_0 a0 a1 a2 G Q) : Tg W0 vX6_reckon_0 [cI (a0), cI (a1), cI (a2)] [] G (fun r G => ∃ v, r = cI v ∧ inI v ∧ Q v G) := by
  unfold PX6_reckon_0 at h
  unfold vX6_reckon_0
  refine g_ld (v := cI _) rfl (is_I _) ?_
  rcases (show a0 = 7 ∨ a0 = 8 ∨ a0 = 9 ∨ a0 = 10 ∨ (a0 < 7 ∨ 11 ≤ a0) by omega) with b1 | b1 | b1 | b1 | b1
  · replace h := h.1 b1
    refine g_swI (n := 0) b1 (by omega) ?_
    show Tg W0 (vX6_reckon_32) _ _ _ _
    unfold vX6_reckon_32
    refine g_ld (v := cI _) rfl (is_I _) ?_
    refine g_ld (v := cI _) rfl (is_I _) ?_
    refine g_add ?_
    obtain ⟨q2, h⟩ := h
    exact g_ret1 (is_I _) ⟨_, rfl, q2, h⟩
  · replace h := h.2.1 b1
    refine g_swI (n := 1) b1 (by omega) ?_
    show Tg W0 (vX6_reckon_36) _ _ _ _
    unfold vX6_reckon_36
    refine g_ld (v := cI _) rfl (is_I _) ?_
    refine g_ld (v := cI _) rfl (is_I _) ?_
    refine g_sub ?_
    obtain ⟨q3, h⟩ := h
    exact g_ret1 (is_I _) ⟨_, rfl, q3, h⟩
  · replace h := h.2.2.1 b1
    refine g_swI (n := 2) b1 (by omega) ?_
    show Tg W0 (vX6_reckon_40) _ _ _ _
    unfold vX6_reckon_40
    refine g_ld (v := cI _) rfl (is_I _) ?_
    refine g_ld (v := cI _) rfl (is_I _) ?_
    refine g_mul ?_
    obtain ⟨q4, h⟩ := h
    exact g_ret1 (is_I _) ⟨_, rfl, q4, h⟩
  · replace h := h.2.2.2.1 b1
    refine g_swI (n := 3) b1 (by omega) ?_
    show Tg W0 (vX6_reckon_44) _ _ _ _
    unfold vX6_reckon_44
    refine g_ld (v := cI _) rfl (is_I _) ?_
    refine g_ld (v := cI _) rfl (is_I _) ?_
    refine g_lt2 ha1 ha2 (fun b5 => ?_) (fun b5 => ?_)
    · replace h := h.1 b5
      unfold vX6_reckon_49
      refine g_const (v := cI (1)) rfl ?_
      exact TX6_reckon_54 ha0 ha1 ha2 ⟨by omega, by omega⟩ h
    · replace h := h.2 b5
      unfold vX6_reckon_53
      refine g_const (v := cI (0)) rfl ?_
      exact TX6_reckon_54 ha0 ha1 ha2 ⟨by omega, by omega⟩ h
  · replace h := h.2.2.2.2 b1
    refine g_swD (m := 4) ha0 rfl b1 (by omega) ?_
    show Tg W0 (vX6_reckon_55) _ _ _ _
    unfold vX6_reckon_55
    refine g_ld (v := cI _) rfl (is_I _) ?_
    refine g_ld (v := cI _) rfl (is_I _) ?_
    refine g_eq2 ha1 ha2 (fun b6 => ?_) (fun b6 => ?_)
    · replace h := h.1 b6
      unfold vX6_reckon_60
      refine g_const (v := cI (1)) rfl ?_
      exact TX6_reckon_65 ha0 ha1 ha2 ⟨by omega, by omega⟩ h
    · replace h := h.2 b6
      unfold vX6_reckon_64
      refine g_const (v := cI (0)) rfl ?_
      exact TX6_reckon_65 ha0 ha1 ha2 ⟨by omega, by omega⟩ h
abbrev PX6_reckon (a0 : Int) (a1 : Int) (a2 : Int) (G : gS) (Q : Int → gS → Prop) : Prop := PX6_reckon_0 a0 a1 a2 G Q
theorem TX6_reckon {a0 : Int} {a1 : Int} {a2 : Int} {G : gS} {Q : Int → gS → Prop} (ha0 : inI a0) (ha1 : inI a1) (ha2 : inI a2) (h : PX6_reckon a0 a1 a2 G Q) : Tn W0 FX6_reckon [cI (a0), cI (a1), cI (a2)] G (fun r G => ∃ v, r = cI v ∧ inI v ∧ Q v G) := by
  unfold FX6_reckon
  refine g_ent (lv' := [cI (a0), cI (a1), cI (a2)]) (flI (flI (flI fl0))) (Nat.le_of_ble_eq_true rfl) rfl ?_
  exact TX6_reckon_0 ha0 ha1 ha2 h
def PX6_plainOne_151 (l1 : Int) (l2 : Int) (l3 : Int) (l5 : Int) (l6 : Int) (G : gS) (Q : Int → gS → Prop) : Prop :=
  Q (1) G
set_option maxRecDepth 20000 in
theorem TX6_plainOne_151 {l1 : Int} {l2 : Int} {l3 : Int} {l4 : Nat} {l5 : Int} {l6 : Int} {l7 : Nat} {l8 : Nat} {G : gS} {Q : Int → gS → Prop} (hl2 : inI l2) (hl3 : inI l3) (hl4 : l4 % 8 ≠ 1) (hl5 : inI l5) (hl6 : inI l6) (hl7 : l7 % 8 ≠ 1) (hl8 : l8 % 8 ≠ 1) (h : PX6_plainOne_151 l1 l2 l3 l5 l6 G Q) : Tg W0 vX6_plainOne_151 [rf (938), rf (l1), cI (l2), cI (l3), l4, cI (l5), cI (l6), l7, l8] [] G (fun r G => ∃ v, r = cI v ∧ (0 ≤ v ∧ v ≤ 1) ∧ Q v G) := by
  unfold PX6_plainOne_151 at h
  unfold vX6_plainOne_151
  refine g_const (v := cI (1)) rfl ?_
  exact g_ret1 (is_Z (by omega)) ⟨_, rfl, (by omega), h⟩
def PX6_plainOne_110 (l1 : Int) (l2 : Int) (l3 : Int) (l4 : Int) (s0 : Int) (s1 : Int) (G : gS) (Q : Int → gS → Prop) : Prop :=
  (isO W0 6 (s0) ∧ PX6_push s1 G (fun _ G58 => Q (1) G58))
set_option maxRecDepth 20000 in
theorem TX6_plainOne_110 {l1 : Int} {l2 : Int} {l3 : Int} {l4 : Int} {l5 : Nat} {l6 : Nat} {l7 : Nat} {l8 : Nat} {s0 : Int} {s1 : Int} {G : gS} {Q : Int → gS → Prop} (hl2 : inI l2) (hl3 : inI l3) (hl4 : inI l4) (hl5 : l5 % 8 ≠ 1) (hl6 : l6 % 8 ≠ 1) (hl7 : l7 % 8 ≠ 1) (hl8 : l8 % 8 ≠ 1) (hs1 : inI s1) (h : PX6_plainOne_110 l1 l2 l3 l4 s0 s1 G Q) : Tg W0 vX6_plainOne_110 [rf (938), rf (l1), cI (l2), cI (l3), cI (l4), l5, l6, l7, l8] [cI (s1), rf (s0)] G (fun r G => ∃ v, r = cI v ∧ (0 ≤ v ∧ v ≤ 1) ∧ Q v G) := by
  unfold PX6_plainOne_110 at h
  unfold vX6_plainOne_110
  obtain ⟨q57, h⟩ := h
  refine g_callV (As := [_]) (ci := 6) q57 (fun _ => rfl) ?_
  refine g_go0 (Nat.le_of_ble_eq_true rfl) (Tn_w (Tn_eq (one6 q57) (TX6_push hs1 h)) fun _ G58 ⟨e, h⟩ => ⟨e, ?_⟩)
  refine g_const (v := cI (1)) rfl ?_
  exact g_ret1 (is_Z (by omega)) ⟨_, rfl, (by omega), h⟩
def PX6_plainOne_109 (l1 : Int) (l2 : Int) (l3 : Int) (l4 : Int) (s0 : Int) (G : gS) (Q : Int → gS → Prop) : Prop :=
  PX6_plainOne_110 l1 l2 l3 l4 s0 0 G Q
set_option maxRecDepth 20000 in
theorem TX6_plainOne_109 {l1 : Int} {l2 : Int} {l3 : Int} {l4 : Int} {l5 : Nat} {l6 : Nat} {l7 : Nat} {l8 : Nat} {s0 : Int} {G : gS} {Q : Int → gS → Prop} (hl2 : inI l2) (hl3 : inI l3) (hl4 : inI l4) (hl5 : l5 % 8 ≠ 1) (hl6 : l6 % 8 ≠ 1) (hl7 : l7 % 8 ≠ 1) (hl8 : l8 % 8 ≠ 1) (h : PX6_plainOne_109 l1 l2 l3 l4 s0 G Q) : Tg W0 vX6_plainOne_109 [rf (938), rf (l1), cI (l2), cI (l3), cI (l4), l5, l6, l7, l8] [rf (s0)] G (fun r G => ∃ v, r = cI v ∧ (0 ≤ v ∧ v ≤ 1) ∧ Q v G) := by
  unfold PX6_plainOne_109 at h
  unfold vX6_plainOne_109
  refine g_const (v := cI (0)) rfl ?_
  exact TX6_plainOne_110 hl2 hl3 hl4 hl5 hl6 hl7 hl8 ⟨by omega, by omega⟩ h
def PX6_plainOne_0 (a1 : Int) (a2 : Int) (a3 : Int) (G : gS) (Q : Int → gS → Prop) : Prop :=
  ((a2 = 1 → (inI (G 938 14) → ((G 938 14 < 20000 → (inI (G 938 14) → (inI ((G 938 14) + 1) ∧ (∀ G6 : gS, G6 = uG G 938 14 ((G 938 14) + 1) → Q (1) G6)))) ∧ (¬ (G 938 14 < 20000) → PX6_fail 14 G (fun _ G7 => Q (0) G7))))) ∧ (a2 = 2 → PX6_push a3 G (fun _ G9 => Q (1) G9)) ∧ (a2 = 3 → (∃ n11, isA W0 0 n11 (a1) ∧ ((0 : Int) ≤ 2 ∧ ((2 : Int) < n11 ∧ (inI (G a1 2) → (inI ((G a1 2) + a3) ∧ (((G a1 2) + a3 < 0 → PX6_plainOne_109 a1 a2 a3 ((G a1 2) + a3) 938 G Q) ∧ (¬ ((G a1 2) + a3 < 0) → (inI (G 938 3) → (((G a1 2) + a3 < G 938 3 → ((0 : Int) ≤ (G a1 2) + a3 ∧ (((G a1 2) + a3 : Int) < 24000 ∧ (inI (G 952 ((G a1 2) + a3)) → PX6_plainOne_110 a1 a2 a3 ((G a1 2) + a3) 938 (G 952 ((G a1 2) + a3)) G Q)))) ∧ (¬ ((G a1 2) + a3 < G 938 3) → PX6_plainOne_109 a1 a2 a3 ((G a1 2) + a3) 938 G Q))))))))))) ∧ (a2 = 4 → PX6_pop G (fun r24 G23 => inI r24 → (∃ n26, isA W0 0 n26 (a1) ∧ ((0 : Int) ≤ 2 ∧ ((2 : Int) < n26 ∧ (inI (G23 a1 2) → (inI ((G23 a1 2) + a3) ∧ (((G23 a1 2) + a3 < 0 → PX6_plainOne_151 a1 a2 a3 r24 ((G23 a1 2) + a3) G23 Q) ∧ (¬ ((G23 a1 2) + a3 < 0) → (inI (G23 938 3) → (((G23 a1 2) + a3 < G23 938 3 → ((0 : Int) ≤ (G23 a1 2) + a3 ∧ (((G23 a1 2) + a3 : Int) < 24000 ∧ (∀ G37 : gS, G37 = uG G23 952 ((G23 a1 2) + a3) (r24) → PX6_plainOne_151 a1 a2 a3 r24 ((G23 a1 2) + a3) G37 Q)))) ∧ (¬ ((G23 a1 2) + a3 < G23 938 3) → PX6_plainOne_151 a1 a2 a3 r24 ((G23 a1 2) + a3) G23 Q)))))))))))) ∧ (a2 = 5 → PX6_pop G (fun r39 G38 => inI r39 → Q (1) G38)) ∧ (a2 = 6 → PX6_peek 0 G (fun r42 G41 => inI r42 → PX6_push r42 G41 (fun _ G44 => Q (1) G44))) ∧ ((a2 < 1 ∨ 7 ≤ a2) → PX6_pop G (fun r47 G46 => inI r47 → PX6_pop G46 (fun r50 G49 => inI r50 → PX6_reckon a2 r50 r47 G49 (fun r53 G52 => inI r53 → PX6_push r53 G52 (fun _ G55 => Q (1) G55))))))
set_option maxRecDepth 20000 in
theorem TX6_plainOne_0 {a1 : Int} {a2 : Int} {a3 : Int} {G : gS} {Q : Int → gS → Prop} (ha2 : inI a2) (ha3 : inI a3) (h : PX6_plainOne_0 a1 a2 a3 G Q) : Tg W0 vX6_plainOne_0 [rf (938), rf (a1), cI (a2), cI (a3), 7, 7, 7, 7, 7] [] G (fun r G => ∃ v, r = cI v ∧ (0 ≤ v ∧ v ≤ 1) ∧ Q v G) := by
  unfold PX6_plainOne_0 at h
  unfold vX6_plainOne_0
  refine g_ld (v := cI _) rfl (is_I _) ?_
  rcases (show a2 = 1 ∨ a2 = 2 ∨ a2 = 3 ∨ a2 = 4 ∨ a2 = 5 ∨ a2 = 6 ∨ (a2 < 1 ∨ 7 ≤ a2) by omega) with b1 | b1 | b1 | b1 | b1 | b1 | b1
  · replace h := h.1 b1
    refine g_swI (n := 0) b1 (by omega) ?_
    show Tg W0 (vX6_plainOne_40) _ _ _ _
    unfold vX6_plainOne_40
    refine g_ld (v := rf _) rfl (is_R _) ?_
    refine g_getI (kz := 14) oC6 rfl (Nat.le_of_ble_eq_true rfl) rfl fun i2 => ?_
    replace h := h i2
    refine g_const (v := cI (20000)) rfl ?_
    refine g_lt2 i2 ⟨by omega, by omega⟩ (fun b3 => ?_) (fun b3 => ?_)
    · replace h := h.1 b3
      unfold vX6_plainOne_58
      refine g_ld (v := rf _) rfl (is_R _) ?_
      refine g_dup (ct_R _) ?_
      refine g_getI (kz := 14) oC6 rfl (Nat.le_of_ble_eq_true rfl) rfl fun i4 => ?_
      replace h := h i4
      refine g_const (v := cI (1)) rfl ?_
      refine g_add ?_
      obtain ⟨q5, h⟩ := h
      refine g_putI (kz := 14) oC6 rfl (Nat.le_of_ble_eq_true rfl) rfl q5 (zfin_no (c := 938) (j := 14) rfl) ?_
      replace h := h _ rfl
      refine g_const (v := cI (1)) rfl ?_
      exact g_ret1 (is_Z (by omega)) ⟨_, rfl, (by omega), h⟩
    · replace h := h.2 b3
      unfold vX6_plainOne_50
      refine g_ld (v := rf _) rfl (is_R _) ?_
      refine g_const (v := cI (14)) rfl ?_
      refine g_callV (As := [_]) (ci := 6) oC6 (fun _ => rfl) ?_
      refine g_go0 (Nat.le_of_ble_eq_true rfl) (Tn_w (TX6_fail ⟨by omega, by omega⟩ h) fun _ G7 ⟨e, h⟩ => ⟨e, ?_⟩)
      refine g_const (v := cI (0)) rfl ?_
      exact g_ret1 (is_Z (by omega)) ⟨_, rfl, (by omega), h⟩
  · replace h := h.2.1 b1
    refine g_swI (n := 1) b1 (by omega) ?_
    show Tg W0 (vX6_plainOne_70) _ _ _ _
    unfold vX6_plainOne_70
    refine g_ld (v := rf _) rfl (is_R _) ?_
    refine g_ld (v := cI _) rfl (is_I _) ?_
    refine g_callV (As := [_]) (ci := 6) oC6 (fun _ => rfl) ?_
    refine g_go0 (Nat.le_of_ble_eq_true rfl) (Tn_w (TX6_push ha3 h) fun _ G9 ⟨e, h⟩ => ⟨e, ?_⟩)
    refine g_const (v := cI (1)) rfl ?_
    exact g_ret1 (is_Z (by omega)) ⟨_, rfl, (by omega), h⟩
  · replace h := h.2.2.1 b1
    refine g_swI (n := 2) b1 (by omega) ?_
    show Tg W0 (vX6_plainOne_77) _ _ _ _
    unfold vX6_plainOne_77
    refine g_ld (v := rf _) rfl (is_R _) ?_
    refine g_const (v := cI (2)) rfl ?_
    obtain ⟨n11, q12, h⟩ := h
    obtain ⟨q13, q14, h⟩ := h
    refine g_aldI q12 q13 q14 rfl fun i15 => ?_
    replace h := h i15
    refine g_ld (v := cI _) rfl (is_I _) ?_
    refine g_add ?_
    refine g_st (lv' := [_, _, _, _, _, _, _, _, _]) (is_I _) (Nat.le_of_ble_eq_true rfl) (Or.inr (n1_I _)) rfl ?_
    obtain ⟨q16, h⟩ := h
    refine g_ld (v := rf _) rfl (is_R _) ?_
    refine g_ld (v := cI _) rfl (is_I _) ?_
    refine g_lt1 q16 (fun b17 => ?_) (fun b17 => ?_)
    · replace h := h.1 b17
      exact TX6_plainOne_109 ha2 ha3 q16 (show 7 % 8 ≠ 1 by decide) (show 7 % 8 ≠ 1 by decide) (show 7 % 8 ≠ 1 by decide) (show 7 % 8 ≠ 1 by decide) h
    · replace h := h.2 b17
      unfold vX6_plainOne_90
      refine g_ld (v := cI _) rfl (is_I _) ?_
      refine g_ld (v := rf _) rfl (is_R _) ?_
      refine g_getI (kz := 3) oC6 rfl (Nat.le_of_ble_eq_true rfl) rfl fun i18 => ?_
      replace h := h i18
      refine g_lt2 q16 i18 (fun b19 => ?_) (fun b19 => ?_)
      · replace h := h.1 b19
        unfold vX6_plainOne_99
        refine g_ld (v := rf _) rfl (is_R _) ?_
        refine g_getF (v := 952) oC6 (hC6_2) rfl (Nat.le_of_ble_eq_true rfl) (Nat.le_of_ble_eq_true rfl) ?_
        refine g_ld (v := cI _) rfl (is_I _) ?_
        obtain ⟨q20, q21, h⟩ := h
        refine g_aldI aC952 q20 q21 rfl fun i22 => ?_
        replace h := h i22
        exact TX6_plainOne_110 ha2 ha3 q16 (show 7 % 8 ≠ 1 by decide) (show 7 % 8 ≠ 1 by decide) (show 7 % 8 ≠ 1 by decide) (show 7 % 8 ≠ 1 by decide) i22 h
      · replace h := h.2 b19
        exact TX6_plainOne_109 ha2 ha3 q16 (show 7 % 8 ≠ 1 by decide) (show 7 % 8 ≠ 1 by decide) (show 7 % 8 ≠ 1 by decide) (show 7 % 8 ≠ 1 by decide) h
  · replace h := h.2.2.2.1 b1
    refine g_swI (n := 3) b1 (by omega) ?_
    show Tg W0 (vX6_plainOne_115) _ _ _ _
    unfold vX6_plainOne_115
    refine g_ld (v := rf _) rfl (is_R _) ?_
    refine g_callV (As := []) (ci := 6) oC6 (fun _ => rfl) ?_
    refine g_go1 (Nat.le_of_ble_eq_true rfl) (Tn_w (TX6_pop  h) fun _ G23 ⟨r24, e, i25, h⟩ => ?_)
    subst e
    refine ⟨n7_I _, ?_⟩
    replace h := h i25
    refine g_st (lv' := [_, _, _, _, _, _, _, _, _]) (is_I _) (Nat.le_of_ble_eq_true rfl) (Or.inr (show 7 % 8 ≠ 1 by decide)) rfl ?_
    refine g_ld (v := rf _) rfl (is_R _) ?_
    refine g_const (v := cI (2)) rfl ?_
    obtain ⟨n26, q27, h⟩ := h
    obtain ⟨q28, q29, h⟩ := h
    refine g_aldI q27 q28 q29 rfl fun i30 => ?_
    replace h := h i30
    refine g_ld (v := cI _) rfl (is_I _) ?_
    refine g_add ?_
    refine g_st (lv' := [_, _, _, _, _, _, _, _, _]) (is_I _) (Nat.le_of_ble_eq_true rfl) (Or.inr (n1_I _)) rfl ?_
    obtain ⟨q31, h⟩ := h
    refine g_ld (v := cI _) rfl (is_I _) ?_
    refine g_lt1 q31 (fun b32 => ?_) (fun b32 => ?_)
    · replace h := h.1 b32
      exact TX6_plainOne_151 ha2 ha3 (show 7 % 8 ≠ 1 by decide) i25 q31 (show 7 % 8 ≠ 1 by decide) (show 7 % 8 ≠ 1 by decide) h
    · replace h := h.2 b32
      unfold vX6_plainOne_133
      refine g_ld (v := cI _) rfl (is_I _) ?_
      refine g_ld (v := rf _) rfl (is_R _) ?_
      refine g_getI (kz := 3) oC6 rfl (Nat.le_of_ble_eq_true rfl) rfl fun i33 => ?_
      replace h := h i33
      refine g_lt2 q31 i33 (fun b34 => ?_) (fun b34 => ?_)
      · replace h := h.1 b34
        unfold vX6_plainOne_142
        refine g_ld (v := rf _) rfl (is_R _) ?_
        refine g_getF (v := 952) oC6 (hC6_2) rfl (Nat.le_of_ble_eq_true rfl) (Nat.le_of_ble_eq_true rfl) ?_
        refine g_ld (v := cI _) rfl (is_I _) ?_
        refine g_ld (v := cI _) rfl (is_I _) ?_
        obtain ⟨q35, q36, h⟩ := h
        refine g_astI aC952 q35 q36 i25 (nfI aC952) ?_
        replace h := h _ rfl
        exact TX6_plainOne_151 ha2 ha3 (show 7 % 8 ≠ 1 by decide) i25 q31 (show 7 % 8 ≠ 1 by decide) (show 7 % 8 ≠ 1 by decide) h
      · replace h := h.2 b34
        exact TX6_plainOne_151 ha2 ha3 (show 7 % 8 ≠ 1 by decide) i25 q31 (show 7 % 8 ≠ 1 by decide) (show 7 % 8 ≠ 1 by decide) h
  · replace h := h.2.2.2.2.1 b1
    refine g_swI (n := 4) b1 (by omega) ?_
    show Tg W0 (vX6_plainOne_153) _ _ _ _
    unfold vX6_plainOne_153
    refine g_ld (v := rf _) rfl (is_R _) ?_
    refine g_callV (As := []) (ci := 6) oC6 (fun _ => rfl) ?_
    refine g_go1 (Nat.le_of_ble_eq_true rfl) (Tn_w (TX6_pop  h) fun _ G38 ⟨r39, e, i40, h⟩ => ?_)
    subst e
    refine ⟨n7_I _, ?_⟩
    replace h := h i40
    refine g_pop (ct_I _) ?_
    refine g_const (v := cI (1)) rfl ?_
    exact g_ret1 (is_Z (by omega)) ⟨_, rfl, (by omega), h⟩
  · replace h := h.2.2.2.2.2.1 b1
    refine g_swI (n := 5) b1 (by omega) ?_
    show Tg W0 (vX6_plainOne_160) _ _ _ _
    unfold vX6_plainOne_160
    refine g_ld (v := rf _) rfl (is_R _) ?_
    refine g_ld (v := rf _) rfl (is_R _) ?_
    refine g_const (v := cI (0)) rfl ?_
    refine g_callV (As := [_]) (ci := 6) oC6 (fun _ => rfl) ?_
    refine g_go1 (by simp only [cs_c, cs_0, ct_I, ct_L, ct_R]; exact Nat.le_of_ble_eq_true rfl) (Tn_w (TX6_peek ⟨by omega, by omega⟩ h) fun _ G41 ⟨r42, e, i43, h⟩ => ?_)
    subst e
    refine ⟨n7_I _, ?_⟩
    replace h := h i43
    refine g_callV (As := [_]) (ci := 6) oC6 (fun _ => rfl) ?_
    refine g_go0 (Nat.le_of_ble_eq_true rfl) (Tn_w (TX6_push i43 h) fun _ G44 ⟨e, h⟩ => ⟨e, ?_⟩)
    refine g_const (v := cI (1)) rfl ?_
    exact g_ret1 (is_Z (by omega)) ⟨_, rfl, (by omega), h⟩
  · replace h := h.2.2.2.2.2.2 b1
    refine g_swD (m := 6) ha2 rfl b1 (by omega) ?_
    show Tg W0 (vX6_plainOne_171) _ _ _ _
    unfold vX6_plainOne_171
    refine g_ld (v := rf _) rfl (is_R _) ?_
    refine g_callV (As := []) (ci := 6) oC6 (fun _ => rfl) ?_
    refine g_go1 (Nat.le_of_ble_eq_true rfl) (Tn_w (TX6_pop  h) fun _ G46 ⟨r47, e, i48, h⟩ => ?_)
    subst e
    refine ⟨n7_I _, ?_⟩
    replace h := h i48
    refine g_st (lv' := [_, _, _, _, _, _, _, _, _]) (is_I _) (Nat.le_of_ble_eq_true rfl) (Or.inr (show 7 % 8 ≠ 1 by decide)) rfl ?_
    refine g_ld (v := rf _) rfl (is_R _) ?_
    refine g_callV (As := []) (ci := 6) oC6 (fun _ => rfl) ?_
    refine g_go1 (Nat.le_of_ble_eq_true rfl) (Tn_w (TX6_pop  h) fun _ G49 ⟨r50, e, i51, h⟩ => ?_)
    subst e
    refine ⟨n7_I _, ?_⟩
    replace h := h i51
    refine g_st (lv' := [_, _, _, _, _, _, _, _, _]) (is_I _) (Nat.le_of_ble_eq_true rfl) (Or.inr (n1_I _)) rfl ?_
    refine g_ld (v := rf _) rfl (is_R _) ?_
    refine g_ld (v := cI _) rfl (is_I _) ?_
    refine g_ld (v := cI _) rfl (is_I _) ?_
    refine g_ld (v := cI _) rfl (is_I _) ?_
    refine g_callS (As := [_, _, _]) (fun _ => rfl) ?_
    refine g_go1 (by simp only [cs_c, cs_0, ct_I, ct_L, ct_R]; exact Nat.le_of_ble_eq_true rfl) (Tn_w (TX6_reckon ha2 i51 i48 h) fun _ G52 ⟨r53, e, i54, h⟩ => ?_)
    subst e
    refine ⟨n7_I _, ?_⟩
    replace h := h i54
    refine g_callV (As := [_]) (ci := 6) oC6 (fun _ => rfl) ?_
    refine g_go0 (Nat.le_of_ble_eq_true rfl) (Tn_w (TX6_push i54 h) fun _ G55 ⟨e, h⟩ => ⟨e, ?_⟩)
    refine g_const (v := cI (1)) rfl ?_
    exact g_ret1 (is_Z (by omega)) ⟨_, rfl, (by omega), h⟩
abbrev PX6_plainOne (a1 : Int) (a2 : Int) (a3 : Int) (G : gS) (Q : Int → gS → Prop) : Prop := PX6_plainOne_0 a1 a2 a3 G Q
theorem TX6_plainOne {a1 : Int} {a2 : Int} {a3 : Int} {G : gS} {Q : Int → gS → Prop} (ha2 : inI a2) (ha3 : inI a3) (h : PX6_plainOne a1 a2 a3 G Q) : Tn W0 FX6_plainOne [rf (938), rf (a1), cI (a2), cI (a3)] G (fun r G => ∃ v, r = cI v ∧ (0 ≤ v ∧ v ≤ 1) ∧ Q v G) := by
  unfold FX6_plainOne
  refine g_ent (lv' := [rf (938), rf (a1), cI (a2), cI (a3), 7, 7, 7, 7, 7]) (flR (flR (flI (flI fl0)))) (Nat.le_of_ble_eq_true rfl) rfl ?_
  exact TX6_plainOne_0 ha2 ha3 h
end DE

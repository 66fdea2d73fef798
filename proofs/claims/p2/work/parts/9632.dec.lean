section DE
def PX13_newObject_70 (J : Nat → List Int → gS → (Int → gS → Prop) → Prop) (l1 : Int) (l2 : Int) (l3 : Int) (G : gS) (Q : Int → gS → Prop) : Prop :=
  ((l3 < l2 → (inI (G 16081 153) → ((0 : Int) ≤ (G 16081 153) + l3 ∧ (((G 16081 153) + l3 : Int) < 2001 ∧ (∀ G28 : gS, G28 = uG G 16202 ((G 16081 153) + l3) (0) → (inI (l3 + 1) ∧ J 0 [l1, l2, l3 + 1] G28 Q)))))) ∧ (¬ (l3 < l2) → (inI (G 16081 153) → (inI ((G 16081 153) + l2) ∧ (∀ G32 : gS, G32 = uG G 16081 153 ((G 16081 153) + l2) → (inI (G32 16081 151) → (inI (G32 16081 153) → ((0 : Int) ≤ (G32 16081 151) + 1 ∧ (((G32 16081 151) + 1 : Int) < 202 ∧ (∀ G37 : gS, G37 = uG G32 16201 ((G32 16081 151) + 1) (G32 16081 153) → (inI (G37 16081 151) → Q (G37 16081 151) G37)))))))))))
set_option maxRecDepth 20000 in
theorem TX13_newObject_70 {j : Nat → rx_K} {J : Nat → List Int → gS → (Int → gS → Prop) → Prop} {l1 : Int} {l2 : Int} {l3 : Int} {G : gS} {Q : Int → gS → Prop} (hl1 : inI l1) (hl2 : inI l2) (hl3 : inI l3) (hj0 : ∀ (l1 : Int) (l2 : Int) (l3 : Int) (G : gS), (inI l1) → (inI l2) → (inI l3) → J 0 [l1, l2, l3] G Q → Tg W0 (j 0) [rf (16081), cI (l1), cI (l2), cI (l3)] [] G (fun r G => ∃ v, r = cI v ∧ inI v ∧ Q v G)) (h : PX13_newObject_70 J l1 l2 l3 G Q) : Tg W0 (vX13_newObject_70 j) [rf (16081), cI (l1), cI (l2), cI (l3)] [] G (fun r G => ∃ v, r = cI v ∧ inI v ∧ Q v G) := by
  unfold PX13_newObject_70 at h
  unfold vX13_newObject_70
  refine g_ld (v := cI _) rfl (is_I _) ?_
  refine g_ld (v := cI _) rfl (is_I _) ?_
  refine g_lt2 hl3 hl2 (fun b24 => ?_) (fun b24 => ?_)
  · replace h := h.1 b24
    unfold vX13_newObject_75
    refine g_ld (v := rf _) rfl (is_R _) ?_
    refine g_getF (v := 16202) oC13 (hC13_152) rfl (Nat.le_of_ble_eq_true rfl) (Nat.le_of_ble_eq_true rfl) ?_
    refine g_ld (v := rf _) rfl (is_R _) ?_
    refine g_getI (kz := 153) oC13 rfl (Nat.le_of_ble_eq_true rfl) rfl fun i25 => ?_
    replace h := h i25
    refine g_ld (v := cI _) rfl (is_I _) ?_
    refine g_add ?_
    refine g_const (v := cI (0)) rfl ?_
    obtain ⟨q26, q27, h⟩ := h
    refine g_astI aC16202 q26 q27 ⟨by omega, by omega⟩ (nfI aC16202) ?_
    replace h := h _ rfl
    refine g_inc (lv' := [_, _, _, _]) rfl (Nat.le_of_ble_eq_true rfl) (Or.inr (n1_I _)) rfl ?_
    obtain ⟨q29, h⟩ := h
    exact hj0 _ _ _ _ hl1 hl2 q29 h
  · replace h := h.2 b24
    unfold vX13_newObject_93
    refine g_ld (v := rf _) rfl (is_R _) ?_
    refine g_dup (ct_R _) ?_
    refine g_getI (kz := 153) oC13 rfl (Nat.le_of_ble_eq_true rfl) rfl fun i30 => ?_
    replace h := h i30
    refine g_ld (v := cI _) rfl (is_I _) ?_
    refine g_add ?_
    obtain ⟨q31, h⟩ := h
    refine g_putI (kz := 153) oC13 rfl (Nat.le_of_ble_eq_true rfl) rfl q31 (zfin_no (c := 16081) (j := 153) rfl) ?_
    replace h := h _ rfl
    refine g_ld (v := rf _) rfl (is_R _) ?_
    refine g_getF (v := 16201) oC13 (hC13_150) rfl (Nat.le_of_ble_eq_true rfl) (Nat.le_of_ble_eq_true rfl) ?_
    refine g_ld (v := rf _) rfl (is_R _) ?_
    refine g_getI (kz := 151) oC13 rfl (Nat.le_of_ble_eq_true rfl) rfl fun i33 => ?_
    replace h := h i33
    refine g_const (v := cI (1)) rfl ?_
    refine g_add ?_
    refine g_ld (v := rf _) rfl (is_R _) ?_
    refine g_getI (kz := 153) oC13 rfl (Nat.le_of_ble_eq_true rfl) rfl fun i34 => ?_
    replace h := h i34
    obtain ⟨q35, q36, h⟩ := h
    refine g_astI aC16201 q35 q36 i34 (nfI aC16201) ?_
    replace h := h _ rfl
    refine g_ld (v := rf _) rfl (is_R _) ?_
    refine g_getI (kz := 151) oC13 rfl (Nat.le_of_ble_eq_true rfl) rfl fun i38 => ?_
    replace h := h i38
    exact g_ret1 (is_I _) ⟨_, rfl, i38, h⟩
def PX13_newObject_28 (J : Nat → List Int → gS → (Int → gS → Prop) → Prop) (l1 : Int) (l2 : Int) (G : gS) (Q : Int → gS → Prop) : Prop :=
  PX13_fail 16 G (fun r22 G21 => inI r22 → Q (r22) G21)
set_option maxRecDepth 20000 in
theorem TX13_newObject_28 {j : Nat → rx_K} {J : Nat → List Int → gS → (Int → gS → Prop) → Prop} {l1 : Int} {l2 : Int} {l3 : Nat} {G : gS} {Q : Int → gS → Prop} (hl1 : inI l1) (hl2 : inI l2) (hl3 : l3 % 8 ≠ 1) (hj0 : ∀ (l1 : Int) (l2 : Int) (l3 : Int) (G : gS), (inI l1) → (inI l2) → (inI l3) → J 0 [l1, l2, l3] G Q → Tg W0 (j 0) [rf (16081), cI (l1), cI (l2), cI (l3)] [] G (fun r G => ∃ v, r = cI v ∧ inI v ∧ Q v G)) (h : PX13_newObject_28 J l1 l2 G Q) : Tg W0 (vX13_newObject_28 j) [rf (16081), cI (l1), cI (l2), l3] [] G (fun r G => ∃ v, r = cI v ∧ inI v ∧ Q v G) := by
  unfold PX13_newObject_28 at h
  unfold vX13_newObject_28
  refine g_ld (v := rf _) rfl (is_R _) ?_
  refine g_const (v := cI (16)) rfl ?_
  refine g_callV (As := [_]) (ci := 13) oC13 (fun _ => rfl) ?_
  refine g_go1 (Nat.le_of_ble_eq_true rfl) (Tn_w (TX13_fail ⟨by omega, by omega⟩ h) fun _ G21 ⟨r22, e, i23, h⟩ => ?_)
  subst e
  refine ⟨n7_I _, ?_⟩
  replace h := h i23
  exact g_ret1 (is_I _) ⟨_, rfl, i23, h⟩
def PX13_newObject_0 (J : Nat → List Int → gS → (Int → gS → Prop) → Prop) (a1 : Int) (G : gS) (Q : Int → gS → Prop) : Prop :=
  PX13_fieldsOf a1 G (fun r2 G1 => inI r2 → (inI (G1 16081 151) → ((G1 16081 151 = 200 → PX13_newObject_28 J a1 r2 G1 Q) ∧ (¬ (G1 16081 151 = 200) → (inI (G1 16081 153) → (inI ((G1 16081 153) + r2) ∧ ((2000 < (G1 16081 153) + r2 → PX13_newObject_28 J a1 r2 G1 Q) ∧ (¬ (2000 < (G1 16081 153) + r2) → (inI (G1 16081 151) → (inI ((G1 16081 151) + 1) ∧ (∀ G11 : gS, G11 = uG G1 16081 151 ((G1 16081 151) + 1) → (inI (G11 16081 151) → ((0 : Int) ≤ G11 16081 151 ∧ ((G11 16081 151 : Int) < 202 ∧ (∀ G15 : gS, G15 = uG G11 16200 (G11 16081 151) (a1) → (inI (G15 16081 151) → (inI (G15 16081 153) → ((0 : Int) ≤ G15 16081 151 ∧ ((G15 16081 151 : Int) < 202 ∧ (∀ G20 : gS, G20 = uG G15 16201 (G15 16081 151) (G15 16081 153) → PX13_newObject_70 J a1 r2 0 G20 Q))))))))))))))))))))
set_option maxRecDepth 20000 in
theorem TX13_newObject_0 {j : Nat → rx_K} {J : Nat → List Int → gS → (Int → gS → Prop) → Prop} {a1 : Int} {G : gS} {Q : Int → gS → Prop} (ha1 : inI a1) (hj0 : ∀ (l1 : Int) (l2 : Int) (l3 : Int) (G : gS), (inI l1) → (inI l2) → (inI l3) → J 0 [l1, l2, l3] G Q → Tg W0 (j 0) [rf (16081), cI (l1), cI (l2), cI (l3)] [] G (fun r G => ∃ v, r = cI v ∧ inI v ∧ Q v G)) (h : PX13_newObject_0 J a1 G Q) : Tg W0 (vX13_newObject_0 j) [rf (16081), cI (a1), 7, 7] [] G (fun r G => ∃ v, r = cI v ∧ inI v ∧ Q v G) := by
  unfold PX13_newObject_0 at h
  unfold vX13_newObject_0
  refine g_ld (v := rf _) rfl (is_R _) ?_
  refine g_ld (v := cI _) rfl (is_I _) ?_
  refine g_callV (As := [_]) (ci := 13) oC13 (fun _ => rfl) ?_
  refine g_go1 (Nat.le_of_ble_eq_true rfl) (Tn_w (TX13_fieldsOf ha1 h) fun _ G1 ⟨r2, e, i3, h⟩ => ?_)
  subst e
  refine ⟨n7_I _, ?_⟩
  replace h := h i3
  refine g_st (lv' := [_, _, _, _]) (is_I _) (Nat.le_of_ble_eq_true rfl) (Or.inr (n1_I _)) rfl ?_
  refine g_ld (v := rf _) rfl (is_R _) ?_
  refine g_getI (kz := 151) oC13 rfl (Nat.le_of_ble_eq_true rfl) rfl fun i4 => ?_
  replace h := h i4
  refine g_const (v := cI (200)) rfl ?_
  refine g_eq2 i4 ⟨by omega, by omega⟩ (fun b5 => ?_) (fun b5 => ?_)
  · replace h := h.1 b5
    exact TX13_newObject_28 ha1 i3 (show 7 % 8 ≠ 1 by decide) hj0 h
  · replace h := h.2 b5
    unfold vX13_newObject_16
    refine g_ld (v := rf _) rfl (is_R _) ?_
    refine g_getI (kz := 153) oC13 rfl (Nat.le_of_ble_eq_true rfl) rfl fun i6 => ?_
    replace h := h i6
    refine g_ld (v := cI _) rfl (is_I _) ?_
    refine g_add ?_
    refine g_const (v := cI (2000)) rfl ?_
    obtain ⟨q7, h⟩ := h
    refine g_gt2 q7 ⟨by omega, by omega⟩ (fun b8 => ?_) (fun b8 => ?_)
    · replace h := h.1 b8
      exact TX13_newObject_28 ha1 i3 (show 7 % 8 ≠ 1 by decide) hj0 h
    · replace h := h.2 b8
      unfold vX13_newObject_35
      refine g_ld (v := rf _) rfl (is_R _) ?_
      refine g_dup (ct_R _) ?_
      refine g_getI (kz := 151) oC13 rfl (Nat.le_of_ble_eq_true rfl) rfl fun i9 => ?_
      replace h := h i9
      refine g_const (v := cI (1)) rfl ?_
      refine g_add ?_
      obtain ⟨q10, h⟩ := h
      refine g_putI (kz := 151) oC13 rfl (Nat.le_of_ble_eq_true rfl) rfl q10 (zfin_no (c := 16081) (j := 151) rfl) ?_
      replace h := h _ rfl
      refine g_ld (v := rf _) rfl (is_R _) ?_
      refine g_getF (v := 16200) oC13 (hC13_149) rfl (Nat.le_of_ble_eq_true rfl) (Nat.le_of_ble_eq_true rfl) ?_
      refine g_ld (v := rf _) rfl (is_R _) ?_
      refine g_getI (kz := 151) oC13 rfl (Nat.le_of_ble_eq_true rfl) rfl fun i12 => ?_
      replace h := h i12
      refine g_ld (v := cI _) rfl (is_I _) ?_
      obtain ⟨q13, q14, h⟩ := h
      refine g_astI aC16200 q13 q14 ha1 (nfI aC16200) ?_
      replace h := h _ rfl
      refine g_ld (v := rf _) rfl (is_R _) ?_
      refine g_getF (v := 16201) oC13 (hC13_150) rfl (Nat.le_of_ble_eq_true rfl) (Nat.le_of_ble_eq_true rfl) ?_
      refine g_ld (v := rf _) rfl (is_R _) ?_
      refine g_getI (kz := 151) oC13 rfl (Nat.le_of_ble_eq_true rfl) rfl fun i16 => ?_
      replace h := h i16
      refine g_ld (v := rf _) rfl (is_R _) ?_
      refine g_getI (kz := 153) oC13 rfl (Nat.le_of_ble_eq_true rfl) rfl fun i17 => ?_
      replace h := h i17
      obtain ⟨q18, q19, h⟩ := h
      refine g_astI aC16201 q18 q19 i17 (nfI aC16201) ?_
      replace h := h _ rfl
      refine g_const (v := cI (0)) rfl ?_
      refine g_st (lv' := [_, _, _, _]) (is_I _) (Nat.le_of_ble_eq_true rfl) (Or.inr (n1_I _)) rfl ?_
      exact TX13_newObject_70 ha1 i3 ⟨by omega, by omega⟩ hj0 h
def PX13_newObject_J : Nat → Nat → List Int → gS → (Int → gS → Prop) → Prop
  | 0, _, _, _, _ => False
  | f + 1, h, L, G, Q => match h, L with
    | 0, [l1, l2, l3] => PX13_newObject_70 (PX13_newObject_J f) l1 l2 l3 G Q
    | _, _ => False
theorem TX13_newObject_J {Q : Int → gS → Prop} : ∀ f N : Nat, f ≤ N → (∀ (l1 : Int) (l2 : Int) (l3 : Int) (G : gS), (inI l1) → (inI l2) → (inI l3) → (PX13_newObject_J f) 0 [l1, l2, l3] G Q → Tg W0 (rx_J vhX13_newObject N 0) [rf (16081), cI (l1), cI (l2), cI (l3)] [] G (fun r G => ∃ v, r = cI v ∧ inI v ∧ Q v G)) := by
  intro f
  induction f with
  | zero => exact fun N _ => fun _ _ _ _ _ _ _ h => h.elim
  | succ f ih =>
    intro N hN
    obtain ⟨M, rfl⟩ : ∃ M, N = M + 1 := ⟨N - 1, by omega⟩
    have ih := ih M (by omega)
    exact fun _ _ _ _ hl1 hl2 hl3 h => show Tg W0 (vX13_newObject_70 (rx_J vhX13_newObject M)) _ _ _ _ from TX13_newObject_70 hl1 hl2 hl3 ih h
def PX13_newObject (a1 : Int) (G : gS) (Q : Int → gS → Prop) : Prop := ∃ f : Nat, f ≤ 4000000000 ∧ PX13_newObject_0 (PX13_newObject_J f) a1 G Q
theorem TX13_newObject {a1 : Int} {G : gS} {Q : Int → gS → Prop} (ha1 : inI a1) (h : PX13_newObject a1 G Q) : Tn W0 FX13_newObject [rf (16081), cI (a1)] G (fun r G => ∃ v, r = cI v ∧ inI v ∧ Q v G) := by
  obtain ⟨f, hf, h⟩ := h
  have hJ := TX13_newObject_J (Q := Q) f 4000000000 hf
  unfold FX13_newObject
  refine g_ent (lv' := [rf (16081), cI (a1), 7, 7]) (flR (flI fl0)) (Nat.le_of_ble_eq_true rfl) rfl ?_
  exact TX13_newObject_0 ha1 hJ h
def PX13_evalTwo_0 (a1 : Int) (a2 : Int) (a3 : Int) (G : gS) (Q : Int → gS → Prop) : Prop :=
  ((0 : Int) ≤ a1 ∧ ((a1 : Int) < 17280 ∧ (inI (G 16205 a1) → ((G 16205 a1 = 0 → ((0 : Int) ≤ a1 ∧ ((a1 : Int) < 17280 ∧ (∀ G7 : gS, G7 = uG G 16205 a1 (1) → ((0 : Int) ≤ a2 ∧ ((a2 : Int) < 30600 ∧ (inI (G7 16151 a2) → PX13_push (G7 16151 a2) G7 (fun _ G11 => Q (a3) G11)))))))) ∧ (¬ (G 16205 a1 = 0) → ((0 : Int) ≤ a1 ∧ ((a1 : Int) < 17280 ∧ (inI (G 16205 a1) → ((G 16205 a1 = 1 → ((0 : Int) ≤ a1 ∧ ((a1 : Int) < 17280 ∧ (∀ G19 : gS, G19 = uG G 16205 a1 (2) → ((0 : Int) ≤ a1 ∧ ((a1 : Int) < 17280 ∧ (∀ G22 : gS, G22 = uG G19 16206 a1 (a3) → ((0 : Int) ≤ a2 ∧ ((a2 : Int) < 30600 ∧ (inI (G22 16152 a2) → PX13_push (G22 16152 a2) G22 (fun _ G26 => Q (a3) G26))))))))))) ∧ (¬ (G 16205 a1 = 1) → (inI (G 16081 161) → (inI ((G 16081 161) - 1) ∧ (∀ G30 : gS, G30 = uG G 16081 161 ((G 16081 161) - 1) → ((0 : Int) ≤ a2 ∧ ((a2 : Int) < 30600 ∧ (inI (G30 16144 a2) → ((0 : Int) ≤ a1 ∧ ((a1 : Int) < 17280 ∧ (inI (G30 16206 a1) → PX13_act (G30 16144 a2) (G30 16206 a1) a3 G30 (fun r38 G37 => inI r38 → Q (r38) G37))))))))))))))))))))
set_option maxRecDepth 20000 in
theorem TX13_evalTwo_0 {a1 : Int} {a2 : Int} {a3 : Int} {G : gS} {Q : Int → gS → Prop} (ha1 : inI a1) (ha2 : inI a2) (ha3 : inI a3) (h : PX13_evalTwo_0 a1 a2 a3 G Q) : Tg W0 vX13_evalTwo_0 [rf (16081), cI (a1), cI (a2), cI (a3)] [] G (fun r G => ∃ v, r = cI v ∧ inI v ∧ Q v G) := by
  unfold PX13_evalTwo_0 at h
  unfold vX13_evalTwo_0
  refine g_ld (v := rf _) rfl (is_R _) ?_
  refine g_getF (v := 16205) oC13 (hC13_157) rfl (Nat.le_of_ble_eq_true rfl) (Nat.le_of_ble_eq_true rfl) ?_
  refine g_ld (v := cI _) rfl (is_I _) ?_
  obtain ⟨q1, q2, h⟩ := h
  refine g_aldI aC16205 q1 q2 rfl fun i3 => ?_
  replace h := h i3
  refine g_eq1 i3 (fun b4 => ?_) (fun b4 => ?_)
  · replace h := h.1 b4
    unfold vX13_evalTwo_9
    refine g_ld (v := rf _) rfl (is_R _) ?_
    refine g_getF (v := 16205) oC13 (hC13_157) rfl (Nat.le_of_ble_eq_true rfl) (Nat.le_of_ble_eq_true rfl) ?_
    refine g_ld (v := cI _) rfl (is_I _) ?_
    refine g_const (v := cI (1)) rfl ?_
    obtain ⟨q5, q6, h⟩ := h
    refine g_astI aC16205 q5 q6 ⟨by omega, by omega⟩ (nfI aC16205) ?_
    replace h := h _ rfl
    refine g_ld (v := rf _) rfl (is_R _) ?_
    refine g_ld (v := rf _) rfl (is_R _) ?_
    refine g_getF (v := 16151) oC13 (hC13_77) rfl (Nat.le_of_ble_eq_true rfl) (Nat.le_of_ble_eq_true rfl) ?_
    refine g_ld (v := cI _) rfl (is_I _) ?_
    obtain ⟨q8, q9, h⟩ := h
    refine g_aldI aC16151 q8 q9 rfl fun i10 => ?_
    replace h := h i10
    refine g_callV (As := [_]) (ci := 13) oC13 (fun _ => rfl) ?_
    refine g_go0 (Nat.le_of_ble_eq_true rfl) (Tn_w (TX13_push i10 h) fun _ G11 ⟨e, h⟩ => ⟨e, ?_⟩)
    refine g_ld (v := cI _) rfl (is_I _) ?_
    exact g_ret1 (is_I _) ⟨_, rfl, ha3, h⟩
  · replace h := h.2 b4
    unfold vX13_evalTwo_28
    refine g_ld (v := rf _) rfl (is_R _) ?_
    refine g_getF (v := 16205) oC13 (hC13_157) rfl (Nat.le_of_ble_eq_true rfl) (Nat.le_of_ble_eq_true rfl) ?_
    refine g_ld (v := cI _) rfl (is_I _) ?_
    obtain ⟨q13, q14, h⟩ := h
    refine g_aldI aC16205 q13 q14 rfl fun i15 => ?_
    replace h := h i15
    refine g_const (v := cI (1)) rfl ?_
    refine g_eq2 i15 ⟨by omega, by omega⟩ (fun b16 => ?_) (fun b16 => ?_)
    · replace h := h.1 b16
      unfold vX13_evalTwo_38
      refine g_ld (v := rf _) rfl (is_R _) ?_
      refine g_getF (v := 16205) oC13 (hC13_157) rfl (Nat.le_of_ble_eq_true rfl) (Nat.le_of_ble_eq_true rfl) ?_
      refine g_ld (v := cI _) rfl (is_I _) ?_
      refine g_const (v := cI (2)) rfl ?_
      obtain ⟨q17, q18, h⟩ := h
      refine g_astI aC16205 q17 q18 ⟨by omega, by omega⟩ (nfI aC16205) ?_
      replace h := h _ rfl
      refine g_ld (v := rf _) rfl (is_R _) ?_
      refine g_getF (v := 16206) oC13 (hC13_158) rfl (Nat.le_of_ble_eq_true rfl) (Nat.le_of_ble_eq_true rfl) ?_
      refine g_ld (v := cI _) rfl (is_I _) ?_
      refine g_ld (v := cI _) rfl (is_I _) ?_
      obtain ⟨q20, q21, h⟩ := h
      refine g_astI aC16206 q20 q21 ha3 (nfI aC16206) ?_
      replace h := h _ rfl
      refine g_ld (v := rf _) rfl (is_R _) ?_
      refine g_ld (v := rf _) rfl (is_R _) ?_
      refine g_getF (v := 16152) oC13 (hC13_78) rfl (Nat.le_of_ble_eq_true rfl) (Nat.le_of_ble_eq_true rfl) ?_
      refine g_ld (v := cI _) rfl (is_I _) ?_
      obtain ⟨q23, q24, h⟩ := h
      refine g_aldI aC16152 q23 q24 rfl fun i25 => ?_
      replace h := h i25
      refine g_callV (As := [_]) (ci := 13) oC13 (fun _ => rfl) ?_
      refine g_go0 (Nat.le_of_ble_eq_true rfl) (Tn_w (TX13_push i25 h) fun _ G26 ⟨e, h⟩ => ⟨e, ?_⟩)
      refine g_ld (v := cI _) rfl (is_I _) ?_
      exact g_ret1 (is_I _) ⟨_, rfl, ha3, h⟩
    · replace h := h.2 b16
      unfold vX13_evalTwo_64
      refine g_ld (v := rf _) rfl (is_R _) ?_
      refine g_dup (ct_R _) ?_
      refine g_getI (kz := 161) oC13 rfl (Nat.le_of_ble_eq_true rfl) rfl fun i28 => ?_
      replace h := h i28
      refine g_const (v := cI (1)) rfl ?_
      refine g_sub ?_
      obtain ⟨q29, h⟩ := h
      refine g_putI (kz := 161) oC13 rfl (Nat.le_of_ble_eq_true rfl) rfl q29 (zfin_no (c := 16081) (j := 161) rfl) ?_
      replace h := h _ rfl
      refine g_ld (v := rf _) rfl (is_R _) ?_
      refine g_getF (v := 16144) oC13 (hC13_70) rfl (Nat.le_of_ble_eq_true rfl) (Nat.le_of_ble_eq_true rfl) ?_
      refine g_ld (v := cI _) rfl (is_I _) ?_
      obtain ⟨q31, q32, h⟩ := h
      refine g_aldI aC16144 q31 q32 rfl fun i33 => ?_
      replace h := h i33
      refine g_ld (v := rf _) rfl (is_R _) ?_
      refine g_getF (v := 16206) oC13 (hC13_158) rfl (Nat.le_of_ble_eq_true rfl) (Nat.le_of_ble_eq_true rfl) ?_
      refine g_ld (v := cI _) rfl (is_I _) ?_
      obtain ⟨q34, q35, h⟩ := h
      refine g_aldI aC16206 q34 q35 rfl fun i36 => ?_
      replace h := h i36
      refine g_ld (v := cI _) rfl (is_I _) ?_
      refine g_callS (As := [_, _, _]) (fun _ => rfl) ?_
      refine g_go1 (Nat.le_of_ble_eq_true rfl) (Tn_w (TX13_act i33 i36 ha3 h) fun _ G37 ⟨r38, e, i39, h⟩ => ?_)
      subst e
      refine ⟨n7_I _, ?_⟩
      replace h := h i39
      exact g_ret1 (is_I _) ⟨_, rfl, i39, h⟩
abbrev PX13_evalTwo (a1 : Int) (a2 : Int) (a3 : Int) (G : gS) (Q : Int → gS → Prop) : Prop := PX13_evalTwo_0 a1 a2 a3 G Q
theorem TX13_evalTwo {a1 : Int} {a2 : Int} {a3 : Int} {G : gS} {Q : Int → gS → Prop} (ha1 : inI a1) (ha2 : inI a2) (ha3 : inI a3) (h : PX13_evalTwo a1 a2 a3 G Q) : Tn W0 FX13_evalTwo [rf (16081), cI (a1), cI (a2), cI (a3)] G (fun r G => ∃ v, r = cI v ∧ inI v ∧ Q v G) := by
  unfold FX13_evalTwo
  refine g_ent (lv' := [rf (16081), cI (a1), cI (a2), cI (a3)]) (flR (flI (flI (flI fl0)))) (Nat.le_of_ble_eq_true rfl) rfl ?_
  exact TX13_evalTwo_0 ha1 ha2 ha3 h
def PX13_named_352 (J : Nat → List Int → gS → (Int → gS → Prop) → Prop) (l1 : Int) (l2 : Int) (l3 : Int) (l5 : Int) (l7 : Int) (l8 : Int) (G : gS) (Q : Int → gS → Prop) : Prop :=
  Q (-2) G
set_option maxRecDepth 20000 in
theorem TX13_named_352 {j : Nat → rx_K} {J : Nat → List Int → gS → (Int → gS → Prop) → Prop} {l1 : Int} {l2 : Int} {l3 : Int} {l4 : Nat} {l5 : Int} {l6 : Nat} {l7 : Int} {l8 : Int} {l9 : Nat} {G : gS} {Q : Int → gS → Prop} (hl1 : inI l1) (hl2 : inI l2) (hl3 : inL l3) (hl4 : l4 % 8 ≠ 1) (hl5 : inL l5) (hl6 : l6 % 8 ≠ 1) (hl7 : inI l7) (hl8 : inI l8) (hl9 : l9 % 8 ≠ 1) (hj0 : ∀ (l1 : Int) (l2 : Int) (l3 : Int) (l4 : Nat) (l5 : Nat) (l6 : Nat) (l7 : Nat) (l8 : Nat) (l9 : Nat) (G : gS), (inI l1) → (inI l2) → (inL l3) → (l4 % 8 ≠ 1) → (l5 % 8 ≠ 1) → (l6 % 8 ≠ 1) → (l7 % 8 ≠ 1) → (l8 % 8 ≠ 1) → (l9 % 8 ≠ 1) → J 0 [l1, l2, l3] G Q → Tg W0 (j 0) [rf (16081), cI (l1), cI (l2), cL (l3), l4, l5, l6, l7, l8, l9] [] G (fun r G => ∃ v, r = cI v ∧ inI v ∧ Q v G)) (hj1 : ∀ (l1 : Int) (l2 : Int) (l3 : Int) (l4 : Nat) (l5 : Int) (l6 : Nat) (l7 : Nat) (l8 : Nat) (l9 : Nat) (G : gS), (inI l1) → (inI l2) → (inL l3) → (l4 % 8 ≠ 1) → (inL l5) → (l6 % 8 ≠ 1) → (l7 % 8 ≠ 1) → (l8 % 8 ≠ 1) → (l9 % 8 ≠ 1) → J 1 [l1, l2, l3, l5] G Q → Tg W0 (j 1) [rf (16081), cI (l1), cI (l2), cL (l3), l4, cL (l5), l6, l7, l8, l9] [] G (fun r G => ∃ v, r = cI v ∧ inI v ∧ Q v G)) (hj2 : ∀ (l1 : Int) (l2 : Int) (l3 : Int) (l4 : Nat) (l5 : Int) (l6 : Nat) (l7 : Int) (l8 : Int) (l9 : Nat) (G : gS), (inI l1) → (inI l2) → (inL l3) → (l4 % 8 ≠ 1) → (inL l5) → (l6 % 8 ≠ 1) → (inI l7) → (inI l8) → (l9 % 8 ≠ 1) → J 2 [l1, l2, l3, l5, l7, l8] G Q → Tg W0 (j 2) [rf (16081), cI (l1), cI (l2), cL (l3), l4, cL (l5), l6, cI (l7), cI (l8), l9] [] G (fun r G => ∃ v, r = cI v ∧ inI v ∧ Q v G)) (h : PX13_named_352 J l1 l2 l3 l5 l7 l8 G Q) : Tg W0 (vX13_named_352 j) [rf (16081), cI (l1), cI (l2), cL (l3), l4, cL (l5), l6, cI (l7), cI (l8), l9] [] G (fun r G => ∃ v, r = cI v ∧ inI v ∧ Q v G) := by
  unfold PX13_named_352 at h
  unfold vX13_named_352
  refine g_const (v := cI (-2)) rfl ?_
  exact g_ret1 (is_I _) ⟨_, rfl, ⟨by omega, by omega⟩, h⟩
def PX13_named_346 (J : Nat → List Int → gS → (Int → gS → Prop) → Prop) (l1 : Int) (l2 : Int) (l3 : Int) (l5 : Int) (l7 : Int) (l8 : Int) (l9 : Int) (G : gS) (Q : Int → gS → Prop) : Prop :=
  (inI (l8 + 1) ∧ J 2 [l1, l2, l3, l5, l7, l8 + 1] G Q)
set_option maxRecDepth 20000 in
theorem TX13_named_346 {j : Nat → rx_K} {J : Nat → List Int → gS → (Int → gS → Prop) → Prop} {l1 : Int} {l2 : Int} {l3 : Int} {l4 : Nat} {l5 : Int} {l6 : Nat} {l7 : Int} {l8 : Int} {l9 : Int} {G : gS} {Q : Int → gS → Prop} (hl1 : inI l1) (hl2 : inI l2) (hl3 : inL l3) (hl4 : l4 % 8 ≠ 1) (hl5 : inL l5) (hl6 : l6 % 8 ≠ 1) (hl7 : inI l7) (hl8 : inI l8) (hl9 : inI l9) (hj0 : ∀ (l1 : Int) (l2 : Int) (l3 : Int) (l4 : Nat) (l5 : Nat) (l6 : Nat) (l7 : Nat) (l8 : Nat) (l9 : Nat) (G : gS), (inI l1) → (inI l2) → (inL l3) → (l4 % 8 ≠ 1) → (l5 % 8 ≠ 1) → (l6 % 8 ≠ 1) → (l7 % 8 ≠ 1) → (l8 % 8 ≠ 1) → (l9 % 8 ≠ 1) → J 0 [l1, l2, l3] G Q → Tg W0 (j 0) [rf (16081), cI (l1), cI (l2), cL (l3), l4, l5, l6, l7, l8, l9] [] G (fun r G => ∃ v, r = cI v ∧ inI v ∧ Q v G)) (hj1 : ∀ (l1 : Int) (l2 : Int) (l3 : Int) (l4 : Nat) (l5 : Int) (l6 : Nat) (l7 : Nat) (l8 : Nat) (l9 : Nat) (G : gS), (inI l1) → (inI l2) → (inL l3) → (l4 % 8 ≠ 1) → (inL l5) → (l6 % 8 ≠ 1) → (l7 % 8 ≠ 1) → (l8 % 8 ≠ 1) → (l9 % 8 ≠ 1) → J 1 [l1, l2, l3, l5] G Q → Tg W0 (j 1) [rf (16081), cI (l1), cI (l2), cL (l3), l4, cL (l5), l6, l7, l8, l9] [] G (fun r G => ∃ v, r = cI v ∧ inI v ∧ Q v G)) (hj2 : ∀ (l1 : Int) (l2 : Int) (l3 : Int) (l4 : Nat) (l5 : Int) (l6 : Nat) (l7 : Int) (l8 : Int) (l9 : Nat) (G : gS), (inI l1) → (inI l2) → (inL l3) → (l4 % 8 ≠ 1) → (inL l5) → (l6 % 8 ≠ 1) → (inI l7) → (inI l8) → (l9 % 8 ≠ 1) → J 2 [l1, l2, l3, l5, l7, l8] G Q → Tg W0 (j 2) [rf (16081), cI (l1), cI (l2), cL (l3), l4, cL (l5), l6, cI (l7), cI (l8), l9] [] G (fun r G => ∃ v, r = cI v ∧ inI v ∧ Q v G)) (h : PX13_named_346 J l1 l2 l3 l5 l7 l8 l9 G Q) : Tg W0 (vX13_named_346 j) [rf (16081), cI (l1), cI (l2), cL (l3), l4, cL (l5), l6, cI (l7), cI (l8), cI (l9)] [] G (fun r G => ∃ v, r = cI v ∧ inI v ∧ Q v G) := by
  unfold PX13_named_346 at h
  unfold vX13_named_346
  refine g_inc (lv' := [_, _, _, _, _, _, _, _, _, _]) rfl (Nat.le_of_ble_eq_true rfl) (Or.inr (n1_I _)) rfl ?_
  obtain ⟨q120, h⟩ := h
  exact hj2 _ _ _ _ _ _ _ _ _ _ hl1 hl2 hl3 hl4 hl5 hl6 hl7 q120 (n1_I _) h
def PX13_named_258 (J : Nat → List Int → gS → (Int → gS → Prop) → Prop) (l1 : Int) (l2 : Int) (l3 : Int) (l5 : Int) (l7 : Int) (l8 : Int) (G : gS) (Q : Int → gS → Prop) : Prop :=
  ((l7 = -2 → PX13_named_352 J l1 l2 l3 l5 l7 l8 G Q) ∧ (¬ (l7 = -2) → ((0 : Int) ≤ l7 ∧ ((l7 : Int) < 216 ∧ (inI (G 16115 l7) → ((l8 < G 16115 l7 → (inI ((l7 * 34) + l8) ∧ ((0 : Int) ≤ (l7 * 34) + l8 ∧ (((l7 * 34) + l8 : Int) < 7344 ∧ (inI (G 16116 ((l7 * 34) + l8)) → ((G 16116 ((l7 * 34) + l8) = 1 → ((0 : Int) ≤ (l7 * 34) + l8 ∧ (((l7 * 34) + l8 : Int) < 7344 ∧ (inL (G 16125 ((l7 * 34) + l8)) → ((G 16125 ((l7 * 34) + l8) = l5 → ((0 : Int) ≤ (l7 * 34) + l8 ∧ (((l7 * 34) + l8 : Int) < 7344 ∧ (inI (G 16129 ((l7 * 34) + l8)) → ((G 16129 ((l7 * 34) + l8) = 0 → ((0 : Int) ≤ (l7 * 34) + l8 ∧ (((l7 * 34) + l8 : Int) < 7344 ∧ ((0 ≤ G 16119 ((l7 * 34) + l8) ∧ G 16119 ((l7 * 34) + l8) ≤ 1) → ((G 16119 ((l7 * 34) + l8) = 0 → PX13_named_346 J l1 l2 l3 l5 l7 l8 ((l7 * 34) + l8) G Q) ∧ (¬ (G 16119 ((l7 * 34) + l8) = 0) → ((0 : Int) ≤ (l7 * 34) + l8 ∧ (((l7 * 34) + l8 : Int) < 7344 ∧ (inI (G 16135 ((l7 * 34) + l8)) → ((G 16135 ((l7 * 34) + l8) = -2 → PX13_named_346 J l1 l2 l3 l5 l7 l8 ((l7 * 34) + l8) G Q) ∧ (¬ (G 16135 ((l7 * 34) + l8) = -2) → Q ((l7 * 34) + l8) G))))))))))) ∧ (¬ (G 16129 ((l7 * 34) + l8) = 0) → PX13_named_346 J l1 l2 l3 l5 l7 l8 ((l7 * 34) + l8) G Q)))))) ∧ (¬ (G 16125 ((l7 * 34) + l8) = l5) → PX13_named_346 J l1 l2 l3 l5 l7 l8 ((l7 * 34) + l8) G Q)))))) ∧ (¬ (G 16116 ((l7 * 34) + l8) = 1) → PX13_named_346 J l1 l2 l3 l5 l7 l8 ((l7 * 34) + l8) G Q))))))) ∧ (¬ (l8 < G 16115 l7) → PX13_named_352 J l1 l2 l3 l5 l7 l8 G Q)))))))
set_option maxRecDepth 20000 in
theorem TX13_named_258 {j : Nat → rx_K} {J : Nat → List Int → gS → (Int → gS → Prop) → Prop} {l1 : Int} {l2 : Int} {l3 : Int} {l4 : Nat} {l5 : Int} {l6 : Nat} {l7 : Int} {l8 : Int} {l9 : Nat} {G : gS} {Q : Int → gS → Prop} (hl1 : inI l1) (hl2 : inI l2) (hl3 : inL l3) (hl4 : l4 % 8 ≠ 1) (hl5 : inL l5) (hl6 : l6 % 8 ≠ 1) (hl7 : inI l7) (hl8 : inI l8) (hl9 : l9 % 8 ≠ 1) (hj0 : ∀ (l1 : Int) (l2 : Int) (l3 : Int) (l4 : Nat) (l5 : Nat) (l6 : Nat) (l7 : Nat) (l8 : Nat) (l9 : Nat) (G : gS), (inI l1) → (inI l2) → (inL l3) → (l4 % 8 ≠ 1) → (l5 % 8 ≠ 1) → (l6 % 8 ≠ 1) → (l7 % 8 ≠ 1) → (l8 % 8 ≠ 1) → (l9 % 8 ≠ 1) → J 0 [l1, l2, l3] G Q → Tg W0 (j 0) [rf (16081), cI (l1), cI (l2), cL (l3), l4, l5, l6, l7, l8, l9] [] G (fun r G => ∃ v, r = cI v ∧ inI v ∧ Q v G)) (hj1 : ∀ (l1 : Int) (l2 : Int) (l3 : Int) (l4 : Nat) (l5 : Int) (l6 : Nat) (l7 : Nat) (l8 : Nat) (l9 : Nat) (G : gS), (inI l1) → (inI l2) → (inL l3) → (l4 % 8 ≠ 1) → (inL l5) → (l6 % 8 ≠ 1) → (l7 % 8 ≠ 1) → (l8 % 8 ≠ 1) → (l9 % 8 ≠ 1) → J 1 [l1, l2, l3, l5] G Q → Tg W0 (j 1) [rf (16081), cI (l1), cI (l2), cL (l3), l4, cL (l5), l6, l7, l8, l9] [] G (fun r G => ∃ v, r = cI v ∧ inI v ∧ Q v G)) (hj2 : ∀ (l1 : Int) (l2 : Int) (l3 : Int) (l4 : Nat) (l5 : Int) (l6 : Nat) (l7 : Int) (l8 : Int) (l9 : Nat) (G : gS), (inI l1) → (inI l2) → (inL l3) → (l4 % 8 ≠ 1) → (inL l5) → (l6 % 8 ≠ 1) → (inI l7) → (inI l8) → (l9 % 8 ≠ 1) → J 2 [l1, l2, l3, l5, l7, l8] G Q → Tg W0 (j 2) [rf (16081), cI (l1), cI (l2), cL (l3), l4, cL (l5), l6, cI (l7), cI (l8), l9] [] G (fun r G => ∃ v, r = cI v ∧ inI v ∧ Q v G)) (h : PX13_named_258 J l1 l2 l3 l5 l7 l8 G Q) : Tg W0 (vX13_named_258 j) [rf (16081), cI (l1), cI (l2), cL (l3), l4, cL (l5), l6, cI (l7), cI (l8), l9] [] G (fun r G => ∃ v, r = cI v ∧ inI v ∧ Q v G) := by
  unfold PX13_named_258 at h
  unfold vX13_named_258
  refine g_ld (v := cI _) rfl (is_I _) ?_
  refine g_const (v := cI (-2)) rfl ?_
  refine g_eq2 hl7 ⟨by omega, by omega⟩ (fun b94 => ?_) (fun b94 => ?_)
  · replace h := h.1 b94
    exact TX13_named_352 hl1 hl2 hl3 hl4 hl5 hl6 hl7 hl8 hl9 hj0 hj1 hj2 h
  · replace h := h.2 b94
    unfold vX13_named_265
    refine g_ld (v := cI _) rfl (is_I _) ?_
    refine g_ld (v := rf _) rfl (is_R _) ?_
    refine g_getF (v := 16115) oC13 (hC13_41) rfl (Nat.le_of_ble_eq_true rfl) (Nat.le_of_ble_eq_true rfl) ?_
    refine g_ld (v := cI _) rfl (is_I _) ?_
    obtain ⟨q95, q96, h⟩ := h
    refine g_aldI aC16115 q95 q96 rfl fun i97 => ?_
    replace h := h i97
    refine g_lt2 hl8 i97 (fun b98 => ?_) (fun b98 => ?_)
    · replace h := h.1 b98
      unfold vX13_named_277
      refine g_ld (v := cI _) rfl (is_I _) ?_
      refine g_const (v := cI (34)) rfl ?_
      refine g_mul ?_
      refine g_ld (v := cI _) rfl (is_I _) ?_
      refine g_add ?_
      refine g_st (lv' := [_, _, _, _, _, _, _, _, _, _]) (is_I _) (Nat.le_of_ble_eq_true rfl) (Or.inr (n1_I _)) rfl ?_
      obtain ⟨q99, h⟩ := h
      refine g_ld (v := rf _) rfl (is_R _) ?_
      refine g_getF (v := 16116) oC13 (hC13_42) rfl (Nat.le_of_ble_eq_true rfl) (Nat.le_of_ble_eq_true rfl) ?_
      refine g_ld (v := cI _) rfl (is_I _) ?_
      obtain ⟨q100, q101, h⟩ := h
      refine g_aldI aC16116 q100 q101 rfl fun i102 => ?_
      replace h := h i102
      refine g_const (v := cI (1)) rfl ?_
      refine g_eq2 i102 ⟨by omega, by omega⟩ (fun b103 => ?_) (fun b103 => ?_)
      · replace h := h.1 b103
        unfold vX13_named_298
        refine g_ld (v := rf _) rfl (is_R _) ?_
        refine g_getF (v := 16125) oC13 (hC13_51) rfl (Nat.le_of_ble_eq_true rfl) (Nat.le_of_ble_eq_true rfl) ?_
        refine g_ld (v := cI _) rfl (is_I _) ?_
        obtain ⟨q104, q105, h⟩ := h
        refine g_aldL aC16125 q104 q105 rfl fun i106 => ?_
        replace h := h i106
        refine g_ld (v := cL _) rfl (is_L _) ?_
        refine g_leq i106 hl5 (fun b107 => ?_) (fun b107 => ?_)
        · replace h := h.1 b107
          unfold vX13_named_311
          refine g_ld (v := rf _) rfl (is_R _) ?_
          refine g_getF (v := 16129) oC13 (hC13_55) rfl (Nat.le_of_ble_eq_true rfl) (Nat.le_of_ble_eq_true rfl) ?_
          refine g_ld (v := cI _) rfl (is_I _) ?_
          obtain ⟨q108, q109, h⟩ := h
          refine g_aldI aC16129 q108 q109 rfl fun i110 => ?_
          replace h := h i110
          refine g_eq1 i110 (fun b111 => ?_) (fun b111 => ?_)
          · replace h := h.1 b111
            unfold vX13_named_321
            refine g_ld (v := rf _) rfl (is_R _) ?_
            refine g_getF (v := 16119) oC13 (hC13_45) rfl (Nat.le_of_ble_eq_true rfl) (Nat.le_of_ble_eq_true rfl) ?_
            refine g_ld (v := cI _) rfl (is_I _) ?_
            obtain ⟨q112, q113, h⟩ := h
            refine g_aldZ aC16119 q112 q113 rfl fun i114 => ?_
            replace h := h i114
            refine g_eq1 ⟨by omega, by omega⟩ (fun b115 => ?_) (fun b115 => ?_)
            · replace h := h.1 b115
              exact TX13_named_346 hl1 hl2 hl3 hl4 hl5 hl6 hl7 hl8 q99 hj0 hj1 hj2 h
            · replace h := h.2 b115
              unfold vX13_named_331
              refine g_ld (v := rf _) rfl (is_R _) ?_
              refine g_getF (v := 16135) oC13 (hC13_61) rfl (Nat.le_of_ble_eq_true rfl) (Nat.le_of_ble_eq_true rfl) ?_
              refine g_ld (v := cI _) rfl (is_I _) ?_
              obtain ⟨q116, q117, h⟩ := h
              refine g_aldI aC16135 q116 q117 rfl fun i118 => ?_
              replace h := h i118
              refine g_const (v := cI (-2)) rfl ?_
              refine g_eq2 i118 ⟨by omega, by omega⟩ (fun b119 => ?_) (fun b119 => ?_)
              · replace h := h.1 b119
                exact TX13_named_346 hl1 hl2 hl3 hl4 hl5 hl6 hl7 hl8 q99 hj0 hj1 hj2 h
              · replace h := h.2 b119
                unfold vX13_named_343
                refine g_ld (v := cI _) rfl (is_I _) ?_
                exact g_ret1 (is_I _) ⟨_, rfl, q99, h⟩
          · replace h := h.2 b111
            exact TX13_named_346 hl1 hl2 hl3 hl4 hl5 hl6 hl7 hl8 q99 hj0 hj1 hj2 h
        · replace h := h.2 b107
          exact TX13_named_346 hl1 hl2 hl3 hl4 hl5 hl6 hl7 hl8 q99 hj0 hj1 hj2 h
      · replace h := h.2 b103
        exact TX13_named_346 hl1 hl2 hl3 hl4 hl5 hl6 hl7 hl8 q99 hj0 hj1 hj2 h
    · replace h := h.2 b98
      exact TX13_named_352 hl1 hl2 hl3 hl4 hl5 hl6 hl7 hl8 hl9 hj0 hj1 hj2 h
def PX13_named_253 (J : Nat → List Int → gS → (Int → gS → Prop) → Prop) (l1 : Int) (l2 : Int) (l3 : Int) (l5 : Int) (s0 : Int) (G : gS) (Q : Int → gS → Prop) : Prop :=
  PX13_named_258 J l1 l2 l3 l5 s0 0 G Q
set_option maxRecDepth 20000 in
theorem TX13_named_253 {j : Nat → rx_K} {J : Nat → List Int → gS → (Int → gS → Prop) → Prop} {l1 : Int} {l2 : Int} {l3 : Int} {l4 : Nat} {l5 : Int} {l6 : Nat} {l7 : Nat} {l8 : Nat} {l9 : Nat} {s0 : Int} {G : gS} {Q : Int → gS → Prop} (hl1 : inI l1) (hl2 : inI l2) (hl3 : inL l3) (hl4 : l4 % 8 ≠ 1) (hl5 : inL l5) (hl6 : l6 % 8 ≠ 1) (hl7 : l7 % 8 ≠ 1) (hl8 : l8 % 8 ≠ 1) (hl9 : l9 % 8 ≠ 1) (hs0 : inI s0) (hj0 : ∀ (l1 : Int) (l2 : Int) (l3 : Int) (l4 : Nat) (l5 : Nat) (l6 : Nat) (l7 : Nat) (l8 : Nat) (l9 : Nat) (G : gS), (inI l1) → (inI l2) → (inL l3) → (l4 % 8 ≠ 1) → (l5 % 8 ≠ 1) → (l6 % 8 ≠ 1) → (l7 % 8 ≠ 1) → (l8 % 8 ≠ 1) → (l9 % 8 ≠ 1) → J 0 [l1, l2, l3] G Q → Tg W0 (j 0) [rf (16081), cI (l1), cI (l2), cL (l3), l4, l5, l6, l7, l8, l9] [] G (fun r G => ∃ v, r = cI v ∧ inI v ∧ Q v G)) (hj1 : ∀ (l1 : Int) (l2 : Int) (l3 : Int) (l4 : Nat) (l5 : Int) (l6 : Nat) (l7 : Nat) (l8 : Nat) (l9 : Nat) (G : gS), (inI l1) → (inI l2) → (inL l3) → (l4 % 8 ≠ 1) → (inL l5) → (l6 % 8 ≠ 1) → (l7 % 8 ≠ 1) → (l8 % 8 ≠ 1) → (l9 % 8 ≠ 1) → J 1 [l1, l2, l3, l5] G Q → Tg W0 (j 1) [rf (16081), cI (l1), cI (l2), cL (l3), l4, cL (l5), l6, l7, l8, l9] [] G (fun r G => ∃ v, r = cI v ∧ inI v ∧ Q v G)) (hj2 : ∀ (l1 : Int) (l2 : Int) (l3 : Int) (l4 : Nat) (l5 : Int) (l6 : Nat) (l7 : Int) (l8 : Int) (l9 : Nat) (G : gS), (inI l1) → (inI l2) → (inL l3) → (l4 % 8 ≠ 1) → (inL l5) → (l6 % 8 ≠ 1) → (inI l7) → (inI l8) → (l9 % 8 ≠ 1) → J 2 [l1, l2, l3, l5, l7, l8] G Q → Tg W0 (j 2) [rf (16081), cI (l1), cI (l2), cL (l3), l4, cL (l5), l6, cI (l7), cI (l8), l9] [] G (fun r G => ∃ v, r = cI v ∧ inI v ∧ Q v G)) (h : PX13_named_253 J l1 l2 l3 l5 s0 G Q) : Tg W0 (vX13_named_253 j) [rf (16081), cI (l1), cI (l2), cL (l3), l4, cL (l5), l6, l7, l8, l9] [cI (s0)] G (fun r G => ∃ v, r = cI v ∧ inI v ∧ Q v G) := by
  unfold PX13_named_253 at h
  unfold vX13_named_253
  refine g_st (lv' := [_, _, _, _, _, _, _, _, _, _]) (is_I _) (Nat.le_of_ble_eq_true rfl) (Or.inr hl6) rfl ?_
  refine g_const (v := cI (0)) rfl ?_
  refine g_st (lv' := [_, _, _, _, _, _, _, _, _, _]) (is_I _) (Nat.le_of_ble_eq_true rfl) (Or.inr (n1_I _)) rfl ?_
  exact TX13_named_258 hl1 hl2 hl3 hl4 hl5 hl6 hs0 ⟨by omega, by omega⟩ hl9 hj0 hj1 hj2 h
def PX13_named_239 (J : Nat → List Int → gS → (Int → gS → Prop) → Prop) (l1 : Int) (l2 : Int) (l3 : Int) (l5 : Int) (G : gS) (Q : Int → gS → Prop) : Prop :=
  PX13_named_253 J l1 l2 l3 l5 (-2) G Q
set_option maxRecDepth 20000 in
theorem TX13_named_239 {j : Nat → rx_K} {J : Nat → List Int → gS → (Int → gS → Prop) → Prop} {l1 : Int} {l2 : Int} {l3 : Int} {l4 : Nat} {l5 : Int} {l6 : Nat} {l7 : Nat} {l8 : Nat} {l9 : Nat} {G : gS} {Q : Int → gS → Prop} (hl1 : inI l1) (hl2 : inI l2) (hl3 : inL l3) (hl4 : l4 % 8 ≠ 1) (hl5 : inL l5) (hl6 : l6 % 8 ≠ 1) (hl7 : l7 % 8 ≠ 1) (hl8 : l8 % 8 ≠ 1) (hl9 : l9 % 8 ≠ 1) (hj0 : ∀ (l1 : Int) (l2 : Int) (l3 : Int) (l4 : Nat) (l5 : Nat) (l6 : Nat) (l7 : Nat) (l8 : Nat) (l9 : Nat) (G : gS), (inI l1) → (inI l2) → (inL l3) → (l4 % 8 ≠ 1) → (l5 % 8 ≠ 1) → (l6 % 8 ≠ 1) → (l7 % 8 ≠ 1) → (l8 % 8 ≠ 1) → (l9 % 8 ≠ 1) → J 0 [l1, l2, l3] G Q → Tg W0 (j 0) [rf (16081), cI (l1), cI (l2), cL (l3), l4, l5, l6, l7, l8, l9] [] G (fun r G => ∃ v, r = cI v ∧ inI v ∧ Q v G)) (hj1 : ∀ (l1 : Int) (l2 : Int) (l3 : Int) (l4 : Nat) (l5 : Int) (l6 : Nat) (l7 : Nat) (l8 : Nat) (l9 : Nat) (G : gS), (inI l1) → (inI l2) → (inL l3) → (l4 % 8 ≠ 1) → (inL l5) → (l6 % 8 ≠ 1) → (l7 % 8 ≠ 1) → (l8 % 8 ≠ 1) → (l9 % 8 ≠ 1) → J 1 [l1, l2, l3, l5] G Q → Tg W0 (j 1) [rf (16081), cI (l1), cI (l2), cL (l3), l4, cL (l5), l6, l7, l8, l9] [] G (fun r G => ∃ v, r = cI v ∧ inI v ∧ Q v G)) (hj2 : ∀ (l1 : Int) (l2 : Int) (l3 : Int) (l4 : Nat) (l5 : Int) (l6 : Nat) (l7 : Int) (l8 : Int) (l9 : Nat) (G : gS), (inI l1) → (inI l2) → (inL l3) → (l4 % 8 ≠ 1) → (inL l5) → (l6 % 8 ≠ 1) → (inI l7) → (inI l8) → (l9 % 8 ≠ 1) → J 2 [l1, l2, l3, l5, l7, l8] G Q → Tg W0 (j 2) [rf (16081), cI (l1), cI (l2), cL (l3), l4, cL (l5), l6, cI (l7), cI (l8), l9] [] G (fun r G => ∃ v, r = cI v ∧ inI v ∧ Q v G)) (h : PX13_named_239 J l1 l2 l3 l5 G Q) : Tg W0 (vX13_named_239 j) [rf (16081), cI (l1), cI (l2), cL (l3), l4, cL (l5), l6, l7, l8, l9] [] G (fun r G => ∃ v, r = cI v ∧ inI v ∧ Q v G) := by
  unfold PX13_named_239 at h
  unfold vX13_named_239
  refine g_const (v := cI (-2)) rfl ?_
  exact TX13_named_253 hl1 hl2 hl3 hl4 hl5 hl6 hl7 hl8 hl9 ⟨by omega, by omega⟩ hj0 hj1 hj2 h
def PX13_named_214 (J : Nat → List Int → gS → (Int → gS → Prop) → Prop) (l1 : Int) (l2 : Int) (l3 : Int) (l5 : Int) (G : gS) (Q : Int → gS → Prop) : Prop :=
  (inI (G 16081 1) → ((l2 < G 16081 1 → PX13_named_239 J l1 l2 l3 l5 G Q) ∧ (¬ (l2 < G 16081 1) → (inI (l2 - l1) ∧ ((11 < l2 - l1 → PX13_named_239 J l1 l2 l3 l5 G Q) ∧ (¬ (11 < l2 - l1) → PX13_isWord l5 G (fun r87 G86 => (0 ≤ r87 ∧ r87 ≤ 1) → ((r87 = 0 → (inL (lor l3 2305843009213693952) → PX13_find (lor l3 2305843009213693952) G86 (fun r92 G91 => inI r92 → PX13_named_253 J l1 l2 l3 l5 r92 G91 Q))) ∧ (¬ (r87 = 0) → PX13_named_239 J l1 l2 l3 l5 G86 Q)))))))))
set_option maxRecDepth 20000 in
theorem TX13_named_214 {j : Nat → rx_K} {J : Nat → List Int → gS → (Int → gS → Prop) → Prop} {l1 : Int} {l2 : Int} {l3 : Int} {l4 : Nat} {l5 : Int} {l6 : Nat} {l7 : Nat} {l8 : Nat} {l9 : Nat} {G : gS} {Q : Int → gS → Prop} (hl1 : inI l1) (hl2 : inI l2) (hl3 : inL l3) (hl4 : l4 % 8 ≠ 1) (hl5 : inL l5) (hl6 : l6 % 8 ≠ 1) (hl7 : l7 % 8 ≠ 1) (hl8 : l8 % 8 ≠ 1) (hl9 : l9 % 8 ≠ 1) (hj0 : ∀ (l1 : Int) (l2 : Int) (l3 : Int) (l4 : Nat) (l5 : Nat) (l6 : Nat) (l7 : Nat) (l8 : Nat) (l9 : Nat) (G : gS), (inI l1) → (inI l2) → (inL l3) → (l4 % 8 ≠ 1) → (l5 % 8 ≠ 1) → (l6 % 8 ≠ 1) → (l7 % 8 ≠ 1) → (l8 % 8 ≠ 1) → (l9 % 8 ≠ 1) → J 0 [l1, l2, l3] G Q → Tg W0 (j 0) [rf (16081), cI (l1), cI (l2), cL (l3), l4, l5, l6, l7, l8, l9] [] G (fun r G => ∃ v, r = cI v ∧ inI v ∧ Q v G)) (hj1 : ∀ (l1 : Int) (l2 : Int) (l3 : Int) (l4 : Nat) (l5 : Int) (l6 : Nat) (l7 : Nat) (l8 : Nat) (l9 : Nat) (G : gS), (inI l1) → (inI l2) → (inL l3) → (l4 % 8 ≠ 1) → (inL l5) → (l6 % 8 ≠ 1) → (l7 % 8 ≠ 1) → (l8 % 8 ≠ 1) → (l9 % 8 ≠ 1) → J 1 [l1, l2, l3, l5] G Q → Tg W0 (j 1) [rf (16081), cI (l1), cI (l2), cL (l3), l4, cL (l5), l6, l7, l8, l9] [] G (fun r G => ∃ v, r = cI v ∧ inI v ∧ Q v G)) (hj2 : ∀ (l1 : Int) (l2 : Int) (l3 : Int) (l4 : Nat) (l5 : Int) (l6 : Nat) (l7 : Int) (l8 : Int) (l9 : Nat) (G : gS), (inI l1) → (inI l2) → (inL l3) → (l4 % 8 ≠ 1) → (inL l5) → (l6 % 8 ≠ 1) → (inI l7) → (inI l8) → (l9 % 8 ≠ 1) → J 2 [l1, l2, l3, l5, l7, l8] G Q → Tg W0 (j 2) [rf (16081), cI (l1), cI (l2), cL (l3), l4, cL (l5), l6, cI (l7), cI (l8), l9] [] G (fun r G => ∃ v, r = cI v ∧ inI v ∧ Q v G)) (h : PX13_named_214 J l1 l2 l3 l5 G Q) : Tg W0 (vX13_named_214 j) [rf (16081), cI (l1), cI (l2), cL (l3), l4, cL (l5), l6, l7, l8, l9] [] G (fun r G => ∃ v, r = cI v ∧ inI v ∧ Q v G) := by
  unfold PX13_named_214 at h
  unfold vX13_named_214
  refine g_ld (v := cI _) rfl (is_I _) ?_
  refine g_ld (v := rf _) rfl (is_R _) ?_
  refine g_getI (kz := 1) oC13 rfl (Nat.le_of_ble_eq_true rfl) rfl fun i82 => ?_
  replace h := h i82
  refine g_lt2 hl2 i82 (fun b83 => ?_) (fun b83 => ?_)
  · replace h := h.1 b83
    exact TX13_named_239 hl1 hl2 hl3 hl4 hl5 hl6 hl7 hl8 hl9 hj0 hj1 hj2 h
  · replace h := h.2 b83
    unfold vX13_named_222
    refine g_ld (v := cI _) rfl (is_I _) ?_
    refine g_ld (v := cI _) rfl (is_I _) ?_
    refine g_sub ?_
    refine g_const (v := cI (11)) rfl ?_
    obtain ⟨q84, h⟩ := h
    refine g_gt2 q84 ⟨by omega, by omega⟩ (fun b85 => ?_) (fun b85 => ?_)
    · replace h := h.1 b85
      exact TX13_named_239 hl1 hl2 hl3 hl4 hl5 hl6 hl7 hl8 hl9 hj0 hj1 hj2 h
    · replace h := h.2 b85
      unfold vX13_named_230
      refine g_ld (v := rf _) rfl (is_R _) ?_
      refine g_ld (v := cL _) rfl (is_L _) ?_
      refine g_callV (As := [_]) (ci := 13) oC13 (fun _ => rfl) ?_
      refine g_go1 (Nat.le_of_ble_eq_true rfl) (Tn_w (TX13_isWord hl5 h) fun _ G86 ⟨r87, e, i88, h⟩ => ?_)
      subst e
      refine ⟨n7_I _, ?_⟩
      replace h := h i88
      refine g_eq1 ⟨by omega, by omega⟩ (fun b89 => ?_) (fun b89 => ?_)
      · replace h := h.1 b89
        unfold vX13_named_244
        refine g_ld (v := rf _) rfl (is_R _) ?_
        refine g_ld (v := cL _) rfl (is_L _) ?_
        refine g_const (v := cL (2305843009213693952)) rfl ?_
        refine g_lor fun i90 => ?_
        replace h := h i90
        refine g_callV (As := [_]) (ci := 13) oC13 (fun _ => rfl) ?_
        refine g_go1 (Nat.le_of_ble_eq_true rfl) (Tn_w (TX13_find i90 h) fun _ G91 ⟨r92, e, i93, h⟩ => ?_)
        subst e
        refine ⟨n7_I _, ?_⟩
        replace h := h i93
        exact TX13_named_253 hl1 hl2 hl3 hl4 hl5 hl6 hl7 hl8 hl9 i93 hj0 hj1 hj2 h
      · replace h := h.2 b89
        exact TX13_named_239 hl1 hl2 hl3 hl4 hl5 hl6 hl7 hl8 hl9 hj0 hj1 hj2 h
def PX13_named_162 (J : Nat → List Int → gS → (Int → gS → Prop) → Prop) (l1 : Int) (l2 : Int) (l3 : Int) (l5 : Int) (G : gS) (Q : Int → gS → Prop) : Prop :=
  (inI (G 16081 1) → ((l2 < G 16081 1 → ((0 : Int) ≤ l2 ∧ ((l2 : Int) < 4000 ∧ (inI (G 16082 l2) → PX13_sym (G 16082 l2) G (fun r68 G67 => inI r68 → ((r68 = 0 → PX13_named_214 J l1 l2 l3 l5 G67 Q) ∧ (¬ (r68 = 0) → (inI (l2 - l1) ∧ ((l2 - l1 < 12 → (inL (lshl l5 6) → ((0 : Int) ≤ l2 ∧ ((l2 : Int) < 4000 ∧ (inI (G67 16082 l2) → PX13_sym (G67 16082 l2) G67 (fun r78 G77 => inI r78 → (inL (lor (lshl l5 6) r78) → (inI (l2 + 1) ∧ J 1 [l1, l2 + 1, l3, lor (lshl l5 6) r78] G77 Q)))))))) ∧ (¬ (l2 - l1 < 12) → PX13_named_214 J l1 l2 l3 l5 G67 Q)))))))))) ∧ (¬ (l2 < G 16081 1) → PX13_named_214 J l1 l2 l3 l5 G Q)))
set_option maxRecDepth 20000 in
theorem TX13_named_162 {j : Nat → rx_K} {J : Nat → List Int → gS → (Int → gS → Prop) → Prop} {l1 : Int} {l2 : Int} {l3 : Int} {l4 : Nat} {l5 : Int} {l6 : Nat} {l7 : Nat} {l8 : Nat} {l9 : Nat} {G : gS} {Q : Int → gS → Prop} (hl1 : inI l1) (hl2 : inI l2) (hl3 : inL l3) (hl4 : l4 % 8 ≠ 1) (hl5 : inL l5) (hl6 : l6 % 8 ≠ 1) (hl7 : l7 % 8 ≠ 1) (hl8 : l8 % 8 ≠ 1) (hl9 : l9 % 8 ≠ 1) (hj0 : ∀ (l1 : Int) (l2 : Int) (l3 : Int) (l4 : Nat) (l5 : Nat) (l6 : Nat) (l7 : Nat) (l8 : Nat) (l9 : Nat) (G : gS), (inI l1) → (inI l2) → (inL l3) → (l4 % 8 ≠ 1) → (l5 % 8 ≠ 1) → (l6 % 8 ≠ 1) → (l7 % 8 ≠ 1) → (l8 % 8 ≠ 1) → (l9 % 8 ≠ 1) → J 0 [l1, l2, l3] G Q → Tg W0 (j 0) [rf (16081), cI (l1), cI (l2), cL (l3), l4, l5, l6, l7, l8, l9] [] G (fun r G => ∃ v, r = cI v ∧ inI v ∧ Q v G)) (hj1 : ∀ (l1 : Int) (l2 : Int) (l3 : Int) (l4 : Nat) (l5 : Int) (l6 : Nat) (l7 : Nat) (l8 : Nat) (l9 : Nat) (G : gS), (inI l1) → (inI l2) → (inL l3) → (l4 % 8 ≠ 1) → (inL l5) → (l6 % 8 ≠ 1) → (l7 % 8 ≠ 1) → (l8 % 8 ≠ 1) → (l9 % 8 ≠ 1) → J 1 [l1, l2, l3, l5] G Q → Tg W0 (j 1) [rf (16081), cI (l1), cI (l2), cL (l3), l4, cL (l5), l6, l7, l8, l9] [] G (fun r G => ∃ v, r = cI v ∧ inI v ∧ Q v G)) (hj2 : ∀ (l1 : Int) (l2 : Int) (l3 : Int) (l4 : Nat) (l5 : Int) (l6 : Nat) (l7 : Int) (l8 : Int) (l9 : Nat) (G : gS), (inI l1) → (inI l2) → (inL l3) → (l4 % 8 ≠ 1) → (inL l5) → (l6 % 8 ≠ 1) → (inI l7) → (inI l8) → (l9 % 8 ≠ 1) → J 2 [l1, l2, l3, l5, l7, l8] G Q → Tg W0 (j 2) [rf (16081), cI (l1), cI (l2), cL (l3), l4, cL (l5), l6, cI (l7), cI (l8), l9] [] G (fun r G => ∃ v, r = cI v ∧ inI v ∧ Q v G)) (h : PX13_named_162 J l1 l2 l3 l5 G Q) : Tg W0 (vX13_named_162 j) [rf (16081), cI (l1), cI (l2), cL (l3), l4, cL (l5), l6, l7, l8, l9] [] G (fun r G => ∃ v, r = cI v ∧ inI v ∧ Q v G) := by
  unfold PX13_named_162 at h
  unfold vX13_named_162
  refine g_ld (v := cI _) rfl (is_I _) ?_
  refine g_ld (v := rf _) rfl (is_R _) ?_
  refine g_getI (kz := 1) oC13 rfl (Nat.le_of_ble_eq_true rfl) rfl fun i62 => ?_
  replace h := h i62
  refine g_lt2 hl2 i62 (fun b63 => ?_) (fun b63 => ?_)
  · replace h := h.1 b63
    unfold vX13_named_170
    refine g_ld (v := rf _) rfl (is_R _) ?_
    refine g_getF (v := 16082) oC13 (hC13_0) rfl (Nat.le_of_ble_eq_true rfl) (Nat.le_of_ble_eq_true rfl) ?_
    refine g_ld (v := cI _) rfl (is_I _) ?_
    obtain ⟨q64, q65, h⟩ := h
    refine g_aldI aC16082 q64 q65 rfl fun i66 => ?_
    replace h := h i66
    refine g_callS (As := [_]) (fun _ => rfl) ?_
    refine g_go1 (Nat.le_of_ble_eq_true rfl) (Tn_w (TX13_sym i66 h) fun _ G67 ⟨r68, e, i69, h⟩ => ?_)
    subst e
    refine ⟨n7_I _, ?_⟩
    replace h := h i69
    refine g_eq1 i69 (fun b70 => ?_) (fun b70 => ?_)
    · replace h := h.1 b70
      exact TX13_named_214 hl1 hl2 hl3 hl4 hl5 hl6 hl7 hl8 hl9 hj0 hj1 hj2 h
    · replace h := h.2 b70
      unfold vX13_named_182
      refine g_ld (v := cI _) rfl (is_I _) ?_
      refine g_ld (v := cI _) rfl (is_I _) ?_
      refine g_sub ?_
      refine g_const (v := cI (12)) rfl ?_
      obtain ⟨q71, h⟩ := h
      refine g_lt2 q71 ⟨by omega, by omega⟩ (fun b72 => ?_) (fun b72 => ?_)
      · replace h := h.1 b72
        unfold vX13_named_190
        refine g_ld (v := cL _) rfl (is_L _) ?_
        refine g_const (v := cI (6)) rfl ?_
        refine g_lshl fun i73 => ?_
        replace h := h i73
        refine g_ld (v := rf _) rfl (is_R _) ?_
        refine g_getF (v := 16082) oC13 (hC13_0) rfl (Nat.le_of_ble_eq_true rfl) (Nat.le_of_ble_eq_true rfl) ?_
        refine g_ld (v := cI _) rfl (is_I _) ?_
        obtain ⟨q74, q75, h⟩ := h
        refine g_aldI aC16082 q74 q75 rfl fun i76 => ?_
        replace h := h i76
        refine g_callS (As := [_]) (fun _ => rfl) ?_
        refine g_go1 (by simp only [cs_c, cs_0, ct_I, ct_L, ct_R]; exact Nat.le_of_ble_eq_true rfl) (Tn_w (TX13_sym i76 h) fun _ G77 ⟨r78, e, i79, h⟩ => ?_)
        subst e
        refine ⟨n7_I _, ?_⟩
        replace h := h i79
        refine g_i2l i79 ?_
        refine g_lor fun i80 => ?_
        replace h := h i80
        refine g_stL (lv' := [_, _, _, _, _, _, _, _, _, _]) (Nat.le_of_ble_eq_true rfl) (Or.inr hl4) rfl ?_
        refine g_inc (lv' := [_, _, _, _, _, _, _, _, _, _]) rfl (Nat.le_of_ble_eq_true rfl) (Or.inr (n1_I _)) rfl ?_
        obtain ⟨q81, h⟩ := h
        exact hj1 _ _ _ _ _ _ _ _ _ _ hl1 q81 hl3 hl4 i80 (show 7 % 8 ≠ 1 by decide) hl7 hl8 hl9 h
      · replace h := h.2 b72
        exact TX13_named_214 hl1 hl2 hl3 hl4 hl5 hl6 hl7 hl8 hl9 hj0 hj1 hj2 h
  · replace h := h.2 b63
    exact TX13_named_214 hl1 hl2 hl3 hl4 hl5 hl6 hl7 hl8 hl9 hj0 hj1 hj2 h
def PX13_named_152 (J : Nat → List Int → gS → (Int → gS → Prop) → Prop) (l1 : Int) (l2 : Int) (l3 : Int) (G : gS) (Q : Int → gS → Prop) : Prop :=
  Q (-2) G
set_option maxRecDepth 20000 in
theorem TX13_named_152 {j : Nat → rx_K} {J : Nat → List Int → gS → (Int → gS → Prop) → Prop} {l1 : Int} {l2 : Int} {l3 : Int} {l4 : Nat} {l5 : Nat} {l6 : Nat} {l7 : Nat} {l8 : Nat} {l9 : Nat} {G : gS} {Q : Int → gS → Prop} (hl1 : inI l1) (hl2 : inI l2) (hl3 : inL l3) (hl4 : l4 % 8 ≠ 1) (hl5 : l5 % 8 ≠ 1) (hl6 : l6 % 8 ≠ 1) (hl7 : l7 % 8 ≠ 1) (hl8 : l8 % 8 ≠ 1) (hl9 : l9 % 8 ≠ 1) (hj0 : ∀ (l1 : Int) (l2 : Int) (l3 : Int) (l4 : Nat) (l5 : Nat) (l6 : Nat) (l7 : Nat) (l8 : Nat) (l9 : Nat) (G : gS), (inI l1) → (inI l2) → (inL l3) → (l4 % 8 ≠ 1) → (l5 % 8 ≠ 1) → (l6 % 8 ≠ 1) → (l7 % 8 ≠ 1) → (l8 % 8 ≠ 1) → (l9 % 8 ≠ 1) → J 0 [l1, l2, l3] G Q → Tg W0 (j 0) [rf (16081), cI (l1), cI (l2), cL (l3), l4, l5, l6, l7, l8, l9] [] G (fun r G => ∃ v, r = cI v ∧ inI v ∧ Q v G)) (hj1 : ∀ (l1 : Int) (l2 : Int) (l3 : Int) (l4 : Nat) (l5 : Int) (l6 : Nat) (l7 : Nat) (l8 : Nat) (l9 : Nat) (G : gS), (inI l1) → (inI l2) → (inL l3) → (l4 % 8 ≠ 1) → (inL l5) → (l6 % 8 ≠ 1) → (l7 % 8 ≠ 1) → (l8 % 8 ≠ 1) → (l9 % 8 ≠ 1) → J 1 [l1, l2, l3, l5] G Q → Tg W0 (j 1) [rf (16081), cI (l1), cI (l2), cL (l3), l4, cL (l5), l6, l7, l8, l9] [] G (fun r G => ∃ v, r = cI v ∧ inI v ∧ Q v G)) (hj2 : ∀ (l1 : Int) (l2 : Int) (l3 : Int) (l4 : Nat) (l5 : Int) (l6 : Nat) (l7 : Int) (l8 : Int) (l9 : Nat) (G : gS), (inI l1) → (inI l2) → (inL l3) → (l4 % 8 ≠ 1) → (inL l5) → (l6 % 8 ≠ 1) → (inI l7) → (inI l8) → (l9 % 8 ≠ 1) → J 2 [l1, l2, l3, l5, l7, l8] G Q → Tg W0 (j 2) [rf (16081), cI (l1), cI (l2), cL (l3), l4, cL (l5), l6, cI (l7), cI (l8), l9] [] G (fun r G => ∃ v, r = cI v ∧ inI v ∧ Q v G)) (h : PX13_named_152 J l1 l2 l3 G Q) : Tg W0 (vX13_named_152 j) [rf (16081), cI (l1), cI (l2), cL (l3), l4, l5, l6, l7, l8, l9] [] G (fun r G => ∃ v, r = cI v ∧ inI v ∧ Q v G) := by
  unfold PX13_named_152 at h
  unfold vX13_named_152
  refine g_const (v := cI (-2)) rfl ?_
  exact g_ret1 (is_I _) ⟨_, rfl, ⟨by omega, by omega⟩, h⟩
def PX13_named_111 (J : Nat → List Int → gS → (Int → gS → Prop) → Prop) (l1 : Int) (l2 : Int) (l3 : Int) (G : gS) (Q : Int → gS → Prop) : Prop :=
  ((11 < l1 → PX13_named_152 J l1 l2 l3 G Q) ∧ (¬ (11 < l1) → (inI (G 16081 1) → (inI (l1 + 1) ∧ ((l1 + 1 < G 16081 1 → ((0 : Int) ≤ l1 ∧ ((l1 : Int) < 4000 ∧ (inI (G 16082 l1) → ((G 16082 l1 = 46 → ((0 : Int) ≤ l1 + 1 ∧ ((l1 + 1 : Int) < 4000 ∧ (inI (G 16082 (l1 + 1)) → PX13_isSmall (G 16082 (l1 + 1)) G (fun r58 G57 => (0 ≤ r58 ∧ r58 ≤ 1) → ((r58 = 0 → PX13_named_152 J l1 l2 l3 G57 Q) ∧ (¬ (r58 = 0) → (inI (l1 + 1) ∧ PX13_named_162 J l1 (l1 + 1) l3 0 G57 Q)))))))) ∧ (¬ (G 16082 l1 = 46) → PX13_named_152 J l1 l2 l3 G Q)))))) ∧ (¬ (l1 + 1 < G 16081 1) → PX13_named_152 J l1 l2 l3 G Q))))))
set_option maxRecDepth 20000 in
theorem TX13_named_111 {j : Nat → rx_K} {J : Nat → List Int → gS → (Int → gS → Prop) → Prop} {l1 : Int} {l2 : Int} {l3 : Int} {l4 : Nat} {l5 : Nat} {l6 : Nat} {l7 : Nat} {l8 : Nat} {l9 : Nat} {G : gS} {Q : Int → gS → Prop} (hl1 : inI l1) (hl2 : inI l2) (hl3 : inL l3) (hl4 : l4 % 8 ≠ 1) (hl5 : l5 % 8 ≠ 1) (hl6 : l6 % 8 ≠ 1) (hl7 : l7 % 8 ≠ 1) (hl8 : l8 % 8 ≠ 1) (hl9 : l9 % 8 ≠ 1) (hj0 : ∀ (l1 : Int) (l2 : Int) (l3 : Int) (l4 : Nat) (l5 : Nat) (l6 : Nat) (l7 : Nat) (l8 : Nat) (l9 : Nat) (G : gS), (inI l1) → (inI l2) → (inL l3) → (l4 % 8 ≠ 1) → (l5 % 8 ≠ 1) → (l6 % 8 ≠ 1) → (l7 % 8 ≠ 1) → (l8 % 8 ≠ 1) → (l9 % 8 ≠ 1) → J 0 [l1, l2, l3] G Q → Tg W0 (j 0) [rf (16081), cI (l1), cI (l2), cL (l3), l4, l5, l6, l7, l8, l9] [] G (fun r G => ∃ v, r = cI v ∧ inI v ∧ Q v G)) (hj1 : ∀ (l1 : Int) (l2 : Int) (l3 : Int) (l4 : Nat) (l5 : Int) (l6 : Nat) (l7 : Nat) (l8 : Nat) (l9 : Nat) (G : gS), (inI l1) → (inI l2) → (inL l3) → (l4 % 8 ≠ 1) → (inL l5) → (l6 % 8 ≠ 1) → (l7 % 8 ≠ 1) → (l8 % 8 ≠ 1) → (l9 % 8 ≠ 1) → J 1 [l1, l2, l3, l5] G Q → Tg W0 (j 1) [rf (16081), cI (l1), cI (l2), cL (l3), l4, cL (l5), l6, l7, l8, l9] [] G (fun r G => ∃ v, r = cI v ∧ inI v ∧ Q v G)) (hj2 : ∀ (l1 : Int) (l2 : Int) (l3 : Int) (l4 : Nat) (l5 : Int) (l6 : Nat) (l7 : Int) (l8 : Int) (l9 : Nat) (G : gS), (inI l1) → (inI l2) → (inL l3) → (l4 % 8 ≠ 1) → (inL l5) → (l6 % 8 ≠ 1) → (inI l7) → (inI l8) → (l9 % 8 ≠ 1) → J 2 [l1, l2, l3, l5, l7, l8] G Q → Tg W0 (j 2) [rf (16081), cI (l1), cI (l2), cL (l3), l4, cL (l5), l6, cI (l7), cI (l8), l9] [] G (fun r G => ∃ v, r = cI v ∧ inI v ∧ Q v G)) (h : PX13_named_111 J l1 l2 l3 G Q) : Tg W0 (vX13_named_111 j) [rf (16081), cI (l1), cI (l2), cL (l3), l4, l5, l6, l7, l8, l9] [] G (fun r G => ∃ v, r = cI v ∧ inI v ∧ Q v G) := by
  unfold PX13_named_111 at h
  unfold vX13_named_111
  refine g_ld (v := cI _) rfl (is_I _) ?_
  refine g_const (v := cI (11)) rfl ?_
  refine g_gt2 hl1 ⟨by omega, by omega⟩ (fun b46 => ?_) (fun b46 => ?_)
  · replace h := h.1 b46
    exact TX13_named_152 hl1 hl2 hl3 hl4 hl5 hl6 hl7 hl8 hl9 hj0 hj1 hj2 h
  · replace h := h.2 b46
    unfold vX13_named_117
    refine g_ld (v := cI _) rfl (is_I _) ?_
    refine g_const (v := cI (1)) rfl ?_
    refine g_add ?_
    refine g_ld (v := rf _) rfl (is_R _) ?_
    refine g_getI (kz := 1) oC13 rfl (Nat.le_of_ble_eq_true rfl) rfl fun i47 => ?_
    replace h := h i47
    obtain ⟨q48, h⟩ := h
    refine g_lt2 q48 i47 (fun b49 => ?_) (fun b49 => ?_)
    · replace h := h.1 b49
      unfold vX13_named_127
      refine g_ld (v := rf _) rfl (is_R _) ?_
      refine g_getF (v := 16082) oC13 (hC13_0) rfl (Nat.le_of_ble_eq_true rfl) (Nat.le_of_ble_eq_true rfl) ?_
      refine g_ld (v := cI _) rfl (is_I _) ?_
      obtain ⟨q50, q51, h⟩ := h
      refine g_aldI aC16082 q50 q51 rfl fun i52 => ?_
      replace h := h i52
      refine g_const (v := cI (46)) rfl ?_
      refine g_eq2 i52 ⟨by omega, by omega⟩ (fun b53 => ?_) (fun b53 => ?_)
      · replace h := h.1 b53
        unfold vX13_named_138
        refine g_ld (v := rf _) rfl (is_R _) ?_
        refine g_getF (v := 16082) oC13 (hC13_0) rfl (Nat.le_of_ble_eq_true rfl) (Nat.le_of_ble_eq_true rfl) ?_
        refine g_ld (v := cI _) rfl (is_I _) ?_
        refine g_const (v := cI (1)) rfl ?_
        refine g_add ?_
        obtain ⟨q54, q55, h⟩ := h
        refine g_aldI aC16082 q54 q55 rfl fun i56 => ?_
        replace h := h i56
        refine g_callS (As := [_]) (fun _ => rfl) ?_
        refine g_go1 (Nat.le_of_ble_eq_true rfl) (Tn_w (TX13_isSmall i56 h) fun _ G57 ⟨r58, e, i59, h⟩ => ?_)
        subst e
        refine ⟨n7_I _, ?_⟩
        replace h := h i59
        refine g_eq1 ⟨by omega, by omega⟩ (fun b60 => ?_) (fun b60 => ?_)
        · replace h := h.1 b60
          exact TX13_named_152 hl1 hl2 hl3 hl4 hl5 hl6 hl7 hl8 hl9 hj0 hj1 hj2 h
        · replace h := h.2 b60
          unfold vX13_named_155
          refine g_ld (v := cI _) rfl (is_I _) ?_
          refine g_const (v := cI (1)) rfl ?_
          refine g_add ?_
          refine g_st (lv' := [_, _, _, _, _, _, _, _, _, _]) (is_I _) (Nat.le_of_ble_eq_true rfl) (Or.inr (n1_I _)) rfl ?_
          obtain ⟨q61, h⟩ := h
          refine g_const (v := cL (0)) rfl ?_
          refine g_stL (lv' := [_, _, _, _, _, _, _, _, _, _]) (Nat.le_of_ble_eq_true rfl) (Or.inr hl4) rfl ?_
          exact TX13_named_162 hl1 q61 hl3 hl4 ⟨by omega, by omega⟩ (show 7 % 8 ≠ 1 by decide) hl7 hl8 hl9 hj0 hj1 hj2 h
      · replace h := h.2 b53
        exact TX13_named_152 hl1 hl2 hl3 hl4 hl5 hl6 hl7 hl8 hl9 hj0 hj1 hj2 h
    · replace h := h.2 b49
      exact TX13_named_152 hl1 hl2 hl3 hl4 hl5 hl6 hl7 hl8 hl9 hj0 hj1 hj2 h
def PX13_named_63 (J : Nat → List Int → gS → (Int → gS → Prop) → Prop) (l1 : Int) (l2 : Int) (l3 : Int) (G : gS) (Q : Int → gS → Prop) : Prop :=
  (inI (G 16081 1) → ((l1 < G 16081 1 → ((0 : Int) ≤ l1 ∧ ((l1 : Int) < 4000 ∧ (inI (G 16082 l1) → PX13_sym (G 16082 l1) G (fun r33 G32 => inI r33 → ((r33 = 0 → PX13_named_111 J l1 l2 l3 G32 Q) ∧ (¬ (r33 = 0) → ((l1 < 12 → (inL (lshl l3 6) → ((0 : Int) ≤ l1 ∧ ((l1 : Int) < 4000 ∧ (inI (G32 16082 l1) → PX13_sym (G32 16082 l1) G32 (fun r42 G41 => inI r42 → (inL (lor (lshl l3 6) r42) → (inI (l1 + 1) ∧ J 0 [l1 + 1, l2, lor (lshl l3 6) r42] G41 Q)))))))) ∧ (¬ (l1 < 12) → PX13_named_111 J l1 l2 l3 G32 Q))))))))) ∧ (¬ (l1 < G 16081 1) → PX13_named_111 J l1 l2 l3 G Q)))
set_option maxRecDepth 20000 in
theorem TX13_named_63 {j : Nat → rx_K} {J : Nat → List Int → gS → (Int → gS → Prop) → Prop} {l1 : Int} {l2 : Int} {l3 : Int} {l4 : Nat} {l5 : Nat} {l6 : Nat} {l7 : Nat} {l8 : Nat} {l9 : Nat} {G : gS} {Q : Int → gS → Prop} (hl1 : inI l1) (hl2 : inI l2) (hl3 : inL l3) (hl4 : l4 % 8 ≠ 1) (hl5 : l5 % 8 ≠ 1) (hl6 : l6 % 8 ≠ 1) (hl7 : l7 % 8 ≠ 1) (hl8 : l8 % 8 ≠ 1) (hl9 : l9 % 8 ≠ 1) (hj0 : ∀ (l1 : Int) (l2 : Int) (l3 : Int) (l4 : Nat) (l5 : Nat) (l6 : Nat) (l7 : Nat) (l8 : Nat) (l9 : Nat) (G : gS), (inI l1) → (inI l2) → (inL l3) → (l4 % 8 ≠ 1) → (l5 % 8 ≠ 1) → (l6 % 8 ≠ 1) → (l7 % 8 ≠ 1) → (l8 % 8 ≠ 1) → (l9 % 8 ≠ 1) → J 0 [l1, l2, l3] G Q → Tg W0 (j 0) [rf (16081), cI (l1), cI (l2), cL (l3), l4, l5, l6, l7, l8, l9] [] G (fun r G => ∃ v, r = cI v ∧ inI v ∧ Q v G)) (hj1 : ∀ (l1 : Int) (l2 : Int) (l3 : Int) (l4 : Nat) (l5 : Int) (l6 : Nat) (l7 : Nat) (l8 : Nat) (l9 : Nat) (G : gS), (inI l1) → (inI l2) → (inL l3) → (l4 % 8 ≠ 1) → (inL l5) → (l6 % 8 ≠ 1) → (l7 % 8 ≠ 1) → (l8 % 8 ≠ 1) → (l9 % 8 ≠ 1) → J 1 [l1, l2, l3, l5] G Q → Tg W0 (j 1) [rf (16081), cI (l1), cI (l2), cL (l3), l4, cL (l5), l6, l7, l8, l9] [] G (fun r G => ∃ v, r = cI v ∧ inI v ∧ Q v G)) (hj2 : ∀ (l1 : Int) (l2 : Int) (l3 : Int) (l4 : Nat) (l5 : Int) (l6 : Nat) (l7 : Int) (l8 : Int) (l9 : Nat) (G : gS), (inI l1) → (inI l2) → (inL l3) → (l4 % 8 ≠ 1) → (inL l5) → (l6 % 8 ≠ 1) → (inI l7) → (inI l8) → (l9 % 8 ≠ 1) → J 2 [l1, l2, l3, l5, l7, l8] G Q → Tg W0 (j 2) [rf (16081), cI (l1), cI (l2), cL (l3), l4, cL (l5), l6, cI (l7), cI (l8), l9] [] G (fun r G => ∃ v, r = cI v ∧ inI v ∧ Q v G)) (h : PX13_named_63 J l1 l2 l3 G Q) : Tg W0 (vX13_named_63 j) [rf (16081), cI (l1), cI (l2), cL (l3), l4, l5, l6, l7, l8, l9] [] G (fun r G => ∃ v, r = cI v ∧ inI v ∧ Q v G) := by
  unfold PX13_named_63 at h
  unfold vX13_named_63
  refine g_ld (v := cI _) rfl (is_I _) ?_
  refine g_ld (v := rf _) rfl (is_R _) ?_
  refine g_getI (kz := 1) oC13 rfl (Nat.le_of_ble_eq_true rfl) rfl fun i27 => ?_
  replace h := h i27
  refine g_lt2 hl1 i27 (fun b28 => ?_) (fun b28 => ?_)
  · replace h := h.1 b28
    unfold vX13_named_71
    refine g_ld (v := rf _) rfl (is_R _) ?_
    refine g_getF (v := 16082) oC13 (hC13_0) rfl (Nat.le_of_ble_eq_true rfl) (Nat.le_of_ble_eq_true rfl) ?_
    refine g_ld (v := cI _) rfl (is_I _) ?_
    obtain ⟨q29, q30, h⟩ := h
    refine g_aldI aC16082 q29 q30 rfl fun i31 => ?_
    replace h := h i31
    refine g_callS (As := [_]) (fun _ => rfl) ?_
    refine g_go1 (Nat.le_of_ble_eq_true rfl) (Tn_w (TX13_sym i31 h) fun _ G32 ⟨r33, e, i34, h⟩ => ?_)
    subst e
    refine ⟨n7_I _, ?_⟩
    replace h := h i34
    refine g_eq1 i34 (fun b35 => ?_) (fun b35 => ?_)
    · replace h := h.1 b35
      exact TX13_named_111 hl1 hl2 hl3 hl4 hl5 hl6 hl7 hl8 hl9 hj0 hj1 hj2 h
    · replace h := h.2 b35
      unfold vX13_named_83
      refine g_ld (v := cI _) rfl (is_I _) ?_
      refine g_const (v := cI (12)) rfl ?_
      refine g_lt2 hl1 ⟨by omega, by omega⟩ (fun b36 => ?_) (fun b36 => ?_)
      · replace h := h.1 b36
        unfold vX13_named_89
        refine g_ld (v := cL _) rfl (is_L _) ?_
        refine g_const (v := cI (6)) rfl ?_
        refine g_lshl fun i37 => ?_
        replace h := h i37
        refine g_ld (v := rf _) rfl (is_R _) ?_
        refine g_getF (v := 16082) oC13 (hC13_0) rfl (Nat.le_of_ble_eq_true rfl) (Nat.le_of_ble_eq_true rfl) ?_
        refine g_ld (v := cI _) rfl (is_I _) ?_
        obtain ⟨q38, q39, h⟩ := h
        refine g_aldI aC16082 q38 q39 rfl fun i40 => ?_
        replace h := h i40
        refine g_callS (As := [_]) (fun _ => rfl) ?_
        refine g_go1 (by simp only [cs_c, cs_0, ct_I, ct_L, ct_R]; exact Nat.le_of_ble_eq_true rfl) (Tn_w (TX13_sym i40 h) fun _ G41 ⟨r42, e, i43, h⟩ => ?_)
        subst e
        refine ⟨n7_I _, ?_⟩
        replace h := h i43
        refine g_i2l i43 ?_
        refine g_lor fun i44 => ?_
        replace h := h i44
        refine g_stL (lv' := [_, _, _, _, _, _, _, _, _, _]) (Nat.le_of_ble_eq_true rfl) (Or.inr (n1_I _)) rfl ?_
        refine g_inc (lv' := [_, _, _, _, _, _, _, _, _, _]) rfl (Nat.le_of_ble_eq_true rfl) (Or.inr (n1_R _)) rfl ?_
        obtain ⟨q45, h⟩ := h
        exact hj0 _ _ _ _ _ _ _ _ _ _ q45 hl2 i44 (show 7 % 8 ≠ 1 by decide) hl5 hl6 hl7 hl8 hl9 h
      · replace h := h.2 b36
        exact TX13_named_111 hl1 hl2 hl3 hl4 hl5 hl6 hl7 hl8 hl9 hj0 hj1 hj2 h
  · replace h := h.2 b28
    exact TX13_named_111 hl1 hl2 hl3 hl4 hl5 hl6 hl7 hl8 hl9 hj0 hj1 hj2 h
def PX13_named_47 (J : Nat → List Int → gS → (Int → gS → Prop) → Prop) (l1 : Int) (l2 : Int) (G : gS) (Q : Int → gS → Prop) : Prop :=
  Q (-2) G
set_option maxRecDepth 20000 in
theorem TX13_named_47 {j : Nat → rx_K} {J : Nat → List Int → gS → (Int → gS → Prop) → Prop} {l1 : Int} {l2 : Int} {l3 : Nat} {l4 : Nat} {l5 : Nat} {l6 : Nat} {l7 : Nat} {l8 : Nat} {l9 : Nat} {G : gS} {Q : Int → gS → Prop} (hl1 : inI l1) (hl2 : inI l2) (hl3 : l3 % 8 ≠ 1) (hl4 : l4 % 8 ≠ 1) (hl5 : l5 % 8 ≠ 1) (hl6 : l6 % 8 ≠ 1) (hl7 : l7 % 8 ≠ 1) (hl8 : l8 % 8 ≠ 1) (hl9 : l9 % 8 ≠ 1) (hj0 : ∀ (l1 : Int) (l2 : Int) (l3 : Int) (l4 : Nat) (l5 : Nat) (l6 : Nat) (l7 : Nat) (l8 : Nat) (l9 : Nat) (G : gS), (inI l1) → (inI l2) → (inL l3) → (l4 % 8 ≠ 1) → (l5 % 8 ≠ 1) → (l6 % 8 ≠ 1) → (l7 % 8 ≠ 1) → (l8 % 8 ≠ 1) → (l9 % 8 ≠ 1) → J 0 [l1, l2, l3] G Q → Tg W0 (j 0) [rf (16081), cI (l1), cI (l2), cL (l3), l4, l5, l6, l7, l8, l9] [] G (fun r G => ∃ v, r = cI v ∧ inI v ∧ Q v G)) (hj1 : ∀ (l1 : Int) (l2 : Int) (l3 : Int) (l4 : Nat) (l5 : Int) (l6 : Nat) (l7 : Nat) (l8 : Nat) (l9 : Nat) (G : gS), (inI l1) → (inI l2) → (inL l3) → (l4 % 8 ≠ 1) → (inL l5) → (l6 % 8 ≠ 1) → (l7 % 8 ≠ 1) → (l8 % 8 ≠ 1) → (l9 % 8 ≠ 1) → J 1 [l1, l2, l3, l5] G Q → Tg W0 (j 1) [rf (16081), cI (l1), cI (l2), cL (l3), l4, cL (l5), l6, l7, l8, l9] [] G (fun r G => ∃ v, r = cI v ∧ inI v ∧ Q v G)) (hj2 : ∀ (l1 : Int) (l2 : Int) (l3 : Int) (l4 : Nat) (l5 : Int) (l6 : Nat) (l7 : Int) (l8 : Int) (l9 : Nat) (G : gS), (inI l1) → (inI l2) → (inL l3) → (l4 % 8 ≠ 1) → (inL l5) → (l6 % 8 ≠ 1) → (inI l7) → (inI l8) → (l9 % 8 ≠ 1) → J 2 [l1, l2, l3, l5, l7, l8] G Q → Tg W0 (j 2) [rf (16081), cI (l1), cI (l2), cL (l3), l4, cL (l5), l6, cI (l7), cI (l8), l9] [] G (fun r G => ∃ v, r = cI v ∧ inI v ∧ Q v G)) (h : PX13_named_47 J l1 l2 G Q) : Tg W0 (vX13_named_47 j) [rf (16081), cI (l1), cI (l2), l3, l4, l5, l6, l7, l8, l9] [] G (fun r G => ∃ v, r = cI v ∧ inI v ∧ Q v G) := by
  unfold PX13_named_47 at h
  unfold vX13_named_47
  refine g_const (v := cI (-2)) rfl ?_
  exact g_ret1 (is_I _) ⟨_, rfl, ⟨by omega, by omega⟩, h⟩
def PX13_named_0 (J : Nat → List Int → gS → (Int → gS → Prop) → Prop)  (G : gS) (Q : Int → gS → Prop) : Prop :=
  (inI (G 16081 1) → ((G 16081 1 < 5 → PX13_named_47 J 0 0 G Q) ∧ (¬ (G 16081 1 < 5) → ((0 : Int) ≤ 0 ∧ ((0 : Int) < 4000 ∧ (inI (G 16082 0) → PX13_isSmall (G 16082 0) G (fun r7 G6 => (0 ≤ r7 ∧ r7 ≤ 1) → ((r7 = 0 → PX13_named_47 J 0 0 G6 Q) ∧ (¬ (r7 = 0) → ((0 : Int) ≤ 1 ∧ ((1 : Int) < 4000 ∧ (inI (G6 16082 1) → ((G6 16082 1 = 46 → ((0 : Int) ≤ 2 ∧ ((2 : Int) < 4000 ∧ (inI (G6 16082 2) → PX13_isGreat (G6 16082 2) G6 (fun r18 G17 => (0 ≤ r18 ∧ r18 ≤ 1) → ((r18 = 0 → PX13_named_47 J 0 0 G17 Q) ∧ (¬ (r18 = 0) → ((0 : Int) ≤ 0 ∧ ((0 : Int) < 4000 ∧ (inI (G17 16082 0) → PX13_sym (G17 16082 0) G17 (fun r25 G24 => inI r25 → PX13_named_63 J 2 0 r25 G24 Q))))))))))) ∧ (¬ (G6 16082 1 = 46) → PX13_named_47 J 0 0 G6 Q))))))))))))))
set_option maxRecDepth 20000 in
theorem TX13_named_0 {j : Nat → rx_K} {J : Nat → List Int → gS → (Int → gS → Prop) → Prop}  {G : gS} {Q : Int → gS → Prop}  (hj0 : ∀ (l1 : Int) (l2 : Int) (l3 : Int) (l4 : Nat) (l5 : Nat) (l6 : Nat) (l7 : Nat) (l8 : Nat) (l9 : Nat) (G : gS), (inI l1) → (inI l2) → (inL l3) → (l4 % 8 ≠ 1) → (l5 % 8 ≠ 1) → (l6 % 8 ≠ 1) → (l7 % 8 ≠ 1) → (l8 % 8 ≠ 1) → (l9 % 8 ≠ 1) → J 0 [l1, l2, l3] G Q → Tg W0 (j 0) [rf (16081), cI (l1), cI (l2), cL (l3), l4, l5, l6, l7, l8, l9] [] G (fun r G => ∃ v, r = cI v ∧ inI v ∧ Q v G)) (hj1 : ∀ (l1 : Int) (l2 : Int) (l3 : Int) (l4 : Nat) (l5 : Int) (l6 : Nat) (l7 : Nat) (l8 : Nat) (l9 : Nat) (G : gS), (inI l1) → (inI l2) → (inL l3) → (l4 % 8 ≠ 1) → (inL l5) → (l6 % 8 ≠ 1) → (l7 % 8 ≠ 1) → (l8 % 8 ≠ 1) → (l9 % 8 ≠ 1) → J 1 [l1, l2, l3, l5] G Q → Tg W0 (j 1) [rf (16081), cI (l1), cI (l2), cL (l3), l4, cL (l5), l6, l7, l8, l9] [] G (fun r G => ∃ v, r = cI v ∧ inI v ∧ Q v G)) (hj2 : ∀ (l1 : Int) (l2 : Int) (l3 : Int) (l4 : Nat) (l5 : Int) (l6 : Nat) (l7 : Int) (l8 : Int) (l9 : Nat) (G : gS), (inI l1) → (inI l2) → (inL l3) → (l4 % 8 ≠ 1) → (inL l5) → (l6 % 8 ≠ 1) → (inI l7) → (inI l8) → (l9 % 8 ≠ 1) → J 2 [l1, l2, l3, l5, l7, l8] G Q → Tg W0 (j 2) [rf (16081), cI (l1), cI (l2), cL (l3), l4, cL (l5), l6, cI (l7), cI (l8), l9] [] G (fun r G => ∃ v, r = cI v ∧ inI v ∧ Q v G)) (h : PX13_named_0 J  G Q) : Tg W0 (vX13_named_0 j) [rf (16081), 7, 7, 7, 7, 7, 7, 7, 7, 7] [] G (fun r G => ∃ v, r = cI v ∧ inI v ∧ Q v G) := by
  unfold PX13_named_0 at h
  unfold vX13_named_0
  refine g_const (v := cI (0)) rfl ?_
  refine g_st (lv' := [_, _, _, _, _, _, _, _, _, _]) (is_I _) (Nat.le_of_ble_eq_true rfl) (Or.inr (n1_R _)) rfl ?_
  refine g_const (v := cI (0)) rfl ?_
  refine g_st (lv' := [_, _, _, _, _, _, _, _, _, _]) (is_I _) (Nat.le_of_ble_eq_true rfl) (Or.inr (n1_I _)) rfl ?_
  refine g_ld (v := rf _) rfl (is_R _) ?_
  refine g_getI (kz := 1) oC13 rfl (Nat.le_of_ble_eq_true rfl) rfl fun i1 => ?_
  replace h := h i1
  refine g_const (v := cI (5)) rfl ?_
  refine g_lt2 i1 ⟨by omega, by omega⟩ (fun b2 => ?_) (fun b2 => ?_)
  · replace h := h.1 b2
    exact TX13_named_47 ⟨by omega, by omega⟩ ⟨by omega, by omega⟩ (show 7 % 8 ≠ 1 by decide) (show 7 % 8 ≠ 1 by decide) (show 7 % 8 ≠ 1 by decide) (show 7 % 8 ≠ 1 by decide) (show 7 % 8 ≠ 1 by decide) (show 7 % 8 ≠ 1 by decide) (show 7 % 8 ≠ 1 by decide) hj0 hj1 hj2 h
  · replace h := h.2 b2
    unfold vX13_named_12
    refine g_ld (v := rf _) rfl (is_R _) ?_
    refine g_getF (v := 16082) oC13 (hC13_0) rfl (Nat.le_of_ble_eq_true rfl) (Nat.le_of_ble_eq_true rfl) ?_
    refine g_const (v := cI (0)) rfl ?_
    obtain ⟨q3, q4, h⟩ := h
    refine g_aldI aC16082 q3 q4 rfl fun i5 => ?_
    replace h := h i5
    refine g_callS (As := [_]) (fun _ => rfl) ?_
    refine g_go1 (Nat.le_of_ble_eq_true rfl) (Tn_w (TX13_isSmall i5 h) fun _ G6 ⟨r7, e, i8, h⟩ => ?_)
    subst e
    refine ⟨n7_I _, ?_⟩
    replace h := h i8
    refine g_eq1 ⟨by omega, by omega⟩ (fun b9 => ?_) (fun b9 => ?_)
    · replace h := h.1 b9
      exact TX13_named_47 ⟨by omega, by omega⟩ ⟨by omega, by omega⟩ (show 7 % 8 ≠ 1 by decide) (show 7 % 8 ≠ 1 by decide) (show 7 % 8 ≠ 1 by decide) (show 7 % 8 ≠ 1 by decide) (show 7 % 8 ≠ 1 by decide) (show 7 % 8 ≠ 1 by decide) (show 7 % 8 ≠ 1 by decide) hj0 hj1 hj2 h
    · replace h := h.2 b9
      unfold vX13_named_24
      refine g_ld (v := rf _) rfl (is_R _) ?_
      refine g_getF (v := 16082) oC13 (hC13_0) rfl (Nat.le_of_ble_eq_true rfl) (Nat.le_of_ble_eq_true rfl) ?_
      refine g_const (v := cI (1)) rfl ?_
      obtain ⟨q10, q11, h⟩ := h
      refine g_aldI aC16082 q10 q11 rfl fun i12 => ?_
      replace h := h i12
      refine g_const (v := cI (46)) rfl ?_
      refine g_eq2 i12 ⟨by omega, by omega⟩ (fun b13 => ?_) (fun b13 => ?_)
      · replace h := h.1 b13
        unfold vX13_named_35
        refine g_ld (v := rf _) rfl (is_R _) ?_
        refine g_getF (v := 16082) oC13 (hC13_0) rfl (Nat.le_of_ble_eq_true rfl) (Nat.le_of_ble_eq_true rfl) ?_
        refine g_const (v := cI (2)) rfl ?_
        obtain ⟨q14, q15, h⟩ := h
        refine g_aldI aC16082 q14 q15 rfl fun i16 => ?_
        replace h := h i16
        refine g_callS (As := [_]) (fun _ => rfl) ?_
        refine g_go1 (Nat.le_of_ble_eq_true rfl) (Tn_w (TX13_isGreat i16 h) fun _ G17 ⟨r18, e, i19, h⟩ => ?_)
        subst e
        refine ⟨n7_I _, ?_⟩
        replace h := h i19
        refine g_eq1 ⟨by omega, by omega⟩ (fun b20 => ?_) (fun b20 => ?_)
        · replace h := h.1 b20
          exact TX13_named_47 ⟨by omega, by omega⟩ ⟨by omega, by omega⟩ (show 7 % 8 ≠ 1 by decide) (show 7 % 8 ≠ 1 by decide) (show 7 % 8 ≠ 1 by decide) (show 7 % 8 ≠ 1 by decide) (show 7 % 8 ≠ 1 by decide) (show 7 % 8 ≠ 1 by decide) (show 7 % 8 ≠ 1 by decide) hj0 hj1 hj2 h
        · replace h := h.2 b20
          unfold vX13_named_50
          refine g_ld (v := rf _) rfl (is_R _) ?_
          refine g_getF (v := 16082) oC13 (hC13_0) rfl (Nat.le_of_ble_eq_true rfl) (Nat.le_of_ble_eq_true rfl) ?_
          refine g_const (v := cI (0)) rfl ?_
          obtain ⟨q21, q22, h⟩ := h
          refine g_aldI aC16082 q21 q22 rfl fun i23 => ?_
          replace h := h i23
          refine g_callS (As := [_]) (fun _ => rfl) ?_
          refine g_go1 (Nat.le_of_ble_eq_true rfl) (Tn_w (TX13_sym i23 h) fun _ G24 ⟨r25, e, i26, h⟩ => ?_)
          subst e
          refine ⟨n7_I _, ?_⟩
          replace h := h i26
          refine g_i2l i26 ?_
          refine g_stL (lv' := [_, _, _, _, _, _, _, _, _, _]) (Nat.le_of_ble_eq_true rfl) (Or.inr (n1_I _)) rfl ?_
          refine g_const (v := cI (2)) rfl ?_
          refine g_st (lv' := [_, _, _, _, _, _, _, _, _, _]) (is_I _) (Nat.le_of_ble_eq_true rfl) (Or.inr (n1_R _)) rfl ?_
          exact TX13_named_63 ⟨by omega, by omega⟩ ⟨by omega, by omega⟩ (inL_I i26) (show 7 % 8 ≠ 1 by decide) (show 7 % 8 ≠ 1 by decide) (show 7 % 8 ≠ 1 by decide) (show 7 % 8 ≠ 1 by decide) (show 7 % 8 ≠ 1 by decide) (show 7 % 8 ≠ 1 by decide) hj0 hj1 hj2 h
      · replace h := h.2 b13
        exact TX13_named_47 ⟨by omega, by omega⟩ ⟨by omega, by omega⟩ (show 7 % 8 ≠ 1 by decide) (show 7 % 8 ≠ 1 by decide) (show 7 % 8 ≠ 1 by decide) (show 7 % 8 ≠ 1 by decide) (show 7 % 8 ≠ 1 by decide) (show 7 % 8 ≠ 1 by decide) (show 7 % 8 ≠ 1 by decide) hj0 hj1 hj2 h
def PX13_named_J : Nat → Nat → List Int → gS → (Int → gS → Prop) → Prop
  | 0, _, _, _, _ => False
  | f + 1, h, L, G, Q => match h, L with
    | 0, [l1, l2, l3] => PX13_named_63 (PX13_named_J f) l1 l2 l3 G Q
    | 1, [l1, l2, l3, l5] => PX13_named_162 (PX13_named_J f) l1 l2 l3 l5 G Q
    | 2, [l1, l2, l3, l5, l7, l8] => PX13_named_258 (PX13_named_J f) l1 l2 l3 l5 l7 l8 G Q
    | _, _ => False
theorem TX13_named_J {Q : Int → gS → Prop} : ∀ f N : Nat, f ≤ N → (∀ (l1 : Int) (l2 : Int) (l3 : Int) (l4 : Nat) (l5 : Nat) (l6 : Nat) (l7 : Nat) (l8 : Nat) (l9 : Nat) (G : gS), (inI l1) → (inI l2) → (inL l3) → (l4 % 8 ≠ 1) → (l5 % 8 ≠ 1) → (l6 % 8 ≠ 1) → (l7 % 8 ≠ 1) → (l8 % 8 ≠ 1) → (l9 % 8 ≠ 1) → (PX13_named_J f) 0 [l1, l2, l3] G Q → Tg W0 (rx_J vhX13_named N 0) [rf (16081), cI (l1), cI (l2), cL (l3), l4, l5, l6, l7, l8, l9] [] G (fun r G => ∃ v, r = cI v ∧ inI v ∧ Q v G)) ∧ (∀ (l1 : Int) (l2 : Int) (l3 : Int) (l4 : Nat) (l5 : Int) (l6 : Nat) (l7 : Nat) (l8 : Nat) (l9 : Nat) (G : gS), (inI l1) → (inI l2) → (inL l3) → (l4 % 8 ≠ 1) → (inL l5) → (l6 % 8 ≠ 1) → (l7 % 8 ≠ 1) → (l8 % 8 ≠ 1) → (l9 % 8 ≠ 1) → (PX13_named_J f) 1 [l1, l2, l3, l5] G Q → Tg W0 (rx_J vhX13_named N 1) [rf (16081), cI (l1), cI (l2), cL (l3), l4, cL (l5), l6, l7, l8, l9] [] G (fun r G => ∃ v, r = cI v ∧ inI v ∧ Q v G)) ∧ (∀ (l1 : Int) (l2 : Int) (l3 : Int) (l4 : Nat) (l5 : Int) (l6 : Nat) (l7 : Int) (l8 : Int) (l9 : Nat) (G : gS), (inI l1) → (inI l2) → (inL l3) → (l4 % 8 ≠ 1) → (inL l5) → (l6 % 8 ≠ 1) → (inI l7) → (inI l8) → (l9 % 8 ≠ 1) → (PX13_named_J f) 2 [l1, l2, l3, l5, l7, l8] G Q → Tg W0 (rx_J vhX13_named N 2) [rf (16081), cI (l1), cI (l2), cL (l3), l4, cL (l5), l6, cI (l7), cI (l8), l9] [] G (fun r G => ∃ v, r = cI v ∧ inI v ∧ Q v G)) := by
  intro f
  induction f with
  | zero => exact fun N _ => ⟨fun _ _ _ _ _ _ _ _ _ _ _ _ _ _ _ _ _ _ _ h => h.elim, fun _ _ _ _ _ _ _ _ _ _ _ _ _ _ _ _ _ _ _ h => h.elim, fun _ _ _ _ _ _ _ _ _ _ _ _ _ _ _ _ _ _ _ h => h.elim⟩
  | succ f ih =>
    intro N hN
    obtain ⟨M, rfl⟩ : ∃ M, N = M + 1 := ⟨N - 1, by omega⟩
    have ih := ih M (by omega)
    exact ⟨fun _ _ _ _ _ _ _ _ _ _ hl1 hl2 hl3 hl4 hl5 hl6 hl7 hl8 hl9 h => show Tg W0 (vX13_named_63 (rx_J vhX13_named M)) _ _ _ _ from TX13_named_63 hl1 hl2 hl3 hl4 hl5 hl6 hl7 hl8 hl9 ih.1 ih.2.1 ih.2.2 h, fun _ _ _ _ _ _ _ _ _ _ hl1 hl2 hl3 hl4 hl5 hl6 hl7 hl8 hl9 h => show Tg W0 (vX13_named_162 (rx_J vhX13_named M)) _ _ _ _ from TX13_named_162 hl1 hl2 hl3 hl4 hl5 hl6 hl7 hl8 hl9 ih.1 ih.2.1 ih.2.2 h, fun _ _ _ _ _ _ _ _ _ _ hl1 hl2 hl3 hl4 hl5 hl6 hl7 hl8 hl9 h => show Tg W0 (vX13_named_258 (rx_J vhX13_named M)) _ _ _ _ from TX13_named_258 hl1 hl2 hl3 hl4 hl5 hl6 hl7 hl8 hl9 ih.1 ih.2.1 ih.2.2 h⟩
def PX13_named  (G : gS) (Q : Int → gS → Prop) : Prop := ∃ f : Nat, f ≤ 4000000000 ∧ PX13_named_0 (PX13_named_J f)  G Q
theorem TX13_named  {G : gS} {Q : Int → gS → Prop}  (h : PX13_named  G Q) : Tn W0 FX13_named [rf (16081)] G (fun r G => ∃ v, r = cI v ∧ inI v ∧ Q v G) := by
  obtain ⟨f, hf, h⟩ := h
  have hJ := TX13_named_J (Q := Q) f 4000000000 hf
  unfold FX13_named
  refine g_ent (lv' := [rf (16081), 7, 7, 7, 7, 7, 7, 7, 7, 7]) (flR fl0) (Nat.le_of_ble_eq_true rfl) rfl ?_
  exact TX13_named_0  hJ.1 hJ.2.1 hJ.2.2 h
def PX13_value_0  (G : gS) (Q : Int → gS → Prop) : Prop :=
  (inI (G 16081 167) → Q (G 16081 167) G)
set_option maxRecDepth 20000 in
theorem TX13_value_0  {G : gS} {Q : Int → gS → Prop}  (h : PX13_value_0  G Q) : Tg W0 vX13_value_0 [rf (16081)] [] G (fun r G => ∃ v, r = cI v ∧ inI v ∧ Q v G) := by
  unfold PX13_value_0 at h
  unfold vX13_value_0
  refine g_ld (v := rf _) rfl (is_R _) ?_
  refine g_getI (kz := 167) oC13 rfl (Nat.le_of_ble_eq_true rfl) rfl fun i1 => ?_
  replace h := h i1
  exact g_ret1 (is_I _) ⟨_, rfl, i1, h⟩
abbrev PX13_value  (G : gS) (Q : Int → gS → Prop) : Prop := PX13_value_0  G Q
theorem TX13_value  {G : gS} {Q : Int → gS → Prop}  (h : PX13_value  G Q) : Tn W0 FX13_value [rf (16081)] G (fun r G => ∃ v, r = cI v ∧ inI v ∧ Q v G) := by
  unfold FX13_value
  refine g_ent (lv' := [rf (16081)]) (flR fl0) (Nat.le_of_ble_eq_true rfl) rfl ?_
  exact TX13_value_0  h
def PX13_told_10 (l1 : Int) (G : gS) (Q : Int → gS → Prop) : Prop :=
  Q (-1) G
set_option maxRecDepth 20000 in
theorem TX13_told_10 {l1 : Int} {G : gS} {Q : Int → gS → Prop} (hl1 : inI l1) (h : PX13_told_10 l1 G Q) : Tg W0 vX13_told_10 [rf (16081), cI (l1)] [] G (fun r G => ∃ v, r = cI v ∧ inI v ∧ Q v G) := by
  unfold PX13_told_10 at h
  unfold vX13_told_10
  refine g_const (v := cI (-1)) rfl ?_
  exact g_ret1 (is_I _) ⟨_, rfl, ⟨by omega, by omega⟩, h⟩
def PX13_told_0 (a1 : Int) (G : gS) (Q : Int → gS → Prop) : Prop :=
  ((a1 < 0 → PX13_told_10 a1 G Q) ∧ (¬ (a1 < 0) → ((7 < a1 → PX13_told_10 a1 G Q) ∧ (¬ (7 < a1) → ((a1 = 0 → (inI (G 16081 163) → Q (G 16081 163) G)) ∧ (a1 = 1 → (inI (G 16081 169) → Q (G 16081 169) G)) ∧ (a1 = 2 → (inI (G 16081 151) → Q (G 16081 151) G)) ∧ (a1 = 3 → (inI (G 16081 153) → Q (G 16081 153) G)) ∧ (a1 = 4 → (inI (G 16081 136) → Q (G 16081 136) G)) ∧ (a1 = 5 → (inI (G 16081 129) → Q (G 16081 129) G)) ∧ (a1 = 6 → (inI (G 16081 1) → Q (G 16081 1) G)) ∧ ((a1 < 0 ∨ 7 ≤ a1) → (inI (G 16081 10) → Q (G 16081 10) G)))))))
set_option maxRecDepth 20000 in
theorem TX13_told_0 {a1 : Int} {G : gS} {Q : Int → gS → Prop} (ha1 : inI a1) (h : PX13_told_0 a1 G Q) : Tg W0 vX13_told_0 [rf (16081), cI (a1)] [] G (fun r G => ∃ v, r = cI v ∧ inI v ∧ Q v G) := by
  unfold PX13_told_0 at h
  unfold vX13_told_0
  refine g_ld (v := cI _) rfl (is_I _) ?_
  refine g_lt1 ha1 (fun b1 => ?_) (fun b1 => ?_)
  · replace h := h.1 b1
    exact TX13_told_10 ha1 h
  · replace h := h.2 b1
    unfold vX13_told_4
    refine g_ld (v := cI _) rfl (is_I _) ?_
    refine g_const (v := cI (7)) rfl ?_
    refine g_gt2 ha1 ⟨by omega, by omega⟩ (fun b2 => ?_) (fun b2 => ?_)
    · replace h := h.1 b2
      exact TX13_told_10 ha1 h
    · replace h := h.2 b2
      unfold vX13_told_12
      refine g_ld (v := cI _) rfl (is_I _) ?_
      rcases (show a1 = 0 ∨ a1 = 1 ∨ a1 = 2 ∨ a1 = 3 ∨ a1 = 4 ∨ a1 = 5 ∨ a1 = 6 ∨ (a1 < 0 ∨ 7 ≤ a1) by omega) with b3 | b3 | b3 | b3 | b3 | b3 | b3 | b3
      · replace h := h.1 b3
        refine g_swI (n := 0) b3 (by omega) ?_
        show Tg W0 (vX13_told_56) _ _ _ _
        unfold vX13_told_56
        refine g_ld (v := rf _) rfl (is_R _) ?_
        refine g_getI (kz := 163) oC13 rfl (Nat.le_of_ble_eq_true rfl) rfl fun i4 => ?_
        replace h := h i4
        exact g_ret1 (is_I _) ⟨_, rfl, i4, h⟩
      · replace h := h.2.1 b3
        refine g_swI (n := 1) b3 (by omega) ?_
        show Tg W0 (vX13_told_61) _ _ _ _
        unfold vX13_told_61
        refine g_ld (v := rf _) rfl (is_R _) ?_
        refine g_getI (kz := 169) oC13 rfl (Nat.le_of_ble_eq_true rfl) rfl fun i5 => ?_
        replace h := h i5
        exact g_ret1 (is_I _) ⟨_, rfl, i5, h⟩
      · replace h := h.2.2.1 b3
        refine g_swI (n := 2) b3 (by omega) ?_
        show Tg W0 (vX13_told_66) _ _ _ _
        unfold vX13_told_66
        refine g_ld (v := rf _) rfl (is_R _) ?_
        refine g_getI (kz := 151) oC13 rfl (Nat.le_of_ble_eq_true rfl) rfl fun i6 => ?_
        replace h := h i6
        exact g_ret1 (is_I _) ⟨_, rfl, i6, h⟩
      · replace h := h.2.2.2.1 b3
        refine g_swI (n := 3) b3 (by omega) ?_
        show Tg W0 (vX13_told_71) _ _ _ _
        unfold vX13_told_71
        refine g_ld (v := rf _) rfl (is_R _) ?_
        refine g_getI (kz := 153) oC13 rfl (Nat.le_of_ble_eq_true rfl) rfl fun i7 => ?_
        replace h := h i7
        exact g_ret1 (is_I _) ⟨_, rfl, i7, h⟩
      · replace h := h.2.2.2.2.1 b3
        refine g_swI (n := 4) b3 (by omega) ?_
        show Tg W0 (vX13_told_76) _ _ _ _
        unfold vX13_told_76
        refine g_ld (v := rf _) rfl (is_R _) ?_
        refine g_getI (kz := 136) oC13 rfl (Nat.le_of_ble_eq_true rfl) rfl fun i8 => ?_
        replace h := h i8
        exact g_ret1 (is_I _) ⟨_, rfl, i8, h⟩
      · replace h := h.2.2.2.2.2.1 b3
        refine g_swI (n := 5) b3 (by omega) ?_
        show Tg W0 (vX13_told_81) _ _ _ _
        unfold vX13_told_81
        refine g_ld (v := rf _) rfl (is_R _) ?_
        refine g_getI (kz := 129) oC13 rfl (Nat.le_of_ble_eq_true rfl) rfl fun i9 => ?_
        replace h := h i9
        exact g_ret1 (is_I _) ⟨_, rfl, i9, h⟩
      · replace h := h.2.2.2.2.2.2.1 b3
        refine g_swI (n := 6) b3 (by omega) ?_
        show Tg W0 (vX13_told_86) _ _ _ _
        unfold vX13_told_86
        refine g_ld (v := rf _) rfl (is_R _) ?_
        refine g_getI (kz := 1) oC13 rfl (Nat.le_of_ble_eq_true rfl) rfl fun i10 => ?_
        replace h := h i10
        exact g_ret1 (is_I _) ⟨_, rfl, i10, h⟩
      · replace h := h.2.2.2.2.2.2.2 b3
        refine g_swD (m := 7) ha1 rfl b3 (by omega) ?_
        show Tg W0 (vX13_told_91) _ _ _ _
        unfold vX13_told_91
        refine g_ld (v := rf _) rfl (is_R _) ?_
        refine g_getI (kz := 10) oC13 rfl (Nat.le_of_ble_eq_true rfl) rfl fun i11 => ?_
        replace h := h i11
        exact g_ret1 (is_I _) ⟨_, rfl, i11, h⟩
abbrev PX13_told (a1 : Int) (G : gS) (Q : Int → gS → Prop) : Prop := PX13_told_0 a1 G Q
theorem TX13_told {a1 : Int} {G : gS} {Q : Int → gS → Prop} (ha1 : inI a1) (h : PX13_told a1 G Q) : Tn W0 FX13_told [rf (16081), cI (a1)] G (fun r G => ∃ v, r = cI v ∧ inI v ∧ Q v G) := by
  unfold FX13_told
  refine g_ent (lv' := [rf (16081), cI (a1)]) (flR (flI fl0)) (Nat.le_of_ble_eq_true rfl) rfl ?_
  exact TX13_told_0 ha1 h
def PX13_number_22 (l1 : Int) (s0 : Int) (G : gS) (Q : Int → gS → Prop) : Prop :=
  Q (s0) G
set_option maxRecDepth 20000 in
theorem TX13_number_22 {l1 : Int} {s0 : Int} {G : gS} {Q : Int → gS → Prop} (hl1 : inI l1) (hs0 : inI s0) (h : PX13_number_22 l1 s0 G Q) : Tg W0 vX13_number_22 [rf (16081), cI (l1)] [cI (s0)] G (fun r G => ∃ v, r = cI v ∧ inI v ∧ Q v G) := by
  unfold PX13_number_22 at h
  unfold vX13_number_22
  exact g_ret1 (is_I _) ⟨_, rfl, hs0, h⟩
def PX13_number_12 (l1 : Int) (G : gS) (Q : Int → gS → Prop) : Prop :=
  PX13_number_22 l1 0 G Q
set_option maxRecDepth 20000 in
theorem TX13_number_12 {l1 : Int} {G : gS} {Q : Int → gS → Prop} (hl1 : inI l1) (h : PX13_number_12 l1 G Q) : Tg W0 vX13_number_12 [rf (16081), cI (l1)] [] G (fun r G => ∃ v, r = cI v ∧ inI v ∧ Q v G) := by
  unfold PX13_number_12 at h
  unfold vX13_number_12
  refine g_const (v := cI (0)) rfl ?_
  exact TX13_number_22 hl1 ⟨by omega, by omega⟩ h
def PX13_number_0 (a1 : Int) (G : gS) (Q : Int → gS → Prop) : Prop :=
  ((a1 < 0 → PX13_number_12 a1 G Q) ∧ (¬ (a1 < 0) → (inI (G 16081 169) → ((a1 < G 16081 169 → ((0 : Int) ≤ a1 ∧ ((a1 : Int) < 100 ∧ (inI (G 16209 a1) → PX13_number_22 a1 (G 16209 a1) G Q)))) ∧ (¬ (a1 < G 16081 169) → PX13_number_12 a1 G Q)))))
set_option maxRecDepth 20000 in
theorem TX13_number_0 {a1 : Int} {G : gS} {Q : Int → gS → Prop} (ha1 : inI a1) (h : PX13_number_0 a1 G Q) : Tg W0 vX13_number_0 [rf (16081), cI (a1)] [] G (fun r G => ∃ v, r = cI v ∧ inI v ∧ Q v G) := by
  unfold PX13_number_0 at h
  unfold vX13_number_0
  refine g_ld (v := cI _) rfl (is_I _) ?_
  refine g_lt1 ha1 (fun b1 => ?_) (fun b1 => ?_)
  · replace h := h.1 b1
    exact TX13_number_12 ha1 h
  · replace h := h.2 b1
    unfold vX13_number_4
    refine g_ld (v := cI _) rfl (is_I _) ?_
    refine g_ld (v := rf _) rfl (is_R _) ?_
    refine g_getI (kz := 169) oC13 rfl (Nat.le_of_ble_eq_true rfl) rfl fun i2 => ?_
    replace h := h i2
    refine g_lt2 ha1 i2 (fun b3 => ?_) (fun b3 => ?_)
    · replace h := h.1 b3
      unfold vX13_number_16
      refine g_ld (v := rf _) rfl (is_R _) ?_
      refine g_getF (v := 16209) oC13 (hC13_168) rfl (Nat.le_of_ble_eq_true rfl) (Nat.le_of_ble_eq_true rfl) ?_
      refine g_ld (v := cI _) rfl (is_I _) ?_
      obtain ⟨q4, q5, h⟩ := h
      refine g_aldI aC16209 q4 q5 rfl fun i6 => ?_
      replace h := h i6
      exact TX13_number_22 ha1 i6 h
    · replace h := h.2 b3
      exact TX13_number_12 ha1 h
abbrev PX13_number (a1 : Int) (G : gS) (Q : Int → gS → Prop) : Prop := PX13_number_0 a1 G Q
theorem TX13_number {a1 : Int} {G : gS} {Q : Int → gS → Prop} (ha1 : inI a1) (h : PX13_number a1 G Q) : Tn W0 FX13_number [rf (16081), cI (a1)] G (fun r G => ∃ v, r = cI v ∧ inI v ∧ Q v G) := by
  unfold FX13_number
  refine g_ent (lv' := [rf (16081), cI (a1)]) (flR (flI fl0)) (Nat.le_of_ble_eq_true rfl) rfl ?_
  exact TX13_number_0 ha1 h
def PX13_event__22 (l1 : Int) (s0 : Int) (G : gS) (Q : Int → gS → Prop) : Prop :=
  Q (s0) G
set_option maxRecDepth 20000 in
theorem TX13_event__22 {l1 : Int} {s0 : Int} {G : gS} {Q : Int → gS → Prop} (hl1 : inI l1) (hs0 : inI s0) (h : PX13_event__22 l1 s0 G Q) : Tg W0 vX13_event__22 [rf (16081), cI (l1)] [cI (s0)] G (fun r G => ∃ v, r = cI v ∧ inI v ∧ Q v G) := by
  unfold PX13_event__22 at h
  unfold vX13_event__22
  exact g_ret1 (is_I _) ⟨_, rfl, hs0, h⟩
def PX13_event__12 (l1 : Int) (G : gS) (Q : Int → gS → Prop) : Prop :=
  PX13_event__22 l1 (-1) G Q
set_option maxRecDepth 20000 in
theorem TX13_event__12 {l1 : Int} {G : gS} {Q : Int → gS → Prop} (hl1 : inI l1) (h : PX13_event__12 l1 G Q) : Tg W0 vX13_event__12 [rf (16081), cI (l1)] [] G (fun r G => ∃ v, r = cI v ∧ inI v ∧ Q v G) := by
  unfold PX13_event__12 at h
  unfold vX13_event__12
  refine g_const (v := cI (-1)) rfl ?_
  exact TX13_event__22 hl1 ⟨by omega, by omega⟩ h
def PX13_event__0 (a1 : Int) (G : gS) (Q : Int → gS → Prop) : Prop :=
  ((a1 < 0 → PX13_event__12 a1 G Q) ∧ (¬ (a1 < 0) → (inI (G 16081 136) → ((a1 < G 16081 136 → ((0 : Int) ≤ a1 ∧ ((a1 : Int) < 600 ∧ (inI (G 16192 a1) → PX13_event__22 a1 (G 16192 a1) G Q)))) ∧ (¬ (a1 < G 16081 136) → PX13_event__12 a1 G Q)))))
set_option maxRecDepth 20000 in
theorem TX13_event__0 {a1 : Int} {G : gS} {Q : Int → gS → Prop} (ha1 : inI a1) (h : PX13_event__0 a1 G Q) : Tg W0 vX13_event__0 [rf (16081), cI (a1)] [] G (fun r G => ∃ v, r = cI v ∧ inI v ∧ Q v G) := by
  unfold PX13_event__0 at h
  unfold vX13_event__0
  refine g_ld (v := cI _) rfl (is_I _) ?_
  refine g_lt1 ha1 (fun b1 => ?_) (fun b1 => ?_)
  · replace h := h.1 b1
    exact TX13_event__12 ha1 h
  · replace h := h.2 b1
    unfold vX13_event__4
    refine g_ld (v := cI _) rfl (is_I _) ?_
    refine g_ld (v := rf _) rfl (is_R _) ?_
    refine g_getI (kz := 136) oC13 rfl (Nat.le_of_ble_eq_true rfl) rfl fun i2 => ?_
    replace h := h i2
    refine g_lt2 ha1 i2 (fun b3 => ?_) (fun b3 => ?_)
    · replace h := h.1 b3
      unfold vX13_event__16
      refine g_ld (v := rf _) rfl (is_R _) ?_
      refine g_getF (v := 16192) oC13 (hC13_135) rfl (Nat.le_of_ble_eq_true rfl) (Nat.le_of_ble_eq_true rfl) ?_
      refine g_ld (v := cI _) rfl (is_I _) ?_
      obtain ⟨q4, q5, h⟩ := h
      refine g_aldI aC16192 q4 q5 rfl fun i6 => ?_
      replace h := h i6
      exact TX13_event__22 ha1 i6 h
    · replace h := h.2 b3
      exact TX13_event__12 ha1 h
abbrev PX13_event_ (a1 : Int) (G : gS) (Q : Int → gS → Prop) : Prop := PX13_event__0 a1 G Q
theorem TX13_event_ {a1 : Int} {G : gS} {Q : Int → gS → Prop} (ha1 : inI a1) (h : PX13_event_ a1 G Q) : Tn W0 FX13_event_ [rf (16081), cI (a1)] G (fun r G => ∃ v, r = cI v ∧ inI v ∧ Q v G) := by
  unfold FX13_event_
  refine g_ent (lv' := [rf (16081), cI (a1)]) (flR (flI fl0)) (Nat.le_of_ble_eq_true rfl) rfl ?_
  exact TX13_event__0 ha1 h
def PX13_name_12 (l1 : Int) (G : gS) (Q : Int → gS → Prop) : Prop :=
  Q (-1) G
set_option maxRecDepth 20000 in
theorem TX13_name_12 {l1 : Int} {G : gS} {Q : Int → gS → Prop} (hl1 : inI l1) (h : PX13_name_12 l1 G Q) : Tg W0 vX13_name_12 [rf (16081), cI (l1)] [] G (fun r G => ∃ v, r = cI v ∧ inI v ∧ Q v G) := by
  unfold PX13_name_12 at h
  unfold vX13_name_12
  refine g_const (v := cI (-1)) rfl ?_
  exact g_ret1 (is_I _) ⟨_, rfl, ⟨by omega, by omega⟩, h⟩
def PX13_name_0 (a1 : Int) (G : gS) (Q : Int → gS → Prop) : Prop :=
  ((a1 < 0 → PX13_name_12 a1 G Q) ∧ (¬ (a1 < 0) → (inI (G 16081 129) → ((a1 < G 16081 129 → (∀ G4 : gS, G4 = uG G 16081 3 (0) → ((0 : Int) ≤ a1 ∧ ((a1 : Int) < 64 ∧ (inI (G4 16188 a1) → ((0 : Int) ≤ G4 16188 a1 ∧ ((G4 16188 a1 : Int) < 216 ∧ (inL (G4 16098 (G4 16188 a1)) → PX13_outName (G4 16098 (G4 16188 a1)) G4 (fun _ G11 => (inI (G11 16081 3) → Q (G11 16081 3) G11)))))))))) ∧ (¬ (a1 < G 16081 129) → PX13_name_12 a1 G Q)))))
set_option maxRecDepth 20000 in
theorem TX13_name_0 {a1 : Int} {G : gS} {Q : Int → gS → Prop} (ha1 : inI a1) (h : PX13_name_0 a1 G Q) : Tg W0 vX13_name_0 [rf (16081), cI (a1)] [] G (fun r G => ∃ v, r = cI v ∧ inI v ∧ Q v G) := by
  unfold PX13_name_0 at h
  unfold vX13_name_0
  refine g_ld (v := cI _) rfl (is_I _) ?_
  refine g_lt1 ha1 (fun b1 => ?_) (fun b1 => ?_)
  · replace h := h.1 b1
    exact TX13_name_12 ha1 h
  · replace h := h.2 b1
    unfold vX13_name_4
    refine g_ld (v := cI _) rfl (is_I _) ?_
    refine g_ld (v := rf _) rfl (is_R _) ?_
    refine g_getI (kz := 129) oC13 rfl (Nat.le_of_ble_eq_true rfl) rfl fun i2 => ?_
    replace h := h i2
    refine g_lt2 ha1 i2 (fun b3 => ?_) (fun b3 => ?_)
    · replace h := h.1 b3
      unfold vX13_name_14
      refine g_ld (v := rf _) rfl (is_R _) ?_
      refine g_const (v := cI (0)) rfl ?_
      refine g_putI (kz := 3) oC13 rfl (Nat.le_of_ble_eq_true rfl) rfl ⟨by omega, by omega⟩ (zfin_no (c := 16081) (j := 3) rfl) ?_
      replace h := h _ rfl
      refine g_ld (v := rf _) rfl (is_R _) ?_
      refine g_ld (v := rf _) rfl (is_R _) ?_
      refine g_getF (v := 16098) oC13 (hC13_24) rfl (Nat.le_of_ble_eq_true rfl) (Nat.le_of_ble_eq_true rfl) ?_
      refine g_ld (v := rf _) rfl (is_R _) ?_
      refine g_getF (v := 16188) oC13 (hC13_130) rfl (Nat.le_of_ble_eq_true rfl) (Nat.le_of_ble_eq_true rfl) ?_
      refine g_ld (v := cI _) rfl (is_I _) ?_
      obtain ⟨q5, q6, h⟩ := h
      refine g_aldI aC16188 q5 q6 rfl fun i7 => ?_
      replace h := h i7
      obtain ⟨q8, q9, h⟩ := h
      refine g_aldL aC16098 q8 q9 rfl fun i10 => ?_
      replace h := h i10
      refine g_callV (As := [_]) (ci := 13) oC13 (fun _ => rfl) ?_
      refine g_go0 (Nat.le_of_ble_eq_true rfl) (Tn_w (TX13_outName i10 h) fun _ G11 ⟨e, h⟩ => ⟨e, ?_⟩)
      refine g_ld (v := rf _) rfl (is_R _) ?_
      refine g_getI (kz := 3) oC13 rfl (Nat.le_of_ble_eq_true rfl) rfl fun i13 => ?_
      replace h := h i13
      exact g_ret1 (is_I _) ⟨_, rfl, i13, h⟩
    · replace h := h.2 b3
      exact TX13_name_12 ha1 h
abbrev PX13_name (a1 : Int) (G : gS) (Q : Int → gS → Prop) : Prop := PX13_name_0 a1 G Q
theorem TX13_name {a1 : Int} {G : gS} {Q : Int → gS → Prop} (ha1 : inI a1) (h : PX13_name a1 G Q) : Tn W0 FX13_name [rf (16081), cI (a1)] G (fun r G => ∃ v, r = cI v ∧ inI v ∧ Q v G) := by
  unfold FX13_name
  refine g_ent (lv' := [rf (16081), cI (a1)]) (flR (flI fl0)) (Nat.le_of_ble_eq_true rfl) rfl ?_
  exact TX13_name_0 ha1 h
def PX13_state_22 (l1 : Int) (s0 : Int) (G : gS) (Q : Int → gS → Prop) : Prop :=
  Q (s0) G
set_option maxRecDepth 20000 in
theorem TX13_state_22 {l1 : Int} {s0 : Int} {G : gS} {Q : Int → gS → Prop} (hl1 : inI l1) (hs0 : inI s0) (h : PX13_state_22 l1 s0 G Q) : Tg W0 vX13_state_22 [rf (16081), cI (l1)] [cI (s0)] G (fun r G => ∃ v, r = cI v ∧ inI v ∧ Q v G) := by
  unfold PX13_state_22 at h
  unfold vX13_state_22
  exact g_ret1 (is_I _) ⟨_, rfl, hs0, h⟩
def PX13_state_12 (l1 : Int) (G : gS) (Q : Int → gS → Prop) : Prop :=
  PX13_state_22 l1 (-1) G Q
set_option maxRecDepth 20000 in
theorem TX13_state_12 {l1 : Int} {G : gS} {Q : Int → gS → Prop} (hl1 : inI l1) (h : PX13_state_12 l1 G Q) : Tg W0 vX13_state_12 [rf (16081), cI (l1)] [] G (fun r G => ∃ v, r = cI v ∧ inI v ∧ Q v G) := by
  unfold PX13_state_12 at h
  unfold vX13_state_12
  refine g_const (v := cI (-1)) rfl ?_
  exact TX13_state_22 hl1 ⟨by omega, by omega⟩ h
def PX13_state_0 (a1 : Int) (G : gS) (Q : Int → gS → Prop) : Prop :=
  ((a1 < 0 → PX13_state_12 a1 G Q) ∧ (¬ (a1 < 0) → (inI (G 16081 129) → ((a1 < G 16081 129 → ((0 : Int) ≤ a1 ∧ ((a1 : Int) < 128 ∧ (inI (G 16190 a1) → PX13_state_22 a1 (G 16190 a1) G Q)))) ∧ (¬ (a1 < G 16081 129) → PX13_state_12 a1 G Q)))))
set_option maxRecDepth 20000 in
theorem TX13_state_0 {a1 : Int} {G : gS} {Q : Int → gS → Prop} (ha1 : inI a1) (h : PX13_state_0 a1 G Q) : Tg W0 vX13_state_0 [rf (16081), cI (a1)] [] G (fun r G => ∃ v, r = cI v ∧ inI v ∧ Q v G) := by
  unfold PX13_state_0 at h
  unfold vX13_state_0
  refine g_ld (v := cI _) rfl (is_I _) ?_
  refine g_lt1 ha1 (fun b1 => ?_) (fun b1 => ?_)
  · replace h := h.1 b1
    exact TX13_state_12 ha1 h
  · replace h := h.2 b1
    unfold vX13_state_4
    refine g_ld (v := cI _) rfl (is_I _) ?_
    refine g_ld (v := rf _) rfl (is_R _) ?_
    refine g_getI (kz := 129) oC13 rfl (Nat.le_of_ble_eq_true rfl) rfl fun i2 => ?_
    replace h := h i2
    refine g_lt2 ha1 i2 (fun b3 => ?_) (fun b3 => ?_)
    · replace h := h.1 b3
      unfold vX13_state_16
      refine g_ld (v := rf _) rfl (is_R _) ?_
      refine g_getF (v := 16190) oC13 (hC13_132) rfl (Nat.le_of_ble_eq_true rfl) (Nat.le_of_ble_eq_true rfl) ?_
      refine g_ld (v := cI _) rfl (is_I _) ?_
      obtain ⟨q4, q5, h⟩ := h
      refine g_aldI aC16190 q4 q5 rfl fun i6 => ?_
      replace h := h i6
      exact TX13_state_22 ha1 i6 h
    · replace h := h.2 b3
      exact TX13_state_12 ha1 h
abbrev PX13_state (a1 : Int) (G : gS) (Q : Int → gS → Prop) : Prop := PX13_state_0 a1 G Q
theorem TX13_state {a1 : Int} {G : gS} {Q : Int → gS → Prop} (ha1 : inI a1) (h : PX13_state a1 G Q) : Tn W0 FX13_state [rf (16081), cI (a1)] G (fun r G => ∃ v, r = cI v ∧ inI v ∧ Q v G) := by
  unfold FX13_state
  refine g_ent (lv' := [rf (16081), cI (a1)]) (flR (flI fl0)) (Nat.le_of_ble_eq_true rfl) rfl ?_
  exact TX13_state_0 ha1 h
def PX13_classOf_28 (l1 : Int) (s0 : Int) (G : gS) (Q : Int → gS → Prop) : Prop :=
  Q (s0) G
set_option maxRecDepth 20000 in
theorem TX13_classOf_28 {l1 : Int} {s0 : Int} {G : gS} {Q : Int → gS → Prop} (hl1 : inI l1) (hs0 : inI s0) (h : PX13_classOf_28 l1 s0 G Q) : Tg W0 vX13_classOf_28 [rf (16081), cI (l1)] [cI (s0)] G (fun r G => ∃ v, r = cI v ∧ inI v ∧ Q v G) := by
  unfold PX13_classOf_28 at h
  unfold vX13_classOf_28
  exact g_ret1 (is_I _) ⟨_, rfl, hs0, h⟩
def PX13_classOf_13 (l1 : Int) (G : gS) (Q : Int → gS → Prop) : Prop :=
  PX13_classOf_28 l1 (-1) G Q
set_option maxRecDepth 20000 in
theorem TX13_classOf_13 {l1 : Int} {G : gS} {Q : Int → gS → Prop} (hl1 : inI l1) (h : PX13_classOf_13 l1 G Q) : Tg W0 vX13_classOf_13 [rf (16081), cI (l1)] [] G (fun r G => ∃ v, r = cI v ∧ inI v ∧ Q v G) := by
  unfold PX13_classOf_13 at h
  unfold vX13_classOf_13
  refine g_const (v := cI (-1)) rfl ?_
  exact TX13_classOf_28 hl1 ⟨by omega, by omega⟩ h
def PX13_classOf_0 (a1 : Int) (G : gS) (Q : Int → gS → Prop) : Prop :=
  ((a1 < 1 → PX13_classOf_13 a1 G Q) ∧ (¬ (a1 < 1) → (inI (G 16081 151) → ((G 16081 151 < a1 → PX13_classOf_13 a1 G Q) ∧ (¬ (G 16081 151 < a1) → ((0 : Int) ≤ a1 ∧ ((a1 : Int) < 202 ∧ (inI (G 16200 a1) → ((0 : Int) ≤ G 16200 a1 ∧ ((G 16200 a1 : Int) < 216 ∧ (inI (G 16189 (G 16200 a1)) → PX13_classOf_28 a1 (G 16189 (G 16200 a1)) G Q)))))))))))
set_option maxRecDepth 20000 in
theorem TX13_classOf_0 {a1 : Int} {G : gS} {Q : Int → gS → Prop} (ha1 : inI a1) (h : PX13_classOf_0 a1 G Q) : Tg W0 vX13_classOf_0 [rf (16081), cI (a1)] [] G (fun r G => ∃ v, r = cI v ∧ inI v ∧ Q v G) := by
  unfold PX13_classOf_0 at h
  unfold vX13_classOf_0
  refine g_ld (v := cI _) rfl (is_I _) ?_
  refine g_const (v := cI (1)) rfl ?_
  refine g_lt2 ha1 ⟨by omega, by omega⟩ (fun b1 => ?_) (fun b1 => ?_)
  · replace h := h.1 b1
    exact TX13_classOf_13 ha1 h
  · replace h := h.2 b1
    unfold vX13_classOf_5
    refine g_ld (v := cI _) rfl (is_I _) ?_
    refine g_ld (v := rf _) rfl (is_R _) ?_
    refine g_getI (kz := 151) oC13 rfl (Nat.le_of_ble_eq_true rfl) rfl fun i2 => ?_
    replace h := h i2
    refine g_gt2 ha1 i2 (fun b3 => ?_) (fun b3 => ?_)
    · replace h := h.1 b3
      exact TX13_classOf_13 ha1 h
    · replace h := h.2 b3
      unfold vX13_classOf_17
      refine g_ld (v := rf _) rfl (is_R _) ?_
      refine g_getF (v := 16189) oC13 (hC13_131) rfl (Nat.le_of_ble_eq_true rfl) (Nat.le_of_ble_eq_true rfl) ?_
      refine g_ld (v := rf _) rfl (is_R _) ?_
      refine g_getF (v := 16200) oC13 (hC13_149) rfl (Nat.le_of_ble_eq_true rfl) (Nat.le_of_ble_eq_true rfl) ?_
      refine g_ld (v := cI _) rfl (is_I _) ?_
      obtain ⟨q4, q5, h⟩ := h
      refine g_aldI aC16200 q4 q5 rfl fun i6 => ?_
      replace h := h i6
      obtain ⟨q7, q8, h⟩ := h
      refine g_aldI aC16189 q7 q8 rfl fun i9 => ?_
      replace h := h i9
      exact TX13_classOf_28 ha1 i9 h
abbrev PX13_classOf (a1 : Int) (G : gS) (Q : Int → gS → Prop) : Prop := PX13_classOf_0 a1 G Q
theorem TX13_classOf {a1 : Int} {G : gS} {Q : Int → gS → Prop} (ha1 : inI a1) (h : PX13_classOf a1 G Q) : Tn W0 FX13_classOf [rf (16081), cI (a1)] G (fun r G => ∃ v, r = cI v ∧ inI v ∧ Q v G) := by
  unfold FX13_classOf
  refine g_ent (lv' := [rf (16081), cI (a1)]) (flR (flI fl0)) (Nat.le_of_ble_eq_true rfl) rfl ?_
  exact TX13_classOf_0 ha1 h
def PX13_fieldOf_63 (l1 : Int) (l2 : Int) (l3 : Int) (s0 : Int) (G : gS) (Q : Int → gS → Prop) : Prop :=
  Q (s0) G
set_option maxRecDepth 20000 in
theorem TX13_fieldOf_63 {l1 : Int} {l2 : Int} {l3 : Int} {s0 : Int} {G : gS} {Q : Int → gS → Prop} (hl1 : inI l1) (hl2 : inI l2) (hl3 : inI l3) (hs0 : inI s0) (h : PX13_fieldOf_63 l1 l2 l3 s0 G Q) : Tg W0 vX13_fieldOf_63 [rf (16081), cI (l1), cI (l2), cI (l3)] [cI (s0)] G (fun r G => ∃ v, r = cI v ∧ inI v ∧ Q v G) := by
  unfold PX13_fieldOf_63 at h
  unfold vX13_fieldOf_63
  exact g_ret1 (is_I _) ⟨_, rfl, hs0, h⟩
def PX13_fieldOf_41 (l1 : Int) (l2 : Int) (s0 : Int) (G : gS) (Q : Int → gS → Prop) : Prop :=
  ((s0 = 0 → PX13_fieldOf_63 l1 l2 s0 0 G Q) ∧ (¬ (s0 = 0) → ((0 : Int) ≤ l1 ∧ ((l1 : Int) < 202 ∧ (inI (G 16201 l1) → ((0 : Int) ≤ (G 16201 l1) + l2 ∧ (((G 16201 l1) + l2 : Int) < 2001 ∧ (inI (G 16202 ((G 16201 l1) + l2)) → PX13_fieldOf_63 l1 l2 s0 (G 16202 ((G 16201 l1) + l2)) G Q))))))))
set_option maxRecDepth 20000 in
theorem TX13_fieldOf_41 {l1 : Int} {l2 : Int} {l3 : Nat} {s0 : Int} {G : gS} {Q : Int → gS → Prop} (hl1 : inI l1) (hl2 : inI l2) (hl3 : l3 % 8 ≠ 1) (hs0 : inI s0) (h : PX13_fieldOf_41 l1 l2 s0 G Q) : Tg W0 vX13_fieldOf_41 [rf (16081), cI (l1), cI (l2), l3] [cI (s0)] G (fun r G => ∃ v, r = cI v ∧ inI v ∧ Q v G) := by
  unfold PX13_fieldOf_41 at h
  unfold vX13_fieldOf_41
  refine g_st (lv' := [_, _, _, _]) (is_I _) (Nat.le_of_ble_eq_true rfl) (Or.inr (n1_I _)) rfl ?_
  refine g_ld (v := cI _) rfl (is_I _) ?_
  refine g_eq1 hs0 (fun b13 => ?_) (fun b13 => ?_)
  · replace h := h.1 b13
    unfold vX13_fieldOf_62
    refine g_const (v := cI (0)) rfl ?_
    exact TX13_fieldOf_63 hl1 hl2 hs0 ⟨by omega, by omega⟩ h
  · replace h := h.2 b13
    unfold vX13_fieldOf_46
    refine g_ld (v := rf _) rfl (is_R _) ?_
    refine g_getF (v := 16202) oC13 (hC13_152) rfl (Nat.le_of_ble_eq_true rfl) (Nat.le_of_ble_eq_true rfl) ?_
    refine g_ld (v := rf _) rfl (is_R _) ?_
    refine g_getF (v := 16201) oC13 (hC13_150) rfl (Nat.le_of_ble_eq_true rfl) (Nat.le_of_ble_eq_true rfl) ?_
    refine g_ld (v := cI _) rfl (is_I _) ?_
    obtain ⟨q14, q15, h⟩ := h
    refine g_aldI aC16201 q14 q15 rfl fun i16 => ?_
    replace h := h i16
    refine g_ld (v := cI _) rfl (is_I _) ?_
    refine g_add ?_
    obtain ⟨q17, q18, h⟩ := h
    refine g_aldI aC16202 q17 q18 rfl fun i19 => ?_
    replace h := h i19
    exact TX13_fieldOf_63 hl1 hl2 hs0 i19 h
def PX13_fieldOf_40 (l1 : Int) (l2 : Int) (G : gS) (Q : Int → gS → Prop) : Prop :=
  PX13_fieldOf_41 l1 l2 0 G Q
set_option maxRecDepth 20000 in
theorem TX13_fieldOf_40 {l1 : Int} {l2 : Int} {l3 : Nat} {G : gS} {Q : Int → gS → Prop} (hl1 : inI l1) (hl2 : inI l2) (hl3 : l3 % 8 ≠ 1) (h : PX13_fieldOf_40 l1 l2 G Q) : Tg W0 vX13_fieldOf_40 [rf (16081), cI (l1), cI (l2), l3] [] G (fun r G => ∃ v, r = cI v ∧ inI v ∧ Q v G) := by
  unfold PX13_fieldOf_40 at h
  unfold vX13_fieldOf_40
  refine g_const (v := cI (0)) rfl ?_
  exact TX13_fieldOf_41 hl1 hl2 hl3 ⟨by omega, by omega⟩ h
def PX13_fieldOf_0 (a1 : Int) (a2 : Int) (G : gS) (Q : Int → gS → Prop) : Prop :=
  ((a1 < 1 → PX13_fieldOf_40 a1 a2 G Q) ∧ (¬ (a1 < 1) → (inI (G 16081 151) → ((G 16081 151 < a1 → PX13_fieldOf_40 a1 a2 G Q) ∧ (¬ (G 16081 151 < a1) → ((a2 < 0 → PX13_fieldOf_40 a1 a2 G Q) ∧ (¬ (a2 < 0) → ((0 : Int) ≤ a1 + 1 ∧ ((a1 + 1 : Int) < 202 ∧ (inI (G 16201 (a1 + 1)) → ((0 : Int) ≤ a1 ∧ ((a1 : Int) < 202 ∧ (inI (G 16201 a1) → (inI ((G 16201 (a1 + 1)) - (G 16201 a1)) ∧ ((a2 < (G 16201 (a1 + 1)) - (G 16201 a1) → PX13_fieldOf_41 a1 a2 1 G Q) ∧ (¬ (a2 < (G 16201 (a1 + 1)) - (G 16201 a1)) → PX13_fieldOf_40 a1 a2 G Q))))))))))))))))
set_option maxRecDepth 20000 in
theorem TX13_fieldOf_0 {a1 : Int} {a2 : Int} {G : gS} {Q : Int → gS → Prop} (ha1 : inI a1) (ha2 : inI a2) (h : PX13_fieldOf_0 a1 a2 G Q) : Tg W0 vX13_fieldOf_0 [rf (16081), cI (a1), cI (a2), 7] [] G (fun r G => ∃ v, r = cI v ∧ inI v ∧ Q v G) := by
  unfold PX13_fieldOf_0 at h
  unfold vX13_fieldOf_0
  refine g_ld (v := cI _) rfl (is_I _) ?_
  refine g_const (v := cI (1)) rfl ?_
  refine g_lt2 ha1 ⟨by omega, by omega⟩ (fun b1 => ?_) (fun b1 => ?_)
  · replace h := h.1 b1
    exact TX13_fieldOf_40 ha1 ha2 (show 7 % 8 ≠ 1 by decide) h
  · replace h := h.2 b1
    unfold vX13_fieldOf_5
    refine g_ld (v := cI _) rfl (is_I _) ?_
    refine g_ld (v := rf _) rfl (is_R _) ?_
    refine g_getI (kz := 151) oC13 rfl (Nat.le_of_ble_eq_true rfl) rfl fun i2 => ?_
    replace h := h i2
    refine g_gt2 ha1 i2 (fun b3 => ?_) (fun b3 => ?_)
    · replace h := h.1 b3
      exact TX13_fieldOf_40 ha1 ha2 (show 7 % 8 ≠ 1 by decide) h
    · replace h := h.2 b3
      unfold vX13_fieldOf_13
      refine g_ld (v := cI _) rfl (is_I _) ?_
      refine g_lt1 ha2 (fun b4 => ?_) (fun b4 => ?_)
      · replace h := h.1 b4
        exact TX13_fieldOf_40 ha1 ha2 (show 7 % 8 ≠ 1 by decide) h
      · replace h := h.2 b4
        unfold vX13_fieldOf_17
        refine g_ld (v := cI _) rfl (is_I _) ?_
        refine g_ld (v := rf _) rfl (is_R _) ?_
        refine g_getF (v := 16201) oC13 (hC13_150) rfl (Nat.le_of_ble_eq_true rfl) (Nat.le_of_ble_eq_true rfl) ?_
        refine g_ld (v := cI _) rfl (is_I _) ?_
        refine g_const (v := cI (1)) rfl ?_
        refine g_add ?_
        obtain ⟨q5, q6, h⟩ := h
        refine g_aldI aC16201 q5 q6 rfl fun i7 => ?_
        replace h := h i7
        refine g_ld (v := rf _) rfl (is_R _) ?_
        refine g_getF (v := 16201) oC13 (hC13_150) rfl (Nat.le_of_ble_eq_true rfl) (Nat.le_of_ble_eq_true rfl) ?_
        refine g_ld (v := cI _) rfl (is_I _) ?_
        obtain ⟨q8, q9, h⟩ := h
        refine g_aldI aC16201 q8 q9 rfl fun i10 => ?_
        replace h := h i10
        refine g_sub ?_
        obtain ⟨q11, h⟩ := h
        refine g_lt2 ha2 q11 (fun b12 => ?_) (fun b12 => ?_)
        · replace h := h.1 b12
          unfold vX13_fieldOf_36
          refine g_const (v := cI (1)) rfl ?_
          exact TX13_fieldOf_41 ha1 ha2 (show 7 % 8 ≠ 1 by decide) ⟨by omega, by omega⟩ h
        · replace h := h.2 b12
          exact TX13_fieldOf_40 ha1 ha2 (show 7 % 8 ≠ 1 by decide) h
abbrev PX13_fieldOf (a1 : Int) (a2 : Int) (G : gS) (Q : Int → gS → Prop) : Prop := PX13_fieldOf_0 a1 a2 G Q
theorem TX13_fieldOf {a1 : Int} {a2 : Int} {G : gS} {Q : Int → gS → Prop} (ha1 : inI a1) (ha2 : inI a2) (h : PX13_fieldOf a1 a2 G Q) : Tn W0 FX13_fieldOf [rf (16081), cI (a1), cI (a2)] G (fun r G => ∃ v, r = cI v ∧ inI v ∧ Q v G) := by
  unfold FX13_fieldOf
  refine g_ent (lv' := [rf (16081), cI (a1), cI (a2), 7]) (flR (flI (flI fl0))) (Nat.le_of_ble_eq_true rfl) rfl ?_
  exact TX13_fieldOf_0 ha1 ha2 h
def PX13_toldPlace_46 (J : Nat → List Int → gS → (Int → gS → Prop) → Prop) (l1 : Int) (l2 : Int) (l3 : Int) (l4 : Int) (s0 : Int) (s1 : Int) (G : gS) (Q : Int → gS → Prop) : Prop :=
  (inI (s0 + s1) ∧ (inI (l4 + 1) ∧ J 0 [l1, l2, s0 + s1, l4 + 1] G Q))
set_option maxRecDepth 20000 in
theorem TX13_toldPlace_46 {j : Nat → rx_K} {J : Nat → List Int → gS → (Int → gS → Prop) → Prop} {l1 : Int} {l2 : Int} {l3 : Int} {l4 : Int} {s0 : Int} {s1 : Int} {G : gS} {Q : Int → gS → Prop} (hl1 : inI l1) (hl2 : inI l2) (hl3 : inI l3) (hl4 : inI l4) (hs0 : inI s0) (hs1 : inI s1) (hj0 : ∀ (l1 : Int) (l2 : Int) (l3 : Int) (l4 : Int) (G : gS), (inI l1) → (inI l2) → (inI l3) → (inI l4) → J 0 [l1, l2, l3, l4] G Q → Tg W0 (j 0) [rf (16081), cI (l1), cI (l2), cI (l3), cI (l4)] [] G (fun r G => ∃ v, r = cI v ∧ inI v ∧ Q v G)) (h : PX13_toldPlace_46 J l1 l2 l3 l4 s0 s1 G Q) : Tg W0 (vX13_toldPlace_46 j) [rf (16081), cI (l1), cI (l2), cI (l3), cI (l4)] [cI (s1), cI (s0)] G (fun r G => ∃ v, r = cI v ∧ inI v ∧ Q v G) := by
  unfold PX13_toldPlace_46 at h
  unfold vX13_toldPlace_46
  refine g_add ?_
  refine g_st (lv' := [_, _, _, _, _]) (is_I _) (Nat.le_of_ble_eq_true rfl) (Or.inr (n1_I _)) rfl ?_
  obtain ⟨q11, h⟩ := h
  refine g_inc (lv' := [_, _, _, _, _]) rfl (Nat.le_of_ble_eq_true rfl) (Or.inr (n1_I _)) rfl ?_
  obtain ⟨q12, h⟩ := h
  exact hj0 _ _ _ _ _ hl1 hl2 q11 q12 h
def PX13_toldPlace_23 (J : Nat → List Int → gS → (Int → gS → Prop) → Prop) (l1 : Int) (l2 : Int) (l3 : Int) (l4 : Int) (G : gS) (Q : Int → gS → Prop) : Prop :=
  ((l4 < l1 → ((0 : Int) ≤ l4 ∧ ((l4 : Int) < 7344 ∧ (inI (G 16116 l4) → ((G 16116 l4 = 3 → PX13_toldPlace_46 J l1 l2 l3 l4 l3 0 G Q) ∧ (¬ (G 16116 l4 = 3) → PX13_toldPlace_46 J l1 l2 l3 l4 l3 1 G Q)))))) ∧ (¬ (l4 < l1) → Q (l3) G))
set_option maxRecDepth 20000 in
theorem TX13_toldPlace_23 {j : Nat → rx_K} {J : Nat → List Int → gS → (Int → gS → Prop) → Prop} {l1 : Int} {l2 : Int} {l3 : Int} {l4 : Int} {G : gS} {Q : Int → gS → Prop} (hl1 : inI l1) (hl2 : inI l2) (hl3 : inI l3) (hl4 : inI l4) (hj0 : ∀ (l1 : Int) (l2 : Int) (l3 : Int) (l4 : Int) (G : gS), (inI l1) → (inI l2) → (inI l3) → (inI l4) → J 0 [l1, l2, l3, l4] G Q → Tg W0 (j 0) [rf (16081), cI (l1), cI (l2), cI (l3), cI (l4)] [] G (fun r G => ∃ v, r = cI v ∧ inI v ∧ Q v G)) (h : PX13_toldPlace_23 J l1 l2 l3 l4 G Q) : Tg W0 (vX13_toldPlace_23 j) [rf (16081), cI (l1), cI (l2), cI (l3), cI (l4)] [] G (fun r G => ∃ v, r = cI v ∧ inI v ∧ Q v G) := by
  unfold PX13_toldPlace_23 at h
  unfold vX13_toldPlace_23
  refine g_ld (v := cI _) rfl (is_I _) ?_
  refine g_ld (v := cI _) rfl (is_I _) ?_
  refine g_lt2 hl4 hl1 (fun b6 => ?_) (fun b6 => ?_)
  · replace h := h.1 b6
    unfold vX13_toldPlace_29
    refine g_ld (v := cI _) rfl (is_I _) ?_
    refine g_ld (v := rf _) rfl (is_R _) ?_
    refine g_getF (v := 16116) oC13 (hC13_42) rfl (Nat.le_of_ble_eq_true rfl) (Nat.le_of_ble_eq_true rfl) ?_
    refine g_ld (v := cI _) rfl (is_I _) ?_
    obtain ⟨q7, q8, h⟩ := h
    refine g_aldI aC16116 q7 q8 rfl fun i9 => ?_
    replace h := h i9
    refine g_const (v := cI (3)) rfl ?_
    refine g_eq2 i9 ⟨by omega, by omega⟩ (fun b10 => ?_) (fun b10 => ?_)
    · replace h := h.1 b10
      unfold vX13_toldPlace_41
      refine g_const (v := cI (0)) rfl ?_
      exact TX13_toldPlace_46 hl1 hl2 hl3 hl4 hl3 ⟨by omega, by omega⟩ hj0 h
    · replace h := h.2 b10
      unfold vX13_toldPlace_45
      refine g_const (v := cI (1)) rfl ?_
      exact TX13_toldPlace_46 hl1 hl2 hl3 hl4 hl3 ⟨by omega, by omega⟩ hj0 h
  · replace h := h.2 b6
    unfold vX13_toldPlace_54
    refine g_ld (v := cI _) rfl (is_I _) ?_
    exact g_ret1 (is_I _) ⟨_, rfl, hl3, h⟩
def PX13_toldPlace_0 (J : Nat → List Int → gS → (Int → gS → Prop) → Prop) (a1 : Int) (G : gS) (Q : Int → gS → Prop) : Prop :=
  ((a1 = -2 → Q (-2) G) ∧ (¬ (a1 = -2) → PX13_classOfMember a1 G (fun r3 G2 => inI r3 → (inI (r3 * 34) ∧ PX13_toldPlace_23 J a1 r3 0 (r3 * 34) G2 Q))))
set_option maxRecDepth 20000 in
theorem TX13_toldPlace_0 {j : Nat → rx_K} {J : Nat → List Int → gS → (Int → gS → Prop) → Prop} {a1 : Int} {G : gS} {Q : Int → gS → Prop} (ha1 : inI a1) (hj0 : ∀ (l1 : Int) (l2 : Int) (l3 : Int) (l4 : Int) (G : gS), (inI l1) → (inI l2) → (inI l3) → (inI l4) → J 0 [l1, l2, l3, l4] G Q → Tg W0 (j 0) [rf (16081), cI (l1), cI (l2), cI (l3), cI (l4)] [] G (fun r G => ∃ v, r = cI v ∧ inI v ∧ Q v G)) (h : PX13_toldPlace_0 J a1 G Q) : Tg W0 (vX13_toldPlace_0 j) [rf (16081), cI (a1), 7, 7, 7] [] G (fun r G => ∃ v, r = cI v ∧ inI v ∧ Q v G) := by
  unfold PX13_toldPlace_0 at h
  unfold vX13_toldPlace_0
  refine g_ld (v := cI _) rfl (is_I _) ?_
  refine g_const (v := cI (-2)) rfl ?_
  refine g_eq2 ha1 ⟨by omega, by omega⟩ (fun b1 => ?_) (fun b1 => ?_)
  · replace h := h.1 b1
    unfold vX13_toldPlace_6
    refine g_const (v := cI (-2)) rfl ?_
    exact g_ret1 (is_I _) ⟨_, rfl, ⟨by omega, by omega⟩, h⟩
  · replace h := h.2 b1
    unfold vX13_toldPlace_9
    refine g_ld (v := rf _) rfl (is_R _) ?_
    refine g_ld (v := cI _) rfl (is_I _) ?_
    refine g_callV (As := [_]) (ci := 13) oC13 (fun _ => rfl) ?_
    refine g_go1 (Nat.le_of_ble_eq_true rfl) (Tn_w (TX13_classOfMember ha1 h) fun _ G2 ⟨r3, e, i4, h⟩ => ?_)
    subst e
    refine ⟨n7_I _, ?_⟩
    replace h := h i4
    refine g_st (lv' := [_, _, _, _, _]) (is_I _) (Nat.le_of_ble_eq_true rfl) (Or.inr (n1_I _)) rfl ?_
    refine g_const (v := cI (0)) rfl ?_
    refine g_st (lv' := [_, _, _, _, _]) (is_I _) (Nat.le_of_ble_eq_true rfl) (Or.inr (n1_I _)) rfl ?_
    refine g_ld (v := cI _) rfl (is_I _) ?_
    refine g_const (v := cI (34)) rfl ?_
    refine g_mul ?_
    refine g_st (lv' := [_, _, _, _, _]) (is_I _) (Nat.le_of_ble_eq_true rfl) (Or.inr (n1_I _)) rfl ?_
    obtain ⟨q5, h⟩ := h
    exact TX13_toldPlace_23 ha1 i4 ⟨by omega, by omega⟩ q5 hj0 h
def PX13_toldPlace_J : Nat → Nat → List Int → gS → (Int → gS → Prop) → Prop
  | 0, _, _, _, _ => False
  | f + 1, h, L, G, Q => match h, L with
    | 0, [l1, l2, l3, l4] => PX13_toldPlace_23 (PX13_toldPlace_J f) l1 l2 l3 l4 G Q
    | _, _ => False
theorem TX13_toldPlace_J {Q : Int → gS → Prop} : ∀ f N : Nat, f ≤ N → (∀ (l1 : Int) (l2 : Int) (l3 : Int) (l4 : Int) (G : gS), (inI l1) → (inI l2) → (inI l3) → (inI l4) → (PX13_toldPlace_J f) 0 [l1, l2, l3, l4] G Q → Tg W0 (rx_J vhX13_toldPlace N 0) [rf (16081), cI (l1), cI (l2), cI (l3), cI (l4)] [] G (fun r G => ∃ v, r = cI v ∧ inI v ∧ Q v G)) := by
  intro f
  induction f with
  | zero => exact fun N _ => fun _ _ _ _ _ _ _ _ _ h => h.elim
  | succ f ih =>
    intro N hN
    obtain ⟨M, rfl⟩ : ∃ M, N = M + 1 := ⟨N - 1, by omega⟩
    have ih := ih M (by omega)
    exact fun _ _ _ _ _ hl1 hl2 hl3 hl4 h => show Tg W0 (vX13_toldPlace_23 (rx_J vhX13_toldPlace M)) _ _ _ _ from TX13_toldPlace_23 hl1 hl2 hl3 hl4 ih h
def PX13_toldPlace (a1 : Int) (G : gS) (Q : Int → gS → Prop) : Prop := ∃ f : Nat, f ≤ 4000000000 ∧ PX13_toldPlace_0 (PX13_toldPlace_J f) a1 G Q
theorem TX13_toldPlace {a1 : Int} {G : gS} {Q : Int → gS → Prop} (ha1 : inI a1) (h : PX13_toldPlace a1 G Q) : Tn W0 FX13_toldPlace [rf (16081), cI (a1)] G (fun r G => ∃ v, r = cI v ∧ inI v ∧ Q v G) := by
  obtain ⟨f, hf, h⟩ := h
  have hJ := TX13_toldPlace_J (Q := Q) f 4000000000 hf
  unfold FX13_toldPlace
  refine g_ent (lv' := [rf (16081), cI (a1), 7, 7, 7]) (flR (flI fl0)) (Nat.le_of_ble_eq_true rfl) rfl ?_
  exact TX13_toldPlace_0 ha1 hJ h
def PX13_differs_63 (l1 : Int) (l2 : Int) (l3 : Int) (l4 : Int) (l5 : Int) (l6 : Int) (s0 : Int) (s1 : Int) (s2 : Int) (G : gS) (Q : Int → gS → Prop) : Prop :=
  (∃ n19, isA W0 0 n19 (s0) ∧ ((0 : Int) ≤ s1 ∧ ((s1 : Int) < n19 ∧ (∀ G23 : gS, G23 = uG G s0 s1 (s2) → PX13_toldPlace l4 G23 (fun r25 G24 => inI r25 → ((0 : Int) ≤ l6 + 3 ∧ ((l6 + 3 : Int) < 30000 ∧ (∀ G29 : gS, G29 = uG G24 16212 (l6 + 3) (r25) → PX13_toldPlace l5 G29 (fun r31 G30 => inI r31 → ((0 : Int) ≤ l6 + 4 ∧ ((l6 + 4 : Int) < 30000 ∧ (∀ G35 : gS, G35 = uG G30 16212 (l6 + 4) (r31) → (inI (G35 16081 175) → (inI ((G35 16081 175) + 1) ∧ (∀ G38 : gS, G38 = uG G35 16081 175 ((G35 16081 175) + 1) → Q 0 G38)))))))))))))))
set_option maxRecDepth 20000 in
theorem TX13_differs_63 {l1 : Int} {l2 : Int} {l3 : Int} {l4 : Int} {l5 : Int} {l6 : Int} {s0 : Int} {s1 : Int} {s2 : Int} {G : gS} {Q : Int → gS → Prop} (hl1 : inI l1) (hl2 : inI l2) (hl3 : inI l3) (hl4 : inI l4) (hl5 : inI l5) (hl6 : inI l6) (hs1 : inI s1) (hs2 : inI s2) (h : PX13_differs_63 l1 l2 l3 l4 l5 l6 s0 s1 s2 G Q) : Tg W0 vX13_differs_63 [rf (16081), cI (l1), cI (l2), cI (l3), cI (l4), cI (l5), cI (l6)] [cI (s2), cI (s1), rf (s0)] G (fun r G => r = 7 ∧ Q 0 G) := by
  unfold PX13_differs_63 at h
  unfold vX13_differs_63
  obtain ⟨n19, q20, h⟩ := h
  obtain ⟨q21, q22, h⟩ := h
  refine g_astI q20 q21 q22 hs2 (nfI q20) ?_
  replace h := h _ rfl
  refine g_ld (v := rf _) rfl (is_R _) ?_
  refine g_getF (v := 16212) oC13 (hC13_174) rfl (Nat.le_of_ble_eq_true rfl) (Nat.le_of_ble_eq_true rfl) ?_
  refine g_ld (v := cI _) rfl (is_I _) ?_
  refine g_const (v := cI (3)) rfl ?_
  refine g_add ?_
  refine g_ld (v := rf _) rfl (is_R _) ?_
  refine g_ld (v := cI _) rfl (is_I _) ?_
  refine g_callV (As := [_]) (ci := 13) oC13 (fun _ => rfl) ?_
  refine g_go1 (by simp only [cs_c, cs_0, ct_I, ct_L, ct_R]; exact Nat.le_of_ble_eq_true rfl) (Tn_w (TX13_toldPlace hl4 h) fun _ G24 ⟨r25, e, i26, h⟩ => ?_)
  subst e
  refine ⟨n7_I _, ?_⟩
  replace h := h i26
  obtain ⟨q27, q28, h⟩ := h
  refine g_astI aC16212 q27 q28 i26 (nfI aC16212) ?_
  replace h := h _ rfl
  refine g_ld (v := rf _) rfl (is_R _) ?_
  refine g_getF (v := 16212) oC13 (hC13_174) rfl (Nat.le_of_ble_eq_true rfl) (Nat.le_of_ble_eq_true rfl) ?_
  refine g_ld (v := cI _) rfl (is_I _) ?_
  refine g_const (v := cI (4)) rfl ?_
  refine g_add ?_
  refine g_ld (v := rf _) rfl (is_R _) ?_
  refine g_ld (v := cI _) rfl (is_I _) ?_
  refine g_callV (As := [_]) (ci := 13) oC13 (fun _ => rfl) ?_
  refine g_go1 (by simp only [cs_c, cs_0, ct_I, ct_L, ct_R]; exact Nat.le_of_ble_eq_true rfl) (Tn_w (TX13_toldPlace hl5 h) fun _ G30 ⟨r31, e, i32, h⟩ => ?_)
  subst e
  refine ⟨n7_I _, ?_⟩
  replace h := h i32
  obtain ⟨q33, q34, h⟩ := h
  refine g_astI aC16212 q33 q34 i32 (nfI aC16212) ?_
  replace h := h _ rfl
  refine g_ld (v := rf _) rfl (is_R _) ?_
  refine g_dup (ct_R _) ?_
  refine g_getI (kz := 175) oC13 rfl (Nat.le_of_ble_eq_true rfl) rfl fun i36 => ?_
  replace h := h i36
  refine g_const (v := cI (1)) rfl ?_
  refine g_add ?_
  unfold vX13_differs_101
  obtain ⟨q37, h⟩ := h
  refine g_putI (kz := 175) oC13 rfl (Nat.le_of_ble_eq_true rfl) rfl q37 (zfin_no (c := 16081) (j := 175) rfl) ?_
  replace h := h _ rfl
  exact g_ret0 ⟨rfl, h⟩
def PX13_differs_39 (l1 : Int) (l2 : Int) (l3 : Int) (l4 : Int) (l5 : Int) (l6 : Int) (s0 : Int) (s1 : Int) (s2 : Int) (G : gS) (Q : Int → gS → Prop) : Prop :=
  (∃ n10, isA W0 0 n10 (s0) ∧ ((0 : Int) ≤ s1 ∧ ((s1 : Int) < n10 ∧ (∀ G14 : gS, G14 = uG G s0 s1 (s2) → ((l3 = -2 → (inI (l6 + 2) ∧ PX13_differs_63 l1 l2 l3 l4 l5 l6 16212 (l6 + 2) (-2) G14 Q)) ∧ (¬ (l3 = -2) → (inI (irem l3 12) → (inI (l6 + 2) ∧ PX13_differs_63 l1 l2 l3 l4 l5 l6 16212 (l6 + 2) (irem l3 12) G14 Q))))))))
set_option maxRecDepth 20000 in
theorem TX13_differs_39 {l1 : Int} {l2 : Int} {l3 : Int} {l4 : Int} {l5 : Int} {l6 : Int} {s0 : Int} {s1 : Int} {s2 : Int} {G : gS} {Q : Int → gS → Prop} (hl1 : inI l1) (hl2 : inI l2) (hl3 : inI l3) (hl4 : inI l4) (hl5 : inI l5) (hl6 : inI l6) (hs1 : inI s1) (hs2 : inI s2) (h : PX13_differs_39 l1 l2 l3 l4 l5 l6 s0 s1 s2 G Q) : Tg W0 vX13_differs_39 [rf (16081), cI (l1), cI (l2), cI (l3), cI (l4), cI (l5), cI (l6)] [cI (s2), cI (s1), rf (s0)] G (fun r G => r = 7 ∧ Q 0 G) := by
  unfold PX13_differs_39 at h
  unfold vX13_differs_39
  obtain ⟨n10, q11, h⟩ := h
  obtain ⟨q12, q13, h⟩ := h
  refine g_astI q11 q12 q13 hs2 (nfI q11) ?_
  replace h := h _ rfl
  refine g_ld (v := rf _) rfl (is_R _) ?_
  refine g_getF (v := 16212) oC13 (hC13_174) rfl (Nat.le_of_ble_eq_true rfl) (Nat.le_of_ble_eq_true rfl) ?_
  refine g_ld (v := cI _) rfl (is_I _) ?_
  refine g_const (v := cI (2)) rfl ?_
  refine g_add ?_
  refine g_ld (v := cI _) rfl (is_I _) ?_
  refine g_const (v := cI (-2)) rfl ?_
  refine g_eq2 hl3 ⟨by omega, by omega⟩ (fun b15 => ?_) (fun b15 => ?_)
  · replace h := h.1 b15
    unfold vX13_differs_54
    refine g_const (v := cI (-2)) rfl ?_
    obtain ⟨q16, h⟩ := h
    exact TX13_differs_63 hl1 hl2 hl3 hl4 hl5 hl6 q16 ⟨by omega, by omega⟩ h
  · replace h := h.2 b15
    unfold vX13_differs_59
    refine g_ld (v := cI _) rfl (is_I _) ?_
    refine g_const (v := cI (12)) rfl ?_
    refine g_irem ⟨by omega, by omega⟩ (by omega) fun i17 => ?_
    replace h := h i17
    obtain ⟨q18, h⟩ := h
    exact TX13_differs_63 hl1 hl2 hl3 hl4 hl5 hl6 q18 i17 h
def PX13_differs_0 (a1 : Int) (a2 : Int) (a3 : Int) (a4 : Int) (a5 : Int) (G : gS) (Q : Int → gS → Prop) : Prop :=
  (inI (G 16081 175) → (inI (5 * (G 16081 175)) ∧ ((0 : Int) ≤ 5 * (G 16081 175) ∧ ((5 * (G 16081 175) : Int) < 30000 ∧ (∀ G5 : gS, G5 = uG G 16212 (5 * (G 16081 175)) (a1) → ((a2 = -2 → (inI ((5 * (G 16081 175)) + 1) ∧ PX13_differs_39 a1 a2 a3 a4 a5 (5 * (G 16081 175)) 16212 ((5 * (G 16081 175)) + 1) (-2) G5 Q)) ∧ (¬ (a2 = -2) → (inI (irem a2 12) → (inI ((5 * (G 16081 175)) + 1) ∧ PX13_differs_39 a1 a2 a3 a4 a5 (5 * (G 16081 175)) 16212 ((5 * (G 16081 175)) + 1) (irem a2 12) G5 Q)))))))))
set_option maxRecDepth 20000 in
theorem TX13_differs_0 {a1 : Int} {a2 : Int} {a3 : Int} {a4 : Int} {a5 : Int} {G : gS} {Q : Int → gS → Prop} (ha1 : inI a1) (ha2 : inI a2) (ha3 : inI a3) (ha4 : inI a4) (ha5 : inI a5) (h : PX13_differs_0 a1 a2 a3 a4 a5 G Q) : Tg W0 vX13_differs_0 [rf (16081), cI (a1), cI (a2), cI (a3), cI (a4), cI (a5), 7] [] G (fun r G => r = 7 ∧ Q 0 G) := by
  unfold PX13_differs_0 at h
  unfold vX13_differs_0
  refine g_const (v := cI (5)) rfl ?_
  refine g_ld (v := rf _) rfl (is_R _) ?_
  refine g_getI (kz := 175) oC13 rfl (Nat.le_of_ble_eq_true rfl) rfl fun i1 => ?_
  replace h := h i1
  refine g_mul ?_
  refine g_st (lv' := [_, _, _, _, _, _, _]) (is_I _) (Nat.le_of_ble_eq_true rfl) (Or.inr (n1_I _)) rfl ?_
  obtain ⟨q2, h⟩ := h
  refine g_ld (v := rf _) rfl (is_R _) ?_
  refine g_getF (v := 16212) oC13 (hC13_174) rfl (Nat.le_of_ble_eq_true rfl) (Nat.le_of_ble_eq_true rfl) ?_
  refine g_ld (v := cI _) rfl (is_I _) ?_
  refine g_ld (v := cI _) rfl (is_I _) ?_
  obtain ⟨q3, q4, h⟩ := h
  refine g_astI aC16212 q3 q4 ha1 (nfI aC16212) ?_
  replace h := h _ rfl
  refine g_ld (v := rf _) rfl (is_R _) ?_
  refine g_getF (v := 16212) oC13 (hC13_174) rfl (Nat.le_of_ble_eq_true rfl) (Nat.le_of_ble_eq_true rfl) ?_
  refine g_ld (v := cI _) rfl (is_I _) ?_
  refine g_const (v := cI (1)) rfl ?_
  refine g_add ?_
  refine g_ld (v := cI _) rfl (is_I _) ?_
  refine g_const (v := cI (-2)) rfl ?_
  refine g_eq2 ha2 ⟨by omega, by omega⟩ (fun b6 => ?_) (fun b6 => ?_)
  · replace h := h.1 b6
    unfold vX13_differs_30
    refine g_const (v := cI (-2)) rfl ?_
    obtain ⟨q7, h⟩ := h
    exact TX13_differs_39 ha1 ha2 ha3 ha4 ha5 q2 q7 ⟨by omega, by omega⟩ h
  · replace h := h.2 b6
    unfold vX13_differs_35
    refine g_ld (v := cI _) rfl (is_I _) ?_
    refine g_const (v := cI (12)) rfl ?_
    refine g_irem ⟨by omega, by omega⟩ (by omega) fun i8 => ?_
    replace h := h i8
    obtain ⟨q9, h⟩ := h
    exact TX13_differs_39 ha1 ha2 ha3 ha4 ha5 q2 q9 i8 h
abbrev PX13_differs (a1 : Int) (a2 : Int) (a3 : Int) (a4 : Int) (a5 : Int) (G : gS) (Q : Int → gS → Prop) : Prop := PX13_differs_0 a1 a2 a3 a4 a5 G Q
theorem TX13_differs {a1 : Int} {a2 : Int} {a3 : Int} {a4 : Int} {a5 : Int} {G : gS} {Q : Int → gS → Prop} (ha1 : inI a1) (ha2 : inI a2) (ha3 : inI a3) (ha4 : inI a4) (ha5 : inI a5) (h : PX13_differs a1 a2 a3 a4 a5 G Q) : Tn W0 FX13_differs [rf (16081), cI (a1), cI (a2), cI (a3), cI (a4), cI (a5)] G (fun r G => r = 7 ∧ Q 0 G) := by
  unfold FX13_differs
  refine g_ent (lv' := [rf (16081), cI (a1), cI (a2), cI (a3), cI (a4), cI (a5), 7]) (flR (flI (flI (flI (flI (flI fl0)))))) (Nat.le_of_ble_eq_true rfl) rfl ?_
  exact TX13_differs_0 ha1 ha2 ha3 ha4 ha5 h
def PX13_accessOf_53 (l1 : Int) (l2 : Int) (l3 : Int) (G : gS) (Q : Int → gS → Prop) : Prop :=
  Q 0 G
set_option maxRecDepth 20000 in
theorem TX13_accessOf_53 {l1 : Int} {l2 : Int} {l3 : Int} {G : gS} {Q : Int → gS → Prop} (hl1 : inI l1) (hl2 : inI l2) (hl3 : inI l3) (h : PX13_accessOf_53 l1 l2 l3 G Q) : Tg W0 vX13_accessOf_53 [rf (16081), cI (l1), cI (l2), cI (l3)] [] G (fun r G => r = 7 ∧ Q 0 G) := by
  unfold PX13_accessOf_53 at h
  unfold vX13_accessOf_53
  exact g_ret0 ⟨rfl, h⟩
def PX13_accessOf_38 (l1 : Int) (l2 : Int) (l3 : Int) (s0 : Int) (s1 : Int) (G : gS) (Q : Int → gS → Prop) : Prop :=
  PX13_classOfMember l2 G (fun r17 G16 => inI r17 → PX13_classOfMember l3 G16 (fun r20 G19 => inI r20 → (isO W0 13 (s0) ∧ PX13_differs s1 r17 r20 l2 l3 G19 (fun _ G23 => PX13_accessOf_53 l1 l2 l3 G23 Q))))
set_option maxRecDepth 20000 in
theorem TX13_accessOf_38 {l1 : Int} {l2 : Int} {l3 : Int} {s0 : Int} {s1 : Int} {G : gS} {Q : Int → gS → Prop} (hl1 : inI l1) (hl2 : inI l2) (hl3 : inI l3) (hs1 : inI s1) (h : PX13_accessOf_38 l1 l2 l3 s0 s1 G Q) : Tg W0 vX13_accessOf_38 [rf (16081), cI (l1), cI (l2), cI (l3)] [cI (s1), rf (s0)] G (fun r G => r = 7 ∧ Q 0 G) := by
  unfold PX13_accessOf_38 at h
  unfold vX13_accessOf_38
  refine g_ld (v := rf _) rfl (is_R _) ?_
  refine g_ld (v := cI _) rfl (is_I _) ?_
  refine g_callV (As := [_]) (ci := 13) oC13 (fun _ => rfl) ?_
  refine g_go1 (by simp only [cs_c, cs_0, ct_I, ct_L, ct_R]; exact Nat.le_of_ble_eq_true rfl) (Tn_w (TX13_classOfMember hl2 h) fun _ G16 ⟨r17, e, i18, h⟩ => ?_)
  subst e
  refine ⟨n7_I _, ?_⟩
  replace h := h i18
  refine g_ld (v := rf _) rfl (is_R _) ?_
  refine g_ld (v := cI _) rfl (is_I _) ?_
  refine g_callV (As := [_]) (ci := 13) oC13 (fun _ => rfl) ?_
  refine g_go1 (by simp only [cs_c, cs_0, ct_I, ct_L, ct_R]; exact Nat.le_of_ble_eq_true rfl) (Tn_w (TX13_classOfMember hl3 h) fun _ G19 ⟨r20, e, i21, h⟩ => ?_)
  subst e
  refine ⟨n7_I _, ?_⟩
  replace h := h i21
  refine g_ld (v := cI _) rfl (is_I _) ?_
  refine g_ld (v := cI _) rfl (is_I _) ?_
  obtain ⟨q22, h⟩ := h
  refine g_callV (As := [_, _, _, _, _]) (ci := 13) q22 (fun _ => rfl) ?_
  refine g_go0 (Nat.le_of_ble_eq_true rfl) (Tn_w (Tn_eq (one13 q22) (TX13_differs hs1 i18 i21 hl2 hl3 h)) fun _ G23 ⟨e, h⟩ => ⟨e, ?_⟩)
  exact TX13_accessOf_53 hl1 hl2 hl3 h
def PX13_accessOf_0 (a1 : Int) (a2 : Int) (a3 : Int) (G : gS) (Q : Int → gS → Prop) : Prop :=
  ((0 : Int) ≤ a2 ∧ ((a2 : Int) < 7344 ∧ (inI (G 16118 a2) → ((0 : Int) ≤ a3 ∧ ((a3 : Int) < 7344 ∧ (inI (G 16118 a3) → ((G 16118 a2 = G 16118 a3 → PX13_accessOf_53 a1 a2 a3 G Q) ∧ (¬ (G 16118 a2 = G 16118 a3) → ((0 : Int) ≤ a3 ∧ ((a3 : Int) < 7344 ∧ (inI (G 16118 a3) → ((0 : Int) ≤ a2 ∧ ((a2 : Int) < 7344 ∧ (inI (G 16118 a2) → ((G 16118 a3 < G 16118 a2 → PX13_accessOf_38 a1 a2 a3 16081 a1 G Q) ∧ (¬ (G 16118 a3 < G 16118 a2) → (inI (a1 + 1) ∧ PX13_accessOf_38 a1 a2 a3 16081 (a1 + 1) G Q)))))))))))))))))
set_option maxRecDepth 20000 in
theorem TX13_accessOf_0 {a1 : Int} {a2 : Int} {a3 : Int} {G : gS} {Q : Int → gS → Prop} (ha1 : inI a1) (ha2 : inI a2) (ha3 : inI a3) (h : PX13_accessOf_0 a1 a2 a3 G Q) : Tg W0 vX13_accessOf_0 [rf (16081), cI (a1), cI (a2), cI (a3)] [] G (fun r G => r = 7 ∧ Q 0 G) := by
  unfold PX13_accessOf_0 at h
  unfold vX13_accessOf_0
  refine g_ld (v := rf _) rfl (is_R _) ?_
  refine g_getF (v := 16118) oC13 (hC13_44) rfl (Nat.le_of_ble_eq_true rfl) (Nat.le_of_ble_eq_true rfl) ?_
  refine g_ld (v := cI _) rfl (is_I _) ?_
  obtain ⟨q1, q2, h⟩ := h
  refine g_aldI aC16118 q1 q2 rfl fun i3 => ?_
  replace h := h i3
  refine g_ld (v := rf _) rfl (is_R _) ?_
  refine g_getF (v := 16118) oC13 (hC13_44) rfl (Nat.le_of_ble_eq_true rfl) (Nat.le_of_ble_eq_true rfl) ?_
  refine g_ld (v := cI _) rfl (is_I _) ?_
  obtain ⟨q4, q5, h⟩ := h
  refine g_aldI aC16118 q4 q5 rfl fun i6 => ?_
  replace h := h i6
  refine g_eq2 i3 i6 (fun b7 => ?_) (fun b7 => ?_)
  · replace h := h.1 b7
    exact TX13_accessOf_53 ha1 ha2 ha3 h
  · replace h := h.2 b7
    unfold vX13_accessOf_15
    refine g_ld (v := rf _) rfl (is_R _) ?_
    refine g_ld (v := rf _) rfl (is_R _) ?_
    refine g_getF (v := 16118) oC13 (hC13_44) rfl (Nat.le_of_ble_eq_true rfl) (Nat.le_of_ble_eq_true rfl) ?_
    refine g_ld (v := cI _) rfl (is_I _) ?_
    obtain ⟨q8, q9, h⟩ := h
    refine g_aldI aC16118 q8 q9 rfl fun i10 => ?_
    replace h := h i10
    refine g_ld (v := rf _) rfl (is_R _) ?_
    refine g_getF (v := 16118) oC13 (hC13_44) rfl (Nat.le_of_ble_eq_true rfl) (Nat.le_of_ble_eq_true rfl) ?_
    refine g_ld (v := cI _) rfl (is_I _) ?_
    obtain ⟨q11, q12, h⟩ := h
    refine g_aldI aC16118 q11 q12 rfl fun i13 => ?_
    replace h := h i13
    refine g_lt2 i10 i13 (fun b14 => ?_) (fun b14 => ?_)
    · replace h := h.1 b14
      unfold vX13_accessOf_31
      refine g_ld (v := cI _) rfl (is_I _) ?_
      exact TX13_accessOf_38 ha1 ha2 ha3 ha1 h
    · replace h := h.2 b14
      unfold vX13_accessOf_35
      refine g_ld (v := cI _) rfl (is_I _) ?_
      refine g_const (v := cI (1)) rfl ?_
      refine g_add ?_
      obtain ⟨q15, h⟩ := h
      exact TX13_accessOf_38 ha1 ha2 ha3 q15 h
abbrev PX13_accessOf (a1 : Int) (a2 : Int) (a3 : Int) (G : gS) (Q : Int → gS → Prop) : Prop := PX13_accessOf_0 a1 a2 a3 G Q
theorem TX13_accessOf {a1 : Int} {a2 : Int} {a3 : Int} {G : gS} {Q : Int → gS → Prop} (ha1 : inI a1) (ha2 : inI a2) (ha3 : inI a3) (h : PX13_accessOf a1 a2 a3 G Q) : Tn W0 FX13_accessOf [rf (16081), cI (a1), cI (a2), cI (a3)] G (fun r G => r = 7 ∧ Q 0 G) := by
  unfold FX13_accessOf
  refine g_ent (lv' := [rf (16081), cI (a1), cI (a2), cI (a3)]) (flR (flI (flI (flI fl0)))) (Nat.le_of_ble_eq_true rfl) rfl ?_
  exact TX13_accessOf_0 ha1 ha2 ha3 h
end DE

section DE
def PX5_ask_335 (o : Int) (l1 : Int) (l2 : Int) (l3 : Int) (l4 : Int) (l5 : Int) (l6 : Int) (l7 : Int) (l8 : Int) (s0 : Int) (s1 : Int) (G : gS) (Q : Int → gS → Prop) : Prop :=
  (isO W0 5 (s0) ∧ (∀ G137 : gS, G137 = uG G s0 13 (s1) → Q (l7) G137))
set_option maxRecDepth 20000 in
theorem TX5_ask_335 {o : Int} {l1 : Int} {l2 : Int} {l3 : Int} {l4 : Int} {l5 : Int} {l6 : Int} {l7 : Int} {l8 : Int} {s0 : Int} {s1 : Int} {G : gS} {Q : Int → gS → Prop} (hl1 : inI l1) (hl2 : inI l2) (hl5 : inI l5) (hl6 : inI l6) (hl7 : inI l7) (hl8 : inI l8) (hs1 : inL s1) (h : PX5_ask_335 o l1 l2 l3 l4 l5 l6 l7 l8 s0 s1 G Q) : Tg W0 vX5_ask_335 [rf (o), cI (l1), cI (l2), rf (l3), rf (l4), cI (l5), cI (l6), cI (l7), cI (l8)] [cL (s1), rf (s0)] G (fun r G => ∃ v, r = cI v ∧ inI v ∧ Q v G) := by
  unfold PX5_ask_335 at h
  unfold vX5_ask_335
  obtain ⟨q136, h⟩ := h
  refine g_putL (kz := 13) q136 rfl (Nat.le_of_ble_eq_true rfl) rfl hs1 (nf5_13 q136) ?_
  replace h := h _ rfl
  refine g_ld (v := cI _) rfl (is_I _) ?_
  exact g_ret1 (is_I _) ⟨_, rfl, hl7, h⟩
def PX5_ask_306 (o : Int) (l1 : Int) (l2 : Int) (l3 : Int) (l4 : Int) (l5 : Int) (l6 : Int) (l7 : Int) (l8 : Int) (G : gS) (Q : Int → gS → Prop) : Prop :=
  (isO W0 5 (o) ∧ (inI (G o 12) → ((G o 12 < 0 → PX5_ask_335 o l1 l2 l3 l4 l5 l6 l7 l8 o (-4) G Q) ∧ (¬ (G o 12 < 0) → ((G o 0 = -1 ∨ isO W0 11 (G o 0)) → (isO W0 11 (G o 0) ∧ (inI (G o 12) → ((0 : Int) ≤ G o 12 ∧ ((G o 12 : Int) < 64 ∧ (((G ((G o 0) + 1) (G o 12) = -1 ∨ isO W0 10 (G ((G o 0) + 1) (G o 12))) ∧ ∀ v, W0.2 ((G o 0) + 1) (G o 12) = some v → G ((G o 0) + 1) (G o 12) = v) → (isO W0 10 (G ((G o 0) + 1) (G o 12)) ∧ (inL (G (G ((G o 0) + 1) (G o 12)) 1) → PX5_ask_335 o l1 l2 l3 l4 l5 l6 l7 l8 o (G (G ((G o 0) + 1) (G o 12)) 1) G Q))))))))))))
set_option maxRecDepth 20000 in
theorem TX5_ask_306 {o : Int} {l1 : Int} {l2 : Int} {l3 : Int} {l4 : Int} {l5 : Int} {l6 : Int} {l7 : Int} {l8 : Int} {G : gS} {Q : Int → gS → Prop} (hl1 : inI l1) (hl2 : inI l2) (hl5 : inI l5) (hl6 : inI l6) (hl7 : inI l7) (hl8 : inI l8) (h : PX5_ask_306 o l1 l2 l3 l4 l5 l6 l7 l8 G Q) : Tg W0 vX5_ask_306 [rf (o), cI (l1), cI (l2), rf (l3), rf (l4), cI (l5), cI (l6), cI (l7), cI (l8)] [] G (fun r G => ∃ v, r = cI v ∧ inI v ∧ Q v G) := by
  unfold PX5_ask_306 at h
  unfold vX5_ask_306
  refine g_ld (v := rf _) rfl (is_R _) ?_
  refine g_ld (v := rf _) rfl (is_R _) ?_
  obtain ⟨q125, h⟩ := h
  refine g_getI (kz := 12) q125 rfl (Nat.le_of_ble_eq_true rfl) rfl fun i126 => ?_
  replace h := h i126
  refine g_lt1 i126 (fun b127 => ?_) (fun b127 => ?_)
  · replace h := h.1 b127
    unfold vX5_ask_314
    refine g_const (v := cL (-4)) rfl ?_
    exact TX5_ask_335 hl1 hl2 hl5 hl6 hl7 hl8 ⟨by omega, by omega⟩ h
  · replace h := h.2 b127
    unfold vX5_ask_320
    refine g_ld (v := rf _) rfl (is_R _) ?_
    refine g_getR (kz := 0) (c := 11) q125 rfl (Nat.le_of_ble_eq_true rfl) rfl (by decide) fun i128 => ?_
    replace h := h i128
    obtain ⟨q129, h⟩ := h
    refine g_getF q129 (ff11_1 q129).1 rfl (Nat.le_of_ble_eq_true rfl) (Nat.le_of_ble_eq_true rfl) ?_
    refine g_ld (v := rf _) rfl (is_R _) ?_
    refine g_getI (kz := 12) q125 rfl (Nat.le_of_ble_eq_true rfl) rfl fun i130 => ?_
    replace h := h i130
    obtain ⟨q131, q132, h⟩ := h
    refine g_aldRF (c := 10) (ff11_1 q129).2 q131 q132 rfl (by decide) fun i133 => ?_
    replace h := h i133
    obtain ⟨q134, h⟩ := h
    refine g_getL (kz := 1) q134 rfl (Nat.le_of_ble_eq_true rfl) rfl fun i135 => ?_
    replace h := h i135
    exact TX5_ask_335 hl1 hl2 hl5 hl6 hl7 hl8 i135 h
def PX5_ask_275 (o : Int) (l1 : Int) (l2 : Int) (l3 : Int) (l4 : Int) (l5 : Int) (l6 : Int) (l7 : Int) (l8 : Int) (G : gS) (Q : Int → gS → Prop) : Prop :=
  ((l7 = 0 → ((12 < l6 → PX5_ask_306 o l1 l2 l3 l4 l5 l6 l7 l8 G Q) ∧ (¬ (12 < l6) → (isO W0 1 (l4) ∧ (((G l4 13 = -1 ∨ ∃ n, isA W0 5 n (G l4 13)) ∧ ∀ v, W0.2 l4 13 = some v → G l4 13 = v) → (∃ n116, isA W0 5 n116 (G l4 13) ∧ ((0 : Int) ≤ l5 ∧ ((l5 : Int) < n116 ∧ (((G (G l4 13) l5 = -1 ∨ isO W0 7 (G (G l4 13) l5)) ∧ ∀ v, W0.2 (G l4 13) l5 = some v → G (G l4 13) l5 = v) → (isO W0 5 (o) ∧ PX5_askMember o l1 l8 l6 (G (G l4 13) l5) G (fun r123 G122 => inI r123 → PX5_ask_306 o l1 l2 l3 l4 l5 l6 r123 l8 G122 Q))))))))))) ∧ (¬ (l7 = 0) → PX5_ask_306 o l1 l2 l3 l4 l5 l6 l7 l8 G Q))
set_option maxRecDepth 20000 in
theorem TX5_ask_275 {o : Int} {l1 : Int} {l2 : Int} {l3 : Int} {l4 : Int} {l5 : Int} {l6 : Int} {l7 : Int} {l8 : Int} {G : gS} {Q : Int → gS → Prop} (hl1 : inI l1) (hl2 : inI l2) (hl5 : inI l5) (hl6 : inI l6) (hl7 : inI l7) (hl8 : inI l8) (h : PX5_ask_275 o l1 l2 l3 l4 l5 l6 l7 l8 G Q) : Tg W0 vX5_ask_275 [rf (o), cI (l1), cI (l2), rf (l3), rf (l4), cI (l5), cI (l6), cI (l7), cI (l8)] [] G (fun r G => ∃ v, r = cI v ∧ inI v ∧ Q v G) := by
  unfold PX5_ask_275 at h
  unfold vX5_ask_275
  refine g_ld (v := cI _) rfl (is_I _) ?_
  refine g_eq1 hl7 (fun b112 => ?_) (fun b112 => ?_)
  · replace h := h.1 b112
    unfold vX5_ask_280
    refine g_ld (v := cI _) rfl (is_I _) ?_
    refine g_const (v := cI (12)) rfl ?_
    refine g_gt2 hl6 ⟨by omega, by omega⟩ (fun b113 => ?_) (fun b113 => ?_)
    · replace h := h.1 b113
      exact TX5_ask_306 hl1 hl2 hl5 hl6 hl7 hl8 h
    · replace h := h.2 b113
      unfold vX5_ask_287
      refine g_ld (v := rf _) rfl (is_R _) ?_
      refine g_ld (v := cI _) rfl (is_I _) ?_
      refine g_ld (v := cI _) rfl (is_I _) ?_
      refine g_ld (v := cI _) rfl (is_I _) ?_
      refine g_ld (v := rf _) rfl (is_R _) ?_
      obtain ⟨q114, h⟩ := h
      refine g_getAF (kz := 13) (c := 5) q114 rfl (Nat.le_of_ble_eq_true rfl) rfl fun i115 => ?_
      replace h := h i115
      refine g_ld (v := cI _) rfl (is_I _) ?_
      obtain ⟨n116, q117, h⟩ := h
      obtain ⟨q118, q119, h⟩ := h
      refine g_aldRF (c := 7) q117 q118 q119 rfl (by decide) fun i120 => ?_
      replace h := h i120
      obtain ⟨q121, h⟩ := h
      refine g_callV (As := [_, _, _, _]) (ci := 5) q121 (fun _ => rfl) ?_
      refine g_go1 (Nat.le_of_ble_eq_true rfl) (Tn_w (TX5_askMember hl1 hl8 hl6 h) fun _ G122 ⟨r123, e, i124, h⟩ => ?_)
      subst e
      refine ⟨n7_I _, ?_⟩
      replace h := h i124
      refine g_st (lv' := [_, _, _, _, _, _, _, _, _]) (is_I _) (Nat.le_of_ble_eq_true rfl) (Or.inr (n1_I _)) rfl ?_
      exact TX5_ask_306 hl1 hl2 hl5 hl6 i124 hl8 h
  · replace h := h.2 b112
    exact TX5_ask_306 hl1 hl2 hl5 hl6 hl7 hl8 h
def PX5_ask_252 (o : Int) (l1 : Int) (l2 : Int) (l3 : Int) (l4 : Int) (l5 : Int) (l6 : Int) (l7 : Int) (l8 : Int) (s0 : Int) (G : gS) (Q : Int → gS → Prop) : Prop :=
  ((s0 = 0 → (isO W0 5 (o) ∧ ((G o 0 = -1 ∨ isO W0 11 (G o 0)) → (isO W0 11 (G o 0) ∧ PX11_isLet (G o 0) l8 l1 G (fun r109 G108 => (0 ≤ r109 ∧ r109 ≤ 1) → ((r109 = 0 → PX5_ask_275 o l1 l2 l3 l4 l5 l6 2 l8 G108 Q) ∧ (¬ (r109 = 0) → PX5_ask_275 o l1 l2 l3 l4 l5 l6 s0 l8 G108 Q))))))) ∧ (¬ (s0 = 0) → PX5_ask_275 o l1 l2 l3 l4 l5 l6 s0 l8 G Q))
set_option maxRecDepth 20000 in
theorem TX5_ask_252 {o : Int} {l1 : Int} {l2 : Int} {l3 : Int} {l4 : Int} {l5 : Int} {l6 : Int} {l7 : Int} {l8 : Int} {s0 : Int} {G : gS} {Q : Int → gS → Prop} (hl1 : inI l1) (hl2 : inI l2) (hl5 : inI l5) (hl6 : inI l6) (hl7 : inI l7) (hl8 : inI l8) (hs0 : inI s0) (h : PX5_ask_252 o l1 l2 l3 l4 l5 l6 l7 l8 s0 G Q) : Tg W0 vX5_ask_252 [rf (o), cI (l1), cI (l2), rf (l3), rf (l4), cI (l5), cI (l6), cI (l7), cI (l8)] [cI (s0)] G (fun r G => ∃ v, r = cI v ∧ inI v ∧ Q v G) := by
  unfold PX5_ask_252 at h
  unfold vX5_ask_252
  refine g_st (lv' := [_, _, _, _, _, _, _, _, _]) (is_I _) (Nat.le_of_ble_eq_true rfl) (Or.inr (n1_I _)) rfl ?_
  refine g_ld (v := cI _) rfl (is_I _) ?_
  refine g_eq1 hs0 (fun b104 => ?_) (fun b104 => ?_)
  · replace h := h.1 b104
    unfold vX5_ask_259
    refine g_ld (v := rf _) rfl (is_R _) ?_
    obtain ⟨q105, h⟩ := h
    refine g_getR (kz := 0) (c := 11) q105 rfl (Nat.le_of_ble_eq_true rfl) rfl (by decide) fun i106 => ?_
    replace h := h i106
    refine g_ld (v := cI _) rfl (is_I _) ?_
    refine g_ld (v := cI _) rfl (is_I _) ?_
    obtain ⟨q107, h⟩ := h
    refine g_callV (As := [_, _]) (ci := 11) q107 (fun _ => rfl) ?_
    refine g_go1 (Nat.le_of_ble_eq_true rfl) (Tn_w (TX11_isLet hl8 hl1 h) fun _ G108 ⟨r109, e, i110, h⟩ => ?_)
    subst e
    refine ⟨n7_I _, ?_⟩
    replace h := h i110
    refine g_eq1 ⟨by omega, by omega⟩ (fun b111 => ?_) (fun b111 => ?_)
    · replace h := h.1 b111
      unfold vX5_ask_272
      refine g_const (v := cI (2)) rfl ?_
      refine g_st (lv' := [_, _, _, _, _, _, _, _, _]) (is_I _) (Nat.le_of_ble_eq_true rfl) (Or.inr (n1_I _)) rfl ?_
      exact TX5_ask_275 hl1 hl2 hl5 hl6 ⟨by omega, by omega⟩ hl8 h
    · replace h := h.2 b111
      exact TX5_ask_275 hl1 hl2 hl5 hl6 hs0 hl8 h
  · replace h := h.2 b104
    exact TX5_ask_275 hl1 hl2 hl5 hl6 hs0 hl8 h
def PX5_ask_213 (o : Int) (l1 : Int) (l2 : Int) (l3 : Int) (l4 : Int) (l5 : Int) (l6 : Int) (l7 : Int) (s0 : Int) (G : gS) (Q : Int → gS → Prop) : Prop :=
  Q (s0) G
set_option maxRecDepth 20000 in
theorem TX5_ask_213 {o : Int} {l1 : Int} {l2 : Int} {l3 : Int} {l4 : Int} {l5 : Int} {l6 : Int} {l7 : Int} {l8 : Nat} {s0 : Int} {G : gS} {Q : Int → gS → Prop} (hl1 : inI l1) (hl2 : inI l2) (hl5 : inI l5) (hl6 : inI l6) (hl7 : inI l7) (hl8 : l8 % 8 ≠ 1) (hs0 : inI s0) (h : PX5_ask_213 o l1 l2 l3 l4 l5 l6 l7 s0 G Q) : Tg W0 vX5_ask_213 [rf (o), cI (l1), cI (l2), rf (l3), rf (l4), cI (l5), cI (l6), cI (l7), l8] [cI (s0)] G (fun r G => ∃ v, r = cI v ∧ inI v ∧ Q v G) := by
  unfold PX5_ask_213 at h
  unfold vX5_ask_213
  exact g_ret1 (is_I _) ⟨_, rfl, hs0, h⟩
def PX5_ask_207 (o : Int) (l1 : Int) (l2 : Int) (l3 : Int) (l4 : Int) (l5 : Int) (l6 : Int) (l7 : Int) (G : gS) (Q : Int → gS → Prop) : Prop :=
  PX5_ask_213 o l1 l2 l3 l4 l5 l6 l7 l7 G Q
set_option maxRecDepth 20000 in
theorem TX5_ask_207 {o : Int} {l1 : Int} {l2 : Int} {l3 : Int} {l4 : Int} {l5 : Int} {l6 : Int} {l7 : Int} {l8 : Nat} {G : gS} {Q : Int → gS → Prop} (hl1 : inI l1) (hl2 : inI l2) (hl5 : inI l5) (hl6 : inI l6) (hl7 : inI l7) (hl8 : l8 % 8 ≠ 1) (h : PX5_ask_207 o l1 l2 l3 l4 l5 l6 l7 G Q) : Tg W0 vX5_ask_207 [rf (o), cI (l1), cI (l2), rf (l3), rf (l4), cI (l5), cI (l6), cI (l7), l8] [] G (fun r G => ∃ v, r = cI v ∧ inI v ∧ Q v G) := by
  unfold PX5_ask_207 at h
  unfold vX5_ask_207
  refine g_ld (v := cI _) rfl (is_I _) ?_
  exact TX5_ask_213 hl1 hl2 hl5 hl6 hl7 hl8 hl7 h
def PX5_ask_75 (o : Int) (l1 : Int) (l2 : Int) (l3 : Int) (l4 : Int) (l5 : Int) (G : gS) (Q : Int → gS → Prop) : Prop :=
  Q (1) G
set_option maxRecDepth 20000 in
theorem TX5_ask_75 {o : Int} {l1 : Int} {l2 : Int} {l3 : Int} {l4 : Int} {l5 : Int} {l6 : Nat} {l7 : Nat} {l8 : Nat} {G : gS} {Q : Int → gS → Prop} (hl1 : inI l1) (hl2 : inI l2) (hl5 : inI l5) (hl6 : l6 % 8 ≠ 1) (hl7 : l7 % 8 ≠ 1) (hl8 : l8 % 8 ≠ 1) (h : PX5_ask_75 o l1 l2 l3 l4 l5 G Q) : Tg W0 vX5_ask_75 [rf (o), cI (l1), cI (l2), rf (l3), rf (l4), cI (l5), l6, l7, l8] [] G (fun r G => ∃ v, r = cI v ∧ inI v ∧ Q v G) := by
  unfold PX5_ask_75 at h
  unfold vX5_ask_75
  refine g_const (v := cI (1)) rfl ?_
  exact g_ret1 (is_I _) ⟨_, rfl, ⟨by omega, by omega⟩, h⟩
def PX5_ask_0 (o : Int) (a1 : Int) (a2 : Int) (G : gS) (Q : Int → gS → Prop) : Prop :=
  (isO W0 5 (o) ∧ (∀ G2 : gS, G2 = uG G o 11 (-1) → (∀ G3 : gS, G3 = uG G2 o 12 (-2) → (∀ G4 : gS, G4 = uG G3 o 13 (-4) → (∀ G5 : gS, G5 = uG G4 o 16 (0) → (∀ G6 : gS, G6 = uG G5 o 14 (-2) → ((G6 o 0 = -1 ∨ isO W0 11 (G6 o 0)) → (isO W0 11 (G6 o 0) ∧ ((0 : Int) ≤ a1 ∧ ((a1 : Int) < 64 ∧ (((G6 ((G6 o 0) + 1) a1 = -1 ∨ isO W0 10 (G6 ((G6 o 0) + 1) a1)) ∧ ∀ v, W0.2 ((G6 o 0) + 1) a1 = some v → G6 ((G6 o 0) + 1) a1 = v) → (isO W0 10 (G6 ((G6 o 0) + 1) a1) ∧ ((G6 (G6 ((G6 o 0) + 1) a1) 0 = -1 ∨ isO W0 1 (G6 (G6 ((G6 o 0) + 1) a1) 0)) → (inI (G6 (G6 ((G6 o 0) + 1) a1) 16) → (inI ((G6 (G6 ((G6 o 0) + 1) a1) 16) + a2) ∧ ((a2 < 0 → PX5_ask_75 o a1 a2 (G6 ((G6 o 0) + 1) a1) (G6 (G6 ((G6 o 0) + 1) a1) 0) ((G6 (G6 ((G6 o 0) + 1) a1) 16) + a2) G6 Q) ∧ (¬ (a2 < 0) → (inI (G6 (G6 ((G6 o 0) + 1) a1) 17) → ((a2 < G6 (G6 ((G6 o 0) + 1) a1) 17 → (isO W0 1 (G6 (G6 ((G6 o 0) + 1) a1) 0) ∧ (inI (G6 (G6 (G6 ((G6 o 0) + 1) a1) 0) 15) → (((G6 (G6 ((G6 o 0) + 1) a1) 16) + a2 < G6 (G6 (G6 ((G6 o 0) + 1) a1) 0) 15 → (((G6 (G6 (G6 ((G6 o 0) + 1) a1) 0) 10 = -1 ∨ ∃ n, isA W0 0 n (G6 (G6 (G6 ((G6 o 0) + 1) a1) 0) 10)) ∧ ∀ v, W0.2 (G6 (G6 ((G6 o 0) + 1) a1) 0) 10 = some v → G6 (G6 (G6 ((G6 o 0) + 1) a1) 0) 10 = v) → (∃ n23, isA W0 0 n23 (G6 (G6 (G6 ((G6 o 0) + 1) a1) 0) 10) ∧ ((0 : Int) ≤ (G6 (G6 ((G6 o 0) + 1) a1) 16) + a2 ∧ (((G6 (G6 ((G6 o 0) + 1) a1) 16) + a2 : Int) < n23 ∧ (inI (G6 (G6 (G6 (G6 ((G6 o 0) + 1) a1) 0) 10) ((G6 (G6 ((G6 o 0) + 1) a1) 16) + a2)) → ((G6 (G6 (G6 (G6 ((G6 o 0) + 1) a1) 0) 10) ((G6 (G6 ((G6 o 0) + 1) a1) 16) + a2) = 16 → (((G6 (G6 (G6 ((G6 o 0) + 1) a1) 0) 12 = -1 ∨ ∃ n, isA W0 1 n (G6 (G6 (G6 ((G6 o 0) + 1) a1) 0) 12)) ∧ ∀ v, W0.2 (G6 (G6 ((G6 o 0) + 1) a1) 0) 12 = some v → G6 (G6 (G6 ((G6 o 0) + 1) a1) 0) 12 = v) → (∃ n30, isA W0 1 n30 (G6 (G6 (G6 ((G6 o 0) + 1) a1) 0) 12) ∧ ((0 : Int) ≤ (G6 (G6 ((G6 o 0) + 1) a1) 16) + a2 ∧ (((G6 (G6 ((G6 o 0) + 1) a1) 16) + a2 : Int) < n30 ∧ (inL (G6 (G6 (G6 (G6 ((G6 o 0) + 1) a1) 0) 12) ((G6 (G6 ((G6 o 0) + 1) a1) 16) + a2)) → (((G6 (G6 (G6 ((G6 o 0) + 1) a1) 0) 13 = -1 ∨ ∃ n, isA W0 5 n (G6 (G6 (G6 ((G6 o 0) + 1) a1) 0) 13)) ∧ ∀ v, W0.2 (G6 (G6 ((G6 o 0) + 1) a1) 0) 13 = some v → G6 (G6 (G6 ((G6 o 0) + 1) a1) 0) 13 = v) → (∃ n36, isA W0 5 n36 (G6 (G6 (G6 ((G6 o 0) + 1) a1) 0) 13) ∧ ((0 : Int) ≤ (G6 (G6 ((G6 o 0) + 1) a1) 16) + a2 ∧ (((G6 (G6 ((G6 o 0) + 1) a1) 16) + a2 : Int) < n36 ∧ (((G6 (G6 (G6 (G6 ((G6 o 0) + 1) a1) 0) 13) ((G6 (G6 ((G6 o 0) + 1) a1) 16) + a2) = -1 ∨ isO W0 7 (G6 (G6 (G6 (G6 ((G6 o 0) + 1) a1) 0) 13) ((G6 (G6 ((G6 o 0) + 1) a1) 16) + a2))) ∧ ∀ v, W0.2 (G6 (G6 (G6 ((G6 o 0) + 1) a1) 0) 13) ((G6 (G6 ((G6 o 0) + 1) a1) 16) + a2) = some v → G6 (G6 (G6 (G6 ((G6 o 0) + 1) a1) 0) 13) ((G6 (G6 ((G6 o 0) + 1) a1) 16) + a2) = v) → (((G6 (G6 (G6 ((G6 o 0) + 1) a1) 0) 14 = -1 ∨ ∃ n, isA W0 1 n (G6 (G6 (G6 ((G6 o 0) + 1) a1) 0) 14)) ∧ ∀ v, W0.2 (G6 (G6 ((G6 o 0) + 1) a1) 0) 14 = some v → G6 (G6 (G6 ((G6 o 0) + 1) a1) 0) 14 = v) → (∃ n42, isA W0 1 n42 (G6 (G6 (G6 ((G6 o 0) + 1) a1) 0) 14) ∧ ((0 : Int) ≤ (G6 (G6 ((G6 o 0) + 1) a1) 16) + a2 ∧ (((G6 (G6 ((G6 o 0) + 1) a1) 16) + a2 : Int) < n42 ∧ (inL (G6 (G6 (G6 (G6 ((G6 o 0) + 1) a1) 0) 14) ((G6 (G6 ((G6 o 0) + 1) a1) 16) + a2)) → PX5_askCopy o (G6 (G6 (G6 (G6 ((G6 o 0) + 1) a1) 0) 12) ((G6 (G6 ((G6 o 0) + 1) a1) 16) + a2)) (G6 (G6 (G6 (G6 ((G6 o 0) + 1) a1) 0) 13) ((G6 (G6 ((G6 o 0) + 1) a1) 16) + a2)) (G6 (G6 (G6 (G6 ((G6 o 0) + 1) a1) 0) 14) ((G6 (G6 ((G6 o 0) + 1) a1) 16) + a2)) G6 (fun r48 G47 => inI r48 → Q (r48) G47))))))))))))))))) ∧ (¬ (G6 (G6 (G6 (G6 ((G6 o 0) + 1) a1) 0) 10) ((G6 (G6 ((G6 o 0) + 1) a1) 16) + a2) = 16) → PX5_load o a1 G6 (fun r51 G50 => inI r51 → ((r51 = 0 → ((G6 (G6 (G6 (G6 ((G6 o 0) + 1) a1) 0) 10) ((G6 (G6 ((G6 o 0) + 1) a1) 16) + a2) = 17 → (((G50 (G6 (G6 ((G6 o 0) + 1) a1) 0) 12 = -1 ∨ ∃ n, isA W0 1 n (G50 (G6 (G6 ((G6 o 0) + 1) a1) 0) 12)) ∧ ∀ v, W0.2 (G6 (G6 ((G6 o 0) + 1) a1) 0) 12 = some v → G50 (G6 (G6 ((G6 o 0) + 1) a1) 0) 12 = v) → (∃ n56, isA W0 1 n56 (G50 (G6 (G6 ((G6 o 0) + 1) a1) 0) 12) ∧ ((0 : Int) ≤ (G6 (G6 ((G6 o 0) + 1) a1) 16) + a2 ∧ (((G6 (G6 ((G6 o 0) + 1) a1) 16) + a2 : Int) < n56 ∧ (inL (G50 (G50 (G6 (G6 ((G6 o 0) + 1) a1) 0) 12) ((G6 (G6 ((G6 o 0) + 1) a1) 16) + a2)) → (((G50 (G6 (G6 ((G6 o 0) + 1) a1) 0) 14 = -1 ∨ ∃ n, isA W0 1 n (G50 (G6 (G6 ((G6 o 0) + 1) a1) 0) 14)) ∧ ∀ v, W0.2 (G6 (G6 ((G6 o 0) + 1) a1) 0) 14 = some v → G50 (G6 (G6 ((G6 o 0) + 1) a1) 0) 14 = v) → (∃ n62, isA W0 1 n62 (G50 (G6 (G6 ((G6 o 0) + 1) a1) 0) 14) ∧ ((0 : Int) ≤ (G6 (G6 ((G6 o 0) + 1) a1) 16) + a2 ∧ (((G6 (G6 ((G6 o 0) + 1) a1) 16) + a2 : Int) < n62 ∧ (inL (G50 (G50 (G6 (G6 ((G6 o 0) + 1) a1) 0) 14) ((G6 (G6 ((G6 o 0) + 1) a1) 16) + a2)) → PX5_askFit o (G50 (G50 (G6 (G6 ((G6 o 0) + 1) a1) 0) 12) ((G6 (G6 ((G6 o 0) + 1) a1) 16) + a2)) (G50 (G50 (G6 (G6 ((G6 o 0) + 1) a1) 0) 14) ((G6 (G6 ((G6 o 0) + 1) a1) 16) + a2)) G50 (fun r68 G67 => inI r68 → Q (r68) G67)))))))))))) ∧ (¬ (G6 (G6 (G6 (G6 ((G6 o 0) + 1) a1) 0) 10) ((G6 (G6 ((G6 o 0) + 1) a1) 16) + a2) = 17) → ((G6 (G6 (G6 (G6 ((G6 o 0) + 1) a1) 0) 10) ((G6 (G6 ((G6 o 0) + 1) a1) 16) + a2) = 15 → (((G50 (G6 (G6 ((G6 o 0) + 1) a1) 0) 12 = -1 ∨ ∃ n, isA W0 1 n (G50 (G6 (G6 ((G6 o 0) + 1) a1) 0) 12)) ∧ ∀ v, W0.2 (G6 (G6 ((G6 o 0) + 1) a1) 0) 12 = some v → G50 (G6 (G6 ((G6 o 0) + 1) a1) 0) 12 = v) → (∃ n72, isA W0 1 n72 (G50 (G6 (G6 ((G6 o 0) + 1) a1) 0) 12) ∧ ((0 : Int) ≤ (G6 (G6 ((G6 o 0) + 1) a1) 16) + a2 ∧ (((G6 (G6 ((G6 o 0) + 1) a1) 16) + a2 : Int) < n72 ∧ (inL (G50 (G50 (G6 (G6 ((G6 o 0) + 1) a1) 0) 12) ((G6 (G6 ((G6 o 0) + 1) a1) 16) + a2)) → PX5_askCatch o (G50 (G50 (G6 (G6 ((G6 o 0) + 1) a1) 0) 12) ((G6 (G6 ((G6 o 0) + 1) a1) 16) + a2)) G50 (fun r78 G77 => inI r78 → ((r78 = 0 → ((G77 o 0 = -1 ∨ isO W0 11 (G77 o 0)) → (inI (G77 o 14) → (isO W0 11 (G77 o 0) ∧ PX11_isLet (G77 o 0) (G77 o 14) a1 G77 (fun r85 G84 => (0 ≤ r85 ∧ r85 ≤ 1) → ((r85 = 0 → PX5_ask_213 o a1 a2 (G6 ((G6 o 0) + 1) a1) (G6 (G6 ((G6 o 0) + 1) a1) 0) ((G6 (G6 ((G6 o 0) + 1) a1) 16) + a2) (G6 (G6 (G6 (G6 ((G6 o 0) + 1) a1) 0) 10) ((G6 (G6 ((G6 o 0) + 1) a1) 16) + a2)) r78 2 G84 Q) ∧ (¬ (r85 = 0) → PX5_ask_207 o a1 a2 (G6 ((G6 o 0) + 1) a1) (G6 (G6 ((G6 o 0) + 1) a1) 0) ((G6 (G6 ((G6 o 0) + 1) a1) 16) + a2) (G6 (G6 (G6 (G6 ((G6 o 0) + 1) a1) 0) 10) ((G6 (G6 ((G6 o 0) + 1) a1) 16) + a2)) r78 G84 Q))))))) ∧ (¬ (r78 = 0) → PX5_ask_207 o a1 a2 (G6 ((G6 o 0) + 1) a1) (G6 (G6 ((G6 o 0) + 1) a1) 0) ((G6 (G6 ((G6 o 0) + 1) a1) 16) + a2) (G6 (G6 (G6 (G6 ((G6 o 0) + 1) a1) 0) 10) ((G6 (G6 ((G6 o 0) + 1) a1) 16) + a2)) r78 G77 Q))))))))) ∧ (¬ (G6 (G6 (G6 (G6 ((G6 o 0) + 1) a1) 0) 10) ((G6 (G6 ((G6 o 0) + 1) a1) 16) + a2) = 15) → ((G50 o 0 = -1 ∨ isO W0 11 (G50 o 0)) → (((G50 (G6 (G6 ((G6 o 0) + 1) a1) 0) 12 = -1 ∨ ∃ n, isA W0 1 n (G50 (G6 (G6 ((G6 o 0) + 1) a1) 0) 12)) ∧ ∀ v, W0.2 (G6 (G6 ((G6 o 0) + 1) a1) 0) 12 = some v → G50 (G6 (G6 ((G6 o 0) + 1) a1) 0) 12 = v) → (∃ n90, isA W0 1 n90 (G50 (G6 (G6 ((G6 o 0) + 1) a1) 0) 12) ∧ ((0 : Int) ≤ (G6 (G6 ((G6 o 0) + 1) a1) 16) + a2 ∧ (((G6 (G6 ((G6 o 0) + 1) a1) 16) + a2 : Int) < n90 ∧ (inL (G50 (G50 (G6 (G6 ((G6 o 0) + 1) a1) 0) 12) ((G6 (G6 ((G6 o 0) + 1) a1) 16) + a2)) → (isO W0 11 (G50 o 0) ∧ PX11_find (G50 o 0) (G50 (G50 (G6 (G6 ((G6 o 0) + 1) a1) 0) 12) ((G6 (G6 ((G6 o 0) + 1) a1) 16) + a2)) G50 (fun r97 G96 => inI r97 → (∀ G99 : gS, G99 = uG G96 o 14 (r97) → ((r97 < 0 → PX5_ask_252 o a1 a2 (G6 ((G6 o 0) + 1) a1) (G6 (G6 ((G6 o 0) + 1) a1) 0) ((G6 (G6 ((G6 o 0) + 1) a1) 16) + a2) (G6 (G6 (G6 (G6 ((G6 o 0) + 1) a1) 0) 10) ((G6 (G6 ((G6 o 0) + 1) a1) 16) + a2)) r51 r97 1 G99 Q) ∧ (¬ (r97 < 0) → PX5_load o r97 G99 (fun r102 G101 => inI r102 → PX5_ask_252 o a1 a2 (G6 ((G6 o 0) + 1) a1) (G6 (G6 ((G6 o 0) + 1) a1) 0) ((G6 (G6 ((G6 o 0) + 1) a1) 16) + a2) (G6 (G6 (G6 (G6 ((G6 o 0) + 1) a1) 0) 10) ((G6 (G6 ((G6 o 0) + 1) a1) 16) + a2)) r51 r97 r102 G101 Q))))))))))))))))) ∧ (¬ (r51 = 0) → Q (r51) G50))))))))))) ∧ (¬ ((G6 (G6 ((G6 o 0) + 1) a1) 16) + a2 < G6 (G6 (G6 ((G6 o 0) + 1) a1) 0) 15) → PX5_ask_75 o a1 a2 (G6 ((G6 o 0) + 1) a1) (G6 (G6 ((G6 o 0) + 1) a1) 0) ((G6 (G6 ((G6 o 0) + 1) a1) 16) + a2) G6 Q))))) ∧ (¬ (a2 < G6 (G6 ((G6 o 0) + 1) a1) 17) → PX5_ask_75 o a1 a2 (G6 ((G6 o 0) + 1) a1) (G6 (G6 ((G6 o 0) + 1) a1) 0) ((G6 (G6 ((G6 o 0) + 1) a1) 16) + a2) G6 Q))))))))))))))))))))
set_option maxRecDepth 20000 in
theorem TX5_ask_0 {o : Int} {a1 : Int} {a2 : Int} {G : gS} {Q : Int → gS → Prop} (ha1 : inI a1) (ha2 : inI a2) (h : PX5_ask_0 o a1 a2 G Q) : Tg W0 vX5_ask_0 [rf (o), cI (a1), cI (a2), 7, 7, 7, 7, 7, 7] [] G (fun r G => ∃ v, r = cI v ∧ inI v ∧ Q v G) := by
  unfold PX5_ask_0 at h
  unfold vX5_ask_0
  refine g_ld (v := rf _) rfl (is_R _) ?_
  refine g_const (v := rf (-1)) rfl ?_
  obtain ⟨q1, h⟩ := h
  refine g_putR (kz := 11) (c := 7) q1 rfl (Nat.le_of_ble_eq_true rfl) rfl (by decide) (Or.inl rfl) (nf5_11 q1) ?_
  replace h := h _ rfl
  refine g_ld (v := rf _) rfl (is_R _) ?_
  refine g_const (v := cI (-2)) rfl ?_
  refine g_putI (kz := 12) q1 rfl (Nat.le_of_ble_eq_true rfl) rfl ⟨by omega, by omega⟩ (nf5_12 q1) ?_
  replace h := h _ rfl
  refine g_ld (v := rf _) rfl (is_R _) ?_
  refine g_const (v := cL (-4)) rfl ?_
  refine g_putL (kz := 13) q1 rfl (Nat.le_of_ble_eq_true rfl) rfl ⟨by omega, by omega⟩ (nf5_13 q1) ?_
  replace h := h _ rfl
  refine g_ld (v := rf _) rfl (is_R _) ?_
  refine g_const (v := cI (0)) rfl ?_
  refine g_putI (kz := 16) q1 rfl (Nat.le_of_ble_eq_true rfl) rfl ⟨by omega, by omega⟩ (nf5_16 q1) ?_
  replace h := h _ rfl
  refine g_ld (v := rf _) rfl (is_R _) ?_
  refine g_const (v := cI (-2)) rfl ?_
  refine g_putI (kz := 14) q1 rfl (Nat.le_of_ble_eq_true rfl) rfl ⟨by omega, by omega⟩ (nf5_14 q1) ?_
  replace h := h _ rfl
  refine g_ld (v := rf _) rfl (is_R _) ?_
  refine g_getR (kz := 0) (c := 11) q1 rfl (Nat.le_of_ble_eq_true rfl) rfl (by decide) fun i7 => ?_
  replace h := h i7
  obtain ⟨q8, h⟩ := h
  refine g_getF q8 (ff11_1 q8).1 rfl (Nat.le_of_ble_eq_true rfl) (Nat.le_of_ble_eq_true rfl) ?_
  refine g_ld (v := cI _) rfl (is_I _) ?_
  obtain ⟨q9, q10, h⟩ := h
  refine g_aldRF (c := 10) (ff11_1 q8).2 q9 q10 rfl (by decide) fun i11 => ?_
  replace h := h i11
  refine g_st (lv' := [_, _, _, _, _, _, _, _, _]) (is_R _) (Nat.le_of_ble_eq_true rfl) (Or.inr (n1_I _)) rfl ?_
  refine g_ld (v := rf _) rfl (is_R _) ?_
  obtain ⟨q12, h⟩ := h
  refine g_getR (kz := 0) (c := 1) q12 rfl (Nat.le_of_ble_eq_true rfl) rfl (by decide) fun i13 => ?_
  replace h := h i13
  refine g_st (lv' := [_, _, _, _, _, _, _, _, _]) (is_R _) (Nat.le_of_ble_eq_true rfl) (Or.inr (n1_R _)) rfl ?_
  unfold vX5_ask_45
  refine g_ld (v := rf _) rfl (is_R _) ?_
  refine g_getI (kz := 16) q12 rfl (Nat.le_of_ble_eq_true rfl) rfl fun i14 => ?_
  replace h := h i14
  refine g_ld (v := cI _) rfl (is_I _) ?_
  refine g_add ?_
  refine g_st (lv' := [_, _, _, _, _, _, _, _, _]) (is_I _) (Nat.le_of_ble_eq_true rfl) (Or.inr (n1_R _)) rfl ?_
  obtain ⟨q15, h⟩ := h
  refine g_ld (v := cI _) rfl (is_I _) ?_
  refine g_lt1 ha2 (fun b16 => ?_) (fun b16 => ?_)
  · replace h := h.1 b16
    exact TX5_ask_75 ha1 ha2 q15 (show 7 % 8 ≠ 1 by decide) (show 7 % 8 ≠ 1 by decide) (show 7 % 8 ≠ 1 by decide) h
  · replace h := h.2 b16
    unfold vX5_ask_57
    refine g_ld (v := cI _) rfl (is_I _) ?_
    refine g_ld (v := rf _) rfl (is_R _) ?_
    refine g_getI (kz := 17) q12 rfl (Nat.le_of_ble_eq_true rfl) rfl fun i17 => ?_
    replace h := h i17
    refine g_lt2 ha2 i17 (fun b18 => ?_) (fun b18 => ?_)
    · replace h := h.1 b18
      unfold vX5_ask_65
      refine g_ld (v := cI _) rfl (is_I _) ?_
      refine g_ld (v := rf _) rfl (is_R _) ?_
      obtain ⟨q19, h⟩ := h
      refine g_getI (kz := 15) q19 rfl (Nat.le_of_ble_eq_true rfl) rfl fun i20 => ?_
      replace h := h i20
      refine g_lt2 q15 i20 (fun b21 => ?_) (fun b21 => ?_)
      · replace h := h.1 b21
        unfold vX5_ask_77
        refine g_ld (v := rf _) rfl (is_R _) ?_
        refine g_getAF (kz := 10) (c := 0) q19 rfl (Nat.le_of_ble_eq_true rfl) rfl fun i22 => ?_
        replace h := h i22
        refine g_ld (v := cI _) rfl (is_I _) ?_
        obtain ⟨n23, q24, h⟩ := h
        obtain ⟨q25, q26, h⟩ := h
        refine g_aldI q24 q25 q26 rfl fun i27 => ?_
        replace h := h i27
        refine g_st (lv' := [_, _, _, _, _, _, _, _, _]) (is_I _) (Nat.le_of_ble_eq_true rfl) (Or.inr (n1_I _)) rfl ?_
        refine g_ld (v := cI _) rfl (is_I _) ?_
        refine g_const (v := cI (16)) rfl ?_
        refine g_eq2 i27 ⟨by omega, by omega⟩ (fun b28 => ?_) (fun b28 => ?_)
        · replace h := h.1 b28
          unfold vX5_ask_94
          refine g_ld (v := rf _) rfl (is_R _) ?_
          refine g_ld (v := rf _) rfl (is_R _) ?_
          refine g_getAF (kz := 12) (c := 1) q19 rfl (Nat.le_of_ble_eq_true rfl) rfl fun i29 => ?_
          replace h := h i29
          refine g_ld (v := cI _) rfl (is_I _) ?_
          obtain ⟨n30, q31, h⟩ := h
          obtain ⟨q32, q33, h⟩ := h
          refine g_aldL q31 q32 q33 rfl fun i34 => ?_
          replace h := h i34
          refine g_ld (v := rf _) rfl (is_R _) ?_
          refine g_getAF (kz := 13) (c := 5) q19 rfl (Nat.le_of_ble_eq_true rfl) rfl fun i35 => ?_
          replace h := h i35
          refine g_ld (v := cI _) rfl (is_I _) ?_
          obtain ⟨n36, q37, h⟩ := h
          obtain ⟨q38, q39, h⟩ := h
          refine g_aldRF (c := 7) q37 q38 q39 rfl (by decide) fun i40 => ?_
          replace h := h i40
          refine g_ld (v := rf _) rfl (is_R _) ?_
          refine g_getAF (kz := 14) (c := 1) q19 rfl (Nat.le_of_ble_eq_true rfl) rfl fun i41 => ?_
          replace h := h i41
          refine g_ld (v := cI _) rfl (is_I _) ?_
          obtain ⟨n42, q43, h⟩ := h
          obtain ⟨q44, q45, h⟩ := h
          refine g_aldL q43 q44 q45 rfl fun i46 => ?_
          replace h := h i46
          refine g_callV (As := [_, _, _]) (ci := 5) q1 (fun _ => rfl) ?_
          refine g_go1 (Nat.le_of_ble_eq_true rfl) (Tn_w (TX5_askCopy i34 i46 h) fun _ G47 ⟨r48, e, i49, h⟩ => ?_)
          subst e
          refine ⟨n7_I _, ?_⟩
          replace h := h i49
          exact g_ret1 (is_I _) ⟨_, rfl, i49, h⟩
        · replace h := h.2 b28
          unfold vX5_ask_123
          refine g_ld (v := rf _) rfl (is_R _) ?_
          refine g_ld (v := cI _) rfl (is_I _) ?_
          refine g_callV (As := [_]) (ci := 5) q1 (fun _ => rfl) ?_
          refine g_go1 (Nat.le_of_ble_eq_true rfl) (Tn_w (TX5_load ha1 h) fun _ G50 ⟨r51, e, i52, h⟩ => ?_)
          subst e
          refine ⟨n7_I _, ?_⟩
          replace h := h i52
          refine g_st (lv' := [_, _, _, _, _, _, _, _, _]) (is_I _) (Nat.le_of_ble_eq_true rfl) (Or.inr (n1_I _)) rfl ?_
          refine g_ld (v := cI _) rfl (is_I _) ?_
          refine g_eq1 i52 (fun b53 => ?_) (fun b53 => ?_)
          · replace h := h.1 b53
            unfold vX5_ask_138
            refine g_ld (v := cI _) rfl (is_I _) ?_
            refine g_const (v := cI (17)) rfl ?_
            refine g_eq2 i27 ⟨by omega, by omega⟩ (fun b54 => ?_) (fun b54 => ?_)
            · replace h := h.1 b54
              unfold vX5_ask_145
              refine g_ld (v := rf _) rfl (is_R _) ?_
              refine g_ld (v := rf _) rfl (is_R _) ?_
              refine g_getAF (kz := 12) (c := 1) q19 rfl (Nat.le_of_ble_eq_true rfl) rfl fun i55 => ?_
              replace h := h i55
              refine g_ld (v := cI _) rfl (is_I _) ?_
              obtain ⟨n56, q57, h⟩ := h
              obtain ⟨q58, q59, h⟩ := h
              refine g_aldL q57 q58 q59 rfl fun i60 => ?_
              replace h := h i60
              refine g_ld (v := rf _) rfl (is_R _) ?_
              refine g_getAF (kz := 14) (c := 1) q19 rfl (Nat.le_of_ble_eq_true rfl) rfl fun i61 => ?_
              replace h := h i61
              refine g_ld (v := cI _) rfl (is_I _) ?_
              obtain ⟨n62, q63, h⟩ := h
              obtain ⟨q64, q65, h⟩ := h
              refine g_aldL q63 q64 q65 rfl fun i66 => ?_
              replace h := h i66
              refine g_callV (As := [_, _]) (ci := 5) q1 (fun _ => rfl) ?_
              refine g_go1 (Nat.le_of_ble_eq_true rfl) (Tn_w (TX5_askFit i60 i66 h) fun _ G67 ⟨r68, e, i69, h⟩ => ?_)
              subst e
              refine ⟨n7_I _, ?_⟩
              replace h := h i69
              exact g_ret1 (is_I _) ⟨_, rfl, i69, h⟩
            · replace h := h.2 b54
              unfold vX5_ask_166
              refine g_ld (v := cI _) rfl (is_I _) ?_
              refine g_const (v := cI (15)) rfl ?_
              refine g_eq2 i27 ⟨by omega, by omega⟩ (fun b70 => ?_) (fun b70 => ?_)
              · replace h := h.1 b70
                unfold vX5_ask_173
                refine g_ld (v := rf _) rfl (is_R _) ?_
                refine g_ld (v := rf _) rfl (is_R _) ?_
                refine g_getAF (kz := 12) (c := 1) q19 rfl (Nat.le_of_ble_eq_true rfl) rfl fun i71 => ?_
                replace h := h i71
                refine g_ld (v := cI _) rfl (is_I _) ?_
                obtain ⟨n72, q73, h⟩ := h
                obtain ⟨q74, q75, h⟩ := h
                refine g_aldL q73 q74 q75 rfl fun i76 => ?_
                replace h := h i76
                refine g_callV (As := [_]) (ci := 5) q1 (fun _ => rfl) ?_
                refine g_go1 (Nat.le_of_ble_eq_true rfl) (Tn_w (TX5_askCatch i76 h) fun _ G77 ⟨r78, e, i79, h⟩ => ?_)
                subst e
                refine ⟨n7_I _, ?_⟩
                replace h := h i79
                refine g_st (lv' := [_, _, _, _, _, _, _, _, _]) (is_I _) (Nat.le_of_ble_eq_true rfl) (Or.inr (n1_I _)) rfl ?_
                refine g_ld (v := cI _) rfl (is_I _) ?_
                refine g_eq1 i79 (fun b80 => ?_) (fun b80 => ?_)
                · replace h := h.1 b80
                  unfold vX5_ask_192
                  refine g_ld (v := rf _) rfl (is_R _) ?_
                  refine g_getR (kz := 0) (c := 11) q1 rfl (Nat.le_of_ble_eq_true rfl) rfl (by decide) fun i81 => ?_
                  replace h := h i81
                  refine g_ld (v := rf _) rfl (is_R _) ?_
                  refine g_getI (kz := 14) q1 rfl (Nat.le_of_ble_eq_true rfl) rfl fun i82 => ?_
                  replace h := h i82
                  refine g_ld (v := cI _) rfl (is_I _) ?_
                  obtain ⟨q83, h⟩ := h
                  refine g_callV (As := [_, _]) (ci := 11) q83 (fun _ => rfl) ?_
                  refine g_go1 (Nat.le_of_ble_eq_true rfl) (Tn_w (TX11_isLet i82 ha1 h) fun _ G84 ⟨r85, e, i86, h⟩ => ?_)
                  subst e
                  refine ⟨n7_I _, ?_⟩
                  replace h := h i86
                  refine g_eq1 ⟨by omega, by omega⟩ (fun b87 => ?_) (fun b87 => ?_)
                  · replace h := h.1 b87
                    unfold vX5_ask_212
                    refine g_const (v := cI (2)) rfl ?_
                    exact TX5_ask_213 ha1 ha2 q15 i27 i79 (show 7 % 8 ≠ 1 by decide) ⟨by omega, by omega⟩ h
                  · replace h := h.2 b87
                    exact TX5_ask_207 ha1 ha2 q15 i27 i79 (show 7 % 8 ≠ 1 by decide) h
                · replace h := h.2 b80
                  exact TX5_ask_207 ha1 ha2 q15 i27 i79 (show 7 % 8 ≠ 1 by decide) h
              · replace h := h.2 b70
                unfold vX5_ask_214
                refine g_ld (v := rf _) rfl (is_R _) ?_
                refine g_getR (kz := 0) (c := 11) q1 rfl (Nat.le_of_ble_eq_true rfl) rfl (by decide) fun i88 => ?_
                replace h := h i88
                refine g_ld (v := rf _) rfl (is_R _) ?_
                refine g_getAF (kz := 12) (c := 1) q19 rfl (Nat.le_of_ble_eq_true rfl) rfl fun i89 => ?_
                replace h := h i89
                refine g_ld (v := cI _) rfl (is_I _) ?_
                obtain ⟨n90, q91, h⟩ := h
                obtain ⟨q92, q93, h⟩ := h
                refine g_aldL q91 q92 q93 rfl fun i94 => ?_
                replace h := h i94
                obtain ⟨q95, h⟩ := h
                refine g_callV (As := [_]) (ci := 11) q95 (fun _ => rfl) ?_
                refine g_go1 (Nat.le_of_ble_eq_true rfl) (Tn_w (TX11_find i94 h) fun _ G96 ⟨r97, e, i98, h⟩ => ?_)
                subst e
                refine ⟨n7_I _, ?_⟩
                replace h := h i98
                refine g_st (lv' := [_, _, _, _, _, _, _, _, _]) (is_I _) (Nat.le_of_ble_eq_true rfl) (Or.inr (n1_I _)) rfl ?_
                refine g_ld (v := rf _) rfl (is_R _) ?_
                refine g_ld (v := cI _) rfl (is_I _) ?_
                refine g_putI (kz := 14) q1 rfl (Nat.le_of_ble_eq_true rfl) rfl i98 (nf5_14 q1) ?_
                replace h := h _ rfl
                refine g_ld (v := cI _) rfl (is_I _) ?_
                refine g_lt1 i98 (fun b100 => ?_) (fun b100 => ?_)
                · replace h := h.1 b100
                  unfold vX5_ask_242
                  refine g_const (v := cI (1)) rfl ?_
                  exact TX5_ask_252 ha1 ha2 q15 i27 i52 i98 ⟨by omega, by omega⟩ h
                · replace h := h.2 b100
                  unfold vX5_ask_246
                  refine g_ld (v := rf _) rfl (is_R _) ?_
                  refine g_ld (v := cI _) rfl (is_I _) ?_
                  refine g_callV (As := [_]) (ci := 5) q1 (fun _ => rfl) ?_
                  refine g_go1 (Nat.le_of_ble_eq_true rfl) (Tn_w (TX5_load i98 h) fun _ G101 ⟨r102, e, i103, h⟩ => ?_)
                  subst e
                  refine ⟨n7_I _, ?_⟩
                  replace h := h i103
                  exact TX5_ask_252 ha1 ha2 q15 i27 i52 i98 i103 h
          · replace h := h.2 b53
            unfold vX5_ask_135
            refine g_ld (v := cI _) rfl (is_I _) ?_
            exact g_ret1 (is_I _) ⟨_, rfl, i52, h⟩
      · replace h := h.2 b21
        exact TX5_ask_75 ha1 ha2 q15 (show 7 % 8 ≠ 1 by decide) (show 7 % 8 ≠ 1 by decide) (show 7 % 8 ≠ 1 by decide) h
    · replace h := h.2 b18
      exact TX5_ask_75 ha1 ha2 q15 (show 7 % 8 ≠ 1 by decide) (show 7 % 8 ≠ 1 by decide) (show 7 % 8 ≠ 1 by decide) h
abbrev PX5_ask (o : Int) (a1 : Int) (a2 : Int) (G : gS) (Q : Int → gS → Prop) : Prop := PX5_ask_0 o a1 a2 G Q
theorem TX5_ask {o : Int} {a1 : Int} {a2 : Int} {G : gS} {Q : Int → gS → Prop} (ha1 : inI a1) (ha2 : inI a2) (h : PX5_ask o a1 a2 G Q) : Tn W0 FX5_ask [rf (o), cI (a1), cI (a2)] G (fun r G => ∃ v, r = cI v ∧ inI v ∧ Q v G) := by
  unfold FX5_ask
  refine g_ent (lv' := [rf (o), cI (a1), cI (a2), 7, 7, 7, 7, 7, 7]) (flR (flI (flI fl0))) (Nat.le_of_ble_eq_true rfl) rfl ?_
  exact TX5_ask_0 ha1 ha2 h
def PX6_fail_63 (J : Nat → List Int → gS → (Int → gS → Prop) → Prop) (l1 : Int) (l2 : Int) (G : gS) (Q : Int → gS → Prop) : Prop :=
  (inI (l2 + (-1)) ∧ J 0 [l1, l2 + (-1)] G Q)
set_option maxRecDepth 20000 in
theorem TX6_fail_63 {j : Nat → rx_K} {J : Nat → List Int → gS → (Int → gS → Prop) → Prop} {l1 : Int} {l2 : Int} {G : gS} {Q : Int → gS → Prop} (hl1 : inI l1) (hl2 : inI l2) (hj0 : ∀ (l1 : Int) (l2 : Int) (G : gS), (inI l1) → (inI l2) → J 0 [l1, l2] G Q → Tg W0 (j 0) [rf (938), cI (l1), cI (l2)] [] G (fun r G => r = 7 ∧ Q 0 G)) (h : PX6_fail_63 J l1 l2 G Q) : Tg W0 (vX6_fail_63 j) [rf (938), cI (l1), cI (l2)] [] G (fun r G => r = 7 ∧ Q 0 G) := by
  unfold PX6_fail_63 at h
  unfold vX6_fail_63
  refine g_inc (lv' := [_, _, _]) rfl (Nat.le_of_ble_eq_true rfl) (Or.inr (n1_I _)) rfl ?_
  obtain ⟨q40, h⟩ := h
  exact hj0 _ _ _ hl1 q40 h
def PX6_fail_12 (J : Nat → List Int → gS → (Int → gS → Prop) → Prop) (l1 : Int) (l2 : Int) (G : gS) (Q : Int → gS → Prop) : Prop :=
  ((l2 < 0 → (∀ G5 : gS, G5 = uG G 938 5 (0) → (∀ G6 : gS, G6 = uG G5 938 3 (0) → (∀ G7 : gS, G7 = uG G6 938 7 (0) → Q 0 G7)))) ∧ (¬ (l2 < 0) → ((0 : Int) ≤ l2 ∧ ((l2 : Int) < 25 ∧ (((G 953 l2 = -1 ∨ ∃ n, isA W0 0 n (G 953 l2)) ∧ ∀ v, W0.2 953 l2 = some v → G 953 l2 = v) → (∃ n11, isA W0 0 n11 (G 953 l2) ∧ ((0 : Int) ≤ 4 ∧ ((4 : Int) < n11 ∧ (inI (G (G 953 l2) 4) → ((G (G 953 l2) 4 = 3 → (isO W0 5 (939) ∧ ((0 : Int) ≤ l2 ∧ ((l2 : Int) < 25 ∧ (((G 953 l2 = -1 ∨ ∃ n, isA W0 0 n (G 953 l2)) ∧ ∀ v, W0.2 953 l2 = some v → G 953 l2 = v) → (∃ n21, isA W0 0 n21 (G 953 l2) ∧ ((0 : Int) ≤ 0 ∧ ((0 : Int) < n21 ∧ (inI (G (G 953 l2) 0) → ((0 : Int) ≤ G (G 953 l2) 0 ∧ ((G (G 953 l2) 0 : Int) < 64 ∧ (∀ G28 : gS, G28 = uG G (939 + 1) (G (G 953 l2) 0) (7) → ((0 : Int) ≤ l2 ∧ ((l2 : Int) < 25 ∧ (((G28 953 l2 = -1 ∨ ∃ n, isA W0 0 n (G28 953 l2)) ∧ ∀ v, W0.2 953 l2 = some v → G28 953 l2 = v) → (∃ n32, isA W0 0 n32 (G28 953 l2) ∧ ((0 : Int) ≤ 0 ∧ ((0 : Int) < n32 ∧ (inI (G28 (G28 953 l2) 0) → (isO W0 5 (939) ∧ PX5_tellEvent 939 (G28 (G28 953 l2) 0) 7 G28 (fun _ G38 => PX6_fail_63 J l1 l2 G38 Q))))))))))))))))))))) ∧ (¬ (G (G 953 l2) 4 = 3) → PX6_fail_63 J l1 l2 G Q)))))))))))
set_option maxRecDepth 20000 in
theorem TX6_fail_12 {j : Nat → rx_K} {J : Nat → List Int → gS → (Int → gS → Prop) → Prop} {l1 : Int} {l2 : Int} {G : gS} {Q : Int → gS → Prop} (hl1 : inI l1) (hl2 : inI l2) (hj0 : ∀ (l1 : Int) (l2 : Int) (G : gS), (inI l1) → (inI l2) → J 0 [l1, l2] G Q → Tg W0 (j 0) [rf (938), cI (l1), cI (l2)] [] G (fun r G => r = 7 ∧ Q 0 G)) (h : PX6_fail_12 J l1 l2 G Q) : Tg W0 (vX6_fail_12 j) [rf (938), cI (l1), cI (l2)] [] G (fun r G => r = 7 ∧ Q 0 G) := by
  unfold PX6_fail_12 at h
  unfold vX6_fail_12
  refine g_ld (v := cI _) rfl (is_I _) ?_
  refine g_lt1 hl2 (fun b4 => ?_) (fun b4 => ?_)
  · replace h := h.1 b4
    unfold vX6_fail_69
    refine g_ld (v := rf _) rfl (is_R _) ?_
    refine g_const (v := cI (0)) rfl ?_
    refine g_putI (kz := 5) oC6 rfl (Nat.le_of_ble_eq_true rfl) rfl ⟨by omega, by omega⟩ (zfin_no (c := 938) (j := 5) rfl) ?_
    replace h := h _ rfl
    refine g_ld (v := rf _) rfl (is_R _) ?_
    refine g_const (v := cI (0)) rfl ?_
    refine g_putI (kz := 3) oC6 rfl (Nat.le_of_ble_eq_true rfl) rfl ⟨by omega, by omega⟩ (zfin_no (c := 938) (j := 3) rfl) ?_
    replace h := h _ rfl
    refine g_ld (v := rf _) rfl (is_R _) ?_
    refine g_const (v := cI (0)) rfl ?_
    refine g_putI (kz := 7) oC6 rfl (Nat.le_of_ble_eq_true rfl) rfl ⟨by omega, by omega⟩ (zfin_no (c := 938) (j := 7) rfl) ?_
    replace h := h _ rfl
    exact g_ret0 ⟨rfl, h⟩
  · replace h := h.2 b4
    unfold vX6_fail_16
    refine g_ld (v := rf _) rfl (is_R _) ?_
    refine g_getF (v := 953) oC6 (hC6_4) rfl (Nat.le_of_ble_eq_true rfl) (Nat.le_of_ble_eq_true rfl) ?_
    refine g_ld (v := cI _) rfl (is_I _) ?_
    obtain ⟨q8, q9, h⟩ := h
    refine g_aldA (c := 0) aC953 q8 q9 rfl fun i10 => ?_
    replace h := h i10
    refine g_const (v := cI (4)) rfl ?_
    obtain ⟨n11, q12, h⟩ := h
    obtain ⟨q13, q14, h⟩ := h
    refine g_aldI q12 q13 q14 rfl fun i15 => ?_
    replace h := h i15
    refine g_const (v := cI (3)) rfl ?_
    refine g_eq2 i15 ⟨by omega, by omega⟩ (fun b16 => ?_) (fun b16 => ?_)
    · replace h := h.1 b16
      unfold vX6_fail_28
      refine g_ld (v := rf _) rfl (is_R _) ?_
      refine g_getF (v := 939) oC6 (hC6_1) rfl (Nat.le_of_ble_eq_true rfl) (Nat.le_of_ble_eq_true rfl) ?_
      obtain ⟨q17, h⟩ := h
      refine g_getF q17 (ff5_1 q17).1 rfl (Nat.le_of_ble_eq_true rfl) (Nat.le_of_ble_eq_true rfl) ?_
      refine g_ld (v := rf _) rfl (is_R _) ?_
      refine g_getF (v := 953) oC6 (hC6_4) rfl (Nat.le_of_ble_eq_true rfl) (Nat.le_of_ble_eq_true rfl) ?_
      refine g_ld (v := cI _) rfl (is_I _) ?_
      obtain ⟨q18, q19, h⟩ := h
      refine g_aldA (c := 0) aC953 q18 q19 rfl fun i20 => ?_
      replace h := h i20
      refine g_const (v := cI (0)) rfl ?_
      obtain ⟨n21, q22, h⟩ := h
      obtain ⟨q23, q24, h⟩ := h
      refine g_aldI q22 q23 q24 rfl fun i25 => ?_
      replace h := h i25
      refine g_const (v := cI (7)) rfl ?_
      obtain ⟨q26, q27, h⟩ := h
      refine g_astI (ff5_1 q17).2 q26 q27 ⟨by omega, by omega⟩ (nfI (ff5_1 q17).2) ?_
      replace h := h _ rfl
      refine g_ld (v := rf _) rfl (is_R _) ?_
      refine g_getF (v := 939) oC6 (hC6_1) rfl (Nat.le_of_ble_eq_true rfl) (Nat.le_of_ble_eq_true rfl) ?_
      refine g_ld (v := rf _) rfl (is_R _) ?_
      refine g_getF (v := 953) oC6 (hC6_4) rfl (Nat.le_of_ble_eq_true rfl) (Nat.le_of_ble_eq_true rfl) ?_
      refine g_ld (v := cI _) rfl (is_I _) ?_
      obtain ⟨q29, q30, h⟩ := h
      refine g_aldA (c := 0) aC953 q29 q30 rfl fun i31 => ?_
      replace h := h i31
      refine g_const (v := cI (0)) rfl ?_
      obtain ⟨n32, q33, h⟩ := h
      obtain ⟨q34, q35, h⟩ := h
      refine g_aldI q33 q34 q35 rfl fun i36 => ?_
      replace h := h i36
      refine g_const (v := cI (7)) rfl ?_
      obtain ⟨q37, h⟩ := h
      refine g_callV (As := [_, _]) (ci := 5) q37 (fun _ => rfl) ?_
      refine g_go0 (Nat.le_of_ble_eq_true rfl) (Tn_w (TX5_tellEvent i36 ⟨by omega, by omega⟩ h) fun _ G38 ⟨e, h⟩ => ⟨e, ?_⟩)
      exact TX6_fail_63 hl1 hl2 hj0 h
    · replace h := h.2 b16
      exact TX6_fail_63 hl1 hl2 hj0 h
def PX6_fail_0 (J : Nat → List Int → gS → (Int → gS → Prop) → Prop) (a1 : Int) (G : gS) (Q : Int → gS → Prop) : Prop :=
  (∀ G1 : gS, G1 = uG G 938 17 (a1) → (inI (G1 938 5) → (inI ((G1 938 5) - 1) ∧ PX6_fail_12 J a1 ((G1 938 5) - 1) G1 Q)))
set_option maxRecDepth 20000 in
theorem TX6_fail_0 {j : Nat → rx_K} {J : Nat → List Int → gS → (Int → gS → Prop) → Prop} {a1 : Int} {G : gS} {Q : Int → gS → Prop} (ha1 : inI a1) (hj0 : ∀ (l1 : Int) (l2 : Int) (G : gS), (inI l1) → (inI l2) → J 0 [l1, l2] G Q → Tg W0 (j 0) [rf (938), cI (l1), cI (l2)] [] G (fun r G => r = 7 ∧ Q 0 G)) (h : PX6_fail_0 J a1 G Q) : Tg W0 (vX6_fail_0 j) [rf (938), cI (a1), 7] [] G (fun r G => r = 7 ∧ Q 0 G) := by
  unfold PX6_fail_0 at h
  unfold vX6_fail_0
  refine g_ld (v := rf _) rfl (is_R _) ?_
  refine g_ld (v := cI _) rfl (is_I _) ?_
  refine g_putI (kz := 17) oC6 rfl (Nat.le_of_ble_eq_true rfl) rfl ha1 (zfin_no (c := 938) (j := 17) rfl) ?_
  replace h := h _ rfl
  refine g_ld (v := rf _) rfl (is_R _) ?_
  refine g_getI (kz := 5) oC6 rfl (Nat.le_of_ble_eq_true rfl) rfl fun i2 => ?_
  replace h := h i2
  refine g_const (v := cI (1)) rfl ?_
  refine g_sub ?_
  refine g_st (lv' := [_, _, _]) (is_I _) (Nat.le_of_ble_eq_true rfl) (Or.inr (n1_I _)) rfl ?_
  obtain ⟨q3, h⟩ := h
  exact TX6_fail_12 ha1 q3 hj0 h
def PX6_fail_J : Nat → Nat → List Int → gS → (Int → gS → Prop) → Prop
  | 0, _, _, _, _ => False
  | f + 1, h, L, G, Q => match h, L with
    | 0, [l1, l2] => PX6_fail_12 (PX6_fail_J f) l1 l2 G Q
    | _, _ => False
theorem TX6_fail_J {Q : Int → gS → Prop} : ∀ f N : Nat, f ≤ N → (∀ (l1 : Int) (l2 : Int) (G : gS), (inI l1) → (inI l2) → (PX6_fail_J f) 0 [l1, l2] G Q → Tg W0 (rx_J vhX6_fail N 0) [rf (938), cI (l1), cI (l2)] [] G (fun r G => r = 7 ∧ Q 0 G)) := by
  intro f
  induction f with
  | zero => exact fun N _ => fun _ _ _ _ _ h => h.elim
  | succ f ih =>
    intro N hN
    obtain ⟨M, rfl⟩ : ∃ M, N = M + 1 := ⟨N - 1, by omega⟩
    have ih := ih M (by omega)
    exact fun _ _ _ hl1 hl2 h => show Tg W0 (vX6_fail_12 (rx_J vhX6_fail M)) _ _ _ _ from TX6_fail_12 hl1 hl2 ih h
def PX6_fail (a1 : Int) (G : gS) (Q : Int → gS → Prop) : Prop := ∃ f : Nat, f ≤ 4000000000 ∧ PX6_fail_0 (PX6_fail_J f) a1 G Q
theorem TX6_fail {a1 : Int} {G : gS} {Q : Int → gS → Prop} (ha1 : inI a1) (h : PX6_fail a1 G Q) : Tn W0 FX6_fail [rf (938), cI (a1)] G (fun r G => r = 7 ∧ Q 0 G) := by
  obtain ⟨f, hf, h⟩ := h
  have hJ := TX6_fail_J (Q := Q) f 4000000000 hf
  unfold FX6_fail
  refine g_ent (lv' := [rf (938), cI (a1), 7]) (flR (flI fl0)) (Nat.le_of_ble_eq_true rfl) rfl ?_
  exact TX6_fail_0 ha1 hJ h
def PX6_openFrame_136 (J : Nat → List Int → gS → (Int → gS → Prop) → Prop) (l1 : Int) (l2 : Int) (l3 : Int) (l4 : Int) (l5 : Int) (l6 : Int) (G : gS) (Q : Int → gS → Prop) : Prop :=
  Q 0 G
set_option maxRecDepth 20000 in
theorem TX6_openFrame_136 {j : Nat → rx_K} {J : Nat → List Int → gS → (Int → gS → Prop) → Prop} {l1 : Int} {l2 : Int} {l3 : Int} {l4 : Int} {l5 : Int} {l6 : Int} {G : gS} {Q : Int → gS → Prop} (hl1 : inI l1) (hl2 : inI l2) (hl3 : inI l3) (hl6 : inI l6) (hj0 : ∀ (l1 : Int) (l2 : Int) (l3 : Int) (l4 : Int) (l5 : Int) (l6 : Int) (G : gS), (inI l1) → (inI l2) → (inI l3) → (inI l6) → J 0 [l1, l2, l3, l4, l5, l6] G Q → Tg W0 (j 0) [rf (938), cI (l1), cI (l2), cI (l3), rf (l4), rf (l5), cI (l6)] [] G (fun r G => r = 7 ∧ Q 0 G)) (h : PX6_openFrame_136 J l1 l2 l3 l4 l5 l6 G Q) : Tg W0 (vX6_openFrame_136 j) [rf (938), cI (l1), cI (l2), cI (l3), rf (l4), rf (l5), cI (l6)] [] G (fun r G => r = 7 ∧ Q 0 G) := by
  unfold PX6_openFrame_136 at h
  unfold vX6_openFrame_136
  exact g_ret0 ⟨rfl, h⟩
def PX6_openFrame_92 (J : Nat → List Int → gS → (Int → gS → Prop) → Prop) (l1 : Int) (l2 : Int) (l3 : Int) (l4 : Int) (l5 : Int) (l6 : Int) (G : gS) (Q : Int → gS → Prop) : Prop :=
  (inI (G 938 3) → ((G 938 3 < l6 → (inI (G 938 3) → ((G 938 3 < 24000 → (inI (G 938 3) → ((0 : Int) ≤ G 938 3 ∧ ((G 938 3 : Int) < 24000 ∧ (∀ G58 : gS, G58 = uG G 952 (G 938 3) (0) → (inI (G58 938 3) → (inI ((G58 938 3) + 1) ∧ (∀ G61 : gS, G61 = uG G58 938 3 ((G58 938 3) + 1) → J 0 [l1, l2, l3, l4, l5, l6] G61 Q)))))))) ∧ (¬ (G 938 3 < 24000) → PX6_openFrame_136 J l1 l2 l3 l4 l5 l6 G Q)))) ∧ (¬ (G 938 3 < l6) → PX6_openFrame_136 J l1 l2 l3 l4 l5 l6 G Q)))
set_option maxRecDepth 20000 in
theorem TX6_openFrame_92 {j : Nat → rx_K} {J : Nat → List Int → gS → (Int → gS → Prop) → Prop} {l1 : Int} {l2 : Int} {l3 : Int} {l4 : Int} {l5 : Int} {l6 : Int} {G : gS} {Q : Int → gS → Prop} (hl1 : inI l1) (hl2 : inI l2) (hl3 : inI l3) (hl6 : inI l6) (hj0 : ∀ (l1 : Int) (l2 : Int) (l3 : Int) (l4 : Int) (l5 : Int) (l6 : Int) (G : gS), (inI l1) → (inI l2) → (inI l3) → (inI l6) → J 0 [l1, l2, l3, l4, l5, l6] G Q → Tg W0 (j 0) [rf (938), cI (l1), cI (l2), cI (l3), rf (l4), rf (l5), cI (l6)] [] G (fun r G => r = 7 ∧ Q 0 G)) (h : PX6_openFrame_92 J l1 l2 l3 l4 l5 l6 G Q) : Tg W0 (vX6_openFrame_92 j) [rf (938), cI (l1), cI (l2), cI (l3), rf (l4), rf (l5), cI (l6)] [] G (fun r G => r = 7 ∧ Q 0 G) := by
  unfold PX6_openFrame_92 at h
  unfold vX6_openFrame_92
  refine g_ld (v := rf _) rfl (is_R _) ?_
  refine g_getI (kz := 3) oC6 rfl (Nat.le_of_ble_eq_true rfl) rfl fun i51 => ?_
  replace h := h i51
  refine g_ld (v := cI _) rfl (is_I _) ?_
  refine g_lt2 i51 hl6 (fun b52 => ?_) (fun b52 => ?_)
  · replace h := h.1 b52
    unfold vX6_openFrame_101
    refine g_ld (v := rf _) rfl (is_R _) ?_
    refine g_getI (kz := 3) oC6 rfl (Nat.le_of_ble_eq_true rfl) rfl fun i53 => ?_
    replace h := h i53
    refine g_ld (v := rf _) rfl (is_R _) ?_
    refine g_getF (v := 952) oC6 (hC6_2) rfl (Nat.le_of_ble_eq_true rfl) (Nat.le_of_ble_eq_true rfl) ?_
    refine g_alen aC952 ?_
    refine g_lt2 i53 ⟨by omega, by omega⟩ (fun b54 => ?_) (fun b54 => ?_)
    · replace h := h.1 b54
      unfold vX6_openFrame_113
      refine g_ld (v := rf _) rfl (is_R _) ?_
      refine g_getF (v := 952) oC6 (hC6_2) rfl (Nat.le_of_ble_eq_true rfl) (Nat.le_of_ble_eq_true rfl) ?_
      refine g_ld (v := rf _) rfl (is_R _) ?_
      refine g_getI (kz := 3) oC6 rfl (Nat.le_of_ble_eq_true rfl) rfl fun i55 => ?_
      replace h := h i55
      refine g_const (v := cI (0)) rfl ?_
      obtain ⟨q56, q57, h⟩ := h
      refine g_astI aC952 q56 q57 ⟨by omega, by omega⟩ (nfI aC952) ?_
      replace h := h _ rfl
      refine g_ld (v := rf _) rfl (is_R _) ?_
      refine g_dup (ct_R _) ?_
      refine g_getI (kz := 3) oC6 rfl (Nat.le_of_ble_eq_true rfl) rfl fun i59 => ?_
      replace h := h i59
      refine g_const (v := cI (1)) rfl ?_
      refine g_add ?_
      obtain ⟨q60, h⟩ := h
      refine g_putI (kz := 3) oC6 rfl (Nat.le_of_ble_eq_true rfl) rfl q60 (zfin_no (c := 938) (j := 3) rfl) ?_
      replace h := h _ rfl
      exact hj0 _ _ _ _ _ _ _ hl1 hl2 hl3 hl6 h
    · replace h := h.2 b54
      exact TX6_openFrame_136 hl1 hl2 hl3 hl6 hj0 h
  · replace h := h.2 b52
    exact TX6_openFrame_136 hl1 hl2 hl3 hl6 hj0 h
def PX6_openFrame_89 (J : Nat → List Int → gS → (Int → gS → Prop) → Prop) (l1 : Int) (l2 : Int) (l3 : Int) (l4 : Int) (l5 : Int) (s0 : Int) (s1 : Int) (G : gS) (Q : Int → gS → Prop) : Prop :=
  (inI (s0 + s1) ∧ PX6_openFrame_92 J l1 l2 l3 l4 l5 (s0 + s1) G Q)
set_option maxRecDepth 20000 in
theorem TX6_openFrame_89 {j : Nat → rx_K} {J : Nat → List Int → gS → (Int → gS → Prop) → Prop} {l1 : Int} {l2 : Int} {l3 : Int} {l4 : Int} {l5 : Int} {l6 : Nat} {s0 : Int} {s1 : Int} {G : gS} {Q : Int → gS → Prop} (hl1 : inI l1) (hl2 : inI l2) (hl3 : inI l3) (hl6 : l6 % 8 ≠ 1) (hs0 : inI s0) (hs1 : inI s1) (hj0 : ∀ (l1 : Int) (l2 : Int) (l3 : Int) (l4 : Int) (l5 : Int) (l6 : Int) (G : gS), (inI l1) → (inI l2) → (inI l3) → (inI l6) → J 0 [l1, l2, l3, l4, l5, l6] G Q → Tg W0 (j 0) [rf (938), cI (l1), cI (l2), cI (l3), rf (l4), rf (l5), cI (l6)] [] G (fun r G => r = 7 ∧ Q 0 G)) (h : PX6_openFrame_89 J l1 l2 l3 l4 l5 s0 s1 G Q) : Tg W0 (vX6_openFrame_89 j) [rf (938), cI (l1), cI (l2), cI (l3), rf (l4), rf (l5), l6] [cI (s1), cI (s0)] G (fun r G => r = 7 ∧ Q 0 G) := by
  unfold PX6_openFrame_89 at h
  unfold vX6_openFrame_89
  refine g_add ?_
  refine g_st (lv' := [_, _, _, _, _, _, _]) (is_I _) (Nat.le_of_ble_eq_true rfl) (Or.inr (n1_R _)) rfl ?_
  obtain ⟨q50, h⟩ := h
  exact TX6_openFrame_92 hl1 hl2 hl3 q50 hj0 h
def PX6_openFrame_63 (J : Nat → List Int → gS → (Int → gS → Prop) → Prop) (l1 : Int) (l2 : Int) (l3 : Int) (l4 : Int) (l5 : Int) (s0 : Int) (s1 : Int) (s2 : Int) (G : gS) (Q : Int → gS → Prop) : Prop :=
  (∃ n39, isA W0 0 n39 (s0) ∧ ((0 : Int) ≤ s1 ∧ ((s1 : Int) < n39 ∧ (∀ G43 : gS, G43 = uG G s0 s1 (s2) → (inI (G43 938 5) → (inI ((G43 938 5) + 1) ∧ (∀ G46 : gS, G46 = uG G43 938 5 ((G43 938 5) + 1) → ((l4 < 0 → PX6_openFrame_89 J l1 l2 l3 l4 l5 l3 0 G46 Q) ∧ (0 ≤ l4 → (isO W0 7 (l4) ∧ (inI (G46 l4 18) → PX6_openFrame_89 J l1 l2 l3 l4 l5 l3 (G46 l4 18) G46 Q)))))))))))
set_option maxRecDepth 20000 in
theorem TX6_openFrame_63 {j : Nat → rx_K} {J : Nat → List Int → gS → (Int → gS → Prop) → Prop} {l1 : Int} {l2 : Int} {l3 : Int} {l4 : Int} {l5 : Int} {l6 : Nat} {s0 : Int} {s1 : Int} {s2 : Int} {G : gS} {Q : Int → gS → Prop} (hl1 : inI l1) (hl2 : inI l2) (hl3 : inI l3) (hl6 : l6 % 8 ≠ 1) (hs1 : inI s1) (hs2 : inI s2) (hj0 : ∀ (l1 : Int) (l2 : Int) (l3 : Int) (l4 : Int) (l5 : Int) (l6 : Int) (G : gS), (inI l1) → (inI l2) → (inI l3) → (inI l6) → J 0 [l1, l2, l3, l4, l5, l6] G Q → Tg W0 (j 0) [rf (938), cI (l1), cI (l2), cI (l3), rf (l4), rf (l5), cI (l6)] [] G (fun r G => r = 7 ∧ Q 0 G)) (h : PX6_openFrame_63 J l1 l2 l3 l4 l5 s0 s1 s2 G Q) : Tg W0 (vX6_openFrame_63 j) [rf (938), cI (l1), cI (l2), cI (l3), rf (l4), rf (l5), l6] [cI (s2), cI (s1), rf (s0)] G (fun r G => r = 7 ∧ Q 0 G) := by
  unfold PX6_openFrame_63 at h
  unfold vX6_openFrame_63
  obtain ⟨n39, q40, h⟩ := h
  obtain ⟨q41, q42, h⟩ := h
  refine g_astI q40 q41 q42 hs2 (nfI q40) ?_
  replace h := h _ rfl
  refine g_ld (v := rf _) rfl (is_R _) ?_
  refine g_dup (ct_R _) ?_
  refine g_getI (kz := 5) oC6 rfl (Nat.le_of_ble_eq_true rfl) rfl fun i44 => ?_
  replace h := h i44
  refine g_const (v := cI (1)) rfl ?_
  refine g_add ?_
  obtain ⟨q45, h⟩ := h
  refine g_putI (kz := 5) oC6 rfl (Nat.le_of_ble_eq_true rfl) rfl q45 (zfin_no (c := 938) (j := 5) rfl) ?_
  replace h := h _ rfl
  refine g_ld (v := cI _) rfl (is_I _) ?_
  refine g_ld (v := rf _) rfl (is_R _) ?_
  refine g_nul (fun b47 => ?_) (fun b47 => ?_)
  · replace h := h.1 b47
    unfold vX6_openFrame_80
    refine g_const (v := cI (0)) rfl ?_
    exact TX6_openFrame_89 hl1 hl2 hl3 hl6 hl3 ⟨by omega, by omega⟩ hj0 h
  · replace h := h.2 b47
    unfold vX6_openFrame_84
    refine g_ld (v := rf _) rfl (is_R _) ?_
    obtain ⟨q48, h⟩ := h
    refine g_getI (kz := 18) q48 rfl (Nat.le_of_ble_eq_true rfl) rfl fun i49 => ?_
    replace h := h i49
    exact TX6_openFrame_89 hl1 hl2 hl3 hl6 hl3 i49 hj0 h
def PX6_openFrame_0 (J : Nat → List Int → gS → (Int → gS → Prop) → Prop) (a1 : Int) (a2 : Int) (a3 : Int) (a4 : Int) (G : gS) (Q : Int → gS → Prop) : Prop :=
  (inI (G 938 5) → ((0 : Int) ≤ G 938 5 ∧ ((G 938 5 : Int) < 25 ∧ (((G 953 (G 938 5) = -1 ∨ ∃ n, isA W0 0 n (G 953 (G 938 5))) ∧ ∀ v, W0.2 953 (G 938 5) = some v → G 953 (G 938 5) = v) → (∃ n5, isA W0 0 n5 (G 953 (G 938 5)) ∧ ((0 : Int) ≤ 0 ∧ ((0 : Int) < n5 ∧ (∀ G9 : gS, G9 = uG G (G 953 (G 938 5)) 0 (a1) → (∃ n10, isA W0 0 n10 (G 953 (G 938 5)) ∧ ((0 : Int) ≤ 4 ∧ ((4 : Int) < n10 ∧ (∀ G14 : gS, G14 = uG G9 (G 953 (G 938 5)) 4 (a2) → (∃ n15, isA W0 0 n15 (G 953 (G 938 5)) ∧ ((0 : Int) ≤ 2 ∧ ((2 : Int) < n15 ∧ (∀ G19 : gS, G19 = uG G14 (G 953 (G 938 5)) 2 (a3) → (inI (G19 938 7) → (∃ n21, isA W0 0 n21 (G 953 (G 938 5)) ∧ ((0 : Int) ≤ 3 ∧ ((3 : Int) < n21 ∧ (∀ G25 : gS, G25 = uG G19 (G 953 (G 938 5)) 3 (G19 938 7) → (∃ n26, isA W0 0 n26 (G 953 (G 938 5)) ∧ ((0 : Int) ≤ 6 ∧ ((6 : Int) < n26 ∧ (∀ G30 : gS, G30 = uG G25 (G 953 (G 938 5)) 6 (-2) → (∃ n31, isA W0 0 n31 (G 953 (G 938 5)) ∧ ((0 : Int) ≤ 5 ∧ ((5 : Int) < n31 ∧ (∀ G35 : gS, G35 = uG G30 (G 953 (G 938 5)) 5 (0) → ((a4 < 0 → PX6_openFrame_63 J a1 a2 a3 a4 (G 953 (G 938 5)) (G 953 (G 938 5)) 1 0 G35 Q) ∧ (0 ≤ a4 → (isO W0 7 (a4) ∧ (inI (G35 a4 17) → PX6_openFrame_63 J a1 a2 a3 a4 (G 953 (G 938 5)) (G 953 (G 938 5)) 1 (G35 a4 17) G35 Q)))))))))))))))))))))))))))))))))
set_option maxRecDepth 20000 in
theorem TX6_openFrame_0 {j : Nat → rx_K} {J : Nat → List Int → gS → (Int → gS → Prop) → Prop} {a1 : Int} {a2 : Int} {a3 : Int} {a4 : Int} {G : gS} {Q : Int → gS → Prop} (ha1 : inI a1) (ha2 : inI a2) (ha3 : inI a3) (hj0 : ∀ (l1 : Int) (l2 : Int) (l3 : Int) (l4 : Int) (l5 : Int) (l6 : Int) (G : gS), (inI l1) → (inI l2) → (inI l3) → (inI l6) → J 0 [l1, l2, l3, l4, l5, l6] G Q → Tg W0 (j 0) [rf (938), cI (l1), cI (l2), cI (l3), rf (l4), rf (l5), cI (l6)] [] G (fun r G => r = 7 ∧ Q 0 G)) (h : PX6_openFrame_0 J a1 a2 a3 a4 G Q) : Tg W0 (vX6_openFrame_0 j) [rf (938), cI (a1), cI (a2), cI (a3), rf (a4), 7, 7] [] G (fun r G => r = 7 ∧ Q 0 G) := by
  unfold PX6_openFrame_0 at h
  unfold vX6_openFrame_0
  refine g_ld (v := rf _) rfl (is_R _) ?_
  refine g_getF (v := 953) oC6 (hC6_4) rfl (Nat.le_of_ble_eq_true rfl) (Nat.le_of_ble_eq_true rfl) ?_
  refine g_ld (v := rf _) rfl (is_R _) ?_
  refine g_getI (kz := 5) oC6 rfl (Nat.le_of_ble_eq_true rfl) rfl fun i1 => ?_
  replace h := h i1
  obtain ⟨q2, q3, h⟩ := h
  refine g_aldA (c := 0) aC953 q2 q3 rfl fun i4 => ?_
  replace h := h i4
  refine g_st (lv' := [_, _, _, _, _, _, _]) (is_R _) (Nat.le_of_ble_eq_true rfl) (Or.inr (n1_R _)) rfl ?_
  refine g_ld (v := rf _) rfl (is_R _) ?_
  refine g_const (v := cI (0)) rfl ?_
  refine g_ld (v := cI _) rfl (is_I _) ?_
  obtain ⟨n5, q6, h⟩ := h
  obtain ⟨q7, q8, h⟩ := h
  refine g_astI q6 q7 q8 ha1 (nfI q6) ?_
  replace h := h _ rfl
  refine g_ld (v := rf _) rfl (is_R _) ?_
  refine g_const (v := cI (4)) rfl ?_
  refine g_ld (v := cI _) rfl (is_I _) ?_
  obtain ⟨n10, q11, h⟩ := h
  obtain ⟨q12, q13, h⟩ := h
  refine g_astI q11 q12 q13 ha2 (nfI q11) ?_
  replace h := h _ rfl
  refine g_ld (v := rf _) rfl (is_R _) ?_
  refine g_const (v := cI (2)) rfl ?_
  refine g_ld (v := cI _) rfl (is_I _) ?_
  obtain ⟨n15, q16, h⟩ := h
  obtain ⟨q17, q18, h⟩ := h
  refine g_astI q16 q17 q18 ha3 (nfI q16) ?_
  replace h := h _ rfl
  refine g_ld (v := rf _) rfl (is_R _) ?_
  refine g_const (v := cI (3)) rfl ?_
  refine g_ld (v := rf _) rfl (is_R _) ?_
  refine g_getI (kz := 7) oC6 rfl (Nat.le_of_ble_eq_true rfl) rfl fun i20 => ?_
  replace h := h i20
  obtain ⟨n21, q22, h⟩ := h
  obtain ⟨q23, q24, h⟩ := h
  refine g_astI q22 q23 q24 i20 (nfI q22) ?_
  replace h := h _ rfl
  refine g_ld (v := rf _) rfl (is_R _) ?_
  unfold vX6_openFrame_36
  refine g_const (v := cI (6)) rfl ?_
  refine g_const (v := cI (-2)) rfl ?_
  obtain ⟨n26, q27, h⟩ := h
  obtain ⟨q28, q29, h⟩ := h
  refine g_astI q27 q28 q29 ⟨by omega, by omega⟩ (nfI q27) ?_
  replace h := h _ rfl
  refine g_ld (v := rf _) rfl (is_R _) ?_
  refine g_const (v := cI (5)) rfl ?_
  refine g_const (v := cI (0)) rfl ?_
  obtain ⟨n31, q32, h⟩ := h
  obtain ⟨q33, q34, h⟩ := h
  refine g_astI q32 q33 q34 ⟨by omega, by omega⟩ (nfI q32) ?_
  replace h := h _ rfl
  refine g_ld (v := rf _) rfl (is_R _) ?_
  refine g_const (v := cI (1)) rfl ?_
  refine g_ld (v := rf _) rfl (is_R _) ?_
  refine g_nul (fun b36 => ?_) (fun b36 => ?_)
  · replace h := h.1 b36
    unfold vX6_openFrame_54
    refine g_const (v := cI (0)) rfl ?_
    exact TX6_openFrame_63 ha1 ha2 ha3 (show 7 % 8 ≠ 1 by decide) ⟨by omega, by omega⟩ ⟨by omega, by omega⟩ hj0 h
  · replace h := h.2 b36
    unfold vX6_openFrame_58
    refine g_ld (v := rf _) rfl (is_R _) ?_
    obtain ⟨q37, h⟩ := h
    refine g_getI (kz := 17) q37 rfl (Nat.le_of_ble_eq_true rfl) rfl fun i38 => ?_
    replace h := h i38
    exact TX6_openFrame_63 ha1 ha2 ha3 (show 7 % 8 ≠ 1 by decide) ⟨by omega, by omega⟩ i38 hj0 h
def PX6_openFrame_J : Nat → Nat → List Int → gS → (Int → gS → Prop) → Prop
  | 0, _, _, _, _ => False
  | f + 1, h, L, G, Q => match h, L with
    | 0, [l1, l2, l3, l4, l5, l6] => PX6_openFrame_92 (PX6_openFrame_J f) l1 l2 l3 l4 l5 l6 G Q
    | _, _ => False
theorem TX6_openFrame_J {Q : Int → gS → Prop} : ∀ f N : Nat, f ≤ N → (∀ (l1 : Int) (l2 : Int) (l3 : Int) (l4 : Int) (l5 : Int) (l6 : Int) (G : gS), (inI l1) → (inI l2) → (inI l3) → (inI l6) → (PX6_openFrame_J f) 0 [l1, l2, l3, l4, l5, l6] G Q → Tg W0 (rx_J vhX6_openFrame N 0) [rf (938), cI (l1), cI (l2), cI (l3), rf (l4), rf (l5), cI (l6)] [] G (fun r G => r = 7 ∧ Q 0 G)) := by
  intro f
  induction f with
  | zero => exact fun N _ => fun _ _ _ _ _ _ _ _ _ _ _ h => h.elim
  | succ f ih =>
    intro N hN
    obtain ⟨M, rfl⟩ : ∃ M, N = M + 1 := ⟨N - 1, by omega⟩
    have ih := ih M (by omega)
    exact fun _ _ _ _ _ _ _ hl1 hl2 hl3 hl6 h => show Tg W0 (vX6_openFrame_92 (rx_J vhX6_openFrame M)) _ _ _ _ from TX6_openFrame_92 hl1 hl2 hl3 hl6 ih h
def PX6_openFrame (a1 : Int) (a2 : Int) (a3 : Int) (a4 : Int) (G : gS) (Q : Int → gS → Prop) : Prop := ∃ f : Nat, f ≤ 4000000000 ∧ PX6_openFrame_0 (PX6_openFrame_J f) a1 a2 a3 a4 G Q
theorem TX6_openFrame {a1 : Int} {a2 : Int} {a3 : Int} {a4 : Int} {G : gS} {Q : Int → gS → Prop} (ha1 : inI a1) (ha2 : inI a2) (ha3 : inI a3) (h : PX6_openFrame a1 a2 a3 a4 G Q) : Tn W0 FX6_openFrame [rf (938), cI (a1), cI (a2), cI (a3), rf (a4)] G (fun r G => r = 7 ∧ Q 0 G) := by
  obtain ⟨f, hf, h⟩ := h
  have hJ := TX6_openFrame_J (Q := Q) f 4000000000 hf
  unfold FX6_openFrame
  refine g_ent (lv' := [rf (938), cI (a1), cI (a2), cI (a3), rf (a4), 7, 7]) (flR (flI (flI (flI (flR fl0))))) (Nat.le_of_ble_eq_true rfl) rfl ?_
  exact TX6_openFrame_0 ha1 ha2 ha3 hJ h
def PX6_ready_51 (l1 : Int) (l2 : Int) (s0 : Int) (s1 : Int) (G : gS) (Q : Int → gS → Prop) : Prop :=
  (isO W0 6 (s0) ∧ PX6_fail s1 G (fun _ G45 => Q (0) G45))
set_option maxRecDepth 20000 in
theorem TX6_ready_51 {l1 : Int} {l2 : Int} {l3 : Nat} {s0 : Int} {s1 : Int} {G : gS} {Q : Int → gS → Prop} (hl1 : inI l1) (hl2 : inI l2) (hl3 : l3 % 8 ≠ 1) (hs1 : inI s1) (h : PX6_ready_51 l1 l2 s0 s1 G Q) : Tg W0 vX6_ready_51 [rf (938), cI (l1), cI (l2), l3] [cI (s1), rf (s0)] G (fun r G => ∃ v, r = cI v ∧ (0 ≤ v ∧ v ≤ 1) ∧ Q v G) := by
  unfold PX6_ready_51 at h
  unfold vX6_ready_51
  obtain ⟨q44, h⟩ := h
  refine g_callV (As := [_]) (ci := 6) q44 (fun _ => rfl) ?_
  refine g_go0 (Nat.le_of_ble_eq_true rfl) (Tn_w (Tn_eq (one6 q44) (TX6_fail hs1 h)) fun _ G45 ⟨e, h⟩ => ⟨e, ?_⟩)
  refine g_const (v := cI (0)) rfl ?_
  exact g_ret1 (is_Z (by omega)) ⟨_, rfl, (by omega), h⟩
def PX6_ready_37 (l1 : Int) (l2 : Int) (G : gS) (Q : Int → gS → Prop) : Prop :=
  ((l2 = 7 → PX6_ready_51 l1 l2 938 9 G Q) ∧ (¬ (l2 = 7) → PX6_ready_51 l1 l2 938 15 G Q))
set_option maxRecDepth 20000 in
theorem TX6_ready_37 {l1 : Int} {l2 : Int} {l3 : Nat} {G : gS} {Q : Int → gS → Prop} (hl1 : inI l1) (hl2 : inI l2) (hl3 : l3 % 8 ≠ 1) (h : PX6_ready_37 l1 l2 G Q) : Tg W0 vX6_ready_37 [rf (938), cI (l1), cI (l2), l3] [] G (fun r G => ∃ v, r = cI v ∧ (0 ≤ v ∧ v ≤ 1) ∧ Q v G) := by
  unfold PX6_ready_37 at h
  unfold vX6_ready_37
  refine g_ld (v := rf _) rfl (is_R _) ?_
  refine g_ld (v := cI _) rfl (is_I _) ?_
  refine g_const (v := cI (7)) rfl ?_
  refine g_eq2 hl2 ⟨by omega, by omega⟩ (fun b43 => ?_) (fun b43 => ?_)
  · replace h := h.1 b43
    unfold vX6_ready_44
    refine g_const (v := cI (9)) rfl ?_
    exact TX6_ready_51 hl1 hl2 hl3 ⟨by omega, by omega⟩ h
  · replace h := h.2 b43
    unfold vX6_ready_49
    refine g_const (v := cI (15)) rfl ?_
    exact TX6_ready_51 hl1 hl2 hl3 ⟨by omega, by omega⟩ h
def PX6_ready_20 (l1 : Int) (l2 : Int) (G : gS) (Q : Int → gS → Prop) : Prop :=
  Q (1) G
set_option maxRecDepth 20000 in
theorem TX6_ready_20 {l1 : Int} {l2 : Int} {l3 : Nat} {G : gS} {Q : Int → gS → Prop} (hl1 : inI l1) (hl2 : inI l2) (hl3 : l3 % 8 ≠ 1) (h : PX6_ready_20 l1 l2 G Q) : Tg W0 vX6_ready_20 [rf (938), cI (l1), cI (l2), l3] [] G (fun r G => ∃ v, r = cI v ∧ (0 ≤ v ∧ v ≤ 1) ∧ Q v G) := by
  unfold PX6_ready_20 at h
  unfold vX6_ready_20
  refine g_const (v := cI (1)) rfl ?_
  exact g_ret1 (is_Z (by omega)) ⟨_, rfl, (by omega), h⟩
def PX6_ready_0 (a1 : Int) (G : gS) (Q : Int → gS → Prop) : Prop :=
  (isO W0 5 (939) ∧ ((0 : Int) ≤ a1 ∧ ((a1 : Int) < 64 ∧ (inI (G (939 + 1) a1) → ((G (939 + 1) a1 = 4 → PX6_ready_20 a1 (G (939 + 1) a1) G Q) ∧ (¬ (G (939 + 1) a1 = 4) → ((G (939 + 1) a1 = 3 → PX6_ready_20 a1 (G (939 + 1) a1) G Q) ∧ (¬ (G (939 + 1) a1 = 3) → ((G (939 + 1) a1 = 7 → PX6_ready_37 a1 (G (939 + 1) a1) G Q) ∧ (¬ (G (939 + 1) a1 = 7) → (inI (G 938 5) → ((G 938 5 < 24 → (isO W0 5 (939) ∧ PX5_link 939 a1 G (fun r12 G11 => inI r12 → ((r12 = 0 → (isO W0 5 (939) ∧ ((0 : Int) ≤ a1 ∧ ((a1 : Int) < 64 ∧ (∀ G18 : gS, G18 = uG G11 (939 + 1) a1 (3) → (isO W0 5 (939) ∧ PX5_tellEvent 939 a1 3 G18 (fun _ G20 => (inI (G20 938 3) → ((G20 938 0 = -1 ∨ isO W0 11 (G20 938 0)) → (isO W0 11 (G20 938 0) ∧ ((0 : Int) ≤ a1 ∧ ((a1 : Int) < 64 ∧ (((G20 ((G20 938 0) + 1) a1 = -1 ∨ isO W0 10 (G20 ((G20 938 0) + 1) a1)) ∧ ∀ v, W0.2 ((G20 938 0) + 1) a1 = some v → G20 ((G20 938 0) + 1) a1 = v) → (isO W0 10 (G20 ((G20 938 0) + 1) a1) ∧ ((G20 (G20 ((G20 938 0) + 1) a1) 18 = -1 ∨ isO W0 7 (G20 (G20 ((G20 938 0) + 1) a1) 18)) → PX6_openFrame a1 3 (G20 938 3) (G20 (G20 ((G20 938 0) + 1) a1) 18) G20 (fun _ G30 => (inI (G30 938 5) → ((0 : Int) ≤ (G30 938 5) - 1 ∧ (((G30 938 5) - 1 : Int) < 25 ∧ (((G30 953 ((G30 938 5) - 1) = -1 ∨ ∃ n, isA W0 0 n (G30 953 ((G30 938 5) - 1))) ∧ ∀ v, W0.2 953 ((G30 938 5) - 1) = some v → G30 953 ((G30 938 5) - 1) = v) → (∃ n36, isA W0 0 n36 (G30 953 ((G30 938 5) - 1)) ∧ ((0 : Int) ≤ 6 ∧ ((6 : Int) < n36 ∧ (∀ G40 : gS, G40 = uG G30 (G30 953 ((G30 938 5) - 1)) 6 (0) → Q (0) G40)))))))))))))))))))))))) ∧ (¬ (r12 = 0) → PX6_fail r12 G11 (fun _ G41 => Q (0) G41)))))) ∧ (¬ (G 938 5 < 24) → PX6_ready_37 a1 (G (939 + 1) a1) G Q)))))))))))))
set_option maxRecDepth 20000 in
theorem TX6_ready_0 {a1 : Int} {G : gS} {Q : Int → gS → Prop} (ha1 : inI a1) (h : PX6_ready_0 a1 G Q) : Tg W0 vX6_ready_0 [rf (938), cI (a1), 7, 7] [] G (fun r G => ∃ v, r = cI v ∧ (0 ≤ v ∧ v ≤ 1) ∧ Q v G) := by
  unfold PX6_ready_0 at h
  unfold vX6_ready_0
  refine g_ld (v := rf _) rfl (is_R _) ?_
  refine g_getF (v := 939) oC6 (hC6_1) rfl (Nat.le_of_ble_eq_true rfl) (Nat.le_of_ble_eq_true rfl) ?_
  obtain ⟨q1, h⟩ := h
  refine g_getF q1 (ff5_1 q1).1 rfl (Nat.le_of_ble_eq_true rfl) (Nat.le_of_ble_eq_true rfl) ?_
  refine g_ld (v := cI _) rfl (is_I _) ?_
  obtain ⟨q2, q3, h⟩ := h
  refine g_aldI (ff5_1 q1).2 q2 q3 rfl fun i4 => ?_
  replace h := h i4
  refine g_st (lv' := [_, _, _, _]) (is_I _) (Nat.le_of_ble_eq_true rfl) (Or.inr (n1_I _)) rfl ?_
  refine g_ld (v := cI _) rfl (is_I _) ?_
  refine g_const (v := cI (4)) rfl ?_
  refine g_eq2 i4 ⟨by omega, by omega⟩ (fun b5 => ?_) (fun b5 => ?_)
  · replace h := h.1 b5
    exact TX6_ready_20 ha1 i4 (show 7 % 8 ≠ 1 by decide) h
  · replace h := h.2 b5
    unfold vX6_ready_15
    refine g_ld (v := cI _) rfl (is_I _) ?_
    refine g_const (v := cI (3)) rfl ?_
    refine g_eq2 i4 ⟨by omega, by omega⟩ (fun b6 => ?_) (fun b6 => ?_)
    · replace h := h.1 b6
      exact TX6_ready_20 ha1 i4 (show 7 % 8 ≠ 1 by decide) h
    · replace h := h.2 b6
      unfold vX6_ready_22
      refine g_ld (v := cI _) rfl (is_I _) ?_
      refine g_const (v := cI (7)) rfl ?_
      refine g_eq2 i4 ⟨by omega, by omega⟩ (fun b7 => ?_) (fun b7 => ?_)
      · replace h := h.1 b7
        exact TX6_ready_37 ha1 i4 (show 7 % 8 ≠ 1 by decide) h
      · replace h := h.2 b7
        unfold vX6_ready_28
        refine g_ld (v := rf _) rfl (is_R _) ?_
        refine g_getI (kz := 5) oC6 rfl (Nat.le_of_ble_eq_true rfl) rfl fun i8 => ?_
        replace h := h i8
        refine g_const (v := cI (24)) rfl ?_
        refine g_lt2 i8 ⟨by omega, by omega⟩ (fun b9 => ?_) (fun b9 => ?_)
        · replace h := h.1 b9
          unfold vX6_ready_56
          refine g_ld (v := rf _) rfl (is_R _) ?_
          refine g_getF (v := 939) oC6 (hC6_1) rfl (Nat.le_of_ble_eq_true rfl) (Nat.le_of_ble_eq_true rfl) ?_
          refine g_ld (v := cI _) rfl (is_I _) ?_
          obtain ⟨q10, h⟩ := h
          refine g_callV (As := [_]) (ci := 5) q10 (fun _ => rfl) ?_
          refine g_go1 (Nat.le_of_ble_eq_true rfl) (Tn_w (TX5_link ha1 h) fun _ G11 ⟨r12, e, i13, h⟩ => ?_)
          subst e
          refine ⟨n7_I _, ?_⟩
          replace h := h i13
          refine g_st (lv' := [_, _, _, _]) (is_I _) (Nat.le_of_ble_eq_true rfl) (Or.inr (n1_I _)) rfl ?_
          refine g_ld (v := cI _) rfl (is_I _) ?_
          refine g_eq1 i13 (fun b14 => ?_) (fun b14 => ?_)
          · replace h := h.1 b14
            unfold vX6_ready_76
            refine g_ld (v := rf _) rfl (is_R _) ?_
            refine g_getF (v := 939) oC6 (hC6_1) rfl (Nat.le_of_ble_eq_true rfl) (Nat.le_of_ble_eq_true rfl) ?_
            obtain ⟨q15, h⟩ := h
            refine g_getF q15 (ff5_1 q15).1 rfl (Nat.le_of_ble_eq_true rfl) (Nat.le_of_ble_eq_true rfl) ?_
            refine g_ld (v := cI _) rfl (is_I _) ?_
            refine g_const (v := cI (3)) rfl ?_
            obtain ⟨q16, q17, h⟩ := h
            refine g_astI (ff5_1 q15).2 q16 q17 ⟨by omega, by omega⟩ (nfI (ff5_1 q15).2) ?_
            replace h := h _ rfl
            refine g_ld (v := rf _) rfl (is_R _) ?_
            refine g_getF (v := 939) oC6 (hC6_1) rfl (Nat.le_of_ble_eq_true rfl) (Nat.le_of_ble_eq_true rfl) ?_
            refine g_ld (v := cI _) rfl (is_I _) ?_
            refine g_const (v := cI (3)) rfl ?_
            obtain ⟨q19, h⟩ := h
            refine g_callV (As := [_, _]) (ci := 5) q19 (fun _ => rfl) ?_
            refine g_go0 (Nat.le_of_ble_eq_true rfl) (Tn_w (TX5_tellEvent ha1 ⟨by omega, by omega⟩ h) fun _ G20 ⟨e, h⟩ => ⟨e, ?_⟩)
            refine g_ld (v := rf _) rfl (is_R _) ?_
            refine g_ld (v := cI _) rfl (is_I _) ?_
            refine g_const (v := cI (3)) rfl ?_
            refine g_ld (v := rf _) rfl (is_R _) ?_
            refine g_getI (kz := 3) oC6 rfl (Nat.le_of_ble_eq_true rfl) rfl fun i22 => ?_
            replace h := h i22
            refine g_ld (v := rf _) rfl (is_R _) ?_
            refine g_getR (kz := 0) (c := 11) oC6 rfl (Nat.le_of_ble_eq_true rfl) rfl (by decide) fun i23 => ?_
            replace h := h i23
            obtain ⟨q24, h⟩ := h
            refine g_getF q24 (ff11_1 q24).1 rfl (Nat.le_of_ble_eq_true rfl) (Nat.le_of_ble_eq_true rfl) ?_
            refine g_ld (v := cI _) rfl (is_I _) ?_
            obtain ⟨q25, q26, h⟩ := h
            refine g_aldRF (c := 10) (ff11_1 q24).2 q25 q26 rfl (by decide) fun i27 => ?_
            replace h := h i27
            obtain ⟨q28, h⟩ := h
            refine g_getR (kz := 18) (c := 7) q28 rfl (Nat.le_of_ble_eq_true rfl) rfl (by decide) fun i29 => ?_
            replace h := h i29
            refine g_callV (As := [_, _, _, _]) (ci := 6) oC6 (fun _ => rfl) ?_
            refine g_go0 (Nat.le_of_ble_eq_true rfl) (Tn_w (TX6_openFrame ha1 ⟨by omega, by omega⟩ i22 h) fun _ G30 ⟨e, h⟩ => ⟨e, ?_⟩)
            refine g_ld (v := rf _) rfl (is_R _) ?_
            unfold vX6_ready_118
            refine g_getF (v := 953) oC6 (hC6_4) rfl (Nat.le_of_ble_eq_true rfl) (Nat.le_of_ble_eq_true rfl) ?_
            refine g_ld (v := rf _) rfl (is_R _) ?_
            refine g_getI (kz := 5) oC6 rfl (Nat.le_of_ble_eq_true rfl) rfl fun i32 => ?_
            replace h := h i32
            refine g_const (v := cI (1)) rfl ?_
            refine g_sub ?_
            obtain ⟨q33, q34, h⟩ := h
            refine g_aldA (c := 0) aC953 q33 q34 rfl fun i35 => ?_
            replace h := h i35
            refine g_const (v := cI (6)) rfl ?_
            refine g_const (v := cI (0)) rfl ?_
            obtain ⟨n36, q37, h⟩ := h
            obtain ⟨q38, q39, h⟩ := h
            refine g_astI q37 q38 q39 ⟨by omega, by omega⟩ (nfI q37) ?_
            replace h := h _ rfl
            refine g_const (v := cI (0)) rfl ?_
            exact g_ret1 (is_Z (by omega)) ⟨_, rfl, (by omega), h⟩
          · replace h := h.2 b14
            unfold vX6_ready_69
            refine g_ld (v := rf _) rfl (is_R _) ?_
            refine g_ld (v := cI _) rfl (is_I _) ?_
            refine g_callV (As := [_]) (ci := 6) oC6 (fun _ => rfl) ?_
            refine g_go0 (Nat.le_of_ble_eq_true rfl) (Tn_w (TX6_fail i13 h) fun _ G41 ⟨e, h⟩ => ⟨e, ?_⟩)
            refine g_const (v := cI (0)) rfl ?_
            exact g_ret1 (is_Z (by omega)) ⟨_, rfl, (by omega), h⟩
        · replace h := h.2 b9
          exact TX6_ready_37 ha1 i4 (show 7 % 8 ≠ 1 by decide) h
abbrev PX6_ready (a1 : Int) (G : gS) (Q : Int → gS → Prop) : Prop := PX6_ready_0 a1 G Q
theorem TX6_ready {a1 : Int} {G : gS} {Q : Int → gS → Prop} (ha1 : inI a1) (h : PX6_ready a1 G Q) : Tn W0 FX6_ready [rf (938), cI (a1)] G (fun r G => ∃ v, r = cI v ∧ (0 ≤ v ∧ v ≤ 1) ∧ Q v G) := by
  unfold FX6_ready
  refine g_ent (lv' := [rf (938), cI (a1), 7, 7]) (flR (flI fl0)) (Nat.le_of_ble_eq_true rfl) rfl ?_
  exact TX6_ready_0 ha1 h
def PX6_open_0 (a1 : Int) (G : gS) (Q : Int → gS → Prop) : Prop :=
  (∀ G1 : gS, G1 = uG G 938 14 (0) → (∀ G2 : gS, G2 = uG G1 938 16 (0) → (∀ G3 : gS, G3 = uG G2 938 17 (0) → (∀ G4 : gS, G4 = uG G3 938 18 (0) → (∀ G5 : gS, G5 = uG G4 938 19 (0) → (∀ G6 : gS, G6 = uG G5 938 3 (0) → (∀ G7 : gS, G7 = uG G6 938 5 (0) → (∀ G8 : gS, G8 = uG G7 938 7 (0) → PX6_ready a1 G8 (fun r10 G9 => (0 ≤ r10 ∧ r10 ≤ 1) → Q 0 G9)))))))))
set_option maxRecDepth 20000 in
theorem TX6_open_0 {a1 : Int} {G : gS} {Q : Int → gS → Prop} (ha1 : inI a1) (h : PX6_open_0 a1 G Q) : Tg W0 vX6_open_0 [rf (938), cI (a1)] [] G (fun r G => r = 7 ∧ Q 0 G) := by
  unfold PX6_open_0 at h
  unfold vX6_open_0
  refine g_ld (v := rf _) rfl (is_R _) ?_
  refine g_const (v := cI (0)) rfl ?_
  refine g_putI (kz := 14) oC6 rfl (Nat.le_of_ble_eq_true rfl) rfl ⟨by omega, by omega⟩ (zfin_no (c := 938) (j := 14) rfl) ?_
  replace h := h _ rfl
  refine g_ld (v := rf _) rfl (is_R _) ?_
  refine g_const (v := cI (0)) rfl ?_
  refine g_putI (kz := 16) oC6 rfl (Nat.le_of_ble_eq_true rfl) rfl ⟨by omega, by omega⟩ (zfin_no (c := 938) (j := 16) rfl) ?_
  replace h := h _ rfl
  refine g_ld (v := rf _) rfl (is_R _) ?_
  refine g_const (v := cI (0)) rfl ?_
  refine g_putI (kz := 17) oC6 rfl (Nat.le_of_ble_eq_true rfl) rfl ⟨by omega, by omega⟩ (zfin_no (c := 938) (j := 17) rfl) ?_
  replace h := h _ rfl
  refine g_ld (v := rf _) rfl (is_R _) ?_
  refine g_const (v := cI (0)) rfl ?_
  refine g_putI (kz := 18) oC6 rfl (Nat.le_of_ble_eq_true rfl) rfl ⟨by omega, by omega⟩ (zfin_no (c := 938) (j := 18) rfl) ?_
  replace h := h _ rfl
  refine g_ld (v := rf _) rfl (is_R _) ?_
  refine g_const (v := cI (0)) rfl ?_
  refine g_putI (kz := 19) oC6 rfl (Nat.le_of_ble_eq_true rfl) rfl ⟨by omega, by omega⟩ (zfin_no (c := 938) (j := 19) rfl) ?_
  replace h := h _ rfl
  refine g_ld (v := rf _) rfl (is_R _) ?_
  refine g_const (v := cI (0)) rfl ?_
  refine g_putI (kz := 3) oC6 rfl (Nat.le_of_ble_eq_true rfl) rfl ⟨by omega, by omega⟩ (zfin_no (c := 938) (j := 3) rfl) ?_
  replace h := h _ rfl
  refine g_ld (v := rf _) rfl (is_R _) ?_
  refine g_const (v := cI (0)) rfl ?_
  refine g_putI (kz := 5) oC6 rfl (Nat.le_of_ble_eq_true rfl) rfl ⟨by omega, by omega⟩ (zfin_no (c := 938) (j := 5) rfl) ?_
  replace h := h _ rfl
  refine g_ld (v := rf _) rfl (is_R _) ?_
  refine g_const (v := cI (0)) rfl ?_
  refine g_putI (kz := 7) oC6 rfl (Nat.le_of_ble_eq_true rfl) rfl ⟨by omega, by omega⟩ (zfin_no (c := 938) (j := 7) rfl) ?_
  replace h := h _ rfl
  unfold vX6_open_40
  refine g_ld (v := rf _) rfl (is_R _) ?_
  refine g_ld (v := cI _) rfl (is_I _) ?_
  refine g_callV (As := [_]) (ci := 6) oC6 (fun _ => rfl) ?_
  refine g_go1 (Nat.le_of_ble_eq_true rfl) (Tn_w (TX6_ready ha1 h) fun _ G9 ⟨r10, e, i11, h⟩ => ?_)
  subst e
  refine ⟨n7_I _, ?_⟩
  replace h := h i11
  refine g_pop (ct_I _) ?_
  exact g_ret0 ⟨rfl, h⟩
abbrev PX6_open (a1 : Int) (G : gS) (Q : Int → gS → Prop) : Prop := PX6_open_0 a1 G Q
theorem TX6_open {a1 : Int} {G : gS} {Q : Int → gS → Prop} (ha1 : inI a1) (h : PX6_open a1 G Q) : Tn W0 FX6_open [rf (938), cI (a1)] G (fun r G => r = 7 ∧ Q 0 G) := by
  unfold FX6_open
  refine g_ent (lv' := [rf (938), cI (a1)]) (flR (flI fl0)) (Nat.le_of_ble_eq_true rfl) rfl ?_
  exact TX6_open_0 ha1 h
def PX6_push_32 (l1 : Int) (G : gS) (Q : Int → gS → Prop) : Prop :=
  Q 0 G
set_option maxRecDepth 20000 in
theorem TX6_push_32 {l1 : Int} {G : gS} {Q : Int → gS → Prop} (hl1 : inI l1) (h : PX6_push_32 l1 G Q) : Tg W0 vX6_push_32 [rf (938), cI (l1)] [] G (fun r G => r = 7 ∧ Q 0 G) := by
  unfold PX6_push_32 at h
  unfold vX6_push_32
  exact g_ret0 ⟨rfl, h⟩
def PX6_push_0 (a1 : Int) (G : gS) (Q : Int → gS → Prop) : Prop :=
  (inI (G 938 3) → ((G 938 3 < 24000 → (inI (G 938 3) → ((0 : Int) ≤ G 938 3 ∧ ((G 938 3 : Int) < 24000 ∧ (∀ G6 : gS, G6 = uG G 952 (G 938 3) (a1) → (inI (G6 938 3) → (inI ((G6 938 3) + 1) ∧ (∀ G9 : gS, G9 = uG G6 938 3 ((G6 938 3) + 1) → PX6_push_32 a1 G9 Q)))))))) ∧ (¬ (G 938 3 < 24000) → PX6_push_32 a1 G Q)))
set_option maxRecDepth 20000 in
theorem TX6_push_0 {a1 : Int} {G : gS} {Q : Int → gS → Prop} (ha1 : inI a1) (h : PX6_push_0 a1 G Q) : Tg W0 vX6_push_0 [rf (938), cI (a1)] [] G (fun r G => r = 7 ∧ Q 0 G) := by
  unfold PX6_push_0 at h
  unfold vX6_push_0
  refine g_ld (v := rf _) rfl (is_R _) ?_
  refine g_getI (kz := 3) oC6 rfl (Nat.le_of_ble_eq_true rfl) rfl fun i1 => ?_
  replace h := h i1
  refine g_ld (v := rf _) rfl (is_R _) ?_
  refine g_getF (v := 952) oC6 (hC6_2) rfl (Nat.le_of_ble_eq_true rfl) (Nat.le_of_ble_eq_true rfl) ?_
  refine g_alen aC952 ?_
  refine g_lt2 i1 ⟨by omega, by omega⟩ (fun b2 => ?_) (fun b2 => ?_)
  · replace h := h.1 b2
    unfold vX6_push_12
    refine g_ld (v := rf _) rfl (is_R _) ?_
    refine g_getF (v := 952) oC6 (hC6_2) rfl (Nat.le_of_ble_eq_true rfl) (Nat.le_of_ble_eq_true rfl) ?_
    refine g_ld (v := rf _) rfl (is_R _) ?_
    refine g_getI (kz := 3) oC6 rfl (Nat.le_of_ble_eq_true rfl) rfl fun i3 => ?_
    replace h := h i3
    refine g_ld (v := cI _) rfl (is_I _) ?_
    obtain ⟨q4, q5, h⟩ := h
    refine g_astI aC952 q4 q5 ha1 (nfI aC952) ?_
    replace h := h _ rfl
    refine g_ld (v := rf _) rfl (is_R _) ?_
    refine g_dup (ct_R _) ?_
    refine g_getI (kz := 3) oC6 rfl (Nat.le_of_ble_eq_true rfl) rfl fun i7 => ?_
    replace h := h i7
    refine g_const (v := cI (1)) rfl ?_
    refine g_add ?_
    obtain ⟨q8, h⟩ := h
    refine g_putI (kz := 3) oC6 rfl (Nat.le_of_ble_eq_true rfl) rfl q8 (zfin_no (c := 938) (j := 3) rfl) ?_
    replace h := h _ rfl
    exact TX6_push_32 ha1 h
  · replace h := h.2 b2
    exact TX6_push_32 ha1 h
abbrev PX6_push (a1 : Int) (G : gS) (Q : Int → gS → Prop) : Prop := PX6_push_0 a1 G Q
theorem TX6_push {a1 : Int} {G : gS} {Q : Int → gS → Prop} (ha1 : inI a1) (h : PX6_push a1 G Q) : Tn W0 FX6_push [rf (938), cI (a1)] G (fun r G => r = 7 ∧ Q 0 G) := by
  unfold FX6_push
  refine g_ent (lv' := [rf (938), cI (a1)]) (flR (flI fl0)) (Nat.le_of_ble_eq_true rfl) rfl ?_
  exact TX6_push_0 ha1 h
def PX6_pop_0  (G : gS) (Q : Int → gS → Prop) : Prop :=
  (inI (G 938 3) → ((0 < G 938 3 → (inI (G 938 3) → (inI ((G 938 3) - 1) ∧ (∀ G5 : gS, G5 = uG G 938 3 ((G 938 3) - 1) → (inI (G5 938 3) → ((0 : Int) ≤ G5 938 3 ∧ ((G5 938 3 : Int) < 24000 ∧ (inI (G5 952 (G5 938 3)) → Q (G5 952 (G5 938 3)) G5)))))))) ∧ (¬ (0 < G 938 3) → Q (0) G)))
set_option maxRecDepth 20000 in
theorem TX6_pop_0  {G : gS} {Q : Int → gS → Prop}  (h : PX6_pop_0  G Q) : Tg W0 vX6_pop_0 [rf (938)] [] G (fun r G => ∃ v, r = cI v ∧ inI v ∧ Q v G) := by
  unfold PX6_pop_0 at h
  unfold vX6_pop_0
  refine g_ld (v := rf _) rfl (is_R _) ?_
  refine g_getI (kz := 3) oC6 rfl (Nat.le_of_ble_eq_true rfl) rfl fun i1 => ?_
  replace h := h i1
  refine g_gt1 i1 (fun b2 => ?_) (fun b2 => ?_)
  · replace h := h.1 b2
    unfold vX6_pop_9
    refine g_ld (v := rf _) rfl (is_R _) ?_
    refine g_dup (ct_R _) ?_
    refine g_getI (kz := 3) oC6 rfl (Nat.le_of_ble_eq_true rfl) rfl fun i3 => ?_
    replace h := h i3
    refine g_const (v := cI (1)) rfl ?_
    refine g_sub ?_
    obtain ⟨q4, h⟩ := h
    refine g_putI (kz := 3) oC6 rfl (Nat.le_of_ble_eq_true rfl) rfl q4 (zfin_no (c := 938) (j := 3) rfl) ?_
    replace h := h _ rfl
    refine g_ld (v := rf _) rfl (is_R _) ?_
    refine g_getF (v := 952) oC6 (hC6_2) rfl (Nat.le_of_ble_eq_true rfl) (Nat.le_of_ble_eq_true rfl) ?_
    refine g_ld (v := rf _) rfl (is_R _) ?_
    refine g_getI (kz := 3) oC6 rfl (Nat.le_of_ble_eq_true rfl) rfl fun i6 => ?_
    replace h := h i6
    obtain ⟨q7, q8, h⟩ := h
    refine g_aldI aC952 q7 q8 rfl fun i9 => ?_
    replace h := h i9
    exact g_ret1 (is_I _) ⟨_, rfl, i9, h⟩
  · replace h := h.2 b2
    unfold vX6_pop_7
    refine g_const (v := cI (0)) rfl ?_
    exact g_ret1 (is_I _) ⟨_, rfl, ⟨by omega, by omega⟩, h⟩
abbrev PX6_pop  (G : gS) (Q : Int → gS → Prop) : Prop := PX6_pop_0  G Q
theorem TX6_pop  {G : gS} {Q : Int → gS → Prop}  (h : PX6_pop  G Q) : Tn W0 FX6_pop [rf (938)] G (fun r G => ∃ v, r = cI v ∧ inI v ∧ Q v G) := by
  unfold FX6_pop
  refine g_ent (lv' := [rf (938)]) (flR fl0) (Nat.le_of_ble_eq_true rfl) rfl ?_
  exact TX6_pop_0  h
def PX6_peek_32 (l1 : Int) (l2 : Int) (s0 : Int) (G : gS) (Q : Int → gS → Prop) : Prop :=
  Q (s0) G
set_option maxRecDepth 20000 in
theorem TX6_peek_32 {l1 : Int} {l2 : Int} {s0 : Int} {G : gS} {Q : Int → gS → Prop} (hl1 : inI l1) (hl2 : inI l2) (hs0 : inI s0) (h : PX6_peek_32 l1 l2 s0 G Q) : Tg W0 vX6_peek_32 [rf (938), cI (l1), cI (l2)] [cI (s0)] G (fun r G => ∃ v, r = cI v ∧ inI v ∧ Q v G) := by
  unfold PX6_peek_32 at h
  unfold vX6_peek_32
  exact g_ret1 (is_I _) ⟨_, rfl, hs0, h⟩
def PX6_peek_31 (l1 : Int) (l2 : Int) (G : gS) (Q : Int → gS → Prop) : Prop :=
  PX6_peek_32 l1 l2 0 G Q
set_option maxRecDepth 20000 in
theorem TX6_peek_31 {l1 : Int} {l2 : Int} {G : gS} {Q : Int → gS → Prop} (hl1 : inI l1) (hl2 : inI l2) (h : PX6_peek_31 l1 l2 G Q) : Tg W0 vX6_peek_31 [rf (938), cI (l1), cI (l2)] [] G (fun r G => ∃ v, r = cI v ∧ inI v ∧ Q v G) := by
  unfold PX6_peek_31 at h
  unfold vX6_peek_31
  refine g_const (v := cI (0)) rfl ?_
  exact TX6_peek_32 hl1 hl2 ⟨by omega, by omega⟩ h
def PX6_peek_0 (a1 : Int) (G : gS) (Q : Int → gS → Prop) : Prop :=
  (inI (G 938 3) → (inI (((G 938 3) - 1) - a1) ∧ ((((G 938 3) - 1) - a1 < 0 → PX6_peek_31 a1 (((G 938 3) - 1) - a1) G Q) ∧ (¬ (((G 938 3) - 1) - a1 < 0) → ((((G 938 3) - 1) - a1 < 24000 → ((0 : Int) ≤ ((G 938 3) - 1) - a1 ∧ ((((G 938 3) - 1) - a1 : Int) < 24000 ∧ (inI (G 952 (((G 938 3) - 1) - a1)) → PX6_peek_32 a1 (((G 938 3) - 1) - a1) (G 952 (((G 938 3) - 1) - a1)) G Q)))) ∧ (¬ (((G 938 3) - 1) - a1 < 24000) → PX6_peek_31 a1 (((G 938 3) - 1) - a1) G Q))))))
set_option maxRecDepth 20000 in
theorem TX6_peek_0 {a1 : Int} {G : gS} {Q : Int → gS → Prop} (ha1 : inI a1) (h : PX6_peek_0 a1 G Q) : Tg W0 vX6_peek_0 [rf (938), cI (a1), 7] [] G (fun r G => ∃ v, r = cI v ∧ inI v ∧ Q v G) := by
  unfold PX6_peek_0 at h
  unfold vX6_peek_0
  refine g_ld (v := rf _) rfl (is_R _) ?_
  refine g_getI (kz := 3) oC6 rfl (Nat.le_of_ble_eq_true rfl) rfl fun i1 => ?_
  replace h := h i1
  refine g_const (v := cI (1)) rfl ?_
  refine g_sub ?_
  refine g_ld (v := cI _) rfl (is_I _) ?_
  refine g_sub ?_
  refine g_st (lv' := [_, _, _]) (is_I _) (Nat.le_of_ble_eq_true rfl) (Or.inr (n1_I _)) rfl ?_
  obtain ⟨q2, h⟩ := h
  refine g_ld (v := cI _) rfl (is_I _) ?_
  refine g_lt1 q2 (fun b3 => ?_) (fun b3 => ?_)
  · replace h := h.1 b3
    exact TX6_peek_31 ha1 q2 h
  · replace h := h.2 b3
    unfold vX6_peek_13
    refine g_ld (v := cI _) rfl (is_I _) ?_
    refine g_ld (v := rf _) rfl (is_R _) ?_
    refine g_getF (v := 952) oC6 (hC6_2) rfl (Nat.le_of_ble_eq_true rfl) (Nat.le_of_ble_eq_true rfl) ?_
    refine g_alen aC952 ?_
    refine g_lt2 q2 ⟨by omega, by omega⟩ (fun b4 => ?_) (fun b4 => ?_)
    · replace h := h.1 b4
      unfold vX6_peek_22
      refine g_ld (v := rf _) rfl (is_R _) ?_
      refine g_getF (v := 952) oC6 (hC6_2) rfl (Nat.le_of_ble_eq_true rfl) (Nat.le_of_ble_eq_true rfl) ?_
      refine g_ld (v := cI _) rfl (is_I _) ?_
      obtain ⟨q5, q6, h⟩ := h
      refine g_aldI aC952 q5 q6 rfl fun i7 => ?_
      replace h := h i7
      exact TX6_peek_32 ha1 q2 i7 h
    · replace h := h.2 b4
      exact TX6_peek_31 ha1 q2 h
abbrev PX6_peek (a1 : Int) (G : gS) (Q : Int → gS → Prop) : Prop := PX6_peek_0 a1 G Q
theorem TX6_peek {a1 : Int} {G : gS} {Q : Int → gS → Prop} (ha1 : inI a1) (h : PX6_peek a1 G Q) : Tn W0 FX6_peek [rf (938), cI (a1)] G (fun r G => ∃ v, r = cI v ∧ inI v ∧ Q v G) := by
  unfold FX6_peek
  refine g_ent (lv' := [rf (938), cI (a1), 7]) (flR (flI fl0)) (Nat.le_of_ble_eq_true rfl) rfl ?_
  exact TX6_peek_0 ha1 h
def PX6_call_85 (l1 : Int) (l2 : Int) (l3 : Int) (l4 : Int) (G : gS) (Q : Int → gS → Prop) : Prop :=
  Q 0 G
set_option maxRecDepth 20000 in
theorem TX6_call_85 {l1 : Int} {l2 : Int} {l3 : Int} {l4 : Int} {G : gS} {Q : Int → gS → Prop} (hl1 : inI l1) (hl3 : inI l3) (hl4 : inI l4) (h : PX6_call_85 l1 l2 l3 l4 G Q) : Tg W0 vX6_call_85 [rf (938), cI (l1), rf (l2), cI (l3), cI (l4)] [] G (fun r G => r = 7 ∧ Q 0 G) := by
  unfold PX6_call_85 at h
  unfold vX6_call_85
  exact g_ret0 ⟨rfl, h⟩
def PX6_call_52 (l1 : Int) (l2 : Int) (l3 : Int) (l4 : Int) (G : gS) (Q : Int → gS → Prop) : Prop :=
  PX6_fail 15 G (fun _ G19 => PX6_call_85 l1 l2 l3 l4 G19 Q)
set_option maxRecDepth 20000 in
theorem TX6_call_52 {l1 : Int} {l2 : Int} {l3 : Int} {l4 : Int} {G : gS} {Q : Int → gS → Prop} (hl1 : inI l1) (hl3 : inI l3) (hl4 : inI l4) (h : PX6_call_52 l1 l2 l3 l4 G Q) : Tg W0 vX6_call_52 [rf (938), cI (l1), rf (l2), cI (l3), cI (l4)] [] G (fun r G => r = 7 ∧ Q 0 G) := by
  unfold PX6_call_52 at h
  unfold vX6_call_52
  refine g_ld (v := rf _) rfl (is_R _) ?_
  refine g_const (v := cI (15)) rfl ?_
  refine g_callV (As := [_]) (ci := 6) oC6 (fun _ => rfl) ?_
  refine g_go0 (Nat.le_of_ble_eq_true rfl) (Tn_w (TX6_fail ⟨by omega, by omega⟩ h) fun _ G19 ⟨e, h⟩ => ⟨e, ?_⟩)
  exact TX6_call_85 hl1 hl3 hl4 h
def PX6_call_0 (a1 : Int) (a2 : Int) (a3 : Int) (a4 : Int) (G : gS) (Q : Int → gS → Prop) : Prop :=
  (inI (G 938 14) → ((G 938 14 < 20000 → (inI (G 938 5) → ((G 938 5 < 24 → (inI (G 938 3) → ((G 938 3 < a3 → PX6_call_52 a1 a2 a3 a4 G Q) ∧ (¬ (G 938 3 < a3) → (inI (G 938 3) → (inI ((G 938 3) + 800) ∧ ((24000 < (G 938 3) + 800 → PX6_call_52 a1 a2 a3 a4 G Q) ∧ (¬ (24000 < (G 938 3) + 800) → (inI (G 938 14) → (inI ((G 938 14) + 1) ∧ (∀ G12 : gS, G12 = uG G 938 14 ((G 938 14) + 1) → (inI (G12 938 3) → (inI ((G12 938 3) - a3) ∧ PX6_openFrame a1 a4 ((G12 938 3) - a3) a2 G12 (fun _ G15 => PX6_call_85 a1 a2 a3 a4 G15 Q)))))))))))))) ∧ (¬ (G 938 5 < 24) → PX6_call_52 a1 a2 a3 a4 G Q)))) ∧ (¬ (G 938 14 < 20000) → PX6_fail 14 G (fun _ G17 => PX6_call_85 a1 a2 a3 a4 G17 Q))))
set_option maxRecDepth 20000 in
theorem TX6_call_0 {a1 : Int} {a2 : Int} {a3 : Int} {a4 : Int} {G : gS} {Q : Int → gS → Prop} (ha1 : inI a1) (ha3 : inI a3) (ha4 : inI a4) (h : PX6_call_0 a1 a2 a3 a4 G Q) : Tg W0 vX6_call_0 [rf (938), cI (a1), rf (a2), cI (a3), cI (a4)] [] G (fun r G => r = 7 ∧ Q 0 G) := by
  unfold PX6_call_0 at h
  unfold vX6_call_0
  refine g_ld (v := rf _) rfl (is_R _) ?_
  refine g_getI (kz := 14) oC6 rfl (Nat.le_of_ble_eq_true rfl) rfl fun i1 => ?_
  replace h := h i1
  refine g_const (v := cI (20000)) rfl ?_
  refine g_lt2 i1 ⟨by omega, by omega⟩ (fun b2 => ?_) (fun b2 => ?_)
  · replace h := h.1 b2
    unfold vX6_call_19
    refine g_ld (v := rf _) rfl (is_R _) ?_
    refine g_getI (kz := 5) oC6 rfl (Nat.le_of_ble_eq_true rfl) rfl fun i3 => ?_
    replace h := h i3
    refine g_const (v := cI (24)) rfl ?_
    refine g_lt2 i3 ⟨by omega, by omega⟩ (fun b4 => ?_) (fun b4 => ?_)
    · replace h := h.1 b4
      unfold vX6_call_28
      refine g_ld (v := rf _) rfl (is_R _) ?_
      refine g_getI (kz := 3) oC6 rfl (Nat.le_of_ble_eq_true rfl) rfl fun i5 => ?_
      replace h := h i5
      refine g_ld (v := cI _) rfl (is_I _) ?_
      refine g_lt2 i5 ha3 (fun b6 => ?_) (fun b6 => ?_)
      · replace h := h.1 b6
        exact TX6_call_52 ha1 ha3 ha4 h
      · replace h := h.2 b6
        unfold vX6_call_36
        refine g_ld (v := rf _) rfl (is_R _) ?_
        refine g_getI (kz := 3) oC6 rfl (Nat.le_of_ble_eq_true rfl) rfl fun i7 => ?_
        replace h := h i7
        refine g_const (v := cI (800)) rfl ?_
        refine g_add ?_
        refine g_ld (v := rf _) rfl (is_R _) ?_
        refine g_getF (v := 952) oC6 (hC6_2) rfl (Nat.le_of_ble_eq_true rfl) (Nat.le_of_ble_eq_true rfl) ?_
        refine g_alen aC952 ?_
        obtain ⟨q8, h⟩ := h
        refine g_gt2 q8 ⟨by omega, by omega⟩ (fun b9 => ?_) (fun b9 => ?_)
        · replace h := h.1 b9
          exact TX6_call_52 ha1 ha3 ha4 h
        · replace h := h.2 b9
          unfold vX6_call_61
          refine g_ld (v := rf _) rfl (is_R _) ?_
          refine g_dup (ct_R _) ?_
          refine g_getI (kz := 14) oC6 rfl (Nat.le_of_ble_eq_true rfl) rfl fun i10 => ?_
          replace h := h i10
          refine g_const (v := cI (1)) rfl ?_
          refine g_add ?_
          obtain ⟨q11, h⟩ := h
          refine g_putI (kz := 14) oC6 rfl (Nat.le_of_ble_eq_true rfl) rfl q11 (zfin_no (c := 938) (j := 14) rfl) ?_
          replace h := h _ rfl
          refine g_ld (v := rf _) rfl (is_R _) ?_
          refine g_ld (v := cI _) rfl (is_I _) ?_
          refine g_ld (v := cI _) rfl (is_I _) ?_
          refine g_ld (v := rf _) rfl (is_R _) ?_
          refine g_getI (kz := 3) oC6 rfl (Nat.le_of_ble_eq_true rfl) rfl fun i13 => ?_
          replace h := h i13
          refine g_ld (v := cI _) rfl (is_I _) ?_
          refine g_sub ?_
          refine g_ld (v := rf _) rfl (is_R _) ?_
          obtain ⟨q14, h⟩ := h
          refine g_callV (As := [_, _, _, _]) (ci := 6) oC6 (fun _ => rfl) ?_
          refine g_go0 (Nat.le_of_ble_eq_true rfl) (Tn_w (TX6_openFrame ha1 ha4 q14 h) fun _ G15 ⟨e, h⟩ => ⟨e, ?_⟩)
          exact TX6_call_85 ha1 ha3 ha4 h
    · replace h := h.2 b4
      exact TX6_call_52 ha1 ha3 ha4 h
  · replace h := h.2 b2
    unfold vX6_call_10
    refine g_ld (v := rf _) rfl (is_R _) ?_
    refine g_const (v := cI (14)) rfl ?_
    refine g_callV (As := [_]) (ci := 6) oC6 (fun _ => rfl) ?_
    refine g_go0 (Nat.le_of_ble_eq_true rfl) (Tn_w (TX6_fail ⟨by omega, by omega⟩ h) fun _ G17 ⟨e, h⟩ => ⟨e, ?_⟩)
    exact TX6_call_85 ha1 ha3 ha4 h
abbrev PX6_call (a1 : Int) (a2 : Int) (a3 : Int) (a4 : Int) (G : gS) (Q : Int → gS → Prop) : Prop := PX6_call_0 a1 a2 a3 a4 G Q
theorem TX6_call {a1 : Int} {a2 : Int} {a3 : Int} {a4 : Int} {G : gS} {Q : Int → gS → Prop} (ha1 : inI a1) (ha3 : inI a3) (ha4 : inI a4) (h : PX6_call a1 a2 a3 a4 G Q) : Tn W0 FX6_call [rf (938), cI (a1), rf (a2), cI (a3), cI (a4)] G (fun r G => r = 7 ∧ Q 0 G) := by
  unfold FX6_call
  refine g_ent (lv' := [rf (938), cI (a1), rf (a2), cI (a3), cI (a4)]) (flR (flI (flR (flI (flI fl0))))) (Nat.le_of_ble_eq_true rfl) rfl ?_
  exact TX6_call_0 ha1 ha3 ha4 h
def PX6_close_0 (a1 : Int) (G : gS) (Q : Int → gS → Prop) : Prop :=
  (inI (G 938 5) → (inI ((G 938 5) - 1) ∧ (∀ G3 : gS, G3 = uG G 938 5 ((G 938 5) - 1) → (∃ n4, isA W0 0 n4 (a1) ∧ ((0 : Int) ≤ 2 ∧ ((2 : Int) < n4 ∧ (inI (G3 a1 2) → (∀ G9 : gS, G9 = uG G3 938 3 (G3 a1 2) → (∃ n10, isA W0 0 n10 (a1) ∧ ((0 : Int) ≤ 3 ∧ ((3 : Int) < n10 ∧ (inI (G9 a1 3) → (∀ G15 : gS, G15 = uG G9 938 7 (G9 a1 3) → Q 0 G15)))))))))))))
set_option maxRecDepth 20000 in
theorem TX6_close_0 {a1 : Int} {G : gS} {Q : Int → gS → Prop}  (h : PX6_close_0 a1 G Q) : Tg W0 vX6_close_0 [rf (938), rf (a1)] [] G (fun r G => r = 7 ∧ Q 0 G) := by
  unfold PX6_close_0 at h
  unfold vX6_close_0
  refine g_ld (v := rf _) rfl (is_R _) ?_
  refine g_dup (ct_R _) ?_
  refine g_getI (kz := 5) oC6 rfl (Nat.le_of_ble_eq_true rfl) rfl fun i1 => ?_
  replace h := h i1
  refine g_const (v := cI (1)) rfl ?_
  refine g_sub ?_
  obtain ⟨q2, h⟩ := h
  refine g_putI (kz := 5) oC6 rfl (Nat.le_of_ble_eq_true rfl) rfl q2 (zfin_no (c := 938) (j := 5) rfl) ?_
  replace h := h _ rfl
  refine g_ld (v := rf _) rfl (is_R _) ?_
  refine g_ld (v := rf _) rfl (is_R _) ?_
  refine g_const (v := cI (2)) rfl ?_
  obtain ⟨n4, q5, h⟩ := h
  obtain ⟨q6, q7, h⟩ := h
  refine g_aldI q5 q6 q7 rfl fun i8 => ?_
  replace h := h i8
  refine g_putI (kz := 3) oC6 rfl (Nat.le_of_ble_eq_true rfl) rfl i8 (zfin_no (c := 938) (j := 3) rfl) ?_
  replace h := h _ rfl
  refine g_ld (v := rf _) rfl (is_R _) ?_
  refine g_ld (v := rf _) rfl (is_R _) ?_
  refine g_const (v := cI (3)) rfl ?_
  obtain ⟨n10, q11, h⟩ := h
  obtain ⟨q12, q13, h⟩ := h
  refine g_aldI q11 q12 q13 rfl fun i14 => ?_
  replace h := h i14
  refine g_putI (kz := 7) oC6 rfl (Nat.le_of_ble_eq_true rfl) rfl i14 (zfin_no (c := 938) (j := 7) rfl) ?_
  replace h := h _ rfl
  exact g_ret0 ⟨rfl, h⟩
abbrev PX6_close (a1 : Int) (G : gS) (Q : Int → gS → Prop) : Prop := PX6_close_0 a1 G Q
theorem TX6_close {a1 : Int} {G : gS} {Q : Int → gS → Prop}  (h : PX6_close a1 G Q) : Tn W0 FX6_close [rf (938), rf (a1)] G (fun r G => r = 7 ∧ Q 0 G) := by
  unfold FX6_close
  refine g_ent (lv' := [rf (938), rf (a1)]) (flR (flR fl0)) (Nat.le_of_ble_eq_true rfl) rfl ?_
  exact TX6_close_0  h
def PX6_slotsTo_75 (J : Nat → List Int → gS → (Int → gS → Prop) → Prop) (l1 : Int) (l2 : Int) (l3 : Int) (l4 : Int) (G : gS) (Q : Int → gS → Prop) : Prop :=
  Q (l2) G
set_option maxRecDepth 20000 in
theorem TX6_slotsTo_75 {j : Nat → rx_K} {J : Nat → List Int → gS → (Int → gS → Prop) → Prop} {l1 : Int} {l2 : Int} {l3 : Int} {l4 : Int} {G : gS} {Q : Int → gS → Prop} (hl1 : inI l1) (hl2 : inI l2) (hl3 : inI l3) (hl4 : inI l4) (hj0 : ∀ (l1 : Int) (l2 : Int) (l3 : Int) (l4 : Int) (G : gS), (inI l1) → (inI l2) → (inI l3) → (inI l4) → J 0 [l1, l2, l3, l4] G Q → Tg W0 (j 0) [rf (938), cI (l1), cI (l2), cI (l3), cI (l4)] [] G (fun r G => ∃ v, r = cI v ∧ inI v ∧ Q v G)) (h : PX6_slotsTo_75 J l1 l2 l3 l4 G Q) : Tg W0 (vX6_slotsTo_75 j) [rf (938), cI (l1), cI (l2), cI (l3), cI (l4)] [] G (fun r G => ∃ v, r = cI v ∧ inI v ∧ Q v G) := by
  unfold PX6_slotsTo_75 at h
  unfold vX6_slotsTo_75
  refine g_ld (v := cI _) rfl (is_I _) ?_
  exact g_ret1 (is_I _) ⟨_, rfl, hl2, h⟩
def PX6_slotsTo_26 (J : Nat → List Int → gS → (Int → gS → Prop) → Prop) (l1 : Int) (l2 : Int) (l3 : Int) (l4 : Int) (G : gS) (Q : Int → gS → Prop) : Prop :=
  ((G 938 0 = -1 ∨ isO W0 11 (G 938 0)) → (isO W0 11 (G 938 0) ∧ ((0 : Int) ≤ l1 ∧ ((l1 : Int) < 64 ∧ (inI (G ((G 938 0) + 3) l1) → ((l4 < G ((G 938 0) + 3) l1 → ((l3 < 0 → PX6_slotsTo_75 J l1 l2 l3 l4 G Q) ∧ (¬ (l3 < 0) → ((G 938 0 = -1 ∨ isO W0 11 (G 938 0)) → (isO W0 11 (G 938 0) ∧ ((0 : Int) ≤ l3 ∧ ((l3 : Int) < 64 ∧ (((G ((G 938 0) + 1) l3 = -1 ∨ isO W0 10 (G ((G 938 0) + 1) l3)) ∧ ∀ v, W0.2 ((G 938 0) + 1) l3 = some v → G ((G 938 0) + 1) l3 = v) → (isO W0 10 (G ((G 938 0) + 1) l3) ∧ (inI (G (G ((G 938 0) + 1) l3) 20) → (inI (l2 + (G (G ((G 938 0) + 1) l3) 20)) ∧ ((G 938 0 = -1 ∨ isO W0 11 (G 938 0)) → (isO W0 11 (G 938 0) ∧ ((0 : Int) ≤ l3 ∧ ((l3 : Int) < 64 ∧ (inI (G ((G 938 0) + 2) l3) → (inI (l4 + 1) ∧ J 0 [l1, l2 + (G (G ((G 938 0) + 1) l3) 20), G ((G 938 0) + 2) l3, l4 + 1] G Q))))))))))))))))) ∧ (¬ (l4 < G ((G 938 0) + 3) l1) → PX6_slotsTo_75 J l1 l2 l3 l4 G Q)))))))
set_option maxRecDepth 20000 in
theorem TX6_slotsTo_26 {j : Nat → rx_K} {J : Nat → List Int → gS → (Int → gS → Prop) → Prop} {l1 : Int} {l2 : Int} {l3 : Int} {l4 : Int} {G : gS} {Q : Int → gS → Prop} (hl1 : inI l1) (hl2 : inI l2) (hl3 : inI l3) (hl4 : inI l4) (hj0 : ∀ (l1 : Int) (l2 : Int) (l3 : Int) (l4 : Int) (G : gS), (inI l1) → (inI l2) → (inI l3) → (inI l4) → J 0 [l1, l2, l3, l4] G Q → Tg W0 (j 0) [rf (938), cI (l1), cI (l2), cI (l3), cI (l4)] [] G (fun r G => ∃ v, r = cI v ∧ inI v ∧ Q v G)) (h : PX6_slotsTo_26 J l1 l2 l3 l4 G Q) : Tg W0 (vX6_slotsTo_26 j) [rf (938), cI (l1), cI (l2), cI (l3), cI (l4)] [] G (fun r G => ∃ v, r = cI v ∧ inI v ∧ Q v G) := by
  unfold PX6_slotsTo_26 at h
  unfold vX6_slotsTo_26
  refine g_ld (v := cI _) rfl (is_I _) ?_
  refine g_ld (v := rf _) rfl (is_R _) ?_
  refine g_getR (kz := 0) (c := 11) oC6 rfl (Nat.le_of_ble_eq_true rfl) rfl (by decide) fun i13 => ?_
  replace h := h i13
  obtain ⟨q14, h⟩ := h
  refine g_getF q14 (ff11_4 q14).1 rfl (Nat.le_of_ble_eq_true rfl) (Nat.le_of_ble_eq_true rfl) ?_
  refine g_ld (v := cI _) rfl (is_I _) ?_
  obtain ⟨q15, q16, h⟩ := h
  refine g_aldI (ff11_4 q14).2 q15 q16 rfl fun i17 => ?_
  replace h := h i17
  refine g_lt2 hl4 i17 (fun b18 => ?_) (fun b18 => ?_)
  · replace h := h.1 b18
    unfold vX6_slotsTo_40
    refine g_ld (v := cI _) rfl (is_I _) ?_
    refine g_lt1 hl3 (fun b19 => ?_) (fun b19 => ?_)
    · replace h := h.1 b19
      exact TX6_slotsTo_75 hl1 hl2 hl3 hl4 hj0 h
    · replace h := h.2 b19
      unfold vX6_slotsTo_44
      refine g_ld (v := cI _) rfl (is_I _) ?_
      refine g_ld (v := rf _) rfl (is_R _) ?_
      refine g_getR (kz := 0) (c := 11) oC6 rfl (Nat.le_of_ble_eq_true rfl) rfl (by decide) fun i20 => ?_
      replace h := h i20
      obtain ⟨q21, h⟩ := h
      refine g_getF q21 (ff11_1 q21).1 rfl (Nat.le_of_ble_eq_true rfl) (Nat.le_of_ble_eq_true rfl) ?_
      refine g_ld (v := cI _) rfl (is_I _) ?_
      obtain ⟨q22, q23, h⟩ := h
      refine g_aldRF (c := 10) (ff11_1 q21).2 q22 q23 rfl (by decide) fun i24 => ?_
      replace h := h i24
      obtain ⟨q25, h⟩ := h
      refine g_getI (kz := 20) q25 rfl (Nat.le_of_ble_eq_true rfl) rfl fun i26 => ?_
      replace h := h i26
      refine g_add ?_
      refine g_st (lv' := [_, _, _, _, _]) (is_I _) (Nat.le_of_ble_eq_true rfl) (Or.inr (n1_I _)) rfl ?_
      obtain ⟨q27, h⟩ := h
      refine g_ld (v := rf _) rfl (is_R _) ?_
      refine g_getR (kz := 0) (c := 11) oC6 rfl (Nat.le_of_ble_eq_true rfl) rfl (by decide) fun i28 => ?_
      replace h := h i28
      obtain ⟨q29, h⟩ := h
      refine g_getF q29 (ff11_3 q29).1 rfl (Nat.le_of_ble_eq_true rfl) (Nat.le_of_ble_eq_true rfl) ?_
      refine g_ld (v := cI _) rfl (is_I _) ?_
      obtain ⟨q30, q31, h⟩ := h
      refine g_aldI (ff11_3 q29).2 q30 q31 rfl fun i32 => ?_
      replace h := h i32
      refine g_st (lv' := [_, _, _, _, _]) (is_I _) (Nat.le_of_ble_eq_true rfl) (Or.inr (n1_I _)) rfl ?_
      refine g_inc (lv' := [_, _, _, _, _]) rfl (Nat.le_of_ble_eq_true rfl) (Or.inr (n1_I _)) rfl ?_
      obtain ⟨q33, h⟩ := h
      exact hj0 _ _ _ _ _ hl1 q27 i32 q33 h
  · replace h := h.2 b18
    exact TX6_slotsTo_75 hl1 hl2 hl3 hl4 hj0 h
def PX6_slotsTo_0 (J : Nat → List Int → gS → (Int → gS → Prop) → Prop) (a1 : Int) (G : gS) (Q : Int → gS → Prop) : Prop :=
  ((G 938 0 = -1 ∨ isO W0 11 (G 938 0)) → (isO W0 11 (G 938 0) ∧ ((0 : Int) ≤ a1 ∧ ((a1 : Int) < 64 ∧ (((G ((G 938 0) + 1) a1 = -1 ∨ isO W0 10 (G ((G 938 0) + 1) a1)) ∧ ∀ v, W0.2 ((G 938 0) + 1) a1 = some v → G ((G 938 0) + 1) a1 = v) → (isO W0 10 (G ((G 938 0) + 1) a1) ∧ (inI (G (G ((G 938 0) + 1) a1) 20) → ((G 938 0 = -1 ∨ isO W0 11 (G 938 0)) → (isO W0 11 (G 938 0) ∧ ((0 : Int) ≤ a1 ∧ ((a1 : Int) < 64 ∧ (inI (G ((G 938 0) + 2) a1) → PX6_slotsTo_26 J a1 (G (G ((G 938 0) + 1) a1) 20) (G ((G 938 0) + 2) a1) 0 G Q))))))))))))
set_option maxRecDepth 20000 in
theorem TX6_slotsTo_0 {j : Nat → rx_K} {J : Nat → List Int → gS → (Int → gS → Prop) → Prop} {a1 : Int} {G : gS} {Q : Int → gS → Prop} (ha1 : inI a1) (hj0 : ∀ (l1 : Int) (l2 : Int) (l3 : Int) (l4 : Int) (G : gS), (inI l1) → (inI l2) → (inI l3) → (inI l4) → J 0 [l1, l2, l3, l4] G Q → Tg W0 (j 0) [rf (938), cI (l1), cI (l2), cI (l3), cI (l4)] [] G (fun r G => ∃ v, r = cI v ∧ inI v ∧ Q v G)) (h : PX6_slotsTo_0 J a1 G Q) : Tg W0 (vX6_slotsTo_0 j) [rf (938), cI (a1), 7, 7, 7] [] G (fun r G => ∃ v, r = cI v ∧ inI v ∧ Q v G) := by
  unfold PX6_slotsTo_0 at h
  unfold vX6_slotsTo_0
  refine g_ld (v := rf _) rfl (is_R _) ?_
  refine g_getR (kz := 0) (c := 11) oC6 rfl (Nat.le_of_ble_eq_true rfl) rfl (by decide) fun i1 => ?_
  replace h := h i1
  obtain ⟨q2, h⟩ := h
  refine g_getF q2 (ff11_1 q2).1 rfl (Nat.le_of_ble_eq_true rfl) (Nat.le_of_ble_eq_true rfl) ?_
  refine g_ld (v := cI _) rfl (is_I _) ?_
  obtain ⟨q3, q4, h⟩ := h
  refine g_aldRF (c := 10) (ff11_1 q2).2 q3 q4 rfl (by decide) fun i5 => ?_
  replace h := h i5
  obtain ⟨q6, h⟩ := h
  refine g_getI (kz := 20) q6 rfl (Nat.le_of_ble_eq_true rfl) rfl fun i7 => ?_
  replace h := h i7
  refine g_st (lv' := [_, _, _, _, _]) (is_I _) (Nat.le_of_ble_eq_true rfl) (Or.inr (n1_I _)) rfl ?_
  refine g_ld (v := rf _) rfl (is_R _) ?_
  refine g_getR (kz := 0) (c := 11) oC6 rfl (Nat.le_of_ble_eq_true rfl) rfl (by decide) fun i8 => ?_
  replace h := h i8
  obtain ⟨q9, h⟩ := h
  refine g_getF q9 (ff11_3 q9).1 rfl (Nat.le_of_ble_eq_true rfl) (Nat.le_of_ble_eq_true rfl) ?_
  refine g_ld (v := cI _) rfl (is_I _) ?_
  obtain ⟨q10, q11, h⟩ := h
  refine g_aldI (ff11_3 q9).2 q10 q11 rfl fun i12 => ?_
  replace h := h i12
  refine g_st (lv' := [_, _, _, _, _]) (is_I _) (Nat.le_of_ble_eq_true rfl) (Or.inr (n1_I _)) rfl ?_
  refine g_const (v := cI (0)) rfl ?_
  refine g_st (lv' := [_, _, _, _, _]) (is_I _) (Nat.le_of_ble_eq_true rfl) (Or.inr (n1_I _)) rfl ?_
  exact TX6_slotsTo_26 ha1 i7 i12 ⟨by omega, by omega⟩ hj0 h
def PX6_slotsTo_J : Nat → Nat → List Int → gS → (Int → gS → Prop) → Prop
  | 0, _, _, _, _ => False
  | f + 1, h, L, G, Q => match h, L with
    | 0, [l1, l2, l3, l4] => PX6_slotsTo_26 (PX6_slotsTo_J f) l1 l2 l3 l4 G Q
    | _, _ => False
theorem TX6_slotsTo_J {Q : Int → gS → Prop} : ∀ f N : Nat, f ≤ N → (∀ (l1 : Int) (l2 : Int) (l3 : Int) (l4 : Int) (G : gS), (inI l1) → (inI l2) → (inI l3) → (inI l4) → (PX6_slotsTo_J f) 0 [l1, l2, l3, l4] G Q → Tg W0 (rx_J vhX6_slotsTo N 0) [rf (938), cI (l1), cI (l2), cI (l3), cI (l4)] [] G (fun r G => ∃ v, r = cI v ∧ inI v ∧ Q v G)) := by
  intro f
  induction f with
  | zero => exact fun N _ => fun _ _ _ _ _ _ _ _ _ h => h.elim
  | succ f ih =>
    intro N hN
    obtain ⟨M, rfl⟩ : ∃ M, N = M + 1 := ⟨N - 1, by omega⟩
    have ih := ih M (by omega)
    exact fun _ _ _ _ _ hl1 hl2 hl3 hl4 h => show Tg W0 (vX6_slotsTo_26 (rx_J vhX6_slotsTo M)) _ _ _ _ from TX6_slotsTo_26 hl1 hl2 hl3 hl4 ih h
def PX6_slotsTo (a1 : Int) (G : gS) (Q : Int → gS → Prop) : Prop := ∃ f : Nat, f ≤ 4000000000 ∧ PX6_slotsTo_0 (PX6_slotsTo_J f) a1 G Q
theorem TX6_slotsTo {a1 : Int} {G : gS} {Q : Int → gS → Prop} (ha1 : inI a1) (h : PX6_slotsTo a1 G Q) : Tn W0 FX6_slotsTo [rf (938), cI (a1)] G (fun r G => ∃ v, r = cI v ∧ inI v ∧ Q v G) := by
  obtain ⟨f, hf, h⟩ := h
  have hJ := TX6_slotsTo_J (Q := Q) f 4000000000 hf
  unfold FX6_slotsTo
  refine g_ent (lv' := [rf (938), cI (a1), 7, 7, 7]) (flR (flI fl0)) (Nat.le_of_ble_eq_true rfl) rfl ?_
  exact TX6_slotsTo_0 ha1 hJ h
def PX6_fieldOne_120 (l1 : Int) (l2 : Int) (l3 : Int) (l4 : Int) (l5 : Int) (l6 : Int) (G : gS) (Q : Int → gS → Prop) : Prop :=
  Q (1) G
set_option maxRecDepth 20000 in
theorem TX6_fieldOne_120 {l1 : Int} {l2 : Int} {l3 : Int} {l4 : Int} {l5 : Int} {l6 : Int} {G : gS} {Q : Int → gS → Prop} (hl1 : inI l1) (hl2 : inI l2) (hl3 : inI l3) (hl4 : inI l4) (hl5 : inI l5) (hl6 : inI l6) (h : PX6_fieldOne_120 l1 l2 l3 l4 l5 l6 G Q) : Tg W0 vX6_fieldOne_120 [rf (938), cI (l1), cI (l2), cI (l3), cI (l4), cI (l5), cI (l6)] [] G (fun r G => ∃ v, r = cI v ∧ (0 ≤ v ∧ v ≤ 1) ∧ Q v G) := by
  unfold PX6_fieldOne_120 at h
  unfold vX6_fieldOne_120
  refine g_const (v := cI (1)) rfl ?_
  exact g_ret1 (is_Z (by omega)) ⟨_, rfl, (by omega), h⟩
def PX6_fieldOne_86 (l1 : Int) (l2 : Int) (l3 : Int) (l4 : Int) (l5 : Int) (l6 : Int) (G : gS) (Q : Int → gS → Prop) : Prop :=
  PX6_fail 3 G (fun _ G39 => Q (0) G39)
set_option maxRecDepth 20000 in
theorem TX6_fieldOne_86 {l1 : Int} {l2 : Int} {l3 : Int} {l4 : Int} {l5 : Int} {l6 : Int} {G : gS} {Q : Int → gS → Prop} (hl1 : inI l1) (hl2 : inI l2) (hl3 : inI l3) (hl4 : inI l4) (hl5 : inI l5) (hl6 : inI l6) (h : PX6_fieldOne_86 l1 l2 l3 l4 l5 l6 G Q) : Tg W0 vX6_fieldOne_86 [rf (938), cI (l1), cI (l2), cI (l3), cI (l4), cI (l5), cI (l6)] [] G (fun r G => ∃ v, r = cI v ∧ (0 ≤ v ∧ v ≤ 1) ∧ Q v G) := by
  unfold PX6_fieldOne_86 at h
  unfold vX6_fieldOne_86
  refine g_ld (v := rf _) rfl (is_R _) ?_
  refine g_const (v := cI (3)) rfl ?_
  refine g_callV (As := [_]) (ci := 6) oC6 (fun _ => rfl) ?_
  refine g_go0 (Nat.le_of_ble_eq_true rfl) (Tn_w (TX6_fail ⟨by omega, by omega⟩ h) fun _ G39 ⟨e, h⟩ => ⟨e, ?_⟩)
  refine g_const (v := cI (0)) rfl ?_
  exact g_ret1 (is_Z (by omega)) ⟨_, rfl, (by omega), h⟩
def PX6_fieldOne_34 (l1 : Int) (l2 : Int) (l3 : Int) (l4 : Int) (l5 : Int) (G : gS) (Q : Int → gS → Prop) : Prop :=
  PX6_fail 13 G (fun _ G37 => Q (0) G37)
set_option maxRecDepth 20000 in
theorem TX6_fieldOne_34 {l1 : Int} {l2 : Int} {l3 : Int} {l4 : Int} {l5 : Int} {l6 : Nat} {G : gS} {Q : Int → gS → Prop} (hl1 : inI l1) (hl2 : inI l2) (hl3 : inI l3) (hl4 : inI l4) (hl5 : inI l5) (hl6 : l6 % 8 ≠ 1) (h : PX6_fieldOne_34 l1 l2 l3 l4 l5 G Q) : Tg W0 vX6_fieldOne_34 [rf (938), cI (l1), cI (l2), cI (l3), cI (l4), cI (l5), l6] [] G (fun r G => ∃ v, r = cI v ∧ (0 ≤ v ∧ v ≤ 1) ∧ Q v G) := by
  unfold PX6_fieldOne_34 at h
  unfold vX6_fieldOne_34
  refine g_ld (v := rf _) rfl (is_R _) ?_
  refine g_const (v := cI (13)) rfl ?_
  refine g_callV (As := [_]) (ci := 6) oC6 (fun _ => rfl) ?_
  refine g_go0 (Nat.le_of_ble_eq_true rfl) (Tn_w (TX6_fail ⟨by omega, by omega⟩ h) fun _ G37 ⟨e, h⟩ => ⟨e, ?_⟩)
  refine g_const (v := cI (0)) rfl ?_
  exact g_ret1 (is_Z (by omega)) ⟨_, rfl, (by omega), h⟩
def PX6_fieldOne_12 (l1 : Int) (l2 : Int) (l3 : Int) (s0 : Int) (G : gS) (Q : Int → gS → Prop) : Prop :=
  PX6_pop G (fun r6 G5 => inI r6 → ((0 < r6 → (inI (G5 938 10) → ((G5 938 10 < r6 → PX6_fieldOne_34 l1 l2 l3 s0 r6 G5 Q) ∧ (¬ (G5 938 10 < r6) → ((0 : Int) ≤ r6 ∧ ((r6 : Int) < 202 ∧ (inI (G5 981 r6) → PX6_slotsTo l2 G5 (fun r15 G14 => inI r15 → ((G14 938 0 = -1 ∨ isO W0 11 (G14 938 0)) → (isO W0 11 (G14 938 0) ∧ ((0 : Int) ≤ l2 ∧ ((l2 : Int) < 64 ∧ (((G14 ((G14 938 0) + 1) l2 = -1 ∨ isO W0 10 (G14 ((G14 938 0) + 1) l2)) ∧ ∀ v, W0.2 ((G14 938 0) + 1) l2 = some v → G14 ((G14 938 0) + 1) l2 = v) → (isO W0 10 (G14 ((G14 938 0) + 1) l2) ∧ (inI (G14 (G14 ((G14 938 0) + 1) l2) 20) → (inI ((((G5 981 r6) + r15) - (G14 (G14 ((G14 938 0) + 1) l2) 20)) + l3) ∧ (((((G5 981 r6) + r15) - (G14 (G14 ((G14 938 0) + 1) l2) 20)) + l3 < 0 → PX6_fieldOne_86 l1 l2 l3 s0 r6 ((((G5 981 r6) + r15) - (G14 (G14 ((G14 938 0) + 1) l2) 20)) + l3) G14 Q) ∧ (¬ ((((G5 981 r6) + r15) - (G14 (G14 ((G14 938 0) + 1) l2) 20)) + l3 < 0) → (inI (G14 938 12) → (((((G5 981 r6) + r15) - (G14 (G14 ((G14 938 0) + 1) l2) 20)) + l3 < G14 938 12 → ((l1 = 0 → ((0 : Int) ≤ (((G5 981 r6) + r15) - (G14 (G14 ((G14 938 0) + 1) l2) 20)) + l3 ∧ (((((G5 981 r6) + r15) - (G14 (G14 ((G14 938 0) + 1) l2) 20)) + l3 : Int) < 2000 ∧ (inI (G14 982 ((((G5 981 r6) + r15) - (G14 (G14 ((G14 938 0) + 1) l2) 20)) + l3)) → PX6_push (G14 982 ((((G5 981 r6) + r15) - (G14 (G14 ((G14 938 0) + 1) l2) 20)) + l3)) G14 (fun _ G32 => PX6_fieldOne_120 l1 l2 l3 s0 r6 ((((G5 981 r6) + r15) - (G14 (G14 ((G14 938 0) + 1) l2) 20)) + l3) G32 Q))))) ∧ (¬ (l1 = 0) → ((0 : Int) ≤ (((G5 981 r6) + r15) - (G14 (G14 ((G14 938 0) + 1) l2) 20)) + l3 ∧ (((((G5 981 r6) + r15) - (G14 (G14 ((G14 938 0) + 1) l2) 20)) + l3 : Int) < 2000 ∧ (∀ G36 : gS, G36 = uG G14 982 ((((G5 981 r6) + r15) - (G14 (G14 ((G14 938 0) + 1) l2) 20)) + l3) (s0) → PX6_fieldOne_120 l1 l2 l3 s0 r6 ((((G5 981 r6) + r15) - (G14 (G14 ((G14 938 0) + 1) l2) 20)) + l3) G36 Q)))))) ∧ (¬ ((((G5 981 r6) + r15) - (G14 (G14 ((G14 938 0) + 1) l2) 20)) + l3 < G14 938 12) → PX6_fieldOne_86 l1 l2 l3 s0 r6 ((((G5 981 r6) + r15) - (G14 (G14 ((G14 938 0) + 1) l2) 20)) + l3) G14 Q))))))))))))))))))))) ∧ (¬ (0 < r6) → PX6_fieldOne_34 l1 l2 l3 s0 r6 G5 Q)))
set_option maxRecDepth 20000 in
theorem TX6_fieldOne_12 {l1 : Int} {l2 : Int} {l3 : Int} {l4 : Nat} {l5 : Nat} {l6 : Nat} {s0 : Int} {G : gS} {Q : Int → gS → Prop} (hl1 : inI l1) (hl2 : inI l2) (hl3 : inI l3) (hl4 : l4 % 8 ≠ 1) (hl5 : l5 % 8 ≠ 1) (hl6 : l6 % 8 ≠ 1) (hs0 : inI s0) (h : PX6_fieldOne_12 l1 l2 l3 s0 G Q) : Tg W0 vX6_fieldOne_12 [rf (938), cI (l1), cI (l2), cI (l3), l4, l5, l6] [cI (s0)] G (fun r G => ∃ v, r = cI v ∧ (0 ≤ v ∧ v ≤ 1) ∧ Q v G) := by
  unfold PX6_fieldOne_12 at h
  unfold vX6_fieldOne_12
  refine g_st (lv' := [_, _, _, _, _, _, _]) (is_I _) (Nat.le_of_ble_eq_true rfl) (Or.inr (n1_I _)) rfl ?_
  refine g_ld (v := rf _) rfl (is_R _) ?_
  refine g_callV (As := []) (ci := 6) oC6 (fun _ => rfl) ?_
  refine g_go1 (Nat.le_of_ble_eq_true rfl) (Tn_w (TX6_pop  h) fun _ G5 ⟨r6, e, i7, h⟩ => ?_)
  subst e
  refine ⟨n7_I _, ?_⟩
  replace h := h i7
  refine g_st (lv' := [_, _, _, _, _, _, _]) (is_I _) (Nat.le_of_ble_eq_true rfl) (Or.inr (n1_I _)) rfl ?_
  refine g_ld (v := cI _) rfl (is_I _) ?_
  refine g_gt1 i7 (fun b8 => ?_) (fun b8 => ?_)
  · replace h := h.1 b8
    unfold vX6_fieldOne_25
    refine g_ld (v := cI _) rfl (is_I _) ?_
    refine g_ld (v := rf _) rfl (is_R _) ?_
    refine g_getI (kz := 10) oC6 rfl (Nat.le_of_ble_eq_true rfl) rfl fun i9 => ?_
    replace h := h i9
    refine g_gt2 i7 i9 (fun b10 => ?_) (fun b10 => ?_)
    · replace h := h.1 b10
      exact TX6_fieldOne_34 hl1 hl2 hl3 hs0 i7 hl6 h
    · replace h := h.2 b10
      unfold vX6_fieldOne_42
      refine g_ld (v := rf _) rfl (is_R _) ?_
      refine g_getF (v := 981) oC6 (hC6_9) rfl (Nat.le_of_ble_eq_true rfl) (Nat.le_of_ble_eq_true rfl) ?_
      refine g_ld (v := cI _) rfl (is_I _) ?_
      obtain ⟨q11, q12, h⟩ := h
      refine g_aldI aC981 q11 q12 rfl fun i13 => ?_
      replace h := h i13
      refine g_ld (v := rf _) rfl (is_R _) ?_
      refine g_ld (v := cI _) rfl (is_I _) ?_
      refine g_callV (As := [_]) (ci := 6) oC6 (fun _ => rfl) ?_
      refine g_go1 (by simp only [cs_c, cs_0, ct_I, ct_L, ct_R]; exact Nat.le_of_ble_eq_true rfl) (Tn_w (TX6_slotsTo hl2 h) fun _ G14 ⟨r15, e, i16, h⟩ => ?_)
      subst e
      refine ⟨n7_I _, ?_⟩
      replace h := h i16
      refine g_add ?_
      refine g_ld (v := rf _) rfl (is_R _) ?_
      refine g_getR (kz := 0) (c := 11) oC6 rfl (Nat.le_of_ble_eq_true rfl) rfl (by decide) fun i17 => ?_
      replace h := h i17
      obtain ⟨q18, h⟩ := h
      refine g_getF q18 (ff11_1 q18).1 rfl (Nat.le_of_ble_eq_true rfl) (Nat.le_of_ble_eq_true rfl) ?_
      refine g_ld (v := cI _) rfl (is_I _) ?_
      obtain ⟨q19, q20, h⟩ := h
      refine g_aldRF (c := 10) (ff11_1 q18).2 q19 q20 rfl (by decide) fun i21 => ?_
      replace h := h i21
      obtain ⟨q22, h⟩ := h
      refine g_getI (kz := 20) q22 rfl (Nat.le_of_ble_eq_true rfl) rfl fun i23 => ?_
      replace h := h i23
      refine g_sub ?_
      refine g_ld (v := cI _) rfl (is_I _) ?_
      refine g_add ?_
      refine g_st (lv' := [_, _, _, _, _, _, _]) (is_I _) (Nat.le_of_ble_eq_true rfl) (Or.inr (n1_I _)) rfl ?_
      obtain ⟨q24, h⟩ := h
      refine g_ld (v := cI _) rfl (is_I _) ?_
      refine g_lt1 q24 (fun b25 => ?_) (fun b25 => ?_)
      · replace h := h.1 b25
        exact TX6_fieldOne_86 hl1 hl2 hl3 hs0 i7 q24 h
      · replace h := h.2 b25
        unfold vX6_fieldOne_77
        refine g_ld (v := cI _) rfl (is_I _) ?_
        refine g_ld (v := rf _) rfl (is_R _) ?_
        refine g_getI (kz := 12) oC6 rfl (Nat.le_of_ble_eq_true rfl) rfl fun i26 => ?_
        replace h := h i26
        refine g_lt2 q24 i26 (fun b27 => ?_) (fun b27 => ?_)
        · replace h := h.1 b27
          unfold vX6_fieldOne_93
          refine g_ld (v := cI _) rfl (is_I _) ?_
          refine g_eq1 hl1 (fun b28 => ?_) (fun b28 => ?_)
          · replace h := h.1 b28
            unfold vX6_fieldOne_109
            refine g_ld (v := rf _) rfl (is_R _) ?_
            refine g_ld (v := rf _) rfl (is_R _) ?_
            refine g_getF (v := 982) oC6 (hC6_11) rfl (Nat.le_of_ble_eq_true rfl) (Nat.le_of_ble_eq_true rfl) ?_
            refine g_ld (v := cI _) rfl (is_I _) ?_
            obtain ⟨q29, q30, h⟩ := h
            refine g_aldI aC982 q29 q30 rfl fun i31 => ?_
            replace h := h i31
            refine g_callV (As := [_]) (ci := 6) oC6 (fun _ => rfl) ?_
            refine g_go0 (Nat.le_of_ble_eq_true rfl) (Tn_w (TX6_push i31 h) fun _ G32 ⟨e, h⟩ => ⟨e, ?_⟩)
            exact TX6_fieldOne_120 hl1 hl2 hl3 hs0 i7 q24 h
          · replace h := h.2 b28
            unfold vX6_fieldOne_97
            refine g_ld (v := rf _) rfl (is_R _) ?_
            refine g_getF (v := 982) oC6 (hC6_11) rfl (Nat.le_of_ble_eq_true rfl) (Nat.le_of_ble_eq_true rfl) ?_
            refine g_ld (v := cI _) rfl (is_I _) ?_
            refine g_ld (v := cI _) rfl (is_I _) ?_
            obtain ⟨q34, q35, h⟩ := h
            refine g_astI aC982 q34 q35 hs0 (nfI aC982) ?_
            replace h := h _ rfl
            exact TX6_fieldOne_120 hl1 hl2 hl3 hs0 i7 q24 h
        · replace h := h.2 b27
          exact TX6_fieldOne_86 hl1 hl2 hl3 hs0 i7 q24 h
  · replace h := h.2 b8
    exact TX6_fieldOne_34 hl1 hl2 hl3 hs0 i7 hl6 h
def PX6_fieldOne_0 (a1 : Int) (a2 : Int) (a3 : Int) (G : gS) (Q : Int → gS → Prop) : Prop :=
  ((a1 = 0 → PX6_fieldOne_12 a1 a2 a3 0 G Q) ∧ (¬ (a1 = 0) → PX6_pop G (fun r3 G2 => inI r3 → PX6_fieldOne_12 a1 a2 a3 r3 G2 Q)))
set_option maxRecDepth 20000 in
theorem TX6_fieldOne_0 {a1 : Int} {a2 : Int} {a3 : Int} {G : gS} {Q : Int → gS → Prop} (ha1 : inI a1) (ha2 : inI a2) (ha3 : inI a3) (h : PX6_fieldOne_0 a1 a2 a3 G Q) : Tg W0 vX6_fieldOne_0 [rf (938), cI (a1), cI (a2), cI (a3), 7, 7, 7] [] G (fun r G => ∃ v, r = cI v ∧ (0 ≤ v ∧ v ≤ 1) ∧ Q v G) := by
  unfold PX6_fieldOne_0 at h
  unfold vX6_fieldOne_0
  refine g_ld (v := cI _) rfl (is_I _) ?_
  refine g_eq1 ha1 (fun b1 => ?_) (fun b1 => ?_)
  · replace h := h.1 b1
    unfold vX6_fieldOne_11
    refine g_const (v := cI (0)) rfl ?_
    exact TX6_fieldOne_12 ha1 ha2 ha3 (show 7 % 8 ≠ 1 by decide) (show 7 % 8 ≠ 1 by decide) (show 7 % 8 ≠ 1 by decide) ⟨by omega, by omega⟩ h
  · replace h := h.2 b1
    unfold vX6_fieldOne_4
    refine g_ld (v := rf _) rfl (is_R _) ?_
    refine g_callV (As := []) (ci := 6) oC6 (fun _ => rfl) ?_
    refine g_go1 (Nat.le_of_ble_eq_true rfl) (Tn_w (TX6_pop  h) fun _ G2 ⟨r3, e, i4, h⟩ => ?_)
    subst e
    refine ⟨n7_I _, ?_⟩
    replace h := h i4
    exact TX6_fieldOne_12 ha1 ha2 ha3 (show 7 % 8 ≠ 1 by decide) (show 7 % 8 ≠ 1 by decide) (show 7 % 8 ≠ 1 by decide) i4 h
abbrev PX6_fieldOne (a1 : Int) (a2 : Int) (a3 : Int) (G : gS) (Q : Int → gS → Prop) : Prop := PX6_fieldOne_0 a1 a2 a3 G Q
theorem TX6_fieldOne {a1 : Int} {a2 : Int} {a3 : Int} {G : gS} {Q : Int → gS → Prop} (ha1 : inI a1) (ha2 : inI a2) (ha3 : inI a3) (h : PX6_fieldOne a1 a2 a3 G Q) : Tn W0 FX6_fieldOne [rf (938), cI (a1), cI (a2), cI (a3)] G (fun r G => ∃ v, r = cI v ∧ (0 ≤ v ∧ v ≤ 1) ∧ Q v G) := by
  unfold FX6_fieldOne
  refine g_ent (lv' := [rf (938), cI (a1), cI (a2), cI (a3), 7, 7, 7]) (flR (flI (flI (flI fl0)))) (Nat.le_of_ble_eq_true rfl) rfl ?_
  exact TX6_fieldOne_0 ha1 ha2 ha3 h
def PX6_giveBack_32 (l1 : Int) (l2 : Int) (G : gS) (Q : Int → gS → Prop) : Prop :=
  Q 0 G
set_option maxRecDepth 20000 in
theorem TX6_giveBack_32 {l1 : Int} {l2 : Int} {G : gS} {Q : Int → gS → Prop} (hl2 : inI l2) (h : PX6_giveBack_32 l1 l2 G Q) : Tg W0 vX6_giveBack_32 [rf (938), rf (l1), cI (l2)] [] G (fun r G => r = 7 ∧ Q 0 G) := by
  unfold PX6_giveBack_32 at h
  unfold vX6_giveBack_32
  exact g_ret0 ⟨rfl, h⟩
def PX6_giveBack_0 (a1 : Int) (a2 : Int) (G : gS) (Q : Int → gS → Prop) : Prop :=
  PX6_close a1 G (fun _ G1 => (∃ n3, isA W0 0 n3 (a1) ∧ ((0 : Int) ≤ 4 ∧ ((4 : Int) < n3 ∧ (inI (G1 a1 4) → ((G1 a1 4 = 1 → (inI (G1 938 5) → ((G1 938 5 = 0 → (∀ G11 : gS, G11 = uG G1 938 19 (a2) → PX6_giveBack_32 a1 a2 G11 Q)) ∧ (¬ (G1 938 5 = 0) → PX6_push a2 G1 (fun _ G12 => PX6_giveBack_32 a1 a2 G12 Q))))) ∧ (¬ (G1 a1 4 = 1) → PX6_giveBack_32 a1 a2 G1 Q)))))))
set_option maxRecDepth 20000 in
theorem TX6_giveBack_0 {a1 : Int} {a2 : Int} {G : gS} {Q : Int → gS → Prop} (ha2 : inI a2) (h : PX6_giveBack_0 a1 a2 G Q) : Tg W0 vX6_giveBack_0 [rf (938), rf (a1), cI (a2)] [] G (fun r G => r = 7 ∧ Q 0 G) := by
  unfold PX6_giveBack_0 at h
  unfold vX6_giveBack_0
  refine g_ld (v := rf _) rfl (is_R _) ?_
  refine g_ld (v := rf _) rfl (is_R _) ?_
  refine g_callV (As := [_]) (ci := 6) oC6 (fun _ => rfl) ?_
  refine g_go0 (Nat.le_of_ble_eq_true rfl) (Tn_w (TX6_close  h) fun _ G1 ⟨e, h⟩ => ⟨e, ?_⟩)
  refine g_ld (v := rf _) rfl (is_R _) ?_
  refine g_const (v := cI (4)) rfl ?_
  obtain ⟨n3, q4, h⟩ := h
  obtain ⟨q5, q6, h⟩ := h
  refine g_aldI q4 q5 q6 rfl fun i7 => ?_
  replace h := h i7
  refine g_const (v := cI (1)) rfl ?_
  refine g_eq2 i7 ⟨by omega, by omega⟩ (fun b8 => ?_) (fun b8 => ?_)
  · replace h := h.1 b8
    unfold vX6_giveBack_12
    refine g_ld (v := rf _) rfl (is_R _) ?_
    refine g_getI (kz := 5) oC6 rfl (Nat.le_of_ble_eq_true rfl) rfl fun i9 => ?_
    replace h := h i9
    refine g_eq1 i9 (fun b10 => ?_) (fun b10 => ?_)
    · replace h := h.1 b10
      unfold vX6_giveBack_19
      refine g_ld (v := rf _) rfl (is_R _) ?_
      refine g_ld (v := cI _) rfl (is_I _) ?_
      refine g_putI (kz := 19) oC6 rfl (Nat.le_of_ble_eq_true rfl) rfl ha2 (zfin_no (c := 938) (j := 19) rfl) ?_
      replace h := h _ rfl
      exact TX6_giveBack_32 ha2 h
    · replace h := h.2 b10
      unfold vX6_giveBack_27
      refine g_ld (v := rf _) rfl (is_R _) ?_
      refine g_ld (v := cI _) rfl (is_I _) ?_
      refine g_callV (As := [_]) (ci := 6) oC6 (fun _ => rfl) ?_
      refine g_go0 (Nat.le_of_ble_eq_true rfl) (Tn_w (TX6_push ha2 h) fun _ G12 ⟨e, h⟩ => ⟨e, ?_⟩)
      exact TX6_giveBack_32 ha2 h
  · replace h := h.2 b8
    exact TX6_giveBack_32 ha2 h
abbrev PX6_giveBack (a1 : Int) (a2 : Int) (G : gS) (Q : Int → gS → Prop) : Prop := PX6_giveBack_0 a1 a2 G Q
theorem TX6_giveBack {a1 : Int} {a2 : Int} {G : gS} {Q : Int → gS → Prop} (ha2 : inI a2) (h : PX6_giveBack a1 a2 G Q) : Tn W0 FX6_giveBack [rf (938), rf (a1), cI (a2)] G (fun r G => r = 7 ∧ Q 0 G) := by
  unfold FX6_giveBack
  refine g_ent (lv' := [rf (938), rf (a1), cI (a2)]) (flR (flR (flI fl0))) (Nat.le_of_ble_eq_true rfl) rfl ?_
  exact TX6_giveBack_0 ha2 h
def PX6_staticOne_54 (l1 : Int) (l2 : Int) (l3 : Int) (l4 : Int) (G : gS) (Q : Int → gS → Prop) : Prop :=
  Q (1) G
set_option maxRecDepth 20000 in
theorem TX6_staticOne_54 {l1 : Int} {l2 : Int} {l3 : Int} {l4 : Int} {G : gS} {Q : Int → gS → Prop} (hl1 : inI l1) (hl2 : inI l2) (hl3 : inI l3) (hl4 : inI l4) (h : PX6_staticOne_54 l1 l2 l3 l4 G Q) : Tg W0 vX6_staticOne_54 [rf (938), cI (l1), cI (l2), cI (l3), cI (l4)] [] G (fun r G => ∃ v, r = cI v ∧ (0 ≤ v ∧ v ≤ 1) ∧ Q v G) := by
  unfold PX6_staticOne_54 at h
  unfold vX6_staticOne_54
  refine g_const (v := cI (1)) rfl ?_
  exact g_ret1 (is_Z (by omega)) ⟨_, rfl, (by omega), h⟩
def PX6_staticOne_23 (l1 : Int) (l2 : Int) (l3 : Int) (l4 : Int) (G : gS) (Q : Int → gS → Prop) : Prop :=
  Q (1) G
set_option maxRecDepth 20000 in
theorem TX6_staticOne_23 {l1 : Int} {l2 : Int} {l3 : Int} {l4 : Int} {G : gS} {Q : Int → gS → Prop} (hl1 : inI l1) (hl2 : inI l2) (hl3 : inI l3) (hl4 : inI l4) (h : PX6_staticOne_23 l1 l2 l3 l4 G Q) : Tg W0 vX6_staticOne_23 [rf (938), cI (l1), cI (l2), cI (l3), cI (l4)] [] G (fun r G => ∃ v, r = cI v ∧ (0 ≤ v ∧ v ≤ 1) ∧ Q v G) := by
  unfold PX6_staticOne_23 at h
  unfold vX6_staticOne_23
  refine g_const (v := cI (1)) rfl ?_
  exact g_ret1 (is_Z (by omega)) ⟨_, rfl, (by omega), h⟩
def PX6_staticOne_0 (a1 : Int) (a2 : Int) (a3 : Int) (G : gS) (Q : Int → gS → Prop) : Prop :=
  (inI ((a2 * 20) + a3) ∧ (((a2 * 20) + a3 < 0 → PX6_staticOne_23 a1 a2 a3 ((a2 * 20) + a3) G Q) ∧ (¬ ((a2 * 20) + a3 < 0) → (((a2 * 20) + a3 < 1280 → ((a1 = 0 → ((0 : Int) ≤ (a2 * 20) + a3 ∧ (((a2 * 20) + a3 : Int) < 1280 ∧ (inI (G 983 ((a2 * 20) + a3)) → PX6_push (G 983 ((a2 * 20) + a3)) G (fun _ G8 => PX6_staticOne_54 a1 a2 a3 ((a2 * 20) + a3) G8 Q))))) ∧ (¬ (a1 = 0) → PX6_pop G (fun r11 G10 => inI r11 → ((0 : Int) ≤ (a2 * 20) + a3 ∧ (((a2 * 20) + a3 : Int) < 1280 ∧ (∀ G15 : gS, G15 = uG G10 983 ((a2 * 20) + a3) (r11) → PX6_staticOne_54 a1 a2 a3 ((a2 * 20) + a3) G15 Q))))))) ∧ (¬ ((a2 * 20) + a3 < 1280) → PX6_staticOne_23 a1 a2 a3 ((a2 * 20) + a3) G Q)))))
set_option maxRecDepth 20000 in
theorem TX6_staticOne_0 {a1 : Int} {a2 : Int} {a3 : Int} {G : gS} {Q : Int → gS → Prop} (ha1 : inI a1) (ha2 : inI a2) (ha3 : inI a3) (h : PX6_staticOne_0 a1 a2 a3 G Q) : Tg W0 vX6_staticOne_0 [rf (938), cI (a1), cI (a2), cI (a3), 7] [] G (fun r G => ∃ v, r = cI v ∧ (0 ≤ v ∧ v ≤ 1) ∧ Q v G) := by
  unfold PX6_staticOne_0 at h
  unfold vX6_staticOne_0
  refine g_ld (v := cI _) rfl (is_I _) ?_
  refine g_const (v := cI (20)) rfl ?_
  refine g_mul ?_
  refine g_ld (v := cI _) rfl (is_I _) ?_
  refine g_add ?_
  refine g_st (lv' := [_, _, _, _, _]) (is_I _) (Nat.le_of_ble_eq_true rfl) (Or.inr (n1_I _)) rfl ?_
  obtain ⟨q1, h⟩ := h
  refine g_ld (v := cI _) rfl (is_I _) ?_
  refine g_lt1 q1 (fun b2 => ?_) (fun b2 => ?_)
  · replace h := h.1 b2
    exact TX6_staticOne_23 ha1 ha2 ha3 q1 h
  · replace h := h.2 b2
    unfold vX6_staticOne_13
    refine g_ld (v := cI _) rfl (is_I _) ?_
    refine g_ld (v := rf _) rfl (is_R _) ?_
    refine g_getF (v := 983) oC6 (hC6_13) rfl (Nat.le_of_ble_eq_true rfl) (Nat.le_of_ble_eq_true rfl) ?_
    refine g_alen aC983 ?_
    refine g_lt2 q1 ⟨by omega, by omega⟩ (fun b3 => ?_) (fun b3 => ?_)
    · replace h := h.1 b3
      unfold vX6_staticOne_25
      refine g_ld (v := cI _) rfl (is_I _) ?_
      refine g_eq1 ha1 (fun b4 => ?_) (fun b4 => ?_)
      · replace h := h.1 b4
        unfold vX6_staticOne_43
        refine g_ld (v := rf _) rfl (is_R _) ?_
        refine g_ld (v := rf _) rfl (is_R _) ?_
        refine g_getF (v := 983) oC6 (hC6_13) rfl (Nat.le_of_ble_eq_true rfl) (Nat.le_of_ble_eq_true rfl) ?_
        refine g_ld (v := cI _) rfl (is_I _) ?_
        obtain ⟨q5, q6, h⟩ := h
        refine g_aldI aC983 q5 q6 rfl fun i7 => ?_
        replace h := h i7
        refine g_callV (As := [_]) (ci := 6) oC6 (fun _ => rfl) ?_
        refine g_go0 (Nat.le_of_ble_eq_true rfl) (Tn_w (TX6_push i7 h) fun _ G8 ⟨e, h⟩ => ⟨e, ?_⟩)
        exact TX6_staticOne_54 ha1 ha2 ha3 q1 h
      · replace h := h.2 b4
        unfold vX6_staticOne_29
        refine g_ld (v := rf _) rfl (is_R _) ?_
        refine g_getF (v := 983) oC6 (hC6_13) rfl (Nat.le_of_ble_eq_true rfl) (Nat.le_of_ble_eq_true rfl) ?_
        refine g_ld (v := cI _) rfl (is_I _) ?_
        refine g_ld (v := rf _) rfl (is_R _) ?_
        refine g_callV (As := []) (ci := 6) oC6 (fun _ => rfl) ?_
        refine g_go1 (by simp only [cs_c, cs_0, ct_I, ct_L, ct_R]; exact Nat.le_of_ble_eq_true rfl) (Tn_w (TX6_pop  h) fun _ G10 ⟨r11, e, i12, h⟩ => ?_)
        subst e
        refine ⟨n7_I _, ?_⟩
        replace h := h i12
        obtain ⟨q13, q14, h⟩ := h
        refine g_astI aC983 q13 q14 i12 (nfI aC983) ?_
        replace h := h _ rfl
        exact TX6_staticOne_54 ha1 ha2 ha3 q1 h
    · replace h := h.2 b3
      exact TX6_staticOne_23 ha1 ha2 ha3 q1 h
abbrev PX6_staticOne (a1 : Int) (a2 : Int) (a3 : Int) (G : gS) (Q : Int → gS → Prop) : Prop := PX6_staticOne_0 a1 a2 a3 G Q
theorem TX6_staticOne {a1 : Int} {a2 : Int} {a3 : Int} {G : gS} {Q : Int → gS → Prop} (ha1 : inI a1) (ha2 : inI a2) (ha3 : inI a3) (h : PX6_staticOne a1 a2 a3 G Q) : Tn W0 FX6_staticOne [rf (938), cI (a1), cI (a2), cI (a3)] G (fun r G => ∃ v, r = cI v ∧ (0 ≤ v ∧ v ≤ 1) ∧ Q v G) := by
  unfold FX6_staticOne
  refine g_ent (lv' := [rf (938), cI (a1), cI (a2), cI (a3), 7]) (flR (flI (flI (flI fl0)))) (Nat.le_of_ble_eq_true rfl) rfl ?_
  exact TX6_staticOne_0 ha1 ha2 ha3 h
end DE

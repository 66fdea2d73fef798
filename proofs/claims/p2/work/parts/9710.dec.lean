section DE
def PX10_clear_0 (o : Int) (a1 : Int) (G : gS) (Q : Int → gS → Prop) : Prop :=
  (isO W0 10 (o) ∧ ((a1 = -1 ∨ isO W0 1 (a1)) ∧ (∀ G3 : gS, G3 = uG G o 0 (a1) → (∀ G4 : gS, G4 = uG G3 o 1 (-4) → (∀ G5 : gS, G5 = uG G4 o 2 (0) → (∀ G6 : gS, G6 = uG G5 o 3 (0) → (∀ G7 : gS, G7 = uG G6 o 4 (0) → (∀ G8 : gS, G8 = uG G7 o 5 (0) → (∀ G9 : gS, G9 = uG G8 o 6 (0) → (∀ G10 : gS, G10 = uG G9 o 7 (0) → (∀ G11 : gS, G11 = uG G10 o 8 (-4031174665287237632) → (∀ G12 : gS, G12 = uG G11 o 9 (-4) → PJ7_fill_53178 (o + 2) 0 G12 (fun _ G13 => (∀ G15 : gS, G15 = uG G13 o 13 (0) → (∀ G16 : gS, G16 = uG G15 o 15 (0) → (∀ G17 : gS, G17 = uG G16 o 16 (0) → (∀ G18 : gS, G18 = uG G17 o 17 (0) → (∀ G19 : gS, G19 = uG G18 o 18 (-1) → (∀ G20 : gS, G20 = uG G19 o 19 (0) → (∀ G21 : gS, G21 = uG G20 o 20 (0) → Q 0 G21))))))))))))))))))))
set_option maxRecDepth 20000 in
theorem TX10_clear_0 {o : Int} {a1 : Int} {G : gS} {Q : Int → gS → Prop}  (h : PX10_clear_0 o a1 G Q) : Tg W0 vX10_clear_0 [rf (o), rf (a1)] [] G (fun r G => r = 7 ∧ Q 0 G) := by
  unfold PX10_clear_0 at h
  unfold vX10_clear_0
  refine g_ld (v := rf _) rfl (is_R _) ?_
  refine g_ld (v := rf _) rfl (is_R _) ?_
  obtain ⟨q1, h⟩ := h
  obtain ⟨q2, h⟩ := h
  refine g_putR (kz := 0) (c := 1) q1 rfl (Nat.le_of_ble_eq_true rfl) rfl (by decide) q2 (nf10_0 q1) ?_
  replace h := h _ rfl
  refine g_ld (v := rf _) rfl (is_R _) ?_
  refine g_const (v := cL (-4)) rfl ?_
  refine g_putL (kz := 1) q1 rfl (Nat.le_of_ble_eq_true rfl) rfl ⟨by omega, by omega⟩ (nf10_1 q1) ?_
  replace h := h _ rfl
  refine g_ld (v := rf _) rfl (is_R _) ?_
  refine g_const (v := cI (0)) rfl ?_
  refine g_putI (kz := 2) q1 rfl (Nat.le_of_ble_eq_true rfl) rfl ⟨by omega, by omega⟩ (nf10_2 q1) ?_
  replace h := h _ rfl
  refine g_ld (v := rf _) rfl (is_R _) ?_
  refine g_const (v := cI (0)) rfl ?_
  refine g_putZ (kz := 3) q1 rfl (Nat.le_of_ble_eq_true rfl) rfl (by omega) (nf10_3 q1) ?_
  replace h := h _ rfl
  refine g_ld (v := rf _) rfl (is_R _) ?_
  refine g_const (v := cI (0)) rfl ?_
  refine g_putZ (kz := 4) q1 rfl (Nat.le_of_ble_eq_true rfl) rfl (by omega) (nf10_4 q1) ?_
  replace h := h _ rfl
  refine g_ld (v := rf _) rfl (is_R _) ?_
  refine g_const (v := cI (0)) rfl ?_
  refine g_putZ (kz := 5) q1 rfl (Nat.le_of_ble_eq_true rfl) rfl (by omega) (nf10_5 q1) ?_
  replace h := h _ rfl
  refine g_ld (v := rf _) rfl (is_R _) ?_
  refine g_const (v := cI (0)) rfl ?_
  refine g_putZ (kz := 6) q1 rfl (Nat.le_of_ble_eq_true rfl) rfl (by omega) (nf10_6 q1) ?_
  replace h := h _ rfl
  refine g_ld (v := rf _) rfl (is_R _) ?_
  refine g_const (v := cI (0)) rfl ?_
  refine g_putZ (kz := 7) q1 rfl (Nat.le_of_ble_eq_true rfl) rfl (by omega) (nf10_7 q1) ?_
  replace h := h _ rfl
  unfold vX10_clear_42
  refine g_ld (v := rf _) rfl (is_R _) ?_
  refine g_const (v := cL (-4031174665287237632)) rfl ?_
  refine g_putL (kz := 8) q1 rfl (Nat.le_of_ble_eq_true rfl) rfl ⟨by omega, by omega⟩ (nf10_8 q1) ?_
  replace h := h _ rfl
  refine g_ld (v := rf _) rfl (is_R _) ?_
  refine g_const (v := cL (-4)) rfl ?_
  refine g_putL (kz := 9) q1 rfl (Nat.le_of_ble_eq_true rfl) rfl ⟨by omega, by omega⟩ (nf10_9 q1) ?_
  replace h := h _ rfl
  refine g_ld (v := rf _) rfl (is_R _) ?_
  refine g_getF q1 (ff10_11 q1).1 rfl (Nat.le_of_ble_eq_true rfl) (Nat.le_of_ble_eq_true rfl) ?_
  refine g_const (v := cI (0)) rfl ?_
  refine g_callS (As := [_, _]) (fun _ => rfl) ?_
  refine g_go0 (Nat.le_of_ble_eq_true rfl) (Tn_w (TJ7_fill_53178 ⟨by omega, by omega⟩ h) fun _ G13 ⟨e, h⟩ => ⟨e, ?_⟩)
  refine g_ld (v := rf _) rfl (is_R _) ?_
  refine g_const (v := cI (0)) rfl ?_
  refine g_putI (kz := 13) q1 rfl (Nat.le_of_ble_eq_true rfl) rfl ⟨by omega, by omega⟩ (nf10_13 q1) ?_
  replace h := h _ rfl
  refine g_ld (v := rf _) rfl (is_R _) ?_
  refine g_const (v := cI (0)) rfl ?_
  refine g_putI (kz := 15) q1 rfl (Nat.le_of_ble_eq_true rfl) rfl ⟨by omega, by omega⟩ (nf10_15 q1) ?_
  replace h := h _ rfl
  refine g_ld (v := rf _) rfl (is_R _) ?_
  refine g_const (v := cI (0)) rfl ?_
  refine g_putI (kz := 16) q1 rfl (Nat.le_of_ble_eq_true rfl) rfl ⟨by omega, by omega⟩ (nf10_16 q1) ?_
  replace h := h _ rfl
  refine g_ld (v := rf _) rfl (is_R _) ?_
  refine g_const (v := cI (0)) rfl ?_
  refine g_putI (kz := 17) q1 rfl (Nat.le_of_ble_eq_true rfl) rfl ⟨by omega, by omega⟩ (nf10_17 q1) ?_
  replace h := h _ rfl
  refine g_ld (v := rf _) rfl (is_R _) ?_
  refine g_const (v := rf (-1)) rfl ?_
  unfold vX10_clear_86
  refine g_putR (kz := 18) (c := 7) q1 rfl (Nat.le_of_ble_eq_true rfl) rfl (by decide) (Or.inl rfl) (nf10_18 q1) ?_
  replace h := h _ rfl
  refine g_ld (v := rf _) rfl (is_R _) ?_
  refine g_const (v := cI (0)) rfl ?_
  refine g_putI (kz := 19) q1 rfl (Nat.le_of_ble_eq_true rfl) rfl ⟨by omega, by omega⟩ (nf10_19 q1) ?_
  replace h := h _ rfl
  refine g_ld (v := rf _) rfl (is_R _) ?_
  refine g_const (v := cI (0)) rfl ?_
  refine g_putI (kz := 20) q1 rfl (Nat.le_of_ble_eq_true rfl) rfl ⟨by omega, by omega⟩ (nf10_20 q1) ?_
  replace h := h _ rfl
  exact g_ret0 ⟨rfl, h⟩
abbrev PX10_clear (o : Int) (a1 : Int) (G : gS) (Q : Int → gS → Prop) : Prop := PX10_clear_0 o a1 G Q
theorem TX10_clear {o : Int} {a1 : Int} {G : gS} {Q : Int → gS → Prop}  (h : PX10_clear o a1 G Q) : Tn W0 FX10_clear [rf (o), rf (a1)] G (fun r G => r = 7 ∧ Q 0 G) := by
  unfold FX10_clear
  refine g_ent (lv' := [rf (o), rf (a1)]) (flR (flR fl0)) (Nat.le_of_ble_eq_true rfl) rfl ?_
  exact TX10_clear_0  h
def PX1_newRow_0 (o : Int) (G : gS) (Q : Int → gS → Prop) : Prop :=
  (isO W0 1 (o) ∧ (inI (G o 3) → (((G o 2 = -1 ∨ ∃ n, isA W0 4 n (G o 2)) ∧ ∀ v, W0.2 o 2 = some v → G o 2 = v) → (∃ n4, isA W0 4 n4 (G o 2) ∧ (inI (n4) ∧ ((G o 3 < n4 → (((G o 2 = -1 ∨ ∃ n, isA W0 4 n (G o 2)) ∧ ∀ v, W0.2 o 2 = some v → G o 2 = v) → (inI (G o 3) → (∃ n10, isA W0 4 n10 (G o 2) ∧ ((0 : Int) ≤ G o 3 ∧ ((G o 3 : Int) < n10 ∧ (((G (G o 2) (G o 3) = -1 ∨ isO W0 10 (G (G o 2) (G o 3))) ∧ ∀ v, W0.2 (G o 2) (G o 3) = some v → G (G o 2) (G o 3) = v) → (inI (G o 3) → (inI ((G o 3) + 1) ∧ (∀ G17 : gS, G17 = uG G o 3 ((G o 3) + 1) → (isO W0 10 (G (G o 2) (G o 3)) ∧ PX10_clear (G (G o 2) (G o 3)) o G17 (fun _ G19 => Q (G (G o 2) (G o 3)) G19)))))))))))) ∧ (¬ (G o 3 < n4) → Q (-1) G)))))))
set_option maxRecDepth 20000 in
theorem TX1_newRow_0 {o : Int} {G : gS} {Q : Int → gS → Prop}  (h : PX1_newRow_0 o G Q) : Tg W0 vX1_newRow_0 [rf (o), 7] [] G (fun r G => ∃ v, r = rf v ∧ Q v G) := by
  unfold PX1_newRow_0 at h
  unfold vX1_newRow_0
  refine g_ld (v := rf _) rfl (is_R _) ?_
  obtain ⟨q1, h⟩ := h
  refine g_getI (kz := 3) q1 rfl (Nat.le_of_ble_eq_true rfl) rfl fun i2 => ?_
  replace h := h i2
  refine g_ld (v := rf _) rfl (is_R _) ?_
  refine g_getAF (kz := 2) (c := 4) q1 rfl (Nat.le_of_ble_eq_true rfl) rfl fun i3 => ?_
  replace h := h i3
  obtain ⟨n4, q5, h⟩ := h
  refine g_alen q5 ?_
  obtain ⟨q6, h⟩ := h
  refine g_lt2 i2 q6 (fun b7 => ?_) (fun b7 => ?_)
  · replace h := h.1 b7
    unfold vX1_newRow_14
    refine g_ld (v := rf _) rfl (is_R _) ?_
    refine g_getAF (kz := 2) (c := 4) q1 rfl (Nat.le_of_ble_eq_true rfl) rfl fun i8 => ?_
    replace h := h i8
    refine g_ld (v := rf _) rfl (is_R _) ?_
    refine g_getI (kz := 3) q1 rfl (Nat.le_of_ble_eq_true rfl) rfl fun i9 => ?_
    replace h := h i9
    obtain ⟨n10, q11, h⟩ := h
    obtain ⟨q12, q13, h⟩ := h
    refine g_aldRF (c := 10) q11 q12 q13 rfl (by decide) fun i14 => ?_
    replace h := h i14
    refine g_st (lv' := [_, _]) (is_R _) (Nat.le_of_ble_eq_true rfl) (Or.inr (n1_R _)) rfl ?_
    refine g_ld (v := rf _) rfl (is_R _) ?_
    refine g_dup (ct_R _) ?_
    refine g_getI (kz := 3) q1 rfl (Nat.le_of_ble_eq_true rfl) rfl fun i15 => ?_
    replace h := h i15
    refine g_const (v := cI (1)) rfl ?_
    refine g_add ?_
    obtain ⟨q16, h⟩ := h
    refine g_putI (kz := 3) q1 rfl (Nat.le_of_ble_eq_true rfl) rfl q16 (nf1_3 q1) ?_
    replace h := h _ rfl
    refine g_ld (v := rf _) rfl (is_R _) ?_
    refine g_ld (v := rf _) rfl (is_R _) ?_
    obtain ⟨q18, h⟩ := h
    refine g_callV (As := [_]) (ci := 10) q18 (fun _ => rfl) ?_
    refine g_go0 (Nat.le_of_ble_eq_true rfl) (Tn_w (TX10_clear  h) fun _ G19 ⟨e, h⟩ => ⟨e, ?_⟩)
    refine g_ld (v := rf _) rfl (is_R _) ?_
    exact g_ret1 (is_R _) ⟨_, rfl, h⟩
  · replace h := h.2 b7
    unfold vX1_newRow_12
    refine g_const (v := rf (-1)) rfl ?_
    exact g_ret1 (is_R _) ⟨_, rfl, h⟩
abbrev PX1_newRow (o : Int) (G : gS) (Q : Int → gS → Prop) : Prop := PX1_newRow_0 o G Q
theorem TX1_newRow {o : Int} {G : gS} {Q : Int → gS → Prop}  (h : PX1_newRow o G Q) : Tn W0 FX1_newRow [rf (o)] G (fun r G => ∃ v, r = rf v ∧ Q v G) := by
  unfold FX1_newRow
  refine g_ent (lv' := [rf (o), 7]) (flR fl0) (Nat.le_of_ble_eq_true rfl) rfl ?_
  exact TX1_newRow_0  h
def PX7_clear_0 (o : Int) (G : gS) (Q : Int → gS → Prop) : Prop :=
  (isO W0 7 (o) ∧ (∀ G2 : gS, G2 = uG G o 0 (0) → (∀ G3 : gS, G3 = uG G2 o 1 (1) → (∀ G4 : gS, G4 = uG G3 o 2 (0) → (∀ G5 : gS, G5 = uG G4 o 3 (0) → (∀ G6 : gS, G6 = uG G5 o 4 (0) → (∀ G7 : gS, G7 = uG G6 o 5 (0) → (∀ G8 : gS, G8 = uG G7 o 6 (0) → (∀ G9 : gS, G9 = uG G8 o 7 (-4) → (∀ G10 : gS, G10 = uG G9 o 8 (-3) → (∀ G11 : gS, G11 = uG G10 o 9 (0) → PJ7_fill_d0a16 (o + 1) (-4) G11 (fun _ G12 => (∀ G14 : gS, G14 = uG G12 o 11 (0) → (∀ G15 : gS, G15 = uG G14 o 12 (0) → (∀ G16 : gS, G16 = uG G15 o 13 (0) → (∀ G17 : gS, G17 = uG G16 o 14 (-1) → (∀ G18 : gS, G18 = uG G17 o 15 (0) → (∀ G19 : gS, G19 = uG G18 o 16 (0) → (∀ G20 : gS, G20 = uG G19 o 17 (0) → (∀ G21 : gS, G21 = uG G20 o 18 (0) → Q 0 G21))))))))))))))))))))
set_option maxRecDepth 20000 in
theorem TX7_clear_0 {o : Int} {G : gS} {Q : Int → gS → Prop}  (h : PX7_clear_0 o G Q) : Tg W0 vX7_clear_0 [rf (o)] [] G (fun r G => r = 7 ∧ Q 0 G) := by
  unfold PX7_clear_0 at h
  unfold vX7_clear_0
  refine g_ld (v := rf _) rfl (is_R _) ?_
  refine g_const (v := cI (0)) rfl ?_
  obtain ⟨q1, h⟩ := h
  refine g_putI (kz := 0) q1 rfl (Nat.le_of_ble_eq_true rfl) rfl ⟨by omega, by omega⟩ (nf7_0 q1) ?_
  replace h := h _ rfl
  refine g_ld (v := rf _) rfl (is_R _) ?_
  refine g_const (v := cI (1)) rfl ?_
  refine g_putI (kz := 1) q1 rfl (Nat.le_of_ble_eq_true rfl) rfl ⟨by omega, by omega⟩ (nf7_1 q1) ?_
  replace h := h _ rfl
  refine g_ld (v := rf _) rfl (is_R _) ?_
  refine g_const (v := cI (0)) rfl ?_
  refine g_putZ (kz := 2) q1 rfl (Nat.le_of_ble_eq_true rfl) rfl (by omega) (nf7_2 q1) ?_
  replace h := h _ rfl
  refine g_ld (v := rf _) rfl (is_R _) ?_
  refine g_const (v := cI (0)) rfl ?_
  refine g_putZ (kz := 3) q1 rfl (Nat.le_of_ble_eq_true rfl) rfl (by omega) (nf7_3 q1) ?_
  replace h := h _ rfl
  refine g_ld (v := rf _) rfl (is_R _) ?_
  refine g_const (v := cI (0)) rfl ?_
  refine g_putZ (kz := 4) q1 rfl (Nat.le_of_ble_eq_true rfl) rfl (by omega) (nf7_4 q1) ?_
  replace h := h _ rfl
  refine g_ld (v := rf _) rfl (is_R _) ?_
  refine g_const (v := cI (0)) rfl ?_
  refine g_putZ (kz := 5) q1 rfl (Nat.le_of_ble_eq_true rfl) rfl (by omega) (nf7_5 q1) ?_
  replace h := h _ rfl
  refine g_ld (v := rf _) rfl (is_R _) ?_
  refine g_const (v := cI (0)) rfl ?_
  refine g_putZ (kz := 6) q1 rfl (Nat.le_of_ble_eq_true rfl) rfl (by omega) (nf7_6 q1) ?_
  replace h := h _ rfl
  refine g_ld (v := rf _) rfl (is_R _) ?_
  refine g_const (v := cL (-4)) rfl ?_
  refine g_putL (kz := 7) q1 rfl (Nat.le_of_ble_eq_true rfl) rfl ⟨by omega, by omega⟩ (nf7_7 q1) ?_
  replace h := h _ rfl
  unfold vX7_clear_42
  refine g_ld (v := rf _) rfl (is_R _) ?_
  refine g_const (v := cL (-3)) rfl ?_
  refine g_putL (kz := 8) q1 rfl (Nat.le_of_ble_eq_true rfl) rfl ⟨by omega, by omega⟩ (nf7_8 q1) ?_
  replace h := h _ rfl
  refine g_ld (v := rf _) rfl (is_R _) ?_
  refine g_const (v := cI (0)) rfl ?_
  refine g_putI (kz := 9) q1 rfl (Nat.le_of_ble_eq_true rfl) rfl ⟨by omega, by omega⟩ (nf7_9 q1) ?_
  replace h := h _ rfl
  refine g_ld (v := rf _) rfl (is_R _) ?_
  refine g_getF q1 (ff7_10 q1).1 rfl (Nat.le_of_ble_eq_true rfl) (Nat.le_of_ble_eq_true rfl) ?_
  refine g_const (v := cL (-4)) rfl ?_
  refine g_callS (As := [_, _]) (fun _ => rfl) ?_
  refine g_go0 (Nat.le_of_ble_eq_true rfl) (Tn_w (TJ7_fill_d0a16 ⟨by omega, by omega⟩ h) fun _ G12 ⟨e, h⟩ => ⟨e, ?_⟩)
  refine g_ld (v := rf _) rfl (is_R _) ?_
  refine g_const (v := cI (0)) rfl ?_
  refine g_putI (kz := 11) q1 rfl (Nat.le_of_ble_eq_true rfl) rfl ⟨by omega, by omega⟩ (nf7_11 q1) ?_
  replace h := h _ rfl
  refine g_ld (v := rf _) rfl (is_R _) ?_
  refine g_const (v := cI (0)) rfl ?_
  refine g_putI (kz := 12) q1 rfl (Nat.le_of_ble_eq_true rfl) rfl ⟨by omega, by omega⟩ (nf7_12 q1) ?_
  replace h := h _ rfl
  refine g_ld (v := rf _) rfl (is_R _) ?_
  refine g_const (v := cI (0)) rfl ?_
  refine g_putI (kz := 13) q1 rfl (Nat.le_of_ble_eq_true rfl) rfl ⟨by omega, by omega⟩ (nf7_13 q1) ?_
  replace h := h _ rfl
  refine g_ld (v := rf _) rfl (is_R _) ?_
  refine g_const (v := rf (-1)) rfl ?_
  refine g_putR (kz := 14) (c := 8) q1 rfl (Nat.le_of_ble_eq_true rfl) rfl (by decide) (Or.inl rfl) (nf7_14 q1) ?_
  replace h := h _ rfl
  refine g_ld (v := rf _) rfl (is_R _) ?_
  refine g_const (v := cI (0)) rfl ?_
  unfold vX7_clear_86
  refine g_putZ (kz := 15) q1 rfl (Nat.le_of_ble_eq_true rfl) rfl (by omega) (nf7_15 q1) ?_
  replace h := h _ rfl
  refine g_ld (v := rf _) rfl (is_R _) ?_
  refine g_const (v := cI (0)) rfl ?_
  refine g_putI (kz := 16) q1 rfl (Nat.le_of_ble_eq_true rfl) rfl ⟨by omega, by omega⟩ (nf7_16 q1) ?_
  replace h := h _ rfl
  refine g_ld (v := rf _) rfl (is_R _) ?_
  refine g_const (v := cI (0)) rfl ?_
  refine g_putI (kz := 17) q1 rfl (Nat.le_of_ble_eq_true rfl) rfl ⟨by omega, by omega⟩ (nf7_17 q1) ?_
  replace h := h _ rfl
  refine g_ld (v := rf _) rfl (is_R _) ?_
  refine g_const (v := cI (0)) rfl ?_
  refine g_putI (kz := 18) q1 rfl (Nat.le_of_ble_eq_true rfl) rfl ⟨by omega, by omega⟩ (nf7_18 q1) ?_
  replace h := h _ rfl
  exact g_ret0 ⟨rfl, h⟩
abbrev PX7_clear (o : Int) (G : gS) (Q : Int → gS → Prop) : Prop := PX7_clear_0 o G Q
theorem TX7_clear {o : Int} {G : gS} {Q : Int → gS → Prop}  (h : PX7_clear o G Q) : Tn W0 FX7_clear [rf (o)] G (fun r G => r = 7 ∧ Q 0 G) := by
  unfold FX7_clear
  refine g_ent (lv' := [rf (o)]) (flR fl0) (Nat.le_of_ble_eq_true rfl) rfl ?_
  exact TX7_clear_0  h
def PX1_newMember_23 (o : Int) (G : gS) (Q : Int → gS → Prop) : Prop :=
  (isO W0 1 (o) ∧ (((G o 4 = -1 ∨ ∃ n, isA W0 5 n (G o 4)) ∧ ∀ v, W0.2 o 4 = some v → G o 4 = v) → (inI (G o 5) → (∃ n16, isA W0 5 n16 (G o 4) ∧ ((0 : Int) ≤ G o 5 ∧ ((G o 5 : Int) < n16 ∧ (((G (G o 4) (G o 5) = -1 ∨ isO W0 7 (G (G o 4) (G o 5))) ∧ ∀ v, W0.2 (G o 4) (G o 5) = some v → G (G o 4) (G o 5) = v) → (inI (G o 5) → (inI ((G o 5) + 1) ∧ (∀ G23 : gS, G23 = uG G o 5 ((G o 5) + 1) → (isO W0 7 (G (G o 4) (G o 5)) ∧ PX7_clear (G (G o 4) (G o 5)) G23 (fun _ G25 => Q (G (G o 4) (G o 5)) G25))))))))))))
set_option maxRecDepth 20000 in
theorem TX1_newMember_23 {o : Int} {l1 : Nat} {G : gS} {Q : Int → gS → Prop} (hl1 : l1 % 8 ≠ 1) (h : PX1_newMember_23 o G Q) : Tg W0 vX1_newMember_23 [rf (o), l1] [] G (fun r G => ∃ v, r = rf v ∧ Q v G) := by
  unfold PX1_newMember_23 at h
  unfold vX1_newMember_23
  refine g_ld (v := rf _) rfl (is_R _) ?_
  obtain ⟨q13, h⟩ := h
  refine g_getAF (kz := 4) (c := 5) q13 rfl (Nat.le_of_ble_eq_true rfl) rfl fun i14 => ?_
  replace h := h i14
  refine g_ld (v := rf _) rfl (is_R _) ?_
  refine g_getI (kz := 5) q13 rfl (Nat.le_of_ble_eq_true rfl) rfl fun i15 => ?_
  replace h := h i15
  obtain ⟨n16, q17, h⟩ := h
  obtain ⟨q18, q19, h⟩ := h
  refine g_aldRF (c := 7) q17 q18 q19 rfl (by decide) fun i20 => ?_
  replace h := h i20
  refine g_st (lv' := [_, _]) (is_R _) (Nat.le_of_ble_eq_true rfl) (Or.inr (n1_R _)) rfl ?_
  refine g_ld (v := rf _) rfl (is_R _) ?_
  refine g_dup (ct_R _) ?_
  refine g_getI (kz := 5) q13 rfl (Nat.le_of_ble_eq_true rfl) rfl fun i21 => ?_
  replace h := h i21
  refine g_const (v := cI (1)) rfl ?_
  refine g_add ?_
  obtain ⟨q22, h⟩ := h
  refine g_putI (kz := 5) q13 rfl (Nat.le_of_ble_eq_true rfl) rfl q22 (nf1_5 q13) ?_
  replace h := h _ rfl
  refine g_ld (v := rf _) rfl (is_R _) ?_
  obtain ⟨q24, h⟩ := h
  refine g_callV (As := []) (ci := 7) q24 (fun _ => rfl) ?_
  refine g_go0 (Nat.le_of_ble_eq_true rfl) (Tn_w (TX7_clear  h) fun _ G25 ⟨e, h⟩ => ⟨e, ?_⟩)
  refine g_ld (v := rf _) rfl (is_R _) ?_
  exact g_ret1 (is_R _) ⟨_, rfl, h⟩
def PX1_newMember_0 (o : Int) (G : gS) (Q : Int → gS → Prop) : Prop :=
  (isO W0 1 (o) ∧ (inI (G o 5) → (((G o 4 = -1 ∨ ∃ n, isA W0 5 n (G o 4)) ∧ ∀ v, W0.2 o 4 = some v → G o 4 = v) → (∃ n4, isA W0 5 n4 (G o 4) ∧ (inI (n4) ∧ ((G o 5 < n4 → PX1_newMember_23 o G Q) ∧ (¬ (G o 5 < n4) → (((G o 4 = -1 ∨ ∃ n, isA W0 5 n (G o 4)) ∧ ∀ v, W0.2 o 4 = some v → G o 4 = v) → (∃ n9, isA W0 5 n9 (G o 4) ∧ (inI (n9 - 1) ∧ (∀ G12 : gS, G12 = uG G o 5 (n9 - 1) → PX1_newMember_23 o G12 Q)))))))))))
set_option maxRecDepth 20000 in
theorem TX1_newMember_0 {o : Int} {G : gS} {Q : Int → gS → Prop}  (h : PX1_newMember_0 o G Q) : Tg W0 vX1_newMember_0 [rf (o), 7] [] G (fun r G => ∃ v, r = rf v ∧ Q v G) := by
  unfold PX1_newMember_0 at h
  unfold vX1_newMember_0
  refine g_ld (v := rf _) rfl (is_R _) ?_
  obtain ⟨q1, h⟩ := h
  refine g_getI (kz := 5) q1 rfl (Nat.le_of_ble_eq_true rfl) rfl fun i2 => ?_
  replace h := h i2
  refine g_ld (v := rf _) rfl (is_R _) ?_
  refine g_getAF (kz := 4) (c := 5) q1 rfl (Nat.le_of_ble_eq_true rfl) rfl fun i3 => ?_
  replace h := h i3
  obtain ⟨n4, q5, h⟩ := h
  refine g_alen q5 ?_
  obtain ⟨q6, h⟩ := h
  refine g_lt2 i2 q6 (fun b7 => ?_) (fun b7 => ?_)
  · replace h := h.1 b7
    exact TX1_newMember_23 (show 7 % 8 ≠ 1 by decide) h
  · replace h := h.2 b7
    unfold vX1_newMember_12
    refine g_ld (v := rf _) rfl (is_R _) ?_
    refine g_ld (v := rf _) rfl (is_R _) ?_
    refine g_getAF (kz := 4) (c := 5) q1 rfl (Nat.le_of_ble_eq_true rfl) rfl fun i8 => ?_
    replace h := h i8
    obtain ⟨n9, q10, h⟩ := h
    refine g_alen q10 ?_
    refine g_const (v := cI (1)) rfl ?_
    refine g_sub ?_
    obtain ⟨q11, h⟩ := h
    refine g_putI (kz := 5) q1 rfl (Nat.le_of_ble_eq_true rfl) rfl q11 (nf1_5 q1) ?_
    replace h := h _ rfl
    exact TX1_newMember_23 (show 7 % 8 ≠ 1 by decide) h
abbrev PX1_newMember (o : Int) (G : gS) (Q : Int → gS → Prop) : Prop := PX1_newMember_0 o G Q
theorem TX1_newMember {o : Int} {G : gS} {Q : Int → gS → Prop}  (h : PX1_newMember o G Q) : Tn W0 FX1_newMember [rf (o)] G (fun r G => ∃ v, r = rf v ∧ Q v G) := by
  unfold FX1_newMember
  refine g_ent (lv' := [rf (o), 7]) (flR fl0) (Nat.le_of_ble_eq_true rfl) rfl ?_
  exact TX1_newMember_0  h
def PX3_openRow_220 (J : Nat → List Int → gS → (Int → gS → Prop) → Prop) (l1 : Int) (l2 : Int) (l3 : Int) (G : gS) (Q : Int → gS → Prop) : Prop :=
  ((G 820 2 = -1 ∨ isO W0 10 (G 820 2)) → (isO W0 10 (G 820 2) ∧ ((0 : Int) ≤ 0 ∧ ((0 : Int) < 3 ∧ (inI (G ((G 820 2) + 2) 0) → ((l3 < G ((G 820 2) + 2) 0 → ((G 820 2 = -1 ∨ isO W0 10 (G 820 2)) → (isO W0 10 (G 820 2) ∧ PX10_listedAt (G 820 2) 0 l3 G (fun r85 G84 => inL r85 → PX3_useOf 19 r85 (-1) (-4) G84 (fun r88 G87 => inI r88 → (inI (l3 + 1) ∧ J 1 [l1, l2, l3 + 1] G87 Q)))))) ∧ (¬ (l3 < G ((G 820 2) + 2) 0) → Q 0 G)))))))
set_option maxRecDepth 20000 in
theorem TX3_openRow_220 {j : Nat → rx_K} {J : Nat → List Int → gS → (Int → gS → Prop) → Prop} {l1 : Int} {l2 : Int} {l3 : Int} {l4 : Nat} {G : gS} {Q : Int → gS → Prop} (hl2 : inI l2) (hl3 : inI l3) (hl4 : l4 % 8 ≠ 1) (hj0 : ∀ (l1 : Int) (l2 : Int) (l3 : Int) (l4 : Nat) (G : gS), (inI l2) → (inI l3) → (l4 % 8 ≠ 1) → J 0 [l1, l2, l3] G Q → Tg W0 (j 0) [rf (820), rf (l1), cI (l2), cI (l3), l4] [] G (fun r G => r = 7 ∧ Q 0 G)) (hj1 : ∀ (l1 : Int) (l2 : Int) (l3 : Int) (l4 : Nat) (G : gS), (inI l2) → (inI l3) → (l4 % 8 ≠ 1) → J 1 [l1, l2, l3] G Q → Tg W0 (j 1) [rf (820), rf (l1), cI (l2), cI (l3), l4] [] G (fun r G => r = 7 ∧ Q 0 G)) (h : PX3_openRow_220 J l1 l2 l3 G Q) : Tg W0 (vX3_openRow_220 j) [rf (820), rf (l1), cI (l2), cI (l3), l4] [] G (fun r G => r = 7 ∧ Q 0 G) := by
  unfold PX3_openRow_220 at h
  unfold vX3_openRow_220
  refine g_ld (v := cI _) rfl (is_I _) ?_
  refine g_ld (v := rf _) rfl (is_R _) ?_
  refine g_getR (kz := 2) (c := 10) oC3 rfl (Nat.le_of_ble_eq_true rfl) rfl (by decide) fun i76 => ?_
  replace h := h i76
  obtain ⟨q77, h⟩ := h
  refine g_getF q77 (ff10_11 q77).1 rfl (Nat.le_of_ble_eq_true rfl) (Nat.le_of_ble_eq_true rfl) ?_
  refine g_const (v := cI (0)) rfl ?_
  obtain ⟨q78, q79, h⟩ := h
  refine g_aldI (ff10_11 q77).2 q78 q79 rfl fun i80 => ?_
  replace h := h i80
  refine g_lt2 hl3 i80 (fun b81 => ?_) (fun b81 => ?_)
  · replace h := h.1 b81
    unfold vX3_openRow_233
    refine g_ld (v := rf _) rfl (is_R _) ?_
    refine g_const (v := cI (19)) rfl ?_
    refine g_ld (v := rf _) rfl (is_R _) ?_
    refine g_getR (kz := 2) (c := 10) oC3 rfl (Nat.le_of_ble_eq_true rfl) rfl (by decide) fun i82 => ?_
    replace h := h i82
    refine g_const (v := cI (0)) rfl ?_
    refine g_ld (v := cI _) rfl (is_I _) ?_
    obtain ⟨q83, h⟩ := h
    refine g_callV (As := [_, _]) (ci := 10) q83 (fun _ => rfl) ?_
    refine g_go1 (by simp only [cs_c, cs_0, ct_I, ct_L, ct_R]; exact Nat.le_of_ble_eq_true rfl) (Tn_w (TX10_listedAt ⟨by omega, by omega⟩ hl3 h) fun _ G84 ⟨r85, e, i86, h⟩ => ?_)
    subst e
    refine ⟨n7_L _, ?_⟩
    replace h := h i86
    refine g_const (v := rf (-1)) rfl ?_
    refine g_const (v := cL (-4)) rfl ?_
    refine g_callV (As := [_, _, _, _]) (ci := 3) oC3 (fun _ => rfl) ?_
    refine g_go1 (Nat.le_of_ble_eq_true rfl) (Tn_w (TX3_useOf ⟨by omega, by omega⟩ i86 ⟨by omega, by omega⟩ h) fun _ G87 ⟨r88, e, i89, h⟩ => ?_)
    subst e
    refine ⟨n7_I _, ?_⟩
    replace h := h i89
    refine g_pop (ct_I _) ?_
    refine g_inc (lv' := [_, _, _, _, _]) rfl (Nat.le_of_ble_eq_true rfl) (Or.inr (n1_I _)) rfl ?_
    obtain ⟨q90, h⟩ := h
    exact hj1 _ _ _ _ _ hl2 q90 hl4 h
  · replace h := h.2 b81
    unfold vX3_openRow_259
    exact g_ret0 ⟨rfl, h⟩
def PX3_openRow_218 (J : Nat → List Int → gS → (Int → gS → Prop) → Prop) (l1 : Int) (l2 : Int) (l3 : Int) (G : gS) (Q : Int → gS → Prop) : Prop :=
  PX3_openRow_220 J l1 l2 0 G Q
set_option maxRecDepth 20000 in
theorem TX3_openRow_218 {j : Nat → rx_K} {J : Nat → List Int → gS → (Int → gS → Prop) → Prop} {l1 : Int} {l2 : Int} {l3 : Int} {l4 : Nat} {G : gS} {Q : Int → gS → Prop} (hl2 : inI l2) (hl3 : inI l3) (hl4 : l4 % 8 ≠ 1) (hj0 : ∀ (l1 : Int) (l2 : Int) (l3 : Int) (l4 : Nat) (G : gS), (inI l2) → (inI l3) → (l4 % 8 ≠ 1) → J 0 [l1, l2, l3] G Q → Tg W0 (j 0) [rf (820), rf (l1), cI (l2), cI (l3), l4] [] G (fun r G => r = 7 ∧ Q 0 G)) (hj1 : ∀ (l1 : Int) (l2 : Int) (l3 : Int) (l4 : Nat) (G : gS), (inI l2) → (inI l3) → (l4 % 8 ≠ 1) → J 1 [l1, l2, l3] G Q → Tg W0 (j 1) [rf (820), rf (l1), cI (l2), cI (l3), l4] [] G (fun r G => r = 7 ∧ Q 0 G)) (h : PX3_openRow_218 J l1 l2 l3 G Q) : Tg W0 (vX3_openRow_218 j) [rf (820), rf (l1), cI (l2), cI (l3), l4] [] G (fun r G => r = 7 ∧ Q 0 G) := by
  unfold PX3_openRow_218 at h
  unfold vX3_openRow_218
  refine g_const (v := cI (0)) rfl ?_
  refine g_st (lv' := [_, _, _, _, _]) (is_I _) (Nat.le_of_ble_eq_true rfl) (Or.inr (n1_I _)) rfl ?_
  exact TX3_openRow_220 hl2 ⟨by omega, by omega⟩ hl4 hj0 hj1 h
def PX3_openRow_184 (J : Nat → List Int → gS → (Int → gS → Prop) → Prop) (l1 : Int) (l2 : Int) (l3 : Int) (l4 : Int) (G : gS) (Q : Int → gS → Prop) : Prop :=
  (inI (l3 + 1) ∧ J 0 [l1, l2, l3 + 1] G Q)
set_option maxRecDepth 20000 in
theorem TX3_openRow_184 {j : Nat → rx_K} {J : Nat → List Int → gS → (Int → gS → Prop) → Prop} {l1 : Int} {l2 : Int} {l3 : Int} {l4 : Int} {G : gS} {Q : Int → gS → Prop} (hl2 : inI l2) (hl3 : inI l3) (hj0 : ∀ (l1 : Int) (l2 : Int) (l3 : Int) (l4 : Nat) (G : gS), (inI l2) → (inI l3) → (l4 % 8 ≠ 1) → J 0 [l1, l2, l3] G Q → Tg W0 (j 0) [rf (820), rf (l1), cI (l2), cI (l3), l4] [] G (fun r G => r = 7 ∧ Q 0 G)) (hj1 : ∀ (l1 : Int) (l2 : Int) (l3 : Int) (l4 : Nat) (G : gS), (inI l2) → (inI l3) → (l4 % 8 ≠ 1) → J 1 [l1, l2, l3] G Q → Tg W0 (j 1) [rf (820), rf (l1), cI (l2), cI (l3), l4] [] G (fun r G => r = 7 ∧ Q 0 G)) (h : PX3_openRow_184 J l1 l2 l3 l4 G Q) : Tg W0 (vX3_openRow_184 j) [rf (820), rf (l1), cI (l2), cI (l3), rf (l4)] [] G (fun r G => r = 7 ∧ Q 0 G) := by
  unfold PX3_openRow_184 at h
  unfold vX3_openRow_184
  refine g_inc (lv' := [_, _, _, _, _]) rfl (Nat.le_of_ble_eq_true rfl) (Or.inr (n1_I _)) rfl ?_
  obtain ⟨q68, h⟩ := h
  exact hj0 _ _ _ _ _ hl2 q68 (n1_R _) h
def PX3_openRow_180 (J : Nat → List Int → gS → (Int → gS → Prop) → Prop) (l1 : Int) (l2 : Int) (l3 : Int) (l4 : Int) (s0 : Int) (s1 : Int) (s2 : Int) (G : gS) (Q : Int → gS → Prop) : Prop :=
  (isO W0 10 (s0) ∧ (inI (s1 + s2) ∧ (∀ G93 : gS, G93 = uG G s0 20 (s1 + s2) → PX3_openRow_184 J l1 l2 l3 l4 G93 Q)))
set_option maxRecDepth 20000 in
theorem TX3_openRow_180 {j : Nat → rx_K} {J : Nat → List Int → gS → (Int → gS → Prop) → Prop} {l1 : Int} {l2 : Int} {l3 : Int} {l4 : Int} {s0 : Int} {s1 : Int} {s2 : Int} {G : gS} {Q : Int → gS → Prop} (hl2 : inI l2) (hl3 : inI l3) (hs1 : inI s1) (hs2 : inI s2) (hj0 : ∀ (l1 : Int) (l2 : Int) (l3 : Int) (l4 : Nat) (G : gS), (inI l2) → (inI l3) → (l4 % 8 ≠ 1) → J 0 [l1, l2, l3] G Q → Tg W0 (j 0) [rf (820), rf (l1), cI (l2), cI (l3), l4] [] G (fun r G => r = 7 ∧ Q 0 G)) (hj1 : ∀ (l1 : Int) (l2 : Int) (l3 : Int) (l4 : Nat) (G : gS), (inI l2) → (inI l3) → (l4 % 8 ≠ 1) → J 1 [l1, l2, l3] G Q → Tg W0 (j 1) [rf (820), rf (l1), cI (l2), cI (l3), l4] [] G (fun r G => r = 7 ∧ Q 0 G)) (h : PX3_openRow_180 J l1 l2 l3 l4 s0 s1 s2 G Q) : Tg W0 (vX3_openRow_180 j) [rf (820), rf (l1), cI (l2), cI (l3), rf (l4)] [cI (s2), cI (s1), rf (s0)] G (fun r G => r = 7 ∧ Q 0 G) := by
  unfold PX3_openRow_180 at h
  unfold vX3_openRow_180
  refine g_add ?_
  obtain ⟨q91, h⟩ := h
  obtain ⟨q92, h⟩ := h
  refine g_putI (kz := 20) q91 rfl (Nat.le_of_ble_eq_true rfl) rfl q92 (nf10_20 q91) ?_
  replace h := h _ rfl
  exact TX3_openRow_184 hl2 hl3 hj0 hj1 h
def PX3_openRow_157 (J : Nat → List Int → gS → (Int → gS → Prop) → Prop) (l1 : Int) (l2 : Int) (l3 : Int) (l4 : Int) (s0 : Int) (s1 : Int) (G : gS) (Q : Int → gS → Prop) : Prop :=
  (inI (s0 + s1) ∧ ((G 820 2 = -1 ∨ isO W0 10 (G 820 2)) → (isO W0 10 (G 820 2) ∧ (inI (G (G 820 2) 20) → (isO W0 7 (l4) ∧ ((0 ≤ G l4 2 ∧ G l4 2 ≤ 1) → ((G l4 2 = 0 → PX3_openRow_180 J l1 (s0 + s1) l3 l4 (G 820 2) (G (G 820 2) 20) 1 G Q) ∧ (¬ (G l4 2 = 0) → PX3_openRow_180 J l1 (s0 + s1) l3 l4 (G 820 2) (G (G 820 2) 20) 0 G Q))))))))
set_option maxRecDepth 20000 in
theorem TX3_openRow_157 {j : Nat → rx_K} {J : Nat → List Int → gS → (Int → gS → Prop) → Prop} {l1 : Int} {l2 : Int} {l3 : Int} {l4 : Int} {s0 : Int} {s1 : Int} {G : gS} {Q : Int → gS → Prop} (hl2 : inI l2) (hl3 : inI l3) (hs0 : inI s0) (hs1 : inI s1) (hj0 : ∀ (l1 : Int) (l2 : Int) (l3 : Int) (l4 : Nat) (G : gS), (inI l2) → (inI l3) → (l4 % 8 ≠ 1) → J 0 [l1, l2, l3] G Q → Tg W0 (j 0) [rf (820), rf (l1), cI (l2), cI (l3), l4] [] G (fun r G => r = 7 ∧ Q 0 G)) (hj1 : ∀ (l1 : Int) (l2 : Int) (l3 : Int) (l4 : Nat) (G : gS), (inI l2) → (inI l3) → (l4 % 8 ≠ 1) → J 1 [l1, l2, l3] G Q → Tg W0 (j 1) [rf (820), rf (l1), cI (l2), cI (l3), l4] [] G (fun r G => r = 7 ∧ Q 0 G)) (h : PX3_openRow_157 J l1 l2 l3 l4 s0 s1 G Q) : Tg W0 (vX3_openRow_157 j) [rf (820), rf (l1), cI (l2), cI (l3), rf (l4)] [cI (s1), cI (s0)] G (fun r G => r = 7 ∧ Q 0 G) := by
  unfold PX3_openRow_157 at h
  unfold vX3_openRow_157
  refine g_add ?_
  refine g_st (lv' := [_, _, _, _, _]) (is_I _) (Nat.le_of_ble_eq_true rfl) (Or.inr (n1_R _)) rfl ?_
  obtain ⟨q69, h⟩ := h
  refine g_ld (v := rf _) rfl (is_R _) ?_
  refine g_getR (kz := 2) (c := 10) oC3 rfl (Nat.le_of_ble_eq_true rfl) rfl (by decide) fun i70 => ?_
  replace h := h i70
  refine g_dup (ct_R _) ?_
  obtain ⟨q71, h⟩ := h
  refine g_getI (kz := 20) q71 rfl (Nat.le_of_ble_eq_true rfl) rfl fun i72 => ?_
  replace h := h i72
  refine g_ld (v := rf _) rfl (is_R _) ?_
  obtain ⟨q73, h⟩ := h
  refine g_getZ (kz := 2) q73 rfl (Nat.le_of_ble_eq_true rfl) rfl fun i74 => ?_
  replace h := h i74
  refine g_eq1 ⟨by omega, by omega⟩ (fun b75 => ?_) (fun b75 => ?_)
  · replace h := h.1 b75
    unfold vX3_openRow_179
    refine g_const (v := cI (1)) rfl ?_
    exact TX3_openRow_180 q69 hl3 i72 ⟨by omega, by omega⟩ hj0 hj1 h
  · replace h := h.2 b75
    unfold vX3_openRow_175
    refine g_const (v := cI (0)) rfl ?_
    exact TX3_openRow_180 q69 hl3 i72 ⟨by omega, by omega⟩ hj0 hj1 h
def PX3_openRow_140 (J : Nat → List Int → gS → (Int → gS → Prop) → Prop) (l1 : Int) (l2 : Int) (l3 : Int) (l4 : Int) (s0 : Int) (s1 : Int) (G : gS) (Q : Int → gS → Prop) : Prop :=
  (isO W0 7 (s0) ∧ (∀ G64 : gS, G64 = uG G s0 17 (s1) → (isO W0 7 (l4) ∧ ((0 ≤ G64 l4 2 ∧ G64 l4 2 ≤ 1) → ((G64 l4 2 = 0 → PX3_openRow_157 J l1 l2 l3 l4 l2 0 G64 Q) ∧ (¬ (G64 l4 2 = 0) → PX3_openRow_157 J l1 l2 l3 l4 l2 1 G64 Q))))))
set_option maxRecDepth 20000 in
theorem TX3_openRow_140 {j : Nat → rx_K} {J : Nat → List Int → gS → (Int → gS → Prop) → Prop} {l1 : Int} {l2 : Int} {l3 : Int} {l4 : Int} {s0 : Int} {s1 : Int} {G : gS} {Q : Int → gS → Prop} (hl2 : inI l2) (hl3 : inI l3) (hs1 : inI s1) (hj0 : ∀ (l1 : Int) (l2 : Int) (l3 : Int) (l4 : Nat) (G : gS), (inI l2) → (inI l3) → (l4 % 8 ≠ 1) → J 0 [l1, l2, l3] G Q → Tg W0 (j 0) [rf (820), rf (l1), cI (l2), cI (l3), l4] [] G (fun r G => r = 7 ∧ Q 0 G)) (hj1 : ∀ (l1 : Int) (l2 : Int) (l3 : Int) (l4 : Nat) (G : gS), (inI l2) → (inI l3) → (l4 % 8 ≠ 1) → J 1 [l1, l2, l3] G Q → Tg W0 (j 1) [rf (820), rf (l1), cI (l2), cI (l3), l4] [] G (fun r G => r = 7 ∧ Q 0 G)) (h : PX3_openRow_140 J l1 l2 l3 l4 s0 s1 G Q) : Tg W0 (vX3_openRow_140 j) [rf (820), rf (l1), cI (l2), cI (l3), rf (l4)] [cI (s1), rf (s0)] G (fun r G => r = 7 ∧ Q 0 G) := by
  unfold PX3_openRow_140 at h
  unfold vX3_openRow_140
  obtain ⟨q63, h⟩ := h
  refine g_putI (kz := 17) q63 rfl (Nat.le_of_ble_eq_true rfl) rfl hs1 (nf7_17 q63) ?_
  replace h := h _ rfl
  refine g_ld (v := cI _) rfl (is_I _) ?_
  refine g_ld (v := rf _) rfl (is_R _) ?_
  obtain ⟨q65, h⟩ := h
  refine g_getZ (kz := 2) q65 rfl (Nat.le_of_ble_eq_true rfl) rfl fun i66 => ?_
  replace h := h i66
  refine g_eq1 ⟨by omega, by omega⟩ (fun b67 => ?_) (fun b67 => ?_)
  · replace h := h.1 b67
    unfold vX3_openRow_156
    refine g_const (v := cI (0)) rfl ?_
    exact TX3_openRow_157 hl2 hl3 hl2 ⟨by omega, by omega⟩ hj0 hj1 h
  · replace h := h.2 b67
    unfold vX3_openRow_152
    refine g_const (v := cI (1)) rfl ?_
    exact TX3_openRow_157 hl2 hl3 hl2 ⟨by omega, by omega⟩ hj0 hj1 h
def PX3_openRow_89 (J : Nat → List Int → gS → (Int → gS → Prop) → Prop) (l1 : Int) (l2 : Int) (l3 : Int) (G : gS) (Q : Int → gS → Prop) : Prop :=
  ((G 820 2 = -1 ∨ isO W0 10 (G 820 2)) → (isO W0 10 (G 820 2) ∧ (inI (G (G 820 2) 15) → ((l3 < G (G 820 2) 15 → ((G 820 2 = -1 ∨ isO W0 10 (G 820 2)) → (isO W0 10 (G 820 2) ∧ ((0 : Int) ≤ l3 ∧ ((l3 : Int) < 33 ∧ (((G ((G 820 2) + 4) l3 = -1 ∨ isO W0 7 (G ((G 820 2) + 4) l3)) ∧ ∀ v, W0.2 ((G 820 2) + 4) l3 = some v → G ((G 820 2) + 4) l3 = v) → (isO W0 7 (G ((G 820 2) + 4) l3) ∧ (inI (G (G ((G 820 2) + 4) l3) 0) → ((G (G ((G 820 2) + 4) l3) 0 = 0 → ((0 ≤ G (G ((G 820 2) + 4) l3) 2 ∧ G (G ((G 820 2) + 4) l3) 2 ≤ 1) → ((G (G ((G 820 2) + 4) l3) 2 = 0 → ((G 820 2 = -1 ∨ isO W0 10 (G 820 2)) → (isO W0 10 (G 820 2) ∧ (inI (G (G 820 2) 20) → PX3_openRow_140 J l1 l2 l3 (G ((G 820 2) + 4) l3) (G ((G 820 2) + 4) l3) (G (G 820 2) 20) G Q)))) ∧ (¬ (G (G ((G 820 2) + 4) l3) 2 = 0) → PX3_openRow_140 J l1 l2 l3 (G ((G 820 2) + 4) l3) (G ((G 820 2) + 4) l3) l2 G Q)))) ∧ (¬ (G (G ((G 820 2) + 4) l3) 0 = 0) → PX3_openRow_184 J l1 l2 l3 (G ((G 820 2) + 4) l3) G Q)))))))))) ∧ (¬ (l3 < G (G 820 2) 15) → ((G 820 2 = -1 ∨ isO W0 10 (G 820 2)) → (isO W0 10 (G 820 2) ∧ ((0 ≤ G (G 820 2) 7 ∧ G (G 820 2) 7 ≤ 1) → ((G (G 820 2) 7 = 0 → PX3_openRow_218 J l1 l2 l3 G Q) ∧ (¬ (G (G 820 2) 7 = 0) → ((G 820 2 = -1 ∨ isO W0 10 (G 820 2)) → (isO W0 10 (G 820 2) ∧ (inL (G (G 820 2) 8) → PX3_useOf 18 (G (G 820 2) 8) (-1) (-4) G (fun r61 G60 => inI r61 → PX3_openRow_218 J l1 l2 l3 G60 Q))))))))))))))
set_option maxRecDepth 20000 in
theorem TX3_openRow_89 {j : Nat → rx_K} {J : Nat → List Int → gS → (Int → gS → Prop) → Prop} {l1 : Int} {l2 : Int} {l3 : Int} {l4 : Nat} {G : gS} {Q : Int → gS → Prop} (hl2 : inI l2) (hl3 : inI l3) (hl4 : l4 % 8 ≠ 1) (hj0 : ∀ (l1 : Int) (l2 : Int) (l3 : Int) (l4 : Nat) (G : gS), (inI l2) → (inI l3) → (l4 % 8 ≠ 1) → J 0 [l1, l2, l3] G Q → Tg W0 (j 0) [rf (820), rf (l1), cI (l2), cI (l3), l4] [] G (fun r G => r = 7 ∧ Q 0 G)) (hj1 : ∀ (l1 : Int) (l2 : Int) (l3 : Int) (l4 : Nat) (G : gS), (inI l2) → (inI l3) → (l4 % 8 ≠ 1) → J 1 [l1, l2, l3] G Q → Tg W0 (j 1) [rf (820), rf (l1), cI (l2), cI (l3), l4] [] G (fun r G => r = 7 ∧ Q 0 G)) (h : PX3_openRow_89 J l1 l2 l3 G Q) : Tg W0 (vX3_openRow_89 j) [rf (820), rf (l1), cI (l2), cI (l3), l4] [] G (fun r G => r = 7 ∧ Q 0 G) := by
  unfold PX3_openRow_89 at h
  unfold vX3_openRow_89
  refine g_ld (v := cI _) rfl (is_I _) ?_
  refine g_ld (v := rf _) rfl (is_R _) ?_
  refine g_getR (kz := 2) (c := 10) oC3 rfl (Nat.le_of_ble_eq_true rfl) rfl (by decide) fun i36 => ?_
  replace h := h i36
  obtain ⟨q37, h⟩ := h
  refine g_getI (kz := 15) q37 rfl (Nat.le_of_ble_eq_true rfl) rfl fun i38 => ?_
  replace h := h i38
  refine g_lt2 hl3 i38 (fun b39 => ?_) (fun b39 => ?_)
  · replace h := h.1 b39
    unfold vX3_openRow_100
    refine g_ld (v := rf _) rfl (is_R _) ?_
    refine g_getR (kz := 2) (c := 10) oC3 rfl (Nat.le_of_ble_eq_true rfl) rfl (by decide) fun i40 => ?_
    replace h := h i40
    obtain ⟨q41, h⟩ := h
    refine g_getF q41 (ff10_14 q41).1 rfl (Nat.le_of_ble_eq_true rfl) (Nat.le_of_ble_eq_true rfl) ?_
    refine g_ld (v := cI _) rfl (is_I _) ?_
    obtain ⟨q42, q43, h⟩ := h
    refine g_aldRF (c := 7) (ff10_14 q41).2 q42 q43 rfl (by decide) fun i44 => ?_
    replace h := h i44
    refine g_st (lv' := [_, _, _, _, _]) (is_R _) (Nat.le_of_ble_eq_true rfl) (Or.inr (n1_I _)) rfl ?_
    refine g_ld (v := rf _) rfl (is_R _) ?_
    obtain ⟨q45, h⟩ := h
    refine g_getI (kz := 0) q45 rfl (Nat.le_of_ble_eq_true rfl) rfl fun i46 => ?_
    replace h := h i46
    refine g_eq1 i46 (fun b47 => ?_) (fun b47 => ?_)
    · replace h := h.1 b47
      unfold vX3_openRow_119
      refine g_ld (v := rf _) rfl (is_R _) ?_
      refine g_ld (v := rf _) rfl (is_R _) ?_
      refine g_getZ (kz := 2) q45 rfl (Nat.le_of_ble_eq_true rfl) rfl fun i48 => ?_
      replace h := h i48
      refine g_eq1 ⟨by omega, by omega⟩ (fun b49 => ?_) (fun b49 => ?_)
      · replace h := h.1 b49
        unfold vX3_openRow_133
        refine g_ld (v := rf _) rfl (is_R _) ?_
        refine g_getR (kz := 2) (c := 10) oC3 rfl (Nat.le_of_ble_eq_true rfl) rfl (by decide) fun i50 => ?_
        replace h := h i50
        obtain ⟨q51, h⟩ := h
        refine g_getI (kz := 20) q51 rfl (Nat.le_of_ble_eq_true rfl) rfl fun i52 => ?_
        replace h := h i52
        exact TX3_openRow_140 hl2 hl3 i52 hj0 hj1 h
      · replace h := h.2 b49
        unfold vX3_openRow_129
        refine g_ld (v := cI _) rfl (is_I _) ?_
        exact TX3_openRow_140 hl2 hl3 hl2 hj0 hj1 h
    · replace h := h.2 b47
      exact TX3_openRow_184 hl2 hl3 hj0 hj1 h
  · replace h := h.2 b39
    unfold vX3_openRow_190
    refine g_ld (v := rf _) rfl (is_R _) ?_
    refine g_getR (kz := 2) (c := 10) oC3 rfl (Nat.le_of_ble_eq_true rfl) rfl (by decide) fun i53 => ?_
    replace h := h i53
    obtain ⟨q54, h⟩ := h
    refine g_getZ (kz := 7) q54 rfl (Nat.le_of_ble_eq_true rfl) rfl fun i55 => ?_
    replace h := h i55
    refine g_eq1 ⟨by omega, by omega⟩ (fun b56 => ?_) (fun b56 => ?_)
    · replace h := h.1 b56
      exact TX3_openRow_218 hl2 hl3 hl4 hj0 hj1 h
    · replace h := h.2 b56
      unfold vX3_openRow_200
      refine g_ld (v := rf _) rfl (is_R _) ?_
      refine g_const (v := cI (18)) rfl ?_
      refine g_ld (v := rf _) rfl (is_R _) ?_
      refine g_getR (kz := 2) (c := 10) oC3 rfl (Nat.le_of_ble_eq_true rfl) rfl (by decide) fun i57 => ?_
      replace h := h i57
      obtain ⟨q58, h⟩ := h
      refine g_getL (kz := 8) q58 rfl (Nat.le_of_ble_eq_true rfl) rfl fun i59 => ?_
      replace h := h i59
      refine g_const (v := rf (-1)) rfl ?_
      refine g_const (v := cL (-4)) rfl ?_
      refine g_callV (As := [_, _, _, _]) (ci := 3) oC3 (fun _ => rfl) ?_
      refine g_go1 (Nat.le_of_ble_eq_true rfl) (Tn_w (TX3_useOf ⟨by omega, by omega⟩ i59 ⟨by omega, by omega⟩ h) fun _ G60 ⟨r61, e, i62, h⟩ => ?_)
      subst e
      refine ⟨n7_I _, ?_⟩
      replace h := h i62
      refine g_pop (ct_I _) ?_
      exact TX3_openRow_218 hl2 hl3 hl4 hj0 hj1 h
def PX3_openRow_0 (J : Nat → List Int → gS → (Int → gS → Prop) → Prop) (a1 : Int) (G : gS) (Q : Int → gS → Prop) : Prop :=
  ((a1 = -1 ∨ isO W0 10 (a1)) ∧ (∀ G2 : gS, G2 = uG G 820 2 (a1) → ((G2 820 2 = -1 ∨ isO W0 10 (G2 820 2)) → ((G2 820 1 = -1 ∨ isO W0 1 (G2 820 1)) → (isO W0 1 (G2 820 1) ∧ (inI (G2 (G2 820 1) 15) → (isO W0 10 (G2 820 2) ∧ (∀ G8 : gS, G8 = uG G2 (G2 820 2) 16 (G2 (G2 820 1) 15) → ((G8 820 2 = -1 ∨ isO W0 10 (G8 820 2)) → ((G8 820 1 = -1 ∨ isO W0 1 (G8 820 1)) → (isO W0 1 (G8 820 1) ∧ PX1_newMember (G8 820 1) G8 (fun r13 G12 => (isO W0 10 (G8 820 2) ∧ ((r13 = -1 ∨ isO W0 7 (r13)) ∧ (∀ G17 : gS, G17 = uG G12 (G8 820 2) 18 (r13) → ((G17 820 2 = -1 ∨ isO W0 10 (G17 820 2)) → (isO W0 10 (G17 820 2) ∧ ((G17 (G17 820 2) 18 = -1 ∨ isO W0 7 (G17 (G17 820 2) 18)) → (isO W0 7 (G17 (G17 820 2) 18) ∧ (∀ G22 : gS, G22 = uG G17 (G17 (G17 820 2) 18) 0 (3) → ((G22 820 2 = -1 ∨ isO W0 10 (G22 820 2)) → (isO W0 10 (G22 820 2) ∧ ((G22 (G22 820 2) 18 = -1 ∨ isO W0 7 (G22 (G22 820 2) 18)) → (isO W0 7 (G22 (G22 820 2) 18) ∧ (∀ G27 : gS, G27 = uG G22 (G22 (G22 820 2) 18) 17 (-2) → ((G27 820 2 = -1 ∨ isO W0 10 (G27 820 2)) → (isO W0 10 (G27 820 2) ∧ (∀ G30 : gS, G30 = uG G27 (G27 820 2) 19 (-2) → ((G30 820 2 = -1 ∨ isO W0 10 (G30 820 2)) → (isO W0 10 (G30 820 2) ∧ (∀ G33 : gS, G33 = uG G30 (G30 820 2) 20 (0) → (∀ G34 : gS, G34 = uG G33 820 5 (-2) → (∀ G35 : gS, G35 = uG G34 820 6 (-2) → PX3_openRow_89 J a1 0 0 G35 Q)))))))))))))))))))))))))))))))))
set_option maxRecDepth 20000 in
theorem TX3_openRow_0 {j : Nat → rx_K} {J : Nat → List Int → gS → (Int → gS → Prop) → Prop} {a1 : Int} {G : gS} {Q : Int → gS → Prop}  (hj0 : ∀ (l1 : Int) (l2 : Int) (l3 : Int) (l4 : Nat) (G : gS), (inI l2) → (inI l3) → (l4 % 8 ≠ 1) → J 0 [l1, l2, l3] G Q → Tg W0 (j 0) [rf (820), rf (l1), cI (l2), cI (l3), l4] [] G (fun r G => r = 7 ∧ Q 0 G)) (hj1 : ∀ (l1 : Int) (l2 : Int) (l3 : Int) (l4 : Nat) (G : gS), (inI l2) → (inI l3) → (l4 % 8 ≠ 1) → J 1 [l1, l2, l3] G Q → Tg W0 (j 1) [rf (820), rf (l1), cI (l2), cI (l3), l4] [] G (fun r G => r = 7 ∧ Q 0 G)) (h : PX3_openRow_0 J a1 G Q) : Tg W0 (vX3_openRow_0 j) [rf (820), rf (a1), 7, 7, 7] [] G (fun r G => r = 7 ∧ Q 0 G) := by
  unfold PX3_openRow_0 at h
  unfold vX3_openRow_0
  refine g_ld (v := rf _) rfl (is_R _) ?_
  refine g_ld (v := rf _) rfl (is_R _) ?_
  obtain ⟨q1, h⟩ := h
  refine g_putR (kz := 2) (c := 10) oC3 rfl (Nat.le_of_ble_eq_true rfl) rfl (by decide) q1 (zfin_no (c := 820) (j := 2) rfl) ?_
  replace h := h _ rfl
  refine g_ld (v := rf _) rfl (is_R _) ?_
  refine g_getR (kz := 2) (c := 10) oC3 rfl (Nat.le_of_ble_eq_true rfl) rfl (by decide) fun i3 => ?_
  replace h := h i3
  refine g_ld (v := rf _) rfl (is_R _) ?_
  refine g_getR (kz := 1) (c := 1) oC3 rfl (Nat.le_of_ble_eq_true rfl) rfl (by decide) fun i4 => ?_
  replace h := h i4
  obtain ⟨q5, h⟩ := h
  refine g_getI (kz := 15) q5 rfl (Nat.le_of_ble_eq_true rfl) rfl fun i6 => ?_
  replace h := h i6
  obtain ⟨q7, h⟩ := h
  refine g_putI (kz := 16) q7 rfl (Nat.le_of_ble_eq_true rfl) rfl i6 (nf10_16 q7) ?_
  replace h := h _ rfl
  refine g_ld (v := rf _) rfl (is_R _) ?_
  refine g_getR (kz := 2) (c := 10) oC3 rfl (Nat.le_of_ble_eq_true rfl) rfl (by decide) fun i9 => ?_
  replace h := h i9
  refine g_ld (v := rf _) rfl (is_R _) ?_
  refine g_getR (kz := 1) (c := 1) oC3 rfl (Nat.le_of_ble_eq_true rfl) rfl (by decide) fun i10 => ?_
  replace h := h i10
  obtain ⟨q11, h⟩ := h
  refine g_callV (As := []) (ci := 1) q11 (fun _ => rfl) ?_
  refine g_go1 (by simp only [cs_c, cs_0, ct_I, ct_L, ct_R]; exact Nat.le_of_ble_eq_true rfl) (Tn_w (TX1_newMember  h) fun _ G12 ⟨r13, e, h⟩ => ?_)
  subst e
  refine ⟨n7_R _, ?_⟩
  obtain ⟨q15, h⟩ := h
  obtain ⟨q16, h⟩ := h
  refine g_putR (kz := 18) (c := 7) q15 rfl (Nat.le_of_ble_eq_true rfl) rfl (by decide) q16 (nf10_18 q15) ?_
  replace h := h _ rfl
  refine g_ld (v := rf _) rfl (is_R _) ?_
  refine g_getR (kz := 2) (c := 10) oC3 rfl (Nat.le_of_ble_eq_true rfl) rfl (by decide) fun i18 => ?_
  replace h := h i18
  obtain ⟨q19, h⟩ := h
  refine g_getR (kz := 18) (c := 7) q19 rfl (Nat.le_of_ble_eq_true rfl) rfl (by decide) fun i20 => ?_
  replace h := h i20
  refine g_const (v := cI (3)) rfl ?_
  obtain ⟨q21, h⟩ := h
  refine g_putI (kz := 0) q21 rfl (Nat.le_of_ble_eq_true rfl) rfl ⟨by omega, by omega⟩ (nf7_0 q21) ?_
  replace h := h _ rfl
  refine g_ld (v := rf _) rfl (is_R _) ?_
  refine g_getR (kz := 2) (c := 10) oC3 rfl (Nat.le_of_ble_eq_true rfl) rfl (by decide) fun i23 => ?_
  replace h := h i23
  obtain ⟨q24, h⟩ := h
  refine g_getR (kz := 18) (c := 7) q24 rfl (Nat.le_of_ble_eq_true rfl) rfl (by decide) fun i25 => ?_
  replace h := h i25
  refine g_const (v := cI (-2)) rfl ?_
  unfold vX3_openRow_53
  obtain ⟨q26, h⟩ := h
  refine g_putI (kz := 17) q26 rfl (Nat.le_of_ble_eq_true rfl) rfl ⟨by omega, by omega⟩ (nf7_17 q26) ?_
  replace h := h _ rfl
  refine g_ld (v := rf _) rfl (is_R _) ?_
  refine g_getR (kz := 2) (c := 10) oC3 rfl (Nat.le_of_ble_eq_true rfl) rfl (by decide) fun i28 => ?_
  replace h := h i28
  refine g_const (v := cI (-2)) rfl ?_
  obtain ⟨q29, h⟩ := h
  refine g_putI (kz := 19) q29 rfl (Nat.le_of_ble_eq_true rfl) rfl ⟨by omega, by omega⟩ (nf10_19 q29) ?_
  replace h := h _ rfl
  refine g_ld (v := rf _) rfl (is_R _) ?_
  refine g_getR (kz := 2) (c := 10) oC3 rfl (Nat.le_of_ble_eq_true rfl) rfl (by decide) fun i31 => ?_
  replace h := h i31
  refine g_const (v := cI (0)) rfl ?_
  obtain ⟨q32, h⟩ := h
  refine g_putI (kz := 20) q32 rfl (Nat.le_of_ble_eq_true rfl) rfl ⟨by omega, by omega⟩ (nf10_20 q32) ?_
  replace h := h _ rfl
  refine g_ld (v := rf _) rfl (is_R _) ?_
  refine g_const (v := cI (-2)) rfl ?_
  refine g_putI (kz := 5) oC3 rfl (Nat.le_of_ble_eq_true rfl) rfl ⟨by omega, by omega⟩ (zfin_no (c := 820) (j := 5) rfl) ?_
  replace h := h _ rfl
  refine g_ld (v := rf _) rfl (is_R _) ?_
  refine g_const (v := cI (-2)) rfl ?_
  refine g_putI (kz := 6) oC3 rfl (Nat.le_of_ble_eq_true rfl) rfl ⟨by omega, by omega⟩ (zfin_no (c := 820) (j := 6) rfl) ?_
  replace h := h _ rfl
  refine g_const (v := cI (0)) rfl ?_
  refine g_st (lv' := [_, _, _, _, _]) (is_I _) (Nat.le_of_ble_eq_true rfl) (Or.inr (n1_R _)) rfl ?_
  refine g_const (v := cI (0)) rfl ?_
  refine g_st (lv' := [_, _, _, _, _]) (is_I _) (Nat.le_of_ble_eq_true rfl) (Or.inr (n1_I _)) rfl ?_
  exact TX3_openRow_89 ⟨by omega, by omega⟩ ⟨by omega, by omega⟩ (show 7 % 8 ≠ 1 by decide) hj0 hj1 h
def PX3_openRow_J : Nat → Nat → List Int → gS → (Int → gS → Prop) → Prop
  | 0, _, _, _, _ => False
  | f + 1, h, L, G, Q => match h, L with
    | 0, [l1, l2, l3] => PX3_openRow_89 (PX3_openRow_J f) l1 l2 l3 G Q
    | 1, [l1, l2, l3] => PX3_openRow_220 (PX3_openRow_J f) l1 l2 l3 G Q
    | _, _ => False
theorem TX3_openRow_J {Q : Int → gS → Prop} : ∀ f N : Nat, f ≤ N → (∀ (l1 : Int) (l2 : Int) (l3 : Int) (l4 : Nat) (G : gS), (inI l2) → (inI l3) → (l4 % 8 ≠ 1) → (PX3_openRow_J f) 0 [l1, l2, l3] G Q → Tg W0 (rx_J vhX3_openRow N 0) [rf (820), rf (l1), cI (l2), cI (l3), l4] [] G (fun r G => r = 7 ∧ Q 0 G)) ∧ (∀ (l1 : Int) (l2 : Int) (l3 : Int) (l4 : Nat) (G : gS), (inI l2) → (inI l3) → (l4 % 8 ≠ 1) → (PX3_openRow_J f) 1 [l1, l2, l3] G Q → Tg W0 (rx_J vhX3_openRow N 1) [rf (820), rf (l1), cI (l2), cI (l3), l4] [] G (fun r G => r = 7 ∧ Q 0 G)) := by
  intro f
  induction f with
  | zero => exact fun N _ => ⟨fun _ _ _ _ _ _ _ _ h => h.elim, fun _ _ _ _ _ _ _ _ h => h.elim⟩
  | succ f ih =>
    intro N hN
    obtain ⟨M, rfl⟩ : ∃ M, N = M + 1 := ⟨N - 1, by omega⟩
    have ih := ih M (by omega)
    exact ⟨fun _ _ _ _ _ hl2 hl3 hl4 h => show Tg W0 (vX3_openRow_89 (rx_J vhX3_openRow M)) _ _ _ _ from TX3_openRow_89 hl2 hl3 hl4 ih.1 ih.2 h, fun _ _ _ _ _ hl2 hl3 hl4 h => show Tg W0 (vX3_openRow_220 (rx_J vhX3_openRow M)) _ _ _ _ from TX3_openRow_220 hl2 hl3 hl4 ih.1 ih.2 h⟩
def PX3_openRow (a1 : Int) (G : gS) (Q : Int → gS → Prop) : Prop := ∃ f : Nat, f ≤ 4000000000 ∧ PX3_openRow_0 (PX3_openRow_J f) a1 G Q
theorem TX3_openRow {a1 : Int} {G : gS} {Q : Int → gS → Prop}  (h : PX3_openRow a1 G Q) : Tn W0 FX3_openRow [rf (820), rf (a1)] G (fun r G => r = 7 ∧ Q 0 G) := by
  obtain ⟨f, hf, h⟩ := h
  have hJ := TX3_openRow_J (Q := Q) f 4000000000 hf
  unfold FX3_openRow
  refine g_ent (lv' := [rf (820), rf (a1), 7, 7, 7]) (flR (flR fl0)) (Nat.le_of_ble_eq_true rfl) rfl ?_
  exact TX3_openRow_0  hJ.1 hJ.2 h
def PX3_copyRow_392 (J : Nat → List Int → gS → (Int → gS → Prop) → Prop) (l1 : Int) (l2 : Int) (l3 : Int) (l4 : Int) (l5 : Int) (l6 : Int) (G : gS) (Q : Int → gS → Prop) : Prop :=
  (isO W0 1 (l1) ∧ (inI (G l1 15) → (isO W0 10 (l5) ∧ (inI (G l5 16) → (inI ((G l1 15) - (G l5 16)) ∧ (∀ G160 : gS, G160 = uG G l5 17 ((G l1 15) - (G l5 16)) → Q 0 G160))))))
set_option maxRecDepth 20000 in
theorem TX3_copyRow_392 {j : Nat → rx_K} {J : Nat → List Int → gS → (Int → gS → Prop) → Prop} {l1 : Int} {l2 : Int} {l3 : Int} {l4 : Int} {l5 : Int} {l6 : Int} {l7 : Nat} {G : gS} {Q : Int → gS → Prop} (hl3 : inI l3) (hl6 : inI l6) (hl7 : l7 % 8 ≠ 1) (hj0 : ∀ (l1 : Int) (l2 : Int) (l3 : Int) (l4 : Int) (l5 : Int) (l6 : Int) (l7 : Nat) (G : gS), (inI l3) → (inI l6) → (l7 % 8 ≠ 1) → J 0 [l1, l2, l3, l4, l5, l6] G Q → Tg W0 (j 0) [rf (820), rf (l1), rf (l2), cI (l3), rf (l4), rf (l5), cI (l6), l7] [] G (fun r G => r = 7 ∧ Q 0 G)) (hj1 : ∀ (l1 : Int) (l2 : Int) (l3 : Int) (l4 : Int) (l5 : Int) (l6 : Int) (l7 : Nat) (G : gS), (inI l3) → (inI l6) → (l7 % 8 ≠ 1) → J 1 [l1, l2, l3, l4, l5, l6] G Q → Tg W0 (j 1) [rf (820), rf (l1), rf (l2), cI (l3), rf (l4), rf (l5), cI (l6), l7] [] G (fun r G => r = 7 ∧ Q 0 G)) (hj2 : ∀ (l1 : Int) (l2 : Int) (l3 : Int) (l4 : Int) (l5 : Int) (l6 : Int) (l7 : Nat) (G : gS), (inI l3) → (inI l6) → (l7 % 8 ≠ 1) → J 2 [l1, l2, l3, l4, l5, l6] G Q → Tg W0 (j 2) [rf (820), rf (l1), rf (l2), cI (l3), rf (l4), rf (l5), cI (l6), l7] [] G (fun r G => r = 7 ∧ Q 0 G)) (h : PX3_copyRow_392 J l1 l2 l3 l4 l5 l6 G Q) : Tg W0 (vX3_copyRow_392 j) [rf (820), rf (l1), rf (l2), cI (l3), rf (l4), rf (l5), cI (l6), l7] [] G (fun r G => r = 7 ∧ Q 0 G) := by
  unfold PX3_copyRow_392 at h
  unfold vX3_copyRow_392
  refine g_ld (v := rf _) rfl (is_R _) ?_
  refine g_ld (v := rf _) rfl (is_R _) ?_
  obtain ⟨q155, h⟩ := h
  refine g_getI (kz := 15) q155 rfl (Nat.le_of_ble_eq_true rfl) rfl fun i156 => ?_
  replace h := h i156
  refine g_ld (v := rf _) rfl (is_R _) ?_
  obtain ⟨q157, h⟩ := h
  refine g_getI (kz := 16) q157 rfl (Nat.le_of_ble_eq_true rfl) rfl fun i158 => ?_
  replace h := h i158
  refine g_sub ?_
  obtain ⟨q159, h⟩ := h
  refine g_putI (kz := 17) q157 rfl (Nat.le_of_ble_eq_true rfl) rfl q159 (nf10_17 q157) ?_
  replace h := h _ rfl
  exact g_ret0 ⟨rfl, h⟩
def PX3_copyRow_278 (J : Nat → List Int → gS → (Int → gS → Prop) → Prop) (l1 : Int) (l2 : Int) (l3 : Int) (l4 : Int) (l5 : Int) (l6 : Int) (G : gS) (Q : Int → gS → Prop) : Prop :=
  (isO W0 10 (l4) ∧ (inI (G l4 16) → (inI (G l4 17) → (inI ((G l4 16) + (G l4 17)) ∧ ((l6 < (G l4 16) + (G l4 17) → (isO W0 1 (l1) ∧ (inI (G l1 15) → (((G l1 10 = -1 ∨ ∃ n, isA W0 0 n (G l1 10)) ∧ ∀ v, W0.2 l1 10 = some v → G l1 10 = v) → (∃ n89, isA W0 0 n89 (G l1 10) ∧ (inI (n89) ∧ ((G l1 15 < n89 → (inI (G l1 15) → (((G l1 10 = -1 ∨ ∃ n, isA W0 0 n (G l1 10)) ∧ ∀ v, W0.2 l1 10 = some v → G l1 10 = v) → (isO W0 1 (l2) ∧ (((G l2 10 = -1 ∨ ∃ n, isA W0 0 n (G l2 10)) ∧ ∀ v, W0.2 l2 10 = some v → G l2 10 = v) → (∃ n97, isA W0 0 n97 (G l2 10) ∧ ((0 : Int) ≤ l6 ∧ ((l6 : Int) < n97 ∧ (inI (G (G l2 10) l6) → (∃ n102, isA W0 0 n102 (G l1 10) ∧ ((0 : Int) ≤ G l1 15 ∧ ((G l1 15 : Int) < n102 ∧ (∀ G106 : gS, G106 = uG G (G l1 10) (G l1 15) (G (G l2 10) l6) → (((G106 l1 11 = -1 ∨ ∃ n, isA W0 0 n (G106 l1 11)) ∧ ∀ v, W0.2 l1 11 = some v → G106 l1 11 = v) → (∃ n108, isA W0 0 n108 (G106 l1 11) ∧ ((0 : Int) ≤ G l1 15 ∧ ((G l1 15 : Int) < n108 ∧ (∀ G112 : gS, G112 = uG G106 (G106 l1 11) (G l1 15) (l3) → (((G112 l1 12 = -1 ∨ ∃ n, isA W0 1 n (G112 l1 12)) ∧ ∀ v, W0.2 l1 12 = some v → G112 l1 12 = v) → (((G112 l2 12 = -1 ∨ ∃ n, isA W0 1 n (G112 l2 12)) ∧ ∀ v, W0.2 l2 12 = some v → G112 l2 12 = v) → (∃ n115, isA W0 1 n115 (G112 l2 12) ∧ ((0 : Int) ≤ l6 ∧ ((l6 : Int) < n115 ∧ (inL (G112 (G112 l2 12) l6) → (∃ n120, isA W0 1 n120 (G112 l1 12) ∧ ((0 : Int) ≤ G l1 15 ∧ ((G l1 15 : Int) < n120 ∧ (∀ G124 : gS, G124 = uG G112 (G112 l1 12) (G l1 15) (G112 (G112 l2 12) l6) → (((G124 l1 13 = -1 ∨ ∃ n, isA W0 5 n (G124 l1 13)) ∧ ∀ v, W0.2 l1 13 = some v → G124 l1 13 = v) → (((G124 l2 13 = -1 ∨ ∃ n, isA W0 5 n (G124 l2 13)) ∧ ∀ v, W0.2 l2 13 = some v → G124 l2 13 = v) → (∃ n127, isA W0 5 n127 (G124 l2 13) ∧ ((0 : Int) ≤ l6 ∧ ((l6 : Int) < n127 ∧ (((G124 (G124 l2 13) l6 = -1 ∨ isO W0 7 (G124 (G124 l2 13) l6)) ∧ ∀ v, W0.2 (G124 l2 13) l6 = some v → G124 (G124 l2 13) l6 = v) → (∃ n132, isA W0 5 n132 (G124 l1 13) ∧ ((0 : Int) ≤ G l1 15 ∧ ((G l1 15 : Int) < n132 ∧ (W0.2 (G124 l1 13) (G l1 15) = none ∧ ((G124 (G124 l2 13) l6 = -1 ∨ isO W0 7 (G124 (G124 l2 13) l6)) ∧ (∀ G138 : gS, G138 = uG G124 (G124 l1 13) (G l1 15) (G124 (G124 l2 13) l6) → (((G138 l1 14 = -1 ∨ ∃ n, isA W0 1 n (G138 l1 14)) ∧ ∀ v, W0.2 l1 14 = some v → G138 l1 14 = v) → (((G138 l2 14 = -1 ∨ ∃ n, isA W0 1 n (G138 l2 14)) ∧ ∀ v, W0.2 l2 14 = some v → G138 l2 14 = v) → (∃ n141, isA W0 1 n141 (G138 l2 14) ∧ ((0 : Int) ≤ l6 ∧ ((l6 : Int) < n141 ∧ (inL (G138 (G138 l2 14) l6) → (∃ n146, isA W0 1 n146 (G138 l1 14) ∧ ((0 : Int) ≤ G l1 15 ∧ ((G l1 15 : Int) < n146 ∧ (∀ G150 : gS, G150 = uG G138 (G138 l1 14) (G l1 15) (G138 (G138 l2 14) l6) → (inI (G150 l1 15) → (inI ((G150 l1 15) + 1) ∧ (∀ G153 : gS, G153 = uG G150 l1 15 ((G150 l1 15) + 1) → (inI (l6 + 1) ∧ J 2 [l1, l2, l3, l4, l5, l6 + 1] G153 Q)))))))))))))))))))))))))))))))))))))))))))))))))))))) ∧ (¬ (G l1 15 < n89) → PX3_copyRow_392 J l1 l2 l3 l4 l5 l6 G Q)))))))) ∧ (¬ (l6 < (G l4 16) + (G l4 17)) → PX3_copyRow_392 J l1 l2 l3 l4 l5 l6 G Q))))))
set_option maxRecDepth 20000 in
theorem TX3_copyRow_278 {j : Nat → rx_K} {J : Nat → List Int → gS → (Int → gS → Prop) → Prop} {l1 : Int} {l2 : Int} {l3 : Int} {l4 : Int} {l5 : Int} {l6 : Int} {l7 : Nat} {G : gS} {Q : Int → gS → Prop} (hl3 : inI l3) (hl6 : inI l6) (hl7 : l7 % 8 ≠ 1) (hj0 : ∀ (l1 : Int) (l2 : Int) (l3 : Int) (l4 : Int) (l5 : Int) (l6 : Int) (l7 : Nat) (G : gS), (inI l3) → (inI l6) → (l7 % 8 ≠ 1) → J 0 [l1, l2, l3, l4, l5, l6] G Q → Tg W0 (j 0) [rf (820), rf (l1), rf (l2), cI (l3), rf (l4), rf (l5), cI (l6), l7] [] G (fun r G => r = 7 ∧ Q 0 G)) (hj1 : ∀ (l1 : Int) (l2 : Int) (l3 : Int) (l4 : Int) (l5 : Int) (l6 : Int) (l7 : Nat) (G : gS), (inI l3) → (inI l6) → (l7 % 8 ≠ 1) → J 1 [l1, l2, l3, l4, l5, l6] G Q → Tg W0 (j 1) [rf (820), rf (l1), rf (l2), cI (l3), rf (l4), rf (l5), cI (l6), l7] [] G (fun r G => r = 7 ∧ Q 0 G)) (hj2 : ∀ (l1 : Int) (l2 : Int) (l3 : Int) (l4 : Int) (l5 : Int) (l6 : Int) (l7 : Nat) (G : gS), (inI l3) → (inI l6) → (l7 % 8 ≠ 1) → J 2 [l1, l2, l3, l4, l5, l6] G Q → Tg W0 (j 2) [rf (820), rf (l1), rf (l2), cI (l3), rf (l4), rf (l5), cI (l6), l7] [] G (fun r G => r = 7 ∧ Q 0 G)) (h : PX3_copyRow_278 J l1 l2 l3 l4 l5 l6 G Q) : Tg W0 (vX3_copyRow_278 j) [rf (820), rf (l1), rf (l2), cI (l3), rf (l4), rf (l5), cI (l6), l7] [] G (fun r G => r = 7 ∧ Q 0 G) := by
  unfold PX3_copyRow_278 at h
  unfold vX3_copyRow_278
  refine g_ld (v := cI _) rfl (is_I _) ?_
  refine g_ld (v := rf _) rfl (is_R _) ?_
  obtain ⟨q81, h⟩ := h
  refine g_getI (kz := 16) q81 rfl (Nat.le_of_ble_eq_true rfl) rfl fun i82 => ?_
  replace h := h i82
  refine g_ld (v := rf _) rfl (is_R _) ?_
  refine g_getI (kz := 17) q81 rfl (Nat.le_of_ble_eq_true rfl) rfl fun i83 => ?_
  replace h := h i83
  refine g_add ?_
  obtain ⟨q84, h⟩ := h
  refine g_lt2 hl6 q84 (fun b85 => ?_) (fun b85 => ?_)
  · replace h := h.1 b85
    unfold vX3_copyRow_294
    refine g_ld (v := rf _) rfl (is_R _) ?_
    obtain ⟨q86, h⟩ := h
    refine g_getI (kz := 15) q86 rfl (Nat.le_of_ble_eq_true rfl) rfl fun i87 => ?_
    replace h := h i87
    refine g_ld (v := rf _) rfl (is_R _) ?_
    refine g_getAF (kz := 10) (c := 0) q86 rfl (Nat.le_of_ble_eq_true rfl) rfl fun i88 => ?_
    replace h := h i88
    obtain ⟨n89, q90, h⟩ := h
    refine g_alen q90 ?_
    obtain ⟨q91, h⟩ := h
    refine g_lt2 i87 q91 (fun b92 => ?_) (fun b92 => ?_)
    · replace h := h.1 b92
      unfold vX3_copyRow_306
      refine g_ld (v := rf _) rfl (is_R _) ?_
      refine g_getI (kz := 15) q86 rfl (Nat.le_of_ble_eq_true rfl) rfl fun i93 => ?_
      replace h := h i93
      refine g_st (lv' := [_, _, _, _, _, _, _, _]) (is_I _) (Nat.le_of_ble_eq_true rfl) (Or.inr (n1_I _)) rfl ?_
      refine g_ld (v := rf _) rfl (is_R _) ?_
      refine g_getAF (kz := 10) (c := 0) q86 rfl (Nat.le_of_ble_eq_true rfl) rfl fun i94 => ?_
      replace h := h i94
      refine g_ld (v := cI _) rfl (is_I _) ?_
      refine g_ld (v := rf _) rfl (is_R _) ?_
      obtain ⟨q95, h⟩ := h
      refine g_getAF (kz := 10) (c := 0) q95 rfl (Nat.le_of_ble_eq_true rfl) rfl fun i96 => ?_
      replace h := h i96
      refine g_ld (v := cI _) rfl (is_I _) ?_
      obtain ⟨n97, q98, h⟩ := h
      obtain ⟨q99, q100, h⟩ := h
      refine g_aldI q98 q99 q100 rfl fun i101 => ?_
      replace h := h i101
      obtain ⟨n102, q103, h⟩ := h
      obtain ⟨q104, q105, h⟩ := h
      refine g_astI q103 q104 q105 i101 (nfI q103) ?_
      replace h := h _ rfl
      refine g_ld (v := rf _) rfl (is_R _) ?_
      refine g_getAF (kz := 11) (c := 0) q86 rfl (Nat.le_of_ble_eq_true rfl) rfl fun i107 => ?_
      replace h := h i107
      refine g_ld (v := cI _) rfl (is_I _) ?_
      refine g_ld (v := cI _) rfl (is_I _) ?_
      obtain ⟨n108, q109, h⟩ := h
      obtain ⟨q110, q111, h⟩ := h
      refine g_astI q109 q110 q111 hl3 (nfI q109) ?_
      replace h := h _ rfl
      refine g_ld (v := rf _) rfl (is_R _) ?_
      refine g_getAF (kz := 12) (c := 1) q86 rfl (Nat.le_of_ble_eq_true rfl) rfl fun i113 => ?_
      replace h := h i113
      refine g_ld (v := cI _) rfl (is_I _) ?_
      refine g_ld (v := rf _) rfl (is_R _) ?_
      refine g_getAF (kz := 12) (c := 1) q95 rfl (Nat.le_of_ble_eq_true rfl) rfl fun i114 => ?_
      replace h := h i114
      refine g_ld (v := cI _) rfl (is_I _) ?_
      obtain ⟨n115, q116, h⟩ := h
      obtain ⟨q117, q118, h⟩ := h
      refine g_aldL q116 q117 q118 rfl fun i119 => ?_
      replace h := h i119
      obtain ⟨n120, q121, h⟩ := h
      obtain ⟨q122, q123, h⟩ := h
      refine g_astL q121 q122 q123 i119 (nfL q121) ?_
      replace h := h _ rfl
      unfold vX3_copyRow_348
      refine g_ld (v := rf _) rfl (is_R _) ?_
      refine g_getAF (kz := 13) (c := 5) q86 rfl (Nat.le_of_ble_eq_true rfl) rfl fun i125 => ?_
      replace h := h i125
      refine g_ld (v := cI _) rfl (is_I _) ?_
      refine g_ld (v := rf _) rfl (is_R _) ?_
      refine g_getAF (kz := 13) (c := 5) q95 rfl (Nat.le_of_ble_eq_true rfl) rfl fun i126 => ?_
      replace h := h i126
      refine g_ld (v := cI _) rfl (is_I _) ?_
      obtain ⟨n127, q128, h⟩ := h
      obtain ⟨q129, q130, h⟩ := h
      refine g_aldRF (c := 7) q128 q129 q130 rfl (by decide) fun i131 => ?_
      replace h := h i131
      obtain ⟨n132, q133, h⟩ := h
      obtain ⟨q134, q135, q136, h⟩ := h
      obtain ⟨q137, h⟩ := h
      refine g_aastR (c := 7) q133 q134 q135 rfl (by decide) q137 q136 ?_
      replace h := h _ rfl
      refine g_ld (v := rf _) rfl (is_R _) ?_
      refine g_getAF (kz := 14) (c := 1) q86 rfl (Nat.le_of_ble_eq_true rfl) rfl fun i139 => ?_
      replace h := h i139
      refine g_ld (v := cI _) rfl (is_I _) ?_
      refine g_ld (v := rf _) rfl (is_R _) ?_
      refine g_getAF (kz := 14) (c := 1) q95 rfl (Nat.le_of_ble_eq_true rfl) rfl fun i140 => ?_
      replace h := h i140
      refine g_ld (v := cI _) rfl (is_I _) ?_
      obtain ⟨n141, q142, h⟩ := h
      obtain ⟨q143, q144, h⟩ := h
      refine g_aldL q142 q143 q144 rfl fun i145 => ?_
      replace h := h i145
      obtain ⟨n146, q147, h⟩ := h
      obtain ⟨q148, q149, h⟩ := h
      refine g_astL q147 q148 q149 i145 (nfL q147) ?_
      replace h := h _ rfl
      refine g_ld (v := rf _) rfl (is_R _) ?_
      refine g_dup (ct_R _) ?_
      refine g_getI (kz := 15) q86 rfl (Nat.le_of_ble_eq_true rfl) rfl fun i151 => ?_
      replace h := h i151
      refine g_const (v := cI (1)) rfl ?_
      refine g_add ?_
      obtain ⟨q152, h⟩ := h
      refine g_putI (kz := 15) q86 rfl (Nat.le_of_ble_eq_true rfl) rfl q152 (nf1_15 q86) ?_
      replace h := h _ rfl
      refine g_inc (lv' := [_, _, _, _, _, _, _, _]) rfl (Nat.le_of_ble_eq_true rfl) (Or.inr (n1_R _)) rfl ?_
      obtain ⟨q154, h⟩ := h
      exact hj2 _ _ _ _ _ _ _ _ hl3 q154 (n1_I _) h
    · replace h := h.2 b92
      exact TX3_copyRow_392 hl3 hl6 hl7 hj0 hj1 hj2 h
  · replace h := h.2 b85
    exact TX3_copyRow_392 hl3 hl6 hl7 hj0 hj1 hj2 h
def PX3_copyRow_203 (J : Nat → List Int → gS → (Int → gS → Prop) → Prop) (l1 : Int) (l2 : Int) (l3 : Int) (l4 : Int) (l5 : Int) (l6 : Int) (G : gS) (Q : Int → gS → Prop) : Prop :=
  (isO W0 10 (l4) ∧ (inI (G l4 15) → ((l6 < G l4 15 → ((0 : Int) ≤ l6 ∧ ((l6 : Int) < 33 ∧ (((G (l4 + 4) l6 = -1 ∨ isO W0 7 (G (l4 + 4) l6)) ∧ ∀ v, W0.2 (l4 + 4) l6 = some v → G (l4 + 4) l6 = v) → (isO W0 10 (l5) ∧ PX10_add l5 (G (l4 + 4) l6) G (fun _ G66 => (inI (l6 + 1) ∧ J 1 [l1, l2, l3, l4, l5, l6 + 1] G66 Q))))))) ∧ (¬ (l6 < G l4 15) → ((G l4 18 = -1 ∨ isO W0 7 (G l4 18)) → (isO W0 10 (l5) ∧ ((G l4 18 = -1 ∨ isO W0 7 (G l4 18)) ∧ (∀ G72 : gS, G72 = uG G l5 18 (G l4 18) → (inI (G72 l4 19) → (∀ G74 : gS, G74 = uG G72 l5 19 (G72 l4 19) → (inI (G74 l4 20) → (∀ G76 : gS, G76 = uG G74 l5 20 (G74 l4 20) → (isO W0 1 (l1) ∧ (inI (G76 l1 15) → (∀ G79 : gS, G79 = uG G76 l5 16 (G76 l1 15) → (inI (G79 l4 16) → PX3_copyRow_278 J l1 l2 l3 l4 l5 (G79 l4 16) G79 Q))))))))))))))))
set_option maxRecDepth 20000 in
theorem TX3_copyRow_203 {j : Nat → rx_K} {J : Nat → List Int → gS → (Int → gS → Prop) → Prop} {l1 : Int} {l2 : Int} {l3 : Int} {l4 : Int} {l5 : Int} {l6 : Int} {l7 : Nat} {G : gS} {Q : Int → gS → Prop} (hl3 : inI l3) (hl6 : inI l6) (hl7 : l7 % 8 ≠ 1) (hj0 : ∀ (l1 : Int) (l2 : Int) (l3 : Int) (l4 : Int) (l5 : Int) (l6 : Int) (l7 : Nat) (G : gS), (inI l3) → (inI l6) → (l7 % 8 ≠ 1) → J 0 [l1, l2, l3, l4, l5, l6] G Q → Tg W0 (j 0) [rf (820), rf (l1), rf (l2), cI (l3), rf (l4), rf (l5), cI (l6), l7] [] G (fun r G => r = 7 ∧ Q 0 G)) (hj1 : ∀ (l1 : Int) (l2 : Int) (l3 : Int) (l4 : Int) (l5 : Int) (l6 : Int) (l7 : Nat) (G : gS), (inI l3) → (inI l6) → (l7 % 8 ≠ 1) → J 1 [l1, l2, l3, l4, l5, l6] G Q → Tg W0 (j 1) [rf (820), rf (l1), rf (l2), cI (l3), rf (l4), rf (l5), cI (l6), l7] [] G (fun r G => r = 7 ∧ Q 0 G)) (hj2 : ∀ (l1 : Int) (l2 : Int) (l3 : Int) (l4 : Int) (l5 : Int) (l6 : Int) (l7 : Nat) (G : gS), (inI l3) → (inI l6) → (l7 % 8 ≠ 1) → J 2 [l1, l2, l3, l4, l5, l6] G Q → Tg W0 (j 2) [rf (820), rf (l1), rf (l2), cI (l3), rf (l4), rf (l5), cI (l6), l7] [] G (fun r G => r = 7 ∧ Q 0 G)) (h : PX3_copyRow_203 J l1 l2 l3 l4 l5 l6 G Q) : Tg W0 (vX3_copyRow_203 j) [rf (820), rf (l1), rf (l2), cI (l3), rf (l4), rf (l5), cI (l6), l7] [] G (fun r G => r = 7 ∧ Q 0 G) := by
  unfold PX3_copyRow_203 at h
  unfold vX3_copyRow_203
  refine g_ld (v := cI _) rfl (is_I _) ?_
  refine g_ld (v := rf _) rfl (is_R _) ?_
  obtain ⟨q59, h⟩ := h
  refine g_getI (kz := 15) q59 rfl (Nat.le_of_ble_eq_true rfl) rfl fun i60 => ?_
  replace h := h i60
  refine g_lt2 hl6 i60 (fun b61 => ?_) (fun b61 => ?_)
  · replace h := h.1 b61
    unfold vX3_copyRow_213
    refine g_ld (v := rf _) rfl (is_R _) ?_
    refine g_ld (v := rf _) rfl (is_R _) ?_
    refine g_getF q59 (ff10_14 q59).1 rfl (Nat.le_of_ble_eq_true rfl) (Nat.le_of_ble_eq_true rfl) ?_
    refine g_ld (v := cI _) rfl (is_I _) ?_
    obtain ⟨q62, q63, h⟩ := h
    refine g_aldRF (c := 7) (ff10_14 q59).2 q62 q63 rfl (by decide) fun i64 => ?_
    replace h := h i64
    obtain ⟨q65, h⟩ := h
    refine g_callV (As := [_]) (ci := 10) q65 (fun _ => rfl) ?_
    refine g_go0 (Nat.le_of_ble_eq_true rfl) (Tn_w (TX10_add  h) fun _ G66 ⟨e, h⟩ => ⟨e, ?_⟩)
    refine g_inc (lv' := [_, _, _, _, _, _, _, _]) rfl (Nat.le_of_ble_eq_true rfl) (Or.inr (n1_R _)) rfl ?_
    obtain ⟨q68, h⟩ := h
    exact hj1 _ _ _ _ _ _ _ _ hl3 q68 hl7 h
  · replace h := h.2 b61
    unfold vX3_copyRow_232
    refine g_ld (v := rf _) rfl (is_R _) ?_
    refine g_ld (v := rf _) rfl (is_R _) ?_
    refine g_getR (kz := 18) (c := 7) q59 rfl (Nat.le_of_ble_eq_true rfl) rfl (by decide) fun i69 => ?_
    replace h := h i69
    obtain ⟨q70, h⟩ := h
    obtain ⟨q71, h⟩ := h
    refine g_putR (kz := 18) (c := 7) q70 rfl (Nat.le_of_ble_eq_true rfl) rfl (by decide) q71 (nf10_18 q70) ?_
    replace h := h _ rfl
    refine g_ld (v := rf _) rfl (is_R _) ?_
    refine g_ld (v := rf _) rfl (is_R _) ?_
    refine g_getI (kz := 19) q59 rfl (Nat.le_of_ble_eq_true rfl) rfl fun i73 => ?_
    replace h := h i73
    refine g_putI (kz := 19) q70 rfl (Nat.le_of_ble_eq_true rfl) rfl i73 (nf10_19 q70) ?_
    replace h := h _ rfl
    refine g_ld (v := rf _) rfl (is_R _) ?_
    refine g_ld (v := rf _) rfl (is_R _) ?_
    refine g_getI (kz := 20) q59 rfl (Nat.le_of_ble_eq_true rfl) rfl fun i75 => ?_
    replace h := h i75
    refine g_putI (kz := 20) q70 rfl (Nat.le_of_ble_eq_true rfl) rfl i75 (nf10_20 q70) ?_
    replace h := h _ rfl
    refine g_ld (v := rf _) rfl (is_R _) ?_
    refine g_ld (v := rf _) rfl (is_R _) ?_
    obtain ⟨q77, h⟩ := h
    refine g_getI (kz := 15) q77 rfl (Nat.le_of_ble_eq_true rfl) rfl fun i78 => ?_
    replace h := h i78
    refine g_putI (kz := 16) q70 rfl (Nat.le_of_ble_eq_true rfl) rfl i78 (nf10_16 q70) ?_
    replace h := h _ rfl
    refine g_ld (v := rf _) rfl (is_R _) ?_
    refine g_getI (kz := 16) q59 rfl (Nat.le_of_ble_eq_true rfl) rfl fun i80 => ?_
    replace h := h i80
    refine g_st (lv' := [_, _, _, _, _, _, _, _]) (is_I _) (Nat.le_of_ble_eq_true rfl) (Or.inr (n1_R _)) rfl ?_
    exact TX3_copyRow_278 hl3 i80 hl7 hj0 hj1 hj2 h
def PX3_copyRow_171 (J : Nat → List Int → gS → (Int → gS → Prop) → Prop) (l1 : Int) (l2 : Int) (l3 : Int) (l4 : Int) (l5 : Int) (l6 : Int) (G : gS) (Q : Int → gS → Prop) : Prop :=
  (isO W0 10 (l4) ∧ (inI (G l4 13) → ((l6 < G l4 13 → ((0 : Int) ≤ l6 ∧ ((l6 : Int) < 20 ∧ (((G (l4 + 3) l6 = -1 ∨ isO W0 7 (G (l4 + 3) l6)) ∧ ∀ v, W0.2 (l4 + 3) l6 = some v → G (l4 + 3) l6 = v) → (isO W0 10 (l5) ∧ PX10_addItem l5 (G (l4 + 3) l6) G (fun _ G56 => (inI (l6 + 1) ∧ J 0 [l1, l2, l3, l4, l5, l6 + 1] G56 Q))))))) ∧ (¬ (l6 < G l4 13) → PX3_copyRow_203 J l1 l2 l3 l4 l5 0 G Q))))
set_option maxRecDepth 20000 in
theorem TX3_copyRow_171 {j : Nat → rx_K} {J : Nat → List Int → gS → (Int → gS → Prop) → Prop} {l1 : Int} {l2 : Int} {l3 : Int} {l4 : Int} {l5 : Int} {l6 : Int} {l7 : Nat} {G : gS} {Q : Int → gS → Prop} (hl3 : inI l3) (hl6 : inI l6) (hl7 : l7 % 8 ≠ 1) (hj0 : ∀ (l1 : Int) (l2 : Int) (l3 : Int) (l4 : Int) (l5 : Int) (l6 : Int) (l7 : Nat) (G : gS), (inI l3) → (inI l6) → (l7 % 8 ≠ 1) → J 0 [l1, l2, l3, l4, l5, l6] G Q → Tg W0 (j 0) [rf (820), rf (l1), rf (l2), cI (l3), rf (l4), rf (l5), cI (l6), l7] [] G (fun r G => r = 7 ∧ Q 0 G)) (hj1 : ∀ (l1 : Int) (l2 : Int) (l3 : Int) (l4 : Int) (l5 : Int) (l6 : Int) (l7 : Nat) (G : gS), (inI l3) → (inI l6) → (l7 % 8 ≠ 1) → J 1 [l1, l2, l3, l4, l5, l6] G Q → Tg W0 (j 1) [rf (820), rf (l1), rf (l2), cI (l3), rf (l4), rf (l5), cI (l6), l7] [] G (fun r G => r = 7 ∧ Q 0 G)) (hj2 : ∀ (l1 : Int) (l2 : Int) (l3 : Int) (l4 : Int) (l5 : Int) (l6 : Int) (l7 : Nat) (G : gS), (inI l3) → (inI l6) → (l7 % 8 ≠ 1) → J 2 [l1, l2, l3, l4, l5, l6] G Q → Tg W0 (j 2) [rf (820), rf (l1), rf (l2), cI (l3), rf (l4), rf (l5), cI (l6), l7] [] G (fun r G => r = 7 ∧ Q 0 G)) (h : PX3_copyRow_171 J l1 l2 l3 l4 l5 l6 G Q) : Tg W0 (vX3_copyRow_171 j) [rf (820), rf (l1), rf (l2), cI (l3), rf (l4), rf (l5), cI (l6), l7] [] G (fun r G => r = 7 ∧ Q 0 G) := by
  unfold PX3_copyRow_171 at h
  unfold vX3_copyRow_171
  refine g_ld (v := cI _) rfl (is_I _) ?_
  refine g_ld (v := rf _) rfl (is_R _) ?_
  obtain ⟨q49, h⟩ := h
  refine g_getI (kz := 13) q49 rfl (Nat.le_of_ble_eq_true rfl) rfl fun i50 => ?_
  replace h := h i50
  refine g_lt2 hl6 i50 (fun b51 => ?_) (fun b51 => ?_)
  · replace h := h.1 b51
    unfold vX3_copyRow_181
    refine g_ld (v := rf _) rfl (is_R _) ?_
    refine g_ld (v := rf _) rfl (is_R _) ?_
    refine g_getF q49 (ff10_12 q49).1 rfl (Nat.le_of_ble_eq_true rfl) (Nat.le_of_ble_eq_true rfl) ?_
    refine g_ld (v := cI _) rfl (is_I _) ?_
    obtain ⟨q52, q53, h⟩ := h
    refine g_aldRF (c := 7) (ff10_12 q49).2 q52 q53 rfl (by decide) fun i54 => ?_
    replace h := h i54
    obtain ⟨q55, h⟩ := h
    refine g_callV (As := [_]) (ci := 10) q55 (fun _ => rfl) ?_
    refine g_go0 (Nat.le_of_ble_eq_true rfl) (Tn_w (TX10_addItem  h) fun _ G56 ⟨e, h⟩ => ⟨e, ?_⟩)
    refine g_inc (lv' := [_, _, _, _, _, _, _, _]) rfl (Nat.le_of_ble_eq_true rfl) (Or.inr (n1_R _)) rfl ?_
    obtain ⟨q58, h⟩ := h
    exact hj0 _ _ _ _ _ _ _ _ hl3 q58 hl7 h
  · replace h := h.2 b51
    unfold vX3_copyRow_200
    refine g_const (v := cI (0)) rfl ?_
    refine g_st (lv' := [_, _, _, _, _, _, _, _]) (is_I _) (Nat.le_of_ble_eq_true rfl) (Or.inr (n1_R _)) rfl ?_
    exact TX3_copyRow_203 hl3 ⟨by omega, by omega⟩ hl7 hj0 hj1 hj2 h
def PX3_copyRow_0 (J : Nat → List Int → gS → (Int → gS → Prop) → Prop) (a1 : Int) (a2 : Int) (a3 : Int) (G : gS) (Q : Int → gS → Prop) : Prop :=
  (isO W0 1 (a2) ∧ (((G a2 2 = -1 ∨ ∃ n, isA W0 4 n (G a2 2)) ∧ ∀ v, W0.2 a2 2 = some v → G a2 2 = v) → (∃ n3, isA W0 4 n3 (G a2 2) ∧ ((0 : Int) ≤ a3 ∧ ((a3 : Int) < n3 ∧ (((G (G a2 2) a3 = -1 ∨ isO W0 10 (G (G a2 2) a3)) ∧ ∀ v, W0.2 (G a2 2) a3 = some v → G (G a2 2) a3 = v) → (isO W0 1 (a1) ∧ PX1_newRow a1 G (fun r10 G9 => ((r10 < 0 → Q 0 G9) ∧ (0 ≤ r10 → (∀ G13 : gS, G13 = uG G9 820 1 (a1) → ((r10 = -1 ∨ isO W0 10 (r10)) ∧ (∀ G15 : gS, G15 = uG G13 820 2 (r10) → (∀ G16 : gS, G16 = uG G15 820 3 (a3) → (isO W0 10 (G (G a2 2) a3) ∧ (inL (G16 (G (G a2 2) a3) 1) → (isO W0 10 (r10) ∧ (∀ G20 : gS, G20 = uG G16 r10 1 (G16 (G (G a2 2) a3) 1) → (inI (G20 (G (G a2 2) a3) 2) → (∀ G22 : gS, G22 = uG G20 r10 2 (G20 (G (G a2 2) a3) 2) → ((0 ≤ G22 (G (G a2 2) a3) 3 ∧ G22 (G (G a2 2) a3) 3 ≤ 1) → (∀ G24 : gS, G24 = uG G22 r10 3 (G22 (G (G a2 2) a3) 3) → ((0 ≤ G24 (G (G a2 2) a3) 4 ∧ G24 (G (G a2 2) a3) 4 ≤ 1) → (∀ G26 : gS, G26 = uG G24 r10 4 (G24 (G (G a2 2) a3) 4) → ((0 ≤ G26 (G (G a2 2) a3) 5 ∧ G26 (G (G a2 2) a3) 5 ≤ 1) → (∀ G28 : gS, G28 = uG G26 r10 5 (G26 (G (G a2 2) a3) 5) → ((0 ≤ G28 (G (G a2 2) a3) 6 ∧ G28 (G (G a2 2) a3) 6 ≤ 1) → (∀ G30 : gS, G30 = uG G28 r10 6 (G28 (G (G a2 2) a3) 6) → ((0 ≤ G30 (G (G a2 2) a3) 7 ∧ G30 (G (G a2 2) a3) 7 ≤ 1) → (∀ G32 : gS, G32 = uG G30 r10 7 (G30 (G (G a2 2) a3) 7) → (inL (G32 (G (G a2 2) a3) 8) → (∀ G34 : gS, G34 = uG G32 r10 8 (G32 (G (G a2 2) a3) 8) → (inL (G34 (G (G a2 2) a3) 9) → (∀ G36 : gS, G36 = uG G34 r10 9 (G34 (G (G a2 2) a3) 9) → ((0 : Int) ≤ 0 ∧ ((0 + 24 : Int) ≤ 24 ∧ ((0 : Int) ≤ 0 ∧ ((0 + 24 : Int) ≤ 24 ∧ ((0 : Int) ≤ 24 ∧ (∀ G42 : gS, G42 = cpG G36 ((G (G a2 2) a3) + 1) 0 (r10 + 1) 0 24 → ((0 : Int) ≤ 0 ∧ ((0 + 3 : Int) ≤ 3 ∧ ((0 : Int) ≤ 0 ∧ ((0 + 3 : Int) ≤ 3 ∧ ((0 : Int) ≤ 3 ∧ (∀ G48 : gS, G48 = cpG G42 ((G (G a2 2) a3) + 2) 0 (r10 + 2) 0 3 → PX3_copyRow_171 J a1 a2 a3 (G (G a2 2) a3) r10 0 G48 Q))))))))))))))))))))))))))))))))))))))))))))))
set_option maxRecDepth 20000 in
theorem TX3_copyRow_0 {j : Nat → rx_K} {J : Nat → List Int → gS → (Int → gS → Prop) → Prop} {a1 : Int} {a2 : Int} {a3 : Int} {G : gS} {Q : Int → gS → Prop} (ha3 : inI a3) (hj0 : ∀ (l1 : Int) (l2 : Int) (l3 : Int) (l4 : Int) (l5 : Int) (l6 : Int) (l7 : Nat) (G : gS), (inI l3) → (inI l6) → (l7 % 8 ≠ 1) → J 0 [l1, l2, l3, l4, l5, l6] G Q → Tg W0 (j 0) [rf (820), rf (l1), rf (l2), cI (l3), rf (l4), rf (l5), cI (l6), l7] [] G (fun r G => r = 7 ∧ Q 0 G)) (hj1 : ∀ (l1 : Int) (l2 : Int) (l3 : Int) (l4 : Int) (l5 : Int) (l6 : Int) (l7 : Nat) (G : gS), (inI l3) → (inI l6) → (l7 % 8 ≠ 1) → J 1 [l1, l2, l3, l4, l5, l6] G Q → Tg W0 (j 1) [rf (820), rf (l1), rf (l2), cI (l3), rf (l4), rf (l5), cI (l6), l7] [] G (fun r G => r = 7 ∧ Q 0 G)) (hj2 : ∀ (l1 : Int) (l2 : Int) (l3 : Int) (l4 : Int) (l5 : Int) (l6 : Int) (l7 : Nat) (G : gS), (inI l3) → (inI l6) → (l7 % 8 ≠ 1) → J 2 [l1, l2, l3, l4, l5, l6] G Q → Tg W0 (j 2) [rf (820), rf (l1), rf (l2), cI (l3), rf (l4), rf (l5), cI (l6), l7] [] G (fun r G => r = 7 ∧ Q 0 G)) (h : PX3_copyRow_0 J a1 a2 a3 G Q) : Tg W0 (vX3_copyRow_0 j) [rf (820), rf (a1), rf (a2), cI (a3), 7, 7, 7, 7] [] G (fun r G => r = 7 ∧ Q 0 G) := by
  unfold PX3_copyRow_0 at h
  unfold vX3_copyRow_0
  refine g_ld (v := rf _) rfl (is_R _) ?_
  obtain ⟨q1, h⟩ := h
  refine g_getAF (kz := 2) (c := 4) q1 rfl (Nat.le_of_ble_eq_true rfl) rfl fun i2 => ?_
  replace h := h i2
  refine g_ld (v := cI _) rfl (is_I _) ?_
  obtain ⟨n3, q4, h⟩ := h
  obtain ⟨q5, q6, h⟩ := h
  refine g_aldRF (c := 10) q4 q5 q6 rfl (by decide) fun i7 => ?_
  replace h := h i7
  refine g_st (lv' := [_, _, _, _, _, _, _, _]) (is_R _) (Nat.le_of_ble_eq_true rfl) (Or.inr (n1_I _)) rfl ?_
  refine g_ld (v := rf _) rfl (is_R _) ?_
  obtain ⟨q8, h⟩ := h
  refine g_callV (As := []) (ci := 1) q8 (fun _ => rfl) ?_
  refine g_go1 (Nat.le_of_ble_eq_true rfl) (Tn_w (TX1_newRow  h) fun _ G9 ⟨r10, e, h⟩ => ?_)
  subst e
  refine ⟨n7_R _, ?_⟩
  refine g_st (lv' := [_, _, _, _, _, _, _, _]) (is_R _) (Nat.le_of_ble_eq_true rfl) (Or.inr (n1_R _)) rfl ?_
  refine g_ld (v := rf _) rfl (is_R _) ?_
  refine g_nul (fun b12 => ?_) (fun b12 => ?_)
  · replace h := h.1 b12
    unfold vX3_copyRow_19
    exact g_ret0 ⟨rfl, h⟩
  · replace h := h.2 b12
    unfold vX3_copyRow_20
    refine g_ld (v := rf _) rfl (is_R _) ?_
    refine g_ld (v := rf _) rfl (is_R _) ?_
    refine g_putR (kz := 1) (c := 1) oC3 rfl (Nat.le_of_ble_eq_true rfl) rfl (by decide) (Or.inr q8) (zfin_no (c := 820) (j := 1) rfl) ?_
    replace h := h _ rfl
    refine g_ld (v := rf _) rfl (is_R _) ?_
    refine g_ld (v := rf _) rfl (is_R _) ?_
    obtain ⟨q14, h⟩ := h
    refine g_putR (kz := 2) (c := 10) oC3 rfl (Nat.le_of_ble_eq_true rfl) rfl (by decide) q14 (zfin_no (c := 820) (j := 2) rfl) ?_
    replace h := h _ rfl
    refine g_ld (v := rf _) rfl (is_R _) ?_
    refine g_ld (v := cI _) rfl (is_I _) ?_
    refine g_putI (kz := 3) oC3 rfl (Nat.le_of_ble_eq_true rfl) rfl ha3 (zfin_no (c := 820) (j := 3) rfl) ?_
    replace h := h _ rfl
    refine g_ld (v := rf _) rfl (is_R _) ?_
    refine g_ld (v := rf _) rfl (is_R _) ?_
    obtain ⟨q17, h⟩ := h
    refine g_getL (kz := 1) q17 rfl (Nat.le_of_ble_eq_true rfl) rfl fun i18 => ?_
    replace h := h i18
    obtain ⟨q19, h⟩ := h
    refine g_putL (kz := 1) q19 rfl (Nat.le_of_ble_eq_true rfl) rfl i18 (nf10_1 q19) ?_
    replace h := h _ rfl
    refine g_ld (v := rf _) rfl (is_R _) ?_
    refine g_ld (v := rf _) rfl (is_R _) ?_
    refine g_getI (kz := 2) q17 rfl (Nat.le_of_ble_eq_true rfl) rfl fun i21 => ?_
    replace h := h i21
    refine g_putI (kz := 2) q19 rfl (Nat.le_of_ble_eq_true rfl) rfl i21 (nf10_2 q19) ?_
    replace h := h _ rfl
    refine g_ld (v := rf _) rfl (is_R _) ?_
    refine g_ld (v := rf _) rfl (is_R _) ?_
    refine g_getZ (kz := 3) q17 rfl (Nat.le_of_ble_eq_true rfl) rfl fun i23 => ?_
    replace h := h i23
    refine g_putZ (kz := 3) q19 rfl (Nat.le_of_ble_eq_true rfl) rfl i23 (nf10_3 q19) ?_
    replace h := h _ rfl
    refine g_ld (v := rf _) rfl (is_R _) ?_
    refine g_ld (v := rf _) rfl (is_R _) ?_
    refine g_getZ (kz := 4) q17 rfl (Nat.le_of_ble_eq_true rfl) rfl fun i25 => ?_
    replace h := h i25
    unfold vX3_copyRow_73
    refine g_putZ (kz := 4) q19 rfl (Nat.le_of_ble_eq_true rfl) rfl i25 (nf10_4 q19) ?_
    replace h := h _ rfl
    refine g_ld (v := rf _) rfl (is_R _) ?_
    refine g_ld (v := rf _) rfl (is_R _) ?_
    refine g_getZ (kz := 5) q17 rfl (Nat.le_of_ble_eq_true rfl) rfl fun i27 => ?_
    replace h := h i27
    refine g_putZ (kz := 5) q19 rfl (Nat.le_of_ble_eq_true rfl) rfl i27 (nf10_5 q19) ?_
    replace h := h _ rfl
    refine g_ld (v := rf _) rfl (is_R _) ?_
    refine g_ld (v := rf _) rfl (is_R _) ?_
    refine g_getZ (kz := 6) q17 rfl (Nat.le_of_ble_eq_true rfl) rfl fun i29 => ?_
    replace h := h i29
    refine g_putZ (kz := 6) q19 rfl (Nat.le_of_ble_eq_true rfl) rfl i29 (nf10_6 q19) ?_
    replace h := h _ rfl
    refine g_ld (v := rf _) rfl (is_R _) ?_
    refine g_ld (v := rf _) rfl (is_R _) ?_
    refine g_getZ (kz := 7) q17 rfl (Nat.le_of_ble_eq_true rfl) rfl fun i31 => ?_
    replace h := h i31
    refine g_putZ (kz := 7) q19 rfl (Nat.le_of_ble_eq_true rfl) rfl i31 (nf10_7 q19) ?_
    replace h := h _ rfl
    refine g_ld (v := rf _) rfl (is_R _) ?_
    refine g_ld (v := rf _) rfl (is_R _) ?_
    refine g_getL (kz := 8) q17 rfl (Nat.le_of_ble_eq_true rfl) rfl fun i33 => ?_
    replace h := h i33
    refine g_putL (kz := 8) q19 rfl (Nat.le_of_ble_eq_true rfl) rfl i33 (nf10_8 q19) ?_
    replace h := h _ rfl
    refine g_ld (v := rf _) rfl (is_R _) ?_
    refine g_ld (v := rf _) rfl (is_R _) ?_
    refine g_getL (kz := 9) q17 rfl (Nat.le_of_ble_eq_true rfl) rfl fun i35 => ?_
    replace h := h i35
    refine g_putL (kz := 9) q19 rfl (Nat.le_of_ble_eq_true rfl) rfl i35 (nf10_9 q19) ?_
    replace h := h _ rfl
    refine g_ld (v := rf _) rfl (is_R _) ?_
    refine g_getF q17 (ff10_10 q17).1 rfl (Nat.le_of_ble_eq_true rfl) (Nat.le_of_ble_eq_true rfl) ?_
    refine g_const (v := cI (0)) rfl ?_
    unfold vX3_copyRow_132
    refine g_ld (v := rf _) rfl (is_R _) ?_
    refine g_getF q19 (ff10_10 q19).1 rfl (Nat.le_of_ble_eq_true rfl) (Nat.le_of_ble_eq_true rfl) ?_
    refine g_const (v := cI (0)) rfl ?_
    refine g_ld (v := rf _) rfl (is_R _) ?_
    refine g_getF q17 (ff10_10 q17).1 rfl (Nat.le_of_ble_eq_true rfl) (Nat.le_of_ble_eq_true rfl) ?_
    refine g_alen (ff10_10 q17).2 ?_
    obtain ⟨q37, q38, q39, q40, q41, h⟩ := h
    refine g_copyL (ff10_10 q17).2 (ff10_10 q19).2 q37 q38 q39 q40 q41 (Nat.le_of_ble_eq_true rfl) (fun _ => nfL (ff10_10 q19).2) ?_
    replace h := h _ rfl
    refine g_ld (v := rf _) rfl (is_R _) ?_
    refine g_getF q17 (ff10_11 q17).1 rfl (Nat.le_of_ble_eq_true rfl) (Nat.le_of_ble_eq_true rfl) ?_
    refine g_const (v := cI (0)) rfl ?_
    refine g_ld (v := rf _) rfl (is_R _) ?_
    refine g_getF q19 (ff10_11 q19).1 rfl (Nat.le_of_ble_eq_true rfl) (Nat.le_of_ble_eq_true rfl) ?_
    refine g_const (v := cI (0)) rfl ?_
    refine g_ld (v := rf _) rfl (is_R _) ?_
    refine g_getF q17 (ff10_11 q17).1 rfl (Nat.le_of_ble_eq_true rfl) (Nat.le_of_ble_eq_true rfl) ?_
    refine g_alen (ff10_11 q17).2 ?_
    obtain ⟨q43, q44, q45, q46, q47, h⟩ := h
    refine g_copyI (ff10_11 q17).2 (ff10_11 q19).2 q43 q44 q45 q46 q47 (Nat.le_of_ble_eq_true rfl) (fun _ => nfI (ff10_11 q19).2) ?_
    replace h := h _ rfl
    refine g_const (v := cI (0)) rfl ?_
    refine g_st (lv' := [_, _, _, _, _, _, _, _]) (is_I _) (Nat.le_of_ble_eq_true rfl) (Or.inr (n1_R _)) rfl ?_
    exact TX3_copyRow_171 ha3 ⟨by omega, by omega⟩ (show 7 % 8 ≠ 1 by decide) hj0 hj1 hj2 h
def PX3_copyRow_J : Nat → Nat → List Int → gS → (Int → gS → Prop) → Prop
  | 0, _, _, _, _ => False
  | f + 1, h, L, G, Q => match h, L with
    | 0, [l1, l2, l3, l4, l5, l6] => PX3_copyRow_171 (PX3_copyRow_J f) l1 l2 l3 l4 l5 l6 G Q
    | 1, [l1, l2, l3, l4, l5, l6] => PX3_copyRow_203 (PX3_copyRow_J f) l1 l2 l3 l4 l5 l6 G Q
    | 2, [l1, l2, l3, l4, l5, l6] => PX3_copyRow_278 (PX3_copyRow_J f) l1 l2 l3 l4 l5 l6 G Q
    | _, _ => False
theorem TX3_copyRow_J {Q : Int → gS → Prop} : ∀ f N : Nat, f ≤ N → (∀ (l1 : Int) (l2 : Int) (l3 : Int) (l4 : Int) (l5 : Int) (l6 : Int) (l7 : Nat) (G : gS), (inI l3) → (inI l6) → (l7 % 8 ≠ 1) → (PX3_copyRow_J f) 0 [l1, l2, l3, l4, l5, l6] G Q → Tg W0 (rx_J vhX3_copyRow N 0) [rf (820), rf (l1), rf (l2), cI (l3), rf (l4), rf (l5), cI (l6), l7] [] G (fun r G => r = 7 ∧ Q 0 G)) ∧ (∀ (l1 : Int) (l2 : Int) (l3 : Int) (l4 : Int) (l5 : Int) (l6 : Int) (l7 : Nat) (G : gS), (inI l3) → (inI l6) → (l7 % 8 ≠ 1) → (PX3_copyRow_J f) 1 [l1, l2, l3, l4, l5, l6] G Q → Tg W0 (rx_J vhX3_copyRow N 1) [rf (820), rf (l1), rf (l2), cI (l3), rf (l4), rf (l5), cI (l6), l7] [] G (fun r G => r = 7 ∧ Q 0 G)) ∧ (∀ (l1 : Int) (l2 : Int) (l3 : Int) (l4 : Int) (l5 : Int) (l6 : Int) (l7 : Nat) (G : gS), (inI l3) → (inI l6) → (l7 % 8 ≠ 1) → (PX3_copyRow_J f) 2 [l1, l2, l3, l4, l5, l6] G Q → Tg W0 (rx_J vhX3_copyRow N 2) [rf (820), rf (l1), rf (l2), cI (l3), rf (l4), rf (l5), cI (l6), l7] [] G (fun r G => r = 7 ∧ Q 0 G)) := by
  intro f
  induction f with
  | zero => exact fun N _ => ⟨fun _ _ _ _ _ _ _ _ _ _ _ h => h.elim, fun _ _ _ _ _ _ _ _ _ _ _ h => h.elim, fun _ _ _ _ _ _ _ _ _ _ _ h => h.elim⟩
  | succ f ih =>
    intro N hN
    obtain ⟨M, rfl⟩ : ∃ M, N = M + 1 := ⟨N - 1, by omega⟩
    have ih := ih M (by omega)
    exact ⟨fun _ _ _ _ _ _ _ _ hl3 hl6 hl7 h => show Tg W0 (vX3_copyRow_171 (rx_J vhX3_copyRow M)) _ _ _ _ from TX3_copyRow_171 hl3 hl6 hl7 ih.1 ih.2.1 ih.2.2 h, fun _ _ _ _ _ _ _ _ hl3 hl6 hl7 h => show Tg W0 (vX3_copyRow_203 (rx_J vhX3_copyRow M)) _ _ _ _ from TX3_copyRow_203 hl3 hl6 hl7 ih.1 ih.2.1 ih.2.2 h, fun _ _ _ _ _ _ _ _ hl3 hl6 hl7 h => show Tg W0 (vX3_copyRow_278 (rx_J vhX3_copyRow M)) _ _ _ _ from TX3_copyRow_278 hl3 hl6 hl7 ih.1 ih.2.1 ih.2.2 h⟩
def PX3_copyRow (a1 : Int) (a2 : Int) (a3 : Int) (G : gS) (Q : Int → gS → Prop) : Prop := ∃ f : Nat, f ≤ 4000000000 ∧ PX3_copyRow_0 (PX3_copyRow_J f) a1 a2 a3 G Q
theorem TX3_copyRow {a1 : Int} {a2 : Int} {a3 : Int} {G : gS} {Q : Int → gS → Prop} (ha3 : inI a3) (h : PX3_copyRow a1 a2 a3 G Q) : Tn W0 FX3_copyRow [rf (820), rf (a1), rf (a2), cI (a3)] G (fun r G => r = 7 ∧ Q 0 G) := by
  obtain ⟨f, hf, h⟩ := h
  have hJ := TX3_copyRow_J (Q := Q) f 4000000000 hf
  unfold FX3_copyRow
  refine g_ent (lv' := [rf (820), rf (a1), rf (a2), cI (a3), 7, 7, 7, 7]) (flR (flR (flR (flI fl0)))) (Nat.le_of_ble_eq_true rfl) rfl ?_
  exact TX3_copyRow_0 ha3 hJ.1 hJ.2.1 hJ.2.2 h
def PX4_addBridge_63 (J : Nat → List Int → gS → (Int → gS → Prop) → Prop) (l0 : Int) (l1 : Int) (l2 : Int) (l3 : Int) (l5 : Int) (l6 : Int) (G : gS) (Q : Int → gS → Prop) : Prop :=
  (isO W0 7 (l2) ∧ (inI (G l2 9) → ((l6 < G l2 9 → (isO W0 7 (l5) ∧ ((0 : Int) ≤ l6 ∧ ((l6 : Int) < 4 ∧ (inL (G (l2 + 1) l6) → ((0 : Int) ≤ l6 ∧ ((l6 : Int) < 4 ∧ (∀ G27 : gS, G27 = uG G (l5 + 1) l6 (G (l2 + 1) l6) → (inI (l6 + 1) ∧ J 0 [l0, l1, l2, l3, l5, l6 + 1] G27 Q))))))))) ∧ (¬ (l6 < G l2 9) → (isO W0 10 (l1) ∧ PX10_add l1 l5 G (fun _ G30 => Q (l5) G30))))))
set_option maxRecDepth 20000 in
theorem TX4_addBridge_63 {j : Nat → rx_K} {J : Nat → List Int → gS → (Int → gS → Prop) → Prop} {l0 : Int} {l1 : Int} {l2 : Int} {l3 : Int} {l4 : Nat} {l5 : Int} {l6 : Int} {G : gS} {Q : Int → gS → Prop} (hl3 : inL l3) (hl4 : l4 % 8 ≠ 1) (hl6 : inI l6) (hj0 : ∀ (l0 : Int) (l1 : Int) (l2 : Int) (l3 : Int) (l4 : Nat) (l5 : Int) (l6 : Int) (G : gS), (inL l3) → (l4 % 8 ≠ 1) → (inI l6) → J 0 [l0, l1, l2, l3, l5, l6] G Q → Tg W0 (j 0) [rf (l0), rf (l1), rf (l2), cL (l3), l4, rf (l5), cI (l6)] [] G (fun r G => ∃ v, r = rf v ∧ Q v G)) (h : PX4_addBridge_63 J l0 l1 l2 l3 l5 l6 G Q) : Tg W0 (vX4_addBridge_63 j) [rf (l0), rf (l1), rf (l2), cL (l3), l4, rf (l5), cI (l6)] [] G (fun r G => ∃ v, r = rf v ∧ Q v G) := by
  unfold PX4_addBridge_63 at h
  unfold vX4_addBridge_63
  refine g_ld (v := cI _) rfl (is_I _) ?_
  refine g_ld (v := rf _) rfl (is_R _) ?_
  obtain ⟨q18, h⟩ := h
  refine g_getI (kz := 9) q18 rfl (Nat.le_of_ble_eq_true rfl) rfl fun i19 => ?_
  replace h := h i19
  refine g_lt2 hl6 i19 (fun b20 => ?_) (fun b20 => ?_)
  · replace h := h.1 b20
    unfold vX4_addBridge_72
    refine g_ld (v := rf _) rfl (is_R _) ?_
    obtain ⟨q21, h⟩ := h
    refine g_getF q21 (ff7_10 q21).1 rfl (Nat.le_of_ble_eq_true rfl) (Nat.le_of_ble_eq_true rfl) ?_
    refine g_ld (v := cI _) rfl (is_I _) ?_
    refine g_ld (v := rf _) rfl (is_R _) ?_
    refine g_getF q18 (ff7_10 q18).1 rfl (Nat.le_of_ble_eq_true rfl) (Nat.le_of_ble_eq_true rfl) ?_
    refine g_ld (v := cI _) rfl (is_I _) ?_
    obtain ⟨q22, q23, h⟩ := h
    refine g_aldL (ff7_10 q18).2 q22 q23 rfl fun i24 => ?_
    replace h := h i24
    obtain ⟨q25, q26, h⟩ := h
    refine g_astL (ff7_10 q21).2 q25 q26 i24 (nfL (ff7_10 q21).2) ?_
    replace h := h _ rfl
    refine g_inc (lv' := [_, _, _, _, _, _, _]) rfl (Nat.le_of_ble_eq_true rfl) (Or.inr (n1_R _)) rfl ?_
    obtain ⟨q28, h⟩ := h
    exact hj0 _ _ _ _ _ _ _ _ hl3 hl4 q28 h
  · replace h := h.2 b20
    unfold vX4_addBridge_93
    refine g_ld (v := rf _) rfl (is_R _) ?_
    refine g_ld (v := rf _) rfl (is_R _) ?_
    obtain ⟨q29, h⟩ := h
    refine g_callV (As := [_]) (ci := 10) q29 (fun _ => rfl) ?_
    refine g_go0 (Nat.le_of_ble_eq_true rfl) (Tn_w (TX10_add  h) fun _ G30 ⟨e, h⟩ => ⟨e, ?_⟩)
    refine g_ld (v := rf _) rfl (is_R _) ?_
    exact g_ret1 (is_R _) ⟨_, rfl, h⟩
def PX4_addBridge_0 (J : Nat → List Int → gS → (Int → gS → Prop) → Prop) (a0 : Int) (a1 : Int) (a2 : Int) (a3 : Int) (G : gS) (Q : Int → gS → Prop) : Prop :=
  (isO W0 1 (a0) ∧ PX1_newMember a0 G (fun r3 G2 => (isO W0 7 (r3) ∧ (∀ G6 : gS, G6 = uG G2 r3 0 (1) → (∀ G7 : gS, G7 = uG G6 r3 5 (1) → (isO W0 7 (a2) ∧ ((0 ≤ G7 a2 2 ∧ G7 a2 2 ≤ 1) → (∀ G10 : gS, G10 = uG G7 r3 2 (G7 a2 2) → (inI (G10 a2 1) → (∀ G12 : gS, G12 = uG G10 r3 1 (G10 a2 1) → (inL (G12 a2 7) → (∀ G14 : gS, G14 = uG G12 r3 7 (G12 a2 7) → (∀ G15 : gS, G15 = uG G14 r3 8 (a3) → (inI (G15 a2 9) → (∀ G17 : gS, G17 = uG G15 r3 9 (G15 a2 9) → PX4_addBridge_63 J a0 a1 a2 a3 r3 0 G17 Q)))))))))))))))
set_option maxRecDepth 20000 in
theorem TX4_addBridge_0 {j : Nat → rx_K} {J : Nat → List Int → gS → (Int → gS → Prop) → Prop} {a0 : Int} {a1 : Int} {a2 : Int} {a3 : Int} {G : gS} {Q : Int → gS → Prop} (ha3 : inL a3) (hj0 : ∀ (l0 : Int) (l1 : Int) (l2 : Int) (l3 : Int) (l4 : Nat) (l5 : Int) (l6 : Int) (G : gS), (inL l3) → (l4 % 8 ≠ 1) → (inI l6) → J 0 [l0, l1, l2, l3, l5, l6] G Q → Tg W0 (j 0) [rf (l0), rf (l1), rf (l2), cL (l3), l4, rf (l5), cI (l6)] [] G (fun r G => ∃ v, r = rf v ∧ Q v G)) (h : PX4_addBridge_0 J a0 a1 a2 a3 G Q) : Tg W0 (vX4_addBridge_0 j) [rf (a0), rf (a1), rf (a2), cL (a3), 7, 7, 7] [] G (fun r G => ∃ v, r = rf v ∧ Q v G) := by
  unfold PX4_addBridge_0 at h
  unfold vX4_addBridge_0
  refine g_ld (v := rf _) rfl (is_R _) ?_
  obtain ⟨q1, h⟩ := h
  refine g_callV (As := []) (ci := 1) q1 (fun _ => rfl) ?_
  refine g_go1 (Nat.le_of_ble_eq_true rfl) (Tn_w (TX1_newMember  h) fun _ G2 ⟨r3, e, h⟩ => ?_)
  subst e
  refine ⟨n7_R _, ?_⟩
  refine g_st (lv' := [_, _, _, _, _, _, _]) (is_R _) (Nat.le_of_ble_eq_true rfl) (Or.inr (show 7 % 8 ≠ 1 by decide)) rfl ?_
  refine g_ld (v := rf _) rfl (is_R _) ?_
  refine g_const (v := cI (1)) rfl ?_
  obtain ⟨q5, h⟩ := h
  refine g_putI (kz := 0) q5 rfl (Nat.le_of_ble_eq_true rfl) rfl ⟨by omega, by omega⟩ (nf7_0 q5) ?_
  replace h := h _ rfl
  refine g_ld (v := rf _) rfl (is_R _) ?_
  refine g_const (v := cI (1)) rfl ?_
  refine g_putZ (kz := 5) q5 rfl (Nat.le_of_ble_eq_true rfl) rfl (by omega) (nf7_5 q5) ?_
  replace h := h _ rfl
  refine g_ld (v := rf _) rfl (is_R _) ?_
  refine g_ld (v := rf _) rfl (is_R _) ?_
  obtain ⟨q8, h⟩ := h
  refine g_getZ (kz := 2) q8 rfl (Nat.le_of_ble_eq_true rfl) rfl fun i9 => ?_
  replace h := h i9
  refine g_putZ (kz := 2) q5 rfl (Nat.le_of_ble_eq_true rfl) rfl i9 (nf7_2 q5) ?_
  replace h := h _ rfl
  refine g_ld (v := rf _) rfl (is_R _) ?_
  refine g_ld (v := rf _) rfl (is_R _) ?_
  refine g_getI (kz := 1) q8 rfl (Nat.le_of_ble_eq_true rfl) rfl fun i11 => ?_
  replace h := h i11
  refine g_putI (kz := 1) q5 rfl (Nat.le_of_ble_eq_true rfl) rfl i11 (nf7_1 q5) ?_
  replace h := h _ rfl
  refine g_ld (v := rf _) rfl (is_R _) ?_
  refine g_ld (v := rf _) rfl (is_R _) ?_
  refine g_getL (kz := 7) q8 rfl (Nat.le_of_ble_eq_true rfl) rfl fun i13 => ?_
  replace h := h i13
  refine g_putL (kz := 7) q5 rfl (Nat.le_of_ble_eq_true rfl) rfl i13 (nf7_7 q5) ?_
  replace h := h _ rfl
  refine g_ld (v := rf _) rfl (is_R _) ?_
  refine g_ld (v := cL _) rfl (is_L _) ?_
  refine g_putL (kz := 8) q5 rfl (Nat.le_of_ble_eq_true rfl) rfl ha3 (nf7_8 q5) ?_
  replace h := h _ rfl
  unfold vX4_addBridge_51
  refine g_ld (v := rf _) rfl (is_R _) ?_
  refine g_ld (v := rf _) rfl (is_R _) ?_
  refine g_getI (kz := 9) q8 rfl (Nat.le_of_ble_eq_true rfl) rfl fun i16 => ?_
  replace h := h i16
  refine g_putI (kz := 9) q5 rfl (Nat.le_of_ble_eq_true rfl) rfl i16 (nf7_9 q5) ?_
  replace h := h _ rfl
  refine g_const (v := cI (0)) rfl ?_
  refine g_st (lv' := [_, _, _, _, _, _, _]) (is_I _) (Nat.le_of_ble_eq_true rfl) (Or.inr (n1_R _)) rfl ?_
  exact TX4_addBridge_63 ha3 (show 7 % 8 ≠ 1 by decide) ⟨by omega, by omega⟩ hj0 h
def PX4_addBridge_J : Nat → Nat → List Int → gS → (Int → gS → Prop) → Prop
  | 0, _, _, _, _ => False
  | f + 1, h, L, G, Q => match h, L with
    | 0, [l0, l1, l2, l3, l5, l6] => PX4_addBridge_63 (PX4_addBridge_J f) l0 l1 l2 l3 l5 l6 G Q
    | _, _ => False
theorem TX4_addBridge_J {Q : Int → gS → Prop} : ∀ f N : Nat, f ≤ N → (∀ (l0 : Int) (l1 : Int) (l2 : Int) (l3 : Int) (l4 : Nat) (l5 : Int) (l6 : Int) (G : gS), (inL l3) → (l4 % 8 ≠ 1) → (inI l6) → (PX4_addBridge_J f) 0 [l0, l1, l2, l3, l5, l6] G Q → Tg W0 (rx_J vhX4_addBridge N 0) [rf (l0), rf (l1), rf (l2), cL (l3), l4, rf (l5), cI (l6)] [] G (fun r G => ∃ v, r = rf v ∧ Q v G)) := by
  intro f
  induction f with
  | zero => exact fun N _ => fun _ _ _ _ _ _ _ _ _ _ _ h => h.elim
  | succ f ih =>
    intro N hN
    obtain ⟨M, rfl⟩ : ∃ M, N = M + 1 := ⟨N - 1, by omega⟩
    have ih := ih M (by omega)
    exact fun _ _ _ _ _ _ _ _ hl3 hl4 hl6 h => show Tg W0 (vX4_addBridge_63 (rx_J vhX4_addBridge M)) _ _ _ _ from TX4_addBridge_63 hl3 hl4 hl6 ih h
def PX4_addBridge (a0 : Int) (a1 : Int) (a2 : Int) (a3 : Int) (G : gS) (Q : Int → gS → Prop) : Prop := ∃ f : Nat, f ≤ 4000000000 ∧ PX4_addBridge_0 (PX4_addBridge_J f) a0 a1 a2 a3 G Q
theorem TX4_addBridge {a0 : Int} {a1 : Int} {a2 : Int} {a3 : Int} {G : gS} {Q : Int → gS → Prop} (ha3 : inL a3) (h : PX4_addBridge a0 a1 a2 a3 G Q) : Tn W0 FX4_addBridge [rf (a0), rf (a1), rf (a2), cL (a3)] G (fun r G => ∃ v, r = rf v ∧ Q v G) := by
  obtain ⟨f, hf, h⟩ := h
  have hJ := TX4_addBridge_J (Q := Q) f 4000000000 hf
  unfold FX4_addBridge
  refine g_ent (lv' := [rf (a0), rf (a1), rf (a2), cL (a3), 7, 7, 7]) (flR (flR (flR (flL fl0)))) (Nat.le_of_ble_eq_true rfl) rfl ?_
  exact TX4_addBridge_0 ha3 hJ h
def PX4_bridge_38 (l1 : Int) (l2 : Int) (l3 : Int) (G : gS) (Q : Int → gS → Prop) : Prop :=
  Q 0 G
set_option maxRecDepth 20000 in
theorem TX4_bridge_38 {l1 : Int} {l2 : Int} {l3 : Int} {G : gS} {Q : Int → gS → Prop}  (h : PX4_bridge_38 l1 l2 l3 G Q) : Tg W0 vX4_bridge_38 [rf (814), rf (l1), rf (l2), rf (l3)] [] G (fun r G => r = 7 ∧ Q 0 G) := by
  unfold PX4_bridge_38 at h
  unfold vX4_bridge_38
  exact g_ret0 ⟨rfl, h⟩
def PX4_bridge_0 (a1 : Int) (a2 : Int) (a3 : Int) (G : gS) (Q : Int → gS → Prop) : Prop :=
  ((a3 < 0 → PX4_bridge_38 a1 a2 a3 G Q) ∧ (0 ≤ a3 → (isO W0 7 (a3) ∧ ((0 ≤ G a3 2 ∧ G a3 2 ≤ 1) → ((G a3 2 = 0 → (inL (G a3 8) → (isO W0 7 (a2) ∧ (inL (G a2 8) → ((G a3 8 = G a2 8 → PX4_bridge_38 a1 a2 a3 G Q) ∧ (¬ (G a3 8 = G a2 8) → (isO W0 10 (a1) ∧ PX10_method a1 a3 G (fun r11 G10 => ((r11 < 0 → (inI (G10 814 2) → ((G10 814 2 = 0 → PX10_bridges a1 G10 (fun r17 G16 => inI r17 → ((r17 < 12 → ((G16 814 1 = -1 ∨ isO W0 1 (G16 814 1)) → (inL (G16 a3 8) → PX4_addBridge (G16 814 1) a1 a2 (G16 a3 8) G16 (fun r23 G22 => Q 0 G22)))) ∧ (¬ (r17 < 12) → (inI (G16 a1 2) → PX4_fail 3 (G16 a1 2) G16 (fun r27 G26 => (0 ≤ r27 ∧ r27 ≤ 1) → Q 0 G26)))))) ∧ (¬ (G10 814 2 = 0) → PX4_bridge_38 a1 a2 a3 G10 Q)))) ∧ (0 ≤ r11 → PX4_bridge_38 a1 a2 a3 G10 Q)))))))))) ∧ (¬ (G a3 2 = 0) → PX4_bridge_38 a1 a2 a3 G Q))))))
set_option maxRecDepth 20000 in
theorem TX4_bridge_0 {a1 : Int} {a2 : Int} {a3 : Int} {G : gS} {Q : Int → gS → Prop}  (h : PX4_bridge_0 a1 a2 a3 G Q) : Tg W0 vX4_bridge_0 [rf (814), rf (a1), rf (a2), rf (a3)] [] G (fun r G => r = 7 ∧ Q 0 G) := by
  unfold PX4_bridge_0 at h
  unfold vX4_bridge_0
  refine g_ld (v := rf _) rfl (is_R _) ?_
  refine g_nul (fun b1 => ?_) (fun b1 => ?_)
  · replace h := h.1 b1
    exact TX4_bridge_38  h
  · replace h := h.2 b1
    unfold vX4_bridge_4
    refine g_ld (v := rf _) rfl (is_R _) ?_
    obtain ⟨q2, h⟩ := h
    refine g_getZ (kz := 2) q2 rfl (Nat.le_of_ble_eq_true rfl) rfl fun i3 => ?_
    replace h := h i3
    refine g_eq1 ⟨by omega, by omega⟩ (fun b4 => ?_) (fun b4 => ?_)
    · replace h := h.1 b4
      unfold vX4_bridge_11
      refine g_ld (v := rf _) rfl (is_R _) ?_
      refine g_getL (kz := 8) q2 rfl (Nat.le_of_ble_eq_true rfl) rfl fun i5 => ?_
      replace h := h i5
      refine g_ld (v := rf _) rfl (is_R _) ?_
      obtain ⟨q6, h⟩ := h
      refine g_getL (kz := 8) q6 rfl (Nat.le_of_ble_eq_true rfl) rfl fun i7 => ?_
      replace h := h i7
      refine g_leq i5 i7 (fun b8 => ?_) (fun b8 => ?_)
      · replace h := h.1 b8
        exact TX4_bridge_38  h
      · replace h := h.2 b8
        unfold vX4_bridge_23
        refine g_ld (v := rf _) rfl (is_R _) ?_
        refine g_ld (v := rf _) rfl (is_R _) ?_
        obtain ⟨q9, h⟩ := h
        refine g_callV (As := [_]) (ci := 10) q9 (fun _ => rfl) ?_
        refine g_go1 (Nat.le_of_ble_eq_true rfl) (Tn_w (TX10_method  h) fun _ G10 ⟨r11, e, h⟩ => ?_)
        subst e
        refine ⟨n7_R _, ?_⟩
        refine g_nul (fun b13 => ?_) (fun b13 => ?_)
        · replace h := h.1 b13
          unfold vX4_bridge_31
          refine g_ld (v := rf _) rfl (is_R _) ?_
          refine g_getI (kz := 2) oC4 rfl (Nat.le_of_ble_eq_true rfl) rfl fun i14 => ?_
          replace h := h i14
          refine g_eq1 i14 (fun b15 => ?_) (fun b15 => ?_)
          · replace h := h.1 b15
            unfold vX4_bridge_39
            refine g_ld (v := rf _) rfl (is_R _) ?_
            refine g_callV (As := []) (ci := 10) q9 (fun _ => rfl) ?_
            refine g_go1 (Nat.le_of_ble_eq_true rfl) (Tn_w (TX10_bridges  h) fun _ G16 ⟨r17, e, i18, h⟩ => ?_)
            subst e
            refine ⟨n7_I _, ?_⟩
            replace h := h i18
            refine g_const (v := cI (12)) rfl ?_
            refine g_lt2 i18 ⟨by omega, by omega⟩ (fun b19 => ?_) (fun b19 => ?_)
            · replace h := h.1 b19
              unfold vX4_bridge_59
              refine g_ld (v := rf _) rfl (is_R _) ?_
              refine g_getR (kz := 1) (c := 1) oC4 rfl (Nat.le_of_ble_eq_true rfl) rfl (by decide) fun i20 => ?_
              replace h := h i20
              refine g_ld (v := rf _) rfl (is_R _) ?_
              refine g_ld (v := rf _) rfl (is_R _) ?_
              refine g_ld (v := rf _) rfl (is_R _) ?_
              refine g_getL (kz := 8) q2 rfl (Nat.le_of_ble_eq_true rfl) rfl fun i21 => ?_
              replace h := h i21
              refine g_callS (As := [_, _, _, _]) (fun _ => rfl) ?_
              refine g_go1 (Nat.le_of_ble_eq_true rfl) (Tn_w (TX4_addBridge i21 h) fun _ G22 ⟨r23, e, h⟩ => ?_)
              subst e
              refine ⟨n7_R _, ?_⟩
              refine g_pop (ct_R _) ?_
              exact g_ret0 ⟨rfl, h⟩
            · replace h := h.2 b19
              unfold vX4_bridge_48
              refine g_ld (v := rf _) rfl (is_R _) ?_
              refine g_const (v := cI (3)) rfl ?_
              refine g_ld (v := rf _) rfl (is_R _) ?_
              refine g_getI (kz := 2) q9 rfl (Nat.le_of_ble_eq_true rfl) rfl fun i25 => ?_
              replace h := h i25
              refine g_callV (As := [_, _]) (ci := 4) oC4 (fun _ => rfl) ?_
              refine g_go1 (Nat.le_of_ble_eq_true rfl) (Tn_w (TX4_fail ⟨by omega, by omega⟩ i25 h) fun _ G26 ⟨r27, e, i28, h⟩ => ?_)
              subst e
              refine ⟨n7_I _, ?_⟩
              replace h := h i28
              refine g_pop (ct_I _) ?_
              exact g_ret0 ⟨rfl, h⟩
          · replace h := h.2 b15
            exact TX4_bridge_38  h
        · replace h := h.2 b13
          exact TX4_bridge_38  h
    · replace h := h.2 b4
      exact TX4_bridge_38  h
abbrev PX4_bridge (a1 : Int) (a2 : Int) (a3 : Int) (G : gS) (Q : Int → gS → Prop) : Prop := PX4_bridge_0 a1 a2 a3 G Q
theorem TX4_bridge {a1 : Int} {a2 : Int} {a3 : Int} {G : gS} {Q : Int → gS → Prop}  (h : PX4_bridge a1 a2 a3 G Q) : Tn W0 FX4_bridge [rf (814), rf (a1), rf (a2), rf (a3)] G (fun r G => r = 7 ∧ Q 0 G) := by
  unfold FX4_bridge
  refine g_ent (lv' := [rf (814), rf (a1), rf (a2), rf (a3)]) (flR (flR (flR (flR fl0)))) (Nat.le_of_ble_eq_true rfl) rfl ?_
  exact TX4_bridge_0  h
def PX4_bridges_183 (J : Nat → List Int → gS → (Int → gS → Prop) → Prop) (l1 : Int) (l2 : Int) (l3 : Int) (l4 : Int) (G : gS) (Q : Int → gS → Prop) : Prop :=
  Q 0 G
set_option maxRecDepth 20000 in
theorem TX4_bridges_183 {j : Nat → rx_K} {J : Nat → List Int → gS → (Int → gS → Prop) → Prop} {l1 : Int} {l2 : Int} {l3 : Int} {l4 : Int} {l5 : Nat} {l6 : Nat} {l7 : Nat} {l8 : Nat} {G : gS} {Q : Int → gS → Prop} (hl2 : inI l2) (hl3 : inI l3) (hl4 : inI l4) (hl5 : l5 % 8 ≠ 1) (hl6 : l6 % 8 ≠ 1) (hl7 : l7 % 8 ≠ 1) (hl8 : l8 % 8 ≠ 1) (hj0 : ∀ (l1 : Int) (l2 : Int) (l3 : Int) (l4 : Int) (l5 : Nat) (l6 : Nat) (l7 : Nat) (l8 : Nat) (G : gS), (inI l2) → (inI l3) → (inI l4) → (l5 % 8 ≠ 1) → (l6 % 8 ≠ 1) → (l7 % 8 ≠ 1) → (l8 % 8 ≠ 1) → J 0 [l1, l2, l3, l4] G Q → Tg W0 (j 0) [rf (814), rf (l1), cI (l2), cI (l3), cI (l4), l5, l6, l7, l8] [] G (fun r G => r = 7 ∧ Q 0 G)) (hj1 : ∀ (l1 : Int) (l2 : Int) (l3 : Int) (l4 : Int) (l5 : Int) (l6 : Int) (l7 : Int) (l8 : Nat) (G : gS), (inI l2) → (inI l3) → (inI l4) → (inI l6) → (inI l7) → (l8 % 8 ≠ 1) → J 1 [l1, l2, l3, l4, l5, l6, l7] G Q → Tg W0 (j 1) [rf (814), rf (l1), cI (l2), cI (l3), cI (l4), rf (l5), cI (l6), cI (l7), l8] [] G (fun r G => r = 7 ∧ Q 0 G)) (hj2 : ∀ (l1 : Int) (l2 : Int) (l3 : Int) (l4 : Int) (l5 : Int) (l6 : Int) (l7 : Int) (l8 : Int) (G : gS), (inI l2) → (inI l3) → (inI l4) → (inI l6) → (inI l7) → (inI l8) → J 2 [l1, l2, l3, l4, l5, l6, l7, l8] G Q → Tg W0 (j 2) [rf (814), rf (l1), cI (l2), cI (l3), cI (l4), rf (l5), cI (l6), cI (l7), cI (l8)] [] G (fun r G => r = 7 ∧ Q 0 G)) (h : PX4_bridges_183 J l1 l2 l3 l4 G Q) : Tg W0 (vX4_bridges_183 j) [rf (814), rf (l1), cI (l2), cI (l3), cI (l4), l5, l6, l7, l8] [] G (fun r G => r = 7 ∧ Q 0 G) := by
  unfold PX4_bridges_183 at h
  unfold vX4_bridges_183
  exact g_ret0 ⟨rfl, h⟩
def PX4_bridges_177 (J : Nat → List Int → gS → (Int → gS → Prop) → Prop) (l1 : Int) (l2 : Int) (l3 : Int) (l4 : Int) (l5 : Int) (G : gS) (Q : Int → gS → Prop) : Prop :=
  (inI (l4 + 1) ∧ J 0 [l1, l2, l3, l4 + 1] G Q)
set_option maxRecDepth 20000 in
theorem TX4_bridges_177 {j : Nat → rx_K} {J : Nat → List Int → gS → (Int → gS → Prop) → Prop} {l1 : Int} {l2 : Int} {l3 : Int} {l4 : Int} {l5 : Int} {l6 : Nat} {l7 : Nat} {l8 : Nat} {G : gS} {Q : Int → gS → Prop} (hl2 : inI l2) (hl3 : inI l3) (hl4 : inI l4) (hl6 : l6 % 8 ≠ 1) (hl7 : l7 % 8 ≠ 1) (hl8 : l8 % 8 ≠ 1) (hj0 : ∀ (l1 : Int) (l2 : Int) (l3 : Int) (l4 : Int) (l5 : Nat) (l6 : Nat) (l7 : Nat) (l8 : Nat) (G : gS), (inI l2) → (inI l3) → (inI l4) → (l5 % 8 ≠ 1) → (l6 % 8 ≠ 1) → (l7 % 8 ≠ 1) → (l8 % 8 ≠ 1) → J 0 [l1, l2, l3, l4] G Q → Tg W0 (j 0) [rf (814), rf (l1), cI (l2), cI (l3), cI (l4), l5, l6, l7, l8] [] G (fun r G => r = 7 ∧ Q 0 G)) (hj1 : ∀ (l1 : Int) (l2 : Int) (l3 : Int) (l4 : Int) (l5 : Int) (l6 : Int) (l7 : Int) (l8 : Nat) (G : gS), (inI l2) → (inI l3) → (inI l4) → (inI l6) → (inI l7) → (l8 % 8 ≠ 1) → J 1 [l1, l2, l3, l4, l5, l6, l7] G Q → Tg W0 (j 1) [rf (814), rf (l1), cI (l2), cI (l3), cI (l4), rf (l5), cI (l6), cI (l7), l8] [] G (fun r G => r = 7 ∧ Q 0 G)) (hj2 : ∀ (l1 : Int) (l2 : Int) (l3 : Int) (l4 : Int) (l5 : Int) (l6 : Int) (l7 : Int) (l8 : Int) (G : gS), (inI l2) → (inI l3) → (inI l4) → (inI l6) → (inI l7) → (inI l8) → J 2 [l1, l2, l3, l4, l5, l6, l7, l8] G Q → Tg W0 (j 2) [rf (814), rf (l1), cI (l2), cI (l3), cI (l4), rf (l5), cI (l6), cI (l7), cI (l8)] [] G (fun r G => r = 7 ∧ Q 0 G)) (h : PX4_bridges_177 J l1 l2 l3 l4 l5 G Q) : Tg W0 (vX4_bridges_177 j) [rf (814), rf (l1), cI (l2), cI (l3), cI (l4), rf (l5), l6, l7, l8] [] G (fun r G => r = 7 ∧ Q 0 G) := by
  unfold PX4_bridges_177 at h
  unfold vX4_bridges_177
  refine g_inc (lv' := [_, _, _, _, _, _, _, _, _]) rfl (Nat.le_of_ble_eq_true rfl) (Or.inr (n1_I _)) rfl ?_
  obtain ⟨q24, h⟩ := h
  exact hj0 _ _ _ _ _ _ _ _ _ hl2 hl3 q24 (n1_R _) hl6 hl7 hl8 h
def PX4_bridges_135 (J : Nat → List Int → gS → (Int → gS → Prop) → Prop) (l1 : Int) (l2 : Int) (l3 : Int) (l4 : Int) (l5 : Int) (l6 : Int) (l7 : Int) (l8 : Int) (G : gS) (Q : Int → gS → Prop) : Prop :=
  ((l8 < l7 → ((G 814 0 = -1 ∨ isO W0 11 (G 814 0)) → (isO W0 11 (G 814 0) ∧ ((0 : Int) ≤ (l2 * 64) + l8 ∧ (((l2 * 64) + l8 : Int) < 4096 ∧ (inI (G ((G 814 0) + 9) ((l2 * 64) + l8)) → PX4_aboveIn (G ((G 814 0) + 9) ((l2 * 64) + l8)) l2 l5 G (fun r55 G54 => PX4_bridge l1 l5 r55 G54 (fun _ G57 => (inI (l8 + 1) ∧ J 2 [l1, l2, l3, l4, l5, l6, l7, l8 + 1] G57 Q))))))))) ∧ (¬ (l8 < l7) → PX4_bridges_177 J l1 l2 l3 l4 l5 G Q))
set_option maxRecDepth 20000 in
theorem TX4_bridges_135 {j : Nat → rx_K} {J : Nat → List Int → gS → (Int → gS → Prop) → Prop} {l1 : Int} {l2 : Int} {l3 : Int} {l4 : Int} {l5 : Int} {l6 : Int} {l7 : Int} {l8 : Int} {G : gS} {Q : Int → gS → Prop} (hl2 : inI l2) (hl3 : inI l3) (hl4 : inI l4) (hl6 : inI l6) (hl7 : inI l7) (hl8 : inI l8) (hj0 : ∀ (l1 : Int) (l2 : Int) (l3 : Int) (l4 : Int) (l5 : Nat) (l6 : Nat) (l7 : Nat) (l8 : Nat) (G : gS), (inI l2) → (inI l3) → (inI l4) → (l5 % 8 ≠ 1) → (l6 % 8 ≠ 1) → (l7 % 8 ≠ 1) → (l8 % 8 ≠ 1) → J 0 [l1, l2, l3, l4] G Q → Tg W0 (j 0) [rf (814), rf (l1), cI (l2), cI (l3), cI (l4), l5, l6, l7, l8] [] G (fun r G => r = 7 ∧ Q 0 G)) (hj1 : ∀ (l1 : Int) (l2 : Int) (l3 : Int) (l4 : Int) (l5 : Int) (l6 : Int) (l7 : Int) (l8 : Nat) (G : gS), (inI l2) → (inI l3) → (inI l4) → (inI l6) → (inI l7) → (l8 % 8 ≠ 1) → J 1 [l1, l2, l3, l4, l5, l6, l7] G Q → Tg W0 (j 1) [rf (814), rf (l1), cI (l2), cI (l3), cI (l4), rf (l5), cI (l6), cI (l7), l8] [] G (fun r G => r = 7 ∧ Q 0 G)) (hj2 : ∀ (l1 : Int) (l2 : Int) (l3 : Int) (l4 : Int) (l5 : Int) (l6 : Int) (l7 : Int) (l8 : Int) (G : gS), (inI l2) → (inI l3) → (inI l4) → (inI l6) → (inI l7) → (inI l8) → J 2 [l1, l2, l3, l4, l5, l6, l7, l8] G Q → Tg W0 (j 2) [rf (814), rf (l1), cI (l2), cI (l3), cI (l4), rf (l5), cI (l6), cI (l7), cI (l8)] [] G (fun r G => r = 7 ∧ Q 0 G)) (h : PX4_bridges_135 J l1 l2 l3 l4 l5 l6 l7 l8 G Q) : Tg W0 (vX4_bridges_135 j) [rf (814), rf (l1), cI (l2), cI (l3), cI (l4), rf (l5), cI (l6), cI (l7), cI (l8)] [] G (fun r G => r = 7 ∧ Q 0 G) := by
  unfold PX4_bridges_135 at h
  unfold vX4_bridges_135
  refine g_ld (v := cI _) rfl (is_I _) ?_
  refine g_ld (v := cI _) rfl (is_I _) ?_
  refine g_lt2 hl8 hl7 (fun b48 => ?_) (fun b48 => ?_)
  · replace h := h.1 b48
    unfold vX4_bridges_142
    refine g_ld (v := rf _) rfl (is_R _) ?_
    refine g_ld (v := rf _) rfl (is_R _) ?_
    refine g_ld (v := rf _) rfl (is_R _) ?_
    refine g_ld (v := rf _) rfl (is_R _) ?_
    refine g_ld (v := rf _) rfl (is_R _) ?_
    refine g_getR (kz := 0) (c := 11) oC4 rfl (Nat.le_of_ble_eq_true rfl) rfl (by decide) fun i49 => ?_
    replace h := h i49
    obtain ⟨q50, h⟩ := h
    refine g_getF q50 (ff11_10 q50).1 rfl (Nat.le_of_ble_eq_true rfl) (Nat.le_of_ble_eq_true rfl) ?_
    refine g_ld (v := cI _) rfl (is_I _) ?_
    refine g_const (v := cI (64)) rfl ?_
    refine g_mul ?_
    refine g_ld (v := cI _) rfl (is_I _) ?_
    refine g_add ?_
    obtain ⟨q51, q52, h⟩ := h
    refine g_aldI (ff11_10 q50).2 q51 q52 rfl fun i53 => ?_
    replace h := h i53
    refine g_ld (v := cI _) rfl (is_I _) ?_
    refine g_ld (v := rf _) rfl (is_R _) ?_
    refine g_callV (As := [_, _, _]) (ci := 4) oC4 (fun _ => rfl) ?_
    refine g_go1 (by simp only [cs_c, cs_0, ct_I, ct_L, ct_R]; exact Nat.le_of_ble_eq_true rfl) (Tn_w (TX4_aboveIn i53 hl2 h) fun _ G54 ⟨r55, e, h⟩ => ?_)
    subst e
    refine ⟨n7_R _, ?_⟩
    refine g_callV (As := [_, _, _]) (ci := 4) oC4 (fun _ => rfl) ?_
    refine g_go0 (Nat.le_of_ble_eq_true rfl) (Tn_w (TX4_bridge  h) fun _ G57 ⟨e, h⟩ => ⟨e, ?_⟩)
    refine g_inc (lv' := [_, _, _, _, _, _, _, _, _]) rfl (Nat.le_of_ble_eq_true rfl) (Or.inr (n1_I _)) rfl ?_
    obtain ⟨q59, h⟩ := h
    exact hj2 _ _ _ _ _ _ _ _ _ hl2 hl3 hl4 hl6 hl7 q59 h
  · replace h := h.2 b48
    exact TX4_bridges_177 hl2 hl3 hl4 (n1_I _) (n1_I _) (n1_I _) hj0 hj1 hj2 h
def PX4_bridges_122 (J : Nat → List Int → gS → (Int → gS → Prop) → Prop) (l1 : Int) (l2 : Int) (l3 : Int) (l4 : Int) (l5 : Int) (l6 : Int) (l7 : Int) (G : gS) (Q : Int → gS → Prop) : Prop :=
  ((G 814 0 = -1 ∨ isO W0 11 (G 814 0)) → (isO W0 11 (G 814 0) ∧ PX11_faces (G 814 0) l2 G (fun r46 G45 => inI r46 → PX4_bridges_135 J l1 l2 l3 l4 l5 l6 r46 0 G45 Q)))
set_option maxRecDepth 20000 in
theorem TX4_bridges_122 {j : Nat → rx_K} {J : Nat → List Int → gS → (Int → gS → Prop) → Prop} {l1 : Int} {l2 : Int} {l3 : Int} {l4 : Int} {l5 : Int} {l6 : Int} {l7 : Int} {l8 : Nat} {G : gS} {Q : Int → gS → Prop} (hl2 : inI l2) (hl3 : inI l3) (hl4 : inI l4) (hl6 : inI l6) (hl7 : inI l7) (hl8 : l8 % 8 ≠ 1) (hj0 : ∀ (l1 : Int) (l2 : Int) (l3 : Int) (l4 : Int) (l5 : Nat) (l6 : Nat) (l7 : Nat) (l8 : Nat) (G : gS), (inI l2) → (inI l3) → (inI l4) → (l5 % 8 ≠ 1) → (l6 % 8 ≠ 1) → (l7 % 8 ≠ 1) → (l8 % 8 ≠ 1) → J 0 [l1, l2, l3, l4] G Q → Tg W0 (j 0) [rf (814), rf (l1), cI (l2), cI (l3), cI (l4), l5, l6, l7, l8] [] G (fun r G => r = 7 ∧ Q 0 G)) (hj1 : ∀ (l1 : Int) (l2 : Int) (l3 : Int) (l4 : Int) (l5 : Int) (l6 : Int) (l7 : Int) (l8 : Nat) (G : gS), (inI l2) → (inI l3) → (inI l4) → (inI l6) → (inI l7) → (l8 % 8 ≠ 1) → J 1 [l1, l2, l3, l4, l5, l6, l7] G Q → Tg W0 (j 1) [rf (814), rf (l1), cI (l2), cI (l3), cI (l4), rf (l5), cI (l6), cI (l7), l8] [] G (fun r G => r = 7 ∧ Q 0 G)) (hj2 : ∀ (l1 : Int) (l2 : Int) (l3 : Int) (l4 : Int) (l5 : Int) (l6 : Int) (l7 : Int) (l8 : Int) (G : gS), (inI l2) → (inI l3) → (inI l4) → (inI l6) → (inI l7) → (inI l8) → J 2 [l1, l2, l3, l4, l5, l6, l7, l8] G Q → Tg W0 (j 2) [rf (814), rf (l1), cI (l2), cI (l3), cI (l4), rf (l5), cI (l6), cI (l7), cI (l8)] [] G (fun r G => r = 7 ∧ Q 0 G)) (h : PX4_bridges_122 J l1 l2 l3 l4 l5 l6 l7 G Q) : Tg W0 (vX4_bridges_122 j) [rf (814), rf (l1), cI (l2), cI (l3), cI (l4), rf (l5), cI (l6), cI (l7), l8] [] G (fun r G => r = 7 ∧ Q 0 G) := by
  unfold PX4_bridges_122 at h
  unfold vX4_bridges_122
  refine g_ld (v := rf _) rfl (is_R _) ?_
  refine g_getR (kz := 0) (c := 11) oC4 rfl (Nat.le_of_ble_eq_true rfl) rfl (by decide) fun i43 => ?_
  replace h := h i43
  refine g_ld (v := cI _) rfl (is_I _) ?_
  obtain ⟨q44, h⟩ := h
  refine g_callV (As := [_]) (ci := 11) q44 (fun _ => rfl) ?_
  refine g_go1 (Nat.le_of_ble_eq_true rfl) (Tn_w (TX11_faces hl2 h) fun _ G45 ⟨r46, e, i47, h⟩ => ?_)
  subst e
  refine ⟨n7_I _, ?_⟩
  replace h := h i47
  refine g_st (lv' := [_, _, _, _, _, _, _, _, _]) (is_I _) (Nat.le_of_ble_eq_true rfl) (Or.inr (n1_I _)) rfl ?_
  refine g_const (v := cI (0)) rfl ?_
  refine g_st (lv' := [_, _, _, _, _, _, _, _, _]) (is_I _) (Nat.le_of_ble_eq_true rfl) (Or.inr (n1_I _)) rfl ?_
  exact TX4_bridges_135 hl2 hl3 hl4 hl6 i47 ⟨by omega, by omega⟩ hj0 hj1 hj2 h
def PX4_bridges_69 (J : Nat → List Int → gS → (Int → gS → Prop) → Prop) (l1 : Int) (l2 : Int) (l3 : Int) (l4 : Int) (l5 : Int) (l6 : Int) (l7 : Int) (G : gS) (Q : Int → gS → Prop) : Prop :=
  ((G 814 0 = -1 ∨ isO W0 11 (G 814 0)) → (isO W0 11 (G 814 0) ∧ ((0 : Int) ≤ l2 ∧ ((l2 : Int) < 64 ∧ (inI (G ((G 814 0) + 3) l2) → ((l7 < G ((G 814 0) + 3) l2 → ((l6 < 0 → PX4_bridges_122 J l1 l2 l3 l4 l5 l6 l7 G Q) ∧ (¬ (l6 < 0) → PX4_aboveIn l6 l2 l5 G (fun r33 G32 => PX4_bridge l1 l5 r33 G32 (fun _ G35 => ((G35 814 0 = -1 ∨ isO W0 11 (G35 814 0)) → (isO W0 11 (G35 814 0) ∧ ((0 : Int) ≤ l6 ∧ ((l6 : Int) < 64 ∧ (inI (G35 ((G35 814 0) + 2) l6) → (inI (l7 + 1) ∧ J 1 [l1, l2, l3, l4, l5, G35 ((G35 814 0) + 2) l6, l7 + 1] G35 Q))))))))))) ∧ (¬ (l7 < G ((G 814 0) + 3) l2) → PX4_bridges_122 J l1 l2 l3 l4 l5 l6 l7 G Q)))))))
set_option maxRecDepth 20000 in
theorem TX4_bridges_69 {j : Nat → rx_K} {J : Nat → List Int → gS → (Int → gS → Prop) → Prop} {l1 : Int} {l2 : Int} {l3 : Int} {l4 : Int} {l5 : Int} {l6 : Int} {l7 : Int} {l8 : Nat} {G : gS} {Q : Int → gS → Prop} (hl2 : inI l2) (hl3 : inI l3) (hl4 : inI l4) (hl6 : inI l6) (hl7 : inI l7) (hl8 : l8 % 8 ≠ 1) (hj0 : ∀ (l1 : Int) (l2 : Int) (l3 : Int) (l4 : Int) (l5 : Nat) (l6 : Nat) (l7 : Nat) (l8 : Nat) (G : gS), (inI l2) → (inI l3) → (inI l4) → (l5 % 8 ≠ 1) → (l6 % 8 ≠ 1) → (l7 % 8 ≠ 1) → (l8 % 8 ≠ 1) → J 0 [l1, l2, l3, l4] G Q → Tg W0 (j 0) [rf (814), rf (l1), cI (l2), cI (l3), cI (l4), l5, l6, l7, l8] [] G (fun r G => r = 7 ∧ Q 0 G)) (hj1 : ∀ (l1 : Int) (l2 : Int) (l3 : Int) (l4 : Int) (l5 : Int) (l6 : Int) (l7 : Int) (l8 : Nat) (G : gS), (inI l2) → (inI l3) → (inI l4) → (inI l6) → (inI l7) → (l8 % 8 ≠ 1) → J 1 [l1, l2, l3, l4, l5, l6, l7] G Q → Tg W0 (j 1) [rf (814), rf (l1), cI (l2), cI (l3), cI (l4), rf (l5), cI (l6), cI (l7), l8] [] G (fun r G => r = 7 ∧ Q 0 G)) (hj2 : ∀ (l1 : Int) (l2 : Int) (l3 : Int) (l4 : Int) (l5 : Int) (l6 : Int) (l7 : Int) (l8 : Int) (G : gS), (inI l2) → (inI l3) → (inI l4) → (inI l6) → (inI l7) → (inI l8) → J 2 [l1, l2, l3, l4, l5, l6, l7, l8] G Q → Tg W0 (j 2) [rf (814), rf (l1), cI (l2), cI (l3), cI (l4), rf (l5), cI (l6), cI (l7), cI (l8)] [] G (fun r G => r = 7 ∧ Q 0 G)) (h : PX4_bridges_69 J l1 l2 l3 l4 l5 l6 l7 G Q) : Tg W0 (vX4_bridges_69 j) [rf (814), rf (l1), cI (l2), cI (l3), cI (l4), rf (l5), cI (l6), cI (l7), l8] [] G (fun r G => r = 7 ∧ Q 0 G) := by
  unfold PX4_bridges_69 at h
  unfold vX4_bridges_69
  refine g_ld (v := cI _) rfl (is_I _) ?_
  refine g_ld (v := rf _) rfl (is_R _) ?_
  refine g_getR (kz := 0) (c := 11) oC4 rfl (Nat.le_of_ble_eq_true rfl) rfl (by decide) fun i25 => ?_
  replace h := h i25
  obtain ⟨q26, h⟩ := h
  refine g_getF q26 (ff11_4 q26).1 rfl (Nat.le_of_ble_eq_true rfl) (Nat.le_of_ble_eq_true rfl) ?_
  refine g_ld (v := cI _) rfl (is_I _) ?_
  obtain ⟨q27, q28, h⟩ := h
  refine g_aldI (ff11_4 q26).2 q27 q28 rfl fun i29 => ?_
  replace h := h i29
  refine g_lt2 hl7 i29 (fun b30 => ?_) (fun b30 => ?_)
  · replace h := h.1 b30
    unfold vX4_bridges_83
    refine g_ld (v := cI _) rfl (is_I _) ?_
    refine g_lt1 hl6 (fun b31 => ?_) (fun b31 => ?_)
    · replace h := h.1 b31
      exact TX4_bridges_122 hl2 hl3 hl4 hl6 hl7 hl8 hj0 hj1 hj2 h
    · replace h := h.2 b31
      unfold vX4_bridges_88
      refine g_ld (v := rf _) rfl (is_R _) ?_
      refine g_ld (v := rf _) rfl (is_R _) ?_
      refine g_ld (v := rf _) rfl (is_R _) ?_
      refine g_ld (v := rf _) rfl (is_R _) ?_
      refine g_ld (v := cI _) rfl (is_I _) ?_
      refine g_ld (v := cI _) rfl (is_I _) ?_
      refine g_ld (v := rf _) rfl (is_R _) ?_
      refine g_callV (As := [_, _, _]) (ci := 4) oC4 (fun _ => rfl) ?_
      refine g_go1 (by simp only [cs_c, cs_0, ct_I, ct_L, ct_R]; exact Nat.le_of_ble_eq_true rfl) (Tn_w (TX4_aboveIn hl6 hl2 h) fun _ G32 ⟨r33, e, h⟩ => ?_)
      subst e
      refine ⟨n7_R _, ?_⟩
      refine g_callV (As := [_, _, _]) (ci := 4) oC4 (fun _ => rfl) ?_
      refine g_go0 (Nat.le_of_ble_eq_true rfl) (Tn_w (TX4_bridge  h) fun _ G35 ⟨e, h⟩ => ⟨e, ?_⟩)
      refine g_ld (v := rf _) rfl (is_R _) ?_
      refine g_getR (kz := 0) (c := 11) oC4 rfl (Nat.le_of_ble_eq_true rfl) rfl (by decide) fun i37 => ?_
      replace h := h i37
      obtain ⟨q38, h⟩ := h
      refine g_getF q38 (ff11_3 q38).1 rfl (Nat.le_of_ble_eq_true rfl) (Nat.le_of_ble_eq_true rfl) ?_
      refine g_ld (v := cI _) rfl (is_I _) ?_
      obtain ⟨q39, q40, h⟩ := h
      refine g_aldI (ff11_3 q38).2 q39 q40 rfl fun i41 => ?_
      replace h := h i41
      refine g_st (lv' := [_, _, _, _, _, _, _, _, _]) (is_I _) (Nat.le_of_ble_eq_true rfl) (Or.inr (n1_R _)) rfl ?_
      refine g_inc (lv' := [_, _, _, _, _, _, _, _, _]) rfl (Nat.le_of_ble_eq_true rfl) (Or.inr (n1_I _)) rfl ?_
      obtain ⟨q42, h⟩ := h
      exact hj1 _ _ _ _ _ _ _ _ _ hl2 hl3 hl4 i41 q42 hl8 h
  · replace h := h.2 b30
    exact TX4_bridges_122 hl2 hl3 hl4 hl6 hl7 hl8 hj0 hj1 hj2 h
def PX4_bridges_8 (J : Nat → List Int → gS → (Int → gS → Prop) → Prop) (l1 : Int) (l2 : Int) (l3 : Int) (l4 : Int) (G : gS) (Q : Int → gS → Prop) : Prop :=
  ((l4 < l3 → (inI (G 814 2) → ((G 814 2 = 0 → (isO W0 10 (l1) ∧ ((0 : Int) ≤ l4 ∧ ((l4 : Int) < 33 ∧ (((G (l1 + 4) l4 = -1 ∨ isO W0 7 (G (l1 + 4) l4)) ∧ ∀ v, W0.2 (l1 + 4) l4 = some v → G (l1 + 4) l4 = v) → (isO W0 7 (G (l1 + 4) l4) ∧ (inI (G (G (l1 + 4) l4) 0) → ((G (G (l1 + 4) l4) 0 = 1 → PX7_ofObjects (G (l1 + 4) l4) G (fun r14 G13 => (0 ≤ r14 ∧ r14 ≤ 1) → ((r14 = 0 → PX4_bridges_177 J l1 l2 l3 l4 (G (l1 + 4) l4) G13 Q) ∧ (¬ (r14 = 0) → ((0 ≤ G13 (G (l1 + 4) l4) 4 ∧ G13 (G (l1 + 4) l4) 4 ≤ 1) → ((G13 (G (l1 + 4) l4) 4 = 0 → ((G13 814 0 = -1 ∨ isO W0 11 (G13 814 0)) → (isO W0 11 (G13 814 0) ∧ ((0 : Int) ≤ l2 ∧ ((l2 : Int) < 64 ∧ (inI (G13 ((G13 814 0) + 2) l2) → PX4_bridges_69 J l1 l2 l3 l4 (G (l1 + 4) l4) (G13 ((G13 814 0) + 2) l2) 0 G13 Q)))))) ∧ (¬ (G13 (G (l1 + 4) l4) 4 = 0) → PX4_bridges_177 J l1 l2 l3 l4 (G (l1 + 4) l4) G13 Q))))))) ∧ (¬ (G (G (l1 + 4) l4) 0 = 1) → PX4_bridges_177 J l1 l2 l3 l4 (G (l1 + 4) l4) G Q))))))))) ∧ (¬ (G 814 2 = 0) → PX4_bridges_183 J l1 l2 l3 l4 G Q)))) ∧ (¬ (l4 < l3) → PX4_bridges_183 J l1 l2 l3 l4 G Q))
set_option maxRecDepth 20000 in
theorem TX4_bridges_8 {j : Nat → rx_K} {J : Nat → List Int → gS → (Int → gS → Prop) → Prop} {l1 : Int} {l2 : Int} {l3 : Int} {l4 : Int} {l5 : Nat} {l6 : Nat} {l7 : Nat} {l8 : Nat} {G : gS} {Q : Int → gS → Prop} (hl2 : inI l2) (hl3 : inI l3) (hl4 : inI l4) (hl5 : l5 % 8 ≠ 1) (hl6 : l6 % 8 ≠ 1) (hl7 : l7 % 8 ≠ 1) (hl8 : l8 % 8 ≠ 1) (hj0 : ∀ (l1 : Int) (l2 : Int) (l3 : Int) (l4 : Int) (l5 : Nat) (l6 : Nat) (l7 : Nat) (l8 : Nat) (G : gS), (inI l2) → (inI l3) → (inI l4) → (l5 % 8 ≠ 1) → (l6 % 8 ≠ 1) → (l7 % 8 ≠ 1) → (l8 % 8 ≠ 1) → J 0 [l1, l2, l3, l4] G Q → Tg W0 (j 0) [rf (814), rf (l1), cI (l2), cI (l3), cI (l4), l5, l6, l7, l8] [] G (fun r G => r = 7 ∧ Q 0 G)) (hj1 : ∀ (l1 : Int) (l2 : Int) (l3 : Int) (l4 : Int) (l5 : Int) (l6 : Int) (l7 : Int) (l8 : Nat) (G : gS), (inI l2) → (inI l3) → (inI l4) → (inI l6) → (inI l7) → (l8 % 8 ≠ 1) → J 1 [l1, l2, l3, l4, l5, l6, l7] G Q → Tg W0 (j 1) [rf (814), rf (l1), cI (l2), cI (l3), cI (l4), rf (l5), cI (l6), cI (l7), l8] [] G (fun r G => r = 7 ∧ Q 0 G)) (hj2 : ∀ (l1 : Int) (l2 : Int) (l3 : Int) (l4 : Int) (l5 : Int) (l6 : Int) (l7 : Int) (l8 : Int) (G : gS), (inI l2) → (inI l3) → (inI l4) → (inI l6) → (inI l7) → (inI l8) → J 2 [l1, l2, l3, l4, l5, l6, l7, l8] G Q → Tg W0 (j 2) [rf (814), rf (l1), cI (l2), cI (l3), cI (l4), rf (l5), cI (l6), cI (l7), cI (l8)] [] G (fun r G => r = 7 ∧ Q 0 G)) (h : PX4_bridges_8 J l1 l2 l3 l4 G Q) : Tg W0 (vX4_bridges_8 j) [rf (814), rf (l1), cI (l2), cI (l3), cI (l4), l5, l6, l7, l8] [] G (fun r G => r = 7 ∧ Q 0 G) := by
  unfold PX4_bridges_8 at h
  unfold vX4_bridges_8
  refine g_ld (v := cI _) rfl (is_I _) ?_
  refine g_ld (v := cI _) rfl (is_I _) ?_
  refine g_lt2 hl4 hl3 (fun b3 => ?_) (fun b3 => ?_)
  · replace h := h.1 b3
    unfold vX4_bridges_14
    refine g_ld (v := rf _) rfl (is_R _) ?_
    refine g_getI (kz := 2) oC4 rfl (Nat.le_of_ble_eq_true rfl) rfl fun i4 => ?_
    replace h := h i4
    refine g_eq1 i4 (fun b5 => ?_) (fun b5 => ?_)
    · replace h := h.1 b5
      unfold vX4_bridges_21
      refine g_ld (v := rf _) rfl (is_R _) ?_
      obtain ⟨q6, h⟩ := h
      refine g_getF q6 (ff10_14 q6).1 rfl (Nat.le_of_ble_eq_true rfl) (Nat.le_of_ble_eq_true rfl) ?_
      refine g_ld (v := cI _) rfl (is_I _) ?_
      obtain ⟨q7, q8, h⟩ := h
      refine g_aldRF (c := 7) (ff10_14 q6).2 q7 q8 rfl (by decide) fun i9 => ?_
      replace h := h i9
      refine g_st (lv' := [_, _, _, _, _, _, _, _, _]) (is_R _) (Nat.le_of_ble_eq_true rfl) (Or.inr (n1_I _)) rfl ?_
      refine g_ld (v := rf _) rfl (is_R _) ?_
      obtain ⟨q10, h⟩ := h
      refine g_getI (kz := 0) q10 rfl (Nat.le_of_ble_eq_true rfl) rfl fun i11 => ?_
      replace h := h i11
      refine g_const (v := cI (1)) rfl ?_
      refine g_eq2 i11 ⟨by omega, by omega⟩ (fun b12 => ?_) (fun b12 => ?_)
      · replace h := h.1 b12
        unfold vX4_bridges_39
        refine g_ld (v := rf _) rfl (is_R _) ?_
        refine g_callV (As := []) (ci := 7) q10 (fun _ => rfl) ?_
        refine g_go1 (Nat.le_of_ble_eq_true rfl) (Tn_w (TX7_ofObjects  h) fun _ G13 ⟨r14, e, i15, h⟩ => ?_)
        subst e
        refine ⟨n7_I _, ?_⟩
        replace h := h i15
        refine g_eq1 ⟨by omega, by omega⟩ (fun b16 => ?_) (fun b16 => ?_)
        · replace h := h.1 b16
          exact TX4_bridges_177 hl2 hl3 hl4 hl6 hl7 hl8 hj0 hj1 hj2 h
        · replace h := h.2 b16
          unfold vX4_bridges_47
          refine g_ld (v := rf _) rfl (is_R _) ?_
          refine g_getZ (kz := 4) q10 rfl (Nat.le_of_ble_eq_true rfl) rfl fun i17 => ?_
          replace h := h i17
          refine g_eq1 ⟨by omega, by omega⟩ (fun b18 => ?_) (fun b18 => ?_)
          · replace h := h.1 b18
            unfold vX4_bridges_55
            refine g_ld (v := rf _) rfl (is_R _) ?_
            refine g_getR (kz := 0) (c := 11) oC4 rfl (Nat.le_of_ble_eq_true rfl) rfl (by decide) fun i19 => ?_
            replace h := h i19
            obtain ⟨q20, h⟩ := h
            refine g_getF q20 (ff11_3 q20).1 rfl (Nat.le_of_ble_eq_true rfl) (Nat.le_of_ble_eq_true rfl) ?_
            refine g_ld (v := cI _) rfl (is_I _) ?_
            obtain ⟨q21, q22, h⟩ := h
            refine g_aldI (ff11_3 q20).2 q21 q22 rfl fun i23 => ?_
            replace h := h i23
            refine g_st (lv' := [_, _, _, _, _, _, _, _, _]) (is_I _) (Nat.le_of_ble_eq_true rfl) (Or.inr (n1_R _)) rfl ?_
            refine g_const (v := cI (0)) rfl ?_
            refine g_st (lv' := [_, _, _, _, _, _, _, _, _]) (is_I _) (Nat.le_of_ble_eq_true rfl) (Or.inr (n1_I _)) rfl ?_
            exact TX4_bridges_69 hl2 hl3 hl4 i23 ⟨by omega, by omega⟩ hl8 hj0 hj1 hj2 h
          · replace h := h.2 b18
            exact TX4_bridges_177 hl2 hl3 hl4 hl6 hl7 hl8 hj0 hj1 hj2 h
      · replace h := h.2 b12
        exact TX4_bridges_177 hl2 hl3 hl4 hl6 hl7 hl8 hj0 hj1 hj2 h
    · replace h := h.2 b5
      exact TX4_bridges_183 hl2 hl3 hl4 hl5 hl6 hl7 hl8 hj0 hj1 hj2 h
  · replace h := h.2 b3
    exact TX4_bridges_183 hl2 hl3 hl4 hl5 hl6 hl7 hl8 hj0 hj1 hj2 h
def PX4_bridges_0 (J : Nat → List Int → gS → (Int → gS → Prop) → Prop) (a1 : Int) (a2 : Int) (G : gS) (Q : Int → gS → Prop) : Prop :=
  (isO W0 10 (a1) ∧ (inI (G a1 15) → PX4_bridges_8 J a1 a2 (G a1 15) 0 G Q))
set_option maxRecDepth 20000 in
theorem TX4_bridges_0 {j : Nat → rx_K} {J : Nat → List Int → gS → (Int → gS → Prop) → Prop} {a1 : Int} {a2 : Int} {G : gS} {Q : Int → gS → Prop} (ha2 : inI a2) (hj0 : ∀ (l1 : Int) (l2 : Int) (l3 : Int) (l4 : Int) (l5 : Nat) (l6 : Nat) (l7 : Nat) (l8 : Nat) (G : gS), (inI l2) → (inI l3) → (inI l4) → (l5 % 8 ≠ 1) → (l6 % 8 ≠ 1) → (l7 % 8 ≠ 1) → (l8 % 8 ≠ 1) → J 0 [l1, l2, l3, l4] G Q → Tg W0 (j 0) [rf (814), rf (l1), cI (l2), cI (l3), cI (l4), l5, l6, l7, l8] [] G (fun r G => r = 7 ∧ Q 0 G)) (hj1 : ∀ (l1 : Int) (l2 : Int) (l3 : Int) (l4 : Int) (l5 : Int) (l6 : Int) (l7 : Int) (l8 : Nat) (G : gS), (inI l2) → (inI l3) → (inI l4) → (inI l6) → (inI l7) → (l8 % 8 ≠ 1) → J 1 [l1, l2, l3, l4, l5, l6, l7] G Q → Tg W0 (j 1) [rf (814), rf (l1), cI (l2), cI (l3), cI (l4), rf (l5), cI (l6), cI (l7), l8] [] G (fun r G => r = 7 ∧ Q 0 G)) (hj2 : ∀ (l1 : Int) (l2 : Int) (l3 : Int) (l4 : Int) (l5 : Int) (l6 : Int) (l7 : Int) (l8 : Int) (G : gS), (inI l2) → (inI l3) → (inI l4) → (inI l6) → (inI l7) → (inI l8) → J 2 [l1, l2, l3, l4, l5, l6, l7, l8] G Q → Tg W0 (j 2) [rf (814), rf (l1), cI (l2), cI (l3), cI (l4), rf (l5), cI (l6), cI (l7), cI (l8)] [] G (fun r G => r = 7 ∧ Q 0 G)) (h : PX4_bridges_0 J a1 a2 G Q) : Tg W0 (vX4_bridges_0 j) [rf (814), rf (a1), cI (a2), 7, 7, 7, 7, 7, 7] [] G (fun r G => r = 7 ∧ Q 0 G) := by
  unfold PX4_bridges_0 at h
  unfold vX4_bridges_0
  refine g_ld (v := rf _) rfl (is_R _) ?_
  obtain ⟨q1, h⟩ := h
  refine g_getI (kz := 15) q1 rfl (Nat.le_of_ble_eq_true rfl) rfl fun i2 => ?_
  replace h := h i2
  refine g_st (lv' := [_, _, _, _, _, _, _, _, _]) (is_I _) (Nat.le_of_ble_eq_true rfl) (Or.inr (n1_I _)) rfl ?_
  refine g_const (v := cI (0)) rfl ?_
  refine g_st (lv' := [_, _, _, _, _, _, _, _, _]) (is_I _) (Nat.le_of_ble_eq_true rfl) (Or.inr (n1_I _)) rfl ?_
  exact TX4_bridges_8 ha2 i2 ⟨by omega, by omega⟩ (show 7 % 8 ≠ 1 by decide) (show 7 % 8 ≠ 1 by decide) (show 7 % 8 ≠ 1 by decide) (show 7 % 8 ≠ 1 by decide) hj0 hj1 hj2 h
def PX4_bridges_J : Nat → Nat → List Int → gS → (Int → gS → Prop) → Prop
  | 0, _, _, _, _ => False
  | f + 1, h, L, G, Q => match h, L with
    | 0, [l1, l2, l3, l4] => PX4_bridges_8 (PX4_bridges_J f) l1 l2 l3 l4 G Q
    | 1, [l1, l2, l3, l4, l5, l6, l7] => PX4_bridges_69 (PX4_bridges_J f) l1 l2 l3 l4 l5 l6 l7 G Q
    | 2, [l1, l2, l3, l4, l5, l6, l7, l8] => PX4_bridges_135 (PX4_bridges_J f) l1 l2 l3 l4 l5 l6 l7 l8 G Q
    | _, _ => False
theorem TX4_bridges_J {Q : Int → gS → Prop} : ∀ f N : Nat, f ≤ N → (∀ (l1 : Int) (l2 : Int) (l3 : Int) (l4 : Int) (l5 : Nat) (l6 : Nat) (l7 : Nat) (l8 : Nat) (G : gS), (inI l2) → (inI l3) → (inI l4) → (l5 % 8 ≠ 1) → (l6 % 8 ≠ 1) → (l7 % 8 ≠ 1) → (l8 % 8 ≠ 1) → (PX4_bridges_J f) 0 [l1, l2, l3, l4] G Q → Tg W0 (rx_J vhX4_bridges N 0) [rf (814), rf (l1), cI (l2), cI (l3), cI (l4), l5, l6, l7, l8] [] G (fun r G => r = 7 ∧ Q 0 G)) ∧ (∀ (l1 : Int) (l2 : Int) (l3 : Int) (l4 : Int) (l5 : Int) (l6 : Int) (l7 : Int) (l8 : Nat) (G : gS), (inI l2) → (inI l3) → (inI l4) → (inI l6) → (inI l7) → (l8 % 8 ≠ 1) → (PX4_bridges_J f) 1 [l1, l2, l3, l4, l5, l6, l7] G Q → Tg W0 (rx_J vhX4_bridges N 1) [rf (814), rf (l1), cI (l2), cI (l3), cI (l4), rf (l5), cI (l6), cI (l7), l8] [] G (fun r G => r = 7 ∧ Q 0 G)) ∧ (∀ (l1 : Int) (l2 : Int) (l3 : Int) (l4 : Int) (l5 : Int) (l6 : Int) (l7 : Int) (l8 : Int) (G : gS), (inI l2) → (inI l3) → (inI l4) → (inI l6) → (inI l7) → (inI l8) → (PX4_bridges_J f) 2 [l1, l2, l3, l4, l5, l6, l7, l8] G Q → Tg W0 (rx_J vhX4_bridges N 2) [rf (814), rf (l1), cI (l2), cI (l3), cI (l4), rf (l5), cI (l6), cI (l7), cI (l8)] [] G (fun r G => r = 7 ∧ Q 0 G)) := by
  intro f
  induction f with
  | zero => exact fun N _ => ⟨fun _ _ _ _ _ _ _ _ _ _ _ _ _ _ _ _ h => h.elim, fun _ _ _ _ _ _ _ _ _ _ _ _ _ _ _ h => h.elim, fun _ _ _ _ _ _ _ _ _ _ _ _ _ _ _ h => h.elim⟩
  | succ f ih =>
    intro N hN
    obtain ⟨M, rfl⟩ : ∃ M, N = M + 1 := ⟨N - 1, by omega⟩
    have ih := ih M (by omega)
    exact ⟨fun _ _ _ _ _ _ _ _ _ hl2 hl3 hl4 hl5 hl6 hl7 hl8 h => show Tg W0 (vX4_bridges_8 (rx_J vhX4_bridges M)) _ _ _ _ from TX4_bridges_8 hl2 hl3 hl4 hl5 hl6 hl7 hl8 ih.1 ih.2.1 ih.2.2 h, fun _ _ _ _ _ _ _ _ _ hl2 hl3 hl4 hl6 hl7 hl8 h => show Tg W0 (vX4_bridges_69 (rx_J vhX4_bridges M)) _ _ _ _ from TX4_bridges_69 hl2 hl3 hl4 hl6 hl7 hl8 ih.1 ih.2.1 ih.2.2 h, fun _ _ _ _ _ _ _ _ _ hl2 hl3 hl4 hl6 hl7 hl8 h => show Tg W0 (vX4_bridges_135 (rx_J vhX4_bridges M)) _ _ _ _ from TX4_bridges_135 hl2 hl3 hl4 hl6 hl7 hl8 ih.1 ih.2.1 ih.2.2 h⟩
def PX4_bridges (a1 : Int) (a2 : Int) (G : gS) (Q : Int → gS → Prop) : Prop := ∃ f : Nat, f ≤ 4000000000 ∧ PX4_bridges_0 (PX4_bridges_J f) a1 a2 G Q
theorem TX4_bridges {a1 : Int} {a2 : Int} {G : gS} {Q : Int → gS → Prop} (ha2 : inI a2) (h : PX4_bridges a1 a2 G Q) : Tn W0 FX4_bridges [rf (814), rf (a1), cI (a2)] G (fun r G => r = 7 ∧ Q 0 G) := by
  obtain ⟨f, hf, h⟩ := h
  have hJ := TX4_bridges_J (Q := Q) f 4000000000 hf
  unfold FX4_bridges
  refine g_ent (lv' := [rf (814), rf (a1), cI (a2), 7, 7, 7, 7, 7, 7]) (flR (flR (flI fl0))) (Nat.le_of_ble_eq_true rfl) rfl ?_
  exact TX4_bridges_0 ha2 hJ.1 hJ.2.1 hJ.2.2 h
end DE

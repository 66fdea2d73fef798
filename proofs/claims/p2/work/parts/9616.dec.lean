section DE
def PX9_beginsE_51 (l0 : Int) (s0 : Int) (G : gS) (Q : Int → gS → Prop) : Prop :=
  ((0 ≤ s0 ∧ s0 ≤ 1) ∧ Q (s0) G)
set_option maxRecDepth 20000 in
theorem TX9_beginsE_51 {l0 : Int} {s0 : Int} {G : gS} {Q : Int → gS → Prop} (hl0 : inI l0) (hs0 : inI s0) (h : PX9_beginsE_51 l0 s0 G Q) : Tg W0 vX9_beginsE_51 [cI (l0)] [cI (s0)] G (fun r G => ∃ v, r = cI v ∧ (0 ≤ v ∧ v ≤ 1) ∧ Q v G) := by
  unfold PX9_beginsE_51 at h
  unfold vX9_beginsE_51
  obtain ⟨q9, h⟩ := h
  exact g_ret1 (is_Z q9) ⟨_, rfl, q9, h⟩
def PX9_beginsE_46 (l0 : Int) (G : gS) (Q : Int → gS → Prop) : Prop :=
  PX9_beginsE_51 l0 1 G Q
set_option maxRecDepth 20000 in
theorem TX9_beginsE_46 {l0 : Int} {G : gS} {Q : Int → gS → Prop} (hl0 : inI l0) (h : PX9_beginsE_46 l0 G Q) : Tg W0 vX9_beginsE_46 [cI (l0)] [] G (fun r G => ∃ v, r = cI v ∧ (0 ≤ v ∧ v ≤ 1) ∧ Q v G) := by
  unfold PX9_beginsE_46 at h
  unfold vX9_beginsE_46
  refine g_const (v := cI (1)) rfl ?_
  exact TX9_beginsE_51 hl0 ⟨by omega, by omega⟩ h
def PX9_beginsE_0 (a0 : Int) (G : gS) (Q : Int → gS → Prop) : Prop :=
  ((a0 = 4 → PX9_beginsE_46 a0 G Q) ∧ (¬ (a0 = 4) → ((a0 = 3 → PX9_beginsE_46 a0 G Q) ∧ (¬ (a0 = 3) → ((a0 = 2 → PX9_beginsE_46 a0 G Q) ∧ (¬ (a0 = 2) → ((a0 = 36 → PX9_beginsE_46 a0 G Q) ∧ (¬ (a0 = 36) → ((a0 = 37 → PX9_beginsE_46 a0 G Q) ∧ (¬ (a0 = 37) → ((a0 = 38 → PX9_beginsE_46 a0 G Q) ∧ (¬ (a0 = 38) → ((a0 = 25 → PX9_beginsE_46 a0 G Q) ∧ (¬ (a0 = 25) → ((a0 = 140 → PX9_beginsE_46 a0 G Q) ∧ (¬ (a0 = 140) → PX9_beginsE_51 a0 0 G Q))))))))))))))))
set_option maxRecDepth 20000 in
theorem TX9_beginsE_0 {a0 : Int} {G : gS} {Q : Int → gS → Prop} (ha0 : inI a0) (h : PX9_beginsE_0 a0 G Q) : Tg W0 vX9_beginsE_0 [cI (a0)] [] G (fun r G => ∃ v, r = cI v ∧ (0 ≤ v ∧ v ≤ 1) ∧ Q v G) := by
  unfold PX9_beginsE_0 at h
  unfold vX9_beginsE_0
  refine g_ld (v := cI _) rfl (is_I _) ?_
  refine g_const (v := cI (4)) rfl ?_
  refine g_eq2 ha0 ⟨by omega, by omega⟩ (fun b1 => ?_) (fun b1 => ?_)
  · replace h := h.1 b1
    exact TX9_beginsE_46 ha0 h
  · replace h := h.2 b1
    unfold vX9_beginsE_5
    refine g_ld (v := cI _) rfl (is_I _) ?_
    refine g_const (v := cI (3)) rfl ?_
    refine g_eq2 ha0 ⟨by omega, by omega⟩ (fun b2 => ?_) (fun b2 => ?_)
    · replace h := h.1 b2
      exact TX9_beginsE_46 ha0 h
    · replace h := h.2 b2
      unfold vX9_beginsE_10
      refine g_ld (v := cI _) rfl (is_I _) ?_
      refine g_const (v := cI (2)) rfl ?_
      refine g_eq2 ha0 ⟨by omega, by omega⟩ (fun b3 => ?_) (fun b3 => ?_)
      · replace h := h.1 b3
        exact TX9_beginsE_46 ha0 h
      · replace h := h.2 b3
        unfold vX9_beginsE_15
        refine g_ld (v := cI _) rfl (is_I _) ?_
        refine g_const (v := cI (36)) rfl ?_
        refine g_eq2 ha0 ⟨by omega, by omega⟩ (fun b4 => ?_) (fun b4 => ?_)
        · replace h := h.1 b4
          exact TX9_beginsE_46 ha0 h
        · replace h := h.2 b4
          unfold vX9_beginsE_21
          refine g_ld (v := cI _) rfl (is_I _) ?_
          refine g_const (v := cI (37)) rfl ?_
          refine g_eq2 ha0 ⟨by omega, by omega⟩ (fun b5 => ?_) (fun b5 => ?_)
          · replace h := h.1 b5
            exact TX9_beginsE_46 ha0 h
          · replace h := h.2 b5
            unfold vX9_beginsE_27
            refine g_ld (v := cI _) rfl (is_I _) ?_
            refine g_const (v := cI (38)) rfl ?_
            refine g_eq2 ha0 ⟨by omega, by omega⟩ (fun b6 => ?_) (fun b6 => ?_)
            · replace h := h.1 b6
              exact TX9_beginsE_46 ha0 h
            · replace h := h.2 b6
              unfold vX9_beginsE_33
              refine g_ld (v := cI _) rfl (is_I _) ?_
              refine g_const (v := cI (25)) rfl ?_
              refine g_eq2 ha0 ⟨by omega, by omega⟩ (fun b7 => ?_) (fun b7 => ?_)
              · replace h := h.1 b7
                exact TX9_beginsE_46 ha0 h
              · replace h := h.2 b7
                unfold vX9_beginsE_39
                refine g_ld (v := cI _) rfl (is_I _) ?_
                refine g_const (v := cI (140)) rfl ?_
                refine g_eq2 ha0 ⟨by omega, by omega⟩ (fun b8 => ?_) (fun b8 => ?_)
                · replace h := h.1 b8
                  exact TX9_beginsE_46 ha0 h
                · replace h := h.2 b8
                  unfold vX9_beginsE_50
                  refine g_const (v := cI (0)) rfl ?_
                  exact TX9_beginsE_51 ha0 ⟨by omega, by omega⟩ h
abbrev PX9_beginsE (a0 : Int) (G : gS) (Q : Int → gS → Prop) : Prop := PX9_beginsE_0 a0 G Q
theorem TX9_beginsE {a0 : Int} {G : gS} {Q : Int → gS → Prop} (ha0 : inI a0) (h : PX9_beginsE a0 G Q) : Tn W0 FX9_beginsE [cI (a0)] G (fun r G => ∃ v, r = cI v ∧ (0 ≤ v ∧ v ≤ 1) ∧ Q v G) := by
  unfold FX9_beginsE
  refine g_ent (lv' := [cI (a0)]) (flI fl0) (Nat.le_of_ble_eq_true rfl) rfl ?_
  exact TX9_beginsE_0 ha0 h
def PX9_isChained_38 (l0 : Int) (l1 : Int) (s0 : Int) (G : gS) (Q : Int → gS → Prop) : Prop :=
  ((0 ≤ s0 ∧ s0 ≤ 1) ∧ Q (s0) G)
set_option maxRecDepth 20000 in
theorem TX9_isChained_38 {l0 : Int} {l1 : Int} {s0 : Int} {G : gS} {Q : Int → gS → Prop} (hl0 : inI l0) (hl1 : inI l1) (hs0 : inI s0) (h : PX9_isChained_38 l0 l1 s0 G Q) : Tg W0 vX9_isChained_38 [cI (l0), cI (l1)] [cI (s0)] G (fun r G => ∃ v, r = cI v ∧ (0 ≤ v ∧ v ≤ 1) ∧ Q v G) := by
  unfold PX9_isChained_38 at h
  unfold vX9_isChained_38
  obtain ⟨q5, h⟩ := h
  exact g_ret1 (is_Z q5) ⟨_, rfl, q5, h⟩
def PX9_isChained_18 (l0 : Int) (l1 : Int) (G : gS) (Q : Int → gS → Prop) : Prop :=
  PX9_isChained_38 l0 l1 1 G Q
set_option maxRecDepth 20000 in
theorem TX9_isChained_18 {l0 : Int} {l1 : Int} {G : gS} {Q : Int → gS → Prop} (hl0 : inI l0) (hl1 : inI l1) (h : PX9_isChained_18 l0 l1 G Q) : Tg W0 vX9_isChained_18 [cI (l0), cI (l1)] [] G (fun r G => ∃ v, r = cI v ∧ (0 ≤ v ∧ v ≤ 1) ∧ Q v G) := by
  unfold PX9_isChained_18 at h
  unfold vX9_isChained_18
  refine g_const (v := cI (1)) rfl ?_
  exact TX9_isChained_38 hl0 hl1 ⟨by omega, by omega⟩ h
def PX9_isChained_0 (a0 : Int) (a1 : Int) (G : gS) (Q : Int → gS → Prop) : Prop :=
  ((a1 = 0 → ((a0 = 142 → PX9_isChained_38 a0 a1 1 G Q) ∧ (¬ (a0 = 142) → PX9_isChained_38 a0 a1 0 G Q))) ∧ (¬ (a1 = 0) → ((a0 = 143 → PX9_isChained_18 a0 a1 G Q) ∧ (¬ (a0 = 143) → ((a0 = 145 → PX9_isChained_18 a0 a1 G Q) ∧ (¬ (a0 = 145) → PX9_isChained_38 a0 a1 0 G Q))))))
set_option maxRecDepth 20000 in
theorem TX9_isChained_0 {a0 : Int} {a1 : Int} {G : gS} {Q : Int → gS → Prop} (ha0 : inI a0) (ha1 : inI a1) (h : PX9_isChained_0 a0 a1 G Q) : Tg W0 vX9_isChained_0 [cI (a0), cI (a1)] [] G (fun r G => ∃ v, r = cI v ∧ (0 ≤ v ∧ v ≤ 1) ∧ Q v G) := by
  unfold PX9_isChained_0 at h
  unfold vX9_isChained_0
  refine g_ld (v := cI _) rfl (is_I _) ?_
  refine g_eq1 ha1 (fun b1 => ?_) (fun b1 => ?_)
  · replace h := h.1 b1
    unfold vX9_isChained_26
    refine g_ld (v := cI _) rfl (is_I _) ?_
    refine g_const (v := cI (142)) rfl ?_
    refine g_eq2 ha0 ⟨by omega, by omega⟩ (fun b2 => ?_) (fun b2 => ?_)
    · replace h := h.1 b2
      unfold vX9_isChained_33
      refine g_const (v := cI (1)) rfl ?_
      exact TX9_isChained_38 ha0 ha1 ⟨by omega, by omega⟩ h
    · replace h := h.2 b2
      unfold vX9_isChained_37
      refine g_const (v := cI (0)) rfl ?_
      exact TX9_isChained_38 ha0 ha1 ⟨by omega, by omega⟩ h
  · replace h := h.2 b1
    unfold vX9_isChained_4
    refine g_ld (v := cI _) rfl (is_I _) ?_
    refine g_const (v := cI (143)) rfl ?_
    refine g_eq2 ha0 ⟨by omega, by omega⟩ (fun b3 => ?_) (fun b3 => ?_)
    · replace h := h.1 b3
      exact TX9_isChained_18 ha0 ha1 h
    · replace h := h.2 b3
      unfold vX9_isChained_11
      refine g_ld (v := cI _) rfl (is_I _) ?_
      refine g_const (v := cI (145)) rfl ?_
      refine g_eq2 ha0 ⟨by omega, by omega⟩ (fun b4 => ?_) (fun b4 => ?_)
      · replace h := h.1 b4
        exact TX9_isChained_18 ha0 ha1 h
      · replace h := h.2 b4
        unfold vX9_isChained_22
        refine g_const (v := cI (0)) rfl ?_
        exact TX9_isChained_38 ha0 ha1 ⟨by omega, by omega⟩ h
abbrev PX9_isChained (a0 : Int) (a1 : Int) (G : gS) (Q : Int → gS → Prop) : Prop := PX9_isChained_0 a0 a1 G Q
theorem TX9_isChained {a0 : Int} {a1 : Int} {G : gS} {Q : Int → gS → Prop} (ha0 : inI a0) (ha1 : inI a1) (h : PX9_isChained a0 a1 G Q) : Tn W0 FX9_isChained [cI (a0), cI (a1)] G (fun r G => ∃ v, r = cI v ∧ (0 ≤ v ∧ v ≤ 1) ∧ Q v G) := by
  unfold FX9_isChained
  refine g_ent (lv' := [cI (a0), cI (a1)]) (flI (flI fl0)) (Nat.le_of_ble_eq_true rfl) rfl ?_
  exact TX9_isChained_0 ha0 ha1 h
def PX9_take_0  (G : gS) (Q : Int → gS → Prop) : Prop :=
  (inI (G 7 8) → ((G 7 8 < 700 → (inI (G 7 8) → (inI ((G 7 8) + 1) ∧ (∀ G5 : gS, G5 = uG G 7 8 ((G 7 8) + 1) → Q (1) G5)))) ∧ (¬ (G 7 8 < 700) → PX9_stop 3 G (fun r7 G6 => (0 ≤ r7 ∧ r7 ≤ 1) → Q (r7) G6))))
set_option maxRecDepth 20000 in
theorem TX9_take_0  {G : gS} {Q : Int → gS → Prop}  (h : PX9_take_0  G Q) : Tg W0 vX9_take_0 [rf (7)] [] G (fun r G => ∃ v, r = cI v ∧ (0 ≤ v ∧ v ≤ 1) ∧ Q v G) := by
  unfold PX9_take_0 at h
  unfold vX9_take_0
  refine g_ld (v := rf _) rfl (is_R _) ?_
  refine g_getI (kz := 8) oC9 rfl (Nat.le_of_ble_eq_true rfl) rfl fun i1 => ?_
  replace h := h i1
  refine g_const (v := cI (700)) rfl ?_
  refine g_lt2 i1 ⟨by omega, by omega⟩ (fun b2 => ?_) (fun b2 => ?_)
  · replace h := h.1 b2
    unfold vX9_take_16
    refine g_ld (v := rf _) rfl (is_R _) ?_
    refine g_dup (ct_R _) ?_
    refine g_getI (kz := 8) oC9 rfl (Nat.le_of_ble_eq_true rfl) rfl fun i3 => ?_
    replace h := h i3
    refine g_const (v := cI (1)) rfl ?_
    refine g_add ?_
    obtain ⟨q4, h⟩ := h
    refine g_putI (kz := 8) oC9 rfl (Nat.le_of_ble_eq_true rfl) rfl q4 (zfin_no (c := 7) (j := 8) rfl) ?_
    replace h := h _ rfl
    refine g_const (v := cI (1)) rfl ?_
    exact g_ret1 (is_Z (by omega)) ⟨_, rfl, (by omega), h⟩
  · replace h := h.2 b2
    unfold vX9_take_10
    refine g_ld (v := rf _) rfl (is_R _) ?_
    refine g_const (v := cI (3)) rfl ?_
    refine g_callV (As := [_]) (ci := 9) oC9 (fun _ => rfl) ?_
    refine g_go1 (Nat.le_of_ble_eq_true rfl) (Tn_w (TX9_stop ⟨by omega, by omega⟩ h) fun _ G6 ⟨r7, e, i8, h⟩ => ?_)
    subst e
    refine ⟨n7_I _, ?_⟩
    replace h := h i8
    exact g_ret1 (is_Z i8) ⟨_, rfl, i8, h⟩
abbrev PX9_take  (G : gS) (Q : Int → gS → Prop) : Prop := PX9_take_0  G Q
theorem TX9_take  {G : gS} {Q : Int → gS → Prop}  (h : PX9_take  G Q) : Tn W0 FX9_take [rf (7)] G (fun r G => ∃ v, r = cI v ∧ (0 ≤ v ∧ v ≤ 1) ∧ Q v G) := by
  unfold FX9_take
  refine g_ent (lv' := [rf (7)]) (flR fl0) (Nat.le_of_ble_eq_true rfl) rfl ?_
  exact TX9_take_0  h
def PX9_behind_28 (s0 : Int) (G : gS) (Q : Int → gS → Prop) : Prop :=
  Q (s0) G
set_option maxRecDepth 20000 in
theorem TX9_behind_28 {s0 : Int} {G : gS} {Q : Int → gS → Prop} (hs0 : inI s0) (h : PX9_behind_28 s0 G Q) : Tg W0 vX9_behind_28 [rf (7)] [cI (s0)] G (fun r G => ∃ v, r = cI v ∧ inI v ∧ Q v G) := by
  unfold PX9_behind_28 at h
  unfold vX9_behind_28
  exact g_ret1 (is_I _) ⟨_, rfl, hs0, h⟩
def PX9_behind_0  (G : gS) (Q : Int → gS → Prop) : Prop :=
  (inI (G 7 8) → (inI (G 7 5) → (inI ((G 7 8) + 1) ∧ ((G 7 5 < (G 7 8) + 1 → PX9_behind_28 0 G Q) ∧ (¬ (G 7 5 < (G 7 8) + 1) → (inI (G 7 8) → ((0 : Int) ≤ (G 7 8) + 1 ∧ (((G 7 8) + 1 : Int) < 704 ∧ (inI (G 9 ((G 7 8) + 1)) → PX9_behind_28 (G 9 ((G 7 8) + 1)) G Q)))))))))
set_option maxRecDepth 20000 in
theorem TX9_behind_0  {G : gS} {Q : Int → gS → Prop}  (h : PX9_behind_0  G Q) : Tg W0 vX9_behind_0 [rf (7)] [] G (fun r G => ∃ v, r = cI v ∧ inI v ∧ Q v G) := by
  unfold PX9_behind_0 at h
  unfold vX9_behind_0
  refine g_ld (v := rf _) rfl (is_R _) ?_
  refine g_getI (kz := 8) oC9 rfl (Nat.le_of_ble_eq_true rfl) rfl fun i1 => ?_
  replace h := h i1
  refine g_const (v := cI (1)) rfl ?_
  refine g_add ?_
  refine g_ld (v := rf _) rfl (is_R _) ?_
  refine g_getI (kz := 5) oC9 rfl (Nat.le_of_ble_eq_true rfl) rfl fun i2 => ?_
  replace h := h i2
  obtain ⟨q3, h⟩ := h
  refine g_gt2 q3 i2 (fun b4 => ?_) (fun b4 => ?_)
  · replace h := h.1 b4
    unfold vX9_behind_27
    refine g_const (v := cI (0)) rfl ?_
    exact TX9_behind_28 ⟨by omega, by omega⟩ h
  · replace h := h.2 b4
    unfold vX9_behind_13
    refine g_ld (v := rf _) rfl (is_R _) ?_
    refine g_getF (v := 9) oC9 (hC9_1) rfl (Nat.le_of_ble_eq_true rfl) (Nat.le_of_ble_eq_true rfl) ?_
    refine g_ld (v := rf _) rfl (is_R _) ?_
    refine g_getI (kz := 8) oC9 rfl (Nat.le_of_ble_eq_true rfl) rfl fun i5 => ?_
    replace h := h i5
    refine g_const (v := cI (1)) rfl ?_
    refine g_add ?_
    obtain ⟨q6, q7, h⟩ := h
    refine g_aldI aC9 q6 q7 rfl fun i8 => ?_
    replace h := h i8
    exact TX9_behind_28 i8 h
abbrev PX9_behind  (G : gS) (Q : Int → gS → Prop) : Prop := PX9_behind_0  G Q
theorem TX9_behind  {G : gS} {Q : Int → gS → Prop}  (h : PX9_behind  G Q) : Tn W0 FX9_behind [rf (7)] G (fun r G => ∃ v, r = cI v ∧ inI v ∧ Q v G) := by
  unfold FX9_behind
  refine g_ent (lv' := [rf (7)]) (flR fl0) (Nat.le_of_ble_eq_true rfl) rfl ?_
  exact TX9_behind_0  h
def PX10_list_38 (o : Int) (l1 : Int) (l2 : Int) (G : gS) (Q : Int → gS → Prop) : Prop :=
  Q 0 G
set_option maxRecDepth 20000 in
theorem TX10_list_38 {o : Int} {l1 : Int} {l2 : Int} {l3 : Nat} {G : gS} {Q : Int → gS → Prop} (hl1 : inI l1) (hl2 : inL l2) (hl3 : l3 % 8 ≠ 1) (h : PX10_list_38 o l1 l2 G Q) : Tg W0 vX10_list_38 [rf (o), cI (l1), cL (l2), l3] [] G (fun r G => r = 7 ∧ Q 0 G) := by
  unfold PX10_list_38 at h
  unfold vX10_list_38
  exact g_ret0 ⟨rfl, h⟩
def PX10_list_0 (o : Int) (a1 : Int) (a2 : Int) (G : gS) (Q : Int → gS → Prop) : Prop :=
  (isO W0 10 (o) ∧ ((0 : Int) ≤ a1 ∧ ((a1 : Int) < 3 ∧ (inI (G (o + 2) a1) → ((G (o + 2) a1 < 8 → ((0 : Int) ≤ a1 ∧ ((a1 : Int) < 3 ∧ (inI (G (o + 2) a1) → ((0 : Int) ≤ (a1 * 8) + (G (o + 2) a1) ∧ (((a1 * 8) + (G (o + 2) a1) : Int) < 24 ∧ (∀ G11 : gS, G11 = uG G (o + 1) ((a1 * 8) + (G (o + 2) a1)) (a2) → ((0 : Int) ≤ a1 ∧ ((a1 : Int) < 3 ∧ (inI (G11 (o + 2) a1) → ((0 : Int) ≤ a1 ∧ ((a1 : Int) < 3 ∧ (inI ((G11 (o + 2) a1) + 1) ∧ (∀ G18 : gS, G18 = uG G11 (o + 2) a1 ((G11 (o + 2) a1) + 1) → PX10_list_38 o a1 a2 G18 Q)))))))))))))) ∧ (¬ (G (o + 2) a1 < 8) → PX10_list_38 o a1 a2 G Q))))))
set_option maxRecDepth 20000 in
theorem TX10_list_0 {o : Int} {a1 : Int} {a2 : Int} {G : gS} {Q : Int → gS → Prop} (ha1 : inI a1) (ha2 : inL a2) (h : PX10_list_0 o a1 a2 G Q) : Tg W0 vX10_list_0 [rf (o), cI (a1), cL (a2), 7] [] G (fun r G => r = 7 ∧ Q 0 G) := by
  unfold PX10_list_0 at h
  unfold vX10_list_0
  refine g_ld (v := rf _) rfl (is_R _) ?_
  obtain ⟨q1, h⟩ := h
  refine g_getF q1 (ff10_11 q1).1 rfl (Nat.le_of_ble_eq_true rfl) (Nat.le_of_ble_eq_true rfl) ?_
  refine g_ld (v := cI _) rfl (is_I _) ?_
  obtain ⟨q2, q3, h⟩ := h
  refine g_aldI (ff10_11 q1).2 q2 q3 rfl fun i4 => ?_
  replace h := h i4
  refine g_const (v := cI (8)) rfl ?_
  refine g_lt2 i4 ⟨by omega, by omega⟩ (fun b5 => ?_) (fun b5 => ?_)
  · replace h := h.1 b5
    unfold vX10_list_11
    refine g_ld (v := rf _) rfl (is_R _) ?_
    refine g_getF q1 (ff10_10 q1).1 rfl (Nat.le_of_ble_eq_true rfl) (Nat.le_of_ble_eq_true rfl) ?_
    refine g_ld (v := cI _) rfl (is_I _) ?_
    refine g_const (v := cI (8)) rfl ?_
    refine g_mul ?_
    refine g_ld (v := rf _) rfl (is_R _) ?_
    refine g_getF q1 (ff10_11 q1).1 rfl (Nat.le_of_ble_eq_true rfl) (Nat.le_of_ble_eq_true rfl) ?_
    refine g_ld (v := cI _) rfl (is_I _) ?_
    obtain ⟨q6, q7, h⟩ := h
    refine g_aldI (ff10_11 q1).2 q6 q7 rfl fun i8 => ?_
    replace h := h i8
    refine g_add ?_
    refine g_ld (v := cL _) rfl (is_L _) ?_
    obtain ⟨q9, q10, h⟩ := h
    refine g_astL (ff10_10 q1).2 q9 q10 ha2 (nfL (ff10_10 q1).2) ?_
    replace h := h _ rfl
    refine g_ld (v := rf _) rfl (is_R _) ?_
    refine g_getF q1 (ff10_11 q1).1 rfl (Nat.le_of_ble_eq_true rfl) (Nat.le_of_ble_eq_true rfl) ?_
    refine g_ld (v := cI _) rfl (is_I _) ?_
    refine g_dup2 (ct_I _) (ct_R _) ?_
    obtain ⟨q12, q13, h⟩ := h
    refine g_aldI (ff10_11 q1).2 q12 q13 rfl fun i14 => ?_
    replace h := h i14
    refine g_const (v := cI (1)) rfl ?_
    refine g_add ?_
    obtain ⟨q15, q16, h⟩ := h
    obtain ⟨q17, h⟩ := h
    refine g_astI (ff10_11 q1).2 q15 q16 q17 (nfI (ff10_11 q1).2) ?_
    replace h := h _ rfl
    exact TX10_list_38 ha1 ha2 (show 7 % 8 ≠ 1 by decide) h
  · replace h := h.2 b5
    exact TX10_list_38 ha1 ha2 (show 7 % 8 ≠ 1 by decide) h
abbrev PX10_list (o : Int) (a1 : Int) (a2 : Int) (G : gS) (Q : Int → gS → Prop) : Prop := PX10_list_0 o a1 a2 G Q
theorem TX10_list {o : Int} {a1 : Int} {a2 : Int} {G : gS} {Q : Int → gS → Prop} (ha1 : inI a1) (ha2 : inL a2) (h : PX10_list o a1 a2 G Q) : Tn W0 FX10_list [rf (o), cI (a1), cL (a2)] G (fun r G => r = 7 ∧ Q 0 G) := by
  unfold FX10_list
  refine g_ent (lv' := [rf (o), cI (a1), cL (a2), 7]) (flR (flI (flL fl0))) (Nat.le_of_ble_eq_true rfl) rfl ?_
  exact TX10_list_0 ha1 ha2 h
def PX9_readList_112 (J : Nat → List Int → gS → (Int → gS → Prop) → Prop) (l1 : Int) (l2 : Int) (l3 : Int) (l4 : Int) (l5 : Int) (l6 : Int) (G : gS) (Q : Int → gS → Prop) : Prop :=
  Q (1) G
set_option maxRecDepth 20000 in
theorem TX9_readList_112 {j : Nat → rx_K} {J : Nat → List Int → gS → (Int → gS → Prop) → Prop} {l1 : Int} {l2 : Int} {l3 : Int} {l4 : Int} {l5 : Int} {l6 : Int} {G : gS} {Q : Int → gS → Prop} (hl2 : inI l2) (hl3 : inI l3) (hl4 : inI l4) (hl5 : inI l5) (hl6 : inI l6) (hj0 : ∀ (l1 : Int) (l2 : Int) (l3 : Int) (l4 : Int) (l5 : Int) (l6 : Int) (G : gS), (inI l2) → (inI l3) → (inI l4) → (inI l5) → (inI l6) → J 0 [l1, l2, l3, l4, l5, l6] G Q → Tg W0 (j 0) [rf (7), rf (l1), cI (l2), cI (l3), cI (l4), cI (l5), cI (l6)] [] G (fun r G => ∃ v, r = cI v ∧ (0 ≤ v ∧ v ≤ 1) ∧ Q v G)) (h : PX9_readList_112 J l1 l2 l3 l4 l5 l6 G Q) : Tg W0 (vX9_readList_112 j) [rf (7), rf (l1), cI (l2), cI (l3), cI (l4), cI (l5), cI (l6)] [] G (fun r G => ∃ v, r = cI v ∧ (0 ≤ v ∧ v ≤ 1) ∧ Q v G) := by
  unfold PX9_readList_112 at h
  unfold vX9_readList_112
  refine g_const (v := cI (1)) rfl ?_
  exact g_ret1 (is_Z (by omega)) ⟨_, rfl, (by omega), h⟩
def PX9_readList_104 (J : Nat → List Int → gS → (Int → gS → Prop) → Prop) (l1 : Int) (l2 : Int) (l3 : Int) (l4 : Int) (l5 : Int) (l6 : Int) (s0 : Int) (G : gS) (Q : Int → gS → Prop) : Prop :=
  (inI (l6 + 1) ∧ J 0 [l1, l2, l3, l4, s0, l6 + 1] G Q)
set_option maxRecDepth 20000 in
theorem TX9_readList_104 {j : Nat → rx_K} {J : Nat → List Int → gS → (Int → gS → Prop) → Prop} {l1 : Int} {l2 : Int} {l3 : Int} {l4 : Int} {l5 : Int} {l6 : Int} {s0 : Int} {G : gS} {Q : Int → gS → Prop} (hl2 : inI l2) (hl3 : inI l3) (hl4 : inI l4) (hl5 : inI l5) (hl6 : inI l6) (hs0 : inI s0) (hj0 : ∀ (l1 : Int) (l2 : Int) (l3 : Int) (l4 : Int) (l5 : Int) (l6 : Int) (G : gS), (inI l2) → (inI l3) → (inI l4) → (inI l5) → (inI l6) → J 0 [l1, l2, l3, l4, l5, l6] G Q → Tg W0 (j 0) [rf (7), rf (l1), cI (l2), cI (l3), cI (l4), cI (l5), cI (l6)] [] G (fun r G => ∃ v, r = cI v ∧ (0 ≤ v ∧ v ≤ 1) ∧ Q v G)) (h : PX9_readList_104 J l1 l2 l3 l4 l5 l6 s0 G Q) : Tg W0 (vX9_readList_104 j) [rf (7), rf (l1), cI (l2), cI (l3), cI (l4), cI (l5), cI (l6)] [cI (s0)] G (fun r G => ∃ v, r = cI v ∧ (0 ≤ v ∧ v ≤ 1) ∧ Q v G) := by
  unfold PX9_readList_104 at h
  unfold vX9_readList_104
  refine g_st (lv' := [_, _, _, _, _, _, _]) (is_I _) (Nat.le_of_ble_eq_true rfl) (Or.inr (n1_I _)) rfl ?_
  refine g_inc (lv' := [_, _, _, _, _, _, _]) rfl (Nat.le_of_ble_eq_true rfl) (Or.inr (n1_I _)) rfl ?_
  obtain ⟨q40, h⟩ := h
  exact hj0 _ _ _ _ _ _ _ hl2 hl3 hl4 hs0 q40 h
def PX9_readList_44 (J : Nat → List Int → gS → (Int → gS → Prop) → Prop) (l1 : Int) (l2 : Int) (l3 : Int) (l4 : Int) (l5 : Int) (l6 : Int) (G : gS) (Q : Int → gS → Prop) : Prop :=
  PX9_miss G (fun r38 G37 => (0 ≤ r38 ∧ r38 ≤ 1) → Q (r38) G37)
set_option maxRecDepth 20000 in
theorem TX9_readList_44 {j : Nat → rx_K} {J : Nat → List Int → gS → (Int → gS → Prop) → Prop} {l1 : Int} {l2 : Int} {l3 : Int} {l4 : Int} {l5 : Int} {l6 : Int} {G : gS} {Q : Int → gS → Prop} (hl2 : inI l2) (hl3 : inI l3) (hl4 : inI l4) (hl5 : inI l5) (hl6 : inI l6) (hj0 : ∀ (l1 : Int) (l2 : Int) (l3 : Int) (l4 : Int) (l5 : Int) (l6 : Int) (G : gS), (inI l2) → (inI l3) → (inI l4) → (inI l5) → (inI l6) → J 0 [l1, l2, l3, l4, l5, l6] G Q → Tg W0 (j 0) [rf (7), rf (l1), cI (l2), cI (l3), cI (l4), cI (l5), cI (l6)] [] G (fun r G => ∃ v, r = cI v ∧ (0 ≤ v ∧ v ≤ 1) ∧ Q v G)) (h : PX9_readList_44 J l1 l2 l3 l4 l5 l6 G Q) : Tg W0 (vX9_readList_44 j) [rf (7), rf (l1), cI (l2), cI (l3), cI (l4), cI (l5), cI (l6)] [] G (fun r G => ∃ v, r = cI v ∧ (0 ≤ v ∧ v ≤ 1) ∧ Q v G) := by
  unfold PX9_readList_44 at h
  unfold vX9_readList_44
  refine g_ld (v := rf _) rfl (is_R _) ?_
  refine g_callV (As := []) (ci := 9) oC9 (fun _ => rfl) ?_
  refine g_go1 (Nat.le_of_ble_eq_true rfl) (Tn_w (TX9_miss  h) fun _ G37 ⟨r38, e, i39, h⟩ => ?_)
  subst e
  refine ⟨n7_I _, ?_⟩
  replace h := h i39
  exact g_ret1 (is_Z i39) ⟨_, rfl, i39, h⟩
def PX9_readList_16 (J : Nat → List Int → gS → (Int → gS → Prop) → Prop) (l1 : Int) (l2 : Int) (l3 : Int) (l4 : Int) (l5 : Int) (l6 : Int) (G : gS) (Q : Int → gS → Prop) : Prop :=
  ((l6 < 700 → ((l5 = 0 → PX9_readList_112 J l1 l2 l3 l4 l5 l6 G Q) ∧ (¬ (l5 = 0) → PX9_take G (fun r8 G7 => (0 ≤ r8 ∧ r8 ≤ 1) → ((r8 = 0 → PX9_readList_44 J l1 l2 l3 l4 l5 l6 G7 Q) ∧ (¬ (r8 = 0) → PX9_now G7 (fun r12 G11 => inI r12 → ((r12 = 2 → (isO W0 10 (l1) ∧ ((0 : Int) ≤ l3 ∧ ((l3 : Int) < 3 ∧ (inI (G11 (l1 + 2) l3) → ((G11 (l1 + 2) l3 < l4 → (inI (G11 7 8) → ((0 : Int) ≤ G11 7 8 ∧ ((G11 7 8 : Int) < 704 ∧ (inL (G11 12 (G11 7 8)) → PX10_list l1 l3 (G11 12 (G11 7 8)) G11 (fun _ G24 => PX9_take G24 (fun r27 G26 => (0 ≤ r27 ∧ r27 ≤ 1) → ((r27 = 0 → Q (0) G26) ∧ (¬ (r27 = 0) → PX9_now G26 (fun r31 G30 => inI r31 → ((r31 = 144 → PX9_readList_104 J l1 l2 l3 l4 l5 l6 1 G30 Q) ∧ (¬ (r31 = 144) → PX9_readList_104 J l1 l2 l3 l4 l5 l6 0 G30 Q)))))))))))) ∧ (¬ (G11 (l1 + 2) l3 < l4) → PX9_stop 3 G11 (fun r35 G34 => (0 ≤ r35 ∧ r35 ≤ 1) → Q (r35) G34)))))))) ∧ (¬ (r12 = 2) → PX9_readList_44 J l1 l2 l3 l4 l5 l6 G11 Q))))))))) ∧ (¬ (l6 < 700) → PX9_readList_112 J l1 l2 l3 l4 l5 l6 G Q))
set_option maxRecDepth 20000 in
theorem TX9_readList_16 {j : Nat → rx_K} {J : Nat → List Int → gS → (Int → gS → Prop) → Prop} {l1 : Int} {l2 : Int} {l3 : Int} {l4 : Int} {l5 : Int} {l6 : Int} {G : gS} {Q : Int → gS → Prop} (hl2 : inI l2) (hl3 : inI l3) (hl4 : inI l4) (hl5 : inI l5) (hl6 : inI l6) (hj0 : ∀ (l1 : Int) (l2 : Int) (l3 : Int) (l4 : Int) (l5 : Int) (l6 : Int) (G : gS), (inI l2) → (inI l3) → (inI l4) → (inI l5) → (inI l6) → J 0 [l1, l2, l3, l4, l5, l6] G Q → Tg W0 (j 0) [rf (7), rf (l1), cI (l2), cI (l3), cI (l4), cI (l5), cI (l6)] [] G (fun r G => ∃ v, r = cI v ∧ (0 ≤ v ∧ v ≤ 1) ∧ Q v G)) (h : PX9_readList_16 J l1 l2 l3 l4 l5 l6 G Q) : Tg W0 (vX9_readList_16 j) [rf (7), rf (l1), cI (l2), cI (l3), cI (l4), cI (l5), cI (l6)] [] G (fun r G => ∃ v, r = cI v ∧ (0 ≤ v ∧ v ≤ 1) ∧ Q v G) := by
  unfold PX9_readList_16 at h
  unfold vX9_readList_16
  refine g_ld (v := cI _) rfl (is_I _) ?_
  refine g_const (v := cI (700)) rfl ?_
  refine g_lt2 hl6 ⟨by omega, by omega⟩ (fun b5 => ?_) (fun b5 => ?_)
  · replace h := h.1 b5
    unfold vX9_readList_24
    refine g_ld (v := cI _) rfl (is_I _) ?_
    refine g_eq1 hl5 (fun b6 => ?_) (fun b6 => ?_)
    · replace h := h.1 b6
      exact TX9_readList_112 hl2 hl3 hl4 hl5 hl6 hj0 h
    · replace h := h.2 b6
      unfold vX9_readList_29
      refine g_ld (v := rf _) rfl (is_R _) ?_
      refine g_callV (As := []) (ci := 9) oC9 (fun _ => rfl) ?_
      refine g_go1 (Nat.le_of_ble_eq_true rfl) (Tn_w (TX9_take  h) fun _ G7 ⟨r8, e, i9, h⟩ => ?_)
      subst e
      refine ⟨n7_I _, ?_⟩
      replace h := h i9
      refine g_eq1 ⟨by omega, by omega⟩ (fun b10 => ?_) (fun b10 => ?_)
      · replace h := h.1 b10
        exact TX9_readList_44 hl2 hl3 hl4 hl5 hl6 hj0 h
      · replace h := h.2 b10
        unfold vX9_readList_36
        refine g_ld (v := rf _) rfl (is_R _) ?_
        refine g_callV (As := []) (ci := 9) oC9 (fun _ => rfl) ?_
        refine g_go1 (Nat.le_of_ble_eq_true rfl) (Tn_w (TX9_now  h) fun _ G11 ⟨r12, e, i13, h⟩ => ?_)
        subst e
        refine ⟨n7_I _, ?_⟩
        replace h := h i13
        refine g_const (v := cI (2)) rfl ?_
        refine g_eq2 i13 ⟨by omega, by omega⟩ (fun b14 => ?_) (fun b14 => ?_)
        · replace h := h.1 b14
          unfold vX9_readList_49
          refine g_ld (v := rf _) rfl (is_R _) ?_
          obtain ⟨q15, h⟩ := h
          refine g_getF q15 (ff10_11 q15).1 rfl (Nat.le_of_ble_eq_true rfl) (Nat.le_of_ble_eq_true rfl) ?_
          refine g_ld (v := cI _) rfl (is_I _) ?_
          obtain ⟨q16, q17, h⟩ := h
          refine g_aldI (ff10_11 q15).2 q16 q17 rfl fun i18 => ?_
          replace h := h i18
          refine g_ld (v := cI _) rfl (is_I _) ?_
          refine g_lt2 i18 hl4 (fun b19 => ?_) (fun b19 => ?_)
          · replace h := h.1 b19
            unfold vX9_readList_66
            refine g_ld (v := rf _) rfl (is_R _) ?_
            refine g_ld (v := cI _) rfl (is_I _) ?_
            refine g_ld (v := rf _) rfl (is_R _) ?_
            refine g_getF (v := 12) oC9 (hC9_4) rfl (Nat.le_of_ble_eq_true rfl) (Nat.le_of_ble_eq_true rfl) ?_
            refine g_ld (v := rf _) rfl (is_R _) ?_
            refine g_getI (kz := 8) oC9 rfl (Nat.le_of_ble_eq_true rfl) rfl fun i20 => ?_
            replace h := h i20
            obtain ⟨q21, q22, h⟩ := h
            refine g_aldL aC12 q21 q22 rfl fun i23 => ?_
            replace h := h i23
            refine g_callV (As := [_, _]) (ci := 10) q15 (fun _ => rfl) ?_
            refine g_go0 (Nat.le_of_ble_eq_true rfl) (Tn_w (TX10_list hl3 i23 h) fun _ G24 ⟨e, h⟩ => ⟨e, ?_⟩)
            refine g_ld (v := rf _) rfl (is_R _) ?_
            refine g_callV (As := []) (ci := 9) oC9 (fun _ => rfl) ?_
            refine g_go1 (Nat.le_of_ble_eq_true rfl) (Tn_w (TX9_take  h) fun _ G26 ⟨r27, e, i28, h⟩ => ?_)
            subst e
            refine ⟨n7_I _, ?_⟩
            replace h := h i28
            refine g_eq1 ⟨by omega, by omega⟩ (fun b29 => ?_) (fun b29 => ?_)
            · replace h := h.1 b29
              unfold vX9_readList_87
              refine g_const (v := cI (0)) rfl ?_
              exact g_ret1 (is_Z (by omega)) ⟨_, rfl, (by omega), h⟩
            · replace h := h.2 b29
              unfold vX9_readList_89
              refine g_ld (v := rf _) rfl (is_R _) ?_
              refine g_callV (As := []) (ci := 9) oC9 (fun _ => rfl) ?_
              refine g_go1 (Nat.le_of_ble_eq_true rfl) (Tn_w (TX9_now  h) fun _ G30 ⟨r31, e, i32, h⟩ => ?_)
              subst e
              refine ⟨n7_I _, ?_⟩
              replace h := h i32
              refine g_const (v := cI (144)) rfl ?_
              refine g_eq2 i32 ⟨by omega, by omega⟩ (fun b33 => ?_) (fun b33 => ?_)
              · replace h := h.1 b33
                unfold vX9_readList_99
                refine g_const (v := cI (1)) rfl ?_
                exact TX9_readList_104 hl2 hl3 hl4 hl5 hl6 ⟨by omega, by omega⟩ hj0 h
              · replace h := h.2 b33
                unfold vX9_readList_103
                refine g_const (v := cI (0)) rfl ?_
                exact TX9_readList_104 hl2 hl3 hl4 hl5 hl6 ⟨by omega, by omega⟩ hj0 h
          · replace h := h.2 b19
            unfold vX9_readList_60
            refine g_ld (v := rf _) rfl (is_R _) ?_
            refine g_const (v := cI (3)) rfl ?_
            refine g_callV (As := [_]) (ci := 9) oC9 (fun _ => rfl) ?_
            refine g_go1 (Nat.le_of_ble_eq_true rfl) (Tn_w (TX9_stop ⟨by omega, by omega⟩ h) fun _ G34 ⟨r35, e, i36, h⟩ => ?_)
            subst e
            refine ⟨n7_I _, ?_⟩
            replace h := h i36
            exact g_ret1 (is_Z i36) ⟨_, rfl, i36, h⟩
        · replace h := h.2 b14
          exact TX9_readList_44 hl2 hl3 hl4 hl5 hl6 hj0 h
  · replace h := h.2 b5
    exact TX9_readList_112 hl2 hl3 hl4 hl5 hl6 hj0 h
def PX9_readList_0 (J : Nat → List Int → gS → (Int → gS → Prop) → Prop) (a1 : Int) (a2 : Int) (a3 : Int) (a4 : Int) (G : gS) (Q : Int → gS → Prop) : Prop :=
  PX9_now G (fun r2 G1 => inI r2 → ((r2 = a2 → PX9_readList_16 J a1 a2 a3 a4 1 0 G1 Q) ∧ (¬ (r2 = a2) → Q (1) G1)))
set_option maxRecDepth 20000 in
theorem TX9_readList_0 {j : Nat → rx_K} {J : Nat → List Int → gS → (Int → gS → Prop) → Prop} {a1 : Int} {a2 : Int} {a3 : Int} {a4 : Int} {G : gS} {Q : Int → gS → Prop} (ha2 : inI a2) (ha3 : inI a3) (ha4 : inI a4) (hj0 : ∀ (l1 : Int) (l2 : Int) (l3 : Int) (l4 : Int) (l5 : Int) (l6 : Int) (G : gS), (inI l2) → (inI l3) → (inI l4) → (inI l5) → (inI l6) → J 0 [l1, l2, l3, l4, l5, l6] G Q → Tg W0 (j 0) [rf (7), rf (l1), cI (l2), cI (l3), cI (l4), cI (l5), cI (l6)] [] G (fun r G => ∃ v, r = cI v ∧ (0 ≤ v ∧ v ≤ 1) ∧ Q v G)) (h : PX9_readList_0 J a1 a2 a3 a4 G Q) : Tg W0 (vX9_readList_0 j) [rf (7), rf (a1), cI (a2), cI (a3), cI (a4), 7, 7] [] G (fun r G => ∃ v, r = cI v ∧ (0 ≤ v ∧ v ≤ 1) ∧ Q v G) := by
  unfold PX9_readList_0 at h
  unfold vX9_readList_0
  refine g_ld (v := rf _) rfl (is_R _) ?_
  refine g_callV (As := []) (ci := 9) oC9 (fun _ => rfl) ?_
  refine g_go1 (Nat.le_of_ble_eq_true rfl) (Tn_w (TX9_now  h) fun _ G1 ⟨r2, e, i3, h⟩ => ?_)
  subst e
  refine ⟨n7_I _, ?_⟩
  replace h := h i3
  refine g_ld (v := cI _) rfl (is_I _) ?_
  refine g_eq2 i3 ha2 (fun b4 => ?_) (fun b4 => ?_)
  · replace h := h.1 b4
    unfold vX9_readList_10
    refine g_const (v := cI (1)) rfl ?_
    refine g_st (lv' := [_, _, _, _, _, _, _]) (is_I _) (Nat.le_of_ble_eq_true rfl) (Or.inr (n1_I _)) rfl ?_
    refine g_const (v := cI (0)) rfl ?_
    refine g_st (lv' := [_, _, _, _, _, _, _]) (is_I _) (Nat.le_of_ble_eq_true rfl) (Or.inr (n1_I _)) rfl ?_
    exact TX9_readList_16 ha2 ha3 ha4 ⟨by omega, by omega⟩ ⟨by omega, by omega⟩ hj0 h
  · replace h := h.2 b4
    unfold vX9_readList_8
    refine g_const (v := cI (1)) rfl ?_
    exact g_ret1 (is_Z (by omega)) ⟨_, rfl, (by omega), h⟩
def PX9_readList_J : Nat → Nat → List Int → gS → (Int → gS → Prop) → Prop
  | 0, _, _, _, _ => False
  | f + 1, h, L, G, Q => match h, L with
    | 0, [l1, l2, l3, l4, l5, l6] => PX9_readList_16 (PX9_readList_J f) l1 l2 l3 l4 l5 l6 G Q
    | _, _ => False
theorem TX9_readList_J {Q : Int → gS → Prop} : ∀ f N : Nat, f ≤ N → (∀ (l1 : Int) (l2 : Int) (l3 : Int) (l4 : Int) (l5 : Int) (l6 : Int) (G : gS), (inI l2) → (inI l3) → (inI l4) → (inI l5) → (inI l6) → (PX9_readList_J f) 0 [l1, l2, l3, l4, l5, l6] G Q → Tg W0 (rx_J vhX9_readList N 0) [rf (7), rf (l1), cI (l2), cI (l3), cI (l4), cI (l5), cI (l6)] [] G (fun r G => ∃ v, r = cI v ∧ (0 ≤ v ∧ v ≤ 1) ∧ Q v G)) := by
  intro f
  induction f with
  | zero => exact fun N _ => fun _ _ _ _ _ _ _ _ _ _ _ _ h => h.elim
  | succ f ih =>
    intro N hN
    obtain ⟨M, rfl⟩ : ∃ M, N = M + 1 := ⟨N - 1, by omega⟩
    have ih := ih M (by omega)
    exact fun _ _ _ _ _ _ _ hl2 hl3 hl4 hl5 hl6 h => show Tg W0 (vX9_readList_16 (rx_J vhX9_readList M)) _ _ _ _ from TX9_readList_16 hl2 hl3 hl4 hl5 hl6 ih h
def PX9_readList (a1 : Int) (a2 : Int) (a3 : Int) (a4 : Int) (G : gS) (Q : Int → gS → Prop) : Prop := ∃ f : Nat, f ≤ 4000000000 ∧ PX9_readList_0 (PX9_readList_J f) a1 a2 a3 a4 G Q
theorem TX9_readList {a1 : Int} {a2 : Int} {a3 : Int} {a4 : Int} {G : gS} {Q : Int → gS → Prop} (ha2 : inI a2) (ha3 : inI a3) (ha4 : inI a4) (h : PX9_readList a1 a2 a3 a4 G Q) : Tn W0 FX9_readList [rf (7), rf (a1), cI (a2), cI (a3), cI (a4)] G (fun r G => ∃ v, r = cI v ∧ (0 ≤ v ∧ v ≤ 1) ∧ Q v G) := by
  obtain ⟨f, hf, h⟩ := h
  have hJ := TX9_readList_J (Q := Q) f 4000000000 hf
  unfold FX9_readList
  refine g_ent (lv' := [rf (7), rf (a1), cI (a2), cI (a3), cI (a4), 7, 7]) (flR (flR (flI (flI (flI fl0))))) (Nat.le_of_ble_eq_true rfl) rfl ?_
  exact TX9_readList_0 ha2 ha3 ha4 hJ h
def PX9_readParents_152 (l1 : Int) (s0 : Int) (G : gS) (Q : Int → gS → Prop) : Prop :=
  ((0 ≤ s0 ∧ s0 ≤ 1) ∧ Q (s0) G)
set_option maxRecDepth 20000 in
theorem TX9_readParents_152 {l1 : Int} {s0 : Int} {G : gS} {Q : Int → gS → Prop} (hs0 : inI s0) (h : PX9_readParents_152 l1 s0 G Q) : Tg W0 vX9_readParents_152 [rf (7), rf (l1)] [cI (s0)] G (fun r G => ∃ v, r = cI v ∧ (0 ≤ v ∧ v ≤ 1) ∧ Q v G) := by
  unfold PX9_readParents_152 at h
  unfold vX9_readParents_152
  obtain ⟨q64, h⟩ := h
  exact g_ret1 (is_Z q64) ⟨_, rfl, q64, h⟩
def PX9_readParents_151 (l1 : Int) (G : gS) (Q : Int → gS → Prop) : Prop :=
  PX9_readParents_152 l1 0 G Q
set_option maxRecDepth 20000 in
theorem TX9_readParents_151 {l1 : Int} {G : gS} {Q : Int → gS → Prop}  (h : PX9_readParents_151 l1 G Q) : Tg W0 vX9_readParents_151 [rf (7), rf (l1)] [] G (fun r G => ∃ v, r = cI v ∧ (0 ≤ v ∧ v ≤ 1) ∧ Q v G) := by
  unfold PX9_readParents_151 at h
  unfold vX9_readParents_151
  refine g_const (v := cI (0)) rfl ?_
  exact TX9_readParents_152 ⟨by omega, by omega⟩ h
def PX9_readParents_121 (l1 : Int) (G : gS) (Q : Int → gS → Prop) : Prop :=
  PX9_readList l1 15 1 8 G (fun r57 G56 => (0 ≤ r57 ∧ r57 ≤ 1) → ((r57 = 0 → PX9_readParents_151 l1 G56 Q) ∧ (¬ (r57 = 0) → PX9_readList l1 16 2 8 G56 (fun r61 G60 => (0 ≤ r61 ∧ r61 ≤ 1) → ((r61 = 0 → PX9_readParents_151 l1 G60 Q) ∧ (¬ (r61 = 0) → PX9_readParents_152 l1 1 G60 Q))))))
set_option maxRecDepth 20000 in
theorem TX9_readParents_121 {l1 : Int} {G : gS} {Q : Int → gS → Prop}  (h : PX9_readParents_121 l1 G Q) : Tg W0 vX9_readParents_121 [rf (7), rf (l1)] [] G (fun r G => ∃ v, r = cI v ∧ (0 ≤ v ∧ v ≤ 1) ∧ Q v G) := by
  unfold PX9_readParents_121 at h
  unfold vX9_readParents_121
  refine g_ld (v := rf _) rfl (is_R _) ?_
  refine g_ld (v := rf _) rfl (is_R _) ?_
  refine g_const (v := cI (15)) rfl ?_
  refine g_const (v := cI (1)) rfl ?_
  refine g_const (v := cI (8)) rfl ?_
  refine g_callV (As := [_, _, _, _]) (ci := 9) oC9 (fun _ => rfl) ?_
  refine g_go1 (Nat.le_of_ble_eq_true rfl) (Tn_w (TX9_readList ⟨by omega, by omega⟩ ⟨by omega, by omega⟩ ⟨by omega, by omega⟩ h) fun _ G56 ⟨r57, e, i58, h⟩ => ?_)
  subst e
  refine ⟨n7_I _, ?_⟩
  replace h := h i58
  refine g_eq1 ⟨by omega, by omega⟩ (fun b59 => ?_) (fun b59 => ?_)
  · replace h := h.1 b59
    exact TX9_readParents_151  h
  · replace h := h.2 b59
    unfold vX9_readParents_134
    refine g_ld (v := rf _) rfl (is_R _) ?_
    refine g_ld (v := rf _) rfl (is_R _) ?_
    refine g_const (v := cI (16)) rfl ?_
    refine g_const (v := cI (2)) rfl ?_
    refine g_const (v := cI (8)) rfl ?_
    refine g_callV (As := [_, _, _, _]) (ci := 9) oC9 (fun _ => rfl) ?_
    refine g_go1 (Nat.le_of_ble_eq_true rfl) (Tn_w (TX9_readList ⟨by omega, by omega⟩ ⟨by omega, by omega⟩ ⟨by omega, by omega⟩ h) fun _ G60 ⟨r61, e, i62, h⟩ => ?_)
    subst e
    refine ⟨n7_I _, ?_⟩
    replace h := h i62
    refine g_eq1 ⟨by omega, by omega⟩ (fun b63 => ?_) (fun b63 => ?_)
    · replace h := h.1 b63
      exact TX9_readParents_151  h
    · replace h := h.2 b63
      unfold vX9_readParents_147
      refine g_const (v := cI (1)) rfl ?_
      exact TX9_readParents_152 ⟨by omega, by omega⟩ h
def PX9_readParents_94 (l1 : Int) (G : gS) (Q : Int → gS → Prop) : Prop :=
  PX9_miss G (fun r54 G53 => (0 ≤ r54 ∧ r54 ≤ 1) → Q (r54) G53)
set_option maxRecDepth 20000 in
theorem TX9_readParents_94 {l1 : Int} {G : gS} {Q : Int → gS → Prop}  (h : PX9_readParents_94 l1 G Q) : Tg W0 vX9_readParents_94 [rf (7), rf (l1)] [] G (fun r G => ∃ v, r = cI v ∧ (0 ≤ v ∧ v ≤ 1) ∧ Q v G) := by
  unfold PX9_readParents_94 at h
  unfold vX9_readParents_94
  refine g_ld (v := rf _) rfl (is_R _) ?_
  refine g_callV (As := []) (ci := 9) oC9 (fun _ => rfl) ?_
  refine g_go1 (Nat.le_of_ble_eq_true rfl) (Tn_w (TX9_miss  h) fun _ G53 ⟨r54, e, i55, h⟩ => ?_)
  subst e
  refine ⟨n7_I _, ?_⟩
  replace h := h i55
  exact g_ret1 (is_Z i55) ⟨_, rfl, i55, h⟩
def PX9_readParents_56 (l1 : Int) (G : gS) (Q : Int → gS → Prop) : Prop :=
  PX9_readList l1 12 0 4 G (fun r28 G27 => (0 ≤ r28 ∧ r28 ≤ 1) → ((r28 = 0 → Q (0) G27) ∧ (¬ (r28 = 0) → PX9_now G27 (fun r32 G31 => inI r32 → ((r32 = 14 → PX9_take G31 (fun r36 G35 => (0 ≤ r36 ∧ r36 ≤ 1) → ((r36 = 0 → PX9_readParents_94 l1 G35 Q) ∧ (¬ (r36 = 0) → PX9_now G35 (fun r40 G39 => inI r40 → ((r40 = 2 → (inI (G39 7 8) → ((0 : Int) ≤ G39 7 8 ∧ ((G39 7 8 : Int) < 704 ∧ (inL (G39 12 (G39 7 8)) → (isO W0 10 (l1) ∧ (∀ G48 : gS, G48 = uG G39 l1 9 (G39 12 (G39 7 8)) → PX9_take G48 (fun r50 G49 => (0 ≤ r50 ∧ r50 ≤ 1) → ((r50 = 0 → Q (0) G49) ∧ (¬ (r50 = 0) → PX9_readParents_121 l1 G49 Q)))))))))) ∧ (¬ (r40 = 2) → PX9_readParents_94 l1 G39 Q))))))) ∧ (¬ (r32 = 14) → PX9_readParents_121 l1 G31 Q))))))
set_option maxRecDepth 20000 in
theorem TX9_readParents_56 {l1 : Int} {G : gS} {Q : Int → gS → Prop}  (h : PX9_readParents_56 l1 G Q) : Tg W0 vX9_readParents_56 [rf (7), rf (l1)] [] G (fun r G => ∃ v, r = cI v ∧ (0 ≤ v ∧ v ≤ 1) ∧ Q v G) := by
  unfold PX9_readParents_56 at h
  unfold vX9_readParents_56
  refine g_ld (v := rf _) rfl (is_R _) ?_
  refine g_ld (v := rf _) rfl (is_R _) ?_
  refine g_const (v := cI (12)) rfl ?_
  refine g_const (v := cI (0)) rfl ?_
  refine g_const (v := cI (4)) rfl ?_
  refine g_callV (As := [_, _, _, _]) (ci := 9) oC9 (fun _ => rfl) ?_
  refine g_go1 (Nat.le_of_ble_eq_true rfl) (Tn_w (TX9_readList ⟨by omega, by omega⟩ ⟨by omega, by omega⟩ ⟨by omega, by omega⟩ h) fun _ G27 ⟨r28, e, i29, h⟩ => ?_)
  subst e
  refine ⟨n7_I _, ?_⟩
  replace h := h i29
  refine g_eq1 ⟨by omega, by omega⟩ (fun b30 => ?_) (fun b30 => ?_)
  · replace h := h.1 b30
    unfold vX9_readParents_68
    refine g_const (v := cI (0)) rfl ?_
    exact g_ret1 (is_Z (by omega)) ⟨_, rfl, (by omega), h⟩
  · replace h := h.2 b30
    unfold vX9_readParents_70
    refine g_ld (v := rf _) rfl (is_R _) ?_
    refine g_callV (As := []) (ci := 9) oC9 (fun _ => rfl) ?_
    refine g_go1 (Nat.le_of_ble_eq_true rfl) (Tn_w (TX9_now  h) fun _ G31 ⟨r32, e, i33, h⟩ => ?_)
    subst e
    refine ⟨n7_I _, ?_⟩
    replace h := h i33
    refine g_const (v := cI (14)) rfl ?_
    refine g_eq2 i33 ⟨by omega, by omega⟩ (fun b34 => ?_) (fun b34 => ?_)
    · replace h := h.1 b34
      unfold vX9_readParents_79
      refine g_ld (v := rf _) rfl (is_R _) ?_
      refine g_callV (As := []) (ci := 9) oC9 (fun _ => rfl) ?_
      refine g_go1 (Nat.le_of_ble_eq_true rfl) (Tn_w (TX9_take  h) fun _ G35 ⟨r36, e, i37, h⟩ => ?_)
      subst e
      refine ⟨n7_I _, ?_⟩
      replace h := h i37
      refine g_eq1 ⟨by omega, by omega⟩ (fun b38 => ?_) (fun b38 => ?_)
      · replace h := h.1 b38
        exact TX9_readParents_94  h
      · replace h := h.2 b38
        unfold vX9_readParents_86
        refine g_ld (v := rf _) rfl (is_R _) ?_
        refine g_callV (As := []) (ci := 9) oC9 (fun _ => rfl) ?_
        refine g_go1 (Nat.le_of_ble_eq_true rfl) (Tn_w (TX9_now  h) fun _ G39 ⟨r40, e, i41, h⟩ => ?_)
        subst e
        refine ⟨n7_I _, ?_⟩
        replace h := h i41
        refine g_const (v := cI (2)) rfl ?_
        refine g_eq2 i41 ⟨by omega, by omega⟩ (fun b42 => ?_) (fun b42 => ?_)
        · replace h := h.1 b42
          unfold vX9_readParents_99
          refine g_ld (v := rf _) rfl (is_R _) ?_
          refine g_ld (v := rf _) rfl (is_R _) ?_
          refine g_getF (v := 12) oC9 (hC9_4) rfl (Nat.le_of_ble_eq_true rfl) (Nat.le_of_ble_eq_true rfl) ?_
          refine g_ld (v := rf _) rfl (is_R _) ?_
          refine g_getI (kz := 8) oC9 rfl (Nat.le_of_ble_eq_true rfl) rfl fun i43 => ?_
          replace h := h i43
          obtain ⟨q44, q45, h⟩ := h
          refine g_aldL aC12 q44 q45 rfl fun i46 => ?_
          replace h := h i46
          obtain ⟨q47, h⟩ := h
          refine g_putL (kz := 9) q47 rfl (Nat.le_of_ble_eq_true rfl) rfl i46 (nf10_9 q47) ?_
          replace h := h _ rfl
          refine g_ld (v := rf _) rfl (is_R _) ?_
          refine g_callV (As := []) (ci := 9) oC9 (fun _ => rfl) ?_
          refine g_go1 (Nat.le_of_ble_eq_true rfl) (Tn_w (TX9_take  h) fun _ G49 ⟨r50, e, i51, h⟩ => ?_)
          subst e
          refine ⟨n7_I _, ?_⟩
          replace h := h i51
          refine g_eq1 ⟨by omega, by omega⟩ (fun b52 => ?_) (fun b52 => ?_)
          · replace h := h.1 b52
            unfold vX9_readParents_119
            refine g_const (v := cI (0)) rfl ?_
            exact g_ret1 (is_Z (by omega)) ⟨_, rfl, (by omega), h⟩
          · replace h := h.2 b52
            exact TX9_readParents_121  h
        · replace h := h.2 b42
          exact TX9_readParents_94  h
    · replace h := h.2 b34
      exact TX9_readParents_121  h
def PX9_readParents_24 (l1 : Int) (G : gS) (Q : Int → gS → Prop) : Prop :=
  PX9_miss G (fun r25 G24 => (0 ≤ r25 ∧ r25 ≤ 1) → Q (r25) G24)
set_option maxRecDepth 20000 in
theorem TX9_readParents_24 {l1 : Int} {G : gS} {Q : Int → gS → Prop}  (h : PX9_readParents_24 l1 G Q) : Tg W0 vX9_readParents_24 [rf (7), rf (l1)] [] G (fun r G => ∃ v, r = cI v ∧ (0 ≤ v ∧ v ≤ 1) ∧ Q v G) := by
  unfold PX9_readParents_24 at h
  unfold vX9_readParents_24
  refine g_ld (v := rf _) rfl (is_R _) ?_
  refine g_callV (As := []) (ci := 9) oC9 (fun _ => rfl) ?_
  refine g_go1 (Nat.le_of_ble_eq_true rfl) (Tn_w (TX9_miss  h) fun _ G24 ⟨r25, e, i26, h⟩ => ?_)
  subst e
  refine ⟨n7_I _, ?_⟩
  replace h := h i26
  exact g_ret1 (is_Z i26) ⟨_, rfl, i26, h⟩
def PX9_readParents_0 (a1 : Int) (G : gS) (Q : Int → gS → Prop) : Prop :=
  PX9_now G (fun r2 G1 => inI r2 → ((r2 = 13 → PX9_take G1 (fun r6 G5 => (0 ≤ r6 ∧ r6 ≤ 1) → ((r6 = 0 → PX9_readParents_24 a1 G5 Q) ∧ (¬ (r6 = 0) → PX9_now G5 (fun r10 G9 => inI r10 → ((r10 = 2 → (isO W0 10 (a1) ∧ (∀ G14 : gS, G14 = uG G9 a1 7 (1) → (inI (G14 7 8) → ((0 : Int) ≤ G14 7 8 ∧ ((G14 7 8 : Int) < 704 ∧ (inL (G14 12 (G14 7 8)) → (∀ G19 : gS, G19 = uG G14 a1 8 (G14 12 (G14 7 8)) → PX9_take G19 (fun r21 G20 => (0 ≤ r21 ∧ r21 ≤ 1) → ((r21 = 0 → Q (0) G20) ∧ (¬ (r21 = 0) → PX9_readParents_56 a1 G20 Q))))))))))) ∧ (¬ (r10 = 2) → PX9_readParents_24 a1 G9 Q))))))) ∧ (¬ (r2 = 13) → PX9_readParents_56 a1 G1 Q)))
set_option maxRecDepth 20000 in
theorem TX9_readParents_0 {a1 : Int} {G : gS} {Q : Int → gS → Prop}  (h : PX9_readParents_0 a1 G Q) : Tg W0 vX9_readParents_0 [rf (7), rf (a1)] [] G (fun r G => ∃ v, r = cI v ∧ (0 ≤ v ∧ v ≤ 1) ∧ Q v G) := by
  unfold PX9_readParents_0 at h
  unfold vX9_readParents_0
  refine g_ld (v := rf _) rfl (is_R _) ?_
  refine g_callV (As := []) (ci := 9) oC9 (fun _ => rfl) ?_
  refine g_go1 (Nat.le_of_ble_eq_true rfl) (Tn_w (TX9_now  h) fun _ G1 ⟨r2, e, i3, h⟩ => ?_)
  subst e
  refine ⟨n7_I _, ?_⟩
  replace h := h i3
  refine g_const (v := cI (13)) rfl ?_
  refine g_eq2 i3 ⟨by omega, by omega⟩ (fun b4 => ?_) (fun b4 => ?_)
  · replace h := h.1 b4
    unfold vX9_readParents_9
    refine g_ld (v := rf _) rfl (is_R _) ?_
    refine g_callV (As := []) (ci := 9) oC9 (fun _ => rfl) ?_
    refine g_go1 (Nat.le_of_ble_eq_true rfl) (Tn_w (TX9_take  h) fun _ G5 ⟨r6, e, i7, h⟩ => ?_)
    subst e
    refine ⟨n7_I _, ?_⟩
    replace h := h i7
    refine g_eq1 ⟨by omega, by omega⟩ (fun b8 => ?_) (fun b8 => ?_)
    · replace h := h.1 b8
      exact TX9_readParents_24  h
    · replace h := h.2 b8
      unfold vX9_readParents_16
      refine g_ld (v := rf _) rfl (is_R _) ?_
      refine g_callV (As := []) (ci := 9) oC9 (fun _ => rfl) ?_
      refine g_go1 (Nat.le_of_ble_eq_true rfl) (Tn_w (TX9_now  h) fun _ G9 ⟨r10, e, i11, h⟩ => ?_)
      subst e
      refine ⟨n7_I _, ?_⟩
      replace h := h i11
      refine g_const (v := cI (2)) rfl ?_
      refine g_eq2 i11 ⟨by omega, by omega⟩ (fun b12 => ?_) (fun b12 => ?_)
      · replace h := h.1 b12
        unfold vX9_readParents_29
        refine g_ld (v := rf _) rfl (is_R _) ?_
        refine g_const (v := cI (1)) rfl ?_
        obtain ⟨q13, h⟩ := h
        refine g_putZ (kz := 7) q13 rfl (Nat.le_of_ble_eq_true rfl) rfl (by omega) (nf10_7 q13) ?_
        replace h := h _ rfl
        refine g_ld (v := rf _) rfl (is_R _) ?_
        refine g_ld (v := rf _) rfl (is_R _) ?_
        refine g_getF (v := 12) oC9 (hC9_4) rfl (Nat.le_of_ble_eq_true rfl) (Nat.le_of_ble_eq_true rfl) ?_
        refine g_ld (v := rf _) rfl (is_R _) ?_
        refine g_getI (kz := 8) oC9 rfl (Nat.le_of_ble_eq_true rfl) rfl fun i15 => ?_
        replace h := h i15
        obtain ⟨q16, q17, h⟩ := h
        refine g_aldL aC12 q16 q17 rfl fun i18 => ?_
        replace h := h i18
        refine g_putL (kz := 8) q13 rfl (Nat.le_of_ble_eq_true rfl) rfl i18 (nf10_8 q13) ?_
        replace h := h _ rfl
        refine g_ld (v := rf _) rfl (is_R _) ?_
        refine g_callV (As := []) (ci := 9) oC9 (fun _ => rfl) ?_
        refine g_go1 (Nat.le_of_ble_eq_true rfl) (Tn_w (TX9_take  h) fun _ G20 ⟨r21, e, i22, h⟩ => ?_)
        subst e
        refine ⟨n7_I _, ?_⟩
        replace h := h i22
        refine g_eq1 ⟨by omega, by omega⟩ (fun b23 => ?_) (fun b23 => ?_)
        · replace h := h.1 b23
          unfold vX9_readParents_54
          refine g_const (v := cI (0)) rfl ?_
          exact g_ret1 (is_Z (by omega)) ⟨_, rfl, (by omega), h⟩
        · replace h := h.2 b23
          exact TX9_readParents_56  h
      · replace h := h.2 b12
        exact TX9_readParents_24  h
  · replace h := h.2 b4
    exact TX9_readParents_56  h
abbrev PX9_readParents (a1 : Int) (G : gS) (Q : Int → gS → Prop) : Prop := PX9_readParents_0 a1 G Q
theorem TX9_readParents {a1 : Int} {G : gS} {Q : Int → gS → Prop}  (h : PX9_readParents a1 G Q) : Tn W0 FX9_readParents [rf (7), rf (a1)] G (fun r G => ∃ v, r = cI v ∧ (0 ≤ v ∧ v ≤ 1) ∧ Q v G) := by
  unfold FX9_readParents
  refine g_ent (lv' := [rf (7), rf (a1)]) (flR (flR fl0)) (Nat.le_of_ble_eq_true rfl) rfl ?_
  exact TX9_readParents_0  h
def PX9_readParams_170 (J : Nat → List Int → gS → (Int → gS → Prop) → Prop) (l1 : Int) (l2 : Int) (l3 : Int) (G : gS) (Q : Int → gS → Prop) : Prop :=
  PX9_need 141 G (fun r23 G22 => (0 ≤ r23 ∧ r23 ≤ 1) → Q (r23) G22)
set_option maxRecDepth 20000 in
theorem TX9_readParams_170 {j : Nat → rx_K} {J : Nat → List Int → gS → (Int → gS → Prop) → Prop} {l1 : Int} {l2 : Int} {l3 : Int} {G : gS} {Q : Int → gS → Prop} (hl2 : inI l2) (hl3 : inI l3) (hj0 : ∀ (l1 : Int) (l2 : Int) (l3 : Int) (G : gS), (inI l2) → (inI l3) → J 0 [l1, l2, l3] G Q → Tg W0 (j 0) [rf (7), rf (l1), cI (l2), cI (l3)] [] G (fun r G => ∃ v, r = cI v ∧ (0 ≤ v ∧ v ≤ 1) ∧ Q v G)) (h : PX9_readParams_170 J l1 l2 l3 G Q) : Tg W0 (vX9_readParams_170 j) [rf (7), rf (l1), cI (l2), cI (l3)] [] G (fun r G => ∃ v, r = cI v ∧ (0 ≤ v ∧ v ≤ 1) ∧ Q v G) := by
  unfold PX9_readParams_170 at h
  unfold vX9_readParams_170
  refine g_ld (v := rf _) rfl (is_R _) ?_
  refine g_const (v := cI (141)) rfl ?_
  refine g_callV (As := [_]) (ci := 9) oC9 (fun _ => rfl) ?_
  refine g_go1 (Nat.le_of_ble_eq_true rfl) (Tn_w (TX9_need ⟨by omega, by omega⟩ h) fun _ G22 ⟨r23, e, i24, h⟩ => ?_)
  subst e
  refine ⟨n7_I _, ?_⟩
  replace h := h i24
  exact g_ret1 (is_Z i24) ⟨_, rfl, i24, h⟩
def PX9_readParams_164 (J : Nat → List Int → gS → (Int → gS → Prop) → Prop) (l1 : Int) (l2 : Int) (l3 : Int) (G : gS) (Q : Int → gS → Prop) : Prop :=
  (inI (l3 + 1) ∧ J 0 [l1, l2, l3 + 1] G Q)
set_option maxRecDepth 20000 in
theorem TX9_readParams_164 {j : Nat → rx_K} {J : Nat → List Int → gS → (Int → gS → Prop) → Prop} {l1 : Int} {l2 : Int} {l3 : Int} {G : gS} {Q : Int → gS → Prop} (hl2 : inI l2) (hl3 : inI l3) (hj0 : ∀ (l1 : Int) (l2 : Int) (l3 : Int) (G : gS), (inI l2) → (inI l3) → J 0 [l1, l2, l3] G Q → Tg W0 (j 0) [rf (7), rf (l1), cI (l2), cI (l3)] [] G (fun r G => ∃ v, r = cI v ∧ (0 ≤ v ∧ v ≤ 1) ∧ Q v G)) (h : PX9_readParams_164 J l1 l2 l3 G Q) : Tg W0 (vX9_readParams_164 j) [rf (7), rf (l1), cI (l2), cI (l3)] [] G (fun r G => ∃ v, r = cI v ∧ (0 ≤ v ∧ v ≤ 1) ∧ Q v G) := by
  unfold PX9_readParams_164 at h
  unfold vX9_readParams_164
  refine g_inc (lv' := [_, _, _, _]) rfl (Nat.le_of_ble_eq_true rfl) (Or.inr (n1_I _)) rfl ?_
  obtain ⟨q66, h⟩ := h
  exact hj0 _ _ _ _ hl2 q66 h
def PX9_readParams_150 (J : Nat → List Int → gS → (Int → gS → Prop) → Prop) (l1 : Int) (l2 : Int) (l3 : Int) (s0 : Int) (G : gS) (Q : Int → gS → Prop) : Prop :=
  ((s0 = 0 → PX9_readParams_164 J l1 s0 l3 G Q) ∧ (¬ (s0 = 0) → PX9_take G (fun r63 G62 => (0 ≤ r63 ∧ r63 ≤ 1) → ((r63 = 0 → Q (0) G62) ∧ (¬ (r63 = 0) → PX9_readParams_164 J l1 s0 l3 G62 Q)))))
set_option maxRecDepth 20000 in
theorem TX9_readParams_150 {j : Nat → rx_K} {J : Nat → List Int → gS → (Int → gS → Prop) → Prop} {l1 : Int} {l2 : Int} {l3 : Int} {s0 : Int} {G : gS} {Q : Int → gS → Prop} (hl2 : inI l2) (hl3 : inI l3) (hs0 : inI s0) (hj0 : ∀ (l1 : Int) (l2 : Int) (l3 : Int) (G : gS), (inI l2) → (inI l3) → J 0 [l1, l2, l3] G Q → Tg W0 (j 0) [rf (7), rf (l1), cI (l2), cI (l3)] [] G (fun r G => ∃ v, r = cI v ∧ (0 ≤ v ∧ v ≤ 1) ∧ Q v G)) (h : PX9_readParams_150 J l1 l2 l3 s0 G Q) : Tg W0 (vX9_readParams_150 j) [rf (7), rf (l1), cI (l2), cI (l3)] [cI (s0)] G (fun r G => ∃ v, r = cI v ∧ (0 ≤ v ∧ v ≤ 1) ∧ Q v G) := by
  unfold PX9_readParams_150 at h
  unfold vX9_readParams_150
  refine g_st (lv' := [_, _, _, _]) (is_I _) (Nat.le_of_ble_eq_true rfl) (Or.inr (n1_R _)) rfl ?_
  refine g_ld (v := cI _) rfl (is_I _) ?_
  refine g_eq1 hs0 (fun b61 => ?_) (fun b61 => ?_)
  · replace h := h.1 b61
    exact TX9_readParams_164 hs0 hl3 hj0 h
  · replace h := h.2 b61
    unfold vX9_readParams_155
    refine g_ld (v := rf _) rfl (is_R _) ?_
    refine g_callV (As := []) (ci := 9) oC9 (fun _ => rfl) ?_
    refine g_go1 (Nat.le_of_ble_eq_true rfl) (Tn_w (TX9_take  h) fun _ G62 ⟨r63, e, i64, h⟩ => ?_)
    subst e
    refine ⟨n7_I _, ?_⟩
    replace h := h i64
    refine g_eq1 ⟨by omega, by omega⟩ (fun b65 => ?_) (fun b65 => ?_)
    · replace h := h.1 b65
      unfold vX9_readParams_162
      refine g_const (v := cI (0)) rfl ?_
      exact g_ret1 (is_Z (by omega)) ⟨_, rfl, (by omega), h⟩
    · replace h := h.2 b65
      exact TX9_readParams_164 hs0 hl3 hj0 h
def PX9_readParams_133 (J : Nat → List Int → gS → (Int → gS → Prop) → Prop) (l1 : Int) (l2 : Int) (l3 : Int) (G : gS) (Q : Int → gS → Prop) : Prop :=
  Q (0) G
set_option maxRecDepth 20000 in
theorem TX9_readParams_133 {j : Nat → rx_K} {J : Nat → List Int → gS → (Int → gS → Prop) → Prop} {l1 : Int} {l2 : Int} {l3 : Int} {G : gS} {Q : Int → gS → Prop} (hl2 : inI l2) (hl3 : inI l3) (hj0 : ∀ (l1 : Int) (l2 : Int) (l3 : Int) (G : gS), (inI l2) → (inI l3) → J 0 [l1, l2, l3] G Q → Tg W0 (j 0) [rf (7), rf (l1), cI (l2), cI (l3)] [] G (fun r G => ∃ v, r = cI v ∧ (0 ≤ v ∧ v ≤ 1) ∧ Q v G)) (h : PX9_readParams_133 J l1 l2 l3 G Q) : Tg W0 (vX9_readParams_133 j) [rf (7), rf (l1), cI (l2), cI (l3)] [] G (fun r G => ∃ v, r = cI v ∧ (0 ≤ v ∧ v ≤ 1) ∧ Q v G) := by
  unfold PX9_readParams_133 at h
  unfold vX9_readParams_133
  refine g_const (v := cI (0)) rfl ?_
  exact g_ret1 (is_Z (by omega)) ⟨_, rfl, (by omega), h⟩
def PX9_readParams_107 (J : Nat → List Int → gS → (Int → gS → Prop) → Prop) (l1 : Int) (l2 : Int) (l3 : Int) (s0 : Int) (s1 : Int) (s2 : Int) (G : gS) (Q : Int → gS → Prop) : Prop :=
  (∃ n40, isA W0 1 n40 (s0) ∧ ((0 : Int) ≤ s1 ∧ ((s1 : Int) < n40 ∧ (∀ G44 : gS, G44 = uG G s0 s1 (s2) → (isO W0 7 (l1) ∧ (inI (G44 l1 9) → (inI ((G44 l1 9) + 1) ∧ (∀ G48 : gS, G48 = uG G44 l1 9 ((G44 l1 9) + 1) → PX9_take G48 (fun r50 G49 => (0 ≤ r50 ∧ r50 ≤ 1) → ((r50 = 0 → PX9_readParams_133 J l1 l2 l3 G49 Q) ∧ (¬ (r50 = 0) → PX9_need 3 G49 (fun r54 G53 => (0 ≤ r54 ∧ r54 ≤ 1) → ((r54 = 0 → PX9_readParams_133 J l1 l2 l3 G53 Q) ∧ (¬ (r54 = 0) → PX9_now G53 (fun r58 G57 => inI r58 → ((r58 = 144 → PX9_readParams_150 J l1 l2 l3 1 G57 Q) ∧ (¬ (r58 = 144) → PX9_readParams_150 J l1 l2 l3 0 G57 Q)))))))))))))))))
set_option maxRecDepth 20000 in
theorem TX9_readParams_107 {j : Nat → rx_K} {J : Nat → List Int → gS → (Int → gS → Prop) → Prop} {l1 : Int} {l2 : Int} {l3 : Int} {s0 : Int} {s1 : Int} {s2 : Int} {G : gS} {Q : Int → gS → Prop} (hl2 : inI l2) (hl3 : inI l3) (hs1 : inI s1) (hs2 : inL s2) (hj0 : ∀ (l1 : Int) (l2 : Int) (l3 : Int) (G : gS), (inI l2) → (inI l3) → J 0 [l1, l2, l3] G Q → Tg W0 (j 0) [rf (7), rf (l1), cI (l2), cI (l3)] [] G (fun r G => ∃ v, r = cI v ∧ (0 ≤ v ∧ v ≤ 1) ∧ Q v G)) (h : PX9_readParams_107 J l1 l2 l3 s0 s1 s2 G Q) : Tg W0 (vX9_readParams_107 j) [rf (7), rf (l1), cI (l2), cI (l3)] [cL (s2), cI (s1), rf (s0)] G (fun r G => ∃ v, r = cI v ∧ (0 ≤ v ∧ v ≤ 1) ∧ Q v G) := by
  unfold PX9_readParams_107 at h
  unfold vX9_readParams_107
  obtain ⟨n40, q41, h⟩ := h
  obtain ⟨q42, q43, h⟩ := h
  refine g_astL q41 q42 q43 hs2 (nfL q41) ?_
  replace h := h _ rfl
  refine g_ld (v := rf _) rfl (is_R _) ?_
  refine g_dup (ct_R _) ?_
  obtain ⟨q45, h⟩ := h
  refine g_getI (kz := 9) q45 rfl (Nat.le_of_ble_eq_true rfl) rfl fun i46 => ?_
  replace h := h i46
  refine g_const (v := cI (1)) rfl ?_
  refine g_add ?_
  obtain ⟨q47, h⟩ := h
  refine g_putI (kz := 9) q45 rfl (Nat.le_of_ble_eq_true rfl) rfl q47 (nf7_9 q45) ?_
  replace h := h _ rfl
  refine g_ld (v := rf _) rfl (is_R _) ?_
  refine g_callV (As := []) (ci := 9) oC9 (fun _ => rfl) ?_
  refine g_go1 (Nat.le_of_ble_eq_true rfl) (Tn_w (TX9_take  h) fun _ G49 ⟨r50, e, i51, h⟩ => ?_)
  subst e
  refine ⟨n7_I _, ?_⟩
  replace h := h i51
  refine g_eq1 ⟨by omega, by omega⟩ (fun b52 => ?_) (fun b52 => ?_)
  · replace h := h.1 b52
    exact TX9_readParams_133 hl2 hl3 hj0 h
  · replace h := h.2 b52
    unfold vX9_readParams_125
    refine g_ld (v := rf _) rfl (is_R _) ?_
    refine g_const (v := cI (3)) rfl ?_
    refine g_callV (As := [_]) (ci := 9) oC9 (fun _ => rfl) ?_
    refine g_go1 (Nat.le_of_ble_eq_true rfl) (Tn_w (TX9_need ⟨by omega, by omega⟩ h) fun _ G53 ⟨r54, e, i55, h⟩ => ?_)
    subst e
    refine ⟨n7_I _, ?_⟩
    replace h := h i55
    refine g_eq1 ⟨by omega, by omega⟩ (fun b56 => ?_) (fun b56 => ?_)
    · replace h := h.1 b56
      exact TX9_readParams_133 hl2 hl3 hj0 h
    · replace h := h.2 b56
      unfold vX9_readParams_135
      refine g_ld (v := rf _) rfl (is_R _) ?_
      refine g_callV (As := []) (ci := 9) oC9 (fun _ => rfl) ?_
      refine g_go1 (Nat.le_of_ble_eq_true rfl) (Tn_w (TX9_now  h) fun _ G57 ⟨r58, e, i59, h⟩ => ?_)
      subst e
      refine ⟨n7_I _, ?_⟩
      replace h := h i59
      refine g_const (v := cI (144)) rfl ?_
      refine g_eq2 i59 ⟨by omega, by omega⟩ (fun b60 => ?_) (fun b60 => ?_)
      · replace h := h.1 b60
        unfold vX9_readParams_145
        refine g_const (v := cI (1)) rfl ?_
        exact TX9_readParams_150 hl2 hl3 ⟨by omega, by omega⟩ hj0 h
      · replace h := h.2 b60
        unfold vX9_readParams_149
        refine g_const (v := cI (0)) rfl ?_
        exact TX9_readParams_150 hl2 hl3 ⟨by omega, by omega⟩ hj0 h
def PX9_readParams_61 (J : Nat → List Int → gS → (Int → gS → Prop) → Prop) (l1 : Int) (l2 : Int) (l3 : Int) (G : gS) (Q : Int → gS → Prop) : Prop :=
  (isO W0 7 (l1) ∧ (inI (G l1 9) → ((G l1 9 < 4 → (inI (G l1 9) → PX9_now G (fun r30 G29 => inI r30 → ((r30 = 26 → PX9_readParams_107 J l1 l2 l3 (l1 + 1) (G l1 9) (-1) G29 Q) ∧ (¬ (r30 = 26) → (inI (G29 7 8) → ((0 : Int) ≤ G29 7 8 ∧ ((G29 7 8 : Int) < 704 ∧ (inL (G29 12 (G29 7 8)) → PX9_readParams_107 J l1 l2 l3 (l1 + 1) (G l1 9) (G29 12 (G29 7 8)) G29 Q))))))))) ∧ (¬ (G l1 9 < 4) → PX9_stop 3 G (fun r38 G37 => (0 ≤ r38 ∧ r38 ≤ 1) → Q (r38) G37)))))
set_option maxRecDepth 20000 in
theorem TX9_readParams_61 {j : Nat → rx_K} {J : Nat → List Int → gS → (Int → gS → Prop) → Prop} {l1 : Int} {l2 : Int} {l3 : Int} {G : gS} {Q : Int → gS → Prop} (hl2 : inI l2) (hl3 : inI l3) (hj0 : ∀ (l1 : Int) (l2 : Int) (l3 : Int) (G : gS), (inI l2) → (inI l3) → J 0 [l1, l2, l3] G Q → Tg W0 (j 0) [rf (7), rf (l1), cI (l2), cI (l3)] [] G (fun r G => ∃ v, r = cI v ∧ (0 ≤ v ∧ v ≤ 1) ∧ Q v G)) (h : PX9_readParams_61 J l1 l2 l3 G Q) : Tg W0 (vX9_readParams_61 j) [rf (7), rf (l1), cI (l2), cI (l3)] [] G (fun r G => ∃ v, r = cI v ∧ (0 ≤ v ∧ v ≤ 1) ∧ Q v G) := by
  unfold PX9_readParams_61 at h
  unfold vX9_readParams_61
  refine g_ld (v := rf _) rfl (is_R _) ?_
  obtain ⟨q25, h⟩ := h
  refine g_getI (kz := 9) q25 rfl (Nat.le_of_ble_eq_true rfl) rfl fun i26 => ?_
  replace h := h i26
  refine g_const (v := cI (4)) rfl ?_
  refine g_lt2 i26 ⟨by omega, by omega⟩ (fun b27 => ?_) (fun b27 => ?_)
  · replace h := h.1 b27
    unfold vX9_readParams_75
    refine g_ld (v := rf _) rfl (is_R _) ?_
    refine g_getF q25 (ff7_10 q25).1 rfl (Nat.le_of_ble_eq_true rfl) (Nat.le_of_ble_eq_true rfl) ?_
    refine g_ld (v := rf _) rfl (is_R _) ?_
    refine g_getI (kz := 9) q25 rfl (Nat.le_of_ble_eq_true rfl) rfl fun i28 => ?_
    replace h := h i28
    refine g_ld (v := rf _) rfl (is_R _) ?_
    refine g_callV (As := []) (ci := 9) oC9 (fun _ => rfl) ?_
    refine g_go1 (by simp only [cs_c, cs_0, ct_I, ct_L, ct_R]; exact Nat.le_of_ble_eq_true rfl) (Tn_w (TX9_now  h) fun _ G29 ⟨r30, e, i31, h⟩ => ?_)
    subst e
    refine ⟨n7_I _, ?_⟩
    replace h := h i31
    refine g_const (v := cI (26)) rfl ?_
    refine g_eq2 i31 ⟨by omega, by omega⟩ (fun b32 => ?_) (fun b32 => ?_)
    · replace h := h.1 b32
      unfold vX9_readParams_92
      refine g_const (v := cL (-1)) rfl ?_
      exact TX9_readParams_107 hl2 hl3 i28 ⟨by omega, by omega⟩ hj0 h
    · replace h := h.2 b32
      unfold vX9_readParams_98
      refine g_ld (v := rf _) rfl (is_R _) ?_
      refine g_getF (v := 12) oC9 (hC9_4) rfl (Nat.le_of_ble_eq_true rfl) (Nat.le_of_ble_eq_true rfl) ?_
      refine g_ld (v := rf _) rfl (is_R _) ?_
      refine g_getI (kz := 8) oC9 rfl (Nat.le_of_ble_eq_true rfl) rfl fun i33 => ?_
      replace h := h i33
      obtain ⟨q34, q35, h⟩ := h
      refine g_aldL aC12 q34 q35 rfl fun i36 => ?_
      replace h := h i36
      exact TX9_readParams_107 hl2 hl3 i28 i36 hj0 h
  · replace h := h.2 b27
    unfold vX9_readParams_69
    refine g_ld (v := rf _) rfl (is_R _) ?_
    refine g_const (v := cI (3)) rfl ?_
    refine g_callV (As := [_]) (ci := 9) oC9 (fun _ => rfl) ?_
    refine g_go1 (Nat.le_of_ble_eq_true rfl) (Tn_w (TX9_stop ⟨by omega, by omega⟩ h) fun _ G37 ⟨r38, e, i39, h⟩ => ?_)
    subst e
    refine ⟨n7_I _, ?_⟩
    replace h := h i39
    exact g_ret1 (is_Z i39) ⟨_, rfl, i39, h⟩
def PX9_readParams_30 (J : Nat → List Int → gS → (Int → gS → Prop) → Prop) (l1 : Int) (l2 : Int) (l3 : Int) (G : gS) (Q : Int → gS → Prop) : Prop :=
  ((4 < l3 → PX9_readParams_170 J l1 l2 l3 G Q) ∧ (¬ (4 < l3) → ((l2 = 0 → PX9_readParams_170 J l1 l2 l3 G Q) ∧ (¬ (l2 = 0) → PX9_now G (fun r12 G11 => inI r12 → ((r12 = 26 → PX9_readParams_61 J l1 l2 l3 G11 Q) ∧ (¬ (r12 = 26) → PX9_now G11 (fun r16 G15 => inI r16 → ((r16 = 2 → PX9_readParams_61 J l1 l2 l3 G15 Q) ∧ (¬ (r16 = 2) → PX9_miss G15 (fun r20 G19 => (0 ≤ r20 ∧ r20 ≤ 1) → Q (r20) G19)))))))))))
set_option maxRecDepth 20000 in
theorem TX9_readParams_30 {j : Nat → rx_K} {J : Nat → List Int → gS → (Int → gS → Prop) → Prop} {l1 : Int} {l2 : Int} {l3 : Int} {G : gS} {Q : Int → gS → Prop} (hl2 : inI l2) (hl3 : inI l3) (hj0 : ∀ (l1 : Int) (l2 : Int) (l3 : Int) (G : gS), (inI l2) → (inI l3) → J 0 [l1, l2, l3] G Q → Tg W0 (j 0) [rf (7), rf (l1), cI (l2), cI (l3)] [] G (fun r G => ∃ v, r = cI v ∧ (0 ≤ v ∧ v ≤ 1) ∧ Q v G)) (h : PX9_readParams_30 J l1 l2 l3 G Q) : Tg W0 (vX9_readParams_30 j) [rf (7), rf (l1), cI (l2), cI (l3)] [] G (fun r G => ∃ v, r = cI v ∧ (0 ≤ v ∧ v ≤ 1) ∧ Q v G) := by
  unfold PX9_readParams_30 at h
  unfold vX9_readParams_30
  refine g_ld (v := cI _) rfl (is_I _) ?_
  refine g_const (v := cI (4)) rfl ?_
  refine g_gt2 hl3 ⟨by omega, by omega⟩ (fun b9 => ?_) (fun b9 => ?_)
  · replace h := h.1 b9
    exact TX9_readParams_170 hl2 hl3 hj0 h
  · replace h := h.2 b9
    unfold vX9_readParams_35
    refine g_ld (v := cI _) rfl (is_I _) ?_
    refine g_eq1 hl2 (fun b10 => ?_) (fun b10 => ?_)
    · replace h := h.1 b10
      exact TX9_readParams_170 hl2 hl3 hj0 h
    · replace h := h.2 b10
      unfold vX9_readParams_39
      refine g_ld (v := rf _) rfl (is_R _) ?_
      refine g_callV (As := []) (ci := 9) oC9 (fun _ => rfl) ?_
      refine g_go1 (Nat.le_of_ble_eq_true rfl) (Tn_w (TX9_now  h) fun _ G11 ⟨r12, e, i13, h⟩ => ?_)
      subst e
      refine ⟨n7_I _, ?_⟩
      replace h := h i13
      refine g_const (v := cI (26)) rfl ?_
      refine g_eq2 i13 ⟨by omega, by omega⟩ (fun b14 => ?_) (fun b14 => ?_)
      · replace h := h.1 b14
        exact TX9_readParams_61 hl2 hl3 hj0 h
      · replace h := h.2 b14
        unfold vX9_readParams_48
        refine g_ld (v := rf _) rfl (is_R _) ?_
        refine g_callV (As := []) (ci := 9) oC9 (fun _ => rfl) ?_
        refine g_go1 (Nat.le_of_ble_eq_true rfl) (Tn_w (TX9_now  h) fun _ G15 ⟨r16, e, i17, h⟩ => ?_)
        subst e
        refine ⟨n7_I _, ?_⟩
        replace h := h i17
        refine g_const (v := cI (2)) rfl ?_
        refine g_eq2 i17 ⟨by omega, by omega⟩ (fun b18 => ?_) (fun b18 => ?_)
        · replace h := h.1 b18
          exact TX9_readParams_61 hl2 hl3 hj0 h
        · replace h := h.2 b18
          unfold vX9_readParams_56
          refine g_ld (v := rf _) rfl (is_R _) ?_
          refine g_callV (As := []) (ci := 9) oC9 (fun _ => rfl) ?_
          refine g_go1 (Nat.le_of_ble_eq_true rfl) (Tn_w (TX9_miss  h) fun _ G19 ⟨r20, e, i21, h⟩ => ?_)
          subst e
          refine ⟨n7_I _, ?_⟩
          replace h := h i21
          exact g_ret1 (is_Z i21) ⟨_, rfl, i21, h⟩
def PX9_readParams_27 (J : Nat → List Int → gS → (Int → gS → Prop) → Prop) (l1 : Int) (s0 : Int) (G : gS) (Q : Int → gS → Prop) : Prop :=
  PX9_readParams_30 J l1 s0 0 G Q
set_option maxRecDepth 20000 in
theorem TX9_readParams_27 {j : Nat → rx_K} {J : Nat → List Int → gS → (Int → gS → Prop) → Prop} {l1 : Int} {l2 : Nat} {l3 : Nat} {s0 : Int} {G : gS} {Q : Int → gS → Prop} (hl2 : l2 % 8 ≠ 1) (hl3 : l3 % 8 ≠ 1) (hs0 : inI s0) (hj0 : ∀ (l1 : Int) (l2 : Int) (l3 : Int) (G : gS), (inI l2) → (inI l3) → J 0 [l1, l2, l3] G Q → Tg W0 (j 0) [rf (7), rf (l1), cI (l2), cI (l3)] [] G (fun r G => ∃ v, r = cI v ∧ (0 ≤ v ∧ v ≤ 1) ∧ Q v G)) (h : PX9_readParams_27 J l1 s0 G Q) : Tg W0 (vX9_readParams_27 j) [rf (7), rf (l1), l2, l3] [cI (s0)] G (fun r G => ∃ v, r = cI v ∧ (0 ≤ v ∧ v ≤ 1) ∧ Q v G) := by
  unfold PX9_readParams_27 at h
  unfold vX9_readParams_27
  refine g_st (lv' := [_, _, _, _]) (is_I _) (Nat.le_of_ble_eq_true rfl) (Or.inr (n1_R _)) rfl ?_
  refine g_const (v := cI (0)) rfl ?_
  refine g_st (lv' := [_, _, _, _]) (is_I _) (Nat.le_of_ble_eq_true rfl) (Or.inr (n1_I _)) rfl ?_
  exact TX9_readParams_30 hs0 ⟨by omega, by omega⟩ hj0 h
def PX9_readParams_0 (J : Nat → List Int → gS → (Int → gS → Prop) → Prop) (a1 : Int) (G : gS) (Q : Int → gS → Prop) : Prop :=
  PX9_need 140 G (fun r2 G1 => (0 ≤ r2 ∧ r2 ≤ 1) → ((r2 = 0 → Q (0) G1) ∧ (¬ (r2 = 0) → PX9_now G1 (fun r6 G5 => inI r6 → ((r6 = 141 → PX9_readParams_27 J a1 0 G5 Q) ∧ (¬ (r6 = 141) → PX9_readParams_27 J a1 1 G5 Q))))))
set_option maxRecDepth 20000 in
theorem TX9_readParams_0 {j : Nat → rx_K} {J : Nat → List Int → gS → (Int → gS → Prop) → Prop} {a1 : Int} {G : gS} {Q : Int → gS → Prop}  (hj0 : ∀ (l1 : Int) (l2 : Int) (l3 : Int) (G : gS), (inI l2) → (inI l3) → J 0 [l1, l2, l3] G Q → Tg W0 (j 0) [rf (7), rf (l1), cI (l2), cI (l3)] [] G (fun r G => ∃ v, r = cI v ∧ (0 ≤ v ∧ v ≤ 1) ∧ Q v G)) (h : PX9_readParams_0 J a1 G Q) : Tg W0 (vX9_readParams_0 j) [rf (7), rf (a1), 7, 7] [] G (fun r G => ∃ v, r = cI v ∧ (0 ≤ v ∧ v ≤ 1) ∧ Q v G) := by
  unfold PX9_readParams_0 at h
  unfold vX9_readParams_0
  refine g_ld (v := rf _) rfl (is_R _) ?_
  refine g_const (v := cI (140)) rfl ?_
  refine g_callV (As := [_]) (ci := 9) oC9 (fun _ => rfl) ?_
  refine g_go1 (Nat.le_of_ble_eq_true rfl) (Tn_w (TX9_need ⟨by omega, by omega⟩ h) fun _ G1 ⟨r2, e, i3, h⟩ => ?_)
  subst e
  refine ⟨n7_I _, ?_⟩
  replace h := h i3
  refine g_eq1 ⟨by omega, by omega⟩ (fun b4 => ?_) (fun b4 => ?_)
  · replace h := h.1 b4
    unfold vX9_readParams_10
    refine g_const (v := cI (0)) rfl ?_
    exact g_ret1 (is_Z (by omega)) ⟨_, rfl, (by omega), h⟩
  · replace h := h.2 b4
    unfold vX9_readParams_12
    refine g_ld (v := rf _) rfl (is_R _) ?_
    refine g_callV (As := []) (ci := 9) oC9 (fun _ => rfl) ?_
    refine g_go1 (Nat.le_of_ble_eq_true rfl) (Tn_w (TX9_now  h) fun _ G5 ⟨r6, e, i7, h⟩ => ?_)
    subst e
    refine ⟨n7_I _, ?_⟩
    replace h := h i7
    refine g_const (v := cI (141)) rfl ?_
    refine g_eq2 i7 ⟨by omega, by omega⟩ (fun b8 => ?_) (fun b8 => ?_)
    · replace h := h.1 b8
      unfold vX9_readParams_26
      refine g_const (v := cI (0)) rfl ?_
      exact TX9_readParams_27 (show 7 % 8 ≠ 1 by decide) (show 7 % 8 ≠ 1 by decide) ⟨by omega, by omega⟩ hj0 h
    · replace h := h.2 b8
      unfold vX9_readParams_22
      refine g_const (v := cI (1)) rfl ?_
      exact TX9_readParams_27 (show 7 % 8 ≠ 1 by decide) (show 7 % 8 ≠ 1 by decide) ⟨by omega, by omega⟩ hj0 h
def PX9_readParams_J : Nat → Nat → List Int → gS → (Int → gS → Prop) → Prop
  | 0, _, _, _, _ => False
  | f + 1, h, L, G, Q => match h, L with
    | 0, [l1, l2, l3] => PX9_readParams_30 (PX9_readParams_J f) l1 l2 l3 G Q
    | _, _ => False
theorem TX9_readParams_J {Q : Int → gS → Prop} : ∀ f N : Nat, f ≤ N → (∀ (l1 : Int) (l2 : Int) (l3 : Int) (G : gS), (inI l2) → (inI l3) → (PX9_readParams_J f) 0 [l1, l2, l3] G Q → Tg W0 (rx_J vhX9_readParams N 0) [rf (7), rf (l1), cI (l2), cI (l3)] [] G (fun r G => ∃ v, r = cI v ∧ (0 ≤ v ∧ v ≤ 1) ∧ Q v G)) := by
  intro f
  induction f with
  | zero => exact fun N _ => fun _ _ _ _ _ _ h => h.elim
  | succ f ih =>
    intro N hN
    obtain ⟨M, rfl⟩ : ∃ M, N = M + 1 := ⟨N - 1, by omega⟩
    have ih := ih M (by omega)
    exact fun _ _ _ _ hl2 hl3 h => show Tg W0 (vX9_readParams_30 (rx_J vhX9_readParams M)) _ _ _ _ from TX9_readParams_30 hl2 hl3 ih h
def PX9_readParams (a1 : Int) (G : gS) (Q : Int → gS → Prop) : Prop := ∃ f : Nat, f ≤ 4000000000 ∧ PX9_readParams_0 (PX9_readParams_J f) a1 G Q
theorem TX9_readParams {a1 : Int} {G : gS} {Q : Int → gS → Prop}  (h : PX9_readParams a1 G Q) : Tn W0 FX9_readParams [rf (7), rf (a1)] G (fun r G => ∃ v, r = cI v ∧ (0 ≤ v ∧ v ≤ 1) ∧ Q v G) := by
  obtain ⟨f, hf, h⟩ := h
  have hJ := TX9_readParams_J (Q := Q) f 4000000000 hf
  unfold FX9_readParams
  refine g_ent (lv' := [rf (7), rf (a1), 7, 7]) (flR (flR fl0)) (Nat.le_of_ble_eq_true rfl) rfl ?_
  exact TX9_readParams_0  hJ h
def PX9_readTyped_208 (l1 : Int) (l2 : Int) (G : gS) (Q : Int → gS → Prop) : Prop :=
  (∀ G78 : gS, G78 = uG G 7 12 (0) → PX9_need 159 G78 (fun r80 G79 => (0 ≤ r80 ∧ r80 ≤ 1) → Q (r80) G79))
set_option maxRecDepth 20000 in
theorem TX9_readTyped_208 {l1 : Int} {l2 : Int} {G : gS} {Q : Int → gS → Prop} (hl2 : inI l2) (h : PX9_readTyped_208 l1 l2 G Q) : Tg W0 vX9_readTyped_208 [rf (7), rf (l1), cI (l2)] [] G (fun r G => ∃ v, r = cI v ∧ (0 ≤ v ∧ v ≤ 1) ∧ Q v G) := by
  unfold PX9_readTyped_208 at h
  unfold vX9_readTyped_208
  refine g_ld (v := rf _) rfl (is_R _) ?_
  refine g_const (v := cI (0)) rfl ?_
  refine g_putI (kz := 12) oC9 rfl (Nat.le_of_ble_eq_true rfl) rfl ⟨by omega, by omega⟩ (zfin_no (c := 7) (j := 12) rfl) ?_
  replace h := h _ rfl
  refine g_ld (v := rf _) rfl (is_R _) ?_
  refine g_const (v := cI (159)) rfl ?_
  refine g_callV (As := [_]) (ci := 9) oC9 (fun _ => rfl) ?_
  refine g_go1 (Nat.le_of_ble_eq_true rfl) (Tn_w (TX9_need ⟨by omega, by omega⟩ h) fun _ G79 ⟨r80, e, i81, h⟩ => ?_)
  subst e
  refine ⟨n7_I _, ?_⟩
  replace h := h i81
  exact g_ret1 (is_Z i81) ⟨_, rfl, i81, h⟩
def PX9_readTyped_176 (l1 : Int) (l2 : Int) (s0 : Int) (G : gS) (Q : Int → gS → Prop) : Prop :=
  ((0 ≤ s0 ∧ s0 ≤ 1) ∧ Q (s0) G)
set_option maxRecDepth 20000 in
theorem TX9_readTyped_176 {l1 : Int} {l2 : Int} {s0 : Int} {G : gS} {Q : Int → gS → Prop} (hl2 : inI l2) (hs0 : inI s0) (h : PX9_readTyped_176 l1 l2 s0 G Q) : Tg W0 vX9_readTyped_176 [rf (7), rf (l1), cI (l2)] [cI (s0)] G (fun r G => ∃ v, r = cI v ∧ (0 ≤ v ∧ v ≤ 1) ∧ Q v G) := by
  unfold PX9_readTyped_176 at h
  unfold vX9_readTyped_176
  obtain ⟨q82, h⟩ := h
  exact g_ret1 (is_Z q82) ⟨_, rfl, q82, h⟩
def PX9_readTyped_164 (l1 : Int) (l2 : Int) (G : gS) (Q : Int → gS → Prop) : Prop :=
  (inI (G 7 9) → ((G 7 9 = 0 → PX9_readTyped_176 l1 l2 1 G Q) ∧ (¬ (G 7 9 = 0) → PX9_readTyped_176 l1 l2 0 G Q)))
set_option maxRecDepth 20000 in
theorem TX9_readTyped_164 {l1 : Int} {l2 : Int} {G : gS} {Q : Int → gS → Prop} (hl2 : inI l2) (h : PX9_readTyped_164 l1 l2 G Q) : Tg W0 vX9_readTyped_164 [rf (7), rf (l1), cI (l2)] [] G (fun r G => ∃ v, r = cI v ∧ (0 ≤ v ∧ v ≤ 1) ∧ Q v G) := by
  unfold PX9_readTyped_164 at h
  unfold vX9_readTyped_164
  refine g_ld (v := rf _) rfl (is_R _) ?_
  refine g_getI (kz := 9) oC9 rfl (Nat.le_of_ble_eq_true rfl) rfl fun i76 => ?_
  replace h := h i76
  refine g_eq1 i76 (fun b77 => ?_) (fun b77 => ?_)
  · replace h := h.1 b77
    unfold vX9_readTyped_171
    refine g_const (v := cI (1)) rfl ?_
    exact TX9_readTyped_176 hl2 ⟨by omega, by omega⟩ h
  · replace h := h.2 b77
    unfold vX9_readTyped_175
    refine g_const (v := cI (0)) rfl ?_
    exact TX9_readTyped_176 hl2 ⟨by omega, by omega⟩ h
def PX9_readTyped_76 (l1 : Int) (l2 : Int) (s0 : Int) (s1 : Int) (G : gS) (Q : Int → gS → Prop) : Prop :=
  (isO W0 7 (s0) ∧ (∀ G27 : gS, G27 = uG G s0 8 (s1) → PX9_take G27 (fun r29 G28 => (0 ≤ r29 ∧ r29 ≤ 1) → ((r29 = 0 → Q (0) G28) ∧ (¬ (r29 = 0) → PX9_now G28 (fun r33 G32 => inI r33 → ((r33 = 3 → (inI (G32 7 8) → (isO W0 7 (l1) ∧ (∀ G38 : gS, G38 = uG G32 l1 11 (G32 7 8) → (inI (G38 7 8) → ((0 : Int) ≤ G38 7 8 ∧ ((G38 7 8 : Int) < 704 ∧ (inL (G38 12 (G38 7 8)) → (∀ G43 : gS, G43 = uG G38 l1 7 (G38 12 (G38 7 8)) → PX9_take G43 (fun r45 G44 => (0 ≤ r45 ∧ r45 ≤ 1) → ((r45 = 0 → Q (0) G44) ∧ (¬ (r45 = 0) → PX9_now G44 (fun r49 G48 => inI r49 → ((r49 = 140 → (∀ G52 : gS, G52 = uG G48 l1 0 (1) → PX9_readParams l1 G52 (fun r54 G53 => (0 ≤ r54 ∧ r54 ≤ 1) → ((r54 = 0 → PX9_readTyped_164 l1 l2 G53 Q) ∧ (¬ (r54 = 0) → PX9_now G53 (fun r58 G57 => inI r58 → ((r58 = 223 → PX9_readTyped_164 l1 l2 G57 Q) ∧ (¬ (r58 = 223) → PX9_readTyped_208 l1 l2 G57 Q)))))))) ∧ (¬ (r49 = 140) → ((l2 = 0 → PX9_now G48 (fun r63 G62 => inI r63 → ((r63 = 161 → (∀ G66 : gS, G66 = uG G62 7 12 (161) → PX9_take G66 (fun r68 G67 => (0 ≤ r68 ∧ r68 ≤ 1) → Q (r68) G67))) ∧ (¬ (r63 = 161) → PX9_readTyped_208 l1 l2 G62 Q)))) ∧ (¬ (l2 = 0) → PX9_miss G48 (fun r71 G70 => (0 ≤ r71 ∧ r71 ≤ 1) → Q (r71) G70)))))))))))))))))) ∧ (¬ (r33 = 3) → PX9_miss G32 (fun r74 G73 => (0 ≤ r74 ∧ r74 ≤ 1) → Q (r74) G73)))))))))
set_option maxRecDepth 20000 in
theorem TX9_readTyped_76 {l1 : Int} {l2 : Int} {s0 : Int} {s1 : Int} {G : gS} {Q : Int → gS → Prop} (hl2 : inI l2) (hs1 : inL s1) (h : PX9_readTyped_76 l1 l2 s0 s1 G Q) : Tg W0 vX9_readTyped_76 [rf (7), rf (l1), cI (l2)] [cL (s1), rf (s0)] G (fun r G => ∃ v, r = cI v ∧ (0 ≤ v ∧ v ≤ 1) ∧ Q v G) := by
  unfold PX9_readTyped_76 at h
  unfold vX9_readTyped_76
  obtain ⟨q26, h⟩ := h
  refine g_putL (kz := 8) q26 rfl (Nat.le_of_ble_eq_true rfl) rfl hs1 (nf7_8 q26) ?_
  replace h := h _ rfl
  refine g_ld (v := rf _) rfl (is_R _) ?_
  refine g_callV (As := []) (ci := 9) oC9 (fun _ => rfl) ?_
  refine g_go1 (Nat.le_of_ble_eq_true rfl) (Tn_w (TX9_take  h) fun _ G28 ⟨r29, e, i30, h⟩ => ?_)
  subst e
  refine ⟨n7_I _, ?_⟩
  replace h := h i30
  refine g_eq1 ⟨by omega, by omega⟩ (fun b31 => ?_) (fun b31 => ?_)
  · replace h := h.1 b31
    unfold vX9_readTyped_86
    refine g_const (v := cI (0)) rfl ?_
    exact g_ret1 (is_Z (by omega)) ⟨_, rfl, (by omega), h⟩
  · replace h := h.2 b31
    unfold vX9_readTyped_88
    refine g_ld (v := rf _) rfl (is_R _) ?_
    refine g_callV (As := []) (ci := 9) oC9 (fun _ => rfl) ?_
    refine g_go1 (Nat.le_of_ble_eq_true rfl) (Tn_w (TX9_now  h) fun _ G32 ⟨r33, e, i34, h⟩ => ?_)
    subst e
    refine ⟨n7_I _, ?_⟩
    replace h := h i34
    refine g_const (v := cI (3)) rfl ?_
    refine g_eq2 i34 ⟨by omega, by omega⟩ (fun b35 => ?_) (fun b35 => ?_)
    · replace h := h.1 b35
      unfold vX9_readTyped_101
      refine g_ld (v := rf _) rfl (is_R _) ?_
      refine g_ld (v := rf _) rfl (is_R _) ?_
      refine g_getI (kz := 8) oC9 rfl (Nat.le_of_ble_eq_true rfl) rfl fun i36 => ?_
      replace h := h i36
      obtain ⟨q37, h⟩ := h
      refine g_putI (kz := 11) q37 rfl (Nat.le_of_ble_eq_true rfl) rfl i36 (nf7_11 q37) ?_
      replace h := h _ rfl
      refine g_ld (v := rf _) rfl (is_R _) ?_
      refine g_ld (v := rf _) rfl (is_R _) ?_
      refine g_getF (v := 12) oC9 (hC9_4) rfl (Nat.le_of_ble_eq_true rfl) (Nat.le_of_ble_eq_true rfl) ?_
      refine g_ld (v := rf _) rfl (is_R _) ?_
      refine g_getI (kz := 8) oC9 rfl (Nat.le_of_ble_eq_true rfl) rfl fun i39 => ?_
      replace h := h i39
      obtain ⟨q40, q41, h⟩ := h
      refine g_aldL aC12 q40 q41 rfl fun i42 => ?_
      replace h := h i42
      refine g_putL (kz := 7) q37 rfl (Nat.le_of_ble_eq_true rfl) rfl i42 (nf7_7 q37) ?_
      replace h := h _ rfl
      refine g_ld (v := rf _) rfl (is_R _) ?_
      refine g_callV (As := []) (ci := 9) oC9 (fun _ => rfl) ?_
      refine g_go1 (Nat.le_of_ble_eq_true rfl) (Tn_w (TX9_take  h) fun _ G44 ⟨r45, e, i46, h⟩ => ?_)
      subst e
      refine ⟨n7_I _, ?_⟩
      replace h := h i46
      refine g_eq1 ⟨by omega, by omega⟩ (fun b47 => ?_) (fun b47 => ?_)
      · replace h := h.1 b47
        unfold vX9_readTyped_129
        refine g_const (v := cI (0)) rfl ?_
        exact g_ret1 (is_Z (by omega)) ⟨_, rfl, (by omega), h⟩
      · replace h := h.2 b47
        unfold vX9_readTyped_131
        refine g_ld (v := rf _) rfl (is_R _) ?_
        refine g_callV (As := []) (ci := 9) oC9 (fun _ => rfl) ?_
        refine g_go1 (Nat.le_of_ble_eq_true rfl) (Tn_w (TX9_now  h) fun _ G48 ⟨r49, e, i50, h⟩ => ?_)
        subst e
        refine ⟨n7_I _, ?_⟩
        replace h := h i50
        refine g_const (v := cI (140)) rfl ?_
        refine g_eq2 i50 ⟨by omega, by omega⟩ (fun b51 => ?_) (fun b51 => ?_)
        · replace h := h.1 b51
          unfold vX9_readTyped_141
          refine g_ld (v := rf _) rfl (is_R _) ?_
          refine g_const (v := cI (1)) rfl ?_
          refine g_putI (kz := 0) q37 rfl (Nat.le_of_ble_eq_true rfl) rfl ⟨by omega, by omega⟩ (nf7_0 q37) ?_
          replace h := h _ rfl
          refine g_ld (v := rf _) rfl (is_R _) ?_
          refine g_ld (v := rf _) rfl (is_R _) ?_
          refine g_callV (As := [_]) (ci := 9) oC9 (fun _ => rfl) ?_
          refine g_go1 (Nat.le_of_ble_eq_true rfl) (Tn_w (TX9_readParams  h) fun _ G53 ⟨r54, e, i55, h⟩ => ?_)
          subst e
          refine ⟨n7_I _, ?_⟩
          replace h := h i55
          refine g_eq1 ⟨by omega, by omega⟩ (fun b56 => ?_) (fun b56 => ?_)
          · replace h := h.1 b56
            exact TX9_readTyped_164 hl2 h
          · replace h := h.2 b56
            unfold vX9_readTyped_154
            refine g_ld (v := rf _) rfl (is_R _) ?_
            refine g_callV (As := []) (ci := 9) oC9 (fun _ => rfl) ?_
            refine g_go1 (Nat.le_of_ble_eq_true rfl) (Tn_w (TX9_now  h) fun _ G57 ⟨r58, e, i59, h⟩ => ?_)
            subst e
            refine ⟨n7_I _, ?_⟩
            replace h := h i59
            refine g_const (v := cI (223)) rfl ?_
            refine g_eq2 i59 ⟨by omega, by omega⟩ (fun b60 => ?_) (fun b60 => ?_)
            · replace h := h.1 b60
              exact TX9_readTyped_164 hl2 h
            · replace h := h.2 b60
              exact TX9_readTyped_208 hl2 h
        · replace h := h.2 b51
          unfold vX9_readTyped_177
          refine g_ld (v := cI _) rfl (is_I _) ?_
          refine g_eq1 hl2 (fun b61 => ?_) (fun b61 => ?_)
          · replace h := h.1 b61
            unfold vX9_readTyped_186
            refine g_ld (v := rf _) rfl (is_R _) ?_
            refine g_callV (As := []) (ci := 9) oC9 (fun _ => rfl) ?_
            refine g_go1 (Nat.le_of_ble_eq_true rfl) (Tn_w (TX9_now  h) fun _ G62 ⟨r63, e, i64, h⟩ => ?_)
            subst e
            refine ⟨n7_I _, ?_⟩
            replace h := h i64
            refine g_const (v := cI (161)) rfl ?_
            refine g_eq2 i64 ⟨by omega, by omega⟩ (fun b65 => ?_) (fun b65 => ?_)
            · replace h := h.1 b65
              unfold vX9_readTyped_196
              refine g_ld (v := rf _) rfl (is_R _) ?_
              refine g_const (v := cI (161)) rfl ?_
              refine g_putI (kz := 12) oC9 rfl (Nat.le_of_ble_eq_true rfl) rfl ⟨by omega, by omega⟩ (zfin_no (c := 7) (j := 12) rfl) ?_
              replace h := h _ rfl
              refine g_ld (v := rf _) rfl (is_R _) ?_
              refine g_callV (As := []) (ci := 9) oC9 (fun _ => rfl) ?_
              refine g_go1 (Nat.le_of_ble_eq_true rfl) (Tn_w (TX9_take  h) fun _ G67 ⟨r68, e, i69, h⟩ => ?_)
              subst e
              refine ⟨n7_I _, ?_⟩
              replace h := h i69
              exact g_ret1 (is_Z i69) ⟨_, rfl, i69, h⟩
            · replace h := h.2 b65
              exact TX9_readTyped_208 hl2 h
          · replace h := h.2 b61
            unfold vX9_readTyped_181
            refine g_ld (v := rf _) rfl (is_R _) ?_
            refine g_callV (As := []) (ci := 9) oC9 (fun _ => rfl) ?_
            refine g_go1 (Nat.le_of_ble_eq_true rfl) (Tn_w (TX9_miss  h) fun _ G70 ⟨r71, e, i72, h⟩ => ?_)
            subst e
            refine ⟨n7_I _, ?_⟩
            replace h := h i72
            exact g_ret1 (is_Z i72) ⟨_, rfl, i72, h⟩
    · replace h := h.2 b35
      unfold vX9_readTyped_96
      refine g_ld (v := rf _) rfl (is_R _) ?_
      refine g_callV (As := []) (ci := 9) oC9 (fun _ => rfl) ?_
      refine g_go1 (Nat.le_of_ble_eq_true rfl) (Tn_w (TX9_miss  h) fun _ G73 ⟨r74, e, i75, h⟩ => ?_)
      subst e
      refine ⟨n7_I _, ?_⟩
      replace h := h i75
      exact g_ret1 (is_Z i75) ⟨_, rfl, i75, h⟩
def PX9_readTyped_41 (l1 : Int) (l2 : Int) (G : gS) (Q : Int → gS → Prop) : Prop :=
  ((l2 = 0 → PX9_now G (fun r19 G18 => inI r19 → ((r19 = 26 → PX9_readTyped_76 l1 l2 l1 (-1) G18 Q) ∧ (¬ (r19 = 26) → (inI (G18 7 8) → ((0 : Int) ≤ G18 7 8 ∧ ((G18 7 8 : Int) < 704 ∧ (inL (G18 12 (G18 7 8)) → PX9_readTyped_76 l1 l2 l1 (G18 12 (G18 7 8)) G18 Q)))))))) ∧ (¬ (l2 = 0) → PX9_readTyped_76 l1 l2 l1 (-3) G Q))
set_option maxRecDepth 20000 in
theorem TX9_readTyped_41 {l1 : Int} {l2 : Int} {G : gS} {Q : Int → gS → Prop} (hl2 : inI l2) (h : PX9_readTyped_41 l1 l2 G Q) : Tg W0 vX9_readTyped_41 [rf (7), rf (l1), cI (l2)] [] G (fun r G => ∃ v, r = cI v ∧ (0 ≤ v ∧ v ≤ 1) ∧ Q v G) := by
  unfold PX9_readTyped_41 at h
  unfold vX9_readTyped_41
  refine g_ld (v := rf _) rfl (is_R _) ?_
  refine g_ld (v := cI _) rfl (is_I _) ?_
  refine g_eq1 hl2 (fun b17 => ?_) (fun b17 => ?_)
  · replace h := h.1 b17
    unfold vX9_readTyped_52
    refine g_ld (v := rf _) rfl (is_R _) ?_
    refine g_callV (As := []) (ci := 9) oC9 (fun _ => rfl) ?_
    refine g_go1 (by simp only [cs_c, cs_0, ct_I, ct_L, ct_R]; exact Nat.le_of_ble_eq_true rfl) (Tn_w (TX9_now  h) fun _ G18 ⟨r19, e, i20, h⟩ => ?_)
    subst e
    refine ⟨n7_I _, ?_⟩
    replace h := h i20
    refine g_const (v := cI (26)) rfl ?_
    refine g_eq2 i20 ⟨by omega, by omega⟩ (fun b21 => ?_) (fun b21 => ?_)
    · replace h := h.1 b21
      unfold vX9_readTyped_61
      refine g_const (v := cL (-1)) rfl ?_
      exact TX9_readTyped_76 hl2 ⟨by omega, by omega⟩ h
    · replace h := h.2 b21
      unfold vX9_readTyped_67
      refine g_ld (v := rf _) rfl (is_R _) ?_
      refine g_getF (v := 12) oC9 (hC9_4) rfl (Nat.le_of_ble_eq_true rfl) (Nat.le_of_ble_eq_true rfl) ?_
      refine g_ld (v := rf _) rfl (is_R _) ?_
      refine g_getI (kz := 8) oC9 rfl (Nat.le_of_ble_eq_true rfl) rfl fun i22 => ?_
      replace h := h i22
      obtain ⟨q23, q24, h⟩ := h
      refine g_aldL aC12 q23 q24 rfl fun i25 => ?_
      replace h := h i25
      exact TX9_readTyped_76 hl2 i25 h
  · replace h := h.2 b17
    unfold vX9_readTyped_46
    refine g_const (v := cL (-3)) rfl ?_
    exact TX9_readTyped_76 hl2 ⟨by omega, by omega⟩ h
def PX9_readTyped_14 (l1 : Int) (s0 : Int) (G : gS) (Q : Int → gS → Prop) : Prop :=
  ((s0 = 0 → PX9_now G (fun r7 G6 => inI r7 → ((r7 = 26 → PX9_readTyped_41 l1 s0 G6 Q) ∧ (¬ (r7 = 26) → PX9_now G6 (fun r11 G10 => inI r11 → ((r11 = 2 → PX9_readTyped_41 l1 s0 G10 Q) ∧ (¬ (r11 = 2) → PX9_miss G10 (fun r15 G14 => (0 ≤ r15 ∧ r15 ≤ 1) → Q (r15) G14)))))))) ∧ (¬ (s0 = 0) → PX9_readTyped_41 l1 s0 G Q))
set_option maxRecDepth 20000 in
theorem TX9_readTyped_14 {l1 : Int} {l2 : Nat} {s0 : Int} {G : gS} {Q : Int → gS → Prop} (hl2 : l2 % 8 ≠ 1) (hs0 : inI s0) (h : PX9_readTyped_14 l1 s0 G Q) : Tg W0 vX9_readTyped_14 [rf (7), rf (l1), l2] [cI (s0)] G (fun r G => ∃ v, r = cI v ∧ (0 ≤ v ∧ v ≤ 1) ∧ Q v G) := by
  unfold PX9_readTyped_14 at h
  unfold vX9_readTyped_14
  refine g_st (lv' := [_, _, _]) (is_I _) (Nat.le_of_ble_eq_true rfl) (Or.inr (n1_R _)) rfl ?_
  refine g_ld (v := cI _) rfl (is_I _) ?_
  refine g_eq1 hs0 (fun b5 => ?_) (fun b5 => ?_)
  · replace h := h.1 b5
    unfold vX9_readTyped_19
    refine g_ld (v := rf _) rfl (is_R _) ?_
    refine g_callV (As := []) (ci := 9) oC9 (fun _ => rfl) ?_
    refine g_go1 (Nat.le_of_ble_eq_true rfl) (Tn_w (TX9_now  h) fun _ G6 ⟨r7, e, i8, h⟩ => ?_)
    subst e
    refine ⟨n7_I _, ?_⟩
    replace h := h i8
    refine g_const (v := cI (26)) rfl ?_
    refine g_eq2 i8 ⟨by omega, by omega⟩ (fun b9 => ?_) (fun b9 => ?_)
    · replace h := h.1 b9
      exact TX9_readTyped_41 hs0 h
    · replace h := h.2 b9
      unfold vX9_readTyped_28
      refine g_ld (v := rf _) rfl (is_R _) ?_
      refine g_callV (As := []) (ci := 9) oC9 (fun _ => rfl) ?_
      refine g_go1 (Nat.le_of_ble_eq_true rfl) (Tn_w (TX9_now  h) fun _ G10 ⟨r11, e, i12, h⟩ => ?_)
      subst e
      refine ⟨n7_I _, ?_⟩
      replace h := h i12
      refine g_const (v := cI (2)) rfl ?_
      refine g_eq2 i12 ⟨by omega, by omega⟩ (fun b13 => ?_) (fun b13 => ?_)
      · replace h := h.1 b13
        exact TX9_readTyped_41 hs0 h
      · replace h := h.2 b13
        unfold vX9_readTyped_36
        refine g_ld (v := rf _) rfl (is_R _) ?_
        refine g_callV (As := []) (ci := 9) oC9 (fun _ => rfl) ?_
        refine g_go1 (Nat.le_of_ble_eq_true rfl) (Tn_w (TX9_miss  h) fun _ G14 ⟨r15, e, i16, h⟩ => ?_)
        subst e
        refine ⟨n7_I _, ?_⟩
        replace h := h i16
        exact g_ret1 (is_Z i16) ⟨_, rfl, i16, h⟩
  · replace h := h.2 b5
    exact TX9_readTyped_41 hs0 h
def PX9_readTyped_0 (a1 : Int) (G : gS) (Q : Int → gS → Prop) : Prop :=
  PX9_now G (fun r2 G1 => inI r2 → ((r2 = 24 → PX9_readTyped_14 a1 1 G1 Q) ∧ (¬ (r2 = 24) → PX9_readTyped_14 a1 0 G1 Q)))
set_option maxRecDepth 20000 in
theorem TX9_readTyped_0 {a1 : Int} {G : gS} {Q : Int → gS → Prop}  (h : PX9_readTyped_0 a1 G Q) : Tg W0 vX9_readTyped_0 [rf (7), rf (a1), 7] [] G (fun r G => ∃ v, r = cI v ∧ (0 ≤ v ∧ v ≤ 1) ∧ Q v G) := by
  unfold PX9_readTyped_0 at h
  unfold vX9_readTyped_0
  refine g_ld (v := rf _) rfl (is_R _) ?_
  refine g_callV (As := []) (ci := 9) oC9 (fun _ => rfl) ?_
  refine g_go1 (Nat.le_of_ble_eq_true rfl) (Tn_w (TX9_now  h) fun _ G1 ⟨r2, e, i3, h⟩ => ?_)
  subst e
  refine ⟨n7_I _, ?_⟩
  replace h := h i3
  refine g_const (v := cI (24)) rfl ?_
  refine g_eq2 i3 ⟨by omega, by omega⟩ (fun b4 => ?_) (fun b4 => ?_)
  · replace h := h.1 b4
    unfold vX9_readTyped_9
    refine g_const (v := cI (1)) rfl ?_
    exact TX9_readTyped_14 (show 7 % 8 ≠ 1 by decide) ⟨by omega, by omega⟩ h
  · replace h := h.2 b4
    unfold vX9_readTyped_13
    refine g_const (v := cI (0)) rfl ?_
    exact TX9_readTyped_14 (show 7 % 8 ≠ 1 by decide) ⟨by omega, by omega⟩ h
abbrev PX9_readTyped (a1 : Int) (G : gS) (Q : Int → gS → Prop) : Prop := PX9_readTyped_0 a1 G Q
theorem TX9_readTyped {a1 : Int} {G : gS} {Q : Int → gS → Prop}  (h : PX9_readTyped a1 G Q) : Tn W0 FX9_readTyped [rf (7), rf (a1)] G (fun r G => ∃ v, r = cI v ∧ (0 ≤ v ∧ v ≤ 1) ∧ Q v G) := by
  unfold FX9_readTyped
  refine g_ent (lv' := [rf (7), rf (a1), 7]) (flR (flR fl0)) (Nat.le_of_ble_eq_true rfl) rfl ?_
  exact TX9_readTyped_0  h
def PX9_isSign_77 (l0 : Int) (s0 : Int) (G : gS) (Q : Int → gS → Prop) : Prop :=
  ((0 ≤ s0 ∧ s0 ≤ 1) ∧ Q (s0) G)
set_option maxRecDepth 20000 in
theorem TX9_isSign_77 {l0 : Int} {s0 : Int} {G : gS} {Q : Int → gS → Prop} (hl0 : inI l0) (hs0 : inI s0) (h : PX9_isSign_77 l0 s0 G Q) : Tg W0 vX9_isSign_77 [cI (l0)] [cI (s0)] G (fun r G => ∃ v, r = cI v ∧ (0 ≤ v ∧ v ≤ 1) ∧ Q v G) := by
  unfold PX9_isSign_77 at h
  unfold vX9_isSign_77
  obtain ⟨q13, h⟩ := h
  exact g_ret1 (is_Z q13) ⟨_, rfl, q13, h⟩
def PX9_isSign_72 (l0 : Int) (G : gS) (Q : Int → gS → Prop) : Prop :=
  PX9_isSign_77 l0 1 G Q
set_option maxRecDepth 20000 in
theorem TX9_isSign_72 {l0 : Int} {G : gS} {Q : Int → gS → Prop} (hl0 : inI l0) (h : PX9_isSign_72 l0 G Q) : Tg W0 vX9_isSign_72 [cI (l0)] [] G (fun r G => ∃ v, r = cI v ∧ (0 ≤ v ∧ v ≤ 1) ∧ Q v G) := by
  unfold PX9_isSign_72 at h
  unfold vX9_isSign_72
  refine g_const (v := cI (1)) rfl ?_
  exact TX9_isSign_77 hl0 ⟨by omega, by omega⟩ h
def PX9_isSign_0 (a0 : Int) (G : gS) (Q : Int → gS → Prop) : Prop :=
  ((a0 = 123 → PX9_isSign_72 a0 G Q) ∧ (¬ (a0 = 123) → ((a0 = 125 → PX9_isSign_72 a0 G Q) ∧ (¬ (a0 = 125) → ((a0 = 40 → PX9_isSign_72 a0 G Q) ∧ (¬ (a0 = 40) → ((a0 = 41 → PX9_isSign_72 a0 G Q) ∧ (¬ (a0 = 41) → ((a0 = 44 → PX9_isSign_72 a0 G Q) ∧ (¬ (a0 = 44) → ((a0 = 59 → PX9_isSign_72 a0 G Q) ∧ (¬ (a0 = 59) → ((a0 = 46 → PX9_isSign_72 a0 G Q) ∧ (¬ (a0 = 46) → ((a0 = 61 → PX9_isSign_72 a0 G Q) ∧ (¬ (a0 = 61) → ((a0 = 60 → PX9_isSign_72 a0 G Q) ∧ (¬ (a0 = 60) → ((a0 = 43 → PX9_isSign_72 a0 G Q) ∧ (¬ (a0 = 43) → ((a0 = 45 → PX9_isSign_72 a0 G Q) ∧ (¬ (a0 = 45) → ((a0 = 42 → PX9_isSign_72 a0 G Q) ∧ (¬ (a0 = 42) → PX9_isSign_77 a0 0 G Q))))))))))))))))))))))))
set_option maxRecDepth 20000 in
theorem TX9_isSign_0 {a0 : Int} {G : gS} {Q : Int → gS → Prop} (ha0 : inI a0) (h : PX9_isSign_0 a0 G Q) : Tg W0 vX9_isSign_0 [cI (a0)] [] G (fun r G => ∃ v, r = cI v ∧ (0 ≤ v ∧ v ≤ 1) ∧ Q v G) := by
  unfold PX9_isSign_0 at h
  unfold vX9_isSign_0
  refine g_ld (v := cI _) rfl (is_I _) ?_
  refine g_const (v := cI (123)) rfl ?_
  refine g_eq2 ha0 ⟨by omega, by omega⟩ (fun b1 => ?_) (fun b1 => ?_)
  · replace h := h.1 b1
    exact TX9_isSign_72 ha0 h
  · replace h := h.2 b1
    unfold vX9_isSign_6
    refine g_ld (v := cI _) rfl (is_I _) ?_
    refine g_const (v := cI (125)) rfl ?_
    refine g_eq2 ha0 ⟨by omega, by omega⟩ (fun b2 => ?_) (fun b2 => ?_)
    · replace h := h.1 b2
      exact TX9_isSign_72 ha0 h
    · replace h := h.2 b2
      unfold vX9_isSign_12
      refine g_ld (v := cI _) rfl (is_I _) ?_
      refine g_const (v := cI (40)) rfl ?_
      refine g_eq2 ha0 ⟨by omega, by omega⟩ (fun b3 => ?_) (fun b3 => ?_)
      · replace h := h.1 b3
        exact TX9_isSign_72 ha0 h
      · replace h := h.2 b3
        unfold vX9_isSign_18
        refine g_ld (v := cI _) rfl (is_I _) ?_
        refine g_const (v := cI (41)) rfl ?_
        refine g_eq2 ha0 ⟨by omega, by omega⟩ (fun b4 => ?_) (fun b4 => ?_)
        · replace h := h.1 b4
          exact TX9_isSign_72 ha0 h
        · replace h := h.2 b4
          unfold vX9_isSign_24
          refine g_ld (v := cI _) rfl (is_I _) ?_
          refine g_const (v := cI (44)) rfl ?_
          refine g_eq2 ha0 ⟨by omega, by omega⟩ (fun b5 => ?_) (fun b5 => ?_)
          · replace h := h.1 b5
            exact TX9_isSign_72 ha0 h
          · replace h := h.2 b5
            unfold vX9_isSign_30
            refine g_ld (v := cI _) rfl (is_I _) ?_
            refine g_const (v := cI (59)) rfl ?_
            refine g_eq2 ha0 ⟨by omega, by omega⟩ (fun b6 => ?_) (fun b6 => ?_)
            · replace h := h.1 b6
              exact TX9_isSign_72 ha0 h
            · replace h := h.2 b6
              unfold vX9_isSign_36
              refine g_ld (v := cI _) rfl (is_I _) ?_
              refine g_const (v := cI (46)) rfl ?_
              refine g_eq2 ha0 ⟨by omega, by omega⟩ (fun b7 => ?_) (fun b7 => ?_)
              · replace h := h.1 b7
                exact TX9_isSign_72 ha0 h
              · replace h := h.2 b7
                unfold vX9_isSign_42
                refine g_ld (v := cI _) rfl (is_I _) ?_
                refine g_const (v := cI (61)) rfl ?_
                refine g_eq2 ha0 ⟨by omega, by omega⟩ (fun b8 => ?_) (fun b8 => ?_)
                · replace h := h.1 b8
                  exact TX9_isSign_72 ha0 h
                · replace h := h.2 b8
                  unfold vX9_isSign_48
                  refine g_ld (v := cI _) rfl (is_I _) ?_
                  refine g_const (v := cI (60)) rfl ?_
                  refine g_eq2 ha0 ⟨by omega, by omega⟩ (fun b9 => ?_) (fun b9 => ?_)
                  · replace h := h.1 b9
                    exact TX9_isSign_72 ha0 h
                  · replace h := h.2 b9
                    unfold vX9_isSign_54
                    refine g_ld (v := cI _) rfl (is_I _) ?_
                    refine g_const (v := cI (43)) rfl ?_
                    refine g_eq2 ha0 ⟨by omega, by omega⟩ (fun b10 => ?_) (fun b10 => ?_)
                    · replace h := h.1 b10
                      exact TX9_isSign_72 ha0 h
                    · replace h := h.2 b10
                      unfold vX9_isSign_60
                      refine g_ld (v := cI _) rfl (is_I _) ?_
                      refine g_const (v := cI (45)) rfl ?_
                      refine g_eq2 ha0 ⟨by omega, by omega⟩ (fun b11 => ?_) (fun b11 => ?_)
                      · replace h := h.1 b11
                        exact TX9_isSign_72 ha0 h
                      · replace h := h.2 b11
                        unfold vX9_isSign_66
                        refine g_ld (v := cI _) rfl (is_I _) ?_
                        refine g_const (v := cI (42)) rfl ?_
                        refine g_eq2 ha0 ⟨by omega, by omega⟩ (fun b12 => ?_) (fun b12 => ?_)
                        · replace h := h.1 b12
                          exact TX9_isSign_72 ha0 h
                        · replace h := h.2 b12
                          unfold vX9_isSign_76
                          refine g_const (v := cI (0)) rfl ?_
                          exact TX9_isSign_77 ha0 ⟨by omega, by omega⟩ h
abbrev PX9_isSign (a0 : Int) (G : gS) (Q : Int → gS → Prop) : Prop := PX9_isSign_0 a0 G Q
theorem TX9_isSign {a0 : Int} {G : gS} {Q : Int → gS → Prop} (ha0 : inI a0) (h : PX9_isSign a0 G Q) : Tn W0 FX9_isSign [cI (a0)] G (fun r G => ∃ v, r = cI v ∧ (0 ≤ v ∧ v ≤ 1) ∧ Q v G) := by
  unfold FX9_isSign
  refine g_ent (lv' := [cI (a0)]) (flI fl0) (Nat.le_of_ble_eq_true rfl) rfl ?_
  exact TX9_isSign_0 ha0 h
end DE

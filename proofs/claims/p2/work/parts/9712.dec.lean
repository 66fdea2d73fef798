section DE
def PX9_readMember_284 (l1 : Int) (l2 : Int) (l3 : Int) (s0 : Int) (G : gS) (Q : Int → gS → Prop) : Prop :=
  ((0 ≤ s0 ∧ s0 ≤ 1) ∧ Q (s0) G)
set_option maxRecDepth 20000 in
theorem TX9_readMember_284 {l1 : Int} {l2 : Int} {l3 : Int} {s0 : Int} {G : gS} {Q : Int → gS → Prop} (hl2 : inI l2) (hs0 : inI s0) (h : PX9_readMember_284 l1 l2 l3 s0 G Q) : Tg W0 vX9_readMember_284 [rf (7), rf (l1), cI (l2), rf (l3)] [cI (s0)] G (fun r G => ∃ v, r = cI v ∧ (0 ≤ v ∧ v ≤ 1) ∧ Q v G) := by
  unfold PX9_readMember_284 at h
  unfold vX9_readMember_284
  obtain ⟨q102, h⟩ := h
  exact g_ret1 (is_Z q102) ⟨_, rfl, q102, h⟩
def PX9_readMember_283 (l1 : Int) (l2 : Int) (l3 : Int) (G : gS) (Q : Int → gS → Prop) : Prop :=
  PX9_readMember_284 l1 l2 l3 0 G Q
set_option maxRecDepth 20000 in
theorem TX9_readMember_283 {l1 : Int} {l2 : Int} {l3 : Int} {G : gS} {Q : Int → gS → Prop} (hl2 : inI l2) (h : PX9_readMember_283 l1 l2 l3 G Q) : Tg W0 vX9_readMember_283 [rf (7), rf (l1), cI (l2), rf (l3)] [] G (fun r G => ∃ v, r = cI v ∧ (0 ≤ v ∧ v ≤ 1) ∧ Q v G) := by
  unfold PX9_readMember_283 at h
  unfold vX9_readMember_283
  refine g_const (v := cI (0)) rfl ?_
  exact TX9_readMember_284 hl2 ⟨by omega, by omega⟩ h
def PX9_readMember_271 (l1 : Int) (l2 : Int) (l3 : Int) (G : gS) (Q : Int → gS → Prop) : Prop :=
  PX9_readTyped l3 G (fun r95 G94 => (0 ≤ r95 ∧ r95 ≤ 1) → ((r95 = 0 → PX9_readMember_283 l1 l2 l3 G94 Q) ∧ (¬ (r95 = 0) → PX9_readMember_284 l1 l2 l3 1 G94 Q)))
set_option maxRecDepth 20000 in
theorem TX9_readMember_271 {l1 : Int} {l2 : Int} {l3 : Int} {G : gS} {Q : Int → gS → Prop} (hl2 : inI l2) (h : PX9_readMember_271 l1 l2 l3 G Q) : Tg W0 vX9_readMember_271 [rf (7), rf (l1), cI (l2), rf (l3)] [] G (fun r G => ∃ v, r = cI v ∧ (0 ≤ v ∧ v ≤ 1) ∧ Q v G) := by
  unfold PX9_readMember_271 at h
  unfold vX9_readMember_271
  refine g_ld (v := rf _) rfl (is_R _) ?_
  refine g_ld (v := rf _) rfl (is_R _) ?_
  refine g_callV (As := [_]) (ci := 9) oC9 (fun _ => rfl) ?_
  refine g_go1 (Nat.le_of_ble_eq_true rfl) (Tn_w (TX9_readTyped  h) fun _ G94 ⟨r95, e, i96, h⟩ => ?_)
  subst e
  refine ⟨n7_I _, ?_⟩
  replace h := h i96
  refine g_eq1 ⟨by omega, by omega⟩ (fun b97 => ?_) (fun b97 => ?_)
  · replace h := h.1 b97
    exact TX9_readMember_283 hl2 h
  · replace h := h.2 b97
    unfold vX9_readMember_279
    refine g_const (v := cI (1)) rfl ?_
    exact TX9_readMember_284 hl2 ⟨by omega, by omega⟩ h
def PX9_readMember_264 (l1 : Int) (l2 : Int) (l3 : Int) (G : gS) (Q : Int → gS → Prop) : Prop :=
  PX9_take G (fun r99 G98 => (0 ≤ r99 ∧ r99 ≤ 1) → ((r99 = 0 → PX9_readMember_283 l1 l2 l3 G98 Q) ∧ (¬ (r99 = 0) → PX9_readMember_271 l1 l2 l3 G98 Q)))
set_option maxRecDepth 20000 in
theorem TX9_readMember_264 {l1 : Int} {l2 : Int} {l3 : Int} {G : gS} {Q : Int → gS → Prop} (hl2 : inI l2) (h : PX9_readMember_264 l1 l2 l3 G Q) : Tg W0 vX9_readMember_264 [rf (7), rf (l1), cI (l2), rf (l3)] [] G (fun r G => ∃ v, r = cI v ∧ (0 ≤ v ∧ v ≤ 1) ∧ Q v G) := by
  unfold PX9_readMember_264 at h
  unfold vX9_readMember_264
  refine g_ld (v := rf _) rfl (is_R _) ?_
  refine g_callV (As := []) (ci := 9) oC9 (fun _ => rfl) ?_
  refine g_go1 (Nat.le_of_ble_eq_true rfl) (Tn_w (TX9_take  h) fun _ G98 ⟨r99, e, i100, h⟩ => ?_)
  subst e
  refine ⟨n7_I _, ?_⟩
  replace h := h i100
  refine g_eq1 ⟨by omega, by omega⟩ (fun b101 => ?_) (fun b101 => ?_)
  · replace h := h.1 b101
    exact TX9_readMember_283 hl2 h
  · replace h := h.2 b101
    exact TX9_readMember_271 hl2 h
def PX9_readMember_247 (l1 : Int) (l2 : Int) (l3 : Int) (s0 : Int) (s1 : Int) (G : gS) (Q : Int → gS → Prop) : Prop :=
  (isO W0 7 (s0) ∧ ((0 ≤ s1 ∧ s1 ≤ 1) ∧ (∀ G88 : gS, G88 = uG G s0 4 (s1) → (isO W0 7 (l3) ∧ ((0 ≤ G88 l3 3 ∧ G88 l3 3 ≤ 1) → ((G88 l3 3 = 0 → ((0 ≤ G88 l3 4 ∧ G88 l3 4 ≤ 1) → ((G88 l3 4 = 0 → PX9_readMember_271 l1 l2 l3 G88 Q) ∧ (¬ (G88 l3 4 = 0) → PX9_readMember_264 l1 l2 l3 G88 Q)))) ∧ (¬ (G88 l3 3 = 0) → PX9_readMember_264 l1 l2 l3 G88 Q)))))))
set_option maxRecDepth 20000 in
theorem TX9_readMember_247 {l1 : Int} {l2 : Int} {l3 : Int} {s0 : Int} {s1 : Int} {G : gS} {Q : Int → gS → Prop} (hl2 : inI l2) (hs1 : inI s1) (h : PX9_readMember_247 l1 l2 l3 s0 s1 G Q) : Tg W0 vX9_readMember_247 [rf (7), rf (l1), cI (l2), rf (l3)] [cI (s1), rf (s0)] G (fun r G => ∃ v, r = cI v ∧ (0 ≤ v ∧ v ≤ 1) ∧ Q v G) := by
  unfold PX9_readMember_247 at h
  unfold vX9_readMember_247
  obtain ⟨q86, h⟩ := h
  obtain ⟨q87, h⟩ := h
  refine g_putZ (kz := 4) q86 rfl (Nat.le_of_ble_eq_true rfl) rfl q87 (nf7_4 q86) ?_
  replace h := h _ rfl
  refine g_ld (v := rf _) rfl (is_R _) ?_
  obtain ⟨q89, h⟩ := h
  refine g_getZ (kz := 3) q89 rfl (Nat.le_of_ble_eq_true rfl) rfl fun i90 => ?_
  replace h := h i90
  refine g_eq1 ⟨by omega, by omega⟩ (fun b91 => ?_) (fun b91 => ?_)
  · replace h := h.1 b91
    unfold vX9_readMember_257
    refine g_ld (v := rf _) rfl (is_R _) ?_
    refine g_getZ (kz := 4) q89 rfl (Nat.le_of_ble_eq_true rfl) rfl fun i92 => ?_
    replace h := h i92
    refine g_eq1 ⟨by omega, by omega⟩ (fun b93 => ?_) (fun b93 => ?_)
    · replace h := h.1 b93
      exact TX9_readMember_271 hl2 h
    · replace h := h.2 b93
      exact TX9_readMember_264 hl2 h
  · replace h := h.2 b91
    exact TX9_readMember_264 hl2 h
def PX9_readMember_229 (l1 : Int) (l2 : Int) (l3 : Int) (s0 : Int) (s1 : Int) (G : gS) (Q : Int → gS → Prop) : Prop :=
  (isO W0 7 (s0) ∧ ((0 ≤ s1 ∧ s1 ≤ 1) ∧ (∀ G81 : gS, G81 = uG G s0 3 (s1) → PX9_now G81 (fun r83 G82 => inI r83 → ((r83 = 21 → PX9_readMember_247 l1 l2 l3 l3 1 G82 Q) ∧ (¬ (r83 = 21) → PX9_readMember_247 l1 l2 l3 l3 0 G82 Q))))))
set_option maxRecDepth 20000 in
theorem TX9_readMember_229 {l1 : Int} {l2 : Int} {l3 : Int} {s0 : Int} {s1 : Int} {G : gS} {Q : Int → gS → Prop} (hl2 : inI l2) (hs1 : inI s1) (h : PX9_readMember_229 l1 l2 l3 s0 s1 G Q) : Tg W0 vX9_readMember_229 [rf (7), rf (l1), cI (l2), rf (l3)] [cI (s1), rf (s0)] G (fun r G => ∃ v, r = cI v ∧ (0 ≤ v ∧ v ≤ 1) ∧ Q v G) := by
  unfold PX9_readMember_229 at h
  unfold vX9_readMember_229
  obtain ⟨q79, h⟩ := h
  obtain ⟨q80, h⟩ := h
  refine g_putZ (kz := 3) q79 rfl (Nat.le_of_ble_eq_true rfl) rfl q80 (nf7_3 q79) ?_
  replace h := h _ rfl
  refine g_ld (v := rf _) rfl (is_R _) ?_
  refine g_ld (v := rf _) rfl (is_R _) ?_
  refine g_callV (As := []) (ci := 9) oC9 (fun _ => rfl) ?_
  refine g_go1 (by simp only [cs_c, cs_0, ct_I, ct_L, ct_R]; exact Nat.le_of_ble_eq_true rfl) (Tn_w (TX9_now  h) fun _ G82 ⟨r83, e, i84, h⟩ => ?_)
  subst e
  refine ⟨n7_I _, ?_⟩
  replace h := h i84
  refine g_const (v := cI (21)) rfl ?_
  refine g_eq2 i84 ⟨by omega, by omega⟩ (fun b85 => ?_) (fun b85 => ?_)
  · replace h := h.1 b85
    unfold vX9_readMember_242
    refine g_const (v := cI (1)) rfl ?_
    exact TX9_readMember_247 hl2 ⟨by omega, by omega⟩ h
  · replace h := h.2 b85
    unfold vX9_readMember_246
    refine g_const (v := cI (0)) rfl ?_
    exact TX9_readMember_247 hl2 ⟨by omega, by omega⟩ h
def PX9_readMember_214 (l1 : Int) (l2 : Int) (l3 : Int) (G : gS) (Q : Int → gS → Prop) : Prop :=
  PX9_now G (fun r76 G75 => inI r76 → ((r76 = 20 → PX9_readMember_229 l1 l2 l3 l3 1 G75 Q) ∧ (¬ (r76 = 20) → PX9_readMember_229 l1 l2 l3 l3 0 G75 Q)))
set_option maxRecDepth 20000 in
theorem TX9_readMember_214 {l1 : Int} {l2 : Int} {l3 : Int} {G : gS} {Q : Int → gS → Prop} (hl2 : inI l2) (h : PX9_readMember_214 l1 l2 l3 G Q) : Tg W0 vX9_readMember_214 [rf (7), rf (l1), cI (l2), rf (l3)] [] G (fun r G => ∃ v, r = cI v ∧ (0 ≤ v ∧ v ≤ 1) ∧ Q v G) := by
  unfold PX9_readMember_214 at h
  unfold vX9_readMember_214
  refine g_ld (v := rf _) rfl (is_R _) ?_
  refine g_ld (v := rf _) rfl (is_R _) ?_
  refine g_callV (As := []) (ci := 9) oC9 (fun _ => rfl) ?_
  refine g_go1 (by simp only [cs_c, cs_0, ct_I, ct_L, ct_R]; exact Nat.le_of_ble_eq_true rfl) (Tn_w (TX9_now  h) fun _ G75 ⟨r76, e, i77, h⟩ => ?_)
  subst e
  refine ⟨n7_I _, ?_⟩
  replace h := h i77
  refine g_const (v := cI (20)) rfl ?_
  refine g_eq2 i77 ⟨by omega, by omega⟩ (fun b78 => ?_) (fun b78 => ?_)
  · replace h := h.1 b78
    unfold vX9_readMember_224
    refine g_const (v := cI (1)) rfl ?_
    exact TX9_readMember_229 hl2 ⟨by omega, by omega⟩ h
  · replace h := h.2 b78
    unfold vX9_readMember_228
    refine g_const (v := cI (0)) rfl ?_
    exact TX9_readMember_229 hl2 ⟨by omega, by omega⟩ h
def PX9_readMember_195 (l1 : Int) (l2 : Int) (l3 : Int) (s0 : Int) (s1 : Int) (G : gS) (Q : Int → gS → Prop) : Prop :=
  (isO W0 7 (s0) ∧ ((0 ≤ s1 ∧ s1 ≤ 1) ∧ (∀ G67 : gS, G67 = uG G s0 2 (s1) → (isO W0 7 (l3) ∧ ((0 ≤ G67 l3 2 ∧ G67 l3 2 ≤ 1) → ((G67 l3 2 = 0 → PX9_readMember_214 l1 l2 l3 G67 Q) ∧ (¬ (G67 l3 2 = 0) → PX9_take G67 (fun r72 G71 => (0 ≤ r72 ∧ r72 ≤ 1) → ((r72 = 0 → Q (0) G71) ∧ (¬ (r72 = 0) → PX9_readMember_214 l1 l2 l3 G71 Q))))))))))
set_option maxRecDepth 20000 in
theorem TX9_readMember_195 {l1 : Int} {l2 : Int} {l3 : Int} {s0 : Int} {s1 : Int} {G : gS} {Q : Int → gS → Prop} (hl2 : inI l2) (hs1 : inI s1) (h : PX9_readMember_195 l1 l2 l3 s0 s1 G Q) : Tg W0 vX9_readMember_195 [rf (7), rf (l1), cI (l2), rf (l3)] [cI (s1), rf (s0)] G (fun r G => ∃ v, r = cI v ∧ (0 ≤ v ∧ v ≤ 1) ∧ Q v G) := by
  unfold PX9_readMember_195 at h
  unfold vX9_readMember_195
  obtain ⟨q65, h⟩ := h
  obtain ⟨q66, h⟩ := h
  refine g_putZ (kz := 2) q65 rfl (Nat.le_of_ble_eq_true rfl) rfl q66 (nf7_2 q65) ?_
  replace h := h _ rfl
  refine g_ld (v := rf _) rfl (is_R _) ?_
  obtain ⟨q68, h⟩ := h
  refine g_getZ (kz := 2) q68 rfl (Nat.le_of_ble_eq_true rfl) rfl fun i69 => ?_
  replace h := h i69
  refine g_eq1 ⟨by omega, by omega⟩ (fun b70 => ?_) (fun b70 => ?_)
  · replace h := h.1 b70
    exact TX9_readMember_214 hl2 h
  · replace h := h.2 b70
    unfold vX9_readMember_205
    refine g_ld (v := rf _) rfl (is_R _) ?_
    refine g_callV (As := []) (ci := 9) oC9 (fun _ => rfl) ?_
    refine g_go1 (Nat.le_of_ble_eq_true rfl) (Tn_w (TX9_take  h) fun _ G71 ⟨r72, e, i73, h⟩ => ?_)
    subst e
    refine ⟨n7_I _, ?_⟩
    replace h := h i73
    refine g_eq1 ⟨by omega, by omega⟩ (fun b74 => ?_) (fun b74 => ?_)
    · replace h := h.1 b74
      unfold vX9_readMember_212
      refine g_const (v := cI (0)) rfl ?_
      exact g_ret1 (is_Z (by omega)) ⟨_, rfl, (by omega), h⟩
    · replace h := h.2 b74
      exact TX9_readMember_214 hl2 h
def PX9_readMember_179 (l1 : Int) (l2 : Int) (l3 : Int) (s0 : Int) (G : gS) (Q : Int → gS → Prop) : Prop :=
  ((0 ≤ s0 ∧ s0 ≤ 1) ∧ Q (s0) G)
set_option maxRecDepth 20000 in
theorem TX9_readMember_179 {l1 : Int} {l2 : Int} {l3 : Int} {s0 : Int} {G : gS} {Q : Int → gS → Prop} (hl2 : inI l2) (hs0 : inI s0) (h : PX9_readMember_179 l1 l2 l3 s0 G Q) : Tg W0 vX9_readMember_179 [rf (7), rf (l1), cI (l2), rf (l3)] [cI (s0)] G (fun r G => ∃ v, r = cI v ∧ (0 ≤ v ∧ v ≤ 1) ∧ Q v G) := by
  unfold PX9_readMember_179 at h
  unfold vX9_readMember_179
  obtain ⟨q64, h⟩ := h
  exact g_ret1 (is_Z q64) ⟨_, rfl, q64, h⟩
def PX9_readMember_178 (l1 : Int) (l2 : Int) (l3 : Int) (G : gS) (Q : Int → gS → Prop) : Prop :=
  PX9_readMember_179 l1 l2 l3 0 G Q
set_option maxRecDepth 20000 in
theorem TX9_readMember_178 {l1 : Int} {l2 : Int} {l3 : Int} {G : gS} {Q : Int → gS → Prop} (hl2 : inI l2) (h : PX9_readMember_178 l1 l2 l3 G Q) : Tg W0 vX9_readMember_178 [rf (7), rf (l1), cI (l2), rf (l3)] [] G (fun r G => ∃ v, r = cI v ∧ (0 ≤ v ∧ v ≤ 1) ∧ Q v G) := by
  unfold PX9_readMember_178 at h
  unfold vX9_readMember_178
  refine g_const (v := cI (0)) rfl ?_
  exact TX9_readMember_179 hl2 ⟨by omega, by omega⟩ h
def PX9_readMember_137 (l1 : Int) (l2 : Int) (l3 : Int) (G : gS) (Q : Int → gS → Prop) : Prop :=
  PX9_now G (fun r39 G38 => inI r39 → ((r39 = 25 → (isO W0 7 (l3) ∧ (∀ G43 : gS, G43 = uG G38 l3 0 (2) → (inI (G43 7 8) → (∀ G45 : gS, G45 = uG G43 l3 11 (G43 7 8) → PX9_take G45 (fun r47 G46 => (0 ≤ r47 ∧ r47 ≤ 1) → ((r47 = 0 → PX9_readMember_178 l1 l2 l3 G46 Q) ∧ (¬ (r47 = 0) → PX9_readParams l3 G46 (fun r51 G50 => (0 ≤ r51 ∧ r51 ≤ 1) → ((r51 = 0 → PX9_readMember_178 l1 l2 l3 G50 Q) ∧ (¬ (r51 = 0) → PX9_readMember_179 l1 l2 l3 1 G50 Q))))))))))) ∧ (¬ (r39 = 25) → PX9_now G38 (fun r55 G54 => inI r55 → ((r55 = 22 → PX9_readMember_195 l1 l2 l3 l3 1 G54 Q) ∧ (¬ (r55 = 22) → PX9_readMember_195 l1 l2 l3 l3 0 G54 Q))))))
set_option maxRecDepth 20000 in
theorem TX9_readMember_137 {l1 : Int} {l2 : Int} {l3 : Int} {G : gS} {Q : Int → gS → Prop} (hl2 : inI l2) (h : PX9_readMember_137 l1 l2 l3 G Q) : Tg W0 vX9_readMember_137 [rf (7), rf (l1), cI (l2), rf (l3)] [] G (fun r G => ∃ v, r = cI v ∧ (0 ≤ v ∧ v ≤ 1) ∧ Q v G) := by
  unfold PX9_readMember_137 at h
  unfold vX9_readMember_137
  refine g_ld (v := rf _) rfl (is_R _) ?_
  refine g_callV (As := []) (ci := 9) oC9 (fun _ => rfl) ?_
  refine g_go1 (Nat.le_of_ble_eq_true rfl) (Tn_w (TX9_now  h) fun _ G38 ⟨r39, e, i40, h⟩ => ?_)
  subst e
  refine ⟨n7_I _, ?_⟩
  replace h := h i40
  refine g_const (v := cI (25)) rfl ?_
  refine g_eq2 i40 ⟨by omega, by omega⟩ (fun b41 => ?_) (fun b41 => ?_)
  · replace h := h.1 b41
    unfold vX9_readMember_146
    refine g_ld (v := rf _) rfl (is_R _) ?_
    refine g_const (v := cI (2)) rfl ?_
    obtain ⟨q42, h⟩ := h
    refine g_putI (kz := 0) q42 rfl (Nat.le_of_ble_eq_true rfl) rfl ⟨by omega, by omega⟩ (nf7_0 q42) ?_
    replace h := h _ rfl
    refine g_ld (v := rf _) rfl (is_R _) ?_
    refine g_ld (v := rf _) rfl (is_R _) ?_
    refine g_getI (kz := 8) oC9 rfl (Nat.le_of_ble_eq_true rfl) rfl fun i44 => ?_
    replace h := h i44
    refine g_putI (kz := 11) q42 rfl (Nat.le_of_ble_eq_true rfl) rfl i44 (nf7_11 q42) ?_
    replace h := h _ rfl
    refine g_ld (v := rf _) rfl (is_R _) ?_
    refine g_callV (As := []) (ci := 9) oC9 (fun _ => rfl) ?_
    refine g_go1 (Nat.le_of_ble_eq_true rfl) (Tn_w (TX9_take  h) fun _ G46 ⟨r47, e, i48, h⟩ => ?_)
    subst e
    refine ⟨n7_I _, ?_⟩
    replace h := h i48
    refine g_eq1 ⟨by omega, by omega⟩ (fun b49 => ?_) (fun b49 => ?_)
    · replace h := h.1 b49
      exact TX9_readMember_178 hl2 h
    · replace h := h.2 b49
      unfold vX9_readMember_166
      refine g_ld (v := rf _) rfl (is_R _) ?_
      refine g_ld (v := rf _) rfl (is_R _) ?_
      refine g_callV (As := [_]) (ci := 9) oC9 (fun _ => rfl) ?_
      refine g_go1 (Nat.le_of_ble_eq_true rfl) (Tn_w (TX9_readParams  h) fun _ G50 ⟨r51, e, i52, h⟩ => ?_)
      subst e
      refine ⟨n7_I _, ?_⟩
      replace h := h i52
      refine g_eq1 ⟨by omega, by omega⟩ (fun b53 => ?_) (fun b53 => ?_)
      · replace h := h.1 b53
        exact TX9_readMember_178 hl2 h
      · replace h := h.2 b53
        unfold vX9_readMember_174
        refine g_const (v := cI (1)) rfl ?_
        exact TX9_readMember_179 hl2 ⟨by omega, by omega⟩ h
  · replace h := h.2 b41
    unfold vX9_readMember_180
    refine g_ld (v := rf _) rfl (is_R _) ?_
    refine g_ld (v := rf _) rfl (is_R _) ?_
    refine g_callV (As := []) (ci := 9) oC9 (fun _ => rfl) ?_
    refine g_go1 (by simp only [cs_c, cs_0, ct_I, ct_L, ct_R]; exact Nat.le_of_ble_eq_true rfl) (Tn_w (TX9_now  h) fun _ G54 ⟨r55, e, i56, h⟩ => ?_)
    subst e
    refine ⟨n7_I _, ?_⟩
    replace h := h i56
    refine g_const (v := cI (22)) rfl ?_
    refine g_eq2 i56 ⟨by omega, by omega⟩ (fun b57 => ?_) (fun b57 => ?_)
    · replace h := h.1 b57
      unfold vX9_readMember_190
      refine g_const (v := cI (1)) rfl ?_
      exact TX9_readMember_195 hl2 ⟨by omega, by omega⟩ h
    · replace h := h.2 b57
      unfold vX9_readMember_194
      refine g_const (v := cI (0)) rfl ?_
      exact TX9_readMember_195 hl2 ⟨by omega, by omega⟩ h
def PX9_readMember_125 (l1 : Int) (l2 : Int) (l3 : Int) (s0 : Int) (s1 : Int) (G : gS) (Q : Int → gS → Prop) : Prop :=
  (isO W0 7 (s0) ∧ (∀ G59 : gS, G59 = uG G s0 1 (s1) → PX9_take G59 (fun r61 G60 => (0 ≤ r61 ∧ r61 ≤ 1) → ((r61 = 0 → Q (0) G60) ∧ (¬ (r61 = 0) → PX9_readMember_137 l1 l2 l3 G60 Q)))))
set_option maxRecDepth 20000 in
theorem TX9_readMember_125 {l1 : Int} {l2 : Int} {l3 : Int} {s0 : Int} {s1 : Int} {G : gS} {Q : Int → gS → Prop} (hl2 : inI l2) (hs1 : inI s1) (h : PX9_readMember_125 l1 l2 l3 s0 s1 G Q) : Tg W0 vX9_readMember_125 [rf (7), rf (l1), cI (l2), rf (l3)] [cI (s1), rf (s0)] G (fun r G => ∃ v, r = cI v ∧ (0 ≤ v ∧ v ≤ 1) ∧ Q v G) := by
  unfold PX9_readMember_125 at h
  unfold vX9_readMember_125
  obtain ⟨q58, h⟩ := h
  refine g_putI (kz := 1) q58 rfl (Nat.le_of_ble_eq_true rfl) rfl hs1 (nf7_1 q58) ?_
  replace h := h _ rfl
  refine g_ld (v := rf _) rfl (is_R _) ?_
  refine g_callV (As := []) (ci := 9) oC9 (fun _ => rfl) ?_
  refine g_go1 (Nat.le_of_ble_eq_true rfl) (Tn_w (TX9_take  h) fun _ G60 ⟨r61, e, i62, h⟩ => ?_)
  subst e
  refine ⟨n7_I _, ?_⟩
  replace h := h i62
  refine g_eq1 ⟨by omega, by omega⟩ (fun b63 => ?_) (fun b63 => ?_)
  · replace h := h.1 b63
    unfold vX9_readMember_135
    refine g_const (v := cI (0)) rfl ?_
    exact g_ret1 (is_Z (by omega)) ⟨_, rfl, (by omega), h⟩
  · replace h := h.2 b63
    exact TX9_readMember_137 hl2 h
def PX9_readMember_27 (l1 : Int) (l2 : Int) (G : gS) (Q : Int → gS → Prop) : Prop :=
  (isO W0 10 (l1) ∧ (inI (G l1 13) → ((G l1 13 < 20 → ((G 7 11 = -1 ∨ isO W0 1 (G 7 11)) → (isO W0 1 (G 7 11) ∧ PX1_newMember (G 7 11) G (fun r13 G12 => PX10_addItem l1 r13 G12 (fun _ G15 => (∀ G17 : gS, G17 = uG G15 7 12 (223) → ((l2 = 23 → (isO W0 7 (r13) ∧ (∀ G20 : gS, G20 = uG G17 r13 0 (3) → (inI (G20 7 8) → (∀ G22 : gS, G22 = uG G20 r13 11 (G20 7 8) → PX9_take G22 (fun r24 G23 => (0 ≤ r24 ∧ r24 ≤ 1) → Q (r24) G23)))))) ∧ (¬ (l2 = 23) → PX10_add l1 r13 G17 (fun _ G26 => ((l2 < 17 → PX9_readMember_137 l1 l2 r13 G26 Q) ∧ (¬ (l2 < 17) → ((19 < l2 → PX9_readMember_137 l1 l2 r13 G26 Q) ∧ (¬ (19 < l2) → ((l2 = 17 → PX9_readMember_125 l1 l2 r13 r13 3 G26 Q) ∧ (¬ (l2 = 17) → ((l2 = 18 → PX9_readMember_125 l1 l2 r13 r13 2 G26 Q) ∧ (¬ (l2 = 18) → PX9_readMember_125 l1 l2 r13 r13 0 G26 Q))))))))))))))))) ∧ (¬ (G l1 13 < 20) → PX9_stop 3 G (fun r33 G32 => (0 ≤ r33 ∧ r33 ≤ 1) → Q (r33) G32)))))
set_option maxRecDepth 20000 in
theorem TX9_readMember_27 {l1 : Int} {l2 : Int} {l3 : Nat} {G : gS} {Q : Int → gS → Prop} (hl2 : inI l2) (hl3 : l3 % 8 ≠ 1) (h : PX9_readMember_27 l1 l2 G Q) : Tg W0 vX9_readMember_27 [rf (7), rf (l1), cI (l2), l3] [] G (fun r G => ∃ v, r = cI v ∧ (0 ≤ v ∧ v ≤ 1) ∧ Q v G) := by
  unfold PX9_readMember_27 at h
  unfold vX9_readMember_27
  refine g_ld (v := rf _) rfl (is_R _) ?_
  obtain ⟨q7, h⟩ := h
  refine g_getI (kz := 13) q7 rfl (Nat.le_of_ble_eq_true rfl) rfl fun i8 => ?_
  replace h := h i8
  refine g_const (v := cI (20)) rfl ?_
  refine g_lt2 i8 ⟨by omega, by omega⟩ (fun b9 => ?_) (fun b9 => ?_)
  · replace h := h.1 b9
    unfold vX9_readMember_42
    refine g_ld (v := rf _) rfl (is_R _) ?_
    refine g_getR (kz := 11) (c := 1) oC9 rfl (Nat.le_of_ble_eq_true rfl) rfl (by decide) fun i10 => ?_
    replace h := h i10
    obtain ⟨q11, h⟩ := h
    refine g_callV (As := []) (ci := 1) q11 (fun _ => rfl) ?_
    refine g_go1 (Nat.le_of_ble_eq_true rfl) (Tn_w (TX1_newMember  h) fun _ G12 ⟨r13, e, h⟩ => ?_)
    subst e
    refine ⟨n7_R _, ?_⟩
    refine g_st (lv' := [_, _, _, _]) (is_R _) (Nat.le_of_ble_eq_true rfl) (Or.inr (n1_I _)) rfl ?_
    refine g_ld (v := rf _) rfl (is_R _) ?_
    refine g_ld (v := rf _) rfl (is_R _) ?_
    refine g_callV (As := [_]) (ci := 10) q7 (fun _ => rfl) ?_
    refine g_go0 (Nat.le_of_ble_eq_true rfl) (Tn_w (TX10_addItem  h) fun _ G15 ⟨e, h⟩ => ⟨e, ?_⟩)
    refine g_ld (v := rf _) rfl (is_R _) ?_
    refine g_const (v := cI (223)) rfl ?_
    refine g_putI (kz := 12) oC9 rfl (Nat.le_of_ble_eq_true rfl) rfl ⟨by omega, by omega⟩ (zfin_no (c := 7) (j := 12) rfl) ?_
    replace h := h _ rfl
    refine g_ld (v := cI _) rfl (is_I _) ?_
    refine g_const (v := cI (23)) rfl ?_
    refine g_eq2 hl2 ⟨by omega, by omega⟩ (fun b18 => ?_) (fun b18 => ?_)
    · replace h := h.1 b18
      unfold vX9_readMember_68
      refine g_ld (v := rf _) rfl (is_R _) ?_
      refine g_const (v := cI (3)) rfl ?_
      obtain ⟨q19, h⟩ := h
      refine g_putI (kz := 0) q19 rfl (Nat.le_of_ble_eq_true rfl) rfl ⟨by omega, by omega⟩ (nf7_0 q19) ?_
      replace h := h _ rfl
      refine g_ld (v := rf _) rfl (is_R _) ?_
      refine g_ld (v := rf _) rfl (is_R _) ?_
      refine g_getI (kz := 8) oC9 rfl (Nat.le_of_ble_eq_true rfl) rfl fun i21 => ?_
      replace h := h i21
      refine g_putI (kz := 11) q19 rfl (Nat.le_of_ble_eq_true rfl) rfl i21 (nf7_11 q19) ?_
      replace h := h _ rfl
      refine g_ld (v := rf _) rfl (is_R _) ?_
      refine g_callV (As := []) (ci := 9) oC9 (fun _ => rfl) ?_
      refine g_go1 (Nat.le_of_ble_eq_true rfl) (Tn_w (TX9_take  h) fun _ G23 ⟨r24, e, i25, h⟩ => ?_)
      subst e
      refine ⟨n7_I _, ?_⟩
      replace h := h i25
      exact g_ret1 (is_Z i25) ⟨_, rfl, i25, h⟩
    · replace h := h.2 b18
      unfold vX9_readMember_86
      refine g_ld (v := rf _) rfl (is_R _) ?_
      refine g_ld (v := rf _) rfl (is_R _) ?_
      refine g_callV (As := [_]) (ci := 10) q7 (fun _ => rfl) ?_
      refine g_go0 (Nat.le_of_ble_eq_true rfl) (Tn_w (TX10_add  h) fun _ G26 ⟨e, h⟩ => ⟨e, ?_⟩)
      refine g_ld (v := cI _) rfl (is_I _) ?_
      refine g_const (v := cI (17)) rfl ?_
      refine g_lt2 hl2 ⟨by omega, by omega⟩ (fun b28 => ?_) (fun b28 => ?_)
      · replace h := h.1 b28
        exact TX9_readMember_137 hl2 h
      · replace h := h.2 b28
        unfold vX9_readMember_97
        refine g_ld (v := cI _) rfl (is_I _) ?_
        refine g_const (v := cI (19)) rfl ?_
        refine g_gt2 hl2 ⟨by omega, by omega⟩ (fun b29 => ?_) (fun b29 => ?_)
        · replace h := h.1 b29
          exact TX9_readMember_137 hl2 h
        · replace h := h.2 b29
          unfold vX9_readMember_103
          refine g_ld (v := rf _) rfl (is_R _) ?_
          refine g_ld (v := cI _) rfl (is_I _) ?_
          refine g_const (v := cI (17)) rfl ?_
          refine g_eq2 hl2 ⟨by omega, by omega⟩ (fun b30 => ?_) (fun b30 => ?_)
          · replace h := h.1 b30
            unfold vX9_readMember_110
            refine g_const (v := cI (3)) rfl ?_
            exact TX9_readMember_125 hl2 ⟨by omega, by omega⟩ h
          · replace h := h.2 b30
            unfold vX9_readMember_114
            refine g_ld (v := cI _) rfl (is_I _) ?_
            refine g_const (v := cI (18)) rfl ?_
            refine g_eq2 hl2 ⟨by omega, by omega⟩ (fun b31 => ?_) (fun b31 => ?_)
            · replace h := h.1 b31
              unfold vX9_readMember_120
              refine g_const (v := cI (2)) rfl ?_
              exact TX9_readMember_125 hl2 ⟨by omega, by omega⟩ h
            · replace h := h.2 b31
              unfold vX9_readMember_124
              refine g_const (v := cI (0)) rfl ?_
              exact TX9_readMember_125 hl2 ⟨by omega, by omega⟩ h
  · replace h := h.2 b9
    unfold vX9_readMember_36
    refine g_ld (v := rf _) rfl (is_R _) ?_
    refine g_const (v := cI (3)) rfl ?_
    refine g_callV (As := [_]) (ci := 9) oC9 (fun _ => rfl) ?_
    refine g_go1 (Nat.le_of_ble_eq_true rfl) (Tn_w (TX9_stop ⟨by omega, by omega⟩ h) fun _ G32 ⟨r33, e, i34, h⟩ => ?_)
    subst e
    refine ⟨n7_I _, ?_⟩
    replace h := h i34
    exact g_ret1 (is_Z i34) ⟨_, rfl, i34, h⟩
def PX9_readMember_22 (l1 : Int) (l2 : Int) (G : gS) (Q : Int → gS → Prop) : Prop :=
  PX9_miss G (fun r36 G35 => (0 ≤ r36 ∧ r36 ≤ 1) → Q (r36) G35)
set_option maxRecDepth 20000 in
theorem TX9_readMember_22 {l1 : Int} {l2 : Int} {l3 : Nat} {G : gS} {Q : Int → gS → Prop} (hl2 : inI l2) (hl3 : l3 % 8 ≠ 1) (h : PX9_readMember_22 l1 l2 G Q) : Tg W0 vX9_readMember_22 [rf (7), rf (l1), cI (l2), l3] [] G (fun r G => ∃ v, r = cI v ∧ (0 ≤ v ∧ v ≤ 1) ∧ Q v G) := by
  unfold PX9_readMember_22 at h
  unfold vX9_readMember_22
  refine g_ld (v := rf _) rfl (is_R _) ?_
  refine g_callV (As := []) (ci := 9) oC9 (fun _ => rfl) ?_
  refine g_go1 (Nat.le_of_ble_eq_true rfl) (Tn_w (TX9_miss  h) fun _ G35 ⟨r36, e, i37, h⟩ => ?_)
  subst e
  refine ⟨n7_I _, ?_⟩
  replace h := h i37
  exact g_ret1 (is_Z i37) ⟨_, rfl, i37, h⟩
def PX9_readMember_0 (a1 : Int) (G : gS) (Q : Int → gS → Prop) : Prop :=
  PX9_now G (fun r2 G1 => inI r2 → ((r2 = 2 → PX9_readMember_27 a1 r2 G1 Q) ∧ (¬ (r2 = 2) → ((r2 < 17 → PX9_readMember_22 a1 r2 G1 Q) ∧ (¬ (r2 < 17) → ((26 < r2 → PX9_readMember_22 a1 r2 G1 Q) ∧ (¬ (26 < r2) → PX9_readMember_27 a1 r2 G1 Q)))))))
set_option maxRecDepth 20000 in
theorem TX9_readMember_0 {a1 : Int} {G : gS} {Q : Int → gS → Prop}  (h : PX9_readMember_0 a1 G Q) : Tg W0 vX9_readMember_0 [rf (7), rf (a1), 7, 7] [] G (fun r G => ∃ v, r = cI v ∧ (0 ≤ v ∧ v ≤ 1) ∧ Q v G) := by
  unfold PX9_readMember_0 at h
  unfold vX9_readMember_0
  refine g_ld (v := rf _) rfl (is_R _) ?_
  refine g_callV (As := []) (ci := 9) oC9 (fun _ => rfl) ?_
  refine g_go1 (Nat.le_of_ble_eq_true rfl) (Tn_w (TX9_now  h) fun _ G1 ⟨r2, e, i3, h⟩ => ?_)
  subst e
  refine ⟨n7_I _, ?_⟩
  replace h := h i3
  refine g_st (lv' := [_, _, _, _]) (is_I _) (Nat.le_of_ble_eq_true rfl) (Or.inr (n1_R _)) rfl ?_
  refine g_ld (v := cI _) rfl (is_I _) ?_
  refine g_const (v := cI (2)) rfl ?_
  refine g_eq2 i3 ⟨by omega, by omega⟩ (fun b4 => ?_) (fun b4 => ?_)
  · replace h := h.1 b4
    exact TX9_readMember_27 i3 (show 7 % 8 ≠ 1 by decide) h
  · replace h := h.2 b4
    unfold vX9_readMember_10
    refine g_ld (v := cI _) rfl (is_I _) ?_
    refine g_const (v := cI (17)) rfl ?_
    refine g_lt2 i3 ⟨by omega, by omega⟩ (fun b5 => ?_) (fun b5 => ?_)
    · replace h := h.1 b5
      exact TX9_readMember_22 i3 (show 7 % 8 ≠ 1 by decide) h
    · replace h := h.2 b5
      unfold vX9_readMember_16
      refine g_ld (v := cI _) rfl (is_I _) ?_
      refine g_const (v := cI (26)) rfl ?_
      refine g_gt2 i3 ⟨by omega, by omega⟩ (fun b6 => ?_) (fun b6 => ?_)
      · replace h := h.1 b6
        exact TX9_readMember_22 i3 (show 7 % 8 ≠ 1 by decide) h
      · replace h := h.2 b6
        exact TX9_readMember_27 i3 (show 7 % 8 ≠ 1 by decide) h
abbrev PX9_readMember (a1 : Int) (G : gS) (Q : Int → gS → Prop) : Prop := PX9_readMember_0 a1 G Q
theorem TX9_readMember {a1 : Int} {G : gS} {Q : Int → gS → Prop}  (h : PX9_readMember a1 G Q) : Tn W0 FX9_readMember [rf (7), rf (a1)] G (fun r G => ∃ v, r = cI v ∧ (0 ≤ v ∧ v ≤ 1) ∧ Q v G) := by
  unfold FX9_readMember
  refine g_ent (lv' := [rf (7), rf (a1), 7, 7]) (flR (flR fl0)) (Nat.le_of_ble_eq_true rfl) rfl ?_
  exact TX9_readMember_0  h
def PX12_meet_0 (a1 : Int) (a2 : Int) (a3 : Int) (G : gS) (Q : Int → gS → Prop) : Prop :=
  PX12_buildOf a1 a2 G (fun r2 G1 => PX12_hasUse r2 a3 G1 (fun r5 G4 => (0 ≤ r5 ∧ r5 ≤ 1) → ((r5 = 0 → Q (-1) G4) ∧ (¬ (r5 = 0) → PX12_whereUsed a1 a2 a3 G4 (fun r9 G8 => inI r9 → ((r9 < 0 → Q (-2) G8) ∧ (¬ (r9 < 0) → (isO W0 5 (907) ∧ PX5_clear 907 821 G8 (fun _ G13 => (isO W0 11 (821) ∧ ((0 : Int) ≤ r9 ∧ ((r9 : Int) < 64 ∧ (((G13 (821 + 1) r9 = -1 ∨ isO W0 10 (G13 (821 + 1) r9)) ∧ ∀ v, W0.2 (821 + 1) r9 = some v → G13 (821 + 1) r9 = v) → (isO W0 10 (G13 (821 + 1) r9) ∧ (inI (G13 (G13 (821 + 1) r9) 16) → (isO W0 5 (907) ∧ (inI (a3 - (G13 (G13 (821 + 1) r9) 16)) ∧ PX5_ask 907 r9 (a3 - (G13 (G13 (821 + 1) r9) 16)) G13 (fun r24 G23 => inI r24 → Q (r24) G23))))))))))))))))))
set_option maxRecDepth 20000 in
theorem TX12_meet_0 {a1 : Int} {a2 : Int} {a3 : Int} {G : gS} {Q : Int → gS → Prop} (ha1 : inI a1) (ha2 : inI a2) (ha3 : inI a3) (h : PX12_meet_0 a1 a2 a3 G Q) : Tg W0 vX12_meet_0 [rf (0), cI (a1), cI (a2), cI (a3), 7] [] G (fun r G => ∃ v, r = cI v ∧ inI v ∧ Q v G) := by
  unfold PX12_meet_0 at h
  unfold vX12_meet_0
  refine g_ld (v := rf _) rfl (is_R _) ?_
  refine g_ld (v := cI _) rfl (is_I _) ?_
  refine g_ld (v := cI _) rfl (is_I _) ?_
  refine g_callV (As := [_, _]) (ci := 12) oC12 (fun _ => rfl) ?_
  refine g_go1 (Nat.le_of_ble_eq_true rfl) (Tn_w (TX12_buildOf ha1 ha2 h) fun _ G1 ⟨r2, e, h⟩ => ?_)
  subst e
  refine ⟨n7_R _, ?_⟩
  refine g_ld (v := cI _) rfl (is_I _) ?_
  refine g_callS (As := [_, _]) (fun _ => rfl) ?_
  refine g_go1 (Nat.le_of_ble_eq_true rfl) (Tn_w (TX12_hasUse ha3 h) fun _ G4 ⟨r5, e, i6, h⟩ => ?_)
  subst e
  refine ⟨n7_I _, ?_⟩
  replace h := h i6
  refine g_eq1 ⟨by omega, by omega⟩ (fun b7 => ?_) (fun b7 => ?_)
  · replace h := h.1 b7
    unfold vX12_meet_13
    refine g_const (v := cI (-1)) rfl ?_
    exact g_ret1 (is_I _) ⟨_, rfl, ⟨by omega, by omega⟩, h⟩
  · replace h := h.2 b7
    unfold vX12_meet_15
    refine g_ld (v := rf _) rfl (is_R _) ?_
    refine g_ld (v := cI _) rfl (is_I _) ?_
    refine g_ld (v := cI _) rfl (is_I _) ?_
    refine g_ld (v := cI _) rfl (is_I _) ?_
    refine g_callV (As := [_, _, _]) (ci := 12) oC12 (fun _ => rfl) ?_
    refine g_go1 (Nat.le_of_ble_eq_true rfl) (Tn_w (TX12_whereUsed ha1 ha2 ha3 h) fun _ G8 ⟨r9, e, i10, h⟩ => ?_)
    subst e
    refine ⟨n7_I _, ?_⟩
    replace h := h i10
    refine g_st (lv' := [_, _, _, _, _]) (is_I _) (Nat.le_of_ble_eq_true rfl) (Or.inr (n1_I _)) rfl ?_
    refine g_ld (v := cI _) rfl (is_I _) ?_
    refine g_lt1 i10 (fun b11 => ?_) (fun b11 => ?_)
    · replace h := h.1 b11
      unfold vX12_meet_29
      refine g_const (v := cI (-2)) rfl ?_
      exact g_ret1 (is_I _) ⟨_, rfl, ⟨by omega, by omega⟩, h⟩
    · replace h := h.2 b11
      unfold vX12_meet_32
      refine g_ld (v := rf _) rfl (is_R _) ?_
      refine g_getF (v := 907) oC12 (hC12_15) rfl (Nat.le_of_ble_eq_true rfl) (Nat.le_of_ble_eq_true rfl) ?_
      refine g_ld (v := rf _) rfl (is_R _) ?_
      refine g_getF (v := 821) oC12 (hC12_13) rfl (Nat.le_of_ble_eq_true rfl) (Nat.le_of_ble_eq_true rfl) ?_
      obtain ⟨q12, h⟩ := h
      refine g_callV (As := [_]) (ci := 5) q12 (fun _ => rfl) ?_
      refine g_go0 (Nat.le_of_ble_eq_true rfl) (Tn_w (TX5_clear  h) fun _ G13 ⟨e, h⟩ => ⟨e, ?_⟩)
      refine g_ld (v := rf _) rfl (is_R _) ?_
      refine g_getF (v := 907) oC12 (hC12_15) rfl (Nat.le_of_ble_eq_true rfl) (Nat.le_of_ble_eq_true rfl) ?_
      refine g_ld (v := cI _) rfl (is_I _) ?_
      refine g_ld (v := cI _) rfl (is_I _) ?_
      refine g_ld (v := rf _) rfl (is_R _) ?_
      refine g_getF (v := 821) oC12 (hC12_13) rfl (Nat.le_of_ble_eq_true rfl) (Nat.le_of_ble_eq_true rfl) ?_
      obtain ⟨q15, h⟩ := h
      refine g_getF q15 (ff11_1 q15).1 rfl (Nat.le_of_ble_eq_true rfl) (Nat.le_of_ble_eq_true rfl) ?_
      refine g_ld (v := cI _) rfl (is_I _) ?_
      obtain ⟨q16, q17, h⟩ := h
      refine g_aldRF (c := 10) (ff11_1 q15).2 q16 q17 rfl (by decide) fun i18 => ?_
      replace h := h i18
      obtain ⟨q19, h⟩ := h
      refine g_getI (kz := 16) q19 rfl (Nat.le_of_ble_eq_true rfl) rfl fun i20 => ?_
      replace h := h i20
      refine g_sub ?_
      obtain ⟨q21, h⟩ := h
      obtain ⟨q22, h⟩ := h
      refine g_callV (As := [_, _]) (ci := 5) q21 (fun _ => rfl) ?_
      refine g_go1 (Nat.le_of_ble_eq_true rfl) (Tn_w (TX5_ask i10 q22 h) fun _ G23 ⟨r24, e, i25, h⟩ => ?_)
      subst e
      refine ⟨n7_I _, ?_⟩
      replace h := h i25
      exact g_ret1 (is_I _) ⟨_, rfl, i25, h⟩
abbrev PX12_meet (a1 : Int) (a2 : Int) (a3 : Int) (G : gS) (Q : Int → gS → Prop) : Prop := PX12_meet_0 a1 a2 a3 G Q
theorem TX12_meet {a1 : Int} {a2 : Int} {a3 : Int} {G : gS} {Q : Int → gS → Prop} (ha1 : inI a1) (ha2 : inI a2) (ha3 : inI a3) (h : PX12_meet a1 a2 a3 G Q) : Tn W0 FX12_meet [rf (0), cI (a1), cI (a2), cI (a3)] G (fun r G => ∃ v, r = cI v ∧ inI v ∧ Q v G) := by
  unfold FX12_meet
  refine g_ent (lv' := [rf (0), cI (a1), cI (a2), cI (a3), 7]) (flR (flI (flI (flI fl0)))) (Nat.le_of_ble_eq_true rfl) rfl ?_
  exact TX12_meet_0 ha1 ha2 ha3 h
def PX12_stale_127 (J : Nat → List Int → gS → (Int → gS → Prop) → Prop) (l1 : Int) (l2 : Int) (l3 : Int) (l4 : Int) (G : gS) (Q : Int → gS → Prop) : Prop :=
  (inI (l2 + 1) ∧ J 0 [l1, l2 + 1] G Q)
set_option maxRecDepth 20000 in
theorem TX12_stale_127 {j : Nat → rx_K} {J : Nat → List Int → gS → (Int → gS → Prop) → Prop} {l1 : Int} {l2 : Int} {l3 : Int} {l4 : Int} {l5 : Nat} {G : gS} {Q : Int → gS → Prop} (hl1 : inI l1) (hl2 : inI l2) (hl4 : inI l4) (hl5 : l5 % 8 ≠ 1) (hj0 : ∀ (l1 : Int) (l2 : Int) (l3 : Nat) (l4 : Nat) (l5 : Nat) (G : gS), (inI l1) → (inI l2) → (l3 % 8 ≠ 1) → (l4 % 8 ≠ 1) → (l5 % 8 ≠ 1) → J 0 [l1, l2] G Q → Tg W0 (j 0) [rf (0), cI (l1), cI (l2), l3, l4, l5] [] G (fun r G => ∃ v, r = cI v ∧ inI v ∧ Q v G)) (hj1 : ∀ (l1 : Int) (l2 : Int) (l3 : Int) (l4 : Int) (l5 : Nat) (G : gS), (inI l1) → (inI l2) → (inI l4) → (l5 % 8 ≠ 1) → J 1 [l1, l2, l3, l4] G Q → Tg W0 (j 1) [rf (0), cI (l1), cI (l2), rf (l3), cI (l4), l5] [] G (fun r G => ∃ v, r = cI v ∧ inI v ∧ Q v G)) (h : PX12_stale_127 J l1 l2 l3 l4 G Q) : Tg W0 (vX12_stale_127 j) [rf (0), cI (l1), cI (l2), rf (l3), cI (l4), l5] [] G (fun r G => ∃ v, r = cI v ∧ inI v ∧ Q v G) := by
  unfold PX12_stale_127 at h
  unfold vX12_stale_127
  refine g_inc (lv' := [_, _, _, _, _, _]) rfl (Nat.le_of_ble_eq_true rfl) (Or.inr (n1_I _)) rfl ?_
  obtain ⟨q28, h⟩ := h
  exact hj0 _ _ _ _ _ _ hl1 q28 (n1_R _) (n1_I _) hl5 h
def PX12_stale_119 (J : Nat → List Int → gS → (Int → gS → Prop) → Prop) (l1 : Int) (l2 : Int) (l3 : Int) (l4 : Int) (l5 : Int) (s0 : Int) (s1 : Int) (G : gS) (Q : Int → gS → Prop) : Prop :=
  (inI (s0 + s1) ∧ (inI (l4 + 1) ∧ J 1 [s0 + s1, l2, l3, l4 + 1] G Q))
set_option maxRecDepth 20000 in
theorem TX12_stale_119 {j : Nat → rx_K} {J : Nat → List Int → gS → (Int → gS → Prop) → Prop} {l1 : Int} {l2 : Int} {l3 : Int} {l4 : Int} {l5 : Int} {s0 : Int} {s1 : Int} {G : gS} {Q : Int → gS → Prop} (hl1 : inI l1) (hl2 : inI l2) (hl4 : inI l4) (hl5 : inI l5) (hs0 : inI s0) (hs1 : inI s1) (hj0 : ∀ (l1 : Int) (l2 : Int) (l3 : Nat) (l4 : Nat) (l5 : Nat) (G : gS), (inI l1) → (inI l2) → (l3 % 8 ≠ 1) → (l4 % 8 ≠ 1) → (l5 % 8 ≠ 1) → J 0 [l1, l2] G Q → Tg W0 (j 0) [rf (0), cI (l1), cI (l2), l3, l4, l5] [] G (fun r G => ∃ v, r = cI v ∧ inI v ∧ Q v G)) (hj1 : ∀ (l1 : Int) (l2 : Int) (l3 : Int) (l4 : Int) (l5 : Nat) (G : gS), (inI l1) → (inI l2) → (inI l4) → (l5 % 8 ≠ 1) → J 1 [l1, l2, l3, l4] G Q → Tg W0 (j 1) [rf (0), cI (l1), cI (l2), rf (l3), cI (l4), l5] [] G (fun r G => ∃ v, r = cI v ∧ inI v ∧ Q v G)) (h : PX12_stale_119 J l1 l2 l3 l4 l5 s0 s1 G Q) : Tg W0 (vX12_stale_119 j) [rf (0), cI (l1), cI (l2), rf (l3), cI (l4), cI (l5)] [cI (s1), cI (s0)] G (fun r G => ∃ v, r = cI v ∧ inI v ∧ Q v G) := by
  unfold PX12_stale_119 at h
  unfold vX12_stale_119
  refine g_add ?_
  refine g_st (lv' := [_, _, _, _, _, _]) (is_I _) (Nat.le_of_ble_eq_true rfl) (Or.inr (n1_R _)) rfl ?_
  obtain ⟨q42, h⟩ := h
  refine g_inc (lv' := [_, _, _, _, _, _]) rfl (Nat.le_of_ble_eq_true rfl) (Or.inr (n1_R _)) rfl ?_
  obtain ⟨q43, h⟩ := h
  exact hj1 _ _ _ _ _ _ q42 hl2 q43 (n1_I _) h
def PX12_stale_118 (J : Nat → List Int → gS → (Int → gS → Prop) → Prop) (l1 : Int) (l2 : Int) (l3 : Int) (l4 : Int) (l5 : Int) (s0 : Int) (G : gS) (Q : Int → gS → Prop) : Prop :=
  PX12_stale_119 J l1 l2 l3 l4 l5 s0 0 G Q
set_option maxRecDepth 20000 in
theorem TX12_stale_118 {j : Nat → rx_K} {J : Nat → List Int → gS → (Int → gS → Prop) → Prop} {l1 : Int} {l2 : Int} {l3 : Int} {l4 : Int} {l5 : Int} {s0 : Int} {G : gS} {Q : Int → gS → Prop} (hl1 : inI l1) (hl2 : inI l2) (hl4 : inI l4) (hl5 : inI l5) (hs0 : inI s0) (hj0 : ∀ (l1 : Int) (l2 : Int) (l3 : Nat) (l4 : Nat) (l5 : Nat) (G : gS), (inI l1) → (inI l2) → (l3 % 8 ≠ 1) → (l4 % 8 ≠ 1) → (l5 % 8 ≠ 1) → J 0 [l1, l2] G Q → Tg W0 (j 0) [rf (0), cI (l1), cI (l2), l3, l4, l5] [] G (fun r G => ∃ v, r = cI v ∧ inI v ∧ Q v G)) (hj1 : ∀ (l1 : Int) (l2 : Int) (l3 : Int) (l4 : Int) (l5 : Nat) (G : gS), (inI l1) → (inI l2) → (inI l4) → (l5 % 8 ≠ 1) → J 1 [l1, l2, l3, l4] G Q → Tg W0 (j 1) [rf (0), cI (l1), cI (l2), rf (l3), cI (l4), l5] [] G (fun r G => ∃ v, r = cI v ∧ inI v ∧ Q v G)) (h : PX12_stale_118 J l1 l2 l3 l4 l5 s0 G Q) : Tg W0 (vX12_stale_118 j) [rf (0), cI (l1), cI (l2), rf (l3), cI (l4), cI (l5)] [cI (s0)] G (fun r G => ∃ v, r = cI v ∧ inI v ∧ Q v G) := by
  unfold PX12_stale_118 at h
  unfold vX12_stale_118
  refine g_const (v := cI (0)) rfl ?_
  exact TX12_stale_119 hl1 hl2 hl4 hl5 hs0 ⟨by omega, by omega⟩ hj0 hj1 h
def PX12_stale_78 (J : Nat → List Int → gS → (Int → gS → Prop) → Prop) (l1 : Int) (l2 : Int) (l3 : Int) (l4 : Int) (s0 : Int) (G : gS) (Q : Int → gS → Prop) : Prop :=
  ((s0 < 0 → PX12_stale_118 J l1 l2 l3 l4 s0 l1 G Q) ∧ (¬ (s0 < 0) → (isO W0 11 (821) ∧ ((0 : Int) ≤ s0 ∧ ((s0 : Int) < 64 ∧ (((G (821 + 1) s0 = -1 ∨ isO W0 10 (G (821 + 1) s0)) ∧ ∀ v, W0.2 (821 + 1) s0 = some v → G (821 + 1) s0 = v) → (isO W0 10 (G (821 + 1) s0) ∧ (inI (G (G (821 + 1) s0) 16) → (isO W0 5 (920) ∧ (inI (l4 - (G (G (821 + 1) s0) 16)) ∧ PX5_ask 920 s0 (l4 - (G (G (821 + 1) s0) 16)) G (fun r39 G38 => inI r39 → ((r39 = 0 → PX12_stale_118 J l1 l2 l3 l4 s0 l1 G38 Q) ∧ (¬ (r39 = 0) → PX12_stale_119 J l1 l2 l3 l4 s0 l1 1 G38 Q)))))))))))))
set_option maxRecDepth 20000 in
theorem TX12_stale_78 {j : Nat → rx_K} {J : Nat → List Int → gS → (Int → gS → Prop) → Prop} {l1 : Int} {l2 : Int} {l3 : Int} {l4 : Int} {l5 : Nat} {s0 : Int} {G : gS} {Q : Int → gS → Prop} (hl1 : inI l1) (hl2 : inI l2) (hl4 : inI l4) (hl5 : l5 % 8 ≠ 1) (hs0 : inI s0) (hj0 : ∀ (l1 : Int) (l2 : Int) (l3 : Nat) (l4 : Nat) (l5 : Nat) (G : gS), (inI l1) → (inI l2) → (l3 % 8 ≠ 1) → (l4 % 8 ≠ 1) → (l5 % 8 ≠ 1) → J 0 [l1, l2] G Q → Tg W0 (j 0) [rf (0), cI (l1), cI (l2), l3, l4, l5] [] G (fun r G => ∃ v, r = cI v ∧ inI v ∧ Q v G)) (hj1 : ∀ (l1 : Int) (l2 : Int) (l3 : Int) (l4 : Int) (l5 : Nat) (G : gS), (inI l1) → (inI l2) → (inI l4) → (l5 % 8 ≠ 1) → J 1 [l1, l2, l3, l4] G Q → Tg W0 (j 1) [rf (0), cI (l1), cI (l2), rf (l3), cI (l4), l5] [] G (fun r G => ∃ v, r = cI v ∧ inI v ∧ Q v G)) (h : PX12_stale_78 J l1 l2 l3 l4 s0 G Q) : Tg W0 (vX12_stale_78 j) [rf (0), cI (l1), cI (l2), rf (l3), cI (l4), l5] [cI (s0)] G (fun r G => ∃ v, r = cI v ∧ inI v ∧ Q v G) := by
  unfold PX12_stale_78 at h
  unfold vX12_stale_78
  refine g_st (lv' := [_, _, _, _, _, _]) (is_I _) (Nat.le_of_ble_eq_true rfl) (Or.inr (n1_I _)) rfl ?_
  refine g_ld (v := cI _) rfl (is_I _) ?_
  refine g_ld (v := cI _) rfl (is_I _) ?_
  refine g_lt1 hs0 (fun b29 => ?_) (fun b29 => ?_)
  · replace h := h.1 b29
    exact TX12_stale_118 hl1 hl2 hl4 hs0 hl1 hj0 hj1 h
  · replace h := h.2 b29
    unfold vX12_stale_86
    refine g_ld (v := rf _) rfl (is_R _) ?_
    refine g_getF (v := 920) oC12 (hC12_16) rfl (Nat.le_of_ble_eq_true rfl) (Nat.le_of_ble_eq_true rfl) ?_
    refine g_ld (v := cI _) rfl (is_I _) ?_
    refine g_ld (v := cI _) rfl (is_I _) ?_
    refine g_ld (v := rf _) rfl (is_R _) ?_
    refine g_getF (v := 821) oC12 (hC12_13) rfl (Nat.le_of_ble_eq_true rfl) (Nat.le_of_ble_eq_true rfl) ?_
    obtain ⟨q30, h⟩ := h
    refine g_getF q30 (ff11_1 q30).1 rfl (Nat.le_of_ble_eq_true rfl) (Nat.le_of_ble_eq_true rfl) ?_
    refine g_ld (v := cI _) rfl (is_I _) ?_
    obtain ⟨q31, q32, h⟩ := h
    refine g_aldRF (c := 10) (ff11_1 q30).2 q31 q32 rfl (by decide) fun i33 => ?_
    replace h := h i33
    obtain ⟨q34, h⟩ := h
    refine g_getI (kz := 16) q34 rfl (Nat.le_of_ble_eq_true rfl) rfl fun i35 => ?_
    replace h := h i35
    refine g_sub ?_
    obtain ⟨q36, h⟩ := h
    obtain ⟨q37, h⟩ := h
    refine g_callV (As := [_, _]) (ci := 5) q36 (fun _ => rfl) ?_
    refine g_go1 (by simp only [cs_c, cs_0, ct_I, ct_L, ct_R]; exact Nat.le_of_ble_eq_true rfl) (Tn_w (TX5_ask hs0 q37 h) fun _ G38 ⟨r39, e, i40, h⟩ => ?_)
    subst e
    refine ⟨n7_I _, ?_⟩
    replace h := h i40
    refine g_eq1 i40 (fun b41 => ?_) (fun b41 => ?_)
    · replace h := h.1 b41
      exact TX12_stale_118 hl1 hl2 hl4 hs0 hl1 hj0 hj1 h
    · replace h := h.2 b41
      unfold vX12_stale_114
      refine g_const (v := cI (1)) rfl ?_
      exact TX12_stale_119 hl1 hl2 hl4 hs0 hl1 ⟨by omega, by omega⟩ hj0 hj1 h
def PX12_stale_35 (J : Nat → List Int → gS → (Int → gS → Prop) → Prop) (l1 : Int) (l2 : Int) (l3 : Int) (l4 : Int) (G : gS) (Q : Int → gS → Prop) : Prop :=
  ((l3 < 0 → PX12_stale_127 J l1 l2 l3 l4 G Q) ∧ (0 ≤ l3 → (isO W0 1 (l3) ∧ (inI (G l3 15) → ((l4 < G l3 15 → (((G l3 10 = -1 ∨ ∃ n, isA W0 0 n (G l3 10)) ∧ ∀ v, W0.2 l3 10 = some v → G l3 10 = v) → (∃ n16, isA W0 0 n16 (G l3 10) ∧ ((0 : Int) ≤ l4 ∧ ((l4 : Int) < n16 ∧ (inI (G (G l3 10) l4) → ((G (G l3 10) l4 = 16 → ((0 : Int) ≤ l2 ∧ ((l2 : Int) < 5 ∧ (inI (G 5 l2) → PX12_whereUsed l2 (G 5 l2) l4 G (fun r26 G25 => inI r26 → PX12_stale_78 J l1 l2 l3 l4 r26 G25 Q))))) ∧ (¬ (G (G l3 10) l4 = 16) → PX12_stale_78 J l1 l2 l3 l4 (-2) G Q)))))))) ∧ (¬ (l4 < G l3 15) → PX12_stale_127 J l1 l2 l3 l4 G Q))))))
set_option maxRecDepth 20000 in
theorem TX12_stale_35 {j : Nat → rx_K} {J : Nat → List Int → gS → (Int → gS → Prop) → Prop} {l1 : Int} {l2 : Int} {l3 : Int} {l4 : Int} {l5 : Nat} {G : gS} {Q : Int → gS → Prop} (hl1 : inI l1) (hl2 : inI l2) (hl4 : inI l4) (hl5 : l5 % 8 ≠ 1) (hj0 : ∀ (l1 : Int) (l2 : Int) (l3 : Nat) (l4 : Nat) (l5 : Nat) (G : gS), (inI l1) → (inI l2) → (l3 % 8 ≠ 1) → (l4 % 8 ≠ 1) → (l5 % 8 ≠ 1) → J 0 [l1, l2] G Q → Tg W0 (j 0) [rf (0), cI (l1), cI (l2), l3, l4, l5] [] G (fun r G => ∃ v, r = cI v ∧ inI v ∧ Q v G)) (hj1 : ∀ (l1 : Int) (l2 : Int) (l3 : Int) (l4 : Int) (l5 : Nat) (G : gS), (inI l1) → (inI l2) → (inI l4) → (l5 % 8 ≠ 1) → J 1 [l1, l2, l3, l4] G Q → Tg W0 (j 1) [rf (0), cI (l1), cI (l2), rf (l3), cI (l4), l5] [] G (fun r G => ∃ v, r = cI v ∧ inI v ∧ Q v G)) (h : PX12_stale_35 J l1 l2 l3 l4 G Q) : Tg W0 (vX12_stale_35 j) [rf (0), cI (l1), cI (l2), rf (l3), cI (l4), l5] [] G (fun r G => ∃ v, r = cI v ∧ inI v ∧ Q v G) := by
  unfold PX12_stale_35 at h
  unfold vX12_stale_35
  refine g_ld (v := rf _) rfl (is_R _) ?_
  refine g_nul (fun b11 => ?_) (fun b11 => ?_)
  · replace h := h.1 b11
    exact TX12_stale_127 hl1 hl2 hl4 hl5 hj0 hj1 h
  · replace h := h.2 b11
    unfold vX12_stale_39
    refine g_ld (v := cI _) rfl (is_I _) ?_
    refine g_ld (v := rf _) rfl (is_R _) ?_
    obtain ⟨q12, h⟩ := h
    refine g_getI (kz := 15) q12 rfl (Nat.le_of_ble_eq_true rfl) rfl fun i13 => ?_
    replace h := h i13
    refine g_lt2 hl4 i13 (fun b14 => ?_) (fun b14 => ?_)
    · replace h := h.1 b14
      unfold vX12_stale_48
      refine g_ld (v := rf _) rfl (is_R _) ?_
      refine g_getAF (kz := 10) (c := 0) q12 rfl (Nat.le_of_ble_eq_true rfl) rfl fun i15 => ?_
      replace h := h i15
      refine g_ld (v := cI _) rfl (is_I _) ?_
      obtain ⟨n16, q17, h⟩ := h
      obtain ⟨q18, q19, h⟩ := h
      refine g_aldI q17 q18 q19 rfl fun i20 => ?_
      replace h := h i20
      refine g_const (v := cI (16)) rfl ?_
      refine g_eq2 i20 ⟨by omega, by omega⟩ (fun b21 => ?_) (fun b21 => ?_)
      · replace h := h.1 b21
        unfold vX12_stale_60
        refine g_ld (v := rf _) rfl (is_R _) ?_
        refine g_ld (v := cI _) rfl (is_I _) ?_
        refine g_ld (v := rf _) rfl (is_R _) ?_
        refine g_getF (v := 5) oC12 (hC12_6) rfl (Nat.le_of_ble_eq_true rfl) (Nat.le_of_ble_eq_true rfl) ?_
        refine g_ld (v := cI _) rfl (is_I _) ?_
        obtain ⟨q22, q23, h⟩ := h
        refine g_aldI aC5 q22 q23 rfl fun i24 => ?_
        replace h := h i24
        refine g_ld (v := cI _) rfl (is_I _) ?_
        refine g_callV (As := [_, _, _]) (ci := 12) oC12 (fun _ => rfl) ?_
        refine g_go1 (Nat.le_of_ble_eq_true rfl) (Tn_w (TX12_whereUsed hl2 i24 hl4 h) fun _ G25 ⟨r26, e, i27, h⟩ => ?_)
        subst e
        refine ⟨n7_I _, ?_⟩
        replace h := h i27
        exact TX12_stale_78 hl1 hl2 hl4 hl5 i27 hj0 hj1 h
      · replace h := h.2 b21
        unfold vX12_stale_76
        refine g_const (v := cI (-2)) rfl ?_
        exact TX12_stale_78 hl1 hl2 hl4 hl5 ⟨by omega, by omega⟩ hj0 hj1 h
    · replace h := h.2 b14
      exact TX12_stale_127 hl1 hl2 hl4 hl5 hj0 hj1 h
def PX12_stale_15 (J : Nat → List Int → gS → (Int → gS → Prop) → Prop) (l1 : Int) (l2 : Int) (G : gS) (Q : Int → gS → Prop) : Prop :=
  ((l2 < 5 → ((0 : Int) ≤ l2 ∧ ((l2 : Int) < 5 ∧ (inI (G 5 l2) → PX12_buildOf l2 (G 5 l2) G (fun r9 G8 => PX12_stale_35 J l1 l2 r9 0 G8 Q))))) ∧ (¬ (l2 < 5) → Q (l1) G))
set_option maxRecDepth 20000 in
theorem TX12_stale_15 {j : Nat → rx_K} {J : Nat → List Int → gS → (Int → gS → Prop) → Prop} {l1 : Int} {l2 : Int} {l3 : Nat} {l4 : Nat} {l5 : Nat} {G : gS} {Q : Int → gS → Prop} (hl1 : inI l1) (hl2 : inI l2) (hl3 : l3 % 8 ≠ 1) (hl4 : l4 % 8 ≠ 1) (hl5 : l5 % 8 ≠ 1) (hj0 : ∀ (l1 : Int) (l2 : Int) (l3 : Nat) (l4 : Nat) (l5 : Nat) (G : gS), (inI l1) → (inI l2) → (l3 % 8 ≠ 1) → (l4 % 8 ≠ 1) → (l5 % 8 ≠ 1) → J 0 [l1, l2] G Q → Tg W0 (j 0) [rf (0), cI (l1), cI (l2), l3, l4, l5] [] G (fun r G => ∃ v, r = cI v ∧ inI v ∧ Q v G)) (hj1 : ∀ (l1 : Int) (l2 : Int) (l3 : Int) (l4 : Int) (l5 : Nat) (G : gS), (inI l1) → (inI l2) → (inI l4) → (l5 % 8 ≠ 1) → J 1 [l1, l2, l3, l4] G Q → Tg W0 (j 1) [rf (0), cI (l1), cI (l2), rf (l3), cI (l4), l5] [] G (fun r G => ∃ v, r = cI v ∧ inI v ∧ Q v G)) (h : PX12_stale_15 J l1 l2 G Q) : Tg W0 (vX12_stale_15 j) [rf (0), cI (l1), cI (l2), l3, l4, l5] [] G (fun r G => ∃ v, r = cI v ∧ inI v ∧ Q v G) := by
  unfold PX12_stale_15 at h
  unfold vX12_stale_15
  refine g_ld (v := cI _) rfl (is_I _) ?_
  refine g_const (v := cI (5)) rfl ?_
  refine g_lt2 hl2 ⟨by omega, by omega⟩ (fun b4 => ?_) (fun b4 => ?_)
  · replace h := h.1 b4
    unfold vX12_stale_20
    refine g_ld (v := rf _) rfl (is_R _) ?_
    refine g_ld (v := cI _) rfl (is_I _) ?_
    refine g_ld (v := rf _) rfl (is_R _) ?_
    refine g_getF (v := 5) oC12 (hC12_6) rfl (Nat.le_of_ble_eq_true rfl) (Nat.le_of_ble_eq_true rfl) ?_
    refine g_ld (v := cI _) rfl (is_I _) ?_
    obtain ⟨q5, q6, h⟩ := h
    refine g_aldI aC5 q5 q6 rfl fun i7 => ?_
    replace h := h i7
    refine g_callV (As := [_, _]) (ci := 12) oC12 (fun _ => rfl) ?_
    refine g_go1 (Nat.le_of_ble_eq_true rfl) (Tn_w (TX12_buildOf hl2 i7 h) fun _ G8 ⟨r9, e, h⟩ => ?_)
    subst e
    refine ⟨n7_R _, ?_⟩
    refine g_st (lv' := [_, _, _, _, _, _]) (is_R _) (Nat.le_of_ble_eq_true rfl) (Or.inr (n1_I _)) rfl ?_
    refine g_const (v := cI (0)) rfl ?_
    refine g_st (lv' := [_, _, _, _, _, _]) (is_I _) (Nat.le_of_ble_eq_true rfl) (Or.inr (n1_R _)) rfl ?_
    exact TX12_stale_35 hl1 hl2 ⟨by omega, by omega⟩ hl5 hj0 hj1 h
  · replace h := h.2 b4
    unfold vX12_stale_133
    refine g_ld (v := cI _) rfl (is_I _) ?_
    exact g_ret1 (is_I _) ⟨_, rfl, hl1, h⟩
def PX12_stale_0 (J : Nat → List Int → gS → (Int → gS → Prop) → Prop)  (G : gS) (Q : Int → gS → Prop) : Prop :=
  (isO W0 5 (920) ∧ PX5_clear 920 821 G (fun _ G2 => PX12_stale_15 J 0 0 G2 Q))
set_option maxRecDepth 20000 in
theorem TX12_stale_0 {j : Nat → rx_K} {J : Nat → List Int → gS → (Int → gS → Prop) → Prop}  {G : gS} {Q : Int → gS → Prop}  (hj0 : ∀ (l1 : Int) (l2 : Int) (l3 : Nat) (l4 : Nat) (l5 : Nat) (G : gS), (inI l1) → (inI l2) → (l3 % 8 ≠ 1) → (l4 % 8 ≠ 1) → (l5 % 8 ≠ 1) → J 0 [l1, l2] G Q → Tg W0 (j 0) [rf (0), cI (l1), cI (l2), l3, l4, l5] [] G (fun r G => ∃ v, r = cI v ∧ inI v ∧ Q v G)) (hj1 : ∀ (l1 : Int) (l2 : Int) (l3 : Int) (l4 : Int) (l5 : Nat) (G : gS), (inI l1) → (inI l2) → (inI l4) → (l5 % 8 ≠ 1) → J 1 [l1, l2, l3, l4] G Q → Tg W0 (j 1) [rf (0), cI (l1), cI (l2), rf (l3), cI (l4), l5] [] G (fun r G => ∃ v, r = cI v ∧ inI v ∧ Q v G)) (h : PX12_stale_0 J  G Q) : Tg W0 (vX12_stale_0 j) [rf (0), 7, 7, 7, 7, 7] [] G (fun r G => ∃ v, r = cI v ∧ inI v ∧ Q v G) := by
  unfold PX12_stale_0 at h
  unfold vX12_stale_0
  refine g_const (v := cI (0)) rfl ?_
  refine g_st (lv' := [_, _, _, _, _, _]) (is_I _) (Nat.le_of_ble_eq_true rfl) (Or.inr (n1_R _)) rfl ?_
  refine g_ld (v := rf _) rfl (is_R _) ?_
  refine g_getF (v := 920) oC12 (hC12_16) rfl (Nat.le_of_ble_eq_true rfl) (Nat.le_of_ble_eq_true rfl) ?_
  refine g_ld (v := rf _) rfl (is_R _) ?_
  refine g_getF (v := 821) oC12 (hC12_13) rfl (Nat.le_of_ble_eq_true rfl) (Nat.le_of_ble_eq_true rfl) ?_
  obtain ⟨q1, h⟩ := h
  refine g_callV (As := [_]) (ci := 5) q1 (fun _ => rfl) ?_
  refine g_go0 (Nat.le_of_ble_eq_true rfl) (Tn_w (TX5_clear  h) fun _ G2 ⟨e, h⟩ => ⟨e, ?_⟩)
  refine g_const (v := cI (0)) rfl ?_
  refine g_st (lv' := [_, _, _, _, _, _]) (is_I _) (Nat.le_of_ble_eq_true rfl) (Or.inr (n1_I _)) rfl ?_
  exact TX12_stale_15 ⟨by omega, by omega⟩ ⟨by omega, by omega⟩ (show 7 % 8 ≠ 1 by decide) (show 7 % 8 ≠ 1 by decide) (show 7 % 8 ≠ 1 by decide) hj0 hj1 h
def PX12_stale_J : Nat → Nat → List Int → gS → (Int → gS → Prop) → Prop
  | 0, _, _, _, _ => False
  | f + 1, h, L, G, Q => match h, L with
    | 0, [l1, l2] => PX12_stale_15 (PX12_stale_J f) l1 l2 G Q
    | 1, [l1, l2, l3, l4] => PX12_stale_35 (PX12_stale_J f) l1 l2 l3 l4 G Q
    | _, _ => False
theorem TX12_stale_J {Q : Int → gS → Prop} : ∀ f N : Nat, f ≤ N → (∀ (l1 : Int) (l2 : Int) (l3 : Nat) (l4 : Nat) (l5 : Nat) (G : gS), (inI l1) → (inI l2) → (l3 % 8 ≠ 1) → (l4 % 8 ≠ 1) → (l5 % 8 ≠ 1) → (PX12_stale_J f) 0 [l1, l2] G Q → Tg W0 (rx_J vhX12_stale N 0) [rf (0), cI (l1), cI (l2), l3, l4, l5] [] G (fun r G => ∃ v, r = cI v ∧ inI v ∧ Q v G)) ∧ (∀ (l1 : Int) (l2 : Int) (l3 : Int) (l4 : Int) (l5 : Nat) (G : gS), (inI l1) → (inI l2) → (inI l4) → (l5 % 8 ≠ 1) → (PX12_stale_J f) 1 [l1, l2, l3, l4] G Q → Tg W0 (rx_J vhX12_stale N 1) [rf (0), cI (l1), cI (l2), rf (l3), cI (l4), l5] [] G (fun r G => ∃ v, r = cI v ∧ inI v ∧ Q v G)) := by
  intro f
  induction f with
  | zero => exact fun N _ => ⟨fun _ _ _ _ _ _ _ _ _ _ _ h => h.elim, fun _ _ _ _ _ _ _ _ _ _ h => h.elim⟩
  | succ f ih =>
    intro N hN
    obtain ⟨M, rfl⟩ : ∃ M, N = M + 1 := ⟨N - 1, by omega⟩
    have ih := ih M (by omega)
    exact ⟨fun _ _ _ _ _ _ hl1 hl2 hl3 hl4 hl5 h => show Tg W0 (vX12_stale_15 (rx_J vhX12_stale M)) _ _ _ _ from TX12_stale_15 hl1 hl2 hl3 hl4 hl5 ih.1 ih.2 h, fun _ _ _ _ _ _ hl1 hl2 hl4 hl5 h => show Tg W0 (vX12_stale_35 (rx_J vhX12_stale M)) _ _ _ _ from TX12_stale_35 hl1 hl2 hl4 hl5 ih.1 ih.2 h⟩
def PX12_stale  (G : gS) (Q : Int → gS → Prop) : Prop := ∃ f : Nat, f ≤ 4000000000 ∧ PX12_stale_0 (PX12_stale_J f)  G Q
theorem TX12_stale  {G : gS} {Q : Int → gS → Prop}  (h : PX12_stale  G Q) : Tn W0 FX12_stale [rf (0)] G (fun r G => ∃ v, r = cI v ∧ inI v ∧ Q v G) := by
  obtain ⟨f, hf, h⟩ := h
  have hJ := TX12_stale_J (Q := Q) f 4000000000 hf
  unfold FX12_stale
  refine g_ent (lv' := [rf (0), 7, 7, 7, 7, 7]) (flR fl0) (Nat.le_of_ble_eq_true rfl) rfl ?_
  exact TX12_stale_0  hJ.1 hJ.2 h
def PX12_fresh_35 (J : Nat → List Int → gS → (Int → gS → Prop) → Prop) (l1 : Int) (l2 : Int) (s0 : Int) (s1 : Int) (G : gS) (Q : Int → gS → Prop) : Prop :=
  (inI (s0 + s1) ∧ (inI (l2 + 1) ∧ J 0 [s0 + s1, l2 + 1] G Q))
set_option maxRecDepth 20000 in
theorem TX12_fresh_35 {j : Nat → rx_K} {J : Nat → List Int → gS → (Int → gS → Prop) → Prop} {l1 : Int} {l2 : Int} {s0 : Int} {s1 : Int} {G : gS} {Q : Int → gS → Prop} (hl1 : inI l1) (hl2 : inI l2) (hs0 : inI s0) (hs1 : inI s1) (hj0 : ∀ (l1 : Int) (l2 : Int) (G : gS), (inI l1) → (inI l2) → J 0 [l1, l2] G Q → Tg W0 (j 0) [rf (0), cI (l1), cI (l2)] [] G (fun r G => ∃ v, r = cI v ∧ inI v ∧ Q v G)) (h : PX12_fresh_35 J l1 l2 s0 s1 G Q) : Tg W0 (vX12_fresh_35 j) [rf (0), cI (l1), cI (l2)] [cI (s1), cI (s0)] G (fun r G => ∃ v, r = cI v ∧ inI v ∧ Q v G) := by
  unfold PX12_fresh_35 at h
  unfold vX12_fresh_35
  refine g_add ?_
  refine g_st (lv' := [_, _, _]) (is_I _) (Nat.le_of_ble_eq_true rfl) (Or.inr (n1_R _)) rfl ?_
  obtain ⟨q11, h⟩ := h
  refine g_inc (lv' := [_, _, _]) rfl (Nat.le_of_ble_eq_true rfl) (Or.inr (n1_I _)) rfl ?_
  obtain ⟨q12, h⟩ := h
  exact hj0 _ _ _ q11 q12 h
def PX12_fresh_4 (J : Nat → List Int → gS → (Int → gS → Prop) → Prop) (l1 : Int) (l2 : Int) (G : gS) (Q : Int → gS → Prop) : Prop :=
  (isO W0 11 (821) ∧ (inI (G 821 2) → ((l2 < G 821 2 → (isO W0 5 (939) ∧ PX5_isLoaded 939 l2 G (fun r6 G5 => (0 ≤ r6 ∧ r6 ≤ 1) → ((r6 = 0 → PX12_fresh_35 J l1 l2 l1 0 G5 Q) ∧ (¬ (r6 = 0) → PX12_fresh_35 J l1 l2 l1 1 G5 Q))))) ∧ (¬ (l2 < G 821 2) → PX6_clear 821 G (fun _ G9 => Q (l1) G9)))))
set_option maxRecDepth 20000 in
theorem TX12_fresh_4 {j : Nat → rx_K} {J : Nat → List Int → gS → (Int → gS → Prop) → Prop} {l1 : Int} {l2 : Int} {G : gS} {Q : Int → gS → Prop} (hl1 : inI l1) (hl2 : inI l2) (hj0 : ∀ (l1 : Int) (l2 : Int) (G : gS), (inI l1) → (inI l2) → J 0 [l1, l2] G Q → Tg W0 (j 0) [rf (0), cI (l1), cI (l2)] [] G (fun r G => ∃ v, r = cI v ∧ inI v ∧ Q v G)) (h : PX12_fresh_4 J l1 l2 G Q) : Tg W0 (vX12_fresh_4 j) [rf (0), cI (l1), cI (l2)] [] G (fun r G => ∃ v, r = cI v ∧ inI v ∧ Q v G) := by
  unfold PX12_fresh_4 at h
  unfold vX12_fresh_4
  refine g_ld (v := cI _) rfl (is_I _) ?_
  refine g_ld (v := rf _) rfl (is_R _) ?_
  refine g_getF (v := 821) oC12 (hC12_13) rfl (Nat.le_of_ble_eq_true rfl) (Nat.le_of_ble_eq_true rfl) ?_
  obtain ⟨q1, h⟩ := h
  refine g_getI (kz := 2) q1 rfl (Nat.le_of_ble_eq_true rfl) rfl fun i2 => ?_
  replace h := h i2
  refine g_lt2 hl2 i2 (fun b3 => ?_) (fun b3 => ?_)
  · replace h := h.1 b3
    unfold vX12_fresh_15
    refine g_ld (v := cI _) rfl (is_I _) ?_
    refine g_ld (v := rf _) rfl (is_R _) ?_
    refine g_getF (v := 938) oC12 (hC12_20) rfl (Nat.le_of_ble_eq_true rfl) (Nat.le_of_ble_eq_true rfl) ?_
    refine g_getF (v := 939) oC6 (hC6_1) rfl (Nat.le_of_ble_eq_true rfl) (Nat.le_of_ble_eq_true rfl) ?_
    refine g_ld (v := cI _) rfl (is_I _) ?_
    obtain ⟨q4, h⟩ := h
    refine g_callV (As := [_]) (ci := 5) q4 (fun _ => rfl) ?_
    refine g_go1 (by simp only [cs_c, cs_0, ct_I, ct_L, ct_R]; exact Nat.le_of_ble_eq_true rfl) (Tn_w (TX5_isLoaded hl2 h) fun _ G5 ⟨r6, e, i7, h⟩ => ?_)
    subst e
    refine ⟨n7_I _, ?_⟩
    replace h := h i7
    refine g_eq1 ⟨by omega, by omega⟩ (fun b8 => ?_) (fun b8 => ?_)
    · replace h := h.1 b8
      unfold vX12_fresh_34
      refine g_const (v := cI (0)) rfl ?_
      exact TX12_fresh_35 hl1 hl2 hl1 ⟨by omega, by omega⟩ hj0 h
    · replace h := h.2 b8
      unfold vX12_fresh_30
      refine g_const (v := cI (1)) rfl ?_
      exact TX12_fresh_35 hl1 hl2 hl1 ⟨by omega, by omega⟩ hj0 h
  · replace h := h.2 b3
    unfold vX12_fresh_43
    refine g_ld (v := rf _) rfl (is_R _) ?_
    refine g_getF (v := 938) oC12 (hC12_20) rfl (Nat.le_of_ble_eq_true rfl) (Nat.le_of_ble_eq_true rfl) ?_
    refine g_ld (v := rf _) rfl (is_R _) ?_
    refine g_getF (v := 821) oC12 (hC12_13) rfl (Nat.le_of_ble_eq_true rfl) (Nat.le_of_ble_eq_true rfl) ?_
    refine g_callV (As := [_]) (ci := 6) oC6 (fun _ => rfl) ?_
    refine g_go0 (Nat.le_of_ble_eq_true rfl) (Tn_w (TX6_clear  h) fun _ G9 ⟨e, h⟩ => ⟨e, ?_⟩)
    refine g_ld (v := cI _) rfl (is_I _) ?_
    exact g_ret1 (is_I _) ⟨_, rfl, hl1, h⟩
def PX12_fresh_0 (J : Nat → List Int → gS → (Int → gS → Prop) → Prop)  (G : gS) (Q : Int → gS → Prop) : Prop :=
  PX12_fresh_4 J 0 2 G Q
set_option maxRecDepth 20000 in
theorem TX12_fresh_0 {j : Nat → rx_K} {J : Nat → List Int → gS → (Int → gS → Prop) → Prop}  {G : gS} {Q : Int → gS → Prop}  (hj0 : ∀ (l1 : Int) (l2 : Int) (G : gS), (inI l1) → (inI l2) → J 0 [l1, l2] G Q → Tg W0 (j 0) [rf (0), cI (l1), cI (l2)] [] G (fun r G => ∃ v, r = cI v ∧ inI v ∧ Q v G)) (h : PX12_fresh_0 J  G Q) : Tg W0 (vX12_fresh_0 j) [rf (0), 7, 7] [] G (fun r G => ∃ v, r = cI v ∧ inI v ∧ Q v G) := by
  unfold PX12_fresh_0 at h
  unfold vX12_fresh_0
  refine g_const (v := cI (0)) rfl ?_
  refine g_st (lv' := [_, _, _]) (is_I _) (Nat.le_of_ble_eq_true rfl) (Or.inr (n1_R _)) rfl ?_
  refine g_const (v := cI (2)) rfl ?_
  refine g_st (lv' := [_, _, _]) (is_I _) (Nat.le_of_ble_eq_true rfl) (Or.inr (n1_I _)) rfl ?_
  exact TX12_fresh_4 ⟨by omega, by omega⟩ ⟨by omega, by omega⟩ hj0 h
def PX12_fresh_J : Nat → Nat → List Int → gS → (Int → gS → Prop) → Prop
  | 0, _, _, _, _ => False
  | f + 1, h, L, G, Q => match h, L with
    | 0, [l1, l2] => PX12_fresh_4 (PX12_fresh_J f) l1 l2 G Q
    | _, _ => False
theorem TX12_fresh_J {Q : Int → gS → Prop} : ∀ f N : Nat, f ≤ N → (∀ (l1 : Int) (l2 : Int) (G : gS), (inI l1) → (inI l2) → (PX12_fresh_J f) 0 [l1, l2] G Q → Tg W0 (rx_J vhX12_fresh N 0) [rf (0), cI (l1), cI (l2)] [] G (fun r G => ∃ v, r = cI v ∧ inI v ∧ Q v G)) := by
  intro f
  induction f with
  | zero => exact fun N _ => fun _ _ _ _ _ h => h.elim
  | succ f ih =>
    intro N hN
    obtain ⟨M, rfl⟩ : ∃ M, N = M + 1 := ⟨N - 1, by omega⟩
    have ih := ih M (by omega)
    exact fun _ _ _ hl1 hl2 h => show Tg W0 (vX12_fresh_4 (rx_J vhX12_fresh M)) _ _ _ _ from TX12_fresh_4 hl1 hl2 ih h
def PX12_fresh  (G : gS) (Q : Int → gS → Prop) : Prop := ∃ f : Nat, f ≤ 4000000000 ∧ PX12_fresh_0 (PX12_fresh_J f)  G Q
theorem TX12_fresh  {G : gS} {Q : Int → gS → Prop}  (h : PX12_fresh  G Q) : Tn W0 FX12_fresh [rf (0)] G (fun r G => ∃ v, r = cI v ∧ inI v ∧ Q v G) := by
  obtain ⟨f, hf, h⟩ := h
  have hJ := TX12_fresh_J (Q := Q) f 4000000000 hf
  unfold FX12_fresh
  refine g_ent (lv' := [rf (0), 7, 7]) (flR fl0) (Nat.le_of_ble_eq_true rfl) rfl ?_
  exact TX12_fresh_0  hJ h
end DE

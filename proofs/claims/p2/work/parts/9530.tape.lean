section TA
variable {Q : Nat → gS → Prop} {G : gS}

set_option maxRecDepth 20000 in
theorem C_X13_cut {n : Int} (hn : inI n) (hs : 0 ≤ G 16081 1 ∧ G 16081 1 ≤ 4000) (h1 : (n < 0 ∨ G 16081 1 < n) → Q (cI (-1)) G) (h2 : ¬ n < 0 → ¬ G 16081 1 < n → Q (cI (G 16081 1 - n)) (uG G 16081 1 (G 16081 1 - n))) : Tn W0 FX13_cut [rf 16081, cI n] G Q := by
  unfold FX13_cut
  refine g_ent (lv' := [rf 16081, cI n]) (flR (flI fl0)) (Nat.le_of_ble_eq_true rfl) rfl ?_
  unfold vX13_cut_0
  refine g_ld rfl (is_I _) ?_
  refine g_lt1 (by first | assumption | (simp only [inI] at *; omega)) (fun b1 => ?_) (fun b1 => ?_)
  · unfold vX13_cut_12
    refine g_const (v := cI (-1)) rfl ?_
    refine g_ret1 (is_I _) ?_
    first | exact h1 (by omega) | exact h2 (by omega) (by omega)
  · unfold vX13_cut_4
    refine g_ld rfl (is_I _) ?_
    refine g_ld rfl (is_R _) ?_
    refine g_getI (kz := 1) oC13 rfl (Nat.le_of_ble_eq_true rfl) rfl fun i2 => ?_
    refine g_gt2 (by first | assumption | (simp only [inI] at *; omega)) (by first | assumption | (simp only [inI] at *; omega)) (fun b3 => ?_) (fun b3 => ?_)
    · unfold vX13_cut_12
      refine g_const (v := cI (-1)) rfl ?_
      refine g_ret1 (is_I _) ?_
      first | exact h1 (by omega) | exact h2 (by omega) (by omega)
    · unfold vX13_cut_14
      refine g_ld rfl (is_R _) ?_
      refine g_dup (by first | exact ct_R _ | exact ct_I _) ?_
      refine g_getI (kz := 1) oC13 rfl (Nat.le_of_ble_eq_true rfl) rfl fun i4 => ?_
      refine g_ld rfl (is_I _) ?_
      refine g_sub ?_
      refine g_putI (kz := 1) oC13 rfl (Nat.le_of_ble_eq_true rfl) rfl (by first | assumption | (simp only [inI] at *; omega)) (by rfl) ?_
      refine g_ld rfl (is_R _) ?_
      refine g_getI (kz := 1) oC13 rfl (Nat.le_of_ble_eq_true rfl) rfl fun i5 => ?_
      simp +decide only [uG_at, uG_c, uG_j] at *
      refine g_ret1 (is_I _) ?_
      first | exact h1 (by omega) | exact h2 (by omega) (by omega)
set_option maxRecDepth 20000 in
theorem C_X12_cut {n : Int} (hn : inI n) (hs : 0 ≤ G 0 1 ∧ G 0 1 ≤ 4000) (h1 : (n < 0 ∨ G 0 1 < n) → Q (cI (-1)) G) (h2 : ¬ n < 0 → ¬ G 0 1 < n → Q (cI (G 0 1 - n)) (uG G 0 1 (G 0 1 - n))) : Tn W0 FX12_cut [rf 0, cI n] G Q := by
  unfold FX12_cut
  refine g_ent (lv' := [rf 0, cI n]) (flR (flI fl0)) (Nat.le_of_ble_eq_true rfl) rfl ?_
  unfold vX12_cut_0
  refine g_ld rfl (is_I _) ?_
  refine g_lt1 (by first | assumption | (simp only [inI] at *; omega)) (fun b1 => ?_) (fun b1 => ?_)
  · unfold vX12_cut_12
    refine g_const (v := cI (-1)) rfl ?_
    refine g_ret1 (is_I _) ?_
    first | exact h1 (by omega) | exact h2 (by omega) (by omega)
  · unfold vX12_cut_4
    refine g_ld rfl (is_I _) ?_
    refine g_ld rfl (is_R _) ?_
    refine g_getI (kz := 1) oC12 rfl (Nat.le_of_ble_eq_true rfl) rfl fun i2 => ?_
    refine g_gt2 (by first | assumption | (simp only [inI] at *; omega)) (by first | assumption | (simp only [inI] at *; omega)) (fun b3 => ?_) (fun b3 => ?_)
    · unfold vX12_cut_12
      refine g_const (v := cI (-1)) rfl ?_
      refine g_ret1 (is_I _) ?_
      first | exact h1 (by omega) | exact h2 (by omega) (by omega)
    · unfold vX12_cut_14
      refine g_ld rfl (is_R _) ?_
      refine g_dup (by first | exact ct_R _ | exact ct_I _) ?_
      refine g_getI (kz := 1) oC12 rfl (Nat.le_of_ble_eq_true rfl) rfl fun i4 => ?_
      refine g_ld rfl (is_I _) ?_
      refine g_sub ?_
      refine g_putI (kz := 1) oC12 rfl (Nat.le_of_ble_eq_true rfl) rfl (by first | assumption | (simp only [inI] at *; omega)) (by rfl) ?_
      refine g_ld rfl (is_R _) ?_
      refine g_getI (kz := 1) oC12 rfl (Nat.le_of_ble_eq_true rfl) rfl fun i5 => ?_
      simp +decide only [uG_at, uG_c, uG_j] at *
      refine g_ret1 (is_I _) ?_
      first | exact h1 (by omega) | exact h2 (by omega) (by omega)
set_option maxRecDepth 20000 in
theorem C_X13_size (h1 : inI (G 16081 3) → Q (cI (G 16081 3)) G) : Tn W0 FX13_size [rf 16081] G Q := by
  unfold FX13_size
  refine g_ent (lv' := [rf 16081]) (flR fl0) (Nat.le_of_ble_eq_true rfl) rfl ?_
  unfold vX13_size_0
  refine g_ld rfl (is_R _) ?_
  refine g_getI (kz := 3) oC13 rfl (Nat.le_of_ble_eq_true rfl) rfl fun i1 => ?_
  refine g_ret1 (is_I _) ?_
  exact h1 (by assumption)
set_option maxRecDepth 20000 in
theorem C_X12_size (h1 : inI (G 0 3) → Q (cI (G 0 3)) G) : Tn W0 FX12_size [rf 0] G Q := by
  unfold FX12_size
  refine g_ent (lv' := [rf 0]) (flR fl0) (Nat.le_of_ble_eq_true rfl) rfl ?_
  unfold vX12_size_0
  refine g_ld rfl (is_R _) ?_
  refine g_getI (kz := 3) oC12 rfl (Nat.le_of_ble_eq_true rfl) rfl fun i1 => ?_
  refine g_ret1 (is_I _) ?_
  exact h1 (by assumption)
def byM (a k : Int) : Int := iand (iush a k) 255
def w4M (s a : Int) (G : gS) : Nat → gS
  | 0 => G
  | t + 1 => uG (uG (w4M s a G t) 16082 (s + t) (byM a (24 - 8 * t))) 16081 1 (s + t + 1)
theorem w4M_sz {s a : Int} (hs : G 16081 1 = s) : ∀ t : Nat, w4M s a G t 16081 1 = s + t
  | 0 => by rw [show w4M s a G 0 = G from rfl, hs]; omega
  | t + 1 => by
    show uG _ 16081 1 (s + t + 1) 16081 1 = _
    rw [uG_at]; omega
set_option maxRecDepth 20000 in
theorem C_X13_four {s a : Int} (ha : inI a) (hs : G 16081 1 = s) (h0 : 0 ≤ s) (h4 : s + 4 ≤ 4000) (hq : Q 7 (w4M s a G 4)) : Tn W0 FX13_four [rf 16081, cI a] G Q := by
  have hb : ∀ (j : Nat → rx_K) (h m : Nat) (lv : List Nat) (G' : gS), (h = 0 ∧ ∃ t : Nat, t + m = 4 ∧ lv = [rf 16081, cI a, cI (24 - 8 * t)] ∧ G' = w4M s a G t) → (∀ (h' m' : Nat) (lv' : List Nat) (G'' : gS), m' < m → (h' = 0 ∧ ∃ t : Nat, t + m' = 4 ∧ lv' = [rf 16081, cI a, cI (24 - 8 * t)] ∧ G'' = w4M s a G t) → Tg W0 (j h') lv' [] G'' Q) → Tg W0 (rx_nth (vhX13_four j) h o_none) lv [] G' Q := by
    rintro j h m lv G' ⟨rfl, t, ht, rfl, rfl⟩ hj
    have hz := w4M_sz (a := a) hs t
    have done : 4 ≤ t → Q 7 (w4M s a G t) := fun h => by rw [show t = 4 by omega]; exact hq
    show Tg W0 (vX13_four_3 j) _ _ _ _
    unfold vX13_four_3
    refine g_ld rfl (is_I _) ?_
    refine g_lt1 (by first | assumption | (simp only [inI] at *; omega)) (fun b1 => ?_) (fun b1 => ?_)
    · unfold vX13_four_39
      refine g_ret0 ?_
      exact done (by omega)
    · unfold vX13_four_7
      refine g_ld rfl (is_R _) ?_
      refine g_getF (v := 16082) oC13 (hC13_0) rfl (Nat.le_of_ble_eq_true rfl) (Nat.le_of_ble_eq_true rfl) ?_
      refine g_ld rfl (is_R _) ?_
      refine g_getI (kz := 1) oC13 rfl (Nat.le_of_ble_eq_true rfl) rfl fun i2 => ?_
      refine g_ld rfl (is_I _) ?_
      refine g_ld rfl (is_I _) ?_
      refine g_iush fun i3 => ?_
      refine g_const (v := cI (255)) rfl ?_
      refine g_iand fun i4 => ?_
      refine g_astI aC16082 (by omega) (by omega) (by first | assumption | (simp only [inI] at *; omega)) (nfI aC16082) ?_
      refine g_ld rfl (is_R _) ?_
      refine g_dup (by first | exact ct_R _ | exact ct_I _) ?_
      refine g_getI (kz := 1) oC13 rfl (Nat.le_of_ble_eq_true rfl) rfl fun i5 => ?_
      simp +decide only [uG_at, uG_c, uG_j] at *
      refine g_const (v := cI (1)) rfl ?_
      refine g_add ?_
      refine g_putI (kz := 1) oC13 rfl (Nat.le_of_ble_eq_true rfl) rfl (by first | assumption | (simp only [inI] at *; omega)) (by rfl) ?_
      refine g_inc (lv' := [_, _, _]) rfl (Nat.le_of_ble_eq_true rfl) (by first | exact Or.inl rfl | exact Or.inr (n1_I _) | exact Or.inr (n1_R _) | exact Or.inr (by decide)) rfl ?_
      simp +decide only [uG_at, uG_c, uG_j, hz]
      refine hj 0 (m - 1) _ _ (by omega) ⟨rfl, t + 1, by omega, ?_, ?_⟩
      · rw [show (24 - 8 * (t : Int) + -8) = 24 - 8 * ((t + 1 : Nat) : Int) by omega]
      · rfl
  unfold FX13_four
  refine g_ent (lv' := [rf 16081, cI a, 7]) (flR (flI fl0)) (Nat.le_of_ble_eq_true rfl) rfl ?_
  unfold vX13_four_0
  refine g_const (v := cI 24) rfl ?_
  refine g_st (lv' := [rf 16081, cI a, cI 24]) (is_I _) (Nat.le_of_ble_eq_true rfl) (by first | exact Or.inl rfl | exact Or.inr (n1_I _) | exact Or.inr (n1_R _) | exact Or.inr (by decide)) rfl ?_
  exact hb _ 0 4 _ _ ⟨rfl, 0, rfl, rfl, rfl⟩ (fun h' m' lv' G'' hm hp => g_loop _ hb 4000000000 h' m' lv' G'' (by omega) hp)
def byX (a k : Int) : Int := b8 (b8 (iush a k))
def w4X (s a : Int) (G : gS) : Nat → gS
  | 0 => G
  | t + 1 => uG (uG (w4X s a G t) 1 (s + t) (byX a (24 - 8 * t))) 0 1 (s + t + 1)
theorem w4X_sz {s a : Int} (hs : G 0 1 = s) : ∀ t : Nat, w4X s a G t 0 1 = s + t
  | 0 => by rw [show w4X s a G 0 = G from rfl, hs]; omega
  | t + 1 => by
    show uG _ 0 1 (s + t + 1) 0 1 = _
    rw [uG_at]; omega
set_option maxRecDepth 20000 in
theorem C_X12_fourBytes {s a : Int} (ha : inI a) (hs : G 0 1 = s) (h0 : 0 ≤ s) (h4 : s + 4 ≤ 4000) (hq : Q 7 (w4X s a G 4)) : Tn W0 FX12_fourBytes [rf 0, cI a] G Q := by
  have hb : ∀ (j : Nat → rx_K) (h m : Nat) (lv : List Nat) (G' : gS), (h = 0 ∧ ∃ t : Nat, t + m = 4 ∧ lv = [rf 0, cI a, cI (24 - 8 * t)] ∧ G' = w4X s a G t) → (∀ (h' m' : Nat) (lv' : List Nat) (G'' : gS), m' < m → (h' = 0 ∧ ∃ t : Nat, t + m' = 4 ∧ lv' = [rf 0, cI a, cI (24 - 8 * t)] ∧ G'' = w4X s a G t) → Tg W0 (j h') lv' [] G'' Q) → Tg W0 (rx_nth (vhX12_fourBytes j) h o_none) lv [] G' Q := by
    rintro j h m lv G' ⟨rfl, t, ht, rfl, rfl⟩ hj
    have hz := w4X_sz (a := a) hs t
    have done : 4 ≤ t → Q 7 (w4X s a G t) := fun h => by rw [show t = 4 by omega]; exact hq
    show Tg W0 (vX12_fourBytes_3 j) _ _ _ _
    unfold vX12_fourBytes_3
    refine g_ld rfl (is_I _) ?_
    refine g_lt1 (by first | assumption | (simp only [inI] at *; omega)) (fun b1 => ?_) (fun b1 => ?_)
    · unfold vX12_fourBytes_46
      refine g_ret0 ?_
      exact done (by omega)
    · unfold vX12_fourBytes_7
      refine g_ld rfl (is_R _) ?_
      refine g_getI (kz := 1) oC12 rfl (Nat.le_of_ble_eq_true rfl) rfl fun i2 => ?_
      refine g_const (v := cI (4000)) rfl ?_
      refine g_lt2 (by first | assumption | (simp only [inI] at *; omega)) (by first | assumption | (simp only [inI] at *; omega)) (fun b3 => ?_) (fun b3 => ?_)
      · unfold vX12_fourBytes_17
        refine g_ld rfl (is_R _) ?_
        refine g_getF (v := 1) oC12 (hC12_0) rfl (Nat.le_of_ble_eq_true rfl) (Nat.le_of_ble_eq_true rfl) ?_
        refine g_ld rfl (is_R _) ?_
        refine g_getI (kz := 1) oC12 rfl (Nat.le_of_ble_eq_true rfl) rfl fun i4 => ?_
        refine g_ld rfl (is_I _) ?_
        refine g_ld rfl (is_I _) ?_
        refine g_iush fun i5 => ?_
        refine g_i2b ?_
        refine g_astB aC1 (by omega) (by omega) (nfB aC1) ?_
        refine g_ld rfl (is_R _) ?_
        refine g_dup (by first | exact ct_R _ | exact ct_I _) ?_
        refine g_getI (kz := 1) oC12 rfl (Nat.le_of_ble_eq_true rfl) rfl fun i6 => ?_
        simp +decide only [uG_at, uG_c, uG_j] at *
        refine g_const (v := cI (1)) rfl ?_
        refine g_add ?_
        refine g_putI (kz := 1) oC12 rfl (Nat.le_of_ble_eq_true rfl) rfl (by first | assumption | (simp only [inI] at *; omega)) (by rfl) ?_
        refine g_inc (lv' := [_, _, _]) rfl (Nat.le_of_ble_eq_true rfl) (by first | exact Or.inl rfl | exact Or.inr (n1_I _) | exact Or.inr (n1_R _) | exact Or.inr (by decide)) rfl ?_
        simp +decide only [uG_at, uG_c, uG_j, hz]
        refine hj 0 (m - 1) _ _ (by omega) ⟨rfl, t + 1, by omega, ?_, ?_⟩
        · rw [show (24 - 8 * (t : Int) + -8) = 24 - 8 * ((t + 1 : Nat) : Int) by omega]
        · rfl
      · unfold vX12_fourBytes_46
        refine g_ret0 ?_
        exact done (by omega)
  unfold FX12_fourBytes
  refine g_ent (lv' := [rf 0, cI a, 7]) (flR (flI fl0)) (Nat.le_of_ble_eq_true rfl) rfl ?_
  unfold vX12_fourBytes_0
  refine g_const (v := cI 24) rfl ?_
  refine g_st (lv' := [rf 0, cI a, cI 24]) (is_I _) (Nat.le_of_ble_eq_true rfl) (by first | exact Or.inl rfl | exact Or.inr (n1_I _) | exact Or.inr (n1_R _) | exact Or.inr (by decide)) rfl ?_
  exact hb _ 0 4 _ _ ⟨rfl, 0, rfl, rfl, rfl⟩ (fun h' m' lv' G'' hm hp => g_loop _ hb 4000000000 h' m' lv' G'' (by omega) hp)
end TA

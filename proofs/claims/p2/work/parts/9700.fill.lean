section FI
def fillG (G : gS) (a n v : Int) : gS := fun c j => if c = a ∧ 0 ≤ j ∧ j < n then v else G c j
theorem fillG_0 (G : gS) (a v : Int) : fillG G a 0 v = G := by
  funext c j
  exact if_neg (fun q => by omega)
theorem fillG_s (G : gS) {a i v : Int} (h0 : 0 ≤ i) : uG (fillG G a i v) a i v = fillG G a (i + 1) v := by
  funext c j
  unfold uG fillG
  by_cases q : c = a ∧ j = i
  · rw [if_pos q, if_pos ⟨q.1, by omega, by omega⟩]
  · rw [if_neg q]
    by_cases q2 : c = a ∧ 0 ≤ j ∧ j < i
    · rw [if_pos q2, if_pos ⟨q2.1, q2.2.1, by omega⟩]
    · rw [if_neg q2, if_neg (fun z => by
        have hne : j ≠ i := fun e => q ⟨z.1, e⟩
        exact q2 ⟨z.1, z.2.1, by omega⟩)]
theorem fillG_ne {G : gS} {a n v c j : Int} (h : c ≠ a) : fillG G a n v c j = G c j := if_neg (fun q => h q.1)
theorem fillG_in {G : gS} {a n v j : Int} (h0 : 0 ≤ j) (h1 : j < n) : fillG G a n v a j = v := if_pos ⟨rfl, h0, h1⟩
theorem fillG_out {G : gS} {a n v j : Int} (h : j < 0 ∨ n ≤ j) : fillG G a n v a j = G a j := if_neg (fun q => by omega)
theorem fillI_h (M : Nat) : rx_J vhJ7_fill_53178 (M + 1) 0 = vJ7_fill_53178_5 (rx_J vhJ7_fill_53178 M) := rfl
theorem g_fillI_J {a n v : Int} {G : gS} {Q : gS → Prop} (ha : isA W0 0 n a) (hn : ∀ i, W0.2 a i = none) (hv : inI v) (hb : n < 268435456) (h : Q (fillG G a n v)) : ∀ (d N : Nat) (i : Int), d < N → 0 ≤ i → i ≤ n → n - i = d → Tg W0 (rx_J vhJ7_fill_53178 N 0) [rf a, cI v, cI i, cI n] [] (fillG G a i v) (fun r G' => r = 7 ∧ Q G') := by
  intro d
  induction d with
  | zero =>
    intro N i hN h0 h1 hd
    obtain ⟨M, rfl⟩ : ∃ M, N = M + 1 := ⟨N - 1, by omega⟩
    show Tg W0 (vJ7_fill_53178_5 (rx_J vhJ7_fill_53178 M)) _ _ _ _
    unfold vJ7_fill_53178_5
    refine g_ld (v := cI _) rfl (is_I _) ?_
    refine g_ld (v := cI _) rfl (is_I _) ?_
    refine g_lt2 ⟨by omega, by omega⟩ ⟨by omega, by omega⟩ (fun q => by omega) (fun q => ?_)
    unfold vJ7_fill_53178_20
    have e : i = n := by omega
    subst e
    exact g_ret0 ⟨rfl, h⟩
  | succ d ih =>
    intro N i hN h0 h1 hd
    obtain ⟨M, rfl⟩ : ∃ M, N = M + 1 := ⟨N - 1, by omega⟩
    show Tg W0 (vJ7_fill_53178_5 (rx_J vhJ7_fill_53178 M)) _ _ _ _
    unfold vJ7_fill_53178_5
    refine g_ld (v := cI _) rfl (is_I _) ?_
    refine g_ld (v := cI _) rfl (is_I _) ?_
    refine g_lt2 ⟨by omega, by omega⟩ ⟨by omega, by omega⟩ (fun q => ?_) (fun q => by omega)
    unfold vJ7_fill_53178_10
    refine g_ld (v := rf _) rfl (is_R _) ?_
    refine g_ld (v := cI _) rfl (is_I _) ?_
    refine g_ld (v := cI _) rfl (is_I _) ?_
    refine g_astI ha h0 q hv (hn i) ?_
    refine g_inc (lv' := [_, _, _, _]) rfl (Nat.le_of_ble_eq_true rfl) (Or.inr (n1_I _)) rfl ?_
    rw [fillG_s G h0]
    exact ih M (i + 1) (by omega) (by omega) (by omega) (by omega)
theorem g_fillI {a n v : Int} {G : gS} {Q : gS → Prop} (ha : isA W0 0 n a) (hn : ∀ i, W0.2 a i = none) (hv : inI v) (hb : n < 268435456) (h : Q (fillG G a n v)) : Tn W0 FJ7_fill_53178 [rf a, cI v] G (fun r G' => r = 7 ∧ Q G') := by
  have hn0 : 0 ≤ n := by obtain ⟨-, -, m, rfl, -⟩ := ha; omega
  unfold FJ7_fill_53178
  refine g_ent (lv' := [rf a, cI v, 7, 7]) (flc (n1_R _) (flc (n1_I _) fl0)) (Nat.le_of_ble_eq_true rfl) rfl ?_
  unfold vJ7_fill_53178_0
  refine g_const (v := cI (0)) rfl ?_
  refine g_st (lv' := [_, _, _, _]) (is_I _) (Nat.le_of_ble_eq_true rfl) (Or.inr (n1_I _)) rfl ?_
  refine g_ld (v := rf _) rfl (is_R _) ?_
  refine g_alen ha ?_
  refine g_st (lv' := [_, _, _, _]) (is_I _) (Nat.le_of_ble_eq_true rfl) (Or.inr (n1_I _)) rfl ?_
  have q := g_fillI_J (G := G) (Q := Q) ha hn hv hb h n.toNat (4000000000 + 1) 0 (by omega) (by omega) hn0 (by omega)
  rw [fillG_0, fillI_h] at q
  exact q
theorem fillL_h (M : Nat) : rx_J vhJ7_fill_d0a16 (M + 1) 0 = vJ7_fill_d0a16_6 (rx_J vhJ7_fill_d0a16 M) := rfl
theorem g_fillL_J {a n v : Int} {G : gS} {Q : gS → Prop} (ha : isA W0 1 n a) (hn : ∀ i, W0.2 a i = none) (hv : inL v) (hb : n < 268435456) (h : Q (fillG G a n v)) : ∀ (d N : Nat) (i : Int), d < N → 0 ≤ i → i ≤ n → n - i = d → Tg W0 (rx_J vhJ7_fill_d0a16 N 0) [rf a, cL v, 7, cI i, cI n] [] (fillG G a i v) (fun r G' => r = 7 ∧ Q G') := by
  intro d
  induction d with
  | zero =>
    intro N i hN h0 h1 hd
    obtain ⟨M, rfl⟩ : ∃ M, N = M + 1 := ⟨N - 1, by omega⟩
    show Tg W0 (vJ7_fill_d0a16_6 (rx_J vhJ7_fill_d0a16 M)) _ _ _ _
    unfold vJ7_fill_d0a16_6
    refine g_ld (v := cI _) rfl (is_I _) ?_
    refine g_ld (v := cI _) rfl (is_I _) ?_
    refine g_lt2 ⟨by omega, by omega⟩ ⟨by omega, by omega⟩ (fun q => by omega) (fun q => ?_)
    unfold vJ7_fill_d0a16_22
    have e : i = n := by omega
    subst e
    exact g_ret0 ⟨rfl, h⟩
  | succ d ih =>
    intro N i hN h0 h1 hd
    obtain ⟨M, rfl⟩ : ∃ M, N = M + 1 := ⟨N - 1, by omega⟩
    show Tg W0 (vJ7_fill_d0a16_6 (rx_J vhJ7_fill_d0a16 M)) _ _ _ _
    unfold vJ7_fill_d0a16_6
    refine g_ld (v := cI _) rfl (is_I _) ?_
    refine g_ld (v := cI _) rfl (is_I _) ?_
    refine g_lt2 ⟨by omega, by omega⟩ ⟨by omega, by omega⟩ (fun q => ?_) (fun q => by omega)
    unfold vJ7_fill_d0a16_12
    refine g_ld (v := rf _) rfl (is_R _) ?_
    refine g_ld (v := cI _) rfl (is_I _) ?_
    refine g_ld (v := cL _) rfl (is_L _) ?_
    refine g_astL ha h0 q hv (hn i) ?_
    refine g_inc (lv' := [_, _, _, _, _]) rfl (Nat.le_of_ble_eq_true rfl) (Or.inr (show 7 % 8 ≠ 1 by decide)) rfl ?_
    rw [fillG_s G h0]
    exact ih M (i + 1) (by omega) (by omega) (by omega) (by omega)
theorem g_fillL {a n v : Int} {G : gS} {Q : gS → Prop} (ha : isA W0 1 n a) (hn : ∀ i, W0.2 a i = none) (hv : inL v) (hb : n < 268435456) (h : Q (fillG G a n v)) : Tn W0 FJ7_fill_d0a16 [rf a, cL v] G (fun r G' => r = 7 ∧ Q G') := by
  have hn0 : 0 ≤ n := by obtain ⟨-, -, m, rfl, -⟩ := ha; omega
  unfold FJ7_fill_d0a16
  refine g_ent (lv' := [rf a, cL v, 7, 7, 7]) (flc (n1_R _) (flL fl0)) (Nat.le_of_ble_eq_true rfl) rfl ?_
  unfold vJ7_fill_d0a16_0
  refine g_const (v := cI (0)) rfl ?_
  refine g_st (lv' := [_, _, _, _, _]) (is_I _) (Nat.le_of_ble_eq_true rfl) (Or.inr (show 7 % 8 ≠ 1 by decide)) rfl ?_
  refine g_ld (v := rf _) rfl (is_R _) ?_
  refine g_alen ha ?_
  refine g_st (lv' := [_, _, _, _, _]) (is_I _) (Nat.le_of_ble_eq_true rfl) (Or.inr (n1_I _)) rfl ?_
  have q := g_fillL_J (G := G) (Q := Q) ha hn hv hb h n.toNat (4000000000 + 1) 0 (by omega) (by omega) hn0 (by omega)
  rw [fillG_0, fillL_h] at q
  exact q
def PJ7_fill_53178 (a1 a2 : Int) (G : gS) (Q : Int → gS → Prop) : Prop := ∃ n, isA W0 0 n a1 ∧ (∀ i, W0.2 a1 i = none) ∧ n < 268435456 ∧ Q 0 (fillG G a1 n a2)
theorem TJ7_fill_53178 {a1 a2 : Int} {G : gS} {Q : Int → gS → Prop} (ha2 : inI a2) (h : PJ7_fill_53178 a1 a2 G Q) : Tn W0 FJ7_fill_53178 [rf a1, cI a2] G (fun r G => r = 7 ∧ Q 0 G) := by
  obtain ⟨n, h1, h2, h3, h4⟩ := h
  exact g_fillI (Q := fun G => Q 0 G) h1 h2 ha2 h3 h4
def PJ7_fill_d0a16 (a1 a2 : Int) (G : gS) (Q : Int → gS → Prop) : Prop := ∃ n, isA W0 1 n a1 ∧ (∀ i, W0.2 a1 i = none) ∧ n < 268435456 ∧ Q 0 (fillG G a1 n a2)
theorem TJ7_fill_d0a16 {a1 a2 : Int} {G : gS} {Q : Int → gS → Prop} (ha2 : inL a2) (h : PJ7_fill_d0a16 a1 a2 G Q) : Tn W0 FJ7_fill_d0a16 [rf a1, cL a2] G (fun r G => r = 7 ∧ Q 0 G) := by
  obtain ⟨n, h1, h2, h3, h4⟩ := h
  exact g_fillL (Q := fun G => Q 0 G) h1 h2 ha2 h3 h4
end FI

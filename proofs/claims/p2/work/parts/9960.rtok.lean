section RP34
variable {B G G' : gS} {s N i i' a c j k : Int} {tk cd : Int → Int}
/-- what the class's reader and the reference's hold of one text's tokens -/
theorem TKp_of (hs : 0 ≤ s ∧ s < 18) (h19 : G' 16081 19 = s) (hP : PT G tk c) (hC : CD G cd) (hN : 1 ≤ N ∧ N ≤ 701) (hL : ∀ k : Nat, (k : Int) < N → (k : Int) ≤ c ∧ TR (G 9 k) (G 12 k) (G' 16090 (s * 702 + k)) (G' 16093 (s * 702 + k)) (G' 16094 (s * 702 + k))) (hg : ∀ j, 0 ≤ j → j < N - 1 → G' 16090 (s * 702 + j) ≠ 0 ∧ G' 16090 (s * 702 + j) ≠ 6) (he : G' 16090 (s * 702 + (N - 1)) = 0 ∨ G' 16090 (s * 702 + (N - 1)) = 6 ∨ N = 701) : TKp G' s N tk cd := by
  have tr : ∀ a, 0 ≤ a → a < N → TR (tk a) (cd a) (G' 16090 (s * 702 + a)) (G' 16093 (s * 702 + a)) (G' 16094 (s * 702 + a)) := fun a a0 a1 => by
    obtain ⟨k, rfl⟩ := Int.eq_ofNat_of_zero_le a0
    obtain ⟨y1, y2⟩ := hL k a1
    rw [← hP.2.2.2.1 k (by omega) y1, ← hC k (by omega) (by omega)]
    exact y2
  refine ⟨hs.1, hs.2, h19, hN.1, hN.2, tr, fun a a0 a1 => ?_, ?_⟩
  · have t := TR_k (tr a a0 (by omega))
    have g := hg a a0 a1
    exact ⟨fun u => g.1 (t.1.mpr u), fun u => g.2 (t.2.1.mpr u)⟩
  · have t := TR_k (tr (N - 1) (by omega) (by omega))
    rcases he with e | e | e
    · exact Or.inl (t.1.mp e)
    · exact Or.inr (Or.inl (t.2.1.mp e))
    · exact Or.inr (Or.inr e)
theorem pitem_0 (h : tk a = 0) : (pitem tk k a).2 = a ∧ (pitem tk k a).1 ≠ 0 := by
  have : pmember tk k a = pmiss tk a := by
    unfold pmember
    rw [if_neg (by omega)]
  unfold pitem
  rw [this, pb_n (pmiss_ne _)]
  exact ⟨rfl, pmiss_ne _⟩
theorem nItL_0 (h : tk a = 0) : ∀ (f : Nat) (k : Int), nItL tk f k a = f
  | 0, _ => rfl
  | f + 1, k => by
    show (if tk a = 225 then 0 else nItL tk f (k + 1) (pitem tk k a).2 + 1) = f + 1
    rw [if_neg (by omega), (pitem_0 h).1, nItL_0 h f]
theorem hIt_0 (h : tk a = 0) : hIt tk k a = a := by
  have e1 : popt tk 17 a = (0, a) := if_neg (by omega)
  have e2 : pfb tk a = (0, a) := if_neg (by omega)
  unfold hIt phead
  rw [pb_e e1, pb_e e2, if_neg (by omega)]
  rfl
/-- both have read as many classes -/
theorem K_same {K L : Nat} (h1 : tk (aCl tk K) = 0) (h2 : ∀ k : Nat, k < K → aCl tk k < aCl tk (k + 1)) (h3 : aCl tk L = aCl tk K) (h4 : ∀ k : Nat, k < L → nIt tk (hIt tk k (aCl tk k)) ≤ 20) : L = K := by
  have mono : ∀ n : Nat, ∀ m : Nat, n + m ≤ K → aCl tk n ≤ aCl tk (n + m) := fun n m => by
    induction m with
    | zero => intro _; exact Int.le_refl _
    | succ m ih =>
      intro hm
      have := ih (by omega)
      have := h2 (n + m) (by omega)
      rw [show n + (m + 1) = n + m + 1 by omega]
      omega
  by_cases e : L < K
  · have := h2 L e
    have := mono (L + 1) (K - (L + 1)) (by omega)
    rw [show L + 1 + (K - (L + 1)) = K by omega] at this
    omega
  · by_cases e2 : K < L
    · have := h4 K e2
      rw [hIt_0 h1] at this
      unfold nIt at this
      rw [nItL_0 h1] at this
      omega
    · omega
end RP34

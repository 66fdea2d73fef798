section LWE
-- a name of the class and of the reference; a class's name likewise
def NmR (c v : Int) : Prop := inL c ∧ ∃ L : Nat, 1 ≤ L ∧ L ≤ 10 ∧ 64 ^ (L - 1) ≤ v ∧ v < 27 * 64 ^ (L - 1) ∧ v % 64 ≠ 0 ∧ U c = v * 2 ^ (60 - 6 * L) - 18014398509481984
def CnR (c v : Int) : Prop := inL c ∧ ∃ (L : Nat) (p r : Int), 1 ≤ L ∧ L ≤ 9 ∧ 1 ≤ p ∧ p ≤ 26 ∧ 27 * 64 ^ (L - 1) ≤ r ∧ r < 53 * 64 ^ (L - 1) ∧ r % 64 ≠ 0 ∧ v = p * 64 ^ L + r + 2305843009213693952 ∧ U c = r * 2 ^ (60 - 6 * L) + ((p - 1) * 576460752303423488 - 27 * 18014398509481984)
theorem Nm_eq {c c' v v' : Int} (h : NmR c v) (h' : NmR c' v') : c = c' ↔ v = v' := by
  obtain ⟨h1, L, h2, h3, h4, h5, h6, h7⟩ := h
  obtain ⟨g1, M, g2, g3, g4, g5, g6, g7⟩ := h'
  constructor
  · intro e
    subst e
    rw [h7] at g7
    rcases (show L = 1 ∨ L = 2 ∨ L = 3 ∨ L = 4 ∨ L = 5 ∨ L = 6 ∨ L = 7 ∨ L = 8 ∨ L = 9 ∨ L = 10 by omega) with e | e | e | e | e | e | e | e | e | e <;> rcases (show M = 1 ∨ M = 2 ∨ M = 3 ∨ M = 4 ∨ M = 5 ∨ M = 6 ∨ M = 7 ∨ M = 8 ∨ M = 9 ∨ M = 10 by omega) with f | f | f | f | f | f | f | f | f | f <;> subst e <;> subst f <;> simp only [Nat.reduceMul, Nat.reduceSub, Int.reducePow] at g7 <;> omega
  · intro e
    subst e
    refine U_inj h1 g1 ?_
    rw [h7, g7]
    have : L = M := by
      rcases (show L = 1 ∨ L = 2 ∨ L = 3 ∨ L = 4 ∨ L = 5 ∨ L = 6 ∨ L = 7 ∨ L = 8 ∨ L = 9 ∨ L = 10 by omega) with e | e | e | e | e | e | e | e | e | e <;> rcases (show M = 1 ∨ M = 2 ∨ M = 3 ∨ M = 4 ∨ M = 5 ∨ M = 6 ∨ M = 7 ∨ M = 8 ∨ M = 9 ∨ M = 10 by omega) with f | f | f | f | f | f | f | f | f | f <;> subst e <;> subst f <;> simp only [Nat.reduceSub, Int.reducePow] at h4 h5 g4 g5 <;> omega
    rw [this]
theorem Cn_eq {c c' v v' : Int} (h : CnR c v) (h' : CnR c' v') : c = c' ↔ v = v' := by
  obtain ⟨h1, L, p, r, h2, h3, p1, p2, h4, h5, h6, h8, h7⟩ := h
  obtain ⟨g1, M, q, u, g2, g3, q1, q2, g4, g5, g6, g8, g7⟩ := h'
  constructor
  · intro e
    subst e
    rw [h7] at g7
    rw [h8, g8]
    rcases (show L = 1 ∨ L = 2 ∨ L = 3 ∨ L = 4 ∨ L = 5 ∨ L = 6 ∨ L = 7 ∨ L = 8 ∨ L = 9 by omega) with e | e | e | e | e | e | e | e | e <;> rcases (show M = 1 ∨ M = 2 ∨ M = 3 ∨ M = 4 ∨ M = 5 ∨ M = 6 ∨ M = 7 ∨ M = 8 ∨ M = 9 by omega) with f | f | f | f | f | f | f | f | f <;> subst e <;> subst f <;> simp only [Nat.reduceMul, Nat.reduceSub, Int.reducePow] at g7 h4 h5 g4 g5 ⊢ <;> omega
  · intro e
    subst e
    refine U_inj h1 g1 ?_
    rw [h7, g7]
    rcases (show L = 1 ∨ L = 2 ∨ L = 3 ∨ L = 4 ∨ L = 5 ∨ L = 6 ∨ L = 7 ∨ L = 8 ∨ L = 9 by omega) with e | e | e | e | e | e | e | e | e <;> rcases (show M = 1 ∨ M = 2 ∨ M = 3 ∨ M = 4 ∨ M = 5 ∨ M = 6 ∨ M = 7 ∨ M = 8 ∨ M = 9 by omega) with f | f | f | f | f | f | f | f | f <;> subst e <;> subst f <;> simp only [Nat.reduceMul, Nat.reduceSub, Int.reducePow] at h8 g8 h4 h5 g4 g5 ⊢ <;> omega
theorem gv_lo (t : Int → Int) (i : Int) : ∀ k : Nat, sy (t i) * 64 ^ k ≤ gv 0 t i (k + 1) ∧ gv 0 t i (k + 1) < (sy (t i) + 1) * 64 ^ k ∧ gv 0 t i (k + 1) % 64 = sy (t (i + k))
  | 0 => by
    have := sy_b (t i)
    unfold gv gv
    simp only [Int.pow_zero, Int.cast_ofNat_Int, Int.add_zero]
    omega
  | k + 1 => by
    have ih := gv_lo t i k
    have s := sy_b (t (i + ((k + 1 : Nat) : Int)))
    rw [Int.pow_succ, ← Int.mul_assoc, ← Int.mul_assoc]
    show _ ≤ 64 * gv 0 t i (k + 1) + sy (t (i + ((k + 1 : Nat) : Int))) ∧ 64 * gv 0 t i (k + 1) + sy (t (i + ((k + 1 : Nat) : Int))) < _ ∧ (64 * gv 0 t i (k + 1) + sy (t (i + ((k + 1 : Nat) : Int)))) % 64 = _
    omega
-- a start in front of letters
theorem gv_p (p : Int) (t : Int → Int) (i : Int) : ∀ k : Nat, gv p t i k = p * 64 ^ k + gv 0 t i k
  | 0 => by unfold gv; simp only [Int.pow_zero]; omega
  | k + 1 => by
    have ih := gv_p p t i k
    rw [Int.pow_succ, ← Int.mul_assoc]
    unfold gv
    rw [ih]
    omega
end LWE

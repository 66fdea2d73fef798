section PK2
variable {G : gS} {Q : Int → gS → Prop} {c v : Int}
theorem inL_lush (a k : Int) : inL (lush a k) := by
  unfold inL lush
  exact ⟨Int64.le_toInt _, Int64.toInt_lt _⟩
theorem l2i_64 {x : Int} (h0 : 0 ≤ x) (h1 : x < 64) : l2i x = x := by
  obtain ⟨n, rfl⟩ := Int.eq_ofNat_of_zero_le h0
  have : ∀ n : Nat, n < 64 → l2i n = n := by decide +kernel
  exact this n (by omega)
theorem lush_6 {x : Int} (h0 : 0 ≤ x) (h1 : x < 9223372036854775808) : lush x 6 = x / 64 := by
  have h := U_lush (a := x) (k := 6) (by omega) (by omega)
  rw [U_id h0 (by omega)] at h
  have i := inL_lush x 6
  have e : (2 : Int) ^ (6 : Int).toNat = 64 := rfl
  rw [e] at h
  unfold U at h
  unfold inL at i
  generalize lush x 6 = y at h i ⊢
  omega
theorem rpack_loop {p : Int} (hp : 1 ≤ p ∧ p ≤ 26) (hQ : Q p G) : ∀ (n F : Nat) (l0 r x l4 : Int), n + 3 ≤ F → 0 ≤ r → r < 64 ^ n → x = p * 64 ^ n + r → x < 4611686018427387904 → PX13_packageOf_9 (PX13_packageOf_J F) l0 x l4 G Q
  | 0, F, l0, r, x, l4, hF, h0, h1, hx, hb => by
    obtain ⟨F', rfl⟩ : ∃ F', F = F' + 1 := ⟨F - 1, by omega⟩
    have hr : r = 0 := by
      have : r < 1 := h1
      omega
    have hx' : x = p := by rw [hx, hr]; show p * 1 + 0 = p; omega
    subst hx'
    unfold PX13_packageOf_9
    refine ⟨fun z => by omega, fun _ => fun _ => fun _ => fun _ => ?_⟩
    rw [land_63 (by omega) (by omega), l2i_64 (by omega) (by omega), lush_6 (by omega) (by omega)]
    show PX13_packageOf_9 (PX13_packageOf_J F') l0 (x / 64) (x % 64) G Q
    rw [show x / 64 = 0 by omega, show x % 64 = x by omega]
    unfold PX13_packageOf_9
    exact ⟨fun _ => hQ, fun u => absurd rfl u⟩
  | n + 1, F, l0, r, x, l4, hF, h0, h1, hx, hb => by
    obtain ⟨F', rfl⟩ : ∃ F', F = F' + 1 := ⟨F - 1, by omega⟩
    have hy : (64 : Int) ^ (n + 1) = 64 * 64 ^ n := by rw [Int.pow_succ, Int.mul_comm]
    have hy0 : (0 : Int) < 64 ^ n := Int.pow_pos (by decide)
    have hz : p * (64 * 64 ^ n) = 64 * (p * 64 ^ n) := by rw [← Int.mul_assoc, ← Int.mul_assoc, Int.mul_comm p 64]
    rw [hy, hz] at hx
    rw [hy] at h1
    have hz0 : 0 < p * 64 ^ n := Int.mul_pos (by omega) hy0
    unfold PX13_packageOf_9
    refine ⟨fun z => by omega, fun _ => fun _ => fun _ => fun _ => ?_⟩
    rw [land_63 (by omega) (by omega), l2i_64 (by omega) (by omega), lush_6 (by omega) (by omega)]
    show PX13_packageOf_9 (PX13_packageOf_J F') l0 (x / 64) (x % 64) G Q
    exact rpack_loop hp hQ n F' l0 (r / 64) (x / 64) (x % 64) (by omega) (by omega) (by omega) (by omega) (by omega)
/-- a class's NAME: both tell its package alike -/
theorem pack_same (h : CnR c v) : ∃ p, 1 ≤ p ∧ p ≤ 26 ∧ cpk c = p - 1 ∧ ∀ (G : gS) (Q : Int → gS → Prop), Q p G → PX13_pack v G Q := by
  obtain ⟨h1, L, p, r, h2, h3, h4, h5, h6, h7, h8, h9, h10⟩ := h
  have t1 : ∀ L : Nat, L < 10 → (64 : Int) ^ L ≤ 18014398509481984 := by decide +kernel
  have t2 : ∀ L : Nat, L < 10 → 1 ≤ L → (64 : Int) ^ (L - 1) * 2 ^ (60 - 6 * L) = 18014398509481984 := by decide +kernel
  have t3 : ∀ L : Nat, L < 10 → 1 ≤ L → (64 : Int) ^ L = 64 * 64 ^ (L - 1) := by decide +kernel
  have u1 := t1 L (by omega)
  have u2 := t2 L (by omega) h2
  have u3 := t3 L (by omega) h2
  have y0 : (0 : Int) < 64 ^ (L - 1) := Int.pow_pos (by decide)
  have z0 : (0 : Int) < 2 ^ (60 - 6 * L) := Int.pow_pos (by decide)
  have m1 : p * 64 ^ L ≤ 26 * 64 ^ L := Int.mul_le_mul_of_nonneg_right h5 (by omega)
  have m0 : 0 ≤ p * 64 ^ L := Int.mul_nonneg (by omega) (by omega)
  have r1 : 27 * 64 ^ (L - 1) * 2 ^ (60 - 6 * L) ≤ r * 2 ^ (60 - 6 * L) := Int.mul_le_mul_of_nonneg_right h6 (by omega)
  have r2 : r * 2 ^ (60 - 6 * L) < 53 * 64 ^ (L - 1) * 2 ^ (60 - 6 * L) := Int.mul_lt_mul_of_pos_right h7 z0
  rw [Int.mul_assoc, u2] at r1 r2
  refine ⟨p, h4, h5, ?_, fun G Q hQ => ?_⟩
  · have hU := U_lush (a := c) (k := 59) (by omega) (by omega)
    have e : (2 : Int) ^ (59 : Int).toNat = 576460752303423488 := rfl
    rw [e, h10] at hU
    have i := inL_lush c 59
    unfold cpk
    unfold U at hU
    unfold inL at i
    generalize lush c 59 = y at hU i ⊢
    generalize r * 2 ^ (60 - 6 * L) = w at hU r1 r2
    omega
  · unfold PX13_pack PX13_pack_0 PX13_packageOf PX13_packageOf_0
    refine ⟨100, by omega, fun _ => ?_⟩
    have ex : land v (-2305843009213693953) = p * 64 ^ L + r := by
      rw [h9]
      exact land_61 (by omega) (by omega)
    rw [ex]
    exact rpack_loop ⟨h4, h5⟩ (fun _ => hQ) L 100 v r _ 0 (by omega) (by omega) (by omega) rfl (by omega)
end PK2

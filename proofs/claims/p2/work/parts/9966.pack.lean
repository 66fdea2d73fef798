section PK1
-- a class's package, in both
variable {G : gS} {Q : Int → gS → Prop}
theorem land_63 {x : Int} (h0 : 0 ≤ x) (h1 : x < 9223372036854775808) : land x 63 = x % 64 := by
  obtain ⟨n, rfl⟩ := Int.eq_ofNat_of_zero_le h0
  have hn : n < 9223372036854775808 := by omega
  have e : (Int64.ofInt (n : Int) &&& Int64.ofInt 63) = Int64.ofInt ((n % 64 : Nat) : Int) := by
    apply Int64.toBitVec.inj
    rw [Int64.toBitVec_and]
    apply BitVec.eq_of_toNat_eq
    rw [BitVec.toNat_and]
    have a1 : (Int64.ofInt (n : Int)).toBitVec.toNat = n := by
      simp [Int64.toBitVec_ofInt]
      omega
    have a2 : (Int64.ofInt (63 : Int)).toBitVec.toNat = 63 := by decide
    have a3 : (Int64.ofInt ((n % 64 : Nat) : Int)).toBitVec.toNat = n % 64 := by
      simp [Int64.toBitVec_ofInt]
      omega
    rw [a1, a2, a3]
    exact Nat.and_two_pow_sub_one_eq_mod n 6
  unfold land
  rw [e]
  rw [Int64.toInt_ofInt_of_le (by omega) (by omega)]
  omega
theorem nat_and (k n : Nat) (hn : n < 2 ^ k) : (2 ^ k * 1 + n) &&& (2 ^ k * 6 + (2 ^ k - 1)) = n := by
  have hp : 0 < 2 ^ k := Nat.two_pow_pos k
  apply Nat.eq_of_testBit_eq
  intro j
  rw [Nat.testBit_and, Nat.testBit_two_pow_mul_add 1 hn, Nat.testBit_two_pow_mul_add 6 (show 2 ^ k - 1 < 2 ^ k by omega)]
  by_cases hj : j < k
  · rw [if_pos hj, if_pos hj, Nat.testBit_two_pow_sub_one]
    simp [hj]
  · rw [if_neg hj, if_neg hj]
    have hz : n.testBit j = false := Nat.testBit_lt_two_pow (Nat.lt_of_lt_of_le hn (Nat.pow_le_pow_right (by decide) (by omega)))
    rw [hz, ← Nat.testBit_and]
    show Nat.testBit 0 _ = false
    exact Nat.zero_testBit _
theorem land_61 {x : Int} (h0 : 0 ≤ x) (h1 : x < 2305843009213693952) : land (x + 2305843009213693952) (-2305843009213693953) = x := by
  obtain ⟨n, rfl⟩ := Int.eq_ofNat_of_zero_le h0
  have hn : n < 2 ^ 61 := by omega
  have a1 : (Int64.ofInt ((n : Int) + 2305843009213693952)).toBitVec.toNat = 2 ^ 61 * 1 + n := by
    have h := UofInt ((n : Int) + 2305843009213693952)
    rw [U_id (by omega) (by omega)] at h
    generalize (Int64.ofInt ((n : Int) + 2305843009213693952)).toBitVec.toNat = z at h ⊢
    omega
  have a2 : (Int64.ofInt (-2305843009213693953 : Int)).toBitVec.toNat = 2 ^ 61 * 6 + (2 ^ 61 - 1) := by
    have h := UofInt (-2305843009213693953)
    unfold U at h
    generalize (Int64.ofInt (-2305843009213693953 : Int)).toBitVec.toNat = z at h ⊢
    omega
  have a3 : (Int64.ofInt (n : Int)).toBitVec.toNat = n := by
    have h := UofInt (n : Int)
    rw [U_id (by omega) (by omega)] at h
    generalize (Int64.ofInt (n : Int)).toBitVec.toNat = z at h ⊢
    omega
  have e : (Int64.ofInt ((n : Int) + 2305843009213693952) &&& Int64.ofInt (-2305843009213693953)) = Int64.ofInt (n : Int) := by
    apply Int64.toBitVec.inj
    rw [Int64.toBitVec_and]
    apply BitVec.eq_of_toNat_eq
    rw [BitVec.toNat_and, a1, a2, a3]
    exact nat_and 61 n hn
  unfold land
  rw [e, Int64.toInt_ofInt_of_le (by omega) (by omega)]
end PK1

section BT
-- what steps on longs and ints are as sums and products
def U (x : Int) : Int := x % 18446744073709551616
theorem U_b (x : Int) : 0 ≤ U x ∧ U x < 18446744073709551616 := by unfold U; omega
theorem U_id {x : Int} (h0 : 0 ≤ x) (h1 : x < 18446744073709551616) : U x = x := by unfold U; omega
theorem U64 (x : Int64) : U x.toInt = (x.toBitVec.toNat : Int) := by
  have h := BitVec.toInt_eq_toNat_cond x.toBitVec
  have h2 := x.toBitVec.isLt
  unfold U
  show x.toBitVec.toInt % _ = _
  rw [h]
  split <;> omega
theorem UofInt (a : Int) : ((Int64.ofInt a).toBitVec.toNat : Int) = U a := by
  show ((BitVec.ofInt 64 a).toNat : Int) = _
  rw [BitVec.toNat_ofInt]
  unfold U
  omega
theorem U_inj {a b : Int} (ha : inL a) (hb : inL b) (h : U a = U b) : a = b := by unfold U inL at *; omega
theorem sh63 : ∀ k : Nat, k < 64 → ((Int32.ofInt k).toInt64 &&& 63) = Int64.ofNat k := by decide +kernel
theorem sm64 : ∀ k : Nat, k < 64 → ((Int64.ofNat k).toBitVec.smod 64).toNat = k := by decide +kernel
theorem sh63i {k : Int} (h0 : 0 ≤ k) (h1 : k < 64) : ((Int32.ofInt k).toInt64 &&& 63) = Int64.ofNat k.toNat := by
  have := sh63 k.toNat (by omega)
  rwa [Int.toNat_of_nonneg h0] at this
theorem U_lshl {a k : Int} (h0 : 0 ≤ k) (h1 : k < 64) : U (lshl a k) = (U a * 2 ^ k.toNat) % 18446744073709551616 := by
  unfold lshl
  rw [U64, sh63i h0 h1, Int64.toBitVec_shiftLeft, BitVec.shiftLeft_eq', sm64 _ (by omega), BitVec.toNat_shiftLeft, Nat.shiftLeft_eq, ← UofInt a, Int.natCast_emod, Int.natCast_mul, Int.natCast_pow]
  rfl
theorem U_lor {a b : Int} {k m : Nat} (h : U a = 2 ^ k * m) (hb : U b < 2 ^ k) : U (lor a b) = U a + U b := by
  unfold lor
  rw [U64, Int64.toBitVec_or, BitVec.toNat_or, ← UofInt a, ← UofInt b]
  rw [← UofInt a] at h
  rw [← UofInt b] at hb
  have h' : (Int64.ofInt a).toBitVec.toNat = 2 ^ k * m := by
    have : (((Int64.ofInt a).toBitVec.toNat : Nat) : Int) = ((2 ^ k * m : Nat) : Int) := by rw [h]; simp
    exact Int.ofNat.inj this
  have hb' : (Int64.ofInt b).toBitVec.toNat < 2 ^ k := by
    have : (((Int64.ofInt b).toBitVec.toNat : Nat) : Int) < ((2 ^ k : Nat) : Int) := by simpa using hb
    exact Int.ofNat_lt.mp this
  rw [h', ← Nat.two_pow_add_eq_or_of_lt hb' m]
  simp
theorem U_lush {a k : Int} (h0 : 0 ≤ k) (h1 : k < 64) : U (lush a k) = U a / 2 ^ k.toNat := by
  unfold lush
  have e : ((Int32.ofInt k).toInt64.toUInt64 &&& Int64.toUInt64 63) = UInt64.ofNat k.toNat := by
    have : ∀ k : Nat, k < 64 → ((Int32.ofInt k).toInt64.toUInt64 &&& Int64.toUInt64 63) = UInt64.ofNat k := by decide +kernel
    have := this k.toNat (by omega)
    rwa [Int.toNat_of_nonneg h0] at this
  rw [U64, e]
  show (((Int64.ofInt a).toUInt64 >>> UInt64.ofNat k.toNat).toBitVec.toNat : Int) = _
  rw [UInt64.toBitVec_shiftRight, BitVec.ushiftRight_eq', BitVec.toNat_ushiftRight, Nat.shiftRight_eq_div_pow]
  have e2 : (UInt64.ofNat k.toNat).toBitVec % 64 = BitVec.ofNat 64 k.toNat := by
    have : ∀ k : Nat, k < 64 → (UInt64.ofNat k).toBitVec % 64 = BitVec.ofNat 64 k := by decide +kernel
    exact this _ (by omega)
  rw [e2, BitVec.toNat_ofNat, Nat.mod_eq_of_lt (show k.toNat < 2 ^ 64 by omega), ← UofInt a]
  simp
theorem iand255 {x : Int} (h : -128 ≤ x ∧ x < 128) : iand x 255 = x % 256 := by
  unfold iand
  have e : Int32.ofInt x &&& Int32.ofInt 255 = Int32.ofInt (x % 256) := by
    apply Int32.toBitVec_inj.mp
    apply BitVec.eq_of_toNat_eq
    show (BitVec.ofInt 32 x &&& BitVec.ofInt 32 255).toNat = (BitVec.ofInt 32 (x % 256)).toNat
    rw [BitVec.toNat_and, BitVec.toNat_ofInt, BitVec.toNat_ofInt, BitVec.toNat_ofInt]
    show (x % 4294967296).toNat &&& (2 ^ 8 - 1) = _
    rw [Nat.and_two_pow_sub_one_eq_mod]
    show (x % 4294967296).toNat % 256 = (x % 256 % 4294967296).toNat
    omega
  rw [e, ti_I ⟨by omega, by omega⟩]
end BT

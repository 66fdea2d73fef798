section BU1
-- where a build's rows and members lie: the b-th build at 985 + 888 b
def bd (b : Int) : Int := 985 + 888 * b
def rw_ (b k : Int) : Int := 985 + 888 * b + 2 + 5 * k
def mb (b k : Int) : Int := 985 + 888 * b + 63 + 2 * k
def nil0 (l : List Nat) : Bool := match l with
  | [] => true
  | _ :: _ => false
theorem nil0_ok {l : List Nat} (h : nil0 l = true) : l = [] := by
  cases l with
  | nil => rfl
  | cons a l => exact Bool.noConfusion (show false = true from h)
theorem fin_none {c : Nat} {c' : Int} (hc : c' = c) (h : f0 c = []) : ∀ i, W0.2 c' i = none := fun i => by
  subst hc
  show zfin c i = none
  unfold zfin
  by_cases z : (c : Int) < 0 ∨ i < 0
  · rw [if_pos z]
  · rw [if_neg z, Int.toNat_natCast, h]
    cases i.toNat <;> rfl
noncomputable def ckB (b : Nat) : Bool := k3 (k0 (985 + 888 * b)) (0, 1, nF 1) && (k3 (k0 (985 + 888 * b + 1)) (5, 0, 12) && (k3 (k0 (985 + 888 * b + 62)) (6, 0, 408) && (Nat.beq (rx_nth (f0 (985 + 888 * b)) 2 0) (985 + 888 * b + 1 + 1) && Nat.beq (rx_nth (f0 (985 + 888 * b)) 4 0) (985 + 888 * b + 62 + 1))))
noncomputable def ckR (b k : Nat) : Bool := k3 (k0 (985 + 888 * b + 2 + 5 * k)) (0, 10, nF 10) && (k3 (k0 (985 + 888 * b + 2 + 5 * k + 1)) (2, 0, 24) && (k3 (k0 (985 + 888 * b + 2 + 5 * k + 2)) (1, 0, 3) && (k3 (k0 (985 + 888 * b + 2 + 5 * k + 3)) (6, 0, 20) && (k3 (k0 (985 + 888 * b + 2 + 5 * k + 4)) (6, 0, 33) && (Nat.beq (rx_nth (f0 (985 + 888 * b + 1)) k 0) (985 + 888 * b + 2 + 5 * k + 1) && (nil0 (f0 (985 + 888 * b + 2 + 5 * k + 2)) && (nil0 (f0 (985 + 888 * b + 2 + 5 * k + 3)) && nil0 (f0 (985 + 888 * b + 2 + 5 * k + 4)))))))))
noncomputable def ckM (b k : Nat) : Bool := k3 (k0 (985 + 888 * b + 63 + 2 * k)) (0, 7, nF 7) && (k3 (k0 (985 + 888 * b + 63 + 2 * k + 1)) (2, 0, 4) && (Nat.beq (rx_nth (f0 (985 + 888 * b + 62)) k 0) (985 + 888 * b + 63 + 2 * k + 1) && nil0 (f0 (985 + 888 * b + 63 + 2 * k + 1))))
set_option maxRecDepth 100000 in
theorem ckB_ok : allN ckB 17 = true := by decide +kernel
set_option maxRecDepth 100000 in
theorem ckR_ok : allN (fun b => allN (ckR b) 12) 17 = true := by decide +kernel
set_option maxRecDepth 100000 in
theorem ckM_ok : allN (fun b => allN (ckM b) 408) 17 = true := by decide +kernel
theorem fin_some {c j v : Nat} {c' j' v' : Int} (h : Nat.beq (rx_nth (f0 c) j 0) (v + 1) = true) (hc : c' = c) (hj : j' = j) (hv : v' = v) : W0.2 c' j' = some v' := by
  subst hc hj hv
  exact zfin_at (rx_beq h)
theorem and_b {a b : Bool} (h : (a && b) = true) : a = true ∧ b = true := Bool.and_eq_true_iff.mp h
theorem bd_ok {b : Int} (h0 : 0 ≤ b) (h1 : b < 17) : isO W0 1 (bd b) ∧ isA W0 4 12 (bd b + 1) ∧ isA W0 5 408 (bd b + 62) ∧ W0.2 (bd b) 2 = some (bd b + 1) ∧ W0.2 (bd b) 4 = some (bd b + 62) := by
  obtain ⟨n, rfl⟩ : ∃ n : Nat, b = n := ⟨b.toNat, by omega⟩
  have h := allN_ok ckB_ok n (by omega)
  obtain ⟨q1, h⟩ := and_b h
  obtain ⟨q2, h⟩ := and_b h
  obtain ⟨q3, h⟩ := and_b h
  obtain ⟨q4, q5⟩ := and_b h
  unfold bd
  exact ⟨mkO (c := 985 + 888 * n) (by omega) (by omega) (k3_ok q1), mkA (c := 985 + 888 * n + 1) (by omega) (by omega) (k3_ok q2), mkA (c := 985 + 888 * n + 62) (by omega) (by omega) (k3_ok q3), fin_some q4 (by omega) rfl (by omega), fin_some q5 (by omega) rfl (by omega)⟩
theorem rw_ok {b k : Int} (h0 : 0 ≤ b) (h1 : b < 17) (k0' : 0 ≤ k) (k1 : k < 12) : isO W0 10 (rw_ b k) ∧ isA W0 1 24 (rw_ b k + 1) ∧ isA W0 0 3 (rw_ b k + 2) ∧ isA W0 5 20 (rw_ b k + 3) ∧ isA W0 5 33 (rw_ b k + 4) ∧ W0.2 (bd b + 1) k = some (rw_ b k) ∧ (∀ i, W0.2 (rw_ b k + 2) i = none) ∧ (∀ i, W0.2 (rw_ b k + 3) i = none) ∧ (∀ i, W0.2 (rw_ b k + 4) i = none) := by
  obtain ⟨n, rfl⟩ : ∃ n : Nat, b = n := ⟨b.toNat, by omega⟩
  obtain ⟨m, rfl⟩ : ∃ m : Nat, k = m := ⟨k.toNat, by omega⟩
  have h := allN_ok (allN_ok ckR_ok n (by omega)) m (by omega)
  obtain ⟨q1, h⟩ := and_b h
  obtain ⟨q2, h⟩ := and_b h
  obtain ⟨q3, h⟩ := and_b h
  obtain ⟨q4, h⟩ := and_b h
  obtain ⟨q5, h⟩ := and_b h
  obtain ⟨q6, h⟩ := and_b h
  obtain ⟨q7, h⟩ := and_b h
  obtain ⟨q8, q9⟩ := and_b h
  unfold bd rw_
  exact ⟨mkO (c := 985 + 888 * n + 2 + 5 * m) (by omega) (by omega) (k3_ok q1), mkA (c := 985 + 888 * n + 2 + 5 * m + 1) (by omega) (by omega) (k3_ok q2), mkA (c := 985 + 888 * n + 2 + 5 * m + 2) (by omega) (by omega) (k3_ok q3), mkA (c := 985 + 888 * n + 2 + 5 * m + 3) (by omega) (by omega) (k3_ok q4), mkA (c := 985 + 888 * n + 2 + 5 * m + 4) (by omega) (by omega) (k3_ok q5), fin_some q6 (by omega) rfl (by omega), fin_none (by omega) (nil0_ok q7), fin_none (by omega) (nil0_ok q8), fin_none (by omega) (nil0_ok q9)⟩
theorem mb_ok {b k : Int} (h0 : 0 ≤ b) (h1 : b < 17) (k0' : 0 ≤ k) (k1 : k < 408) : isO W0 7 (mb b k) ∧ isA W0 1 4 (mb b k + 1) ∧ W0.2 (bd b + 62) k = some (mb b k) ∧ ∀ i, W0.2 (mb b k + 1) i = none := by
  obtain ⟨n, rfl⟩ : ∃ n : Nat, b = n := ⟨b.toNat, by omega⟩
  obtain ⟨m, rfl⟩ : ∃ m : Nat, k = m := ⟨k.toNat, by omega⟩
  have h := allN_ok (allN_ok ckM_ok n (by omega)) m (by omega)
  obtain ⟨q1, h⟩ := and_b h
  obtain ⟨q2, h⟩ := and_b h
  obtain ⟨q3, q4⟩ := and_b h
  unfold bd mb
  exact ⟨mkO (c := 985 + 888 * n + 63 + 2 * m) (by omega) (by omega) (k3_ok q1), mkA (c := 985 + 888 * n + 63 + 2 * m + 1) (by omega) (by omega) (k3_ok q2), fin_some q3 (by omega) rfl (by omega), fin_none (by omega) (nil0_ok q4)⟩
end BU1

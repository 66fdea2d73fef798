theorem z_step {P : Nat → Prop} {n : Nat} (h : ∀ j, j < n → P j) (p : P n) : ∀ j, j < n + 1 → P j := fun j hj => by
  rcases Nat.lt_or_ge j n with q | q
  · exact h j q
  · rw [show j = n by omega]; exact p
noncomputable def zq_ok (o : Option (Nat × rx_H)) : Bool := match o with
  | some (r, (n, z, _, _)) => Bool.rec (motive := fun _ => Bool) false (Bool.rec (motive := fun _ => Bool) false (Nat.ble z 7302250) (Nat.ble n 600000)) (Nat.beq r 8)
  | none => false
theorem zq_ok_ok {o : Option (Nat × rx_H)} (h : zq_ok o = true) : ∃ h', o = some (8, h') ∧ h'.1 ≤ 600000 ∧ h'.2.1 ≤ 7302250 := by
  cases o with
  | none => cases h
  | some q =>
    obtain ⟨r, n, z, iv, t⟩ := q
    obtain ⟨h1, h⟩ := zq_and h
    obtain ⟨h2, h3⟩ := zq_and h
    rw [rx_beq h1]
    exact ⟨_, rfl, Nat.le_of_ble_eq_true h2, Nat.le_of_ble_eq_true h3⟩
-- the codes of a script of which this is known
def zsc1 (k : Nat) (iv : List (Int × Int)) : List Nat := match iv with
  | (lo, hi) :: r => (if lo = hi then 8 * (lo % 4294967296).toNat else 8 * k + 4) :: zsc1 (k + 1) r
  | [] => []
def zsc (iv : List (Int × Int)) : List Nat := 7 :: zsc1 0 iv
noncomputable def zrun (w : Nat) (iv : List (Int × Int)) (sc : List Nat) : Bool := zq_ok (fL sc w 6 [100, 2, 128650, 7] [] (16217, 2233841, iv, zE))
def zlf (w : Nat) (iv : List (Int × Int)) : Prop := zrun w iv (zsc iv) = true
theorem zlf_of {w : Nat} {iv : List (Int × Int)} {sc : List Nat} (hs : zsc iv = sc) (h : zrun w iv sc = true) : zlf w iv := by
  unfold zlf
  rw [hs]
  exact h
def zbox (iv : List (Int × Int)) (x : Nat → Int) : Prop := iv.length = 5 ∧ ∀ (k : Nat) (lo hi : Int), iv[k]? = some (lo, hi) → k < 5 ∧ lo ≤ x k ∧ x k ≤ hi
def zcov (w : Nat) : Prop := ∀ (P : Prop) (x : Nat → Int), (∀ k, -2147483648 ≤ x k ∧ x k ≤ 2147483647) → (∀ iv, zlf w iv → zbox iv x → P) → P
theorem zbox5 {x : Nat → Int} {a0 b0 a1 b1 a2 b2 a3 b3 a4 b4 : Int} (h0 : a0 ≤ x 0 ∧ x 0 ≤ b0) (h1 : a1 ≤ x 1 ∧ x 1 ≤ b1) (h2 : a2 ≤ x 2 ∧ x 2 ≤ b2) (h3 : a3 ≤ x 3 ∧ x 3 ≤ b3) (h4 : a4 ≤ x 4 ∧ x 4 ≤ b4) : zbox [(a0, b0), (a1, b1), (a2, b2), (a3, b3), (a4, b4)] x := by
  refine ⟨rfl, fun k lo hi hk => ?_⟩
  match k, hk with
  | 0, hk => cases hk; exact ⟨by decide, h0⟩
  | 1, hk => cases hk; exact ⟨by decide, h1⟩
  | 2, hk => cases hk; exact ⟨by decide, h2⟩
  | 3, hk => cases hk; exact ⟨by decide, h3⟩
  | 4, hk => cases hk; exact ⟨by decide, h4⟩
  | k + 5, hk => exact absurd hk (by simp)

section LW9
-- the class's text: n bytes t of the tape's row; k tokens are there
def CB (G : gS) (n k : Int) (t : Int → Int) : Prop := G 7 6 = 1 ∧ G 7 7 = n ∧ G 7 5 = k ∧ ∀ i, 0 ≤ i → i < n → G 1 i = t i
def WC (G : gS) : Prop := ∀ w, 0 ≤ w → w < 30 → G 8 w = cwd w
def FC (G G' : gS) (k : Int) : Prop := ∀ c j, ¬ ((c = 9 ∨ c = 12) ∧ j = k) → G' c j = G c j
theorem FC_id (G : gS) (k : Int) : FC G G k := fun _ _ _ => rfl
theorem FC_up {G G' : gS} {k c v : Int} (h : FC G G' k) (hc : c = 9 ∨ c = 12) : FC G (uG G' c k v) k := fun c' j' q => by
  rw [uG_ne (by omega)]
  exact h c' j' q
theorem FC_CB {G G' : gS} {x n k : Int} {t : Int → Int} (h : FC G G' x) (hb : CB G n k t) : CB G' n k t := by
  obtain ⟨h1, h2, h3, h4⟩ := hb
  exact ⟨by rw [h _ _ (by omega)]; exact h1, by rw [h _ _ (by omega)]; exact h2, by rw [h _ _ (by omega)]; exact h3, fun i a b => by rw [h _ _ (by omega)]; exact h4 i a b⟩
theorem FC_WC {G G' : gS} {x : Int} (h : FC G G' x) (hw : WC G) : WC G' := fun w a b => by rw [h _ _ (by omega)]; exact hw w a b
variable {G : gS} {Q : Int → gS → Prop} {t : Int → Int} {n k : Int}
theorem sX9_scanNumber {i : Int} (hb : CB G n k t) (ht : Tx t n) (h0 : 0 ≤ i) (h1 : i < n) (k0 : 0 ≤ k) (k1 : k < 704) (hQ : ∀ e kd cd, Ne t i e → e ≤ n → (9 < e - i → kd = 1) → (¬ 9 < e - i → kd = 4 ∧ cd = nv t i (e - i).toNat) → Q e (uG (uG G 9 k kd) 12 k cd)) : PX9_scanNumber i G Q := by
  have hn := ht.2.1
  obtain ⟨b1, b2, b3, b4⟩ := hb
  refine ⟨4000000000, Nat.le_refl _, ?_⟩
  show PX9_scanNumber_4 (PX9_scanNumber_J 4000000000) i i 0 G Q
  refine lpB (B := BX9_scanNumber) (PJ := PX9_scanNumber_J) (fun _ _ _ _ _ => rfl) (fun m h L G' => h = 0 ∧ G' = G ∧ ∃ l : Int, L = [i, l, nv t i (if l - i < 9 then (l - i).toNat else 9)] ∧ i ≤ l ∧ l ≤ n ∧ (m : Int) = n - l ∧ ∀ j, i ≤ j → j < l → dg (t j)) ?_ 4000000000 (n - i).toNat 0 [i, i, 0] G (by omega) ⟨rfl, rfl, i, by rw [if_pos (by omega), show (i - i).toNat = 0 by omega]; rfl, by omega, by omega, by omega, fun j _ _ => by omega⟩
  rintro J m h L G' ⟨rfl, e, l, rfl, i1, i2, i3, i4⟩ hj
  subst e
  generalize hv : nv t i (if l - i < 9 then (l - i).toNat else 9) = v at *
  show PX9_scanNumber_4 J i l v _ Q
  have fin : ¬ dg (t l) → PX9_scanNumber_69 J i l v G' Q := fun z => by
    unfold PX9_scanNumber_69 PX9_scanNumber_90
    rw [b3]
    refine fun _ => ⟨by unfold inI; omega, fun q => ⟨704, aC9, k0, k1, fun G1 e1 => ?_⟩, fun q => ⟨704, aC9, k0, k1, fun G1 e1 => ?_⟩⟩
    · subst e1
      rw [uG_c (c' := 7) (by decide), b3]
      refine fun _ => ⟨k0, k1, fun G2 e2 => ?_⟩
      subst e2
      exact hQ l 1 v ⟨i1, i4, z⟩ i2 (fun _ => rfl) (fun y => absurd q y)
    · subst e1
      rw [uG_c (c' := 7) (by decide), b3]
      refine fun _ => ⟨k0, k1, fun G2 e2 => ?_⟩
      subst e2
      refine hQ l 4 v ⟨i1, i4, z⟩ i2 (fun y => absurd y q) (fun _ => ⟨rfl, ?_⟩)
      rw [← hv]
      split
      · rfl
      · rw [show (l - i).toNat = 9 by omega]
  unfold PX9_scanNumber_4 PX9_scanNumber_62
  rw [b1, b2]
  refine fun _ => ⟨fun q => fun _ => ⟨4000, aC1, by omega, by omega, fun _ => ?_⟩, fun q => fin (by rw [show l = n by omega, ht.2.2.1 n (by omega)]; unfold dg; omega)⟩
  rw [b4 l (by omega) q]
  refine ⟨fun q2 => fin (by unfold dg; omega), fun q2 => fun _ => ⟨4000, aC1, by omega, by omega, fun _ => ⟨fun q3 => fin (by unfold dg; omega), fun q3 => ⟨by unfold inI; omega, fun q4 => fun _ => ⟨4000, aC1, by omega, by omega, fun _ => ?_⟩, fun q4 => ?_⟩⟩⟩⟩
  · rw [if_pos q4] at hv
    have hd : dg (t l) := by unfold dg; omega
    have b := nv_b (t := t) (i := i) (l - i).toNat (fun j a b => i4 j a (by omega))
    have b2 := p10 (l - i).toNat (by omega)
    rw [hv] at b
    refine ⟨by unfold inI; omega, by unfold inL; omega, by unfold inI; omega, ?_⟩
    refine hj (m - 1) 0 _ _ (by omega) ⟨rfl, rfl, l + 1, ?_, by omega, by omega, by omega, fun j a b => ?_⟩
    · have e9 : (if l + 1 - i < 9 then (l + 1 - i).toNat else 9) = (l - i).toNat + 1 := by split <;> omega
      rw [e9]
      unfold nv
      rw [hv, show i + ((l - i).toNat : Int) = l by omega, Int.mul_comm 10 v]
    · rcases (show j < l ∨ j = l by omega) with y | y
      · exact i4 j a y
      · rw [y]; exact hd
  · rw [if_neg q4] at hv
    have hd : dg (t l) := by unfold dg; omega
    refine ⟨by unfold inI; omega, ?_⟩
    refine hj (m - 1) 0 _ _ (by omega) ⟨rfl, rfl, l + 1, ?_, by omega, by omega, by omega, fun j a b => ?_⟩
    · rw [if_neg (by omega), hv]
    · rcases (show j < l ∨ j = l by omega) with y | y
      · exact i4 j a y
      · rw [y]; exact hd
-- a letter more in a packed name
theorem pack {l3 D v s : Int} (q : Nat) (hq : 1 ≤ q ∧ q ≤ 9) (hD : ∃ d, D = d * 18014398509481984) (h : U l3 = v * 2 ^ (60 - 6 * q) + D) (hs : 0 ≤ s ∧ s < 64) : U (lor l3 (lshl s (54 - 6 * (q : Int)))) = (64 * v + s) * 2 ^ (54 - 6 * q) + D := by
  obtain ⟨d, rfl⟩ := hD
  have hb := U_b l3
  have key : ∀ (a b : Nat), a = 60 - 6 * q → b = 54 - 6 * q → ∀ K : Int, K = 2 ^ b → U l3 = v * (64 * K) + d * 18014398509481984 → (∃ z : Int, 18014398509481984 = z * (64 * K)) → 0 < K → K ≤ 281474976710656 → (2 : Int) ^ a = 64 * K → U (lor l3 (lshl s (54 - 6 * (q : Int)))) = (64 * v + s) * K + d * 18014398509481984 := by
    intro a b ha hb2 K hK hU hz hK0 hK1 ha2
    obtain ⟨z, hz⟩ := hz
    have e1 : U (lshl s (54 - 6 * (q : Int))) = s * K := by
      rw [U_lshl (by omega) (by omega), U_id hs.1 (by omega), show (54 - 6 * (q : Int)).toNat = b by omega, ← hK]
      have m1 : s * K ≤ 63 * 281474976710656 := Int.mul_le_mul (by omega) hK1 (by omega) (by omega)
      have m0 : 0 ≤ s * K := Int.mul_nonneg hs.1 (by omega)
      omega
    have m2 : s * K < 64 * K := Int.mul_lt_mul_of_pos_right (by omega) hK0
    have e2 : U l3 = 2 ^ a * (v + d * z) := by
      rw [hU, ha2, hz]
      rw [Int.mul_comm (64 * K) (v + d * z), Int.add_mul, Int.mul_assoc d z]
    have hm : 0 ≤ v + d * z := by
      rcases (show 0 ≤ v + d * z ∨ v + d * z < 0 by omega) with w | w
      · exact w
      · have : 2 ^ a * (v + d * z) < 0 := Int.mul_neg_of_pos_of_neg (by rw [ha2]; omega) w
        omega
    rw [U_lor (k := a) (m := (v + d * z).toNat) (by rw [e2, Int.toNat_of_nonneg hm]) (by rw [e1, ha2]; exact m2), e1, hU]
    rw [Int.add_mul, Int.mul_comm 64 v, Int.mul_assoc]
    omega
  rcases (show q = 1 ∨ q = 2 ∨ q = 3 ∨ q = 4 ∨ q = 5 ∨ q = 6 ∨ q = 7 ∨ q = 8 ∨ q = 9 by omega) with e | e | e | e | e | e | e | e | e <;> subst e
  · exact key 54 48 rfl rfl _ rfl (by rw [h]; rfl) ⟨1, by decide⟩ (by decide) (by decide) (by decide)
  · exact key 48 42 rfl rfl _ rfl (by rw [h]; rfl) ⟨64, by decide⟩ (by decide) (by decide) (by decide)
  · exact key 42 36 rfl rfl _ rfl (by rw [h]; rfl) ⟨4096, by decide⟩ (by decide) (by decide) (by decide)
  · exact key 36 30 rfl rfl _ rfl (by rw [h]; rfl) ⟨262144, by decide⟩ (by decide) (by decide) (by decide)
  · exact key 30 24 rfl rfl _ rfl (by rw [h]; rfl) ⟨16777216, by decide⟩ (by decide) (by decide) (by decide)
  · exact key 24 18 rfl rfl _ rfl (by rw [h]; rfl) ⟨1073741824, by decide⟩ (by decide) (by decide) (by decide)
  · exact key 18 12 rfl rfl _ rfl (by rw [h]; rfl) ⟨68719476736, by decide⟩ (by decide) (by decide) (by decide)
  · exact key 12 6 rfl rfl _ rfl (by rw [h]; rfl) ⟨4398046511104, by decide⟩ (by decide) (by decide) (by decide)
  · exact key 6 0 rfl rfl _ rfl (by rw [h]; rfl) ⟨281474976710656, by decide⟩ (by decide) (by decide) (by decide)
end LW9

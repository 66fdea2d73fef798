section LWB
-- a token of the class that begins at i: where it ends, its kind, its code
def CTok (t : Int → Int) (i e kd cd : Int) : Prop :=
  (isCl t i → We t (i + 2) e ∧ (11 < e - i → kd = 1) ∧ (¬ 11 < e - i → kd = 2 ∧ inL cd ∧ U cd = gv 0 t (i + 2) (e - (i + 2)).toNat * 2 ^ (60 - 6 * (e - (i + 2)).toNat) + ((sy (t i) - 1) * 576460752303423488 - 27 * 18014398509481984))) ∧
  (isSm t i → ¬ isCl t i → We t i e ∧ (10 < e - i → kd = 1) ∧ (¬ 10 < e - i → inL cd ∧ U cd = gv 0 t i (e - i).toNat * 2 ^ (60 - 6 * (e - i).toNat) - 18014398509481984 ∧ ((∃ w, 0 ≤ w ∧ w < 30 ∧ cwd w = cd ∧ kd = 10 + w) ∨ kd = 3 ∧ ∀ w, 0 ≤ w → w < 30 → cwd w ≠ cd))) ∧
  (dg (t i) → Ne t i e ∧ (9 < e - i → kd = 1) ∧ (¬ 9 < e - i → kd = 4 ∧ cd = nv t i (e - i).toNat)) ∧
  (¬ isSm t i → ¬ dg (t i) → (t i = 61 ∧ t (i + 1) = 61 → e = i + 2 ∧ kd = 99) ∧ (¬ (t i = 61 ∧ t (i + 1) = 61) → e = i + 1 ∧ (sg (t i) → kd = 100 + t i) ∧ (¬ sg (t i) → kd = 1)))
variable {G : gS} {Q : Int → gS → Prop} {t : Int → Int} {n k : Int}
theorem shl_k {x K : Int} (k : Nat) (hk : k < 64) (hK : K = 2 ^ k) (h0 : 0 ≤ x) (h1 : x * K < 18446744073709551616) : U (lshl x k) = x * K := by
  have hp : (0 : Int) < K := by rw [hK]; exact Int.pow_pos (by omega)
  have h2 : 0 ≤ x * K := Int.mul_nonneg h0 (by omega)
  have h3 : x ≤ x * K := by
    have := Int.mul_le_mul_of_nonneg_left (show (1 : Int) ≤ K by omega) h0
    omega
  rw [U_lshl (by omega) (by omega), U_id h0 (by omega), show (k : Int).toNat = k by omega, ← hK]
  omega
theorem sX9_scanName {i : Int} (hb : CB G n k t) (ht : Tx t n) (hw : WC G) (h0 : 0 ≤ i) (h1 : i < n) (k0 : 0 ≤ k) (k1 : k < 704) (hs : isSm t i) (hQ : ∀ e G', CTok t i e (G' 9 k) (G' 12 k) → FC G G' k → e ≤ n → i < e → Q e G') : PX9_scanName i G Q := by
  have hn := ht.2.1
  have hi := ht.2.2.2 i
  have hi1 := ht.2.2.2 (i + 1)
  have hi2 := ht.2.2.2 (i + 2)
  have hb' := hb
  obtain ⟨b1, b2, b3, b4⟩ := hb
  have sm := hs
  unfold isSm at hs
  have nd : ¬ dg (t i) := by unfold dg; omega
  have nx : ∀ j, i ≤ j → t j ≠ 0 → j < n := fun j a b => by
    rcases (show j < n ∨ n ≤ j by omega) with z | z
    · exact z
    · exact absurd (ht.2.2.1 j z) b
  refine ⟨4000000000, Nat.le_refl _, ?_⟩
  have other : ¬ isCl t i → PX9_scanName_53 (PX9_scanName_J 4000000000) i G Q := fun hc => by
    have sv : sy (t i) = t i - 96 := by unfold sy; rw [if_pos hs]
    unfold PX9_scanName_53 PX9_scanName_54 PX9_scanName_104 PX9_scanName_118
    rw [b1]
    refine ⟨fun _ => fun _ => ⟨4000, aC1, by omega, by omega, fun _ => ?_⟩, fun z => absurd rfl z⟩
    rw [b4 i h0 h1]
    refine ⟨by unfold inI; omega, fun _ => ⟨fun _ => ⟨by unfold inI; omega, ?_⟩, fun z => absurd rfl z⟩⟩
    refine nm_all (st := i) (D := -18014398509481984) hb' ht hw h0 k0 k1 (Or.inl ⟨rfl, rfl⟩) h1 (by omega) ⟨-1, by omega⟩ ?_ (in_xL _) (fun e cd G' a1 a2 a3 a4 a5 a6 a7 a8 a9 => ?_)
    · have u0 : U (lshl (t i - 97) 54) = (t i - 97) * 18014398509481984 := shl_k (K := 18014398509481984) 54 (by omega) (by decide) (by omega) (by omega)
      rw [u0, sv]
      omega
    · rw [if_pos rfl] at a8 a9
      refine hQ e G' ⟨fun z => absurd z hc, fun _ _ => ⟨a1, a8, fun z => ?_⟩, fun z => absurd z nd, fun z => absurd sm z⟩ a6 a2 a3
      rw [a7]
      exact ⟨a4, by rw [a5 (by omega)]; omega, (a9 z).2 rfl⟩
  show PX9_scanName_0 (PX9_scanName_J 4000000000) i G Q
  unfold PX9_scanName_0
  rw [b1, b2]
  refine fun _ => ⟨by unfold inI; omega, fun q => fun _ => ⟨4000, aC1, by omega, by omega, fun _ => ?_⟩, fun q => other (fun z => ?_)⟩
  · rw [b4 (i + 1) (by omega) (by omega)]
    refine ⟨fun q2 => fun _ => ⟨4000, aC1, by omega, by omega, fun _ => ?_⟩, fun q2 => other (fun z => q2 z.2.1)⟩
    rw [b4 (i + 2) (by omega) (by omega)]
    refine ⟨fun q3 => other (fun z => by have := z.2.2; omega), fun q3 => fun _ => ⟨4000, aC1, by omega, by omega, fun _ => ⟨fun q4 => other (fun z => by have := z.2.2; omega), fun q4 => ?_⟩⟩⟩
    have hc : isCl t i := ⟨sm, q2, by omega⟩
    have sv : sy (t i) = t i - 96 := by unfold sy; rw [if_pos hs]
    have sv2 : sy (t (i + 2)) = t (i + 2) - 38 := by unfold sy; rw [if_neg (by omega), if_pos (by omega)]
    unfold PX9_scanName_54 PX9_scanName_104 PX9_scanName_118
    rw [b1]
    refine ⟨fun z => absurd z (by decide), fun _ => fun _ => ⟨4000, aC1, by omega, by omega, fun _ => ?_⟩⟩
    rw [b4 i h0 h1]
    refine ⟨by unfold inI; omega, fun _ => fun _ => ⟨4000, aC1, by omega, by omega, fun _ => ?_⟩⟩
    rw [b4 (i + 2) (by omega) (by omega)]
    refine ⟨by unfold inI; omega, fun _ => fun _ => ⟨fun z => absurd z (by decide), fun _ => ⟨by unfold inI; omega, ?_⟩⟩⟩
    have u1 : U (lshl (t i - 97) 59) = (t i - 97) * 576460752303423488 := shl_k (K := 576460752303423488) 59 (by omega) (by decide) (by omega) (by omega)
    have u2 : U (lshl (t (i + 2) - 65) 54) = (t (i + 2) - 65) * 18014398509481984 := shl_k (K := 18014398509481984) 54 (by omega) (by decide) (by omega) (by omega)
    have u3 : U (lor (lshl (t i - 97) 59) (lshl (t (i + 2) - 65) 54)) = (t i - 97) * 576460752303423488 + (t (i + 2) - 65) * 18014398509481984 := by
      rw [U_lor (k := 59) (m := (t i - 97).toNat) (by rw [u1, Int.toNat_of_nonneg (by omega), Int.mul_comm]; rfl) (by rw [u2]; show _ < (576460752303423488 : Int); omega), u1, u2]
    rw [show i + 3 = i + 2 + 1 by omega]
    refine nm_all (st := i + 2) (D := (sy (t i) - 1) * 576460752303423488 - 27 * 18014398509481984) hb' ht hw h0 k0 k1 (Or.inr ⟨rfl, rfl⟩) (by omega) (by omega) ⟨(sy (t i) - 1) * 32 - 27, by omega⟩ ?_ (in_xL _) (fun e cd G' a1 a2 a3 a4 a5 a6 a7 a8 a9 => ?_)
    · rw [u3, sv, sv2]
      omega
    · rw [if_neg (by decide)] at a8 a9
      refine hQ e G' ⟨fun _ => ⟨a1, a8, fun z => ⟨(a9 z).1 rfl, ?_⟩⟩, fun _ z => absurd hc z, fun z => absurd z nd, fun z => absurd sm z⟩ a6 a2 (by omega)
      rw [a7]
      exact ⟨a4, a5 (by omega)⟩
  · have := nx (i + 2) (by omega) (by have := z.2.2; omega)
    exact q this
end LWB

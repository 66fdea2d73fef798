section CHD2
variable {G G0 G1 G' : gS} {Q : Int → gS → Prop}
theorem cwith_loop {b r n p : Int} (hR : RwC G b r n) : ∀ (f F : Nat) (k q : Int) (Q : Int → gS → Prop), f + k = 9 → f + 12 ≤ F → 0 ≤ k → 0 ≤ q → q ≤ 1000 + 2 * k → (∀ v G', (v = 1 ∧ G' = G ∧ withC G b r k ∧ onlyC G b r 0) ∨ (v = 0 ∧ FCj G G' ∧ G' 814 2 ≠ 0 ∧ ¬ (withC G b r k ∧ onlyC G b r 0)) → Q v G') → PX4_within_78 (PX4_within_J F) r p q k G Q
  | 0, F, k, q, Q, h1, hF, _, hq0, hq, hQ => by
    have hR' := hR
    obtain ⟨r1, r2, r3, r4⟩ := hR
    have := r4 1 (by omega) (by omega)
    unfold PX4_within_78
    refine ⟨r3, by omega, by omega, fun _ => ⟨fun z => by omega, fun _ => conly_loop hR' 9 F 0 q Q (by omega) (by omega) (by omega) hq0 (by omega) (fun v G1 hv => hQ v G1 ?_)⟩⟩
    rcases hv with ⟨v1, v2, v3⟩ | ⟨v1, v2, v3, v4⟩
    · exact Or.inl ⟨v1, v2, fun j j0 j1 => by omega, v3⟩
    · exact Or.inr ⟨v1, v2, v3, fun u => v4 u.2⟩
  | f + 1, F, k, q, Q, hf, hF, hk, hq0, hq, hQ => by
    obtain ⟨F', rfl⟩ : ∃ F', F = F' + 1 := ⟨F - 1, by omega⟩
    have hR' := hR
    obtain ⟨r1, r2, r3, r4⟩ := hR
    have h8 := r4 1 (by omega) (by omega)
    have bad : ¬ (cnm G b (G (r + 1) (1 * 8 + k)) ≠ -1 ∧ G (cnm G b (G (r + 1) (1 * 8 + k))) 9 = G r 1) → k < G (r + 2) 1 → ∀ x, PX4_within_123 (PX4_within_J (F' + 1)) r p q k x G Q := fun y z x => by
      unfold PX4_within_123
      exact ⟨by unfold inI; omega, cfail_ok (by decide) (fun G1 f1 u1 => fun _ => hQ 0 G1 (Or.inr ⟨rfl, f1, u1, fun u => y (u.1 k (by omega) z)⟩))⟩
    unfold PX4_within_78 PX10_listedAt PX10_listedAt_0
    refine ⟨r3, by omega, by omega, fun _ => ⟨fun z => fun _ => ⟨r3, by omega, by omega, fun _ => fun _ => ⟨by rw [r1]; exact r2.1, ?_⟩⟩, fun z => conly_loop hR' 9 (F' + 1) 0 q Q (by omega) (by omega) (by omega) hq0 (by omega) (fun v G1 hv => hQ v G1 ?_)⟩⟩
    · rw [r1]
      refine cnamed_ok r2 ?_
      have nb := cnm_b (w := G (r + 1) (1 * 8 + k)) r2
      refine ⟨fun y => bad (fun u => ?_) z _, fun y => ?_⟩
      · rcases nb with e | e
        · exact u.1 e
        · omega
      · have ne : cnm G b (G (r + 1) (1 * 8 + k)) ≠ -1 := by omega
        have ho : isO W0 10 (cnm G b (G (r + 1) (1 * 8 + k))) := nb.elim (fun e => absurd e ne) (fun e => e.2.1)
        refine ⟨ho, fun _ => fun _ => ⟨fun x => ⟨by unfold inI; omega, by unfold inI; omega, ?_⟩, fun x => bad (fun u => x u.2) z _⟩⟩
        show PX4_within_78 (PX4_within_J F') r p (q + 2) (k + 1) G Q
        refine cwith_loop hR' f F' (k + 1) (q + 2) Q (by omega) (by omega) (by omega) (by omega) (by omega) (fun v G1 hv => hQ v G1 ?_)
        rcases hv with ⟨v1, v2, v3, v4⟩ | ⟨v1, v2, v3, v4⟩
        · refine Or.inl ⟨v1, v2, fun j j0 j1 => ?_, v4⟩
          by_cases e : j = k
          · rw [e]; exact ⟨ne, x⟩
          · exact v3 j (by omega) j1
        · exact Or.inr ⟨v1, v2, v3, fun u => v4 ⟨fun j j0 j1 => u.1 j (by omega) j1, u.2⟩⟩
    · rcases hv with ⟨v1, v2, v3⟩ | ⟨v1, v2, v3, v4⟩
      · exact Or.inl ⟨v1, v2, fun j j0 j1 => by omega, v3⟩
      · exact Or.inr ⟨v1, v2, v3, fun u => v4 u.2⟩
/-- in, with, only are right -/
def restC (G : gS) (b r : Int) : Prop := inC G b r ∧ withC G b r 0 ∧ onlyC G b r 0
theorem cwithin_ok {b r n p : Int} (hR : RwC G b r n) (hL : cnm G b (G r 9) ≠ -1 → 0 ≤ G (cnm G b (G r 9) + 2) 1 ∧ G (cnm G b (G r 9) + 2) 1 ≤ 8) (hp : 0 ≤ p ∧ p ≤ 900) (hQ : ∀ v G', (v = 1 ∧ G' = G ∧ restC G b r) ∨ (v = 0 ∧ FCj G G' ∧ G' 814 2 ≠ 0 ∧ ¬ restC G b r) → Q v G') : PX4_within r p G Q := by
  have hR' := hR
  obtain ⟨r1, r2, r3, r4⟩ := hR
  have good : inC G b r → ∀ q, 0 ≤ q → q ≤ 1000 → PX4_within_75 (PX4_within_J 100) r p q G Q := fun y q q0 q1 => by
    unfold PX4_within_75
    refine cwith_loop hR' 9 100 0 q Q (by omega) (by omega) (by omega) q0 (by omega) (fun v G1 hv => hQ v G1 ?_)
    rcases hv with ⟨v1, v2, v3, v4⟩ | ⟨v1, v2, v3, v4⟩
    · exact Or.inl ⟨v1, v2, y, v3, v4⟩
    · exact Or.inr ⟨v1, v2, v3, fun u => v4 u.2⟩
  have bad : ¬ inC G b r → ∀ x, PX4_within_63 (PX4_within_J 100) r p p x G Q := fun y x => by
    unfold PX4_within_63
    exact ⟨by unfold inI; omega, cfail_ok (by decide) (fun G1 f1 u1 => fun _ => hQ 0 G1 (Or.inr ⟨rfl, f1, u1, fun u => y u.1⟩))⟩
  refine ⟨100, by omega, ?_⟩
  unfold PX4_within_0
  refine ⟨r3, fun _ => ⟨fun z => good (fun u => absurd z u) p hp.1 (by omega), fun z => fun _ => fun _ => ⟨by rw [r1]; exact r2.1, ?_⟩⟩⟩
  rw [r1]
  refine cnamed_ok r2 ?_
  have nb := cnm_b (w := G r 9) r2
  refine ⟨fun y => bad (fun u => ?_) _, fun y => ?_⟩
  · rcases nb with e | e
    · exact (u z).1 e
    · omega
  · have ne : cnm G b (G r 9) ≠ -1 := by omega
    have ho : isO W0 10 (cnm G b (G r 9)) := nb.elim (fun e => absurd e ne) (fun e => e.2.1)
    refine ⟨ho, fun _ => fun _ => fun _ => fun _ => ⟨fun x => fun _ => chas_ok ho (by omega) (hL ne) (fun e => fun _ => ⟨fun u => absurd u (by decide), fun _ => ⟨by unfold inI; omega, good (fun _ => ⟨ne, x, e⟩) _ (by omega) (by omega)⟩⟩) (fun e => fun _ => ⟨fun _ => bad (fun u => ?_) _, fun u => absurd rfl u⟩), fun x => bad (fun u => x (u z).2.1) _⟩⟩
    obtain ⟨-, -, j, j0, j1, j2⟩ := u z
    exact e j j0 j1 j2
end CHD2

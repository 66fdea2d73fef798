section CHS
variable {G G0 G1 G' : gS} {Q : Int → gS → Prop}
/-- the first loop over a text's heads, in the class -/
theorem cheads_loop1 {b n l1 l2 : Int} (h1 : G 814 1 = b) (hB : BdC G b n) (hz : G 814 2 = 0) (hH : ∀ k, 0 ≤ k → k < G b 3 → HdC G b (G (G b 2) k) n ∧ 0 ≤ G (G (G b 2) k) 2 ∧ G (G (G b 2) k) 2 ≤ 700) (hQ1 : (∀ k, 0 ≤ k → k < G b 3 → HeadC G b (G (G b 2) k) k) → ∀ (F : Nat) x, 50 ≤ F → PX4_judge_56 (PX4_judge_J F) l1 l2 x G Q) (hQ2 : ¬ (∀ k, 0 ≤ k → k < G b 3 → HeadC G b (G (G b 2) k) k) → ∀ (F : Nat) x G', 50 ≤ F → FCj G G' → G' 814 2 ≠ 0 → PX4_judge_56 (PX4_judge_J F) l1 l2 x G' Q) : ∀ (f F : Nat) (k : Int), f + k = 13 → f + 60 ≤ F → 0 ≤ k → (∀ j, 0 ≤ j → j < k → j < G b 3 → HeadC G b (G (G b 2) j) j) → PX4_judge_17 (PX4_judge_J F) l1 l2 k G Q
  | 0, F, k, e1, hF, h0, hp => by
    obtain ⟨b1, b2, b3, b4, b5, b6⟩ := hB
    unfold PX4_judge_17
    rw [h1]
    exact fun _ => ⟨b1, fun _ => ⟨fun z => by omega, fun z => hQ1 (fun j j0 j1 => hp j j0 (by omega) j1) F _ (by omega)⟩⟩
  | f + 1, F, k, e1, hF, h0, hp => by
    obtain ⟨F', rfl⟩ : ∃ F', F = F' + 1 := ⟨F - 1, by omega⟩
    have hB' := hB
    obtain ⟨b1, b2, b3, b4, b5, b6⟩ := hB
    unfold PX4_judge_17
    rw [h1]
    refine fun _ => ⟨b1, fun _ => ⟨fun z => fun _ => ⟨fun _ => fun _ => ⟨b1, fun _ => ⟨n, b2, h0, by omega, fun _ => ?_⟩⟩, fun y => absurd hz y⟩, fun z => hQ1 (fun j j0 j1 => hp j j0 (by omega) j1) _ _ (by omega)⟩⟩
    obtain ⟨hh, p0, p1⟩ := hH k h0 z
    refine chead_ok hh ⟨h0, by omega⟩ ⟨p0, p1⟩ (fun v G1 hv => fun _ => fun _ => ⟨by unfold inI; omega, ?_⟩)
    show PX4_judge_17 (PX4_judge_J F') l1 l2 (k + 1) G1 Q
    rcases hv with ⟨v1, v2, v3⟩ | ⟨v1, v2, v3, v4⟩
    · rw [v2]
      refine cheads_loop1 h1 hB' hz hH hQ1 hQ2 f F' (k + 1) (by omega) (by omega) (by omega) (fun j j0 j1 j2 => ?_)
      by_cases e : j = k
      · rw [e]; exact v3
      · exact hp j j0 (by omega) j2
    · have no : ¬ (∀ k, 0 ≤ k → k < G b 3 → HeadC G b (G (G b 2) k) k) := fun u => v4 (u k h0 z)
      unfold PX4_judge_17
      rw [show G1 814 1 = b from (v2 _ _ (by omega)).trans h1]
      exact fun _ => ⟨b1, fun _ => ⟨fun _ => fun _ => ⟨fun u => absurd u v3, fun _ => hQ2 no F' _ G1 (by omega) v2 v3⟩, fun _ => hQ2 no F' _ G1 (by omega) v2 v3⟩⟩
end CHS

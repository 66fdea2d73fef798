section CHD4
variable {G G0 G1 G' : gS} {Q : Int → gS → Prop}
def parC (G : gS) (r : Int) : Prop := G r 7 ≠ 0 → G r 4 = 0 ∧ 0 ≤ cfn G (G 814 0) (G r 8) ∧ G (G (G 814 0 + 1) (cfn G (G 814 0) (G r 8))) 4 = 0 ∧ G (G (G 814 0 + 1) (cfn G (G 814 0) (G r 8))) 5 = 0 ∧ LtC G (G 814 0) (cfn G (G 814 0) (G r 8)) r
/-- a head is right, in the class's rows: the k-th of build b -/
def HeadC (G : gS) (b r k : Int) : Prop := (∀ j, 0 ≤ j → j < k → G (G (G b 2) j) 1 ≠ G r 1) ∧ cpk (G r 1) ≠ 25 ∧ parC G r ∧ faceC G r 0 ∧ restC G b r
theorem chead_loop {b r n l2 : Int} (hH : HdC G b r n) (hk : 0 ≤ l2 ∧ l2 ≤ G b 3) (hp : 0 ≤ G r 2 ∧ G r 2 ≤ 700) (hQ : ∀ v G', (v = 1 ∧ G' = G ∧ HeadC G b r l2) ∨ (v = 0 ∧ FCj G G' ∧ G' 814 2 ≠ 0 ∧ ¬ HeadC G b r l2) → (0 ≤ v ∧ v ≤ 1) → Q v G') : ∀ (f F : Nat) (k : Int), f + k = l2 → f + 100 ≤ F → 0 ≤ k → (∀ j, 0 ≤ j → j < k → G (G (G b 2) j) 1 ≠ G r 1) → PX4_head_2 (PX4_head_J F) r l2 k G Q
  | 0, F, k, h1, hF, h0, hn => by
    have hH' := hH
    obtain ⟨⟨r1, r2, r3, r4⟩, w, ol, c4, cl⟩ := hH
    have ek : k = l2 := by omega
    subst ek
    have bad4 : ¬ HeadC G b r k → PX4_fail 4 (G r 2) G (fun r17 G16 => (0 ≤ r17 ∧ r17 ≤ 1) → Q (r17) G16) := fun y => cfail_ok (by decide) (fun G1 f1 u1 => fun hb => hQ 0 G1 (Or.inr ⟨rfl, f1, u1, y⟩) hb)
    unfold PX4_head_2
    refine ⟨fun z => by omega, fun _ => ⟨r3, fun _ => fun _ => ⟨fun y => fun _ => bad4 (fun u => u.2.1 y), fun y => fun _ => ⟨by unfold inI; omega, fun _ => ?_⟩⟩⟩⟩
    have face : parC G r → ∀ q, 0 ≤ q → q ≤ 800 → PX4_head_160 (PX4_head_J F) r k q G Q := fun x q q0 q1 => by
      unfold PX4_head_160
      refine cface_loop hH' 5 F 0 q Q (by omega) (by omega) (by omega) q0 (by omega) (fun v G1 hv hb => hQ v G1 ?_ hb)
      rcases hv with ⟨v1, v2, v3, v4⟩ | ⟨v1, v2, v3, v4⟩
      · exact Or.inl ⟨v1, v2, hn, y, x, v3, v4⟩
      · exact Or.inr ⟨v1, v2, v3, fun u => v4 u.2.2.2⟩
    have bad : ¬ parC G r → ∀ l4, PX4_head_148 (PX4_head_J F) r k (G r 2 + 1) l4 G Q := fun x l4 => by
      unfold PX4_head_148
      exact ⟨by unfold inI; omega, cfail_ok (by decide) (fun G1 f1 u1 => fun hb => hQ 0 G1 (Or.inr ⟨rfl, f1, u1, fun u => x u.2.2.1⟩) hb)⟩
    refine ⟨fun z => face (fun u => absurd z u) _ (by omega) (by omega), fun z => fun _ => fun _ => ⟨w.1, cfind_ok w (fun _ => fun _ => ⟨fun x4 => ⟨fun x => bad (fun u => ?_) _, fun x => ?_⟩, fun x4 => bad (fun u => x4 (u z).1) _⟩)⟩⟩
    · have := (u z).2.1; omega
    · have ci := cfn_in w x
      have wr := w.2.2.2 _ ci.1 ci.2
      have w64 := w.2.2.1
      refine fun _ => ⟨w.1, ci.1, by omega, fun _ => ⟨wr, fun _ => ⟨fun t => fun _ => ⟨w.1, ci.1, by omega, fun _ => ⟨wr, fun _ => ⟨fun t5 => ?_, fun t5 => bad (fun u => t5 (u z).2.2.2.1) _⟩⟩⟩, fun t => bad (fun u => t (u z).2.2.1) _⟩⟩⟩
      exact cbarred_ok w ci r3 (ol _ ci.1 ci.2) (fun l => fun _ => ⟨fun u => absurd u (by decide), fun _ => bad (fun u => l (u z).2.2.2.2) _⟩) (fun l => fun _ => ⟨fun _ => ⟨by unfold inI; omega, face (fun _ => ⟨x4, ci.1, t, t5, l⟩) _ (by omega) (by omega)⟩, fun u => absurd rfl u⟩)
  | f + 1, F, k, h1, hF, h0, hn => by
    obtain ⟨F', rfl⟩ : ∃ F', F = F' + 1 := ⟨F - 1, by omega⟩
    have hH' := hH
    obtain ⟨⟨r1, r2, r3, r4⟩, w, ol, c4, cl⟩ := hH
    obtain ⟨b1, b2, b3, b4, b5, b6⟩ := r2
    unfold PX4_head_2
    rw [r1]
    refine ⟨fun z => fun _ => ⟨b1, fun _ => ⟨n, b2, h0, by omega, fun _ => ⟨b6 k h0 (by omega), fun _ => ⟨r3, fun _ => ⟨fun y => fun _ => cfail_ok (by decide) (fun G1 f1 u1 => fun hb => hQ 0 G1 (Or.inr ⟨rfl, f1, u1, fun u => u.1 k h0 z y⟩) hb), fun y => ⟨by unfold inI; omega, ?_⟩⟩⟩⟩⟩⟩, fun z => by omega⟩
    show PX4_head_2 (PX4_head_J F') r l2 (k + 1) G Q
    refine chead_loop hH' hk hp hQ f F' (k + 1) (by omega) (by omega) (by omega) (fun j j0 j1 => ?_)
    by_cases e : j = k
    · rw [e]; exact y
    · exact hn j j0 (by omega)
theorem chead_ok {b r n l2 : Int} (hH : HdC G b r n) (hk : 0 ≤ l2 ∧ l2 ≤ G b 3) (hp : 0 ≤ G r 2 ∧ G r 2 ≤ 700) (hQ : ∀ v G', (v = 1 ∧ G' = G ∧ HeadC G b r l2) ∨ (v = 0 ∧ FCj G G' ∧ G' 814 2 ≠ 0 ∧ ¬ HeadC G b r l2) → (0 ≤ v ∧ v ≤ 1) → Q v G') : PX4_head r l2 G Q := by
  have := hH.1.2.1.2.2.2.1
  refine ⟨200, by omega, ?_⟩
  unfold PX4_head_0
  exact chead_loop hH hk hp hQ l2.toNat 200 0 (by omega) (by omega) (by omega) (fun j j0 j1 => by omega)
end CHD4

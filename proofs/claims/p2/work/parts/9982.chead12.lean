section CHD3
variable {G G0 G1 G' : gS} {Q : Int → gS → Prop}
theorem cfn_in {o w : Int} (hW : WsC G o) (h : ¬ cfn G o w < 0) : 0 ≤ cfn G o w ∧ cfn G o w < G o 2 := by
  have w2 := hW.2.1
  have := cfn_b (G := G) (o := o) (w := w) 64 2 (by omega)
  change (cfn G o w = -2 ∧ _) ∨ (cfn G o w = 0 ∧ _) ∨ (cfn G o w = 1 ∧ _) ∨ (2 ≤ cfn G o w ∧ cfn G o w < G o 2 ∧ _) at this
  omega
/-- the class's world and the text's build, as heads want them -/
def HdC (G : gS) (b r n : Int) : Prop := RwC G b r n ∧ WsC G (G 814 0) ∧ (∀ i, 0 ≤ i → i < G (G 814 0) 2 → 0 ≤ G (G (G 814 0 + 1) i + 2) 2 ∧ G (G (G 814 0 + 1) i + 2) 2 ≤ 8) ∧ G (r + 2) 0 ≤ 4 ∧ (cnm G b (G r 9) ≠ -1 → 0 ≤ G (cnm G b (G r 9) + 2) 1 ∧ G (cnm G b (G r 9) + 2) 1 ≤ 8)
def faceC (G : gS) (r k : Int) : Prop := ∀ j, k ≤ j → j < G (r + 2) 0 → 0 ≤ cfn G (G 814 0) (G (r + 1) (0 * 8 + j)) ∧ G (G (G 814 0 + 1) (cfn G (G 814 0) (G (r + 1) (0 * 8 + j)))) 4 ≠ 0 ∧ LtC G (G 814 0) (cfn G (G 814 0) (G (r + 1) (0 * 8 + j))) r ∧ ∀ j', 0 ≤ j' → j' < j → G (r + 1) (0 * 8 + j') ≠ G (r + 1) (0 * 8 + j)
theorem cdup_loop {r k q l4 l5 : Int} {M : Nat} (hr : isO W0 10 r) (h4 : 0 ≤ l4 ∧ l4 ≤ 3) (hE : ∀ (F : Nat) (l6 : Int), M ≤ F → (l6 = 0 ∧ (∀ j', 0 ≤ j' → j' < l4 → G (r + 1) (0 * 8 + j') ≠ G (r + 1) (0 * 8 + l4)) ∨ l6 = 1 ∧ ∃ j', 0 ≤ j' ∧ j' < l4 ∧ G (r + 1) (0 * 8 + j') = G (r + 1) (0 * 8 + l4)) → PX4_head_196 (PX4_head_J F) r k q l4 l5 l6 l4 G Q) : ∀ (f F : Nat) (l6 l7 : Int), f + l7 = l4 → f + M ≤ F → 0 ≤ l7 → (l6 = 0 ∧ (∀ j', 0 ≤ j' → j' < l7 → G (r + 1) (0 * 8 + j') ≠ G (r + 1) (0 * 8 + l4)) ∨ l6 = 1 ∧ ∃ j', 0 ≤ j' ∧ j' < l7 ∧ G (r + 1) (0 * 8 + j') = G (r + 1) (0 * 8 + l4)) → PX4_head_196 (PX4_head_J F) r k q l4 l5 l6 l7 G Q
  | 0, F, l6, l7, h1, hF, h0, hI => by
    have e : l7 = l4 := by omega
    subst e
    exact hE F l6 (by omega) hI
  | f + 1, F, l6, l7, h1, hF, h0, hI => by
    obtain ⟨F', rfl⟩ : ∃ F', F = F' + 1 := ⟨F - 1, by omega⟩
    unfold PX4_head_196 PX10_listedAt PX10_listedAt_0 PX4_head_228
    refine ⟨fun z => ⟨hr, hr, by omega, by omega, fun _ => fun _ => ⟨hr, by omega, by omega, fun _ => fun _ => ⟨fun y => fun _ => ⟨by unfold inI; omega, ?_⟩, fun y => fun _ => ⟨by unfold inI; omega, ?_⟩⟩⟩⟩, fun z => by omega⟩
    · show PX4_head_196 (PX4_head_J F') r k q l4 l5 (ior l6 1) (l7 + 1) G Q
      have e : ior l6 1 = 1 := by
        rcases hI with ⟨u, _⟩ | ⟨u, _⟩ <;> (rw [u]; decide)
      rw [e]
      exact cdup_loop hr h4 hE f F' 1 (l7 + 1) (by omega) (by omega) (by omega) (Or.inr ⟨rfl, l7, h0, by omega, y⟩)
    · show PX4_head_196 (PX4_head_J F') r k q l4 l5 (ior l6 0) (l7 + 1) G Q
      have e : ior l6 0 = l6 := by
        rcases hI with ⟨u, _⟩ | ⟨u, _⟩ <;> (rw [u]; decide)
      rw [e]
      refine cdup_loop hr h4 hE f F' l6 (l7 + 1) (by omega) (by omega) (by omega) ?_
      rcases hI with ⟨u, v⟩ | ⟨u, j, j0, j1, j2⟩
      · refine Or.inl ⟨u, fun j' x0 x1 => ?_⟩
        by_cases w : j' = l7
        · rw [w]; exact y
        · exact v j' x0 (by omega)
      · exact Or.inr ⟨u, j, j0, by omega, j2⟩
theorem cface_loop {b r n l2 : Int} (hH : HdC G b r n) : ∀ (f F : Nat) (k q : Int) (Q : Int → gS → Prop), f + k = 5 → 10 * f + 20 ≤ F → 0 ≤ k → 0 ≤ q → q ≤ 800 + 2 * k → (∀ v G', (v = 1 ∧ G' = G ∧ faceC G r k ∧ restC G b r) ∨ (v = 0 ∧ FCj G G' ∧ G' 814 2 ≠ 0 ∧ ¬ (faceC G r k ∧ restC G b r)) → (0 ≤ v ∧ v ≤ 1) → Q v G') → PX4_head_163 (PX4_head_J F) r l2 q k G Q
  | 0, F, k, q, Q, h1, hF, _, hq0, hq, hQ => by
    obtain ⟨⟨r1, r2, r3, r4⟩, w, ol, c4, cl⟩ := hH
    unfold PX4_head_163
    refine ⟨r3, by omega, by omega, fun _ => ⟨fun z => by omega, fun _ => cwithin_ok ⟨r1, r2, r3, r4⟩ cl ⟨hq0, by omega⟩ (fun v G1 hv => fun hb => hQ v G1 ?_ hb)⟩⟩
    rcases hv with ⟨v1, v2, v3⟩ | ⟨v1, v2, v3, v4⟩
    · exact Or.inl ⟨v1, v2, fun j j0 j1 => by omega, v3⟩
    · exact Or.inr ⟨v1, v2, v3, fun u => v4 u.2⟩
  | f + 1, F, k, q, Q, hf, hF, hk, hq0, hq, hQ => by
    have hH' := hH
    obtain ⟨⟨r1, r2, r3, r4⟩, w, ol, c4, cl⟩ := hH
    have h8 := r4 0 (by omega) (by omega)
    unfold PX4_head_163 PX10_listedAt PX10_listedAt_0
    refine ⟨r3, by omega, by omega, fun _ => ⟨fun z => fun _ => ⟨r3, by omega, by omega, fun _ => fun _ => ⟨w.1, cfind_ok w (fun _ => ?_)⟩⟩, fun z => cwithin_ok ⟨r1, r2, r3, r4⟩ cl ⟨hq0, by omega⟩ (fun v G1 hv => fun hb => hQ v G1 ?_ hb)⟩⟩
    · have bad : ∀ (F : Nat) l6 l7, ¬ (0 ≤ cfn G (G 814 0) (G (r + 1) (0 * 8 + k)) ∧ G (G (G 814 0 + 1) (cfn G (G 814 0) (G (r + 1) (0 * 8 + k)))) 4 ≠ 0 ∧ LtC G (G 814 0) (cfn G (G 814 0) (G (r + 1) (0 * 8 + k))) r ∧ ∀ j', 0 ≤ j' → j' < k → G (r + 1) (0 * 8 + j') ≠ G (r + 1) (0 * 8 + k)) → PX4_head_273 (PX4_head_J F) r l2 q k (cfn G (G 814 0) (G (r + 1) (0 * 8 + k))) l6 l7 G Q := fun F l6 l7 y => by
        unfold PX4_head_273
        exact ⟨by unfold inI; omega, cfail_ok (by decide) (fun G1 f1 u1 => fun hb => hQ 0 G1 (Or.inr ⟨rfl, f1, u1, fun u => y (u.1 k (by omega) z)⟩) hb)⟩
      refine cdup_loop (M := 10 * f + 21) r3 (by omega) (fun F2 l6 hF2 hl => ?_) k.toNat F 0 0 (by omega) (by omega) (by omega) (Or.inl ⟨rfl, fun j' x0 x1 => by omega⟩)
      obtain ⟨F3, rfl⟩ : ∃ F3, F2 = F3 + 1 := ⟨F2 - 1, by omega⟩
      unfold PX4_head_196
      refine ⟨fun y => by omega, fun _ => ⟨fun y => ⟨fun x => bad _ _ _ (fun u => by omega), fun x => ?_⟩, fun y => bad _ _ _ (fun u => ?_)⟩⟩
      · have ci := cfn_in w x
        refine fun _ => ⟨w.1, ci.1, by have := w.2.2.1; omega, fun _ => ⟨w.2.2.2 _ ci.1 ci.2, fun _ => ⟨fun t => bad _ _ _ (fun u => u.2.1 t), fun t => ?_⟩⟩⟩
        refine cbarred_ok w ci r3 (ol _ ci.1 ci.2) (fun l => fun _ => ⟨fun u => absurd u (by decide), fun _ => bad _ _ _ (fun u => l u.2.2.1)⟩) (fun l => fun _ => ⟨fun _ => ⟨by unfold inI; omega, by unfold inI; omega, ?_⟩, fun u => absurd rfl u⟩)
        show PX4_head_163 (PX4_head_J F3) r l2 (q + 2) (k + 1) G Q
        refine cface_loop hH' f F3 (k + 1) (q + 2) Q (by omega) (by omega) (by omega) (by omega) (by omega) (fun v G1 hv hb => hQ v G1 ?_ hb)
        rcases hv with ⟨v1, v2, v3, v4⟩ | ⟨v1, v2, v3, v4⟩
        · refine Or.inl ⟨v1, v2, fun j j0 j1 => ?_, v4⟩
          by_cases e : j = k
          · rw [e]
            refine ⟨ci.1, t, l, ?_⟩
            rcases hl with ⟨_, g⟩ | ⟨g, _⟩
            · exact g
            · omega
          · exact v3 j (by omega) j1
        · exact Or.inr ⟨v1, v2, v3, fun u => v4 ⟨fun j j0 j1 => u.1 j (by omega) j1, u.2⟩⟩
      · rcases hl with ⟨g, _⟩ | ⟨_, j, j0, j1, j2⟩
        · exact y g
        · exact u.2.2.2 j j0 j1 j2
    · rcases hv with ⟨v1, v2, v3⟩ | ⟨v1, v2, v3, v4⟩
      · exact Or.inl ⟨v1, v2, fun j j0 j1 => by omega, v3⟩
      · exact Or.inr ⟨v1, v2, v3, fun u => v4 u.2⟩
end CHD3

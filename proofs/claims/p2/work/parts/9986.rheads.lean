section RHS
variable {G G0 G1 G' : gS} {Q : Int → gS → Prop}
theorem rhead_ok2 {pk : Int → Int} {s c : Int} (hW : HdW G0 s c) (hP : WpR G0 pk) (hc : Std G0 c) (hf : FF G0 G) (hQ : ∀ G', FF G0 G' → (G' 16081 20 = 0 ↔ G 16081 20 = 0 ∧ HeadR G0 pk s c) → Q 0 G') : PX13_head c G Q := by
  have hW' := hW
  obtain ⟨w1, w2, w3, w4, w5, w6, w7, w8, w9, w10, w11, w12⟩ := hW
  refine ⟨100, by omega, ?_⟩
  have bad : ¬ (rin G0 s (G0 16098 c) = c ∧ pk c ≠ 26) → PX13_head_32 (PX13_head_J 100) c G Q := fun y => by
    unfold PX13_head_32
    refine ⟨w5, w6, fun _ => rfault_FF (by decide) (fun G1 f1 u1 => ?_)⟩
    exact rpar_part hW' hP hc (FF_tr hf f1) (fun G2 f2 i2 => hQ G2 f2 ⟨fun u => absurd (i2.mp u).1 u1, fun u => absurd ⟨u.2.1, u.2.2.1⟩ y⟩)
  have e98 : G 16098 c = G0 16098 c := hf _ _ (by omega)
  have q6 := (hP.2 _ hc).1
  rw [← e98] at q6
  unfold PX13_head_0
  rw [show G 16081 19 = s from (hf _ _ (by omega)).trans w2]
  refine fun _ => ⟨w5, w6, fun _ => rinSlot_ok ⟨w3, w4⟩ ((WsR_FF hf w1).2.2 s w3 w4) ?_⟩
  rw [rin_FF hf, e98]
  refine fun _ => ⟨fun z => ⟨w5, w6, fun _ => ?_⟩, fun z => bad (fun u => z u.1)⟩
  rw [e98] at q6
  refine q6 G _ (fun _ => ⟨fun y => bad (fun u => u.2 y), fun y => ?_⟩)
  exact rpar_part hW' hP hc hf (fun G2 f2 i2 => hQ G2 f2 ⟨fun u => ⟨(i2.mp u).1, z, y, (i2.mp u).2⟩, fun u => i2.mpr ⟨u.1, u.2.2.2⟩⟩)
/-- the first loop over a text's heads -/
theorem rheads_loop1 {pk : Int → Int} {s : Int} (hW : ∀ k, 0 ≤ k → k < G0 16097 s → HdW G0 s (s * 12 + k)) (hWs : WsR G0) (h19 : G0 16081 19 = s) (hs : 0 ≤ s ∧ s < 18) (hP : WpR G0 pk) (hQ : ∀ (F : Nat) G', 50 ≤ F → FF G0 G' → (G' 16081 20 = 0 ↔ ∀ k, 0 ≤ k → k < G0 16097 s → HeadR G0 pk s (s * 12 + k)) → ∀ x, PX13_heads_41 (PX13_heads_J F) x G' Q) : ∀ (f F : Nat) (k : Int) (G : gS), f + k = 13 → f + 60 ≤ F → 0 ≤ k → FF G0 G → (G 16081 20 = 0 ↔ ∀ j, 0 ≤ j → j < k → j < G0 16097 s → HeadR G0 pk s (s * 12 + j)) → PX13_heads_2 (PX13_heads_J F) k G Q
  | 0, F, k, G, h1, hF, h0, hf, hi => by
    have c12 := hWs.2.2 s hs.1 hs.2
    have e97 : G 16097 s = G0 16097 s := hf _ _ (by omega)
    unfold PX13_heads_2
    rw [show G 16081 19 = s from (hf _ _ (by omega)).trans h19, e97]
    refine fun _ => ⟨hs.1, hs.2, fun _ => ⟨fun z => by omega, fun z => hQ F G (by omega) hf ⟨fun u j j0 j1 => hi.mp u j j0 (by omega) j1, fun u => hi.mpr (fun j j0 _ j1 => u j j0 j1)⟩ _⟩⟩
  | f + 1, F, k, G, h1, hF, h0, hf, hi => by
    obtain ⟨F', rfl⟩ : ∃ F', F = F' + 1 := ⟨F - 1, by omega⟩
    have c12 := hWs.2.2 s hs.1 hs.2
    have e97 : G 16097 s = G0 16097 s := hf _ _ (by omega)
    unfold PX13_heads_2
    rw [show G 16081 19 = s from (hf _ _ (by omega)).trans h19, e97]
    refine fun _ => ⟨hs.1, hs.2, fun _ => ⟨fun z => fun _ => ⟨fun y => fun _ => ⟨by unfold inI; omega, ?_⟩, fun y => hQ (F' + 1) G (by omega) hf ⟨fun u => absurd u y, fun u => absurd (hi.mpr (fun j j0 _ j1 => u j j0 j1)) y⟩ _⟩, fun z => hQ (F' + 1) G (by omega) hf ⟨fun u j j0 j1 => hi.mp u j j0 (by omega) j1, fun u => hi.mpr (fun j j0 _ j1 => u j j0 j1)⟩ _⟩⟩
    refine rhead_ok2 (hW k h0 z) hP ⟨by omega, by omega, s, hs.1, hs.2, by omega, by omega⟩ hf (fun G1 f1 i1 => ⟨by unfold inI; omega, ?_⟩)
    show PX13_heads_2 (PX13_heads_J F') (k + 1) G1 Q
    refine rheads_loop1 hW hWs h19 hs hP hQ f F' (k + 1) G1 (by omega) (by omega) (by omega) f1 ⟨fun u j j0 j1 j2 => ?_, fun u => i1.mpr ⟨y, u k h0 (by omega) z⟩⟩
    obtain ⟨u1, u2⟩ := i1.mp u
    by_cases e : j = k
    · rw [e]; exact u2
    · exact hi.mp u1 j j0 (by omega) j2
end RHS

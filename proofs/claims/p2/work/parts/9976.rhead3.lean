section RHD3
variable {G G0 G1 G' : gS} {Q : Int → gS → Prop}
theorem rface_loop {pk : Int → Int} {s c : Int} (hW : HdW G0 s c) (hP : WpR G0 pk) (hc : Std G0 c) : ∀ (f F : Nat) (k : Int) (G : gS) (Q : Int → gS → Prop), f + k = 5 → f + 40 ≤ F → 0 ≤ k → FF G0 G → (∀ G', FF G0 G' → (G' 16081 20 = 0 ↔ G 16081 20 = 0 ∧ faceR G0 pk c k ∧ restR G0 pk s c) → Q 0 G') → PX13_head_119 (PX13_head_J F) c k G Q
  | 0, F, k, G, Q, h1, hF, _, hf, hQ => by
    have hW' := hW
    obtain ⟨w1, w2, w3, w4, w5, w6, w7, w8, w9, w10, w11, w12⟩ := hW
    have e06 : G 16106 c = G0 16106 c := hf _ _ (by omega)
    unfold PX13_head_119
    refine ⟨w5, w6, fun _ => ⟨fun z => by omega, fun _ => ⟨w5, w6, rin_part (f := F) (by omega) hW' hP hc hf (fun G2 f2 i2 => hQ G2 f2 ⟨fun u => ⟨(i2.mp u).1, fun j j0 j1 => by omega, (i2.mp u).2⟩, fun u => i2.mpr ⟨u.1, u.2.2⟩⟩) rfl⟩⟩⟩
  | f + 1, F, k, G, Q, hfk, hF, hk, hf, hQ => by
    obtain ⟨F', rfl⟩ : ∃ F', F = F' + 1 := ⟨F - 1, by omega⟩
    have hW' := hW
    obtain ⟨w1, w2, w3, w4, w5, w6, w7, w8, w9, w10, w11, w12⟩ := hW
    have e06 : G 16106 c = G0 16106 c := hf _ _ (by omega)
    have e04 : ∀ y, G 16104 y = G0 16104 y := fun y => hf _ _ (by omega)
    have bad : ¬ (rfn G0 (G0 16104 (4 * c + k)) ≠ -2 ∧ G0 16101 (rfn G0 (G0 16104 (4 * c + k))) = 3 ∧ LtR G0 (rfn G0 (G0 16104 (4 * c + k))) c (pk (rfn G0 (G0 16104 (4 * c + k)))) (pk c) ∧ ∀ j', 0 ≤ j' → j' < k → G0 16104 (4 * c + j') ≠ G0 16104 (4 * c + k)) → k < G0 16106 c → ∀ r, PX13_head_191 (PX13_head_J (F' + 1)) c k r G Q := fun y z r => by
      unfold PX13_head_191 PX13_head_206
      refine ⟨by omega, by omega, fun _ => rfault_FF (by decide) (fun G1 f1 u1 => ⟨by unfold inI; omega, ?_⟩)⟩
      show PX13_head_119 (PX13_head_J F') c (k + 1) G1 Q
      exact rface_loop hW' hP hc f F' (k + 1) G1 Q (by omega) (by omega) (by omega) (FF_tr hf f1) (fun G2 f2 i2 => hQ G2 f2 ⟨fun u => absurd (i2.mp u).1 u1, fun u => absurd (u.2.1 k (by omega) z) y⟩)
    unfold PX13_head_119
    rw [e06, e04]
    refine ⟨w5, w6, fun _ => ⟨fun z => ⟨by omega, by omega, fun _ => rfind_ok (WsR_FF hf w1) (fun _ => ?_)⟩, fun z => ⟨w5, w6, rin_part (f := F' + 1) (by omega) hW' hP hc hf (fun G2 f2 i2 => hQ G2 f2 ⟨fun u => ⟨(i2.mp u).1, fun j j0 j1 => by omega, (i2.mp u).2⟩, fun u => i2.mpr ⟨u.1, u.2.2⟩⟩) rfl⟩⟩⟩
    rw [rfn_FF hf]
    refine ⟨fun y => bad (fun u => u.1 y) z _, fun y => ?_⟩
    have st := rfn_std w1 hP.1 y
    obtain ⟨q1, q2, q3, q4, q5⟩ := hP.2 _ st
    have q6 := (hP.2 _ hc).1
    rw [← hf 16098 _ (by omega)] at q1 q6
    refine risFace_ok ⟨st.1, st.2.1⟩ (fun i1 => fun _ => ⟨fun u => absurd u (by decide), fun _ => ?_⟩) (fun i1 => fun _ => ⟨fun _ => bad (fun u => i1 ((hf _ _ (by omega)).trans u.2.1)) z _, fun u => absurd rfl u⟩)
    rw [hf 16101 _ (by omega)] at i1
    refine rletsBelow_ok ⟨st.1, st.2.1⟩ ⟨w5, w6⟩ q1 q6 (by rw [hf 16114 _ (by omega)]; exact ⟨q2, q3⟩) (fun l1 => fun _ => ⟨fun u => absurd u (by decide), fun _ => ⟨by omega, by omega, fun _ => ⟨by unfold inI; omega, ?_⟩⟩⟩) (fun l1 => fun _ => ⟨fun _ => bad (fun u => l1 ((LtR_FF hf).mpr u.2.2.1)) z _, fun u => absurd rfl u⟩)
    refine rstands_ok aC16104 (by omega) hk (fun v hv => fun _ => ?_)
    rcases hv with ⟨e1, j, j0, j1, j2⟩ | ⟨e1, e2⟩
    · subst e1
      rw [e04, e04] at j2
      exact ⟨fun u => absurd u (by decide), fun _ => bad (fun u => u.2.2.2 j j0 j1 j2) z _⟩
    · subst e1
      refine ⟨fun _ => ?_, fun u => absurd rfl u⟩
      unfold PX13_head_206
      refine ⟨by unfold inI; omega, ?_⟩
      show PX13_head_119 (PX13_head_J F') c (k + 1) G Q
      refine rface_loop hW' hP hc f F' (k + 1) G Q (by omega) (by omega) (by omega) hf (fun G2 f2 i2 => hQ G2 f2 ⟨fun u => ⟨(i2.mp u).1, fun j j0 j1 => ?_, (i2.mp u).2.2⟩, fun u => i2.mpr ⟨u.1, fun j j0 j1 => u.2.1 j (by omega) j1, u.2.2⟩⟩)
      by_cases e : j = k
      · rw [e]; exact ⟨y, i1, (LtR_FF hf).mp l1, fun j' x0 x1 u => e2 j' x0 x1 (by rw [e04, e04]; exact u)⟩
      · exact (i2.mp u).2.1 j (by omega) j1
/-- 'is C' is right -/
def parR (G : gS) (pk : Int → Int) (c : Int) : Prop := G 16102 c ≠ 0 → G 16101 c ≠ 3 ∧ rfn G (G 16102 c) ≠ -2 ∧ G 16101 (rfn G (G 16102 c)) ≠ 3 ∧ G 16101 (rfn G (G 16102 c)) ≠ 1 ∧ LtR G (rfn G (G 16102 c)) c (pk (rfn G (G 16102 c))) (pk c)
/-- a head is right -/
def HeadR (G : gS) (pk : Int → Int) (s c : Int) : Prop := rin G s (G 16098 c) = c ∧ pk c ≠ 26 ∧ parR G pk c ∧ faceR G pk c 0 ∧ restR G pk s c
theorem rpar_part {pk : Int → Int} {s c : Int} (hW : HdW G0 s c) (hP : WpR G0 pk) (hc : Std G0 c) (hf : FF G0 G) (hQ : ∀ G', FF G0 G' → (G' 16081 20 = 0 ↔ G 16081 20 = 0 ∧ parR G0 pk c ∧ faceR G0 pk c 0 ∧ restR G0 pk s c) → Q 0 G') : PX13_head_43 (PX13_head_J 100) c G Q := by
  have hW' := hW
  obtain ⟨w1, w2, w3, w4, w5, w6, w7, w8, w9, w10, w11, w12⟩ := hW
  have e02 : G 16102 c = G0 16102 c := hf _ _ (by omega)
  have good : parR G0 pk c → PX13_head_117 (PX13_head_J 100) c G Q := fun y => by
    unfold PX13_head_117
    exact rface_loop hW' hP hc 5 100 0 G Q (by omega) (by omega) (by omega) hf (fun G2 f2 i2 => hQ G2 f2 ⟨fun u => ⟨(i2.mp u).1, y, (i2.mp u).2⟩, fun u => i2.mpr ⟨u.1, u.2.2⟩⟩)
  have bad : ¬ parR G0 pk c → ∀ r, PX13_head_106 (PX13_head_J 100) c r G Q := fun y r => by
    unfold PX13_head_106 PX13_head_117
    refine ⟨w5, w6, fun _ => rfault_FF (by decide) (fun G1 f1 u1 => ?_)⟩
    exact rface_loop hW' hP hc 5 100 0 G1 Q (by omega) (by omega) (by omega) (FF_tr hf f1) (fun G2 f2 i2 => hQ G2 f2 ⟨fun u => absurd (i2.mp u).1 u1, fun u => absurd u.2.1 y⟩)
  unfold PX13_head_43
  rw [e02]
  refine ⟨w5, w6, fun _ => ⟨fun z => good (fun u => absurd z u), fun z => ⟨w5, w6, fun _ => rfind_ok (WsR_FF hf w1) (fun _ => ?_)⟩⟩⟩
  rw [rfn_FF hf]
  refine risFace_ok ⟨w5, w6⟩ (fun i1 => fun _ => ⟨fun u => absurd u (by decide), fun _ => bad (fun u => (u z).1 ((hf _ _ (by omega)).symm.trans i1)) _⟩) (fun i1 => fun _ => ⟨fun _ => ⟨fun y => bad (fun u => (u z).2.1 y) _, fun y => ?_⟩, fun u => absurd rfl u⟩)
  rw [hf 16101 _ (by omega)] at i1
  have st := rfn_std w1 hP.1 y
  obtain ⟨q1, q2, q3, q4, q5⟩ := hP.2 _ st
  have q6 := (hP.2 _ hc).1
  rw [← hf 16098 _ (by omega)] at q1 q6
  refine risFace_ok ⟨st.1, st.2.1⟩ (fun i2 => fun _ => ⟨fun u => absurd u (by decide), fun _ => bad (fun u => (u z).2.2.1 ((hf _ _ (by omega)).symm.trans i2)) _⟩) (fun i2 => fun _ => ⟨fun _ => ⟨st.1, st.2.1, fun _ => ?_⟩, fun u => absurd rfl u⟩)
  rw [hf 16101 _ (by omega)] at i2 ⊢
  refine ⟨fun x => bad (fun u => (u z).2.2.2.1 x) _, fun x => ?_⟩
  exact rletsBelow_ok ⟨st.1, st.2.1⟩ ⟨w5, w6⟩ q1 q6 (by rw [hf 16114 _ (by omega)]; exact ⟨q2, q3⟩) (fun l1 => fun _ => ⟨fun u => absurd u (by decide), fun _ => good (fun _ => ⟨i1, y, i2, x, (LtR_FF hf).mp l1⟩)⟩) (fun l1 => fun _ => ⟨fun _ => bad (fun u => l1 ((LtR_FF hf).mpr (u z).2.2.2.2)) _, fun u => absurd rfl u⟩)
theorem rhead_ok {pk : Int → Int} {s c : Int} (hW : HdW G s c) (hP : WpR G pk) (hc : Std G c) (hQ : ∀ G', FF G G' → (G' 16081 20 = 0 ↔ G 16081 20 = 0 ∧ HeadR G pk s c) → Q 0 G') : PX13_head c G Q := by
  have hW' := hW
  obtain ⟨w1, w2, w3, w4, w5, w6, w7, w8, w9, w10, w11, w12⟩ := hW
  refine ⟨100, by omega, ?_⟩
  have bad : ¬ (rin G s (G 16098 c) = c ∧ pk c ≠ 26) → PX13_head_32 (PX13_head_J 100) c G Q := fun y => by
    unfold PX13_head_32
    refine ⟨w5, w6, fun _ => rfault_FF (by decide) (fun G1 f1 u1 => ?_)⟩
    exact rpar_part hW' hP hc f1 (fun G2 f2 i2 => hQ G2 f2 ⟨fun u => absurd (i2.mp u).1 u1, fun u => absurd ⟨u.2.1, u.2.2.1⟩ y⟩)
  unfold PX13_head_0
  rw [w2]
  refine fun _ => ⟨w5, w6, fun _ => rinSlot_ok ⟨w3, w4⟩ (w1.2.2 s w3 w4) (fun _ => ⟨fun z => ⟨w5, w6, fun _ => (hP.2 _ hc).1 G _ (fun _ => ⟨fun y => bad (fun u => u.2 y), fun y => ?_⟩)⟩, fun z => bad (fun u => z u.1)⟩)⟩
  exact rpar_part hW' hP hc FF_id (fun G2 f2 i2 => hQ G2 f2 ⟨fun u => ⟨(i2.mp u).1, z, y, (i2.mp u).2⟩, fun u => i2.mpr ⟨u.1, u.2.2.2⟩⟩)
end RHD3

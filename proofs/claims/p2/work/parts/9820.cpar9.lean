section CQ1
variable {tk cd : Int → Int} {T C : TT} {eE cU : Int → RR} {c d i a : Int} {R : JT} {G : gS}
theorem NC_of (h : Pre G tk cd c i a d) : NC G := by
  obtain ⟨p1, p2, p3, p4, p5, p6, p7, p8, p9, p10, p11, p12⟩ := h
  unfold NC
  omega
theorem unit_ok {Q : Int → gS → Prop} (hFr : SEx R tk cd c (cFront tk cd T C eE) (pfront tk eE cU) 4 [d] d) (hB : SB R tk cd c T eE d) (hI : TI T) (hF : TF T) (hCI : TI C) (hCF : TF C) (hp : Pre G tk cd c i a d) (hQ : ∀ v G', PsE G G' c i a (punit tk eE cU a) (cUnit tk cd T C eE cU) v → Q v G') : PX9_unit R d G Q := by
  have hp' := hp
  obtain ⟨p1, p2, p3, p4, p5, p6, p7, p8, p9, p10, p11, p12⟩ := hp
  refine ⟨3999999999 + 1, by omega, ?_⟩
  generalize hFF : (3999999999 : Nat) = F
  have hF9 : 702 < F := by omega
  unfold PX9_unit_0
  refine hFr G i a _ hp' (fun v G1 h => ?_)
  obtain ⟨l1, l2, l3⟩ := h
  have s0 : punit tk eE cU a = pb (pfront tk eE cU a) (ptail tk eE 702) := rfl
  by_cases e0 : (pfront tk eE cU a).1 = 0
  · obtain ⟨k1, k2, k3, k4, k5, k6, i1, k7, k8, k9, k10⟩ := l1.2.2 e0
    obtain ⟨kv, ev, kv1, kv2⟩ := cFront_I _ _ _ _ _ k10
    have n8 := l3 e0
    have f1 := l1.1
    have pt1 := PT_FP p1 f1
    have hp1 : Pre G1 tk cd c i1 (pfront tk eE cU a).2 d := ⟨pt1, k2, k1, by omega, k4, k5, k7, by omega, by omega, p10, p11, CD_FP p12 f1⟩
    rw [pb_0 e0] at s0
    generalize hb : (pfront tk eE cU a).2 = b at *
    have stop : ¬ isTail tk b → PX9_unit_113 R (PX9_unit_J R (F + 1)) d v v (-1) 0 G1 Q := fun z => by
      rw [ptail_n (f := 701) z] at s0
      unfold PX9_unit_113 PX9_unit_125
      refine fun _ => ⟨fun _ => hQ v G1 ?_, fun u => absurd k1 u⟩
      rw [s0]
      refine PsE_of (Pst_now hp1 f1 k3 ⟨k8, k9⟩ (fun k j x y _ => k6 k j x y (fun h => h)) ⟨⟨fun _ => k10, fun u => ?_⟩, n8⟩ rfl) (fun u => absurd rfl u)
      rw [hb] at u
      exact absurd u z
    have go : isTail tk b → PX9_unit_48 R (PX9_unit_J R (F + 1)) d v v (-1) 0 G1 Q := fun z => by
      rw [ptail_y (f := 701) z] at s0
      unfold PX9_unit_48 PX9_unit_78 PX9_unit_103
      refine hB G1 i1 b _ hp1 z (fun v2 G2 h2 nc => ?_)
      obtain ⟨m1, m2, m3⟩ := h2
      have fG2 := FP_tr f1 m1.1
      have hvO : isO W0 8 v := nd_of (i := i1) (by omega) (by omega)
      refine ⟨fun _ => ⟨fun u => by omega, fun _ => ⟨hvO, fun _ => ⟨oC9, ?_⟩⟩⟩, fun u => absurd u (by decide)⟩
      by_cases e2 : (pbehind tk eE b).1 = 0
      · obtain ⟨j1, j2, j3, j4, j5, j6, i2, j7, j8, j9, j10⟩ := m1.2.2 e2
        obtain ⟨kw, ew, kw1, kw2⟩ := cBehind_I _ _ _ _ _ j10
        have w8 := m3 e2
        have nc := nc e2
        rw [j7] at nc
        rw [pb_0 e2] at s0
        have va : G2 v 1 = a := by rw [j6 v 1 (by omega) (by omega) (fun h => h)]; exact cFront_A _ _ _ _ _ k10
        rw [va]
        refine sX9_node j7 (by omega) (by omega) (fun G3 hN => ?_)
        have f3 := FP_tr fG2 (NN_FP hN (by omega) (by omega))
        obtain ⟨g14, g0, g1, g2, g3, g4, g5, g6, g7, g8, g9, g10, g11, gf⟩ := hN
        refine ⟨nd_isO (by omega) (by omega), Or.inr hvO, fun G4 e4 => ⟨Or.inr (nd_of (i := i2) (by omega) (by omega)), fun G5 e5 => ⟨by unfold inI; omega, ?_⟩⟩⟩
        have f5 : FP G G5 := by rw [e5, e4]; exact FP_up (FP_up f3 (by omega)) (by omega)
        -- the whole's node; everything else stands
        have ot : ∀ k j, k ≠ 14 + i2 → ¬ (k = 7 ∧ j = 14) → G5 k j = G2 k j := fun k j x y => by rw [e5, e4, uG_c x, uG_c x]; exact gf k j x y
        have wt : ∀ j, j ≠ 5 → j ≠ 6 → G5 (14 + i2) j = G3 (14 + i2) j := fun j x y => by rw [e5, e4, uG_j y, uG_j x]
        have w5 : G5 (14 + i2) 5 = v := by rw [e5, uG_j (by decide), e4, uG_at]
        have w6 : G5 (14 + i2) 6 = v2 := by rw [e5, uG_at]
        show PX9_unit_14 R (PX9_unit_J R F) d v (14 + i2) v2 (0 + 1) G5 Q
        have hp5 : Pre G5 tk cd c (i2 + 1) (pbehind tk eE b).2 d := ⟨PT_FP p1 f5, by rw [ot 7 8 (by omega) (by omega)]; exact j2, by rw [ot 7 9 (by omega) (by omega)]; exact j1, by omega, j4, j5, by rw [e5, e4, uG_c (by omega), uG_c (by omega)]; exact g14, by omega, by omega, p10, p11, CD_FP p12 f5⟩
        refine unit_loop hB hI hF 701 F G5 (i2 + 1) (pbehind tk eE b).2 v (14 + i2) v2 (0 + 1) Q (by omega) (by omega) hp5 (by omega) (by omega) (by omega) (by rw [ot v2 8 (by omega) (by omega)]; exact w8) (fun v' G6 h6 => ?_)
        obtain ⟨q0, qf, qs⟩ := h6
        rw [← s0] at qf qs
        by_cases e3 : (punit tk eE cU a).1 = 0
        · obtain ⟨q1, q2, q3, q4, q5, q6, q7, i', q8, q9, q10, q11⟩ := qs e3
          subst q1
          have o6 : ∀ k j, 14 ≤ k → k < 14 + (i2 + 1) → ¬ (k = v2 ∧ j = 8) → G6 k j = G5 k j := q7
          have wn : ∀ j, j ≠ 5 → j ≠ 6 → G6 (14 + i2) j = G3 (14 + i2) j := fun j x y => by rw [o6 _ j (by omega) (by omega) (by omega)]; exact wt j x y
          refine hQ (14 + i2) G6 ⟨⟨FP_tr f5 q0, fun u => absurd e3 u, fun _ => ⟨q2, q3, by omega, q5, q6, fun k j x y _ => ?_, i', q8, by omega, by omega, ?_⟩⟩, fun u => absurd e3 u, fun _ => by rw [wn 8 (by decide) (by decide)]; exact g8⟩
          · rw [o6 k j x (by omega) (by omega), ot k j (by omega) (by omega), j6 k j x (by omega) (fun h => h)]; exact k6 k j x y (fun h => h)
          · refine ⟨fun u => ?_, fun _ => ⟨i1, i2, by omega, by omega, by omega, rfl, by rw [wn 0 (by decide) (by decide)]; exact g0, by rw [wn 1 (by decide) (by decide)]; exact g1, by rw [wn 4 (by decide) (by decide)]; exact g4, by rw [wn 11 (by decide) (by decide)]; exact g11, ?_, ?_, ?_⟩⟩
            · rw [hb] at u; exact absurd z u
            · rw [o6 _ 5 (by omega) (by omega) (by omega), w5]
              refine TF3_F (cFront_F hI hF hCI hCF) _ _ _ _ _ _ k10 (fun k j x y _ => ?_)
              rw [o6 k j (by omega) (by omega) (by omega), ot k j (by omega) (by omega)]
              exact j6 k j (by omega) (by omega) (fun h => h)
            · rw [o6 _ 6 (by omega) (by omega) (by omega), w6, hb]
              refine TF3_F (cBehind_F hI hF) _ _ _ _ _ _ j10 (fun k j x y x3 => ?_)
              rw [o6 k j (by omega) (by omega) x3, ot k j (by omega) (by omega)]
            · rw [o6 _ 6 (by omega) (by omega) (by omega), w6, hb]
              show cTail tk cd T eE 702 (i2 + 1) i' (G6 v2 8) (pbehind tk eE b).2 G6
              exact cTail_M 701 _ _ _ _ _ q11
        · obtain ⟨r1, r2, r3⟩ := qf e3
          exact hQ v' G6 ⟨⟨FP_tr f5 q0, fun _ => ⟨r1, r2⟩, fun u => absurd u e3⟩, fun _ => r3, fun u => absurd u e3⟩
      · have ev2 := m2 e2
        have g := m1.2.1 e2
        rw [pb_n e2] at s0
        refine sX9_node_any (fG2.2 (NC_of hp')) (fun r G3 r0 r1 f3 g3 => ⟨nd_of (i := 800) (by omega) (by omega), Or.inr hvO, fun G4 e4 => ⟨Or.inl ev2, fun G5 e5 => ⟨by unfold inI; omega, ?_⟩⟩⟩)
        have f5 : FP G G5 := by rw [e5, e4]; exact FP_up (FP_up (FP_tr fG2 f3) (by omega)) (by omega)
        show PX9_unit_14 R (PX9_unit_J R F) d v r v2 (0 + 1) G5 Q
        have g5 : ∀ j, j ≠ 14 → G5 7 j = G2 7 j := fun j hj => by rw [e5, e4, uG_c (by omega), uG_c (by omega)]; exact g3 j hj
        exact unit_fault (by rw [g5 9 (by decide), g.1]; exact e2) (hQ (-1) G5 ⟨⟨f5, fun _ => by rw [s0]; exact ⟨by rw [g5 9 (by decide)]; exact g.1, by unfold AT; rw [g5 10 (by decide), g5 8 (by decide)]; exact g.2⟩, fun u => by rw [s0] at u; exact absurd u e2⟩, fun _ => rfl, fun u => by rw [s0] at u; exact absurd u e2⟩)
    unfold PX9_unit_14
    refine ⟨fun _ => fun _ => ⟨fun _ => sX9_now pt1 k2 (by omega) (by omega) (fun _ => ⟨fun z => go (Or.inl z), fun z => sX9_now pt1 k2 (by omega) (by omega) (fun _ => ⟨fun z2 => go (Or.inr z2), fun z2 => stop (fun u => u.elim z z2)⟩)⟩), fun z => absurd k1 z⟩, fun z => absurd (by decide) z⟩
  · have ev := l2 e0
    have g := l1.2.1 e0
    rw [pb_n e0] at s0
    subst ev
    refine unit_fault (by rw [g.1]; exact e0) (hQ (-1) G1 ⟨⟨l1.1, fun _ => by rw [s0]; exact g, fun u => by rw [s0] at u; exact absurd u e0⟩, fun _ => rfl, fun u => by rw [s0] at u; exact absurd u e0⟩)
end CQ1

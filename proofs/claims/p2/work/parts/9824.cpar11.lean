section CQ3
variable {tk cd : Int → Int} {P : TT} {eP : Int → RR} {isOp : Int → Prop} {c d b i a : Int} {R : JT} {G : gS}
theorem chain_ok {L : Nat → Int → RR} {Q : Int → gS → Prop} (hP : SPt R tk cd c P eP isOp d b) (hL : LSp tk eP isOp L) (hI : TI P) (hF : TF3 P) (hA : TA P) (hop : ∀ k, isOp k → k ≠ 0) (hp : Pre G tk cd c i a d) (hQ : ∀ v G', PsE G G' c i a (pb (eP a) (L 702)) (cChain tk P eP isOp) v → Q v G') : PX9_chain R d b G Q := by
  have hp' := hp
  obtain ⟨p1, p2, p3, p4, p5, p6, p7, p8, p9, p10, p11, p12⟩ := hp
  refine ⟨3999999999 + 1, by omega, ?_⟩
  generalize hFF : (3999999999 : Nat) = F
  have hF9 : 702 < F := by omega
  have key : ∀ v G1, PsE G G1 c i a (eP a) P v → PX9_chain_25 R (PX9_chain_J R (F + 1)) d b v v 0 G1 Q := fun v G1 h => by
    obtain ⟨l1, l2, l3⟩ := h
    by_cases e0 : (eP a).1 = 0
    · obtain ⟨k1, k2, k3, k4, k5, k6, i1, k7, k8, k9, k10⟩ := l1.2.2 e0
      obtain ⟨kv, ev, kv1, kv2⟩ := hI _ _ _ _ _ k10
      have n8 := l3 e0
      have s0 : pb (eP a) (L 702) = L (701 + 1) (eP a).2 := pb_0 e0
      generalize hb : (eP a).2 = x at *
      have f1 := l1.1
      have pt1 := PT_FP p1 f1
      have hp1 : Pre G1 tk cd c i1 x d := ⟨pt1, k2, k1, by omega, k4, k5, k7, by omega, by omega, p10, p11, CD_FP p12 f1⟩
      have vO : isO W0 8 v := nd_of (i := i1) (by omega) (by omega)
      unfold PX9_chain_25
      refine ⟨fun _ => ⟨fun z => by omega, fun _ => sX9_now pt1 k2 (by omega) (by omega) (fun _ => isOp_ch hP (fun z => fun _ => ⟨fun u => absurd u (by decide), fun _ => ⟨by omega, by omega, fun _ => ⟨vO, fun _ => ?_⟩, fun u => absurd rfl u⟩⟩) (fun z => fun _ => ⟨fun _ => ?_, fun u => absurd rfl u⟩))⟩, fun z => absurd (by decide) z⟩
      · rw [(hL 701 x).1 z] at s0
        rw [hA _ _ _ _ _ k10]
        refine sX9_node k7 (by omega) (by omega) (fun G2 hN => ⟨nd_isO (by omega) (by omega), fun G3 e3 => ?_⟩)
        have f2 := FP_tr f1 (NN_FP hN (by omega) (by omega))
        obtain ⟨g14, g0, g1, g2, g3, g4, g5, g6, g7, g8, g9, g10, g11, gf⟩ := hN
        have f3 : FP G G3 := by rw [e3]; exact FP_up f2 (by omega)
        have ot : ∀ k j, k ≠ 14 + i1 → ¬ (k = 7 ∧ j = 14) → G3 k j = G1 k j := fun k j x1 x2 => by rw [e3, uG_c x1]; exact gf k j x1 x2
        have w0 : G3 (14 + i1) 0 = 17 := by rw [e3, uG_j (by decide)]; exact g0
        have w1 : G3 (14 + i1) 1 = a := by rw [e3, uG_j (by decide)]; exact g1
        have w5 : G3 (14 + i1) 5 = v := by rw [e3, uG_at]
        have w8 : G3 (14 + i1) 8 = -1 := by rw [e3, uG_j (by decide)]; exact g8
        have pt3 := PT_FP p1 f3
        have at3 : G3 7 8 = x := by rw [ot 7 8 (by omega) (by omega)]; exact k2
        have fl3 : G3 7 9 = 0 := by rw [ot 7 9 (by omega) (by omega)]; exact k1
        have hxc := PT_lt p1 (hop _ z)
        refine chain_72 (i := i1 + 1) hP hI hF pt3 at3 fl3 (by omega) k4 (fun y => ?_) (by omega) (by omega) (by omega) (fun v2 G4 i2 x4 e4 f4 hp4 q1 q2 q3 q4 q5 q6 q7 q8 => ?_) (fun r G4 hr hx g9' g10' f4 => ?_)
        · have f3' : FP G (uG G3 7 8 (x + 1)) := FP_up f3 (by omega)
          exact ⟨PT_FP p1 f3', uG_at _ _ _ _, by rw [uG_j (by decide)]; exact fl3, by omega, by omega, by omega, by rw [uG_j (by decide), e3, uG_c (by omega)]; exact g14, by omega, by omega, p10, p11, CD_FP p12 f3'⟩
        · rw [pb_e x4, pb_0 e4] at s0
          obtain ⟨kw, ew, kw1, kw2⟩ := hI _ _ _ _ _ q4
          show PX9_chain_25 R (PX9_chain_J R F) d b v2 (14 + i1) (0 + 1) G4 Q
          refine chain_loop hP hL hI hF hop 701 F G4 i2 (eP (x + 1)).2 (14 + i1) v2 (0 + 1) Q (by omega) (by omega) hp4 (by omega) (by omega) (by omega) (by omega) (by omega) q6 (fun v' G5 h5 => ?_)
          obtain ⟨m1, m2, m3⟩ := h5
          rw [← s0] at m2 m3
          by_cases e5 : (pb (eP a) (L 702)).1 = 0
          · obtain ⟨r1, r2, r3, r4, r5, r6, r7, i', r8, r9, r10, r11⟩ := m3 e5
            subst r1
            have o5 : ∀ k j, 14 ≤ k → k < 14 + (i1 + 1) → ¬ (k = v ∧ j = 8) → G5 k j = G3 k j := fun k j x1 x2 x3 => by rw [r7 k j x1 (by omega) (by omega)]; exact q8 k j x1 x2 x3
            have el : G5 v 8 = v2 := by rw [r7 v 8 (by omega) (by omega) (by omega)]; exact q7
            refine hQ (14 + i1) G5 ⟨⟨FP_tr f3 (FP_tr f4 m1), fun u => absurd e5 u, fun _ => ⟨r2, r3, by omega, r5, r6, fun k j x1 x2 _ => ?_, i', r8, by omega, by omega, ?_⟩⟩, fun u => absurd e5 u, fun _ => by rw [o5 _ 8 (by omega) (by omega) (by omega)]; exact w8⟩
            · rw [o5 k j x1 (by omega) (by omega), ot k j (by omega) (by omega)]; exact k6 k j x1 x2 (fun h => h)
            · refine ⟨fun u => ?_, fun _ => ⟨i1, by omega, by omega, rfl, by rw [o5 _ 0 (by omega) (by omega) (by omega)]; exact w0, by rw [o5 _ 1 (by omega) (by omega) (by omega)]; exact w1, ?_, ?_⟩⟩
              · rw [hb] at u; exact absurd z u
              · rw [o5 _ 5 (by omega) (by omega) (by omega), w5]
                refine TF3_F hF _ _ _ _ _ _ k10 (fun k j x1 x2 x3 => ?_)
                rw [o5 k j (by omega) (by omega) x3, ot k j (by omega) (by omega)]
              · rw [o5 _ 5 (by omega) (by omega) (by omega), w5, el, hb]
                refine ⟨fun _ => ⟨i2, by omega, ?_, ?_, r11⟩, fun u => absurd z u⟩
                · exact hF _ _ _ _ _ _ q4 (fun k j x1 x2 x3 => r7 k j (by omega) (by omega) (by omega))
                · rw [r7 v2 3 (by omega) (by omega) (by omega)]; exact q5
          · obtain ⟨r1, r2, r3⟩ := m2 e5
            exact hQ v' G5 ⟨⟨FP_tr f3 (FP_tr f4 m1), fun _ => ⟨r1, r2⟩, fun u => absurd u e5⟩, fun _ => r3, fun u => absurd u e5⟩
        · show PX9_chain_25 R (PX9_chain_J R F) d b (-1) (14 + i1) (0 + 1) G4 Q
          have er : pb (eP a) (L 702) = r := by
            rcases hx with ⟨h1, h2⟩ | ⟨h1, h2⟩
            · rw [s0, h2, h1]; exact pb_n three_ne
            · rw [s0, pb_e h1, h2]; rw [h2] at hr; exact pb_n hr
          exact chain_fault (hQ (-1) G4 ⟨⟨FP_tr f3 f4, fun _ => by rw [er]; exact ⟨g9', g10'⟩, fun u => by rw [er] at u; exact absurd u hr⟩, fun _ => rfl, fun u => by rw [er] at u; exact absurd u hr⟩)
      · rw [(hL 701 x).2 z] at s0
        unfold PX9_chain_136 PX9_chain_146
        refine ⟨fun u => by omega, fun _ => hQ v G1 ?_⟩
        rw [s0]
        refine PsE_of (Pst_now hp1 f1 k3 ⟨k8, k9⟩ (fun k j x1 x2 _ => k6 k j x1 x2 (fun h => h)) ⟨⟨fun _ => k10, fun u => ?_⟩, n8⟩ rfl) (fun u => absurd rfl u)
        rw [hb] at u
        exact absurd u z
    · have ev := l2 e0
      have g := l1.2.1 e0
      have s0 : pb (eP a) (L 702) = eP a := pb_n e0
      subst ev
      exact chain_fault (hQ (-1) G1 ⟨⟨l1.1, fun _ => by rw [s0]; exact g, fun u => by rw [s0] at u; exact absurd u e0⟩, fun _ => rfl, fun u => by rw [s0] at u; exact absurd u e0⟩)
  unfold PX9_chain_0 PX9_chain_18
  rcases hP with ⟨hb, ho, hS⟩ | ⟨hb, ho, hS⟩
  · exact ⟨fun _ => hS G i a _ hp' key, fun z => absurd hb z⟩
  · exact ⟨fun z => by omega, fun _ => hS G i a _ hp' key⟩
-- E
theorem expr_ok {U : TT} {uU : Int → RR} {Q : Int → gS → Prop} (hd : d < 12) (hS : SEx R tk cd c (cSum tk U uU) (psum tk uU) 2 [d + 1, 1] (d + 1)) (hUI : TI U) (hUF : TF3 U) (hUA : TA U) (hp : Pre G tk cd c i a d) (hQ : ∀ v G', PsE G G' c i a (pexpr tk uU a) (cExpr tk U uU) v → Q v G') : PX9_expr R d G Q := by
  have hp' := hp
  obtain ⟨p1, p2, p3, p4, p5, p6, p7, p8, p9, p10, p11, p12⟩ := hp
  unfold PX9_expr PX9_expr_0
  refine sX9_now p1 p2 p4 (by omega) (fun _ => sX9_beginsE (a := a) rfl (fun hb => fun _ => ⟨fun u => absurd u (by decide), fun _ => ⟨fun _ => ⟨by unfold inI; omega, ?_⟩, fun u => absurd hd u⟩⟩) (fun hb => fun _ => ⟨fun _ => sX9_miss p1 p2 p3 p4 (by omega) (fun _ => hQ (-1) _ ⟨Pst_fl (FP_id _) (pmiss_ne (tk := tk) a) (by unfold pexpr; rw [hb]; rfl), fun _ => rfl, fun z => ?_⟩), fun u => absurd rfl u⟩))
  · have s0 : pexpr tk uU a = pb (psum tk uU a) fun b => if tk b = 160 ∨ tk b = 99 then pb (ptake b) (psum tk uU) else (0, b) := by unfold pexpr; rw [if_pos hb]
    refine hS G i a _ (Pre_d1 hp' hd) (fun v G1 h => ?_)
    obtain ⟨l1, l2, l3⟩ := h
    by_cases e0 : (psum tk uU a).1 = 0
    · obtain ⟨k1, k2, k3, k4, k5, k6, i1, k7, k8, k9, k10⟩ := l1.2.2 e0
      obtain ⟨kv, ev, kv1, kv2⟩ := cSum_I hUI _ _ _ _ _ k10
      have n8 := l3 e0
      rw [pb_0 e0] at s0
      generalize hx : (psum tk uU a).2 = x at *
      have f1 := l1.1
      have pt1 := PT_FP p1 f1
      have hp1 : Pre G1 tk cd c i1 x d := ⟨pt1, k2, k1, by omega, k4, k5, k7, by omega, by omega, p10, p11, CD_FP p12 f1⟩
      have vO : isO W0 8 v := nd_of (i := i1) (by omega) (by omega)
      refine ⟨fun z => by omega, fun _ => ?_⟩
      have stop : ¬ isCmp (tk x) → PX9_expr_63 R d v G1 Q := fun z => by
        unfold isCmp at z
        rw [if_neg z] at s0
        unfold PX9_expr_63
        refine hQ v G1 ?_
        rw [s0]
        refine PsE_of (Pst_now hp1 f1 k3 ⟨k8, k9⟩ (fun k j x1 x2 _ => k6 k j x1 x2 (fun h => h)) ⟨⟨fun _ => k10, fun u => ?_⟩, n8⟩ rfl) (fun u => absurd rfl u)
        rw [hx] at u
        exact absurd u z
      have go : isCmp (tk x) → PX9_expr_65 R d v G1 Q := fun z => by
        have z' := z
        unfold isCmp at z
        rw [if_pos z] at s0
        unfold PX9_expr_65
        refine ⟨vO, fun _ => ?_⟩
        rw [cSum_A hUA _ _ _ _ _ k10]
        refine sX9_node k7 (by omega) (by omega) (fun G2 hN => ?_)
        have f2 := FP_tr f1 (NN_FP hN (by omega) (by omega))
        obtain ⟨g14, g0, g1, g2, g3, g4, g5, g6, g7, g8, g9, g10, g11, gf⟩ := hN
        have pt2 := PT_FP p1 f2
        have nO : isO W0 8 (14 + i1) := nd_isO (by omega) (by omega)
        refine sX9_now (a := x) pt2 (by rw [gf 7 8 (by omega) (by omega)]; exact k2) (by omega) (by omega) (fun _ => ⟨nO, fun G3 e3 G4 e4 => ?_⟩)
        have f4 : FP G G4 := by rw [e4, e3]; exact FP_up (FP_up f2 (by omega)) (by omega)
        have ot : ∀ k j, k ≠ 14 + i1 → ¬ (k = 7 ∧ j = 14) → G4 k j = G1 k j := fun k j x1 x2 => by rw [e4, e3, uG_c x1, uG_c x1]; exact gf k j x1 x2
        have wt : ∀ j, j ≠ 3 → j ≠ 5 → G4 (14 + i1) j = G2 (14 + i1) j := fun j x1 x2 => by rw [e4, e3, uG_j x2, uG_j x1]
        have w3 : G4 (14 + i1) 3 = tk x := by rw [e4, uG_j (by decide), e3, uG_at]
        have w5 : G4 (14 + i1) 5 = v := by rw [e4, uG_at]
        have hp4 : a < a → False := fun h => absurd h (by omega)
        have at4 : G4 7 8 = x := by rw [ot 7 8 (by omega) (by omega)]; exact k2
        have fl4 : G4 7 9 = 0 := by rw [ot 7 9 (by omega) (by omega)]; exact k1
        have hxc := PT_lt p1 (show tk x ≠ 0 by omega)
        unfold PX9_expr_109 PX9_expr_124
        refine sX9_take at4 fl4 (by omega) (fun x4 y4 => fun _ => ⟨fun u => absurd u (by decide), fun _ => ⟨by unfold inI; omega, ?_⟩⟩) (fun x4 => fun _ => ⟨fun _ => ⟨nO, Or.inl rfl, fun G5 e5 => ⟨nO, ?_⟩⟩, fun u => absurd rfl u⟩)
        · rw [pb_e x4] at s0
          have f5 : FP G (uG G4 7 8 (x + 1)) := FP_up f4 (by omega)
          have hp5 : Pre (uG G4 7 8 (x + 1)) tk cd c (i1 + 1) (x + 1) (d + 1) := ⟨PT_FP p1 f5, uG_at _ _ _ _, by rw [uG_j (by decide)]; exact fl4, by omega, by omega, by omega, by rw [uG_j (by decide), e4, e3, uG_c (by omega), uG_c (by omega)]; exact g14, by omega, by omega, by omega, by omega, CD_FP p12 f5⟩
          refine hS _ (i1 + 1) (x + 1) _ hp5 (fun v2 G6 h6 => ?_)
          obtain ⟨m1, m2, m3⟩ := h6
          have f6 := FP_tr f5 m1.1
          by_cases e6 : (psum tk uU (x + 1)).1 = 0
          · obtain ⟨j1, j2, j3, j4, j5, j6, i2, j7, j8, j9, j10⟩ := m1.2.2 e6
            obtain ⟨kw, ew, kw1, kw2⟩ := cSum_I hUI _ _ _ _ _ j10
            refine ⟨nO, Or.inr (nd_of (i := i2) (by omega) (by omega)), fun G7 e7 => ⟨nO, ?_⟩⟩
            have a7 : G7 (14 + i1) 6 = v2 := by rw [e7, uG_at]
            rw [a7]
            refine fun _ => ⟨fun u => by omega, fun _ => hQ (14 + i1) G7 ?_⟩
            have o7 : ∀ k j, 14 ≤ k → k < 14 + (i1 + 1) → ¬ (k = 14 + i1 ∧ j = 6) → G7 k j = G4 k j := fun k j x1 x2 x3 => by rw [e7, uG_ne (by omega), j6 k j x1 x2 (fun h => h), uG_c (by omega)]
            have wn : ∀ j, j ≠ 3 → j ≠ 5 → j ≠ 6 → G7 (14 + i1) j = G2 (14 + i1) j := fun j x1 x2 x3 => by rw [o7 _ j (by omega) (by omega) (by omega)]; exact wt j x1 x2
            refine ⟨⟨by rw [e7]; exact FP_up f6 (by omega), fun u => absurd (by rw [s0]; exact e6) u, fun _ => ?_⟩, fun u => absurd (by rw [s0]; exact e6) u, fun _ => by rw [wn 8 (by decide) (by decide) (by decide)]; exact g8⟩
            rw [s0]
            refine ⟨by rw [e7, uG_c (by omega)]; exact j1, by rw [e7, uG_c (by omega)]; exact j2, by omega, j4, j5, fun k j x1 x2 _ => ?_, i2, by rw [e7, uG_c (by omega)]; exact j7, by omega, by omega, fun u => ?_, fun _ => ⟨i1, by omega, by omega, rfl, by rw [wn 0 (by decide) (by decide) (by decide)]; exact g0, by rw [wn 1 (by decide) (by decide) (by decide)]; exact g1, by rw [o7 _ 3 (by omega) (by omega) (by omega), hx]; exact w3, ?_, ?_⟩⟩
            · rw [o7 k j x1 (by omega) (by omega), ot k j (by omega) (by omega)]; exact k6 k j x1 x2 (fun h => h)
            · rw [hx] at u; exact absurd z' u
            · rw [o7 _ 5 (by omega) (by omega) (by omega), w5]
              refine TF3_F (cSum_F hUI hUF) _ _ _ _ _ _ k10 (fun k j x1 x2 x3 => ?_)
              rw [o7 k j (by omega) (by omega) (by omega), ot k j (by omega) (by omega)]
            · rw [a7, hx]
              refine TF3_F (cSum_F hUI hUF) _ _ _ _ _ _ j10 (fun k j x1 x2 x3 => ?_)
              rw [e7, uG_ne (by omega)]
          · have ev2 := m2 e6
            have g := m1.2.1 e6
            refine ⟨nO, Or.inl ev2, fun G7 e7 => ⟨nO, ?_⟩⟩
            have a7 : G7 (14 + i1) 6 = -1 := by rw [e7, uG_at]; exact ev2
            rw [a7]
            refine fun _ => ⟨fun _ => hQ (-1) G7 ⟨⟨by rw [e7]; exact FP_up f6 (by omega), fun _ => ?_, fun u => ?_⟩, fun _ => rfl, fun u => ?_⟩, fun u => absurd u (by decide)⟩
            · exact ⟨by rw [e7, uG_c (by omega), s0]; exact g.1, by rw [s0]; exact AT_c e7 (by omega) g.2⟩
            · rw [s0] at u; exact absurd u e6
            · rw [s0] at u; exact absurd u e6
        · have a5 : G5 (14 + i1) 6 = -1 := by rw [e5, uG_at]
          have er : pexpr tk uU a = (3, x) := by rw [s0, x4]; exact pb_n three_ne
          rw [a5]
          refine fun _ => ⟨fun _ => hQ (-1) G5 ⟨⟨by rw [e5]; exact FP_up (FP_fG f4) (by omega), fun _ => ?_, fun u => ?_⟩, fun _ => rfl, fun u => ?_⟩, fun u => absurd u (by decide)⟩
          · rw [er]
            refine ⟨?_, ?_⟩
            · rw [e5, uG_c (by omega)]; exact (fG_at _ _ _).1
            · exact AT_c e5 (by omega) (fG_at _ _ _).2
          · rw [er] at u; exact absurd u three_ne
          · rw [er] at u; exact absurd u three_ne
      exact sX9_now pt1 k2 (by omega) (by omega) (fun _ => ⟨fun z => go (Or.inl z), fun z => sX9_now pt1 k2 (by omega) (by omega) (fun _ => ⟨fun z2 => go (Or.inr z2), fun z2 => stop (fun u => u.elim z z2)⟩)⟩)
    · have ev := l2 e0
      have g := l1.2.1 e0
      rw [pb_n e0] at s0
      subst ev
      unfold PX9_expr_63
      exact ⟨fun _ => hQ (-1) G1 ⟨⟨l1.1, fun _ => by rw [s0]; exact g, fun u => by rw [s0] at u; exact absurd u e0⟩, fun _ => rfl, fun u => by rw [s0] at u; exact absurd u e0⟩, fun u => absurd u (by decide)⟩
  · unfold pexpr at z
    rw [hb] at z
    exact absurd z (pmiss_ne (tk := tk) a)
end CQ3

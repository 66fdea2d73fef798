section CP8
variable {tk cd : Int → Int} {T C : TT} {eE cU : Int → RR} {c d i a : Int} {R : JT} {G : gS}
def SB (R : JT) (tk cd : Int → Int) (c : Int) (T : TT) (eE : Int → RR) (d : Int) : Prop := ∀ (G : gS) (i a : Int) (Q : Int → gS → Prop), Pre G tk cd c i a d → isTail tk a → (∀ v G', PsE G G' c i a (pbehind tk eE a) (cBehind tk cd T eE) v → ((pbehind tk eE a).1 = 0 → G' 7 14 + 1 ≤ i + ((pbehind tk eE a).2 - a)) → Q v G') → R 1 [d] G Q
theorem behind_ok {Q : Int → gS → Prop} (hA : SA R tk cd c T eE d) (hp : Pre G tk cd c i a d) (ht : isTail tk a) (hQ : ∀ v G', PsE G G' c i a (pbehind tk eE a) (cBehind tk cd T eE) v → ((pbehind tk eE a).1 = 0 → G' 7 14 + 1 ≤ i + ((pbehind tk eE a).2 - a)) → Q v G') : PX9_behindUnit R d G Q := by
  have hp' := hp
  obtain ⟨p1, p2, p3, p4, p5, p6, p7, p8, p9, p10, p11, p12⟩ := hp
  unfold isTail at ht
  have fail : ∀ G1 m x, FP G G1 → m ≠ 0 → pbehind tk eE a = (m, x) → Q (-1) (fG G1 m x) := fun G1 m x hF hm hr => hQ (-1) _ ⟨Pst_fl hF hm hr, fun _ => rfl, fun z => by rw [hr] at z; exact absurd z hm⟩ (fun z => by rw [hr] at z; exact absurd z hm)
  have s0 : pbehind tk eE a = pb (ptake a) fun b => if tk a = 39 then pneed tk 2 b else pb (pneed tk 3 b) fun c => if tk c = 140 then pargs tk eE c else (0, c) := rfl
  have main : ∀ s k w : Int, (s = 0 ∧ tk a ≠ 39 ∧ k = 14 ∧ w = 3 ∨ s = 1 ∧ tk a = 39 ∧ k = 16 ∧ w = 2) → PX9_behindUnit_14 R d s G Q := by
    intro s k w hs
    unfold PX9_behindUnit_14
    refine sX9_take p2 p3 p4 (fun x y => fun _ => ⟨fun u => absurd u (by decide), fun _ => ?_⟩) (fun x => fun _ => ⟨fun _ => fail G 3 a (FP_id _) (by decide) (by rw [s0, x]; exact pb_n three_ne), fun u => absurd rfl u⟩)
    have s1 := s0
    rw [pb_e x] at s1
    have hp1 := Pre_take hp' y (by omega)
    generalize hG1 : uG G 7 8 (a + 1) = G1 at *
    have f1 : FP G G1 := by rw [← hG1]; exact FP_up (FP_id _) (by omega)
    obtain ⟨q1, q2, q3, q4, q5, q6, q7, q8, q9, q10, q11, q12⟩ := hp1
    have body : PX9_behindUnit_36 R d s 7 k G1 Q := by
      unfold PX9_behindUnit_36
      rw [q2]
      refine fun _ => ⟨oC9, sX9_node q7 q8 (by omega) (fun G2 hN => ?_)⟩
      have f2 := NN_FP hN q8 (by omega)
      obtain ⟨m14, n0, n1, n2, n3, n4, n5, n6, n7, n8, n9, n10, n11, nf⟩ := hN
      have g8 : G2 7 8 = a + 1 := by rw [nf 7 8 (by omega) (by omega)]; exact q2
      rw [g8, (CD_FP q12 f2) (a + 1) (by omega) (by omega)]
      have hnO : isO W0 8 (14 + i) := nd_isO q8 (by omega)
      refine fun _ => ⟨by omega, by omega, fun _ => ⟨hnO, fun G3 e3 => ?_⟩⟩
      have f3 : FP G G3 := by rw [e3]; exact FP_up (FP_tr f1 f2) (by omega)
      have hp3 : Pre G3 tk cd c (i + 1) (a + 1) d := ⟨PT_FP p1 f3, by rw [e3, uG_c (by omega)]; exact g8, by rw [e3, uG_c (by omega), nf 7 9 (by omega) (by omega)]; exact q3, q4, q5, q6, by rw [e3, uG_c (by omega)]; exact m14, by omega, by omega, q10, q11, CD_FP p12 f3⟩
      have o3 : ∀ k' j, 14 ≤ k' → k' < 14 + i → G3 k' j = G k' j := fun k' j x1 x2 => by rw [e3, uG_c (by omega), nf k' j (by omega) (by omega), ← hG1, uG_c (by omega)]
      have e1 : ∀ j, j ≠ 10 → G3 (14 + i) j = G2 (14 + i) j := fun j w => by rw [e3, uG_j w]
      have v0 : G3 (14 + i) 0 = k := by rw [e1 0 (by decide)]; exact n0
      have v1 : G3 (14 + i) 1 = a + 1 := by rw [e1 1 (by decide)]; exact n1
      have v2 : G3 (14 + i) 2 = a + 1 := by rw [e1 2 (by decide)]; exact n2
      have v4 : G3 (14 + i) 4 = -1 := by rw [e1 4 (by decide)]; exact n4
      have v5 : G3 (14 + i) 5 = -1 := by rw [e1 5 (by decide)]; exact n5
      have v8 : G3 (14 + i) 8 = -1 := by rw [e1 8 (by decide)]; exact n8
      have v11 : G3 (14 + i) 11 = -1 := by rw [e1 11 (by decide)]; exact n11
      have v10 : G3 (14 + i) 10 = cd (a + 1) := by rw [e3, uG_at]
      have body2 : PX9_behindUnit_67 R d s (14 + i) 7 w G3 Q := by
        unfold PX9_behindUnit_67 PX9_behindUnit_109 PX9_behindUnit_110
        have sn : pneed tk w (a + 1) ≠ (0, a + 1 + 1) ∨ True := Or.inr trivial
        have sf : ∀ m x, m ≠ 0 → pneed tk w (a + 1) = (m, x) → pbehind tk eE a = (m, x) := fun m x hm hx => by
          rcases hs with ⟨-, h2, -, h4⟩ | ⟨-, h2, -, h4⟩
          · subst h4; rw [s1, if_neg h2, hx]; exact pb_n hm
          · subst h4; rw [s1, if_pos h2]; exact hx
        refine ⟨oC9, sX9_need hp3.1 hp3.2.1 hp3.2.2.1 (by omega) (by omega) (by omega) (fun x3 y3 w3 => fun _ => ⟨fun u => absurd u (by decide), fun _ => ?_⟩) (fun m x3 y3 => fun _ => ⟨fun _ => fail G3 m (a + 1) f3 x3 (sf m _ x3 y3), fun u => absurd rfl u⟩)⟩
        have hp4 := Pre_take hp3 y3 (by omega)
        have f4 : FP G (uG G3 7 8 (a + 1 + 1)) := FP_up f3 (by omega)
        rcases hs with ⟨h1, h2, h3, h4⟩ | ⟨h1, h2, h3, h4⟩
        · subst h1 h3 h4
          have s2 : pbehind tk eE a = (if tk (a + 1 + 1) = 140 then pargs tk eE (a + 1 + 1) else (0, a + 1 + 1)) := by rw [s1, if_neg h2]; exact pb_e x3
          refine ⟨fun _ => sX9_now hp4.1 hp4.2.1 (by omega) (by omega) (fun _ => ⟨fun u => ⟨hnO, fun G5 e5 => ?_⟩, fun u => ?_⟩), fun u => absurd rfl u⟩
          · rw [if_pos u] at s2
            have hp5 := Pre_nd (k := 14 + i) (j := 0) (v := 15) hp4 (by omega)
            rw [← e5] at hp5
            refine hA G5 (i + 1) (a + 1 + 1) (14 + i) _ hp5 (by omega) (by rw [e5, uG_j (by decide), uG_c (by omega)]; exact v5) (fun v G' h => ?_)
            obtain ⟨l1, l2, l3⟩ := h
            rw [← s2] at l1 l2 l3
            have res : ∀ v', ((pbehind tk eE a).1 ≠ 0 → v' = -1) → ((pbehind tk eE a).1 = 0 → v' = 14 + i) → Q v' G' := fun v' w1 w2 => by
              have nc : (pbehind tk eE a).1 = 0 → G' 7 14 + 1 ≤ i + ((pbehind tk eE a).2 - a) := fun z => by
                obtain ⟨u1, u2, u3, u4, u5, u6, i', u7, u8, u9, u10⟩ := l1.2.2 z
                omega
              refine hQ v' G' (PsE_of (Pst_seq (b := a + 1 + 1) (i1 := i + 1) (by rw [e5]; exact FP_up f4 (by omega)) (fun k' j x1 x2 _ => by rw [e5, uG_c (by omega), uG_c (by omega)]; exact o3 k' j x1 x2) (by omega) (by omega) l1 (fun k' j x1 x2 => by omega) (fun z hg i' hi' hk => ?_)) w1) nc
              rw [w2 z]
              have g1 : ∀ j, j ≠ 5 → j ≠ 0 → G' (14 + i) j = G3 (14 + i) j := fun j x1 x2 => by rw [hg _ j (by omega) (by omega) (fun w => x1 w.2), e5, uG_j x2, uG_c (by omega)]
              exact ⟨⟨rfl, by omega, by rw [g1 1 (by omega) (by omega)]; exact v1, by rw [g1 2 (by omega) (by omega)]; exact v2, by rw [g1 4 (by omega) (by omega)]; exact v4, by rw [g1 11 (by omega) (by omega)]; exact v11, fun w => absurd w h2, fun _ => ⟨fun _ => ⟨by rw [hg _ 0 (by omega) (by omega) (by omega), e5, uG_at], by rw [show a + 2 = a + 1 + 1 by omega]; exact hk⟩, fun w => absurd (by rw [show a + 2 = a + 1 + 1 by omega]; exact u) w⟩⟩, by rw [g1 8 (by omega) (by omega)]; exact v8⟩
            by_cases e : (pbehind tk eE a).1 = 0
            · have ev := l3 e
              subst ev
              exact fun _ => ⟨fun w => absurd w (by decide), fun _ => res _ (fun w => absurd e w) (fun _ => rfl)⟩
            · have ev := l2 e
              subst ev
              exact fun _ => ⟨fun _ => res _ (fun _ => rfl) (fun w => absurd w e), fun w => absurd rfl w⟩
          · rw [if_neg u] at s2
            have g1 : ∀ j, uG G3 7 8 (a + 1 + 1) (14 + i) j = G3 (14 + i) j := fun j => uG_c (by omega)
            exact hQ _ _ (PsE_of (Pst_now hp4 f4 (by omega) (by omega) (fun k' j x1 x2 _ => by rw [uG_c (by omega)]; exact o3 k' j x1 x2) ⟨⟨rfl, by omega, by rw [g1]; exact v1, by rw [g1]; exact v2, by rw [g1]; exact v4, by rw [g1]; exact v11, fun w => absurd w h2, fun _ => ⟨fun w => absurd (by rw [show a + 1 + 1 = a + 2 by omega]; exact w) u, fun _ => by rw [g1]; exact v0⟩⟩, by rw [g1]; exact v8⟩ s2) (fun z => by rw [s2] at z; exact absurd rfl z)) (fun _ => by rw [s2, hp4.2.2.2.2.2.2.1]; show i + 1 + 1 ≤ i + (a + 1 + 1 - a); omega)
        · subst h1 h3 h4
          have s2 : pbehind tk eE a = (0, a + 1 + 1) := by rw [s1, if_pos h2]; exact x3
          refine ⟨fun u => absurd u (by decide), fun _ => ?_⟩
          have g1 : ∀ j, uG G3 7 8 (a + 1 + 1) (14 + i) j = G3 (14 + i) j := fun j => uG_c (by omega)
          exact hQ _ _ (PsE_of (Pst_now hp4 f4 (by omega) (by omega) (fun k' j x1 x2 _ => by rw [uG_c (by omega)]; exact o3 k' j x1 x2) ⟨⟨rfl, by omega, by rw [g1]; exact v1, by rw [g1]; exact v2, by rw [g1]; exact v4, by rw [g1]; exact v11, fun _ => ⟨by rw [g1]; exact v0, by rw [g1]; exact v10⟩, fun w => absurd h2 w⟩, by rw [g1]; exact v8⟩ s2) (fun z => by rw [s2] at z; exact absurd rfl z)) (fun _ => by rw [s2, hp4.2.2.2.2.2.2.1]; show i + 1 + 1 ≤ i + (a + 1 + 1 - a); omega)
      rcases hs with ⟨h1, h2, h3, h4⟩ | ⟨h1, h2, h3, h4⟩
      · subst h4; exact ⟨fun _ => body2, fun u => absurd h1 u⟩
      · subst h4; exact ⟨fun u => by omega, fun _ => body2⟩
    rcases hs with ⟨h1, h2, h3, h4⟩ | ⟨h1, h2, h3, h4⟩
    · subst h3; exact ⟨fun _ => body, fun u => absurd h1 u⟩
    · subst h3; exact ⟨fun u => by omega, fun _ => body⟩
  unfold PX9_behindUnit PX9_behindUnit_0
  exact sX9_now p1 p2 p4 (by omega) (fun _ => ⟨fun z => main 1 16 2 (Or.inr ⟨rfl, z, rfl, rfl⟩), fun z => main 0 14 3 (Or.inl ⟨rfl, z, rfl, rfl⟩)⟩)
end CP8

section CQ8
variable {tk cd : Int → Int} {T S B : TT} {eE sS bB : Int → RR} {c d i a : Int} {G : gS} {R : JT}
def STs (R : JT) (tk cd : Int → Int) (c : Int) (T S B : TT) (eE sS bB : Int → RR) (d : Int) : Prop := ∀ (G0 G : gS) (i0 a : Int) (Q : Int → gS → Prop), MS G0 G tk cd c i0 (i0 + 1) (a + 1) d → 0 ≤ i0 → 0 ≤ a → (tk a = 28 ∨ tk a = 30) → nC G (14 + i0) a → (∀ v G', PsE G0 G' c i0 a (pworded tk eE sS bB (tk a) (a + 1)) (oWord tk cd T S B eE sS bB) v → Q v G') → R 2 [14 + i0, tk a, d] G Q
def STy (R : JT) (tk cd : Int → Int) (c : Int) (T S B : TT) (eE sS bB : Int → RR) (d : Int) : Prop := ∀ (G0 G : gS) (i0 a : Int) (Q : Int → gS → Prop), MS G0 G tk cd c i0 (i0 + 1) (a + 1) d → 0 ≤ i0 → 0 ≤ a → tk a = 33 → nC G (14 + i0) a → (∀ v G', PsE G0 G' c i0 a (pworded tk eE sS bB (tk a) (a + 1)) (oWord tk cd T S B eE sS bB) v → Q v G') → R 3 [14 + i0, d] G Q
theorem worded_ok {Q : Int → gS → Prop} (hE : SEx (Rq6 200) tk cd c T eE 3 [d + 1] (d + 1)) (hI : TI T) (hF : TF T) (hT : STs R tk cd c T S B eE sS bB (d + 1)) (hY : STy R tk cd c T S B eE sS bB (d + 1)) (hd : d < 12) (hp : Pre G tk cd c i a d) (hw : tk a = 27 ∨ tk a = 28 ∨ tk a = 30 ∨ tk a = 31 ∨ tk a = 32 ∨ tk a = 33 ∨ tk a = 35) (hQ : ∀ v G', PsE G G' c i a (pb (ptake a) (pworded tk eE sS bB (tk a))) (oWord tk cd T S B eE sS bB) v → Q v G') : PX9_worded R (tk a) (d + 1) G Q := by
  have hp' := hp
  obtain ⟨p1, p2, p3, p4, p5, p6, p7, p8, p9, p10, p11, p12⟩ := hp
  have nO : isO W0 8 (14 + i) := nd_isO p8 (by omega)
  generalize hr0 : pb (ptake a) (pworded tk eE sS bB (tk a)) = r0 at *
  have bad : ∀ G1, BAD G G1 r0 → Q (-1) G1 := fun G1 h => hQ (-1) G1 (BAD_P h)
  have b196 : ∀ G1 l, BAD G G1 r0 → PX9_worded_196 R (tk a) (d + 1) l G1 Q := fun G1 l h => by
    unfold PX9_worded_196 PX9_worded_217 PX9_worded_218
    exact fun _ => ⟨fun z => BAD_f h z, fun _ => bad G1 h⟩
  have e196 : ∀ G1 i1 x, MS G G1 tk cd c i i1 x (d + 1) → r0 = pneed tk 159 x → i < i1 → i1 ≤ i + (x + 1 - a) → a < x → (G1 (14 + i) 1 = a ∧ G1 (14 + i) 4 = -1 ∧ G1 (14 + i) 11 = -1 ∧ G1 (14 + i) 8 = -1) → (∀ G', (∀ k j, 14 ≤ k → k < 14 + i1 → G' k j = G1 k j) → cWord tk cd T S B eE sS bB i i1 (14 + i) a G') → PX9_worded_196 R (tk a) (d + 1) (14 + i) G1 Q := by
    intro G1 i1 x m s u1 u2 u3 u4 u5
    obtain ⟨v1, v2, v3, v4⟩ := u4
    unfold PX9_worded_196 PX9_worded_217 PX9_worded_218
    exact fun _ => ⟨fun _ => mNeed m (by decide) (fun x1 x2 x3 m2 => hQ (14 + i) _ (MS_end m2 (s.trans x1) (by omega) (by omega) (by omega) ⟨⟨rfl, by omega, by rw [uG_c (by omega)]; exact v1, by rw [uG_c (by omega)]; exact v2, by rw [uG_c (by omega)]; exact v3⟩, u5 _ (fun k j v w => uG_c (by omega))⟩ (by rw [uG_c (by omega)]; exact v4))) (fun n x1 x2 => bad _ (BAD_fl m x1 (s.trans x2))), fun z => absurd m.1.2.2.1 z⟩
  have e187 : ∀ G1 x, MS G G1 tk cd c i (i + 1) x (d + 1) → r0 = pb (eE x) (pneed tk 159) → a < x → (G1 (14 + i) 1 = a ∧ G1 (14 + i) 4 = -1 ∧ G1 (14 + i) 11 = -1 ∧ G1 (14 + i) 8 = -1) → (∀ G' i1, (∀ j, j ≠ 5 → G' (14 + i) j = G1 (14 + i) j) → T (i + 1) i1 (G' (14 + i) 5) x G' → cWord tk cd T S B eE sS bB i i1 (14 + i) a G') → PX9_worded_187 R (tk a) (d + 1) (14 + i) G1 Q := by
    intro G1 x m s u1 u2 u3
    unfold PX9_worded_187
    refine hE G1 (i + 1) x _ m.1 (fun v G2 h => ?_)
    by_cases e0 : (eE x).1 = 0
    · rw [pb_0 e0] at s
      obtain ⟨i1, m1, t1, n8, y1, y2, y3, y4, kp⟩ := MS_E m (by omega) h e0
      obtain ⟨kv, ev, kv1, kv2⟩ := hI _ _ _ _ _ t1
      refine ⟨nO, Or.inr (nd_of (i := i1) (by omega) (by omega)), fun G3 e3 => ?_⟩
      have o3 : ∀ j, j ≠ 5 → G3 (14 + i) j = G1 (14 + i) j := fun j y => by rw [e3, uG_j y, kp _ _ (by omega) (by omega)]
      refine e196 G3 i1 (eE x).2 (by rw [e3]; exact MS_st m1 p8 (by omega)) s (by omega) (by omega) (by omega) (by rw [o3 1 (by decide), o3 4 (by decide), o3 11 (by decide), o3 8 (by decide)]; exact u2) (fun G' hg => u3 G' i1 (fun j y => by rw [hg _ _ (by omega) (by omega)]; exact o3 j y) ?_)
      rw [hg _ _ (by omega) (by omega), show G3 (14 + i) 5 = v by rw [e3, uG_at]]
      exact hF _ _ _ _ _ _ t1 (fun k j g1 g2 _ => by rw [hg k j (by omega) (by omega), e3, uG_c (by omega)])
    · obtain ⟨ev, b⟩ := MS_B m h e0 (s.trans (pb_n e0))
      exact ⟨nO, Or.inl ev, fun G3 e3 => b196 _ _ (by rw [e3]; exact BAD_st b (by omega))⟩
  unfold PX9_worded PX9_worded_0
  rw [p2]
  refine fun _ => sX9_node p7 p8 (by omega) (fun G2 hN => ?_)
  have ms := MS_nd hp' hd hN
  obtain ⟨g14, g0, g1, g2, g3, g4, g5, g6, g7, g8, g9, g10, g11, gf⟩ := hN
  refine mTake ms (by omega) (fun x1 x2 m1 => ?_) (fun x1 => bad _ (BAD_fl ms (by decide) (by rw [← hr0, x1]; exact pb_n three_ne)))
  have s0 : r0 = pworded tk eE sS bB (tk a) (a + 1) := hr0.symm.trans (pb_e x1)
  have nc : nC (uG G2 7 8 (a + 1)) (14 + i) a := by
    unfold nC
    rw [uG_c (by omega), uG_c (by omega), uG_c (by omega), uG_c (by omega), uG_c (by omega), uG_c (by omega), uG_c (by omega)]
    exact ⟨g1, g4, g5, g6, g7, g8, g11⟩
  have k0 : uG G2 7 8 (a + 1) (14 + i) 0 = 37 := by rw [uG_c (by omega)]; exact g0
  generalize uG G2 7 8 (a + 1) = G3 at *
  obtain ⟨n1, n4, n5, n6, n7, n8, n11⟩ := nc
  -- RETURN, THROW, OUT
  have other : ∀ G4 s1, (∀ j, j ≠ 0 → G4 (14 + i) j = G3 (14 + i) j) → G4 (14 + i) 0 = s1 → (tk a = 31 → s1 = 34) → (tk a = 32 → s1 = 35) → (tk a = 35 → s1 = 37) → (tk a = 31 ∨ tk a = 32 ∨ tk a = 35) → MS G G4 tk cd c i (i + 1) (a + 1) (d + 1) → PX9_worded_171 R (tk a) (d + 1) (14 + i) G4 Q := by
    intro G4 s1 o4 c4 z1 z2 z3 zz m4
    have cells : G4 (14 + i) 1 = a ∧ G4 (14 + i) 4 = -1 ∧ G4 (14 + i) 11 = -1 ∧ G4 (14 + i) 8 = -1 := by rw [o4 1 (by decide), o4 4 (by decide), o4 11 (by decide), o4 8 (by decide)]; exact ⟨n1, n4, n11, n8⟩
    have full : ¬ (tk a = 31 ∧ tk (a + 1) = 159) → PX9_worded_187 R (tk a) (d + 1) (14 + i) G4 Q := fun z => by
      have s1' : r0 = pb (eE (a + 1)) (pneed tk 159) := by rw [s0]; unfold pworded; rw [if_neg (by omega), if_neg (by omega), if_neg (by omega), if_neg z]
      refine e187 G4 (a + 1) m4 s1' (by omega) cells (fun G' i1 o t => ?_)
      have c0 : G' (14 + i) 0 = s1 := by rw [o 0 (by decide)]; exact c4
      exact ⟨fun y => by omega, fun y => by omega, fun y => by omega, fun y => by omega, fun y => ⟨c0.trans (z1 y), fun q => absurd ⟨y, q⟩ z, fun _ => t⟩, fun y => ⟨c0.trans (z2 y), t⟩, fun y => ⟨c0.trans (z3 y), t⟩⟩
    unfold PX9_worded_171
    refine ⟨fun y => mNow m4 (fun _ => ⟨fun q => ?_, fun q => full (fun r => q r.2)⟩), fun y => full (fun r => y r.1)⟩
    have s1' : r0 = pneed tk 159 (a + 1) := by rw [s0]; unfold pworded pneed; rw [if_neg (by omega), if_neg (by omega), if_neg (by omega), if_pos ⟨y, q⟩, if_pos q]
    refine e196 G4 (i + 1) (a + 1) m4 s1' (by omega) (by omega) (by omega) cells (fun G' hg => ?_)
    have c0 : G' (14 + i) 0 = s1 := by rw [hg _ _ (by omega) (by omega)]; exact c4
    have c5 : G' (14 + i) 5 = -1 := by rw [hg _ _ (by omega) (by omega), o4 5 (by decide)]; exact n5
    exact ⟨fun y => by omega, fun y => by omega, fun y => by omega, fun y => by omega, fun y => ⟨c0.trans (z1 y), fun _ => c5, fun r => absurd q r⟩, fun y => by omega, fun y => by omega⟩
  refine ⟨fun z => ?_, fun z1 => ⟨fun z => ?_, fun z2 => ⟨fun z => ?_, fun z3 => ⟨fun z => ?_, fun z4 => ?_⟩⟩⟩⟩
  · unfold PX9_worded_32
    exact hT G G3 i a _ m1 p8 p4 (Or.inl z) ⟨n1, n4, n5, n6, n7, n8, n11⟩ (fun v G' h => hQ v G' (by rw [s0]; exact h))
  · unfold PX9_worded_32
    exact hT G G3 i a _ m1 p8 p4 (Or.inr z) ⟨n1, n4, n5, n6, n7, n8, n11⟩ (fun v G' h => hQ v G' (by rw [s0]; exact h))
  · exact hY G G3 i a _ m1 p8 p4 z ⟨n1, n4, n5, n6, n7, n8, n11⟩ (fun v G' h => hQ v G' (by rw [s0]; exact h))
  · refine ⟨nO, fun G17 e17 => ?_⟩
    have m17 : MS G G17 tk cd c i (i + 1) (a + 1) (d + 1) := by rw [e17]; exact MS_st m1 p8 (by omega)
    have s1 : r0 = pb (ptype tk (a + 1)) fun b => pb (pneed tk 3 b) fun c => pb (pneed tk 161 c) fun d => pb (eE d) (pneed tk 159) := by rw [s0]; unfold pworded; rw [if_neg (by omega), if_neg (by omega), if_pos z]
    have a17 : G17 7 8 = a + 1 := m17.1.2.1
    have b17 : a + 1 ≤ 700 := m17.1.2.2.2.2.1
    have w114 : (tk (a + 1) = 26 ∨ tk (a + 1) = 2) → PX9_worded_114 R (tk a) (d + 1) (14 + i) (14 + i) (cType tk cd (a + 1)) G17 Q := fun hz => by
      have s2 : ptype tk (a + 1) = ptake (a + 1) := by unfold ptype; rw [if_pos hz]
      rw [s2] at s1
      unfold PX9_worded_114 PX9_worded_142
      refine ⟨nO, fun G47 e47 => ?_⟩
      have m47 : MS G G47 tk cd c i (i + 1) (a + 1) (d + 1) := by rw [e47]; exact MS_st m17 p8 (by omega)
      refine mTake m47 (by omega) (fun x1 x2 m48 => ?_) (fun x1 => bad _ (BAD_fl m47 (by decide) (by rw [s1, x1]; exact pb_n three_ne)))
      rw [pb_e x1] at s1
      refine mNeed m48 (by decide) (fun y1 y2 y3 m49 => ?_) (fun n y1 y2 => bad _ (BAD_fl m48 y1 (by rw [s1, y2]; exact pb_n y1)))
      rw [pb_e y1] at s1
      refine mNeed m49 (by decide) (fun y4 y5 y6 m50 => ?_) (fun n y4 y5 => bad _ (BAD_fl m49 y4 (by rw [s1, y5]; exact pb_n y4)))
      rw [pb_e y4] at s1
      unfold PX9_worded_144 PX9_worded_171
      refine ⟨fun q => by omega, fun _ => ⟨fun q => by omega, fun _ => ⟨fun q => by omega, fun _ => ?_⟩⟩⟩
      have o : ∀ j, j ≠ 0 → j ≠ 9 → uG (uG (uG G47 7 8 (a + 1 + 1)) 7 8 (a + 1 + 1 + 1)) 7 8 (a + 1 + 1 + 1 + 1) (14 + i) j = G3 (14 + i) j := fun j q1 q2 => by rw [uG_c (by omega), uG_c (by omega), uG_c (by omega), e47, uG_j q2, e17, uG_j q1]
      refine e187 _ _ m50 s1 (by omega) (by rw [o 1 (by decide) (by decide), o 4 (by decide) (by decide), o 11 (by decide) (by decide), o 8 (by decide) (by decide)]; exact ⟨n1, n4, n11, n8⟩) (fun G' i1 oo t => ?_)
      have c0 : G' (14 + i) 0 = 31 := by rw [oo 0 (by decide), uG_c (by omega), uG_c (by omega), uG_c (by omega), e47, uG_j (by decide), e17, uG_at]
      have c9 : G' (14 + i) 9 = cType tk cd (a + 1) := by rw [oo 9 (by decide), uG_c (by omega), uG_c (by omega), uG_c (by omega), e47, uG_at]
      exact ⟨fun y => by omega, fun y => by omega, fun y => by omega, fun y => ⟨c0, c9, by rw [show a + 4 = a + 1 + 1 + 1 + 1 by omega]; exact t⟩, fun y => by omega, fun y => by omega, fun y => by omega⟩
    have w89 : (tk (a + 1) = 26 ∨ tk (a + 1) = 2) → PX9_worded_89 R (tk a) (d + 1) (14 + i) G17 Q := fun hz => by
      have w := w114 hz
      unfold PX9_worded_89
      refine mNow m17 (fun _ => ⟨fun q => ?_, fun q => ?_⟩)
      · unfold cType at w
        rwa [if_pos q] at w
      · rw [a17]
        refine fun _ => ⟨by omega, by omega, fun _ => ?_⟩
        unfold cType at w
        rw [if_neg q] at w
        rwa [show G17 12 (a + 1) = cd (a + 1) from m17.1.2.2.2.2.2.2.2.2.2.2.2 _ (by omega) (by omega)]
    refine mNow m17 (fun _ => ⟨fun q => w89 (Or.inl q), fun q => mNow m17 (fun _ => ⟨fun q2 => w89 (Or.inr q2), fun q2 => ?_⟩)⟩)
    refine sX9_miss m17.1.1 a17 m17.1.2.2.1 (by omega) (by omega) (fun _ => bad _ (BAD_fl m17 (pmiss_ne (tk := tk) (a + 1)) ?_))
    have s2 : ptype tk (a + 1) = pmiss tk (a + 1) := by unfold ptype; rw [if_neg (by omega)]
    rw [s1, s2, pb_n (pmiss_ne (a + 1))]
    rfl
  · unfold PX9_worded_144
    refine ⟨fun y => ⟨nO, fun G42 e42 => other G42 34 (fun j q => by rw [e42, uG_j q]) (by rw [e42, uG_at]) (fun _ => rfl) (fun q => by omega) (fun q => by omega) (by omega) (by rw [e42]; exact MS_st m1 p8 (by omega))⟩, fun y => ⟨fun y2 => ⟨nO, fun G45 e45 => other G45 35 (fun j q => by rw [e45, uG_j q]) (by rw [e45, uG_at]) (fun q => by omega) (fun _ => rfl) (fun q => by omega) (by omega) (by rw [e45]; exact MS_st m1 p8 (by omega))⟩, fun y2 => other G3 37 (fun j q => rfl) k0 (fun q => by omega) (fun q => by omega) (fun _ => rfl) (by omega) m1⟩⟩
end CQ8

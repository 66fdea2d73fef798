section RP7
variable {B G G' : gS} {s N d i i' a : Int} {tk cd : Int → Int} {q r : RR} {R : JT} {T C : TT} {eE cU : Int → RR}
theorem RM_dep {d' : Int} (h : RM B s N d G q i) : RM B s N d' (uG G 16081 89 d') q i := by
  obtain ⟨⟨t0, t1⟩, h1, h2, h3, h4, h5, h6, h7, h8⟩ := h
  refine ⟨⟨by rw [uG_j (by omega)]; exact t0, fun a x y => ?_⟩, h1, h2, by rw [uG_j (by omega)]; exact h3, by rw [uG_j (by omega)]; exact h4, fun z => by rw [uG_j (by omega), uG_j (by omega)]; exact h5 z, fun z => by rw [uG_j (by omega), uG_j (by omega), uG_j (by omega)]; exact h6 z, by rw [uG_c (by omega)]; exact h7, uG_at _ _ _ _⟩
  rw [uG_c (by omega), uG_c (by omega), uG_c (by omega), uG_c (by omega)]
  exact t1 a x y
def SRc (R : JT) (B : gS) (s N d : Int) (tk : Int → Int) (C : TT) (cU : Int → RR) : Prop := (d = 12 ∧ ∀ b, cU b = pdeep tk b) ∨ (d < 12 ∧ SRe R B s N (d + 1) 7 C cU ∧ ∀ b, bE tk b = false → cU b = pmiss tk b)
theorem pround_le (h : ∀ b, b ≤ (eE b).2) (hc : ∀ b, b ≤ (cU b).2) : ∀ b, b ≤ (pround tk eE cU b).2 := fun b => by
  unfold pround
  split
  · exact Int.le_trans (ptake_le).1 (pb_le2 (fun c => Int.le_trans (ptake_le).1 (pb_le2 hc)))
  · exact Int.le_trans (h b) (pb_le2 (pneed_l _))
theorem rBrk_ok {Q : Int → gS → Prop} (hK : TKp B s N tk cd) (hE : SRe R B s N d 1 T eE) (hI : RTI s T) (hT : RTF s T) (hC : SRc R B s N d tk C cU) (hIC : RTI s C) (hTC : RTF s C) (hcl : ∀ b, b ≤ (cU b).2) (h7 : tk 700 = 2 → eE 700 = (3, 700)) (hd : 0 ≤ d ∧ d ≤ 12) (h : RM B s N d G (0, a) i) (h0 : 0 ≤ i) (hi : i ≤ a + 2) (h2 : tk a = 140) (hQ : ∀ v G' i', RM B s N d G' (pb (ptake a) (pround tk eE cU)) i' → RFc s G G' (0, a) (pb (ptake a) (pround tk eE cU)) i i' (rFront B s tk T C eE i i' v a G' ∧ G' 16154 v = -2) → Q v G') : PX13_inBrackets R (B 16091 (s * 702 + a)) G Q := by
  have hs0 := hK.1
  have hs1 := hK.2.1
  have hN := hK.2.2.2.2.1
  have ha0 : 0 ≤ a := h.2.1
  have haN : a < N := h.2.2.1
  have hp : G 16081 22 = a := RM_p h rfl
  have tl := ptake_le (a := a)
  have k6 := hK.2.2.2.2.2.2.1
  have k7 := hK.2.2.2.2.2.2.2
  have aN : a + 2 ≤ 700 → a + 1 < N := fun y => by
    by_cases e : a + 1 < N
    · exact e
    · rw [show N - 1 = a by omega] at k7; omega
  have n140 : pneed tk 140 a = ptake a := if_pos h2
  -- no CAST
  have paren : (¬ (tk (a + 1) = 2 ∧ tk (a + 2) = 141) ∨ 700 < a + 2) → PX13_inBrackets_70 R (B 16091 (s * 702 + a)) 0 G Q := fun hc => by
    have sp : pb (ptake a) (pround tk eE cU) = pb (pb (ptake a) eE) (pneed tk 141) := by
      rw [pb_pb]
      by_cases e : (ptake a).1 = 0
      · have e1 := tl.2.2 e
        rw [pb_0 e, pb_0 e, e1]
        unfold pround
        rw [show a + 1 + 1 = a + 2 by omega]
        by_cases z : tk (a + 1) = 2 ∧ tk (a + 2) = 141
        · have e7 : a + 1 = 700 := by
            have : a < 700 := by
              by_cases y : a < 700
              · exact y
              · unfold ptake at e; rw [if_pos (by omega)] at e; exact absurd e (by show (3 : Int) ≠ 0; decide)
            omega
          rw [if_pos z, e7]
          have t7 : ptake 700 = (3, 700) := if_pos (by omega)
          rw [t7, h7 (by rw [← e7]; exact z.1)]; rfl
        · rw [if_neg z]
      · rw [pb_n e, pb_n e]
    rw [sp] at hQ
    unfold PX13_inBrackets_70
    refine rWantSign (k := 140) hK h (Or.inl ⟨by unfold sg; omega, rfl⟩) (fun G1 hR1 f1 => ⟨fun _ => ?_, fun y => absurd rfl y⟩)
    change RM B s N d G1 (pneed tk 140 a) i at hR1
    rw [n140] at hR1
    refine rNode hK hR1 h0 (by omega) (fun G2 n2 hR2 f2 => fun _ => hE G2 _ (i + 1) _ hR2 (by omega) (fun e => by have := tl.2.2 e; omega) (fun v G3 i3 hR3 hC3 => fun _ => ⟨by omega, by omega, fun G4 e4 => ?_⟩))
    obtain ⟨m0, m1, m2, m3, m4, m5, m6, m7, m8, m9, m10, m11, m12, m13⟩ := n2
    obtain ⟨c1, c2, c3, c4, c5, c6⟩ := hC3
    have hR4 : RM B s N d G4 (pb (ptake a) eE) i3 := by rw [e4]; exact RM_put hR3 (by omega)
    refine rWantSign (k := 141) hK hR4 (Or.inl ⟨by unfold sg; omega, rfl⟩) (fun G5 hR5 f5 => hQ _ G5 i3 hR5 ?_)
    have l5 : (pb (ptake a) eE).2 ≤ (pb (pb (ptake a) eE) (pneed tk 141)).2 := pb_le2 (pneed_l _)
    have w5 : ∀ c j, 16144 ≤ c → c ≤ 16162 → s * 1700 ≤ j → j < s * 1700 + i3 → G5 c j = G4 c j := fun c j y1 y2 y3 y4 => f5 c j (by unfold XR; omega)
    refine ⟨by omega, FR_tr f1 (FR_tr f2 (FR_tr (FR_XR (by omega) c2) (FR_tr (by rw [e4]; exact FR_up FR_id (by unfold XR; omega)) (FR_XR (by omega) f5)))), fun y => absurd rfl y, by show a ≤ _; omega, ?_, fun e => ?_⟩
    · show i3 ≤ i + ((pb (pb (ptake a) eE) (pneed tk 141)).2 - a) + 1
      by_cases y : (ptake a).1 = 0
      · have := tl.2.2 y
        omega
      · have := c3 y
        omega
    · obtain ⟨e1, e2⟩ := pb_z e
      obtain ⟨u1, u2, u3, u4⟩ := c6 e1
      have e3 := tl.2.2 (pb_z e1).1
      have e5 := ((pneed_le).2.2 e2).1
      have e6 : (pb (pb (ptake a) eE) (pneed tk 141)).2 = (pb (ptake a) eE).2 + 1 := by rw [pb_0 e1, e5]
      rw [e3] at u1 u2 u3
      have hc' : ¬ (tk (a + 1) = 2 ∧ tk (a + 2) = 141) := by
        rcases hc with hc | hc
        · exact hc
        · intro z
          have e8 : a + 1 = 700 := by have := hR1.2.2.1; omega
          have e9 := (pb_z e1).2
          rw [e3, e8, h7 (by rw [← e8]; exact z.1)] at e9
          exact absurd e9 (by show (3 : Int) ≠ 0; decide)
      have v3 : ∀ c, 16144 ≤ c → G3 c (s * 1700 + i) = G2 c (s * 1700 + i) := fun c x => XR_n c2 (by omega) x
      have v5 : ∀ c, 16144 ≤ c → c ≤ 16162 → c ≠ 16151 → G5 c (s * 1700 + i) = G2 c (s * 1700 + i) := fun c x y z => by rw [w5 _ _ x y (by omega) (by omega), e4, uG_c z, v3 c x]
      have v51 : G5 16151 (s * 1700 + i) = v := by rw [w5 _ _ (by omega) (by omega) (by omega) (by omega), e4, uG_at]
      refine ⟨by show i3 ≤ i + (_ - a); omega, by show a < _; omega, ⟨rfl, by omega, by rw [v5 _ (by omega) (by omega) (by omega)]; exact m2, fun z => by omega, fun z => by omega, fun z => by omega, fun z => by omega, fun z => by omega, fun z => by omega, fun z => by omega, fun _ => ⟨fun z => absurd z hc', fun _ => ⟨by rw [v5 _ (by omega) (by omega) (by omega)]; exact m1, ?_⟩⟩⟩, by rw [v5 _ (by omega) (by omega) (by omega)]; exact m11⟩
      rw [v51]
      exact hT _ _ _ _ _ _ u3 (fun c j y1 y2 y3 y4 _ => by rw [w5 c j y1 (by omega) (by omega) (by omega), e4, uG_ne (by omega)])
  have cast : tk (a + 1) = 2 → tk (a + 2) = 141 → a + 2 ≤ 700 → a + 2 < N → PX13_inBrackets_70 R (B 16091 (s * 702 + a)) 1 G Q := fun z1 z2 z3 z4 => by
    have t0 : ptake a = (0, a + 1) := if_neg (by omega)
    have t1 : ptake (a + 1) = (0, a + 2) := by
      unfold ptake
      rw [if_neg (by omega), show a + 1 + 1 = a + 2 by omega]
    have sp : pb (ptake a) (pround tk eE cU) = pb (ptake (a + 2)) cU := by
      rw [pb_e t0]
      unfold pround
      rw [if_pos ⟨z1, by rw [show a + 1 + 1 = a + 2 by omega]; exact z2⟩, pb_e t1]
    rw [sp] at hQ
    have tl2 := ptake_le (a := a + 2)
    unfold PX13_inBrackets_70
    refine rWantSign (k := 140) hK h (Or.inl ⟨by unfold sg; omega, rfl⟩) (fun G1 hR1 f1 => ⟨fun y => absurd y (by decide), fun _ => ?_⟩)
    change RM B s N d G1 (pneed tk 140 a) i at hR1
    rw [n140, t0] at hR1
    refine rNode hK hR1 h0 (by omega) (fun G2 n2 hR2 f2 => fun _ => ?_)
    obtain ⟨m0, m1, m2, m3, m4, m5, m6, m7, m8, m9, m10, m11, m12, m13⟩ := n2
    rw [RM_pp hR2]
    refine fun _ => rName hK hR2.1 (by show 0 ≤ a + 1; omega) (by show a + 1 < N; omega) (fun _ => ⟨by omega, by omega, fun G3 e3 => ?_⟩)
    have hR3 : RM B s N d G3 (0, a + 1) (i + 1) := by rw [e3]; exact RM_put hR2 (by omega)
    rw [RM_pp hR3]
    refine fun _ => rPlace hK hR3.1 (by show 0 ≤ a + 1; omega) (by show a + 1 < N; omega) (fun _ => ⟨by omega, by omega, fun G4 e4 => ?_⟩)
    have hR4 : RM B s N d G4 (0, a + 1) (i + 1) := by rw [e4]; exact RM_put hR3 (by omega)
    refine rStep hK hR4 (fun _ => by show tk (a + 1) ≠ 0 ∧ tk (a + 1) ≠ 1; omega) (fun G5 hR5 f5 => ?_)
    change RM B s N d G5 (ptake (a + 1)) (i + 1) at hR5
    rw [t1] at hR5
    refine rStep hK hR5 (fun _ => by show tk (a + 2) ≠ 0 ∧ tk (a + 2) ≠ 1; omega) (fun G6 hR6 f6 => ?_)
    change RM B s N d G6 (ptake (a + 2)) (i + 1) at hR6
    have fG6 : FR (XR s (i + 1)) G4 G6 := FR_tr f5 f6
    have f06 : FR (XR s i) G G6 := by
      refine FR_tr f1 (FR_tr f2 (FR_tr ?_ (FR_XR (by omega) fG6)))
      rw [e4, e3]; exact FR_up (FR_up FR_id (by unfold XR; omega)) (by unfold XR; omega)
    have v6 : ∀ c, 16144 ≤ c → c ≠ 16149 → c ≠ 16147 → G6 c (s * 1700 + i) = G2 c (s * 1700 + i) := fun c x y z => by rw [XR_n fG6 (by omega) x, e4, uG_c z, e3, uG_c y]
    have v49 : G6 16149 (s * 1700 + i) = nmR B s (a + 1) := by rw [XR_n fG6 (by omega) (by omega), e4, uG_c (by omega), e3, uG_at]; rfl
    have v47 : G6 16147 (s * 1700 + i) = plR B s (a + 1) := by rw [XR_n fG6 (by omega) (by omega), e4, uG_at]; rfl
    -- the end: what was read is put to the node
    have fin : ∀ G7 i7 v, RM B s N (d + 1) G7 (pb (ptake (a + 2)) cU) i7 → i + 1 ≤ i7 → FR (XR s (i + 1)) G6 G7 → i7 ≤ i + ((pb (ptake (a + 2)) cU).2 - a) + 1 → ((pb (ptake (a + 2)) cU).1 = 0 → i7 ≤ i + ((pb (ptake (a + 2)) cU).2 - a) ∧ a < (pb (ptake (a + 2)) cU).2 ∧ C (i + 1) i7 v (a + 3) G7) → PX13_inBrackets_206 R (B 16091 (s * 702 + a)) 1 (s * 1700 + i) 16151 (s * 1700 + i) v G7 Q := fun G7 i7 v x1 x2 x3 x4 x5 => by
      unfold PX13_inBrackets_206
      refine ⟨30600, aC16151, by omega, by omega, fun G8 e8 => ?_⟩
      have hR8 : RM B s N (d + 1) G8 (pb (ptake (a + 2)) cU) i7 := by rw [e8]; exact RM_put x1 (by omega)
      rw [hR8.2.2.2.2.2.2.2.2]
      refine fun _ => ⟨by unfold inI; omega, fun G9 e9 => ?_⟩
      rw [show d + 1 - 1 = d by omega] at e9
      have hR9 : RM B s N d G9 (pb (ptake (a + 2)) cU) i7 := by rw [e9]; exact RM_dep hR8
      have w9 : ∀ c j, 16144 ≤ c → ¬ (c = 16151 ∧ j = s * 1700 + i) → G9 c j = G7 c j := fun c j y1 y2 => by rw [e9, uG_c (by omega), e8, uG_ne (by omega)]
      have v9 : ∀ c, 16144 ≤ c → c ≠ 16151 → G9 c (s * 1700 + i) = G6 c (s * 1700 + i) := fun c y1 y2 => by rw [w9 c _ y1 (by omega), XR_n x3 (by omega) y1]
      have ll : a ≤ (pb (ptake (a + 2)) cU).2 := by
        have := pb_le2 (q := ptake (a + 2)) hcl
        omega
      refine hQ _ G9 i7 hR9 ⟨by omega, ?_, fun y => absurd rfl y, ll, x4, fun e => ?_⟩
      · refine FR_tr f06 (FR_tr (FR_XR (by omega) x3) ?_)
        rw [e9, e8]; exact FR_up (FR_up FR_id (by unfold XR; omega)) (by unfold XR; omega)
      · obtain ⟨u1, u2, u3⟩ := x5 e
        refine ⟨u1, u2, ⟨rfl, by omega, by rw [v9 _ (by omega) (by omega), v6 _ (by omega) (by omega) (by omega)]; exact m2, fun z => by omega, fun z => by omega, fun z => by omega, fun z => by omega, fun z => by omega, fun z => by omega, fun z => by omega, fun _ => ⟨fun _ => ⟨by rw [v9 _ (by omega) (by omega), v6 _ (by omega) (by omega) (by omega)]; exact m1, by rw [v9 _ (by omega) (by omega)]; exact v49, by rw [v9 _ (by omega) (by omega)]; exact v47, ?_⟩, fun z => absurd ⟨z1, z2⟩ z⟩⟩, by rw [v9 _ (by omega) (by omega), v6 _ (by omega) (by omega) (by omega)]; exact m11⟩
        rw [show G9 16151 (s * 1700 + i) = v by rw [e9, uG_c (by omega), e8, uG_at]]
        exact hTC _ _ _ _ _ _ u3 (fun c j y1 y2 y3 y4 _ => w9 c j y1 (by omega))
    have low : ∀ G7 q7, RM B s N d G7 q7 (i + 1) → FR (XR s (i + 1)) G6 G7 → q7 = pb (ptake (a + 2)) cU → q7.1 ≠ 0 → a + 2 ≤ q7.2 → PX13_inBrackets_175 R (B 16091 (s * 702 + a)) 1 (s * 1700 + i) G7 Q := fun G7 q7 x1 x2 x3 x4 x5 => by
      unfold PX13_inBrackets_175
      rw [x1.2.2.2.2.2.2.2.2]
      refine fun _ => ⟨by unfold inI; omega, fun G8 e8 => ?_⟩
      have hR8 : RM B s N (d + 1) G8 q7 (i + 1) := by rw [e8]; exact RM_dep x1
      refine fun _ => ⟨fun y => absurd ((RM_fl hR8).mp y) x4, fun _ => fin G8 (i + 1) (-2) (by rw [← x3]; exact hR8) (by omega) (FR_tr x2 (by rw [e8]; exact FR_up FR_id (by unfold XR; omega))) (by rw [← x3]; omega) (fun e => absurd (by rw [x3]; exact e) x4)⟩
    have go : ∀ G7, RM B s N d G7 (ptake (a + 2)) (i + 1) → FR (XR s (i + 1)) G6 G7 → (ptake (a + 2)).1 = 0 → bE tk (a + 3) = true → PX13_inBrackets_146 R (B 16091 (s * 702 + a)) 1 (s * 1700 + i) G7 Q := fun G7 x1 x2 x3 x4 => by
      have e3' := tl2.2.2 x3
      unfold PX13_inBrackets_146
      refine fun _ => ⟨fun _ => ?_, fun y => absurd ((RM_fl x1).mpr x3) y⟩
      rw [x1.2.2.2.2.2.2.2.2]
      refine fun _ => ⟨fun y => ?_, fun y => ?_⟩
      · rw [RM_pp x1]
        refine fun _ => rPlace hK x1.1 (by omega) (by have := x1.2.2.1; omega) (fun _ => ?_)
        rcases hC with ⟨_, hpd⟩ | ⟨hlt, _⟩
        · obtain ⟨r1, r2⟩ := RM_flt (m := 3) (RM_eq x1 x3 rfl) (by decide)
          refine rFault ((RM_fl x1).mpr x3) (low _ _ r1 (FR_tr x2 r2) ?_ (by show (3 : Int) ≠ 0; decide) (by show a + 2 ≤ (ptake (a + 2)).2; omega))
          rw [pb_0 x3, hpd, e3']
          unfold pdeep
          rw [show a + 2 + 1 = a + 3 by omega, if_pos x4]
        · omega
      · rcases hC with ⟨hd12, _⟩ | ⟨hlt, hU, _⟩
        · exact absurd hd12 y
        · unfold PX13_inBrackets_175
          rw [x1.2.2.2.2.2.2.2.2]
          refine fun _ => ⟨by unfold inI; omega, fun G8 e8 => ?_⟩
          have hR8 : RM B s N (d + 1) G8 (ptake (a + 2)) (i + 1) := by rw [e8]; exact RM_dep x1
          refine fun _ => ⟨fun _ => hU G8 _ (i + 1) _ hR8 (by omega) (fun _ => by omega) (fun v G9 i9 hR9 hC9 => fun _ => ?_), fun u => absurd ((RM_fl hR8).mpr x3) u⟩
          obtain ⟨c1, c2, c3, c4, c5, c6⟩ := hC9
          refine fin G9 i9 v hR9 c1 (FR_tr x2 (FR_tr (by rw [e8]; exact FR_up FR_id (by unfold XR; omega)) c2)) (by omega) (fun e => ?_)
          obtain ⟨u1, u2, u3, u4⟩ := c6 e
          rw [e3', show a + 2 + 1 = a + 3 by omega] at u3
          exact ⟨by omega, by omega, u3⟩
    refine fun _ => ⟨fun y => ?_, fun y => ?_⟩
    · have x3 := (RM_fl hR6).mp y
      have e3' := tl2.2.2 x3
      refine rBE hK hR6 x3 (fun z => fun _ => ⟨fun u => absurd u (by decide), fun _ => go G6 hR6 FR_id x3 (by rw [e3', show a + 2 + 1 = a + 3 by omega] at z; exact z)⟩) (fun z => fun _ => ⟨fun _ => rWrong hK hR6 (fun G7 hR7 f7 => ?_), fun u => absurd rfl u⟩)
      refine low G7 _ hR7 (FR_XR (by omega) f7) ?_ ?_ ?_
      · rw [pb_0 x3, pb_0 x3]
        rcases hC with ⟨_, hpd⟩ | ⟨_, _, hm⟩
        · rw [hpd]; unfold pdeep; rw [z]; rfl
        · rw [hm _ z]
      · rw [pb_0 x3]; exact pmiss_ne _
      · rw [pb_0 x3]; show a + 2 ≤ (ptake (a + 2)).2; omega
    · have x3 : (ptake (a + 2)).1 ≠ 0 := fun e => y ((RM_fl hR6).mpr e)
      unfold PX13_inBrackets_146
      exact fun _ => ⟨fun u => absurd u y, fun _ => low G6 _ hR6 FR_id (by rw [pb_n x3]) x3 (by omega)⟩
  unfold PX13_inBrackets PX13_inBrackets_0
  rw [hp]
  unfold PX13_inBrackets_69
  refine fun _ => ⟨by unfold inI; omega, fun y => paren (Or.inr y), fun y => fun _ => ⟨by unfold inI; omega, ?_⟩⟩
  have a1 := aN (by omega)
  have ta := TR_k (hK.2.2.2.2.2.1 (a + 1) (by omega) a1)
  refine rKind hK h.1 (by omega) a1 (fun _ => fun _ => ⟨fun z => ?_, fun z => paren (Or.inl (fun u => z (ta.2.2.1.mpr u.1)))⟩)
  have z1 := ta.2.2.1.mp z
  have a2 : a + 2 < N := by
    by_cases e : a + 2 < N
    · exact e
    · rw [show N - 1 = a + 1 by omega] at k7; omega
  have tb := TR_k (hK.2.2.2.2.2.1 (a + 2) (by omega) a2)
  rw [hp]
  refine fun _ => ⟨by unfold inI; omega, rKind hK h.1 (by omega) a2 (fun _ => fun _ => ⟨fun y5 => ?_, fun y5 => paren (Or.inl (fun u => y5 ((tb.2.2.2.2.2.2.1 41 (by unfold sg; omega)).mpr u.2).1))⟩)⟩
  rw [h.1.1, hp, show s * 702 + a + 2 = s * 702 + (a + 2) by omega, (h.1.2 (a + 2) (by omega) a2).2.2.2]
  exact fun _ _ => ⟨by omega, by omega, fun _ => ⟨fun u => cast z1 ((tb.2.2.2.2.2.2.1 41 (by unfold sg; omega)).mp ⟨y5, u⟩) (by omega) a2, fun u => paren (Or.inl (fun w => u ((tb.2.2.2.2.2.2.1 41 (by unfold sg; omega)).mpr w.2).2))⟩⟩
end RP7

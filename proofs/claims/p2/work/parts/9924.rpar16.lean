section RP16
variable {B G G' : gS} {s N d i i' a : Int} {tk cd : Int → Int} {q r : RR} {R : JT} {T S Bk : TT} {eE sS bB : Int → RR}
theorem bS_t (a : Int) : bS tk a = true ↔ (bE tk a = true ∨ tk a = 223 ∨ tk a = 27 ∨ tk a = 28 ∨ tk a = 30 ∨ tk a = 31 ∨ tk a = 32 ∨ tk a = 33 ∨ tk a = 35) := by
  unfold bS
  simp
theorem rBegS {Q : Int → gS → Prop} (hK : TKp B s N tk cd) (h : RM B s N d G q i) (e : q.1 = 0) (h1 : bS tk q.2 = true → Q 1 G) (h0 : bS tk q.2 = false → Q 0 G) : PX13_beginsS G Q := by
  have bt := bS_t (tk := tk) q.2
  have y1 : bS tk q.2 = true → PX13_beginsS_86 G Q := fun z => by
    unfold PX13_beginsS_86 PX13_beginsS_91
    exact ⟨by omega, h1 z⟩
  have o1 : ¬ ((1 : Int) = 0) := by decide
  unfold PX13_beginsS PX13_beginsS_0
  refine rBE hK h e (fun z => fun _ => ⟨fun u => absurd u o1, fun _ => y1 (bt.mpr (Or.inl z))⟩) (fun zE => fun _ => ⟨fun _ => ?_, fun u => absurd rfl u⟩)
  refine rSg (k := 223) hK h e (Or.inl ⟨by unfold sg; omega, rfl⟩) (fun z => fun _ => ⟨fun u => absurd u o1, fun _ => y1 (bt.mpr (by omega))⟩) (fun z1 => fun _ => ⟨fun _ => ?_, fun u => absurd rfl u⟩)
  refine rWd hK h e wo48 (fun z => fun _ => ⟨fun u => absurd u o1, fun _ => y1 (bt.mpr (by omega))⟩) (fun z2 => fun _ => ⟨fun _ => ?_, fun u => absurd rfl u⟩)
  refine rWd hK h e wo49 (fun z => fun _ => ⟨fun u => absurd u o1, fun _ => y1 (bt.mpr (by omega))⟩) (fun z3 => fun _ => ⟨fun _ => ?_, fun u => absurd rfl u⟩)
  refine rWd hK h e wo50 (fun z => fun _ => ⟨fun u => absurd u o1, fun _ => y1 (bt.mpr (by omega))⟩) (fun z4 => fun _ => ⟨fun _ => ?_, fun u => absurd rfl u⟩)
  refine rWd hK h e wo51 (fun z => fun _ => ⟨fun u => absurd u o1, fun _ => y1 (bt.mpr (by omega))⟩) (fun z5 => fun _ => ⟨fun _ => ?_, fun u => absurd rfl u⟩)
  refine rWd hK h e wo52 (fun z => fun _ => ⟨fun u => absurd u o1, fun _ => y1 (bt.mpr (by omega))⟩) (fun z6 => fun _ => ⟨fun _ => ?_, fun u => absurd rfl u⟩)
  refine rWd hK h e wo53 (fun z => fun _ => ⟨fun u => absurd u o1, fun _ => y1 (bt.mpr (by omega))⟩) (fun z7 => fun _ => ⟨fun _ => ?_, fun u => absurd rfl u⟩)
  refine rWd hK h e wo54 (fun z => fun _ => ⟨fun u => absurd u o1, fun _ => y1 (bt.mpr (by omega))⟩) (fun z8 => fun _ => ⟨fun _ => ?_, fun u => absurd rfl u⟩)
  unfold PX13_beginsS_91
  refine ⟨by omega, h0 ?_⟩
  rw [Bool.eq_false_iff]
  intro y
  rcases bt.mp y with u | u
  · rw [zE] at u; exact absurd u (by decide)
  · omega
theorem rbonly_ok {Q : Int → gS → Prop} (hK : TKp B s N tk cd) (hS : SRs R B s N d 2 S sS) (hb1 : ∀ b, tk b = 223 → bB b = sS b) (hb0 : ∀ b, tk b ≠ 223 → bB b = pmiss tk b) (hT : ∀ lo hi n b G, tk b = 223 → S lo hi n b G → Bk lo hi n b G) (h : RM B s N d G q i) (h0 : 0 ≤ i) (hi : q.1 = 0 → i ≤ q.2 + 2) (hQ : ∀ v G' i', RM B s N d G' (pb q bB) i' → RFs s G G' q (pb q bB) i i' (Bk i i' v q.2 G' ∧ G' 16154 v = -2) → Q v G') : PX13_blockOnly R G Q := by
  have bad : ∀ G1 q1, RM B s N d G1 q1 i → FR (XR s i) G G1 → q1.1 ≠ 0 → pb q bB = q1 → q.2 ≤ q1.2 → PX13_blockOnly_20 R G1 Q := fun G1 q1 x1 x2 x3 x4 x5 => by
    unfold PX13_blockOnly_20
    refine hS G1 q1 i _ x1 h0 (fun u => absurd u x3) (fun v G2 i2 hR2 hC => fun _ => ?_)
    rw [pb_n x3] at hR2 hC
    obtain ⟨c1, c2, c3, c4, c5, c6⟩ := hC
    have := c3 x3
    exact hQ v G2 i2 (by rw [x4]; exact hR2) ⟨c1, FR_tr x2 c2, fun _ => this, by rw [x4]; exact x5, by rw [x4]; omega, fun w => absurd (by rw [← x4]; exact w) x3⟩
  unfold PX13_blockOnly PX13_blockOnly_0
  refine fun _ => ⟨fun y => ?_, fun y => ?_⟩
  · have e := (RM_fl h).mp y
    refine rSg (k := 223) hK h e (Or.inl ⟨by unfold sg; omega, rfl⟩) (fun z => fun _ => ⟨fun u => absurd u (by decide), fun _ => ?_⟩) (fun z => fun _ => ⟨fun _ => rWrong hK h (fun G1 hR1 f1 => ?_), fun u => absurd rfl u⟩)
    · have sp : pb q bB = pb q sS := by rw [pb_0 e, pb_0 e, hb1 _ z]
      unfold PX13_blockOnly_20
      refine hS G q i _ h h0 hi (fun v G2 i2 hR2 hC => fun _ => ?_)
      rw [← sp] at hR2 hC
      obtain ⟨c1, c2, c3, c4, c5, c6⟩ := hC
      exact hQ v G2 i2 hR2 ⟨c1, c2, c3, c4, c5, fun w => ⟨(c6 w).1, (c6 w).2.1, hT _ _ _ _ _ z (c6 w).2.2.1, (c6 w).2.2.2⟩⟩
    · rw [pb_0 e] at hR1
      exact bad G1 _ hR1 f1 (pmiss_ne _) (by rw [pb_0 e, hb0 _ z]) (pmiss_l _)
  · have e : q.1 ≠ 0 := fun e => y ((RM_fl h).mpr e)
    exact bad G q h FR_id e (pb_n e) (Int.le_refl _)
theorem rtry_ok {Q : Int → gS → Prop} {G0 : gS} (hK : TKp B s N tk cd) (hBk : SRs R B s N d 1 Bk bB) (hI : RTI s Bk) (hT : RTF s Bk) (h : RM B s N d G (ptake a) i) (f0 : FR (XR s i) G0 G) (ha0 : 0 ≤ a) (h0 : 0 ≤ i) (hi : i ≤ a + 2)
    (hQ : ∀ G' i', RM B s N d G' (pb (ptake a) (pworded tk eE sS bB 33)) i' → RFs s G0 G' (0, a) (pb (ptake a) (pworded tk eE sS bB 33)) i i' (rTryT B s Bk bB i i' (s * 1700 + i) a G' ∧ G' 16145 (s * 1700 + i) = plR B s a ∧ G' 16154 (s * 1700 + i) = -2) → Q (s * 1700 + i) G') : PX13_tryOf R (B 16091 (s * 702 + a)) G Q := by
  have hs0 := hK.1
  have hs1 := hK.2.1
  have hN := hK.2.2.2.2.1
  have haN := h.2.2.1
  have tl := ptake_le (a := a)
  have spec : pb (ptake a) (pworded tk eE sS bB 33) = pb (pb (pb (pb (pb (pb (pb (ptake a) bB) (pneed tk 34)) (pneed tk 140)) (pneed tk 2)) (pneed tk 3)) (pneed tk 141)) bB := by
    rw [pb_pb, pb_pb, pb_pb, pb_pb, pb_pb, pb_pb]; rfl
  rw [spec] at hQ
  clear spec
  unfold PX13_tryOf PX13_tryOf_0
  refine rNode hK h h0 (by omega) (fun G1 n1 hR1 f1 => fun _ => hBk G1 _ (i + 1) _ hR1 (by omega) (fun e => by have := tl.2.2 e; omega) (fun rA G2 i2 hR2 hC => fun _ => ⟨by omega, by omega, fun G3 e3 => ?_⟩))
  obtain ⟨m0, m1, m2, m3, m4, m5, m6, m7, m8, m9, m10, m11, m12, m13⟩ := n1
  obtain ⟨c1, c2, c3, c4, c5, c6⟩ := hC
  have hR3 : RM B s N d G3 (pb (ptake a) bB) i2 := by rw [e3]; exact RM_put hR2 (by omega)
  have c1' : i ≤ i2 := by omega
  have i2b : i2 ≤ i + ((pb (ptake a) bB).2 - a) + 2 := by
    by_cases e : (ptake a).1 = 0
    · have := tl.2.2 e; omega
    · have := c3 e; omega
  have q2N := hR3.2.2.1
  refine rWantWord hK hR3 wo56 (fun G4 hR4 f4 => rWantSign (k := 140) hK hR4 (Or.inl ⟨by unfold sg; omega, rfl⟩) (fun G5 hR5 f5 => rWant (k := 2) hK hR5 (Or.inl ⟨rfl, rfl⟩) (fun rC G6 rc0 rc1 rc2 hR6 f6 => fun _ => rName hK hR6.1 rc0 rc1 (fun _ => ⟨by omega, by omega, fun G7 e7 => ?_⟩))))
  have l3 : (pb (ptake a) bB).2 ≤ (pb (pb (ptake a) bB) (pneed tk 34)).2 := pb_le2 (pneed_l _)
  have l4 : (pb (pb (ptake a) bB) (pneed tk 34)).2 ≤ (pb (pb (pb (ptake a) bB) (pneed tk 34)) (pneed tk 140)).2 := pb_le2 (pneed_l _)
  have l5 : (pb (pb (pb (ptake a) bB) (pneed tk 34)) (pneed tk 140)).2 ≤ (pb (pb (pb (pb (ptake a) bB) (pneed tk 34)) (pneed tk 140)) (pneed tk 2)).2 := pb_le2 (pneed_l _)
  have l6 : (pb (pb (pb (pb (ptake a) bB) (pneed tk 34)) (pneed tk 140)) (pneed tk 2)).2 ≤ (pb (pb (pb (pb (pb (ptake a) bB) (pneed tk 34)) (pneed tk 140)) (pneed tk 2)) (pneed tk 3)).2 := pb_le2 (pneed_l _)
  have l7 : (pb (pb (pb (pb (pb (ptake a) bB) (pneed tk 34)) (pneed tk 140)) (pneed tk 2)) (pneed tk 3)).2 ≤ (pb (pb (pb (pb (pb (pb (ptake a) bB) (pneed tk 34)) (pneed tk 140)) (pneed tk 2)) (pneed tk 3)) (pneed tk 141)).2 := pb_le2 (pneed_l _)
  have good : (pb (pb (pb (pb (pb (pb (ptake a) bB) (pneed tk 34)) (pneed tk 140)) (pneed tk 2)) (pneed tk 3)) (pneed tk 141)).1 = 0 → (ptake a).1 = 0 ∧ (pb (ptake a) bB).1 = 0 ∧ (pb (ptake a) bB).2 = (bB (a + 1)).2 ∧ (pb (pb (pb (ptake a) bB) (pneed tk 34)) (pneed tk 140)).1 = 0 ∧ (pb (pb (pb (ptake a) bB) (pneed tk 34)) (pneed tk 140)).2 = (bB (a + 1)).2 + 2 ∧ (pb (pb (pb (pb (ptake a) bB) (pneed tk 34)) (pneed tk 140)) (pneed tk 2)).1 = 0 ∧ (pb (pb (pb (pb (ptake a) bB) (pneed tk 34)) (pneed tk 140)) (pneed tk 2)).2 = (bB (a + 1)).2 + 3 ∧ (pb (pb (pb (pb (pb (pb (ptake a) bB) (pneed tk 34)) (pneed tk 140)) (pneed tk 2)) (pneed tk 3)) (pneed tk 141)).2 = (bB (a + 1)).2 + 5 := fun w => by
    obtain ⟨w6, x7⟩ := pb_z w
    obtain ⟨w5, x6⟩ := pb_z w6
    obtain ⟨w4, x5⟩ := pb_z w5
    obtain ⟨w3, x4⟩ := pb_z w4
    obtain ⟨w2, x3⟩ := pb_z w3
    obtain ⟨w1, x2⟩ := pb_z w2
    have u1 := tl.2.2 w1
    have u2 : (pb (ptake a) bB).2 = (bB (a + 1)).2 := by rw [pb_0 w1, u1]
    have u3 : (pb (pb (ptake a) bB) (pneed tk 34)).2 = (bB (a + 1)).2 + 1 := by rw [pb_0 w2, ((pneed_le).2.2 x3).1, u2]
    have u4 : (pb (pb (pb (ptake a) bB) (pneed tk 34)) (pneed tk 140)).2 = (bB (a + 1)).2 + 2 := by rw [pb_0 w3, ((pneed_le).2.2 x4).1, u3]; omega
    have u5 : (pb (pb (pb (pb (ptake a) bB) (pneed tk 34)) (pneed tk 140)) (pneed tk 2)).2 = (bB (a + 1)).2 + 3 := by rw [pb_0 w4, ((pneed_le).2.2 x5).1, u4]; omega
    have u6 : (pb (pb (pb (pb (pb (ptake a) bB) (pneed tk 34)) (pneed tk 140)) (pneed tk 2)) (pneed tk 3)).2 = (bB (a + 1)).2 + 4 := by rw [pb_0 w5, ((pneed_le).2.2 x6).1, u5]; omega
    exact ⟨w1, w2, u2, w4, u4, w5, u5, by rw [pb_0 w6, ((pneed_le).2.2 x7).1, u6]; omega⟩
  generalize hq2 : pb (ptake a) bB = q2 at *
  generalize hq3 : pb q2 (pneed tk 34) = q3 at *
  generalize hq4 : pb q3 (pneed tk 140) = q4 at *
  generalize hq5 : pb q4 (pneed tk 2) = q5 at *
  have hR7 : RM B s N d G7 q5 i2 := by rw [e7]; exact RM_put hR6 (by omega)
  refine rPlace hK hR7.1 rc0 rc1 (fun _ => ⟨by omega, by omega, fun G8 e8 => ?_⟩)
  have hR8 : RM B s N d G8 q5 i2 := by rw [e8]; exact RM_put hR7 (by omega)
  refine rWant (k := 3) hK hR8 (Or.inr ⟨rfl, rfl⟩) (fun rN G9 rn0 rn1 rn2 hR9 f9 => fun _ => rName hK hR9.1 rn0 rn1 (fun _ => ⟨by omega, by omega, fun G10 e10 => ?_⟩))
  generalize hq6 : pb q5 (pneed tk 3) = q6 at *
  have hR10 : RM B s N d G10 q6 i2 := by rw [e10]; exact RM_put hR9 (by omega)
  refine rPlace hK hR10.1 rn0 rn1 (fun _ => ⟨by omega, by omega, fun G11 e11 => ?_⟩)
  have hR11 : RM B s N d G11 q6 i2 := by rw [e11]; exact RM_put hR10 (by omega)
  refine rWantSign (k := 141) hK hR11 (Or.inl ⟨by unfold sg; omega, rfl⟩) (fun G12 hR12 f12 => ?_)
  generalize hq7 : pb q6 (pneed tk 141) = q7 at *
  have g2 : q2.1 = 0 → i2 ≤ i + (q2.2 - a) ∧ Bk (i + 1) i2 rA (ptake a).2 G2 := fun e => by
    have := c6 e
    have e1 : (ptake a).1 = 0 := by rw [← hq2] at e; exact (pb_z e).1
    have := tl.2.2 e1
    exact ⟨by omega, (c6 e).2.2.1⟩
  refine hBk G12 q7 i2 _ hR12 (by omega) (fun e => by have := good e; have := g2 this.2.1; omega) (fun rB G13 i13 hR13 hC13 => fun _ => ⟨by omega, by omega, fun G14 e14 => ?_⟩)
  obtain ⟨d1, d2, d3, d4, d5, d6⟩ := hC13
  have w14 : ∀ c j, ¬ (c = 16152 ∧ j = s * 1700 + i) → G14 c j = G13 c j := fun c j x => by rw [e14, uG_ne (by omega)]
  have w13 : ∀ c j, 16144 ≤ c → c ≤ 16162 → s * 1700 ≤ j → j < s * 1700 + i2 → G13 c j = G11 c j := fun c j y1 y2 y3 y4 => by rw [d2 c j (by unfold XR; omega), f12 c j (by unfold XR; omega)]
  have w11 : ∀ c j, 16144 ≤ c → c ≤ 16162 → s * 1700 ≤ j → j < s * 1700 + i2 → j ≠ s * 1700 + i → G11 c j = G2 c j := fun c j y1 y2 y3 y4 y5 => by
    rw [e11, uG_j y5, e10, uG_j y5, f9 c j (by unfold XR; omega), e8, uG_j y5, e7, uG_j y5, f6 c j (by unfold XR; omega), f5 c j (by unfold XR; omega), f4 c j (by unfold XR; omega), e3, uG_j y5]
  have k3 : ∀ c, 16144 ≤ c → G6 c (s * 1700 + i) = G3 c (s * 1700 + i) := fun c x => by rw [XR_n f6 (by omega) x, XR_n f5 (by omega) x, XR_n f4 (by omega) x]
  have k9 : ∀ c, 16144 ≤ c → G9 c (s * 1700 + i) = G8 c (s * 1700 + i) := fun c x => XR_n f9 (by omega) x
  have k13 : ∀ c, 16144 ≤ c → c ≠ 16152 → G14 c (s * 1700 + i) = G11 c (s * 1700 + i) := fun c x y => by rw [w14 _ _ (by omega), XR_n d2 (by omega) x, XR_n f12 (by omega) x]
  have v14 : ∀ c, 16144 ≤ c → c ≠ 16146 → c ≠ 16147 → c ≠ 16148 → c ≠ 16149 → c ≠ 16151 → c ≠ 16152 → G14 c (s * 1700 + i) = G1 c (s * 1700 + i) := fun c x y1 y2 y3 y4 y5 y6 => by
    rw [k13 c x y6, e11, uG_c y1, e10, uG_c y3, k9 c x, e8, uG_c y2, e7, uG_c y4, k3 c x, e3, uG_c y5, XR_n c2 (by omega) x]
  have f03 : FR (XR s i) G0 G3 := FR_tr f0 (FR_tr f1 (FR_tr (FR_XR (by omega) c2) (by rw [e3]; exact FR_up FR_id (by unfold XR; omega))))
  have f08 : FR (XR s i) G0 G8 := FR_tr f03 (FR_tr (FR_XR c1' f4) (FR_tr (FR_XR c1' f5) (FR_tr (FR_XR c1' f6) (by rw [e8, e7]; exact FR_up (FR_up FR_id (by unfold XR; omega)) (by unfold XR; omega)))))
  have f14 : FR (XR s i) G0 G14 := FR_tr f08 (FR_tr (FR_XR c1' f9) (FR_tr (by rw [e11, e10]; exact FR_up (FR_up FR_id (by unfold XR; omega)) (by unfold XR; omega)) (FR_tr (FR_XR c1' f12) (FR_tr (FR_XR c1' d2) (by rw [e14]; exact FR_up FR_id (by unfold XR; omega))))))
  refine hQ G14 i13 (by rw [e14]; exact RM_put hR13 (by omega)) ⟨by omega, f14, fun y => absurd rfl y, by show a ≤ _; omega, ?_, fun w => ?_⟩
  · show i13 ≤ i + (_ - a) + 2
    by_cases e : q7.1 = 0
    · have := good e
      have := g2 this.2.1
      omega
    · have := d3 e
      omega
  · have wq := (pb_z w).1
    obtain ⟨y1, y2, y3, y4, y5, y6, y7, y8⟩ := good wq
    obtain ⟨u1, u2⟩ := g2 y2
    obtain ⟨p1, p2, p3, p4⟩ := d6 w
    rw [tl.2.2 y1] at u2
    rw [y8] at p3
    have hC' : rC = (bB (a + 1)).2 + 2 := by rw [rc2 y4, y5]
    have hN' : rN = (bB (a + 1)).2 + 3 := by rw [rn2 y6, y7]
    have n11 : G11 16151 (s * 1700 + i) = rA := by rw [e11, uG_c (by omega), e10, uG_c (by omega), k9 _ (by omega), e8, uG_c (by omega), e7, uG_c (by omega), k3 _ (by omega), e3, uG_at]
    have n49 : G11 16149 (s * 1700 + i) = B 16093 (s * 702 + rC) := by rw [e11, uG_c (by omega), e10, uG_c (by omega), k9 _ (by omega), e8, uG_c (by omega), e7, uG_at]
    have n47 : G11 16147 (s * 1700 + i) = B 16091 (s * 702 + rC) := by rw [e11, uG_c (by omega), e10, uG_c (by omega), k9 _ (by omega), e8, uG_at]
    have n48 : G11 16148 (s * 1700 + i) = B 16093 (s * 702 + rN) := by rw [e11, uG_c (by omega), e10, uG_at]
    have n46 : G11 16146 (s * 1700 + i) = B 16091 (s * 702 + rN) := by rw [e11, uG_at]
    refine ⟨by show i13 ≤ i + (_ - a); omega, by show a < _; omega, ⟨rfl, by omega, by rw [v14 _ (by omega) (by omega) (by omega) (by omega) (by omega) (by omega) (by omega)]; exact m1, by rw [k13 _ (by omega) (by omega), n49, hC']; rfl, by rw [k13 _ (by omega) (by omega), n47, hC']; rfl, by rw [k13 _ (by omega) (by omega), n48, hN']; rfl, by rw [k13 _ (by omega) (by omega), n46, hN']; rfl, i2, d1, ?_, ?_⟩, by rw [v14 _ (by omega) (by omega) (by omega) (by omega) (by omega) (by omega) (by omega)]; exact m2, by rw [v14 _ (by omega) (by omega) (by omega) (by omega) (by omega) (by omega) (by omega)]; exact m11⟩
    · rw [k13 _ (by omega) (by omega), n11]
      exact hT _ _ _ _ _ _ u2 (fun c j x1 x2 x3 x4 _ => by rw [w14 c j (by omega), w13 c j x1 (by omega) (by omega) x4, w11 c j x1 (by omega) (by omega) x4 (by omega)])
    · rw [show G14 16152 (s * 1700 + i) = rB by rw [e14, uG_at]]
      exact hT _ _ _ _ _ _ p3 (fun c j x1 x2 x3 x4 _ => w14 c j (by omega))
end RP16

section RP6
variable {B G G' : gS} {s N d i i' a : Int} {tk cd : Int → Int} {q r : RR} {R : JT} {T C : TT} {eE cU : Int → RR}
theorem RM_pp (h : RM B s N d G q i) : G 16081 22 = q.2 := by
  by_cases e : q.1 = 0
  · exact RM_p h e
  · exact (h.2.2.2.2.2.2.1 e).2.2
theorem l_take1 {w1 a : Int} : a ≤ (pb (ptake a) (pneed tk w1)).2 := Int.le_trans (ptake_le).1 (pb_le2 (pneed_l _))
-- from q on: . NAME, then ARGS, all into node n, made last
theorem rsuper_end {G0 : gS} {Q : Int → gS → Prop} {v b : Int} (hK : TKp B s N tk cd) (hA : SRa R B s N d tk T eE) (hI : RTI s T) (hT : RTF s T) (h : RM B s N d G q (i + 1)) (h0 : 0 ≤ i) (f0 : FR (XR s i) G0 G) (hv : v = s * 1700 + i) (hq : a ≤ q.2) (hq2 : q.1 = 0 → q.2 = b ∧ a ≤ b) (hi : i ≤ a + 2) (g54 : G 16154 v = -2)
    (hQ : ∀ G' i', RM B s N d G' (pb q (psuper tk eE)) i' → i + 1 ≤ i' → FR (XR s i) G0 G' → a ≤ (pb q (psuper tk eE)).2 → i' ≤ i + ((pb q (psuper tk eE)).2 - a) + 1 → (∀ c, 16144 ≤ c → c ≠ 16152 → c ≠ 16148 → c ≠ 16146 → G' c v = G c v) → ((pb q (psuper tk eE)).1 = 0 → i' ≤ i + ((pb q (psuper tk eE)).2 - a) ∧ a < (pb q (psuper tk eE)).2 ∧ G' 16148 v = nmR B s (b + 1) ∧ G' 16146 v = plR B s (b + 1) ∧ rArgs tk T eE (i + 1) i' (G' 16152 v) (b + 2) G') → Q v G') : PX13_wantSign 46 G (fun _ G88 => PX13_want 2 0 G88 (fun r91 G90 => inI r91 → PX13_nameAt r91 G90 (fun r94 G93 => inL r94 → ((0 : Int) ≤ v ∧ ((v : Int) < 30600 ∧ (∀ G98 : gS, G98 = uG G93 16148 v (r94) → PX13_placeAt r91 G98 (fun r100 G99 => inI r100 → ((0 : Int) ≤ v ∧ ((v : Int) < 30600 ∧ (∀ G104 : gS, G104 = uG G99 16146 v (r100) → R 0 [] G104 (fun r106 G105 => inI r106 → ((0 : Int) ≤ v ∧ ((v : Int) < 30600 ∧ (∀ G110 : gS, G110 = uG G105 16152 v (r106) → Q v G110)))))))))))))) := by
  have hs0 := hK.1
  have hs1 := hK.2.1
  have hN := hK.2.2.2.2.1
  have sp : pb q (psuper tk eE) = pb (pb (pb q (pneed tk 146)) (pneed tk 3)) (pargs tk eE) := by
    rw [pb_pb, pb_pb]; rfl
  rw [sp] at hQ
  subst hv
  have hqN := h.2.2.1
  refine rWantSign (k := 146) hK h (Or.inl ⟨by unfold sg; omega, rfl⟩) (fun G3 hR3 f3 => rWant (k := 3) hK hR3 (Or.inr ⟨rfl, rfl⟩) (fun r4 G4 r0 r1 r2 hR4 f4 => fun _ => rName hK hR4.1 r0 r1 (fun _ => ⟨by omega, by omega, fun G5 e5 => ?_⟩)))
  have l1 : q.2 ≤ (pb q (pneed tk 146)).2 := pb_le2 (pneed_l _)
  have l2 : q.2 ≤ (pb (pb q (pneed tk 146)) (pneed tk 3)).2 := Int.le_trans l1 (pb_le2 (pneed_l _))
  have good : (pb (pb q (pneed tk 146)) (pneed tk 3)).1 = 0 → (pb q (pneed tk 146)).1 = 0 ∧ (pb q (pneed tk 146)).2 = b + 1 ∧ (pb (pb q (pneed tk 146)) (pneed tk 3)).2 = b + 2 := fun e => by
    obtain ⟨e1, e2⟩ := pb_z e
    obtain ⟨e3, e4⟩ := pb_z e1
    obtain ⟨eb, -⟩ := hq2 e3
    have u2 := ((pneed_le).2.2 e4).1
    have u3 := ((pneed_le).2.2 e2).1
    have e5 : (pb q (pneed tk 146)).2 = b + 1 := by rw [pb_0 e3, u2, eb]
    rw [e5] at u3
    refine ⟨e1, e5, ?_⟩
    rw [pb_0 e1, e5, u3]; omega
  have gb : (pb (pb q (pneed tk 146)) (pneed tk 3)).1 = 0 → a ≤ b := fun e => (hq2 (pb_z (pb_z e).1).1).2
  generalize hq4 : pb (pb q (pneed tk 146)) (pneed tk 3) = q4 at *
  have hR5 : RM B s N d G5 q4 (i + 1) := by rw [e5]; exact RM_put hR4 (by omega)
  refine rPlace hK hR5.1 r0 r1 (fun _ => ⟨by omega, by omega, fun G6 e6 => ?_⟩)
  have hR6 : RM B s N d G6 q4 (i + 1) := by rw [e6]; exact RM_put hR5 (by omega)
  have fG4 : FR (XR s (i + 1)) G G4 := FR_tr f3 f4
  have v4 : ∀ c, 16144 ≤ c → G4 c (s * 1700 + i) = G c (s * 1700 + i) := fun c x => XR_n fG4 (by omega) x
  have v6 : ∀ c, 16144 ≤ c → c ≠ 16146 → c ≠ 16148 → G6 c (s * 1700 + i) = G c (s * 1700 + i) := fun c x y1 y2 => by rw [e6, uG_c y1, e5, uG_c y2]; exact v4 c x
  refine rcall_end (Q := Q) (fun r G' hr => fun _ => ⟨by omega, by omega, hr⟩) hK hA hR6 h0 (by rw [e6, e5]; exact FR_up (FR_up (FR_tr f0 (FR_XR (by omega) fG4)) (by unfold XR; omega)) (by unfold XR; omega)) rfl (Int.le_trans hq l2) (fun e => by have := good e; have := gb e; omega) hi (by rw [v6 _ (by omega) (by omega) (by omega)]; exact g54) (fun G' i' x1 x2 x3 x4 x5 x6 x7 => hQ G' i' x1 x2 x3 x4 x5 (fun c y1 y2 y3 y4 => by rw [x6 c y1 y2]; exact v6 c y1 y4 y3) (fun y => ?_)) hI hT
  obtain ⟨u1, u2, u3⟩ := x7 y
  obtain ⟨g1, g2, g3⟩ := good (pb_z y).1
  rw [g3] at u3
  have hr4 : r4 = b + 1 := by rw [r2 g1, g2]
  exact ⟨u1, u2, by rw [x6 _ (by omega) (by omega), e6, uG_c (by omega), e5, uG_at, hr4]; rfl, by rw [x6 _ (by omega) (by omega), e6, uG_at, hr4]; rfl, u3⟩
theorem rofClass_ok {Q : Int → gS → Prop} (hK : TKp B s N tk cd) (hA : SRa R B s N d tk T eE) (hI : RTI s T) (hT : RTF s T) (h : RM B s N d G (0, a) i) (h0 : 0 ≤ i) (hi : i ≤ a + 2) (h2 : tk a = 2) (hQ : ∀ v G' i', RM B s N d G' (pb (ptake a) (pclass tk eE)) i' → RFc s G G' (0, a) (pb (ptake a) (pclass tk eE)) i i' (rFront B s tk T C eE i i' v a G' ∧ G' 16154 v = -2) → Q v G') : PX13_ofClass R (B 16091 (s * 702 + a)) G Q := by
  have hs0 := hK.1
  have hs1 := hK.2.1
  have hN := hK.2.2.2.2.1
  have ha0 : 0 ≤ a := h.2.1
  have haN : a < N := h.2.2.1
  have hp : G 16081 22 = a := RM_p h rfl
  have tl := ptake_le (a := a)
  have spec : pb (ptake a) (pclass tk eE) = pb (pb (ptake a) (pneed tk 146)) fun b => if tk b = 38 then pb (ptake b) (psuper tk eE) else pb (pneed tk 3 b) fun c => if tk c = 140 then pargs tk eE c else (0, c) := by
    rw [pb_pb]; rfl
  generalize hr0 : pb (ptake a) (pclass tk eE) = r0 at *
  unfold PX13_ofClass PX13_ofClass_0
  rw [hp]
  refine fun _ => rName hK h.1 ha0 haN (fun _ => rStep hK h (fun _ => by show tk a ≠ 0 ∧ tk a ≠ 1; omega) (fun G1 hR1 f1 => ?_))
  change RM B s N d G1 (ptake a) i at hR1
  refine rWantSign (k := 146) hK hR1 (Or.inl ⟨by unfold sg; omega, rfl⟩) (fun G2 hR2 f2 => ?_)
  have f02 : FR (XR s i) G G2 := FR_tr f1 f2
  clear f1 f2 hR1
  have l2 : a ≤ (pb (ptake a) (pneed tk 146)).2 := l_take1
  have g2 : (pb (ptake a) (pneed tk 146)).1 = 0 → (pb (ptake a) (pneed tk 146)).2 = a + 2 := fun e => by
    obtain ⟨e3, e4⟩ := pb_z e
    have u1 := tl.2.2 e3
    rw [pb_0 e3, ((pneed_le).2.2 e4).1, u1]; omega
  generalize hq2 : pb (ptake a) (pneed tk 146) = q2 at *
  refine rTakes hK hR2 wo47 (fun e z G3 hR3 f3 => fun _ => ⟨fun y => absurd y (by decide), fun _ => ?_⟩) (fun z38 => fun _ => ⟨fun _ => ?_, fun y => absurd rfl y⟩)
  · -- C . super . NAME ARGS
    have eq2 := g2 e
    rw [eq2] at z
    have e3 : pb q2 ptake = ptake (a + 2) := by rw [pb_0 e, eq2]
    have sp : r0 = pb (ptake (a + 2)) (psuper tk eE) := by rw [spec, pb_0 e, eq2, if_pos z]
    rw [e3] at hR3
    rw [sp] at hQ
    have tl2 := ptake_le (a := a + 2)
    refine rNode hK hR3 h0 (by omega) (fun G4 n4 hR4 f4 => fun _ => ⟨by omega, by omega, fun G5 e5 => ?_⟩)
    obtain ⟨m0, m1, m2, m3, m4, m5, m6, m7, m8, m9, m10, m11, m12, m13⟩ := n4
    have hR5 : RM B s N d G5 (ptake (a + 2)) (i + 1) := by rw [e5]; exact RM_put hR4 (by omega)
    have p5 := RM_pp hR5
    have pN := hR5.2.2.1
    have f5 : FR (XR s i) G G5 := by rw [e5]; exact FR_up (FR_tr f02 (FR_tr f3 f4)) (by unfold XR; omega)
    rw [p5]
    refine fun _ => ⟨by unfold inI; omega, rPlace hK hR5.1 (by omega) (by omega) (fun _ => ⟨by omega, by omega, fun G6 e6 => ?_⟩)⟩
    have hR6 : RM B s N d G6 (ptake (a + 2)) (i + 1) := by rw [e6]; exact RM_put hR5 (by omega)
    rw [RM_pp hR6]
    refine fun _ => ⟨by unfold inI; omega, rPlace hK hR6.1 (by omega) (by omega) (fun _ => ⟨by omega, by omega, fun G7 e7 => ?_⟩)⟩
    have hR7 : RM B s N d G7 (ptake (a + 2)) (i + 1) := by rw [e7]; exact RM_put hR6 (by omega)
    have f7 : FR (XR s i) G G7 := by rw [e7, e6]; exact FR_up (FR_up f5 (by unfold XR; omega)) (by unfold XR; omega)
    have v7 : ∀ c, c ≠ 16146 → c ≠ 16149 → c ≠ 16153 → G7 c (s * 1700 + i) = G4 c (s * 1700 + i) := fun c y1 y2 y3 => by rw [e7, uG_c y3, e6, uG_c y1, e5, uG_c y2]
    refine rsuper_end (a := a) (b := a + 3) (Q := Q) hK hA hI hT hR7 h0 f7 rfl (by omega) (fun e => ⟨by have := tl2.2.2 e; omega, by omega⟩) hi (by rw [v7 _ (by omega) (by omega) (by omega)]; exact m11) (fun G' i' x1 x2 x3 x4 x5 x6 x7 => hQ _ G' i' x1 ⟨by omega, x3, fun y => absurd rfl y, x4, x5, fun y => ?_⟩)
    obtain ⟨u1, u2, u3, u4, u5⟩ := x7 y
    have ea := tl2.2.2 (pb_z y).1
    have v : ∀ c, 16144 ≤ c → c ≠ 16152 → c ≠ 16148 → c ≠ 16146 → c ≠ 16149 → c ≠ 16153 → G' c (s * 1700 + i) = G4 c (s * 1700 + i) := fun c y1 y2 y3 y4 y5 y6 => by rw [x6 c y1 y2 y3 y4]; exact v7 c y4 y5 y6
    rw [show a + 3 + 1 = a + 4 by omega] at u3 u4
    rw [show a + 3 + 2 = a + 5 by omega] at u5
    refine ⟨u1, u2, ⟨rfl, by omega, by rw [v _ (by omega) (by omega) (by omega) (by omega) (by omega) (by omega)]; exact m2, fun z => by omega, fun z => by omega, fun z => by omega, fun z => by omega, fun _ => ⟨?_, ?_, fun _ => ⟨?_, ?_, u3, u4, u5⟩, fun y => absurd z y⟩, fun z => by omega, fun z => by omega, fun z => by omega⟩, by rw [v _ (by omega) (by omega) (by omega) (by omega) (by omega) (by omega)]; exact m11⟩
    · rw [x6 _ (by omega) (by omega) (by omega) (by omega), e7, uG_c (by omega), e6, uG_c (by omega), e5, uG_at]; rfl
    · rw [v _ (by omega) (by omega) (by omega) (by omega) (by omega) (by omega), m4]; rfl
    · rw [v _ (by omega) (by omega) (by omega) (by omega) (by omega) (by omega)]; exact m1
    · rw [x6 _ (by omega) (by omega) (by omega) (by omega), e7, uG_at, ea, show a + 2 + 1 - 1 = a + 2 by omega]; rfl
  · have sp : r0 = pb (pb q2 (pneed tk 3)) fun c => if tk c = 140 then pargs tk eE c else (0, c) := by
      rw [spec, pb_pb]
      by_cases e : q2.1 = 0
      · rw [pb_0 e, pb_0 e, if_neg (z38 e)]
      · rw [pb_n e, pb_n e]
    have z38' : q2.1 = 0 → tk (a + 2) ≠ 38 := fun e => by rw [← g2 e]; exact z38 e
    clear spec z38
    refine rWant (k := 3) hK hR2 (Or.inr ⟨rfl, rfl⟩) (fun t G3 r0' r1 r2 hR3 f3 => fun _ => ?_)
    have f03 : FR (XR s i) G G3 := FR_tr f02 f3
    clear f02 f3 hR2
    have l3 : a ≤ (pb q2 (pneed tk 3)).2 := Int.le_trans l2 (pb_le2 (pneed_l _))
    have g3 : (pb q2 (pneed tk 3)).1 = 0 → (pb q2 (pneed tk 3)).2 = a + 3 ∧ q2.1 = 0 := fun e => by
      obtain ⟨e3, e4⟩ := pb_z e
      rw [pb_0 e3, ((pneed_le).2.2 e4).1, g2 e3]
      exact ⟨by omega, e3⟩
    generalize hq3 : pb q2 (pneed tk 3) = q3 at *
    have fin : ∀ c, ((c = 1 ∧ q3.1 = 0 ∧ tk (a + 3) = 140) ∨ (c = 0 ∧ (q3.1 = 0 → tk (a + 3) ≠ 140))) → PX13_ofClass_163 R (B 16091 (s * 702 + a)) (B 16093 (s * 702 + a)) t c G3 Q := by
      intro c hc
      have node : ∀ k, (∀ G4 G7, NNr s i k (B 16091 (s * 702 + a)) G3 G4 → RM B s N d G7 q3 (i + 1) → FR (XR s i) G G7 → (∀ c, 16144 ≤ c → c ≠ 16146 → c ≠ 16148 → c ≠ 16149 → G7 c (s * 1700 + i) = G4 c (s * 1700 + i)) → G7 16149 (s * 1700 + i) = B 16093 (s * 702 + a) → G7 16148 (s * 1700 + i) = B 16093 (s * 702 + t) → G7 16146 (s * 1700 + i) = B 16091 (s * 702 + t) → ((c = 0 → PX13_ofClass_237 R (B 16091 (s * 702 + a)) (B 16093 (s * 702 + a)) t c (s * 1700 + i) 16152 (s * 1700 + i) (-2) G7 Q) ∧ (¬ (c = 0) → R 0 [] G7 (fun r89 G88 => inI r89 → PX13_ofClass_237 R (B 16091 (s * 702 + a)) (B 16093 (s * 702 + a)) t c (s * 1700 + i) 16152 (s * 1700 + i) r89 G88 Q)))) → PX13_ofClass_177 R (B 16091 (s * 702 + a)) (B 16093 (s * 702 + a)) t c 16081 k G3 Q := fun k hk => by
        unfold PX13_ofClass_177
        refine ⟨oC13, rNode hK hR3 h0 (by omega) (fun G4 n4 hR4 f4 => fun _ => ⟨by omega, by omega, fun G5 e5 => ?_⟩)⟩
        have hR5 : RM B s N d G5 q3 (i + 1) := by rw [e5]; exact RM_put hR4 (by omega)
        refine rName hK hR5.1 r0' r1 (fun _ => ⟨by omega, by omega, fun G6 e6 => ?_⟩)
        have hR6 : RM B s N d G6 q3 (i + 1) := by rw [e6]; exact RM_put hR5 (by omega)
        refine rPlace hK hR6.1 r0' r1 (fun _ => ⟨by omega, by omega, fun G7 e7 => ?_⟩)
        refine hk G4 G7 n4 (by rw [e7]; exact RM_put hR6 (by omega)) (by rw [e7, e6, e5]; exact FR_up (FR_up (FR_up (FR_tr f03 f4) (by unfold XR; omega)) (by unfold XR; omega)) (by unfold XR; omega)) (fun c y1 y2 y3 y4 => by rw [e7, uG_c y2, e6, uG_c y3, e5, uG_c y4]) ?_ ?_ ?_
        · rw [e7, uG_c (by omega), e6, uG_c (by omega), e5, uG_at]
        · rw [e7, uG_c (by omega), e6, uG_at]
        · rw [e7, uG_at]
      unfold PX13_ofClass_163
      rcases hc with ⟨rfl, c1, c2⟩ | ⟨rfl, c1⟩
      · refine ⟨fun y => absurd y (by decide), fun _ => node 6 (fun G4 G7 n4 hR7 f7 v7 w49 w48 w46 => ⟨fun y => absurd y (by decide), fun _ => ?_⟩)⟩
        obtain ⟨m0, m1, m2, m3, m4, m5, m6, m7, m8, m9, m10, m11, m12, m13⟩ := n4
        obtain ⟨eb, e2⟩ := g3 c1
        have sp' : r0 = pb q3 (pargs tk eE) := by rw [sp, pb_0 c1, pb_0 c1, eb, if_pos c2]
        rw [sp'] at hQ
        have ht : t = a + 2 := by rw [r2 e2, g2 e2]
        refine rcall_end (Q := Q) (fun r G' hr => fun _ => ?_) hK hA hR7 h0 f7 rfl l3 (fun _ => by omega) hi (by rw [v7 _ (by omega) (by omega) (by omega) (by omega)]; exact m11) (fun G' i' x1 x2 x3 x4 x5 x6 x7 => hQ _ G' i' x1 ⟨by omega, x3, fun y => absurd rfl y, x4, x5, fun y => ?_⟩) hI hT
        · unfold PX13_ofClass_237
          exact ⟨30600, aC16152, by omega, by omega, hr⟩
        · obtain ⟨u1, u2, u3⟩ := x7 y
          rw [eb] at u3
          have v : ∀ c, 16144 ≤ c → c ≠ 16152 → c ≠ 16146 → c ≠ 16148 → c ≠ 16149 → G' c (s * 1700 + i) = G4 c (s * 1700 + i) := fun c y1 y2 y3 y4 y5 => by rw [x6 c y1 y2]; exact v7 c y1 y3 y4 y5
          refine ⟨u1, u2, ⟨rfl, by omega, by rw [v _ (by omega) (by omega) (by omega) (by omega) (by omega)]; exact m2, fun z => by omega, fun z => by omega, fun z => by omega, fun z => by omega, fun _ => ⟨by rw [x6 _ (by omega) (by omega)]; exact w49, by rw [v _ (by omega) (by omega) (by omega) (by omega) (by omega)]; exact m4, fun y => absurd y (z38' e2), fun _ => ⟨by rw [x6 _ (by omega) (by omega), w48, ht]; rfl, by rw [x6 _ (by omega) (by omega), w46, ht]; rfl, fun _ => ⟨by rw [v _ (by omega) (by omega) (by omega) (by omega) (by omega)]; exact m1, u3⟩, fun y => absurd c2 y⟩⟩, fun z => by omega, fun z => by omega, fun z => by omega⟩, by rw [v _ (by omega) (by omega) (by omega) (by omega) (by omega)]; exact m11⟩
      · refine ⟨fun _ => node 5 (fun G4 G7 n4 hR7 f7 v7 w49 w48 w46 => ⟨fun _ => ?_, fun y => absurd rfl y⟩), fun y => absurd rfl y⟩
        obtain ⟨m0, m1, m2, m3, m4, m5, m6, m7, m8, m9, m10, m11, m12, m13⟩ := n4
        have sp' : r0 = q3 := by
          rw [sp]
          by_cases e : q3.1 = 0
          · rw [pb_0 e, (g3 e).1, if_neg (c1 e)]; exact Prod.ext e.symm (g3 e).1.symm
          · rw [pb_n e]
        rw [sp'] at hQ
        unfold PX13_ofClass_237
        refine ⟨30600, aC16152, by omega, by omega, fun G8 e8 => ?_⟩
        refine hQ _ G8 (i + 1) (by rw [e8]; exact RM_put hR7 (by omega)) ⟨by omega, by rw [e8]; exact FR_up f7 (by unfold XR; omega), fun y => absurd rfl y, l3, by show i + 1 ≤ i + (q3.2 - a) + 1; omega, fun y => ?_⟩
        obtain ⟨eb, e2⟩ := g3 y
        have ht : t = a + 2 := by rw [r2 e2, g2 e2]
        have v : ∀ c, 16144 ≤ c → c ≠ 16152 → c ≠ 16146 → c ≠ 16148 → c ≠ 16149 → G8 c (s * 1700 + i) = G4 c (s * 1700 + i) := fun c y1 y2 y3 y4 y5 => by rw [e8, uG_c y2]; exact v7 c y1 y3 y4 y5
        refine ⟨by show i + 1 ≤ i + (q3.2 - a); omega, by show a < q3.2; omega, ⟨rfl, by omega, by rw [v _ (by omega) (by omega) (by omega) (by omega) (by omega)]; exact m2, fun z => by omega, fun z => by omega, fun z => by omega, fun z => by omega, fun _ => ⟨by rw [e8, uG_c (by omega)]; exact w49, by rw [v _ (by omega) (by omega) (by omega) (by omega) (by omega)]; exact m4, fun y => absurd y (z38' e2), fun _ => ⟨by rw [e8, uG_c (by omega), w48, ht]; rfl, by rw [e8, uG_c (by omega), w46, ht]; rfl, fun u => absurd u (c1 y), fun _ => ⟨by rw [v _ (by omega) (by omega) (by omega) (by omega) (by omega)]; exact m1, by rw [e8, uG_at]⟩⟩⟩, fun z => by omega, fun z => by omega, fun z => by omega⟩, by rw [v _ (by omega) (by omega) (by omega) (by omega) (by omega)]; exact m11⟩
    refine fun _ => ⟨fun y => ?_, fun y => ?_⟩
    · have e := (RM_fl hR3).mp y
      obtain ⟨eb, -⟩ := g3 e
      refine rSg (k := 140) hK hR3 e (Or.inl ⟨by unfold sg; omega, rfl⟩) (fun z => fun _ => ⟨fun u => absurd u (by decide), fun _ => fin 1 (Or.inl ⟨rfl, e, by rw [← eb]; exact z⟩)⟩) (fun z => fun _ => ⟨fun _ => ?_, fun u => absurd rfl u⟩)
      unfold PX13_ofClass_162
      exact fin 0 (Or.inr ⟨rfl, fun _ => by rw [← eb]; exact z⟩)
    · unfold PX13_ofClass_162
      exact fin 0 (Or.inr ⟨rfl, fun e => absurd ((RM_fl hR3).mpr e) y⟩)
end RP6

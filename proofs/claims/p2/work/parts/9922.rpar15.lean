section RP15
variable {B G G' : gS} {s N d i i' a : Int} {tk cd : Int → Int} {q r : RR} {R : JT} {T S Bk : TT} {eE sS bB : Int → RR}
/-- ( E ) S behind node v, made last -/
theorem rTest_ES {G0 : gS} {Q Kt : Int → gS → Prop} {v b : Int} (hKt : ∀ r G1, (∀ G2 : gS, G2 = uG G1 16152 v r → Q v G2) → Kt r G1) (hK : TKp B s N tk cd) (hE : SRe (Rq8 200) B s N d 1 T eE) (hI : RTI s T) (hT : RTF s T) (hel : ∀ b, b ≤ (eE b).2) (hS : SRs R B s N d 2 S sS) (hTS : RTF s S) (h : RM B s N d G q (i + 1)) (h0 : 0 ≤ i) (f0 : FR (XR s i) G0 G) (hv : v = s * 1700 + i) (hq : a ≤ q.2) (hq2 : q.1 = 0 → q.2 = b ∧ a < b) (hi : i ≤ a + 2)
    (hQ : ∀ G' i', RM B s N d G' (pb (pb (pb (pb q (pneed tk 140)) eE) (pneed tk 141)) sS) i' → i + 1 ≤ i' → FR (XR s i) G0 G' → a ≤ (pb (pb (pb (pb q (pneed tk 140)) eE) (pneed tk 141)) sS).2 → i' ≤ i + ((pb (pb (pb (pb q (pneed tk 140)) eE) (pneed tk 141)) sS).2 - a) + 2 → (∀ c, 16144 ≤ c → c ≠ 16151 → c ≠ 16152 → G' c v = G c v) → ((pb (pb (pb (pb q (pneed tk 140)) eE) (pneed tk 141)) sS).1 = 0 → i' ≤ i + ((pb (pb (pb (pb q (pneed tk 140)) eE) (pneed tk 141)) sS).2 - a) ∧ a < (pb (pb (pb (pb q (pneed tk 140)) eE) (pneed tk 141)) sS).2 ∧ (pb (pb (pb (pb q (pneed tk 140)) eE) (pneed tk 141)) sS).2 = (sS ((eE (b + 1)).2 + 1)).2 ∧ ∃ x, i + 1 ≤ x ∧ x ≤ i' ∧ T (i + 1) x (G' 16151 v) (b + 1) G' ∧ S x i' (G' 16152 v) ((eE (b + 1)).2 + 1) G') → Q v G') : PX13_wantSign 40 G (fun _ G66 => Rq8 200 1 [] G66 (fun r69 G68 => inI r69 → ((0 : Int) ≤ v ∧ ((v : Int) < 30600 ∧ (∀ G73 : gS, G73 = uG G68 16151 v (r69) → PX13_wantSign 41 G73 (fun _ G74 => R 2 [] G74 Kt)))))) := by
  have hs0 := hK.1
  have hs1 := hK.2.1
  have haN := hK.2.2.2.2.1
  have hqN := h.2.2.1
  subst hv
  refine rWantSign (k := 140) hK h (Or.inl ⟨by unfold sg; omega, rfl⟩) (fun G1 hR1 f1 => ?_)
  have l1 : q.2 ≤ (pb q (pneed tk 140)).2 := pb_le2 (pneed_l _)
  have g1 : (pb q (pneed tk 140)).1 = 0 → q.2 = b ∧ a < b ∧ (pb q (pneed tk 140)).2 = b + 1 := fun e => by
    obtain ⟨e1, e2⟩ := pb_z e
    obtain ⟨u1, u2⟩ := hq2 e1
    exact ⟨u1, u2, by rw [pb_0 e1, ((pneed_le).2.2 e2).1, u1]⟩
  generalize hq1 : pb q (pneed tk 140) = q1 at *
  refine hE G1 q1 (i + 1) _ hR1 (by omega) (fun e => by have := g1 e; omega) (fun r2 G2 i2 hR2 hC => fun _ => ⟨by omega, by omega, fun G3 e3 => ?_⟩)
  obtain ⟨c1, c2, c3, c4, c5, c6⟩ := hC
  have hR3 : RM B s N d G3 (pb q1 eE) i2 := by rw [e3]; exact RM_put hR2 (by omega)
  refine rWantSign (k := 141) hK hR3 (Or.inl ⟨by unfold sg; omega, rfl⟩) (fun G4 hR4 f4 => ?_)
  have l4 : (pb q1 eE).2 ≤ (pb (pb q1 eE) (pneed tk 141)).2 := pb_le2 (pneed_l _)
  have g4 : (pb (pb q1 eE) (pneed tk 141)).1 = 0 → q1.1 = 0 ∧ (pb q1 eE).1 = 0 ∧ (pb q1 eE).2 = (eE (b + 1)).2 ∧ (pb (pb q1 eE) (pneed tk 141)).2 = (eE (b + 1)).2 + 1 := fun e => by
    obtain ⟨e1, e2⟩ := pb_z e
    have eq := (pb_z e1).1
    have u := (g1 eq).2.2
    have u2 : (pb q1 eE).2 = (eE (b + 1)).2 := by rw [pb_0 eq, u]
    exact ⟨eq, e1, u2, by rw [pb_0 e1, ((pneed_le).2.2 e2).1, u2]⟩
  have i2b : i2 ≤ i + ((pb q1 eE).2 - a) + 2 := by
    by_cases eq : q1.1 = 0
    · have := g1 eq
      omega
    · have := c3 eq
      omega
  have i2g : (pb q1 eE).1 = 0 → i2 ≤ i + ((pb q1 eE).2 - a) := fun e => by
    have := (c6 e).1
    have := g1 (pb_z e).1
    omega
  generalize hq4 : pb (pb q1 eE) (pneed tk 141) = q4 at *
  refine hS G4 q4 i2 _ hR4 (by omega) (fun e => by have := i2g (g4 e).2.1; omega) (fun r5 G5 i5 hR5 hC5 => hKt r5 G5 (fun G6 e6 => ?_))
  obtain ⟨d1, d2, d3, d4, d5, d6⟩ := hC5
  have w6 : ∀ c j, ¬ (c = 16152 ∧ j = s * 1700 + i) → G6 c j = G5 c j := fun c j x => by rw [e6, uG_ne (by omega)]
  have w5 : ∀ c j, 16144 ≤ c → c ≤ 16162 → s * 1700 ≤ j → j < s * 1700 + i2 → G5 c j = G3 c j := fun c j y1 y2 y3 y4 => by rw [d2 c j (by unfold XR; omega), f4 c j (by unfold XR; omega)]
  refine hQ G6 i5 (by rw [e6]; exact RM_put hR5 (by omega)) (by omega) ?_ (by omega) ?_ (fun c x y1 y2 => ?_) (fun e => ?_)
  · exact FR_tr f0 (FR_tr (FR_XR (by omega) f1) (FR_tr (FR_XR (by omega) c2) (FR_tr (by rw [e3]; exact FR_up FR_id (by unfold XR; omega)) (FR_tr (FR_XR (by omega) f4) (FR_tr (FR_XR (by omega) d2) (by rw [e6]; exact FR_up FR_id (by unfold XR; omega)))))))
  · by_cases eq : q4.1 = 0
    · obtain ⟨-, u1, u2, u3⟩ := g4 eq
      have := i2g u1
      omega
    · have := d3 eq
      omega
  · rw [w6 _ _ (by omega), XR_n d2 (by omega) x, XR_n f4 (by omega) x, e3, uG_c y1, XR_n c2 (by omega) x, XR_n f1 (by omega) x]
  · obtain ⟨v1, v2, v3, v4⟩ := d6 e
    have e4 := (pb_z e).1
    obtain ⟨u0, u1, u2, u3⟩ := g4 e4
    obtain ⟨p1, p2, p3⟩ := g1 u0
    obtain ⟨q1', q2', q3', q4'⟩ := c6 u1
    rw [p3] at q3'
    have ii := i2g u1
    have e8 : (pb q4 sS).2 = (sS ((eE (b + 1)).2 + 1)).2 := by rw [pb_0 e4, u3]
    refine ⟨by omega, by omega, e8, i2, c1, d1, ?_, ?_⟩
    · rw [w6 _ _ (by omega), w5 _ _ (by omega) (by omega) (by omega) (by omega), show G3 16151 (s * 1700 + i) = r2 by rw [e3, uG_at]]
      exact hT _ _ _ _ _ _ q3' (fun c j x1 x2 x3 x4 _ => by rw [w6 c j (by omega), w5 c j x1 (by omega) (by omega) x4, e3, uG_ne (by omega)])
    · rw [show G6 16152 (s * 1700 + i) = r5 by rw [e6, uG_at]]
      rw [u3] at v3
      exact hTS _ _ _ _ _ _ v3 (fun c j x1 x2 x3 x4 _ => w6 c j (by omega))
-- . ARGS ; of super(
theorem rsup_ok {Q : Int → gS → Prop} (hK : TKp B s N tk cd) (hA : SRa (Rq8 200) B s N d tk T eE) (hI : RTI s T) (hT : RTF s T) (h : RM B s N d G (0, a) i) (h0 : 0 ≤ i) (hi : i ≤ a + 2) (h2 : tk a = 38)
    (hQ : ∀ G' i', RM B s N d G' (pb (ptake a) fun b => pb (pargs tk eE b) (pneed tk 159)) i' → RFs s G G' (0, a) (pb (ptake a) fun b => pb (pargs tk eE b) (pneed tk 159)) i i' (rSupT s tk T eE i i' (s * 1700 + i) a G' ∧ G' 16145 (s * 1700 + i) = plR B s a ∧ G' 16154 (s * 1700 + i) = -2) → Q (s * 1700 + i) G') : PX13_node 28 (B 16091 (s * 702 + a)) G (fun r148 G147 => inI r148 → PX13_step G147 (fun _ G150 => Rq8 200 0 [] G150 (fun r153 G152 => inI r153 → ((0 : Int) ≤ r148 ∧ ((r148 : Int) < 30600 ∧ (∀ G157 : gS, G157 = uG G152 16151 r148 (r153) → PX13_wantSign 59 G157 (fun _ G158 => Q (r148) G158))))))) := by
  have hs0 := hK.1
  have hs1 := hK.2.1
  have hN := hK.2.2.2.2.1
  have ha0 : 0 ≤ a := h.2.1
  have haN : a < N := h.2.2.1
  have tl := ptake_le (a := a)
  have spec : (pb (ptake a) fun b => pb (pargs tk eE b) (pneed tk 159)) = pb (pb (ptake a) (pargs tk eE)) (pneed tk 159) := by rw [pb_pb]
  rw [spec] at hQ
  refine rNode hK h h0 (by omega) (fun G1 n1 hR1 f1 => fun _ => rStep hK hR1 (fun _ => by show tk a ≠ 0 ∧ tk a ≠ 1; omega) (fun G2 hR2 f2 => ?_))
  change RM B s N d G2 (ptake a) (i + 1) at hR2
  obtain ⟨m0, m1, m2, m3, m4, m5, m6, m7, m8, m9, m10, m11, m12, m13⟩ := n1
  refine hA G2 _ (i + 1) _ hR2 (by omega) (fun e => by have := tl.2.2 e; omega) (fun r3 G3 i3 hR3 hC => fun _ => ⟨by omega, by omega, fun G4 e4 => ?_⟩)
  obtain ⟨c1, c2, c3, c4, c5, c6⟩ := hC
  have hR4 : RM B s N d G4 (pb (ptake a) (pargs tk eE)) i3 := by rw [e4]; exact RM_put hR3 (by omega)
  refine rWantSign (k := 159) hK hR4 (Or.inl ⟨by unfold sg; omega, rfl⟩) (fun G5 hR5 f5 => hQ G5 i3 hR5 ?_)
  have l5 : (pb (ptake a) (pargs tk eE)).2 ≤ (pb (pb (ptake a) (pargs tk eE)) (pneed tk 159)).2 := pb_le2 (pneed_l _)
  have w5 : ∀ c j, 16144 ≤ c → c ≤ 16162 → s * 1700 ≤ j → j < s * 1700 + i3 → G5 c j = G4 c j := fun c j y1 y2 y3 y4 => f5 c j (by unfold XR; omega)
  refine ⟨by omega, FR_tr f1 (FR_tr (FR_XR (by omega) f2) (FR_tr (FR_XR (by omega) c2) (FR_tr (by rw [e4]; exact FR_up FR_id (by unfold XR; omega)) (FR_XR (by omega) f5)))), fun y => absurd rfl y, by show a ≤ _; omega, ?_, fun w => ?_⟩
  · show i3 ≤ i + (_ - a) + 2
    by_cases e : (ptake a).1 = 0
    · have := tl.2.2 e
      omega
    · have := c3 e
      omega
  · obtain ⟨e1, e2⟩ := pb_z w
    obtain ⟨u1, u2, u3⟩ := c6 e1
    have ea := tl.2.2 (pb_z e1).1
    have e5 := ((pneed_le).2.2 e2).1
    have e6 : (pb (pb (ptake a) (pargs tk eE)) (pneed tk 159)).2 = (pb (ptake a) (pargs tk eE)).2 + 1 := by rw [pb_0 e1, e5]
    rw [ea] at u1 u2 u3
    have v5 : ∀ c, 16144 ≤ c → c ≤ 16162 → c ≠ 16151 → G5 c (s * 1700 + i) = G1 c (s * 1700 + i) := fun c x y z => by rw [w5 _ _ x y (by omega) (by omega), e4, uG_c z, XR_n c2 (by omega) x, XR_n f2 (by omega) x]
    refine ⟨by show i3 ≤ i + (_ - a); omega, by show a < _; omega, ⟨rfl, by omega, by rw [v5 _ (by omega) (by omega) (by omega)]; exact m1, ?_⟩, by rw [v5 _ (by omega) (by omega) (by omega)]; exact m2, by rw [v5 _ (by omega) (by omega) (by omega)]; exact m11⟩
    rw [w5 _ _ (by omega) (by omega) (by omega) (by omega), show G4 16151 (s * 1700 + i) = r3 by rw [e4, uG_at]]
    exact rArgs_F hI hT u3 (fun c j x1 x2 x3 x4 => by rw [w5 c j x1 (by omega) (by omega) x4, e4, uG_ne (by omega)])
-- E ; and E = E ;
theorem rsim_ok {Q : Int → gS → Prop} (hK : TKp B s N tk cd) (hE : SRe (Rq8 200) B s N d 1 T eE) (hI : RTI s T) (hT : RTF s T) (hel : ∀ b, b ≤ (eE b).2) (h : RM B s N d G (0, a) i) (h0 : 0 ≤ i) (hi : i ≤ a + 2)
    (hQ : ∀ v G' i', RM B s N d G' (pb (eE a) fun b => if tk b = 161 then pb (ptake b) fun c => pb (eE c) (pneed tk 159) else pneed tk 159 b) i' → RFs s G G' (0, a) (pb (eE a) fun b => if tk b = 161 then pb (ptake b) fun c => pb (eE c) (pneed tk 159) else pneed tk 159 b) i i' (rSimT s tk T eE i i' v a G' ∧ G' 16145 v = plR B s a ∧ G' 16154 v = -2) → Q v G') : PX13_statementWithin_449 R (B 16091 (s * 702 + a)) G Q := by
  have hs0 := hK.1
  have hs1 := hK.2.1
  have hN := hK.2.2.2.2.1
  have ha0 : 0 ≤ a := h.2.1
  have haN : a < N := h.2.2.1
  generalize hr0 : (pb (eE a) fun b => if tk b = 161 then pb (ptake b) fun c => pb (eE c) (pneed tk 159) else pneed tk 159 b) = r0 at *
  unfold PX13_statementWithin_449
  refine hE G (0, a) i _ h h0 (fun _ => hi) (fun e1 G1 i1 hR1 hC => fun _ => ?_)
  obtain ⟨c1, c2, c3, c4, c5, c6⟩ := hC
  change RM B s N d G1 (eE a) i1 at hR1
  change a ≤ (eE a).2 at c4
  change i1 ≤ i + ((eE a).2 - a) + 1 at c5
  change (eE a).1 = 0 → i1 ≤ i + ((eE a).2 - a) ∧ a < (eE a).2 ∧ T i i1 e1 a G1 ∧ G1 16154 e1 = -2 at c6
  have hbN := hR1.2.2.1
  -- an E ;
  have alone : ((eE a).1 = 0 → tk (eE a).2 ≠ 161) → PX13_statementWithin_507 R (B 16091 (s * 702 + a)) e1 G1 Q := fun hn => by
    have sp : r0 = pb (eE a) (pneed tk 159) := by
      rw [← hr0]
      by_cases e : (eE a).1 = 0
      · rw [pb_0 e, pb_0 e, if_neg (hn e)]
      · rw [pb_n e, pb_n e]
    rw [sp] at hQ
    unfold PX13_statementWithin_507
    refine rNode hK hR1 (by omega) (by omega) (fun G2 n2 hR2 f2 => fun _ => ⟨by omega, by omega, fun G3 e3 => ?_⟩)
    obtain ⟨m0, m1, m2, m3, m4, m5, m6, m7, m8, m9, m10, m11, m12, m13⟩ := n2
    have hR3 : RM B s N d G3 (eE a) (i1 + 1) := by rw [e3]; exact RM_put hR2 (by omega)
    refine rWantSign (k := 159) hK hR3 (Or.inl ⟨by unfold sg; omega, rfl⟩) (fun G4 hR4 f4 => hQ _ G4 (i1 + 1) hR4 ?_)
    have l4 : (eE a).2 ≤ (pb (eE a) (pneed tk 159)).2 := pb_le2 (pneed_l _)
    have w4 : ∀ c j, 16144 ≤ c → c ≤ 16162 → s * 1700 ≤ j → j < s * 1700 + i1 + 1 → G4 c j = G3 c j := fun c j y1 y2 y3 y4 => f4 c j (by unfold XR; omega)
    have v4 : ∀ c, 16144 ≤ c → c ≤ 16162 → c ≠ 16151 → G4 c (s * 1700 + i1) = G2 c (s * 1700 + i1) := fun c x y z => by rw [w4 _ _ x y (by omega) (by omega), e3, uG_c z]
    refine ⟨by omega, FR_tr c2 (FR_tr (FR_XR (by omega) f2) (FR_tr (by rw [e3]; exact FR_up FR_id (by unfold XR; omega)) (FR_XR (by omega) f4))), fun y => absurd rfl y, by show a ≤ _; omega, by show i1 + 1 ≤ i + (_ - a) + 2; omega, fun w => ?_⟩
    obtain ⟨x1, x2⟩ := pb_z w
    obtain ⟨u1, u2, u3, u4⟩ := c6 x1
    have e5 := ((pneed_le).2.2 x2).1
    have e6 : (pb (eE a) (pneed tk 159)).2 = (eE a).2 + 1 := by rw [pb_0 x1, e5]
    obtain ⟨kv, k1, k2, k3⟩ := hI _ _ _ _ _ u3
    refine ⟨by show i1 + 1 ≤ i + (_ - a); omega, by show a < _; omega, ⟨i1, by omega, by omega, rfl, ?_, fun y => absurd y (hn x1), fun _ => by rw [v4 _ (by omega) (by omega) (by omega)]; exact m1⟩, by rw [v4 _ (by omega) (by omega) (by omega)]; exact m2, by rw [v4 _ (by omega) (by omega) (by omega)]; exact m11⟩
    rw [w4 _ _ (by omega) (by omega) (by omega) (by omega), show G3 16151 (s * 1700 + i1) = e1 by rw [e3, uG_at]]
    exact hT _ _ _ _ _ _ u3 (fun c j y1 y2 y3 y4 _ => by rw [w4 c j y1 (by omega) (by omega) (by omega), e3, uG_ne (by omega)]; exact f2 c j (by unfold XR; omega))
  refine fun _ => ⟨fun y => ?_, fun y => alone (fun e => absurd ((RM_fl hR1).mpr e) y)⟩
  have e := (RM_fl hR1).mp y
  refine rSg (k := 161) hK hR1 e (Or.inl ⟨by unfold sg; omega, rfl⟩) (fun z => fun _ => ⟨fun u => absurd u (by decide), fun _ => ?_⟩) (fun z => fun _ => ⟨fun _ => alone (fun _ => z), fun u => absurd rfl u⟩)
  obtain ⟨u1, u2, u3, u4⟩ := c6 e
  obtain ⟨kv, k1, k2, k3⟩ := hI _ _ _ _ _ u3
  have sp : r0 = pb (pb (ptake (eE a).2) eE) (pneed tk 159) := by rw [← hr0, pb_0 e, if_pos z, pb_pb]
  rw [sp] at hQ
  have tl := ptake_le (a := (eE a).2)
  refine rStep hK hR1 (fun _ => by omega) (fun G2 hR2 f2 => ?_)
  rw [pb_0 e] at hR2
  generalize hb : (eE a).2 = b at *
  refine rNode hK hR2 (by omega) (by omega) (fun G3 n3 hR3 f3 => fun _ => ⟨by omega, by omega, fun G4 e4 => ?_⟩)
  obtain ⟨m0, m1, m2, m3, m4, m5, m6, m7, m8, m9, m10, m11, m12, m13⟩ := n3
  have hR4 : RM B s N d G4 (ptake b) (i1 + 1) := by rw [e4]; exact RM_put hR3 (by omega)
  refine hE G4 _ (i1 + 1) _ hR4 (by omega) (fun e => by have := tl.2.2 e; omega) (fun r5 G5 i5 hR5 hC5 => fun _ => ⟨by omega, by omega, fun G6 e6 => ?_⟩)
  obtain ⟨d1, d2, d3, d4, d5, d6⟩ := hC5
  have hR6 : RM B s N d G6 (pb (ptake b) eE) i5 := by rw [e6]; exact RM_put hR5 (by omega)
  refine rWantSign (k := 159) hK hR6 (Or.inl ⟨by unfold sg; omega, rfl⟩) (fun G7 hR7 f7 => hQ _ G7 i5 hR7 ?_)
  have l7 : (pb (ptake b) eE).2 ≤ (pb (pb (ptake b) eE) (pneed tk 159)).2 := pb_le2 (pneed_l _)
  have w7 : ∀ c j, 16144 ≤ c → c ≤ 16162 → s * 1700 ≤ j → j < s * 1700 + i5 → G7 c j = G6 c j := fun c j y1 y2 y3 y4 => f7 c j (by unfold XR; omega)
  have w5 : ∀ c j, 16144 ≤ c → c ≤ 16162 → s * 1700 ≤ j → j < s * 1700 + i1 + 1 → G5 c j = G4 c j := fun c j y1 y2 y3 y4 => d2 c j (by unfold XR; omega)
  have v7 : ∀ c, 16144 ≤ c → c ≤ 16162 → c ≠ 16151 → c ≠ 16152 → G7 c (s * 1700 + i1) = G3 c (s * 1700 + i1) := fun c x y z1 z2 => by rw [w7 _ _ x y (by omega) (by omega), e6, uG_c z2, w5 _ _ x y (by omega) (by omega), e4, uG_c z1]
  refine ⟨by omega, FR_tr c2 (FR_tr (FR_XR (by omega) f2) (FR_tr (FR_XR (by omega) f3) (FR_tr (by rw [e4]; exact FR_up FR_id (by unfold XR; omega)) (FR_tr (FR_XR (by omega) d2) (FR_tr (by rw [e6]; exact FR_up FR_id (by unfold XR; omega)) (FR_XR (by omega) f7)))))), fun y => absurd rfl y, by show a ≤ _; omega, ?_, fun w => ?_⟩
  · show i5 ≤ i + (_ - a) + 2
    by_cases ee : (ptake b).1 = 0
    · have := tl.2.2 ee
      omega
    · have := d3 ee
      omega
  · obtain ⟨x1, x2⟩ := pb_z w
    obtain ⟨v1, v2, v3, v4⟩ := d6 x1
    have eb := tl.2.2 (pb_z x1).1
    have e8 := ((pneed_le).2.2 x2).1
    have e9 : (pb (pb (ptake b) eE) (pneed tk 159)).2 = (pb (ptake b) eE).2 + 1 := by rw [pb_0 x1, e8]
    rw [eb] at v1 v2 v3
    refine ⟨by show i5 ≤ i + (_ - a); omega, by show a < _; omega, ⟨i1, by omega, by omega, rfl, ?_, fun _ => ⟨by rw [v7 _ (by omega) (by omega) (by omega) (by omega)]; exact m1, ?_⟩, fun y => absurd (by rw [hb]; exact z) y⟩, by rw [v7 _ (by omega) (by omega) (by omega) (by omega)]; exact m2, by rw [v7 _ (by omega) (by omega) (by omega) (by omega)]; exact m11⟩
    · rw [w7 _ _ (by omega) (by omega) (by omega) (by omega), show G6 16151 (s * 1700 + i1) = e1 by rw [e6, uG_c (by omega), w5 _ _ (by omega) (by omega) (by omega) (by omega), e4, uG_at]]
      exact hT _ _ _ _ _ _ u3 (fun c j y1 y2 y3 y4 _ => by rw [w7 c j y1 (by omega) (by omega) (by omega), e6, uG_ne (by omega), w5 c j y1 (by omega) (by omega) (by omega), e4, uG_ne (by omega), f3 c j (by unfold XR; omega), f2 c j (by unfold XR; omega)])
    · rw [w7 _ _ (by omega) (by omega) (by omega) (by omega), show G6 16152 (s * 1700 + i1) = r5 by rw [e6, uG_at], hb]
      exact hT _ _ _ _ _ _ v3 (fun c j y1 y2 y3 y4 _ => by rw [w7 c j y1 (by omega) (by omega) (by omega), e6, uG_ne (by omega)])
end RP15

section RP17
variable {B G G' : gS} {s N d i i' a : Int} {tk cd : Int → Int} {q r : RR} {R : JT} {T S Bk : TT} {eE sS bB : Int → RR}
-- super ( next
theorem rNext {Q : Int → gS → Prop} (hK : TKp B s N tk cd) (h : RM B s N d G (0, a) i) (ht : tk a ≠ 0 ∧ tk a ≠ 1) (h1 : tk (a + 1) = 140 → a < 700 → Q 1 G) (h0 : (tk (a + 1) ≠ 140 ∨ a = 700) → Q 0 G) : PX13_isSignNext 40 G Q := by
  have hs0 := hK.1
  have hs1 := hK.2.1
  have hN := hK.2.2.2.2.1
  have ha0 : 0 ≤ a := h.2.1
  have haN : a < N := h.2.2.1
  have hp : G 16081 22 = a := RM_pp h
  have k7 := hK.2.2.2.2.2.2.2
  have t := TR_k (hK.2.2.2.2.2.1 a ha0 haN)
  unfold PX13_isSignNext PX13_isSignNext_0 PX13_isSignNext_76 PX13_isSignNext_77
  rw [hp]
  refine fun _ => rKind hK h.1 ha0 haN (fun _ => fun _ => ⟨fun z => absurd (t.1.mp z) ht.1, fun _ => ?_⟩)
  rw [hp]
  refine fun _ => rKind hK h.1 ha0 haN (fun _ => fun _ => ⟨fun z => absurd (t.2.1.mp z) ht.2, fun _ => ?_⟩)
  rw [hp]
  refine fun _ => ⟨fun z => fun _ => ⟨by unfold inI; omega, ?_⟩, fun z => ⟨by omega, h0 (Or.inr (by omega))⟩⟩
  have a1 : a + 1 < N := by
    by_cases e : a + 1 < N
    · exact e
    · rw [show N - 1 = a by omega] at k7; omega
  have tb := TR_k (hK.2.2.2.2.2.1 (a + 1) (by omega) a1)
  have z40 := tb.2.2.2.2.2.2.1 40 (by unfold sg; omega)
  refine rKind hK h.1 (by omega) a1 (fun _ => fun _ => ⟨fun y => ?_, fun y => ⟨by omega, h0 (Or.inl (fun u => y (z40.mpr u).1))⟩⟩)
  rw [h.1.1, hp, show s * 702 + a + 1 = s * 702 + (a + 1) by omega, (h.1.2 (a + 1) (by omega) a1).2.2.2]
  exact fun _ _ => ⟨by omega, by omega, fun _ => ⟨fun u => ⟨by omega, h1 (z40.mp ⟨y, u⟩) z⟩, fun u => ⟨by omega, h0 (Or.inl (fun w => u (z40.mpr w).2))⟩⟩⟩
theorem rwhile_ok {Q : Int → gS → Prop} {G0 : gS} (hK : TKp B s N tk cd) (hE : SRe (Rq8 200) B s N d 1 T eE) (hI : RTI s T) (hT : RTF s T) (hel : ∀ b, b ≤ (eE b).2) (hS : SRs R B s N d 2 S sS) (hTS : RTF s S) (h : RM B s N d G (ptake a) i) (f0 : FR (XR s i) G0 G) (ha0 : 0 ≤ a) (h0 : 0 ≤ i) (hi : i ≤ a + 2) (ht : tk a = 30)
    (hQ : ∀ G' i', RM B s N d G' (pb (ptake a) (pworded tk eE sS bB 30)) i' → RFs s G0 G' (0, a) (pb (ptake a) (pworded tk eE sS bB 30)) i i' (rTestT s tk T S eE sS i i' (s * 1700 + i) a G' ∧ G' 16145 (s * 1700 + i) = plR B s a ∧ G' 16154 (s * 1700 + i) = -2) → Q (s * 1700 + i) G') : PX13_node 23 (B 16091 (s * 702 + a)) G (fun r45 G44 => inI r45 → PX13_wantSign 40 G44 (fun _ G47 => Rq8 200 1 [] G47 (fun r50 G49 => inI r50 → ((0 : Int) ≤ r45 ∧ ((r45 : Int) < 30600 ∧ (∀ G54 : gS, G54 = uG G49 16151 r45 (r50) → PX13_wantSign 41 G54 (fun _ G55 => R 2 [] G55 (fun r58 G57 => inI r58 → ((0 : Int) ≤ r45 ∧ ((r45 : Int) < 30600 ∧ (∀ G62 : gS, G62 = uG G57 16152 r45 (r58) → Q (r45) G62))))))))))) := by
  have hs0 := hK.1
  have hs1 := hK.2.1
  have hN := hK.2.2.2.2.1
  have haN := h.2.2.1
  have tl := ptake_le (a := a)
  have sp : pb (ptake a) (pworded tk eE sS bB 30) = pb (pb (pb (pb (ptake a) (pneed tk 140)) eE) (pneed tk 141)) sS := by
    rw [pb_pb, pb_pb, pb_pb]
    congr 1
    funext b
    unfold pworded
    rw [if_pos (Or.inr rfl)]
    have z : ∀ e : Int, ¬ ((30 : Int) = 28 ∧ tk e = 29) := fun e y => absurd y.1 (by decide)
    congr 1
    funext b1
    congr 1
    funext b2
    congr 1
    funext b3
    show (pb (sS b3) fun e => if (30 : Int) = 28 ∧ tk e = 29 then pb (ptake e) sS else (0, e)) = sS b3
    by_cases e : (sS b3).1 = 0
    · rw [pb_0 e, if_neg (z _)]; exact Prod.ext e.symm rfl
    · rw [pb_n e]
  rw [sp] at hQ
  refine rNode hK h h0 (by omega) (fun G2 n2 hR2 f2 => fun _ => ?_)
  obtain ⟨m0, m1, m2, m3, m4, m5, m6, m7, m8, m9, m10, m11, m12, m13⟩ := n2
  refine rTest_ES (a := a) (b := a + 1) (Q := Q) (fun r G' hr => fun _ => ⟨by omega, by omega, hr⟩) hK hE hI hT hel hS hTS hR2 h0 (FR_tr f0 f2) rfl (by omega) (fun e => ⟨tl.2.2 e, by omega⟩) hi (fun G' i' x1 x2 x3 x4 x5 x6 x7 => hQ G' i' x1 ⟨by omega, x3, fun y => absurd rfl y, x4, x5, fun w => ?_⟩)
  obtain ⟨u1, u2, u3, x, u4, u5, u6, u7⟩ := x7 w
  rw [show a + 1 + 1 = a + 2 by omega] at u6 u7
  exact ⟨u1, u2, ⟨rfl, by omega, x, i', u5, Int.le_refl _, u6, u7, fun _ => by rw [x6 _ (by omega) (by omega) (by omega)]; exact m1, fun y => by omega⟩, by rw [x6 _ (by omega) (by omega) (by omega)]; exact m2, by rw [x6 _ (by omega) (by omega) (by omega)]; exact m11⟩
theorem rif_ok {Q : Int → gS → Prop} {G0 : gS} (hK : TKp B s N tk cd) (hE : SRe (Rq8 200) B s N d 1 T eE) (hI : RTI s T) (hT : RTF s T) (hel : ∀ b, b ≤ (eE b).2) (hS : SRs R B s N d 2 S sS) (hTS : RTF s S) (hIS : RTI s S) (h : RM B s N d G (ptake a) i) (f0 : FR (XR s i) G0 G) (ha0 : 0 ≤ a) (h0 : 0 ≤ i) (hi : i ≤ a + 2) (ht : tk a = 28)
    (hQ : ∀ G' i', RM B s N d G' (pb (ptake a) (pworded tk eE sS bB 28)) i' → RFs s G0 G' (0, a) (pb (ptake a) (pworded tk eE sS bB 28)) i i' (rTestT s tk T S eE sS i i' (s * 1700 + i) a G' ∧ G' 16145 (s * 1700 + i) = plR B s a ∧ G' 16154 (s * 1700 + i) = -2) → Q (s * 1700 + i) G') : PX13_node 22 (B 16091 (s * 702 + a)) G (fun r64 G63 => inI r64 → PX13_wantSign 40 G63 (fun _ G66 => Rq8 200 1 [] G66 (fun r69 G68 => inI r69 → ((0 : Int) ≤ r64 ∧ ((r64 : Int) < 30600 ∧ (∀ G73 : gS, G73 = uG G68 16151 r64 (r69) → PX13_wantSign 41 G73 (fun _ G74 => R 2 [] G74 (fun r77 G76 => inI r77 → ((0 : Int) ≤ r64 ∧ ((r64 : Int) < 30600 ∧ (∀ G81 : gS, G81 = uG G76 16152 r64 (r77) → PX13_takesWord 55 G81 (fun r83 G82 => (0 ≤ r83 ∧ r83 ≤ 1) → ((r83 = 0 → PX13_statementWithin_193 R (B 16091 (s * 702 + a)) r64 16153 r64 (-2) G82 Q) ∧ (¬ (r83 = 0) → R 2 [] G82 (fun r87 G86 => inI r87 → PX13_statementWithin_193 R (B 16091 (s * 702 + a)) r64 16153 r64 r87 G86 Q))))))))))))))) := by
  have hs0 := hK.1
  have hs1 := hK.2.1
  have hN := hK.2.2.2.2.1
  have haN := h.2.2.1
  have tl := ptake_le (a := a)
  have sp : pb (ptake a) (pworded tk eE sS bB 28) = pb (pb (pb (pb (pb (ptake a) (pneed tk 140)) eE) (pneed tk 141)) sS) fun e => if tk e = 29 then pb (ptake e) sS else (0, e) := by
    rw [pb_pb, pb_pb, pb_pb, pb_pb]
    congr 1
    funext b
    unfold pworded
    rw [if_pos (Or.inl rfl)]
    congr 1
    funext b1
    congr 1
    funext b2
    congr 1
    funext b3
    congr 1
    funext b4
    by_cases z : tk b4 = 29
    · rw [if_pos z, if_pos ⟨rfl, z⟩]
    · rw [if_neg z, if_neg (fun y => z y.2)]
  rw [sp] at hQ
  clear sp
  refine rNode hK h h0 (by omega) (fun G2 n2 hR2 f2 => fun _ => ?_)
  obtain ⟨m0, m1, m2, m3, m4, m5, m6, m7, m8, m9, m10, m11, m12, m13⟩ := n2
  refine rTest_ES (a := a) (b := a + 1) (Q := fun v G81 => PX13_takesWord 55 G81 (fun r83 G82 => (0 ≤ r83 ∧ r83 ≤ 1) → ((r83 = 0 → PX13_statementWithin_193 R (B 16091 (s * 702 + a)) v 16153 v (-2) G82 Q) ∧ (¬ (r83 = 0) → R 2 [] G82 (fun r87 G86 => inI r87 → PX13_statementWithin_193 R (B 16091 (s * 702 + a)) v 16153 v r87 G86 Q))))) (fun r G' hr => fun _ => ⟨by omega, by omega, hr⟩) hK hE hI hT hel hS hTS hR2 h0 (FR_tr f0 f2) rfl (by omega) (fun e => ⟨tl.2.2 e, by omega⟩) hi (fun G3 i3 x1 x2 x3 x4 x5 x6 x7 => ?_)
  generalize hq3 : pb (pb (pb (pb (ptake a) (pneed tk 140)) eE) (pneed tk 141)) sS = q3 at *
  rw [show a + 1 + 1 = a + 2 by omega] at x7
  have q3N := x1.2.2.1
  refine rTakes hK x1 wo55 (fun e z G4 hR4 f4 => fun _ => ⟨fun y => absurd y (by decide), fun _ => ?_⟩) (fun z => fun _ => ⟨fun _ => ?_, fun y => absurd rfl y⟩)
  · -- else
    obtain ⟨u1, u2, u3, x, u4, u5, u6, u7⟩ := x7 e
    have sp : (pb q3 fun e => if tk e = 29 then pb (ptake e) sS else (0, e)) = pb (ptake q3.2) sS := by rw [pb_0 e, if_pos z]
    rw [sp] at hQ
    rw [pb_0 e] at hR4
    have tl3 := ptake_le (a := q3.2)
    refine hS G4 _ i3 _ hR4 (by omega) (fun e => by have := tl3.2.2 e; omega) (fun r5 G5 i5 hR5 hC => fun _ => ?_)
    obtain ⟨c1, c2, c3, c4, c5, c6⟩ := hC
    unfold PX13_statementWithin_193
    refine ⟨30600, aC16153, by omega, by omega, fun G6 e6 => hQ G6 i5 (by rw [e6]; exact RM_put hR5 (by omega)) ?_⟩
    have w6 : ∀ c j, ¬ (c = 16153 ∧ j = s * 1700 + i) → G6 c j = G5 c j := fun c j x => by rw [e6, uG_ne (by omega)]
    have w5 : ∀ c j, 16144 ≤ c → c ≤ 16162 → s * 1700 ≤ j → j < s * 1700 + i3 → G5 c j = G3 c j := fun c j y1 y2 y3 y4 => by rw [c2 c j (by unfold XR; omega), f4 c j (by unfold XR; omega)]
    have v6 : ∀ c, 16144 ≤ c → c ≤ 16162 → c ≠ 16151 → c ≠ 16152 → c ≠ 16153 → G6 c (s * 1700 + i) = G2 c (s * 1700 + i) := fun c y0 y0' y1 y2 y3 => by rw [w6 _ _ (by omega), w5 _ _ y0 y0' (by omega) (by omega), x6 c y0 y1 y2]
    refine ⟨by omega, FR_tr x3 (FR_tr (FR_XR (by omega) f4) (FR_tr (FR_XR (by omega) c2) (by rw [e6]; exact FR_up FR_id (by unfold XR; omega)))), fun y => absurd rfl y, by show a ≤ _; omega, ?_, fun w => ?_⟩
    · show i5 ≤ i + (_ - a) + 2
      omega
    · obtain ⟨p1, p2, p3, p4⟩ := c6 w
      have et := tl3.2.2 (pb_z w).1
      have eT : eTest eE sS a = q3.2 := by unfold eTest; exact u3.symm
      refine ⟨by show i5 ≤ i + (_ - a); omega, by show a < _; omega, ⟨rfl, by omega, x, i3, u5, c1, ?_, ?_, fun y => by omega, fun _ => ⟨by rw [v6 _ (by omega) (by omega) (by omega) (by omega) (by omega)]; exact m1, fun _ => ?_, fun y => absurd (by rw [eT]; exact z) y⟩⟩, by rw [v6 _ (by omega) (by omega) (by omega) (by omega) (by omega)]; exact m2, by rw [v6 _ (by omega) (by omega) (by omega) (by omega) (by omega)]; exact m11⟩
      · rw [w6 _ _ (by omega), w5 _ _ (by omega) (by omega) (by omega) (by omega)]
        exact hT _ _ _ _ _ _ u6 (fun c j y1 y2 y3 y4 _ => by rw [w6 c j (by omega), w5 c j y1 (by omega) (by omega) (by omega)])
      · rw [w6 _ _ (by omega), w5 _ _ (by omega) (by omega) (by omega) (by omega)]
        exact hTS _ _ _ _ _ _ u7 (fun c j y1 y2 y3 y4 _ => by rw [w6 c j (by omega), w5 c j y1 (by omega) (by omega) (by omega)])
      · rw [show G6 16153 (s * 1700 + i) = r5 by rw [e6, uG_at], eT]
        rw [et] at p3
        exact hTS _ _ _ _ _ _ p3 (fun c j y1 y2 y3 y4 _ => by rw [w6 c j (by omega)])
  · have sp : (pb q3 fun e => if tk e = 29 then pb (ptake e) sS else (0, e)) = q3 := by
      by_cases e : q3.1 = 0
      · rw [pb_0 e, if_neg (z e)]; exact Prod.ext e.symm rfl
      · rw [pb_n e]
    rw [sp] at hQ
    unfold PX13_statementWithin_193
    refine ⟨30600, aC16153, by omega, by omega, fun G6 e6 => hQ G6 i3 (by rw [e6]; exact RM_put x1 (by omega)) ?_⟩
    have w6 : ∀ c j, ¬ (c = 16153 ∧ j = s * 1700 + i) → G6 c j = G3 c j := fun c j x => by rw [e6, uG_ne (by omega)]
    refine ⟨by omega, FR_tr x3 (by rw [e6]; exact FR_up FR_id (by unfold XR; omega)), fun y => absurd rfl y, x4, x5, fun w => ?_⟩
    obtain ⟨u1, u2, u3, x, u4, u5, u6, u7⟩ := x7 w
    have eT : eTest eE sS a = q3.2 := by unfold eTest; exact u3.symm
    refine ⟨u1, u2, ⟨rfl, by omega, x, i3, u5, Int.le_refl _, ?_, ?_, fun y => by omega, fun _ => ⟨by rw [w6 _ _ (by omega), x6 _ (by omega) (by omega) (by omega)]; exact m1, fun y => absurd (by rw [← eT]; exact y) (z w), fun _ => by rw [e6, uG_at]⟩⟩, by rw [w6 _ _ (by omega), x6 _ (by omega) (by omega) (by omega)]; exact m2, by rw [w6 _ _ (by omega), x6 _ (by omega) (by omega) (by omega)]; exact m11⟩
    · rw [w6 _ _ (by omega)]
      exact hT _ _ _ _ _ _ u6 (fun c j y1 y2 y3 y4 _ => by rw [w6 c j (by omega)])
    · rw [w6 _ _ (by omega)]
      exact hTS _ _ _ _ _ _ u7 (fun c j y1 y2 y3 y4 _ => by rw [w6 c j (by omega)])
theorem rret_ok {Q : Int → gS → Prop} {G0 : gS} (hK : TKp B s N tk cd) (hE : SRe (Rq8 200) B s N d 1 T eE) (hT : RTF s T) (hel : ∀ b, b ≤ (eE b).2) (h : RM B s N d G (ptake a) i) (f0 : FR (XR s i) G0 G) (ha0 : 0 ≤ a) (h0 : 0 ≤ i) (hi : i ≤ a + 2)
    (hQ : ∀ G' i', RM B s N d G' (pb (ptake a) (pworded tk eE sS bB 31)) i' → RFs s G0 G' (0, a) (pb (ptake a) (pworded tk eE sS bB 31)) i i' (rRetT s tk T i i' (s * 1700 + i) a G' ∧ G' 16145 (s * 1700 + i) = plR B s a ∧ G' 16154 (s * 1700 + i) = -2) → Q (s * 1700 + i) G') : PX13_node 24 (B 16091 (s * 702 + a)) G (fun r36 G35 => inI r36 → (inI (G35 16081 20) → ((G35 16081 20 = 0 → PX13_isSign 59 G35 (fun r41 G40 => (0 ≤ r41 ∧ r41 ≤ 1) → ((r41 = 0 → PX13_statementWithin_292 R (B 16091 (s * 702 + a)) r36 16151 r36 G40 Q) ∧ (¬ (r41 = 0) → PX13_statementWithin_296 R (B 16091 (s * 702 + a)) r36 16151 r36 (-2) G40 Q)))) ∧ (¬ (G35 16081 20 = 0) → PX13_statementWithin_292 R (B 16091 (s * 702 + a)) r36 16151 r36 G35 Q)))) := by
  have hs0 := hK.1
  have hs1 := hK.2.1
  have hN := hK.2.2.2.2.1
  have haN := h.2.2.1
  have tl := ptake_le (a := a)
  have spec : pb (ptake a) (pworded tk eE sS bB 31) = pb (ptake a) fun b => if tk b = 159 then ptake b else pb (eE b) (pneed tk 159) := by
    congr 1
    funext b
    unfold pworded
    rw [if_neg (by decide), if_neg (by decide), if_neg (by decide)]
    by_cases z : tk b = 159
    · rw [if_pos ⟨rfl, z⟩, if_pos z]
    · rw [if_neg (fun y => z y.2), if_neg z]
  rw [spec] at hQ
  clear spec
  refine rNode hK h h0 (by omega) (fun G2 n2 hR2 f2 => fun _ => ?_)
  obtain ⟨m0, m1, m2, m3, m4, m5, m6, m7, m8, m9, m10, m11, m12, m13⟩ := n2
  have withE : ((ptake a).1 = 0 → tk (a + 1) ≠ 159) → PX13_statementWithin_292 R (B 16091 (s * 702 + a)) (s * 1700 + i) 16151 (s * 1700 + i) G2 Q := fun hn => by
    have sp : (pb (ptake a) fun b => if tk b = 159 then ptake b else pb (eE b) (pneed tk 159)) = pb (pb (ptake a) eE) (pneed tk 159) := by
      rw [pb_pb]
      by_cases e : (ptake a).1 = 0
      · rw [pb_0 e, pb_0 e, tl.2.2 e, if_neg (hn e)]
      · rw [pb_n e, pb_n e]
    rw [sp] at hQ
    unfold PX13_statementWithin_292
    refine rE_semi (a := a) (Q := Q) (fun r G1 hr => fun _ => ?_) hK hE hT hel hR2 h0 (FR_tr f0 f2) rfl (by omega) (fun e => by have := tl.2.2 e; omega) hi (fun G' i' x1 x2 x3 x4 x5 x6 x7 => hQ G' i' x1 ⟨by omega, x3, fun y => absurd rfl y, x4, x5, fun w => ?_⟩)
    · unfold PX13_statementWithin_296
      exact ⟨30600, aC16151, by omega, by omega, hr⟩
    · obtain ⟨w1, w2, w3⟩ := x7 w
      have e1 := (pb_z (pb_z w).1).1
      rw [tl.2.2 e1] at w3
      exact ⟨w1, w2, ⟨rfl, by omega, by rw [x6 _ (by omega) (by omega)]; exact m1, fun y => absurd y (hn e1), fun _ => w3⟩, by rw [x6 _ (by omega) (by omega)]; exact m2, by rw [x6 _ (by omega) (by omega)]; exact m11⟩
  refine fun _ => ⟨fun y => ?_, fun y => withE (fun e => absurd ((RM_fl hR2).mpr e) y)⟩
  have e := (RM_fl hR2).mp y
  have e1 := tl.2.2 e
  refine rSg (k := 159) hK hR2 e (Or.inl ⟨by unfold sg; omega, rfl⟩) (fun z => fun _ => ⟨fun u => absurd u (by decide), fun _ => ?_⟩) (fun z => fun _ => ⟨fun _ => withE (fun _ => by rw [← e1]; exact z), fun u => absurd rfl u⟩)
  rw [e1] at z
  have sp : (pb (ptake a) fun b => if tk b = 159 then ptake b else pb (eE b) (pneed tk 159)) = ptake (a + 1) := by rw [pb_0 e, e1, if_pos z]
  rw [sp] at hQ
  have tl2 := ptake_le (a := a + 1)
  unfold PX13_statementWithin_296
  refine ⟨30600, aC16151, by omega, by omega, fun G3 e3 => ?_⟩
  have hR3 : RM B s N d G3 (ptake a) (i + 1) := by rw [e3]; exact RM_put hR2 (by omega)
  refine rWantSign (k := 159) hK hR3 (Or.inl ⟨by unfold sg; omega, rfl⟩) (fun G4 hR4 f4 => ?_)
  have pn : pb (ptake a) (pneed tk 159) = ptake (a + 1) := by
    rw [pb_0 e, e1]
    exact if_pos z
  rw [pn] at hR4
  have v4 : ∀ c, 16144 ≤ c → c ≠ 16151 → G4 c (s * 1700 + i) = G2 c (s * 1700 + i) := fun c x y => by rw [XR_n f4 (by omega) x, e3, uG_c y]
  refine hQ G4 (i + 1) hR4 ⟨by omega, FR_tr f0 (FR_tr f2 (FR_tr (by rw [e3]; exact FR_up FR_id (by unfold XR; omega)) (FR_XR (by omega) f4))), fun y => absurd rfl y, by show a ≤ _; omega, by show i + 1 ≤ i + (_ - a) + 2; omega, fun w => ?_⟩
  have e2 := tl2.2.2 w
  exact ⟨by show i + 1 ≤ i + (_ - a); omega, by show a < _; omega, ⟨rfl, by omega, by rw [v4 _ (by omega) (by omega)]; exact m1, fun _ => by rw [XR_n f4 (by omega) (by omega), e3, uG_at], fun y => absurd z y⟩, by rw [v4 _ (by omega) (by omega)]; exact m2, by rw [v4 _ (by omega) (by omega)]; exact m11⟩
theorem rthr_ok {Q : Int → gS → Prop} {k : Int} (hK : TKp B s N tk cd) (hE : SRe (Rq8 200) B s N d 1 T eE) (hT : RTF s T) (hel : ∀ b, b ≤ (eE b).2) (h : RM B s N d G (0, a) i) (h0 : 0 ≤ i) (hi : i ≤ a + 2) (ht : tk a = 32 ∨ tk a = 35) (hk : k = (if tk a = 32 then 25 else 27))
    (hQ : ∀ G' i', RM B s N d G' (pb (ptake a) (pworded tk eE sS bB (tk a))) i' → RFs s G G' (0, a) (pb (ptake a) (pworded tk eE sS bB (tk a))) i i' (rThrT s tk T i i' (s * 1700 + i) a G' ∧ G' 16145 (s * 1700 + i) = plR B s a ∧ G' 16154 (s * 1700 + i) = -2) → Q (s * 1700 + i) G') : PX13_statementWithin_350 R (B 16091 (s * 702 + a)) 16081 k G Q := by
  have hs0 := hK.1
  have hs1 := hK.2.1
  have hN := hK.2.2.2.2.1
  have ha0 : 0 ≤ a := h.2.1
  have haN : a < N := h.2.2.1
  have tl := ptake_le (a := a)
  have spec : pb (ptake a) (pworded tk eE sS bB (tk a)) = pb (pb (ptake a) eE) (pneed tk 159) := by
    rw [pb_pb]
    congr 1
    funext b
    unfold pworded
    rw [if_neg (by omega), if_neg (by omega), if_neg (by omega), if_neg (by omega)]
  rw [spec] at hQ
  clear spec
  unfold PX13_statementWithin_350
  refine ⟨oC13, rNode hK h h0 (by omega) (fun G2 n2 hR2 f2 => fun _ => rStep hK hR2 (fun _ => by show tk a ≠ 0 ∧ tk a ≠ 1; omega) (fun G3 hR3 f3 => ?_))⟩
  obtain ⟨m0, m1, m2, m3, m4, m5, m6, m7, m8, m9, m10, m11, m12, m13⟩ := n2
  change RM B s N d G3 (ptake a) (i + 1) at hR3
  have v3 : ∀ c, 16144 ≤ c → G3 c (s * 1700 + i) = G2 c (s * 1700 + i) := fun c x => XR_n f3 (by omega) x
  refine rE_semi (a := a) (Q := Q) (fun r G1 hr => fun _ => ⟨by omega, by omega, hr⟩) hK hE hT hel hR3 h0 (FR_tr f2 (FR_XR (by omega) f3)) rfl (by omega) (fun e => by have := tl.2.2 e; omega) hi (fun G' i' x1 x2 x3 x4 x5 x6 x7 => hQ G' i' x1 ⟨by omega, x3, fun y => absurd rfl y, x4, x5, fun w => ?_⟩)
  obtain ⟨w1, w2, w3⟩ := x7 w
  rw [tl.2.2 (pb_z (pb_z w).1).1] at w3
  exact ⟨w1, w2, ⟨rfl, by omega, by rw [x6 _ (by omega) (by omega), v3 _ (by omega), ← hk]; exact m1, w3⟩, by rw [x6 _ (by omega) (by omega), v3 _ (by omega)]; exact m2, by rw [x6 _ (by omega) (by omega), v3 _ (by omega)]; exact m11⟩
theorem rwithin_ok {Q : Int → gS → Prop} (hK : TKp B s N tk cd) (hE : SRe (Rq8 200) B s N d 1 T eE) (hA : SRa (Rq8 200) B s N d tk T eE) (hI : RTI s T) (hT : RTF s T) (hel : ∀ b, b ≤ (eE b).2) (h7 : bE tk 700 = true → eE 700 = (3, 700)) (hS : SRs R B s N d 2 S sS) (hIS : RTI s S) (hTS : RTF s S)
    (hB0 : ∀ (G : gS) (a i : Int) (Q : Int → gS → Prop), RM B s N d G (0, a) i → 0 ≤ i → i ≤ a + 2 → tk a = 223 → (∀ v G' i', RM B s N d G' (pblock tk sS a) i' → RFs s G G' (0, a) (pblock tk sS a) i i' (rBlockT s tk S sS i i' v a G' ∧ G' 16145 v = plR B s a ∧ G' 16154 v = -2) → Q v G') → R 0 [B 16091 (s * 702 + a)] G Q)
    (hT4 : ∀ (G0 G : gS) (a i : Int) (Q : Int → gS → Prop), RM B s N d G (ptake a) i → FR (XR s i) G0 G → 0 ≤ a → 0 ≤ i → i ≤ a + 2 → (∀ G' i', RM B s N d G' (pb (ptake a) (pworded tk eE sS bB 33)) i' → RFs s G0 G' (0, a) (pb (ptake a) (pworded tk eE sS bB 33)) i i' (rTryT B s Bk bB i i' (s * 1700 + i) a G' ∧ G' 16145 (s * 1700 + i) = plR B s a ∧ G' 16154 (s * 1700 + i) = -2) → Q (s * 1700 + i) G') → R 4 [B 16091 (s * 702 + a)] G Q)
    (h : RM B s N d G (0, a) i) (h0 : 0 ≤ i) (hi : i ≤ a + 2) (hb : bS tk a = true) (hQ : ∀ v G' i', RM B s N d G' (pstat tk eE sS bB (pblock tk sS) a) i' → RFs s G G' (0, a) (pstat tk eE sS bB (pblock tk sS) a) i i' (rStatT B s tk T S Bk eE sS bB i i' v a G' ∧ G' 16154 v = -2) → Q v G') : PX13_statementWithin R G Q := by
  have hs0 := hK.1
  have hs1 := hK.2.1
  have hN := hK.2.2.2.2.1
  have ha0 : 0 ≤ a := h.2.1
  have haN : a < N := h.2.2.1
  have hp : G 16081 22 = a := RM_p h rfl
  have tl := ptake_le (a := a)
  have bt := (bS_t a).mp hb
  have spec : pstat tk eE sS bB (pblock tk sS) a = (if tk a = 223 then pblock tk sS a else if tk a = 38 ∧ tk (a + 1) = 140 then pb (ptake a) fun b => pb (pargs tk eE b) (pneed tk 159) else if bE tk a then pb (eE a) fun b => if tk b = 161 then pb (ptake b) fun c => pb (eE c) (pneed tk 159) else pneed tk 159 b else pb (ptake a) (pworded tk eE sS bB (tk a))) := if_pos hb
  generalize hr0 : pstat tk eE sS bB (pblock tk sS) a = r0 at *
  have o1 : ¬ ((1 : Int) = 0) := by decide
  have nE : ¬ (tk a = 4 ∨ tk a = 3 ∨ tk a = 2 ∨ tk a = 36 ∨ tk a = 37 ∨ tk a = 38 ∨ tk a = 25 ∨ tk a = 140) → bE tk a = false := fun z => by
    rw [Bool.eq_false_iff]
    exact fun y => z ((bE_t a).mp y)
  have nsup : tk a ≠ 38 → ¬ isSup tk a := fun z y => z y.1
  -- what begins with a word
  have word : tk a ≠ 223 → bE tk a = false → r0 = pb (ptake a) (pworded tk eE sS bB (tk a)) := fun z1 z2 => by
    rw [spec, if_neg z1, if_neg (fun y => by rw [(bE_t a).mpr (by omega)] at z2; exact absurd z2 (by decide)), if_neg (by rw [z2]; decide)]
  have stat : ∀ i' v G', (tk a ≠ 223) → (bE tk a = false) → G' 16145 v = plR B s a → (tk a = 27 → rLetT B s tk T i i' v a G') → (tk a = 28 ∨ tk a = 30 → rTestT s tk T S eE sS i i' v a G') → (tk a = 31 → rRetT s tk T i i' v a G') → (tk a = 32 ∨ tk a = 35 → rThrT s tk T i i' v a G') → (tk a = 33 → rTryT B s Bk bB i i' v a G') → rStatT B s tk T S Bk eE sS bB i i' v a G' := fun i' v G' z1 z2 x0 x1 x2 x3 x4 x5 => ⟨hb, x0, fun y => absurd y z1, fun y => absurd ((bE_t (tk := tk) a).mpr (by unfold isSup at y; omega)) (by rw [z2]; decide), fun _ y => by rw [z2] at y; exact absurd y (by decide), x1, x2, x3, x4, x5⟩
  unfold PX13_statementWithin PX13_statementWithin_0
  rw [hp]
  refine fun _ => rPlace hK h.1 ha0 haN (fun _ => ?_)
  refine rSg (k := 223) hK h rfl (Or.inl ⟨by unfold sg; omega, rfl⟩) (fun z => fun _ => ⟨fun u => absurd u o1, fun _ => ?_⟩) (fun z223 => fun _ => ⟨fun _ => ?_, fun u => absurd rfl u⟩)
  · change tk a = 223 at z
    rw [if_pos z] at spec
    refine hB0 G a i _ h h0 hi z (fun v G1 i1 hR1 hC => fun _ => hQ v G1 i1 (by rw [spec]; exact hR1) ?_)
    rw [spec]
    obtain ⟨c1, c2, c3, c4, c5, c6⟩ := hC
    refine ⟨c1, c2, c3, c4, c5, fun w => ⟨(c6 w).1, (c6 w).2.1, ⟨hb, (c6 w).2.2.2.1, fun _ => (c6 w).2.2.1, fun y => by unfold isSup at y; omega, fun _ y => ?_, fun y => by omega, fun y => by omega, fun y => by omega, fun y => by omega, fun y => by omega⟩, (c6 w).2.2.2.2⟩⟩
    rw [nE (by omega)] at y; exact absurd y (by decide)
  change tk a ≠ 223 at z223
  refine rTakes hK h wo48 (fun _ z G1 hR1 f1 => fun _ => ⟨fun y => absurd y o1, fun _ => ?_⟩) (fun z27 => fun _ => ⟨fun _ => ?_, fun y => absurd rfl y⟩)
  · change tk a = 27 at z
    change RM B s N d G1 (ptake a) i at hR1
    have e := nE (by omega)
    have sp := word z223 e
    rw [z] at sp
    refine rlet_ok (sS := sS) (bB := bB) hK hE hT hel hR1 f1 ha0 h0 hi (fun G' i' x1 x2 => hQ _ G' i' (by rw [sp]; exact x1) ?_)
    rw [sp]
    obtain ⟨c1, c2, c3, c4, c5, c6⟩ := x2
    exact ⟨c1, c2, c3, c4, c5, fun w => ⟨(c6 w).1, (c6 w).2.1, stat _ _ _ z223 e (c6 w).2.2.2.1 (fun _ => (c6 w).2.2.1) (fun y => by omega) (fun y => by omega) (fun y => by omega) (fun y => by omega), (c6 w).2.2.2.2⟩⟩
  have n27 : tk a ≠ 27 := z27 rfl
  have wrap : ∀ (w : Int), tk a = w → bE tk a = false → ∀ (P : Int → gS → Prop) v G' i', (P v G' → G' 16145 v = plR B s a → rStatT B s tk T S Bk eE sS bB i i' v a G') → RM B s N d G' (pb (ptake a) (pworded tk eE sS bB w)) i' → RFs s G G' (0, a) (pb (ptake a) (pworded tk eE sS bB w)) i i' (P v G' ∧ G' 16145 v = plR B s a ∧ G' 16154 v = -2) → Q v G' := fun w hw e P v G' i' hP x1 x2 => by
    have sp := word z223 e
    rw [hw] at sp
    refine hQ v G' i' (by rw [sp]; exact x1) ?_
    rw [sp]
    obtain ⟨c1, c2, c3, c4, c5, c6⟩ := x2
    exact ⟨c1, c2, c3, c4, c5, fun u => ⟨(c6 u).1, (c6 u).2.1, hP (c6 u).2.2.1 (c6 u).2.2.2.1, (c6 u).2.2.2.2⟩⟩
  refine rTakes hK h wo49 (fun _ z G1 hR1 f1 => fun _ => ⟨fun y => absurd y o1, fun _ => ?_⟩) (fun z28 => fun _ => ⟨fun _ => ?_, fun y => absurd rfl y⟩)
  · change tk a = 28 at z
    have e := nE (by omega)
    exact rif_ok (bB := bB) hK hE hI hT hel hS hTS hIS hR1 f1 ha0 h0 hi z (fun G' i' x1 x2 => wrap 28 z e (fun v G' => rTestT s tk T S eE sS i i' v a G') _ G' i' (fun p1 p2 => stat _ _ _ z223 e p2 (fun y => by omega) (fun _ => p1) (fun y => by omega) (fun y => by omega) (fun y => by omega)) x1 x2)
  refine rTakes hK h wo50 (fun _ z G1 hR1 f1 => fun _ => ⟨fun y => absurd y o1, fun _ => ?_⟩) (fun z30 => fun _ => ⟨fun _ => ?_, fun y => absurd rfl y⟩)
  · change tk a = 30 at z
    have e := nE (by omega)
    exact rwhile_ok (bB := bB) hK hE hI hT hel hS hTS hR1 f1 ha0 h0 hi z (fun G' i' x1 x2 => wrap 30 z e (fun v G' => rTestT s tk T S eE sS i i' v a G') _ G' i' (fun p1 p2 => stat _ _ _ z223 e p2 (fun y => by omega) (fun _ => p1) (fun y => by omega) (fun y => by omega) (fun y => by omega)) x1 x2)
  refine rTakes hK h wo51 (fun _ z G1 hR1 f1 => fun _ => ⟨fun y => absurd y o1, fun _ => ?_⟩) (fun z31 => fun _ => ⟨fun _ => ?_, fun y => absurd rfl y⟩)
  · change tk a = 31 at z
    have e := nE (by omega)
    exact rret_ok (sS := sS) (bB := bB) hK hE hT hel hR1 f1 ha0 h0 hi (fun G' i' x1 x2 => wrap 31 z e (fun v G' => rRetT s tk T i i' v a G') _ G' i' (fun p1 p2 => stat _ _ _ z223 e p2 (fun y => by omega) (fun y => by omega) (fun _ => p1) (fun y => by omega) (fun y => by omega)) x1 x2)
  have thr : (tk a = 32 ∨ tk a = 35) → PX13_statementWithin_332 R (B 16091 (s * 702 + a)) G Q := fun z => by
    have e := nE (by omega)
    have go : ∀ k, k = (if tk a = 32 then 25 else 27) → PX13_statementWithin_350 R (B 16091 (s * 702 + a)) 16081 k G Q := fun k hk => rthr_ok (sS := sS) (bB := bB) hK hE hT hel h h0 hi z hk (fun G' i' x1 x2 => wrap (tk a) rfl e (fun v G' => rThrT s tk T i i' v a G') _ G' i' (fun p1 p2 => stat _ _ _ z223 e p2 (fun y => by omega) (fun y => by omega) (fun y => by omega) (fun _ => p1) (fun y => by omega)) x1 x2)
    unfold PX13_statementWithin_332
    exact rWd hK h rfl wo52 (fun y => fun _ => ⟨fun u => absurd u o1, fun _ => go 25 (by rw [if_pos (show tk a = 32 from y)])⟩) (fun y => fun _ => ⟨fun _ => go 27 (by rw [if_neg (show ¬ tk a = 32 from y)]), fun u => absurd rfl u⟩)
  refine fun _ => ⟨fun _ => rWd hK h rfl wo52 (fun y => fun _ => ⟨fun u => absurd u o1, fun _ => thr (Or.inl y)⟩) (fun y32 => fun _ => ⟨fun _ => rWd hK h rfl wo54 (fun y => fun _ => ⟨fun u => absurd u o1, fun _ => thr (Or.inr y)⟩) (fun y35 => fun _ => ⟨fun _ => ?_, fun u => absurd rfl u⟩), fun u => absurd rfl u⟩), fun u => absurd ((RM_fl h).mpr rfl) u⟩
  change tk a ≠ 32 at y32
  change tk a ≠ 35 at y35
  unfold PX13_statementWithin_377
  refine rTakes hK h wo53 (fun _ z G1 hR1 f1 => fun _ => ⟨fun y => absurd y o1, fun _ => ?_⟩) (fun z33 => fun _ => ⟨fun _ => ?_, fun y => absurd rfl y⟩)
  · change tk a = 33 at z
    have e := nE (by omega)
    exact hT4 G G1 a i _ hR1 f1 ha0 h0 hi (fun G' i' x1 x2 => fun _ => wrap 33 z e (fun v G' => rTryT B s Bk bB i i' v a G') _ G' i' (fun p1 p2 => stat _ _ _ z223 e p2 (fun y => by omega) (fun y => by omega) (fun y => by omega) (fun y => by omega) (fun _ => p1)) x1 x2)
  have n28 : tk a ≠ 28 := z28 rfl
  have n30 : tk a ≠ 30 := z30 rfl
  have n31 : tk a ≠ 31 := z31 rfl
  have n33 : tk a ≠ 33 := z33 rfl
  have hbE : bE tk a = true := by
    rcases bt with u | u
    · exact u
    · omega
  have sim : (¬ isSup tk a ∨ a = 700) → PX13_statementWithin_449 R (B 16091 (s * 702 + a)) G Q := fun hz => by
    have sp : r0 = pb (eE a) fun b => if tk b = 161 then pb (ptake b) fun c => pb (eE c) (pneed tk 159) else pneed tk 159 b := by
      rw [spec, if_neg z223]
      by_cases y : tk a = 38 ∧ tk (a + 1) = 140
      · have a7 : a = 700 := by
          rcases hz with u | u
          · exact absurd y u
          · exact u
        have t7 : ptake 700 = (3, 700) := if_pos (by omega)
        rw [if_pos y, a7, t7, h7 (by rw [← a7]; exact hbE)]; rfl
      · rw [if_neg y, if_pos hbE]
    rw [sp] at hQ
    refine rsim_ok hK hE hI hT hel h h0 hi (fun v G' i' x1 x2 => hQ v G' i' x1 ?_)
    obtain ⟨c1, c2, c3, c4, c5, c6⟩ := x2
    refine ⟨c1, c2, c3, c4, c5, fun w => ⟨(c6 w).1, (c6 w).2.1, ⟨hb, (c6 w).2.2.2.1, fun y => absurd y z223, fun y => ?_, fun _ _ => (c6 w).2.2.1, fun y => by omega, fun y => by omega, fun y => by omega, fun y => by omega, fun y => by omega⟩, (c6 w).2.2.2.2⟩⟩
    have a7 : a = 700 := by
      rcases hz with u | u
      · exact absurd y u
      · exact u
    have := (pb_z w).1
    rw [a7, h7 (by rw [← a7]; exact hbE)] at this
    exact absurd this (by show (3 : Int) ≠ 0; decide)
  refine fun _ => ⟨fun _ => rWd hK h rfl wo47 (fun y => fun _ => ⟨fun u => absurd u o1, fun _ => ?_⟩) (fun y => fun _ => ⟨fun _ => sim (Or.inl (fun u => y u.1)), fun u => absurd rfl u⟩), fun u => absurd ((RM_fl h).mpr rfl) u⟩
  change tk a = 38 at y
  refine rNext hK h (by omega) (fun y1 y2 => fun _ => ⟨fun u => absurd u o1, fun _ => ?_⟩) (fun y1 => fun _ => ⟨fun _ => sim (y1.imp (fun u v => u v.2) id), fun u => absurd rfl u⟩)
  have sp : r0 = pb (ptake a) fun b => pb (pargs tk eE b) (pneed tk 159) := by rw [spec, if_neg z223, if_pos ⟨y, y1⟩]
  rw [sp] at hQ
  refine rsup_ok hK hA hI hT h h0 hi y (fun G' i' x1 x2 => hQ _ G' i' x1 ?_)
  obtain ⟨c1, c2, c3, c4, c5, c6⟩ := x2
  exact ⟨c1, c2, c3, c4, c5, fun w => ⟨(c6 w).1, (c6 w).2.1, ⟨hb, (c6 w).2.2.2.1, fun u => absurd u z223, fun _ => (c6 w).2.2.1, fun u => absurd ⟨y, y1⟩ u, fun u => by omega, fun u => by omega, fun u => by omega, fun u => by omega, fun u => by omega⟩, (c6 w).2.2.2.2⟩⟩
end RP17

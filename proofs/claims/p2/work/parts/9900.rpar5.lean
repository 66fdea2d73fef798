section RP5
variable {B G G' : gS} {s N d i i' a : Int} {tk cd : Int → Int} {q r : RR} {R : JT} {T C : TT} {eE cU : Int → RR}
-- a call's NAME and ARGS behind a node: what is read behind q
theorem pb_le2 {f : Int → RR} (hf : ∀ b, b ≤ (f b).2) : q.2 ≤ (pb q f).2 := by
  by_cases e : q.1 = 0
  · rw [pb_0 e]; exact hf _
  · rw [pb_n e]; exact Int.le_refl _
theorem pneed_l (w : Int) : ∀ b, b ≤ (pneed tk w b).2 := fun _ => (pneed_le).1
theorem ptake_l : ∀ b, b ≤ (ptake b).2 := fun _ => (ptake_le).1
/-- from q (behind a token of a at least) a node n made last: its ARGS; then what its cells are -/
theorem rcall_end {G0 : gS} {Q Kt : Int → gS → Prop} {v : Int} (hKt : ∀ r G', (∀ G9 : gS, G9 = uG G' 16152 v r → Q v G9) → Kt r G') (hK : TKp B s N tk cd) (hA : SRa R B s N d tk T eE) (h : RM B s N d G q (i + 1)) (h0 : 0 ≤ i) (f0 : FR (XR s i) G0 G) (hv : v = s * 1700 + i) (hq : a ≤ q.2) (hq2 : q.1 = 0 → a < q.2) (hi : i ≤ a + 2) (g54 : G 16154 v = -2)
    (hQ : ∀ G' i', RM B s N d G' (pb q (pargs tk eE)) i' → i + 1 ≤ i' → FR (XR s i) G0 G' → a ≤ (pb q (pargs tk eE)).2 → i' ≤ i + ((pb q (pargs tk eE)).2 - a) + 1 → (∀ c, 16144 ≤ c → c ≠ 16152 → G' c v = G c v) → ((pb q (pargs tk eE)).1 = 0 → i' ≤ i + ((pb q (pargs tk eE)).2 - a) ∧ a < (pb q (pargs tk eE)).2 ∧ rArgs tk T eE (i + 1) i' (G' 16152 v) q.2 G') → Q v G') (hI : RTI s T) (hT : RTF s T) : R 0 [] G Kt := by
  have hs0 := hK.1
  have hs1 := hK.2.1
  have haN := hK.2.2.2.2.1
  have hqN := h.2.2.1
  refine hA G q (i + 1) _ h (by omega) (fun e => by have := hq2 e; omega) (fun r G1 i1 hR hC => hKt r G1 (fun G9 e9 => ?_))
  obtain ⟨c1, c2, c3, c4, c5, c6⟩ := hC
  subst hv
  have w : ∀ c j, ¬ (c = 16152 ∧ j = s * 1700 + i) → G9 c j = G1 c j := fun c j x => by rw [e9, uG_ne (by omega)]
  refine hQ G9 i1 (by rw [e9]; exact RM_put hR (by omega)) c1 (by rw [e9]; exact FR_up (FR_tr f0 (FR_XR (by omega) c2)) (by unfold XR; omega)) (by omega) ?_ (fun c x y => by rw [w _ _ (by omega)]; exact XR_n c2 (by omega) x) (fun e => ?_)
  · by_cases eq : q.1 = 0
    · have := hq2 eq
      omega
    · have := c3 eq
      omega
  · obtain ⟨u1, u2, u3⟩ := c6 e
    have eq := (pb_z e).1
    have := hq2 eq
    refine ⟨by omega, by omega, ?_⟩
    rw [e9, uG_at]
    exact rArgs_F hI hT u3 (fun c j x1 x2 x3 x4 => by rw [uG_ne (by omega)])
theorem first_ok {Q : Int → gS → Prop} (hK : TKp B s N tk cd) (hA : SRa R B s N d tk T eE) (hI : RTI s T) (hT : RTF s T) (hO : SRo R B s N d tk T C eE) (hB : SRb R B s N d tk T C eE cU) (h : RM B s N d G (0, a) i) (h0 : 0 ≤ i) (hi : i ≤ a + 2) (hb : bE tk a = true) (hQ : ∀ v G' i', RM B s N d G' (pfront tk eE cU a) i' → RFc s G G' (0, a) (pfront tk eE cU a) i i' (rFront B s tk T C eE i i' v a G' ∧ G' 16154 v = -2) → Q v G') : PX13_first R G Q := by
  have hs0 := hK.1
  have hs1 := hK.2.1
  have hN := hK.2.2.2.2.1
  have ha0 : 0 ≤ a := h.2.1
  have haN : a < N := h.2.2.1
  have hp : G 16081 22 = a := RM_p h rfl
  have hbe := (bE_t a).mp hb
  have t := TR_k (hK.2.2.2.2.2.1 a ha0 haN)
  have spec : pfront tk eE cU a = pb (ptake a) fun b => if tk a = 4 ∨ tk a = 36 ∨ tk a = 37 then (0, b) else if tk a = 3 then (if tk b = 140 then pargs tk eE b else (0, b)) else if tk a = 2 then pclass tk eE b else if tk a = 38 then psuper tk eE b else if tk a = 25 then pb (pneed tk 2 b) (pargs tk eE) else pround tk eE cU b := by
    unfold pfront
    rw [if_pos hb]
  have tl := ptake_le (a := a)
  unfold PX13_first PX13_first_0
  rw [hp]
  refine fun _ => rPlace hK h.1 ha0 haN (fun _ => ?_)
  rw [hp]
  refine fun _ => rKind hK h.1 ha0 haN (fun _ => fun _ => ⟨fun z => ?_, fun z4 => ?_⟩)
  · -- a NUMBER
    refine rNode hK h h0 (by omega) (fun G1 n1 hR1 f1 => fun _ => ?_)
    rw [hR1.1.1, RM_p hR1 rfl, (hR1.1.2 a ha0 haN).2.2.2]
    refine fun _ _ => ⟨by omega, by omega, fun _ => ⟨by omega, by omega, fun G2 e2 => ?_⟩⟩
    obtain ⟨m0, m1, m2, m3, m4, m5, m6, m7, m8, m9, m10, m11, m12, m13⟩ := n1
    refine rleaf hK (by rw [e2]; exact RM_put hR1 (by omega)) (by rw [e2]; exact FR_up f1 (by unfold XR; omega)) (by omega) rfl (by rw [e2, uG_c (by omega)]; exact m2) (by rw [e2, uG_c (by omega)]; exact m11) (fun _ => ⟨by rw [e2, uG_c (by omega)]; exact m1, by rw [e2, uG_at]; rfl⟩) (fun _ => by omega) (fun _ => by omega) hQ
  have wd : tk a = 36 ∨ tk a = 37 → PX13_first_80 R (B 16091 (s * 702 + a)) (B 16090 (s * 702 + a)) G Q := fun zz => by
    have go : ∀ k, (tk a = 36 → k = 1) → (tk a = 37 → k = 2) → PX13_first_96 R (B 16091 (s * 702 + a)) (B 16090 (s * 702 + a)) 16081 k G Q := fun k k1 k2 => by
      unfold PX13_first_96
      refine ⟨oC13, rNode hK h h0 (by omega) (fun G1 n1 hR1 f1 => fun _ => ?_)⟩
      obtain ⟨m0, m1, m2, m3, m4, m5, m6, m7, m8, m9, m10, m11, m12, m13⟩ := n1
      exact rleaf hK hR1 f1 (by omega) rfl m2 m11 (fun _ => by omega) (fun y => by rw [m1]; exact k1 y) (fun y => by rw [m1]; exact k2 y) hQ
    unfold PX13_first_80
    exact rWd hK h rfl wo45 (fun z => fun _ => ⟨fun y => absurd y (by decide), fun _ => go 1 (fun _ => rfl) (fun y => by rw [show ((0 : Int), a).2 = a from rfl] at z; omega)⟩) (fun z => fun _ => ⟨fun _ => go 2 (fun y => absurd y z) (fun _ => rfl), fun y => absurd rfl y⟩)
  refine rWd hK h rfl wo45 (fun z => fun _ => ⟨fun y => absurd y (by decide), fun _ => wd (Or.inl z)⟩) (fun z36 => fun _ => ⟨fun _ => ?_, fun y => absurd rfl y⟩)
  refine rWd hK h rfl wo46 (fun z => fun _ => ⟨fun y => absurd y (by decide), fun _ => wd (Or.inr z)⟩) (fun z37 => fun _ => ⟨fun _ => ?_, fun y => absurd rfl y⟩)
  change tk a ≠ 36 at z36
  change tk a ≠ 37 at z37
  have n4 : ¬ (tk a = 4 ∨ tk a = 36 ∨ tk a = 37) := by omega
  have spec : pfront tk eE cU a = pb (ptake a) fun b => if tk a = 3 then (if tk b = 140 then pargs tk eE b else (0, b)) else if tk a = 2 then pclass tk eE b else if tk a = 38 then psuper tk eE b else if tk a = 25 then pb (pneed tk 2 b) (pargs tk eE) else pround tk eE cU b := by
    rw [spec]
    congr 1
    funext b
    rw [if_neg n4]
  refine ⟨fun z => ?_, fun z3 => ⟨fun z => ?_, fun z2 => ?_⟩⟩
  · -- a NAME
    have y3 : tk a = 3 := by omega
    have spec : pfront tk eE cU a = pb (ptake a) fun b => if tk b = 140 then pargs tk eE b else (0, b) := by
      rw [spec]
      congr 1
      funext b
      rw [if_pos y3]
    have fin3 : ∀ G1 c, RM B s N d G1 (ptake a) i → FR (XR s i) G G1 → ((c = 1 ∧ (ptake a).1 = 0 ∧ tk (a + 1) = 140) ∨ (c = 0 ∧ ((ptake a).1 = 0 → tk (a + 1) ≠ 140))) → PX13_first_146 R (B 16091 (s * 702 + a)) (B 16090 (s * 702 + a)) (B 16093 (s * 702 + a)) c G1 Q := by
      intro G1 c hR1 f1 hc
      have node : ∀ k, (∀ G2 G3, NNr s i k (B 16091 (s * 702 + a)) G1 G2 → G3 = uG G2 16148 (s * 1700 + i) (B 16093 (s * 702 + a)) → RM B s N d G3 (ptake a) (i + 1) → FR (XR s i) G G3 → ((c = 0 → PX13_first_193 R (B 16091 (s * 702 + a)) (B 16090 (s * 702 + a)) (B 16093 (s * 702 + a)) c (s * 1700 + i) 16152 (s * 1700 + i) (-2) G3 Q) ∧ (¬ (c = 0) → R 0 [] G3 (fun r125 G124 => inI r125 → PX13_first_193 R (B 16091 (s * 702 + a)) (B 16090 (s * 702 + a)) (B 16093 (s * 702 + a)) c (s * 1700 + i) 16152 (s * 1700 + i) r125 G124 Q)))) → PX13_first_159 R (B 16091 (s * 702 + a)) (B 16090 (s * 702 + a)) (B 16093 (s * 702 + a)) c 16081 k G1 Q := fun k hk => by
        unfold PX13_first_159
        refine ⟨oC13, rNode hK hR1 h0 (by omega) (fun G2 n2 hR2 f2 => fun _ => ⟨by omega, by omega, fun G3 e3 => hk G2 G3 n2 e3 (by rw [e3]; exact RM_put hR2 (by omega)) (by rw [e3]; exact FR_up (FR_tr f1 f2) (by unfold XR; omega))⟩)⟩
      unfold PX13_first_146
      rcases hc with ⟨rfl, c1, c2⟩ | ⟨rfl, c1⟩
      · refine ⟨fun y => absurd y (by decide), fun _ => node 4 (fun G2 G3 n2 e3 hR3 f3 => ⟨fun y => absurd y (by decide), fun _ => ?_⟩)⟩
        obtain ⟨m0, m1, m2, m3, m4, m5, m6, m7, m8, m9, m10, m11, m12, m13⟩ := n2
        have e1 := tl.2.2 c1
        have sp : pfront tk eE cU a = pb (ptake a) (pargs tk eE) := by rw [spec, pb_0 c1, pb_0 c1, e1, if_pos c2]
        refine rcall_end (Q := Q) (fun r G' hr => fun _ => ?_) hK hA hR3 h0 f3 rfl (by omega) (fun _ => by omega) hi (by rw [e3, uG_c (by omega)]; exact m11) (fun G' i' x1 x2 x3 x4 x5 x6 x7 => hQ _ G' i' (by rw [sp]; exact x1) ⟨by omega, x3, fun y => absurd rfl y, by rw [sp]; exact x4, by rw [sp]; exact x5, fun y => ?_⟩) hI hT
        · unfold PX13_first_193
          exact ⟨30600, aC16152, by omega, by omega, hr⟩
        · rw [sp] at y
          obtain ⟨u1, u2, u3⟩ := x7 y
          rw [e1] at u3
          have v : ∀ c, 16144 ≤ c → c ≠ 16152 → c ≠ 16148 → G' c (s * 1700 + i) = G2 c (s * 1700 + i) := fun c y1 y2 y3 => by rw [x6 c y1 y2, e3, uG_c y3]
          refine ⟨by rw [sp]; exact u1, by rw [sp]; exact u2, ⟨rfl, by omega, by rw [v _ (by omega) (by omega) (by omega)]; exact m2, fun z => by omega, fun z => by omega, fun z => by omega, fun _ => ⟨by rw [x6 _ (by omega) (by omega), e3, uG_at]; rfl, by rw [v _ (by omega) (by omega) (by omega)]; exact m3, fun _ => ⟨by rw [v _ (by omega) (by omega) (by omega)]; exact m1, u3⟩, fun z => absurd c2 z⟩, fun z => by omega, fun z => by omega, fun z => by omega, fun z => by omega⟩, by rw [v _ (by omega) (by omega) (by omega)]; exact m11⟩
      · refine ⟨fun _ => node 3 (fun G2 G3 n2 e3 hR3 f3 => ⟨fun _ => ?_, fun y => absurd rfl y⟩), fun y => absurd rfl y⟩
        obtain ⟨m0, m1, m2, m3, m4, m5, m6, m7, m8, m9, m10, m11, m12, m13⟩ := n2
        unfold PX13_first_193
        refine ⟨30600, aC16152, by omega, by omega, fun G4 e4 => ?_⟩
        have sp : pfront tk eE cU a = ptake a := by
          rw [spec]
          by_cases e : (ptake a).1 = 0
          · rw [pb_0 e, tl.2.2 e, if_neg (c1 e)]; exact Prod.ext e.symm (tl.2.2 e).symm
          · rw [pb_n e]
        refine hQ _ G4 (i + 1) (by rw [sp, e4]; exact RM_put hR3 (by omega)) ⟨by omega, by rw [e4]; exact FR_up f3 (by unfold XR; omega), fun y => absurd rfl y, by rw [sp]; exact tl.1, by rw [sp]; show i + 1 ≤ i + ((ptake a).2 - a) + 1; omega, fun y => ?_⟩
        rw [sp] at y ⊢
        have e1 := tl.2.2 y
        have v : ∀ c, c ≠ 16152 → c ≠ 16148 → G4 c (s * 1700 + i) = G2 c (s * 1700 + i) := fun c y2 y3 => by rw [e4, uG_c y2, e3, uG_c y3]
        refine ⟨by show i + 1 ≤ i + ((ptake a).2 - a); omega, by show a < (ptake a).2; omega, ⟨rfl, by omega, by rw [v _ (by omega) (by omega)]; exact m2, fun z => by omega, fun z => by omega, fun z => by omega, fun _ => ⟨by rw [e4, uG_c (by omega), e3, uG_at]; rfl, by rw [v _ (by omega) (by omega)]; exact m3, fun z => absurd z (c1 y), fun _ => ⟨by rw [v _ (by omega) (by omega)]; exact m1, by rw [e4, uG_at]⟩⟩, fun z => by omega, fun z => by omega, fun z => by omega, fun z => by omega⟩, by rw [v _ (by omega) (by omega)]; exact m11⟩
    rw [hp]
    refine fun _ => rName hK h.1 ha0 haN (fun _ => rStep hK h (fun _ => by show tk a ≠ 0 ∧ tk a ≠ 1; omega) (fun G1 hR1 f1 => ?_))
    change RM B s N d G1 (ptake a) i at hR1
    refine fun _ => ⟨fun y => ?_, fun y => ?_⟩
    · have e := (RM_fl hR1).mp y
      have e1 := tl.2.2 e
      refine rSg (k := 140) hK hR1 e (Or.inl ⟨by unfold sg; omega, rfl⟩) (fun z => fun _ => ⟨fun u => absurd u (by decide), fun _ => fin3 G1 1 hR1 f1 (Or.inl ⟨rfl, e, by rw [← e1]; exact z⟩)⟩) (fun z => fun _ => ⟨fun _ => ?_, fun u => absurd rfl u⟩)
      unfold PX13_first_145
      exact fin3 G1 0 hR1 f1 (Or.inr ⟨rfl, fun _ => by rw [← e1]; exact z⟩)
    · unfold PX13_first_145
      exact fin3 G1 0 hR1 f1 (Or.inr ⟨rfl, fun e => absurd ((RM_fl hR1).mpr e) y⟩)
  · -- a C
    have y2 : tk a = 2 := by omega
    have sp : pfront tk eE cU a = pb (ptake a) (pclass tk eE) := by
      rw [spec]
      congr 1
      funext b
      rw [if_neg (by omega), if_pos y2]
    exact hO G a i _ h h0 hi y2 (fun v G1 i1 hR hC => fun _ => hQ v G1 i1 (by rw [sp]; exact hR) (by rw [sp]; exact hC))
  · have spec : pfront tk eE cU a = pb (ptake a) fun b => if tk a = 38 then psuper tk eE b else if tk a = 25 then pb (pneed tk 2 b) (pargs tk eE) else pround tk eE cU b := by
      rw [spec]
      congr 1
      funext b
      rw [if_neg (by omega), if_neg (by omega)]
    refine rTakes hK h wo47 (fun _ z G1 hR1 f1 => fun _ => ⟨fun y => absurd y (by decide), fun _ => ?_⟩) (fun z38 => fun _ => ⟨fun _ => ?_, fun y => absurd rfl y⟩)
    · -- super
      change tk a = 38 at z
      change RM B s N d G1 (ptake a) i at hR1
      have sp : pfront tk eE cU a = pb (pb (pb (ptake a) (pneed tk 146)) (pneed tk 3)) (pargs tk eE) := by
        rw [spec, pb_pb, pb_pb]
        congr 1
        funext b
        rw [if_pos z]; rfl
      refine rNode hK hR1 h0 (by omega) (fun G2 n2 hR2 f2 => fun _ => rWantSign (k := 146) hK hR2 (Or.inl ⟨by unfold sg; omega, rfl⟩) (fun G3 hR3 f3 => rWant (k := 3) hK hR3 (Or.inr ⟨rfl, rfl⟩) (fun r4 G4 r0 r1 r2 hR4 f4 => fun _ => rName hK hR4.1 r0 r1 (fun _ => ⟨by omega, by omega, fun G5 e5 => ?_⟩))))
      have hR5 : RM B s N d G5 (pb (pb (ptake a) (pneed tk 146)) (pneed tk 3)) (i + 1) := by rw [e5]; exact RM_put hR4 (by omega)
      refine rPlace hK hR5.1 r0 r1 (fun _ => ⟨by omega, by omega, fun G6 e6 => ?_⟩)
      have hR6 : RM B s N d G6 (pb (pb (ptake a) (pneed tk 146)) (pneed tk 3)) (i + 1) := by rw [e6]; exact RM_put hR5 (by omega)
      obtain ⟨m0, m1, m2, m3, m4, m5, m6, m7, m8, m9, m10, m11, m12, m13⟩ := n2
      have l1 : a ≤ (pb (ptake a) (pneed tk 146)).2 := Int.le_trans tl.1 (pb_le2 (pneed_l _))
      have l2 : a ≤ (pb (pb (ptake a) (pneed tk 146)) (pneed tk 3)).2 := Int.le_trans l1 (pb_le2 (pneed_l _))
      have good : (pb (pb (ptake a) (pneed tk 146)) (pneed tk 3)).1 = 0 → (pb (ptake a) (pneed tk 146)).1 = 0 ∧ (pb (ptake a) (pneed tk 146)).2 = a + 2 ∧ (pb (pb (ptake a) (pneed tk 146)) (pneed tk 3)).2 = a + 3 := fun e => by
        obtain ⟨e1, e2⟩ := pb_z e
        obtain ⟨e3, e4⟩ := pb_z e1
        have u1 := tl.2.2 e3
        have u2 := ((pneed_le).2.2 e4).1
        have u3 := ((pneed_le).2.2 e2).1
        rw [pb_0 e1, pb_0 e3] at *
        refine ⟨e4, by omega, ?_⟩
        rw [u3]; omega
      have fG4 : FR (XR s (i + 1)) G2 G4 := FR_tr f3 f4
      have v4 : ∀ c, 16144 ≤ c → G4 c (s * 1700 + i) = G2 c (s * 1700 + i) := fun c x => XR_n fG4 (by omega) x
      have v6 : ∀ c, 16144 ≤ c → c ≠ 16146 → c ≠ 16148 → G6 c (s * 1700 + i) = G2 c (s * 1700 + i) := fun c x y1 y2 => by rw [e6, uG_c y1, e5, uG_c y2]; exact v4 c x
      refine rcall_end (Q := Q) (fun r G' hr => fun _ => ⟨by omega, by omega, hr⟩) hK hA hR6 h0 (by rw [e6, e5]; exact FR_up (FR_up (FR_tr f1 (FR_tr f2 (FR_XR (by omega) fG4))) (by unfold XR; omega)) (by unfold XR; omega)) rfl l2 (fun e => by have := good e; omega) hi (by rw [v6 _ (by omega) (by omega) (by omega)]; exact m11) (fun G' i' x1 x2 x3 x4 x5 x6 x7 => hQ _ G' i' (by rw [sp]; exact x1) ⟨by omega, x3, fun y => absurd rfl y, by rw [sp]; exact x4, by rw [sp]; exact x5, fun y => ?_⟩) hI hT
      rw [sp] at y
      obtain ⟨u1, u2, u3⟩ := x7 y
      obtain ⟨g1, g2, g3⟩ := good (pb_z y).1
      rw [g3] at u3
      have hr4 : r4 = a + 2 := by rw [r2 g1, g2]
      have v : ∀ c, 16144 ≤ c → c ≠ 16152 → c ≠ 16148 → c ≠ 16146 → G' c (s * 1700 + i) = G2 c (s * 1700 + i) := fun c y1 y2 y3 y4 => by rw [x6 c y1 y2]; exact v6 c y1 y4 y3
      refine ⟨by rw [sp]; exact u1, by rw [sp]; exact u2, ⟨rfl, by omega, by rw [v _ (by omega) (by omega) (by omega) (by omega)]; exact m2, fun z => by omega, fun z => by omega, fun z => by omega, fun z => by omega, fun z => by omega, fun _ => ⟨by rw [v _ (by omega) (by omega) (by omega) (by omega)]; exact m1, by rw [x6 _ (by omega) (by omega), e6, uG_c (by omega), e5, uG_at, hr4]; rfl, by rw [x6 _ (by omega) (by omega), e6, uG_at, hr4]; rfl, u3⟩, fun z => by omega, fun z => by omega⟩, by rw [v _ (by omega) (by omega) (by omega) (by omega)]; exact m11⟩
    · have n38 : tk a ≠ 38 := z38 rfl
      refine rTakes hK h wo43 (fun _ z G1 hR1 f1 => fun _ => ⟨fun y => absurd y (by decide), fun _ => ?_⟩) (fun z25 => fun _ => ⟨fun _ => fun _ => ⟨fun _ => ?_, fun y => absurd ((RM_fl h).mpr rfl) y⟩, fun y => absurd rfl y⟩)
      · -- new
        change tk a = 25 at z
        change RM B s N d G1 (ptake a) i at hR1
        have sp : pfront tk eE cU a = pb (pb (ptake a) (pneed tk 2)) (pargs tk eE) := by
          rw [spec, pb_pb]
          congr 1
          funext b
          rw [if_neg n38, if_pos z]
        refine rNode hK hR1 h0 (by omega) (fun G2 n2 hR2 f2 => fun _ => rWant (k := 2) hK hR2 (Or.inl ⟨rfl, rfl⟩) (fun r4 G4 r0 r1 r2 hR4 f4 => fun _ => rName hK hR4.1 r0 r1 (fun _ => ⟨by omega, by omega, fun G5 e5 => ?_⟩)))
        have hR5 : RM B s N d G5 (pb (ptake a) (pneed tk 2)) (i + 1) := by rw [e5]; exact RM_put hR4 (by omega)
        refine rPlace hK hR5.1 r0 r1 (fun _ => ⟨by omega, by omega, fun G6 e6 => ?_⟩)
        have hR6 : RM B s N d G6 (pb (ptake a) (pneed tk 2)) (i + 1) := by rw [e6]; exact RM_put hR5 (by omega)
        obtain ⟨m0, m1, m2, m3, m4, m5, m6, m7, m8, m9, m10, m11, m12, m13⟩ := n2
        have l2 : a ≤ (pb (ptake a) (pneed tk 2)).2 := Int.le_trans tl.1 (pb_le2 (pneed_l _))
        have good : (pb (ptake a) (pneed tk 2)).1 = 0 → (ptake a).1 = 0 ∧ (ptake a).2 = a + 1 ∧ (pb (ptake a) (pneed tk 2)).2 = a + 2 := fun e => by
          obtain ⟨e1, e2⟩ := pb_z e
          have u1 := tl.2.2 e1
          have u3 := ((pneed_le).2.2 e2).1
          rw [pb_0 e1]
          refine ⟨e1, u1, ?_⟩
          rw [u3]; omega
        have v4 : ∀ c, 16144 ≤ c → G4 c (s * 1700 + i) = G2 c (s * 1700 + i) := fun c x => XR_n f4 (by omega) x
        have v6 : ∀ c, 16144 ≤ c → c ≠ 16147 → c ≠ 16149 → G6 c (s * 1700 + i) = G2 c (s * 1700 + i) := fun c x y1 y2 => by rw [e6, uG_c y1, e5, uG_c y2]; exact v4 c x
        refine rcall_end (Q := Q) (fun r G' hr => fun _ => ⟨by omega, by omega, hr⟩) hK hA hR6 h0 (by rw [e6, e5]; exact FR_up (FR_up (FR_tr f1 (FR_tr f2 (FR_XR (by omega) f4))) (by unfold XR; omega)) (by unfold XR; omega)) rfl l2 (fun e => by have := good e; omega) hi (by rw [v6 _ (by omega) (by omega) (by omega)]; exact m11) (fun G' i' x1 x2 x3 x4 x5 x6 x7 => hQ _ G' i' (by rw [sp]; exact x1) ⟨by omega, x3, fun y => absurd rfl y, by rw [sp]; exact x4, by rw [sp]; exact x5, fun y => ?_⟩) hI hT
        rw [sp] at y
        obtain ⟨u1, u2, u3⟩ := x7 y
        obtain ⟨g1, g2, g3⟩ := good (pb_z y).1
        rw [g3] at u3
        have hr4 : r4 = a + 1 := by rw [r2 g1, g2]
        have v : ∀ c, 16144 ≤ c → c ≠ 16152 → c ≠ 16149 → c ≠ 16147 → G' c (s * 1700 + i) = G2 c (s * 1700 + i) := fun c y1 y2 y3 y4 => by rw [x6 c y1 y2]; exact v6 c y1 y4 y3
        refine ⟨by rw [sp]; exact u1, by rw [sp]; exact u2, ⟨rfl, by omega, by rw [v _ (by omega) (by omega) (by omega) (by omega)]; exact m2, fun z => by omega, fun z => by omega, fun z => by omega, fun z => by omega, fun z => by omega, fun z => by omega, fun _ => ⟨by rw [v _ (by omega) (by omega) (by omega) (by omega)]; exact m1, by rw [x6 _ (by omega) (by omega), e6, uG_c (by omega), e5, uG_at, hr4]; rfl, by rw [x6 _ (by omega) (by omega), e6, uG_at, hr4]; rfl, u3⟩, fun z => by omega⟩, by rw [v _ (by omega) (by omega) (by omega) (by omega)]; exact m11⟩
      · -- (
        have n25 : tk a ≠ 25 := z25 rfl
        have y140 : tk a = 140 := by omega
        have sp : pfront tk eE cU a = pb (ptake a) (pround tk eE cU) := by
          rw [spec]
          congr 1
          funext b
          rw [if_neg n38, if_neg n25]
        unfold PX13_first_355
        exact hB G a i _ h h0 hi y140 (fun v G1 i1 hR hC => fun _ => hQ v G1 i1 (by rw [sp]; exact hR) (by rw [sp]; exact hC))
end RP5

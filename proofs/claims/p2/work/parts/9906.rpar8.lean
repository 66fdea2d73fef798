section RP8
variable {B G G' : gS} {s N d i i' a : Int} {tk cd : Int → Int} {q r : RR} {R : JT} {T C : TT} {eE cU : Int → RR}
theorem pargs_le (h : ∀ b, b ≤ (eE b).2) : ∀ b, b ≤ (pargs tk eE b).2 := fun b => by
  unfold pargs
  refine Int.le_trans (pneed_l (tk := tk) 140 b) (pb_le2 (fun c => ?_))
  split
  · exact (ptake_le).1
  · exact pargsL_le _ _ h
theorem runit_out {J : JT} {Q : Int → gS → Prop} {l : Int} (hQ : Q l G) : PX13_unit_48 R J l 0 G Q := by
  unfold PX13_unit_48
  exact ⟨fun _ => hQ, fun y => absurd rfl y⟩
theorem runit_tail (hK : TKp B s N tk cd) (hA : SRa R B s N d tk T eE) (hI : RTI s T) (hT : RTF s T) (hel : ∀ b, b ≤ (eE b).2) : ∀ (f F : Nat) (G : gS) (a i l kl : Int) (Q : Int → gS → Prop), 700 - a < f → f + 2 ≤ F → RM B s N d G (0, a) i → 0 ≤ i → i ≤ a + 2 → l = s * 1700 + kl → 0 ≤ kl → kl < i → G 16154 l = -2 →
    (∀ v G' i', RM B s N d G' (ptail tk eE f a) i' → i ≤ i' → FR (XR s i) G G' → a ≤ (ptail tk eE f a).2 → i' ≤ i + ((ptail tk eE f a).2 - a) + 1 → ((ptail tk eE f a).1 = 0 → i' ≤ i + ((ptail tk eE f a).2 - a) ∧ rTail B s tk T eE f l i i' v a G' ∧ G' 16154 v = -2) → Q v G') → PX13_unit_48 R (PX13_unit_J R F) l 1 G Q
  | 0, F, G, a, i, l, kl, Q, hf, _, h, _, _, _, _, _, _, _ => by
    have h1 := h.2.2.1
    have h2 := hK.2.2.2.2.1
    exact absurd h1 (by show ¬ a < N; omega)
  | f + 1, F, G, a, i, l, kl, Q, hf, hF, h, h0, hi, hl, hl0, hl1, hln, hQ => by
    obtain ⟨F', rfl⟩ : ∃ F', F = F' + 1 := ⟨F - 1, by omega⟩
    obtain ⟨F'', rfl⟩ : ∃ F'', F' = F'' + 1 := ⟨F' - 1, by omega⟩
    have hs0 := hK.1
    have hs1 := hK.2.1
    have hN : N ≤ 701 := hK.2.2.2.2.1
    have ha0 : 0 ≤ a := h.2.1
    have haN : a < N := h.2.2.1
    have spec : ptail tk eE (f + 1) a = (if tk a = 146 then pb (ptake a) fun b => pb (pneed tk 3 b) fun c => if tk c = 140 then pb (pargs tk eE c) (ptail tk eE f) else ptail tk eE f c else if tk a = 39 then pb (ptake a) fun b => pb (pneed tk 2 b) (ptail tk eE f) else (0, a)) := rfl
    have sT : ∀ lo hi v b G, rTail B s tk T eE (f + 1) l lo hi v b G = ((tk b = 146 → lo < hi ∧ G 16151 (s * 1700 + lo) = l ∧ G 16148 (s * 1700 + lo) = nmR B s (b + 1) ∧ G 16146 (s * 1700 + lo) = plR B s (b + 1) ∧ (tk (b + 2) = 140 → G 16144 (s * 1700 + lo) = 13 ∧ ∃ x, x ≤ hi ∧ rArgs tk T eE (lo + 1) x (G 16152 (s * 1700 + lo)) (b + 2) G ∧ rTail B s tk T eE f (s * 1700 + lo) x hi v (pargs tk eE (b + 2)).2 G) ∧ (tk (b + 2) ≠ 140 → G 16144 (s * 1700 + lo) = 12 ∧ G 16152 (s * 1700 + lo) = -2 ∧ rTail B s tk T eE f (s * 1700 + lo) (lo + 1) hi v (b + 2) G)) ∧ (tk b = 39 → lo < hi ∧ G 16151 (s * 1700 + lo) = l ∧ G 16144 (s * 1700 + lo) = 14 ∧ G 16149 (s * 1700 + lo) = nmR B s (b + 1) ∧ G 16147 (s * 1700 + lo) = plR B s (b + 1) ∧ rTail B s tk T eE f (s * 1700 + lo) (lo + 1) hi v (b + 2) G) ∧ (tk b ≠ 146 → tk b ≠ 39 → v = l ∧ lo ≤ hi)) := fun _ _ _ _ _ => rfl
    generalize hr0 : ptail tk eE (f + 1) a = r0 at *
    have tl := ptake_le (a := a)
    have hb : (0 : Int) ≤ l ∧ l < 30600 := by omega
    -- what comes behind a part that was read into node i: q5 behind it
    have rest : ∀ (q5 : RR) (G5 : gS) (i5 : Int), RM B s N d G5 q5 i5 → i + 1 ≤ i5 → FR (XR s i) G G5 → a ≤ q5.2 → i5 ≤ i + (q5.2 - a) + 1 → (q5.1 = 0 → i5 ≤ i + (q5.2 - a) ∧ a < q5.2 ∧ G5 16154 (s * 1700 + i) = -2) → (q5.1 ≠ 0 → r0 = q5) → (q5.1 = 0 → r0 = ptail tk eE f q5.2) → (∀ v G' i', q5.1 = 0 → i5 ≤ i' → FR (XR s i5) G5 G' → rTail B s tk T eE f (s * 1700 + i) i5 i' v q5.2 G' → rTail B s tk T eE (f + 1) l i i' v a G') → PX13_unit_253 R (PX13_unit_J R (F'' + 1 + 1)) (s * 1700 + i) 1 G5 Q := by
      intro q5 G5 i5 x1 x2 x3 x4 x5 x6 x7 x8 x9
      unfold PX13_unit_253
      refine ⟨fun y => absurd y (by decide), fun _ => fun _ => ⟨fun y => ?_, fun y => ?_⟩⟩
      · have e := (RM_fl x1).mp y
        obtain ⟨u1, u2, u3⟩ := x6 e
        have sp := x8 e
        unfold PX13_unit_269
        show PX13_unit_48 R (PX13_unit_J R (F'' + 1)) (s * 1700 + i) 1 G5 Q
        refine runit_tail hK hA hI hT hel f (F'' + 1) G5 q5.2 i5 (s * 1700 + i) i Q (by omega) (by omega) (RM_eq x1 e rfl) (by omega) (by omega) rfl h0 (by omega) u3 (fun v G6 i6 hR6 d1 d2 d3 d4 d5 => ?_)
        rw [← sp] at hR6 d3 d4 d5
        refine hQ v G6 i6 hR6 (by omega) (FR_tr x3 (FR_XR (by omega) d2)) (by omega) (by omega) (fun w => ?_)
        obtain ⟨w1, w2, w3⟩ := d5 w
        exact ⟨by omega, x9 v G6 i6 e d1 d2 w2, w3⟩
      · have e : q5.1 ≠ 0 := fun e => y ((RM_fl x1).mpr e)
        have sp := x7 e
        unfold PX13_unit_268 PX13_unit_269
        show PX13_unit_48 R (PX13_unit_J R (F'' + 1)) (s * 1700 + i) 0 G5 Q
        exact runit_out (hQ _ G5 i5 (by rw [sp]; exact x1) (by omega) x3 (by rw [sp]; exact x4) (by rw [sp]; exact x5) (fun w => absurd (by rw [← sp]; exact w) e))
    unfold PX13_unit_48
    refine ⟨fun y => absurd y (by decide), fun _ => rSg (k := 146) hK h rfl (Or.inl ⟨by unfold sg; omega, rfl⟩) (fun z => fun _ => ⟨fun y => absurd y (by decide), fun _ => ?_⟩) (fun z146 => fun _ => ⟨fun _ => ?_, fun y => absurd rfl y⟩)⟩
    · -- . NAME
      change tk a = 146 at z
      rw [if_pos z] at spec
      refine rStep hK h (fun _ => by show tk a ≠ 0 ∧ tk a ≠ 1; omega) (fun G1 hR1 f1 => rWant (k := 3) hK hR1 (Or.inr ⟨rfl, rfl⟩) (fun t G2 r0' r1 r2 hR2 f2 => fun _ => ?_))
      change RM B s N d G2 (pb (ptake a) (pneed tk 3)) i at hR2
      change (ptake a).1 = 0 → t = (ptake a).2 at r2
      have f02 : FR (XR s i) G G2 := FR_tr f1 f2
      clear f1 f2 hR1
      have sp : r0 = pb (pb (ptake a) (pneed tk 3)) fun c => if tk c = 140 then pb (pargs tk eE c) (ptail tk eE f) else ptail tk eE f c := by rw [spec, pb_pb]
      have l3 : a ≤ (pb (ptake a) (pneed tk 3)).2 := l_take1
      have g3 : (pb (ptake a) (pneed tk 3)).1 = 0 → (pb (ptake a) (pneed tk 3)).2 = a + 2 ∧ (ptake a).1 = 0 := fun e => by
        obtain ⟨e3, e4⟩ := pb_z e
        have u1 := tl.2.2 e3
        rw [pb_0 e3, ((pneed_le).2.2 e4).1, u1]
        exact ⟨by omega, e3⟩
      generalize hq3 : pb (ptake a) (pneed tk 3) = q3 at *
      have fin : ∀ c, ((c = 1 ∧ q3.1 = 0 ∧ tk (a + 2) = 140) ∨ (c = 0 ∧ (q3.1 = 0 → tk (a + 2) ≠ 140))) → PX13_unit_93 R (PX13_unit_J R (F'' + 1 + 1)) l 1 t c G2 Q := by
        intro c hc
        have node : ∀ k, (∀ G4 G7, NNr s i k (G2 16145 l) G2 G4 → RM B s N d G7 q3 (i + 1) → FR (XR s i) G G7 → (∀ c, 16144 ≤ c → c ≠ 16146 → c ≠ 16148 → c ≠ 16151 → G7 c (s * 1700 + i) = G4 c (s * 1700 + i)) → G7 16151 (s * 1700 + i) = l → G7 16148 (s * 1700 + i) = B 16093 (s * 702 + t) → G7 16146 (s * 1700 + i) = B 16091 (s * 702 + t) → ((c = 0 → PX13_unit_171 R (PX13_unit_J R (F'' + 1 + 1)) l 1 t c (s * 1700 + i) 16152 (s * 1700 + i) (-2) G7 Q) ∧ (¬ (c = 0) → R 0 [] G7 (fun r90 G89 => inI r90 → PX13_unit_171 R (PX13_unit_J R (F'' + 1 + 1)) l 1 t c (s * 1700 + i) 16152 (s * 1700 + i) r90 G89 Q)))) → PX13_unit_108 R (PX13_unit_J R (F'' + 1 + 1)) l 1 t c 16081 k G2 Q := fun k hk => by
          unfold PX13_unit_108
          refine ⟨hb.1, hb.2, fun _ => ⟨oC13, rNode hK hR2 h0 (by omega) (fun G4 n4 hR4 f4 => fun _ => rName hK hR4.1 r0' r1 (fun _ => ⟨by omega, by omega, fun G5 e5 => ?_⟩))⟩⟩
          have hR5 : RM B s N d G5 q3 (i + 1) := by rw [e5]; exact RM_put hR4 (by omega)
          refine rPlace hK hR5.1 r0' r1 (fun _ => ⟨by omega, by omega, fun G6 e6 => ⟨by omega, by omega, fun G7 e7 => ?_⟩⟩)
          have hR6 : RM B s N d G6 q3 (i + 1) := by rw [e6]; exact RM_put hR5 (by omega)
          refine hk G4 G7 n4 (by rw [e7]; exact RM_put hR6 (by omega)) (by rw [e7, e6, e5]; exact FR_up (FR_up (FR_up (FR_tr f02 f4) (by unfold XR; omega)) (by unfold XR; omega)) (by unfold XR; omega)) (fun c y1 y2 y3 y4 => by rw [e7, uG_c y4, e6, uG_c y2, e5, uG_c y3]) ?_ ?_ ?_
          · rw [e7, uG_at]
          · rw [e7, uG_c (by omega), e6, uG_c (by omega), e5, uG_at]
          · rw [e7, uG_c (by omega), e6, uG_at]
        unfold PX13_unit_93
        rcases hc with ⟨rfl, c1, c2⟩ | ⟨rfl, c1⟩
        · refine ⟨fun y => absurd y (by decide), fun _ => node 13 (fun G4 G7 n4 hR7 f7 v7 w51 w48 w46 => ⟨fun y => absurd y (by decide), fun _ => ?_⟩)⟩
          obtain ⟨m0, m1, m2, m3, m4, m5, m6, m7, m8, m9, m10, m11, m12, m13⟩ := n4
          obtain ⟨eb, e2⟩ := g3 c1
          have ht : t = a + 1 := by rw [r2 e2, tl.2.2 e2]
          have la := pargs_le (tk := tk) hel (a + 2)
          have sp' : r0 = pb (pargs tk eE (a + 2)) (ptail tk eE f) := by rw [sp, pb_0 c1, eb, if_pos c2]
          have pq : pb q3 (pargs tk eE) = pargs tk eE (a + 2) := by rw [pb_0 c1, eb]
          refine rcall_end (Q := fun v G => PX13_unit_253 R (PX13_unit_J R (F'' + 1 + 1)) v 1 G Q) (fun r G' hr => fun _ => ?_) hK hA hR7 h0 f7 rfl l3 (fun _ => by omega) hi (by rw [v7 _ (by omega) (by omega) (by omega) (by omega)]; exact m11) (fun G' i' x1 x2 x3 x4 x5 x6 x7 => ?_) hI hT
          · unfold PX13_unit_171
            exact ⟨30600, aC16152, by omega, by omega, hr⟩
          · rw [pq] at x1 x4 x5 x7
            have v : ∀ c, 16144 ≤ c → c ≠ 16152 → c ≠ 16146 → c ≠ 16148 → c ≠ 16151 → G' c (s * 1700 + i) = G4 c (s * 1700 + i) := fun c y1 y2 y3 y4 y5 => by rw [x6 c y1 y2]; exact v7 c y1 y3 y4 y5
            refine rest _ G' i' x1 x2 x3 x4 x5 (fun e => ⟨(x7 e).1, (x7 e).2.1, by rw [v _ (by omega) (by omega) (by omega) (by omega) (by omega)]; exact m11⟩) (fun e => by rw [sp', pb_n e]) (fun e => by rw [sp', pb_0 e]) (fun v' G9 i9 e y1 y2 y3 => ?_)
            have w9 : ∀ c j, 16144 ≤ c → c ≤ 16162 → s * 1700 ≤ j → j < s * 1700 + i' → G9 c j = G' c j := fun c j z1 z2 z3 z4 => y2 c j (by unfold XR; omega)
            have v9 : ∀ c, 16144 ≤ c → c ≤ 16162 → G9 c (s * 1700 + i) = G' c (s * 1700 + i) := fun c z1 z2 => w9 _ _ z1 z2 (by omega) (by omega)
            rw [sT]
            refine ⟨fun _ => ⟨by omega, by rw [v9 _ (by omega) (by omega), x6 _ (by omega) (by omega)]; exact w51, by rw [v9 _ (by omega) (by omega), x6 _ (by omega) (by omega), w48, ht]; rfl, by rw [v9 _ (by omega) (by omega), x6 _ (by omega) (by omega), w46, ht]; rfl, fun _ => ⟨by rw [v9 _ (by omega) (by omega), v _ (by omega) (by omega) (by omega) (by omega) (by omega)]; exact m1, i', y1, ?_, y3⟩, fun u => absurd c2 u⟩, fun u => by omega, fun u => absurd z u⟩
            rw [v9 _ (by omega) (by omega)]
            have ra := (x7 e).2.2
            rw [eb] at ra
            exact rArgs_F hI hT ra (fun c j z1 z2 z3 z4 => w9 c j z1 (by omega) (by omega) z4)
        · refine ⟨fun _ => node 12 (fun G4 G7 n4 hR7 f7 v7 w51 w48 w46 => ⟨fun _ => ?_, fun y => absurd rfl y⟩), fun y => absurd rfl y⟩
          obtain ⟨m0, m1, m2, m3, m4, m5, m6, m7, m8, m9, m10, m11, m12, m13⟩ := n4
          unfold PX13_unit_171
          refine ⟨30600, aC16152, by omega, by omega, fun G8 e8 => ?_⟩
          have v : ∀ c, 16144 ≤ c → c ≠ 16152 → c ≠ 16146 → c ≠ 16148 → c ≠ 16151 → G8 c (s * 1700 + i) = G4 c (s * 1700 + i) := fun c y1 y2 y3 y4 y5 => by rw [e8, uG_c y2]; exact v7 c y1 y3 y4 y5
          have w8 : ∀ c, c ≠ 16152 → G8 c (s * 1700 + i) = G7 c (s * 1700 + i) := fun c y => by rw [e8, uG_c y]
          refine rest q3 G8 (i + 1) (by rw [e8]; exact RM_put hR7 (by omega)) (by omega) (by rw [e8]; exact FR_up f7 (by unfold XR; omega)) l3 (by omega) (fun e => ⟨by have := (g3 e).1; omega, by have := (g3 e).1; omega, by rw [v _ (by omega) (by omega) (by omega) (by omega) (by omega)]; exact m11⟩) (fun e => by rw [sp, pb_n e]) (fun e => by rw [sp, pb_0 e, (g3 e).1, if_neg (c1 e)]) (fun v' G9 i9 e y1 y2 y3 => ?_)
          obtain ⟨eb, e2⟩ := g3 e
          have ht : t = a + 1 := by rw [r2 e2, tl.2.2 e2]
          rw [eb] at y3
          have v9 : ∀ c, 16144 ≤ c → c ≤ 16162 → G9 c (s * 1700 + i) = G8 c (s * 1700 + i) := fun c z1 z2 => y2 _ _ (by unfold XR; omega)
          rw [sT]
          exact ⟨fun _ => ⟨by omega, by rw [v9 _ (by omega) (by omega), w8 _ (by omega)]; exact w51, by rw [v9 _ (by omega) (by omega), w8 _ (by omega), w48, ht]; rfl, by rw [v9 _ (by omega) (by omega), w8 _ (by omega), w46, ht]; rfl, fun u => absurd u (c1 e), fun _ => ⟨by rw [v9 _ (by omega) (by omega), v _ (by omega) (by omega) (by omega) (by omega) (by omega)]; exact m1, by rw [v9 _ (by omega) (by omega), e8, uG_at], y3⟩⟩, fun u => by omega, fun u => absurd z u⟩
      refine fun _ => ⟨fun y => ?_, fun y => ?_⟩
      · have e := (RM_fl hR2).mp y
        obtain ⟨eb, -⟩ := g3 e
        refine rSg (k := 140) hK hR2 e (Or.inl ⟨by unfold sg; omega, rfl⟩) (fun z => fun _ => ⟨fun u => absurd u (by decide), fun _ => fin 1 (Or.inl ⟨rfl, e, by rw [← eb]; exact z⟩)⟩) (fun z => fun _ => ⟨fun _ => ?_, fun u => absurd rfl u⟩)
        unfold PX13_unit_92
        exact fin 0 (Or.inr ⟨rfl, fun _ => by rw [← eb]; exact z⟩)
      · unfold PX13_unit_92
        exact fin 0 (Or.inr ⟨rfl, fun e => absurd ((RM_fl hR2).mpr e) y⟩)
    · change tk a ≠ 146 at z146
      rw [if_neg z146] at spec
      refine rWd hK h rfl wo57 (fun z => fun _ => ⟨fun y => absurd y (by decide), fun _ => ?_⟩) (fun z39 => fun _ => ⟨fun _ => ?_, fun y => absurd rfl y⟩)
      · -- ask C
        change tk a = 39 at z
        rw [if_pos z] at spec
        refine rStep hK h (fun _ => by show tk a ≠ 0 ∧ tk a ≠ 1; omega) (fun G1 hR1 f1 => rWant (k := 2) hK hR1 (Or.inl ⟨rfl, rfl⟩) (fun t G2 r0' r1 r2 hR2 f2 => fun _ => ⟨hb.1, hb.2, fun _ => ?_⟩))
        change RM B s N d G2 (pb (ptake a) (pneed tk 2)) i at hR2
        change (ptake a).1 = 0 → t = (ptake a).2 at r2
        have f02 : FR (XR s i) G G2 := FR_tr f1 f2
        clear f1 f2 hR1
        have sp : r0 = pb (pb (ptake a) (pneed tk 2)) (ptail tk eE f) := by rw [spec, pb_pb]
        have l3 : a ≤ (pb (ptake a) (pneed tk 2)).2 := l_take1
        have g3 : (pb (ptake a) (pneed tk 2)).1 = 0 → (pb (ptake a) (pneed tk 2)).2 = a + 2 ∧ (ptake a).1 = 0 := fun e => by
          obtain ⟨e3, e4⟩ := pb_z e
          have u1 := tl.2.2 e3
          rw [pb_0 e3, ((pneed_le).2.2 e4).1, u1]
          exact ⟨by omega, e3⟩
        generalize hq3 : pb (ptake a) (pneed tk 2) = q3 at *
        refine rNode hK hR2 h0 (by omega) (fun G4 n4 hR4 f4 => fun _ => rName hK hR4.1 r0' r1 (fun _ => ⟨by omega, by omega, fun G5 e5 => ?_⟩))
        obtain ⟨m0, m1, m2, m3, m4, m5, m6, m7, m8, m9, m10, m11, m12, m13⟩ := n4
        have hR5 : RM B s N d G5 q3 (i + 1) := by rw [e5]; exact RM_put hR4 (by omega)
        refine rPlace hK hR5.1 r0' r1 (fun _ => ⟨by omega, by omega, fun G6 e6 => ⟨by omega, by omega, fun G7 e7 => ?_⟩⟩)
        have hR6 : RM B s N d G6 q3 (i + 1) := by rw [e6]; exact RM_put hR5 (by omega)
        have v : ∀ c, c ≠ 16147 → c ≠ 16149 → c ≠ 16151 → G7 c (s * 1700 + i) = G4 c (s * 1700 + i) := fun c y2 y3 y4 => by rw [e7, uG_c y4, e6, uG_c y2, e5, uG_c y3]
        refine rest q3 G7 (i + 1) (by rw [e7]; exact RM_put hR6 (by omega)) (by omega) (by rw [e7, e6, e5]; exact FR_up (FR_up (FR_up (FR_tr f02 f4) (by unfold XR; omega)) (by unfold XR; omega)) (by unfold XR; omega)) l3 (by omega) (fun e => ⟨by have := (g3 e).1; omega, by have := (g3 e).1; omega, by rw [v _ (by omega) (by omega) (by omega)]; exact m11⟩) (fun e => by rw [sp, pb_n e]) (fun e => by rw [sp, pb_0 e]) (fun v' G9 i9 e y1 y2 y3 => ?_)
        obtain ⟨eb, e2⟩ := g3 e
        have ht : t = a + 1 := by rw [r2 e2, tl.2.2 e2]
        rw [eb] at y3
        have v9 : ∀ c, 16144 ≤ c → c ≤ 16162 → G9 c (s * 1700 + i) = G7 c (s * 1700 + i) := fun c z1 z2 => y2 _ _ (by unfold XR; omega)
        rw [sT]
        exact ⟨fun u => absurd u z146, fun _ => ⟨by omega, by rw [v9 _ (by omega) (by omega), e7, uG_at], by rw [v9 _ (by omega) (by omega), v _ (by omega) (by omega) (by omega)]; exact m1, by rw [v9 _ (by omega) (by omega), e7, uG_c (by omega), e6, uG_c (by omega), e5, uG_at, ht]; rfl, by rw [v9 _ (by omega) (by omega), e7, uG_c (by omega), e6, uG_at, ht]; rfl, y3⟩, fun _ u => absurd z u⟩
      · change tk a ≠ 39 at z39
        rw [if_neg z39] at spec
        unfold PX13_unit_253 PX13_unit_268 PX13_unit_269
        refine ⟨fun _ => ?_, fun y => absurd rfl y⟩
        show PX13_unit_48 R (PX13_unit_J R (F'' + 1)) l 0 G Q
        refine runit_out (hQ l G i (by rw [spec]; exact h) (Int.le_refl _) FR_id (by rw [spec]; exact Int.le_refl _) (by rw [spec]; show i ≤ i + (a - a) + 1; omega) (fun _ => ⟨by rw [spec]; show i ≤ i + (a - a); omega, ?_, hln⟩))
        rw [sT]
        exact ⟨fun u => absurd u z146, fun u => absurd u z39, fun _ _ => ⟨rfl, Int.le_refl _⟩⟩
end RP8

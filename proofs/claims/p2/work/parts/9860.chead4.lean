section CH5
variable {tk cd : Int → Int} {c a b k : Int} {G0 G G1 : gS}
theorem xAt_T : XT xAt := ⟨fun _ _ h => h, by unfold xAt; omega, fun _ => by unfold xAt; omega, fun _ => by unfold xAt; omega⟩
def xHead (b k : Int) (c j : Int) : Prop := xAt c j ∨ (rw_ b k ≤ c ∧ c ≤ rw_ b k + 4) ∨ (c = bd b ∧ j = 3)
theorem xHead_T (hb : 0 ≤ b) (hk : 0 ≤ k) : XT (xHead b k) := ⟨fun _ _ h => Or.inl h, by unfold xHead xAt rw_ bd; omega, fun _ => by unfold xHead xAt rw_ bd; omega, fun _ => by unfold xHead xAt rw_ bd; omega⟩
theorem FR_mono {X Y : Int → Int → Prop} (h : ∀ c j, X c j → Y c j) (f : FR X G G1) : FR Y G G1 := fun c j x => f c j (fun y => x (h c j y))
theorem HS_mono {X Y : Int → Int → Prop} (h : ∀ c j, X c j → Y c j) (m : HS X G0 G tk cd c a) : HS Y G0 G tk cd c a := ⟨m.1, FR_mono h m.2⟩
theorem HB_mono {X Y : Int → Int → Prop} {r : RR} (h : ∀ c j, X c j → Y c j) (m : HB X G0 G1 r) : HB Y G0 G1 r := ⟨FR_mono h m.1, m.2⟩
-- where a head's words stand
def hB0 (tk : Int → Int) (a : Int) : Int := (popt tk 17 a).2
def hC0 (tk : Int → Int) (a : Int) : Int := (pfb tk (hB0 tk a)).2
def b01 (p : Prop) [Decidable p] : Int := if p then 1 else 0
def HdP (tk cd : Int → Int) (b k a : Int) (G' : gS) : Prop := G' (bd b) 3 = k + 1 ∧ G' (rw_ b k) 1 = cd (hC0 tk a + 1) ∧ G' (rw_ b k) 2 = hC0 tk a + 1 ∧ G' (rw_ b k) 3 = b01 (tk a = 17) ∧ G' (rw_ b k) 4 = b01 (tk (hC0 tk a) = 11 ∧ tk (hB0 tk a) = 11) ∧ G' (rw_ b k) 5 = b01 (tk (hB0 tk a) = 20) ∧ G' (rw_ b k) 6 = b01 (tk (hB0 tk a) = 21) ∧ G' (rw_ b k) 13 = 0 ∧ G' (rw_ b k) 15 = 0 ∧ G' (rw_ b k) 18 = -1 ∧ ∃ G1, G1 (rw_ b k) 8 = -4031174665287237632 ∧ G1 (rw_ b k) 9 = -4 ∧ PaP tk cd (rw_ b k) (hC0 tk a + 1 + 1) G1 G'
def PsHd (b k : Int) (G G' : gS) (c a v : Int) (r : RR) (P : gS → Prop) : Prop := PsH (xHead b k) G G' c a r P ∧ (r.1 ≠ 0 → v = -1) ∧ (r.1 = 0 → v = rw_ b k)
theorem HB_R {a0 : Int} {r : RR} {P : gS → Prop} (h : HB (xHead b k) G0 G1 r) : PsHd b k G0 G1 c a0 (-1) r P := ⟨HB_P h, fun _ => rfl, fun z => absurd z h.2.2.2⟩
theorem head_ok {Q : Int → gS → Prop} (hb : 0 ≤ b ∧ b < 17) (hk : 0 ≤ k ∧ k ≤ 12) (hs : HS xAt G0 G0 tk cd c a) (h11 : G0 7 11 = bd b) (h3 : G0 (bd b) 3 = k) (hQ : ∀ v G', PsHd b k G0 G' c a v (phead tk 12 k a) (HdP tk cd b k a) → Q v G') : PX9_readHead G0 Q := by
  have hX := xHead_T hb.1 hk.1
  have sub : ∀ c j, xAt c j → xHead b k c j := fun _ _ h => Or.inl h
  have ha7 : a ≤ 700 := hs.1.2.2.2.2.1
  have ha0 : 0 ≤ a := hs.1.2.2.2.1
  have spec : phead tk 12 k a = pb (popt tk 17 a) fun b => pb (pfb tk b) fun c => if (tk c = 11 ∧ tk b = 11) ∨ tk c = 10 then pb (ptake c) fun d => if tk d = 2 then (if k < 12 then pb (ptake d) fun e => pb (pparents tk e) (pneed tk 223) else (3, d)) else pmiss tk d else pmiss tk c := rfl
  generalize hr0 : phead tk 12 k a = r0 at *
  have bad : ∀ G1, HB xAt G0 G1 r0 → Q (-1) G1 := fun G1 h => hQ (-1) G1 (HB_R (HB_mono sub h))
  -- behind class or face
  have rest95 : ∀ G l1 l3, HS xAt G0 G tk cd c (hC0 tk a) → tk (hC0 tk a) ≠ 0 → (r0 = pb (ptake (hC0 tk a)) fun d => if tk d = 2 then (if k < 12 then pb (ptake d) fun e => pb (pparents tk e) (pneed tk 223) else (3, d)) else pmiss tk d) → a ≤ hC0 tk a → l1 = b01 (tk a = 17) → l3 = b01 (tk (hC0 tk a) = 11 ∧ tk (hB0 tk a) = 11) → PX9_readHead_95 l1 (tk (hB0 tk a)) l3 G Q := by
    intro G l1 l3 m ht s hc hl1 hl3
    have o01 : ∀ {p : Prop} [Decidable p], (0 : Int) ≤ b01 p ∧ b01 p ≤ 1 := fun {p} _ => by unfold b01; split <;> decide
    unfold PX9_readHead_95
    refine hTake m xAt_T ht (fun x1 x2 m1 => ?_) (fun x1 => bad _ (HB_fl m xAt_T (by decide) (by rw [s, x1]; exact pb_n three_ne)))
    rw [pb_e x1] at s
    generalize hd : hC0 tk a + 1 = d at *
    refine hNow m1 (fun _ => ⟨fun z => ?_, fun z => ?_⟩)
    · rw [if_pos z] at s
      have e11 : uG G 7 8 d 7 11 = bd b := by rw [uG_j (by decide), m.2 _ _ (by unfold xAt; omega)]; exact h11
      have e3 : uG G 7 8 d (bd b) 3 = k := by rw [uG_c (by unfold bd; omega), m.2 _ _ (by unfold xAt bd; omega)]; exact h3
      obtain ⟨b1, -⟩ := bd_ok hb.1 hb.2
      rw [e11]
      refine fun _ => ⟨b1, sX1_newRow hb e3 hk (fun y G42 hN => ⟨fun u => ?_, fun _ => ?_⟩) (fun y => ⟨fun _ => ?_, fun u => absurd u (by decide)⟩)⟩
      · unfold rw_ at u; omega
      · rw [if_pos y] at s
        obtain ⟨r1, -⟩ := rw_ok hb.1 hb.2 hk.1 y
        obtain ⟨n3, n1, n2, n7, n8, n9, n13, n15, n18, c0, c1, c2, nf⟩ := hN
        have hr9 : 985 ≤ rw_ b k := by unfold rw_; omega
        have hrb : bd b < rw_ b k := by unfold rw_ bd; omega
        have hX' : ∀ c j, rw_ b k ≤ c → c ≤ rw_ b k + 4 → xHead b k c j := fun c j q1 q2 => Or.inr (Or.inl ⟨q1, q2⟩)
        have m42 : HS (xHead b k) G0 G42 tk cd c d := by
          have f : FR (xHead b k) (uG G 7 8 d) G42 := fun c' j' q => nf c' j' (fun e => q (hX' c' j' (by omega) (by omega))) (fun e => q (hX' c' j' (by omega) (by omega))) (fun e => q (Or.inr (Or.inr e)))
          obtain ⟨⟨p1, p2, p3, p4, p5, p6, p7⟩, f0⟩ := m1
          exact ⟨⟨PT_FR p1 f hX, by rw [nf _ _ (by omega) (by omega) (by unfold bd; omega)]; exact p2, by rw [nf _ _ (by omega) (by omega) (by unfold bd; omega)]; exact p3, p4, p5, p6, CD_FR p7 f hX⟩, FR_tr (FR_mono sub f0) f⟩
        subst hl1 hl3
        refine ⟨r1, o01, fun G51 e51 => ⟨o01, fun G53 e53 => ?_⟩⟩
        have m53 : HS (xHead b k) G0 G53 tk cd c d := by rw [e53, e51]; exact HS_st (HS_st m42 (hX' _ _ (by omega) (by omega)) (by omega)) (hX' _ _ (by omega) (by omega)) (by omega)
        have fin : ∀ G60, HS (xHead b k) G0 G60 tk cd c d → (∀ c' j', ¬ (c' = rw_ b k ∧ j' = 5) → G60 c' j' = G53 c' j') → G60 (rw_ b k) 5 = b01 (tk (hB0 tk a) = 20) → ∀ s6, s6 = b01 (tk (hB0 tk a) = 21) → PX9_readHead_182 (b01 (tk a = 17)) (tk (hB0 tk a)) (b01 (tk (hC0 tk a) = 11 ∧ tk (hB0 tk a) = 11)) (rw_ b k) (rw_ b k) s6 G60 Q := by
          intro G60 m60 k60 v5 s6 hs6
          subst hs6
          unfold PX9_readHead_182 PX9_readHead_239 PX9_readHead_240
          refine ⟨r1, o01, fun G64 e64 => ?_⟩
          have m64 : HS (xHead b k) G0 G64 tk cd c d := by rw [e64]; exact HS_st m60 (hX' _ _ (by omega) (by omega)) (by omega)
          have q0 : 0 ≤ d := m64.1.2.2.2.1
          have q7 : d ≤ 700 := m64.1.2.2.2.2.1
          rw [m64.1.2.1, m64.1.2.2.2.2.2.2 _ (by omega) (by omega)]
          refine fun _ => ⟨by omega, by omega, fun _ => ⟨r1, fun G70 e70 => ?_⟩⟩
          have m70 : HS (xHead b k) G0 G70 tk cd c d := by rw [e70]; exact HS_st m64 (hX' _ _ (by omega) (by omega)) (by omega)
          rw [m70.1.2.1]
          refine fun _ G72 e72 => ?_
          have m72 : HS (xHead b k) G0 G72 tk cd c d := by rw [e72]; exact HS_st m70 (hX' _ _ (by omega) (by omega)) (by omega)
          refine hTake m72 hX (by omega) (fun x3 x4 m73 => ?_) (fun x3 => hQ (-1) _ (HB_R (HB_fl m72 hX (by decide) (by rw [s, x3]; exact pb_n three_ne))))
          rw [pb_e x3] at s
          -- the row's cells before PARENTS
          have kr : ∀ c' j', ¬ (c' = 7 ∧ j' = 8) → ¬ (c' = rw_ b k ∧ (j' = 1 ∨ j' = 2 ∨ j' = 3 ∨ j' = 4 ∨ j' = 5 ∨ j' = 6)) → uG G72 7 8 (d + 1) c' j' = G42 c' j' := fun c' j' q1 q2 => by
            rw [uG_ne (by omega), e72, uG_ne (by omega), e70, uG_ne (by omega), e64, uG_ne (by omega), k60 _ _ (by omega), e53, uG_ne (by omega), e51, uG_ne (by omega)]
          have v1 : uG G72 7 8 (d + 1) (rw_ b k) 1 = cd d := by rw [uG_c (by omega), e72, uG_j (by decide), e70, uG_at]
          have v2 : uG G72 7 8 (d + 1) (rw_ b k) 2 = d := by rw [uG_c (by omega), e72, uG_at]
          have v6 : uG G72 7 8 (d + 1) (rw_ b k) 6 = b01 (tk (hB0 tk a) = 21) := by rw [uG_c (by omega), e72, uG_j (by decide), e70, uG_j (by decide), e64, uG_at]
          have v5' : uG G72 7 8 (d + 1) (rw_ b k) 5 = b01 (tk (hB0 tk a) = 20) := by rw [uG_c (by omega), e72, uG_j (by decide), e70, uG_j (by decide), e64, uG_j (by decide)]; exact v5
          have v4 : uG G72 7 8 (d + 1) (rw_ b k) 4 = b01 (tk (hC0 tk a) = 11 ∧ tk (hB0 tk a) = 11) := by rw [uG_c (by omega), e72, uG_j (by decide), e70, uG_j (by decide), e64, uG_j (by decide), k60 _ _ (by omega), e53, uG_at]
          have v3 : uG G72 7 8 (d + 1) (rw_ b k) 3 = b01 (tk a = 17) := by rw [uG_c (by omega), e72, uG_j (by decide), e70, uG_j (by decide), e64, uG_j (by decide), k60 _ _ (by omega), e53, uG_j (by decide), e51, uG_at]
          generalize uG G72 7 8 (d + 1) = G73 at *
          refine parents_ok r1 hr9 ⟨m73.1, FR_id⟩ (by rw [kr _ _ (by omega) (by omega)]; exact c0) (by rw [kr _ _ (by omega) (by omega)]; exact c1) (by rw [kr _ _ (by omega) (by omega)]; exact c2) (by rw [kr _ _ (by omega) (by omega)]; exact n7) (fun v G77 h => ?_)
          obtain ⟨⟨f, g, kk⟩, h4, h5⟩ := h
          have f' : FR (xHead b k) G73 G77 := FR_mono (fun c j q => q.elim Or.inl (fun q => hX' c j q.1 q.2)) f
          by_cases e : (pparents tk (d + 1)).1 = 0
          · have ev := h5 e
            subst ev
            rw [pb_0 e] at s
            obtain ⟨t1, t2, t3, t4, t5, t6⟩ := kk e
            have m77 : HS (xHead b k) G0 G77 tk cd c (pparents tk (d + 1)).2 := by
              obtain ⟨⟨p1, p2, p3, p4, p5, p6, p7⟩, f0⟩ := m73
              exact ⟨⟨PT_FR p1 f' hX, t2, t1, by omega, t4, t5, CD_FR p7 f' hX⟩, FR_tr f0 f'⟩
            have last : ∀ j, j ≠ 7 → j ≠ 8 → j ≠ 9 → G77 (rw_ b k) j = G73 (rw_ b k) j := fun j q1 q2 q3 => t6.2.2.2.2.2.2 _ _ (by unfold xAt; omega) (by omega) (by omega) (by omega)
            refine fun _ => ⟨fun u => absurd u (by decide), fun _ => hNeed m77 hX (by decide) (fun y1 y2 y3 m78 => hQ (rw_ b k) _ ⟨HS_end m78 (s.trans y1) (by omega) ?_, fun u => ?_, fun _ => rfl⟩) (fun n y1 y2 => hQ (-1) _ (HB_R (HB_fl m77 hX y1 (s.trans y2))))⟩
            · have w : ∀ c' j', c' ≠ 7 → uG G77 7 8 ((pparents tk (d + 1)).2 + 1) c' j' = G77 c' j' := fun c' j' q => uG_c q
              refine ⟨?_, ?_, ?_, ?_, ?_, ?_, ?_, ?_, ?_, ?_, G73, ?_, ?_, ?_⟩
              · rw [w _ _ (by unfold bd; omega), t6.2.2.2.2.2.2 _ _ (by unfold xAt bd; omega) (by omega) (by omega) (by omega), kr _ _ (by unfold bd; omega) (by omega)]; exact n3
              · rw [hd, w _ _ (by omega), last _ (by decide) (by decide) (by decide)]; exact v1
              · rw [hd, w _ _ (by omega), last _ (by decide) (by decide) (by decide)]; exact v2
              · rw [w _ _ (by omega), last _ (by decide) (by decide) (by decide)]; exact v3
              · rw [w _ _ (by omega), last _ (by decide) (by decide) (by decide)]; exact v4
              · rw [w _ _ (by omega), last _ (by decide) (by decide) (by decide)]; exact v5'
              · rw [w _ _ (by omega), last _ (by decide) (by decide) (by decide)]; exact v6
              · rw [w _ _ (by omega), last _ (by decide) (by decide) (by decide), kr _ _ (by omega) (by omega)]; exact n13
              · rw [w _ _ (by omega), last _ (by decide) (by decide) (by decide), kr _ _ (by omega) (by omega)]; exact n15
              · rw [w _ _ (by omega), last _ (by decide) (by decide) (by decide), kr _ _ (by omega) (by omega)]; exact n18
              · rw [kr _ _ (by omega) (by omega)]; exact n8
              · rw [kr _ _ (by omega) (by omega)]; exact n9
              · obtain ⟨u1, u2, u3, u4, u5, u6, u7⟩ := t6
                rw [hd]
                have lk : ∀ w' n' e', LS3 cd (rw_ b k) w' n' e' G77 → LS3 cd (rw_ b k) w' n' e' (uG G77 7 8 ((pparents tk (d + 1)).2 + 1)) := fun w' n' e' q => ⟨by rw [w _ _ (by omega)]; exact q.1, fun j i1 i2 => by rw [w _ _ (by omega)]; exact q.2 j i1 i2⟩
                exact ⟨by rw [w _ _ (by omega)]; exact u1, by rw [w _ _ (by omega)]; exact u2, by rw [w _ _ (by omega)]; exact u3, lk _ _ _ u4, lk _ _ _ u5, lk _ _ _ u6, fun c' j' i1 i2 i3 i4 => by
                  have i1' := i1
                  unfold xAt at i1
                  rw [uG_ne (by omega)]; exact u7 c' j' i1' i2 i3 i4⟩
            · rw [s, y1] at u; exact absurd rfl u
          · have ev := h4 e
            subst ev
            have g' := g e
            rw [pb_n e] at s
            exact fun _ => ⟨fun _ => hQ (-1) G77 (HB_R ⟨FR_tr m73.2 f', by rw [s]; exact g'.1, by rw [s]; exact g'.2, by rw [s]; exact e⟩), fun u => absurd rfl u⟩
        have fin6 : ∀ G60, HS (xHead b k) G0 G60 tk cd c d → (∀ c' j', ¬ (c' = rw_ b k ∧ j' = 5) → G60 c' j' = G53 c' j') → G60 (rw_ b k) 5 = b01 (tk (hB0 tk a) = 20) → ((tk (hB0 tk a) = 21 → PX9_readHead_182 (b01 (tk a = 17)) (tk (hB0 tk a)) (b01 (tk (hC0 tk a) = 11 ∧ tk (hB0 tk a) = 11)) (rw_ b k) (rw_ b k) 1 G60 Q) ∧ (¬ (tk (hB0 tk a) = 21) → PX9_readHead_182 (b01 (tk a = 17)) (tk (hB0 tk a)) (b01 (tk (hC0 tk a) = 11 ∧ tk (hB0 tk a) = 11)) (rw_ b k) (rw_ b k) 0 G60 Q)) := fun G60 q1 q2 q3 => ⟨fun z => fin G60 q1 q2 q3 1 (by unfold b01; rw [if_pos z]), fun z => fin G60 q1 q2 q3 0 (by unfold b01; rw [if_neg z])⟩
        unfold PX9_readHead_166
        refine ⟨fun z => ⟨r1, by omega, fun G60 e60 => fin6 G60 (by rw [e60]; exact HS_st m53 (hX' _ _ (by omega) (by omega)) (by omega)) (fun c' j' q => by rw [e60, uG_ne (by omega)]) (by rw [e60, uG_at]; unfold b01; rw [if_pos z])⟩, fun z => ⟨r1, by omega, fun G60 e60 => fin6 G60 (by rw [e60]; exact HS_st m53 (hX' _ _ (by omega) (by omega)) (by omega)) (fun c' j' q => by rw [e60, uG_ne (by omega)]) (by rw [e60, uG_at]; unfold b01; rw [if_neg z])⟩⟩
      · rw [if_neg y] at s
        exact hStop m1 xAt_T (by decide) s (fun G' h => fun _ => bad G' h)
    · rw [if_neg z] at s
      exact hMiss m1 xAt_T s (fun G' h => fun _ => bad G' h)
  -- behind final, bare
  have rest54 : ∀ G l1, HS xAt G0 G tk cd c (hC0 tk a) → (r0 = if (tk (hC0 tk a) = 11 ∧ tk (hB0 tk a) = 11) ∨ tk (hC0 tk a) = 10 then pb (ptake (hC0 tk a)) fun d => if tk d = 2 then (if k < 12 then pb (ptake d) fun e => pb (pparents tk e) (pneed tk 223) else (3, d)) else pmiss tk d else pmiss tk (hC0 tk a)) → a ≤ hC0 tk a → l1 = b01 (tk a = 17) → PX9_readHead_54 l1 (tk (hB0 tk a)) G Q := by
    intro G l1 m s hc hl
    have no : ¬ (tk (hC0 tk a) = 11 ∧ tk (hB0 tk a) = 11) → PX9_readHead_73 l1 (tk (hB0 tk a)) G Q := fun z => by
      unfold PX9_readHead_73 PX9_readHead_74
      refine ⟨fun _ => hNow m (fun _ => ⟨fun y => ?_, fun y => ?_⟩), fun u => absurd rfl u⟩
      · rw [if_pos (Or.inr y)] at s
        exact rest95 G l1 0 m (by omega) s hc hl (by unfold b01; rw [if_neg z])
      · rw [if_neg (fun q => q.elim z y)] at s
        exact hMiss m xAt_T s (fun G' h => fun _ => bad G' h)
    unfold PX9_readHead_54
    refine hNow m (fun _ => ⟨fun z => ⟨fun y => ?_, fun y => no (fun q => y q.2)⟩, fun z => no (fun q => z q.1)⟩)
    unfold PX9_readHead_74
    rw [if_pos (Or.inl ⟨z, y⟩)] at s
    exact ⟨fun u => absurd u (by decide), fun _ => rest95 G l1 1 m (by omega) s hc hl (by unfold b01; rw [if_pos ⟨z, y⟩])⟩
  -- behind open
  have rest28 : ∀ G l1, HS xAt G0 G tk cd c (hB0 tk a) → (r0 = pb (pfb tk (hB0 tk a)) fun c => if (tk c = 11 ∧ tk (hB0 tk a) = 11) ∨ tk c = 10 then pb (ptake c) fun d => if tk d = 2 then (if k < 12 then pb (ptake d) fun e => pb (pparents tk e) (pneed tk 223) else (3, d)) else pmiss tk d else pmiss tk c) → a ≤ hB0 tk a → l1 = b01 (tk a = 17) → PX9_readHead_28 l1 G Q := by
    intro G l1 m s hc hl
    have yes : tk (hB0 tk a) = 20 ∨ tk (hB0 tk a) = 21 → PX9_readHead_45 l1 (tk (hB0 tk a)) G Q := fun z => by
      have sp : pfb tk (hB0 tk a) = ptake (hB0 tk a) := if_pos z
      unfold PX9_readHead_45
      refine hTake m xAt_T (by omega) (fun x1 x2 m1 => ?_) (fun x1 => bad _ (HB_fl m xAt_T (by decide) (by rw [s, sp, x1]; exact pb_n three_ne)))
      have hC : hC0 tk a = hB0 tk a + 1 := by unfold hC0; rw [sp, x1]
      rw [sp, pb_e x1] at s
      exact rest54 _ l1 (by rw [hC]; exact m1) (by rw [hC]; exact s) (by omega) hl
    unfold PX9_readHead_28
    refine hNow m (fun _ => ⟨fun z => yes (Or.inl z), fun z1 => ⟨fun z => yes (Or.inr z), fun z2 => ?_⟩⟩)
    have sp : pfb tk (hB0 tk a) = (0, hB0 tk a) := if_neg (fun q => q.elim z1 z2)
    have hC : hC0 tk a = hB0 tk a := by unfold hC0; rw [sp]
    rw [sp] at s
    exact rest54 _ l1 (by rw [hC]; exact m) (by rw [hC]; exact s) (by omega) hl
  unfold PX9_readHead PX9_readHead_0 PX9_readHead_14
  refine hNow hs (fun _ => ⟨fun z => ⟨fun u => absurd u (by decide), fun _ => ?_⟩, fun z => ⟨fun _ => ?_, fun u => absurd rfl u⟩⟩)
  · have sp : popt tk 17 a = ptake a := if_pos z
    refine hTake hs xAt_T (by omega) (fun x1 x2 m1 => ?_) (fun x1 => bad _ (HB_fl hs xAt_T (by decide) (by rw [spec, sp, x1]; exact pb_n three_ne)))
    have hB : hB0 tk a = a + 1 := by unfold hB0; rw [sp, x1]
    rw [sp, pb_e x1] at spec
    exact rest28 _ 1 (by rw [hB]; exact m1) (by rw [hB]; exact spec) (by omega) (by unfold b01; rw [if_pos z])
  · have sp : popt tk 17 a = (0, a) := if_neg z
    have hB : hB0 tk a = a := by unfold hB0; rw [sp]
    rw [sp] at spec
    exact rest28 _ 0 (by rw [hB]; exact hs) (by rw [hB]; exact spec) (by omega) (by unfold b01; rw [if_neg z])
end CH5

section CH3
variable {tk cd : Int → Int} {c r w most : Int} {G0 G : gS}
theorem hList {word a : Int} {A B : gS → Prop} (hr : isO W0 10 r) (hr9 : 985 ≤ r) (hw : 0 ≤ w ∧ w < 3) (hm : 0 ≤ most ∧ most ≤ 8) (hs : HS (xRow r) G0 G tk cd c a) (h0 : G (r + 2) w = 0) (hwd : word ≠ 0) (h1 : ∀ G', (plist tk word most a).1 = 0 → HS (xRow r) G0 G' tk cd c (plist tk word most a).2 → a ≤ (plist tk word most a).2 → LsP tk cd r w 0 a (lLst tk word a) G G' → B G') (h2 : ∀ G', (plist tk word most a).1 ≠ 0 → HB (xRow r) G0 G' (plist tk word most a) → A G') : PX9_readList r word w most G (fun v G' => (0 ≤ v ∧ v ≤ 1) → ((v = 0 → A G') ∧ (¬ (v = 0) → B G'))) := by
  refine list_ok hr hr9 hw hm ⟨hs.1, FR_id⟩ h0 hwd (fun v G' h => ?_)
  obtain ⟨⟨f, g, k⟩, h4, h5⟩ := h
  have hX := xRow_T hr9
  by_cases e : (plist tk word most a).1 = 0
  · have ev := h5 e
    subst ev
    obtain ⟨q1, q2, q3, q4, q5, q6⟩ := k e
    obtain ⟨⟨p1, p2, p3, p4, p5, p6, p7⟩, f0⟩ := hs
    exact fun _ => ⟨fun z => absurd z (by decide), fun _ => h1 G' e ⟨⟨PT_FR p1 f hX, q2, q1, by omega, q4, q5, CD_FR p7 f hX⟩, FR_tr f0 f⟩ q3 q6⟩
  · have ev := h4 e
    subst ev
    have g' := g e
    exact fun _ => ⟨fun _ => h2 G' e ⟨FR_tr hs.2 f, g'.1, g'.2, e⟩, fun z => absurd rfl z⟩
-- where the parts of PARENTS stand
def qa1 (tk : Int → Int) (a : Int) : Int := (pname1 tk 13 a).2
def qa2 (tk : Int → Int) (a : Int) : Int := (plist tk 12 4 (qa1 tk a)).2
def qa3 (tk : Int → Int) (a : Int) : Int := (pname1 tk 14 (qa2 tk a)).2
def qa4 (tk : Int → Int) (a : Int) : Int := (plist tk 15 8 (qa3 tk a)).2
def LS3 (cd : Int → Int) (r w n e : Int) (G : gS) : Prop := G (r + 2) w = n ∧ ∀ j, 0 ≤ j → j < n → G (r + 1) (w * 8 + j) = cd (e + 1 + 2 * j)
theorem LsP_3 {a n : Int} {G' : gS} (h : LsP tk cd r w 0 a n G G') : LS3 cd r w n a G' := ⟨by rw [h.1]; omega, fun j x y => by
  have := h.2.1 j x y
  rwa [show 0 + j = j by omega] at this⟩
theorem LsP_keep {a n w' n' e : Int} {G' : gS} (h : LsP tk cd r w 0 a n G G') (hr9 : 985 ≤ r) (hw : w' < w ∨ w < w') (hn : n' ≤ 8) (k : LS3 cd r w' n' e G) : LS3 cd r w' n' e G' := ⟨by rw [h.2.2 _ _ (by unfold xAt; omega) (by omega) (by omega)]; exact k.1, fun j x y => by
  rw [h.2.2 _ _ (by unfold xAt; omega) (by omega) (by omega)]; exact k.2 j x y⟩
theorem LsP_r {a n c' j' : Int} {G' : gS} (h : LsP tk cd r w 0 a n G G') (h1 : ¬ xAt c' j') (h2 : c' ≠ r + 1) (h3 : ¬ (c' = r + 2 ∧ j' = w)) : G' c' j' = G c' j' := h.2.2 _ _ h1 h3 (by omega)
def PaP (tk cd : Int → Int) (r a : Int) (G G' : gS) : Prop := G' r 7 = (if tk a = 13 then 1 else 0) ∧ G' r 8 = (if tk a = 13 then cd (a + 1) else G r 8) ∧ G' r 9 = (if tk (qa2 tk a) = 14 then cd (qa2 tk a + 1) else G r 9) ∧ LS3 cd r 0 (lLst tk 12 (qa1 tk a)) (qa1 tk a) G' ∧ LS3 cd r 1 (lLst tk 15 (qa3 tk a)) (qa3 tk a) G' ∧ LS3 cd r 2 (lLst tk 16 (qa4 tk a)) (qa4 tk a) G' ∧ ∀ c' j', ¬ xAt c' j' → c' ≠ r + 1 → c' ≠ r + 2 → ¬ (c' = r ∧ (j' = 7 ∨ j' = 8 ∨ j' = 9)) → G' c' j' = G c' j'
theorem nLst_most {most : Int} : ∀ (f : Nat) (k a : Int), (plistL tk most f k a).1 = 0 → k + nLst tk f a ≤ most
  | 0, k, a, h => by exact absurd h (by show (9 : Int) ≠ 0; decide)
  | f + 1, k, a, h => by
    unfold plistL at h
    by_cases e : a < 700
    · have et : ptake a = (0, a + 1) := if_neg (by omega)
      rw [pb_e et] at h
      by_cases z : tk (a + 1) = 2
      · rw [if_pos z] at h
        by_cases y : k < most
        · rw [if_pos y] at h
          by_cases e2 : a + 1 < 700
          · have et2 : ptake (a + 1) = (0, a + 1 + 1) := if_neg (by omega)
            rw [pb_e et2] at h
            show k + (if tk (a + 2) = 144 then 1 + nLst tk f (a + 2) else 1) ≤ most
            rw [show a + 2 = a + 1 + 1 by omega]
            by_cases x : tk (a + 1 + 1) = 144
            · rw [if_pos x] at h
              rw [if_pos x]
              have := nLst_most f (k + 1) (a + 1 + 1) h
              omega
            · rw [if_neg x]; omega
          · have et2 : ptake (a + 1) = (3, a + 1) := if_pos (by omega)
            rw [et2, pb_n three_ne] at h
            exact absurd h three_ne
        · rw [if_neg y] at h
          exact absurd h three_ne
      · rw [if_neg z] at h
        exact absurd h (pmiss_ne (tk := tk) _)
    · have et : ptake a = (3, a) := if_pos (by omega)
      rw [et, pb_n three_ne] at h
      exact absurd h three_ne
theorem lLst_most {word a : Int} (hm : 0 ≤ most) (h : (plist tk word most a).1 = 0) : lLst tk word a ≤ most := by
  unfold plist at h
  unfold lLst
  by_cases z : tk a = word
  · rw [if_pos z] at h ⊢
    have := nLst_most (tk := tk) 702 0 a h
    omega
  · rw [if_neg z]; exact hm
theorem parents_ok {a : Int} {Q : Int → gS → Prop} (hr : isO W0 10 r) (hr9 : 985 ≤ r) (hs : HS (xRow r) G0 G0 tk cd c a) (c0 : G0 (r + 2) 0 = 0) (c1 : G0 (r + 2) 1 = 0) (c2 : G0 (r + 2) 2 = 0) (c7 : G0 r 7 = 0) (hQ : ∀ v G', PsB (xRow r) G0 G' c a v (pparents tk a) (PaP tk cd r a G0) → Q v G') : PX9_readParents r G0 Q := by
  have hX := xRow_T hr9
  have ha7 : a ≤ 700 := hs.1.2.2.2.2.1
  have ha0 : 0 ≤ a := hs.1.2.2.2.1
  have spec : pparents tk a = pb (pname1 tk 13 a) fun b => pb (plist tk 12 4 b) fun c => pb (pname1 tk 14 c) fun d => pb (plist tk 15 8 d) (plist tk 16 8) := rfl
  generalize hr0 : pparents tk a = r0 at *
  -- behind in C
  have rest2 : ∀ G, HS (xRow r) G0 G tk cd c (qa3 tk a) → r0 = (pb (plist tk 15 8 (qa3 tk a)) (plist tk 16 8)) → a ≤ qa3 tk a → G r 7 = (if tk a = 13 then 1 else 0) → G r 8 = (if tk a = 13 then cd (a + 1) else G0 r 8) → G r 9 = (if tk (qa2 tk a) = 14 then cd (qa2 tk a + 1) else G0 r 9) → LS3 cd r 0 (lLst tk 12 (qa1 tk a)) (qa1 tk a) G → lLst tk 12 (qa1 tk a) ≤ 4 → G (r + 2) 1 = 0 → G (r + 2) 2 = 0 → (∀ c' j', ¬ xAt c' j' → c' ≠ r + 1 → c' ≠ r + 2 → ¬ (c' = r ∧ (j' = 7 ∨ j' = 8 ∨ j' = 9)) → G c' j' = G0 c' j') → PX9_readParents_121 r G Q := by
    intro G m s ha g7 g8 g9 L0 n0 g1 g2 gf
    unfold PX9_readParents_121 PX9_readParents_151 PX9_readParents_152
    have o1 : (0 : Int) ≤ 1 ∧ (1 : Int) ≤ 1 := by omega
    have o0 : (0 : Int) ≤ 0 ∧ (0 : Int) ≤ 1 := by omega
    refine hList hr hr9 (by omega) (by omega) m g1 (by decide) (fun G1 e1 m1 l1 L1 => ?_) (fun G1 e1 b1 => ⟨o0, hQ 0 G1 (HB_B (by rw [s, pb_n e1]; exact b1))⟩)
    rw [pb_0 e1] at s
    have n1 := lLst_most (tk := tk) (by decide) e1
    refine hList hr hr9 (by omega) (by omega) m1 (by rw [LsP_r L1 (by unfold xAt; omega) (by omega) (by omega)]; exact g2) (by decide) (fun G2 e2 m2 l2 L2 => ⟨o1, hQ 1 G2 (HS_B m2 (s.trans (Prod.ext e2 rfl)) ?_ ?_)⟩) (fun G2 e2 b2 => ⟨o0, hQ 0 G2 (HB_B (by rw [s]; exact b2))⟩)
    · show a ≤ _
      omega
    · have kr : ∀ j', G2 r j' = G r j' := fun j' => by rw [LsP_r L2 (by unfold xAt; omega) (by omega) (by omega), LsP_r L1 (by unfold xAt; omega) (by omega) (by omega)]
      refine ⟨by rw [kr]; exact g7, by rw [kr]; exact g8, by rw [kr]; exact g9, ?_, ?_, LsP_3 L2, fun c' j' y1 y2 y3 y4 => ?_⟩
      · exact LsP_keep L2 hr9 (by omega) (by omega) (LsP_keep L1 hr9 (by omega) (by omega) L0)
      · exact LsP_keep L2 hr9 (by omega) n1 (LsP_3 L1)
      · rw [LsP_r L2 y1 y2 (by omega), LsP_r L1 y1 y2 (by omega)]; exact gf c' j' y1 y2 y3 y4
  -- behind is C
  have rest : ∀ G, HS (xRow r) G0 G tk cd c (qa1 tk a) → r0 = (pb (plist tk 12 4 (qa1 tk a)) fun c => pb (pname1 tk 14 c) fun d => pb (plist tk 15 8 d) (plist tk 16 8)) → a ≤ qa1 tk a → G r 7 = (if tk a = 13 then 1 else 0) → G r 8 = (if tk a = 13 then cd (a + 1) else G0 r 8) → (∀ c' j', ¬ xAt c' j' → ¬ (c' = r ∧ (j' = 7 ∨ j' = 8)) → G c' j' = G0 c' j') → PX9_readParents_56 r G Q := by
    intro G m s ha g7 g8 gf
    have gr : ∀ w, G (r + 2) w = G0 (r + 2) w := fun w => gf _ _ (by unfold xAt; omega) (by omega)
    unfold PX9_readParents_56
    refine hList hr hr9 (by omega) (by omega) m (by rw [gr]; exact c0) (by decide) (fun G1 e1 m1 l1 L1 => ?_) (fun G1 e1 b1 => hQ 0 G1 (HB_B (by rw [s, pb_n e1]; exact b1)))
    rw [pb_0 e1] at s
    have n0 := lLst_most (tk := tk) (by decide) e1
    change HS (xRow r) G0 G1 tk cd c (qa2 tk a) at m1
    change qa1 tk a ≤ qa2 tk a at l1
    change r0 = pb (pname1 tk 14 (qa2 tk a)) _ at s
    have q7 : qa2 tk a ≤ 700 := m1.1.2.2.2.2.1
    have k1 : ∀ c' j', ¬ xAt c' j' → c' ≠ r + 1 → ¬ (c' = r + 2 ∧ j' = 0) → G1 c' j' = G c' j' := fun c' j' y1 y2 y3 => LsP_r L1 y1 y2 y3
    have f1 : ∀ c' j', ¬ xAt c' j' → c' ≠ r + 1 → c' ≠ r + 2 → ¬ (c' = r ∧ (j' = 7 ∨ j' = 8 ∨ j' = 9)) → G1 c' j' = G0 c' j' := fun c' j' y1 y2 y3 y4 => by rw [k1 c' j' y1 y2 (by omega), gf c' j' y1 (by omega)]
    refine hNow m1 (fun _ => ⟨fun z => ?_, fun z => ?_⟩)
    · have sn : pname1 tk 14 (qa2 tk a) = pb (ptake (qa2 tk a)) fun b => if tk b = 2 then ptake b else pmiss tk b := if_pos z
      rw [sn] at s
      refine hTake m1 hX (by omega) (fun x1 x2 m2 => ?_) (fun x1 => ?_)
      · rw [pb_e x1] at s sn
        refine hNow m2 (fun _ => ⟨fun z2 => ?_, fun z2 => ?_⟩)
        · rw [if_pos z2] at s sn
          rw [uG_at, show uG G1 7 8 (qa2 tk a + 1) 12 (qa2 tk a + 1) = cd (qa2 tk a + 1) from m2.1.2.2.2.2.2.2 _ (by omega) (by omega)]
          refine fun _ => ⟨by omega, by omega, fun _ => ⟨hr, fun G3 e3 => ?_⟩⟩
          have m3 : HS (xRow r) G0 G3 tk cd c (qa2 tk a + 1) := by rw [e3]; exact HS_st m2 (Or.inr (by omega)) (by omega)
          refine hTake m3 hX (by omega) (fun x3 x4 m4 => ?_) (fun x3 => hQ 0 _ (HB_B (HB_fl m3 hX (by decide) (by rw [s, x3]; exact pb_n three_ne))))
          rw [pb_e x3] at s
          have q3 : qa3 tk a = qa2 tk a + 1 + 1 := by unfold qa3; rw [sn, x3]
          have k4 : ∀ c' j', ¬ xAt c' j' → ¬ (c' = r ∧ j' = 9) → uG G3 7 8 (qa2 tk a + 1 + 1) c' j' = G1 c' j' := fun c' j' y1 y2 => by
            unfold xAt at y1
            rw [uG_ne (by omega), e3, uG_ne (by omega), uG_ne (by omega)]
          refine rest2 _ (by rw [q3]; exact m4) (by rw [q3]; exact s) (by omega) ?_ ?_ ?_ ?_ n0 ?_ ?_ (fun c' j' y1 y2 y3 y4 => by rw [k4 c' j' y1 (by omega)]; exact f1 c' j' y1 y2 y3 y4)
          · rw [k4 _ _ (by unfold xAt; omega) (by omega), k1 _ _ (by unfold xAt; omega) (by omega) (by omega)]; exact g7
          · rw [k4 _ _ (by unfold xAt; omega) (by omega), k1 _ _ (by unfold xAt; omega) (by omega) (by omega)]; exact g8
          · rw [if_pos z, uG_c (by omega), e3, uG_at]
          · obtain ⟨L3, L4⟩ := LsP_3 L1
            exact ⟨by rw [k4 _ _ (by unfold xAt; omega) (by omega)]; exact L3, fun j y1 y2 => by rw [k4 _ _ (by unfold xAt; omega) (by omega)]; exact L4 j y1 y2⟩
          · rw [k4 _ _ (by unfold xAt; omega) (by omega), k1 _ _ (by unfold xAt; omega) (by omega) (by omega), gr]; exact c1
          · rw [k4 _ _ (by unfold xAt; omega) (by omega), k1 _ _ (by unfold xAt; omega) (by omega) (by omega), gr]; exact c2
        · rw [if_neg z2, pb_n (pmiss_ne (tk := tk) _)] at s
          unfold PX9_readParents_94
          exact hMiss m2 hX s (fun G' h => fun _ => hQ 0 G' (HB_B h))
      · have hb : HB (xRow r) G0 _ r0 := HB_fl (m := 3) (x := qa2 tk a) m1 hX (by decide) (by rw [s, x1, pb_n three_ne]; exact pb_n three_ne)
        unfold PX9_readParents_94
        exact hMiss_on hb (fun _ => hQ 0 _ (HB_B hb))
    · have sn : pname1 tk 14 (qa2 tk a) = (0, qa2 tk a) := if_neg z
      have q3 : qa3 tk a = qa2 tk a := by unfold qa3; rw [sn]
      rw [sn] at s
      refine rest2 _ (by rw [q3]; exact m1) (by rw [q3]; exact s) (by omega) ?_ ?_ ?_ (LsP_3 L1) n0 ?_ ?_ f1
      · rw [k1 _ _ (by unfold xAt; omega) (by omega) (by omega)]; exact g7
      · rw [k1 _ _ (by unfold xAt; omega) (by omega) (by omega)]; exact g8
      · rw [if_neg z, k1 _ _ (by unfold xAt; omega) (by omega) (by omega)]; exact gf _ _ (by unfold xAt; omega) (by omega)
      · rw [k1 _ _ (by unfold xAt; omega) (by omega) (by omega), gr]; exact c1
      · rw [k1 _ _ (by unfold xAt; omega) (by omega) (by omega), gr]; exact c2
  unfold PX9_readParents PX9_readParents_0
  refine hNow hs (fun _ => ⟨fun z => ?_, fun z => ?_⟩)
  · have sn : pname1 tk 13 a = pb (ptake a) fun b => if tk b = 2 then ptake b else pmiss tk b := if_pos z
    rw [sn] at spec
    refine hTake hs hX (by omega) (fun x1 x2 m2 => ?_) (fun x1 => ?_)
    · rw [pb_e x1] at spec sn
      refine hNow m2 (fun _ => ⟨fun z2 => ?_, fun z2 => ?_⟩)
      · rw [if_pos z2] at spec sn
        refine ⟨hr, fun G14 e14 => ?_⟩
        have m14 : HS (xRow r) G0 G14 tk cd c (a + 1) := by rw [e14]; exact HS_st m2 (Or.inr (by omega)) (by omega)
        rw [m14.1.2.1, m14.1.2.2.2.2.2.2 _ (by omega) (by omega)]
        refine fun _ => ⟨by omega, by omega, fun _ G3 e3 => ?_⟩
        have m3 : HS (xRow r) G0 G3 tk cd c (a + 1) := by rw [e3]; exact HS_st m14 (Or.inr (by omega)) (by omega)
        refine hTake m3 hX (by omega) (fun x3 x4 m4 => ?_) (fun x3 => hQ 0 _ (HB_B (HB_fl m3 hX (by decide) (by rw [spec, x3]; exact pb_n three_ne))))
        rw [pb_e x3] at spec
        have q1 : qa1 tk a = a + 1 + 1 := by unfold qa1; rw [sn, x3]
        refine rest _ (by rw [q1]; exact m4) (by rw [q1]; exact spec) (by omega) ?_ ?_ (fun c' j' y1 y2 => ?_)
        · rw [if_pos z, uG_c (by omega), e3, uG_j (by decide), e14, uG_at]
        · rw [if_pos z, uG_c (by omega), e3, uG_at]
        · unfold xAt at y1
          rw [uG_ne (by omega), e3, uG_ne (by omega), e14, uG_ne (by omega), uG_ne (by omega)]
      · rw [if_neg z2, pb_n (pmiss_ne (tk := tk) _)] at spec
        unfold PX9_readParents_24
        exact hMiss m2 hX spec (fun G' h => fun _ => hQ 0 G' (HB_B h))
    · have hb : HB (xRow r) G0 _ r0 := HB_fl (m := 3) (x := a) hs hX (by decide) (by rw [spec, x1, pb_n three_ne]; exact pb_n three_ne)
      unfold PX9_readParents_24
      exact hMiss_on hb (fun _ => hQ 0 _ (HB_B hb))
  · have sn : pname1 tk 13 a = (0, a) := if_neg z
    have q1 : qa1 tk a = a := by unfold qa1; rw [sn]
    rw [sn] at spec
    refine rest _ (by rw [q1]; exact hs) (by rw [q1]; exact spec) (by omega) ?_ ?_ (fun _ _ _ _ => rfl)
    · rw [if_neg z]; exact c7
    · rw [if_neg z]
end CH3

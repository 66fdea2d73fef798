section CH8
variable {tk cd : Int → Int} {c a m : Int} {G0 G : gS}
theorem hParX {X : Int → Int → Prop} {A B : gS → Prop} (hX : XT X) (sub : ∀ c j, xMem m c j → X c j) (hm : isO W0 7 m) (hm1 : isA W0 1 4 (m + 1)) (hm9 : 985 ≤ m) (hs : HS X G0 G tk cd c a) (h9 : G m 9 = 0) (h1 : ∀ G', (pparams tk a).1 = 0 → HS X G0 G' tk cd c (pparams tk a).2 → a ≤ (pparams tk a).2 → PrsP tk cd m a G G' → B G') (h2 : ∀ G', (pparams tk a).1 ≠ 0 → HB X G0 G' (pparams tk a) → A G') : PX9_readParams m G (fun v G' => (0 ≤ v ∧ v ≤ 1) → ((v = 0 → A G') ∧ (¬ (v = 0) → B G'))) := by
  refine params_ok hm hm1 hm9 ⟨hs.1, FR_id⟩ h9 (fun v G' h => ?_)
  obtain ⟨⟨f', g, k⟩, h4, h5⟩ := h
  have f := FR_mono sub f'
  by_cases e : (pparams tk a).1 = 0
  · have ev := h5 e
    subst ev
    obtain ⟨q1, q2, q3, q4, q5, q6⟩ := k e
    obtain ⟨⟨p1, p2, p3, p4, p5, p6, p7⟩, f0⟩ := hs
    exact fun _ => ⟨fun z => absurd z (by decide), fun _ => h1 G' e ⟨⟨PT_FR p1 f hX, q2, q1, by omega, q4, q5, CD_FR p7 f hX⟩, FR_tr f0 f⟩ q3 q6⟩
  · have ev := h4 e
    subst ev
    have g' := g e
    exact fun _ => ⟨fun _ => h2 G' e ⟨FR_tr hs.2 f, g'.1, g'.2, e⟩, fun z => absurd rfl z⟩
def xTyp (m : Int) (c j : Int) : Prop := xMem m c j ∨ (c = 7 ∧ j = 12)
theorem xTyp_T (h : 985 ≤ m) : XT (xTyp m) := ⟨fun _ _ h => Or.inl (Or.inl h), by unfold xTyp xMem xAt; omega, fun _ => by unfold xTyp xMem xAt; omega, fun _ => by unfold xTyp xMem xAt; omega⟩
theorem HS_12 {X : Int → Int → Prop} {v : Int} (h : HS X G0 G tk cd c a) (hX : X 7 12) : HS X G0 (uG G 7 12 v) tk cd c a := by
  obtain ⟨⟨p1, p2, p3, p4, p5, p6, p7⟩, f⟩ := h
  exact ⟨⟨⟨by rw [uG_j (by decide)]; exact p1.1, p1.2.1, p1.2.2.1, fun a x y => by rw [uG_c (by omega)]; exact p1.2.2.2.1 a x y, p1.2.2.2.2⟩, by rw [uG_j (by decide)]; exact p2, by rw [uG_j (by decide)]; exact p3, p4, p5, p6, fun a x y => by rw [uG_c (by omega)]; exact p7 a x y⟩, FR_up f hX⟩
theorem hTakeQ {X : Int → Int → Prop} {Q : Int → gS → Prop} (h : HS X G0 G tk cd c a) (hX : XT X) (ht : tk a ≠ 0) (h1 : ptake a = (0, a + 1) → a < 700 → HS X G0 (uG G 7 8 (a + 1)) tk cd c (a + 1) → Q 1 (uG G 7 8 (a + 1))) (h2 : ptake a = (3, a) → Q 0 (fG G 3 a)) : PX9_take G Q := by
  have h' := h
  obtain ⟨⟨p1, p2, p3, p4, p5, p6, -⟩, -⟩ := h
  exact sX9_take p2 p3 p4 (fun x y => h1 x y (HS_tk h' hX y ht)) (fun x => h2 x)
def tType (tk cd : Int → Int) (a : Int) : Int := if tk a = 24 then -3 else cType tk cd a
def TyP (tk cd : Int → Int) (m a : Int) (G G' : gS) : Prop := G' m 8 = tType tk cd a ∧ G' m 11 = a + 1 ∧ G' m 7 = cd (a + 1) ∧ G' m 0 = (if tk (a + 2) = 140 then 1 else G m 0) ∧ G' 7 12 = kTyped tk a ∧ (tk (a + 2) = 140 → G' m 9 = lPar tk (a + 2) ∧ (∀ j, 0 ≤ j → j < lPar tk (a + 2) → G' (m + 1) j = cType tk cd (a + 2 + 1 + 3 * j)) ∧ ∀ j, lPar tk (a + 2) ≤ j → G' (m + 1) j = G (m + 1) j) ∧ (tk (a + 2) ≠ 140 → G' m 9 = G m 9 ∧ ∀ j, G' (m + 1) j = G (m + 1) j) ∧ ∀ j, ¬ (j = 0 ∨ j = 7 ∨ j = 8 ∨ j = 9 ∨ j = 11) → G' m j = G m j
theorem typed_ok {Q : Int → gS → Prop} (hm : isO W0 7 m) (hm1 : isA W0 1 4 (m + 1)) (hm9 : 985 ≤ m) (hs : HS (xTyp m) G0 G0 tk cd c a) (h9 : G0 m 9 = 0) (h12 : G0 7 12 = 223) (hQ : ∀ v G', PsB (xTyp m) G0 G' c a v (ptyped tk a) (TyP tk cd m a G0) → Q v G') : PX9_readTyped m G0 Q := by
  have hX := xTyp_T hm9
  have sub : ∀ c j, xMem m c j → xTyp m c j := fun _ _ h => Or.inl h
  have ha7 : a ≤ 700 := hs.1.2.2.2.2.1
  have ha0 : 0 ≤ a := hs.1.2.2.2.1
  have xm : ∀ j, xTyp m m j := fun j => Or.inl (Or.inr (Or.inl rfl))
  have bad : ∀ G1, HB (xTyp m) G0 G1 (ptyped tk a) → Q 0 G1 := fun G1 h => hQ 0 G1 (HB_B h)
  have main : ∀ l2, (tk a = 24 ∨ tk a = 26 ∨ tk a = 2) → l2 = b01 (tk a = 24) → PX9_readTyped_76 m l2 m (tType tk cd a) G0 Q := by
    intro l2 hz hl
    have spec : ptyped tk a = pb (ptake a) fun b => pb (pneed tk 3 b) fun c => if tk c = 140 then pb (pparams tk c) fun d => if tk d = 223 then (0, d) else pneed tk 159 d else if tk a = 24 then pmiss tk c else if tk c = 161 then ptake c else pneed tk 159 c := if_pos hz
    generalize hr0 : ptyped tk a = r0 at *
    unfold PX9_readTyped_76
    refine ⟨hm, fun G27 e27 => ?_⟩
    have m27 : HS (xTyp m) G0 G27 tk cd c a := by rw [e27]; exact HS_st hs (xm 8) (by omega)
    refine hTake m27 hX (by omega) (fun x1 x2 m1 => ?_) (fun x1 => bad _ (HB_fl m27 hX (by decide) (by rw [spec, x1]; exact pb_n three_ne)))
    rw [pb_e x1] at spec
    refine hNow m1 (fun _ => ⟨fun z => ?_, fun z => ?_⟩)
    · have sn : pneed tk 3 (a + 1) = ptake (a + 1) := if_pos z
      rw [sn] at spec
      rw [m1.1.2.1]
      refine fun _ => ⟨hm, fun G38 e38 => ?_⟩
      have m38 : HS (xTyp m) G0 G38 tk cd c (a + 1) := by rw [e38]; exact HS_st m1 (xm 11) (by omega)
      rw [m38.1.2.1, m38.1.2.2.2.2.2.2 _ (by omega) (by omega)]
      refine fun _ => ⟨by omega, by omega, fun _ G43 e43 => ?_⟩
      have m43 : HS (xTyp m) G0 G43 tk cd c (a + 1) := by rw [e43]; exact HS_st m38 (xm 7) (by omega)
      refine hTake m43 hX (by omega) (fun x3 x4 m2 => ?_) (fun x3 => bad _ (HB_fl m43 hX (by decide) (by rw [spec, x3]; exact pb_n three_ne)))
      rw [pb_e x3] at spec
      have k2 : ∀ c' j', ¬ (c' = 7 ∧ j' = 8) → ¬ (c' = m ∧ (j' = 7 ∨ j' = 8 ∨ j' = 11)) → uG G43 7 8 (a + 1 + 1) c' j' = G0 c' j' := fun c' j' q1 q2 => by
        rw [uG_ne (by omega), e43, uG_ne (by omega), e38, uG_ne (by omega), uG_ne (by omega), e27, uG_ne (by omega)]
      have v8 : uG G43 7 8 (a + 1 + 1) m 8 = tType tk cd a := by rw [uG_c (by omega), e43, uG_j (by decide), e38, uG_j (by decide), uG_c (by omega), e27, uG_at]
      have v11 : uG G43 7 8 (a + 1 + 1) m 11 = a + 1 := by rw [uG_c (by omega), e43, uG_j (by decide), e38, uG_at]
      have v7 : uG G43 7 8 (a + 1 + 1) m 7 = cd (a + 1) := by rw [uG_c (by omega), e43, uG_at]
      generalize uG G43 7 8 (a + 1 + 1) = G3 at *
      have ea : a + 2 = a + 1 + 1 := by omega
      -- no PARAMS
      have plain : ∀ G', tk (a + 1 + 1) ≠ 140 → (∀ c' j', c' ≠ 7 → G' c' j' = G3 c' j') → G' 7 12 = kTyped tk a → TyP tk cd m a G0 G' := fun G' z2 q1 q2 => by
        unfold TyP
        rw [ea, if_neg z2]
        refine ⟨by rw [q1 _ _ (by omega)]; exact v8, by rw [q1 _ _ (by omega)]; exact v11, by rw [q1 _ _ (by omega)]; exact v7, by rw [q1 _ _ (by omega), k2 _ _ (by omega) (by omega)], q2, fun y => absurd y z2, fun _ => ⟨by rw [q1 _ _ (by omega), k2 _ _ (by omega) (by omega)], fun j => by rw [q1 _ _ (by omega), k2 _ _ (by omega) (by omega)]⟩, fun j y => by rw [q1 _ _ (by omega), k2 _ _ (by omega) (by omega)]⟩
      refine hNow m2 (fun _ => ⟨fun z2 => ?_, fun z2 => ?_⟩)
      · rw [if_pos z2] at spec
        intro G52 e52
        have m52 : HS (xTyp m) G0 G52 tk cd c (a + 1 + 1) := by rw [e52]; exact HS_st m2 (xm 0) (by omega)
        refine hParX hX sub hm hm1 hm9 m52 (by rw [e52, uG_j (by decide), k2 _ _ (by omega) (by omega)]; exact h9) (fun G5 e5 m5 l5 P5 => ?_) (fun G5 e5 b5 => ?_)
        · rw [pb_0 e5] at spec
          obtain ⟨t1, t2, t3⟩ := P5
          have pr : ∀ G', (∀ c' j', c' ≠ 7 → G' c' j' = G5 c' j') → G' 7 12 = kTyped tk a → TyP tk cd m a G0 G' := fun G' q1 q2 => by
            unfold TyP
            rw [ea, if_pos z2]
            have o5 : ∀ j, j ≠ 9 → j ≠ 0 → G' m j = G3 m j := fun j i1 i2 => by rw [q1 _ _ (by omega), t3 _ _ (by unfold xAt; omega) (by omega) (by omega), e52, uG_j i2]
            refine ⟨by rw [o5 8 (by decide) (by decide)]; exact v8, by rw [o5 11 (by decide) (by decide)]; exact v11, by rw [o5 7 (by decide) (by decide)]; exact v7, by rw [q1 _ _ (by omega), t3 _ _ (by unfold xAt; omega) (by omega) (by omega), e52, uG_at], q2, fun _ => ⟨by rw [q1 _ _ (by omega)]; exact t1, fun j i1 i2 => by rw [q1 _ _ (by omega)]; exact t2 j i1 i2, fun j i1 => ?_⟩, fun y => absurd z2 y, fun j y => by rw [o5 j (by omega) (by omega), k2 _ _ (by omega) (by omega)]⟩
            rw [q1 _ _ (by omega), t3 _ _ (by unfold xAt; omega) (by omega) (by omega), e52, uG_c (by omega), k2 _ _ (by omega) (by omega)]
          have k5 : G5 7 12 = 223 := by rw [t3 _ _ (by unfold xAt; omega) (by omega) (by omega), e52, uG_c (by omega), k2 _ _ (by omega) (by omega)]; exact h12
          refine hNow m5 (fun _ => ⟨fun z3 => ?_, fun z3 => ?_⟩)
          · rw [if_pos z3] at spec
            have kt : kTyped tk a = 223 := by unfold kTyped; rw [ea, if_pos z2, if_pos z3]
            unfold PX9_readTyped_164 PX9_readTyped_176
            exact fun _ => ⟨fun _ => ⟨by omega, hQ 1 G5 (HS_B m5 spec (by omega) (pr G5 (fun _ _ _ => rfl) (k5.trans kt.symm)))⟩, fun u => absurd m5.1.2.2.1 u⟩
          · rw [if_neg z3] at spec
            have kt : kTyped tk a = 0 := by unfold kTyped; rw [ea, if_pos z2, if_neg z3]
            unfold PX9_readTyped_208
            intro G78 e78
            have m78 : HS (xTyp m) G0 G78 tk cd c (pparams tk (a + 1 + 1)).2 := by rw [e78]; exact HS_12 m5 (Or.inr ⟨rfl, rfl⟩)
            refine hNeedQ m78 hX (by decide) (fun q1 q2 q3 m9 => fun _ => hQ 1 _ (HS_B m9 (spec.trans q1) (by omega) (pr _ (fun c' j' i1 => by rw [uG_c i1, e78, uG_c i1]) (by rw [uG_j (by decide), e78, uG_at]; exact kt.symm)))) (fun n q1 q2 => fun _ => bad _ (HB_fl m78 hX q1 (spec.trans q2)))
        · rw [pb_n e5] at spec
          have b5' : HB (xTyp m) G0 G5 r0 := by rw [spec]; exact b5
          unfold PX9_readTyped_164 PX9_readTyped_176
          exact fun _ => ⟨fun u => HB_f b5' u, fun _ => ⟨by omega, bad G5 b5'⟩⟩
      · rw [if_neg z2] at spec
        refine ⟨fun y => ?_, fun y => ?_⟩
        · have n24 : ¬ tk a = 24 := fun q => by rw [hl] at y; unfold b01 at y; rw [if_pos q] at y; omega
          rw [if_neg n24] at spec
          refine hNow m2 (fun _ => ⟨fun z3 => ?_, fun z3 => ?_⟩)
          · rw [if_pos z3] at spec
            have kt : kTyped tk a = 161 := by unfold kTyped; rw [ea, if_neg z2, if_pos z3]
            intro G66 e66
            have m66 : HS (xTyp m) G0 G66 tk cd c (a + 1 + 1) := by rw [e66]; exact HS_12 m2 (Or.inr ⟨rfl, rfl⟩)
            refine hTakeQ m66 hX (by omega) (fun q1 q2 m9 => fun _ => hQ 1 _ (HS_B m9 (spec.trans q1) (by omega) (plain _ z2 (fun c' j' i1 => by rw [uG_c i1, e66, uG_c i1]) (by rw [uG_j (by decide), e66, uG_at]; exact kt.symm)))) (fun q1 => fun _ => bad _ (HB_fl m66 hX (by decide) (spec.trans q1)))
          · rw [if_neg z3] at spec
            have kt : kTyped tk a = 0 := by unfold kTyped; rw [ea, if_neg z2, if_neg z3]
            unfold PX9_readTyped_208
            intro G78 e78
            have m78 : HS (xTyp m) G0 G78 tk cd c (a + 1 + 1) := by rw [e78]; exact HS_12 m2 (Or.inr ⟨rfl, rfl⟩)
            refine hNeedQ m78 hX (by decide) (fun q1 q2 q3 m9 => fun _ => hQ 1 _ (HS_B m9 (spec.trans q1) (by omega) (plain _ z2 (fun c' j' i1 => by rw [uG_c i1, e78, uG_c i1]) (by rw [uG_j (by decide), e78, uG_at]; exact kt.symm)))) (fun n q1 q2 => fun _ => bad _ (HB_fl m78 hX q1 (spec.trans q2)))
        · have y24 : tk a = 24 := by
            by_cases q : tk a = 24
            · exact q
            · rw [hl] at y; unfold b01 at y; rw [if_neg q] at y; exact absurd rfl y
          rw [if_pos y24] at spec
          exact hMiss m2 hX spec (fun G' h => fun _ => bad G' h)
    · have sn : pneed tk 3 (a + 1) = pmiss tk (a + 1) := if_neg z
      rw [sn, pb_n (pmiss_ne (tk := tk) _)] at spec
      exact hMiss m1 hX spec (fun G' h => fun _ => bad G' h)
  have m41 : (tk a = 26 ∨ tk a = 2) → PX9_readTyped_41 m 0 G0 Q := fun hz => by
    have h24 : ¬ tk a = 24 := by omega
    have w := main 0 (Or.inr hz) (by unfold b01; rw [if_neg h24])
    unfold tType at w
    rw [if_neg h24] at w
    unfold PX9_readTyped_41
    refine ⟨fun _ => hNow hs (fun _ => ⟨fun q => ?_, fun q => ?_⟩), fun u => absurd rfl u⟩
    · unfold cType at w
      rwa [if_pos q] at w
    · rw [hs.1.2.1]
      refine fun _ => ⟨by omega, by omega, fun _ => ?_⟩
      rw [hs.1.2.2.2.2.2.2 _ (by omega) (by omega)]
      unfold cType at w
      rwa [if_neg q] at w
  unfold PX9_readTyped PX9_readTyped_0 PX9_readTyped_14
  refine hNow hs (fun _ => ⟨fun z => ⟨fun u => absurd u (by decide), fun _ => ?_⟩, fun z => ⟨fun _ => hNow hs (fun _ => ⟨fun z1 => m41 (Or.inl z1), fun z1 => hNow hs (fun _ => ⟨fun z2 => m41 (Or.inr z2), fun z2 => ?_⟩)⟩), fun u => absurd rfl u⟩⟩)
  · have w := main 1 (Or.inl z) (by unfold b01; rw [if_pos z])
    unfold tType at w
    rw [if_pos z] at w
    unfold PX9_readTyped_41
    exact ⟨fun u => absurd u (by decide), fun _ => w⟩
  · have spec : ptyped tk a = pmiss tk a := if_neg (by omega)
    exact hMiss hs hX spec (fun G' h => fun _ => bad G' h)
end CH8

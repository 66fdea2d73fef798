section CH12
variable {tk cd : Int → Int} {c a b k n it mc : Int} {G0 : gS}
theorem member_ok {Q : Int → gS → Prop} (hb : 0 ≤ b ∧ b < 17) (hk : 0 ≤ k ∧ k < 12) (hn : 0 ≤ n ∧ n < 408) (hs : HS (xMbr b k n) G0 G0 tk cd c a) (h11 : G0 7 11 = bd b) (h5 : G0 (bd b) 5 = n) (h13 : G0 (rw_ b k) 13 = it) (hit : 0 ≤ it ∧ it ≤ 20) (h15 : G0 (rw_ b k) 15 = mc) (hmc : 0 ≤ mc ∧ mc ≤ it) (hQ : ∀ v G', PsB (xMbr b k n) G0 G' c a v (pmember tk it a) (MbP tk cd b k n it mc a G0) → Q v G') : PX9_readMember (rw_ b k) G0 Q := by
  have hX := xMbr_T hb.1 hk.1 hn.1
  have sub : ∀ c j, xTyp (mb b n) c j → xMbr b k n c j := fun _ _ h => Or.inl h
  have ha7 : a ≤ 700 := hs.1.2.2.2.2.1
  have ha0 : 0 ≤ a := hs.1.2.2.2.1
  obtain ⟨rO, -⟩ := rw_ok hb.1 hb.2 hk.1 hk.2
  obtain ⟨mO, mA, -⟩ := mb_ok hb.1 hb.2 hn.1 hn.2
  obtain ⟨bO, -⟩ := bd_ok hb.1 hb.2
  have hm9 : 985 ≤ mb b n := by unfold mb; omega
  have hb9 : 985 ≤ bd b := by unfold bd; omega
  have hr9 : 985 ≤ rw_ b k := by unfold rw_; omega
  have hbr : bd b + 2 ≤ rw_ b k := by unfold bd rw_; omega
  have hrm : rw_ b k + 6 ≤ mb b n := by unfold mb rw_; omega
  have miss : ¬ (tk a = 2 ∨ (17 ≤ tk a ∧ tk a ≤ 26)) → PX9_readMember_22 (rw_ b k) (tk a) G0 Q := fun z => by
    have spec : pmember tk it a = pmiss tk a := if_neg z
    unfold PX9_readMember_22
    exact hMiss hs hX spec (fun G' h => fun _ => hQ 0 G' (HB_B h))
  have main : (tk a = 2 ∨ (17 ≤ tk a ∧ tk a ≤ 26)) → PX9_readMember_27 (rw_ b k) (tk a) G0 Q := fun hz => by
    have spec : pmember tk it a = (if it < 20 then (if tk a = 23 then ptake a else pb (paccess tk a) fun b => if tk b = 25 then pb (ptake b) (pparams tk) else pb (popt tk 22 b) fun c => pb (pfb tk c) (ptyped tk)) else (3, a)) := if_pos hz
    generalize hr0 : pmember tk it a = r0 at *
    have bad : ∀ G1, HB (xMbr b k n) G0 G1 r0 → Q 0 G1 := fun G1 h => hQ 0 G1 (HB_B h)
    unfold PX9_readMember_27
    rw [h13, h11]
    refine ⟨rO, fun _ => ⟨fun y => fun _ => ⟨bO, sX1_newMember hb h5 hn (fun G12 hN => ?_)⟩, fun y => ?_⟩⟩
    · rw [if_pos y] at spec
      obtain ⟨nb, c0, c1, c2, c3, c4, c5, c6, c7, c8, c9, c11, c14, c15, cp, nf⟩ := hN
      generalize hm : mb b n = m at *
      generalize hr : rw_ b k = r at *
      generalize hB : bd b = o at *
      have i12 : G12 r 13 = it := by rw [nf _ _ (by omega) (by omega) (by omega)]; exact h13
      rw [← hm, ← hr]
      refine sX10_addItem hb hk hn (by rw [hr]; exact i12) ⟨hit.1, y⟩ ?_
      rw [hm, hr]
      intro G17 e17
      have f17 : FR (xMbr b k n) G0 G17 := fun c' j' q => by
        unfold xMbr xTyp xMem at q
        rw [hm, hr, hB] at q
        rw [e17, uG_ne (by omega), uG_ne (by omega), uG_ne (by omega)]
        exact nf _ _ (by omega) (by omega) (by omega)
      have k17 : ∀ c' j', ¬ (c' = r + 3 ∧ j' = it) → ¬ (c' = r ∧ j' = 13) → ¬ (c' = 7 ∧ j' = 12) → G17 c' j' = G12 c' j' := fun c' j' q1 q2 q3 => by rw [e17, uG_ne (by omega), uG_ne (by omega), uG_ne (by omega)]
      have v13 : G17 r 13 = it + 1 := by rw [e17, uG_c (by omega), uG_at]
      have v3 : G17 (r + 3) it = m := by rw [e17, uG_c (by omega), uG_c (by omega), uG_at]
      have v12 : G17 7 12 = 223 := by rw [e17, uG_at]
      have m17 : HS (xMbr b k n) G0 G17 tk cd c a := HS_move hs f17 hX (by rw [k17 _ _ (by omega) (by omega) (by omega), nf _ _ (by omega) (by omega) (by omega)]) (by rw [k17 _ _ (by omega) (by omega) (by omega), nf _ _ (by omega) (by omega) (by omega)])
      have o3 : ∀ j, j ≠ it → G17 (r + 3) j = G0 (r + 3) j := fun j q => by rw [k17 _ _ (by omega) (by omega) (by omega), nf _ _ (by omega) (by omega) (by omega)]
      have o4 : ∀ j, G17 (r + 4) j = G0 (r + 4) j := fun j => by rw [k17 _ _ (by omega) (by omega) (by omega), nf _ _ (by omega) (by omega) (by omega)]
      have o15 : G17 r 15 = mc := by rw [k17 _ _ (by omega) (by omega) (by omega), nf _ _ (by omega) (by omega) (by omega)]; exact h15
      have ob : G17 o 5 = n + 1 := by rw [k17 _ _ (by omega) (by omega) (by omega)]; exact nb
      have om : ∀ j, G17 m j = G12 m j := fun j => k17 _ _ (by omega) (by omega) (by omega)
      have om1 : ∀ j, G17 (m + 1) j = G12 (m + 1) j := fun j => k17 _ _ (by omega) (by omega) (by omega)
      have xm : ∀ j, xMbr b k n m j := fun j => Or.inl (Or.inl (Or.inr (Or.inl hm.symm)))
      refine ⟨fun z => ⟨mO, fun G20 e20 => ?_⟩, fun z => ?_⟩
      · rw [if_pos z] at spec
        have m20 : HS (xMbr b k n) G0 G20 tk cd c a := by rw [e20]; exact HS_st m17 (xm 0) (by omega)
        rw [m20.1.2.1]
        refine fun _ G22 e22 => ?_
        have m22 : HS (xMbr b k n) G0 G22 tk cd c a := by rw [e22]; exact HS_st m20 (xm 11) (by omega)
        refine hTakeQ m22 hX (by omega) (fun q1 q2 m9 => fun _ => hQ 1 _ (HS_B m9 (spec.trans q1) (by omega) ?_)) (fun q1 => fun _ => bad _ (HB_fl m22 hX (by decide) (spec.trans q1)))
        have w : ∀ c' j', ¬ (c' = 7 ∧ j' = 8) → ¬ (c' = m ∧ (j' = 0 ∨ j' = 11)) → uG G22 7 8 (a + 1) c' j' = G17 c' j' := fun c' j' i1 i2 => by rw [uG_ne (by omega), e22, uG_ne (by omega), e20, uG_ne (by omega)]
        have km : kMember tk a = 223 := if_pos (Or.inl z)
        unfold MbP MemP
        rw [hm, hr, hB, km]
        refine ⟨by rw [w _ _ (by omega) (by omega)]; exact ob, by rw [w _ _ (by omega) (by omega)]; exact v13, by rw [w _ _ (by omega) (by omega)]; exact v3, fun j i1 => by rw [w _ _ (by omega) (by omega)]; exact o3 j i1, fun _ => ⟨by rw [w _ _ (by omega) (by omega)]; exact o15, fun j => by rw [w _ _ (by omega) (by omega)]; exact o4 j⟩, fun q => absurd z q, by rw [w _ _ (by omega) (by omega)]; exact v12, by rw [w _ _ (by omega) (by omega), om]; exact c5, by rw [w _ _ (by omega) (by omega), om]; exact c6, by rw [w _ _ (by omega) (by omega), om]; exact c14, by rw [w _ _ (by omega) (by omega), om]; exact c15, fun _ => ⟨by rw [uG_c (by omega), e22, uG_j (by decide), e20, uG_at], by rw [uG_c (by omega), e22, uG_at], by rw [w _ _ (by omega) (by omega), om]; exact c9⟩, fun q => absurd z q⟩
      · rw [if_neg z] at spec
        rw [← hm, ← hr]
        refine sX10_add hb hk hn (by rw [hr]; exact o15) ⟨hmc.1, by omega⟩ ?_
        rw [hm, hr]
        generalize h26 : uG (uG G17 (r + 4) mc m) r 15 (mc + 1) = G26
        have k26 : ∀ c' j', ¬ (c' = r + 4 ∧ j' = mc) → ¬ (c' = r ∧ j' = 15) → G26 c' j' = G17 c' j' := fun c' j' q1 q2 => by rw [← h26, uG_ne (by omega), uG_ne (by omega)]
        have m26 : HS (xMbr b k n) G0 G26 tk cd c a := by
          rw [← h26]
          exact HS_st (HS_st m17 (Or.inr (Or.inr (Or.inr (Or.inr (by rw [hr]))))) (by omega)) (Or.inr (Or.inr (Or.inl ⟨hr.symm, Or.inr rfl⟩))) (by omega)
        have fin : ∀ G' e, HS (xMbr b k n) G0 G' tk cd c e → r0 = (0, e) → a ≤ e → FR (xTyp m) G26 G' → G' 7 12 = kMember tk a → MemP tk cd m a G' → Q 1 G' := fun G' e q1 q2 q3 q4 q5 q6 => by
          have w : ∀ c' j', c' ≠ 7 → c' ≠ m → c' ≠ m + 1 → G' c' j' = G26 c' j' := fun c' j' i1 i2 i3 => q4 _ _ (by unfold xTyp xMem xAt; omega)
          refine hQ 1 G' (HS_B q1 q2 q3 ?_)
          unfold MbP
          rw [hm, hr, hB]
          refine ⟨by rw [w _ _ (by omega) (by omega) (by omega), k26 _ _ (by omega) (by omega)]; exact ob, by rw [w _ _ (by omega) (by omega) (by omega), k26 _ _ (by omega) (by omega)]; exact v13, by rw [w _ _ (by omega) (by omega) (by omega), k26 _ _ (by omega) (by omega)]; exact v3, fun j i1 => by rw [w _ _ (by omega) (by omega) (by omega), k26 _ _ (by omega) (by omega)]; exact o3 j i1, fun q => absurd q z, fun _ => ⟨by rw [w _ _ (by omega) (by omega) (by omega), ← h26, uG_at], by rw [w _ _ (by omega) (by omega) (by omega), ← h26, uG_c (by omega), uG_at], fun j i1 => by rw [w _ _ (by omega) (by omega) (by omega), k26 _ _ (by omega) (by omega)]; exact o4 j⟩, q5, q6⟩
        have n26 : ∀ j, G26 m j = G12 m j := fun j => by rw [k26 _ _ (by omega) (by omega)]; exact om j
        have p26 : ∀ j, G26 (m + 1) j = G12 (m + 1) j := fun j => by rw [k26 _ _ (by omega) (by omega)]; exact om1 j
        have w12 : G26 7 12 = 223 := by rw [k26 _ _ (by omega) (by omega)]; exact v12
        -- behind open, kin, own
        have rest : ∀ G, HS (xMbr b k n) G0 G tk cd c (mB0 tk a) → r0 = (if tk (mB0 tk a) = 25 then pb (ptake (mB0 tk a)) (pparams tk) else pb (popt tk 22 (mB0 tk a)) fun c => pb (pfb tk c) (ptyped tk)) → a ≤ mB0 tk a → FR (xTyp m) G26 G → (∀ j, j ≠ 1 → G m j = G12 m j) → G m 1 = mAcc tk a → (∀ j, G (m + 1) j = G12 (m + 1) j) → G 7 12 = 223 → PX9_readMember_137 r (tk a) m G Q := by
          intro G mg sg lg fg kg ag pg w12g
          have o0 : (0 : Int) ≤ 0 ∧ (0 : Int) ≤ 1 := by omega
          have o1 : (0 : Int) ≤ 1 ∧ (1 : Int) ≤ 1 := by omega
          have typed : ∀ s1, tk (mB0 tk a) ≠ 25 → s1 = b01 (tk (mB0 tk a) = 22) → PX9_readMember_195 r (tk a) m m s1 G Q := fun s1 n25 hs1 => by
            rw [if_neg n25] at sg
            refine mem_195 hX sub mO mA hm9 mg (by rw [kg 0 (by decide)]; exact c0) (by rw [kg 9 (by decide)]; exact c9) (fun j y1 y2 => by rw [pg]; exact cp j y1 y2) w12g sg hs1 (fun G' e q1 q2 q3 q4 q5 q6 q7 q8 q9 q10 => fin G' e q1 q2 (by omega) (FR_tr fg q4) ?_ ⟨?_, ?_, ?_, ?_, fun u => absurd u z, fun _ => ⟨?_, fun u => absurd u n25, fun _ => ⟨q6, q7, q8, q10⟩⟩⟩) bad
            · rw [q9]; exact (if_neg (fun u => u.elim z n25)).symm
            · rw [q5 5 (by omega), kg 5 (by decide)]; exact c5
            · rw [q5 6 (by omega), kg 6 (by decide)]; exact c6
            · rw [q5 14 (by omega), kg 14 (by decide)]; exact c14
            · rw [q5 15 (by omega), kg 15 (by decide)]; exact c15
            · rw [q5 1 (by omega)]; exact ag
          unfold PX9_readMember_137 PX9_readMember_178 PX9_readMember_179
          refine hNow mg (fun _ => ⟨fun z25 => ⟨mO, fun G43 e43 => ?_⟩, fun z25 => hNow mg (fun _ => ⟨fun z2 => typed 1 z25 (by unfold b01; rw [if_pos z2]), fun z2 => typed 0 z25 (by unfold b01; rw [if_neg z2])⟩)⟩)
          rw [if_pos z25] at sg
          have m43 : HS (xMbr b k n) G0 G43 tk cd c (mB0 tk a) := by rw [e43]; exact HS_st mg (xm 0) (by omega)
          rw [m43.1.2.1]
          refine fun _ G45 e45 => ?_
          have m45 : HS (xMbr b k n) G0 G45 tk cd c (mB0 tk a) := by rw [e45]; exact HS_st m43 (xm 11) (by omega)
          refine hTake m45 hX (by omega) (fun x1 x2 m2 => ?_) (fun x1 => ⟨o0, bad _ (HB_fl m45 hX (by decide) (by rw [sg, x1]; exact pb_n three_ne))⟩)
          rw [pb_e x1] at sg
          have w2 : ∀ c' j', ¬ (c' = 7 ∧ j' = 8) → ¬ (c' = m ∧ (j' = 0 ∨ j' = 11)) → uG G45 7 8 (mB0 tk a + 1) c' j' = G c' j' := fun c' j' i1 i2 => by rw [uG_ne (by omega), e45, uG_ne (by omega), e43, uG_ne (by omega)]
          have w0 : uG G45 7 8 (mB0 tk a + 1) m 0 = 2 := by rw [uG_c (by omega), e45, uG_j (by decide), e43, uG_at]
          have w11 : uG G45 7 8 (mB0 tk a + 1) m 11 = mB0 tk a := by rw [uG_c (by omega), e45, uG_at]
          generalize uG G45 7 8 (mB0 tk a + 1) = G46 at *
          refine hParX hX (fun _ _ h => Or.inl (Or.inl (by rw [hm]; exact h))) mO mA hm9 m2 (by rw [w2 _ _ (by omega) (by omega), kg 9 (by decide)]; exact c9) (fun G5 e5 m5 l5 P5 => ⟨o1, ?_⟩) (fun G5 e5 b5 => ⟨o0, bad G5 (by rw [sg]; exact b5)⟩)
          obtain ⟨t1, t2, t3⟩ := P5
          have u : ∀ j, j ≠ 9 → G5 m j = G46 m j := fun j i1 => t3 _ _ (by unfold xAt; omega) (by omega) (by omega)
          refine fin G5 _ m5 (sg.trans (Prod.ext e5 rfl)) (by omega) (FR_tr fg (fun c' j' q => ?_)) ?_ ⟨?_, ?_, ?_, ?_, fun q => absurd q z, fun _ => ⟨?_, fun _ => ⟨?_, ?_, ?_, ?_, ?_, ?_, ?_, t1, t2, fun j i1 i2 i3 => ?_⟩, fun q => absurd z25 q⟩⟩
          · unfold xTyp xMem at q
            rw [t3 _ _ (fun h => q (Or.inl (Or.inl h))) (by omega) (by omega), w2 _ _ (fun h => q (Or.inl (Or.inl ⟨h.1, Or.inl h.2⟩))) (by omega)]
          · rw [t3 _ _ (by unfold xAt; omega) (by omega) (by omega), w2 _ _ (by omega) (by omega), w12g]
            exact (if_pos (Or.inr z25)).symm
          · rw [u 5 (by decide), w2 _ _ (by omega) (by omega), kg 5 (by decide)]; exact c5
          · rw [u 6 (by decide), w2 _ _ (by omega) (by omega), kg 6 (by decide)]; exact c6
          · rw [u 14 (by decide), w2 _ _ (by omega) (by omega), kg 14 (by decide)]; exact c14
          · rw [u 15 (by decide), w2 _ _ (by omega) (by omega), kg 15 (by decide)]; exact c15
          · rw [u 1 (by decide), w2 _ _ (by omega) (by omega)]; exact ag
          · rw [u 0 (by decide)]; exact w0
          · rw [u 2 (by decide), w2 _ _ (by omega) (by omega), kg 2 (by decide)]; exact c2
          · rw [u 3 (by decide), w2 _ _ (by omega) (by omega), kg 3 (by decide)]; exact c3
          · rw [u 4 (by decide), w2 _ _ (by omega) (by omega), kg 4 (by decide)]; exact c4
          · rw [u 7 (by decide), w2 _ _ (by omega) (by omega), kg 7 (by decide)]; exact c7
          · rw [u 8 (by decide), w2 _ _ (by omega) (by omega), kg 8 (by decide)]; exact c8
          · rw [u 11 (by decide)]; exact w11
          · rw [t3 _ _ (by unfold xAt; omega) (by omega) (by omega), w2 _ _ (by omega) (by omega), pg]; exact cp j i2 i3
        -- open, kin, own
        have acc : ∀ s1, 17 ≤ tk a ∧ tk a ≤ 19 → s1 = mAcc tk a → PX9_readMember_125 r (tk a) m m s1 G26 Q := fun s1 hz2 hs1 => by
          have sp : paccess tk a = ptake a := if_pos hz2
          unfold PX9_readMember_125
          refine ⟨mO, fun G59 e59 => ?_⟩
          have m59 : HS (xMbr b k n) G0 G59 tk cd c a := by rw [e59]; exact HS_st m26 (xm 1) (by omega)
          rw [sp] at spec
          refine hTake m59 hX (by omega) (fun x1 x2 m2 => ?_) (fun x1 => bad _ (HB_fl m59 hX (by decide) (by rw [spec, x1]; exact pb_n three_ne)))
          have ep : mB0 tk a = a + 1 := by unfold mB0; rw [sp, x1]
          rw [pb_e x1] at spec
          refine rest _ (by rw [ep]; exact m2) (by rw [ep]; exact spec) (by omega) (by rw [e59]; exact FR_up (FR_up FR_id (Or.inl (Or.inr (Or.inl rfl)))) (Or.inl (Or.inl ⟨rfl, Or.inl rfl⟩))) (fun j i1 => by rw [uG_c (by omega), e59, uG_j i1]; exact n26 j) (by rw [uG_c (by omega), e59, uG_at]; exact hs1) (fun j => by rw [uG_c (by omega), e59, uG_c (by omega)]; exact p26 j) (by rw [uG_j (by decide), e59, uG_c (by omega)]; exact w12)
        have noacc : ¬ (17 ≤ tk a ∧ tk a ≤ 19) → PX9_readMember_137 r (tk a) m G26 Q := fun hz2 => by
          have sp : paccess tk a = (0, a) := if_neg hz2
          have ep : mB0 tk a = a := by unfold mB0; rw [sp]
          rw [sp] at spec
          refine rest G26 (by rw [ep]; exact m26) (by rw [ep]; exact spec) (by omega) FR_id (fun j _ => n26 j) ?_ p26 w12
          rw [n26, c1]; unfold mAcc; rw [if_neg (by omega), if_neg (by omega), if_neg (by omega)]
        refine ⟨fun q => noacc (by omega), fun q1 => ⟨fun q => noacc (by omega), fun q2 => ⟨fun q => acc 3 (by omega) (by unfold mAcc; rw [if_pos q]), fun q3 => ⟨fun q => acc 2 (by omega) (by unfold mAcc; rw [if_neg q3, if_pos q]), fun q4 => acc 0 (by omega) (by unfold mAcc; rw [if_neg q3, if_neg q4, if_pos (by omega)])⟩⟩⟩⟩
    · rw [if_neg y] at spec
      exact hStop hs hX (by decide) spec (fun G' h => fun _ => bad G' h)
  unfold PX9_readMember PX9_readMember_0
  exact hNow hs (fun _ => ⟨fun z => main (Or.inl z), fun z => ⟨fun z1 => miss (by omega), fun z1 => ⟨fun z2 => miss (by omega), fun z2 => main (Or.inr (by omega))⟩⟩⟩)
end CH12

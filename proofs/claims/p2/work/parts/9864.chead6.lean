section CH7
variable {tk cd : Int → Int} {c a m : Int} {G0 G : gS}
-- PARAMS with their ( )
def PrsP (tk cd : Int → Int) (m a : Int) (G G' : gS) : Prop := G' m 9 = lPar tk a ∧ (∀ j, 0 ≤ j → j < lPar tk a → G' (m + 1) j = cType tk cd (a + 1 + 3 * j)) ∧ ∀ c' j', ¬ xAt c' j' → ¬ (c' = m ∧ j' = 9) → ¬ (c' = m + 1 ∧ 0 ≤ j' ∧ j' < lPar tk a) → G' c' j' = G c' j'
theorem params_ok {Q : Int → gS → Prop} (hm : isO W0 7 m) (hm1 : isA W0 1 4 (m + 1)) (hm9 : 985 ≤ m) (hs : HS (xMem m) G0 G0 tk cd c a) (h9 : G0 m 9 = 0) (hQ : ∀ v G', PsB (xMem m) G0 G' c a v (pparams tk a) (PrsP tk cd m a G0) → Q v G') : PX9_readParams m G0 Q := by
  refine ⟨4000000000, Nat.le_refl _, ?_⟩
  generalize hF : (4000000000 : Nat) = F
  have hF2 : 702 < F := by omega
  have hX := xMem_T hm9
  have ha7 : a ≤ 700 := hs.1.2.2.2.2.1
  have ha0 : 0 ≤ a := hs.1.2.2.2.1
  have spec : pparams tk a = pb (pneed tk 140 a) fun b => if tk b = 141 then ptake b else pparamsL tk 6 0 b := rfl
  generalize hr0 : pparams tk a = r0 at *
  unfold PX9_readParams_0
  refine hNeed hs hX (by decide) (fun x1 x2 x3 m1 => ?_) (fun n x1 x2 => hQ 0 _ (HB_B (HB_fl hs hX x1 (by rw [spec, x2]; exact pb_n x1))))
  rw [pb_e x1] at spec
  unfold PX9_readParams_27
  refine hNow m1 (fun _ => ⟨fun z => ?_, fun z => ?_⟩)
  · rw [if_pos z] at spec
    have l0 : lPar tk a = 0 := if_pos z
    have sp : pneed tk 141 (a + 1) = ptake (a + 1) := if_pos z
    have q : PX9_readParams_170 (PX9_readParams_J F) m 0 0 (uG G0 7 8 (a + 1)) Q := by
      unfold PX9_readParams_170
      refine hNeedQ m1 hX (by decide) (fun q1 q2 q3 m5 => fun _ => hQ 1 _ (HS_B m5 (spec.trans (sp.symm.trans q1)) (by omega) ?_)) (fun n q1 q2 => fun _ => hQ 0 _ (HB_B (HB_fl m1 hX q1 (spec.trans (sp.symm.trans q2)))))
      unfold PrsP
      rw [l0]
      refine ⟨by rw [uG_c (by omega), uG_c (by omega)]; exact h9, fun j y1 y2 => by omega, fun c' j' y1 y2 y3 => ?_⟩
      unfold xAt at y1
      rw [uG_ne (by omega), uG_ne (by omega)]
    unfold PX9_readParams_30
    exact ⟨fun _ => q, fun _ => ⟨fun _ => q, fun u => absurd rfl u⟩⟩
  · rw [if_neg z] at spec
    have l0 : lPar tk a = nPar tk 6 (a + 1) := if_neg z
    refine par_loop hm hm1 hm9 6 F _ (a + 1) 0 Q (by omega) (by omega) ⟨m1.1, FR_id⟩ (by rw [uG_c (by omega)]; exact h9) (by omega) (fun v G' h => ?_)
    obtain ⟨⟨h1, h2, h3⟩, h4, h5⟩ := h
    rw [← spec] at h2 h3 h4 h5
    refine hQ v G' ⟨⟨FR_tr m1.2 h1, h2, fun e => ?_⟩, h4, h5⟩
    obtain ⟨q1, q2, q3, q4, q5, q6, q7, q8⟩ := h3 e
    refine ⟨q1, q2, by omega, q4, q5, by rw [l0]; omega, fun j y1 y2 => ?_, fun c' j' y1 y2 y3 => ?_⟩
    · have := q7 j y1 (by omega)
      rwa [show 0 + j = j by omega] at this
    · have y1' := y1
      unfold xAt at y1'
      rw [q8 c' j' y1 y2 (by omega), uG_ne (by omega)]
theorem hPar {A B : gS → Prop} (hm : isO W0 7 m) (hm1 : isA W0 1 4 (m + 1)) (hm9 : 985 ≤ m) (hs : HS (xMem m) G0 G tk cd c a) (h9 : G m 9 = 0) (h1 : ∀ G', (pparams tk a).1 = 0 → HS (xMem m) G0 G' tk cd c (pparams tk a).2 → a ≤ (pparams tk a).2 → PrsP tk cd m a G G' → B G') (h2 : ∀ G', (pparams tk a).1 ≠ 0 → HB (xMem m) G0 G' (pparams tk a) → A G') : PX9_readParams m G (fun v G' => (0 ≤ v ∧ v ≤ 1) → ((v = 0 → A G') ∧ (¬ (v = 0) → B G'))) := by
  refine params_ok hm hm1 hm9 ⟨hs.1, FR_id⟩ h9 (fun v G' h => ?_)
  obtain ⟨⟨f, g, k⟩, h4, h5⟩ := h
  have hX := xMem_T hm9
  by_cases e : (pparams tk a).1 = 0
  · have ev := h5 e
    subst ev
    obtain ⟨q1, q2, q3, q4, q5, q6⟩ := k e
    obtain ⟨⟨p1, p2, p3, p4, p5, p6, p7⟩, f0⟩ := hs
    exact fun _ => ⟨fun z => absurd z (by decide), fun _ => h1 G' e ⟨⟨PT_FR p1 f hX, q2, q1, by omega, q4, q5, CD_FR p7 f hX⟩, FR_tr f0 f⟩ q3 q6⟩
  · have ev := h4 e
    subst ev
    have g' := g e
    exact fun _ => ⟨fun _ => h2 G' e ⟨FR_tr hs.2 f, g'.1, g'.2, e⟩, fun z => absurd rfl z⟩
end CH7

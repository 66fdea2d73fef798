section RP9
variable {B G G' : gS} {s N d i i' a : Int} {tk cd : Int → Int} {q r : RR} {R : JT} {T C P U : TT} {eE cU uU eP : Int → RR}
theorem punit_no (h : bE tk a = false) : punit tk eE cU a = pmiss tk a := by
  have e : pfront tk eE cU a = pmiss tk a := by
    unfold pfront
    rw [if_neg (by rw [h]; decide)]
  unfold punit
  rw [e, pb_n (pmiss_ne a)]
theorem ptail_le (h : ∀ b, b ≤ (eE b).2) : ∀ (f : Nat) (a : Int), a ≤ (ptail tk eE f a).2
  | 0, a => Int.le_refl _
  | f + 1, a => by
    show a ≤ (if tk a = 146 then pb (ptake a) fun b => pb (pneed tk 3 b) fun c => if tk c = 140 then pb (pargs tk eE c) (ptail tk eE f) else ptail tk eE f c else if tk a = 39 then pb (ptake a) fun b => pb (pneed tk 2 b) (ptail tk eE f) else (0, a)).2
    split
    · refine Int.le_trans (ptake_le (a := a)).1 (pb_le2 (fun b => Int.le_trans (pneed_l (tk := tk) 3 b) (pb_le2 (fun c => ?_))))
      split
      · exact Int.le_trans (pargs_le h c) (pb_le2 (fun x => ptail_le h f x))
      · exact ptail_le h f c
    · split
      · exact Int.le_trans (ptake_le (a := a)).1 (pb_le2 (fun b => Int.le_trans (pneed_l (tk := tk) 2 b) (pb_le2 (fun c => ptail_le h f c))))
      · exact Int.le_refl _
theorem pmiss_l : ∀ b, b ≤ (pmiss tk b).2 := fun _ => Int.le_refl _
theorem pfront_le (h : ∀ b, b ≤ (eE b).2) (hc : ∀ b, b ≤ (cU b).2) : ∀ b, b ≤ (pfront tk eE cU b).2 := fun a => by
  unfold pfront
  split
  · refine Int.le_trans (ptake_le (a := a)).1 (pb_le2 (fun b => ?_))
    split
    · exact Int.le_refl _
    · split
      · split
        · exact pargs_le h b
        · exact Int.le_refl _
      · split
        · unfold pclass
          refine Int.le_trans (pneed_l (tk := tk) 146 b) (pb_le2 (fun c => ?_))
          split
          · exact Int.le_trans (ptake_le (a := c)).1 (pb_le2 (fun x => Int.le_trans (pneed_l (tk := tk) 146 x) (pb_le2 (fun y => Int.le_trans (pneed_l (tk := tk) 3 y) (pb_le2 (pargs_le h))))))
          · refine Int.le_trans (pneed_l (tk := tk) 3 c) (pb_le2 (fun x => ?_))
            split
            · exact pargs_le h x
            · exact Int.le_refl _
        · split
          · exact Int.le_trans (pneed_l (tk := tk) 146 b) (pb_le2 (fun y => Int.le_trans (pneed_l (tk := tk) 3 y) (pb_le2 (pargs_le h))))
          · split
            · exact Int.le_trans (pneed_l (tk := tk) 2 b) (pb_le2 (pargs_le h))
            · exact pround_le h hc b
  · exact Int.le_refl _
theorem punit_le (h : ∀ b, b ≤ (eE b).2) (hc : ∀ b, b ≤ (cU b).2) : ∀ b, b ≤ (punit tk eE cU b).2 := fun b => Int.le_trans (pfront_le h hc b) (pb_le2 (fun c => ptail_le h 702 c))
theorem runit_ok {Q : Int → gS → Prop} (hK : TKp B s N tk cd) (hA : SRa R B s N d tk T eE) (hI : RTI s T) (hT : RTF s T) (hF : SRf R B s N d tk T C eE cU) (hel : ∀ b, b ≤ (eE b).2) (hcl : ∀ b, b ≤ (cU b).2) (hIC : RTI s C) (hTC : RTF s C) (h : RM B s N d G q i) (h0 : 0 ≤ i) (hi : q.1 = 0 → i ≤ q.2 + 2) (hQ : ∀ v G' i', RM B s N d G' (pb q (punit tk eE cU)) i' → RFc s G G' q (pb q (punit tk eE cU)) i i' (rUnit B s tk T C eE cU i i' v q.2 G' ∧ G' 16154 v = -2) → Q v G') : PX13_unit R G Q := by
  refine ⟨4000000000, Nat.le_refl _, ?_⟩
  generalize hFF : (4000000000 : Nat) = F
  obtain ⟨F', rfl⟩ : ∃ F', F = F' + 1 := ⟨F - 1, by omega⟩
  unfold PX13_unit_0
  -- with a FAULT
  have bad : ∀ G1 q1, RM B s N d G1 q1 i → FR (XR s i) G G1 → q1.1 ≠ 0 → pb q (punit tk eE cU) = q1 → q.2 ≤ q1.2 → PX13_unit_18 R (PX13_unit_J R (F' + 1)) G1 Q := fun G1 q1 x1 x2 x3 x4 x5 => by
    have fl : G1 16081 20 ≠ 0 := fun z => x3 ((RM_fl x1).mp z)
    unfold PX13_unit_18 PX13_unit_34 PX13_unit_47
    exact fun _ => ⟨fun y => absurd y fl, fun _ => fun _ => ⟨fun y => absurd y fl, fun _ => runit_out (hQ _ G1 i (by rw [x4]; exact x1) (by rw [x4]; exact ⟨Int.le_refl _, x2, fun _ => rfl, x5, by omega, fun z => absurd z x3⟩))⟩⟩
  refine fun _ => ⟨fun y => ?_, fun y => ?_⟩
  · have e := (RM_fl h).mp y
    have hi' := hi e
    have h' := RM_eq h e rfl
    rw [pb_0 e] at hQ bad
    refine rBE hK h e (fun z => fun _ => ⟨fun u => absurd u (by decide), fun _ => ?_⟩) (fun z => fun _ => ⟨fun _ => rWrong hK h (fun G1 hR1 f1 => ?_), fun u => absurd rfl u⟩)
    · unfold PX13_unit_18
      refine fun _ => ⟨fun _ => hF G q.2 i _ h' h0 hi' z (fun v G1 i1 hR1 hC1 => fun _ => ?_), fun u => absurd y u⟩
      obtain ⟨c1, c2, c3, c4, c5, c6⟩ := hC1
      change q.2 ≤ (pfront tk eE cU q.2).2 at c4
      change i1 ≤ i + ((pfront tk eE cU q.2).2 - q.2) + 1 at c5
      have sp : punit tk eE cU q.2 = pb (pfront tk eE cU q.2) (ptail tk eE 702) := rfl
      unfold PX13_unit_34 PX13_unit_47
      refine fun _ => ⟨fun w => ?_, fun w => ?_⟩
      · have e1 := (RM_fl hR1).mp w
        obtain ⟨u1, u2, u3, u4⟩ := c6 e1
        change i1 ≤ i + ((pfront tk eE cU q.2).2 - q.2) at u1
        change q.2 < (pfront tk eE cU q.2).2 at u2
        obtain ⟨kl, k1, k2, k3⟩ := rFront_I _ _ _ _ _ u3
        have hq0 := h.2.1
        rw [pb_0 e1] at sp
        have tl := ptail_le (tk := tk) hel 702 (pfront tk eE cU q.2).2
        refine runit_tail hK hA hI hT hel 702 (F' + 1) G1 _ i1 v kl Q (by omega) (by omega) (RM_eq hR1 e1 rfl) (by omega) (by omega) k1 (by omega) k3 u4 (fun v2 G2 i2 hR2 d1 d2 d3 d4 d5 => ?_)
        rw [← sp] at hR2 d3 d4 d5
        refine hQ v2 G2 i2 hR2 ⟨by omega, FR_tr c2 (FR_XR c1 d2), fun x => absurd e x, by omega, by omega, fun x => ?_⟩
        obtain ⟨w1, w2, w3⟩ := d5 x
        refine ⟨by omega, by omega, ⟨i1, v, d1, ?_, w2⟩, w3⟩
        exact rFront_F hI hT hIC hTC _ _ _ _ _ _ u3 (fun c j y1 y2 y3 y4 _ => d2 c j (by unfold XR; omega))
      · have e1 : (pfront tk eE cU q.2).1 ≠ 0 := fun e1 => w ((RM_fl hR1).mpr e1)
        rw [pb_n e1] at sp
        exact runit_out (hQ _ G1 i1 (by rw [sp]; exact hR1) (by rw [sp]; exact ⟨c1, c2, fun x => absurd e x, c4, c5, fun x => absurd x e1⟩))
    · rw [pb_0 e] at hR1
      exact bad G1 _ hR1 f1 (pmiss_ne _) (punit_no z) (Int.le_refl _)
  · have e : q.1 ≠ 0 := fun e => y ((RM_fl h).mpr e)
    exact bad G q h FR_id e (pb_n e) (Int.le_refl _)
end RP9

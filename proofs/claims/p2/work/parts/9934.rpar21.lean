section RP21
variable {B G G' : gS} {s N d i i' a m : Int} {tk cd : Int → Int} {q r : RR}
theorem wo28 : wordOf 28 24 := wo 28 24 (by decide +kernel) (by decide +kernel)
theorem wo31 : wordOf 31 20 := wo 31 20 (by decide +kernel) (by decide +kernel)
theorem wo39 : wordOf 39 21 := wo 39 21 (by decide +kernel) (by decide +kernel)
theorem wo42 : wordOf 42 22 := wo 42 22 (by decide +kernel) (by decide +kernel)
theorem wo30 : wordOf 30 17 := wo 30 17 (by decide +kernel) (by decide +kernel)
theorem wo40 : wordOf 40 18 := wo 40 18 (by decide +kernel) (by decide +kernel)
theorem wo41 : wordOf 41 19 := wo 41 19 (by decide +kernel) (by decide +kernel)
theorem wo44 : wordOf 44 23 := wo 44 23 (by decide +kernel) (by decide +kernel)
/-- what hangs on a MEMBER: k 223 a BLOCK, 161 an E, at e -/
def RbR (B : gS) (s : Int) (tk : Int → Int) (m k e i i' : Int) (G : gS) : Prop := (k = 0 → G 16134 m = -2 ∧ G 16135 m = -2) ∧ (k = 223 → G 16134 m = -2 ∧ G 16136 m = e ∧ G 16137 m = (pB tk 12 e).2 ∧ rBk B s tk 12 i i' (G 16135 m) e G) ∧ (k = 161 → G 16135 m = -2 ∧ G 16136 m = e ∧ G 16137 m = (pE tk 12 e).2 ∧ rE B s tk 12 i i' (G 16134 m) e G)
/-- a MEMBER's body, or none -/
def pfin (tk : Int → Int) (k e : Int) : RR := if k = 0 then (0, e) else pbody tk k e
def pty (tk : Int → Int) (t : Int) : RR := pb (ptyped tk t) (pfin tk (kTyped tk t))
def TyR (B : gS) (s : Int) (tk : Int → Int) (m t i i' : Int) (G G' : gS) : Prop := G' 16116 m = (if tk (t + 2) = 140 then 1 else 0) ∧ G' 16125 m = nmR B s (t + 1) ∧ G' 16126 m = plR B s (t + 1) ∧ G' 16127 m = (if tk t = 24 then G 16127 m else rType B s tk t) ∧ G' 16128 m = plR B s t ∧ ParR B s tk m 0 (if tk (t + 2) = 140 then lPar tk (t + 2) else 0) (t + 3) G' ∧ RbR B s tk m (kTyped tk t) (ptyped tk t).2 i i' G' ∧ ∀ c, 16116 ≤ c → c ≤ 16142 → ¬ (c = 16116 ∨ 16125 ≤ c ∧ c ≤ 16137) → G' c m = G c m
theorem rty_bad {Q : Int → gS → Prop} (hK : TKp B s N tk cd) (hm : 0 ≤ m ∧ m < 7344) (h : RM B s N d G q i) (hb : q.1 ≠ 0) (hQ : ∀ G', RM B s N d G' q i → FR (XM s i m) G G' → Q 0 G') : PX13_fieldOrMethod_75 m 0 G Q := by
  unfold PX13_fieldOrMethod_75
  rw [RM_pp h]
  refine fun _ => rPlace hK h.1 h.2.1 h.2.2.1 (fun _ => ⟨hm.1, hm.2, fun G1 e1 => ⟨fun _ => ?_, fun u => absurd rfl u⟩⟩)
  have h1 : RM B s N d G1 q i := by rw [e1]; exact RM_put2 h (by omega) (by omega)
  refine rTypeTok hK h1 (fun t G2 h2 f2 _ => fun _ => ⟨hm.1, hm.2, fun G3 e3 => ?_⟩)
  rw [pb_n hb] at h2
  have h3 : RM B s N d G3 q i := by rw [e3]; exact RM_put2 h2 (by omega) (by omega)
  unfold PX13_fieldOrMethod_111
  refine rWant (k := 3) hK h3 (Or.inr ⟨rfl, rfl⟩) (fun r4 G4 r0 r1 _ h4 f4 => fun _ => rName hK h4.1 r0 r1 (fun _ => ⟨hm.1, hm.2, fun G5 e5 => ?_⟩))
  rw [pb_n hb] at h4
  have h5 : RM B s N d G5 q i := by rw [e5]; exact RM_put2 h4 (by omega) (by omega)
  refine rPlace hK h5.1 r0 r1 (fun _ => ⟨hm.1, hm.2, fun G6 e6 => ?_⟩)
  have h6 : RM B s N d G6 q i := by rw [e6]; exact RM_put2 h5 (by omega) (by omega)
  have f6 : FR (XM s i m) G G6 := by
    rw [e6, e5]
    refine XM_up (XM_up (FR_tr ?_ (XM_r (Int.le_refl _) f4)) (by omega) (by omega)) (by omega) (by omega)
    rw [e3]
    refine XM_up (FR_tr ?_ (XM_r (Int.le_refl _) f2)) (by omega) (by omega)
    rw [e1]; exact XM_up FR_id (by omega) (by omega)
  refine fun _ => ⟨fun y => absurd ((RM_fl h6).mp y) hb, fun _ => ?_⟩
  unfold PX13_fieldOrMethod_203 PX13_fieldOrMethod_260 PX13_fieldOrMethod_266
  refine ⟨hm.1, hm.2, fun G7 e7 => ?_⟩
  have h7 : RM B s N d G7 q i := by rw [e7]; exact RM_put2 h6 (by omega) (by omega)
  refine fun _ => ⟨fun y => absurd ((RM_fl h7).mp y) hb, fun _ => rWantSign (k := 159) hK h7 (Or.inl ⟨by unfold sg; omega, rfl⟩) (fun G8 h8 f8 => ?_)⟩
  rw [pb_n hb] at h8
  exact hQ G8 h8 (FR_tr f6 (FR_tr (by rw [e7]; exact XM_up FR_id (by omega) (by omega)) (XM_r (Int.le_refl _) f8)))
theorem pparamsL_le : ∀ (f : Nat) (k a : Int), a ≤ (pparamsL tk f k a).2
  | 0, _, _ => Int.le_refl _
  | f + 1, k, a => by
    show a ≤ (if tk a = 26 ∨ tk a = 2 then (if k < 4 then pb (ptake a) fun b => pb (pneed tk 3 b) fun c => if tk c = 144 then pb (ptake c) (pparamsL tk f (k + 1)) else pneed tk 141 c else (3, a)) else pmiss tk a).2
    split
    · split
      · refine Int.le_trans (ptake_le (a := a)).1 (pb_le2 (fun b => Int.le_trans (pneed_l (tk := tk) 3 b) (pb_le2 (fun c => ?_))))
        split
        · exact Int.le_trans (ptake_le (a := c)).1 (pb_le2 (fun x => pparamsL_le f _ x))
        · exact pneed_l (tk := tk) 141 c
      · exact Int.le_refl _
    · exact pmiss_l a
theorem pparams_le (b : Int) : b ≤ (pparams tk b).2 := by
  unfold pparams
  refine Int.le_trans (pneed_l (tk := tk) 140 b) (pb_le2 (fun c => ?_))
  split
  · exact (ptake_le).1
  · exact pparamsL_le _ _ _
theorem rty_ok {Q : Int → gS → Prop} {s0 t : Int} (hK : TKp B s N tk cd) (hm : 0 ≤ m ∧ m < 7344) (h : RM B s N 0 G (0, t) i) (h0 : 0 ≤ i) (hi : i ≤ t + 2) (hs : (s0 = 1 ∧ tk t = 24) ∨ (s0 = 0 ∧ tk t ≠ 24)) (h29 : G 16129 m = 0) (h34 : G 16134 m = -2) (h35 : G 16135 m = -2) (hQ : ∀ G' i', RM B s N 0 G' (pty tk t) i' → i ≤ i' → FR (XM s i m) G G' → ((pty tk t).1 = 0 → i' ≤ i + ((pty tk t).2 - t) ∧ t < (pty tk t).2 ∧ TyR B s tk m t i i' G G') → Q 0 G') : PX13_fieldOrMethod_75 m s0 G Q := by
  have hs0 := hK.1
  have hs1 := hK.2.1
  have hN := hK.2.2.2.2.1
  have ht0 : 0 ≤ t := h.2.1
  have htN : t < N := h.2.2.1
  have tl := ptake_le (a := t)
  -- behind the NAME
  have name : ∀ (q1 : RR) G1, RM B s N 0 G1 q1 i → FR (XM s i m) G G1 → t ≤ q1.2 → (q1.1 = 0 → q1.2 = t + 1 ∧ (tk t = 24 ∨ tk t = 26 ∨ tk t = 2) ∧ ptake t = (0, t + 1)) → (q1.1 ≠ 0 → pty tk t = q1) → G1 16129 m = 0 → G1 16134 m = -2 → G1 16135 m = -2 → G1 16128 m = plR B s t → (q1.1 = 0 → G1 16127 m = (if tk t = 24 then G 16127 m else rType B s tk t)) → (∀ c, 16116 ≤ c → c ≤ 16142 → ¬ (c = 16116 ∨ 16125 ≤ c ∧ c ≤ 16137) → G1 c m = G c m) → PX13_fieldOrMethod_111 m s0 G1 Q := by
    intro q1 G1 x1 x2 x3 x4 x5 x6 x7 x8 x9 x10 x11
    unfold PX13_fieldOrMethod_111
    refine rWant (k := 3) hK x1 (Or.inr ⟨rfl, rfl⟩) (fun r2 G2 r0 r1 rr h2 f2 => fun _ => rName hK h2.1 r0 r1 (fun _ => ⟨hm.1, hm.2, fun G3 e3 => ?_⟩))
    have h3 : RM B s N 0 G3 (pb q1 (pneed tk 3)) i := by rw [e3]; exact RM_put2 h2 (by omega) (by omega)
    refine rPlace hK h3.1 r0 r1 (fun _ => ⟨hm.1, hm.2, fun G4 e4 => ?_⟩)
    have h4 : RM B s N 0 G4 (pb q1 (pneed tk 3)) i := by rw [e4]; exact RM_put2 h3 (by omega) (by omega)
    have f4 : FR (XM s i m) G G4 := by rw [e4, e3]; exact XM_up (XM_up (FR_tr x2 (XM_r (Int.le_refl _) f2)) (by omega) (by omega)) (by omega) (by omega)
    have w4 : ∀ c, 16116 ≤ c → c ≤ 16142 → c ≠ 16125 → c ≠ 16126 → G4 c m = G1 c m := fun c y1 y2 y3 y4 => by rw [e4, uG_c y4, e3, uG_c y3, f2 _ _ (by unfold XR; omega)]
    have n25 : G4 16125 m = B 16093 (s * 702 + r2) := by rw [e4, uG_c (by omega), e3, uG_at]
    have n26 : G4 16126 m = B 16091 (s * 702 + r2) := by rw [e4, uG_at]
    by_cases e : (pb q1 (pneed tk 3)).1 = 0
    · obtain ⟨e1, e2⟩ := pb_z e
      obtain ⟨y1, y2, y3⟩ := x4 e1
      have hr2 : r2 = t + 1 := by rw [rr e1, y1]
      have e5 : (pb q1 (pneed tk 3)).2 = t + 2 := by rw [pb_0 e1, ((pneed_le).2.2 e2).1, y1]; omega
      have h4' := RM_eq h4 e e5
      have n3 : pneed tk 3 (t + 1) = (0, t + 2) := by
        have : pb q1 (pneed tk 3) = pneed tk 3 (t + 1) := by rw [pb_0 e1, y1]
        rw [← this]; exact Prod.ext e e5
      have sp : ptyped tk t = (if tk (t + 2) = 140 then pb (pparams tk (t + 2)) fun d => if tk d = 223 then (0, d) else pneed tk 159 d else if tk t = 24 then pmiss tk (t + 2) else if tk (t + 2) = 161 then ptake (t + 2) else pneed tk 159 (t + 2)) := by
        have hh : ptyped tk t = pb (ptake t) fun b => pb (pneed tk 3 b) fun c => if tk c = 140 then pb (pparams tk c) fun d => if tk d = 223 then (0, d) else pneed tk 159 d else if tk t = 24 then pmiss tk c else if tk c = 161 then ptake c else pneed tk 159 c := if_pos y2
        rw [hh, pb_e y3, pb_e n3]
      have fl4 : G4 16081 20 = 0 := (RM_fl h4).mpr e
      have k25 : G4 16125 m = nmR B s (t + 1) := by rw [n25, hr2]; rfl
      have k26 : G4 16126 m = plR B s (t + 1) := by rw [n26, hr2]; rfl
      have meth : tk (t + 2) = 140 ∨ tk t = 24 → PX13_fieldOrMethod_160 m s0 r2 G4 Q := fun z => by
        unfold PX13_fieldOrMethod_160
        refine ⟨hm.1, hm.2, fun G5 e5' => ?_⟩
        have h5 : RM B s N 0 G5 (0, t + 2) i := by rw [e5']; exact RM_put2 h4' (by omega) (by omega)
        have f5 : FR (XM s i m) G G5 := by rw [e5']; exact XM_up f4 (by omega) (by omega)
        refine rparams_ok hK hm h5 (by rw [e5', uG_c (by omega), w4 _ (by omega) (by omega) (by omega) (by omega)]; exact x6) (fun G6 h6 f6 hP => ?_)
        change RM B s N 0 G6 (pparams tk (t + 2)) i at h6
        change (pparams tk (t + 2)).1 = 0 → ParR B s tk m 0 (lPar tk (t + 2)) (t + 2 + 1) G6 ∧ lPar tk (t + 2) ≤ 4 at hP
        have f6' : FR (XM s i m) G G6 := FR_tr f5 (XM_p (Int.le_refl _) f6)
        have w6 : ∀ c, 16116 ≤ c → c ≤ 16142 → ¬ (16129 ≤ c ∧ c ≤ 16133) → G6 c m = G5 c m := fun c y1 y2 y3 => f6 _ _ (by unfold XP XR; omega)
        -- behind PARAMS
        have body : ∀ (z6 : (pparams tk (t + 2)).1 = 0 → tk (t + 2) = 140 ∧ tk (pparams tk (t + 2)).2 ≠ 159), PX13_fieldOrMethod_195 m s0 r2 G6 Q := fun z6 => by
          unfold PX13_fieldOrMethod_195 PX13_fieldOrMethod_266
          refine rbody_ok hK hm h6 h0 (fun e6 => ?_) (fun G7 i7 h7 c1 c2 c3 c4 c5 c6 c7 => ?_)
          · have := pparams_le (tk := tk) (t + 2)
            omega
          · by_cases e6 : (pparams tk (t + 2)).1 = 0
            · obtain ⟨z7, z8⟩ := z6 e6
              obtain ⟨p1, p2⟩ := hP e6
              rw [if_pos z7, pb_0 e6] at sp
              have spr : pb (pparams tk (t + 2)) (pB tk 12) = pB tk 12 (pparams tk (t + 2)).2 := pb_0 e6
              rw [spr] at h7 c4 c5 c7
              by_cases z9 : tk (pparams tk (t + 2)).2 = 223
              · rw [if_pos z9] at sp
                have kT : kTyped tk t = 223 := by unfold kTyped; rw [if_pos z7, if_pos z9]
                have spt : pty tk t = pB tk 12 (pparams tk (t + 2)).2 := by
                  unfold pty
                  rw [sp, kT]; rfl
                have hle := pparams_le (tk := tk) (t + 2)
                refine hQ G7 i7 (by rw [spt]; exact h7) c1 (FR_tr f6' c2) (fun w => ?_)
                rw [spt] at w ⊢
                obtain ⟨v1, v2, v3, v4, v5⟩ := c7 w
                have w7 : ∀ c j, 16116 ≤ c → c ≤ 16142 → ¬ (c = 16135 ∨ c = 16136 ∨ c = 16137) → G7 c j = G6 c j := fun c j y1 y2 y3 => c6 c j y1 y2 (by omega)
                have k7 : ∀ c, 16116 ≤ c → c ≤ 16142 → ¬ (16129 ≤ c ∧ c ≤ 16133) → ¬ (c = 16135 ∨ c = 16136 ∨ c = 16137) → c ≠ 16116 → G7 c m = G4 c m := fun c y1 y2 y3 y4 y5 => by rw [w7 c m y1 y2 y4, w6 c y1 y2 y3, e5', uG_c y5]
                refine ⟨by omega, by omega, by rw [w7 _ _ (by omega) (by omega) (by omega), w6 _ (by omega) (by omega) (by omega), e5', uG_at, if_pos z7], by rw [k7 _ (by omega) (by omega) (by omega) (by omega) (by omega)]; exact k25, by rw [k7 _ (by omega) (by omega) (by omega) (by omega) (by omega)]; exact k26, by rw [k7 _ (by omega) (by omega) (by omega) (by omega) (by omega), w4 _ (by omega) (by omega) (by omega) (by omega)]; exact x10 e1, by rw [k7 _ (by omega) (by omega) (by omega) (by omega) (by omega), w4 _ (by omega) (by omega) (by omega) (by omega)]; exact x9, ?_, ?_, fun c y1 y2 y3 => by rw [k7 c y1 y2 (by omega) (by omega) (by omega), w4 c y1 y2 (by omega) (by omega)]; exact x11 c y1 y2 y3⟩
                · rw [if_pos z7, show t + 3 = t + 2 + 1 by omega]
                  exact ⟨by rw [w7 _ _ (by omega) (by omega) (by omega)]; exact p1.1, fun j j0 j1 => by rw [w7 _ _ (by omega) (by omega) (by omega), w7 _ _ (by omega) (by omega) (by omega), w7 _ _ (by omega) (by omega) (by omega), w7 _ _ (by omega) (by omega) (by omega)]; exact p1.2 j j0 j1⟩
                · rw [kT, sp]
                  exact ⟨fun u => absurd u (by decide), fun _ => ⟨by rw [k7 _ (by omega) (by omega) (by omega) (by omega) (by omega), w4 _ (by omega) (by omega) (by omega) (by omega)]; exact x7, v3, v4, v5⟩, fun u => absurd u (by decide)⟩
              · rw [if_neg z9] at sp
                have pB0 : pB tk 12 (pparams tk (t + 2)).2 = pmiss tk (pparams tk (t + 2)).2 := pB_no z9 12
                have spt : pty tk t = pB tk 12 (pparams tk (t + 2)).2 := by
                  unfold pty
                  have : pneed tk 159 (pparams tk (t + 2)).2 = pmiss tk (pparams tk (t + 2)).2 := if_neg z8
                  rw [sp, this, pb_n (pmiss_ne _), pB0]
                exact hQ G7 i7 (by rw [spt]; exact h7) c1 (FR_tr f6' c2) (fun w => absurd w (by rw [spt, pB0]; exact pmiss_ne _))
            · rw [pb_n e6] at h7
              have spt : pty tk t = pparams tk (t + 2) := by
                unfold pty
                rw [sp]
                by_cases z7 : tk (t + 2) = 140
                · rw [if_pos z7, pb_n e6, pb_n e6]
                · have z24 := z.resolve_left z7
                  have : pparams tk (t + 2) = pmiss tk (t + 2) := by
                    unfold pparams pneed
                    rw [if_neg z7, pb_n (pmiss_ne _)]
                  rw [if_neg z7, if_pos z24, pb_n (pmiss_ne _), this]
              exact hQ G7 i7 (by rw [spt]; exact h7) c1 (FR_tr f6' c2) (fun w => absurd (by rw [← spt]; exact w) e6)
        refine fun _ => ⟨fun y => ?_, fun y => body (fun e6 => absurd ((RM_fl h6).mpr e6) y)⟩
        have e6 := (RM_fl h6).mp y
        have z7 : tk (t + 2) = 140 := by
          unfold pparams at e6
          exact ((pneed_le).2.2 (pb_z e6).1).2
        refine rSg (k := 159) hK h6 e6 (Or.inl ⟨by unfold sg; omega, rfl⟩) (fun z9 => fun _ => ⟨fun u => absurd u (by decide), fun _ => rStep hK h6 (fun _ => by omega) (fun G7 h7 f7 => ?_)⟩) (fun z9 => fun _ => ⟨fun _ => body (fun _ => ⟨z7, z9⟩), fun u => absurd rfl u⟩)
        unfold PX13_fieldOrMethod_266
        rw [pb_0 e6] at h7
        have hle := pparams_le (tk := tk) (t + 2)
        have tld := ptake_le (a := (pparams tk (t + 2)).2)
        have n223 : ¬ tk (pparams tk (t + 2)).2 = 223 := by omega
        have pn : pneed tk 159 (pparams tk (t + 2)).2 = ptake (pparams tk (t + 2)).2 := if_pos z9
        rw [if_pos z7, pb_0 e6, if_neg n223, pn] at sp
        have kT : kTyped tk t = 0 := by unfold kTyped; rw [if_pos z7, if_neg n223]
        have spt : pty tk t = ptake (pparams tk (t + 2)).2 := by
          unfold pty
          rw [sp, kT]
          by_cases q : (ptake (pparams tk (t + 2)).2).1 = 0
          · rw [pb_0 q]; exact Prod.ext q.symm rfl
          · rw [pb_n q]
        refine hQ G7 i (by rw [spt]; exact h7) (Int.le_refl _) (FR_tr f6' (XM_r (Int.le_refl _) f7)) (fun w => ?_)
        rw [spt] at w ⊢
        have ed := tld.2.2 w
        obtain ⟨p1, p2⟩ := hP e6
        have w7 : ∀ c j, 16116 ≤ c → c ≤ 16142 → G7 c j = G6 c j := fun c j y1 y2 => f7 c j (by unfold XR; omega)
        have k7 : ∀ c, 16116 ≤ c → c ≤ 16142 → ¬ (16129 ≤ c ∧ c ≤ 16133) → c ≠ 16116 → G7 c m = G4 c m := fun c y1 y2 y3 y5 => by rw [w7 c m y1 y2, w6 c y1 y2 y3, e5', uG_c y5]
        refine ⟨by omega, by omega, by rw [w7 _ _ (by omega) (by omega), w6 _ (by omega) (by omega) (by omega), e5', uG_at, if_pos z7], by rw [k7 _ (by omega) (by omega) (by omega) (by omega)]; exact k25, by rw [k7 _ (by omega) (by omega) (by omega) (by omega)]; exact k26, by rw [k7 _ (by omega) (by omega) (by omega) (by omega), w4 _ (by omega) (by omega) (by omega) (by omega)]; exact x10 e1, by rw [k7 _ (by omega) (by omega) (by omega) (by omega), w4 _ (by omega) (by omega) (by omega) (by omega)]; exact x9, ?_, ?_, fun c y1 y2 y3 => by rw [k7 c y1 y2 (by omega) (by omega), w4 c y1 y2 (by omega) (by omega)]; exact x11 c y1 y2 y3⟩
        · rw [if_pos z7, show t + 3 = t + 2 + 1 by omega]
          exact ⟨by rw [w7 _ _ (by omega) (by omega)]; exact p1.1, fun j j0 j1 => by rw [w7 _ _ (by omega) (by omega), w7 _ _ (by omega) (by omega), w7 _ _ (by omega) (by omega), w7 _ _ (by omega) (by omega)]; exact p1.2 j j0 j1⟩
        · rw [kT]
          exact ⟨fun _ => ⟨by rw [k7 _ (by omega) (by omega) (by omega) (by omega), w4 _ (by omega) (by omega) (by omega) (by omega)]; exact x7, by rw [k7 _ (by omega) (by omega) (by omega) (by omega), w4 _ (by omega) (by omega) (by omega) (by omega)]; exact x8⟩, fun u => absurd u (by decide), fun u => absurd u (by decide)⟩
      refine fun _ => ⟨fun _ => ⟨fun u => ?_, fun u => meth (Or.inr (by omega))⟩, fun u => absurd fl4 u⟩
      have n24 : tk t ≠ 24 := by omega
      refine rSg (k := 140) hK h4' rfl (Or.inl ⟨by unfold sg; omega, rfl⟩) (fun z => fun _ => ⟨fun v => absurd v (by decide), fun _ => meth (Or.inl z)⟩) (fun z => fun _ => ⟨fun _ => ?_, fun v => absurd rfl v⟩)
      change tk (t + 2) ≠ 140 at z
      rw [if_neg z, if_neg n24] at sp
      -- a field
      unfold PX13_fieldOrMethod_203
      refine ⟨hm.1, hm.2, fun G5 e5' => ?_⟩
      have h5 : RM B s N 0 G5 (0, t + 2) i := by rw [e5']; exact RM_put2 h4' (by omega) (by omega)
      have f5 : FR (XM s i m) G G5 := by rw [e5']; exact XM_up f4 (by omega) (by omega)
      have w5 : ∀ c, 16116 ≤ c → c ≤ 16142 → c ≠ 16116 → c ≠ 16125 → c ≠ 16126 → G5 c m = G1 c m := fun c y1 y2 y3 y4 y5 => by rw [e5', uG_c y3, w4 c y1 y2 y4 y5]
      have k5 : G5 16125 m = nmR B s (t + 1) ∧ G5 16126 m = plR B s (t + 1) ∧ G5 16116 m = 0 := ⟨by rw [e5', uG_c (by omega)]; exact k25, by rw [e5', uG_c (by omega)]; exact k26, by rw [e5', uG_at]⟩
      -- what is told of all its cells but the E's
      have tyr : ∀ G' i', (∀ c, 16116 ≤ c → c ≤ 16142 → ¬ (16134 ≤ c ∧ c ≤ 16137) → G' c m = G5 c m) → RbR B s tk m (kTyped tk t) (ptyped tk t).2 i i' G' → TyR B s tk m t i i' G G' := fun G' i' y1 y2 => by
        refine ⟨by rw [y1 _ (by omega) (by omega) (by omega), k5.2.2, if_neg z], by rw [y1 _ (by omega) (by omega) (by omega)]; exact k5.1, by rw [y1 _ (by omega) (by omega) (by omega)]; exact k5.2.1, by rw [y1 _ (by omega) (by omega) (by omega), w5 _ (by omega) (by omega) (by omega) (by omega) (by omega)]; exact x10 e1, by rw [y1 _ (by omega) (by omega) (by omega), w5 _ (by omega) (by omega) (by omega) (by omega) (by omega)]; exact x9, ?_, y2, fun c z1 z2 z3 => by rw [y1 c z1 z2 (by omega), w5 c z1 z2 (by omega) (by omega) (by omega)]; exact x11 c z1 z2 z3⟩
        rw [if_neg z]
        exact ⟨by rw [y1 _ (by omega) (by omega) (by omega), w5 _ (by omega) (by omega) (by omega) (by omega) (by omega)]; exact x6, fun j j0 j1 => by omega⟩
      refine fun _ => ⟨fun _ => rSg (k := 161) hK h5 rfl (Or.inl ⟨by unfold sg; omega, rfl⟩) (fun z1 => fun _ => ⟨fun v => absurd v (by decide), fun _ => ?_⟩) (fun z1 => fun _ => ⟨fun _ => ?_, fun v => absurd rfl v⟩), fun v => absurd ((RM_fl h5).mpr rfl) v⟩
      · change tk (t + 2) = 161 at z1
        rw [if_pos z1] at sp
        have kT : kTyped tk t = 161 := by unfold kTyped; rw [if_neg z, if_pos z1]
        have spt : pty tk t = pb (pb (ptake (t + 2)) (pE tk 12)) (pneed tk 159) := by
          unfold pty
          rw [sp, kT, pb_pb]; rfl
        rw [spt] at hQ
        have tl2 := ptake_le (a := t + 2)
        refine rStep hK h5 (fun _ => by show tk (t + 2) ≠ 0 ∧ tk (t + 2) ≠ 1; omega) (fun G6 h6 f6 => ?_)
        change RM B s N 0 G6 (ptake (t + 2)) i at h6
        rw [RM_pp h6]
        refine fun _ => ⟨hm.1, hm.2, fun G7 e7 => ?_⟩
        have h7 : RM B s N 0 G7 (ptake (t + 2)) i := by rw [e7]; exact RM_put2 h6 (by omega) (by omega)
        have f7 : FR (XM s i m) G G7 := by rw [e7]; exact XM_up (FR_tr f5 (XM_r (Int.le_refl _) f6)) (by omega) (by omega)
        obtain ⟨⟨j1, j2⟩, -⟩ := rEU_IF B s tk 12
        refine (REU_ok hK 12 (by omega) 0 (by omega)).1 200 (by omega) G7 _ i _ h7 h0 (fun e => by have := tl2.2.2 e; omega) (fun v G8 i8 h8 hC => fun _ => ⟨hm.1, hm.2, fun G9 e9 => ?_⟩)
        obtain ⟨c1, c2, c3, c4, c5, c6⟩ := hC
        have h9 : RM B s N 0 G9 (pb (ptake (t + 2)) (pE tk 12)) i8 := by rw [e9]; exact RM_put2 h8 (by omega) (by omega)
        rw [RM_pp h9]
        refine fun _ => ⟨hm.1, hm.2, fun G10 e10 => ?_⟩
        have h10 : RM B s N 0 G10 (pb (ptake (t + 2)) (pE tk 12)) i8 := by rw [e10]; exact RM_put2 h9 (by omega) (by omega)
        unfold PX13_fieldOrMethod_260 PX13_fieldOrMethod_266
        refine rWantSign (k := 159) hK h10 (Or.inl ⟨by unfold sg; omega, rfl⟩) (fun G11 h11 f11 => hQ G11 i8 h11 c1 ?_ (fun w => ?_))
        · refine FR_tr f7 (FR_tr (XM_r (Int.le_refl _) c2) (FR_tr ?_ (XM_r c1 f11)))
          rw [e10, e9]; exact XM_up (XM_up FR_id (by omega) (by omega)) (by omega) (by omega)
        · obtain ⟨u1, u2⟩ := pb_z w
          obtain ⟨v1, v2, v3, v4⟩ := c6 u1
          have et := tl2.2.2 (pb_z u1).1
          have e12 : (pb (pb (ptake (t + 2)) (pE tk 12)) (pneed tk 159)).2 = (pb (ptake (t + 2)) (pE tk 12)).2 + 1 := by rw [pb_0 u1, ((pneed_le).2.2 u2).1]
          have w11 : ∀ c, 16116 ≤ c → c ≤ 16142 → G11 c m = G10 c m := fun c y1 y2 => f11 c m (by unfold XR; omega)
          have w8 : ∀ c, 16116 ≤ c → c ≤ 16142 → G8 c m = G7 c m := fun c y1 y2 => c2 c m (by unfold XR; omega)
          refine ⟨by omega, by omega, tyr G11 i8 (fun c y1 y2 y3 => by rw [w11 c y1 y2, e10, uG_c (by omega), e9, uG_c (by omega), w8 c y1 y2, e7, uG_c (by omega), f6 c m (by unfold XR; omega)]) ?_⟩
          rw [kT, sp]
          refine ⟨fun y => absurd y (by decide), fun y => absurd y (by decide), fun _ => ⟨?_, ?_, ?_, ?_⟩⟩
          · rw [w11 _ (by omega) (by omega), e10, uG_c (by omega), e9, uG_c (by omega), w8 _ (by omega) (by omega), e7, uG_c (by omega), f6 _ _ (by unfold XR; omega), w5 _ (by omega) (by omega) (by omega) (by omega) (by omega)]; exact x8
          · rw [w11 _ (by omega) (by omega), e10, uG_c (by omega), e9, uG_c (by omega), w8 _ (by omega) (by omega), e7, uG_at]
          · rw [w11 _ (by omega) (by omega), e10, uG_at, pb_0 (pb_z u1).1]
          · rw [show G11 16134 m = v by rw [w11 _ (by omega) (by omega), e10, uG_c (by omega), e9, uG_at]]
            exact j2 _ _ _ _ _ _ v3 (fun c j y1 y2 y3 y4 _ => by rw [f11 c j (by unfold XR; omega), e10, uG_c (by omega), e9, uG_c (by omega)])
      · change tk (t + 2) ≠ 161 at z1
        rw [if_neg z1] at sp
        have kT : kTyped tk t = 0 := by unfold kTyped; rw [if_neg z, if_neg z1]
        have spt : pty tk t = pneed tk 159 (t + 2) := by
          unfold pty
          rw [sp, kT]
          by_cases q : (pneed tk 159 (t + 2)).1 = 0
          · rw [pb_0 q]; exact Prod.ext q.symm rfl
          · rw [pb_n q]
        rw [spt] at hQ
        unfold PX13_fieldOrMethod_260 PX13_fieldOrMethod_266
        refine rWantSign (k := 159) hK h5 (Or.inl ⟨by unfold sg; omega, rfl⟩) (fun G6 h6 f6 => hQ G6 i h6 (Int.le_refl _) (FR_tr f5 (XM_r (Int.le_refl _) f6)) (fun w => ?_))
        have e6 := ((pneed_le).2.2 w).1
        refine ⟨by omega, by omega, tyr G6 i (fun c y1 y2 y3 => f6 c m (by unfold XR; omega)) ?_⟩
        rw [kT]
        exact ⟨fun _ => ⟨by rw [f6 _ _ (by unfold XR; omega), w5 _ (by omega) (by omega) (by omega) (by omega) (by omega)]; exact x7, by rw [f6 _ _ (by unfold XR; omega), w5 _ (by omega) (by omega) (by omega) (by omega) (by omega)]; exact x8⟩, fun y => absurd y (by decide), fun y => absurd y (by decide)⟩
    · -- no NAME
      have spt : pty tk t = pb q1 (pneed tk 3) := by
        by_cases e1 : q1.1 = 0
        · obtain ⟨y1, y2, y3⟩ := x4 e1
          have hh : ptyped tk t = pb (ptake t) fun b => pb (pneed tk 3 b) fun c => if tk c = 140 then pb (pparams tk c) fun d => if tk d = 223 then (0, d) else pneed tk 159 d else if tk t = 24 then pmiss tk c else if tk c = 161 then ptake c else pneed tk 159 c := if_pos y2
          rw [pb_0 e1, y1] at e ⊢
          unfold pty
          rw [hh, pb_e y3, pb_n e, pb_n e]
        · rw [pb_n e1]; exact x5 e1
      have fl4 : G4 16081 20 ≠ 0 := fun u => e ((RM_fl h4).mp u)
      refine fun _ => ⟨fun u => absurd u fl4, fun _ => ?_⟩
      unfold PX13_fieldOrMethod_203 PX13_fieldOrMethod_260 PX13_fieldOrMethod_266
      refine ⟨hm.1, hm.2, fun G5 e5' => ?_⟩
      have h5 : RM B s N 0 G5 (pb q1 (pneed tk 3)) i := by rw [e5']; exact RM_put2 h4 (by omega) (by omega)
      refine fun _ => ⟨fun u => absurd ((RM_fl h5).mp u) e, fun _ => rWantSign (k := 159) hK h5 (Or.inl ⟨by unfold sg; omega, rfl⟩) (fun G6 h6 f6 => ?_)⟩
      rw [pb_n e] at h6
      exact hQ G6 i (by rw [spt]; exact h6) (Int.le_refl _) (FR_tr f4 (FR_tr (by rw [e5']; exact XM_up FR_id (by omega) (by omega)) (XM_r (Int.le_refl _) f6))) (fun w => absurd (by rw [← spt]; exact w) e)
  unfold PX13_fieldOrMethod_75
  rw [RM_pp h]
  refine fun _ => rPlace hK h.1 ht0 htN (fun _ => ⟨hm.1, hm.2, fun G1 e1 => ?_⟩)
  have h1 : RM B s N 0 G1 (0, t) i := by rw [e1]; exact RM_put2 h (by omega) (by omega)
  have f1 : FR (XM s i m) G G1 := by rw [e1]; exact XM_up FR_id (by omega) (by omega)
  have w1 : ∀ c, c ≠ 16128 → G1 c m = G c m := fun c y => by rw [e1, uG_c y]
  have v28 : G1 16128 m = plR B s t := by rw [e1, uG_at]; rfl
  have tk1 : ptake t = (0, t + 1) ∨ (ptake t).1 ≠ 0 := by
    by_cases e : (ptake t).1 = 0
    · exact Or.inl (Prod.ext e (tl.2.2 e))
    · exact Or.inr e
  have bd : (tk t = 24 ∨ tk t = 26 ∨ tk t = 2) → (ptake t).1 ≠ 0 → pty tk t = ptake t := fun z e => by
    have hh : ptyped tk t = pb (ptake t) fun b => pb (pneed tk 3 b) fun c => if tk c = 140 then pb (pparams tk c) fun d => if tk d = 223 then (0, d) else pneed tk 159 d else if tk t = 24 then pmiss tk c else if tk c = 161 then ptake c else pneed tk 159 c := if_pos z
    unfold pty
    rw [hh, pb_n e, pb_n e]
  refine ⟨fun u => rTypeTok hK h1 (fun ty G2 h2 f2 hty => fun _ => ⟨hm.1, hm.2, fun G3 e3 => ?_⟩), fun u => rStep hK h1 (fun _ => by show tk t ≠ 0 ∧ tk t ≠ 1; omega) (fun G2 h2 f2 => ?_)⟩
  · have n24 : tk t ≠ 24 := by omega
    change RM B s N 0 G2 (ptype tk t) i at h2
    change (ptype tk t).1 = 0 → ty = rType B s tk t at hty
    have w2 : ∀ c, 16116 ≤ c → c ≤ 16142 → c ≠ 16127 → G3 c m = G1 c m := fun c y1 y2 y3 => by rw [e3, uG_c y3, f2 c m (by unfold XR; omega)]
    have ptt : (tk t = 26 ∨ tk t = 2) → ptype tk t = ptake t := fun z => if_pos z
    refine name (ptype tk t) G3 (by rw [e3]; exact RM_put2 h2 (by omega) (by omega)) (by rw [e3]; exact XM_up (FR_tr f1 (XM_r (Int.le_refl _) f2)) (by omega) (by omega)) (ptype_l t) (fun e => ?_) (fun e => ?_) (by rw [w2 _ (by omega) (by omega) (by omega), w1 _ (by omega)]; exact h29) (by rw [w2 _ (by omega) (by omega) (by omega), w1 _ (by omega)]; exact h34) (by rw [w2 _ (by omega) (by omega) (by omega), w1 _ (by omega)]; exact h35) (by rw [w2 _ (by omega) (by omega) (by omega)]; exact v28) (fun e => by rw [e3, uG_at, if_neg n24]; exact hty e) (fun c y1 y2 y3 => by rw [w2 c y1 y2 (by omega), w1 c (by omega)])
    · have z : tk t = 26 ∨ tk t = 2 := by
        unfold ptype at e
        split at e
        · assumption
        · exact absurd e (pmiss_ne _)
      have e' := e
      rw [ptt z] at e'
      exact ⟨ptype_1 e, Or.inr z, Prod.ext e' (tl.2.2 e')⟩
    · by_cases z : tk t = 26 ∨ tk t = 2
      · rw [ptt z] at e ⊢
        exact bd (Or.inr z) e
      · have hp : ptype tk t = pmiss tk t := if_neg z
        have hh : ptyped tk t = pmiss tk t := if_neg (fun u => u.elim n24 z)
        unfold pty
        rw [hh, hp, pb_n (pmiss_ne _)]
  · have y24 : tk t = 24 := by omega
    change RM B s N 0 G2 (ptake t) i at h2
    have w2 : ∀ c, 16116 ≤ c → c ≤ 16142 → G2 c m = G1 c m := fun c y1 y2 => f2 c m (by unfold XR; omega)
    exact name (ptake t) G2 h2 (FR_tr f1 (XM_r (Int.le_refl _) f2)) tl.1 (fun e => ⟨tl.2.2 e, Or.inl y24, Prod.ext e (tl.2.2 e)⟩) (fun e => bd (Or.inl y24) e) (by rw [w2 _ (by omega) (by omega), w1 _ (by omega)]; exact h29) (by rw [w2 _ (by omega) (by omega), w1 _ (by omega)]; exact h34) (by rw [w2 _ (by omega) (by omega), w1 _ (by omega)]; exact h35) (by rw [w2 _ (by omega) (by omega)]; exact v28) (fun e => by rw [w2 _ (by omega) (by omega), w1 _ (by omega), if_pos y24]) (fun c y1 y2 y3 => by rw [w2 c y1 y2, w1 c (by omega)])
end RP21

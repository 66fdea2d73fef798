section CQ7
variable {tk cd : Int → Int} {T S B : TT} {eE sS bB : Int → RR} {c d i0 a : Int} {G0 G : gS} {R : JT}
theorem tried_ok {Q : Int → gS → Prop} (hB : SEx R tk cd c B bB 0 [d] d) (gI : TI B) (gF : TF B) (m : MS G0 G tk cd c i0 (i0 + 1) (a + 1) d) (hi0 : 0 ≤ i0) (ha : 0 ≤ a) (hw : tk a = 33) (hn : nC G (14 + i0) a) (hQ : ∀ v G', PsE G0 G' c i0 a (pworded tk eE sS bB (tk a) (a + 1)) (oWord tk cd T S B eE sS bB) v → Q v G') : PX9_tried R (14 + i0) d G Q := by
  have hi9 : i0 ≤ 712 := by have := m.1; unfold Pre at this; omega
  have nO : isO W0 8 (14 + i0) := nd_isO hi0 (by omega)
  obtain ⟨n1, n4, n5, n6, n7, n8, n11⟩ := hn
  have s0 : pworded tk eE sS bB (tk a) (a + 1) = pb (bB (a + 1)) fun b => pb (pneed tk 34 b) fun c => pb (pneed tk 140 c) fun d => pb (pneed tk 2 d) fun e => pb (pneed tk 3 e) fun g => pb (pneed tk 141 g) bB := by unfold pworded; rw [if_neg (by omega), if_pos hw]
  generalize hr0 : pworded tk eE sS bB (tk a) (a + 1) = r0 at *
  have bad : ∀ G1, BAD G0 G1 r0 → Q (-1) G1 := fun G1 h => hQ (-1) G1 (BAD_P h)
  unfold PX9_tried PX9_tried_0 PX9_tried_41 PX9_tried_90 PX9_tried_113
  refine ⟨nO, fun G2 e2 => ?_⟩
  have m2 : MS G0 G2 tk cd c i0 (i0 + 1) (a + 1) d := by rw [e2]; exact MS_st m hi0 (by omega)
  have w0 : G2 (14 + i0) 0 = 36 := by rw [e2, uG_at]
  have w2 : ∀ j, j ≠ 0 → G2 (14 + i0) j = G (14 + i0) j := fun j y => by rw [e2, uG_j y]
  refine hB _ (i0 + 1) (a + 1) _ m2.1 (fun v G3 h3 => ?_)
  by_cases e3 : (bB (a + 1)).1 = 0
  · rw [pb_0 e3] at s0
    obtain ⟨i1, m3, t3, n83, u1, u2, u3, u4, kp3⟩ := MS_E m2 (by omega) h3 e3
    obtain ⟨kv, ev, kv1, kv2⟩ := gI _ _ _ _ _ t3
    generalize hx : (bB (a + 1)).2 = x at *
    refine ⟨Or.inr (nd_of (i := i1) (by omega) (by omega)), fun G7 e7 => ?_⟩
    have m7 : MS G0 G7 tk cd c i0 i1 x d := by rw [e7]; exact MS_st m3 hi0 (by omega)
    have w5 : G7 (14 + i0) 5 = v := by rw [e7, uG_at]
    have o7 : ∀ j, j ≠ 5 → G7 (14 + i0) j = G2 (14 + i0) j := fun j y => by rw [e7, uG_j y, kp3 _ _ (by omega) (by omega)]
    have t7 : ∀ k j, k ≠ 14 + i0 → G7 k j = G3 k j := fun k j y => by rw [e7, uG_c y]
    refine fun _ => ⟨fun _ => mNeed m7 (by decide) (fun x1 x2 x3 m8 => ?_) (fun n x1 x2 => bad _ (BAD_fl m7 x1 (by rw [s0, x2]; exact pb_n x1))), fun z => absurd m7.1.2.2.1 z⟩
    rw [pb_e x1] at s0
    refine mNeed m8 (by decide) (fun x4 x5 x6 m9 => ?_) (fun n x4 x5 => bad _ (BAD_fl m8 x4 (by rw [s0, x5]; exact pb_n x4)))
    rw [pb_e x4] at s0
    rw [uG_at]
    refine fun _ G19 e19 => ?_
    have m10 : MS G0 G19 tk cd c i0 i1 (x + 1 + 1) d := by rw [e19]; exact MS_st m9 hi0 (by omega)
    have a10 : G19 7 8 = x + 1 + 1 := m10.1.2.1
    rw [a10]
    have hcd : G19 12 (x + 1 + 1) = cd (x + 1 + 1) := m10.1.2.2.2.2.2.2.2.2.2.2.2 _ (by omega) (by omega)
    rw [hcd]
    refine fun _ => ⟨by omega, by omega, fun _ G24 e24 => ?_⟩
    have m11 : MS G0 G24 tk cd c i0 i1 (x + 1 + 1) d := by rw [e24]; exact MS_st m10 hi0 (by omega)
    refine mNeed m11 (by decide) (fun y1 y2 y3 m12 => ?_) (fun n y1 y2 => bad _ (BAD_fl m11 y1 (by rw [s0, y2]; exact pb_n y1)))
    rw [pb_e y1] at s0
    refine mNeed m12 (by decide) (fun y4 y5 y6 m13 => ?_) (fun n y4 y5 => bad _ (BAD_fl m12 y4 (by rw [s0, y5]; exact pb_n y4)))
    rw [pb_e y4] at s0
    refine mNeed m13 (by decide) (fun y7 y8 y9 m14 => ?_) (fun n y7 y8 => bad _ (BAD_fl m13 y7 (by rw [s0, y8]; exact pb_n y7)))
    rw [pb_e y7] at s0
    refine hB _ i1 (x + 1 + 1 + 1 + 1 + 1) _ m14.1 (fun v2 G15 h15 => ?_)
    by_cases e15 : (bB (x + 1 + 1 + 1 + 1 + 1)).1 = 0
    · obtain ⟨i2, m15, t15, n815, q1, q2, q3, q4, kp15⟩ := MS_E m14 (by omega) h15 e15
      obtain ⟨kw, ew, kw1, kw2⟩ := gI _ _ _ _ _ t15
      refine ⟨Or.inr (nd_of (i := i2) (by omega) (by omega)), fun G16 e16 => ?_⟩
      have m16 : MS G0 G16 tk cd c i0 i2 (bB (x + 1 + 1 + 1 + 1 + 1)).2 d := by rw [e16]; exact MS_st m15 hi0 (by omega)
      have o16 : ∀ k j, 14 ≤ k → k < 14 + i1 → ¬ (k = 14 + i0 ∧ (j = 2 ∨ j = 6 ∨ j = 10)) → G16 k j = G7 k j := fun k j g1 g2 g3 => by rw [e16, uG_ne (by omega), kp15 k j g1 g2, uG_c (by omega), uG_c (by omega), uG_c (by omega), e24, uG_ne (by omega), e19, uG_ne (by omega), uG_c (by omega), uG_c (by omega)]
      have c9 : ∀ j, j ≠ 0 → j ≠ 2 → j ≠ 5 → j ≠ 6 → j ≠ 10 → G16 (14 + i0) j = G (14 + i0) j := fun j g1 g2 g3 g4 g5 => by rw [o16 _ _ (by omega) (by omega) (by omega), o7 j g3, w2 j g1]
      have c0 : G16 (14 + i0) 0 = 36 := by rw [o16 _ _ (by omega) (by omega) (by omega), o7 0 (by decide)]; exact w0
      have c2 : G16 (14 + i0) 2 = x + 1 + 1 := by rw [e16, uG_j (by decide), kp15 _ _ (by omega) (by omega), uG_c (by omega), uG_c (by omega), uG_c (by omega), e24, uG_j (by decide), e19, uG_at]
      have c10 : G16 (14 + i0) 10 = cd (x + 1 + 1) := by rw [e16, uG_j (by decide), kp15 _ _ (by omega) (by omega), uG_c (by omega), uG_c (by omega), uG_c (by omega), e24, uG_at]
      have c6 : G16 (14 + i0) 6 = v2 := by rw [e16, uG_at]
      have ct : cTry cd B bB i0 i2 (14 + i0) a G16 := by
        refine ⟨by rw [c2, hx]; omega, by rw [c10, hx, show x + 2 = x + 1 + 1 by omega], i1, by omega, ?_, ?_⟩
        · rw [o16 _ 5 (by omega) (by omega) (by omega), w5]
          exact gF _ _ _ _ _ _ t3 (fun k j g1 g2 _ => by rw [o16 k j (by omega) (by omega) (by omega), t7 k j (by omega)])
        · rw [c6, hx, show x + 5 = x + 1 + 1 + 1 + 1 + 1 by omega]
          exact gF _ _ _ _ _ _ t15 (fun k j g1 g2 _ => by rw [e16, uG_c (by omega)])
      refine fun _ => ⟨fun _ => hQ (14 + i0) G16 (MS_end m16 (s0.trans (Prod.ext e15 rfl)) (by omega) (by omega) (by omega) ⟨⟨rfl, by omega, by rw [c9 1 (by decide) (by decide) (by decide) (by decide) (by decide)]; exact n1, by rw [c9 4 (by decide) (by decide) (by decide) (by decide) (by decide)]; exact n4, by rw [c9 11 (by decide) (by decide) (by decide) (by decide) (by decide)]; exact n11⟩, fun z => by omega, fun z => by omega, fun z => ⟨c0, ct⟩, fun z => by omega, fun z => by omega, fun z => by omega, fun z => by omega⟩ (by rw [c9 8 (by decide) (by decide) (by decide) (by decide) (by decide)]; exact n8)), fun z => absurd m16.1.2.2.1 z⟩
    · obtain ⟨ev2, b15⟩ := MS_B m14 h15 e15 s0
      refine ⟨Or.inl ev2, fun G16 e16 => ?_⟩
      have b16 : BAD G0 G16 r0 := by rw [e16]; exact BAD_st b15 (by omega)
      exact fun _ => ⟨fun z => BAD_f b16 z, fun _ => bad _ b16⟩
  · obtain ⟨ev, b3⟩ := MS_B m2 h3 e3 (s0.trans (pb_n e3))
    refine ⟨Or.inl ev, fun G7 e7 => ?_⟩
    have b7 : BAD G0 G7 r0 := by rw [e7]; exact BAD_st b3 (by omega)
    exact fun _ => ⟨fun z => BAD_f b7 z, fun _ => bad _ b7⟩
end CQ7

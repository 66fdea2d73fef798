section CQ6
variable {tk cd : Int → Int} {T S B : TT} {eE sS bB : Int → RR} {c d i0 a : Int} {G0 G : gS} {R : JT}
def oWord (tk cd : Int → Int) (T S B : TT) (eE sS bB : Int → RR) : TT := fun lo hi n a G => cOwn lo hi n a G ∧ cWord tk cd T S B eE sS bB lo hi n a G
-- a node's cells as node() leaves them, from its kind on
def nC (G : gS) (n a : Int) : Prop := G n 1 = a ∧ G n 4 = -1 ∧ G n 5 = -1 ∧ G n 6 = -1 ∧ G n 7 = -1 ∧ G n 8 = -1 ∧ G n 11 = -1
theorem tested_ok {Q : Int → gS → Prop} (hE : SEx (Rq6 200) tk cd c T eE 3 [d] d) (hI : TI T) (hF : TF T) (hS : SEx R tk cd c S sS 1 [d] d) (gI : TI S) (gF : TF S) (m : MS G0 G tk cd c i0 (i0 + 1) (a + 1) d) (hi0 : 0 ≤ i0) (ha : 0 ≤ a) (hw : tk a = 28 ∨ tk a = 30) (hn : nC G (14 + i0) a) (hQ : ∀ v G', PsE G0 G' c i0 a (pworded tk eE sS bB (tk a) (a + 1)) (oWord tk cd T S B eE sS bB) v → Q v G') : PX9_tested R (14 + i0) (tk a) d G Q := by
  have hi9 : i0 ≤ 712 := by have := m.1; unfold Pre at this; omega
  have nO : isO W0 8 (14 + i0) := nd_isO hi0 (by omega)
  obtain ⟨n1, n4, n5, n6, n7, n8, n11⟩ := hn
  have s0 : pworded tk eE sS bB (tk a) (a + 1) = pb (pneed tk 140 (a + 1)) fun b => pb (eE b) fun c => pb (pneed tk 141 c) fun d => pb (sS d) fun e => if tk a = 28 ∧ tk e = 29 then pb (ptake e) sS else (0, e) := by unfold pworded; rw [if_pos hw]
  generalize hr0 : pworded tk eE sS bB (tk a) (a + 1) = r0 at *
  have main : ∀ s1, (tk a = 28 → s1 = 32) → (tk a = 30 → s1 = 33) → PX9_tested_14 R (14 + i0) (tk a) d (14 + i0) s1 G Q := by
    intro s1 z1 z2
    have bad : ∀ G1, BAD G0 G1 r0 → Q (-1) G1 := fun G1 h => hQ (-1) G1 (BAD_P h)
    have b104 : ∀ G1 l, BAD G0 G1 r0 → PX9_tested_104 R l (tk a) d G1 Q := fun G1 l h => by
      unfold PX9_tested_104 PX9_tested_116
      exact fun _ => ⟨fun z => BAD_f h z, fun _ => bad G1 h⟩
    unfold PX9_tested_14
    refine ⟨nO, fun G2 e2 => ?_⟩
    have m2 : MS G0 G2 tk cd c i0 (i0 + 1) (a + 1) d := by rw [e2]; exact MS_st m hi0 (by omega)
    have w0 : G2 (14 + i0) 0 = s1 := by rw [e2, uG_at]
    have w2 : ∀ j, j ≠ 0 → G2 (14 + i0) j = G (14 + i0) j := fun j y => by rw [e2, uG_j y]
    refine mNeed m2 (by decide) (fun x1 x2 x3 m3 => ?_) (fun n x1 x2 => bad _ (BAD_fl m2 x1 (by rw [s0, x2]; exact pb_n x1)))
    rw [pb_e x1] at s0
    refine hE _ (i0 + 1) (a + 1 + 1) _ m3.1 (fun v G4 h4 => ?_)
    by_cases e4 : (eE (a + 1 + 1)).1 = 0
    · rw [pb_0 e4] at s0
      obtain ⟨i1, m4, t4, n84, u1, u2, u3, u4, kp4⟩ := MS_E m3 (by omega) h4 e4
      obtain ⟨kv, ev, kv1, kv2⟩ := hI _ _ _ _ _ t4
      generalize hx : (eE (a + 1 + 1)).2 = x at *
      have hx' : (eE (a + 2)).2 = x := by rw [← hx, show a + 2 = a + 1 + 1 by omega]
      refine ⟨nO, Or.inr (nd_of (i := i1) (by omega) (by omega)), fun G5 e5 => ?_⟩
      have m5 : MS G0 G5 tk cd c i0 i1 x d := by rw [e5]; exact MS_st m4 hi0 (by omega)
      have w5 : G5 (14 + i0) 5 = v := by rw [e5, uG_at]
      have o5 : ∀ j, j ≠ 5 → G5 (14 + i0) j = G2 (14 + i0) j := fun j y => by rw [e5, uG_j y, kp4 _ _ (by omega) (by omega), uG_c (by omega)]
      have t5 : ∀ k j, k ≠ 14 + i0 → G5 k j = G4 k j := fun k j y => by rw [e5, uG_c y]
      refine fun _ => ⟨fun _ => mNeed m5 (by decide) (fun x4 x5 x6 m6 => ?_) (fun n x4 x5 => ?_), fun z => absurd m5.1.2.2.1 z⟩
      · rw [pb_e x4] at s0
        refine hS _ i1 (x + 1) _ m6.1 (fun v2 G7 h7 => ?_)
        by_cases e7 : (sS (x + 1)).1 = 0
        · rw [pb_0 e7] at s0
          obtain ⟨i2, m7, t7, n87, y1, y2, y3, y4, kp7⟩ := MS_E m6 (by omega) h7 e7
          obtain ⟨kw, ew, kw1, kw2⟩ := gI _ _ _ _ _ t7
          generalize hy : (sS (x + 1)).2 = y at *
          have hy' : eTest eE sS a = y := by unfold eTest; rw [hx', hy]
          refine ⟨Or.inr (nd_of (i := i2) (by omega) (by omega)), fun G8 e8 => ?_⟩
          have m8 : MS G0 G8 tk cd c i0 i2 y d := by rw [e8]; exact MS_st m7 hi0 (by omega)
          have w8 : G8 (14 + i0) 6 = v2 := by rw [e8, uG_at]
          have o8 : ∀ k j, 14 ≤ k → k < 14 + i1 → ¬ (k = 14 + i0 ∧ j = 6) → G8 k j = G5 k j := fun k j q1 q2 q3 => by rw [e8, uG_ne (by omega), kp7 k j q1 q2, uG_c (by omega)]
          have t8 : ∀ k j, k ≠ 14 + i0 → G8 k j = G7 k j := fun k j q => by rw [e8, uG_c q]
          have fin : ∀ G9 i3 z v3, MS G0 G9 tk cd c i0 i3 z d → r0 = (0, z) → i2 ≤ i3 → i3 ≤ i2 + (z - y) → y ≤ z → (∀ k j, 14 ≤ k → k < 14 + i2 → ¬ (k = 14 + i0 ∧ j = 7) → G9 k j = G8 k j) → G9 (14 + i0) 7 = v3 → (tk a = 28 ∧ tk y = 29 → S i2 i3 v3 (y + 1) G9) → (¬ (tk a = 28 ∧ tk y = 29) → v3 = -1) → PX9_tested_104 R (14 + i0) (tk a) d G9 Q := by
            intro G9 i3 z v3 m9 hr q1 q2 q3 q4 q5 q6 q7
            unfold PX9_tested_104 PX9_tested_116
            have c9 : ∀ j, j ≠ 0 → j ≠ 5 → j ≠ 6 → j ≠ 7 → G9 (14 + i0) j = G (14 + i0) j := fun j g1 g2 g3 g4 => by rw [q4 _ _ (by omega) (by omega) (by omega), o8 _ _ (by omega) (by omega) (by omega), o5 j g2, w2 j g1]
            have c0 : G9 (14 + i0) 0 = s1 := by rw [q4 _ _ (by omega) (by omega) (by omega), o8 _ _ (by omega) (by omega) (by omega), o5 0 (by decide)]; exact w0
            have ct : cTest tk T S eE sS i0 i3 (14 + i0) a G9 := by
              refine ⟨i1, i2, by omega, by omega, ?_, ?_, fun z => ?_, fun z => ?_⟩
              · rw [q4 _ _ (by omega) (by omega) (by omega), o8 _ _ (by omega) (by omega) (by omega), w5, show a + 2 = a + 1 + 1 by omega]
                exact hF _ _ _ _ _ _ t4 (fun k j g1 g2 _ => by rw [q4 k j (by omega) (by omega) (by omega), o8 k j (by omega) (by omega) (by omega), t5 k j (by omega)])
              · rw [q4 _ _ (by omega) (by omega) (by omega), w8, hx']
                exact gF _ _ _ _ _ _ t7 (fun k j g1 g2 _ => by rw [q4 k j (by omega) (by omega) (by omega), t8 k j (by omega)])
              · rw [hy'] at z ⊢
                rw [q5]; exact q6 z
              · rw [hy'] at z
                rw [q5]; exact q7 z
            refine fun _ => ⟨fun _ => hQ (14 + i0) G9 (MS_end m9 (by rw [← hr]) (by omega) (by omega) (by omega) ⟨⟨rfl, by omega, by rw [c9 1 (by decide) (by decide) (by decide) (by decide)]; exact n1, by rw [c9 4 (by decide) (by decide) (by decide) (by decide)]; exact n4, by rw [c9 11 (by decide) (by decide) (by decide) (by decide)]; exact n11⟩, fun z => ⟨c0.trans (z1 z), ct⟩, fun z => ⟨c0.trans (z2 z), ct⟩, fun z => by omega, fun z => by omega, fun z => by omega, fun z => by omega, fun z => by omega⟩ (by rw [c9 8 (by decide) (by decide) (by decide) (by decide)]; exact n8)), fun z => absurd m9.1.2.2.1 z⟩
          have fin0 : ¬ (tk a = 28 ∧ tk y = 29) → PX9_tested_104 R (14 + i0) (tk a) d G8 Q := fun z => by
            rw [if_neg z] at s0
            refine fin G8 i2 y (-1) m8 s0 (by omega) (by omega) (by omega) (fun k j _ _ _ => rfl) ?_ (fun q => absurd q z) (fun _ => rfl)
            rw [o8 _ _ (by omega) (by omega) (by omega), o5 7 (by decide), w2 7 (by decide)]; exact n7
          refine fun _ => ⟨fun _ => ⟨fun z28 => mNow m8 (fun _ => ⟨fun z29 => ?_, fun z29 => fin0 (fun q => z29 q.2)⟩), fun z28 => fin0 (fun q => z28 q.1)⟩, fun z => absurd m8.1.2.2.1 z⟩
          rw [if_pos ⟨z28, z29⟩] at s0
          refine mTake m8 (by omega) (fun x7 x8 m9 => ?_) (fun x7 => b104 _ _ (BAD_fl m8 (by decide) (by rw [s0, x7]; exact pb_n three_ne)))
          rw [pb_e x7] at s0
          refine hS _ i2 (y + 1) _ m9.1 (fun v3 G10 h10 => ?_)
          by_cases e10 : (sS (y + 1)).1 = 0
          · obtain ⟨i3, m10, t10, n810, q1, q2, q3, q4, kp10⟩ := MS_E m9 (by omega) h10 e10
            obtain ⟨kz, ez, kz1, kz2⟩ := gI _ _ _ _ _ t10
            refine ⟨Or.inr (nd_of (i := i3) (by omega) (by omega)), fun G11 e11 => ?_⟩
            refine fin G11 i3 (sS (y + 1)).2 v3 (by rw [e11]; exact MS_st m10 hi0 (by omega)) (s0.trans (Prod.ext e10 rfl)) (by omega) (by omega) (by omega) (fun k j g1 g2 g3 => by rw [e11, uG_ne (by omega), kp10 k j g1 g2, uG_c (by omega)]) (by rw [e11, uG_at]) (fun _ => ?_) (fun q => absurd ⟨z28, z29⟩ q)
            exact gF _ _ _ _ _ _ t10 (fun k j g1 g2 _ => by rw [e11, uG_c (by omega)])
          · obtain ⟨ev3, b10⟩ := MS_B m9 h10 e10 s0
            exact ⟨Or.inl ev3, fun G11 e11 => b104 _ _ (by rw [e11]; exact BAD_st b10 (by omega))⟩
        · obtain ⟨ev2, b7⟩ := MS_B m6 h7 e7 (s0.trans (pb_n e7))
          refine ⟨Or.inl ev2, fun G8 e8 => ?_⟩
          have b8 : BAD G0 G8 r0 := by rw [e8]; exact BAD_st b7 (by omega)
          exact fun _ => ⟨fun z => BAD_f b8 z, fun _ => b104 _ _ b8⟩
      · unfold PX9_tested_55
        exact bad _ (BAD_fl m5 x4 (by rw [s0, x5]; exact pb_n x4))
    · obtain ⟨ev, b4⟩ := MS_B m3 h4 e4 (s0.trans (pb_n e4))
      refine ⟨nO, Or.inl ev, fun G5 e5 => ?_⟩
      have b5 : BAD G0 G5 r0 := by rw [e5]; exact BAD_st b4 (by omega)
      unfold PX9_tested_55
      exact fun _ => ⟨fun z => BAD_f b5 z, fun _ => bad _ b5⟩
  unfold PX9_tested PX9_tested_0
  exact ⟨fun z => main 32 (fun _ => rfl) (fun y => by omega), fun z => main 33 (fun y => absurd y z) (fun _ => rfl)⟩
end CQ6

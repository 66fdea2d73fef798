section CH6
variable {tk cd : Int → Int} {c a m : Int} {G0 G : gS}
theorem hNeedQ {X : Int → Int → Prop} {Q : Int → gS → Prop} {w : Int} (h : HS X G0 G tk cd c a) (hX : XT X) (hw : w ≠ 0) (h1 : pneed tk w a = (0, a + 1) → tk a = w → a < 700 → HS X G0 (uG G 7 8 (a + 1)) tk cd c (a + 1) → Q 1 (uG G 7 8 (a + 1))) (h2 : ∀ m, m ≠ 0 → pneed tk w a = (m, a) → Q 0 (fG G m a)) : PX9_need w G Q := by
  have h' := h
  obtain ⟨⟨p1, p2, p3, p4, p5, p6, -⟩, -⟩ := h
  exact sX9_need p1 p2 p3 p4 (by omega) hw (fun x y z => h1 x z y (HS_tk h' hX y (by omega))) (fun m x y => h2 m x y)
-- a member's own cells
def xMem (m : Int) (c j : Int) : Prop := xAt c j ∨ c = m ∨ c = m + 1
theorem xMem_T (h : 985 ≤ m) : XT (xMem m) := ⟨fun _ _ h => Or.inl h, by unfold xMem xAt; omega, fun _ => by unfold xMem xAt; omega, fun _ => by unfold xMem xAt; omega⟩
-- n PARAMS read from a on, behind k others
def PrP (tk cd : Int → Int) (m k a n : Int) (G G' : gS) : Prop := G' m 9 = k + n ∧ (∀ j, 0 ≤ j → j < n → G' (m + 1) (k + j) = cType tk cd (a + 3 * j)) ∧ ∀ c' j', ¬ xAt c' j' → ¬ (c' = m ∧ j' = 9) → ¬ (c' = m + 1 ∧ k ≤ j' ∧ j' < k + n) → G' c' j' = G c' j'
theorem nPar_0 : ∀ (f : Nat) (a : Int), 0 ≤ nPar tk f a
  | 0, _ => Int.le_refl _
  | f + 1, a => by
    show 0 ≤ (if tk (a + 2) = 144 then 1 + nPar tk f (a + 3) else 1)
    have := nPar_0 f (a + 3)
    split <;> omega
theorem par_loop (hm : isO W0 7 m) (hm1 : isA W0 1 4 (m + 1)) (hm9 : 985 ≤ m) : ∀ (f F : Nat) (G0 : gS) (a k : Int) (Q : Int → gS → Prop), f < F → (f : Int) + k = 6 → HS (xMem m) G0 G0 tk cd c a → G0 m 9 = k → 0 ≤ k ∧ k ≤ 4 → (∀ v G', PsB (xMem m) G0 G' c a v (pparamsL tk f k a) (PrP tk cd m k a (nPar tk f a) G0) → Q v G') → PX9_readParams_30 (PX9_readParams_J F) m 1 k G0 Q
  | 0, _, _, _, _, _, _, h, _, _, hk, _ => by omega
  | f + 1, 0, _, _, _, _, h, _, _, _, _, _ => absurd h (by omega)
  | f + 1, F + 1, G, a, k, Q, hfF, hfk, hs, h9, hk, hQ => by
    have hX := xMem_T hm9
    have ha7 : a ≤ 700 := hs.1.2.2.2.2.1
    have ha0 : 0 ≤ a := hs.1.2.2.2.1
    have typed : tk a = 26 ∨ tk a = 2 → PX9_readParams_61 (PX9_readParams_J (F + 1)) m 1 k G Q := fun hz => by
      have spec : pparamsL tk (f + 1) k a = (if k < 4 then pb (ptake a) fun b => pb (pneed tk 3 b) fun c => if tk c = 144 then pb (ptake c) (pparamsL tk f (k + 1)) else pneed tk 141 c else (3, a)) := if_pos hz
      unfold PX9_readParams_61
      rw [h9]
      refine ⟨hm, fun _ => ⟨fun y => fun _ => ?_, fun y => ?_⟩⟩
      · rw [if_pos y] at spec
        have go : PX9_readParams_107 (PX9_readParams_J (F + 1)) m 1 k (m + 1) k (cType tk cd a) G Q := by
          unfold PX9_readParams_107 PX9_readParams_133
          refine ⟨4, hm1, hk.1, y, fun G44 e44 => ⟨hm, ?_⟩⟩
          rw [show G44 m 9 = k by rw [e44, uG_c (by omega)]; exact h9]
          refine fun _ => ⟨by unfold inI; omega, fun G48 e48 => ?_⟩
          have m48 : HS (xMem m) G G48 tk cd c a := by rw [e48, e44]; exact HS_st (HS_st hs (Or.inr (Or.inr rfl)) (by omega)) (Or.inr (Or.inl rfl)) (by omega)
          refine hTake m48 hX (by omega) (fun x1 x2 m1 => ?_) (fun x1 => hQ 0 _ (HB_B (HB_fl m48 hX (by decide) (by rw [spec, x1]; exact pb_n three_ne))))
          rw [pb_e x1] at spec
          refine hNeed m1 hX (by decide) (fun y1 y2 y3 m2 => ?_) (fun n y1 y2 => hQ 0 _ (HB_B (HB_fl m1 hX y1 (by rw [spec, y2]; exact pb_n y1))))
          rw [pb_e y1] at spec
          generalize hG3 : uG (uG G48 7 8 (a + 1)) 7 8 (a + 1 + 1) = G3 at *
          have k3 : G3 m 9 = k + 1 := by rw [← hG3, uG_c (by omega), uG_c (by omega), e48, uG_at]
          have v3 : G3 (m + 1) k = cType tk cd a := by rw [← hG3, uG_c (by omega), uG_c (by omega), e48, uG_c (by omega), e44, uG_at]
          have o3 : ∀ c' j', ¬ xAt c' j' → ¬ (c' = m ∧ j' = 9) → ¬ (c' = m + 1 ∧ j' = k) → G3 c' j' = G c' j' := fun c' j' q1 q2 q3 => by
            unfold xAt at q1
            rw [← hG3, uG_ne (by omega), uG_ne (by omega), e48, uG_ne (by omega), e44, uG_ne (by omega)]
          refine hNow m2 (fun _ => ⟨fun z2 => ?_, fun z2 => ?_⟩)
          · rw [if_pos z2] at spec
            unfold PX9_readParams_150 PX9_readParams_164
            refine ⟨fun u => absurd u (by decide), fun _ => hTake m2 hX (by omega) (fun x3 x4 m3 => ⟨by unfold inI; omega, ?_⟩) (fun x3 => hQ 0 _ (HB_B (HB_fl m2 hX (by decide) (by rw [spec, x3]; exact pb_n three_ne))))⟩
            rw [pb_e x3] at spec
            show PX9_readParams_30 (PX9_readParams_J F) m 1 (k + 1) (uG G3 7 8 (a + 1 + 1 + 1)) Q
            have n1 : nPar tk (f + 1) a = 1 + nPar tk f (a + 1 + 1 + 1) := by
              show (if tk (a + 2) = 144 then 1 + nPar tk f (a + 3) else 1) = _
              rw [show a + 2 = a + 1 + 1 by omega, if_pos z2, show a + 3 = a + 1 + 1 + 1 by omega]
            refine par_loop hm hm1 hm9 f F _ (a + 1 + 1 + 1) (k + 1) Q (by omega) (by omega) ⟨m3.1, FR_id⟩ (by rw [uG_c (by omega)]; exact k3) (by omega) (fun v G' h => ?_)
            obtain ⟨⟨h1, h2, h3⟩, h4, h5⟩ := h
            rw [← spec] at h2 h3 h4 h5
            refine hQ v G' ⟨⟨FR_tr m3.2 h1, h2, fun e => ?_⟩, h4, h5⟩
            obtain ⟨q1, q2, q3, q4, q5, q6, q7, q8⟩ := h3 e
            refine ⟨q1, q2, by omega, q4, q5, by rw [n1]; omega, fun j y1 y2 => ?_, fun c' j' y1 y2 y3 => ?_⟩
            · rw [n1] at y2
              by_cases e0 : j = 0
              · subst e0
                rw [show k + 0 = k by omega, q8 (m + 1) k (by unfold xAt; omega) (by omega) (by omega), uG_c (by omega), v3, show a + 3 * 0 = a by omega]
              · have := q7 (j - 1) (by omega) (by omega)
                rw [show k + 1 + (j - 1) = k + j by omega, show a + 1 + 1 + 1 + 3 * (j - 1) = a + 3 * j by omega] at this
                exact this
            · rw [n1] at y3
              have y1' := y1
              unfold xAt at y1'
              by_cases e1 : c' = m + 1 ∧ k + 1 ≤ j' ∧ j' < k + 1 + nPar tk f (a + 1 + 1 + 1)
              · exact absurd ⟨e1.1, by omega, by omega⟩ y3
              · by_cases e2 : c' = m + 1 ∧ j' = k
                · by_cases e3 : 0 ≤ nPar tk f (a + 1 + 1 + 1)
                  · exact absurd ⟨e2.1, by omega, by omega⟩ y3
                  · exact absurd (nPar_0 (tk := tk) f (a + 1 + 1 + 1)) e3
                · rw [q8 c' j' y1 y2 e1, uG_ne (by omega), o3 c' j' y1 y2 e2]
          · rw [if_neg z2] at spec
            unfold PX9_readParams_150 PX9_readParams_164
            refine ⟨fun _ => ⟨by unfold inI; omega, ?_⟩, fun u => absurd rfl u⟩
            show PX9_readParams_30 (PX9_readParams_J F) m 0 (k + 1) G3 Q
            have n1 : nPar tk (f + 1) a = 1 := by
              show (if tk (a + 2) = 144 then 1 + nPar tk f (a + 3) else 1) = _
              rw [show a + 2 = a + 1 + 1 by omega, if_neg z2]
            have q : PX9_readParams_170 (PX9_readParams_J F) m 0 (k + 1) G3 Q := by
              unfold PX9_readParams_170
              refine hNeedQ m2 hX (by decide) (fun q1 q2 q3 m5 => fun _ => hQ 1 _ (HS_B m5 (spec.trans q1) (by omega) ?_)) (fun n q1 q2 => fun _ => hQ 0 _ (HB_B (HB_fl m2 hX q1 (spec.trans q2))))
              rw [n1]
              refine ⟨by rw [uG_c (by omega)]; exact k3, fun j y1 y2 => ?_, fun c' j' y1 y2 y3 => ?_⟩
              · obtain rfl : j = 0 := by omega
                rw [show k + 0 = k by omega, uG_c (by omega), v3, show a + 3 * 0 = a by omega]
              · have y1' := y1
                unfold xAt at y1'
                rw [uG_ne (by omega)]
                exact o3 c' j' y1 y2 (by omega)
            unfold PX9_readParams_30
            exact ⟨fun _ => q, fun _ => ⟨fun _ => q, fun u => absurd rfl u⟩⟩
        have go' := go
        refine hNow hs (fun _ => ⟨fun z => ?_, fun z => ?_⟩)
        · unfold cType at go'
          rwa [if_pos z] at go'
        · rw [hs.1.2.1]
          refine fun _ => ⟨by omega, by omega, fun _ => ?_⟩
          rw [hs.1.2.2.2.2.2.2 _ (by omega) (by omega)]
          unfold cType at go'
          rwa [if_neg z] at go'
      · rw [if_neg y] at spec
        exact hStop hs hX (by decide) spec (fun G' h => fun _ => hQ 0 G' (HB_B h))
    unfold PX9_readParams_30
    refine ⟨fun u => by omega, fun _ => ⟨fun u => absurd u (by decide), fun _ => hNow hs (fun _ => ⟨fun z => typed (Or.inl z), fun z1 => hNow hs (fun _ => ⟨fun z => typed (Or.inr z), fun z2 => ?_⟩)⟩)⟩⟩
    have spec : pparamsL tk (f + 1) k a = pmiss tk a := if_neg (fun q => q.elim z1 z2)
    exact hMiss hs hX spec (fun G' h => fun _ => hQ 0 G' (HB_B h))
end CH6

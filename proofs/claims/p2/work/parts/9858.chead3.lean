section CH4
variable {G : gS} {Q : Int → gS → Prop}
-- a row made: the k-th of the b-th build
def NR (G G' : gS) (b k : Int) : Prop := G' (bd b) 3 = k + 1 ∧ G' (rw_ b k) 1 = -4 ∧ G' (rw_ b k) 2 = 0 ∧ G' (rw_ b k) 7 = 0 ∧ G' (rw_ b k) 8 = -4031174665287237632 ∧ G' (rw_ b k) 9 = -4 ∧ G' (rw_ b k) 13 = 0 ∧ G' (rw_ b k) 15 = 0 ∧ G' (rw_ b k) 18 = -1 ∧ G' (rw_ b k + 2) 0 = 0 ∧ G' (rw_ b k + 2) 1 = 0 ∧ G' (rw_ b k + 2) 2 = 0 ∧ ∀ c j, c ≠ rw_ b k → c ≠ rw_ b k + 2 → ¬ (c = bd b ∧ j = 3) → G' c j = G c j
theorem sX10_clear {b k h : Int} (hb : 0 ≤ b ∧ b < 17) (hk : 0 ≤ k ∧ k < 12) (hh : h = -1 ∨ isO W0 1 h) (hQ : ∀ G', (G' (rw_ b k) 1 = -4 ∧ G' (rw_ b k) 2 = 0 ∧ G' (rw_ b k) 7 = 0 ∧ G' (rw_ b k) 8 = -4031174665287237632 ∧ G' (rw_ b k) 9 = -4 ∧ G' (rw_ b k) 13 = 0 ∧ G' (rw_ b k) 15 = 0 ∧ G' (rw_ b k) 18 = -1) → (G' (rw_ b k + 2) 0 = 0 ∧ G' (rw_ b k + 2) 1 = 0 ∧ G' (rw_ b k + 2) 2 = 0) → (∀ c j, c ≠ rw_ b k → c ≠ rw_ b k + 2 → G' c j = G c j) → Q 0 G') : PX10_clear (rw_ b k) h G Q := by
  obtain ⟨r1, r2, r3, r4, r5, r6, r7, r8, r9⟩ := rw_ok hb.1 hb.2 hk.1 hk.2
  generalize rw_ b k = r at *
  unfold PX10_clear PX10_clear_0
  refine ⟨r1, hh, fun G3 e3 G4 e4 G5 e5 G6 e6 G7 e7 G8 e8 G9 e9 G10 e10 G11 e11 G12 e12 => ⟨3, r3, r7, by decide, fun G15 e15 G16 e16 G17 e17 G18 e18 G19 e19 G20 e20 G21 e21 => ?_⟩⟩
  subst e3 e4 e5 e6 e7 e8 e9 e10 e11 e12 e15 e16 e17 e18 e19 e20 e21
  refine hQ _ ⟨?_, ?_, ?_, ?_, ?_, ?_, ?_, ?_⟩ ⟨?_, ?_, ?_⟩ (fun c j x y => ?_)
  all_goals (repeat (first | rw [uG_at] | rw [uG_ne (by omega)] | rw [fillG_in (by omega) (by omega)] | rw [fillG_ne (by omega)]))
theorem sX1_newRow {b k : Int} (hb : 0 ≤ b ∧ b < 17) (hk : G (bd b) 3 = k) (hk0 : 0 ≤ k ∧ k ≤ 12) (h1 : k < 12 → ∀ G', NR G G' b k → Q (rw_ b k) G') (h2 : ¬ k < 12 → Q (-1) G) : PX1_newRow (bd b) G Q := by
  obtain ⟨b1, b2, b3, b4, b5⟩ := bd_ok hb.1 hb.2
  unfold PX1_newRow PX1_newRow_0
  rw [hk]
  refine ⟨b1, fun _ => fun hf => ?_⟩
  rw [hf.2 _ b4]
  refine ⟨12, b2, by unfold inI; omega, fun z => fun _ => fun _ => ⟨12, b2, hk0.1, z, fun hf2 => fun _ => ⟨by unfold inI; omega, fun G17 e17 => ?_⟩⟩, fun z => h2 z⟩
  obtain ⟨r1, r2, r3, r4, r5, r6, r7, r8, r9⟩ := rw_ok hb.1 hb.2 hk0.1 z
  rw [hf2.2 _ r6]
  refine ⟨r1, sX10_clear hb ⟨hk0.1, z⟩ (Or.inr b1) (fun G' q1 q2 q3 => h1 z G' ?_)⟩
  obtain ⟨q11, q12, q13, q14, q15, q16, q17, q18⟩ := q1
  refine ⟨?_, q11, q12, q13, q14, q15, q16, q17, q18, q2.1, q2.2.1, q2.2.2, fun c j x y w => ?_⟩
  · rw [q3 _ _ (by unfold bd rw_; omega) (by unfold bd rw_; omega), e17, uG_at]
  · rw [q3 _ _ x y, e17, uG_ne (by omega)]
end CH4

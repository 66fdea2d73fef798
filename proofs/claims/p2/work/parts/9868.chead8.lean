section CH9
variable {G : gS} {Q : Int → gS → Prop}
-- a member made: the n-th of the b-th build
def NM (G G' : gS) (b n : Int) : Prop := G' (bd b) 5 = n + 1 ∧ G' (mb b n) 0 = 0 ∧ G' (mb b n) 1 = 1 ∧ G' (mb b n) 2 = 0 ∧ G' (mb b n) 3 = 0 ∧ G' (mb b n) 4 = 0 ∧ G' (mb b n) 5 = 0 ∧ G' (mb b n) 6 = 0 ∧ G' (mb b n) 7 = -4 ∧ G' (mb b n) 8 = -3 ∧ G' (mb b n) 9 = 0 ∧ G' (mb b n) 11 = 0 ∧ G' (mb b n) 14 = -1 ∧ G' (mb b n) 15 = 0 ∧ (∀ j, 0 ≤ j → j < 4 → G' (mb b n + 1) j = -4) ∧ ∀ c j, c ≠ mb b n → c ≠ mb b n + 1 → ¬ (c = bd b ∧ j = 5) → G' c j = G c j
theorem sX7_clear {b n : Int} (hb : 0 ≤ b ∧ b < 17) (hn : 0 ≤ n ∧ n < 408) (hQ : ∀ G', (G' (mb b n) 0 = 0 ∧ G' (mb b n) 1 = 1 ∧ G' (mb b n) 2 = 0 ∧ G' (mb b n) 3 = 0 ∧ G' (mb b n) 4 = 0 ∧ G' (mb b n) 5 = 0 ∧ G' (mb b n) 6 = 0 ∧ G' (mb b n) 7 = -4 ∧ G' (mb b n) 8 = -3 ∧ G' (mb b n) 9 = 0 ∧ G' (mb b n) 11 = 0 ∧ G' (mb b n) 14 = -1 ∧ G' (mb b n) 15 = 0) → (∀ j, 0 ≤ j → j < 4 → G' (mb b n + 1) j = -4) → (∀ c j, c ≠ mb b n → c ≠ mb b n + 1 → G' c j = G c j) → Q 0 G') : PX7_clear (mb b n) G Q := by
  obtain ⟨r1, r2, r3, r4⟩ := mb_ok hb.1 hb.2 hn.1 hn.2
  generalize mb b n = m at *
  unfold PX7_clear PX7_clear_0
  refine ⟨r1, fun G2 e2 G3 e3 G4 e4 G5 e5 G6 e6 G7 e7 G8 e8 G9 e9 G10 e10 G11 e11 => ⟨4, r2, r4, by decide, fun G14 e14 G15 e15 G16 e16 G17 e17 G18 e18 G19 e19 G20 e20 G21 e21 => ?_⟩⟩
  subst e2 e3 e4 e5 e6 e7 e8 e9 e10 e11 e14 e15 e16 e17 e18 e19 e20 e21
  refine hQ _ ⟨?_, ?_, ?_, ?_, ?_, ?_, ?_, ?_, ?_, ?_, ?_, ?_, ?_⟩ (fun j x y => ?_) (fun c j x y => ?_)
  all_goals (repeat (first | rw [uG_at] | rw [uG_ne (by omega)] | rw [fillG_in (by omega) (by omega)] | rw [fillG_ne (by omega)]))
theorem sX1_newMember {b n : Int} (hb : 0 ≤ b ∧ b < 17) (hn : G (bd b) 5 = n) (hn0 : 0 ≤ n ∧ n < 408) (hQ : ∀ G', NM G G' b n → Q (mb b n) G') : PX1_newMember (bd b) G Q := by
  obtain ⟨b1, b2, b3, b4, b5⟩ := bd_ok hb.1 hb.2
  obtain ⟨r1, r2, r3, r4⟩ := mb_ok hb.1 hb.2 hn0.1 hn0.2
  have go : PX1_newMember_23 (bd b) G Q := by
    unfold PX1_newMember_23
    rw [hn]
    refine ⟨b1, fun hf => ?_⟩
    rw [hf.2 _ b5]
    refine fun _ => ⟨408, b3, hn0.1, hn0.2, fun hf2 => fun _ => ⟨by unfold inI; omega, fun G23 e23 => ?_⟩⟩
    rw [hf2.2 _ r3]
    refine ⟨r1, sX7_clear hb hn0 (fun G' q1 q2 q3 => hQ G' ?_)⟩
    obtain ⟨q11, q12, q13, q14, q15, q16, q17, q18, q19, q20, q21, q22, q23⟩ := q1
    refine ⟨?_, q11, q12, q13, q14, q15, q16, q17, q18, q19, q20, q21, q22, q23, q2, fun c j x y w => ?_⟩
    · rw [q3 _ _ (by unfold bd mb; omega) (by unfold bd mb; omega), e23, uG_at]
    · rw [q3 _ _ x y, e23, uG_ne (by omega)]
  unfold PX1_newMember PX1_newMember_0
  rw [hn]
  refine ⟨b1, fun _ => fun hf => ?_⟩
  rw [hf.2 _ b5]
  exact ⟨408, b3, by unfold inI; omega, fun _ => go, fun z => absurd hn0.2 z⟩
theorem sX10_addItem {b k n i : Int} (hb : 0 ≤ b ∧ b < 17) (hk : 0 ≤ k ∧ k < 12) (hn : 0 ≤ n ∧ n < 408) (hi : G (rw_ b k) 13 = i) (hi0 : 0 ≤ i ∧ i < 20) (hQ : Q 0 (uG (uG G (rw_ b k + 3) i (mb b n)) (rw_ b k) 13 (i + 1))) : PX10_addItem (rw_ b k) (mb b n) G Q := by
  obtain ⟨r1, r2, r3, r4, r5, r6, r7, r8, r9⟩ := rw_ok hb.1 hb.2 hk.1 hk.2
  obtain ⟨m1, -⟩ := mb_ok hb.1 hb.2 hn.1 hn.2
  unfold PX10_addItem PX10_addItem_0 PX10_addItem_32
  rw [hi]
  refine ⟨r1, fun _ => ⟨fun _ => fun _ => ⟨hi0.1, hi0.2, r8 i, Or.inr m1, fun G9 e9 => ?_⟩, fun z => absurd hi0.2 z⟩⟩
  rw [show G9 (rw_ b k) 13 = i by rw [e9, uG_c (by omega)]; exact hi]
  refine fun _ => ⟨by unfold inI; omega, fun G12 e12 => ?_⟩
  rw [e12, e9]; exact hQ
theorem sX10_add {b k n i : Int} (hb : 0 ≤ b ∧ b < 17) (hk : 0 ≤ k ∧ k < 12) (hn : 0 ≤ n ∧ n < 408) (hi : G (rw_ b k) 15 = i) (hi0 : 0 ≤ i ∧ i < 33) (hQ : Q 0 (uG (uG G (rw_ b k + 4) i (mb b n)) (rw_ b k) 15 (i + 1))) : PX10_add (rw_ b k) (mb b n) G Q := by
  obtain ⟨r1, r2, r3, r4, r5, r6, r7, r8, r9⟩ := rw_ok hb.1 hb.2 hk.1 hk.2
  obtain ⟨m1, -⟩ := mb_ok hb.1 hb.2 hn.1 hn.2
  unfold PX10_add PX10_add_0 PX10_add_32
  rw [hi]
  refine ⟨r1, fun _ => ⟨fun _ => fun _ => ⟨hi0.1, hi0.2, r9 i, Or.inr m1, fun G9 e9 => ?_⟩, fun z => absurd hi0.2 z⟩⟩
  rw [show G9 (rw_ b k) 15 = i by rw [e9, uG_c (by omega)]; exact hi]
  refine fun _ => ⟨by unfold inI; omega, fun G12 e12 => ?_⟩
  rw [e12, e9]; exact hQ
end CH9

section CB6
variable {G : gS} {t : Int → Int} {n b : Int}
-- the tokens that were scanned
def tkO (G : gS) (c a : Int) : Int := if 0 ≤ a ∧ a < c then G 9 a else 0
/-- scanned: the tokens of a tape, a build of no classes -/
def Scn (G G1 : gS) (b n : Int) (t : Int → Int) (c : Int) : Prop := (∀ c' j, ¬ (c' = 7 ∧ (5 ≤ j ∧ j ≤ 11 ∨ j = 14)) → ¬ (9 ≤ c' ∧ c' ≤ 12) → ¬ (c' = bd b ∧ (j = 3 ∨ j = 5 ∨ j = 7 ∨ j = 15 ∨ j = 17)) → G1 c' j = G c' j) ∧ G1 7 11 = bd b ∧ G1 7 14 = 0 ∧ G1 (bd b) 3 = 0 ∧ G1 (bd b) 5 = 0 ∧ G1 (bd b) 7 = 0 ∧ G1 (bd b) 15 = 0 ∧ G1 (bd b) 17 = 0 ∧ PT G1 (tkO G1 c) c ∧ CTs G1 n t c ∧ CTg G1 (c - 1) ∧ G1 10 c = n ∧ G1 11 c = n ∧ ((1 ≤ c ∧ G1 9 (c - 1) = 1) ∨ c = 702 ∨ Sk t n (pv G1 c) n) ∧ G1 7 6 = 1 ∧ G1 7 7 = n
theorem read_ok {Q : Int → gS → Prop} (hb : 0 ≤ b ∧ b < 17) (hw : WC G) (ht : Tx t n) (hT : ∀ i, 0 ≤ i → i < n → G 1 i = t i) (hQ1 : ∀ G1 G' c (K : Nat) a i, Scn G G1 b n t c → (ptext (tkO G1 c) 12).1 = 0 → tkO G1 c a = 0 → St0 (tkO G1 c) (G1 12) c b G1 K a i G' → Q 1 G') (hQ0 : ∀ G1 G' c, Scn G G1 b n t c → RBd (tkO G1 c) c b G1 G' → Q 0 G') : PX9_read (bd b) 1 n G Q := by
  obtain ⟨b1, -⟩ := bd_ok hb.1 hb.2
  refine ⟨4000000000, Nat.le_refl _, ?_⟩
  generalize hF : (4000000000 : Nat) = F
  unfold PX9_read_0 PX1_clear PX1_clear_0
  refine ⟨Or.inr b1, fun G2 e2 => ?_⟩
  rw [show G2 7 11 = bd b by rw [e2, uG_at]]
  refine fun _ => ⟨b1, b1, fun G3 e3 G4 e4 G5 e5 G6 e6 G7 e7 G8 e8 G9 e9 G10 e10 => ?_⟩
  have f : ∀ c' j, ¬ (c' = 7 ∧ (j = 9 ∨ j = 10 ∨ j = 11 ∨ j = 14)) → ¬ (c' = bd b ∧ (j = 3 ∨ j = 5 ∨ j = 7 ∨ j = 15 ∨ j = 17)) → G10 c' j = G c' j := fun c' j q1 q2 => by
    rw [e10, uG_ne (by omega), e9, uG_ne (by omega), e8, uG_ne (by omega), e7, uG_ne (by omega), e6, uG_ne (by omega), e5, uG_ne (by omega), e4, uG_ne (by omega), e3, uG_ne (by omega), e2, uG_ne (by omega)]
  have hb7 : 985 ≤ bd b := by unfold bd; omega
  have v : G10 7 9 = 0 ∧ G10 7 11 = bd b ∧ G10 7 14 = 0 ∧ G10 (bd b) 3 = 0 ∧ G10 (bd b) 5 = 0 ∧ G10 (bd b) 7 = 0 ∧ G10 (bd b) 15 = 0 ∧ G10 (bd b) 17 = 0 := by
    generalize bd b = o at *
    subst e2 e3 e4 e5 e6 e7 e8 e9 e10
    refine ⟨?_, ?_, ?_, ?_, ?_, ?_, ?_, ?_⟩ <;> simp (disch := omega) only [uG_at, uG_ne]
  obtain ⟨v9, v11, v14, v3, v5, v7, v15, v17⟩ := v
  refine sX9_scanAll (t := t) (fun w x y => by rw [f _ _ (by omega) (by omega)]; exact hw w x y) ht (fun i x y => by rw [f _ _ (by omega) (by omega)]; exact hT i x y) (fun c G1 h => ?_)
  obtain ⟨hA, ⟨c6, c7, c5, c1⟩, k0, k1, c8, hs, hg, h9, h10, h11, hl⟩ := h
  have w : ∀ c' j, ¬ (c' = 7 ∧ 5 ≤ j ∧ j ≤ 8) → ¬ (9 ≤ c' ∧ c' ≤ 12) → G1 c' j = G10 c' j := fun c' j q1 q2 => hA c' j (by omega) q1
  have pt : PT G1 (tkO G1 c) c := ⟨c5, k0, k1, fun a x y => by
    unfold tkO
    by_cases z : a < c
    · rw [if_pos ⟨x, z⟩]
    · rw [if_neg (by omega), show a = c by omega]; exact h9, fun a x => if_neg (by omega)⟩
  have sc : Scn G G1 b n t c := ⟨fun c' j q1 q2 q3 => by rw [w _ _ (by omega) q2]; exact f _ _ (by omega) q3, by rw [w _ _ (by omega) (by omega)]; exact v11, by rw [w _ _ (by omega) (by omega)]; exact v14, by rw [w _ _ (by omega) (by omega)]; exact v3, by rw [w _ _ (by omega) (by omega)]; exact v5, by rw [w _ _ (by omega) (by omega)]; exact v7, by rw [w _ _ (by omega) (by omega)]; exact v15, by rw [w _ _ (by omega) (by omega)]; exact v17, pt, hs, hg, h10, h11, hl, c6, c7⟩
  refine read_loop (tk := tkO G1 c) (cd := G1 12) (c := c) (G0 := G1) hb sc.2.1 (by omega) ⟨⟨⟨pt, c8, by rw [w _ _ (by omega) (by omega)]; exact v9, by omega, by omega, k0, fun a x y => rfl⟩, FR_id⟩, sc.2.1, sc.2.2.1, by omega, by omega, sc.2.2.2.1, by omega, sc.2.2.2.2.1, by show (0 : Int) ≤ _; omega, fun k x => by omega, rfl, 702, rfl, rfl⟩ (fun K a i G' x y z => hQ1 G1 G' c K a i sc x y z) (fun G' x => hQ0 G1 G' c sc x)
end CB6

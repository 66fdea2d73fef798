section CH11
variable {tk cd : Int → Int} {c p m r w : Int} {G0 G : gS}
theorem mem_195 {X : Int → Int → Prop} {Q : Int → gS → Prop} {r0 : RR} {s1 : Int} (hX : XT X) (sub : ∀ c j, xTyp m c j → X c j) (hm : isO W0 7 m) (hm1 : isA W0 1 4 (m + 1)) (hm9 : 985 ≤ m) (hs : HS X G0 G tk cd c p) (h0 : G m 0 = 0) (h9 : G m 9 = 0) (hp4 : ∀ j, 0 ≤ j → j < 4 → G (m + 1) j = -4) (h12 : G 7 12 = 223) (s : r0 = pb (popt tk 22 p) fun c => pb (pfb tk c) (ptyped tk)) (hs1 : s1 = b01 (tk p = 22))
    (hok : ∀ G' e, HS X G0 G' tk cd c e → r0 = (0, e) → p ≤ e → FR (xTyp m) G G' → (∀ j, (j = 1 ∨ j = 5 ∨ j = 6 ∨ j = 14 ∨ j = 15) → G' m j = G m j) → G' m 2 = b01 (tk p = 22) → G' m 3 = b01 (tk (popt tk 22 p).2 = 20) → G' m 4 = b01 (tk (popt tk 22 p).2 = 21) → G' 7 12 = kTyped tk (pfb tk (popt tk 22 p).2).2 → (∃ G1, G1 m 0 = 0 ∧ G1 m 9 = 0 ∧ (∀ j, 0 ≤ j → j < 4 → G1 (m + 1) j = -4) ∧ TyP tk cd m (pfb tk (popt tk 22 p).2).2 G1 G') → Q 1 G')
    (hbad : ∀ G', HB X G0 G' r0 → Q 0 G') : PX9_readMember_195 r w m m s1 G Q := by
  have o01 : ∀ {q : Prop} [Decidable q], (0 : Int) ≤ b01 q ∧ b01 q ≤ 1 := fun {q} _ => by unfold b01; split <;> decide
  have o0 : (0 : Int) ≤ 0 ∧ (0 : Int) ≤ 1 := by omega
  have o1 : (0 : Int) ≤ 1 ∧ (1 : Int) ≤ 1 := by omega
  have xm : ∀ j, xTyp m m j := fun j => Or.inl (Or.inr (Or.inl rfl))
  have xa : ∀ c' j', xAt c' j' → xTyp m c' j' := fun _ _ h => Or.inl (Or.inl h)
  -- from the type on
  have ty : ∀ G2, HS X G0 G2 tk cd c (pfb tk (popt tk 22 p).2).2 → r0 = ptyped tk (pfb tk (popt tk 22 p).2).2 → p ≤ (pfb tk (popt tk 22 p).2).2 → FR (xTyp m) G G2 → (∀ j, j ≠ 2 → j ≠ 3 → j ≠ 4 → G2 m j = G m j) → (∀ j, G2 (m + 1) j = G (m + 1) j) → G2 7 12 = 223 → G2 m 2 = b01 (tk p = 22) → G2 m 3 = b01 (tk (popt tk 22 p).2 = 20) → G2 m 4 = b01 (tk (popt tk 22 p).2 = 21) → PX9_readMember_271 r w m G2 Q := by
    intro G2 m2 s2 l2 f2 k2 q2 v12 v2 v3 v4
    unfold PX9_readMember_271 PX9_readMember_283 PX9_readMember_284
    refine hTypX hX sub hm hm1 hm9 m2 (by rw [k2 9 (by decide) (by decide) (by decide)]; exact h9) v12 (fun G3 e3 m3 l3 f3 T3 => ⟨o1, ?_⟩) (fun G3 e3 b3 => ⟨o0, hbad G3 (by rw [s2]; exact b3)⟩)
    have T3' := T3
    obtain ⟨t1, t2, t3, t4, t5, t6, t7, t8⟩ := T3
    refine hok G3 _ m3 (s2.trans (Prod.ext e3 rfl)) (by omega) (FR_tr f2 f3) (fun j hj => by rw [t8 j (by omega), k2 j (by omega) (by omega) (by omega)]) (by rw [t8 2 (by omega)]; exact v2) (by rw [t8 3 (by omega)]; exact v3) (by rw [t8 4 (by omega)]; exact v4) t5 ⟨G2, by rw [k2 0 (by decide) (by decide) (by decide)]; exact h0, by rw [k2 9 (by decide) (by decide) (by decide)]; exact h9, fun j y1 y2 => by rw [q2]; exact hp4 j y1 y2, T3'⟩
  -- from final, bare on
  have fb : ∀ G1, HS X G0 G1 tk cd c (popt tk 22 p).2 → r0 = pb (pfb tk (popt tk 22 p).2) (ptyped tk) → p ≤ (popt tk 22 p).2 → FR (xTyp m) G G1 → (∀ j, j ≠ 2 → G1 m j = G m j) → (∀ j, G1 (m + 1) j = G (m + 1) j) → G1 7 12 = 223 → G1 m 2 = b01 (tk p = 22) → PX9_readMember_214 r w m G1 Q := by
    intro G1 m1 s1' l1 f1 k1 q1 v12 v2
    have inner : ∀ s3 s4, s3 = b01 (tk (popt tk 22 p).2 = 20) → s4 = b01 (tk (popt tk 22 p).2 = 21) → ∀ G81, G81 = uG G1 m 3 s3 → PX9_readMember_247 r w m m s4 G81 Q := by
      intro s3 s4 hs3 hs4 G81 e81
      unfold PX9_readMember_247
      refine ⟨hm, by rw [hs4]; exact o01, fun G88 e88 => ?_⟩
      have m88 : HS X G0 G88 tk cd c (popt tk 22 p).2 := by rw [e88, e81]; exact HS_st (HS_st m1 (sub _ _ (xm 3)) (by omega)) (sub _ _ (xm 4)) (by omega)
      have f88 : FR (xTyp m) G G88 := by rw [e88, e81]; exact FR_up (FR_up f1 (xm 3)) (xm 4)
      have k88 : ∀ j, j ≠ 2 → j ≠ 3 → j ≠ 4 → G88 m j = G m j := fun j y1 y2 y3 => by rw [e88, uG_j y3, e81, uG_j y2]; exact k1 j y1
      have q88 : ∀ j, G88 (m + 1) j = G (m + 1) j := fun j => by rw [e88, uG_c (by omega), e81, uG_c (by omega)]; exact q1 j
      have w12 : G88 7 12 = 223 := by rw [e88, uG_c (by omega), e81, uG_c (by omega)]; exact v12
      have w2 : G88 m 2 = b01 (tk p = 22) := by rw [e88, uG_j (by decide), e81, uG_j (by decide)]; exact v2
      have w3 : G88 m 3 = s3 := by rw [e88, uG_j (by decide), e81, uG_at]
      have w4 : G88 m 4 = s4 := by rw [e88, uG_at]
      have take : (tk (popt tk 22 p).2 = 20 ∨ tk (popt tk 22 p).2 = 21) → PX9_readMember_264 r w m G88 Q := fun z => by
        have sp : pfb tk (popt tk 22 p).2 = ptake (popt tk 22 p).2 := if_pos z
        rw [sp] at s1'
        unfold PX9_readMember_264
        refine hTake m88 hX (by omega) (fun x1 x2 m2 => ?_) (fun x1 => ?_)
        · rw [pb_e x1] at s1'
          have ep : (pfb tk (popt tk 22 p).2).2 = (popt tk 22 p).2 + 1 := by rw [sp, x1]
          refine ty _ (by rw [ep]; exact m2) (by rw [ep]; exact s1') (by omega) (FR_up f88 (xa _ _ ⟨rfl, Or.inl rfl⟩)) (fun j y1 y2 y3 => by rw [uG_c (by omega)]; exact k88 j y1 y2 y3) (fun j => by rw [uG_c (by omega)]; exact q88 j) (by rw [uG_j (by decide)]; exact w12) (by rw [uG_c (by omega)]; exact w2) (by rw [uG_c (by omega)]; exact w3.trans hs3) (by rw [uG_c (by omega)]; exact w4.trans hs4)
        · unfold PX9_readMember_283 PX9_readMember_284
          exact ⟨o0, hbad _ (HB_fl m88 hX (by decide) (by rw [s1', x1]; exact pb_n three_ne))⟩
      rw [w3, w4]
      refine ⟨hm, fun _ => ⟨fun z3 => fun _ => ⟨fun z4 => ?_, fun z4 => ?_⟩, fun z3 => ?_⟩⟩
      · have n3 : ¬ tk (popt tk 22 p).2 = 20 := fun q => by rw [hs3] at z3; unfold b01 at z3; rw [if_pos q] at z3; omega
        have n4 : ¬ tk (popt tk 22 p).2 = 21 := fun q => by rw [hs4] at z4; unfold b01 at z4; rw [if_pos q] at z4; omega
        have sp : pfb tk (popt tk 22 p).2 = (0, (popt tk 22 p).2) := if_neg (fun q => q.elim n3 n4)
        have ep : (pfb tk (popt tk 22 p).2).2 = (popt tk 22 p).2 := by rw [sp]
        rw [sp] at s1'
        exact ty G88 (by rw [ep]; exact m88) (by rw [ep]; exact s1') (by omega) f88 k88 q88 w12 w2 (w3.trans hs3) (w4.trans hs4)
      · refine take (Or.inr ?_)
        by_cases q : tk (popt tk 22 p).2 = 21
        · exact q
        · rw [hs4] at z4; unfold b01 at z4; rw [if_neg q] at z4; exact absurd rfl z4
      · refine take (Or.inl ?_)
        by_cases q : tk (popt tk 22 p).2 = 20
        · exact q
        · rw [hs3] at z3; unfold b01 at z3; rw [if_neg q] at z3; exact absurd rfl z3
    have go : ∀ s3, s3 = b01 (tk (popt tk 22 p).2 = 20) → PX9_readMember_229 r w m m s3 G1 Q := by
      intro s3 hs3
      unfold PX9_readMember_229
      refine ⟨hm, by rw [hs3]; exact o01, fun G81 e81 => ?_⟩
      have m81 : HS X G0 G81 tk cd c (popt tk 22 p).2 := by rw [e81]; exact HS_st m1 (sub _ _ (xm 3)) (by omega)
      exact hNow m81 (fun _ => ⟨fun z => inner s3 1 hs3 (by unfold b01; rw [if_pos z]) G81 e81, fun z => inner s3 0 hs3 (by unfold b01; rw [if_neg z]) G81 e81⟩)
    unfold PX9_readMember_214
    exact hNow m1 (fun _ => ⟨fun z => go 1 (by unfold b01; rw [if_pos z]), fun z => go 0 (by unfold b01; rw [if_neg z])⟩)
  unfold PX9_readMember_195
  refine ⟨hm, by rw [hs1]; exact o01, fun G67 e67 => ?_⟩
  have m67 : HS X G0 G67 tk cd c p := by rw [e67]; exact HS_st hs (sub _ _ (xm 2)) (by omega)
  have f67 : FR (xTyp m) G G67 := by rw [e67]; exact FR_up FR_id (xm 2)
  have k67 : ∀ j, j ≠ 2 → G67 m j = G m j := fun j y => by rw [e67, uG_j y]
  have q67 : ∀ j, G67 (m + 1) j = G (m + 1) j := fun j => by rw [e67, uG_c (by omega)]
  have w2 : G67 m 2 = s1 := by rw [e67, uG_at]
  have w12 : G67 7 12 = 223 := by rw [e67, uG_c (by omega)]; exact h12
  rw [w2]
  refine ⟨hm, fun _ => ⟨fun z => ?_, fun z => ?_⟩⟩
  · have n2 : ¬ tk p = 22 := fun q => by rw [hs1] at z; unfold b01 at z; rw [if_pos q] at z; omega
    have sp : popt tk 22 p = (0, p) := if_neg n2
    have ep : (popt tk 22 p).2 = p := by rw [sp]
    rw [sp] at s
    exact fb G67 (by rw [ep]; exact m67) (by rw [ep]; exact s) (by omega) f67 k67 q67 w12 (w2.trans hs1)
  · have y2 : tk p = 22 := by
      by_cases q : tk p = 22
      · exact q
      · rw [hs1] at z; unfold b01 at z; rw [if_neg q] at z; exact absurd rfl z
    have sp : popt tk 22 p = ptake p := if_pos y2
    refine hTake m67 hX (by omega) (fun x1 x2 m2 => ?_) (fun x1 => hbad _ (HB_fl m67 hX (by decide) (by rw [s, sp, x1]; exact pb_n three_ne)))
    have ep : (popt tk 22 p).2 = p + 1 := by rw [sp, x1]
    rw [sp, pb_e x1] at s
    exact fb _ (by rw [ep]; exact m2) (by rw [ep]; exact s) (by omega) (FR_up f67 (xa _ _ ⟨rfl, Or.inl rfl⟩)) (fun j y => by rw [uG_c (by omega)]; exact k67 j y) (fun j => by rw [uG_c (by omega)]; exact q67 j) (by rw [uG_j (by decide)]; exact w12) (by rw [uG_c (by omega)]; exact w2.trans hs1)
end CH11

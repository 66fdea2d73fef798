section RP20
variable {B G G' : gS} {s N d i i' a m : Int} {tk cd : Int → Int} {q r : RR}
def XM (s i m c j : Int) : Prop := XR s i c j ∨ (16116 ≤ c ∧ c ≤ 16142 ∧ ¬ (16130 ≤ c ∧ c ≤ 16133) ∧ j = m) ∨ (16130 ≤ c ∧ c ≤ 16133 ∧ 4 * m ≤ j ∧ j < 4 * m + 4)
theorem XM_r {i1 : Int} (hi : i ≤ i1) (f : FR (XR s i1) G G') : FR (XM s i m) G G' := FR_mono (fun _ _ h => Or.inl (XR_mono hi h)) f
theorem XM_p {i1 : Int} (hi : i ≤ i1) (f : FR (XP s i1 m) G G') : FR (XM s i m) G G' := FR_mono (fun c j h => by
  unfold XP at h
  unfold XM
  rcases h with h | h | h
  · exact Or.inl (XR_mono hi h)
  · exact Or.inr (Or.inl (by omega))
  · exact Or.inr (Or.inr h)) f
theorem XM_up {c v : Int} (f : FR (XM s i m) G G') (hc : 16116 ≤ c ∧ c ≤ 16142) (hc2 : ¬ (16130 ≤ c ∧ c ≤ 16133)) : FR (XM s i m) G (uG G' c m v) := FR_up f (Or.inr (Or.inl ⟨hc.1, hc.2, hc2, rfl⟩))
theorem XM_mono {i1 : Int} (hi : i ≤ i1) (f : FR (XM s i1 m) G G') : FR (XM s i m) G G' := FR_mono (fun c j h => h.elim (fun u => Or.inl (XR_mono hi u)) Or.inr) f
theorem pB_le (tk : Int → Int) (D : Nat) : ∀ b, b ≤ (pB tk D b).2 ∧ b ≤ (pS tk D b).2 := by
  induction D with
  | zero =>
    intro b
    refine ⟨?_, ?_⟩
    · show b ≤ (if tk b = 223 then (3, b) else pmiss tk b).2
      split <;> exact Int.le_refl _
    · show b ≤ (if bS tk b then (3, b) else pmiss tk b).2
      split <;> exact Int.le_refl _
  | succ D ih =>
    intro b
    have hs : ∀ (f : Nat) (a : Int), a ≤ (pstmts tk (pS tk D) f a).2 := fun f => by
      induction f with
      | zero => intro a; exact Int.le_refl _
      | succ f ihf =>
        intro a
        show a ≤ (if tk a = 225 then ptake a else pb (pS tk D a) (pstmts tk (pS tk D) f)).2
        split
        · exact (ptake_le).1
        · exact Int.le_trans (ih a).2 (pb_le2 ihf)
    have hB : ∀ b, b ≤ (pblock tk (pS tk D) b).2 := fun b => by
      unfold pblock
      split
      · exact Int.le_trans (ptake_le (a := b)).1 (pb_le2 (hs 702))
      · exact pmiss_l b
    have hE := (pEU_le tk D).1
    have hn := fun w => pneed_l (tk := tk) w
    refine ⟨hB b, ?_⟩
    show b ≤ (pstat tk (pE tk D) (pS tk D) (pB tk D) (pblock tk (pS tk D)) b).2
    unfold pstat
    split
    · split
      · exact hB b
      · split
        · exact Int.le_trans (ptake_le (a := b)).1 (pb_le2 (fun c => Int.le_trans (pargs_le hE c) (pb_le2 (hn 159))))
        · split
          · refine Int.le_trans (hE b) (pb_le2 (fun c => ?_))
            split
            · exact Int.le_trans (ptake_le (a := c)).1 (pb_le2 (fun x => Int.le_trans (hE x) (pb_le2 (hn 159))))
            · exact hn 159 c
          · refine Int.le_trans (ptake_le (a := b)).1 (pb_le2 (fun c => ?_))
            unfold pworded
            split
            · refine Int.le_trans (hn 140 c) (pb_le2 (fun x => Int.le_trans (hE x) (pb_le2 (fun y => Int.le_trans (hn 141 y) (pb_le2 (fun z => Int.le_trans (ih z).2 (pb_le2 (fun w => ?_))))))))
              split
              · exact Int.le_trans (ptake_le (a := w)).1 (pb_le2 (fun u => (ih u).2))
              · exact Int.le_refl _
            · split
              · exact Int.le_trans (ih c).1 (pb_le2 (fun x => Int.le_trans (hn 34 x) (pb_le2 (fun y => Int.le_trans (hn 140 y) (pb_le2 (fun z => Int.le_trans (hn 2 z) (pb_le2 (fun w => Int.le_trans (hn 3 w) (pb_le2 (fun u => Int.le_trans (hn 141 u) (pb_le2 (fun v => (ih v).1))))))))))))
              · split
                · exact Int.le_trans (ptype_l c) (pb_le2 (fun x => Int.le_trans (hn 3 x) (pb_le2 (fun y => Int.le_trans (hn 161 y) (pb_le2 (fun z => Int.le_trans (hE z) (pb_le2 (hn 159))))))))
                · split
                  · exact (ptake_le).1
                  · exact Int.le_trans (hE c) (pb_le2 (hn 159))
    · exact pmiss_l b
theorem rbody_ok {Q : Int → gS → Prop} (hK : TKp B s N tk cd) (hm : 0 ≤ m ∧ m < 7344) (h : RM B s N 0 G q i) (h0 : 0 ≤ i) (hi : q.1 = 0 → i ≤ q.2 + 2) (hQ : ∀ G' i', RM B s N 0 G' (pb q (pB tk 12)) i' → i ≤ i' → FR (XM s i m) G G' → (q.1 ≠ 0 → i' = i) → q.2 ≤ (pb q (pB tk 12)).2 → i' ≤ i + ((pb q (pB tk 12)).2 - q.2) + 2 → (∀ c j, 16116 ≤ c → c ≤ 16142 → ¬ (j = m ∧ (c = 16135 ∨ c = 16136 ∨ c = 16137)) → G' c j = G c j) → ((pb q (pB tk 12)).1 = 0 → i' ≤ i + ((pb q (pB tk 12)).2 - q.2) ∧ q.2 < (pb q (pB tk 12)).2 ∧ G' 16136 m = q.2 ∧ G' 16137 m = (pb q (pB tk 12)).2 ∧ rBk B s tk 12 i i' (G' 16135 m) q.2 G') → Q 0 G') : PX13_body m G Q := by
  have hS := RSB_ok hK 12 (by omega) 0 (by omega) 200 (by omega)
  obtain ⟨-, j3, j4⟩ := rSB_IF B s tk 12
  have hr0 : q.2 ≤ (pb q (pB tk 12)).2 := pb_le2 (fun b => (pB_le tk 12 b).1)
  unfold PX13_body PX13_body_0
  rw [RM_pp h]
  refine fun _ => ⟨hm.1, hm.2, fun G1 e1 => ?_⟩
  have hR1 : RM B s N 0 G1 q i := by rw [e1]; exact RM_put2 h (by omega) (by omega)
  have f1 : FR (XM s i m) G G1 := by rw [e1]; exact XM_up FR_id (by omega) (by omega)
  -- behind the S
  have fin : ∀ (r0 : RR) G2 i2 v, RM B s N 0 G2 r0 i2 → pb q (pB tk 12) = r0 → i ≤ i2 → FR (XR s i) G1 G2 → (q.1 ≠ 0 → i2 = i) → i2 ≤ i + (r0.2 - q.2) + 2 → (r0.1 = 0 → i2 ≤ i + (r0.2 - q.2) ∧ q.2 < r0.2 ∧ rBk B s tk 12 i i2 v q.2 G2) → PX13_body_51 m 16135 m v G2 Q := fun r0 G2 i2 v x1 x2 x3 x4 x5 x6 x7 => by
    rw [x2] at hQ hr0
    unfold PX13_body_51
    refine ⟨7344, aC16135, hm.1, hm.2, fun G3 e3 => ?_⟩
    have hR3 : RM B s N 0 G3 r0 i2 := by rw [e3]; exact RM_put2 x1 (by omega) (by omega)
    rw [RM_pp hR3]
    refine fun _ => ⟨hm.1, hm.2, fun G4 e4 => hQ G4 i2 (by rw [e4]; exact RM_put2 hR3 (by omega) (by omega)) x3 ?_ x5 hr0 x6 (fun c j y1 y2 y3 => ?_) (fun w => ?_)⟩
    · rw [e4, e3]
      exact XM_up (XM_up (FR_tr f1 (XM_r (Int.le_refl _) x4)) (by omega) (by omega)) (by omega) (by omega)
    · rw [e4, uG_ne (by omega), e3, uG_ne (by omega), x4 c j (by unfold XR; omega), e1, uG_ne (by omega)]
    · obtain ⟨w1, w2, w3⟩ := x7 w
      refine ⟨w1, w2, by rw [e4, uG_c (by omega), e3, uG_c (by omega), x4 _ _ (by unfold XR; omega), e1, uG_at], by rw [e4, uG_at], ?_⟩
      rw [show G4 16135 m = v by rw [e4, uG_c (by omega), e3, uG_at]]
      exact j4 _ _ _ _ _ _ w3 (fun c j y1 y2 y3 y4 _ => by rw [e4, uG_c (by omega), e3, uG_c (by omega)])
  have bad : ∀ G2 (r0 : RR), RM B s N 0 G2 r0 i → pb q (pB tk 12) = r0 → FR (XR s i) G1 G2 → r0.1 ≠ 0 → PX13_body_30 m G2 Q := fun G2 r0 x1 x2 x3 x4 => by
    have fl : G2 16081 20 ≠ 0 := fun u => x4 ((RM_fl x1).mp u)
    unfold PX13_body_30
    exact fun _ => ⟨fun u => absurd u fl, fun _ => fin r0 G2 i (-2) x1 x2 (Int.le_refl _) x3 (fun _ => rfl) (by rw [x2] at hr0; omega) (fun w => absurd w x4)⟩
  refine fun _ => ⟨fun y => ?_, fun y => ?_⟩
  · have e := (RM_fl hR1).mp y
    refine rSg (k := 223) hK hR1 e (Or.inl ⟨by unfold sg; omega, rfl⟩) (fun z => fun _ => ⟨fun u => absurd u (by decide), fun _ => ?_⟩) (fun z => fun _ => ⟨fun _ => rWrong hK hR1 (fun G2 hR2 f2 => ?_), fun u => absurd rfl u⟩)
    · have sp : pb q (pB tk 12) = pb q (pS tk 12) := by rw [pb_0 e, pb_0 e, pB_S z]
      unfold PX13_body_30
      refine fun _ => ⟨fun _ => hS G1 q i _ hR1 h0 hi (fun v G2 i2 hR2 hC => fun _ => ?_), fun u => absurd y u⟩
      obtain ⟨c1, c2, c3, c4, c5, c6⟩ := hC
      exact fin _ G2 i2 v hR2 sp c1 c2 c3 c5 (fun w => ⟨(c6 w).1, (c6 w).2.1, (c6 w).2.2.1.2.2.1 z⟩)
    · exact bad G2 _ hR2 (by rw [pb_0 e, pb_0 e, pB_no z]) f2 (by rw [pb_0 e]; exact pmiss_ne _)
  · have e : q.1 ≠ 0 := fun e => y ((RM_fl hR1).mpr e)
    exact bad G1 q hR1 (pb_n e) FR_id e
end RP20

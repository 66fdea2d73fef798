section RP11
variable {B G G' : gS} {s N d i i' a : Int} {tk cd : Int → Int} {q r : RR} {R : JT} {T C P U : TT} {eE cU uU eP : Int → RR}
theorem rsum_loop (hK : TKp B s N tk cd) (hP : SRe R B s N d 5 P (pprod tk uU)) (hI : RTI s P) (hT : RTF s P) (hel : ∀ b, b ≤ (pprod tk uU b).2) : ∀ (f F : Nat) (G : gS) (a i l kl : Int) (Q : Int → gS → Prop), 700 - a < f → f + 2 ≤ F → RM B s N d G (0, a) i → 0 ≤ i → i ≤ a + 2 → l = s * 1700 + kl → 0 ≤ kl → kl < i → G 16154 l = -2 →
    (∀ v G' i', RM B s N d G' (psumL tk uU f a) i' → i ≤ i' → FR (XR s i) G G' → a ≤ (psumL tk uU f a).2 → i' ≤ i + ((psumL tk uU f a).2 - a) + 1 → ((psumL tk uU f a).1 = 0 → i' ≤ i + ((psumL tk uU f a).2 - a) ∧ rChain s tk P (pprod tk uU) opS kS f l i i' v a G' ∧ G' 16154 v = -2) → Q v G') → PX13_sum_5 R (PX13_sum_J R F) l G Q
  | 0, F, G, a, i, l, kl, Q, hf, _, h, _, _, _, _, _, _, _ => by
    have h1 := h.2.2.1
    have h2 := hK.2.2.2.2.1
    exact absurd h1 (by show ¬ a < N; omega)
  | f + 1, F, G, a, i, l, kl, Q, hf, hF, h, h0, hi, hl, hl0, hl1, hln, hQ => by
    obtain ⟨F', rfl⟩ : ∃ F', F = F' + 1 := ⟨F - 1, by omega⟩
    have hs0 := hK.1
    have hs1 := hK.2.1
    have hN : N ≤ 701 := hK.2.2.2.2.1
    have ha0 : 0 ≤ a := h.2.1
    have haN : a < N := h.2.2.1
    have spec : psumL tk uU (f + 1) a = (if tk a = 143 ∨ tk a = 145 then pb (ptake a) fun b => pb (pprod tk uU b) (psumL tk uU f) else (0, a)) := rfl
    have sT : ∀ lo hi v b G, rChain s tk P (pprod tk uU) opS kS (f + 1) l lo hi v b G = ((opS (tk b) → lo < hi ∧ G 16151 (s * 1700 + lo) = l ∧ G 16144 (s * 1700 + lo) = kS (tk b) ∧ ∃ x, x ≤ hi ∧ P (lo + 1) x (G 16152 (s * 1700 + lo)) (b + 1) G ∧ rChain s tk P (pprod tk uU) opS kS f (s * 1700 + lo) x hi v (pprod tk uU (b + 1)).2 G) ∧ (¬ opS (tk b) → v = l ∧ lo ≤ hi)) := fun _ _ _ _ _ => rfl
    generalize hr0 : psumL tk uU (f + 1) a = r0 at *
    have fl : G 16081 20 = 0 := (RM_fl h).mpr rfl
    have node : ∀ k, (tk a = 143 ∨ tk a = 145) → k = kS (tk a) → PX13_sum_47 R (PX13_sum_J R (F' + 1)) l 16081 k G Q := fun k z hk => by
      rw [if_pos z] at spec
      unfold PX13_sum_47
      refine ⟨by omega, by omega, fun _ => ⟨oC13, rop_step hK hP hI hT hel h h0 hi (by omega) (fun G1 i1 hR1 x1 x2 x3 x4 x5 => ?_)⟩⟩
      show PX13_sum_5 R (PX13_sum_J R F') (s * 1700 + i) G1 Q
      have sp : r0 = pb (pb (ptake a) (pprod tk uU)) (psumL tk uU f) := by rw [spec, pb_pb]
      by_cases e : (pb (ptake a) (pprod tk uU)).1 = 0
      · obtain ⟨u0, ue, u1, u2, u3, u4, u5, u6⟩ := x5 e
        rw [pb_0 e] at sp
        refine rsum_loop hK hP hI hT hel f F' G1 (pb (ptake a) (pprod tk uU)).2 i1 (s * 1700 + i) i Q (by omega) (by omega) (RM_eq hR1 e rfl) (by omega) (by omega) rfl h0 (by omega) u3 (fun v G2 i2 hR2 d1 d2 d3 d4 d5 => ?_)
        rw [← sp] at hR2 d3 d4 d5
        refine hQ v G2 i2 hR2 (by omega) (FR_tr x2 (FR_XR (by omega) d2)) (by omega) (by omega) (fun w => ?_)
        obtain ⟨w1, w2, w3⟩ := d5 w
        refine ⟨by omega, ?_, w3⟩
        rw [sT]
        have k2 : ∀ c j, 16144 ≤ c → c ≤ 16162 → s * 1700 ≤ j → j < s * 1700 + i1 → G2 c j = G1 c j := fun c j y1 y2 y3 y4 => d2 c j (by unfold XR; omega)
        refine ⟨fun _ => ⟨by omega, by rw [k2 _ _ (by omega) (by omega) (by omega) (by omega)]; exact u4, by rw [k2 _ _ (by omega) (by omega) (by omega) (by omega), ← hk]; exact u5, i1, d1, ?_, ?_⟩, fun y => absurd z y⟩
        · rw [k2 _ _ (by omega) (by omega) (by omega) (by omega)]
          exact hT _ _ _ _ _ _ u6 (fun c j y1 y2 y3 y4 _ => k2 c j y1 (by omega) (by omega) y4)
        · rw [← ue]; exact w2
      · rw [pb_n e] at sp
        have fl1 : G1 16081 20 ≠ 0 := fun y => e ((RM_fl hR1).mp y)
        unfold PX13_sum_5 PX13_sum_83
        exact fun _ => ⟨fun y => absurd y fl1, fun _ => hQ _ G1 i1 (by rw [sp]; exact hR1) (by omega) x2 (by rw [sp]; exact x3) (by rw [sp]; exact x4) (fun w => absurd (by rw [← sp]; exact w) e)⟩
    have op : (tk a = 143 ∨ tk a = 145) → PX13_sum_30 R (PX13_sum_J R (F' + 1)) l G Q := fun z => by
      unfold PX13_sum_30
      refine rSg (k := 143) hK h rfl (Or.inl ⟨by unfold sg; omega, rfl⟩) (fun y => fun _ => ⟨fun u => absurd u (by decide), fun _ => node 15 z ?_⟩) (fun y => fun _ => ⟨fun _ => node 16 z ?_, fun u => absurd rfl u⟩)
      · unfold kS; rw [if_pos (show tk a = 143 from y)]
      · unfold kS; rw [if_neg (show ¬ tk a = 143 from y)]
    unfold PX13_sum_5
    refine fun _ => ⟨fun _ => rSg (k := 143) hK h rfl (Or.inl ⟨by unfold sg; omega, rfl⟩) (fun z => fun _ => ⟨fun y => absurd y (by decide), fun _ => op (Or.inl z)⟩) (fun z => fun _ => ⟨fun _ => rSg (k := 145) hK h rfl (Or.inl ⟨by unfold sg; omega, rfl⟩) (fun z2 => fun _ => ⟨fun y => absurd y (by decide), fun _ => op (Or.inr z2)⟩) (fun z2 => fun _ => ⟨fun _ => ?_, fun y => absurd rfl y⟩), fun y => absurd rfl y⟩), fun y => absurd fl y⟩
    change tk a ≠ 143 at z
    change tk a ≠ 145 at z2
    have zz : ¬ (tk a = 143 ∨ tk a = 145) := by omega
    rw [if_neg zz] at spec
    unfold PX13_sum_83
    refine hQ l G i (by rw [spec]; exact h) (Int.le_refl _) FR_id (by rw [spec]; exact Int.le_refl _) (by rw [spec]; show i ≤ i + (a - a) + 1; omega) (fun _ => ⟨by rw [spec]; show i ≤ i + (a - a); omega, ?_, hln⟩)
    rw [sT]
    exact ⟨fun u => absurd u zz, fun _ => ⟨rfl, Int.le_refl _⟩⟩
theorem pprod_le (h : ∀ b, b ≤ (uU b).2) : ∀ b, b ≤ (pprod tk uU b).2 := fun b => Int.le_trans (h b) (pb_le2 (fun c => pprodL_le h 702 c))
theorem psumL_le (h : ∀ b, b ≤ (uU b).2) : ∀ (f : Nat) (a : Int), a ≤ (psumL tk uU f a).2
  | 0, a => Int.le_refl _
  | f + 1, a => by
    show a ≤ (if tk a = 143 ∨ tk a = 145 then pb (ptake a) fun b => pb (pprod tk uU b) (psumL tk uU f) else (0, a)).2
    split
    · exact Int.le_trans (ptake_le (a := a)).1 (pb_le2 (fun b => Int.le_trans (pprod_le h b) (pb_le2 (fun c => psumL_le h f c))))
    · exact Int.le_refl _
theorem psum_le (h : ∀ b, b ≤ (uU b).2) : ∀ b, b ≤ (psum tk uU b).2 := fun b => Int.le_trans (pprod_le h b) (pb_le2 (fun c => psumL_le h 702 c))
theorem pexpr_le (h : ∀ b, b ≤ (uU b).2) : ∀ b, b ≤ (pexpr tk uU b).2 := fun b => by
  unfold pexpr
  split
  · refine Int.le_trans (psum_le h b) (pb_le2 (fun c => ?_))
    split
    · exact Int.le_trans (ptake_le (a := c)).1 (pb_le2 (psum_le h))
    · exact Int.le_refl _
  · exact pmiss_l b
theorem rsum_ok {Q : Int → gS → Prop} (hK : TKp B s N tk cd) (hP : SRe R B s N d 5 (rProd s tk U uU) (pprod tk uU)) (hIU : RTI s U) (hTU : RTF s U) (hul : ∀ b, b ≤ (uU b).2) (h : RM B s N d G q i) (h0 : 0 ≤ i) (hi : q.1 = 0 → i ≤ q.2 + 2) (hQ : ∀ v G' i', RM B s N d G' (pb q (psum tk uU)) i' → RFc s G G' q (pb q (psum tk uU)) i i' (rSum s tk U uU i i' v q.2 G' ∧ G' 16154 v = -2) → Q v G') : PX13_sum R G Q := by
  obtain ⟨hI, hT⟩ := rProd_IF (tk := tk) (uU := uU) hIU hTU
  refine ⟨4000000000, Nat.le_refl _, ?_⟩
  generalize hFF : (4000000000 : Nat) = F
  unfold PX13_sum_0
  refine hP G q i _ h h0 hi (fun v G1 i1 hR1 hC => fun _ => ?_)
  obtain ⟨c1, c2, c3, c4, c5, c6⟩ := hC
  have sp : pb q (psum tk uU) = pb (pb q (pprod tk uU)) (psumL tk uU 702) := by rw [pb_pb]; rfl
  generalize hr0 : pb q (psum tk uU) = r0 at *
  by_cases e : (pb q (pprod tk uU)).1 = 0
  · obtain ⟨u1, u2, u3, u4⟩ := c6 e
    rw [pb_0 e] at sp
    have eq := (pb_z e).1
    have hi' := hi eq
    have hq0 := h.2.1
    have hs0 := hK.1
    obtain ⟨kl, k1, k2, k3⟩ := hI _ _ _ _ _ u3
    refine rsum_loop hK hP hI hT (pprod_le hul) 702 F G1 _ i1 v kl Q (by omega) (by omega) (RM_eq hR1 e rfl) (by omega) (by omega) k1 (by omega) k3 u4 (fun v2 G2 i2 hR2 d1 d2 d3 d4 d5 => ?_)
    rw [← sp] at hR2 d3 d4 d5
    refine hQ v2 G2 i2 hR2 ⟨by omega, FR_tr c2 (FR_XR c1 d2), fun x => absurd eq x, by omega, by omega, fun x => ?_⟩
    obtain ⟨w1, w2, w3⟩ := d5 x
    have sU : (pb q (pprod tk uU)).2 = (pprod tk uU q.2).2 := by rw [pb_0 eq]
    refine ⟨by omega, by omega, ⟨i1, v, d1, hT _ _ _ _ _ _ u3 (fun c j y1 y2 y3 y4 _ => d2 c j (by unfold XR; omega)), ?_⟩, w3⟩
    rw [← sU]; exact w2
  · rw [pb_n e] at sp
    have fl1 : G1 16081 20 ≠ 0 := fun y => e ((RM_fl hR1).mp y)
    unfold PX13_sum_5 PX13_sum_83
    exact fun _ => ⟨fun y => absurd y fl1, fun _ => hQ _ G1 i1 (by rw [sp]; exact hR1) (by rw [sp]; exact ⟨c1, c2, c3, c4, c5, fun x => absurd x e⟩)⟩
end RP11

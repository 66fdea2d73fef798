section RP10
variable {B G G' : gS} {s N d i i' a : Int} {tk cd : Int → Int} {q r : RR} {R : JT} {T C P U : TT} {eE cU uU eP : Int → RR}
-- one operator and what stands behind it
theorem rop_step {idx : Nat} {Kt : Int → gS → Prop} {k l : Int} (hK : TKp B s N tk cd) (hP : SRe R B s N d idx P eP) (hI : RTI s P) (hT : RTF s P) (hel : ∀ b, b ≤ (eP b).2) (h : RM B s N d G (0, a) i) (h0 : 0 ≤ i) (hi : i ≤ a + 2) (ht : tk a ≠ 0 ∧ tk a ≠ 1)
    (hQ : ∀ G' i', RM B s N d G' (pb (ptake a) eP) i' → i + 1 ≤ i' → FR (XR s i) G G' → a ≤ (pb (ptake a) eP).2 → i' ≤ i + ((pb (ptake a) eP).2 - a) + 1 → ((pb (ptake a) eP).1 = 0 → (ptake a).1 = 0 ∧ (pb (ptake a) eP) = eP (a + 1) ∧ i' ≤ i + ((pb (ptake a) eP).2 - a) ∧ a < (pb (ptake a) eP).2 ∧ G' 16154 (s * 1700 + i) = -2 ∧ G' 16151 (s * 1700 + i) = l ∧ G' 16144 (s * 1700 + i) = k ∧ P (i + 1) i' (G' 16152 (s * 1700 + i)) (a + 1) G') → Kt (s * 1700 + i) G') : PX13_node k (G 16145 l) G (fun r14 G13 => inI r14 → PX13_step G13 (fun _ G16 => ((0 : Int) ≤ r14 ∧ ((r14 : Int) < 30600 ∧ (∀ G20 : gS, G20 = uG G16 16151 r14 (l) → R idx [] G20 (fun r22 G21 => inI r22 → ((0 : Int) ≤ r14 ∧ ((r14 : Int) < 30600 ∧ (∀ G26 : gS, G26 = uG G21 16152 r14 (r22) → Kt r14 G26))))))))) := by
  have hs0 := hK.1
  have hs1 := hK.2.1
  have hN : N ≤ 701 := hK.2.2.2.2.1
  have ha0 : 0 ≤ a := h.2.1
  have haN : a < N := h.2.2.1
  have tl := ptake_le (a := a)
  refine rNode hK h h0 (by omega) (fun G1 n1 hR1 f1 => fun _ => rStep hK hR1 (fun _ => ht) (fun G2 hR2 f2 => ⟨by omega, by omega, fun G3 e3 => ?_⟩))
  change RM B s N d G2 (ptake a) (i + 1) at hR2
  have hR3 : RM B s N d G3 (ptake a) (i + 1) := by rw [e3]; exact RM_put hR2 (by omega)
  refine hP G3 _ (i + 1) _ hR3 (by omega) (fun e => by have := tl.2.2 e; omega) (fun v G4 i4 hR4 hC => fun _ => ⟨by omega, by omega, fun G5 e5 => ?_⟩)
  obtain ⟨c1, c2, c3, c4, c5, c6⟩ := hC
  obtain ⟨m0, m1, m2, m3, m4, m5, m6, m7, m8, m9, m10, m11, m12, m13⟩ := n1
  have v3 : ∀ c, 16144 ≤ c → c ≠ 16151 → G3 c (s * 1700 + i) = G1 c (s * 1700 + i) := fun c x y => by rw [e3, uG_c y, XR_n f2 (by omega) x]
  have v5 : ∀ c, 16144 ≤ c → c ≠ 16152 → G5 c (s * 1700 + i) = G3 c (s * 1700 + i) := fun c x y => by rw [e5, uG_c y, XR_n c2 (by omega) x]
  refine hQ G5 i4 (by rw [e5]; exact RM_put hR4 (by omega)) c1 ?_ (by omega) ?_ (fun e => ?_)
  · refine FR_tr f1 (FR_tr (FR_XR (by omega) f2) (FR_tr (by rw [e3]; exact FR_up FR_id (by unfold XR; omega)) (FR_tr (FR_XR (by omega) c2) (by rw [e5]; exact FR_up FR_id (by unfold XR; omega)))))
  · by_cases e : (ptake a).1 = 0
    · have := tl.2.2 e
      omega
    · have := c3 e
      omega
  · obtain ⟨u1, u2, u3, u4⟩ := c6 e
    have e1 := (pb_z e).1
    have e2 := tl.2.2 e1
    rw [e2] at u1 u2 u3
    refine ⟨e1, by rw [pb_0 e1, e2], by omega, by omega, by rw [v5 _ (by omega) (by omega), v3 _ (by omega) (by omega)]; exact m11, by rw [v5 _ (by omega) (by omega), e3, uG_at], by rw [v5 _ (by omega) (by omega), v3 _ (by omega) (by omega)]; exact m1, ?_⟩
    rw [show G5 16152 (s * 1700 + i) = v by rw [e5, uG_at]]
    exact hT _ _ _ _ _ _ u3 (fun c j y1 y2 y3 y4 _ => by rw [e5, uG_ne (by omega)])
theorem rprod_loop (hK : TKp B s N tk cd) (hP : SRe R B s N d 7 U uU) (hI : RTI s U) (hT : RTF s U) (hel : ∀ b, b ≤ (uU b).2) : ∀ (f F : Nat) (G : gS) (a i l kl : Int) (Q : Int → gS → Prop), 700 - a < f → f + 2 ≤ F → RM B s N d G (0, a) i → 0 ≤ i → i ≤ a + 2 → l = s * 1700 + kl → 0 ≤ kl → kl < i → G 16154 l = -2 →
    (∀ v G' i', RM B s N d G' (pprodL tk uU f a) i' → i ≤ i' → FR (XR s i) G G' → a ≤ (pprodL tk uU f a).2 → i' ≤ i + ((pprodL tk uU f a).2 - a) + 1 → ((pprodL tk uU f a).1 = 0 → i' ≤ i + ((pprodL tk uU f a).2 - a) ∧ rChain s tk U uU opP kP f l i i' v a G' ∧ G' 16154 v = -2) → Q v G') → PX13_product_5 R (PX13_product_J R F) l G Q
  | 0, F, G, a, i, l, kl, Q, hf, _, h, _, _, _, _, _, _, _ => by
    have h1 := h.2.2.1
    have h2 := hK.2.2.2.2.1
    exact absurd h1 (by show ¬ a < N; omega)
  | f + 1, F, G, a, i, l, kl, Q, hf, hF, h, h0, hi, hl, hl0, hl1, hln, hQ => by
    obtain ⟨F', rfl⟩ : ∃ F', F = F' + 1 := ⟨F - 1, by omega⟩
    have hs0 := hK.1
    have hs1 := hK.2.1
    have hN : N ≤ 701 := hK.2.2.2.2.1
    have ha0 : 0 ≤ a := h.2.1
    have haN : a < N := h.2.2.1
    have spec : pprodL tk uU (f + 1) a = (if tk a = 142 then pb (ptake a) fun b => pb (uU b) (pprodL tk uU f) else (0, a)) := rfl
    have sT : ∀ lo hi v b G, rChain s tk U uU opP kP (f + 1) l lo hi v b G = ((opP (tk b) → lo < hi ∧ G 16151 (s * 1700 + lo) = l ∧ G 16144 (s * 1700 + lo) = kP (tk b) ∧ ∃ x, x ≤ hi ∧ U (lo + 1) x (G 16152 (s * 1700 + lo)) (b + 1) G ∧ rChain s tk U uU opP kP f (s * 1700 + lo) x hi v (uU (b + 1)).2 G) ∧ (¬ opP (tk b) → v = l ∧ lo ≤ hi)) := fun _ _ _ _ _ => rfl
    generalize hr0 : pprodL tk uU (f + 1) a = r0 at *
    have fl : G 16081 20 = 0 := (RM_fl h).mpr rfl
    unfold PX13_product_5
    refine fun _ => ⟨fun _ => rSg (k := 142) hK h rfl (Or.inl ⟨by unfold sg; omega, rfl⟩) (fun z => fun _ => ⟨fun y => absurd y (by decide), fun _ => ⟨by omega, by omega, fun _ => ?_⟩⟩) (fun z => fun _ => ⟨fun _ => ?_, fun y => absurd rfl y⟩), fun y => absurd fl y⟩
    · change tk a = 142 at z
      rw [if_pos z] at spec
      refine rop_step hK hP hI hT hel h h0 hi (by omega) (fun G1 i1 hR1 x1 x2 x3 x4 x5 => ?_)
      show PX13_product_5 R (PX13_product_J R F') (s * 1700 + i) G1 Q
      have sp : r0 = pb (pb (ptake a) uU) (pprodL tk uU f) := by rw [spec, pb_pb]
      by_cases e : (pb (ptake a) uU).1 = 0
      · obtain ⟨u0, ue, u1, u2, u3, u4, u5, u6⟩ := x5 e
        rw [pb_0 e] at sp
        refine rprod_loop hK hP hI hT hel f F' G1 (pb (ptake a) uU).2 i1 (s * 1700 + i) i Q (by omega) (by omega) (RM_eq hR1 e rfl) (by omega) (by omega) rfl h0 (by omega) u3 (fun v G2 i2 hR2 d1 d2 d3 d4 d5 => ?_)
        rw [← sp] at hR2 d3 d4 d5
        refine hQ v G2 i2 hR2 (by omega) (FR_tr x2 (FR_XR (by omega) d2)) (by omega) (by omega) (fun w => ?_)
        obtain ⟨w1, w2, w3⟩ := d5 w
        refine ⟨by omega, ?_, w3⟩
        rw [sT]
        have k2 : ∀ c j, 16144 ≤ c → c ≤ 16162 → s * 1700 ≤ j → j < s * 1700 + i1 → G2 c j = G1 c j := fun c j y1 y2 y3 y4 => d2 c j (by unfold XR; omega)
        refine ⟨fun _ => ⟨by omega, by rw [k2 _ _ (by omega) (by omega) (by omega) (by omega)]; exact u4, by rw [k2 _ _ (by omega) (by omega) (by omega) (by omega)]; exact u5, i1, d1, ?_, ?_⟩, fun y => absurd z y⟩
        · rw [k2 _ _ (by omega) (by omega) (by omega) (by omega)]
          exact hT _ _ _ _ _ _ u6 (fun c j y1 y2 y3 y4 _ => k2 c j y1 (by omega) (by omega) y4)
        · rw [← ue]; exact w2
      · rw [pb_n e] at sp
        have fl1 : G1 16081 20 ≠ 0 := fun y => e ((RM_fl hR1).mp y)
        unfold PX13_product_5 PX13_product_60
        exact fun _ => ⟨fun y => absurd y fl1, fun _ => hQ _ G1 i1 (by rw [sp]; exact hR1) (by omega) x2 (by rw [sp]; exact x3) (by rw [sp]; exact x4) (fun w => absurd (by rw [← sp]; exact w) e)⟩
    · change tk a ≠ 142 at z
      rw [if_neg z] at spec
      unfold PX13_product_60
      refine hQ l G i (by rw [spec]; exact h) (Int.le_refl _) FR_id (by rw [spec]; exact Int.le_refl _) (by rw [spec]; show i ≤ i + (a - a) + 1; omega) (fun _ => ⟨by rw [spec]; show i ≤ i + (a - a); omega, ?_, hln⟩)
      rw [sT]
      exact ⟨fun u => absurd u z, fun _ => ⟨rfl, Int.le_refl _⟩⟩
theorem pprodL_le (h : ∀ b, b ≤ (uU b).2) : ∀ (f : Nat) (a : Int), a ≤ (pprodL tk uU f a).2
  | 0, a => Int.le_refl _
  | f + 1, a => by
    show a ≤ (if tk a = 142 then pb (ptake a) fun b => pb (uU b) (pprodL tk uU f) else (0, a)).2
    split
    · exact Int.le_trans (ptake_le (a := a)).1 (pb_le2 (fun b => Int.le_trans (h b) (pb_le2 (fun c => pprodL_le h f c))))
    · exact Int.le_refl _
theorem rprod_ok {Q : Int → gS → Prop} (hK : TKp B s N tk cd) (hP : SRe R B s N d 7 U uU) (hI : RTI s U) (hT : RTF s U) (hel : ∀ b, b ≤ (uU b).2) (h : RM B s N d G q i) (h0 : 0 ≤ i) (hi : q.1 = 0 → i ≤ q.2 + 2) (hQ : ∀ v G' i', RM B s N d G' (pb q (pprod tk uU)) i' → RFc s G G' q (pb q (pprod tk uU)) i i' (rProd s tk U uU i i' v q.2 G' ∧ G' 16154 v = -2) → Q v G') : PX13_product R G Q := by
  refine ⟨4000000000, Nat.le_refl _, ?_⟩
  generalize hFF : (4000000000 : Nat) = F
  unfold PX13_product_0
  refine hP G q i _ h h0 hi (fun v G1 i1 hR1 hC => fun _ => ?_)
  obtain ⟨c1, c2, c3, c4, c5, c6⟩ := hC
  have sp : pb q (pprod tk uU) = pb (pb q uU) (pprodL tk uU 702) := by rw [pb_pb]; rfl
  generalize hr0 : pb q (pprod tk uU) = r0 at *
  by_cases e : (pb q uU).1 = 0
  · obtain ⟨u1, u2, u3, u4⟩ := c6 e
    rw [pb_0 e] at sp
    have eq := (pb_z e).1
    have hi' := hi eq
    have hq0 := h.2.1
    have hs0 := hK.1
    obtain ⟨kl, k1, k2, k3⟩ := hI _ _ _ _ _ u3
    refine rprod_loop hK hP hI hT hel 702 F G1 _ i1 v kl Q (by omega) (by omega) (RM_eq hR1 e rfl) (by omega) (by omega) k1 (by omega) k3 u4 (fun v2 G2 i2 hR2 d1 d2 d3 d4 d5 => ?_)
    rw [← sp] at hR2 d3 d4 d5
    refine hQ v2 G2 i2 hR2 ⟨by omega, FR_tr c2 (FR_XR c1 d2), fun x => absurd eq x, by omega, by omega, fun x => ?_⟩
    obtain ⟨w1, w2, w3⟩ := d5 x
    have sU : (pb q uU).2 = (uU q.2).2 := by rw [pb_0 eq]
    refine ⟨by omega, by omega, ⟨i1, v, d1, hT _ _ _ _ _ _ u3 (fun c j y1 y2 y3 y4 _ => d2 c j (by unfold XR; omega)), ?_⟩, w3⟩
    rw [← sU]; exact w2
  · rw [pb_n e] at sp
    have fl1 : G1 16081 20 ≠ 0 := fun y => e ((RM_fl hR1).mp y)
    unfold PX13_product_5 PX13_product_60
    exact fun _ => ⟨fun y => absurd y fl1, fun _ => hQ _ G1 i1 (by rw [sp]; exact hR1) (by rw [sp]; exact ⟨c1, c2, c3, c4, c5, fun x => absurd x e⟩)⟩
end RP10

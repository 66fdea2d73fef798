section CQ9
variable {tk cd : Int → Int} {S : TT} {sS : Int → RR} {c d : Int} {R : JT}
def PsK (G G' : gS) (tk : Int → Int) (c i a n l v : Int) (r : RR) (S : TT) (sS : Int → RR) (f : Nat) : Prop := Pst G G' c i a r (fun i' => cStmts tk S sS f i i' (G' (lc n l) (lj l)) a G') (fun k j => k = lc n l ∧ j = lj l) ∧ (r.1 ≠ 0 → v = -1) ∧ (r.1 = 0 → v = n)
theorem blk_bad {J : JT} {G : gS} {Q : Int → gS → Prop} {n l cnt : Int} (h : G 7 9 ≠ 0) (hQ : Q (-1) G) : PX9_block_52 R J d n l cnt G Q := by
  have e : PX9_block_114 R J d n l cnt G Q := by
    unfold PX9_block_114 PX9_block_132 PX9_block_133
    exact fun _ => ⟨fun z => absurd z h, fun _ => hQ⟩
  unfold PX9_block_52
  exact ⟨fun _ => e, fun _ => fun _ => ⟨fun z => absurd z h, fun _ => e⟩⟩
theorem blk_loop (hS : SEx R tk cd c S sS 1 [d + 1] (d + 1)) (gI : TI S) (gF : TF S) : ∀ (f F : Nat) (G : gS) (i a n l cnt : Int) (Q : Int → gS → Prop), f < F → 702 ≤ a + f → Pre G tk cd c i a (d + 1) → 0 ≤ cnt → cnt < a → (14 ≤ n ∧ n < 14 + i) → (l = -1 ∨ 14 ≤ l ∧ l < 14 + i) → G (lc n l) (lj l) = -1 → (∀ v G', PsK G G' tk c i a n l v (pstmts tk sS f a) S sS f → Q v G') → PX9_block_52 R (PX9_block_J R F) d n l cnt G Q
  | 0, _, _, _, _, _, _, _, _, _, h, hp, _, _, _, _, _, _ => by have := hp.2.2.2.2.1; omega
  | f + 1, 0, _, _, _, _, _, _, _, h, _, _, _, _, _, _, _, _ => absurd h (by omega)
  | f + 1, F + 1, G, i, a, n, l, cnt, Q, hfF, haf, hp, hc0, hc, hn, hl, h5, hQ => by
    have hp' := hp
    obtain ⟨p1, p2, p3, p4, p5, p6, p7, p8, p9, p10, p11, p12⟩ := hp
    have hlc : 14 ≤ lc n l ∧ lc n l < 14 + i := by
      unfold lc
      rcases hl with hl | hl
      · rw [if_pos (by omega)]; exact hn
      · rw [if_neg (by omega)]; exact hl
    have hl2 : 0 ≤ l → 14 ≤ l ∧ l < 14 + i ∧ l < 814 := fun z => by
      rcases hl with hl | hl
      · omega
      · omega
    have hn8 : n < 814 ∧ i ≤ 800 := by omega
    unfold PX9_block_52
    refine ⟨fun z => by omega, fun _ => fun _ => ⟨fun _ => sX9_now p1 p2 p4 (by omega) (fun _ => ⟨fun z => ?_, fun z => ?_⟩), fun z => absurd p3 z⟩⟩
    · have spec : pstmts tk sS (f + 1) a = ptake a := if_pos z
      unfold PX9_block_114 PX9_block_132 PX9_block_133
      refine fun _ => ⟨fun _ => sX9_take p2 p3 p4 (fun x y => fun _ => ⟨fun u => absurd u (by decide), fun _ => hQ n _ ⟨?_, fun u => ?_, fun _ => rfl⟩⟩) (fun x => fun _ => ⟨fun _ => hQ (-1) _ ⟨?_, fun _ => rfl, fun u => ?_⟩, fun u => absurd rfl u⟩), fun u => absurd p3 u⟩
      · refine Pst_P (Pst_take (b := 0) (P := fun _ => True) (old := fun _ _ => False) hp' (spec.trans x) y (by omega) trivial) (fun _ _ h => h.elim) (fun _ hg i' _ _ => ⟨fun _ => ?_, fun u => absurd z u⟩)
        rw [hg _ _ hlc.1 hlc.2 (fun h => h)]; exact h5
      · rw [spec, x] at u; exact absurd rfl u
      · rw [spec, x]; exact Pst_fail (by decide)
      · rw [spec, x] at u; exact absurd u three_ne
    · have spec : pstmts tk sS (f + 1) a = pb (sS a) (pstmts tk sS f) := if_neg z
      refine ⟨by unfold inI; omega, hS G i a _ hp' (fun v G1 hv => ?_)⟩
      obtain ⟨⟨f1, g1, k1⟩, w1, wn⟩ := hv
      by_cases e0 : (sS a).1 = 0
      · obtain ⟨q1, q2, q3, q4, q5, q6, i1, q7, q8, q9, q10⟩ := k1 e0
        obtain ⟨kv, ev, kv1, kv2⟩ := gI _ _ _ _ _ q10
        rw [pb_0 e0] at spec
        generalize hx : (sS a).2 = x at *
        have go : ∀ (F' : Nat) G2, F' = F → G2 = uG G1 (lc n l) (lj l) v → PX9_block_52 R (PX9_block_J R F') d n v (cnt + 1) G2 Q := by
          intro F' G2 eF e2
          subst eF
          have f2 : FP G G2 := by rw [e2]; exact FP_up f1 (by omega)
          have b1 : G2 7 8 = x := by rw [e2, uG_c (by omega)]; exact q2
          have b2 : G2 7 9 = 0 := by rw [e2, uG_c (by omega)]; exact q1
          have b3 : G2 7 14 = i1 := by rw [e2, uG_c (by omega)]; exact q7
          have T2 : S i i1 v a G2 := gF _ _ _ _ _ _ q10 (fun k j x y _ => by rw [e2, uG_c (by omega)])
          have old2 : ∀ k j, 14 ≤ k → k < 14 + i → ¬ (k = lc n l ∧ j = lj l) → G2 k j = G k j := fun k j x y z => by
            rw [e2, uG_ne (by omega)]; exact q6 k j x y (fun z => z)
          have at2 : G2 (lc n l) (lj l) = v := by rw [e2]; exact uG_at _ _ _ _
          have lcv : lc n v = v := by unfold lc; rw [if_neg (by omega)]
          have ljv : lj v = 8 := by unfold lj; rw [if_neg (by omega)]
          refine blk_loop hS gI gF f F' G2 i1 x n v (cnt + 1) Q (by omega) (by omega) ⟨PT_FP p1 f2, b1, b2, by omega, q4, q5, b3, by omega, by omega, p10, p11, CD_FP p12 f2⟩ (by omega) (by omega) (by omega) (Or.inr (by omega)) (by rw [lcv, ljv, e2, uG_c (by omega)]; exact wn e0) (fun v' G4 h4 => ?_)
          obtain ⟨⟨f4, g4, k4⟩, w4, w5⟩ := h4
          rw [← spec] at g4 k4 w4 w5
          refine hQ v' G4 ⟨⟨FP_tr f2 f4, g4, fun u => ?_⟩, w4, w5⟩
          obtain ⟨r1, r2, r3, r4, r5, r6, i2, r7, r8, r9, r10⟩ := k4 u
          rw [lcv, ljv] at r6 r10
          have ne : lc n l ≠ v := by omega
          have at4 : G4 (lc n l) (lj l) = v := by rw [r6 (lc n l) (lj l) (by omega) (by omega) (fun u2 => ne u2.1)]; exact at2
          refine ⟨r1, r2, by omega, r4, r5, fun k j x1 x2 x3 => ?_, i2, r7, by omega, by omega, fun u2 => absurd u2 z, fun _ => ⟨i1, by omega, ?_, ?_⟩⟩
          · rw [r6 k j x1 (by omega) (by omega)]; exact old2 k j x1 x2 x3
          · rw [at4]
            exact gF _ _ _ _ _ _ T2 (fun k j x1 x2 x3 => by rw [r6 k j (by omega) (by omega) (by omega)])
          · rw [at4, hx]; exact r10
        have nx : ∀ G2, G2 = uG G1 (lc n l) (lj l) v → PX9_block_105 R (PX9_block_J R (F + 1)) d n l cnt v G2 Q := fun G2 e2 => by
          unfold PX9_block_105
          exact ⟨by unfold inI; omega, go F G2 rfl e2⟩
        refine ⟨fun z => ⟨nd_of hn (by omega), Or.inr (nd_of (i := i1) (by omega) (by omega)), fun G2 e2 => nx G2 (by rw [e2]; unfold lc lj; rw [if_pos z, if_pos z])⟩, fun z => ⟨nd_of (i := i) ⟨(hl2 z).1, (hl2 z).2.1⟩ hn8.2, Or.inr (nd_of (i := i1) (by omega) (by omega)), fun G2 e2 => nx G2 (by rw [e2]; unfold lc lj; rw [if_neg (by omega), if_neg (by omega)])⟩⟩
      · have ev := w1 e0
        have sp : pstmts tk sS (f + 1) a = sS a := spec.trans (pb_n e0)
        have bd : ∀ G2 k j, G2 = uG G1 k j v → 14 ≤ k → k < 814 → PX9_block_105 R (PX9_block_J R (F + 1)) d n l cnt v G2 Q := fun G2 k j e2 y1 y2 => by
          have f9 : G2 7 9 = (sS a).1 := by rw [e2, uG_c (by omega)]; exact (g1 e0).1
          have f10 : AT G2 (sS a).2 := AT_c e2 (by omega) (g1 e0).2
          unfold PX9_block_105
          refine ⟨by unfold inI; omega, ?_⟩
          show PX9_block_52 R (PX9_block_J R F) d n v (cnt + 1) G2 Q
          exact blk_bad (by rw [f9]; exact e0) (hQ (-1) G2 ⟨⟨by rw [e2]; exact FP_up f1 (by omega), fun _ => by rw [sp]; exact ⟨f9, f10⟩, fun u => by rw [sp] at u; exact absurd u e0⟩, fun _ => rfl, fun u => by rw [sp] at u; exact absurd u e0⟩)
        exact ⟨fun z => ⟨nd_of hn hn8.2, Or.inl ev, fun G2 e2 => bd G2 n 5 e2 hn.1 hn8.1⟩, fun z => ⟨nd_of (i := i) ⟨(hl2 z).1, (hl2 z).2.1⟩ hn8.2, Or.inl ev, fun G2 e2 => bd G2 l 8 e2 (hl2 z).1 (hl2 z).2.2⟩⟩
theorem block_ok {G : gS} {i a : Int} {Q : Int → gS → Prop} (hd : d < 12) (hS : SEx R tk cd c S sS 1 [d + 1] (d + 1)) (gI : TI S) (gF : TF S) (hp : Pre G tk cd c i a d) (hQ : ∀ v G', PsE G G' c i a (pblock tk sS a) (cBlock tk S sS) v → Q v G') : PX9_block R d G Q := by
  refine ⟨4000000000, Nat.le_refl _, ?_⟩
  generalize hF : (4000000000 : Nat) = F
  have hF2 : 702 < F := by omega
  have hp' := hp
  obtain ⟨p1, p2, p3, p4, p5, p6, p7, p8, p9, p10, p11, p12⟩ := hp
  unfold PX9_block_0
  refine sX9_now p1 p2 p4 (by omega) (fun _ => ⟨fun z => ⟨fun _ => ?_, fun u => absurd hd u⟩, fun z => ?_⟩)
  · have spec : pblock tk sS a = pb (ptake a) (pstmts tk sS 702) := if_pos z
    rw [p2]
    refine fun _ => sX9_node p7 p8 (by omega) (fun G2 hN => ?_)
    have ms := MS_nd hp' hd hN
    obtain ⟨g14, g0, g1, g2, g3, g4, g5, g6, g7, g8, g9, g10, g11, gf⟩ := hN
    refine sX9_take ms.1.2.1 ms.1.2.2.1 p4 (fun x y => fun _ => ?_) (fun x => fun _ => ?_)
    · have s1 : pblock tk sS a = pstmts tk sS 702 (a + 1) := spec.trans (pb_e x)
      have m2 := MS_tk ms y (by omega)
      have l5 : lc (14 + i) (-1) = 14 + i := if_pos (by decide)
      have j5 : lj (-1) = 5 := if_pos (by decide)
      refine blk_loop hS gI gF 702 F _ (i + 1) (a + 1) (14 + i) (-1) 0 Q hF2 (by omega) m2.1 (by omega) (by omega) (by omega) (Or.inl rfl) (by rw [l5, j5, uG_c (by omega)]; exact g5) (fun v G' h => ?_)
      obtain ⟨⟨f4, g4', k4⟩, w4, w5⟩ := h
      rw [← s1] at g4' k4 w4 w5
      have fin : (pblock tk sS a).1 = 0 → v = 14 + i ∧ (∀ j, j ≠ 5 → G' (14 + i) j = G2 (14 + i) j) := fun u => by
        obtain ⟨r1, r2, r3, r4, r5, r6, i2, r7, r8, r9, r10⟩ := k4 u
        exact ⟨w5 u, fun j y => by rw [r6 _ _ (by omega) (by omega) (by rw [j5]; omega), uG_c (by omega)]⟩
      refine hQ v G' ⟨⟨FP_tr m2.2.1 f4, g4', fun u => ?_⟩, w4, fun u => by rw [(fin u).1, (fin u).2 8 (by decide)]; exact g8⟩
      obtain ⟨ev, cn⟩ := fin u
      obtain ⟨r1, r2, r3, r4, r5, r6, i2, r7, r8, r9, r10⟩ := k4 u
      rw [l5, j5] at r6 r10
      subst ev
      refine ⟨r1, r2, by omega, r4, r5, fun k j x1 x2 _ => ?_, i2, r7, by omega, by omega, ⟨rfl, by omega, by rw [cn 1 (by decide)]; exact g1, by rw [cn 4 (by decide)]; exact g4, by rw [cn 11 (by decide)]; exact g11⟩, by rw [cn 0 (by decide)]; exact g0, r10⟩
      rw [r6 k j x1 (by omega) (by omega)]; exact m2.2.2 k j x1 x2
    · have b : BAD G (fG G2 3 a) (pblock tk sS a) := BAD_fl ms (by decide) (by rw [spec, x]; exact pb_n three_ne)
      exact blk_bad (by rw [(fG_at _ _ _).1]; decide) (hQ (-1) _ (BAD_P b))
  · have spec : pblock tk sS a = pmiss tk a := if_neg z
    refine sX9_miss p1 p2 p3 p4 (by omega) (fun _ => hQ (-1) _ ⟨Pst_fl (FP_id _) (pmiss_ne (tk := tk) a) (by rw [spec]; rfl), fun _ => rfl, fun z => ?_⟩)
    rw [spec] at z; exact absurd z (pmiss_ne (tk := tk) a)
theorem block_deep {G : gS} {i a : Int} {Q : Int → gS → Prop} (hd : d = 12) (hp : Pre G tk cd c i a d) (hQ : ∀ v G', PsE G G' c i a (if tk a = 223 then (3, a) else pmiss tk a) cNo v → Q v G') : PX9_block R d G Q := by
  refine ⟨4000000000, Nat.le_refl _, ?_⟩
  obtain ⟨p1, p2, p3, p4, p5, p6, p7, p8, p9, p10, p11, p12⟩ := hp
  unfold PX9_block_0
  refine sX9_now p1 p2 p4 (by omega) (fun _ => ⟨fun z => ⟨fun u => by omega, fun _ => ?_⟩, fun z => ?_⟩)
  · rw [if_pos z] at hQ
    exact sX9_stop p2 p4 p3 (fun _ => hQ (-1) _ ⟨Pst_fl (FP_id _) (by decide) rfl, fun _ => rfl, fun u => absurd u three_ne⟩)
  · rw [if_neg z] at hQ
    exact sX9_miss p1 p2 p3 p4 (by omega) (fun _ => hQ (-1) _ ⟨Pst_fl (FP_id _) (pmiss_ne (tk := tk) a) rfl, fun _ => rfl, fun u => absurd u (pmiss_ne (tk := tk) a)⟩)
end CQ9

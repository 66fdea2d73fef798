section CQ10
variable {tk cd : Int → Int} {T S B Bn : TT} {eE sS bB bN : Int → RR} {c d i a i0 a0 : Int} {G G0 G1 : gS} {R : JT}
theorem PsE_T {G' : gS} {r r' : RR} {T' : TT} {v : Int} (h : PsE G G' c i a r T v) (hr : r' = r) (hT : ∀ i', T i i' v a G' → T' i i' v a G') : PsE G G' c i a r' T' v := by
  subst hr
  exact ⟨Pst_P h.1 (fun _ _ h => h) (fun _ _ i' _ q => hT i' q), h.2⟩
theorem MS_A {n v : Int} (h : MS G0 G tk cd c i0 i a d) (hi : i0 ≤ i) (hn : 14 + i0 ≤ n) (q : PsA G G1 tk c i a n v T eE) (e0 : (pargs tk eE a).1 = 0) : v = 1 ∧ ∃ i1, MS G0 G1 tk cd c i0 i1 (pargs tk eE a).2 d ∧ cArgs tk T eE i i1 (G1 n 5) a G1 ∧ i ≤ i1 ∧ i1 ≤ i + ((pargs tk eE a).2 - a) ∧ a < (pargs tk eE a).2 ∧ i1 ≤ 713 ∧ ∀ k j, 14 ≤ k → k < 14 + i → ¬ (k = n ∧ j = 5) → G1 k j = G k j := by
  obtain ⟨⟨f1, -, k1⟩, -, n8⟩ := q
  obtain ⟨q1, q2, q3, q4, q5, q6, i1, q7, q8, q9, q10⟩ := k1 e0
  obtain ⟨⟨p1, p2, p3, p4, p5, p6, p7, p8, p9, p10, p11, p12⟩, f, o⟩ := h
  exact ⟨n8 e0, i1, ⟨⟨PT_FP p1 f1, q2, q1, by omega, q4, q5, q7, by omega, by omega, p10, p11, CD_FP p12 f1⟩, FP_tr f f1, fun k j x y => by rw [q6 k j x (by omega) (by omega)]; exact o k j x y⟩, q10, q8, q9, q3, by omega, q6⟩
theorem bS_of (h : bS tk a = true) (h2 : bE tk a = false) : tk a = 223 ∨ tk a = 27 ∨ tk a = 28 ∨ tk a = 30 ∨ tk a = 31 ∨ tk a = 32 ∨ tk a = 33 ∨ tk a = 35 := by
  unfold bS at h
  rw [h2] at h
  simpa using h
theorem bS_E (h : bE tk a = true) : bS tk a = true := by
  unfold bS
  rw [h]; rfl
theorem bS_k (h : tk a = 223 ∨ tk a = 27 ∨ tk a = 28 ∨ tk a = 30 ∨ tk a = 31 ∨ tk a = 32 ∨ tk a = 33 ∨ tk a = 35) : bS tk a = true := by
  unfold bS
  rcases h with h | h | h | h | h | h | h | h <;> simp [h]
theorem bE_k (h : bE tk a = true) : tk a ≠ 223 ∧ tk a ≠ 0 := by
  have := bE_ne h
  omega
def SW (R : JT) (tk cd : Int → Int) (c : Int) (T S B : TT) (eE sS bB : Int → RR) (d : Int) : Prop := ∀ (G : gS) (i a : Int) (Q : Int → gS → Prop), Pre G tk cd c i a d → (tk a = 27 ∨ tk a = 28 ∨ tk a = 30 ∨ tk a = 31 ∨ tk a = 32 ∨ tk a = 33 ∨ tk a = 35) → (∀ v G', PsE G G' c i a (pb (ptake a) (pworded tk eE sS bB (tk a))) (oWord tk cd T S B eE sS bB) v → Q v G') → R 4 [tk a, d + 1] G Q
-- the eight tests of statement()
theorem st_tests {G : gS} {k r : Int} {Q : Int → gS → Prop} (hk : k = tk a) (hy : bS tk a = true → PX9_statement_70 R d k r G Q) (hE : bE tk a = false → r = 0) (hE2 : bE tk a = true → r ≠ 0) (hn : bS tk a = false → PX9_miss G (fun r17 G16 => (0 ≤ r17 ∧ r17 ≤ 1) → Q (-1) G16)) : (r = 0 → ((k = 223 → PX9_statement_70 R d k r G Q) ∧ (¬ (k = 223) → ((k = 27 → PX9_statement_70 R d k r G Q) ∧ (¬ (k = 27) → ((k = 28 → PX9_statement_70 R d k r G Q) ∧ (¬ (k = 28) → ((k = 30 → PX9_statement_70 R d k r G Q) ∧ (¬ (k = 30) → ((k = 31 → PX9_statement_70 R d k r G Q) ∧ (¬ (k = 31) → ((k = 32 → PX9_statement_70 R d k r G Q) ∧ (¬ (k = 32) → ((k = 33 → PX9_statement_70 R d k r G Q) ∧ (¬ (k = 33) → ((k = 35 → PX9_statement_70 R d k r G Q) ∧ (¬ (k = 35) → PX9_miss G (fun r17 G16 => (0 ≤ r17 ∧ r17 ≤ 1) → Q (-1) G16)))))))))))))))))) ∧ (¬ (r = 0) → PX9_statement_70 R d k r G Q) := by
  subst hk
  refine ⟨fun h0 => ?_, fun h0 => ?_⟩
  · have nE : bE tk a = false := by
      cases e : bE tk a with
      | false => rfl
      | true => exact absurd h0 (hE2 e)
    refine ⟨fun z => hy (bS_k (by omega)), fun z1 => ⟨fun z => hy (bS_k (by omega)), fun z2 => ⟨fun z => hy (bS_k (by omega)), fun z3 => ⟨fun z => hy (bS_k (by omega)), fun z4 => ⟨fun z => hy (bS_k (by omega)), fun z5 => ⟨fun z => hy (bS_k (by omega)), fun z6 => ⟨fun z => hy (bS_k (by omega)), fun z7 => ⟨fun z => hy (bS_k (by omega)), fun z8 => hn ?_⟩⟩⟩⟩⟩⟩⟩⟩
    unfold bS
    rw [nE]
    simp [z1, z2, z3, z4, z5, z6, z7, z8]
  · refine hy (bS_E ?_)
    cases e : bE tk a with
    | true => rfl
    | false => exact absurd (hE e) h0
theorem stat_ok {Q : Int → gS → Prop} (hd : d < 12) (hE : SEx (Rq6 200) tk cd c T eE 3 [d + 1] (d + 1)) (hI : TI T) (hF : TF T) (hA : SA (Rq6 200) tk cd c T eE (d + 1)) (hB : SEx R tk cd c Bn bN 0 [d] d) (hW : SW R tk cd c T S B eE sS bB d) (hp : Pre G tk cd c i a d) (hQ : ∀ v G', PsE G G' c i a (pstat tk eE sS bB bN a) (cStat tk cd T S B Bn eE sS bB) v → Q v G') : PX9_statement R d G Q := by
  have hp' := hp
  obtain ⟨p1, p2, p3, p4, p5, p6, p7, p8, p9, p10, p11, p12⟩ := hp
  have nO : isO W0 8 (14 + i) := nd_isO p8 (by omega)
  have miss : bS tk a = false → PX9_miss G (fun r17 G16 => (0 ≤ r17 ∧ r17 ≤ 1) → Q (-1) G16) := fun z => by
    have spec : pstat tk eE sS bB bN a = pmiss tk a := by unfold pstat; rw [z]; rfl
    refine sX9_miss p1 p2 p3 p4 (by omega) (fun _ => hQ (-1) _ ⟨Pst_fl (FP_id _) (pmiss_ne (tk := tk) a) (by rw [spec]; rfl), fun _ => rfl, fun z => ?_⟩)
    rw [spec] at z; exact absurd z (pmiss_ne (tk := tk) a)
  have go : ∀ r, bS tk a = true → (bE tk a = false → r = 0) → (bE tk a = true → r ≠ 0) → PX9_statement_70 R d (tk a) r G Q := by
    intro r hb r0 r1
    have spec : pstat tk eE sS bB bN a = (if tk a = 223 then bN a else if tk a = 38 ∧ tk (a + 1) = 140 then pb (ptake a) fun b => pb (pargs tk eE b) (pneed tk 159) else if bE tk a then psimple tk eE a else pb (ptake a) (pworded tk eE sS bB (tk a))) := by unfold pstat; rw [if_pos hb]; rfl
    have s161 : tk a ≠ 223 → ¬ isSup tk a → PX9_statement_161 R d (tk a) r G Q := fun z1 z2 => by
      rw [if_neg z1, if_neg (show ¬ (tk a = 38 ∧ tk (a + 1) = 140) from z2)] at spec
      unfold PX9_statement_161
      cases e : bE tk a with
      | true =>
        rw [if_pos e] at spec
        refine ⟨fun z => absurd z (r1 e), fun _ => ⟨by unfold inI; omega, simple_ok hE hI hF hd hp' (fun v G' h => hQ v G' (PsE_T h spec (fun i' q => ⟨fun y => absurd y z1, fun _ => ⟨q.1, fun y => absurd y z2, fun _ => ⟨fun _ => q.2, fun y => ?_⟩⟩⟩)))⟩⟩
        rw [e] at y; exact absurd y (by decide)
      | false =>
        rw [e] at spec
        refine ⟨fun _ => ⟨by unfold inI; omega, hW G i a _ hp' (by have := bS_of hb e; omega) (fun v G' h => hQ v G' (PsE_T h spec (fun i' q => ⟨fun y => absurd y z1, fun _ => ⟨q.1, fun y => absurd y z2, fun _ => ⟨fun y => ?_, fun _ => q.2⟩⟩⟩)))⟩, fun z => absurd (r0 e) z⟩
        rw [e] at y; exact absurd y (by decide)
    unfold PX9_statement_70
    refine ⟨fun _ => ⟨fun z => ?_, fun z => ⟨fun y => ?_, fun y => s161 z (fun q => y q.1)⟩⟩, fun z => absurd hd z⟩
    · rw [if_pos z] at spec
      exact hB G i a _ hp' (fun v G' h => hQ v G' (PsE_T h spec (fun i' q => ⟨fun _ => q, fun y => absurd z y⟩)))
    · refine sX9_behind p1 p2 p4 (by omega) (fun _ => ⟨fun w => ?_, fun w => s161 z (fun q => w q.2)⟩)
      have sup : isSup tk a := ⟨y, w⟩
      rw [if_neg z, if_pos (show tk a = 38 ∧ tk (a + 1) = 140 from sup)] at spec
      rw [p2]
      refine fun _ => sX9_node p7 p8 (by omega) (fun G2 hN => ?_)
      have ms := MS_nd hp' hd hN
      obtain ⟨g14, g0, g1, g2, g3, g4, g5, g6, g7, g8, g9, g10, g11, gf⟩ := hN
      unfold PX9_statement_159 PX9_statement_160
      refine mTake ms (by omega) (fun x1 x2 m1 => ?_) (fun x1 => hQ (-1) _ (BAD_P (BAD_fl ms (by decide) (by rw [spec, x1]; exact pb_n three_ne))))
      rw [pb_e x1] at spec
      refine ⟨by unfold inI; omega, hA _ (i + 1) (a + 1) (14 + i) _ m1.1 (by omega) (by rw [uG_c (by omega)]; exact g5) (fun v G3 h3 => ?_)⟩
      by_cases e3 : (pargs tk eE (a + 1)).1 = 0
      · rw [pb_0 e3] at spec
        obtain ⟨ev, i1, m3, t3, u1, u2, u3, u4, kp⟩ := MS_A m1 (by omega) (by omega) h3 e3
        subst ev
        have cn : ∀ j, j ≠ 5 → G3 (14 + i) j = G2 (14 + i) j := fun j q => by rw [kp _ _ (by omega) (by omega) (by omega), uG_c (by omega)]
        refine fun _ => ⟨fun q => absurd q (by decide), fun _ => mNeed m3 (by decide) (fun y1 y2 y3 m4 => ?_) (fun n y1 y2 => hQ (-1) _ (BAD_P (BAD_fl m3 y1 (spec.trans y2))))⟩
        refine hQ (14 + i) _ (MS_end m4 (spec.trans y1) (by omega) (by omega) (by omega) ⟨fun q => absurd q z, fun _ => ⟨⟨rfl, by omega, ?_, ?_, ?_⟩, fun _ => ⟨?_, ?_⟩, fun q => absurd sup q⟩⟩ (by rw [uG_c (by omega), cn 8 (by decide)]; exact g8))
        · rw [uG_c (by omega), cn 1 (by decide)]; exact g1
        · rw [uG_c (by omega), cn 4 (by decide)]; exact g4
        · rw [uG_c (by omega), cn 11 (by decide)]; exact g11
        · rw [uG_c (by omega), cn 0 (by decide)]; exact g0
        · rw [uG_c (by omega)]
          exact cArgs_F hI hF t3 (fun k j q1 q2 => uG_c (by omega))
      · have ev := h3.2.1 e3
        subst ev
        have g := h3.1.2.1 e3
        have b : BAD G G3 (pstat tk eE sS bB bN a) := by rw [spec, pb_n e3]; exact ⟨FP_tr m1.2.1 h3.1.1, g.1, g.2, e3⟩
        exact fun _ => ⟨fun _ => hQ (-1) G3 (BAD_P b), fun q => absurd rfl q⟩
  unfold PX9_statement PX9_statement_0
  refine sX9_now p1 p2 p4 (by omega) (fun _ => sX9_beginsE (a := a) rfl (fun hb => fun _ => ?_) (fun hb => fun _ => ?_))
  · exact st_tests rfl (fun h => go 1 h (fun y => by rw [hb] at y; exact absurd y (by decide)) (fun _ => by decide)) (fun y => by rw [hb] at y; exact absurd y (by decide)) (fun _ => by decide) miss
  · exact st_tests rfl (fun h => go 0 h (fun _ => rfl) (fun y => by rw [hb] at y; exact absurd y (by decide))) (fun _ => rfl) (fun y => by rw [hb] at y; exact absurd y (by decide)) miss
theorem stat_deep {Q : Int → gS → Prop} (hd : d = 12) (hp : Pre G tk cd c i a d) (hQ : ∀ v G', PsE G G' c i a (if bS tk a then (3, a) else pmiss tk a) cNo v → Q v G') : PX9_statement R d G Q := by
  obtain ⟨p1, p2, p3, p4, p5, p6, p7, p8, p9, p10, p11, p12⟩ := hp
  have miss : bS tk a = false → PX9_miss G (fun r17 G16 => (0 ≤ r17 ∧ r17 ≤ 1) → Q (-1) G16) := fun z => by
    rw [z] at hQ
    exact sX9_miss p1 p2 p3 p4 (by omega) (fun _ => hQ (-1) _ ⟨Pst_fl (FP_id _) (pmiss_ne (tk := tk) a) rfl, fun _ => rfl, fun u => absurd u (pmiss_ne (tk := tk) a)⟩)
  have go : ∀ r, bS tk a = true → PX9_statement_70 R d (tk a) r G Q := fun r hb => by
    rw [if_pos hb] at hQ
    unfold PX9_statement_70
    exact ⟨fun z => by omega, fun _ => sX9_stop p2 p4 p3 (fun _ => hQ (-1) _ ⟨Pst_fl (FP_id _) (by decide) rfl, fun _ => rfl, fun u => absurd u three_ne⟩)⟩
  unfold PX9_statement PX9_statement_0
  refine sX9_now p1 p2 p4 (by omega) (fun _ => sX9_beginsE (a := a) rfl (fun hb => fun _ => ?_) (fun hb => fun _ => ?_))
  · exact st_tests rfl (go 1) (fun y => by rw [hb] at y; exact absurd y (by decide)) (fun _ => by decide) miss
  · exact st_tests rfl (go 0) (fun _ => rfl) (fun y => by rw [hb] at y; exact absurd y (by decide)) miss
end CQ10
section CQ11
variable {tk cd : Int → Int} {c : Int}
/-- the class's reader of S's and BLOCKs, by how many S's and E's they stand within -/
theorem SB_ok : ∀ D : Nat, D ≤ 12 → ∀ d : Int, d = 12 - D → (∀ n, 3 * D + 1 ≤ n → SEx (Rq7 n) tk cd c (cB tk cd D) (pB tk D) 0 [d] d) ∧ (∀ n, 3 * D + 2 ≤ n → SEx (Rq7 n) tk cd c (cS tk cd D) (pS tk D) 1 [d] d)
  | 0, _, d, hd => by
    refine ⟨fun n hn => ?_, fun n hn => ?_⟩
    all_goals obtain ⟨m, rfl⟩ : ∃ m, n = m + 1 := ⟨n - 1, by omega⟩
    · intro G i a Q hp hQ
      show PX9_block (Rq7 m) d G Q
      exact block_deep (by omega) hp hQ
    · intro G i a Q hp hQ
      show PX9_statement (Rq7 m) d G Q
      exact stat_deep (by omega) hp hQ
  | D + 1, hD, d, hd => by
    obtain ⟨ihB, ihS⟩ := SB_ok D (by omega) (d + 1) (by omega)
    obtain ⟨⟨s1, s2⟩, b1, b2⟩ := cSB_ok tk cd D
    obtain ⟨⟨e1, e2⟩, -⟩ := cEU_ok tk cd D
    have hE : ∀ n, 1 + 8 * D ≤ n → SEx (Rq6 n) tk cd c (cE tk cd D) (pE tk D) 3 [d + 1] (d + 1) := (EU_ok D (by omega) (d + 1) (by omega)).1
    have hA : SA (Rq6 200) tk cd c (cE tk cd D) (pE tk D) (d + 1) := by
      intro G i a k Q hp hk h5 hQ
      show PX9_args (Rq6 199) k (d + 1) G Q
      exact args_ok (hE 199 (by omega)) e1 e2 hp hk h5 hQ
    have hB : ∀ n, 3 * (D + 1) + 1 ≤ n → SEx (Rq7 n) tk cd c (cB tk cd (D + 1)) (pB tk (D + 1)) 0 [d] d := fun n hn => by
      obtain ⟨m, rfl⟩ : ∃ m, n = m + 1 := ⟨n - 1, by omega⟩
      intro G i a Q hp hQ
      show PX9_block (Rq7 m) d G Q
      exact block_ok (by omega) (ihS m (by omega)) s1 s2 hp hQ
    have hT : ∀ n, 3 * D + 3 ≤ n → STs (Rq7 n) tk cd c (cE tk cd D) (cS tk cd D) (cB tk cd D) (pE tk D) (pS tk D) (pB tk D) (d + 1) := fun n hn => by
      obtain ⟨m, rfl⟩ : ∃ m, n = m + 1 := ⟨n - 1, by omega⟩
      intro G0 G i0 a Q hm h0 ha hw hn hQ
      show PX9_tested (Rq7 m) (14 + i0) (tk a) (d + 1) G Q
      exact tested_ok (hE 200 (by omega)) e1 e2 (ihS m (by omega)) s1 s2 hm h0 ha hw hn hQ
    have hY : ∀ n, 3 * D + 3 ≤ n → STy (Rq7 n) tk cd c (cE tk cd D) (cS tk cd D) (cB tk cd D) (pE tk D) (pS tk D) (pB tk D) (d + 1) := fun n hn => by
      obtain ⟨m, rfl⟩ : ∃ m, n = m + 1 := ⟨n - 1, by omega⟩
      intro G0 G i0 a Q hm h0 ha hw hn hQ
      show PX9_tried (Rq7 m) (14 + i0) (d + 1) G Q
      exact tried_ok (ihB m (by omega)) b1 b2 hm h0 ha hw hn hQ
    have hW : ∀ n, 3 * D + 4 ≤ n → SW (Rq7 n) tk cd c (cE tk cd D) (cS tk cd D) (cB tk cd D) (pE tk D) (pS tk D) (pB tk D) d := fun n hn => by
      obtain ⟨m, rfl⟩ : ∃ m, n = m + 1 := ⟨n - 1, by omega⟩
      intro G i a Q hp hw hQ
      show PX9_worded (Rq7 m) (tk a) (d + 1) G Q
      exact worded_ok (hE 200 (by omega)) e1 e2 (hT m (by omega)) (hY m (by omega)) (by omega) hp hw hQ
    refine ⟨hB, fun n hn => ?_⟩
    obtain ⟨m, rfl⟩ : ∃ m, n = m + 1 := ⟨n - 1, by omega⟩
    intro G i a Q hp hQ
    show PX9_statement (Rq7 m) d G Q
    exact stat_ok (Bn := cB tk cd (D + 1)) (bN := pB tk (D + 1)) (by omega) (hE 200 (by omega)) e1 e2 hA (hB m (by omega)) (hW m (by omega)) hp hQ
end CQ11

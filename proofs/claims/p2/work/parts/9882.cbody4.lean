section CB4
theorem uG_if (G : gS) (c j v c' j' : Int) : uG G c j v c' j' = if c' = c ∧ j' = j then v else G c' j' := rfl
variable {tk cd : Int → Int} {c b tp sz : Int} {G0 G : gS}
theorem read_149b {J : JT} {Q : Int → gS → Prop} {k j r : Int} (h : RBd tk c b G0 G) (hk : 0 ≤ k ∧ k ≤ 13) (hJ : J 0 [bd b, tp, sz, k + 1] G Q) : PX9_read_149 J (bd b) tp sz k r j G Q := by
  unfold PX9_read_149 PX9_read_164
  exact fun _ => ⟨fun z => HB_f h.1 z, fun _ => ⟨by unfold inI; omega, hJ⟩⟩
theorem read_67b {J : JT} {Q : Int → gS → Prop} {k j r : Int} (h : RBd tk c b G0 G) (hk : 0 ≤ k ∧ k ≤ 13) (hJ : J 0 [bd b, tp, sz, k + 1] G Q) : PX9_read_67 J (bd b) tp sz k r j G Q := by
  have e := read_149b (tp := tp) (sz := sz) (j := j) (r := r) h hk hJ
  unfold PX9_read_67
  exact ⟨fun _ => e, fun _ => ⟨fun _ => e, fun _ => now_any h.2 h.1.2.2.1.2 (fun v => fun _ => ⟨fun _ => e, fun _ => fun _ => ⟨fun z => HB_f h.1 z, fun _ => e⟩⟩)⟩⟩
theorem HS_bd {X : Int → Int → Prop} {G1 : gS} {a : Int} {r : RR} (hb : 0 ≤ b) (m : HS (xRead b) G0 G tk cd c a) (f : FR X G G1) (hX : ∀ c j, X c j → xRead b c j) (h9 : G1 7 9 = r.1) (h10 : AT G1 r.2) (hr : r.1 ≠ 0) (hp : ptext tk 12 = r) : RBd tk c b G0 G1 := by
  have f' : FR (xRead b) G G1 := FR_mono hX f
  rw [← hp] at h9 h10 hr
  exact ⟨⟨FR_tr m.2 f', h9, h10, hr⟩, PT_FR m.1.1 f' (xRead_T hb)⟩
theorem xMbr_sub {k n : Int} (hk : 0 ≤ k ∧ k < 12) (hn : 0 ≤ n ∧ n < 408) : ∀ c j, xMbr b k n c j → xRead b c j := fun c j h => by
  unfold xMbr xTyp xMem xAt bd rw_ mb at h
  unfold xRead
  omega
theorem xBody_sub {n : Int} (hn : 0 ≤ n ∧ n < 408) : ∀ c j, xBody (mb b n) c j → xRead b c j := fun c j h => by
  unfold xBody mb at h
  unfold xRead
  omega
theorem xHead_sub {k : Int} (hk : 0 ≤ k ∧ k ≤ 12) : ∀ c j, xHead b k c j → xRead b c j := fun c j h => by
  unfold xHead xAt bd rw_ at h
  unfold xRead
  omega
theorem read_67 {J : JT} {Q : Int → gS → Prop} {k j : Nat} {a i : Int} (hb : 0 ≤ b ∧ b < 17) (h11 : G0 7 11 = bd b) (h : St1 tk cd c b G0 k j a i G) (hJ0 : ∀ G', ((∃ a i, St0 tk cd c b G0 (k + 1) a i G') ∨ RBd tk c b G0 G') → J 0 [bd b, tp, sz, (k : Int) + 1] G' Q) (hJ1 : ∀ G', ((∃ a i, j < 20 ∧ St1 tk cd c b G0 k (j + 1) a i G') ∨ RBd tk c b G0 G') → J 1 [bd b, tp, sz, k, rw_ b k, (j : Int) + 1] G' Q) : PX9_read_67 J (bd b) tp sz k (rw_ b k) j G Q := by
  have h' := h
  obtain ⟨s1, s2, s3, s4, s5, s6, s7, s8, s9, s10, s11, s12, s13, s14, s15, s16, ⟨f, s17, s18, s19⟩, f2, s20, s21⟩ := h
  have hX := xRead_T hb.1
  have z0 := n0_0 tk k
  have cb := cM_b tk (hIt tk k (aCl tk k)) j
  have hk : 0 ≤ (k : Int) ∧ (k : Int) < 12 := by omega
  have hn : 0 ≤ n0 tk k + j ∧ n0 tk k + j < 408 := by omega
  obtain ⟨rO, -⟩ := rw_ok hb.1 hb.2 hk.1 hk.2
  obtain ⟨mO, -⟩ := mb_ok hb.1 hb.2 hn.1 hn.2
  obtain ⟨f', rfl⟩ : ∃ f', f = f' + 1 := ⟨f - 1, by omega⟩
  have sp : pitems tk 22 0 (hIt tk k (aCl tk k)) = (if tk a = 225 then ptake a else pb (pitem tk j a) (pitems tk f' (j + 1))) := s18
  have sn : nIt tk (hIt tk k (aCl tk k)) = (if tk a = 225 then 0 else nItL tk f' (j + 1) (pitem tk j a).2 + 1) + j := s19
  unfold PX9_read_67
  refine ⟨fun z => ?_, fun _ => ⟨fun z => by omega, fun _ => hNow s1 (fun _ => ⟨fun z => ?_, fun z => fun _ => ⟨fun _ => ?_, fun y => absurd s1.1.2.2.1 y⟩⟩)⟩⟩
  · unfold rw_ at z; omega
  · -- the }
    rw [if_pos z] at sp sn
    have pn : pneed tk 225 a = ptake a := if_pos z
    unfold PX9_read_149
    refine fun _ => ⟨fun _ => hNeedQ s1 hX (by decide) (fun x1 x2 x3 m1 => fun _ => ?_) (fun n x1 x2 => fun _ => ?_), fun y => absurd s1.1.2.2.1 y⟩
    · unfold PX9_read_164
      refine ⟨by unfold inI; omega, hJ0 _ (Or.inl ⟨a + 1, i, ?_⟩)⟩
      rw [← pn, x1] at sp
      have eN : nIt tk (hIt tk k (aCl tk k)) = j := by omega
      have ea : aCl tk (k + 1) = a + 1 := by
        show (pitems tk 22 0 (hIt tk k (aCl tk k))).2 = _
        rw [sp]
      have w : ∀ c' j', ¬ (c' = 7 ∧ j' = 8) → uG G 7 8 (a + 1) c' j' = G c' j' := fun c' j' q => uG_ne (by omega)
      refine ⟨m1, by rw [w _ _ (by omega)]; exact s2, by rw [w _ _ (by omega)]; exact s3, s4, by omega, by rw [w _ _ (by unfold bd; omega), s6]; omega, by omega, ?_, ?_, fun k' x => ?_, ea.symm, f2, by omega, ?_⟩
      · rw [w _ _ (by unfold bd; omega), s8]
        show _ = n0 tk k + (nIt tk (hIt tk k (aCl tk k)) : Int)
        rw [eN]
      · show n0 tk k + (nIt tk (hIt tk k (aCl tk k)) : Int) ≤ _
        omega
      · by_cases y : k' < k
        · exact AllC_F s11 (Int.le_refl _) (fun c' j' x1 x2 => w _ _ (by unfold rw_ at x1; omega)) (fun c' j' x1 x2 => w _ _ (by unfold mb at x1; omega)) (fun c' j' x1 x2 => w _ _ (by omega)) k' y
        · have e : k' = k := by omega
          subst e
          refine ⟨RwP_F s12 (fun j' _ _ => w _ _ (by unfold rw_; omega)) (fun j' => w _ _ (by unfold rw_; omega)) (fun j' => w _ _ (by unfold rw_; omega)), by rw [w _ _ (by unfold rw_; omega), s13, eN], by rw [w _ _ (by unfold rw_; omega), s14, eN], by omega, ?_⟩
          rw [eN]
          exact ItP_F s15 (Int.le_refl _) (fun j' _ _ => w _ _ (by unfold rw_; omega)) (fun j' _ _ => w _ _ (by unfold rw_; omega)) (fun c' j' x1 x2 => w _ _ (by unfold mb at x1; omega)) (fun c' j' x1 x2 => w _ _ (by omega))
      · rw [s21, pb_e sp]; rfl
    · unfold PX9_read_164
      refine ⟨by unfold inI; omega, hJ0 _ (Or.inr ?_)⟩
      rw [← pn, x2] at sp
      rw [pb_n (by rw [sp]; exact x1), sp] at s21
      exact ⟨HB_fl s1 hX x1 s21, PT_fG s1.1.1⟩
  · -- a MEMBER
    rw [if_neg z] at sp
    have bad : ∀ G' (r : RR) X, FR X G G' → (∀ c j, X c j → xRead b c j) → G' 7 9 = r.1 → AT G' r.2 → r.1 ≠ 0 → pitem tk j a = r → PX9_read_143 J (bd b) tp sz k (rw_ b k) j G' Q := fun G' r X q1 q2 q3 q4 q5 q6 => by
      unfold PX9_read_143
      refine ⟨by unfold inI; omega, hJ1 _ (Or.inr (HS_bd hb.1 s1 q1 q2 q3 q4 q5 ?_))⟩
      rw [s21, sp, q6, pb_n q5, pb_n q5]
    refine member_ok hb hk hn ⟨s1.1, FR_id⟩ s2 s8 s13 (by omega) s14 cb (fun v G32 hv => ?_)
    obtain ⟨⟨q1, q2, q3⟩, q4, q5⟩ := hv
    by_cases e : (pmember tk j a).1 = 0
    · obtain ⟨g9, g8, g1, g2, g3, hM⟩ := q3 e
      obtain ⟨M5, M13, M3, M3', M23, M24, M12, MM⟩ := hM
      have hj20 := pmember_lt e
      obtain ⟨mm, m6, m14⟩ := MemP_M MM
      have f32 : FR (xRead b) G G32 := FR_mono (xMbr_sub hk hn) q1
      have m32 : HS (xRead b) G0 G32 tk cd c (pmember tk j a).2 := ⟨⟨PT_FR s1.1.1 f32 hX, g8, g9, by have := s1.1.2.2.2.1; omega, g2, g3, CD_FR s1.1.2.2.2.2.2.2 f32 hX⟩, FR_tr s1.2 f32⟩
      have i32 : G32 7 14 = i := by rw [q1 _ _ (by unfold xMbr xTyp xMem xAt bd rw_ mb; omega)]; exact s3
      have n32 : ∀ k j, 14 ≤ k → k < 14 + i → G32 k j = G k j := fun k' j' x1 x2 => q1 _ _ (by unfold xMbr xTyp xMem xAt bd rw_ mb; have := s1.1.2.2.2.2.1; omega)
      have it : pitem tk j a = (if kMember tk a = 0 then (0, (pmember tk j a).2) else pbody tk (kMember tk a) (pmember tk j a).2) := pb_0 e
      rw [M12]
      refine fun _ => fun _ => ⟨fun _ => fun _ => ⟨fun zk => ?_, fun zk => ⟨rO, ?_⟩⟩, fun y => absurd g9 y⟩
      · rw [if_pos zk] at it
        unfold PX9_read_143
        refine ⟨by unfold inI; omega, hJ1 _ (Or.inl ⟨(pmember tk j a).2, i, by omega, St1_next hb h' z (by omega) m32 i32 (Int.le_refl _) (by omega) (fun c' j' x1 x2 => q1 _ _ x1) n32 M5 M13 M3 M3' M23 M24 mm ⟨fun _ => ⟨m6, m14⟩, fun y => absurd zk y⟩ it⟩)⟩
      · rw [if_neg zk] at it
        rw [M13]
        refine fun _ => ⟨fun _ => fun _ => ⟨by omega, by omega, ?_⟩, fun y => by omega⟩
        rw [show (j : Int) + 1 - 1 = j by omega, M3]
        have hm9 : 985 ≤ mb b (n0 tk k + j) := by unfold mb; omega
        refine fun _ => body_ok (i := i) mO hm9 ⟨m32.1.1, g8, g9, m32.1.2.2.2.1, g2, g3, i32, s4, by omega, by omega, by omega, m32.1.2.2.2.2.2.2⟩ M12 (fun G46 i' x1 x2 x3 x4 x5 x6 x7 x8 => fun _ => ?_) (fun G46 x1 => fun _ => ?_)
        · unfold PX9_read_143
          have fB : FR (xBody (mb b (n0 tk k + j))) G32 G46 := x2.2
          have f46 : FR (xRead b) G0 G46 := FR_tr m32.2 (FR_mono (xBody_sub hn) fB)
          have w : ∀ c' j', ¬ xBody (mb b (n0 tk k + j)) c' j' → G46 c' j' = G32 c' j' := fun c' j' q => fB _ _ q
          have wr : ∀ j', G46 (rw_ b k) j' = G32 (rw_ b k) j' := fun j' => w _ _ (by unfold xBody rw_ mb; omega)
          have wr3 : ∀ j', G46 (rw_ b k + 3) j' = G32 (rw_ b k + 3) j' := fun j' => w _ _ (by unfold xBody rw_ mb; omega)
          have wr4 : ∀ j', G46 (rw_ b k + 4) j' = G32 (rw_ b k + 4) j' := fun j' => w _ _ (by unfold xBody rw_ mb; omega)
          refine ⟨by unfold inI; omega, hJ1 _ (Or.inl ⟨_, i', by omega, St1_next hb h' z (by omega) ⟨x2.1, f46⟩ x4 x5 (by omega) (fun c' j' y1 y2 => by rw [w _ _ y2]; exact q1 _ _ y1) (fun k' j' y1 y2 => by rw [x7 k' j' y1 y2]; exact n32 k' j' y1 y2) (by rw [w _ _ (by unfold xBody bd mb; omega)]; exact M5) (by rw [wr]; exact M13) (by rw [wr3]; exact M3) (fun j' y => by rw [wr3]; exact M3' j' y) (fun y => ⟨by rw [wr]; exact (M23 y).1, fun j' => by rw [wr4]; exact (M23 y).2 j'⟩) (fun y => ⟨by rw [wr]; exact (M24 y).1, by rw [wr4]; exact (M24 y).2.1, fun j' y' => by rw [wr4]; exact (M24 y).2.2 j' y'⟩) (MmP_F mm (fun j' y1 y2 y3 y4 => w _ _ (by unfold xBody mb; omega)) (fun j' => w _ _ (by unfold xBody mb; omega))) ⟨fun y => absurd y zk, fun _ => ⟨i, i', s4, Int.le_refl _, x8⟩⟩ (it.trans (Prod.ext x1 rfl))⟩)⟩
        · exact bad G46 _ (xRead b) (FR_tr f32 (FR_mono (xBody_sub hn) x1.1)) (fun _ _ y => y) x1.2.1 x1.2.2.1 x1.2.2.2 it
    · have ev := q4 e
      have it : pitem tk j a = pmember tk j a := pb_n e
      obtain ⟨g9, g10⟩ := q2 e
      exact fun _ => fun _ => ⟨fun y => absurd (g9.symm.trans y) e, fun _ => bad G32 _ _ q1 (xMbr_sub hk hn) g9 g10 e it⟩
end CB4

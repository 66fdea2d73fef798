section CB2
variable {tk cd : Int → Int} {a b k m i lo hi : Int} {G G' : gS}
-- a MEMBER's cells by its tokens, told so that they can be kept
def mKd (tk : Int → Int) (a : Int) : Int := if tk a = 23 then 3 else if tk (mB0 tk a) = 25 then 2 else if tk (tMember tk a + 2) = 140 then 1 else 0
def mNm (tk cd : Int → Int) (a : Int) : Int := if tk (mB0 tk a) = 25 then -4 else cd (tMember tk a + 1)
def mTy (tk cd : Int → Int) (a : Int) : Int := if tk (mB0 tk a) = 25 then -3 else tType tk cd (tMember tk a)
def mTk (tk : Int → Int) (a : Int) : Int := if tk (mB0 tk a) = 25 then mB0 tk a else tMember tk a + 1
def mPa (tk : Int → Int) (a : Int) : Int := if tk (mB0 tk a) = 25 then mB0 tk a + 1 else tMember tk a + 2
def mCt (tk : Int → Int) (a : Int) : Int := if tk (mPa tk a) = 140 ∨ tk (mB0 tk a) = 25 then lPar tk (mPa tk a) else 0
def mPr (tk cd : Int → Int) (a j : Int) : Int := if j < mCt tk a then cType tk cd (mPa tk a + 1 + 3 * j) else -4
def MmP (tk cd : Int → Int) (m a : Int) (G : gS) : Prop := G m 0 = mKd tk a ∧ G m 5 = 0 ∧ G m 15 = 0 ∧ (tk a = 23 → G m 11 = a) ∧ (tk a ≠ 23 → G m 1 = mAcc tk a ∧ G m 2 = b01 (tk (mB0 tk a) = 22) ∧ G m 3 = b01 (tk (mC0 tk a) = 20) ∧ G m 4 = b01 (tk (mC0 tk a) = 21) ∧ G m 7 = mNm tk cd a ∧ G m 8 = mTy tk cd a ∧ G m 9 = mCt tk a ∧ G m 11 = mTk tk a ∧ ∀ j, 0 ≤ j → j < 4 → G (m + 1) j = mPr tk cd a j)
theorem MmP_F (h : MmP tk cd m a G) (h1 : ∀ j, j ≠ 6 → j ≠ 12 → j ≠ 13 → j ≠ 14 → G' m j = G m j) (h2 : ∀ j, G' (m + 1) j = G (m + 1) j) : MmP tk cd m a G' := by
  obtain ⟨q0, q5, q15, qa, qb⟩ := h
  refine ⟨by rw [h1 0 (by decide) (by decide) (by decide) (by decide)]; exact q0, by rw [h1 5 (by decide) (by decide) (by decide) (by decide)]; exact q5, by rw [h1 15 (by decide) (by decide) (by decide) (by decide)]; exact q15, fun z => by rw [h1 11 (by decide) (by decide) (by decide) (by decide)]; exact qa z, fun z => ?_⟩
  obtain ⟨p1, p2, p3, p4, p5, p6, p7, p8, p9⟩ := qb z
  exact ⟨by rw [h1 1 (by decide) (by decide) (by decide) (by decide)]; exact p1, by rw [h1 2 (by decide) (by decide) (by decide) (by decide)]; exact p2, by rw [h1 3 (by decide) (by decide) (by decide) (by decide)]; exact p3, by rw [h1 4 (by decide) (by decide) (by decide) (by decide)]; exact p4, by rw [h1 7 (by decide) (by decide) (by decide) (by decide)]; exact p5, by rw [h1 8 (by decide) (by decide) (by decide) (by decide)]; exact p6, by rw [h1 9 (by decide) (by decide) (by decide) (by decide)]; exact p7, by rw [h1 11 (by decide) (by decide) (by decide) (by decide)]; exact p8, fun j x y => by rw [h2]; exact p9 j x y⟩
theorem lPar_4 (h : (pparams tk a).1 = 0) : 0 ≤ lPar tk a := by
  have n : ∀ (f : Nat) (a : Int), 0 ≤ nPar tk f a := fun f => by
    induction f with
    | zero => intro a; exact Int.le_refl _
    | succ f ih => intro a; unfold nPar; split; have := ih (a + 3); omega; omega
  unfold lPar
  split
  · omega
  · exact n _ _
theorem MemP_M (h : MemP tk cd m a G) : MmP tk cd m a G ∧ G m 6 = 0 ∧ G m 14 = -1 := by
  obtain ⟨h5, h6, h14, h15, hs, hn⟩ := h
  refine ⟨⟨?_, h5, h15, fun z => (hs z).2.1, fun z => ?_⟩, h6, h14⟩
  · unfold mKd
    by_cases z : tk a = 23
    · rw [if_pos z]; exact (hs z).1
    · rw [if_neg z]
      obtain ⟨n1, n2, n3⟩ := hn z
      by_cases y : tk (mB0 tk a) = 25
      · rw [if_pos y]; exact (n2 y).1
      · rw [if_neg y]
        obtain ⟨x2, x3, x4, G1, w0, w9, wp, T⟩ := n3 y
        rw [T.2.2.2.1, w0]
  · obtain ⟨n1, n2, n3⟩ := hn z
    by_cases y : tk (mB0 tk a) = 25
    · obtain ⟨y0, y2, y3, y4, y7, y8, y11, y9, yp, yq⟩ := n2 y
      have e : mC0 tk a = mB0 tk a := by
        unfold mC0 popt
        rw [if_neg (by omega)]
      have ep : mPa tk a = mB0 tk a + 1 := if_pos y
      have ec : mCt tk a = lPar tk (mB0 tk a + 1) := by unfold mCt; rw [if_pos (Or.inr y), ep]
      refine ⟨n1, ?_, ?_, ?_, ?_, ?_, ?_, ?_, fun j u v => ?_⟩
      · rw [y2]; unfold b01; rw [if_neg (by omega)]
      · rw [y3, e]; unfold b01; rw [if_neg (by omega)]
      · rw [y4, e]; unfold b01; rw [if_neg (by omega)]
      · unfold mNm; rw [if_pos y]; exact y7
      · unfold mTy; rw [if_pos y]; exact y8
      · rw [ec]; exact y9
      · unfold mTk; rw [if_pos y]; exact y11
      · unfold mPr
        rw [ec, ep]
        by_cases x : j < lPar tk (mB0 tk a + 1)
        · rw [if_pos x]; exact yp j u x
        · rw [if_neg x]; exact yq j (by omega) u v
    · obtain ⟨x2, x3, x4, G1, w0, w9, wp, t8, t11, t7, t0, t12, tp, tq, tr⟩ := n3 y
      have ep : mPa tk a = tMember tk a + 2 := if_neg y
      refine ⟨n1, x2, x3, x4, ?_, ?_, ?_, ?_, fun j u v => ?_⟩
      · unfold mNm; rw [if_neg y]; exact t7
      · unfold mTy; rw [if_neg y]; exact t8
      · unfold mCt
        rw [ep]
        by_cases x : tk (tMember tk a + 2) = 140
        · rw [if_pos (Or.inl x)]; exact (tp x).1
        · rw [if_neg (by omega)]; exact ((tq x).1).trans w9
      · unfold mTk; rw [if_neg y]; exact t11
      · unfold mPr mCt
        rw [ep]
        by_cases x : tk (tMember tk a + 2) = 140
        · rw [if_pos (Or.inl x)]
          obtain ⟨u1, u2, u3⟩ := tp x
          by_cases w : j < lPar tk (tMember tk a + 2)
          · rw [if_pos w]; exact u2 j u w
          · rw [if_neg w, u3 j (by omega)]; exact wp j u v
        · rw [if_neg (show ¬ (tk (tMember tk a + 2) = 140 ∨ tk (mB0 tk a) = 25) by omega), if_neg (by omega), (tq x).2]; exact wp j u v
-- a head's cells by its tokens, told again
def RwP (tk cd : Int → Int) (r a : Int) (G : gS) : Prop := G r 1 = cd (hC0 tk a + 1) ∧ G r 2 = hC0 tk a + 1 ∧ G r 3 = b01 (tk a = 17) ∧ G r 4 = b01 (tk (hC0 tk a) = 11 ∧ tk (hB0 tk a) = 11) ∧ G r 5 = b01 (tk (hB0 tk a) = 20) ∧ G r 6 = b01 (tk (hB0 tk a) = 21) ∧ G r 18 = -1 ∧ G r 7 = (if tk (hC0 tk a + 2) = 13 then 1 else 0) ∧ G r 8 = (if tk (hC0 tk a + 2) = 13 then cd (hC0 tk a + 3) else -4031174665287237632) ∧ G r 9 = (if tk (qa2 tk (hC0 tk a + 2)) = 14 then cd (qa2 tk (hC0 tk a + 2) + 1) else -4) ∧ LS3 cd r 0 (lLst tk 12 (qa1 tk (hC0 tk a + 2))) (qa1 tk (hC0 tk a + 2)) G ∧ LS3 cd r 1 (lLst tk 15 (qa3 tk (hC0 tk a + 2))) (qa3 tk (hC0 tk a + 2)) G ∧ LS3 cd r 2 (lLst tk 16 (qa4 tk (hC0 tk a + 2))) (qa4 tk (hC0 tk a + 2)) G
theorem HdP_R (h : HdP tk cd b k a G) : RwP tk cd (rw_ b k) a G ∧ G (bd b) 3 = k + 1 ∧ G (rw_ b k) 13 = 0 ∧ G (rw_ b k) 15 = 0 := by
  obtain ⟨h3, r1, r2, r3, r4, r5, r6, r13, r15, r18, G1, g8, g9, p7, p8, p9, pa, pw, po, pf⟩ := h
  rw [show hC0 tk a + 1 + 1 = hC0 tk a + 2 by omega] at p7 p8 p9 pa pw po
  rw [show hC0 tk a + 2 + 1 = hC0 tk a + 3 by omega] at p8
  rw [g8] at p8
  rw [g9] at p9
  exact ⟨⟨r1, r2, r3, r4, r5, r6, r18, p7, p8, p9, pa, pw, po⟩, h3, r13, r15⟩
theorem LS3_F {r w n e : Int} (h : LS3 cd r w n e G) (h1 : ∀ j, G' (r + 1) j = G (r + 1) j) (h2 : ∀ j, G' (r + 2) j = G (r + 2) j) : LS3 cd r w n e G' := ⟨by rw [h2]; exact h.1, fun j x y => by rw [h1]; exact h.2 j x y⟩
theorem RwP_F {r : Int} (h : RwP tk cd r a G) (h0 : ∀ j, j ≠ 13 → j ≠ 15 → G' r j = G r j) (h1 : ∀ j, G' (r + 1) j = G (r + 1) j) (h2 : ∀ j, G' (r + 2) j = G (r + 2) j) : RwP tk cd r a G' := by
  obtain ⟨r1, r2, r3, r4, r5, r6, r18, p7, p8, p9, pa, pw, po⟩ := h
  exact ⟨by rw [h0 _ (by decide) (by decide)]; exact r1, by rw [h0 _ (by decide) (by decide)]; exact r2, by rw [h0 _ (by decide) (by decide)]; exact r3, by rw [h0 _ (by decide) (by decide)]; exact r4, by rw [h0 _ (by decide) (by decide)]; exact r5, by rw [h0 _ (by decide) (by decide)]; exact r6, by rw [h0 _ (by decide) (by decide)]; exact r18, by rw [h0 _ (by decide) (by decide)]; exact p7, by rw [h0 _ (by decide) (by decide)]; exact p8, by rw [h0 _ (by decide) (by decide)]; exact p9, LS3_F pa h1 h2, LS3_F pw h1 h2, LS3_F po h1 h2⟩
-- a body kept
theorem BdT_F (h : BdT tk cd m k a lo hi G) (h1 : ∀ j, (j = 6 ∨ j = 12 ∨ j = 13 ∨ j = 14) → G' m j = G m j) (h2 : ∀ k j, 14 + lo ≤ k → k < 14 + hi → G' k j = G k j) : BdT tk cd m k a lo hi G' := by
  obtain ⟨b6, b12, b13, bn, bB, bE⟩ := h
  obtain ⟨-, c1, c2⟩ := cSB_ok tk cd 12
  obtain ⟨⟨e1, e2⟩, -⟩ := cEU_ok tk cd 12
  have e14 := h1 14 (by omega)
  have hn : ∃ x, G m 14 = 14 + x ∧ lo ≤ x ∧ x < hi := by
    by_cases q : k = 223
    · exact c1 _ _ _ _ _ (bB q)
    · exact e1 _ _ _ _ _ (bE q)
  obtain ⟨x, ex, x1, x2⟩ := hn
  exact ⟨by rw [h1 6 (by omega)]; exact b6, by rw [h1 12 (by omega)]; exact b12, by rw [h1 13 (by omega)]; exact b13, by rw [e14, h2 _ _ (by omega) (by omega)]; exact bn, fun q => by rw [e14]; exact c2 _ _ _ _ _ _ (bB q) (fun k' j y1 y2 _ => h2 k' j y1 y2), fun q => by rw [e14]; exact e2 _ _ _ _ _ _ (bE q) (fun k' j y1 y2 _ => h2 k' j y1 y2)⟩
def ItB (tk cd : Int → Int) (m j a i : Int) (G : gS) : Prop := (kMember tk a = 0 → G m 6 = 0 ∧ G m 14 = -1) ∧ (kMember tk a ≠ 0 → ∃ lo hi, 0 ≤ lo ∧ hi ≤ i ∧ BdT tk cd m (kMember tk a) (pmember tk j a).2 lo hi G)
theorem ItB_F {j i' : Int} (h : ItB tk cd m j a i G) (hi : i ≤ i') (h1 : ∀ j, (j = 6 ∨ j = 12 ∨ j = 13 ∨ j = 14) → G' m j = G m j) (h2 : ∀ k j, 14 ≤ k → k < 14 + i → G' k j = G k j) : ItB tk cd m j a i' G' := ⟨fun z => by rw [h1 6 (by omega), h1 14 (by omega)]; exact h.1 z, fun z => by
  obtain ⟨lo, hi', q1, q2, q3⟩ := h.2 z
  exact ⟨lo, hi', q1, by omega, BdT_F q3 h1 (fun k j x y => h2 k j (by omega) (by omega))⟩⟩
-- where things stand in a text
def aIt (tk : Int → Int) (h : Int) : Nat → Int
  | 0 => h
  | j + 1 => (pitem tk j (aIt tk h j)).2
def nItL (tk : Int → Int) : Nat → Int → Int → Nat
  | 0, _, _ => 0
  | f + 1, k, a => if tk a = 225 then 0 else nItL tk f (k + 1) (pitem tk k a).2 + 1
def nIt (tk : Int → Int) (h : Int) : Nat := nItL tk 22 0 h
def cM (tk : Int → Int) (h : Int) : Nat → Int
  | 0 => 0
  | j + 1 => cM tk h j + (if tk (aIt tk h j) = 23 then 0 else 1)
def hIt (tk : Int → Int) (k a : Int) : Int := (phead tk 12 k a).2
def aCl (tk : Int → Int) : Nat → Int
  | 0 => 0
  | k + 1 => (pitems tk 22 0 (hIt tk k (aCl tk k))).2
def n0 (tk : Int → Int) : Nat → Int
  | 0 => 0
  | k + 1 => n0 tk k + nIt tk (hIt tk k (aCl tk k))
theorem cM_b (tk : Int → Int) (h : Int) : ∀ j : Nat, 0 ≤ cM tk h j ∧ cM tk h j ≤ j
  | 0 => ⟨Int.le_refl _, Int.le_refl _⟩
  | j + 1 => by
    have := cM_b tk h j
    unfold cM
    split <;> omega
theorem cM_mono (tk : Int → Int) (h : Int) {j : Nat} : ∀ n : Nat, j ≤ n → cM tk h j ≤ cM tk h n
  | 0, q => by rw [show j = 0 by omega]; exact Int.le_refl _
  | n + 1, q => by
    by_cases e : j = n + 1
    · rw [e]; exact Int.le_refl _
    · have := cM_mono tk h (j := j) n (by omega)
      show cM tk h j ≤ cM tk h n + _
      split <;> omega
theorem n0_mono (tk : Int → Int) {j : Nat} : ∀ n : Nat, j ≤ n → n0 tk j ≤ n0 tk n
  | 0, q => by rw [show j = 0 by omega]; exact Int.le_refl _
  | n + 1, q => by
    by_cases e : j = n + 1
    · rw [e]; exact Int.le_refl _
    · have := n0_mono tk (j := j) n (by omega)
      show n0 tk j ≤ n0 tk n + _
      omega
theorem n0_0 (tk : Int → Int) (n : Nat) : 0 ≤ n0 tk n := n0_mono tk (j := 0) n (by omega)
/-- the first N items of a class are read: into its items, its members, the pool from n on -/
def ItP (tk cd : Int → Int) (b r n h i : Int) (N : Nat) (G : gS) : Prop := ∀ j : Nat, j < N → G (r + 3) j = mb b (n + j) ∧ MmP tk cd (mb b (n + j)) (aIt tk h j) G ∧ ItB tk cd (mb b (n + j)) j (aIt tk h j) i G ∧ (tk (aIt tk h j) ≠ 23 → G (r + 4) (cM tk h j) = mb b (n + j))
theorem ItP_F {r n h i' : Int} {N : Nat} (q : ItP tk cd b r n h i N G) (hi : i ≤ i') (h3 : ∀ j, 0 ≤ j → j < (N : Int) → G' (r + 3) j = G (r + 3) j) (h4 : ∀ j, 0 ≤ j → j < cM tk h N → G' (r + 4) j = G (r + 4) j) (hm : ∀ c j, mb b n ≤ c → c < mb b (n + N) → G' c j = G c j) (hk : ∀ k j, 14 ≤ k → k < 14 + i → G' k j = G k j) : ItP tk cd b r n h i' N G' := fun j x => by
  obtain ⟨q1, q2, q3, q4⟩ := q j x
  have e1 : mb b n ≤ mb b (n + j) := by unfold mb; omega
  have e2 : mb b (n + j) + 1 < mb b (n + N) := by unfold mb; omega
  refine ⟨by rw [h3 _ (by omega) (by omega)]; exact q1, MmP_F q2 (fun j' _ _ _ _ => hm _ _ e1 (by omega)) (fun j' => hm _ _ (by omega) e2), ItB_F q3 hi (fun j' _ => hm _ _ e1 (by omega)) hk, fun z => ?_⟩
  have c1 := cM_b tk h j
  have c2 := cM_mono tk h (j := j + 1) N (by omega)
  have c3 : cM tk h (j + 1) = cM tk h j + 1 := by
    show cM tk h j + (if tk (aIt tk h j) = 23 then 0 else 1) = _
    rw [if_neg z]
  rw [h4 _ c1.1 (by omega)]
  exact q4 z
/-- a class is read -/
def ClP (tk cd : Int → Int) (b : Int) (k : Nat) (i : Int) (G : gS) : Prop := RwP tk cd (rw_ b k) (aCl tk k) G ∧ G (rw_ b k) 13 = nIt tk (hIt tk k (aCl tk k)) ∧ G (rw_ b k) 15 = cM tk (hIt tk k (aCl tk k)) (nIt tk (hIt tk k (aCl tk k))) ∧ nIt tk (hIt tk k (aCl tk k)) ≤ 20 ∧ ItP tk cd b (rw_ b k) (n0 tk k) (hIt tk k (aCl tk k)) i (nIt tk (hIt tk k (aCl tk k))) G
def AllC (tk cd : Int → Int) (b : Int) (K : Nat) (i : Int) (G : gS) : Prop := ∀ k : Nat, k < K → ClP tk cd b k i G
theorem AllC_F {K : Nat} {i' : Int} (h : AllC tk cd b K i G) (hi : i ≤ i') (h1 : ∀ c j, rw_ b 0 ≤ c → c < rw_ b K → G' c j = G c j) (h2 : ∀ c j, mb b 0 ≤ c → c < mb b (n0 tk K) → G' c j = G c j) (h3 : ∀ k j, 14 ≤ k → k < 14 + i → G' k j = G k j) : AllC tk cd b K i' G' := fun k hk => by
  obtain ⟨q1, q2, q3, q4, q5⟩ := h k hk
  have e1 : rw_ b 0 ≤ rw_ b k := by unfold rw_; omega
  have e2 : rw_ b k + 4 < rw_ b K := by unfold rw_; omega
  have e3 := n0_0 tk k
  have e4 := n0_mono tk (j := k + 1) K (by omega)
  have e5 : n0 tk (k + 1) = n0 tk k + nIt tk (hIt tk k (aCl tk k)) := rfl
  have w : ∀ c j, rw_ b k ≤ c → c ≤ rw_ b k + 4 → G' c j = G c j := fun c j x y => h1 c j (by omega) (by omega)
  refine ⟨RwP_F q1 (fun j _ _ => w _ _ (by omega) (by omega)) (fun j => w _ _ (by omega) (by omega)) (fun j => w _ _ (by omega) (by omega)), by rw [w _ _ (by omega) (by omega)]; exact q2, by rw [w _ _ (by omega) (by omega)]; exact q3, q4, ItP_F q5 hi (fun j _ _ => w _ _ (by omega) (by omega)) (fun j _ _ => w _ _ (by omega) (by omega)) (fun c j x y => h2 c j ?_ ?_) h3⟩
  · unfold mb at *; omega
  · unfold mb at *; omega
end CB2

section CH10
variable {tk cd : Int → Int} {c a b k n : Int} {G0 G : gS}
def xMbr (b k n : Int) (c j : Int) : Prop := xTyp (mb b n) c j ∨ (c = bd b ∧ j = 5) ∨ (c = rw_ b k ∧ (j = 13 ∨ j = 15)) ∨ c = rw_ b k + 3 ∨ c = rw_ b k + 4
theorem xMbr_T (hb : 0 ≤ b) (hk : 0 ≤ k) (hn : 0 ≤ n) : XT (xMbr b k n) := ⟨fun _ _ h => Or.inl (Or.inl (Or.inl h)), by unfold xMbr xTyp xMem xAt bd rw_ mb; omega, fun _ => by unfold xMbr xTyp xMem xAt bd rw_ mb; omega, fun _ => by unfold xMbr xTyp xMem xAt bd rw_ mb; omega⟩
-- where a MEMBER's words stand
def mB0 (tk : Int → Int) (a : Int) : Int := (paccess tk a).2
def mC0 (tk : Int → Int) (a : Int) : Int := (popt tk 22 (mB0 tk a)).2
def mAcc (tk : Int → Int) (a : Int) : Int := if tk a = 17 then 3 else if tk a = 18 then 2 else if tk a = 19 then 0 else 1
-- a member's cells by its tokens
def MemP (tk cd : Int → Int) (m a : Int) (G' : gS) : Prop := G' m 5 = 0 ∧ G' m 6 = 0 ∧ G' m 14 = -1 ∧ G' m 15 = 0 ∧
  (tk a = 23 → G' m 0 = 3 ∧ G' m 11 = a ∧ G' m 9 = 0) ∧
  (tk a ≠ 23 → G' m 1 = mAcc tk a ∧
    (tk (mB0 tk a) = 25 → G' m 0 = 2 ∧ G' m 2 = 0 ∧ G' m 3 = 0 ∧ G' m 4 = 0 ∧ G' m 7 = -4 ∧ G' m 8 = -3 ∧ G' m 11 = mB0 tk a ∧ G' m 9 = lPar tk (mB0 tk a + 1) ∧ (∀ j, 0 ≤ j → j < lPar tk (mB0 tk a + 1) → G' (m + 1) j = cType tk cd (mB0 tk a + 1 + 1 + 3 * j)) ∧ ∀ j, lPar tk (mB0 tk a + 1) ≤ j → 0 ≤ j → j < 4 → G' (m + 1) j = -4) ∧
    (tk (mB0 tk a) ≠ 25 → G' m 2 = b01 (tk (mB0 tk a) = 22) ∧ G' m 3 = b01 (tk (mC0 tk a) = 20) ∧ G' m 4 = b01 (tk (mC0 tk a) = 21) ∧ ∃ G1, G1 m 0 = 0 ∧ G1 m 9 = 0 ∧ (∀ j, 0 ≤ j → j < 4 → G1 (m + 1) j = -4) ∧ TyP tk cd m (tMember tk a) G1 G'))
def MbP (tk cd : Int → Int) (b k n it mc a : Int) (G G' : gS) : Prop := G' (bd b) 5 = n + 1 ∧ G' (rw_ b k) 13 = it + 1 ∧ G' (rw_ b k + 3) it = mb b n ∧ (∀ j, j ≠ it → G' (rw_ b k + 3) j = G (rw_ b k + 3) j) ∧
  (tk a = 23 → G' (rw_ b k) 15 = mc ∧ ∀ j, G' (rw_ b k + 4) j = G (rw_ b k + 4) j) ∧
  (tk a ≠ 23 → G' (rw_ b k) 15 = mc + 1 ∧ G' (rw_ b k + 4) mc = mb b n ∧ ∀ j, j ≠ mc → G' (rw_ b k + 4) j = G (rw_ b k + 4) j) ∧ G' 7 12 = kMember tk a ∧ MemP tk cd (mb b n) a G'
theorem hTypX {X : Int → Int → Prop} {m : Int} {A B : gS → Prop} (hX : XT X) (sub : ∀ c j, xTyp m c j → X c j) (hm : isO W0 7 m) (hm1 : isA W0 1 4 (m + 1)) (hm9 : 985 ≤ m) (hs : HS X G0 G tk cd c a) (h9 : G m 9 = 0) (h12 : G 7 12 = 223) (h1 : ∀ G', (ptyped tk a).1 = 0 → HS X G0 G' tk cd c (ptyped tk a).2 → a ≤ (ptyped tk a).2 → FR (xTyp m) G G' → TyP tk cd m a G G' → B G') (h2 : ∀ G', (ptyped tk a).1 ≠ 0 → HB X G0 G' (ptyped tk a) → A G') : PX9_readTyped m G (fun v G' => (0 ≤ v ∧ v ≤ 1) → ((v = 0 → A G') ∧ (¬ (v = 0) → B G'))) := by
  refine typed_ok hm hm1 hm9 ⟨hs.1, FR_id⟩ h9 h12 (fun v G' h => ?_)
  obtain ⟨⟨f', g, k⟩, h4, h5⟩ := h
  have f := FR_mono sub f'
  by_cases e : (ptyped tk a).1 = 0
  · have ev := h5 e
    subst ev
    obtain ⟨q1, q2, q3, q4, q5, q6⟩ := k e
    obtain ⟨⟨p1, p2, p3, p4, p5, p6, p7⟩, f0⟩ := hs
    exact fun _ => ⟨fun z => absurd z (by decide), fun _ => h1 G' e ⟨⟨PT_FR p1 f hX, q2, q1, by omega, q4, q5, CD_FR p7 f hX⟩, FR_tr f0 f⟩ q3 f' q6⟩
  · have ev := h4 e
    subst ev
    have g' := g e
    exact fun _ => ⟨fun _ => h2 G' e ⟨FR_tr hs.2 f, g'.1, g'.2, e⟩, fun z => absurd rfl z⟩
theorem HS_move {X : Int → Int → Prop} {G1 : gS} (h : HS X G0 G tk cd c a) (f : FR X G G1) (hX : XT X) (h8 : G1 7 8 = G 7 8) (h9 : G1 7 9 = G 7 9) : HS X G0 G1 tk cd c a := by
  obtain ⟨⟨p1, p2, p3, p4, p5, p6, p7⟩, f0⟩ := h
  exact ⟨⟨PT_FR p1 f hX, h8.trans p2, h9.trans p3, p4, p5, p6, CD_FR p7 f hX⟩, FR_tr f0 f⟩
end CH10

section SP2
-- THE PICTURE, 2: which tokens make a head, a MEMBER, a text
variable (tk : Int → Int)
def popt (w a : Int) : RR := if tk a = w then ptake a else (0, a)
-- is C, in C
def pname1 (w a : Int) : RR := if tk a = w then pb (ptake a) fun b => if tk b = 2 then ptake b else pmiss tk b else (0, a)
-- as C, C ..: k of them stand before
def plistL (most : Int) : Nat → Int → Int → RR
  | 0, _, a => (9, a)
  | f + 1, k, a => pb (ptake a) fun b => if tk b = 2 then (if k < most then pb (ptake b) fun c => if tk c = 144 then plistL most f (k + 1) c else (0, c) else (3, b)) else pmiss tk b
def plist (w most a : Int) : RR := if tk a = w then plistL tk most 702 0 a else (0, a)
def pparents (a : Int) : RR := pb (pname1 tk 13 a) fun b => pb (plist tk 12 4 b) fun c => pb (pname1 tk 14 c) fun d => pb (plist tk 15 8 d) (plist tk 16 8)
-- a head; k classes stand before, most is all that the build has room for
def pfb (a : Int) : RR := if tk a = 20 ∨ tk a = 21 then ptake a else (0, a)
def phead (most k a : Int) : RR := pb (popt tk 17 a) fun b => pb (pfb tk b) fun c => if (tk c = 11 ∧ tk b = 11) ∨ tk c = 10 then pb (ptake c) fun d => if tk d = 2 then (if k < most then pb (ptake d) fun e => pb (pparents tk e) (pneed tk 223) else (3, d)) else pmiss tk d else pmiss tk c
-- PARAMS with their ( )
def pparamsL : Nat → Int → Int → RR
  | 0, _, a => (9, a)
  | f + 1, k, a => if tk a = 26 ∨ tk a = 2 then (if k < 4 then pb (ptake a) fun b => pb (pneed tk 3 b) fun c => if tk c = 144 then pb (ptake c) (pparamsL f (k + 1)) else pneed tk 141 c else (3, a)) else pmiss tk a
def pparams (a : Int) : RR := pb (pneed tk 140 a) fun b => if tk b = 141 then ptake b else pparamsL tk 6 0 b
-- from its type on, and what stands behind it then: its BLOCK, its = or nothing
def ptyped (a : Int) : RR := if tk a = 24 ∨ tk a = 26 ∨ tk a = 2 then pb (ptake a) fun b => pb (pneed tk 3 b) fun c =>
    if tk c = 140 then pb (pparams tk c) fun d => if tk d = 223 then (0, d) else pneed tk 159 d
    else if tk a = 24 then pmiss tk c
    else if tk c = 161 then ptake c
    else pneed tk 159 c
  else pmiss tk a
def kTyped (a : Int) : Int := if tk (a + 2) = 140 then (if tk (pparams tk (a + 2)).2 = 223 then 223 else 0) else if tk (a + 2) = 161 then 161 else 0
def paccess (a : Int) : RR := if 17 ≤ tk a ∧ tk a ≤ 19 then ptake a else (0, a)
def pmember (k a : Int) : RR := if tk a = 2 ∨ (17 ≤ tk a ∧ tk a ≤ 26) then (if k < 20 then (if tk a = 23 then ptake a else pb (paccess tk a) fun b => if tk b = 25 then pb (ptake b) (pparams tk) else pb (popt tk 22 b) fun c => pb (pfb tk c) (ptyped tk)) else (3, a)) else pmiss tk a
-- where its type stands
def tMember (a : Int) : Int := (pfb tk (popt tk 22 (paccess tk a).2).2).2
def kMember (a : Int) : Int := if tk a = 23 ∨ tk (paccess tk a).2 = 25 then 223 else kTyped tk (tMember tk a)
def pbody (k a : Int) : RR := if k = 223 then pB tk 12 a else pb (pE tk 12 a) (pneed tk 159)
def pitem (k a : Int) : RR := pb (pmember tk k a) fun b => if kMember tk a = 0 then (0, b) else pbody tk (kMember tk a) b
def pitems : Nat → Int → Int → RR
  | 0, _, a => (9, a)
  | f + 1, k, a => if tk a = 225 then ptake a else pb (pitem tk k a) (pitems f (k + 1))
def pclasses (most : Int) : Nat → Int → Int → RR
  | 0, _, a => (9, a)
  | f + 1, k, a => if tk a = 0 then (0, a) else pb (phead tk most k a) fun b => pb (pitems tk 22 0 b) (pclasses most f (k + 1))
/-- a text: its FAULT, or its end -/
def ptext (most : Int) : RR := pclasses tk most 702 0 0
-- where things stand in a head and a MEMBER that are right
def nLst : Nat → Int → Int
  | 0, _ => 0
  | f + 1, a => if tk (a + 2) = 144 then 1 + nLst f (a + 2) else 1
def lLst (w a : Int) : Int := if tk a = w then nLst tk 702 a else 0
def nPar : Nat → Int → Int
  | 0, _ => 0
  | f + 1, a => if tk (a + 2) = 144 then 1 + nPar f (a + 3) else 1
def lPar (a : Int) : Int := if tk (a + 1) = 141 then 0 else nPar tk 6 (a + 1)
end SP2
section CH1
-- the class's reader of heads: no nodes yet
def HP (G : gS) (tk cd : Int → Int) (c a : Int) : Prop := PT G tk c ∧ G 7 8 = a ∧ G 7 9 = 0 ∧ 0 ≤ a ∧ a ≤ 700 ∧ a ≤ c ∧ CD G cd
-- all that changes is of X
def FR (X : Int → Int → Prop) (G G' : gS) : Prop := ∀ c j, ¬ X c j → G' c j = G c j
def xAt (c j : Int) : Prop := c = 7 ∧ (j = 8 ∨ j = 9 ∨ j = 10)
-- cells that the tokens don't stand in
def XT (X : Int → Int → Prop) : Prop := (∀ c j, xAt c j → X c j) ∧ ¬ X 7 5 ∧ (∀ j, ¬ X 9 j) ∧ ∀ j, ¬ X 12 j
def PsH (X : Int → Int → Prop) (G G' : gS) (c a : Int) (r : RR) (P : gS → Prop) : Prop := FR X G G' ∧ (r.1 ≠ 0 → G' 7 9 = r.1 ∧ AT G' r.2) ∧ (r.1 = 0 → G' 7 9 = 0 ∧ G' 7 8 = r.2 ∧ a ≤ r.2 ∧ r.2 ≤ 700 ∧ r.2 ≤ c ∧ P G')
variable {tk cd : Int → Int} {c a : Int} {G G1 G2 : gS} {X : Int → Int → Prop}
theorem FR_id : FR X G G := fun _ _ _ => rfl
theorem FR_tr (h : FR X G G1) (h' : FR X G1 G2) : FR X G G2 := fun c j x => (h' c j x).trans (h c j x)
theorem FR_up {k j v : Int} (h : FR X G G1) (hX : X k j) : FR X G (uG G1 k j v) := fun c' j' x => by
  rw [uG_ne (by
    by_cases e : c' = k
    · refine Or.inr (fun e2 => x ?_)
      subst e e2; exact hX
    · exact Or.inl e)]
  exact h c' j' x
theorem PT_FR (h : PT G tk c) (hf : FR X G G1) (hX : XT X) : PT G1 tk c := ⟨by rw [hf _ _ hX.2.1]; exact h.1, h.2.1, h.2.2.1, fun a x y => by rw [hf _ _ (hX.2.2.1 a)]; exact h.2.2.2.1 a x y, h.2.2.2.2⟩
theorem CD_FR (h : CD G cd) (hf : FR X G G1) (hX : XT X) : CD G1 cd := fun a x y => by rw [hf _ _ (hX.2.2.2 a)]; exact h a x y
-- within a head that began with G0: no FAULT yet
def HS (X : Int → Int → Prop) (G0 G : gS) (tk cd : Int → Int) (c a : Int) : Prop := HP G tk cd c a ∧ FR X G0 G
variable {G0 : gS}
theorem HS_st {k j v : Int} (h : HS X G0 G tk cd c a) (hX : X k j) (hk : k ≠ 7 ∧ k ≠ 9 ∧ k ≠ 12) : HS X G0 (uG G k j v) tk cd c a := by
  obtain ⟨⟨p1, p2, p3, p4, p5, p6, p7⟩, f⟩ := h
  refine ⟨⟨⟨by rw [uG_c (by omega)]; exact p1.1, p1.2.1, p1.2.2.1, fun a x y => by rw [uG_c (by omega)]; exact p1.2.2.2.1 a x y, p1.2.2.2.2⟩, by rw [uG_c (by omega)]; exact p2, by rw [uG_c (by omega)]; exact p3, p4, p5, p6, fun a x y => by rw [uG_c (by omega)]; exact p7 a x y⟩, FR_up f hX⟩
theorem HS_tk (h : HS X G0 G tk cd c a) (hX : XT X) (h1 : a < 700) (ht : tk a ≠ 0) : HS X G0 (uG G 7 8 (a + 1)) tk cd c (a + 1) := by
  obtain ⟨⟨p1, p2, p3, p4, p5, p6, p7⟩, f⟩ := h
  have := PT_lt p1 ht
  have f1 : FR X G (uG G 7 8 (a + 1)) := FR_up FR_id (hX.1 _ _ ⟨rfl, Or.inl rfl⟩)
  exact ⟨⟨PT_FR p1 f1 hX, uG_at _ _ _ _, by rw [uG_j (by decide)]; exact p3, by omega, by omega, by omega, CD_FR p7 f1 hX⟩, FR_tr f f1⟩
-- behind a FAULT
def HB (X : Int → Int → Prop) (G0 G1 : gS) (r : RR) : Prop := FR X G0 G1 ∧ G1 7 9 = r.1 ∧ AT G1 r.2 ∧ r.1 ≠ 0
theorem HB_fl {m x : Int} {r : RR} (h : HS X G0 G tk cd c a) (hX : XT X) (hm : m ≠ 0) (hr : r = (m, x)) : HB X G0 (fG G m x) r := by
  subst hr
  exact ⟨FR_up (FR_up (FR_up h.2 (hX.1 _ _ ⟨rfl, Or.inl rfl⟩)) (hX.1 _ _ ⟨rfl, Or.inr (Or.inl rfl)⟩)) (hX.1 _ _ ⟨rfl, Or.inr (Or.inr rfl)⟩), (fG_at _ _ _).1, (fG_at _ _ _).2, hm⟩
theorem HB_P {r : RR} {P : gS → Prop} {a0 : Int} (h : HB X G0 G1 r) : PsH X G0 G1 c a0 r P := ⟨h.1, fun _ => ⟨h.2.1, h.2.2.1⟩, fun z => absurd z h.2.2.2⟩
theorem HB_f {r : RR} (h : HB X G0 G1 r) {P : Prop} (z : G1 7 9 = 0) : P := absurd (h.2.1.symm.trans z) h.2.2.2
theorem HS_end {b a0 : Int} {r0 : RR} {P : gS → Prop} (h : HS X G0 G1 tk cd c b) (hr : r0 = (0, b)) (hab : a0 ≤ b) (hP : P G1) : PsH X G0 G1 c a0 r0 P := by
  subst hr
  obtain ⟨⟨p1, p2, p3, p4, p5, p6, p7⟩, f⟩ := h
  exact ⟨f, fun z => absurd rfl z, fun _ => ⟨p3, p2, hab, p5, p6, hP⟩⟩
theorem hNow {Q : Int → gS → Prop} (h : HS X G0 G tk cd c a) (hQ : Q (tk a) G) : PX9_now G Q := by
  obtain ⟨⟨p1, p2, p3, p4, p5, p6, -⟩, -⟩ := h
  exact sX9_now p1 p2 p4 (by omega) hQ
theorem hNeed {A B : gS → Prop} {w : Int} (h : HS X G0 G tk cd c a) (hX : XT X) (hw : w ≠ 0) (h1 : pneed tk w a = (0, a + 1) → tk a = w → a < 700 → HS X G0 (uG G 7 8 (a + 1)) tk cd c (a + 1) → B (uG G 7 8 (a + 1))) (h2 : ∀ m, m ≠ 0 → pneed tk w a = (m, a) → A (fG G m a)) : PX9_need w G (fun r G1 => (0 ≤ r ∧ r ≤ 1) → ((r = 0 → A G1) ∧ (¬ (r = 0) → B G1))) := by
  have h' := h
  obtain ⟨⟨p1, p2, p3, p4, p5, p6, -⟩, -⟩ := h
  exact sX9_need p1 p2 p3 p4 (by omega) hw (fun x y z => fun _ => ⟨fun u => absurd u (by decide), fun _ => h1 x z y (HS_tk h' hX y (by omega))⟩) (fun m x y => fun _ => ⟨fun _ => h2 m x y, fun u => absurd rfl u⟩)
theorem hTake {A B : gS → Prop} (h : HS X G0 G tk cd c a) (hX : XT X) (ht : tk a ≠ 0) (h1 : ptake a = (0, a + 1) → a < 700 → HS X G0 (uG G 7 8 (a + 1)) tk cd c (a + 1) → B (uG G 7 8 (a + 1))) (h2 : ptake a = (3, a) → A (fG G 3 a)) : PX9_take G (fun r G1 => (0 ≤ r ∧ r ≤ 1) → ((r = 0 → A G1) ∧ (¬ (r = 0) → B G1))) := by
  have h' := h
  obtain ⟨⟨p1, p2, p3, p4, p5, p6, -⟩, -⟩ := h
  exact sX9_take p2 p3 p4 (fun x y => fun _ => ⟨fun u => absurd u (by decide), fun _ => h1 x y (HS_tk h' hX y ht)⟩) (fun x => fun _ => ⟨fun _ => h2 x, fun u => absurd rfl u⟩)
theorem hMiss {Q : Int → gS → Prop} (h : HS X G0 G tk cd c a) (hX : XT X) {r : RR} (hr : r = pmiss tk a) (hQ : ∀ G', HB X G0 G' r → Q 0 G') : PX9_miss G Q := by
  have h' := h
  obtain ⟨⟨p1, p2, p3, p4, p5, p6, -⟩, -⟩ := h
  exact sX9_miss p1 p2 p3 p4 (by omega) (hQ _ (HB_fl h' hX (pmiss_ne (tk := tk) a) (by rw [hr]; rfl)))
theorem hStop {Q : Int → gS → Prop} {m : Int} (h : HS X G0 G tk cd c a) (hX : XT X) {r : RR} (hm : m ≠ 0) (hr : r = (m, a)) (hQ : ∀ G', HB X G0 G' r → Q 0 G') : PX9_stop m G Q := by
  have h' := h
  obtain ⟨⟨p1, p2, p3, p4, p5, p6, -⟩, -⟩ := h
  exact sX9_stop p2 p4 p3 (hQ _ (HB_fl h' hX hm hr))
-- a FAULT stands: miss() keeps it
theorem hMiss_on {Q : Int → gS → Prop} {r : RR} (h : HB X G0 G1 r) (hQ : Q 0 G1) : PX9_miss G1 Q := by
  unfold PX9_miss PX9_miss_0
  exact fun _ => ⟨fun z => HB_f h z, fun _ => hQ⟩
end CH1

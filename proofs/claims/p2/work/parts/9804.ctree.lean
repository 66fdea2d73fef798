section CT1
-- trees of the class's reader: nodes lo to hi stand for the tokens from a on. T: of E's; C: of a CAST's UNIT
abbrev TT : Type := Int → Int → Int → Int → gS → Prop
variable (tk cd : Int → Int)
def cArgsL (T : TT) (eE : Int → RR) : Nat → TT
  | 0, _, _, _, _, _ => False
  | f + 1, lo, hi, m, a, G => ∃ mid, mid ≤ hi ∧ T lo mid m a G ∧ (tk (eE a).2 = 144 → cArgsL T eE f mid hi (G m 8) ((eE a).2 + 1) G) ∧ (tk (eE a).2 ≠ 144 → G m 8 = -1)
def cArgs (T : TT) (eE : Int → RR) : TT := fun lo hi m a G => (tk (a + 1) = 141 → m = -1) ∧ (tk (a + 1) ≠ 141 → cArgsL tk T eE 702 lo hi m (a + 1) G)
def cFront (T C : TT) (eE : Int → RR) : TT := fun lo hi n a G => n = 14 + lo ∧ lo < hi ∧ G n 1 = a ∧ G n 4 = -1 ∧ G n 11 = -1 ∧
  (tk a = 4 → G n 0 = 1 ∧ G n 10 = cd a) ∧ (tk a = 36 → G n 0 = 2) ∧ (tk a = 37 → G n 0 = 3) ∧
  (tk a = 3 → G n 2 = a ∧ (tk (a + 1) = 140 → G n 0 = 5 ∧ cArgs tk T eE (lo + 1) hi (G n 5) (a + 1) G) ∧ (tk (a + 1) ≠ 140 → G n 0 = 4)) ∧
  (tk a = 2 → (tk (a + 2) = 38 → G n 0 = 8 ∧ G n 2 = a + 4 ∧ cArgs tk T eE (lo + 1) hi (G n 5) (a + 5) G) ∧ (tk (a + 2) ≠ 38 → G n 2 = a + 2 ∧ (tk (a + 3) = 140 → G n 0 = 7 ∧ cArgs tk T eE (lo + 1) hi (G n 5) (a + 3) G) ∧ (tk (a + 3) ≠ 140 → G n 0 = 6))) ∧
  (tk a = 38 → G n 0 = 9 ∧ G n 2 = a + 2 ∧ cArgs tk T eE (lo + 1) hi (G n 5) (a + 3) G) ∧
  (tk a = 25 → G n 0 = 10 ∧ G n 2 = a + 1 ∧ G n 10 = cd (a + 1) ∧ cArgs tk T eE (lo + 1) hi (G n 5) (a + 2) G) ∧
  (tk a = 140 → (tk (a + 1) = 2 ∧ tk (a + 2) = 141 → G n 0 = 11 ∧ G n 2 = a + 1 ∧ G n 10 = cd (a + 1) ∧ C (lo + 1) hi (G n 5) (a + 3) G) ∧ (¬ (tk (a + 1) = 2 ∧ tk (a + 2) = 141) → G n 0 = 12 ∧ T (lo + 1) hi (G n 5) (a + 1) G))
-- one of what stands behind a UNIT's front, from its . or ask on
def cBehind (T : TT) (eE : Int → RR) : TT := fun lo hi n a G => n = 14 + lo ∧ lo < hi ∧ G n 1 = a + 1 ∧ G n 2 = a + 1 ∧ G n 4 = -1 ∧ G n 11 = -1 ∧ (tk a = 39 → G n 0 = 16 ∧ G n 10 = cd (a + 1)) ∧ (tk a ≠ 39 → (tk (a + 2) = 140 → G n 0 = 15 ∧ cArgs tk T eE (lo + 1) hi (G n 5) (a + 2) G) ∧ (tk (a + 2) ≠ 140 → G n 0 = 14))
def pbehind (eE : Int → RR) (a : Int) : RR := pb (ptake a) fun b => if tk a = 39 then pneed tk 2 b else pb (pneed tk 3 b) fun c => if tk c = 140 then pargs tk eE c else (0, c)
-- where it ends
def eBehind (eE : Int → RR) (a : Int) : Int := (pbehind tk eE a).2
def isTail (a : Int) : Prop := tk a = 146 ∨ tk a = 39
def cTail (T : TT) (eE : Int → RR) : Nat → TT
  | 0, _, _, _, _, _ => False
  | f + 1, lo, hi, m, a, G => (isTail tk a → ∃ mid, mid ≤ hi ∧ cBehind tk cd T eE lo mid m a G ∧ cTail T eE f mid hi (G m 8) (eBehind tk eE a) G) ∧ (¬ isTail tk a → m = -1)
def cUnit (T C : TT) (eE cU : Int → RR) : TT := fun lo hi n a G =>
  let b := (pfront tk eE cU a).2
  (¬ isTail tk b → cFront tk cd T C eE lo hi n a G) ∧
  (isTail tk b → ∃ x y, lo < x ∧ x < y ∧ y < hi ∧ n = 14 + y ∧ G n 0 = 13 ∧ G n 1 = a ∧ G n 4 = -1 ∧ G n 11 = -1 ∧ cFront tk cd T C eE lo x (G n 5) a G ∧ cBehind tk cd T eE x y (G n 6) b G ∧ cTail tk cd T eE 702 (y + 1) hi (G (G n 6) 8) (eBehind tk eE b) G)
-- a tree's root is one of its nodes; a tree is told by its nodes alone, of its root not by next and op
def TI (T : TT) : Prop := ∀ lo hi n a G, T lo hi n a G → ∃ k, n = 14 + k ∧ lo ≤ k ∧ k < hi
def TF (T : TT) : Prop := ∀ lo hi n a G G', T lo hi n a G → (∀ k j, 14 + lo ≤ k → k < 14 + hi → ¬ (k = n ∧ j = 8) → G' k j = G k j) → T lo hi n a G'
def TF3 (T : TT) : Prop := ∀ lo hi n a G G', T lo hi n a G → (∀ k j, 14 + lo ≤ k → k < 14 + hi → ¬ (k = n ∧ (j = 8 ∨ j = 3)) → G' k j = G k j) → T lo hi n a G'
theorem TF3_F {T : TT} (h : TF3 T) : TF T := fun lo hi n a G G' q hg => h lo hi n a G G' q (fun k j x y z => hg k j x y (fun w => z ⟨w.1, Or.inl w.2⟩))
def TA (T : TT) : Prop := ∀ lo hi n a G, T lo hi n a G → G n 1 = a
def TM (T : TT) : Prop := ∀ lo hi hi' n a G, T lo hi n a G → hi ≤ hi' → T lo hi' n a G
end CT1
section CT2
variable {tk cd : Int → Int} {T C : TT} {eE cU : Int → RR}
theorem cArgsL_F (h1 : TI T) (h2 : TF T) : ∀ (f : Nat) (lo hi m a : Int) (G G' : gS), cArgsL tk T eE f lo hi m a G → (∀ k j, 14 + lo ≤ k → k < 14 + hi → G' k j = G k j) → cArgsL tk T eE f lo hi m a G'
  | 0, _, _, _, _, _, _, h, _ => h
  | f + 1, lo, hi, m, a, G, G', ⟨mid, p1, p2, p3, p4⟩, hg => by
    obtain ⟨k, e, k1, k2⟩ := h1 _ _ _ _ _ p2
    have e8 : G' m 8 = G m 8 := hg m 8 (by omega) (by omega)
    refine ⟨mid, p1, h2 _ _ _ _ _ _ p2 (fun k j x y _ => hg k j x (by omega)), fun z => ?_, fun z => by rw [e8]; exact p4 z⟩
    rw [e8]
    exact cArgsL_F h1 h2 f mid hi _ _ G G' (p3 z) (fun k j x y => hg k j (by omega) y)
theorem cArgs_F (h1 : TI T) (h2 : TF T) {lo hi m a : Int} {G G' : gS} (h : cArgs tk T eE lo hi m a G) (hg : ∀ k j, 14 + lo ≤ k → k < 14 + hi → G' k j = G k j) : cArgs tk T eE lo hi m a G' := ⟨h.1, fun z => cArgsL_F h1 h2 702 lo hi m _ G G' (h.2 z) hg⟩
theorem cArgsL_M : ∀ (f : Nat) (lo hi hi' m a : Int) (G : gS), cArgsL tk T eE f lo hi m a G → hi ≤ hi' → cArgsL tk T eE f lo hi' m a G
  | 0, _, _, _, _, _, _, h, _ => h
  | f + 1, lo, hi, hi', m, a, G, ⟨mid, p1, p2, p3, p4⟩, hg => ⟨mid, by omega, p2, fun z => cArgsL_M f mid hi hi' _ _ G (p3 z) hg, p4⟩
theorem cFront_I : TI (cFront tk cd T C eE) := fun lo hi n a G h => ⟨lo, h.1, by omega, h.2.1⟩
theorem cFront_F (h1 : TI T) (h2 : TF T) (g1 : TI C) (g2 : TF C) : TF3 (cFront tk cd T C eE) := by
  rintro lo hi n a G G' ⟨a1, a2, a3, a4, a5, a6, a7, a8, a9, a10, a11, a12, a13⟩ hg
  have e : ∀ j, j ≠ 8 → j ≠ 3 → G' n j = G n j := fun j x y => hg n j (by omega) (by omega) (by omega)
  have hc : ∀ k j, 14 + (lo + 1) ≤ k → k < 14 + hi → G' k j = G k j := fun k j x y => hg k j (by omega) y (by omega)
  unfold cFront
  rw [e 0 (by decide) (by decide), e 1 (by decide) (by decide), e 2 (by decide) (by decide), e 4 (by decide) (by decide), e 5 (by decide) (by decide), e 10 (by decide) (by decide), e 11 (by decide) (by decide)]
  refine ⟨a1, a2, a3, a4, a5, a6, a7, a8, fun z => ⟨(a9 z).1, fun y => ⟨((a9 z).2.1 y).1, cArgs_F h1 h2 ((a9 z).2.1 y).2 hc⟩, (a9 z).2.2⟩, fun z => ⟨fun y => ⟨((a10 z).1 y).1, ((a10 z).1 y).2.1, cArgs_F h1 h2 ((a10 z).1 y).2.2 hc⟩, fun y => ⟨((a10 z).2 y).1, fun x => ⟨(((a10 z).2 y).2.1 x).1, cArgs_F h1 h2 (((a10 z).2 y).2.1 x).2 hc⟩, ((a10 z).2 y).2.2⟩⟩, fun z => ⟨(a11 z).1, (a11 z).2.1, cArgs_F h1 h2 (a11 z).2.2 hc⟩, fun z => ⟨(a12 z).1, (a12 z).2.1, (a12 z).2.2.1, cArgs_F h1 h2 (a12 z).2.2.2 hc⟩, fun z => ⟨fun y => ⟨((a13 z).1 y).1, ((a13 z).1 y).2.1, ((a13 z).1 y).2.2.1, g2 _ _ _ _ _ _ ((a13 z).1 y).2.2.2 (fun k j x y _ => hc k j x y)⟩, fun y => ⟨((a13 z).2 y).1, h2 _ _ _ _ _ _ ((a13 z).2 y).2 (fun k j x y _ => hc k j x y)⟩⟩⟩
theorem cBehind_I : TI (cBehind tk cd T eE) := fun lo hi n a G h => ⟨lo, h.1, by omega, h.2.1⟩
theorem cBehind_F (h1 : TI T) (h2 : TF T) : TF3 (cBehind tk cd T eE) := by
  rintro lo hi n a G G' ⟨a1, a2, a3, a4, a5, a6, a7, a8⟩ hg
  have e : ∀ j, j ≠ 8 → j ≠ 3 → G' n j = G n j := fun j x y => hg n j (by omega) (by omega) (by omega)
  have hc : ∀ k j, 14 + (lo + 1) ≤ k → k < 14 + hi → G' k j = G k j := fun k j x y => hg k j (by omega) y (by omega)
  unfold cBehind
  rw [e 0 (by decide) (by decide), e 1 (by decide) (by decide), e 2 (by decide) (by decide), e 4 (by decide) (by decide), e 5 (by decide) (by decide), e 10 (by decide) (by decide), e 11 (by decide) (by decide)]
  exact ⟨a1, a2, a3, a4, a5, a6, a7, fun z => ⟨fun y => ⟨((a8 z).1 y).1, cArgs_F h1 h2 ((a8 z).1 y).2 hc⟩, (a8 z).2⟩⟩
theorem cTail_F (h1 : TI T) (h2 : TF T) : ∀ (f : Nat) (lo hi m a : Int) (G G' : gS), cTail tk cd T eE f lo hi m a G → (∀ k j, 14 + lo ≤ k → k < 14 + hi → G' k j = G k j) → cTail tk cd T eE f lo hi m a G'
  | 0, _, _, _, _, _, _, h, _ => h
  | f + 1, lo, hi, m, a, G, G', ⟨p1, p2⟩, hg => by
    refine ⟨fun z => ?_, p2⟩
    obtain ⟨mid, q1, q2, q3⟩ := p1 z
    obtain ⟨k, e, k1, k2⟩ := cBehind_I _ _ _ _ _ q2
    refine ⟨mid, q1, cBehind_F h1 h2 _ _ _ _ _ _ q2 (fun k j x y _ => hg k j x (by omega)), ?_⟩
    rw [hg m 8 (by omega) (by omega)]
    exact cTail_F h1 h2 f mid hi _ _ G G' q3 (fun k j x y => hg k j (by omega) y)
theorem cUnit_I : TI (cUnit tk cd T C eE cU) := fun lo hi n a G h => by
  by_cases z : isTail tk (pfront tk eE cU a).2
  · obtain ⟨x, y, h1, h2, h3, h4, -⟩ := h.2 z
    exact ⟨y, h4, by omega, h3⟩
  · exact cFront_I _ _ _ _ _ (h.1 z)
theorem cUnit_F (h1 : TI T) (h2 : TF T) (g1 : TI C) (g2 : TF C) : TF3 (cUnit tk cd T C eE cU) := by
  rintro lo hi n a G G' h hg
  refine ⟨fun z => cFront_F h1 h2 g1 g2 _ _ _ _ _ _ (h.1 z) hg, fun z => ?_⟩
  obtain ⟨x, y, p1, p2, p3, p4, p5, p6, p7, p8, p9, p10, p11⟩ := h.2 z
  have e : ∀ j, j ≠ 8 → j ≠ 3 → G' n j = G n j := fun j u v => hg n j (by omega) (by omega) (by omega)
  have hc : ∀ k j, 14 + lo ≤ k → k < 14 + hi → k ≠ n → G' k j = G k j := fun k j u v w => hg k j u v (by omega)
  obtain ⟨k, ek, k1, k2⟩ := cBehind_I _ _ _ _ _ p10
  refine ⟨x, y, p1, p2, p3, p4, ?_⟩
  rw [e 0 (by decide) (by decide), e 1 (by decide) (by decide), e 4 (by decide) (by decide), e 5 (by decide) (by decide), e 6 (by decide) (by decide), e 11 (by decide) (by decide), hc (G n 6) 8 (by omega) (by omega) (by omega)]
  exact ⟨p5, p6, p7, p8, cFront_F h1 h2 g1 g2 _ _ _ _ _ _ p9 (fun k j u v _ => hc k j (by omega) (by omega) (by omega)), cBehind_F h1 h2 _ _ _ _ _ _ p10 (fun k j u v _ => hc k j (by omega) (by omega) (by omega)), cTail_F h1 h2 702 _ _ _ _ G G' p11 (fun k j u v => hc k j (by omega) (by omega) (by omega))⟩
theorem cFront_A : TA (cFront tk cd T C eE) := fun lo hi n a G h => h.2.2.1
theorem cUnit_A : TA (cUnit tk cd T C eE cU) := fun lo hi n a G h => by
  by_cases z : isTail tk (pfront tk eE cU a).2
  · obtain ⟨x, y, h1, h2, h3, h4, h5, h6, -⟩ := h.2 z
    exact h6
  · exact cFront_A _ _ _ _ _ (h.1 z)
end CT2
section CT3
variable (tk : Int → Int)
-- SUMS and PRODUCTS: P their parts, isOp what stands between
def cChainL (P : TT) (eP : Int → RR) (isOp : Int → Prop) : Nat → TT
  | 0, _, _, _, _, _ => False
  | f + 1, lo, hi, m, a, G => (isOp (tk a) → ∃ mid, mid ≤ hi ∧ P lo mid m (a + 1) G ∧ G m 3 = tk a ∧ cChainL P eP isOp f mid hi (G m 8) (eP (a + 1)).2 G) ∧ (¬ isOp (tk a) → m = -1)
def cChain (P : TT) (eP : Int → RR) (isOp : Int → Prop) : TT := fun lo hi n a G => (¬ isOp (tk (eP a).2) → P lo hi n a G) ∧ (isOp (tk (eP a).2) → ∃ x, lo < x ∧ x < hi ∧ n = 14 + x ∧ G n 0 = 17 ∧ G n 1 = a ∧ P lo x (G n 5) a G ∧ cChainL tk P eP isOp 702 (x + 1) hi (G (G n 5) 8) (eP a).2 G)
def opP (k : Int) : Prop := k = 142
def opS (k : Int) : Prop := k = 143 ∨ k = 145
def cProd (U : TT) (uU : Int → RR) : TT := cChain tk U uU opP
def cSum (U : TT) (uU : Int → RR) : TT := cChain tk (cProd tk U uU) (pprod tk uU) opS
def isCmp (k : Int) : Prop := k = 160 ∨ k = 99
def cExpr (U : TT) (uU : Int → RR) : TT := fun lo hi n a G => (¬ isCmp (tk (psum tk uU a).2) → cSum tk U uU lo hi n a G) ∧ (isCmp (tk (psum tk uU a).2) → ∃ x, lo < x ∧ x < hi ∧ n = 14 + x ∧ G n 0 = 18 ∧ G n 1 = a ∧ G n 3 = tk (psum tk uU a).2 ∧ cSum tk U uU lo x (G n 5) a G ∧ cSum tk U uU (x + 1) hi (G n 6) ((psum tk uU a).2 + 1) G)
end CT3
section CT4
variable {tk : Int → Int} {P : TT} {eP : Int → RR} {isOp : Int → Prop}
theorem cChainL_F (h1 : TI P) (h2 : TF3 P) : ∀ (f : Nat) (lo hi m a : Int) (G G' : gS), cChainL tk P eP isOp f lo hi m a G → (∀ k j, 14 + lo ≤ k → k < 14 + hi → G' k j = G k j) → cChainL tk P eP isOp f lo hi m a G'
  | 0, _, _, _, _, _, _, h, _ => h
  | f + 1, lo, hi, m, a, G, G', ⟨p1, p2⟩, hg => by
    refine ⟨fun z => ?_, p2⟩
    obtain ⟨mid, q1, q2, q3, q4⟩ := p1 z
    obtain ⟨k, e, k1, k2⟩ := h1 _ _ _ _ _ q2
    refine ⟨mid, q1, h2 _ _ _ _ _ _ q2 (fun k j x y _ => hg k j x (by omega)), by rw [hg m 3 (by omega) (by omega)]; exact q3, ?_⟩
    rw [hg m 8 (by omega) (by omega)]
    exact cChainL_F h1 h2 f mid hi _ _ G G' q4 (fun k j x y => hg k j (by omega) y)
theorem cChain_I (h1 : TI P) : TI (cChain tk P eP isOp) := fun lo hi n a G h => by
  by_cases z : isOp (tk (eP a).2)
  · obtain ⟨x, q1, q2, q3, -⟩ := h.2 z
    exact ⟨x, q3, by omega, q2⟩
  · exact h1 _ _ _ _ _ (h.1 z)
theorem cChain_A (h1 : TA P) : TA (cChain tk P eP isOp) := fun lo hi n a G h => by
  by_cases z : isOp (tk (eP a).2)
  · obtain ⟨x, q1, q2, q3, q4, q5, -⟩ := h.2 z
    exact q5
  · exact h1 _ _ _ _ _ (h.1 z)
theorem cChain_F (h1 : TI P) (h2 : TF3 P) : TF3 (cChain tk P eP isOp) := by
  rintro lo hi n a G G' h hg
  refine ⟨fun z => h2 _ _ _ _ _ _ (h.1 z) hg, fun z => ?_⟩
  obtain ⟨x, q1, q2, q3, q4, q5, q6, q7⟩ := h.2 z
  have e : ∀ j, j ≠ 8 → j ≠ 3 → G' n j = G n j := fun j u v => hg n j (by omega) (by omega) (by omega)
  have hc : ∀ k j, 14 + lo ≤ k → k < 14 + hi → k ≠ n → G' k j = G k j := fun k j u v w => hg k j u v (by omega)
  obtain ⟨k, ek, k1, k2⟩ := h1 _ _ _ _ _ q6
  refine ⟨x, q1, q2, q3, ?_⟩
  rw [e 0 (by decide) (by decide), e 1 (by decide) (by decide), e 5 (by decide) (by decide), hc (G n 5) 8 (by omega) (by omega) (by omega)]
  exact ⟨q4, q5, h2 _ _ _ _ _ _ q6 (fun k j u v _ => hc k j (by omega) (by omega) (by omega)), cChainL_F h1 h2 702 _ _ _ _ G G' q7 (fun k j u v => hc k j (by omega) (by omega) (by omega))⟩
variable {U : TT} {uU : Int → RR}
theorem cSum_I (h : TI U) : TI (cSum tk U uU) := cChain_I (cChain_I h)
theorem cSum_A (h : TA U) : TA (cSum tk U uU) := cChain_A (cChain_A h)
theorem cSum_F (h1 : TI U) (h2 : TF3 U) : TF3 (cSum tk U uU) := cChain_F (cChain_I h1) (cChain_F h1 h2)
theorem cExpr_I (h : TI U) : TI (cExpr tk U uU) := fun lo hi n a G q => by
  by_cases z : isCmp (tk (psum tk uU a).2)
  · obtain ⟨x, q1, q2, q3, -⟩ := q.2 z
    exact ⟨x, q3, by omega, q2⟩
  · exact cSum_I h _ _ _ _ _ (q.1 z)
theorem cExpr_A (h : TA U) : TA (cExpr tk U uU) := fun lo hi n a G q => by
  by_cases z : isCmp (tk (psum tk uU a).2)
  · obtain ⟨x, q1, q2, q3, q4, q5, -⟩ := q.2 z
    exact q5
  · exact cSum_A h _ _ _ _ _ (q.1 z)
theorem cExpr_F (h1 : TI U) (h2 : TF3 U) : TF (cExpr tk U uU) := by
  rintro lo hi n a G G' h hg
  refine ⟨fun z => cSum_F h1 h2 _ _ _ _ _ _ (h.1 z) (fun k j x y w => hg k j x y (fun u => w ⟨u.1, Or.inl u.2⟩)), fun z => ?_⟩
  obtain ⟨x, q1, q2, q3, q4, q5, q6, q7, q8⟩ := h.2 z
  have e : ∀ j, j ≠ 8 → G' n j = G n j := fun j u => hg n j (by omega) (by omega) (by omega)
  have hc : ∀ k j, 14 + lo ≤ k → k < 14 + hi → k ≠ n → G' k j = G k j := fun k j u v w => hg k j u v (by omega)
  refine ⟨x, q1, q2, q3, ?_⟩
  rw [e 0 (by decide), e 1 (by decide), e 3 (by decide), e 5 (by decide), e 6 (by decide)]
  exact ⟨q4, q5, q6, cSum_F h1 h2 _ _ _ _ _ _ q7 (fun k j u v _ => hc k j (by omega) (by omega) (by omega)), cSum_F h1 h2 _ _ _ _ _ _ q8 (fun k j u v _ => hc k j (by omega) (by omega) (by omega))⟩
end CT4
section CT5
-- E and UNIT within 12 - D others, as trees
variable (tk cd : Int → Int)
def cNo : TT := fun _ _ _ _ _ => False
def cEU : Nat → TT × TT
  | 0 => (cNo, cUnit tk cd cNo cNo (pE tk 0) (pdeep tk))
  | D + 1 => (cExpr tk (cEU D).2 (pU tk D), cUnit tk cd (cExpr tk (cEU D).2 (pU tk D)) (cEU D).2 (pE tk (D + 1)) (pU tk D))
def cE (D : Nat) : TT := (cEU tk cd D).1
def cU (D : Nat) : TT := (cEU tk cd D).2
theorem cNo_I : TI cNo := fun _ _ _ _ _ h => h.elim
theorem cNo_F : TF cNo := fun _ _ _ _ _ _ h _ => h.elim
theorem cNo_F3 : TF3 cNo := fun _ _ _ _ _ _ h _ => h.elim
theorem cEU_ok : ∀ D : Nat, (TI (cE tk cd D) ∧ TF (cE tk cd D)) ∧ TI (cU tk cd D) ∧ TF3 (cU tk cd D) ∧ TA (cU tk cd D)
  | 0 => ⟨⟨cNo_I, cNo_F⟩, cUnit_I, cUnit_F cNo_I cNo_F cNo_I cNo_F, cUnit_A⟩
  | D + 1 => by
    obtain ⟨⟨h1, h2⟩, h3, h4, h5⟩ := cEU_ok D
    have g1 : TI (cE tk cd (D + 1)) := cExpr_I h3
    have g2 : TF (cE tk cd (D + 1)) := cExpr_F h3 h4
    exact ⟨⟨g1, g2⟩, cUnit_I, cUnit_F g1 g2 h3 (TF3_F h4), cUnit_A⟩
end CT5

section CT6
-- trees of S's and BLOCKs
variable (tk cd : Int → Int)
def cStmts (S : TT) (sS : Int → RR) : Nat → TT
  | 0, _, _, _, _, _ => False
  | f + 1, lo, hi, m, a, G => (tk a = 225 → m = -1) ∧ (tk a ≠ 225 → ∃ mid, mid ≤ hi ∧ S lo mid m a G ∧ cStmts S sS f mid hi (G m 8) (sS a).2 G)
def cOwn (lo hi n a : Int) (G : gS) : Prop := n = 14 + lo ∧ lo < hi ∧ G n 1 = a ∧ G n 4 = -1 ∧ G n 11 = -1
def cBlock (S : TT) (sS : Int → RR) : TT := fun lo hi n a G => cOwn lo hi n a G ∧ G n 0 = 30 ∧ cStmts tk S sS 702 (lo + 1) hi (G n 5) (a + 1) G
-- where the S of an IF or WHILE ends
def eTest (eE sS : Int → RR) (a : Int) : Int := (sS ((eE (a + 2)).2 + 1)).2
def cTest (T S : TT) (eE sS : Int → RR) : TT := fun lo hi n a G => ∃ x y, x ≤ y ∧ y ≤ hi ∧ T (lo + 1) x (G n 5) (a + 2) G ∧ S x y (G n 6) ((eE (a + 2)).2 + 1) G ∧ (tk a = 28 ∧ tk (eTest eE sS a) = 29 → S y hi (G n 7) (eTest eE sS a + 1) G) ∧ (¬ (tk a = 28 ∧ tk (eTest eE sS a) = 29) → G n 7 = -1)
def cTry (B : TT) (bB : Int → RR) : TT := fun lo hi n a G => G n 2 = (bB (a + 1)).2 + 2 ∧ G n 10 = cd ((bB (a + 1)).2 + 2) ∧ ∃ x, x ≤ hi ∧ B (lo + 1) x (G n 5) (a + 1) G ∧ B x hi (G n 6) ((bB (a + 1)).2 + 5) G
def cType (a : Int) : Int := if tk a = 26 then -1 else cd a
def cWord (T S B : TT) (eE sS bB : Int → RR) : TT := fun lo hi n a G =>
  (tk a = 28 → G n 0 = 32 ∧ cTest tk T S eE sS lo hi n a G) ∧ (tk a = 30 → G n 0 = 33 ∧ cTest tk T S eE sS lo hi n a G) ∧
  (tk a = 33 → G n 0 = 36 ∧ cTry cd B bB lo hi n a G) ∧
  (tk a = 27 → G n 0 = 31 ∧ G n 9 = cType tk cd (a + 1) ∧ T (lo + 1) hi (G n 5) (a + 4) G) ∧
  (tk a = 31 → G n 0 = 34 ∧ (tk (a + 1) = 159 → G n 5 = -1) ∧ (tk (a + 1) ≠ 159 → T (lo + 1) hi (G n 5) (a + 1) G)) ∧
  (tk a = 32 → G n 0 = 35 ∧ T (lo + 1) hi (G n 5) (a + 1) G) ∧ (tk a = 35 → G n 0 = 37 ∧ T (lo + 1) hi (G n 5) (a + 1) G)
def cSimple (T : TT) (eE : Int → RR) : TT := fun lo hi n a G => ∃ x, x ≤ hi ∧ T (lo + 1) x (G n 5) a G ∧ (tk (eE a).2 = 161 → G n 0 = 39 ∧ T x hi (G n 6) ((eE a).2 + 1) G) ∧ (tk (eE a).2 ≠ 161 → G n 0 = 40)
def isSup (a : Int) : Prop := tk a = 38 ∧ tk (a + 1) = 140
def cSIn (T S B : TT) (eE sS bB : Int → RR) : TT := fun lo hi n a G => (isSup tk a → G n 0 = 38 ∧ cArgs tk T eE (lo + 1) hi (G n 5) (a + 1) G) ∧ (¬ isSup tk a → (bE tk a = true → cSimple tk T eE lo hi n a G) ∧ (bE tk a = false → cWord tk cd T S B eE sS bB lo hi n a G))
def cStat (T S B Bn : TT) (eE sS bB : Int → RR) : TT := fun lo hi n a G => (tk a = 223 → Bn lo hi n a G) ∧ (tk a ≠ 223 → cOwn lo hi n a G ∧ cSIn tk cd T S B eE sS bB lo hi n a G)
end CT6
section CT7
variable {tk cd : Int → Int} {T S B Bn : TT} {eE sS bB : Int → RR}
theorem cStmts_F (h1 : TI S) (h2 : TF S) : ∀ (f : Nat) (lo hi m a : Int) (G G' : gS), cStmts tk S sS f lo hi m a G → (∀ k j, 14 + lo ≤ k → k < 14 + hi → G' k j = G k j) → cStmts tk S sS f lo hi m a G'
  | 0, _, _, _, _, _, _, h, _ => h
  | f + 1, lo, hi, m, a, G, G', ⟨p1, p2⟩, hg => by
    refine ⟨p1, fun z => ?_⟩
    obtain ⟨mid, q1, q2, q3⟩ := p2 z
    obtain ⟨k, e, k1, k2⟩ := h1 _ _ _ _ _ q2
    refine ⟨mid, q1, h2 _ _ _ _ _ _ q2 (fun k j x y _ => hg k j x (by omega)), ?_⟩
    rw [hg m 8 (by omega) (by omega)]
    exact cStmts_F h1 h2 f mid hi _ _ G G' q3 (fun k j x y => hg k j (by omega) y)
theorem cOwn_F {lo hi n a : Int} {G G' : gS} (h : cOwn lo hi n a G) (e : ∀ j, j ≠ 8 → G' n j = G n j) : cOwn lo hi n a G' := by
  unfold cOwn
  rw [e 1 (by decide), e 4 (by decide), e 11 (by decide)]
  exact h
theorem cBlock_I : TI (cBlock tk S sS) := fun lo hi n a G h => ⟨lo, h.1.1, by omega, h.1.2.1⟩
theorem cBlock_F (h1 : TI S) (h2 : TF S) : TF (cBlock tk S sS) := by
  rintro lo hi n a G G' ⟨a1, a2, a3⟩ hg
  have b := a1
  obtain ⟨b1, b2, -⟩ := b
  have e : ∀ j, j ≠ 8 → G' n j = G n j := fun j x => hg n j (by omega) (by omega) (by omega)
  refine ⟨cOwn_F a1 e, by rw [e 0 (by decide)]; exact a2, ?_⟩
  rw [e 5 (by decide)]
  exact cStmts_F h1 h2 702 _ _ _ _ G G' a3 (fun k j x y => hg k j (by omega) y (by omega))
theorem cTest_F (h1 : TI T) (h2 : TF T) (g1 : TI S) (g2 : TF S) {lo hi n a : Int} {G G' : gS} (h : cTest tk T S eE sS lo hi n a G) (e : ∀ j, j ≠ 8 → G' n j = G n j) (hc : ∀ k j, 14 + (lo + 1) ≤ k → k < 14 + hi → G' k j = G k j) : cTest tk T S eE sS lo hi n a G' := by
  obtain ⟨x, y, q1, q2, q3, q4, q5, q6⟩ := h
  obtain ⟨k, ek, k1, k2⟩ := h1 _ _ _ _ _ q3
  obtain ⟨l, el, l1, l2⟩ := g1 _ _ _ _ _ q4
  refine ⟨x, y, q1, q2, ?_⟩
  rw [e 5 (by decide), e 6 (by decide), e 7 (by decide)]
  exact ⟨h2 _ _ _ _ _ _ q3 (fun k j u v _ => hc k j u (by omega)), g2 _ _ _ _ _ _ q4 (fun k j u v _ => hc k j (by omega) (by omega)), fun z => g2 _ _ _ _ _ _ (q5 z) (fun k j u v _ => hc k j (by omega) v), q6⟩
theorem cStat_I (hb : TI Bn) : TI (cStat tk cd T S B Bn eE sS bB) := fun lo hi n a G h => by
  by_cases z : tk a = 223
  · exact hb _ _ _ _ _ (h.1 z)
  · exact ⟨lo, (h.2 z).1.1, by omega, (h.2 z).1.2.1⟩
theorem cWord_F (h1 : TI T) (h2 : TF T) (g1 : TI S) (g2 : TF S) (b1 : TI B) (b2 : TF B) {lo hi n a : Int} {G G' : gS} (h : cWord tk cd T S B eE sS bB lo hi n a G) (e : ∀ j, j ≠ 8 → G' n j = G n j) (hc : ∀ k j, 14 + (lo + 1) ≤ k → k < 14 + hi → G' k j = G k j) : cWord tk cd T S B eE sS bB lo hi n a G' := by
  have ht : ∀ m p, T (lo + 1) hi m p G → T (lo + 1) hi m p G' := fun m p q => h2 _ _ _ _ _ _ q (fun k j u v _ => hc k j u v)
  have hT := fun q => cTest_F (tk := tk) (eE := eE) (sS := sS) (a := a) h1 h2 g1 g2 q e hc
  obtain ⟨p1, p2, p3, p4, p5, p6, p7⟩ := h
  unfold cWord
  rw [e 0 (by decide), e 5 (by decide), e 9 (by decide)]
  refine ⟨fun z => ⟨(p1 z).1, hT (p1 z).2⟩, fun z => ⟨(p2 z).1, hT (p2 z).2⟩, fun z => ⟨(p3 z).1, ?_⟩, fun z => ⟨(p4 z).1, (p4 z).2.1, ht _ _ (p4 z).2.2⟩, fun z => ⟨(p5 z).1, (p5 z).2.1, fun y => ht _ _ ((p5 z).2.2 y)⟩, fun z => ⟨(p6 z).1, ht _ _ (p6 z).2⟩, fun z => ⟨(p7 z).1, ht _ _ (p7 z).2⟩⟩
  obtain ⟨q1, q2, x, q3, q4, q5⟩ := (p3 z).2
  obtain ⟨k, ek, k1, k2⟩ := b1 _ _ _ _ _ q4
  unfold cTry
  rw [e 2 (by decide), e 10 (by decide), e 5 (by decide), e 6 (by decide)]
  exact ⟨q1, q2, x, q3, b2 _ _ _ _ _ _ q4 (fun k j u v _ => hc k j u (by omega)), b2 _ _ _ _ _ _ q5 (fun k j u v _ => hc k j (by omega) v)⟩
theorem cSIn_F (h1 : TI T) (h2 : TF T) (g1 : TI S) (g2 : TF S) (b1 : TI B) (b2 : TF B) {lo hi n a : Int} {G G' : gS} (h : cSIn tk cd T S B eE sS bB lo hi n a G) (e : ∀ j, j ≠ 8 → G' n j = G n j) (hc : ∀ k j, 14 + (lo + 1) ≤ k → k < 14 + hi → G' k j = G k j) : cSIn tk cd T S B eE sS bB lo hi n a G' := by
  obtain ⟨p1, p2⟩ := h
  unfold cSIn
  rw [e 0 (by decide), e 5 (by decide)]
  refine ⟨fun z => ⟨(p1 z).1, cArgs_F h1 h2 (p1 z).2 hc⟩, fun z => ⟨fun y => ?_, fun y => cWord_F h1 h2 g1 g2 b1 b2 ((p2 z).2 y) e hc⟩⟩
  obtain ⟨x, q1, q2, q3, q4⟩ := (p2 z).1 y
  obtain ⟨k, ek, k1, k2⟩ := h1 _ _ _ _ _ q2
  refine ⟨x, q1, ?_⟩
  rw [e 0 (by decide), e 5 (by decide), e 6 (by decide)]
  exact ⟨h2 _ _ _ _ _ _ q2 (fun k j u v _ => hc k j u (by omega)), fun w => ⟨(q3 w).1, h2 _ _ _ _ _ _ (q3 w).2 (fun k j u v _ => hc k j (by omega) v)⟩, q4⟩
theorem cStat_F (h1 : TI T) (h2 : TF T) (g1 : TI S) (g2 : TF S) (b1 : TI B) (b2 : TF B) (hb : TF Bn) : TF (cStat tk cd T S B Bn eE sS bB) := by
  rintro lo hi n a G G' ⟨p1, p2⟩ hg
  refine ⟨fun z => hb _ _ _ _ _ _ (p1 z) hg, fun z => ?_⟩
  obtain ⟨q1, q2⟩ := p2 z
  have b := q1
  obtain ⟨c1, c2, -⟩ := b
  have e : ∀ j, j ≠ 8 → G' n j = G n j := fun j x => hg n j (by omega) (by omega) (by omega)
  exact ⟨cOwn_F q1 e, cSIn_F h1 h2 g1 g2 b1 b2 q2 e (fun k j x y => hg k j (by omega) y (by omega))⟩
end CT7
section CT8
variable (tk cd : Int → Int)
-- S and BLOCK within 12 - D others, as trees
def cSB : Nat → TT × TT
  | 0 => (cNo, cNo)
  | D + 1 => (cStat tk cd (cE tk cd D) (cSB D).1 (cSB D).2 (cBlock tk (cSB D).1 (pS tk D)) (pE tk D) (pS tk D) (pB tk D), cBlock tk (cSB D).1 (pS tk D))
def cS (D : Nat) : TT := (cSB tk cd D).1
def cB (D : Nat) : TT := (cSB tk cd D).2
theorem cSB_ok : ∀ D : Nat, (TI (cS tk cd D) ∧ TF (cS tk cd D)) ∧ TI (cB tk cd D) ∧ TF (cB tk cd D)
  | 0 => ⟨⟨cNo_I, cNo_F⟩, cNo_I, cNo_F⟩
  | D + 1 => by
    obtain ⟨⟨h1, h2⟩, h3, h4⟩ := cSB_ok D
    obtain ⟨⟨e1, e2⟩, -⟩ := cEU_ok tk cd D
    exact ⟨⟨cStat_I cBlock_I, cStat_F e1 e2 h1 h2 h3 h4 (cBlock_F h1 h2)⟩, cBlock_I, cBlock_F h1 h2⟩
end CT8

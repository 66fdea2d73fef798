section RT1
-- the reference's trees of E's, over nodes lo .. hi - 1 of slot s
def nmR (B : gS) (s a : Int) : Int := B 16093 (s * 702 + a)
def vlR (B : gS) (s a : Int) : Int := B 16094 (s * 702 + a)
def plR (B : gS) (s a : Int) : Int := B 16091 (s * 702 + a)
def rArgsL (tk : Int → Int) (T : TT) (eE : Int → RR) : Nat → TT
  | 0 => fun _ _ _ _ _ => False
  | f + 1 => fun lo hi m a G => ∃ x, x ≤ hi ∧ T lo x m a G ∧ (tk (eE a).2 = 144 → rArgsL tk T eE f x hi (G 16154 m) ((eE a).2 + 1) G) ∧ (tk (eE a).2 ≠ 144 → G 16154 m = -2)
def rArgs (tk : Int → Int) (T : TT) (eE : Int → RR) : TT := fun lo hi m a G => (tk (a + 1) = 141 → m = -2 ∧ lo ≤ hi) ∧ (tk (a + 1) ≠ 141 → rArgsL tk T eE 702 lo hi m (a + 1) G)
def rFront (B : gS) (s : Int) (tk : Int → Int) (T C : TT) (eE : Int → RR) : TT := fun lo hi n a G => n = s * 1700 + lo ∧ lo < hi ∧ G 16145 n = plR B s a ∧
  (tk a = 4 → G 16144 n = 0 ∧ G 16155 n = vlR B s a) ∧ (tk a = 36 → G 16144 n = 1) ∧ (tk a = 37 → G 16144 n = 2) ∧
  (tk a = 3 → G 16148 n = nmR B s a ∧ G 16146 n = plR B s a ∧ (tk (a + 1) = 140 → G 16144 n = 4 ∧ rArgs tk T eE (lo + 1) hi (G 16152 n) (a + 1) G) ∧ (tk (a + 1) ≠ 140 → G 16144 n = 3 ∧ G 16152 n = -2)) ∧
  (tk a = 2 → G 16149 n = nmR B s a ∧ G 16147 n = plR B s a ∧ (tk (a + 2) = 38 → G 16144 n = 7 ∧ G 16153 n = plR B s (a + 2) ∧ G 16148 n = nmR B s (a + 4) ∧ G 16146 n = plR B s (a + 4) ∧ rArgs tk T eE (lo + 1) hi (G 16152 n) (a + 5) G) ∧ (tk (a + 2) ≠ 38 → G 16148 n = nmR B s (a + 2) ∧ G 16146 n = plR B s (a + 2) ∧ (tk (a + 3) = 140 → G 16144 n = 6 ∧ rArgs tk T eE (lo + 1) hi (G 16152 n) (a + 3) G) ∧ (tk (a + 3) ≠ 140 → G 16144 n = 5 ∧ G 16152 n = -2))) ∧
  (tk a = 38 → G 16144 n = 8 ∧ G 16148 n = nmR B s (a + 2) ∧ G 16146 n = plR B s (a + 2) ∧ rArgs tk T eE (lo + 1) hi (G 16152 n) (a + 3) G) ∧
  (tk a = 25 → G 16144 n = 9 ∧ G 16149 n = nmR B s (a + 1) ∧ G 16147 n = plR B s (a + 1) ∧ rArgs tk T eE (lo + 1) hi (G 16152 n) (a + 2) G) ∧
  (tk a = 140 → (tk (a + 1) = 2 ∧ tk (a + 2) = 141 → G 16144 n = 10 ∧ G 16149 n = nmR B s (a + 1) ∧ G 16147 n = plR B s (a + 1) ∧ C (lo + 1) hi (G 16151 n) (a + 3) G) ∧ (¬ (tk (a + 1) = 2 ∧ tk (a + 2) = 141) → G 16144 n = 11 ∧ T (lo + 1) hi (G 16151 n) (a + 1) G))
/-- l: the node of what stands in front; n: of all -/
def rTail (B : gS) (s : Int) (tk : Int → Int) (T : TT) (eE : Int → RR) : Nat → Int → TT
  | 0 => fun _ _ _ _ _ _ => False
  | f + 1 => fun l lo hi n a G => (tk a = 146 → lo < hi ∧ G 16151 (s * 1700 + lo) = l ∧ G 16148 (s * 1700 + lo) = nmR B s (a + 1) ∧ G 16146 (s * 1700 + lo) = plR B s (a + 1) ∧ (tk (a + 2) = 140 → G 16144 (s * 1700 + lo) = 13 ∧ ∃ x, x ≤ hi ∧ rArgs tk T eE (lo + 1) x (G 16152 (s * 1700 + lo)) (a + 2) G ∧ rTail B s tk T eE f (s * 1700 + lo) x hi n (pargs tk eE (a + 2)).2 G) ∧ (tk (a + 2) ≠ 140 → G 16144 (s * 1700 + lo) = 12 ∧ G 16152 (s * 1700 + lo) = -2 ∧ rTail B s tk T eE f (s * 1700 + lo) (lo + 1) hi n (a + 2) G)) ∧
    (tk a = 39 → lo < hi ∧ G 16151 (s * 1700 + lo) = l ∧ G 16144 (s * 1700 + lo) = 14 ∧ G 16149 (s * 1700 + lo) = nmR B s (a + 1) ∧ G 16147 (s * 1700 + lo) = plR B s (a + 1) ∧ rTail B s tk T eE f (s * 1700 + lo) (lo + 1) hi n (a + 2) G) ∧
    (tk a ≠ 146 → tk a ≠ 39 → n = l ∧ lo ≤ hi)
def rUnit (B : gS) (s : Int) (tk : Int → Int) (T C : TT) (eE cU : Int → RR) : TT := fun lo hi n a G => ∃ x l, x ≤ hi ∧ rFront B s tk T C eE lo x l a G ∧ rTail B s tk T eE 702 l x hi n (pfront tk eE cU a).2 G
def rChain (s : Int) (tk : Int → Int) (P : TT) (eP : Int → RR) (isOp : Int → Prop) (kop : Int → Int) : Nat → Int → TT
  | 0 => fun _ _ _ _ _ _ => False
  | f + 1 => fun l lo hi n a G => (isOp (tk a) → lo < hi ∧ G 16151 (s * 1700 + lo) = l ∧ G 16144 (s * 1700 + lo) = kop (tk a) ∧ ∃ x, x ≤ hi ∧ P (lo + 1) x (G 16152 (s * 1700 + lo)) (a + 1) G ∧ rChain s tk P eP isOp kop f (s * 1700 + lo) x hi n (eP (a + 1)).2 G) ∧ (¬ isOp (tk a) → n = l ∧ lo ≤ hi)
def kP (_ : Int) : Int := 17
def kS (k : Int) : Int := if k = 143 then 15 else 16
def rProd (s : Int) (tk : Int → Int) (U : TT) (uU : Int → RR) : TT := fun lo hi n a G => ∃ x l, x ≤ hi ∧ U lo x l a G ∧ rChain s tk U uU opP kP 702 l x hi n (uU a).2 G
def rSum (s : Int) (tk : Int → Int) (U : TT) (uU : Int → RR) : TT := fun lo hi n a G => ∃ x l, x ≤ hi ∧ rProd s tk U uU lo x l a G ∧ rChain s tk (rProd s tk U uU) (pprod tk uU) opS kS 702 l x hi n (pprod tk uU a).2 G
def rExpr (s : Int) (tk : Int → Int) (U : TT) (uU : Int → RR) : TT := fun lo hi n a G => (¬ isCmp (tk (psum tk uU a).2) → rSum s tk U uU lo hi n a G) ∧ (isCmp (tk (psum tk uU a).2) → ∃ x, lo < x ∧ x < hi ∧ n = s * 1700 + x ∧ G 16144 n = (if tk (psum tk uU a).2 = 160 then 18 else 19) ∧ rSum s tk U uU lo x (G 16151 n) a G ∧ rSum s tk U uU (x + 1) hi (G 16152 n) ((psum tk uU a).2 + 1) G)
def rEU (B : gS) (s : Int) (tk : Int → Int) : Nat → TT × TT
  | 0 => (cNo, rUnit B s tk cNo cNo (pdeep tk) (pdeep tk))
  | D + 1 => (rExpr s tk (rEU B s tk D).2 (pU tk D), rUnit B s tk (rExpr s tk (rEU B s tk D).2 (pU tk D)) (rEU B s tk D).2 (pE tk (D + 1)) (pU tk D))
def rE (B : gS) (s : Int) (tk : Int → Int) (D : Nat) : TT := (rEU B s tk D).1
def rU (B : gS) (s : Int) (tk : Int → Int) (D : Nat) : TT := (rEU B s tk D).2
-- what a tree hangs on
def SmR (s lo hi n : Int) (G G' : gS) : Prop := ∀ c j, 16144 ≤ c → c ≤ 16155 → s * 1700 + lo ≤ j → j < s * 1700 + hi → ¬ (c = 16154 ∧ j = n) → G' c j = G c j
def RTI (s : Int) (T : TT) : Prop := ∀ lo hi n a G, T lo hi n a G → ∃ k, n = s * 1700 + k ∧ lo ≤ k ∧ k < hi
def RTF (s : Int) (T : TT) : Prop := ∀ lo hi n a G G', T lo hi n a G → SmR s lo hi n G G' → T lo hi n a G'
variable {B G G' : gS} {s lo hi n a l : Int} {tk : Int → Int} {T C P U : TT} {eE cU uU eP : Int → RR}
theorem SmR_all {lo' hi' n' : Int} (h : SmR s lo hi n G G') (h0 : lo ≤ lo') (h1 : hi' ≤ hi) (hn : n < s * 1700 + lo' ∨ s * 1700 + hi' ≤ n ∨ n' = n) : SmR s lo' hi' n' G G' := fun c j x1 x2 x3 x4 x5 => h c j x1 x2 (by omega) (by omega) (by omega)
theorem rArgsL_le (hI : RTI s T) : ∀ f lo hi m a G, rArgsL tk T eE f lo hi m a G → ∃ k, m = s * 1700 + k ∧ lo ≤ k ∧ k < hi
  | 0, lo, hi, m, a, G, h => h.elim
  | f + 1, lo, hi, m, a, G, ⟨x, x1, x2, _⟩ => by
    obtain ⟨k, k1, k2, k3⟩ := hI _ _ _ _ _ x2
    exact ⟨k, k1, k2, by omega⟩
theorem rArgsL_F (hI : RTI s T) (hF : RTF s T) : ∀ f lo hi m a G G', rArgsL tk T eE f lo hi m a G → (∀ c j, 16144 ≤ c → c ≤ 16155 → s * 1700 + lo ≤ j → j < s * 1700 + hi → G' c j = G c j) → rArgsL tk T eE f lo hi m a G'
  | 0, lo, hi, m, a, G, G', h, _ => h
  | f + 1, lo, hi, m, a, G, G', ⟨x, x1, x2, x3, x4⟩, w => by
    obtain ⟨k, k1, k2, k3⟩ := hI _ _ _ _ _ x2
    have e : G' 16154 m = G 16154 m := w _ _ (by omega) (by omega) (by omega) (by omega)
    refine ⟨x, x1, hF _ _ _ _ _ _ x2 (fun c j y1 y2 y3 y4 _ => w c j y1 y2 y3 (by omega)), fun z => ?_, fun z => by rw [e]; exact x4 z⟩
    rw [e]
    exact rArgsL_F hI hF f _ _ _ _ _ _ (x3 z) (fun c j y1 y2 y3 y4 => w c j y1 y2 (by omega) y4)
theorem rArgs_F (hI : RTI s T) (hF : RTF s T) (h : rArgs tk T eE lo hi n a G) (w : ∀ c j, 16144 ≤ c → c ≤ 16155 → s * 1700 + lo ≤ j → j < s * 1700 + hi → G' c j = G c j) : rArgs tk T eE lo hi n a G' := ⟨h.1, fun z => rArgsL_F hI hF _ _ _ _ _ _ _ (h.2 z) w⟩
theorem rArgs_le (hI : RTI s T) (h : rArgs tk T eE lo hi n a G) : lo ≤ hi := by
  by_cases z : tk (a + 1) = 141
  · exact (h.1 z).2
  · obtain ⟨k, k1, k2, k3⟩ := rArgsL_le hI _ _ _ _ _ _ (h.2 z)
    omega
theorem rFront_F (hI : RTI s T) (hF : RTF s T) (hIC : RTI s C) (hFC : RTF s C) : RTF s (rFront B s tk T C eE) := by
  intro lo hi n a G G' h w
  obtain ⟨rfl, h0, h1, h2, h3, h4, h5, h6, h7, h8, h9⟩ := h
  have v : ∀ c, 16144 ≤ c → c ≤ 16155 → c ≠ 16154 → G' c (s * 1700 + lo) = G c (s * 1700 + lo) := fun c x y z => w c _ x y (by omega) (by omega) (by omega)
  have v44 := v 16144 (by decide) (by decide) (by decide)
  have v45 := v 16145 (by decide) (by decide) (by decide)
  have v46 := v 16146 (by decide) (by decide) (by decide)
  have v47 := v 16147 (by decide) (by decide) (by decide)
  have v48 := v 16148 (by decide) (by decide) (by decide)
  have v49 := v 16149 (by decide) (by decide) (by decide)
  have v51 := v 16151 (by decide) (by decide) (by decide)
  have v52 := v 16152 (by decide) (by decide) (by decide)
  have v53 := v 16153 (by decide) (by decide) (by decide)
  have v55 := v 16155 (by decide) (by decide) (by decide)
  have wa : ∀ m b, rArgs tk T eE (lo + 1) hi m b G → rArgs tk T eE (lo + 1) hi m b G' := fun m b x => rArgs_F hI hF x (fun c j x1 x2 x3 x4 => w c j x1 x2 (by omega) x4 (by omega))
  have wC : ∀ m b, C (lo + 1) hi m b G → C (lo + 1) hi m b G' := fun m b x => hFC _ _ _ _ _ _ x (fun c j x1 x2 x3 x4 _ => w c j x1 x2 (by omega) x4 (by omega))
  have wT : ∀ m b, T (lo + 1) hi m b G → T (lo + 1) hi m b G' := fun m b x => hF _ _ _ _ _ _ x (fun c j x1 x2 x3 x4 _ => w c j x1 x2 (by omega) x4 (by omega))
  unfold rFront
  rw [v44, v45, v46, v47, v48, v49, v51, v52, v53, v55]
  refine ⟨rfl, h0, h1, h2, h3, h4, fun z => ?_, fun z => ?_, fun z => ?_, fun z => ?_, fun z => ?_⟩
  · obtain ⟨p1, p2, p3, p4⟩ := h5 z
    exact ⟨p1, p2, fun y => ⟨(p3 y).1, wa _ _ (p3 y).2⟩, p4⟩
  · obtain ⟨p1, p2, p3, p4⟩ := h6 z
    refine ⟨p1, p2, fun y => ?_, fun y => ?_⟩
    · obtain ⟨q1, q2, q3, q4, q5⟩ := p3 y
      exact ⟨q1, q2, q3, q4, wa _ _ q5⟩
    · obtain ⟨q1, q2, q3, q4⟩ := p4 y
      exact ⟨q1, q2, fun x => ⟨(q3 x).1, wa _ _ (q3 x).2⟩, q4⟩
  · obtain ⟨p1, p2, p3, p4⟩ := h7 z
    exact ⟨p1, p2, p3, wa _ _ p4⟩
  · obtain ⟨p1, p2, p3, p4⟩ := h8 z
    exact ⟨p1, p2, p3, wa _ _ p4⟩
  · obtain ⟨p1, p2⟩ := h9 z
    exact ⟨fun y => ⟨(p1 y).1, (p1 y).2.1, (p1 y).2.2.1, wC _ _ (p1 y).2.2.2⟩, fun y => ⟨(p2 y).1, wT _ _ (p2 y).2⟩⟩
theorem rTail_I (hI : RTI s T) : ∀ f l lo hi n a G, rTail B s tk T eE f l lo hi n a G → lo ≤ hi ∧ (n = l ∨ ∃ k, n = s * 1700 + k ∧ lo ≤ k ∧ k < hi)
  | 0, l, lo, hi, n, a, G, h => h.elim
  | f + 1, l, lo, hi, n, a, G, ⟨h1, h2, h3⟩ => by
    by_cases z : tk a = 146
    · obtain ⟨q0, q1, q2, q3, q4, q5⟩ := h1 z
      by_cases y : tk (a + 2) = 140
      · obtain ⟨r1, x, r2, r3, r4⟩ := q4 y
        have := rArgs_le hI r3
        obtain ⟨u1, u2⟩ := rTail_I hI f _ _ _ _ _ _ r4
        refine ⟨by omega, Or.inr ?_⟩
        rcases u2 with u2 | ⟨k, k1, k2, k3⟩
        · exact ⟨lo, u2, by omega, q0⟩
        · exact ⟨k, k1, by omega, k3⟩
      · obtain ⟨r1, r2, r4⟩ := q5 y
        obtain ⟨u1, u2⟩ := rTail_I hI f _ _ _ _ _ _ r4
        refine ⟨by omega, Or.inr ?_⟩
        rcases u2 with u2 | ⟨k, k1, k2, k3⟩
        · exact ⟨lo, u2, by omega, q0⟩
        · exact ⟨k, k1, by omega, k3⟩
    · by_cases y : tk a = 39
      · obtain ⟨q0, q1, q2, q3, q4, q5⟩ := h2 y
        obtain ⟨u1, u2⟩ := rTail_I hI f _ _ _ _ _ _ q5
        refine ⟨by omega, Or.inr ?_⟩
        rcases u2 with u2 | ⟨k, k1, k2, k3⟩
        · exact ⟨lo, u2, by omega, q0⟩
        · exact ⟨k, k1, by omega, k3⟩
      · exact ⟨(h3 z y).2, Or.inl (h3 z y).1⟩
theorem rTail_F (hI : RTI s T) (hF : RTF s T) : ∀ f l lo hi n a G G', rTail B s tk T eE f l lo hi n a G → (∀ c j, 16144 ≤ c → c ≤ 16155 → s * 1700 + lo ≤ j → j < s * 1700 + hi → ¬ (c = 16154 ∧ j = n) → G' c j = G c j) → rTail B s tk T eE f l lo hi n a G'
  | 0, l, lo, hi, n, a, G, G', h, _ => h
  | f + 1, l, lo, hi, n, a, G, G', ⟨h1, h2, h3⟩, w => by
    refine ⟨fun z => ?_, fun z => ?_, h3⟩
    · obtain ⟨q0, q1, q2, q3, q4, q5⟩ := h1 z
      have v : ∀ c, 16144 ≤ c → c ≤ 16155 → c ≠ 16154 → G' c (s * 1700 + lo) = G c (s * 1700 + lo) := fun c x y z => w c _ x y (by omega) (by omega) (by omega)
      rw [v 16151 (by decide) (by decide) (by decide), v 16148 (by decide) (by decide) (by decide), v 16146 (by decide) (by decide) (by decide), v 16144 (by decide) (by decide) (by decide), v 16152 (by decide) (by decide) (by decide)]
      refine ⟨q0, q1, q2, q3, fun y => ?_, fun y => ?_⟩
      · obtain ⟨r1, x, r2, r3, r4⟩ := q4 y
        have r5 := rArgs_le hI r3
        obtain ⟨u1, u2⟩ := rTail_I hI f _ _ _ _ _ _ r4
        have hn : n = s * 1700 + lo ∨ s * 1700 + x ≤ n := by
          rcases u2 with u2 | ⟨k, k1, k2, k3⟩
          · exact Or.inl u2
          · right; omega
        exact ⟨r1, x, r2, rArgs_F hI hF r3 (fun c j x1 x2 x3 x4 => w c j x1 x2 (by omega) (by omega) (by omega)), rTail_F hI hF f _ _ _ _ _ _ _ r4 (fun c j x1 x2 x3 x4 x5 => w c j x1 x2 (by omega) x4 x5)⟩
      · obtain ⟨r1, r2, r4⟩ := q5 y
        exact ⟨r1, r2, rTail_F hI hF f _ _ _ _ _ _ _ r4 (fun c j x1 x2 x3 x4 x5 => w c j x1 x2 (by omega) x4 x5)⟩
    · obtain ⟨q0, q1, q2, q3, q4, q5⟩ := h2 z
      have v : ∀ c, 16144 ≤ c → c ≤ 16155 → c ≠ 16154 → G' c (s * 1700 + lo) = G c (s * 1700 + lo) := fun c x y z => w c _ x y (by omega) (by omega) (by omega)
      rw [v 16151 (by decide) (by decide) (by decide), v 16144 (by decide) (by decide) (by decide), v 16149 (by decide) (by decide) (by decide), v 16147 (by decide) (by decide) (by decide)]
      exact ⟨q0, q1, q2, q3, q4, rTail_F hI hF f _ _ _ _ _ _ _ q5 (fun c j x1 x2 x3 x4 x5 => w c j x1 x2 (by omega) x4 x5)⟩
theorem rFront_I : RTI s (rFront B s tk T C eE) := fun lo hi n a G h => ⟨lo, h.1, Int.le_refl _, h.2.1⟩
theorem rUnit_I (hI : RTI s T) : RTI s (rUnit B s tk T C eE cU) := by
  intro lo hi n a G ⟨x, l, x1, x2, x3⟩
  obtain ⟨k, k1, k2, k3⟩ := rFront_I _ _ _ _ _ x2
  obtain ⟨u1, u2⟩ := rTail_I hI _ _ _ _ _ _ _ x3
  rcases u2 with u2 | ⟨k', p1, p2, p3⟩
  · exact ⟨k, by rw [u2]; exact k1, k2, by omega⟩
  · exact ⟨k', p1, by omega, p3⟩
theorem rUnit_F (hI : RTI s T) (hF : RTF s T) (hIC : RTI s C) (hFC : RTF s C) : RTF s (rUnit B s tk T C eE cU) := by
  intro lo hi n a G G' ⟨x, l, x1, x2, x3⟩ w
  obtain ⟨k, k1, k2, k3⟩ := rFront_I _ _ _ _ _ x2
  obtain ⟨u1, u2⟩ := rTail_I hI _ _ _ _ _ _ _ x3
  have hn : n = l ∨ s * 1700 + x ≤ n := by
    rcases u2 with u2 | ⟨k', p1, p2, p3⟩
    · exact Or.inl u2
    · right; omega
  exact ⟨x, l, x1, rFront_F hI hF hIC hFC _ _ _ _ _ _ x2 (fun c j y1 y2 y3 y4 y5 => w c j y1 y2 y3 (by omega) (by omega)), rTail_F hI hF _ _ _ _ _ _ _ _ x3 (fun c j y1 y2 y3 y4 y5 => w c j y1 y2 (by omega) y4 y5)⟩
theorem rChain_I {isOp : Int → Prop} {kop : Int → Int} (hI : RTI s P) : ∀ f l lo hi n a G, rChain s tk P eP isOp kop f l lo hi n a G → lo ≤ hi ∧ (n = l ∨ ∃ k, n = s * 1700 + k ∧ lo ≤ k ∧ k < hi)
  | 0, l, lo, hi, n, a, G, h => h.elim
  | f + 1, l, lo, hi, n, a, G, ⟨h1, h3⟩ => by
    by_cases z : isOp (tk a)
    · obtain ⟨q0, q1, q2, x, r2, r3, r4⟩ := h1 z
      obtain ⟨u1, u2⟩ := rChain_I hI f _ _ _ _ _ _ r4
      refine ⟨by omega, Or.inr ?_⟩
      obtain ⟨k', p1, p2, p3⟩ := hI _ _ _ _ _ r3
      rcases u2 with u2 | ⟨k, k1, k2, k3⟩
      · exact ⟨lo, u2, by omega, q0⟩
      · exact ⟨k, k1, by omega, k3⟩
    · exact ⟨(h3 z).2, Or.inl (h3 z).1⟩
theorem rChain_F {isOp : Int → Prop} {kop : Int → Int} (hI : RTI s P) (hF : RTF s P) : ∀ f l lo hi n a G G', rChain s tk P eP isOp kop f l lo hi n a G → (∀ c j, 16144 ≤ c → c ≤ 16155 → s * 1700 + lo ≤ j → j < s * 1700 + hi → ¬ (c = 16154 ∧ j = n) → G' c j = G c j) → rChain s tk P eP isOp kop f l lo hi n a G'
  | 0, l, lo, hi, n, a, G, G', h, _ => h
  | f + 1, l, lo, hi, n, a, G, G', ⟨h1, h3⟩, w => by
    refine ⟨fun z => ?_, h3⟩
    obtain ⟨q0, q1, q2, x, r2, r3, r4⟩ := h1 z
    have v : ∀ c, 16144 ≤ c → c ≤ 16155 → c ≠ 16154 → G' c (s * 1700 + lo) = G c (s * 1700 + lo) := fun c x y z => w c _ x y (by omega) (by omega) (by omega)
    rw [v 16151 (by decide) (by decide) (by decide), v 16144 (by decide) (by decide) (by decide), v 16152 (by decide) (by decide) (by decide)]
    obtain ⟨k', p1, p2, p3⟩ := hI _ _ _ _ _ r3
    obtain ⟨u1, u2⟩ := rChain_I hI f _ _ _ _ _ _ r4
    have hn : n = s * 1700 + lo ∨ s * 1700 + x ≤ n := by
      rcases u2 with u2 | ⟨k, k1, k2, k3⟩
      · exact Or.inl u2
      · right; omega
    exact ⟨q0, q1, q2, x, r2, hF _ _ _ _ _ _ r3 (fun c j x1 x2 x3 x4 _ => w c j x1 x2 (by omega) (by omega) (by omega)), rChain_F hI hF f _ _ _ _ _ _ _ r4 (fun c j x1 x2 x3 x4 x5 => w c j x1 x2 (by omega) x4 x5)⟩
theorem rBin_I {isOp : Int → Prop} {kop : Int → Int} (hI : RTI s P) {h : ∃ x l, x ≤ hi ∧ P lo x l a G ∧ rChain s tk P eP isOp kop 702 l x hi n (eP a).2 G} : ∃ k, n = s * 1700 + k ∧ lo ≤ k ∧ k < hi := by
  obtain ⟨x, l, x1, x2, x3⟩ := h
  obtain ⟨k, k1, k2, k3⟩ := hI _ _ _ _ _ x2
  obtain ⟨u1, u2⟩ := rChain_I hI _ _ _ _ _ _ _ x3
  rcases u2 with u2 | ⟨k', p1, p2, p3⟩
  · exact ⟨k, by rw [u2]; exact k1, k2, by omega⟩
  · exact ⟨k', p1, by omega, p3⟩
theorem rBin_F {isOp : Int → Prop} {kop : Int → Int} (hI : RTI s P) (hF : RTF s P) (h : ∃ x l, x ≤ hi ∧ P lo x l a G ∧ rChain s tk P eP isOp kop 702 l x hi n (eP a).2 G) (w : SmR s lo hi n G G') : ∃ x l, x ≤ hi ∧ P lo x l a G' ∧ rChain s tk P eP isOp kop 702 l x hi n (eP a).2 G' := by
  obtain ⟨x, l, x1, x2, x3⟩ := h
  obtain ⟨k, k1, k2, k3⟩ := hI _ _ _ _ _ x2
  obtain ⟨u1, u2⟩ := rChain_I hI _ _ _ _ _ _ _ x3
  have hn : n = l ∨ s * 1700 + x ≤ n := by
    rcases u2 with u2 | ⟨k', p1, p2, p3⟩
    · exact Or.inl u2
    · right; omega
  exact ⟨x, l, x1, hF _ _ _ _ _ _ x2 (fun c j y1 y2 y3 y4 y5 => w c j y1 y2 y3 (by omega) (by omega)), rChain_F hI hF _ _ _ _ _ _ _ _ x3 (fun c j y1 y2 y3 y4 y5 => w c j y1 y2 (by omega) y4 y5)⟩
theorem rProd_IF (hI : RTI s U) (hF : RTF s U) : RTI s (rProd s tk U uU) ∧ RTF s (rProd s tk U uU) := ⟨fun lo hi n a G h => rBin_I hI (h := h), fun lo hi n a G G' h w => rBin_F hI hF h w⟩
theorem rSum_IF (hI : RTI s U) (hF : RTF s U) : RTI s (rSum s tk U uU) ∧ RTF s (rSum s tk U uU) := by
  obtain ⟨p1, p2⟩ := rProd_IF (tk := tk) (uU := uU) hI hF
  exact ⟨fun lo hi n a G h => rBin_I p1 (h := h), fun lo hi n a G G' h w => rBin_F p1 p2 h w⟩
theorem rExpr_IF (hI : RTI s U) (hF : RTF s U) : RTI s (rExpr s tk U uU) ∧ RTF s (rExpr s tk U uU) := by
  obtain ⟨p1, p2⟩ := rSum_IF (tk := tk) (uU := uU) hI hF
  refine ⟨fun lo hi n a G h => ?_, fun lo hi n a G G' h w => ?_⟩
  · by_cases z : isCmp (tk (psum tk uU a).2)
    · obtain ⟨x, x1, x2, x3, -⟩ := h.2 z
      exact ⟨x, x3, by omega, x2⟩
    · exact p1 _ _ _ _ _ (h.1 z)
  · refine ⟨fun z => p2 _ _ _ _ _ _ (h.1 z) w, fun z => ?_⟩
    obtain ⟨x, x1, x2, rfl, x4, x5, x6⟩ := h.2 z
    have v : ∀ c, 16144 ≤ c → c ≤ 16155 → c ≠ 16154 → G' c (s * 1700 + x) = G c (s * 1700 + x) := fun c x y z => w c _ x y (by omega) (by omega) (by omega)
    refine ⟨x, x1, x2, rfl, by rw [v 16144 (by decide) (by decide) (by decide)]; exact x4, ?_, ?_⟩
    · rw [v 16151 (by decide) (by decide) (by decide)]
      exact p2 _ _ _ _ _ _ x5 (fun c j y1 y2 y3 y4 y5 => w c j y1 y2 y3 (by omega) (by omega))
    · rw [v 16152 (by decide) (by decide) (by decide)]
      exact p2 _ _ _ _ _ _ x6 (fun c j y1 y2 y3 y4 y5 => w c j y1 y2 (by omega) y4 (by omega))
theorem cNo_IF : RTI s cNo ∧ RTF s cNo := ⟨fun _ _ _ _ _ h => h.elim, fun _ _ _ _ _ _ h _ => h.elim⟩
theorem rEU_IF (B : gS) (s : Int) (tk : Int → Int) : ∀ D : Nat, (RTI s (rE B s tk D) ∧ RTF s (rE B s tk D)) ∧ RTI s (rU B s tk D) ∧ RTF s (rU B s tk D)
  | 0 => ⟨cNo_IF, rUnit_I cNo_IF.1, rUnit_F cNo_IF.1 cNo_IF.2 cNo_IF.1 cNo_IF.2⟩
  | D + 1 => by
    obtain ⟨h1, h2, h3⟩ := rEU_IF B s tk D
    have e := rExpr_IF (tk := tk) (uU := pU tk D) h2 h3
    exact ⟨e, rUnit_I e.1, rUnit_F e.1 e.2 h2 h3⟩
end RT1

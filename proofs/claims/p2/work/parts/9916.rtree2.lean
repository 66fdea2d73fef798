section RT2
-- the reference's trees of S's
def rType (B : gS) (s : Int) (tk : Int → Int) (a : Int) : Int := if tk a = 26 then 2 else nmR B s a
def rStmtsL (tk : Int → Int) (S : TT) (sS : Int → RR) : Nat → TT
  | 0 => fun _ _ _ _ _ => False
  | f + 1 => fun lo hi m a G => (tk a = 225 → m = -2 ∧ lo ≤ hi) ∧ (tk a ≠ 225 → ∃ x, x ≤ hi ∧ S lo x m a G ∧ rStmtsL tk S sS f x hi (G 16154 m) (sS a).2 G)
def rBlockT (s : Int) (tk : Int → Int) (S : TT) (sS : Int → RR) : TT := fun lo hi n a G => n = s * 1700 + lo ∧ lo < hi ∧ G 16144 n = 20 ∧ rStmtsL tk S sS 702 (lo + 1) hi (G 16151 n) (a + 1) G
def rLetT (B : gS) (s : Int) (tk : Int → Int) (T : TT) : TT := fun lo hi n a G => n = s * 1700 + lo ∧ lo < hi ∧ G 16144 n = 21 ∧ G 16147 n = plR B s (a + 1) ∧ G 16150 n = rType B s tk (a + 1) ∧ G 16148 n = nmR B s (a + 2) ∧ G 16146 n = plR B s (a + 2) ∧ T (lo + 1) hi (G 16151 n) (a + 4) G
/-- k: 22 if, 23 while -/
def rTestT (s : Int) (tk : Int → Int) (T S : TT) (eE sS : Int → RR) : TT := fun lo hi n a G => n = s * 1700 + lo ∧ lo < hi ∧ ∃ x y, x ≤ y ∧ y ≤ hi ∧ T (lo + 1) x (G 16151 n) (a + 2) G ∧ S x y (G 16152 n) ((eE (a + 2)).2 + 1) G ∧ (tk a = 30 → G 16144 n = 23) ∧ (tk a = 28 → G 16144 n = 22 ∧ (tk (eTest eE sS a) = 29 → S y hi (G 16153 n) (eTest eE sS a + 1) G) ∧ (tk (eTest eE sS a) ≠ 29 → G 16153 n = -2))
def rRetT (s : Int) (tk : Int → Int) (T : TT) : TT := fun lo hi n a G => n = s * 1700 + lo ∧ lo < hi ∧ G 16144 n = 24 ∧ (tk (a + 1) = 159 → G 16151 n = -2) ∧ (tk (a + 1) ≠ 159 → T (lo + 1) hi (G 16151 n) (a + 1) G)
def rThrT (s : Int) (tk : Int → Int) (T : TT) : TT := fun lo hi n a G => n = s * 1700 + lo ∧ lo < hi ∧ G 16144 n = (if tk a = 32 then 25 else 27) ∧ T (lo + 1) hi (G 16151 n) (a + 1) G
def rTryT (B : gS) (s : Int) (Bk : TT) (bB : Int → RR) : TT := fun lo hi n a G => n = s * 1700 + lo ∧ lo < hi ∧ G 16144 n = 26 ∧ G 16149 n = nmR B s ((bB (a + 1)).2 + 2) ∧ G 16147 n = plR B s ((bB (a + 1)).2 + 2) ∧ G 16148 n = nmR B s ((bB (a + 1)).2 + 3) ∧ G 16146 n = plR B s ((bB (a + 1)).2 + 3) ∧ ∃ x, x ≤ hi ∧ Bk (lo + 1) x (G 16151 n) (a + 1) G ∧ Bk x hi (G 16152 n) ((bB (a + 1)).2 + 5) G
def rSupT (s : Int) (tk : Int → Int) (T : TT) (eE : Int → RR) : TT := fun lo hi n a G => n = s * 1700 + lo ∧ lo < hi ∧ G 16144 n = 28 ∧ rArgs tk T eE (lo + 1) hi (G 16151 n) (a + 1) G
def rSimT (s : Int) (tk : Int → Int) (T : TT) (eE : Int → RR) : TT := fun lo hi n a G => ∃ x, lo < x ∧ x < hi ∧ n = s * 1700 + x ∧ T lo x (G 16151 n) a G ∧ (tk (eE a).2 = 161 → G 16144 n = 30 ∧ T (x + 1) hi (G 16152 n) ((eE a).2 + 1) G) ∧ (tk (eE a).2 ≠ 161 → G 16144 n = 29)
def rStatT (B : gS) (s : Int) (tk : Int → Int) (T S Bk : TT) (eE sS bB : Int → RR) : TT := fun lo hi n a G => bS tk a = true ∧ G 16145 n = plR B s a ∧ (tk a = 223 → rBlockT s tk S sS lo hi n a G) ∧ (isSup tk a → rSupT s tk T eE lo hi n a G) ∧ (¬ isSup tk a → bE tk a = true → rSimT s tk T eE lo hi n a G) ∧ (tk a = 27 → rLetT B s tk T lo hi n a G) ∧ (tk a = 28 ∨ tk a = 30 → rTestT s tk T S eE sS lo hi n a G) ∧ (tk a = 31 → rRetT s tk T lo hi n a G) ∧ (tk a = 32 ∨ tk a = 35 → rThrT s tk T lo hi n a G) ∧ (tk a = 33 → rTryT B s Bk bB lo hi n a G)
def rSB (B : gS) (s : Int) (tk : Int → Int) : Nat → TT × TT
  | 0 => (cNo, cNo)
  | D + 1 => (rStatT B s tk (rE B s tk D) (rSB B s tk D).1 (rSB B s tk D).2 (pE tk D) (pS tk D) (pB tk D), rBlockT s tk (rSB B s tk D).1 (pS tk D))
def rS (B : gS) (s : Int) (tk : Int → Int) (D : Nat) : TT := (rSB B s tk D).1
def rBk (B : gS) (s : Int) (tk : Int → Int) (D : Nat) : TT := (rSB B s tk D).2
variable {B G G' : gS} {s lo hi n a l : Int} {tk : Int → Int} {T S Bk : TT} {eE sS bB : Int → RR}
theorem rStmtsL_le (hI : RTI s S) : ∀ f lo hi m a G, rStmtsL tk S sS f lo hi m a G → lo ≤ hi ∧ (m = -2 ∨ ∃ k, m = s * 1700 + k ∧ lo ≤ k ∧ k < hi)
  | 0, lo, hi, m, a, G, h => h.elim
  | f + 1, lo, hi, m, a, G, ⟨h1, h2⟩ => by
    by_cases z : tk a = 225
    · exact ⟨(h1 z).2, Or.inl (h1 z).1⟩
    · obtain ⟨x, x1, x2, x3⟩ := h2 z
      obtain ⟨k, k1, k2, k3⟩ := hI _ _ _ _ _ x2
      exact ⟨by omega, Or.inr ⟨k, k1, k2, by omega⟩⟩
theorem rStmtsL_F (hI : RTI s S) (hF : RTF s S) : ∀ f lo hi m a G G', rStmtsL tk S sS f lo hi m a G → (∀ c j, 16144 ≤ c → c ≤ 16155 → s * 1700 + lo ≤ j → j < s * 1700 + hi → G' c j = G c j) → rStmtsL tk S sS f lo hi m a G'
  | 0, lo, hi, m, a, G, G', h, _ => h
  | f + 1, lo, hi, m, a, G, G', ⟨h1, h2⟩, w => by
    refine ⟨h1, fun z => ?_⟩
    obtain ⟨x, x1, x2, x3⟩ := h2 z
    obtain ⟨k, k1, k2, k3⟩ := hI _ _ _ _ _ x2
    have e : G' 16154 m = G 16154 m := w _ _ (by omega) (by omega) (by omega) (by omega)
    refine ⟨x, x1, hF _ _ _ _ _ _ x2 (fun c j y1 y2 y3 y4 _ => w c j y1 y2 y3 (by omega)), ?_⟩
    rw [e]
    exact rStmtsL_F hI hF f _ _ _ _ _ _ x3 (fun c j y1 y2 y3 y4 => w c j y1 y2 (by omega) y4)
theorem rBlockT_IF (hI : RTI s S) (hF : RTF s S) : RTI s (rBlockT s tk S sS) ∧ RTF s (rBlockT s tk S sS) := by
  refine ⟨fun lo hi n a G h => ⟨lo, h.1, Int.le_refl _, h.2.1⟩, fun lo hi n a G G' h w => ?_⟩
  obtain ⟨rfl, h0, h1, h2⟩ := h
  refine ⟨rfl, h0, by rw [w _ _ (by omega) (by omega) (by omega) (by omega) (by omega)]; exact h1, ?_⟩
  rw [w 16151 _ (by omega) (by omega) (by omega) (by omega) (by omega)]
  exact rStmtsL_F hI hF _ _ _ _ _ _ _ h2 (fun c j y1 y2 y3 y4 => w c j y1 y2 (by omega) y4 (by omega))
theorem rStatT_IF (hIT : RTI s T) (hFT : RTF s T) (hIS : RTI s S) (hFS : RTF s S) (hIB : RTI s Bk) (hFB : RTF s Bk) : RTI s (rStatT B s tk T S Bk eE sS bB) ∧ RTF s (rStatT B s tk T S Bk eE sS bB) := by
  have bs : ∀ a, bS tk a = true → tk a = 223 ∨ isSup tk a ∨ (¬ isSup tk a ∧ bE tk a = true) ∨ tk a = 27 ∨ (tk a = 28 ∨ tk a = 30) ∨ tk a = 31 ∨ (tk a = 32 ∨ tk a = 35) ∨ tk a = 33 := fun a h => by
    by_cases e : bE tk a = true
    · by_cases y : isSup tk a
      · exact Or.inr (Or.inl y)
      · exact Or.inr (Or.inr (Or.inl ⟨y, e⟩))
    · have e' : bE tk a = false := by
        rw [Bool.eq_false_iff]; exact e
      unfold bS at h
      rw [e'] at h
      simp at h
      omega
  refine ⟨fun lo hi n a G h => ?_, fun lo hi n a G G' h w => ?_⟩
  · obtain ⟨hb, h0, h1, h2, h3, h4, h5, h6, h7, h8⟩ := h
    rcases bs a hb with z | z | z | z | z | z | z | z
    · exact ⟨lo, (h1 z).1, Int.le_refl _, (h1 z).2.1⟩
    · exact ⟨lo, (h2 z).1, Int.le_refl _, (h2 z).2.1⟩
    · obtain ⟨x, x1, x2, x3, -⟩ := h3 z.1 z.2
      exact ⟨x, x3, by omega, x2⟩
    · exact ⟨lo, (h4 z).1, Int.le_refl _, (h4 z).2.1⟩
    · exact ⟨lo, (h5 z).1, Int.le_refl _, (h5 z).2.1⟩
    · exact ⟨lo, (h6 z).1, Int.le_refl _, (h6 z).2.1⟩
    · exact ⟨lo, (h7 z).1, Int.le_refl _, (h7 z).2.1⟩
    · exact ⟨lo, (h8 z).1, Int.le_refl _, (h8 z).2.1⟩
  · have hI : ∃ k, n = s * 1700 + k ∧ lo ≤ k ∧ k < hi := by
      obtain ⟨hb, h0, h1, h2, h3, h4, h5, h6, h7, h8⟩ := h
      rcases bs a hb with z | z | z | z | z | z | z | z
      · exact ⟨lo, (h1 z).1, Int.le_refl _, (h1 z).2.1⟩
      · exact ⟨lo, (h2 z).1, Int.le_refl _, (h2 z).2.1⟩
      · obtain ⟨x, x1, x2, x3, -⟩ := h3 z.1 z.2
        exact ⟨x, x3, by omega, x2⟩
      · exact ⟨lo, (h4 z).1, Int.le_refl _, (h4 z).2.1⟩
      · exact ⟨lo, (h5 z).1, Int.le_refl _, (h5 z).2.1⟩
      · exact ⟨lo, (h6 z).1, Int.le_refl _, (h6 z).2.1⟩
      · exact ⟨lo, (h7 z).1, Int.le_refl _, (h7 z).2.1⟩
      · exact ⟨lo, (h8 z).1, Int.le_refl _, (h8 z).2.1⟩
    obtain ⟨kn, hn, k1, k2⟩ := hI
    obtain ⟨hb, h0, h1, h2, h3, h4, h5, h6, h7, h8⟩ := h
    have v : ∀ c, 16144 ≤ c → c ≤ 16155 → c ≠ 16154 → G' c n = G c n := fun c x y z => w c _ x y (by omega) (by omega) (by omega)
    have v44 := v 16144 (by decide) (by decide) (by decide)
    have v46 := v 16146 (by decide) (by decide) (by decide)
    have v47 := v 16147 (by decide) (by decide) (by decide)
    have v48 := v 16148 (by decide) (by decide) (by decide)
    have v49 := v 16149 (by decide) (by decide) (by decide)
    have v50 := v 16150 (by decide) (by decide) (by decide)
    have v51 := v 16151 (by decide) (by decide) (by decide)
    have v52 := v 16152 (by decide) (by decide) (by decide)
    have v53 := v 16153 (by decide) (by decide) (by decide)
    have sub : ∀ {lo' hi' m'}, lo ≤ lo' → hi' ≤ hi → n < s * 1700 + lo' ∨ s * 1700 + hi' ≤ n → ∀ c j, 16144 ≤ c → c ≤ 16155 → s * 1700 + lo' ≤ j → j < s * 1700 + hi' → ¬ (c = 16154 ∧ j = m') → G' c j = G c j := fun u1 u2 u3 c j y1 y2 y3 y4 _ => w c j y1 y2 (by omega) (by omega) (by omega)
    refine ⟨hb, by rw [v 16145 (by decide) (by decide) (by decide)]; exact h0, fun z => (rBlockT_IF hIS hFS).2 _ _ _ _ _ _ (h1 z) w, fun z => ?_, fun z1 z2 => ?_, fun z => ?_, fun z => ?_, fun z => ?_, fun z => ?_, fun z => ?_⟩
    · obtain ⟨e, p1, p2, p3⟩ := h2 z
      unfold rSupT
      rw [v44, v51]
      exact ⟨e, p1, p2, rArgs_F hIT hFT p3 (fun c j y1 y2 y3 y4 => w c j y1 y2 (by omega) y4 (by omega))⟩
    · obtain ⟨x, x1, x2, x3, x4, x5, x6⟩ := h3 z1 z2
      unfold rSimT
      rw [v44, v51, v52]
      exact ⟨x, x1, x2, x3, hFT _ _ _ _ _ _ x4 (sub (by omega) (by omega) (by omega)), fun y => ⟨(x5 y).1, hFT _ _ _ _ _ _ (x5 y).2 (sub (by omega) (by omega) (by omega))⟩, x6⟩
    · obtain ⟨e, p1, p2, p3, p4, p5, p6, p7⟩ := h4 z
      unfold rLetT
      rw [v44, v46, v47, v48, v50, v51]
      exact ⟨e, p1, p2, p3, p4, p5, p6, hFT _ _ _ _ _ _ p7 (sub (by omega) (by omega) (by omega))⟩
    · obtain ⟨e, p1, x, y, p2, p3, p4, p5, p6, p7⟩ := h5 z
      obtain ⟨kx, kx1, kx2, kx3⟩ := hIT _ _ _ _ _ p4
      obtain ⟨ky, ky1, ky2, ky3⟩ := hIS _ _ _ _ _ p5
      unfold rTestT
      rw [v44, v51, v52, v53]
      refine ⟨e, p1, x, y, p2, p3, hFT _ _ _ _ _ _ p4 (sub (by omega) (by omega) (by omega)), hFS _ _ _ _ _ _ p5 (sub (by omega) (by omega) (by omega)), p6, fun u => ⟨(p7 u).1, fun u2 => hFS _ _ _ _ _ _ ((p7 u).2.1 u2) (sub (by omega) (by omega) (by omega)), (p7 u).2.2⟩⟩
    · obtain ⟨e, p1, p2, p3, p4⟩ := h6 z
      unfold rRetT
      rw [v44, v51]
      exact ⟨e, p1, p2, p3, fun u => hFT _ _ _ _ _ _ (p4 u) (sub (by omega) (by omega) (by omega))⟩
    · obtain ⟨e, p1, p2, p3⟩ := h7 z
      unfold rThrT
      rw [v44, v51]
      exact ⟨e, p1, p2, hFT _ _ _ _ _ _ p3 (sub (by omega) (by omega) (by omega))⟩
    · obtain ⟨e, p1, p2, p3, p4, p5, p6, x, x1, x2, x3⟩ := h8 z
      obtain ⟨kx, kx1, kx2, kx3⟩ := hIB _ _ _ _ _ x2
      unfold rTryT
      rw [v44, v46, v47, v48, v49, v51, v52]
      exact ⟨e, p1, p2, p3, p4, p5, p6, x, x1, hFB _ _ _ _ _ _ x2 (sub (by omega) (by omega) (by omega)), hFB _ _ _ _ _ _ x3 (sub (by omega) (by omega) (by omega))⟩
theorem rSB_IF (B : gS) (s : Int) (tk : Int → Int) : ∀ D : Nat, (RTI s (rS B s tk D) ∧ RTF s (rS B s tk D)) ∧ RTI s (rBk B s tk D) ∧ RTF s (rBk B s tk D)
  | 0 => ⟨cNo_IF, cNo_IF⟩
  | D + 1 => by
    obtain ⟨⟨h1, h2⟩, h3, h4⟩ := rSB_IF B s tk D
    obtain ⟨⟨e1, e2⟩, -⟩ := rEU_IF B s tk D
    exact ⟨rStatT_IF e1 e2 h1 h2 h3 h4, rBlockT_IF h1 h2⟩
end RT2

section LW7
def bl (c : Int) : Prop := c = 10 ∨ c = 32
def Sk (t : Int → Int) (n i j : Int) : Prop := i ≤ j ∧ j ≤ n ∧ (∀ k, i ≤ k → k < j → bl (t k)) ∧ (j < n → ¬ bl (t j))
theorem Sk_u {t : Int → Int} {n i j j' : Int} (h : Sk t n i j) (h' : Sk t n i j') : j = j' := by
  obtain ⟨a1, a2, a3, a4⟩ := h
  obtain ⟨b1, b2, b3, b4⟩ := h'
  rcases (show j < j' ∨ j = j' ∨ j' < j by omega) with q | q | q
  · exact absurd (b3 j a1 q) (a4 (by omega))
  · exact q
  · exact absurd (a3 j' b1 q) (b4 (by omega))
-- token j of the reference (x: its place in the rows)
def RT1 (G : gS) (n : Int) (t : Int → Int) (b x : Int) : Prop := Sk t n b (G 16091 x) ∧ (G 16091 x < n → RTok t (G 16091 x) (G 16092 x) (G 16090 x) (G 16093 x) (G 16094 x) 0 0 ∧ G 16091 x < G 16092 x ∧ G 16092 x ≤ n) ∧ (¬ G 16091 x < n → G 16090 x = 0 ∧ G 16092 x = n)
def RTs (G : gS) (s n : Int) (t : Int → Int) (k : Int) : Prop := ∀ j, 0 ≤ j → j < k → RT1 G n t (if j = 0 then 0 else G 16092 (s * 702 + j - 1)) (s * 702 + j)
def RTg (G : gS) (s k : Int) : Prop := ∀ j, 0 ≤ j → j < k → G 16090 (s * 702 + j) ≠ 0 ∧ G 16090 (s * 702 + j) ≠ 6
def F5 (G G' : gS) (x : Int) : Prop := ∀ c j, ¬ ((16090 ≤ c ∧ c ≤ 16094) ∧ j = x) → G' c j = G c j
theorem F5_id (G : gS) (x : Int) : F5 G G x := fun _ _ _ => rfl
theorem F5_up {G G' : gS} {x c v : Int} (h : F5 G G' x) (hc : 16090 ≤ c ∧ c ≤ 16094) : F5 G (uG G' c x v) x := fun c' j' q => by
  rw [uG_ne (by omega)]
  exact h c' j' q
theorem F5_3 {G G' G'' : gS} {x : Int} (h : F5 G G' x) (h3 : F3 G' G'' x) : F5 G G'' x := fun c' j' q => by
  rw [h3 c' j' (by omega)]
  exact h c' j' q
theorem F5_RB {G G' : gS} {x s n : Int} {t : Int → Int} (h : F5 G G' x) (hb : RB G s n t) : RB G' s n t := by
  obtain ⟨h1, h2, h3, h4, h5⟩ := hb
  exact ⟨by rw [h _ _ (by omega)]; exact h1, h2, h3, by rw [h _ _ (by omega)]; exact h4, fun i a b => by rw [h _ _ (by omega)]; exact h5 i a b⟩
theorem F5_WR {G G' : gS} {x : Int} (h : F5 G G' x) (hw : WR G) : WR G' := ⟨by rw [h _ _ (by omega)]; exact hw.1, fun w a b => by rw [h _ _ (by omega)]; exact hw.2 w a b⟩
theorem F5_RT1 {G G' : gS} {x y n b : Int} {t : Int → Int} (h : F5 G G' x) (hy : y ≠ x) (q : RT1 G n t b y) : RT1 G' n t b y := by
  unfold RT1 at *
  rw [h 16090 y (by omega), h 16091 y (by omega), h 16092 y (by omega), h 16093 y (by omega), h 16094 y (by omega)]
  exact q
theorem F5_RTs {G G' : gS} {s n k : Int} {t : Int → Int} (h : F5 G G' (s * 702 + k)) (q : RTs G s n t k) (hk : RT1 G' n t (if k = 0 then 0 else G' 16092 (s * 702 + k - 1)) (s * 702 + k)) : RTs G' s n t (k + 1) := fun j a b => by
  rcases (show j = k ∨ j < k by omega) with z | z
  · rw [z]; exact hk
  · have := F5_RT1 h (by omega) (q j a z)
    rwa [← h 16092 (s * 702 + j - 1) (by omega)] at this
theorem F5_RTg {G G' : gS} {s k : Int} (h : F5 G G' (s * 702 + k)) (q : RTg G s k) (h0 : G' 16090 (s * 702 + k) ≠ 0) (h6 : G' 16090 (s * 702 + k) ≠ 6) : RTg G' s (k + 1) := fun j a b => by
  rcases (show j = k ∨ j < k by omega) with z | z
  · rw [z]; exact ⟨h0, h6⟩
  · rw [h 16090 (s * 702 + j) (by omega)]; exact q j a z
-- what tokenize changes
def FT (G G' : gS) (s : Int) : Prop := ∀ c j, ¬ ((16090 ≤ c ∧ c ≤ 16094) ∧ s * 702 ≤ j ∧ j < s * 702 + 702) → ¬ (c = 16095 ∧ j = s) → G' c j = G c j
theorem FT_5 {G G' G'' : gS} {s k : Int} (h : FT G G' s) (h5 : F5 G' G'' (s * 702 + k)) (h0 : 0 ≤ k) (h1 : k < 702) : FT G G'' s := fun c j a b => by
  rw [h5 c j (by omega)]
  exact h c j a b
theorem FT_RB {G G' : gS} {s n : Int} {t : Int → Int} (h : FT G G' s) (hb : RB G s n t) : RB G' s n t := by
  obtain ⟨h1, h2, h3, h4, h5⟩ := hb
  exact ⟨by rw [h _ _ (by omega) (by omega)]; exact h1, h2, h3, by rw [h _ _ (by omega) (by omega)]; exact h4, fun i a b => by rw [h _ _ (by omega) (by omega)]; exact h5 i a b⟩
theorem FT_WR {G G' : gS} {s : Int} (h : FT G G' s) (hw : WR G) : WR G' := ⟨by rw [h _ _ (by omega) (by omega)]; exact hw.1, fun w a b => by rw [h _ _ (by omega) (by omega)]; exact hw.2 w a b⟩
variable {G : gS} {Q : Int → gS → Prop} {t : Int → Int} {s n : Int}
-- between two tokens: k of them are there, the next is looked for from b on
def TkI (G G' : gS) (s n : Int) (t : Int → Int) (k b : Int) : Prop := FT G G' s ∧ 0 ≤ k ∧ k ≤ 700 ∧ b = (if k = 0 then 0 else G' 16092 (s * 702 + k - 1)) ∧ 0 ≤ b ∧ b ≤ n ∧ RTs G' s n t k ∧ RTg G' s k
-- all tokens are there
def TkE (G G' : gS) (s n : Int) (t : Int → Int) (k : Int) : Prop := FT G G' s ∧ 1 ≤ k ∧ k ≤ 701 ∧ RTs G' s n t k ∧ RTg G' s (k - 1) ∧ (G' 16090 (s * 702 + k - 1) = 0 ∨ G' 16090 (s * 702 + k - 1) = 6 ∨ k = 701)
theorem tok_put {G' : gS} {J : JT} {k b a : Int} (hb : RB G s n t) (ht : Tx t n) (hw : WR G) (hI : TkI G G' s n t k b) (hs : Sk t n b a) (hE : ∀ e G'', TkE G G'' s n t (k + 1) → J 0 [e, k + 1, 0] G'' Q) (hN : ∀ e G'', TkI G G'' s n t (k + 1) e → J 0 [e, k + 1, 1] G'' Q) : PX13_tokenize_49 J a k 1 G' Q := by
  obtain ⟨i1, i2, i3, i4, i5, i6, i7, i8⟩ := hI
  have hb' := FT_RB i1 hb
  obtain ⟨s1, s2, s3, s4, s5⟩ := hb'
  obtain ⟨a1, a2, a3, a4⟩ := hs
  have hn := ht.2.1
  have e4 : ∀ c v, 16090 ≤ c → c ≤ 16094 → ∀ g : gS, g 16081 19 = s → uG g c (s * 702 + k) v 16081 19 = s := fun c v c1 c2 g hg => by rw [uG_c (by omega)]; exact hg
  -- what stands behind the four puts
  have hend : ∀ (G2 : gS) (e : Int), F5 G' G2 (s * 702 + k) → G2 16091 (s * 702 + k) = a → (a < n → RTok t a e (G2 16090 (s * 702 + k)) (G2 16093 (s * 702 + k)) (G2 16094 (s * 702 + k)) 0 0 ∧ a < e ∧ e ≤ n) → (¬ a < n → G2 16090 (s * 702 + k) = 0 ∧ e = n) → PX13_tokenize_117 J a k 1 (s * 702 + k) e G2 Q := by
    intro G2 e h5 ha hr hz
    have h5' : F5 G' (uG G2 16092 (s * 702 + k) e) (s * 702 + k) := F5_up h5 (by omega)
    have kd : uG G2 16092 (s * 702 + k) e 16090 (s * 702 + k) = G2 16090 (s * 702 + k) := by rw [uG_c (by decide)]
    have r1 : RT1 (uG G2 16092 (s * 702 + k) e) n t b (s * 702 + k) := by
      unfold RT1
      rw [kd, uG_at, uG_c (c' := 16091) (by decide), uG_c (c' := 16093) (by decide), uG_c (c' := 16094) (by decide), ha]
      exact ⟨⟨a1, a2, a3, a4⟩, hr, hz⟩
    have hbb : b = (if k = 0 then 0 else uG G2 16092 (s * 702 + k) e 16092 (s * 702 + k - 1)) := by
      rw [i4, h5' 16092 (s * 702 + k - 1) (by omega)]
    have hRT := F5_RTs h5' i7 (by rw [← hbb]; exact r1)
    have hFT := FT_5 i1 h5' i2 (by omega)
    have he : 0 ≤ e ∧ e ≤ n := by
      by_cases z : a < n
      · have := (hr z).2; omega
      · have := (hz z).2; omega
    have last : uG G2 16092 (s * 702 + k) e 16090 (s * 702 + (k + 1) - 1) = G2 16090 (s * 702 + k) := by rw [show s * 702 + (k + 1) - 1 = s * 702 + k by omega]; exact kd
    have stop : (G2 16090 (s * 702 + k) = 0 ∨ G2 16090 (s * 702 + k) = 6 ∨ k + 1 = 701) → PX13_tokenize_161 J a k 1 (s * 702 + k) e (uG G2 16092 (s * 702 + k) e) Q := fun z => by
      unfold PX13_tokenize_161 PX13_tokenize_162
      refine ⟨by unfold inI; omega, hE e _ ⟨hFT, by omega, by omega, hRT, ?_, by rw [last]; exact z⟩⟩
      rw [show k + 1 - 1 = k by omega]
      exact fun j x y => by rw [h5' 16090 (s * 702 + j) (by omega)]; exact i8 j x y
    unfold PX13_tokenize_117
    refine ⟨by omega, by omega, fun G3 e3 => ⟨by omega, by omega, fun _ => ?_⟩⟩
    subst e3
    rw [kd]
    refine ⟨fun z => stop (Or.inl z), fun z => ⟨by omega, by omega, fun _ => ⟨fun z2 => stop (Or.inr (Or.inl z2)), fun z2 => ⟨fun z3 => ?_, fun z3 => stop (Or.inr (Or.inr (by omega)))⟩⟩⟩⟩
    unfold PX13_tokenize_162
    refine ⟨by unfold inI; omega, hN e _ ⟨hFT, by omega, by omega, ?_, he.1, he.2, hRT, F5_RTg h5' i8 (by rw [kd]; exact z) (by rw [kd]; exact z2)⟩⟩
    rw [if_neg (by omega), show s * 702 + (k + 1) - 1 = s * 702 + k by omega, uG_at]
  unfold PX13_tokenize_49
  rw [s1]
  refine fun _ => ⟨by unfold inI; omega, by omega, by omega, fun G1 e1 => ⟨by omega, by omega, fun G2 e2 => ⟨by omega, by omega, fun G3 e3 => ⟨by omega, by omega, fun G4 e5 => ?_⟩⟩⟩⟩
  have h5 : F5 G' G4 (s * 702 + k) := by
    subst e1 e2 e3 e5
    exact F5_up (F5_up (F5_up (F5_up (F5_id _ _) (by omega)) (by omega)) (by omega)) (by omega)
  have hb4 := F5_RB h5 (FT_RB i1 hb)
  have hw4 := F5_WR h5 (FT_WR i1 hw)
  have v1 : G4 16091 (s * 702 + k) = a := by
    subst e1 e2 e3 e5
    rw [uG_c (by decide), uG_c (by decide), uG_c (by decide), uG_at]
  have v0 : G4 16090 (s * 702 + k) = 0 := by
    subst e5
    rw [uG_at]
  have v3 : G4 16093 (s * 702 + k) = 0 := by
    subst e2 e3 e5
    rw [uG_c (by decide), uG_c (by decide), uG_at]
  have v4 : G4 16094 (s * 702 + k) = 0 := by
    subst e3 e5
    rw [uG_c (by decide), uG_at]
  obtain ⟨q1, q2, q3, q4, q5⟩ := hb4
  rw [q1, q4]
  refine fun _ => ⟨s2, by omega, fun _ => ⟨fun z => ?_, fun z => hend G4 a h5 v1 (fun y => absurd y z) (fun _ => ⟨v0, by omega⟩)⟩⟩
  refine sX13_tokenAt ⟨q1, q2, q3, q4, q5⟩ ht hw4 (by omega) z (by omega) (by omega) (fun e G5 r f3 l1 l2 => fun _ => ?_)
  rw [v3, v4] at r
  exact hend G5 e (F5_3 h5 f3) (by rw [f3 _ _ (by omega)]; exact v1) (fun _ => ⟨r, l1, l2⟩) (fun y => absurd z y)
end LW7

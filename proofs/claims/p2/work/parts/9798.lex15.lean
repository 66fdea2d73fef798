section LWF
theorem wd_nm {w : Int} (h0 : 0 ≤ w) (h1 : w < 30) : NmR (cwd w) (rwd w) := by
  rcases (show w = 0 ∨ w = 1 ∨ w = 2 ∨ w = 3 ∨ w = 4 ∨ w = 5 ∨ w = 6 ∨ w = 7 ∨ w = 8 ∨ w = 9 ∨ w = 10 ∨ w = 11 ∨ w = 12 ∨ w = 13 ∨ w = 14 ∨ w = 15 ∨ w = 16 ∨ w = 17 ∨ w = 18 ∨ w = 19 ∨ w = 20 ∨ w = 21 ∨ w = 22 ∨ w = 23 ∨ w = 24 ∨ w = 25 ∨ w = 26 ∨ w = 27 ∨ w = 28 ∨ w = 29 by omega) with e | e | e | e | e | e | e | e | e | e | e | e | e | e | e | e | e | e | e | e | e | e | e | e | e | e | e | e | e | e <;> subst e
  · exact (show NmR (39412220857155584) (53482707) from ⟨⟨by decide, by decide⟩, 5, by decide, by decide, by decide, by decide, by decide, by decide⟩)
  · exact (show NmR (90367005261037568) (1577157) from ⟨⟨by decide, by decide⟩, 4, by decide, by decide, by decide, by decide, by decide, by decide⟩)
  · exact (show NmR (5348024557502464) (83) from ⟨⟨by decide, by decide⟩, 2, by decide, by decide, by decide, by decide, by decide, by decide⟩)
  · exact (show NmR (149463212633358336) (595) from ⟨⟨by decide, by decide⟩, 2, by decide, by decide, by decide, by decide, by decide, by decide⟩)
  · exact (show NmR (148055837749805056) (590) from ⟨⟨by decide, by decide⟩, 2, by decide, by decide, by decide, by decide, by decide, by decide⟩)
  · exact (show NmR (398938552685035520) (6067464) from ⟨⟨by decide, by decide⟩, 4, by decide, by decide, by decide, by decide, by decide, by decide⟩)
  · exact (show NmR (256196723351748608) (3990297) from ⟨⟨by decide, by decide⟩, 4, by decide, by decide, by decide, by decide, by decide, by decide⟩)
  · exact (show NmR (256728131065348096) (3998030) from ⟨⟨by decide, by decide⟩, 4, by decide, by decide, by decide, by decide, by decide, by decide⟩)
  · exact (show NmR (182738832536371200) (45646) from ⟨⟨by decide, by decide⟩, 3, by decide, by decide, by decide, by decide, by decide, by decide⟩)
  · exact (show NmR (258737076248248320) (62926) from ⟨⟨by decide, by decide⟩, 3, by decide, by decide, by decide, by decide, by decide, by decide⟩)
  · exact (show NmR (92666921593339904) (103080012) from ⟨⟨by decide, by decide⟩, 5, by decide, by decide, by decide, by decide, by decide, by decide⟩)
  · exact (show NmR (18375381920776192) (529541) from ⟨⟨by decide, by decide⟩, 4, by decide, by decide, by decide, by decide, by decide, by decide⟩)
  · exact (show NmR (329894454854942720) (20736983619) from ⟨⟨by decide, by decide⟩, 6, by decide, by decide, by decide, by decide, by decide, by decide⟩)
  · exact (show NmR (329894329176817664) (324015252) from ⟨⟨by decide, by decide⟩, 5, by decide, by decide, by decide, by decide, by decide, by decide⟩)
  · exact (show NmR (382564350646288384) (5829188) from ⟨⟨by decide, by decide⟩, 4, by decide, by decide, by decide, by decide, by decide, by decide⟩)
  · exact (show NmR (235695710576574464) (57687) from ⟨⟨by decide, by decide⟩, 3, by decide, by decide, by decide, by decide, by decide, by decide⟩)
  · exact (show NmR (148143798680027136) (37780) from ⟨⟨by decide, by decide⟩, 3, by decide, by decide, by decide, by decide, by decide, by decide⟩)
  · exact (show NmR (199653719418077184) (49492) from ⟨⟨by decide, by decide⟩, 3, by decide, by decide, by decide, by decide, by decide, by decide⟩)
  · exact (show NmR (145804037936119808) (582) from ⟨⟨by decide, by decide⟩, 2, by decide, by decide, by decide, by decide, by decide, by decide⟩)
  · exact (show NmR (75519200239550464) (1361093) from ⟨⟨by decide, by decide⟩, 4, by decide, by decide, by decide, by decide, by decide, by decide⟩)
  · exact (show NmR (398608979443318784) (388010757) from ⟨⟨by decide, by decide⟩, 5, by decide, by decide, by decide, by decide, by decide, by decide⟩)
  · exact (show NmR (307741573146214400) (19416568974) from ⟨⟨by decide, by decide⟩, 6, by decide, by decide, by decide, by decide, by decide, by decide⟩)
  · exact (show NmR (344605591819255808) (337716183) from ⟨⟨by decide, by decide⟩, 5, by decide, by decide, by decide, by decide, by decide, by decide⟩)
  · exact (show NmR (347450072423727104) (83097) from ⟨⟨by decide, by decide⟩, 3, by decide, by decide, by decide, by decide, by decide, by decide⟩)
  · exact (show NmR (36398447674261504) (50675912) from ⟨⟨by decide, by decide⟩, 5, by decide, by decide, by decide, by decide, by decide, by decide⟩)
  · exact (show NmR (258200514573893632) (62804) from ⟨⟨by decide, by decide⟩, 3, by decide, by decide, by decide, by decide, by decide, by decide⟩)
  · exact (show NmR (240151756326043648) (3756812) from ⟨⟨by decide, by decide⟩, 4, by decide, by decide, by decide, by decide, by decide, by decide⟩)
  · exact (show NmR (344566259582500864) (5276243) from ⟨⟨by decide, by decide⟩, 4, by decide, by decide, by decide, by decide, by decide, by decide⟩)
  · exact (show NmR (330240879350513664) (324338002) from ⟨⟨by decide, by decide⟩, 5, by decide, by decide, by decide, by decide, by decide, by decide⟩)
  · exact (show NmR (5396403069124608) (5323) from ⟨⟨by decide, by decide⟩, 3, by decide, by decide, by decide, by decide, by decide, by decide⟩)
-- a token of the class and one of the reference
def TR (kc cc kr nr vr : Int) : Prop := (kr = 0 ∧ kc = 0) ∨ (kr = 6 ∧ kc = 1) ∨ (kr = 1 ∧ kc = 2 ∧ CnR cc nr) ∨ (kr = 2 ∧ kc = 3 ∧ NmR cc nr) ∨ (kr = 4 ∧ kc = 4 ∧ cc = vr ∧ 0 ≤ vr ∧ vr < 1000000000) ∨ (kr = 3 ∧ ∃ w, 0 ≤ w ∧ w < 30 ∧ nr = rwd w ∧ kc = 10 + w) ∨ (kr = 5 ∧ vr = 256 ∧ kc = 99) ∨ (kr = 5 ∧ sg vr ∧ kc = 100 + vr)
theorem We_n {t : Int → Int} {i e : Int} (h : We t i e) (hs : sy (t i) ≠ 0) : i < e := by
  rcases (show i < e ∨ i = e by have := h.1; omega) with z | z
  · exact z
  · have := h.2.2; rw [← z] at this; exact absurd this hs
theorem tok_same {t : Int → Int} {i ec er kc cc kr nr vr : Int} (hl : ∀ j, -128 ≤ t j ∧ t j < 128) (hc : CTok t i ec kc cc) (hr : RTok t i er kr nr vr 0 0) : ec = er ∧ TR kc cc kr nr vr ∧ kr ≠ 0 := by
  obtain ⟨c1, c2, c3, c4⟩ := hc
  obtain ⟨r1, r2, r3, r4⟩ := hr
  by_cases a : isCl t i
  · obtain ⟨x1, x2, x3⟩ := c1 a
    obtain ⟨y1, y2, y3, y4⟩ := r1 a
    have e := We_u x1 y1
    subst e
    refine ⟨rfl, ?_⟩
    by_cases z : 11 < ec - i
    · exact ⟨Or.inr (Or.inl ⟨y3 z, x2 z⟩), by rw [y3 z]; decide⟩
    · obtain ⟨u1, u2, u3⟩ := x3 z
      obtain ⟨v1, v2⟩ := y4 z
      refine ⟨Or.inr (Or.inr (Or.inl ⟨v1, u1, u2, (ec - (i + 2)).toNat, sy (t i), gv 0 t (i + 2) (ec - (i + 2)).toNat, ?_⟩)), by rw [v1]; decide⟩
      have sm := a.1
      have g := a.2.2
      unfold isSm at sm
      have s1 : sy (t i) = t i - 96 := by unfold sy; rw [if_pos sm]
      have s2 : sy (t (i + 2)) = t (i + 2) - 38 := by unfold sy; rw [if_neg (by omega), if_pos (by omega)]
      have hlt := We_n x1 (by rw [s2]; omega)
      have lo := gv_lo t (i + 2) ((ec - (i + 2)).toNat - 1)
      have ez : (ec - (i + 2)).toNat - 1 + 1 = (ec - (i + 2)).toNat := by omega
      rw [ez] at lo
      have p0 : (0 : Int) < 64 ^ ((ec - (i + 2)).toNat - 1) := Int.pow_pos (by omega)
      have m1 : 27 * (64 : Int) ^ ((ec - (i + 2)).toNat - 1) ≤ sy (t (i + 2)) * 64 ^ ((ec - (i + 2)).toNat - 1) := Int.mul_le_mul_of_nonneg_right (by omega) (by omega)
      have m2 : (sy (t (i + 2)) + 1) * (64 : Int) ^ ((ec - (i + 2)).toNat - 1) ≤ 53 * 64 ^ ((ec - (i + 2)).toNat - 1) := Int.mul_le_mul_of_nonneg_right (by omega) (by omega)
      have ls := x1.2.1 (i + 2 + (((ec - (i + 2)).toNat - 1 : Nat) : Int)) (by omega) (by omega)
      refine ⟨by omega, by omega, by omega, by omega, by omega, by omega, by rw [lo.2.2]; exact ls, by rw [v2, gv_p], u3⟩
  · by_cases b : isSm t i
    · obtain ⟨x1, x2, x3⟩ := c2 b a
      obtain ⟨y1, y2, y3, y4⟩ := r2 b a
      have e := We_u x1 y1
      subst e
      refine ⟨rfl, ?_⟩
      by_cases z : 10 < ec - i
      · exact ⟨Or.inr (Or.inl ⟨y3 z, x2 z⟩), by rw [y3 z]; decide⟩
      · obtain ⟨u1, u2, u3⟩ := x3 z
        obtain ⟨v1, v2⟩ := y4 z
        have sm := b
        unfold isSm at sm
        have s1 : sy (t i) = t i - 96 := by unfold sy; rw [if_pos sm]
        have hlt := We_n x1 (by rw [s1]; omega)
        have lo := gv_lo t i ((ec - i).toNat - 1)
        have ez : (ec - i).toNat - 1 + 1 = (ec - i).toNat := by omega
        rw [ez] at lo
        have p0 : (0 : Int) < 64 ^ ((ec - i).toNat - 1) := Int.pow_pos (by omega)
        have m1 : 1 * (64 : Int) ^ ((ec - i).toNat - 1) ≤ sy (t i) * 64 ^ ((ec - i).toNat - 1) := Int.mul_le_mul_of_nonneg_right (by omega) (by omega)
        have m2 : (sy (t i) + 1) * (64 : Int) ^ ((ec - i).toNat - 1) ≤ 27 * 64 ^ ((ec - i).toNat - 1) := Int.mul_le_mul_of_nonneg_right (by omega) (by omega)
        have ls := x1.2.1 (i + (((ec - i).toNat - 1 : Nat) : Int)) (by omega) (by omega)
        have nm : NmR cc nr := ⟨u1, (ec - i).toNat, by omega, by omega, by rw [v1]; omega, by rw [v1]; omega, by rw [v1, lo.2.2]; exact ls, by rw [v1]; exact u2⟩
        rcases v2 with ⟨w1, w, w2, w3, w4⟩ | ⟨w1, w2⟩
        · have ew : cwd w = cc := (Nm_eq (wd_nm w2 w3) nm).mpr w4
          rcases u3 with ⟨q, q1, q2, q3, q4⟩ | ⟨q1, q2⟩
          · have ewq : rwd q = nr := (Nm_eq (wd_nm q1 q2) nm).mp q3
            exact ⟨Or.inr (Or.inr (Or.inr (Or.inr (Or.inr (Or.inl ⟨w1, q, q1, q2, ewq.symm, q4⟩))))), by rw [w1]; decide⟩
          · exact absurd ew (q2 w w2 w3)
        · rcases u3 with ⟨q, q1, q2, q3, q4⟩ | ⟨q1, q2⟩
          · exact absurd ⟨q, q1, q2, (Nm_eq (wd_nm q1 q2) nm).mp q3⟩ w2
          · exact ⟨Or.inr (Or.inr (Or.inr (Or.inl ⟨w1, q1, nm⟩))), by rw [w1]; decide⟩
    · by_cases d : dg (t i)
      · obtain ⟨x1, x2, x3⟩ := c3 d
        obtain ⟨y1, y2, y3, y4⟩ := r3 d
        have e := Ne_u x1 y1
        subst e
        refine ⟨rfl, ?_⟩
        by_cases z : 9 < ec - i
        · exact ⟨Or.inr (Or.inl ⟨y3 z, x2 z⟩), by rw [y3 z]; decide⟩
        · obtain ⟨u1, u2⟩ := x3 z
          obtain ⟨v1, v2⟩ := y4 z
          have nb := nv_b (t := t) (i := i) (ec - i).toNat (fun j a b => x1.2.1 j a (by omega))
          have p9 : ∀ k : Nat, k < 10 → (10 : Int) ^ k ≤ 1000000000 := by decide
          have := p9 (ec - i).toNat (by omega)
          exact ⟨Or.inr (Or.inr (Or.inr (Or.inr (Or.inl ⟨v1, u1, by rw [u2, v2], by rw [v2]; omega, by rw [v2]; omega⟩)))), by rw [v1]; decide⟩
      · obtain ⟨x1, x2⟩ := c4 b d
        obtain ⟨y1, y2, y3⟩ := r4 b d
        by_cases z : t i = 61 ∧ t (i + 1) = 61
        · obtain ⟨u1, u2⟩ := x1 z
          obtain ⟨v1, v2, v3⟩ := y2 z
          exact ⟨by omega, Or.inr (Or.inr (Or.inr (Or.inr (Or.inr (Or.inr (Or.inl ⟨v2, v3, u2⟩)))))), by rw [v2]; decide⟩
        · obtain ⟨u1, u2, u3⟩ := x2 z
          obtain ⟨v1, v2, v3⟩ := y3 z
          refine ⟨by omega, ?_⟩
          by_cases g : sg (t i)
          · obtain ⟨w1, w2⟩ := v2 g
            exact ⟨Or.inr (Or.inr (Or.inr (Or.inr (Or.inr (Or.inr (Or.inr ⟨w1, by rw [w2]; exact g, by rw [w2]; exact u2 g⟩)))))), by rw [w1]; decide⟩
          · exact ⟨Or.inr (Or.inl ⟨v3 g, u3 g⟩), by rw [v3 g]; decide⟩
-- the rows of both, up to what the reference has
theorem lex_step {G : gS} {t : Int → Int} {s n c k b : Int} (hl : ∀ j, -128 ≤ t j ∧ t j < 128) (h1 : CTs G n t c) (h4 : G 9 c = 0) (h5 : G 10 c = n) (h6 : (1 ≤ c ∧ G 9 (c - 1) = 1) ∨ c = 702 ∨ Sk t n (pv G c) n) (h7 : RT1 G n t b (s * 702 + k)) (h9 : k < 701) (k0 : 0 ≤ k) (k1 : k ≤ c) (hb : b = pv G k) (hp : 1 ≤ k → G 9 (k - 1) ≠ 1) : G 10 k = G 16091 (s * 702 + k) ∧ TR (G 9 k) (G 12 k) (G 16090 (s * 702 + k)) (G 16093 (s * 702 + k)) (G 16094 (s * 702 + k)) ∧ (k < c → G 11 k = G 16092 (s * 702 + k)) ∧ (k = c → G 16090 (s * 702 + k) = 0) := by
  obtain ⟨r1, r2, r3⟩ := h7
  rcases (show k < c ∨ k = c by omega) with q | q
  · obtain ⟨d1, d2, d3, d4, d5⟩ := h1 k k0 q
    rw [← hb] at d1
    have e := Sk_u d1 r1
    obtain ⟨x1, x2, x3⟩ := r2 (by rw [← e]; exact d2)
    rw [← e] at x1
    obtain ⟨y1, y2, y3⟩ := tok_same hl d3 x1
    exact ⟨e, y2, fun _ => y1, fun z => by omega⟩
  · subst q
    have hs : Sk t n (pv G k) n := by
      rcases h6 with h6 | h6 | h6
      · exact absurd h6.2 (hp h6.1)
      · omega
      · exact h6
    rw [← hb] at hs
    have e := Sk_u r1 hs
    obtain ⟨x1, x2⟩ := r3 (by omega)
    exact ⟨by rw [h5, e], Or.inl ⟨x1, h4⟩, fun z => by omega, fun _ => x1⟩
theorem lex_same {G : gS} {t : Int → Int} {s n c N : Int} (hl : ∀ j, -128 ≤ t j ∧ t j < 128) (h1 : CTs G n t c) (h2 : 0 ≤ c) (h4 : G 9 c = 0) (h5 : G 10 c = n) (h6 : (1 ≤ c ∧ G 9 (c - 1) = 1) ∨ c = 702 ∨ Sk t n (pv G c) n) (h7 : RTs G s n t N) (h8 : RTg G s (N - 1)) (h9 : N ≤ 701) : ∀ k : Nat, (k : Int) < N → (k : Int) ≤ c ∧ G 10 k = G 16091 (s * 702 + k) ∧ TR (G 9 k) (G 12 k) (G 16090 (s * 702 + k)) (G 16093 (s * 702 + k)) (G 16094 (s * 702 + k)) ∧ ((k : Int) < c → G 11 k = G 16092 (s * 702 + k)) ∧ ((k : Int) = c → G 16090 (s * 702 + k) = 0) := by
  intro k
  induction k with
  | zero =>
    intro hk
    have hk : (0 : Int) < N := hk
    have h := h7 0 (by omega) (by omega)
    rw [if_pos rfl] at h
    exact ⟨by omega, lex_step hl h1 h4 h5 h6 h (by omega) (by omega) (by omega) rfl (fun z => by omega)⟩
  | succ k ih =>
    rw [show ((k + 1 : Nat) : Int) = (k : Int) + 1 by omega]
    intro hk
    obtain ⟨i1, i2, i3, i4, i5⟩ := ih (by omega)
    obtain ⟨g0, g6⟩ := h8 k (by omega) (by omega)
    have q : (k : Int) < c := by
      rcases (show (k : Int) < c ∨ (k : Int) = c by omega) with q | q
      · exact q
      · exact absurd (i5 q) g0
    have h := h7 (k + 1) (by omega) hk
    rw [if_neg (by omega)] at h
    refine ⟨by omega, lex_step hl h1 h4 h5 h6 h (by omega) (by omega) (by omega) ?_ (fun _ z => ?_)⟩
    · unfold pv
      rw [if_neg (by omega), show s * 702 + ((k : Int) + 1) - 1 = s * 702 + k by omega, show (k : Int) + 1 - 1 = k by omega]
      exact (i4 q).symm
    · rw [show (k : Int) + 1 - 1 = k by omega] at z
      rcases i3 with x | x | x | x | x | x | x | x
      · exact g0 x.1
      · exact g6 x.1
      · have := x.2.1; omega
      · have := x.2.1; omega
      · have := x.2.1; omega
      · obtain ⟨-, w, w0, w1, -, w3⟩ := x; omega
      · have := x.2.2; omega
      · have := x.2.1; have := x.2.2; unfold sg at *; omega
end LWF

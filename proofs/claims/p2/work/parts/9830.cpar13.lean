section CQ5
variable {tk cd : Int → Int} {T : TT} {eE : Int → RR} {c d i a i0 a0 : Int} {G0 G G1 : gS}
-- within an S that began at a0 with node i0: no FAULT yet; behind a FAULT
def MS (G0 G : gS) (tk cd : Int → Int) (c i0 i a d : Int) : Prop := Pre G tk cd c i a d ∧ FP G0 G ∧ ∀ k j, 14 ≤ k → k < 14 + i0 → G k j = G0 k j
def BAD (G0 G1 : gS) (r : RR) : Prop := FP G0 G1 ∧ G1 7 9 = r.1 ∧ AT G1 r.2 ∧ r.1 ≠ 0
theorem MS_nd {G2 : gS} {k : Int} (h : Pre G tk cd c i a d) (hd : d < 12) (hN : NN G G2 i k a) : MS G G2 tk cd c i (i + 1) a (d + 1) := by
  obtain ⟨p1, p2, p3, p4, p5, p6, p7, p8, p9, p10, p11, p12⟩ := h
  have f := NN_FP hN p8 (by omega)
  obtain ⟨g14, g0, g1, g2, g3, g4, g5, g6, g7, g8, g9, g10, g11, gf⟩ := hN
  exact ⟨⟨PT_FP p1 f, by rw [gf 7 8 (by omega) (by omega)]; exact p2, by rw [gf 7 9 (by omega) (by omega)]; exact p3, p4, p5, p6, g14, by omega, by omega, by omega, by omega, CD_FP p12 f⟩, f, fun k j x y => gf k j (by omega) (by omega)⟩
theorem MS_st {k j v : Int} (h : MS G0 G tk cd c i0 i a d) (h0 : 0 ≤ i0) (hk : 14 + i0 ≤ k ∧ k < 814) : MS G0 (uG G k j v) tk cd c i0 i a d := ⟨Pre_nd h.1 (by omega), FP_up h.2.1 (by omega), fun k' j' x y => by rw [uG_c (by omega)]; exact h.2.2 k' j' x y⟩
theorem MS_tk (h : MS G0 G tk cd c i0 i a d) (h1 : a < 700) (ht : tk a ≠ 0) : MS G0 (uG G 7 8 (a + 1)) tk cd c i0 i (a + 1) d := ⟨Pre_take h.1 h1 ht, FP_up h.2.1 (by omega), fun k' j' x y => by rw [uG_c (by omega)]; exact h.2.2 k' j' x y⟩
theorem MS_E {v : Int} {r : RR} (h : MS G0 G tk cd c i0 i a d) (hi : i0 ≤ i) (q : PsE G G1 c i a r T v) (e0 : r.1 = 0) : ∃ i1, MS G0 G1 tk cd c i0 i1 r.2 d ∧ T i i1 v a G1 ∧ G1 v 8 = -1 ∧ i ≤ i1 ∧ i1 ≤ i + (r.2 - a) ∧ a < r.2 ∧ i1 ≤ 713 ∧ ∀ k j, 14 ≤ k → k < 14 + i → G1 k j = G k j := by
  obtain ⟨⟨f1, -, k1⟩, -, n8⟩ := q
  obtain ⟨q1, q2, q3, q4, q5, q6, i1, q7, q8, q9, q10⟩ := k1 e0
  obtain ⟨⟨p1, p2, p3, p4, p5, p6, p7, p8, p9, p10, p11, p12⟩, f, o⟩ := h
  exact ⟨i1, ⟨⟨PT_FP p1 f1, q2, q1, by omega, q4, q5, q7, by omega, by omega, p10, p11, CD_FP p12 f1⟩, FP_tr f f1, fun k j x y => by rw [q6 k j x (by omega) (fun z => z)]; exact o k j x y⟩, q10, n8 e0, q8, q9, q3, by omega, fun k j x y => q6 k j x y (fun z => z)⟩
theorem MS_B {v : Int} {r r0 : RR} (h : MS G0 G tk cd c i0 i a d) (q : PsE G G1 c i a r T v) (e0 : r.1 ≠ 0) (hr : r0 = r) : v = -1 ∧ BAD G0 G1 r0 := by
  subst hr
  have g := q.1.2.1 e0
  exact ⟨q.2.1 e0, FP_tr h.2.1 q.1.1, g.1, g.2, e0⟩
theorem BAD_st {k j v : Int} {r : RR} (h : BAD G0 G1 r) (hk : 14 ≤ k ∧ k < 814) : BAD G0 (uG G1 k j v) r := ⟨FP_up h.1 (by omega), by rw [uG_c (by omega)]; exact h.2.1, AT_c rfl (by omega) h.2.2.1, h.2.2.2⟩
theorem BAD_fl {m x : Int} {r : RR} (h : MS G0 G tk cd c i0 i a d) (hm : m ≠ 0) (hr : r = (m, x)) : BAD G0 (fG G m x) r := by
  subst hr
  exact ⟨FP_fG h.2.1, (fG_at _ _ _).1, (fG_at _ _ _).2, hm⟩
theorem BAD_P {r : RR} (h : BAD G0 G1 r) : PsE G0 G1 c i0 a0 r T (-1) := ⟨⟨h.1, fun _ => ⟨h.2.1, h.2.2.1⟩, fun z => absurd z h.2.2.2⟩, fun _ => rfl, fun z => absurd z h.2.2.2⟩
theorem BAD_f {r : RR} (h : BAD G0 G1 r) {P : Prop} (z : G1 7 9 = 0) : P := absurd (h.2.1.symm.trans z) h.2.2.2
theorem MS_end {b v : Int} {r0 : RR} (h : MS G0 G1 tk cd c i0 i b d) (hr : r0 = (0, b)) (hab : a0 < b) (h1 : i0 ≤ i) (h2 : i ≤ i0 + (b - a0)) (hT : T i0 i v a0 G1) (h8 : G1 v 8 = -1) : PsE G0 G1 c i0 a0 r0 T v := by
  subst hr
  obtain ⟨⟨p1, p2, p3, p4, p5, p6, p7, p8, p9, p10, p11, p12⟩, f, o⟩ := h
  exact ⟨⟨f, fun z => absurd rfl z, fun _ => ⟨p3, p2, hab, p5, p6, fun k j x y _ => o k j x y, i, p7, h1, h2, hT⟩⟩, fun z => absurd rfl z, fun _ => h8⟩
theorem mNow {Q : Int → gS → Prop} (h : MS G0 G tk cd c i0 i a d) (hQ : Q (tk a) G) : PX9_now G Q := by
  obtain ⟨⟨p1, p2, p3, p4, p5, p6, -⟩, -⟩ := h
  exact sX9_now p1 p2 p4 (by omega) hQ
theorem mNeed {A B : gS → Prop} {w : Int} (h : MS G0 G tk cd c i0 i a d) (hw : w ≠ 0) (h1 : pneed tk w a = (0, a + 1) → tk a = w → a < 700 → MS G0 (uG G 7 8 (a + 1)) tk cd c i0 i (a + 1) d → B (uG G 7 8 (a + 1))) (h2 : ∀ m, m ≠ 0 → pneed tk w a = (m, a) → A (fG G m a)) : PX9_need w G (fun r G1 => (0 ≤ r ∧ r ≤ 1) → ((r = 0 → A G1) ∧ (¬ (r = 0) → B G1))) := by
  have h' := h
  obtain ⟨⟨p1, p2, p3, p4, p5, p6, -⟩, -⟩ := h
  exact sX9_need p1 p2 p3 p4 (by omega) hw (fun x y z => fun _ => ⟨fun u => absurd u (by decide), fun _ => h1 x z y (MS_tk h' y (by omega))⟩) (fun m x y => fun _ => ⟨fun _ => h2 m x y, fun u => absurd rfl u⟩)
theorem mTake {A B : gS → Prop} (h : MS G0 G tk cd c i0 i a d) (ht : tk a ≠ 0) (h1 : ptake a = (0, a + 1) → a < 700 → MS G0 (uG G 7 8 (a + 1)) tk cd c i0 i (a + 1) d → B (uG G 7 8 (a + 1))) (h2 : ptake a = (3, a) → A (fG G 3 a)) : PX9_take G (fun r G1 => (0 ≤ r ∧ r ≤ 1) → ((r = 0 → A G1) ∧ (¬ (r = 0) → B G1))) := by
  have h' := h
  obtain ⟨⟨p1, p2, p3, p4, p5, p6, -⟩, -⟩ := h
  exact sX9_take p2 p3 p4 (fun x y => fun _ => ⟨fun u => absurd u (by decide), fun _ => h1 x y (MS_tk h' y ht)⟩) (fun x => fun _ => ⟨fun _ => h2 x, fun u => absurd rfl u⟩)
-- E;, E = E;
def psimple (tk : Int → Int) (eE : Int → RR) (a : Int) : RR := pb (eE a) fun b => if tk b = 161 then pb (ptake b) fun c => pb (eE c) (pneed tk 159) else pneed tk 159 b
def oSimple (tk : Int → Int) (T : TT) (eE : Int → RR) : TT := fun lo hi n a G => cOwn lo hi n a G ∧ cSimple tk T eE lo hi n a G
theorem simple_ok {Q : Int → gS → Prop} (hE : SEx (Rq6 200) tk cd c T eE 3 [d + 1] (d + 1)) (hI : TI T) (hF : TF T) (hd : d < 12) (hp : Pre G tk cd c i a d) (hQ : ∀ v G', PsE G G' c i a (psimple tk eE a) (oSimple tk T eE) v → Q v G') : PX9_simple (d + 1) G Q := by
  have hp' := hp
  obtain ⟨p1, p2, p3, p4, p5, p6, p7, p8, p9, p10, p11, p12⟩ := hp
  have nO : isO W0 8 (14 + i) := nd_isO p8 (by omega)
  unfold PX9_simple PX9_simple_0
  rw [p2]
  refine fun _ => sX9_node p7 p8 (by omega) (fun G2 hN => ?_)
  have ms := MS_nd hp' hd hN
  obtain ⟨g14, g0, g1, g2, g3, g4, g5, g6, g7, g8, g9, g10, g11, gf⟩ := hN
  have bad : ∀ G1 l, BAD G G1 (psimple tk eE a) → PX9_simple_59 (d + 1) l G1 Q := fun G1 l h => by
    unfold PX9_simple_59 PX9_simple_80 PX9_simple_81
    exact fun _ => ⟨fun z => BAD_f h z, fun _ => hQ (-1) G1 (BAD_P h)⟩
  have fin : ∀ G1 i1 x, MS G G1 tk cd c i i1 x (d + 1) → psimple tk eE a = pneed tk 159 x → i < i1 → i1 ≤ i + (x + 1 - a) → a ≤ x → (∀ G', (∀ k j, 14 ≤ k → k < 14 + i1 → G' k j = G1 k j) → oSimple tk T eE i i1 (14 + i) a G') → G1 (14 + i) 8 = -1 → PX9_simple_59 (d + 1) (14 + i) G1 Q := by
    intro G1 i1 x m s u1 u2 u3 u4 u5
    unfold PX9_simple_59 PX9_simple_80 PX9_simple_81
    exact fun _ => ⟨fun _ => mNeed m (by decide) (fun x1 x2 x3 m2 => hQ (14 + i) _ (MS_end m2 (s.trans x1) (by omega) (by omega) (by omega) (u4 _ (fun k j v w => uG_c (by omega))) (by rw [uG_c (by omega)]; exact u5))) (fun n x1 x2 => hQ (-1) _ (BAD_P (BAD_fl m x1 (s.trans x2)))), fun z => absurd m.1.2.2.1 z⟩
  refine hE G2 (i + 1) a _ ms.1 (fun v G1 h => ?_)
  by_cases e0 : (eE a).1 = 0
  · have s0 : psimple tk eE a = (if tk (eE a).2 = 161 then pb (ptake (eE a).2) fun c => pb (eE c) (pneed tk 159) else pneed tk 159 (eE a).2) := pb_0 e0
    obtain ⟨i1, m1, t1, n8, u1, u2, u3, u4, kp⟩ := MS_E ms (by omega) h e0
    obtain ⟨kv, ev, kv1, kv2⟩ := hI _ _ _ _ _ t1
    generalize hx : (eE a).2 = x at *
    refine ⟨nO, Or.inr (nd_of (i := i1) (by omega) (by omega)), fun G3 e3 => ?_⟩
    have m3 : MS G G3 tk cd c i i1 x (d + 1) := by rw [e3]; exact MS_st m1 p8 (by omega)
    have a5 : G3 (14 + i) 5 = v := by rw [e3, uG_at]
    have k3 : ∀ k j, 14 ≤ k → ¬ (k = 14 + i ∧ j = 5) → G3 k j = G1 k j := fun k j _ y => by rw [e3, uG_ne (by omega)]
    have w : ∀ j, j ≠ 5 → G3 (14 + i) j = G2 (14 + i) j := fun j y => by rw [k3 _ _ (by omega) (by omega), kp _ _ (by omega) (by omega)]
    rw [a5]
    refine fun _ => ⟨fun z => by omega, fun _ => mNow m3 (fun _ => ⟨fun z => ?_, fun z => ?_⟩)⟩
    · rw [if_pos z] at s0
      refine mTake m3 (by omega) (fun x1 x2 m4 => fun G5 e5 => ?_) (fun x1 => bad _ _ (BAD_fl m3 (by decide) (by rw [s0, x1]; exact pb_n three_ne)))
      rw [pb_e x1] at s0
      have m5 : MS G G5 tk cd c i i1 (x + 1) (d + 1) := by rw [e5]; exact MS_st m4 p8 (by omega)
      refine hE G5 i1 (x + 1) _ m5.1 (fun v2 G6 h6 => ?_)
      by_cases e6 : (eE (x + 1)).1 = 0
      · rw [pb_0 e6] at s0
        obtain ⟨i2, m6, t6, n86, w1, w2, w3, w4, kp6⟩ := MS_E m5 (by omega) h6 e6
        obtain ⟨kw, ew, kw1, kw2⟩ := hI _ _ _ _ _ t6
        refine ⟨Or.inr (nd_of (i := i2) (by omega) (by omega)), fun G7 e7 => ?_⟩
        have k7 : ∀ k j, 14 ≤ k → k < 14 + i1 → ¬ (k = 14 + i ∧ (j = 0 ∨ j = 6)) → G7 k j = G3 k j := fun k j y1 y2 y3 => by rw [e7, uG_ne (by omega), kp6 k j y1 y2, e5, uG_ne (by omega), uG_c (by omega)]
        have c0 : G7 (14 + i) 0 = 39 := by rw [e7, uG_j (by decide), kp6 _ _ (by omega) (by omega), e5, uG_at]
        have c6 : G7 (14 + i) 6 = v2 := by rw [e7, uG_at]
        have cn : ∀ j, j ≠ 0 → j ≠ 5 → j ≠ 6 → G7 (14 + i) j = G2 (14 + i) j := fun j y1 y2 y3 => by rw [k7 _ _ (by omega) (by omega) (by omega), w j y2]
        refine fin G7 i2 _ (by rw [e7]; exact MS_st m6 p8 (by omega)) s0 (by omega) (by omega) (by omega) (fun G' hg => ⟨⟨rfl, by omega, ?_, ?_, ?_⟩, i1, by omega, ?_, fun _ => ⟨?_, ?_⟩, fun y => ?_⟩) (by rw [cn 8 (by decide) (by decide) (by decide)]; exact g8)
        · rw [hg _ _ (by omega) (by omega), cn 1 (by decide) (by decide) (by decide)]; exact g1
        · rw [hg _ _ (by omega) (by omega), cn 4 (by decide) (by decide) (by decide)]; exact g4
        · rw [hg _ _ (by omega) (by omega), cn 11 (by decide) (by decide) (by decide)]; exact g11
        · rw [hg _ _ (by omega) (by omega), k7 _ 5 (by omega) (by omega) (by omega), a5]
          exact hF _ _ _ _ _ _ t1 (fun k j y1 y2 _ => by rw [hg k j (by omega) (by omega), k7 k j (by omega) (by omega) (by omega), k3 k j (by omega) (by omega)])
        · rw [hg _ _ (by omega) (by omega)]; exact c0
        · rw [hg _ _ (by omega) (by omega), c6, hx]
          exact hF _ _ _ _ _ _ t6 (fun k j y1 y2 _ => by rw [hg k j (by omega) (by omega), e7, uG_c (by omega)])
        · rw [hx] at y; exact absurd z y
      · obtain ⟨ev2, b6⟩ := MS_B m5 h6 e6 (s0.trans (pb_n e6))
        exact ⟨Or.inl ev2, fun G7 e7 => bad _ _ (by rw [e7]; exact BAD_st b6 (by omega))⟩
    · rw [if_neg z] at s0
      have cn : ∀ j, j ≠ 5 → G3 (14 + i) j = G2 (14 + i) j := w
      refine fin G3 i1 x m3 s0 (by omega) (by omega) (by omega) (fun G' hg => ⟨⟨rfl, by omega, ?_, ?_, ?_⟩, i1, by omega, ?_, fun y => ?_, fun _ => ?_⟩) (by rw [cn 8 (by decide)]; exact g8)
      · rw [hg _ _ (by omega) (by omega), cn 1 (by decide)]; exact g1
      · rw [hg _ _ (by omega) (by omega), cn 4 (by decide)]; exact g4
      · rw [hg _ _ (by omega) (by omega), cn 11 (by decide)]; exact g11
      · rw [hg _ _ (by omega) (by omega), a5]
        exact hF _ _ _ _ _ _ t1 (fun k j y1 y2 _ => by rw [hg k j (by omega) (by omega), k3 k j (by omega) (by omega)])
      · rw [hx] at y; exact absurd y z
      · rw [hg _ _ (by omega) (by omega), cn 0 (by decide)]; exact g0
  · obtain ⟨ev, b⟩ := MS_B ms h e0 (show psimple tk eE a = eE a from pb_n e0)
    refine ⟨nO, Or.inl ev, fun G3 e3 => ?_⟩
    have b3 : BAD G G3 (psimple tk eE a) := by rw [e3]; exact BAD_st b (by omega)
    have a5 : G3 (14 + i) 5 = -1 := by rw [e3, uG_at]; exact ev
    rw [a5]
    exact fun _ => ⟨fun _ => bad _ _ b3, fun z => absurd z (by decide)⟩
end CQ5

section RP2
variable {B G G' : gS} {s N d i i0 i1 : Int} {tk cd : Int → Int} {q : RR} {Q : Int → gS → Prop}
theorem pb_pb (r : RR) (f g : Int → RR) : pb (pb r f) g = pb r (fun b => pb (f b) g) := by
  unfold pb
  by_cases h : r.1 = 0
  · rw [if_pos h, if_pos h]
  · rw [if_neg h, if_neg h, if_neg h]
theorem RM_put {c j v : Int} (h : RM B s N d G q i) (hc : 16144 ≤ c) : RM B s N d (uG G c j v) q i := by
  obtain ⟨⟨t0, t1⟩, h1, h2, h3, h4, h5, h6, h7, h8⟩ := h
  refine ⟨⟨by rw [uG_c (by omega)]; exact t0, fun a x y => ?_⟩, h1, h2, by rw [uG_c (by omega)]; exact h3, by rw [uG_c (by omega)]; exact h4, fun z => by rw [uG_c (by omega), uG_c (by omega)]; exact h5 z, fun z => by rw [uG_c (by omega), uG_c (by omega), uG_c (by omega)]; exact h6 z, by rw [uG_c (by omega)]; exact h7, by rw [uG_c (by omega)]; exact h8⟩
  rw [uG_c (by omega), uG_c (by omega), uG_c (by omega), uG_c (by omega)]
  exact t1 a x y
theorem FR_put {X : Int → Int → Prop} {c j v : Int} (h : FR X G G') (hX : X c j) : FR X G (uG G' c j v) := FR_up h hX
theorem rFault {m x : Int} (hf : G 16081 20 = 0) (hQ : Q 0 (uG (uG G 16081 20 m) 16081 21 x)) : PX13_fault m x G Q := by
  unfold PX13_fault PX13_fault_0 PX13_fault_17
  exact fun _ => ⟨fun _ G3 e3 G4 e4 => by rw [e4, e3]; exact hQ, fun z => absurd hf z⟩
theorem rFault_on {m x : Int} (hf : G 16081 20 ≠ 0) (hQ : Q 0 G) : PX13_fault m x G Q := by
  unfold PX13_fault PX13_fault_0 PX13_fault_17
  exact fun _ => ⟨fun z => absurd z hf, fun _ => hQ⟩
theorem RM_flt {m a : Int} (h : RM B s N d G (0, a) i) (hm : m ≠ 0) : RM B s N d (uG (uG G 16081 20 m) 16081 21 (B 16091 (s * 702 + a))) (m, a) i ∧ FR (XR s i) G (uG (uG G 16081 20 m) 16081 21 (B 16091 (s * 702 + a))) := by
  obtain ⟨⟨t0, t1⟩, h1, h2, h3, h4, h5, h6, h7, h8⟩ := h
  have f : FR (XR s i) G (uG (uG G 16081 20 m) 16081 21 (B 16091 (s * 702 + a))) := FR_put (FR_put FR_id (by unfold XR; omega)) (by unfold XR; omega)
  refine ⟨⟨TE_F ⟨t0, t1⟩ f, h1, h2, by rw [uG_j (by decide), uG_j (by decide)]; exact h3, by rw [uG_j (by decide), uG_j (by decide)]; exact h4, fun z => absurd z hm, fun _ => ⟨by rw [uG_j (by decide), uG_at], uG_at _ _ _ _, by rw [uG_j (by decide), uG_j (by decide)]; exact (h5 rfl).2⟩, by rw [uG_c (by omega), uG_c (by omega)]; exact h7, by rw [uG_j (by decide), uG_j (by decide)]; exact h8⟩, f⟩
theorem RM_eq {a : Int} (h : RM B s N d G q i) (e : q.1 = 0) (ea : q.2 = a) : RM B s N d G (0, a) i := by
  have : q = (0, a) := Prod.ext e ea
  rw [this] at h; exact h
theorem rWrong (hK : TKp B s N tk cd) (h : RM B s N d G q i) (hQ : ∀ G', RM B s N d G' (pb q (pmiss tk)) i → FR (XR s i) G G' → Q 0 G') : PX13_wrong G Q := by
  have h' := h
  obtain ⟨hT, h1, h2, h3, h4, h5, h6, h7, h8⟩ := h
  have t := TR_k (hK.2.2.2.2.2.1 _ h3 h4)
  have go : ∀ m, m = (if tk (G 16081 22) = 1 then 1 else 2) → PX13_wrong_19 16081 m G Q := fun m hm => by
    unfold PX13_wrong_19
    refine fun _ => rPlace hK hT h3 h4 (fun _ => ⟨oC13, ?_⟩)
    by_cases e : q.1 = 0
    · obtain ⟨e1, e2⟩ := h5 e
      have hm0 : m ≠ 0 := by rw [hm]; split <;> decide
      obtain ⟨r1, r2⟩ := RM_flt (RM_eq h' e rfl) hm0
      refine rFault e1 ?_
      rw [e2]
      refine hQ _ ?_ r2
      rw [pb_0 e]
      unfold pmiss
      rw [← e2, ← hm, e2]; exact r1
    · refine rFault_on (by rw [(h6 e).1]; exact e) (hQ G ?_ FR_id)
      rw [pb_n e]; exact h'
  unfold PX13_wrong PX13_wrong_0
  refine fun _ => rKind hK hT h3 h4 (fun _ => fun _ => ⟨fun z => go 1 ?_, fun z => go 2 ?_⟩)
  · rw [if_pos (t.2.1.mp z)]
  · rw [if_neg (fun y => z (t.2.1.mpr y))]
theorem rStep (hK : TKp B s N tk cd) (h : RM B s N d G q i) (ht : q.1 = 0 → tk q.2 ≠ 0 ∧ tk q.2 ≠ 1) (hQ : ∀ G', RM B s N d G' (pb q ptake) i → FR (XR s i) G G' → Q 0 G') : PX13_step G Q := by
  have h' := h
  obtain ⟨hT, h1, h2, h3, h4, h5, h6, h7, h8⟩ := h
  have t := TR_k (hK.2.2.2.2.2.1 _ h3 h4)
  by_cases e : q.1 = 0
  · obtain ⟨e1, e2⟩ := h5 e
    obtain ⟨ht0, ht1⟩ := ht e
    rw [pb_0 e] at hQ
    unfold PX13_step PX13_step_0
    refine fun _ => ⟨fun z => fun _ => rKind hK hT h3 h4 (fun _ => fun _ => ⟨fun y => ?_, fun y => fun _ => rPlace hK hT h3 h4 (fun _ => rFault e1 ?_)⟩), fun z => ?_⟩
    · exact absurd (t.1.mp y) (by rw [e2]; exact ht0)
    · obtain ⟨r1, r2⟩ := RM_flt (m := 3) (RM_eq h' e rfl) (by decide)
      unfold PX13_step_34 PX13_step_51
      rw [e2]
      refine fun _ => ⟨fun y => ?_, fun _ => hQ _ ?_ r2⟩
      · rw [uG_j (by decide), uG_at] at y; exact absurd y (by decide)
      · have : ptake q.2 = (3, q.2) := if_pos (by omega)
        rw [this]; exact r1
    · unfold PX13_step_34 PX13_step_51
      have k5 := hK.2.2.2.2.2.2.1
      have k6 := hK.2.2.2.2.2.2.2
      have kN := hK.2.2.2.2.1
      have hl : q.2 + 1 < N := by
        by_cases y : q.2 + 1 < N
        · exact y
        · have ea : q.2 = N - 1 := by omega
          rw [ea] at ht0 ht1
          omega
      refine fun _ => ⟨fun _ => fun _ => ⟨by unfold inI; omega, fun G18 e18 => ?_⟩, fun y => absurd e1 y⟩
      have f : FR (XR s i) G G18 := by rw [e18]; exact FR_put FR_id (by unfold XR; omega)
      have tp : ptake q.2 = (0, q.2 + 1) := if_neg (by omega)
      refine hQ G18 ?_ f
      rw [tp]
      refine ⟨TE_F hT f, by show 0 ≤ q.2 + 1; omega, hl, by rw [e18, uG_at]; omega, by rw [e18, uG_at, e2]; exact hl, fun _ => ⟨by rw [e18, uG_j (by decide)]; exact e1, by rw [e18, uG_at, e2]⟩, fun y => absurd rfl y, by rw [e18, uG_c (by omega)]; exact h7, by rw [e18, uG_j (by decide)]; exact h8⟩
  · have e6 := (h6 e).1
    have fl : G 16081 20 ≠ 0 := by rw [e6]; exact e
    have done : PX13_step_34 G Q := by
      unfold PX13_step_34 PX13_step_51
      exact fun _ => ⟨fun y => absurd y fl, fun _ => hQ G (by rw [pb_n e]; exact h') FR_id⟩
    unfold PX13_step PX13_step_0
    exact fun _ => ⟨fun z => fun _ => rKind hK hT h3 h4 (fun _ => fun _ => ⟨fun y => done, fun y => fun _ => rPlace hK hT h3 h4 (fun _ => rFault_on fl done)⟩), fun z => done⟩
theorem rWantSign {w k : Int} (hK : TKp B s N tk cd) (h : RM B s N d G q i) (hw : (sg w ∧ k = 100 + w) ∨ (w = 256 ∧ k = 99)) (hQ : ∀ G', RM B s N d G' (pb q (pneed tk k)) i → FR (XR s i) G G' → Q 0 G') : PX13_wantSign w G Q := by
  have h' := h
  obtain ⟨hT, h1, h2, h3, h4, h5, h6, h7, h8⟩ := h
  have hk : k ≠ 0 ∧ k ≠ 1 := by unfold sg at hw; omega
  unfold PX13_wantSign PX13_wantSign_0 PX13_wantSign_22 PX13_wantSign_33
  refine fun _ => ⟨fun z => ?_, fun z => fun _ => ⟨fun y => absurd y z, fun _ => ?_⟩⟩
  · have e : q.1 = 0 := by
      by_cases e : q.1 = 0
      · exact e
      · exact absurd ((h6 e).1.symm.trans z) e
    obtain ⟨e1, e2⟩ := h5 e
    rw [pb_0 e] at hQ
    refine rSign hK hT h3 h4 hw (fun v hv => fun _ => ⟨fun y => fun _ => ⟨fun _ => ?_, fun y => absurd z y⟩, fun y => ?_⟩)
    · refine rWrong hK h' (fun G' a b => hQ G' ?_ b)
      rw [pb_0 e] at a
      unfold pneed
      rw [if_neg (by rw [e2] at hv; omega)]; exact a
    · refine rStep hK h' (fun _ => by rw [e2] at hv; omega) (fun G' a b => hQ G' ?_ b)
      rw [pb_0 e] at a
      unfold pneed
      rw [if_pos (by rw [e2] at hv; omega)]; exact a
  · refine hQ G ?_ FR_id
    rw [pb_n (fun e => z (h5 e).1)]; exact h'
theorem rWantWord {x k : Int} (hK : TKp B s N tk cd) (h : RM B s N d G q i) (hw : wordOf x k) (hQ : ∀ G', RM B s N d G' (pb q (pneed tk k)) i → FR (XR s i) G G' → Q 0 G') : PX13_wantWord x G Q := by
  have h' := h
  obtain ⟨hT, h1, h2, h3, h4, h5, h6, h7, h8⟩ := h
  have hk := hw.2
  unfold PX13_wantWord PX13_wantWord_0 PX13_wantWord_22 PX13_wantWord_33
  refine fun _ => ⟨fun z => ?_, fun z => fun _ => ⟨fun y => absurd y z, fun _ => ?_⟩⟩
  · have e : q.1 = 0 := by
      by_cases e : q.1 = 0
      · exact e
      · exact absurd ((h6 e).1.symm.trans z) e
    obtain ⟨e1, e2⟩ := h5 e
    rw [pb_0 e] at hQ
    refine rWord hK hT h3 h4 hw (fun v hv => fun _ => ⟨fun y => fun _ => ⟨fun _ => ?_, fun y => absurd z y⟩, fun y => ?_⟩)
    · refine rWrong hK h' (fun G' a b => hQ G' ?_ b)
      rw [pb_0 e] at a
      unfold pneed
      rw [if_neg (by rw [e2] at hv; omega)]; exact a
    · refine rStep hK h' (fun _ => by rw [e2] at hv; omega) (fun G' a b => hQ G' ?_ b)
      rw [pb_0 e] at a
      unfold pneed
      rw [if_pos (by rw [e2] at hv; omega)]; exact a
  · refine hQ G ?_ FR_id
    rw [pb_n (fun e => z (h5 e).1)]; exact h'
theorem rTakes {x k : Int} (hK : TKp B s N tk cd) (h : RM B s N d G q i) (hw : wordOf x k) (h1 : q.1 = 0 → tk q.2 = k → ∀ G', RM B s N d G' (pb q ptake) i → FR (XR s i) G G' → Q 1 G') (h0 : (q.1 = 0 → tk q.2 ≠ k) → Q 0 G) : PX13_takesWord x G Q := by
  have h' := h
  obtain ⟨hT, p1, p2, p3, p4, p5, p6, p7, p8⟩ := h
  have hk := hw.2
  unfold PX13_takesWord PX13_takesWord_0 PX13_takesWord_19 PX13_takesWord_20 PX13_takesWord_29
  refine fun _ => ⟨fun z => ?_, fun z => ⟨fun _ => ⟨by omega, h0 (fun e => absurd (p5 e).1 z)⟩, fun y => absurd rfl y⟩⟩
  have e : q.1 = 0 := by
    by_cases e : q.1 = 0
    · exact e
    · exact absurd ((p6 e).1.symm.trans z) e
  obtain ⟨e1, e2⟩ := p5 e
  refine rWord hK hT p3 p4 hw (fun v hv => fun _ => ⟨fun y => ⟨fun _ => ⟨by omega, h0 (fun _ => by rw [e2] at hv; omega)⟩, fun y => absurd rfl y⟩, fun y => ⟨fun y => absurd y (by decide), fun _ => ?_⟩⟩)
  have tkk : tk q.2 = k := by rw [e2] at hv; omega
  exact rStep hK h' (fun _ => by omega) (fun G' a b => ⟨by omega, h1 e tkk G' a b⟩)
theorem rWant {kd k : Int} (hK : TKp B s N tk cd) (h : RM B s N d G q i) (hk : (kd = 1 ∧ k = 2) ∨ (kd = 2 ∧ k = 3)) (hQ : ∀ r G', 0 ≤ r → r < N → (q.1 = 0 → r = q.2) → RM B s N d G' (pb q (pneed tk k)) i → FR (XR s i) G G' → Q r G') : PX13_want kd 0 G Q := by
  have h' := h
  obtain ⟨hT, h1, h2, h3, h4, h5, h6, h7, h8⟩ := h
  have t := TR_k (hK.2.2.2.2.2.1 _ h3 h4)
  unfold PX13_want PX13_want_0 PX13_want_31 PX13_want_55 PX13_want_59
  refine fun _ _ => ⟨fun z => fun _ => ?_, fun z => fun _ => ⟨fun y => absurd y z, fun _ => ?_⟩⟩
  · have e : q.1 = 0 := by
      by_cases e : q.1 = 0
      · exact e
      · exact absurd ((h6 e).1.symm.trans z) e
    obtain ⟨e1, e2⟩ := h5 e
    rw [pb_0 e] at hQ
    refine rKind hK hT h3 h4 (fun _ => fun _ => ⟨fun y => fun _ => ⟨fun _ => ⟨fun _ => ?_, fun y => absurd rfl y⟩, fun y => absurd z y⟩, fun y => ?_⟩)
    · refine rStep hK h' (fun _ => by rw [e2] at t y; omega) (fun G' a b => hQ _ G' h3 h4 (fun _ => e2) ?_ b)
      rw [pb_0 e] at a
      unfold pneed
      rw [if_pos (by rw [e2] at t y; omega)]; exact a
    · refine rWrong hK h' (fun G' a b => hQ _ G' h3 h4 (fun _ => e2) ?_ b)
      rw [pb_0 e] at a
      unfold pneed
      rw [if_neg (by rw [e2] at t y; omega)]; exact a
  · refine hQ _ G h3 h4 (fun e => absurd (h5 e).1 z) ?_ FR_id
    rw [pb_n (fun e => z (h5 e).1)]; exact h'
-- a node made
def NNr (s i k x : Int) (G G' : gS) : Prop := G' 16143 s = i + 1 ∧ G' 16144 (s * 1700 + i) = k ∧ G' 16145 (s * 1700 + i) = x ∧ G' 16146 (s * 1700 + i) = x ∧ G' 16147 (s * 1700 + i) = x ∧ G' 16148 (s * 1700 + i) = 0 ∧ G' 16149 (s * 1700 + i) = 0 ∧ G' 16150 (s * 1700 + i) = 0 ∧ G' 16151 (s * 1700 + i) = -2 ∧ G' 16152 (s * 1700 + i) = -2 ∧ G' 16153 (s * 1700 + i) = -2 ∧ G' 16154 (s * 1700 + i) = -2 ∧ G' 16155 (s * 1700 + i) = 0 ∧ ∀ c j, ¬ (c = 16143 ∧ j = s) → ¬ (16144 ≤ c ∧ c ≤ 16162 ∧ j = s * 1700 + i) → G' c j = G c j
theorem rNode {k x : Int} (hK : TKp B s N tk cd) (h : RM B s N d G q i) (h0 : 0 ≤ i) (hi : i < 1700) (hQ : ∀ G', NNr s i k x G G' → RM B s N d G' q (i + 1) → FR (XR s i) G G' → Q (s * 1700 + i) G') : PX13_node k x G Q := by
  have h' := h
  obtain ⟨hT, h1, h2, h3, h4, h5, h6, h7, h8⟩ := h
  have k0 := hK.1
  have k1 := hK.2.1
  unfold PX13_node PX13_node_0
  rw [hT.1, h7]
  have b0 : 0 ≤ s * 1700 + i := by omega
  have b1 : s * 1700 + i < 30600 := by omega
  refine fun _ _ => ⟨k0, k1, fun _ => ⟨by unfold inI; omega, fun _ => ⟨k0, k1, fun _ => ⟨k0, k1, by unfold inI; omega, fun G1 e1 => ?_⟩⟩⟩⟩
  refine ⟨b0, b1, fun G2 e2 => ⟨b0, b1, fun G3 e3 => ⟨b0, b1, fun G4 e4 => ⟨b0, b1, fun G5 e5 => ⟨b0, b1, fun G6 e6 => ⟨b0, b1, fun G7 e7 => ⟨b0, b1, fun G8 e8 => ⟨b0, b1, fun G9 e9 => ⟨b0, b1, fun G10 e10 => ⟨b0, b1, fun G11 e11 => ⟨b0, b1, fun G12 e12 => ⟨b0, b1, fun G13 e13 => ⟨b0, b1, fun G14 e14 => ⟨b0, b1, fun G15 e15 => ⟨b0, b1, fun G16 e16 => ⟨b0, b1, fun G17 e17 => ⟨b0, b1, fun G18 e18 => ⟨b0, b1, fun G19 e19 => ?_⟩⟩⟩⟩⟩⟩⟩⟩⟩⟩⟩⟩⟩⟩⟩⟩⟩⟩
  subst e1 e2 e3 e4 e5 e6 e7 e8 e9 e10 e11 e12 e13 e14 e15 e16 e17 e18 e19
  generalize hn : s * 1700 + i = n at *
  generalize hG : uG _ 16162 n (-2) = GG at *
  have nn : NNr s i k x G GG := by
    unfold NNr
    rw [hn, ← hG]
    refine ⟨?_, ?_, ?_, ?_, ?_, ?_, ?_, ?_, ?_, ?_, ?_, ?_, ?_, fun c j z1 z2 => ?_⟩ <;> simp (disch := omega) only [uG_at, uG_ne]
  have f : FR (XR s i) G GG := fun c j z => by
    refine nn.2.2.2.2.2.2.2.2.2.2.2.2.2 c j ?_ ?_
    · unfold XR at z; omega
    · unfold XR at z; omega
  refine hQ GG nn ⟨TE_F hT f, h1, h2, ?_, ?_, fun z => ?_, fun z => ?_, nn.1, ?_⟩ f
  all_goals (have w : ∀ j, GG 16081 j = G 16081 j := fun j => nn.2.2.2.2.2.2.2.2.2.2.2.2.2 _ _ (by omega) (by omega))
  · rw [w]; exact h3
  · rw [w]; exact h4
  · rw [w, w]; exact h5 z
  · rw [w, w, w]; exact h6 z
  · rw [w]; exact h8
end RP2

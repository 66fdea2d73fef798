section RP3
def RFc (s : Int) (G G' : gS) (q r : RR) (i i' : Int) (P : Prop) : Prop := i ≤ i' ∧ FR (XR s i) G G' ∧ (q.1 ≠ 0 → i' = i) ∧ q.2 ≤ r.2 ∧ i' ≤ i + (r.2 - q.2) + 1 ∧ (r.1 = 0 → i' ≤ i + (r.2 - q.2) ∧ q.2 < r.2 ∧ P)
def SRe (R : JT) (B : gS) (s N d : Int) (idx : Nat) (T : TT) (eE : Int → RR) : Prop := ∀ (G : gS) (q : RR) (i : Int) (Q : Int → gS → Prop), RM B s N d G q i → 0 ≤ i → (q.1 = 0 → i ≤ q.2 + 2) → (∀ v G' i', RM B s N d G' (pb q eE) i' → RFc s G G' q (pb q eE) i i' (T i i' v q.2 G' ∧ G' 16154 v = -2) → Q v G') → R idx [] G Q
variable {B G G' : gS} {s N d i i' : Int} {tk cd : Int → Int} {q r : RR} {R : JT} {T : TT} {eE : Int → RR}
theorem RFc_bad {P : Prop} (h : q.1 ≠ 0) : RFc s G G q q i i P := ⟨Int.le_refl _, FR_id, fun _ => rfl, Int.le_refl _, by omega, fun z => absurd z h⟩
theorem RM_fl (h : RM B s N d G q i) : G 16081 20 = 0 ↔ q.1 = 0 := by
  obtain ⟨hT, h1, h2, h3, h4, h5, h6, h7, h8⟩ := h
  refine ⟨fun z => ?_, fun z => (h5 z).1⟩
  by_cases e : q.1 = 0
  · exact e
  · exact absurd ((h6 e).1.symm.trans z) e
theorem RM_p (h : RM B s N d G q i) (e : q.1 = 0) : G 16081 22 = q.2 := (h.2.2.2.2.2.1 e).2
theorem rSg {w k : Int} {Q : Int → gS → Prop} (hK : TKp B s N tk cd) (h : RM B s N d G q i) (e : q.1 = 0) (hw : (sg w ∧ k = 100 + w) ∨ (w = 256 ∧ k = 99)) (h1 : tk q.2 = k → Q 1 G) (h0 : tk q.2 ≠ k → Q 0 G) : PX13_isSign w G Q := by
  refine rSign hK h.1 h.2.2.2.1 h.2.2.2.2.1 hw (fun v hv => ?_)
  rw [RM_p h e] at hv
  rcases hv with ⟨rfl, z⟩ | ⟨rfl, z⟩
  · exact h1 z
  · exact h0 z
theorem rWd {x k : Int} {Q : Int → gS → Prop} (hK : TKp B s N tk cd) (h : RM B s N d G q i) (e : q.1 = 0) (hw : wordOf x k) (h1 : tk q.2 = k → Q 1 G) (h0 : tk q.2 ≠ k → Q 0 G) : PX13_isWordAt x G Q := by
  refine rWord hK h.1 h.2.2.2.1 h.2.2.2.2.1 hw (fun v hv => ?_)
  rw [RM_p h e] at hv
  rcases hv with ⟨rfl, z⟩ | ⟨rfl, z⟩
  · exact h1 z
  · exact h0 z
theorem pneed_le {w a : Int} : a ≤ (pneed tk w a).2 ∧ (pneed tk w a).2 ≤ a + 1 ∧ ((pneed tk w a).1 = 0 → (pneed tk w a).2 = a + 1 ∧ tk a = w) := by
  unfold pneed ptake
  split
  · split
    · exact ⟨Int.le_refl _, by show a ≤ a + 1; omega, fun z => absurd z (by show (3 : Int) ≠ 0; decide)⟩
    · exact ⟨by show a ≤ a + 1; omega, Int.le_refl _, fun _ => ⟨rfl, by assumption⟩⟩
  · exact ⟨Int.le_refl _, by show a ≤ a + 1; omega, fun z => absurd z (pmiss_ne _)⟩
theorem ptake_le {a : Int} : a ≤ (ptake a).2 ∧ (ptake a).2 ≤ a + 1 ∧ ((ptake a).1 = 0 → (ptake a).2 = a + 1) := by
  unfold ptake
  split
  · exact ⟨Int.le_refl _, by show a ≤ a + 1; omega, fun z => absurd z (by show (3 : Int) ≠ 0; decide)⟩
  · exact ⟨by show a ≤ a + 1; omega, Int.le_refl _, fun _ => rfl⟩
-- ARGS
theorem rargs_0 {J : JT} {Q : Int → gS → Prop} {l1 l2 : Int} (hK : TKp B s N tk cd) (h : RM B s N d G q i) (hQ : ∀ G', RM B s N d G' (pb q (pneed tk 141)) i → FR (XR s i) G G' → Q l1 G') : PX13_arguments_47 R J l1 l2 0 G Q := by
  unfold PX13_arguments_47
  exact ⟨fun _ => rWantSign hK h (Or.inl ⟨by unfold sg; omega, rfl⟩) hQ, fun z => absurd rfl z⟩
def XL (s i l2 c j : Int) : Prop := XR s i c j ∨ (c = 16154 ∧ j = l2 ∧ 0 ≤ l2)
theorem XL_r {l2 : Int} (f : FR (XR s i) G G') : FR (XL s i l2) G G' := FR_mono (fun _ _ h => Or.inl h) f
-- behind an E within ARGS: what it is put to, then whether a , stands there
theorem rargs_put {J : JT} {Q : Int → gS → Prop} {l1 l2 v : Int} (h : RM B s N d G q i) (hl : l2 = -2 ∨ ∃ k, l2 = s * 1700 + k ∧ 0 ≤ k ∧ k < 1700) (hs : 0 ≤ s ∧ s < 18)
    (hQ : ∀ l1' G', RM B s N d G' q i → (l2 = -2 → G' = G ∧ l1' = v) → (l2 ≠ -2 → l1' = l1 ∧ (v ≠ -2 → G' = uG G 16154 l2 v) ∧ (v = -2 → G' = G)) → PX13_arguments_84 R J l1' l2 1 v G' Q) : ((l2 = -2 → PX13_arguments_84 R J v l2 1 v G Q) ∧ (¬ (l2 = -2) → ((v = -2 → PX13_arguments_84 R J l1 l2 1 v G Q) ∧ (¬ (v = -2) → ((0 : Int) ≤ l2 ∧ ((l2 : Int) < 30600 ∧ (∀ G23 : gS, G23 = uG G 16154 l2 (v) → PX13_arguments_84 R J l1 l2 1 v G23 Q))))))) := by
  refine ⟨fun z => hQ v G h (fun _ => ⟨rfl, rfl⟩) (fun y => absurd z y), fun z => ⟨fun y => hQ l1 G h (fun x => absurd x z) (fun _ => ⟨rfl, fun x => absurd y x, fun _ => rfl⟩), fun y => ?_⟩⟩
  rcases hl with hl | ⟨k, rfl, k1, k2⟩
  · exact absurd hl z
  · exact ⟨by omega, by omega, fun G23 e => by
      rw [e]
      exact hQ l1 _ (RM_put h (by omega)) (fun x => absurd x z) (fun _ => ⟨rfl, fun _ => rfl, fun x => absurd x y⟩)⟩
theorem rargs_bad {Q : Int → gS → Prop} {l1 l2 : Int} {F : Nat} (hK : TKp B s N tk cd) (hE : SRe R B s N d 1 T eE) (h : RM B s N d G q i) (hb : q.1 ≠ 0) (h0 : 0 ≤ i) (hl : l2 = -2 ∨ ∃ k, l2 = s * 1700 + k ∧ 0 ≤ k ∧ k < 1700) (hF : 1 ≤ F) (hQ : ∀ v G', RM B s N d G' q i → FR (XL s i l2) G G' → Q v G') : PX13_arguments_47 R (PX13_arguments_J R F) l1 l2 1 G Q := by
  obtain ⟨F', rfl⟩ : ∃ F', F = F' + 1 := ⟨F - 1, by omega⟩
  unfold PX13_arguments_47
  refine ⟨fun z => absurd z (by decide), fun _ => hE G q i _ h h0 (fun y => absurd y hb) (fun v G1 i1 hR hC => fun _ => ?_)⟩
  rw [pb_n hb] at hR hC
  obtain ⟨c1, c2, c3, c4, c5, c6⟩ := hC
  have e1 := c3 hb
  subst e1
  refine rargs_put hR hl ⟨hK.1, hK.2.1⟩ (fun l1' G2 hR2 x1 x2 => ?_)
  have f2 : FR (XL s i1 l2) G G2 := by
    by_cases y : l2 = -2
    · rw [(x1 y).1]; exact XL_r c2
    · by_cases y2 : v = -2
      · rw [(x2 y).2.2 y2]; exact XL_r c2
      · rw [(x2 y).2.1 y2]; exact FR_up (XL_r c2) (Or.inr ⟨rfl, rfl, by have := hK.1; rcases hl with z | ⟨k, z, z1, z2⟩ <;> omega⟩)
  have fl : G2 16081 20 ≠ 0 := fun z => hb ((RM_fl hR2).mp z)
  unfold PX13_arguments_84 PX13_arguments_107 PX13_arguments_108 PX13_arguments_117
  refine fun _ => ⟨fun z => absurd z fl, fun _ => ⟨fun _ => ?_, fun z => absurd rfl z⟩⟩
  show PX13_arguments_47 R (PX13_arguments_J R F') l1' v 0 G2 Q
  exact rargs_0 hK hR2 (fun G3 hR3 f3 => hQ _ G3 (by rw [pb_n hb] at hR3; exact hR3) (FR_tr f2 (XL_r f3)))
theorem rargs_loop (hK : TKp B s N tk cd) (hE : SRe R B s N d 1 T eE) (hI : RTI s T) (hT : RTF s T) : ∀ (f F : Nat) (G : gS) (a i l1 l2 : Int) (Q : Int → gS → Prop), 700 - a < f → f + 2 ≤ F → RM B s N d G (0, a) i → 0 ≤ i → i ≤ a + 2 → (l2 = -2 ∨ ∃ k, l2 = s * 1700 + k ∧ 0 ≤ k ∧ k < i) →
    (∀ v G' i', RM B s N d G' (pargsL tk eE f a) i' → i ≤ i' → FR (XL s i l2) G G' → a ≤ (pargsL tk eE f a).2 → i' ≤ i + ((pargsL tk eE f a).2 - a) + 1 → ((pargsL tk eE f a).1 = 0 → i' ≤ i + ((pargsL tk eE f a).2 - a) ∧ a < (pargsL tk eE f a).2 ∧ ∃ m, rArgsL tk T eE f i i' m a G' ∧ (l2 = -2 → v = m) ∧ (l2 ≠ -2 → v = l1 ∧ G' 16154 l2 = m)) → Q v G') → PX13_arguments_47 R (PX13_arguments_J R F) l1 l2 1 G Q
  | 0, F, G, a, i, l1, l2, Q, hf, _, h, _, _, _, _ => by
    have h1 := h.2.2.1
    have h2 := hK.2.2.2.2.1
    exact absurd h1 (by show ¬ a < N; omega)
  | f + 1, F, G, a, i, l1, l2, Q, hf, hF, h, h0, hi, hl, hQ => by
    obtain ⟨F', rfl⟩ : ∃ F', F = F' + 1 := ⟨F - 1, by omega⟩
    have hN : N ≤ 701 := hK.2.2.2.2.1
    have ha0 : 0 ≤ a := h.2.1
    have haN : a < N := h.2.2.1
    have spec : pargsL tk eE (f + 1) a = pb (eE a) fun b => if tk b = 144 then pb (ptake b) (pargsL tk eE f) else pneed tk 141 b := rfl
    generalize hr0 : pargsL tk eE (f + 1) a = r0 at *
    have hl' : l2 = -2 ∨ ∃ k, l2 = s * 1700 + k ∧ 0 ≤ k ∧ k < 1700 := by
      rcases hl with z | ⟨k, z1, z2, z3⟩
      · exact Or.inl z
      · exact Or.inr ⟨k, z1, z2, by omega⟩
    unfold PX13_arguments_47
    refine ⟨fun z => absurd z (by decide), fun _ => hE G (0, a) i _ h h0 (fun _ => hi) (fun v G1 i1 hR hC => fun _ => ?_)⟩
    obtain ⟨c1, c2, c3, c4, c5, c6⟩ := hC
    change RM B s N d G1 (eE a) i1 at hR
    change a ≤ (eE a).2 at c4
    change i1 ≤ i + ((eE a).2 - a) + 1 at c5
    change (eE a).1 = 0 → i1 ≤ i + ((eE a).2 - a) ∧ a < (eE a).2 ∧ T i i1 v a G1 ∧ G1 16154 v = -2 at c6
    refine rargs_put hR hl' ⟨hK.1, hK.2.1⟩ (fun l1' G2 hR2 x1 x2 => ?_)
    have f2 : FR (XL s i l2) G G2 := by
      by_cases y : l2 = -2
      · rw [(x1 y).1]; exact XL_r c2
      · by_cases y2 : v = -2
        · rw [(x2 y).2.2 y2]; exact XL_r c2
        · rw [(x2 y).2.1 y2]; exact FR_up (XL_r c2) (Or.inr ⟨rfl, rfl, by have := hK.1; rcases hl with z | ⟨k, z, z1, z2⟩ <;> omega⟩)
    by_cases e : (eE a).1 = 0
    · obtain ⟨c7, c8, c9, c10⟩ := c6 e
      obtain ⟨kv, rfl, kv1, kv2⟩ := hI _ _ _ _ _ c9
      have hb2 : (eE a).2 < N := hR.2.2.1
      generalize hb : (eE a).2 = b at *
      have hs0 := hK.1
      have vne : s * 1700 + kv ≠ -2 := by omega
      have nl : l2 ≠ -2 → ∃ k, l2 = s * 1700 + k ∧ 0 ≤ k ∧ k < i := fun z => hl.elim (fun y => absurd y z) id
      have T2 : T i i1 (s * 1700 + kv) a G2 := by
        by_cases y : l2 = -2
        · rw [(x1 y).1]; exact c9
        · obtain ⟨k, k1, k2, k3⟩ := nl y
          rw [(x2 y).2.1 vne]
          exact hT _ _ _ _ _ _ c9 (fun c j y1 y2 y3 y4 y5 => uG_ne (by omega))
      have n2 : G2 16154 (s * 1700 + kv) = -2 := by
        by_cases y : l2 = -2
        · rw [(x1 y).1]; exact c10
        · obtain ⟨k, k1, k2, k3⟩ := nl y
          rw [(x2 y).2.1 vne, uG_ne (by omega)]; exact c10
      have l2n : l2 ≠ -2 → G2 16154 l2 = s * 1700 + kv := fun y => by rw [(x2 y).2.1 vne, uG_at]
      rw [pb_0 e, hb] at spec
      have fl : G2 16081 20 = 0 := (RM_fl hR2).mpr e
      unfold PX13_arguments_84
      refine fun _ => ⟨fun _ => rSg (k := 144) hK hR2 e (Or.inl ⟨by unfold sg; omega, rfl⟩) (fun z => fun _ => ⟨fun y => absurd y (by decide), fun _ => ?_⟩) (fun z => fun _ => ⟨fun _ => ?_, fun y => absurd rfl y⟩), fun z => absurd fl z⟩
      · -- one more
        rw [hb] at z
        rw [if_pos z] at spec
        unfold PX13_arguments_108
        refine ⟨fun y => absurd y (by decide), fun _ => rStep hK hR2 (fun _ => by rw [hb]; omega) (fun G3 hR3 f3 => ?_)⟩
        unfold PX13_arguments_117
        show PX13_arguments_47 R (PX13_arguments_J R F') l1' (s * 1700 + kv) 1 G3 Q
        have ep : pb (eE a) ptake = ptake b := by rw [pb_0 e, hb]
        rw [ep] at hR3
        have tl := ptake_le (a := b)
        have w3 : ∀ c j, ¬ XR s i1 c j → G3 c j = G2 c j := fun c j x => f3 c j x
        by_cases et : (ptake b).1 = 0
        · have e2 := tl.2.2 et
          rw [pb_0 et] at spec
          have hR3' : RM B s N d G3 (0, b + 1) i1 := RM_eq hR3 et e2
          refine rargs_loop hK hE hI hT f F' G3 (b + 1) i1 l1' (s * 1700 + kv) Q (by omega) (by omega) hR3' (by omega) (by omega) (Or.inr ⟨kv, rfl, by omega, kv2⟩) (fun v G4 i4 hR4 d1 d2 d3 d4 d5 => ?_)
          rw [e2] at spec
          rw [← spec] at hR4 d3 d4 d5
          refine hQ v G4 i4 hR4 (by omega) (fun c j x => ?_) (by omega) (by omega) (fun y => ?_)
          · rw [d2 c j (fun u => x ?_), w3 c j (fun u => x (Or.inl (XR_mono c1 u))), f2 c j x]
            rcases u with u | u
            · exact Or.inl (XR_mono c1 u)
            · exact Or.inl (by unfold XR; omega)
          · obtain ⟨u1, u2, m, u3, u4, u5⟩ := d5 y
            obtain ⟨u6, u7⟩ := u5 vne
            have k24 : ∀ c j, 16144 ≤ c → c ≤ 16155 → s * 1700 ≤ j → j < s * 1700 + i1 → ¬ (c = 16154 ∧ j = s * 1700 + kv) → G4 c j = G2 c j := fun c j y1 y2 y3 y4 y5 => by
              rw [d2 c j (by unfold XL XR; omega), w3 c j (by unfold XR; omega)]
            refine ⟨by omega, by omega, s * 1700 + kv, ⟨i1, by omega, hT _ _ _ _ _ _ T2 (fun c j y1 y2 y3 y4 y5 => k24 c j y1 y2 (by omega) y4 y5), fun _ => by rw [hb, u7]; exact u3, fun u => absurd (by rw [hb]; exact z) u⟩, fun y => ?_, fun y => ?_⟩
            · rw [u6, (x1 y).2]
            · obtain ⟨k, k1, k2, k3⟩ := nl y
              rw [u6, k24 _ _ (by omega) (by omega) (by omega) (by omega) (by omega), l2n y]
              exact ⟨(x2 y).1, rfl⟩
        · rw [pb_n et] at spec
          refine rargs_bad hK hE hR3 et (by omega) (Or.inr ⟨kv, rfl, by omega, by omega⟩) (by omega) (fun v G4 hR4 f4 => hQ v G4 i1 (by rw [spec]; exact hR4) (by omega) (fun c j x => ?_) (by rw [spec]; omega) (by rw [spec]; omega) (fun y => absurd (by rw [← spec]; exact y) et))
          rw [f4 c j (fun u => x ?_), w3 c j (fun u => x (Or.inl (XR_mono c1 u))), f2 c j x]
          rcases u with u | u
          · exact Or.inl (XR_mono c1 u)
          · exact Or.inl (by unfold XR; omega)
      · -- the )
        rw [hb] at z
        rw [if_neg z] at spec
        unfold PX13_arguments_107 PX13_arguments_108 PX13_arguments_117
        refine ⟨fun _ => ?_, fun y => absurd rfl y⟩
        show PX13_arguments_47 R (PX13_arguments_J R F') l1' (s * 1700 + kv) 0 G2 Q
        refine rargs_0 hK hR2 (fun G3 hR3 f3 => ?_)
        rw [pb_0 e, hb, ← spec] at hR3
        have w3 : ∀ c j, ¬ XR s i1 c j → G3 c j = G2 c j := fun c j x => f3 c j x
        have pl := pneed_le (tk := tk) (w := 141) (a := b)
        rw [← spec] at pl
        refine hQ l1' G3 i1 hR3 c1 (fun c j x => by rw [w3 c j (fun u => x (Or.inl (XR_mono c1 u))), f2 c j x]) (by omega) (by omega) (fun y => ?_)
        have p2 := (pl.2.2 y).1
        have k3 : ∀ c j, 16144 ≤ c → c ≤ 16155 → s * 1700 ≤ j → j < s * 1700 + i1 → G3 c j = G2 c j := fun c j y1 y2 y3 y4 => w3 c j (by unfold XR; omega)
        refine ⟨by omega, by omega, s * 1700 + kv, ⟨i1, Int.le_refl _, hT _ _ _ _ _ _ T2 (fun c j y1 y2 y3 y4 y5 => k3 c j y1 y2 (by omega) y4), fun u => absurd (by rw [hb] at u; exact u) z, fun _ => by rw [k3 _ _ (by omega) (by omega) (by omega) (by omega)]; exact n2⟩, fun y => (x1 y).2, fun y => ?_⟩
        obtain ⟨k, k1, k2, k4⟩ := nl y
        rw [k3 _ _ (by omega) (by omega) (by omega) (by omega), l2n y]
        exact ⟨(x2 y).1, rfl⟩
    · rw [pb_n e] at spec
      have fl : G2 16081 20 ≠ 0 := fun z => e ((RM_fl hR2).mp z)
      unfold PX13_arguments_84 PX13_arguments_107 PX13_arguments_108 PX13_arguments_117
      refine fun _ => ⟨fun z => absurd z fl, fun _ => ⟨fun _ => ?_, fun z => absurd rfl z⟩⟩
      show PX13_arguments_47 R (PX13_arguments_J R F') l1' v 0 G2 Q
      refine rargs_0 hK hR2 (fun G3 hR3 f3 => ?_)
      rw [pb_n e, ← spec] at hR3
      exact hQ _ G3 i1 hR3 c1 (FR_tr f2 (FR_mono (fun _ _ u => Or.inl (XR_mono c1 u)) f3)) (by rw [spec]; exact c4) (by rw [spec]; exact c5) (fun y => absurd (by rw [← spec]; exact y) e)
theorem pargsL_le : ∀ (f : Nat) (a : Int), (∀ b, b ≤ (eE b).2) → a ≤ (pargsL tk eE f a).2
  | 0, a, _ => Int.le_refl _
  | f + 1, a, h => by
    have h1 := h a
    show a ≤ (pb (eE a) fun b => if tk b = 144 then pb (ptake b) (pargsL tk eE f) else pneed tk 141 b).2
    by_cases e : (eE a).1 = 0
    · rw [pb_0 e]
      split
      · by_cases e2 : (ptake (eE a).2).1 = 0
        · rw [pb_0 e2]
          have := pargsL_le f (ptake (eE a).2).2 h
          have := ptake_le (a := (eE a).2)
          omega
        · rw [pb_n e2]
          have := ptake_le (a := (eE a).2)
          omega
      · have := pneed_le (tk := tk) (w := 141) (a := (eE a).2)
        omega
    · rw [pb_n e]; exact h1
def SRa (R : JT) (B : gS) (s N d : Int) (tk : Int → Int) (T : TT) (eE : Int → RR) : Prop := ∀ (G : gS) (q : RR) (i : Int) (Q : Int → gS → Prop), RM B s N d G q i → 0 ≤ i → (q.1 = 0 → i ≤ q.2 + 2) → (∀ v G' i', RM B s N d G' (pb q (pargs tk eE)) i' → RFc s G G' q (pb q (pargs tk eE)) i i' (rArgs tk T eE i i' v q.2 G') → Q v G') → R 0 [] G Q
theorem rargs_ok {Q : Int → gS → Prop} (hK : TKp B s N tk cd) (hE : SRe R B s N d 1 T eE) (hI : RTI s T) (hT : RTF s T) (h : RM B s N d G q i) (h0 : 0 ≤ i) (hi : q.1 = 0 → i ≤ q.2 + 2) (hQ : ∀ v G' i', RM B s N d G' (pb q (pargs tk eE)) i' → RFc s G G' q (pb q (pargs tk eE)) i i' (rArgs tk T eE i i' v q.2 G') → Q v G') : PX13_arguments R G Q := by
  refine ⟨4000000000, Nat.le_refl _, ?_⟩
  generalize hF : (4000000000 : Nat) = F
  have spec : pb q (pargs tk eE) = pb (pb q (pneed tk 140)) fun b => if tk b = 141 then ptake b else pargsL tk eE 702 b := by rw [pb_pb]; rfl
  generalize hr0 : pb q (pargs tk eE) = r0 at *
  unfold PX13_arguments_0
  refine rWantSign (k := 140) hK h (Or.inl ⟨by unfold sg; omega, rfl⟩) (fun G1 hR1 f1 => ?_)
  have bad : (pb q (pneed tk 140)).1 ≠ 0 → PX13_arguments_31 R (PX13_arguments_J R F) (-2) G1 Q := fun e => by
    rw [pb_n e] at spec
    have fl : G1 16081 20 ≠ 0 := fun z => e ((RM_fl hR1).mp z)
    unfold PX13_arguments_31 PX13_arguments_46
    refine fun _ => ⟨fun z => absurd z fl, fun _ => rargs_0 hK hR1 (fun G2 hR2 f2 => ?_)⟩
    rw [pb_n e, ← spec] at hR2
    have hle : q.2 ≤ r0.2 ∧ (q.1 ≠ 0 → True) := by
      rw [spec]
      by_cases eq : q.1 = 0
      · rw [pb_0 eq]; exact ⟨(pneed_le).1, fun _ => trivial⟩
      · rw [pb_n eq]; exact ⟨Int.le_refl _, fun _ => trivial⟩
    exact hQ _ G2 i hR2 ⟨Int.le_refl _, FR_tr f1 f2, fun _ => rfl, hle.1, by omega, fun z => absurd (by rw [← spec]; exact z) e⟩
  by_cases e : (pb q (pneed tk 140)).1 = 0
  · obtain ⟨eq, e2⟩ := pb_z e
    have pl := (pneed_le (tk := tk) (w := 140) (a := q.2)).2.2 e2
    have eb : (pb q (pneed tk 140)).2 = q.2 + 1 := by rw [pb_0 eq]; exact pl.1
    rw [pb_0 e, eb] at spec
    have fl : G1 16081 20 = 0 := (RM_fl hR1).mpr e
    have hi' := hi eq
    refine fun _ => ⟨fun _ => rSg (k := 141) hK hR1 e (Or.inl ⟨by unfold sg; omega, rfl⟩) (fun z => fun _ => ⟨fun y => absurd y (by decide), fun _ => ?_⟩) (fun z => fun _ => ⟨fun _ => ?_, fun y => absurd rfl y⟩), fun z => absurd fl z⟩
    · rw [eb] at z
      rw [if_pos z] at spec
      refine rStep hK hR1 (fun _ => by rw [eb]; omega) (fun G2 hR2 f2 => ?_)
      rw [pb_0 e, eb, ← spec] at hR2
      have tl := ptake_le (a := q.2 + 1)
      rw [← spec] at tl
      exact hQ _ G2 i hR2 ⟨Int.le_refl _, FR_tr f1 f2, fun _ => rfl, by omega, by omega, fun y => ⟨by omega, by have := tl.2.2 y; omega, fun _ => ⟨rfl, Int.le_refl _⟩, fun u => absurd z u⟩⟩
    · rw [eb] at z
      rw [if_neg z] at spec
      unfold PX13_arguments_31 PX13_arguments_46
      refine fun _ => ⟨fun _ => ?_, fun y => absurd fl y⟩
      have hR1' := RM_eq hR1 e eb
      have haN := hR1'.2.2.1
      have hN := hK.2.2.2.2.1
      have ha0 := h.2.1
      refine rargs_loop hK hE hI hT 702 F G1 (q.2 + 1) i (-2) (-2) Q (by omega) (by omega) hR1' h0 (by omega) (Or.inl rfl) (fun v G2 i2 hR2 d1 d2 d3 d4 d5 => ?_)
      rw [← spec] at hR2 d3 d4 d5
      refine hQ v G2 i2 hR2 ⟨d1, FR_tr f1 (fun c j x => d2 c j (fun u => x ?_)), fun u => absurd eq u, by omega, by omega, fun y => ?_⟩
      · rcases u with u | u
        · exact u
        · exact absurd u.2.2 (by decide)
      · obtain ⟨u1, u2, m, u3, u4, u5⟩ := d5 y
        exact ⟨by omega, by omega, fun u => absurd u z, fun _ => by rw [u4 rfl]; exact u3⟩
  · have fl : G1 16081 20 ≠ 0 := fun z => e ((RM_fl hR1).mp z)
    exact fun _ => ⟨fun z => absurd z fl, fun _ => bad e⟩
end RP3

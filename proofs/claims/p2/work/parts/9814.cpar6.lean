section CP7
variable {tk cd : Int → Int} {T C : TT} {eE cU : Int → RR} {c d i a : Int} {R : JT} {G : gS}
-- a node made for the token at hand, the token taken
theorem Pre_node {G1 G3 : gS} {k : Int} {w : Int} (h : Pre G tk cd c i a d) (hN : NN G G1 i k a) (h3 : G3 = uG (uG G1 (14 + i) 10 w) 7 8 (a + 1)) (h1 : a < 700) (ht : tk a ≠ 0) : Pre G3 tk cd c (i + 1) (a + 1) d ∧ FP G G3 ∧ (∀ k' j, 14 ≤ k' → k' < 14 + i → G3 k' j = G k' j) ∧ G3 (14 + i) 0 = k ∧ G3 (14 + i) 1 = a ∧ G3 (14 + i) 2 = a ∧ G3 (14 + i) 4 = -1 ∧ G3 (14 + i) 5 = -1 ∧ G3 (14 + i) 8 = -1 ∧ G3 (14 + i) 10 = w ∧ G3 (14 + i) 11 = -1 := by
  obtain ⟨p1, p2, p3, p4, p5, p6, p7, p8, p9, p10, p11, p12⟩ := h
  have hlt := PT_lt p1 ht
  have f1 := NN_FP hN p8 (by omega)
  obtain ⟨n14, n0, n1, n2, n3, n4, n5, n6, n7, n8, n9, n10, n11, nf⟩ := hN
  have f3 : FP G G3 := by rw [h3]; exact FP_up (FP_up f1 (by omega)) (by omega)
  subst h3
  refine ⟨⟨PT_FP p1 f3, uG_at _ _ _ _, by rw [uG_j (by decide), uG_c (by omega), nf 7 9 (by omega) (by omega)]; exact p3, by omega, by omega, by omega, by rw [uG_j (by decide), uG_c (by omega)]; exact n14, by omega, by omega, p10, p11, CD_FP p12 f3⟩, f3, fun k' j x y => by rw [uG_c (by omega), uG_c (by omega)]; exact nf k' j (by omega) (by omega), ?_, ?_, ?_, ?_, ?_, ?_, ?_, ?_⟩
  · rw [uG_c (by omega), uG_j (by decide)]; exact n0
  · rw [uG_c (by omega), uG_j (by decide)]; exact n1
  · rw [uG_c (by omega), uG_j (by decide)]; exact n2
  · rw [uG_c (by omega), uG_j (by decide)]; exact n4
  · rw [uG_c (by omega), uG_j (by decide)]; exact n5
  · rw [uG_c (by omega), uG_j (by decide)]; exact n8
  · rw [uG_c (by omega), uG_at]
  · rw [uG_c (by omega), uG_j (by decide)]; exact n11
theorem Pst_now {G' : gS} {P : Int → Prop} {old : Int → Int → Prop} {i1 b : Int} (h : Pre G' tk cd c i1 b d) (hf : FP G G') (hab : a < b) (hi : i ≤ i1 ∧ i1 ≤ i + (b - a)) (ho : ∀ k j, 14 ≤ k → k < 14 + i → ¬ old k j → G' k j = G k j) (hP : P i1) {r : RR} (hr : r = (0, b)) : Pst G G' c i a r P old := by
  obtain ⟨p1, p2, p3, p4, p5, p6, p7, p8, p9, p10, p11, p12⟩ := h
  subst hr
  exact ⟨hf, fun z => absurd rfl z, fun _ => ⟨p3, p2, hab, p5, p6, ho, i1, p7, hi.1, hi.2, hP⟩⟩
theorem bE_ne {a : Int} (h : bE tk a = true) : tk a = 4 ∨ tk a = 3 ∨ tk a = 2 ∨ tk a = 36 ∨ tk a = 37 ∨ tk a = 38 ∨ tk a = 25 ∨ tk a = 140 := by
  unfold bE at h
  simp only [Bool.or_eq_true, beq_iff_eq] at h
  exact h
theorem front_ok {Q : Int → gS → Prop} (hA : SA R tk cd c T eE d) (hS : SS R tk cd c T eE d) (hO : SO R tk cd c T eE d) (hR : SR R tk cd c T C eE cU d) (hp : Pre G tk cd c i a d) (hQ : ∀ v G', PsE G G' c i a (pfront tk eE cU a) (cFront tk cd T C eE) v → Q v G') : PX9_front R d G Q := by
  have hp' := hp
  obtain ⟨p1, p2, p3, p4, p5, p6, p7, p8, p9, p10, p11, p12⟩ := hp
  have fail : ∀ G1 m x, FP G G1 → m ≠ 0 → pfront tk eE cU a = (m, x) → Q (-1) (fG G1 m x) := fun G1 m x hF hm hr => hQ (-1) _ ⟨Pst_fl hF hm hr, fun _ => rfl, fun z => by rw [hr] at z; exact absurd z hm⟩
  unfold PX9_front PX9_front_0
  refine sX9_now p1 p2 p4 (by omega) (fun _ => sX9_beginsE (a := a) rfl (fun hb => fun _ => ⟨fun u => absurd u (by decide), fun _ => ?_⟩) (fun hb => fun _ => ⟨fun _ => sX9_miss p1 p2 p3 p4 (by omega) (fun _ => fail G _ a (FP_id _) (pmiss_ne (tk := tk) a) (by unfold pfront; rw [hb]; rfl)), fun u => absurd rfl u⟩))
  have s0 : pfront tk eE cU a = pb (ptake a) fun b => if tk a = 4 ∨ tk a = 36 ∨ tk a = 37 then (0, b) else if tk a = 3 then (if tk b = 140 then pargs tk eE b else (0, b)) else if tk a = 2 then pclass tk eE b else if tk a = 38 then psuper tk eE b else if tk a = 25 then pb (pneed tk 2 b) (pargs tk eE) else pround tk eE cU b := by unfold pfront; rw [if_pos hb]
  have hbe := bE_ne hb
  rw [p2]
  refine fun _ => sX9_node p7 p8 (by omega) (fun G1 hN => ?_)
  have g8 : G1 7 8 = a := by rw [hN.2.2.2.2.2.2.2.2.2.2.2.2.2 7 8 (by omega) (by omega)]; exact p2
  have f1 := NN_FP hN p8 (by omega)
  have ecd : G1 12 a = cd a := (CD_FP p12 f1) a p4 (by omega)
  rw [g8]
  refine fun _ => ⟨p4, by omega, fun _ => ⟨nd_isO p8 (by omega), fun G2 e2 => ?_⟩⟩
  rw [ecd] at e2
  have f2 : FP G G2 := by rw [e2]; exact FP_up f1 (by omega)
  have g28 : G2 7 8 = a := by rw [e2, uG_c (by omega)]; exact g8
  have g29 : G2 7 9 = 0 := by rw [e2, uG_c (by omega), hN.2.2.2.2.2.2.2.2.2.2.2.2.2 7 9 (by omega) (by omega)]; exact p3
  refine sX9_take g28 g29 p4 (fun x3 y3 => fun _ => ⟨fun u => absurd u (by decide), fun _ => ?_⟩) (fun x3 => fun _ => ⟨fun _ => fail G2 3 a f2 (by decide) (by rw [s0, x3]; exact pb_n three_ne), fun u => absurd rfl u⟩)
  rw [pb_e x3] at s0
  obtain ⟨hp3, f3, o3, k0, k1, k2, k4, k5, k8, k10, k11⟩ := Pre_node hp' hN (G3 := uG G2 7 8 (a + 1)) (w := cd a) (by rw [e2]) y3 (by omega)
  generalize uG G2 7 8 (a + 1) = G3 at *
  have hno : 14 ≤ 14 + i ∧ 14 + i < 14 + (i + 1) := by omega
  have hnO : isO W0 8 (14 + i) := nd_isO p8 (by omega)
  -- what a part behind the front's first token gives
  have fin : ∀ (G4 G' : gS) (r : RR) (P : Int → Prop) (old2 : Int → Int → Prop) (i1 b v : Int), FP G G4 → (∀ k j, 14 ≤ k → k < 14 + i → G4 k j = G k j) → i1 = i + 1 → a + 1 ≤ b → Pst G4 G' c i1 b r P old2 → (∀ k j, old2 k j → k = 14 + i) → pfront tk eE cU a = r → (r.1 ≠ 0 → v = -1) → (r.1 = 0 → v = 14 + i ∧ ((∀ k j, 14 ≤ k → k < 14 + i1 → ¬ old2 k j → G' k j = G4 k j) → ∀ i', i1 ≤ i' → P i' → cFront tk cd T C eE i i' (14 + i) a G' ∧ G' (14 + i) 8 = -1)) → Q v G' := by
    intro G4 G' r P old2 i1 b v hF ho hi hb hst hold hr hv0 hv1
    refine hQ v G' ?_
    rw [hr]
    refine PsE_of (Pst_seq (b := b) (i1 := i1) hF (fun k j x y _ => ho k j x y) (by omega) (by omega) hst (fun k j x y => by have := hold k j y; omega) (fun z hg i' hi' h => ?_)) hv0
    rw [(hv1 z).1]
    exact (hv1 z).2 hg i' hi' h
  have leaf : ∀ (G4 : gS), (∀ k j, 14 ≤ k → ¬ (k = 14 + i ∧ j = 0) → G4 k j = G3 k j) → FP G G4 → Pre G4 tk cd c (i + 1) (a + 1) d → pfront tk eE cU a = (0, a + 1) → cFront tk cd T C eE i (i + 1) (14 + i) a G4 → Q (14 + i) G4 := fun G4 hsm hF hpre hr hc => hQ _ _ (PsE_of (Pst_now hpre hF (by omega) (by omega) (fun k j x y _ => by rw [hsm k j x (by omega)]; exact o3 k j x y) ⟨hc, by rw [hsm _ _ (by omega) (by omega)]; exact k8⟩ hr) (fun z => by rw [hr] at z; exact absurd rfl z))
  refine ⟨fun z => ?_, fun z => ?_, fun z => ?_, fun z => ?_, fun z G4 e4 => ?_, fun z G4 e4 => ?_, fun z G4 e4 => ?_, fun z => ?_⟩
  · -- C
    have s1 : pfront tk eE cU a = pclass tk eE (a + 1) := by rw [s0, if_neg (by omega), if_neg (by omega), if_pos (by omega)]
    refine hO G3 (i + 1) (a + 1) (14 + i) _ hp3 hno k5 (fun v G' h => ?_)
    obtain ⟨l1, l2, l3⟩ := h
    refine fin G3 G' _ _ _ (i + 1) (a + 1) v f3 o3 rfl (by omega) l1 (fun k j y => y.1) s1 l2 (fun u => ⟨l3 u, fun hg i' hi' hk => ?_⟩)
    have e1 : ∀ j, ¬ (j = 0 ∨ j = 2 ∨ j = 5) → G' (14 + i) j = G3 (14 + i) j := fun j w => hg _ j (by omega) (by omega) (fun w2 => w w2.2)
    obtain ⟨q1, q2⟩ := hk
    rw [show a + 1 + 1 = a + 2 by omega, show a + 1 + 2 = a + 3 by omega, show a + 1 + 3 = a + 4 by omega, show a + 1 + 4 = a + 5 by omega] at *
    exact ⟨⟨rfl, by omega, by rw [e1 1 (by omega)]; exact k1, by rw [e1 4 (by omega)]; exact k4, by rw [e1 11 (by omega)]; exact k11, fun w => by omega, fun w => by omega, fun w => by omega, fun w => by omega, fun _ => ⟨q1, q2⟩, fun w => by omega, fun w => by omega, fun w => by omega⟩, by rw [e1 8 (by omega)]; exact k8⟩
  · -- NAME
    unfold PX9_front_152 PX9_front_172 PX9_front_177
    refine sX9_now hp3.1 hp3.2.1 (by omega) (by omega) (fun _ => ⟨fun u => ⟨hnO, fun G5 e5 => ⟨hnO, ?_⟩⟩, fun u => ⟨hnO, fun G5 e5 => ⟨hnO, ?_⟩⟩⟩)
    · have s1 : pfront tk eE cU a = pargs tk eE (a + 1) := by rw [s0, if_neg (by omega), if_pos (by omega), if_pos u]
      have c0 : G5 (14 + i) 0 = 5 := by rw [e5]; exact uG_at _ _ _ _
      rw [c0]
      refine fun _ => ⟨fun w => absurd w (by decide), fun _ => ?_⟩
      have hp5 := Pre_nd (k := 14 + i) (j := 0) (v := 5) hp3 (by omega)
      rw [← e5] at hp5
      refine hA G5 (i + 1) (a + 1) (14 + i) _ hp5 hno (by rw [e5, uG_j (by decide)]; exact k5) (fun v G' h => ?_)
      obtain ⟨l1, l2, l3⟩ := h
      have res : ∀ v', (((pargs tk eE (a + 1))).1 ≠ 0 → v' = -1) → ((pargs tk eE (a + 1)).1 = 0 → v' = 14 + i) → Q v' G' := fun v' w1 w2 => by
        refine fin G5 G' _ _ _ (i + 1) (a + 1) v' (by rw [e5]; exact FP_up f3 (by omega)) (fun k j x y => by rw [e5, uG_c (by omega)]; exact o3 k j x y) rfl (by omega) l1 (fun k j y => y.1) s1 w1 (fun w => ⟨w2 w, fun hg i' hi' hk => ?_⟩)
        have e1 : ∀ j, j ≠ 5 → G' (14 + i) j = G5 (14 + i) j := fun j w => hg _ j (by omega) (by omega) (fun w2 => w w2.2)
        have e1' : ∀ j, j ≠ 5 → j ≠ 0 → G' (14 + i) j = G3 (14 + i) j := fun j w x => by rw [e1 j w, e5, uG_j x]
        exact ⟨⟨rfl, by omega, by rw [e1' 1 (by omega) (by omega)]; exact k1, by rw [e1' 4 (by omega) (by omega)]; exact k4, by rw [e1' 11 (by omega) (by omega)]; exact k11, fun w => by omega, fun w => by omega, fun w => by omega, fun _ => ⟨by rw [e1' 2 (by omega) (by omega)]; exact k2, fun _ => ⟨by rw [e1 0 (by omega)]; exact c0, hk⟩, fun w => absurd u w⟩, fun w => by omega, fun w => by omega, fun w => by omega, fun w => by omega⟩, by rw [e1' 8 (by omega) (by omega)]; exact k8⟩
      by_cases e : (pargs tk eE (a + 1)).1 = 0
      · have ev := l3 e
        subst ev
        exact fun _ => ⟨fun w => absurd w (by decide), fun _ => res _ (fun w => absurd e w) (fun _ => rfl)⟩
      · have ev := l2 e
        subst ev
        exact fun _ => ⟨fun _ => res _ (fun _ => rfl) (fun w => absurd w e), fun w => absurd rfl w⟩
    · have s1 : pfront tk eE cU a = (0, a + 1) := by rw [s0, if_neg (by omega), if_pos (by omega), if_neg u]
      have c0 : G5 (14 + i) 0 = 4 := by rw [e5]; exact uG_at _ _ _ _
      rw [c0]
      refine fun _ => ⟨fun _ => ?_, fun w => absurd rfl w⟩
      have hp5 := Pre_nd (k := 14 + i) (j := 0) (v := 4) hp3 (by omega)
      rw [← e5] at hp5
      have e1 : ∀ j, j ≠ 0 → G5 (14 + i) j = G3 (14 + i) j := fun j w => by rw [e5, uG_j w]
      exact leaf G5 (fun k j x y => by rw [e5, uG_ne (by omega)]) (by rw [e5]; exact FP_up f3 (by omega)) hp5 s1 ⟨rfl, by omega, by rw [e1 1 (by omega)]; exact k1, by rw [e1 4 (by omega)]; exact k4, by rw [e1 11 (by omega)]; exact k11, fun w => by omega, fun w => by omega, fun w => by omega, fun _ => ⟨by rw [e1 2 (by omega)]; exact k2, fun w => absurd w u, fun _ => c0⟩, fun w => by omega, fun w => by omega, fun w => by omega, fun w => by omega⟩
  · -- NUMBER
    have s1 : pfront tk eE cU a = (0, a + 1) := by rw [s0, if_pos (by omega)]
    exact leaf G3 (fun _ _ _ _ => rfl) f3 hp3 s1 ⟨rfl, by omega, k1, k4, k11, fun _ => ⟨k0, k10⟩, fun w => by omega, fun w => by omega, fun w => by omega, fun w => by omega, fun w => by omega, fun w => by omega, fun w => by omega⟩
  · -- new
    have s1 : pfront tk eE cU a = pb (pneed tk 2 (a + 1)) (pargs tk eE) := by rw [s0, if_neg (by omega), if_neg (by omega), if_neg (by omega), if_neg (by omega), if_pos (by omega)]
    intro G4 e4
    have hp4 := Pre_nd (k := 14 + i) (j := 0) (v := 10) hp3 (by omega)
    rw [← e4] at hp4
    rw [hp4.2.1]
    intro _ G5 e5
    have hp5 := Pre_nd (k := 14 + i) (j := 2) (v := a + 1) hp4 (by omega)
    rw [← e5] at hp5
    rw [hp5.2.1]
    refine fun _ => ⟨by omega, by omega, fun _ G6 e6 => ?_⟩
    rw [hp5.2.2.2.2.2.2.2.2.2.2.2 (a + 1) (by omega) (by omega)] at e6
    have hp6 := Pre_nd (k := 14 + i) (j := 10) (v := cd (a + 1)) hp5 (by omega)
    rw [← e6] at hp6
    have f6 : FP G G6 := by rw [e6, e5, e4]; exact FP_up (FP_up (FP_up f3 (by omega)) (by omega)) (by omega)
    unfold PX9_front_254 PX9_front_255
    refine sX9_need hp6.1 hp6.2.1 hp6.2.2.1 (by omega) (by omega) (by decide) (fun x y w => fun _ => ⟨fun u => absurd u (by decide), fun _ => ?_⟩) (fun m x y => fun _ => ⟨fun _ => fail G6 m (a + 1) f6 x (by rw [s1, y]; exact pb_n x), fun u => absurd rfl u⟩)
    rw [pb_e x] at s1
    have hp7 := Pre_take hp6 y (by omega)
    refine hA _ (i + 1) (a + 1 + 1) (14 + i) _ hp7 hno (by rw [uG_c (by omega), e6, uG_j (by decide), e5, uG_j (by decide), e4, uG_j (by decide)]; exact k5) (fun v G' h => ?_)
    obtain ⟨l1, l2, l3⟩ := h
    have res : ∀ v', (((pargs tk eE (a + 1 + 1))).1 ≠ 0 → v' = -1) → ((pargs tk eE (a + 1 + 1)).1 = 0 → v' = 14 + i) → Q v' G' := fun v' w1 w2 => by
      refine fin _ G' _ _ _ (i + 1) (a + 1 + 1) v' (FP_up f6 (by omega)) (fun k j x y => by rw [uG_c (by omega), e6, uG_c (by omega), e5, uG_c (by omega), e4, uG_c (by omega)]; exact o3 k j x y) rfl (by omega) l1 (fun k j y => y.1) s1 w1 (fun w => ⟨w2 w, fun hg i' hi' hk => ?_⟩)
      have e1 : ∀ j, j ≠ 5 → G' (14 + i) j = G6 (14 + i) j := fun j w => by rw [hg _ j (by omega) (by omega) (fun w2 => w w2.2), uG_c (by omega)]
      have e1' : ∀ j, j ≠ 5 → j ≠ 0 → j ≠ 2 → j ≠ 10 → G' (14 + i) j = G3 (14 + i) j := fun j w x y z => by rw [e1 j w, e6, uG_j z, e5, uG_j y, e4, uG_j x]
      exact ⟨⟨rfl, by omega, by rw [e1' 1 (by omega) (by omega) (by omega) (by omega)]; exact k1, by rw [e1' 4 (by omega) (by omega) (by omega) (by omega)]; exact k4, by rw [e1' 11 (by omega) (by omega) (by omega) (by omega)]; exact k11, fun w => by omega, fun w => by omega, fun w => by omega, fun w => by omega, fun w => by omega, fun w => by omega, fun _ => ⟨by rw [e1 0 (by omega), e6, uG_j (by decide), e5, uG_j (by decide), e4, uG_at], by rw [e1 2 (by omega), e6, uG_j (by decide), e5, uG_at], by rw [e1 10 (by omega), e6, uG_at], by rw [show a + 2 = a + 1 + 1 by omega]; exact hk⟩, fun w => by omega⟩, by rw [e1' 8 (by omega) (by omega) (by omega) (by omega)]; exact k8⟩
    by_cases e : (pargs tk eE (a + 1 + 1)).1 = 0
    · have ev := l3 e
      subst ev
      exact fun _ => ⟨fun w => absurd w (by decide), fun _ => res _ (fun w => absurd e w) (fun _ => rfl)⟩
    · have ev := l2 e
      subst ev
      exact fun _ => ⟨fun _ => res _ (fun _ => rfl) (fun w => absurd w e), fun w => absurd rfl w⟩
  · -- null
    have s1 : pfront tk eE cU a = (0, a + 1) := by rw [s0, if_pos (by omega)]
    have hp4 := Pre_nd (k := 14 + i) (j := 0) (v := 2) hp3 (by omega)
    rw [← e4] at hp4
    have e1 : ∀ j, j ≠ 0 → G4 (14 + i) j = G3 (14 + i) j := fun j w => by rw [e4, uG_j w]
    exact leaf G4 (fun k j x y => by rw [e4, uG_ne (by omega)]) (by rw [e4]; exact FP_up f3 (by omega)) hp4 s1 ⟨rfl, by omega, by rw [e1 1 (by omega)]; exact k1, by rw [e1 4 (by omega)]; exact k4, by rw [e1 11 (by omega)]; exact k11, fun w => by omega, fun _ => by rw [e4]; exact uG_at _ _ _ _, fun w => by omega, fun w => by omega, fun w => by omega, fun w => by omega, fun w => by omega, fun w => by omega⟩
  · -- this
    have s1 : pfront tk eE cU a = (0, a + 1) := by rw [s0, if_pos (by omega)]
    have hp4 := Pre_nd (k := 14 + i) (j := 0) (v := 3) hp3 (by omega)
    rw [← e4] at hp4
    have e1 : ∀ j, j ≠ 0 → G4 (14 + i) j = G3 (14 + i) j := fun j w => by rw [e4, uG_j w]
    exact leaf G4 (fun k j x y => by rw [e4, uG_ne (by omega)]) (by rw [e4]; exact FP_up f3 (by omega)) hp4 s1 ⟨rfl, by omega, by rw [e1 1 (by omega)]; exact k1, by rw [e1 4 (by omega)]; exact k4, by rw [e1 11 (by omega)]; exact k11, fun w => by omega, fun w => by omega, fun _ => by rw [e4]; exact uG_at _ _ _ _, fun w => by omega, fun w => by omega, fun w => by omega, fun w => by omega, fun w => by omega⟩
  · -- super
    have s1 : pfront tk eE cU a = psuper tk eE (a + 1) := by rw [s0, if_neg (by omega), if_neg (by omega), if_neg (by omega), if_pos (by omega)]
    have hp4 := Pre_nd (k := 14 + i) (j := 0) (v := 9) hp3 (by omega)
    rw [← e4] at hp4
    have c0 : G4 (14 + i) 0 = 9 := by rw [e4]; exact uG_at _ _ _ _
    unfold PX9_front_205
    refine hS G4 (i + 1) (a + 1) (14 + i) _ hp4 hno (by rw [e4, uG_j (by decide)]; exact k5) (fun v G' h => ?_)
    obtain ⟨l1, l2, l3⟩ := h
    have res : ∀ v', (((psuper tk eE (a + 1))).1 ≠ 0 → v' = -1) → ((psuper tk eE (a + 1)).1 = 0 → v' = 14 + i) → Q v' G' := fun v' w1 w2 => by
      refine fin G4 G' _ _ _ (i + 1) (a + 1) v' (by rw [e4]; exact FP_up f3 (by omega)) (fun k j x y => by rw [e4, uG_c (by omega)]; exact o3 k j x y) rfl (by omega) l1 (fun k j y => y.1) s1 w1 (fun w => ⟨w2 w, fun hg i' hi' hk => ?_⟩)
      have e1 : ∀ j, ¬ (j = 5 ∨ j = 2) → G' (14 + i) j = G4 (14 + i) j := fun j w => hg _ j (by omega) (by omega) (fun w2 => w w2.2)
      have e1' : ∀ j, ¬ (j = 5 ∨ j = 2) → j ≠ 0 → G' (14 + i) j = G3 (14 + i) j := fun j w x => by rw [e1 j w, e4, uG_j x]
      exact ⟨⟨rfl, by omega, by rw [e1' 1 (by omega) (by omega)]; exact k1, by rw [e1' 4 (by omega) (by omega)]; exact k4, by rw [e1' 11 (by omega) (by omega)]; exact k11, fun w => by omega, fun w => by omega, fun w => by omega, fun w => by omega, fun w => by omega, fun _ => ⟨by rw [e1 0 (by omega)]; exact c0, by rw [hk.1]; omega, by rw [show a + 3 = a + 1 + 2 by omega]; exact hk.2⟩, fun w => by omega, fun w => by omega⟩, by rw [e1' 8 (by omega) (by omega)]; exact k8⟩
    by_cases e : (psuper tk eE (a + 1)).1 = 0
    · have ev := l3 e
      subst ev
      exact fun _ => ⟨fun w => absurd w (by decide), fun _ => res _ (fun w => absurd e w) (fun _ => rfl)⟩
    · have ev := l2 e
      subst ev
      exact fun _ => ⟨fun _ => res _ (fun _ => rfl) (fun w => absurd w e), fun w => absurd rfl w⟩
  · -- (
    have s1 : pfront tk eE cU a = pround tk eE cU (a + 1) := by rw [s0, if_neg (by omega), if_neg (by omega), if_neg (by omega), if_neg (by omega), if_neg (by omega)]
    refine hR G3 (i + 1) (a + 1) (14 + i) _ hp3 hno (fun v G' h => ?_)
    obtain ⟨l1, l2, l3⟩ := h
    refine fin G3 G' _ _ _ (i + 1) (a + 1) v f3 o3 rfl (by omega) l1 (fun k j y => y.1) s1 l2 (fun u => ⟨l3 u, fun hg i' hi' hk => ?_⟩)
    have e1 : ∀ j, ¬ (j = 0 ∨ j = 2 ∨ j = 5 ∨ j = 10) → G' (14 + i) j = G3 (14 + i) j := fun j w => hg _ j (by omega) (by omega) (fun w2 => w w2.2)
    obtain ⟨q1, q2⟩ := hk
    rw [show a + 1 + 1 = a + 2 by omega, show a + 1 + 2 = a + 3 by omega] at *
    exact ⟨⟨rfl, by omega, by rw [e1 1 (by omega)]; exact k1, by rw [e1 4 (by omega)]; exact k4, by rw [e1 11 (by omega)]; exact k11, fun w => by omega, fun w => by omega, fun w => by omega, fun w => by omega, fun w => by omega, fun w => by omega, fun w => by omega, fun _ => ⟨q1, q2⟩⟩, by rw [e1 8 (by omega)]; exact k8⟩
end CP7

section CQ2
variable {tk cd : Int → Int} {P : TT} {eP : Int → RR} {isOp : Int → Prop} {c d b : Int} {R : JT}
def SPt (R : JT) (tk cd : Int → Int) (c : Int) (P : TT) (eP : Int → RR) (isOp : Int → Prop) (d b : Int) : Prop := (b = 0 ∧ isOp = opP ∧ SEx R tk cd c P eP 8 [d] d) ∨ (b = 1 ∧ isOp = opS ∧ SEx R tk cd c P eP 2 [d, 0] d)
theorem chain_fault {J : JT} {G : gS} {Q : Int → gS → Prop} {w cnt : Int} (hQ : Q (-1) G) : PX9_chain_25 R J d b (-1) w cnt G Q := by
  have e : PX9_chain_136 R J d b (-1) w cnt G Q := by
    unfold PX9_chain_136 PX9_chain_146
    exact ⟨fun _ => hQ, fun z => absurd z (by decide)⟩
  unfold PX9_chain_25
  exact ⟨fun _ => ⟨fun _ => e, fun z => absurd z (by decide)⟩, fun _ => e⟩
theorem chain_72 {J : JT} {G : gS} {Q : Int → gS → Prop} {i a l w cnt : Int} (hP : SPt R tk cd c P eP isOp d b) (hI : TI P) (hF : TF3 P) (pt : PT G tk c) (h8 : G 7 8 = a) (h9 : G 7 9 = 0) (h0 : 0 ≤ a) (h1 : a ≤ 700) (hpre : a < 700 → Pre (uG G 7 8 (a + 1)) tk cd c i (a + 1) d) (hl : 14 ≤ l ∧ l < 14 + i) (hi : i ≤ 800) (hcnt : 0 ≤ cnt ∧ cnt < 700) (hok : ∀ v G2 i2, ptake a = (0, a + 1) → (eP (a + 1)).1 = 0 → FP G G2 → Pre G2 tk cd c i2 (eP (a + 1)).2 d → i ≤ i2 → i2 ≤ i + ((eP (a + 1)).2 - (a + 1)) → a + 1 < (eP (a + 1)).2 → P i i2 v (a + 1) G2 → G2 v 3 = tk a → G2 v 8 = -1 → G2 l 8 = v → (∀ k j, 14 ≤ k → k < 14 + i → ¬ (k = l ∧ j = 8) → G2 k j = G k j) → J 0 [d, b, v, w, cnt + 1] G2 Q) (hbad : ∀ r G2, r.1 ≠ 0 → (r = (3, a) ∧ ptake a = (3, a) ∨ ptake a = (0, a + 1) ∧ r = eP (a + 1)) → G2 7 9 = r.1 → AT G2 r.2 → FP G G2 → J 0 [d, b, -1, w, cnt + 1] G2 Q) : PX9_chain_72 R J d b l w cnt G Q := by
  have lO : isO W0 8 l := nd_of hl hi
  have bad : ∀ r G1, r.1 ≠ 0 → (r = (3, a) ∧ ptake a = (3, a) ∨ ptake a = (0, a + 1) ∧ r = eP (a + 1)) → G1 7 9 = r.1 → AT G1 r.2 → FP G G1 → PX9_chain_107 R J d b l w cnt (tk a) (-1) G1 Q := fun r G1 x1 x2 x3 x4 x5 => by
    unfold PX9_chain_107 PX9_chain_121
    refine ⟨fun _ => ⟨lO, Or.inl rfl, fun G2 e2 => ⟨by unfold inI; omega, hbad r G2 x1 x2 ?_ ?_ ?_⟩⟩, fun z => absurd z (by decide)⟩
    · rw [e2, uG_c (by omega)]; exact x3
    · exact AT_c e2 (by omega) x4
    · rw [e2]; exact FP_up x5 (by omega)
  unfold PX9_chain_72
  refine sX9_now pt h8 h0 (by omega) (fun _ => sX9_take h8 h9 h0 (fun x y => fun _ => ⟨fun z => absurd z (by decide), fun _ => ?_⟩) (fun x => fun _ => ⟨fun _ => bad (3, a) _ three_ne (Or.inl ⟨rfl, x⟩) (fG_at _ _ _).1 (fG_at _ _ _).2 (FP_fG (FP_id _)), fun z => absurd rfl z⟩))
  have hp1 := hpre y
  have f1 : FP G (uG G 7 8 (a + 1)) := FP_up (FP_id _) (by omega)
  have key : ∀ v G2, PsE (uG G 7 8 (a + 1)) G2 c i (a + 1) (eP (a + 1)) P v → PX9_chain_107 R J d b l w cnt (tk a) v G2 Q := fun v G2 h => by
    obtain ⟨l1, l2, l3⟩ := h
    by_cases e0 : (eP (a + 1)).1 = 0
    · obtain ⟨k1, k2, k3, k4, k5, k6, i2, k7, k8, k9, k10⟩ := l1.2.2 e0
      obtain ⟨kv, ev, kv1, kv2⟩ := hI _ _ _ _ _ k10
      have n8 := l3 e0
      obtain ⟨p1, p2, p3, p4, p5, p6, p7, p8, p9, p10, p11, p12⟩ := hp1
      have vO : isO W0 8 v := nd_of (i := i2) (by omega) (by omega)
      unfold PX9_chain_107 PX9_chain_121
      refine ⟨fun z => by omega, fun _ => ⟨vO, fun G3 e3 => ⟨lO, Or.inr vO, fun G4 e4 => ⟨by unfold inI; omega, ?_⟩⟩⟩⟩
      have f4 : FP G G4 := by rw [e4, e3]; exact FP_up (FP_up (FP_tr f1 l1.1) (by omega)) (by omega)
      have f4' : FP (uG G 7 8 (a + 1)) G4 := by rw [e4, e3]; exact FP_up (FP_up l1.1 (by omega)) (by omega)
      refine hok v G4 i2 x e0 f4 ⟨PT_FP p1 f4', by rw [e4, e3, uG_c (by omega), uG_c (by omega)]; exact k2, by rw [e4, e3, uG_c (by omega), uG_c (by omega)]; exact k1, by omega, k4, k5, by rw [e4, e3, uG_c (by omega), uG_c (by omega)]; exact k7, by omega, by omega, p10, p11, CD_FP p12 f4'⟩ k8 k9 k3 ?_ ?_ ?_ ?_ ?_
      · refine hF _ _ _ _ _ _ k10 (fun k j x1 x2 x3 => ?_)
        rw [e4, e3, uG_ne (by omega), uG_ne (by omega)]
      · rw [e4, e3, uG_ne (by omega), uG_at]
      · rw [e4, e3, uG_ne (by omega), uG_j (by decide)]; exact n8
      · rw [e4, uG_at]
      · intro k j x1 x2 x3
        rw [e4, e3, uG_ne (by omega), uG_ne (by omega), k6 k j x1 x2 (fun h => h), uG_c (by omega)]
    · have ev := l2 e0
      subst ev
      have g := l1.2.1 e0
      exact bad (eP (a + 1)) G2 e0 (Or.inr ⟨x, rfl⟩) g.1 g.2 (FP_tr f1 l1.1)
  rcases hP with ⟨hb, -, hS⟩ | ⟨hb, -, hS⟩
  · exact ⟨fun _ => hS _ i (a + 1) _ hp1 (fun v G2 h => key v G2 h), fun z => absurd hb z⟩
  · exact ⟨fun z => by omega, fun _ => hS _ i (a + 1) _ hp1 (fun v G2 h => key v G2 h)⟩
-- the parts behind the first: l the last one, w the whole
def PsC (G G' : gS) (tk : Int → Int) (c i a w l v : Int) (r : RR) (P : TT) (eP : Int → RR) (isOp : Int → Prop) (f : Nat) : Prop := FP G G' ∧ (r.1 ≠ 0 → G' 7 9 = r.1 ∧ AT G' r.2 ∧ v = -1) ∧ (r.1 = 0 → v = w ∧ G' 7 9 = 0 ∧ G' 7 8 = r.2 ∧ a ≤ r.2 ∧ r.2 ≤ 700 ∧ r.2 ≤ c ∧ (∀ k j, 14 ≤ k → k < 14 + i → ¬ (k = l ∧ j = 8) → G' k j = G k j) ∧ ∃ i', G' 7 14 = i' ∧ i ≤ i' ∧ i' ≤ i + (r.2 - a) ∧ cChainL tk P eP isOp f i i' (G' l 8) a G')
def LSp (tk : Int → Int) (eP : Int → RR) (isOp : Int → Prop) (L : Nat → Int → RR) : Prop := ∀ f a, (isOp (tk a) → L (f + 1) a = pb (ptake a) fun x => pb (eP x) (L f)) ∧ (¬ isOp (tk a) → L (f + 1) a = (0, a))
theorem isOp_ch (hP : SPt R tk cd c P eP isOp d b) {G : gS} {Q : Int → gS → Prop} {k : Int} (h1 : isOp k → Q 1 G) (h2 : ¬ isOp k → Q 0 G) : PX9_isChained k b G Q := by
  rcases hP with ⟨hb, ho, -⟩ | ⟨hb, ho, -⟩
  · subst hb ho
    exact sX9_isChained (Or.inl rfl) (fun z => h1 (by unfold opP; omega)) (fun z => h2 (by unfold opP; omega))
  · subst hb ho
    exact sX9_isChained (Or.inr rfl) (fun z => h1 (by unfold opS; omega)) (fun z => h2 (by unfold opS; omega))
theorem chain_loop {L : Nat → Int → RR} (hP : SPt R tk cd c P eP isOp d b) (hL : LSp tk eP isOp L) (hI : TI P) (hF : TF3 P) (hop : ∀ k, isOp k → k ≠ 0) : ∀ (f F : Nat) (G : gS) (i a w l cnt : Int) (Q : Int → gS → Prop), f < F → 702 ≤ a + f → Pre G tk cd c i a d → 0 ≤ cnt → cnt < a → (14 ≤ l ∧ l < 14 + i) → -1 ≤ w ∧ w < 14 + i → w ≠ l → G l 8 = -1 → (∀ v G', PsC G G' tk c i a w l v (L f a) P eP isOp f → Q v G') → PX9_chain_25 R (PX9_chain_J R F) d b l w cnt G Q
  | 0, _, _, _, _, _, _, _, _, _, h, hp, _, _, _, _, _, _, _ => by have := hp.2.2.2.2.1; omega
  | f + 1, 0, _, _, _, _, _, _, _, h, _, _, _, _, _, _, _, _, _ => absurd h (by omega)
  | f + 1, F + 1, G, i, a, w, l, cnt, Q, hfF, haf, hp, hc0, hc, hl, hw, hwl, hl8, hQ => by
    have hp' := hp
    obtain ⟨p1, p2, p3, p4, p5, p6, p7, p8, p9, p10, p11, p12⟩ := hp
    unfold PX9_chain_25
    refine ⟨fun _ => ⟨fun z => by omega, fun _ => sX9_now p1 p2 p4 (by omega) (fun _ => isOp_ch hP (fun z => fun _ => ⟨fun u => absurd u (by decide), fun _ => ⟨hw.1, by omega, fun u => absurd u hwl, fun _ => ?_⟩⟩) (fun z => fun _ => ⟨fun _ => ?_, fun u => absurd rfl u⟩))⟩, fun z => by omega⟩
    · have spec := (hL f a).1 z
      refine chain_72 hP hI hF p1 p2 p3 p4 p5 (fun y => Pre_take hp' y (hop _ z)) hl (by omega) (by omega) (fun v G2 i2 x e0 f2 hp2 q1 q2 q3 q4 q5 q6 q7 q8 => ?_) (fun r G2 hr hx g9 g10 f2 => ?_)
      · rw [pb_e x, pb_0 e0] at spec
        obtain ⟨kv, ev, kv1, kv2⟩ := hI _ _ _ _ _ q4
        show PX9_chain_25 R (PX9_chain_J R F) d b v w (cnt + 1) G2 Q
        · refine chain_loop hP hL hI hF hop f F G2 i2 (eP (a + 1)).2 w v (cnt + 1) Q (by omega) (by omega) hp2 (by omega) (by omega) (by omega) ⟨hw.1, by omega⟩ (by omega) q6 (fun v' G3 h3 => ?_)
          obtain ⟨m1, m2, m3⟩ := h3
          rw [← spec] at m2 m3
          refine hQ v' G3 ⟨FP_tr f2 m1, m2, fun u => ?_⟩
          obtain ⟨r1, r2, r3, r4, r5, r6, r7, i', r8, r9, r10, r11⟩ := m3 u
          have el : G3 l 8 = v := by rw [r7 l 8 (by omega) (by omega) (by omega)]; exact q7
          refine ⟨r1, r2, r3, by omega, r5, r6, fun k j x1 x2 x3 => ?_, i', r8, by omega, by omega, fun _ => ⟨i2, by omega, ?_, ?_, ?_⟩, fun u2 => absurd z u2⟩
          · rw [r7 k j x1 (by omega) (by omega)]; exact q8 k j x1 x2 x3
          · rw [el]
            exact hF _ _ _ _ _ _ q4 (fun k j x1 x2 x3 => r7 k j (by omega) (by omega) (by omega))
          · rw [el, r7 v 3 (by omega) (by omega) (by omega)]; exact q5
          · rw [el]; exact r11
      · show PX9_chain_25 R (PX9_chain_J R F) d b (-1) w (cnt + 1) G2 Q
        have er : L (f + 1) a = r := by
          rcases hx with ⟨h1, h2⟩ | ⟨h1, h2⟩
          · rw [spec, h2, h1]; exact pb_n three_ne
          · rw [spec, pb_e h1, h2]; rw [h2] at hr; exact pb_n hr
        exact chain_fault (hQ (-1) G2 ⟨f2, fun _ => by rw [er]; exact ⟨g9, g10, rfl⟩, fun u => by rw [er] at u; exact absurd u hr⟩)
    · have spec := (hL f a).2 z
      unfold PX9_chain_136 PX9_chain_146
      refine ⟨fun u => by omega, fun _ => hQ w G ⟨FP_id _, fun u => by rw [spec] at u; exact absurd rfl u, fun _ => ?_⟩⟩
      rw [spec]
      exact ⟨rfl, p3, p2, by show a ≤ a; omega, p5, p6, fun k j _ _ _ => rfl, i, p7, by omega, by show i ≤ i + (a - a); omega, fun u => absurd u z, fun _ => hl8⟩
end CQ2

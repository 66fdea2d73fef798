section RP23
variable {B G G' : gS} {s N d i i' a m c sc : Int} {tk cd : Int → Int} {q r : RR}
theorem nPar_4 : ∀ (f : Nat) (k a : Int), (pparamsL tk f k a).1 = 0 → k + nPar tk f a ≤ 4 ∧ 0 ≤ nPar tk f a
  | 0, _, _, h => absurd h (by show (9 : Int) ≠ 0; decide)
  | f + 1, k, a, h => by
    change (if tk a = 26 ∨ tk a = 2 then (if k < 4 then pb (ptake a) fun b => pb (pneed tk 3 b) fun c => if tk c = 144 then pb (ptake c) (pparamsL tk f (k + 1)) else pneed tk 141 c else (3, a)) else pmiss tk a).1 = 0 at h
    show k + (if tk (a + 2) = 144 then 1 + nPar tk f (a + 3) else 1) ≤ 4 ∧ 0 ≤ (if tk (a + 2) = 144 then 1 + nPar tk f (a + 3) else 1)
    split at h
    · split at h
      · obtain ⟨x1, x2⟩ := pb_z h
        have e1 := (ptake_le (a := a)).2.2 x1
        rw [e1] at x2
        obtain ⟨x3, x4⟩ := pb_z x2
        have e2 := ((pneed_le).2.2 x3).1
        rw [show (pneed tk 3 (a + 1)).2 = a + 2 by omega] at x4
        split at x4
        · rename_i z
          obtain ⟨x5, x6⟩ := pb_z x4
          rw [(ptake_le (a := a + 2)).2.2 x5, show a + 2 + 1 = a + 3 by omega] at x6
          have := nPar_4 f (k + 1) (a + 3) x6
          rw [if_pos z]
          omega
        · rename_i z
          rw [if_neg z]; omega
      · exact absurd h (by decide : (3 : Int) ≠ 0)
    · exact absurd h (pmiss_ne _)
theorem lPar_5 {b : Int} (h : (pparams tk b).1 = 0) : 0 ≤ lPar tk b ∧ lPar tk b ≤ 4 := by
  unfold pparams at h
  obtain ⟨x1, x2⟩ := pb_z h
  have e1 := ((pneed_le).2.2 x1).1
  rw [e1] at x2
  unfold lPar
  split
  · omega
  · rename_i z
    rw [if_neg z] at x2
    have := nPar_4 6 0 (b + 1) x2
    omega
theorem RM_fr (h : RM B s N d G q i) (f : ∀ c j, c ≤ 16114 ∨ 16143 ≤ c → G' c j = G c j) : RM B s N d G' q i := by
  obtain ⟨⟨h1, h2⟩, h3, h4, h5, h6, h7, h8, h9, h10⟩ := h
  have e : ∀ j, G' 16081 j = G 16081 j := fun j => f _ _ (by omega)
  refine ⟨⟨by rw [e]; exact h1, fun x x0 x1 => by rw [f _ _ (by omega), f _ _ (by omega), f _ _ (by omega), f _ _ (by omega)]; exact h2 x x0 x1⟩, h3, h4, by rw [e]; exact h5, by rw [e]; exact h6, by rw [e, e]; exact h7, by rw [e, e, e]; exact h8, by rw [f _ _ (by omega)]; exact h9, by rw [e]; exact h10⟩
/-- a new MEMBER's cells -/
def NwR (m : Int) (G G' : gS) : Prop := G' 16119 m = 0 ∧ G' 16120 m = 0 ∧ G' 16122 m = 0 ∧ G' 16123 m = 0 ∧ G' 16124 m = 0 ∧ G' 16125 m = 0 ∧ G' 16127 m = 1 ∧ G' 16129 m = 0 ∧ G' 16134 m = -2 ∧ G' 16135 m = -2 ∧ G' 16138 m = 0 ∧ G' 16139 m = 0 ∧ G' 16140 m = 0 ∧ G' 16141 m = -2 ∧ G' 16142 m = 0 ∧ ∀ c j, ¬ (16119 ≤ c ∧ c ≤ 16142 ∧ ¬ (16130 ≤ c ∧ c ≤ 16133) ∧ j = m) → G' c j = G c j
theorem rnew_ok {Q : Int → gS → Prop} (hm : 0 ≤ m ∧ m < 7344) (hQ : ∀ G', NwR m G G' → Q 0 G') : PX13_newMember m G Q := by
  unfold PX13_newMember PX13_newMember_0
  refine ⟨hm.1, hm.2, fun G1 e1 => ⟨hm.1, hm.2, fun G2 e2 => ⟨hm.1, hm.2, fun G3 e3 => ⟨hm.1, hm.2, fun G4 e4 => ⟨hm.1, hm.2, fun G5 e5 => ⟨hm.1, hm.2, fun G6 e6 => ⟨hm.1, hm.2, fun G7 e7 => ⟨hm.1, hm.2, fun G8 e8 => ⟨hm.1, hm.2, fun G9 e9 => ⟨hm.1, hm.2, fun G10 e10 => ⟨hm.1, hm.2, fun G11 e11 => ⟨hm.1, hm.2, fun G12 e12 => ⟨hm.1, hm.2, fun G13 e13 => ⟨hm.1, hm.2, fun G14 e14 => ⟨hm.1, hm.2, fun G15 e15 => ⟨hm.1, hm.2, fun G16 e16 => ⟨hm.1, hm.2, fun G17 e17 => hQ G17 ?_⟩⟩⟩⟩⟩⟩⟩⟩⟩⟩⟩⟩⟩⟩⟩⟩⟩
  have fr : ∀ c j, ¬ (16119 ≤ c ∧ c ≤ 16142 ∧ ¬ (16130 ≤ c ∧ c ≤ 16133) ∧ j = m) → G17 c j = G c j := fun c j y => by
    rw [e17, uG_ne (by omega), e16, uG_ne (by omega), e15, uG_ne (by omega), e14, uG_ne (by omega), e13, uG_ne (by omega), e12, uG_ne (by omega), e11, uG_ne (by omega), e10, uG_ne (by omega), e9, uG_ne (by omega), e8, uG_ne (by omega), e7, uG_ne (by omega), e6, uG_ne (by omega), e5, uG_ne (by omega), e4, uG_ne (by omega), e3, uG_ne (by omega), e2, uG_ne (by omega), e1, uG_ne (by omega)]
  refine ⟨?_, ?_, ?_, ?_, ?_, ?_, ?_, ?_, ?_, ?_, ?_, ?_, ?_, ?_, ?_, fr⟩ <;> simp (disch := omega) only [e17, e16, e15, e14, e13, e12, e11, e10, e9, e8, e7, e6, e5, e4, e3, e2, e1, uG_at, uG_c]
/-- what effects() makes of a MEMBER -/
def accR (sc t k : Int) : Int := if sc = 3 ∧ k = 0 then 3 else if t = 1 then 3 else if t = 2 then 2 else if t = 3 then 0 else if sc = 3 ∧ k = 1 then 3 else 1
def EfR (sc m : Int) (G G' : gS) : Prop := G' 16118 m = accR sc (G 16117 m) (G 16116 m) ∧ G' 16119 m = (if sc = 3 ∧ G 16116 m = 0 then 1 else G 16119 m) ∧ G' 16120 m = (if sc = 3 ∧ G 16116 m = 0 then 1 else G 16120 m) ∧ G' 16121 m = (if G 16116 m = 1 then (if sc = 3 then (if G 16135 m = -2 then 1 else 0) else G 16122 m) else 0) ∧ ∀ c j, ¬ (16118 ≤ c ∧ c ≤ 16121 ∧ j = m) → G' c j = G c j
theorem reff3 {Q : Int → gS → Prop} {l v : Int} (hm : 0 ≤ m ∧ m < 7344) (hv : 0 ≤ v ∧ v ≤ 1) (hQ : ∀ G', G' 16121 m = v → (∀ c j, ¬ (16118 ≤ c ∧ c ≤ 16121 ∧ j = m) → G' c j = G c j) → (l ≠ 0 ∧ G 16116 m = 0 → G' 16118 m = 3 ∧ G' 16119 m = 1 ∧ G' 16120 m = 1) → (¬ (l ≠ 0 ∧ G 16116 m = 0) → ∀ c, c ≠ 16121 → G' c m = G c m) → Q 0 G') : PX13_effects_139 c m l 16121 m v G Q := by
  unfold PX13_effects_139
  refine ⟨7344, aC16121, hm.1, hm.2, hv, fun G1 e1 => ?_⟩
  have w1 : ∀ c, c ≠ 16121 → G1 c m = G c m := fun c y => by rw [e1, uG_c y]
  have f1 : ∀ c j, ¬ (16118 ≤ c ∧ c ≤ 16121 ∧ j = m) → G1 c j = G c j := fun c j y => by rw [e1, uG_ne (by omega)]
  have v1 : G1 16121 m = v := by rw [e1, uG_at]
  unfold PX13_effects_174
  refine ⟨fun z => hQ G1 v1 f1 (fun u => absurd z u.1) (fun _ => w1), fun z => ⟨hm.1, hm.2, fun _ => ⟨fun y => ⟨hm.1, hm.2, fun G2 e2 => ⟨hm.1, hm.2, fun G3 e3 => ⟨hm.1, hm.2, fun G4 e4 => ?_⟩⟩⟩, fun y => ?_⟩⟩⟩
  · rw [w1 _ (by omega)] at y
    refine hQ G4 (by rw [e4, uG_c (by omega), e3, uG_c (by omega), e2, uG_c (by omega)]; exact v1) (fun c j x => by rw [e4, uG_ne (by omega), e3, uG_ne (by omega), e2, uG_ne (by omega)]; exact f1 c j x) (fun _ => ⟨by rw [e4, uG_at], by rw [e4, uG_c (by omega), e3, uG_c (by omega), e2, uG_at], by rw [e4, uG_c (by omega), e3, uG_at]⟩) (fun u => absurd ⟨z, y⟩ u)
  · rw [w1 _ (by omega)] at y
    exact hQ G1 v1 f1 (fun u => absurd u.2 y) (fun _ => w1)
theorem reff2 {Q : Int → gS → Prop} {l v : Int} (hm : 0 ≤ m ∧ m < 7344) (hs : (l = 1 ∧ sc = 3) ∨ (l = 0 ∧ sc ≠ 3)) (h22 : 0 ≤ G 16122 m ∧ G 16122 m ≤ 1) (hv : ¬ (sc = 3 ∧ G 16116 m = 0) → v = accR sc (G 16117 m) (G 16116 m)) (hQ : ∀ G', EfR sc m G G' → Q 0 G') : PX13_effects_91 c m l 16118 m v G Q := by
  unfold PX13_effects_91
  refine ⟨7344, aC16118, hm.1, hm.2, fun G1 e1 => ⟨hm.1, hm.2, fun _ => ?_⟩⟩
  have w1 : ∀ c, c ≠ 16118 → G1 c m = G c m := fun c y => by rw [e1, uG_c y]
  have f1 : ∀ c j, ¬ (16118 ≤ c ∧ c ≤ 16121 ∧ j = m) → G1 c j = G c j := fun c j y => by rw [e1, uG_ne (by omega)]
  have v1 : G1 16118 m = v := by rw [e1, uG_at]
  have go : ∀ b : Int, 0 ≤ b ∧ b ≤ 1 → b = (if G 16116 m = 1 then (if sc = 3 then (if G 16135 m = -2 then 1 else 0) else G 16122 m) else 0) → PX13_effects_139 c m l 16121 m b G1 Q := fun b b1 b2 => by
    refine reff3 hm b1 (fun G2 x1 x2 x3 x4 => hQ G2 ⟨?_, ?_, ?_, by rw [x1]; exact b2, fun c j y => by rw [x2 c j y, f1 c j y]⟩)
    all_goals rw [w1 _ (by omega)] at x3 x4
    all_goals by_cases y : sc = 3 ∧ G 16116 m = 0
    · rw [(x3 ⟨by omega, y.2⟩).1]; unfold accR; rw [if_pos y]
    · rw [x4 (by omega) _ (by omega), v1]; exact hv y
    · rw [(x3 ⟨by omega, y.2⟩).2.1, if_pos y]
    · rw [x4 (by omega) _ (by omega), if_neg y, w1 _ (by omega)]
    · rw [(x3 ⟨by omega, y.2⟩).2.2, if_pos y]
    · rw [x4 (by omega) _ (by omega), if_neg y, w1 _ (by omega)]
  rw [w1 16116 (by omega), w1 16122 (by omega), w1 16135 (by omega)]
  unfold PX13_effects_134 PX13_effects_138
  refine ⟨fun y => ⟨fun z => ⟨hm.1, hm.2, fun _ => ⟨fun u => ?_, fun u => ?_⟩⟩, fun z => ⟨hm.1, hm.2, fun _ => ⟨fun u => ?_, fun u => ?_⟩⟩⟩, fun y => ?_⟩
  · exact go 0 (by omega) (by rw [if_pos y, if_neg (by omega)]; exact u.symm)
  · exact go 1 (by omega) (by rw [if_pos y, if_neg (by omega)]; omega)
  · exact go 1 (by omega) (by rw [if_pos y, if_pos (by omega), if_pos u])
  · exact go 0 (by omega) (by rw [if_pos y, if_pos (by omega), if_neg u])
  · exact go 0 (by omega) (by rw [if_neg y])
theorem reff_ok {Q : Int → gS → Prop} (hc : 0 ≤ c ∧ c < 216) (hm : 0 ≤ m ∧ m < 7344) (hs : G 16101 c = sc) (h22 : 0 ≤ G 16122 m ∧ G 16122 m ≤ 1) (hQ : ∀ G', EfR sc m G G' → Q 0 G') : PX13_effects c m G Q := by
  have go : ∀ l, ((l = 1 ∧ sc = 3) ∨ (l = 0 ∧ sc ≠ 3)) → PX13_effects_15 c m l G Q := fun l hl => by
    unfold PX13_effects_15 PX13_effects_90 PX13_effects_86
    have go2 : ∀ v, (¬ (sc = 3 ∧ G 16116 m = 0) → v = accR sc (G 16117 m) (G 16116 m)) → PX13_effects_91 c m l 16118 m v G Q := fun v hv => reff2 hm hl h22 hv hQ
    refine ⟨hm.1, hm.2, fun _ => ⟨fun y1 => go2 3 (fun y => ?_), fun y1 => ⟨hm.1, hm.2, fun _ => ⟨fun y2 => go2 2 (fun y => ?_), fun y2 => ⟨hm.1, hm.2, fun _ => ⟨fun y3 => go2 0 (fun y => ?_), fun y3 => ⟨fun z => go2 1 (fun y => ?_), fun z => ⟨hm.1, hm.2, fun _ => ⟨fun y4 => go2 3 (fun y => absurd ⟨by omega, y4⟩ y), fun y4 => ⟨hm.1, hm.2, fun _ => ⟨fun y5 => go2 3 (fun y => ?_), fun y5 => go2 1 (fun y => ?_)⟩⟩⟩⟩⟩⟩⟩⟩⟩⟩⟩
    · unfold accR; rw [if_neg y, if_pos y1]
    · unfold accR; rw [if_neg y, if_neg y1, if_pos y2]
    · unfold accR; rw [if_neg y, if_neg y1, if_neg y2, if_pos y3]
    · unfold accR; rw [if_neg y, if_neg y1, if_neg y2, if_neg y3, if_neg (by omega)]
    · unfold accR; rw [if_neg y, if_neg y1, if_neg y2, if_neg y3, if_pos (by omega)]
    · unfold accR; rw [if_neg y, if_neg y1, if_neg y2, if_neg y3, if_neg (by omega)]
  unfold PX13_effects PX13_effects_0
  exact ⟨hc.1, hc.2, fun _ => ⟨fun y => go 1 (Or.inl ⟨rfl, by omega⟩), fun y => go 0 (Or.inr ⟨rfl, by omega⟩)⟩⟩
theorem rbegM_ok {Q : Int → gS → Prop} (hK : TKp B s N tk cd) (h : RM B s N d G (0, a) i) (h1 : (tk a = 2 ∨ (17 ≤ tk a ∧ tk a ≤ 26)) → Q 1 G) (h0 : ¬ (tk a = 2 ∨ (17 ≤ tk a ∧ tk a ≤ 26)) → Q 0 G) : PX13_beginsMember G Q := by
  have t := TR_k (hK.2.2.2.2.2.1 a h.2.1 h.2.2.1)
  have hp : G 16081 22 = a := RM_p h rfl
  unfold PX13_beginsMember PX13_beginsMember_0 PX13_beginsMember_107 PX13_beginsMember_112
  rw [hp]
  have yes : (tk a = 2 ∨ (17 ≤ tk a ∧ tk a ≤ 26)) → ((0 : Int) ≤ 1 ∧ (1 : Int) ≤ 1) ∧ Q 1 G := fun y => ⟨by omega, h1 y⟩
  refine fun _ => rKind hK h.1 h.2.1 h.2.2.1 (fun _ => fun _ => ⟨fun z => yes (Or.inl (t.2.2.1.mp z)), fun z => ?_⟩)
  refine rWd hK h rfl wo30 (fun u1 => fun _ => ⟨fun v => absurd v (by decide), fun _ => yes (Or.inr (by change tk a = _ at u1; omega))⟩) (fun u1 => fun _ => ⟨fun _ => ?_, fun v => absurd rfl v⟩)
  refine rWd hK h rfl wo40 (fun u1 => fun _ => ⟨fun v => absurd v (by decide), fun _ => yes (Or.inr (by change tk a = _ at u1; omega))⟩) (fun u2 => fun _ => ⟨fun _ => ?_, fun v => absurd rfl v⟩)
  refine rWd hK h rfl wo41 (fun u1 => fun _ => ⟨fun v => absurd v (by decide), fun _ => yes (Or.inr (by change tk a = _ at u1; omega))⟩) (fun u3 => fun _ => ⟨fun _ => ?_, fun v => absurd rfl v⟩)
  refine rWd hK h rfl wo42 (fun u1 => fun _ => ⟨fun v => absurd v (by decide), fun _ => yes (Or.inr (by change tk a = _ at u1; omega))⟩) (fun u4 => fun _ => ⟨fun _ => ?_, fun v => absurd rfl v⟩)
  refine rWd hK h rfl wo31 (fun u1 => fun _ => ⟨fun v => absurd v (by decide), fun _ => yes (Or.inr (by change tk a = _ at u1; omega))⟩) (fun u5 => fun _ => ⟨fun _ => ?_, fun v => absurd rfl v⟩)
  refine rWd hK h rfl wo39 (fun u1 => fun _ => ⟨fun v => absurd v (by decide), fun _ => yes (Or.inr (by change tk a = _ at u1; omega))⟩) (fun u6 => fun _ => ⟨fun _ => ?_, fun v => absurd rfl v⟩)
  refine rWd hK h rfl wo27 (fun u1 => fun _ => ⟨fun v => absurd v (by decide), fun _ => yes (Or.inr (by change tk a = _ at u1; omega))⟩) (fun u7 => fun _ => ⟨fun _ => ?_, fun v => absurd rfl v⟩)
  refine rWd hK h rfl wo28 (fun u1 => fun _ => ⟨fun v => absurd v (by decide), fun _ => yes (Or.inr (by change tk a = _ at u1; omega))⟩) (fun u8 => fun _ => ⟨fun _ => ?_, fun v => absurd rfl v⟩)
  refine rWd hK h rfl wo43 (fun u1 => fun _ => ⟨fun v => absurd v (by decide), fun _ => yes (Or.inr (by change tk a = _ at u1; omega))⟩) (fun u9 => fun _ => ⟨fun _ => ?_, fun v => absurd rfl v⟩)
  refine rWd hK h rfl wo44 (fun u1 => fun _ => ⟨fun v => absurd v (by decide), fun _ => yes (Or.inr (by change tk a = _ at u1; omega))⟩) (fun u10 => fun _ => ⟨fun _ => ⟨by omega, h0 (fun y => ?_)⟩, fun v => absurd rfl v⟩)
  have n2 : tk a ≠ 2 := fun u => z (t.2.2.1.mpr u)
  change tk a ≠ _ at u1 u2 u3 u4 u5 u6 u7 u8 u9 u10
  omega
end RP23

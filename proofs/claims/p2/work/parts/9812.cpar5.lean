section CP6
variable {tk cd : Int → Int} {T C : TT} {eE cU : Int → RR} {c d i a : Int} {R : JT} {G : gS}
-- behind a ( : a CAST's C ) UNIT, or an E and its )
def KR (tk cd : Int → Int) (T C : TT) (n b i i' : Int) (G' : gS) : Prop := (tk b = 2 ∧ tk (b + 1) = 141 → G' n 0 = 11 ∧ G' n 2 = b ∧ G' n 10 = cd b ∧ C i i' (G' n 5) (b + 2) G') ∧ (¬ (tk b = 2 ∧ tk (b + 1) = 141) → G' n 0 = 12 ∧ T i i' (G' n 5) b G')
def PsR (G G' : gS) (tk cd : Int → Int) (c i b n v : Int) (T C : TT) (eE cU : Int → RR) : Prop := Pst G G' c i b (pround tk eE cU b) (fun i' => KR tk cd T C n b i i' G') (fun k j => k = n ∧ (j = 0 ∨ j = 2 ∨ j = 5 ∨ j = 10)) ∧ ((pround tk eE cU b).1 ≠ 0 → v = -1) ∧ ((pround tk eE cU b).1 = 0 → v = n)
def SR (R : JT) (tk cd : Int → Int) (c : Int) (T C : TT) (eE cU : Int → RR) (d : Int) : Prop := ∀ (G : gS) (i b n : Int) (Q : Int → gS → Prop), Pre G tk cd c i b d → 14 ≤ n ∧ n < 14 + i → (∀ v G', PsR G G' tk cd c i b n v T C eE cU → Q v G') → R 6 [n, d] G Q
-- what a CAST's UNIT is asked by
def SC (R : JT) (tk cd : Int → Int) (c : Int) (C : TT) (cU : Int → RR) (d : Int) : Prop := (d < 12 ∧ SEx R tk cd c C cU 8 [d + 1] (d + 1) ∨ d = 12 ∧ cU = pdeep tk) ∧ (∀ a, bE tk a = false → cU a = pmiss tk a)
theorem Pre_d1 (h : Pre G tk cd c i a d) (hd : d < 12) : Pre G tk cd c i a (d + 1) := by
  obtain ⟨p1, p2, p3, p4, p5, p6, p7, p8, p9, p10, p11, p12⟩ := h
  exact ⟨p1, p2, p3, p4, p5, p6, p7, p8, by omega, by omega, by omega, p12⟩
theorem round_ok {n b : Int} {Q : Int → gS → Prop} (hE : SEx R tk cd c T eE 3 [d] d) (hI : TI T) (hF : TF T) (hC : SC R tk cd c C cU d) (hCI : TI C) (hCF : TF C) (hp : Pre G tk cd c i b d) (hn : 14 ≤ n ∧ n < 14 + i) (hQ : ∀ v G', PsR G G' tk cd c i b n v T C eE cU → Q v G') : PX9_round R n d G Q := by
  have hi8 : i ≤ 713 := by
    obtain ⟨p1, p2, p3, p4, p5, p6, p7, p8, p9, p10, p11, p12⟩ := hp
    omega
  have fail : ∀ G1 m x, FP G G1 → m ≠ 0 → pround tk eE cU b = (m, x) → Q (-1) (fG G1 m x) := fun G1 m x hF hm hr => hQ (-1) _ ⟨Pst_fl hF hm hr, fun _ => rfl, fun z => by rw [hr] at z; exact absurd z hm⟩
  have hp' := hp
  obtain ⟨p1, p2, p3, p4, p5, p6, p7, p8, p9, p10, p11, p12⟩ := hp
  have paren : ¬ (tk b = 2 ∧ tk (b + 1) = 141) → PX9_round_116 R n d G Q := fun hz => by
    have s1 : pround tk eE cU b = pb (eE b) (pneed tk 141) := if_neg hz
    unfold PX9_round_116 PX9_round_152 PX9_round_153
    refine ⟨nd_of hn (by omega), fun G1 e1 => ?_⟩
    have hp1 := Pre_nd (k := n) (j := 0) (v := 12) hp' (by omega)
    rw [← e1] at hp1
    have f1 : FP G G1 := by rw [e1]; exact FP_up (FP_id _) (by omega)
    refine hE G1 i b _ hp1 (fun v G2 h => ?_)
    obtain ⟨l1, l2, l3⟩ := h
    by_cases e0 : (eE b).1 = 0
    · obtain ⟨k1, k2, k3, k4, k5, k6, i2, k7, k8, k9, k10⟩ := l1.2.2 e0
      obtain ⟨kv, ev, kv1, kv2⟩ := hI _ _ _ _ _ k10
      rw [pb_0 e0] at s1
      refine ⟨Or.inr (nd_of (i := i2) (by omega) (by omega)), fun G3 e3 => ?_⟩
      have f2 := FP_tr f1 l1.1
      have f3 : FP G G3 := by rw [e3]; exact FP_up f2 (by omega)
      have a3 : G3 n 5 = v := by rw [e3]; exact uG_at _ _ _ _
      rw [a3]
      refine fun _ => ⟨fun z => by omega, fun _ => ?_⟩
      have pt3 := PT_FP p1 f3
      have T3 : T i i2 v b G3 := hF _ _ _ _ _ _ k10 (fun k j x y _ => by rw [e3, uG_c (by omega)])
      refine sX9_need pt3 (by rw [e3, uG_c (by omega)]; exact k2) (by rw [e3, uG_c (by omega)]; exact k1) (by omega) (by omega) (by decide) (fun x y w => fun _ => ⟨fun z => absurd z (by decide), fun _ => hQ n _ ⟨?_, fun u => ?_, fun _ => rfl⟩⟩) (fun m x y => fun _ => ⟨fun _ => fail G3 m (eE b).2 f3 x (by rw [s1, y]), fun z => absurd rfl z⟩)
      · rw [s1, x]
        have hc := PT_lt p1 (show tk (eE b).2 ≠ 0 by omega)
        refine ⟨FP_up f3 (by omega), fun u => absurd rfl u, fun _ => ⟨by rw [uG_j (by decide), e3, uG_c (by omega)]; exact k1, uG_at _ _ _ _, by show b < (eE b).2 + 1; omega, by show (eE b).2 + 1 ≤ 700; omega, by show (eE b).2 + 1 ≤ c; omega, fun k j x1 x2 x3 => ?_, i2, by rw [uG_j (by decide), e3, uG_c (by omega)]; exact k7, k8, by show i2 ≤ i + ((eE b).2 + 1 - b); omega, fun u => absurd u hz, fun _ => ⟨?_, ?_⟩⟩⟩
        · rw [uG_c (by omega), e3, uG_ne (by omega), k6 k j x1 x2 (fun h => h), e1, uG_ne (by omega)]
        · rw [uG_c (by omega), e3, uG_j (by decide), k6 n 0 hn.1 hn.2 (fun h => h), e1, uG_at]
        · rw [uG_c (by omega), a3]
          exact hF _ _ _ _ _ _ T3 (fun k j x1 x2 _ => by rw [uG_c (by omega)])
      · rw [s1, x] at u; exact absurd rfl u
    · have ev := l2 e0
      rw [pb_n e0] at s1
      refine ⟨Or.inl ev, fun G3 e3 => ?_⟩
      have a3 : G3 n 5 = -1 := by rw [e3, uG_at]; exact ev
      rw [a3]
      have g := l1.2.1 e0
      refine fun _ => ⟨fun _ => hQ (-1) G3 ⟨⟨?_, fun _ => ?_, fun z => ?_⟩, fun _ => rfl, fun z => ?_⟩, fun z => absurd z (by decide)⟩
      · rw [e3]; exact FP_up (FP_tr f1 l1.1) (by omega)
      · exact ⟨by rw [e3, uG_c (by omega), s1]; exact g.1, by rw [s1]; exact AT_c e3 (by omega) g.2⟩
      · rw [s1] at z; exact absurd z e0
      · rw [s1] at z; exact absurd z e0
  unfold PX9_round PX9_round_0
  refine sX9_now p1 p2 p4 (by omega) (fun _ => ⟨fun z => sX9_behind p1 p2 p4 (by omega) (fun _ => ⟨fun z2 => ?_, fun z2 => paren (fun w => z2 w.2)⟩), fun z => paren (fun w => z w.1)⟩)
  have s1 : pround tk eE cU b = pb (ptake b) fun x => pb (ptake x) cU := if_pos ⟨z, z2⟩
  refine ⟨nd_of hn (by omega), fun G1 e1 => ?_⟩
  have hp1 := Pre_nd (k := n) (j := 0) (v := 11) hp' (by omega)
  rw [← e1] at hp1
  have f1 : FP G G1 := by rw [e1]; exact FP_up (FP_id _) (by omega)
  rw [hp1.2.1]
  refine fun _ G2 e2 => ?_
  have hp2 := Pre_nd (k := n) (j := 2) (v := b) hp1 (by omega)
  rw [← e2] at hp2
  have f2 : FP G G2 := by rw [e2]; exact FP_up f1 (by omega)
  rw [hp2.2.1]
  refine fun _ => ⟨p4, by omega, fun _ G3 e3 => ?_⟩
  have ecd : G2 12 b = cd b := hp2.2.2.2.2.2.2.2.2.2.2.2 b p4 (by omega)
  rw [ecd] at e3
  have hp3 := Pre_nd (k := n) (j := 10) (v := cd b) hp2 (by omega)
  rw [← e3] at hp3
  have f3 : FP G G3 := by rw [e3]; exact FP_up f2 (by omega)
  have nb : ∀ k j, 14 ≤ k → k < 14 + i → ¬ (k = n ∧ (j = 0 ∨ j = 2 ∨ j = 5 ∨ j = 10)) → G3 k j = G k j := fun k j x y w => by rw [e3, e2, e1, uG_ne (by omega), uG_ne (by omega), uG_ne (by omega)]
  have n0 : G3 n 0 = 11 := by rw [e3, uG_j (by decide), e2, uG_j (by decide), e1, uG_at]
  have n2 : G3 n 2 = b := by rw [e3, uG_j (by decide), e2, uG_at]
  have n10 : G3 n 10 = cd b := by rw [e3, uG_at]
  unfold PX9_round_59 PX9_round_115
  refine sX9_take hp3.2.1 hp3.2.2.1 p4 (fun x3 y3 => fun _ => ⟨fun u => absurd u (by decide), fun _ => ?_⟩) (fun x3 => fun _ => ⟨fun _ => fail G3 3 b f3 (by decide) (by rw [s1, x3]; exact pb_n three_ne), fun u => absurd rfl u⟩)
  rw [pb_e x3] at s1
  have hp4 := Pre_take hp3 y3 (by omega)
  have f4 : FP G (uG G3 7 8 (b + 1)) := FP_up f3 (by omega)
  refine sX9_take hp4.2.1 hp4.2.2.1 (by omega) (fun x4 y4 => fun _ => ⟨fun u => absurd u (by decide), fun _ => ?_⟩) (fun x4 => fun _ => ⟨fun _ => fail _ 3 (b + 1) f4 (by decide) (by rw [s1, x4]; exact pb_n three_ne), fun u => absurd rfl u⟩)
  rw [pb_e x4] at s1
  have hp5 := Pre_take hp4 y4 (by omega)
  have f5 : FP G (uG (uG G3 7 8 (b + 1)) 7 8 (b + 1 + 1)) := FP_up f4 (by omega)
  refine sX9_now hp5.1 hp5.2.1 (by omega) (by omega) (fun _ => sX9_beginsE (a := b + 1 + 1) rfl (fun hb => fun _ => ⟨fun u => absurd u (by decide), fun _ => ?_⟩) (fun hb => fun _ => ⟨fun _ => sX9_miss hp5.1 hp5.2.1 hp5.2.2.1 (by omega) (by omega) (fun _ => fail _ _ _ f5 (pmiss_ne (tk := tk) (b + 1 + 1)) (by rw [s1, hC.2 _ hb]; rfl)), fun u => absurd rfl u⟩))
  refine ⟨fun hd => ⟨by unfold inI; omega, ?_⟩, fun hd => ?_⟩
  · have hSE : SEx R tk cd c C cU 8 [d + 1] (d + 1) := by
      rcases hC.1 with h | h
      · exact h.2
      · omega
    refine hSE _ i (b + 1 + 1) _ (Pre_d1 hp5 hd) (fun v G6 h => ?_)
    obtain ⟨l1, l2, l3⟩ := h
    by_cases e0 : (cU (b + 1 + 1)).1 = 0
    · obtain ⟨k1, k2, k3, k4, k5, k6, i2, k7, k8, k9, k10⟩ := l1.2.2 e0
      obtain ⟨kv, ev, kv1, kv2⟩ := hCI _ _ _ _ _ k10
      refine ⟨Or.inr (nd_of (i := i2) (by omega) (by omega)), fun G7 e7 => ?_⟩
      have a7 : G7 n 5 = v := by rw [e7]; exact uG_at _ _ _ _
      rw [a7]
      refine fun _ => ⟨fun z => by omega, fun _ => hQ n G7 ⟨?_, fun u => absurd (by rw [s1]; exact e0) u, fun _ => rfl⟩⟩
      rw [s1]
      refine ⟨by rw [e7]; exact FP_up (FP_tr f5 l1.1) (by omega), fun u => absurd e0 u, fun _ => ⟨by rw [e7, uG_c (by omega)]; exact k1, by rw [e7, uG_c (by omega)]; exact k2, by omega, k4, k5, fun k j x1 x2 x3 => ?_, i2, by rw [e7, uG_c (by omega)]; exact k7, k8, by omega, fun _ => ⟨?_, ?_, ?_, ?_⟩, fun u => absurd ⟨z, z2⟩ u⟩⟩
      · rw [e7, uG_ne (by omega), k6 k j x1 x2 (fun h => h), uG_c (by omega), uG_c (by omega)]; exact nb k j x1 x2 x3
      · rw [e7, uG_j (by decide), k6 n 0 hn.1 hn.2 (fun h => h), uG_c (by omega), uG_c (by omega)]; exact n0
      · rw [e7, uG_j (by decide), k6 n 2 hn.1 hn.2 (fun h => h), uG_c (by omega), uG_c (by omega)]; exact n2
      · rw [e7, uG_j (by decide), k6 n 10 hn.1 hn.2 (fun h => h), uG_c (by omega), uG_c (by omega)]; exact n10
      · rw [a7, show b + 2 = b + 1 + 1 by omega]
        exact hCF _ _ _ _ _ _ k10 (fun k j x1 x2 _ => by rw [e7, uG_c (by omega)])
    · have ev := l2 e0
      refine ⟨Or.inl ev, fun G7 e7 => ?_⟩
      have a7 : G7 n 5 = -1 := by rw [e7, uG_at]; exact ev
      rw [a7]
      have g := l1.2.1 e0
      refine fun _ => ⟨fun _ => hQ (-1) G7 ⟨⟨?_, fun _ => ?_, fun z => ?_⟩, fun _ => rfl, fun z => ?_⟩, fun z => absurd z (by decide)⟩
      · rw [e7]; exact FP_up (FP_tr f5 l1.1) (by omega)
      · exact ⟨by rw [e7, uG_c (by omega), s1]; exact g.1, by rw [s1]; exact AT_c e7 (by omega) g.2⟩
      · rw [s1] at z; exact absurd z e0
      · rw [s1] at z; exact absurd z e0
  · have hcU : cU = pdeep tk := by
      rcases hC.1 with h | h
      · omega
      · exact h.2
    refine sX9_stop hp5.2.1 hp5.2.2.2.1 hp5.2.2.1 (fun _ => fail _ 3 (b + 1 + 1) f5 (by decide) ?_)
    rw [s1, hcU]
    unfold pdeep
    rw [hb]
    rfl
end CP6

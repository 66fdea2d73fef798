section CP5
variable {tk cd : Int → Int} {T C : TT} {eE cU : Int → RR} {c d i a : Int} {R : JT} {G : gS}
theorem pmiss_ne (a : Int) : (pmiss tk a).1 ≠ 0 := by
  unfold pmiss
  show (if tk a = 1 then (1 : Int) else 2) ≠ 0
  split <;> decide
theorem Pst_fl {G1 : gS} {m x : Int} {r : RR} {P : Int → Prop} {old : Int → Int → Prop} (hF : FP G G1) (hm : m ≠ 0) (hr : r = (m, x)) : Pst G (fG G1 m x) c i a r P old := by
  subst hr
  exact ⟨FP_fG hF, fun _ => fG_at _ _ _, fun z => absurd z hm⟩
theorem PsE_of {G' : gS} {r : RR} {v : Int} (h : Pst G G' c i a r (fun i' => T i i' v a G' ∧ G' v 8 = -1) (fun _ _ => False)) (hv : r.1 ≠ 0 → v = -1) : PsE G G' c i a r T v := ⟨Pst_P h (fun _ _ h => h) (fun _ _ _ _ h => h.1), hv, fun z => by
  obtain ⟨_, _, _, _, _, _, _, _, _, _, _, q⟩ := h.2.2 z
  exact q⟩
-- behind a C: . NAME, . NAME ( ARGS ), . super . NAME ( ARGS )
def KO (tk : Int → Int) (T : TT) (eE : Int → RR) (n b i i' : Int) (G' : gS) : Prop := (tk (b + 1) = 38 → G' n 0 = 8 ∧ G' n 2 = b + 3 ∧ cArgs tk T eE i i' (G' n 5) (b + 4) G') ∧ (tk (b + 1) ≠ 38 → G' n 2 = b + 1 ∧ (tk (b + 2) = 140 → G' n 0 = 7 ∧ cArgs tk T eE i i' (G' n 5) (b + 2) G') ∧ (tk (b + 2) ≠ 140 → G' n 0 = 6))
def PsO (G G' : gS) (tk : Int → Int) (c i b n v : Int) (T : TT) (eE : Int → RR) : Prop := Pst G G' c i b (pclass tk eE b) (fun i' => KO tk T eE n b i i' G') (fun k j => k = n ∧ (j = 0 ∨ j = 2 ∨ j = 5)) ∧ ((pclass tk eE b).1 ≠ 0 → v = -1) ∧ ((pclass tk eE b).1 = 0 → v = n)
def SO (R : JT) (tk cd : Int → Int) (c : Int) (T : TT) (eE : Int → RR) (d : Int) : Prop := ∀ (G : gS) (i b n : Int) (Q : Int → gS → Prop), Pre G tk cd c i b d → 14 ≤ n ∧ n < 14 + i → G n 5 = -1 → (∀ v G', PsO G G' tk c i b n v T eE → Q v G') → R 5 [n, d] G Q
theorem ofClass_ok {n b : Int} {Q : Int → gS → Prop} (hA : SA R tk cd c T eE d) (hS : SS R tk cd c T eE d) (hp : Pre G tk cd c i b d) (hn : 14 ≤ n ∧ n < 14 + i) (h5 : G n 5 = -1) (hQ : ∀ v G', PsO G G' tk c i b n v T eE → Q v G') : PX9_ofClass R n d G Q := by
  have hi8 : i ≤ 713 := by
    obtain ⟨p1, p2, p3, p4, p5, p6, p7, p8, p9, p10, p11, p12⟩ := hp
    omega
  have fail : ∀ G1 m x, FP G G1 → m ≠ 0 → pclass tk eE b = (m, x) → Q (-1) (fG G1 m x) := fun G1 m x hF hm hr => hQ (-1) _ ⟨Pst_fl hF hm hr, fun _ => rfl, fun z => by rw [hr] at z; exact absurd z hm⟩
  unfold PX9_ofClass PX9_ofClass_0 PX9_ofClass_103 PX9_ofClass_53 PX9_ofClass_54
  refine ⟨nd_of hn (by omega), fun G2 e2 => ?_⟩
  subst e2
  have hp1 := Pre_nd (k := n) (j := 0) (v := 6) hp (by omega)
  have f1 : FP G (uG G n 0 6) := FP_up (FP_id _) (by omega)
  have hp1' := hp1
  obtain ⟨r1, r2, r3, r4, r5, r6, r7, r8, r9, r10, r11, r12⟩ := hp1
  refine sX9_need r1 r2 r3 r4 (by omega) (by decide) (fun x y w => fun _ => ⟨fun z => absurd z (by decide), fun _ => ?_⟩) (fun m x y => fun _ => ⟨fun _ => fail _ m b f1 x (by unfold pclass; rw [y]; exact pb_n x), fun z => absurd rfl z⟩)
  have hp2 := Pre_take hp1' y (by omega)
  have f2 : FP G (uG (uG G n 0 6) 7 8 (b + 1)) := FP_up f1 (by omega)
  have s1 : pclass tk eE b = (if tk (b + 1) = 38 then pb (ptake (b + 1)) (psuper tk eE) else pb (pneed tk 3 (b + 1)) fun c => if tk c = 140 then pargs tk eE c else (0, c)) := by unfold pclass; exact pb_e x
  have hp2' := hp2
  obtain ⟨q1, q2, q3, q4, q5, q6, q7, q8, q9, q10, q11, q12⟩ := hp2
  refine sX9_now q1 q2 q4 (by omega) (fun _ => ⟨fun z G11 e11 => ?_, fun z => fun _ G21 e21 => ?_⟩)
  · rw [if_pos z] at s1
    have hp3 := Pre_nd (k := n) (j := 0) (v := 8) hp2' (by omega)
    rw [← e11] at hp3
    have f3 : FP G G11 := by rw [e11]; exact FP_up f2 (by omega)
    refine sX9_take hp3.2.1 hp3.2.2.1 hp3.2.2.2.1 (fun x3 y3 => fun _ => ⟨fun u => absurd u (by decide), fun _ => ?_⟩) (fun x3 => fun _ => ⟨fun _ => fail G11 3 (b + 1) f3 (by decide) (by rw [s1, x3]; exact pb_n three_ne), fun u => absurd rfl u⟩)
    rw [pb_e x3] at s1
    have hp4 := Pre_take hp3 y3 (by omega)
    refine hS _ i (b + 1 + 1) n _ hp4 hn (by rw [e11, uG_c (by omega), uG_j (by decide), uG_c (by omega), uG_j (by decide)]; exact h5) (fun v G' h => ?_)
    obtain ⟨l1, l2, l3⟩ := h
    have s2 : pclass tk eE b = psuper tk eE (b + 1 + 1) := s1
    rw [← s2] at l1 l2 l3
    have res : Pst G G' c i b (pclass tk eE b) (fun i' => KO tk T eE n b i i' G') (fun k j => k = n ∧ (j = 0 ∨ j = 2 ∨ j = 5)) := Pst_seq (b := b + 1 + 1) (i1 := i) (FP_up f3 (by omega)) (fun k j u v w => by rw [e11, uG_c (by omega), uG_ne (by omega), uG_c (by omega), uG_ne (by omega)]) (by omega) (by omega) l1 (fun k j _ h => ⟨h.1, by omega⟩) (fun _ hg i' _ h => ⟨fun _ => ⟨by rw [hg n 0 (by omega) (by omega) (by omega), uG_c (by omega), e11, uG_at], by rw [h.1]; omega, by rw [show b + 4 = b + 1 + 1 + 2 by omega]; exact h.2⟩, fun u => absurd z u⟩)
    by_cases e : (pclass tk eE b).1 = 0
    · have ev := l3 e
      subst ev
      exact fun _ => ⟨fun u => absurd u (by decide), fun _ => hQ n G' ⟨res, fun u => absurd e u, fun _ => rfl⟩⟩
    · have ev := l2 e
      subst ev
      exact fun _ => ⟨fun _ => hQ (-1) G' ⟨res, fun _ => rfl, fun u => absurd u e⟩, fun u => absurd rfl u⟩
  · rw [if_neg z] at s1
    rw [q2] at e21
    have hp3 := Pre_nd (k := n) (j := 2) (v := b + 1) hp2' (by omega)
    rw [← e21] at hp3
    have f3 : FP G G21 := by rw [e21]; exact FP_up f2 (by omega)
    refine sX9_need hp3.1 hp3.2.1 hp3.2.2.1 hp3.2.2.2.1 (by omega) (by decide) (fun x3 y3 w3 => fun _ => ⟨fun u => absurd u (by decide), fun _ => ?_⟩) (fun m x3 y3 => fun _ => ⟨fun _ => fail G21 m (b + 1) f3 x3 (by rw [s1, y3]; exact pb_n x3), fun u => absurd rfl u⟩)
    rw [pb_e x3] at s1
    have hp4 := Pre_take hp3 y3 (by omega)
    have f4 : FP G (uG G21 7 8 (b + 1 + 1)) := FP_up f3 (by omega)
    refine sX9_now hp4.1 hp4.2.1 hp4.2.2.2.1 (by have := hp4.2.2.2.2.1; omega) (fun _ => ⟨fun u G30 e30 => ?_, fun u => hQ n _ ⟨?_, fun u2 => ?_, fun _ => rfl⟩⟩)
    · have hp5 := Pre_nd (k := n) (j := 0) (v := 7) hp4 (by omega)
      rw [← e30] at hp5
      have s2 : pclass tk eE b = pargs tk eE (b + 1 + 1) := by rw [s1, if_pos u]
      refine hA _ i (b + 1 + 1) n _ hp5 hn (by rw [e30, uG_j (by decide), uG_c (by omega), e21, uG_j (by decide), uG_c (by omega), uG_j (by decide)]; exact h5) (fun v G' h => ?_)
      obtain ⟨l1, l2, l3⟩ := h
      rw [← s2] at l1 l2 l3
      have res : Pst G G' c i b (pclass tk eE b) (fun i' => KO tk T eE n b i i' G') (fun k j => k = n ∧ (j = 0 ∨ j = 2 ∨ j = 5)) := Pst_seq (b := b + 1 + 1) (i1 := i) (by rw [e30]; exact FP_up f4 (by omega)) (fun k j u v w => by rw [e30, uG_ne (by omega), uG_c (by omega), e21, uG_ne (by omega), uG_c (by omega), uG_ne (by omega)]) (by omega) (by omega) l1 (fun k j _ h => ⟨h.1, by omega⟩) (fun _ hg i' _ h => ⟨fun u2 => absurd u2 z, fun _ => ⟨by rw [hg n 2 (by omega) (by omega) (by omega), e30, uG_j (by decide), uG_c (by omega), e21, uG_at], fun _ => ⟨by rw [hg n 0 (by omega) (by omega) (by omega), e30, uG_at], by rw [show b + 2 = b + 1 + 1 by omega]; exact h⟩, fun u2 => absurd (by rw [show b + 2 = b + 1 + 1 by omega]; exact u) u2⟩⟩)
      by_cases e : (pclass tk eE b).1 = 0
      · have ev := l3 e
        subst ev
        exact fun _ => ⟨fun u => absurd u (by decide), fun _ => hQ n G' ⟨res, fun u => absurd e u, fun _ => rfl⟩⟩
      · have ev := l2 e
        subst ev
        exact fun _ => ⟨fun _ => hQ (-1) G' ⟨res, fun _ => rfl, fun u => absurd u e⟩, fun u => absurd rfl u⟩
    · have s2 : pclass tk eE b = (0, b + 1 + 1) := by rw [s1, if_neg u]
      obtain ⟨t1, t2, t3, t4, t5, t6, t7, t8, t9, t10, t11, t12⟩ := hp4
      rw [s2]
      refine ⟨f4, fun u2 => absurd rfl u2, fun _ => ⟨t3, t2, by show b < b + 1 + 1; omega, by show b + 1 + 1 ≤ 700; omega, t6, fun k j x1 x2 x3 => by rw [uG_c (by omega), e21, uG_ne (by omega), uG_c (by omega), uG_ne (by omega)], i, t7, by omega, by show i ≤ i + (b + 1 + 1 - b); omega, fun u2 => absurd u2 z, fun _ => ⟨by rw [uG_c (by omega), e21, uG_at], fun u2 => absurd (by rw [show b + 1 + 1 = b + 2 by omega]; exact u2) u, fun _ => by rw [uG_c (by omega), e21, uG_j (by decide), uG_c (by omega), uG_at]⟩⟩⟩
    · rw [s1, if_neg u] at u2; exact absurd rfl u2
end CP5

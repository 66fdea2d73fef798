section CP9
variable {tk cd : Int → Int} {T C : TT} {eE cU : Int → RR} {c d : Int} {R : JT}
-- what stands behind a UNIT's front: l the last one (-1: none), b the front, w the whole
theorem unit_fault {J : JT} {G : gS} {Q : Int → gS → Prop} {l1 l2 l3 l4 l5 : Int} (hf : G 7 9 ≠ 0) (hQ : Q (-1) G) : PX9_unit_14 R J l1 l2 l3 l4 l5 G Q := by
  have e : PX9_unit_113 R J l1 l2 l3 l4 l5 G Q := by
    unfold PX9_unit_113 PX9_unit_125
    exact fun _ => ⟨fun z => absurd z hf, fun _ => hQ⟩
  unfold PX9_unit_14
  exact ⟨fun _ => fun _ => ⟨fun z => absurd z hf, fun _ => e⟩, fun _ => e⟩
theorem ptail_y {f : Nat} {a : Int} (h0 : isTail tk a) : ptail tk eE (f + 1) a = pb (pbehind tk eE a) (ptail tk eE f) := by
  unfold isTail at h0
  show (if tk a = 146 then _ else if tk a = 39 then _ else _) = _
  by_cases h : tk a = 146
  · rw [if_pos h]
    unfold pbehind
    by_cases e : (ptake a).1 = 0
    · rw [pb_0 e, pb_0 e, if_neg (by omega)]
      by_cases e2 : (pneed tk 3 (ptake a).2).1 = 0
      · rw [pb_0 e2, pb_0 e2]
        by_cases e3 : tk (pneed tk 3 (ptake a).2).2 = 140
        · rw [if_pos e3, if_pos e3]
        · rw [if_neg e3, if_neg e3, pb_0 rfl]
      · rw [pb_n e2, pb_n e2, pb_n e2]
    · rw [pb_n e, pb_n e, pb_n e]
  · have h2 : tk a = 39 := by omega
    rw [if_neg h, if_pos h2]
    unfold pbehind
    by_cases e : (ptake a).1 = 0
    · rw [pb_0 e, pb_0 e, if_pos h2]
    · rw [pb_n e, pb_n e, pb_n e]
theorem ptail_n {f : Nat} {a : Int} (h0 : ¬ isTail tk a) : ptail tk eE (f + 1) a = (0, a) := by
  unfold isTail at h0
  show (if tk a = 146 then _ else if tk a = 39 then _ else _) = _
  rw [if_neg (by omega), if_neg (by omega)]
-- the rest of the chain behind its first piece
def PsT (G G' : gS) (tk cd : Int → Int) (c i a w l v : Int) (r : RR) (T : TT) (eE : Int → RR) (f : Nat) : Prop := FP G G' ∧ (r.1 ≠ 0 → G' 7 9 = r.1 ∧ AT G' r.2 ∧ v = -1) ∧ (r.1 = 0 → v = w ∧ G' 7 9 = 0 ∧ G' 7 8 = r.2 ∧ a ≤ r.2 ∧ r.2 ≤ 700 ∧ r.2 ≤ c ∧ (∀ k j, 14 ≤ k → k < 14 + i → ¬ (k = l ∧ j = 8) → G' k j = G k j) ∧ ∃ i', G' 7 14 = i' ∧ i ≤ i' ∧ i' ≤ i + (r.2 - a) ∧ cTail tk cd T eE f i i' (G' l 8) a G')
theorem unit_loop (hB : SB R tk cd c T eE d) (hI : TI T) (hF : TF T) : ∀ (f F : Nat) (G : gS) (i a b w l cnt : Int) (Q : Int → gS → Prop), f < F → 702 ≤ a + f → Pre G tk cd c i a d → 0 ≤ cnt → cnt < a → (14 ≤ l ∧ l < 14 + i) → G l 8 = -1 → (∀ v G', PsT G G' tk cd c i a w l v (ptail tk eE f a) T eE f → Q v G') → PX9_unit_14 R (PX9_unit_J R F) d b w l cnt G Q
  | 0, _, _, _, _, _, _, _, _, _, _, h, hp, _, _, _, _, _ => by have := hp.2.2.2.2.1; omega
  | f + 1, 0, _, _, _, _, _, _, _, _, h, _, _, _, _, _, _, _ => absurd h (by omega)
  | f + 1, F + 1, G, i, a, b, w, l, cnt, Q, hfF, haf, hp, hc0, hc, hl, hl8, hQ => by
    have hp' := hp
    obtain ⟨p1, p2, p3, p4, p5, p6, p7, p8, p9, p10, p11, p12⟩ := hp
    have stop : ¬ isTail tk a → PX9_unit_113 R (PX9_unit_J R (F + 1)) d b w l cnt G Q := fun z => by
      have spec := ptail_n (eE := eE) (f := f) z
      unfold PX9_unit_113 PX9_unit_125
      refine fun _ => ⟨fun _ => hQ w G ⟨FP_id _, fun u => ?_, fun _ => ?_⟩, fun u => absurd p3 u⟩
      · rw [spec] at u; exact absurd rfl u
      · rw [spec]
        exact ⟨rfl, p3, p2, by show a ≤ a; omega, p5, p6, fun k j _ _ _ => rfl, i, p7, by omega, by show i ≤ i + (a - a); omega, fun u => absurd u z, fun _ => hl8⟩
    have go : isTail tk a → PX9_unit_48 R (PX9_unit_J R (F + 1)) d b w l cnt G Q := fun z => by
      have spec := ptail_y (eE := eE) (f := f) z
      unfold PX9_unit_48 PX9_unit_103
      refine hB G i a _ hp' z (fun v G1 h _ => ?_)
      obtain ⟨l1, l2, l3⟩ := h
      refine ⟨fun u => by omega, fun _ => ⟨nd_of hl (by omega), ?_⟩⟩
      by_cases e0 : (pbehind tk eE a).1 = 0
      · obtain ⟨k1, k2, k3, k4, k5, k6, i1, k7, k8, k9, k10⟩ := l1.2.2 e0
        obtain ⟨kv, ev, kv1, kv2⟩ := cBehind_I _ _ _ _ _ k10
        have n8 := l3 e0
        rw [pb_0 e0] at spec
        refine ⟨Or.inr (nd_of (i := i1) (by omega) (by omega)), fun G2 e2 => ⟨by unfold inI; omega, ?_⟩⟩
        have f2 : FP G G2 := by rw [e2]; exact FP_up l1.1 (by omega)
        have T2 : cBehind tk cd T eE i i1 v a G2 := TF3_F (cBehind_F hI hF) _ _ _ _ _ _ k10 (fun k j x y _ => by rw [e2, uG_c (by omega)])
        show PX9_unit_14 R (PX9_unit_J R F) d b w v (cnt + 1) G2 Q
        refine unit_loop hB hI hF f F G2 i1 (pbehind tk eE a).2 b w v (cnt + 1) Q (by omega) (by omega) ⟨PT_FP p1 f2, by rw [e2, uG_c (by omega)]; exact k2, by rw [e2, uG_c (by omega)]; exact k1, by omega, k4, k5, by rw [e2, uG_c (by omega)]; exact k7, by omega, by omega, p10, p11, CD_FP p12 f2⟩ (by omega) (by omega) (by omega) (by rw [e2, uG_c (by omega)]; exact n8) (fun v' G3 h3 => ?_)
        obtain ⟨m1, m2, m3⟩ := h3
        rw [← spec] at m2 m3
        refine hQ v' G3 ⟨FP_tr f2 m1, m2, fun u => ?_⟩
        obtain ⟨q1, q2, q3, q4, q5, q6, q7, i', q8, q9, q10, q11⟩ := m3 u
        have el : G3 l 8 = v := by rw [q7 l 8 (by omega) (by omega) (by omega), e2, uG_at]
        refine ⟨q1, q2, q3, by omega, q5, q6, fun k j x y x3 => ?_, i', q8, by omega, by omega, fun _ => ⟨i1, by omega, ?_, ?_⟩, fun u2 => absurd z u2⟩
        · rw [q7 k j x (by omega) (by omega), e2, uG_ne (by omega)]; exact k6 k j x y (fun h => h)
        · rw [el]
          exact TF3_F (cBehind_F hI hF) _ _ _ _ _ _ T2 (fun k j x y x3 => q7 k j (by omega) (by omega) (by omega))
        · rw [el]
          exact q11
      · have ev := l2 e0
        have g := l1.2.1 e0
        rw [pb_n e0] at spec
        refine ⟨Or.inl ev, fun G2 e2 => ⟨by unfold inI; omega, ?_⟩⟩
        have f2 : FP G G2 := by rw [e2]; exact FP_up l1.1 (by omega)
        have g2 : G2 7 9 = (pbehind tk eE a).1 := by rw [e2, uG_c (by omega)]; exact g.1
        have g3 : AT G2 (pbehind tk eE a).2 := AT_c e2 (by omega) g.2
        show PX9_unit_14 R (PX9_unit_J R F) d b w v (cnt + 1) G2 Q
        exact unit_fault (by rw [g2]; exact e0) (hQ (-1) G2 ⟨f2, fun _ => by rw [spec]; exact ⟨g2, g3, rfl⟩, fun u => by rw [spec] at u; exact absurd u e0⟩)
    unfold PX9_unit_14
    refine ⟨fun _ => fun _ => ⟨fun _ => sX9_now p1 p2 p4 (by omega) (fun _ => ⟨fun z => go (Or.inl z), fun z => sX9_now p1 p2 p4 (by omega) (fun _ => ⟨fun z2 => go (Or.inr z2), fun z2 => stop (fun u => u.elim z z2)⟩)⟩), fun z => absurd p3 z⟩, fun z => by omega⟩
theorem cTail_M : ∀ (f : Nat) (lo hi m a : Int) (G : gS), cTail tk cd T eE f lo hi m a G → cTail tk cd T eE (f + 1) lo hi m a G
  | 0, _, _, _, _, _, h => h.elim
  | f + 1, lo, hi, m, a, G, ⟨p1, p2⟩ => ⟨fun z => by
    obtain ⟨mid, q1, q2, q3⟩ := p1 z
    exact ⟨mid, q1, q2, cTail_M f mid hi _ _ G q3⟩, p2⟩
end CP9

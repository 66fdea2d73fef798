section CP4
variable {tk cd : Int → Int} {T C : TT} {eE cU : Int → RR} {c d i a : Int} {R : JT} {G : gS}
theorem Pre_nd {k j v : Int} (h : Pre G tk cd c i a d) (hk : 14 ≤ k ∧ k < 814) : Pre (uG G k j v) tk cd c i a d := by
  obtain ⟨p1, p2, p3, p4, p5, p6, p7, p8, p9, p10, p11, p12⟩ := h
  exact ⟨PT_FP p1 (FP_up (FP_id _) (Or.inr hk)), by rw [uG_c (by omega)]; exact p2, by rw [uG_c (by omega)]; exact p3, p4, p5, p6, by rw [uG_c (by omega)]; exact p7, p8, p9, p10, p11, CD_FP p12 (FP_up (FP_id _) (Or.inr hk))⟩
theorem Pre_take (h : Pre G tk cd c i a d) (h1 : a < 700) (ht : tk a ≠ 0) : Pre (uG G 7 8 (a + 1)) tk cd c i (a + 1) d := by
  obtain ⟨p1, p2, p3, p4, p5, p6, p7, p8, p9, p10, p11, p12⟩ := h
  have := PT_lt p1 ht
  exact ⟨PT_FP p1 (FP_up (FP_id _) (by omega)), uG_at _ _ _ _, by rw [uG_j (by decide)]; exact p3, by omega, by omega, by omega, by rw [uG_j (by decide)]; exact p7, p8, by omega, p10, p11, CD_FP p12 (FP_up (FP_id _) (by omega))⟩
theorem Pst_fail {n b i0 a0 : Int} {P : Int → Prop} {old : Int → Int → Prop} (hn : n ≠ 0) : Pst G (fG G n b) c i0 a0 (n, b) P old := ⟨FP_fG (FP_id _), fun _ => fG_at _ _ _, fun z => absurd z hn⟩
theorem Pst_seq {G1 G' : gS} {i1 b : Int} {r : RR} {P P' : Int → Prop} {old2 old : Int → Int → Prop} (hF : FP G G1) (h1 : ∀ k j, 14 ≤ k → k < 14 + i → ¬ old k j → G1 k j = G k j) (hi : i ≤ i1 ∧ i1 ≤ i + (b - a)) (hab : a ≤ b) (h : Pst G1 G' c i1 b r P old2) (ho : ∀ k j, k < 14 + i → old2 k j → old k j) (hP : r.1 = 0 → (∀ k j, 14 ≤ k → k < 14 + i1 → ¬ old2 k j → G' k j = G1 k j) → ∀ i', i1 ≤ i' → P i' → P' i') : Pst G G' c i a r P' old := by
  obtain ⟨f, g, k⟩ := h
  refine ⟨FP_tr hF f, g, fun z => ?_⟩
  obtain ⟨q1, q2, q3, q4, q5, q6, i', q7, q8, q9, q10⟩ := k z
  exact ⟨q1, q2, by omega, q4, q5, fun k j x y w => by rw [q6 k j x (by omega) (fun u => w (ho k j y u))]; exact h1 k j x y w, i', q7, by omega, by omega, hP z q6 i' q8 q10⟩
theorem Pst_P {G' : gS} {r : RR} {P P' : Int → Prop} {old old' : Int → Int → Prop} (h : Pst G G' c i a r P old) (ho : ∀ k j, old k j → old' k j) (hP : r.1 = 0 → (∀ k j, 14 ≤ k → k < 14 + i → ¬ old k j → G' k j = G k j) → ∀ i', i ≤ i' → P i' → P' i') : Pst G G' c i a r P' old' := by
  obtain ⟨f, g, k⟩ := h
  refine ⟨f, g, fun z => ?_⟩
  obtain ⟨q1, q2, q3, q4, q5, q6, i', q7, q8, q9, q10⟩ := k z
  exact ⟨q1, q2, q3, q4, q5, fun k j x y w => q6 k j x y (fun u => w (ho k j u)), i', q7, q8, q9, hP z q6 i' q8 q10⟩
-- a token taken, nothing else
theorem Pst_take {r : RR} {b : Int} {P : Int → Prop} {old : Int → Int → Prop} (h : Pre G tk cd c i a d) (hr : r = (0, a + 1)) (h1 : a < 700) (ht : tk a ≠ 0) (hP : P i) : Pst G (uG G 7 8 (a + 1)) c i a r P old := by
  obtain ⟨p1, p2, p3, p4, p5, p6, p7, p8⟩ := h
  have := PT_lt p1 ht
  subst hr
  exact ⟨FP_up (FP_id _) (by omega), fun z => absurd rfl z, fun _ => ⟨by rw [uG_j (by decide)]; exact p3, uG_at _ _ _ _, by show a < a + 1; omega, by show a + 1 ≤ 700; omega, by show a + 1 ≤ c; omega, fun k j x y _ => by rw [uG_c (by omega)], i, by rw [uG_j (by decide)]; exact p7, by omega, by show i ≤ i + (a + 1 - a); omega, hP⟩⟩
-- ARGS with their ( )
def PsA (G G' : gS) (tk : Int → Int) (c i a n v : Int) (T : TT) (eE : Int → RR) : Prop := Pst G G' c i a (pargs tk eE a) (fun i' => cArgs tk T eE i i' (G' n 5) a G') (fun k j => k = n ∧ j = 5) ∧ ((pargs tk eE a).1 ≠ 0 → v = 0) ∧ ((pargs tk eE a).1 = 0 → v = 1)
def SA (R : JT) (tk cd : Int → Int) (c : Int) (T : TT) (eE : Int → RR) (d : Int) : Prop := ∀ (G : gS) (i a n : Int) (Q : Int → gS → Prop), Pre G tk cd c i a d → 14 ≤ n ∧ n < 14 + i → G n 5 = -1 → (∀ v G', PsA G G' tk c i a n v T eE → Q v G') → R 0 [n, d] G Q
theorem args_ok {n : Int} {Q : Int → gS → Prop} (hE : SEx R tk cd c T eE 3 [d] d) (hI : TI T) (hF : TF T) (hp : Pre G tk cd c i a d) (hn : 14 ≤ n ∧ n < 14 + i) (h5 : G n 5 = -1) (hQ : ∀ v G', PsA G G' tk c i a n v T eE → Q v G') : PX9_args R n d G Q := by
  refine ⟨4000000000, Nat.le_refl _, ?_⟩
  show PX9_args_0 R (PX9_args_J R 4000000000) n d G Q
  have hp' := hp
  obtain ⟨p1, p2, p3, p4, p5, p6, p7, p8, p9, p10, p11⟩ := hp
  unfold PX9_args_0 PX9_args_27
  refine sX9_need p1 p2 p3 p4 (by omega) (by decide) (fun x y w => fun _ => ⟨fun z => absurd z (by decide), fun _ => ?_⟩) (fun m x y => fun _ => ⟨fun _ => hQ 0 _ ⟨?_, fun _ => rfl, fun z => ?_⟩, fun z => absurd rfl z⟩)
  · have hp1 := Pre_take hp' y (show tk a ≠ 0 by omega)
    obtain ⟨r1, r2, r3, r4, r5, r6, r7, r8, r9, r10, r11⟩ := hp1
    have s1 : pargs tk eE a = (if tk (a + 1) = 141 then ptake (a + 1) else pargsL tk eE 702 (a + 1)) := by unfold pargs; exact pb_e x
    refine sX9_now r1 r2 (by omega) (by omega) (fun _ => ⟨fun z => ?_, fun z => ?_⟩)
    · rw [if_pos z] at s1
      have s2 : pneed tk 141 (a + 1) = ptake (a + 1) := by unfold pneed; rw [if_pos z]
      refine args_end r1 r2 r3 (by omega) (by omega) (fun x2 y2 w2 => hQ 1 _ ?_) (fun m x2 y2 => hQ 0 _ ?_)
      · rw [s2] at x2
        have t2 := Pst_take (d := d) (b := 0) (old := fun _ _ => False) (P := fun _ => True) (r := pargs tk eE a) ⟨r1, r2, r3, r4, r5, r6, r7, r8, r9, r10, r11⟩ (by rw [s1, x2]) y2 (by omega) trivial
        refine ⟨Pst_seq (b := a + 1) (i1 := i) (FP_up (FP_id _) (by omega)) (fun k j u v _ => by rw [uG_c (by omega)]) (by omega) (by omega) t2 (fun _ _ _ h => h.elim) (fun _ _ i' _ _ => ⟨fun _ => by rw [uG_c (by omega), uG_c (by omega)]; exact h5, fun u => absurd z u⟩), fun u => by rw [s1, x2] at u; exact absurd rfl u, fun _ => rfl⟩
      · rw [s2] at y2
        have e : pargs tk eE a = (m, a + 1) := by rw [s1, y2]
        refine ⟨?_, fun _ => rfl, fun u => by rw [e] at u; exact absurd u x2⟩
        rw [e]
        exact Pst_seq (b := a + 1) (i1 := i) (FP_up (FP_id _) (by omega)) (fun k j u v _ => by rw [uG_c (by omega)]) (by omega) (by omega) (Pst_fail (P := fun _ => False) (old := fun _ _ => False) x2) (fun _ _ _ h => h.elim) (fun _ _ _ _ h => h.elim)
    · rw [if_neg z] at s1
      refine args_loop hE hI hF 702 4000000000 _ i (a + 1) n (-1) 0 Q (by omega) (by omega) ⟨r1, r2, r3, r4, r5, r6, r7, r8, r9, r10, r11⟩ (by omega) (by omega) hn (Or.inl rfl) (fun v G' h => ?_)
      obtain ⟨l1, l2, l3⟩ := h
      rw [← s1] at l1 l2 l3
      refine hQ v G' ⟨Pst_seq (b := a + 1) (i1 := i) (FP_up (FP_id _) (by omega)) (fun k j u v _ => by rw [uG_c (by omega)]) (by omega) (by omega) l1 (fun k j _ h => h) (fun _ _ i' _ h => ⟨fun u => absurd u z, fun _ => h⟩), l2, l3⟩
  · have e : pargs tk eE a = (m, a) := by unfold pargs; rw [y]; exact pb_n x
    rw [e]
    exact Pst_fail x
  · have e : pargs tk eE a = (m, a) := by unfold pargs; rw [y]; exact pb_n x
    rw [e] at z
    exact absurd z x
-- . NAME ( ARGS ) behind super
def PsS (G G' : gS) (tk : Int → Int) (c i a n v : Int) (T : TT) (eE : Int → RR) : Prop := Pst G G' c i a (psuper tk eE a) (fun i' => G' n 2 = a + 1 ∧ cArgs tk T eE i i' (G' n 5) (a + 2) G') (fun k j => k = n ∧ (j = 5 ∨ j = 2)) ∧ ((psuper tk eE a).1 ≠ 0 → v = 0) ∧ ((psuper tk eE a).1 = 0 → v = 1)
def SS (R : JT) (tk cd : Int → Int) (c : Int) (T : TT) (eE : Int → RR) (d : Int) : Prop := ∀ (G : gS) (i a n : Int) (Q : Int → gS → Prop), Pre G tk cd c i a d → 14 ≤ n ∧ n < 14 + i → G n 5 = -1 → (∀ v G', PsS G G' tk c i a n v T eE → Q v G') → R 7 [n, d] G Q
theorem super_ok {n : Int} {Q : Int → gS → Prop} (hA : SA R tk cd c T eE d) (hp : Pre G tk cd c i a d) (hn : 14 ≤ n ∧ n < 14 + i) (h5 : G n 5 = -1) (hQ : ∀ v G', PsS G G' tk c i a n v T eE → Q v G') : PX9_superCall R n d G Q := by
  have hp' := hp
  obtain ⟨p1, p2, p3, p4, p5, p6, p7, p8, p9, p10, p11⟩ := hp
  have hi8 : i ≤ 713 := by omega
  unfold PX9_superCall PX9_superCall_0 PX9_superCall_41 PX9_superCall_42
  have o0 : (0 : Int) ≤ 0 ∧ (0 : Int) ≤ 1 := by omega
  have o1 : (0 : Int) ≤ 1 ∧ (1 : Int) ≤ 1 := by omega
  refine sX9_need p1 p2 p3 p4 (by omega) (by decide) (fun x y w => fun _ => ⟨fun z => absurd z (by decide), fun _ => ?_⟩) (fun m x y => fun _ => ⟨fun _ => hQ 0 _ ⟨?_, fun _ => rfl, fun z => ?_⟩, fun z => absurd rfl z⟩)
  · have hp1 := Pre_take hp' y (show tk a ≠ 0 by omega)
    rw [uG_at]
    refine fun _ => ⟨nd_of hn (by omega), fun G2 e2 => ?_⟩
    subst e2
    have hp2 := Pre_nd (k := n) (j := 2) (v := a + 1) hp1 (by omega)
    obtain ⟨r1, r2, r3, r4, r5, r6, r7, r8, r9, r10, r11⟩ := hp2
    have s1 : psuper tk eE a = pb (pneed tk 3 (a + 1)) (pargs tk eE) := by unfold psuper; exact pb_e x
    refine sX9_need r1 r2 r3 r4 (by omega) (by decide) (fun x2 y2 w2 => fun _ => ⟨fun z => absurd z (by decide), fun _ => ?_⟩) (fun m x2 y2 => fun _ => ⟨fun _ => ⟨o0, hQ 0 _ ⟨?_, fun _ => rfl, fun z => ?_⟩⟩, fun z => absurd rfl z⟩)
    · rw [pb_e x2] at s1
      have hp3 := Pre_take (d := d) ⟨r1, r2, r3, r4, r5, r6, r7, r8, r9, r10, r11⟩ y2 (by omega)
      refine hA _ i (a + 1 + 1) n _ hp3 hn (by rw [uG_c (by omega), uG_j (by decide), uG_c (by omega)]; exact h5) (fun v G' h => ?_)
      obtain ⟨l1, l2, l3⟩ := h
      have s2 : psuper tk eE a = pargs tk eE (a + 1 + 1) := s1
      rw [← s2] at l1 l2 l3
      have res : ∀ v, ((psuper tk eE a).1 ≠ 0 → v = 0) → ((psuper tk eE a).1 = 0 → v = 1) → PsS G G' tk c i a n v T eE := fun v u1 u2 => by
        refine ⟨Pst_seq (b := a + 1 + 1) (i1 := i) (FP_up (FP_up (FP_up (FP_id _) (by omega)) (by omega)) (by omega)) (fun k j u v w => by rw [uG_c (by omega), uG_ne (by omega), uG_c (by omega)]) (by omega) (by omega) l1 (fun k j _ h => ⟨h.1, Or.inl h.2⟩) (fun _ hg i' _ h => ⟨by rw [hg n 2 (by omega) (by omega) (by omega), uG_c (by omega), uG_at], by rw [show a + 2 = a + 1 + 1 by omega]; exact h⟩), u1, u2⟩
      by_cases e : (psuper tk eE a).1 = 0
      · have ev := l3 e
        subst ev
        exact fun _ => ⟨fun z => absurd z (by decide), fun _ => ⟨o1, hQ 1 G' (res 1 (fun z => absurd e z) (fun _ => rfl))⟩⟩
      · have ev := l2 e
        subst ev
        exact fun _ => ⟨fun _ => ⟨o0, hQ 0 G' (res 0 (fun _ => rfl) (fun z => absurd z e))⟩, fun z => absurd rfl z⟩
    · have e : psuper tk eE a = (m, a + 1) := by rw [s1, y2]; exact pb_n x2
      rw [e]
      exact Pst_seq (b := a + 1) (i1 := i) (FP_up (FP_up (FP_id _) (by omega)) (by omega)) (fun k j u v w => by rw [uG_ne (by omega), uG_c (by omega)]) (by omega) (by omega) (Pst_fail (P := fun _ => False) (old := fun _ _ => False) x2) (fun _ _ _ h => h.elim) (fun _ _ _ _ h => h.elim)
    · have e : psuper tk eE a = (m, a + 1) := by rw [s1, y2]; exact pb_n x2
      rw [e] at z; exact absurd z x2
  · have e : psuper tk eE a = (m, a) := by unfold psuper; rw [y]; exact pb_n x
    rw [e]
    exact Pst_fail x
  · have e : psuper tk eE a = (m, a) := by unfold psuper; rw [y]; exact pb_n x
    rw [e] at z; exact absurd z x
end CP4

section RP27
variable {B G G' : gS} {s N d i i' a m c j : Int} {tk cd : Int → Int} {q r : RR}
/-- want a NAME that is not of a MEMBER, with a most -/
def pwl (tk : Int → Int) (l b : Int) : RR := if tk b = 2 then (if l = 0 then ptake b else (3, b)) else pmiss tk b
theorem rWantL {Q : Int → gS → Prop} {l : Int} (hK : TKp B s N tk cd) (h : RM B s N d G q i) (hQ : ∀ G', RM B s N d G' (pb q (pwl tk l)) i → FR (XR s i) G G' → Q q.2 G') : PX13_want 1 l G Q := by
  have t := TR_k (hK.2.2.2.2.2.1 q.2 h.2.1 h.2.2.1)
  unfold PX13_want PX13_want_0
  rw [RM_pp h]
  refine fun _ _ => ⟨fun y => fun _ => rKind hK h.1 h.2.1 h.2.2.1 (fun _ => fun _ => ⟨fun z => ?_, fun z => ?_⟩), fun y => ?_⟩
  · have e := (RM_fl h).mp y
    have z2 := t.2.2.1.mp z
    have sp : pb q (pwl tk l) = if l = 0 then ptake q.2 else (3, q.2) := by rw [pb_0 e]; exact if_pos z2
    rw [sp] at hQ
    unfold PX13_want_31 PX13_want_55 PX13_want_59
    rw [RM_pp h]
    refine fun _ => ⟨fun _ => ⟨fun u => ?_, fun u => ?_⟩, fun u => absurd y u⟩
    · rw [if_pos u] at hQ
      refine rStep hK h (fun _ => by omega) (fun G1 h1 f1 => hQ G1 (by rw [pb_0 e] at h1; exact h1) f1)
    · rw [if_neg u] at hQ
      obtain ⟨r1, r2⟩ := RM_flt (m := 3) (RM_eq h e rfl) (by decide)
      refine fun _ => rPlace hK h.1 h.2.1 h.2.2.1 (fun _ => rFault y (rStep hK r1 (fun w => absurd w (by show (3 : Int) ≠ 0; decide)) (fun G1 h1 f1 => hQ G1 ?_ (FR_tr r2 f1))))
      rw [pb_n (by show (3 : Int) ≠ 0; decide)] at h1
      exact h1
  · have e := (RM_fl h).mp y
    have z2 : ¬ tk q.2 = 2 := fun u => z (t.2.2.1.mpr u)
    have sp : pb q (pwl tk l) = pb q (pmiss tk) := by rw [pb_0 e, pb_0 e]; exact if_neg z2
    unfold PX13_want_59
    exact rWrong hK h (fun G1 h1 f1 => hQ G1 (by rw [sp]; exact h1) f1)
  · have e : q.1 ≠ 0 := fun e => y ((RM_fl h).mpr e)
    unfold PX13_want_31 PX13_want_59
    refine fun _ => ⟨fun u => absurd u y, fun _ => hQ G (by rw [pb_n e]; exact h) FR_id⟩
def XLs (s i A1 A2 lo hi c j : Int) : Prop := XR s i c j ∨ ((c = A1 ∨ c = A2) ∧ lo ≤ j ∧ j < hi)
def LSR (B : gS) (s A1 A2 x n e : Int) (G : gS) : Prop := ∀ j, 0 ≤ j → j < n → G A1 (x + j) = nmR B s (e + 1 + 2 * j) ∧ G A2 (x + j) = plR B s (e + 1 + 2 * j)
theorem nLst_0 (tk : Int → Int) : ∀ (f : Nat) (a : Int), 0 ≤ nLst tk f a
  | 0, _ => Int.le_refl _
  | f + 1, a => by
    have := nLst_0 tk f (a + 2)
    show 0 ≤ (if tk (a + 2) = 144 then 1 + nLst tk f (a + 2) else 1)
    split <;> omega
theorem rlist_loop {A1 A2 n x most : Int} (hK : TKp B s N tk cd) (hA1 : isA W0 1 n A1) (hA2 : isA W0 0 n A2) (hA : 16095 ≤ A1 ∧ A1 < 16143 ∧ 16095 ≤ A2 ∧ A2 < 16143 ∧ A1 ≠ A2) (hx : 0 ≤ x ∧ x + most ≤ n ∧ n ≤ 10000) (hm : 0 ≤ most ∧ most ≤ 8) : ∀ (f F : Nat) (G : gS) (a k : Int) (Q : Int → gS → Prop), f + 2 ≤ F → 702 ≤ a + f → 0 ≤ k → k ≤ most → RM B s N d G (ptake a) i →
    (∀ v G', RM B s N d G' (plistL tk most f k a) i → FR (XLs s i A1 A2 (x + k) (x + most)) G G' → inI v → ((plistL tk most f k a).1 = 0 → v = k + nLst tk f a ∧ a < (plistL tk most f k a).2 ∧ LSR B s A1 A2 (x + k) (nLst tk f a) a G') → Q v G') → PX13_list_6 (PX13_list_J F) A1 A2 x most k 1 G Q
  | 0, F, G, a, k, Q, _, h1, _, _, h, _ => by
    have h3 := h.2.2.1
    have h4 := hK.2.2.2.2.1
    have h5 := (ptake_le (a := a)).1
    exfalso
    omega
  | f + 1, F, G, a, k, Q, hF, hf, hk0, hkm, h, hQ => by
    obtain ⟨F', rfl⟩ : ∃ F', F = F' + 1 := ⟨F - 1, by omega⟩
    have tl := ptake_le (a := a)
    have spec : plistL tk most (f + 1) k a = pb (ptake a) fun b => if tk b = 2 then (if k < most then pb (ptake b) fun c => if tk c = 144 then plistL tk most f (k + 1) c else (0, c) else (3, b)) else pmiss tk b := rfl
    have sN : nLst tk (f + 1) a = (if tk (a + 2) = 144 then 1 + nLst tk f (a + 2) else 1) := rfl
    generalize hr0 : plistL tk most (f + 1) k a = r0 at *
    have xls : ∀ {G1 G2 : gS}, FR (XR s i) G1 G2 → FR (XLs s i A1 A2 (x + k) (x + most)) G1 G2 := fun g => FR_mono (fun _ _ u => Or.inl u) g
    -- no comma
    have stop : ∀ v G1, RM B s N d G1 r0 i → FR (XLs s i A1 A2 (x + k) (x + most)) G G1 → inI v → (r0.1 = 0 → v = k + nLst tk (f + 1) a ∧ a < r0.2 ∧ LSR B s A1 A2 (x + k) (nLst tk (f + 1) a) a G1) → PX13_list_6 (PX13_list_J F') A1 A2 x most v 0 G1 Q := fun v G1 y1 y2 y3 y4 => by
      unfold PX13_list_6
      exact ⟨fun _ => hQ v G1 y1 y2 y3 y4, fun u => absurd rfl u⟩
    have one : ∀ l : Int, ((l = 1 ∧ k = most) ∨ (l = 0 ∧ k ≠ most)) → PX13_list_25 (PX13_list_J (F' + 1)) A1 A2 x most k 1 16081 1 l G Q := fun l hl => by
      unfold PX13_list_25
      refine ⟨oC13, rWantL hK h (fun G1 h1 f1 => fun _ => fun _ => ⟨fun y => ?_, fun y => ?_⟩)⟩
      · have e1 := (RM_fl h1).mp y
        obtain ⟨x1, x2⟩ := pb_z e1
        have ed := tl.2.2 x1
        have z2 : tk (a + 1) = 2 := by
          rw [ed] at x2
          unfold pwl at x2
          split at x2
          · assumption
          · exact absurd x2 (pmiss_ne _)
        have l0 : l = 0 := by
          rw [ed] at x2
          unfold pwl at x2
          rw [if_pos z2] at x2
          split at x2
          · assumption
          · exact absurd x2 (by show (3 : Int) ≠ 0; decide)
        have hkl : k < most := by omega
        have sp1 : pb (ptake a) (pwl tk l) = ptake (a + 1) := by
          rw [pb_0 x1, ed]
          unfold pwl
          rw [if_pos z2, if_pos l0]
        rw [sp1] at h1 e1
        have ed2 := (ptake_le (a := a + 1)).2.2 e1
        have sp : r0 = if tk (a + 2) = 144 then plistL tk most f (k + 1) (a + 2) else (0, a + 2) := by
          rw [spec, pb_0 x1, ed, if_pos z2, if_pos hkl, pb_0 e1, ed2, show a + 1 + 1 = a + 2 by omega]
        have ha1 := h.2.1
        have ha2 := h.2.2.1
        rw [ed] at ha1 ha2 ⊢
        refine rName hK h1.1 ha1 ha2 (fun _ => ⟨n, hA1, by omega, by omega, fun G2 e2 => ?_⟩)
        have h2 : RM B s N d G2 (ptake (a + 1)) i := by rw [e2]; exact RM_put2 h1 (by omega) (by omega)
        refine rPlace hK h2.1 ha1 ha2 (fun _ => ⟨n, hA2, by omega, by omega, fun G3 e3 => ?_⟩)
        have h3 : RM B s N d G3 (0, a + 2) i := RM_eq (by rw [e3]; exact RM_put2 h2 (by omega) (by omega)) e1 (by omega)
        have f3 : FR (XLs s i A1 A2 (x + k) (x + most)) G G3 := by
          rw [e3, e2]
          exact FR_up (FR_up (xls f1) (Or.inr ⟨Or.inl rfl, by omega, by omega⟩)) (Or.inr ⟨Or.inr rfl, by omega, by omega⟩)
        have v1 : G3 A1 (x + k) = nmR B s (a + 1) := by rw [e3, uG_c (by omega), e2, uG_at]; rfl
        have v2 : G3 A2 (x + k) = plR B s (a + 1) := by rw [e3, uG_at]; rfl
        refine ⟨by unfold inI; omega, ?_⟩
        unfold PX13_list_64 PX13_list_84 PX13_list_85 PX13_list_96
        refine fun _ => ⟨fun _ => rSg (k := 144) hK h3 rfl (Or.inl ⟨by unfold sg; omega, rfl⟩) (fun z => fun _ => ⟨fun u => absurd u (by decide), fun _ => ⟨fun u => absurd u (by decide), fun _ => ?_⟩⟩) (fun z => fun _ => ⟨fun _ => ⟨fun _ => ?_, fun u => absurd rfl u⟩, fun u => absurd rfl u⟩), fun u => absurd ((RM_fl h3).mpr rfl) u⟩
        · change tk (a + 2) = 144 at z
          rw [if_pos z] at sp sN
          refine rStep hK h3 (fun _ => by show tk (a + 2) ≠ 0 ∧ tk (a + 2) ≠ 1; omega) (fun G4 h4 f4 => ?_)
          change RM B s N d G4 (ptake (a + 2)) i at h4
          show PX13_list_6 (PX13_list_J F') A1 A2 x most (k + 1) 1 G4 Q
          refine rlist_loop hK hA1 hA2 hA hx hm f F' G4 (a + 2) (k + 1) Q (by omega) (by omega) (by omega) (by omega) h4 (fun v G5 h5 f5 hv hg => ?_)
          rw [← sp] at h5 hg
          refine hQ v G5 h5 (FR_tr f3 (FR_tr (xls f4) (FR_mono (fun c j u => ?_) f5))) hv (fun w => ?_)
          · rcases u with u | u
            · exact Or.inl u
            · exact Or.inr ⟨u.1, by omega, u.2.2⟩
          · obtain ⟨g1, g2, g3⟩ := hg w
            refine ⟨by omega, by omega, fun j j0 j1 => ?_⟩
            by_cases ej : j = 0
            · subst ej
              have k5 : ∀ A, 16095 ≤ A → A < 16143 → G5 A (x + k) = G3 A (x + k) := fun A y1 y2 => by rw [f5 _ _ (by unfold XLs XR; omega), f4 _ _ (by unfold XR; omega)]
              rw [show x + k + 0 = x + k by omega, show a + 1 + 2 * 0 = a + 1 by omega, k5 _ (by omega) (by omega), k5 _ (by omega) (by omega)]
              exact ⟨v1, v2⟩
            · have := g3 (j - 1) (by omega) (by omega)
              rw [show x + (k + 1) + (j - 1) = x + k + j by omega, show a + 2 + 1 + 2 * (j - 1) = a + 1 + 2 * j by omega] at this
              exact this
        · change tk (a + 2) ≠ 144 at z
          rw [if_neg z] at sp sN
          show PX13_list_6 (PX13_list_J F') A1 A2 x most (k + 1) 0 G3 Q
          refine stop (k + 1) G3 (by rw [sp]; exact h3) f3 (by unfold inI; omega) (fun _ => ⟨by omega, by rw [sp]; show a < a + 2; omega, fun j j0 j1 => ?_⟩)
          rw [show j = 0 by omega, show x + k + 0 = x + k by omega, show a + 1 + 2 * 0 = a + 1 by omega]
          exact ⟨v1, v2⟩
      · have e1 : (pb (ptake a) (pwl tk l)).1 ≠ 0 := fun e => y ((RM_fl h1).mpr e)
        have sp : r0 = pb (ptake a) (pwl tk l) := by
          by_cases x1 : (ptake a).1 = 0
          · rw [pb_0 x1] at e1 ⊢
            rw [spec, pb_0 x1]
            unfold pwl at e1 ⊢
            split
            · rename_i z
              rw [if_pos z] at e1
              split
              · rename_i z3
                rw [if_pos (by omega)] at e1 ⊢
                rw [pb_n e1]
              · rename_i z3
                rw [if_neg (by omega)]
            · rfl
          · rw [spec, pb_n x1, pb_n x1]
        unfold PX13_list_64 PX13_list_84 PX13_list_85 PX13_list_96
        refine fun _ => ⟨fun u => absurd u y, fun _ => ⟨fun _ => ?_, fun u => absurd rfl u⟩⟩
        show PX13_list_6 (PX13_list_J F') A1 A2 x most k 0 G1 Q
        exact stop k G1 (by rw [sp]; exact h1) (xls f1) (by unfold inI; omega) (fun w => absurd (by rw [← sp]; exact w) e1)
    show PX13_list_6 (PX13_list_J (F' + 1)) A1 A2 x most k 1 G Q
    unfold PX13_list_6
    exact ⟨fun u => absurd u (by decide), fun _ => ⟨fun u => one 1 (Or.inl ⟨rfl, u⟩), fun u => one 0 (Or.inr ⟨rfl, u⟩)⟩⟩
theorem rlist_ok {Q : Int → gS → Prop} {A1 A2 n x most : Int} (hK : TKp B s N tk cd) (hA1 : isA W0 1 n A1) (hA2 : isA W0 0 n A2) (hA : 16095 ≤ A1 ∧ A1 < 16143 ∧ 16095 ≤ A2 ∧ A2 < 16143 ∧ A1 ≠ A2) (hx : 0 ≤ x ∧ x + most ≤ n ∧ n ≤ 10000) (hm : 0 ≤ most ∧ most ≤ 8) (ha : 0 ≤ a) (h : RM B s N d G (ptake a) i) (hQ : ∀ v G', RM B s N d G' (plistL tk most 702 0 a) i → FR (XLs s i A1 A2 x (x + most)) G G' → inI v → ((plistL tk most 702 0 a).1 = 0 → v = nLst tk 702 a ∧ a < (plistL tk most 702 0 a).2 ∧ LSR B s A1 A2 x (nLst tk 702 a) a G') → Q v G') : PX13_list A1 A2 x most G Q := by
  refine ⟨800, by omega, ?_⟩
  unfold PX13_list_0
  refine rlist_loop hK hA1 hA2 hA hx hm 702 800 G a 0 Q (by omega) (by omega) (by omega) (by omega) h (fun v G1 h1 f1 hv hg => hQ v G1 h1 (by rw [show x + 0 = x by omega] at f1; exact f1) hv (fun w => ?_))
  obtain ⟨g1, g2, g3⟩ := hg w
  rw [show x + 0 = x by omega] at g3
  exact ⟨by omega, g2, g3⟩
end RP27

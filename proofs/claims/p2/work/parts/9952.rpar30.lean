section RP30
variable {B G G' : gS} {s N d i i' a m c j k : Int} {tk cd : Int → Int} {q r : RR}
theorem rkfront {J : JT} {Q : Int → gS → Prop} (hK : TKp B s N tk cd) (h : RM B s N d G (0, a) i) (hQ : ∀ r2 so G', RM B s N d G' (pq3 tk a) i → FR (XR s i) G G' → r2 = b01 (tk a = 17) → ((pq3 tk a).1 = 0 → so = srt tk a) → PX13_klass_70 J r2 so G' Q) : PX13_klass_0 J G Q := by
  -- behind final, bare
  have mid : ∀ r2 s0 G1, r2 = b01 (tk a = 17) → RM B s N d G1 (pb (popt tk 17 a) (pfb tk)) i → FR (XR s i) G G1 → ((popt tk 17 a).1 = 0 → s0 = sfb tk (popt tk 17 a).2) → PX13_klass_34 J r2 s0 G1 Q := fun r2 s0 G1 x1 x2 x3 x4 => by
    unfold PX13_klass_34 PX13_klass_64
    by_cases e : (pb (popt tk 17 a) (pfb tk)).1 = 0
    · obtain ⟨e1, e2⟩ := pb_z e
      have es := x4 e1
      have sp : pq3 tk a = pcl tk s0 (pfb tk (popt tk 17 a).2).2 := by
        unfold pq3
        rw [pb_0 e1, pb_0 e2, es]
      have ec : (pb (popt tk 17 a) (pfb tk)).2 = (pfb tk (popt tk 17 a).2).2 := by rw [pb_0 e1]
      have x2' : RM B s N d G1 (0, (pfb tk (popt tk 17 a).2).2) i := RM_eq x2 e ec
      have want : s0 ≠ 0 ∨ tk (pfb tk (popt tk 17 a).2).2 ≠ 11 → ((pq3 tk a).1 = 0 → s0 = srt tk a) → PX13_wantWord 38 G1 (fun _ G21 => PX13_klass_70 J r2 s0 G21 Q) := fun y y2 => by
        refine rWantWord (k := 10) hK x2' wo38 (fun G2 h2 f2 => hQ r2 s0 G2 ?_ (FR_tr x3 f2) x1 y2)
        have : pq3 tk a = pneed tk 10 (pfb tk (popt tk 17 a).2).2 := by
          rw [sp]
          unfold pcl pneed
          by_cases z : tk (pfb tk (popt tk 17 a).2).2 = 10
          · rw [if_pos (Or.inr z), if_pos z]
          · rw [if_neg (by omega), if_neg z]
        rw [this]; exact h2
      have eB : hB0 tk a = (popt tk 17 a).2 := rfl
      refine fun _ => ⟨fun _ => ⟨fun u0 => ?_, fun u0 => want (Or.inl u0) (fun _ => ?_)⟩, fun u => absurd ((RM_fl x2).mpr e) u⟩
      · have es2 := es
        rw [u0] at es2
        unfold sfb at es2
        have nb : ¬ (tk (popt tk 17 a).2 = 20 ∨ tk (popt tk 17 a).2 = 21) := fun y => by
          rcases y with y | y
          · rw [if_pos y] at es2; omega
          · rw [if_neg (by omega), if_pos y] at es2; omega
        have eb : (pfb tk (popt tk 17 a).2).2 = (popt tk 17 a).2 := by
          unfold pfb; rw [if_neg nb]
        refine rWd hK x2' rfl wo32 (fun z => fun _ => ⟨fun u => absurd u (by decide), fun _ => ?_⟩) (fun z => fun _ => ⟨fun _ => want (Or.inr z) (fun _ => ?_), fun u => absurd rfl u⟩)
        · change tk (pfb tk (popt tk 17 a).2).2 = 11 at z
          refine rStep hK x2' (fun _ => by show tk (pfb tk (popt tk 17 a).2).2 ≠ 0 ∧ tk (pfb tk (popt tk 17 a).2).2 ≠ 1; omega) (fun G2 h2 f2 => hQ r2 3 G2 ?_ (FR_tr x3 f2) x1 (fun _ => ?_))
          · have : pq3 tk a = ptake (pfb tk (popt tk 17 a).2).2 := by
              rw [sp]; exact if_pos (Or.inl ⟨z, u0⟩)
            rw [this]; exact h2
          · unfold srt
            rw [eB, if_neg (fun y => nb (Or.inl y)), if_neg (fun y => nb (Or.inr y)), if_pos (by rw [← eb]; exact z)]
        · change tk (pfb tk (popt tk 17 a).2).2 ≠ 11 at z
          unfold srt
          rw [eB, if_neg (fun y => nb (Or.inl y)), if_neg (fun y => nb (Or.inr y)), if_neg (by rw [← eb]; exact z)]
          exact u0
      · unfold srt
        rw [eB]
        unfold sfb at es
        by_cases y : tk (popt tk 17 a).2 = 20
        · rw [if_pos y] at es ⊢; exact es
        · rw [if_neg y] at es ⊢
          by_cases y2 : tk (popt tk 17 a).2 = 21
          · rw [if_pos y2] at es ⊢; exact es
          · rw [if_neg y2] at es; exact absurd es u0
    · have sp : pq3 tk a = pb (popt tk 17 a) (pfb tk) := by
        unfold pq3
        by_cases e1 : (popt tk 17 a).1 = 0
        · rw [pb_0 e1] at e ⊢
          rw [pb_0 e1, pb_n e]
        · rw [pb_n e1, pb_n e1]
      refine fun _ => ⟨fun u => absurd ((RM_fl x2).mp u) e, fun _ => rWantWord (k := 10) hK x2 wo38 (fun G2 h2 f2 => ?_)⟩
      rw [pb_n e] at h2
      exact hQ r2 s0 G2 (by rw [sp]; exact h2) (FR_tr x3 f2) x1 (fun w => absurd (by rw [← sp]; exact w) e)
  -- behind open
  have fin : ∀ r2 G1, r2 = b01 (tk a = 17) → RM B s N d G1 (popt tk 17 a) i → FR (XR s i) G G1 → PX13_takesWord 31 G1 (fun r5 G4 => (0 ≤ r5 ∧ r5 ≤ 1) → ((r5 = 0 → PX13_takesWord 39 G4 (fun r9 G8 => (0 ≤ r9 ∧ r9 ≤ 1) → ((r9 = 0 → PX13_klass_34 J r2 0 G8 Q) ∧ (¬ (r9 = 0) → PX13_klass_34 J r2 2 G8 Q)))) ∧ (¬ (r5 = 0) → PX13_klass_34 J r2 1 G4 Q))) := fun r2 G1 x1 x2 x3 => by
    have pfbt : (tk (popt tk 17 a).2 = 20 ∨ tk (popt tk 17 a).2 = 21) → (popt tk 17 a).1 = 0 → pb (popt tk 17 a) (pfb tk) = pb (popt tk 17 a) ptake := fun y e => by
      rw [pb_0 e, pb_0 e]; exact if_pos y
    refine rTakes hK x2 wo31 (fun e z G2 h2 f2 => fun _ => ⟨fun u => absurd u (by decide), fun _ => mid r2 1 G2 x1 (by rw [pfbt (Or.inl z) e]; exact h2) (FR_tr x3 f2) (fun _ => ?_)⟩) (fun z20 => fun _ => ⟨fun _ => ?_, fun u => absurd rfl u⟩)
    · unfold sfb; rw [if_pos z]
    refine rTakes hK x2 wo39 (fun e z G2 h2 f2 => fun _ => ⟨fun u => absurd u (by decide), fun _ => mid r2 2 G2 x1 (by rw [pfbt (Or.inr z) e]; exact h2) (FR_tr x3 f2) (fun _ => ?_)⟩) (fun z21 => fun _ => ⟨fun _ => mid r2 0 G1 x1 ?_ x3 (fun e => ?_), fun u => absurd rfl u⟩)
    · unfold sfb; rw [if_neg (by omega), if_pos z]
    · have : pb (popt tk 17 a) (pfb tk) = popt tk 17 a := by
        by_cases e : (popt tk 17 a).1 = 0
        · rw [pb_0 e]
          have e2 : pfb tk (popt tk 17 a).2 = (0, (popt tk 17 a).2) := if_neg (fun u => u.elim (z20 e) (z21 e))
          rw [e2]; exact Prod.ext e.symm rfl
        · rw [pb_n e]
      rw [this]; exact x2
    · unfold sfb; rw [if_neg (z20 e), if_neg (z21 e)]
  unfold PX13_klass_0
  refine rTakes hK h wo30 (fun e z G1 h1 f1 => fun _ => fin 1 G1 ?_ ?_ f1) (fun z => fun _ => fin 0 G ?_ ?_ FR_id)
  · change tk a = 17 at z
    unfold b01; rw [if_pos z]
  · change tk a = 17 at z
    have : popt tk 17 a = ptake a := if_pos z
    rw [this]; exact h1
  · have z := z rfl
    change tk a ≠ 17 at z
    unfold b01; rw [if_neg z]
  · have z := z rfl
    change tk a ≠ 17 at z
    have : popt tk 17 a = (0, a) := if_neg z
    rw [this]; exact h
/-- what a head tells of where it stands -/
def RhP (B : gS) (s : Int) (tk : Int → Int) (c e : Int) (G : gS) : Prop := (G 16102 c = (if tk e = 13 then nmR B s (e + 1) else 0) ∧ (tk e = 13 → G 16103 c = plR B s (e + 1))) ∧ (G 16106 c = lLst tk 12 (qa1 tk e) ∧ lLst tk 12 (qa1 tk e) ≤ 4 ∧ LSR B s 16104 16105 (4 * c) (lLst tk 12 (qa1 tk e)) (qa1 tk e) G) ∧ (G 16107 c = (if tk (qa2 tk e) = 14 then nmR B s (qa2 tk e + 1) else 0) ∧ (tk (qa2 tk e) = 14 → G 16108 c = plR B s (qa2 tk e + 1))) ∧ (G 16111 c = lLst tk 15 (qa3 tk e) ∧ lLst tk 15 (qa3 tk e) ≤ 8 ∧ LSR B s 16109 16110 (8 * c) (lLst tk 15 (qa3 tk e)) (qa3 tk e) G) ∧ (G 16114 c = lLst tk 16 (qa4 tk e) ∧ lLst tk 16 (qa4 tk e) ≤ 8 ∧ LSR B s 16112 16113 (8 * c) (lLst tk 16 (qa4 tk e)) (qa4 tk e) G)
def XH (s i c x y : Int) : Prop := XR s i x y ∨ (x = 16097 ∧ y = s) ∨ (y = c ∧ (16098 ≤ x ∧ x ≤ 16103 ∨ 16106 ≤ x ∧ x ≤ 16108 ∨ x = 16111 ∨ x = 16114 ∨ x = 16115)) ∨ ((x = 16104 ∨ x = 16105) ∧ 4 * c ≤ y ∧ y < 4 * c + 4) ∨ ((x = 16109 ∨ x = 16110 ∨ x = 16112 ∨ x = 16113) ∧ 8 * c ≤ y ∧ y < 8 * c + 8)
theorem lLst_0 (w a : Int) : 0 ≤ lLst tk w a := by
  unfold lLst
  split
  · exact nLst_0 tk _ _
  · exact Int.le_refl _
end RP30

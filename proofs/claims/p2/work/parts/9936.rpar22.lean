section RP22
variable {B G G' : gS} {s N d i i' a m : Int} {tk cd : Int → Int} {q r : RR}
-- from static on
def pdc (tk : Int → Int) (b : Int) : RR := pb (popt tk 22 b) fun c => pb (pfb tk c) (pty tk)
def tDc (tk : Int → Int) (b : Int) : Int := (pfb tk (popt tk 22 b).2).2
def DcR (B : gS) (s : Int) (tk : Int → Int) (m b i i' : Int) (G G' : gS) : Prop := G' 16119 m = b01 (tk b = 22) ∧ G' 16120 m = b01 (tk (popt tk 22 b).2 = 20) ∧ G' 16122 m = b01 (tk (popt tk 22 b).2 = 21) ∧ ∃ G1, G1 16127 m = G 16127 m ∧ TyR B s tk m (tDc tk b) i i' G1 G' ∧ ∀ c, 16116 ≤ c → c ≤ 16142 → ¬ (c = 16119 ∨ c = 16120 ∨ c = 16122) → G1 c m = G c m
theorem popt_le {w : Int} (b : Int) : b ≤ (popt tk w b).2 := by
  unfold popt
  split
  · exact (ptake_le).1
  · exact Int.le_refl _
theorem pfb_le (b : Int) : b ≤ (pfb tk b).2 := by
  unfold pfb
  split
  · exact (ptake_le).1
  · exact Int.le_refl _
theorem rfom_bad {Q : Int → gS → Prop} (hK : TKp B s N tk cd) (hm : 0 ≤ m ∧ m < 7344) (h : RM B s N d G q i) (hb : q.1 ≠ 0) (hQ : ∀ G', RM B s N d G' q i → FR (XM s i m) G G' → Q 0 G') : PX13_fieldOrMethod m G Q := by
  unfold PX13_fieldOrMethod PX13_fieldOrMethod_0
  refine rTakes hK h wo42 (fun e => absurd e hb) (fun _ => fun _ => ⟨hm.1, hm.2, fun G1 e1 => ?_⟩)
  have h1 : RM B s N d G1 q i := by rw [e1]; exact RM_put2 h (by omega) (by omega)
  refine rTakes hK h1 wo31 (fun e => absurd e hb) (fun _ => fun _ => ⟨hm.1, hm.2, fun G2 e2 => ⟨hm.1, hm.2, fun _ => ?_⟩⟩)
  have h2 : RM B s N d G2 q i := by rw [e2]; exact RM_put2 h1 (by omega) (by omega)
  rw [show G2 16120 m = 0 by rw [e2, uG_at]]
  refine ⟨fun _ => rTakes hK h2 wo39 (fun e => absurd e hb) (fun _ => fun _ => ⟨fun _ => ?_, fun u => absurd rfl u⟩), fun u => absurd rfl u⟩
  unfold PX13_fieldOrMethod_52 PX13_fieldOrMethod_53
  refine ⟨7344, aC16122, hm.1, hm.2, by omega, fun G3 e3 => ?_⟩
  have h3 : RM B s N d G3 q i := by rw [e3]; exact RM_put2 h2 (by omega) (by omega)
  have f3 : FR (XM s i m) G G3 := by rw [e3, e2, e1]; exact XM_up (XM_up (XM_up FR_id (by omega) (by omega)) (by omega) (by omega)) (by omega) (by omega)
  refine fun _ => ⟨fun y => absurd ((RM_fl h3).mp y) hb, fun _ => ?_⟩
  unfold PX13_fieldOrMethod_74
  exact rty_bad hK hm h3 hb (fun G4 h4 f4 => hQ G4 h4 (FR_tr f3 f4))
theorem rfom_ok {Q : Int → gS → Prop} {b : Int} (hK : TKp B s N tk cd) (hm : 0 ≤ m ∧ m < 7344) (h : RM B s N 0 G (0, b) i) (h0 : 0 ≤ i) (hi : i ≤ b + 2) (h29 : G 16129 m = 0) (h34 : G 16134 m = -2) (h35 : G 16135 m = -2) (hQ : ∀ G' i', RM B s N 0 G' (pdc tk b) i' → i ≤ i' → FR (XM s i m) G G' → ((pdc tk b).1 = 0 → i' ≤ i + ((pdc tk b).2 - b) ∧ b < (pdc tk b).2 ∧ DcR B s tk m b i i' G G') → Q 0 G') : PX13_fieldOrMethod m G Q := by
  -- behind final, bare
  have typed : ∀ (G1 : gS) (q1 : RR) s2, RM B s N 0 G1 q1 i → FR (XM s i m) G G1 → q1 = pb (popt tk 22 b) (pfb tk) → G1 16119 m = b01 (tk b = 22) → ((popt tk 22 b).1 = 0 → G1 16120 m = b01 (tk (popt tk 22 b).2 = 20) ∧ s2 = b01 (tk (popt tk 22 b).2 = 21)) → 0 ≤ s2 ∧ s2 ≤ 1 → (∀ c, 16116 ≤ c → c ≤ 16142 → ¬ (c = 16119 ∨ c = 16120 ∨ c = 16122) → G1 c m = G c m) → PX13_fieldOrMethod_53 m 16122 m s2 G1 Q := by
    intro G1 q1 s2 x1 x2 x3 x4 x5 x6 x7
    have sp : pdc tk b = pb q1 (pty tk) := by rw [x3, pb_pb]; rfl
    unfold PX13_fieldOrMethod_53
    refine ⟨7344, aC16122, hm.1, hm.2, x6, fun G2 e2 => ?_⟩
    have h2 : RM B s N 0 G2 q1 i := by rw [e2]; exact RM_put2 x1 (by omega) (by omega)
    have f2 : FR (XM s i m) G G2 := by rw [e2]; exact XM_up x2 (by omega) (by omega)
    have w2 : ∀ c, c ≠ 16122 → G2 c m = G1 c m := fun c y => by rw [e2, uG_c y]
    have v22 : G2 16122 m = s2 := by rw [e2, uG_at]
    refine fun _ => ⟨fun y => ?_, fun y => ?_⟩
    · have e := (RM_fl h2).mp y
      have eo : (popt tk 22 b).1 = 0 := by rw [x3] at e; exact (pb_z e).1
      have et : q1.2 = tDc tk b := by rw [x3, pb_0 eo]; rfl
      have hle : b ≤ tDc tk b := Int.le_trans (popt_le (tk := tk) (w := 22) b) (pfb_le _)
      rw [pb_0 e, et] at sp
      rw [sp] at hQ
      have h2' := RM_eq h2 e et
      obtain ⟨x50, x52⟩ := x5 eo
      have go : ∀ s0, ((s0 = 1 ∧ tk (tDc tk b) = 24) ∨ (s0 = 0 ∧ tk (tDc tk b) ≠ 24)) → PX13_fieldOrMethod_75 m s0 G2 Q := fun s0 hs => by
        refine rty_ok hK hm h2' h0 (by omega) hs (by rw [w2 _ (by omega), x7 _ (by omega) (by omega) (by omega)]; exact h29) (by rw [w2 _ (by omega), x7 _ (by omega) (by omega) (by omega)]; exact h34) (by rw [w2 _ (by omega), x7 _ (by omega) (by omega) (by omega)]; exact h35) (fun G3 i3 h3 c1 c2 c3 => hQ G3 i3 h3 c1 (FR_tr f2 c2) (fun w => ?_))
        obtain ⟨u1, u2, u3⟩ := c3 w
        have keep := u3.2.2.2.2.2.2.2
        exact ⟨by omega, by omega, by rw [keep _ (by omega) (by omega) (by omega), w2 _ (by omega)]; exact x4, by rw [keep _ (by omega) (by omega) (by omega), w2 _ (by omega)]; exact x50, by rw [keep _ (by omega) (by omega) (by omega), v22]; exact x52, G2, by rw [w2 _ (by omega), x7 _ (by omega) (by omega) (by omega)], u3, fun c y1 y2 y3 => by rw [w2 c (by omega)]; exact x7 c y1 y2 y3⟩
      refine rWd hK h2' rfl wo28 (fun z => fun _ => ⟨fun u => absurd u (by decide), fun _ => go 1 (Or.inl ⟨rfl, z⟩)⟩) (fun z => fun _ => ⟨fun _ => ?_, fun u => absurd rfl u⟩)
      unfold PX13_fieldOrMethod_74
      exact go 0 (Or.inr ⟨rfl, z⟩)
    · have e : q1.1 ≠ 0 := fun e => y ((RM_fl h2).mpr e)
      rw [pb_n e] at sp
      unfold PX13_fieldOrMethod_74
      exact rty_bad hK hm h2 e (fun G3 h3 f3 => hQ G3 i (by rw [sp]; exact h3) (Int.le_refl _) (FR_tr f2 f3) (fun w => absurd (by rw [← sp]; exact w) e))
  -- behind static
  have fin : ∀ (G1 : gS) (q1 : RR), RM B s N 0 G1 q1 i → FR (XM s i m) G G1 → q1 = popt tk 22 b → G1 16119 m = b01 (tk b = 22) → (∀ c, 16116 ≤ c → c ≤ 16142 → c ≠ 16119 → G1 c m = G c m) → PX13_takesWord 31 G1 (fun r8 G7 => (0 ≤ r8 ∧ r8 ≤ 1) → ((0 : Int) ≤ m ∧ ((m : Int) < 7344 ∧ (∀ G12 : gS, G12 = uG G7 16120 m (r8) → ((0 : Int) ≤ m ∧ ((m : Int) < 7344 ∧ ((0 ≤ G12 16120 m ∧ G12 16120 m ≤ 1) → ((G12 16120 m = 0 → PX13_takesWord 39 G12 (fun r18 G17 => (0 ≤ r18 ∧ r18 ≤ 1) → ((r18 = 0 → PX13_fieldOrMethod_52 m 16122 m G17 Q) ∧ (¬ (r18 = 0) → PX13_fieldOrMethod_53 m 16122 m 1 G17 Q)))) ∧ (¬ (G12 16120 m = 0) → PX13_fieldOrMethod_52 m 16122 m G12 Q))))))))) := by
    intro G1 q1 x1 x2 x3 x4 x5
    refine rTakes hK x1 wo31 (fun e z G2 h2 f2 => fun _ => ⟨hm.1, hm.2, fun G3 e3 => ⟨hm.1, hm.2, fun _ => ?_⟩⟩) (fun z20 => fun _ => ⟨hm.1, hm.2, fun G3 e3 => ⟨hm.1, hm.2, fun _ => ?_⟩⟩)
    · rw [show G3 16120 m = 1 by rw [e3, uG_at]]
      refine ⟨fun u => absurd u (by decide), fun _ => ?_⟩
      have h3 : RM B s N 0 G3 (pb q1 ptake) i := by rw [e3]; exact RM_put2 h2 (by omega) (by omega)
      have w3 : ∀ c, 16116 ≤ c → c ≤ 16142 → c ≠ 16120 → G3 c m = G1 c m := fun c y1 y2 y3 => by rw [e3, uG_c y3, f2 c m (by unfold XR; omega)]
      unfold PX13_fieldOrMethod_52
      rw [x3] at e z h3
      have pq : pb (popt tk 22 b) ptake = pb (popt tk 22 b) (pfb tk) := by
        rw [pb_0 e, pb_0 e]
        exact (if_pos (Or.inl z)).symm
      refine typed G3 _ 0 h3 (by rw [e3]; exact XM_up (FR_tr x2 (XM_r (Int.le_refl _) f2)) (by omega) (by omega)) pq (by rw [w3 _ (by omega) (by omega) (by omega)]; exact x4) (fun _ => ⟨?_, ?_⟩) (by omega) (fun c y1 y2 y3 => by rw [w3 c y1 y2 (by omega), x5 c y1 y2 (by omega)])
      · rw [e3, uG_at]; unfold b01; rw [if_pos z]
      · unfold b01; rw [if_neg (by omega)]
    · rw [show G3 16120 m = 0 by rw [e3, uG_at]]
      have h3 : RM B s N 0 G3 q1 i := by rw [e3]; exact RM_put2 x1 (by omega) (by omega)
      have f3 : FR (XM s i m) G G3 := by rw [e3]; exact XM_up x2 (by omega) (by omega)
      have w3 : ∀ c, c ≠ 16120 → G3 c m = G1 c m := fun c y => by rw [e3, uG_c y]
      have v3 : G3 16120 m = 0 := by rw [e3, uG_at]
      refine ⟨fun _ => rTakes hK h3 wo39 (fun e z G4 h4 f4 => fun _ => ⟨fun u => absurd u (by decide), fun _ => ?_⟩) (fun z21 => fun _ => ⟨fun _ => ?_, fun u => absurd rfl u⟩), fun u => absurd rfl u⟩
      · have w4 : ∀ c, 16116 ≤ c → c ≤ 16142 → G4 c m = G3 c m := fun c y1 y2 => f4 c m (by unfold XR; omega)
        rw [x3] at e z h4
        have pq : pb (popt tk 22 b) ptake = pb (popt tk 22 b) (pfb tk) := by
          rw [pb_0 e, pb_0 e]
          exact (if_pos (Or.inr z)).symm
        refine typed G4 _ 1 h4 (FR_tr f3 (XM_r (Int.le_refl _) f4)) pq (by rw [w4 _ (by omega) (by omega), w3 _ (by omega)]; exact x4) (fun _ => ⟨?_, ?_⟩) (by omega) (fun c y1 y2 y3 => by rw [w4 c y1 y2, w3 c (by omega), x5 c y1 y2 (by omega)])
        · rw [w4 _ (by omega) (by omega), v3]; unfold b01; rw [if_neg (by omega)]
        · unfold b01; rw [if_pos z]
      · unfold PX13_fieldOrMethod_52
        rw [x3] at z20 z21 h3
        have pq : popt tk 22 b = pb (popt tk 22 b) (pfb tk) := by
          by_cases e : (popt tk 22 b).1 = 0
          · rw [pb_0 e]
            have : pfb tk (popt tk 22 b).2 = (0, (popt tk 22 b).2) := if_neg (fun u => u.elim (z20 e) (z21 e))
            rw [this]; exact Prod.ext e rfl
          · rw [pb_n e]
        refine typed G3 _ 0 h3 f3 pq (by rw [w3 _ (by omega)]; exact x4) (fun e => ⟨?_, ?_⟩) (by omega) (fun c y1 y2 y3 => by rw [w3 c (by omega), x5 c y1 y2 (by omega)])
        · rw [v3]; unfold b01; rw [if_neg (z20 e)]
        · unfold b01; rw [if_neg (z21 e)]
  unfold PX13_fieldOrMethod PX13_fieldOrMethod_0
  refine rTakes hK h wo42 (fun e z G1 h1 f1 => fun _ => ⟨hm.1, hm.2, fun G2 e2 => ?_⟩) (fun z => fun _ => ⟨hm.1, hm.2, fun G2 e2 => ?_⟩)
  · change tk b = 22 at z
    change RM B s N 0 G1 (ptake b) i at h1
    have sp : popt tk 22 b = ptake b := if_pos z
    refine fin G2 (ptake b) (by rw [e2]; exact RM_put2 h1 (by omega) (by omega)) (by rw [e2]; exact XM_up (XM_r (Int.le_refl _) f1) (by omega) (by omega)) sp.symm (by rw [e2, uG_at]; unfold b01; rw [if_pos z]) (fun c y1 y2 y3 => by rw [e2, uG_c y3, f1 c m (by unfold XR; omega)])
  · have z := z rfl
    change tk b ≠ 22 at z
    have sp : popt tk 22 b = (0, b) := if_neg z
    refine fin G2 (0, b) (by rw [e2]; exact RM_put2 h (by omega) (by omega)) (by rw [e2]; exact XM_up FR_id (by omega) (by omega)) sp.symm (by rw [e2, uG_at]; unfold b01; rw [if_neg z]) (fun c y1 y2 y3 => by rw [e2, uG_c y3])
end RP22

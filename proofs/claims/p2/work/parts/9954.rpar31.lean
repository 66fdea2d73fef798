section RP31
variable {B G G' : gS} {s N d i i' a m c j k : Int} {tk cd : Int → Int} {q r : RR}
theorem rkpar {J : JT} {Q : Int → gS → Prop} {r2 so l3 e : Int} (hK : TKp B s N tk cd) (hc : 0 ≤ c ∧ c < 216) (h : RM B s N d G (0, e) i) (h2 : G 16102 c = 0) (h7 : G 16107 c = 0) (hQ : ∀ l3 G', RM B s N d G' (pb (pparents tk e) (pneed tk 223)) i → FR (XH s i c) G G' → (∀ x, x = 16097 ∨ 16098 ≤ x ∧ x ≤ 16101 ∨ x = 16115 → ∀ y, G' x y = G x y) → ((pb (pparents tk e) (pneed tk 223)).1 = 0 → RhP B s tk c e G') → PX13_klass_405 J r2 so l3 c G' Q) : PX13_takesWord 33 G (fun r G1 => (0 ≤ r ∧ r ≤ 1) → ((r = 0 → PX13_klass_240 J r2 so l3 c G1 Q) ∧ (¬ (r = 0) → PX13_want 1 0 G1 (fun r1 G2 => inI r1 → PX13_nameAt r1 G2 (fun r2' G3 => inL r2' → ((0 : Int) ≤ c ∧ ((c : Int) < 216 ∧ ∀ G4 : gS, G4 = uG G3 16102 c r2' → PX13_placeAt r1 G4 (fun r3 G5 => inI r3 → ((0 : Int) ≤ c ∧ ((c : Int) < 216 ∧ ∀ G6 : gS, G6 = uG G5 16103 c r3 → PX13_klass_240 J r2 so r1 c G6 Q)))))))))) := by
  refine rname_st (K := fun r G => PX13_klass_240 J r2 so r c G Q) (w := 13) hK h wo33 hc (by omega) (fun l3 GA hA fA dA => ?_)
  unfold PX13_klass_240
  refine rlist_st (K := fun v G => PX13_klass_277 J r2 so l3 c 16106 c v G Q) (w := 12) hK hA wo34 aC16104 aC16105 (by omega) (by omega) (by omega) (fun v1 GB hB fB dB => ?_)
  unfold PX13_klass_277
  refine ⟨216, aC16106, hc.1, hc.2, fun GB' eB => ?_⟩
  have hB' : RM B s N d GB' (pb (pb (0, e) (pname1 tk 13)) (plist tk 12 4)) i := by rw [eB]; exact RM_put2 hB (by omega) (by omega)
  refine rname_st (K := fun r G => PX13_klass_319 J r2 so r c G Q) (w := 14) hK hB' wo35 hc (by omega) (fun l3 GC hC fC dC => ?_)
  unfold PX13_klass_319
  refine rlist_st (K := fun v G => PX13_klass_358 J r2 so l3 c 16111 c v G Q) (w := 15) hK hC wo36 aC16109 aC16110 (by omega) (by omega) (by omega) (fun v2 GD hD fD dD => ?_)
  unfold PX13_klass_358
  refine ⟨216, aC16111, hc.1, hc.2, fun GD' eD => ?_⟩
  have hD' := RM_put2 (c := 16111) (j := c) (v := v2) hD (by omega) (by omega)
  rw [← eD] at hD'
  refine rlist_st (K := fun v G => PX13_klass_398 J r2 so l3 c 16114 c v G Q) (w := 16) hK hD' wo37 aC16112 aC16113 (by omega) (by omega) (by omega) (fun v3 GE hE fE dE => ?_)
  unfold PX13_klass_398
  refine ⟨216, aC16114, hc.1, hc.2, fun GE' eE => ?_⟩
  have hE' := RM_put2 (c := 16114) (j := c) (v := v3) hE (by omega) (by omega)
  rw [← eE] at hE'
  refine rWantSign (k := 223) hK hE' (Or.inl ⟨by unfold sg; omega, rfl⟩) (fun GF hF fF => ?_)
  have sp : pb (pb (pb (pb (pb (pb ((0 : Int), e) (pname1 tk 13)) (plist tk 12 4)) (pname1 tk 14)) (plist tk 15 8)) (plist tk 16 8)) (pneed tk 223) = pb (pparents tk e) (pneed tk 223) := by
    congr 1
    rw [pb_pb, pb_pb, pb_pb, pb_pb]
    rfl
  have kF : ∀ x y, 16095 ≤ x → x < 16143 → GF x y = GE' x y := fun x y u1 u2 => fF x y (by unfold XR; omega)
  have kE : ∀ x y, 16095 ≤ x → x < 16143 → ¬ (16112 ≤ x ∧ x ≤ 16114) → GF x y = GD' x y := fun x y u1 u2 u3 => by rw [kF x y u1 u2, eE, uG_c (by omega), fE x y (by unfold XLs XR; omega)]
  have kD : ∀ x y, 16095 ≤ x → x < 16143 → ¬ (16109 ≤ x ∧ x ≤ 16114) → GF x y = GC x y := fun x y u1 u2 u3 => by rw [kE x y u1 u2 (by omega), eD, uG_c (by omega), fD x y (by unfold XLs XR; omega)]
  have kC : ∀ x y, 16095 ≤ x → x < 16143 → ¬ (16107 ≤ x ∧ x ≤ 16114) → GF x y = GB' x y := fun x y u1 u2 u3 => by rw [kD x y u1 u2 (by omega), fC x y (by unfold XR; omega)]
  have kB : ∀ x y, 16095 ≤ x → x < 16143 → ¬ (16104 ≤ x ∧ x ≤ 16114) → GF x y = GA x y := fun x y u1 u2 u3 => by rw [kC x y u1 u2 (by omega), eB, uG_c (by omega), fB x y (by unfold XLs XR; omega)]
  have kA : ∀ x y, 16095 ≤ x → x < 16143 → ¬ (16102 ≤ x ∧ x ≤ 16114) → GF x y = G x y := fun x y u1 u2 u3 => by rw [kB x y u1 u2 (by omega), fA x y (by unfold XR; omega)]
  refine hQ l3 GF (by rw [← sp]; exact hF) ?_ (fun x y z => kA x z (by omega) (by omega) (by omega)) (fun w => ?_)
  · have x1 : FR (XH s i c) G GA := FR_mono (fun x y u => by unfold XH; rcases u with u | u | u; exact Or.inl u; exact Or.inr (by omega); exact Or.inr (by omega)) fA
    have x2 : FR (XH s i c) GA GB := FR_mono (fun x y u => by unfold XLs at u; unfold XH; rcases u with u | u; exact Or.inl u; exact Or.inr (by omega)) fB
    have x3 : FR (XH s i c) GB' GC := FR_mono (fun x y u => by unfold XH; rcases u with u | u | u; exact Or.inl u; exact Or.inr (by omega); exact Or.inr (by omega)) fC
    have x4 : FR (XH s i c) GC GD := FR_mono (fun x y u => by unfold XLs at u; unfold XH; rcases u with u | u; exact Or.inl u; exact Or.inr (by omega)) fD
    have x5 : FR (XH s i c) GD' GE := FR_mono (fun x y u => by unfold XLs at u; unfold XH; rcases u with u | u; exact Or.inl u; exact Or.inr (by omega)) fE
    have x6 : FR (XH s i c) GE' GF := FR_mono (fun x y u => Or.inl u) fF
    have y2 : FR (XH s i c) GB GB' := by rw [eB]; exact FR_up FR_id (by unfold XH; omega)
    have y4 : FR (XH s i c) GD GD' := by rw [eD]; exact FR_up FR_id (by unfold XH; omega)
    have y5 : FR (XH s i c) GE GE' := by rw [eE]; exact FR_up FR_id (by unfold XH; omega)
    exact FR_tr x1 (FR_tr x2 (FR_tr y2 (FR_tr x3 (FR_tr x4 (FR_tr y4 (FR_tr x5 (FR_tr y5 x6)))))))
  · rw [← sp] at w
    have w5 := (pb_z w).1
    have w4 := (pb_z w5).1
    have w3 := (pb_z w4).1
    have w2 := (pb_z w3).1
    have w1 := (pb_z w2).1
    have p1 : (pb ((0 : Int), e) (pname1 tk 13)).2 = qa1 tk e := rfl
    have p2 : (pb (pb ((0 : Int), e) (pname1 tk 13)) (plist tk 12 4)).2 = qa2 tk e := by rw [pb_0 w1]; rfl
    have p3 : (pb (pb (pb ((0 : Int), e) (pname1 tk 13)) (plist tk 12 4)) (pname1 tk 14)).2 = qa3 tk e := by rw [pb_0 w2, p2]; rfl
    have p4 : (pb (pb (pb (pb ((0 : Int), e) (pname1 tk 13)) (plist tk 12 4)) (pname1 tk 14)) (plist tk 15 8)).2 = qa4 tk e := by rw [pb_0 w3, p3]; rfl
    obtain ⟨a1, a2⟩ := dA w1
    obtain ⟨b1, b2⟩ := dB w2
    obtain ⟨c1, c2⟩ := dC w3
    obtain ⟨d1, d2⟩ := dD w4
    obtain ⟨e1, e2⟩ := dE w5
    change tk e = 13 → _ at a1
    change tk e ≠ 13 → _ at a2
    rw [p1] at b1 b2
    rw [p2] at c1 c2
    rw [p3] at d1 d2
    rw [p4] at e1 e2
    have m2 := (pb_z w2).2
    rw [p1] at m2
    have m4 := (pb_z w4).2
    rw [p3] at m4
    have m5 := (pb_z w5).2
    rw [p4] at m5
    refine ⟨⟨?_, fun z => ?_⟩, ⟨?_, lLst_most (by omega) m2, fun y y0 y1 => ?_⟩, ⟨?_, fun z => ?_⟩, ⟨?_, lLst_most (by omega) m4, fun y y0 y1 => ?_⟩, ⟨?_, lLst_most (by omega) m5, fun y y0 y1 => ?_⟩⟩
    · rw [kB _ _ (by omega) (by omega) (by omega)]
      split
      · rename_i z; exact (a1 z).1
      · rename_i z; rw [a2 z]; exact h2
    · rw [kB _ _ (by omega) (by omega) (by omega)]; exact (a1 z).2
    · rw [kC _ _ (by omega) (by omega) (by omega), eB, uG_at]; exact b1
    · rw [kC _ _ (by omega) (by omega) (by omega), kC _ _ (by omega) (by omega) (by omega), eB, uG_c (by omega), uG_c (by omega)]; exact b2 y y0 y1
    · rw [kD _ _ (by omega) (by omega) (by omega)]
      split
      · rename_i z; exact (c1 z).1
      · rename_i z
        rw [c2 z, eB, uG_c (by omega), fB _ _ (by unfold XLs XR; omega), fA _ _ (by unfold XR; omega)]; exact h7
    · rw [kD _ _ (by omega) (by omega) (by omega)]; exact (c1 z).2
    · rw [kE _ _ (by omega) (by omega) (by omega), eD, uG_at]; exact d1
    · rw [kE _ _ (by omega) (by omega) (by omega), kE _ _ (by omega) (by omega) (by omega), eD, uG_c (by omega), uG_c (by omega)]; exact d2 y y0 y1
    · rw [kF _ _ (by omega) (by omega), eE, uG_at]; exact e1
    · rw [kF _ _ (by omega) (by omega), kF _ _ (by omega) (by omega), eE, uG_c (by omega), uG_c (by omega)]; exact e2 y y0 y1
end RP31

section RP14
variable {B G G' : gS} {s N d i i' a : Int} {tk cd : Int → Int} {q r : RR} {R : JT} {T S Bk : TT} {eE sS bB : Int → RR}
theorem wo27 : wordOf 27 26 := wo 27 26 (by decide +kernel) (by decide +kernel)
theorem wo48 : wordOf 48 27 := wo 48 27 (by decide +kernel) (by decide +kernel)
theorem wo49 : wordOf 49 28 := wo 49 28 (by decide +kernel) (by decide +kernel)
theorem wo50 : wordOf 50 30 := wo 50 30 (by decide +kernel) (by decide +kernel)
theorem wo51 : wordOf 51 31 := wo 51 31 (by decide +kernel) (by decide +kernel)
theorem wo52 : wordOf 52 32 := wo 52 32 (by decide +kernel) (by decide +kernel)
theorem wo53 : wordOf 53 33 := wo 53 33 (by decide +kernel) (by decide +kernel)
theorem wo54 : wordOf 54 35 := wo 54 35 (by decide +kernel) (by decide +kernel)
theorem wo55 : wordOf 55 29 := wo 55 29 (by decide +kernel) (by decide +kernel)
theorem wo56 : wordOf 56 34 := wo 56 34 (by decide +kernel) (by decide +kernel)
theorem rTypeTok {Q : Int → gS → Prop} (hK : TKp B s N tk cd) (h : RM B s N d G q i) (hQ : ∀ v G', RM B s N d G' (pb q (ptype tk)) i → FR (XR s i) G G' → ((pb q (ptype tk)).1 = 0 → v = rType B s tk q.2) → Q v G') : PX13_typeToken G Q := by
  unfold PX13_typeToken PX13_typeToken_0 PX13_typeToken_38
  refine rTakes hK h wo27 (fun e z G1 hR1 f1 => fun _ => ⟨fun y => absurd y (by decide), fun _ => hQ 2 G1 ?_ f1 (fun _ => ?_)⟩) (fun z => fun _ => ⟨fun _ => rWant (k := 2) hK h (Or.inl ⟨rfl, rfl⟩) (fun r G1 r0 r1 r2 hR1 f1 => fun _ => ?_), fun y => absurd rfl y⟩)
  · rw [pb_0 e] at hR1 ⊢
    unfold ptype
    rw [if_pos (Or.inl z)]; exact hR1
  · unfold rType; rw [if_pos z]
  · have sp : pb q (pneed tk 2) = pb q (ptype tk) := by
      by_cases e : q.1 = 0
      · rw [pb_0 e, pb_0 e]
        unfold pneed ptype
        by_cases y : tk q.2 = 2
        · rw [if_pos y, if_pos (Or.inr y)]
        · rw [if_neg y, if_neg (fun u => u.elim (z e) y)]
      · rw [pb_n e, pb_n e]
    rw [sp] at hR1
    refine fun _ => ⟨fun y => rName hK hR1.1 r0 r1 (fun _ => hQ _ G1 hR1 f1 (fun w => ?_)), fun y => hQ _ G1 hR1 f1 (fun w => absurd ((RM_fl hR1).mpr w) y)⟩
    have e := (pb_z w).1
    unfold rType
    rw [if_neg (z e), r2 e]; rfl
theorem ptype_l : ∀ b, b ≤ (ptype tk b).2 := fun b => by
  unfold ptype
  split
  · exact (ptake_le).1
  · exact pmiss_l b
theorem ptype_1 {b : Int} (h : (ptype tk b).1 = 0) : (ptype tk b).2 = b + 1 := by
  unfold ptype at h ⊢
  split at h
  · next z => rw [if_pos z]; exact (ptake_le).2.2 h
  · exact absurd h (pmiss_ne _)
/-- an E and its ; behind node v, made last, into its A -/
theorem rE_semi {G0 : gS} {Q Kt : Int → gS → Prop} {v : Int} (hKt : ∀ r G1, (∀ G2 : gS, G2 = uG G1 16151 v r → PX13_wantSign 59 G2 (fun _ G3 => Q v G3)) → Kt r G1) (hK : TKp B s N tk cd) (hE : SRe R B s N d 1 T eE) (hT : RTF s T) (hel : ∀ b, b ≤ (eE b).2) (h : RM B s N d G q (i + 1)) (h0 : 0 ≤ i) (f0 : FR (XR s i) G0 G) (hv : v = s * 1700 + i) (hq : a ≤ q.2) (hq2 : q.1 = 0 → a < q.2) (hi : i ≤ a + 2)
    (hQ : ∀ G' i', RM B s N d G' (pb (pb q eE) (pneed tk 159)) i' → i + 1 ≤ i' → FR (XR s i) G0 G' → a ≤ (pb (pb q eE) (pneed tk 159)).2 → i' ≤ i + ((pb (pb q eE) (pneed tk 159)).2 - a) + 2 → (∀ c, 16144 ≤ c → c ≠ 16151 → G' c v = G c v) → ((pb (pb q eE) (pneed tk 159)).1 = 0 → i' ≤ i + ((pb (pb q eE) (pneed tk 159)).2 - a) ∧ a < (pb (pb q eE) (pneed tk 159)).2 ∧ T (i + 1) i' (G' 16151 v) q.2 G') → Q v G') : R 1 [] G Kt := by
  have hs0 := hK.1
  have hs1 := hK.2.1
  have haN := hK.2.2.2.2.1
  have hqN := h.2.2.1
  refine hE G q (i + 1) _ h (by omega) (fun e => by have := hq2 e; omega) (fun r G1 i1 hR hC => hKt r G1 (fun G2 e2 => ?_))
  obtain ⟨c1, c2, c3, c4, c5, c6⟩ := hC
  subst hv
  have hR2 : RM B s N d G2 (pb q eE) i1 := by rw [e2]; exact RM_put hR (by omega)
  refine rWantSign (k := 159) hK hR2 (Or.inl ⟨by unfold sg; omega, rfl⟩) (fun G3 hR3 f3 => ?_)
  have l3 : (pb q eE).2 ≤ (pb (pb q eE) (pneed tk 159)).2 := pb_le2 (pneed_l _)
  have w3 : ∀ c j, 16144 ≤ c → c ≤ 16162 → s * 1700 ≤ j → j < s * 1700 + i1 → G3 c j = G2 c j := fun c j y1 y2 y3 y4 => f3 c j (by unfold XR; omega)
  refine hQ G3 i1 hR3 c1 ?_ (by omega) ?_ (fun c x y => ?_) (fun e => ?_)
  · exact FR_tr f0 (FR_tr (FR_XR (by omega) c2) (FR_tr (by rw [e2]; exact FR_up FR_id (by unfold XR; omega)) (FR_XR (by omega) f3)))
  · by_cases eq : q.1 = 0
    · have := hq2 eq
      omega
    · have := c3 eq
      omega
  · rw [f3 _ _ (by unfold XR; omega), e2, uG_c y]; exact XR_n c2 (by omega) x
  · obtain ⟨e1, e3⟩ := pb_z e
    obtain ⟨u1, u2, u3, u4⟩ := c6 e1
    have eq := (pb_z e1).1
    have := hq2 eq
    have e5 := ((pneed_le).2.2 e3).1
    have e6 : (pb (pb q eE) (pneed tk 159)).2 = (pb q eE).2 + 1 := by rw [pb_0 e1, e5]
    refine ⟨by omega, by omega, ?_⟩
    rw [w3 _ _ (by omega) (by omega) (by omega) (by omega), show G2 16151 (s * 1700 + i) = r by rw [e2, uG_at]]
    exact hT _ _ _ _ _ _ u3 (fun c j x1 x2 x3 x4 _ => by rw [w3 c j x1 (by omega) (by omega) x4, e2, uG_ne (by omega)])
theorem rlet_ok {Q : Int → gS → Prop} {G0 : gS} (hK : TKp B s N tk cd) (hE : SRe (Rq8 200) B s N d 1 T eE) (hT : RTF s T) (hel : ∀ b, b ≤ (eE b).2) (h : RM B s N d G (ptake a) i) (f0 : FR (XR s i) G0 G) (ha0 : 0 ≤ a) (h0 : 0 ≤ i) (hi : i ≤ a + 2)
    (hQ : ∀ G' i', RM B s N d G' (pb (ptake a) (pworded tk eE sS bB 27)) i' → RFs s G0 G' (0, a) (pb (ptake a) (pworded tk eE sS bB 27)) i i' (rLetT B s tk T i i' (s * 1700 + i) a G' ∧ G' 16145 (s * 1700 + i) = plR B s a ∧ G' 16154 (s * 1700 + i) = -2) → Q (s * 1700 + i) G') : PX13_node 21 (B 16091 (s * 702 + a)) G (fun r90 G89 => inI r90 → (inI (G89 16081 22) → PX13_placeAt (G89 16081 22) G89 (fun r94 G93 => inI r94 → ((0 : Int) ≤ r90 ∧ ((r90 : Int) < 30600 ∧ (∀ G98 : gS, G98 = uG G93 16147 r90 (r94) → PX13_typeToken G98 (fun r100 G99 => inL r100 → ((0 : Int) ≤ r90 ∧ ((r90 : Int) < 30600 ∧ (∀ G104 : gS, G104 = uG G99 16150 r90 (r100) → PX13_want 2 0 G104 (fun r106 G105 => inI r106 → PX13_nameAt r106 G105 (fun r109 G108 => inL r109 → ((0 : Int) ≤ r90 ∧ ((r90 : Int) < 30600 ∧ (∀ G113 : gS, G113 = uG G108 16148 r90 (r109) → PX13_placeAt r106 G113 (fun r115 G114 => inI r115 → ((0 : Int) ≤ r90 ∧ ((r90 : Int) < 30600 ∧ (∀ G119 : gS, G119 = uG G114 16146 r90 (r115) → PX13_wantSign 61 G119 (fun _ G120 => Rq8 200 1 [] G120 (fun r123 G122 => inI r123 → ((0 : Int) ≤ r90 ∧ ((r90 : Int) < 30600 ∧ (∀ G127 : gS, G127 = uG G122 16151 r90 (r123) → PX13_wantSign 59 G127 (fun _ G128 => Q (r90) G128))))))))))))))))))))))))) := by
  have hs0 := hK.1
  have hs1 := hK.2.1
  have hN := hK.2.2.2.2.1
  have haN := h.2.2.1
  have tl := ptake_le (a := a)
  have spec : pb (ptake a) (pworded tk eE sS bB 27) = pb (pb (pb (pb (pb (ptake a) (ptype tk)) (pneed tk 3)) (pneed tk 161)) eE) (pneed tk 159) := by
    rw [pb_pb, pb_pb, pb_pb, pb_pb]; rfl
  rw [spec] at hQ
  clear spec
  refine rNode hK h h0 (by omega) (fun G1 n1 hR1 f1 => fun _ => ?_)
  obtain ⟨m0, m1, m2, m3, m4, m5, m6, m7, m8, m9, m10, m11, m12, m13⟩ := n1
  rw [RM_pp hR1]
  refine fun _ => rPlace hK hR1.1 (by omega) (by omega) (fun _ => ⟨by omega, by omega, fun G2 e2 => ?_⟩)
  have hR2 : RM B s N d G2 (ptake a) (i + 1) := by rw [e2]; exact RM_put hR1 (by omega)
  refine rTypeTok hK hR2 (fun t G3 hR3 f3 ht => fun _ => ⟨by omega, by omega, fun G4 e4 => ?_⟩)
  have hR4 : RM B s N d G4 (pb (ptake a) (ptype tk)) (i + 1) := by rw [e4]; exact RM_put hR3 (by omega)
  refine rWant (k := 3) hK hR4 (Or.inr ⟨rfl, rfl⟩) (fun r5 G5 r0 r1 r2 hR5 f5 => fun _ => rName hK hR5.1 r0 r1 (fun _ => ⟨by omega, by omega, fun G6 e6 => ?_⟩))
  have hR6 : RM B s N d G6 (pb (pb (ptake a) (ptype tk)) (pneed tk 3)) (i + 1) := by rw [e6]; exact RM_put hR5 (by omega)
  refine rPlace hK hR6.1 r0 r1 (fun _ => ⟨by omega, by omega, fun G7 e7 => ?_⟩)
  have hR7 : RM B s N d G7 (pb (pb (ptake a) (ptype tk)) (pneed tk 3)) (i + 1) := by rw [e7]; exact RM_put hR6 (by omega)
  refine rWantSign (k := 161) hK hR7 (Or.inl ⟨by unfold sg; omega, rfl⟩) (fun G8 hR8 f8 => ?_)
  have l1 : (ptake a).2 ≤ (pb (ptake a) (ptype tk)).2 := pb_le2 ptype_l
  have l2 : (pb (ptake a) (ptype tk)).2 ≤ (pb (pb (ptake a) (ptype tk)) (pneed tk 3)).2 := pb_le2 (pneed_l _)
  have l3 : (pb (pb (ptake a) (ptype tk)) (pneed tk 3)).2 ≤ (pb (pb (pb (ptake a) (ptype tk)) (pneed tk 3)) (pneed tk 161)).2 := pb_le2 (pneed_l _)
  have good : (pb (pb (pb (ptake a) (ptype tk)) (pneed tk 3)) (pneed tk 161)).1 = 0 → (ptake a).2 = a + 1 ∧ (pb (ptake a) (ptype tk)).1 = 0 ∧ (pb (ptake a) (ptype tk)).2 = a + 2 ∧ (pb (pb (pb (ptake a) (ptype tk)) (pneed tk 3)) (pneed tk 161)).2 = a + 4 := fun e => by
    obtain ⟨e1, e2⟩ := pb_z e
    obtain ⟨e3, e4⟩ := pb_z e1
    obtain ⟨e5, e6⟩ := pb_z e3
    have u1 := tl.2.2 e5
    have u2 : (pb (ptake a) (ptype tk)).2 = a + 2 := by rw [pb_0 e5, ptype_1 e6, u1]; omega
    have u3 : (pb (pb (ptake a) (ptype tk)) (pneed tk 3)).2 = a + 3 := by rw [pb_0 e3, ((pneed_le).2.2 e4).1, u2]; omega
    exact ⟨u1, e3, u2, by rw [pb_0 e1, ((pneed_le).2.2 e2).1, u3]; omega⟩
  have v : ∀ c, 16144 ≤ c → c ≠ 16146 → c ≠ 16147 → c ≠ 16148 → c ≠ 16150 → G8 c (s * 1700 + i) = G1 c (s * 1700 + i) := fun c x y1 y2 y3 y4 => by
    rw [XR_n f8 (by omega) x, e7, uG_c y1, e6, uG_c y3, XR_n f5 (by omega) x, e4, uG_c y4, XR_n f3 (by omega) x, e2, uG_c y2]
  have v46 : G8 16146 (s * 1700 + i) = B 16091 (s * 702 + r5) := by rw [XR_n f8 (by omega) (by omega), e7, uG_at]
  have v48 : G8 16148 (s * 1700 + i) = B 16093 (s * 702 + r5) := by rw [XR_n f8 (by omega) (by omega), e7, uG_c (by omega), e6, uG_at]
  have v50 : G8 16150 (s * 1700 + i) = t := by rw [XR_n f8 (by omega) (by omega), e7, uG_c (by omega), e6, uG_c (by omega), XR_n f5 (by omega) (by omega), e4, uG_at]
  have v47 : G8 16147 (s * 1700 + i) = B 16091 (s * 702 + (ptake a).2) := by rw [XR_n f8 (by omega) (by omega), e7, uG_c (by omega), e6, uG_c (by omega), XR_n f5 (by omega) (by omega), e4, uG_c (by omega), XR_n f3 (by omega) (by omega), e2, uG_at]
  have f08 : FR (XR s i) G0 G8 := by
    refine FR_tr f0 (FR_tr f1 (FR_tr (by rw [e2]; exact FR_up FR_id (by unfold XR; omega)) (FR_tr (FR_XR (by omega) f3) (FR_tr (by rw [e4]; exact FR_up FR_id (by unfold XR; omega)) (FR_tr (FR_XR (by omega) f5) (FR_tr (by rw [e7, e6]; exact FR_up (FR_up FR_id (by unfold XR; omega)) (by unfold XR; omega)) (FR_XR (by omega) f8)))))))
  refine rE_semi (a := a) (Q := Q) (fun r G1 hr => fun _ => ⟨by omega, by omega, hr⟩) hK hE hT hel hR8 h0 f08 rfl (by omega) (fun e => by have := good e; omega) hi (fun G' i' x1 x2 x3 x4 x5 x6 x7 => hQ G' i' x1 ⟨by omega, x3, fun y => absurd rfl y, x4, x5, fun w => ?_⟩)
  obtain ⟨w1, w2, w3⟩ := x7 w
  obtain ⟨g1, g2, g3, g4⟩ := good (pb_z (pb_z w).1).1
  rw [g4] at w3
  have hr5 : r5 = a + 2 := by rw [r2 g2, g3]
  have ht' := ht g2
  rw [g1] at ht'
  refine ⟨w1, w2, ⟨rfl, by omega, by rw [x6 _ (by omega) (by omega), v _ (by omega) (by omega) (by omega) (by omega) (by omega)]; exact m1, by rw [x6 _ (by omega) (by omega), v47, g1]; rfl, by rw [x6 _ (by omega) (by omega), v50]; exact ht', by rw [x6 _ (by omega) (by omega), v48, hr5]; rfl, by rw [x6 _ (by omega) (by omega), v46, hr5]; rfl, w3⟩, by rw [x6 _ (by omega) (by omega), v _ (by omega) (by omega) (by omega) (by omega) (by omega)]; exact m2, by rw [x6 _ (by omega) (by omega), v _ (by omega) (by omega) (by omega) (by omega) (by omega)]; exact m11⟩
end RP14

section RP32
variable {B G G' : gS} {s N d i i' a m c j k h0 : Int} {tk cd : Int → Int} {q r : RR}
theorem RhP_F {e : Int} (h : RhP B s tk c e G) (f : ∀ x y, 16102 ≤ x → x ≤ 16114 → G' x y = G x y) : RhP B s tk c e G' := by
  obtain ⟨⟨a1, a2⟩, ⟨b1, b2, b3⟩, ⟨c1, c2⟩, ⟨d1, d2, d3⟩, ⟨e1, e2, e3⟩⟩ := h
  refine ⟨⟨by rw [f _ _ (by omega) (by omega)]; exact a1, by rw [f _ _ (by omega) (by omega)]; exact a2⟩, ⟨by rw [f _ _ (by omega) (by omega)]; exact b1, b2, fun y y0 y1 => by rw [f _ _ (by omega) (by omega), f _ _ (by omega) (by omega)]; exact b3 y y0 y1⟩, ⟨by rw [f _ _ (by omega) (by omega)]; exact c1, by rw [f _ _ (by omega) (by omega)]; exact c2⟩, ⟨by rw [f _ _ (by omega) (by omega)]; exact d1, d2, fun y y0 y1 => by rw [f _ _ (by omega) (by omega), f _ _ (by omega) (by omega)]; exact d3 y y0 y1⟩, ⟨by rw [f _ _ (by omega) (by omega)]; exact e1, e2, fun y y0 y1 => by rw [f _ _ (by omega) (by omega), f _ _ (by omega) (by omega)]; exact e3 y y0 y1⟩⟩
/-- a class that the reference has read -/
def RcP (B : gS) (s : Int) (tk : Int → Int) (c a h0 i : Int) (G : gS) : Prop := G 16098 c = nmR B s (hC0 tk a + 1) ∧ G 16099 c = plR B s (hC0 tk a + 1) ∧ G 16100 c = b01 (tk a = 17) ∧ G 16101 c = srt tk a ∧ RhP B s tk c (hC0 tk a + 2) G ∧ G 16115 c = nIt tk h0 ∧ nIt tk h0 ≤ 20 ∧ RIt B s tk (srt tk a) c h0 i (nIt tk h0) G
def XKl (s i c x y : Int) : Prop := XJ s i c x y ∨ XH s i c x y
def XKk (s i k c x y : Int) : Prop := XR s i x y ∨ (k < 12 ∧ XKl s i c x y)
theorem pq3_z (h : (pq3 tk a).1 = 0) : (pq3 tk a).2 = hC0 tk a + 1 ∧ a ≤ hC0 tk a := by
  unfold pq3 at h ⊢
  obtain ⟨x1, x2⟩ := pb_z h
  obtain ⟨x3, x4⟩ := pb_z x2
  rw [pb_0 x1, pb_0 x3]
  have hB := popt_le (tk := tk) (w := 17) a
  have hC := pfb_le (tk := tk) (popt tk 17 a).2
  have eC : hC0 tk a = (pfb tk (popt tk 17 a).2).2 := rfl
  rw [eC]
  unfold pcl at x4 ⊢
  split at x4
  · rename_i z
    rw [if_pos z]
    exact ⟨(ptake_le).2.2 x4, by omega⟩
  · exact absurd x4 (pmiss_ne _)
theorem pwl_z {l b : Int} (h : (pwl tk l b).1 = 0) : (pwl tk l b).2 = b + 1 := by
  unfold pwl at h ⊢
  split at h
  · rename_i z
    rw [if_pos z]
    split at h
    · rename_i z2
      rw [if_pos z2]
      exact (ptake_le).2.2 h
    · exact absurd h (by show (3 : Int) ≠ 0; decide)
  · exact absurd h (pmiss_ne _)
theorem pname1_le {w : Int} (b : Int) : b ≤ (pname1 tk w b).2 := by
  unfold pname1
  split
  · refine Int.le_trans (ptake_le (a := b)).1 (pb_le2 (fun x => ?_))
    split
    · exact (ptake_le).1
    · exact pmiss_l x
  · exact Int.le_refl _
theorem plistL_le {most : Int} : ∀ (f : Nat) (k b : Int), b ≤ (plistL tk most f k b).2
  | 0, _, _ => Int.le_refl _
  | f + 1, k, b => by
    show b ≤ (pb (ptake b) fun b => if tk b = 2 then (if k < most then pb (ptake b) fun c => if tk c = 144 then plistL tk most f (k + 1) c else (0, c) else (3, b)) else pmiss tk b).2
    refine Int.le_trans (ptake_le (a := b)).1 (pb_le2 (fun x => ?_))
    split
    · split
      · refine Int.le_trans (ptake_le (a := x)).1 (pb_le2 (fun y => ?_))
        split
        · exact plistL_le f _ y
        · exact Int.le_refl _
      · exact Int.le_refl _
    · exact pmiss_l x
theorem plist_le {w most : Int} (b : Int) : b ≤ (plist tk w most b).2 := by
  unfold plist
  split
  · exact plistL_le _ _ _
  · exact Int.le_refl _
theorem pparents_le (b : Int) : b ≤ (pparents tk b).2 := by
  unfold pparents
  exact Int.le_trans (pname1_le b) (pb_le2 (fun x => Int.le_trans (plist_le x) (pb_le2 (fun y => Int.le_trans (pname1_le y) (pb_le2 (fun z => Int.le_trans (plist_le z) (pb_le2 (fun w => plist_le w))))))))
theorem rklass_ok {Q : Int → gS → Prop} (hK : TKp B s N tk cd) (h : RM B s N 0 G (0, a) i) (hi0 : 0 ≤ i) (hia : i ≤ a + 2) (hk : G 16097 s = k ∧ 0 ≤ k ∧ k ≤ 12) (hQ : ∀ G' i', RM B s N 0 G' (pb (phead tk 12 k a) (pitems tk 22 0)) i' → i ≤ i' → FR (XKk s i k (s * 12 + k)) G G' → ((pb (phead tk 12 k a) (pitems tk 22 0)).1 = 0 → i' ≤ i + ((pb (phead tk 12 k a) (pitems tk 22 0)).2 - a) ∧ a < (pb (phead tk 12 k a) (pitems tk 22 0)).2 ∧ k < 12 ∧ G' 16097 s = k + 1 ∧ RcP B s tk (s * 12 + k) a (hIt tk k a) i' G') → Q 0 G') : PX13_klass G Q := by
  have hs0 := hK.1
  have hs1 := hK.2.1
  obtain ⟨c, ec⟩ : ∃ c, c = s * 12 + k := ⟨_, rfl⟩
  rw [← ec] at hQ
  unfold PX13_klass
  refine ⟨100, by omega, rkfront hK h (fun r2 so G1 h1 f1 er es => ?_)⟩
  have k1 : G1 16097 s = k := by rw [f1 _ _ (by unfold XR; omega)]; exact hk.1
  have one : ∀ l : Int, ((l = 1 ∧ k = 12) ∨ (l = 0 ∧ k ≠ 12)) → PX13_klass_91 (PX13_klass_J 100) r2 so 16081 1 l G1 Q := fun l hl => by
    have sp := phead_q3 (tk := tk) (a := a) (k := k) (l := l) (by omega)
    unfold PX13_klass_91
    refine ⟨oC13, rWantL hK h1 (fun G2 h2 f2 => fun _ => fun _ => ⟨fun y => ?_, fun y => ?_⟩)⟩
    · have e := (RM_fl h2).mp y
      obtain ⟨e1, e2⟩ := pb_z e
      obtain ⟨p1, p2⟩ := pq3_z e1
      have p3 : (pb (pq3 tk a) (pwl tk l)).2 = hC0 tk a + 2 := by rw [pb_0 e1, pwl_z e2, p1]; omega
      have hk12 : k < 12 := by
        have l0 : l = 0 := by
          unfold pwl at e2
          split at e2
          · split at e2
            · assumption
            · exact absurd e2 (by show (3 : Int) ≠ 0; decide)
          · exact absurd e2 (pmiss_ne _)
        omega
      have hc : 0 ≤ c ∧ c < 216 := by omega
      rw [pb_0 e, p3] at sp
      have k2 : G2 16097 s = k := by rw [f2 _ _ (by unfold XR; omega)]; exact k1
      rw [h2.1.1, k2, ← ec]
      refine fun _ => fun _ => ⟨by omega, by omega, fun _ => ⟨by unfold inI; omega, fun _ => ⟨by omega, by omega, fun _ => ⟨by omega, by omega, by unfold inI; omega, fun G3 e3 => ?_⟩⟩⟩⟩
      have h3 : RM B s N 0 G3 (pb (pq3 tk a) (pwl tk l)) i := by rw [e3]; exact RM_put2 h2 (by omega) (by omega)
      refine rName hK h3.1 h1.2.1 h1.2.2.1 (fun _ => ⟨hc.1, hc.2, fun G4 e4 => ?_⟩)
      have h4 : RM B s N 0 G4 (pb (pq3 tk a) (pwl tk l)) i := by rw [e4]; exact RM_put2 h3 (by omega) (by omega)
      refine rPlace hK h4.1 h1.2.1 h1.2.2.1 (fun _ => ⟨hc.1, hc.2, fun G5 e5 => ⟨hc.1, hc.2, by rw [er]; exact b01_le _, fun G6 e6 => ⟨hc.1, hc.2, fun G7 e7 => ⟨hc.1, hc.2, fun G8 e8 => ⟨hc.1, hc.2, fun G9 e9 => ⟨hc.1, hc.2, fun G10 e10 => ?_⟩⟩⟩⟩⟩⟩)
      have h10 : RM B s N 0 G10 (0, hC0 tk a + 2) i := by
        refine RM_eq (q := pb (pq3 tk a) (pwl tk l)) ?_ e p3
        rw [e10, e9, e8, e7, e6, e5]
        exact RM_put2 (RM_put2 (RM_put2 (RM_put2 (RM_put2 (RM_put2 h4 (by omega) (by omega)) (by omega) (by omega)) (by omega) (by omega)) (by omega) (by omega)) (by omega) (by omega)) (by omega) (by omega)
      have f10 : FR (XH s i c) G G10 := by
        rw [e10, e9, e8, e7, e6, e5, e4, e3]
        refine FR_up (FR_up (FR_up (FR_up (FR_up (FR_up (FR_up (FR_up (FR_mono (fun _ _ u => Or.inl u) (FR_tr f1 f2)) ?_) ?_) ?_) ?_) ?_) ?_) ?_) ?_ <;> (unfold XH; omega)
      have v97 : G10 16097 s = k + 1 := by simp (disch := omega) only [e10, e9, e8, e7, e6, e5, e4, e3, uG_at, uG_c]
      have v98 : G10 16098 c = nmR B s (hC0 tk a + 1) := by
        simp (disch := omega) only [e10, e9, e8, e7, e6, e5, e4, uG_at, uG_c]
        rw [p1]; rfl
      have v99 : G10 16099 c = plR B s (hC0 tk a + 1) := by
        simp (disch := omega) only [e10, e9, e8, e7, e6, e5, uG_at, uG_c]
        rw [p1]; rfl
      have v100 : G10 16100 c = b01 (tk a = 17) := by
        simp (disch := omega) only [e10, e9, e8, e7, e6, uG_at, uG_c]
        exact er
      have v101 : G10 16101 c = srt tk a := by
        simp (disch := omega) only [e10, e9, e8, e7, uG_at, uG_c]
        exact es e1
      have v102 : G10 16102 c = 0 := by simp (disch := omega) only [e10, e9, e8, uG_at, uG_c]
      have v107 : G10 16107 c = 0 := by simp (disch := omega) only [e10, e9, uG_at, uG_c]
      have v115 : G10 16115 c = 0 := by rw [e10, uG_at]
      refine rkpar (e := hC0 tk a + 2) hK hc h10 v102 v107 (fun l3 G11 h11 f11 g11 d11 => ?_)
      rw [← sp] at h11 d11
      have f11' : FR (XH s i c) G G11 := FR_tr f10 f11
      by_cases e11 : (phead tk 12 k a).1 = 0
      · have hlt : hC0 tk a + 2 ≤ (phead tk 12 k a).2 := by
          rw [sp]
          exact Int.le_trans (pparents_le _) (pb_le2 (fun x => pneed_l (tk := tk) 223 x))
        have h11' : RM B s N 0 G11 (0, hIt tk k a) i := RM_eq h11 e11 rfl
        have eh : hIt tk k a = (phead tk 12 k a).2 := rfl
        have s11 : G11 16101 c = srt tk a := by rw [g11 _ (by omega)]; exact v101
        have c11 : G11 16115 c = 0 := by rw [g11 _ (by omega)]; exact v115
        rw [pb_0 e11, ← eh] at hQ
        refine ritems_loop (h0 := hIt tk k a) (sc := srt tk a) hK hc 22 100 0 0 G11 (hIt tk k a) i Q (by omega) (by omega) (by omega) (by omega) h11' hi0 (by omega) c11 s11 rfl (fun j' hj' => absurd hj' (by omega)) (fun G12 i12 h12 x1 f12 x3 => hQ G12 i12 h12 x1 (FR_mono (fun _ _ u => Or.inr ⟨hk12, u⟩) (FR_tr (FR_mono (fun _ _ u => Or.inr u) f11') (FR_mono (fun _ _ u => Or.inl u) f12))) (fun w => ?_))
        obtain ⟨y1, y2, y3, y4, y5⟩ := x3 w
        have w12 : ∀ x y, 16097 ≤ x → x ≤ 16114 → G12 x y = G11 x y := fun x y u1 u2 => f12 x y (by unfold XJ XR; omega)
        have en : 0 + nItL tk 22 0 (hIt tk k a) = nIt tk (hIt tk k a) := by unfold nIt; omega
        rw [en] at y4 y5
        refine ⟨by omega, by omega, hk12, by rw [w12 _ _ (by omega) (by omega), g11 _ (by omega)]; exact v97, by rw [w12 _ _ (by omega) (by omega), g11 _ (by omega)]; exact v98, by rw [w12 _ _ (by omega) (by omega), g11 _ (by omega)]; exact v99, by rw [w12 _ _ (by omega) (by omega), g11 _ (by omega)]; exact v100, by rw [w12 _ _ (by omega) (by omega)]; exact s11, RhP_F (d11 e11) (fun x y u1 u2 => w12 x y (by omega) (by omega)), by rw [y3]; unfold nIt; omega, y4, y5⟩
      · rw [pb_n e11] at hQ
        unfold PX13_klass_405 PX13_klass_430
        refine fun _ => ⟨fun u => absurd ((RM_fl h11).mp u) e11, fun _ => rWantSign (k := 225) hK h11 (Or.inl ⟨by unfold sg; omega, rfl⟩) (fun G12 h12 f12 => ?_)⟩
        rw [pb_n e11] at h12
        exact hQ G12 i h12 (Int.le_refl _) (FR_mono (fun _ _ u => Or.inr ⟨hk12, u⟩) (FR_tr (FR_mono (fun _ _ u => Or.inr u) f11') (FR_mono (fun _ _ u => Or.inr (Or.inl u)) f12))) (fun w => absurd w e11)
    · have e : (pb (pq3 tk a) (pwl tk l)).1 ≠ 0 := fun e => y ((RM_fl h2).mpr e)
      rw [pb_n e] at sp
      have e2 : (phead tk 12 k a).1 ≠ 0 := by rw [sp]; exact e
      rw [pb_n e2] at hQ
      exact hQ G2 i (by rw [sp]; exact h2) (Int.le_refl _) (FR_mono (fun _ _ u => Or.inl u) (FR_tr f1 f2)) (fun w => absurd w e2)
  unfold PX13_klass_70
  rw [h1.1.1, k1]
  exact fun _ => ⟨by omega, by omega, fun _ => ⟨fun u => one 1 (Or.inl ⟨rfl, u⟩), fun u => one 0 (Or.inr ⟨rfl, u⟩)⟩⟩
end RP32

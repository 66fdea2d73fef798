section CB5
variable {tk cd : Int → Int} {c b tp sz : Int} {G0 G : gS}
def InR (tk cd : Int → Int) (c b : Int) (G0 : gS) (tp sz : Int) : Nat → Nat → List Int → gS → Prop := fun m h L G => (h = 0 ∧ ∃ k : Nat, k ≤ 13 ∧ L = [bd b, tp, sz, (k : Int)] ∧ m = 100 * (14 - k) + 50 ∧ ((∃ a i, St0 tk cd c b G0 k a i G) ∨ RBd tk c b G0 G)) ∨ (h = 1 ∧ ∃ k j : Nat, k ≤ 12 ∧ j ≤ 21 ∧ L = [bd b, tp, sz, (k : Int), rw_ b k, (j : Int)] ∧ m = 100 * (14 - k) + 40 - j ∧ ((∃ a i, St1 tk cd c b G0 k j a i G) ∨ RBd tk c b G0 G))
theorem read_B : ∀ f h L G Q, PX9_read_J (f + 1) h L G Q = BX9_read (PX9_read_J f) h L G Q := fun f h L G Q => rfl
theorem read_170 {J : JT} {Q : Int → gS → Prop} {k : Int} (h0 : G 7 9 = 0 → Q 1 G) (h1 : G 7 9 ≠ 0 → Q 0 G) : PX9_read_170 J (bd b) tp sz k G Q := by
  unfold PX9_read_170 PX9_read_182
  exact fun _ => ⟨fun z => ⟨by omega, h0 z⟩, fun z => ⟨by omega, h1 z⟩⟩
theorem pb_z {r : RR} {f : Int → RR} (h : (pb r f).1 = 0) : r.1 = 0 ∧ (f r.2).1 = 0 := by
  unfold pb at h
  split at h
  · exact ⟨by assumption, h⟩
  · exact absurd h (by assumption)
theorem phead_lt {most k a : Int} (h : (phead tk most k a).1 = 0) : k < most := by
  have h2 := (pb_z (pb_z h).2).2
  split at h2
  · have h3 := (pb_z h2).2
    split at h3
    · split at h3
      · assumption
      · exact absurd h3 three_ne
    · exact absurd h3 (pmiss_ne _)
  · exact absurd h2 (pmiss_ne _)
theorem read_36 {J : JT} {Q : Int → gS → Prop} {k : Nat} {a i : Int} (hb : 0 ≤ b ∧ b < 17) (h11 : G0 7 11 = bd b) (h : St0 tk cd c b G0 k a i G) (hQ : (ptext tk 12).1 = 0 → tk a = 0 → Q 1 G) (hJ0 : ∀ G', ((∃ a i, St0 tk cd c b G0 (k + 1) a i G') ∨ RBd tk c b G0 G') → J 0 [bd b, tp, sz, (k : Int) + 1] G' Q) (hJ1 : ∀ G', ((∃ a i, St1 tk cd c b G0 k 1 a i G') ∨ RBd tk c b G0 G') → J 1 [bd b, tp, sz, k, rw_ b k, (0 : Int) + 1] G' Q) : PX9_read_36 J (bd b) tp sz k G Q := by
  obtain ⟨s1, s2, s3, s4, s5, s6, s7, s8, s9, s10, s11, f, s12, s13⟩ := h
  have hX := xRead_T hb.1
  obtain ⟨f', rfl⟩ : ∃ f', f = f' + 1 := ⟨f - 1, by omega⟩
  have sp : ptext tk 12 = (if tk a = 0 then (0, a) else pb (phead tk 12 k a) fun b => pb (pitems tk 22 0 b) (pclasses tk 12 f' (k + 1))) := s13
  unfold PX9_read_36
  refine ⟨fun z => by omega, fun _ => fun _ => ⟨fun _ => hNow s1 (fun _ => ⟨fun z => ?_, fun z => ?_⟩), fun y => absurd s1.1.2.2.1 y⟩⟩
  · rw [if_pos z] at sp
    exact read_170 (fun _ => hQ (by rw [sp]) z) (fun y => absurd s1.1.2.2.1 y)
  · rw [if_neg z] at sp
    refine head_ok hb ⟨by omega, by omega⟩ ⟨s1.1, FR_id⟩ s2 s6 (fun v G19 hv => ?_)
    obtain ⟨⟨q1, q2, q3⟩, q4, q5⟩ := hv
    by_cases e : (phead tk 12 k a).1 = 0
    · have hk12 : (k : Int) < 12 := phead_lt e
      have hk : 0 ≤ (k : Int) ∧ (k : Int) < 12 := ⟨by omega, hk12⟩
      obtain ⟨g9, g8, g1, g2, g3, hP⟩ := q3 e
      have ev := q5 e
      subst ev
      obtain ⟨hR, h3, h13, h15⟩ := HdP_R hP
      have f19 : FR (xRead b) G G19 := FR_mono (xHead_sub ⟨hk.1, by omega⟩) q1
      have m19 : HS (xRead b) G0 G19 tk cd c (phead tk 12 k a).2 := ⟨⟨PT_FR s1.1.1 f19 hX, g8, g9, by have := s1.1.2.2.2.1; omega, g2, g3, CD_FR s1.1.2.2.2.2.2.2 f19 hX⟩, FR_tr s1.2 f19⟩
      have w : ∀ c' j', ¬ xHead b k c' j' → G19 c' j' = G c' j' := fun c' j' q => q1 _ _ q
      refine read_67 (j := 0) (a := (phead tk 12 k a).2) (i := i) hb h11 ⟨m19, ?_, ?_, s4, by omega, h3, by omega, ?_, s9, by omega, ?_, by rw [← s11]; exact hR, h13, h15, fun j x => by omega, ?_, ⟨22, rfl, ?_, ?_⟩, f', by omega, ?_⟩ hJ0 (fun G' hG' => hJ1 G' ?_)
      · rw [w _ _ (by unfold xHead xAt bd rw_; omega)]; exact s2
      · rw [w _ _ (by unfold xHead xAt bd rw_; omega)]; exact s3
      · rw [w _ _ (by unfold xHead xAt bd rw_; omega), s8]; show _ = n0 tk k + 0; omega
      · refine AllC_F s10 (Int.le_refl _) (fun c' j' x1 x2 => w _ _ (by unfold rw_ at x1 x2; unfold xHead xAt bd rw_; omega)) (fun c' j' x1 x2 => w _ _ (by unfold mb at x1; unfold xHead xAt bd rw_; omega)) (fun c' j' x1 x2 => w _ _ (by have := s1.1.2.2.2.2.1; unfold xHead xAt bd rw_; omega))
      · show _ = hIt tk k (aCl tk k)
        unfold hIt
        rw [← s11]
      · unfold hIt
        rw [← s11]; rfl
      · unfold nIt hIt
        rw [← s11]; rfl
      · unfold hIt
        rw [← s11, sp, pb_0 e]
      · rcases hG' with ⟨a', i', x, y⟩ | y
        · exact Or.inl ⟨a', i', y⟩
        · exact Or.inr y
    · have ev := q4 e
      subst ev
      obtain ⟨g9, g10⟩ := q2 e
      have hb' := HS_bd hb.1 s1 q1 (xHead_sub ⟨by omega, by omega⟩) g9 g10 e (show ptext tk 12 = _ by rw [sp, pb_n e])
      exact read_67b hb' ⟨by omega, by omega⟩ (hJ0 _ (Or.inr hb'))
theorem read_loop {Q : Int → gS → Prop} {F : Nat} (hb : 0 ≤ b ∧ b < 17) (h11 : G0 7 11 = bd b) (hF : 2000 < F) (hs : St0 tk cd c b G0 0 0 0 G) (hQ1 : ∀ (K : Nat) a i G', (ptext tk 12).1 = 0 → tk a = 0 → St0 tk cd c b G0 K a i G' → Q 1 G') (hQ0 : ∀ G', RBd tk c b G0 G' → Q 0 G') : PX9_read_36 (PX9_read_J F) (bd b) tp sz 0 G Q := by
  refine lpB (PJ := PX9_read_J) (B := BX9_read) read_B (InR tk cd c b G0 tp sz) (fun J m h L G hI hJ => ?_) F 1450 0 [bd b, tp, sz, 0] G (by omega) (Or.inl ⟨rfl, 0, by omega, rfl, rfl, Or.inl ⟨0, 0, hs⟩⟩)
  rcases hI with ⟨rfl, k, hk, rfl, rfl, hst⟩ | ⟨rfl, k, j, hk, hj, rfl, rfl, hst⟩
  · show PX9_read_36 J (bd b) tp sz k G Q
    rcases hst with ⟨a, i, hst⟩ | hbd
    · have hk12 := hst.2.2.2.2.2.2.1
      refine read_36 hb h11 hst (fun x y => hQ1 k a i G x y hst) (fun G' hG' => hJ (100 * (14 - (k + 1)) + 50) 0 _ G' (by omega) (Or.inl ⟨rfl, k + 1, by omega, rfl, rfl, hG'⟩)) (fun G' hG' => hJ (100 * (14 - k) + 40 - 1) 1 _ G' (by omega) (Or.inr ⟨rfl, k, 1, by omega, by omega, rfl, rfl, hG'⟩))
    · unfold PX9_read_36
      have e : ∀ k', PX9_read_170 J (bd b) tp sz k' G Q := fun k' => read_170 (fun z => HB_f hbd.1 z) (fun _ => hQ0 G hbd)
      exact ⟨fun _ => e _, fun _ => fun _ => ⟨fun z => HB_f hbd.1 z, fun _ => e _⟩⟩
  · show PX9_read_67 J (bd b) tp sz k (rw_ b k) j G Q
    rcases hst with ⟨a, i, hst⟩ | hbd
    · have hj20 := hst.2.2.2.2.2.2.2.2.2.1
      have hk12 := hst.2.2.2.2.2.2.1
      refine read_67 hb h11 hst (fun G' hG' => hJ (100 * (14 - (k + 1)) + 50) 0 _ G' (by omega) (Or.inl ⟨rfl, k + 1, by omega, rfl, rfl, hG'⟩)) (fun G' hG' => hJ (100 * (14 - k) + 40 - (j + 1)) 1 _ G' (by omega) (Or.inr ⟨rfl, k, j + 1, by omega, by omega, rfl, rfl, ?_⟩))
      rcases hG' with ⟨a', i', x, y⟩ | y
      · exact Or.inl ⟨a', i', y⟩
      · exact Or.inr y
    · exact read_67b hbd ⟨by omega, by omega⟩ (hJ (100 * (14 - (k + 1)) + 50) 0 _ G (by omega) (Or.inl ⟨rfl, k + 1, by omega, rfl, rfl, Or.inr hbd⟩))
end CB5

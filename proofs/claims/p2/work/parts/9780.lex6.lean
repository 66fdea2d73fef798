section LV
variable {G : gS} {Q : Int → gS → Prop} {t : Int → Int} {s n : Int}
theorem sX13_tokenAt {k i : Int} (hb : RB G s n t) (ht : Tx t n) (hw : WR G) (h0 : 0 ≤ i) (h1 : i < n) (k0 : 0 ≤ k) (k1 : k < 12636) (hQ : ∀ e G', RTok t i e (G' 16090 k) (G' 16093 k) (G' 16094 k) (G 16093 k) (G 16094 k) → F3 G G' k → i < e → e ≤ n → Q e G') : PX13_tokenAt k i G Q := by
  refine ⟨4000000000, Nat.le_refl _, ?_⟩
  have hn := ht.2.1
  have hi := ht.2.2.2 i
  have hi1 := ht.2.2.2 (i + 1)
  have hi2 := ht.2.2.2 (i + 2)
  have nx : ∀ j, i ≤ j → t j ≠ 0 → j < n := fun j a b => by
    rcases (show j < n ∨ n ≤ j by omega) with z | z
    · exact z
    · exact absurd (ht.2.2.1 j z) b
  -- no class name
  have other : ¬ isCl t i → PX13_tokenAt_135 (PX13_tokenAt_J 4000000000) k i (t i % 256) G Q := fun hc => by
    unfold PX13_tokenAt_135
    refine sX13_isSmall (fun _ => ⟨fun q => ?_, fun q => ?_⟩)
    · have sm : ¬ isSm t i := fun z => by
        unfold isSm at z
        rw [if_pos (by omega)] at q
        cases q
      have signs : ¬ dg (t i) → PX13_tokenAt_349 (PX13_tokenAt_J 4000000000) k i (t i % 256) G Q := fun hd => by
        refine tok_signs (fun g => tok_sign hb ht h0 h1 k0 k1 rfl (Or.inr rfl) (fun e kd vl a1 a2 a3 => ?_)) (fun g => tok_sign hb ht h0 h1 k0 k1 rfl (Or.inl rfl) (fun e kd vl a1 a2 a3 => ?_))
        · rw [if_neg (by decide)] at a1
          refine hQ e _ (RTok_sg sm hd ⟨?_, fun z => ?_, fun z => ?_⟩) (F3_up (F3_up (F3_id G k) (by omega)) (by omega)) ?_ ?_
          · rw [uG_c (by decide), uG_c (by decide)]
          · obtain ⟨b1, b2⟩ := a2 ⟨by omega, z.2⟩
            exact ⟨b1, by rw [uG_c (by decide), uG_at]; exact a1, by rw [uG_at]; exact b2⟩
          · obtain ⟨b1, b2⟩ := a3 (fun y => z ⟨by omega, y.2⟩)
            refine ⟨b1, fun _ => ⟨by rw [uG_c (by decide), uG_at]; exact a1, by rw [uG_at]; unfold sg at g; omega⟩, fun y => absurd ?_ y⟩
            unfold sg at g ⊢; omega
          · by_cases z : t i % 256 = 61 ∧ t (i + 1) = 61
            · have := (a2 z).1; omega
            · have := (a3 z).1; omega
          · by_cases z : t i % 256 = 61 ∧ t (i + 1) = 61
            · have := (a2 z).1; have := nx (i + 1) (by omega) (by omega); omega
            · have := (a3 z).1; omega
        · rw [if_pos rfl] at a1
          have g2 : ¬ (t i % 256 = 61 ∧ t (i + 1) = 61) := fun z => g (by unfold sg; omega)
          obtain ⟨b1, b2⟩ := a3 g2
          refine hQ e _ (RTok_sg sm hd ⟨?_, fun z => absurd ⟨by omega, z.2⟩ g2, fun z => ⟨b1, fun y => absurd ?_ g, fun _ => by rw [uG_c (by decide), uG_at]; exact a1⟩⟩) (F3_up (F3_up (F3_id G k) (by omega)) (by omega)) (by omega) (by omega)
          · rw [uG_c (by decide), uG_c (by decide)]
          · unfold sg at y ⊢; omega
      refine ⟨fun q2 => signs (by unfold dg; omega), fun q2 => ⟨fun q3 => signs (by unfold dg; omega), fun q3 => ?_⟩⟩
      have hd : dg (t i) := by unfold dg; omega
      refine tok_digits hb ht h0 h1 k0 k1 (fun e kd vl a1 a2 a3 a4 => ?_)
      refine hQ e _ (RTok_dg hd ⟨a1, ?_, ?_, ?_⟩) (F3_up (F3_up (F3_id G k) (by omega)) (by omega)) ?_ a2
      · rw [uG_c (by decide), uG_c (by decide)]
      · rw [uG_c (by decide), uG_at]; exact a3
      · rw [uG_c (by decide), uG_at, uG_at]; exact a4
      · rcases (show i < e ∨ i = e by have := a1.1; omega) with z | z
        · exact z
        · have := a1.2.2; rw [← z] at this; exact absurd hd this
    · have sm : isSm t i := by
        unfold isSm
        rcases (show (97 ≤ t i ∧ t i ≤ 122) ∨ ¬ (97 ≤ t i ∧ t i ≤ 122) by omega) with z | z
        · exact z
        · rw [if_neg (by omega)] at q; exact absurd rfl q
      refine sX13_wordEnd hb ht h0 (by omega) (fun e he hen => fun _ => ?_)
      have hlt : i < e := by
        rcases (show i < e ∨ i = e by have := he.1; omega) with z | z
        · exact z
        · have h2 := he.2.2
          rw [← z] at h2
          unfold isSm at sm
          unfold sy at h2
          rw [if_pos sm] at h2
          omega
      refine tok_letters hb ht hw h0 (by omega) hen k0 k1 (fun kd nm a1 a2 => ?_)
      refine hQ e _ (RTok_nm sm hc ⟨he, ?_, ?_, ?_⟩) (F3_up (F3_up (F3_id G k) (by omega)) (by omega)) hlt hen
      · rw [uG_c (by decide), uG_c (by decide)]
      · rw [uG_c (by decide), uG_at]; exact a1
      · rw [uG_at (uG G 16090 k kd) 16093 k nm, uG_c (c' := 16090) (by decide), uG_at]; exact a2
  show PX13_tokenAt_0 (PX13_tokenAt_J 4000000000) k i G Q
  unfold PX13_tokenAt_0
  refine sX13_byteAt hb ht h0 (fun _ => sX13_isSmall (fun _ => ⟨fun q => other (fun z => ?_), fun q => ⟨by unfold inI; omega, sX13_byteAt hb ht (by omega) (fun _ => ⟨fun q2 => ⟨by unfold inI; omega, sX13_byteAt hb ht (by omega) (fun _ => sX13_isGreat (fun _ => ⟨fun q3 => other (fun z => ?_), fun q3 => ⟨by unfold inI; omega, ?_⟩⟩))⟩, fun q2 => other (fun z => ?_)⟩)⟩⟩))
  · have := z.1
    unfold isSm at this
    rw [if_pos (by omega)] at q; cases q
  · have := z.2.2
    rw [if_pos (by omega)] at q3; cases q3
  · have sm : isSm t i := by
      unfold isSm
      rcases (show (97 ≤ t i ∧ t i ≤ 122) ∨ ¬ (97 ≤ t i ∧ t i ≤ 122) by omega) with z | z
      · exact z
      · rw [if_neg (by omega)] at q; exact absurd rfl q
    have gr : 65 ≤ t (i + 2) ∧ t (i + 2) ≤ 90 := by
      rcases (show (65 ≤ t (i + 2) ∧ t (i + 2) ≤ 90) ∨ ¬ (65 ≤ t (i + 2) ∧ t (i + 2) ≤ 90) by omega) with z | z
      · exact z
      · rw [if_neg (by omega)] at q3; exact absurd rfl q3
    have hc : isCl t i := ⟨sm, by omega, gr⟩
    have hi2n := nx (i + 2) (by omega) (by omega)
    refine sX13_wordEnd hb ht (by omega) (by omega) (fun e he hen => fun _ => ⟨by have := he.1; unfold inI; omega, ?_⟩)
    have he1 := he.1
    have sb := sy_b (t i)
    have s26 : sy (t i) ≤ 26 := by unfold isSm at sm; unfold sy; rw [if_pos sm]; omega
    have main : ∀ kd, (11 < e - i → kd = 6) → (¬ 11 < e - i → kd = 1) → PX13_tokenAt_67 (PX13_tokenAt_J 4000000000) k i (t i % 256) e 16090 k kd G Q := fun kd c1 c2 => by
      unfold PX13_tokenAt_67
      refine ⟨12636, aC16090, k0, k1, fun G1 e1 => sX13_sym (by omega) (fun _ => ⟨by unfold inI; omega, ?_⟩)⟩
      subst e1
      rw [sy_m hi]
      refine tok_class (F3_RB (F3_up (F3_id G k) (by omega)) hb) ht h0 he1 hen k0 k1 sb.1 s26 (fun nm a1 => ?_)
      refine hQ e _ (RTok_cl hc ⟨he, ?_, ?_, ?_⟩) (F3_up (F3_up (F3_id G k) (by omega)) (by omega)) (by omega) hen
      · rw [uG_c (by decide), uG_c (by decide)]
      · rw [uG_c (by decide), uG_at]; exact c1
      · rw [uG_c (by decide), uG_at, uG_at]; exact fun z => ⟨c2 z, a1 z⟩
    exact ⟨fun z => main 6 (fun _ => rfl) (fun y => absurd z y), fun z => main 1 (fun y => absurd y z) (fun _ => rfl)⟩
  · exact q2 (by have := z.2.1; omega)
end LV

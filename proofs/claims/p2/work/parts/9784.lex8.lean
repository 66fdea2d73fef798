section LW8
variable {G : gS} {Q : Int → gS → Prop} {t : Int → Int} {s n : Int}
theorem tok_blank {G' : gS} {J : JT} {k b l : Int} (hb : RB G s n t) (ht : Tx t n) (hw : WR G) (hI : TkI G G' s n t k b) (l1 : b ≤ l) (l2 : l ≤ n) (l3 : ∀ j, b ≤ j → j < l → bl (t j)) (hJ : l < n → (∀ j, b ≤ j → j < l + 1 → bl (t j)) → J 1 [l + 1, k, 1] G' Q) (hE : ∀ e G'', TkE G G'' s n t (k + 1) → J 0 [e, k + 1, 0] G'' Q) (hN : ∀ e G'', TkI G G'' s n t (k + 1) e → J 0 [e, k + 1, 1] G'' Q) : PX13_tokenize_10 J l k 1 G' Q := by
  have hb' := FT_RB hI.1 hb
  have hb0 := hI.2.2.2.2.1
  obtain ⟨s1, s2, s3, s4, s5⟩ := hb'
  have hn := ht.2.1
  have hl := ht.2.2.2 l
  have next : l < n → bl (t l) → PX13_tokenize_43 J l k 1 G' Q := fun z y => by
    unfold PX13_tokenize_43
    refine ⟨by unfold inI; omega, hJ z (fun j a b => ?_)⟩
    rcases (show j < l ∨ j = l by omega) with w | w
    · exact l3 j a w
    · rw [w]; exact y
  unfold PX13_tokenize_10
  rw [s1, s4]
  refine fun _ => ⟨s2, by omega, fun _ => ⟨fun z => sX13_byteAt ⟨s1, s2, s3, s4, s5⟩ ht (by omega) (fun _ => ⟨fun y => next z (by unfold bl; omega), fun y => sX13_byteAt ⟨s1, s2, s3, s4, s5⟩ ht (by omega) (fun _ => ⟨fun w => next z (by unfold bl; omega), fun w => tok_put hb ht hw hI ⟨l1, l2, l3, fun _ => by unfold bl; omega⟩ hE hN⟩)⟩), fun z => tok_put hb ht hw hI ⟨l1, l2, l3, fun y => absurd y z⟩ hE hN⟩⟩
theorem sX13_tokenize (hb : RB G s n t) (ht : Tx t n) (hw : WR G) (hQ : ∀ N G', TkE G G' s n t N → Q 0 (uG G' 16095 s N)) : PX13_tokenize G Q := by
  refine ⟨4000000000, Nat.le_refl _, ?_⟩
  have hn := ht.2.1
  have hn0 := ht.1
  have h0 : TkI G G s n t 0 0 := ⟨fun _ _ _ _ => rfl, by omega, by omega, rfl, by omega, hn0, fun j a b => by omega, fun j a b => by omega⟩
  have hs := hb.2.1
  have hs2 := hb.2.2.1
  show PX13_tokenize_6 (PX13_tokenize_J 4000000000) 0 0 1 G Q
  refine lpB (B := BX13_tokenize) (PJ := PX13_tokenize_J) (fun _ _ _ _ _ => rfl) (fun m h L G' => (h = 0 ∧ ∃ b k, L = [b, k, 1] ∧ TkI G G' s n t k b ∧ (m : Int) = (702 - k) * 5000 + 4500) ∨ (h = 0 ∧ ∃ e k, L = [e, k, 0] ∧ TkE G G' s n t k) ∨ (h = 1 ∧ ∃ b k l, L = [l, k, 1] ∧ TkI G G' s n t k b ∧ b ≤ l ∧ l ≤ n ∧ (∀ j, b ≤ j → j < l → bl (t j)) ∧ (m : Int) = (702 - k) * 5000 + (n - l))) ?_ 4000000000 3514500 0 [0, 0, 1] G (by omega) (Or.inl ⟨rfl, 0, 0, rfl, h0, by omega⟩)
  rintro J m h L G' hI hj
  rcases hI with ⟨rfl, b, k, rfl, hI, hm⟩ | ⟨rfl, e, k, rfl, hI⟩ | ⟨rfl, b, k, l, rfl, hI, l1, l2, l3, hm⟩
  · have k0 := hI.2.1
    have k1 := hI.2.2.1
    have b0 := hI.2.2.2.2.1
    have b1 := hI.2.2.2.2.2.1
    show PX13_tokenize_6 J b k 1 G' Q
    unfold PX13_tokenize_6
    refine ⟨fun z => absurd z (by decide), fun _ => tok_blank hb ht hw hI (by omega) b1 (fun j x y => by omega) (fun z y => ?_) (fun e G'' he => ?_) (fun e G'' he => ?_)⟩
    · exact hj ((702 - k) * 5000 + (n - (b + 1))).toNat 1 _ _ (by omega) (Or.inr (Or.inr ⟨rfl, b, k, b + 1, rfl, hI, by omega, by omega, y, by omega⟩))
    · exact hj 0 0 _ _ (by omega) (Or.inr (Or.inl ⟨rfl, e, k + 1, rfl, he⟩))
    · exact hj ((702 - (k + 1)) * 5000 + 4500).toNat 0 _ _ (by omega) (Or.inl ⟨rfl, e, k + 1, rfl, he, by omega⟩)
  · show PX13_tokenize_6 J e k 0 G' Q
    have hb' := FT_RB hI.1 hb
    have k0 := hI.2.1
    have k1 := hI.2.2.1
    unfold PX13_tokenize_6
    rw [hb'.1]
    refine ⟨fun _ _ => ⟨by omega, by omega, fun G5 e5 => ?_⟩, fun z => absurd rfl z⟩
    subst e5
    exact hQ k G' hI
  · have k0 := hI.2.1
    have k1 := hI.2.2.1
    have b0 := hI.2.2.2.2.1
    show PX13_tokenize_10 J l k 1 G' Q
    refine tok_blank hb ht hw hI l1 l2 l3 (fun z y => ?_) (fun e G'' he => ?_) (fun e G'' he => ?_)
    · exact hj ((702 - k) * 5000 + (n - (l + 1))).toNat 1 _ _ (by omega) (Or.inr (Or.inr ⟨rfl, b, k, l + 1, rfl, hI, by omega, by omega, y, by omega⟩))
    · exact hj 0 0 _ _ (by omega) (Or.inr (Or.inl ⟨rfl, e, k + 1, rfl, he⟩))
    · exact hj ((702 - (k + 1)) * 5000 + 4500).toNat 0 _ _ (by omega) (Or.inl ⟨rfl, e, k + 1, rfl, he, by omega⟩)
end LW8

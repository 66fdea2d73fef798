section LWA
variable {G : gS} {Q : Int → gS → Prop} {t : Int → Int} {n k : Int}
theorem nm_words {J : JT} {i l2 l3 e l6 w : Int} {G' : gS} (hb : CB G n k t) (hw : WC G) (hf : FC G G' k) (k0 : 0 ≤ k) (k1 : k < 704) (w0 : 0 ≤ w) (w1 : w ≤ 30) (h3 : G' 9 k = 3 → ∀ j, 0 ≤ j → j < w → cwd j ≠ l3) (hE : (G' 9 k = 3 → ∀ j, 0 ≤ j → j < 30 → cwd j ≠ l3) → Q e G') (hJ : w < 30 → cwd w ≠ l3 → G' 9 k = 3 → J 1 [i, l2, l3, e, l6, w + 1] G' Q) (hJ2 : w < 30 → cwd w = l3 → G' 9 k = 3 → J 1 [i, l2, l3, e, l6, w + 1] (uG G' 9 k (10 + w)) Q) : PX9_scanName_235 J i l2 l3 e l6 w G' Q := by
  have c := FC_CB hf hb
  have d := FC_WC hf hw
  unfold PX9_scanName_235 PX9_scanName_281 PX9_scanName_287
  rw [c.2.2.1]
  refine ⟨fun q => fun _ => ⟨k0, k1, fun _ => ⟨fun q3 => ⟨w0, q, fun _ => ?_⟩, fun q3 => hE (fun y => absurd y q3)⟩⟩, fun q => hE (fun y j a b => h3 y j a (by omega))⟩
  rw [d w w0 q]
  refine ⟨fun z => fun _ => ⟨k0, k1, by unfold inI; omega, fun G1 e1 => ⟨by unfold inI; omega, ?_⟩⟩, fun z => ⟨by unfold inI; omega, hJ q z q3⟩⟩
  subst e1
  exact hJ2 q z q3
-- a name's, a class's letters from st on, packed into a long over D; then its kind
theorem nm_all {i st l2 l3 D : Int} (hb : CB G n k t) (ht : Tx t n) (hw : WC G) (h0 : 0 ≤ i) (k0 : 0 ≤ k) (k1 : k < 704) (hst : st = i ∧ l2 = 0 ∨ st = i + 2 ∧ l2 = 1) (hst2 : st < n) (hs : sy (t st) ≠ 0) (hD : ∃ d, D = d * 18014398509481984) (hU : U l3 = sy (t st) * 18014398509481984 + D) (hL : inL l3) (hQ : ∀ e cd G', We t st e → e ≤ n → st < e → inL cd → (e - st ≤ 10 → U cd = gv 0 t st (e - st).toNat * 2 ^ (60 - 6 * (e - st).toNat) + D) → FC G G' k → G' 12 k = cd → ((if l2 = 0 then 10 else 11) < e - i → G' 9 k = 1) → (¬ (if l2 = 0 then 10 else 11) < e - i → (l2 = 1 → G' 9 k = 2) ∧ (l2 = 0 → (∃ w, 0 ≤ w ∧ w < 30 ∧ cwd w = cd ∧ G' 9 k = 10 + w) ∨ G' 9 k = 3 ∧ ∀ w, 0 ≤ w → w < 30 → cwd w ≠ cd)) → Q e G') : PX9_scanName_124 (PX9_scanName_J 4000000000) i l2 l3 (st + 1) 48 G Q := by
  have hn := ht.2.1
  have hb' := hb
  obtain ⟨b1, b2, b3, b4⟩ := hb
  refine lpB (B := BX9_scanName) (PJ := PX9_scanName_J) (fun _ _ _ _ _ => rfl) (fun m h L G' => (h = 0 ∧ G' = G ∧ ∃ (l v : Int) (q : Nat), L = [i, l2, v, l, 54 - 6 * (q : Int)] ∧ l = st + q ∧ 1 ≤ q ∧ l ≤ n ∧ inL v ∧ (q ≤ 10 → U v = gv 0 t st q * 2 ^ (60 - 6 * q) + D) ∧ (∀ j, st ≤ j → j < l → sy (t j) ≠ 0) ∧ (m : Int) = 100 + n - l) ∨ (h = 1 ∧ ∃ e cd l6 w : Int, L = [i, l2, cd, e, l6, w] ∧ We t st e ∧ e ≤ n ∧ st < e ∧ inL cd ∧ (e - st ≤ 10 → U cd = gv 0 t st (e - st).toNat * 2 ^ (60 - 6 * (e - st).toNat) + D) ∧ FC G G' k ∧ G' 12 k = cd ∧ 0 ≤ w ∧ w ≤ 30 ∧ (G' 9 k = 3 → l2 = 0 ∧ ¬ 10 < e - i ∧ ∀ j, 0 ≤ j → j < w → cwd j ≠ cd) ∧ (G' 9 k ≠ 3 → ((if l2 = 0 then 10 else 11) < e - i → G' 9 k = 1) ∧ (¬ (if l2 = 0 then 10 else 11) < e - i → (l2 = 1 → G' 9 k = 2) ∧ (l2 = 0 → ∃ w, 0 ≤ w ∧ w < 30 ∧ cwd w = cd ∧ G' 9 k = 10 + w))) ∧ (m : Int) = 30 - w)) ?_ 4000000000 (100 + n - (st + 1)).toNat 0 [i, l2, l3, st + 1, 48] G (by omega) (Or.inl ⟨rfl, rfl, st + 1, l3, 1, rfl, rfl, by omega, by omega, hL, fun _ => ?_, fun j a b => by rw [show j = st by omega]; exact hs, by omega⟩)
  rotate_left
  · rw [hU]
    have e1 : gv 0 t st 1 = sy (t st) := by
      unfold gv gv
      rw [show st + ((0 : Nat) : Int) = st by omega]
      omega
    rw [e1]
    rfl
  rintro J m h L G' hI hj
  have ending : ∀ (e cd l6 w : Int) (G' : gS) (m' : Nat), We t st e → e ≤ n → st < e → inL cd → (e - st ≤ 10 → U cd = gv 0 t st (e - st).toNat * 2 ^ (60 - 6 * (e - st).toNat) + D) → FC G G' k → G' 12 k = cd → 0 ≤ w → w ≤ 30 → (G' 9 k = 3 → l2 = 0 ∧ ¬ 10 < e - i ∧ ∀ j, 0 ≤ j → j < w → cwd j ≠ cd) → (G' 9 k ≠ 3 → ((if l2 = 0 then 10 else 11) < e - i → G' 9 k = 1) ∧ (¬ (if l2 = 0 then 10 else 11) < e - i → (l2 = 1 → G' 9 k = 2) ∧ (l2 = 0 → ∃ w, 0 ≤ w ∧ w < 30 ∧ cwd w = cd ∧ G' 9 k = 10 + w))) → (m' : Int) = 30 - w → m' ≤ m → PX9_scanName_235 J i l2 cd e l6 w G' Q := by
    intro e cd l6 w G' m' i1 i2 i3 i4 i5 i6 i7 i8 i9 i10 i11 i12 i13
    refine nm_words hb' hw i6 k0 k1 i8 i9 (fun y => (i10 y).2.2) (fun y => hQ e cd G' i1 i2 i3 i4 i5 i6 i7 (fun z => ?_) (fun z => ⟨fun z1 => ?_, fun z0 => ?_⟩)) (fun y1 y2 y3 => ?_) (fun y1 y2 y3 => ?_)
    · by_cases x : G' 9 k = 3
      · have := i10 x; rw [if_pos this.1] at z; exact absurd z this.2.1
      · exact (i11 x).1 z
    · by_cases x : G' 9 k = 3
      · have := i10 x; omega
      · exact ((i11 x).2 z).1 z1
    · by_cases x : G' 9 k = 3
      · exact Or.inr ⟨x, y x⟩
      · exact Or.inl (((i11 x).2 z).2 z0)
    · refine hj (m' - 1) 1 _ _ (by omega) (Or.inr ⟨rfl, e, cd, l6, w + 1, rfl, i1, i2, i3, i4, i5, i6, i7, by omega, by omega, fun x => ⟨(i10 x).1, (i10 x).2.1, fun j a b => ?_⟩, fun x => absurd y3 x, by omega⟩)
      rcases (show j < w ∨ j = w by omega) with c | c
      · exact (i10 x).2.2 j a c
      · rw [c]; exact y2
    · have x3 := i10 y3
      have e9 : uG G' 9 k (10 + w) 9 k = 10 + w := uG_at _ _ _ _
      refine hj (m' - 1) 1 _ _ (by omega) (Or.inr ⟨rfl, e, cd, l6, w + 1, rfl, i1, i2, i3, i4, i5, FC_up i6 (by omega), by rw [uG_c (by decide)]; exact i7, by omega, by omega, fun x => by rw [e9] at x; omega, fun _ => ⟨fun z => ?_, fun z => ⟨fun z1 => by omega, fun _ => ⟨w, i8, y1, y2, e9⟩⟩⟩, by omega⟩)
      rw [if_pos x3.1] at z
      exact absurd z x3.2.1
  rcases hI with ⟨rfl, e, l, v, q, rfl, i1, i2, i3, i4, i5, i6, i7⟩ | ⟨rfl, e, cd, l6, w, rfl, i1, i2, i3, i4, i5, i6, i7, i8, i9, i10, i11, i12⟩
  · subst e
    show PX9_scanName_124 J i l2 v l (54 - 6 * (q : Int)) G' Q
    have fin : sy (t l) = 0 → PX9_scanName_182 J i l2 v l (54 - 6 * (q : Int)) G' Q := fun z => by
      have hwe : We t st l := ⟨by omega, i6, z⟩
      have hU' : l - st ≤ 10 → U v = gv 0 t st (l - st).toNat * 2 ^ (60 - 6 * (l - st).toNat) + D := fun y => by rw [show (l - st).toNat = q by omega]; exact i5 (by omega)
      have go : ∀ kd, (kd = 3 → l2 = 0 ∧ ¬ 10 < l - i) → (kd ≠ 3 → ((if l2 = 0 then 10 else 11) < l - i → kd = 1) ∧ (¬ (if l2 = 0 then 10 else 11) < l - i → (l2 = 1 → kd = 2) ∧ (l2 = 0 → ∃ w, 0 ≤ w ∧ w < 30 ∧ cwd w = v ∧ kd = 10 + w))) → PX9_scanName_221 J i l2 v l (54 - 6 * (q : Int)) 9 k kd G' Q := fun kd y1 y2 => by
        unfold PX9_scanName_221
        refine ⟨704, aC9, k0, k1, fun G1 e1 => ?_⟩
        subst e1
        rw [uG_c (c' := 7) (by decide), b3]
        refine fun _ => ⟨k0, k1, fun G2 e2 => ?_⟩
        subst e2
        have e9 : uG (uG G' 9 k kd) 12 k v 9 k = kd := by rw [uG_c (by decide), uG_at]
        exact ending l v _ 0 _ 30 hwe i3 (by omega) i4 hU' (FC_up (FC_up (FC_id _ _) (by omega)) (by omega)) (uG_at _ _ _ _) (by omega) (by omega) (fun x => by rw [e9] at x; exact ⟨(y1 x).1, (y1 x).2, fun j a b => by omega⟩) (fun x => by rw [e9] at x ⊢; exact y2 x) (by omega) (by omega)
      unfold PX9_scanName_182 PX9_scanName_205
      rw [b3]
      refine fun _ => ⟨fun z0 => ⟨by unfold inI; omega, fun y => go 1 (fun x => by omega) (fun _ => ⟨fun _ => rfl, fun y2 => absurd ?_ y2⟩), fun y => ⟨fun _ => go 3 (fun _ => ⟨z0, y⟩) (fun x => absurd rfl x), fun x => absurd z0 x⟩⟩, fun z0 => ⟨by unfold inI; omega, fun y => go 1 (fun x => by omega) (fun _ => ⟨fun _ => rfl, fun y2 => absurd ?_ y2⟩), fun y => ⟨fun x => absurd x z0, fun _ => go 2 (fun x => by omega) (fun _ => ⟨fun y2 => absurd ?_ y, fun _ => ⟨fun _ => rfl, fun x => absurd x z0⟩⟩)⟩⟩⟩
      · rw [if_pos z0]; exact y
      · rw [if_neg z0]; exact y
      · rw [if_neg z0] at y2; exact y2
    have step : sy (t l) ≠ 0 → l < n → ∀ x : Int, (q ≤ 9 → x = lshl (sy (t l)) (54 - 6 * (q : Int))) → PX9_scanName_171 J i l2 v l (54 - 6 * (q : Int)) v x G' Q := fun z zl x hx => by
      unfold PX9_scanName_171
      refine fun _ => ⟨by unfold inI; omega, by unfold inI; omega, ?_⟩
      have sb := sy_b (t l)
      refine hj (m - 1) 0 _ _ (by omega) (Or.inl ⟨rfl, rfl, l + 1, lor v x, q + 1, ?_, by omega, by omega, by omega, in_xL _, fun y => ?_, fun j a b => ?_, by omega⟩)
      · rw [show (54 : Int) - 6 * (q : Int) + (-6) = 54 - 6 * ((q + 1 : Nat) : Int) by omega]
      · rw [hx (by omega), pack q ⟨i2, by omega⟩ hD (i5 (by omega)) ⟨sb.1, by omega⟩]
        rw [show 60 - 6 * (q + 1) = 54 - 6 * q by omega]
        congr 2
        show _ = 64 * gv 0 t st q + sy (t (st + (q : Int)))
        rw [← i1]
      · rcases (show j < l ∨ j = l by omega) with c | c
        · exact i6 j a c
        · rw [c]; exact z
    unfold PX9_scanName_124
    rw [b1, b2]
    have hl := ht.2.2.2 l
    refine fun _ => ⟨fun y => fun _ => ⟨4000, aC1, by omega, by omega, fun _ => ?_⟩, fun y => fin (by rw [ht.2.2.1 l (by omega)]; rfl)⟩
    rw [b4 l (by omega) y]
    refine sX9_sixBits (by omega) (fun _ => ⟨fun z => ⟨fun u => step (by omega) y 0 (fun x => by omega), fun u => ?_⟩, fun z => fin (by have := sy_b (t l); omega)⟩)
    rw [b1]
    refine fun _ => ⟨4000, aC1, by omega, by omega, fun _ => ?_⟩
    rw [b4 l (by omega) y]
    exact sX9_sixBits (by omega) (fun _ => fun _ => step (by omega) y _ (fun _ => rfl))
  · show PX9_scanName_235 J i l2 cd e l6 w G' Q
    exact ending e cd l6 w G' m i1 i2 i3 i4 i5 i6 i7 i8 i9 i10 i11 i12 (Nat.le_refl _)
end LWA

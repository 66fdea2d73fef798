section LWD
variable {G : gS} {Q : Int → gS → Prop} {t : Int → Int} {n k : Int}
-- k tokens of the class stand in their rows
def CT1 (G : gS) (n : Int) (t : Int → Int) (b x : Int) : Prop := Sk t n b (G 10 x) ∧ G 10 x < n ∧ CTok t (G 10 x) (G 11 x) (G 9 x) (G 12 x) ∧ G 10 x < G 11 x ∧ G 11 x ≤ n
def pv (G : gS) (k : Int) : Int := if k = 0 then 0 else G 11 (k - 1)
def CTs (G : gS) (n : Int) (t : Int → Int) (k : Int) : Prop := ∀ j, 0 ≤ j → j < k → CT1 G n t (pv G j) j
def CTg (G : gS) (k : Int) : Prop := ∀ j, 0 ≤ j → j < k → G 9 j ≠ 1
def FA (G G' : gS) : Prop := ∀ c j, ¬ ((9 ≤ c ∧ c ≤ 12) ∧ 0 ≤ j ∧ j < 704) → ¬ (c = 7 ∧ 5 ≤ j ∧ j ≤ 8) → G' c j = G c j
-- all tokens are there, an end behind them
def CTE (G G' : gS) (n : Int) (t : Int → Int) (k : Int) : Prop := FA G G' ∧ CB G' n k t ∧ 0 ≤ k ∧ k ≤ 702 ∧ G' 7 8 = 0 ∧ CTs G' n t k ∧ CTg G' (k - 1) ∧ G' 9 k = 0 ∧ G' 10 k = n ∧ G' 11 k = n ∧ ((1 ≤ k ∧ G' 9 (k - 1) = 1) ∨ k = 702 ∨ Sk t n (pv G' k) n)
theorem sX9_scanAll (hw : WC G) (ht : Tx t n) (hT : ∀ i, 0 ≤ i → i < n → G 1 i = t i) (hQ : ∀ k G', CTE G G' n t k → Q 0 G') : PX9_scanAll 1 n G Q := by
  have hn := ht.2.1
  have hn0 := ht.1
  refine ⟨4000000000, Nat.le_refl _, ?_⟩
  show PX9_scanAll_0 (PX9_scanAll_J 4000000000) 1 n G Q
  unfold PX9_scanAll_0
  refine ⟨Or.inr ⟨4000, aC1⟩, fun G1 e1 G2 e2 G3 e3 G4 e4 => ?_⟩
  have f4 : ∀ c j, ¬ (c = 7 ∧ 5 ≤ j ∧ j ≤ 8) → G4 c j = G c j := fun c j x => by
    rw [e4, e3, e2, e1, uG_ne (by omega), uG_ne (by omega), uG_ne (by omega), uG_ne (by omega)]
  have c4 : CB G4 n 0 t := ⟨by rw [e4, e3, e2, e1, uG_j (by decide), uG_j (by decide), uG_j (by decide), uG_at], by rw [e4, e3, e2, uG_j (by decide), uG_j (by decide), uG_at], by rw [e4, e3, uG_j (by decide), uG_at], fun i a b => by rw [f4 1 i (by omega)]; exact hT i a b⟩
  have w4 : WC G4 := fun w a b => by rw [f4 8 w (by omega)]; exact hw w a b
  have at0 : G4 7 8 = 0 := by rw [e4, uG_at]
  refine lpB (B := BX9_scanAll) (PJ := PX9_scanAll_J) (fun _ _ _ _ _ => rfl) (fun m h L G' => h = 0 ∧ ∃ i u k : Int, L = [1, n, i, u] ∧ FA G G' ∧ CB G' n k t ∧ WC G' ∧ G' 7 8 = 0 ∧ 0 ≤ k ∧ k ≤ u ∧ u ≤ 702 ∧ CTs G' n t k ∧ CTg G' (k - 1) ∧ (0 ≤ i → u = k ∧ i = pv G' k ∧ i ≤ n ∧ CTg G' k) ∧ (i < 0 → (1 ≤ k ∧ G' 9 (k - 1) = 1) ∨ Sk t n (pv G' k) n) ∧ (m : Int) = 702 - u) ?_ 4000000000 702 0 [1, n, 0, 0] G4 (by omega) ⟨rfl, 0, 0, 0, rfl, fun c j x y => f4 c j y, c4, w4, at0, by omega, by omega, by omega, fun j a b => by omega, fun j a b => by omega, fun _ => ⟨rfl, rfl, hn0, fun j a b => by omega⟩, fun x => by omega, by omega⟩
  rintro J m h L G' ⟨rfl, i, u, k, rfl, i1, i2, i3, i4, i5, i6, i7, i8, i9, i10, i11, i12⟩ hj
  show PX9_scanAll_25 J 1 n i u G' Q
  have c := i2
  obtain ⟨c1, c2, c3, c4⟩ := i2
  have fin : k ≤ 702 → ((1 ≤ k ∧ G' 9 (k - 1) = 1) ∨ k = 702 ∨ Sk t n (pv G' k) n) → PX9_scanAll_49 J 1 n i u G' Q := fun z y => by
    unfold PX9_scanAll_49
    rw [c3]
    refine fun _ => ⟨i5, by omega, fun G5 e5 => ?_⟩
    have d1 : G5 7 5 = k := by rw [e5, uG_c (by decide)]; exact c3
    have d2 : G5 7 7 = n := by rw [e5, uG_c (by decide)]; exact c2
    rw [d1, d2]
    refine fun _ => fun _ => ⟨i5, by omega, fun G6 e6 => ?_⟩
    have d3 : G6 7 5 = k := by rw [e6, uG_c (by decide)]; exact d1
    have d4 : G6 7 7 = n := by rw [e6, uG_c (by decide)]; exact d2
    rw [d3, d4]
    refine fun _ => fun _ => ⟨i5, by omega, fun G7 e7 => ?_⟩
    have ff : ∀ c j, ¬ ((c = 9 ∨ c = 10 ∨ c = 11) ∧ j = k) → G7 c j = G' c j := fun c j x => by
      rw [e7, e6, e5, uG_ne (by omega), uG_ne (by omega), uG_ne (by omega)]
    have pvj : ∀ j, 0 ≤ j → j ≤ k → pv G7 j = pv G' j := fun j a b => by
      unfold pv
      split
      · rfl
      · rw [ff 11 (j - 1) (by omega)]
    refine hQ k G7 ⟨fun c j x y => ?_, ⟨by rw [ff _ _ (by omega)]; exact c1, by rw [ff _ _ (by omega)]; exact c2, by rw [ff _ _ (by omega)]; exact c3, fun i a b => by rw [ff _ _ (by omega)]; exact c4 i a b⟩, i5, z, by rw [ff _ _ (by omega)]; exact i4, fun j a b => ?_, fun j a b => by rw [ff _ _ (by omega)]; exact i9 j a b, by rw [e7, e6, e5, uG_c (by decide), uG_c (by decide), uG_at], by rw [e7, e6, uG_c (by decide), uG_at], by rw [e7, uG_at], ?_⟩
    · rw [ff c j (by omega)]; exact i1 c j x y
    · have := i8 j a b
      unfold CT1 at *
      rw [pvj j a (by omega), ff 9 j (by omega), ff 10 j (by omega), ff 11 j (by omega), ff 12 j (by omega)]
      exact this
    · rcases y with y | y | y
      · exact Or.inl ⟨y.1, by rw [ff _ _ (by omega)]; exact y.2⟩
      · exact Or.inr (Or.inl y)
      · exact Or.inr (Or.inr (by rw [pvj k i5 (by omega)]; exact y))
  unfold PX9_scanAll_25
  refine ⟨fun z => ⟨fun y => fin (by omega) (by rcases i11 y with x | x; exact Or.inl x; exact Or.inr (Or.inr x)), fun y => ?_⟩, fun z => ?_⟩
  · obtain ⟨j1, j2, j3, j4⟩ := i10 (by omega)
    refine sX9_scan c ht i3 (by omega) j3 i5 (by omega) (fun hs => fun _ => ⟨by unfold inI; omega, ?_⟩) (fun r G1 hr => fun _ => ⟨by unfold inI; omega, ?_⟩)
    · exact hj (m - 1) 0 _ _ (by omega) ⟨rfl, -2, u + 1, k, rfl, i1, c, i3, i4, i5, by omega, by omega, i8, i9, fun x => by omega, fun _ => Or.inr (by rw [← j2]; exact hs), by omega⟩
    · obtain ⟨a, e, r1, r2, r3, r4, r5, r6, r7, r8, r9, r10, r11⟩ := hr
      have pvj : ∀ j, 0 ≤ j → j ≤ k → pv G1 j = pv G' j := fun j x y => by
        unfold pv
        split
        · rfl
        · rw [r7 11 (j - 1) (by omega) (by omega)]
      have pvk : pv G1 (k + 1) = e := by
        unfold pv
        rw [if_neg (by omega), show k + 1 - 1 = k by omega]; exact r5
      have hT1 : CTs G1 n t (k + 1) := fun j x y => by
        rcases (show j < k ∨ j = k by omega) with w | w
        · have := i8 j x w
          unfold CT1 at *
          rw [pvj j x (by omega), r7 9 j (by omega) (by omega), r7 10 j (by omega) (by omega), r7 11 j (by omega) (by omega), r7 12 j (by omega) (by omega)]
          exact this
        · rw [w]
          unfold CT1
          rw [pvj k i5 (by omega), r4, r5, ← j2]
          exact ⟨r1, r2, r3, r9, r8⟩
      have hG1 : CTg G1 k := fun j x y => by rw [r7 9 j (by omega) (by omega)]; exact j4 j x y
      have hFA : FA G G1 := fun c j x y => by
        rw [r7 c j (by omega) (by omega)]; exact i1 c j x y
      have hCB : CB G1 n (k + 1) t := ⟨by rw [r7 _ _ (by omega) (by omega)]; exact c1, by rw [r7 _ _ (by omega) (by omega)]; exact c2, r6, fun i x y => by rw [r7 _ _ (by omega) (by omega)]; exact c4 i x y⟩
      have hWC : WC G1 := fun w x y => by rw [r7 _ _ (by omega) (by omega)]; exact i3 w x y
      refine hj (m - 1) 0 _ _ (by omega) ⟨rfl, r, u + 1, k + 1, rfl, hFA, hCB, hWC, by rw [r7 _ _ (by omega) (by omega)]; exact i4, by omega, by omega, by omega, hT1, by rw [show k + 1 - 1 = k by omega]; exact hG1, fun x => ?_, fun x => Or.inl ⟨by omega, ?_⟩, by omega⟩
      · have n1 : G1 9 k ≠ 1 := fun w => by have := r10 w; omega
        refine ⟨by omega, by rw [pvk]; exact r11 n1, by rw [r11 n1]; exact r8, fun j x y => ?_⟩
        rcases (show j < k ∨ j = k by omega) with w | w
        · exact hG1 j x w
        · rw [w]; exact n1
      · rw [show k + 1 - 1 = k by omega]
        rcases Classical.em (G1 9 k = 1) with w | w
        · exact w
        · have := r11 w; have := r2; have := r1.1; omega
  · by_cases y : 0 ≤ i
    · obtain ⟨j1, j2, j3, j4⟩ := i10 y
      exact fin (by omega) (Or.inr (Or.inl (by omega)))
    · rcases i11 (by omega) with x | x
      · exact fin (by omega) (Or.inl x)
      · exact fin (by omega) (Or.inr (Or.inr x))
end LWD

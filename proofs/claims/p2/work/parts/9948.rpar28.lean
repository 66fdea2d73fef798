section RP28
variable {B G G' : gS} {s N d i i' a m c j sc h0 : Int} {tk cd : Int → Int} {q r : RR}
/-- the first n MEMBERS of class c -/
def RIt (B : gS) (s : Int) (tk : Int → Int) (sc c h0 i : Int) (n : Nat) (G : gS) : Prop := ∀ j : Nat, j < n → ∃ lo hi, 0 ≤ lo ∧ hi ≤ i ∧ RmP B s tk sc (c * 34 + j) j (aIt tk h0 j) lo hi G
theorem RIt_F {n : Nat} (h : RIt B s tk sc c h0 i n G) (hi : i ≤ i') (h1 : ∀ x y, 16116 ≤ x → x ≤ 16142 → c * 34 ≤ y → y < c * 34 + n → G' x y = G x y) (h3 : ∀ x y, 16130 ≤ x → x ≤ 16133 → 4 * (c * 34) ≤ y → y < 4 * (c * 34 + n) → G' x y = G x y) (h2 : ∀ x y, 16144 ≤ x → x ≤ 16155 → s * 1700 ≤ y → y < s * 1700 + i → G' x y = G x y) : RIt B s tk sc c h0 i' n G' := fun j hj => by
  obtain ⟨lo, hi', x1, x2, x3⟩ := h j hj
  exact ⟨lo, hi', x1, by omega, RmP_F x3 (fun x y1 y2 => h1 _ _ y1 y2 (by omega) (by omega)) (fun x y y1 y2 y3 y4 => h3 _ _ y1 y2 (by omega) (by omega)) (fun x y y1 y2 y3 y4 => h2 _ _ y1 y2 (by omega) (by omega))⟩
def XJ (s i c x y : Int) : Prop := XR s i x y ∨ (x = 16115 ∧ y = c) ∨ (16116 ≤ x ∧ x ≤ 16142 ∧ ¬ (16130 ≤ x ∧ x ≤ 16133) ∧ c * 34 ≤ y ∧ y < c * 34 + 34) ∨ (16130 ≤ x ∧ x ≤ 16133 ∧ 4 * (c * 34) ≤ y ∧ y < 4 * (c * 34) + 136)
theorem XJ_I {G1 G2 : gS} (hj : 0 ≤ j ∧ j ≤ 20) (f : FR (XI s i c (c * 34 + j)) G1 G2) : FR (XJ s i c) G1 G2 := FR_mono (fun x y u => by
  unfold XI XM at u
  unfold XJ
  rcases u with (u | u | u) | u
  · exact Or.inl u
  · exact Or.inr (Or.inr (Or.inl ⟨u.1, u.2.1, u.2.2.1, by omega, by omega⟩))
  · exact Or.inr (Or.inr (Or.inr ⟨u.1, u.2.1, by omega, by omega⟩))
  · exact Or.inr (Or.inl u)) f
theorem XJ_mono {i1 : Int} {G1 G2 : gS} (hi : i ≤ i1) (f : FR (XJ s i1 c) G1 G2) : FR (XJ s i c) G1 G2 := FR_mono (fun _ _ u => u.elim (fun v => Or.inl (XR_mono hi v)) Or.inr) f
theorem XJ_r {i1 : Int} {G1 G2 : gS} (hi : i ≤ i1) (f : FR (XR s i1) G1 G2) : FR (XJ s i c) G1 G2 := FR_mono (fun _ _ u => Or.inl (XR_mono hi u)) f
theorem ritems_loop {l1 l2 l3 : Int} (hK : TKp B s N tk cd) (hc : 0 ≤ c ∧ c < 216) : ∀ (f F j : Nat) (k : Int) (G : gS) (a i : Int) (Q : Int → gS → Prop), f + j = 22 → f + 2 ≤ F → j ≤ 20 → k = j → RM B s N 0 G (0, a) i → 0 ≤ i → i ≤ a + 2 → G 16115 c = k → G 16101 c = sc → a = aIt tk h0 j → RIt B s tk sc c h0 i j G →
    (∀ G' i', RM B s N 0 G' (pitems tk f k a) i' → i ≤ i' → FR (XJ s i c) G G' → ((pitems tk f k a).1 = 0 → i' ≤ i + ((pitems tk f k a).2 - a) ∧ a < (pitems tk f k a).2 ∧ G' 16115 c = k + nItL tk f k a ∧ j + nItL tk f k a ≤ 20 ∧ RIt B s tk sc c h0 i' (j + nItL tk f k a) G') → Q 0 G') → PX13_klass_405 (PX13_klass_J F) l1 l2 l3 c G Q
  | 0, F, j, k, G, a, i, Q, h1, _, h2, _, _, _, _, _, _, _, _, _ => by omega
  | f + 1, F, j, k, G, a, i, Q, hf, hF, hj, hk, h, hi0, hia, h15, hs, ha, hI, hQ => by
    obtain ⟨F', rfl⟩ : ∃ F', F = F' + 1 := ⟨F - 1, by omega⟩
    have spec : pitems tk (f + 1) k a = if tk a = 225 then ptake a else pb (pitem tk k a) (pitems tk f (k + 1)) := rfl
    have sn : nItL tk (f + 1) k a = if tk a = 225 then 0 else nItL tk f (k + 1) (pitem tk k a).2 + 1 := rfl
    unfold PX13_klass_405 PX13_klass_430
    refine fun _ => ⟨fun _ => rSg (k := 225) hK h rfl (Or.inl ⟨by unfold sg; omega, rfl⟩) (fun z => fun _ => ⟨fun u => absurd u (by decide), fun _ => ?_⟩) (fun z => fun _ => ⟨fun _ => ?_, fun u => absurd rfl u⟩), fun u => absurd ((RM_fl h).mpr rfl) u⟩
    · change tk a = 225 at z
      rw [if_pos z] at spec sn
      rw [spec, sn] at hQ
      refine rWantSign (k := 225) hK h (Or.inl ⟨by unfold sg; omega, rfl⟩) (fun G1 h1 f1 => ?_)
      have e1 : pb ((0 : Int), a) (pneed tk 225) = ptake a := if_pos z
      rw [e1] at h1
      refine hQ G1 i h1 (Int.le_refl _) (XJ_r (Int.le_refl _) f1) (fun w => ?_)
      have ed := (ptake_le (a := a)).2.2 w
      refine ⟨by omega, by omega, ?_, by omega, ?_⟩
      · rw [f1 _ _ (by unfold XR; omega), h15]; omega
      · exact RIt_F hI (Int.le_refl _) (fun x y y1 y2 y3 y4 => f1 _ _ (by unfold XR; omega)) (fun x y y1 y2 y3 y4 => f1 _ _ (by unfold XR; omega)) (fun x y y1 y2 y3 y4 => f1 _ _ (by unfold XR; omega))
    · change tk a ≠ 225 at z
      rw [if_neg z] at spec sn
      refine rmember_ok hK hc rfl h hi0 hia ⟨h15, by omega, by omega⟩ hs (fun G1 i1 h1 c1 f1 c3 => ?_)
      have f1' := XJ_I ⟨by omega, by omega⟩ f1
      show PX13_klass_405 (PX13_klass_J F') l1 l2 l3 c G1 Q
      by_cases e : (pitem tk k a).1 = 0
      · obtain ⟨b1, b2, b3, b4, b5⟩ := c3 e
        have h1' : RM B s N 0 G1 (0, (pitem tk k a).2) i1 := RM_eq h1 e rfl
        rw [pb_0 e] at spec
        rw [spec, sn] at hQ
        have sc1 : G1 16101 c = sc := by rw [f1' _ _ (by unfold XJ XR; omega)]; exact hs
        refine ritems_loop hK hc f F' (j + 1) (k + 1) G1 _ i1 Q (by omega) (by omega) (by omega) (by omega) h1' (by omega) (by omega) b3 sc1 ?_ (fun j' hj' => ?_) (fun G2 i2 h2 d1 f2 d3 => hQ G2 i2 h2 (by omega) (FR_tr f1' (XJ_mono c1 f2)) (fun w => ?_))
        · show (pitem tk k a).2 = (pitem tk j (aIt tk h0 j)).2
          rw [← ha, hk]
        · by_cases y : j' < j
          · refine RIt_F hI c1 (fun x y y1 y2 y3 y4 => f1 _ _ ?_) (fun x y y1 y2 y3 y4 => f1 _ _ ?_) (fun x y y1 y2 y3 y4 => f1 _ _ ?_) j' y
            · unfold XI XM XR; omega
            · unfold XI XM XR; omega
            · unfold XI XM XR; omega
          · have ej : j' = j := by omega
            subst ej
            rw [← ha, ← hk]
            exact ⟨i, i1, hi0, Int.le_refl _, b5⟩
        · obtain ⟨g1, g2, g3, g4, g5⟩ := d3 w
          refine ⟨by omega, by omega, by rw [g3]; omega, by omega, ?_⟩
          rw [show j + (nItL tk f (k + 1) (pitem tk k a).2 + 1) = j + 1 + nItL tk f (k + 1) (pitem tk k a).2 by omega]
          exact g5
      · have e2 : pitems tk (f + 1) k a = pitem tk k a := by rw [spec, pb_n e]
        rw [e2] at hQ
        unfold PX13_klass_405 PX13_klass_430
        refine fun _ => ⟨fun u => absurd ((RM_fl h1).mp u) e, fun _ => rWantSign (k := 225) hK h1 (Or.inl ⟨by unfold sg; omega, rfl⟩) (fun G2 h2 f2 => hQ G2 i1 ?_ c1 (FR_tr f1' (XJ_r c1 f2)) (fun w => absurd w e))⟩
        rw [pb_n e] at h2
        exact h2
end RP28

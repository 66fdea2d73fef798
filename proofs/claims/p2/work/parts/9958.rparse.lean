section RP33
variable {B G G' : gS} {s N d i i' a m c c2 j k h0 : Int} {tk cd : Int → Int} {q r : RR}
theorem RhP_F2 {e : Int} (hc : 0 ≤ c) (hc2 : c < c2) (h : RhP B s tk c e G) (f : ∀ x y, XKl s i c2 x y ∨ G' x y = G x y) : RhP B s tk c e G' := by
  have g : ∀ x y, 16102 ≤ x → x ≤ 16114 → y = c ∨ (x = 16104 ∨ x = 16105) ∧ y < 4 * c + 4 ∨ (x = 16109 ∨ x = 16110 ∨ x = 16112 ∨ x = 16113) ∧ y < 8 * c + 8 → G' x y = G x y := fun x y u1 u2 u3 => by
    rcases f x y with u | u
    · exfalso
      unfold XKl XJ XH XR at u
      omega
    · exact u
  obtain ⟨⟨a1, a2⟩, ⟨b1, b2, b3⟩, ⟨c1, c2'⟩, ⟨d1, d2, d3⟩, ⟨e1, e2, e3⟩⟩ := h
  refine ⟨⟨by rw [g _ _ (by omega) (by omega) (by omega)]; exact a1, by rw [g _ _ (by omega) (by omega) (by omega)]; exact a2⟩, ⟨by rw [g _ _ (by omega) (by omega) (by omega)]; exact b1, b2, fun y y0 y1 => by rw [g _ _ (by omega) (by omega) (by omega), g _ _ (by omega) (by omega) (by omega)]; exact b3 y y0 y1⟩, ⟨by rw [g _ _ (by omega) (by omega) (by omega)]; exact c1, by rw [g _ _ (by omega) (by omega) (by omega)]; exact c2'⟩, ⟨by rw [g _ _ (by omega) (by omega) (by omega)]; exact d1, d2, fun y y0 y1 => by rw [g _ _ (by omega) (by omega) (by omega), g _ _ (by omega) (by omega) (by omega)]; exact d3 y y0 y1⟩, ⟨by rw [g _ _ (by omega) (by omega) (by omega)]; exact e1, e2, fun y y0 y1 => by rw [g _ _ (by omega) (by omega) (by omega), g _ _ (by omega) (by omega) (by omega)]; exact e3 y y0 y1⟩⟩
theorem RcP_F2 (hc : 0 ≤ c) (hc2 : c < c2) (h : RcP B s tk c a h0 i G) (hi : i ≤ i') (f : ∀ x y, XKl s i c2 x y ∨ G' x y = G x y) : RcP B s tk c a h0 i' G' := by
  have g : ∀ x y, ¬ XKl s i c2 x y → G' x y = G x y := fun x y u => (f x y).elim (fun v => absurd v u) id
  obtain ⟨x1, x2, x3, x4, x5, x6, x7, x8⟩ := h
  refine ⟨?_, ?_, ?_, ?_, RhP_F2 hc hc2 x5 f, ?_, x7, RIt_F x8 hi (fun x y y1 y2 y3 y4 => g x y ?_) (fun x y y1 y2 y3 y4 => g x y ?_) (fun x y y1 y2 y3 y4 => g x y ?_)⟩
  · rw [g _ _ (by unfold XKl XJ XH XR; omega)]; exact x1
  · rw [g _ _ (by unfold XKl XJ XH XR; omega)]; exact x2
  · rw [g _ _ (by unfold XKl XJ XH XR; omega)]; exact x3
  · rw [g _ _ (by unfold XKl XJ XH XR; omega)]; exact x4
  · rw [g _ _ (by unfold XKl XJ XH XR; omega)]; exact x6
  · unfold XKl XJ XH XR; omega
  · unfold XKl XJ XH XR; omega
  · unfold XKl XJ XH XR; omega
/-- the first K classes of a text in slot s -/
def RAll (B : gS) (s : Int) (tk : Int → Int) (i : Int) (K : Nat) (G : gS) : Prop := ∀ k : Nat, k < K → RcP B s tk (s * 12 + k) (aCl tk k) (hIt tk k (aCl tk k)) i G
/-- all that reading a text writes -/
def XW (s x y : Int) : Prop := XR s 0 x y ∨ (x = 16097 ∧ y = s) ∨ ((16098 ≤ x ∧ x ≤ 16103 ∨ 16106 ≤ x ∧ x ≤ 16108 ∨ x = 16111 ∨ x = 16114 ∨ x = 16115) ∧ s * 12 ≤ y ∧ y < s * 12 + 12) ∨ ((x = 16104 ∨ x = 16105) ∧ s * 48 ≤ y ∧ y < s * 48 + 48) ∨ ((x = 16109 ∨ x = 16110 ∨ x = 16112 ∨ x = 16113) ∧ s * 96 ≤ y ∧ y < s * 96 + 96) ∨ (16116 ≤ x ∧ x ≤ 16142 ∧ ¬ (16130 ≤ x ∧ x ≤ 16133) ∧ s * 408 ≤ y ∧ y < s * 408 + 408) ∨ (16130 ≤ x ∧ x ≤ 16133 ∧ s * 1632 ≤ y ∧ y < s * 1632 + 1632)
theorem XW_k {G1 G2 : gS} (hi : 0 ≤ i) (hk : 0 ≤ k) (f : FR (XKk s i k (s * 12 + k)) G1 G2) : FR (XW s) G1 G2 := FR_mono (fun x y u => by
  unfold XKk at u
  rcases u with u | ⟨u0, u⟩
  · exact Or.inl (XR_mono hi u)
  · unfold XKl XJ XH at u
    rcases u with (u | u | u | u) | (u | u | u | u | u)
    · exact Or.inl (XR_mono hi u)
    · unfold XW; omega
    · unfold XW; omega
    · unfold XW; omega
    · exact Or.inl (XR_mono hi u)
    · unfold XW; omega
    · unfold XW; omega
    · unfold XW; omega
    · unfold XW; omega) f
def PrR (B : gS) (s : Int) (tk : Int → Int) (i : Int) (G : gS) : Prop := ∃ K : Nat, K ≤ 12 ∧ G 16097 s = K ∧ tk (aCl tk K) = 0 ∧ (ptext tk 12).2 = aCl tk K ∧ (∀ k : Nat, k < K → aCl tk k < aCl tk (k + 1)) ∧ RAll B s tk i K G
theorem rparse_loop (hK : TKp B s N tk cd) : ∀ (f F kn : Nat) (k : Int) (G : gS) (a i : Int) (Q : Int → gS → Prop), f + kn = 702 → f + 2 ≤ F → kn ≤ 12 → k = kn → RM B s N 0 G (0, a) i → 0 ≤ i → i ≤ a + 2 → G 16097 s = k → a = aCl tk kn → ptext tk 12 = pclasses tk 12 f k a → (∀ k : Nat, k < kn → aCl tk k < aCl tk (k + 1)) → RAll B s tk i kn G →
    (∀ G' i', RM B s N 0 G' (ptext tk 12) i' → i ≤ i' → FR (XW s) G G' → ((ptext tk 12).1 = 0 → PrR B s tk i' G') → Q 0 G') → PX13_parse_30 (PX13_parse_J F) G Q
  | 0, F, kn, k, G, a, i, Q, h1, _, h2, _, _, _, _, _, _, _, _, _, _ => by omega
  | f + 1, F, kn, k, G, a, i, Q, hf, hF, hkn, hk, h, hi0, hia, h97, ha, hp, hm, hA, hQ => by
    obtain ⟨F', rfl⟩ : ∃ F', F = F' + 1 := ⟨F - 1, by omega⟩
    have hs0 := hK.1
    have spec : pclasses tk 12 (f + 1) k a = if tk a = 0 then (0, a) else pb (phead tk 12 k a) fun b => pb (pitems tk 22 0 b) (pclasses tk 12 f (k + 1)) := rfl
    have t := TR_k (hK.2.2.2.2.2.1 a h.2.1 h.2.2.1)
    unfold PX13_parse_30 PX13_parse_55
    rw [RM_p h rfl]
    refine fun _ => ⟨fun _ => fun _ => rKind hK h.1 h.2.1 h.2.2.1 (fun _ => fun _ => ⟨fun z => ?_, fun z => ?_⟩), fun u => absurd ((RM_fl h).mpr rfl) u⟩
    · have z0 := t.1.mp z
      rw [if_pos z0] at spec
      have hp' := hp.trans spec
      refine hQ G i (by rw [hp']; exact h) (Int.le_refl _) FR_id (fun _ => ⟨kn, hkn, by rw [h97, hk], by rw [← ha]; exact z0, by rw [hp', ← ha], hm, hA⟩)
    · have z0 : ¬ tk a = 0 := fun u => z (t.1.mpr u)
      rw [if_neg z0, ← pb_pb] at spec
      refine rklass_ok hK h hi0 hia ⟨h97, by omega, by omega⟩ (fun G1 i1 h1 c1 f1 c3 => ?_)
      have f1' := XW_k hi0 (by omega) f1
      show PX13_parse_30 (PX13_parse_J F') G1 Q
      by_cases e : (pb (phead tk 12 k a) (pitems tk 22 0)).1 = 0
      · obtain ⟨b1, b2, b3, b4, b5⟩ := c3 e
        rw [pb_0 e] at spec
        have h1' : RM B s N 0 G1 (0, (pb (phead tk 12 k a) (pitems tk 22 0)).2) i1 := RM_eq h1 e rfl
        have ea : (pb (phead tk 12 k a) (pitems tk 22 0)).2 = aCl tk (kn + 1) := by
          rw [pb_0 (pb_z e).1]
          show _ = (pitems tk 22 0 (hIt tk kn (aCl tk kn))).2
          rw [← ha, ← hk]; rfl
        refine rparse_loop hK f F' (kn + 1) (k + 1) G1 _ i1 Q (by omega) (by omega) (by omega) (by omega) h1' (by omega) (by omega) b4 ea (hp.trans spec) (fun x hx => ?_) (fun x hx => ?_) (fun G2 i2 h2 d1 f2 d3 => hQ G2 i2 h2 (by omega) (FR_tr f1' f2) d3)
        · by_cases y : x < kn
          · exact hm x y
          · have ex : x = kn := by omega
            subst ex
            rw [← ea, ← ha]; exact b2
        · by_cases y : x < kn
          · refine RcP_F2 (c2 := s * 12 + k) (by omega) (by omega) (hA x y) c1 (fun u v => ?_)
            by_cases w : XKl s i (s * 12 + k) u v
            · exact Or.inl w
            · refine Or.inr (f1 u v (fun w2 => ?_))
              rcases w2 with w2 | w2
              · exact w (Or.inl (Or.inl w2))
              · exact w w2.2
          · have ex : x = kn := by omega
            subst ex
            rw [← ha, ← hk]; exact b5
      · have sp2 : pclasses tk 12 (f + 1) k a = pb (phead tk 12 k a) (pitems tk 22 0) := by rw [spec, pb_n e]
        have hp' := hp.trans sp2
        unfold PX13_parse_30 PX13_parse_55
        refine fun _ => ⟨fun u => absurd ((RM_fl h1).mp u) e, fun _ => hQ G1 i1 (by rw [hp']; exact h1) c1 f1' (fun w => absurd (by rw [← hp']; exact w) e)⟩
theorem rparse_ok {Q : Int → gS → Prop} (hK : TKp B s N tk cd) (hT : TE B G s N) (hf : G 16081 20 = 0) (hQ : ∀ G' i', RM B s N 0 G' (ptext tk 12) i' → FR (XW s) G G' → ((ptext tk 12).1 = 0 → PrR B s tk i' G') → Q 0 G') : PX13_parse G Q := by
  have hs0 := hK.1
  have hs1 := hK.2.1
  have hN := hK.2.2.2.1
  unfold PX13_parse PX13_parse_0
  refine ⟨800, by omega, fun G1 e1 => fun G2 e2 => ?_⟩
  have g2 : ∀ x y, ¬ (x = 16081 ∧ (y = 22 ∨ y = 89)) → G2 x y = G x y := fun x y u => by rw [e2, uG_ne (by omega), e1, uG_ne (by omega)]
  have g19 : G2 16081 19 = s := by rw [g2 _ _ (by omega)]; exact hT.1
  rw [g19]
  refine fun _ => ⟨hs0, hs1, fun G3 e3 => ?_⟩
  have g3 : ∀ x y, ¬ (x = 16097 ∧ y = s) → G3 x y = G2 x y := fun x y u => by rw [e3, uG_ne (by omega)]
  rw [g3 16081 19 (by omega), g19]
  refine fun _ => ⟨hs0, hs1, fun G4 e4 => ?_⟩
  have g4 : ∀ x y, ¬ (x = 16143 ∧ y = s) → G4 x y = G3 x y := fun x y u => by rw [e4, uG_ne (by omega)]
  have all : ∀ x y, ¬ (x = 16081 ∧ (y = 22 ∨ y = 89)) → ¬ (x = 16097 ∧ y = s) → ¬ (x = 16143 ∧ y = s) → G4 x y = G x y := fun x y u1 u2 u3 => by rw [g4 x y u3, g3 x y u2, g2 x y u1]
  have p22 : G4 16081 22 = 0 := by rw [g4 _ _ (by omega), g3 _ _ (by omega), e2, uG_j (by omega), e1, uG_at]
  have h : RM B s N 0 G4 (0, 0) 0 := by
    refine ⟨⟨by rw [all _ _ (by omega) (by omega) (by omega)]; exact hT.1, fun x x0 x1 => ?_⟩, Int.le_refl _, by show (0 : Int) < N; omega, by rw [p22]; exact Int.le_refl _, by rw [p22]; omega, fun _ => ⟨by rw [all _ _ (by omega) (by omega) (by omega)]; exact hf, p22⟩, fun u => absurd rfl u, by rw [e4, uG_at], ?_⟩
    · rw [all _ _ (by omega) (by omega) (by omega), all _ _ (by omega) (by omega) (by omega), all _ _ (by omega) (by omega) (by omega), all _ _ (by omega) (by omega) (by omega)]
      exact hT.2 x x0 x1
    · rw [g4 _ _ (by omega), g3 _ _ (by omega), e2, uG_at]
  have f4 : FR (XW s) G G4 := fun x y u => all x y (fun v => u (by unfold XW XR; omega)) (fun v => u (by unfold XW XR; omega)) (fun v => u (by unfold XW XR; omega))
  exact rparse_loop hK 702 800 0 0 G4 0 0 Q (by omega) (by omega) (by omega) rfl h (by omega) (by omega) (by rw [g4 _ _ (by omega), e3, uG_at]) rfl rfl (fun x hx => absurd hx (by omega)) (fun x hx => absurd hx (by omega)) (fun G5 i5 h5 _ f5 d5 => hQ G5 i5 h5 (FR_tr f4 f5) d5)
end RP33

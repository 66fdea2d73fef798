section RP19
variable {B G G' : gS} {s N d i i' a m : Int} {tk cd : Int → Int} {q r : RR}
theorem RM_put2 {c j v : Int} (h : RM B s N d G q i) (hc : 16095 ≤ c) (hc2 : c ≠ 16143) : RM B s N d (uG G c j v) q i := by
  obtain ⟨⟨t0, t1⟩, h1, h2, h3, h4, h5, h6, h7, h8⟩ := h
  refine ⟨⟨by rw [uG_c (by omega)]; exact t0, fun a x y => ?_⟩, h1, h2, by rw [uG_c (by omega)]; exact h3, by rw [uG_c (by omega)]; exact h4, fun z => by rw [uG_c (by omega), uG_c (by omega)]; exact h5 z, fun z => by rw [uG_c (by omega), uG_c (by omega), uG_c (by omega)]; exact h6 z, by rw [uG_c (by omega)]; exact h7, by rw [uG_c (by omega)]; exact h8⟩
  rw [uG_c (by omega), uG_c (by omega), uG_c (by omega), uG_c (by omega)]
  exact t1 a x y
def XP (s i m c j : Int) : Prop := XR s i c j ∨ (c = 16129 ∧ j = m) ∨ (16130 ≤ c ∧ c ≤ 16133 ∧ 4 * m ≤ j ∧ j < 4 * m + 4)
theorem XP_r (f : FR (XR s i) G G') : FR (XP s i m) G G' := FR_mono (fun _ _ h => Or.inl h) f
def ParR (B : gS) (s : Int) (tk : Int → Int) (m k n a : Int) (G : gS) : Prop := G 16129 m = k + n ∧ ∀ j, 0 ≤ j → j < n → G 16130 (4 * m + (k + j)) = rType B s tk (a + 3 * j) ∧ G 16131 (4 * m + (k + j)) = plR B s (a + 3 * j) ∧ G 16132 (4 * m + (k + j)) = nmR B s (a + 3 * j + 1) ∧ G 16133 (4 * m + (k + j)) = plR B s (a + 3 * j + 1)
theorem rpar_0 {J : JT} {Q : Int → gS → Prop} (hK : TKp B s N tk cd) (h : RM B s N d G q i) (hQ : ∀ G', RM B s N d G' (pb q (pneed tk 141)) i → FR (XR s i) G G' → Q 0 G') : PX13_params_40 J m 0 G Q := by
  unfold PX13_params_40
  exact ⟨fun _ => rWantSign hK h (Or.inl ⟨by unfold sg; omega, rfl⟩) hQ, fun z => absurd rfl z⟩
theorem nPar_1 {f : Nat} {a : Int} : 1 ≤ nPar tk (f + 1) a := by
  have n : ∀ (f : Nat) (a : Int), 0 ≤ nPar tk f a := fun f => by
    induction f with
    | zero => intro a; exact Int.le_refl _
    | succ f ih => intro a; unfold nPar; split; have := ih (a + 3); omega; omega
  unfold nPar
  have := n f (a + 3)
  split <;> omega
theorem rpar_loop (hK : TKp B s N tk cd) (hm : 0 ≤ m ∧ m < 7344) : ∀ (f F : Nat) (G : gS) (a k : Int) (Q : Int → gS → Prop), f + 3 ≤ F → 0 ≤ k → k ≤ 4 → 5 ≤ f + k → RM B s N d G (0, a) i → G 16129 m = k →
    (∀ G', RM B s N d G' (pparamsL tk f k a) i → FR (XP s i m) G G' → ((pparamsL tk f k a).1 = 0 → ParR B s tk m k (nPar tk f a) a G' ∧ k + nPar tk f a ≤ 4 ∧ ∀ c j, 16130 ≤ c → c ≤ 16133 → j < 4 * m + k → G' c j = G c j) → Q 0 G') → PX13_params_40 (PX13_params_J F) m 1 G Q
  | 0, F, G, a, k, Q, _, h1, h2, h3, _, _, _ => by exact absurd h3 (by show ¬ (5 : Int) ≤ 0 + k; omega)
  | f + 1, F, G, a, k, Q, hF, hk0, hk4, hf, h, hk, hQ => by
    obtain ⟨F', rfl⟩ : ∃ F', F = F' + 1 := ⟨F - 1, by omega⟩
    have hN := hK.2.2.2.2.1
    have ha0 : 0 ≤ a := h.2.1
    have haN : a < N := h.2.2.1
    have fl : G 16081 20 = 0 := (RM_fl h).mpr rfl
    have spec : pparamsL tk (f + 1) k a = (if tk a = 26 ∨ tk a = 2 then (if k < 4 then pb (ptake a) fun b => pb (pneed tk 3 b) fun c => if tk c = 144 then pb (ptake c) (pparamsL tk f (k + 1)) else pneed tk 141 c else (3, a)) else pmiss tk a) := rfl
    have sN : nPar tk (f + 1) a = (if tk (a + 2) = 144 then 1 + nPar tk f (a + 3) else 1) := rfl
    generalize hr0 : pparamsL tk (f + 1) k a = r0 at *
    -- one param, at place x, from q on (k: how many there are)
    have one : ∀ (q : RR) (G : gS) x, RM B s N d G q i → G 16129 m = k → 4 * m ≤ x → x < 4 * m + 4 → (q.1 = 0 → q.2 = a) → (q.1 = 0 ∨ q.1 ≠ 0 ∧ r0 = q) → (∀ G', FR (XP s i m) G G' → (∀ c j, 16130 ≤ c → c ≤ 16133 → j ≠ x → G' c j = G c j) → ((pb (pb q (ptype tk)) (pneed tk 3)).1 = 0 → RM B s N d G' (0, a + 2) i ∧ G' 16129 m = k + 1 ∧ G' 16130 x = rType B s tk a ∧ G' 16131 x = plR B s a ∧ G' 16132 x = nmR B s (a + 1) ∧ G' 16133 x = plR B s (a + 1)) → ((pb (pb q (ptype tk)) (pneed tk 3)).1 ≠ 0 → RM B s N d G' (pb (pb q (ptype tk)) (pneed tk 3)) i) → ∀ p t n, (inI (G' 16081 20) → ((G' 16081 20 = 0 → PX13_isSign 44 G' (fun r78 G77 => (0 ≤ r78 ∧ r78 ≤ 1) → ((r78 = 0 → PX13_params_206 (PX13_params_J (F' + 1)) m 1 n p t G77 Q) ∧ (¬ (r78 = 0) → PX13_params_207 (PX13_params_J (F' + 1)) m 1 n p t 1 G77 Q)))) ∧ (¬ (G' 16081 20 = 0) → PX13_params_206 (PX13_params_J (F' + 1)) m 1 n p t G' Q)))) → ∀ y z, y + z = x → 0 ≤ y → y < 40000 → PX13_params_103 (PX13_params_J (F' + 1)) m 1 k y z G Q := by
      intro q G x hR hk x0 x1 hq hq2 hC y z hyz hy hy2
      unfold PX13_params_103
      rw [hyz, RM_pp hR]
      have hqN := hR.2.2.1
      have hq0 := hR.2.1
      refine ⟨by unfold inI; omega, fun _ => rPlace hK hR.1 hq0 hqN (fun _ => ⟨by omega, by omega, fun G1 e1 => ?_⟩)⟩
      have hR1 : RM B s N d G1 q i := by rw [e1]; exact RM_put2 hR (by omega) (by omega)
      refine rTypeTok hK hR1 (fun t G2 hR2 f2 ht => fun _ => ⟨by omega, by omega, fun G3 e3 => ?_⟩)
      have hR3 : RM B s N d G3 (pb q (ptype tk)) i := by rw [e3]; exact RM_put2 hR2 (by omega) (by omega)
      refine rWant (k := 3) hK hR3 (Or.inr ⟨rfl, rfl⟩) (fun r4 G4 r0' r1 r2 hR4 f4 => fun _ => rName hK hR4.1 r0' r1 (fun _ => ⟨by omega, by omega, fun G5 e5 => ?_⟩))
      have hR5 : RM B s N d G5 (pb (pb q (ptype tk)) (pneed tk 3)) i := by rw [e5]; exact RM_put2 hR4 (by omega) (by omega)
      refine rPlace hK hR5.1 r0' r1 (fun _ => ⟨by omega, by omega, fun G6 e6 => ?_⟩)
      have hR6 : RM B s N d G6 (pb (pb q (ptype tk)) (pneed tk 3)) i := by rw [e6]; exact RM_put2 hR5 (by omega) (by omega)
      have fX : FR (XP s i m) G G6 := by
        rw [e6, e5]
        refine FR_up (FR_up (FR_tr ?_ (XP_r f4)) (Or.inr (Or.inr ⟨by omega, by omega, by omega, by omega⟩))) (Or.inr (Or.inr ⟨by omega, by omega, by omega, by omega⟩))
        rw [e3]
        refine FR_up (FR_tr ?_ (XP_r f2)) (Or.inr (Or.inr ⟨by omega, by omega, by omega, by omega⟩))
        rw [e1]
        exact FR_up FR_id (Or.inr (Or.inr ⟨by omega, by omega, by omega, by omega⟩))
      have w : ∀ c j, 16116 ≤ c → c ≤ 16142 → j ≠ x ∨ c = 16129 → G6 c j = G c j := fun c j y1 y2 y3 => by
        rw [e6, uG_ne (by omega), e5, uG_ne (by omega), f4 c j (by unfold XR; omega), e3, uG_ne (by omega), f2 c j (by unfold XR; omega), e1, uG_ne (by omega)]
      have v31 : G6 16131 x = B 16091 (s * 702 + q.2) := by rw [e6, uG_c (by omega), e5, uG_c (by omega), f4 _ _ (by unfold XR; omega), e3, uG_c (by omega), f2 _ _ (by unfold XR; omega), e1, uG_at]
      have v30 : G6 16130 x = t := by rw [e6, uG_c (by omega), e5, uG_c (by omega), f4 _ _ (by unfold XR; omega), e3, uG_at]
      have v32 : G6 16132 x = B 16093 (s * 702 + r4) := by rw [e6, uG_c (by omega), e5, uG_at]
      have v33 : G6 16133 x = B 16091 (s * 702 + r4) := by rw [e6, uG_at]
      refine fun _ => ⟨fun w0 => ?_, fun w0 => ?_⟩
      · have e := (RM_fl hR6).mp w0
        obtain ⟨e7, e8⟩ := pb_z e
        obtain ⟨e9, e10⟩ := pb_z e7
        have ea := hq e9
        have q7 : (pb q (ptype tk)).2 = a + 1 := by rw [pb_0 e9, ptype_1 e10, ea]
        have q8 : (pb (pb q (ptype tk)) (pneed tk 3)).2 = a + 2 := by rw [pb_0 e7, ((pneed_le).2.2 e8).1, q7]; omega
        have hr4 : r4 = a + 1 := by rw [r2 e7, q7]
        have ht' := ht e7
        rw [ea] at ht' v31
        unfold PX13_params_185
        refine ⟨by unfold inI; omega, 7344, aC16129, hm.1, hm.2, fun G7 e7' => ?_⟩
        have k7 : ∀ c j, ¬ (c = 16129 ∧ j = m) → G7 c j = G6 c j := fun c j y => by rw [e7', uG_ne (by omega)]
        refine hC G7 (by rw [e7']; exact FR_up fX (Or.inr (Or.inl ⟨rfl, rfl⟩))) (fun c j y1 y2 y3 => by rw [k7 _ _ (by omega), w c j (by omega) (by omega) (Or.inl y3)]) (fun _ => ⟨RM_eq (by rw [e7']; exact RM_put2 hR6 (by omega) (by omega)) e q8, by rw [e7', uG_at], by rw [k7 _ _ (by omega), v30]; exact ht', by rw [k7 _ _ (by omega), v31]; rfl, by rw [k7 _ _ (by omega), v32, hr4]; rfl, by rw [k7 _ _ (by omega), v33, hr4]; rfl⟩) (fun y => absurd e y) _ _ _
      · have e : (pb (pb q (ptype tk)) (pneed tk 3)).1 ≠ 0 := fun e => w0 ((RM_fl hR6).mpr e)
        unfold PX13_params_185
        refine ⟨7344, aC16129, hm.1, hm.2, fun G7 e7' => ?_⟩
        exact hC G7 (by rw [e7']; exact FR_up fX (Or.inr (Or.inl ⟨rfl, rfl⟩))) (fun c j y1 y2 y3 => by rw [e7', uG_c (by omega), w c j (by omega) (by omega) (Or.inl y3)]) (fun y => absurd y e) (fun _ => by rw [e7']; exact RM_put2 hR6 (by omega) (by omega)) _ _ _
    -- with a FAULT
    have out : ∀ G1, RM B s N d G1 r0 i → FR (XP s i m) G G1 → r0.1 ≠ 0 → ∀ p t n, PX13_params_206 (PX13_params_J (F' + 1)) m 1 n p t G1 Q := fun G1 x1 x2 x3 p t n => by
      unfold PX13_params_206 PX13_params_207 PX13_params_216
      refine ⟨fun _ => ?_, fun y => absurd rfl y⟩
      show PX13_params_40 (PX13_params_J F') m 0 G1 Q
      refine rpar_0 hK x1 (fun G2 hR2 f2 => hQ G2 ?_ (FR_tr x2 (XP_r f2)) (fun y => absurd y x3))
      rw [pb_n x3] at hR2; exact hR2
    have badC : ∀ (q : RR) (G1 G' : gS), FR (XP s i m) G G1 → q.1 ≠ 0 → r0 = q → FR (XP s i m) G1 G' → ((pb (pb q (ptype tk)) (pneed tk 3)).1 ≠ 0 → RM B s N d G' (pb (pb q (ptype tk)) (pneed tk 3)) i) → ∀ p t n, (inI (G' 16081 20) → ((G' 16081 20 = 0 → PX13_isSign 44 G' (fun r78 G77 => (0 ≤ r78 ∧ r78 ≤ 1) → ((r78 = 0 → PX13_params_206 (PX13_params_J (F' + 1)) m 1 n p t G77 Q) ∧ (¬ (r78 = 0) → PX13_params_207 (PX13_params_J (F' + 1)) m 1 n p t 1 G77 Q)))) ∧ (¬ (G' 16081 20 = 0) → PX13_params_206 (PX13_params_J (F' + 1)) m 1 n p t G' Q))) := fun q G1 G' x1 x2 x3 x4 x5 p t n => by
      have e : pb (pb q (ptype tk)) (pneed tk 3) = q := by rw [pb_n (by rw [pb_n x2]; exact x2), pb_n x2]
      rw [e] at x5
      have hR := x5 x2
      have fl' : G' 16081 20 ≠ 0 := fun y => x2 ((RM_fl hR).mp y)
      exact fun _ => ⟨fun y => absurd y fl', fun _ => out G' (by rw [x3]; exact hR) (FR_tr x1 x4) (by rw [x3]; exact x2) _ _ _⟩
    unfold PX13_params_40
    refine ⟨fun z => absurd z (by decide), fun _ => ⟨hm.1, hm.2, fun _ => ?_⟩⟩
    rw [hk]
    have go : k < 4 ∨ ¬ (tk a = 26 ∨ tk a = 2) → PX13_params_90 (PX13_params_J (F' + 1)) m 1 k G Q := fun hgo => by
      have main : ∀ x, 4 * m ≤ x → x < 4 * m + 4 → (k < 4 → x = 4 * m + k) → ∀ y z, y + z = x → 0 ≤ y → y < 40000 → PX13_params_103 (PX13_params_J (F' + 1)) m 1 k y z G Q := fun x x0 x1 x2 y z hyz hy hy2 => by
        by_cases zt : tk a = 26 ∨ tk a = 2
        · have k4 : k < 4 := hgo.elim id (fun u => absurd zt u)
          rw [if_pos zt, if_pos k4] at spec
          have sp : r0 = pb (pb (pb (0, a) (ptype tk)) (pneed tk 3)) fun c => if tk c = 144 then pb (ptake c) (pparamsL tk f (k + 1)) else pneed tk 141 c := by
            rw [spec, pb_pb]
            congr 1
            exact (if_pos zt).symm
          refine one (0, a) G x h hk x0 x1 (fun _ => rfl) (Or.inl rfl) (fun G1 f1 w1 hg hb p t n => ?_) y z hyz hy hy2
          by_cases e : (pb (pb (0, a) (ptype tk)) (pneed tk 3)).1 = 0
          · obtain ⟨hR1, v29, v30, v31, v32, v33⟩ := hg e
            have e2 : (pb (pb (0, a) (ptype tk)) (pneed tk 3)).2 = a + 2 := by
              obtain ⟨e7, e8⟩ := pb_z e
              obtain ⟨e9, e10⟩ := pb_z e7
              have q7 : (pb (0, a) (ptype tk)).2 = a + 1 := by rw [pb_0 e9, ptype_1 e10]
              rw [pb_0 e7, ((pneed_le).2.2 e8).1, q7]; omega
            rw [pb_0 e, e2] at sp
            have fl1 : G1 16081 20 = 0 := (RM_fl hR1).mpr rfl
            have hx := x2 k4
            refine fun _ => ⟨fun _ => rSg (k := 144) hK hR1 rfl (Or.inl ⟨by unfold sg; omega, rfl⟩) (fun zc => fun _ => ⟨fun u => absurd u (by decide), fun _ => ?_⟩) (fun zc => fun _ => ⟨fun _ => ?_, fun u => absurd rfl u⟩), fun u => absurd fl1 u⟩
            · change tk (a + 2) = 144 at zc
              rw [if_pos zc] at sp sN
              unfold PX13_params_207 PX13_params_216
              refine ⟨fun u => absurd u (by decide), fun _ => rStep hK hR1 (fun _ => by show tk (a + 2) ≠ 0 ∧ tk (a + 2) ≠ 1; omega) (fun G2 hR2 f2 => ?_)⟩
              change RM B s N d G2 (ptake (a + 2)) i at hR2
              have tl2 := ptake_le (a := a + 2)
              show PX13_params_40 (PX13_params_J F') m 1 G2 Q
              have w2 : ∀ c j, 16116 ≤ c → c ≤ 16142 → G2 c j = G1 c j := fun c j y1 y2 => f2 c j (by unfold XR; omega)
              by_cases e3 : (ptake (a + 2)).1 = 0
              · have e4 := tl2.2.2 e3
                rw [pb_0 e3, e4, show a + 2 + 1 = a + 3 by omega] at sp
                refine rpar_loop hK hm f F' G2 (a + 3) (k + 1) Q (by omega) (by omega) (by omega) (by omega) (RM_eq hR2 e3 (by omega)) (by rw [w2 _ _ (by omega) (by omega)]; exact v29) (fun G3 hR3 f3 hP => ?_)
                rw [← sp] at hR3 hP
                refine hQ G3 hR3 (FR_tr f1 (FR_tr (XP_r f2) f3)) (fun w => ?_)
                obtain ⟨⟨p1, p2⟩, p3, p4⟩ := hP w
                rw [sN]
                have nn : 0 ≤ nPar tk f (a + 3) := by
                  cases f with
                  | zero => exact Int.le_refl _
                  | succ f => have := nPar_1 (tk := tk) (f := f) (a := a + 3); omega
                refine ⟨⟨by rw [p1]; omega, fun j j0 j1 => ?_⟩, by omega, fun c j y1 y2 y3 => by rw [p4 c j y1 y2 (by omega), w2 _ _ (by omega) (by omega), w1 c j y1 y2 (by omega)]⟩
                by_cases jz : j = 0
                · subst jz
                  rw [show k + 0 = k by omega, show a + 3 * 0 = a by omega, ← hx]
                  have u : ∀ c, 16130 ≤ c → c ≤ 16133 → G3 c x = G1 c x := fun c y1 y2 => by rw [p4 c x y1 y2 (by omega), w2 _ _ (by omega) (by omega)]
                  exact ⟨by rw [u _ (by omega) (by omega)]; exact v30, by rw [u _ (by omega) (by omega)]; exact v31, by rw [u _ (by omega) (by omega)]; exact v32, by rw [u _ (by omega) (by omega)]; exact v33⟩
                · have := p2 (j - 1) (by omega) (by omega)
                  rw [show k + 1 + (j - 1) = k + j by omega, show a + 3 + 3 * (j - 1) = a + 3 * j by omega] at this
                  exact this
              · -- the 701st
                rw [pb_n e3] at sp
                obtain ⟨F'', rfl⟩ : ∃ F'', F' = F'' + 1 := ⟨F' - 1, by omega⟩
                have hR2' : RM B s N d G2 r0 i := by rw [sp]; exact hR2
                have rne : r0.1 ≠ 0 := by rw [sp]; exact e3
                unfold PX13_params_40
                refine ⟨fun u => absurd u (by decide), fun _ => ⟨hm.1, hm.2, fun _ => ?_⟩⟩
                have v29' : G2 16129 m = k + 1 := by rw [w2 _ _ (by omega) (by omega)]; exact v29
                rw [v29']
                have fG2 : FR (XP s i m) G G2 := FR_tr f1 (XP_r f2)
                -- a round more with the FAULT
                have last : ∀ y z, 4 * m ≤ y + z → y + z < 4 * m + 4 → 0 ≤ y → y < 40000 → PX13_params_103 (PX13_params_J (F'' + 1)) m 1 (k + 1) y z G2 Q := fun y z y0 y1 y2 y3 => by
                  unfold PX13_params_103
                  rw [RM_pp hR2']
                  have hqN := hR2'.2.2.1
                  have hq0 := hR2'.2.1
                  refine ⟨by unfold inI; omega, fun _ => rPlace hK hR2'.1 hq0 hqN (fun _ => ⟨by omega, by omega, fun H1 h1 => ?_⟩)⟩
                  have a1 : RM B s N d H1 r0 i := by rw [h1]; exact RM_put2 hR2' (by omega) (by omega)
                  refine rTypeTok hK a1 (fun t H2 a2 g2 _ => fun _ => ⟨by omega, by omega, fun H3 h3 => ?_⟩)
                  rw [pb_n rne] at a2
                  have a3 : RM B s N d H3 r0 i := by rw [h3]; exact RM_put2 a2 (by omega) (by omega)
                  refine rWant (k := 3) hK a3 (Or.inr ⟨rfl, rfl⟩) (fun r4 H4 r0' r1 r2 a4 g4 => fun _ => rName hK a4.1 r0' r1 (fun _ => ⟨by omega, by omega, fun H5 h5 => ?_⟩))
                  rw [pb_n rne] at a4
                  have a5 : RM B s N d H5 r0 i := by rw [h5]; exact RM_put2 a4 (by omega) (by omega)
                  refine rPlace hK a5.1 r0' r1 (fun _ => ⟨by omega, by omega, fun H6 h6 => ?_⟩)
                  have a6 : RM B s N d H6 r0 i := by rw [h6]; exact RM_put2 a5 (by omega) (by omega)
                  have fl6 : H6 16081 20 ≠ 0 := fun u => rne ((RM_fl a6).mp u)
                  refine fun _ => ⟨fun u => absurd u fl6, fun _ => ?_⟩
                  unfold PX13_params_185
                  refine ⟨7344, aC16129, hm.1, hm.2, fun H7 h7 => ?_⟩
                  have a7 : RM B s N d H7 r0 i := by rw [h7]; exact RM_put2 a6 (by omega) (by omega)
                  have fl7 : H7 16081 20 ≠ 0 := fun u => rne ((RM_fl a7).mp u)
                  refine fun _ => ⟨fun u => absurd u fl7, fun _ => ?_⟩
                  unfold PX13_params_206 PX13_params_207 PX13_params_216
                  refine ⟨fun _ => ?_, fun u => absurd rfl u⟩
                  show PX13_params_40 (PX13_params_J F'') m 0 H7 Q
                  refine rpar_0 hK a7 (fun H8 a8 g8 => hQ H8 ?_ ?_ (fun u => absurd u rne))
                  · rw [pb_n rne] at a8; exact a8
                  · refine FR_tr fG2 (FR_tr ?_ (XP_r g8))
                    rw [h7, h6, h5]
                    refine FR_up (FR_up (FR_up (FR_tr ?_ (XP_r g4)) (Or.inr (Or.inr ⟨by omega, by omega, by omega, by omega⟩))) (Or.inr (Or.inr ⟨by omega, by omega, by omega, by omega⟩))) (Or.inr (Or.inl ⟨rfl, rfl⟩))
                    rw [h3]
                    refine FR_up (FR_tr ?_ (XP_r g2)) (Or.inr (Or.inr ⟨by omega, by omega, by omega, by omega⟩))
                    rw [h1]
                    exact FR_up FR_id (Or.inr (Or.inr ⟨by omega, by omega, by omega, by omega⟩))
                have nine : PX13_params_90 (PX13_params_J (F'' + 1)) m 1 (k + 1) G2 Q := by
                  unfold PX13_params_90
                  exact ⟨fun u => ⟨by unfold inI; omega, last _ _ (by omega) (by omega) (by omega) (by omega)⟩, fun u => ⟨by unfold inI; omega, last _ _ (by omega) (by omega) (by omega) (by omega)⟩⟩
                have sev : PX13_params_77 (PX13_params_J (F'' + 1)) m 1 (k + 1) G2 Q := by
                  unfold PX13_params_77
                  rw [RM_pp hR2']
                  exact fun _ => rPlace hK hR2'.1 hR2'.2.1 hR2'.2.2.1 (fun _ => rFault_on (fun u => rne ((RM_fl hR2').mp u)) nine)
                refine ⟨fun u => ?_, fun u => nine⟩
                refine rWord hK hR2'.1 hR2'.2.2.2.1 hR2'.2.2.2.2.1 wo27 (fun v _ => fun _ => ⟨fun _ => fun _ => ?_, fun _ => sev⟩)
                exact rKind hK hR2'.1 hR2'.2.2.2.1 hR2'.2.2.2.2.1 (fun _ => fun _ => ⟨fun _ => sev, fun _ => nine⟩)
            · change tk (a + 2) ≠ 144 at zc
              rw [if_neg zc] at sp sN
              unfold PX13_params_206 PX13_params_207 PX13_params_216
              refine ⟨fun _ => ?_, fun u => absurd rfl u⟩
              show PX13_params_40 (PX13_params_J F') m 0 G1 Q
              refine rpar_0 hK hR1 (fun G2 hR2 f2 => ?_)
              change RM B s N d G2 (pneed tk 141 (a + 2)) i at hR2
              rw [← sp] at hR2
              refine hQ G2 hR2 (FR_tr f1 (XP_r f2)) (fun w => ?_)
              have w2 : ∀ c j, 16116 ≤ c → c ≤ 16142 → G2 c j = G1 c j := fun c j y1 y2 => f2 c j (by unfold XR; omega)
              rw [sN]
              refine ⟨⟨by rw [w2 _ _ (by omega) (by omega)]; exact v29, fun j j0 j1 => ?_⟩, by omega, fun c j y1 y2 y3 => by rw [w2 _ _ (by omega) (by omega), w1 c j y1 y2 (by omega)]⟩
              rw [show j = 0 by omega, show k + 0 = k by omega, show a + 3 * 0 = a by omega, ← hx]
              exact ⟨by rw [w2 _ _ (by omega) (by omega)]; exact v30, by rw [w2 _ _ (by omega) (by omega)]; exact v31, by rw [w2 _ _ (by omega) (by omega)]; exact v32, by rw [w2 _ _ (by omega) (by omega)]; exact v33⟩
          · rw [pb_n e] at sp
            have hR1 := hb e
            have fl1 : G1 16081 20 ≠ 0 := fun u => e ((RM_fl hR1).mp u)
            exact fun _ => ⟨fun u => absurd u fl1, fun _ => out G1 (by rw [sp]; exact hR1) f1 (by rw [sp]; exact e) _ _ _⟩
        · rw [if_neg zt] at spec
          have sp : pb (pb (0, a) (ptype tk)) (pneed tk 3) = r0 := by
            have : ptype tk a = pmiss tk a := if_neg zt
            show pb (ptype tk a) (pneed tk 3) = r0
            rw [this, pb_n (pmiss_ne a), spec]
          have rne : r0.1 ≠ 0 := by rw [spec]; exact pmiss_ne a
          refine one (0, a) G x h hk x0 x1 (fun _ => rfl) (Or.inl rfl) (fun G1 f1 w1 hg hb p t n => ?_) y z hyz hy hy2
          rw [sp] at hb
          have hR1 := hb rne
          have fl1 : G1 16081 20 ≠ 0 := fun u => rne ((RM_fl hR1).mp u)
          exact fun _ => ⟨fun u => absurd u fl1, fun _ => out G1 hR1 f1 rne _ _ _⟩
      unfold PX13_params_90
      exact ⟨fun u => ⟨by unfold inI; omega, main _ (by omega) (by omega) (fun _ => rfl) _ _ rfl (by omega) (by omega)⟩, fun u => ⟨by unfold inI; omega, main (4 * m + 3) (by omega) (by omega) (fun v => absurd v u) _ _ rfl (by omega) (by omega)⟩⟩
    have full : k = 4 → (tk a = 26 ∨ tk a = 2) → PX13_params_77 (PX13_params_J (F' + 1)) m 1 k G Q := fun u z => by
      rw [if_pos z, if_neg (by omega)] at spec
      unfold PX13_params_77
      rw [RM_pp h]
      refine fun _ => rPlace hK h.1 ha0 haN (fun _ => ?_)
      obtain ⟨r1, r2⟩ := RM_flt (m := 3) h (by decide)
      refine rFault fl ?_
      have rne : r0.1 ≠ 0 := by rw [spec]; show (3 : Int) ≠ 0; decide
      unfold PX13_params_90
      refine ⟨fun v => by omega, fun _ => ⟨by unfold inI; omega, ?_⟩⟩
      refine one (3, a) _ (4 * m + 3) r1 (by rw [uG_c (by omega), uG_c (by omega)]; exact hk) (by omega) (by omega) (fun v => absurd v (by show (3 : Int) ≠ 0; decide)) (Or.inr ⟨by show (3 : Int) ≠ 0; decide, spec⟩) (fun G1 f1 w1 hg hb p t n => badC (3, a) _ G1 (XP_r r2) (by show (3 : Int) ≠ 0; decide) spec f1 hb p t n) _ _ rfl (by omega) (by omega)
    refine ⟨fun u => rWd hK h rfl wo27 (fun z => fun _ => ⟨fun v => absurd v (by decide), fun _ => full u (Or.inl z)⟩) (fun z => fun _ => ⟨fun _ => ?_, fun v => absurd rfl v⟩), fun u => go (Or.inl (by omega))⟩
    have t := TR_k (hK.2.2.2.2.2.1 a ha0 haN)
    rw [RM_pp h]
    exact fun _ => rKind hK h.1 ha0 haN (fun _ => fun _ => ⟨fun y => full u (Or.inr (t.2.2.1.mp y)), fun y => go (Or.inr (fun v => v.elim z (fun x => y (t.2.2.1.mpr x))))⟩)
theorem rparams_ok {Q : Int → gS → Prop} (hK : TKp B s N tk cd) (hm : 0 ≤ m ∧ m < 7344) (h : RM B s N d G q i) (h29 : G 16129 m = 0) (hQ : ∀ G', RM B s N d G' (pb q (pparams tk)) i → FR (XP s i m) G G' → ((pb q (pparams tk)).1 = 0 → ParR B s tk m 0 (lPar tk q.2) (q.2 + 1) G' ∧ lPar tk q.2 ≤ 4) → Q 0 G') : PX13_params m G Q := by
  refine ⟨4000000000, Nat.le_refl _, ?_⟩
  generalize hF : (4000000000 : Nat) = F
  have spec : pb q (pparams tk) = pb (pb q (pneed tk 140)) fun b => if tk b = 141 then ptake b else pparamsL tk 6 0 b := by rw [pb_pb]; rfl
  generalize hr0 : pb q (pparams tk) = r0 at *
  unfold PX13_params_0
  refine rWantSign (k := 140) hK h (Or.inl ⟨by unfold sg; omega, rfl⟩) (fun G1 hR1 f1 => ?_)
  have w1 : G1 16129 m = 0 := by rw [f1 _ _ (by unfold XR; omega)]; exact h29
  by_cases e : (pb q (pneed tk 140)).1 = 0
  · obtain ⟨e1, e2⟩ := pb_z e
    have eb : (pb q (pneed tk 140)).2 = q.2 + 1 := by rw [pb_0 e1]; exact ((pneed_le).2.2 e2).1
    rw [pb_0 e, eb] at spec
    have fl : G1 16081 20 = 0 := (RM_fl hR1).mpr e
    refine fun _ => ⟨fun _ => rSg (k := 141) hK hR1 e (Or.inl ⟨by unfold sg; omega, rfl⟩) (fun z => fun _ => ⟨fun u => absurd u (by decide), fun _ => rStep hK hR1 (fun _ => by rw [eb] at z ⊢; omega) (fun G2 hR2 f2 => ?_)⟩) (fun z => fun _ => ⟨fun _ => ?_, fun u => absurd rfl u⟩), fun u => absurd fl u⟩
    · rw [eb] at z
      rw [if_pos z] at spec
      rw [pb_0 e, eb, ← spec] at hR2
      have l0 : lPar tk q.2 = 0 := if_pos z
      refine hQ G2 hR2 (XP_r (FR_tr f1 f2)) (fun _ => ?_)
      rw [l0]
      exact ⟨⟨by rw [f2 _ _ (by unfold XR; omega), w1]; rfl, fun j y1 y2 => by omega⟩, by omega⟩
    · rw [eb] at z
      rw [if_neg z] at spec
      have l0 : lPar tk q.2 = nPar tk 6 (q.2 + 1) := if_neg z
      unfold PX13_params_27 PX13_params_39
      refine fun _ => ⟨fun _ => rpar_loop hK hm 6 F G1 (q.2 + 1) 0 Q (by omega) (by omega) (by omega) (by omega) (RM_eq hR1 e eb) w1 (fun G2 hR2 f2 hP => ?_), fun u => absurd fl u⟩
      rw [← spec] at hR2 hP
      refine hQ G2 hR2 (FR_tr (XP_r f1) f2) (fun w => ?_)
      obtain ⟨p1, p2, -⟩ := hP w
      rw [l0]
      exact ⟨p1, by omega⟩
  · rw [pb_n e] at spec
    have fl : G1 16081 20 ≠ 0 := fun u => e ((RM_fl hR1).mp u)
    unfold PX13_params_27 PX13_params_39
    refine fun _ => ⟨fun u => absurd u fl, fun _ => fun _ => ⟨fun u => absurd u fl, fun _ => rpar_0 hK hR1 (fun G2 hR2 f2 => hQ G2 ?_ (XP_r (FR_tr f1 f2)) (fun w => absurd (by rw [← spec]; exact w) e))⟩⟩
    rw [pb_n e] at hR2
    rw [spec]; exact hR2
end RP19

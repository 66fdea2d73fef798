section RP12
variable {B G G' : gS} {s N d i i' a : Int} {tk cd : Int → Int} {q r : RR} {R : JT} {T C P U : TT} {eE cU uU eP : Int → RR}
theorem rexpr_deep {Q : Int → gS → Prop} (hK : TKp B s N tk cd) (h : RM B s N 12 G q i) (hQ : ∀ v G' i', RM B s N 12 G' (pb q (pdeep tk)) i' → RFc s G G' q (pb q (pdeep tk)) i i' (cNo i i' v q.2 G' ∧ G' 16154 v = -2) → Q v G') : PX13_expression R G Q := by
  unfold PX13_expression PX13_expression_0
  refine fun _ => ⟨fun y => ?_, fun y => ?_⟩
  · have e := (RM_fl h).mp y
    rw [pb_0 e] at hQ
    unfold pdeep at hQ
    refine rBE hK h e (fun z => fun _ => ⟨fun u => absurd u (by decide), fun _ => ?_⟩) (fun z => fun _ => ⟨fun _ => rWrong hK h (fun G1 hR1 f1 => ?_), fun u => absurd rfl u⟩)
    · rw [if_pos z] at hQ
      rw [h.2.2.2.2.2.2.2.2, RM_pp h]
      refine fun _ => ⟨fun _ => fun _ => rPlace hK h.1 h.2.1 h.2.2.1 (fun _ => ?_), fun u => absurd rfl u⟩
      obtain ⟨r1, r2⟩ := RM_flt (m := 3) (RM_eq h e rfl) (by decide)
      exact rFault y (hQ _ _ i r1 ⟨Int.le_refl _, r2, fun _ => rfl, Int.le_refl _, by show i ≤ i + (q.2 - q.2) + 1; omega, fun z => absurd z (by show (3 : Int) ≠ 0; decide)⟩)
    · rw [if_neg (by rw [z]; decide)] at hQ
      rw [pb_0 e] at hR1
      exact hQ _ G1 i hR1 ⟨Int.le_refl _, f1, fun _ => rfl, pmiss_l _, by show i ≤ i + (q.2 - q.2) + 1; omega, fun z => absurd z (pmiss_ne _)⟩
  · have e : q.1 ≠ 0 := fun e => y ((RM_fl h).mpr e)
    rw [pb_n e] at hQ
    exact hQ _ G i h (RFc_bad e)
theorem rexpr_ok {Q : Int → gS → Prop} (hK : TKp B s N tk cd) (hP : SRe R B s N (d + 1) 6 (rSum s tk U uU) (psum tk uU)) (hIU : RTI s U) (hTU : RTF s U) (hul : ∀ b, b ≤ (uU b).2) (hd : 0 ≤ d ∧ d < 12) (h : RM B s N d G q i) (h0 : 0 ≤ i) (hi : q.1 = 0 → i ≤ q.2 + 2) (hQ : ∀ v G' i', RM B s N d G' (pb q (pexpr tk uU)) i' → RFc s G G' q (pb q (pexpr tk uU)) i i' (rExpr s tk U uU i i' v q.2 G' ∧ G' 16154 v = -2) → Q v G') : PX13_expression R G Q := by
  obtain ⟨hI, hT⟩ := rSum_IF (tk := tk) (uU := uU) hIU hTU
  have hs0 := hK.1
  have hs1 := hK.2.1
  have hN := hK.2.2.2.2.1
  unfold PX13_expression PX13_expression_0
  refine fun _ => ⟨fun y => ?_, fun y => ?_⟩
  · have e := (RM_fl h).mp y
    have hq0 := h.2.1
    have hqN := h.2.2.1
    have hi' := hi e
    rw [pb_0 e] at hQ
    refine rBE hK h e (fun z => fun _ => ⟨fun u => absurd u (by decide), fun _ => ?_⟩) (fun z => fun _ => ⟨fun _ => rWrong hK h (fun G1 hR1 f1 => ?_), fun u => absurd rfl u⟩)
    · have spec : pexpr tk uU q.2 = pb (psum tk uU q.2) fun b => if tk b = 160 ∨ tk b = 99 then pb (ptake b) (psum tk uU) else (0, b) := if_pos z
      rw [h.2.2.2.2.2.2.2.2]
      refine fun _ => ⟨fun u => by omega, fun _ => fun _ => ⟨by unfold inI; omega, fun G1 e1 => ?_⟩⟩
      have hR1 : RM B s N (d + 1) G1 (0, q.2) i := by rw [e1]; exact RM_dep (RM_eq h e rfl)
      have f1 : FR (XR s i) G G1 := by rw [e1]; exact FR_up FR_id (by unfold XR; omega)
      -- the end
      have fin : ∀ v G2 i2, RM B s N (d + 1) G2 (pexpr tk uU q.2) i2 → i ≤ i2 → FR (XR s i) G1 G2 → i2 ≤ i + ((pexpr tk uU q.2).2 - q.2) + 1 → ((pexpr tk uU q.2).1 = 0 → i2 ≤ i + ((pexpr tk uU q.2).2 - q.2) ∧ q.2 < (pexpr tk uU q.2).2 ∧ rExpr s tk U uU i i2 v q.2 G2 ∧ G2 16154 v = -2) → PX13_expression_140 R v G2 Q := fun v G2 i2 x1 x2 x3 x4 x5 => by
        unfold PX13_expression_140 PX13_expression_163
        rw [x1.2.2.2.2.2.2.2.2]
        refine fun _ => ⟨by unfold inI; omega, fun G3 e3 => ?_⟩
        rw [show d + 1 - 1 = d by omega] at e3
        have hR3 : RM B s N d G3 (pexpr tk uU q.2) i2 := by rw [e3]; exact RM_dep x1
        have f3 : FR (XR s i) G G3 := FR_tr f1 (FR_tr x3 (by rw [e3]; exact FR_up FR_id (by unfold XR; omega)))
        have ll := pexpr_le (tk := tk) hul q.2
        refine fun _ => ⟨fun w => ?_, fun w => ?_⟩
        · have e5 := (RM_fl hR3).mp w
          obtain ⟨u1, u2, u3, u4⟩ := x5 e5
          refine hQ v G3 i2 hR3 ⟨x2, f3, fun x => absurd e x, ll, x4, fun _ => ⟨u1, u2, ?_, by rw [e3, uG_c (by omega)]; exact u4⟩⟩
          exact (rExpr_IF hIU hTU).2 _ _ _ _ _ _ u3 (fun c j y1 y2 y3 y4 _ => by rw [e3, uG_c (by omega)])
        · have e5 : (pexpr tk uU q.2).1 ≠ 0 := fun e5 => w ((RM_fl hR3).mpr e5)
          exact hQ _ G3 i2 hR3 ⟨x2, f3, fun x => absurd e x, ll, x4, fun x => absurd x e5⟩
      refine hP G1 (0, q.2) i _ hR1 h0 (fun _ => hi') (fun v G2 i2 hR2 hC => fun _ => ?_)
      obtain ⟨c1, c2, c3, c4, c5, c6⟩ := hC
      change RM B s N (d + 1) G2 (psum tk uU q.2) i2 at hR2
      change q.2 ≤ (psum tk uU q.2).2 at c4
      change i2 ≤ i + ((psum tk uU q.2).2 - q.2) + 1 at c5
      change (psum tk uU q.2).1 = 0 → i2 ≤ i + ((psum tk uU q.2).2 - q.2) ∧ q.2 < (psum tk uU q.2).2 ∧ rSum s tk U uU i i2 v q.2 G2 ∧ G2 16154 v = -2 at c6
      by_cases e2 : (psum tk uU q.2).1 = 0
      · obtain ⟨u1, u2, u3, u4⟩ := c6 e2
        rw [pb_0 e2] at spec
        have fl2 : G2 16081 20 = 0 := (RM_fl hR2).mpr e2
        obtain ⟨kl, k1, k2, k3⟩ := hI _ _ _ _ _ u3
        have hbN := hR2.2.2.1
        generalize hb : (psum tk uU q.2).2 = b at *
        have hR2' := RM_eq hR2 e2 hb
        have cmp : ∀ k, isCmp (tk b) → k = (if tk b = 160 then 18 else 19) → PX13_expression_107 R v 16081 k G2 Q := fun k zc hk => by
          have zc' : tk b = 160 ∨ tk b = 99 := zc
          rw [if_pos zc'] at spec
          unfold PX13_expression_107
          refine ⟨by omega, by omega, fun _ => ⟨oC13, rop_step (a := b) (i := i2) (Kt := fun v G => PX13_expression_140 R v G Q) hK hP hI hT (psum_le hul) hR2' (by omega) (by omega) (by omega) (fun G3 i3 hR3 x1 x2 x3 x4 x5 => ?_)⟩⟩
          rw [← spec] at hR3 x3 x4 x5
          refine fin _ G3 i3 hR3 (by omega) (FR_tr c2 (FR_XR c1 x2)) (by omega) (fun w => ?_)
          obtain ⟨w0, we, w1, w2, w3, w4, w5, w6⟩ := x5 w
          have k3' : ∀ c j, 16144 ≤ c → c ≤ 16162 → s * 1700 ≤ j → j < s * 1700 + i2 → G3 c j = G2 c j := fun c j y1 y2 y3 y4 => x2 c j (by unfold XR; omega)
          refine ⟨by omega, by omega, ⟨fun u => absurd (by rw [hb]; exact zc) u, fun _ => ⟨i2, by omega, by omega, rfl, by rw [hb, ← hk]; exact w5, ?_, ?_⟩⟩, w3⟩
          · rw [w4]
            exact hT _ _ _ _ _ _ u3 (fun c j y1 y2 y3 y4 _ => k3' c j y1 (by omega) (by omega) y4)
          · rw [hb]; exact w6
        have op : isCmp (tk b) → PX13_expression_90 R v G2 Q := fun z => by
          unfold PX13_expression_90
          refine rSg (k := 160) hK hR2' rfl (Or.inl ⟨by unfold sg; omega, rfl⟩) (fun y => fun _ => ⟨fun u => absurd u (by decide), fun _ => cmp 18 z ?_⟩) (fun y => fun _ => ⟨fun _ => cmp 19 z ?_, fun u => absurd rfl u⟩)
          · rw [if_pos (show tk b = 160 from y)]
          · rw [if_neg (show ¬ tk b = 160 from y)]
        refine fun _ => ⟨fun _ => rSg (k := 160) hK hR2' rfl (Or.inl ⟨by unfold sg; omega, rfl⟩) (fun y => fun _ => ⟨fun u => absurd u (by decide), fun _ => op (Or.inl y)⟩) (fun y => fun _ => ⟨fun _ => rSg (k := 99) hK hR2' rfl (Or.inr ⟨rfl, rfl⟩) (fun y2 => fun _ => ⟨fun u => absurd u (by decide), fun _ => op (Or.inr y2)⟩) (fun y2 => fun _ => ⟨fun _ => ?_, fun u => absurd rfl u⟩), fun u => absurd rfl u⟩), fun u => absurd fl2 u⟩
        change tk b ≠ 160 at y
        change tk b ≠ 99 at y2
        have zc : ¬ (tk b = 160 ∨ tk b = 99) := by omega
        rw [if_neg zc] at spec
        refine fin v G2 i2 (by rw [spec]; exact hR2') c1 c2 (by rw [spec]; exact c5) (fun w => ?_)
        rw [spec]
        exact ⟨u1, u2, ⟨fun _ => u3, fun u => absurd (by rw [hb] at u; exact u) zc⟩, u4⟩
      · rw [pb_n e2] at spec
        have fl2 : G2 16081 20 ≠ 0 := fun y => e2 ((RM_fl hR2).mp y)
        exact fun _ => ⟨fun u => absurd u fl2, fun _ => fin v G2 i2 (by rw [spec]; exact hR2) c1 c2 (by rw [spec]; exact c5) (fun w => absurd (by rw [← spec]; exact w) e2)⟩
    · rw [pb_0 e] at hR1
      have spec : pexpr tk uU q.2 = pmiss tk q.2 := if_neg (by rw [z]; decide)
      exact hQ _ G1 i (by rw [spec]; exact hR1) ⟨Int.le_refl _, f1, fun _ => rfl, by rw [spec]; exact pmiss_l _, by rw [spec]; show i ≤ i + (q.2 - q.2) + 1; omega, fun x => absurd x (by rw [spec]; exact pmiss_ne _)⟩
  · have e : q.1 ≠ 0 := fun e => y ((RM_fl h).mpr e)
    rw [pb_n e] at hQ
    exact hQ _ G i h (RFc_bad e)
theorem p700 (h : tk 700 = 2) : ∀ D, pE tk D 700 = (3, 700) ∧ pU tk D 700 = (3, 700) := by
  have hb : bE tk 700 = true := (bE_t 700).mpr (by omega)
  have t7 : ptake 700 = (3, 700) := if_pos (by omega)
  have fr : ∀ eE cU, pfront tk eE cU 700 = (3, 700) := fun eE cU => by
    unfold pfront
    rw [if_pos hb, t7]; rfl
  have un : ∀ eE cU, punit tk eE cU 700 = (3, 700) := fun eE cU => by
    unfold punit
    rw [fr]; rfl
  have ex : ∀ uU, uU 700 = (3, 700) → pexpr tk uU 700 = (3, 700) := fun uU hu => by
    unfold pexpr psum pprod
    rw [if_pos hb, hu]; rfl
  intro D
  cases D with
  | zero => exact ⟨if_pos hb, un _ _⟩
  | succ D => exact ⟨ex _ (by cases D <;> exact un _ _), un _ _⟩
theorem pEU_le (tk : Int → Int) : ∀ D, (∀ b, b ≤ (pE tk D b).2) ∧ ∀ b, b ≤ (pU tk D b).2
  | 0 => by
    have h0 : ∀ b, b ≤ (pdeep tk b).2 := fun b => by
      unfold pdeep
      split
      · exact Int.le_refl _
      · exact Int.le_refl _
    exact ⟨h0, punit_le h0 h0⟩
  | D + 1 => by
    obtain ⟨h1, h2⟩ := pEU_le tk D
    have h3 : ∀ b, b ≤ (pE tk (D + 1) b).2 := pexpr_le h2
    exact ⟨h3, punit_le h3 h2⟩
theorem pU_no {b : Int} (h : bE tk b = false) : ∀ D, pU tk D b = pmiss tk b := fun D => by
  cases D <;> exact punit_no h
/-- the reference's reader of E's and UNITS, by how many S's and E's they stand within -/
theorem REU_ok (hK : TKp B s N tk cd) : ∀ D : Nat, D ≤ 12 → ∀ d : Int, d = 12 - D → (∀ n, 1 + 8 * D ≤ n → SRe (Rq8 n) B s N d 1 (rE B s tk D) (pE tk D)) ∧ (∀ n, 6 + 8 * D ≤ n → SRe (Rq8 n) B s N d 7 (rU B s tk D) (pU tk D))
  | D, hD, d, hd => by
    obtain ⟨⟨i1, i2⟩, i3, i4⟩ := rEU_IF B s tk D
    obtain ⟨l1, l2⟩ := pEU_le tk D
    have hE : ∀ n, 1 + 8 * D ≤ n → SRe (Rq8 n) B s N d 1 (rE B s tk D) (pE tk D) := fun n hn => by
      obtain ⟨m, rfl⟩ : ∃ m, n = m + 1 := ⟨n - 1, by omega⟩
      intro G q i Q h h0 hi hQ
      show PX13_expression (Rq8 m) G Q
      cases D with
      | zero =>
        have : d = 12 := by omega
        subst this
        exact rexpr_deep hK h hQ
      | succ D =>
        obtain ⟨-, hU⟩ := REU_ok hK D (by omega) (d + 1) (by omega)
        obtain ⟨-, j3, j4⟩ := rEU_IF B s tk D
        obtain ⟨-, m2⟩ := pEU_le tk D
        have hS : SRe (Rq8 m) B s N (d + 1) 6 (rSum s tk (rU B s tk D) (pU tk D)) (psum tk (pU tk D)) := by
          obtain ⟨m', rfl⟩ : ∃ m', m = m' + 1 := ⟨m - 1, by omega⟩
          intro G q i Q h h0 hi hQ
          show PX13_sum (Rq8 m') G Q
          refine rsum_ok hK (fun G q i Q h h0 hi hQ => ?_) j3 j4 m2 h h0 hi hQ
          obtain ⟨m'', rfl⟩ : ∃ m'', m' = m'' + 1 := ⟨m' - 1, by omega⟩
          show PX13_product (Rq8 m'') G Q
          exact rprod_ok hK (hU m'' (by omega)) j3 j4 m2 h h0 hi hQ
        exact rexpr_ok hK hS j3 j4 m2 (by omega) h h0 hi hQ
    refine ⟨hE, fun n hn => ?_⟩
    have hA : ∀ k, 1 + 8 * D + 1 ≤ k → SRa (Rq8 k) B s N d tk (rE B s tk D) (pE tk D) := fun k hk => by
      obtain ⟨k', rfl⟩ : ∃ k', k = k' + 1 := ⟨k - 1, by omega⟩
      intro G q i Q h h0 hi hQ
      show PX13_arguments (Rq8 k') G Q
      exact rargs_ok hK (hE k' (by omega)) i1 i2 h h0 hi hQ
    obtain ⟨m, rfl⟩ : ∃ m, n = m + 1 := ⟨n - 1, by omega⟩
    intro G q i Q h h0 hi hQ
    show PX13_unit (Rq8 m) G Q
    obtain ⟨m1, rfl⟩ : ∃ m1, m = m1 + 1 := ⟨m - 1, by omega⟩
    obtain ⟨m2, rfl⟩ : ∃ m2, m1 = m2 + 1 := ⟨m1 - 1, by omega⟩
    have go : ∀ (C : TT) (cU : Int → RR), RTI s C → RTF s C → (∀ b, b ≤ (cU b).2) → SRc (Rq8 m2) B s N d tk C cU → (rU B s tk D = rUnit B s tk (rE B s tk D) C (pE tk D) cU) → (∀ b, pU tk D b = punit tk (pE tk D) cU b) → PX13_unit (Rq8 (m2 + 1 + 1)) G Q := fun C cU c1 c2 c3 c4 c5 c6 => by
      have c6' : pU tk D = punit tk (pE tk D) cU := funext c6
      rw [c5, c6'] at hQ
      refine runit_ok hK (hA _ (by omega)) i1 i2 ?_ l1 c3 c1 c2 h h0 hi hQ
      intro G a i Q h h0 hi hb hQ
      show PX13_first (Rq8 (m2 + 1)) G Q
      refine first_ok hK (hA _ (by omega)) i1 i2 ?_ ?_ h h0 hi hb hQ
      · intro G a i Q h h0 hi h2 hQ
        show PX13_ofClass (Rq8 m2) _ G Q
        exact rofClass_ok hK (hA _ (by omega)) i1 i2 h h0 hi h2 hQ
      · intro G a i Q h h0 hi h2 hQ
        show PX13_inBrackets (Rq8 m2) _ G Q
        exact rBrk_ok hK (hE m2 (by omega)) i1 i2 c4 c1 c2 c3 (fun z => (p700 z D).1) (by omega) h h0 hi h2 hQ
    cases D with
    | zero =>
      exact go cNo (pdeep tk) cNo_IF.1 cNo_IF.2 (pEU_le tk 0).1 (Or.inl ⟨by omega, fun _ => rfl⟩) rfl (fun _ => rfl)
    | succ D =>
      obtain ⟨-, hU⟩ := REU_ok hK D (by omega) (d + 1) (by omega)
      obtain ⟨-, j3, j4⟩ := rEU_IF B s tk D
      exact go (rU B s tk D) (pU tk D) j3 j4 (pEU_le tk D).2 (Or.inr ⟨by omega, hU m2 (by omega), fun b z => pU_no z D⟩) rfl (fun _ => rfl)
  termination_by D => D
end RP12

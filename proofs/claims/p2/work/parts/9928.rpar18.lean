section RP18
variable {B G G' : gS} {s N d i i' a : Int} {tk cd : Int → Int} {q r : RR} {R : JT} {T S Bk : TT} {eE sS bB : Int → RR}
theorem rst_deep {Q : Int → gS → Prop} (hK : TKp B s N tk cd) (h : RM B s N 12 G q i) (hQ : ∀ v G' i', RM B s N 12 G' (pb q (pS tk 0)) i' → RFs s G G' q (pb q (pS tk 0)) i i' (cNo i i' v q.2 G' ∧ G' 16154 v = -2) → Q v G') : PX13_statement R G Q := by
  have e0 : ∀ b, pS tk 0 b = if bS tk b then (3, b) else pmiss tk b := fun _ => rfl
  unfold PX13_statement PX13_statement_0
  refine fun _ => ⟨fun y => ?_, fun y => ?_⟩
  · have e := (RM_fl h).mp y
    rw [pb_0 e, e0] at hQ
    refine rBegS hK h e (fun z => fun _ => ⟨fun u => absurd u (by decide), fun _ => ?_⟩) (fun z => fun _ => ⟨fun _ => rWrong hK h (fun G1 hR1 f1 => ?_), fun u => absurd rfl u⟩)
    · rw [if_pos z] at hQ
      rw [h.2.2.2.2.2.2.2.2, RM_pp h]
      refine fun _ => ⟨fun _ => fun _ => rPlace hK h.1 h.2.1 h.2.2.1 (fun _ => ?_), fun u => absurd rfl u⟩
      obtain ⟨r1, r2⟩ := RM_flt (m := 3) (RM_eq h e rfl) (by decide)
      exact rFault y (hQ _ _ i r1 ⟨Int.le_refl _, r2, fun _ => rfl, Int.le_refl _, by show i ≤ i + (q.2 - q.2) + 2; omega, fun z => absurd z (by show (3 : Int) ≠ 0; decide)⟩)
    · rw [if_neg (by rw [z]; decide)] at hQ
      rw [pb_0 e] at hR1
      exact hQ _ G1 i hR1 ⟨Int.le_refl _, f1, fun _ => rfl, pmiss_l _, by show i ≤ i + (q.2 - q.2) + 2; omega, fun z => absurd z (pmiss_ne _)⟩
  · have e : q.1 ≠ 0 := fun e => y ((RM_fl h).mpr e)
    rw [pb_n e] at hQ
    exact hQ _ G i h (RFs_bad e)
theorem rst_ok {Q : Int → gS → Prop} (hK : TKp B s N tk cd) (hd : 0 ≤ d ∧ d < 12) (hF : RTF s S) (hn : ∀ b, bS tk b = false → sS b = pmiss tk b)
    (hW : ∀ (G : gS) (a i : Int) (Q : Int → gS → Prop), RM B s N (d + 1) G (0, a) i → 0 ≤ i → i ≤ a + 2 → bS tk a = true → (∀ v G' i', RM B s N (d + 1) G' (sS a) i' → RFs s G G' (0, a) (sS a) i i' (S i i' v a G' ∧ G' 16154 v = -2) → Q v G') → R 3 [] G Q)
    (h : RM B s N d G q i) (h0 : 0 ≤ i) (hi : q.1 = 0 → i ≤ q.2 + 2) (hQ : ∀ v G' i', RM B s N d G' (pb q sS) i' → RFs s G G' q (pb q sS) i i' (S i i' v q.2 G' ∧ G' 16154 v = -2) → Q v G') : PX13_statement R G Q := by
  unfold PX13_statement PX13_statement_0
  refine fun _ => ⟨fun y => ?_, fun y => ?_⟩
  · have e := (RM_fl h).mp y
    rw [pb_0 e] at hQ
    have hi' := hi e
    refine rBegS hK h e (fun z => fun _ => ⟨fun u => absurd u (by decide), fun _ => ?_⟩) (fun z => fun _ => ⟨fun _ => rWrong hK h (fun G1 hR1 f1 => ?_), fun u => absurd rfl u⟩)
    · rw [h.2.2.2.2.2.2.2.2]
      refine fun _ => ⟨fun u => by omega, fun _ => fun _ => ⟨by unfold inI; omega, fun G1 e1 => ?_⟩⟩
      have hR1 : RM B s N (d + 1) G1 (0, q.2) i := by rw [e1]; exact RM_dep (RM_eq h e rfl)
      have f1 : FR (XR s i) G G1 := by rw [e1]; exact FR_up FR_id (by unfold XR; omega)
      refine hW G1 q.2 i _ hR1 h0 hi' z (fun v G2 i2 hR2 hC => fun _ => ?_)
      obtain ⟨c1, c2, c3, c4, c5, c6⟩ := hC
      rw [hR2.2.2.2.2.2.2.2.2]
      refine fun _ => ⟨by unfold inI; omega, fun G3 e3 => ?_⟩
      rw [show d + 1 - 1 = d by omega] at e3
      have hR3 : RM B s N d G3 (sS q.2) i2 := by rw [e3]; exact RM_dep hR2
      refine hQ v G3 i2 hR3 ⟨c1, FR_tr f1 (FR_tr c2 (by rw [e3]; exact FR_up FR_id (by unfold XR; omega))), fun x => absurd e x, c4, c5, fun w => ⟨(c6 w).1, (c6 w).2.1, ?_, by rw [e3, uG_c (by omega)]; exact (c6 w).2.2.2⟩⟩
      exact hF _ _ _ _ _ _ (c6 w).2.2.1 (fun c j y1 y2 y3 y4 _ => by rw [e3, uG_c (by omega)])
    · rw [pb_0 e] at hR1
      have sp := hn _ z
      exact hQ _ G1 i (by rw [sp]; exact hR1) ⟨Int.le_refl _, f1, fun _ => rfl, by rw [sp]; exact pmiss_l _, by rw [sp]; show i ≤ i + (q.2 - q.2) + 2; omega, fun x => absurd x (by rw [sp]; exact pmiss_ne _)⟩
  · have e : q.1 ≠ 0 := fun e => y ((RM_fl h).mpr e)
    rw [pb_n e] at hQ
    exact hQ _ G i h (RFs_bad e)
theorem pE700 (h : bE tk 700 = true) : ∀ D, pE tk D 700 = (3, 700) := by
  have t7 : ptake 700 = (3, 700) := if_pos (by omega)
  have fr : ∀ eE cU, pfront tk eE cU 700 = (3, 700) := fun eE cU => by
    unfold pfront
    rw [if_pos h, t7]; rfl
  have un : ∀ eE cU, punit tk eE cU 700 = (3, 700) := fun eE cU => by
    unfold punit
    rw [fr]; rfl
  intro D
  cases D with
  | zero => exact if_pos h
  | succ D =>
    show pexpr tk (pU tk D) 700 = _
    unfold pexpr psum pprod
    rw [if_pos h, show pU tk D 700 = (3, 700) by cases D <;> exact un _ _]; rfl
theorem pB_S {b : Int} (h : tk b = 223) : ∀ D, pB tk D b = pS tk D b := fun D => by
  have hb : bS tk b = true := (bS_t b).mpr (by omega)
  cases D with
  | zero =>
    show (if tk b = 223 then (3, b) else pmiss tk b) = if bS tk b then (3, b) else pmiss tk b
    rw [if_pos h, if_pos hb]
  | succ D =>
    show pblock tk (pS tk D) b = pstat tk (pE tk D) (pS tk D) (pB tk D) (pblock tk (pS tk D)) b
    unfold pstat
    rw [if_pos hb, if_pos h]
theorem pB_no {b : Int} (h : tk b ≠ 223) : ∀ D, pB tk D b = pmiss tk b := fun D => by
  cases D with
  | zero => exact if_neg h
  | succ D => exact if_neg h
theorem pS_no {b : Int} (h : bS tk b = false) : ∀ D, pS tk D b = pmiss tk b := fun D => by
  have hn : ¬ (bS tk b = true) := by rw [h]; decide
  cases D with
  | zero => exact if_neg hn
  | succ D => exact if_neg hn
/-- the reference's reader of S's, by how many S's and E's they stand within -/
theorem RSB_ok (hK : TKp B s N tk cd) : ∀ D : Nat, D ≤ 12 → ∀ d : Int, d = 12 - D → ∀ n, 1 + 4 * D ≤ n → SRs (Rq9 n) B s N d 2 (rS B s tk D) (pS tk D)
  | 0, _, d, hd, n, hn => by
    obtain ⟨m, rfl⟩ : ∃ m, n = m + 1 := ⟨n - 1, by omega⟩
    have : d = 12 := by omega
    subst this
    intro G q i Q h h0 hi hQ
    show PX13_statement (Rq9 m) G Q
    exact rst_deep hK h hQ
  | D + 1, hD, d, hd, n, hn => by
    obtain ⟨m, rfl⟩ : ∃ m, n = m + 1 := ⟨n - 1, by omega⟩
    obtain ⟨m1, rfl⟩ : ∃ m1, m = m1 + 1 := ⟨m - 1, by omega⟩
    obtain ⟨m2, rfl⟩ : ∃ m2, m1 = m2 + 1 := ⟨m1 - 1, by omega⟩
    obtain ⟨m3, rfl⟩ : ∃ m3, m2 = m3 + 1 := ⟨m2 - 1, by omega⟩
    have ih := RSB_ok hK D (by omega) (d + 1) (by omega)
    have hE : SRe (Rq8 200) B s N (d + 1) 1 (rE B s tk D) (pE tk D) := (REU_ok hK D (by omega) (d + 1) (by omega)).1 200 (by omega)
    have hE' : SRe (Rq8 199) B s N (d + 1) 1 (rE B s tk D) (pE tk D) := (REU_ok hK D (by omega) (d + 1) (by omega)).1 199 (by omega)
    obtain ⟨⟨i1, i2⟩, -⟩ := rEU_IF B s tk D
    obtain ⟨⟨j1, j2⟩, j3, j4⟩ := rSB_IF B s tk D
    have hA : SRa (Rq8 200) B s N (d + 1) tk (rE B s tk D) (pE tk D) := by
      intro G q i Q h h0 hi hQ
      show PX13_arguments (Rq8 199) G Q
      exact rargs_ok hK hE' i1 i2 h h0 hi hQ
    have hBk : SRs (Rq9 (m3 + 1)) B s N (d + 1) 1 (rBk B s tk D) (pB tk D) := by
      intro G q i Q h h0 hi hQ
      show PX13_blockOnly (Rq9 m3) G Q
      refine rbonly_ok hK (ih m3 (by omega)) (fun b z => pB_S z D) (fun b z => pB_no z D) (fun lo hi n b G z x => ?_) h h0 hi hQ
      cases D with
      | zero => exact x.elim
      | succ D => exact x.2.2.1 z
    intro G q i Q h h0 hi hQ
    show PX13_statement (Rq9 (m3 + 1 + 1 + 1)) G Q
    refine rst_ok hK (by omega) (rSB_IF B s tk (D + 1)).1.2 (fun b z => pS_no z (D + 1)) (fun G a i Q h h0 hi hb hQ => ?_) h h0 hi hQ
    show PX13_statementWithin (Rq9 (m3 + 1 + 1)) G Q
    refine rwithin_ok (S := rS B s tk D) (Bk := rBk B s tk D) hK hE hA i1 i2 (pEU_le tk D).1 (fun z => pE700 z D) (ih _ (by omega)) j1 j2 (fun G a i Q h h0 hi h2 hQ => ?_) (fun G0 G a i Q h f0 ha0 h0 hi hQ => ?_) h h0 hi hb hQ
    · show PX13_block (Rq9 (m3 + 1)) _ G Q
      exact rblock_ok hK (ih _ (by omega)) j1 j2 h h0 hi h2 hQ
    · show PX13_tryOf (Rq9 (m3 + 1)) _ G Q
      exact rtry_ok (eE := pE tk D) (sS := pS tk D) hK hBk j3 j4 h f0 ha0 h0 hi hQ
end RP18

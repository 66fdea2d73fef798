section CP3
def CD (G : gS) (cd : Int → Int) : Prop := ∀ a, 0 ≤ a → a < 704 → G 12 a = cd a
theorem CD_FP {G G' : gS} {cd : Int → Int} (h : CD G cd) (hf : FP G G') : CD G' cd := fun a x y => by rw [hf.1 _ _ (by omega) (by omega)]; exact h a x y
def Pre (G : gS) (tk cd : Int → Int) (c i a d : Int) : Prop := PT G tk c ∧ G 7 8 = a ∧ G 7 9 = 0 ∧ 0 ≤ a ∧ a ≤ 700 ∧ a ≤ c ∧ G 7 14 = i ∧ 0 ≤ i ∧ i ≤ a + d ∧ 0 ≤ d ∧ d ≤ 13 ∧ CD G cd
-- behind a part of an E: P tells what stands then, if there is no FAULT
def Pst (G G' : gS) (c i a : Int) (r : RR) (P : Int → Prop) (old : Int → Int → Prop) : Prop := FP G G' ∧ (r.1 ≠ 0 → G' 7 9 = r.1 ∧ AT G' r.2) ∧ (r.1 = 0 → G' 7 9 = 0 ∧ G' 7 8 = r.2 ∧ a < r.2 ∧ r.2 ≤ 700 ∧ r.2 ≤ c ∧ (∀ k j, 14 ≤ k → k < 14 + i → ¬ old k j → G' k j = G k j) ∧ ∃ i', G' 7 14 = i' ∧ i ≤ i' ∧ i' ≤ i + (r.2 - a) ∧ P i')
def PsE (G G' : gS) (c i a : Int) (r : RR) (T : TT) (v : Int) : Prop := Pst G G' c i a r (fun i' => T i i' v a G') (fun _ _ => False) ∧ (r.1 ≠ 0 → v = -1) ∧ (r.1 = 0 → G' v 8 = -1)
def SEx (R : JT) (tk cd : Int → Int) (c : Int) (T : TT) (eE : Int → RR) (pl : Nat) (L : List Int) (d : Int) : Prop := ∀ (G : gS) (i a : Int) (Q : Int → gS → Prop), Pre G tk cd c i a d → (∀ v G', PsE G G' c i a (eE a) T v → Q v G') → R pl L G Q
variable {tk cd : Int → Int} {T C : TT} {eE cU : Int → RR} {c d : Int} {R : JT}
theorem pb_0 {r : RR} {f : Int → RR} (h : r.1 = 0) : pb r f = f r.2 := if_pos h
theorem pb_n {r : RR} {f : Int → RR} (h : r.1 ≠ 0) : pb r f = r := if_neg h
theorem pb_e {b : Int} {f : Int → RR} {r : RR} (h : r = (0, b)) : pb r f = f b := by rw [h]; rfl
theorem nd_of {n i : Int} (h : 14 ≤ n ∧ n < 14 + i) (hi : i ≤ 800) : isO W0 8 n := by
  have := nd_isO (i := n - 14) (by omega) (by omega)
  rwa [show 14 + (n - 14) = n by omega] at this
def lc (n l : Int) : Int := if l < 0 then n else l
def lj (l : Int) : Int := if l < 0 then 5 else 8
-- what stands behind the E's of ARGS from a on, hung on to l (or, as the first, into n)
def PsL (G G' : gS) (tk : Int → Int) (c i a n l v : Int) (r : RR) (T : TT) (eE : Int → RR) (f : Nat) : Prop := Pst G G' c i a r (fun i' => cArgsL tk T eE f i i' (G' (lc n l) (lj l)) a G') (fun k j => k = lc n l ∧ j = lj l) ∧ (r.1 ≠ 0 → v = 0) ∧ (r.1 = 0 → v = 1)
theorem three_ne {b : Int} : ((3 : Int), b).1 ≠ 0 := by show (3 : Int) ≠ 0; decide
theorem args_end {J : JT} {G : gS} {n d' l cnt a : Int} {Q : Int → gS → Prop} (h : PT G tk c) (ha : G 7 8 = a) (hf : G 7 9 = 0) (h0 : 0 ≤ a) (h3 : a ≤ 700) (h1 : pneed tk 141 a = (0, a + 1) → a < 700 → tk a = 141 → Q 1 (uG G 7 8 (a + 1))) (h2 : ∀ m, m ≠ 0 → pneed tk 141 a = (m, a) → Q 0 (fG G m a)) : PX9_args_34 R J n d' 0 l cnt G Q := by
  have e : PX9_args_120 R J n d' 0 l cnt G Q := by
    unfold PX9_args_120
    exact sX9_need h ha hf h0 (by omega) (by decide) (fun x y z => fun _ => h1 x y z) (fun m x y => fun _ => h2 m x y)
  unfold PX9_args_34
  exact ⟨fun _ => ⟨fun _ => e, fun z => absurd rfl z⟩, fun _ => e⟩
theorem FP_7 {G G' : gS} (h : FP G G') {j : Int} (hj : j ≠ 8 ∧ j ≠ 9 ∧ j ≠ 10 ∧ j ≠ 14) : G' 7 j = G 7 j := h.1 7 j (by omega) (by omega)
theorem args_loop (hE : SEx R tk cd c T eE 3 [d] d) (hI : TI T) (hF : TF T) : ∀ (f F : Nat) (G : gS) (i a n l cnt : Int) (Q : Int → gS → Prop), f < F → 702 ≤ a + f → Pre G tk cd c i a d → 0 ≤ cnt → cnt < a → (14 ≤ n ∧ n < 14 + i) → (l = -1 ∨ 14 ≤ l ∧ l < 14 + i) → (∀ v G', PsL G G' tk c i a n l v (pargsL tk eE f a) T eE f → Q v G') → PX9_args_34 R (PX9_args_J R F) n d 1 l cnt G Q
  | 0, _, _, _, _, _, _, _, _, _, h, hp, _, _, _, _, _ => by have := hp.2.2.2.2.1; omega
  | f + 1, 0, _, _, _, _, _, _, _, h, _, _, _, _, _, _, _ => absurd h (by omega)
  | f + 1, F + 1, G, i, a, n, l, cnt, Q, hfF, haf, hp, hc0, hc, hn, hl, hQ => by
    obtain ⟨p1, p2, p3, p4, p5, p6, p7, p8, p9, p10, p11⟩ := hp
    unfold PX9_args_34
    refine ⟨fun _ => ⟨fun z => absurd z (by decide), fun _ => ?_⟩, fun z => by omega⟩
    refine hE G i a _ ⟨p1, p2, p3, p4, p5, p6, p7, p8, p9, p10, p11⟩ (fun v G1 hv => ?_)
    obtain ⟨⟨f1, g1, k1⟩, w1, wn⟩ := hv
    by_cases e0 : (eE a).1 = 0
    · obtain ⟨q1, q2, q3, q4, q5, q6, i1, q7, q8, q9, q10⟩ := k1 e0
      obtain ⟨kv, ev, kv1, kv2⟩ := hI _ _ _ _ _ q10
      have hi1 : i1 ≤ 713 := by omega
      refine ⟨fun z => by omega, fun _ => ?_⟩
      have pt1 := PT_FP p1 f1
      -- behind the store of the E
      have main : ∀ G2, G2 = uG G1 (lc n l) (lj l) v → PX9_args_81 R (PX9_args_J R (F + 1)) n d 1 l cnt v G2 Q := by
        intro G2 e2
        have hlc : 14 ≤ lc n l ∧ lc n l < 14 + i := by
          unfold lc
          rcases hl with hl | hl
          · rw [if_pos (by omega)]; exact hn
          · rw [if_neg (by omega)]; exact hl
        have f2 : FP G G2 := by rw [e2]; exact FP_up f1 (by omega)
        have pt2 := PT_FP p1 f2
        have b1 : G2 7 8 = (eE a).2 := by rw [e2, uG_c (by omega)]; exact q2
        have b2 : G2 7 9 = 0 := by rw [e2, uG_c (by omega)]; exact q1
        have b3 : G2 7 14 = i1 := by rw [e2, uG_c (by omega)]; exact q7
        have T2 : T i i1 v a G2 := hF _ _ _ _ _ _ q10 (fun k j x y _ => by rw [e2, uG_c (by omega)])
        have old2 : ∀ k j, 14 ≤ k → k < 14 + i → ¬ (k = lc n l ∧ j = lj l) → G2 k j = G k j := fun k j x y z => by
          rw [e2, uG_ne (by omega)]; exact q6 k j x y (fun z => z)
        have at2 : G2 (lc n l) (lj l) = v := by rw [e2]; exact uG_at _ _ _ _
        have spec : pargsL tk eE (f + 1) a = (if tk (eE a).2 = 144 then pb (ptake (eE a).2) (pargsL tk eE f) else pneed tk 141 (eE a).2) := pb_0 e0
        unfold PX9_args_81 PX9_args_100 PX9_args_114
        refine sX9_now pt2 b1 (by omega) (by omega) (fun _ => ⟨fun z => ⟨fun y => absurd y (by decide), fun _ => ?_⟩, fun z => ⟨fun _ => ⟨by unfold inI; omega, ?_⟩, fun y => absurd rfl y⟩⟩)
        · rw [if_pos z] at spec
          refine sX9_take b1 b2 (by omega) (fun x y => fun _ => ⟨fun u => absurd u (by decide), fun _ => ⟨by unfold inI; omega, ?_⟩⟩) (fun x => fun _ => ⟨fun _ => hQ 0 _ ⟨⟨?_, fun _ => ⟨?_, ?_⟩, fun u => ?_⟩, fun _ => rfl, fun u => ?_⟩, fun u => absurd rfl u⟩)
          · show PX9_args_34 R (PX9_args_J R F) n d 1 v (cnt + 1) _ Q
            have hc2 := PT_lt p1 (show tk (eE a).2 ≠ 0 by omega)
            have f3 : FP G (uG G2 7 8 ((eE a).2 + 1)) := FP_up f2 (by omega)
            rw [pb_e x] at spec
            refine args_loop hE hI hF f F _ i1 ((eE a).2 + 1) n v (cnt + 1) Q (by omega) (by omega) ⟨PT_FP p1 f3, uG_at _ _ _ _, by rw [uG_j (by decide)]; exact b2, by omega, by omega, by omega, by rw [uG_j (by decide)]; exact b3, by omega, by omega, p10, p11.1, CD_FP p11.2 f3⟩ (by omega) (by omega) (by omega) (Or.inr (by omega)) (fun v' G4 h4 => ?_)
            obtain ⟨⟨f4, g4, k4⟩, w4, w5⟩ := h4
            rw [← spec] at g4 k4 w4 w5
            refine hQ v' G4 ⟨⟨FP_tr f3 f4, g4, fun u => ?_⟩, w4, w5⟩
            obtain ⟨r1, r2, r3, r4, r5, r6, i2, r7, r8, r9, r10⟩ := k4 u
            have lcv : lc n v = v := by unfold lc; rw [if_neg (by omega)]
            have ljv : lj v = 8 := by unfold lj; rw [if_neg (by omega)]
            rw [lcv, ljv] at r6 r10
            have ne : lc n l ≠ v := by omega
            refine ⟨r1, r2, by omega, r4, r5, fun k j x1 x2 x3 => ?_, i2, r7, by omega, by omega, i1, by omega, ?_, fun _ => ?_, fun u2 => absurd z u2⟩
            · rw [r6 k j x1 (by omega) (by omega), uG_c (by omega)]; exact old2 k j x1 x2 x3
            · rw [r6 (lc n l) (lj l) (by omega) (by omega) (fun u2 => ne u2.1), uG_c (by omega), at2]
              exact hF _ _ _ _ _ _ T2 (fun k j x1 x2 x3 => by rw [r6 k j (by omega) (by omega) (by omega), uG_c (by omega)])
            · rw [r6 (lc n l) (lj l) (by omega) (by omega) (fun u2 => ne u2.1), uG_c (by omega), at2]
              exact r10
          · exact FP_fG f2
          · rw [spec, pb_n (by rw [x]; exact three_ne), x]; exact (fG_at _ _ _).1
          · rw [spec, pb_n (by rw [x]; exact three_ne), x]; exact (fG_at _ _ _).2
          · rw [spec, pb_n (by rw [x]; exact three_ne), x] at u; exact absurd u three_ne
          · rw [spec, pb_n (by rw [x]; exact three_ne), x] at u; exact absurd u three_ne
        · rw [if_neg z] at spec
          show PX9_args_34 R (PX9_args_J R F) n d 0 v (cnt + 1) _ Q
          refine args_end pt2 b1 b2 (by omega) (by omega) (fun x y w => hQ 1 _ ⟨⟨FP_up f2 (by omega), fun u => ?_, fun _ => ?_⟩, fun u => ?_, fun _ => rfl⟩) (fun m x y => hQ 0 _ ⟨⟨FP_fG f2, fun _ => ⟨?_, ?_⟩, fun u => ?_⟩, fun _ => rfl, fun u => ?_⟩)
          · rw [spec, x] at u; exact absurd rfl u
          · have hc2 := PT_lt p1 (show tk (eE a).2 ≠ 0 by omega)
            rw [spec, x]
            refine ⟨by rw [uG_j (by decide)]; exact b2, uG_at _ _ _ _, by omega, by omega, by omega, fun k j x1 x2 x3 => ?_, i1, by rw [uG_j (by decide)]; exact b3, by omega, by omega, i1, by omega, ?_, fun u => absurd u z, fun _ => ?_⟩
            · rw [uG_c (by omega)]; exact old2 k j x1 x2 x3
            · rw [uG_c (by omega), at2]
              exact hF _ _ _ _ _ _ T2 (fun k j x1 x2 _ => by rw [uG_c (by omega)])
            · have e5 : uG G2 7 8 ((eE a).2 + 1) (lc n l) (lj l) = v := by rw [uG_c (by omega)]; exact at2
              rw [e5, uG_c (by omega), e2, uG_c (by omega)]
              exact wn e0
          · rw [spec, x] at u; exact absurd rfl u
          · rw [spec, y]; exact (fG_at _ _ _).1
          · rw [spec, y]; exact (fG_at _ _ _).2
          · rw [spec, y] at u; exact absurd u x
          · rw [spec, y] at u; exact absurd u x
      refine ⟨fun z => ⟨nd_of hn (by omega), Or.inr (nd_of (i := i1) (by omega) (by omega)), fun G2 e2 => main G2 (by rw [e2]; unfold lc lj; rw [if_pos z, if_pos z])⟩, fun z => ⟨nd_of (i := i) (by rcases hl with hl | hl; (· omega); exact hl) (by omega), Or.inr (nd_of (i := i1) (by omega) (by omega)), fun G2 e2 => main G2 (by rw [e2]; unfold lc lj; rw [if_neg (by omega), if_neg (by omega)])⟩⟩
    · have ev := w1 e0
      have spec : pargsL tk eE (f + 1) a = eE a := pb_n e0
      refine ⟨fun _ => hQ 0 G1 ⟨⟨f1, by rw [spec]; exact g1, fun z => by rw [spec] at z; exact absurd z e0⟩, fun _ => rfl, fun z => by rw [spec] at z; exact absurd z e0⟩, fun z => by omega⟩
end CP3

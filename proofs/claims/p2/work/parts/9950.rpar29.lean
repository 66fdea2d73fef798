section RP29
variable {B G G' : gS} {s N d i i' a m c j : Int} {tk cd : Int → Int} {q r : RR}
theorem wo32 : wordOf 32 11 := wo 32 11 (by decide +kernel) (by decide +kernel)
theorem wo33 : wordOf 33 13 := wo 33 13 (by decide +kernel) (by decide +kernel)
theorem wo34 : wordOf 34 12 := wo 34 12 (by decide +kernel) (by decide +kernel)
theorem wo35 : wordOf 35 14 := wo 35 14 (by decide +kernel) (by decide +kernel)
theorem wo36 : wordOf 36 15 := wo 36 15 (by decide +kernel) (by decide +kernel)
theorem wo37 : wordOf 37 16 := wo 37 16 (by decide +kernel) (by decide +kernel)
theorem wo38 : wordOf 38 10 := wo 38 10 (by decide +kernel) (by decide +kernel)
/-- is NAME, in NAME -/
theorem rname_st {x w CA CB r0 : Int} {K : Int → gS → Prop} (hK : TKp B s N tk cd) (h : RM B s N d G q i) (hw : wordOf x w) (hc : 0 ≤ c ∧ c < 216) (hA : 16095 ≤ CA ∧ CA < 16143 ∧ 16095 ≤ CB ∧ CB < 16143 ∧ CA ≠ CB) (hQ : ∀ r G', RM B s N d G' (pb q (pname1 tk w)) i → FR (fun x y => XR s i x y ∨ (x = CA ∧ y = c) ∨ (x = CB ∧ y = c)) G G' → ((pb q (pname1 tk w)).1 = 0 → (tk q.2 = w → G' CA c = nmR B s (q.2 + 1) ∧ G' CB c = plR B s (q.2 + 1)) ∧ (tk q.2 ≠ w → G' CA c = G CA c)) → K r G') : PX13_takesWord x G (fun r G1 => (0 ≤ r ∧ r ≤ 1) → ((r = 0 → K r0 G1) ∧ (¬ (r = 0) → PX13_want 1 0 G1 (fun r1 G2 => inI r1 → PX13_nameAt r1 G2 (fun r2 G3 => inL r2 → ((0 : Int) ≤ c ∧ ((c : Int) < 216 ∧ ∀ G4 : gS, G4 = uG G3 CA c r2 → PX13_placeAt r1 G4 (fun r3 G5 => inI r3 → ((0 : Int) ≤ c ∧ ((c : Int) < 216 ∧ ∀ G6 : gS, G6 = uG G5 CB c r3 → K r1 G6)))))))))) := by
  refine rTakes hK h hw (fun e z G1 h1 f1 => fun _ => ⟨fun u => absurd u (by decide), fun _ => ?_⟩) (fun z => fun _ => ⟨fun _ => ?_, fun u => absurd rfl u⟩)
  · have sp : pb q (pname1 tk w) = pb (pb q ptake) (pwl tk 0) := by
      rw [pb_pb, pb_0 e, pb_0 e]
      exact if_pos z
    have ep : (ptake q.2).1 = 0 → (pb q ptake).2 = q.2 + 1 := fun y => by rw [pb_0 e]; exact (ptake_le).2.2 y
    rw [sp] at hQ
    refine rWantL hK h1 (fun G2 h2 f2 => fun _ => rName hK h2.1 h1.2.1 h1.2.2.1 (fun _ => ⟨hc.1, hc.2, fun G3 e3 => ?_⟩))
    have h3 : RM B s N d G3 (pb (pb q ptake) (pwl tk 0)) i := by rw [e3]; exact RM_put2 h2 (by omega) (by omega)
    refine rPlace hK h3.1 h1.2.1 h1.2.2.1 (fun _ => ⟨hc.1, hc.2, fun G4 e4 => ?_⟩)
    have h4 : RM B s N d G4 (pb (pb q ptake) (pwl tk 0)) i := by rw [e4]; exact RM_put2 h3 (by omega) (by omega)
    refine hQ _ G4 h4 ?_ (fun y => ⟨fun _ => ?_, fun u => absurd z u⟩)
    · rw [e4, e3]
      exact FR_up (FR_up (FR_mono (fun _ _ u => Or.inl u) (FR_tr f1 f2)) (Or.inr (Or.inl ⟨rfl, rfl⟩))) (Or.inr (Or.inr ⟨rfl, rfl⟩))
    · have y1 := (pb_z y).1
      have y2 : (ptake q.2).1 = 0 := by rw [pb_0 e] at y1; exact y1
      rw [← ep y2]
      exact ⟨by rw [e4, uG_c (by omega), e3, uG_at]; rfl, by rw [e4, uG_at]; rfl⟩
  · have sp : pb q (pname1 tk w) = q := by
      by_cases e : q.1 = 0
      · rw [pb_0 e]
        have : pname1 tk w q.2 = (0, q.2) := if_neg (z e)
        rw [this]; exact Prod.ext e.symm rfl
      · rw [pb_n e]
    rw [sp] at hQ
    exact hQ _ G h FR_id (fun e => ⟨fun u => absurd u (z e), fun _ => rfl⟩)
/-- as C, C; with C, C; only C, C -/
theorem rlist_st {x w A1 A2 n xb most : Int} {K : Int → gS → Prop} (hK : TKp B s N tk cd) (h : RM B s N d G q i) (hw : wordOf x w) (hA1 : isA W0 1 n A1) (hA2 : isA W0 0 n A2) (hA : 16095 ≤ A1 ∧ A1 < 16143 ∧ 16095 ≤ A2 ∧ A2 < 16143 ∧ A1 ≠ A2) (hx : 0 ≤ xb ∧ xb + most ≤ n ∧ n ≤ 10000) (hm : 0 ≤ most ∧ most ≤ 8) (hQ : ∀ v G', RM B s N d G' (pb q (plist tk w most)) i → FR (XLs s i A1 A2 xb (xb + most)) G G' → ((pb q (plist tk w most)).1 = 0 → v = lLst tk w q.2 ∧ LSR B s A1 A2 xb (lLst tk w q.2) q.2 G') → K v G') : PX13_takesWord x G (fun r G1 => (0 ≤ r ∧ r ≤ 1) → ((r = 0 → K 0 G1) ∧ (¬ (r = 0) → (inI xb ∧ PX13_list A1 A2 xb most G1 (fun r G2 => inI r → K r G2))))) := by
  refine rTakes hK h hw (fun e z G1 h1 f1 => fun _ => ⟨fun u => absurd u (by decide), fun _ => ⟨by unfold inI; omega, ?_⟩⟩) (fun z => fun _ => ⟨fun _ => ?_, fun u => absurd rfl u⟩)
  · have sp : pb q (plist tk w most) = plistL tk most 702 0 q.2 := by rw [pb_0 e]; exact if_pos z
    have sl : lLst tk w q.2 = nLst tk 702 q.2 := if_pos z
    rw [sp, sl] at hQ
    rw [pb_0 e] at h1
    refine rlist_ok hK hA1 hA2 hA hx hm h.2.1 h1 (fun v G2 h2 f2 _ hg => fun _ => hQ v G2 h2 (FR_tr (FR_mono (fun _ _ u => Or.inl u) f1) f2) (fun y => ?_))
    obtain ⟨g1, g2, g3⟩ := hg y
    exact ⟨g1, g3⟩
  · have sp : pb q (plist tk w most) = q := by
      by_cases e : q.1 = 0
      · rw [pb_0 e]
        have : plist tk w most q.2 = (0, q.2) := if_neg (z e)
        rw [this]; exact Prod.ext e.symm rfl
      · rw [pb_n e]
    rw [sp] at hQ
    refine hQ _ G h FR_id (fun e => ?_)
    have sl : lLst tk w q.2 = 0 := if_neg (z e)
    rw [sl]
    exact ⟨rfl, fun j j0 j1 => by omega⟩
-- what stands before a class's word
def pcl (tk : Int → Int) (s0 c : Int) : RR := if (tk c = 11 ∧ s0 = 0) ∨ tk c = 10 then ptake c else pmiss tk c
def sfb (tk : Int → Int) (b : Int) : Int := if tk b = 20 then 1 else if tk b = 21 then 2 else 0
def pq3 (tk : Int → Int) (a : Int) : RR := pb (popt tk 17 a) fun b => pb (pfb tk b) (pcl tk (sfb tk b))
def srt (tk : Int → Int) (a : Int) : Int := if tk (hB0 tk a) = 20 then 1 else if tk (hB0 tk a) = 21 then 2 else if tk (hB0 tk a) = 11 then 3 else 0
theorem phead_q3 {k l : Int} (hl : l = 0 ↔ k < 12) : phead tk 12 k a = pb (pb (pq3 tk a) (pwl tk l)) fun e => pb (pparents tk e) (pneed tk 223) := by
  unfold phead pq3
  rw [pb_pb, pb_pb]
  congr 1
  funext b
  rw [pb_pb]
  by_cases e : (pfb tk b).1 = 0
  · rw [pb_0 e, pb_0 e]
    have cc : ((tk (pfb tk b).2 = 11 ∧ tk b = 11) ∨ tk (pfb tk b).2 = 10) ↔ ((tk (pfb tk b).2 = 11 ∧ sfb tk b = 0) ∨ tk (pfb tk b).2 = 10) := by
      refine or_congr_left ⟨fun u => ⟨u.1, ?_⟩, fun u => ⟨u.1, ?_⟩⟩
      · unfold sfb; rw [if_neg (by omega), if_neg (by omega)]
      · have u2 := u.2
        unfold sfb at u2
        have n : ¬ (tk b = 20 ∨ tk b = 21) := fun y => by
          rcases y with y | y
          · rw [if_pos y] at u2; omega
          · rw [if_neg (by omega), if_pos y] at u2; omega
        have eb : pfb tk b = (0, b) := if_neg n
        rw [eb] at u; exact u.1
    by_cases z : (tk (pfb tk b).2 = 11 ∧ tk b = 11) ∨ tk (pfb tk b).2 = 10
    · rw [if_pos z]
      have zp : pcl tk (sfb tk b) (pfb tk b).2 = ptake (pfb tk b).2 := if_pos (cc.mp z)
      rw [zp]
      congr 1
      funext d
      unfold pwl
      by_cases y : tk d = 2
      · rw [if_pos y, if_pos y]
        by_cases w : k < 12
        · rw [if_pos w, if_pos (hl.mpr w)]
        · rw [if_neg w, if_neg (fun u => w (hl.mp u)), pb_n (by show (3 : Int) ≠ 0; decide)]
      · rw [if_neg y, if_neg y, pb_n (pmiss_ne _)]
    · rw [if_neg z]
      have zp : pcl tk (sfb tk b) (pfb tk b).2 = pmiss tk (pfb tk b).2 := if_neg (fun u => z (cc.mpr u))
      rw [zp, pb_n (pmiss_ne _)]
  · rw [pb_n e, pb_n e]
end RP29

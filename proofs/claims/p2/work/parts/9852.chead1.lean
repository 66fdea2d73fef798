section CH2
variable {tk cd : Int → Int} {c r w most : Int}
-- a row's own cells
def xRow (r : Int) (c j : Int) : Prop := xAt c j ∨ (r ≤ c ∧ c ≤ r + 4)
theorem xRow_T (h : 985 ≤ r) : XT (xRow r) := ⟨fun _ _ h => Or.inl h, by unfold xRow xAt; omega, fun _ => by unfold xRow xAt; omega, fun _ => by unfold xRow xAt; omega⟩
-- a list read: n entries from a on, behind k others
def LsP (tk cd : Int → Int) (r w k a n : Int) (G G' : gS) : Prop := G' (r + 2) w = k + n ∧ (∀ j, 0 ≤ j → j < n → G' (r + 1) (w * 8 + (k + j)) = cd (a + 1 + 2 * j)) ∧ ∀ c' j', ¬ xAt c' j' → ¬ (c' = r + 2 ∧ j' = w) → ¬ (c' = r + 1 ∧ w * 8 + k ≤ j' ∧ j' < w * 8 + 8) → G' c' j' = G c' j'
def PsB (X : Int → Int → Prop) (G G' : gS) (c a v : Int) (r : RR) (P : gS → Prop) : Prop := PsH X G G' c a r P ∧ (r.1 ≠ 0 → v = 0) ∧ (r.1 = 0 → v = 1)
theorem HB_B {X : Int → Int → Prop} {G0 G1 : gS} {a0 : Int} {r : RR} {P : gS → Prop} (h : HB X G0 G1 r) : PsB X G0 G1 c a0 0 r P := ⟨HB_P h, fun _ => rfl, fun z => absurd z h.2.2.2⟩
theorem HS_B {X : Int → Int → Prop} {G0 G1 : gS} {a0 b : Int} {r : RR} {P : gS → Prop} (h : HS X G0 G1 tk cd c b) (hr : r = (0, b)) (hab : a0 ≤ b) (hP : P G1) : PsB X G0 G1 c a0 1 r P := ⟨HS_end h hr hab hP, fun z => absurd (by rw [hr]) z, fun _ => rfl⟩
theorem sX10_list {G : gS} {k what : Int} {Q : Int → gS → Prop} (hr : isO W0 10 r) (hw : 0 ≤ w ∧ w < 3) (hk : G (r + 2) w = k) (hk8 : 0 ≤ k ∧ k < 8) (hQ : Q 0 (uG (uG G (r + 1) (w * 8 + k) what) (r + 2) w (k + 1))) : PX10_list r w what G Q := by
  unfold PX10_list PX10_list_0 PX10_list_38
  rw [hk]
  refine ⟨hr, hw.1, hw.2, fun _ => ⟨fun _ => ⟨hw.1, hw.2, fun _ => ⟨by omega, by omega, fun G11 e11 => ?_⟩⟩, fun z => absurd hk8.2 z⟩⟩
  have e : G11 (r + 2) w = k := by rw [e11, uG_c (by omega)]; exact hk
  rw [e]
  refine ⟨hw.1, hw.2, fun _ => ⟨hw.1, hw.2, by unfold inI; omega, fun G18 e18 => ?_⟩⟩
  rw [e18, e11]; exact hQ
theorem list_loop {word : Int} (hr : isO W0 10 r) (hr9 : 985 ≤ r) (hw : 0 ≤ w ∧ w < 3) (hm : most ≤ 8) : ∀ (f F : Nat) (G0 : gS) (a k cnt : Int) (Q : Int → gS → Prop), f < F → 702 ≤ a + f → HS (xRow r) G0 G0 tk cd c a → tk a ≠ 0 → G0 (r + 2) w = k → 0 ≤ k ∧ k ≤ most → 0 ≤ cnt ∧ 2 * cnt ≤ a → (∀ v G', PsB (xRow r) G0 G' c a v (plistL tk most f k a) (LsP tk cd r w k a (nLst tk f a) G0) → Q v G') → PX9_readList_16 (PX9_readList_J F) r word w most 1 cnt G0 Q
  | 0, _, _, _, _, _, _, _, h, hp, _, _, _, _, _ => by have := hp.1.2.2.2.2.1; omega
  | f + 1, 0, _, _, _, _, _, h, _, _, _, _, _, _, _ => absurd h (by omega)
  | f + 1, F + 1, G, a, k, cnt, Q, hfF, haf, hs, ht, hk, hk9, hc, hQ => by
    have hX := xRow_T hr9
    have ha7 : a ≤ 700 := hs.1.2.2.2.2.1
    have ha0 : 0 ≤ a := hs.1.2.2.2.1
    unfold PX9_readList_16
    refine ⟨fun _ => ⟨fun z => absurd z (by decide), fun _ => hTake hs hX ht (fun x1 x2 m1 => ?_) (fun x1 => ?_)⟩, fun z => by omega⟩
    · have spec : plistL tk most (f + 1) k a = (if tk (a + 1) = 2 then (if k < most then pb (ptake (a + 1)) fun c => if tk c = 144 then plistL tk most f (k + 1) c else (0, c) else (3, a + 1)) else pmiss tk (a + 1)) := pb_e x1
      refine hNow m1 (fun _ => ⟨fun z => ?_, fun z => ?_⟩)
      · rw [if_pos z] at spec
        have k1 : uG G 7 8 (a + 1) (r + 2) w = k := by rw [uG_c (by omega)]; exact hk
        have a1 : uG G 7 8 (a + 1) 7 8 = a + 1 := uG_at _ _ _ _
        have d1 : uG G 7 8 (a + 1) 12 (a + 1) = cd (a + 1) := m1.1.2.2.2.2.2.2 _ (by omega) (by omega)
        rw [k1, a1, d1]
        refine ⟨hr, hw.1, hw.2, fun _ => ⟨fun y => fun _ => ⟨by omega, by omega, fun _ => ?_⟩, fun y => ?_⟩⟩
        · rw [if_pos y] at spec
          refine sX10_list hr hw k1 (by omega) ?_
          have m2 : HS (xRow r) G (uG (uG (uG G 7 8 (a + 1)) (r + 1) (w * 8 + k) (cd (a + 1))) (r + 2) w (k + 1)) tk cd c (a + 1) := HS_st (HS_st m1 (Or.inr (by omega)) (by omega)) (Or.inr (by omega)) (by omega)
          refine hTake m2 hX (by omega) (fun x3 x4 m3 => ?_) (fun x3 => hQ 0 _ (HB_B (HB_fl m2 hX (by decide) (by rw [spec, x3]; exact pb_n three_ne))))
          rw [pb_e x3] at spec
          generalize hG3 : uG (uG (uG (uG G 7 8 (a + 1)) (r + 1) (w * 8 + k) (cd (a + 1))) (r + 2) w (k + 1)) 7 8 (a + 1 + 1) = G3 at *
          have k3 : G3 (r + 2) w = k + 1 := by rw [← hG3, uG_c (by omega), uG_at]
          have v3 : G3 (r + 1) (w * 8 + k) = cd (a + 1) := by rw [← hG3, uG_c (by omega), uG_c (by omega), uG_at]
          have o3 : ∀ c' j', ¬ xAt c' j' → ¬ (c' = r + 2 ∧ j' = w) → ¬ (c' = r + 1 ∧ j' = w * 8 + k) → G3 c' j' = G c' j' := fun c' j' q1 q2 q3 => by
            unfold xAt at q1
            rw [← hG3, uG_ne (by omega), uG_ne (by omega), uG_ne (by omega), uG_ne (by omega)]
          refine hNow m3 (fun _ => ⟨fun z2 => ?_, fun z2 => ?_⟩)
          · rw [if_pos z2] at spec
            unfold PX9_readList_104
            refine ⟨by unfold inI; omega, ?_⟩
            show PX9_readList_16 (PX9_readList_J F) r word w most 1 (cnt + 1) G3 Q
            have n1 : nLst tk (f + 1) a = 1 + nLst tk f (a + 1 + 1) := by
              show (if tk (a + 2) = 144 then 1 + nLst tk f (a + 2) else 1) = _
              rw [show a + 2 = a + 1 + 1 by omega, if_pos z2]
            refine list_loop hr hr9 hw hm f F G3 (a + 1 + 1) (k + 1) (cnt + 1) Q (by omega) (by omega) ⟨m3.1, FR_id⟩ (by omega) k3 (by omega) (by omega) (fun v G' h => ?_)
            obtain ⟨⟨h1, h2, h3⟩, h4, h5⟩ := h
            rw [← spec] at h2 h3 h4 h5
            refine hQ v G' ⟨⟨FR_tr m3.2 h1, h2, fun e => ?_⟩, h4, h5⟩
            obtain ⟨q1, q2, q3, q4, q5, q6, q7, q8⟩ := h3 e
            refine ⟨q1, q2, by omega, q4, q5, by rw [n1]; omega, fun j y1 y2 => ?_, fun c' j' y1 y2 y3 => ?_⟩
            · rw [n1] at y2
              by_cases e0 : j = 0
              · subst e0
                rw [show k + 0 = k by omega, q8 (r + 1) (w * 8 + k) (by unfold xAt; omega) (by omega) (by omega), v3, show a + 1 + 2 * 0 = a + 1 by omega]
              · have := q7 (j - 1) (by omega) (by omega)
                rw [show k + 1 + (j - 1) = k + j by omega, show a + 1 + 1 + 1 + 2 * (j - 1) = a + 1 + 2 * j by omega] at this
                exact this
            · rw [q8 c' j' y1 y2 (by omega), o3 c' j' y1 y2 (by omega)]
          · rw [if_neg z2] at spec
            unfold PX9_readList_104
            refine ⟨by unfold inI; omega, ?_⟩
            show PX9_readList_16 (PX9_readList_J F) r word w most 0 (cnt + 1) G3 Q
            have n1 : nLst tk (f + 1) a = 1 := by
              show (if tk (a + 2) = 144 then 1 + nLst tk f (a + 2) else 1) = _
              rw [show a + 2 = a + 1 + 1 by omega, if_neg z2]
            have q : Q 1 G3 := hQ 1 G3 (HS_B m3 spec (by omega) (by
              rw [n1]
              refine ⟨k3, fun j y1 y2 => ?_, fun c' j' y1 y2 y3 => o3 c' j' y1 y2 (by omega)⟩
              obtain rfl : j = 0 := by omega
              rw [show k + 0 = k by omega, v3, show a + 1 + 2 * 0 = a + 1 by omega]))
            unfold PX9_readList_16 PX9_readList_112
            exact ⟨fun _ => ⟨fun _ => q, fun u => absurd rfl u⟩, fun _ => q⟩
        · rw [if_neg y] at spec
          exact hStop m1 hX (by decide) spec (fun G' h => fun _ => hQ 0 G' (HB_B h))
      · rw [if_neg z] at spec
        unfold PX9_readList_44
        exact hMiss m1 hX spec (fun G' h => fun _ => hQ 0 G' (HB_B h))
    · have hb : HB (xRow r) G _ (plistL tk most (f + 1) k a) := HB_fl hs hX (by decide) (show plistL tk most (f + 1) k a = (3, a) by
        show pb (ptake a) _ = _
        rw [x1]; exact pb_n three_ne)
      unfold PX9_readList_44
      exact hMiss_on hb (fun _ => hQ 0 _ (HB_B hb))
theorem list_ok {word a : Int} {G0 : gS} {Q : Int → gS → Prop} (hr : isO W0 10 r) (hr9 : 985 ≤ r) (hw : 0 ≤ w ∧ w < 3) (hm : 0 ≤ most ∧ most ≤ 8) (hs : HS (xRow r) G0 G0 tk cd c a) (h0 : G0 (r + 2) w = 0) (hwd : word ≠ 0) (hQ : ∀ v G', PsB (xRow r) G0 G' c a v (plist tk word most a) (LsP tk cd r w 0 a (lLst tk word a) G0) → Q v G') : PX9_readList r word w most G0 Q := by
  refine ⟨4000000000, Nat.le_refl _, ?_⟩
  generalize hF : (4000000000 : Nat) = F
  have hF2 : 702 < F := by omega
  unfold PX9_readList_0
  have ha0 : 0 ≤ a := hs.1.2.2.2.1
  refine hNow hs (fun _ => ⟨fun z => ?_, fun z => ?_⟩)
  · have spec : plist tk word most a = plistL tk most 702 0 a := if_pos z
    have sl : lLst tk word a = nLst tk 702 a := if_pos z
    refine list_loop hr hr9 hw hm.2 702 F G0 a 0 0 Q hF2 (by omega) hs (by omega) h0 (by omega) (by omega) (fun v G' h => hQ v G' ?_)
    rw [spec, sl]; exact h
  · have spec : plist tk word most a = (0, a) := if_neg z
    have sl : lLst tk word a = 0 := if_neg z
    refine hQ 1 G0 (HS_B hs spec (by omega) ?_)
    rw [sl]
    exact ⟨h0, fun j y1 y2 => by omega, fun _ _ _ _ _ => rfl⟩
end CH2

section RP25
variable {B G G' : gS} {s N d i i' a m c j sc lo hi : Int} {tk cd : Int → Int} {q r : RR}
/-- before effects(), and without what hangs on it -/
def RmQ (B : gS) (s : Int) (tk : Int → Int) (m a : Int) (G : gS) : Prop := (G 16116 m = mKd tk a ∧ G 16117 m = mTold tk a ∧ G 16119 m = b01 (tk (mB0 tk a) = 22) ∧ G 16120 m = b01 (tk (mC0 tk a) = 20) ∧ G 16122 m = b01 (tk (mC0 tk a) = 21) ∧ G 16123 m = 0 ∧ G 16124 m = 0) ∧
  (G 16125 m = (if mKd tk a < 2 then nmR B s (tMember tk a + 1) else 0) ∧ G 16126 m = (if mKd tk a < 2 then plR B s (tMember tk a + 1) else plR B s (mB0 tk a)) ∧ G 16127 m = (if mKd tk a < 2 ∧ tk (tMember tk a) ≠ 24 then rType B s tk (tMember tk a) else 1) ∧ (mKd tk a < 2 → G 16128 m = plR B s (tMember tk a))) ∧
  (ParR B s tk m 0 (if mKd tk a = 1 then lPar tk (tMember tk a + 2) else if mKd tk a = 2 then lPar tk (mB0 tk a + 1) else 0) (if mKd tk a = 1 then tMember tk a + 3 else mB0 tk a + 2) G ∧ (mKd tk a = 1 → 0 ≤ lPar tk (tMember tk a + 2) ∧ lPar tk (tMember tk a + 2) ≤ 4) ∧ (mKd tk a = 2 → 0 ≤ lPar tk (mB0 tk a + 1) ∧ lPar tk (mB0 tk a + 1) ≤ 4)) ∧
  G 16138 m = 0 ∧ G 16139 m = 0 ∧ G 16140 m = 0 ∧ G 16141 m = -2 ∧ G 16142 m = 0
theorem RmQ_F (h : RmQ B s tk m a G) (h1 : ∀ c, 16116 ≤ c → c ≤ 16142 → ¬ (16134 ≤ c ∧ c ≤ 16137) → G' c m = G c m) (h3 : ∀ c j, 16130 ≤ c → c ≤ 16133 → 4 * m ≤ j → j < 4 * m + 4 → G' c j = G c j) : RmQ B s tk m a G' := by
  obtain ⟨x1, x2, ⟨x3, x31, x32⟩, x5⟩ := h
  unfold RmQ
  rw [h1 16116 (by omega) (by omega) (by omega), h1 16117 (by omega) (by omega) (by omega), h1 16119 (by omega) (by omega) (by omega), h1 16120 (by omega) (by omega) (by omega), h1 16122 (by omega) (by omega) (by omega), h1 16123 (by omega) (by omega) (by omega), h1 16124 (by omega) (by omega) (by omega), h1 16125 (by omega) (by omega) (by omega), h1 16126 (by omega) (by omega) (by omega), h1 16127 (by omega) (by omega) (by omega), h1 16128 (by omega) (by omega) (by omega), h1 16138 (by omega) (by omega) (by omega), h1 16139 (by omega) (by omega) (by omega), h1 16140 (by omega) (by omega) (by omega), h1 16141 (by omega) (by omega) (by omega), h1 16142 (by omega) (by omega) (by omega)]
  refine ⟨x1, x2, ⟨ParR_F x3 (by omega) ?_ (h1 _ (by omega) (by omega) (by omega)) h3, x31, x32⟩, x5⟩
  split
  · have := x31 (by assumption); omega
  · split
    · have := x32 (by assumption); omega
    · omega
theorem kMember_3 (a : Int) : kMember tk a = 0 ∨ kMember tk a = 161 ∨ kMember tk a = 223 := by
  unfold kMember kTyped
  split
  · omega
  · split
    · split <;> omega
    · split <;> omega
theorem RmQ_P {G1 : gS} {v : Int} (hs0 : 0 ≤ s) (h0 : 0 ≤ lo) (h : RmQ B s tk m a G) (hb : RbR B s tk m (kMember tk a) (pmember tk j a).2 lo hi G) (e : EfR sc m G G1) : RmP B s tk sc m j a lo hi (uG G1 16115 c v) := by
  obtain ⟨e1, e2, e3, e4, e5⟩ := e
  obtain ⟨⟨x1, x2, x3, x4, x5, x6, x7⟩, y, ⟨z1, z2, z3⟩, w⟩ := h
  have fw : ∀ x y, 16116 ≤ x → uG G1 16115 c v x y = G1 x y := fun x y u => by rw [uG_ne (by omega)]
  have fm : ∀ x y, 16116 ≤ x → ¬ (16118 ≤ x ∧ x ≤ 16121) → uG G1 16115 c v x y = G x y := fun x y u u2 => by rw [fw x y u, e5 x y (by omega)]
  have i35 : G 16135 m = -2 ↔ kMember tk a ≠ 223 := by
    obtain ⟨b1, b2, b3⟩ := hb
    rcases kMember_3 (tk := tk) a with k | k | k
    · rw [k]; exact ⟨fun _ => by decide, fun _ => (b1 k).2⟩
    · rw [k]; exact ⟨fun _ => by decide, fun _ => (b3 k).1⟩
    · obtain ⟨-, j3, -⟩ := rSB_IF B s tk 12
      obtain ⟨n, n1, n2, n3⟩ := j3 _ _ _ _ _ (b2 k).2.2.2
      exact ⟨fun u => by omega, fun u => absurd k u⟩
  unfold RmP
  refine ⟨⟨?_, ?_, ?_, ?_, ?_, ?_, ?_, ?_, ?_⟩, ?_, ⟨ParR_F z1 (by omega) ?_ (fm _ _ (by omega) (by omega)) (fun x y u1 u2 _ _ => fm _ _ (by omega) (by omega)), z2, z3⟩, RbR_F hb (fun x u1 u2 => fm _ _ (by omega) (by omega)) (fun x y u1 u2 _ _ => fm _ _ (by omega) (by omega)), ?_⟩
  · rw [fm _ _ (by omega) (by omega)]; exact x1
  · rw [fm _ _ (by omega) (by omega)]; exact x2
  · rw [fw _ _ (by omega), e1, x1, x2]
  · rw [fw _ _ (by omega), e2, x1, x3]
  · rw [fw _ _ (by omega), e3, x1, x4]
  · rw [fw _ _ (by omega), e4, x1, x5]
    split
    · split
      · by_cases k : kMember tk a = 223
        · rw [if_neg (fun u => i35.mp u k), if_pos k]
        · rw [if_pos (i35.mpr k), if_neg k]
      · rfl
    · rfl
  · rw [fm _ _ (by omega) (by omega)]; exact x5
  · rw [fm _ _ (by omega) (by omega)]; exact x6
  · rw [fm _ _ (by omega) (by omega)]; exact x7
  · rw [fm _ _ (by omega) (by omega), fm _ _ (by omega) (by omega), fm _ _ (by omega) (by omega), fm _ _ (by omega) (by omega)]; exact y
  · split
    · have := z2 (by assumption); omega
    · split
      · have := z3 (by assumption); omega
      · omega
  · rw [fm _ _ (by omega) (by omega), fm _ _ (by omega) (by omega), fm _ _ (by omega) (by omega), fm _ _ (by omega) (by omega), fm _ _ (by omega) (by omega)]; exact w
theorem ptyped_par {t : Int} (h : (ptyped tk t).1 = 0) (z : tk (t + 2) = 140) : (pparams tk (t + 2)).1 = 0 := by
  unfold ptyped at h
  split at h
  · obtain ⟨x1, x2⟩ := pb_z h
    rw [(ptake_le (a := t)).2.2 x1] at x2
    obtain ⟨x3, x4⟩ := pb_z x2
    have e2 := ((pneed_le).2.2 x3).1
    rw [show (pneed tk 3 (t + 1)).2 = t + 2 by omega, if_pos z] at x4
    exact (pb_z x4).1
  · exact absurd h (pmiss_ne _)
theorem b01_le (p : Prop) [Decidable p] : 0 ≤ b01 p ∧ b01 p ≤ 1 := by
  unfold b01
  split <;> omega
theorem RmQ_typed {G0 : gS} (h23 : tk a ≠ 23) (h25 : tk (mB0 tk a) ≠ 25) (hz : (pdc tk (mB0 tk a)).1 = 0) (h17 : G0 16117 m = mTold tk a) (hn : ∀ x, 16119 ≤ x → x ≤ 16142 → ¬ (16130 ≤ x ∧ x ≤ 16133) → G0 x m = G x m) (hG : G 16123 m = 0 ∧ G 16124 m = 0 ∧ G 16127 m = 1 ∧ G 16138 m = 0 ∧ G 16139 m = 0 ∧ G 16140 m = 0 ∧ G 16141 m = -2 ∧ G 16142 m = 0) (h : DcR B s tk m (mB0 tk a) lo hi G0 G') : RmQ B s tk m a G' ∧ RbR B s tk m (kMember tk a) (ptyped tk (tMember tk a)).2 lo hi G' := by
  obtain ⟨d1, d2, d3, G1, g1, ⟨t1, t2, t3, t4, t5, t6, t7, t8⟩, g2⟩ := h
  have kM : kMember tk a = kTyped tk (tMember tk a) := if_neg (fun u => u.elim h23 h25)
  have eT : tDc tk (mB0 tk a) = tMember tk a := rfl
  rw [eT] at t1 t2 t3 t4 t5 t6 t7
  have kd : mKd tk a = if tk (tMember tk a + 2) = 140 then 1 else 0 := by
    unfold mKd; rw [if_neg h23, if_neg h25]
  have kd2 : mKd tk a < 2 := by rw [kd]; split <;> omega
  have old : ∀ x, 16116 ≤ x → x ≤ 16142 → ¬ (x = 16116 ∨ 16125 ≤ x ∧ x ≤ 16137) → ¬ (x = 16119 ∨ x = 16120 ∨ x = 16122) → G' x m = G0 x m := fun x y1 y2 y3 y4 => by rw [t8 x y1 y2 y3, g2 x y1 y2 y4]
  refine ⟨⟨⟨by rw [t1, kd], by rw [old _ (by omega) (by omega) (by omega) (by omega)]; exact h17, d1, d2, d3, ?_, ?_⟩, ⟨by rw [if_pos kd2]; exact t2, by rw [if_pos kd2]; exact t3, ?_, fun _ => t5⟩, ⟨?_, fun k1 => ?_, fun k2 => by omega⟩, ?_, ?_, ?_, ?_, ?_⟩, by rw [kM]; exact t7⟩
  · rw [old _ (by omega) (by omega) (by omega) (by omega), hn _ (by omega) (by omega) (by omega)]; exact hG.1
  · rw [old _ (by omega) (by omega) (by omega) (by omega), hn _ (by omega) (by omega) (by omega)]; exact hG.2.1
  · rw [t4]
    split
    · rename_i z
      rw [if_neg (fun u => u.2 z), g1, hn _ (by omega) (by omega) (by omega)]; exact hG.2.2.1
    · rename_i z
      rw [if_pos ⟨kd2, z⟩]
  · by_cases z : tk (tMember tk a + 2) = 140
    · rw [if_pos z] at t6 kd
      rw [if_pos kd, if_pos kd]; exact t6
    · rw [if_neg z] at t6 kd
      rw [if_neg (by omega), if_neg (by omega)]
      exact ⟨t6.1, fun j j0 j1 => by omega⟩
  · have z : tk (tMember tk a + 2) = 140 := by
      by_cases z : tk (tMember tk a + 2) = 140
      · exact z
      · rw [if_neg z] at kd; omega
    have h1 := (pb_z (pb_z hz).2).2
    have h2 : (pty tk (tMember tk a)).1 = 0 := h1
    exact lPar_5 (ptyped_par (pb_z h2).1 z)
  · rw [old _ (by omega) (by omega) (by omega) (by omega), hn _ (by omega) (by omega) (by omega)]; exact hG.2.2.2.1
  · rw [old _ (by omega) (by omega) (by omega) (by omega), hn _ (by omega) (by omega) (by omega)]; exact hG.2.2.2.2.1
  · rw [old _ (by omega) (by omega) (by omega) (by omega), hn _ (by omega) (by omega) (by omega)]; exact hG.2.2.2.2.2.1
  · rw [old _ (by omega) (by omega) (by omega) (by omega), hn _ (by omega) (by omega) (by omega)]; exact hG.2.2.2.2.2.2.1
  · rw [old _ (by omega) (by omega) (by omega) (by omega), hn _ (by omega) (by omega) (by omega)]; exact hG.2.2.2.2.2.2.2
end RP25

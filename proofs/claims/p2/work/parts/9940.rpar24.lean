section RP24
variable {B G G' : gS} {s N d i i' a m c j sc lo hi : Int} {tk cd : Int → Int} {q r : RR}
def mTold (tk : Int → Int) (a : Int) : Int := if tk a = 17 then 1 else if tk a = 18 then 2 else if tk a = 19 then 3 else 0
/-- a MEMBER that the reference has read: at m the j-th of its class, whose sort is sc -/
def RmP (B : gS) (s : Int) (tk : Int → Int) (sc m j a lo hi : Int) (G : gS) : Prop := (G 16116 m = mKd tk a ∧ G 16117 m = mTold tk a ∧ G 16118 m = accR sc (mTold tk a) (mKd tk a) ∧ G 16119 m = (if sc = 3 ∧ mKd tk a = 0 then 1 else b01 (tk (mB0 tk a) = 22)) ∧ G 16120 m = (if sc = 3 ∧ mKd tk a = 0 then 1 else b01 (tk (mC0 tk a) = 20)) ∧ G 16121 m = (if mKd tk a = 1 then (if sc = 3 then (if kMember tk a = 223 then 0 else 1) else b01 (tk (mC0 tk a) = 21)) else 0) ∧ G 16122 m = b01 (tk (mC0 tk a) = 21) ∧ G 16123 m = 0 ∧ G 16124 m = 0) ∧
  (G 16125 m = (if mKd tk a < 2 then nmR B s (tMember tk a + 1) else 0) ∧ G 16126 m = (if mKd tk a < 2 then plR B s (tMember tk a + 1) else plR B s (mB0 tk a)) ∧ G 16127 m = (if mKd tk a < 2 ∧ tk (tMember tk a) ≠ 24 then rType B s tk (tMember tk a) else 1) ∧ (mKd tk a < 2 → G 16128 m = plR B s (tMember tk a))) ∧
  (ParR B s tk m 0 (if mKd tk a = 1 then lPar tk (tMember tk a + 2) else if mKd tk a = 2 then lPar tk (mB0 tk a + 1) else 0) (if mKd tk a = 1 then tMember tk a + 3 else mB0 tk a + 2) G ∧ (mKd tk a = 1 → 0 ≤ lPar tk (tMember tk a + 2) ∧ lPar tk (tMember tk a + 2) ≤ 4) ∧ (mKd tk a = 2 → 0 ≤ lPar tk (mB0 tk a + 1) ∧ lPar tk (mB0 tk a + 1) ≤ 4)) ∧
  RbR B s tk m (kMember tk a) (pmember tk j a).2 lo hi G ∧ G 16138 m = 0 ∧ G 16139 m = 0 ∧ G 16140 m = 0 ∧ G 16141 m = -2 ∧ G 16142 m = 0
theorem RbR_F {k e : Int} (h : RbR B s tk m k e lo hi G) (h1 : ∀ c, 16134 ≤ c → c ≤ 16137 → G' c m = G c m) (h2 : ∀ c j, 16144 ≤ c → c ≤ 16155 → s * 1700 + lo ≤ j → j < s * 1700 + hi → G' c j = G c j) : RbR B s tk m k e lo hi G' := by
  obtain ⟨-, -, j4⟩ := rSB_IF B s tk 12
  obtain ⟨⟨-, j2⟩, -⟩ := rEU_IF B s tk 12
  obtain ⟨x1, x2, x3⟩ := h
  have f : ∀ n, SmR s lo hi n G G' := fun n c j y1 y2 y3 y4 _ => h2 c j y1 y2 y3 y4
  refine ⟨fun z => ?_, fun z => ?_, fun z => ?_⟩
  · rw [h1 _ (by omega) (by omega), h1 _ (by omega) (by omega)]; exact x1 z
  · rw [h1 _ (by omega) (by omega), h1 _ (by omega) (by omega), h1 _ (by omega) (by omega), h1 _ (by omega) (by omega)]
    exact ⟨(x2 z).1, (x2 z).2.1, (x2 z).2.2.1, j4 _ _ _ _ _ _ (x2 z).2.2.2 (f _)⟩
  · rw [h1 _ (by omega) (by omega), h1 _ (by omega) (by omega), h1 _ (by omega) (by omega), h1 _ (by omega) (by omega)]
    exact ⟨(x3 z).1, (x3 z).2.1, (x3 z).2.2.1, j2 _ _ _ _ _ _ (x3 z).2.2.2 (f _)⟩
theorem RbR_wid {k e lo' hi' : Int} (h : RbR B s tk m k e lo hi G) (e1 : lo = lo') (e2 : hi = hi') : RbR B s tk m k e lo' hi' G := by
  subst e1 e2; exact h
theorem ParR_F {k n b : Int} (h : ParR B s tk m k n b G) (hk : 0 ≤ k) (hn : k + n ≤ 4) (h1 : G' 16129 m = G 16129 m) (h2 : ∀ c j, 16130 ≤ c → c ≤ 16133 → 4 * m ≤ j → j < 4 * m + 4 → G' c j = G c j) : ParR B s tk m k n b G' := ⟨by rw [h1]; exact h.1, fun j j0 j1 => by rw [h2 _ _ (by omega) (by omega) (by omega) (by omega), h2 _ _ (by omega) (by omega) (by omega) (by omega), h2 _ _ (by omega) (by omega) (by omega) (by omega), h2 _ _ (by omega) (by omega) (by omega) (by omega)]; exact h.2 j j0 j1⟩
theorem RmP_F (h : RmP B s tk sc m j a lo hi G) (h1 : ∀ c, 16116 ≤ c → c ≤ 16142 → G' c m = G c m) (h3 : ∀ c j, 16130 ≤ c → c ≤ 16133 → 4 * m ≤ j → j < 4 * m + 4 → G' c j = G c j) (h2 : ∀ c j, 16144 ≤ c → c ≤ 16155 → s * 1700 + lo ≤ j → j < s * 1700 + hi → G' c j = G c j) : RmP B s tk sc m j a lo hi G' := by
  obtain ⟨x1, x2, ⟨x3, x31, x32⟩, x4, x5⟩ := h
  unfold RmP
  rw [h1 16116 (by omega) (by omega), h1 16117 (by omega) (by omega), h1 16118 (by omega) (by omega), h1 16119 (by omega) (by omega), h1 16120 (by omega) (by omega), h1 16121 (by omega) (by omega), h1 16122 (by omega) (by omega), h1 16123 (by omega) (by omega), h1 16124 (by omega) (by omega), h1 16125 (by omega) (by omega), h1 16126 (by omega) (by omega), h1 16127 (by omega) (by omega), h1 16128 (by omega) (by omega), h1 16138 (by omega) (by omega), h1 16139 (by omega) (by omega), h1 16140 (by omega) (by omega), h1 16141 (by omega) (by omega), h1 16142 (by omega) (by omega)]
  refine ⟨x1, x2, ⟨ParR_F x3 (by omega) ?_ (h1 _ (by omega) (by omega)) h3, x31, x32⟩, RbR_F x4 (fun c y1 y2 => h1 c (by omega) (by omega)) h2, x5⟩
  split
  · have := x31 (by assumption); omega
  · split
    · have := x32 (by assumption); omega
    · omega
/-- an item whose words are a type's -/
theorem pitem_ty (hb : tk a = 2 ∨ (17 ≤ tk a ∧ tk a ≤ 26)) (hj : j < 20) (h23 : tk a ≠ 23) (h25 : (paccess tk a).1 = 0 → tk (mB0 tk a) ≠ 25) : pitem tk j a = pb (paccess tk a) (pdc tk) ∧ ((pitem tk j a).1 = 0 → (pmember tk j a).2 = (ptyped tk (tMember tk a)).2) := by
  have pm : pmember tk j a = pb (paccess tk a) fun b => if tk b = 25 then pb (ptake b) (pparams tk) else pb (popt tk 22 b) fun c => pb (pfb tk c) (ptyped tk) := by
    unfold pmember
    rw [if_pos hb, if_pos hj, if_neg h23]
  by_cases e1 : (paccess tk a).1 = 0
  · have n25 := h25 e1
    unfold mB0 at n25
    have kM : kMember tk a = kTyped tk (tMember tk a) := by
      unfold kMember
      exact if_neg (fun u => u.elim h23 n25)
    have pm2 : pmember tk j a = pb (popt tk 22 (paccess tk a).2) fun c => pb (pfb tk c) (ptyped tk) := by
      rw [pm, pb_0 e1, if_neg n25]
    rw [pb_0 e1]
    by_cases e2 : (popt tk 22 (paccess tk a).2).1 = 0
    · rw [pb_0 e2] at pm2
      have hd : pdc tk (paccess tk a).2 = pb (pfb tk (popt tk 22 (paccess tk a).2).2) (pty tk) := by
        unfold pdc; rw [pb_0 e2]
      by_cases e3 : (pfb tk (popt tk 22 (paccess tk a).2).2).1 = 0
      · rw [pb_0 e3] at pm2 hd
        have pm3 : pmember tk j a = ptyped tk (tMember tk a) := pm2
        have hd3 : pdc tk (paccess tk a).2 = pty tk (tMember tk a) := hd
        refine ⟨?_, fun _ => by rw [pm3]⟩
        rw [hd3]
        unfold pitem pty
        rw [pm3, kM]
        rfl
      · rw [pb_n e3] at pm2 hd
        have e4 : (pmember tk j a).1 ≠ 0 := by rw [pm2]; exact e3
        have e5 : pitem tk j a = pmember tk j a := by unfold pitem; rw [pb_n e4]
        exact ⟨by rw [e5, pm2, hd], fun u => absurd (by rw [← e5]; exact u) e4⟩
    · rw [pb_n e2] at pm2
      have hd : pdc tk (paccess tk a).2 = popt tk 22 (paccess tk a).2 := by unfold pdc; rw [pb_n e2]
      have e4 : (pmember tk j a).1 ≠ 0 := by rw [pm2]; exact e2
      have e5 : pitem tk j a = pmember tk j a := by unfold pitem; rw [pb_n e4]
      exact ⟨by rw [e5, pm2, hd], fun u => absurd (by rw [← e5]; exact u) e4⟩
  · rw [pb_n e1] at pm
    have e4 : (pmember tk j a).1 ≠ 0 := by rw [pm]; exact e1
    have e5 : pitem tk j a = pmember tk j a := by unfold pitem; rw [pb_n e4]
    exact ⟨by rw [e5, pm, pb_n e1], fun u => absurd (by rw [← e5]; exact u) e4⟩
theorem pbody_223 : pbody tk 223 = pB tk 12 := by
  funext x
  exact if_pos rfl
theorem pitem_mk (hb : tk a = 2 ∨ (17 ≤ tk a ∧ tk a ≤ 26)) (hj : j < 20) (h23 : tk a ≠ 23) (e1 : (paccess tk a).1 = 0) (h25 : tk (mB0 tk a) = 25) : pitem tk j a = pb (pb (ptake (mB0 tk a)) (pparams tk)) (pB tk 12) ∧ (pmember tk j a).2 = (pb (ptake (mB0 tk a)) (pparams tk)).2 ∧ kMember tk a = 223 := by
  have kM : kMember tk a = 223 := if_pos (Or.inr h25)
  have pm : pmember tk j a = pb (ptake (mB0 tk a)) (pparams tk) := by
    unfold pmember
    rw [if_pos hb, if_pos hj, if_neg h23, pb_0 e1]
    exact if_pos h25
  refine ⟨?_, by rw [pm], kM⟩
  unfold pitem
  rw [pm, kM]
  have : (fun b : Int => if (223 : Int) = 0 then ((0 : Int), b) else pbody tk 223 b) = pB tk 12 := by
    funext x
    rw [if_neg (by decide)]
    exact if_pos rfl
  rw [this]
theorem pitem_st (hj : j < 20) (h23 : tk a = 23) : pitem tk j a = pb (ptake a) (pB tk 12) ∧ (pmember tk j a).2 = (ptake a).2 ∧ kMember tk a = 223 := by
  have kM : kMember tk a = 223 := if_pos (Or.inl h23)
  have pm : pmember tk j a = ptake a := by
    unfold pmember
    rw [if_pos (Or.inr (by omega)), if_pos hj, if_pos h23]
  refine ⟨?_, by rw [pm], kM⟩
  unfold pitem
  rw [pm, kM]
  have : (fun b : Int => if (223 : Int) = 0 then ((0 : Int), b) else pbody tk 223 b) = pB tk 12 := by
    funext x
    rw [if_neg (by decide)]
    exact if_pos rfl
  rw [this]
def XI (s i c m x y : Int) : Prop := XM s i m x y ∨ (x = 16115 ∧ y = c)
end RP24

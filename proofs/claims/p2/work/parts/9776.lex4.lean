section LT
def isSm (t : Int → Int) (i : Int) : Prop := 97 ≤ t i ∧ t i ≤ 122
def isCl (t : Int → Int) (i : Int) : Prop := isSm t i ∧ t (i + 1) = 46 ∧ (65 ≤ t (i + 2) ∧ t (i + 2) ≤ 90)
def sg (c : Int) : Prop := c = 123 ∨ c = 125 ∨ c = 40 ∨ c = 41 ∨ c = 44 ∨ c = 59 ∨ c = 46 ∨ c = 61 ∨ c = 60 ∨ c = 43 ∨ c = 45 ∨ c = 42
-- a token of the reference that begins at i: where it ends, its kind, name, value (what they were ahead)
def RTok (t : Int → Int) (i e kd nm vl nm0 vl0 : Int) : Prop :=
  (isCl t i → We t (i + 2) e ∧ vl = vl0 ∧ (11 < e - i → kd = 6) ∧ (¬ 11 < e - i → kd = 1 ∧ nm = gv (sy (t i)) t (i + 2) (e - (i + 2)).toNat + 2305843009213693952)) ∧
  (isSm t i → ¬ isCl t i → We t i e ∧ vl = vl0 ∧ (10 < e - i → kd = 6) ∧ (¬ 10 < e - i → nm = gv 0 t i (e - i).toNat ∧ (kd = 3 ∧ isw nm ∨ kd = 2 ∧ ¬ isw nm))) ∧
  (dg (t i) → Ne t i e ∧ nm = nm0 ∧ (9 < e - i → kd = 6) ∧ (¬ 9 < e - i → kd = 4 ∧ vl = nv t i (e - i).toNat)) ∧
  (¬ isSm t i → ¬ dg (t i) → nm = nm0 ∧ (t i = 61 ∧ t (i + 1) = 61 → e = i + 2 ∧ kd = 5 ∧ vl = 256) ∧ (¬ (t i = 61 ∧ t (i + 1) = 61) → e = i + 1 ∧ (sg (t i) → kd = 5 ∧ vl = t i) ∧ (¬ sg (t i) → kd = 6)))
theorem RTok_cl {t : Int → Int} {i e kd nm vl nm0 vl0 : Int} (h : isCl t i) (q : We t (i + 2) e ∧ vl = vl0 ∧ (11 < e - i → kd = 6) ∧ (¬ 11 < e - i → kd = 1 ∧ nm = gv (sy (t i)) t (i + 2) (e - (i + 2)).toNat + 2305843009213693952)) : RTok t i e kd nm vl nm0 vl0 := ⟨fun _ => q, fun _ h2 => absurd h h2, fun h2 => by have := h.1; unfold isSm at this; unfold dg at h2; omega, fun h2 => absurd h.1 h2⟩
theorem RTok_nm {t : Int → Int} {i e kd nm vl nm0 vl0 : Int} (h : isSm t i) (h1 : ¬ isCl t i) (q : We t i e ∧ vl = vl0 ∧ (10 < e - i → kd = 6) ∧ (¬ 10 < e - i → nm = gv 0 t i (e - i).toNat ∧ (kd = 3 ∧ isw nm ∨ kd = 2 ∧ ¬ isw nm))) : RTok t i e kd nm vl nm0 vl0 := ⟨fun h2 => absurd h2 h1, fun _ _ => q, fun h2 => by unfold isSm at h; unfold dg at h2; omega, fun h2 => absurd h h2⟩
theorem RTok_dg {t : Int → Int} {i e kd nm vl nm0 vl0 : Int} (h : dg (t i)) (q : Ne t i e ∧ nm = nm0 ∧ (9 < e - i → kd = 6) ∧ (¬ 9 < e - i → kd = 4 ∧ vl = nv t i (e - i).toNat)) : RTok t i e kd nm vl nm0 vl0 := ⟨fun h2 => by have := h2.1; unfold isSm at this; unfold dg at h; omega, fun h2 => by unfold isSm at h2; unfold dg at h; omega, fun _ => q, fun _ h2 => absurd h h2⟩
theorem RTok_sg {t : Int → Int} {i e kd nm vl nm0 vl0 : Int} (h : ¬ isSm t i) (h1 : ¬ dg (t i)) (q : nm = nm0 ∧ (t i = 61 ∧ t (i + 1) = 61 → e = i + 2 ∧ kd = 5 ∧ vl = 256) ∧ (¬ (t i = 61 ∧ t (i + 1) = 61) → e = i + 1 ∧ (sg (t i) → kd = 5 ∧ vl = t i) ∧ (¬ sg (t i) → kd = 6))) : RTok t i e kd nm vl nm0 vl0 := ⟨fun h2 => absurd h2.1 h, fun h2 => absurd h2 h, fun h2 => absurd h2 h1, fun _ _ => q⟩
-- nothing else is changed
def F3 (G G' : gS) (k : Int) : Prop := ∀ c j, ¬ ((c = 16090 ∨ c = 16093 ∨ c = 16094) ∧ j = k) → G' c j = G c j
theorem F3_id (G : gS) (k : Int) : F3 G G k := fun _ _ _ => rfl
theorem F3_up {G G' : gS} {k c v : Int} (h : F3 G G' k) (hc : c = 16090 ∨ c = 16093 ∨ c = 16094) : F3 G (uG G' c k v) k := fun c' j' q => by
  rw [uG_ne (by
    rcases (show c' = c ∧ j' = k ∨ c' ≠ c ∨ j' ≠ k by omega) with z | z
    · exact absurd ⟨by rw [z.1]; exact hc, z.2⟩ q
    · exact z)]
  exact h c' j' q
theorem F3_RB {G G' : gS} {k s n : Int} {t : Int → Int} (h : F3 G G' k) (hb : RB G s n t) : RB G' s n t := by
  obtain ⟨h1, h2, h3, h4, h5⟩ := hb
  exact ⟨by rw [h _ _ (by omega)]; exact h1, h2, h3, by rw [h _ _ (by omega)]; exact h4, fun i a b => by rw [h _ _ (by omega)]; exact h5 i a b⟩
theorem F3_WR {G G' : gS} {k : Int} (h : F3 G G' k) (hw : WR G) : WR G' := ⟨by rw [h _ _ (by omega)]; exact hw.1, fun w a b => by rw [h _ _ (by omega)]; exact hw.2 w a b⟩
variable {G : gS} {Q : Int → gS → Prop} {t : Int → Int} {s n : Int} {J : JT}
-- signs, and what no token begins with
theorem tok_end {k i c v w : Int} {l4 : Int} (k0 : 0 ≤ k) (k1 : k < 12636) (hi : 0 ≤ i ∧ i ≤ 4000) (hQ : ∀ e, (e = if w = 0 then i + 1 else i + 2) → Q e (uG G 16094 k v)) : PX13_tokenAt_487 J k i c l4 w 16094 k v G Q := by
  unfold PX13_tokenAt_487 PX13_tokenAt_502
  refine ⟨12636, aC16094, k0, k1, fun G1 e1 => ?_⟩
  subst e1
  exact ⟨fun q => ⟨by unfold inI; omega, hQ _ (by rw [if_pos q])⟩, fun q => ⟨by unfold inI; omega, hQ _ (by rw [if_neg q])⟩⟩
theorem tok_sign {k i c d : Int} (hb : RB G s n t) (ht : Tx t n) (h0 : 0 ≤ i) (h1 : i < n) (k0 : 0 ≤ k) (k1 : k < 12636) (hc : c = t i % 256) (hd : d = 0 ∨ d = 1) (hQ : ∀ e kd vl, kd = (if d = 0 then 6 else 5) → (c = 61 ∧ t (i + 1) = 61 → e = i + 2 ∧ vl = 256) → (¬ (c = 61 ∧ t (i + 1) = 61) → e = i + 1 ∧ vl = c) → Q e (uG (uG G 16090 k kd) 16094 k vl)) : PX13_tokenAt_426 J k i c d G Q := by
  have hn := ht.2.1
  have key : ∀ kd, kd = (if d = 0 then 6 else 5) → PX13_tokenAt_444 J k i c d 16090 k kd G Q := by
    intro kd hk
    have hb1 : RB (uG G 16090 k kd) s n t := F3_RB (F3_up (F3_id G k) (by omega)) hb
    unfold PX13_tokenAt_444 PX13_tokenAt_467 PX13_tokenAt_468
    refine ⟨12636, aC16090, k0, k1, fun G1 e1 => ?_⟩
    subst e1
    have no : ¬ (c = 61 ∧ t (i + 1) = 61) → PX13_tokenAt_487 J k i c d 0 16094 k c (uG G 16090 k kd) Q := fun z => tok_end k0 k1 ⟨h0, by omega⟩ (fun e he => hQ e kd c hk (fun y => absurd y z) (fun _ => ⟨by rw [he, if_pos rfl], rfl⟩))
    refine ⟨fun q => ⟨by unfold inI; omega, sX13_byteAt hb1 ht (by omega) (fun _ => ⟨fun q2 => ⟨fun z => absurd z (by decide), fun _ => ?_⟩, fun q2 => ⟨fun _ => no (fun z => ?_), fun z => absurd rfl z⟩⟩)⟩, fun q => ⟨fun _ => no (fun z => q z.1), fun z => absurd rfl z⟩⟩
    · have := ht.2.2.2 (i + 1)
      exact tok_end k0 k1 ⟨h0, by omega⟩ (fun e he => hQ e kd 256 hk (fun _ => ⟨by rw [he, if_neg (by decide)], rfl⟩) (fun z => absurd ⟨q, by omega⟩ z))
    · have := z.2
      omega
  unfold PX13_tokenAt_426
  exact ⟨fun q => key 6 (by rw [if_pos q]), fun q => key 5 (by rw [if_neg q])⟩
theorem tok_signs {k i c : Int} (hp : sg c → PX13_tokenAt_426 J k i c 1 G Q) (hn : ¬ sg c → PX13_tokenAt_426 J k i c 0 G Q) : PX13_tokenAt_349 J k i c G Q := by
  unfold PX13_tokenAt_349 PX13_tokenAt_421
  unfold sg at hp hn
  exact ⟨fun q => hp (by omega), fun q1 => ⟨fun q => hp (by omega), fun q2 => ⟨fun q => hp (by omega), fun q3 => ⟨fun q => hp (by omega), fun q4 => ⟨fun q => hp (by omega), fun q5 => ⟨fun q => hp (by omega), fun q6 => ⟨fun q => hp (by omega), fun q7 => ⟨fun q => hp (by omega), fun q8 => ⟨fun q => hp (by omega), fun q9 => ⟨fun q => hp (by omega), fun q10 => ⟨fun q => hp (by omega), fun q11 => ⟨fun q => hp (by omega), fun q12 => hn (by omega)⟩⟩⟩⟩⟩⟩⟩⟩⟩⟩⟩⟩
end LT

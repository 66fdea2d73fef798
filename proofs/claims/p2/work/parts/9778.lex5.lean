section LU
theorem nv_b {t : Int → Int} {i : Int} : ∀ k : Nat, (∀ j, i ≤ j → j < i + k → dg (t j)) → 0 ≤ nv t i k ∧ nv t i k < 10 ^ k
  | 0, _ => by unfold nv; omega
  | k + 1, h => by
    have ih := nv_b k (fun j a b => h j a (by omega))
    have h2 := h (i + k) (by omega) (by omega)
    unfold dg at h2
    unfold nv
    rw [Int.pow_succ]
    omega
theorem p10 : ∀ k : Nat, k < 9 → (10 : Int) ^ k ≤ 100000000 := by decide
variable {G : gS} {Q : Int → gS → Prop} {t : Int → Int} {s n : Int}
theorem tok_digits {k i c : Int} (hb : RB G s n t) (ht : Tx t n) (h0 : 0 ≤ i) (h1 : i < n) (k0 : 0 ≤ k) (k1 : k < 12636) (hQ : ∀ e kd vl, Ne t i e → e ≤ n → (9 < e - i → kd = 6) → (¬ 9 < e - i → kd = 4 ∧ vl = nv t i (e - i).toNat) → Q e (uG (uG G 16090 k kd) 16094 k vl)) : PX13_tokenAt_258 (PX13_tokenAt_J 4000000000) k i c i 0 G Q := by
  have hn := ht.2.1
  refine lpB (B := BX13_tokenAt) (PJ := PX13_tokenAt_J) (fun _ _ _ _ _ => rfl) (fun m h L G' => h = 2 ∧ G' = G ∧ ∃ l : Int, L = [k, i, c, l, nv t i (if l - i < 9 then (l - i).toNat else 9)] ∧ i ≤ l ∧ l ≤ n ∧ (m : Int) = n - l ∧ ∀ j, i ≤ j → j < l → dg (t j)) ?_ 4000000000 (n - i).toNat 2 [k, i, c, i, 0] G (by omega) ⟨rfl, rfl, i, by rw [if_pos (by omega), show (i - i).toNat = 0 by omega]; rfl, by omega, by omega, by omega, fun j _ _ => by omega⟩
  rintro J m h L G' ⟨rfl, e, l, rfl, i1, i2, i3, i4⟩ hj
  subst e
  generalize hv : nv t i (if l - i < 9 then (l - i).toNat else 9) = v at *
  show PX13_tokenAt_258 J k i c l v _ Q
  have hl := ht.2.2.2 l
  have fin : ¬ dg (t l) → PX13_tokenAt_317 J k i c l v G' Q := fun z => by
    unfold PX13_tokenAt_317 PX13_tokenAt_337
    refine ⟨by unfold inI; omega, fun q => ⟨12636, aC16090, k0, k1, fun G1 e1 => ⟨k0, k1, fun G2 e2 => ?_⟩⟩, fun q => ⟨12636, aC16090, k0, k1, fun G1 e1 => ⟨k0, k1, fun G2 e2 => ?_⟩⟩⟩
    · subst e1 e2
      exact hQ l 6 v ⟨i1, i4, z⟩ i2 (fun _ => rfl) (fun y => absurd q y)
    · subst e1 e2
      refine hQ l 4 v ⟨i1, i4, z⟩ i2 (fun y => absurd y q) (fun _ => ⟨rfl, ?_⟩)
      rw [← hv]
      split
      · rfl
      · rw [show (l - i).toNat = 9 by omega]
  unfold PX13_tokenAt_258 PX13_tokenAt_309
  refine sX13_byteAt hb ht (by omega) (fun _ => ⟨fun q => fin (by unfold dg; omega), fun q => sX13_byteAt hb ht (by omega) (fun _ => ⟨fun q2 => fin (by unfold dg; omega), fun q2 => ⟨by unfold inI; omega, fun q3 => sX13_byteAt hb ht (by omega) (fun _ => ?_), fun q3 => ?_⟩⟩)⟩)
  · rw [if_pos q3] at hv
    have hd : dg (t l) := by unfold dg; omega
    have b := nv_b (t := t) (i := i) (l - i).toNat (fun j a b => i4 j a (by omega))
    have b2 := p10 (l - i).toNat (by omega)
    rw [hv] at b
    have hln : l < n := by
      rcases (show l < n ∨ l = n by omega) with y | y
      · exact y
      · rw [y, ht.2.2.1 n (by omega)] at hd; unfold dg at hd; omega
    refine ⟨by unfold inI; omega, by unfold inI; omega, ?_⟩
    refine hj (m - 1) 2 _ _ (by omega) ⟨rfl, rfl, l + 1, ?_, by omega, by omega, by omega, fun j a b => ?_⟩
    · have e9 : (if l + 1 - i < 9 then (l + 1 - i).toNat else 9) = (l - i).toNat + 1 := by split <;> omega
      rw [e9]
      unfold nv
      rw [hv, show i + ((l - i).toNat : Int) = l by omega, show 10 * v + t l % 256 - 48 = 10 * v + (t l - 48) by unfold dg at hd; omega]
    · rcases (show j < l ∨ j = l by omega) with y | y
      · exact i4 j a y
      · rw [y]; exact hd
  · rw [if_neg q3] at hv
    have hd : dg (t l) := by unfold dg; omega
    have hln : l < n := by
      rcases (show l < n ∨ l = n by omega) with y | y
      · exact y
      · rw [y, ht.2.2.1 n (by omega)] at hd; unfold dg at hd; omega
    refine ⟨by unfold inI; omega, ?_⟩
    refine hj (m - 1) 2 _ _ (by omega) ⟨rfl, rfl, l + 1, ?_, by omega, by omega, by omega, fun j a b => ?_⟩
    · rw [if_neg (by omega), hv]
    · rcases (show j < l ∨ j = l by omega) with y | y
      · exact i4 j a y
      · rw [y]; exact hd
theorem tok_letters {k i c e : Int} (hb : RB G s n t) (ht : Tx t n) (hw : WR G) (h0 : 0 ≤ i) (h1 : i ≤ e) (h2 : e ≤ n) (k0 : 0 ≤ k) (k1 : k < 12636) (hQ : ∀ kd nm, (10 < e - i → kd = 6) → (¬ 10 < e - i → nm = gv 0 t i (e - i).toNat ∧ (kd = 3 ∧ isw nm ∨ kd = 2 ∧ ¬ isw nm)) → Q e (uG (uG G 16090 k kd) 16093 k nm)) : PX13_tokenAt_155 (PX13_tokenAt_J 4000000000) k i c e 0 i G Q := by
  have hn := ht.2.1
  refine lpB (B := BX13_tokenAt) (PJ := PX13_tokenAt_J) (fun _ _ _ _ _ => rfl) (fun m h L G' => h = 1 ∧ G' = G ∧ ∃ l : Int, L = [k, i, c, e, gv 0 t i (l - i).toNat, l] ∧ i ≤ l ∧ l ≤ e ∧ l ≤ i + 10 ∧ (m : Int) = n - l) ?_ 4000000000 (n - i).toNat 1 [k, i, c, e, 0, i] G (by omega) ⟨rfl, rfl, i, by rw [show (i - i).toNat = 0 by omega]; rfl, by omega, by omega, by omega, by omega⟩
  rintro J m h L G' ⟨rfl, e1, l, rfl, i1, i2, i3, i4⟩ hj
  subst e1
  generalize hv : gv 0 t i (l - i).toNat = v at *
  show PX13_tokenAt_155 J k i c e v l _ Q
  have fin : (¬ l < e ∨ ¬ l < i + 10) → PX13_tokenAt_195 J k i c e v l G' Q := fun z => by
    unfold PX13_tokenAt_195 PX13_tokenAt_228
    refine ⟨by unfold inI; omega, fun q => ⟨12636, aC16090, k0, k1, fun G1 e1 => ⟨k0, k1, fun G2 e2 => ?_⟩⟩, fun q => ?_⟩
    · subst e1 e2
      exact hQ 6 v (fun _ => rfl) (fun y => absurd q y)
    · have ev : v = gv 0 t i (e - i).toNat := by rw [← hv]; congr 1; omega
      refine sX13_isWord hw (fun y => fun _ => ⟨fun r => absurd r (by decide), fun _ => ⟨12636, aC16090, k0, k1, fun G1 e1 => ⟨k0, k1, fun G2 e2 => ?_⟩⟩⟩) (fun y => fun _ => ⟨fun _ => ⟨12636, aC16090, k0, k1, fun G1 e1 => ⟨k0, k1, fun G2 e2 => ?_⟩⟩, fun r => absurd rfl r⟩)
      · subst e1 e2
        exact hQ 3 v (fun r => absurd r q) (fun _ => ⟨ev, Or.inl ⟨rfl, y⟩⟩)
      · subst e1 e2
        exact hQ 2 v (fun r => absurd r q) (fun _ => ⟨ev, Or.inr ⟨rfl, y⟩⟩)
  unfold PX13_tokenAt_155
  refine ⟨fun q => ⟨by unfold inI; omega, fun q2 => fun _ => sX13_byteAt hb ht (by omega) (fun _ => sX13_sym (by omega) (fun _ => fun _ => ⟨by unfold inI; omega, ?_⟩)), fun q2 => fin (Or.inr q2)⟩, fun q => fin (Or.inl q)⟩
  have b := gv_s (p := 0) (by omega) (by omega) t i (k := (l - i).toNat) (by omega)
  have b2 := gv_b (p := 0) (by omega) t i (l - i).toNat
  have b3 := p64 (l - i).toNat (by omega)
  rw [hv] at b b2
  have sb := sy_b (t l)
  rw [sy_m (ht.2.2.2 l), shl6 b.1 (by omega), lor6 b.1 (by omega) ⟨sb.1, by omega⟩]
  refine hj (m - 1) 1 _ _ (by omega) ⟨rfl, rfl, l + 1, ?_, by omega, by omega, by omega, by omega⟩
  rw [show (l + 1 - i).toNat = (l - i).toNat + 1 by omega]
  unfold gv
  rw [hv, show i + ((l - i).toNat : Int) = l by omega]
theorem tok_class {k i c e p : Int} (hb : RB G s n t) (ht : Tx t n) (h0 : 0 ≤ i) (h1 : i + 2 ≤ e) (h2 : e ≤ n) (k0 : 0 ≤ k) (k1 : k < 12636) (hp : 0 ≤ p) (hp2 : p ≤ 26) (hQ : ∀ nm, (¬ 11 < e - i → nm = gv p t (i + 2) (e - (i + 2)).toNat + 2305843009213693952) → Q e (uG G 16093 k nm)) : PX13_tokenAt_80 (PX13_tokenAt_J 4000000000) k i c e p (i + 2) G Q := by
  have hn := ht.2.1
  refine lpB (B := BX13_tokenAt) (PJ := PX13_tokenAt_J) (fun _ _ _ _ _ => rfl) (fun m h L G' => h = 0 ∧ G' = G ∧ ∃ l : Int, L = [k, i, c, e, gv p t (i + 2) (l - (i + 2)).toNat, l] ∧ i + 2 ≤ l ∧ l ≤ e ∧ l ≤ i + 11 ∧ (m : Int) = n - l) ?_ 4000000000 (n - (i + 2)).toNat 0 [k, i, c, e, p, i + 2] G (by omega) ⟨rfl, rfl, i + 2, by rw [show (i + 2 - (i + 2)).toNat = 0 by omega]; rfl, by omega, by omega, by omega, by omega⟩
  rintro J m h L G' ⟨rfl, e1, l, rfl, i1, i2, i3, i4⟩ hj
  subst e1
  generalize hv : gv p t (i + 2) (l - (i + 2)).toNat = v at *
  show PX13_tokenAt_80 J k i c e v l _ Q
  have b2 := gv_b hp t (i + 2) (l - (i + 2)).toNat
  have b := gv_s hp hp2 t (i + 2) (k := (l - (i + 2)).toNat) (by omega)
  rw [hv] at b b2
  have fin : (¬ l < e ∨ ¬ l < i + 11) → PX13_tokenAt_120 J k i c e v l G' Q := fun z => by
    unfold PX13_tokenAt_120
    refine fun _ => ⟨k0, k1, fun G1 e1 => ?_⟩
    subst e1
    rw [lor61 b.1 (by omega)]
    refine hQ _ (fun q => ?_)
    rw [← hv]
    congr 2
    omega
  unfold PX13_tokenAt_80
  refine ⟨fun q => ⟨by unfold inI; omega, fun q2 => fun _ => sX13_byteAt hb ht (by omega) (fun _ => sX13_sym (by omega) (fun _ => fun _ => ⟨by unfold inI; omega, ?_⟩)), fun q2 => fin (Or.inr q2)⟩, fun q => fin (Or.inl q)⟩
  have b8 := gv_s hp hp2 t (i + 2) (k := (l - (i + 2)).toNat) (by omega)
  have b3 := p64 (l - (i + 2)).toNat (by omega)
  have sb := sy_b (t l)
  have b9 : v < 144115188075855872 := by
    have h8 : ∀ k : Nat, k < 9 → (64 : Int) ^ k ≤ 281474976710656 := by decide
    have h9 := h8 (l - (i + 2)).toNat (by omega)
    have h10 : (p + 1) * 64 ^ (l - (i + 2)).toNat ≤ 27 * 281474976710656 := Int.mul_le_mul (by omega) h9 (Int.pow_nonneg (by omega)) (by omega)
    omega
  rw [sy_m (ht.2.2.2 l), shl6 b.1 b9, lor6 b.1 b9 ⟨sb.1, by omega⟩]
  refine hj (m - 1) 0 _ _ (by omega) ⟨rfl, rfl, l + 1, ?_, by omega, by omega, by omega, by omega⟩
  rw [show (l + 1 - (i + 2)).toNat = (l - (i + 2)).toNat + 1 by omega]
  unfold gv
  rw [hv, show i + 2 + ((l - (i + 2)).toNat : Int) = l by omega]
end LU

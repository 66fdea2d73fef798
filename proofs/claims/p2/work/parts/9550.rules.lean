section RU
variable {S : hW} {k f t : rx_K} {lv st : List Nat} {G : gS} {Q : Nat → gS → Prop}
theorem inL_I {g : Int} (h : inI g) : inL g := by
  unfold inI at h
  unfold inL
  omega
theorem inI_b8 (g : Int) : inI (b8 g) := by
  unfold inI b8
  omega
theorem same_R {a b : Int} (ha : -1 ≤ a) (hb : -1 ≤ b) : rx_same (rf a) (rf b) = some (decide (a = b)) := by
  unfold rx_same
  by_cases a0 : a < 0
  · rw [rf_n a0]
    by_cases b0 : b < 0
    · rw [rf_n b0, decide_eq_true (show a = b by omega)]; rfl
    · rw [rf_p (by omega), show (8 * b.toNat + 2) % 8 = 2 by omega, decide_eq_false (show ¬ a = b by omega)]; rfl
  · rw [rf_p (show 0 ≤ a by omega)]
    by_cases b0 : b < 0
    · rw [rf_n b0, show (8 * a.toNat + 2) % 8 = 2 by omega, decide_eq_false (show ¬ a = b by omega)]; rfl
    · rw [rf_p (by omega), show (8 * b.toNat + 2) % 8 = 2 by omega, show (8 * a.toNat + 2) % 8 = 2 by omega, show (8 * b.toNat + 2) / 8 = b.toNat by omega, show (8 * a.toNat + 2) / 8 = a.toNat by omega]
      show some (Nat.beq a.toNat b.toNat) = _
      by_cases e : a = b
      · rw [decide_eq_true e, e]; simp
      · rw [decide_eq_false e, show Nat.beq a.toNat b.toNat = false by rw [Bool.eq_false_iff]; exact fun q => e (by have := rx_beq q; omega)]
theorem g_acmp {x y : Int} (hx : -1 ≤ x) (hy : -1 ≤ y) (h1 : x = y → Tg S t lv st G Q) (h2 : ¬ (x = y) → Tg S f lv st G Q) : Tg S (o_acmp t f) lv (rf y :: rf x :: st) G Q := fun ht H he => by
  by_cases q : x = y
  · refine t_eq2 (fun h _ _ => ?_) (h1 q ht H he)
    show (match rx_same (rf x) (rf y) with | some b => bif b then t lv st h else f lv st h | none => none) = _
    rw [same_R hx hy, decide_eq_true q]; rfl
  · refine t_eq2 (fun h _ _ => ?_) (h2 q ht H he)
    show (match rx_same (rf x) (rf y) with | some b => bif b then t lv st h else f lv st h | none => none) = _
    rw [same_R hx hy, decide_eq_false q]; rfl
theorem g_aldRF {tt c : Nat} {a n i : Int} (ha : isA S tt n a) (h0 : 0 ≤ i) (hi : i < n) (hf : aT tt = c + 10) (hc : c < 20) (hk : ((G a i = -1 ∨ isO S c (G a i)) ∧ ∀ v, S.2 a i = some v → G a i = v) → Tg S k lv (rf (G a i) :: st) G Q) : Tg S (o_ald tt k) lv (cI i :: rf a :: st) G Q := g_ty fun ht => g_aldR ha h0 hi hf hc fun q => hk ⟨q, fun v hv => ht.2 _ _ _ hv⟩
theorem g_aldA {tt c : Nat} {a n i : Int} (ha : isA S tt n a) (h0 : 0 ≤ i) (hi : i < n) (hf : aT tt = c + 30) (hk : ((G a i = -1 ∨ ∃ n, isA S c n (G a i)) ∧ ∀ v, S.2 a i = some v → G a i = v) → Tg S k lv (rf (G a i) :: st) G Q) : Tg S (o_ald tt k) lv (cI i :: rf a :: st) G Q := g_ty fun ht => g_ald ha h0 hi (by
  rw [hf, enc_R (by omega)]
  exact fun q => hk ⟨ok_A (t := c + 30) (by omega) q, fun v hv => ht.2 _ _ _ hv⟩)
end RU

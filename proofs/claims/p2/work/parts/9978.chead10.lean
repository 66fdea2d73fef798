section CHD1
variable {G G0 G1 G' : gS} {Q : Int → gS → Prop}
/-- a build's rows -/
def BdC (G : gS) (b n : Int) : Prop := isO W0 1 b ∧ isA W0 4 n (G b 2) ∧ 0 ≤ G b 3 ∧ G b 3 ≤ 12 ∧ 12 ≤ n ∧ ∀ k, 0 ≤ k → k < G b 3 → isO W0 10 (G (G b 2) k)
def cnmL (G : gS) (b w : Int) : Nat → Int → Int
  | 0, _ => -1
  | f + 1, k => if k < G b 3 then (if G (G (G b 2) k) 1 = w then G (G b 2) k else cnmL G b w f (k + 1)) else -1
def cnm (G : gS) (b w : Int) : Int := cnmL G b w 13 0
theorem cnamed_loop {b w n : Int} (hB : BdC G b n) (hQ : Q (cnm G b w) G) : ∀ (f F : Nat) (k : Int), f + k = 13 → f + 2 ≤ F → 0 ≤ k → cnm G b w = cnmL G b w f k → PX1_named_2 (PX1_named_J F) b w k G Q
  | 0, F, k, h1, _, _, hr => by
    obtain ⟨b1, b2, b3, b4, b5, b6⟩ := hB
    have hr' : cnm G b w = -1 := hr
    unfold PX1_named_2
    exact ⟨b1, fun _ => ⟨fun z => by omega, fun _ => by rw [← hr']; exact hQ⟩⟩
  | f + 1, F, k, hf, hF, hk, hr => by
    obtain ⟨F', rfl⟩ : ∃ F', F = F' + 1 := ⟨F - 1, by omega⟩
    have hB' := hB
    obtain ⟨b1, b2, b3, b4, b5, b6⟩ := hB
    have hr' : cnm G b w = if k < G b 3 then (if G (G (G b 2) k) 1 = w then G (G b 2) k else cnmL G b w f (k + 1)) else -1 := hr
    unfold PX1_named_2
    refine ⟨b1, fun _ => ⟨fun z => fun _ => ⟨n, b2, hk, by omega, fun _ => ⟨b6 k hk z, fun _ => ⟨fun y => fun _ => ⟨n, b2, hk, by omega, fun _ => ?_⟩, fun y => ⟨by unfold inI; omega, ?_⟩⟩⟩⟩, fun z => ?_⟩⟩
    · rw [if_pos z, if_pos y] at hr'
      rw [← hr']; exact hQ
    · rw [if_pos z, if_neg y] at hr'
      show PX1_named_2 (PX1_named_J F') b w (k + 1) G Q
      exact cnamed_loop hB' hQ f F' (k + 1) (by omega) (by omega) (by omega) hr'
    · rw [if_neg z] at hr'
      rw [← hr']; exact hQ
theorem cnamed_ok {b w n : Int} (hB : BdC G b n) (hQ : Q (cnm G b w) G) : PX1_named b w G Q := by
  refine ⟨100, by omega, ?_⟩
  unfold PX1_named_0
  exact cnamed_loop hB hQ 13 100 0 (by omega) (by omega) (by omega) rfl
theorem cnm_b {b w n : Int} (hB : BdC G b n) : cnm G b w = -1 ∨ (0 ≤ cnm G b w ∧ isO W0 10 (cnm G b w) ∧ G (cnm G b w) 1 = w) := by
  have : ∀ (f : Nat) (k : Int), 0 ≤ k → cnmL G b w f k = -1 ∨ (0 ≤ cnmL G b w f k ∧ isO W0 10 (cnmL G b w f k) ∧ G (cnmL G b w f k) 1 = w) := fun f => by
    induction f with
    | zero => intro k _; exact Or.inl rfl
    | succ f ih =>
      intro k hk
      have sp : cnmL G b w (f + 1) k = if k < G b 3 then (if G (G (G b 2) k) 1 = w then G (G b 2) k else cnmL G b w f (k + 1)) else -1 := rfl
      rw [sp]
      by_cases z : k < G b 3
      · rw [if_pos z]
        by_cases y : G (G (G b 2) k) 1 = w
        · rw [if_pos y]
          have o := hB.2.2.2.2.2 k hk z
          exact Or.inr ⟨o.1, o, y⟩
        · rw [if_neg y]; exact ih (k + 1) (by omega)
      · rw [if_neg z]; exact Or.inl rfl
  exact this 13 0 (by omega)
/-- all but a FAULT and its token is as it was -/
def FCj (G G' : gS) : Prop := ∀ x y, ¬ (x = 814 ∧ (y = 2 ∨ y = 3)) → G' x y = G x y
theorem cfail_ok {m p : Int} (hm : m ≠ 0) (hQ : ∀ G', FCj G G' → G' 814 2 ≠ 0 → Q 0 G') : PX4_fail m p G Q := by
  unfold PX4_fail PX4_fail_0 PX4_fail_17
  refine fun _ => ⟨fun z => fun G1 e1 => fun G2 e2 => hQ G2 (fun x y u => ?_) ?_, fun z => hQ G (fun _ _ _ => rfl) z⟩
  · rw [e2, uG_ne (by omega), e1, uG_ne (by omega)]
  · rw [e2, uG_j (by omega), e1, uG_at]; exact hm
def inC (G : gS) (b r : Int) : Prop := G r 9 ≠ -4 → cnm G b (G r 9) ≠ -1 ∧ cpk (G (cnm G b (G r 9)) 1) = cpk (G r 1) ∧ ∃ j, 0 ≤ j ∧ j < G (cnm G b (G r 9) + 2) 1 ∧ G (cnm G b (G r 9) + 1) (1 * 8 + j) = G r 1
def withC (G : gS) (b r k : Int) : Prop := ∀ j, k ≤ j → j < G (r + 2) 1 → cnm G b (G (r + 1) (1 * 8 + j)) ≠ -1 ∧ G (cnm G b (G (r + 1) (1 * 8 + j))) 9 = G r 1
def onlyC (G : gS) (b r k : Int) : Prop := ∀ j, k ≤ j → j < G (r + 2) 2 → cnm G b (G (r + 1) (2 * 8 + j)) ≠ -1
/-- a row of the text's build b, its lists not too long -/
def RwC (G : gS) (b r n : Int) : Prop := G 814 1 = b ∧ BdC G b n ∧ isO W0 10 r ∧ ∀ w, 0 ≤ w → w < 3 → 0 ≤ G (r + 2) w ∧ G (r + 2) w ≤ 8
theorem conly_loop {b r n p : Int} (hR : RwC G b r n) : ∀ (f F : Nat) (k q : Int) (Q : Int → gS → Prop), f + k = 9 → f + 2 ≤ F → 0 ≤ k → 0 ≤ q → q ≤ 2000 + 2 * k → (∀ v G', (v = 1 ∧ G' = G ∧ onlyC G b r k) ∨ (v = 0 ∧ FCj G G' ∧ G' 814 2 ≠ 0 ∧ ¬ onlyC G b r k) → Q v G') → PX4_within_144 (PX4_within_J F) r p q k G Q
  | 0, F, k, q, Q, h1, _, _, _, _, hQ => by
    obtain ⟨r1, r2, r3, r4⟩ := hR
    have := r4 2 (by omega) (by omega)
    unfold PX4_within_144
    exact ⟨r3, by omega, by omega, fun _ => ⟨fun z => by omega, fun _ => hQ 1 G (Or.inl ⟨rfl, rfl, fun j j0 j1 => by omega⟩)⟩⟩
  | f + 1, F, k, q, Q, hf, hF, hk, hq0, hq, hQ => by
    obtain ⟨F', rfl⟩ : ∃ F', F = F' + 1 := ⟨F - 1, by omega⟩
    have hR' := hR
    obtain ⟨r1, r2, r3, r4⟩ := hR
    have h8 := r4 2 (by omega) (by omega)
    unfold PX4_within_144 PX10_listedAt PX10_listedAt_0
    refine ⟨r3, by omega, by omega, fun _ => ⟨fun z => fun _ => ⟨r3, by omega, by omega, fun _ => fun _ => ⟨by rw [r1]; exact r2.1, ?_⟩⟩, fun z => hQ 1 G (Or.inl ⟨rfl, rfl, fun j j0 j1 => by omega⟩)⟩⟩
    rw [r1]
    refine cnamed_ok r2 ?_
    have nb := cnm_b (w := G (r + 1) (2 * 8 + k)) r2
    refine ⟨fun y => ⟨by unfold inI; omega, cfail_ok (by decide) (fun G1 f1 u1 => fun _ => hQ 0 G1 (Or.inr ⟨rfl, f1, u1, fun u => u k (by omega) z (nb.elim id (fun e => by omega))⟩))⟩, fun y => ⟨by unfold inI; omega, by unfold inI; omega, ?_⟩⟩
    · show PX4_within_144 (PX4_within_J F') r p (q + 2) (k + 1) G Q
      refine conly_loop hR' f F' (k + 1) (q + 2) Q (by omega) (by omega) (by omega) (by omega) (by omega) (fun v G1 hv => hQ v G1 ?_)
      rcases hv with ⟨v1, v2, v3⟩ | ⟨v1, v2, v3, v4⟩
      · refine Or.inl ⟨v1, v2, fun j j0 j1 => ?_⟩
        by_cases e : j = k
        · rw [e]; omega
        · exact v3 j (by omega) j1
      · exact Or.inr ⟨v1, v2, v3, fun u => v4 (fun j j0 j1 => u j (by omega) j1)⟩
end CHD1

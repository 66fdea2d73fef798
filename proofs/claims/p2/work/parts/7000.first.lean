section FI
variable {S : hS} {H : Nat → Nat → Nat}
theorem ct_ref (c : Nat) : rx_ct (8 * c + 2) = 1 := by
  unfold rx_ct
  rw [show (8 * c + 2) % 8 = 2 by omega]; rfl
theorem ct_int (c : Nat) : rx_ct (8 * c) = 1 := by
  unfold rx_ct
  rw [show 8 * c % 8 = 0 by omega]; rfl
theorem isR_ref (c : Nat) : rx_isR (8 * c + 2) = true := by
  unfold rx_isR
  rw [show (8 * c + 2) % 8 = 2 by omega]; rfl
theorem isI_int (c : Nat) : rx_isI (8 * c) = true := by
  unfold rx_isI
  rw [show 8 * c % 8 = 0 by omega]; rfl
theorem fl_n : ∀ (As : List Nat), (∀ a ∈ As, a % 8 ≠ 1) → rx_fl As = As ∧ rx_cs As = As.length
  | [], _ => ⟨rfl, rfl⟩
  | a :: As, h => by
    obtain ⟨h1, h2⟩ := fl_n As (fun x hx => h x (List.mem_cons_of_mem _ hx))
    have ha : Nat.beq (a % 8) 1 = false := by
      rw [Bool.eq_false_iff]; exact fun q => h a List.mem_cons_self (rx_beq q)
    constructor
    · have e : rx_fl (a :: As) = (bif Nat.beq (a % 8) 1 then [a, 7] else [a]) ++ rx_fl As := by simp [rx_fl]
      rw [e, ha, h1]; rfl
    · have e : rx_cs (a :: As) = rx_ct a + rx_cs As := by simp [rx_cs]
      rw [e, h2]
      unfold rx_ct
      rw [ha, List.length_cons]
      show 1 + As.length = _
      omega
theorem t_ent0 {f : rx_K} {nL : Nat} {As : List Nat} {Q : Nat → (Nat → Nat → Nat) → Prop} (h : ∀ a ∈ As, a % 8 ≠ 1) (hl : As.length ≤ nL) (hk : Tk S f (As ++ rx_pad (nL - As.length)) [] H Q) : Tm S (rx_ent nL f) As H Q := by
  obtain ⟨h1, h2⟩ := fl_n As h
  refine t_ent (by rw [h2]; exact hl) (by rw [h1, h2]) ?_
  rw [h1, h2]; exact hk
theorem nl0 : ∀ a ∈ ([] : List Nat), a % 8 ≠ 1 := fun _ h => absurd h List.not_mem_nil
theorem nlc {a : Nat} {As : List Nat} (h : a % 8 ≠ 1) (hs : ∀ a ∈ As, a % 8 ≠ 1) : ∀ x ∈ a :: As, x % 8 ≠ 1 := List.forall_mem_cons.mpr ⟨h, hs⟩
theorem nlr {As : List Nat} (c : Nat) (hs : ∀ a ∈ As, a % 8 ≠ 1) : ∀ x ∈ (8 * c + 2) :: As, x % 8 ≠ 1 := nlc (by omega) hs
theorem nli {As : List Nat} (c : Nat) (hs : ∀ a ∈ As, a % 8 ≠ 1) : ∀ x ∈ (8 * c) :: As, x % 8 ≠ 1 := nlc (by omega) hs
/-- size(): how many bytes OUT has -/
theorem Y_X12_size {cx n : Nat} (hc : cx < S.2.2.1) (hK : S.1 cx = (0, 12, 21)) (hn : H cx 3 = 8 * n) : Tm S FX12_size [8 * cx + 2] H (fun r H' => r = 8 * n ∧ H' = H) := by
  refine t_ent0 (nlr _ nl0) (Nat.le_refl _) ?_
  unfold vX12_size_0
  refine t_ld (v := 8 * cx + 2) rfl (isR_ref _) ?_
  refine t_getf hc hK hn ?_
  exact t_ret1 (isI_int n) ⟨rfl, rfl⟩
theorem Y_X13_size {cx n : Nat} (hc : cx < S.2.2.1) (hK : S.1 cx = (0, 13, 180)) (hn : H cx 3 = 8 * n) : Tm S FX13_size [8 * cx + 2] H (fun r H' => r = 8 * n ∧ H' = H) := by
  refine t_ent0 (nlr _ nl0) (Nat.le_refl _) ?_
  unfold vX13_size_0
  refine t_ld (v := 8 * cx + 2) rfl (isR_ref _) ?_
  refine t_getf hc hK hn ?_
  exact t_ret1 (isI_int n) ⟨rfl, rfl⟩
end FI

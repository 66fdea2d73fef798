section LX
-- letters and digits; a text of n bytes (signed), 0 behind it
def sy (c : Int) : Int := if 97 ≤ c ∧ c ≤ 122 then c - 96 else if 65 ≤ c ∧ c ≤ 90 then c - 38 else if 48 ≤ c ∧ c ≤ 57 then c + 5 else 0
theorem sy_b (c : Int) : 0 ≤ sy c ∧ sy c < 63 := by unfold sy; (repeat' split) <;> omega
theorem sy_m {c : Int} (h : -128 ≤ c ∧ c < 128) : sy (c % 256) = sy c := by unfold sy; (repeat' split) <;> omega
def Tx (t : Int → Int) (n : Int) : Prop := 0 ≤ n ∧ n ≤ 4000 ∧ (∀ i, n ≤ i → t i = 0) ∧ ∀ i, -128 ≤ t i ∧ t i < 128
def We (t : Int → Int) (i j : Int) : Prop := i ≤ j ∧ (∀ k, i ≤ k → k < j → sy (t k) ≠ 0) ∧ sy (t j) = 0
theorem We_u {t : Int → Int} {i j j' : Int} (h : We t i j) (h' : We t i j') : j = j' := by
  obtain ⟨a1, a2, a3⟩ := h
  obtain ⟨b1, b2, b3⟩ := h'
  rcases (show j < j' ∨ j = j' ∨ j' < j by omega) with q | q | q
  · exact absurd a3 (b2 j a1 q)
  · exact q
  · exact absurd b3 (a2 j' b1 q)
def dg (c : Int) : Prop := 48 ≤ c ∧ c ≤ 57
def Ne (t : Int → Int) (i j : Int) : Prop := i ≤ j ∧ (∀ k, i ≤ k → k < j → dg (t k)) ∧ ¬ dg (t j)
theorem Ne_u {t : Int → Int} {i j j' : Int} (h : Ne t i j) (h' : Ne t i j') : j = j' := by
  obtain ⟨a1, a2, a3⟩ := h
  obtain ⟨b1, b2, b3⟩ := h'
  rcases (show j < j' ∨ j = j' ∨ j' < j by omega) with q | q | q
  · exact absurd (b2 j a1 q) a3
  · exact q
  · exact absurd (a2 j' b1 q) b3
-- what digits, letters from i on come to
def nv (t : Int → Int) (i : Int) : Nat → Int
  | 0 => 0
  | k + 1 => 10 * nv t i k + (t (i + k) - 48)
def rv (t : Int → Int) (i : Int) : Nat → Int
  | 0 => 0
  | k + 1 => 64 * rv t i k + sy (t (i + k))
section
variable {G : gS} {Q : Int → gS → Prop}
theorem sX9_sixBits {c : Int} (h : -128 ≤ c ∧ c < 256) (hQ : Q (sy c) G) : PX9_sixBits c G Q := by
  unfold sy at hQ
  simp only [PX9_sixBits, PX9_sixBits_0, PX9_sixBits_20, PX9_sixBits_41, PX9_sixBits_64, PX9_sixBits_65]
  refine ⟨fun a => ⟨fun b => ⟨fun c => ?_, fun c => ⟨fun d => ?_, fun d => ⟨by unfold inI; omega, ?_⟩⟩⟩, fun b => ⟨fun c => ⟨fun d => ?_, fun d => ⟨fun e => ?_, fun e => ⟨by unfold inI; omega, ?_⟩⟩⟩, fun c => ⟨by unfold inI; omega, ?_⟩⟩⟩, fun a => ⟨fun b => ⟨fun c => ⟨fun d => ?_, fun d => ⟨fun e => ?_, fun e => ⟨by unfold inI; omega, ?_⟩⟩⟩, fun c => ⟨fun d => ⟨fun e => ?_, fun e => ⟨fun f => ?_, fun f => ⟨by unfold inI; omega, ?_⟩⟩⟩, fun d => ⟨by unfold inI; omega, ?_⟩⟩⟩, fun b => ⟨by unfold inI; omega, ?_⟩⟩⟩
  all_goals ((repeat' split at hQ) <;> first | omega | (refine Eq.mp (congrArg (fun x => Q x G) ?_) hQ; omega))
theorem sX13_sym {c : Int} (h : -128 ≤ c ∧ c < 256) (hQ : Q (sy c) G) : PX13_sym c G Q := by
  unfold sy at hQ
  simp only [PX13_sym, PX13_sym_0, PX13_sym_21, PX13_sym_43, PX13_sym_65, PX13_sym_66]
  refine ⟨fun a => ⟨fun b => ⟨fun c => ?_, fun c => ⟨fun d => ?_, fun d => ⟨by unfold inI; omega, ?_⟩⟩⟩, fun b => ⟨fun c => ⟨fun d => ?_, fun d => ⟨fun e => ?_, fun e => ⟨by unfold inI; omega, ?_⟩⟩⟩, fun c => ⟨by unfold inI; omega, ?_⟩⟩⟩, fun a => ⟨fun b => ⟨fun c => ⟨fun d => ?_, fun d => ⟨fun e => ?_, fun e => ⟨by unfold inI; omega, ?_⟩⟩⟩, fun c => ⟨fun d => ⟨fun e => ?_, fun e => ⟨fun f => ?_, fun f => ⟨by unfold inI; omega, ?_⟩⟩⟩, fun d => ⟨by unfold inI; omega, ?_⟩⟩⟩, fun b => ⟨by unfold inI; omega, ?_⟩⟩⟩
  all_goals ((repeat' split at hQ) <;> first | omega | (refine Eq.mp (congrArg (fun x => Q x G) ?_) hQ; omega))
end
end LX

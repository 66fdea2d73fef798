section CW1
-- THE WORLD AS THE CLASS SEES IT, 1
variable {G : gS} {Q : Int → gS → Prop}
/-- the rows that stand in the class's world -/
def WsC (G : gS) (o : Int) : Prop := isO W0 11 o ∧ 2 ≤ G o 2 ∧ G o 2 ≤ 64 ∧ ∀ i, 0 ≤ i → i < G o 2 → isO W0 10 (G (o + 1) i)
def cfnL (G : gS) (o w : Int) : Nat → Int → Int
  | 0, _ => if w = -4031174665287237632 then 0 else if w = -3887679601769447424 then 1 else -2
  | f + 1, i => if i < G o 2 then (if G (G (o + 1) i) 1 = w then i else cfnL G o w f (i + 1)) else if w = -4031174665287237632 then 0 else if w = -3887679601769447424 then 1 else -2
def cfn (G : gS) (o w : Int) : Int := cfnL G o w 64 2
theorem cfind_loop {o w : Int} (hW : WsC G o) (hQ : Q (cfn G o w) G) : ∀ (f F : Nat) (i : Int), f + i = 66 → f + 2 ≤ F → 2 ≤ i → cfn G o w = cfnL G o w f i → PX11_find_2 (PX11_find_J F) o w i G Q
  | 0, F, i, h1, _, _, hr => by
    obtain ⟨w1, w2, w3, w4⟩ := hW
    have hr' : cfn G o w = if w = -4031174665287237632 then 0 else if w = -3887679601769447424 then 1 else -2 := hr
    unfold PX11_find_2 PX11_find_58
    refine ⟨w1, fun _ => ⟨fun z => by omega, fun _ => ⟨fun y => ?_, fun y => ⟨fun u => ?_, fun u => ?_⟩⟩⟩⟩
    · rw [if_pos y] at hr'; rw [← hr']; exact hQ
    · rw [if_neg y, if_pos u] at hr'; rw [← hr']; exact hQ
    · rw [if_neg y, if_neg u] at hr'; rw [← hr']; exact hQ
  | f + 1, F, i, hf, hF, hi, hr => by
    obtain ⟨F', rfl⟩ : ∃ F', F = F' + 1 := ⟨F - 1, by omega⟩
    have hW' := hW
    obtain ⟨w1, w2, w3, w4⟩ := hW
    have hr' : cfn G o w = if i < G o 2 then (if G (G (o + 1) i) 1 = w then i else cfnL G o w f (i + 1)) else if w = -4031174665287237632 then 0 else if w = -3887679601769447424 then 1 else -2 := hr
    unfold PX11_find_2 PX11_find_58
    refine ⟨w1, fun _ => ⟨fun z => ⟨by omega, by omega, fun _ => ⟨w4 i (by omega) z, fun _ => ⟨fun y => ?_, fun y => ⟨by unfold inI; omega, ?_⟩⟩⟩⟩, fun z => ⟨fun y => ?_, fun y => ⟨fun u => ?_, fun u => ?_⟩⟩⟩⟩
    · rw [if_pos z, if_pos y] at hr'; rw [← hr']; exact hQ
    · rw [if_pos z, if_neg y] at hr'
      show PX11_find_2 (PX11_find_J F') o w (i + 1) G Q
      exact cfind_loop hW' hQ f F' (i + 1) (by omega) (by omega) (by omega) hr'
    · rw [if_neg z, if_pos y] at hr'; rw [← hr']; exact hQ
    · rw [if_neg z, if_neg y, if_pos u] at hr'; rw [← hr']; exact hQ
    · rw [if_neg z, if_neg y, if_neg u] at hr'; rw [← hr']; exact hQ
theorem cfind_ok {o w : Int} (hW : WsC G o) (hQ : Q (cfn G o w) G) : PX11_find o w G Q := by
  refine ⟨100, by omega, ?_⟩
  unfold PX11_find_0
  exact cfind_loop hW hQ 64 100 2 (by omega) (by omega) (by omega) rfl
theorem cfn_b {o w : Int} : ∀ (f : Nat) (i : Int), 2 ≤ i → (cfnL G o w f i = -2 ∧ w ≠ -4031174665287237632 ∧ w ≠ -3887679601769447424) ∨ (cfnL G o w f i = 0 ∧ w = -4031174665287237632) ∨ (cfnL G o w f i = 1 ∧ w = -3887679601769447424) ∨ (2 ≤ cfnL G o w f i ∧ cfnL G o w f i < G o 2 ∧ G (G (o + 1) (cfnL G o w f i)) 1 = w)
  | 0, i, _ => by
    have sp : cfnL G o w 0 i = if w = -4031174665287237632 then 0 else if w = -3887679601769447424 then 1 else -2 := rfl
    rw [sp]
    by_cases y : w = -4031174665287237632
    · rw [if_pos y]; exact Or.inr (Or.inl ⟨rfl, y⟩)
    · rw [if_neg y]
      by_cases u : w = -3887679601769447424
      · rw [if_pos u]; exact Or.inr (Or.inr (Or.inl ⟨rfl, u⟩))
      · rw [if_neg u]; exact Or.inl ⟨rfl, y, u⟩
  | f + 1, i, hi => by
    have sp : cfnL G o w (f + 1) i = if i < G o 2 then (if G (G (o + 1) i) 1 = w then i else cfnL G o w f (i + 1)) else if w = -4031174665287237632 then 0 else if w = -3887679601769447424 then 1 else -2 := rfl
    rw [sp]
    by_cases z : i < G o 2
    · rw [if_pos z]
      by_cases v : G (G (o + 1) i) 1 = w
      · rw [if_pos v]; exact Or.inr (Or.inr (Or.inr ⟨hi, z, v⟩))
      · rw [if_neg v]; exact cfn_b f (i + 1) (by omega)
    · rw [if_neg z]
      by_cases y : w = -4031174665287237632
      · rw [if_pos y]; exact Or.inr (Or.inl ⟨rfl, y⟩)
      · rw [if_neg y]
        by_cases u : w = -3887679601769447424
        · rw [if_pos u]; exact Or.inr (Or.inr (Or.inl ⟨rfl, u⟩))
        · rw [if_neg u]; exact Or.inl ⟨rfl, y, u⟩
/-- where a name's package stands in the class's numbers -/
def cpk (w : Int) : Int := lush w 59
theorem csame_ok {o i j : Int} (hW : WsC G o) (hi : 0 ≤ i ∧ i < G o 2) (hj : 0 ≤ j ∧ j < G o 2) (h1 : cpk (G (G (o + 1) i) 1) = cpk (G (G (o + 1) j) 1) → Q 1 G) (h0 : cpk (G (G (o + 1) i) 1) ≠ cpk (G (G (o + 1) j) 1) → Q 0 G) : PX11_samePackage o i j G Q := by
  obtain ⟨w1, w2, w3, w4⟩ := hW
  unfold PX11_samePackage PX11_samePackage_0 PX11_samePackage_33
  refine ⟨w1, hi.1, by omega, fun _ => ⟨w4 i hi.1 hi.2, fun _ => fun _ => ⟨hj.1, by omega, fun _ => ⟨w4 j hj.1 hj.2, fun _ => fun _ => ⟨fun z => ⟨by omega, h1 z⟩, fun z => ⟨by omega, h0 z⟩⟩⟩⟩⟩⟩
theorem cisLet_ok {o i j : Int} (hW : WsC G o) (hi : 0 ≤ i ∧ i < G o 2) (hj : 0 ≤ j ∧ j < G o 2) (h1 : (G (G (o + 1) i) 3 ≠ 0 ∨ cpk (G (G (o + 1) i) 1) = cpk (G (G (o + 1) j) 1)) → Q 1 G) (h0 : ¬ (G (G (o + 1) i) 3 ≠ 0 ∨ cpk (G (G (o + 1) i) 1) = cpk (G (G (o + 1) j) 1)) → Q 0 G) : PX11_isLet o i j G Q := by
  obtain ⟨w1, w2, w3, w4⟩ := hW
  unfold PX11_isLet PX11_isLet_0 PX11_isLet_40 PX11_isLet_45
  refine ⟨w1, hi.1, by omega, fun _ => ⟨w4 i hi.1 hi.2, fun _ => ⟨fun z => ⟨hi.1, by omega, fun _ => ⟨w4 i hi.1 hi.2, fun _ => fun _ => ⟨hj.1, by omega, fun _ => ⟨w4 j hj.1 hj.2, fun _ => fun _ => ⟨fun y => ⟨by omega, h1 (Or.inr y)⟩, fun y => ⟨by omega, h0 (fun u => u.elim (fun v => v z) y)⟩⟩⟩⟩⟩⟩, fun z => ⟨by omega, h1 (Or.inl z)⟩⟩⟩⟩
end CW1

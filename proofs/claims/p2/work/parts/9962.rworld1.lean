section RW1
-- THE WORLD AS THE REFERENCE SEES IT, 1: names in rows, slots
variable {G : gS} {Q : Int → gS → Prop}
theorem rstands_loop {A n0' x n w : Int} (hA : isA W0 1 n0' A) (hx : 0 ≤ x ∧ x + n ≤ n0' ∧ n0' ≤ 10000) (hn : 0 ≤ n) : ∀ (f F : Nat) (k b : Int), f + k = n + 1 → f + 2 ≤ F → 0 ≤ k → k ≤ n → (b = 0 ∧ (∀ j, 0 ≤ j → j < k → G A (x + j) ≠ w) ∨ b = 1 ∧ ∃ j, 0 ≤ j ∧ j < k ∧ G A (x + j) = w) → (∀ v, (v = 1 ∧ ∃ j, 0 ≤ j ∧ j < n ∧ G A (x + j) = w) ∨ (v = 0 ∧ ∀ j, 0 ≤ j → j < n → G A (x + j) ≠ w) → Q v G) → PX13_stands_6 (PX13_stands_J F) A x n w b k G Q
  | 0, F, k, b, h1, _, _, h4, _, _ => by
    exfalso
    have : (0 : Int) + k = n + 1 := h1
    omega
  | f + 1, F, k, b, hf, hF, hk0, hk, hb, hQ => by
    obtain ⟨F', rfl⟩ : ∃ F', F = F' + 1 := ⟨F - 1, by omega⟩
    unfold PX13_stands_6 PX13_stands_28 PX13_stands_33
    refine ⟨fun z => ⟨fun u => ⟨n0', hA, by omega, by omega, fun _ => ⟨fun y => ⟨by unfold inI; omega, ?_⟩, fun y => ⟨by unfold inI; omega, ?_⟩⟩⟩, fun u => ⟨by unfold inI; omega, ?_⟩⟩, fun z => ⟨by omega, hQ b ?_⟩⟩
    · show PX13_stands_6 (PX13_stands_J F') A x n w 1 (k + 1) G Q
      exact rstands_loop hA hx hn f F' (k + 1) 1 (by omega) (by omega) (by omega) (by omega) (Or.inr ⟨rfl, k, by omega, by omega, y⟩) hQ
    · show PX13_stands_6 (PX13_stands_J F') A x n w 0 (k + 1) G Q
      refine rstands_loop hA hx hn f F' (k + 1) 0 (by omega) (by omega) (by omega) (by omega) (Or.inl ⟨rfl, fun j j0 j1 => ?_⟩) hQ
      rcases hb with ⟨b1, b2⟩ | ⟨b1, b2⟩
      · by_cases e : j = k
        · rw [e]; exact y
        · exact b2 j j0 (by omega)
      · omega
    · show PX13_stands_6 (PX13_stands_J F') A x n w 1 (k + 1) G Q
      refine rstands_loop hA hx hn f F' (k + 1) 1 (by omega) (by omega) (by omega) (by omega) (Or.inr ⟨rfl, ?_⟩) hQ
      rcases hb with ⟨b1, b2⟩ | ⟨b1, j, j0, j1, j2⟩
      · omega
      · exact ⟨j, j0, by omega, j2⟩
    · have e : k = n := by omega
      subst e
      rcases hb with b1 | b1
      · exact Or.inr b1
      · exact Or.inl b1
theorem rstands_ok {A n0' x n w : Int} (hA : isA W0 1 n0' A) (hx : 0 ≤ x ∧ x + n ≤ n0' ∧ n0' ≤ 10000) (hn : 0 ≤ n) (hQ : ∀ v, (v = 1 ∧ ∃ j, 0 ≤ j ∧ j < n ∧ G A (x + j) = w) ∨ (v = 0 ∧ ∀ j, 0 ≤ j → j < n → G A (x + j) ≠ w) → Q v G) : PX13_stands A x n w G Q := by
  refine ⟨n.toNat + 10, by omega, ?_⟩
  unfold PX13_stands_0
  exact rstands_loop hA hx hn (n.toNat + 1) (n.toNat + 10) 0 0 (by omega) (by omega) (by omega) (by omega) (Or.inl ⟨rfl, fun j j0 j1 => by omega⟩) hQ
/-- the class of a name in a slot, or -2 -/
def rinL (G : gS) (s w : Int) : Nat → Int → Int
  | 0, _ => -2
  | f + 1, k => if k < G 16097 s then (if G 16098 (s * 12 + k) = w then s * 12 + k else rinL G s w f (k + 1)) else -2
def rin (G : gS) (s w : Int) : Int := rinL G s w 13 0
theorem rinSlot_loop {s w : Int} (hs : 0 ≤ s ∧ s < 18) (h97 : 0 ≤ G 16097 s ∧ G 16097 s ≤ 12) (hQ : Q (rin G s w) G) : ∀ (f F : Nat) (k : Int), f + k = 13 → f + 2 ≤ F → 0 ≤ k → rin G s w = rinL G s w f k → PX13_inSlot_3 (PX13_inSlot_J F) s w k G Q
  | 0, F, k, h1, _, _, h4 => by
    have e : k = 13 := by omega
    unfold PX13_inSlot_3
    refine ⟨hs.1, hs.2, fun _ => ⟨fun z => by omega, fun _ => ?_⟩⟩
    have e2 : rin G s w = -2 := h4
    rw [← e2]; exact hQ
  | f + 1, F, k, hf, hF, hk, hr => by
    obtain ⟨F', rfl⟩ : ∃ F', F = F' + 1 := ⟨F - 1, by omega⟩
    have hr' : rin G s w = if k < G 16097 s then (if G 16098 (s * 12 + k) = w then s * 12 + k else rinL G s w f (k + 1)) else -2 := hr
    unfold PX13_inSlot_3
    refine ⟨hs.1, hs.2, fun _ => ⟨fun z => ⟨by omega, by omega, fun _ => ⟨fun y => ⟨by unfold inI; omega, ?_⟩, fun y => ⟨by unfold inI; omega, ?_⟩⟩⟩, fun z => ?_⟩⟩
    · rw [if_pos z, if_pos y] at hr'
      rw [← hr']; exact hQ
    · rw [if_pos z, if_neg y] at hr'
      show PX13_inSlot_3 (PX13_inSlot_J F') s w (k + 1) G Q
      exact rinSlot_loop hs h97 hQ f F' (k + 1) (by omega) (by omega) (by omega) hr'
    · rw [if_neg z] at hr'
      rw [← hr']; exact hQ
theorem rinSlot_ok {s w : Int} (hs : 0 ≤ s ∧ s < 18) (h97 : 0 ≤ G 16097 s ∧ G 16097 s ≤ 12) (hQ : Q (rin G s w) G) : PX13_inSlot s w G Q := by
  refine ⟨100, by omega, ?_⟩
  unfold PX13_inSlot_0
  exact rinSlot_loop hs h97 hQ 13 100 0 (by omega) (by omega) (by omega) rfl
theorem risFace_ok {c : Int} (hc : 0 ≤ c ∧ c < 216) (h1 : G 16101 c = 3 → Q 1 G) (h0 : G 16101 c ≠ 3 → Q 0 G) : PX13_isFace c G Q := by
  unfold PX13_isFace PX13_isFace_0 PX13_isFace_15
  exact ⟨hc.1, hc.2, fun _ => ⟨fun z => ⟨by omega, h1 z⟩, fun z => ⟨by omega, h0 z⟩⟩⟩
theorem rin_b {s w : Int} (hs : 0 ≤ s ∧ s < 18) (h97 : 0 ≤ G 16097 s ∧ G 16097 s ≤ 12) : ∀ (f : Nat) (k : Int), 0 ≤ k → rinL G s w f k = -2 ∨ (s * 12 ≤ rinL G s w f k ∧ rinL G s w f k < s * 12 + G 16097 s ∧ G 16098 (rinL G s w f k) = w)
  | 0, _, _ => Or.inl rfl
  | f + 1, k, hk => by
    show (if k < G 16097 s then (if G 16098 (s * 12 + k) = w then s * 12 + k else rinL G s w f (k + 1)) else -2) = -2 ∨ _
    have sp : rinL G s w (f + 1) k = (if k < G 16097 s then (if G 16098 (s * 12 + k) = w then s * 12 + k else rinL G s w f (k + 1)) else -2) := rfl
    rw [sp]
    by_cases z : k < G 16097 s
    · rw [if_pos z]
      by_cases y : G 16098 (s * 12 + k) = w
      · rw [if_pos y]; exact Or.inr ⟨by omega, by omega, y⟩
      · rw [if_neg y]; exact rin_b hs h97 f (k + 1) (by omega)
    · rw [if_neg z]; exact Or.inl rfl
/-- a name's class in THE WORLD and, first, in the text that is judged -/
def rfnL (G : gS) (w : Int) : Nat → Int → Int → Int
  | 0, r, _ => r
  | f + 1, r, l => if l < 5 then (if r = -2 then rfnL G w f (if G 16163 l = -2 ∨ (G 16081 91 ≠ -2 ∧ l = G 16087 (G 16081 91)) then -2 else rin G (G 16163 l) w) (l + 1) else r) else r
def rfn0 (G : gS) (w : Int) : Int := if G 16081 91 = -2 then -2 else rin G (G 16081 91) w
def rfn (G : gS) (w : Int) : Int := if rfn0 G w = -2 then (if w = 2305843009220621209 then 204 else if w = 2305843009220653836 then 205 else rfnL G w 6 (rfn0 G w) 0) else rfn0 G w
/-- the slots that stand -/
def WsR (G : gS) : Prop := (G 16081 91 = -2 ∨ (0 ≤ G 16081 91 ∧ G 16081 91 < 16)) ∧ (∀ l, 0 ≤ l → l < 5 → G 16163 l = -2 ∨ (0 ≤ G 16163 l ∧ G 16163 l < 18)) ∧ ∀ s, 0 ≤ s → s < 18 → 0 ≤ G 16097 s ∧ G 16097 s ≤ 12
theorem rfind_loop {w : Int} (hW : WsR G) : ∀ (f F : Nat) (r l : Int), f + l = 6 → f + 2 ≤ F → 0 ≤ l → Q (rfnL G w f r l) G → PX13_find_67 (PX13_find_J F) w r l G Q
  | 0, F, r, l, h1, _, _, hQ => by
    unfold PX13_find_67 PX13_find_150
    exact ⟨fun z => by omega, fun _ => hQ⟩
  | f + 1, F, r, l, hf, hF, hl, hQ => by
    obtain ⟨F', rfl⟩ : ∃ F', F = F' + 1 := ⟨F - 1, by omega⟩
    obtain ⟨w1, w2, w3⟩ := hW
    change Q (if l < 5 then (if r = -2 then rfnL G w f (if G 16163 l = -2 ∨ (G 16081 91 ≠ -2 ∧ l = G 16087 (G 16081 91)) then -2 else rin G (G 16163 l) w) (l + 1) else r) else r) G at hQ
    unfold PX13_find_67 PX13_find_150 PX13_find_118 PX13_find_114 PX13_find_119 PX13_find_143
    refine ⟨fun z => ⟨fun y => ?_, fun y => ?_⟩, fun z => ?_⟩
    · rw [if_pos z, if_pos y] at hQ
      have none : (G 16163 l = -2 ∨ (G 16081 91 ≠ -2 ∧ l = G 16087 (G 16081 91))) → PX13_find_67 (PX13_find_J F') w (-2) (l + 1) G Q := fun u => by
        rw [if_pos u] at hQ
        exact rfind_loop ⟨w1, w2, w3⟩ f F' (-2) (l + 1) (by omega) (by omega) (by omega) hQ
      have some : ¬ (G 16163 l = -2 ∨ (G 16081 91 ≠ -2 ∧ l = G 16087 (G 16081 91))) → PX13_inSlot (G 16163 l) w G (fun r29 G28 => inI r29 → (inI (l + 1) ∧ PX13_find_J (F' + 1) 0 [w, r29, l + 1] G28 Q)) := fun u => by
        rw [if_neg u] at hQ
        have hl2 := w2 l hl z
        refine rinSlot_ok (by omega) (w3 _ (by omega) (by omega)) (fun _ => ⟨by unfold inI; omega, ?_⟩)
        show PX13_find_67 (PX13_find_J F') w _ (l + 1) G Q
        exact rfind_loop ⟨w1, w2, w3⟩ f F' _ (l + 1) (by omega) (by omega) (by omega) hQ
      refine ⟨hl, z, fun _ => ⟨fun u => ⟨fun _ => ⟨by unfold inI; omega, none (Or.inl u)⟩, fun v => absurd rfl v⟩, fun u => fun _ => ⟨fun v => ⟨fun x => absurd x (by decide), fun _ => ⟨hl, z, fun _ => some (fun x => x.elim u (fun y => y.1 v))⟩⟩, fun v => fun _ => ⟨by omega, by omega, fun _ => ⟨fun x => ⟨fun _ => ⟨by unfold inI; omega, none (Or.inr ⟨v, x⟩)⟩, fun v => absurd rfl v⟩, fun x => ⟨fun y => absurd y (by decide), fun _ => ⟨hl, z, fun _ => some (fun y => y.elim u (fun y2 => x y2.2))⟩⟩⟩⟩⟩⟩⟩
    · rw [if_pos z, if_neg y] at hQ
      exact hQ
    · rw [if_neg z] at hQ
      exact hQ
theorem rfind_ok {w : Int} (hW : WsR G) (hQ : Q (rfn G w) G) : PX13_find w G Q := by
  have main : ∀ r, r = rfn0 G w → PX13_find_23 (PX13_find_J 100) w r G Q := fun r hr => by
    unfold rfn at hQ
    rw [← hr] at hQ
    unfold PX13_find_23 PX13_find_46 PX13_find_63 PX13_find_64
    refine ⟨fun z => ⟨fun y => ⟨fun _ => ?_, fun u => absurd y u⟩, fun y => ⟨fun u => ⟨fun v => absurd v y, fun _ => ?_⟩, fun u => ?_⟩⟩, fun z => ?_⟩
    · rw [if_pos z, if_pos y] at hQ; exact hQ
    · rw [if_pos z, if_neg y, if_pos u] at hQ; exact hQ
    · rw [if_pos z, if_neg y, if_neg u] at hQ
      exact rfind_loop hW 6 100 r 0 (by omega) (by omega) (by omega) hQ
    · rw [if_neg z] at hQ
      refine rfind_loop hW 6 100 r 0 (by omega) (by omega) (by omega) ?_
      show Q (if (0 : Int) < 5 then (if r = -2 then rfnL G w 5 _ (0 + 1) else r) else r) G
      rw [if_pos (by omega), if_neg z]; exact hQ
  refine ⟨100, by omega, ?_⟩
  unfold PX13_find_0
  obtain ⟨w1, w2, w3⟩ := hW
  refine fun _ => ⟨fun u => main _ ?_, fun u => fun _ => rinSlot_ok (by omega) (w3 _ (by omega) (by omega)) (fun _ => main _ ?_)⟩
  · unfold rfn0; rw [if_pos u]
  · unfold rfn0; rw [if_neg u]
end RW1

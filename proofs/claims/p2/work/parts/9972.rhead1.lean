section RHD1
variable {G G0 G1 G' : gS} {Q : Int → gS → Prop}
/-- all but a FAULT and its place is as it was -/
def FF (G G' : gS) : Prop := ∀ x y, ¬ (x = 16081 ∧ (y = 20 ∨ y = 21)) → G' x y = G x y
theorem FF_id : FF G G := fun _ _ _ => rfl
theorem FF_tr (h : FF G G1) (h' : FF G1 G') : FF G G' := fun x y u => (h' x y u).trans (h x y u)
theorem rin_FF (h : FF G G') (s w : Int) : rin G' s w = rin G s w := by
  have : ∀ (f : Nat) (k : Int), rinL G' s w f k = rinL G s w f k := fun f => by
    induction f with
    | zero => intro k; rfl
    | succ f ih =>
      intro k
      show (if k < G' 16097 s then (if G' 16098 (s * 12 + k) = w then s * 12 + k else rinL G' s w f (k + 1)) else -2) = (if k < G 16097 s then (if G 16098 (s * 12 + k) = w then s * 12 + k else rinL G s w f (k + 1)) else -2)
      rw [h _ _ (by omega), h _ _ (by omega), ih]
  exact this 13 0
theorem rfn_FF (h : FF G G') (w : Int) : rfn G' w = rfn G w := by
  have e91 : G' 16081 91 = G 16081 91 := h _ _ (by omega)
  have e0 : rfn0 G' w = rfn0 G w := by
    unfold rfn0
    rw [e91, rin_FF h]
  have : ∀ (f : Nat) (r l : Int), rfnL G' w f r l = rfnL G w f r l := fun f => by
    induction f with
    | zero => intro r l; rfl
    | succ f ih =>
      intro r l
      show (if l < 5 then (if r = -2 then rfnL G' w f (if G' 16163 l = -2 ∨ (G' 16081 91 ≠ -2 ∧ l = G' 16087 (G' 16081 91)) then -2 else rin G' (G' 16163 l) w) (l + 1) else r) else r) = (if l < 5 then (if r = -2 then rfnL G w f (if G 16163 l = -2 ∨ (G 16081 91 ≠ -2 ∧ l = G 16087 (G 16081 91)) then -2 else rin G (G 16163 l) w) (l + 1) else r) else r)
      rw [ih, e91, h 16163 l (by omega), h 16087 _ (by omega), rin_FF h]
  unfold rfn
  rw [e0, this]
theorem WsR_FF (h : FF G G') (hW : WsR G) : WsR G' := by
  obtain ⟨w1, w2, w3⟩ := hW
  refine ⟨by rw [h _ _ (by omega)]; exact w1, fun l l0 l1 => by rw [h _ _ (by omega)]; exact w2 l l0 l1, fun s s0 s1 => by rw [h _ _ (by omega)]; exact w3 s s0 s1⟩
theorem rfault_FF {m x : Int} (hm : m ≠ 0) (hQ : ∀ G', FF G G' → G' 16081 20 ≠ 0 → Q 0 G') : PX13_fault m x G Q := by
  by_cases e : G 16081 20 = 0
  · refine rFault e (hQ _ (fun x' y u => ?_) ?_)
    · rw [uG_ne (by omega), uG_ne (by omega)]
    · rw [uG_j (by omega), uG_at]; exact hm
  · exact rFault_on e (hQ G FF_id e)
/-- the rows that heads are judged in: s the text's slot, c one of its classes -/
def HdW (G : gS) (s c : Int) : Prop := WsR G ∧ G 16081 19 = s ∧ 0 ≤ s ∧ s < 18 ∧ 0 ≤ c ∧ c < 216 ∧ 0 ≤ G 16111 c ∧ G 16111 c ≤ 8 ∧ 0 ≤ G 16114 c ∧ G 16114 c ≤ 8 ∧ 0 ≤ G 16106 c ∧ G 16106 c ≤ 4
def onlyR (G : gS) (s c : Int) (k : Int) : Prop := ∀ j, k ≤ j → j < G 16114 c → rin G s (G 16112 (8 * c + j)) ≠ -2
def withR (G : gS) (s c : Int) (k : Int) : Prop := ∀ j, k ≤ j → j < G 16111 c → rin G s (G 16109 (8 * c + j)) ≠ -2 ∧ G 16107 (rin G s (G 16109 (8 * c + j))) = G 16098 c
theorem ronly_loop {s c : Int} (hW : HdW G0 s c) : ∀ (f F : Nat) (k : Int) (G : gS) (Q : Int → gS → Prop), f + k = 9 → f + 2 ≤ F → 0 ≤ k → FF G0 G → (∀ G', FF G0 G' → (G' 16081 20 = 0 ↔ G 16081 20 = 0 ∧ onlyR G0 s c k) → Q 0 G') → PX13_head_368 (PX13_head_J F) c k G Q
  | 0, F, k, G, Q, h1, _, _, hf, hQ => by
    obtain ⟨w1, w2, w3, w4, w5, w6, w7, w8, w9, w10, w11, w12⟩ := hW
    have e14 : G 16114 c = G0 16114 c := hf _ _ (by omega)
    unfold PX13_head_368
    refine ⟨w5, w6, fun _ => ⟨fun z => by omega, fun _ => hQ G hf ⟨fun u => ⟨u, fun j j0 j1 => by omega⟩, fun u => u.1⟩⟩⟩
  | f + 1, F, k, G, Q, hfk, hF, hk, hf, hQ => by
    obtain ⟨F', rfl⟩ : ∃ F', F = F' + 1 := ⟨F - 1, by omega⟩
    have hW' := hW
    obtain ⟨w1, w2, w3, w4, w5, w6, w7, w8, w9, w10, w11, w12⟩ := hW
    have e14 : G 16114 c = G0 16114 c := hf _ _ (by omega)
    have e12 : ∀ y, G 16112 y = G0 16112 y := fun y => hf _ _ (by omega)
    have e19 : G 16081 19 = s := (hf _ _ (by omega)).trans w2
    unfold PX13_head_368 PX13_head_418
    rw [e14, e19, e12]
    refine ⟨w5, w6, fun _ => ⟨fun z => fun _ => ⟨by omega, by omega, fun _ => rinSlot_ok ⟨w3, w4⟩ ((WsR_FF hf w1).2.2 s w3 w4) (fun _ => ?_)⟩, fun z => hQ G hf ⟨fun u => ⟨u, fun j j0 j1 => by omega⟩, fun u => u.1⟩⟩⟩
    rw [rin_FF hf]
    refine ⟨fun y => ⟨by omega, by omega, fun _ => rfault_FF (by decide) (fun G1 f1 u1 => ⟨by unfold inI; omega, ?_⟩)⟩, fun y => ⟨by unfold inI; omega, ?_⟩⟩
    · show PX13_head_368 (PX13_head_J F') c (k + 1) G1 Q
      refine ronly_loop hW' f F' (k + 1) G1 Q (by omega) (by omega) (by omega) (FF_tr hf f1) (fun G2 f2 i2 => hQ G2 f2 ⟨fun u => absurd (i2.mp u).1 u1, fun u => absurd y (u.2 k (by omega) z)⟩)
    · show PX13_head_368 (PX13_head_J F') c (k + 1) G Q
      refine ronly_loop hW' f F' (k + 1) G Q (by omega) (by omega) (by omega) hf (fun G2 f2 i2 => hQ G2 f2 ⟨fun u => ⟨(i2.mp u).1, fun j j0 j1 => ?_⟩, fun u => i2.mpr ⟨u.1, fun j j0 j1 => u.2 j (by omega) j1⟩⟩)
      by_cases e : j = k
      · rw [e]; exact y
      · exact (i2.mp u).2 j (by omega) j1
theorem rwith_loop {s c : Int} (hW : HdW G0 s c) : ∀ (f F : Nat) (k : Int) (G : gS) (Q : Int → gS → Prop), f + k = 9 → f + 12 ≤ F → 0 ≤ k → FF G0 G → (∀ G', FF G0 G' → (G' 16081 20 = 0 ↔ G 16081 20 = 0 ∧ withR G0 s c k ∧ onlyR G0 s c 0) → Q 0 G') → PX13_head_292 (PX13_head_J F) c k G Q
  | 0, F, k, G, Q, h1, hF, _, hf, hQ => by
    have hW' := hW
    obtain ⟨w1, w2, w3, w4, w5, w6, w7, w8, w9, w10, w11, w12⟩ := hW
    have e11 : G 16111 c = G0 16111 c := hf _ _ (by omega)
    unfold PX13_head_292
    refine ⟨w5, w6, fun _ => ⟨fun z => by omega, fun _ => ronly_loop hW' 9 F 0 G Q (by omega) (by omega) (by omega) hf (fun G2 f2 i2 => hQ G2 f2 ⟨fun u => ⟨(i2.mp u).1, fun j j0 j1 => by omega, (i2.mp u).2⟩, fun u => i2.mpr ⟨u.1, u.2.2⟩⟩)⟩⟩
  | f + 1, F, k, G, Q, hfk, hF, hk, hf, hQ => by
    obtain ⟨F', rfl⟩ : ∃ F', F = F' + 1 := ⟨F - 1, by omega⟩
    have hW' := hW
    obtain ⟨w1, w2, w3, w4, w5, w6, w7, w8, w9, w10, w11, w12⟩ := hW
    have e11 : G 16111 c = G0 16111 c := hf _ _ (by omega)
    have e09 : ∀ y, G 16109 y = G0 16109 y := fun y => hf _ _ (by omega)
    have e19 : G 16081 19 = s := (hf _ _ (by omega)).trans w2
    -- a FAULT
    have bad : ¬ (rin G0 s (G0 16109 (8 * c + k)) ≠ -2 ∧ G0 16107 (rin G0 s (G0 16109 (8 * c + k))) = G0 16098 c) → k < G0 16111 c → ∀ r, PX13_head_344 (PX13_head_J (F' + 1)) c k r G Q := fun y z r => by
      unfold PX13_head_344 PX13_head_360
      refine ⟨by omega, by omega, fun _ => rfault_FF (by decide) (fun G1 f1 u1 => ⟨by unfold inI; omega, ?_⟩)⟩
      show PX13_head_292 (PX13_head_J F') c (k + 1) G1 Q
      exact rwith_loop hW' f F' (k + 1) G1 Q (by omega) (by omega) (by omega) (FF_tr hf f1) (fun G2 f2 i2 => hQ G2 f2 ⟨fun u => absurd (i2.mp u).1 u1, fun u => absurd (u.2.1 k (by omega) z) y⟩)
    unfold PX13_head_292
    rw [e11, e19, e09]
    refine ⟨w5, w6, fun _ => ⟨fun z => fun _ => ⟨by omega, by omega, fun _ => rinSlot_ok ⟨w3, w4⟩ ((WsR_FF hf w1).2.2 s w3 w4) (fun _ => ?_)⟩, fun z => ronly_loop hW' 9 (F' + 1) 0 G Q (by omega) (by omega) (by omega) hf (fun G2 f2 i2 => hQ G2 f2 ⟨fun u => ⟨(i2.mp u).1, fun j j0 j1 => by omega, (i2.mp u).2⟩, fun u => i2.mpr ⟨u.1, u.2.2⟩⟩)⟩⟩
    rw [rin_FF hf]
    have rb := rin_b (G := G0) (s := s) (w := G0 16109 (8 * c + k)) ⟨w3, w4⟩ (w1.2.2 s w3 w4) 13 0 (by omega)
    have w97 := w1.2.2 s w3 w4
    change rin G0 s (G0 16109 (8 * c + k)) = -2 ∨ (s * 12 ≤ rin G0 s (G0 16109 (8 * c + k)) ∧ rin G0 s (G0 16109 (8 * c + k)) < s * 12 + G0 16097 s ∧ _) at rb
    refine ⟨fun y => bad (fun u => u.1 y) z _, fun y => ⟨by omega, by omega, fun _ => ⟨w5, w6, fun _ => ?_⟩⟩⟩
    rw [hf 16107 _ (by omega), hf 16098 _ (by omega)]
    refine ⟨fun x => ?_, fun x => bad (fun u => x u.2) z _⟩
    unfold PX13_head_360
    refine ⟨by unfold inI; omega, ?_⟩
    show PX13_head_292 (PX13_head_J F') c (k + 1) G Q
    refine rwith_loop hW' f F' (k + 1) G Q (by omega) (by omega) (by omega) hf (fun G2 f2 i2 => hQ G2 f2 ⟨fun u => ⟨(i2.mp u).1, fun j j0 j1 => ?_, (i2.mp u).2.2⟩, fun u => i2.mpr ⟨u.1, fun j j0 j1 => u.2.1 j (by omega) j1, u.2.2⟩⟩)
    by_cases e : j = k
    · rw [e]; exact ⟨y, x⟩
    · exact (i2.mp u).2.1 j (by omega) j1
end RHD1

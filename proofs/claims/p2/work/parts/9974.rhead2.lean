section RHD2
variable {G G0 G1 G' : gS} {Q : Int → gS → Prop}
/-- a class that stands in some slot -/
def Std (G : gS) (c : Int) : Prop := 0 ≤ c ∧ c < 216 ∧ ∃ s, 0 ≤ s ∧ s < 18 ∧ s * 12 ≤ c ∧ c < s * 12 + G 16097 s
def WpR (G : gS) (pk : Int → Int) : Prop := 2 ≤ G 16097 17 ∧ ∀ c, Std G c → PkR (G 16098 c) (pk c) ∧ 0 ≤ G 16114 c ∧ G 16114 c ≤ 8 ∧ 0 ≤ G 16111 c ∧ G 16111 c ≤ 8
theorem rin_std {s w : Int} (hs : 0 ≤ s ∧ s < 18) (h97 : 0 ≤ G 16097 s ∧ G 16097 s ≤ 12) (h : rin G s w ≠ -2) : Std G (rin G s w) := by
  rcases rin_b (G := G) (w := w) hs h97 13 0 (by omega) with e | e
  · exact absurd e h
  · change s * 12 ≤ rin G s w ∧ rin G s w < s * 12 + G 16097 s ∧ _ at e
    exact ⟨by omega, by omega, s, hs.1, hs.2, e.1, e.2.1⟩
theorem rfnL_std {w : Int} (hW : WsR G) : ∀ (f : Nat) (r l : Int), 0 ≤ l → (r ≠ -2 → Std G r) → rfnL G w f r l ≠ -2 → Std G (rfnL G w f r l)
  | 0, r, l, _, hr, h => hr h
  | f + 1, r, l, hl, hr, h => by
    have sp : rfnL G w (f + 1) r l = if l < 5 then (if r = -2 then rfnL G w f (if G 16163 l = -2 ∨ (G 16081 91 ≠ -2 ∧ l = G 16087 (G 16081 91)) then -2 else rin G (G 16163 l) w) (l + 1) else r) else r := rfl
    rw [sp] at h ⊢
    by_cases z : l < 5
    · rw [if_pos z] at h ⊢
      by_cases y : r = -2
      · rw [if_pos y] at h ⊢
        refine rfnL_std hW f _ (l + 1) (by omega) (fun u => ?_) h
        split at u
        · exact absurd rfl u
        · rename_i v
          rw [if_neg v]
          have := hW.2.1 l hl z
          exact rin_std (by omega) (hW.2.2 _ (by omega) (by omega)) u
      · rw [if_neg y] at h ⊢
        exact hr y
    · rw [if_neg z] at h ⊢
      exact hr h
theorem rfn_std {w : Int} (hW : WsR G) (h17 : 2 ≤ G 16097 17) (h : rfn G w ≠ -2) : Std G (rfn G w) := by
  have s0 : rfn0 G w ≠ -2 → Std G (rfn0 G w) := fun u => by
    unfold rfn0 at u ⊢
    split at u
    · exact absurd rfl u
    · rename_i v
      rw [if_neg v]
      exact rin_std (by have := hW.1; omega) (hW.2.2 _ (by have := hW.1; omega) (by have := hW.1; omega)) u
  unfold rfn at h ⊢
  split
  · split
    · exact ⟨by omega, by omega, 17, by omega, by omega, by omega, by omega⟩
    · split
      · exact ⟨by omega, by omega, 17, by omega, by omega, by omega, by omega⟩
      · rename_i z y x
        rw [if_pos z, if_neg y, if_neg x] at h
        exact rfnL_std hW 6 _ 0 (by omega) s0 h
  · exact s0 (by assumption)
theorem LtR_FF {a b p p' : Int} (h : FF G G') : LtR G' a b p p' ↔ LtR G a b p p' := by
  unfold LtR
  rw [h _ _ (by omega), h _ _ (by omega), h 16098 b (by omega)]
  have : ∀ j, G' 16112 (8 * a + j) = G 16112 (8 * a + j) := fun j => h _ _ (by omega)
  simp only [this]
/-- 'in C' is right -/
def inR (G : gS) (pk : Int → Int) (s c : Int) : Prop := G 16107 c ≠ 0 → rin G s (G 16107 c) ≠ -2 ∧ pk (rin G s (G 16107 c)) = pk c ∧ ∃ j, 0 ≤ j ∧ j < G 16111 (rin G s (G 16107 c)) ∧ G 16109 (8 * rin G s (G 16107 c) + j) = G 16098 c
def faceR (G : gS) (pk : Int → Int) (c : Int) (k : Int) : Prop := ∀ j, k ≤ j → j < G 16106 c → rfn G (G 16104 (4 * c + j)) ≠ -2 ∧ G 16101 (rfn G (G 16104 (4 * c + j))) = 3 ∧ LtR G (rfn G (G 16104 (4 * c + j))) c (pk (rfn G (G 16104 (4 * c + j)))) (pk c) ∧ ∀ j', 0 ≤ j' → j' < j → G 16104 (4 * c + j') ≠ G 16104 (4 * c + j)
def restR (G : gS) (pk : Int → Int) (s c : Int) : Prop := inR G pk s c ∧ withR G s c 0 ∧ onlyR G s c 0
theorem rin_part {pk : Int → Int} {s c F : Int} {f : Nat} (hF : 30 ≤ f) (hW : HdW G0 s c) (hP : WpR G0 pk) (hc : Std G0 c) (hf : FF G0 G) (hQ : ∀ G', FF G0 G' → (G' 16081 20 = 0 ↔ G 16081 20 = 0 ∧ restR G0 pk s c) → Q 0 G') {J : JT} (hJ : J = PX13_head_J f) : (inL (G 16107 c) → ((G 16107 c = 0 → PX13_head_290 J c F G Q) ∧ (¬ (G 16107 c = 0) → (inI (G 16081 19) → ((0 : Int) ≤ c ∧ ((c : Int) < 216 ∧ (inL (G 16107 c) → PX13_inSlot (G 16081 19) (G 16107 c) G (fun r89 G88 => inI r89 → ((r89 = -2 → PX13_head_279 J c r89 G88 Q) ∧ (¬ (r89 = -2) → PX13_onePackage r89 c G88 (fun r93 G92 => (0 ≤ r93 ∧ r93 ≤ 1) → ((r93 = 0 → PX13_head_279 J c r89 G92 Q) ∧ (¬ (r93 = 0) → ((0 : Int) ≤ r89 ∧ ((r89 : Int) < 216 ∧ (inI (G92 16111 r89) → ((0 : Int) ≤ c ∧ ((c : Int) < 216 ∧ (inL (G92 16098 c) → (inI (8 * r89) ∧ PX13_stands 16109 (8 * r89) (G92 16111 r89) (G92 16098 c) G92 (fun r104 G103 => (0 ≤ r104 ∧ r104 ≤ 1) → ((r104 = 0 → PX13_head_279 J c r89 G103 Q) ∧ (¬ (r104 = 0) → PX13_head_290 J c r89 G103 Q))))))))))))))))))))))) := by
  subst hJ
  have hW' := hW
  obtain ⟨w1, w2, w3, w4, w5, w6, w7, w8, w9, w10, w11, w12⟩ := hW
  have e07 : G 16107 c = G0 16107 c := hf _ _ (by omega)
  have e19 : G 16081 19 = s := (hf _ _ (by omega)).trans w2
  have good : inR G0 pk s c → ∀ r, PX13_head_290 (PX13_head_J f) c r G Q := fun y r => by
    unfold PX13_head_290
    exact rwith_loop hW' 9 f 0 G Q (by omega) (by omega) (by omega) hf (fun G2 f2 i2 => hQ G2 f2 ⟨fun u => ⟨(i2.mp u).1, y, (i2.mp u).2.1, (i2.mp u).2.2⟩, fun u => i2.mpr ⟨u.1, u.2.2.1, u.2.2.2⟩⟩)
  have bad : ¬ inR G0 pk s c → ∀ r, PX13_head_279 (PX13_head_J f) c r G Q := fun y r => by
    unfold PX13_head_279 PX13_head_290
    refine ⟨w5, w6, fun _ => rfault_FF (by decide) (fun G1 f1 u1 => ?_)⟩
    exact rwith_loop hW' 9 f 0 G1 Q (by omega) (by omega) (by omega) (FF_tr hf f1) (fun G2 f2 i2 => hQ G2 f2 ⟨fun u => absurd (i2.mp u).1 u1, fun u => absurd u.2.1 y⟩)
  rw [e07, e19]
  refine fun _ => ⟨fun z => good (fun u => absurd z u) _, fun z => fun _ => ⟨w5, w6, fun _ => rinSlot_ok ⟨w3, w4⟩ ((WsR_FF hf w1).2.2 s w3 w4) (fun _ => ?_)⟩⟩
  rw [rin_FF hf]
  refine ⟨fun y => bad (fun u => (u z).1 y) _, fun y => ?_⟩
  have st := rin_std ⟨w3, w4⟩ (w1.2.2 s w3 w4) y
  obtain ⟨q1, q2, q3, q4, q5⟩ := hP.2 _ st
  have q6 := (hP.2 _ hc).1
  rw [← hf 16098 _ (by omega)] at q1 q6
  refine ronePackage_ok ⟨st.1, st.2.1⟩ ⟨w5, w6⟩ q1 q6 (fun e => fun _ => ⟨fun u => absurd u (by decide), fun _ => ⟨st.1, st.2.1, fun _ => ⟨w5, w6, fun _ => ⟨?_, ?_⟩⟩⟩⟩) (fun e => fun _ => ⟨fun _ => bad (fun u => e (u z).2.1) _, fun u => absurd rfl u⟩)
  · have := st.1; have := st.2.1; unfold inI; omega
  · rw [hf 16111 _ (by omega), hf 16098 c (by omega)]
    refine rstands_ok aC16109 (by have := st.1; have := st.2.1; omega) q4 (fun v hv => fun _ => ?_)
    have e09 : ∀ y, G 16109 y = G0 16109 y := fun y => hf _ _ (by omega)
    rcases hv with ⟨e1, j, j0, j1, j2⟩ | ⟨e1, e2⟩
    · subst e1
      rw [e09] at j2
      exact ⟨fun u => absurd u (by decide), fun _ => good (fun _ => ⟨y, e, j, j0, j1, j2⟩) _⟩
    · subst e1
      refine ⟨fun _ => bad (fun u => ?_) _, fun u => absurd rfl u⟩
      obtain ⟨-, -, j, j0, j1, j2⟩ := u z
      exact e2 j j0 j1 (by rw [e09]; exact j2)
end RHD2

section RP1
-- the reference's reader. B: a heap that its tokens stand in (N of them, of slot s); tk, cd: the same tokens as the class has them
def TKp (B : gS) (s N : Int) (tk cd : Int → Int) : Prop := 0 ≤ s ∧ s < 18 ∧ B 16081 19 = s ∧ 1 ≤ N ∧ N ≤ 701 ∧ (∀ a, 0 ≤ a → a < N → TR (tk a) (cd a) (B 16090 (s * 702 + a)) (B 16093 (s * 702 + a)) (B 16094 (s * 702 + a))) ∧ (∀ a, 0 ≤ a → a < N - 1 → tk a ≠ 0 ∧ tk a ≠ 1) ∧ (tk (N - 1) = 0 ∨ tk (N - 1) = 1 ∨ N = 701)
def TE (B G : gS) (s N : Int) : Prop := G 16081 19 = s ∧ ∀ a, 0 ≤ a → a < N → G 16090 (s * 702 + a) = B 16090 (s * 702 + a) ∧ G 16091 (s * 702 + a) = B 16091 (s * 702 + a) ∧ G 16093 (s * 702 + a) = B 16093 (s * 702 + a) ∧ G 16094 (s * 702 + a) = B 16094 (s * 702 + a)
def XR (s i0 c j : Int) : Prop := (c = 16081 ∧ (j = 20 ∨ j = 21 ∨ j = 22 ∨ j = 89)) ∨ (c = 16143 ∧ j = s) ∨ (16144 ≤ c ∧ c ≤ 16162 ∧ s * 1700 + i0 ≤ j ∧ j < s * 1700 + 1700)
/-- q: how far it has read, or the FAULT that stands; i nodes; d: within how many S's and E's -/
def RM (B : gS) (s N d : Int) (G : gS) (q : RR) (i : Int) : Prop := TE B G s N ∧ 0 ≤ q.2 ∧ q.2 < N ∧ 0 ≤ G 16081 22 ∧ G 16081 22 < N ∧ (q.1 = 0 → G 16081 20 = 0 ∧ G 16081 22 = q.2) ∧ (q.1 ≠ 0 → G 16081 20 = q.1 ∧ G 16081 21 = B 16091 (s * 702 + q.2) ∧ G 16081 22 = q.2) ∧ G 16143 s = i ∧ G 16081 89 = d
variable {B G G' : gS} {s N d i i0 i1 : Int} {tk cd : Int → Int} {q : RR} {Q : Int → gS → Prop}
theorem XR_mono {c j : Int} (h : i0 ≤ i1) (x : XR s i1 c j) : XR s i0 c j := by
  unfold XR at *
  omega
theorem FR_XR (h : i0 ≤ i1) (f : FR (XR s i1) G G') : FR (XR s i0) G G' := FR_mono (fun _ _ => XR_mono h) f
theorem TE_F (h : TE B G s N) (f : FR (XR s i) G G') : TE B G' s N := by
  obtain ⟨h1, h2⟩ := h
  refine ⟨by rw [f _ _ (by unfold XR; omega)]; exact h1, fun a x y => ?_⟩
  rw [f _ _ (by unfold XR; omega), f _ _ (by unfold XR; omega), f _ _ (by unfold XR; omega), f _ _ (by unfold XR; omega)]
  exact h2 a x y
theorem rKind {a : Int} (hK : TKp B s N tk cd) (hT : TE B G s N) (h0 : 0 ≤ a) (h1 : a < N) (hQ : inI (B 16090 (s * 702 + a)) → Q (B 16090 (s * 702 + a)) G) : PX13_kindAt a G Q := by
  obtain ⟨k0, k1, k2, k3, k4, -⟩ := hK
  unfold PX13_kindAt PX13_kindAt_0
  rw [hT.1, (hT.2 a h0 h1).1]
  exact fun _ => ⟨by omega, by omega, hQ⟩
theorem rPlace {a : Int} (hK : TKp B s N tk cd) (hT : TE B G s N) (h0 : 0 ≤ a) (h1 : a < N) (hQ : Q (B 16091 (s * 702 + a)) G) : PX13_placeAt a G Q := by
  obtain ⟨k0, k1, k2, k3, k4, -⟩ := hK
  unfold PX13_placeAt PX13_placeAt_0
  rw [hT.1, (hT.2 a h0 h1).2.1]
  exact fun _ => ⟨by omega, by omega, fun _ => hQ⟩
theorem rName {a : Int} (hK : TKp B s N tk cd) (hT : TE B G s N) (h0 : 0 ≤ a) (h1 : a < N) (hQ : Q (B 16093 (s * 702 + a)) G) : PX13_nameAt a G Q := by
  obtain ⟨k0, k1, k2, k3, k4, -⟩ := hK
  unfold PX13_nameAt PX13_nameAt_0
  rw [hT.1, (hT.2 a h0 h1).2.2.1]
  exact fun _ => ⟨by omega, by omega, fun _ => hQ⟩
theorem TR_k {kc cc kr nr vr : Int} (h : TR kc cc kr nr vr) : (kr = 0 ↔ kc = 0) ∧ (kr = 6 ↔ kc = 1) ∧ (kr = 1 ↔ kc = 2) ∧ (kr = 2 ↔ kc = 3) ∧ (kr = 4 ↔ kc = 4) ∧ (kr = 3 → 10 ≤ kc ∧ kc < 40) ∧ (∀ w, sg w → ((kr = 5 ∧ vr = w) ↔ kc = 100 + w)) ∧ ((kr = 5 ∧ vr = 256) ↔ kc = 99) := by
  unfold TR at h
  rcases h with ⟨rfl, rfl⟩ | ⟨rfl, rfl⟩ | ⟨rfl, rfl, -⟩ | ⟨rfl, rfl, -⟩ | ⟨rfl, rfl, -⟩ | ⟨rfl, w, h1, h2, -, rfl⟩ | ⟨rfl, rfl, rfl⟩ | ⟨rfl, h1, rfl⟩
  all_goals (try unfold sg at h1)
  all_goals refine ⟨by omega, by omega, by omega, by omega, by omega, by omega, fun w' hw => ?_, ?_⟩
  all_goals (try unfold sg at *)
  all_goals omega
theorem rSign {w k : Int} (hK : TKp B s N tk cd) (hT : TE B G s N) (h0 : 0 ≤ G 16081 22) (h1 : G 16081 22 < N) (hw : (sg w ∧ k = 100 + w) ∨ (w = 256 ∧ k = 99)) (hQ : ∀ v, (v = 1 ∧ tk (G 16081 22) = k) ∨ (v = 0 ∧ tk (G 16081 22) ≠ k) → Q v G) : PX13_isSign w G Q := by
  have t := TR_k (hK.2.2.2.2.2.1 _ h0 h1)
  obtain ⟨e0, e1, e3, e4⟩ := hT.2 _ h0 h1
  have z : (B 16090 (s * 702 + G 16081 22) = 5 ∧ B 16094 (s * 702 + G 16081 22) = w) ↔ tk (G 16081 22) = k := by
    rcases hw with ⟨x, rfl⟩ | ⟨rfl, rfl⟩
    · exact t.2.2.2.2.2.2.1 w x
    · exact t.2.2.2.2.2.2.2
  unfold PX13_isSign PX13_isSign_0 PX13_isSign_38 PX13_isSign_39
  refine fun _ => rKind hK hT h0 h1 (fun _ => fun _ => ⟨fun y5 => ?_, fun y5 => ⟨by omega, hQ 0 (Or.inr ⟨rfl, fun y => y5 (z.mpr y).1⟩)⟩⟩)
  obtain ⟨k0, k1, k2, k3, k4, -⟩ := hK
  rw [hT.1, e4]
  exact fun _ _ => ⟨by omega, by omega, fun _ => ⟨fun y => ⟨by omega, hQ 1 (Or.inl ⟨rfl, z.mp ⟨y5, y⟩⟩)⟩, fun y => ⟨by omega, hQ 0 (Or.inr ⟨rfl, fun x => y (z.mpr x).2⟩)⟩⟩⟩
theorem rwd_inj : ∀ w : Nat, w < 30 → ∀ v : Nat, v < 30 → rx_nth rwds w 0 = rx_nth rwds v 0 → w = v := by decide +kernel
-- the words by string
def wordOf (x k : Int) : Prop := sNm x = rwd (k - 10) ∧ 10 ≤ k ∧ k < 40
theorem rWord {x k : Int} (hK : TKp B s N tk cd) (hT : TE B G s N) (h0 : 0 ≤ G 16081 22) (h1 : G 16081 22 < N) (hw : wordOf x k) (hQ : ∀ v, (v = 1 ∧ tk (G 16081 22) = k) ∨ (v = 0 ∧ tk (G 16081 22) ≠ k) → Q v G) : PX13_isWordAt x G Q := by
  have t := hK.2.2.2.2.2.1 _ h0 h1
  have tk' := TR_k t
  obtain ⟨w1, w2, w3⟩ := hw
  have z : (B 16090 (s * 702 + G 16081 22) = 3 ∧ B 16093 (s * 702 + G 16081 22) = sNm x) ↔ tk (G 16081 22) = k := by
    unfold TR at t
    constructor
    · intro ⟨y1, y2⟩
      rcases t with ⟨y, -⟩ | ⟨y, -⟩ | ⟨y, -⟩ | ⟨y, -⟩ | ⟨y, -⟩ | ⟨y, w, v1, v2, v3, v4⟩ | ⟨y, -⟩ | ⟨y, -⟩
      all_goals first | omega | skip
      rw [w1] at y2
      rw [y2] at v3
      have e := rwd_inj (k - 10).toNat (by omega) w.toNat (by omega) (by unfold rwd at v3; omega)
      omega
    · intro y0
      rcases t with ⟨y, y2⟩ | ⟨y, y2⟩ | ⟨y, y2, -⟩ | ⟨y, y2, -⟩ | ⟨y, y2, -⟩ | ⟨y, w, v1, v2, v3, v4⟩ | ⟨y, -, y2⟩ | ⟨y, y3, y2⟩
      all_goals first | omega | skip
      · refine ⟨y, ?_⟩
        rw [v3, w1]
        congr 1
        omega
      · unfold sg at y3; omega
  unfold PX13_isWordAt PX13_isWordAt_0 PX13_isWordAt_32 PX13_isWordAt_33
  refine fun _ => rKind hK hT h0 h1 (fun _ => fun _ => ⟨fun y3 => ?_, fun y3 => ⟨by omega, hQ 0 (Or.inr ⟨rfl, fun y => y3 (z.mpr y).1⟩)⟩⟩)
  exact fun _ => rName hK hT h0 h1 (fun _ => fun _ => ⟨fun y => ⟨by omega, hQ 1 (Or.inl ⟨rfl, z.mp ⟨y3, y⟩⟩)⟩, fun y => ⟨by omega, hQ 0 (Or.inr ⟨rfl, fun x => y (z.mpr x).2⟩)⟩⟩)
theorem wo (x k : Nat) (h : (rx_nth sNms x 0 == rx_nth rwds (k - 10) 0 && (10 ≤ k && k < 40)) = true) (hx : rx_nth sNms x 0 < 9223372036854775808) : wordOf x k := by
  rw [Bool.and_eq_true, Bool.and_eq_true] at h
  obtain ⟨h1, h2, h3⟩ := h
  have h1 := eq_of_beq h1
  have h2 := of_decide_eq_true h2
  have h3 := of_decide_eq_true h3
  refine ⟨?_, by omega, by omega⟩
  unfold sNm rwd
  rw [show ((x : Nat) : Int).toNat = x by omega, show ((k : Int) - 10).toNat = k - 10 by omega, ← h1]
  rw [Int64.toInt_ofNat']
  show Int.bmod _ 18446744073709551616 = _
  rw [Int.bmod_def]
  split <;> omega
end RP1

section CP1
-- the class's reader over tokens tk (c of them, an end behind)
def PT (G : gS) (tk : Int → Int) (c : Int) : Prop := G 7 5 = c ∧ 0 ≤ c ∧ c ≤ 702 ∧ (∀ a, 0 ≤ a → a ≤ c → G 9 a = tk a) ∧ (∀ a, c ≤ a → tk a = 0)
theorem PT_lt {G : gS} {tk : Int → Int} {c a : Int} (h : PT G tk c) (ha : tk a ≠ 0) : a < c := by
  rcases (show a < c ∨ c ≤ a by omega) with z | z
  · exact z
  · exact absurd (h.2.2.2.2 a z) ha
-- parsing changes at, fault, its token, the count of nodes, and nodes
def NC (G : gS) : Prop := 0 ≤ G 7 14 ∧ G 7 14 ≤ 800
def FP (G G' : gS) : Prop := (∀ c j, ¬ (c = 7 ∧ (j = 8 ∨ j = 9 ∨ j = 10 ∨ j = 14)) → ¬ (14 ≤ c ∧ c < 814) → G' c j = G c j) ∧ (NC G → NC G')
theorem FP_id (G : gS) : FP G G := ⟨fun _ _ _ _ => rfl, fun h => h⟩
theorem FP_tr {G G' G'' : gS} (h : FP G G') (h' : FP G' G'') : FP G G'' := ⟨fun c j a b => by rw [h'.1 c j a b, h.1 c j a b], fun q => h'.2 (h.2 q)⟩
theorem FP_up {G G' : gS} {c j v : Int} (h : FP G G') (hc : c = 7 ∧ (j = 8 ∨ j = 9 ∨ j = 10) ∨ 14 ≤ c ∧ c < 814) : FP G (uG G' c j v) := ⟨fun c' j' a b => by
  rw [uG_ne (by omega)]
  exact h.1 c' j' a b, fun q => by
  have := h.2 q
  unfold NC at *
  rw [uG_ne (by omega)]
  exact this⟩
-- behind a FAULT at is not below 0
def fG (G : gS) (m x : Int) : gS := uG (uG (uG G 7 8 (if 0 ≤ x then x else 0)) 7 9 m) 7 10 x
def AT (G : gS) (x : Int) : Prop := G 7 10 = x ∧ 0 ≤ G 7 8
theorem fG_at (G : gS) (m x : Int) : fG G m x 7 9 = m ∧ AT (fG G m x) x := by
  unfold fG AT
  refine ⟨by rw [uG_j (by decide), uG_at], uG_at _ _ _ _, ?_⟩
  rw [uG_j (by decide), uG_j (by decide), uG_at]
  split <;> omega
theorem uG_id {G : gS} {c j v : Int} (h : G c j = v) : uG G c j v = G := by
  funext c' j'
  unfold uG
  by_cases q : c' = c ∧ j' = j
  · rw [if_pos q, q.1, q.2, h]
  · rw [if_neg q]
theorem fG_eq {G : gS} {m a : Int} (ha : G 7 8 = a) (h0 : 0 ≤ a) : uG (uG G 7 9 m) 7 10 a = fG G m a := by
  unfold fG
  rw [if_pos h0, uG_id ha]
theorem fG_j {G : gS} {m x c j : Int} (h : ¬ (c = 7 ∧ (j = 8 ∨ j = 9 ∨ j = 10))) : fG G m x c j = G c j := by
  unfold fG
  rw [uG_ne (by omega), uG_ne (by omega), uG_ne (by omega)]
theorem AT_c {G1 G2 : gS} {c j v x : Int} (e : G2 = uG G1 c j v) (h : ¬ (c = 7 ∧ (j = 8 ∨ j = 10))) (q : AT G1 x) : AT G2 x := by
  unfold AT at *
  rw [e, uG_ne (by omega), uG_ne (by omega)]
  exact q
theorem FP_fG {G G1 : gS} {m x : Int} (h : FP G G1) : FP G (fG G1 m x) := FP_up (FP_up (FP_up h (by omega)) (by omega)) (by omega)
theorem PT_FP {G G' : gS} {tk : Int → Int} {c : Int} (h : PT G tk c) (hf : FP G G') : PT G' tk c := ⟨by rw [hf.1 _ _ (by omega) (by omega)]; exact h.1, h.2.1, h.2.2.1, fun a x y => by rw [hf.1 _ _ (by omega) (by omega)]; exact h.2.2.2.1 a x y, h.2.2.2.2⟩
variable {G : gS} {Q : Int → gS → Prop} {tk : Int → Int} {c a : Int}
theorem sX9_now (h : PT G tk c) (ha : G 7 8 = a) (h0 : 0 ≤ a) (h1 : a < 704) (hQ : Q (tk a) G) : PX9_now G Q := by
  unfold PX9_now PX9_now_0 PX9_now_24
  rw [ha, h.1]
  refine fun _ _ => ⟨fun q => ?_, fun q => fun _ => ⟨h0, h1, fun _ => ?_⟩⟩
  · rw [h.2.2.2.2 a (by omega)] at hQ; exact hQ
  · rw [h.2.2.2.1 a h0 (by omega)]; exact hQ
theorem sX9_behind (h : PT G tk c) (ha : G 7 8 = a) (h0 : 0 ≤ a) (h1 : a < 703) (hQ : Q (tk (a + 1)) G) : PX9_behind G Q := by
  unfold PX9_behind PX9_behind_0 PX9_behind_28
  rw [ha, h.1]
  refine fun _ _ => ⟨by unfold inI; omega, fun q => ?_, fun q => fun _ => ⟨by omega, by omega, fun _ => ?_⟩⟩
  · rw [h.2.2.2.2 (a + 1) (by omega)] at hQ; exact hQ
  · rw [h.2.2.2.1 (a + 1) (by omega) (by omega)]; exact hQ
theorem sX9_stop {m : Int} (ha : G 7 8 = a) (h0 : 0 ≤ a) (hf : G 7 9 = 0) (hQ : Q 0 (fG G m a)) : PX9_stop m G Q := by
  unfold PX9_stop PX9_stop_0 PX9_stop_20
  refine fun _ => ⟨fun _ G3 e3 => ?_, fun z => absurd hf z⟩
  have d : G3 7 8 = a := by rw [e3, uG_j (by decide)]; exact ha
  rw [d, e3]
  exact fun _ G5 e5 => by rw [e5, fG_eq ha h0]; exact hQ
theorem sX9_stop_on {m : Int} (hf : G 7 9 ≠ 0) (hQ : Q 0 G) : PX9_stop m G Q := by
  unfold PX9_stop PX9_stop_0 PX9_stop_20
  exact fun _ => ⟨fun z => absurd z hf, fun _ => hQ⟩
theorem sX9_miss (h : PT G tk c) (ha : G 7 8 = a) (hf : G 7 9 = 0) (h0 : 0 ≤ a) (h1 : a < 704) (hQ : Q 0 (fG G (pmiss tk a).1 a)) : PX9_miss G Q := by
  have put : ∀ m, m = (pmiss tk a).1 → PX9_miss_37 7 m G Q := fun m hm => by
    unfold PX9_miss_37 PX9_miss_48
    refine ⟨oC9, fun G3 e3 => ?_⟩
    have d : G3 7 8 = a := by rw [e3, uG_j (by decide)]; exact ha
    rw [d]
    intro _ G5 e5
    rw [e5, e3, hm, fG_eq ha h0]; exact hQ
  unfold PX9_miss PX9_miss_0 PX9_miss_36
  rw [ha, h.1, hf]
  refine fun _ => ⟨fun _ => fun _ _ => ⟨fun q => put 2 ?_, fun q => fun _ => ⟨h0, h1, fun _ => ⟨fun z => put 1 ?_, fun z => put 2 ?_⟩⟩⟩, fun z => absurd rfl z⟩
  · unfold pmiss; rw [h.2.2.2.2 a (by omega), if_neg (by decide)]
  · rw [h.2.2.2.1 a h0 (by omega)] at z; unfold pmiss; rw [if_pos z]
  · rw [h.2.2.2.1 a h0 (by omega)] at z; unfold pmiss; rw [if_neg z]
theorem sX9_take (ha : G 7 8 = a) (hf : G 7 9 = 0) (h0 : 0 ≤ a) (h1 : ptake a = (0, a + 1) → a < 700 → Q 1 (uG G 7 8 (a + 1))) (h2 : ptake a = (3, a) → Q 0 (fG G 3 a)) : PX9_take G Q := by
  unfold PX9_take PX9_take_0
  rw [ha]
  refine fun _ => ⟨fun q => fun _ => ⟨by unfold inI; omega, fun G5 e5 => ?_⟩, fun q => sX9_stop ha h0 hf (fun _ => h2 (if_pos (by omega)))⟩
  rw [e5]; exact h1 (if_neg (by omega)) q
theorem sX9_need {w : Int} (h : PT G tk c) (ha : G 7 8 = a) (hf : G 7 9 = 0) (h0 : 0 ≤ a) (h3 : a < 704) (hw : w ≠ 0) (h1 : pneed tk w a = (0, a + 1) → a < 700 → tk a = w → Q 1 (uG G 7 8 (a + 1))) (h2 : ∀ n, n ≠ 0 → pneed tk w a = (n, a) → Q 0 (fG G n a)) : PX9_need w G Q := by
  have no : tk a ≠ w → PX9_need_24 w G Q := fun z => by
    unfold PX9_need_24
    refine sX9_miss h ha hf h0 h3 (fun _ => h2 _ ?_ ?_)
    · unfold pmiss; show (if tk a = 1 then (1 : Int) else 2) ≠ 0; split <;> omega
    · unfold pneed; rw [if_neg z]; rfl
  unfold PX9_need PX9_need_0
  rw [ha, h.1]
  refine fun _ _ => ⟨fun q => no (by rw [h.2.2.2.2 a (by omega)]; exact fun z => hw z.symm), fun q => fun _ => ⟨h0, h3, fun _ => ?_⟩⟩
  rw [h.2.2.2.1 a h0 (by omega)]
  refine ⟨fun z => fun _ => ⟨fun y => fun _ => ⟨by unfold inI; omega, fun G5 e5 => ?_⟩, fun y => sX9_stop ha h0 hf (fun _ => h2 3 (by decide) ?_)⟩, fun z => no z⟩
  · rw [e5]; exact h1 (by unfold pneed ptake; rw [if_pos z, if_neg (by omega)]) y z
  · unfold pneed ptake; rw [if_pos z, if_pos (by omega)]
theorem sX9_beginsE {k : Int} (hk : k = tk a) (h1 : bE tk a = true → Q 1 G) (h2 : bE tk a = false → Q 0 G) : PX9_beginsE k G Q := by
  unfold PX9_beginsE PX9_beginsE_0 PX9_beginsE_46 PX9_beginsE_51
  have o1 : (0 : Int) ≤ 1 ∧ (1 : Int) ≤ 1 := by omega
  have o0 : (0 : Int) ≤ 0 ∧ (0 : Int) ≤ 1 := by omega
  subst hk
  unfold bE at h1 h2
  refine ⟨fun q => ⟨o1, h1 (by simp [q])⟩, fun q1 => ⟨fun q => ⟨o1, h1 (by simp [q])⟩, fun q2 => ⟨fun q => ⟨o1, h1 (by simp [q])⟩, fun q3 => ⟨fun q => ⟨o1, h1 (by simp [q])⟩, fun q4 => ⟨fun q => ⟨o1, h1 (by simp [q])⟩, fun q5 => ⟨fun q => ⟨o1, h1 (by simp [q])⟩, fun q6 => ⟨fun q => ⟨o1, h1 (by simp [q])⟩, fun q7 => ⟨fun q => ⟨o1, h1 (by simp [q])⟩, fun q8 => ⟨o0, h2 (by simp [q1, q2, q3, q4, q5, q6, q7, q8])⟩⟩⟩⟩⟩⟩⟩⟩⟩
theorem sX9_isChained {k b : Int} (hb : b = 0 ∨ b = 1) (h1 : (b = 1 ∧ (k = 143 ∨ k = 145)) ∨ (b = 0 ∧ k = 142) → Q 1 G) (h2 : ¬ ((b = 1 ∧ (k = 143 ∨ k = 145)) ∨ (b = 0 ∧ k = 142)) → Q 0 G) : PX9_isChained k b G Q := by
  unfold PX9_isChained PX9_isChained_0 PX9_isChained_18 PX9_isChained_38
  have o1 : (0 : Int) ≤ 1 ∧ (1 : Int) ≤ 1 := by omega
  have o0 : (0 : Int) ≤ 0 ∧ (0 : Int) ≤ 1 := by omega
  exact ⟨fun q => ⟨fun z => ⟨o1, h1 (by omega)⟩, fun z => ⟨o0, h2 (by omega)⟩⟩, fun q => ⟨fun z => ⟨o1, h1 (by omega)⟩, fun z => ⟨fun y => ⟨o1, h1 (by omega)⟩, fun y => ⟨o0, h2 (by omega)⟩⟩⟩⟩
-- nodes
noncomputable def ckNd (i : Nat) : Bool := Nat.beq (rx_nth (f0 13) i 0) (14 + i + 1) && k3 (k0 (14 + i)) (0, 8, nF 8)
set_option maxRecDepth 100000 in
theorem ckNd_ok : allN ckNd 800 = true := by decide +kernel
theorem nd_fin {i : Int} (h0 : 0 ≤ i) (h1 : i < 800) : W0.2 13 i = some (14 + i) := by
  have h := (Bool.and_eq_true_iff.mp (allN_ok ckNd_ok i.toNat (by omega))).1
  have := zfin_at (c := 13) (j := i.toNat) (v := 14 + i.toNat) (rx_beq h)
  show zfin 13 i = _
  rw [show ((13 : Nat) : Int) = 13 from rfl, Int.toNat_of_nonneg h0] at this
  rw [this, show ((14 + i.toNat : Nat) : Int) = 14 + i by omega]
theorem nd_isO {i : Int} (h0 : 0 ≤ i) (h1 : i < 800) : isO W0 8 (14 + i) := by
  have h := (Bool.and_eq_true_iff.mp (allN_ok ckNd_ok i.toNat (by omega))).2
  exact mkO (c := 14 + i.toNat) (by omega) (by omega) (k3_ok h)
-- a node made
def NN (G G' : gS) (i k f : Int) : Prop := G' 7 14 = i + 1 ∧ G' (14 + i) 0 = k ∧ G' (14 + i) 1 = f ∧ G' (14 + i) 2 = f ∧ G' (14 + i) 3 = 0 ∧ G' (14 + i) 4 = -1 ∧ G' (14 + i) 5 = -1 ∧ G' (14 + i) 6 = -1 ∧ G' (14 + i) 7 = -1 ∧ G' (14 + i) 8 = -1 ∧ G' (14 + i) 9 = -4 ∧ G' (14 + i) 10 = -4 ∧ G' (14 + i) 11 = -1 ∧ ∀ c j, c ≠ 14 + i → ¬ (c = 7 ∧ j = 14) → G' c j = G c j
end CP1
section CP2
variable {G : gS} {Q : Int → gS → Prop}
theorem NN_FP {G G' : gS} {i k f : Int} (h : NN G G' i k f) (h0 : 0 ≤ i) (h1 : i < 800) : FP G G' := by
  obtain ⟨e, -, -, -, -, -, -, -, -, -, -, -, -, h⟩ := h
  exact ⟨fun c j a b => h c j (by omega) (by omega), fun _ => by unfold NC; omega⟩
theorem sX9_node {i k f : Int} (hi : G 7 14 = i) (h0 : 0 ≤ i) (h1 : i < 800) (hQ : ∀ G', NN G G' i k f → Q (14 + i) G') : PX9_node k f G Q := by
  have put : PX9_node_23 k f G Q := by
    unfold PX9_node_23 PX8_clear PX8_clear_0
    rw [hi]
    refine fun _ => ⟨h0, h1, fun hf => ?_⟩
    have e := hf.2 _ (nd_fin h0 h1)
    rw [e]
    refine fun _ => ⟨by unfold inI; omega, fun G1 e1 => ⟨nd_isO h0 h1, nd_isO h0 h1, fun G2 e2 G3 e3 G4 e4 G5 e5 G6 e6 G7 e7 G8 e8 G9 e9 G10 e10 G11 e11 G12 e12 G13 e13 => ?_⟩⟩
    subst e1 e2 e3 e4 e5 e6 e7 e8 e9 e10 e11 e12 e13
    refine hQ _ ⟨?_, ?_, ?_, ?_, ?_, ?_, ?_, ?_, ?_, ?_, ?_, ?_, ?_, fun c j x y => ?_⟩
    · iterate 12 rw [uG_ne (by omega)]
      exact uG_at _ _ _ _
    all_goals first | (iterate 13 rw [uG_ne (by omega)]) | (simp [uG])
  unfold PX9_node PX9_node_0
  rw [hi]
  exact fun _ => ⟨fun _ => put, fun z => absurd h1 z⟩
-- behind a FAULT: some node
theorem sX9_node_any {k f : Int} (hn : NC G) (hQ : ∀ v G', 14 ≤ v → v < 814 → FP G G' → (∀ j, j ≠ 14 → G' 7 j = G 7 j) → Q v G') : PX9_node k f G Q := by
  by_cases h : G 7 14 < 800
  · exact sX9_node rfl hn.1 h (fun G' hN => hQ _ G' (by have := hn.1; omega) (by omega) (NN_FP hN hn.1 h) (fun j hj => hN.2.2.2.2.2.2.2.2.2.2.2.2.2 7 j (by have := hn.1; omega) (by omega)))
  · unfold PX9_node PX9_node_0
    refine fun _ => ⟨fun z => absurd z h, fun _ => ⟨by unfold inI; omega, fun G4 e4 => ?_⟩⟩
    have f4 : FP G G4 := by
      rw [e4]
      exact ⟨fun c j a b => uG_ne (by omega), fun _ => by unfold NC; rw [uG_at]; omega⟩
    have i4 : G4 7 14 = 799 := by rw [e4, uG_at]; rfl
    have hp : PX9_node k f G4 Q := sX9_node i4 (by omega) (by omega) (fun G' hN => hQ _ G' (by omega) (by omega) (FP_tr f4 (NN_FP hN (by omega) (by omega))) (fun j hj => by rw [hN.2.2.2.2.2.2.2.2.2.2.2.2.2 7 j (by omega) (by omega), e4, uG_j hj]))
    unfold PX9_node PX9_node_0 at hp
    rw [i4] at hp
    exact (hp ⟨by omega, by omega⟩).1 (by omega)
end CP2

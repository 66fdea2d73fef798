section WD2
variable {G : gS} {Q : Int → gS → Prop}
/-- p is the package of a class's NAME in the reference -/
def PkR (v p : Int) : Prop := ∀ (G : gS) (Q : Int → gS → Prop), Q p G → PX13_pack v G Q
theorem ronePackage_ok {a b p p' : Int} (ha : 0 ≤ a ∧ a < 216) (hb : 0 ≤ b ∧ b < 216) (h1 : PkR (G 16098 a) p) (h2 : PkR (G 16098 b) p') (hy : p = p' → Q 1 G) (hn : p ≠ p' → Q 0 G) : PX13_onePackage a b G Q := by
  unfold PX13_onePackage PX13_onePackage_0 PX13_onePackage_26
  refine ⟨ha.1, ha.2, fun _ => h1 G _ (fun _ => ⟨hb.1, hb.2, fun _ => h2 G _ (fun _ => ⟨fun z => ⟨by omega, hy z⟩, fun z => ⟨by omega, hn z⟩⟩)⟩)⟩
theorem risLet_ok {a b p p' : Int} (ha : 0 ≤ a ∧ a < 216) (hb : 0 ≤ b ∧ b < 216) (h1 : PkR (G 16098 a) p) (h2 : PkR (G 16098 b) p') (hy : G 16100 a ≠ 0 ∨ p = p' → Q 1 G) (hn : ¬ (G 16100 a ≠ 0 ∨ p = p') → Q 0 G) : PX13_isLet a b G Q := by
  unfold PX13_isLet PX13_isLet_0 PX13_isLet_18 PX13_isLet_23
  refine ⟨ha.1, ha.2, fun _ => ⟨fun z => ronePackage_ok ha hb h1 h2 (fun e => fun _ => ⟨fun u => absurd u (by decide), fun _ => ⟨by omega, hy (Or.inr e)⟩⟩) (fun e => fun _ => ⟨fun _ => ⟨by omega, hn (fun u => u.elim (fun w => w z) e)⟩, fun u => absurd rfl u⟩), fun z => ⟨by omega, hy (Or.inl z)⟩⟩⟩
/-- a may be told as b's parent by what a lets -/
def LtR (G : gS) (a b p p' : Int) : Prop := (G 16100 a ≠ 0 ∨ p = p') ∧ (G 16114 a = 0 ∨ ∃ j, 0 ≤ j ∧ j < G 16114 a ∧ G 16112 (8 * a + j) = G 16098 b)
theorem rletsBelow_ok {a b p p' : Int} (ha : 0 ≤ a ∧ a < 216) (hb : 0 ≤ b ∧ b < 216) (h1 : PkR (G 16098 a) p) (h2 : PkR (G 16098 b) p') (h3 : 0 ≤ G 16114 a ∧ G 16114 a ≤ 8) (hy : LtR G a b p p' → Q 1 G) (hn : ¬ LtR G a b p p' → Q 0 G) : PX13_letsBelow a b G Q := by
  unfold PX13_letsBelow PX13_letsBelow_0 PX13_letsBelow_44 PX13_letsBelow_48 PX13_letsBelow_49
  refine risLet_ok ha hb h1 h2 (fun e => fun _ => ⟨fun u => absurd u (by decide), fun _ => ⟨ha.1, ha.2, fun _ => ⟨fun z => ⟨by omega, hy ⟨e, Or.inl z⟩⟩, fun z => ⟨ha.1, ha.2, fun _ => ⟨hb.1, hb.2, fun _ => ⟨by unfold inI; omega, ?_⟩⟩⟩⟩⟩⟩) (fun e => fun _ => ⟨fun _ => ⟨by omega, hn (fun u => e u.1)⟩, fun u => absurd rfl u⟩)
  refine rstands_ok aC16112 (by omega) h3.1 (fun v hv => fun _ => ?_)
  rcases hv with ⟨e1, e2⟩ | ⟨e1, e2⟩
  · subst e1
    exact ⟨fun u => absurd u (by decide), fun _ => ⟨by omega, hy ⟨e, Or.inr e2⟩⟩⟩
  · subst e1
    refine ⟨fun _ => ⟨by omega, hn (fun u => ?_)⟩, fun u => absurd rfl u⟩
    rcases u.2 with y | ⟨j, j0, j1, j2⟩
    · exact z y
    · exact e2 j j0 j1 j2
-- the class's side
theorem chas_loop {o w nm : Int} (ho : isO W0 10 o) (hw : 0 ≤ w ∧ w < 3) (hc : 0 ≤ G (o + 2) w ∧ G (o + 2) w ≤ 8) (hy : (∃ j, 0 ≤ j ∧ j < G (o + 2) w ∧ G (o + 1) (w * 8 + j) = nm) → Q 1 G) (hn : (∀ j, 0 ≤ j → j < G (o + 2) w → G (o + 1) (w * 8 + j) ≠ nm) → Q 0 G) : ∀ (f F : Nat) (k : Int), f + k = 9 → f + 2 ≤ F → 0 ≤ k → (∀ j, 0 ≤ j → j < k → j < G (o + 2) w → G (o + 1) (w * 8 + j) ≠ nm) → PX10_has_3 (PX10_has_J F) o w nm k G Q
  | 0, F, k, h1, _, _, hp => by
    unfold PX10_has_3
    exact ⟨ho, hw.1, hw.2, fun _ => ⟨fun z => by omega, fun _ => hn (fun j j0 j1 => hp j j0 (by omega) j1)⟩⟩
  | f + 1, F, k, hf, hF, hk, hp => by
    obtain ⟨F', rfl⟩ : ∃ F', F = F' + 1 := ⟨F - 1, by omega⟩
    unfold PX10_has_3
    refine ⟨ho, hw.1, hw.2, fun _ => ⟨fun z => ⟨by omega, by omega, fun _ => ⟨fun y => hy ⟨k, hk, z, y⟩, fun y => ⟨by unfold inI; omega, ?_⟩⟩⟩, fun z => hn (fun j j0 j1 => hp j j0 (by omega) j1)⟩⟩
    show PX10_has_3 (PX10_has_J F') o w nm (k + 1) G Q
    refine chas_loop ho hw hc hy hn f F' (k + 1) (by omega) (by omega) (by omega) (fun j j0 j1 j2 => ?_)
    by_cases e : j = k
    · rw [e]; exact y
    · exact hp j j0 (by omega) j2
theorem chas_ok {o w nm : Int} (ho : isO W0 10 o) (hw : 0 ≤ w ∧ w < 3) (hc : 0 ≤ G (o + 2) w ∧ G (o + 2) w ≤ 8) (hy : (∃ j, 0 ≤ j ∧ j < G (o + 2) w ∧ G (o + 1) (w * 8 + j) = nm) → Q 1 G) (hn : (∀ j, 0 ≤ j → j < G (o + 2) w → G (o + 1) (w * 8 + j) ≠ nm) → Q 0 G) : PX10_has o w nm G Q := by
  refine ⟨100, by omega, ?_⟩
  unfold PX10_has_0
  exact chas_loop ho hw hc hy hn 9 100 0 (by omega) (by omega) (by omega) (fun j j0 j1 => by omega)
/-- the row i of the class's world lets b stand below it -/
def LtC (G : gS) (o i b : Int) : Prop := (G (G (o + 1) i) 3 ≠ 0 ∨ cpk (G (G (o + 1) i) 1) = cpk (G b 1)) ∧ (G (G (o + 1) i + 2) 2 = 0 ∨ ∃ j, 0 ≤ j ∧ j < G (G (o + 1) i + 2) 2 ∧ G (G (o + 1) i + 1) (2 * 8 + j) = G b 1)
theorem cbarred_ok {i b : Int} (hW : WsC G (G 814 0)) (hi : 0 ≤ i ∧ i < G (G 814 0) 2) (hb : isO W0 10 b) (hc : 0 ≤ G (G (G 814 0 + 1) i + 2) 2 ∧ G (G (G 814 0 + 1) i + 2) 2 ≤ 8) (hy : ¬ LtC G (G 814 0) i b → Q 1 G) (hn : LtC G (G 814 0) i b → Q 0 G) : PX4_barred i b G Q := by
  obtain ⟨w1, w2, w3, w4⟩ := hW
  have hr := w4 i hi.1 hi.2
  unfold PX4_barred PX4_barred_0 PX4_barred_56 PX4_barred_61
  have only : (G (G (G 814 0 + 1) i) 3 ≠ 0 ∨ cpk (G (G (G 814 0 + 1) i) 1) = cpk (G b 1)) → PX4_barred_35 i b (G (G 814 0 + 1) i) G Q := fun h => by
    unfold PX4_barred_35 PX4_barred_56 PX4_barred_60 PX4_barred_61
    refine ⟨hr, by omega, by omega, fun _ => ⟨fun z => ⟨hb, fun _ => chas_ok hr (by omega) hc (fun e => fun _ => ⟨fun u => absurd u (by decide), fun _ => ⟨by omega, hn ⟨h, Or.inr e⟩⟩⟩) (fun e => fun _ => ⟨fun _ => ⟨by omega, hy (fun u => ?_)⟩, fun u => absurd rfl u⟩)⟩, fun z => ⟨by omega, hn ⟨h, Or.inl (by omega)⟩⟩⟩⟩
    rcases u.2 with y | ⟨j, j0, j1, j2⟩
    · omega
    · exact e j j0 j1 j2
  refine fun _ => ⟨w1, hi.1, by omega, fun _ => ⟨hr, fun _ => ⟨fun z => fun _ => fun _ => ⟨hb, fun _ => fun _ => ⟨fun y => only (Or.inr y), fun y => ⟨by omega, hy (fun u => u.1.elim (fun v => v z) y)⟩⟩⟩, fun z => only (Or.inl z)⟩⟩⟩
end WD2

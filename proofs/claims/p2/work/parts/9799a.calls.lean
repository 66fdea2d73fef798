section TPC
-- feed(), cut() of both in one: of an invariant only that it holds a tape, and looks at nothing else of it
def FTP (G G' : gS) : Prop := ∀ c j, ¬ (c = 0 ∧ j = 1) → c ≠ 1 → ¬ (c = 16081 ∧ j = 1) → c ≠ 16082 → G' c j = G c j
theorem feed_both {G : gS} {n a b c d e : Int} (hT : TP G n) : PX12_feed a b c d e G (fun v1 G1 => PX13_feed a b c d e G1 (fun v2 G2 => v1 = v2 ∧ ∃ n', TP G2 n' ∧ FTP G G2)) := by
  obtain ⟨t1, t2, t3, t4, t5⟩ := hT
  refine sX12_feed t1 t3 t4 (fun q => sX13_feed t2 t3 t4 (fun _ => ⟨rfl, n, ⟨t1, t2, t3, t4, t5⟩, fun _ _ _ _ _ _ => rfl⟩) (fun G' q2 => absurd q q2)) (fun G1 q l1 f1 v1 => ?_)
  have m1 : G1 16081 1 = n := by rw [f1 _ _ (by omega) (by omega)]; exact t2
  refine sX13_feed m1 t3 t4 (fun q2 => absurd q2 q) (fun G2 _ l2 f2 v2 => ⟨rfl, n + 20, ⟨?_, l2, by omega, by omega, fun i x y => ?_⟩, fun c j x1 x2 x3 x4 => ?_⟩)
  · rw [f2 _ _ (by omega) (by omega)]; exact l1
  · rw [f2 1 i (by omega) (by omega)]
    by_cases z : i < n
    · rw [f1 1 i (by omega) (by omega), f2 16082 i (by omega) (by omega), f1 16082 i (by omega) (by omega)]
      exact t5 i x z
    · have key : ∀ k, 0 ≤ k → k < 4 → (i = n + k ∨ i = n + 4 + k ∨ i = n + 8 + k ∨ i = n + 12 + k ∨ i = n + 16 + k) → -128 ≤ G1 1 i ∧ G1 1 i < 128 ∧ G2 16082 i = G1 1 i % 256 := fun k k0 k1 hk => by
        obtain ⟨a1, a2, a3, a4, a5⟩ := v1 k k0 k1
        obtain ⟨b1, b2, b3, b4, b5⟩ := v2 k k0 k1
        rcases hk with hk | hk | hk | hk | hk <;> rw [hk]
        · rw [a1, b1, b8_m]; exact ⟨(b8_b _).1, (b8_b _).2, rfl⟩
        · rw [a2, b2, b8_m]; exact ⟨(b8_b _).1, (b8_b _).2, rfl⟩
        · rw [a3, b3, b8_m]; exact ⟨(b8_b _).1, (b8_b _).2, rfl⟩
        · rw [a4, b4, b8_m]; exact ⟨(b8_b _).1, (b8_b _).2, rfl⟩
        · rw [a5, b5, b8_m]; exact ⟨(b8_b _).1, (b8_b _).2, rfl⟩
      exact key ((i - n) % 4) (by omega) (by omega) (by omega)
  · rw [f2 c j (by omega) (by omega), f1 c j (by omega) (by omega)]
theorem cut_both {G : gS} {n a : Int} (hT : TP G n) : PX12_cut a G (fun v1 G1 => PX13_cut a G1 (fun v2 G2 => v1 = v2 ∧ ∃ n', TP G2 n' ∧ FTP G G2)) := by
  obtain ⟨t1, t2, t3, t4, t5⟩ := hT
  refine sX12_cut t1 t3 t4 (fun q => sX13_cut t2 t3 t4 (fun _ => ⟨rfl, n, ⟨t1, t2, t3, t4, t5⟩, fun _ _ _ _ _ _ => rfl⟩) (fun _ _ => by omega)) (fun q1 q2 => ?_)
  have m1 : uG G 0 1 (n - a) 16081 1 = n := by rw [uG_c (by decide)]; exact t2
  refine sX13_cut m1 t3 t4 (fun q => by omega) (fun _ _ => ⟨rfl, n - a, ⟨by rw [uG_c (by decide), uG_at], uG_at _ _ _ _, by omega, by omega, fun i x y => ?_⟩, fun c j x1 x2 x3 x4 => ?_⟩)
  · rw [uG_c (by decide), uG_c (by decide), uG_c (by decide), uG_c (by decide)]
    exact t5 i x (by omega)
  · rw [uG_ne (by omega), uG_ne (by omega)]
variable {I : gS → Prop}
theorem call0_of (hT : ∀ G, I G → ∃ n, TP G n) (hI : ∀ G G' n', I G → TP G' n' → FTP G G' → I G') : call0 I := by
  intro sc xs hx i h0 h6 G hG
  obtain ⟨n, hn⟩ := hT G hG
  have i1 := (hx (i + 1) (by omega) (by omega)).2
  have i2 := (hx (i + 2) (by omega) (by omega)).2
  have i3 := (hx (i + 3) (by omega) (by omega)).2
  have i4 := (hx (i + 4) (by omega) (by omega)).2
  have i5 := (hx (i + 5) (by omega) (by omega)).2
  refine Tn_w (TX12_feed (G := G) i1 i2 i3 i4 i5 (feed_both hn)) fun r1 G1 ⟨v1, e1, n1, h1⟩ => ⟨v1, e1, n1, ?_⟩
  refine Tn_w (TX13_feed (G := G1) i1 i2 i3 i4 i5 h1) fun r2 G2 ⟨v2, e2, n2, h2, n', h3, h4⟩ => ⟨v2, e2, n2, h2, hI G G2 n' hG h3 h4⟩
theorem call1_of (hT : ∀ G, I G → ∃ n, TP G n) (hI : ∀ G G' n', I G → TP G' n' → FTP G G' → I G') : call1 I := by
  intro sc xs hx i h0 h6 G hG
  obtain ⟨n, hn⟩ := hT G hG
  have i1 := (hx (i + 1) (by omega) (by omega)).2
  refine Tn_w (TX12_cut (G := G) i1 (cut_both hn)) fun r1 G1 ⟨v1, e1, n1, h1⟩ => ⟨v1, e1, n1, ?_⟩
  refine Tn_w (TX13_cut (G := G1) i1 h1) fun r2 G2 ⟨v2, e2, n2, h2, n', h3, h4⟩ => ⟨v2, e2, n2, hI G G2 n' hG h3 h4⟩
end TPC

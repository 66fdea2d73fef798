section TPE
-- THE TAPE of both: n bytes
def TP (G : gS) (n : Int) : Prop := G 0 1 = n ∧ G 16081 1 = n ∧ 0 ≤ n ∧ n ≤ 4000 ∧ ∀ i, 0 ≤ i → i < n → -128 ≤ G 1 i ∧ G 1 i < 128 ∧ G 16082 i = G 1 i % 256
theorem b8_b (x : Int) : -128 ≤ b8 x ∧ b8 x < 128 := by unfold b8; omega
theorem b8_m (x : Int) : b8 (b8 x) % 256 = x % 256 := by unfold b8; omega
theorem iand_m (x : Int) : iand x 255 = x % 256 := by
  unfold iand
  have e : Int32.ofInt x &&& Int32.ofInt 255 = Int32.ofInt (x % 256) := by
    apply Int32.toBitVec_inj.mp
    apply BitVec.eq_of_toNat_eq
    show (BitVec.ofInt 32 x &&& BitVec.ofInt 32 255).toNat = (BitVec.ofInt 32 (x % 256)).toNat
    rw [BitVec.toNat_and, BitVec.toNat_ofInt, BitVec.toNat_ofInt, BitVec.toNat_ofInt]
    show (x % 4294967296).toNat &&& (2 ^ 8 - 1) = _
    rw [Nat.and_two_pow_sub_one_eq_mod]
    show (x % 4294967296).toNat % 256 = (x % 256 % 4294967296).toNat
    omega
  rw [e, ti_I ⟨by omega, by omega⟩]
variable {G : gS} {Q : Int → gS → Prop} {n : Int}
theorem sX12_fourBytes {a : Int} (h : G 0 1 = n) (h0 : 0 ≤ n) (h1 : n + 4 ≤ 4000) (hQ : ∀ G', G' 0 1 = n + 4 → (∀ c j, ¬ (c = 0 ∧ j = 1) → ¬ (c = 1 ∧ n ≤ j ∧ j < n + 4) → G' c j = G c j) → (∀ k, 0 ≤ k → k < 4 → G' 1 (n + k) = b8 (b8 (iush a (24 - 8 * k)))) → Q 0 G') : PX12_fourBytes a G Q := by
  refine ⟨4000000000, Nat.le_refl _, ?_⟩
  show PX12_fourBytes_3 (PX12_fourBytes_J 4000000000) a 24 G Q
  refine lpB (B := BX12_fourBytes) (PJ := PX12_fourBytes_J) (fun _ _ _ _ _ => rfl) (fun m h L G' => h = 0 ∧ ∃ k : Int, L = [a, 24 - 8 * k] ∧ 0 ≤ k ∧ k ≤ 4 ∧ G' 0 1 = n + k ∧ (∀ c j, ¬ (c = 0 ∧ j = 1) → ¬ (c = 1 ∧ n ≤ j ∧ j < n + 4) → G' c j = G c j) ∧ (∀ i, 0 ≤ i → i < k → G' 1 (n + i) = b8 (b8 (iush a (24 - 8 * i)))) ∧ (m : Int) = 4 - k) ?_ 4000000000 4 0 [a, 24] G (by omega) ⟨rfl, 0, rfl, by omega, by omega, by omega, fun c j _ _ => rfl, fun i a b => by omega, by omega⟩
  rintro J m h L G' ⟨rfl, k, rfl, i1, i2, i3, i4, i5, i6⟩ hj
  show PX12_fourBytes_3 J a (24 - 8 * k) G' Q
  unfold PX12_fourBytes_3 PX12_fourBytes_46
  rw [i3]
  refine ⟨fun z => hQ G' (by omega) i4 (fun i x y => i5 i x (by omega)), fun z => fun _ => ⟨fun y => fun _ => fun _ => ⟨by omega, by omega, fun G1 e1 => ?_⟩, fun y => by omega⟩⟩
  have d1 : G1 0 1 = n + k := by rw [e1, uG_c (by decide)]; exact i3
  rw [d1]
  refine fun _ => ⟨by unfold inI; omega, fun G2 e2 => ⟨by unfold inI; omega, ?_⟩⟩
  refine hj (m - 1) 0 _ _ (by omega) ⟨rfl, k + 1, by rw [show 24 - 8 * k + (-8) = 24 - 8 * (k + 1) by omega], by omega, by omega, by rw [e2, uG_at]; omega, fun c j x y => ?_, fun i x y => ?_, by omega⟩
  · rw [e2, e1, uG_ne (by omega), uG_ne (by omega)]; exact i4 c j x y
  · rcases (show i < k ∨ i = k by omega) with w | w
    · rw [e2, e1, uG_c (by decide), uG_ne (by omega)]; exact i5 i x w
    · rw [e2, e1, uG_c (by decide), w, uG_at]
theorem sX13_four {a : Int} (h : G 16081 1 = n) (h0 : 0 ≤ n) (h1 : n + 4 ≤ 4000) (hQ : ∀ G', G' 16081 1 = n + 4 → (∀ c j, ¬ (c = 16081 ∧ j = 1) → ¬ (c = 16082 ∧ n ≤ j ∧ j < n + 4) → G' c j = G c j) → (∀ k, 0 ≤ k → k < 4 → G' 16082 (n + k) = iush a (24 - 8 * k) % 256) → Q 0 G') : PX13_four a G Q := by
  refine ⟨4000000000, Nat.le_refl _, ?_⟩
  show PX13_four_3 (PX13_four_J 4000000000) a 24 G Q
  refine lpB (B := BX13_four) (PJ := PX13_four_J) (fun _ _ _ _ _ => rfl) (fun m h L G' => h = 0 ∧ ∃ k : Int, L = [a, 24 - 8 * k] ∧ 0 ≤ k ∧ k ≤ 4 ∧ G' 16081 1 = n + k ∧ (∀ c j, ¬ (c = 16081 ∧ j = 1) → ¬ (c = 16082 ∧ n ≤ j ∧ j < n + 4) → G' c j = G c j) ∧ (∀ i, 0 ≤ i → i < k → G' 16082 (n + i) = iush a (24 - 8 * i) % 256) ∧ (m : Int) = 4 - k) ?_ 4000000000 4 0 [a, 24] G (by omega) ⟨rfl, 0, rfl, by omega, by omega, by omega, fun c j _ _ => rfl, fun i a b => by omega, by omega⟩
  rintro J m h L G' ⟨rfl, k, rfl, i1, i2, i3, i4, i5, i6⟩ hj
  show PX13_four_3 J a (24 - 8 * k) G' Q
  unfold PX13_four_3
  rw [i3, iand_m]
  refine ⟨fun z => hQ G' (by omega) i4 (fun i x y => i5 i x (by omega)), fun z => fun _ => fun _ => fun _ => ⟨by omega, by omega, fun G1 e1 => ?_⟩⟩
  have d1 : G1 16081 1 = n + k := by rw [e1, uG_c (by decide)]; exact i3
  rw [d1]
  refine fun _ => ⟨by unfold inI; omega, fun G2 e2 => ⟨by unfold inI; omega, ?_⟩⟩
  refine hj (m - 1) 0 _ _ (by omega) ⟨rfl, k + 1, by rw [show 24 - 8 * k + (-8) = 24 - 8 * (k + 1) by omega], by omega, by omega, by rw [e2, uG_at]; omega, fun c j x y => ?_, fun i x y => ?_, by omega⟩
  · rw [e2, e1, uG_ne (by omega), uG_ne (by omega)]; exact i4 c j x y
  · rcases (show i < k ∨ i = k by omega) with w | w
    · rw [e2, e1, uG_c (by decide), uG_ne (by omega)]; exact i5 i x w
    · rw [e2, e1, uG_c (by decide), w, uG_at]
-- feed() of both
theorem sX12_feed {a b c d e : Int} (h : G 0 1 = n) (h0 : 0 ≤ n) (h1 : n ≤ 4000) (hF : 4000 < n + 20 → Q (-3) G) (hQ : ∀ G', ¬ 4000 < n + 20 → G' 0 1 = n + 20 → (∀ c j, ¬ (c = 0 ∧ j = 1) → ¬ (c = 1 ∧ n ≤ j ∧ j < n + 20) → G' c j = G c j) → (∀ k, 0 ≤ k → k < 4 → G' 1 (n + k) = b8 (b8 (iush a (24 - 8 * k))) ∧ G' 1 (n + 4 + k) = b8 (b8 (iush b (24 - 8 * k))) ∧ G' 1 (n + 8 + k) = b8 (b8 (iush c (24 - 8 * k))) ∧ G' 1 (n + 12 + k) = b8 (b8 (iush d (24 - 8 * k))) ∧ G' 1 (n + 16 + k) = b8 (b8 (iush e (24 - 8 * k)))) → Q (n + 20) G') : PX12_feed a b c d e G Q := by
  unfold PX12_feed PX12_feed_0
  rw [h]
  refine fun _ => ⟨by unfold inI; omega, hF, fun q => ?_⟩
  refine sX12_fourBytes h h0 (by omega) (fun G1 l1 f1 v1 => sX12_fourBytes l1 (by omega) (by omega) (fun G2 l2 f2 v2 => sX12_fourBytes l2 (by omega) (by omega) (fun G3 l3 f3 v3 => sX12_fourBytes l3 (by omega) (by omega) (fun G4 l4 f4 v4 => sX12_fourBytes l4 (by omega) (by omega) (fun G5 l5 f5 v5 => ?_)))))
  rw [l5]
  intro _
  rw [show n + 4 + 4 + 4 + 4 + 4 = n + 20 by omega]
  refine hQ G5 q (by rw [l5]; omega) (fun c j x y => ?_) (fun k x y => ⟨?_, ?_, ?_, ?_, ?_⟩)
  · rw [f5 c j x (by omega), f4 c j x (by omega), f3 c j x (by omega), f2 c j x (by omega), f1 c j x (by omega)]
  · rw [f5 _ _ (by omega) (by omega), f4 _ _ (by omega) (by omega), f3 _ _ (by omega) (by omega), f2 _ _ (by omega) (by omega)]; exact v1 k x y
  · rw [f5 _ _ (by omega) (by omega), f4 _ _ (by omega) (by omega), f3 _ _ (by omega) (by omega)]; exact v2 k x y
  · rw [f5 _ _ (by omega) (by omega), f4 _ _ (by omega) (by omega), show n + 8 + k = n + 4 + 4 + k by omega]; exact v3 k x y
  · rw [f5 _ _ (by omega) (by omega), show n + 12 + k = n + 4 + 4 + 4 + k by omega]; exact v4 k x y
  · rw [show n + 16 + k = n + 4 + 4 + 4 + 4 + k by omega]; exact v5 k x y
theorem sX13_feed {a b c d e : Int} (h : G 16081 1 = n) (h0 : 0 ≤ n) (h1 : n ≤ 4000) (hF : 4000 < n + 20 → Q (-3) G) (hQ : ∀ G', ¬ 4000 < n + 20 → G' 16081 1 = n + 20 → (∀ c j, ¬ (c = 16081 ∧ j = 1) → ¬ (c = 16082 ∧ n ≤ j ∧ j < n + 20) → G' c j = G c j) → (∀ k, 0 ≤ k → k < 4 → G' 16082 (n + k) = iush a (24 - 8 * k) % 256 ∧ G' 16082 (n + 4 + k) = iush b (24 - 8 * k) % 256 ∧ G' 16082 (n + 8 + k) = iush c (24 - 8 * k) % 256 ∧ G' 16082 (n + 12 + k) = iush d (24 - 8 * k) % 256 ∧ G' 16082 (n + 16 + k) = iush e (24 - 8 * k) % 256) → Q (n + 20) G') : PX13_feed a b c d e G Q := by
  unfold PX13_feed PX13_feed_0
  rw [h]
  refine fun _ => ⟨by unfold inI; omega, hF, fun q => ?_⟩
  refine sX13_four h h0 (by omega) (fun G1 l1 f1 v1 => sX13_four l1 (by omega) (by omega) (fun G2 l2 f2 v2 => sX13_four l2 (by omega) (by omega) (fun G3 l3 f3 v3 => sX13_four l3 (by omega) (by omega) (fun G4 l4 f4 v4 => sX13_four l4 (by omega) (by omega) (fun G5 l5 f5 v5 => ?_)))))
  rw [l5]
  intro _
  rw [show n + 4 + 4 + 4 + 4 + 4 = n + 20 by omega]
  refine hQ G5 q (by rw [l5]; omega) (fun c j x y => ?_) (fun k x y => ⟨?_, ?_, ?_, ?_, ?_⟩)
  · rw [f5 c j x (by omega), f4 c j x (by omega), f3 c j x (by omega), f2 c j x (by omega), f1 c j x (by omega)]
  · rw [f5 _ _ (by omega) (by omega), f4 _ _ (by omega) (by omega), f3 _ _ (by omega) (by omega), f2 _ _ (by omega) (by omega)]; exact v1 k x y
  · rw [f5 _ _ (by omega) (by omega), f4 _ _ (by omega) (by omega), f3 _ _ (by omega) (by omega)]; exact v2 k x y
  · rw [f5 _ _ (by omega) (by omega), f4 _ _ (by omega) (by omega), show n + 8 + k = n + 4 + 4 + k by omega]; exact v3 k x y
  · rw [f5 _ _ (by omega) (by omega), show n + 12 + k = n + 4 + 4 + 4 + k by omega]; exact v4 k x y
  · rw [show n + 16 + k = n + 4 + 4 + 4 + 4 + k by omega]; exact v5 k x y
theorem sX12_cut {a : Int} (h : G 0 1 = n) (h0 : 0 ≤ n) (h1 : n ≤ 4000) (hB : (a < 0 ∨ n < a) → Q (-1) G) (hQ : 0 ≤ a → a ≤ n → Q (n - a) (uG G 0 1 (n - a))) : PX12_cut a G Q := by
  unfold PX12_cut PX12_cut_0 PX12_cut_12
  rw [h]
  refine ⟨fun q => hB (Or.inl q), fun q => fun _ => ⟨fun y => hB (Or.inr y), fun y => fun _ => ⟨by unfold inI; omega, fun G1 e1 => ?_⟩⟩⟩
  rw [e1, uG_at]
  exact fun _ => hQ (by omega) (by omega)
theorem sX13_cut {a : Int} (h : G 16081 1 = n) (h0 : 0 ≤ n) (h1 : n ≤ 4000) (hB : (a < 0 ∨ n < a) → Q (-1) G) (hQ : 0 ≤ a → a ≤ n → Q (n - a) (uG G 16081 1 (n - a))) : PX13_cut a G Q := by
  unfold PX13_cut PX13_cut_0 PX13_cut_12
  rw [h]
  refine ⟨fun q => hB (Or.inl q), fun q => fun _ => ⟨fun y => hB (Or.inr y), fun y => fun _ => ⟨by unfold inI; omega, fun G1 e1 => ?_⟩⟩⟩
  rw [e1, uG_at]
  exact fun _ => hQ (by omega) (by omega)
end TPE

section LZ
-- names: letters as digits behind a start
def gv (p : Int) (t : Int → Int) (i : Int) : Nat → Int
  | 0 => p
  | k + 1 => 64 * gv p t i k + sy (t (i + k))
theorem gv_b {p : Int} (hp : 0 ≤ p) (t : Int → Int) (i : Int) : ∀ k : Nat, 0 ≤ gv p t i k ∧ gv p t i k < (p + 1) * 64 ^ k
  | 0 => by unfold gv; omega
  | k + 1 => by
    have ih := gv_b hp t i k
    have h := sy_b (t (i + k))
    unfold gv
    rw [Int.pow_succ, ← Int.mul_assoc]
    omega
theorem p64 : ∀ k : Nat, k < 10 → (64 : Int) ^ k ≤ 18014398509481984 := by decide
theorem gv_s {p : Int} (hp : 0 ≤ p) (hp2 : p ≤ 26) (t : Int → Int) (i : Int) {k : Nat} (hk : k < 10) : 0 ≤ gv p t i k ∧ gv p t i k < 486388759756013568 := by
  have h := gv_b hp t i k
  have h2 := p64 k hk
  have h3 : (p + 1) * 64 ^ k ≤ 27 * 18014398509481984 := Int.mul_le_mul (by omega) h2 (Int.pow_nonneg (by omega)) (by omega)
  omega
theorem shl6 {v : Int} (h0 : 0 ≤ v) (h1 : v < 144115188075855872) : lshl v 6 = 64 * v := by
  refine U_inj (in_xL _) (by unfold inL; omega) ?_
  rw [U_lshl (by omega) (by omega), U_id h0 (by omega), U_id (by omega) (by omega)]
  show v * 2 ^ 6 % _ = _
  omega
theorem lor_comm (a b : Int) : lor a b = lor b a := by
  unfold lor
  congr 1
  apply Int64.toBitVec_inj.mp
  rw [Int64.toBitVec_or, Int64.toBitVec_or, BitVec.or_comm]
theorem lor6 {v s : Int} (h0 : 0 ≤ v) (h1 : v < 144115188075855872) (hs : 0 ≤ s ∧ s < 64) : lor (64 * v) s = 64 * v + s := by
  refine U_inj (in_xL _) (by unfold inL; omega) ?_
  rw [U_lor (k := 6) (m := v.toNat) (by rw [U_id (by omega) (by omega), Int.toNat_of_nonneg h0]; rfl) (by rw [U_id (by omega) (by omega)]; omega), U_id (x := 64 * v) (by omega) (by omega), U_id (x := s) (by omega) (by omega), U_id (by omega) (by omega)]
theorem lor61 {v : Int} (h0 : 0 ≤ v) (h1 : v < 2305843009213693952) : lor v 2305843009213693952 = v + 2305843009213693952 := by
  refine U_inj (in_xL _) (by unfold inL; omega) ?_
  rw [lor_comm, U_lor (k := 61) (m := 1) (by rw [U_id (by omega) (by omega)]; rfl) (by rw [U_id (by omega) (by omega)]; exact h1), U_id (x := v) (by omega) (by omega), U_id (by omega) (by omega), U_id (by omega) (by omega)]
  omega
-- the words: as the reference has them, as the class has them
noncomputable def rwds : List Nat := [53482707, 1577157, 83, 595, 590, 6067464, 3990297, 3998030, 45646, 62926, 103080012, 529541, 20736983619, 324015252, 5829188, 57687, 37780, 49492, 582, 1361093, 388010757, 19416568974, 337716183, 83097, 50675912, 62804, 3756812, 5276243, 324338002, 5323]
noncomputable def cwds : List Nat := [39412220857155584, 90367005261037568, 5348024557502464, 149463212633358336, 148055837749805056, 398938552685035520, 256196723351748608, 256728131065348096, 182738832536371200, 258737076248248320, 92666921593339904, 18375381920776192, 329894454854942720, 329894329176817664, 382564350646288384, 235695710576574464, 148143798680027136, 199653719418077184, 145804037936119808, 75519200239550464, 398608979443318784, 307741573146214400, 344605591819255808, 347450072423727104, 36398447674261504, 258200514573893632, 240151756326043648, 344566259582500864, 330240879350513664, 5396403069124608]
noncomputable def rwd (w : Int) : Int := (rx_nth rwds w.toNat 0 : Nat)
noncomputable def cwd (w : Int) : Int := (rx_nth cwds w.toNat 0 : Nat)
def WR (G : gS) : Prop := G 16081 18 = 30 ∧ ∀ w, 0 ≤ w → w < 30 → G 16096 w = rwd w
def isw (v : Int) : Prop := ∃ w, 0 ≤ w ∧ w < 30 ∧ rwd w = v
variable {G : gS} {Q : Int → gS → Prop} {t : Int → Int} {s n : Int}
theorem sX13_isWord {v : Int} (hw : WR G) (h1 : isw v → Q 1 G) (h2 : ¬ isw v → Q 0 G) : PX13_isWord v G Q := by
  refine ⟨4000000000, Nat.le_refl _, ?_⟩
  refine lpB (B := BX13_isWord) (PJ := PX13_isWord_J) (fun _ _ _ _ _ => rfl) (fun m h L G' => h = 0 ∧ G' = G ∧ ∃ l : Int, L = [v, l] ∧ 0 ≤ l ∧ l ≤ 30 ∧ (m : Int) = 30 - l ∧ ∀ k, 0 ≤ k → k < l → rwd k ≠ v) ?_ 4000000000 30 0 [v, 0] G (by omega) ⟨rfl, rfl, 0, rfl, by omega, by omega, by omega, fun k _ _ => by omega⟩
  rintro J m h L G' ⟨rfl, e, l, rfl, i1, i2, i3, i4⟩ hj
  subst e
  show PX13_isWord_2 J v l _ Q
  unfold PX13_isWord_2
  rw [hw.1]
  refine fun _ => ⟨fun c => ⟨i1, by omega, fun _ => ?_⟩, fun c => h2 (fun ⟨w, w0, w1, w2⟩ => i4 w w0 (by omega) w2)⟩
  rw [hw.2 l i1 c]
  refine ⟨fun q => h1 ⟨l, i1, c, q⟩, fun q => ⟨by unfold inI; omega, ?_⟩⟩
  refine hj (m - 1) 0 _ _ (by omega) ⟨rfl, rfl, l + 1, rfl, by omega, by omega, by omega, fun k a b => ?_⟩
  rcases (show k < l ∨ k = l by omega) with q2 | q2
  · exact i4 k a q2
  · rw [q2]; exact q
end LZ

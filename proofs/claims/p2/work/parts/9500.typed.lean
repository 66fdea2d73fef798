section TG
-- TYPED: what a heap of codes holds, told in whole numbers: of an int, a byte, a boolean, a long the number, of a reference the cell, -1 for null
def cI (g : Int) : Nat := 8 * (g % 4294967296).toNat
def cL (g : Int) : Nat := 8 * (g % 18446744073709551616).toNat + 1
def rf (g : Int) : Nat := if g < 0 then 3 else 8 * g.toNat + 2
theorem cI_0 (g : Int) : cI g % 8 = 0 := by unfold cI; omega
theorem cL_1 (g : Int) : cL g % 8 = 1 := by unfold cL; omega
theorem rf_23 (g : Int) : rf g % 8 = 3 ∨ rf g % 8 = 2 := by unfold rf; split <;> omega
theorem rf_p {g : Int} (h : 0 ≤ g) : rf g = 8 * g.toNat + 2 := by unfold rf; rw [if_neg (by omega)]
theorem rf_n {g : Int} (h : g < 0) : rf g = 3 := by unfold rf; rw [if_pos h]
theorem n1_I (g : Int) : cI g % 8 ≠ 1 := by rw [cI_0]; decide
theorem n1_R (g : Int) : rf g % 8 ≠ 1 := by rcases rf_23 g with h | h <;> rw [h] <;> decide
theorem n7_I (g : Int) : cI g % 8 ≠ 7 := by rw [cI_0]; decide
theorem n7_L (g : Int) : cL g % 8 ≠ 7 := by rw [cL_1]; decide
theorem n7_R (g : Int) : rf g % 8 ≠ 7 := by rcases rf_23 g with h | h <;> rw [h] <;> decide
theorem is_I (g : Int) : rx_isI (cI g) = true := by unfold rx_isI; rw [cI_0]; rfl
theorem is_L (g : Int) : rx_isL (cL g) = true := by unfold rx_isL; rw [cL_1]; rfl
theorem is_R (g : Int) : rx_isR (rf g) = true := by unfold rx_isR; rcases rf_23 g with h | h <;> rw [h] <;> rfl
theorem ct_I (g : Int) : rx_ct (cI g) = 1 := by unfold rx_ct; rw [cI_0]; rfl
theorem ct_L (g : Int) : rx_ct (cL g) = 2 := by unfold rx_ct; rw [cL_1]; rfl
theorem ct_R (g : Int) : rx_ct (rf g) = 1 := by unfold rx_ct; rcases rf_23 g with h | h <;> rw [h] <;> rfl
theorem di_I (g : Int) : rx_di (cI g) = Int32.ofInt g := by
  apply Int32.toBitVec_inj.mp
  apply BitVec.eq_of_toNat_eq
  have e : cI g / 8 = (g % 4294967296).toNat := by unfold cI; omega
  unfold rx_di
  rw [e]
  show (BitVec.ofNat 32 _).toNat = (BitVec.ofInt 32 g).toNat
  rw [BitVec.toNat_ofNat, BitVec.toNat_ofInt]
  omega
theorem ei_I (g : Int) : rx_ei (Int32.ofInt g) = cI g := by
  unfold rx_ei cI
  congr 1
theorem dl_L (g : Int) : rx_dl (cL g) = Int64.ofInt g := by
  apply Int64.toBitVec_inj.mp
  apply BitVec.eq_of_toNat_eq
  have e : cL g / 8 = (g % 18446744073709551616).toNat := by unfold cL; omega
  unfold rx_dl
  rw [e]
  show (BitVec.ofNat 64 _).toNat = (BitVec.ofInt 64 g).toNat
  rw [BitVec.toNat_ofNat, BitVec.toNat_ofInt]
  omega
theorem el_L (g : Int) : rx_el (Int64.ofInt g) = cL g := by
  unfold rx_el cL
  congr 2
def inI (g : Int) : Prop := -2147483648 ≤ g ∧ g < 2147483648
def inL (g : Int) : Prop := -9223372036854775808 ≤ g ∧ g < 9223372036854775808
theorem of_I (x : Int32) : Int32.ofInt x.toInt = x := Int32.ofInt_toInt x
theorem eI (x : Int32) : rx_ei x = cI x.toInt := by rw [← ei_I, of_I]
theorem eL (x : Int64) : rx_el x = cL x.toInt := by rw [← el_L, Int64.ofInt_toInt]
theorem ti_I {g : Int} (h : inI g) : (Int32.ofInt g).toInt = g := by
  rw [Int32.toInt_ofInt]
  unfold inI at h
  show g.bmod 4294967296 = g
  rw [Int.bmod_def]
  split <;> omega
theorem tl_L {g : Int} (h : inL g) : (Int64.ofInt g).toInt = g := by
  rw [Int64.toInt_ofInt]
  unfold inL at h
  show g.bmod 18446744073709551616 = g
  rw [Int.bmod_def]
  split <;> omega
-- types of places: 0 int, 1 long, 2 byte, 3 boolean, 10 + class, 30 + row
noncomputable def fT (ci j : Nat) : Nat := rx_nth (rx_nth [[21, 11, 19, 0, 0, 20, 0, 17, 3, 31, 31, 0, 0, 35, 0, 30, 0], [0, 0, 34, 0, 35, 0, 32, 0, 30, 30, 30, 30, 31, 35, 31, 0, 30, 0], [11, 11, 3, 30, 0, 0, 0, 0, 30, 30], [21, 11, 20, 0, 17, 0, 0], [21, 11, 0, 0], [21, 30, 30, 30, 0, 30, 0, 30, 30, 30, 30, 17, 0, 1, 0, 30, 0, 30, 30, 35], [21, 15, 30, 0, 38, 0, 30, 0, 30, 30, 0, 30, 0, 30, 0, 30, 0, 0, 0, 0], [0, 0, 3, 3, 3, 3, 3, 1, 1, 0, 31, 0, 0, 0, 18, 3, 0, 0, 0], [0, 0, 0, 0, 0, 18, 18, 18, 18, 1, 1, 17], [31, 30, 30, 30, 31, 0, 32, 0, 0, 0, 0, 11, 0, 37, 0], [11, 1, 0, 3, 3, 3, 3, 3, 1, 1, 31, 30, 35, 0, 35, 0, 0, 0, 17, 0, 0], [11, 34, 0, 30, 30, 30, 30, 30, 30, 31, 30, 30, 30, 30, 30, 0, 35, 17, 0, 0], [32, 0, 32, 0, 36, 30, 30, 30, 19, 14, 10, 13, 0, 21, 21, 15, 15, 30, 0, 12, 16], [30, 0, 30, 0, 30, 32, 30, 30, 30, 30, 0, 30, 30, 30, 31, 30, 30, 31, 0, 0, 0, 0, 0, 30, 31, 30, 33, 30, 31, 30, 31, 30, 30, 31, 30, 31, 30, 30, 31, 30, 30, 30, 30, 30, 30, 33, 33, 33, 33, 33, 33, 31, 30, 31, 30, 30, 31, 30, 31, 30, 30, 30, 30, 30, 33, 30, 31, 30, 30, 30, 30, 30, 30, 30, 31, 31, 31, 30, 30, 30, 30, 30, 30, 31, 31, 30, 31, 30, 30, 0, 30, 0, 3, 30, 30, 0, 30, 30, 0, 30, 30, 0, 0, 30, 0, 30, 30, 30, 0, 0, 0, 3, 31, 31, 0, 30, 0, 30, 30, 30, 30, 31, 31, 31, 30, 31, 31, 30, 0, 0, 30, 30, 30, 30, 0, 30, 0, 0, 30, 0, 0, 30, 0, 30, 30, 0, 30, 30, 30, 30, 30, 0, 30, 0, 30, 0, 30, 30, 30, 30, 30, 0, 0, 0, 0, 0, 0, 0, 30, 0, 30, 0, 30, 0, 30, 0, 30, 30, 30, 30]] ci []) j 0
noncomputable def nF (ci : Nat) : Nat := (rx_nth [[21, 11, 19, 0, 0, 20, 0, 17, 3, 31, 31, 0, 0, 35, 0, 30, 0], [0, 0, 34, 0, 35, 0, 32, 0, 30, 30, 30, 30, 31, 35, 31, 0, 30, 0], [11, 11, 3, 30, 0, 0, 0, 0, 30, 30], [21, 11, 20, 0, 17, 0, 0], [21, 11, 0, 0], [21, 30, 30, 30, 0, 30, 0, 30, 30, 30, 30, 17, 0, 1, 0, 30, 0, 30, 30, 35], [21, 15, 30, 0, 38, 0, 30, 0, 30, 30, 0, 30, 0, 30, 0, 30, 0, 0, 0, 0], [0, 0, 3, 3, 3, 3, 3, 1, 1, 0, 31, 0, 0, 0, 18, 3, 0, 0, 0], [0, 0, 0, 0, 0, 18, 18, 18, 18, 1, 1, 17], [31, 30, 30, 30, 31, 0, 32, 0, 0, 0, 0, 11, 0, 37, 0], [11, 1, 0, 3, 3, 3, 3, 3, 1, 1, 31, 30, 35, 0, 35, 0, 0, 0, 17, 0, 0], [11, 34, 0, 30, 30, 30, 30, 30, 30, 31, 30, 30, 30, 30, 30, 0, 35, 17, 0, 0], [32, 0, 32, 0, 36, 30, 30, 30, 19, 14, 10, 13, 0, 21, 21, 15, 15, 30, 0, 12, 16], [30, 0, 30, 0, 30, 32, 30, 30, 30, 30, 0, 30, 30, 30, 31, 30, 30, 31, 0, 0, 0, 0, 0, 30, 31, 30, 33, 30, 31, 30, 31, 30, 30, 31, 30, 31, 30, 30, 31, 30, 30, 30, 30, 30, 30, 33, 33, 33, 33, 33, 33, 31, 30, 31, 30, 30, 31, 30, 31, 30, 30, 30, 30, 30, 33, 30, 31, 30, 30, 30, 30, 30, 30, 30, 31, 31, 31, 30, 30, 30, 30, 30, 30, 31, 31, 30, 31, 30, 30, 0, 30, 0, 3, 30, 30, 0, 30, 30, 0, 30, 30, 0, 0, 30, 0, 30, 30, 30, 0, 0, 0, 3, 31, 31, 0, 30, 0, 30, 30, 30, 30, 31, 31, 31, 30, 31, 31, 30, 0, 0, 30, 30, 30, 30, 0, 30, 0, 0, 30, 0, 0, 30, 0, 30, 30, 0, 30, 30, 30, 30, 30, 0, 30, 0, 30, 0, 30, 30, 30, 30, 30, 0, 0, 0, 0, 0, 0, 0, 30, 0, 30, 0, 30, 0, 30, 0, 30, 30, 30, 30]] ci []).length
noncomputable def aT (t : Nat) : Nat := rx_nth [0, 1, 2, 3, 20, 17, 11, 18, 30] t 0
noncomputable def gty (K : Nat × Nat × Nat) (j : Nat) : Nat := match K with
  | (0, ci, _) => fT ci j
  | (t + 1, _, _) => aT t
def enc (t : Nat) (g : Int) : Nat := if t = 1 then cL g else if t < 10 then cI g else rf g
-- a world: its shape, and what never changes in it
abbrev hW : Type := hS × (Int → Int → Option Int)
-- an object of class ci; a row of type t and length n
def isO (S : hW) (ci : Nat) (g : Int) : Prop := 0 ≤ g ∧ g.toNat < S.1.2.2.1 ∧ S.1.1 g.toNat = (0, ci, nF ci)
def isA (S : hW) (t : Nat) (n : Int) (g : Int) : Prop := 0 ≤ g ∧ g.toNat < S.1.2.2.1 ∧ ∃ m : Nat, n = m ∧ S.1.1 g.toNat = (t + 1, 0, m)
def okG (S : hW) (t : Nat) (g : Int) : Prop := if t = 0 then inI g else if t = 1 then inL g else if t = 2 then -128 ≤ g ∧ g < 128 else if t = 3 then 0 ≤ g ∧ g ≤ 1 else if t < 30 then g = -1 ∨ isO S (t - 10) g else g = -1 ∨ ∃ n, isA S (t - 30) n g
abbrev gS : Type := Int → Int → Int
def EN (S : hW) (H : Nat → Nat → Nat) (G : gS) : Prop := ∀ c j : Nat, c < S.1.2.2.1 → j < (S.1.1 c).2.2 → H c j = enc (gty (S.1.1 c) j) (G c j)
def TY (S : hW) (G : gS) : Prop := (∀ c j : Nat, c < S.1.2.2.1 → j < (S.1.1 c).2.2 → okG S (gty (S.1.1 c) j) (G c j)) ∧ ∀ c j v : Int, S.2 c j = some v → G c j = v
def Tg (S : hW) (f : rx_K) (lv st : List Nat) (G : gS) (Q : Nat → gS → Prop) : Prop := TY S G → ∀ H, EN S H G → Tk S.1 f lv st H (fun r H' => ∃ G', EN S H' G' ∧ TY S G' ∧ Q r G')
def Tn (S : hW) (F : List Nat → rx_H → Option (Nat × rx_H)) (As : List Nat) (G : gS) (Q : Nat → gS → Prop) : Prop := TY S G → ∀ H, EN S H G → Tm S.1 F As H (fun r H' => ∃ G', EN S H' G' ∧ TY S G' ∧ Q r G')
def uG (G : gS) (c j v : Int) : gS := fun c' j' => if c' = c ∧ j' = j then v else G c' j'
theorem uG_at (G : gS) (c j v : Int) : uG G c j v c j = v := if_pos ⟨rfl, rfl⟩
theorem uG_ne {G : gS} {c j v c' j' : Int} (h : c' ≠ c ∨ j' ≠ j) : uG G c j v c' j' = G c' j' := if_neg (fun q => h.elim (fun z => z q.1) (fun z => z q.2))
theorem uG_c {G : gS} {c j v c' j' : Int} (h : c' ≠ c) : uG G c j v c' j' = G c' j' := uG_ne (Or.inl h)
theorem uG_j {G : gS} {c j v c' j' : Int} (h : j' ≠ j) : uG G c j v c' j' = G c' j' := uG_ne (Or.inr h)
section
variable {S : hW} {k f t : rx_K} {lv st : List Nat} {G : gS} {Q : Nat → gS → Prop}
theorem Tg_w {Q' : Nat → gS → Prop} (h : Tg S f lv st G Q) (hq : ∀ r G', Q r G' → Q' r G') : Tg S f lv st G Q' := fun ht H he => Tk_w (h ht H he) fun r H' ⟨G', a, b, c⟩ => ⟨G', a, b, hq _ _ c⟩
theorem Tn_w {F : List Nat → rx_H → Option (Nat × rx_H)} {As : List Nat} {Q' : Nat → gS → Prop} (h : Tn S F As G Q) (hq : ∀ r G', Q r G' → Q' r G') : Tn S F As G Q' := fun ht H he => Tm_w (h ht H he) fun r H' ⟨G', a, b, c⟩ => ⟨G', a, b, hq _ _ c⟩
theorem g_ty (h : TY S G → Tg S f lv st G Q) : Tg S f lv st G Q := fun ht H he => h ht ht H he
theorem g_ld {chk : Nat → Bool} {i v : Nat} (hg : rx_get 7 lv i = v) (hc : chk v = true) (hk : Tg S k lv (v :: st) G Q) : Tg S (o_ld chk i k) lv st G Q := fun ht H he => t_ld hg hc (hk ht H he)
theorem g_const {c v : Nat} (hv : c = v) (hk : Tg S k lv (v :: st) G Q) : Tg S (o_const c k) lv st G Q := fun ht H he => t_const (by rw [hv]; exact hk ht H he)
theorem g_st {chk : Nat → Bool} {i v : Nat} {lv' : List Nat} (hc : chk v = true) (hi : i < lv.length) (h7 : i = 0 ∨ rx_get 7 lv (i - 1) % 8 ≠ 1) (hs : lv.set i v = lv') (hk : Tg S k lv' st G Q) : Tg S (o_st chk i k) lv (v :: st) G Q := fun ht H he => t_st hc hi h7 (by rw [hs]; exact hk ht H he)
theorem g_inc {i : Nat} {n g : Int} {lv' : List Nat} (hg : rx_get 7 lv i = cI g) (hi : i < lv.length) (h7 : i = 0 ∨ rx_get 7 lv (i - 1) % 8 ≠ 1) (hs : lv.set i (cI (g + n)) = lv') (hk : Tg S k lv' st G Q) : Tg S (o_inc i n k) lv st G Q := fun ht H he => t_inc (v := cI (g + n)) hg (cI_0 g) (by rw [di_I, ← Int32.ofInt_add, ei_I]) hi h7 (by rw [hs]; exact hk ht H he)
theorem g_dup {v : Nat} (h1 : rx_ct v = 1) (hk : Tg S k lv (v :: v :: st) G Q) : Tg S (o_dup k) lv (v :: st) G Q := fun ht H he => t_eq2 (fun h _ _ => by
  show (bif Nat.beq (rx_ct v) 1 then k lv (v :: v :: st) h else none) = _
  rw [h1]; rfl) (hk ht H he)
theorem g_pop {v : Nat} (h1 : rx_ct v = 1) (hk : Tg S k lv st G Q) : Tg S (o_pop k) lv (v :: st) G Q := fun ht H he => t_eq2 (fun h _ _ => by
  show (bif Nat.beq (rx_ct v) 1 then k lv st h else none) = _
  rw [h1]; rfl) (hk ht H he)
theorem g_dup2 {u v : Nat} (h1 : rx_ct v = 1) (h2 : rx_ct u = 1) (hk : Tg S k lv (v :: u :: v :: u :: st) G Q) : Tg S (o_dup2 k) lv (v :: u :: st) G Q := fun ht H he => t_eq2 (fun h _ _ => by
  show (bif Nat.beq (rx_ct v) 1 && Nat.beq (rx_ct u) 1 then k lv (v :: u :: v :: u :: st) h else none) = _
  rw [h1, h2]; rfl) (hk ht H he)
theorem g_bi {g : Int32 → Int32 → Int32} {x y z : Int} (hz : g (Int32.ofInt x) (Int32.ofInt y) = Int32.ofInt z) (hk : Tg S k lv (cI z :: st) G Q) : Tg S (o_bi g k) lv (cI y :: cI x :: st) G Q := fun ht H he => t_bi (v := cI z) (cI_0 x) (cI_0 y) (by rw [di_I, di_I, hz, ei_I]) (hk ht H he)
theorem g_add {x y : Int} (hk : Tg S k lv (cI (x + y) :: st) G Q) : Tg S (o_bi (fun x y => x + y) k) lv (cI y :: cI x :: st) G Q := g_bi (Int32.ofInt_add x y).symm hk
theorem g_sub {x y : Int} (hk : Tg S k lv (cI (x - y) :: st) G Q) : Tg S (o_bi (fun x y => x - y) k) lv (cI y :: cI x :: st) G Q := g_bi (Int32.ofInt_sub x y).symm hk
theorem g_mul {x y : Int} (hk : Tg S k lv (cI (x * y) :: st) G Q) : Tg S (o_bi (fun x y => x * y) k) lv (cI y :: cI x :: st) G Q := g_bi (Int32.ofInt_mul x y).symm hk
-- other steps on whole numbers: what they make is named by the step itself
theorem g_bix {g : Int32 → Int32 → Int32} {x y : Int} (hk : Tg S k lv (cI (g (Int32.ofInt x) (Int32.ofInt y)).toInt :: st) G Q) : Tg S (o_bi g k) lv (cI y :: cI x :: st) G Q := g_bi (by rw [of_I]) hk
theorem g_ui {g : Int32 → Int32} {x : Int} (hk : Tg S k lv (cI (g (Int32.ofInt x)).toInt :: st) G Q) : Tg S (o_ui g k) lv (cI x :: st) G Q := fun ht H he => t_ui (v := cI (g (Int32.ofInt x)).toInt) (cI_0 x) (by rw [di_I, eI]) (hk ht H he)
-- comparing
theorem lt_I {x y : Int} (hx : inI x) (hy : inI y) : rx_di (cI x) < rx_di (cI y) ↔ x < y := by rw [di_I, di_I, Int32.lt_iff_toInt_lt, ti_I hx, ti_I hy]
theorem eq_I {x y : Int} (hx : inI x) (hy : inI y) : rx_di (cI x) = rx_di (cI y) ↔ x = y := by
  rw [di_I, di_I, ← Int32.toInt_inj, ti_I hx, ti_I hy]
theorem g_q2 {q : rx_H → Nat → Nat → Option Bool} {p : Prop} {u v : Nat} (hq : (∀ h, q h u v = some true) ∧ p ∨ (∀ h, q h u v = some false) ∧ ¬ p) (h1 : p → Tg S t lv st G Q) (h2 : ¬ p → Tg S f lv st G Q) : Tg S (o_c2 q t f) lv (v :: u :: st) G Q := fun ht H he => by
  rcases hq with ⟨hq, hp⟩ | ⟨hq, hp⟩
  · refine t_eq2 (fun h _ _ => ?_) (h1 hp ht H he)
    show (match q h u v with | some b => bif b then t lv st h else f lv st h | none => none) = _
    rw [hq]; rfl
  · refine t_eq2 (fun h _ _ => ?_) (h2 hp ht H he)
    show (match q h u v with | some b => bif b then t lv st h else f lv st h | none => none) = _
    rw [hq]; rfl
theorem g_q1 {q : rx_H → Nat → Nat → Option Bool} {p : Prop} {u : Nat} (hq : (∀ h, q h u 0 = some true) ∧ p ∨ (∀ h, q h u 0 = some false) ∧ ¬ p) (h1 : p → Tg S t lv st G Q) (h2 : ¬ p → Tg S f lv st G Q) : Tg S (o_c1 q t f) lv (u :: st) G Q := fun ht H he => by
  rcases hq with ⟨hq, hp⟩ | ⟨hq, hp⟩
  · refine t_eq2 (fun h _ _ => ?_) (h1 hp ht H he)
    show (match q h u 0 with | some b => bif b then t lv st h else f lv st h | none => none) = _
    rw [hq]; rfl
  · refine t_eq2 (fun h _ _ => ?_) (h2 hp ht H he)
    show (match q h u 0 with | some b => bif b then t lv st h else f lv st h | none => none) = _
    rw [hq]; rfl
theorem rlt_I {x y : Int} (hx : inI x) (hy : inI y) : (∀ h, rx_lt h (cI x) (cI y) = some true) ∧ x < y ∨ (∀ h, rx_lt h (cI x) (cI y) = some false) ∧ ¬ x < y := by
  by_cases q : x < y
  · exact Or.inl ⟨fun h => by rw [lt_int (cI_0 x) (cI_0 y), decide_eq_true ((lt_I hx hy).mpr q)], q⟩
  · exact Or.inr ⟨fun h => by rw [lt_int (cI_0 x) (cI_0 y), decide_eq_false (fun z => q ((lt_I hx hy).mp z))], q⟩
theorem eq_int {h : rx_H} {x y : Nat} (hx : x % 8 = 0) (hy : y % 8 = 0) : rx_eq h x y = some (decide (rx_di x = rx_di y)) := by
  unfold rx_eq
  rw [hx, hy]; rfl
theorem req_I {x y : Int} (hx : inI x) (hy : inI y) : (∀ h, rx_eq h (cI x) (cI y) = some true) ∧ x = y ∨ (∀ h, rx_eq h (cI x) (cI y) = some false) ∧ ¬ x = y := by
  by_cases q : x = y
  · exact Or.inl ⟨fun h => by rw [eq_int (cI_0 x) (cI_0 y), decide_eq_true ((eq_I hx hy).mpr q)], q⟩
  · exact Or.inr ⟨fun h => by rw [eq_int (cI_0 x) (cI_0 y), decide_eq_false (fun z => q ((eq_I hx hy).mp z))], q⟩
theorem in0 : inI 0 := by unfold inI; omega
theorem g_lt2 {x y : Int} (hx : inI x) (hy : inI y) (h1 : x < y → Tg S t lv st G Q) (h2 : ¬ x < y → Tg S f lv st G Q) : Tg S (o_c2 rx_lt t f) lv (cI y :: cI x :: st) G Q := g_q2 (rlt_I hx hy) h1 h2
theorem g_gt2 {x y : Int} (hx : inI x) (hy : inI y) (h1 : y < x → Tg S t lv st G Q) (h2 : ¬ y < x → Tg S f lv st G Q) : Tg S (o_c2 (fun h x y => rx_lt h y x) t f) lv (cI y :: cI x :: st) G Q := g_q2 (rlt_I hy hx) h1 h2
theorem g_eq2 {x y : Int} (hx : inI x) (hy : inI y) (h1 : x = y → Tg S t lv st G Q) (h2 : ¬ x = y → Tg S f lv st G Q) : Tg S (o_c2 rx_eq t f) lv (cI y :: cI x :: st) G Q := g_q2 (req_I hx hy) h1 h2
theorem g_lt1 {x : Int} (hx : inI x) (h1 : x < 0 → Tg S t lv st G Q) (h2 : ¬ x < 0 → Tg S f lv st G Q) : Tg S (o_c1 rx_lt t f) lv (cI x :: st) G Q := g_q1 (rlt_I hx in0) h1 h2
theorem g_gt1 {x : Int} (hx : inI x) (h1 : 0 < x → Tg S t lv st G Q) (h2 : ¬ 0 < x → Tg S f lv st G Q) : Tg S (o_c1 (fun h x y => rx_lt h y x) t f) lv (cI x :: st) G Q := g_q1 (rlt_I in0 hx) h1 h2
theorem g_eq1 {x : Int} (hx : inI x) (h1 : x = 0 → Tg S t lv st G Q) (h2 : ¬ x = 0 → Tg S f lv st G Q) : Tg S (o_c1 rx_eq t f) lv (cI x :: st) G Q := g_q1 (req_I hx in0) h1 h2
theorem g_nul {x : Int} (h1 : x < 0 → Tg S t lv st G Q) (h2 : 0 ≤ x → Tg S f lv st G Q) : Tg S (o_nul t f) lv (rf x :: st) G Q := fun ht H he => by
  by_cases q : x < 0
  · refine t_eq2 (fun h _ _ => ?_) (h1 q ht H he)
    show (bif Nat.beq (rf x % 8) 3 then t lv st h else bif Nat.beq (rf x % 8) 2 then f lv st h else none) = _
    rw [rf_n q]; rfl
  · refine t_eq2 (fun h _ _ => ?_) (h2 (by omega) ht H he)
    show (bif Nat.beq (rf x % 8) 3 then t lv st h else bif Nat.beq (rf x % 8) 2 then f lv st h else none) = _
    rw [rf_p (by omega), show (8 * x.toNat + 2) % 8 = 2 by omega]; rfl
-- fields
theorem isO_at {ci k0 : Nat} {o : Int} (ho : isO S ci o) (hk0 : k0 < nF ci) {H : Nat → Nat → Nat} (he : EN S H G) : H o.toNat k0 = enc (fT ci k0) (G o k0) := by
  obtain ⟨h1, h2, h3⟩ := ho
  have h4 := he o.toNat k0 h2 (by rw [h3]; exact hk0)
  rw [h3, Int.toNat_of_nonneg h1] at h4
  exact h4
theorem isO_ty {ci k0 : Nat} {o : Int} (ho : isO S ci o) (hk0 : k0 < nF ci) (ht : TY S G) : okG S (fT ci k0) (G o k0) := by
  obtain ⟨h1, h2, h3⟩ := ho
  have h4 := ht.1 o.toNat k0 h2 (by rw [h3]; exact hk0)
  rw [h3, Int.toNat_of_nonneg h1] at h4
  exact h4
theorem g_getf {ci k0 : Nat} {o kz : Int} (ho : isO S ci o) (hkz : (k0 : Int) = kz) (hk0 : k0 < nF ci) (hk : okG S (fT ci k0) (G o kz) → Tg S k lv (enc (fT ci k0) (G o kz) :: st) G Q) : Tg S (o_getf ci k0 k) lv (rf o :: st) G Q := fun ht H he => by
  subst hkz
  rw [rf_p ho.1]
  exact t_getf (v := enc (fT ci k0) (G o k0)) ho.2.1 ho.2.2 (isO_at ho hk0 he) (hk (isO_ty ho hk0 ht) ht H he)
theorem g_getI {ci k0 : Nat} {o kz : Int} (ho : isO S ci o) (hkz : (k0 : Int) = kz) (hk0 : k0 < nF ci) (hf : fT ci k0 = 0) (hk : inI (G o kz) → Tg S k lv (cI (G o kz) :: st) G Q) : Tg S (o_getf ci k0 k) lv (rf o :: st) G Q := g_getf ho hkz hk0 (by rw [hf]; exact hk)
theorem g_getL {ci k0 : Nat} {o kz : Int} (ho : isO S ci o) (hkz : (k0 : Int) = kz) (hk0 : k0 < nF ci) (hf : fT ci k0 = 1) (hk : inL (G o kz) → Tg S k lv (cL (G o kz) :: st) G Q) : Tg S (o_getf ci k0 k) lv (rf o :: st) G Q := g_getf ho hkz hk0 (by rw [hf]; exact hk)
theorem g_getZ {ci k0 : Nat} {o kz : Int} (ho : isO S ci o) (hkz : (k0 : Int) = kz) (hk0 : k0 < nF ci) (hf : fT ci k0 = 3) (hk : (0 ≤ G o kz ∧ G o kz ≤ 1) → Tg S k lv (cI (G o kz) :: st) G Q) : Tg S (o_getf ci k0 k) lv (rf o :: st) G Q := g_getf ho hkz hk0 (by rw [hf]; exact hk)
theorem enc_R {t : Nat} (h : 10 ≤ t) (g : Int) : enc t g = rf g := by unfold enc; rw [if_neg (by omega), if_neg (by omega)]
theorem ok_O {t : Nat} (h : 10 ≤ t) (h2 : t < 30) {g : Int} (q : okG S t g) : g = -1 ∨ isO S (t - 10) g := by
  unfold okG at q
  rwa [if_neg (by omega), if_neg (by omega), if_neg (by omega), if_neg (by omega), if_pos h2] at q
theorem ok_A {t : Nat} (h : 30 ≤ t) {g : Int} (q : okG S t g) : g = -1 ∨ ∃ n, isA S (t - 30) n g := by
  unfold okG at q
  rwa [if_neg (by omega), if_neg (by omega), if_neg (by omega), if_neg (by omega), if_neg (by omega)] at q
theorem mk_O {t : Nat} (h : 10 ≤ t) (h2 : t < 30) {g : Int} (q : g = -1 ∨ isO S (t - 10) g) : okG S t g := by
  unfold okG
  rwa [if_neg (by omega), if_neg (by omega), if_neg (by omega), if_neg (by omega), if_pos h2]
theorem g_getR {ci k0 c : Nat} {o kz : Int} (ho : isO S ci o) (hkz : (k0 : Int) = kz) (hk0 : k0 < nF ci) (hf : fT ci k0 = c + 10) (hc : c < 20) (hk : (G o kz = -1 ∨ isO S c (G o kz)) → Tg S k lv (rf (G o kz) :: st) G Q) : Tg S (o_getf ci k0 k) lv (rf o :: st) G Q := g_getf ho hkz hk0 (by
  rw [hf, enc_R (by omega)]
  exact fun q => hk (ok_O (t := c + 10) (by omega) (by omega) q))
theorem g_getA {ci k0 c : Nat} {o kz : Int} (ho : isO S ci o) (hkz : (k0 : Int) = kz) (hk0 : k0 < nF ci) (hf : fT ci k0 = c + 30) (hk : (G o kz = -1 ∨ ∃ n, isA S c n (G o kz)) → Tg S k lv (rf (G o kz) :: st) G Q) : Tg S (o_getf ci k0 k) lv (rf o :: st) G Q := g_getf ho hkz hk0 (by
  rw [hf, enc_R (by omega)]
  exact fun q => hk (ok_A (t := c + 30) (by omega) q))
theorem g_getF {ci k0 : Nat} {o kz v : Int} (ho : isO S ci o) (hv : S.2 o kz = some v) (hkz : (k0 : Int) = kz) (hk0 : k0 < nF ci) (hf : 10 ≤ fT ci k0) (hk : Tg S k lv (rf v :: st) G Q) : Tg S (o_getf ci k0 k) lv (rf o :: st) G Q := g_ty fun ht => g_getf ho hkz hk0 (by
  rw [enc_R hf, ht.2 _ _ _ hv]
  exact fun _ => hk)
theorem EN_up {H : Nat → Nat → Nat} {c j w : Nat} {v : Int} (he : EN S H G) (hv : enc (gty (S.1.1 c) j) v = w) : EN S (up H c j w) (uG G c j v) := fun c' j' hc hj => by
  unfold up uG
  by_cases q : c' = c ∧ j' = j
  · rw [if_pos q, if_pos ⟨by omega, by omega⟩, q.1, q.2, hv]
  · rw [if_neg q, if_neg (fun z => q ⟨by omega, by omega⟩)]
    exact he c' j' hc hj
theorem TY_up {c j : Nat} {v : Int} (ht : TY S G) (hv : okG S (gty (S.1.1 c) j) v) (hn : S.2 c j = none) : TY S (uG G c j v) := ⟨fun c' j' hc hj => by
  unfold uG
  by_cases q : c' = c ∧ j' = j
  · rw [if_pos ⟨by omega, by omega⟩, q.1, q.2]; exact hv
  · rw [if_neg (fun z => q ⟨by omega, by omega⟩)]
    exact ht.1 c' j' hc hj, fun c' j' v' h' => by
  rw [uG_ne]
  · exact ht.2 c' j' v' h'
  · by_cases q : c' = c
    · refine Or.inr (fun z => ?_)
      rw [q, z, hn] at h'; cases h'
    · exact Or.inl q⟩
theorem g_putf {chk : Nat → Bool} {ci k0 w : Nat} {o kz v : Int} (hch : chk w = true) (ho : isO S ci o) (hkz : (k0 : Int) = kz) (hk0 : k0 < nF ci) (hw : enc (fT ci k0) v = w) (hv : okG S (fT ci k0) v) (hn : S.2 o kz = none) (hk : Tg S k lv st (uG G o kz v) Q) : Tg S (o_putf chk ci k0 k) lv (w :: rf o :: st) G Q := fun ht H he => by
  subst hkz
  have e0 : ((o.toNat : Nat) : Int) = o := Int.toNat_of_nonneg ho.1
  have e1 := EN_up (c := o.toNat) (j := k0) (v := v) (w := w) he (by rw [ho.2.2]; exact hw)
  have e2 := TY_up (c := o.toNat) (j := k0) (v := v) ht (by rw [ho.2.2]; exact hv) (by rw [e0]; exact hn)
  rw [e0] at e1 e2
  rw [rf_p ho.1]
  exact t_putf hch ho.2.1 ho.2.2 hk0 (hk e2 _ e1)
theorem g_putI {ci k0 : Nat} {o kz v : Int} (ho : isO S ci o) (hkz : (k0 : Int) = kz) (hk0 : k0 < nF ci) (hf : fT ci k0 = 0) (hv : inI v) (hn : S.2 o kz = none) (hk : Tg S k lv st (uG G o kz v) Q) : Tg S (o_putf rx_isI ci k0 k) lv (cI v :: rf o :: st) G Q := g_putf (is_I v) ho hkz hk0 (by rw [hf]; rfl) (by rw [hf]; exact hv) hn hk
theorem g_putL {ci k0 : Nat} {o kz v : Int} (ho : isO S ci o) (hkz : (k0 : Int) = kz) (hk0 : k0 < nF ci) (hf : fT ci k0 = 1) (hv : inL v) (hn : S.2 o kz = none) (hk : Tg S k lv st (uG G o kz v) Q) : Tg S (o_putf rx_isL ci k0 k) lv (cL v :: rf o :: st) G Q := g_putf (is_L v) ho hkz hk0 (by rw [hf]; rfl) (by rw [hf]; exact hv) hn hk
theorem is_Z {v : Int} (h : 0 ≤ v ∧ v ≤ 1) : rx_isZ (cI v) = true := by
  rcases (show v = 0 ∨ v = 1 by omega) with e | e <;> subst e <;> rfl
theorem g_putZ {ci k0 : Nat} {o kz v : Int} (ho : isO S ci o) (hkz : (k0 : Int) = kz) (hk0 : k0 < nF ci) (hf : fT ci k0 = 3) (hv : 0 ≤ v ∧ v ≤ 1) (hn : S.2 o kz = none) (hk : Tg S k lv st (uG G o kz v) Q) : Tg S (o_putf rx_isZ ci k0 k) lv (cI v :: rf o :: st) G Q := g_putf (is_Z hv) ho hkz hk0 (by rw [hf]; rfl) (by rw [hf]; exact hv) hn hk
theorem g_putR {ci k0 c : Nat} {o kz v : Int} (ho : isO S ci o) (hkz : (k0 : Int) = kz) (hk0 : k0 < nF ci) (hf : fT ci k0 = c + 10) (hc : c < 20) (hv : v = -1 ∨ isO S c v) (hn : S.2 o kz = none) (hk : Tg S k lv st (uG G o kz v) Q) : Tg S (o_putf rx_isR ci k0 k) lv (rf v :: rf o :: st) G Q := g_putf (is_R v) ho hkz hk0 (by rw [hf]; exact enc_R (by omega) v) (by rw [hf]; exact mk_O (t := c + 10) (by omega) (by omega) hv) hn hk
-- rows
theorem g_alen {tt : Nat} {a n : Int} (ha : isA S tt n a) (hk : Tg S k lv (cI n :: st) G Q) : Tg S (o_alen tt k) lv (rf a :: st) G Q := fun ht H he => by
  obtain ⟨h1, h2, m, rfl, h3⟩ := ha
  rw [rf_p h1]
  refine t_eq2 (g := k) (lv' := lv) (st' := cI m :: st) (fun h hw he' => ?_) (hk ht H he)
  obtain ⟨z, fs, us, e, e1, e2⟩ := ar_in (kk := fun n _ _ => bif Nat.blt n 268435456 then rx_f (8 * n) fun v => k lv (v :: st) h else none) hw h2 h3
  refine Eq.trans e2 ?_
  have e3 : cI (m : Int) = 8 * m := by unfold cI; omega
  rw [show Nat.blt m 268435456 = true from Nat.ble_eq_true_of_le e1, cond_true, rx_f_eq, e3]
theorem isA_at {tt : Nat} {a n i : Int} (ha : isA S tt n a) (h0 : 0 ≤ i) (hi : i < n) {H : Nat → Nat → Nat} (he : EN S H G) : H a.toNat i.toNat = enc (aT tt) (G a i) := by
  obtain ⟨h1, h2, m, rfl, h3⟩ := ha
  have h4 := he a.toNat i.toNat h2 (by rw [h3]; show i.toNat < m; omega)
  rw [h3, Int.toNat_of_nonneg h1, Int.toNat_of_nonneg h0] at h4
  exact h4
theorem isA_ty {tt : Nat} {a n i : Int} (ha : isA S tt n a) (h0 : 0 ≤ i) (hi : i < n) (ht : TY S G) : okG S (aT tt) (G a i) := by
  obtain ⟨h1, h2, m, rfl, h3⟩ := ha
  have h4 := ht.1 a.toNat i.toNat h2 (by rw [h3]; show i.toNat < m; omega)
  rw [h3, Int.toNat_of_nonneg h1, Int.toNat_of_nonneg h0] at h4
  exact h4
theorem cI_nat {i : Int} (h0 : 0 ≤ i) (h1 : i < 4294967296) : cI i = 8 * i.toNat := by unfold cI; omega
theorem g_ald {tt : Nat} {a n i : Int} (ha : isA S tt n a) (h0 : 0 ≤ i) (hi : i < n) (hk : okG S (aT tt) (G a i) → Tg S k lv (enc (aT tt) (G a i) :: st) G Q) : Tg S (o_ald tt k) lv (cI i :: rf a :: st) G Q := fun ht H he => by
  have h9 := isA_at ha h0 hi he
  have h8 := isA_ty ha h0 hi ht
  obtain ⟨h1, h2, m, rfl, h3⟩ := ha
  by_cases hm : m < 268435456
  · rw [rf_p h1, cI_nat h0 (by omega)]
    exact t_ald h2 h3 (by omega) h9 (hk h8 ht H he)
  · intro h hw _
    obtain ⟨z, fs, us, e, e1, e2⟩ := ar_in (β := Nat) (kk := fun _ _ _ => none) hw h2 h3
    exact absurd e1 hm
theorem g_aldI {tt : Nat} {a n i : Int} (ha : isA S tt n a) (h0 : 0 ≤ i) (hi : i < n) (hf : aT tt = 0) (hk : inI (G a i) → Tg S k lv (cI (G a i) :: st) G Q) : Tg S (o_ald tt k) lv (cI i :: rf a :: st) G Q := g_ald ha h0 hi (by rw [hf]; exact hk)
theorem g_aldL {tt : Nat} {a n i : Int} (ha : isA S tt n a) (h0 : 0 ≤ i) (hi : i < n) (hf : aT tt = 1) (hk : inL (G a i) → Tg S k lv (cL (G a i) :: st) G Q) : Tg S (o_ald tt k) lv (cI i :: rf a :: st) G Q := g_ald ha h0 hi (by rw [hf]; exact hk)
theorem g_aldB {tt : Nat} {a n i : Int} (ha : isA S tt n a) (h0 : 0 ≤ i) (hi : i < n) (hf : aT tt = 2) (hk : (-128 ≤ G a i ∧ G a i < 128) → Tg S k lv (cI (G a i) :: st) G Q) : Tg S (o_ald tt k) lv (cI i :: rf a :: st) G Q := g_ald ha h0 hi (by rw [hf]; exact hk)
theorem g_aldZ {tt : Nat} {a n i : Int} (ha : isA S tt n a) (h0 : 0 ≤ i) (hi : i < n) (hf : aT tt = 3) (hk : (0 ≤ G a i ∧ G a i ≤ 1) → Tg S k lv (cI (G a i) :: st) G Q) : Tg S (o_ald tt k) lv (cI i :: rf a :: st) G Q := g_ald ha h0 hi (by rw [hf]; exact hk)
theorem g_aldR {tt c : Nat} {a n i : Int} (ha : isA S tt n a) (h0 : 0 ≤ i) (hi : i < n) (hf : aT tt = c + 10) (hc : c < 20) (hk : (G a i = -1 ∨ isO S c (G a i)) → Tg S k lv (rf (G a i) :: st) G Q) : Tg S (o_ald tt k) lv (cI i :: rf a :: st) G Q := g_ald ha h0 hi (by
  rw [hf, enc_R (by omega)]
  exact fun q => hk (ok_O (t := c + 10) (by omega) (by omega) q))
theorem g_aldF {tt : Nat} {a n i v : Int} (ha : isA S tt n a) (h0 : 0 ≤ i) (hi : i < n) (hv : S.2 a i = some v) (hf : 10 ≤ aT tt) (hk : Tg S k lv (rf v :: st) G Q) : Tg S (o_ald tt k) lv (cI i :: rf a :: st) G Q := g_ty fun ht => g_ald ha h0 hi (by
  rw [enc_R hf, ht.2 _ _ _ hv]
  exact fun _ => hk)
theorem g_ast {tt w : Nat} {gg : Nat → Nat} {chk : Nat → Bool} {a n i v : Int} (hch : chk w = true) (ha : isA S tt n a) (h0 : 0 ≤ i) (hi : i < n) (hw : enc (aT tt) v = gg w) (hv : okG S (aT tt) v) (hn : S.2 a i = none) (hk : Tg S k lv st (uG G a i v) Q) : Tg S (o_ast tt gg chk k) lv (w :: cI i :: rf a :: st) G Q := fun ht H he => by
  obtain ⟨h1, h2, m, rfl, h3⟩ := ha
  have e0 : ((a.toNat : Nat) : Int) = a := Int.toNat_of_nonneg h1
  have e9 : ((i.toNat : Nat) : Int) = i := Int.toNat_of_nonneg h0
  have e1 := EN_up (c := a.toNat) (j := i.toNat) (v := v) (w := gg w) he (by rw [h3]; exact hw)
  have e2 := TY_up (c := a.toNat) (j := i.toNat) (v := v) ht (by rw [h3]; exact hv) (by rw [e0, e9]; exact hn)
  rw [e0, e9] at e1 e2
  by_cases hm : m < 268435456
  · rw [rf_p h1, cI_nat h0 (by omega)]
    exact t_ast hch h2 h3 (by omega) (hk e2 _ e1)
  · intro h hw _
    obtain ⟨z, fs, us, e, e1, e2⟩ := ar_in (β := Nat) (kk := fun _ _ _ => none) hw h2 h3
    exact absurd e1 hm
theorem g_astI {a n i v : Int} (ha : isA S 0 n a) (h0 : 0 ≤ i) (hi : i < n) (hv : inI v) (hn : S.2 a i = none) (hk : Tg S k lv st (uG G a i v) Q) : Tg S (o_ast 0 (fun v => v) rx_isI k) lv (cI v :: cI i :: rf a :: st) G Q := g_ast (is_I v) ha h0 hi rfl hv hn hk
theorem g_astL {a n i v : Int} (ha : isA S 1 n a) (h0 : 0 ≤ i) (hi : i < n) (hv : inL v) (hn : S.2 a i = none) (hk : Tg S k lv st (uG G a i v) Q) : Tg S (o_ast 1 (fun v => v) rx_isL k) lv (cL v :: cI i :: rf a :: st) G Q := g_ast (is_L v) ha h0 hi rfl hv hn hk
theorem g_astZ {a n i v : Int} (ha : isA S 3 n a) (h0 : 0 ≤ i) (hi : i < n) (hv : 0 ≤ v ∧ v ≤ 1) (hn : S.2 a i = none) (hk : Tg S k lv st (uG G a i v) Q) : Tg S (o_ast 3 (fun v => v) rx_isZ k) lv (cI v :: cI i :: rf a :: st) G Q := g_ast (is_Z hv) ha h0 hi rfl hv hn hk
-- (byte): what a whole number is as a byte
def b8 (g : Int) : Int := (g + 128) % 256 - 128
theorem ti_mod (n : Int) : (Int32.ofInt n).toInt = n.bmod 4294967296 := Int32.toInt_ofInt
theorem i8_I (g : Int) : (Int32.ofInt g).toInt8.toInt32 = Int32.ofInt (b8 g) := by
  apply Int32.toInt_inj.mp
  rw [Int8.toInt_toInt32, Int32.toInt_toInt8, ti_mod, ti_mod]
  show (g.bmod 4294967296).bmod 256 = (b8 g).bmod 4294967296
  unfold b8
  simp only [Int.bmod_def]
  repeat' split
  all_goals omega
theorem g_i2b {x : Int} (hk : Tg S k lv (cI (b8 x) :: st) G Q) : Tg S (o_ui (fun x => x.toInt8.toInt32) k) lv (cI x :: st) G Q := fun ht H he => t_ui (v := cI (b8 x)) (cI_0 x) (by rw [di_I, i8_I, ei_I]) (hk ht H he)
theorem isB_I (g : Int) : rx_isB (cI g) = true := by unfold rx_isB; rw [cI_0]; rfl
theorem nb_I (g : Int) : rx_nb (cI g) = cI (b8 g) := by
  unfold rx_nb
  rw [cI_0]
  show rx_ei (rx_di (cI g)).toInt8.toInt32 = _
  rw [di_I, i8_I, ei_I]
theorem g_astB {a n i v : Int} (ha : isA S 2 n a) (h0 : 0 ≤ i) (hi : i < n) (hn : S.2 a i = none) (hk : Tg S k lv st (uG G a i (b8 v)) Q) : Tg S (o_ast 2 rx_nb rx_isB k) lv (cI v :: cI i :: rf a :: st) G Q := g_ast (isB_I v) ha h0 hi (nb_I v).symm (show -128 ≤ b8 v ∧ b8 v < 128 by unfold b8; omega) hn hk
-- steps on whole numbers by name
def iush (a k : Int) : Int := ((Int32.ofInt a).toUInt32 >>> ((Int32.ofInt k).toUInt32 &&& Int32.toUInt32 31)).toInt32.toInt
def ishl (a k : Int) : Int := (Int32.ofInt a <<< (Int32.ofInt k &&& 31)).toInt
def ishr (a k : Int) : Int := (Int32.ofInt a >>> (Int32.ofInt k &&& 31)).toInt
def iand (a b : Int) : Int := (Int32.ofInt a &&& Int32.ofInt b).toInt
def ior (a b : Int) : Int := (Int32.ofInt a ||| Int32.ofInt b).toInt
theorem in_x (x : Int32) : inI x.toInt := by
  have h1 := Int32.le_toInt x
  have h2 := Int32.toInt_lt x
  unfold inI
  omega
theorem in_xL (x : Int64) : inL x.toInt := by
  have h1 := Int64.le_toInt x
  have h2 := Int64.toInt_lt x
  unfold inL
  omega
theorem g_iush {x y : Int} (hk : inI (iush x y) → Tg S k lv (cI (iush x y) :: st) G Q) : Tg S (o_bi (fun x y => (x.toUInt32 >>> (y.toUInt32 &&& Int32.toUInt32 31)).toInt32) k) lv (cI y :: cI x :: st) G Q := g_bix (hk (in_x _))
theorem g_ishl {x y : Int} (hk : inI (ishl x y) → Tg S k lv (cI (ishl x y) :: st) G Q) : Tg S (o_bi (fun x y => x <<< (y &&& 31)) k) lv (cI y :: cI x :: st) G Q := g_bix (hk (in_x _))
theorem g_ishr {x y : Int} (hk : inI (ishr x y) → Tg S k lv (cI (ishr x y) :: st) G Q) : Tg S (o_bi (fun x y => x >>> (y &&& 31)) k) lv (cI y :: cI x :: st) G Q := g_bix (hk (in_x _))
theorem g_iand {x y : Int} (hk : inI (iand x y) → Tg S k lv (cI (iand x y) :: st) G Q) : Tg S (o_bi (fun x y => x &&& y) k) lv (cI y :: cI x :: st) G Q := g_bix (hk (in_x _))
theorem g_ior {x y : Int} (hk : inI (ior x y) → Tg S k lv (cI (ior x y) :: st) G Q) : Tg S (o_bi (fun x y => x ||| y) k) lv (cI y :: cI x :: st) G Q := g_bix (hk (in_x _))
theorem g_ineg {x : Int} (hk : Tg S k lv (cI (-x) :: st) G Q) : Tg S (o_ui (fun x => -x) k) lv (cI x :: st) G Q := fun ht H he => t_ui (v := cI (-x)) (cI_0 x) (by rw [di_I, ← Int32.ofInt_neg, ei_I]) (hk ht H he)
-- longs
def lush (a k : Int) : Int := ((Int64.ofInt a).toUInt64 >>> ((Int32.ofInt k).toInt64.toUInt64 &&& Int64.toUInt64 63)).toInt64.toInt
def lshl (a k : Int) : Int := (Int64.ofInt a <<< ((Int32.ofInt k).toInt64 &&& 63)).toInt
def land (a b : Int) : Int := (Int64.ofInt a &&& Int64.ofInt b).toInt
def lor (a b : Int) : Int := (Int64.ofInt a ||| Int64.ofInt b).toInt
def l2i (a : Int) : Int := (Int64.ofInt a).toInt32.toInt
theorem t_bl {H : Nat → Nat → Nat} {S : hS} {Q : Nat → (Nat → Nat → Nat) → Prop} {g : Int64 → Int64 → Int64} {x y v : Nat} (hx : x % 8 = 1) (hy : y % 8 = 1) (hv' : rx_el (g (rx_dl x) (rx_dl y)) = v) (hk : Tk S k lv (v :: st) H Q) : Tk S (o_bl g k) lv (y :: x :: st) H Q := t_eq2 (fun h _ _ => by
  show (bif Nat.beq (y % 8) 1 && Nat.beq (x % 8) 1 then rx_f (rx_el (g (rx_dl x) (rx_dl y))) fun v => k lv (v :: st) h else none) = _
  rw [hx, hy, hv', show Nat.beq 1 1 = true from rfl, Bool.and_self, cond_true, rx_f_eq]) hk
theorem t_bs {H : Nat → Nat → Nat} {S : hS} {Q : Nat → (Nat → Nat → Nat) → Prop} {g : Int64 → Int32 → Int64} {x y v : Nat} (hx : x % 8 = 1) (hy : y % 8 = 0) (hv' : rx_el (g (rx_dl x) (rx_di y)) = v) (hk : Tk S k lv (v :: st) H Q) : Tk S (o_bs g k) lv (y :: x :: st) H Q := t_eq2 (fun h _ _ => by
  show (bif Nat.beq (y % 8) 0 && Nat.beq (x % 8) 1 then rx_f (rx_el (g (rx_dl x) (rx_di y))) fun v => k lv (v :: st) h else none) = _
  rw [hx, hy, hv', show (Nat.beq 0 0 && Nat.beq 1 1) = true from rfl, cond_true, rx_f_eq]) hk
theorem t_bc {H : Nat → Nat → Nat} {S : hS} {Q : Nat → (Nat → Nat → Nat) → Prop} {g : Int64 → Int64 → Int32} {x y v : Nat} (hx : x % 8 = 1) (hy : y % 8 = 1) (hv' : rx_ei (g (rx_dl x) (rx_dl y)) = v) (hk : Tk S k lv (v :: st) H Q) : Tk S (o_bc g k) lv (y :: x :: st) H Q := t_eq2 (fun h _ _ => by
  show (bif Nat.beq (y % 8) 1 && Nat.beq (x % 8) 1 then rx_f (rx_ei (g (rx_dl x) (rx_dl y))) fun v => k lv (v :: st) h else none) = _
  rw [hx, hy, hv', show Nat.beq 1 1 = true from rfl, Bool.and_self, cond_true, rx_f_eq]) hk
theorem t_il {H : Nat → Nat → Nat} {S : hS} {Q : Nat → (Nat → Nat → Nat) → Prop} {g : Int32 → Int64} {x v : Nat} (hx : x % 8 = 0) (hv' : rx_el (g (rx_di x)) = v) (hk : Tk S k lv (v :: st) H Q) : Tk S (o_il g k) lv (x :: st) H Q := t_eq2 (fun h _ _ => by
  show (bif Nat.beq (x % 8) 0 then rx_f (rx_el (g (rx_di x))) fun v => k lv (v :: st) h else none) = _
  rw [hx, hv', show Nat.beq 0 0 = true from rfl, cond_true, rx_f_eq]) hk
theorem t_li {H : Nat → Nat → Nat} {S : hS} {Q : Nat → (Nat → Nat → Nat) → Prop} {g : Int64 → Int32} {x v : Nat} (hx : x % 8 = 1) (hv' : rx_ei (g (rx_dl x)) = v) (hk : Tk S k lv (v :: st) H Q) : Tk S (o_li g k) lv (x :: st) H Q := t_eq2 (fun h _ _ => by
  show (bif Nat.beq (x % 8) 1 then rx_f (rx_ei (g (rx_dl x))) fun v => k lv (v :: st) h else none) = _
  rw [hx, hv', show Nat.beq 1 1 = true from rfl, cond_true, rx_f_eq]) hk
theorem g_lush {x y : Int} (hk : inL (lush x y) → Tg S k lv (cL (lush x y) :: st) G Q) : Tg S (o_bs (fun x y => (x.toUInt64 >>> (y.toInt64.toUInt64 &&& Int64.toUInt64 63)).toInt64) k) lv (cI y :: cL x :: st) G Q := fun ht H he => t_bs (v := cL (lush x y)) (cL_1 x) (cI_0 y) (by rw [dl_L, di_I, eL]; rfl) (hk (in_xL _) ht H he)
theorem g_lshl {x y : Int} (hk : inL (lshl x y) → Tg S k lv (cL (lshl x y) :: st) G Q) : Tg S (o_bs (fun x y => x <<< (y.toInt64 &&& 63)) k) lv (cI y :: cL x :: st) G Q := fun ht H he => t_bs (v := cL (lshl x y)) (cL_1 x) (cI_0 y) (by rw [dl_L, di_I, eL]; rfl) (hk (in_xL _) ht H he)
theorem g_land {x y : Int} (hk : inL (land x y) → Tg S k lv (cL (land x y) :: st) G Q) : Tg S (o_bl (fun x y => x &&& y) k) lv (cL y :: cL x :: st) G Q := fun ht H he => t_bl (v := cL (land x y)) (cL_1 x) (cL_1 y) (by rw [dl_L, dl_L, eL]; rfl) (hk (in_xL _) ht H he)
theorem g_lor {x y : Int} (hk : inL (lor x y) → Tg S k lv (cL (lor x y) :: st) G Q) : Tg S (o_bl (fun x y => x ||| y) k) lv (cL y :: cL x :: st) G Q := fun ht H he => t_bl (v := cL (lor x y)) (cL_1 x) (cL_1 y) (by rw [dl_L, dl_L, eL]; rfl) (hk (in_xL _) ht H he)
theorem g_lmul {x y : Int} (hk : Tg S k lv (cL (x * y) :: st) G Q) : Tg S (o_bl (fun x y => x * y) k) lv (cL y :: cL x :: st) G Q := fun ht H he => t_bl (v := cL (x * y)) (cL_1 x) (cL_1 y) (by rw [dl_L, dl_L, ← Int64.ofInt_mul, el_L]) (hk ht H he)
theorem g_ladd {x y : Int} (hk : Tg S k lv (cL (x + y) :: st) G Q) : Tg S (o_bl (fun x y => x + y) k) lv (cL y :: cL x :: st) G Q := fun ht H he => t_bl (v := cL (x + y)) (cL_1 x) (cL_1 y) (by rw [dl_L, dl_L, ← Int64.ofInt_add, el_L]) (hk ht H he)
theorem g_i2l {x : Int} (hx : inI x) (hk : Tg S k lv (cL x :: st) G Q) : Tg S (o_il (fun x => x.toInt64) k) lv (cI x :: st) G Q := fun ht H he => t_il (v := cL x) (cI_0 x) (by
  rw [di_I, eL, Int32.toInt_toInt64, ti_I hx]) (hk ht H he)
theorem g_l2i {x : Int} (hk : inI (l2i x) → Tg S k lv (cI (l2i x) :: st) G Q) : Tg S (o_li (fun x => x.toInt32) k) lv (cL x :: st) G Q := fun ht H he => t_li (v := cI (l2i x)) (cL_1 x) (by rw [dl_L, eI]; rfl) (hk (in_x _) ht H he)
theorem g_lcmp {x y : Int} (hk : inI (lg_cmp (Int64.ofInt x) (Int64.ofInt y)).toInt → Tg S k lv (cI (lg_cmp (Int64.ofInt x) (Int64.ofInt y)).toInt :: st) G Q) : Tg S (o_bc (fun x y => lg_cmp x y) k) lv (cL y :: cL x :: st) G Q := fun ht H he => t_bc (v := cI (lg_cmp (Int64.ofInt x) (Int64.ofInt y)).toInt) (cL_1 x) (cL_1 y) (by rw [dl_L, dl_L, eI]) (hk (in_x _) ht H he)
theorem cmp_v {x y : Int} (hx : inL x) (hy : inL y) : (lg_cmp (Int64.ofInt x) (Int64.ofInt y)).toInt = if y < x then 1 else if x = y then 0 else -1 := by
  unfold lg_cmp
  by_cases h : y < x
  · rw [if_pos h, if_pos (show Int64.ofInt x > Int64.ofInt y from Int64.lt_iff_toInt_lt.mpr (by rw [tl_L hx, tl_L hy]; exact h))]; rfl
  · rw [if_neg h, if_neg (show ¬ Int64.ofInt x > Int64.ofInt y from fun q => h (by have := Int64.lt_iff_toInt_lt.mp q; rwa [tl_L hx, tl_L hy] at this))]
    by_cases e : x = y
    · subst e; rw [if_pos rfl, if_pos rfl]; rfl
    · rw [if_neg e, if_neg (fun q => e (by have := congrArg Int64.toInt q; rwa [tl_L hx, tl_L hy] at this))]; rfl
theorem g_leq {x y : Int} (hx : inL x) (hy : inL y) (h1 : x = y → Tg S t lv st G Q) (h2 : ¬ x = y → Tg S f lv st G Q) : Tg S (o_bc (fun x y => lg_cmp x y) (o_c1 rx_eq t f)) lv (cL y :: cL x :: st) G Q := g_lcmp fun hi => by
  rw [cmp_v hx hy] at hi ⊢
  refine g_eq1 hi (fun h => h1 ?_) (fun h => h2 ?_) <;> revert h <;> split <;> intro h
  · omega
  · split at h <;> omega
  · omega
  · split at h <;> omega
theorem g_llt {x y : Int} (hx : inL x) (hy : inL y) (h1 : x < y → Tg S t lv st G Q) (h2 : ¬ x < y → Tg S f lv st G Q) : Tg S (o_bc (fun x y => lg_cmp x y) (o_c1 rx_lt t f)) lv (cL y :: cL x :: st) G Q := g_lcmp fun hi => by
  rw [cmp_v hx hy] at hi ⊢
  refine g_lt1 hi (fun h => h1 ?_) (fun h => h2 ?_) <;> revert h <;> split <;> intro h
  · omega
  · split at h <;> omega
  · omega
  · split at h <;> omega
theorem g_lgt {x y : Int} (hx : inL x) (hy : inL y) (h1 : y < x → Tg S t lv st G Q) (h2 : ¬ y < x → Tg S f lv st G Q) : Tg S (o_bc (fun x y => lg_cmp x y) (o_c1 (fun h x y => rx_lt h y x) t f)) lv (cL y :: cL x :: st) G Q := g_lcmp fun hi => by
  rw [cmp_v hx hy] at hi ⊢
  refine g_gt1 hi (fun h => h1 ?_) (fun h => h2 ?_) <;> revert h <;> split <;> intro h
  · omega
  · split at h <;> omega
  · omega
  · split at h <;> omega
theorem st2_in {β : Type} {lv : List Nat} {i v : Nat} {kk : List Nat → Option β} (hi : i + 1 < lv.length) (h7 : i = 0 ∨ rx_get 7 (lv.set (i + 1) 7) (i - 1) % 8 ≠ 1) : rx_st2 lv i v kk = kk ((lv.set (i + 1) 7).set i v) := by
  unfold rx_st2
  rw [rx_set_in hi]
  exact st1_in (by rw [List.length_set]; omega) h7
theorem g_stL {i : Nat} {v : Int} {lv' : List Nat} (hi : i + 1 < lv.length) (h7 : i = 0 ∨ rx_get 7 (lv.set (i + 1) 7) (i - 1) % 8 ≠ 1) (hs : (lv.set (i + 1) 7).set i (cL v) = lv') (hk : Tg S k lv' st G Q) : Tg S (o_stL i k) lv (cL v :: st) G Q := fun ht H he => t_eq2 (g := k) (lv' := lv') (st' := st) (fun h _ _ => by
  show (bif rx_isL (cL v) then rx_st2 lv i (cL v) fun lv' => k lv' st h else none) = _
  rw [is_L, cond_true, st2_in hi h7, hs]) (hk ht H he)
-- ends
theorem g_ret1 {chk : Nat → Bool} {v : Nat} (hc : chk v = true) (hq : Q v G) : Tg S (o_ret1 chk) lv [v] G Q := fun ht H he => t_ret1 hc ⟨G, he, ht, hq⟩
theorem g_ret0 (hq : Q 7 G) : Tg S o_ret0 lv [] G Q := fun ht H he => t_ret0 ⟨G, he, ht, hq⟩
-- calls
theorem g_go {g : List Nat → rx_H → Option (Nat × rx_H)} {As rest : List Nat} (h8 : rx_cs rest ≤ 8) (hm : Tn S g As G fun r G' => if r % 8 = 7 then Tg S k lv rest G' Q else Tg S k lv (r :: rest) G' Q) : Tg S (fun lv _ h => rx_go g As rest lv h k) lv st G Q := fun ht H he => t_go h8 (Tm_w (hm ht H he) fun r H' ⟨G', a, b, c⟩ => by
  have c : if r % 8 = 7 then Tg S k lv rest G' Q else Tg S k lv (r :: rest) G' Q := c
  by_cases q : r % 8 = 7
  · rw [if_pos q] at c ⊢; exact c b H' a
  · rw [if_neg q] at c ⊢; exact c b H' a)
theorem g_go0 {g : List Nat → rx_H → Option (Nat × rx_H)} {As rest : List Nat} (h8 : rx_cs rest ≤ 8) (hm : Tn S g As G fun r G' => r = 7 ∧ Tg S k lv rest G' Q) : Tg S (fun lv _ h => rx_go g As rest lv h k) lv st G Q := g_go h8 (Tn_w hm fun r G' ⟨e, c⟩ => by rw [e, if_pos rfl]; exact c)
theorem g_go1 {g : List Nat → rx_H → Option (Nat × rx_H)} {As rest : List Nat} (h8 : rx_cs rest ≤ 8) (hm : Tn S g As G fun r G' => r % 8 ≠ 7 ∧ Tg S k lv (r :: rest) G' Q) : Tg S (fun lv _ h => rx_go g As rest lv h k) lv st G Q := g_go h8 (Tn_w hm fun r G' ⟨e, c⟩ => by rw [if_neg e]; exact c)
theorem cs_0 : rx_cs [] = 0 := rfl
theorem cs_c (a : Nat) (l : List Nat) : rx_cs (a :: l) = rx_ct a + rx_cs l := by simp [rx_cs]
theorem g_callV {n ci : Nat} {g : List Nat → rx_H → Option (Nat × rx_H)} {o : Int} {As rest : List Nat} (ho : isO S ci o) (hn : ∀ {β : Type} (kk : List Nat → List Nat → Option β), rx_take n st [] kk = kk As (rf o :: rest)) (hk : Tg S (fun lv _ h => rx_go g (rf o :: As) rest lv h k) lv st G Q) : Tg S (o_callV n ci g k) lv st G Q := fun ht H he => t_eq2 (g := fun lv _ h => rx_go g (rf o :: As) rest lv h k) (lv' := lv) (st' := st) (fun h hw _ => by
  show rx_take n st [] _ = _
  rw [hn]
  show rx_ob h (rf o) ci (fun _ => rx_go g (rf o :: As) rest lv h k) = _
  rw [rf_p ho.1]
  obtain ⟨fs, us, -, -, e2⟩ := ob_in (kk := fun _ => rx_go g ((8 * o.toNat + 2) :: As) rest lv h k) hw ho.2.1 ho.2.2
  exact e2) (hk ht H he)
theorem g_callS {n : Nat} {g : List Nat → rx_H → Option (Nat × rx_H)} {As rest : List Nat} (hn : ∀ {β : Type} (kk : List Nat → List Nat → Option β), rx_take n st [] kk = kk As rest) (hk : Tg S (fun lv _ h => rx_go g As rest lv h k) lv st G Q) : Tg S (o_callS n g k) lv st G Q := fun ht H he => t_eq2 (g := fun lv _ h => rx_go g As rest lv h k) (lv' := lv) (st' := st) (fun h _ _ => by
  show rx_take n st [] _ = _
  rw [hn]) (hk ht H he)
-- a method's entry: arguments that are long take two places
def fl (As Bs : List Nat) : Prop := rx_fl As = Bs ∧ rx_cs As = Bs.length
theorem fl0 : fl [] [] := ⟨rfl, rfl⟩
theorem flc {a : Nat} {As Bs : List Nat} (h : a % 8 ≠ 1) (hs : fl As Bs) : fl (a :: As) (a :: Bs) := by
  have ha : Nat.beq (a % 8) 1 = false := by rw [Bool.eq_false_iff]; exact fun q => h (rx_beq q)
  obtain ⟨h1, h2⟩ := hs
  constructor
  · show (bif Nat.beq (a % 8) 1 then [a, 7] else [a]) ++ rx_fl As = _
    rw [ha, h1]; rfl
  · rw [cs_c, h2]; unfold rx_ct; rw [ha]
    show 1 + Bs.length = Bs.length + 1
    omega
theorem flI {g : Int} {As Bs : List Nat} (hs : fl As Bs) : fl (cI g :: As) (cI g :: Bs) := flc (n1_I g) hs
theorem flR {g : Int} {As Bs : List Nat} (hs : fl As Bs) : fl (rf g :: As) (rf g :: Bs) := flc (n1_R g) hs
theorem flL {g : Int} {As Bs : List Nat} (hs : fl As Bs) : fl (cL g :: As) (cL g :: 7 :: Bs) := by
  obtain ⟨h1, h2⟩ := hs
  constructor
  · show (bif Nat.beq (cL g % 8) 1 then [cL g, 7] else [cL g]) ++ rx_fl As = _
    rw [cL_1, h1]; rfl
  · rw [cs_c, h2, ct_L]
    show 2 + Bs.length = Bs.length + 1 + 1
    omega
theorem g_ent {nL : Nat} {As Bs lv' : List Nat} (hf : fl As Bs) (h1 : Bs.length ≤ nL) (hl : Bs ++ rx_pad (nL - Bs.length) = lv') (hk : Tg S f lv' [] G Q) : Tn S (rx_ent nL f) As G Q := fun ht H he => t_ent (by rw [hf.2]; exact h1) (by rw [hf.1, hf.2]) (by rw [hf.1, hf.2, hl]; exact hk ht H he)
-- loops: a measure that falls
theorem g_loop {bs : (Nat → rx_K) → List rx_K} (P : Nat → Nat → List Nat → gS → Prop) (hb : ∀ (j : Nat → rx_K) (h m : Nat) (lv : List Nat) (G : gS), P h m lv G → (∀ (h' m' : Nat) (lv' : List Nat) (G' : gS), m' < m → P h' m' lv' G' → Tg S (j h') lv' [] G' Q) → Tg S (rx_nth (bs j) h o_none) lv [] G Q) : ∀ (N h m : Nat) (lv : List Nat) (G : gS), m < N → P h m lv G → Tg S (rx_J bs N h) lv [] G Q
  | 0, _, _, _, _, hm, _ => absurd hm (Nat.not_lt_zero _)
  | N + 1, h, m, lv, G, hm, hp => hb (rx_J bs N) h m lv G hp (fun h' m' lv' G' hm' hp' => g_loop P hb N h' m' lv' G' (by omega) hp')
end
end TG

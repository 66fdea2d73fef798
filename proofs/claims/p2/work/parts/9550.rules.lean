section RU
variable {S : hW} {k f t : rx_K} {lv st : List Nat} {G : gS} {Q : Nat → gS → Prop}
theorem inL_I {g : Int} (h : inI g) : inL g := by
  unfold inI at h
  unfold inL
  omega
theorem inI_b8 (g : Int) : inI (b8 g) := by
  unfold inI b8
  omega
theorem same_R {a b : Int} (ha : -1 ≤ a) (hb : -1 ≤ b) : rx_same (rf a) (rf b) = some (decide (a = b)) := by
  unfold rx_same
  by_cases a0 : a < 0
  · rw [rf_n a0]
    by_cases b0 : b < 0
    · rw [rf_n b0, decide_eq_true (show a = b by omega)]; rfl
    · rw [rf_p (by omega), show (8 * b.toNat + 2) % 8 = 2 by omega, decide_eq_false (show ¬ a = b by omega)]; rfl
  · rw [rf_p (show 0 ≤ a by omega)]
    by_cases b0 : b < 0
    · rw [rf_n b0, show (8 * a.toNat + 2) % 8 = 2 by omega, decide_eq_false (show ¬ a = b by omega)]; rfl
    · rw [rf_p (by omega), show (8 * b.toNat + 2) % 8 = 2 by omega, show (8 * a.toNat + 2) % 8 = 2 by omega, show (8 * b.toNat + 2) / 8 = b.toNat by omega, show (8 * a.toNat + 2) / 8 = a.toNat by omega]
      show some (Nat.beq a.toNat b.toNat) = _
      by_cases e : a = b
      · rw [decide_eq_true e, e]; simp
      · rw [decide_eq_false e, show Nat.beq a.toNat b.toNat = false by rw [Bool.eq_false_iff]; exact fun q => e (by have := rx_beq q; omega)]
theorem g_acmp {x y : Int} (hx : -1 ≤ x) (hy : -1 ≤ y) (h1 : x = y → Tg S t lv st G Q) (h2 : ¬ (x = y) → Tg S f lv st G Q) : Tg S (o_acmp t f) lv (rf y :: rf x :: st) G Q := fun ht H he => by
  by_cases q : x = y
  · refine t_eq2 (fun h _ _ => ?_) (h1 q ht H he)
    show (match rx_same (rf x) (rf y) with | some b => bif b then t lv st h else f lv st h | none => none) = _
    rw [same_R hx hy, decide_eq_true q]; rfl
  · refine t_eq2 (fun h _ _ => ?_) (h2 q ht H he)
    show (match rx_same (rf x) (rf y) with | some b => bif b then t lv st h else f lv st h | none => none) = _
    rw [same_R hx hy, decide_eq_false q]; rfl
theorem g_aldRF {tt c : Nat} {a n i : Int} (ha : isA S tt n a) (h0 : 0 ≤ i) (hi : i < n) (hf : aT tt = c + 10) (hc : c < 20) (hk : ((G a i = -1 ∨ isO S c (G a i)) ∧ ∀ v, S.2 a i = some v → G a i = v) → Tg S k lv (rf (G a i) :: st) G Q) : Tg S (o_ald tt k) lv (cI i :: rf a :: st) G Q := g_ty fun ht => g_aldR ha h0 hi hf hc fun q => hk ⟨q, fun v hv => ht.2 _ _ _ hv⟩
theorem g_aldA {tt c : Nat} {a n i : Int} (ha : isA S tt n a) (h0 : 0 ≤ i) (hi : i < n) (hf : aT tt = c + 30) (hk : ((G a i = -1 ∨ ∃ n, isA S c n (G a i)) ∧ ∀ v, S.2 a i = some v → G a i = v) → Tg S k lv (rf (G a i) :: st) G Q) : Tg S (o_ald tt k) lv (cI i :: rf a :: st) G Q := g_ty fun ht => g_ald ha h0 hi (by
  rw [hf, enc_R (by omega)]
  exact fun q => hk ⟨ok_A (t := c + 30) (by omega) q, fun v hv => ht.2 _ _ _ hv⟩)
-- dividing
def idiv (a b : Int) : Int := (Int32.ofInt a / Int32.ofInt b).toInt
def irem (a b : Int) : Int := (Int32.ofInt a - Int32.ofInt a / Int32.ofInt b * Int32.ofInt b).toInt
def ldiv (a b : Int) : Int := (Int64.ofInt a / Int64.ofInt b).toInt
def lrem (a b : Int) : Int := (Int64.ofInt a - Int64.ofInt a / Int64.ofInt b * Int64.ofInt b).toInt
theorem g_bin {g : Int32 → Int32 → Int32} {x y : Int} (hy : inI y) (h0 : y ≠ 0) (hk : inI (g (Int32.ofInt x) (Int32.ofInt y)).toInt → Tg S k lv (cI (g (Int32.ofInt x) (Int32.ofInt y)).toInt :: st) G Q) : Tg S (o_bin g k) lv (cI y :: cI x :: st) G Q := fun ht H he => t_eq2 (g := k) (lv' := lv) (st' := cI (g (Int32.ofInt x) (Int32.ofInt y)).toInt :: st) (fun h _ _ => by
  show (bif Nat.beq (cI y % 8) 0 && (Nat.beq (cI x % 8) 0 && !decide (rx_di (cI y) = 0)) then rx_f (rx_ei (g (rx_di (cI x)) (rx_di (cI y)))) fun v => k lv (v :: st) h else none) = _
  have e : ¬ Int32.ofInt y = 0 := fun q => h0 (by
    have q2 := congrArg Int32.toInt q
    rw [ti_I hy] at q2
    exact q2)
  rw [cI_0, cI_0, di_I, di_I, decide_eq_false e, show (Nat.beq 0 0 && (Nat.beq 0 0 && !false)) = true from rfl, cond_true, rx_f_eq, eI]) (hk (in_x _) ht H he)
theorem g_idiv {x y : Int} (hy : inI y) (h0 : y ≠ 0) (hk : inI (idiv x y) → Tg S k lv (cI (idiv x y) :: st) G Q) : Tg S (o_bin (fun x y => x / y) k) lv (cI y :: cI x :: st) G Q := g_bin hy h0 hk
theorem g_irem {x y : Int} (hy : inI y) (h0 : y ≠ 0) (hk : inI (irem x y) → Tg S k lv (cI (irem x y) :: st) G Q) : Tg S (o_bin (fun x y => x - x / y * y) k) lv (cI y :: cI x :: st) G Q := g_bin hy h0 hk
theorem g_bln {g : Int64 → Int64 → Int64} {x y : Int} (hy : inL y) (h0 : y ≠ 0) (hk : inL (g (Int64.ofInt x) (Int64.ofInt y)).toInt → Tg S k lv (cL (g (Int64.ofInt x) (Int64.ofInt y)).toInt :: st) G Q) : Tg S (o_bln g k) lv (cL y :: cL x :: st) G Q := fun ht H he => t_eq2 (g := k) (lv' := lv) (st' := cL (g (Int64.ofInt x) (Int64.ofInt y)).toInt :: st) (fun h _ _ => by
  show (bif Nat.beq (cL y % 8) 1 && (Nat.beq (cL x % 8) 1 && !decide (rx_dl (cL y) = 0)) then rx_f (rx_el (g (rx_dl (cL x)) (rx_dl (cL y)))) fun v => k lv (v :: st) h else none) = _
  have e : ¬ Int64.ofInt y = 0 := fun q => h0 (by
    have q2 := congrArg Int64.toInt q
    rw [tl_L hy] at q2
    exact q2)
  rw [cL_1, cL_1, dl_L, dl_L, decide_eq_false e, show (Nat.beq 1 1 && (Nat.beq 1 1 && !false)) = true from rfl, cond_true, rx_f_eq, eL]) (hk (in_xL _) ht H he)
theorem g_ldiv {x y : Int} (hy : inL y) (h0 : y ≠ 0) (hk : inL (ldiv x y) → Tg S k lv (cL (ldiv x y) :: st) G Q) : Tg S (o_bln (fun x y => x / y) k) lv (cL y :: cL x :: st) G Q := g_bln hy h0 hk
theorem g_lrem {x y : Int} (hy : inL y) (h0 : y ≠ 0) (hk : inL (lrem x y) → Tg S k lv (cL (lrem x y) :: st) G Q) : Tg S (o_bln (fun x y => x - x / y * y) k) lv (cL y :: cL x :: st) G Q := g_bln hy h0 hk
theorem g_lneg {x : Int} (hk : Tg S k lv (cL (-x) :: st) G Q) : Tg S (o_ul (fun x => -x) k) lv (cL x :: st) G Q := fun ht H he => t_eq2 (g := k) (lv' := lv) (st' := cL (-x) :: st) (fun h _ _ => by
  show (bif Nat.beq (cL x % 8) 1 then rx_f (rx_el (-(rx_dl (cL x)))) fun v => k lv (v :: st) h else none) = _
  rw [cL_1, dl_L, ← Int64.ofInt_neg, el_L, show Nat.beq 1 1 = true from rfl, cond_true, rx_f_eq]) (hk ht H he)
-- Math.min, max
theorem inI_min {x y : Int} (hx : inI x) (hy : inI y) : inI (if y < x then y else x) := by split <;> assumption
theorem inI_max {x y : Int} (hx : inI x) (hy : inI y) : inI (if x < y then y else x) := by split <;> assumption
theorem g_min {x y : Int} (hx : inI x) (hy : inI y) (h8 : rx_cs st ≤ 8) (hk : Tg S k lv (cI (if y < x then y else x) :: st) G Q) : Tg S (o_mm z_min k) lv (cI y :: cI x :: st) G Q := fun ht H he => t_eq2 (g := k) (lv' := lv) (st' := cI (if y < x then y else x) :: st) (fun h _ _ => by
  show (bif Nat.beq (cI y % 8) 0 && (Nat.beq (cI x % 8) 0 && Nat.ble (rx_cs st) 8) then rx_f (z_min (cI x) (cI y)) fun v => k lv (v :: st) h else none) = _
  rw [cI_0, cI_0, Nat.ble_eq_true_of_le h8, show (Nat.beq 0 0 && (Nat.beq 0 0 && true)) = true from rfl, cond_true, rx_f_eq]
  unfold z_min
  by_cases q : y < x
  · rw [if_pos ((lt_I hy hx).mpr q), if_pos q]
  · rw [if_neg (fun z => q ((lt_I hy hx).mp z)), if_neg q]) (hk ht H he)
theorem g_max {x y : Int} (hx : inI x) (hy : inI y) (h8 : rx_cs st ≤ 8) (hk : Tg S k lv (cI (if x < y then y else x) :: st) G Q) : Tg S (o_mm z_max k) lv (cI y :: cI x :: st) G Q := fun ht H he => t_eq2 (g := k) (lv' := lv) (st' := cI (if x < y then y else x) :: st) (fun h _ _ => by
  show (bif Nat.beq (cI y % 8) 0 && (Nat.beq (cI x % 8) 0 && Nat.ble (rx_cs st) 8) then rx_f (z_max (cI x) (cI y)) fun v => k lv (v :: st) h else none) = _
  rw [cI_0, cI_0, Nat.ble_eq_true_of_le h8, show (Nat.beq 0 0 && (Nat.beq 0 0 && true)) = true from rfl, cond_true, rx_f_eq]
  unfold z_max
  by_cases q : x < y
  · rw [if_pos ((lt_I hx hy).mpr q), if_pos q]
  · rw [if_neg (fun z => q ((lt_I hx hy).mp z)), if_neg q]) (hk ht H he)
-- a row of references is written
theorem g_aastR {tt c : Nat} {a n i v : Int} (ha : isA S tt n a) (h0 : 0 ≤ i) (hi : i < n) (hf : aT tt = c + 10) (hc : c < 20) (hv : v = -1 ∨ isO S c v) (hn : S.2 a i = none) (hk : Tg S k lv st (uG G a i v) Q) : Tg S (o_aast tt [c] k) lv (rf v :: cI i :: rf a :: st) G Q := fun ht H he => by
  have e0 : enc (aT tt) v = rf v := by rw [hf]; exact enc_R (by omega) v
  have o0 : okG S (aT tt) v := by rw [hf]; exact mk_O (t := c + 10) (by omega) (by omega) hv
  rcases hv with hv | hv
  · refine t_eq2 (g := o_ast tt (fun v => v) rx_isN k) (lv' := lv) (st' := rf v :: cI i :: rf a :: st) (fun h _ _ => ?_) (g_ast (w := rf v) (gg := fun v => v) (chk := rx_isN) (by rw [rf_n (show v < 0 by omega)]; rfl) ha h0 hi e0 o0 hn hk ht H he)
    show (bif rx_isN (rf v) then o_ast tt (fun v => v) rx_isN k lv (rf v :: cI i :: rf a :: st) h else _) = _
    rw [rf_n (by omega)]; rfl
  · refine t_eq2 (g := o_ast tt (fun v => v) (fun w => Nat.beq w (rf v)) k) (lv' := lv) (st' := rf v :: cI i :: rf a :: st) (fun h hw _ => ?_) (g_ast (w := rf v) (gg := fun v => v) (chk := fun w => Nat.beq w (rf v)) (show Nat.beq (rf v) (rf v) = true by simp) ha h0 hi e0 o0 hn hk ht H he)
    obtain ⟨v1, v2, v3⟩ := hv
    show (bif rx_isN (rf v) then _ else bif Nat.beq (rf v % 8) 2 && Nat.blt (rf v / 8) h.1 then (match rx_hg h (rf v / 8) with
      | (z, c', _, _, _) => bif Nat.beq z 0 && [c].any (Nat.beq c') then o_ast tt (fun v => v) (fun w => Nat.beq w (rf v)) k lv (rf v :: cI i :: rf a :: st) h else none) else none) = _
    obtain ⟨fs, us, e, -, -⟩ := ob_in (β := Nat) (kk := fun _ => none) hw v2 v3
    have n2 : rx_isN (rf v) = false := by unfold rx_isN; rw [rf_p v1, show (8 * v.toNat + 2) % 8 = 2 by omega]; rfl
    rw [n2, cond_false, rf_p v1, show (8 * v.toNat + 2) % 8 = 2 by omega, show (8 * v.toNat + 2) / 8 = v.toNat by omega, hw.1, show Nat.blt v.toNat S.1.2.2.1 = true from Nat.ble_eq_true_of_le v2, e]
    show (bif Nat.beq 0 0 && [c].any (Nat.beq c) then _ else none) = _
    rw [show ([c].any (Nat.beq c)) = true by simp]; rfl
-- switches
theorem g_swI {lo n dt : Nat} {ts : List Nat} {j : Nat → rx_K} {x : Int} (hx : x = lo + n) (h1 : lo + n < 2147483648) (hk : Tg S (j (rx_nth ts n dt)) lv st G Q) : Tg S (o_sw lo ts dt j) lv (cI x :: st) G Q := fun ht H he => t_eq2 (g := j (rx_nth ts n dt)) (lv' := lv) (st' := st) (fun h _ _ => by
  show (bif Nat.beq (cI x % 8) 0 then rx_f (rx_nth ts ((cI x / 8 + (4294967296 - lo)) % 4294967296) dt) fun b => j b lv st h else none) = _
  have e : (cI x / 8 + (4294967296 - lo)) % 4294967296 = n := by unfold cI; omega
  rw [cI_0, e, show Nat.beq 0 0 = true from rfl, cond_true, rx_f_eq]) (hk ht H he)
theorem nth_end {α : Type} {d : α} : ∀ {l : List α} {n : Nat}, l.length ≤ n → rx_nth l n d = d
  | [], _, _ => rfl
  | _ :: l, 0, h => absurd h (by simp)
  | _ :: l, n + 1, h => nth_end (l := l) (n := n) (by simpa using h)
theorem g_swD {lo m dt : Nat} {ts : List Nat} {j : Nat → rx_K} {x : Int} (hi : inI x) (hm : ts.length = m) (hx : x < lo ∨ lo + m ≤ x) (h1 : lo + m < 2147483648) (hk : Tg S (j dt) lv st G Q) : Tg S (o_sw lo ts dt j) lv (cI x :: st) G Q := fun ht H he => t_eq2 (g := j dt) (lv' := lv) (st' := st) (fun h _ _ => by
  show (bif Nat.beq (cI x % 8) 0 then rx_f (rx_nth ts ((cI x / 8 + (4294967296 - lo)) % 4294967296) dt) fun b => j b lv st h else none) = _
  have e : m ≤ (cI x / 8 + (4294967296 - lo)) % 4294967296 := by unfold inI at hi; unfold cI; omega
  rw [cI_0, nth_end (by rw [hm]; exact e), show Nat.beq 0 0 = true from rfl, cond_true, rx_f_eq]) (hk ht H he)
-- final fields whose place is not told by the class alone
theorem g_getRF {ci k0 c : Nat} {o kz : Int} (ho : isO S ci o) (hkz : (k0 : Int) = kz) (hk0 : k0 < nF ci) (hf : fT ci k0 = c + 10) (hc : c < 20) (hk : ((G o kz = -1 ∨ isO S c (G o kz)) ∧ ∀ v, S.2 o kz = some v → G o kz = v) → Tg S k lv (rf (G o kz) :: st) G Q) : Tg S (o_getf ci k0 k) lv (rf o :: st) G Q := g_ty fun ht => g_getR ho hkz hk0 hf hc fun q => hk ⟨q, fun v hv => ht.2 _ _ _ hv⟩
theorem g_getAF {ci k0 c : Nat} {o kz : Int} (ho : isO S ci o) (hkz : (k0 : Int) = kz) (hk0 : k0 < nF ci) (hf : fT ci k0 = c + 30) (hk : ((G o kz = -1 ∨ ∃ n, isA S c n (G o kz)) ∧ ∀ v, S.2 o kz = some v → G o kz = v) → Tg S k lv (rf (G o kz) :: st) G Q) : Tg S (o_getf ci k0 k) lv (rf o :: st) G Q := g_ty fun ht => g_getA ho hkz hk0 hf fun q => hk ⟨q, fun v hv => ht.2 _ _ _ hv⟩
theorem Tn_eq {F : List Nat → rx_H → Option (Nat × rx_H)} {As : List Nat} {v w : Int} (e : v = w) (h : Tn S F (rf w :: As) G Q) : Tn S F (rf v :: As) G Q := by rw [e]; exact h
end RU
noncomputable def ck1o (ci c0 : Nat) (c : Nat) : Bool := bif Nat.beq (k0 c).1 0 && Nat.beq (k0 c).2.1 ci then Nat.beq c c0 else true
theorem ck1o_ok {ci c0 : Nat} (h : allB (ck1o ci c0) 14 0 = true) {o : Int} (ho : isO W0 ci o) : o = c0 := by
  obtain ⟨h1, h2, h3⟩ := ho
  have h4 := allB_ok h o.toNat (Nat.zero_le _) (by have : o.toNat < 16217 := h2; omega)
  unfold ck1o at h4
  rw [show k0 o.toNat = (0, ci, nF ci) from h3] at h4
  have h5 : (bif Nat.beq 0 0 && Nat.beq ci ci then Nat.beq o.toNat c0 else true) = true := h4
  rw [show Nat.beq ci ci = true by simp, show Nat.beq 0 0 = true from rfl, Bool.and_self, cond_true] at h5
  have h6 := rx_beq h5
  omega
theorem one0 {o : Int} (ho : isO W0 0 o) : o = 815 := ck1o_ok (c0 := 815) (by decide +kernel) ho
theorem one2 {o : Int} (ho : isO W0 2 o) : o = 934 := ck1o_ok (c0 := 934) (by decide +kernel) ho
theorem one3 {o : Int} (ho : isO W0 3 o) : o = 820 := ck1o_ok (c0 := 820) (by decide +kernel) ho
theorem one4 {o : Int} (ho : isO W0 4 o) : o = 814 := ck1o_ok (c0 := 814) (by decide +kernel) ho
theorem one6 {o : Int} (ho : isO W0 6 o) : o = 938 := ck1o_ok (c0 := 938) (by decide +kernel) ho
theorem one9 {o : Int} (ho : isO W0 9 o) : o = 7 := ck1o_ok (c0 := 7) (by decide +kernel) ho
theorem one12 {o : Int} (ho : isO W0 12 o) : o = 0 := ck1o_ok (c0 := 0) (by decide +kernel) ho
theorem one13 {o : Int} (ho : isO W0 13 o) : o = 16081 := ck1o_ok (c0 := 16081) (by decide +kernel) ho

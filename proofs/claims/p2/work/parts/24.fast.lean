section RX24
variable {V : rx_V} {M : rx_M} {d pc : Nat} {f t : rx_K}
-- the same steps once more, written so that the kernel is quick with them; each is the one that was proved
noncomputable def rx_un {β : Type} (st : List Nat) (k : Nat → List Nat → Option β) : Option β := List.rec (motive := fun _ => Option β) none (fun v r _ => k v r) st
noncomputable def rx_if {β : Type} (b : Bool) (x y : Option β) : Option β := Bool.rec (motive := fun _ => Option β) y x b
theorem rx_if_eq {β : Type} (b : Bool) (x y : Option β) : rx_if b x y = bif b then x else y := by cases b <;> rfl
theorem rx_if_and {β : Type} (a b : Bool) (x y : Option β) : rx_if a (rx_if b x y) y = bif a && b then x else y := by cases a <;> cases b <;> rfl
noncomputable def q_isI (c : Nat) : Bool := Bool.rec (motive := fun _ => Bool) (rx_isI c) true (Nat.beq (Nat.mod c 8) 0)
noncomputable def q_isR (c : Nat) : Bool := Bool.rec (motive := fun _ => Bool) (rx_isR c) true (Nat.beq (Nat.mod c 8) 2)
noncomputable def q_isL (c : Nat) : Bool := Nat.beq (Nat.mod c 8) 1
theorem e_isI : q_isI = rx_isI := by
  funext c
  unfold q_isI
  cases h : Nat.beq (Nat.mod c 8) 0 with
  | false => rfl
  | true => unfold rx_isI; rw [show Nat.beq (c % 8) 0 = true from h]; rfl
theorem e_isR : q_isR = rx_isR := by
  funext c
  unfold q_isR
  cases h : Nat.beq (Nat.mod c 8) 2 with
  | false => rfl
  | true => unfold rx_isR; rw [show Nat.beq (c % 8) 2 = true from h]; rfl
theorem e_isL : q_isL = rx_isL := rfl
noncomputable def q_ld (chk : Nat → Bool) (i : Nat) (k : rx_K) : rx_K := fun lv st h => rx_f (rx_get 7 lv i) fun c => rx_if (chk c) (k lv (c :: st) h) none
theorem e_ld (chk : Nat → Bool) (i : Nat) (k : rx_K) : q_ld chk i k = o_ld chk i k := by
  funext lv st h
  simp only [q_ld, o_ld, rx_if_eq]
noncomputable def q_st1 {β : Type} (lv : List Nat) (i v : Nat) (k : List Nat → Option β) : Option β :=
  rx_set lv i v fun l1 => Nat.rec (motive := fun _ => Option β) (k l1) (fun j _ => rx_if (Nat.beq (Nat.mod (rx_get 7 lv j) 8) 1) (rx_set l1 j 7 k) (k l1)) i
theorem e_st1 {β : Type} (lv : List Nat) (i v : Nat) (k : List Nat → Option β) : q_st1 lv i v k = rx_st1 lv i v k := by
  unfold q_st1 rx_st1
  congr 1
  funext l1
  cases i with
  | zero => rfl
  | succ j => exact rx_if_eq _ _ _
noncomputable def q_st (chk : Nat → Bool) (i : Nat) (k : rx_K) : rx_K := fun lv st h => rx_un st fun v r => rx_if (chk v) (q_st1 lv i v fun lv' => k lv' r h) none
theorem e_st (chk : Nat → Bool) (i : Nat) (k : rx_K) : q_st chk i k = o_st chk i k := by
  funext lv st h
  cases st with
  | nil => rfl
  | cons v r => exact (rx_if_eq _ _ _).trans (by simp only [e_st1, o_st])
-- numbers
theorem rx_di_nat (c : Nat) : (rx_di c).toBitVec.toNat = c / 8 % 4294967296 := by
  unfold rx_di
  simp
theorem rx_add_n {x y : Nat} {a b : Int32} (hx : x % 8 = 0) (hy : y % 8 = 0) (ha : a.toBitVec.toNat = x / 8 % 4294967296) (hb : b.toBitVec.toNat = y / 8 % 4294967296) : rx_ei (a + b) = Nat.mod (Nat.add x y) 34359738368 := by
  show 8 * (a + b).toBitVec.toNat = (x + y) % 34359738368
  rw [Int32.toBitVec_add, BitVec.toNat_add, ha, hb]
  omega
noncomputable def q_inc (i N : Nat) (k : rx_K) : rx_K := fun lv st h => rx_f (rx_get 7 lv i) fun c => rx_if (Nat.beq (Nat.mod c 8) 0) (rx_f (Nat.mod (Nat.add c N) 34359738368) fun v => q_st1 lv i v fun lv' => k lv' st h) none
theorem e_inc {i N : Nat} {n : Int} (hN : N = 8 * (Int32.ofInt n).toBitVec.toNat) (k : rx_K) : q_inc i N k = o_inc i n k := by
  funext lv st h
  simp only [q_inc, o_inc, rx_if_eq, e_st1, rx_f_eq]
  cases hc : Nat.beq (Nat.mod (rx_get 7 lv i) 8) 0 with
  | false => rfl
  | true =>
    rw [cond_true, cond_true]
    have h8 : rx_get 7 lv i % 8 = 0 := rx_beq hc
    have hlt : (Int32.ofInt n).toBitVec.toNat < 4294967296 := (Int32.ofInt n).toBitVec.isLt
    rw [rx_add_n h8 (by omega : N % 8 = 0) (rx_di_nat _) (by omega)]
noncomputable def q_bi (F : Nat → Nat → Nat) (k : rx_K) : rx_K := fun lv st h => rx_un st fun y r1 => rx_un r1 fun x r => rx_if (Nat.beq (Nat.mod y 8) 0) (rx_if (Nat.beq (Nat.mod x 8) 0) (rx_f (F x y) fun v => k lv (v :: r) h) none) none
theorem e_bi {F : Nat → Nat → Nat} {g : Int32 → Int32 → Int32} (hF : ∀ x y : Nat, x % 8 = 0 → y % 8 = 0 → F x y = rx_ei (g (rx_di x) (rx_di y))) (k : rx_K) : q_bi F k = o_bi g k := by
  funext lv st h
  match st with
  | [] => rfl
  | [_] => rfl
  | y :: x :: r =>
    show rx_if (Nat.beq (Nat.mod y 8) 0) (rx_if (Nat.beq (Nat.mod x 8) 0) _ none) none = _
    rw [rx_if_and]
    show (bif Nat.beq (y % 8) 0 && Nat.beq (x % 8) 0 then _ else none) = (bif Nat.beq (y % 8) 0 && Nat.beq (x % 8) 0 then _ else none)
    cases hc : Nat.beq (y % 8) 0 && Nat.beq (x % 8) 0 with
    | false => rfl
    | true =>
      obtain ⟨hy, hx⟩ := Bool.and_eq_true_iff.mp hc
      rw [cond_true, cond_true, hF x y (rx_beq hx) (rx_beq hy)]
noncomputable def q_Fadd (x y : Nat) : Nat := Nat.mod (Nat.add x y) 34359738368
noncomputable def q_Fsub (x y : Nat) : Nat := Nat.mod (Nat.add x (Nat.sub 34359738368 (Nat.mod y 34359738368))) 34359738368
noncomputable def q_Fmul (x y : Nat) : Nat := Nat.mod (Nat.mul x (Nat.div y 8)) 34359738368
theorem e_add (k : rx_K) : q_bi q_Fadd k = o_bi (fun x y => x + y) k := e_bi (fun x y hx hy => (rx_add_n hx hy (rx_di_nat _) (rx_di_nat _)).symm) k
theorem e_sub (k : rx_K) : q_bi q_Fsub k = o_bi (fun x y => x - y) k := e_bi (fun x y hx hy => by
  show (x + (34359738368 - y % 34359738368)) % 34359738368 = 8 * (rx_di x - rx_di y).toBitVec.toNat
  rw [Int32.toBitVec_sub, BitVec.toNat_sub, rx_di_nat, rx_di_nat]
  omega) k
theorem e_mul (k : rx_K) : q_bi q_Fmul k = o_bi (fun x y => x * y) k := e_bi (fun x y hx hy => by
  show (x * (y / 8)) % 34359738368 = 8 * (rx_di x * rx_di y).toBitVec.toNat
  rw [Int32.toBitVec_mul, BitVec.toNat_mul, rx_di_nat, rx_di_nat]
  have h1 : x = 8 * (x / 8) := by omega
  generalize x / 8 = a at h1 ⊢
  generalize y / 8 = b
  subst h1
  show 8 * a * b % 34359738368 = 8 * (a % 4294967296 * (b % 4294967296) % 4294967296)
  rw [← Nat.mul_mod, Nat.mul_assoc, show 34359738368 = 8 * 4294967296 from rfl, Nat.mul_mod_mul_left]) k
-- compares
noncomputable def q_cx (x y : Nat) : Bool := Nat.ble (Nat.succ (Nat.mod (Nat.add x 17179869184) 34359738368)) (Nat.mod (Nat.add y 17179869184) 34359738368)
theorem q_cx_ok {x y : Nat} (hx : x % 8 = 0) (hy : y % 8 = 0) : q_cx x y = decide (rx_di x < rx_di y) := by
  have h1 := rx_di_int x
  have h2 := rx_di_int y
  have key : (rx_di x < rx_di y) ↔ (x + 17179869184) % 34359738368 < (y + 17179869184) % 34359738368 := by
    rw [Int32.lt_iff_toInt_lt, h1, h2, Int.bmod_def, Int.bmod_def]
    have e1 : ((x / 8 : Nat) : Int) % (4294967296 : Nat) = ((x / 8 % 4294967296 : Nat) : Int) := by omega
    have e2 : ((y / 8 : Nat) : Int) % (4294967296 : Nat) = ((y / 8 % 4294967296 : Nat) : Int) := by omega
    have a1 : x / 8 % 4294967296 < 4294967296 := Nat.mod_lt _ (by decide)
    have a2 : y / 8 % 4294967296 < 4294967296 := Nat.mod_lt _ (by decide)
    have b1 : (x + 17179869184) % 34359738368 = 8 * ((x / 8 % 4294967296 + 2147483648) % 4294967296) := by omega
    have b2 : (y + 17179869184) % 34359738368 = 8 * ((y / 8 % 4294967296 + 2147483648) % 4294967296) := by omega
    rw [b1, b2]
    have c1 : ((x : Int) / 8) % 4294967296 = ((x / 8 % 4294967296 : Nat) : Int) := by omega
    have c2 : ((y : Int) / 8) % 4294967296 = ((y / 8 % 4294967296 : Nat) : Int) := by omega
    generalize x / 8 % 4294967296 = a at *
    generalize y / 8 % 4294967296 = b at *
    split <;> split <;> omega
  show Nat.ble ((x + 17179869184) % 34359738368 + 1) ((y + 17179869184) % 34359738368) = _
  rw [decide_eq_decide.mpr key]
  cases q : Nat.ble ((x + 17179869184) % 34359738368 + 1) ((y + 17179869184) % 34359738368) with
  | true => exact (decide_eq_true (Nat.le_of_ble_eq_true q)).symm
  | false => exact (decide_eq_false (fun z => by rw [Nat.ble_eq_true_of_le z] at q; cases q)).symm
theorem q_ce_ok {x y : Nat} (hx : x % 8 = 0) (hy : y % 8 = 0) : Nat.beq (Nat.mod x 34359738368) (Nat.mod y 34359738368) = decide (rx_di x = rx_di y) := by
  have key : (rx_di x = rx_di y) ↔ x % 34359738368 = y % 34359738368 := by
    rw [← Int32.toBitVec_inj, ← BitVec.toNat_inj, rx_di_nat, rx_di_nat]
    omega
  rw [decide_eq_decide.mpr key]
  show Nat.beq (x % 34359738368) (y % 34359738368) = _
  cases q : Nat.beq (x % 34359738368) (y % 34359738368) with
  | true => exact (decide_eq_true (rx_beq q)).symm
  | false => exact (decide_eq_false (fun z => by rw [z] at q; simp at q)).symm
noncomputable def q_two (F : Nat → Nat → Bool) (slow : rx_K) (t f : rx_K) : rx_K := fun lv st h => rx_un st fun y r1 => rx_un r1 fun x r => rx_if (Nat.beq (Nat.mod x 8) 0) (rx_if (Nat.beq (Nat.mod y 8) 0) (rx_if (F x y) (t lv r h) (f lv r h)) (slow lv st h)) (slow lv st h)
noncomputable def q_one (F : Nat → Nat → Bool) (slow : rx_K) (t f : rx_K) : rx_K := fun lv st h => rx_un st fun x r => rx_if (Nat.beq (Nat.mod x 8) 0) (rx_if (F x 0) (t lv r h) (f lv r h)) (slow lv st h)
theorem e_two {F : Nat → Nat → Bool} {q : rx_H → Nat → Nat → Option Bool} (hF : ∀ (h : rx_H) (x y : Nat), x % 8 = 0 → y % 8 = 0 → q h x y = some (F x y)) (t f : rx_K) : q_two F (o_c2 q t f) t f = o_c2 q t f := by
  funext lv st h
  match st with
  | [] => rfl
  | [_] => rfl
  | y :: x :: r =>
    show rx_if (Nat.beq (Nat.mod x 8) 0) (rx_if (Nat.beq (Nat.mod y 8) 0) (rx_if (F x y) (t lv r h) (f lv r h)) (o_c2 q t f lv (y :: x :: r) h)) (o_c2 q t f lv (y :: x :: r) h) = _
    cases hx : Nat.beq (Nat.mod x 8) 0 with
    | false => rfl
    | true =>
      cases hy : Nat.beq (Nat.mod y 8) 0 with
      | false => rfl
      | true =>
        show rx_if (F x y) (t lv r h) (f lv r h) = o_c2 q t f lv (y :: x :: r) h
        simp only [o_c2, hF h x y (rx_beq hx) (rx_beq hy)]
        exact rx_if_eq _ _ _
theorem e_one {F : Nat → Nat → Bool} {q : rx_H → Nat → Nat → Option Bool} (hF : ∀ (h : rx_H) (x y : Nat), x % 8 = 0 → y % 8 = 0 → q h x y = some (F x y)) (t f : rx_K) : q_one F (o_c1 q t f) t f = o_c1 q t f := by
  funext lv st h
  match st with
  | [] => rfl
  | x :: r =>
    show rx_if (Nat.beq (Nat.mod x 8) 0) (rx_if (F x 0) (t lv r h) (f lv r h)) (o_c1 q t f lv (x :: r) h) = _
    cases hx : Nat.beq (Nat.mod x 8) 0 with
    | false => rfl
    | true =>
      show rx_if (F x 0) (t lv r h) (f lv r h) = o_c1 q t f lv (x :: r) h
      simp only [o_c1, hF h x 0 (rx_beq hx) rfl]
      exact rx_if_eq _ _ _
noncomputable def q_Flt (x y : Nat) : Bool := q_cx x y
noncomputable def q_Fgt (x y : Nat) : Bool := q_cx y x
noncomputable def q_Feq (x y : Nat) : Bool := Nat.beq (Nat.mod x 34359738368) (Nat.mod y 34359738368)
theorem q_lt_ok (h : rx_H) (x y : Nat) (hx : x % 8 = 0) (hy : y % 8 = 0) : rx_lt h x y = some (q_Flt x y) := by
  unfold rx_lt q_Flt
  rw [q_cx_ok hx hy, hx, hy]; rfl
theorem q_gt_ok (h : rx_H) (x y : Nat) (hx : x % 8 = 0) (hy : y % 8 = 0) : rx_lt h y x = some (q_Fgt x y) := q_lt_ok h y x hy hx
theorem q_eq_ok (h : rx_H) (x y : Nat) (hx : x % 8 = 0) (hy : y % 8 = 0) : rx_eq h x y = some (q_Feq x y) := by
  unfold rx_eq q_Feq
  rw [q_ce_ok hx hy, hx, hy]; rfl
noncomputable def q_lt2 (t f : rx_K) : rx_K := q_two q_Flt (o_c2 rx_lt t f) t f
noncomputable def q_gt2 (t f : rx_K) : rx_K := q_two q_Fgt (o_c2 (fun h x y => rx_lt h y x) t f) t f
noncomputable def q_eq2 (t f : rx_K) : rx_K := q_two q_Feq (o_c2 rx_eq t f) t f
noncomputable def q_lt1 (t f : rx_K) : rx_K := q_one q_Flt (o_c1 rx_lt t f) t f
noncomputable def q_gt1 (t f : rx_K) : rx_K := q_one q_Fgt (o_c1 (fun h x y => rx_lt h y x) t f) t f
noncomputable def q_eq1 (t f : rx_K) : rx_K := q_one q_Feq (o_c1 rx_eq t f) t f
theorem e_lt2 (t f : rx_K) : q_lt2 t f = o_c2 rx_lt t f := e_two q_lt_ok t f
theorem e_gt2 (t f : rx_K) : q_gt2 t f = o_c2 (fun h x y => rx_lt h y x) t f := e_two q_gt_ok t f
theorem e_eq2 (t f : rx_K) : q_eq2 t f = o_c2 rx_eq t f := e_two q_eq_ok t f
theorem e_lt1 (t f : rx_K) : q_lt1 t f = o_c1 rx_lt t f := e_one q_lt_ok t f
theorem e_gt1 (t f : rx_K) : q_gt1 t f = o_c1 (fun h x y => rx_lt h y x) t f := e_one q_gt_ok t f
theorem e_eq1 (t f : rx_K) : q_eq1 t f = o_c1 rx_eq t f := e_one q_eq_ok t f
-- cells
noncomputable def q_en {β : Type} (e : rx_E) (k : Nat → Nat → Nat → List (List Nat) → List (Nat × Nat) → Option β) : Option β := Prod.rec (motive := fun _ => Option β) (fun z r => Prod.rec (motive := fun _ => Option β) (fun c r => Prod.rec (motive := fun _ => Option β) (fun n r => Prod.rec (motive := fun _ => Option β) (fun fs us => k z c n fs us) r) r) r) e
noncomputable def q_ob {β : Type} (h : rx_H) (o ci : Nat) (k : Nat → List (List Nat) → List (Nat × Nat) → Option β) : Option β := rx_if (Nat.beq (Nat.mod o 8) 2) (rx_if (Nat.ble (Nat.succ (Nat.div o 8)) h.1) (q_en (rx_hg h (Nat.div o 8)) fun z c n fs us => rx_if (Nat.beq z 0) (rx_if (Nat.beq c ci) (k n fs us) none) none) none) none
theorem e_ob {β : Type} (h : rx_H) (o ci : Nat) (k : List (List Nat) → Option β) : q_ob h o ci (fun _ fs _ => k fs) = rx_ob h o ci k := by
  unfold q_ob rx_ob
  rw [rx_if_and]
  show (bif Nat.beq (o % 8) 2 && Nat.blt (o / 8) h.1 then _ else none) = _
  congr 1
  show q_en (rx_hg h (o / 8)) _ = _
  generalize rx_hg h (o / 8) = e
  obtain ⟨z, c, n, fs, us⟩ := e
  exact rx_if_and _ _ _ _
noncomputable def q_getf (ci k0 : Nat) (k : rx_K) : rx_K := fun lv st h => rx_un st fun o r => q_ob h o ci fun _ fs _ => rx_f (rx_fg fs k0) fun v => k lv (v :: r) h
theorem e_getf (ci k0 : Nat) (k : rx_K) : q_getf ci k0 k = o_getf ci k0 k := by
  funext lv st h
  cases st with
  | nil => rfl
  | cons o r => exact e_ob h o ci _
noncomputable def q_putf (chk : Nat → Bool) (ci k0 : Nat) (k : rx_K) : rx_K := fun lv st h => rx_un st fun v r1 => rx_un r1 fun o r => rx_if (chk v) (q_ob h o ci fun n fs us => rx_fs fs k0 v fun fs' => rx_hs h (Nat.div o 8) (0, ci, n, fs', us) fun h' => k lv r h') none
theorem e_putf (chk : Nat → Bool) (ci k0 : Nat) (k : rx_K) : q_putf chk ci k0 k = o_putf chk ci k0 k := by
  funext lv st h
  match st with
  | [] => rfl
  | [_] => rfl
  | v :: o :: r =>
    show rx_if (chk v) _ none = (bif chk v then _ else none)
    rw [rx_if_eq]
    congr 1
    unfold q_ob rx_ob
    rw [rx_if_and]
    show (bif Nat.beq (o % 8) 2 && Nat.blt (o / 8) h.1 then _ else none) = _
    congr 1
    show q_en (rx_hg h (o / 8)) _ = _
    generalize rx_hg h (o / 8) = e
    obtain ⟨z, c, n, fs, us⟩ := e
    refine (rx_if_and _ _ _ _).trans ?_
    show (bif Nat.beq z 0 && Nat.beq c ci then _ else none) = (bif Nat.beq z 0 && Nat.beq c ci then _ else none)
    cases hc : Nat.beq z 0 && Nat.beq c ci with
    | false => rfl
    | true =>
      obtain ⟨h1, h2⟩ := Bool.and_eq_true_iff.mp hc
      rw [rx_beq h1, rx_beq h2]
      rfl
noncomputable def q_ar {β : Type} (h : rx_H) (o tt : Nat) (k : Nat → Nat → List (Nat × Nat) → Option β) : Option β := rx_if (Nat.beq (Nat.mod o 8) 2) (rx_if (Nat.ble (Nat.succ (Nat.div o 8)) h.1) (q_en (rx_hg h (Nat.div o 8)) fun z _ n fs us => rx_if (Nat.beq z (Nat.succ tt)) (k n (rx_fg fs 0) us) none) none) none
theorem e_ar {β : Type} (h : rx_H) (o tt : Nat) (k : Nat → Nat → List (Nat × Nat) → Option β) : q_ar h o tt k = rx_ar h o tt k := by
  unfold q_ar rx_ar
  rw [rx_if_and]
  show (bif Nat.beq (o % 8) 2 && Nat.blt (o / 8) h.1 then _ else none) = _
  congr 1
  show q_en (rx_hg h (o / 8)) _ = _
  generalize rx_hg h (o / 8) = e
  obtain ⟨z, c, n, fs, us⟩ := e
  exact rx_if_eq _ _ _
noncomputable def q_ald (tt : Nat) (k : rx_K) : rx_K := fun lv st h => rx_un st fun i r1 => rx_un r1 fun o r => rx_if (Nat.beq (Nat.mod i 8) 0) (q_ar h o tt fun n dv us => rx_if (Nat.ble (Nat.succ (Nat.div i 8)) n) (rx_if (Nat.ble (Nat.succ n) 268435456) (rx_f (rx_lk dv us (Nat.div i 8)) fun v => k lv (v :: r) h) none) none) none
theorem e_ald (tt : Nat) (k : rx_K) : q_ald tt k = o_ald tt k := by
  funext lv st h
  match st with
  | [] => rfl
  | [_] => rfl
  | i :: o :: r =>
    show rx_if (Nat.beq (i % 8) 0) _ none = (bif Nat.beq (i % 8) 0 then _ else none)
    rw [rx_if_eq, e_ar]
    congr 1
    show rx_ar h o tt _ = rx_ar h o tt _
    congr 1
    funext n dv us
    exact rx_if_and _ _ _ _
noncomputable def q_ast (tt : Nat) (g : Nat → Nat) (chk : Nat → Bool) (k : rx_K) : rx_K := fun lv st h => rx_un st fun v r1 => rx_un r1 fun i r2 => rx_un r2 fun o r => rx_if (chk v) (rx_if (Nat.beq (Nat.mod i 8) 0) (q_ar h o tt fun n dv us => rx_if (Nat.ble (Nat.succ (Nat.div i 8)) n) (rx_if (Nat.ble (Nat.succ n) 268435456) (rx_f (Nat.div i 8) fun j => rx_f (g v) fun v' => rx_hs h (Nat.div o 8) (Nat.succ tt, n, n, [[dv]], (j, v') :: us) fun h' => k lv r h') none) none) none) none
theorem e_ast (tt : Nat) (g : Nat → Nat) (chk : Nat → Bool) (k : rx_K) : q_ast tt g chk k = o_ast tt g chk k := by
  funext lv st h
  match st with
  | [] => rfl
  | [_] => rfl
  | [_, _] => rfl
  | v :: i :: o :: r =>
    refine (rx_if_and (chk v) (Nat.beq (i % 8) 0) _ none).trans ?_
    show (bif chk v && Nat.beq (i % 8) 0 then _ else none) = (bif chk v && Nat.beq (i % 8) 0 then _ else none)
    congr 1
    rw [e_ar]
    show rx_ar h o tt _ = rx_ar h o tt _
    congr 1
    funext n dv us
    exact rx_if_and _ _ _ _
noncomputable def q_new (ci n : Nat) (fs : List (List Nat)) (k : rx_K) : rx_K := fun lv st h => rx_hp h (0, ci, n, fs, []) fun h1 => rx_f (Nat.add (Nat.mul 8 h.1) 2) fun v => k lv (v :: st) h1
theorem e_new (ci n : Nat) (fs : List (List Nat)) (k : rx_K) : q_new ci n fs k = o_new ci n fs k := rfl
noncomputable def q_newa (tt dc : Nat) (k : rx_K) : rx_K := fun lv st h => rx_un st fun n r => rx_if (Nat.beq (Nat.mod n 8) 0) (rx_if (Nat.ble (Nat.succ (Nat.div n 8)) 1000000) (rx_f (Nat.div n 8) fun N => rx_hp h (Nat.succ tt, N, N, [[dc]], []) fun h1 => rx_f (Nat.add (Nat.mul 8 h.1) 2) fun v => k lv (v :: r) h1) none) none
theorem e_newa (tt dc : Nat) (k : rx_K) : q_newa tt dc k = o_newa tt dc k := by
  funext lv st h
  cases st with
  | nil => rfl
  | cons n r => exact rx_if_and _ _ _ _
noncomputable def q_obj (k : rx_K) : rx_K := fun lv st h => rx_un st fun o r => rx_if (Nat.beq (Nat.mod o 8) 2) (rx_if (Nat.ble (rx_cs r) 8) (k lv r h) none) none
theorem e_obj (k : rx_K) : q_obj k = o_obj k := by
  funext lv st h
  cases st with
  | nil => rfl
  | cons o r => exact rx_if_and _ _ _ _
noncomputable def q_dup (k : rx_K) : rx_K := fun lv st h => rx_un st fun v r => rx_if (Nat.beq (Nat.mod v 8) 1) (o_dup k lv st h) (k lv (v :: v :: r) h)
theorem e_dup (k : rx_K) : q_dup k = o_dup k := by
  funext lv st h
  cases st with
  | nil => rfl
  | cons v r =>
    show rx_if (Nat.beq (v % 8) 1) _ _ = _
    cases hc : Nat.beq (v % 8) 1 with
    | true => rfl
    | false =>
      show k lv (v :: v :: r) h = (bif Nat.beq (rx_ct v) 1 then _ else none)
      unfold rx_ct
      rw [hc]; rfl
-- loops: the blocks of a method, jumps back by fuel
noncomputable def rx_J (bs : (Nat → rx_K) → List rx_K) (n : Nat) : Nat → rx_K := Nat.rec (motive := fun _ => Nat → rx_K) (fun _ => o_none) (fun _ ih k => rx_nth (bs ih) k o_none) n
theorem rx_loop {hs : List Nat} {bs : (Nat → rx_K) → List rx_K} (hb : ∀ j : Nat → rx_K, (∀ k pc, hs[k]? = some pc → rx_OK V M d pc (j k)) → ∀ k pc, hs[k]? = some pc → rx_OK V M d pc (rx_nth (bs j) k o_none)) : ∀ n k pc, hs[k]? = some pc → rx_OK V M d pc (rx_J bs n k)
  | 0, _, _, _ => s_none
  | n + 1, k, pc, h => hb (rx_J bs n) (rx_loop hb n) k pc h
end RX24

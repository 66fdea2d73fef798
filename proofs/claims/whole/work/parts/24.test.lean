noncomputable def rx_un {β : Type} (st : List Nat) (k : Nat → List Nat → Option β) : Option β := List.rec (motive := fun _ => Option β) none (fun v r _ => k v r) st
noncomputable def rx_if {β : Type} (b : Bool) (x y : Option β) : Option β := Bool.rec (motive := fun _ => Option β) y x b
noncomputable def q_isI (c : Nat) : Bool := Bool.rec (motive := fun _ => Bool) (rx_isI c) true (Nat.beq (Nat.mod c 8) 0)
noncomputable def q_ld (chk : Nat → Bool) (i : Nat) (k : rx_K) : rx_K := fun lv st h => rx_f (rx_get 7 lv i) fun c => rx_if (chk c) (k lv (c :: st) h) none
noncomputable def q_inc (i : Nat) (n : Nat) (k : rx_K) : rx_K := fun lv st h => rx_f (rx_get 7 lv i) fun c => rx_if (Nat.beq (Nat.mod c 8) 0) (rx_f (Nat.mod (Nat.add c n) 34359738368) fun v => rx_st1 lv i v fun lv' => k lv' st h) none
noncomputable def q_const (c : Nat) (k : rx_K) : rx_K := fun lv st h => k lv (c :: st) h
noncomputable def q_lt (t f : rx_K) : rx_K := fun lv st h => rx_un st fun y r => rx_un r fun x r => rx_if (Nat.beq (Nat.mod x 8) 0) (rx_if (Nat.beq (Nat.mod y 8) 0) (rx_if (Nat.ble (Nat.succ (Nat.mod (Nat.add x 17179869184) 34359738368)) (Nat.mod (Nat.add y 17179869184) 34359738368)) (t lv r h) (f lv r h)) none) none
noncomputable def zz_body (j : Nat → rx_K) : Nat → rx_K := fun b => Nat.rec (motive := fun _ => rx_K)
  (q_ld q_isI 1 (q_const (8 * 80000) (q_lt (j 1) (fun _ _ h => some (8, h)))))
  (fun _ _ => q_inc 1 8 (j 0)) b
noncomputable def zz_J (n : Nat) : Nat → rx_K := Nat.rec (motive := fun _ => Nat → rx_K) (fun _ _ _ _ => none) (fun _ ih => zz_body ih) n
def zz_t : rx_H := (0, 0, [], [])
noncomputable def zz_chk (x : Option (Nat × rx_H)) : Bool := match x with
  | some (r, _) => Nat.beq r 8
  | none => false
theorem zz_run : zz_chk (zz_J 1000000 0 [7, 0] [] zz_t) = true := by decide +kernel

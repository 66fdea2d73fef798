theorem za1 {a b : Cond} {args : Array Value} {s : State} (h : (Cond.and a b).before args s = true) : a.before args s = true := by
  rw [Cond.before_and, Bool.and_eq_true] at h
  exact h.1
theorem za2 {a b : Cond} {args : Array Value} {s : State} (h : (Cond.and a b).before args s = true) : b.before args s = true := by
  rw [Cond.before_and, Bool.and_eq_true] at h
  exact h.2
theorem z_step {P : Nat → Prop} {n : Nat} (h : ∀ j, j < n → P j) (p : P n) : ∀ j, j < n + 1 → P j := fun j hj => by
  rcases Nat.lt_or_ge j n with q | q
  · exact h j q
  · rw [show j = n by omega]; exact p
-- a string of the statement: where it and its bytes lie
def zPs (s : State) (args : Array Value) (r : String × Nat × Nat × List Int32) (q t : Nat) : Prop := (Term.string r.1 r.2.1).eval args s none [] s = some (.ref q) ∧ va_O "java/lang/String" q (fun q => s.heap.size ≤ q) s s.heap ∧ va_OF "java/lang/String" "coder" "B" (.int 0) q (fun q => s.heap.size ≤ q) s s.heap ∧ va_OF "java/lang/String" "value" "[B" (.ref t) q (fun q => s.heap.size ≤ q) s s.heap ∧ va_T .byte t r.2.2.1 (fun j => .int (r.2.2.2.getD j 0)) (fun q => s.heap.size ≤ q) s s.heap
def zby6 : List Int32 := [99, 108, 97, 115, 115, 32, 102, 97, 99, 101, 32, 97, 115, 32, 105, 115, 32, 105, 110, 32, 119, 105, 116, 104, 32, 111, 110, 108, 121, 32, 111, 112, 101, 110, 32, 107, 105, 110, 32, 111, 119, 110, 32, 102, 105, 110, 97, 108, 32, 98, 97, 114, 101, 32, 115, 116, 97, 116, 105, 99, 32, 115, 116, 97, 114, 116, 32, 118, 111, 105, 100, 32, 110, 101, 119, 32, 105, 110, 116, 32, 108, 101, 116, 32, 105, 102, 32, 101, 108, 115, 101, 32, 119, 104, 105, 108, 101, 32, 114, 101, 116, 117, 114, 110, 32, 116, 104, 114, 111, 119, 32, 116, 114, 121, 32, 99, 97, 116, 99, 104, 32, 111, 117, 116, 32, 110, 117, 108, 108, 32, 116, 104, 105, 115, 32, 115, 117, 112, 101, 114, 32, 97, 115, 107, 32]
set_option maxRecDepth 20000 in
theorem zels6 {args : Array Value} {s : State} (h : narrow_1.before args s = true) : ∀ j, j < 145 → (Cond.eq (.elem (Term.field (Term.string "LinkHouse$Reader" 35) "java/lang/String" "value" "[B") (.int (Int32.ofNat j))) (.int (zby6.getD j 0))).before args s = true := by
  refine z_step ?_ (za2 (za2 (za2 (za2 (za1 (za2 (za2 (za2 (za1 (za1 h))))))))))
  refine z_step ?_ (za1 (za2 (za2 (za2 (za1 (za2 (za2 (za2 (za1 (za1 h))))))))))
  refine z_step ?_ (za2 (za1 (za2 (za2 (za1 (za2 (za2 (za2 (za1 (za1 h))))))))))
  refine z_step ?_ (za1 (za1 (za2 (za2 (za1 (za2 (za2 (za2 (za1 (za1 h))))))))))
  refine z_step ?_ (za2 (za2 (za1 (za2 (za1 (za2 (za2 (za2 (za1 (za1 h))))))))))
  refine z_step ?_ (za1 (za2 (za1 (za2 (za1 (za2 (za2 (za2 (za1 (za1 h))))))))))
  refine z_step ?_ (za2 (za1 (za1 (za2 (za1 (za2 (za2 (za2 (za1 (za1 h))))))))))
  refine z_step ?_ (za1 (za1 (za1 (za2 (za1 (za2 (za2 (za2 (za1 (za1 h))))))))))
  refine z_step ?_ (za2 (za2 (za2 (za1 (za1 (za2 (za2 (za2 (za1 (za1 h))))))))))
  refine z_step ?_ (za1 (za2 (za2 (za1 (za1 (za2 (za2 (za2 (za1 (za1 h))))))))))
  refine z_step ?_ (za2 (za1 (za2 (za1 (za1 (za2 (za2 (za2 (za1 (za1 h))))))))))
  refine z_step ?_ (za1 (za1 (za2 (za1 (za1 (za2 (za2 (za2 (za1 (za1 h))))))))))
  refine z_step ?_ (za2 (za2 (za1 (za1 (za1 (za2 (za2 (za2 (za1 (za1 h))))))))))
  refine z_step ?_ (za1 (za2 (za1 (za1 (za1 (za2 (za2 (za2 (za1 (za1 h))))))))))
  refine z_step ?_ (za2 (za1 (za1 (za1 (za1 (za2 (za2 (za2 (za1 (za1 h))))))))))
  refine z_step ?_ (za1 (za1 (za1 (za1 (za1 (za2 (za2 (za2 (za1 (za1 h))))))))))
  refine z_step ?_ (za2 (za2 (za2 (za2 (za2 (za1 (za2 (za2 (za1 (za1 h))))))))))
  refine z_step ?_ (za1 (za2 (za2 (za2 (za2 (za1 (za2 (za2 (za1 (za1 h))))))))))
  refine z_step ?_ (za2 (za1 (za2 (za2 (za2 (za1 (za2 (za2 (za1 (za1 h))))))))))
  refine z_step ?_ (za1 (za1 (za2 (za2 (za2 (za1 (za2 (za2 (za1 (za1 h))))))))))
  refine z_step ?_ (za2 (za2 (za1 (za2 (za2 (za1 (za2 (za2 (za1 (za1 h))))))))))
  refine z_step ?_ (za1 (za2 (za1 (za2 (za2 (za1 (za2 (za2 (za1 (za1 h))))))))))
  refine z_step ?_ (za2 (za1 (za1 (za2 (za2 (za1 (za2 (za2 (za1 (za1 h))))))))))
  refine z_step ?_ (za1 (za1 (za1 (za2 (za2 (za1 (za2 (za2 (za1 (za1 h))))))))))
  refine z_step ?_ (za2 (za2 (za2 (za1 (za2 (za1 (za2 (za2 (za1 (za1 h))))))))))
  refine z_step ?_ (za1 (za2 (za2 (za1 (za2 (za1 (za2 (za2 (za1 (za1 h))))))))))
  refine z_step ?_ (za2 (za1 (za2 (za1 (za2 (za1 (za2 (za2 (za1 (za1 h))))))))))
  refine z_step ?_ (za1 (za1 (za2 (za1 (za2 (za1 (za2 (za2 (za1 (za1 h))))))))))
  refine z_step ?_ (za2 (za2 (za1 (za1 (za2 (za1 (za2 (za2 (za1 (za1 h))))))))))
  refine z_step ?_ (za1 (za2 (za1 (za1 (za2 (za1 (za2 (za2 (za1 (za1 h))))))))))
  refine z_step ?_ (za2 (za1 (za1 (za1 (za2 (za1 (za2 (za2 (za1 (za1 h))))))))))
  refine z_step ?_ (za1 (za1 (za1 (za1 (za2 (za1 (za2 (za2 (za1 (za1 h))))))))))
  refine z_step ?_ (za2 (za2 (za2 (za2 (za1 (za1 (za2 (za2 (za1 (za1 h))))))))))
  refine z_step ?_ (za1 (za2 (za2 (za2 (za1 (za1 (za2 (za2 (za1 (za1 h))))))))))
  refine z_step ?_ (za2 (za1 (za2 (za2 (za1 (za1 (za2 (za2 (za1 (za1 h))))))))))
  refine z_step ?_ (za1 (za1 (za2 (za2 (za1 (za1 (za2 (za2 (za1 (za1 h))))))))))
  refine z_step ?_ (za2 (za2 (za1 (za2 (za1 (za1 (za2 (za2 (za1 (za1 h))))))))))
  refine z_step ?_ (za1 (za2 (za1 (za2 (za1 (za1 (za2 (za2 (za1 (za1 h))))))))))
  refine z_step ?_ (za2 (za1 (za1 (za2 (za1 (za1 (za2 (za2 (za1 (za1 h))))))))))
  refine z_step ?_ (za1 (za1 (za1 (za2 (za1 (za1 (za2 (za2 (za1 (za1 h))))))))))
  refine z_step ?_ (za2 (za2 (za2 (za1 (za1 (za1 (za2 (za2 (za1 (za1 h))))))))))
  refine z_step ?_ (za1 (za2 (za2 (za1 (za1 (za1 (za2 (za2 (za1 (za1 h))))))))))
  refine z_step ?_ (za2 (za1 (za2 (za1 (za1 (za1 (za2 (za2 (za1 (za1 h))))))))))
  refine z_step ?_ (za1 (za1 (za2 (za1 (za1 (za1 (za2 (za2 (za1 (za1 h))))))))))
  refine z_step ?_ (za2 (za2 (za1 (za1 (za1 (za1 (za2 (za2 (za1 (za1 h))))))))))
  refine z_step ?_ (za1 (za2 (za1 (za1 (za1 (za1 (za2 (za2 (za1 (za1 h))))))))))
  refine z_step ?_ (za2 (za1 (za1 (za1 (za1 (za1 (za2 (za2 (za1 (za1 h))))))))))
  refine z_step ?_ (za1 (za1 (za1 (za1 (za1 (za1 (za2 (za2 (za1 (za1 h))))))))))
  refine z_step ?_ (za2 (za2 (za2 (za2 (za2 (za2 (za1 (za2 (za1 (za1 h))))))))))
  refine z_step ?_ (za1 (za2 (za2 (za2 (za2 (za2 (za1 (za2 (za1 (za1 h))))))))))
  refine z_step ?_ (za2 (za1 (za2 (za2 (za2 (za2 (za1 (za2 (za1 (za1 h))))))))))
  refine z_step ?_ (za1 (za1 (za2 (za2 (za2 (za2 (za1 (za2 (za1 (za1 h))))))))))
  refine z_step ?_ (za2 (za2 (za1 (za2 (za2 (za2 (za1 (za2 (za1 (za1 h))))))))))
  refine z_step ?_ (za1 (za2 (za1 (za2 (za2 (za2 (za1 (za2 (za1 (za1 h))))))))))
  refine z_step ?_ (za2 (za1 (za1 (za2 (za2 (za2 (za1 (za2 (za1 (za1 h))))))))))
  refine z_step ?_ (za1 (za1 (za1 (za2 (za2 (za2 (za1 (za2 (za1 (za1 h))))))))))
  refine z_step ?_ (za2 (za2 (za2 (za1 (za2 (za2 (za1 (za2 (za1 (za1 h))))))))))
  refine z_step ?_ (za1 (za2 (za2 (za1 (za2 (za2 (za1 (za2 (za1 (za1 h))))))))))
  refine z_step ?_ (za2 (za1 (za2 (za1 (za2 (za2 (za1 (za2 (za1 (za1 h))))))))))
  refine z_step ?_ (za1 (za1 (za2 (za1 (za2 (za2 (za1 (za2 (za1 (za1 h))))))))))
  refine z_step ?_ (za2 (za2 (za1 (za1 (za2 (za2 (za1 (za2 (za1 (za1 h))))))))))
  refine z_step ?_ (za1 (za2 (za1 (za1 (za2 (za2 (za1 (za2 (za1 (za1 h))))))))))
  refine z_step ?_ (za2 (za1 (za1 (za1 (za2 (za2 (za1 (za2 (za1 (za1 h))))))))))
  refine z_step ?_ (za1 (za1 (za1 (za1 (za2 (za2 (za1 (za2 (za1 (za1 h))))))))))
  refine z_step ?_ (za2 (za2 (za2 (za2 (za1 (za2 (za1 (za2 (za1 (za1 h))))))))))
  refine z_step ?_ (za1 (za2 (za2 (za2 (za1 (za2 (za1 (za2 (za1 (za1 h))))))))))
  refine z_step ?_ (za2 (za1 (za2 (za2 (za1 (za2 (za1 (za2 (za1 (za1 h))))))))))
  refine z_step ?_ (za1 (za1 (za2 (za2 (za1 (za2 (za1 (za2 (za1 (za1 h))))))))))
  refine z_step ?_ (za2 (za2 (za1 (za2 (za1 (za2 (za1 (za2 (za1 (za1 h))))))))))
  refine z_step ?_ (za1 (za2 (za1 (za2 (za1 (za2 (za1 (za2 (za1 (za1 h))))))))))
  refine z_step ?_ (za2 (za1 (za1 (za2 (za1 (za2 (za1 (za2 (za1 (za1 h))))))))))
  refine z_step ?_ (za1 (za1 (za1 (za2 (za1 (za2 (za1 (za2 (za1 (za1 h))))))))))
  refine z_step ?_ (za2 (za2 (za2 (za1 (za1 (za2 (za1 (za2 (za1 (za1 h))))))))))
  refine z_step ?_ (za1 (za2 (za2 (za1 (za1 (za2 (za1 (za2 (za1 (za1 h))))))))))
  refine z_step ?_ (za2 (za1 (za2 (za1 (za1 (za2 (za1 (za2 (za1 (za1 h))))))))))
  refine z_step ?_ (za1 (za1 (za2 (za1 (za1 (za2 (za1 (za2 (za1 (za1 h))))))))))
  refine z_step ?_ (za2 (za2 (za1 (za1 (za1 (za2 (za1 (za2 (za1 (za1 h))))))))))
  refine z_step ?_ (za1 (za2 (za1 (za1 (za1 (za2 (za1 (za2 (za1 (za1 h))))))))))
  refine z_step ?_ (za2 (za1 (za1 (za1 (za1 (za2 (za1 (za2 (za1 (za1 h))))))))))
  refine z_step ?_ (za1 (za1 (za1 (za1 (za1 (za2 (za1 (za2 (za1 (za1 h))))))))))
  refine z_step ?_ (za2 (za2 (za2 (za2 (za2 (za1 (za1 (za2 (za1 (za1 h))))))))))
  refine z_step ?_ (za1 (za2 (za2 (za2 (za2 (za1 (za1 (za2 (za1 (za1 h))))))))))
  refine z_step ?_ (za2 (za1 (za2 (za2 (za2 (za1 (za1 (za2 (za1 (za1 h))))))))))
  refine z_step ?_ (za1 (za1 (za2 (za2 (za2 (za1 (za1 (za2 (za1 (za1 h))))))))))
  refine z_step ?_ (za2 (za2 (za1 (za2 (za2 (za1 (za1 (za2 (za1 (za1 h))))))))))
  refine z_step ?_ (za1 (za2 (za1 (za2 (za2 (za1 (za1 (za2 (za1 (za1 h))))))))))
  refine z_step ?_ (za2 (za1 (za1 (za2 (za2 (za1 (za1 (za2 (za1 (za1 h))))))))))
  refine z_step ?_ (za1 (za1 (za1 (za2 (za2 (za1 (za1 (za2 (za1 (za1 h))))))))))
  refine z_step ?_ (za2 (za2 (za2 (za1 (za2 (za1 (za1 (za2 (za1 (za1 h))))))))))
  refine z_step ?_ (za1 (za2 (za2 (za1 (za2 (za1 (za1 (za2 (za1 (za1 h))))))))))
  refine z_step ?_ (za2 (za1 (za2 (za1 (za2 (za1 (za1 (za2 (za1 (za1 h))))))))))
  refine z_step ?_ (za1 (za1 (za2 (za1 (za2 (za1 (za1 (za2 (za1 (za1 h))))))))))
  refine z_step ?_ (za2 (za2 (za1 (za1 (za2 (za1 (za1 (za2 (za1 (za1 h))))))))))
  refine z_step ?_ (za1 (za2 (za1 (za1 (za2 (za1 (za1 (za2 (za1 (za1 h))))))))))
  refine z_step ?_ (za2 (za1 (za1 (za1 (za2 (za1 (za1 (za2 (za1 (za1 h))))))))))
  refine z_step ?_ (za1 (za1 (za1 (za1 (za2 (za1 (za1 (za2 (za1 (za1 h))))))))))
  refine z_step ?_ (za2 (za2 (za2 (za2 (za1 (za1 (za1 (za2 (za1 (za1 h))))))))))
  refine z_step ?_ (za1 (za2 (za2 (za2 (za1 (za1 (za1 (za2 (za1 (za1 h))))))))))
  refine z_step ?_ (za2 (za1 (za2 (za2 (za1 (za1 (za1 (za2 (za1 (za1 h))))))))))
  refine z_step ?_ (za1 (za1 (za2 (za2 (za1 (za1 (za1 (za2 (za1 (za1 h))))))))))
  refine z_step ?_ (za2 (za2 (za1 (za2 (za1 (za1 (za1 (za2 (za1 (za1 h))))))))))
  refine z_step ?_ (za1 (za2 (za1 (za2 (za1 (za1 (za1 (za2 (za1 (za1 h))))))))))
  refine z_step ?_ (za2 (za1 (za1 (za2 (za1 (za1 (za1 (za2 (za1 (za1 h))))))))))
  refine z_step ?_ (za1 (za1 (za1 (za2 (za1 (za1 (za1 (za2 (za1 (za1 h))))))))))
  refine z_step ?_ (za2 (za2 (za2 (za1 (za1 (za1 (za1 (za2 (za1 (za1 h))))))))))
  refine z_step ?_ (za1 (za2 (za2 (za1 (za1 (za1 (za1 (za2 (za1 (za1 h))))))))))
  refine z_step ?_ (za2 (za1 (za2 (za1 (za1 (za1 (za1 (za2 (za1 (za1 h))))))))))
  refine z_step ?_ (za1 (za1 (za2 (za1 (za1 (za1 (za1 (za2 (za1 (za1 h))))))))))
  refine z_step ?_ (za2 (za2 (za1 (za1 (za1 (za1 (za1 (za2 (za1 (za1 h))))))))))
  refine z_step ?_ (za1 (za2 (za1 (za1 (za1 (za1 (za1 (za2 (za1 (za1 h))))))))))
  refine z_step ?_ (za1 (za1 (za1 (za1 (za1 (za1 (za2 (za1 (za1 h)))))))))
  refine z_step ?_ (za2 (za2 (za2 (za2 (za2 (za2 (za2 (za1 (za1 (za1 h))))))))))
  refine z_step ?_ (za1 (za2 (za2 (za2 (za2 (za2 (za2 (za1 (za1 (za1 h))))))))))
  refine z_step ?_ (za2 (za1 (za2 (za2 (za2 (za2 (za2 (za1 (za1 (za1 h))))))))))
  refine z_step ?_ (za1 (za1 (za2 (za2 (za2 (za2 (za2 (za1 (za1 (za1 h))))))))))
  refine z_step ?_ (za2 (za2 (za1 (za2 (za2 (za2 (za2 (za1 (za1 (za1 h))))))))))
  refine z_step ?_ (za1 (za2 (za1 (za2 (za2 (za2 (za2 (za1 (za1 (za1 h))))))))))
  refine z_step ?_ (za2 (za1 (za1 (za2 (za2 (za2 (za2 (za1 (za1 (za1 h))))))))))
  refine z_step ?_ (za1 (za1 (za1 (za2 (za2 (za2 (za2 (za1 (za1 (za1 h))))))))))
  refine z_step ?_ (za2 (za2 (za2 (za1 (za2 (za2 (za2 (za1 (za1 (za1 h))))))))))
  refine z_step ?_ (za1 (za2 (za2 (za1 (za2 (za2 (za2 (za1 (za1 (za1 h))))))))))
  refine z_step ?_ (za2 (za1 (za2 (za1 (za2 (za2 (za2 (za1 (za1 (za1 h))))))))))
  refine z_step ?_ (za1 (za1 (za2 (za1 (za2 (za2 (za2 (za1 (za1 (za1 h))))))))))
  refine z_step ?_ (za2 (za2 (za1 (za1 (za2 (za2 (za2 (za1 (za1 (za1 h))))))))))
  refine z_step ?_ (za1 (za2 (za1 (za1 (za2 (za2 (za2 (za1 (za1 (za1 h))))))))))
  refine z_step ?_ (za2 (za1 (za1 (za1 (za2 (za2 (za2 (za1 (za1 (za1 h))))))))))
  refine z_step ?_ (za1 (za1 (za1 (za1 (za2 (za2 (za2 (za1 (za1 (za1 h))))))))))
  refine z_step ?_ (za2 (za2 (za2 (za2 (za1 (za2 (za2 (za1 (za1 (za1 h))))))))))
  refine z_step ?_ (za1 (za2 (za2 (za2 (za1 (za2 (za2 (za1 (za1 (za1 h))))))))))
  refine z_step ?_ (za2 (za1 (za2 (za2 (za1 (za2 (za2 (za1 (za1 (za1 h))))))))))
  refine z_step ?_ (za1 (za1 (za2 (za2 (za1 (za2 (za2 (za1 (za1 (za1 h))))))))))
  refine z_step ?_ (za2 (za2 (za1 (za2 (za1 (za2 (za2 (za1 (za1 (za1 h))))))))))
  refine z_step ?_ (za1 (za2 (za1 (za2 (za1 (za2 (za2 (za1 (za1 (za1 h))))))))))
  refine z_step ?_ (za2 (za1 (za1 (za2 (za1 (za2 (za2 (za1 (za1 (za1 h))))))))))
  refine z_step ?_ (za1 (za1 (za1 (za2 (za1 (za2 (za2 (za1 (za1 (za1 h))))))))))
  refine z_step ?_ (za2 (za2 (za2 (za1 (za1 (za2 (za2 (za1 (za1 (za1 h))))))))))
  refine z_step ?_ (za1 (za2 (za2 (za1 (za1 (za2 (za2 (za1 (za1 (za1 h))))))))))
  refine z_step ?_ (za2 (za1 (za2 (za1 (za1 (za2 (za2 (za1 (za1 (za1 h))))))))))
  refine z_step ?_ (za1 (za1 (za2 (za1 (za1 (za2 (za2 (za1 (za1 (za1 h))))))))))
  refine z_step ?_ (za2 (za2 (za1 (za1 (za1 (za2 (za2 (za1 (za1 (za1 h))))))))))
  refine z_step ?_ (za1 (za2 (za1 (za1 (za1 (za2 (za2 (za1 (za1 (za1 h))))))))))
  refine z_step ?_ (za2 (za1 (za1 (za1 (za1 (za2 (za2 (za1 (za1 (za1 h))))))))))
  refine z_step ?_ (za1 (za1 (za1 (za1 (za1 (za2 (za2 (za1 (za1 (za1 h))))))))))
  refine z_step ?_ (za2 (za2 (za2 (za2 (za2 (za1 (za2 (za1 (za1 (za1 h))))))))))
  refine z_step ?_ (za1 (za2 (za2 (za2 (za2 (za1 (za2 (za1 (za1 (za1 h))))))))))
  exact fun j hj => absurd hj (Nat.not_lt_zero _)
theorem zstr6 {args : Array Value} {s : State} (h : narrow_1.before args s = true) : ∃ q t : Nat, zPs s args ("LinkHouse$Reader", 35, 145, zby6) q t := by
  obtain ⟨adK, adV, hS, hev⟩ := vk_Sof (N := 1) (tm := fun _ => Term.string "LinkHouse$Reader" 35) (len := [145]) (byt := [zby6]) (args := args) (s := s) (A := fun q => s.heap.size ≤ q) (fun i hi => by rw [show i = 0 by omega]; decide) (fun i _ => (za1 (za2 (za1 (za2 (za2 (za1 (za2 (za1 (za1 (za1 h))))))))))) (fun i _ => (za2 (za2 (za1 (za2 (za2 (za1 (za2 (za1 (za1 (za1 h))))))))))) (fun i _ => (za1 (za1 (za2 (za2 (za2 (za1 (za2 (za1 (za1 (za1 h))))))))))) (fun i hi => by rw [show i = 0 by omega]; exact (za2 (za1 (za2 (za2 (za2 (za1 (za2 (za1 (za1 (za1 h))))))))))) (fun i hi j hj => by rw [show i = 0 by omega] at hj ⊢; exact zels6 h j hj) (fun i j hi hj hne => absurd (show i = j by omega) hne) (fun a h => Nat.not_le.mpr h)
  obtain ⟨h1, h2, h3, h4⟩ := hS.1 0 (by decide)
  exact ⟨adK 0, adV 0, hev 0 (by decide), h1, h2, h3, h4⟩
def zby8 : List Int32 := [111, 112, 101, 110, 32]
set_option maxRecDepth 20000 in
theorem zels8 {args : Array Value} {s : State} (h : narrow_1.before args s = true) : ∀ j, j < 5 → (Cond.eq (.elem (Term.field (Term.string "LinkHouse" 255) "java/lang/String" "value" "[B") (.int (Int32.ofNat j))) (.int (zby8.getD j 0))).before args s = true := by
  refine z_step ?_ (za1 (za1 (za1 (za2 (za2 (za2 (za2 (za2 (za1 (za1 h))))))))))
  refine z_step ?_ (za2 (za2 (za2 (za1 (za2 (za2 (za2 (za2 (za1 (za1 h))))))))))
  refine z_step ?_ (za1 (za2 (za2 (za1 (za2 (za2 (za2 (za2 (za1 (za1 h))))))))))
  refine z_step ?_ (za2 (za1 (za2 (za1 (za2 (za2 (za2 (za2 (za1 (za1 h))))))))))
  refine z_step ?_ (za1 (za1 (za2 (za1 (za2 (za2 (za2 (za2 (za1 (za1 h))))))))))
  exact fun j hj => absurd hj (Nat.not_lt_zero _)
theorem zstr8 {args : Array Value} {s : State} (h : narrow_1.before args s = true) : ∃ q t : Nat, zPs s args ("LinkHouse", 255, 5, zby8) q t := by
  obtain ⟨adK, adV, hS, hev⟩ := vk_Sof (N := 1) (tm := fun _ => Term.string "LinkHouse" 255) (len := [5]) (byt := [zby8]) (args := args) (s := s) (A := fun q => s.heap.size ≤ q) (fun i hi => by rw [show i = 0 by omega]; decide) (fun i _ => (za1 (za1 (za1 (za1 (za2 (za2 (za2 (za2 (za1 (za1 h))))))))))) (fun i _ => (za2 (za1 (za1 (za1 (za2 (za2 (za2 (za2 (za1 (za1 h))))))))))) (fun i _ => (za1 (za2 (za1 (za1 (za2 (za2 (za2 (za2 (za1 (za1 h))))))))))) (fun i hi => by rw [show i = 0 by omega]; exact (za2 (za2 (za1 (za1 (za2 (za2 (za2 (za2 (za1 (za1 h))))))))))) (fun i hi j hj => by rw [show i = 0 by omega] at hj ⊢; exact zels8 h j hj) (fun i j hi hj hne => absurd (show i = j by omega) hne) (fun a h => Nat.not_le.mpr h)
  obtain ⟨h1, h2, h3, h4⟩ := hS.1 0 (by decide)
  exact ⟨adK 0, adV 0, hev 0 (by decide), h1, h2, h3, h4⟩
def zby10 : List Int32 := [102, 105, 110, 97, 108, 32]
set_option maxRecDepth 20000 in
theorem zels10 {args : Array Value} {s : State} (h : narrow_1.before args s = true) : ∀ j, j < 6 → (Cond.eq (.elem (Term.field (Term.string "LinkHouse" 266) "java/lang/String" "value" "[B") (.int (Int32.ofNat j))) (.int (zby10.getD j 0))).before args s = true := by
  refine z_step ?_ (za2 (za2 (za2 (za1 (za1 (za1 (za1 (za1 (za2 (za1 h))))))))))
  refine z_step ?_ (za1 (za2 (za2 (za1 (za1 (za1 (za1 (za1 (za2 (za1 h))))))))))
  refine z_step ?_ (za2 (za1 (za2 (za1 (za1 (za1 (za1 (za1 (za2 (za1 h))))))))))
  refine z_step ?_ (za1 (za1 (za2 (za1 (za1 (za1 (za1 (za1 (za2 (za1 h))))))))))
  refine z_step ?_ (za2 (za2 (za1 (za1 (za1 (za1 (za1 (za1 (za2 (za1 h))))))))))
  refine z_step ?_ (za1 (za2 (za1 (za1 (za1 (za1 (za1 (za1 (za2 (za1 h))))))))))
  exact fun j hj => absurd hj (Nat.not_lt_zero _)
theorem zstr10 {args : Array Value} {s : State} (h : narrow_1.before args s = true) : ∃ q t : Nat, zPs s args ("LinkHouse", 266, 6, zby10) q t := by
  obtain ⟨adK, adV, hS, hev⟩ := vk_Sof (N := 1) (tm := fun _ => Term.string "LinkHouse" 266) (len := [6]) (byt := [zby10]) (args := args) (s := s) (A := fun q => s.heap.size ≤ q) (fun i hi => by rw [show i = 0 by omega]; decide) (fun i _ => (za2 (za1 (za2 (za2 (za2 (za2 (za2 (za2 (za1 (za1 h))))))))))) (fun i _ => (za1 (za2 (za2 (za2 (za2 (za2 (za2 (za2 (za1 (za1 h))))))))))) (fun i _ => (za2 (za2 (za2 (za2 (za2 (za2 (za2 (za2 (za1 (za1 h))))))))))) (fun i hi => by rw [show i = 0 by omega]; exact (za1 (za1 (za1 (za1 (za1 (za1 (za1 (za2 (za1 h)))))))))) (fun i hi j hj => by rw [show i = 0 by omega] at hj ⊢; exact zels10 h j hj) (fun i j hi hj hne => absurd (show i = j by omega) hne) (fun a h => Nat.not_le.mpr h)
  obtain ⟨h1, h2, h3, h4⟩ := hS.1 0 (by decide)
  exact ⟨adK 0, adV 0, hev 0 (by decide), h1, h2, h3, h4⟩
def zby12 : List Int32 := [102, 97, 99, 101, 32]
set_option maxRecDepth 20000 in
theorem zels12 {args : Array Value} {s : State} (h : narrow_1.before args s = true) : ∀ j, j < 5 → (Cond.eq (.elem (Term.field (Term.string "LinkHouse" 276) "java/lang/String" "value" "[B") (.int (Int32.ofNat j))) (.int (zby12.getD j 0))).before args s = true := by
  refine z_step ?_ (za2 (za1 (za1 (za2 (za2 (za1 (za1 (za1 (za2 (za1 h))))))))))
  refine z_step ?_ (za1 (za1 (za1 (za2 (za2 (za1 (za1 (za1 (za2 (za1 h))))))))))
  refine z_step ?_ (za2 (za2 (za2 (za1 (za2 (za1 (za1 (za1 (za2 (za1 h))))))))))
  refine z_step ?_ (za1 (za2 (za2 (za1 (za2 (za1 (za1 (za1 (za2 (za1 h))))))))))
  refine z_step ?_ (za2 (za1 (za2 (za1 (za2 (za1 (za1 (za1 (za2 (za1 h))))))))))
  exact fun j hj => absurd hj (Nat.not_lt_zero _)
theorem zstr12 {args : Array Value} {s : State} (h : narrow_1.before args s = true) : ∃ q t : Nat, zPs s args ("LinkHouse", 276, 5, zby12) q t := by
  obtain ⟨adK, adV, hS, hev⟩ := vk_Sof (N := 1) (tm := fun _ => Term.string "LinkHouse" 276) (len := [5]) (byt := [zby12]) (args := args) (s := s) (A := fun q => s.heap.size ≤ q) (fun i hi => by rw [show i = 0 by omega]; decide) (fun i _ => (za2 (za1 (za1 (za1 (za2 (za1 (za1 (za1 (za2 (za1 h))))))))))) (fun i _ => (za1 (za2 (za1 (za1 (za2 (za1 (za1 (za1 (za2 (za1 h))))))))))) (fun i _ => (za2 (za2 (za1 (za1 (za2 (za1 (za1 (za1 (za2 (za1 h))))))))))) (fun i hi => by rw [show i = 0 by omega]; exact (za1 (za1 (za2 (za1 (za2 (za1 (za1 (za1 (za2 (za1 h))))))))))) (fun i hi j hj => by rw [show i = 0 by omega] at hj ⊢; exact zels12 h j hj) (fun i j hi hj hne => absurd (show i = j by omega) hne) (fun a h => Nat.not_le.mpr h)
  obtain ⟨h1, h2, h3, h4⟩ := hS.1 0 (by decide)
  exact ⟨adK 0, adV 0, hev 0 (by decide), h1, h2, h3, h4⟩
def zby14 : List Int32 := [32, 105, 115, 32]
set_option maxRecDepth 20000 in
theorem zels14 {args : Array Value} {s : State} (h : narrow_1.before args s = true) : ∀ j, j < 4 → (Cond.eq (.elem (Term.field (Term.string "LinkHouse" 291) "java/lang/String" "value" "[B") (.int (Int32.ofNat j))) (.int (zby14.getD j 0))).before args s = true := by
  refine z_step ?_ (za1 (za2 (za1 (za2 (za2 (za2 (za1 (za1 (za2 (za1 h))))))))))
  refine z_step ?_ (za2 (za1 (za1 (za2 (za2 (za2 (za1 (za1 (za2 (za1 h))))))))))
  refine z_step ?_ (za1 (za1 (za1 (za2 (za2 (za2 (za1 (za1 (za2 (za1 h))))))))))
  refine z_step ?_ (za2 (za2 (za2 (za1 (za2 (za2 (za1 (za1 (za2 (za1 h))))))))))
  exact fun j hj => absurd hj (Nat.not_lt_zero _)
theorem zstr14 {args : Array Value} {s : State} (h : narrow_1.before args s = true) : ∃ q t : Nat, zPs s args ("LinkHouse", 291, 4, zby14) q t := by
  obtain ⟨adK, adV, hS, hev⟩ := vk_Sof (N := 1) (tm := fun _ => Term.string "LinkHouse" 291) (len := [4]) (byt := [zby14]) (args := args) (s := s) (A := fun q => s.heap.size ≤ q) (fun i hi => by rw [show i = 0 by omega]; decide) (fun i _ => (za2 (za2 (za1 (za1 (za2 (za2 (za1 (za1 (za2 (za1 h))))))))))) (fun i _ => (za1 (za1 (za2 (za1 (za2 (za2 (za1 (za1 (za2 (za1 h))))))))))) (fun i _ => (za2 (za1 (za2 (za1 (za2 (za2 (za1 (za1 (za2 (za1 h))))))))))) (fun i hi => by rw [show i = 0 by omega]; exact (za1 (za2 (za2 (za1 (za2 (za2 (za1 (za1 (za2 (za1 h))))))))))) (fun i hi j hj => by rw [show i = 0 by omega] at hj ⊢; exact zels14 h j hj) (fun i j hi hj hne => absurd (show i = j by omega) hne) (fun a h => Nat.not_le.mpr h)
  obtain ⟨h1, h2, h3, h4⟩ := hS.1 0 (by decide)
  exact ⟨adK 0, adV 0, hev 0 (by decide), h1, h2, h3, h4⟩
def zby16 : List Int32 := [32, 97, 115, 32]
set_option maxRecDepth 20000 in
theorem zels16 {args : Array Value} {s : State} (h : narrow_1.before args s = true) : ∀ j, j < 4 → (Cond.eq (.elem (Term.field (Term.string "LinkHouse" 296) "java/lang/String" "value" "[B") (.int (Int32.ofNat j))) (.int (zby16.getD j 0))).before args s = true := by
  refine z_step ?_ (za1 (za2 (za1 (za1 (za1 (za1 (za2 (za1 (za2 (za1 h))))))))))
  refine z_step ?_ (za2 (za1 (za1 (za1 (za1 (za1 (za2 (za1 (za2 (za1 h))))))))))
  refine z_step ?_ (za1 (za1 (za1 (za1 (za1 (za1 (za2 (za1 (za2 (za1 h))))))))))
  refine z_step ?_ (za2 (za2 (za2 (za2 (za2 (za2 (za1 (za1 (za2 (za1 h))))))))))
  exact fun j hj => absurd hj (Nat.not_lt_zero _)
theorem zstr16 {args : Array Value} {s : State} (h : narrow_1.before args s = true) : ∃ q t : Nat, zPs s args ("LinkHouse", 296, 4, zby16) q t := by
  obtain ⟨adK, adV, hS, hev⟩ := vk_Sof (N := 1) (tm := fun _ => Term.string "LinkHouse" 296) (len := [4]) (byt := [zby16]) (args := args) (s := s) (A := fun q => s.heap.size ≤ q) (fun i hi => by rw [show i = 0 by omega]; decide) (fun i _ => (za2 (za2 (za1 (za2 (za2 (za2 (za1 (za1 (za2 (za1 h))))))))))) (fun i _ => (za1 (za1 (za2 (za2 (za2 (za2 (za1 (za1 (za2 (za1 h))))))))))) (fun i _ => (za2 (za1 (za2 (za2 (za2 (za2 (za1 (za1 (za2 (za1 h))))))))))) (fun i hi => by rw [show i = 0 by omega]; exact (za1 (za2 (za2 (za2 (za2 (za2 (za1 (za1 (za2 (za1 h))))))))))) (fun i hi j hj => by rw [show i = 0 by omega] at hj ⊢; exact zels16 h j hj) (fun i j hi hj hne => absurd (show i = j by omega) hne) (fun a h => Nat.not_le.mpr h)
  obtain ⟨h1, h2, h3, h4⟩ := hS.1 0 (by decide)
  exact ⟨adK 0, adV 0, hev 0 (by decide), h1, h2, h3, h4⟩
def zby18 : List Int32 := [32, 105, 110, 32]
set_option maxRecDepth 20000 in
theorem zels18 {args : Array Value} {s : State} (h : narrow_1.before args s = true) : ∀ j, j < 4 → (Cond.eq (.elem (Term.field (Term.string "LinkHouse" 307) "java/lang/String" "value" "[B") (.int (Int32.ofNat j))) (.int (zby18.getD j 0))).before args s = true := by
  refine z_step ?_ (za2 (za2 (za2 (za2 (za1 (za1 (za2 (za1 (za2 (za1 h))))))))))
  refine z_step ?_ (za1 (za2 (za2 (za2 (za1 (za1 (za2 (za1 (za2 (za1 h))))))))))
  refine z_step ?_ (za2 (za1 (za2 (za2 (za1 (za1 (za2 (za1 (za2 (za1 h))))))))))
  refine z_step ?_ (za1 (za1 (za2 (za2 (za1 (za1 (za2 (za1 (za2 (za1 h))))))))))
  exact fun j hj => absurd hj (Nat.not_lt_zero _)
theorem zstr18 {args : Array Value} {s : State} (h : narrow_1.before args s = true) : ∃ q t : Nat, zPs s args ("LinkHouse", 307, 4, zby18) q t := by
  obtain ⟨adK, adV, hS, hev⟩ := vk_Sof (N := 1) (tm := fun _ => Term.string "LinkHouse" 307) (len := [4]) (byt := [zby18]) (args := args) (s := s) (A := fun q => s.heap.size ≤ q) (fun i hi => by rw [show i = 0 by omega]; decide) (fun i _ => (za1 (za1 (za1 (za2 (za1 (za1 (za2 (za1 (za2 (za1 h))))))))))) (fun i _ => (za2 (za1 (za1 (za2 (za1 (za1 (za2 (za1 (za2 (za1 h))))))))))) (fun i _ => (za1 (za2 (za1 (za2 (za1 (za1 (za2 (za1 (za2 (za1 h))))))))))) (fun i hi => by rw [show i = 0 by omega]; exact (za2 (za2 (za1 (za2 (za1 (za1 (za2 (za1 (za2 (za1 h))))))))))) (fun i hi j hj => by rw [show i = 0 by omega] at hj ⊢; exact zels18 h j hj) (fun i j hi hj hne => absurd (show i = j by omega) hne) (fun a h => Nat.not_le.mpr h)
  obtain ⟨h1, h2, h3, h4⟩ := hS.1 0 (by decide)
  exact ⟨adK 0, adV 0, hev 0 (by decide), h1, h2, h3, h4⟩
def zby20 : List Int32 := [32, 119, 105, 116, 104, 32]
set_option maxRecDepth 20000 in
theorem zels20 {args : Array Value} {s : State} (h : narrow_1.before args s = true) : ∀ j, j < 6 → (Cond.eq (.elem (Term.field (Term.string "LinkHouse" 309) "java/lang/String" "value" "[B") (.int (Int32.ofNat j))) (.int (zby20.getD j 0))).before args s = true := by
  refine z_step ?_ (za2 (za1 (za1 (za2 (za2 (za1 (za2 (za1 (za2 (za1 h))))))))))
  refine z_step ?_ (za1 (za1 (za1 (za2 (za2 (za1 (za2 (za1 (za2 (za1 h))))))))))
  refine z_step ?_ (za2 (za2 (za2 (za1 (za2 (za1 (za2 (za1 (za2 (za1 h))))))))))
  refine z_step ?_ (za1 (za2 (za2 (za1 (za2 (za1 (za2 (za1 (za2 (za1 h))))))))))
  refine z_step ?_ (za2 (za1 (za2 (za1 (za2 (za1 (za2 (za1 (za2 (za1 h))))))))))
  refine z_step ?_ (za1 (za1 (za2 (za1 (za2 (za1 (za2 (za1 (za2 (za1 h))))))))))
  exact fun j hj => absurd hj (Nat.not_lt_zero _)
theorem zstr20 {args : Array Value} {s : State} (h : narrow_1.before args s = true) : ∃ q t : Nat, zPs s args ("LinkHouse", 309, 6, zby20) q t := by
  obtain ⟨adK, adV, hS, hev⟩ := vk_Sof (N := 1) (tm := fun _ => Term.string "LinkHouse" 309) (len := [6]) (byt := [zby20]) (args := args) (s := s) (A := fun q => s.heap.size ≤ q) (fun i hi => by rw [show i = 0 by omega]; decide) (fun i _ => (za1 (za1 (za1 (za1 (za2 (za1 (za2 (za1 (za2 (za1 h))))))))))) (fun i _ => (za2 (za1 (za1 (za1 (za2 (za1 (za2 (za1 (za2 (za1 h))))))))))) (fun i _ => (za1 (za2 (za1 (za1 (za2 (za1 (za2 (za1 (za2 (za1 h))))))))))) (fun i hi => by rw [show i = 0 by omega]; exact (za2 (za2 (za1 (za1 (za2 (za1 (za2 (za1 (za2 (za1 h))))))))))) (fun i hi j hj => by rw [show i = 0 by omega] at hj ⊢; exact zels20 h j hj) (fun i j hi hj hne => absurd (show i = j by omega) hne) (fun a h => Nat.not_le.mpr h)
  obtain ⟨h1, h2, h3, h4⟩ := hS.1 0 (by decide)
  exact ⟨adK 0, adV 0, hev 0 (by decide), h1, h2, h3, h4⟩
def zby22 : List Int32 := [32, 111, 110, 108, 121, 32]
set_option maxRecDepth 20000 in
theorem zels22 {args : Array Value} {s : State} (h : narrow_1.before args s = true) : ∀ j, j < 6 → (Cond.eq (.elem (Term.field (Term.string "LinkHouse" 311) "java/lang/String" "value" "[B") (.int (Int32.ofNat j))) (.int (zby22.getD j 0))).before args s = true := by
  refine z_step ?_ (za2 (za2 (za1 (za1 (za1 (za2 (za2 (za1 (za2 (za1 h))))))))))
  refine z_step ?_ (za1 (za2 (za1 (za1 (za1 (za2 (za2 (za1 (za2 (za1 h))))))))))
  refine z_step ?_ (za2 (za1 (za1 (za1 (za1 (za2 (za2 (za1 (za2 (za1 h))))))))))
  refine z_step ?_ (za1 (za1 (za1 (za1 (za1 (za2 (za2 (za1 (za2 (za1 h))))))))))
  refine z_step ?_ (za2 (za2 (za2 (za2 (za2 (za1 (za2 (za1 (za2 (za1 h))))))))))
  refine z_step ?_ (za1 (za2 (za2 (za2 (za2 (za1 (za2 (za1 (za2 (za1 h))))))))))
  exact fun j hj => absurd hj (Nat.not_lt_zero _)
theorem zstr22 {args : Array Value} {s : State} (h : narrow_1.before args s = true) : ∃ q t : Nat, zPs s args ("LinkHouse", 311, 6, zby22) q t := by
  obtain ⟨adK, adV, hS, hev⟩ := vk_Sof (N := 1) (tm := fun _ => Term.string "LinkHouse" 311) (len := [6]) (byt := [zby22]) (args := args) (s := s) (A := fun q => s.heap.size ≤ q) (fun i hi => by rw [show i = 0 by omega]; decide) (fun i _ => (za1 (za2 (za1 (za2 (za2 (za1 (za2 (za1 (za2 (za1 h))))))))))) (fun i _ => (za2 (za2 (za1 (za2 (za2 (za1 (za2 (za1 (za2 (za1 h))))))))))) (fun i _ => (za1 (za1 (za2 (za2 (za2 (za1 (za2 (za1 (za2 (za1 h))))))))))) (fun i hi => by rw [show i = 0 by omega]; exact (za2 (za1 (za2 (za2 (za2 (za1 (za2 (za1 (za2 (za1 h))))))))))) (fun i hi j hj => by rw [show i = 0 by omega] at hj ⊢; exact zels22 h j hj) (fun i j hi hj hne => absurd (show i = j by omega) hne) (fun a h => Nat.not_le.mpr h)
  obtain ⟨h1, h2, h3, h4⟩ := hS.1 0 (by decide)
  exact ⟨adK 0, adV 0, hev 0 (by decide), h1, h2, h3, h4⟩
def zby24 : List Int32 := [99, 108, 97, 115, 115, 32]
set_option maxRecDepth 20000 in
theorem zels24 {args : Array Value} {s : State} (h : narrow_1.before args s = true) : ∀ j, j < 6 → (Cond.eq (.elem (Term.field (Term.string "LinkHouse" 278) "java/lang/String" "value" "[B") (.int (Int32.ofNat j))) (.int (zby24.getD j 0))).before args s = true := by
  refine z_step ?_ (za2 (za2 (za1 (za1 (za1 (za2 (za1 (za1 (za2 (za1 h))))))))))
  refine z_step ?_ (za1 (za2 (za1 (za1 (za1 (za2 (za1 (za1 (za2 (za1 h))))))))))
  refine z_step ?_ (za2 (za1 (za1 (za1 (za1 (za2 (za1 (za1 (za2 (za1 h))))))))))
  refine z_step ?_ (za1 (za1 (za1 (za1 (za1 (za2 (za1 (za1 (za2 (za1 h))))))))))
  refine z_step ?_ (za2 (za2 (za2 (za2 (za2 (za1 (za1 (za1 (za2 (za1 h))))))))))
  refine z_step ?_ (za1 (za2 (za2 (za2 (za2 (za1 (za1 (za1 (za2 (za1 h))))))))))
  exact fun j hj => absurd hj (Nat.not_lt_zero _)
theorem zstr24 {args : Array Value} {s : State} (h : narrow_1.before args s = true) : ∃ q t : Nat, zPs s args ("LinkHouse", 278, 6, zby24) q t := by
  obtain ⟨adK, adV, hS, hev⟩ := vk_Sof (N := 1) (tm := fun _ => Term.string "LinkHouse" 278) (len := [6]) (byt := [zby24]) (args := args) (s := s) (A := fun q => s.heap.size ≤ q) (fun i hi => by rw [show i = 0 by omega]; decide) (fun i _ => (za1 (za2 (za1 (za2 (za2 (za1 (za1 (za1 (za2 (za1 h))))))))))) (fun i _ => (za2 (za2 (za1 (za2 (za2 (za1 (za1 (za1 (za2 (za1 h))))))))))) (fun i _ => (za1 (za1 (za2 (za2 (za2 (za1 (za1 (za1 (za2 (za1 h))))))))))) (fun i hi => by rw [show i = 0 by omega]; exact (za2 (za1 (za2 (za2 (za2 (za1 (za1 (za1 (za2 (za1 h))))))))))) (fun i hi j hj => by rw [show i = 0 by omega] at hj ⊢; exact zels24 h j hj) (fun i j hi hj hne => absurd (show i = j by omega) hne) (fun a h => Nat.not_le.mpr h)
  obtain ⟨h1, h2, h3, h4⟩ := hS.1 0 (by decide)
  exact ⟨adK 0, adV 0, hev 0 (by decide), h1, h2, h3, h4⟩
def zby26 : List Int32 := [98, 97, 114, 101, 32]
set_option maxRecDepth 20000 in
theorem zels26 {args : Array Value} {s : State} (h : narrow_1.before args s = true) : ∀ j, j < 5 → (Cond.eq (.elem (Term.field (Term.string "LinkHouse" 271) "java/lang/String" "value" "[B") (.int (Int32.ofNat j))) (.int (zby26.getD j 0))).before args s = true := by
  refine z_step ?_ (za1 (za1 (za1 (za1 (za2 (za1 (za1 (za1 (za2 (za1 h))))))))))
  refine z_step ?_ (za2 (za2 (za2 (za2 (za1 (za1 (za1 (za1 (za2 (za1 h))))))))))
  refine z_step ?_ (za1 (za2 (za2 (za2 (za1 (za1 (za1 (za1 (za2 (za1 h))))))))))
  refine z_step ?_ (za2 (za1 (za2 (za2 (za1 (za1 (za1 (za1 (za2 (za1 h))))))))))
  refine z_step ?_ (za1 (za1 (za2 (za2 (za1 (za1 (za1 (za1 (za2 (za1 h))))))))))
  exact fun j hj => absurd hj (Nat.not_lt_zero _)
theorem zstr26 {args : Array Value} {s : State} (h : narrow_1.before args s = true) : ∃ q t : Nat, zPs s args ("LinkHouse", 271, 5, zby26) q t := by
  obtain ⟨adK, adV, hS, hev⟩ := vk_Sof (N := 1) (tm := fun _ => Term.string "LinkHouse" 271) (len := [5]) (byt := [zby26]) (args := args) (s := s) (A := fun q => s.heap.size ≤ q) (fun i hi => by rw [show i = 0 by omega]; decide) (fun i _ => (za1 (za1 (za1 (za2 (za1 (za1 (za1 (za1 (za2 (za1 h))))))))))) (fun i _ => (za2 (za1 (za1 (za2 (za1 (za1 (za1 (za1 (za2 (za1 h))))))))))) (fun i _ => (za1 (za2 (za1 (za2 (za1 (za1 (za1 (za1 (za2 (za1 h))))))))))) (fun i hi => by rw [show i = 0 by omega]; exact (za2 (za2 (za1 (za2 (za1 (za1 (za1 (za1 (za2 (za1 h))))))))))) (fun i hi j hj => by rw [show i = 0 by omega] at hj ⊢; exact zels26 h j hj) (fun i j hi hj hne => absurd (show i = j by omega) hne) (fun a h => Nat.not_le.mpr h)
  obtain ⟨h1, h2, h3, h4⟩ := hS.1 0 (by decide)
  exact ⟨adK 0, adV 0, hev 0 (by decide), h1, h2, h3, h4⟩
def zby28 : List Int32 := []
set_option maxRecDepth 20000 in
theorem zels28 {args : Array Value} {s : State} (h : narrow_1.before args s = true) : ∀ j, j < 0 → (Cond.eq (.elem (Term.field (Term.string "LinkHouse" 257) "java/lang/String" "value" "[B") (.int (Int32.ofNat j))) (.int (zby28.getD j 0))).before args s = true := by
  exact fun j hj => absurd hj (Nat.not_lt_zero _)
theorem zstr28 {args : Array Value} {s : State} (h : narrow_1.before args s = true) : ∃ q t : Nat, zPs s args ("LinkHouse", 257, 0, zby28) q t := by
  obtain ⟨adK, adV, hS, hev⟩ := vk_Sof (N := 1) (tm := fun _ => Term.string "LinkHouse" 257) (len := [0]) (byt := [zby28]) (args := args) (s := s) (A := fun q => s.heap.size ≤ q) (fun i hi => by rw [show i = 0 by omega]; decide) (fun i _ => (za2 (za1 (za1 (za2 (za2 (za2 (za2 (za2 (za1 (za1 h))))))))))) (fun i _ => (za1 (za2 (za1 (za2 (za2 (za2 (za2 (za2 (za1 (za1 h))))))))))) (fun i _ => (za2 (za2 (za1 (za2 (za2 (za2 (za2 (za2 (za1 (za1 h))))))))))) (fun i hi => by rw [show i = 0 by omega]; exact (za1 (za1 (za2 (za2 (za2 (za2 (za2 (za2 (za1 (za1 h))))))))))) (fun i hi j hj => by rw [show i = 0 by omega] at hj ⊢; exact zels28 h j hj) (fun i j hi hj hne => absurd (show i = j by omega) hne) (fun a h => Nat.not_le.mpr h)
  obtain ⟨h1, h2, h3, h4⟩ := hS.1 0 (by decide)
  exact ⟨adK 0, adV 0, hev 0 (by decide), h1, h2, h3, h4⟩
def zby30 : List Int32 := [44]
set_option maxRecDepth 20000 in
theorem zels30 {args : Array Value} {s : State} (h : narrow_1.before args s = true) : ∀ j, j < 1 → (Cond.eq (.elem (Term.field (Term.string "LinkHouse" 316) "java/lang/String" "value" "[B") (.int (Int32.ofNat j))) (.int (zby30.getD j 0))).before args s = true := by
  refine z_step ?_ (za2 (za2 (za2 (za1 (za1 (za1 (za2 (za1 (za2 (za1 h))))))))))
  exact fun j hj => absurd hj (Nat.not_lt_zero _)
theorem zstr30 {args : Array Value} {s : State} (h : narrow_1.before args s = true) : ∃ q t : Nat, zPs s args ("LinkHouse", 316, 1, zby30) q t := by
  obtain ⟨adK, adV, hS, hev⟩ := vk_Sof (N := 1) (tm := fun _ => Term.string "LinkHouse" 316) (len := [1]) (byt := [zby30]) (args := args) (s := s) (A := fun q => s.heap.size ≤ q) (fun i hi => by rw [show i = 0 by omega]; decide) (fun i _ => (za2 (za2 (za1 (za1 (za1 (za1 (za2 (za1 (za2 (za1 h))))))))))) (fun i _ => (za1 (za1 (za2 (za1 (za1 (za1 (za2 (za1 (za2 (za1 h))))))))))) (fun i _ => (za2 (za1 (za2 (za1 (za1 (za1 (za2 (za1 (za2 (za1 h))))))))))) (fun i hi => by rw [show i = 0 by omega]; exact (za1 (za2 (za2 (za1 (za1 (za1 (za2 (za1 (za2 (za1 h))))))))))) (fun i hi j hj => by rw [show i = 0 by omega] at hj ⊢; exact zels30 h j hj) (fun i j hi hj hne => absurd (show i = j by omega) hne) (fun a h => Nat.not_le.mpr h)
  obtain ⟨h1, h2, h3, h4⟩ := hS.1 0 (by decide)
  exact ⟨adK 0, adV 0, hev 0 (by decide), h1, h2, h3, h4⟩
def zby32 : List Int32 := [98, 114, 105, 100, 103, 101, 32]
set_option maxRecDepth 20000 in
theorem zels32 {args : Array Value} {s : State} (h : narrow_1.before args s = true) : ∀ j, j < 7 → (Cond.eq (.elem (Term.field (Term.string "LinkHouse" 327) "java/lang/String" "value" "[B") (.int (Int32.ofNat j))) (.int (zby32.getD j 0))).before args s = true := by
  refine z_step ?_ (za1 (za2 (za2 (za2 (za1 (za2 (za2 (za1 (za2 (za1 h))))))))))
  refine z_step ?_ (za2 (za1 (za2 (za2 (za1 (za2 (za2 (za1 (za2 (za1 h))))))))))
  refine z_step ?_ (za1 (za1 (za2 (za2 (za1 (za2 (za2 (za1 (za2 (za1 h))))))))))
  refine z_step ?_ (za2 (za2 (za1 (za2 (za1 (za2 (za2 (za1 (za2 (za1 h))))))))))
  refine z_step ?_ (za1 (za2 (za1 (za2 (za1 (za2 (za2 (za1 (za2 (za1 h))))))))))
  refine z_step ?_ (za2 (za1 (za1 (za2 (za1 (za2 (za2 (za1 (za2 (za1 h))))))))))
  refine z_step ?_ (za1 (za1 (za1 (za2 (za1 (za2 (za2 (za1 (za2 (za1 h))))))))))
  exact fun j hj => absurd hj (Nat.not_lt_zero _)
theorem zstr32 {args : Array Value} {s : State} (h : narrow_1.before args s = true) : ∃ q t : Nat, zPs s args ("LinkHouse", 327, 7, zby32) q t := by
  obtain ⟨adK, adV, hS, hev⟩ := vk_Sof (N := 1) (tm := fun _ => Term.string "LinkHouse" 327) (len := [7]) (byt := [zby32]) (args := args) (s := s) (A := fun q => s.heap.size ≤ q) (fun i hi => by rw [show i = 0 by omega]; decide) (fun i _ => (za1 (za1 (za2 (za1 (za1 (za2 (za2 (za1 (za2 (za1 h))))))))))) (fun i _ => (za2 (za1 (za2 (za1 (za1 (za2 (za2 (za1 (za2 (za1 h))))))))))) (fun i _ => (za1 (za2 (za2 (za1 (za1 (za2 (za2 (za1 (za2 (za1 h))))))))))) (fun i hi => by rw [show i = 0 by omega]; exact (za2 (za2 (za2 (za1 (za1 (za2 (za2 (za1 (za2 (za1 h))))))))))) (fun i hi j hj => by rw [show i = 0 by omega] at hj ⊢; exact zels32 h j hj) (fun i j hi hj hne => absurd (show i = j by omega) hne) (fun a h => Nat.not_le.mpr h)
  obtain ⟨h1, h2, h3, h4⟩ := hS.1 0 (by decide)
  exact ⟨adK 0, adV 0, hev 0 (by decide), h1, h2, h3, h4⟩
def zby34 : List Int32 := [115, 116, 97, 116, 105, 99, 32]
set_option maxRecDepth 20000 in
theorem zels34 {args : Array Value} {s : State} (h : narrow_1.before args s = true) : ∀ j, j < 7 → (Cond.eq (.elem (Term.field (Term.string "LinkHouse" 339) "java/lang/String" "value" "[B") (.int (Int32.ofNat j))) (.int (zby34.getD j 0))).before args s = true := by
  refine z_step ?_ (za1 (za2 (za1 (za2 (za1 (za1 (za1 (za2 (za2 (za1 h))))))))))
  refine z_step ?_ (za2 (za1 (za1 (za2 (za1 (za1 (za1 (za2 (za2 (za1 h))))))))))
  refine z_step ?_ (za1 (za1 (za1 (za2 (za1 (za1 (za1 (za2 (za2 (za1 h))))))))))
  refine z_step ?_ (za2 (za2 (za2 (za1 (za1 (za1 (za1 (za2 (za2 (za1 h))))))))))
  refine z_step ?_ (za1 (za2 (za2 (za1 (za1 (za1 (za1 (za2 (za2 (za1 h))))))))))
  refine z_step ?_ (za2 (za1 (za2 (za1 (za1 (za1 (za1 (za2 (za2 (za1 h))))))))))
  refine z_step ?_ (za1 (za1 (za2 (za1 (za1 (za1 (za1 (za2 (za2 (za1 h))))))))))
  exact fun j hj => absurd hj (Nat.not_lt_zero _)
theorem zstr34 {args : Array Value} {s : State} (h : narrow_1.before args s = true) : ∃ q t : Nat, zPs s args ("LinkHouse", 339, 7, zby34) q t := by
  obtain ⟨adK, adV, hS, hev⟩ := vk_Sof (N := 1) (tm := fun _ => Term.string "LinkHouse" 339) (len := [7]) (byt := [zby34]) (args := args) (s := s) (A := fun q => s.heap.size ≤ q) (fun i hi => by rw [show i = 0 by omega]; decide) (fun i _ => (za2 (za2 (za2 (za2 (za2 (za2 (za2 (za1 (za2 (za1 h))))))))))) (fun i _ => (za1 (za1 (za1 (za1 (za1 (za1 (za2 (za2 (za1 h)))))))))) (fun i _ => (za1 (za2 (za1 (za1 (za1 (za1 (za1 (za2 (za2 (za1 h))))))))))) (fun i hi => by rw [show i = 0 by omega]; exact (za2 (za2 (za1 (za1 (za1 (za1 (za1 (za2 (za2 (za1 h))))))))))) (fun i hi j hj => by rw [show i = 0 by omega] at hj ⊢; exact zels34 h j hj) (fun i j hi hj hne => absurd (show i = j by omega) hne) (fun a h => Nat.not_le.mpr h)
  obtain ⟨h1, h2, h3, h4⟩ := hS.1 0 (by decide)
  exact ⟨adK 0, adV 0, hev 0 (by decide), h1, h2, h3, h4⟩
def zby36 : List Int32 := [110, 101, 119]
set_option maxRecDepth 20000 in
theorem zels36 {args : Array Value} {s : State} (h : narrow_1.before args s = true) : ∀ j, j < 3 → (Cond.eq (.elem (Term.field (Term.string "LinkHouse" 346) "java/lang/String" "value" "[B") (.int (Int32.ofNat j))) (.int (zby36.getD j 0))).before args s = true := by
  refine z_step ?_ (za2 (za1 (za1 (za1 (za2 (za1 (za1 (za2 (za2 (za1 h))))))))))
  refine z_step ?_ (za1 (za1 (za1 (za1 (za2 (za1 (za1 (za2 (za2 (za1 h))))))))))
  refine z_step ?_ (za2 (za2 (za2 (za2 (za1 (za1 (za1 (za2 (za2 (za1 h))))))))))
  exact fun j hj => absurd hj (Nat.not_lt_zero _)
theorem zstr36 {args : Array Value} {s : State} (h : narrow_1.before args s = true) : ∃ q t : Nat, zPs s args ("LinkHouse", 346, 3, zby36) q t := by
  obtain ⟨adK, adV, hS, hev⟩ := vk_Sof (N := 1) (tm := fun _ => Term.string "LinkHouse" 346) (len := [3]) (byt := [zby36]) (args := args) (s := s) (A := fun q => s.heap.size ≤ q) (fun i hi => by rw [show i = 0 by omega]; decide) (fun i _ => (za2 (za2 (za1 (za2 (za1 (za1 (za1 (za2 (za2 (za1 h))))))))))) (fun i _ => (za1 (za1 (za2 (za2 (za1 (za1 (za1 (za2 (za2 (za1 h))))))))))) (fun i _ => (za2 (za1 (za2 (za2 (za1 (za1 (za1 (za2 (za2 (za1 h))))))))))) (fun i hi => by rw [show i = 0 by omega]; exact (za1 (za2 (za2 (za2 (za1 (za1 (za1 (za2 (za2 (za1 h))))))))))) (fun i hi j hj => by rw [show i = 0 by omega] at hj ⊢; exact zels36 h j hj) (fun i j hi hj hne => absurd (show i = j by omega) hne) (fun a h => Nat.not_le.mpr h)
  obtain ⟨h1, h2, h3, h4⟩ := hS.1 0 (by decide)
  exact ⟨adK 0, adV 0, hev 0 (by decide), h1, h2, h3, h4⟩
def zby38 : List Int32 := [32]
set_option maxRecDepth 20000 in
theorem zels38 {args : Array Value} {s : State} (h : narrow_1.before args s = true) : ∀ j, j < 1 → (Cond.eq (.elem (Term.field (Term.string "LinkHouse" 354) "java/lang/String" "value" "[B") (.int (Int32.ofNat j))) (.int (zby38.getD j 0))).before args s = true := by
  refine z_step ?_ (za1 (za1 (za1 (za1 (za1 (za2 (za1 (za2 (za2 (za1 h))))))))))
  exact fun j hj => absurd hj (Nat.not_lt_zero _)
theorem zstr38 {args : Array Value} {s : State} (h : narrow_1.before args s = true) : ∃ q t : Nat, zPs s args ("LinkHouse", 354, 1, zby38) q t := by
  obtain ⟨adK, adV, hS, hev⟩ := vk_Sof (N := 1) (tm := fun _ => Term.string "LinkHouse" 354) (len := [1]) (byt := [zby38]) (args := args) (s := s) (A := fun q => s.heap.size ≤ q) (fun i hi => by rw [show i = 0 by omega]; decide) (fun i _ => (za1 (za1 (za2 (za2 (za2 (za1 (za1 (za2 (za2 (za1 h))))))))))) (fun i _ => (za2 (za1 (za2 (za2 (za2 (za1 (za1 (za2 (za2 (za1 h))))))))))) (fun i _ => (za1 (za2 (za2 (za2 (za2 (za1 (za1 (za2 (za2 (za1 h))))))))))) (fun i hi => by rw [show i = 0 by omega]; exact (za2 (za2 (za2 (za2 (za2 (za1 (za1 (za2 (za2 (za1 h))))))))))) (fun i hi j hj => by rw [show i = 0 by omega] at hj ⊢; exact zels38 h j hj) (fun i j hi hj hne => absurd (show i = j by omega) hne) (fun a h => Nat.not_le.mpr h)
  obtain ⟨h1, h2, h3, h4⟩ := hS.1 0 (by decide)
  exact ⟨adK 0, adV 0, hev 0 (by decide), h1, h2, h3, h4⟩
def zby40 : List Int32 := [61]
set_option maxRecDepth 20000 in
theorem zels40 {args : Array Value} {s : State} (h : narrow_1.before args s = true) : ∀ j, j < 1 → (Cond.eq (.elem (Term.field (Term.string "LinkHouse" 363) "java/lang/String" "value" "[B") (.int (Int32.ofNat j))) (.int (zby40.getD j 0))).before args s = true := by
  refine z_step ?_ (za2 (za1 (za2 (za1 (za1 (za2 (za1 (za2 (za2 (za1 h))))))))))
  exact fun j hj => absurd hj (Nat.not_lt_zero _)
theorem zstr40 {args : Array Value} {s : State} (h : narrow_1.before args s = true) : ∃ q t : Nat, zPs s args ("LinkHouse", 363, 1, zby40) q t := by
  obtain ⟨adK, adV, hS, hev⟩ := vk_Sof (N := 1) (tm := fun _ => Term.string "LinkHouse" 363) (len := [1]) (byt := [zby40]) (args := args) (s := s) (A := fun q => s.heap.size ≤ q) (fun i hi => by rw [show i = 0 by omega]; decide) (fun i _ => (za2 (za1 (za1 (za1 (za1 (za2 (za1 (za2 (za2 (za1 h))))))))))) (fun i _ => (za1 (za2 (za1 (za1 (za1 (za2 (za1 (za2 (za2 (za1 h))))))))))) (fun i _ => (za2 (za2 (za1 (za1 (za1 (za2 (za1 (za2 (za2 (za1 h))))))))))) (fun i hi => by rw [show i = 0 by omega]; exact (za1 (za1 (za2 (za1 (za1 (za2 (za1 (za2 (za2 (za1 h))))))))))) (fun i hi j hj => by rw [show i = 0 by omega] at hj ⊢; exact zels40 h j hj) (fun i j hi hj hne => absurd (show i = j by omega) hne) (fun a h => Nat.not_le.mpr h)
  obtain ⟨h1, h2, h3, h4⟩ := hS.1 0 (by decide)
  exact ⟨adK 0, adV 0, hev 0 (by decide), h1, h2, h3, h4⟩
def zby42 : List Int32 := [107, 105, 110, 32]
set_option maxRecDepth 20000 in
theorem zels42 {args : Array Value} {s : State} (h : narrow_1.before args s = true) : ∀ j, j < 4 → (Cond.eq (.elem (Term.field (Term.string "LinkHouse" 332) "java/lang/String" "value" "[B") (.int (Int32.ofNat j))) (.int (zby42.getD j 0))).before args s = true := by
  refine z_step ?_ (za1 (za2 (za2 (za1 (za2 (za2 (za2 (za1 (za2 (za1 h))))))))))
  refine z_step ?_ (za2 (za1 (za2 (za1 (za2 (za2 (za2 (za1 (za2 (za1 h))))))))))
  refine z_step ?_ (za1 (za1 (za2 (za1 (za2 (za2 (za2 (za1 (za2 (za1 h))))))))))
  refine z_step ?_ (za2 (za2 (za1 (za1 (za2 (za2 (za2 (za1 (za2 (za1 h))))))))))
  exact fun j hj => absurd hj (Nat.not_lt_zero _)
theorem zstr42 {args : Array Value} {s : State} (h : narrow_1.before args s = true) : ∃ q t : Nat, zPs s args ("LinkHouse", 332, 4, zby42) q t := by
  obtain ⟨adK, adV, hS, hev⟩ := vk_Sof (N := 1) (tm := fun _ => Term.string "LinkHouse" 332) (len := [4]) (byt := [zby42]) (args := args) (s := s) (A := fun q => s.heap.size ≤ q) (fun i hi => by rw [show i = 0 by omega]; decide) (fun i _ => (za2 (za2 (za2 (za2 (za1 (za2 (za2 (za1 (za2 (za1 h))))))))))) (fun i _ => (za1 (za1 (za1 (za1 (za2 (za2 (za2 (za1 (za2 (za1 h))))))))))) (fun i _ => (za2 (za1 (za1 (za1 (za2 (za2 (za2 (za1 (za2 (za1 h))))))))))) (fun i hi => by rw [show i = 0 by omega]; exact (za1 (za2 (za1 (za1 (za2 (za2 (za2 (za1 (za2 (za1 h))))))))))) (fun i hi j hj => by rw [show i = 0 by omega] at hj ⊢; exact zels42 h j hj) (fun i j hi hj hne => absurd (show i = j by omega) hne) (fun a h => Nat.not_le.mpr h)
  obtain ⟨h1, h2, h3, h4⟩ := hS.1 0 (by decide)
  exact ⟨adK 0, adV 0, hev 0 (by decide), h1, h2, h3, h4⟩
def zby44 : List Int32 := [111, 119, 110, 32]
set_option maxRecDepth 20000 in
theorem zels44 {args : Array Value} {s : State} (h : narrow_1.before args s = true) : ∀ j, j < 4 → (Cond.eq (.elem (Term.field (Term.string "LinkHouse" 334) "java/lang/String" "value" "[B") (.int (Int32.ofNat j))) (.int (zby44.getD j 0))).before args s = true := by
  refine z_step ?_ (za1 (za2 (za2 (za2 (za2 (za2 (za2 (za1 (za2 (za1 h))))))))))
  refine z_step ?_ (za2 (za1 (za2 (za2 (za2 (za2 (za2 (za1 (za2 (za1 h))))))))))
  refine z_step ?_ (za1 (za1 (za2 (za2 (za2 (za2 (za2 (za1 (za2 (za1 h))))))))))
  refine z_step ?_ (za2 (za2 (za1 (za2 (za2 (za2 (za2 (za1 (za2 (za1 h))))))))))
  exact fun j hj => absurd hj (Nat.not_lt_zero _)
theorem zstr44 {args : Array Value} {s : State} (h : narrow_1.before args s = true) : ∃ q t : Nat, zPs s args ("LinkHouse", 334, 4, zby44) q t := by
  obtain ⟨adK, adV, hS, hev⟩ := vk_Sof (N := 1) (tm := fun _ => Term.string "LinkHouse" 334) (len := [4]) (byt := [zby44]) (args := args) (s := s) (A := fun q => s.heap.size ≤ q) (fun i hi => by rw [show i = 0 by omega]; decide) (fun i _ => (za2 (za2 (za2 (za1 (za2 (za2 (za2 (za1 (za2 (za1 h))))))))))) (fun i _ => (za1 (za1 (za1 (za2 (za2 (za2 (za2 (za1 (za2 (za1 h))))))))))) (fun i _ => (za2 (za1 (za1 (za2 (za2 (za2 (za2 (za1 (za2 (za1 h))))))))))) (fun i hi => by rw [show i = 0 by omega]; exact (za1 (za2 (za1 (za2 (za2 (za2 (za2 (za1 (za2 (za1 h))))))))))) (fun i hi j hj => by rw [show i = 0 by omega] at hj ⊢; exact zels44 h j hj) (fun i j hi hj hne => absurd (show i = j by omega) hne) (fun a h => Nat.not_le.mpr h)
  obtain ⟨h1, h2, h3, h4⟩ := hS.1 0 (by decide)
  exact ⟨adK 0, adV 0, hev 0 (by decide), h1, h2, h3, h4⟩
def zby46 : List Int32 := [105, 110, 116]
set_option maxRecDepth 20000 in
theorem zels46 {args : Array Value} {s : State} (h : narrow_1.before args s = true) : ∀ j, j < 3 → (Cond.eq (.elem (Term.field (Term.string "LinkHouse" 388) "java/lang/String" "value" "[B") (.int (Int32.ofNat j))) (.int (zby46.getD j 0))).before args s = true := by
  refine z_step ?_ (za1 (za2 (za1 (za2 (za1 (za2 (za1 (za1 (za2 (za1 h))))))))))
  refine z_step ?_ (za2 (za1 (za1 (za2 (za1 (za2 (za1 (za1 (za2 (za1 h))))))))))
  refine z_step ?_ (za1 (za1 (za1 (za2 (za1 (za2 (za1 (za1 (za2 (za1 h))))))))))
  exact fun j hj => absurd hj (Nat.not_lt_zero _)
theorem zstr46 {args : Array Value} {s : State} (h : narrow_1.before args s = true) : ∃ q t : Nat, zPs s args ("LinkHouse", 388, 3, zby46) q t := by
  obtain ⟨adK, adV, hS, hev⟩ := vk_Sof (N := 1) (tm := fun _ => Term.string "LinkHouse" 388) (len := [3]) (byt := [zby46]) (args := args) (s := s) (A := fun q => s.heap.size ≤ q) (fun i hi => by rw [show i = 0 by omega]; decide) (fun i _ => (za1 (za1 (za2 (za1 (za1 (za2 (za1 (za1 (za2 (za1 h))))))))))) (fun i _ => (za2 (za1 (za2 (za1 (za1 (za2 (za1 (za1 (za2 (za1 h))))))))))) (fun i _ => (za1 (za2 (za2 (za1 (za1 (za2 (za1 (za1 (za2 (za1 h))))))))))) (fun i hi => by rw [show i = 0 by omega]; exact (za2 (za2 (za2 (za1 (za1 (za2 (za1 (za1 (za2 (za1 h))))))))))) (fun i hi j hj => by rw [show i = 0 by omega] at hj ⊢; exact zels46 h j hj) (fun i j hi hj hne => absurd (show i = j by omega) hne) (fun a h => Nat.not_le.mpr h)
  obtain ⟨h1, h2, h3, h4⟩ := hS.1 0 (by decide)
  exact ⟨adK 0, adV 0, hev 0 (by decide), h1, h2, h3, h4⟩
def zby48 : List Int32 := [118, 111, 105, 100]
set_option maxRecDepth 20000 in
theorem zels48 {args : Array Value} {s : State} (h : narrow_1.before args s = true) : ∀ j, j < 4 → (Cond.eq (.elem (Term.field (Term.string "LinkHouse" 390) "java/lang/String" "value" "[B") (.int (Int32.ofNat j))) (.int (zby48.getD j 0))).before args s = true := by
  refine z_step ?_ (za1 (za2 (za1 (za1 (za2 (za2 (za1 (za1 (za2 (za1 h))))))))))
  refine z_step ?_ (za2 (za1 (za1 (za1 (za2 (za2 (za1 (za1 (za2 (za1 h))))))))))
  refine z_step ?_ (za1 (za1 (za1 (za1 (za2 (za2 (za1 (za1 (za2 (za1 h))))))))))
  refine z_step ?_ (za2 (za2 (za2 (za2 (za1 (za2 (za1 (za1 (za2 (za1 h))))))))))
  exact fun j hj => absurd hj (Nat.not_lt_zero _)
theorem zstr48 {args : Array Value} {s : State} (h : narrow_1.before args s = true) : ∃ q t : Nat, zPs s args ("LinkHouse", 390, 4, zby48) q t := by
  obtain ⟨adK, adV, hS, hev⟩ := vk_Sof (N := 1) (tm := fun _ => Term.string "LinkHouse" 390) (len := [4]) (byt := [zby48]) (args := args) (s := s) (A := fun q => s.heap.size ≤ q) (fun i hi => by rw [show i = 0 by omega]; decide) (fun i _ => (za2 (za2 (za1 (za2 (za1 (za2 (za1 (za1 (za2 (za1 h))))))))))) (fun i _ => (za1 (za1 (za2 (za2 (za1 (za2 (za1 (za1 (za2 (za1 h))))))))))) (fun i _ => (za2 (za1 (za2 (za2 (za1 (za2 (za1 (za1 (za2 (za1 h))))))))))) (fun i hi => by rw [show i = 0 by omega]; exact (za1 (za2 (za2 (za2 (za1 (za2 (za1 (za1 (za2 (za1 h))))))))))) (fun i hi j hj => by rw [show i = 0 by omega] at hj ⊢; exact zels48 h j hj) (fun i j hi hj hne => absurd (show i = j by omega) hne) (fun a h => Nat.not_le.mpr h)
  obtain ⟨h1, h2, h3, h4⟩ := hS.1 0 (by decide)
  exact ⟨adK 0, adV 0, hev 0 (by decide), h1, h2, h3, h4⟩
def zby50 : List Int32 := [40]
set_option maxRecDepth 20000 in
theorem zels50 {args : Array Value} {s : State} (h : narrow_1.before args s = true) : ∀ j, j < 1 → (Cond.eq (.elem (Term.field (Term.string "LinkHouse" 399) "java/lang/String" "value" "[B") (.int (Int32.ofNat j))) (.int (zby50.getD j 0))).before args s = true := by
  refine z_step ?_ (za1 (za2 (za2 (za1 (za2 (za1 (za1 (za2 (za2 (za1 h))))))))))
  exact fun j hj => absurd hj (Nat.not_lt_zero _)
theorem zstr50 {args : Array Value} {s : State} (h : narrow_1.before args s = true) : ∃ q t : Nat, zPs s args ("LinkHouse", 399, 1, zby50) q t := by
  obtain ⟨adK, adV, hS, hev⟩ := vk_Sof (N := 1) (tm := fun _ => Term.string "LinkHouse" 399) (len := [1]) (byt := [zby50]) (args := args) (s := s) (A := fun q => s.heap.size ≤ q) (fun i hi => by rw [show i = 0 by omega]; decide) (fun i _ => (za1 (za2 (za1 (za1 (za2 (za1 (za1 (za2 (za2 (za1 h))))))))))) (fun i _ => (za2 (za2 (za1 (za1 (za2 (za1 (za1 (za2 (za2 (za1 h))))))))))) (fun i _ => (za1 (za1 (za2 (za1 (za2 (za1 (za1 (za2 (za2 (za1 h))))))))))) (fun i hi => by rw [show i = 0 by omega]; exact (za2 (za1 (za2 (za1 (za2 (za1 (za1 (za2 (za2 (za1 h))))))))))) (fun i hi j hj => by rw [show i = 0 by omega] at hj ⊢; exact zels50 h j hj) (fun i j hi hj hne => absurd (show i = j by omega) hne) (fun a h => Nat.not_le.mpr h)
  obtain ⟨h1, h2, h3, h4⟩ := hS.1 0 (by decide)
  exact ⟨adK 0, adV 0, hev 0 (by decide), h1, h2, h3, h4⟩
def zby52 : List Int32 := [41]
set_option maxRecDepth 20000 in
theorem zels52 {args : Array Value} {s : State} (h : narrow_1.before args s = true) : ∀ j, j < 1 → (Cond.eq (.elem (Term.field (Term.string "LinkHouse" 408) "java/lang/String" "value" "[B") (.int (Int32.ofNat j))) (.int (zby52.getD j 0))).before args s = true := by
  refine z_step ?_ (za2 (za2 (za1 (za2 (za2 (za1 (za1 (za2 (za2 (za1 h))))))))))
  exact fun j hj => absurd hj (Nat.not_lt_zero _)
theorem zstr52 {args : Array Value} {s : State} (h : narrow_1.before args s = true) : ∃ q t : Nat, zPs s args ("LinkHouse", 408, 1, zby52) q t := by
  obtain ⟨adK, adV, hS, hev⟩ := vk_Sof (N := 1) (tm := fun _ => Term.string "LinkHouse" 408) (len := [1]) (byt := [zby52]) (args := args) (s := s) (A := fun q => s.heap.size ≤ q) (fun i hi => by rw [show i = 0 by omega]; decide) (fun i _ => (za2 (za2 (za2 (za1 (za2 (za1 (za1 (za2 (za2 (za1 h))))))))))) (fun i _ => (za1 (za1 (za1 (za2 (za2 (za1 (za1 (za2 (za2 (za1 h))))))))))) (fun i _ => (za2 (za1 (za1 (za2 (za2 (za1 (za1 (za2 (za2 (za1 h))))))))))) (fun i hi => by rw [show i = 0 by omega]; exact (za1 (za2 (za1 (za2 (za2 (za1 (za1 (za2 (za2 (za1 h))))))))))) (fun i hi j hj => by rw [show i = 0 by omega] at hj ⊢; exact zels52 h j hj) (fun i j hi hj hne => absurd (show i = j by omega) hne) (fun a h => Nat.not_le.mpr h)
  obtain ⟨h1, h2, h3, h4⟩ := hS.1 0 (by decide)
  exact ⟨adK 0, adV 0, hev 0 (by decide), h1, h2, h3, h4⟩
def zby54 : List Int32 := [46]
set_option maxRecDepth 20000 in
theorem zels54 {args : Array Value} {s : State} (h : narrow_1.before args s = true) : ∀ j, j < 1 → (Cond.eq (.elem (Term.field (Term.string "LinkHouse" 410) "java/lang/String" "value" "[B") (.int (Int32.ofNat j))) (.int (zby54.getD j 0))).before args s = true := by
  refine z_step ?_ (za1 (za2 (za1 (za2 (za1 (za2 (za1 (za2 (za2 (za1 h))))))))))
  exact fun j hj => absurd hj (Nat.not_lt_zero _)
theorem zstr54 {args : Array Value} {s : State} (h : narrow_1.before args s = true) : ∃ q t : Nat, zPs s args ("LinkHouse", 410, 1, zby54) q t := by
  obtain ⟨adK, adV, hS, hev⟩ := vk_Sof (N := 1) (tm := fun _ => Term.string "LinkHouse" 410) (len := [1]) (byt := [zby54]) (args := args) (s := s) (A := fun q => s.heap.size ≤ q) (fun i hi => by rw [show i = 0 by omega]; decide) (fun i _ => (za1 (za2 (za2 (za1 (za1 (za2 (za1 (za2 (za2 (za1 h))))))))))) (fun i _ => (za2 (za2 (za2 (za1 (za1 (za2 (za1 (za2 (za2 (za1 h))))))))))) (fun i _ => (za1 (za1 (za1 (za2 (za1 (za2 (za1 (za2 (za2 (za1 h))))))))))) (fun i hi => by rw [show i = 0 by omega]; exact (za2 (za1 (za1 (za2 (za1 (za2 (za1 (za2 (za2 (za1 h))))))))))) (fun i hi j hj => by rw [show i = 0 by omega] at hj ⊢; exact zels54 h j hj) (fun i j hi hj hne => absurd (show i = j by omega) hne) (fun a h => Nat.not_le.mpr h)
  obtain ⟨h1, h2, h3, h4⟩ := hS.1 0 (by decide)
  exact ⟨adK 0, adV 0, hev 0 (by decide), h1, h2, h3, h4⟩
def zby56 : List Int32 := [58]
set_option maxRecDepth 20000 in
theorem zels56 {args : Array Value} {s : State} (h : narrow_1.before args s = true) : ∀ j, j < 1 → (Cond.eq (.elem (Term.field (Term.string "LinkHouse" 412) "java/lang/String" "value" "[B") (.int (Int32.ofNat j))) (.int (zby56.getD j 0))).before args s = true := by
  refine z_step ?_ (za2 (za2 (za2 (za2 (za1 (za2 (za1 (za2 (za2 (za1 h))))))))))
  exact fun j hj => absurd hj (Nat.not_lt_zero _)
theorem zstr56 {args : Array Value} {s : State} (h : narrow_1.before args s = true) : ∃ q t : Nat, zPs s args ("LinkHouse", 412, 1, zby56) q t := by
  obtain ⟨adK, adV, hS, hev⟩ := vk_Sof (N := 1) (tm := fun _ => Term.string "LinkHouse" 412) (len := [1]) (byt := [zby56]) (args := args) (s := s) (A := fun q => s.heap.size ≤ q) (fun i hi => by rw [show i = 0 by omega]; decide) (fun i _ => (za2 (za2 (za1 (za2 (za1 (za2 (za1 (za2 (za2 (za1 h))))))))))) (fun i _ => (za1 (za1 (za2 (za2 (za1 (za2 (za1 (za2 (za2 (za1 h))))))))))) (fun i _ => (za2 (za1 (za2 (za2 (za1 (za2 (za1 (za2 (za2 (za1 h))))))))))) (fun i hi => by rw [show i = 0 by omega]; exact (za1 (za2 (za2 (za2 (za1 (za2 (za1 (za2 (za2 (za1 h))))))))))) (fun i hi j hj => by rw [show i = 0 by omega] at hj ⊢; exact zels56 h j hj) (fun i j hi hj hne => absurd (show i = j by omega) hne) (fun a h => Nat.not_le.mpr h)
  obtain ⟨h1, h2, h3, h4⟩ := hS.1 0 (by decide)
  exact ⟨adK 0, adV 0, hev 0 (by decide), h1, h2, h3, h4⟩
def zby58 : List Int32 := [62]
set_option maxRecDepth 20000 in
theorem zels58 {args : Array Value} {s : State} (h : narrow_1.before args s = true) : ∀ j, j < 1 → (Cond.eq (.elem (Term.field (Term.string "LinkHouse" 440) "java/lang/String" "value" "[B") (.int (Int32.ofNat j))) (.int (zby58.getD j 0))).before args s = true := by
  refine z_step ?_ (za1 (za1 (za2 (za1 (za2 (za2 (za1 (za2 (za2 (za1 h))))))))))
  exact fun j hj => absurd hj (Nat.not_lt_zero _)
theorem zstr58 {args : Array Value} {s : State} (h : narrow_1.before args s = true) : ∃ q t : Nat, zPs s args ("LinkHouse", 440, 1, zby58) q t := by
  obtain ⟨adK, adV, hS, hev⟩ := vk_Sof (N := 1) (tm := fun _ => Term.string "LinkHouse" 440) (len := [1]) (byt := [zby58]) (args := args) (s := s) (A := fun q => s.heap.size ≤ q) (fun i hi => by rw [show i = 0 by omega]; decide) (fun i _ => (za1 (za1 (za1 (za1 (za2 (za2 (za1 (za2 (za2 (za1 h))))))))))) (fun i _ => (za2 (za1 (za1 (za1 (za2 (za2 (za1 (za2 (za2 (za1 h))))))))))) (fun i _ => (za1 (za2 (za1 (za1 (za2 (za2 (za1 (za2 (za2 (za1 h))))))))))) (fun i hi => by rw [show i = 0 by omega]; exact (za2 (za2 (za1 (za1 (za2 (za2 (za1 (za2 (za2 (za1 h))))))))))) (fun i hi j hj => by rw [show i = 0 by omega] at hj ⊢; exact zels58 h j hj) (fun i j hi hj hne => absurd (show i = j by omega) hne) (fun a h => Nat.not_le.mpr h)
  obtain ⟨h1, h2, h3, h4⟩ := hS.1 0 (by decide)
  exact ⟨adK 0, adV 0, hev 0 (by decide), h1, h2, h3, h4⟩
def zby60 : List Int32 := [105, 110, 116]
set_option maxRecDepth 20000 in
theorem zels60 {args : Array Value} {s : State} (h : narrow_1.before args s = true) : ∀ j, j < 3 → (Cond.eq (.elem (Term.field (Term.string "LinkHouseModel" 45) "java/lang/String" "value" "[B") (.int (Int32.ofNat j))) (.int (zby60.getD j 0))).before args s = true := by
  refine z_step ?_ (za1 (za1 (za1 (za1 (za1 (za2 (za1 (za1 (za1 (za2 h))))))))))
  refine z_step ?_ (za2 (za2 (za2 (za2 (za2 (za1 (za1 (za1 (za1 (za2 h))))))))))
  refine z_step ?_ (za1 (za2 (za2 (za2 (za2 (za1 (za1 (za1 (za1 (za2 h))))))))))
  exact fun j hj => absurd hj (Nat.not_lt_zero _)
theorem zstr60 {args : Array Value} {s : State} (h : narrow_1.before args s = true) : ∃ q t : Nat, zPs s args ("LinkHouseModel", 45, 3, zby60) q t := by
  obtain ⟨adK, adV, hS, hev⟩ := vk_Sof (N := 1) (tm := fun _ => Term.string "LinkHouseModel" 45) (len := [3]) (byt := [zby60]) (args := args) (s := s) (A := fun q => s.heap.size ≤ q) (fun i hi => by rw [show i = 0 by omega]; decide) (fun i _ => (za1 (za2 (za1 (za2 (za2 (za1 (za1 (za1 (za1 (za2 h))))))))))) (fun i _ => (za2 (za2 (za1 (za2 (za2 (za1 (za1 (za1 (za1 (za2 h))))))))))) (fun i _ => (za1 (za1 (za2 (za2 (za2 (za1 (za1 (za1 (za1 (za2 h))))))))))) (fun i hi => by rw [show i = 0 by omega]; exact (za2 (za1 (za2 (za2 (za2 (za1 (za1 (za1 (za1 (za2 h))))))))))) (fun i hi j hj => by rw [show i = 0 by omega] at hj ⊢; exact zels60 h j hj) (fun i j hi hj hne => absurd (show i = j by omega) hne) (fun a h => Nat.not_le.mpr h)
  obtain ⟨h1, h2, h3, h4⟩ := hS.1 0 (by decide)
  exact ⟨adK 0, adV 0, hev 0 (by decide), h1, h2, h3, h4⟩
def zby62 : List Int32 := [118, 111, 105, 100]
set_option maxRecDepth 20000 in
theorem zels62 {args : Array Value} {s : State} (h : narrow_1.before args s = true) : ∀ j, j < 4 → (Cond.eq (.elem (Term.field (Term.string "LinkHouseModel" 51) "java/lang/String" "value" "[B") (.int (Int32.ofNat j))) (.int (zby62.getD j 0))).before args s = true := by
  refine z_step ?_ (za2 (za1 (za1 (za2 (za1 (za2 (za1 (za1 (za1 (za2 h))))))))))
  refine z_step ?_ (za1 (za1 (za1 (za2 (za1 (za2 (za1 (za1 (za1 (za2 h))))))))))
  refine z_step ?_ (za2 (za2 (za2 (za1 (za1 (za2 (za1 (za1 (za1 (za2 h))))))))))
  refine z_step ?_ (za1 (za2 (za2 (za1 (za1 (za2 (za1 (za1 (za1 (za2 h))))))))))
  exact fun j hj => absurd hj (Nat.not_lt_zero _)
theorem zstr62 {args : Array Value} {s : State} (h : narrow_1.before args s = true) : ∃ q t : Nat, zPs s args ("LinkHouseModel", 51, 4, zby62) q t := by
  obtain ⟨adK, adV, hS, hev⟩ := vk_Sof (N := 1) (tm := fun _ => Term.string "LinkHouseModel" 51) (len := [4]) (byt := [zby62]) (args := args) (s := s) (A := fun q => s.heap.size ≤ q) (fun i hi => by rw [show i = 0 by omega]; decide) (fun i _ => (za1 (za2 (za1 (za1 (za1 (za2 (za1 (za1 (za1 (za2 h))))))))))) (fun i _ => (za2 (za2 (za1 (za1 (za1 (za2 (za1 (za1 (za1 (za2 h))))))))))) (fun i _ => (za1 (za1 (za2 (za1 (za1 (za2 (za1 (za1 (za1 (za2 h))))))))))) (fun i hi => by rw [show i = 0 by omega]; exact (za2 (za1 (za2 (za1 (za1 (za2 (za1 (za1 (za1 (za2 h))))))))))) (fun i hi j hj => by rw [show i = 0 by omega] at hj ⊢; exact zels62 h j hj) (fun i j hi hj hne => absurd (show i = j by omega) hne) (fun a h => Nat.not_le.mpr h)
  obtain ⟨h1, h2, h3, h4⟩ := hS.1 0 (by decide)
  exact ⟨adK 0, adV 0, hev 0 (by decide), h1, h2, h3, h4⟩
def zby64 : List Int32 := [32, 99, 108, 97, 115, 115, 32, 102, 97, 99, 101, 32, 105, 115, 32, 97, 115, 32, 105, 110, 32, 119, 105, 116, 104, 32, 111, 110, 108, 121, 32, 111, 112, 101, 110, 32, 107, 105, 110, 32, 111, 119, 110, 32, 102, 105, 110, 97, 108, 32, 98, 97, 114, 101, 32, 115, 116, 97, 116, 105, 99, 32, 115, 116, 97, 114, 116, 32, 118, 111, 105, 100, 32, 110, 101, 119, 32, 105, 110, 116, 32, 108, 101, 116, 32, 105, 102, 32, 101, 108, 115, 101, 32, 119, 104, 105, 108, 101, 32, 114, 101, 116, 117, 114, 110, 32, 116, 104, 114, 111, 119, 32, 116, 114, 121, 32, 99, 97, 116, 99, 104, 32, 111, 117, 116, 32, 110, 117, 108, 108, 32, 116, 104, 105, 115, 32, 115, 117, 112, 101, 114, 32, 97, 115, 107, 32]
set_option maxRecDepth 20000 in
theorem zels64 {args : Array Value} {s : State} (h : narrow_1.before args s = true) : ∀ j, j < 146 → (Cond.eq (.elem (Term.field (Term.string "LinkHouseModel" 69) "java/lang/String" "value" "[B") (.int (Int32.ofNat j))) (.int (zby64.getD j 0))).before args s = true := by
  refine z_step ?_ (za1 (za2 (za2 (za1 (za2 (za2 (za2 (za2 (za2 (za2 h))))))))))
  refine z_step ?_ (za2 (za1 (za2 (za1 (za2 (za2 (za2 (za2 (za2 (za2 h))))))))))
  refine z_step ?_ (za1 (za1 (za2 (za1 (za2 (za2 (za2 (za2 (za2 (za2 h))))))))))
  refine z_step ?_ (za2 (za2 (za1 (za1 (za2 (za2 (za2 (za2 (za2 (za2 h))))))))))
  refine z_step ?_ (za1 (za2 (za1 (za1 (za2 (za2 (za2 (za2 (za2 (za2 h))))))))))
  refine z_step ?_ (za2 (za1 (za1 (za1 (za2 (za2 (za2 (za2 (za2 (za2 h))))))))))
  refine z_step ?_ (za1 (za1 (za1 (za1 (za2 (za2 (za2 (za2 (za2 (za2 h))))))))))
  refine z_step ?_ (za2 (za2 (za2 (za2 (za1 (za2 (za2 (za2 (za2 (za2 h))))))))))
  refine z_step ?_ (za1 (za2 (za2 (za2 (za1 (za2 (za2 (za2 (za2 (za2 h))))))))))
  refine z_step ?_ (za2 (za1 (za2 (za2 (za1 (za2 (za2 (za2 (za2 (za2 h))))))))))
  refine z_step ?_ (za1 (za1 (za2 (za2 (za1 (za2 (za2 (za2 (za2 (za2 h))))))))))
  refine z_step ?_ (za2 (za2 (za1 (za2 (za1 (za2 (za2 (za2 (za2 (za2 h))))))))))
  refine z_step ?_ (za1 (za2 (za1 (za2 (za1 (za2 (za2 (za2 (za2 (za2 h))))))))))
  refine z_step ?_ (za2 (za1 (za1 (za2 (za1 (za2 (za2 (za2 (za2 (za2 h))))))))))
  refine z_step ?_ (za1 (za1 (za1 (za2 (za1 (za2 (za2 (za2 (za2 (za2 h))))))))))
  refine z_step ?_ (za2 (za2 (za2 (za1 (za1 (za2 (za2 (za2 (za2 (za2 h))))))))))
  refine z_step ?_ (za1 (za2 (za2 (za1 (za1 (za2 (za2 (za2 (za2 (za2 h))))))))))
  refine z_step ?_ (za2 (za1 (za2 (za1 (za1 (za2 (za2 (za2 (za2 (za2 h))))))))))
  refine z_step ?_ (za1 (za1 (za2 (za1 (za1 (za2 (za2 (za2 (za2 (za2 h))))))))))
  refine z_step ?_ (za2 (za2 (za1 (za1 (za1 (za2 (za2 (za2 (za2 (za2 h))))))))))
  refine z_step ?_ (za1 (za2 (za1 (za1 (za1 (za2 (za2 (za2 (za2 (za2 h))))))))))
  refine z_step ?_ (za2 (za1 (za1 (za1 (za1 (za2 (za2 (za2 (za2 (za2 h))))))))))
  refine z_step ?_ (za1 (za1 (za1 (za1 (za1 (za2 (za2 (za2 (za2 (za2 h))))))))))
  refine z_step ?_ (za2 (za2 (za2 (za2 (za2 (za1 (za2 (za2 (za2 (za2 h))))))))))
  refine z_step ?_ (za1 (za2 (za2 (za2 (za2 (za1 (za2 (za2 (za2 (za2 h))))))))))
  refine z_step ?_ (za2 (za1 (za2 (za2 (za2 (za1 (za2 (za2 (za2 (za2 h))))))))))
  refine z_step ?_ (za1 (za1 (za2 (za2 (za2 (za1 (za2 (za2 (za2 (za2 h))))))))))
  refine z_step ?_ (za2 (za2 (za1 (za2 (za2 (za1 (za2 (za2 (za2 (za2 h))))))))))
  refine z_step ?_ (za1 (za2 (za1 (za2 (za2 (za1 (za2 (za2 (za2 (za2 h))))))))))
  refine z_step ?_ (za2 (za1 (za1 (za2 (za2 (za1 (za2 (za2 (za2 (za2 h))))))))))
  refine z_step ?_ (za1 (za1 (za1 (za2 (za2 (za1 (za2 (za2 (za2 (za2 h))))))))))
  refine z_step ?_ (za2 (za2 (za2 (za1 (za2 (za1 (za2 (za2 (za2 (za2 h))))))))))
  refine z_step ?_ (za1 (za2 (za2 (za1 (za2 (za1 (za2 (za2 (za2 (za2 h))))))))))
  refine z_step ?_ (za2 (za1 (za2 (za1 (za2 (za1 (za2 (za2 (za2 (za2 h))))))))))
  refine z_step ?_ (za1 (za1 (za2 (za1 (za2 (za1 (za2 (za2 (za2 (za2 h))))))))))
  refine z_step ?_ (za2 (za2 (za1 (za1 (za2 (za1 (za2 (za2 (za2 (za2 h))))))))))
  refine z_step ?_ (za1 (za2 (za1 (za1 (za2 (za1 (za2 (za2 (za2 (za2 h))))))))))
  refine z_step ?_ (za2 (za1 (za1 (za1 (za2 (za1 (za2 (za2 (za2 (za2 h))))))))))
  refine z_step ?_ (za1 (za1 (za1 (za1 (za2 (za1 (za2 (za2 (za2 (za2 h))))))))))
  refine z_step ?_ (za2 (za2 (za2 (za2 (za1 (za1 (za2 (za2 (za2 (za2 h))))))))))
  refine z_step ?_ (za1 (za2 (za2 (za2 (za1 (za1 (za2 (za2 (za2 (za2 h))))))))))
  refine z_step ?_ (za2 (za1 (za2 (za2 (za1 (za1 (za2 (za2 (za2 (za2 h))))))))))
  refine z_step ?_ (za1 (za1 (za2 (za2 (za1 (za1 (za2 (za2 (za2 (za2 h))))))))))
  refine z_step ?_ (za2 (za2 (za1 (za2 (za1 (za1 (za2 (za2 (za2 (za2 h))))))))))
  refine z_step ?_ (za1 (za2 (za1 (za2 (za1 (za1 (za2 (za2 (za2 (za2 h))))))))))
  refine z_step ?_ (za2 (za1 (za1 (za2 (za1 (za1 (za2 (za2 (za2 (za2 h))))))))))
  refine z_step ?_ (za1 (za1 (za1 (za2 (za1 (za1 (za2 (za2 (za2 (za2 h))))))))))
  refine z_step ?_ (za2 (za2 (za2 (za1 (za1 (za1 (za2 (za2 (za2 (za2 h))))))))))
  refine z_step ?_ (za1 (za2 (za2 (za1 (za1 (za1 (za2 (za2 (za2 (za2 h))))))))))
  refine z_step ?_ (za2 (za1 (za2 (za1 (za1 (za1 (za2 (za2 (za2 (za2 h))))))))))
  refine z_step ?_ (za1 (za1 (za2 (za1 (za1 (za1 (za2 (za2 (za2 (za2 h))))))))))
  refine z_step ?_ (za2 (za2 (za1 (za1 (za1 (za1 (za2 (za2 (za2 (za2 h))))))))))
  refine z_step ?_ (za1 (za2 (za1 (za1 (za1 (za1 (za2 (za2 (za2 (za2 h))))))))))
  refine z_step ?_ (za2 (za1 (za1 (za1 (za1 (za1 (za2 (za2 (za2 (za2 h))))))))))
  refine z_step ?_ (za1 (za1 (za1 (za1 (za1 (za1 (za2 (za2 (za2 (za2 h))))))))))
  refine z_step ?_ (za2 (za2 (za2 (za2 (za2 (za2 (za1 (za2 (za2 (za2 h))))))))))
  refine z_step ?_ (za1 (za2 (za2 (za2 (za2 (za2 (za1 (za2 (za2 (za2 h))))))))))
  refine z_step ?_ (za2 (za1 (za2 (za2 (za2 (za2 (za1 (za2 (za2 (za2 h))))))))))
  refine z_step ?_ (za1 (za1 (za2 (za2 (za2 (za2 (za1 (za2 (za2 (za2 h))))))))))
  refine z_step ?_ (za2 (za2 (za1 (za2 (za2 (za2 (za1 (za2 (za2 (za2 h))))))))))
  refine z_step ?_ (za1 (za2 (za1 (za2 (za2 (za2 (za1 (za2 (za2 (za2 h))))))))))
  refine z_step ?_ (za2 (za1 (za1 (za2 (za2 (za2 (za1 (za2 (za2 (za2 h))))))))))
  refine z_step ?_ (za1 (za1 (za1 (za2 (za2 (za2 (za1 (za2 (za2 (za2 h))))))))))
  refine z_step ?_ (za2 (za2 (za2 (za1 (za2 (za2 (za1 (za2 (za2 (za2 h))))))))))
  refine z_step ?_ (za1 (za2 (za2 (za1 (za2 (za2 (za1 (za2 (za2 (za2 h))))))))))
  refine z_step ?_ (za2 (za1 (za2 (za1 (za2 (za2 (za1 (za2 (za2 (za2 h))))))))))
  refine z_step ?_ (za1 (za1 (za2 (za1 (za2 (za2 (za1 (za2 (za2 (za2 h))))))))))
  refine z_step ?_ (za2 (za2 (za1 (za1 (za2 (za2 (za1 (za2 (za2 (za2 h))))))))))
  refine z_step ?_ (za1 (za2 (za1 (za1 (za2 (za2 (za1 (za2 (za2 (za2 h))))))))))
  refine z_step ?_ (za2 (za1 (za1 (za1 (za2 (za2 (za1 (za2 (za2 (za2 h))))))))))
  refine z_step ?_ (za1 (za1 (za1 (za1 (za2 (za2 (za1 (za2 (za2 (za2 h))))))))))
  refine z_step ?_ (za2 (za2 (za2 (za2 (za1 (za2 (za1 (za2 (za2 (za2 h))))))))))
  refine z_step ?_ (za1 (za2 (za2 (za2 (za1 (za2 (za1 (za2 (za2 (za2 h))))))))))
  refine z_step ?_ (za2 (za1 (za2 (za2 (za1 (za2 (za1 (za2 (za2 (za2 h))))))))))
  refine z_step ?_ (za1 (za1 (za2 (za2 (za1 (za2 (za1 (za2 (za2 (za2 h))))))))))
  refine z_step ?_ (za2 (za2 (za1 (za2 (za1 (za2 (za1 (za2 (za2 (za2 h))))))))))
  refine z_step ?_ (za1 (za2 (za1 (za2 (za1 (za2 (za1 (za2 (za2 (za2 h))))))))))
  refine z_step ?_ (za2 (za1 (za1 (za2 (za1 (za2 (za1 (za2 (za2 (za2 h))))))))))
  refine z_step ?_ (za1 (za1 (za1 (za2 (za1 (za2 (za1 (za2 (za2 (za2 h))))))))))
  refine z_step ?_ (za2 (za2 (za2 (za1 (za1 (za2 (za1 (za2 (za2 (za2 h))))))))))
  refine z_step ?_ (za1 (za2 (za2 (za1 (za1 (za2 (za1 (za2 (za2 (za2 h))))))))))
  refine z_step ?_ (za2 (za1 (za2 (za1 (za1 (za2 (za1 (za2 (za2 (za2 h))))))))))
  refine z_step ?_ (za1 (za1 (za2 (za1 (za1 (za2 (za1 (za2 (za2 (za2 h))))))))))
  refine z_step ?_ (za2 (za2 (za1 (za1 (za1 (za2 (za1 (za2 (za2 (za2 h))))))))))
  refine z_step ?_ (za1 (za2 (za1 (za1 (za1 (za2 (za1 (za2 (za2 (za2 h))))))))))
  refine z_step ?_ (za2 (za1 (za1 (za1 (za1 (za2 (za1 (za2 (za2 (za2 h))))))))))
  refine z_step ?_ (za1 (za1 (za1 (za1 (za1 (za2 (za1 (za2 (za2 (za2 h))))))))))
  refine z_step ?_ (za2 (za2 (za2 (za2 (za2 (za1 (za1 (za2 (za2 (za2 h))))))))))
  refine z_step ?_ (za1 (za2 (za2 (za2 (za2 (za1 (za1 (za2 (za2 (za2 h))))))))))
  refine z_step ?_ (za2 (za1 (za2 (za2 (za2 (za1 (za1 (za2 (za2 (za2 h))))))))))
  refine z_step ?_ (za1 (za1 (za2 (za2 (za2 (za1 (za1 (za2 (za2 (za2 h))))))))))
  refine z_step ?_ (za2 (za2 (za1 (za2 (za2 (za1 (za1 (za2 (za2 (za2 h))))))))))
  refine z_step ?_ (za1 (za2 (za1 (za2 (za2 (za1 (za1 (za2 (za2 (za2 h))))))))))
  refine z_step ?_ (za2 (za1 (za1 (za2 (za2 (za1 (za1 (za2 (za2 (za2 h))))))))))
  refine z_step ?_ (za1 (za1 (za1 (za2 (za2 (za1 (za1 (za2 (za2 (za2 h))))))))))
  refine z_step ?_ (za2 (za2 (za2 (za1 (za2 (za1 (za1 (za2 (za2 (za2 h))))))))))
  refine z_step ?_ (za1 (za2 (za2 (za1 (za2 (za1 (za1 (za2 (za2 (za2 h))))))))))
  refine z_step ?_ (za2 (za1 (za2 (za1 (za2 (za1 (za1 (za2 (za2 (za2 h))))))))))
  refine z_step ?_ (za1 (za1 (za2 (za1 (za2 (za1 (za1 (za2 (za2 (za2 h))))))))))
  refine z_step ?_ (za2 (za2 (za1 (za1 (za2 (za1 (za1 (za2 (za2 (za2 h))))))))))
  refine z_step ?_ (za1 (za2 (za1 (za1 (za2 (za1 (za1 (za2 (za2 (za2 h))))))))))
  refine z_step ?_ (za2 (za1 (za1 (za1 (za2 (za1 (za1 (za2 (za2 (za2 h))))))))))
  refine z_step ?_ (za1 (za1 (za1 (za1 (za2 (za1 (za1 (za2 (za2 (za2 h))))))))))
  refine z_step ?_ (za2 (za2 (za2 (za2 (za1 (za1 (za1 (za2 (za2 (za2 h))))))))))
  refine z_step ?_ (za1 (za2 (za2 (za2 (za1 (za1 (za1 (za2 (za2 (za2 h))))))))))
  refine z_step ?_ (za2 (za1 (za2 (za2 (za1 (za1 (za1 (za2 (za2 (za2 h))))))))))
  refine z_step ?_ (za1 (za1 (za2 (za2 (za1 (za1 (za1 (za2 (za2 (za2 h))))))))))
  refine z_step ?_ (za2 (za2 (za1 (za2 (za1 (za1 (za1 (za2 (za2 (za2 h))))))))))
  refine z_step ?_ (za1 (za2 (za1 (za2 (za1 (za1 (za1 (za2 (za2 (za2 h))))))))))
  refine z_step ?_ (za2 (za1 (za1 (za2 (za1 (za1 (za1 (za2 (za2 (za2 h))))))))))
  refine z_step ?_ (za1 (za1 (za1 (za2 (za1 (za1 (za1 (za2 (za2 (za2 h))))))))))
  refine z_step ?_ (za2 (za2 (za2 (za1 (za1 (za1 (za1 (za2 (za2 (za2 h))))))))))
  refine z_step ?_ (za1 (za2 (za2 (za1 (za1 (za1 (za1 (za2 (za2 (za2 h))))))))))
  refine z_step ?_ (za2 (za1 (za2 (za1 (za1 (za1 (za1 (za2 (za2 (za2 h))))))))))
  refine z_step ?_ (za1 (za1 (za2 (za1 (za1 (za1 (za1 (za2 (za2 (za2 h))))))))))
  refine z_step ?_ (za2 (za2 (za1 (za1 (za1 (za1 (za1 (za2 (za2 (za2 h))))))))))
  refine z_step ?_ (za1 (za2 (za1 (za1 (za1 (za1 (za1 (za2 (za2 (za2 h))))))))))
  refine z_step ?_ (za1 (za1 (za1 (za1 (za1 (za1 (za2 (za2 (za2 h)))))))))
  refine z_step ?_ (za2 (za2 (za2 (za2 (za2 (za2 (za2 (za1 (za2 (za2 h))))))))))
  refine z_step ?_ (za1 (za2 (za2 (za2 (za2 (za2 (za2 (za1 (za2 (za2 h))))))))))
  refine z_step ?_ (za2 (za1 (za2 (za2 (za2 (za2 (za2 (za1 (za2 (za2 h))))))))))
  refine z_step ?_ (za1 (za1 (za2 (za2 (za2 (za2 (za2 (za1 (za2 (za2 h))))))))))
  refine z_step ?_ (za2 (za2 (za1 (za2 (za2 (za2 (za2 (za1 (za2 (za2 h))))))))))
  refine z_step ?_ (za1 (za2 (za1 (za2 (za2 (za2 (za2 (za1 (za2 (za2 h))))))))))
  refine z_step ?_ (za2 (za1 (za1 (za2 (za2 (za2 (za2 (za1 (za2 (za2 h))))))))))
  refine z_step ?_ (za1 (za1 (za1 (za2 (za2 (za2 (za2 (za1 (za2 (za2 h))))))))))
  refine z_step ?_ (za2 (za2 (za2 (za1 (za2 (za2 (za2 (za1 (za2 (za2 h))))))))))
  refine z_step ?_ (za1 (za2 (za2 (za1 (za2 (za2 (za2 (za1 (za2 (za2 h))))))))))
  refine z_step ?_ (za2 (za1 (za2 (za1 (za2 (za2 (za2 (za1 (za2 (za2 h))))))))))
  refine z_step ?_ (za1 (za1 (za2 (za1 (za2 (za2 (za2 (za1 (za2 (za2 h))))))))))
  refine z_step ?_ (za2 (za2 (za1 (za1 (za2 (za2 (za2 (za1 (za2 (za2 h))))))))))
  refine z_step ?_ (za1 (za2 (za1 (za1 (za2 (za2 (za2 (za1 (za2 (za2 h))))))))))
  refine z_step ?_ (za2 (za1 (za1 (za1 (za2 (za2 (za2 (za1 (za2 (za2 h))))))))))
  refine z_step ?_ (za1 (za1 (za1 (za1 (za2 (za2 (za2 (za1 (za2 (za2 h))))))))))
  refine z_step ?_ (za2 (za2 (za2 (za2 (za1 (za2 (za2 (za1 (za2 (za2 h))))))))))
  refine z_step ?_ (za1 (za2 (za2 (za2 (za1 (za2 (za2 (za1 (za2 (za2 h))))))))))
  refine z_step ?_ (za2 (za1 (za2 (za2 (za1 (za2 (za2 (za1 (za2 (za2 h))))))))))
  refine z_step ?_ (za1 (za1 (za2 (za2 (za1 (za2 (za2 (za1 (za2 (za2 h))))))))))
  refine z_step ?_ (za2 (za2 (za1 (za2 (za1 (za2 (za2 (za1 (za2 (za2 h))))))))))
  refine z_step ?_ (za1 (za2 (za1 (za2 (za1 (za2 (za2 (za1 (za2 (za2 h))))))))))
  refine z_step ?_ (za2 (za1 (za1 (za2 (za1 (za2 (za2 (za1 (za2 (za2 h))))))))))
  refine z_step ?_ (za1 (za1 (za1 (za2 (za1 (za2 (za2 (za1 (za2 (za2 h))))))))))
  refine z_step ?_ (za2 (za2 (za2 (za1 (za1 (za2 (za2 (za1 (za2 (za2 h))))))))))
  refine z_step ?_ (za1 (za2 (za2 (za1 (za1 (za2 (za2 (za1 (za2 (za2 h))))))))))
  refine z_step ?_ (za2 (za1 (za2 (za1 (za1 (za2 (za2 (za1 (za2 (za2 h))))))))))
  refine z_step ?_ (za1 (za1 (za2 (za1 (za1 (za2 (za2 (za1 (za2 (za2 h))))))))))
  exact fun j hj => absurd hj (Nat.not_lt_zero _)
theorem zstr64 {args : Array Value} {s : State} (h : narrow_1.before args s = true) : ∃ q t : Nat, zPs s args ("LinkHouseModel", 69, 146, zby64) q t := by
  obtain ⟨adK, adV, hS, hev⟩ := vk_Sof (N := 1) (tm := fun _ => Term.string "LinkHouseModel" 69) (len := [146]) (byt := [zby64]) (args := args) (s := s) (A := fun q => s.heap.size ≤ q) (fun i hi => by rw [show i = 0 by omega]; decide) (fun i _ => (za1 (za1 (za1 (za1 (za1 (za2 (za2 (za1 (za2 (za2 h))))))))))) (fun i _ => (za2 (za1 (za1 (za1 (za1 (za2 (za2 (za1 (za2 (za2 h))))))))))) (fun i _ => (za1 (za2 (za1 (za1 (za1 (za2 (za2 (za1 (za2 (za2 h))))))))))) (fun i hi => by rw [show i = 0 by omega]; exact (za2 (za2 (za1 (za1 (za1 (za2 (za2 (za1 (za2 (za2 h))))))))))) (fun i hi j hj => by rw [show i = 0 by omega] at hj ⊢; exact zels64 h j hj) (fun i j hi hj hne => absurd (show i = j by omega) hne) (fun a h => Nat.not_le.mpr h)
  obtain ⟨h1, h2, h3, h4⟩ := hS.1 0 (by decide)
  exact ⟨adK 0, adV 0, hev 0 (by decide), h1, h2, h3, h4⟩
def zby66 : List Int32 := [111, 112, 101, 110]
set_option maxRecDepth 20000 in
theorem zels66 {args : Array Value} {s : State} (h : narrow_1.before args s = true) : ∀ j, j < 4 → (Cond.eq (.elem (Term.field (Term.string "LinkHouseModel" 236) "java/lang/String" "value" "[B") (.int (Int32.ofNat j))) (.int (zby66.getD j 0))).before args s = true := by
  refine z_step ?_ (za1 (za1 (za2 (za2 (za2 (za2 (za1 (za2 (za2 (za1 h))))))))))
  refine z_step ?_ (za2 (za2 (za1 (za2 (za2 (za2 (za1 (za2 (za2 (za1 h))))))))))
  refine z_step ?_ (za1 (za2 (za1 (za2 (za2 (za2 (za1 (za2 (za2 (za1 h))))))))))
  refine z_step ?_ (za2 (za1 (za1 (za2 (za2 (za2 (za1 (za2 (za2 (za1 h))))))))))
  exact fun j hj => absurd hj (Nat.not_lt_zero _)
theorem zstr66 {args : Array Value} {s : State} (h : narrow_1.before args s = true) : ∃ q t : Nat, zPs s args ("LinkHouseModel", 236, 4, zby66) q t := by
  obtain ⟨adK, adV, hS, hev⟩ := vk_Sof (N := 1) (tm := fun _ => Term.string "LinkHouseModel" 236) (len := [4]) (byt := [zby66]) (args := args) (s := s) (A := fun q => s.heap.size ≤ q) (fun i hi => by rw [show i = 0 by omega]; decide) (fun i _ => (za2 (za1 (za2 (za1 (za2 (za2 (za1 (za2 (za2 (za1 h))))))))))) (fun i _ => (za1 (za2 (za2 (za1 (za2 (za2 (za1 (za2 (za2 (za1 h))))))))))) (fun i _ => (za2 (za2 (za2 (za1 (za2 (za2 (za1 (za2 (za2 (za1 h))))))))))) (fun i hi => by rw [show i = 0 by omega]; exact (za1 (za1 (za1 (za2 (za2 (za2 (za1 (za2 (za2 (za1 h))))))))))) (fun i hi j hj => by rw [show i = 0 by omega] at hj ⊢; exact zels66 h j hj) (fun i j hi hj hne => absurd (show i = j by omega) hne) (fun a h => Nat.not_le.mpr h)
  obtain ⟨h1, h2, h3, h4⟩ := hS.1 0 (by decide)
  exact ⟨adK 0, adV 0, hev 0 (by decide), h1, h2, h3, h4⟩
def zby68 : List Int32 := [102, 105, 110, 97, 108]
set_option maxRecDepth 20000 in
theorem zels68 {args : Array Value} {s : State} (h : narrow_1.before args s = true) : ∀ j, j < 5 → (Cond.eq (.elem (Term.field (Term.string "LinkHouseModel" 241) "java/lang/String" "value" "[B") (.int (Int32.ofNat j))) (.int (zby68.getD j 0))).before args s = true := by
  refine z_step ?_ (za2 (za1 (za2 (za1 (za1 (za1 (za2 (za2 (za2 (za1 h))))))))))
  refine z_step ?_ (za1 (za1 (za2 (za1 (za1 (za1 (za2 (za2 (za2 (za1 h))))))))))
  refine z_step ?_ (za2 (za2 (za1 (za1 (za1 (za1 (za2 (za2 (za2 (za1 h))))))))))
  refine z_step ?_ (za1 (za2 (za1 (za1 (za1 (za1 (za2 (za2 (za2 (za1 h))))))))))
  refine z_step ?_ (za2 (za1 (za1 (za1 (za1 (za1 (za2 (za2 (za2 (za1 h))))))))))
  exact fun j hj => absurd hj (Nat.not_lt_zero _)
theorem zstr68 {args : Array Value} {s : State} (h : narrow_1.before args s = true) : ∃ q t : Nat, zPs s args ("LinkHouseModel", 241, 5, zby68) q t := by
  obtain ⟨adK, adV, hS, hev⟩ := vk_Sof (N := 1) (tm := fun _ => Term.string "LinkHouseModel" 241) (len := [5]) (byt := [zby68]) (args := args) (s := s) (A := fun q => s.heap.size ≤ q) (fun i hi => by rw [show i = 0 by omega]; decide) (fun i _ => (za2 (za1 (za2 (za2 (za2 (za2 (za1 (za2 (za2 (za1 h))))))))))) (fun i _ => (za1 (za2 (za2 (za2 (za2 (za2 (za1 (za2 (za2 (za1 h))))))))))) (fun i _ => (za2 (za2 (za2 (za2 (za2 (za2 (za1 (za2 (za2 (za1 h))))))))))) (fun i hi => by rw [show i = 0 by omega]; exact (za1 (za1 (za1 (za1 (za1 (za1 (za2 (za2 (za2 (za1 h))))))))))) (fun i hi j hj => by rw [show i = 0 by omega] at hj ⊢; exact zels68 h j hj) (fun i j hi hj hne => absurd (show i = j by omega) hne) (fun a h => Nat.not_le.mpr h)
  obtain ⟨h1, h2, h3, h4⟩ := hS.1 0 (by decide)
  exact ⟨adK 0, adV 0, hev 0 (by decide), h1, h2, h3, h4⟩
def zby70 : List Int32 := [102, 97, 99, 101]
set_option maxRecDepth 20000 in
theorem zels70 {args : Array Value} {s : State} (h : narrow_1.before args s = true) : ∀ j, j < 4 → (Cond.eq (.elem (Term.field (Term.string "LinkHouseModel" 245) "java/lang/String" "value" "[B") (.int (Int32.ofNat j))) (.int (zby70.getD j 0))).before args s = true := by
  refine z_step ?_ (za2 (za1 (za2 (za1 (za2 (za1 (za2 (za2 (za2 (za1 h))))))))))
  refine z_step ?_ (za1 (za1 (za2 (za1 (za2 (za1 (za2 (za2 (za2 (za1 h))))))))))
  refine z_step ?_ (za2 (za2 (za1 (za1 (za2 (za1 (za2 (za2 (za2 (za1 h))))))))))
  refine z_step ?_ (za1 (za2 (za1 (za1 (za2 (za1 (za2 (za2 (za2 (za1 h))))))))))
  exact fun j hj => absurd hj (Nat.not_lt_zero _)
theorem zstr70 {args : Array Value} {s : State} (h : narrow_1.before args s = true) : ∃ q t : Nat, zPs s args ("LinkHouseModel", 245, 4, zby70) q t := by
  obtain ⟨adK, adV, hS, hev⟩ := vk_Sof (N := 1) (tm := fun _ => Term.string "LinkHouseModel" 245) (len := [4]) (byt := [zby70]) (args := args) (s := s) (A := fun q => s.heap.size ≤ q) (fun i hi => by rw [show i = 0 by omega]; decide) (fun i _ => (za1 (za2 (za2 (za2 (za1 (za1 (za2 (za2 (za2 (za1 h))))))))))) (fun i _ => (za2 (za2 (za2 (za2 (za1 (za1 (za2 (za2 (za2 (za1 h))))))))))) (fun i _ => (za1 (za1 (za1 (za1 (za2 (za1 (za2 (za2 (za2 (za1 h))))))))))) (fun i hi => by rw [show i = 0 by omega]; exact (za2 (za1 (za1 (za1 (za2 (za1 (za2 (za2 (za2 (za1 h))))))))))) (fun i hi j hj => by rw [show i = 0 by omega] at hj ⊢; exact zels70 h j hj) (fun i j hi hj hne => absurd (show i = j by omega) hne) (fun a h => Nat.not_le.mpr h)
  obtain ⟨h1, h2, h3, h4⟩ := hS.1 0 (by decide)
  exact ⟨adK 0, adV 0, hev 0 (by decide), h1, h2, h3, h4⟩
def zby72 : List Int32 := [105, 115]
set_option maxRecDepth 20000 in
theorem zels72 {args : Array Value} {s : State} (h : narrow_1.before args s = true) : ∀ j, j < 2 → (Cond.eq (.elem (Term.field (Term.string "LinkHouseModel" 278) "java/lang/String" "value" "[B") (.int (Int32.ofNat j))) (.int (zby72.getD j 0))).before args s = true := by
  refine z_step ?_ (za1 (za1 (za2 (za1 (za1 (za2 (za2 (za2 (za2 (za1 h))))))))))
  refine z_step ?_ (za2 (za2 (za1 (za1 (za1 (za2 (za2 (za2 (za2 (za1 h))))))))))
  exact fun j hj => absurd hj (Nat.not_lt_zero _)
theorem zstr72 {args : Array Value} {s : State} (h : narrow_1.before args s = true) : ∃ q t : Nat, zPs s args ("LinkHouseModel", 278, 2, zby72) q t := by
  obtain ⟨adK, adV, hS, hev⟩ := vk_Sof (N := 1) (tm := fun _ => Term.string "LinkHouseModel" 278) (len := [2]) (byt := [zby72]) (args := args) (s := s) (A := fun q => s.heap.size ≤ q) (fun i hi => by rw [show i = 0 by omega]; decide) (fun i _ => (za2 (za2 (za2 (za2 (za2 (za1 (za2 (za2 (za2 (za1 h))))))))))) (fun i _ => (za1 (za1 (za1 (za1 (za1 (za2 (za2 (za2 (za2 (za1 h))))))))))) (fun i _ => (za2 (za1 (za1 (za1 (za1 (za2 (za2 (za2 (za2 (za1 h))))))))))) (fun i hi => by rw [show i = 0 by omega]; exact (za1 (za2 (za1 (za1 (za1 (za2 (za2 (za2 (za2 (za1 h))))))))))) (fun i hi j hj => by rw [show i = 0 by omega] at hj ⊢; exact zels72 h j hj) (fun i j hi hj hne => absurd (show i = j by omega) hne) (fun a h => Nat.not_le.mpr h)
  obtain ⟨h1, h2, h3, h4⟩ := hS.1 0 (by decide)
  exact ⟨adK 0, adV 0, hev 0 (by decide), h1, h2, h3, h4⟩
def zby74 : List Int32 := [97, 115]
set_option maxRecDepth 20000 in
theorem zels74 {args : Array Value} {s : State} (h : narrow_1.before args s = true) : ∀ j, j < 2 → (Cond.eq (.elem (Term.field (Term.string "LinkHouseModel" 286) "java/lang/String" "value" "[B") (.int (Int32.ofNat j))) (.int (zby74.getD j 0))).before args s = true := by
  refine z_step ?_ (za1 (za2 (za1 (za2 (za1 (za2 (za2 (za2 (za2 (za1 h))))))))))
  refine z_step ?_ (za2 (za1 (za1 (za2 (za1 (za2 (za2 (za2 (za2 (za1 h))))))))))
  exact fun j hj => absurd hj (Nat.not_lt_zero _)
theorem zstr74 {args : Array Value} {s : State} (h : narrow_1.before args s = true) : ∃ q t : Nat, zPs s args ("LinkHouseModel", 286, 2, zby74) q t := by
  obtain ⟨adK, adV, hS, hev⟩ := vk_Sof (N := 1) (tm := fun _ => Term.string "LinkHouseModel" 286) (len := [2]) (byt := [zby74]) (args := args) (s := s) (A := fun q => s.heap.size ≤ q) (fun i hi => by rw [show i = 0 by omega]; decide) (fun i _ => (za2 (za1 (za2 (za1 (za1 (za2 (za2 (za2 (za2 (za1 h))))))))))) (fun i _ => (za1 (za2 (za2 (za1 (za1 (za2 (za2 (za2 (za2 (za1 h))))))))))) (fun i _ => (za2 (za2 (za2 (za1 (za1 (za2 (za2 (za2 (za2 (za1 h))))))))))) (fun i hi => by rw [show i = 0 by omega]; exact (za1 (za1 (za1 (za2 (za1 (za2 (za2 (za2 (za2 (za1 h))))))))))) (fun i hi j hj => by rw [show i = 0 by omega] at hj ⊢; exact zels74 h j hj) (fun i j hi hj hne => absurd (show i = j by omega) hne) (fun a h => Nat.not_le.mpr h)
  obtain ⟨h1, h2, h3, h4⟩ := hS.1 0 (by decide)
  exact ⟨adK 0, adV 0, hev 0 (by decide), h1, h2, h3, h4⟩
def zby76 : List Int32 := [105, 110]
set_option maxRecDepth 20000 in
theorem zels76 {args : Array Value} {s : State} (h : narrow_1.before args s = true) : ∀ j, j < 2 → (Cond.eq (.elem (Term.field (Term.string "LinkHouseModel" 298) "java/lang/String" "value" "[B") (.int (Int32.ofNat j))) (.int (zby76.getD j 0))).before args s = true := by
  refine z_step ?_ (za1 (za1 (za1 (za1 (za2 (za2 (za2 (za2 (za2 (za1 h))))))))))
  refine z_step ?_ (za2 (za2 (za2 (za2 (za1 (za2 (za2 (za2 (za2 (za1 h))))))))))
  exact fun j hj => absurd hj (Nat.not_lt_zero _)
theorem zstr76 {args : Array Value} {s : State} (h : narrow_1.before args s = true) : ∃ q t : Nat, zPs s args ("LinkHouseModel", 298, 2, zby76) q t := by
  obtain ⟨adK, adV, hS, hev⟩ := vk_Sof (N := 1) (tm := fun _ => Term.string "LinkHouseModel" 298) (len := [2]) (byt := [zby76]) (args := args) (s := s) (A := fun q => s.heap.size ≤ q) (fun i hi => by rw [show i = 0 by omega]; decide) (fun i _ => (za2 (za2 (za1 (za2 (za1 (za2 (za2 (za2 (za2 (za1 h))))))))))) (fun i _ => (za1 (za1 (za2 (za2 (za1 (za2 (za2 (za2 (za2 (za1 h))))))))))) (fun i _ => (za2 (za1 (za2 (za2 (za1 (za2 (za2 (za2 (za2 (za1 h))))))))))) (fun i hi => by rw [show i = 0 by omega]; exact (za1 (za2 (za2 (za2 (za1 (za2 (za2 (za2 (za2 (za1 h))))))))))) (fun i hi j hj => by rw [show i = 0 by omega] at hj ⊢; exact zels76 h j hj) (fun i j hi hj hne => absurd (show i = j by omega) hne) (fun a h => Nat.not_le.mpr h)
  obtain ⟨h1, h2, h3, h4⟩ := hS.1 0 (by decide)
  exact ⟨adK 0, adV 0, hev 0 (by decide), h1, h2, h3, h4⟩
def zby78 : List Int32 := [119, 105, 116, 104]
set_option maxRecDepth 20000 in
theorem zels78 {args : Array Value} {s : State} (h : narrow_1.before args s = true) : ∀ j, j < 4 → (Cond.eq (.elem (Term.field (Term.string "LinkHouseModel" 306) "java/lang/String" "value" "[B") (.int (Int32.ofNat j))) (.int (zby78.getD j 0))).before args s = true := by
  refine z_step ?_ (za1 (za1 (za1 (za2 (za2 (za2 (za2 (za2 (za2 (za1 h))))))))))
  refine z_step ?_ (za2 (za2 (za2 (za1 (za2 (za2 (za2 (za2 (za2 (za1 h))))))))))
  refine z_step ?_ (za1 (za2 (za2 (za1 (za2 (za2 (za2 (za2 (za2 (za1 h))))))))))
  refine z_step ?_ (za2 (za1 (za2 (za1 (za2 (za2 (za2 (za2 (za2 (za1 h))))))))))
  exact fun j hj => absurd hj (Nat.not_lt_zero _)
theorem zstr78 {args : Array Value} {s : State} (h : narrow_1.before args s = true) : ∃ q t : Nat, zPs s args ("LinkHouseModel", 306, 4, zby78) q t := by
  obtain ⟨adK, adV, hS, hev⟩ := vk_Sof (N := 1) (tm := fun _ => Term.string "LinkHouseModel" 306) (len := [4]) (byt := [zby78]) (args := args) (s := s) (A := fun q => s.heap.size ≤ q) (fun i hi => by rw [show i = 0 by omega]; decide) (fun i _ => (za2 (za1 (za1 (za1 (za2 (za2 (za2 (za2 (za2 (za1 h))))))))))) (fun i _ => (za1 (za2 (za1 (za1 (za2 (za2 (za2 (za2 (za2 (za1 h))))))))))) (fun i _ => (za2 (za2 (za1 (za1 (za2 (za2 (za2 (za2 (za2 (za1 h))))))))))) (fun i hi => by rw [show i = 0 by omega]; exact (za1 (za1 (za2 (za1 (za2 (za2 (za2 (za2 (za2 (za1 h))))))))))) (fun i hi j hj => by rw [show i = 0 by omega] at hj ⊢; exact zels78 h j hj) (fun i j hi hj hne => absurd (show i = j by omega) hne) (fun a h => Nat.not_le.mpr h)
  obtain ⟨h1, h2, h3, h4⟩ := hS.1 0 (by decide)
  exact ⟨adK 0, adV 0, hev 0 (by decide), h1, h2, h3, h4⟩
def zby80 : List Int32 := [111, 110, 108, 121]
set_option maxRecDepth 20000 in
theorem zels80 {args : Array Value} {s : State} (h : narrow_1.before args s = true) : ∀ j, j < 4 → (Cond.eq (.elem (Term.field (Term.string "LinkHouseModel" 317) "java/lang/String" "value" "[B") (.int (Int32.ofNat j))) (.int (zby80.getD j 0))).before args s = true := by
  refine z_step ?_ (za1 (za1 (za1 (za1 (za1 (za1 (za1 (za1 (za2 h)))))))))
  refine z_step ?_ (za2 (za2 (za2 (za2 (za2 (za2 (za2 (za2 (za2 (za1 h))))))))))
  refine z_step ?_ (za1 (za2 (za2 (za2 (za2 (za2 (za2 (za2 (za2 (za1 h))))))))))
  refine z_step ?_ (za2 (za1 (za2 (za2 (za2 (za2 (za2 (za2 (za2 (za1 h))))))))))
  exact fun j hj => absurd hj (Nat.not_lt_zero _)
theorem zstr80 {args : Array Value} {s : State} (h : narrow_1.before args s = true) : ∃ q t : Nat, zPs s args ("LinkHouseModel", 317, 4, zby80) q t := by
  obtain ⟨adK, adV, hS, hev⟩ := vk_Sof (N := 1) (tm := fun _ => Term.string "LinkHouseModel" 317) (len := [4]) (byt := [zby80]) (args := args) (s := s) (A := fun q => s.heap.size ≤ q) (fun i hi => by rw [show i = 0 by omega]; decide) (fun i _ => (za2 (za1 (za1 (za2 (za2 (za2 (za2 (za2 (za2 (za1 h))))))))))) (fun i _ => (za1 (za2 (za1 (za2 (za2 (za2 (za2 (za2 (za2 (za1 h))))))))))) (fun i _ => (za2 (za2 (za1 (za2 (za2 (za2 (za2 (za2 (za2 (za1 h))))))))))) (fun i hi => by rw [show i = 0 by omega]; exact (za1 (za1 (za2 (za2 (za2 (za2 (za2 (za2 (za2 (za1 h))))))))))) (fun i hi j hj => by rw [show i = 0 by omega] at hj ⊢; exact zels80 h j hj) (fun i j hi hj hne => absurd (show i = j by omega) hne) (fun a h => Nat.not_le.mpr h)
  obtain ⟨h1, h2, h3, h4⟩ := hS.1 0 (by decide)
  exact ⟨adK 0, adV 0, hev 0 (by decide), h1, h2, h3, h4⟩
def zby82 : List Int32 := [99, 108, 97, 115, 115]
set_option maxRecDepth 20000 in
theorem zels82 {args : Array Value} {s : State} (h : narrow_1.before args s = true) : ∀ j, j < 5 → (Cond.eq (.elem (Term.field (Term.string "LinkHouseModel" 247) "java/lang/String" "value" "[B") (.int (Int32.ofNat j))) (.int (zby82.getD j 0))).before args s = true := by
  refine z_step ?_ (za1 (za2 (za2 (za2 (za2 (za1 (za2 (za2 (za2 (za1 h))))))))))
  refine z_step ?_ (za2 (za1 (za2 (za2 (za2 (za1 (za2 (za2 (za2 (za1 h))))))))))
  refine z_step ?_ (za1 (za1 (za2 (za2 (za2 (za1 (za2 (za2 (za2 (za1 h))))))))))
  refine z_step ?_ (za2 (za2 (za1 (za2 (za2 (za1 (za2 (za2 (za2 (za1 h))))))))))
  refine z_step ?_ (za1 (za2 (za1 (za2 (za2 (za1 (za2 (za2 (za2 (za1 h))))))))))
  exact fun j hj => absurd hj (Nat.not_lt_zero _)
theorem zstr82 {args : Array Value} {s : State} (h : narrow_1.before args s = true) : ∃ q t : Nat, zPs s args ("LinkHouseModel", 247, 5, zby82) q t := by
  obtain ⟨adK, adV, hS, hev⟩ := vk_Sof (N := 1) (tm := fun _ => Term.string "LinkHouseModel" 247) (len := [5]) (byt := [zby82]) (args := args) (s := s) (A := fun q => s.heap.size ≤ q) (fun i hi => by rw [show i = 0 by omega]; decide) (fun i _ => (za1 (za2 (za2 (za1 (za2 (za1 (za2 (za2 (za2 (za1 h))))))))))) (fun i _ => (za2 (za2 (za2 (za1 (za2 (za1 (za2 (za2 (za2 (za1 h))))))))))) (fun i _ => (za1 (za1 (za1 (za2 (za2 (za1 (za2 (za2 (za2 (za1 h))))))))))) (fun i hi => by rw [show i = 0 by omega]; exact (za2 (za1 (za1 (za2 (za2 (za1 (za2 (za2 (za2 (za1 h))))))))))) (fun i hi j hj => by rw [show i = 0 by omega] at hj ⊢; exact zels82 h j hj) (fun i j hi hj hne => absurd (show i = j by omega) hne) (fun a h => Nat.not_le.mpr h)
  obtain ⟨h1, h2, h3, h4⟩ := hS.1 0 (by decide)
  exact ⟨adK 0, adV 0, hev 0 (by decide), h1, h2, h3, h4⟩
def zby84 : List Int32 := [98, 97, 114, 101]
set_option maxRecDepth 20000 in
theorem zels84 {args : Array Value} {s : State} (h : narrow_1.before args s = true) : ∀ j, j < 4 → (Cond.eq (.elem (Term.field (Term.string "LinkHouseModel" 243) "java/lang/String" "value" "[B") (.int (Int32.ofNat j))) (.int (zby84.getD j 0))).before args s = true := by
  refine z_step ?_ (za2 (za1 (za2 (za2 (za1 (za1 (za2 (za2 (za2 (za1 h))))))))))
  refine z_step ?_ (za1 (za1 (za2 (za2 (za1 (za1 (za2 (za2 (za2 (za1 h))))))))))
  refine z_step ?_ (za2 (za2 (za1 (za2 (za1 (za1 (za2 (za2 (za2 (za1 h))))))))))
  refine z_step ?_ (za1 (za2 (za1 (za2 (za1 (za1 (za2 (za2 (za2 (za1 h))))))))))
  exact fun j hj => absurd hj (Nat.not_lt_zero _)
theorem zstr84 {args : Array Value} {s : State} (h : narrow_1.before args s = true) : ∃ q t : Nat, zPs s args ("LinkHouseModel", 243, 4, zby84) q t := by
  obtain ⟨adK, adV, hS, hev⟩ := vk_Sof (N := 1) (tm := fun _ => Term.string "LinkHouseModel" 243) (len := [4]) (byt := [zby84]) (args := args) (s := s) (A := fun q => s.heap.size ≤ q) (fun i hi => by rw [show i = 0 by omega]; decide) (fun i _ => (za1 (za2 (za2 (za1 (za1 (za1 (za2 (za2 (za2 (za1 h))))))))))) (fun i _ => (za2 (za2 (za2 (za1 (za1 (za1 (za2 (za2 (za2 (za1 h))))))))))) (fun i _ => (za1 (za1 (za1 (za2 (za1 (za1 (za2 (za2 (za2 (za1 h))))))))))) (fun i hi => by rw [show i = 0 by omega]; exact (za2 (za1 (za1 (za2 (za1 (za1 (za2 (za2 (za2 (za1 h))))))))))) (fun i hi j hj => by rw [show i = 0 by omega] at hj ⊢; exact zels84 h j hj) (fun i j hi hj hne => absurd (show i = j by omega) hne) (fun a h => Nat.not_le.mpr h)
  obtain ⟨h1, h2, h3, h4⟩ := hS.1 0 (by decide)
  exact ⟨adK 0, adV 0, hev 0 (by decide), h1, h2, h3, h4⟩
def zby86 : List Int32 := [107, 105, 110]
set_option maxRecDepth 20000 in
theorem zels86 {args : Array Value} {s : State} (h : narrow_1.before args s = true) : ∀ j, j < 3 → (Cond.eq (.elem (Term.field (Term.string "LinkHouseModel" 331) "java/lang/String" "value" "[B") (.int (Int32.ofNat j))) (.int (zby86.getD j 0))).before args s = true := by
  refine z_step ?_ (za1 (za1 (za1 (za2 (za1 (za1 (za1 (za1 (za1 (za2 h))))))))))
  refine z_step ?_ (za2 (za2 (za2 (za1 (za1 (za1 (za1 (za1 (za1 (za2 h))))))))))
  refine z_step ?_ (za1 (za2 (za2 (za1 (za1 (za1 (za1 (za1 (za1 (za2 h))))))))))
  exact fun j hj => absurd hj (Nat.not_lt_zero _)
theorem zstr86 {args : Array Value} {s : State} (h : narrow_1.before args s = true) : ∃ q t : Nat, zPs s args ("LinkHouseModel", 331, 3, zby86) q t := by
  obtain ⟨adK, adV, hS, hev⟩ := vk_Sof (N := 1) (tm := fun _ => Term.string "LinkHouseModel" 331) (len := [3]) (byt := [zby86]) (args := args) (s := s) (A := fun q => s.heap.size ≤ q) (fun i hi => by rw [show i = 0 by omega]; decide) (fun i _ => (za1 (za2 (za1 (za1 (za1 (za1 (za1 (za1 (za1 (za2 h))))))))))) (fun i _ => (za2 (za2 (za1 (za1 (za1 (za1 (za1 (za1 (za1 (za2 h))))))))))) (fun i _ => (za1 (za1 (za2 (za1 (za1 (za1 (za1 (za1 (za1 (za2 h))))))))))) (fun i hi => by rw [show i = 0 by omega]; exact (za2 (za1 (za2 (za1 (za1 (za1 (za1 (za1 (za1 (za2 h))))))))))) (fun i hi j hj => by rw [show i = 0 by omega] at hj ⊢; exact zels86 h j hj) (fun i j hi hj hne => absurd (show i = j by omega) hne) (fun a h => Nat.not_le.mpr h)
  obtain ⟨h1, h2, h3, h4⟩ := hS.1 0 (by decide)
  exact ⟨adK 0, adV 0, hev 0 (by decide), h1, h2, h3, h4⟩
def zby88 : List Int32 := [111, 119, 110]
set_option maxRecDepth 20000 in
theorem zels88 {args : Array Value} {s : State} (h : narrow_1.before args s = true) : ∀ j, j < 3 → (Cond.eq (.elem (Term.field (Term.string "LinkHouseModel" 333) "java/lang/String" "value" "[B") (.int (Int32.ofNat j))) (.int (zby88.getD j 0))).before args s = true := by
  refine z_step ?_ (za2 (za2 (za2 (za2 (za1 (za1 (za1 (za1 (za1 (za2 h))))))))))
  refine z_step ?_ (za1 (za2 (za2 (za2 (za1 (za1 (za1 (za1 (za1 (za2 h))))))))))
  refine z_step ?_ (za2 (za1 (za2 (za2 (za1 (za1 (za1 (za1 (za1 (za2 h))))))))))
  exact fun j hj => absurd hj (Nat.not_lt_zero _)
theorem zstr88 {args : Array Value} {s : State} (h : narrow_1.before args s = true) : ∃ q t : Nat, zPs s args ("LinkHouseModel", 333, 3, zby88) q t := by
  obtain ⟨adK, adV, hS, hev⟩ := vk_Sof (N := 1) (tm := fun _ => Term.string "LinkHouseModel" 333) (len := [3]) (byt := [zby88]) (args := args) (s := s) (A := fun q => s.heap.size ≤ q) (fun i hi => by rw [show i = 0 by omega]; decide) (fun i _ => (za2 (za1 (za1 (za2 (za1 (za1 (za1 (za1 (za1 (za2 h))))))))))) (fun i _ => (za1 (za2 (za1 (za2 (za1 (za1 (za1 (za1 (za1 (za2 h))))))))))) (fun i _ => (za2 (za2 (za1 (za2 (za1 (za1 (za1 (za1 (za1 (za2 h))))))))))) (fun i hi => by rw [show i = 0 by omega]; exact (za1 (za1 (za2 (za2 (za1 (za1 (za1 (za1 (za1 (za2 h))))))))))) (fun i hi j hj => by rw [show i = 0 by omega] at hj ⊢; exact zels88 h j hj) (fun i j hi hj hne => absurd (show i = j by omega) hne) (fun a h => Nat.not_le.mpr h)
  obtain ⟨h1, h2, h3, h4⟩ := hS.1 0 (by decide)
  exact ⟨adK 0, adV 0, hev 0 (by decide), h1, h2, h3, h4⟩
def zby90 : List Int32 := [115, 116, 97, 116, 105, 99]
set_option maxRecDepth 20000 in
theorem zels90 {args : Array Value} {s : State} (h : narrow_1.before args s = true) : ∀ j, j < 6 → (Cond.eq (.elem (Term.field (Term.string "LinkHouseModel" 335) "java/lang/String" "value" "[B") (.int (Int32.ofNat j))) (.int (zby90.getD j 0))).before args s = true := by
  refine z_step ?_ (za2 (za1 (za1 (za2 (za2 (za1 (za1 (za1 (za1 (za2 h))))))))))
  refine z_step ?_ (za1 (za1 (za1 (za2 (za2 (za1 (za1 (za1 (za1 (za2 h))))))))))
  refine z_step ?_ (za2 (za2 (za2 (za1 (za2 (za1 (za1 (za1 (za1 (za2 h))))))))))
  refine z_step ?_ (za1 (za2 (za2 (za1 (za2 (za1 (za1 (za1 (za1 (za2 h))))))))))
  refine z_step ?_ (za2 (za1 (za2 (za1 (za2 (za1 (za1 (za1 (za1 (za2 h))))))))))
  refine z_step ?_ (za1 (za1 (za2 (za1 (za2 (za1 (za1 (za1 (za1 (za2 h))))))))))
  exact fun j hj => absurd hj (Nat.not_lt_zero _)
theorem zstr90 {args : Array Value} {s : State} (h : narrow_1.before args s = true) : ∃ q t : Nat, zPs s args ("LinkHouseModel", 335, 6, zby90) q t := by
  obtain ⟨adK, adV, hS, hev⟩ := vk_Sof (N := 1) (tm := fun _ => Term.string "LinkHouseModel" 335) (len := [6]) (byt := [zby90]) (args := args) (s := s) (A := fun q => s.heap.size ≤ q) (fun i hi => by rw [show i = 0 by omega]; decide) (fun i _ => (za1 (za1 (za1 (za1 (za2 (za1 (za1 (za1 (za1 (za2 h))))))))))) (fun i _ => (za2 (za1 (za1 (za1 (za2 (za1 (za1 (za1 (za1 (za2 h))))))))))) (fun i _ => (za1 (za2 (za1 (za1 (za2 (za1 (za1 (za1 (za1 (za2 h))))))))))) (fun i hi => by rw [show i = 0 by omega]; exact (za2 (za2 (za1 (za1 (za2 (za1 (za1 (za1 (za1 (za2 h))))))))))) (fun i hi j hj => by rw [show i = 0 by omega] at hj ⊢; exact zels90 h j hj) (fun i j hi hj hne => absurd (show i = j by omega) hne) (fun a h => Nat.not_le.mpr h)
  obtain ⟨h1, h2, h3, h4⟩ := hS.1 0 (by decide)
  exact ⟨adK 0, adV 0, hev 0 (by decide), h1, h2, h3, h4⟩
def zby92 : List Int32 := [110, 101, 119]
set_option maxRecDepth 20000 in
theorem zels92 {args : Array Value} {s : State} (h : narrow_1.before args s = true) : ∀ j, j < 3 → (Cond.eq (.elem (Term.field (Term.string "LinkHouseModel" 337) "java/lang/String" "value" "[B") (.int (Int32.ofNat j))) (.int (zby92.getD j 0))).before args s = true := by
  refine z_step ?_ (za2 (za1 (za1 (za1 (za2 (za2 (za1 (za1 (za1 (za2 h))))))))))
  refine z_step ?_ (za1 (za1 (za1 (za1 (za2 (za2 (za1 (za1 (za1 (za2 h))))))))))
  refine z_step ?_ (za2 (za2 (za2 (za2 (za1 (za2 (za1 (za1 (za1 (za2 h))))))))))
  exact fun j hj => absurd hj (Nat.not_lt_zero _)
theorem zstr92 {args : Array Value} {s : State} (h : narrow_1.before args s = true) : ∃ q t : Nat, zPs s args ("LinkHouseModel", 337, 3, zby92) q t := by
  obtain ⟨adK, adV, hS, hev⟩ := vk_Sof (N := 1) (tm := fun _ => Term.string "LinkHouseModel" 337) (len := [3]) (byt := [zby92]) (args := args) (s := s) (A := fun q => s.heap.size ≤ q) (fun i hi => by rw [show i = 0 by omega]; decide) (fun i _ => (za2 (za2 (za1 (za2 (za1 (za2 (za1 (za1 (za1 (za2 h))))))))))) (fun i _ => (za1 (za1 (za2 (za2 (za1 (za2 (za1 (za1 (za1 (za2 h))))))))))) (fun i _ => (za2 (za1 (za2 (za2 (za1 (za2 (za1 (za1 (za1 (za2 h))))))))))) (fun i hi => by rw [show i = 0 by omega]; exact (za1 (za2 (za2 (za2 (za1 (za2 (za1 (za1 (za1 (za2 h))))))))))) (fun i hi j hj => by rw [show i = 0 by omega] at hj ⊢; exact zels92 h j hj) (fun i j hi hj hne => absurd (show i = j by omega) hne) (fun a h => Nat.not_le.mpr h)
  obtain ⟨h1, h2, h3, h4⟩ := hS.1 0 (by decide)
  exact ⟨adK 0, adV 0, hev 0 (by decide), h1, h2, h3, h4⟩
def zby94 : List Int32 := [115, 116, 97, 114, 116]
set_option maxRecDepth 20000 in
theorem zels94 {args : Array Value} {s : State} (h : narrow_1.before args s = true) : ∀ j, j < 5 → (Cond.eq (.elem (Term.field (Term.string "LinkHouseModel" 339) "java/lang/String" "value" "[B") (.int (Int32.ofNat j))) (.int (zby94.getD j 0))).before args s = true := by
  refine z_step ?_ (za2 (za2 (za1 (za2 (za2 (za2 (za1 (za1 (za1 (za2 h))))))))))
  refine z_step ?_ (za1 (za2 (za1 (za2 (za2 (za2 (za1 (za1 (za1 (za2 h))))))))))
  refine z_step ?_ (za2 (za1 (za1 (za2 (za2 (za2 (za1 (za1 (za1 (za2 h))))))))))
  refine z_step ?_ (za1 (za1 (za1 (za2 (za2 (za2 (za1 (za1 (za1 (za2 h))))))))))
  refine z_step ?_ (za2 (za2 (za2 (za1 (za2 (za2 (za1 (za1 (za1 (za2 h))))))))))
  exact fun j hj => absurd hj (Nat.not_lt_zero _)
theorem zstr94 {args : Array Value} {s : State} (h : narrow_1.before args s = true) : ∃ q t : Nat, zPs s args ("LinkHouseModel", 339, 5, zby94) q t := by
  obtain ⟨adK, adV, hS, hev⟩ := vk_Sof (N := 1) (tm := fun _ => Term.string "LinkHouseModel" 339) (len := [5]) (byt := [zby94]) (args := args) (s := s) (A := fun q => s.heap.size ≤ q) (fun i hi => by rw [show i = 0 by omega]; decide) (fun i _ => (za2 (za2 (za1 (za1 (za2 (za2 (za1 (za1 (za1 (za2 h))))))))))) (fun i _ => (za1 (za1 (za2 (za1 (za2 (za2 (za1 (za1 (za1 (za2 h))))))))))) (fun i _ => (za2 (za1 (za2 (za1 (za2 (za2 (za1 (za1 (za1 (za2 h))))))))))) (fun i hi => by rw [show i = 0 by omega]; exact (za1 (za2 (za2 (za1 (za2 (za2 (za1 (za1 (za1 (za2 h))))))))))) (fun i hi j hj => by rw [show i = 0 by omega] at hj ⊢; exact zels94 h j hj) (fun i j hi hj hne => absurd (show i = j by omega) hne) (fun a h => Nat.not_le.mpr h)
  obtain ⟨h1, h2, h3, h4⟩ := hS.1 0 (by decide)
  exact ⟨adK 0, adV 0, hev 0 (by decide), h1, h2, h3, h4⟩
def zby96 : List Int32 := [110, 117, 108, 108]
set_option maxRecDepth 20000 in
theorem zels96 {args : Array Value} {s : State} (h : narrow_1.before args s = true) : ∀ j, j < 4 → (Cond.eq (.elem (Term.field (Term.string "LinkHouseModel" 451) "java/lang/String" "value" "[B") (.int (Int32.ofNat j))) (.int (zby96.getD j 0))).before args s = true := by
  refine z_step ?_ (za1 (za1 (za2 (za1 (za1 (za1 (za2 (za1 (za1 (za2 h))))))))))
  refine z_step ?_ (za2 (za2 (za1 (za1 (za1 (za1 (za2 (za1 (za1 (za2 h))))))))))
  refine z_step ?_ (za1 (za2 (za1 (za1 (za1 (za1 (za2 (za1 (za1 (za2 h))))))))))
  refine z_step ?_ (za1 (za1 (za1 (za1 (za1 (za2 (za1 (za1 (za2 h)))))))))
  exact fun j hj => absurd hj (Nat.not_lt_zero _)
theorem zstr96 {args : Array Value} {s : State} (h : narrow_1.before args s = true) : ∃ q t : Nat, zPs s args ("LinkHouseModel", 451, 4, zby96) q t := by
  obtain ⟨adK, adV, hS, hev⟩ := vk_Sof (N := 1) (tm := fun _ => Term.string "LinkHouseModel" 451) (len := [4]) (byt := [zby96]) (args := args) (s := s) (A := fun q => s.heap.size ≤ q) (fun i hi => by rw [show i = 0 by omega]; decide) (fun i _ => (za1 (za1 (za2 (za2 (za2 (za2 (za1 (za1 (za1 (za2 h))))))))))) (fun i _ => (za2 (za1 (za2 (za2 (za2 (za2 (za1 (za1 (za1 (za2 h))))))))))) (fun i _ => (za1 (za2 (za2 (za2 (za2 (za2 (za1 (za1 (za1 (za2 h))))))))))) (fun i hi => by rw [show i = 0 by omega]; exact (za2 (za2 (za2 (za2 (za2 (za2 (za1 (za1 (za1 (za2 h))))))))))) (fun i hi j hj => by rw [show i = 0 by omega] at hj ⊢; exact zels96 h j hj) (fun i j hi hj hne => absurd (show i = j by omega) hne) (fun a h => Nat.not_le.mpr h)
  obtain ⟨h1, h2, h3, h4⟩ := hS.1 0 (by decide)
  exact ⟨adK 0, adV 0, hev 0 (by decide), h1, h2, h3, h4⟩
def zby98 : List Int32 := [116, 104, 105, 115]
set_option maxRecDepth 20000 in
theorem zels98 {args : Array Value} {s : State} (h : narrow_1.before args s = true) : ∀ j, j < 4 → (Cond.eq (.elem (Term.field (Term.string "LinkHouseModel" 453) "java/lang/String" "value" "[B") (.int (Int32.ofNat j))) (.int (zby98.getD j 0))).before args s = true := by
  refine z_step ?_ (za1 (za1 (za2 (za2 (za1 (za1 (za2 (za1 (za1 (za2 h))))))))))
  refine z_step ?_ (za2 (za2 (za1 (za2 (za1 (za1 (za2 (za1 (za1 (za2 h))))))))))
  refine z_step ?_ (za1 (za2 (za1 (za2 (za1 (za1 (za2 (za1 (za1 (za2 h))))))))))
  refine z_step ?_ (za2 (za1 (za1 (za2 (za1 (za1 (za2 (za1 (za1 (za2 h))))))))))
  exact fun j hj => absurd hj (Nat.not_lt_zero _)
theorem zstr98 {args : Array Value} {s : State} (h : narrow_1.before args s = true) : ∃ q t : Nat, zPs s args ("LinkHouseModel", 453, 4, zby98) q t := by
  obtain ⟨adK, adV, hS, hev⟩ := vk_Sof (N := 1) (tm := fun _ => Term.string "LinkHouseModel" 453) (len := [4]) (byt := [zby98]) (args := args) (s := s) (A := fun q => s.heap.size ≤ q) (fun i hi => by rw [show i = 0 by omega]; decide) (fun i _ => (za2 (za1 (za2 (za1 (za1 (za1 (za2 (za1 (za1 (za2 h))))))))))) (fun i _ => (za1 (za2 (za2 (za1 (za1 (za1 (za2 (za1 (za1 (za2 h))))))))))) (fun i _ => (za2 (za2 (za2 (za1 (za1 (za1 (za2 (za1 (za1 (za2 h))))))))))) (fun i hi => by rw [show i = 0 by omega]; exact (za1 (za1 (za1 (za2 (za1 (za1 (za2 (za1 (za1 (za2 h))))))))))) (fun i hi j hj => by rw [show i = 0 by omega] at hj ⊢; exact zels98 h j hj) (fun i j hi hj hne => absurd (show i = j by omega) hne) (fun a h => Nat.not_le.mpr h)
  obtain ⟨h1, h2, h3, h4⟩ := hS.1 0 (by decide)
  exact ⟨adK 0, adV 0, hev 0 (by decide), h1, h2, h3, h4⟩
def zby100 : List Int32 := [115, 117, 112, 101, 114]
set_option maxRecDepth 20000 in
theorem zels100 {args : Array Value} {s : State} (h : narrow_1.before args s = true) : ∀ j, j < 5 → (Cond.eq (.elem (Term.field (Term.string "LinkHouseModel" 455) "java/lang/String" "value" "[B") (.int (Int32.ofNat j))) (.int (zby100.getD j 0))).before args s = true := by
  refine z_step ?_ (za2 (za1 (za2 (za1 (za2 (za1 (za2 (za1 (za1 (za2 h))))))))))
  refine z_step ?_ (za1 (za1 (za2 (za1 (za2 (za1 (za2 (za1 (za1 (za2 h))))))))))
  refine z_step ?_ (za2 (za2 (za1 (za1 (za2 (za1 (za2 (za1 (za1 (za2 h))))))))))
  refine z_step ?_ (za1 (za2 (za1 (za1 (za2 (za1 (za2 (za1 (za1 (za2 h))))))))))
  refine z_step ?_ (za2 (za1 (za1 (za1 (za2 (za1 (za2 (za1 (za1 (za2 h))))))))))
  exact fun j hj => absurd hj (Nat.not_lt_zero _)
theorem zstr100 {args : Array Value} {s : State} (h : narrow_1.before args s = true) : ∃ q t : Nat, zPs s args ("LinkHouseModel", 455, 5, zby100) q t := by
  obtain ⟨adK, adV, hS, hev⟩ := vk_Sof (N := 1) (tm := fun _ => Term.string "LinkHouseModel" 455) (len := [5]) (byt := [zby100]) (args := args) (s := s) (A := fun q => s.heap.size ≤ q) (fun i hi => by rw [show i = 0 by omega]; decide) (fun i _ => (za2 (za1 (za2 (za2 (za1 (za1 (za2 (za1 (za1 (za2 h))))))))))) (fun i _ => (za1 (za2 (za2 (za2 (za1 (za1 (za2 (za1 (za1 (za2 h))))))))))) (fun i _ => (za2 (za2 (za2 (za2 (za1 (za1 (za2 (za1 (za1 (za2 h))))))))))) (fun i hi => by rw [show i = 0 by omega]; exact (za1 (za1 (za1 (za1 (za2 (za1 (za2 (za1 (za1 (za2 h))))))))))) (fun i hi j hj => by rw [show i = 0 by omega] at hj ⊢; exact zels100 h j hj) (fun i j hi hj hne => absurd (show i = j by omega) hne) (fun a h => Nat.not_le.mpr h)
  obtain ⟨h1, h2, h3, h4⟩ := hS.1 0 (by decide)
  exact ⟨adK 0, adV 0, hev 0 (by decide), h1, h2, h3, h4⟩
def zby102 : List Int32 := [108, 101, 116]
set_option maxRecDepth 20000 in
theorem zels102 {args : Array Value} {s : State} (h : narrow_1.before args s = true) : ∀ j, j < 3 → (Cond.eq (.elem (Term.field (Term.string "LinkHouseModel" 460) "java/lang/String" "value" "[B") (.int (Int32.ofNat j))) (.int (zby102.getD j 0))).before args s = true := by
  refine z_step ?_ (za1 (za1 (za2 (za2 (za2 (za1 (za2 (za1 (za1 (za2 h))))))))))
  refine z_step ?_ (za2 (za2 (za1 (za2 (za2 (za1 (za2 (za1 (za1 (za2 h))))))))))
  refine z_step ?_ (za1 (za2 (za1 (za2 (za2 (za1 (za2 (za1 (za1 (za2 h))))))))))
  exact fun j hj => absurd hj (Nat.not_lt_zero _)
theorem zstr102 {args : Array Value} {s : State} (h : narrow_1.before args s = true) : ∃ q t : Nat, zPs s args ("LinkHouseModel", 460, 3, zby102) q t := by
  obtain ⟨adK, adV, hS, hev⟩ := vk_Sof (N := 1) (tm := fun _ => Term.string "LinkHouseModel" 460) (len := [3]) (byt := [zby102]) (args := args) (s := s) (A := fun q => s.heap.size ≤ q) (fun i hi => by rw [show i = 0 by omega]; decide) (fun i _ => (za1 (za2 (za2 (za1 (za2 (za1 (za2 (za1 (za1 (za2 h))))))))))) (fun i _ => (za2 (za2 (za2 (za1 (za2 (za1 (za2 (za1 (za1 (za2 h))))))))))) (fun i _ => (za1 (za1 (za1 (za2 (za2 (za1 (za2 (za1 (za1 (za2 h))))))))))) (fun i hi => by rw [show i = 0 by omega]; exact (za2 (za1 (za1 (za2 (za2 (za1 (za2 (za1 (za1 (za2 h))))))))))) (fun i hi j hj => by rw [show i = 0 by omega] at hj ⊢; exact zels102 h j hj) (fun i j hi hj hne => absurd (show i = j by omega) hne) (fun a h => Nat.not_le.mpr h)
  obtain ⟨h1, h2, h3, h4⟩ := hS.1 0 (by decide)
  exact ⟨adK 0, adV 0, hev 0 (by decide), h1, h2, h3, h4⟩
def zby104 : List Int32 := [105, 102]
set_option maxRecDepth 20000 in
theorem zels104 {args : Array Value} {s : State} (h : narrow_1.before args s = true) : ∀ j, j < 2 → (Cond.eq (.elem (Term.field (Term.string "LinkHouseModel" 462) "java/lang/String" "value" "[B") (.int (Int32.ofNat j))) (.int (zby104.getD j 0))).before args s = true := by
  refine z_step ?_ (za1 (za2 (za1 (za1 (za1 (za2 (za2 (za1 (za1 (za2 h))))))))))
  refine z_step ?_ (za2 (za1 (za1 (za1 (za1 (za2 (za2 (za1 (za1 (za2 h))))))))))
  exact fun j hj => absurd hj (Nat.not_lt_zero _)
theorem zstr104 {args : Array Value} {s : State} (h : narrow_1.before args s = true) : ∃ q t : Nat, zPs s args ("LinkHouseModel", 462, 2, zby104) q t := by
  obtain ⟨adK, adV, hS, hev⟩ := vk_Sof (N := 1) (tm := fun _ => Term.string "LinkHouseModel" 462) (len := [2]) (byt := [zby104]) (args := args) (s := s) (A := fun q => s.heap.size ≤ q) (fun i hi => by rw [show i = 0 by omega]; decide) (fun i _ => (za2 (za1 (za2 (za2 (za2 (za1 (za2 (za1 (za1 (za2 h))))))))))) (fun i _ => (za1 (za2 (za2 (za2 (za2 (za1 (za2 (za1 (za1 (za2 h))))))))))) (fun i _ => (za2 (za2 (za2 (za2 (za2 (za1 (za2 (za1 (za1 (za2 h))))))))))) (fun i hi => by rw [show i = 0 by omega]; exact (za1 (za1 (za1 (za1 (za1 (za2 (za2 (za1 (za1 (za2 h))))))))))) (fun i hi j hj => by rw [show i = 0 by omega] at hj ⊢; exact zels104 h j hj) (fun i j hi hj hne => absurd (show i = j by omega) hne) (fun a h => Nat.not_le.mpr h)
  obtain ⟨h1, h2, h3, h4⟩ := hS.1 0 (by decide)
  exact ⟨adK 0, adV 0, hev 0 (by decide), h1, h2, h3, h4⟩
def zby106 : List Int32 := [119, 104, 105, 108, 101]
set_option maxRecDepth 20000 in
theorem zels106 {args : Array Value} {s : State} (h : narrow_1.before args s = true) : ∀ j, j < 5 → (Cond.eq (.elem (Term.field (Term.string "LinkHouseModel" 464) "java/lang/String" "value" "[B") (.int (Int32.ofNat j))) (.int (zby106.getD j 0))).before args s = true := by
  refine z_step ?_ (za2 (za2 (za1 (za2 (za1 (za2 (za2 (za1 (za1 (za2 h))))))))))
  refine z_step ?_ (za1 (za2 (za1 (za2 (za1 (za2 (za2 (za1 (za1 (za2 h))))))))))
  refine z_step ?_ (za2 (za1 (za1 (za2 (za1 (za2 (za2 (za1 (za1 (za2 h))))))))))
  refine z_step ?_ (za1 (za1 (za1 (za2 (za1 (za2 (za2 (za1 (za1 (za2 h))))))))))
  refine z_step ?_ (za2 (za2 (za2 (za1 (za1 (za2 (za2 (za1 (za1 (za2 h))))))))))
  exact fun j hj => absurd hj (Nat.not_lt_zero _)
theorem zstr106 {args : Array Value} {s : State} (h : narrow_1.before args s = true) : ∃ q t : Nat, zPs s args ("LinkHouseModel", 464, 5, zby106) q t := by
  obtain ⟨adK, adV, hS, hev⟩ := vk_Sof (N := 1) (tm := fun _ => Term.string "LinkHouseModel" 464) (len := [5]) (byt := [zby106]) (args := args) (s := s) (A := fun q => s.heap.size ≤ q) (fun i hi => by rw [show i = 0 by omega]; decide) (fun i _ => (za2 (za2 (za1 (za1 (za1 (za2 (za2 (za1 (za1 (za2 h))))))))))) (fun i _ => (za1 (za1 (za2 (za1 (za1 (za2 (za2 (za1 (za1 (za2 h))))))))))) (fun i _ => (za2 (za1 (za2 (za1 (za1 (za2 (za2 (za1 (za1 (za2 h))))))))))) (fun i hi => by rw [show i = 0 by omega]; exact (za1 (za2 (za2 (za1 (za1 (za2 (za2 (za1 (za1 (za2 h))))))))))) (fun i hi j hj => by rw [show i = 0 by omega] at hj ⊢; exact zels106 h j hj) (fun i j hi hj hne => absurd (show i = j by omega) hne) (fun a h => Nat.not_le.mpr h)
  obtain ⟨h1, h2, h3, h4⟩ := hS.1 0 (by decide)
  exact ⟨adK 0, adV 0, hev 0 (by decide), h1, h2, h3, h4⟩
def zby108 : List Int32 := [114, 101, 116, 117, 114, 110]
set_option maxRecDepth 20000 in
theorem zels108 {args : Array Value} {s : State} (h : narrow_1.before args s = true) : ∀ j, j < 6 → (Cond.eq (.elem (Term.field (Term.string "LinkHouseModel" 466) "java/lang/String" "value" "[B") (.int (Int32.ofNat j))) (.int (zby108.getD j 0))).before args s = true := by
  refine z_step ?_ (za2 (za1 (za2 (za1 (za2 (za2 (za2 (za1 (za1 (za2 h))))))))))
  refine z_step ?_ (za1 (za1 (za2 (za1 (za2 (za2 (za2 (za1 (za1 (za2 h))))))))))
  refine z_step ?_ (za2 (za2 (za1 (za1 (za2 (za2 (za2 (za1 (za1 (za2 h))))))))))
  refine z_step ?_ (za1 (za2 (za1 (za1 (za2 (za2 (za2 (za1 (za1 (za2 h))))))))))
  refine z_step ?_ (za2 (za1 (za1 (za1 (za2 (za2 (za2 (za1 (za1 (za2 h))))))))))
  refine z_step ?_ (za1 (za1 (za1 (za1 (za2 (za2 (za2 (za1 (za1 (za2 h))))))))))
  exact fun j hj => absurd hj (Nat.not_lt_zero _)
theorem zstr108 {args : Array Value} {s : State} (h : narrow_1.before args s = true) : ∃ q t : Nat, zPs s args ("LinkHouseModel", 466, 6, zby108) q t := by
  obtain ⟨adK, adV, hS, hev⟩ := vk_Sof (N := 1) (tm := fun _ => Term.string "LinkHouseModel" 466) (len := [6]) (byt := [zby108]) (args := args) (s := s) (A := fun q => s.heap.size ≤ q) (fun i hi => by rw [show i = 0 by omega]; decide) (fun i _ => (za1 (za1 (za2 (za2 (za1 (za2 (za2 (za1 (za1 (za2 h))))))))))) (fun i _ => (za2 (za1 (za2 (za2 (za1 (za2 (za2 (za1 (za1 (za2 h))))))))))) (fun i _ => (za1 (za2 (za2 (za2 (za1 (za2 (za2 (za1 (za1 (za2 h))))))))))) (fun i hi => by rw [show i = 0 by omega]; exact (za2 (za2 (za2 (za2 (za1 (za2 (za2 (za1 (za1 (za2 h))))))))))) (fun i hi j hj => by rw [show i = 0 by omega] at hj ⊢; exact zels108 h j hj) (fun i j hi hj hne => absurd (show i = j by omega) hne) (fun a h => Nat.not_le.mpr h)
  obtain ⟨h1, h2, h3, h4⟩ := hS.1 0 (by decide)
  exact ⟨adK 0, adV 0, hev 0 (by decide), h1, h2, h3, h4⟩
def zby110 : List Int32 := [116, 104, 114, 111, 119]
set_option maxRecDepth 20000 in
theorem zels110 {args : Array Value} {s : State} (h : narrow_1.before args s = true) : ∀ j, j < 5 → (Cond.eq (.elem (Term.field (Term.string "LinkHouseModel" 468) "java/lang/String" "value" "[B") (.int (Int32.ofNat j))) (.int (zby110.getD j 0))).before args s = true := by
  refine z_step ?_ (za1 (za2 (za2 (za2 (za2 (za2 (za2 (za1 (za1 (za2 h))))))))))
  refine z_step ?_ (za2 (za1 (za2 (za2 (za2 (za2 (za2 (za1 (za1 (za2 h))))))))))
  refine z_step ?_ (za1 (za1 (za2 (za2 (za2 (za2 (za2 (za1 (za1 (za2 h))))))))))
  refine z_step ?_ (za2 (za2 (za1 (za2 (za2 (za2 (za2 (za1 (za1 (za2 h))))))))))
  refine z_step ?_ (za1 (za2 (za1 (za2 (za2 (za2 (za2 (za1 (za1 (za2 h))))))))))
  exact fun j hj => absurd hj (Nat.not_lt_zero _)
theorem zstr110 {args : Array Value} {s : State} (h : narrow_1.before args s = true) : ∃ q t : Nat, zPs s args ("LinkHouseModel", 468, 5, zby110) q t := by
  obtain ⟨adK, adV, hS, hev⟩ := vk_Sof (N := 1) (tm := fun _ => Term.string "LinkHouseModel" 468) (len := [5]) (byt := [zby110]) (args := args) (s := s) (A := fun q => s.heap.size ≤ q) (fun i hi => by rw [show i = 0 by omega]; decide) (fun i _ => (za1 (za2 (za2 (za1 (za2 (za2 (za2 (za1 (za1 (za2 h))))))))))) (fun i _ => (za2 (za2 (za2 (za1 (za2 (za2 (za2 (za1 (za1 (za2 h))))))))))) (fun i _ => (za1 (za1 (za1 (za2 (za2 (za2 (za2 (za1 (za1 (za2 h))))))))))) (fun i hi => by rw [show i = 0 by omega]; exact (za2 (za1 (za1 (za2 (za2 (za2 (za2 (za1 (za1 (za2 h))))))))))) (fun i hi j hj => by rw [show i = 0 by omega] at hj ⊢; exact zels110 h j hj) (fun i j hi hj hne => absurd (show i = j by omega) hne) (fun a h => Nat.not_le.mpr h)
  obtain ⟨h1, h2, h3, h4⟩ := hS.1 0 (by decide)
  exact ⟨adK 0, adV 0, hev 0 (by decide), h1, h2, h3, h4⟩
def zby112 : List Int32 := [116, 114, 121]
set_option maxRecDepth 20000 in
theorem zels112 {args : Array Value} {s : State} (h : narrow_1.before args s = true) : ∀ j, j < 3 → (Cond.eq (.elem (Term.field (Term.string "LinkHouseModel" 470) "java/lang/String" "value" "[B") (.int (Int32.ofNat j))) (.int (zby112.getD j 0))).before args s = true := by
  refine z_step ?_ (za1 (za2 (za2 (za1 (za1 (za1 (za1 (za2 (za1 (za2 h))))))))))
  refine z_step ?_ (za2 (za1 (za2 (za1 (za1 (za1 (za1 (za2 (za1 (za2 h))))))))))
  refine z_step ?_ (za1 (za1 (za2 (za1 (za1 (za1 (za1 (za2 (za1 (za2 h))))))))))
  exact fun j hj => absurd hj (Nat.not_lt_zero _)
theorem zstr112 {args : Array Value} {s : State} (h : narrow_1.before args s = true) : ∃ q t : Nat, zPs s args ("LinkHouseModel", 470, 3, zby112) q t := by
  obtain ⟨adK, adV, hS, hev⟩ := vk_Sof (N := 1) (tm := fun _ => Term.string "LinkHouseModel" 470) (len := [3]) (byt := [zby112]) (args := args) (s := s) (A := fun q => s.heap.size ≤ q) (fun i hi => by rw [show i = 0 by omega]; decide) (fun i _ => (za2 (za2 (za2 (za2 (za2 (za2 (za2 (za1 (za1 (za2 h))))))))))) (fun i _ => (za1 (za1 (za1 (za1 (za1 (za1 (za2 (za1 (za2 h)))))))))) (fun i _ => (za1 (za2 (za1 (za1 (za1 (za1 (za1 (za2 (za1 (za2 h))))))))))) (fun i hi => by rw [show i = 0 by omega]; exact (za2 (za2 (za1 (za1 (za1 (za1 (za1 (za2 (za1 (za2 h))))))))))) (fun i hi j hj => by rw [show i = 0 by omega] at hj ⊢; exact zels112 h j hj) (fun i j hi hj hne => absurd (show i = j by omega) hne) (fun a h => Nat.not_le.mpr h)
  obtain ⟨h1, h2, h3, h4⟩ := hS.1 0 (by decide)
  exact ⟨adK 0, adV 0, hev 0 (by decide), h1, h2, h3, h4⟩
def zby114 : List Int32 := [111, 117, 116]
set_option maxRecDepth 20000 in
theorem zels114 {args : Array Value} {s : State} (h : narrow_1.before args s = true) : ∀ j, j < 3 → (Cond.eq (.elem (Term.field (Term.string "LinkHouseModel" 472) "java/lang/String" "value" "[B") (.int (Int32.ofNat j))) (.int (zby114.getD j 0))).before args s = true := by
  refine z_step ?_ (za2 (za1 (za2 (za2 (za1 (za1 (za1 (za2 (za1 (za2 h))))))))))
  refine z_step ?_ (za1 (za1 (za2 (za2 (za1 (za1 (za1 (za2 (za1 (za2 h))))))))))
  refine z_step ?_ (za2 (za2 (za1 (za2 (za1 (za1 (za1 (za2 (za1 (za2 h))))))))))
  exact fun j hj => absurd hj (Nat.not_lt_zero _)
theorem zstr114 {args : Array Value} {s : State} (h : narrow_1.before args s = true) : ∃ q t : Nat, zPs s args ("LinkHouseModel", 472, 3, zby114) q t := by
  obtain ⟨adK, adV, hS, hev⟩ := vk_Sof (N := 1) (tm := fun _ => Term.string "LinkHouseModel" 472) (len := [3]) (byt := [zby114]) (args := args) (s := s) (A := fun q => s.heap.size ≤ q) (fun i hi => by rw [show i = 0 by omega]; decide) (fun i _ => (za2 (za2 (za2 (za1 (za1 (za1 (za1 (za2 (za1 (za2 h))))))))))) (fun i _ => (za1 (za1 (za1 (za2 (za1 (za1 (za1 (za2 (za1 (za2 h))))))))))) (fun i _ => (za2 (za1 (za1 (za2 (za1 (za1 (za1 (za2 (za1 (za2 h))))))))))) (fun i hi => by rw [show i = 0 by omega]; exact (za1 (za2 (za1 (za2 (za1 (za1 (za1 (za2 (za1 (za2 h))))))))))) (fun i hi j hj => by rw [show i = 0 by omega] at hj ⊢; exact zels114 h j hj) (fun i j hi hj hne => absurd (show i = j by omega) hne) (fun a h => Nat.not_le.mpr h)
  obtain ⟨h1, h2, h3, h4⟩ := hS.1 0 (by decide)
  exact ⟨adK 0, adV 0, hev 0 (by decide), h1, h2, h3, h4⟩
def zby116 : List Int32 := [101, 108, 115, 101]
set_option maxRecDepth 20000 in
theorem zels116 {args : Array Value} {s : State} (h : narrow_1.before args s = true) : ∀ j, j < 4 → (Cond.eq (.elem (Term.field (Term.string "LinkHouseModel" 486) "java/lang/String" "value" "[B") (.int (Int32.ofNat j))) (.int (zby116.getD j 0))).before args s = true := by
  refine z_step ?_ (za1 (za1 (za2 (za2 (za2 (za1 (za1 (za2 (za1 (za2 h))))))))))
  refine z_step ?_ (za2 (za2 (za1 (za2 (za2 (za1 (za1 (za2 (za1 (za2 h))))))))))
  refine z_step ?_ (za1 (za2 (za1 (za2 (za2 (za1 (za1 (za2 (za1 (za2 h))))))))))
  refine z_step ?_ (za2 (za1 (za1 (za2 (za2 (za1 (za1 (za2 (za1 (za2 h))))))))))
  exact fun j hj => absurd hj (Nat.not_lt_zero _)
theorem zstr116 {args : Array Value} {s : State} (h : narrow_1.before args s = true) : ∃ q t : Nat, zPs s args ("LinkHouseModel", 486, 4, zby116) q t := by
  obtain ⟨adK, adV, hS, hev⟩ := vk_Sof (N := 1) (tm := fun _ => Term.string "LinkHouseModel" 486) (len := [4]) (byt := [zby116]) (args := args) (s := s) (A := fun q => s.heap.size ≤ q) (fun i hi => by rw [show i = 0 by omega]; decide) (fun i _ => (za2 (za1 (za2 (za1 (za2 (za1 (za1 (za2 (za1 (za2 h))))))))))) (fun i _ => (za1 (za2 (za2 (za1 (za2 (za1 (za1 (za2 (za1 (za2 h))))))))))) (fun i _ => (za2 (za2 (za2 (za1 (za2 (za1 (za1 (za2 (za1 (za2 h))))))))))) (fun i hi => by rw [show i = 0 by omega]; exact (za1 (za1 (za1 (za2 (za2 (za1 (za1 (za2 (za1 (za2 h))))))))))) (fun i hi j hj => by rw [show i = 0 by omega] at hj ⊢; exact zels116 h j hj) (fun i j hi hj hne => absurd (show i = j by omega) hne) (fun a h => Nat.not_le.mpr h)
  obtain ⟨h1, h2, h3, h4⟩ := hS.1 0 (by decide)
  exact ⟨adK 0, adV 0, hev 0 (by decide), h1, h2, h3, h4⟩
def zby118 : List Int32 := [99, 97, 116, 99, 104]
set_option maxRecDepth 20000 in
theorem zels118 {args : Array Value} {s : State} (h : narrow_1.before args s = true) : ∀ j, j < 5 → (Cond.eq (.elem (Term.field (Term.string "LinkHouseModel" 500) "java/lang/String" "value" "[B") (.int (Int32.ofNat j))) (.int (zby118.getD j 0))).before args s = true := by
  refine z_step ?_ (za2 (za1 (za2 (za1 (za1 (za2 (za1 (za2 (za1 (za2 h))))))))))
  refine z_step ?_ (za1 (za1 (za2 (za1 (za1 (za2 (za1 (za2 (za1 (za2 h))))))))))
  refine z_step ?_ (za2 (za2 (za1 (za1 (za1 (za2 (za1 (za2 (za1 (za2 h))))))))))
  refine z_step ?_ (za1 (za2 (za1 (za1 (za1 (za2 (za1 (za2 (za1 (za2 h))))))))))
  refine z_step ?_ (za2 (za1 (za1 (za1 (za1 (za2 (za1 (za2 (za1 (za2 h))))))))))
  exact fun j hj => absurd hj (Nat.not_lt_zero _)
theorem zstr118 {args : Array Value} {s : State} (h : narrow_1.before args s = true) : ∃ q t : Nat, zPs s args ("LinkHouseModel", 500, 5, zby118) q t := by
  obtain ⟨adK, adV, hS, hev⟩ := vk_Sof (N := 1) (tm := fun _ => Term.string "LinkHouseModel" 500) (len := [5]) (byt := [zby118]) (args := args) (s := s) (A := fun q => s.heap.size ≤ q) (fun i hi => by rw [show i = 0 by omega]; decide) (fun i _ => (za2 (za1 (za2 (za2 (za2 (za1 (za1 (za2 (za1 (za2 h))))))))))) (fun i _ => (za1 (za2 (za2 (za2 (za2 (za1 (za1 (za2 (za1 (za2 h))))))))))) (fun i _ => (za2 (za2 (za2 (za2 (za2 (za1 (za1 (za2 (za1 (za2 h))))))))))) (fun i hi => by rw [show i = 0 by omega]; exact (za1 (za1 (za1 (za1 (za1 (za2 (za1 (za2 (za1 (za2 h))))))))))) (fun i hi j hj => by rw [show i = 0 by omega] at hj ⊢; exact zels118 h j hj) (fun i j hi hj hne => absurd (show i = j by omega) hne) (fun a h => Nat.not_le.mpr h)
  obtain ⟨h1, h2, h3, h4⟩ := hS.1 0 (by decide)
  exact ⟨adK 0, adV 0, hev 0 (by decide), h1, h2, h3, h4⟩
def zby120 : List Int32 := [97, 115, 107]
set_option maxRecDepth 20000 in
theorem zels120 {args : Array Value} {s : State} (h : narrow_1.before args s = true) : ∀ j, j < 3 → (Cond.eq (.elem (Term.field (Term.string "LinkHouseModel" 514) "java/lang/String" "value" "[B") (.int (Int32.ofNat j))) (.int (zby120.getD j 0))).before args s = true := by
  refine z_step ?_ (za1 (za1 (za2 (za1 (za2 (za1 (za1 (za2 (za1 (za2 h))))))))))
  refine z_step ?_ (za2 (za2 (za1 (za1 (za2 (za1 (za1 (za2 (za1 (za2 h))))))))))
  refine z_step ?_ (za1 (za2 (za1 (za1 (za2 (za1 (za1 (za2 (za1 (za2 h))))))))))
  exact fun j hj => absurd hj (Nat.not_lt_zero _)
theorem zstr120 {args : Array Value} {s : State} (h : narrow_1.before args s = true) : ∃ q t : Nat, zPs s args ("LinkHouseModel", 514, 3, zby120) q t := by
  obtain ⟨adK, adV, hS, hev⟩ := vk_Sof (N := 1) (tm := fun _ => Term.string "LinkHouseModel" 514) (len := [3]) (byt := [zby120]) (args := args) (s := s) (A := fun q => s.heap.size ≤ q) (fun i hi => by rw [show i = 0 by omega]; decide) (fun i _ => (za1 (za2 (za2 (za2 (za1 (za1 (za1 (za2 (za1 (za2 h))))))))))) (fun i _ => (za2 (za2 (za2 (za2 (za1 (za1 (za1 (za2 (za1 (za2 h))))))))))) (fun i _ => (za1 (za1 (za1 (za1 (za2 (za1 (za1 (za2 (za1 (za2 h))))))))))) (fun i hi => by rw [show i = 0 by omega]; exact (za2 (za1 (za1 (za1 (za2 (za1 (za1 (za2 (za1 (za2 h))))))))))) (fun i hi j hj => by rw [show i = 0 by omega] at hj ⊢; exact zels120 h j hj) (fun i j hi hj hne => absurd (show i = j by omega) hne) (fun a h => Nat.not_le.mpr h)
  obtain ⟨h1, h2, h3, h4⟩ := hS.1 0 (by decide)
  exact ⟨adK 0, adV 0, hev 0 (by decide), h1, h2, h3, h4⟩
def zby122 : List Int32 := [99, 111, 100, 101]
set_option maxRecDepth 20000 in
theorem zels122 {args : Array Value} {s : State} (h : narrow_1.before args s = true) : ∀ j, j < 4 → (Cond.eq (.elem (Term.field (Term.string "LinkHouseModel" 526) "java/lang/String" "value" "[B") (.int (Int32.ofNat j))) (.int (zby122.getD j 0))).before args s = true := by
  refine z_step ?_ (za1 (za2 (za2 (za2 (za2 (za2 (za2 (za2 (za2 (za2 h))))))))))
  refine z_step ?_ (za2 (za1 (za2 (za2 (za2 (za2 (za2 (za2 (za2 (za2 h))))))))))
  refine z_step ?_ (za1 (za1 (za2 (za2 (za2 (za2 (za2 (za2 (za2 (za2 h))))))))))
  refine z_step ?_ (za2 (za2 (za1 (za2 (za2 (za2 (za2 (za2 (za2 (za2 h))))))))))
  exact fun j hj => absurd hj (Nat.not_lt_zero _)
theorem zstr122 {args : Array Value} {s : State} (h : narrow_1.before args s = true) : ∃ q t : Nat, zPs s args ("LinkHouseModel", 526, 4, zby122) q t := by
  obtain ⟨adK, adV, hS, hev⟩ := vk_Sof (N := 1) (tm := fun _ => Term.string "LinkHouseModel" 526) (len := [4]) (byt := [zby122]) (args := args) (s := s) (A := fun q => s.heap.size ≤ q) (fun i hi => by rw [show i = 0 by omega]; decide) (fun i _ => (za2 (za2 (za2 (za1 (za2 (za2 (za2 (za2 (za2 (za2 h))))))))))) (fun i _ => (za1 (za1 (za1 (za2 (za2 (za2 (za2 (za2 (za2 (za2 h))))))))))) (fun i _ => (za2 (za1 (za1 (za2 (za2 (za2 (za2 (za2 (za2 (za2 h))))))))))) (fun i hi => by rw [show i = 0 by omega]; exact (za1 (za2 (za1 (za2 (za2 (za2 (za2 (za2 (za2 (za2 h))))))))))) (fun i hi j hj => by rw [show i = 0 by omega] at hj ⊢; exact zels122 h j hj) (fun i j hi hj hne => absurd (show i = j by omega) hne) (fun a h => Nat.not_le.mpr h)
  obtain ⟨h1, h2, h3, h4⟩ := hS.1 0 (by decide)
  exact ⟨adK 0, adV 0, hev 0 (by decide), h1, h2, h3, h4⟩
def zby124 : List Int32 := [44]
set_option maxRecDepth 20000 in
theorem zels124 {args : Array Value} {s : State} (h : narrow_1.before args s = true) : ∀ j, j < 1 → (Cond.eq (.elem (Term.field (Term.string "LinkHouseModel" 1013) "java/lang/String" "value" "[B") (.int (Int32.ofNat j))) (.int (zby124.getD j 0))).before args s = true := by
  refine z_step ?_ (za2 (za2 (za2 (za2 (za2 (za2 (za2 (za2 (za1 (za2 h))))))))))
  exact fun j hj => absurd hj (Nat.not_lt_zero _)
theorem zstr124 {args : Array Value} {s : State} (h : narrow_1.before args s = true) : ∃ q t : Nat, zPs s args ("LinkHouseModel", 1013, 1, zby124) q t := by
  obtain ⟨adK, adV, hS, hev⟩ := vk_Sof (N := 1) (tm := fun _ => Term.string "LinkHouseModel" 1013) (len := [1]) (byt := [zby124]) (args := args) (s := s) (A := fun q => s.heap.size ≤ q) (fun i hi => by rw [show i = 0 by omega]; decide) (fun i _ => (za2 (za2 (za1 (za2 (za2 (za2 (za2 (za2 (za1 (za2 h))))))))))) (fun i _ => (za1 (za1 (za2 (za2 (za2 (za2 (za2 (za2 (za1 (za2 h))))))))))) (fun i _ => (za2 (za1 (za2 (za2 (za2 (za2 (za2 (za2 (za1 (za2 h))))))))))) (fun i hi => by rw [show i = 0 by omega]; exact (za1 (za2 (za2 (za2 (za2 (za2 (za2 (za2 (za1 (za2 h))))))))))) (fun i hi j hj => by rw [show i = 0 by omega] at hj ⊢; exact zels124 h j hj) (fun i j hi hj hne => absurd (show i = j by omega) hne) (fun a h => Nat.not_le.mpr h)
  obtain ⟨h1, h2, h3, h4⟩ := hS.1 0 (by decide)
  exact ⟨adK 0, adV 0, hev 0 (by decide), h1, h2, h3, h4⟩
def zby126 : List Int32 := [111, 112, 101, 110, 32]
set_option maxRecDepth 20000 in
theorem zels126 {args : Array Value} {s : State} (h : narrow_1.before args s = true) : ∀ j, j < 5 → (Cond.eq (.elem (Term.field (Term.string "LinkHouseModel" 1018) "java/lang/String" "value" "[B") (.int (Int32.ofNat j))) (.int (zby126.getD j 0))).before args s = true := by
  refine z_step ?_ (za1 (za2 (za2 (za2 (za1 (za2 (za1 (za2 (za1 (za2 h))))))))))
  refine z_step ?_ (za2 (za1 (za2 (za2 (za1 (za2 (za1 (za2 (za1 (za2 h))))))))))
  refine z_step ?_ (za1 (za1 (za2 (za2 (za1 (za2 (za1 (za2 (za1 (za2 h))))))))))
  refine z_step ?_ (za2 (za2 (za1 (za2 (za1 (za2 (za1 (za2 (za1 (za2 h))))))))))
  refine z_step ?_ (za1 (za2 (za1 (za2 (za1 (za2 (za1 (za2 (za1 (za2 h))))))))))
  exact fun j hj => absurd hj (Nat.not_lt_zero _)
theorem zstr126 {args : Array Value} {s : State} (h : narrow_1.before args s = true) : ∃ q t : Nat, zPs s args ("LinkHouseModel", 1018, 5, zby126) q t := by
  obtain ⟨adK, adV, hS, hev⟩ := vk_Sof (N := 1) (tm := fun _ => Term.string "LinkHouseModel" 1018) (len := [5]) (byt := [zby126]) (args := args) (s := s) (A := fun q => s.heap.size ≤ q) (fun i hi => by rw [show i = 0 by omega]; decide) (fun i _ => (za1 (za2 (za2 (za1 (za1 (za2 (za1 (za2 (za1 (za2 h))))))))))) (fun i _ => (za2 (za2 (za2 (za1 (za1 (za2 (za1 (za2 (za1 (za2 h))))))))))) (fun i _ => (za1 (za1 (za1 (za2 (za1 (za2 (za1 (za2 (za1 (za2 h))))))))))) (fun i hi => by rw [show i = 0 by omega]; exact (za2 (za1 (za1 (za2 (za1 (za2 (za1 (za2 (za1 (za2 h))))))))))) (fun i hi j hj => by rw [show i = 0 by omega] at hj ⊢; exact zels126 h j hj) (fun i j hi hj hne => absurd (show i = j by omega) hne) (fun a h => Nat.not_le.mpr h)
  obtain ⟨h1, h2, h3, h4⟩ := hS.1 0 (by decide)
  exact ⟨adK 0, adV 0, hev 0 (by decide), h1, h2, h3, h4⟩
def zby128 : List Int32 := [102, 105, 110, 97, 108, 32, 99, 108, 97, 115, 115, 32]
set_option maxRecDepth 20000 in
theorem zels128 {args : Array Value} {s : State} (h : narrow_1.before args s = true) : ∀ j, j < 12 → (Cond.eq (.elem (Term.field (Term.string "LinkHouseModel" 1022) "java/lang/String" "value" "[B") (.int (Int32.ofNat j))) (.int (zby128.getD j 0))).before args s = true := by
  refine z_step ?_ (za1 (za1 (za2 (za1 (za1 (za1 (za2 (za2 (za1 (za2 h))))))))))
  refine z_step ?_ (za2 (za2 (za1 (za1 (za1 (za1 (za2 (za2 (za1 (za2 h))))))))))
  refine z_step ?_ (za1 (za2 (za1 (za1 (za1 (za1 (za2 (za2 (za1 (za2 h))))))))))
  refine z_step ?_ (za2 (za1 (za1 (za1 (za1 (za1 (za2 (za2 (za1 (za2 h))))))))))
  refine z_step ?_ (za1 (za1 (za1 (za1 (za1 (za1 (za2 (za2 (za1 (za2 h))))))))))
  refine z_step ?_ (za2 (za2 (za2 (za2 (za2 (za2 (za1 (za2 (za1 (za2 h))))))))))
  refine z_step ?_ (za1 (za2 (za2 (za2 (za2 (za2 (za1 (za2 (za1 (za2 h))))))))))
  refine z_step ?_ (za2 (za1 (za2 (za2 (za2 (za2 (za1 (za2 (za1 (za2 h))))))))))
  refine z_step ?_ (za1 (za1 (za2 (za2 (za2 (za2 (za1 (za2 (za1 (za2 h))))))))))
  refine z_step ?_ (za2 (za2 (za1 (za2 (za2 (za2 (za1 (za2 (za1 (za2 h))))))))))
  refine z_step ?_ (za1 (za2 (za1 (za2 (za2 (za2 (za1 (za2 (za1 (za2 h))))))))))
  refine z_step ?_ (za2 (za1 (za1 (za2 (za2 (za2 (za1 (za2 (za1 (za2 h))))))))))
  exact fun j hj => absurd hj (Nat.not_lt_zero _)
theorem zstr128 {args : Array Value} {s : State} (h : narrow_1.before args s = true) : ∃ q t : Nat, zPs s args ("LinkHouseModel", 1022, 12, zby128) q t := by
  obtain ⟨adK, adV, hS, hev⟩ := vk_Sof (N := 1) (tm := fun _ => Term.string "LinkHouseModel" 1022) (len := [12]) (byt := [zby128]) (args := args) (s := s) (A := fun q => s.heap.size ≤ q) (fun i hi => by rw [show i = 0 by omega]; decide) (fun i _ => (za2 (za1 (za2 (za1 (za2 (za2 (za1 (za2 (za1 (za2 h))))))))))) (fun i _ => (za1 (za2 (za2 (za1 (za2 (za2 (za1 (za2 (za1 (za2 h))))))))))) (fun i _ => (za2 (za2 (za2 (za1 (za2 (za2 (za1 (za2 (za1 (za2 h))))))))))) (fun i hi => by rw [show i = 0 by omega]; exact (za1 (za1 (za1 (za2 (za2 (za2 (za1 (za2 (za1 (za2 h))))))))))) (fun i hi j hj => by rw [show i = 0 by omega] at hj ⊢; exact zels128 h j hj) (fun i j hi hj hne => absurd (show i = j by omega) hne) (fun a h => Nat.not_le.mpr h)
  obtain ⟨h1, h2, h3, h4⟩ := hS.1 0 (by decide)
  exact ⟨adK 0, adV 0, hev 0 (by decide), h1, h2, h3, h4⟩
def zby130 : List Int32 := [32, 105, 115, 32]
set_option maxRecDepth 20000 in
theorem zels130 {args : Array Value} {s : State} (h : narrow_1.before args s = true) : ∀ j, j < 4 → (Cond.eq (.elem (Term.field (Term.string "LinkHouseModel" 1030) "java/lang/String" "value" "[B") (.int (Int32.ofNat j))) (.int (zby130.getD j 0))).before args s = true := by
  refine z_step ?_ (za1 (za1 (za1 (za1 (za2 (za2 (za2 (za2 (za1 (za2 h))))))))))
  refine z_step ?_ (za2 (za2 (za2 (za2 (za1 (za2 (za2 (za2 (za1 (za2 h))))))))))
  refine z_step ?_ (za1 (za2 (za2 (za2 (za1 (za2 (za2 (za2 (za1 (za2 h))))))))))
  refine z_step ?_ (za2 (za1 (za2 (za2 (za1 (za2 (za2 (za2 (za1 (za2 h))))))))))
  exact fun j hj => absurd hj (Nat.not_lt_zero _)
theorem zstr130 {args : Array Value} {s : State} (h : narrow_1.before args s = true) : ∃ q t : Nat, zPs s args ("LinkHouseModel", 1030, 4, zby130) q t := by
  obtain ⟨adK, adV, hS, hev⟩ := vk_Sof (N := 1) (tm := fun _ => Term.string "LinkHouseModel" 1030) (len := [4]) (byt := [zby130]) (args := args) (s := s) (A := fun q => s.heap.size ≤ q) (fun i hi => by rw [show i = 0 by omega]; decide) (fun i _ => (za2 (za1 (za1 (za2 (za1 (za2 (za2 (za2 (za1 (za2 h))))))))))) (fun i _ => (za1 (za2 (za1 (za2 (za1 (za2 (za2 (za2 (za1 (za2 h))))))))))) (fun i _ => (za2 (za2 (za1 (za2 (za1 (za2 (za2 (za2 (za1 (za2 h))))))))))) (fun i hi => by rw [show i = 0 by omega]; exact (za1 (za1 (za2 (za2 (za1 (za2 (za2 (za2 (za1 (za2 h))))))))))) (fun i hi j hj => by rw [show i = 0 by omega] at hj ⊢; exact zels130 h j hj) (fun i j hi hj hne => absurd (show i = j by omega) hne) (fun a h => Nat.not_le.mpr h)
  obtain ⟨h1, h2, h3, h4⟩ := hS.1 0 (by decide)
  exact ⟨adK 0, adV 0, hev 0 (by decide), h1, h2, h3, h4⟩
def zby132 : List Int32 := [32, 97, 115, 32]
set_option maxRecDepth 20000 in
theorem zels132 {args : Array Value} {s : State} (h : narrow_1.before args s = true) : ∀ j, j < 4 → (Cond.eq (.elem (Term.field (Term.string "LinkHouseModel" 1032) "java/lang/String" "value" "[B") (.int (Int32.ofNat j))) (.int (zby132.getD j 0))).before args s = true := by
  refine z_step ?_ (za2 (za1 (za1 (za2 (za2 (za2 (za2 (za2 (za1 (za2 h))))))))))
  refine z_step ?_ (za1 (za1 (za1 (za2 (za2 (za2 (za2 (za2 (za1 (za2 h))))))))))
  refine z_step ?_ (za2 (za2 (za2 (za1 (za2 (za2 (za2 (za2 (za1 (za2 h))))))))))
  refine z_step ?_ (za1 (za2 (za2 (za1 (za2 (za2 (za2 (za2 (za1 (za2 h))))))))))
  exact fun j hj => absurd hj (Nat.not_lt_zero _)
theorem zstr132 {args : Array Value} {s : State} (h : narrow_1.before args s = true) : ∃ q t : Nat, zPs s args ("LinkHouseModel", 1032, 4, zby132) q t := by
  obtain ⟨adK, adV, hS, hev⟩ := vk_Sof (N := 1) (tm := fun _ => Term.string "LinkHouseModel" 1032) (len := [4]) (byt := [zby132]) (args := args) (s := s) (A := fun q => s.heap.size ≤ q) (fun i hi => by rw [show i = 0 by omega]; decide) (fun i _ => (za1 (za2 (za1 (za1 (za2 (za2 (za2 (za2 (za1 (za2 h))))))))))) (fun i _ => (za2 (za2 (za1 (za1 (za2 (za2 (za2 (za2 (za1 (za2 h))))))))))) (fun i _ => (za1 (za1 (za2 (za1 (za2 (za2 (za2 (za2 (za1 (za2 h))))))))))) (fun i hi => by rw [show i = 0 by omega]; exact (za2 (za1 (za2 (za1 (za2 (za2 (za2 (za2 (za1 (za2 h))))))))))) (fun i hi j hj => by rw [show i = 0 by omega] at hj ⊢; exact zels132 h j hj) (fun i j hi hj hne => absurd (show i = j by omega) hne) (fun a h => Nat.not_le.mpr h)
  obtain ⟨h1, h2, h3, h4⟩ := hS.1 0 (by decide)
  exact ⟨adK 0, adV 0, hev 0 (by decide), h1, h2, h3, h4⟩
def zby134 : List Int32 := [32, 105, 110, 32]
set_option maxRecDepth 20000 in
theorem zels134 {args : Array Value} {s : State} (h : narrow_1.before args s = true) : ∀ j, j < 4 → (Cond.eq (.elem (Term.field (Term.string "LinkHouseModel" 1038) "java/lang/String" "value" "[B") (.int (Int32.ofNat j))) (.int (zby134.getD j 0))).before args s = true := by
  refine z_step ?_ (za2 (za1 (za1 (za2 (za1 (za1 (za1 (za1 (za2 (za2 h))))))))))
  refine z_step ?_ (za1 (za1 (za1 (za2 (za1 (za1 (za1 (za1 (za2 (za2 h))))))))))
  refine z_step ?_ (za2 (za2 (za2 (za1 (za1 (za1 (za1 (za1 (za2 (za2 h))))))))))
  refine z_step ?_ (za1 (za2 (za2 (za1 (za1 (za1 (za1 (za1 (za2 (za2 h))))))))))
  exact fun j hj => absurd hj (Nat.not_lt_zero _)
theorem zstr134 {args : Array Value} {s : State} (h : narrow_1.before args s = true) : ∃ q t : Nat, zPs s args ("LinkHouseModel", 1038, 4, zby134) q t := by
  obtain ⟨adK, adV, hS, hev⟩ := vk_Sof (N := 1) (tm := fun _ => Term.string "LinkHouseModel" 1038) (len := [4]) (byt := [zby134]) (args := args) (s := s) (A := fun q => s.heap.size ≤ q) (fun i hi => by rw [show i = 0 by omega]; decide) (fun i _ => (za1 (za2 (za1 (za1 (za1 (za1 (za1 (za1 (za2 (za2 h))))))))))) (fun i _ => (za2 (za2 (za1 (za1 (za1 (za1 (za1 (za1 (za2 (za2 h))))))))))) (fun i _ => (za1 (za1 (za2 (za1 (za1 (za1 (za1 (za1 (za2 (za2 h))))))))))) (fun i hi => by rw [show i = 0 by omega]; exact (za2 (za1 (za2 (za1 (za1 (za1 (za1 (za1 (za2 (za2 h))))))))))) (fun i hi j hj => by rw [show i = 0 by omega] at hj ⊢; exact zels134 h j hj) (fun i j hi hj hne => absurd (show i = j by omega) hne) (fun a h => Nat.not_le.mpr h)
  obtain ⟨h1, h2, h3, h4⟩ := hS.1 0 (by decide)
  exact ⟨adK 0, adV 0, hev 0 (by decide), h1, h2, h3, h4⟩
def zby136 : List Int32 := [32, 119, 105, 116, 104, 32]
set_option maxRecDepth 20000 in
theorem zels136 {args : Array Value} {s : State} (h : narrow_1.before args s = true) : ∀ j, j < 6 → (Cond.eq (.elem (Term.field (Term.string "LinkHouseModel" 1040) "java/lang/String" "value" "[B") (.int (Int32.ofNat j))) (.int (zby136.getD j 0))).before args s = true := by
  refine z_step ?_ (za1 (za1 (za2 (za1 (za2 (za1 (za1 (za1 (za2 (za2 h))))))))))
  refine z_step ?_ (za2 (za2 (za1 (za1 (za2 (za1 (za1 (za1 (za2 (za2 h))))))))))
  refine z_step ?_ (za1 (za2 (za1 (za1 (za2 (za1 (za1 (za1 (za2 (za2 h))))))))))
  refine z_step ?_ (za2 (za1 (za1 (za1 (za2 (za1 (za1 (za1 (za2 (za2 h))))))))))
  refine z_step ?_ (za1 (za1 (za1 (za1 (za2 (za1 (za1 (za1 (za2 (za2 h))))))))))
  refine z_step ?_ (za2 (za2 (za2 (za2 (za1 (za1 (za1 (za1 (za2 (za2 h))))))))))
  exact fun j hj => absurd hj (Nat.not_lt_zero _)
theorem zstr136 {args : Array Value} {s : State} (h : narrow_1.before args s = true) : ∃ q t : Nat, zPs s args ("LinkHouseModel", 1040, 6, zby136) q t := by
  obtain ⟨adK, adV, hS, hev⟩ := vk_Sof (N := 1) (tm := fun _ => Term.string "LinkHouseModel" 1040) (len := [6]) (byt := [zby136]) (args := args) (s := s) (A := fun q => s.heap.size ≤ q) (fun i hi => by rw [show i = 0 by omega]; decide) (fun i _ => (za2 (za2 (za1 (za2 (za1 (za1 (za1 (za1 (za2 (za2 h))))))))))) (fun i _ => (za1 (za1 (za2 (za2 (za1 (za1 (za1 (za1 (za2 (za2 h))))))))))) (fun i _ => (za2 (za1 (za2 (za2 (za1 (za1 (za1 (za1 (za2 (za2 h))))))))))) (fun i hi => by rw [show i = 0 by omega]; exact (za1 (za2 (za2 (za2 (za1 (za1 (za1 (za1 (za2 (za2 h))))))))))) (fun i hi j hj => by rw [show i = 0 by omega] at hj ⊢; exact zels136 h j hj) (fun i j hi hj hne => absurd (show i = j by omega) hne) (fun a h => Nat.not_le.mpr h)
  obtain ⟨h1, h2, h3, h4⟩ := hS.1 0 (by decide)
  exact ⟨adK 0, adV 0, hev 0 (by decide), h1, h2, h3, h4⟩
def zby138 : List Int32 := [32, 111, 110, 108, 121, 32]
set_option maxRecDepth 20000 in
theorem zels138 {args : Array Value} {s : State} (h : narrow_1.before args s = true) : ∀ j, j < 6 → (Cond.eq (.elem (Term.field (Term.string "LinkHouseModel" 1042) "java/lang/String" "value" "[B") (.int (Int32.ofNat j))) (.int (zby138.getD j 0))).before args s = true := by
  refine z_step ?_ (za2 (za2 (za2 (za2 (za2 (za1 (za1 (za1 (za2 (za2 h))))))))))
  refine z_step ?_ (za1 (za2 (za2 (za2 (za2 (za1 (za1 (za1 (za2 (za2 h))))))))))
  refine z_step ?_ (za2 (za1 (za2 (za2 (za2 (za1 (za1 (za1 (za2 (za2 h))))))))))
  refine z_step ?_ (za1 (za1 (za2 (za2 (za2 (za1 (za1 (za1 (za2 (za2 h))))))))))
  refine z_step ?_ (za2 (za2 (za1 (za2 (za2 (za1 (za1 (za1 (za2 (za2 h))))))))))
  refine z_step ?_ (za1 (za2 (za1 (za2 (za2 (za1 (za1 (za1 (za2 (za2 h))))))))))
  exact fun j hj => absurd hj (Nat.not_lt_zero _)
theorem zstr138 {args : Array Value} {s : State} (h : narrow_1.before args s = true) : ∃ q t : Nat, zPs s args ("LinkHouseModel", 1042, 6, zby138) q t := by
  obtain ⟨adK, adV, hS, hev⟩ := vk_Sof (N := 1) (tm := fun _ => Term.string "LinkHouseModel" 1042) (len := [6]) (byt := [zby138]) (args := args) (s := s) (A := fun q => s.heap.size ≤ q) (fun i hi => by rw [show i = 0 by omega]; decide) (fun i _ => (za1 (za2 (za2 (za1 (za2 (za1 (za1 (za1 (za2 (za2 h))))))))))) (fun i _ => (za2 (za2 (za2 (za1 (za2 (za1 (za1 (za1 (za2 (za2 h))))))))))) (fun i _ => (za1 (za1 (za1 (za2 (za2 (za1 (za1 (za1 (za2 (za2 h))))))))))) (fun i hi => by rw [show i = 0 by omega]; exact (za2 (za1 (za1 (za2 (za2 (za1 (za1 (za1 (za2 (za2 h))))))))))) (fun i hi j hj => by rw [show i = 0 by omega] at hj ⊢; exact zels138 h j hj) (fun i j hi hj hne => absurd (show i = j by omega) hne) (fun a h => Nat.not_le.mpr h)
  obtain ⟨h1, h2, h3, h4⟩ := hS.1 0 (by decide)
  exact ⟨adK 0, adV 0, hev 0 (by decide), h1, h2, h3, h4⟩
def zby140 : List Int32 := [98, 97, 114, 101, 32, 99, 108, 97, 115, 115, 32]
set_option maxRecDepth 20000 in
theorem zels140 {args : Array Value} {s : State} (h : narrow_1.before args s = true) : ∀ j, j < 11 → (Cond.eq (.elem (Term.field (Term.string "LinkHouseModel" 1024) "java/lang/String" "value" "[B") (.int (Int32.ofNat j))) (.int (zby140.getD j 0))).before args s = true := by
  refine z_step ?_ (za2 (za2 (za1 (za1 (za2 (za1 (za2 (za2 (za1 (za2 h))))))))))
  refine z_step ?_ (za1 (za2 (za1 (za1 (za2 (za1 (za2 (za2 (za1 (za2 h))))))))))
  refine z_step ?_ (za2 (za1 (za1 (za1 (za2 (za1 (za2 (za2 (za1 (za2 h))))))))))
  refine z_step ?_ (za1 (za1 (za1 (za1 (za2 (za1 (za2 (za2 (za1 (za2 h))))))))))
  refine z_step ?_ (za2 (za2 (za2 (za2 (za1 (za1 (za2 (za2 (za1 (za2 h))))))))))
  refine z_step ?_ (za1 (za2 (za2 (za2 (za1 (za1 (za2 (za2 (za1 (za2 h))))))))))
  refine z_step ?_ (za2 (za1 (za2 (za2 (za1 (za1 (za2 (za2 (za1 (za2 h))))))))))
  refine z_step ?_ (za1 (za1 (za2 (za2 (za1 (za1 (za2 (za2 (za1 (za2 h))))))))))
  refine z_step ?_ (za2 (za2 (za1 (za2 (za1 (za1 (za2 (za2 (za1 (za2 h))))))))))
  refine z_step ?_ (za1 (za2 (za1 (za2 (za1 (za1 (za2 (za2 (za1 (za2 h))))))))))
  refine z_step ?_ (za2 (za1 (za1 (za2 (za1 (za1 (za2 (za2 (za1 (za2 h))))))))))
  exact fun j hj => absurd hj (Nat.not_lt_zero _)
theorem zstr140 {args : Array Value} {s : State} (h : narrow_1.before args s = true) : ∃ q t : Nat, zPs s args ("LinkHouseModel", 1024, 11, zby140) q t := by
  obtain ⟨adK, adV, hS, hev⟩ := vk_Sof (N := 1) (tm := fun _ => Term.string "LinkHouseModel" 1024) (len := [11]) (byt := [zby140]) (args := args) (s := s) (A := fun q => s.heap.size ≤ q) (fun i hi => by rw [show i = 0 by omega]; decide) (fun i _ => (za2 (za1 (za2 (za1 (za1 (za1 (za2 (za2 (za1 (za2 h))))))))))) (fun i _ => (za1 (za2 (za2 (za1 (za1 (za1 (za2 (za2 (za1 (za2 h))))))))))) (fun i _ => (za2 (za2 (za2 (za1 (za1 (za1 (za2 (za2 (za1 (za2 h))))))))))) (fun i hi => by rw [show i = 0 by omega]; exact (za1 (za1 (za1 (za2 (za1 (za1 (za2 (za2 (za1 (za2 h))))))))))) (fun i hi j hj => by rw [show i = 0 by omega] at hj ⊢; exact zels140 h j hj) (fun i j hi hj hne => absurd (show i = j by omega) hne) (fun a h => Nat.not_le.mpr h)
  obtain ⟨h1, h2, h3, h4⟩ := hS.1 0 (by decide)
  exact ⟨adK 0, adV 0, hev 0 (by decide), h1, h2, h3, h4⟩
def zby142 : List Int32 := [102, 97, 99, 101, 32]
set_option maxRecDepth 20000 in
theorem zels142 {args : Array Value} {s : State} (h : narrow_1.before args s = true) : ∀ j, j < 5 → (Cond.eq (.elem (Term.field (Term.string "LinkHouseModel" 1026) "java/lang/String" "value" "[B") (.int (Int32.ofNat j))) (.int (zby142.getD j 0))).before args s = true := by
  refine z_step ?_ (za1 (za1 (za2 (za2 (za2 (za1 (za2 (za2 (za1 (za2 h))))))))))
  refine z_step ?_ (za2 (za2 (za1 (za2 (za2 (za1 (za2 (za2 (za1 (za2 h))))))))))
  refine z_step ?_ (za1 (za2 (za1 (za2 (za2 (za1 (za2 (za2 (za1 (za2 h))))))))))
  refine z_step ?_ (za2 (za1 (za1 (za2 (za2 (za1 (za2 (za2 (za1 (za2 h))))))))))
  refine z_step ?_ (za1 (za1 (za1 (za2 (za2 (za1 (za2 (za2 (za1 (za2 h))))))))))
  exact fun j hj => absurd hj (Nat.not_lt_zero _)
theorem zstr142 {args : Array Value} {s : State} (h : narrow_1.before args s = true) : ∃ q t : Nat, zPs s args ("LinkHouseModel", 1026, 5, zby142) q t := by
  obtain ⟨adK, adV, hS, hev⟩ := vk_Sof (N := 1) (tm := fun _ => Term.string "LinkHouseModel" 1026) (len := [5]) (byt := [zby142]) (args := args) (s := s) (A := fun q => s.heap.size ≤ q) (fun i hi => by rw [show i = 0 by omega]; decide) (fun i _ => (za1 (za1 (za2 (za1 (za2 (za1 (za2 (za2 (za1 (za2 h))))))))))) (fun i _ => (za2 (za1 (za2 (za1 (za2 (za1 (za2 (za2 (za1 (za2 h))))))))))) (fun i _ => (za1 (za2 (za2 (za1 (za2 (za1 (za2 (za2 (za1 (za2 h))))))))))) (fun i hi => by rw [show i = 0 by omega]; exact (za2 (za2 (za2 (za1 (za2 (za1 (za2 (za2 (za1 (za2 h))))))))))) (fun i hi j hj => by rw [show i = 0 by omega] at hj ⊢; exact zels142 h j hj) (fun i j hi hj hne => absurd (show i = j by omega) hne) (fun a h => Nat.not_le.mpr h)
  obtain ⟨h1, h2, h3, h4⟩ := hS.1 0 (by decide)
  exact ⟨adK 0, adV 0, hev 0 (by decide), h1, h2, h3, h4⟩
def zby144 : List Int32 := [99, 108, 97, 115, 115, 32]
set_option maxRecDepth 20000 in
theorem zels144 {args : Array Value} {s : State} (h : narrow_1.before args s = true) : ∀ j, j < 6 → (Cond.eq (.elem (Term.field (Term.string "LinkHouseModel" 1028) "java/lang/String" "value" "[B") (.int (Int32.ofNat j))) (.int (zby144.getD j 0))).before args s = true := by
  refine z_step ?_ (za2 (za2 (za2 (za1 (za1 (za2 (za2 (za2 (za1 (za2 h))))))))))
  refine z_step ?_ (za1 (za2 (za2 (za1 (za1 (za2 (za2 (za2 (za1 (za2 h))))))))))
  refine z_step ?_ (za2 (za1 (za2 (za1 (za1 (za2 (za2 (za2 (za1 (za2 h))))))))))
  refine z_step ?_ (za1 (za1 (za2 (za1 (za1 (za2 (za2 (za2 (za1 (za2 h))))))))))
  refine z_step ?_ (za2 (za2 (za1 (za1 (za1 (za2 (za2 (za2 (za1 (za2 h))))))))))
  refine z_step ?_ (za1 (za2 (za1 (za1 (za1 (za2 (za2 (za2 (za1 (za2 h))))))))))
  exact fun j hj => absurd hj (Nat.not_lt_zero _)
theorem zstr144 {args : Array Value} {s : State} (h : narrow_1.before args s = true) : ∃ q t : Nat, zPs s args ("LinkHouseModel", 1028, 6, zby144) q t := by
  obtain ⟨adK, adV, hS, hev⟩ := vk_Sof (N := 1) (tm := fun _ => Term.string "LinkHouseModel" 1028) (len := [6]) (byt := [zby144]) (args := args) (s := s) (A := fun q => s.heap.size ≤ q) (fun i hi => by rw [show i = 0 by omega]; decide) (fun i _ => (za1 (za2 (za2 (za2 (za2 (za1 (za2 (za2 (za1 (za2 h))))))))))) (fun i _ => (za2 (za2 (za2 (za2 (za2 (za1 (za2 (za2 (za1 (za2 h))))))))))) (fun i _ => (za1 (za1 (za1 (za1 (za1 (za2 (za2 (za2 (za1 (za2 h))))))))))) (fun i hi => by rw [show i = 0 by omega]; exact (za2 (za1 (za1 (za1 (za1 (za2 (za2 (za2 (za1 (za2 h))))))))))) (fun i hi j hj => by rw [show i = 0 by omega] at hj ⊢; exact zels144 h j hj) (fun i j hi hj hne => absurd (show i = j by omega) hne) (fun a h => Nat.not_le.mpr h)
  obtain ⟨h1, h2, h3, h4⟩ := hS.1 0 (by decide)
  exact ⟨adK 0, adV 0, hev 0 (by decide), h1, h2, h3, h4⟩
def zby146 : List Int32 := []
set_option maxRecDepth 20000 in
theorem zels146 {args : Array Value} {s : State} (h : narrow_1.before args s = true) : ∀ j, j < 0 → (Cond.eq (.elem (Term.field (Term.string "LinkHouseModel" 1020) "java/lang/String" "value" "[B") (.int (Int32.ofNat j))) (.int (zby146.getD j 0))).before args s = true := by
  exact fun j hj => absurd hj (Nat.not_lt_zero _)
theorem zstr146 {args : Array Value} {s : State} (h : narrow_1.before args s = true) : ∃ q t : Nat, zPs s args ("LinkHouseModel", 1020, 0, zby146) q t := by
  obtain ⟨adK, adV, hS, hev⟩ := vk_Sof (N := 1) (tm := fun _ => Term.string "LinkHouseModel" 1020) (len := [0]) (byt := [zby146]) (args := args) (s := s) (A := fun q => s.heap.size ≤ q) (fun i hi => by rw [show i = 0 by omega]; decide) (fun i _ => (za1 (za1 (za1 (za1 (za2 (za2 (za1 (za2 (za1 (za2 h))))))))))) (fun i _ => (za2 (za1 (za1 (za1 (za2 (za2 (za1 (za2 (za1 (za2 h))))))))))) (fun i _ => (za1 (za2 (za1 (za1 (za2 (za2 (za1 (za2 (za1 (za2 h))))))))))) (fun i hi => by rw [show i = 0 by omega]; exact (za2 (za2 (za1 (za1 (za2 (za2 (za1 (za2 (za1 (za2 h))))))))))) (fun i hi j hj => by rw [show i = 0 by omega] at hj ⊢; exact zels146 h j hj) (fun i j hi hj hne => absurd (show i = j by omega) hne) (fun a h => Nat.not_le.mpr h)
  obtain ⟨h1, h2, h3, h4⟩ := hS.1 0 (by decide)
  exact ⟨adK 0, adV 0, hev 0 (by decide), h1, h2, h3, h4⟩
def zby148 : List Int32 := [98, 114, 105, 100, 103, 101, 32]
set_option maxRecDepth 20000 in
theorem zels148 {args : Array Value} {s : State} (h : narrow_1.before args s = true) : ∀ j, j < 7 → (Cond.eq (.elem (Term.field (Term.string "LinkHouseModel" 1044) "java/lang/String" "value" "[B") (.int (Int32.ofNat j))) (.int (zby148.getD j 0))).before args s = true := by
  refine z_step ?_ (za2 (za2 (za1 (za2 (za1 (za2 (za1 (za1 (za2 (za2 h))))))))))
  refine z_step ?_ (za1 (za2 (za1 (za2 (za1 (za2 (za1 (za1 (za2 (za2 h))))))))))
  refine z_step ?_ (za2 (za1 (za1 (za2 (za1 (za2 (za1 (za1 (za2 (za2 h))))))))))
  refine z_step ?_ (za1 (za1 (za1 (za2 (za1 (za2 (za1 (za1 (za2 (za2 h))))))))))
  refine z_step ?_ (za2 (za2 (za2 (za1 (za1 (za2 (za1 (za1 (za2 (za2 h))))))))))
  refine z_step ?_ (za1 (za2 (za2 (za1 (za1 (za2 (za1 (za1 (za2 (za2 h))))))))))
  refine z_step ?_ (za2 (za1 (za2 (za1 (za1 (za2 (za1 (za1 (za2 (za2 h))))))))))
  exact fun j hj => absurd hj (Nat.not_lt_zero _)
theorem zstr148 {args : Array Value} {s : State} (h : narrow_1.before args s = true) : ∃ q t : Nat, zPs s args ("LinkHouseModel", 1044, 7, zby148) q t := by
  obtain ⟨adK, adV, hS, hev⟩ := vk_Sof (N := 1) (tm := fun _ => Term.string "LinkHouseModel" 1044) (len := [7]) (byt := [zby148]) (args := args) (s := s) (A := fun q => s.heap.size ≤ q) (fun i hi => by rw [show i = 0 by omega]; decide) (fun i _ => (za2 (za1 (za1 (za1 (za1 (za2 (za1 (za1 (za2 (za2 h))))))))))) (fun i _ => (za1 (za2 (za1 (za1 (za1 (za2 (za1 (za1 (za2 (za2 h))))))))))) (fun i _ => (za2 (za2 (za1 (za1 (za1 (za2 (za1 (za1 (za2 (za2 h))))))))))) (fun i hi => by rw [show i = 0 by omega]; exact (za1 (za1 (za2 (za1 (za1 (za2 (za1 (za1 (za2 (za2 h))))))))))) (fun i hi j hj => by rw [show i = 0 by omega] at hj ⊢; exact zels148 h j hj) (fun i j hi hj hne => absurd (show i = j by omega) hne) (fun a h => Nat.not_le.mpr h)
  obtain ⟨h1, h2, h3, h4⟩ := hS.1 0 (by decide)
  exact ⟨adK 0, adV 0, hev 0 (by decide), h1, h2, h3, h4⟩
def zby150 : List Int32 := [115, 116, 97, 116, 105, 99, 32]
set_option maxRecDepth 20000 in
theorem zels150 {args : Array Value} {s : State} (h : narrow_1.before args s = true) : ∀ j, j < 7 → (Cond.eq (.elem (Term.field (Term.string "LinkHouseModel" 1050) "java/lang/String" "value" "[B") (.int (Int32.ofNat j))) (.int (zby150.getD j 0))).before args s = true := by
  refine z_step ?_ (za2 (za1 (za1 (za2 (za1 (za1 (za2 (za1 (za2 (za2 h))))))))))
  refine z_step ?_ (za1 (za1 (za1 (za2 (za1 (za1 (za2 (za1 (za2 (za2 h))))))))))
  refine z_step ?_ (za2 (za2 (za2 (za1 (za1 (za1 (za2 (za1 (za2 (za2 h))))))))))
  refine z_step ?_ (za1 (za2 (za2 (za1 (za1 (za1 (za2 (za1 (za2 (za2 h))))))))))
  refine z_step ?_ (za2 (za1 (za2 (za1 (za1 (za1 (za2 (za1 (za2 (za2 h))))))))))
  refine z_step ?_ (za1 (za1 (za2 (za1 (za1 (za1 (za2 (za1 (za2 (za2 h))))))))))
  refine z_step ?_ (za2 (za2 (za1 (za1 (za1 (za1 (za2 (za1 (za2 (za2 h))))))))))
  exact fun j hj => absurd hj (Nat.not_lt_zero _)
theorem zstr150 {args : Array Value} {s : State} (h : narrow_1.before args s = true) : ∃ q t : Nat, zPs s args ("LinkHouseModel", 1050, 7, zby150) q t := by
  obtain ⟨adK, adV, hS, hev⟩ := vk_Sof (N := 1) (tm := fun _ => Term.string "LinkHouseModel" 1050) (len := [7]) (byt := [zby150]) (args := args) (s := s) (A := fun q => s.heap.size ≤ q) (fun i hi => by rw [show i = 0 by omega]; decide) (fun i _ => (za2 (za2 (za2 (za2 (za2 (za2 (za1 (za1 (za2 (za2 h))))))))))) (fun i _ => (za1 (za1 (za1 (za1 (za1 (za1 (za2 (za1 (za2 (za2 h))))))))))) (fun i _ => (za2 (za1 (za1 (za1 (za1 (za1 (za2 (za1 (za2 (za2 h))))))))))) (fun i hi => by rw [show i = 0 by omega]; exact (za1 (za2 (za1 (za1 (za1 (za1 (za2 (za1 (za2 (za2 h))))))))))) (fun i hi j hj => by rw [show i = 0 by omega] at hj ⊢; exact zels150 h j hj) (fun i j hi hj hne => absurd (show i = j by omega) hne) (fun a h => Nat.not_le.mpr h)
  obtain ⟨h1, h2, h3, h4⟩ := hS.1 0 (by decide)
  exact ⟨adK 0, adV 0, hev 0 (by decide), h1, h2, h3, h4⟩
def zby152 : List Int32 := [102, 105, 110, 97, 108, 32]
set_option maxRecDepth 20000 in
theorem zels152 {args : Array Value} {s : State} (h : narrow_1.before args s = true) : ∀ j, j < 6 → (Cond.eq (.elem (Term.field (Term.string "LinkHouseModel" 1052) "java/lang/String" "value" "[B") (.int (Int32.ofNat j))) (.int (zby152.getD j 0))).before args s = true := by
  refine z_step ?_ (za1 (za1 (za2 (za1 (za2 (za1 (za2 (za1 (za2 (za2 h))))))))))
  refine z_step ?_ (za2 (za2 (za1 (za1 (za2 (za1 (za2 (za1 (za2 (za2 h))))))))))
  refine z_step ?_ (za1 (za2 (za1 (za1 (za2 (za1 (za2 (za1 (za2 (za2 h))))))))))
  refine z_step ?_ (za2 (za1 (za1 (za1 (za2 (za1 (za2 (za1 (za2 (za2 h))))))))))
  refine z_step ?_ (za1 (za1 (za1 (za1 (za2 (za1 (za2 (za1 (za2 (za2 h))))))))))
  refine z_step ?_ (za2 (za2 (za2 (za2 (za1 (za1 (za2 (za1 (za2 (za2 h))))))))))
  exact fun j hj => absurd hj (Nat.not_lt_zero _)
theorem zstr152 {args : Array Value} {s : State} (h : narrow_1.before args s = true) : ∃ q t : Nat, zPs s args ("LinkHouseModel", 1052, 6, zby152) q t := by
  obtain ⟨adK, adV, hS, hev⟩ := vk_Sof (N := 1) (tm := fun _ => Term.string "LinkHouseModel" 1052) (len := [6]) (byt := [zby152]) (args := args) (s := s) (A := fun q => s.heap.size ≤ q) (fun i hi => by rw [show i = 0 by omega]; decide) (fun i _ => (za2 (za2 (za1 (za2 (za1 (za1 (za2 (za1 (za2 (za2 h))))))))))) (fun i _ => (za1 (za1 (za2 (za2 (za1 (za1 (za2 (za1 (za2 (za2 h))))))))))) (fun i _ => (za2 (za1 (za2 (za2 (za1 (za1 (za2 (za1 (za2 (za2 h))))))))))) (fun i hi => by rw [show i = 0 by omega]; exact (za1 (za2 (za2 (za2 (za1 (za1 (za2 (za1 (za2 (za2 h))))))))))) (fun i hi j hj => by rw [show i = 0 by omega] at hj ⊢; exact zels152 h j hj) (fun i j hi hj hne => absurd (show i = j by omega) hne) (fun a h => Nat.not_le.mpr h)
  obtain ⟨h1, h2, h3, h4⟩ := hS.1 0 (by decide)
  exact ⟨adK 0, adV 0, hev 0 (by decide), h1, h2, h3, h4⟩
def zby154 : List Int32 := [98, 97, 114, 101, 32]
set_option maxRecDepth 20000 in
theorem zels154 {args : Array Value} {s : State} (h : narrow_1.before args s = true) : ∀ j, j < 5 → (Cond.eq (.elem (Term.field (Term.string "LinkHouseModel" 1054) "java/lang/String" "value" "[B") (.int (Int32.ofNat j))) (.int (zby154.getD j 0))).before args s = true := by
  refine z_step ?_ (za1 (za2 (za2 (za2 (za2 (za1 (za2 (za1 (za2 (za2 h))))))))))
  refine z_step ?_ (za2 (za1 (za2 (za2 (za2 (za1 (za2 (za1 (za2 (za2 h))))))))))
  refine z_step ?_ (za1 (za1 (za2 (za2 (za2 (za1 (za2 (za1 (za2 (za2 h))))))))))
  refine z_step ?_ (za2 (za2 (za1 (za2 (za2 (za1 (za2 (za1 (za2 (za2 h))))))))))
  refine z_step ?_ (za1 (za2 (za1 (za2 (za2 (za1 (za2 (za1 (za2 (za2 h))))))))))
  exact fun j hj => absurd hj (Nat.not_lt_zero _)
theorem zstr154 {args : Array Value} {s : State} (h : narrow_1.before args s = true) : ∃ q t : Nat, zPs s args ("LinkHouseModel", 1054, 5, zby154) q t := by
  obtain ⟨adK, adV, hS, hev⟩ := vk_Sof (N := 1) (tm := fun _ => Term.string "LinkHouseModel" 1054) (len := [5]) (byt := [zby154]) (args := args) (s := s) (A := fun q => s.heap.size ≤ q) (fun i hi => by rw [show i = 0 by omega]; decide) (fun i _ => (za1 (za2 (za2 (za1 (za2 (za1 (za2 (za1 (za2 (za2 h))))))))))) (fun i _ => (za2 (za2 (za2 (za1 (za2 (za1 (za2 (za1 (za2 (za2 h))))))))))) (fun i _ => (za1 (za1 (za1 (za2 (za2 (za1 (za2 (za1 (za2 (za2 h))))))))))) (fun i hi => by rw [show i = 0 by omega]; exact (za2 (za1 (za1 (za2 (za2 (za1 (za2 (za1 (za2 (za2 h))))))))))) (fun i hi j hj => by rw [show i = 0 by omega] at hj ⊢; exact zels154 h j hj) (fun i j hi hj hne => absurd (show i = j by omega) hne) (fun a h => Nat.not_le.mpr h)
  obtain ⟨h1, h2, h3, h4⟩ := hS.1 0 (by decide)
  exact ⟨adK 0, adV 0, hev 0 (by decide), h1, h2, h3, h4⟩
def zby156 : List Int32 := [107, 105, 110, 32]
set_option maxRecDepth 20000 in
theorem zels156 {args : Array Value} {s : State} (h : narrow_1.before args s = true) : ∀ j, j < 4 → (Cond.eq (.elem (Term.field (Term.string "LinkHouseModel" 1046) "java/lang/String" "value" "[B") (.int (Int32.ofNat j))) (.int (zby156.getD j 0))).before args s = true := by
  refine z_step ?_ (za1 (za1 (za2 (za1 (za2 (za2 (za1 (za1 (za2 (za2 h))))))))))
  refine z_step ?_ (za2 (za2 (za1 (za1 (za2 (za2 (za1 (za1 (za2 (za2 h))))))))))
  refine z_step ?_ (za1 (za2 (za1 (za1 (za2 (za2 (za1 (za1 (za2 (za2 h))))))))))
  refine z_step ?_ (za2 (za1 (za1 (za1 (za2 (za2 (za1 (za1 (za2 (za2 h))))))))))
  exact fun j hj => absurd hj (Nat.not_lt_zero _)
theorem zstr156 {args : Array Value} {s : State} (h : narrow_1.before args s = true) : ∃ q t : Nat, zPs s args ("LinkHouseModel", 1046, 4, zby156) q t := by
  obtain ⟨adK, adV, hS, hev⟩ := vk_Sof (N := 1) (tm := fun _ => Term.string "LinkHouseModel" 1046) (len := [4]) (byt := [zby156]) (args := args) (s := s) (A := fun q => s.heap.size ≤ q) (fun i hi => by rw [show i = 0 by omega]; decide) (fun i _ => (za2 (za1 (za2 (za2 (za1 (za2 (za1 (za1 (za2 (za2 h))))))))))) (fun i _ => (za1 (za2 (za2 (za2 (za1 (za2 (za1 (za1 (za2 (za2 h))))))))))) (fun i _ => (za2 (za2 (za2 (za2 (za1 (za2 (za1 (za1 (za2 (za2 h))))))))))) (fun i hi => by rw [show i = 0 by omega]; exact (za1 (za1 (za1 (za1 (za2 (za2 (za1 (za1 (za2 (za2 h))))))))))) (fun i hi j hj => by rw [show i = 0 by omega] at hj ⊢; exact zels156 h j hj) (fun i j hi hj hne => absurd (show i = j by omega) hne) (fun a h => Nat.not_le.mpr h)
  obtain ⟨h1, h2, h3, h4⟩ := hS.1 0 (by decide)
  exact ⟨adK 0, adV 0, hev 0 (by decide), h1, h2, h3, h4⟩
def zby158 : List Int32 := [111, 119, 110, 32]
set_option maxRecDepth 20000 in
theorem zels158 {args : Array Value} {s : State} (h : narrow_1.before args s = true) : ∀ j, j < 4 → (Cond.eq (.elem (Term.field (Term.string "LinkHouseModel" 1048) "java/lang/String" "value" "[B") (.int (Int32.ofNat j))) (.int (zby158.getD j 0))).before args s = true := by
  refine z_step ?_ (za2 (za1 (za2 (za2 (za2 (za2 (za1 (za1 (za2 (za2 h))))))))))
  refine z_step ?_ (za1 (za1 (za2 (za2 (za2 (za2 (za1 (za1 (za2 (za2 h))))))))))
  refine z_step ?_ (za2 (za2 (za1 (za2 (za2 (za2 (za1 (za1 (za2 (za2 h))))))))))
  refine z_step ?_ (za1 (za2 (za1 (za2 (za2 (za2 (za1 (za1 (za2 (za2 h))))))))))
  exact fun j hj => absurd hj (Nat.not_lt_zero _)
theorem zstr158 {args : Array Value} {s : State} (h : narrow_1.before args s = true) : ∃ q t : Nat, zPs s args ("LinkHouseModel", 1048, 4, zby158) q t := by
  obtain ⟨adK, adV, hS, hev⟩ := vk_Sof (N := 1) (tm := fun _ => Term.string "LinkHouseModel" 1048) (len := [4]) (byt := [zby158]) (args := args) (s := s) (A := fun q => s.heap.size ≤ q) (fun i hi => by rw [show i = 0 by omega]; decide) (fun i _ => (za1 (za2 (za2 (za1 (za2 (za2 (za1 (za1 (za2 (za2 h))))))))))) (fun i _ => (za2 (za2 (za2 (za1 (za2 (za2 (za1 (za1 (za2 (za2 h))))))))))) (fun i _ => (za1 (za1 (za1 (za2 (za2 (za2 (za1 (za1 (za2 (za2 h))))))))))) (fun i hi => by rw [show i = 0 by omega]; exact (za2 (za1 (za1 (za2 (za2 (za2 (za1 (za1 (za2 (za2 h))))))))))) (fun i hi j hj => by rw [show i = 0 by omega] at hj ⊢; exact zels158 h j hj) (fun i j hi hj hne => absurd (show i = j by omega) hne) (fun a h => Nat.not_le.mpr h)
  obtain ⟨h1, h2, h3, h4⟩ := hS.1 0 (by decide)
  exact ⟨adK 0, adV 0, hev 0 (by decide), h1, h2, h3, h4⟩
theorem zcs {args : Array Value} {s : State} (h : narrow_1.before args s = true) : (Term.static "java/lang/String" "COMPACT_STRINGS" "Z").eval args s none [] s = some (.int 1) := va_eqt (za2 (za2 (za1 (za1 (za1 (za1 (za1 (za1 (za1 (za1 h))))))))))
theorem zsf {args : Array Value} {s : State} (h : narrow_1.before args s = true) : (Cond.isRef (.static "jdk/internal/util/Preconditions" "SIOOBE_FORMATTER" "Ljava/util/function/BiFunction;")).before args s = true := (za1 (za1 (za2 (za1 (za1 (za1 (za1 (za1 (za1 (za1 h))))))))))
def zbyG : List Int32 := [1, 2, 3, 5, 7, 9, 10, 13, 20, 21, 22, 23, 25, 30, 31, 32, 33, 35, 37, 41, 50, 51]
theorem zelsG {args : Array Value} {s : State} (h : narrow_1.before args s = true) : ∀ j, j < 22 → (Cond.eq (.elem (Term.static "LinkHouseModel" "GREAT" "[I") (.int (Int32.ofNat j))) (.int (zbyG.getD j 0))).before args s = true := by
  refine z_step ?_ (za1 (za1 (za1 (za1 (za1 (za2 (za1 (za1 (za1 (za1 h))))))))))
  refine z_step ?_ (za2 (za2 (za2 (za2 (za2 (za1 (za1 (za1 (za1 (za1 h))))))))))
  refine z_step ?_ (za1 (za2 (za2 (za2 (za2 (za1 (za1 (za1 (za1 (za1 h))))))))))
  refine z_step ?_ (za2 (za1 (za2 (za2 (za2 (za1 (za1 (za1 (za1 (za1 h))))))))))
  refine z_step ?_ (za1 (za1 (za2 (za2 (za2 (za1 (za1 (za1 (za1 (za1 h))))))))))
  refine z_step ?_ (za2 (za2 (za1 (za2 (za2 (za1 (za1 (za1 (za1 (za1 h))))))))))
  refine z_step ?_ (za1 (za2 (za1 (za2 (za2 (za1 (za1 (za1 (za1 (za1 h))))))))))
  refine z_step ?_ (za2 (za1 (za1 (za2 (za2 (za1 (za1 (za1 (za1 (za1 h))))))))))
  refine z_step ?_ (za1 (za1 (za1 (za2 (za2 (za1 (za1 (za1 (za1 (za1 h))))))))))
  refine z_step ?_ (za2 (za2 (za2 (za1 (za2 (za1 (za1 (za1 (za1 (za1 h))))))))))
  refine z_step ?_ (za1 (za2 (za2 (za1 (za2 (za1 (za1 (za1 (za1 (za1 h))))))))))
  refine z_step ?_ (za2 (za1 (za2 (za1 (za2 (za1 (za1 (za1 (za1 (za1 h))))))))))
  refine z_step ?_ (za1 (za1 (za2 (za1 (za2 (za1 (za1 (za1 (za1 (za1 h))))))))))
  refine z_step ?_ (za2 (za2 (za1 (za1 (za2 (za1 (za1 (za1 (za1 (za1 h))))))))))
  refine z_step ?_ (za1 (za2 (za1 (za1 (za2 (za1 (za1 (za1 (za1 (za1 h))))))))))
  refine z_step ?_ (za2 (za1 (za1 (za1 (za2 (za1 (za1 (za1 (za1 (za1 h))))))))))
  refine z_step ?_ (za1 (za1 (za1 (za1 (za2 (za1 (za1 (za1 (za1 (za1 h))))))))))
  refine z_step ?_ (za2 (za2 (za2 (za2 (za1 (za1 (za1 (za1 (za1 (za1 h))))))))))
  refine z_step ?_ (za1 (za2 (za2 (za2 (za1 (za1 (za1 (za1 (za1 (za1 h))))))))))
  refine z_step ?_ (za2 (za1 (za2 (za2 (za1 (za1 (za1 (za1 (za1 (za1 h))))))))))
  refine z_step ?_ (za1 (za1 (za2 (za2 (za1 (za1 (za1 (za1 (za1 (za1 h))))))))))
  refine z_step ?_ (za2 (za2 (za1 (za2 (za1 (za1 (za1 (za1 (za1 (za1 h))))))))))
  exact fun j hj => absurd hj (Nat.not_lt_zero _)
theorem zgreat {args : Array Value} {s : State} (h : narrow_1.before args s = true) : ∃ t : Nat, (Term.static "LinkHouseModel" "GREAT" "[I").eval args s none [] s = some (.ref t) ∧ va_T .int t 22 (fun j => .int (zbyG.getD j 0)) (fun q => s.heap.size ≤ q) s s.heap := va_Tof (by decide) (za2 (za1 (za1 (za2 (za1 (za1 (za1 (za1 (za1 (za1 h)))))))))) (va_eqt (za1 (za2 (za1 (za2 (za1 (za1 (za1 (za1 (za1 (za1 h))))))))))) (fun j hj => va_eqt (zelsG h j hj)) (fun a h => Nat.not_le.mpr h)

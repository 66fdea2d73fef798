def zq_id (b : Bool) : Bool := b
noncomputable def zq_l {α : Type} (q : α → α → Bool) (a : List α) : List α → Bool := List.rec (motive := fun _ => List α → Bool) (fun b => List.rec (motive := fun _ => Bool) true (fun _ _ _ => false) b) (fun x _ ih b => List.rec (motive := fun _ => Bool) false (fun y t _ => Bool.rec (motive := fun _ => Bool) false (zq_id (ih t)) (q x y)) b) a
theorem zq_l_ok {α : Type} {q : α → α → Bool} (h : ∀ x y, q x y = true → x = y) : ∀ a b : List α, zq_l q a b = true → a = b
  | [], [], _ => rfl
  | [], _ :: _, e => by cases e
  | _ :: _, [], e => by cases e
  | x :: a, y :: b, e => by
    have e : Bool.rec (motive := fun _ => Bool) false (zq_l q a b) (q x y) = true := e
    cases hq : q x y with
    | false => rw [hq] at e; cases e
    | true =>
      rw [hq] at e
      rw [h x y hq, zq_l_ok h a b e]
noncomputable def zq_p (x y : Nat × Nat) : Bool := Bool.rec (motive := fun _ => Bool) false (Nat.beq x.2 y.2) (Nat.beq x.1 y.1)
theorem zq_p_ok (x y : Nat × Nat) (h : zq_p x y = true) : x = y := by
  obtain ⟨a, b⟩ := x
  obtain ⟨c, d⟩ := y
  have h : Bool.rec (motive := fun _ => Bool) false (Nat.beq b d) (Nat.beq a c) = true := h
  cases hq : Nat.beq a c with
  | false => rw [hq] at h; cases h
  | true => rw [hq] at h; rw [rx_beq hq, rx_beq h]
noncomputable def zq_e (x y : rx_E) : Bool := Bool.rec (motive := fun _ => Bool) false (Bool.rec (motive := fun _ => Bool) false (Bool.rec (motive := fun _ => Bool) false (Bool.rec (motive := fun _ => Bool) false (zq_l zq_p x.2.2.2.2 y.2.2.2.2) (zq_l (zq_l Nat.beq) x.2.2.2.1 y.2.2.2.1)) (Nat.beq x.2.2.1 y.2.2.1)) (Nat.beq x.2.1 y.2.1)) (Nat.beq x.1 y.1)
theorem zq_and {a b : Bool} (h : Bool.rec (motive := fun _ => Bool) false b a = true) : a = true ∧ b = true := by cases a <;> simp_all
theorem zq_e_ok (x y : rx_E) (h : zq_e x y = true) : x = y := by
  obtain ⟨a, b, c, d, f⟩ := x
  obtain ⟨a', b', c', d', f'⟩ := y
  obtain ⟨h1, h⟩ := zq_and h
  obtain ⟨h2, h⟩ := zq_and h
  obtain ⟨h3, h⟩ := zq_and h
  obtain ⟨h4, h5⟩ := zq_and h
  have e1 := rx_beq h1
  have e2 := rx_beq h2
  have e3 := rx_beq h3
  have e4 := zq_l_ok (zq_l_ok (fun _ _ q => rx_beq q)) _ _ h4
  have e5 := zq_l_ok zq_p_ok _ _ h5
  dsimp only at e1 e2 e3 e4 e5
  rw [e1, e2, e3, e4, e5]
noncomputable def zq_t (x y : List (List (List (List (List rx_E))))) : Bool := zq_l (zq_l (zq_l (zq_l (zq_l zq_e)))) x y
theorem zq_t_ok (x y : List (List (List (List (List rx_E))))) (h : zq_t x y = true) : x = y := zq_l_ok (zq_l_ok (zq_l_ok (zq_l_ok (zq_l_ok zq_e_ok)))) x y h
-- a run ends so, and leaves this heap
noncomputable def zq_run (r n z : Nat) (t : List (List (List (List (List rx_E))))) (o : Option (Nat × rx_H)) : Bool := match o with
  | some (r', (n', z', iv, t')) => Bool.rec (motive := fun _ => Bool) false (Bool.rec (motive := fun _ => Bool) false (Bool.rec (motive := fun _ => Bool) false (Bool.rec (motive := fun _ => Bool) false (zq_t t' t) iv.isEmpty) (Nat.beq z' z)) (Nat.beq n' n)) (Nat.beq r' r)
  | none => false
theorem zq_run_ok {r n z : Nat} {t : List (List (List (List (List rx_E))))} {o : Option (Nat × rx_H)} (h : zq_run r n z t o = true) : o = some (r, (n, z, [], t)) := by
  cases o with
  | none => cases h
  | some q =>
    obtain ⟨r', n', z', iv, t'⟩ := q
    obtain ⟨h1, h⟩ := zq_and h
    obtain ⟨h2, h⟩ := zq_and h
    obtain ⟨h3, h⟩ := zq_and h
    obtain ⟨h4, h5⟩ := zq_and h
    rw [rx_beq h1, rx_beq h2, rx_beq h3, zq_t_ok _ _ h5]
    cases iv with
    | nil => rfl
    | cons a l => cases h4

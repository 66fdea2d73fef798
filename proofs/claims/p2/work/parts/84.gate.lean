def zq_id (b : Bool) : Bool := b
noncomputable def zq_l {α : Type} (q : α → α → Bool) (a : List α) : List α → Bool := List.rec (motive := fun _ => List α → Bool) (fun b => List.rec (motive := fun _ => Bool) true (fun _ _ _ => false) b) (fun x _ ih b => List.rec (motive := fun _ => Bool) false (fun y t _ => Bool.rec (motive := fun _ => Bool) false (zq_id (ih t)) (q x y)) b) a
theorem zq_l_ok {α : Type} {q : α → α → Bool} (h : ∀ x y, q x y = true → x = y) : ∀ a b : List α, zq_l q a b = true → a = b
  | [], [], _ => rfl
  | [], _ :: _, e => by cases e
  | _ :: _, [], e => by cases e
  | x :: a, y :: b, e => by
    have e : Bool.rec (motive := fun _ => Bool) false (zq_l q a b) (q x y) = true := e
    cases hq : q x y with
    | false => rw [hq] at e; cases e
    | true =>
      rw [hq] at e
      rw [h x y hq, zq_l_ok h a b e]
noncomputable def zq_p (x y : Nat × Nat) : Bool := Bool.rec (motive := fun _ => Bool) false (Nat.beq x.2 y.2) (Nat.beq x.1 y.1)
theorem zq_p_ok (x y : Nat × Nat) (h : zq_p x y = true) : x = y := by
  obtain ⟨a, b⟩ := x
  obtain ⟨c, d⟩ := y
  have h : Bool.rec (motive := fun _ => Bool) false (Nat.beq b d) (Nat.beq a c) = true := h
  cases hq : Nat.beq a c with
  | false => rw [hq] at h; cases h
  | true => rw [hq] at h; rw [rx_beq hq, rx_beq h]
noncomputable def zq_e (x y : rx_E) : Bool := Bool.rec (motive := fun _ => Bool) false (Bool.rec (motive := fun _ => Bool) false (Bool.rec (motive := fun _ => Bool) false (Bool.rec (motive := fun _ => Bool) false (zq_l zq_p x.2.2.2.2 y.2.2.2.2) (zq_l (zq_l Nat.beq) x.2.2.2.1 y.2.2.2.1)) (Nat.beq x.2.2.1 y.2.2.1)) (Nat.beq x.2.1 y.2.1)) (Nat.beq x.1 y.1)
theorem zq_and {a b : Bool} (h : Bool.rec (motive := fun _ => Bool) false b a = true) : a = true ∧ b = true := by cases a <;> simp_all
theorem zq_e_ok (x y : rx_E) (h : zq_e x y = true) : x = y := by
  obtain ⟨a, b, c, d, f⟩ := x
  obtain ⟨a', b', c', d', f'⟩ := y
  obtain ⟨h1, h⟩ := zq_and h
  obtain ⟨h2, h⟩ := zq_and h
  obtain ⟨h3, h⟩ := zq_and h
  obtain ⟨h4, h5⟩ := zq_and h
  have e1 := rx_beq h1
  have e2 := rx_beq h2
  have e3 := rx_beq h3
  have e4 := zq_l_ok (zq_l_ok (fun _ _ q => rx_beq q)) _ _ h4
  have e5 := zq_l_ok zq_p_ok _ _ h5
  dsimp only at e1 e2 e3 e4 e5
  rw [e1, e2, e3, e4, e5]
noncomputable def zq_t (x y : List (List (List (List (List rx_E))))) : Bool := zq_l (zq_l (zq_l (zq_l (zq_l zq_e)))) x y
theorem zq_t_ok (x y : List (List (List (List (List rx_E))))) (h : zq_t x y = true) : x = y := zq_l_ok (zq_l_ok (zq_l_ok (zq_l_ok (zq_l_ok zq_e_ok)))) x y h
-- a run ends so, and leaves this heap
noncomputable def zq_run (r n z : Nat) (t : List (List (List (List (List rx_E))))) (o : Option (Nat × rx_H)) : Bool := match o with
  | some (r', (n', z', iv, t')) => Bool.rec (motive := fun _ => Bool) false (Bool.rec (motive := fun _ => Bool) false (Bool.rec (motive := fun _ => Bool) false (Bool.rec (motive := fun _ => Bool) false (zq_t t' t) iv.isEmpty) (Nat.beq z' z)) (Nat.beq n' n)) (Nat.beq r' r)
  | none => false
theorem zq_run_ok {r n z : Nat} {t : List (List (List (List (List rx_E))))} {o : Option (Nat × rx_H)} (h : zq_run r n z t o = true) : o = some (r, (n, z, [], t)) := by
  cases o with
  | none => cases h
  | some q =>
    obtain ⟨r', n', z', iv, t'⟩ := q
    obtain ⟨h1, h⟩ := zq_and h
    obtain ⟨h2, h⟩ := zq_and h
    obtain ⟨h3, h⟩ := zq_and h
    obtain ⟨h4, h5⟩ := zq_and h
    rw [rx_beq h1, rx_beq h2, rx_beq h3, zq_t_ok _ _ h5]
    cases iv with
    | nil => rfl
    | cons a l => cases h4
section ZG
variable {V : rx_V} {M : rx_M} {d pc : Nat} {b : Nat} {e : Nat → Value} {D : va_G} {A : Nat → ClassId} {X : State → Prop}
-- a piece of code that has come to its end from here, held to this one state
noncomputable def zgate (lv0 : List Nat) (n z : Nat) (t : List (List (List (List (List rx_E))))) (r : Nat × rx_H) : rx_K := fun lv st h => match st, h with
  | [], (n', z', iv, t') => Bool.rec (motive := fun _ => Option (Nat × rx_H)) none (Bool.rec (motive := fun _ => Option (Nat × rx_H)) none (Bool.rec (motive := fun _ => Option (Nat × rx_H)) none (Bool.rec (motive := fun _ => Option (Nat × rx_H)) none (Bool.rec (motive := fun _ => Option (Nat × rx_H)) none (some r) (zq_t t' t)) iv.isEmpty) (Nat.beq z' z)) (Nat.beq n' n)) (zq_l Nat.beq lv lv0)
  | _ :: _, _ => none
theorem zgate_if {c : Bool} {o : Option (Nat × rx_H)} {r : Nat × rx_H} (h : Bool.rec (motive := fun _ => Option (Nat × rx_H)) none o c = some r) : c = true ∧ o = some r := by
  cases c with
  | false => cases h
  | true => exact ⟨rfl, h⟩
theorem zgate_ok {lv0 : List Nat} {n z : Nat} {t : List (List (List (List (List rx_E))))} {r : Nat × rx_H} {f : rx_K} (hf : f lv0 [] (n, z, [], t) = some r) (hk : rx_OK V M d pc f) : rx_OK V M d pc (zgate lv0 n z t r) := rx_by2 (by
  intro lv st hp q h
  match st, hp, h with
  | [], (n', z', iv, t'), h =>
    obtain ⟨h1, h⟩ := zgate_if h
    obtain ⟨h2, h⟩ := zgate_if h
    obtain ⟨h3, h⟩ := zgate_if h
    obtain ⟨h4, h⟩ := zgate_if h
    obtain ⟨h5, h6⟩ := zgate_if h
    have e1 := zq_l_ok (fun _ _ q => rx_beq q) _ _ h1
    have e5 := zq_t_ok _ _ h5
    subst e1
    subst e5
    rw [rx_beq h2, rx_beq h3]
    cases iv with
    | nil => rw [hf]; exact h6
    | cons a l => cases h4) hk
noncomputable def zJ (bs : (Nat → rx_K) → rx_K) (g : rx_K) (n : Nat) : Nat → rx_K := Nat.rec (motive := fun _ => Nat → rx_K) (fun _ => g) (fun _ ih _ => bs ih) n
theorem zJ_ok {p0 : Nat} {bs : (Nat → rx_K) → rx_K} {g : rx_K} (hg : rx_OK V M d p0 g) (hb : ∀ j : Nat → rx_K, (∀ k pc, [p0][k]? = some pc → rx_OK V M d pc (j k)) → rx_OK V M d p0 (bs j)) : ∀ n k pc, [p0][k]? = some pc → rx_OK V M d pc (zJ bs g n k) := by
  have hp : ∀ {k pc : Nat}, [p0][k]? = some pc → p0 = pc := by
    intro k pc h
    cases k with
    | zero => exact Option.some.inj h
    | succ k => simp at h
  intro n
  induction n with
  | zero => intro k pc h; rw [← hp h]; exact hg
  | succ n ih => intro k pc h; rw [← hp h]; exact hb _ ih
end ZG

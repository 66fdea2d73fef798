section RX26
variable {V : rx_V} {M : rx_M} {d pc : Nat} {f t : rx_K}
-- steps that walk the tree of cells once; where they come to an end the ones above come to the same
theorem rx_by2 {g : rx_K} (h : ∀ lv st hp r, f lv st hp = some r → g lv st hp = some r) (k : rx_OK V M d pc g) : rx_OK V M d pc f := fun lv st hp r h' hf => k lv st hp r h' (h lv st hp _ hf)
noncomputable def rx_upd {α β : Type} (l : List α) (i : Nat) (g : α → (α → Option β) → Option β) (k : List α → Option β) : Option β :=
  List.rec (motive := fun _ => Nat → (List α → Option β) → Option β) (fun _ _ => none) (fun a t ih i k => Nat.rec (motive := fun _ => Option β) (g a fun a' => k (a' :: t)) (fun j _ => ih j (fun t' => k (a :: t'))) i) l i k
theorem rx_upd_some {α β : Type} {l : List α} {i : Nat} {g : α → (α → Option β) → Option β} {k : List α → Option β} {r : β} (h : rx_upd l i g k = some r) : ∃ a, l[i]? = some a ∧ g a (fun a' => k (l.set i a')) = some r := by
  induction l generalizing i k with
  | nil => cases h
  | cons a t ih => cases i with
    | zero => exact ⟨a, rfl, h⟩
    | succ j => exact ih (i := j) (k := fun t' => k (a :: t')) h
theorem rx_set_in {α β : Type} {l : List α} {i : Nat} {x : α} {k : List α → Option β} (h : i < l.length) : rx_set l i x k = k (l.set i x) := by
  induction l generalizing i k with
  | nil => exact absurd h (Nat.not_lt_zero _)
  | cons a t ih => cases i with
    | zero => rfl
    | succ j => exact ih (k := fun t' => k (a :: t')) (by simpa using h)
noncomputable def rx_m1 {β : Type} (l : List rx_E) (i : Nat) (g : rx_E → (rx_E → Option β) → Option β) (k : List rx_E → Option β) : Option β := rx_upd l i g k
noncomputable def rx_m2 {β : Type} (l : List (List rx_E)) (i : Nat) (g : rx_E → (rx_E → Option β) → Option β) (k : List (List rx_E) → Option β) : Option β := rx_upd l (Nat.div i 8) (fun a k1 => rx_m1 a (Nat.mod i 8) g k1) k
noncomputable def rx_m3 {β : Type} (l : List (List (List rx_E))) (i : Nat) (g : rx_E → (rx_E → Option β) → Option β) (k : List (List (List rx_E)) → Option β) : Option β := rx_upd l (Nat.div i 64) (fun a k1 => rx_m2 a (Nat.mod i 64) g k1) k
noncomputable def rx_m4 {β : Type} (l : List (List (List (List rx_E)))) (i : Nat) (g : rx_E → (rx_E → Option β) → Option β) (k : List (List (List (List rx_E))) → Option β) : Option β := rx_upd l (Nat.div i 512) (fun a k1 => rx_m3 a (Nat.mod i 512) g k1) k
noncomputable def rx_m5 {β : Type} (l : List (List (List (List (List rx_E))))) (i : Nat) (g : rx_E → (rx_E → Option β) → Option β) (k : List (List (List (List (List rx_E)))) → Option β) : Option β := rx_upd l (Nat.div i 4096) (fun a k1 => rx_m4 a (Nat.mod i 4096) g k1) k
theorem rx_getD_at {α : Type} {d : α} {l : List α} {i : Nat} {a : α} (h : l[i]? = some a) : rx_get d l i = a := by
  rw [rx_get_eq]; simp [List.getD, h]
theorem rx_lt_of {α : Type} {l : List α} {i : Nat} {a : α} (h : l[i]? = some a) : i < l.length := (List.getElem?_eq_some_iff.mp h).1
theorem rx_m1_some {β : Type} {l : List rx_E} {i : Nat} {g : rx_E → (rx_E → Option β) → Option β} {k : List rx_E → Option β} {r : β} (h : rx_m1 l i g k = some r) : g (rx_g1 l i) (fun e => rx_s1 l i e k) = some r := by
  obtain ⟨a, h1, h2⟩ := rx_upd_some h
  unfold rx_g1 rx_s1
  rw [rx_getD_at h1]
  simp only [rx_set_in (rx_lt_of h1)]
  exact h2
theorem rx_m2_some {β : Type} {l : List (List rx_E)} {i : Nat} {g : rx_E → (rx_E → Option β) → Option β} {k : List (List rx_E) → Option β} {r : β} (h : rx_m2 l i g k = some r) : g (rx_g2 l i) (fun e => rx_s2 l i e k) = some r := by
  obtain ⟨a, h1, h2⟩ := rx_upd_some h
  have h3 := rx_m1_some h2
  unfold rx_g2 rx_s2
  rw [rx_getD_at h1]
  simp only [rx_set_in (rx_lt_of h1)]
  exact h3
theorem rx_m3_some {β : Type} {l : List (List (List rx_E))} {i : Nat} {g : rx_E → (rx_E → Option β) → Option β} {k : List (List (List rx_E)) → Option β} {r : β} (h : rx_m3 l i g k = some r) : g (rx_g3 l i) (fun e => rx_s3 l i e k) = some r := by
  obtain ⟨a, h1, h2⟩ := rx_upd_some h
  have h3 := rx_m2_some h2
  unfold rx_g3 rx_s3
  rw [rx_getD_at h1]
  simp only [rx_set_in (rx_lt_of h1)]
  exact h3
theorem rx_m4_some {β : Type} {l : List (List (List (List rx_E)))} {i : Nat} {g : rx_E → (rx_E → Option β) → Option β} {k : List (List (List (List rx_E))) → Option β} {r : β} (h : rx_m4 l i g k = some r) : g (rx_g4 l i) (fun e => rx_s4 l i e k) = some r := by
  obtain ⟨a, h1, h2⟩ := rx_upd_some h
  have h3 := rx_m3_some h2
  unfold rx_g4 rx_s4
  rw [rx_getD_at h1]
  simp only [rx_set_in (rx_lt_of h1)]
  exact h3
theorem rx_m5_some {β : Type} {l : List (List (List (List (List rx_E))))} {i : Nat} {g : rx_E → (rx_E → Option β) → Option β} {k : List (List (List (List (List rx_E)))) → Option β} {r : β} (h : rx_m5 l i g k = some r) : g (rx_g5 l i) (fun e => rx_s5 l i e k) = some r := by
  obtain ⟨a, h1, h2⟩ := rx_upd_some h
  have h3 := rx_m4_some h2
  unfold rx_g5 rx_s5
  rw [rx_getD_at h1]
  simp only [rx_set_in (rx_lt_of h1)]
  exact h3
noncomputable def p_h {β : Type} (h : rx_H) (f : Nat → Nat → List (Int × Int) → List (List (List (List (List rx_E)))) → Option β) : Option β := Prod.rec (motive := fun _ => Option β) (fun n r => Prod.rec (motive := fun _ => Option β) (fun z r => Prod.rec (motive := fun _ => Option β) (fun iv t => f n z iv t) r) r) h
theorem rx_if_some {β : Type} {b : Bool} {x : Option β} {r : β} (h : rx_if b x none = some r) : b = true ∧ x = some r := by cases b <;> simp_all [rx_if]
noncomputable def p_putf (chk : Nat → Bool) (ci k0 : Nat) (k : rx_K) : rx_K := fun lv st h => rx_un st fun v r1 => rx_un r1 fun o r => rx_if (chk v) (rx_if (Nat.beq (Nat.mod o 8) 2) (p_h h fun n z iv t => rx_if (Nat.ble (Nat.succ (Nat.div o 8)) n) (rx_m5 t (Nat.div o 8) (fun e k1 => q_en e fun z' c nn fs us => rx_if (Nat.beq z' 0) (rx_if (Nat.beq c ci) (rx_fs fs k0 v fun fs' => k1 (0, ci, nn, fs', us)) none) none) fun t' => k lv r (n, z, iv, t')) none) none) none
theorem l_putf (chk : Nat → Bool) (ci k0 : Nat) (k : rx_K) : ∀ lv st hp r, p_putf chk ci k0 k lv st hp = some r → o_putf chk ci k0 k lv st hp = some r := by
  intro lv st hp r h
  rw [← e_putf]
  obtain ⟨n, z, iv, t⟩ := hp
  match st, h with
  | [], h => cases h
  | [_], h => cases h
  | v :: o :: st, h =>
    obtain ⟨h1, h⟩ := rx_if_some h
    obtain ⟨h2, h⟩ := rx_if_some h
    obtain ⟨h3, h⟩ := rx_if_some h
    have h4 := rx_m5_some h
    show rx_if (chk v) (rx_if (Nat.beq (Nat.mod o 8) 2) (rx_if (Nat.ble (Nat.succ (Nat.div o 8)) n) _ none) none) none = some r
    rw [h1, h2, h3]
    exact h4
noncomputable def p_ast (tt : Nat) (g : Nat → Nat) (chk : Nat → Bool) (k : rx_K) : rx_K := fun lv st h => rx_un st fun v r1 => rx_un r1 fun i r2 => rx_un r2 fun o r => rx_if (chk v) (rx_if (Nat.beq (Nat.mod i 8) 0) (rx_if (Nat.beq (Nat.mod o 8) 2) (p_h h fun n0 z iv t => rx_if (Nat.ble (Nat.succ (Nat.div o 8)) n0) (rx_m5 t (Nat.div o 8) (fun e k1 => q_en e fun z' _ n fs us => rx_if (Nat.beq z' (Nat.succ tt)) (rx_if (Nat.ble (Nat.succ (Nat.div i 8)) n) (rx_if (Nat.ble (Nat.succ n) 268435456) (rx_f (Nat.div i 8) fun j => rx_f (g v) fun v' => rx_f (rx_fg fs 0) fun dv => k1 (Nat.succ tt, n, n, [[dv]], (j, v') :: us)) none) none) none) fun t' => k lv r (n0, z, iv, t')) none) none) none) none
theorem l_ast (tt : Nat) (g : Nat → Nat) (chk : Nat → Bool) (k : rx_K) : ∀ lv st hp r, p_ast tt g chk k lv st hp = some r → o_ast tt g chk k lv st hp = some r := by
  intro lv st hp r h
  rw [← e_ast]
  obtain ⟨n, z, iv, t⟩ := hp
  match st, h with
  | [], h => cases h
  | [_], h => cases h
  | [_, _], h => cases h
  | v :: i :: o :: st, h =>
    obtain ⟨h1, h⟩ := rx_if_some h
    obtain ⟨h2, h⟩ := rx_if_some h
    obtain ⟨h3, h⟩ := rx_if_some h
    obtain ⟨h4, h⟩ := rx_if_some h
    have h5 := rx_m5_some h
    simp only [rx_f_eq] at h5
    show rx_if (chk v) (rx_if (Nat.beq (Nat.mod i 8) 0) (rx_if (Nat.beq (Nat.mod o 8) 2) (rx_if (Nat.ble (Nat.succ (Nat.div o 8)) n) _ none) none) none) none = some r
    rw [h1, h2, h3, h4]
    simp only [rx_f_eq]
    exact h5
theorem l_astI (tt : Nat) (g : Nat → Nat) (k : rx_K) : ∀ lv st hp r, p_ast tt g q_isI k lv st hp = some r → o_ast tt g rx_isI k lv st hp = some r := by
  rw [← e_isI]
  exact l_ast tt g q_isI k
noncomputable def p_aast (tt ci : Nat) (k : rx_K) : rx_K := fun lv st h => rx_un st fun v _ => rx_if (Nat.beq (Nat.mod v 8) 2) (rx_if (Nat.ble (Nat.succ (Nat.div v 8)) h.1) (q_en (rx_hg h (Nat.div v 8)) fun z c _ _ _ => rx_if (Nat.beq z 0) (rx_if (Nat.beq ci c) (p_ast tt (fun v => v) (fun w => Nat.beq w v) k lv st h) none) none) none) none
theorem l_aast (tt ci : Nat) (k : rx_K) : ∀ lv st hp r, p_aast tt ci k lv st hp = some r → o_aast tt [ci] k lv st hp = some r := by
  intro lv st hp r h
  match st, h with
  | [], h => cases h
  | v :: st, h =>
    obtain ⟨h1, h⟩ := rx_if_some h
    obtain ⟨h2, h⟩ := rx_if_some h
    generalize he : rx_hg hp (Nat.div v 8) = en at h
    obtain ⟨z, c, n, fs, us⟩ := en
    obtain ⟨h3, h⟩ := rx_if_some h
    obtain ⟨h4, h⟩ := rx_if_some h
    have h5 := l_ast _ _ _ _ _ _ _ _ h
    have e1 : rx_isN v = false := by
      have : v % 8 = 2 := rx_beq h1
      unfold rx_isN
      rw [this]; rfl
    show (bif rx_isN v then _ else bif Nat.beq (v % 8) 2 && Nat.blt (v / 8) hp.1 then _ else none) = some r
    rw [e1, show Nat.beq (v % 8) 2 = true from h1, show Nat.blt (v / 8) hp.1 = true from h2]
    show (match rx_hg hp (Nat.div v 8) with
      | (z, c, _, _, _) => bif Nat.beq z 0 && [ci].any (Nat.beq c) then _ else none) = some r
    rw [he]
    show (bif Nat.beq z 0 && (Nat.beq c ci || false) then _ else none) = some r
    rw [h3, show Nat.beq c ci = true by rw [rx_beq h4]; simp]
    exact h5
noncomputable def p_push {β : Type} (h : rx_H) (e : rx_E) (k : rx_H → Option β) : Option β := p_h h fun n z iv t => rx_m5 t n (fun _ k1 => k1 e) fun t' => rx_f (Nat.succ n) fun n' => rx_f (Nat.add z e.2.2.1) fun z' => k (n', z', iv, t')
theorem l_push {β : Type} {h : rx_H} {e : rx_E} {k : rx_H → Option β} {r : β} (hh : p_push h e k = some r) : rx_hp h e k = some r := by
  obtain ⟨n, z, iv, t⟩ := h
  exact rx_m5_some hh
noncomputable def p_new (ci n : Nat) (fs : List (List Nat)) (k : rx_K) : rx_K := fun lv st h => p_push h (0, ci, n, fs, []) fun h1 => rx_f (Nat.add (Nat.mul 8 h.1) 2) fun v => k lv (v :: st) h1
theorem l_new (ci n : Nat) (fs : List (List Nat)) (k : rx_K) : ∀ lv st hp r, p_new ci n fs k lv st hp = some r → o_new ci n fs k lv st hp = some r := fun _ _ _ _ h => l_push h
noncomputable def p_newa (tt dc : Nat) (k : rx_K) : rx_K := fun lv st h => rx_un st fun n r => rx_if (Nat.beq (Nat.mod n 8) 0) (rx_if (Nat.ble (Nat.succ (Nat.div n 8)) 1000000) (rx_f (Nat.div n 8) fun N => p_push h (Nat.succ tt, N, N, [[dc]], []) fun h1 => rx_f (Nat.add (Nat.mul 8 h.1) 2) fun v => k lv (v :: r) h1) none) none
theorem l_newa (tt dc : Nat) (k : rx_K) : ∀ lv st hp r, p_newa tt dc k lv st hp = some r → o_newa tt dc k lv st hp = some r := by
  intro lv st hp r h
  rw [← e_newa]
  match st, h with
  | [], h => cases h
  | n :: st, h =>
    obtain ⟨h1, h⟩ := rx_if_some h
    obtain ⟨h2, h⟩ := rx_if_some h
    rw [rx_f_eq] at h
    have h3 := l_push h
    have e : q_newa tt dc k lv (n :: st) hp = rx_if (Nat.beq (Nat.mod n 8) 0) (rx_if (Nat.ble (Nat.succ (Nat.div n 8)) 1000000) (rx_f (Nat.div n 8) fun N => rx_hp hp (Nat.succ tt, N, N, [[dc]], []) fun h1 => rx_f (Nat.add (Nat.mul 8 hp.1) 2) fun v => k lv (v :: st) h1) none) none := rfl
    rw [e, h1, h2]
    rw [rx_f_eq]
    exact h3
end RX26

-- REFLECTION: a small machine over codes, whose runs the kernel computes; each of its steps is one step of the JVM's (proved below, once for all states)
-- codes of values: 8n int, 8n+1 long, 8k+2 the k-th cell of ours, 3 null, 8k+4 the k-th value from outside, 7 nothing
noncomputable def rx_f {α : Type} (n : Nat) (k : Nat → α) : α := Nat.rec (k 0) (fun m _ => k (Nat.succ m)) n
theorem rx_f_eq {α : Type} (n : Nat) (k : Nat → α) : rx_f n k = k n := by cases n <;> rfl
def rx_ei (x : Int32) : Nat := 8 * x.toBitVec.toNat
def rx_di (c : Nat) : Int32 := Int32.ofNat (c / 8)
def rx_el (x : Int64) : Nat := 8 * x.toBitVec.toNat + 1
def rx_dl (c : Nat) : Int64 := Int64.ofNat (c / 8)
noncomputable def rx_get {α : Type} (d : α) (l : List α) (i : Nat) : α := List.rec (motive := fun _ => Nat → α) (fun _ => d) (fun a _ ih i => Nat.rec (motive := fun _ => α) a (fun j _ => ih j) i) l i
noncomputable def rx_set {α β : Type} (l : List α) (i : Nat) (x : α) (k : List α → Option β) : Option β :=
  List.rec (motive := fun _ => Nat → (List α → Option β) → Option β) (fun _ _ => none) (fun a t ih i k => Nat.rec (motive := fun _ => Option β) (k (x :: t)) (fun j _ => ih j (fun t' => k (a :: t'))) i) l i k
noncomputable def rx_lk (d : Nat) (us : List (Nat × Nat)) (j : Nat) : Nat := List.rec (motive := fun _ => Nat) d (fun q _ ih => bif Nat.beq q.1 j then q.2 else ih) us
theorem rx_get_eq {α : Type} (d : α) (l : List α) (i : Nat) : rx_get d l i = l.getD i d := by
  induction l generalizing i with
  | nil => rfl
  | cons a t ih => cases i with
    | zero => rfl
    | succ j => exact ih j
theorem rx_set_some {α β : Type} {l : List α} {i : Nat} {x : α} {k : List α → Option β} {r : β} (h : rx_set l i x k = some r) : i < l.length ∧ k (l.set i x) = some r := by
  induction l generalizing i k with
  | nil => cases h
  | cons a t ih => cases i with
    | zero => exact ⟨by simp, h⟩
    | succ j =>
      obtain ⟨h1, h2⟩ := ih (i := j) (k := fun t' => k (a :: t')) h
      exact ⟨by simpa using h1, h2⟩
theorem rx_lk_cons (d : Nat) (us : List (Nat × Nat)) (j k v : Nat) : rx_lk d ((k, v) :: us) j = if j = k then v else rx_lk d us j := by
  show (bif Nat.beq k j then v else rx_lk d us j) = _
  by_cases h : j = k
  · subst h; simp
  · have h2 : Nat.beq k j = false := by
      rw [Bool.eq_false_iff]; intro q; exact h (Nat.eq_of_beq_eq_true q).symm
    rw [h2, if_neg h]; rfl
-- an entry: (0, class, number of fields, fields in rows of 16, _) or (1 + type, length, length, [[default]], changes)
abbrev rx_E : Type := Nat × Nat × Nat × List (List Nat) × List (Nat × Nat)
-- (how many cells, how many slots, what is known of the whole numbers from outside, the cells in rows of 8 of 8 of 8)
abbrev rx_H : Type := Nat × Nat × List (Int × Int) × List (List (List rx_E))
abbrev rx_K : Type := List Nat → List Nat → rx_H → Option (Nat × rx_H)
def rx_e0 : rx_E := (0, 0, 0, [], [])
noncomputable def rx_fg (fs : List (List Nat)) (k : Nat) : Nat := rx_get 7 (rx_get [] fs (k / 16)) (k % 16)
noncomputable def rx_fs {β : Type} (fs : List (List Nat)) (k v : Nat) (kk : List (List Nat) → Option β) : Option β := rx_set (rx_get [] fs (k / 16)) (k % 16) v fun ch => rx_set fs (k / 16) ch kk
noncomputable def rx_hg (h : rx_H) (i : Nat) : rx_E := rx_get rx_e0 (rx_get [] (rx_get [] h.2.2.2 (i / 64)) (i / 8 % 8)) (i % 8)
noncomputable def rx_hs {β : Type} (h : rx_H) (i : Nat) (e : rx_E) (k : rx_H → Option β) : Option β :=
  match h with
  | (n, z, iv, t) => rx_set (rx_get [] (rx_get [] t (i / 64)) (i / 8 % 8)) (i % 8) e fun l1 => rx_set (rx_get [] t (i / 64)) (i / 8 % 8) l1 fun l2 => rx_set t (i / 64) l2 fun l3 => k (n, z, iv, l3)
noncomputable def rx_hp {β : Type} (h : rx_H) (e : rx_E) (k : rx_H → Option β) : Option β :=
  rx_hs h h.1 e fun h' => match h' with | (n, z, iv, t) => rx_f (n + 1) fun n' => rx_f (z + e.2.2.1) fun z' => k (n', z', iv, t)
theorem rx_getD_set {α : Type} (l : List α) (i j : Nat) (x d : α) (h : i < l.length) : (l.set i x).getD j d = if j = i then x else l.getD j d := by
  by_cases e : j = i
  · subst e; simp [List.getD, h]
  · simp only [List.getD, if_neg e]
    rw [List.getElem?_set_ne (fun q => e q.symm)]
theorem rx_fs_some {β : Type} {fs : List (List Nat)} {k v : Nat} {kk : List (List Nat) → Option β} {r : β} (h : rx_fs fs k v kk = some r) : ∃ fs', kk fs' = some r ∧ ∀ j, rx_fg fs' j = if j = k then v else rx_fg fs j := by
  obtain ⟨h1, h2⟩ := rx_set_some h
  obtain ⟨h3, h4⟩ := rx_set_some h2
  refine ⟨_, h4, fun j => ?_⟩
  unfold rx_fg
  simp only [rx_get_eq] at h1 h3 ⊢
  rw [rx_getD_set _ _ _ _ _ h3]
  by_cases e : j = k
  · subst e; rw [if_pos rfl, if_pos rfl, rx_getD_set _ _ _ _ _ h1, if_pos rfl]
  · rw [if_neg e]
    by_cases e1 : j / 16 = k / 16
    · rw [if_pos e1, rx_getD_set _ _ _ _ _ h1, if_neg (by omega), e1]
    · rw [if_neg e1]
theorem rx_hs_some {β : Type} {h : rx_H} {i : Nat} {e : rx_E} {k : rx_H → Option β} {r : β} (hh : rx_hs h i e k = some r) : ∃ h', k h' = some r ∧ h'.1 = h.1 ∧ h'.2.1 = h.2.1 ∧ h'.2.2.1 = h.2.2.1 ∧ ∀ j, rx_hg h' j = if j = i then e else rx_hg h j := by
  obtain ⟨n, z, iv, t⟩ := h
  obtain ⟨h1, h2⟩ := rx_set_some hh
  obtain ⟨h3, h4⟩ := rx_set_some h2
  obtain ⟨h5, h6⟩ := rx_set_some h4
  refine ⟨_, h6, rfl, rfl, rfl, fun j => ?_⟩
  unfold rx_hg
  simp only [rx_get_eq] at h1 h3 h5 ⊢
  rw [rx_getD_set _ _ _ _ _ h5]
  by_cases q : j = i
  · subst q; rw [if_pos rfl, if_pos rfl, rx_getD_set _ _ _ _ _ h3, if_pos rfl, rx_getD_set _ _ _ _ _ h1, if_pos rfl]
  · rw [if_neg q]
    by_cases q1 : j / 64 = i / 64
    · rw [if_pos q1, rx_getD_set _ _ _ _ _ h3]
      by_cases q2 : j / 8 % 8 = i / 8 % 8
      · rw [if_pos q2, rx_getD_set _ _ _ _ _ h1, if_neg (by omega), q1, q2]
      · rw [if_neg q2, q1]
    · rw [if_neg q1]
theorem rx_hp_some {β : Type} {h : rx_H} {e : rx_E} {k : rx_H → Option β} {r : β} (hh : rx_hp h e k = some r) : ∃ h', k h' = some r ∧ h'.1 = h.1 + 1 ∧ h'.2.1 = h.2.1 + e.2.2.1 ∧ h'.2.2.1 = h.2.2.1 ∧ ∀ j, rx_hg h' j = if j = h.1 then e else rx_hg h j := by
  obtain ⟨h', h1, h2, h3, h4, h5⟩ := rx_hs_some hh
  obtain ⟨n, z, iv, t⟩ := h'
  simp only [rx_f_eq] at h1
  dsimp only at h2 h3 h4
  subst h2; subst h3; subst h4
  exact ⟨_, h1, rfl, rfl, rfl, fun j => h5 j⟩

-- REFLECTION: a small machine over codes, whose runs the kernel computes; each of its steps is one step of the JVM's (proved below, once for all states)
-- codes of values: 8n int, 8n+1 long, 8k+2 the k-th cell of ours, 3 null, 8k+4 the k-th value from outside, 7 nothing
noncomputable def rx_f {α : Type} (n : Nat) (k : Nat → α) : α := Nat.rec (k 0) (fun m _ => k (Nat.succ m)) n
theorem rx_f_eq {α : Type} (n : Nat) (k : Nat → α) : rx_f n k = k n := by cases n <;> rfl
def rx_ei (x : Int32) : Nat := 8 * x.toBitVec.toNat
def rx_di (c : Nat) : Int32 := Int32.ofNat (c / 8)
def rx_el (x : Int64) : Nat := 8 * x.toBitVec.toNat + 1
def rx_dl (c : Nat) : Int64 := Int64.ofNat (c / 8)
noncomputable def rx_get {α : Type} (d : α) (l : List α) (i : Nat) : α := List.rec (motive := fun _ => Nat → α) (fun _ => d) (fun a _ ih i => Nat.rec (motive := fun _ => α) a (fun j _ => ih j) i) l i
noncomputable def rx_set {α β : Type} (l : List α) (i : Nat) (x : α) (k : List α → Option β) : Option β :=
  List.rec (motive := fun _ => Nat → (List α → Option β) → Option β) (fun _ _ => none) (fun a t ih i k => Nat.rec (motive := fun _ => Option β) (k (x :: t)) (fun j _ => ih j (fun t' => k (a :: t'))) i) l i k
noncomputable def rx_lk (d : Nat) (us : List (Nat × Nat)) (j : Nat) : Nat := List.rec (motive := fun _ => Nat) d (fun q _ ih => bif Nat.beq q.1 j then q.2 else ih) us
theorem rx_get_eq {α : Type} (d : α) (l : List α) (i : Nat) : rx_get d l i = l.getD i d := by
  induction l generalizing i with
  | nil => rfl
  | cons a t ih => cases i with
    | zero => rfl
    | succ j => exact ih j
theorem rx_set_some {α β : Type} {l : List α} {i : Nat} {x : α} {k : List α → Option β} {r : β} (h : rx_set l i x k = some r) : i < l.length ∧ k (l.set i x) = some r := by
  induction l generalizing i k with
  | nil => cases h
  | cons a t ih => cases i with
    | zero => exact ⟨by simp, h⟩
    | succ j =>
      obtain ⟨h1, h2⟩ := ih (i := j) (k := fun t' => k (a :: t')) h
      exact ⟨by simpa using h1, h2⟩
theorem rx_lk_cons (d : Nat) (us : List (Nat × Nat)) (j k v : Nat) : rx_lk d ((k, v) :: us) j = if j = k then v else rx_lk d us j := by
  show (bif Nat.beq k j then v else rx_lk d us j) = _
  by_cases h : j = k
  · subst h; simp
  · have h2 : Nat.beq k j = false := by
      rw [Bool.eq_false_iff]; intro q; exact h (Nat.eq_of_beq_eq_true q).symm
    rw [h2, if_neg h]; rfl
-- an entry: (0, class, number of fields, fields in rows of 16, _) or (1 + type, length, length, [[default]], changes)
abbrev rx_E : Type := Nat × Nat × Nat × List (List Nat) × List (Nat × Nat)
-- (how many cells, how many slots, what is known of the whole numbers from outside, the cells in rows of 8 of 8 of 8 of 8 of 8)
abbrev rx_H : Type := Nat × Nat × List (Int × Int) × List (List (List (List (List rx_E))))
abbrev rx_K : Type := List Nat → List Nat → rx_H → Option (Nat × rx_H)
def rx_e0 : rx_E := (0, 0, 0, [], [])
noncomputable def rx_fg (fs : List (List Nat)) (k : Nat) : Nat := rx_get 7 (rx_get [] fs (Nat.div k 16)) (Nat.mod k 16)
noncomputable def rx_fs {β : Type} (fs : List (List Nat)) (k v : Nat) (kk : List (List Nat) → Option β) : Option β := rx_set (rx_get [] fs (Nat.div k 16)) (Nat.mod k 16) v fun ch => rx_set fs (Nat.div k 16) ch kk
noncomputable def rx_g1 (l : List rx_E) (i : Nat) : rx_E := rx_get rx_e0 l i
noncomputable def rx_g2 (l : List (List rx_E)) (i : Nat) : rx_E := rx_g1 (rx_get [] l (Nat.div i 8)) (Nat.mod i 8)
noncomputable def rx_g3 (l : List (List (List rx_E))) (i : Nat) : rx_E := rx_g2 (rx_get [] l (Nat.div i 64)) (Nat.mod i 64)
noncomputable def rx_g4 (l : List (List (List (List rx_E)))) (i : Nat) : rx_E := rx_g3 (rx_get [] l (Nat.div i 512)) (Nat.mod i 512)
noncomputable def rx_g5 (l : List (List (List (List (List rx_E))))) (i : Nat) : rx_E := rx_g4 (rx_get [] l (Nat.div i 4096)) (Nat.mod i 4096)
noncomputable def rx_s1 {β : Type} (l : List rx_E) (i : Nat) (e : rx_E) (k : List rx_E → Option β) : Option β := rx_set l i e k
noncomputable def rx_s2 {β : Type} (l : List (List rx_E)) (i : Nat) (e : rx_E) (k : List (List rx_E) → Option β) : Option β := rx_s1 (rx_get [] l (Nat.div i 8)) (Nat.mod i 8) e fun x => rx_set l (Nat.div i 8) x k
noncomputable def rx_s3 {β : Type} (l : List (List (List rx_E))) (i : Nat) (e : rx_E) (k : List (List (List rx_E)) → Option β) : Option β := rx_s2 (rx_get [] l (Nat.div i 64)) (Nat.mod i 64) e fun x => rx_set l (Nat.div i 64) x k
noncomputable def rx_s4 {β : Type} (l : List (List (List (List rx_E)))) (i : Nat) (e : rx_E) (k : List (List (List (List rx_E))) → Option β) : Option β := rx_s3 (rx_get [] l (Nat.div i 512)) (Nat.mod i 512) e fun x => rx_set l (Nat.div i 512) x k
noncomputable def rx_s5 {β : Type} (l : List (List (List (List (List rx_E))))) (i : Nat) (e : rx_E) (k : List (List (List (List (List rx_E)))) → Option β) : Option β := rx_s4 (rx_get [] l (Nat.div i 4096)) (Nat.mod i 4096) e fun x => rx_set l (Nat.div i 4096) x k
noncomputable def rx_hg (h : rx_H) (i : Nat) : rx_E := rx_g5 h.2.2.2 i
noncomputable def rx_hs {β : Type} (h : rx_H) (i : Nat) (e : rx_E) (k : rx_H → Option β) : Option β := match h with
  | (n, z, iv, t) => rx_s5 t i e fun t' => k (n, z, iv, t')
noncomputable def rx_hp {β : Type} (h : rx_H) (e : rx_E) (k : rx_H → Option β) : Option β :=
  match h with
  | (n, z, iv, t) => rx_s5 t n e fun t' => rx_f (Nat.succ n) fun n' => rx_f (Nat.add z e.2.2.1) fun z' => k (n', z', iv, t')
theorem rx_getD_set {α : Type} (l : List α) (i j : Nat) (x d : α) (h : i < l.length) : (l.set i x).getD j d = if j = i then x else l.getD j d := by
  by_cases e : j = i
  · subst e; simp [List.getD, h]
  · simp only [List.getD, if_neg e]
    rw [List.getElem?_set_ne (fun q => e q.symm)]
theorem rx_fs_some {β : Type} {fs : List (List Nat)} {k v : Nat} {kk : List (List Nat) → Option β} {r : β} (h : rx_fs fs k v kk = some r) : ∃ fs', kk fs' = some r ∧ ∀ j, rx_fg fs' j = if j = k then v else rx_fg fs j := by
  obtain ⟨h1, h2⟩ := rx_set_some h
  obtain ⟨h3, h4⟩ := rx_set_some h2
  change k % 16 < (rx_get [] fs (k / 16)).length at h1
  change k / 16 < _ at h3
  refine ⟨fs.set (k / 16) ((rx_get [] fs (k / 16)).set (k % 16) v), h4, fun j => ?_⟩
  show rx_get 7 (rx_get [] _ (j / 16)) (j % 16) = if j = k then v else rx_get 7 (rx_get [] fs (j / 16)) (j % 16)
  simp only [rx_get_eq] at h1 h3 ⊢
  rw [rx_getD_set _ _ _ _ _ h3]
  by_cases e : j = k
  · subst e; rw [if_pos rfl, if_pos rfl, rx_getD_set _ _ _ _ _ h1, if_pos rfl]
  · rw [if_neg e]
    by_cases e1 : j / 16 = k / 16
    · rw [if_pos e1, rx_getD_set _ _ _ _ _ h1, if_neg (by omega), e1]
    · rw [if_neg e1]
theorem rx_lev {α E : Type} {d : α} {g : α → Nat → E} {l : List α} {m i : Nat} {e : E} {a : α} (hm : 0 < m) (hl : i / m < l.length) (ha : ∀ j, g a j = if j = i % m then e else g (l.getD (i / m) d) j) (j : Nat) : g ((l.set (i / m) a).getD (j / m) d) (j % m) = if j = i then e else g (l.getD (j / m) d) (j % m) := by
  rw [rx_getD_set _ _ _ _ _ hl]
  by_cases q : j / m = i / m
  · rw [if_pos q, ha (j % m), q]
    by_cases q2 : j % m = i % m
    · have : j = i := by rw [← Nat.div_add_mod j m, ← Nat.div_add_mod i m, q, q2]
      rw [if_pos q2, if_pos this]
    · have : ¬ j = i := fun z => q2 (by rw [z])
      rw [if_neg q2, if_neg this]
  · have : ¬ j = i := fun z => q (by rw [z])
    rw [if_neg q, if_neg this]
theorem rx_s1_some {β : Type} {l : List rx_E} {i : Nat} {e : rx_E} {k : List rx_E → Option β} {r : β} (h : rx_s1 l i e k = some r) : ∃ l', k l' = some r ∧ ∀ j, rx_g1 l' j = if j = i then e else rx_g1 l j := by
  obtain ⟨h1, h2⟩ := rx_set_some h
  refine ⟨_, h2, fun j => ?_⟩
  unfold rx_g1
  rw [rx_get_eq, rx_get_eq, rx_getD_set _ _ _ _ _ h1]
theorem rx_s2_some {β : Type} {l : List (List rx_E)} {i : Nat} {e : rx_E} {k : List (List rx_E) → Option β} {r : β} (h : rx_s2 l i e k = some r) : ∃ l', k l' = some r ∧ ∀ j, rx_g2 l' j = if j = i then e else rx_g2 l j := by
  obtain ⟨a, h1, h2⟩ := rx_s1_some h
  obtain ⟨h3, h4⟩ := rx_set_some h1
  refine ⟨_, h4, fun j => ?_⟩
  show rx_g1 (rx_get [] (l.set (i / 8) a) (j / 8)) (j % 8) = if j = i then e else rx_g1 (rx_get [] l (j / 8)) (j % 8)
  rw [rx_get_eq, rx_get_eq]
  refine rx_lev (g := rx_g1) (by decide) h3 (fun q => ?_) j
  have h5 := h2 q
  rw [rx_get_eq] at h5
  exact h5
theorem rx_s3_some {β : Type} {l : List (List (List rx_E))} {i : Nat} {e : rx_E} {k : List (List (List rx_E)) → Option β} {r : β} (h : rx_s3 l i e k = some r) : ∃ l', k l' = some r ∧ ∀ j, rx_g3 l' j = if j = i then e else rx_g3 l j := by
  obtain ⟨a, h1, h2⟩ := rx_s2_some h
  obtain ⟨h3, h4⟩ := rx_set_some h1
  refine ⟨_, h4, fun j => ?_⟩
  show rx_g2 (rx_get [] (l.set (i / 64) a) (j / 64)) (j % 64) = if j = i then e else rx_g2 (rx_get [] l (j / 64)) (j % 64)
  rw [rx_get_eq, rx_get_eq]
  refine rx_lev (g := rx_g2) (by decide) h3 (fun q => ?_) j
  have h5 := h2 q
  rw [rx_get_eq] at h5
  exact h5
theorem rx_s4_some {β : Type} {l : List (List (List (List rx_E)))} {i : Nat} {e : rx_E} {k : List (List (List (List rx_E))) → Option β} {r : β} (h : rx_s4 l i e k = some r) : ∃ l', k l' = some r ∧ ∀ j, rx_g4 l' j = if j = i then e else rx_g4 l j := by
  obtain ⟨a, h1, h2⟩ := rx_s3_some h
  obtain ⟨h3, h4⟩ := rx_set_some h1
  refine ⟨_, h4, fun j => ?_⟩
  show rx_g3 (rx_get [] (l.set (i / 512) a) (j / 512)) (j % 512) = if j = i then e else rx_g3 (rx_get [] l (j / 512)) (j % 512)
  rw [rx_get_eq, rx_get_eq]
  refine rx_lev (g := rx_g3) (by decide) h3 (fun q => ?_) j
  have h5 := h2 q
  rw [rx_get_eq] at h5
  exact h5
theorem rx_s5_some {β : Type} {l : List (List (List (List (List rx_E))))} {i : Nat} {e : rx_E} {k : List (List (List (List (List rx_E)))) → Option β} {r : β} (h : rx_s5 l i e k = some r) : ∃ l', k l' = some r ∧ ∀ j, rx_g5 l' j = if j = i then e else rx_g5 l j := by
  obtain ⟨a, h1, h2⟩ := rx_s4_some h
  obtain ⟨h3, h4⟩ := rx_set_some h1
  refine ⟨_, h4, fun j => ?_⟩
  show rx_g4 (rx_get [] (l.set (i / 4096) a) (j / 4096)) (j % 4096) = if j = i then e else rx_g4 (rx_get [] l (j / 4096)) (j % 4096)
  rw [rx_get_eq, rx_get_eq]
  refine rx_lev (g := rx_g4) (by decide) h3 (fun q => ?_) j
  have h5 := h2 q
  rw [rx_get_eq] at h5
  exact h5
theorem rx_hs_some {β : Type} {h : rx_H} {i : Nat} {e : rx_E} {k : rx_H → Option β} {r : β} (hh : rx_hs h i e k = some r) : ∃ h', k h' = some r ∧ h'.1 = h.1 ∧ h'.2.1 = h.2.1 ∧ h'.2.2.1 = h.2.2.1 ∧ ∀ j, rx_hg h' j = if j = i then e else rx_hg h j := by
  obtain ⟨n, z, iv, t0⟩ := h
  obtain ⟨t, h1, h2⟩ := rx_s5_some hh
  exact ⟨_, h1, rfl, rfl, rfl, h2⟩
theorem rx_hp_some {β : Type} {h : rx_H} {e : rx_E} {k : rx_H → Option β} {r : β} (hh : rx_hp h e k = some r) : ∃ h', k h' = some r ∧ h'.1 = h.1 + 1 ∧ h'.2.1 = h.2.1 + e.2.2.1 ∧ h'.2.2.1 = h.2.2.1 ∧ ∀ j, rx_hg h' j = if j = h.1 then e else rx_hg h j := by
  obtain ⟨n, z, iv, t0⟩ := h
  simp only [rx_hp, rx_f_eq] at hh
  obtain ⟨t, h1, h2⟩ := rx_s5_some hh
  exact ⟨_, h1, rfl, rfl, rfl, h2⟩

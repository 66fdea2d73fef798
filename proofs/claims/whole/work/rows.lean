section
-- REFLECTION: a small machine over codes, whose runs the kernel computes; each of its steps is one step of the JVM's (proved below, once for all states)
-- codes of values: 8n int, 8n+1 long, 8k+2 the k-th cell of ours, 3 null, 8k+4 the k-th value from outside, 7 nothing
noncomputable def rx_f {α : Type} (n : Nat) (k : Nat → α) : α := Nat.rec (k 0) (fun m _ => k (Nat.succ m)) n
theorem rx_f_eq {α : Type} (n : Nat) (k : Nat → α) : rx_f n k = k n := by cases n <;> rfl
def rx_ei (x : Int32) : Nat := 8 * x.toBitVec.toNat
def rx_di (c : Nat) : Int32 := Int32.ofNat (c / 8)
def rx_el (x : Int64) : Nat := 8 * x.toBitVec.toNat + 1
def rx_dl (c : Nat) : Int64 := Int64.ofNat (c / 8)
noncomputable def rx_get {α : Type} (d : α) (l : List α) (i : Nat) : α := List.rec (motive := fun _ => Nat → α) (fun _ => d) (fun a _ ih i => Nat.rec (motive := fun _ => α) a (fun j _ => ih j) i) l i
noncomputable def rx_set {α β : Type} (l : List α) (i : Nat) (x : α) (k : List α → Option β) : Option β :=
  List.rec (motive := fun _ => Nat → (List α → Option β) → Option β) (fun _ _ => none) (fun a t ih i k => Nat.rec (motive := fun _ => Option β) (k (x :: t)) (fun j _ => ih j (fun t' => k (a :: t'))) i) l i k
noncomputable def rx_lk (d : Nat) (us : List (Nat × Nat)) (j : Nat) : Nat := List.rec (motive := fun _ => Nat) d (fun q _ ih => bif Nat.beq q.1 j then q.2 else ih) us
theorem rx_get_eq {α : Type} (d : α) (l : List α) (i : Nat) : rx_get d l i = l.getD i d := by
  induction l generalizing i with
  | nil => rfl
  | cons a t ih => cases i with
    | zero => rfl
    | succ j => exact ih j
theorem rx_set_some {α β : Type} {l : List α} {i : Nat} {x : α} {k : List α → Option β} {r : β} (h : rx_set l i x k = some r) : i < l.length ∧ k (l.set i x) = some r := by
  induction l generalizing i k with
  | nil => cases h
  | cons a t ih => cases i with
    | zero => exact ⟨by simp, h⟩
    | succ j =>
      obtain ⟨h1, h2⟩ := ih (i := j) (k := fun t' => k (a :: t')) h
      exact ⟨by simpa using h1, h2⟩
theorem rx_lk_cons (d : Nat) (us : List (Nat × Nat)) (j k v : Nat) : rx_lk d ((k, v) :: us) j = if j = k then v else rx_lk d us j := by
  show (bif Nat.beq k j then v else rx_lk d us j) = _
  by_cases h : j = k
  · subst h; simp
  · have h2 : Nat.beq k j = false := by
      rw [Bool.eq_false_iff]; intro q; exact h (Nat.eq_of_beq_eq_true q).symm
    rw [h2, if_neg h]; rfl
-- an entry: (0, class, number of fields, fields in rows of 16, _) or (1 + type, length, length, [[default]], changes)
abbrev rx_E : Type := Nat × Nat × Nat × List (List Nat) × List (Nat × Nat)
-- (how many cells, how many slots, what is known of the whole numbers from outside, the cells in rows of 8 of 8 of 8 of 8 of 8)
abbrev rx_H : Type := Nat × Nat × List (Int × Int) × List (List (List (List (List rx_E))))
abbrev rx_K : Type := List Nat → List Nat → rx_H → Option (Nat × rx_H)
def rx_e0 : rx_E := (0, 0, 0, [], [])
noncomputable def rx_fg (fs : List (List Nat)) (k : Nat) : Nat := rx_get 7 (rx_get [] fs (Nat.div k 16)) (Nat.mod k 16)
noncomputable def rx_fs {β : Type} (fs : List (List Nat)) (k v : Nat) (kk : List (List Nat) → Option β) : Option β := rx_set (rx_get [] fs (Nat.div k 16)) (Nat.mod k 16) v fun ch => rx_set fs (Nat.div k 16) ch kk
noncomputable def rx_g1 (l : List rx_E) (i : Nat) : rx_E := rx_get rx_e0 l i
noncomputable def rx_g2 (l : List (List rx_E)) (i : Nat) : rx_E := rx_g1 (rx_get [] l (Nat.div i 8)) (Nat.mod i 8)
noncomputable def rx_g3 (l : List (List (List rx_E))) (i : Nat) : rx_E := rx_g2 (rx_get [] l (Nat.div i 64)) (Nat.mod i 64)
noncomputable def rx_g4 (l : List (List (List (List rx_E)))) (i : Nat) : rx_E := rx_g3 (rx_get [] l (Nat.div i 512)) (Nat.mod i 512)
noncomputable def rx_g5 (l : List (List (List (List (List rx_E))))) (i : Nat) : rx_E := rx_g4 (rx_get [] l (Nat.div i 4096)) (Nat.mod i 4096)
noncomputable def rx_s1 {β : Type} (l : List rx_E) (i : Nat) (e : rx_E) (k : List rx_E → Option β) : Option β := rx_set l i e k
noncomputable def rx_s2 {β : Type} (l : List (List rx_E)) (i : Nat) (e : rx_E) (k : List (List rx_E) → Option β) : Option β := rx_s1 (rx_get [] l (Nat.div i 8)) (Nat.mod i 8) e fun x => rx_set l (Nat.div i 8) x k
noncomputable def rx_s3 {β : Type} (l : List (List (List rx_E))) (i : Nat) (e : rx_E) (k : List (List (List rx_E)) → Option β) : Option β := rx_s2 (rx_get [] l (Nat.div i 64)) (Nat.mod i 64) e fun x => rx_set l (Nat.div i 64) x k
noncomputable def rx_s4 {β : Type} (l : List (List (List (List rx_E)))) (i : Nat) (e : rx_E) (k : List (List (List (List rx_E))) → Option β) : Option β := rx_s3 (rx_get [] l (Nat.div i 512)) (Nat.mod i 512) e fun x => rx_set l (Nat.div i 512) x k
noncomputable def rx_s5 {β : Type} (l : List (List (List (List (List rx_E))))) (i : Nat) (e : rx_E) (k : List (List (List (List (List rx_E)))) → Option β) : Option β := rx_s4 (rx_get [] l (Nat.div i 4096)) (Nat.mod i 4096) e fun x => rx_set l (Nat.div i 4096) x k
noncomputable def rx_hg (h : rx_H) (i : Nat) : rx_E := rx_g5 h.2.2.2 i
noncomputable def rx_hs {β : Type} (h : rx_H) (i : Nat) (e : rx_E) (k : rx_H → Option β) : Option β := rx_s5 h.2.2.2 i e fun t => k (h.1, h.2.1, h.2.2.1, t)
noncomputable def rx_hp {β : Type} (h : rx_H) (e : rx_E) (k : rx_H → Option β) : Option β :=
  rx_f h.1 fun n => rx_s5 h.2.2.2 n e fun t => rx_f (Nat.succ n) fun n' => rx_f (Nat.add h.2.1 e.2.2.1) fun z' => k (n', z', h.2.2.1, t)
theorem rx_getD_set {α : Type} (l : List α) (i j : Nat) (x d : α) (h : i < l.length) : (l.set i x).getD j d = if j = i then x else l.getD j d := by
  by_cases e : j = i
  · subst e; simp [List.getD, h]
  · simp only [List.getD, if_neg e]
    rw [List.getElem?_set_ne (fun q => e q.symm)]
theorem rx_fs_some {β : Type} {fs : List (List Nat)} {k v : Nat} {kk : List (List Nat) → Option β} {r : β} (h : rx_fs fs k v kk = some r) : ∃ fs', kk fs' = some r ∧ ∀ j, rx_fg fs' j = if j = k then v else rx_fg fs j := by
  obtain ⟨h1, h2⟩ := rx_set_some h
  obtain ⟨h3, h4⟩ := rx_set_some h2
  change k % 16 < (rx_get [] fs (k / 16)).length at h1
  change k / 16 < _ at h3
  refine ⟨fs.set (k / 16) ((rx_get [] fs (k / 16)).set (k % 16) v), h4, fun j => ?_⟩
  show rx_get 7 (rx_get [] _ (j / 16)) (j % 16) = if j = k then v else rx_get 7 (rx_get [] fs (j / 16)) (j % 16)
  simp only [rx_get_eq] at h1 h3 ⊢
  rw [rx_getD_set _ _ _ _ _ h3]
  by_cases e : j = k
  · subst e; rw [if_pos rfl, if_pos rfl, rx_getD_set _ _ _ _ _ h1, if_pos rfl]
  · rw [if_neg e]
    by_cases e1 : j / 16 = k / 16
    · rw [if_pos e1, rx_getD_set _ _ _ _ _ h1, if_neg (by omega), e1]
    · rw [if_neg e1]
theorem rx_lev {α E : Type} {d : α} {g : α → Nat → E} {l : List α} {m i : Nat} {e : E} {a : α} (hm : 0 < m) (hl : i / m < l.length) (ha : ∀ j, g a j = if j = i % m then e else g (l.getD (i / m) d) j) (j : Nat) : g ((l.set (i / m) a).getD (j / m) d) (j % m) = if j = i then e else g (l.getD (j / m) d) (j % m) := by
  rw [rx_getD_set _ _ _ _ _ hl]
  by_cases q : j / m = i / m
  · rw [if_pos q, ha (j % m), q]
    by_cases q2 : j % m = i % m
    · have : j = i := by rw [← Nat.div_add_mod j m, ← Nat.div_add_mod i m, q, q2]
      rw [if_pos q2, if_pos this]
    · have : ¬ j = i := fun z => q2 (by rw [z])
      rw [if_neg q2, if_neg this]
  · have : ¬ j = i := fun z => q (by rw [z])
    rw [if_neg q, if_neg this]
theorem rx_s1_some {β : Type} {l : List rx_E} {i : Nat} {e : rx_E} {k : List rx_E → Option β} {r : β} (h : rx_s1 l i e k = some r) : ∃ l', k l' = some r ∧ ∀ j, rx_g1 l' j = if j = i then e else rx_g1 l j := by
  obtain ⟨h1, h2⟩ := rx_set_some h
  refine ⟨_, h2, fun j => ?_⟩
  unfold rx_g1
  rw [rx_get_eq, rx_get_eq, rx_getD_set _ _ _ _ _ h1]
theorem rx_s2_some {β : Type} {l : List (List rx_E)} {i : Nat} {e : rx_E} {k : List (List rx_E) → Option β} {r : β} (h : rx_s2 l i e k = some r) : ∃ l', k l' = some r ∧ ∀ j, rx_g2 l' j = if j = i then e else rx_g2 l j := by
  obtain ⟨a, h1, h2⟩ := rx_s1_some h
  obtain ⟨h3, h4⟩ := rx_set_some h1
  refine ⟨_, h4, fun j => ?_⟩
  show rx_g1 (rx_get [] (l.set (i / 8) a) (j / 8)) (j % 8) = if j = i then e else rx_g1 (rx_get [] l (j / 8)) (j % 8)
  rw [rx_get_eq, rx_get_eq]
  refine rx_lev (g := rx_g1) (by decide) h3 (fun q => ?_) j
  have h5 := h2 q
  rw [rx_get_eq] at h5
  exact h5
theorem rx_s3_some {β : Type} {l : List (List (List rx_E))} {i : Nat} {e : rx_E} {k : List (List (List rx_E)) → Option β} {r : β} (h : rx_s3 l i e k = some r) : ∃ l', k l' = some r ∧ ∀ j, rx_g3 l' j = if j = i then e else rx_g3 l j := by
  obtain ⟨a, h1, h2⟩ := rx_s2_some h
  obtain ⟨h3, h4⟩ := rx_set_some h1
  refine ⟨_, h4, fun j => ?_⟩
  show rx_g2 (rx_get [] (l.set (i / 64) a) (j / 64)) (j % 64) = if j = i then e else rx_g2 (rx_get [] l (j / 64)) (j % 64)
  rw [rx_get_eq, rx_get_eq]
  refine rx_lev (g := rx_g2) (by decide) h3 (fun q => ?_) j
  have h5 := h2 q
  rw [rx_get_eq] at h5
  exact h5
theorem rx_s4_some {β : Type} {l : List (List (List (List rx_E)))} {i : Nat} {e : rx_E} {k : List (List (List (List rx_E))) → Option β} {r : β} (h : rx_s4 l i e k = some r) : ∃ l', k l' = some r ∧ ∀ j, rx_g4 l' j = if j = i then e else rx_g4 l j := by
  obtain ⟨a, h1, h2⟩ := rx_s3_some h
  obtain ⟨h3, h4⟩ := rx_set_some h1
  refine ⟨_, h4, fun j => ?_⟩
  show rx_g3 (rx_get [] (l.set (i / 512) a) (j / 512)) (j % 512) = if j = i then e else rx_g3 (rx_get [] l (j / 512)) (j % 512)
  rw [rx_get_eq, rx_get_eq]
  refine rx_lev (g := rx_g3) (by decide) h3 (fun q => ?_) j
  have h5 := h2 q
  rw [rx_get_eq] at h5
  exact h5
theorem rx_s5_some {β : Type} {l : List (List (List (List (List rx_E))))} {i : Nat} {e : rx_E} {k : List (List (List (List (List rx_E)))) → Option β} {r : β} (h : rx_s5 l i e k = some r) : ∃ l', k l' = some r ∧ ∀ j, rx_g5 l' j = if j = i then e else rx_g5 l j := by
  obtain ⟨a, h1, h2⟩ := rx_s4_some h
  obtain ⟨h3, h4⟩ := rx_set_some h1
  refine ⟨_, h4, fun j => ?_⟩
  show rx_g4 (rx_get [] (l.set (i / 4096) a) (j / 4096)) (j % 4096) = if j = i then e else rx_g4 (rx_get [] l (j / 4096)) (j % 4096)
  rw [rx_get_eq, rx_get_eq]
  refine rx_lev (g := rx_g4) (by decide) h3 (fun q => ?_) j
  have h5 := h2 q
  rw [rx_get_eq] at h5
  exact h5
theorem rx_hs_some {β : Type} {h : rx_H} {i : Nat} {e : rx_E} {k : rx_H → Option β} {r : β} (hh : rx_hs h i e k = some r) : ∃ h', k h' = some r ∧ h'.1 = h.1 ∧ h'.2.1 = h.2.1 ∧ h'.2.2.1 = h.2.2.1 ∧ ∀ j, rx_hg h' j = if j = i then e else rx_hg h j := by
  obtain ⟨t, h1, h2⟩ := rx_s5_some hh
  exact ⟨_, h1, rfl, rfl, rfl, h2⟩
theorem rx_hp_some {β : Type} {h : rx_H} {e : rx_E} {k : rx_H → Option β} {r : β} (hh : rx_hp h e k = some r) : ∃ h', k h' = some r ∧ h'.1 = h.1 + 1 ∧ h'.2.1 = h.2.1 + e.2.2.1 ∧ h'.2.2.1 = h.2.2.1 ∧ ∀ j, rx_hg h' j = if j = h.1 then e else rx_hg h j := by
  unfold rx_hp at hh
  simp only [rx_f_eq] at hh
  obtain ⟨t, h1, h2⟩ := rx_s5_some hh
  exact ⟨_, h1, rfl, rfl, rfl, h2⟩
end
section
-- what lies around a run: where our cells begin, the values from outside, the classes and their places, the array classes, what else holds of a state, the tables
abbrev rx_V : Type := Nat × (Nat → Value) × va_G × List vw_C × (Nat → ClassId) × List FieldType × (State → Prop) × List Cond
abbrev eb (V : rx_V) : Nat := V.1
abbrev ex (V : rx_V) : Nat → Value := V.2.1
abbrev eD (V : rx_V) : va_G := V.2.2.1
abbrev eC (V : rx_V) : List vw_C := V.2.2.2.1
abbrev eA (V : rx_V) : Nat → ClassId := V.2.2.2.2.1
abbrev eT (V : rx_V) : List FieldType := V.2.2.2.2.2.1
abbrev eX (V : rx_V) : State → Prop := V.2.2.2.2.2.2.1
abbrev eW (V : rx_V) : List Cond := V.2.2.2.2.2.2.2
def rx_tys (V : rx_V) : List (ClassId × FieldType) := (List.range (eT V).length).map fun t => (eA V t, (eT V).getD t .int)
theorem rx_tys_at {V : rx_V} {t : Nat} {ty : FieldType} (h : (eT V)[t]? = some ty) : (rx_tys V)[t]? = some (eA V t, ty) := by
  have hl : t < (eT V).length := (List.getElem?_eq_some_iff.mp h).1
  simp [rx_tys, List.getElem?_map, List.getElem?_range hl, List.getD, h]
-- the values from outside: five whole numbers (the script's), then references or null, of cells that are not ours
def rx_Ok (V : rx_V) : Prop := (∀ k, k < 5 → ∃ v, ex V k = .int v) ∧ (∀ k, 5 ≤ k → ex V k = .null ∨ ∃ a, a < eb V ∧ ex V k = .ref a) ∧
  (∀ w ∈ eW V, (w.onTables && w.keeps) = true ∨ ∃ ty, w = .arrayClass ty) ∧
  (∀ s U : State, eX V s → s.vm.Alike U.vm → eb V ≤ s.heap.size → (∀ q, q < eb V → U.heap[q]? = s.heap[q]?) → eX V U)
def rx_En (V : rx_V) (s : State) : Prop := va_K (eD V) (eC V) (rx_tys V) s ∧ eX V s ∧ eb V ≤ s.heap.size
-- what comes of a whole number from outside by >>> of a constant (kind 0), then (byte) (1) or & 255 (2)
def rx_xi (v : Value) : Int32 := match v with
  | .int x => x
  | _ => 0
def rx_x (f : Nat → Value) (q : Nat) : Int32 :=
  let y := ((rx_xi (f (q % 5))).toUInt32 >>> ((nI (q / 5 % 32)).toUInt32 &&& Int32.toUInt32 31)).toInt32
  if q / 160 = 0 then y else if q / 160 = 1 then y.toInt8.toInt32 else y &&& 255
def rx_v (V : rx_V) (c : Nat) : Value := if c % 8 = 0 then .int (rx_di c) else if c % 8 = 1 then .long (rx_dl c) else if c % 8 = 2 then .ref (eb V + c / 8) else if c % 8 = 4 then ex V (c / 8) else if c % 8 = 5 then .int (rx_x (ex V) (c / 8)) else .null
theorem rx_v_ei (V : rx_V) (x : Int32) : rx_v V (rx_ei x) = .int x := by
  unfold rx_v rx_ei rx_di
  rw [if_pos (by omega), show 8 * x.toBitVec.toNat / 8 = x.toBitVec.toNat by omega]
  congr 1
  apply Int32.toBitVec_inj.mp
  simp
theorem rx_v_el (V : rx_V) (x : Int64) : rx_v V (rx_el x) = .long x := by
  unfold rx_v rx_el rx_dl
  rw [if_neg (by omega), if_pos (by omega), show (8 * x.toBitVec.toNat + 1) / 8 = x.toBitVec.toNat by omega]
  congr 1
  apply Int64.toBitVec_inj.mp
  simp
theorem rx_v_0 {V : rx_V} {c : Nat} (h : c % 8 = 0) : rx_v V c = .int (rx_di c) := if_pos h
theorem rx_v_1 {V : rx_V} {c : Nat} (h : c % 8 = 1) : rx_v V c = .long (rx_dl c) := by unfold rx_v; rw [if_neg (by omega), if_pos h]
theorem rx_v_2 {V : rx_V} {c : Nat} (h : c % 8 = 2) : rx_v V c = .ref (eb V + c / 8) := by unfold rx_v; rw [if_neg (by omega), if_neg (by omega), if_pos h]
theorem rx_v_3 {V : rx_V} {c : Nat} (h : c % 8 = 3) : rx_v V c = .null := by unfold rx_v; rw [if_neg (by omega), if_neg (by omega), if_neg (by omega), if_neg (by omega), if_neg (by omega)]
theorem rx_v_5 {V : rx_V} {c : Nat} (h : c % 8 = 5) : rx_v V c = .int (rx_x (ex V) (c / 8)) := by unfold rx_v; rw [if_neg (by omega), if_neg (by omega), if_neg (by omega), if_neg (by omega), if_pos h]
theorem rx_v_4 {V : rx_V} {c : Nat} (h : c % 8 = 4) : rx_v V c = ex V (c / 8) := by unfold rx_v; rw [if_neg (by omega), if_neg (by omega), if_neg (by omega), if_pos h]
def rx_ct (c : Nat) : Nat := bif Nat.beq (c % 8) 1 then 2 else 1
theorem rx_v_cat {V : rx_V} (hV : rx_Ok V) (c : Nat) : (rx_v V c).category = rx_ct c := by
  have hc : c % 8 = 0 ∨ c % 8 = 1 ∨ c % 8 = 2 ∨ c % 8 = 4 ∨ c % 8 = 5 ∨ (c % 8 = 3 ∨ c % 8 = 6 ∨ c % 8 = 7) := by omega
  unfold rx_ct
  rcases hc with h | h | h | h | h | h
  · rw [rx_v_0 h, h]; rfl
  · rw [rx_v_1 h, h]; rfl
  · rw [rx_v_2 h, h]; rfl
  · rw [rx_v_4 h, h]
    rcases Nat.lt_or_ge (c / 8) 5 with q | q
    · obtain ⟨v, e⟩ := hV.1 _ q; rw [e]; rfl
    · rcases hV.2.1 _ q with e | ⟨a, -, e⟩ <;> rw [e] <;> rfl
  · rw [rx_v_5 h, h]; rfl
  · have e : rx_v V c = .null := by unfold rx_v; rw [if_neg (by omega), if_neg (by omega), if_neg (by omega), if_neg (by omega), if_neg (by omega)]
    rw [e]
    rcases h with h | h | h <;> rw [h] <;> rfl
-- what a cell is
def rx_at (V : rx_V) (i : Nat) (e : rx_E) (H : Heap) : Prop := match e with
  | (0, ci, n, fs, _) => (∃ r, (eC V)[ci]? = some r ∧ r.2.2 = n) ∧ t_OB (eb V + i) ((eD V).1 ci) n ((eD V).2 ci) H (fun k => rx_v V (rx_fg fs k))
  | (t + 1, _, n, fs, us) => H[eb V + i]? = some (arrV (eA V t) n (fun j => rx_v V (rx_lk (rx_fg fs 0) us j)))
def rx_w (V : rx_V) (h : rx_H) (H : Heap) : Prop := H.size = eb V + h.1 ∧ (∀ i, i < h.1 → rx_at V i (rx_hg h i) H) ∧ ∀ (k : Nat) (lo hi : Int), h.2.2.1[k]? = some (lo, hi) → k < 5 ∧ ∃ v, ex V k = .int v ∧ lo ≤ v.toInt ∧ v.toInt ≤ hi
def rx_F (V : rx_V) (s : State) (H : Heap) (locs : List Loc) : Prop := (∀ q, q < eb V → H[q]? = s.heap[q]?) ∧ (∀ l ∈ locs, eb V ≤ l.base) ∧ s.heap.size ≤ H.size
def rx_L (V : rx_V) (ls : Array Slot) (nL : Nat) (lv : List Nat) : Prop := ls.size = nL ∧ lv_wf ls ∧ ∀ (i c : Nat), lv[i]? = some c → c % 8 ≠ 7 → ls[i]? = some (.val (rx_v V c))
-- a method: its class, code, locals, result, whether it is a constructor
abbrev rx_M : Type := String × ByteArray × Nat × Option FieldType × Bool
def rx_Cx (V : rx_V) (M : rx_M) (p : Program) (s : State) (m : MethodId) (args : Array Value) (meth : Method) (c : Code) : Prop :=
  p.tables.exec = Jvm.exec ∧ c.code = M.2.1 ∧ c.maxLocals = M.2.2.1 ∧ meth.sig.returnType = M.2.2.2.1 ∧ meth.locks = false ∧ s.vm.findClass M.1 = some m.cls ∧ (∀ w ∈ eW V, w.before args s = true) ∧ (M.2.2.2.2 = true → meth.name = "<init>")
def rx_r (V : rx_V) (c : Nat) : Option Value := if c % 8 = 7 then none else some (rx_v V c)
def rx_Q (V : rx_V) (r : Nat) (h : rx_H) : Array Value → State → Outcome → State → Prop := fun _ st oc t => oc = .returned (rx_r V r) ∧ rx_w V h t.heap ∧ ∀ q, q < eb V → t.heap[q]? = st.heap[q]?
def rx_OK (V : rx_V) (M : rx_M) (d pc : Nat) (f : rx_K) : Prop :=
  ∀ (lv st : List Nat) (h : rx_H) (r : Nat) (h' : rx_H), f lv st h = some (r, h') → h.1 ≤ h'.1 ∧ h.2.1 ≤ h'.2.1 ∧
    ∀ (p : Program) (l : Launch) (e : Env) (R : Room) (s : State) (m : MethodId) (args : Array Value) (below : List Frame) (meth : Method) (c : Code), rx_Cx V M p s m args meth c → rx_En V s →
      ∀ (n0 z0 : Nat), n0 ≤ h.1 → z0 ≤ h.2.1 → R.frames = d → R.locals = 100 * d → R.cells = h'.1 - n0 → R.slots = h'.2.1 - z0 →
        ∀ (H : Heap) (locs : List Loc) (ls : Array Slot), rx_w V h H → rx_F V s H locs → rx_L V ls M.2.2.1 lv →
          W p l e R s m args below meth c H locs (h.1 - n0) (h.2.1 - z0) (MQ below (rx_Q V r h') args s (h'.1 - n0) (h'.2.1 - z0) (fun q => eb V ≤ q)) (F0 m pc ls (st.map (rx_v V)))
-- one step that leaves the cells as they are
theorem rx_pure {V : rx_V} {M : rx_M} {d pc : Nat} {f : rx_K} (h0 : ∀ (lv st : List Nat) (h : rx_H) (r : Nat) (h' : rx_H), f lv st h = some (r, h') → ∃ (pc' : Nat) (g : rx_K) (lv' st' : List Nat), rx_OK V M d pc' g ∧ g lv' st' h = some (r, h') ∧
    ∀ (p : Program) (l : Launch) (e : Env) (R : Room) (s : State) (m : MethodId) (args : Array Value) (below : List Frame) (meth : Method) (c : Code), rx_Cx V M p s m args meth c → rx_En V s → ∀ (H : Heap) (locs : List Loc) (ls : Array Slot) (cells slots : Nat) (Q : State → Prop), rx_w V h H → rx_F V s H locs → rx_L V ls M.2.2.1 lv →
      (∀ ls' : Array Slot, rx_L V ls' M.2.2.1 lv' → W p l e R s m args below meth c H locs cells slots Q (F0 m pc' ls' (st'.map (rx_v V)))) → W p l e R s m args below meth c H locs cells slots Q (F0 m pc ls (st.map (rx_v V)))) : rx_OK V M d pc f := by
  intro lv st h r h' hf
  obtain ⟨pc', g, lv', st', hg, hgf, hw⟩ := h0 lv st h r h' hf
  obtain ⟨m1, m2, kk⟩ := hg lv' st' h r h' hgf
  refine ⟨m1, m2, fun p l e R s m args below meth c hC hE n0 z0 hn hz hR1 hR2 hR3 hR4 H locs ls hW hF hL => ?_⟩
  exact hw p l e R s m args below meth c hC hE H locs ls _ _ _ hW hF hL (fun ls' hL' => kk p l e R s m args below meth c hC hE n0 z0 hn hz hR1 hR2 hR3 hR4 H locs ls' hW hF hL')
end
section
-- what kind of value a code is
def rx_isI (c : Nat) : Bool := Nat.beq (c % 8) 0 || (Nat.beq (c % 8) 5 || (Nat.beq (c % 8) 4 && Nat.blt (c / 8) 5))
def rx_isR (c : Nat) : Bool := Nat.beq (c % 8) 2 || (Nat.beq (c % 8) 3 || (Nat.beq (c % 8) 4 && Nat.ble 5 (c / 8)))
def rx_isL (c : Nat) : Bool := Nat.beq (c % 8) 1
theorem rx_beq {a b : Nat} (h : Nat.beq a b = true) : a = b := Nat.eq_of_beq_eq_true h
theorem rx_isI_v {V : rx_V} (hV : rx_Ok V) {c : Nat} (h : rx_isI c = true) : c % 8 ≠ 7 ∧ ∃ x, rx_v V c = .int x := by
  unfold rx_isI at h
  rcases Bool.or_eq_true_iff.mp h with h | h
  · have e := rx_beq h
    exact ⟨by omega, _, rx_v_0 e⟩
  · rcases Bool.or_eq_true_iff.mp h with h | h
    · have e := rx_beq h
      exact ⟨by omega, _, rx_v_5 e⟩
    · obtain ⟨h1, h2⟩ := Bool.and_eq_true_iff.mp h
      have e := rx_beq h1
      obtain ⟨v, q⟩ := hV.1 (c / 8) (Nat.le_of_ble_eq_true h2)
      exact ⟨by omega, v, by rw [rx_v_4 e, q]⟩
theorem rx_isR_v {V : rx_V} (hV : rx_Ok V) {c : Nat} (h : rx_isR c = true) : c % 8 ≠ 7 ∧ (rx_v V c = .null ∨ ∃ a, rx_v V c = .ref a) := by
  unfold rx_isR at h
  rcases Bool.or_eq_true_iff.mp h with h | h
  · have e := rx_beq h
    exact ⟨by omega, Or.inr ⟨_, rx_v_2 e⟩⟩
  · rcases Bool.or_eq_true_iff.mp h with h | h
    · have e := rx_beq h
      exact ⟨by omega, Or.inl (rx_v_3 e)⟩
    · obtain ⟨h1, h2⟩ := Bool.and_eq_true_iff.mp h
      have e := rx_beq h1
      refine ⟨by omega, ?_⟩
      rw [rx_v_4 e]
      rcases hV.2.1 (c / 8) (Nat.le_of_ble_eq_true h2) with q | ⟨a, -, q⟩
      · exact Or.inl q
      · exact Or.inr ⟨a, q⟩
theorem rx_isL_v {V : rx_V} {c : Nat} (h : rx_isL c = true) : c % 8 = 1 ∧ rx_v V c = .long (rx_dl c) := ⟨rx_beq h, rx_v_1 (rx_beq h)⟩
theorem rx_bif {α : Type} {b : Bool} {x y : Option α} {r : α} (h : (bif b then x else y) = some r) : (b = true ∧ x = some r) ∨ (b = false ∧ y = some r) := by cases b <;> simp_all
theorem rx_bifn {α : Type} {b : Bool} {x : Option α} {r : α} (h : (bif b then x else none) = some r) : b = true ∧ x = some r := by cases b <;> simp_all
-- locals
noncomputable def o_ld (chk : Nat → Bool) (i : Nat) (k : rx_K) : rx_K := fun lv st h => rx_f (rx_get 7 lv i) fun c => bif chk c then k lv (c :: st) h else none
theorem rx_L_at {V : rx_V} {ls : Array Slot} {nL i : Nat} {lv : List Nat} (hL : rx_L V ls nL lv) (h7 : rx_get 7 lv i % 8 ≠ 7) : ls[i]? = some (.val (rx_v V (rx_get 7 lv i))) := by
  rw [rx_get_eq] at h7 ⊢
  cases e : lv[i]? with
  | none => exfalso; apply h7; simp [List.getD, e]
  | some c =>
    have e2 : lv.getD i 7 = c := by simp [List.getD, e]
    rw [e2] at h7 ⊢
    exact hL.2.2 i c e h7
noncomputable def rx_st1 {β : Type} (lv : List Nat) (i v : Nat) (k : List Nat → Option β) : Option β :=
  rx_set lv i v fun l1 => Nat.rec (motive := fun _ => Option β) (k l1) (fun j _ => bif rx_isL (rx_get 7 lv j) then rx_set l1 j 7 k else k l1) i
noncomputable def rx_st2 {β : Type} (lv : List Nat) (i v : Nat) (k : List Nat → Option β) : Option β :=
  rx_set lv (i + 1) 7 fun l0 => rx_st1 l0 i v k
def rx_as (V : rx_V) (lv : List Nat) : List (Nat × Value) := (List.range lv.length).filterMap fun i => if lv.getD i 7 % 8 = 7 then none else some (i, rx_v V (lv.getD i 7))
theorem rx_as_mem {V : rx_V} {lv : List Nat} {q : Nat × Value} : q ∈ rx_as V lv ↔ ∃ i c, lv[i]? = some c ∧ c % 8 ≠ 7 ∧ q = (i, rx_v V c) := by
  unfold rx_as
  rw [List.mem_filterMap]
  constructor
  · rintro ⟨i, hi, he⟩
    have hl := List.mem_range.mp hi
    have e1 : lv[i]? = some (lv.getD i 7) := by simp [List.getD, List.getElem?_eq_getElem hl]
    by_cases h7 : lv.getD i 7 % 8 = 7
    · rw [if_pos h7] at he; cases he
    · rw [if_neg h7] at he
      exact ⟨i, _, e1, h7, (Option.some.inj he).symm⟩
  · rintro ⟨i, c, e, h7, rfl⟩
    have hl : i < lv.length := (List.getElem?_eq_some_iff.mp e).1
    refine ⟨i, List.mem_range.mpr hl, ?_⟩
    have e2 : lv.getD i 7 = c := by simp [List.getD, e]
    rw [e2, if_neg h7]
theorem rx_L_has {V : rx_V} {ls : Array Slot} {nL : Nat} {lv : List Nat} (hL : rx_L V ls nL lv) : lv_has ls nL (rx_as V lv) := by
  refine ⟨hL.1, hL.2.1, fun q hq => ?_⟩
  obtain ⟨i, c, e, h7, rfl⟩ := rx_as_mem.mp hq
  exact hL.2.2 i c e h7
theorem rx_st1_some {β : Type} {lv : List Nat} {i v : Nat} {k : List Nat → Option β} {r : β} (h : rx_st1 lv i v k = some r) : ∃ lv', k lv' = some r ∧ ∀ (j c : Nat), lv'[j]? = some c → c % 8 ≠ 7 → (j = i ∧ c = v) ∨ (j ≠ i ∧ lv[j]? = some c ∧ ¬ (j + 1 = i ∧ c % 8 = 1)) := by
  obtain ⟨h1, h2⟩ := rx_set_some h
  have key : ∀ (j c : Nat), (lv.set i v)[j]? = some c → (j = i ∧ c = v) ∨ (j ≠ i ∧ lv[j]? = some c) := by
    intro j c hj
    by_cases e : j = i
    · subst e
      rw [List.getElem?_set_self h1] at hj
      exact Or.inl ⟨rfl, (Option.some.inj hj).symm⟩
    · rw [List.getElem?_set_ne (fun q => e q.symm)] at hj
      exact Or.inr ⟨e, hj⟩
  cases i with
  | zero =>
    refine ⟨_, h2, fun j c hj h7 => ?_⟩
    rcases key j c hj with q | ⟨q1, q2⟩
    · exact Or.inl q
    · exact Or.inr ⟨q1, q2, fun z => by omega⟩
  | succ i =>
    rcases rx_bif h2 with ⟨hb, h3⟩ | ⟨hb, h3⟩
    · obtain ⟨h4, h5⟩ := rx_set_some h3
      refine ⟨_, h5, fun j c hj h7 => ?_⟩
      by_cases e : j = i
      · subst e
        rw [List.getElem?_set_self h4] at hj
        have := Option.some.inj hj
        omega
      · rw [List.getElem?_set_ne (fun q => e q.symm)] at hj
        rcases key j c hj with q | ⟨q1, q2⟩
        · exact Or.inl q
        · exact Or.inr ⟨q1, q2, fun z => e (by omega)⟩
    · refine ⟨_, h3, fun j c hj h7 => ?_⟩
      rcases key j c hj with q | ⟨q1, q2⟩
      · exact Or.inl q
      · refine Or.inr ⟨q1, q2, fun z => ?_⟩
        obtain ⟨z1, z2⟩ := z
        have z3 : j = i := by omega
        subst z3
        rw [rx_get_eq] at hb
        have e2 : lv.getD j 7 = c := by simp [List.getD, q2]
        rw [e2] at hb
        unfold rx_isL at hb
        rw [z2] at hb
        cases hb
theorem rx_L_st1 {V : rx_V} (hV : rx_Ok V) {ls' : Array Slot} {nL i v : Nat} {lv lv' : List Nat} (hh : lv_has ls' nL ((i, rx_v V v) :: (rx_as V lv).filter (fun q => !(q.1 == i) && !(q.1 + 1 == i && q.2.category == 2)))) (hk : ∀ (j c : Nat), lv'[j]? = some c → c % 8 ≠ 7 → (j = i ∧ c = v) ∨ (j ≠ i ∧ lv[j]? = some c ∧ ¬ (j + 1 = i ∧ c % 8 = 1))) : rx_L V ls' nL lv' := by
  refine ⟨hh.1, hh.2.1, fun j c hj h7 => ?_⟩
  rcases hk j c hj h7 with ⟨rfl, rfl⟩ | ⟨h1, h2, h3⟩
  · exact hh.2.2 _ List.mem_cons_self
  · refine hh.2.2 (j, rx_v V c) (List.mem_cons_of_mem _ (List.mem_filter.mpr ⟨rx_as_mem.mpr ⟨j, c, h2, h7, rfl⟩, ?_⟩))
    have e1 : (j == i) = false := by simp [h1]
    rw [rx_v_cat hV]
    by_cases e2 : j + 1 = i
    · have e3 : c % 8 ≠ 1 := fun z => h3 ⟨e2, z⟩
      have e4 : Nat.beq (c % 8) 1 = false := by
        rw [Bool.eq_false_iff]; intro q; exact e3 (rx_beq q)
      simp [e1, rx_ct, e4]
    · simp [e1, e2]
theorem rx_st2_some {β : Type} {lv : List Nat} {i v : Nat} {k : List Nat → Option β} {r : β} (h : rx_st2 lv i v k = some r) : ∃ lv', k lv' = some r ∧ ∀ (j c : Nat), lv'[j]? = some c → c % 8 ≠ 7 → (j = i ∧ c = v) ∨ (j ≠ i ∧ j ≠ i + 1 ∧ lv[j]? = some c ∧ ¬ (j + 1 = i ∧ c % 8 = 1)) := by
  obtain ⟨h1, h2⟩ := rx_set_some h
  obtain ⟨lv', h3, h4⟩ := rx_st1_some h2
  refine ⟨lv', h3, fun j c hj h7 => ?_⟩
  rcases h4 j c hj h7 with q | ⟨q1, q2, q3⟩
  · exact Or.inl q
  · by_cases e : j = i + 1
    · subst e
      rw [List.getElem?_set_self h1] at q2
      have := Option.some.inj q2
      omega
    · rw [List.getElem?_set_ne (fun q => e q.symm)] at q2
      exact Or.inr ⟨q1, e, q2, q3⟩
theorem rx_L_st2 {V : rx_V} (hV : rx_Ok V) {ls' : Array Slot} {nL i v : Nat} {lv lv' : List Nat} (hh : lv_has ls' nL ((i, rx_v V v) :: (rx_as V lv).filter (fun q => !(q.1 == i) && (!(q.1 == i + 1) && !(q.1 + 1 == i && q.2.category == 2))))) (hk : ∀ (j c : Nat), lv'[j]? = some c → c % 8 ≠ 7 → (j = i ∧ c = v) ∨ (j ≠ i ∧ j ≠ i + 1 ∧ lv[j]? = some c ∧ ¬ (j + 1 = i ∧ c % 8 = 1))) : rx_L V ls' nL lv' := by
  refine ⟨hh.1, hh.2.1, fun j c hj h7 => ?_⟩
  rcases hk j c hj h7 with ⟨rfl, rfl⟩ | ⟨h1, h1', h2, h3⟩
  · exact hh.2.2 _ List.mem_cons_self
  · refine hh.2.2 (j, rx_v V c) (List.mem_cons_of_mem _ (List.mem_filter.mpr ⟨rx_as_mem.mpr ⟨j, c, h2, h7, rfl⟩, ?_⟩))
    have e1 : (j == i) = false := by simp [h1]
    have e1' : (j == i + 1) = false := by simp [h1']
    rw [rx_v_cat hV]
    by_cases e2 : j + 1 = i
    · have e3 : c % 8 ≠ 1 := fun z => h3 ⟨e2, z⟩
      have e4 : Nat.beq (c % 8) 1 = false := by
        rw [Bool.eq_false_iff]; intro q; exact e3 (rx_beq q)
      simp [e1, e1', rx_ct, e4]
    · simp [e1, e1', e2]
end
section
section RX13
variable {V : rx_V} {M : rx_M} {d pc : Nat} {f t : rx_K}
theorem s_iload_n (hV : rx_Ok V) {k : Fin 4} {i : Nat} (hdg : decode M.2.1 pc = .ok (.iload_n k, 1)) (hi : (k : Nat) = i) (hk : rx_OK V M d (pc + 1) f) : rx_OK V M d pc (o_ld rx_isI i f) := by
  refine rx_pure fun lv st h r h' hf => ?_
  simp only [o_ld, rx_f_eq] at hf
  obtain ⟨hc, hf⟩ := rx_bifn hf
  obtain ⟨h7, x, ex⟩ := rx_isI_v hV hc
  refine ⟨pc + 1, f, lv, _, hk, hf, fun p l e R s m args below meth c hC hE H locs ls cells slots Q hW hF hL kk => ?_⟩
  have h2 := kk ls hL
  have h3 := rx_L_at hL h7
  rw [ex] at h3
  rw [List.map_cons, ex] at h2
  exact lv_iload_n hC.1 hC.2.1 hdg hi h3 h2
theorem s_iload (hV : rx_Ok V) {i : Nat} (hdg : decode M.2.1 pc = .ok (.iload i, 2)) (hk : rx_OK V M d (pc + 2) f) : rx_OK V M d pc (o_ld rx_isI i f) := by
  refine rx_pure fun lv st h r h' hf => ?_
  simp only [o_ld, rx_f_eq] at hf
  obtain ⟨hc, hf⟩ := rx_bifn hf
  obtain ⟨h7, x, ex⟩ := rx_isI_v hV hc
  refine ⟨pc + 2, f, lv, _, hk, hf, fun p l e R s m args below meth c hC hE H locs ls cells slots Q hW hF hL kk => ?_⟩
  have h2 := kk ls hL
  have h3 := rx_L_at hL h7
  rw [ex] at h3
  rw [List.map_cons, ex] at h2
  exact lv_iload hC.1 hC.2.1 hdg h3 h2
theorem s_aload_n (hV : rx_Ok V) {k : Fin 4} {i : Nat} (hdg : decode M.2.1 pc = .ok (.aload_n k, 1)) (hi : (k : Nat) = i) (hk : rx_OK V M d (pc + 1) f) : rx_OK V M d pc (o_ld rx_isR i f) := by
  refine rx_pure fun lv st h r h' hf => ?_
  simp only [o_ld, rx_f_eq] at hf
  obtain ⟨hc, hf⟩ := rx_bifn hf
  obtain ⟨h7, hx⟩ := rx_isR_v hV hc
  refine ⟨pc + 1, f, lv, _, hk, hf, fun p l e R s m args below meth c hC hE H locs ls cells slots Q hW hF hL kk => ?_⟩
  have h2 := kk ls hL
  have h3 := rx_L_at hL h7
  rw [List.map_cons] at h2
  rcases hx with ex | ⟨a, ex⟩
  · rw [ex] at h2 h3
    exact lv_aload_nN hC.1 hC.2.1 hdg hi h3 h2
  · rw [ex] at h2 h3
    exact lv_aload_n hC.1 hC.2.1 hdg hi h3 h2
theorem s_aload (hV : rx_Ok V) {i : Nat} (hdg : decode M.2.1 pc = .ok (.aload i, 2)) (hk : rx_OK V M d (pc + 2) f) : rx_OK V M d pc (o_ld rx_isR i f) := by
  refine rx_pure fun lv st h r h' hf => ?_
  simp only [o_ld, rx_f_eq] at hf
  obtain ⟨hc, hf⟩ := rx_bifn hf
  obtain ⟨h7, hx⟩ := rx_isR_v hV hc
  refine ⟨pc + 2, f, lv, _, hk, hf, fun p l e R s m args below meth c hC hE H locs ls cells slots Q hW hF hL kk => ?_⟩
  have h2 := kk ls hL
  have h3 := rx_L_at hL h7
  rw [List.map_cons] at h2
  rcases hx with ex | ⟨a, ex⟩
  · rw [ex] at h2 h3
    exact lv_aloadN hC.1 hC.2.1 hdg h3 h2
  · rw [ex] at h2 h3
    exact lv_aload hC.1 hC.2.1 hdg h3 h2
theorem s_lload_n (hV : rx_Ok V) {k : Fin 4} {i : Nat} (hdg : decode M.2.1 pc = .ok (.lload_n k, 1)) (hi : (k : Nat) = i) (hk : rx_OK V M d (pc + 1) f) : rx_OK V M d pc (o_ld rx_isL i f) := by
  refine rx_pure fun lv st h r h' hf => ?_
  simp only [o_ld, rx_f_eq] at hf
  obtain ⟨hc, hf⟩ := rx_bifn hf
  obtain ⟨h7, ex⟩ := rx_isL_v (V := V) hc
  refine ⟨pc + 1, f, lv, _, hk, hf, fun p l e R s m args below meth c hC hE H locs ls cells slots Q hW hF hL kk => ?_⟩
  have h2 := kk ls hL
  have h3 := rx_L_at (i := i) hL (by omega)
  rw [ex] at h3
  rw [List.map_cons, ex] at h2
  exact lv_lload_n hC.1 hC.2.1 hdg hi h3 h2
theorem s_lload (hV : rx_Ok V) {i : Nat} (hdg : decode M.2.1 pc = .ok (.lload i, 2)) (hk : rx_OK V M d (pc + 2) f) : rx_OK V M d pc (o_ld rx_isL i f) := by
  refine rx_pure fun lv st h r h' hf => ?_
  simp only [o_ld, rx_f_eq] at hf
  obtain ⟨hc, hf⟩ := rx_bifn hf
  obtain ⟨h7, ex⟩ := rx_isL_v (V := V) hc
  refine ⟨pc + 2, f, lv, _, hk, hf, fun p l e R s m args below meth c hC hE H locs ls cells slots Q hW hF hL kk => ?_⟩
  have h2 := kk ls hL
  have h3 := rx_L_at (i := i) hL (by omega)
  rw [ex] at h3
  rw [List.map_cons, ex] at h2
  exact lv_lload hC.1 hC.2.1 hdg h3 h2
noncomputable def o_st (chk : Nat → Bool) (i : Nat) (k : rx_K) : rx_K := fun lv st h => match st with
  | v :: r => bif chk v then rx_st1 lv i v fun lv' => k lv' r h else none
  | _ => none
noncomputable def o_stL (i : Nat) (k : rx_K) : rx_K := fun lv st h => match st with
  | v :: r => bif rx_isL v then rx_st2 lv i v fun lv' => k lv' r h else none
  | _ => none
theorem s_istore_n (hV : rx_Ok V) {k : Fin 4} {i : Nat} (hdg : decode M.2.1 pc = .ok (.istore_n k, 1)) (hi : (k : Nat) = i) (hn : i < M.2.2.1) (hk : rx_OK V M d (pc + 1) f) : rx_OK V M d pc (o_st rx_isI i f) := by
  refine rx_pure fun lv st h r h' hf => ?_
  match st, hf with
  | [], hf => cases hf
  | v :: st, hf =>
  simp only [o_st] at hf
  obtain ⟨hc, hf⟩ := rx_bifn hf
  obtain ⟨lv', hf, hlv⟩ := rx_st1_some hf
  refine ⟨pc + 1, f, lv', st, hk, hf, fun p l e R s m args below meth c hC hE H locs ls cells slots Q hW hF hL kk => ?_⟩
  rw [List.map_cons]
  obtain ⟨h7, x, ex⟩ := rx_isI_v hV hc
  rw [ex]
  refine lv_istore_n hC.1 hC.2.1 hdg hi (rx_L_has hL) hn rfl fun ls' hh => kk ls' (rx_L_st1 hV (v := v) ?_ hlv)
  rw [ex]
  exact hh
theorem s_istore (hV : rx_Ok V) {i : Nat} (hdg : decode M.2.1 pc = .ok (.istore i, 2)) (hn : i < M.2.2.1) (hk : rx_OK V M d (pc + 2) f) : rx_OK V M d pc (o_st rx_isI i f) := by
  refine rx_pure fun lv st h r h' hf => ?_
  match st, hf with
  | [], hf => cases hf
  | v :: st, hf =>
  simp only [o_st] at hf
  obtain ⟨hc, hf⟩ := rx_bifn hf
  obtain ⟨lv', hf, hlv⟩ := rx_st1_some hf
  refine ⟨pc + 2, f, lv', st, hk, hf, fun p l e R s m args below meth c hC hE H locs ls cells slots Q hW hF hL kk => ?_⟩
  rw [List.map_cons]
  obtain ⟨h7, x, ex⟩ := rx_isI_v hV hc
  rw [ex]
  refine lv_istore hC.1 hC.2.1 hdg (rx_L_has hL) hn rfl fun ls' hh => kk ls' (rx_L_st1 hV (v := v) ?_ hlv)
  rw [ex]
  exact hh
theorem s_astore_n (hV : rx_Ok V) {k : Fin 4} {i : Nat} (hdg : decode M.2.1 pc = .ok (.astore_n k, 1)) (hi : (k : Nat) = i) (hn : i < M.2.2.1) (hk : rx_OK V M d (pc + 1) f) : rx_OK V M d pc (o_st rx_isR i f) := by
  refine rx_pure fun lv st h r h' hf => ?_
  match st, hf with
  | [], hf => cases hf
  | v :: st, hf =>
  simp only [o_st] at hf
  obtain ⟨hc, hf⟩ := rx_bifn hf
  obtain ⟨lv', hf, hlv⟩ := rx_st1_some hf
  refine ⟨pc + 1, f, lv', st, hk, hf, fun p l e R s m args below meth c hC hE H locs ls cells slots Q hW hF hL kk => ?_⟩
  rw [List.map_cons]
  obtain ⟨h7, hx⟩ := rx_isR_v hV hc
  rcases hx with ex | ⟨a, ex⟩
  · rw [ex]
    refine lv_astore_nN hC.1 hC.2.1 hdg hi (rx_L_has hL) hn rfl fun ls' hh => kk ls' (rx_L_st1 hV (v := v) ?_ hlv)
    rw [ex]
    exact hh
  · rw [ex]
    refine lv_astore_n hC.1 hC.2.1 hdg hi (rx_L_has hL) hn rfl fun ls' hh => kk ls' (rx_L_st1 hV (v := v) ?_ hlv)
    rw [ex]
    exact hh
theorem s_astore (hV : rx_Ok V) {i : Nat} (hdg : decode M.2.1 pc = .ok (.astore i, 2)) (hn : i < M.2.2.1) (hk : rx_OK V M d (pc + 2) f) : rx_OK V M d pc (o_st rx_isR i f) := by
  refine rx_pure fun lv st h r h' hf => ?_
  match st, hf with
  | [], hf => cases hf
  | v :: st, hf =>
  simp only [o_st] at hf
  obtain ⟨hc, hf⟩ := rx_bifn hf
  obtain ⟨lv', hf, hlv⟩ := rx_st1_some hf
  refine ⟨pc + 2, f, lv', st, hk, hf, fun p l e R s m args below meth c hC hE H locs ls cells slots Q hW hF hL kk => ?_⟩
  rw [List.map_cons]
  obtain ⟨h7, hx⟩ := rx_isR_v hV hc
  rcases hx with ex | ⟨a, ex⟩
  · rw [ex]
    refine lv_astoreN hC.1 hC.2.1 hdg (rx_L_has hL) hn rfl fun ls' hh => kk ls' (rx_L_st1 hV (v := v) ?_ hlv)
    rw [ex]
    exact hh
  · rw [ex]
    refine lv_astore hC.1 hC.2.1 hdg (rx_L_has hL) hn rfl fun ls' hh => kk ls' (rx_L_st1 hV (v := v) ?_ hlv)
    rw [ex]
    exact hh
theorem s_lstore_n (hV : rx_Ok V) {k : Fin 4} {i : Nat} (hdg : decode M.2.1 pc = .ok (.lstore_n k, 1)) (hi : (k : Nat) = i) (hn : i + 1 < M.2.2.1) (hk : rx_OK V M d (pc + 1) f) : rx_OK V M d pc (o_stL i f) := by
  refine rx_pure fun lv st h r h' hf => ?_
  match st, hf with
  | [], hf => cases hf
  | v :: st, hf =>
  simp only [o_stL] at hf
  obtain ⟨hc, hf⟩ := rx_bifn hf
  obtain ⟨lv', hf, hlv⟩ := rx_st2_some hf
  obtain ⟨h7, ex⟩ := rx_isL_v (V := V) hc
  refine ⟨pc + 1, f, lv', st, hk, hf, fun p l e R s m args below meth c hC hE H locs ls cells slots Q hW hF hL kk => ?_⟩
  rw [List.map_cons, ex]
  refine lv_lstore_n hC.1 hC.2.1 hdg hi (rx_L_has hL) hn rfl fun ls' hh => kk ls' (rx_L_st2 hV (v := v) ?_ hlv)
  rw [ex]
  exact hh
theorem s_lstore (hV : rx_Ok V) {i : Nat} (hdg : decode M.2.1 pc = .ok (.lstore i, 2)) (hn : i + 1 < M.2.2.1) (hk : rx_OK V M d (pc + 2) f) : rx_OK V M d pc (o_stL i f) := by
  refine rx_pure fun lv st h r h' hf => ?_
  match st, hf with
  | [], hf => cases hf
  | v :: st, hf =>
  simp only [o_stL] at hf
  obtain ⟨hc, hf⟩ := rx_bifn hf
  obtain ⟨lv', hf, hlv⟩ := rx_st2_some hf
  obtain ⟨h7, ex⟩ := rx_isL_v (V := V) hc
  refine ⟨pc + 2, f, lv', st, hk, hf, fun p l e R s m args below meth c hC hE H locs ls cells slots Q hW hF hL kk => ?_⟩
  rw [List.map_cons, ex]
  refine lv_lstore hC.1 hC.2.1 hdg (rx_L_has hL) hn rfl fun ls' hh => kk ls' (rx_L_st2 hV (v := v) ?_ hlv)
  rw [ex]
  exact hh
noncomputable def o_inc (i : Nat) (n : Int) (k : rx_K) : rx_K := fun lv st h => rx_f (rx_get 7 lv i) fun c => bif Nat.beq (c % 8) 0 then rx_f (rx_ei (rx_di c + Int32.ofInt n)) fun v => rx_st1 lv i v fun lv' => k lv' st h else none
theorem s_iinc (hV : rx_Ok V) {i : Nat} {n : Int} (hdg : decode M.2.1 pc = .ok (.iinc i n, 3)) (hn : i < M.2.2.1) (hk : rx_OK V M d (pc + 3) f) : rx_OK V M d pc (o_inc i n f) := by
  refine rx_pure fun lv st h r h' hf => ?_
  simp only [o_inc, rx_f_eq] at hf
  obtain ⟨hc, hf⟩ := rx_bifn hf
  have h0 := rx_beq hc
  obtain ⟨lv', hf, hlv⟩ := rx_st1_some hf
  refine ⟨pc + 3, f, lv', st, hk, hf, fun p l e R s m args below meth c hC hE H locs ls cells slots Q hW hF hL kk => ?_⟩
  have ev := rx_v_0 (V := V) h0
  have hmem : (i, Value.int (rx_di (rx_get 7 lv i))) ∈ rx_as V lv := by
    rw [← ev]
    rw [rx_get_eq] at h0 ⊢
    cases q : lv[i]? with
    | none => rw [show lv.getD i 7 = 7 by simp [List.getD, q]] at h0; omega
    | some c0 =>
      have q2 : lv.getD i 7 = c0 := by simp [List.getD, q]
      rw [q2] at h0 ⊢
      exact rx_as_mem.mpr ⟨i, c0, q, by omega, rfl⟩
  obtain ⟨k0, hk0⟩ := List.mem_iff_getElem?.mp hmem
  refine lv_iinc hC.1 hC.2.1 hdg (rx_L_has hL) hk0 rfl hn rfl fun ls' hh => kk ls' (rx_L_st1 hV (v := rx_ei (rx_di (rx_get 7 lv i) + Int32.ofInt n)) ?_ hlv)
  rw [rx_v_ei]
  exact hh
noncomputable def o_const (c : Nat) (k : rx_K) : rx_K := fun lv st h => k lv (c :: st) h
theorem s_iconst {n : Int} {v : Nat} (hdg : decode M.2.1 pc = .ok (.iconst n, 1)) (hv : rx_ei (Int32.ofInt n) = v) (hk : rx_OK V M d (pc + 1) f) : rx_OK V M d pc (o_const v f) := by
  subst hv
  refine rx_pure fun lv st h r h' hf => ?_
  refine ⟨pc + 1, f, lv, _, hk, hf, fun p l e R s m args below meth c hC hE H locs ls cells slots Q hW hF hL kk => ?_⟩
  have h2 := kk ls hL
  rw [List.map_cons, rx_v_ei] at h2
  exact lv_iconst hC.1 hC.2.1 hdg rfl h2
theorem s_bipush {n : Int} {v : Nat} (hdg : decode M.2.1 pc = .ok (.bipush n, 2)) (hv : rx_ei (Int8.ofInt n).toInt32 = v) (hk : rx_OK V M d (pc + 2) f) : rx_OK V M d pc (o_const v f) := by
  subst hv
  refine rx_pure fun lv st h r h' hf => ?_
  refine ⟨pc + 2, f, lv, _, hk, hf, fun p l e R s m args below meth c hC hE H locs ls cells slots Q hW hF hL kk => ?_⟩
  have h2 := kk ls hL
  rw [List.map_cons, rx_v_ei] at h2
  exact lv_bipush hC.1 hC.2.1 hdg rfl h2
theorem s_sipush {n : Int} {v : Nat} (hdg : decode M.2.1 pc = .ok (.sipush n, 3)) (hv : rx_ei (Int16.ofInt n).toInt32 = v) (hk : rx_OK V M d (pc + 3) f) : rx_OK V M d pc (o_const v f) := by
  subst hv
  refine rx_pure fun lv st h r h' hf => ?_
  refine ⟨pc + 3, f, lv, _, hk, hf, fun p l e R s m args below meth c hC hE H locs ls cells slots Q hW hF hL kk => ?_⟩
  have h2 := kk ls hL
  rw [List.map_cons, rx_v_ei] at h2
  exact lv_sipush hC.1 hC.2.1 hdg rfl h2
theorem s_lconst {n : Fin 2} {v : Nat} (hdg : decode M.2.1 pc = .ok (.lconst n, 1)) (hv : rx_el (Int64.ofNat (n : Nat)) = v) (hk : rx_OK V M d (pc + 1) f) : rx_OK V M d pc (o_const v f) := by
  subst hv
  refine rx_pure fun lv st h r h' hf => ?_
  refine ⟨pc + 1, f, lv, _, hk, hf, fun p l e R s m args below meth c hC hE H locs ls cells slots Q hW hF hL kk => ?_⟩
  have h2 := kk ls hL
  rw [List.map_cons, rx_v_el] at h2
  exact lv_lconst hC.1 hC.2.1 hdg rfl h2
theorem s_null (hdg : decode M.2.1 pc = .ok (.aconst_null, 1)) (hk : rx_OK V M d (pc + 1) f) : rx_OK V M d pc (o_const 3 f) := by
  refine rx_pure fun lv st h r h' hf => ?_
  refine ⟨pc + 1, f, lv, _, hk, hf, fun p l e R s m args below meth c hC hE H locs ls cells slots Q hW hF hL kk => ?_⟩
  have h2 := kk ls hL
  rw [List.map_cons, rx_v_3 rfl] at h2
  exact lv_null hC.1 hC.2.1 hdg h2
theorem s_ldc {index v : Nat} {x : Int32} (hdg : decode M.2.1 pc = .ok (.ldc index, 2)) (hw : Cond.constant M.1 index x ∈ eW V) (hv : rx_ei x = v) (hk : rx_OK V M d (pc + 2) f) : rx_OK V M d pc (o_const v f) := by
  subst hv
  refine rx_pure fun lv st h r h' hf => ?_
  refine ⟨pc + 2, f, lv, _, hk, hf, fun p l e R s m args below meth c hC hE H locs ls cells slots Q hW hF hL kk => ?_⟩
  have h2 := kk ls hL
  rw [List.map_cons, rx_v_ei] at h2
  exact lv_ldc hC.1 hC.2.1 hC.2.2.2.2.2.1 (hC.2.2.2.2.2.2.1 _ hw) hdg h2
theorem s_ldcw {index v : Nat} {x : Int32} (hdg : decode M.2.1 pc = .ok (.ldc_w index, 3)) (hw : Cond.constant M.1 index x ∈ eW V) (hv : rx_ei x = v) (hk : rx_OK V M d (pc + 3) f) : rx_OK V M d pc (o_const v f) := by
  subst hv
  refine rx_pure fun lv st h r h' hf => ?_
  refine ⟨pc + 3, f, lv, _, hk, hf, fun p l e R s m args below meth c hC hE H locs ls cells slots Q hW hF hL kk => ?_⟩
  have h2 := kk ls hL
  rw [List.map_cons, rx_v_ei] at h2
  exact lv_ldcw hC.1 hC.2.1 hC.2.2.2.2.2.1 (hC.2.2.2.2.2.2.1 _ hw) hdg h2
theorem s_ldc2 {index v : Nat} {x : Int64} (hdg : decode M.2.1 pc = .ok (.ldc2_w index, 3)) (hw : Cond.constantLong M.1 index x ∈ eW V) (hv : rx_el x = v) (hk : rx_OK V M d (pc + 3) f) : rx_OK V M d pc (o_const v f) := by
  subst hv
  refine rx_pure fun lv st h r h' hf => ?_
  refine ⟨pc + 3, f, lv, _, hk, hf, fun p l e R s m args below meth c hC hE H locs ls cells slots Q hW hF hL kk => ?_⟩
  have h2 := kk ls hL
  rw [List.map_cons, rx_v_el] at h2
  exact lv_ldc2 hC.1 hC.2.1 hC.2.2.2.2.2.1 (hC.2.2.2.2.2.2.1 _ hw) hdg h2
noncomputable def o_bi (g : Int32 → Int32 → Int32) (k : rx_K) : rx_K := fun lv st h => match st with
  | y :: x :: r => bif Nat.beq (y % 8) 0 && Nat.beq (x % 8) 0 then rx_f (rx_ei (g (rx_di x) (rx_di y))) fun v => k lv (v :: r) h else none
  | _ => none
noncomputable def o_bl (g : Int64 → Int64 → Int64) (k : rx_K) : rx_K := fun lv st h => match st with
  | y :: x :: r => bif Nat.beq (y % 8) 1 && Nat.beq (x % 8) 1 then rx_f (rx_el (g (rx_dl x) (rx_dl y))) fun v => k lv (v :: r) h else none
  | _ => none
noncomputable def o_bs (g : Int64 → Int32 → Int64) (k : rx_K) : rx_K := fun lv st h => match st with
  | y :: x :: r => bif Nat.beq (y % 8) 0 && Nat.beq (x % 8) 1 then rx_f (rx_el (g (rx_dl x) (rx_di y))) fun v => k lv (v :: r) h else none
  | _ => none
noncomputable def o_bc (g : Int64 → Int64 → Int32) (k : rx_K) : rx_K := fun lv st h => match st with
  | y :: x :: r => bif Nat.beq (y % 8) 1 && Nat.beq (x % 8) 1 then rx_f (rx_ei (g (rx_dl x) (rx_dl y))) fun v => k lv (v :: r) h else none
  | _ => none
noncomputable def o_ui (g : Int32 → Int32) (k : rx_K) : rx_K := fun lv st h => match st with
  | x :: r => bif Nat.beq (x % 8) 0 then rx_f (rx_ei (g (rx_di x))) fun v => k lv (v :: r) h else none
  | _ => none
noncomputable def o_il (g : Int32 → Int64) (k : rx_K) : rx_K := fun lv st h => match st with
  | x :: r => bif Nat.beq (x % 8) 0 then rx_f (rx_el (g (rx_di x))) fun v => k lv (v :: r) h else none
  | _ => none
noncomputable def o_ul (g : Int64 → Int64) (k : rx_K) : rx_K := fun lv st h => match st with
  | x :: r => bif Nat.beq (x % 8) 1 then rx_f (rx_el (g (rx_dl x))) fun v => k lv (v :: r) h else none
  | _ => none
noncomputable def o_li (g : Int64 → Int32) (k : rx_K) : rx_K := fun lv st h => match st with
  | x :: r => bif Nat.beq (x % 8) 1 then rx_f (rx_ei (g (rx_dl x))) fun v => k lv (v :: r) h else none
  | _ => none
theorem s_iadd (hdg : decode M.2.1 pc = .ok (.iadd, 1)) (hk : rx_OK V M d (pc + 1) f) : rx_OK V M d pc (o_bi (fun x y => x + y) f) := by
  refine rx_pure fun lv st h r h' hf => ?_
  match st, hf with
  | [], hf => cases hf
  | [_], hf => cases hf
  | y :: x :: st, hf =>
  simp only [o_bi, rx_f_eq] at hf
  obtain ⟨hc, hf⟩ := rx_bifn hf
  obtain ⟨hy, hx⟩ := Bool.and_eq_true_iff.mp hc
  refine ⟨pc + 1, f, lv, _, hk, hf, fun p l e R s m args below meth c hC hE H locs ls cells slots Q hW hF hL kk => ?_⟩
  have h2 := kk ls hL
  rw [List.map_cons, rx_v_ei] at h2
  rw [List.map_cons, List.map_cons, rx_v_0 (rx_beq hy), rx_v_0 (rx_beq hx)]
  exact lv_iadd hC.1 hC.2.1 hdg h2
theorem s_isub (hdg : decode M.2.1 pc = .ok (.isub, 1)) (hk : rx_OK V M d (pc + 1) f) : rx_OK V M d pc (o_bi (fun x y => x - y) f) := by
  refine rx_pure fun lv st h r h' hf => ?_
  match st, hf with
  | [], hf => cases hf
  | [_], hf => cases hf
  | y :: x :: st, hf =>
  simp only [o_bi, rx_f_eq] at hf
  obtain ⟨hc, hf⟩ := rx_bifn hf
  obtain ⟨hy, hx⟩ := Bool.and_eq_true_iff.mp hc
  refine ⟨pc + 1, f, lv, _, hk, hf, fun p l e R s m args below meth c hC hE H locs ls cells slots Q hW hF hL kk => ?_⟩
  have h2 := kk ls hL
  rw [List.map_cons, rx_v_ei] at h2
  rw [List.map_cons, List.map_cons, rx_v_0 (rx_beq hy), rx_v_0 (rx_beq hx)]
  exact lv_isub hC.1 hC.2.1 hdg h2
theorem s_imul (hdg : decode M.2.1 pc = .ok (.imul, 1)) (hk : rx_OK V M d (pc + 1) f) : rx_OK V M d pc (o_bi (fun x y => x * y) f) := by
  refine rx_pure fun lv st h r h' hf => ?_
  match st, hf with
  | [], hf => cases hf
  | [_], hf => cases hf
  | y :: x :: st, hf =>
  simp only [o_bi, rx_f_eq] at hf
  obtain ⟨hc, hf⟩ := rx_bifn hf
  obtain ⟨hy, hx⟩ := Bool.and_eq_true_iff.mp hc
  refine ⟨pc + 1, f, lv, _, hk, hf, fun p l e R s m args below meth c hC hE H locs ls cells slots Q hW hF hL kk => ?_⟩
  have h2 := kk ls hL
  rw [List.map_cons, rx_v_ei] at h2
  rw [List.map_cons, List.map_cons, rx_v_0 (rx_beq hy), rx_v_0 (rx_beq hx)]
  exact lv_imul hC.1 hC.2.1 hdg h2
theorem s_iand (hdg : decode M.2.1 pc = .ok (.iand, 1)) (hk : rx_OK V M d (pc + 1) f) : rx_OK V M d pc (o_bi (fun x y => x &&& y) f) := by
  refine rx_pure fun lv st h r h' hf => ?_
  match st, hf with
  | [], hf => cases hf
  | [_], hf => cases hf
  | y :: x :: st, hf =>
  simp only [o_bi, rx_f_eq] at hf
  obtain ⟨hc, hf⟩ := rx_bifn hf
  obtain ⟨hy, hx⟩ := Bool.and_eq_true_iff.mp hc
  refine ⟨pc + 1, f, lv, _, hk, hf, fun p l e R s m args below meth c hC hE H locs ls cells slots Q hW hF hL kk => ?_⟩
  have h2 := kk ls hL
  rw [List.map_cons, rx_v_ei] at h2
  rw [List.map_cons, List.map_cons, rx_v_0 (rx_beq hy), rx_v_0 (rx_beq hx)]
  exact lv_iand hC.1 hC.2.1 hdg h2
theorem s_ior (hdg : decode M.2.1 pc = .ok (.ior, 1)) (hk : rx_OK V M d (pc + 1) f) : rx_OK V M d pc (o_bi (fun x y => x ||| y) f) := by
  refine rx_pure fun lv st h r h' hf => ?_
  match st, hf with
  | [], hf => cases hf
  | [_], hf => cases hf
  | y :: x :: st, hf =>
  simp only [o_bi, rx_f_eq] at hf
  obtain ⟨hc, hf⟩ := rx_bifn hf
  obtain ⟨hy, hx⟩ := Bool.and_eq_true_iff.mp hc
  refine ⟨pc + 1, f, lv, _, hk, hf, fun p l e R s m args below meth c hC hE H locs ls cells slots Q hW hF hL kk => ?_⟩
  have h2 := kk ls hL
  rw [List.map_cons, rx_v_ei] at h2
  rw [List.map_cons, List.map_cons, rx_v_0 (rx_beq hy), rx_v_0 (rx_beq hx)]
  exact lv_ior hC.1 hC.2.1 hdg h2
theorem s_ixor (hdg : decode M.2.1 pc = .ok (.ixor, 1)) (hk : rx_OK V M d (pc + 1) f) : rx_OK V M d pc (o_bi (fun x y => x ^^^ y) f) := by
  refine rx_pure fun lv st h r h' hf => ?_
  match st, hf with
  | [], hf => cases hf
  | [_], hf => cases hf
  | y :: x :: st, hf =>
  simp only [o_bi, rx_f_eq] at hf
  obtain ⟨hc, hf⟩ := rx_bifn hf
  obtain ⟨hy, hx⟩ := Bool.and_eq_true_iff.mp hc
  refine ⟨pc + 1, f, lv, _, hk, hf, fun p l e R s m args below meth c hC hE H locs ls cells slots Q hW hF hL kk => ?_⟩
  have h2 := kk ls hL
  rw [List.map_cons, rx_v_ei] at h2
  rw [List.map_cons, List.map_cons, rx_v_0 (rx_beq hy), rx_v_0 (rx_beq hx)]
  exact lv_ixor hC.1 hC.2.1 hdg h2
theorem s_ishl (hdg : decode M.2.1 pc = .ok (.ishl, 1)) (hk : rx_OK V M d (pc + 1) f) : rx_OK V M d pc (o_bi (fun x y => x <<< (y &&& 31)) f) := by
  refine rx_pure fun lv st h r h' hf => ?_
  match st, hf with
  | [], hf => cases hf
  | [_], hf => cases hf
  | y :: x :: st, hf =>
  simp only [o_bi, rx_f_eq] at hf
  obtain ⟨hc, hf⟩ := rx_bifn hf
  obtain ⟨hy, hx⟩ := Bool.and_eq_true_iff.mp hc
  refine ⟨pc + 1, f, lv, _, hk, hf, fun p l e R s m args below meth c hC hE H locs ls cells slots Q hW hF hL kk => ?_⟩
  have h2 := kk ls hL
  rw [List.map_cons, rx_v_ei] at h2
  rw [List.map_cons, List.map_cons, rx_v_0 (rx_beq hy), rx_v_0 (rx_beq hx)]
  exact lv_ishl hC.1 hC.2.1 hdg h2
theorem s_ishr (hdg : decode M.2.1 pc = .ok (.ishr, 1)) (hk : rx_OK V M d (pc + 1) f) : rx_OK V M d pc (o_bi (fun x y => x >>> (y &&& 31)) f) := by
  refine rx_pure fun lv st h r h' hf => ?_
  match st, hf with
  | [], hf => cases hf
  | [_], hf => cases hf
  | y :: x :: st, hf =>
  simp only [o_bi, rx_f_eq] at hf
  obtain ⟨hc, hf⟩ := rx_bifn hf
  obtain ⟨hy, hx⟩ := Bool.and_eq_true_iff.mp hc
  refine ⟨pc + 1, f, lv, _, hk, hf, fun p l e R s m args below meth c hC hE H locs ls cells slots Q hW hF hL kk => ?_⟩
  have h2 := kk ls hL
  rw [List.map_cons, rx_v_ei] at h2
  rw [List.map_cons, List.map_cons, rx_v_0 (rx_beq hy), rx_v_0 (rx_beq hx)]
  exact lv_ishr hC.1 hC.2.1 hdg h2
theorem s_iushr (hdg : decode M.2.1 pc = .ok (.iushr, 1)) (hk : rx_OK V M d (pc + 1) f) : rx_OK V M d pc (o_bi (fun x y => (x.toUInt32 >>> (y.toUInt32 &&& Int32.toUInt32 31)).toInt32) f) := by
  refine rx_pure fun lv st h r h' hf => ?_
  match st, hf with
  | [], hf => cases hf
  | [_], hf => cases hf
  | y :: x :: st, hf =>
  simp only [o_bi, rx_f_eq] at hf
  obtain ⟨hc, hf⟩ := rx_bifn hf
  obtain ⟨hy, hx⟩ := Bool.and_eq_true_iff.mp hc
  refine ⟨pc + 1, f, lv, _, hk, hf, fun p l e R s m args below meth c hC hE H locs ls cells slots Q hW hF hL kk => ?_⟩
  have h2 := kk ls hL
  rw [List.map_cons, rx_v_ei] at h2
  rw [List.map_cons, List.map_cons, rx_v_0 (rx_beq hy), rx_v_0 (rx_beq hx)]
  exact lv_iushr hC.1 hC.2.1 hdg rfl h2
theorem s_ladd (hdg : decode M.2.1 pc = .ok (.ladd, 1)) (hk : rx_OK V M d (pc + 1) f) : rx_OK V M d pc (o_bl (fun x y => x + y) f) := by
  refine rx_pure fun lv st h r h' hf => ?_
  match st, hf with
  | [], hf => cases hf
  | [_], hf => cases hf
  | y :: x :: st, hf =>
  simp only [o_bl, rx_f_eq] at hf
  obtain ⟨hc, hf⟩ := rx_bifn hf
  obtain ⟨hy, hx⟩ := Bool.and_eq_true_iff.mp hc
  refine ⟨pc + 1, f, lv, _, hk, hf, fun p l e R s m args below meth c hC hE H locs ls cells slots Q hW hF hL kk => ?_⟩
  have h2 := kk ls hL
  rw [List.map_cons, rx_v_el] at h2
  rw [List.map_cons, List.map_cons, rx_v_1 (rx_beq hy), rx_v_1 (rx_beq hx)]
  exact lv_ladd hC.1 hC.2.1 hdg h2
theorem s_lsub (hdg : decode M.2.1 pc = .ok (.lsub, 1)) (hk : rx_OK V M d (pc + 1) f) : rx_OK V M d pc (o_bl (fun x y => x - y) f) := by
  refine rx_pure fun lv st h r h' hf => ?_
  match st, hf with
  | [], hf => cases hf
  | [_], hf => cases hf
  | y :: x :: st, hf =>
  simp only [o_bl, rx_f_eq] at hf
  obtain ⟨hc, hf⟩ := rx_bifn hf
  obtain ⟨hy, hx⟩ := Bool.and_eq_true_iff.mp hc
  refine ⟨pc + 1, f, lv, _, hk, hf, fun p l e R s m args below meth c hC hE H locs ls cells slots Q hW hF hL kk => ?_⟩
  have h2 := kk ls hL
  rw [List.map_cons, rx_v_el] at h2
  rw [List.map_cons, List.map_cons, rx_v_1 (rx_beq hy), rx_v_1 (rx_beq hx)]
  exact lv_lsub hC.1 hC.2.1 hdg h2
theorem s_lmul (hdg : decode M.2.1 pc = .ok (.lmul, 1)) (hk : rx_OK V M d (pc + 1) f) : rx_OK V M d pc (o_bl (fun x y => x * y) f) := by
  refine rx_pure fun lv st h r h' hf => ?_
  match st, hf with
  | [], hf => cases hf
  | [_], hf => cases hf
  | y :: x :: st, hf =>
  simp only [o_bl, rx_f_eq] at hf
  obtain ⟨hc, hf⟩ := rx_bifn hf
  obtain ⟨hy, hx⟩ := Bool.and_eq_true_iff.mp hc
  refine ⟨pc + 1, f, lv, _, hk, hf, fun p l e R s m args below meth c hC hE H locs ls cells slots Q hW hF hL kk => ?_⟩
  have h2 := kk ls hL
  rw [List.map_cons, rx_v_el] at h2
  rw [List.map_cons, List.map_cons, rx_v_1 (rx_beq hy), rx_v_1 (rx_beq hx)]
  exact lv_lmul hC.1 hC.2.1 hdg h2
theorem s_land (hdg : decode M.2.1 pc = .ok (.land, 1)) (hk : rx_OK V M d (pc + 1) f) : rx_OK V M d pc (o_bl (fun x y => x &&& y) f) := by
  refine rx_pure fun lv st h r h' hf => ?_
  match st, hf with
  | [], hf => cases hf
  | [_], hf => cases hf
  | y :: x :: st, hf =>
  simp only [o_bl, rx_f_eq] at hf
  obtain ⟨hc, hf⟩ := rx_bifn hf
  obtain ⟨hy, hx⟩ := Bool.and_eq_true_iff.mp hc
  refine ⟨pc + 1, f, lv, _, hk, hf, fun p l e R s m args below meth c hC hE H locs ls cells slots Q hW hF hL kk => ?_⟩
  have h2 := kk ls hL
  rw [List.map_cons, rx_v_el] at h2
  rw [List.map_cons, List.map_cons, rx_v_1 (rx_beq hy), rx_v_1 (rx_beq hx)]
  exact lv_land hC.1 hC.2.1 hdg h2
theorem s_lor (hdg : decode M.2.1 pc = .ok (.lor, 1)) (hk : rx_OK V M d (pc + 1) f) : rx_OK V M d pc (o_bl (fun x y => x ||| y) f) := by
  refine rx_pure fun lv st h r h' hf => ?_
  match st, hf with
  | [], hf => cases hf
  | [_], hf => cases hf
  | y :: x :: st, hf =>
  simp only [o_bl, rx_f_eq] at hf
  obtain ⟨hc, hf⟩ := rx_bifn hf
  obtain ⟨hy, hx⟩ := Bool.and_eq_true_iff.mp hc
  refine ⟨pc + 1, f, lv, _, hk, hf, fun p l e R s m args below meth c hC hE H locs ls cells slots Q hW hF hL kk => ?_⟩
  have h2 := kk ls hL
  rw [List.map_cons, rx_v_el] at h2
  rw [List.map_cons, List.map_cons, rx_v_1 (rx_beq hy), rx_v_1 (rx_beq hx)]
  exact lv_lor hC.1 hC.2.1 hdg h2
theorem s_lxor (hdg : decode M.2.1 pc = .ok (.lxor, 1)) (hk : rx_OK V M d (pc + 1) f) : rx_OK V M d pc (o_bl (fun x y => x ^^^ y) f) := by
  refine rx_pure fun lv st h r h' hf => ?_
  match st, hf with
  | [], hf => cases hf
  | [_], hf => cases hf
  | y :: x :: st, hf =>
  simp only [o_bl, rx_f_eq] at hf
  obtain ⟨hc, hf⟩ := rx_bifn hf
  obtain ⟨hy, hx⟩ := Bool.and_eq_true_iff.mp hc
  refine ⟨pc + 1, f, lv, _, hk, hf, fun p l e R s m args below meth c hC hE H locs ls cells slots Q hW hF hL kk => ?_⟩
  have h2 := kk ls hL
  rw [List.map_cons, rx_v_el] at h2
  rw [List.map_cons, List.map_cons, rx_v_1 (rx_beq hy), rx_v_1 (rx_beq hx)]
  exact lv_lxor hC.1 hC.2.1 hdg h2
theorem s_lshl (hdg : decode M.2.1 pc = .ok (.lshl, 1)) (hk : rx_OK V M d (pc + 1) f) : rx_OK V M d pc (o_bs (fun x y => x <<< (y.toInt64 &&& 63)) f) := by
  refine rx_pure fun lv st h r h' hf => ?_
  match st, hf with
  | [], hf => cases hf
  | [_], hf => cases hf
  | y :: x :: st, hf =>
  simp only [o_bs, rx_f_eq] at hf
  obtain ⟨hc, hf⟩ := rx_bifn hf
  obtain ⟨hy, hx⟩ := Bool.and_eq_true_iff.mp hc
  refine ⟨pc + 1, f, lv, _, hk, hf, fun p l e R s m args below meth c hC hE H locs ls cells slots Q hW hF hL kk => ?_⟩
  have h2 := kk ls hL
  rw [List.map_cons, rx_v_el] at h2
  rw [List.map_cons, List.map_cons, rx_v_0 (rx_beq hy), rx_v_1 (rx_beq hx)]
  exact lv_lshl hC.1 hC.2.1 hdg rfl h2
theorem s_lshr (hdg : decode M.2.1 pc = .ok (.lshr, 1)) (hk : rx_OK V M d (pc + 1) f) : rx_OK V M d pc (o_bs (fun x y => x >>> (y.toInt64 &&& 63)) f) := by
  refine rx_pure fun lv st h r h' hf => ?_
  match st, hf with
  | [], hf => cases hf
  | [_], hf => cases hf
  | y :: x :: st, hf =>
  simp only [o_bs, rx_f_eq] at hf
  obtain ⟨hc, hf⟩ := rx_bifn hf
  obtain ⟨hy, hx⟩ := Bool.and_eq_true_iff.mp hc
  refine ⟨pc + 1, f, lv, _, hk, hf, fun p l e R s m args below meth c hC hE H locs ls cells slots Q hW hF hL kk => ?_⟩
  have h2 := kk ls hL
  rw [List.map_cons, rx_v_el] at h2
  rw [List.map_cons, List.map_cons, rx_v_0 (rx_beq hy), rx_v_1 (rx_beq hx)]
  exact lv_lshr hC.1 hC.2.1 hdg rfl h2
theorem s_lushr (hdg : decode M.2.1 pc = .ok (.lushr, 1)) (hk : rx_OK V M d (pc + 1) f) : rx_OK V M d pc (o_bs (fun x y => (x.toUInt64 >>> (y.toInt64.toUInt64 &&& Int64.toUInt64 63)).toInt64) f) := by
  refine rx_pure fun lv st h r h' hf => ?_
  match st, hf with
  | [], hf => cases hf
  | [_], hf => cases hf
  | y :: x :: st, hf =>
  simp only [o_bs, rx_f_eq] at hf
  obtain ⟨hc, hf⟩ := rx_bifn hf
  obtain ⟨hy, hx⟩ := Bool.and_eq_true_iff.mp hc
  refine ⟨pc + 1, f, lv, _, hk, hf, fun p l e R s m args below meth c hC hE H locs ls cells slots Q hW hF hL kk => ?_⟩
  have h2 := kk ls hL
  rw [List.map_cons, rx_v_el] at h2
  rw [List.map_cons, List.map_cons, rx_v_0 (rx_beq hy), rx_v_1 (rx_beq hx)]
  exact lv_lushr hC.1 hC.2.1 hdg rfl h2
theorem s_lcmp (hdg : decode M.2.1 pc = .ok (.lcmp, 1)) (hk : rx_OK V M d (pc + 1) f) : rx_OK V M d pc (o_bc (fun x y => lg_cmp x y) f) := by
  refine rx_pure fun lv st h r h' hf => ?_
  match st, hf with
  | [], hf => cases hf
  | [_], hf => cases hf
  | y :: x :: st, hf =>
  simp only [o_bc, rx_f_eq] at hf
  obtain ⟨hc, hf⟩ := rx_bifn hf
  obtain ⟨hy, hx⟩ := Bool.and_eq_true_iff.mp hc
  refine ⟨pc + 1, f, lv, _, hk, hf, fun p l e R s m args below meth c hC hE H locs ls cells slots Q hW hF hL kk => ?_⟩
  have h2 := kk ls hL
  rw [List.map_cons, rx_v_ei] at h2
  rw [List.map_cons, List.map_cons, rx_v_1 (rx_beq hy), rx_v_1 (rx_beq hx)]
  exact W.lcmp hC.1 hC.2.1 hdg h2
theorem s_ineg (hdg : decode M.2.1 pc = .ok (.ineg, 1)) (hk : rx_OK V M d (pc + 1) f) : rx_OK V M d pc (o_ui (fun x => -x) f) := by
  refine rx_pure fun lv st h r h' hf => ?_
  match st, hf with
  | [], hf => cases hf
  | x :: st, hf =>
  simp only [o_ui, rx_f_eq] at hf
  obtain ⟨hc, hf⟩ := rx_bifn hf
  refine ⟨pc + 1, f, lv, _, hk, hf, fun p l e R s m args below meth c hC hE H locs ls cells slots Q hW hF hL kk => ?_⟩
  have h2 := kk ls hL
  rw [List.map_cons, rx_v_ei] at h2
  rw [List.map_cons, rx_v_0 (rx_beq hc)]
  exact lv_ineg hC.1 hC.2.1 hdg h2
theorem s_i2b (hdg : decode M.2.1 pc = .ok (.i2b, 1)) (hk : rx_OK V M d (pc + 1) f) : rx_OK V M d pc (o_ui (fun x => x.toInt8.toInt32) f) := by
  refine rx_pure fun lv st h r h' hf => ?_
  match st, hf with
  | [], hf => cases hf
  | x :: st, hf =>
  simp only [o_ui, rx_f_eq] at hf
  obtain ⟨hc, hf⟩ := rx_bifn hf
  refine ⟨pc + 1, f, lv, _, hk, hf, fun p l e R s m args below meth c hC hE H locs ls cells slots Q hW hF hL kk => ?_⟩
  have h2 := kk ls hL
  rw [List.map_cons, rx_v_ei] at h2
  rw [List.map_cons, rx_v_0 (rx_beq hc)]
  exact lv_i2b hC.1 hC.2.1 hdg rfl h2
theorem s_i2c (hdg : decode M.2.1 pc = .ok (.i2c, 1)) (hk : rx_OK V M d (pc + 1) f) : rx_OK V M d pc (o_ui (fun x => (x.toUInt32 % 65536).toInt32) f) := by
  refine rx_pure fun lv st h r h' hf => ?_
  match st, hf with
  | [], hf => cases hf
  | x :: st, hf =>
  simp only [o_ui, rx_f_eq] at hf
  obtain ⟨hc, hf⟩ := rx_bifn hf
  refine ⟨pc + 1, f, lv, _, hk, hf, fun p l e R s m args below meth c hC hE H locs ls cells slots Q hW hF hL kk => ?_⟩
  have h2 := kk ls hL
  rw [List.map_cons, rx_v_ei] at h2
  rw [List.map_cons, rx_v_0 (rx_beq hc)]
  exact lv_i2c hC.1 hC.2.1 hdg rfl h2
theorem s_i2s (hdg : decode M.2.1 pc = .ok (.i2s, 1)) (hk : rx_OK V M d (pc + 1) f) : rx_OK V M d pc (o_ui (fun x => x.toInt16.toInt32) f) := by
  refine rx_pure fun lv st h r h' hf => ?_
  match st, hf with
  | [], hf => cases hf
  | x :: st, hf =>
  simp only [o_ui, rx_f_eq] at hf
  obtain ⟨hc, hf⟩ := rx_bifn hf
  refine ⟨pc + 1, f, lv, _, hk, hf, fun p l e R s m args below meth c hC hE H locs ls cells slots Q hW hF hL kk => ?_⟩
  have h2 := kk ls hL
  rw [List.map_cons, rx_v_ei] at h2
  rw [List.map_cons, rx_v_0 (rx_beq hc)]
  exact lv_i2s hC.1 hC.2.1 hdg rfl h2
theorem s_i2l (hdg : decode M.2.1 pc = .ok (.i2l, 1)) (hk : rx_OK V M d (pc + 1) f) : rx_OK V M d pc (o_il (fun x => x.toInt64) f) := by
  refine rx_pure fun lv st h r h' hf => ?_
  match st, hf with
  | [], hf => cases hf
  | x :: st, hf =>
  simp only [o_il, rx_f_eq] at hf
  obtain ⟨hc, hf⟩ := rx_bifn hf
  refine ⟨pc + 1, f, lv, _, hk, hf, fun p l e R s m args below meth c hC hE H locs ls cells slots Q hW hF hL kk => ?_⟩
  have h2 := kk ls hL
  rw [List.map_cons, rx_v_el] at h2
  rw [List.map_cons, rx_v_0 (rx_beq hc)]
  exact lv_i2l hC.1 hC.2.1 hdg rfl h2
theorem s_lneg (hdg : decode M.2.1 pc = .ok (.lneg, 1)) (hk : rx_OK V M d (pc + 1) f) : rx_OK V M d pc (o_ul (fun x => -x) f) := by
  refine rx_pure fun lv st h r h' hf => ?_
  match st, hf with
  | [], hf => cases hf
  | x :: st, hf =>
  simp only [o_ul, rx_f_eq] at hf
  obtain ⟨hc, hf⟩ := rx_bifn hf
  refine ⟨pc + 1, f, lv, _, hk, hf, fun p l e R s m args below meth c hC hE H locs ls cells slots Q hW hF hL kk => ?_⟩
  have h2 := kk ls hL
  rw [List.map_cons, rx_v_el] at h2
  rw [List.map_cons, rx_v_1 (rx_beq hc)]
  exact lv_lneg hC.1 hC.2.1 hdg h2
theorem s_l2i (hdg : decode M.2.1 pc = .ok (.l2i, 1)) (hk : rx_OK V M d (pc + 1) f) : rx_OK V M d pc (o_li (fun x => x.toInt32) f) := by
  refine rx_pure fun lv st h r h' hf => ?_
  match st, hf with
  | [], hf => cases hf
  | x :: st, hf =>
  simp only [o_li, rx_f_eq] at hf
  obtain ⟨hc, hf⟩ := rx_bifn hf
  refine ⟨pc + 1, f, lv, _, hk, hf, fun p l e R s m args below meth c hC hE H locs ls cells slots Q hW hF hL kk => ?_⟩
  have h2 := kk ls hL
  rw [List.map_cons, rx_v_ei] at h2
  rw [List.map_cons, rx_v_1 (rx_beq hc)]
  exact lv_l2i hC.1 hC.2.1 hdg rfl h2
-- >>> of a whole number from outside by a constant; then (byte), or & 255
noncomputable def o_iushrX (k : rx_K) : rx_K := fun lv st h => match st with
  | y :: x :: r => bif Nat.beq (x % 8) 4 && Nat.blt (x / 8) 5 then (bif Nat.beq (y % 8) 0 && Nat.blt (y / 8) 32 then rx_f (8 * (x / 8 + 5 * (y / 8)) + 5) fun v => k lv (v :: r) h else none) else o_bi (fun x y => (x.toUInt32 >>> (y.toUInt32 &&& Int32.toUInt32 31)).toInt32) k lv st h
  | _ => none
noncomputable def o_i2bX (k : rx_K) : rx_K := fun lv st h => match st with
  | x :: r => bif Nat.beq (x % 8) 5 && Nat.blt (x / 8) 160 then rx_f (x + 8 * 160) fun v => k lv (v :: r) h else o_ui (fun x => x.toInt8.toInt32) k lv st h
  | _ => none
noncomputable def o_iandX (k : rx_K) : rx_K := fun lv st h => match st with
  | y :: x :: r => bif Nat.beq y 2040 && (Nat.beq (x % 8) 5 && Nat.blt (x / 8) 160) then rx_f (x + 16 * 160) fun v => k lv (v :: r) h else o_bi (fun x y => x &&& y) k lv st h
  | _ => none
theorem s_iushrX (hV : rx_Ok V) (hdg : decode M.2.1 pc = .ok (.iushr, 1)) (hk : rx_OK V M d (pc + 1) f) : rx_OK V M d pc (o_iushrX f) := by
  refine rx_pure fun lv st h r h' hf => ?_
  match st, hf with
  | [], hf => cases hf
  | [_], hf => cases hf
  | y :: x :: st, hf =>
  simp only [o_iushrX, o_bi, rx_f_eq] at hf
  rcases rx_bif hf with ⟨hc, hf⟩ | ⟨-, hf⟩
  · obtain ⟨hx, hx5⟩ := Bool.and_eq_true_iff.mp hc
    obtain ⟨hd, hf⟩ := rx_bifn hf
    obtain ⟨hy, hy5⟩ := Bool.and_eq_true_iff.mp hd
    have h5 : x / 8 < 5 := Nat.le_of_ble_eq_true hx5
    have h32 : y / 8 < 32 := Nat.le_of_ble_eq_true hy5
    refine ⟨pc + 1, f, lv, _, hk, hf, fun p l e R s m args below meth c hC hE H locs ls cells slots Q hW hF hL kk => ?_⟩
    have h2 := kk ls hL
    obtain ⟨X, eX⟩ := hV.1 _ h5
    rw [List.map_cons, rx_v_5 (by omega), show (8 * (x / 8 + 5 * (y / 8)) + 5) / 8 = x / 8 + 5 * (y / 8) by omega] at h2
    have e1 : (x / 8 + 5 * (y / 8)) % 5 = x / 8 := by omega
    have e2 : (x / 8 + 5 * (y / 8)) / 5 % 32 = y / 8 := by omega
    have e3 : (x / 8 + 5 * (y / 8)) / 160 = 0 := by omega
    unfold rx_x at h2
    rw [e1, e2, if_pos e3, eX] at h2
    rw [List.map_cons, List.map_cons, rx_v_0 (rx_beq hy), rx_v_4 (rx_beq hx), eX]
    exact lv_iushr hC.1 hC.2.1 hdg rfl h2
  · obtain ⟨hc, hf⟩ := rx_bifn hf
    obtain ⟨hy, hx⟩ := Bool.and_eq_true_iff.mp hc
    refine ⟨pc + 1, f, lv, _, hk, hf, fun p l e R s m args below meth c hC hE H locs ls cells slots Q hW hF hL kk => ?_⟩
    have h2 := kk ls hL
    rw [List.map_cons, rx_v_ei] at h2
    rw [List.map_cons, List.map_cons, rx_v_0 (rx_beq hy), rx_v_0 (rx_beq hx)]
    exact lv_iushr hC.1 hC.2.1 hdg rfl h2
theorem s_i2bX (hdg : decode M.2.1 pc = .ok (.i2b, 1)) (hk : rx_OK V M d (pc + 1) f) : rx_OK V M d pc (o_i2bX f) := by
  refine rx_pure fun lv st h r h' hf => ?_
  match st, hf with
  | [], hf => cases hf
  | x :: st, hf =>
  simp only [o_i2bX, o_ui, rx_f_eq] at hf
  rcases rx_bif hf with ⟨hc, hf⟩ | ⟨-, hf⟩
  · obtain ⟨hx, hx5⟩ := Bool.and_eq_true_iff.mp hc
    have h5 : x / 8 < 160 := Nat.le_of_ble_eq_true hx5
    have e5 := rx_beq hx
    refine ⟨pc + 1, f, lv, _, hk, hf, fun p l e R s m args below meth c hC hE H locs ls cells slots Q hW hF hL kk => ?_⟩
    have h2 := kk ls hL
    rw [List.map_cons, rx_v_5 (by omega), show (x + 8 * 160) / 8 = x / 8 + 160 by omega] at h2
    unfold rx_x at h2
    rw [show (x / 8 + 160) % 5 = x / 8 % 5 by omega, show (x / 8 + 160) / 5 % 32 = x / 8 / 5 % 32 by omega, if_neg (by omega), if_pos (by omega)] at h2
    rw [List.map_cons, rx_v_5 e5]
    unfold rx_x
    rw [if_pos (by omega)]
    exact lv_i2b hC.1 hC.2.1 hdg rfl h2
  · obtain ⟨hc, hf⟩ := rx_bifn hf
    refine ⟨pc + 1, f, lv, _, hk, hf, fun p l e R s m args below meth c hC hE H locs ls cells slots Q hW hF hL kk => ?_⟩
    have h2 := kk ls hL
    rw [List.map_cons, rx_v_ei] at h2
    rw [List.map_cons, rx_v_0 (rx_beq hc)]
    exact lv_i2b hC.1 hC.2.1 hdg rfl h2
theorem s_iandX (hdg : decode M.2.1 pc = .ok (.iand, 1)) (hk : rx_OK V M d (pc + 1) f) : rx_OK V M d pc (o_iandX f) := by
  refine rx_pure fun lv st h r h' hf => ?_
  match st, hf with
  | [], hf => cases hf
  | [_], hf => cases hf
  | y :: x :: st, hf =>
  simp only [o_iandX, o_bi, rx_f_eq] at hf
  rcases rx_bif hf with ⟨hc, hf⟩ | ⟨-, hf⟩
  · obtain ⟨hy, hx⟩ := Bool.and_eq_true_iff.mp hc
    obtain ⟨hx, hx5⟩ := Bool.and_eq_true_iff.mp hx
    have h5 : x / 8 < 160 := Nat.le_of_ble_eq_true hx5
    have e5 := rx_beq hx
    have ey := rx_beq hy
    refine ⟨pc + 1, f, lv, _, hk, hf, fun p l e R s m args below meth c hC hE H locs ls cells slots Q hW hF hL kk => ?_⟩
    have h2 := kk ls hL
    rw [List.map_cons, rx_v_5 (by omega), show (x + 16 * 160) / 8 = x / 8 + 320 by omega] at h2
    unfold rx_x at h2
    rw [show (x / 8 + 320) % 5 = x / 8 % 5 by omega, show (x / 8 + 320) / 5 % 32 = x / 8 / 5 % 32 by omega, if_neg (by omega), if_neg (by omega)] at h2
    rw [List.map_cons, List.map_cons, ey, rx_v_5 e5, rx_v_0 (c := 2040) rfl]
    unfold rx_x
    rw [if_pos (by omega)]
    exact lv_iand hC.1 hC.2.1 hdg h2
  · obtain ⟨hc, hf⟩ := rx_bifn hf
    obtain ⟨hy, hx⟩ := Bool.and_eq_true_iff.mp hc
    refine ⟨pc + 1, f, lv, _, hk, hf, fun p l e R s m args below meth c hC hE H locs ls cells slots Q hW hF hL kk => ?_⟩
    have h2 := kk ls hL
    rw [List.map_cons, rx_v_ei] at h2
    rw [List.map_cons, List.map_cons, rx_v_0 (rx_beq hy), rx_v_0 (rx_beq hx)]
    exact lv_iand hC.1 hC.2.1 hdg h2
end RX13
end
section
section RX14
variable {V : rx_V} {M : rx_M} {d pc : Nat} {f t : rx_K}
noncomputable def o_dup (k : rx_K) : rx_K := fun lv st h => match st with
  | v :: r => bif Nat.beq (rx_ct v) 1 then k lv (v :: v :: r) h else none
  | _ => none
noncomputable def o_pop (k : rx_K) : rx_K := fun lv st h => match st with
  | v :: r => bif Nat.beq (rx_ct v) 1 then k lv r h else none
  | _ => none
noncomputable def o_pop2 (k : rx_K) : rx_K := fun lv st h => match st with
  | v :: r => bif Nat.beq (rx_ct v) 2 then k lv r h else none
  | _ => none
noncomputable def o_dupx1 (k : rx_K) : rx_K := fun lv st h => match st with
  | v :: u :: r => bif Nat.beq (rx_ct v) 1 && Nat.beq (rx_ct u) 1 then k lv (v :: u :: v :: r) h else none
  | _ => none
noncomputable def o_dupx2 (k : rx_K) : rx_K := fun lv st h => match st with
  | v :: u :: q :: r => bif Nat.beq (rx_ct v) 1 && (Nat.beq (rx_ct u) 1 && Nat.beq (rx_ct q) 1) then k lv (v :: u :: q :: v :: r) h else none
  | _ => none
noncomputable def o_dup2 (k : rx_K) : rx_K := fun lv st h => match st with
  | v :: u :: r => bif Nat.beq (rx_ct v) 1 && Nat.beq (rx_ct u) 1 then k lv (v :: u :: v :: u :: r) h else none
  | _ => none
noncomputable def o_dup2L (k : rx_K) : rx_K := fun lv st h => match st with
  | v :: r => bif Nat.beq (rx_ct v) 2 then k lv (v :: v :: r) h else none
  | _ => none
noncomputable def o_dup2x1L (k : rx_K) : rx_K := fun lv st h => match st with
  | v :: u :: r => bif Nat.beq (rx_ct v) 2 && Nat.beq (rx_ct u) 1 then k lv (v :: u :: v :: r) h else none
  | _ => none
noncomputable def o_dup2x2L (k : rx_K) : rx_K := fun lv st h => match st with
  | v :: u :: q :: r => bif Nat.beq (rx_ct v) 2 && (Nat.beq (rx_ct u) 1 && Nat.beq (rx_ct q) 1) then k lv (v :: u :: q :: v :: r) h else none
  | _ => none
theorem s_dup (hV : rx_Ok V) (hdg : decode M.2.1 pc = .ok (.dup, 1)) (hk : rx_OK V M d (pc + 1) f) : rx_OK V M d pc (o_dup f) := by
  refine rx_pure fun lv st h r h' hf => ?_
  match st, hf with
  | [], hf => cases hf
  | v :: st, hf =>
  simp only [o_dup] at hf
  obtain ⟨hc, hf⟩ := rx_bifn hf
  have e1 : (rx_v V v).category = 1 := (rx_v_cat hV v).trans (rx_beq hc)
  refine ⟨pc + 1, f, lv, _, hk, hf, fun p l e R s m args below meth c hC hE H locs ls cells slots Q hW hF hL kk => ?_⟩
  exact lv_dup hC.1 hC.2.1 hdg e1 (kk ls hL)
theorem s_pop (hV : rx_Ok V) (hdg : decode M.2.1 pc = .ok (.pop, 1)) (hk : rx_OK V M d (pc + 1) f) : rx_OK V M d pc (o_pop f) := by
  refine rx_pure fun lv st h r h' hf => ?_
  match st, hf with
  | [], hf => cases hf
  | v :: st, hf =>
  simp only [o_pop] at hf
  obtain ⟨hc, hf⟩ := rx_bifn hf
  have e1 : (rx_v V v).category = 1 := (rx_v_cat hV v).trans (rx_beq hc)
  refine ⟨pc + 1, f, lv, _, hk, hf, fun p l e R s m args below meth c hC hE H locs ls cells slots Q hW hF hL kk => ?_⟩
  exact lv_pop hC.1 hC.2.1 hdg e1 (kk ls hL)
theorem s_pop2L (hV : rx_Ok V) (hdg : decode M.2.1 pc = .ok (.pop2, 1)) (hk : rx_OK V M d (pc + 1) f) : rx_OK V M d pc (o_pop2 f) := by
  refine rx_pure fun lv st h r h' hf => ?_
  match st, hf with
  | [], hf => cases hf
  | v :: st, hf =>
  simp only [o_pop2] at hf
  obtain ⟨hc, hf⟩ := rx_bifn hf
  have e1 : (rx_v V v).category = 2 := (rx_v_cat hV v).trans (rx_beq hc)
  refine ⟨pc + 1, f, lv, _, hk, hf, fun p l e R s m args below meth c hC hE H locs ls cells slots Q hW hF hL kk => ?_⟩
  exact lv_pop2_2 hC.1 hC.2.1 hdg e1 (kk ls hL)
theorem s_dup2L (hV : rx_Ok V) (hdg : decode M.2.1 pc = .ok (.dup2, 1)) (hk : rx_OK V M d (pc + 1) f) : rx_OK V M d pc (o_dup2L f) := by
  refine rx_pure fun lv st h r h' hf => ?_
  match st, hf with
  | [], hf => cases hf
  | v :: st, hf =>
  simp only [o_dup2L] at hf
  obtain ⟨hc, hf⟩ := rx_bifn hf
  have e1 : (rx_v V v).category = 2 := (rx_v_cat hV v).trans (rx_beq hc)
  refine ⟨pc + 1, f, lv, _, hk, hf, fun p l e R s m args below meth c hC hE H locs ls cells slots Q hW hF hL kk => ?_⟩
  exact lv_dup2_2 hC.1 hC.2.1 hdg e1 (kk ls hL)
theorem s_dup_x1 (hV : rx_Ok V) (hdg : decode M.2.1 pc = .ok (.dup_x1, 1)) (hk : rx_OK V M d (pc + 1) f) : rx_OK V M d pc (o_dupx1 f) := by
  refine rx_pure fun lv st h r h' hf => ?_
  match st, hf with
  | [], hf => cases hf
  | [_], hf => cases hf
  | v :: u :: st, hf =>
  simp only [o_dupx1] at hf
  obtain ⟨hc, hf⟩ := rx_bifn hf
  obtain ⟨hc1, hc2⟩ := Bool.and_eq_true_iff.mp hc
  have e1 : (rx_v V v).category = 1 := (rx_v_cat hV v).trans (rx_beq hc1)
  have e2 : (rx_v V u).category = 1 := (rx_v_cat hV u).trans (rx_beq hc2)
  refine ⟨pc + 1, f, lv, _, hk, hf, fun p l e R s m args below meth c hC hE H locs ls cells slots Q hW hF hL kk => ?_⟩
  exact lv_dup_x1 hC.1 hC.2.1 hdg e1 e2 (kk ls hL)
theorem s_dup2 (hV : rx_Ok V) (hdg : decode M.2.1 pc = .ok (.dup2, 1)) (hk : rx_OK V M d (pc + 1) f) : rx_OK V M d pc (o_dup2 f) := by
  refine rx_pure fun lv st h r h' hf => ?_
  match st, hf with
  | [], hf => cases hf
  | [_], hf => cases hf
  | v :: u :: st, hf =>
  simp only [o_dup2] at hf
  obtain ⟨hc, hf⟩ := rx_bifn hf
  obtain ⟨hc1, hc2⟩ := Bool.and_eq_true_iff.mp hc
  have e1 : (rx_v V v).category = 1 := (rx_v_cat hV v).trans (rx_beq hc1)
  have e2 : (rx_v V u).category = 1 := (rx_v_cat hV u).trans (rx_beq hc2)
  refine ⟨pc + 1, f, lv, _, hk, hf, fun p l e R s m args below meth c hC hE H locs ls cells slots Q hW hF hL kk => ?_⟩
  exact lv_dup2_11 hC.1 hC.2.1 hdg e1 e2 (kk ls hL)
theorem s_dup2_x1L (hV : rx_Ok V) (hdg : decode M.2.1 pc = .ok (.dup2_x1, 1)) (hk : rx_OK V M d (pc + 1) f) : rx_OK V M d pc (o_dup2x1L f) := by
  refine rx_pure fun lv st h r h' hf => ?_
  match st, hf with
  | [], hf => cases hf
  | [_], hf => cases hf
  | v :: u :: st, hf =>
  simp only [o_dup2x1L] at hf
  obtain ⟨hc, hf⟩ := rx_bifn hf
  obtain ⟨hc1, hc2⟩ := Bool.and_eq_true_iff.mp hc
  have e1 : (rx_v V v).category = 2 := (rx_v_cat hV v).trans (rx_beq hc1)
  have e2 : (rx_v V u).category = 1 := (rx_v_cat hV u).trans (rx_beq hc2)
  refine ⟨pc + 1, f, lv, _, hk, hf, fun p l e R s m args below meth c hC hE H locs ls cells slots Q hW hF hL kk => ?_⟩
  exact lv_dup2_x1_2 hC.1 hC.2.1 hdg e1 e2 (kk ls hL)
theorem s_dup_x2 (hV : rx_Ok V) (hdg : decode M.2.1 pc = .ok (.dup_x2, 1)) (hk : rx_OK V M d (pc + 1) f) : rx_OK V M d pc (o_dupx2 f) := by
  refine rx_pure fun lv st h r h' hf => ?_
  match st, hf with
  | [], hf => cases hf
  | [_], hf => cases hf
  | [_, _], hf => cases hf
  | v :: u :: q :: st, hf =>
  simp only [o_dupx2] at hf
  obtain ⟨hc, hf⟩ := rx_bifn hf
  obtain ⟨hc1, hc2⟩ := Bool.and_eq_true_iff.mp hc
  obtain ⟨hc2, hc3⟩ := Bool.and_eq_true_iff.mp hc2
  have e1 : (rx_v V v).category = 1 := (rx_v_cat hV v).trans (rx_beq hc1)
  have e2 : (rx_v V u).category = 1 := (rx_v_cat hV u).trans (rx_beq hc2)
  have e3 : (rx_v V q).category = 1 := (rx_v_cat hV q).trans (rx_beq hc3)
  refine ⟨pc + 1, f, lv, _, hk, hf, fun p l e R s m args below meth c hC hE H locs ls cells slots Q hW hF hL kk => ?_⟩
  exact lv_dup_x2 hC.1 hC.2.1 hdg e1 e2 e3 (kk ls hL)
theorem s_dup2_x2L (hV : rx_Ok V) (hdg : decode M.2.1 pc = .ok (.dup2_x2, 1)) (hk : rx_OK V M d (pc + 1) f) : rx_OK V M d pc (o_dup2x2L f) := by
  refine rx_pure fun lv st h r h' hf => ?_
  match st, hf with
  | [], hf => cases hf
  | [_], hf => cases hf
  | [_, _], hf => cases hf
  | v :: u :: q :: st, hf =>
  simp only [o_dup2x2L] at hf
  obtain ⟨hc, hf⟩ := rx_bifn hf
  obtain ⟨hc1, hc2⟩ := Bool.and_eq_true_iff.mp hc
  obtain ⟨hc2, hc3⟩ := Bool.and_eq_true_iff.mp hc2
  have e1 : (rx_v V v).category = 2 := (rx_v_cat hV v).trans (rx_beq hc1)
  have e2 : (rx_v V u).category = 1 := (rx_v_cat hV u).trans (rx_beq hc2)
  have e3 : (rx_v V q).category = 1 := (rx_v_cat hV q).trans (rx_beq hc3)
  refine ⟨pc + 1, f, lv, _, hk, hf, fun p l e R s m args below meth c hC hE H locs ls cells slots Q hW hF hL kk => ?_⟩
  exact lv_dup2_x2_2 hC.1 hC.2.1 hdg e1 e2 e3 (kk ls hL)
noncomputable def rx_b (h : rx_H) (c : Nat) : Option (Int × Int) := bif Nat.beq (c % 8) 0 then some ((rx_di c).toInt, (rx_di c).toInt) else bif Nat.beq (c % 8) 4 then rx_get none (h.2.2.1.map some) (c / 8) else none
theorem rx_b_ok {V : rx_V} {h : rx_H} {H : Heap} (hW : rx_w V h H) {c : Nat} {lo hi : Int} (hb : rx_b h c = some (lo, hi)) : ∃ x : Int32, rx_v V c = .int x ∧ lo ≤ x.toInt ∧ x.toInt ≤ hi := by
  unfold rx_b at hb
  rcases rx_bif hb with ⟨h1, h2⟩ | ⟨-, h2⟩
  · have e := Option.some.inj h2
    have e1 := congrArg Prod.fst e
    have e2 := congrArg Prod.snd e
    dsimp only at e1 e2
    exact ⟨_, rx_v_0 (rx_beq h1), by omega, by omega⟩
  · obtain ⟨h3, h4⟩ := rx_bifn h2
    rw [rx_get_eq] at h4
    have h5 : h.2.2.1[c / 8]? = some (lo, hi) := by
      cases q : h.2.2.1[c / 8]? with
      | none => simp [List.getD, q] at h4
      | some z => simp [List.getD, q] at h4; rw [h4]
    obtain ⟨-, v, e, l1, l2⟩ := hW.2.2 _ _ _ h5
    exact ⟨v, by rw [rx_v_4 (rx_beq h3), e], l1, l2⟩
noncomputable def rx_lt (h : rx_H) (x y : Nat) : Option Bool := bif Nat.beq (x % 8) 0 && Nat.beq (y % 8) 0 then some (decide (rx_di x < rx_di y)) else
  match rx_b h x, rx_b h y with
  | some (a, b), some (u, v) => bif decide (b < u) then some true else bif decide (v ≤ a) then some false else none
  | _, _ => none
noncomputable def rx_eq (h : rx_H) (x y : Nat) : Option Bool := bif Nat.beq (x % 8) 0 && Nat.beq (y % 8) 0 then some (decide (rx_di x = rx_di y)) else
  match rx_b h x, rx_b h y with
  | some (a, b), some (u, v) => bif decide (b < u) || decide (v < a) then some false else bif decide (a = b) && (decide (u = v) && decide (a = u)) then some true else none
  | _, _ => none
theorem rx_lt_ok {V : rx_V} {h : rx_H} {H : Heap} (hW : rx_w V h H) {x y : Nat} {b : Bool} (hb : rx_lt h x y = some b) : ∃ X Y : Int32, rx_v V x = .int X ∧ rx_v V y = .int Y ∧ (b = true ↔ X < Y) := by
  unfold rx_lt at hb
  rcases rx_bif hb with ⟨h1, h2⟩ | ⟨-, h2⟩
  · obtain ⟨hx, hy⟩ := Bool.and_eq_true_iff.mp h1
    refine ⟨_, _, rx_v_0 (rx_beq hx), rx_v_0 (rx_beq hy), ?_⟩
    rw [← Option.some.inj h2]
    exact decide_eq_true_iff
  · cases q1 : rx_b h x with
    | none => rw [q1] at h2; cases h2
    | some z1 => cases q2 : rx_b h y with
      | none => rw [q1, q2] at h2; cases h2
      | some z2 =>
        rw [q1, q2] at h2
        obtain ⟨X, ex, l1, l2⟩ := rx_b_ok hW (lo := z1.1) (hi := z1.2) q1
        obtain ⟨Y, ey, l3, l4⟩ := rx_b_ok hW (lo := z2.1) (hi := z2.2) q2
        refine ⟨X, Y, ex, ey, ?_⟩
        rw [Int32.lt_iff_toInt_lt]
        rcases rx_bif h2 with ⟨g1, g2⟩ | ⟨g1, g2⟩
        · have := of_decide_eq_true g1
          have e := Option.some.inj g2
          subst e
          simp only [true_iff]
          omega
        · obtain ⟨g3, g4⟩ := rx_bifn g2
          have := of_decide_eq_true g3
          have e := Option.some.inj g4
          subst e
          simp only [Bool.false_eq_true, false_iff]
          omega
theorem rx_eq_ok {V : rx_V} {h : rx_H} {H : Heap} (hW : rx_w V h H) {x y : Nat} {b : Bool} (hb : rx_eq h x y = some b) : ∃ X Y : Int32, rx_v V x = .int X ∧ rx_v V y = .int Y ∧ (b = true ↔ X = Y) := by
  unfold rx_eq at hb
  rcases rx_bif hb with ⟨h1, h2⟩ | ⟨-, h2⟩
  · obtain ⟨hx, hy⟩ := Bool.and_eq_true_iff.mp h1
    refine ⟨_, _, rx_v_0 (rx_beq hx), rx_v_0 (rx_beq hy), ?_⟩
    rw [← Option.some.inj h2]
    exact decide_eq_true_iff
  · cases q1 : rx_b h x with
    | none => rw [q1] at h2; cases h2
    | some z1 => cases q2 : rx_b h y with
      | none => rw [q1, q2] at h2; cases h2
      | some z2 =>
        rw [q1, q2] at h2
        obtain ⟨X, ex, l1, l2⟩ := rx_b_ok hW (lo := z1.1) (hi := z1.2) q1
        obtain ⟨Y, ey, l3, l4⟩ := rx_b_ok hW (lo := z2.1) (hi := z2.2) q2
        refine ⟨X, Y, ex, ey, ?_⟩
        rw [← Int32.toInt_inj]
        rcases rx_bif h2 with ⟨g1, g2⟩ | ⟨g1, g2⟩
        · have e := Option.some.inj g2
          subst e
          simp only [Bool.false_eq_true, false_iff]
          rcases Bool.or_eq_true_iff.mp g1 with g | g
          · have := of_decide_eq_true g
            omega
          · have := of_decide_eq_true g
            omega
        · obtain ⟨g3, g4⟩ := rx_bifn g2
          have e := Option.some.inj g4
          subst e
          obtain ⟨a1, a2⟩ := Bool.and_eq_true_iff.mp g3
          obtain ⟨a2, a3⟩ := Bool.and_eq_true_iff.mp a2
          have b1 := of_decide_eq_true a1
          have b2 := of_decide_eq_true a2
          have b3 := of_decide_eq_true a3
          simp only [true_iff]
          omega
-- two ways: t is gone where q says true, f where it says false
noncomputable def o_c2 (q : rx_H → Nat → Nat → Option Bool) (t f : rx_K) : rx_K := fun lv st h => match st with
  | y :: x :: r => match q h x y with
    | some b => bif b then t lv r h else f lv r h
    | none => none
  | _ => none
noncomputable def o_c1 (q : rx_H → Nat → Nat → Option Bool) (t f : rx_K) : rx_K := fun lv st h => match st with
  | x :: r => match q h x 0 with
    | some b => bif b then t lv r h else f lv r h
    | none => none
  | _ => none
theorem s_icmp_lt {off : Int} {tgt : Nat} (hdg : decode M.2.1 pc = .ok (.if_icmp .lt off, 3)) (ht : (pc : Int) + off = (tgt : Int)) (h1 : rx_OK V M d tgt t) (h2 : rx_OK V M d (pc + 3) f) : rx_OK V M d pc (o_c2 (rx_lt) t f) := by
  refine rx_pure fun lv st h r h' hf => ?_
  match st, hf with
  | [], hf => cases hf
  | [_], hf => cases hf
  | y :: x :: st, hf =>
  simp only [o_c2] at hf
  cases q : rx_lt h x y with
  | none => simp only [q] at hf; cases hf
  | some b =>
  simp only [q] at hf
  cases b with
  | true =>
    refine ⟨tgt, t, lv, st, h1, hf, fun p l e R s m args below meth c hC hE H locs ls cells slots Q hW hF hL kk => ?_⟩
    obtain ⟨X, Y, ex, ey, hb⟩ := rx_lt_ok hW q
    have hxy := hb.mp rfl
    have h3 := kk ls hL
    rw [List.map_cons, List.map_cons, ex, ey]
    exact lv_icmp_lt hC.1 hC.2.1 hdg ht (fun _ => h3) (fun z => absurd z (by first | exact hxy | exact Int32.not_le.mpr hxy | exact Int32.not_lt.mpr hxy | exact fun q => hxy q | (rw [Int32.not_le]; exact hxy) | (rw [Int32.not_lt]; exact hxy) | (intro q; exact hxy q) | (intro q; exact q hxy) | (rw [Int32.not_lt] at hxy; intro q; exact q hxy) | (rw [Int32.not_le]; first | exact hxy | exact Int32.not_le.mp hxy)))
  | false =>
    refine ⟨pc + 3, f, lv, st, h2, hf, fun p l e R s m args below meth c hC hE H locs ls cells slots Q hW hF hL kk => ?_⟩
    obtain ⟨X, Y, ex, ey, hb⟩ := rx_lt_ok hW q
    have hxy := (fun z => absurd (hb.mpr z) (by decide) : ¬ _)
    have h3 := kk ls hL
    rw [List.map_cons, List.map_cons, ex, ey]
    exact lv_icmp_lt hC.1 hC.2.1 hdg ht (fun z => absurd z (by first | exact hxy | exact Int32.not_le.mpr hxy | exact Int32.not_lt.mpr hxy | exact fun q => hxy q | (rw [Int32.not_le]; exact hxy) | (rw [Int32.not_lt]; exact hxy) | (intro q; exact hxy q) | (intro q; exact q hxy) | (rw [Int32.not_lt] at hxy; intro q; exact q hxy) | (rw [Int32.not_le]; first | exact hxy | exact Int32.not_le.mp hxy))) (fun _ => h3)
theorem s_if_lt {off : Int} {tgt : Nat} (hdg : decode M.2.1 pc = .ok (.ifCond .lt off, 3)) (ht : (pc : Int) + off = (tgt : Int)) (h1 : rx_OK V M d tgt t) (h2 : rx_OK V M d (pc + 3) f) : rx_OK V M d pc (o_c1 (rx_lt) t f) := by
  refine rx_pure fun lv st h r h' hf => ?_
  match st, hf with
  | [], hf => cases hf
  | x :: st, hf =>
  simp only [o_c1] at hf
  cases q : rx_lt h x 0 with
  | none => simp only [q] at hf; cases hf
  | some b =>
  simp only [q] at hf
  cases b with
  | true =>
    refine ⟨tgt, t, lv, st, h1, hf, fun p l e R s m args below meth c hC hE H locs ls cells slots Q hW hF hL kk => ?_⟩
    obtain ⟨X, Y, ex, ey, hb⟩ := rx_lt_ok hW q
    have hxy := hb.mp rfl
    have h3 := kk ls hL
    rw [List.map_cons, ex]
    rw [rx_v_0 (V := V) (c := 0) rfl] at ey
    have e0 := Value.int.inj ey
    rw [show rx_di 0 = 0 from rfl] at e0
    subst e0
    exact lv_if_lt hC.1 hC.2.1 hdg ht (fun _ => h3) (fun z => absurd z (by first | exact hxy | exact Int32.not_le.mpr hxy | exact Int32.not_lt.mpr hxy | exact fun q => hxy q | (rw [Int32.not_le]; exact hxy) | (rw [Int32.not_lt]; exact hxy) | (intro q; exact hxy q) | (intro q; exact q hxy) | (rw [Int32.not_lt] at hxy; intro q; exact q hxy) | (rw [Int32.not_le]; first | exact hxy | exact Int32.not_le.mp hxy)))
  | false =>
    refine ⟨pc + 3, f, lv, st, h2, hf, fun p l e R s m args below meth c hC hE H locs ls cells slots Q hW hF hL kk => ?_⟩
    obtain ⟨X, Y, ex, ey, hb⟩ := rx_lt_ok hW q
    have hxy := (fun z => absurd (hb.mpr z) (by decide) : ¬ _)
    have h3 := kk ls hL
    rw [List.map_cons, ex]
    rw [rx_v_0 (V := V) (c := 0) rfl] at ey
    have e0 := Value.int.inj ey
    rw [show rx_di 0 = 0 from rfl] at e0
    subst e0
    exact lv_if_lt hC.1 hC.2.1 hdg ht (fun z => absurd z (by first | exact hxy | exact Int32.not_le.mpr hxy | exact Int32.not_lt.mpr hxy | exact fun q => hxy q | (rw [Int32.not_le]; exact hxy) | (rw [Int32.not_lt]; exact hxy) | (intro q; exact hxy q) | (intro q; exact q hxy) | (rw [Int32.not_lt] at hxy; intro q; exact q hxy) | (rw [Int32.not_le]; first | exact hxy | exact Int32.not_le.mp hxy))) (fun _ => h3)
theorem s_icmp_ge {off : Int} {tgt : Nat} (hdg : decode M.2.1 pc = .ok (.if_icmp .ge off, 3)) (ht : (pc : Int) + off = (tgt : Int)) (h1 : rx_OK V M d tgt t) (h2 : rx_OK V M d (pc + 3) f) : rx_OK V M d pc (o_c2 (rx_lt) f t) := by
  refine rx_pure fun lv st h r h' hf => ?_
  match st, hf with
  | [], hf => cases hf
  | [_], hf => cases hf
  | y :: x :: st, hf =>
  simp only [o_c2] at hf
  cases q : rx_lt h x y with
  | none => simp only [q] at hf; cases hf
  | some b =>
  simp only [q] at hf
  cases b with
  | true =>
    refine ⟨pc + 3, f, lv, st, h2, hf, fun p l e R s m args below meth c hC hE H locs ls cells slots Q hW hF hL kk => ?_⟩
    obtain ⟨X, Y, ex, ey, hb⟩ := rx_lt_ok hW q
    have hxy := hb.mp rfl
    have h3 := kk ls hL
    rw [List.map_cons, List.map_cons, ex, ey]
    exact lv_icmp_ge hC.1 hC.2.1 hdg ht (fun z => absurd z (by first | exact hxy | exact Int32.not_le.mpr hxy | exact Int32.not_lt.mpr hxy | exact fun q => hxy q | (rw [Int32.not_le]; exact hxy) | (rw [Int32.not_lt]; exact hxy) | (intro q; exact hxy q) | (intro q; exact q hxy) | (rw [Int32.not_lt] at hxy; intro q; exact q hxy) | (rw [Int32.not_le]; first | exact hxy | exact Int32.not_le.mp hxy))) (fun _ => h3)
  | false =>
    refine ⟨tgt, t, lv, st, h1, hf, fun p l e R s m args below meth c hC hE H locs ls cells slots Q hW hF hL kk => ?_⟩
    obtain ⟨X, Y, ex, ey, hb⟩ := rx_lt_ok hW q
    have hxy := (fun z => absurd (hb.mpr z) (by decide) : ¬ _)
    have h3 := kk ls hL
    rw [List.map_cons, List.map_cons, ex, ey]
    exact lv_icmp_ge hC.1 hC.2.1 hdg ht (fun _ => h3) (fun z => absurd z (by first | exact hxy | exact Int32.not_le.mpr hxy | exact Int32.not_lt.mpr hxy | exact fun q => hxy q | (rw [Int32.not_le]; exact hxy) | (rw [Int32.not_lt]; exact hxy) | (intro q; exact hxy q) | (intro q; exact q hxy) | (rw [Int32.not_lt] at hxy; intro q; exact q hxy) | (rw [Int32.not_le]; first | exact hxy | exact Int32.not_le.mp hxy)))
theorem s_if_ge {off : Int} {tgt : Nat} (hdg : decode M.2.1 pc = .ok (.ifCond .ge off, 3)) (ht : (pc : Int) + off = (tgt : Int)) (h1 : rx_OK V M d tgt t) (h2 : rx_OK V M d (pc + 3) f) : rx_OK V M d pc (o_c1 (rx_lt) f t) := by
  refine rx_pure fun lv st h r h' hf => ?_
  match st, hf with
  | [], hf => cases hf
  | x :: st, hf =>
  simp only [o_c1] at hf
  cases q : rx_lt h x 0 with
  | none => simp only [q] at hf; cases hf
  | some b =>
  simp only [q] at hf
  cases b with
  | true =>
    refine ⟨pc + 3, f, lv, st, h2, hf, fun p l e R s m args below meth c hC hE H locs ls cells slots Q hW hF hL kk => ?_⟩
    obtain ⟨X, Y, ex, ey, hb⟩ := rx_lt_ok hW q
    have hxy := hb.mp rfl
    have h3 := kk ls hL
    rw [List.map_cons, ex]
    rw [rx_v_0 (V := V) (c := 0) rfl] at ey
    have e0 := Value.int.inj ey
    rw [show rx_di 0 = 0 from rfl] at e0
    subst e0
    exact lv_if_ge hC.1 hC.2.1 hdg ht (fun z => absurd z (by first | exact hxy | exact Int32.not_le.mpr hxy | exact Int32.not_lt.mpr hxy | exact fun q => hxy q | (rw [Int32.not_le]; exact hxy) | (rw [Int32.not_lt]; exact hxy) | (intro q; exact hxy q) | (intro q; exact q hxy) | (rw [Int32.not_lt] at hxy; intro q; exact q hxy) | (rw [Int32.not_le]; first | exact hxy | exact Int32.not_le.mp hxy))) (fun _ => h3)
  | false =>
    refine ⟨tgt, t, lv, st, h1, hf, fun p l e R s m args below meth c hC hE H locs ls cells slots Q hW hF hL kk => ?_⟩
    obtain ⟨X, Y, ex, ey, hb⟩ := rx_lt_ok hW q
    have hxy := (fun z => absurd (hb.mpr z) (by decide) : ¬ _)
    have h3 := kk ls hL
    rw [List.map_cons, ex]
    rw [rx_v_0 (V := V) (c := 0) rfl] at ey
    have e0 := Value.int.inj ey
    rw [show rx_di 0 = 0 from rfl] at e0
    subst e0
    exact lv_if_ge hC.1 hC.2.1 hdg ht (fun _ => h3) (fun z => absurd z (by first | exact hxy | exact Int32.not_le.mpr hxy | exact Int32.not_lt.mpr hxy | exact fun q => hxy q | (rw [Int32.not_le]; exact hxy) | (rw [Int32.not_lt]; exact hxy) | (intro q; exact hxy q) | (intro q; exact q hxy) | (rw [Int32.not_lt] at hxy; intro q; exact q hxy) | (rw [Int32.not_le]; first | exact hxy | exact Int32.not_le.mp hxy)))
theorem s_icmp_gt {off : Int} {tgt : Nat} (hdg : decode M.2.1 pc = .ok (.if_icmp .gt off, 3)) (ht : (pc : Int) + off = (tgt : Int)) (h1 : rx_OK V M d tgt t) (h2 : rx_OK V M d (pc + 3) f) : rx_OK V M d pc (o_c2 (fun h x y => rx_lt h y x) t f) := by
  refine rx_pure fun lv st h r h' hf => ?_
  match st, hf with
  | [], hf => cases hf
  | [_], hf => cases hf
  | y :: x :: st, hf =>
  simp only [o_c2] at hf
  cases q : rx_lt h y x with
  | none => simp only [q] at hf; cases hf
  | some b =>
  simp only [q] at hf
  cases b with
  | true =>
    refine ⟨tgt, t, lv, st, h1, hf, fun p l e R s m args below meth c hC hE H locs ls cells slots Q hW hF hL kk => ?_⟩
    obtain ⟨X, Y, ex, ey, hb⟩ := rx_lt_ok hW q
    have hxy := hb.mp rfl
    have h3 := kk ls hL
    rw [List.map_cons, List.map_cons, ex, ey]
    exact lv_icmp_gt hC.1 hC.2.1 hdg ht (fun _ => h3) (fun z => absurd z (by first | exact hxy | exact Int32.not_le.mpr hxy | exact Int32.not_lt.mpr hxy | exact fun q => hxy q | (rw [Int32.not_le]; exact hxy) | (rw [Int32.not_lt]; exact hxy) | (intro q; exact hxy q) | (intro q; exact q hxy) | (rw [Int32.not_lt] at hxy; intro q; exact q hxy) | (rw [Int32.not_le]; first | exact hxy | exact Int32.not_le.mp hxy)))
  | false =>
    refine ⟨pc + 3, f, lv, st, h2, hf, fun p l e R s m args below meth c hC hE H locs ls cells slots Q hW hF hL kk => ?_⟩
    obtain ⟨X, Y, ex, ey, hb⟩ := rx_lt_ok hW q
    have hxy := (fun z => absurd (hb.mpr z) (by decide) : ¬ _)
    have h3 := kk ls hL
    rw [List.map_cons, List.map_cons, ex, ey]
    exact lv_icmp_gt hC.1 hC.2.1 hdg ht (fun z => absurd z (by first | exact hxy | exact Int32.not_le.mpr hxy | exact Int32.not_lt.mpr hxy | exact fun q => hxy q | (rw [Int32.not_le]; exact hxy) | (rw [Int32.not_lt]; exact hxy) | (intro q; exact hxy q) | (intro q; exact q hxy) | (rw [Int32.not_lt] at hxy; intro q; exact q hxy) | (rw [Int32.not_le]; first | exact hxy | exact Int32.not_le.mp hxy))) (fun _ => h3)
theorem s_if_gt {off : Int} {tgt : Nat} (hdg : decode M.2.1 pc = .ok (.ifCond .gt off, 3)) (ht : (pc : Int) + off = (tgt : Int)) (h1 : rx_OK V M d tgt t) (h2 : rx_OK V M d (pc + 3) f) : rx_OK V M d pc (o_c1 (fun h x y => rx_lt h y x) t f) := by
  refine rx_pure fun lv st h r h' hf => ?_
  match st, hf with
  | [], hf => cases hf
  | x :: st, hf =>
  simp only [o_c1] at hf
  cases q : rx_lt h 0 x with
  | none => simp only [q] at hf; cases hf
  | some b =>
  simp only [q] at hf
  cases b with
  | true =>
    refine ⟨tgt, t, lv, st, h1, hf, fun p l e R s m args below meth c hC hE H locs ls cells slots Q hW hF hL kk => ?_⟩
    obtain ⟨X, Y, ex, ey, hb⟩ := rx_lt_ok hW q
    have hxy := hb.mp rfl
    have h3 := kk ls hL
    rw [List.map_cons, ey]
    rw [rx_v_0 (V := V) (c := 0) rfl] at ex
    have e0 := Value.int.inj ex
    rw [show rx_di 0 = 0 from rfl] at e0
    subst e0
    exact lv_if_gt hC.1 hC.2.1 hdg ht (fun _ => h3) (fun z => absurd z (by first | exact hxy | exact Int32.not_le.mpr hxy | exact Int32.not_lt.mpr hxy | exact fun q => hxy q | (rw [Int32.not_le]; exact hxy) | (rw [Int32.not_lt]; exact hxy) | (intro q; exact hxy q) | (intro q; exact q hxy) | (rw [Int32.not_lt] at hxy; intro q; exact q hxy) | (rw [Int32.not_le]; first | exact hxy | exact Int32.not_le.mp hxy)))
  | false =>
    refine ⟨pc + 3, f, lv, st, h2, hf, fun p l e R s m args below meth c hC hE H locs ls cells slots Q hW hF hL kk => ?_⟩
    obtain ⟨X, Y, ex, ey, hb⟩ := rx_lt_ok hW q
    have hxy := (fun z => absurd (hb.mpr z) (by decide) : ¬ _)
    have h3 := kk ls hL
    rw [List.map_cons, ey]
    rw [rx_v_0 (V := V) (c := 0) rfl] at ex
    have e0 := Value.int.inj ex
    rw [show rx_di 0 = 0 from rfl] at e0
    subst e0
    exact lv_if_gt hC.1 hC.2.1 hdg ht (fun z => absurd z (by first | exact hxy | exact Int32.not_le.mpr hxy | exact Int32.not_lt.mpr hxy | exact fun q => hxy q | (rw [Int32.not_le]; exact hxy) | (rw [Int32.not_lt]; exact hxy) | (intro q; exact hxy q) | (intro q; exact q hxy) | (rw [Int32.not_lt] at hxy; intro q; exact q hxy) | (rw [Int32.not_le]; first | exact hxy | exact Int32.not_le.mp hxy))) (fun _ => h3)
theorem s_icmp_le {off : Int} {tgt : Nat} (hdg : decode M.2.1 pc = .ok (.if_icmp .le off, 3)) (ht : (pc : Int) + off = (tgt : Int)) (h1 : rx_OK V M d tgt t) (h2 : rx_OK V M d (pc + 3) f) : rx_OK V M d pc (o_c2 (fun h x y => rx_lt h y x) f t) := by
  refine rx_pure fun lv st h r h' hf => ?_
  match st, hf with
  | [], hf => cases hf
  | [_], hf => cases hf
  | y :: x :: st, hf =>
  simp only [o_c2] at hf
  cases q : rx_lt h y x with
  | none => simp only [q] at hf; cases hf
  | some b =>
  simp only [q] at hf
  cases b with
  | true =>
    refine ⟨pc + 3, f, lv, st, h2, hf, fun p l e R s m args below meth c hC hE H locs ls cells slots Q hW hF hL kk => ?_⟩
    obtain ⟨X, Y, ex, ey, hb⟩ := rx_lt_ok hW q
    have hxy := hb.mp rfl
    have h3 := kk ls hL
    rw [List.map_cons, List.map_cons, ex, ey]
    exact lv_icmp_le hC.1 hC.2.1 hdg ht (fun z => absurd z (by first | exact hxy | exact Int32.not_le.mpr hxy | exact Int32.not_lt.mpr hxy | exact fun q => hxy q | (rw [Int32.not_le]; exact hxy) | (rw [Int32.not_lt]; exact hxy) | (intro q; exact hxy q) | (intro q; exact q hxy) | (rw [Int32.not_lt] at hxy; intro q; exact q hxy) | (rw [Int32.not_le]; first | exact hxy | exact Int32.not_le.mp hxy))) (fun _ => h3)
  | false =>
    refine ⟨tgt, t, lv, st, h1, hf, fun p l e R s m args below meth c hC hE H locs ls cells slots Q hW hF hL kk => ?_⟩
    obtain ⟨X, Y, ex, ey, hb⟩ := rx_lt_ok hW q
    have hxy := (fun z => absurd (hb.mpr z) (by decide) : ¬ _)
    have h3 := kk ls hL
    rw [List.map_cons, List.map_cons, ex, ey]
    exact lv_icmp_le hC.1 hC.2.1 hdg ht (fun _ => h3) (fun z => absurd z (by first | exact hxy | exact Int32.not_le.mpr hxy | exact Int32.not_lt.mpr hxy | exact fun q => hxy q | (rw [Int32.not_le]; exact hxy) | (rw [Int32.not_lt]; exact hxy) | (intro q; exact hxy q) | (intro q; exact q hxy) | (rw [Int32.not_lt] at hxy; intro q; exact q hxy) | (rw [Int32.not_le]; first | exact hxy | exact Int32.not_le.mp hxy)))
theorem s_if_le {off : Int} {tgt : Nat} (hdg : decode M.2.1 pc = .ok (.ifCond .le off, 3)) (ht : (pc : Int) + off = (tgt : Int)) (h1 : rx_OK V M d tgt t) (h2 : rx_OK V M d (pc + 3) f) : rx_OK V M d pc (o_c1 (fun h x y => rx_lt h y x) f t) := by
  refine rx_pure fun lv st h r h' hf => ?_
  match st, hf with
  | [], hf => cases hf
  | x :: st, hf =>
  simp only [o_c1] at hf
  cases q : rx_lt h 0 x with
  | none => simp only [q] at hf; cases hf
  | some b =>
  simp only [q] at hf
  cases b with
  | true =>
    refine ⟨pc + 3, f, lv, st, h2, hf, fun p l e R s m args below meth c hC hE H locs ls cells slots Q hW hF hL kk => ?_⟩
    obtain ⟨X, Y, ex, ey, hb⟩ := rx_lt_ok hW q
    have hxy := hb.mp rfl
    have h3 := kk ls hL
    rw [List.map_cons, ey]
    rw [rx_v_0 (V := V) (c := 0) rfl] at ex
    have e0 := Value.int.inj ex
    rw [show rx_di 0 = 0 from rfl] at e0
    subst e0
    exact lv_if_le hC.1 hC.2.1 hdg ht (fun z => absurd z (by first | exact hxy | exact Int32.not_le.mpr hxy | exact Int32.not_lt.mpr hxy | exact fun q => hxy q | (rw [Int32.not_le]; exact hxy) | (rw [Int32.not_lt]; exact hxy) | (intro q; exact hxy q) | (intro q; exact q hxy) | (rw [Int32.not_lt] at hxy; intro q; exact q hxy) | (rw [Int32.not_le]; first | exact hxy | exact Int32.not_le.mp hxy))) (fun _ => h3)
  | false =>
    refine ⟨tgt, t, lv, st, h1, hf, fun p l e R s m args below meth c hC hE H locs ls cells slots Q hW hF hL kk => ?_⟩
    obtain ⟨X, Y, ex, ey, hb⟩ := rx_lt_ok hW q
    have hxy := (fun z => absurd (hb.mpr z) (by decide) : ¬ _)
    have h3 := kk ls hL
    rw [List.map_cons, ey]
    rw [rx_v_0 (V := V) (c := 0) rfl] at ex
    have e0 := Value.int.inj ex
    rw [show rx_di 0 = 0 from rfl] at e0
    subst e0
    exact lv_if_le hC.1 hC.2.1 hdg ht (fun _ => h3) (fun z => absurd z (by first | exact hxy | exact Int32.not_le.mpr hxy | exact Int32.not_lt.mpr hxy | exact fun q => hxy q | (rw [Int32.not_le]; exact hxy) | (rw [Int32.not_lt]; exact hxy) | (intro q; exact hxy q) | (intro q; exact q hxy) | (rw [Int32.not_lt] at hxy; intro q; exact q hxy) | (rw [Int32.not_le]; first | exact hxy | exact Int32.not_le.mp hxy)))
theorem s_icmp_eq {off : Int} {tgt : Nat} (hdg : decode M.2.1 pc = .ok (.if_icmp .eq off, 3)) (ht : (pc : Int) + off = (tgt : Int)) (h1 : rx_OK V M d tgt t) (h2 : rx_OK V M d (pc + 3) f) : rx_OK V M d pc (o_c2 (rx_eq) t f) := by
  refine rx_pure fun lv st h r h' hf => ?_
  match st, hf with
  | [], hf => cases hf
  | [_], hf => cases hf
  | y :: x :: st, hf =>
  simp only [o_c2] at hf
  cases q : rx_eq h x y with
  | none => simp only [q] at hf; cases hf
  | some b =>
  simp only [q] at hf
  cases b with
  | true =>
    refine ⟨tgt, t, lv, st, h1, hf, fun p l e R s m args below meth c hC hE H locs ls cells slots Q hW hF hL kk => ?_⟩
    obtain ⟨X, Y, ex, ey, hb⟩ := rx_eq_ok hW q
    have hxy := hb.mp rfl
    have h3 := kk ls hL
    rw [List.map_cons, List.map_cons, ex, ey]
    exact lv_icmp_eq hC.1 hC.2.1 hdg ht (fun _ => h3) (fun z => absurd z (by first | exact hxy | exact Int32.not_le.mpr hxy | exact Int32.not_lt.mpr hxy | exact fun q => hxy q | (rw [Int32.not_le]; exact hxy) | (rw [Int32.not_lt]; exact hxy) | (intro q; exact hxy q) | (intro q; exact q hxy) | (rw [Int32.not_lt] at hxy; intro q; exact q hxy) | (rw [Int32.not_le]; first | exact hxy | exact Int32.not_le.mp hxy)))
  | false =>
    refine ⟨pc + 3, f, lv, st, h2, hf, fun p l e R s m args below meth c hC hE H locs ls cells slots Q hW hF hL kk => ?_⟩
    obtain ⟨X, Y, ex, ey, hb⟩ := rx_eq_ok hW q
    have hxy := (fun z => absurd (hb.mpr z) (by decide) : ¬ _)
    have h3 := kk ls hL
    rw [List.map_cons, List.map_cons, ex, ey]
    exact lv_icmp_eq hC.1 hC.2.1 hdg ht (fun z => absurd z (by first | exact hxy | exact Int32.not_le.mpr hxy | exact Int32.not_lt.mpr hxy | exact fun q => hxy q | (rw [Int32.not_le]; exact hxy) | (rw [Int32.not_lt]; exact hxy) | (intro q; exact hxy q) | (intro q; exact q hxy) | (rw [Int32.not_lt] at hxy; intro q; exact q hxy) | (rw [Int32.not_le]; first | exact hxy | exact Int32.not_le.mp hxy))) (fun _ => h3)
theorem s_if_eq {off : Int} {tgt : Nat} (hdg : decode M.2.1 pc = .ok (.ifCond .eq off, 3)) (ht : (pc : Int) + off = (tgt : Int)) (h1 : rx_OK V M d tgt t) (h2 : rx_OK V M d (pc + 3) f) : rx_OK V M d pc (o_c1 (rx_eq) t f) := by
  refine rx_pure fun lv st h r h' hf => ?_
  match st, hf with
  | [], hf => cases hf
  | x :: st, hf =>
  simp only [o_c1] at hf
  cases q : rx_eq h x 0 with
  | none => simp only [q] at hf; cases hf
  | some b =>
  simp only [q] at hf
  cases b with
  | true =>
    refine ⟨tgt, t, lv, st, h1, hf, fun p l e R s m args below meth c hC hE H locs ls cells slots Q hW hF hL kk => ?_⟩
    obtain ⟨X, Y, ex, ey, hb⟩ := rx_eq_ok hW q
    have hxy := hb.mp rfl
    have h3 := kk ls hL
    rw [List.map_cons, ex]
    rw [rx_v_0 (V := V) (c := 0) rfl] at ey
    have e0 := Value.int.inj ey
    rw [show rx_di 0 = 0 from rfl] at e0
    subst e0
    exact lv_if_eq hC.1 hC.2.1 hdg ht (fun _ => h3) (fun z => absurd z (by first | exact hxy | exact Int32.not_le.mpr hxy | exact Int32.not_lt.mpr hxy | exact fun q => hxy q | (rw [Int32.not_le]; exact hxy) | (rw [Int32.not_lt]; exact hxy) | (intro q; exact hxy q) | (intro q; exact q hxy) | (rw [Int32.not_lt] at hxy; intro q; exact q hxy) | (rw [Int32.not_le]; first | exact hxy | exact Int32.not_le.mp hxy)))
  | false =>
    refine ⟨pc + 3, f, lv, st, h2, hf, fun p l e R s m args below meth c hC hE H locs ls cells slots Q hW hF hL kk => ?_⟩
    obtain ⟨X, Y, ex, ey, hb⟩ := rx_eq_ok hW q
    have hxy := (fun z => absurd (hb.mpr z) (by decide) : ¬ _)
    have h3 := kk ls hL
    rw [List.map_cons, ex]
    rw [rx_v_0 (V := V) (c := 0) rfl] at ey
    have e0 := Value.int.inj ey
    rw [show rx_di 0 = 0 from rfl] at e0
    subst e0
    exact lv_if_eq hC.1 hC.2.1 hdg ht (fun z => absurd z (by first | exact hxy | exact Int32.not_le.mpr hxy | exact Int32.not_lt.mpr hxy | exact fun q => hxy q | (rw [Int32.not_le]; exact hxy) | (rw [Int32.not_lt]; exact hxy) | (intro q; exact hxy q) | (intro q; exact q hxy) | (rw [Int32.not_lt] at hxy; intro q; exact q hxy) | (rw [Int32.not_le]; first | exact hxy | exact Int32.not_le.mp hxy))) (fun _ => h3)
theorem s_icmp_ne {off : Int} {tgt : Nat} (hdg : decode M.2.1 pc = .ok (.if_icmp .ne off, 3)) (ht : (pc : Int) + off = (tgt : Int)) (h1 : rx_OK V M d tgt t) (h2 : rx_OK V M d (pc + 3) f) : rx_OK V M d pc (o_c2 (rx_eq) f t) := by
  refine rx_pure fun lv st h r h' hf => ?_
  match st, hf with
  | [], hf => cases hf
  | [_], hf => cases hf
  | y :: x :: st, hf =>
  simp only [o_c2] at hf
  cases q : rx_eq h x y with
  | none => simp only [q] at hf; cases hf
  | some b =>
  simp only [q] at hf
  cases b with
  | true =>
    refine ⟨pc + 3, f, lv, st, h2, hf, fun p l e R s m args below meth c hC hE H locs ls cells slots Q hW hF hL kk => ?_⟩
    obtain ⟨X, Y, ex, ey, hb⟩ := rx_eq_ok hW q
    have hxy := hb.mp rfl
    have h3 := kk ls hL
    rw [List.map_cons, List.map_cons, ex, ey]
    exact lv_icmp_ne hC.1 hC.2.1 hdg ht (fun z => absurd z (by first | exact hxy | exact Int32.not_le.mpr hxy | exact Int32.not_lt.mpr hxy | exact fun q => hxy q | (rw [Int32.not_le]; exact hxy) | (rw [Int32.not_lt]; exact hxy) | (intro q; exact hxy q) | (intro q; exact q hxy) | (rw [Int32.not_lt] at hxy; intro q; exact q hxy) | (rw [Int32.not_le]; first | exact hxy | exact Int32.not_le.mp hxy))) (fun _ => h3)
  | false =>
    refine ⟨tgt, t, lv, st, h1, hf, fun p l e R s m args below meth c hC hE H locs ls cells slots Q hW hF hL kk => ?_⟩
    obtain ⟨X, Y, ex, ey, hb⟩ := rx_eq_ok hW q
    have hxy := (fun z => absurd (hb.mpr z) (by decide) : ¬ _)
    have h3 := kk ls hL
    rw [List.map_cons, List.map_cons, ex, ey]
    exact lv_icmp_ne hC.1 hC.2.1 hdg ht (fun _ => h3) (fun z => absurd z (by first | exact hxy | exact Int32.not_le.mpr hxy | exact Int32.not_lt.mpr hxy | exact fun q => hxy q | (rw [Int32.not_le]; exact hxy) | (rw [Int32.not_lt]; exact hxy) | (intro q; exact hxy q) | (intro q; exact q hxy) | (rw [Int32.not_lt] at hxy; intro q; exact q hxy) | (rw [Int32.not_le]; first | exact hxy | exact Int32.not_le.mp hxy)))
theorem s_if_ne {off : Int} {tgt : Nat} (hdg : decode M.2.1 pc = .ok (.ifCond .ne off, 3)) (ht : (pc : Int) + off = (tgt : Int)) (h1 : rx_OK V M d tgt t) (h2 : rx_OK V M d (pc + 3) f) : rx_OK V M d pc (o_c1 (rx_eq) f t) := by
  refine rx_pure fun lv st h r h' hf => ?_
  match st, hf with
  | [], hf => cases hf
  | x :: st, hf =>
  simp only [o_c1] at hf
  cases q : rx_eq h x 0 with
  | none => simp only [q] at hf; cases hf
  | some b =>
  simp only [q] at hf
  cases b with
  | true =>
    refine ⟨pc + 3, f, lv, st, h2, hf, fun p l e R s m args below meth c hC hE H locs ls cells slots Q hW hF hL kk => ?_⟩
    obtain ⟨X, Y, ex, ey, hb⟩ := rx_eq_ok hW q
    have hxy := hb.mp rfl
    have h3 := kk ls hL
    rw [List.map_cons, ex]
    rw [rx_v_0 (V := V) (c := 0) rfl] at ey
    have e0 := Value.int.inj ey
    rw [show rx_di 0 = 0 from rfl] at e0
    subst e0
    exact lv_if_ne hC.1 hC.2.1 hdg ht (fun z => absurd z (by first | exact hxy | exact Int32.not_le.mpr hxy | exact Int32.not_lt.mpr hxy | exact fun q => hxy q | (rw [Int32.not_le]; exact hxy) | (rw [Int32.not_lt]; exact hxy) | (intro q; exact hxy q) | (intro q; exact q hxy) | (rw [Int32.not_lt] at hxy; intro q; exact q hxy) | (rw [Int32.not_le]; first | exact hxy | exact Int32.not_le.mp hxy))) (fun _ => h3)
  | false =>
    refine ⟨tgt, t, lv, st, h1, hf, fun p l e R s m args below meth c hC hE H locs ls cells slots Q hW hF hL kk => ?_⟩
    obtain ⟨X, Y, ex, ey, hb⟩ := rx_eq_ok hW q
    have hxy := (fun z => absurd (hb.mpr z) (by decide) : ¬ _)
    have h3 := kk ls hL
    rw [List.map_cons, ex]
    rw [rx_v_0 (V := V) (c := 0) rfl] at ey
    have e0 := Value.int.inj ey
    rw [show rx_di 0 = 0 from rfl] at e0
    subst e0
    exact lv_if_ne hC.1 hC.2.1 hdg ht (fun _ => h3) (fun z => absurd z (by first | exact hxy | exact Int32.not_le.mpr hxy | exact Int32.not_lt.mpr hxy | exact fun q => hxy q | (rw [Int32.not_le]; exact hxy) | (rw [Int32.not_lt]; exact hxy) | (intro q; exact hxy q) | (intro q; exact q hxy) | (rw [Int32.not_lt] at hxy; intro q; exact q hxy) | (rw [Int32.not_le]; first | exact hxy | exact Int32.not_le.mp hxy)))
theorem s_goto {off : Int} {tgt : Nat} (hdg : decode M.2.1 pc = .ok (.goto off, 3)) (ht : (pc : Int) + off = (tgt : Int)) (hk : rx_OK V M d tgt f) : rx_OK V M d pc f := by
  refine rx_pure fun lv st h r h' hf => ?_
  exact ⟨tgt, f, lv, st, hk, hf, fun p l e R s m args below meth c hC hE H locs ls cells slots Q hW hF hL kk => lv_goto hC.1 hC.2.1 hdg ht (kk ls hL)⟩
end RX14
end
section
noncomputable def rx_un {β : Type} (st : List Nat) (k : Nat → List Nat → Option β) : Option β := List.rec (motive := fun _ => Option β) none (fun v r _ => k v r) st
noncomputable def rx_if {β : Type} (b : Bool) (x y : Option β) : Option β := Bool.rec (motive := fun _ => Option β) y x b
noncomputable def q_isI (c : Nat) : Bool := Bool.rec (motive := fun _ => Bool) (rx_isI c) true (Nat.beq (Nat.mod c 8) 0)
noncomputable def q_ld (chk : Nat → Bool) (i : Nat) (k : rx_K) : rx_K := fun lv st h => rx_f (rx_get 7 lv i) fun c => rx_if (chk c) (k lv (c :: st) h) none
noncomputable def q_inc (i : Nat) (n : Nat) (k : rx_K) : rx_K := fun lv st h => rx_f (rx_get 7 lv i) fun c => rx_if (Nat.beq (Nat.mod c 8) 0) (rx_f (Nat.mod (Nat.add c n) 34359738368) fun v => rx_st1 lv i v fun lv' => k lv' st h) none
noncomputable def q_const (c : Nat) (k : rx_K) : rx_K := fun lv st h => k lv (c :: st) h
noncomputable def q_lt (t f : rx_K) : rx_K := fun lv st h => rx_un st fun y r => rx_un r fun x r => rx_if (Nat.beq (Nat.mod x 8) 0) (rx_if (Nat.beq (Nat.mod y 8) 0) (rx_if (Nat.ble (Nat.succ (Nat.mod (Nat.add x 17179869184) 34359738368)) (Nat.mod (Nat.add y 17179869184) 34359738368)) (t lv r h) (f lv r h)) none) none
noncomputable def zz_body (j : Nat → rx_K) : Nat → rx_K := fun b => Nat.rec (motive := fun _ => rx_K)
  (q_ld q_isI 1 (q_const (8 * 80000) (q_lt (j 1) (fun _ _ h => some (8, h)))))
  (fun _ _ => q_inc 1 8 (j 0)) b
noncomputable def zz_J (n : Nat) : Nat → rx_K := Nat.rec (motive := fun _ => Nat → rx_K) (fun _ _ _ _ => none) (fun _ ih => zz_body ih) n
def zz_t : rx_H := (0, 0, [], [])
noncomputable def zz_chk (x : Option (Nat × rx_H)) : Bool := match x with
  | some (r, _) => Nat.beq r 8
  | none => false
theorem zz_run : zz_chk (zz_J 1000000 0 [7, 0] [] zz_t) = true := by decide +kernel
end

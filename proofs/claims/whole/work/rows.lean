section
-- REFLECTION: a small machine over codes, whose runs the kernel computes; each of its steps is one step of the JVM's (proved below, once for all states)
-- codes of values: 8n int, 8n+1 long, 8k+2 the k-th cell of ours, 3 null, 8k+4 the k-th value from outside, 7 nothing
noncomputable def rx_f {α : Type} (n : Nat) (k : Nat → α) : α := Nat.rec (k 0) (fun m _ => k (Nat.succ m)) n
theorem rx_f_eq {α : Type} (n : Nat) (k : Nat → α) : rx_f n k = k n := by cases n <;> rfl
def rx_ei (x : Int32) : Nat := 8 * x.toBitVec.toNat
def rx_di (c : Nat) : Int32 := Int32.ofNat (c / 8)
def rx_el (x : Int64) : Nat := 8 * x.toBitVec.toNat + 1
def rx_dl (c : Nat) : Int64 := Int64.ofNat (c / 8)
noncomputable def rx_get {α : Type} (d : α) (l : List α) (i : Nat) : α := List.rec (motive := fun _ => Nat → α) (fun _ => d) (fun a _ ih i => Nat.rec (motive := fun _ => α) a (fun j _ => ih j) i) l i
noncomputable def rx_set {α β : Type} (l : List α) (i : Nat) (x : α) (k : List α → Option β) : Option β :=
  List.rec (motive := fun _ => Nat → (List α → Option β) → Option β) (fun _ _ => none) (fun a t ih i k => Nat.rec (motive := fun _ => Option β) (k (x :: t)) (fun j _ => ih j (fun t' => k (a :: t'))) i) l i k
noncomputable def rx_lk (d : Nat) (us : List (Nat × Nat)) (j : Nat) : Nat := List.rec (motive := fun _ => Nat) d (fun q _ ih => bif Nat.beq q.1 j then q.2 else ih) us
theorem rx_get_eq {α : Type} (d : α) (l : List α) (i : Nat) : rx_get d l i = l.getD i d := by
  induction l generalizing i with
  | nil => rfl
  | cons a t ih => cases i with
    | zero => rfl
    | succ j => exact ih j
theorem rx_set_some {α β : Type} {l : List α} {i : Nat} {x : α} {k : List α → Option β} {r : β} (h : rx_set l i x k = some r) : i < l.length ∧ k (l.set i x) = some r := by
  induction l generalizing i k with
  | nil => cases h
  | cons a t ih => cases i with
    | zero => exact ⟨by simp, h⟩
    | succ j =>
      obtain ⟨h1, h2⟩ := ih (i := j) (k := fun t' => k (a :: t')) h
      exact ⟨by simpa using h1, h2⟩
theorem rx_lk_cons (d : Nat) (us : List (Nat × Nat)) (j k v : Nat) : rx_lk d ((k, v) :: us) j = if j = k then v else rx_lk d us j := by
  show (bif Nat.beq k j then v else rx_lk d us j) = _
  by_cases h : j = k
  · subst h; simp
  · have h2 : Nat.beq k j = false := by
      rw [Bool.eq_false_iff]; intro q; exact h (Nat.eq_of_beq_eq_true q).symm
    rw [h2, if_neg h]; rfl
-- an entry: (0, class, number of fields, fields in rows of 16, _) or (1 + type, length, length, [[default]], changes)
abbrev rx_E : Type := Nat × Nat × Nat × List (List Nat) × List (Nat × Nat)
-- (how many cells, how many slots, what is known of the whole numbers from outside, the cells in rows of 8 of 8 of 8 of 8 of 8)
abbrev rx_H : Type := Nat × Nat × List (Int × Int) × List (List (List (List (List rx_E))))
abbrev rx_K : Type := List Nat → List Nat → rx_H → Option (Nat × rx_H)
def rx_e0 : rx_E := (0, 0, 0, [], [])
noncomputable def rx_fg (fs : List (List Nat)) (k : Nat) : Nat := rx_get 7 (rx_get [] fs (Nat.div k 16)) (Nat.mod k 16)
noncomputable def rx_fs {β : Type} (fs : List (List Nat)) (k v : Nat) (kk : List (List Nat) → Option β) : Option β := rx_set (rx_get [] fs (Nat.div k 16)) (Nat.mod k 16) v fun ch => rx_set fs (Nat.div k 16) ch kk
noncomputable def rx_g1 (l : List rx_E) (i : Nat) : rx_E := rx_get rx_e0 l i
noncomputable def rx_g2 (l : List (List rx_E)) (i : Nat) : rx_E := rx_g1 (rx_get [] l (Nat.div i 8)) (Nat.mod i 8)
noncomputable def rx_g3 (l : List (List (List rx_E))) (i : Nat) : rx_E := rx_g2 (rx_get [] l (Nat.div i 64)) (Nat.mod i 64)
noncomputable def rx_g4 (l : List (List (List (List rx_E)))) (i : Nat) : rx_E := rx_g3 (rx_get [] l (Nat.div i 512)) (Nat.mod i 512)
noncomputable def rx_g5 (l : List (List (List (List (List rx_E))))) (i : Nat) : rx_E := rx_g4 (rx_get [] l (Nat.div i 4096)) (Nat.mod i 4096)
noncomputable def rx_s1 {β : Type} (l : List rx_E) (i : Nat) (e : rx_E) (k : List rx_E → Option β) : Option β := rx_set l i e k
noncomputable def rx_s2 {β : Type} (l : List (List rx_E)) (i : Nat) (e : rx_E) (k : List (List rx_E) → Option β) : Option β := rx_s1 (rx_get [] l (Nat.div i 8)) (Nat.mod i 8) e fun x => rx_set l (Nat.div i 8) x k
noncomputable def rx_s3 {β : Type} (l : List (List (List rx_E))) (i : Nat) (e : rx_E) (k : List (List (List rx_E)) → Option β) : Option β := rx_s2 (rx_get [] l (Nat.div i 64)) (Nat.mod i 64) e fun x => rx_set l (Nat.div i 64) x k
noncomputable def rx_s4 {β : Type} (l : List (List (List (List rx_E)))) (i : Nat) (e : rx_E) (k : List (List (List (List rx_E))) → Option β) : Option β := rx_s3 (rx_get [] l (Nat.div i 512)) (Nat.mod i 512) e fun x => rx_set l (Nat.div i 512) x k
noncomputable def rx_s5 {β : Type} (l : List (List (List (List (List rx_E))))) (i : Nat) (e : rx_E) (k : List (List (List (List (List rx_E)))) → Option β) : Option β := rx_s4 (rx_get [] l (Nat.div i 4096)) (Nat.mod i 4096) e fun x => rx_set l (Nat.div i 4096) x k
noncomputable def rx_hg (h : rx_H) (i : Nat) : rx_E := rx_g5 h.2.2.2 i
noncomputable def rx_hs {β : Type} (h : rx_H) (i : Nat) (e : rx_E) (k : rx_H → Option β) : Option β := match h with
  | (n, z, iv, t) => rx_s5 t i e fun t' => k (n, z, iv, t')
noncomputable def rx_hp {β : Type} (h : rx_H) (e : rx_E) (k : rx_H → Option β) : Option β :=
  match h with
  | (n, z, iv, t) => rx_s5 t n e fun t' => rx_f (Nat.succ n) fun n' => rx_f (Nat.add z e.2.2.1) fun z' => k (n', z', iv, t')
theorem rx_getD_set {α : Type} (l : List α) (i j : Nat) (x d : α) (h : i < l.length) : (l.set i x).getD j d = if j = i then x else l.getD j d := by
  by_cases e : j = i
  · subst e; simp [List.getD, h]
  · simp only [List.getD, if_neg e]
    rw [List.getElem?_set_ne (fun q => e q.symm)]
theorem rx_fs_some {β : Type} {fs : List (List Nat)} {k v : Nat} {kk : List (List Nat) → Option β} {r : β} (h : rx_fs fs k v kk = some r) : ∃ fs', kk fs' = some r ∧ ∀ j, rx_fg fs' j = if j = k then v else rx_fg fs j := by
  obtain ⟨h1, h2⟩ := rx_set_some h
  obtain ⟨h3, h4⟩ := rx_set_some h2
  change k % 16 < (rx_get [] fs (k / 16)).length at h1
  change k / 16 < _ at h3
  refine ⟨fs.set (k / 16) ((rx_get [] fs (k / 16)).set (k % 16) v), h4, fun j => ?_⟩
  show rx_get 7 (rx_get [] _ (j / 16)) (j % 16) = if j = k then v else rx_get 7 (rx_get [] fs (j / 16)) (j % 16)
  simp only [rx_get_eq] at h1 h3 ⊢
  rw [rx_getD_set _ _ _ _ _ h3]
  by_cases e : j = k
  · subst e; rw [if_pos rfl, if_pos rfl, rx_getD_set _ _ _ _ _ h1, if_pos rfl]
  · rw [if_neg e]
    by_cases e1 : j / 16 = k / 16
    · rw [if_pos e1, rx_getD_set _ _ _ _ _ h1, if_neg (by omega), e1]
    · rw [if_neg e1]
theorem rx_lev {α E : Type} {d : α} {g : α → Nat → E} {l : List α} {m i : Nat} {e : E} {a : α} (hm : 0 < m) (hl : i / m < l.length) (ha : ∀ j, g a j = if j = i % m then e else g (l.getD (i / m) d) j) (j : Nat) : g ((l.set (i / m) a).getD (j / m) d) (j % m) = if j = i then e else g (l.getD (j / m) d) (j % m) := by
  rw [rx_getD_set _ _ _ _ _ hl]
  by_cases q : j / m = i / m
  · rw [if_pos q, ha (j % m), q]
    by_cases q2 : j % m = i % m
    · have : j = i := by rw [← Nat.div_add_mod j m, ← Nat.div_add_mod i m, q, q2]
      rw [if_pos q2, if_pos this]
    · have : ¬ j = i := fun z => q2 (by rw [z])
      rw [if_neg q2, if_neg this]
  · have : ¬ j = i := fun z => q (by rw [z])
    rw [if_neg q, if_neg this]
theorem rx_s1_some {β : Type} {l : List rx_E} {i : Nat} {e : rx_E} {k : List rx_E → Option β} {r : β} (h : rx_s1 l i e k = some r) : ∃ l', k l' = some r ∧ ∀ j, rx_g1 l' j = if j = i then e else rx_g1 l j := by
  obtain ⟨h1, h2⟩ := rx_set_some h
  refine ⟨_, h2, fun j => ?_⟩
  unfold rx_g1
  rw [rx_get_eq, rx_get_eq, rx_getD_set _ _ _ _ _ h1]
theorem rx_s2_some {β : Type} {l : List (List rx_E)} {i : Nat} {e : rx_E} {k : List (List rx_E) → Option β} {r : β} (h : rx_s2 l i e k = some r) : ∃ l', k l' = some r ∧ ∀ j, rx_g2 l' j = if j = i then e else rx_g2 l j := by
  obtain ⟨a, h1, h2⟩ := rx_s1_some h
  obtain ⟨h3, h4⟩ := rx_set_some h1
  refine ⟨_, h4, fun j => ?_⟩
  show rx_g1 (rx_get [] (l.set (i / 8) a) (j / 8)) (j % 8) = if j = i then e else rx_g1 (rx_get [] l (j / 8)) (j % 8)
  rw [rx_get_eq, rx_get_eq]
  refine rx_lev (g := rx_g1) (by decide) h3 (fun q => ?_) j
  have h5 := h2 q
  rw [rx_get_eq] at h5
  exact h5
theorem rx_s3_some {β : Type} {l : List (List (List rx_E))} {i : Nat} {e : rx_E} {k : List (List (List rx_E)) → Option β} {r : β} (h : rx_s3 l i e k = some r) : ∃ l', k l' = some r ∧ ∀ j, rx_g3 l' j = if j = i then e else rx_g3 l j := by
  obtain ⟨a, h1, h2⟩ := rx_s2_some h
  obtain ⟨h3, h4⟩ := rx_set_some h1
  refine ⟨_, h4, fun j => ?_⟩
  show rx_g2 (rx_get [] (l.set (i / 64) a) (j / 64)) (j % 64) = if j = i then e else rx_g2 (rx_get [] l (j / 64)) (j % 64)
  rw [rx_get_eq, rx_get_eq]
  refine rx_lev (g := rx_g2) (by decide) h3 (fun q => ?_) j
  have h5 := h2 q
  rw [rx_get_eq] at h5
  exact h5
theorem rx_s4_some {β : Type} {l : List (List (List (List rx_E)))} {i : Nat} {e : rx_E} {k : List (List (List (List rx_E))) → Option β} {r : β} (h : rx_s4 l i e k = some r) : ∃ l', k l' = some r ∧ ∀ j, rx_g4 l' j = if j = i then e else rx_g4 l j := by
  obtain ⟨a, h1, h2⟩ := rx_s3_some h
  obtain ⟨h3, h4⟩ := rx_set_some h1
  refine ⟨_, h4, fun j => ?_⟩
  show rx_g3 (rx_get [] (l.set (i / 512) a) (j / 512)) (j % 512) = if j = i then e else rx_g3 (rx_get [] l (j / 512)) (j % 512)
  rw [rx_get_eq, rx_get_eq]
  refine rx_lev (g := rx_g3) (by decide) h3 (fun q => ?_) j
  have h5 := h2 q
  rw [rx_get_eq] at h5
  exact h5
theorem rx_s5_some {β : Type} {l : List (List (List (List (List rx_E))))} {i : Nat} {e : rx_E} {k : List (List (List (List (List rx_E)))) → Option β} {r : β} (h : rx_s5 l i e k = some r) : ∃ l', k l' = some r ∧ ∀ j, rx_g5 l' j = if j = i then e else rx_g5 l j := by
  obtain ⟨a, h1, h2⟩ := rx_s4_some h
  obtain ⟨h3, h4⟩ := rx_set_some h1
  refine ⟨_, h4, fun j => ?_⟩
  show rx_g4 (rx_get [] (l.set (i / 4096) a) (j / 4096)) (j % 4096) = if j = i then e else rx_g4 (rx_get [] l (j / 4096)) (j % 4096)
  rw [rx_get_eq, rx_get_eq]
  refine rx_lev (g := rx_g4) (by decide) h3 (fun q => ?_) j
  have h5 := h2 q
  rw [rx_get_eq] at h5
  exact h5
theorem rx_hs_some {β : Type} {h : rx_H} {i : Nat} {e : rx_E} {k : rx_H → Option β} {r : β} (hh : rx_hs h i e k = some r) : ∃ h', k h' = some r ∧ h'.1 = h.1 ∧ h'.2.1 = h.2.1 ∧ h'.2.2.1 = h.2.2.1 ∧ ∀ j, rx_hg h' j = if j = i then e else rx_hg h j := by
  obtain ⟨n, z, iv, t0⟩ := h
  obtain ⟨t, h1, h2⟩ := rx_s5_some hh
  exact ⟨_, h1, rfl, rfl, rfl, h2⟩
theorem rx_hp_some {β : Type} {h : rx_H} {e : rx_E} {k : rx_H → Option β} {r : β} (hh : rx_hp h e k = some r) : ∃ h', k h' = some r ∧ h'.1 = h.1 + 1 ∧ h'.2.1 = h.2.1 + e.2.2.1 ∧ h'.2.2.1 = h.2.2.1 ∧ ∀ j, rx_hg h' j = if j = h.1 then e else rx_hg h j := by
  obtain ⟨n, z, iv, t0⟩ := h
  simp only [rx_hp, rx_f_eq] at hh
  obtain ⟨t, h1, h2⟩ := rx_s5_some hh
  exact ⟨_, h1, rfl, rfl, rfl, h2⟩
end
section
-- what lies around a run: where our cells begin, the values from outside, the classes and their places, the array classes, what else holds of a state, the tables
abbrev rx_V : Type := Nat × (Nat → Value) × va_G × List vw_C × (Nat → ClassId) × List FieldType × (State → Prop) × List Cond
abbrev eb (V : rx_V) : Nat := V.1
abbrev ex (V : rx_V) : Nat → Value := V.2.1
abbrev eD (V : rx_V) : va_G := V.2.2.1
abbrev eC (V : rx_V) : List vw_C := V.2.2.2.1
abbrev eA (V : rx_V) : Nat → ClassId := V.2.2.2.2.1
abbrev eT (V : rx_V) : List FieldType := V.2.2.2.2.2.1
abbrev eX (V : rx_V) : State → Prop := V.2.2.2.2.2.2.1
abbrev eW (V : rx_V) : List Cond := V.2.2.2.2.2.2.2
def rx_tys (V : rx_V) : List (ClassId × FieldType) := (List.range (eT V).length).map fun t => (eA V t, (eT V).getD t .int)
theorem rx_tys_at {V : rx_V} {t : Nat} {ty : FieldType} (h : (eT V)[t]? = some ty) : (rx_tys V)[t]? = some (eA V t, ty) := by
  have hl : t < (eT V).length := (List.getElem?_eq_some_iff.mp h).1
  simp [rx_tys, List.getElem?_map, List.getElem?_range hl, List.getD, h]
-- the values from outside: five whole numbers (the script's), then references or null, of cells that are not ours
def rx_Ok (V : rx_V) : Prop := (∀ k, k < 5 → ∃ v, ex V k = .int v) ∧ (∀ k, 5 ≤ k → ex V k = .null ∨ ∃ a, a < eb V ∧ ex V k = .ref a) ∧
  (∀ w ∈ eW V, (w.onTables && w.keeps) = true ∨ ∃ ty, w = .arrayClass ty) ∧
  (∀ s U : State, eX V s → s.vm.Alike U.vm → eb V ≤ s.heap.size → (∀ q, q < eb V → U.heap[q]? = s.heap[q]?) → eX V U)
def rx_En (V : rx_V) (s : State) : Prop := va_K (eD V) (eC V) (rx_tys V) s ∧ eX V s ∧ eb V ≤ s.heap.size
-- what comes of a whole number from outside by >>> of a constant (kind 0), then (byte) (1) or & 255 (2)
def rx_xi (v : Value) : Int32 := match v with
  | .int x => x
  | _ => 0
def rx_x (f : Nat → Value) (q : Nat) : Int32 :=
  let y := ((rx_xi (f (q % 5))).toUInt32 >>> ((nI (q / 5 % 32)).toUInt32 &&& Int32.toUInt32 31)).toInt32
  if q / 160 = 0 then y else if q / 160 = 1 then y.toInt8.toInt32 else y &&& 255
def rx_v (V : rx_V) (c : Nat) : Value := if c % 8 = 0 then .int (rx_di c) else if c % 8 = 1 then .long (rx_dl c) else if c % 8 = 2 then .ref (eb V + c / 8) else if c % 8 = 4 then ex V (c / 8) else if c % 8 = 5 then .int (rx_x (ex V) (c / 8)) else .null
theorem rx_v_ei (V : rx_V) (x : Int32) : rx_v V (rx_ei x) = .int x := by
  unfold rx_v rx_ei rx_di
  rw [if_pos (by omega), show 8 * x.toBitVec.toNat / 8 = x.toBitVec.toNat by omega]
  congr 1
  apply Int32.toBitVec_inj.mp
  simp
theorem rx_v_el (V : rx_V) (x : Int64) : rx_v V (rx_el x) = .long x := by
  unfold rx_v rx_el rx_dl
  rw [if_neg (by omega), if_pos (by omega), show (8 * x.toBitVec.toNat + 1) / 8 = x.toBitVec.toNat by omega]
  congr 1
  apply Int64.toBitVec_inj.mp
  simp
theorem rx_v_0 {V : rx_V} {c : Nat} (h : c % 8 = 0) : rx_v V c = .int (rx_di c) := if_pos h
theorem rx_v_1 {V : rx_V} {c : Nat} (h : c % 8 = 1) : rx_v V c = .long (rx_dl c) := by unfold rx_v; rw [if_neg (by omega), if_pos h]
theorem rx_v_2 {V : rx_V} {c : Nat} (h : c % 8 = 2) : rx_v V c = .ref (eb V + c / 8) := by unfold rx_v; rw [if_neg (by omega), if_neg (by omega), if_pos h]
theorem rx_v_3 {V : rx_V} {c : Nat} (h : c % 8 = 3) : rx_v V c = .null := by unfold rx_v; rw [if_neg (by omega), if_neg (by omega), if_neg (by omega), if_neg (by omega), if_neg (by omega)]
theorem rx_v_5 {V : rx_V} {c : Nat} (h : c % 8 = 5) : rx_v V c = .int (rx_x (ex V) (c / 8)) := by unfold rx_v; rw [if_neg (by omega), if_neg (by omega), if_neg (by omega), if_neg (by omega), if_pos h]
theorem rx_v_4 {V : rx_V} {c : Nat} (h : c % 8 = 4) : rx_v V c = ex V (c / 8) := by unfold rx_v; rw [if_neg (by omega), if_neg (by omega), if_neg (by omega), if_pos h]
def rx_ct (c : Nat) : Nat := bif Nat.beq (c % 8) 1 then 2 else 1
theorem rx_v_cat {V : rx_V} (hV : rx_Ok V) (c : Nat) : (rx_v V c).category = rx_ct c := by
  have hc : c % 8 = 0 ∨ c % 8 = 1 ∨ c % 8 = 2 ∨ c % 8 = 4 ∨ c % 8 = 5 ∨ (c % 8 = 3 ∨ c % 8 = 6 ∨ c % 8 = 7) := by omega
  unfold rx_ct
  rcases hc with h | h | h | h | h | h
  · rw [rx_v_0 h, h]; rfl
  · rw [rx_v_1 h, h]; rfl
  · rw [rx_v_2 h, h]; rfl
  · rw [rx_v_4 h, h]
    rcases Nat.lt_or_ge (c / 8) 5 with q | q
    · obtain ⟨v, e⟩ := hV.1 _ q; rw [e]; rfl
    · rcases hV.2.1 _ q with e | ⟨a, -, e⟩ <;> rw [e] <;> rfl
  · rw [rx_v_5 h, h]; rfl
  · have e : rx_v V c = .null := by unfold rx_v; rw [if_neg (by omega), if_neg (by omega), if_neg (by omega), if_neg (by omega), if_neg (by omega)]
    rw [e]
    rcases h with h | h | h <;> rw [h] <;> rfl
-- what a cell is
def rx_at (V : rx_V) (i : Nat) (e : rx_E) (H : Heap) : Prop := match e with
  | (0, ci, n, fs, _) => (∃ r, (eC V)[ci]? = some r ∧ r.2.2 = n) ∧ t_OB (eb V + i) ((eD V).1 ci) n ((eD V).2 ci) H (fun k => rx_v V (rx_fg fs k))
  | (t + 1, _, n, fs, us) => H[eb V + i]? = some (arrV (eA V t) n (fun j => rx_v V (rx_lk (rx_fg fs 0) us j)))
def rx_w (V : rx_V) (h : rx_H) (H : Heap) : Prop := H.size = eb V + h.1 ∧ (∀ i, i < h.1 → rx_at V i (rx_hg h i) H) ∧ ∀ (k : Nat) (lo hi : Int), h.2.2.1[k]? = some (lo, hi) → k < 5 ∧ ∃ v, ex V k = .int v ∧ lo ≤ v.toInt ∧ v.toInt ≤ hi
def rx_F (V : rx_V) (s : State) (H : Heap) (locs : List Loc) : Prop := (∀ q, q < eb V → H[q]? = s.heap[q]?) ∧ (∀ l ∈ locs, eb V ≤ l.base) ∧ s.heap.size ≤ H.size
def rx_L (V : rx_V) (ls : Array Slot) (nL : Nat) (lv : List Nat) : Prop := ls.size = nL ∧ lv_wf ls ∧ ∀ (i c : Nat), lv[i]? = some c → c % 8 ≠ 7 → ls[i]? = some (.val (rx_v V c))
-- a method: its class, code, locals, result, whether it is a constructor
abbrev rx_M : Type := String × ByteArray × Nat × Option FieldType × Bool
def rx_Cx (V : rx_V) (M : rx_M) (p : Program) (s : State) (m : MethodId) (args : Array Value) (meth : Method) (c : Code) : Prop :=
  p.tables.exec = Jvm.exec ∧ c.code = M.2.1 ∧ c.maxLocals = M.2.2.1 ∧ meth.sig.returnType = M.2.2.2.1 ∧ meth.locks = false ∧ s.vm.findClass M.1 = some m.cls ∧ (∀ w ∈ eW V, w.before args s = true) ∧ (M.2.2.2.2 = true → meth.name = "<init>")
def rx_r (V : rx_V) (c : Nat) : Option Value := if c % 8 = 7 then none else some (rx_v V c)
def rx_Q (V : rx_V) (r : Nat) (h : rx_H) : Array Value → State → Outcome → State → Prop := fun _ st oc t => oc = .returned (rx_r V r) ∧ rx_w V h t.heap ∧ ∀ q, q < eb V → t.heap[q]? = st.heap[q]?
def rx_OK (V : rx_V) (M : rx_M) (d pc : Nat) (f : rx_K) : Prop :=
  ∀ (lv st : List Nat) (h : rx_H) (r : Nat) (h' : rx_H), f lv st h = some (r, h') → h.1 ≤ h'.1 ∧ h.2.1 ≤ h'.2.1 ∧
    ∀ (p : Program) (l : Launch) (e : Env) (R : Room) (s : State) (m : MethodId) (args : Array Value) (below : List Frame) (meth : Method) (c : Code), rx_Cx V M p s m args meth c → rx_En V s →
      ∀ (n0 z0 : Nat), n0 ≤ h.1 → z0 ≤ h.2.1 → d ≤ R.frames → 100 * d ≤ R.locals → h'.1 - n0 ≤ R.cells → h'.2.1 - z0 ≤ R.slots →
        ∀ (H : Heap) (locs : List Loc) (ls : Array Slot), rx_w V h H → rx_F V s H locs → rx_L V ls M.2.2.1 lv →
          W p l e R s m args below meth c H locs (h.1 - n0) (h.2.1 - z0) (MQ below (rx_Q V r h') args s (h'.1 - n0) (h'.2.1 - z0) (fun q => eb V ≤ q)) (F0 m pc ls (st.map (rx_v V)))
-- one step that leaves the cells as they are
theorem rx_pure {V : rx_V} {M : rx_M} {d pc : Nat} {f : rx_K} (h0 : ∀ (lv st : List Nat) (h : rx_H) (r : Nat) (h' : rx_H), f lv st h = some (r, h') → ∃ (pc' : Nat) (g : rx_K) (lv' st' : List Nat), rx_OK V M d pc' g ∧ g lv' st' h = some (r, h') ∧
    ∀ (p : Program) (l : Launch) (e : Env) (R : Room) (s : State) (m : MethodId) (args : Array Value) (below : List Frame) (meth : Method) (c : Code), rx_Cx V M p s m args meth c → rx_En V s → ∀ (H : Heap) (locs : List Loc) (ls : Array Slot) (cells slots : Nat) (Q : State → Prop), rx_w V h H → rx_F V s H locs → rx_L V ls M.2.2.1 lv →
      (∀ ls' : Array Slot, rx_L V ls' M.2.2.1 lv' → W p l e R s m args below meth c H locs cells slots Q (F0 m pc' ls' (st'.map (rx_v V)))) → W p l e R s m args below meth c H locs cells slots Q (F0 m pc ls (st.map (rx_v V)))) : rx_OK V M d pc f := by
  intro lv st h r h' hf
  obtain ⟨pc', g, lv', st', hg, hgf, hw⟩ := h0 lv st h r h' hf
  obtain ⟨m1, m2, kk⟩ := hg lv' st' h r h' hgf
  refine ⟨m1, m2, fun p l e R s m args below meth c hC hE n0 z0 hn hz hR1 hR2 hR3 hR4 H locs ls hW hF hL => ?_⟩
  exact hw p l e R s m args below meth c hC hE H locs ls _ _ _ hW hF hL (fun ls' hL' => kk p l e R s m args below meth c hC hE n0 z0 hn hz hR1 hR2 hR3 hR4 H locs ls' hW hF hL')
end
section
-- what kind of value a code is
def rx_isI (c : Nat) : Bool := Nat.beq (c % 8) 0 || (Nat.beq (c % 8) 5 || (Nat.beq (c % 8) 4 && Nat.blt (c / 8) 5))
def rx_isR (c : Nat) : Bool := Nat.beq (c % 8) 2 || (Nat.beq (c % 8) 3 || (Nat.beq (c % 8) 4 && Nat.ble 5 (c / 8)))
def rx_isL (c : Nat) : Bool := Nat.beq (c % 8) 1
theorem rx_beq {a b : Nat} (h : Nat.beq a b = true) : a = b := Nat.eq_of_beq_eq_true h
theorem rx_isI_v {V : rx_V} (hV : rx_Ok V) {c : Nat} (h : rx_isI c = true) : c % 8 ≠ 7 ∧ ∃ x, rx_v V c = .int x := by
  unfold rx_isI at h
  rcases Bool.or_eq_true_iff.mp h with h | h
  · have e := rx_beq h
    exact ⟨by omega, _, rx_v_0 e⟩
  · rcases Bool.or_eq_true_iff.mp h with h | h
    · have e := rx_beq h
      exact ⟨by omega, _, rx_v_5 e⟩
    · obtain ⟨h1, h2⟩ := Bool.and_eq_true_iff.mp h
      have e := rx_beq h1
      obtain ⟨v, q⟩ := hV.1 (c / 8) (Nat.le_of_ble_eq_true h2)
      exact ⟨by omega, v, by rw [rx_v_4 e, q]⟩
theorem rx_isR_v {V : rx_V} (hV : rx_Ok V) {c : Nat} (h : rx_isR c = true) : c % 8 ≠ 7 ∧ (rx_v V c = .null ∨ ∃ a, rx_v V c = .ref a) := by
  unfold rx_isR at h
  rcases Bool.or_eq_true_iff.mp h with h | h
  · have e := rx_beq h
    exact ⟨by omega, Or.inr ⟨_, rx_v_2 e⟩⟩
  · rcases Bool.or_eq_true_iff.mp h with h | h
    · have e := rx_beq h
      exact ⟨by omega, Or.inl (rx_v_3 e)⟩
    · obtain ⟨h1, h2⟩ := Bool.and_eq_true_iff.mp h
      have e := rx_beq h1
      refine ⟨by omega, ?_⟩
      rw [rx_v_4 e]
      rcases hV.2.1 (c / 8) (Nat.le_of_ble_eq_true h2) with q | ⟨a, -, q⟩
      · exact Or.inl q
      · exact Or.inr ⟨a, q⟩
theorem rx_isL_v {V : rx_V} {c : Nat} (h : rx_isL c = true) : c % 8 = 1 ∧ rx_v V c = .long (rx_dl c) := ⟨rx_beq h, rx_v_1 (rx_beq h)⟩
theorem rx_bif {α : Type} {b : Bool} {x y : Option α} {r : α} (h : (bif b then x else y) = some r) : (b = true ∧ x = some r) ∨ (b = false ∧ y = some r) := by cases b <;> simp_all
theorem rx_bifn {α : Type} {b : Bool} {x : Option α} {r : α} (h : (bif b then x else none) = some r) : b = true ∧ x = some r := by cases b <;> simp_all
-- locals
noncomputable def o_ld (chk : Nat → Bool) (i : Nat) (k : rx_K) : rx_K := fun lv st h => rx_f (rx_get 7 lv i) fun c => bif chk c then k lv (c :: st) h else none
theorem rx_L_at {V : rx_V} {ls : Array Slot} {nL i : Nat} {lv : List Nat} (hL : rx_L V ls nL lv) (h7 : rx_get 7 lv i % 8 ≠ 7) : ls[i]? = some (.val (rx_v V (rx_get 7 lv i))) := by
  rw [rx_get_eq] at h7 ⊢
  cases e : lv[i]? with
  | none => exfalso; apply h7; simp [List.getD, e]
  | some c =>
    have e2 : lv.getD i 7 = c := by simp [List.getD, e]
    rw [e2] at h7 ⊢
    exact hL.2.2 i c e h7
noncomputable def rx_st1 {β : Type} (lv : List Nat) (i v : Nat) (k : List Nat → Option β) : Option β :=
  rx_set lv i v fun l1 => Nat.rec (motive := fun _ => Option β) (k l1) (fun j _ => bif rx_isL (rx_get 7 lv j) then rx_set l1 j 7 k else k l1) i
noncomputable def rx_st2 {β : Type} (lv : List Nat) (i v : Nat) (k : List Nat → Option β) : Option β :=
  rx_set lv (i + 1) 7 fun l0 => rx_st1 l0 i v k
def rx_as (V : rx_V) (lv : List Nat) : List (Nat × Value) := (List.range lv.length).filterMap fun i => if lv.getD i 7 % 8 = 7 then none else some (i, rx_v V (lv.getD i 7))
theorem rx_as_mem {V : rx_V} {lv : List Nat} {q : Nat × Value} : q ∈ rx_as V lv ↔ ∃ i c, lv[i]? = some c ∧ c % 8 ≠ 7 ∧ q = (i, rx_v V c) := by
  unfold rx_as
  rw [List.mem_filterMap]
  constructor
  · rintro ⟨i, hi, he⟩
    have hl := List.mem_range.mp hi
    have e1 : lv[i]? = some (lv.getD i 7) := by simp [List.getD, List.getElem?_eq_getElem hl]
    by_cases h7 : lv.getD i 7 % 8 = 7
    · rw [if_pos h7] at he; cases he
    · rw [if_neg h7] at he
      exact ⟨i, _, e1, h7, (Option.some.inj he).symm⟩
  · rintro ⟨i, c, e, h7, rfl⟩
    have hl : i < lv.length := (List.getElem?_eq_some_iff.mp e).1
    refine ⟨i, List.mem_range.mpr hl, ?_⟩
    have e2 : lv.getD i 7 = c := by simp [List.getD, e]
    rw [e2, if_neg h7]
theorem rx_L_has {V : rx_V} {ls : Array Slot} {nL : Nat} {lv : List Nat} (hL : rx_L V ls nL lv) : lv_has ls nL (rx_as V lv) := by
  refine ⟨hL.1, hL.2.1, fun q hq => ?_⟩
  obtain ⟨i, c, e, h7, rfl⟩ := rx_as_mem.mp hq
  exact hL.2.2 i c e h7
theorem rx_st1_some {β : Type} {lv : List Nat} {i v : Nat} {k : List Nat → Option β} {r : β} (h : rx_st1 lv i v k = some r) : ∃ lv', k lv' = some r ∧ ∀ (j c : Nat), lv'[j]? = some c → c % 8 ≠ 7 → (j = i ∧ c = v) ∨ (j ≠ i ∧ lv[j]? = some c ∧ ¬ (j + 1 = i ∧ c % 8 = 1)) := by
  obtain ⟨h1, h2⟩ := rx_set_some h
  have key : ∀ (j c : Nat), (lv.set i v)[j]? = some c → (j = i ∧ c = v) ∨ (j ≠ i ∧ lv[j]? = some c) := by
    intro j c hj
    by_cases e : j = i
    · subst e
      rw [List.getElem?_set_self h1] at hj
      exact Or.inl ⟨rfl, (Option.some.inj hj).symm⟩
    · rw [List.getElem?_set_ne (fun q => e q.symm)] at hj
      exact Or.inr ⟨e, hj⟩
  cases i with
  | zero =>
    refine ⟨_, h2, fun j c hj h7 => ?_⟩
    rcases key j c hj with q | ⟨q1, q2⟩
    · exact Or.inl q
    · exact Or.inr ⟨q1, q2, fun z => by omega⟩
  | succ i =>
    rcases rx_bif h2 with ⟨hb, h3⟩ | ⟨hb, h3⟩
    · obtain ⟨h4, h5⟩ := rx_set_some h3
      refine ⟨_, h5, fun j c hj h7 => ?_⟩
      by_cases e : j = i
      · subst e
        rw [List.getElem?_set_self h4] at hj
        have := Option.some.inj hj
        omega
      · rw [List.getElem?_set_ne (fun q => e q.symm)] at hj
        rcases key j c hj with q | ⟨q1, q2⟩
        · exact Or.inl q
        · exact Or.inr ⟨q1, q2, fun z => e (by omega)⟩
    · refine ⟨_, h3, fun j c hj h7 => ?_⟩
      rcases key j c hj with q | ⟨q1, q2⟩
      · exact Or.inl q
      · refine Or.inr ⟨q1, q2, fun z => ?_⟩
        obtain ⟨z1, z2⟩ := z
        have z3 : j = i := by omega
        subst z3
        rw [rx_get_eq] at hb
        have e2 : lv.getD j 7 = c := by simp [List.getD, q2]
        rw [e2] at hb
        unfold rx_isL at hb
        rw [z2] at hb
        cases hb
theorem rx_L_st1 {V : rx_V} (hV : rx_Ok V) {ls' : Array Slot} {nL i v : Nat} {lv lv' : List Nat} (hh : lv_has ls' nL ((i, rx_v V v) :: (rx_as V lv).filter (fun q => !(q.1 == i) && !(q.1 + 1 == i && q.2.category == 2)))) (hk : ∀ (j c : Nat), lv'[j]? = some c → c % 8 ≠ 7 → (j = i ∧ c = v) ∨ (j ≠ i ∧ lv[j]? = some c ∧ ¬ (j + 1 = i ∧ c % 8 = 1))) : rx_L V ls' nL lv' := by
  refine ⟨hh.1, hh.2.1, fun j c hj h7 => ?_⟩
  rcases hk j c hj h7 with ⟨rfl, rfl⟩ | ⟨h1, h2, h3⟩
  · exact hh.2.2 _ List.mem_cons_self
  · refine hh.2.2 (j, rx_v V c) (List.mem_cons_of_mem _ (List.mem_filter.mpr ⟨rx_as_mem.mpr ⟨j, c, h2, h7, rfl⟩, ?_⟩))
    have e1 : (j == i) = false := by simp [h1]
    rw [rx_v_cat hV]
    by_cases e2 : j + 1 = i
    · have e3 : c % 8 ≠ 1 := fun z => h3 ⟨e2, z⟩
      have e4 : Nat.beq (c % 8) 1 = false := by
        rw [Bool.eq_false_iff]; intro q; exact e3 (rx_beq q)
      simp [e1, rx_ct, e4]
    · simp [e1, e2]
theorem rx_st2_some {β : Type} {lv : List Nat} {i v : Nat} {k : List Nat → Option β} {r : β} (h : rx_st2 lv i v k = some r) : ∃ lv', k lv' = some r ∧ ∀ (j c : Nat), lv'[j]? = some c → c % 8 ≠ 7 → (j = i ∧ c = v) ∨ (j ≠ i ∧ j ≠ i + 1 ∧ lv[j]? = some c ∧ ¬ (j + 1 = i ∧ c % 8 = 1)) := by
  obtain ⟨h1, h2⟩ := rx_set_some h
  obtain ⟨lv', h3, h4⟩ := rx_st1_some h2
  refine ⟨lv', h3, fun j c hj h7 => ?_⟩
  rcases h4 j c hj h7 with q | ⟨q1, q2, q3⟩
  · exact Or.inl q
  · by_cases e : j = i + 1
    · subst e
      rw [List.getElem?_set_self h1] at q2
      have := Option.some.inj q2
      omega
    · rw [List.getElem?_set_ne (fun q => e q.symm)] at q2
      exact Or.inr ⟨q1, e, q2, q3⟩
theorem rx_L_st2 {V : rx_V} (hV : rx_Ok V) {ls' : Array Slot} {nL i v : Nat} {lv lv' : List Nat} (hh : lv_has ls' nL ((i, rx_v V v) :: (rx_as V lv).filter (fun q => !(q.1 == i) && (!(q.1 == i + 1) && !(q.1 + 1 == i && q.2.category == 2))))) (hk : ∀ (j c : Nat), lv'[j]? = some c → c % 8 ≠ 7 → (j = i ∧ c = v) ∨ (j ≠ i ∧ j ≠ i + 1 ∧ lv[j]? = some c ∧ ¬ (j + 1 = i ∧ c % 8 = 1))) : rx_L V ls' nL lv' := by
  refine ⟨hh.1, hh.2.1, fun j c hj h7 => ?_⟩
  rcases hk j c hj h7 with ⟨rfl, rfl⟩ | ⟨h1, h1', h2, h3⟩
  · exact hh.2.2 _ List.mem_cons_self
  · refine hh.2.2 (j, rx_v V c) (List.mem_cons_of_mem _ (List.mem_filter.mpr ⟨rx_as_mem.mpr ⟨j, c, h2, h7, rfl⟩, ?_⟩))
    have e1 : (j == i) = false := by simp [h1]
    have e1' : (j == i + 1) = false := by simp [h1']
    rw [rx_v_cat hV]
    by_cases e2 : j + 1 = i
    · have e3 : c % 8 ≠ 1 := fun z => h3 ⟨e2, z⟩
      have e4 : Nat.beq (c % 8) 1 = false := by
        rw [Bool.eq_false_iff]; intro q; exact e3 (rx_beq q)
      simp [e1, e1', rx_ct, e4]
    · simp [e1, e1', e2]
end
section
section RX13
variable {V : rx_V} {M : rx_M} {d pc : Nat} {f t : rx_K}
theorem s_iload_n (hV : rx_Ok V) {k : Fin 4} {i : Nat} (hdg : decode M.2.1 pc = .ok (.iload_n k, 1)) (hi : (k : Nat) = i) (hk : rx_OK V M d (pc + 1) f) : rx_OK V M d pc (o_ld rx_isI i f) := by
  refine rx_pure fun lv st h r h' hf => ?_
  simp only [o_ld, rx_f_eq] at hf
  obtain ⟨hc, hf⟩ := rx_bifn hf
  obtain ⟨h7, x, ex⟩ := rx_isI_v hV hc
  refine ⟨pc + 1, f, lv, _, hk, hf, fun p l e R s m args below meth c hC hE H locs ls cells slots Q hW hF hL kk => ?_⟩
  have h2 := kk ls hL
  have h3 := rx_L_at hL h7
  rw [ex] at h3
  rw [List.map_cons, ex] at h2
  exact lv_iload_n hC.1 hC.2.1 hdg hi h3 h2
theorem s_iload (hV : rx_Ok V) {i : Nat} (hdg : decode M.2.1 pc = .ok (.iload i, 2)) (hk : rx_OK V M d (pc + 2) f) : rx_OK V M d pc (o_ld rx_isI i f) := by
  refine rx_pure fun lv st h r h' hf => ?_
  simp only [o_ld, rx_f_eq] at hf
  obtain ⟨hc, hf⟩ := rx_bifn hf
  obtain ⟨h7, x, ex⟩ := rx_isI_v hV hc
  refine ⟨pc + 2, f, lv, _, hk, hf, fun p l e R s m args below meth c hC hE H locs ls cells slots Q hW hF hL kk => ?_⟩
  have h2 := kk ls hL
  have h3 := rx_L_at hL h7
  rw [ex] at h3
  rw [List.map_cons, ex] at h2
  exact lv_iload hC.1 hC.2.1 hdg h3 h2
theorem s_aload_n (hV : rx_Ok V) {k : Fin 4} {i : Nat} (hdg : decode M.2.1 pc = .ok (.aload_n k, 1)) (hi : (k : Nat) = i) (hk : rx_OK V M d (pc + 1) f) : rx_OK V M d pc (o_ld rx_isR i f) := by
  refine rx_pure fun lv st h r h' hf => ?_
  simp only [o_ld, rx_f_eq] at hf
  obtain ⟨hc, hf⟩ := rx_bifn hf
  obtain ⟨h7, hx⟩ := rx_isR_v hV hc
  refine ⟨pc + 1, f, lv, _, hk, hf, fun p l e R s m args below meth c hC hE H locs ls cells slots Q hW hF hL kk => ?_⟩
  have h2 := kk ls hL
  have h3 := rx_L_at hL h7
  rw [List.map_cons] at h2
  rcases hx with ex | ⟨a, ex⟩
  · rw [ex] at h2 h3
    exact lv_aload_nN hC.1 hC.2.1 hdg hi h3 h2
  · rw [ex] at h2 h3
    exact lv_aload_n hC.1 hC.2.1 hdg hi h3 h2
theorem s_aload (hV : rx_Ok V) {i : Nat} (hdg : decode M.2.1 pc = .ok (.aload i, 2)) (hk : rx_OK V M d (pc + 2) f) : rx_OK V M d pc (o_ld rx_isR i f) := by
  refine rx_pure fun lv st h r h' hf => ?_
  simp only [o_ld, rx_f_eq] at hf
  obtain ⟨hc, hf⟩ := rx_bifn hf
  obtain ⟨h7, hx⟩ := rx_isR_v hV hc
  refine ⟨pc + 2, f, lv, _, hk, hf, fun p l e R s m args below meth c hC hE H locs ls cells slots Q hW hF hL kk => ?_⟩
  have h2 := kk ls hL
  have h3 := rx_L_at hL h7
  rw [List.map_cons] at h2
  rcases hx with ex | ⟨a, ex⟩
  · rw [ex] at h2 h3
    exact lv_aloadN hC.1 hC.2.1 hdg h3 h2
  · rw [ex] at h2 h3
    exact lv_aload hC.1 hC.2.1 hdg h3 h2
theorem s_lload_n (hV : rx_Ok V) {k : Fin 4} {i : Nat} (hdg : decode M.2.1 pc = .ok (.lload_n k, 1)) (hi : (k : Nat) = i) (hk : rx_OK V M d (pc + 1) f) : rx_OK V M d pc (o_ld rx_isL i f) := by
  refine rx_pure fun lv st h r h' hf => ?_
  simp only [o_ld, rx_f_eq] at hf
  obtain ⟨hc, hf⟩ := rx_bifn hf
  obtain ⟨h7, ex⟩ := rx_isL_v (V := V) hc
  refine ⟨pc + 1, f, lv, _, hk, hf, fun p l e R s m args below meth c hC hE H locs ls cells slots Q hW hF hL kk => ?_⟩
  have h2 := kk ls hL
  have h3 := rx_L_at (i := i) hL (by omega)
  rw [ex] at h3
  rw [List.map_cons, ex] at h2
  exact lv_lload_n hC.1 hC.2.1 hdg hi h3 h2
theorem s_lload (hV : rx_Ok V) {i : Nat} (hdg : decode M.2.1 pc = .ok (.lload i, 2)) (hk : rx_OK V M d (pc + 2) f) : rx_OK V M d pc (o_ld rx_isL i f) := by
  refine rx_pure fun lv st h r h' hf => ?_
  simp only [o_ld, rx_f_eq] at hf
  obtain ⟨hc, hf⟩ := rx_bifn hf
  obtain ⟨h7, ex⟩ := rx_isL_v (V := V) hc
  refine ⟨pc + 2, f, lv, _, hk, hf, fun p l e R s m args below meth c hC hE H locs ls cells slots Q hW hF hL kk => ?_⟩
  have h2 := kk ls hL
  have h3 := rx_L_at (i := i) hL (by omega)
  rw [ex] at h3
  rw [List.map_cons, ex] at h2
  exact lv_lload hC.1 hC.2.1 hdg h3 h2
noncomputable def o_st (chk : Nat → Bool) (i : Nat) (k : rx_K) : rx_K := fun lv st h => match st with
  | v :: r => bif chk v then rx_st1 lv i v fun lv' => k lv' r h else none
  | _ => none
noncomputable def o_stL (i : Nat) (k : rx_K) : rx_K := fun lv st h => match st with
  | v :: r => bif rx_isL v then rx_st2 lv i v fun lv' => k lv' r h else none
  | _ => none
theorem s_istore_n (hV : rx_Ok V) {k : Fin 4} {i : Nat} (hdg : decode M.2.1 pc = .ok (.istore_n k, 1)) (hi : (k : Nat) = i) (hn : i < M.2.2.1) (hk : rx_OK V M d (pc + 1) f) : rx_OK V M d pc (o_st rx_isI i f) := by
  refine rx_pure fun lv st h r h' hf => ?_
  match st, hf with
  | [], hf => cases hf
  | v :: st, hf =>
  simp only [o_st] at hf
  obtain ⟨hc, hf⟩ := rx_bifn hf
  obtain ⟨lv', hf, hlv⟩ := rx_st1_some hf
  refine ⟨pc + 1, f, lv', st, hk, hf, fun p l e R s m args below meth c hC hE H locs ls cells slots Q hW hF hL kk => ?_⟩
  rw [List.map_cons]
  obtain ⟨h7, x, ex⟩ := rx_isI_v hV hc
  rw [ex]
  refine lv_istore_n hC.1 hC.2.1 hdg hi (rx_L_has hL) hn rfl fun ls' hh => kk ls' (rx_L_st1 hV (v := v) ?_ hlv)
  rw [ex]
  exact hh
theorem s_istore (hV : rx_Ok V) {i : Nat} (hdg : decode M.2.1 pc = .ok (.istore i, 2)) (hn : i < M.2.2.1) (hk : rx_OK V M d (pc + 2) f) : rx_OK V M d pc (o_st rx_isI i f) := by
  refine rx_pure fun lv st h r h' hf => ?_
  match st, hf with
  | [], hf => cases hf
  | v :: st, hf =>
  simp only [o_st] at hf
  obtain ⟨hc, hf⟩ := rx_bifn hf
  obtain ⟨lv', hf, hlv⟩ := rx_st1_some hf
  refine ⟨pc + 2, f, lv', st, hk, hf, fun p l e R s m args below meth c hC hE H locs ls cells slots Q hW hF hL kk => ?_⟩
  rw [List.map_cons]
  obtain ⟨h7, x, ex⟩ := rx_isI_v hV hc
  rw [ex]
  refine lv_istore hC.1 hC.2.1 hdg (rx_L_has hL) hn rfl fun ls' hh => kk ls' (rx_L_st1 hV (v := v) ?_ hlv)
  rw [ex]
  exact hh
theorem s_astore_n (hV : rx_Ok V) {k : Fin 4} {i : Nat} (hdg : decode M.2.1 pc = .ok (.astore_n k, 1)) (hi : (k : Nat) = i) (hn : i < M.2.2.1) (hk : rx_OK V M d (pc + 1) f) : rx_OK V M d pc (o_st rx_isR i f) := by
  refine rx_pure fun lv st h r h' hf => ?_
  match st, hf with
  | [], hf => cases hf
  | v :: st, hf =>
  simp only [o_st] at hf
  obtain ⟨hc, hf⟩ := rx_bifn hf
  obtain ⟨lv', hf, hlv⟩ := rx_st1_some hf
  refine ⟨pc + 1, f, lv', st, hk, hf, fun p l e R s m args below meth c hC hE H locs ls cells slots Q hW hF hL kk => ?_⟩
  rw [List.map_cons]
  obtain ⟨h7, hx⟩ := rx_isR_v hV hc
  rcases hx with ex | ⟨a, ex⟩
  · rw [ex]
    refine lv_astore_nN hC.1 hC.2.1 hdg hi (rx_L_has hL) hn rfl fun ls' hh => kk ls' (rx_L_st1 hV (v := v) ?_ hlv)
    rw [ex]
    exact hh
  · rw [ex]
    refine lv_astore_n hC.1 hC.2.1 hdg hi (rx_L_has hL) hn rfl fun ls' hh => kk ls' (rx_L_st1 hV (v := v) ?_ hlv)
    rw [ex]
    exact hh
theorem s_astore (hV : rx_Ok V) {i : Nat} (hdg : decode M.2.1 pc = .ok (.astore i, 2)) (hn : i < M.2.2.1) (hk : rx_OK V M d (pc + 2) f) : rx_OK V M d pc (o_st rx_isR i f) := by
  refine rx_pure fun lv st h r h' hf => ?_
  match st, hf with
  | [], hf => cases hf
  | v :: st, hf =>
  simp only [o_st] at hf
  obtain ⟨hc, hf⟩ := rx_bifn hf
  obtain ⟨lv', hf, hlv⟩ := rx_st1_some hf
  refine ⟨pc + 2, f, lv', st, hk, hf, fun p l e R s m args below meth c hC hE H locs ls cells slots Q hW hF hL kk => ?_⟩
  rw [List.map_cons]
  obtain ⟨h7, hx⟩ := rx_isR_v hV hc
  rcases hx with ex | ⟨a, ex⟩
  · rw [ex]
    refine lv_astoreN hC.1 hC.2.1 hdg (rx_L_has hL) hn rfl fun ls' hh => kk ls' (rx_L_st1 hV (v := v) ?_ hlv)
    rw [ex]
    exact hh
  · rw [ex]
    refine lv_astore hC.1 hC.2.1 hdg (rx_L_has hL) hn rfl fun ls' hh => kk ls' (rx_L_st1 hV (v := v) ?_ hlv)
    rw [ex]
    exact hh
theorem s_lstore_n (hV : rx_Ok V) {k : Fin 4} {i : Nat} (hdg : decode M.2.1 pc = .ok (.lstore_n k, 1)) (hi : (k : Nat) = i) (hn : i + 1 < M.2.2.1) (hk : rx_OK V M d (pc + 1) f) : rx_OK V M d pc (o_stL i f) := by
  refine rx_pure fun lv st h r h' hf => ?_
  match st, hf with
  | [], hf => cases hf
  | v :: st, hf =>
  simp only [o_stL] at hf
  obtain ⟨hc, hf⟩ := rx_bifn hf
  obtain ⟨lv', hf, hlv⟩ := rx_st2_some hf
  obtain ⟨h7, ex⟩ := rx_isL_v (V := V) hc
  refine ⟨pc + 1, f, lv', st, hk, hf, fun p l e R s m args below meth c hC hE H locs ls cells slots Q hW hF hL kk => ?_⟩
  rw [List.map_cons, ex]
  refine lv_lstore_n hC.1 hC.2.1 hdg hi (rx_L_has hL) hn rfl fun ls' hh => kk ls' (rx_L_st2 hV (v := v) ?_ hlv)
  rw [ex]
  exact hh
theorem s_lstore (hV : rx_Ok V) {i : Nat} (hdg : decode M.2.1 pc = .ok (.lstore i, 2)) (hn : i + 1 < M.2.2.1) (hk : rx_OK V M d (pc + 2) f) : rx_OK V M d pc (o_stL i f) := by
  refine rx_pure fun lv st h r h' hf => ?_
  match st, hf with
  | [], hf => cases hf
  | v :: st, hf =>
  simp only [o_stL] at hf
  obtain ⟨hc, hf⟩ := rx_bifn hf
  obtain ⟨lv', hf, hlv⟩ := rx_st2_some hf
  obtain ⟨h7, ex⟩ := rx_isL_v (V := V) hc
  refine ⟨pc + 2, f, lv', st, hk, hf, fun p l e R s m args below meth c hC hE H locs ls cells slots Q hW hF hL kk => ?_⟩
  rw [List.map_cons, ex]
  refine lv_lstore hC.1 hC.2.1 hdg (rx_L_has hL) hn rfl fun ls' hh => kk ls' (rx_L_st2 hV (v := v) ?_ hlv)
  rw [ex]
  exact hh
noncomputable def o_inc (i : Nat) (n : Int) (k : rx_K) : rx_K := fun lv st h => rx_f (rx_get 7 lv i) fun c => bif Nat.beq (c % 8) 0 then rx_f (rx_ei (rx_di c + Int32.ofInt n)) fun v => rx_st1 lv i v fun lv' => k lv' st h else none
theorem s_iinc (hV : rx_Ok V) {i : Nat} {n : Int} (hdg : decode M.2.1 pc = .ok (.iinc i n, 3)) (hn : i < M.2.2.1) (hk : rx_OK V M d (pc + 3) f) : rx_OK V M d pc (o_inc i n f) := by
  refine rx_pure fun lv st h r h' hf => ?_
  simp only [o_inc, rx_f_eq] at hf
  obtain ⟨hc, hf⟩ := rx_bifn hf
  have h0 := rx_beq hc
  obtain ⟨lv', hf, hlv⟩ := rx_st1_some hf
  refine ⟨pc + 3, f, lv', st, hk, hf, fun p l e R s m args below meth c hC hE H locs ls cells slots Q hW hF hL kk => ?_⟩
  have ev := rx_v_0 (V := V) h0
  have hmem : (i, Value.int (rx_di (rx_get 7 lv i))) ∈ rx_as V lv := by
    rw [← ev]
    rw [rx_get_eq] at h0 ⊢
    cases q : lv[i]? with
    | none => rw [show lv.getD i 7 = 7 by simp [List.getD, q]] at h0; omega
    | some c0 =>
      have q2 : lv.getD i 7 = c0 := by simp [List.getD, q]
      rw [q2] at h0 ⊢
      exact rx_as_mem.mpr ⟨i, c0, q, by omega, rfl⟩
  obtain ⟨k0, hk0⟩ := List.mem_iff_getElem?.mp hmem
  refine lv_iinc hC.1 hC.2.1 hdg (rx_L_has hL) hk0 rfl hn rfl fun ls' hh => kk ls' (rx_L_st1 hV (v := rx_ei (rx_di (rx_get 7 lv i) + Int32.ofInt n)) ?_ hlv)
  rw [rx_v_ei]
  exact hh
noncomputable def o_const (c : Nat) (k : rx_K) : rx_K := fun lv st h => k lv (c :: st) h
theorem s_iconst {n : Int} {v : Nat} (hdg : decode M.2.1 pc = .ok (.iconst n, 1)) (hv : rx_ei (Int32.ofInt n) = v) (hk : rx_OK V M d (pc + 1) f) : rx_OK V M d pc (o_const v f) := by
  subst hv
  refine rx_pure fun lv st h r h' hf => ?_
  refine ⟨pc + 1, f, lv, _, hk, hf, fun p l e R s m args below meth c hC hE H locs ls cells slots Q hW hF hL kk => ?_⟩
  have h2 := kk ls hL
  rw [List.map_cons, rx_v_ei] at h2
  exact lv_iconst hC.1 hC.2.1 hdg rfl h2
theorem s_bipush {n : Int} {v : Nat} (hdg : decode M.2.1 pc = .ok (.bipush n, 2)) (hv : rx_ei (Int8.ofInt n).toInt32 = v) (hk : rx_OK V M d (pc + 2) f) : rx_OK V M d pc (o_const v f) := by
  subst hv
  refine rx_pure fun lv st h r h' hf => ?_
  refine ⟨pc + 2, f, lv, _, hk, hf, fun p l e R s m args below meth c hC hE H locs ls cells slots Q hW hF hL kk => ?_⟩
  have h2 := kk ls hL
  rw [List.map_cons, rx_v_ei] at h2
  exact lv_bipush hC.1 hC.2.1 hdg rfl h2
theorem s_sipush {n : Int} {v : Nat} (hdg : decode M.2.1 pc = .ok (.sipush n, 3)) (hv : rx_ei (Int16.ofInt n).toInt32 = v) (hk : rx_OK V M d (pc + 3) f) : rx_OK V M d pc (o_const v f) := by
  subst hv
  refine rx_pure fun lv st h r h' hf => ?_
  refine ⟨pc + 3, f, lv, _, hk, hf, fun p l e R s m args below meth c hC hE H locs ls cells slots Q hW hF hL kk => ?_⟩
  have h2 := kk ls hL
  rw [List.map_cons, rx_v_ei] at h2
  exact lv_sipush hC.1 hC.2.1 hdg rfl h2
theorem s_lconst {n : Fin 2} {v : Nat} (hdg : decode M.2.1 pc = .ok (.lconst n, 1)) (hv : rx_el (Int64.ofNat (n : Nat)) = v) (hk : rx_OK V M d (pc + 1) f) : rx_OK V M d pc (o_const v f) := by
  subst hv
  refine rx_pure fun lv st h r h' hf => ?_
  refine ⟨pc + 1, f, lv, _, hk, hf, fun p l e R s m args below meth c hC hE H locs ls cells slots Q hW hF hL kk => ?_⟩
  have h2 := kk ls hL
  rw [List.map_cons, rx_v_el] at h2
  exact lv_lconst hC.1 hC.2.1 hdg rfl h2
theorem s_null (hdg : decode M.2.1 pc = .ok (.aconst_null, 1)) (hk : rx_OK V M d (pc + 1) f) : rx_OK V M d pc (o_const 3 f) := by
  refine rx_pure fun lv st h r h' hf => ?_
  refine ⟨pc + 1, f, lv, _, hk, hf, fun p l e R s m args below meth c hC hE H locs ls cells slots Q hW hF hL kk => ?_⟩
  have h2 := kk ls hL
  rw [List.map_cons, rx_v_3 rfl] at h2
  exact lv_null hC.1 hC.2.1 hdg h2
theorem s_ldc {index v : Nat} {x : Int32} (hdg : decode M.2.1 pc = .ok (.ldc index, 2)) (hw : Cond.constant M.1 index x ∈ eW V) (hv : rx_ei x = v) (hk : rx_OK V M d (pc + 2) f) : rx_OK V M d pc (o_const v f) := by
  subst hv
  refine rx_pure fun lv st h r h' hf => ?_
  refine ⟨pc + 2, f, lv, _, hk, hf, fun p l e R s m args below meth c hC hE H locs ls cells slots Q hW hF hL kk => ?_⟩
  have h2 := kk ls hL
  rw [List.map_cons, rx_v_ei] at h2
  exact lv_ldc hC.1 hC.2.1 hC.2.2.2.2.2.1 (hC.2.2.2.2.2.2.1 _ hw) hdg h2
theorem s_ldcw {index v : Nat} {x : Int32} (hdg : decode M.2.1 pc = .ok (.ldc_w index, 3)) (hw : Cond.constant M.1 index x ∈ eW V) (hv : rx_ei x = v) (hk : rx_OK V M d (pc + 3) f) : rx_OK V M d pc (o_const v f) := by
  subst hv
  refine rx_pure fun lv st h r h' hf => ?_
  refine ⟨pc + 3, f, lv, _, hk, hf, fun p l e R s m args below meth c hC hE H locs ls cells slots Q hW hF hL kk => ?_⟩
  have h2 := kk ls hL
  rw [List.map_cons, rx_v_ei] at h2
  exact lv_ldcw hC.1 hC.2.1 hC.2.2.2.2.2.1 (hC.2.2.2.2.2.2.1 _ hw) hdg h2
theorem s_ldc2 {index v : Nat} {x : Int64} (hdg : decode M.2.1 pc = .ok (.ldc2_w index, 3)) (hw : Cond.constantLong M.1 index x ∈ eW V) (hv : rx_el x = v) (hk : rx_OK V M d (pc + 3) f) : rx_OK V M d pc (o_const v f) := by
  subst hv
  refine rx_pure fun lv st h r h' hf => ?_
  refine ⟨pc + 3, f, lv, _, hk, hf, fun p l e R s m args below meth c hC hE H locs ls cells slots Q hW hF hL kk => ?_⟩
  have h2 := kk ls hL
  rw [List.map_cons, rx_v_el] at h2
  exact lv_ldc2 hC.1 hC.2.1 hC.2.2.2.2.2.1 (hC.2.2.2.2.2.2.1 _ hw) hdg h2
noncomputable def o_bi (g : Int32 → Int32 → Int32) (k : rx_K) : rx_K := fun lv st h => match st with
  | y :: x :: r => bif Nat.beq (y % 8) 0 && Nat.beq (x % 8) 0 then rx_f (rx_ei (g (rx_di x) (rx_di y))) fun v => k lv (v :: r) h else none
  | _ => none
noncomputable def o_bl (g : Int64 → Int64 → Int64) (k : rx_K) : rx_K := fun lv st h => match st with
  | y :: x :: r => bif Nat.beq (y % 8) 1 && Nat.beq (x % 8) 1 then rx_f (rx_el (g (rx_dl x) (rx_dl y))) fun v => k lv (v :: r) h else none
  | _ => none
noncomputable def o_bs (g : Int64 → Int32 → Int64) (k : rx_K) : rx_K := fun lv st h => match st with
  | y :: x :: r => bif Nat.beq (y % 8) 0 && Nat.beq (x % 8) 1 then rx_f (rx_el (g (rx_dl x) (rx_di y))) fun v => k lv (v :: r) h else none
  | _ => none
noncomputable def o_bc (g : Int64 → Int64 → Int32) (k : rx_K) : rx_K := fun lv st h => match st with
  | y :: x :: r => bif Nat.beq (y % 8) 1 && Nat.beq (x % 8) 1 then rx_f (rx_ei (g (rx_dl x) (rx_dl y))) fun v => k lv (v :: r) h else none
  | _ => none
noncomputable def o_ui (g : Int32 → Int32) (k : rx_K) : rx_K := fun lv st h => match st with
  | x :: r => bif Nat.beq (x % 8) 0 then rx_f (rx_ei (g (rx_di x))) fun v => k lv (v :: r) h else none
  | _ => none
noncomputable def o_il (g : Int32 → Int64) (k : rx_K) : rx_K := fun lv st h => match st with
  | x :: r => bif Nat.beq (x % 8) 0 then rx_f (rx_el (g (rx_di x))) fun v => k lv (v :: r) h else none
  | _ => none
noncomputable def o_ul (g : Int64 → Int64) (k : rx_K) : rx_K := fun lv st h => match st with
  | x :: r => bif Nat.beq (x % 8) 1 then rx_f (rx_el (g (rx_dl x))) fun v => k lv (v :: r) h else none
  | _ => none
noncomputable def o_li (g : Int64 → Int32) (k : rx_K) : rx_K := fun lv st h => match st with
  | x :: r => bif Nat.beq (x % 8) 1 then rx_f (rx_ei (g (rx_dl x))) fun v => k lv (v :: r) h else none
  | _ => none
theorem s_iadd (hdg : decode M.2.1 pc = .ok (.iadd, 1)) (hk : rx_OK V M d (pc + 1) f) : rx_OK V M d pc (o_bi (fun x y => x + y) f) := by
  refine rx_pure fun lv st h r h' hf => ?_
  match st, hf with
  | [], hf => cases hf
  | [_], hf => cases hf
  | y :: x :: st, hf =>
  simp only [o_bi, rx_f_eq] at hf
  obtain ⟨hc, hf⟩ := rx_bifn hf
  obtain ⟨hy, hx⟩ := Bool.and_eq_true_iff.mp hc
  refine ⟨pc + 1, f, lv, _, hk, hf, fun p l e R s m args below meth c hC hE H locs ls cells slots Q hW hF hL kk => ?_⟩
  have h2 := kk ls hL
  rw [List.map_cons, rx_v_ei] at h2
  rw [List.map_cons, List.map_cons, rx_v_0 (rx_beq hy), rx_v_0 (rx_beq hx)]
  exact lv_iadd hC.1 hC.2.1 hdg h2
theorem s_isub (hdg : decode M.2.1 pc = .ok (.isub, 1)) (hk : rx_OK V M d (pc + 1) f) : rx_OK V M d pc (o_bi (fun x y => x - y) f) := by
  refine rx_pure fun lv st h r h' hf => ?_
  match st, hf with
  | [], hf => cases hf
  | [_], hf => cases hf
  | y :: x :: st, hf =>
  simp only [o_bi, rx_f_eq] at hf
  obtain ⟨hc, hf⟩ := rx_bifn hf
  obtain ⟨hy, hx⟩ := Bool.and_eq_true_iff.mp hc
  refine ⟨pc + 1, f, lv, _, hk, hf, fun p l e R s m args below meth c hC hE H locs ls cells slots Q hW hF hL kk => ?_⟩
  have h2 := kk ls hL
  rw [List.map_cons, rx_v_ei] at h2
  rw [List.map_cons, List.map_cons, rx_v_0 (rx_beq hy), rx_v_0 (rx_beq hx)]
  exact lv_isub hC.1 hC.2.1 hdg h2
theorem s_imul (hdg : decode M.2.1 pc = .ok (.imul, 1)) (hk : rx_OK V M d (pc + 1) f) : rx_OK V M d pc (o_bi (fun x y => x * y) f) := by
  refine rx_pure fun lv st h r h' hf => ?_
  match st, hf with
  | [], hf => cases hf
  | [_], hf => cases hf
  | y :: x :: st, hf =>
  simp only [o_bi, rx_f_eq] at hf
  obtain ⟨hc, hf⟩ := rx_bifn hf
  obtain ⟨hy, hx⟩ := Bool.and_eq_true_iff.mp hc
  refine ⟨pc + 1, f, lv, _, hk, hf, fun p l e R s m args below meth c hC hE H locs ls cells slots Q hW hF hL kk => ?_⟩
  have h2 := kk ls hL
  rw [List.map_cons, rx_v_ei] at h2
  rw [List.map_cons, List.map_cons, rx_v_0 (rx_beq hy), rx_v_0 (rx_beq hx)]
  exact lv_imul hC.1 hC.2.1 hdg h2
theorem s_iand (hdg : decode M.2.1 pc = .ok (.iand, 1)) (hk : rx_OK V M d (pc + 1) f) : rx_OK V M d pc (o_bi (fun x y => x &&& y) f) := by
  refine rx_pure fun lv st h r h' hf => ?_
  match st, hf with
  | [], hf => cases hf
  | [_], hf => cases hf
  | y :: x :: st, hf =>
  simp only [o_bi, rx_f_eq] at hf
  obtain ⟨hc, hf⟩ := rx_bifn hf
  obtain ⟨hy, hx⟩ := Bool.and_eq_true_iff.mp hc
  refine ⟨pc + 1, f, lv, _, hk, hf, fun p l e R s m args below meth c hC hE H locs ls cells slots Q hW hF hL kk => ?_⟩
  have h2 := kk ls hL
  rw [List.map_cons, rx_v_ei] at h2
  rw [List.map_cons, List.map_cons, rx_v_0 (rx_beq hy), rx_v_0 (rx_beq hx)]
  exact lv_iand hC.1 hC.2.1 hdg h2
theorem s_ior (hdg : decode M.2.1 pc = .ok (.ior, 1)) (hk : rx_OK V M d (pc + 1) f) : rx_OK V M d pc (o_bi (fun x y => x ||| y) f) := by
  refine rx_pure fun lv st h r h' hf => ?_
  match st, hf with
  | [], hf => cases hf
  | [_], hf => cases hf
  | y :: x :: st, hf =>
  simp only [o_bi, rx_f_eq] at hf
  obtain ⟨hc, hf⟩ := rx_bifn hf
  obtain ⟨hy, hx⟩ := Bool.and_eq_true_iff.mp hc
  refine ⟨pc + 1, f, lv, _, hk, hf, fun p l e R s m args below meth c hC hE H locs ls cells slots Q hW hF hL kk => ?_⟩
  have h2 := kk ls hL
  rw [List.map_cons, rx_v_ei] at h2
  rw [List.map_cons, List.map_cons, rx_v_0 (rx_beq hy), rx_v_0 (rx_beq hx)]
  exact lv_ior hC.1 hC.2.1 hdg h2
theorem s_ixor (hdg : decode M.2.1 pc = .ok (.ixor, 1)) (hk : rx_OK V M d (pc + 1) f) : rx_OK V M d pc (o_bi (fun x y => x ^^^ y) f) := by
  refine rx_pure fun lv st h r h' hf => ?_
  match st, hf with
  | [], hf => cases hf
  | [_], hf => cases hf
  | y :: x :: st, hf =>
  simp only [o_bi, rx_f_eq] at hf
  obtain ⟨hc, hf⟩ := rx_bifn hf
  obtain ⟨hy, hx⟩ := Bool.and_eq_true_iff.mp hc
  refine ⟨pc + 1, f, lv, _, hk, hf, fun p l e R s m args below meth c hC hE H locs ls cells slots Q hW hF hL kk => ?_⟩
  have h2 := kk ls hL
  rw [List.map_cons, rx_v_ei] at h2
  rw [List.map_cons, List.map_cons, rx_v_0 (rx_beq hy), rx_v_0 (rx_beq hx)]
  exact lv_ixor hC.1 hC.2.1 hdg h2
theorem s_ishl (hdg : decode M.2.1 pc = .ok (.ishl, 1)) (hk : rx_OK V M d (pc + 1) f) : rx_OK V M d pc (o_bi (fun x y => x <<< (y &&& 31)) f) := by
  refine rx_pure fun lv st h r h' hf => ?_
  match st, hf with
  | [], hf => cases hf
  | [_], hf => cases hf
  | y :: x :: st, hf =>
  simp only [o_bi, rx_f_eq] at hf
  obtain ⟨hc, hf⟩ := rx_bifn hf
  obtain ⟨hy, hx⟩ := Bool.and_eq_true_iff.mp hc
  refine ⟨pc + 1, f, lv, _, hk, hf, fun p l e R s m args below meth c hC hE H locs ls cells slots Q hW hF hL kk => ?_⟩
  have h2 := kk ls hL
  rw [List.map_cons, rx_v_ei] at h2
  rw [List.map_cons, List.map_cons, rx_v_0 (rx_beq hy), rx_v_0 (rx_beq hx)]
  exact lv_ishl hC.1 hC.2.1 hdg h2
theorem s_ishr (hdg : decode M.2.1 pc = .ok (.ishr, 1)) (hk : rx_OK V M d (pc + 1) f) : rx_OK V M d pc (o_bi (fun x y => x >>> (y &&& 31)) f) := by
  refine rx_pure fun lv st h r h' hf => ?_
  match st, hf with
  | [], hf => cases hf
  | [_], hf => cases hf
  | y :: x :: st, hf =>
  simp only [o_bi, rx_f_eq] at hf
  obtain ⟨hc, hf⟩ := rx_bifn hf
  obtain ⟨hy, hx⟩ := Bool.and_eq_true_iff.mp hc
  refine ⟨pc + 1, f, lv, _, hk, hf, fun p l e R s m args below meth c hC hE H locs ls cells slots Q hW hF hL kk => ?_⟩
  have h2 := kk ls hL
  rw [List.map_cons, rx_v_ei] at h2
  rw [List.map_cons, List.map_cons, rx_v_0 (rx_beq hy), rx_v_0 (rx_beq hx)]
  exact lv_ishr hC.1 hC.2.1 hdg h2
theorem s_iushr (hdg : decode M.2.1 pc = .ok (.iushr, 1)) (hk : rx_OK V M d (pc + 1) f) : rx_OK V M d pc (o_bi (fun x y => (x.toUInt32 >>> (y.toUInt32 &&& Int32.toUInt32 31)).toInt32) f) := by
  refine rx_pure fun lv st h r h' hf => ?_
  match st, hf with
  | [], hf => cases hf
  | [_], hf => cases hf
  | y :: x :: st, hf =>
  simp only [o_bi, rx_f_eq] at hf
  obtain ⟨hc, hf⟩ := rx_bifn hf
  obtain ⟨hy, hx⟩ := Bool.and_eq_true_iff.mp hc
  refine ⟨pc + 1, f, lv, _, hk, hf, fun p l e R s m args below meth c hC hE H locs ls cells slots Q hW hF hL kk => ?_⟩
  have h2 := kk ls hL
  rw [List.map_cons, rx_v_ei] at h2
  rw [List.map_cons, List.map_cons, rx_v_0 (rx_beq hy), rx_v_0 (rx_beq hx)]
  exact lv_iushr hC.1 hC.2.1 hdg rfl h2
theorem s_ladd (hdg : decode M.2.1 pc = .ok (.ladd, 1)) (hk : rx_OK V M d (pc + 1) f) : rx_OK V M d pc (o_bl (fun x y => x + y) f) := by
  refine rx_pure fun lv st h r h' hf => ?_
  match st, hf with
  | [], hf => cases hf
  | [_], hf => cases hf
  | y :: x :: st, hf =>
  simp only [o_bl, rx_f_eq] at hf
  obtain ⟨hc, hf⟩ := rx_bifn hf
  obtain ⟨hy, hx⟩ := Bool.and_eq_true_iff.mp hc
  refine ⟨pc + 1, f, lv, _, hk, hf, fun p l e R s m args below meth c hC hE H locs ls cells slots Q hW hF hL kk => ?_⟩
  have h2 := kk ls hL
  rw [List.map_cons, rx_v_el] at h2
  rw [List.map_cons, List.map_cons, rx_v_1 (rx_beq hy), rx_v_1 (rx_beq hx)]
  exact lv_ladd hC.1 hC.2.1 hdg h2
theorem s_lsub (hdg : decode M.2.1 pc = .ok (.lsub, 1)) (hk : rx_OK V M d (pc + 1) f) : rx_OK V M d pc (o_bl (fun x y => x - y) f) := by
  refine rx_pure fun lv st h r h' hf => ?_
  match st, hf with
  | [], hf => cases hf
  | [_], hf => cases hf
  | y :: x :: st, hf =>
  simp only [o_bl, rx_f_eq] at hf
  obtain ⟨hc, hf⟩ := rx_bifn hf
  obtain ⟨hy, hx⟩ := Bool.and_eq_true_iff.mp hc
  refine ⟨pc + 1, f, lv, _, hk, hf, fun p l e R s m args below meth c hC hE H locs ls cells slots Q hW hF hL kk => ?_⟩
  have h2 := kk ls hL
  rw [List.map_cons, rx_v_el] at h2
  rw [List.map_cons, List.map_cons, rx_v_1 (rx_beq hy), rx_v_1 (rx_beq hx)]
  exact lv_lsub hC.1 hC.2.1 hdg h2
theorem s_lmul (hdg : decode M.2.1 pc = .ok (.lmul, 1)) (hk : rx_OK V M d (pc + 1) f) : rx_OK V M d pc (o_bl (fun x y => x * y) f) := by
  refine rx_pure fun lv st h r h' hf => ?_
  match st, hf with
  | [], hf => cases hf
  | [_], hf => cases hf
  | y :: x :: st, hf =>
  simp only [o_bl, rx_f_eq] at hf
  obtain ⟨hc, hf⟩ := rx_bifn hf
  obtain ⟨hy, hx⟩ := Bool.and_eq_true_iff.mp hc
  refine ⟨pc + 1, f, lv, _, hk, hf, fun p l e R s m args below meth c hC hE H locs ls cells slots Q hW hF hL kk => ?_⟩
  have h2 := kk ls hL
  rw [List.map_cons, rx_v_el] at h2
  rw [List.map_cons, List.map_cons, rx_v_1 (rx_beq hy), rx_v_1 (rx_beq hx)]
  exact lv_lmul hC.1 hC.2.1 hdg h2
theorem s_land (hdg : decode M.2.1 pc = .ok (.land, 1)) (hk : rx_OK V M d (pc + 1) f) : rx_OK V M d pc (o_bl (fun x y => x &&& y) f) := by
  refine rx_pure fun lv st h r h' hf => ?_
  match st, hf with
  | [], hf => cases hf
  | [_], hf => cases hf
  | y :: x :: st, hf =>
  simp only [o_bl, rx_f_eq] at hf
  obtain ⟨hc, hf⟩ := rx_bifn hf
  obtain ⟨hy, hx⟩ := Bool.and_eq_true_iff.mp hc
  refine ⟨pc + 1, f, lv, _, hk, hf, fun p l e R s m args below meth c hC hE H locs ls cells slots Q hW hF hL kk => ?_⟩
  have h2 := kk ls hL
  rw [List.map_cons, rx_v_el] at h2
  rw [List.map_cons, List.map_cons, rx_v_1 (rx_beq hy), rx_v_1 (rx_beq hx)]
  exact lv_land hC.1 hC.2.1 hdg h2
theorem s_lor (hdg : decode M.2.1 pc = .ok (.lor, 1)) (hk : rx_OK V M d (pc + 1) f) : rx_OK V M d pc (o_bl (fun x y => x ||| y) f) := by
  refine rx_pure fun lv st h r h' hf => ?_
  match st, hf with
  | [], hf => cases hf
  | [_], hf => cases hf
  | y :: x :: st, hf =>
  simp only [o_bl, rx_f_eq] at hf
  obtain ⟨hc, hf⟩ := rx_bifn hf
  obtain ⟨hy, hx⟩ := Bool.and_eq_true_iff.mp hc
  refine ⟨pc + 1, f, lv, _, hk, hf, fun p l e R s m args below meth c hC hE H locs ls cells slots Q hW hF hL kk => ?_⟩
  have h2 := kk ls hL
  rw [List.map_cons, rx_v_el] at h2
  rw [List.map_cons, List.map_cons, rx_v_1 (rx_beq hy), rx_v_1 (rx_beq hx)]
  exact lv_lor hC.1 hC.2.1 hdg h2
theorem s_lxor (hdg : decode M.2.1 pc = .ok (.lxor, 1)) (hk : rx_OK V M d (pc + 1) f) : rx_OK V M d pc (o_bl (fun x y => x ^^^ y) f) := by
  refine rx_pure fun lv st h r h' hf => ?_
  match st, hf with
  | [], hf => cases hf
  | [_], hf => cases hf
  | y :: x :: st, hf =>
  simp only [o_bl, rx_f_eq] at hf
  obtain ⟨hc, hf⟩ := rx_bifn hf
  obtain ⟨hy, hx⟩ := Bool.and_eq_true_iff.mp hc
  refine ⟨pc + 1, f, lv, _, hk, hf, fun p l e R s m args below meth c hC hE H locs ls cells slots Q hW hF hL kk => ?_⟩
  have h2 := kk ls hL
  rw [List.map_cons, rx_v_el] at h2
  rw [List.map_cons, List.map_cons, rx_v_1 (rx_beq hy), rx_v_1 (rx_beq hx)]
  exact lv_lxor hC.1 hC.2.1 hdg h2
theorem s_lshl (hdg : decode M.2.1 pc = .ok (.lshl, 1)) (hk : rx_OK V M d (pc + 1) f) : rx_OK V M d pc (o_bs (fun x y => x <<< (y.toInt64 &&& 63)) f) := by
  refine rx_pure fun lv st h r h' hf => ?_
  match st, hf with
  | [], hf => cases hf
  | [_], hf => cases hf
  | y :: x :: st, hf =>
  simp only [o_bs, rx_f_eq] at hf
  obtain ⟨hc, hf⟩ := rx_bifn hf
  obtain ⟨hy, hx⟩ := Bool.and_eq_true_iff.mp hc
  refine ⟨pc + 1, f, lv, _, hk, hf, fun p l e R s m args below meth c hC hE H locs ls cells slots Q hW hF hL kk => ?_⟩
  have h2 := kk ls hL
  rw [List.map_cons, rx_v_el] at h2
  rw [List.map_cons, List.map_cons, rx_v_0 (rx_beq hy), rx_v_1 (rx_beq hx)]
  exact lv_lshl hC.1 hC.2.1 hdg rfl h2
theorem s_lshr (hdg : decode M.2.1 pc = .ok (.lshr, 1)) (hk : rx_OK V M d (pc + 1) f) : rx_OK V M d pc (o_bs (fun x y => x >>> (y.toInt64 &&& 63)) f) := by
  refine rx_pure fun lv st h r h' hf => ?_
  match st, hf with
  | [], hf => cases hf
  | [_], hf => cases hf
  | y :: x :: st, hf =>
  simp only [o_bs, rx_f_eq] at hf
  obtain ⟨hc, hf⟩ := rx_bifn hf
  obtain ⟨hy, hx⟩ := Bool.and_eq_true_iff.mp hc
  refine ⟨pc + 1, f, lv, _, hk, hf, fun p l e R s m args below meth c hC hE H locs ls cells slots Q hW hF hL kk => ?_⟩
  have h2 := kk ls hL
  rw [List.map_cons, rx_v_el] at h2
  rw [List.map_cons, List.map_cons, rx_v_0 (rx_beq hy), rx_v_1 (rx_beq hx)]
  exact lv_lshr hC.1 hC.2.1 hdg rfl h2
theorem s_lushr (hdg : decode M.2.1 pc = .ok (.lushr, 1)) (hk : rx_OK V M d (pc + 1) f) : rx_OK V M d pc (o_bs (fun x y => (x.toUInt64 >>> (y.toInt64.toUInt64 &&& Int64.toUInt64 63)).toInt64) f) := by
  refine rx_pure fun lv st h r h' hf => ?_
  match st, hf with
  | [], hf => cases hf
  | [_], hf => cases hf
  | y :: x :: st, hf =>
  simp only [o_bs, rx_f_eq] at hf
  obtain ⟨hc, hf⟩ := rx_bifn hf
  obtain ⟨hy, hx⟩ := Bool.and_eq_true_iff.mp hc
  refine ⟨pc + 1, f, lv, _, hk, hf, fun p l e R s m args below meth c hC hE H locs ls cells slots Q hW hF hL kk => ?_⟩
  have h2 := kk ls hL
  rw [List.map_cons, rx_v_el] at h2
  rw [List.map_cons, List.map_cons, rx_v_0 (rx_beq hy), rx_v_1 (rx_beq hx)]
  exact lv_lushr hC.1 hC.2.1 hdg rfl h2
theorem s_lcmp (hdg : decode M.2.1 pc = .ok (.lcmp, 1)) (hk : rx_OK V M d (pc + 1) f) : rx_OK V M d pc (o_bc (fun x y => lg_cmp x y) f) := by
  refine rx_pure fun lv st h r h' hf => ?_
  match st, hf with
  | [], hf => cases hf
  | [_], hf => cases hf
  | y :: x :: st, hf =>
  simp only [o_bc, rx_f_eq] at hf
  obtain ⟨hc, hf⟩ := rx_bifn hf
  obtain ⟨hy, hx⟩ := Bool.and_eq_true_iff.mp hc
  refine ⟨pc + 1, f, lv, _, hk, hf, fun p l e R s m args below meth c hC hE H locs ls cells slots Q hW hF hL kk => ?_⟩
  have h2 := kk ls hL
  rw [List.map_cons, rx_v_ei] at h2
  rw [List.map_cons, List.map_cons, rx_v_1 (rx_beq hy), rx_v_1 (rx_beq hx)]
  exact W.lcmp hC.1 hC.2.1 hdg h2
theorem s_ineg (hdg : decode M.2.1 pc = .ok (.ineg, 1)) (hk : rx_OK V M d (pc + 1) f) : rx_OK V M d pc (o_ui (fun x => -x) f) := by
  refine rx_pure fun lv st h r h' hf => ?_
  match st, hf with
  | [], hf => cases hf
  | x :: st, hf =>
  simp only [o_ui, rx_f_eq] at hf
  obtain ⟨hc, hf⟩ := rx_bifn hf
  refine ⟨pc + 1, f, lv, _, hk, hf, fun p l e R s m args below meth c hC hE H locs ls cells slots Q hW hF hL kk => ?_⟩
  have h2 := kk ls hL
  rw [List.map_cons, rx_v_ei] at h2
  rw [List.map_cons, rx_v_0 (rx_beq hc)]
  exact lv_ineg hC.1 hC.2.1 hdg h2
theorem s_i2b (hdg : decode M.2.1 pc = .ok (.i2b, 1)) (hk : rx_OK V M d (pc + 1) f) : rx_OK V M d pc (o_ui (fun x => x.toInt8.toInt32) f) := by
  refine rx_pure fun lv st h r h' hf => ?_
  match st, hf with
  | [], hf => cases hf
  | x :: st, hf =>
  simp only [o_ui, rx_f_eq] at hf
  obtain ⟨hc, hf⟩ := rx_bifn hf
  refine ⟨pc + 1, f, lv, _, hk, hf, fun p l e R s m args below meth c hC hE H locs ls cells slots Q hW hF hL kk => ?_⟩
  have h2 := kk ls hL
  rw [List.map_cons, rx_v_ei] at h2
  rw [List.map_cons, rx_v_0 (rx_beq hc)]
  exact lv_i2b hC.1 hC.2.1 hdg rfl h2
theorem s_i2c (hdg : decode M.2.1 pc = .ok (.i2c, 1)) (hk : rx_OK V M d (pc + 1) f) : rx_OK V M d pc (o_ui (fun x => (x.toUInt32 % 65536).toInt32) f) := by
  refine rx_pure fun lv st h r h' hf => ?_
  match st, hf with
  | [], hf => cases hf
  | x :: st, hf =>
  simp only [o_ui, rx_f_eq] at hf
  obtain ⟨hc, hf⟩ := rx_bifn hf
  refine ⟨pc + 1, f, lv, _, hk, hf, fun p l e R s m args below meth c hC hE H locs ls cells slots Q hW hF hL kk => ?_⟩
  have h2 := kk ls hL
  rw [List.map_cons, rx_v_ei] at h2
  rw [List.map_cons, rx_v_0 (rx_beq hc)]
  exact lv_i2c hC.1 hC.2.1 hdg rfl h2
theorem s_i2s (hdg : decode M.2.1 pc = .ok (.i2s, 1)) (hk : rx_OK V M d (pc + 1) f) : rx_OK V M d pc (o_ui (fun x => x.toInt16.toInt32) f) := by
  refine rx_pure fun lv st h r h' hf => ?_
  match st, hf with
  | [], hf => cases hf
  | x :: st, hf =>
  simp only [o_ui, rx_f_eq] at hf
  obtain ⟨hc, hf⟩ := rx_bifn hf
  refine ⟨pc + 1, f, lv, _, hk, hf, fun p l e R s m args below meth c hC hE H locs ls cells slots Q hW hF hL kk => ?_⟩
  have h2 := kk ls hL
  rw [List.map_cons, rx_v_ei] at h2
  rw [List.map_cons, rx_v_0 (rx_beq hc)]
  exact lv_i2s hC.1 hC.2.1 hdg rfl h2
theorem s_i2l (hdg : decode M.2.1 pc = .ok (.i2l, 1)) (hk : rx_OK V M d (pc + 1) f) : rx_OK V M d pc (o_il (fun x => x.toInt64) f) := by
  refine rx_pure fun lv st h r h' hf => ?_
  match st, hf with
  | [], hf => cases hf
  | x :: st, hf =>
  simp only [o_il, rx_f_eq] at hf
  obtain ⟨hc, hf⟩ := rx_bifn hf
  refine ⟨pc + 1, f, lv, _, hk, hf, fun p l e R s m args below meth c hC hE H locs ls cells slots Q hW hF hL kk => ?_⟩
  have h2 := kk ls hL
  rw [List.map_cons, rx_v_el] at h2
  rw [List.map_cons, rx_v_0 (rx_beq hc)]
  exact lv_i2l hC.1 hC.2.1 hdg rfl h2
theorem s_lneg (hdg : decode M.2.1 pc = .ok (.lneg, 1)) (hk : rx_OK V M d (pc + 1) f) : rx_OK V M d pc (o_ul (fun x => -x) f) := by
  refine rx_pure fun lv st h r h' hf => ?_
  match st, hf with
  | [], hf => cases hf
  | x :: st, hf =>
  simp only [o_ul, rx_f_eq] at hf
  obtain ⟨hc, hf⟩ := rx_bifn hf
  refine ⟨pc + 1, f, lv, _, hk, hf, fun p l e R s m args below meth c hC hE H locs ls cells slots Q hW hF hL kk => ?_⟩
  have h2 := kk ls hL
  rw [List.map_cons, rx_v_el] at h2
  rw [List.map_cons, rx_v_1 (rx_beq hc)]
  exact lv_lneg hC.1 hC.2.1 hdg h2
theorem s_l2i (hdg : decode M.2.1 pc = .ok (.l2i, 1)) (hk : rx_OK V M d (pc + 1) f) : rx_OK V M d pc (o_li (fun x => x.toInt32) f) := by
  refine rx_pure fun lv st h r h' hf => ?_
  match st, hf with
  | [], hf => cases hf
  | x :: st, hf =>
  simp only [o_li, rx_f_eq] at hf
  obtain ⟨hc, hf⟩ := rx_bifn hf
  refine ⟨pc + 1, f, lv, _, hk, hf, fun p l e R s m args below meth c hC hE H locs ls cells slots Q hW hF hL kk => ?_⟩
  have h2 := kk ls hL
  rw [List.map_cons, rx_v_ei] at h2
  rw [List.map_cons, rx_v_1 (rx_beq hc)]
  exact lv_l2i hC.1 hC.2.1 hdg rfl h2
-- >>> of a whole number from outside by a constant; then (byte), or & 255
noncomputable def o_iushrX (k : rx_K) : rx_K := fun lv st h => match st with
  | y :: x :: r => bif Nat.beq (x % 8) 4 && Nat.blt (x / 8) 5 then (bif Nat.beq (y % 8) 0 && Nat.blt (y / 8) 32 then rx_f (8 * (x / 8 + 5 * (y / 8)) + 5) fun v => k lv (v :: r) h else none) else o_bi (fun x y => (x.toUInt32 >>> (y.toUInt32 &&& Int32.toUInt32 31)).toInt32) k lv st h
  | _ => none
noncomputable def o_i2bX (k : rx_K) : rx_K := fun lv st h => match st with
  | x :: r => bif Nat.beq (x % 8) 5 && Nat.blt (x / 8) 160 then rx_f (x + 8 * 160) fun v => k lv (v :: r) h else o_ui (fun x => x.toInt8.toInt32) k lv st h
  | _ => none
noncomputable def o_iandX (k : rx_K) : rx_K := fun lv st h => match st with
  | y :: x :: r => bif Nat.beq y 2040 && (Nat.beq (x % 8) 5 && Nat.blt (x / 8) 160) then rx_f (x + 16 * 160) fun v => k lv (v :: r) h else o_bi (fun x y => x &&& y) k lv st h
  | _ => none
theorem s_iushrX (hV : rx_Ok V) (hdg : decode M.2.1 pc = .ok (.iushr, 1)) (hk : rx_OK V M d (pc + 1) f) : rx_OK V M d pc (o_iushrX f) := by
  refine rx_pure fun lv st h r h' hf => ?_
  match st, hf with
  | [], hf => cases hf
  | [_], hf => cases hf
  | y :: x :: st, hf =>
  simp only [o_iushrX, o_bi, rx_f_eq] at hf
  rcases rx_bif hf with ⟨hc, hf⟩ | ⟨-, hf⟩
  · obtain ⟨hx, hx5⟩ := Bool.and_eq_true_iff.mp hc
    obtain ⟨hd, hf⟩ := rx_bifn hf
    obtain ⟨hy, hy5⟩ := Bool.and_eq_true_iff.mp hd
    have h5 : x / 8 < 5 := Nat.le_of_ble_eq_true hx5
    have h32 : y / 8 < 32 := Nat.le_of_ble_eq_true hy5
    refine ⟨pc + 1, f, lv, _, hk, hf, fun p l e R s m args below meth c hC hE H locs ls cells slots Q hW hF hL kk => ?_⟩
    have h2 := kk ls hL
    obtain ⟨X, eX⟩ := hV.1 _ h5
    rw [List.map_cons, rx_v_5 (by omega), show (8 * (x / 8 + 5 * (y / 8)) + 5) / 8 = x / 8 + 5 * (y / 8) by omega] at h2
    have e1 : (x / 8 + 5 * (y / 8)) % 5 = x / 8 := by omega
    have e2 : (x / 8 + 5 * (y / 8)) / 5 % 32 = y / 8 := by omega
    have e3 : (x / 8 + 5 * (y / 8)) / 160 = 0 := by omega
    unfold rx_x at h2
    rw [e1, e2, if_pos e3, eX] at h2
    rw [List.map_cons, List.map_cons, rx_v_0 (rx_beq hy), rx_v_4 (rx_beq hx), eX]
    exact lv_iushr hC.1 hC.2.1 hdg rfl h2
  · obtain ⟨hc, hf⟩ := rx_bifn hf
    obtain ⟨hy, hx⟩ := Bool.and_eq_true_iff.mp hc
    refine ⟨pc + 1, f, lv, _, hk, hf, fun p l e R s m args below meth c hC hE H locs ls cells slots Q hW hF hL kk => ?_⟩
    have h2 := kk ls hL
    rw [List.map_cons, rx_v_ei] at h2
    rw [List.map_cons, List.map_cons, rx_v_0 (rx_beq hy), rx_v_0 (rx_beq hx)]
    exact lv_iushr hC.1 hC.2.1 hdg rfl h2
theorem s_i2bX (hdg : decode M.2.1 pc = .ok (.i2b, 1)) (hk : rx_OK V M d (pc + 1) f) : rx_OK V M d pc (o_i2bX f) := by
  refine rx_pure fun lv st h r h' hf => ?_
  match st, hf with
  | [], hf => cases hf
  | x :: st, hf =>
  simp only [o_i2bX, o_ui, rx_f_eq] at hf
  rcases rx_bif hf with ⟨hc, hf⟩ | ⟨-, hf⟩
  · obtain ⟨hx, hx5⟩ := Bool.and_eq_true_iff.mp hc
    have h5 : x / 8 < 160 := Nat.le_of_ble_eq_true hx5
    have e5 := rx_beq hx
    refine ⟨pc + 1, f, lv, _, hk, hf, fun p l e R s m args below meth c hC hE H locs ls cells slots Q hW hF hL kk => ?_⟩
    have h2 := kk ls hL
    rw [List.map_cons, rx_v_5 (by omega), show (x + 8 * 160) / 8 = x / 8 + 160 by omega] at h2
    unfold rx_x at h2
    rw [show (x / 8 + 160) % 5 = x / 8 % 5 by omega, show (x / 8 + 160) / 5 % 32 = x / 8 / 5 % 32 by omega, if_neg (by omega), if_pos (by omega)] at h2
    rw [List.map_cons, rx_v_5 e5]
    unfold rx_x
    rw [if_pos (by omega)]
    exact lv_i2b hC.1 hC.2.1 hdg rfl h2
  · obtain ⟨hc, hf⟩ := rx_bifn hf
    refine ⟨pc + 1, f, lv, _, hk, hf, fun p l e R s m args below meth c hC hE H locs ls cells slots Q hW hF hL kk => ?_⟩
    have h2 := kk ls hL
    rw [List.map_cons, rx_v_ei] at h2
    rw [List.map_cons, rx_v_0 (rx_beq hc)]
    exact lv_i2b hC.1 hC.2.1 hdg rfl h2
theorem s_iandX (hdg : decode M.2.1 pc = .ok (.iand, 1)) (hk : rx_OK V M d (pc + 1) f) : rx_OK V M d pc (o_iandX f) := by
  refine rx_pure fun lv st h r h' hf => ?_
  match st, hf with
  | [], hf => cases hf
  | [_], hf => cases hf
  | y :: x :: st, hf =>
  simp only [o_iandX, o_bi, rx_f_eq] at hf
  rcases rx_bif hf with ⟨hc, hf⟩ | ⟨-, hf⟩
  · obtain ⟨hy, hx⟩ := Bool.and_eq_true_iff.mp hc
    obtain ⟨hx, hx5⟩ := Bool.and_eq_true_iff.mp hx
    have h5 : x / 8 < 160 := Nat.le_of_ble_eq_true hx5
    have e5 := rx_beq hx
    have ey := rx_beq hy
    refine ⟨pc + 1, f, lv, _, hk, hf, fun p l e R s m args below meth c hC hE H locs ls cells slots Q hW hF hL kk => ?_⟩
    have h2 := kk ls hL
    rw [List.map_cons, rx_v_5 (by omega), show (x + 16 * 160) / 8 = x / 8 + 320 by omega] at h2
    unfold rx_x at h2
    rw [show (x / 8 + 320) % 5 = x / 8 % 5 by omega, show (x / 8 + 320) / 5 % 32 = x / 8 / 5 % 32 by omega, if_neg (by omega), if_neg (by omega)] at h2
    rw [List.map_cons, List.map_cons, ey, rx_v_5 e5, rx_v_0 (c := 2040) rfl]
    unfold rx_x
    rw [if_pos (by omega)]
    exact lv_iand hC.1 hC.2.1 hdg h2
  · obtain ⟨hc, hf⟩ := rx_bifn hf
    obtain ⟨hy, hx⟩ := Bool.and_eq_true_iff.mp hc
    refine ⟨pc + 1, f, lv, _, hk, hf, fun p l e R s m args below meth c hC hE H locs ls cells slots Q hW hF hL kk => ?_⟩
    have h2 := kk ls hL
    rw [List.map_cons, rx_v_ei] at h2
    rw [List.map_cons, List.map_cons, rx_v_0 (rx_beq hy), rx_v_0 (rx_beq hx)]
    exact lv_iand hC.1 hC.2.1 hdg h2
end RX13
end
section
section RX14
variable {V : rx_V} {M : rx_M} {d pc : Nat} {f t : rx_K}
noncomputable def o_dup (k : rx_K) : rx_K := fun lv st h => match st with
  | v :: r => bif Nat.beq (rx_ct v) 1 then k lv (v :: v :: r) h else none
  | _ => none
noncomputable def o_pop (k : rx_K) : rx_K := fun lv st h => match st with
  | v :: r => bif Nat.beq (rx_ct v) 1 then k lv r h else none
  | _ => none
noncomputable def o_pop2 (k : rx_K) : rx_K := fun lv st h => match st with
  | v :: r => bif Nat.beq (rx_ct v) 2 then k lv r h else none
  | _ => none
noncomputable def o_dupx1 (k : rx_K) : rx_K := fun lv st h => match st with
  | v :: u :: r => bif Nat.beq (rx_ct v) 1 && Nat.beq (rx_ct u) 1 then k lv (v :: u :: v :: r) h else none
  | _ => none
noncomputable def o_dupx2 (k : rx_K) : rx_K := fun lv st h => match st with
  | v :: u :: q :: r => bif Nat.beq (rx_ct v) 1 && (Nat.beq (rx_ct u) 1 && Nat.beq (rx_ct q) 1) then k lv (v :: u :: q :: v :: r) h else none
  | _ => none
noncomputable def o_dup2 (k : rx_K) : rx_K := fun lv st h => match st with
  | v :: u :: r => bif Nat.beq (rx_ct v) 1 && Nat.beq (rx_ct u) 1 then k lv (v :: u :: v :: u :: r) h else none
  | _ => none
noncomputable def o_dup2L (k : rx_K) : rx_K := fun lv st h => match st with
  | v :: r => bif Nat.beq (rx_ct v) 2 then k lv (v :: v :: r) h else none
  | _ => none
noncomputable def o_dup2x1L (k : rx_K) : rx_K := fun lv st h => match st with
  | v :: u :: r => bif Nat.beq (rx_ct v) 2 && Nat.beq (rx_ct u) 1 then k lv (v :: u :: v :: r) h else none
  | _ => none
noncomputable def o_dup2x2L (k : rx_K) : rx_K := fun lv st h => match st with
  | v :: u :: q :: r => bif Nat.beq (rx_ct v) 2 && (Nat.beq (rx_ct u) 1 && Nat.beq (rx_ct q) 1) then k lv (v :: u :: q :: v :: r) h else none
  | _ => none
theorem s_dup (hV : rx_Ok V) (hdg : decode M.2.1 pc = .ok (.dup, 1)) (hk : rx_OK V M d (pc + 1) f) : rx_OK V M d pc (o_dup f) := by
  refine rx_pure fun lv st h r h' hf => ?_
  match st, hf with
  | [], hf => cases hf
  | v :: st, hf =>
  simp only [o_dup] at hf
  obtain ⟨hc, hf⟩ := rx_bifn hf
  have e1 : (rx_v V v).category = 1 := (rx_v_cat hV v).trans (rx_beq hc)
  refine ⟨pc + 1, f, lv, _, hk, hf, fun p l e R s m args below meth c hC hE H locs ls cells slots Q hW hF hL kk => ?_⟩
  exact lv_dup hC.1 hC.2.1 hdg e1 (kk ls hL)
theorem s_pop (hV : rx_Ok V) (hdg : decode M.2.1 pc = .ok (.pop, 1)) (hk : rx_OK V M d (pc + 1) f) : rx_OK V M d pc (o_pop f) := by
  refine rx_pure fun lv st h r h' hf => ?_
  match st, hf with
  | [], hf => cases hf
  | v :: st, hf =>
  simp only [o_pop] at hf
  obtain ⟨hc, hf⟩ := rx_bifn hf
  have e1 : (rx_v V v).category = 1 := (rx_v_cat hV v).trans (rx_beq hc)
  refine ⟨pc + 1, f, lv, _, hk, hf, fun p l e R s m args below meth c hC hE H locs ls cells slots Q hW hF hL kk => ?_⟩
  exact lv_pop hC.1 hC.2.1 hdg e1 (kk ls hL)
theorem s_pop2L (hV : rx_Ok V) (hdg : decode M.2.1 pc = .ok (.pop2, 1)) (hk : rx_OK V M d (pc + 1) f) : rx_OK V M d pc (o_pop2 f) := by
  refine rx_pure fun lv st h r h' hf => ?_
  match st, hf with
  | [], hf => cases hf
  | v :: st, hf =>
  simp only [o_pop2] at hf
  obtain ⟨hc, hf⟩ := rx_bifn hf
  have e1 : (rx_v V v).category = 2 := (rx_v_cat hV v).trans (rx_beq hc)
  refine ⟨pc + 1, f, lv, _, hk, hf, fun p l e R s m args below meth c hC hE H locs ls cells slots Q hW hF hL kk => ?_⟩
  exact lv_pop2_2 hC.1 hC.2.1 hdg e1 (kk ls hL)
theorem s_dup2L (hV : rx_Ok V) (hdg : decode M.2.1 pc = .ok (.dup2, 1)) (hk : rx_OK V M d (pc + 1) f) : rx_OK V M d pc (o_dup2L f) := by
  refine rx_pure fun lv st h r h' hf => ?_
  match st, hf with
  | [], hf => cases hf
  | v :: st, hf =>
  simp only [o_dup2L] at hf
  obtain ⟨hc, hf⟩ := rx_bifn hf
  have e1 : (rx_v V v).category = 2 := (rx_v_cat hV v).trans (rx_beq hc)
  refine ⟨pc + 1, f, lv, _, hk, hf, fun p l e R s m args below meth c hC hE H locs ls cells slots Q hW hF hL kk => ?_⟩
  exact lv_dup2_2 hC.1 hC.2.1 hdg e1 (kk ls hL)
theorem s_dup_x1 (hV : rx_Ok V) (hdg : decode M.2.1 pc = .ok (.dup_x1, 1)) (hk : rx_OK V M d (pc + 1) f) : rx_OK V M d pc (o_dupx1 f) := by
  refine rx_pure fun lv st h r h' hf => ?_
  match st, hf with
  | [], hf => cases hf
  | [_], hf => cases hf
  | v :: u :: st, hf =>
  simp only [o_dupx1] at hf
  obtain ⟨hc, hf⟩ := rx_bifn hf
  obtain ⟨hc1, hc2⟩ := Bool.and_eq_true_iff.mp hc
  have e1 : (rx_v V v).category = 1 := (rx_v_cat hV v).trans (rx_beq hc1)
  have e2 : (rx_v V u).category = 1 := (rx_v_cat hV u).trans (rx_beq hc2)
  refine ⟨pc + 1, f, lv, _, hk, hf, fun p l e R s m args below meth c hC hE H locs ls cells slots Q hW hF hL kk => ?_⟩
  exact lv_dup_x1 hC.1 hC.2.1 hdg e1 e2 (kk ls hL)
theorem s_dup2 (hV : rx_Ok V) (hdg : decode M.2.1 pc = .ok (.dup2, 1)) (hk : rx_OK V M d (pc + 1) f) : rx_OK V M d pc (o_dup2 f) := by
  refine rx_pure fun lv st h r h' hf => ?_
  match st, hf with
  | [], hf => cases hf
  | [_], hf => cases hf
  | v :: u :: st, hf =>
  simp only [o_dup2] at hf
  obtain ⟨hc, hf⟩ := rx_bifn hf
  obtain ⟨hc1, hc2⟩ := Bool.and_eq_true_iff.mp hc
  have e1 : (rx_v V v).category = 1 := (rx_v_cat hV v).trans (rx_beq hc1)
  have e2 : (rx_v V u).category = 1 := (rx_v_cat hV u).trans (rx_beq hc2)
  refine ⟨pc + 1, f, lv, _, hk, hf, fun p l e R s m args below meth c hC hE H locs ls cells slots Q hW hF hL kk => ?_⟩
  exact lv_dup2_11 hC.1 hC.2.1 hdg e1 e2 (kk ls hL)
theorem s_dup2_x1L (hV : rx_Ok V) (hdg : decode M.2.1 pc = .ok (.dup2_x1, 1)) (hk : rx_OK V M d (pc + 1) f) : rx_OK V M d pc (o_dup2x1L f) := by
  refine rx_pure fun lv st h r h' hf => ?_
  match st, hf with
  | [], hf => cases hf
  | [_], hf => cases hf
  | v :: u :: st, hf =>
  simp only [o_dup2x1L] at hf
  obtain ⟨hc, hf⟩ := rx_bifn hf
  obtain ⟨hc1, hc2⟩ := Bool.and_eq_true_iff.mp hc
  have e1 : (rx_v V v).category = 2 := (rx_v_cat hV v).trans (rx_beq hc1)
  have e2 : (rx_v V u).category = 1 := (rx_v_cat hV u).trans (rx_beq hc2)
  refine ⟨pc + 1, f, lv, _, hk, hf, fun p l e R s m args below meth c hC hE H locs ls cells slots Q hW hF hL kk => ?_⟩
  exact lv_dup2_x1_2 hC.1 hC.2.1 hdg e1 e2 (kk ls hL)
theorem s_dup_x2 (hV : rx_Ok V) (hdg : decode M.2.1 pc = .ok (.dup_x2, 1)) (hk : rx_OK V M d (pc + 1) f) : rx_OK V M d pc (o_dupx2 f) := by
  refine rx_pure fun lv st h r h' hf => ?_
  match st, hf with
  | [], hf => cases hf
  | [_], hf => cases hf
  | [_, _], hf => cases hf
  | v :: u :: q :: st, hf =>
  simp only [o_dupx2] at hf
  obtain ⟨hc, hf⟩ := rx_bifn hf
  obtain ⟨hc1, hc2⟩ := Bool.and_eq_true_iff.mp hc
  obtain ⟨hc2, hc3⟩ := Bool.and_eq_true_iff.mp hc2
  have e1 : (rx_v V v).category = 1 := (rx_v_cat hV v).trans (rx_beq hc1)
  have e2 : (rx_v V u).category = 1 := (rx_v_cat hV u).trans (rx_beq hc2)
  have e3 : (rx_v V q).category = 1 := (rx_v_cat hV q).trans (rx_beq hc3)
  refine ⟨pc + 1, f, lv, _, hk, hf, fun p l e R s m args below meth c hC hE H locs ls cells slots Q hW hF hL kk => ?_⟩
  exact lv_dup_x2 hC.1 hC.2.1 hdg e1 e2 e3 (kk ls hL)
theorem s_dup2_x2L (hV : rx_Ok V) (hdg : decode M.2.1 pc = .ok (.dup2_x2, 1)) (hk : rx_OK V M d (pc + 1) f) : rx_OK V M d pc (o_dup2x2L f) := by
  refine rx_pure fun lv st h r h' hf => ?_
  match st, hf with
  | [], hf => cases hf
  | [_], hf => cases hf
  | [_, _], hf => cases hf
  | v :: u :: q :: st, hf =>
  simp only [o_dup2x2L] at hf
  obtain ⟨hc, hf⟩ := rx_bifn hf
  obtain ⟨hc1, hc2⟩ := Bool.and_eq_true_iff.mp hc
  obtain ⟨hc2, hc3⟩ := Bool.and_eq_true_iff.mp hc2
  have e1 : (rx_v V v).category = 2 := (rx_v_cat hV v).trans (rx_beq hc1)
  have e2 : (rx_v V u).category = 1 := (rx_v_cat hV u).trans (rx_beq hc2)
  have e3 : (rx_v V q).category = 1 := (rx_v_cat hV q).trans (rx_beq hc3)
  refine ⟨pc + 1, f, lv, _, hk, hf, fun p l e R s m args below meth c hC hE H locs ls cells slots Q hW hF hL kk => ?_⟩
  exact lv_dup2_x2_2 hC.1 hC.2.1 hdg e1 e2 e3 (kk ls hL)
noncomputable def rx_b (h : rx_H) (c : Nat) : Option (Int × Int) := bif Nat.beq (c % 8) 0 then some ((rx_di c).toInt, (rx_di c).toInt) else bif Nat.beq (c % 8) 4 then rx_get none (h.2.2.1.map some) (c / 8) else none
theorem rx_b_ok {V : rx_V} {h : rx_H} {H : Heap} (hW : rx_w V h H) {c : Nat} {lo hi : Int} (hb : rx_b h c = some (lo, hi)) : ∃ x : Int32, rx_v V c = .int x ∧ lo ≤ x.toInt ∧ x.toInt ≤ hi := by
  unfold rx_b at hb
  rcases rx_bif hb with ⟨h1, h2⟩ | ⟨-, h2⟩
  · have e := Option.some.inj h2
    have e1 := congrArg Prod.fst e
    have e2 := congrArg Prod.snd e
    dsimp only at e1 e2
    exact ⟨_, rx_v_0 (rx_beq h1), by omega, by omega⟩
  · obtain ⟨h3, h4⟩ := rx_bifn h2
    rw [rx_get_eq] at h4
    have h5 : h.2.2.1[c / 8]? = some (lo, hi) := by
      cases q : h.2.2.1[c / 8]? with
      | none => simp [List.getD, q] at h4
      | some z => simp [List.getD, q] at h4; rw [h4]
    obtain ⟨-, v, e, l1, l2⟩ := hW.2.2 _ _ _ h5
    exact ⟨v, by rw [rx_v_4 (rx_beq h3), e], l1, l2⟩
noncomputable def rx_lt (h : rx_H) (x y : Nat) : Option Bool := bif Nat.beq (x % 8) 0 && Nat.beq (y % 8) 0 then some (decide (rx_di x < rx_di y)) else
  match rx_b h x, rx_b h y with
  | some (a, b), some (u, v) => bif decide (b < u) then some true else bif decide (v ≤ a) then some false else none
  | _, _ => none
noncomputable def rx_eq (h : rx_H) (x y : Nat) : Option Bool := bif Nat.beq (x % 8) 0 && Nat.beq (y % 8) 0 then some (decide (rx_di x = rx_di y)) else
  match rx_b h x, rx_b h y with
  | some (a, b), some (u, v) => bif decide (b < u) || decide (v < a) then some false else bif decide (a = b) && (decide (u = v) && decide (a = u)) then some true else none
  | _, _ => none
theorem rx_lt_ok {V : rx_V} {h : rx_H} {H : Heap} (hW : rx_w V h H) {x y : Nat} {b : Bool} (hb : rx_lt h x y = some b) : ∃ X Y : Int32, rx_v V x = .int X ∧ rx_v V y = .int Y ∧ (b = true ↔ X < Y) := by
  unfold rx_lt at hb
  rcases rx_bif hb with ⟨h1, h2⟩ | ⟨-, h2⟩
  · obtain ⟨hx, hy⟩ := Bool.and_eq_true_iff.mp h1
    refine ⟨_, _, rx_v_0 (rx_beq hx), rx_v_0 (rx_beq hy), ?_⟩
    rw [← Option.some.inj h2]
    exact decide_eq_true_iff
  · cases q1 : rx_b h x with
    | none => rw [q1] at h2; cases h2
    | some z1 => cases q2 : rx_b h y with
      | none => rw [q1, q2] at h2; cases h2
      | some z2 =>
        rw [q1, q2] at h2
        obtain ⟨X, ex, l1, l2⟩ := rx_b_ok hW (lo := z1.1) (hi := z1.2) q1
        obtain ⟨Y, ey, l3, l4⟩ := rx_b_ok hW (lo := z2.1) (hi := z2.2) q2
        refine ⟨X, Y, ex, ey, ?_⟩
        rw [Int32.lt_iff_toInt_lt]
        rcases rx_bif h2 with ⟨g1, g2⟩ | ⟨g1, g2⟩
        · have := of_decide_eq_true g1
          have e := Option.some.inj g2
          subst e
          simp only [true_iff]
          omega
        · obtain ⟨g3, g4⟩ := rx_bifn g2
          have := of_decide_eq_true g3
          have e := Option.some.inj g4
          subst e
          simp only [Bool.false_eq_true, false_iff]
          omega
theorem rx_eq_ok {V : rx_V} {h : rx_H} {H : Heap} (hW : rx_w V h H) {x y : Nat} {b : Bool} (hb : rx_eq h x y = some b) : ∃ X Y : Int32, rx_v V x = .int X ∧ rx_v V y = .int Y ∧ (b = true ↔ X = Y) := by
  unfold rx_eq at hb
  rcases rx_bif hb with ⟨h1, h2⟩ | ⟨-, h2⟩
  · obtain ⟨hx, hy⟩ := Bool.and_eq_true_iff.mp h1
    refine ⟨_, _, rx_v_0 (rx_beq hx), rx_v_0 (rx_beq hy), ?_⟩
    rw [← Option.some.inj h2]
    exact decide_eq_true_iff
  · cases q1 : rx_b h x with
    | none => rw [q1] at h2; cases h2
    | some z1 => cases q2 : rx_b h y with
      | none => rw [q1, q2] at h2; cases h2
      | some z2 =>
        rw [q1, q2] at h2
        obtain ⟨X, ex, l1, l2⟩ := rx_b_ok hW (lo := z1.1) (hi := z1.2) q1
        obtain ⟨Y, ey, l3, l4⟩ := rx_b_ok hW (lo := z2.1) (hi := z2.2) q2
        refine ⟨X, Y, ex, ey, ?_⟩
        rw [← Int32.toInt_inj]
        rcases rx_bif h2 with ⟨g1, g2⟩ | ⟨g1, g2⟩
        · have e := Option.some.inj g2
          subst e
          simp only [Bool.false_eq_true, false_iff]
          rcases Bool.or_eq_true_iff.mp g1 with g | g
          · have := of_decide_eq_true g
            omega
          · have := of_decide_eq_true g
            omega
        · obtain ⟨g3, g4⟩ := rx_bifn g2
          have e := Option.some.inj g4
          subst e
          obtain ⟨a1, a2⟩ := Bool.and_eq_true_iff.mp g3
          obtain ⟨a2, a3⟩ := Bool.and_eq_true_iff.mp a2
          have b1 := of_decide_eq_true a1
          have b2 := of_decide_eq_true a2
          have b3 := of_decide_eq_true a3
          simp only [true_iff]
          omega
-- two ways: t is gone where q says true, f where it says false
noncomputable def o_c2 (q : rx_H → Nat → Nat → Option Bool) (t f : rx_K) : rx_K := fun lv st h => match st with
  | y :: x :: r => match q h x y with
    | some b => bif b then t lv r h else f lv r h
    | none => none
  | _ => none
noncomputable def o_c1 (q : rx_H → Nat → Nat → Option Bool) (t f : rx_K) : rx_K := fun lv st h => match st with
  | x :: r => match q h x 0 with
    | some b => bif b then t lv r h else f lv r h
    | none => none
  | _ => none
theorem s_icmp_lt {off : Int} {tgt : Nat} (hdg : decode M.2.1 pc = .ok (.if_icmp .lt off, 3)) (ht : (pc : Int) + off = (tgt : Int)) (h1 : rx_OK V M d tgt t) (h2 : rx_OK V M d (pc + 3) f) : rx_OK V M d pc (o_c2 (rx_lt) t f) := by
  refine rx_pure fun lv st h r h' hf => ?_
  match st, hf with
  | [], hf => cases hf
  | [_], hf => cases hf
  | y :: x :: st, hf =>
  simp only [o_c2] at hf
  cases q : rx_lt h x y with
  | none => simp only [q] at hf; cases hf
  | some b =>
  simp only [q] at hf
  cases b with
  | true =>
    refine ⟨tgt, t, lv, st, h1, hf, fun p l e R s m args below meth c hC hE H locs ls cells slots Q hW hF hL kk => ?_⟩
    obtain ⟨X, Y, ex, ey, hb⟩ := rx_lt_ok hW q
    have hxy := hb.mp rfl
    have h3 := kk ls hL
    rw [List.map_cons, List.map_cons, ex, ey]
    exact lv_icmp_lt hC.1 hC.2.1 hdg ht (fun _ => h3) (fun z => absurd z (by first | exact hxy | exact Int32.not_le.mpr hxy | exact Int32.not_lt.mpr hxy | exact fun q => hxy q | (rw [Int32.not_le]; exact hxy) | (rw [Int32.not_lt]; exact hxy) | (intro q; exact hxy q) | (intro q; exact q hxy) | (rw [Int32.not_lt] at hxy; intro q; exact q hxy) | (rw [Int32.not_le]; first | exact hxy | exact Int32.not_le.mp hxy)))
  | false =>
    refine ⟨pc + 3, f, lv, st, h2, hf, fun p l e R s m args below meth c hC hE H locs ls cells slots Q hW hF hL kk => ?_⟩
    obtain ⟨X, Y, ex, ey, hb⟩ := rx_lt_ok hW q
    have hxy := (fun z => absurd (hb.mpr z) (by decide) : ¬ _)
    have h3 := kk ls hL
    rw [List.map_cons, List.map_cons, ex, ey]
    exact lv_icmp_lt hC.1 hC.2.1 hdg ht (fun z => absurd z (by first | exact hxy | exact Int32.not_le.mpr hxy | exact Int32.not_lt.mpr hxy | exact fun q => hxy q | (rw [Int32.not_le]; exact hxy) | (rw [Int32.not_lt]; exact hxy) | (intro q; exact hxy q) | (intro q; exact q hxy) | (rw [Int32.not_lt] at hxy; intro q; exact q hxy) | (rw [Int32.not_le]; first | exact hxy | exact Int32.not_le.mp hxy))) (fun _ => h3)
theorem s_if_lt {off : Int} {tgt : Nat} (hdg : decode M.2.1 pc = .ok (.ifCond .lt off, 3)) (ht : (pc : Int) + off = (tgt : Int)) (h1 : rx_OK V M d tgt t) (h2 : rx_OK V M d (pc + 3) f) : rx_OK V M d pc (o_c1 (rx_lt) t f) := by
  refine rx_pure fun lv st h r h' hf => ?_
  match st, hf with
  | [], hf => cases hf
  | x :: st, hf =>
  simp only [o_c1] at hf
  cases q : rx_lt h x 0 with
  | none => simp only [q] at hf; cases hf
  | some b =>
  simp only [q] at hf
  cases b with
  | true =>
    refine ⟨tgt, t, lv, st, h1, hf, fun p l e R s m args below meth c hC hE H locs ls cells slots Q hW hF hL kk => ?_⟩
    obtain ⟨X, Y, ex, ey, hb⟩ := rx_lt_ok hW q
    have hxy := hb.mp rfl
    have h3 := kk ls hL
    rw [List.map_cons, ex]
    rw [rx_v_0 (V := V) (c := 0) rfl] at ey
    have e0 := Value.int.inj ey
    rw [show rx_di 0 = 0 from rfl] at e0
    subst e0
    exact lv_if_lt hC.1 hC.2.1 hdg ht (fun _ => h3) (fun z => absurd z (by first | exact hxy | exact Int32.not_le.mpr hxy | exact Int32.not_lt.mpr hxy | exact fun q => hxy q | (rw [Int32.not_le]; exact hxy) | (rw [Int32.not_lt]; exact hxy) | (intro q; exact hxy q) | (intro q; exact q hxy) | (rw [Int32.not_lt] at hxy; intro q; exact q hxy) | (rw [Int32.not_le]; first | exact hxy | exact Int32.not_le.mp hxy)))
  | false =>
    refine ⟨pc + 3, f, lv, st, h2, hf, fun p l e R s m args below meth c hC hE H locs ls cells slots Q hW hF hL kk => ?_⟩
    obtain ⟨X, Y, ex, ey, hb⟩ := rx_lt_ok hW q
    have hxy := (fun z => absurd (hb.mpr z) (by decide) : ¬ _)
    have h3 := kk ls hL
    rw [List.map_cons, ex]
    rw [rx_v_0 (V := V) (c := 0) rfl] at ey
    have e0 := Value.int.inj ey
    rw [show rx_di 0 = 0 from rfl] at e0
    subst e0
    exact lv_if_lt hC.1 hC.2.1 hdg ht (fun z => absurd z (by first | exact hxy | exact Int32.not_le.mpr hxy | exact Int32.not_lt.mpr hxy | exact fun q => hxy q | (rw [Int32.not_le]; exact hxy) | (rw [Int32.not_lt]; exact hxy) | (intro q; exact hxy q) | (intro q; exact q hxy) | (rw [Int32.not_lt] at hxy; intro q; exact q hxy) | (rw [Int32.not_le]; first | exact hxy | exact Int32.not_le.mp hxy))) (fun _ => h3)
theorem s_icmp_ge {off : Int} {tgt : Nat} (hdg : decode M.2.1 pc = .ok (.if_icmp .ge off, 3)) (ht : (pc : Int) + off = (tgt : Int)) (h1 : rx_OK V M d tgt t) (h2 : rx_OK V M d (pc + 3) f) : rx_OK V M d pc (o_c2 (rx_lt) f t) := by
  refine rx_pure fun lv st h r h' hf => ?_
  match st, hf with
  | [], hf => cases hf
  | [_], hf => cases hf
  | y :: x :: st, hf =>
  simp only [o_c2] at hf
  cases q : rx_lt h x y with
  | none => simp only [q] at hf; cases hf
  | some b =>
  simp only [q] at hf
  cases b with
  | true =>
    refine ⟨pc + 3, f, lv, st, h2, hf, fun p l e R s m args below meth c hC hE H locs ls cells slots Q hW hF hL kk => ?_⟩
    obtain ⟨X, Y, ex, ey, hb⟩ := rx_lt_ok hW q
    have hxy := hb.mp rfl
    have h3 := kk ls hL
    rw [List.map_cons, List.map_cons, ex, ey]
    exact lv_icmp_ge hC.1 hC.2.1 hdg ht (fun z => absurd z (by first | exact hxy | exact Int32.not_le.mpr hxy | exact Int32.not_lt.mpr hxy | exact fun q => hxy q | (rw [Int32.not_le]; exact hxy) | (rw [Int32.not_lt]; exact hxy) | (intro q; exact hxy q) | (intro q; exact q hxy) | (rw [Int32.not_lt] at hxy; intro q; exact q hxy) | (rw [Int32.not_le]; first | exact hxy | exact Int32.not_le.mp hxy))) (fun _ => h3)
  | false =>
    refine ⟨tgt, t, lv, st, h1, hf, fun p l e R s m args below meth c hC hE H locs ls cells slots Q hW hF hL kk => ?_⟩
    obtain ⟨X, Y, ex, ey, hb⟩ := rx_lt_ok hW q
    have hxy := (fun z => absurd (hb.mpr z) (by decide) : ¬ _)
    have h3 := kk ls hL
    rw [List.map_cons, List.map_cons, ex, ey]
    exact lv_icmp_ge hC.1 hC.2.1 hdg ht (fun _ => h3) (fun z => absurd z (by first | exact hxy | exact Int32.not_le.mpr hxy | exact Int32.not_lt.mpr hxy | exact fun q => hxy q | (rw [Int32.not_le]; exact hxy) | (rw [Int32.not_lt]; exact hxy) | (intro q; exact hxy q) | (intro q; exact q hxy) | (rw [Int32.not_lt] at hxy; intro q; exact q hxy) | (rw [Int32.not_le]; first | exact hxy | exact Int32.not_le.mp hxy)))
theorem s_if_ge {off : Int} {tgt : Nat} (hdg : decode M.2.1 pc = .ok (.ifCond .ge off, 3)) (ht : (pc : Int) + off = (tgt : Int)) (h1 : rx_OK V M d tgt t) (h2 : rx_OK V M d (pc + 3) f) : rx_OK V M d pc (o_c1 (rx_lt) f t) := by
  refine rx_pure fun lv st h r h' hf => ?_
  match st, hf with
  | [], hf => cases hf
  | x :: st, hf =>
  simp only [o_c1] at hf
  cases q : rx_lt h x 0 with
  | none => simp only [q] at hf; cases hf
  | some b =>
  simp only [q] at hf
  cases b with
  | true =>
    refine ⟨pc + 3, f, lv, st, h2, hf, fun p l e R s m args below meth c hC hE H locs ls cells slots Q hW hF hL kk => ?_⟩
    obtain ⟨X, Y, ex, ey, hb⟩ := rx_lt_ok hW q
    have hxy := hb.mp rfl
    have h3 := kk ls hL
    rw [List.map_cons, ex]
    rw [rx_v_0 (V := V) (c := 0) rfl] at ey
    have e0 := Value.int.inj ey
    rw [show rx_di 0 = 0 from rfl] at e0
    subst e0
    exact lv_if_ge hC.1 hC.2.1 hdg ht (fun z => absurd z (by first | exact hxy | exact Int32.not_le.mpr hxy | exact Int32.not_lt.mpr hxy | exact fun q => hxy q | (rw [Int32.not_le]; exact hxy) | (rw [Int32.not_lt]; exact hxy) | (intro q; exact hxy q) | (intro q; exact q hxy) | (rw [Int32.not_lt] at hxy; intro q; exact q hxy) | (rw [Int32.not_le]; first | exact hxy | exact Int32.not_le.mp hxy))) (fun _ => h3)
  | false =>
    refine ⟨tgt, t, lv, st, h1, hf, fun p l e R s m args below meth c hC hE H locs ls cells slots Q hW hF hL kk => ?_⟩
    obtain ⟨X, Y, ex, ey, hb⟩ := rx_lt_ok hW q
    have hxy := (fun z => absurd (hb.mpr z) (by decide) : ¬ _)
    have h3 := kk ls hL
    rw [List.map_cons, ex]
    rw [rx_v_0 (V := V) (c := 0) rfl] at ey
    have e0 := Value.int.inj ey
    rw [show rx_di 0 = 0 from rfl] at e0
    subst e0
    exact lv_if_ge hC.1 hC.2.1 hdg ht (fun _ => h3) (fun z => absurd z (by first | exact hxy | exact Int32.not_le.mpr hxy | exact Int32.not_lt.mpr hxy | exact fun q => hxy q | (rw [Int32.not_le]; exact hxy) | (rw [Int32.not_lt]; exact hxy) | (intro q; exact hxy q) | (intro q; exact q hxy) | (rw [Int32.not_lt] at hxy; intro q; exact q hxy) | (rw [Int32.not_le]; first | exact hxy | exact Int32.not_le.mp hxy)))
theorem s_icmp_gt {off : Int} {tgt : Nat} (hdg : decode M.2.1 pc = .ok (.if_icmp .gt off, 3)) (ht : (pc : Int) + off = (tgt : Int)) (h1 : rx_OK V M d tgt t) (h2 : rx_OK V M d (pc + 3) f) : rx_OK V M d pc (o_c2 (fun h x y => rx_lt h y x) t f) := by
  refine rx_pure fun lv st h r h' hf => ?_
  match st, hf with
  | [], hf => cases hf
  | [_], hf => cases hf
  | y :: x :: st, hf =>
  simp only [o_c2] at hf
  cases q : rx_lt h y x with
  | none => simp only [q] at hf; cases hf
  | some b =>
  simp only [q] at hf
  cases b with
  | true =>
    refine ⟨tgt, t, lv, st, h1, hf, fun p l e R s m args below meth c hC hE H locs ls cells slots Q hW hF hL kk => ?_⟩
    obtain ⟨X, Y, ex, ey, hb⟩ := rx_lt_ok hW q
    have hxy := hb.mp rfl
    have h3 := kk ls hL
    rw [List.map_cons, List.map_cons, ex, ey]
    exact lv_icmp_gt hC.1 hC.2.1 hdg ht (fun _ => h3) (fun z => absurd z (by first | exact hxy | exact Int32.not_le.mpr hxy | exact Int32.not_lt.mpr hxy | exact fun q => hxy q | (rw [Int32.not_le]; exact hxy) | (rw [Int32.not_lt]; exact hxy) | (intro q; exact hxy q) | (intro q; exact q hxy) | (rw [Int32.not_lt] at hxy; intro q; exact q hxy) | (rw [Int32.not_le]; first | exact hxy | exact Int32.not_le.mp hxy)))
  | false =>
    refine ⟨pc + 3, f, lv, st, h2, hf, fun p l e R s m args below meth c hC hE H locs ls cells slots Q hW hF hL kk => ?_⟩
    obtain ⟨X, Y, ex, ey, hb⟩ := rx_lt_ok hW q
    have hxy := (fun z => absurd (hb.mpr z) (by decide) : ¬ _)
    have h3 := kk ls hL
    rw [List.map_cons, List.map_cons, ex, ey]
    exact lv_icmp_gt hC.1 hC.2.1 hdg ht (fun z => absurd z (by first | exact hxy | exact Int32.not_le.mpr hxy | exact Int32.not_lt.mpr hxy | exact fun q => hxy q | (rw [Int32.not_le]; exact hxy) | (rw [Int32.not_lt]; exact hxy) | (intro q; exact hxy q) | (intro q; exact q hxy) | (rw [Int32.not_lt] at hxy; intro q; exact q hxy) | (rw [Int32.not_le]; first | exact hxy | exact Int32.not_le.mp hxy))) (fun _ => h3)
theorem s_if_gt {off : Int} {tgt : Nat} (hdg : decode M.2.1 pc = .ok (.ifCond .gt off, 3)) (ht : (pc : Int) + off = (tgt : Int)) (h1 : rx_OK V M d tgt t) (h2 : rx_OK V M d (pc + 3) f) : rx_OK V M d pc (o_c1 (fun h x y => rx_lt h y x) t f) := by
  refine rx_pure fun lv st h r h' hf => ?_
  match st, hf with
  | [], hf => cases hf
  | x :: st, hf =>
  simp only [o_c1] at hf
  cases q : rx_lt h 0 x with
  | none => simp only [q] at hf; cases hf
  | some b =>
  simp only [q] at hf
  cases b with
  | true =>
    refine ⟨tgt, t, lv, st, h1, hf, fun p l e R s m args below meth c hC hE H locs ls cells slots Q hW hF hL kk => ?_⟩
    obtain ⟨X, Y, ex, ey, hb⟩ := rx_lt_ok hW q
    have hxy := hb.mp rfl
    have h3 := kk ls hL
    rw [List.map_cons, ey]
    rw [rx_v_0 (V := V) (c := 0) rfl] at ex
    have e0 := Value.int.inj ex
    rw [show rx_di 0 = 0 from rfl] at e0
    subst e0
    exact lv_if_gt hC.1 hC.2.1 hdg ht (fun _ => h3) (fun z => absurd z (by first | exact hxy | exact Int32.not_le.mpr hxy | exact Int32.not_lt.mpr hxy | exact fun q => hxy q | (rw [Int32.not_le]; exact hxy) | (rw [Int32.not_lt]; exact hxy) | (intro q; exact hxy q) | (intro q; exact q hxy) | (rw [Int32.not_lt] at hxy; intro q; exact q hxy) | (rw [Int32.not_le]; first | exact hxy | exact Int32.not_le.mp hxy)))
  | false =>
    refine ⟨pc + 3, f, lv, st, h2, hf, fun p l e R s m args below meth c hC hE H locs ls cells slots Q hW hF hL kk => ?_⟩
    obtain ⟨X, Y, ex, ey, hb⟩ := rx_lt_ok hW q
    have hxy := (fun z => absurd (hb.mpr z) (by decide) : ¬ _)
    have h3 := kk ls hL
    rw [List.map_cons, ey]
    rw [rx_v_0 (V := V) (c := 0) rfl] at ex
    have e0 := Value.int.inj ex
    rw [show rx_di 0 = 0 from rfl] at e0
    subst e0
    exact lv_if_gt hC.1 hC.2.1 hdg ht (fun z => absurd z (by first | exact hxy | exact Int32.not_le.mpr hxy | exact Int32.not_lt.mpr hxy | exact fun q => hxy q | (rw [Int32.not_le]; exact hxy) | (rw [Int32.not_lt]; exact hxy) | (intro q; exact hxy q) | (intro q; exact q hxy) | (rw [Int32.not_lt] at hxy; intro q; exact q hxy) | (rw [Int32.not_le]; first | exact hxy | exact Int32.not_le.mp hxy))) (fun _ => h3)
theorem s_icmp_le {off : Int} {tgt : Nat} (hdg : decode M.2.1 pc = .ok (.if_icmp .le off, 3)) (ht : (pc : Int) + off = (tgt : Int)) (h1 : rx_OK V M d tgt t) (h2 : rx_OK V M d (pc + 3) f) : rx_OK V M d pc (o_c2 (fun h x y => rx_lt h y x) f t) := by
  refine rx_pure fun lv st h r h' hf => ?_
  match st, hf with
  | [], hf => cases hf
  | [_], hf => cases hf
  | y :: x :: st, hf =>
  simp only [o_c2] at hf
  cases q : rx_lt h y x with
  | none => simp only [q] at hf; cases hf
  | some b =>
  simp only [q] at hf
  cases b with
  | true =>
    refine ⟨pc + 3, f, lv, st, h2, hf, fun p l e R s m args below meth c hC hE H locs ls cells slots Q hW hF hL kk => ?_⟩
    obtain ⟨X, Y, ex, ey, hb⟩ := rx_lt_ok hW q
    have hxy := hb.mp rfl
    have h3 := kk ls hL
    rw [List.map_cons, List.map_cons, ex, ey]
    exact lv_icmp_le hC.1 hC.2.1 hdg ht (fun z => absurd z (by first | exact hxy | exact Int32.not_le.mpr hxy | exact Int32.not_lt.mpr hxy | exact fun q => hxy q | (rw [Int32.not_le]; exact hxy) | (rw [Int32.not_lt]; exact hxy) | (intro q; exact hxy q) | (intro q; exact q hxy) | (rw [Int32.not_lt] at hxy; intro q; exact q hxy) | (rw [Int32.not_le]; first | exact hxy | exact Int32.not_le.mp hxy))) (fun _ => h3)
  | false =>
    refine ⟨tgt, t, lv, st, h1, hf, fun p l e R s m args below meth c hC hE H locs ls cells slots Q hW hF hL kk => ?_⟩
    obtain ⟨X, Y, ex, ey, hb⟩ := rx_lt_ok hW q
    have hxy := (fun z => absurd (hb.mpr z) (by decide) : ¬ _)
    have h3 := kk ls hL
    rw [List.map_cons, List.map_cons, ex, ey]
    exact lv_icmp_le hC.1 hC.2.1 hdg ht (fun _ => h3) (fun z => absurd z (by first | exact hxy | exact Int32.not_le.mpr hxy | exact Int32.not_lt.mpr hxy | exact fun q => hxy q | (rw [Int32.not_le]; exact hxy) | (rw [Int32.not_lt]; exact hxy) | (intro q; exact hxy q) | (intro q; exact q hxy) | (rw [Int32.not_lt] at hxy; intro q; exact q hxy) | (rw [Int32.not_le]; first | exact hxy | exact Int32.not_le.mp hxy)))
theorem s_if_le {off : Int} {tgt : Nat} (hdg : decode M.2.1 pc = .ok (.ifCond .le off, 3)) (ht : (pc : Int) + off = (tgt : Int)) (h1 : rx_OK V M d tgt t) (h2 : rx_OK V M d (pc + 3) f) : rx_OK V M d pc (o_c1 (fun h x y => rx_lt h y x) f t) := by
  refine rx_pure fun lv st h r h' hf => ?_
  match st, hf with
  | [], hf => cases hf
  | x :: st, hf =>
  simp only [o_c1] at hf
  cases q : rx_lt h 0 x with
  | none => simp only [q] at hf; cases hf
  | some b =>
  simp only [q] at hf
  cases b with
  | true =>
    refine ⟨pc + 3, f, lv, st, h2, hf, fun p l e R s m args below meth c hC hE H locs ls cells slots Q hW hF hL kk => ?_⟩
    obtain ⟨X, Y, ex, ey, hb⟩ := rx_lt_ok hW q
    have hxy := hb.mp rfl
    have h3 := kk ls hL
    rw [List.map_cons, ey]
    rw [rx_v_0 (V := V) (c := 0) rfl] at ex
    have e0 := Value.int.inj ex
    rw [show rx_di 0 = 0 from rfl] at e0
    subst e0
    exact lv_if_le hC.1 hC.2.1 hdg ht (fun z => absurd z (by first | exact hxy | exact Int32.not_le.mpr hxy | exact Int32.not_lt.mpr hxy | exact fun q => hxy q | (rw [Int32.not_le]; exact hxy) | (rw [Int32.not_lt]; exact hxy) | (intro q; exact hxy q) | (intro q; exact q hxy) | (rw [Int32.not_lt] at hxy; intro q; exact q hxy) | (rw [Int32.not_le]; first | exact hxy | exact Int32.not_le.mp hxy))) (fun _ => h3)
  | false =>
    refine ⟨tgt, t, lv, st, h1, hf, fun p l e R s m args below meth c hC hE H locs ls cells slots Q hW hF hL kk => ?_⟩
    obtain ⟨X, Y, ex, ey, hb⟩ := rx_lt_ok hW q
    have hxy := (fun z => absurd (hb.mpr z) (by decide) : ¬ _)
    have h3 := kk ls hL
    rw [List.map_cons, ey]
    rw [rx_v_0 (V := V) (c := 0) rfl] at ex
    have e0 := Value.int.inj ex
    rw [show rx_di 0 = 0 from rfl] at e0
    subst e0
    exact lv_if_le hC.1 hC.2.1 hdg ht (fun _ => h3) (fun z => absurd z (by first | exact hxy | exact Int32.not_le.mpr hxy | exact Int32.not_lt.mpr hxy | exact fun q => hxy q | (rw [Int32.not_le]; exact hxy) | (rw [Int32.not_lt]; exact hxy) | (intro q; exact hxy q) | (intro q; exact q hxy) | (rw [Int32.not_lt] at hxy; intro q; exact q hxy) | (rw [Int32.not_le]; first | exact hxy | exact Int32.not_le.mp hxy)))
theorem s_icmp_eq {off : Int} {tgt : Nat} (hdg : decode M.2.1 pc = .ok (.if_icmp .eq off, 3)) (ht : (pc : Int) + off = (tgt : Int)) (h1 : rx_OK V M d tgt t) (h2 : rx_OK V M d (pc + 3) f) : rx_OK V M d pc (o_c2 (rx_eq) t f) := by
  refine rx_pure fun lv st h r h' hf => ?_
  match st, hf with
  | [], hf => cases hf
  | [_], hf => cases hf
  | y :: x :: st, hf =>
  simp only [o_c2] at hf
  cases q : rx_eq h x y with
  | none => simp only [q] at hf; cases hf
  | some b =>
  simp only [q] at hf
  cases b with
  | true =>
    refine ⟨tgt, t, lv, st, h1, hf, fun p l e R s m args below meth c hC hE H locs ls cells slots Q hW hF hL kk => ?_⟩
    obtain ⟨X, Y, ex, ey, hb⟩ := rx_eq_ok hW q
    have hxy := hb.mp rfl
    have h3 := kk ls hL
    rw [List.map_cons, List.map_cons, ex, ey]
    exact lv_icmp_eq hC.1 hC.2.1 hdg ht (fun _ => h3) (fun z => absurd z (by first | exact hxy | exact Int32.not_le.mpr hxy | exact Int32.not_lt.mpr hxy | exact fun q => hxy q | (rw [Int32.not_le]; exact hxy) | (rw [Int32.not_lt]; exact hxy) | (intro q; exact hxy q) | (intro q; exact q hxy) | (rw [Int32.not_lt] at hxy; intro q; exact q hxy) | (rw [Int32.not_le]; first | exact hxy | exact Int32.not_le.mp hxy)))
  | false =>
    refine ⟨pc + 3, f, lv, st, h2, hf, fun p l e R s m args below meth c hC hE H locs ls cells slots Q hW hF hL kk => ?_⟩
    obtain ⟨X, Y, ex, ey, hb⟩ := rx_eq_ok hW q
    have hxy := (fun z => absurd (hb.mpr z) (by decide) : ¬ _)
    have h3 := kk ls hL
    rw [List.map_cons, List.map_cons, ex, ey]
    exact lv_icmp_eq hC.1 hC.2.1 hdg ht (fun z => absurd z (by first | exact hxy | exact Int32.not_le.mpr hxy | exact Int32.not_lt.mpr hxy | exact fun q => hxy q | (rw [Int32.not_le]; exact hxy) | (rw [Int32.not_lt]; exact hxy) | (intro q; exact hxy q) | (intro q; exact q hxy) | (rw [Int32.not_lt] at hxy; intro q; exact q hxy) | (rw [Int32.not_le]; first | exact hxy | exact Int32.not_le.mp hxy))) (fun _ => h3)
theorem s_if_eq {off : Int} {tgt : Nat} (hdg : decode M.2.1 pc = .ok (.ifCond .eq off, 3)) (ht : (pc : Int) + off = (tgt : Int)) (h1 : rx_OK V M d tgt t) (h2 : rx_OK V M d (pc + 3) f) : rx_OK V M d pc (o_c1 (rx_eq) t f) := by
  refine rx_pure fun lv st h r h' hf => ?_
  match st, hf with
  | [], hf => cases hf
  | x :: st, hf =>
  simp only [o_c1] at hf
  cases q : rx_eq h x 0 with
  | none => simp only [q] at hf; cases hf
  | some b =>
  simp only [q] at hf
  cases b with
  | true =>
    refine ⟨tgt, t, lv, st, h1, hf, fun p l e R s m args below meth c hC hE H locs ls cells slots Q hW hF hL kk => ?_⟩
    obtain ⟨X, Y, ex, ey, hb⟩ := rx_eq_ok hW q
    have hxy := hb.mp rfl
    have h3 := kk ls hL
    rw [List.map_cons, ex]
    rw [rx_v_0 (V := V) (c := 0) rfl] at ey
    have e0 := Value.int.inj ey
    rw [show rx_di 0 = 0 from rfl] at e0
    subst e0
    exact lv_if_eq hC.1 hC.2.1 hdg ht (fun _ => h3) (fun z => absurd z (by first | exact hxy | exact Int32.not_le.mpr hxy | exact Int32.not_lt.mpr hxy | exact fun q => hxy q | (rw [Int32.not_le]; exact hxy) | (rw [Int32.not_lt]; exact hxy) | (intro q; exact hxy q) | (intro q; exact q hxy) | (rw [Int32.not_lt] at hxy; intro q; exact q hxy) | (rw [Int32.not_le]; first | exact hxy | exact Int32.not_le.mp hxy)))
  | false =>
    refine ⟨pc + 3, f, lv, st, h2, hf, fun p l e R s m args below meth c hC hE H locs ls cells slots Q hW hF hL kk => ?_⟩
    obtain ⟨X, Y, ex, ey, hb⟩ := rx_eq_ok hW q
    have hxy := (fun z => absurd (hb.mpr z) (by decide) : ¬ _)
    have h3 := kk ls hL
    rw [List.map_cons, ex]
    rw [rx_v_0 (V := V) (c := 0) rfl] at ey
    have e0 := Value.int.inj ey
    rw [show rx_di 0 = 0 from rfl] at e0
    subst e0
    exact lv_if_eq hC.1 hC.2.1 hdg ht (fun z => absurd z (by first | exact hxy | exact Int32.not_le.mpr hxy | exact Int32.not_lt.mpr hxy | exact fun q => hxy q | (rw [Int32.not_le]; exact hxy) | (rw [Int32.not_lt]; exact hxy) | (intro q; exact hxy q) | (intro q; exact q hxy) | (rw [Int32.not_lt] at hxy; intro q; exact q hxy) | (rw [Int32.not_le]; first | exact hxy | exact Int32.not_le.mp hxy))) (fun _ => h3)
theorem s_icmp_ne {off : Int} {tgt : Nat} (hdg : decode M.2.1 pc = .ok (.if_icmp .ne off, 3)) (ht : (pc : Int) + off = (tgt : Int)) (h1 : rx_OK V M d tgt t) (h2 : rx_OK V M d (pc + 3) f) : rx_OK V M d pc (o_c2 (rx_eq) f t) := by
  refine rx_pure fun lv st h r h' hf => ?_
  match st, hf with
  | [], hf => cases hf
  | [_], hf => cases hf
  | y :: x :: st, hf =>
  simp only [o_c2] at hf
  cases q : rx_eq h x y with
  | none => simp only [q] at hf; cases hf
  | some b =>
  simp only [q] at hf
  cases b with
  | true =>
    refine ⟨pc + 3, f, lv, st, h2, hf, fun p l e R s m args below meth c hC hE H locs ls cells slots Q hW hF hL kk => ?_⟩
    obtain ⟨X, Y, ex, ey, hb⟩ := rx_eq_ok hW q
    have hxy := hb.mp rfl
    have h3 := kk ls hL
    rw [List.map_cons, List.map_cons, ex, ey]
    exact lv_icmp_ne hC.1 hC.2.1 hdg ht (fun z => absurd z (by first | exact hxy | exact Int32.not_le.mpr hxy | exact Int32.not_lt.mpr hxy | exact fun q => hxy q | (rw [Int32.not_le]; exact hxy) | (rw [Int32.not_lt]; exact hxy) | (intro q; exact hxy q) | (intro q; exact q hxy) | (rw [Int32.not_lt] at hxy; intro q; exact q hxy) | (rw [Int32.not_le]; first | exact hxy | exact Int32.not_le.mp hxy))) (fun _ => h3)
  | false =>
    refine ⟨tgt, t, lv, st, h1, hf, fun p l e R s m args below meth c hC hE H locs ls cells slots Q hW hF hL kk => ?_⟩
    obtain ⟨X, Y, ex, ey, hb⟩ := rx_eq_ok hW q
    have hxy := (fun z => absurd (hb.mpr z) (by decide) : ¬ _)
    have h3 := kk ls hL
    rw [List.map_cons, List.map_cons, ex, ey]
    exact lv_icmp_ne hC.1 hC.2.1 hdg ht (fun _ => h3) (fun z => absurd z (by first | exact hxy | exact Int32.not_le.mpr hxy | exact Int32.not_lt.mpr hxy | exact fun q => hxy q | (rw [Int32.not_le]; exact hxy) | (rw [Int32.not_lt]; exact hxy) | (intro q; exact hxy q) | (intro q; exact q hxy) | (rw [Int32.not_lt] at hxy; intro q; exact q hxy) | (rw [Int32.not_le]; first | exact hxy | exact Int32.not_le.mp hxy)))
theorem s_if_ne {off : Int} {tgt : Nat} (hdg : decode M.2.1 pc = .ok (.ifCond .ne off, 3)) (ht : (pc : Int) + off = (tgt : Int)) (h1 : rx_OK V M d tgt t) (h2 : rx_OK V M d (pc + 3) f) : rx_OK V M d pc (o_c1 (rx_eq) f t) := by
  refine rx_pure fun lv st h r h' hf => ?_
  match st, hf with
  | [], hf => cases hf
  | x :: st, hf =>
  simp only [o_c1] at hf
  cases q : rx_eq h x 0 with
  | none => simp only [q] at hf; cases hf
  | some b =>
  simp only [q] at hf
  cases b with
  | true =>
    refine ⟨pc + 3, f, lv, st, h2, hf, fun p l e R s m args below meth c hC hE H locs ls cells slots Q hW hF hL kk => ?_⟩
    obtain ⟨X, Y, ex, ey, hb⟩ := rx_eq_ok hW q
    have hxy := hb.mp rfl
    have h3 := kk ls hL
    rw [List.map_cons, ex]
    rw [rx_v_0 (V := V) (c := 0) rfl] at ey
    have e0 := Value.int.inj ey
    rw [show rx_di 0 = 0 from rfl] at e0
    subst e0
    exact lv_if_ne hC.1 hC.2.1 hdg ht (fun z => absurd z (by first | exact hxy | exact Int32.not_le.mpr hxy | exact Int32.not_lt.mpr hxy | exact fun q => hxy q | (rw [Int32.not_le]; exact hxy) | (rw [Int32.not_lt]; exact hxy) | (intro q; exact hxy q) | (intro q; exact q hxy) | (rw [Int32.not_lt] at hxy; intro q; exact q hxy) | (rw [Int32.not_le]; first | exact hxy | exact Int32.not_le.mp hxy))) (fun _ => h3)
  | false =>
    refine ⟨tgt, t, lv, st, h1, hf, fun p l e R s m args below meth c hC hE H locs ls cells slots Q hW hF hL kk => ?_⟩
    obtain ⟨X, Y, ex, ey, hb⟩ := rx_eq_ok hW q
    have hxy := (fun z => absurd (hb.mpr z) (by decide) : ¬ _)
    have h3 := kk ls hL
    rw [List.map_cons, ex]
    rw [rx_v_0 (V := V) (c := 0) rfl] at ey
    have e0 := Value.int.inj ey
    rw [show rx_di 0 = 0 from rfl] at e0
    subst e0
    exact lv_if_ne hC.1 hC.2.1 hdg ht (fun _ => h3) (fun z => absurd z (by first | exact hxy | exact Int32.not_le.mpr hxy | exact Int32.not_lt.mpr hxy | exact fun q => hxy q | (rw [Int32.not_le]; exact hxy) | (rw [Int32.not_lt]; exact hxy) | (intro q; exact hxy q) | (intro q; exact q hxy) | (rw [Int32.not_lt] at hxy; intro q; exact q hxy) | (rw [Int32.not_le]; first | exact hxy | exact Int32.not_le.mp hxy)))
theorem s_goto {off : Int} {tgt : Nat} (hdg : decode M.2.1 pc = .ok (.goto off, 3)) (ht : (pc : Int) + off = (tgt : Int)) (hk : rx_OK V M d tgt f) : rx_OK V M d pc f := by
  refine rx_pure fun lv st h r h' hf => ?_
  exact ⟨tgt, f, lv, st, hk, hf, fun p l e R s m args below meth c hC hE H locs ls cells slots Q hW hF hL kk => lv_goto hC.1 hC.2.1 hdg ht (kk ls hL)⟩
end RX14
end
section
section RX15
variable {V : rx_V} {M : rx_M} {d pc : Nat} {f t : rx_K}
-- one step that may change the cells
theorem rx_heap (h0 : ∀ (lv st : List Nat) (h : rx_H) (r : Nat) (h' : rx_H), f lv st h = some (r, h') → ∃ (pc' : Nat) (g : rx_K) (lv' st' : List Nat) (h1 : rx_H), rx_OK V M d pc' g ∧ g lv' st' h1 = some (r, h') ∧ h.1 ≤ h1.1 ∧ h.2.1 ≤ h1.2.1 ∧
    ∀ (p : Program) (l : Launch) (e : Env) (R : Room) (s : State) (m : MethodId) (args : Array Value) (below : List Frame) (meth : Method) (c : Code), rx_Cx V M p s m args meth c → rx_En V s → ∀ (n0 z0 : Nat), n0 ≤ h.1 → z0 ≤ h.2.1 → d ≤ R.frames → 100 * d ≤ R.locals → h1.1 - n0 ≤ R.cells → h1.2.1 - z0 ≤ R.slots →
      ∀ (H : Heap) (locs : List Loc) (ls : Array Slot) (Q : State → Prop), rx_w V h H → rx_F V s H locs → rx_L V ls M.2.2.1 lv →
      (∀ (H1 : Heap) (locs1 : List Loc) (ls' : Array Slot), rx_w V h1 H1 → rx_F V s H1 locs1 → rx_L V ls' M.2.2.1 lv' → W p l e R s m args below meth c H1 locs1 (h1.1 - n0) (h1.2.1 - z0) Q (F0 m pc' ls' (st'.map (rx_v V)))) → W p l e R s m args below meth c H locs (h.1 - n0) (h.2.1 - z0) Q (F0 m pc ls (st.map (rx_v V)))) : rx_OK V M d pc f := by
  intro lv st h r h' hf
  obtain ⟨pc', g, lv', st', h1, hg, hgf, i1, i2, hw⟩ := h0 lv st h r h' hf
  obtain ⟨m1, m2, kk⟩ := hg lv' st' h1 r h' hgf
  refine ⟨Nat.le_trans i1 m1, Nat.le_trans i2 m2, fun p l e R s m args below meth c hC hE n0 z0 hn hz hR1 hR2 hR3 hR4 H locs ls hW hF hL => ?_⟩
  exact hw p l e R s m args below meth c hC hE n0 z0 hn hz hR1 hR2 (by omega) (by omega) H locs ls _ hW hF hL (fun H1 locs1 ls' hW' hF' hL' => kk p l e R s m args below meth c hC hE n0 z0 (by omega) (by omega) hR1 hR2 hR3 hR4 H1 locs1 ls' hW' hF' hL')
theorem rx_at.kept {i : Nat} {e : rx_E} {H H1 : Heap} (h : rx_at V i e H) (q : H1[eb V + i]? = H[eb V + i]?) : rx_at V i e H1 := by
  obtain ⟨k, a, n, fs, us⟩ := e
  cases k with
  | zero => exact ⟨h.1, h.2.kept q⟩
  | succ t =>
    show H1[eb V + i]? = _
    rw [q]
    exact h
theorem rx_w_set {h h' : rx_H} {H H1 : Heap} {i : Nat} {e : rx_E} (hW : rx_w V h H) (hi : i < h.1) (e1 : h'.1 = h.1) (e2 : h'.2.2.1 = h.2.2.1) (eg : ∀ j, rx_hg h' j = if j = i then e else rx_hg h j) (z : H1.size = H.size) (oq : ∀ q, q ≠ eb V + i → H1[q]? = H[q]?) (he : rx_at V i e H1) : rx_w V h' H1 := by
  refine ⟨by rw [z, e1]; exact hW.1, fun j hj => ?_, by rw [e2]; exact hW.2.2⟩
  rw [eg j]
  by_cases q : j = i
  · rw [if_pos q, q]; exact he
  · rw [if_neg q]
    exact (hW.2.1 j (by omega)).kept (oq _ (by omega))
theorem rx_w_push {h h' : rx_H} {H H1 : Heap} {e : rx_E} (hW : rx_w V h H) (e1 : h'.1 = h.1 + 1) (e2 : h'.2.2.1 = h.2.2.1) (eg : ∀ j, rx_hg h' j = if j = h.1 then e else rx_hg h j) (z : H1.size = H.size + 1) (oq : ∀ q, q < H.size → H1[q]? = H[q]?) (he : rx_at V h.1 e H1) : rx_w V h' H1 := by
  refine ⟨by rw [z, e1, hW.1]; omega, fun j hj => ?_, by rw [e2]; exact hW.2.2⟩
  rw [eg j]
  by_cases q : j = h.1
  · rw [if_pos q, q]; exact he
  · rw [if_neg q]
    exact (hW.2.1 j (by omega)).kept (oq _ (by rw [hW.1]; omega))
theorem rx_F_set {s : State} {H H1 : Heap} {locs : List Loc} {a k : Nat} (hF : rx_F V s H locs) (z : H1.size = H.size) (oq : ∀ q, q ≠ a → H1[q]? = H[q]?) (ha : eb V ≤ a) : rx_F V s H1 (locs ++ [⟨a, k⟩]) := by
  refine ⟨fun q hq => (oq q (by omega)).trans (hF.1 q hq), fun l hl => ?_, by rw [z]; exact hF.2.2⟩
  rcases List.mem_append.mp hl with h | h
  · exact hF.2.1 l h
  · rw [List.mem_singleton.mp h]; exact ha
theorem rx_F_push {s : State} {H H1 : Heap} {locs : List Loc} (hF : rx_F V s H locs) (z : H1.size = H.size + 1) (oq : ∀ q, q < H.size → H1[q]? = H[q]?) (hb : eb V ≤ H.size) : rx_F V s H1 locs :=
  ⟨fun q hq => (oq q (by omega)).trans (hF.1 q hq), hF.2.1, by rw [z]; have := hF.2.2; omega⟩
-- a class: its place, name, fields, their types
def rx_Cl (V : rx_V) (ci : Nat) (C : String) (T : u_T) (N : Nat) (ty : Nat → FieldType) : Prop := (eC V)[ci]? = some (C, T, N) ∧ (∀ w ∈ u_ws C T N, w ∈ eW V) ∧ (∀ k, k < N → parseFieldDescriptor (T k).2.2.1 = some (ty k)) ∧ (∀ a, a < N → ∀ b, b < N → a ≠ b → (T a).2.1 ≠ (T b).2.1)
-- what an entry of ours is
noncomputable def rx_ob {β : Type} (h : rx_H) (o ci : Nat) (k : List (List Nat) → Option β) : Option β := bif Nat.beq (o % 8) 2 && Nat.blt (o / 8) h.1 then (match rx_hg h (o / 8) with
  | (z, c, _, fs, _) => bif Nat.beq z 0 && Nat.beq c ci then k fs else none) else none
theorem rx_ob_some {β : Type} {h : rx_H} {o ci : Nat} {k : List (List Nat) → Option β} {r : β} (hf : rx_ob h o ci k = some r) : o % 8 = 2 ∧ o / 8 < h.1 ∧ ∃ n fs us, rx_hg h (o / 8) = (0, ci, n, fs, us) ∧ k fs = some r := by
  unfold rx_ob at hf
  obtain ⟨hc, hf⟩ := rx_bifn hf
  obtain ⟨h1, h2⟩ := Bool.and_eq_true_iff.mp hc
  refine ⟨rx_beq h1, Nat.le_of_ble_eq_true h2, ?_⟩
  generalize rx_hg h (o / 8) = e at hf
  obtain ⟨z, c, n, fs, us⟩ := e
  dsimp only at hf
  obtain ⟨hc, hf⟩ := rx_bifn hf
  obtain ⟨h3, h4⟩ := Bool.and_eq_true_iff.mp hc
  rw [rx_beq h3, rx_beq h4]
  exact ⟨n, fs, us, rfl, hf⟩
theorem rx_ob_at {h : rx_H} {H : Heap} {o ci n N : Nat} {fs : List (List Nat)} {us : List (Nat × Nat)} {C : String} {T : u_T} {ty : Nat → FieldType} (hW : rx_w V h H) (hcl : rx_Cl V ci C T N ty) (ho : o / 8 < h.1) (he : rx_hg h (o / 8) = (0, ci, n, fs, us)) : n = N ∧ t_OB (eb V + o / 8) ((eD V).1 ci) N ((eD V).2 ci) H (fun k => rx_v V (rx_fg fs k)) := by
  have h1 := hW.2.1 _ ho
  rw [he] at h1
  obtain ⟨⟨r, h2, h3⟩, h4⟩ := h1
  have h5 := Option.some.inj (h2.symm.trans hcl.1)
  rw [h5] at h3
  dsimp only at h3
  rw [← h3] at h4
  exact ⟨h3.symm, h4⟩
noncomputable def o_getf (ci k0 : Nat) (k : rx_K) : rx_K := fun lv st h => match st with
  | o :: r => rx_ob h o ci fun fs => rx_f (rx_fg fs k0) fun v => k lv (v :: r) h
  | _ => none
theorem rx_getfield {ci k0 index N : Nat} {C ref : String} {T : u_T} {ty : Nat → FieldType} (hcl : rx_Cl V ci C T N ty) (hk0 : k0 < N) (hsame : ∀ (args : Array Value) (s : State), (∀ w ∈ eW V, w.before args s = true) → ∀ x, s.fieldFound? (T k0).1 (T k0).2.1 (T k0).2.2.1 = some x → s.fieldFound? ref (T k0).2.1 (T k0).2.2.1 = some x) (hdg : decode M.2.1 pc = .ok (.getfield index, 3)) (hw : Cond.fieldLink M.1 index ref (T k0).2.1 (T k0).2.2.1 ∈ eW V) (hk : rx_OK V M d (pc + 3) f) : rx_OK V M d pc (o_getf ci k0 f) := by
  refine rx_pure fun lv st h r h' hf => ?_
  match st, hf with
  | [], hf => cases hf
  | o :: st, hf =>
  simp only [o_getf, rx_f_eq] at hf
  obtain ⟨ho, hlt, n, fs, us, he, hf⟩ := rx_ob_some hf
  refine ⟨pc + 3, f, lv, _, hk, hf, fun p l e R s m args below meth c hC hE H locs ls cells slots Q hW hF hL kk => ?_⟩
  obtain ⟨-, cell, q1, q2, q3, q4⟩ := rx_ob_at hW hcl hlt he
  obtain ⟨hS, hfc, kC, hkC, hkind⟩ := hE.1.1 ci _ hcl.1
  obtain ⟨cf, kf, fi, fd, hi, hsl⟩ := hS k0 hk0
  have hts := hC.2.2.2.2.2.2.1
  rw [List.map_cons, rx_v_2 ho]
  refine W.getf hC.1 hC.2.1 hC.2.2.2.2.2.1 (hts _ hw) (hsame args s hts _ hi) (u_facts hfc hkC (u_lays hts hcl.2.1 hk0) hi).1 q1 (by rw [q3]; exact fun h => by cases h) (v := rx_v V (rx_fg fs k0)) ?_ rfl rfl hdg (kk ls hL)
  rw [hsl]
  exact q4 k0 hk0
theorem s_getf {ci k0 index N : Nat} {C : String} {T : u_T} {ty : Nat → FieldType} (hcl : rx_Cl V ci C T N ty) (hk0 : k0 < N) (hdg : decode M.2.1 pc = .ok (.getfield index, 3)) (hw : Cond.fieldLink M.1 index (T k0).1 (T k0).2.1 (T k0).2.2.1 ∈ eW V) (hk : rx_OK V M d (pc + 3) f) : rx_OK V M d pc (o_getf ci k0 f) := rx_getfield hcl hk0 (fun _ _ _ _ h => h) hdg hw hk
theorem s_getfS {ci k0 index N : Nat} {C ref : String} {T : u_T} {ty : Nat → FieldType} (hcl : rx_Cl V ci C T N ty) (hk0 : k0 < N) (hs : Cond.sameField ref (T k0).1 (T k0).2.1 (T k0).2.2.1 ∈ eW V) (hdg : decode M.2.1 pc = .ok (.getfield index, 3)) (hw : Cond.fieldLink M.1 index ref (T k0).2.1 (T k0).2.2.1 ∈ eW V) (hk : rx_OK V M d (pc + 3) f) : rx_OK V M d pc (o_getf ci k0 f) := rx_getfield hcl hk0 (fun args s hts x h => u_same (args := args) (hts _ hs) x h) hdg hw hk
-- what may lie in a field of a type
def rx_chk (ty : FieldType) : Nat → Bool := match ty with
  | .int => rx_isI
  | .long => rx_isL
  | .boolean => fun c => Nat.beq c 0 || Nat.beq c 8
  | .object _ => rx_isR
  | .array _ => rx_isR
  | _ => fun _ => false
theorem rx_chk_ok (hV : rx_Ok V) {ty : FieldType} {c : Nat} (h : rx_chk ty c = true) : narrow ty (rx_v V c) = rx_v V c ∧ fits ty (rx_v V c) = true := by
  cases ty with
  | int => obtain ⟨-, x, e⟩ := rx_isI_v hV h; rw [e]; exact ⟨rfl, rfl⟩
  | long => obtain ⟨-, e⟩ := rx_isL_v (V := V) h; rw [e]; exact ⟨rfl, rfl⟩
  | boolean =>
    rcases Bool.or_eq_true_iff.mp h with h | h
    · rw [rx_beq h, rx_v_0 rfl]; exact ⟨by decide +kernel, by decide +kernel⟩
    · rw [rx_beq h, rx_v_0 rfl]; exact ⟨by decide +kernel, by decide +kernel⟩
  | object n => obtain ⟨-, e | ⟨a, e⟩⟩ := rx_isR_v hV h <;> rw [e] <;> exact ⟨rfl, rfl⟩
  | array n => obtain ⟨-, e | ⟨a, e⟩⟩ := rx_isR_v hV h <;> rw [e] <;> exact ⟨rfl, rfl⟩
  | _ => cases h
noncomputable def o_putf (chk : Nat → Bool) (ci k0 : Nat) (k : rx_K) : rx_K := fun lv st h => match st with
  | v :: o :: r => bif chk v then rx_ob h o ci fun fs => rx_fs fs k0 v fun fs' => match rx_hg h (o / 8) with
    | (z, c, n, _, us) => rx_hs h (o / 8) (z, c, n, fs', us) fun h' => k lv r h'
    else none
  | _ => none
theorem rx_putfield (hV : rx_Ok V) {ci k0 index N : Nat} {C ref : String} {T : u_T} {ty : Nat → FieldType} (hcl : rx_Cl V ci C T N ty) (hk0 : k0 < N) (hsame : ∀ (args : Array Value) (s : State), (∀ w ∈ eW V, w.before args s = true) → ∀ x, s.fieldFound? (T k0).1 (T k0).2.1 (T k0).2.2.1 = some x → s.fieldFound? ref (T k0).2.1 (T k0).2.2.1 = some x) (hfin : (T k0).2.2.2 = false ∨ (M.2.2.2.2 = true ∧ (T k0).1 = M.1)) (hdg : decode M.2.1 pc = .ok (.putfield index, 3)) (hw : Cond.fieldLink M.1 index ref (T k0).2.1 (T k0).2.2.1 ∈ eW V) (hk : rx_OK V M d (pc + 3) f) : rx_OK V M d pc (o_putf (rx_chk (ty k0)) ci k0 f) := by
  refine rx_heap fun lv st h r h' hf => ?_
  match st, hf with
  | [], hf => cases hf
  | [_], hf => cases hf
  | v :: o :: st, hf =>
  simp only [o_putf] at hf
  obtain ⟨hv, hf⟩ := rx_bifn hf
  obtain ⟨ho, hlt, n, fs, us, he, hf⟩ := rx_ob_some hf
  obtain ⟨fs', hf, hfs⟩ := rx_fs_some hf
  rw [he] at hf
  obtain ⟨h1, hf, e1, e2, e3, eg⟩ := rx_hs_some hf
  obtain ⟨hn, hfit⟩ := rx_chk_ok hV hv
  refine ⟨pc + 3, f, lv, st, h1, hk, hf, by omega, by omega, fun p l e R s m args below meth c hC hE n0 z0 hn0 hz0 hR1 hR2 hR3 hR4 H locs ls Q hW hF hL kk => ?_⟩
  have hob := rx_ob_at hW hcl hlt he
  obtain ⟨hnN, cell, q1, q2, q3, q4⟩ := hob
  obtain ⟨hS, hfc, kC, hkC, hkind⟩ := hE.1.1 ci _ hcl.1
  obtain ⟨cf, kf, fi, fd, hi, hsl⟩ := hS k0 hk0
  have hts := hC.2.2.2.2.2.2.1
  have hap := va_apart (own := M.1) (tys := rx_tys V) hts hcl.2.1 ty hcl.2.2.1 hcl.2.2.2 hE.1 hcl.1
  have hlay := hts _ (hcl.2.1 _ (u_in_lay hk0))
  have hst := (u_facts hfc hkC (u_lays hts hcl.2.1 hk0) hi).1
  rw [List.map_cons, List.map_cons, rx_v_2 ho]
  have key : ∀ (H' : Heap), H'[eb V + o / 8]? = some (cell.setSlot fd.slot (rx_v V v)) → H'.size = H.size → (∀ q, q ≠ eb V + o / 8 → H'[q]? = H[q]?) → W p l e R s m args below meth c H' (locs ++ [⟨eb V + o / 8, fd.slot⟩]) (h.1 - n0) (h.2.1 - z0) Q (F0 m (pc + 3) ls (st.map (rx_v V))) := by
    intro H' x1 x2 x3
    have hkk := kk H' (locs ++ [⟨eb V + o / 8, fd.slot⟩]) ls ?_ (rx_F_set hF x2 x3 (by omega)) hL
    · rw [e1, e2] at hkk; exact hkk
    · refine rx_w_set hW hlt e1 e3 eg x2 x3 ⟨⟨_, hcl.1, hnN.symm⟩, ?_⟩
      rw [hsl] at x1
      rw [hnN]
      refine t_OB.to (V := updV (fun k => rx_v V (rx_fg fs k)) k0 (rx_v V v)) ⟨_, x1, q2, q3, t_set q4 hap hk0 (rx_v V v)⟩ (fun j _ => ?_)
      show updV _ _ _ _ = rx_v V (rx_fg fs' j)
      rw [hfs j]
      by_cases e : j = k0 <;> simp [updV, e]
  unfold u_lay at hlay
  rcases hfin with hfin | ⟨hini, hdecl⟩
  · rw [if_neg (by rw [hfin]; decide)] at hlay
    have h6 := u_store hfc hkC hkind hlay hi (hcl.2.2.1 k0 hk0) hn hfit
    exact W.putK hC.1 hC.2.1 (f := fd) ⟨hC.2.2.2.2.2.1, hts _ hw, ⟨_, _, _, hsame args s hts _ hi⟩, hst⟩ (by rw [q2]; exact h6) q1 q3 (by rw [hsl]; exact k2_hasslot (q4 k0 hk0)) rfl rfl hdg key
  · by_cases hff : (T k0).2.2.2 = true
    · rw [if_pos hff] at hlay
      have hcf : m.cls = cf := by
        obtain ⟨_, _, c', _, _, _, -, -, hf', -, -, -, hown2, -⟩ := Cond.laysFinal_spec hlay
        have e1 : c' = cf := by have := hi.symm.trans hf'; simp at this; exact this.1.symm
        rw [hdecl] at hown2
        rw [← e1]; exact Option.some.inj (hC.2.2.2.2.2.1.symm.trans hown2)
      have h6 := u_fits hfc hkC hkind (Or.inr hlay) hi (hcl.2.2.1 k0 hk0) hn hfit
      exact W.putFinK hC.1 hC.2.1 hC.2.2.2.2.2.1 (hts _ hw) (hsame args s hts _ hi) hst hcf (hC.2.2.2.2.2.2.2 hini) (by rw [q2]; exact h6) q1 q3 (by rw [hsl]; exact k2_hasslot (q4 k0 hk0)) rfl rfl hdg key
    · rw [if_neg hff] at hlay
      have h6 := u_store hfc hkC hkind hlay hi (hcl.2.2.1 k0 hk0) hn hfit
      exact W.putK hC.1 hC.2.1 (f := fd) ⟨hC.2.2.2.2.2.1, hts _ hw, ⟨_, _, _, hsame args s hts _ hi⟩, hst⟩ (by rw [q2]; exact h6) q1 q3 (by rw [hsl]; exact k2_hasslot (q4 k0 hk0)) rfl rfl hdg key
theorem s_putf (hV : rx_Ok V) {ci k0 index N : Nat} {C : String} {T : u_T} {ty : Nat → FieldType} (hcl : rx_Cl V ci C T N ty) (hk0 : k0 < N) (hfin : (T k0).2.2.2 = false ∨ (M.2.2.2.2 = true ∧ (T k0).1 = M.1)) (hdg : decode M.2.1 pc = .ok (.putfield index, 3)) (hw : Cond.fieldLink M.1 index (T k0).1 (T k0).2.1 (T k0).2.2.1 ∈ eW V) {chk : Nat → Bool} (hc : rx_chk (ty k0) = chk) (hk : rx_OK V M d (pc + 3) f) : rx_OK V M d pc (o_putf chk ci k0 f) := hc ▸ rx_putfield hV hcl hk0 (fun _ _ _ _ h => h) hfin hdg hw hk
theorem s_putfS (hV : rx_Ok V) {ci k0 index N : Nat} {C ref : String} {T : u_T} {ty : Nat → FieldType} (hcl : rx_Cl V ci C T N ty) (hk0 : k0 < N) (hs : Cond.sameField ref (T k0).1 (T k0).2.1 (T k0).2.2.1 ∈ eW V) (hfin : (T k0).2.2.2 = false ∨ (M.2.2.2.2 = true ∧ (T k0).1 = M.1)) (hdg : decode M.2.1 pc = .ok (.putfield index, 3)) (hw : Cond.fieldLink M.1 index ref (T k0).2.1 (T k0).2.2.1 ∈ eW V) {chk : Nat → Bool} (hc : rx_chk (ty k0) = chk) (hk : rx_OK V M d (pc + 3) f) : rx_OK V M d pc (o_putf chk ci k0 f) := hc ▸ rx_putfield hV hcl hk0 (fun args s hts x h => u_same (args := args) (hts _ hs) x h) hfin hdg hw hk
end RX15
end
section
section RX16
variable {V : rx_V} {M : rx_M} {d pc : Nat} {f t : rx_K}
-- an object is made: its fields' first values are codes 0, 1 (a long), 3 (a reference)
def rx_df (ty : FieldType) : Nat := match ty with
  | .long => 1
  | .object _ => 3
  | .array _ => 3
  | _ => 0
def rx_dfok (ty : FieldType) : Bool := match ty with
  | .float => false
  | .double => false
  | _ => true
theorem rx_df_v {ty : FieldType} (h : rx_dfok ty = true) : rx_v V (rx_df ty) = defaultValue ty := by
  cases ty with
  | float => cases h
  | double => cases h
  | _ => rfl
noncomputable def o_new (ci n : Nat) (fs : List (List Nat)) (k : rx_K) : rx_K := fun lv st h => rx_hp h (0, ci, n, fs, []) fun h1 => rx_f (8 * h.1 + 2) fun v => k lv (v :: st) h1
theorem s_new {ci index N : Nat} {C : String} {T : u_T} {ty : Nat → FieldType} {fs : List (List Nat)} (hcl : rx_Cl V ci C T N ty) (hfs : ∀ k, k < N → rx_dfok (ty k) = true ∧ rx_fg fs k = rx_df (ty k)) (hdg : decode M.2.1 pc = .ok (.new index, 3)) (hw1 : Cond.classLink M.1 index C ∈ eW V) (hw2 : Cond.instantiable C N ∈ eW V) (hw3 : Cond.initialized C ∈ eW V) (hk : rx_OK V M d (pc + 3) f) : rx_OK V M d pc (o_new ci N fs f) := by
  refine rx_heap fun lv st h r h' hf => ?_
  simp only [o_new, rx_f_eq] at hf
  obtain ⟨h1, hf, e1, e2, e3, eg⟩ := rx_hp_some hf
  dsimp only at e2
  refine ⟨pc + 3, f, lv, _, h1, hk, hf, by omega, by omega, fun p l e R s m args below meth c hC hE n0 z0 hn0 hz0 hR1 hR2 hR3 hR4 H locs ls Q hW hF hL kk => ?_⟩
  have hts := hC.2.2.2.2.2.2.1
  have hKn := hE.1.1 ci _ hcl.1
  refine W.newcK hC.1 hC.2.1 hC.2.2.2.2.2.1 (hts _ hw1) (hts _ hw2) (hts _ hw3) rfl hdg (by omega) (by omega) hKn.2.1 rfl fun H1 kC hkC x1 z1 o1 => ?_
  have hb : eb V ≤ H.size := by rw [hW.1]; omega
  have hk2 := kk H1 locs ls (rx_w_push hW e1 e3 eg z1 o1 ⟨⟨_, hcl.1, rfl⟩, ?_⟩) (rx_F_push hF z1 o1 hb) hL
  · rw [List.map_cons, rx_v_2 (by omega), show (8 * h.1 + 2) / 8 = h.1 by omega, ← hW.1, e1, e2, show h.1 + 1 - n0 = h.1 - n0 + 1 by omega, show h.2.1 + N - z0 = h.2.1 - z0 + N by omega] at hk2
    exact hk2
  · have x2 : H1[eb V + h.1]? = some (blank ((eD V).1 ci) kC) := by rw [← hW.1]; exact x1
    exact (u_born ty hts hcl.2.1 hKn hkC x2 hcl.2.2.1).to (fun k hk => by rw [(hfs k hk).2]; exact (rx_df_v (hfs k hk).1).symm)
-- arrays
noncomputable def rx_ar {β : Type} (h : rx_H) (o tt : Nat) (k : Nat → Nat → List (Nat × Nat) → Option β) : Option β := bif Nat.beq (o % 8) 2 && Nat.blt (o / 8) h.1 then (match rx_hg h (o / 8) with
  | (z, _, n, fs, us) => bif Nat.beq z (tt + 1) then k n (rx_fg fs 0) us else none) else none
theorem rx_ar_some {β : Type} {h : rx_H} {o tt : Nat} {k : Nat → Nat → List (Nat × Nat) → Option β} {r : β} (hf : rx_ar h o tt k = some r) : o % 8 = 2 ∧ o / 8 < h.1 ∧ ∃ a n fs us, rx_hg h (o / 8) = (tt + 1, a, n, fs, us) ∧ k n (rx_fg fs 0) us = some r := by
  unfold rx_ar at hf
  obtain ⟨hc, hf⟩ := rx_bifn hf
  obtain ⟨h1, h2⟩ := Bool.and_eq_true_iff.mp hc
  refine ⟨rx_beq h1, Nat.le_of_ble_eq_true h2, ?_⟩
  generalize rx_hg h (o / 8) = e at hf
  obtain ⟨z, a, n, fs, us⟩ := e
  dsimp only at hf
  obtain ⟨hc, hf⟩ := rx_bifn hf
  rw [rx_beq hc]
  exact ⟨a, n, fs, us, rfl, hf⟩
theorem rx_ar_at {h : rx_H} {H : Heap} {o tt a n : Nat} {fs : List (List Nat)} {us : List (Nat × Nat)} (hW : rx_w V h H) (ho : o / 8 < h.1) (he : rx_hg h (o / 8) = (tt + 1, a, n, fs, us)) : H[eb V + o / 8]? = some (arrV (eA V tt) n (fun j => rx_v V (rx_lk (rx_fg fs 0) us j))) := by
  have h1 := hW.2.1 _ ho
  rw [he] at h1
  exact h1
theorem rx_ty {s : State} {tt : Nat} {ty : FieldType} (hE : rx_En V s) (ht : (eT V)[tt]? = some ty) : ArrOfT s (eA V tt) ty ∧ va_RA s (eA V tt) ty := hE.1.2 tt _ (rx_tys_at ht)
theorem rx_in {x : Int32} {i n : Nat} (hx : x = Int32.ofNat i) (hn : i < n) (h31 : n < 2147483648) : ¬ (x < 0 ∨ n ≤ x.toNatClampNeg) ∧ x.toNatClampNeg = i := by
  subst hx
  have e : (Int32.ofNat i).toNatClampNeg = i := nI_clamp (n := i) (by omega)
  have p : ¬ Int32.ofNat i < 0 := nI_pos (n := i) (by omega)
  rw [e]
  exact ⟨fun q => q.elim p (fun z => by omega), rfl⟩
noncomputable def o_alen (tt : Nat) (k : rx_K) : rx_K := fun lv st h => match st with
  | o :: r => rx_ar h o tt fun n _ _ => bif Nat.blt n 268435456 then rx_f (8 * n) fun v => k lv (v :: r) h else none
  | _ => none
theorem s_alen {tt : Nat} {ty : FieldType} (ht : (eT V)[tt]? = some ty) (hdg : decode M.2.1 pc = .ok (.arraylength, 1)) (hk : rx_OK V M d (pc + 1) f) : rx_OK V M d pc (o_alen tt f) := by
  refine rx_pure fun lv st h r h' hf => ?_
  match st, hf with
  | [], hf => cases hf
  | o :: st, hf =>
  simp only [o_alen, rx_f_eq] at hf
  obtain ⟨ho, hlt, a, n, fs, us, he, hf⟩ := rx_ar_some hf
  obtain ⟨hn, hf⟩ := rx_bifn hf
  refine ⟨pc + 1, f, lv, _, hk, hf, fun p l e R s m args below meth c hC hE H locs ls cells slots Q hW hF hL kk => ?_⟩
  have hat := rx_ar_at hW hlt he
  have h2 := kk ls hL
  rw [List.map_cons, rx_v_0 (by omega)] at h2
  rw [List.map_cons, rx_v_2 ho]
  refine W.alen hC.1 hC.2.1 hat ((rx_ty hE ht).1 n _) ?_ rfl rfl hdg h2
  rw [arrV_size]
  show Int32.ofNat n = rx_di (8 * n)
  unfold rx_di
  rw [show 8 * n / 8 = n by omega]
-- loads: i, l, b, z, a
noncomputable def o_ald (tt : Nat) (k : rx_K) : rx_K := fun lv st h => match st with
  | i :: o :: r => bif Nat.beq (i % 8) 0 then rx_ar h o tt fun n dv us => bif Nat.blt (i / 8) n && Nat.blt n 268435456 then rx_f (rx_lk dv us (i / 8)) fun v => k lv (v :: r) h else none else none
  | _ => none
theorem rx_ald {tt : Nat} (row : ∀ (p : Program) (l : Launch) (e : Env) (R : Room) (s : State) (m : MethodId) (args : Array Value) (below : List Frame) (meth : Method) (c : Code) (H : Heap) (locs : List Loc) (ls : Array Slot) (cells slots : Nat) (Q : State → Prop), rx_Cx V M p s m args meth c → rx_En V s → ∀ (a n : Nat) (g : Nat → Value) (j : Int32) (v : Value) (rest : List Value), H[a]? = some (arrV (eA V tt) n g) → ¬ (j < 0 ∨ (arrV (eA V tt) n g).slots.size ≤ j.toNatClampNeg) → (arrV (eA V tt) n g).slots[j.toNatClampNeg]? = some v → W p l e R s m args below meth c H locs cells slots Q (F0 m (pc + 1) ls (v :: rest)) → W p l e R s m args below meth c H locs cells slots Q (F0 m pc ls (.int j :: .ref a :: rest))) (hk : rx_OK V M d (pc + 1) f) : rx_OK V M d pc (o_ald tt f) := by
  refine rx_pure fun lv st h r h' hf => ?_
  match st, hf with
  | [], hf => cases hf
  | [_], hf => cases hf
  | i :: o :: st, hf =>
  simp only [o_ald, rx_f_eq] at hf
  obtain ⟨hi, hf⟩ := rx_bifn hf
  obtain ⟨ho, hlt, a, n, fs, us, he, hf⟩ := rx_ar_some hf
  obtain ⟨hc, hf⟩ := rx_bifn hf
  obtain ⟨h1, h2⟩ := Bool.and_eq_true_iff.mp hc
  have h1 : i / 8 < n := Nat.le_of_ble_eq_true h1
  have h2 : n < 268435456 := Nat.le_of_ble_eq_true h2
  refine ⟨pc + 1, f, lv, _, hk, hf, fun p l e R s m args below meth c hC hE H locs ls cells slots Q hW hF hL kk => ?_⟩
  have hat := rx_ar_at hW hlt he
  obtain ⟨x1, x2⟩ := rx_in (x := rx_di i) (i := i / 8) (n := n) rfl h1 (by omega)
  rw [List.map_cons, List.map_cons, rx_v_0 (rx_beq hi), rx_v_2 ho]
  refine row p l e R s m args below meth c H locs ls cells slots Q hC hE _ n _ _ (rx_v V (rx_lk (rx_fg fs 0) us (i / 8))) _ hat (by rw [arrV_size]; exact x1) ?_ (kk ls hL)
  rw [x2, arrV_read _ _ h1]
theorem s_iald {tt : Nat} (ht : (eT V)[tt]? = some .int) (hdg : decode M.2.1 pc = .ok (.iaload, 1)) (hk : rx_OK V M d (pc + 1) f) : rx_OK V M d pc (o_ald tt f) :=
  rx_ald (fun p l e R s m args below meth c H locs ls cells slots Q hC hE a n g j v rest h1 h2 h3 kk => W.iald hC.1 hC.2.1 h1 ((rx_ty hE ht).1 n g) (fun q => by cases q) h2 h3 rfl rfl hdg kk) hk
theorem s_lald {tt : Nat} (ht : (eT V)[tt]? = some .long) (hdg : decode M.2.1 pc = .ok (.laload, 1)) (hk : rx_OK V M d (pc + 1) f) : rx_OK V M d pc (o_ald tt f) :=
  rx_ald (fun p l e R s m args below meth c H locs ls cells slots Q hC hE a n g j v rest h1 h2 h3 kk => W.lald hC.1 hC.2.1 h1 ((rx_ty hE ht).1 n g) (fun q => by cases q) h2 h3 rfl rfl hdg kk) hk
theorem s_bald {tt : Nat} (ht : (eT V)[tt]? = some .byte) (hdg : decode M.2.1 pc = .ok (.baload, 1)) (hk : rx_OK V M d (pc + 1) f) : rx_OK V M d pc (o_ald tt f) :=
  rx_ald (fun p l e R s m args below meth c H locs ls cells slots Q hC hE a n g j v rest h1 h2 h3 kk => W.bald hC.1 hC.2.1 h1 ((rx_ty hE ht).1 n g) (fun q => by cases q) h2 h3 rfl rfl hdg kk) hk
theorem s_zald {tt : Nat} (ht : (eT V)[tt]? = some .boolean) (hdg : decode M.2.1 pc = .ok (.baload, 1)) (hk : rx_OK V M d (pc + 1) f) : rx_OK V M d pc (o_ald tt f) :=
  rx_ald (fun p l e R s m args below meth c H locs ls cells slots Q hC hE a n g j v rest h1 h2 h3 kk => W.zald hC.1 hC.2.1 h1 ((rx_ty hE ht).1 n g) (fun q => by cases q) h2 h3 rfl rfl hdg kk) hk
theorem s_aald {tt : Nat} {ty : FieldType} (ht : (eT V)[tt]? = some ty) (hr : ty.isReference = true) (hdg : decode M.2.1 pc = .ok (.aaload, 1)) (hk : rx_OK V M d (pc + 1) f) : rx_OK V M d pc (o_ald tt f) :=
  rx_ald (fun p l e R s m args below meth c H locs ls cells slots Q hC hE a n g j v rest h1 h2 h3 kk => W.aald hC.1 hC.2.1 h1 ((rx_ty hE ht).1 n g) hr (fun q => by cases q) h2 h3 rfl rfl hdg kk) hk
-- stores
noncomputable def o_ast (tt : Nat) (g : Nat → Nat) (chk : Nat → Bool) (k : rx_K) : rx_K := fun lv st h => match st with
  | v :: i :: o :: r => bif chk v && Nat.beq (i % 8) 0 then rx_ar h o tt fun n dv us => bif Nat.blt (i / 8) n && Nat.blt n 268435456 then rx_f (i / 8) fun j => rx_f (g v) fun v' => rx_hs h (o / 8) (tt + 1, n, n, [[dv]], (j, v') :: us) fun h' => k lv r h' else none else none
  | _ => none
theorem rx_arrset {cA : ClassId} {n i : Nat} {g : Nat → Value} {v : Value} {dv : Nat} {us : List (Nat × Nat)} {c : Nat} (hg : ∀ j, g j = rx_v V (rx_lk dv us j)) (hv : v = rx_v V c) : (arrV cA n g).setSlot i v = arrV cA n (fun j => rx_v V (rx_lk (rx_fg [[dv]] 0) ((i, c) :: us) j)) := by
  rw [arrV_store]
  congr 1
  funext j
  show updV g i v j = rx_v V (rx_lk dv ((i, c) :: us) j)
  rw [rx_lk_cons]
  by_cases e : j = i
  · simp [updV, e, hv]
  · simp [updV, e, hg j]
theorem rx_ast {tt : Nat} {g : Nat → Nat} {chk : Nat → Bool} (row : ∀ (p : Program) (l : Launch) (e : Env) (R : Room) (s : State) (m : MethodId) (args : Array Value) (below : List Frame) (meth : Method) (c : Code) (H : Heap) (locs : List Loc) (ls : Array Slot) (cells slots : Nat) (Q : State → Prop), rx_Cx V M p s m args meth c → rx_En V s → ∀ (h : rx_H) (a n : Nat) (z : Nat → Value) (j : Int32) (v : Nat) (rest : List Value), chk v = true → rx_w V h H → H[a]? = some (arrV (eA V tt) n z) → ¬ (j < 0 ∨ (arrV (eA V tt) n z).slots.size ≤ j.toNatClampNeg) → (∀ H' : Heap, H'[a]? = some ((arrV (eA V tt) n z).setSlot j.toNatClampNeg (rx_v V (g v))) → H'.size = H.size → (∀ q, q ≠ a → H'[q]? = H[q]?) → W p l e R s m args below meth c H' (locs ++ [⟨a, j.toNatClampNeg⟩]) cells slots Q (F0 m (pc + 1) ls rest)) → W p l e R s m args below meth c H locs cells slots Q (F0 m pc ls (rx_v V v :: .int j :: .ref a :: rest))) (hk : rx_OK V M d (pc + 1) f) : rx_OK V M d pc (o_ast tt g chk f) := by
  refine rx_heap fun lv st h r h' hf => ?_
  match st, hf with
  | [], hf => cases hf
  | [_], hf => cases hf
  | [_, _], hf => cases hf
  | v :: i :: o :: st, hf =>
  simp only [o_ast, rx_f_eq] at hf
  obtain ⟨hc, hf⟩ := rx_bifn hf
  obtain ⟨hv, hi⟩ := Bool.and_eq_true_iff.mp hc
  obtain ⟨ho, hlt, a, n, fs, us, he, hf⟩ := rx_ar_some hf
  obtain ⟨hc, hf⟩ := rx_bifn hf
  obtain ⟨h1, h2⟩ := Bool.and_eq_true_iff.mp hc
  have h1 : i / 8 < n := Nat.le_of_ble_eq_true h1
  have h2 : n < 268435456 := Nat.le_of_ble_eq_true h2
  obtain ⟨hh, hf, e1, e2, e3, eg⟩ := rx_hs_some hf
  refine ⟨pc + 1, f, lv, st, hh, hk, hf, by omega, by omega, fun p l e R s m args below meth c hC hE n0 z0 hn0 hz0 hR1 hR2 hR3 hR4 H locs ls Q hW hF hL kk => ?_⟩
  have hat := rx_ar_at hW hlt he
  obtain ⟨x1, x2⟩ := rx_in (x := rx_di i) (i := i / 8) (n := n) rfl h1 (by omega)
  rw [List.map_cons, List.map_cons, List.map_cons, rx_v_0 (rx_beq hi), rx_v_2 ho]
  refine row p l e R s m args below meth c H locs ls _ _ Q hC hE h _ n _ _ v _ hv hW hat (by rw [arrV_size]; exact x1) fun H' y1 y2 y3 => ?_
  have hkk := kk H' (locs ++ [⟨eb V + o / 8, (rx_di i).toNatClampNeg⟩]) ls ?_ (rx_F_set hF y2 y3 (by omega)) hL
  · rw [e1, e2] at hkk; exact hkk
  · refine rx_w_set hW hlt e1 e3 eg y2 y3 ?_
    show H'[_]? = _
    rw [y1, x2, rx_arrset (fun j => rfl) rfl]
theorem s_iast (hV : rx_Ok V) {tt : Nat} (ht : (eT V)[tt]? = some .int) (hdg : decode M.2.1 pc = .ok (.iastore, 1)) (hk : rx_OK V M d (pc + 1) f) : rx_OK V M d pc (o_ast tt (fun v => v) rx_isI f) :=
  rx_ast (fun p l e R s m args below meth c H locs ls cells slots Q hC hE h a n z j v rest hv hW h1 h2 kk => by
    obtain ⟨-, x, ex⟩ := rx_isI_v hV hv
    rw [ex] at kk ⊢
    exact W.iast hC.1 hC.2.1 h1 ((rx_ty hE ht).1 n z) (fun q => by cases q) h2 rfl rfl hdg kk) hk
theorem s_last {tt : Nat} (ht : (eT V)[tt]? = some .long) (hdg : decode M.2.1 pc = .ok (.lastore, 1)) (hk : rx_OK V M d (pc + 1) f) : rx_OK V M d pc (o_ast tt (fun v => v) rx_isL f) :=
  rx_ast (fun p l e R s m args below meth c H locs ls cells slots Q hC hE h a n z j v rest hv hW h1 h2 kk => by
    obtain ⟨-, ex⟩ := rx_isL_v (V := V) hv
    rw [ex] at kk ⊢
    exact W.last hC.1 hC.2.1 h1 ((rx_ty hE ht).1 n z) (fun q => by cases q) h2 rfl rfl hdg kk) hk
-- a byte: what is narrow already stays (also what comes from outside by (byte)); else it is narrowed
def rx_isB (c : Nat) : Bool := Nat.beq (c % 8) 0 || (Nat.beq (c % 8) 5 && Nat.beq (c / 8 / 160) 1)
def rx_nb (c : Nat) : Nat := bif Nat.beq (c % 8) 0 then rx_ei (rx_di c).toInt8.toInt32 else c
theorem s_bast {tt : Nat} (ht : (eT V)[tt]? = some .byte) (hdg : decode M.2.1 pc = .ok (.bastore, 1)) (hk : rx_OK V M d (pc + 1) f) : rx_OK V M d pc (o_ast tt rx_nb rx_isB f) :=
  rx_ast (fun p l e R s m args below meth c H locs ls cells slots Q hC hE h a n z j v rest hv hW h1 h2 kk => by
    rcases Bool.or_eq_true_iff.mp hv with q | q
    · have e0 := rx_beq q
      unfold rx_nb at kk
      rw [q, cond_true, rx_v_ei] at kk
      rw [rx_v_0 e0]
      exact W.bast hC.1 hC.2.1 h1 ((rx_ty hE ht).1 n z) (fun q => by cases q) h2 rfl rfl hdg kk
    · obtain ⟨q1, q2⟩ := Bool.and_eq_true_iff.mp q
      have e5 := rx_beq q1
      have e1 := rx_beq q2
      unfold rx_nb at kk
      have e0 : Nat.beq (v % 8) 0 = false := by rw [e5]; rfl
      rw [e0, cond_false, rx_v_5 e5] at kk
      rw [rx_v_5 e5]
      unfold rx_x at kk ⊢
      dsimp only at kk ⊢
      rw [if_neg (by omega), if_pos e1] at kk ⊢
      refine W.bast hC.1 hC.2.1 h1 ((rx_ty hE ht).1 n z) (fun q => by cases q) h2 rfl rfl hdg ?_
      rw [pk_nb]
      exact kk) hk
def rx_isZ (c : Nat) : Bool := Nat.beq c 0 || Nat.beq c 8
theorem s_zast {tt : Nat} (ht : (eT V)[tt]? = some .boolean) (hdg : decode M.2.1 pc = .ok (.bastore, 1)) (hk : rx_OK V M d (pc + 1) f) : rx_OK V M d pc (o_ast tt (fun v => v) rx_isZ f) :=
  rx_ast (fun p l e R s m args below meth c H locs ls cells slots Q hC hE h a n z j v rest hv hW h1 h2 kk => by
    rcases Bool.or_eq_true_iff.mp hv with q | q
    · rw [rx_beq q, rx_v_0 rfl] at kk ⊢
      exact W.zast hC.1 hC.2.1 h1 ((rx_ty hE ht).1 n z) (fun q => by cases q) h2 rfl rfl hdg kk
    · rw [rx_beq q, rx_v_0 rfl] at kk ⊢
      exact W.zast hC.1 hC.2.1 h1 ((rx_ty hE ht).1 n z) (fun q => by cases q) h2 rfl rfl hdg kk) hk
end RX16
end
section
section RX17
variable {V : rx_V} {M : rx_M} {d pc : Nat} {f t : rx_K}
-- arrays are made
noncomputable def o_newa (tt dc : Nat) (k : rx_K) : rx_K := fun lv st h => match st with
  | n :: r => bif Nat.beq (n % 8) 0 && Nat.blt (n / 8) 1000000 then rx_f (n / 8) fun N => rx_hp h (tt + 1, N, N, [[dc]], []) fun h1 => rx_f (8 * h.1 + 2) fun v => k lv (v :: r) h1 else none
  | _ => none
theorem rx_RAp {s : State} {cA cB : ClassId} {ty : FieldType} (hr : ty.isReference = false) (h : va_RA s cA ty) (h2 : s.vm.findClass ("[" ++ ty.toString) = some cB) : cB = cA := by
  cases ty <;> first | exact Option.some.inj (h2.symm.trans h) | cases hr
theorem rx_RAo {s : State} {cA cB : ClassId} {C : String} (h : va_RA s cA (.object C)) (h2 : s.vm.findClass ("[" ++ (FieldType.object C).toString) = some cB) : cB = cA := by
  obtain ⟨-, -, -, -, -, h3⟩ := h
  exact Option.some.inj (h2.symm.trans h3)
theorem s_newa {tt dc : Nat} {atype : ArrayType} {ty : FieldType} (hty : newarray.typeOf atype = ty) (ht : (eT V)[tt]? = some ty) (hr : ty.isReference = false) (hd : rx_dfok ty = true) (hdc : rx_df ty = dc) (hcb : componentBytes ty ≤ 8) (hw : Cond.arrayClass ty ∈ eW V) (hdg : decode M.2.1 pc = .ok (.newarray atype, 2)) (hk : rx_OK V M d (pc + 2) f) : rx_OK V M d pc (o_newa tt dc f) := by
  subst hty
  refine rx_heap fun lv st h r h' hf => ?_
  match st, hf with
  | [], hf => cases hf
  | n :: st, hf =>
  simp only [o_newa, rx_f_eq] at hf
  obtain ⟨hc, hf⟩ := rx_bifn hf
  obtain ⟨hn, hlt⟩ := Bool.and_eq_true_iff.mp hc
  have hlt : n / 8 < 1000000 := Nat.le_of_ble_eq_true hlt
  obtain ⟨h1, hf, e1, e2, e3, eg⟩ := rx_hp_some hf
  dsimp only at e2
  refine ⟨pc + 2, f, lv, _, h1, hk, hf, by omega, by omega, fun p l e R s m args below meth c hC hE n0 z0 hn0 hz0 hR1 hR2 hR3 hR4 H locs ls Q hW hF hL kk => ?_⟩
  have hts := hC.2.2.2.2.2.2.1
  obtain ⟨x1, x2⟩ := rx_in (x := rx_di n) (i := n / 8) (n := n / 8 + 1) rfl (by omega) (by omega)
  rw [List.map_cons, rx_v_0 (rx_beq hn)]
  have hb8 : n / 8 * componentBytes (newarray.typeOf atype) ≤ n / 8 * 8 := Nat.mul_le_mul_left _ hcb
  refine va_newaK hC.1 hC.2.1 (hts _ hw) rfl hdg rfl (fun q => x1 (Or.inl q)) x2 (by omega) (by omega) (by omega) rfl fun H1 cA g1 g2 g3 g4 g5 => ?_
  have hb : eb V ≤ H.size := by rw [hW.1]; omega
  have ecA : cA = eA V tt := rx_RAp hr (rx_ty hE ht).2 g5
  have hk2 := kk H1 locs ls (rx_w_push hW e1 e3 eg g2 g3 ?_) (rx_F_push hF g2 g3 hb) hL
  · rw [List.map_cons, rx_v_2 (by omega), show (8 * h.1 + 2) / 8 = h.1 by omega, ← hW.1, e1, e2, show h.1 + 1 - n0 = h.1 - n0 + 1 by omega, show h.2.1 + n / 8 - z0 = h.2.1 - z0 + n / 8 by omega] at hk2
    exact hk2
  · show H1[eb V + h.1]? = some (arrV (eA V tt) (n / 8) (fun j => rx_v V dc))
    rw [← hW.1, g1, ecA, ← hdc, rx_df_v hd]
theorem s_anewa {tt index : Nat} {C : String} (ht : (eT V)[tt]? = some (.object C)) (hw1 : Cond.classLink M.1 index C ∈ eW V) (hw2 : Cond.arrayOver (.object C) ∈ eW V) (hdg : decode M.2.1 pc = .ok (.anewarray index, 3)) (hk : rx_OK V M d (pc + 3) f) : rx_OK V M d pc (o_newa tt 3 f) := by
  refine rx_heap fun lv st h r h' hf => ?_
  match st, hf with
  | [], hf => cases hf
  | n :: st, hf =>
  simp only [o_newa, rx_f_eq] at hf
  obtain ⟨hc, hf⟩ := rx_bifn hf
  obtain ⟨hn, hlt⟩ := Bool.and_eq_true_iff.mp hc
  have hlt : n / 8 < 1000000 := Nat.le_of_ble_eq_true hlt
  obtain ⟨h1, hf, e1, e2, e3, eg⟩ := rx_hp_some hf
  dsimp only at e2
  refine ⟨pc + 3, f, lv, _, h1, hk, hf, by omega, by omega, fun p l e R s m args below meth c hC hE n0 z0 hn0 hz0 hR1 hR2 hR3 hR4 H locs ls Q hW hF hL kk => ?_⟩
  have hts := hC.2.2.2.2.2.2.1
  obtain ⟨x1, x2⟩ := rx_in (x := rx_di n) (i := n / 8) (n := n / 8 + 1) rfl (by omega) (by omega)
  rw [List.map_cons, rx_v_0 (rx_beq hn)]
  refine W.anew hC.1 hC.2.1 hC.2.2.2.2.2.1 (hts _ hw1) (hts _ hw2) rfl hdg rfl (fun q => x1 (Or.inl q)) (by rw [x2]; omega) (by omega) (by rw [x2]; omega) fun cA kA comp f1 f2 f3 f4 => ?_
  rw [x2]
  generalize hH1 : H.push ({ cls := cA, slots := Array.replicate (n / 8) .null, vm := .none } : Cell) = H1
  have z1 : H1.size = H.size + 1 := by rw [← hH1, Array.size_push]
  have g1 : H1[H.size]? = some (arrV cA (n / 8) (fun _ => .null)) := by rw [← hH1, Array.getElem?_push_size, ← arrV_new]
  have o1 : ∀ q, q < H.size → H1[q]? = H[q]? := fun q hq => by rw [← hH1, Array.getElem?_push, if_neg (Nat.ne_of_lt hq)]
  have hb : eb V ≤ H.size := by rw [hW.1]; omega
  have ecA : cA = eA V tt := rx_RAo (rx_ty hE ht).2 f1
  have hk2 := kk H1 locs ls (rx_w_push hW e1 e3 eg z1 o1 ?_) (rx_F_push hF z1 o1 hb) hL
  · rw [List.map_cons, rx_v_2 (by omega), show (8 * h.1 + 2) / 8 = h.1 by omega, ← hW.1, e1, e2, show h.1 + 1 - n0 = h.1 - n0 + 1 by omega, show h.2.1 + n / 8 - z0 = h.2.1 - z0 + n / 8 by omega] at hk2
    exact hk2
  · show H1[eb V + h.1]? = some (arrV (eA V tt) (n / 8) (fun j => rx_v V 3))
    rw [← hW.1, g1, ecA]
    rfl
-- null and references compared
noncomputable def o_nul (t f : rx_K) : rx_K := fun lv st h => match st with
  | v :: r => bif Nat.beq (v % 8) 3 then t lv r h else bif Nat.beq (v % 8) 2 then f lv r h else none
  | _ => none
theorem s_ifnull {off : Int} {tgt : Nat} (hdg : decode M.2.1 pc = .ok (.ifnull off, 3)) (ht : (pc : Int) + off = (tgt : Int)) (h1 : rx_OK V M d tgt t) (h2 : rx_OK V M d (pc + 3) f) : rx_OK V M d pc (o_nul t f) := by
  refine rx_pure fun lv st h r h' hf => ?_
  match st, hf with
  | [], hf => cases hf
  | v :: st, hf =>
  simp only [o_nul] at hf
  rcases rx_bif hf with ⟨hc, hf⟩ | ⟨-, hf⟩
  · refine ⟨tgt, t, lv, st, h1, hf, fun p l e R s m args below meth c hC hE H locs ls cells slots Q hW hF hL kk => ?_⟩
    rw [List.map_cons, rx_v_3 (rx_beq hc)]
    exact lv_ifnullN hC.1 hC.2.1 hdg ht (kk ls hL)
  · obtain ⟨hc, hf⟩ := rx_bifn hf
    refine ⟨pc + 3, f, lv, st, h2, hf, fun p l e R s m args below meth c hC hE H locs ls cells slots Q hW hF hL kk => ?_⟩
    rw [List.map_cons, rx_v_2 (rx_beq hc)]
    exact lv_ifnull hC.1 hC.2.1 hdg (kk ls hL)
theorem s_ifnonnull {off : Int} {tgt : Nat} (hdg : decode M.2.1 pc = .ok (.ifnonnull off, 3)) (ht : (pc : Int) + off = (tgt : Int)) (h1 : rx_OK V M d tgt t) (h2 : rx_OK V M d (pc + 3) f) : rx_OK V M d pc (o_nul f t) := by
  refine rx_pure fun lv st h r h' hf => ?_
  match st, hf with
  | [], hf => cases hf
  | v :: st, hf =>
  simp only [o_nul] at hf
  rcases rx_bif hf with ⟨hc, hf⟩ | ⟨-, hf⟩
  · refine ⟨pc + 3, f, lv, st, h2, hf, fun p l e R s m args below meth c hC hE H locs ls cells slots Q hW hF hL kk => ?_⟩
    rw [List.map_cons, rx_v_3 (rx_beq hc)]
    exact lv_ifnonnullN hC.1 hC.2.1 hdg (kk ls hL)
  · obtain ⟨hc, hf⟩ := rx_bifn hf
    refine ⟨tgt, t, lv, st, h1, hf, fun p l e R s m args below meth c hC hE H locs ls cells slots Q hW hF hL kk => ?_⟩
    rw [List.map_cons, rx_v_2 (rx_beq hc)]
    exact lv_ifnonnull hC.1 hC.2.1 hdg ht (kk ls hL)
-- are two references one: some b where it is known (ours, null; ours are none from outside; one from outside is itself)
def rx_same (x y : Nat) : Option Bool := bif (Nat.beq (x % 8) 2 || Nat.beq (x % 8) 3) && (Nat.beq (y % 8) 2 || Nat.beq (y % 8) 3) then (bif Nat.beq (x % 8) 3 then some (Nat.beq (y % 8) 3) else bif Nat.beq (y % 8) 3 then some false else some (Nat.beq (x / 8) (y / 8))) else
  bif Nat.beq (x % 8) 4 && (Nat.ble 5 (x / 8) && Nat.beq y x) then some true else
  bif Nat.beq (x % 8) 4 && (Nat.ble 5 (x / 8) && Nat.beq (y % 8) 2) then some false else
  bif Nat.beq (y % 8) 4 && (Nat.ble 5 (y / 8) && Nat.beq (x % 8) 2) then some false else none
theorem rx_same_ok (hV : rx_Ok V) {x y : Nat} {b : Bool} (h : rx_same x y = some b) : ∃ X Y : Option Nat, rx_v V x = va_rf X ∧ rx_v V y = va_rf Y ∧ (b = true ↔ X = Y) := by
  have hx : ∀ z : Nat, z % 8 = 4 → 5 ≤ z / 8 → ∃ Z : Option Nat, rx_v V z = va_rf Z ∧ ∀ q, Z = some q → q < eb V := by
    intro z h1 h2
    rw [rx_v_4 h1]
    rcases hV.2.1 _ h2 with e | ⟨a, l, e⟩
    · exact ⟨none, e, fun q w => by cases w⟩
    · exact ⟨some a, e, fun q w => by cases w; exact l⟩
  have n2 : ∀ z : Nat, z % 8 = 2 → rx_v V z = va_rf (some (eb V + z / 8)) := fun z h => rx_v_2 h
  have n3 : ∀ z : Nat, z % 8 = 3 → rx_v V z = va_rf none := fun z h => rx_v_3 h
  unfold rx_same at h
  rcases rx_bif h with ⟨hc, h⟩ | ⟨-, h⟩
  · obtain ⟨c1, c2⟩ := Bool.and_eq_true_iff.mp hc
    rcases rx_bif h with ⟨d1, h⟩ | ⟨d1, h⟩
    · have e := Option.some.inj h
      rcases Bool.or_eq_true_iff.mp c2 with q | q
      · refine ⟨none, _, n3 x (rx_beq d1), n2 y (rx_beq q), ?_⟩
        rw [← e, rx_beq q]; simp
      · refine ⟨none, none, n3 x (rx_beq d1), n3 y (rx_beq q), ?_⟩
        rw [← e, rx_beq q]; simp
    · have x2 : x % 8 = 2 := by
        rcases Bool.or_eq_true_iff.mp c1 with q | q
        · exact rx_beq q
        · rw [q] at d1; cases d1
      rcases rx_bif h with ⟨d2, h⟩ | ⟨d2, h⟩
      · refine ⟨_, none, n2 x x2, n3 y (rx_beq d2), ?_⟩
        rw [← Option.some.inj h]; simp
      · have y2 : y % 8 = 2 := by
          rcases Bool.or_eq_true_iff.mp c2 with q | q
          · exact rx_beq q
          · rw [q] at d2; cases d2
        refine ⟨_, _, n2 x x2, n2 y y2, ?_⟩
        rw [← Option.some.inj h]
        constructor
        · intro q; rw [rx_beq q]
        · intro q
          have := Option.some.inj q
          have e : x / 8 = y / 8 := by omega
          rw [e]; exact Nat.beq_refl _
  · rcases rx_bif h with ⟨hc, h9⟩ | ⟨-, h⟩
    · obtain ⟨c1, c2⟩ := Bool.and_eq_true_iff.mp hc
      obtain ⟨c2, c3⟩ := Bool.and_eq_true_iff.mp c2
      have e := rx_beq c3
      obtain ⟨Z, z1, -⟩ := hx x (rx_beq c1) (Nat.le_of_ble_eq_true c2)
      refine ⟨Z, Z, z1, by rw [e]; exact z1, ?_⟩
      rw [← Option.some.inj h9]; simp
    · rcases rx_bif h with ⟨hc, h⟩ | ⟨-, h⟩
      · obtain ⟨c1, c2⟩ := Bool.and_eq_true_iff.mp hc
        obtain ⟨c2, c3⟩ := Bool.and_eq_true_iff.mp c2
        obtain ⟨Z, z1, z2⟩ := hx x (rx_beq c1) (Nat.le_of_ble_eq_true c2)
        refine ⟨Z, _, z1, n2 y (rx_beq c3), ?_⟩
        rw [← Option.some.inj h]
        simp only [Bool.false_eq_true, false_iff]
        intro q
        have := z2 _ q
        omega
      · obtain ⟨hc, h⟩ := rx_bifn h
        obtain ⟨c1, c2⟩ := Bool.and_eq_true_iff.mp hc
        obtain ⟨c2, c3⟩ := Bool.and_eq_true_iff.mp c2
        obtain ⟨Z, z1, z2⟩ := hx y (rx_beq c1) (Nat.le_of_ble_eq_true c2)
        refine ⟨_, Z, n2 x (rx_beq c3), z1, ?_⟩
        rw [← Option.some.inj h]
        simp only [Bool.false_eq_true, false_iff]
        intro q
        have := z2 _ q.symm
        omega
noncomputable def o_acmp (t f : rx_K) : rx_K := fun lv st h => match st with
  | y :: x :: r => match rx_same x y with
    | some b => bif b then t lv r h else f lv r h
    | none => none
  | _ => none
theorem s_acmp_eq (hV : rx_Ok V) {off : Int} {tgt : Nat} (hdg : decode M.2.1 pc = .ok (.if_acmp .eq off, 3)) (ht : (pc : Int) + off = (tgt : Int)) (h1 : rx_OK V M d tgt t) (h2 : rx_OK V M d (pc + 3) f) : rx_OK V M d pc (o_acmp t f) := by
  refine rx_pure fun lv st h r h' hf => ?_
  match st, hf with
  | [], hf => cases hf
  | [_], hf => cases hf
  | y :: x :: st, hf =>
  simp only [o_acmp] at hf
  cases q : rx_same x y with
  | none => rw [q] at hf; cases hf
  | some b =>
  rw [q] at hf
  obtain ⟨X, Y, ex, ey, hb⟩ := rx_same_ok hV q
  cases b with
  | true =>
    refine ⟨tgt, t, lv, st, h1, hf, fun p l e R s m args below meth c hC hE H locs ls cells slots Q hW hF hL kk => ?_⟩
    rw [List.map_cons, List.map_cons, ex, ey]
    exact lv_acmp_eq hC.1 hC.2.1 hdg ht (fun _ => kk ls hL) (fun z => absurd (hb.mp rfl) z)
  | false =>
    refine ⟨pc + 3, f, lv, st, h2, hf, fun p l e R s m args below meth c hC hE H locs ls cells slots Q hW hF hL kk => ?_⟩
    rw [List.map_cons, List.map_cons, ex, ey]
    exact lv_acmp_eq hC.1 hC.2.1 hdg ht (fun z => absurd (hb.mpr z) (by decide)) (fun _ => kk ls hL)
theorem s_acmp_ne (hV : rx_Ok V) {off : Int} {tgt : Nat} (hdg : decode M.2.1 pc = .ok (.if_acmp .ne off, 3)) (ht : (pc : Int) + off = (tgt : Int)) (h1 : rx_OK V M d tgt t) (h2 : rx_OK V M d (pc + 3) f) : rx_OK V M d pc (o_acmp f t) := by
  refine rx_pure fun lv st h r h' hf => ?_
  match st, hf with
  | [], hf => cases hf
  | [_], hf => cases hf
  | y :: x :: st, hf =>
  simp only [o_acmp] at hf
  cases q : rx_same x y with
  | none => rw [q] at hf; cases hf
  | some b =>
  rw [q] at hf
  obtain ⟨X, Y, ex, ey, hb⟩ := rx_same_ok hV q
  cases b with
  | true =>
    refine ⟨pc + 3, f, lv, st, h2, hf, fun p l e R s m args below meth c hC hE H locs ls cells slots Q hW hF hL kk => ?_⟩
    rw [List.map_cons, List.map_cons, ex, ey]
    exact lv_acmp_ne hC.1 hC.2.1 hdg ht (fun z => absurd (hb.mp rfl) z) (fun _ => kk ls hL)
  | false =>
    refine ⟨tgt, t, lv, st, h1, hf, fun p l e R s m args below meth c hC hE H locs ls cells slots Q hW hF hL kk => ?_⟩
    rw [List.map_cons, List.map_cons, ex, ey]
    exact lv_acmp_ne hC.1 hC.2.1 hdg ht (fun _ => kk ls hL) (fun z => absurd (hb.mpr z) (by decide))
-- a reference is stored in an array
def rx_isN (c : Nat) : Bool := Nat.beq (c % 8) 3
noncomputable def o_aast (tt : Nat) (cis : List Nat) (k : rx_K) : rx_K := fun lv st h => match st with
  | v :: _ => bif rx_isN v then o_ast tt (fun v => v) rx_isN k lv st h else bif Nat.beq (v % 8) 2 && Nat.blt (v / 8) h.1 then (match rx_hg h (v / 8) with
    | (z, c, _, _, _) => bif Nat.beq z 0 && cis.any (Nat.beq c) then o_ast tt (fun v => v) (fun w => Nat.beq w v) k lv st h else none) else none
  | _ => none
theorem rx_aastN {tt : Nat} {C : String} (ht : (eT V)[tt]? = some (.object C)) (hdg : decode M.2.1 pc = .ok (.aastore, 1)) (hk : rx_OK V M d (pc + 1) f) : rx_OK V M d pc (o_ast tt (fun v => v) rx_isN f) :=
  rx_ast (fun p l e R s m args below meth c H locs ls cells slots Q hC hE h a n z j v rest hv hW h1 h2 kk => by
    rw [rx_v_3 (rx_beq hv)] at kk ⊢
    exact va_WaastN hC.1 hC.2.1 h1 ((rx_ty hE ht).1 n z) (fun q => by cases q) h2 rfl rfl hdg kk) hk
theorem s_aast {tt : Nat} {E : String} {cis : List Nat} (ht : (eT V)[tt]? = some (.object E)) (hcis : ∀ ci ∈ cis, ∃ r, (eC V)[ci]? = some r ∧ (r.1 = E ∨ Cond.castable r.1 E ∈ eW V)) (hdg : decode M.2.1 pc = .ok (.aastore, 1)) (hk : rx_OK V M d (pc + 1) f) : rx_OK V M d pc (o_aast tt cis f) := by
  intro lv st h r h' hf
  match st, hf with
  | [], hf => cases hf
  | v :: st, hf =>
  simp only [o_aast] at hf
  rcases rx_bif hf with ⟨-, hf⟩ | ⟨-, hf⟩
  · exact rx_aastN ht hdg hk lv (v :: st) h r h' hf
  · obtain ⟨hc0, hf0⟩ := rx_bifn hf
    clear hf
    obtain ⟨c1, c2⟩ := Bool.and_eq_true_iff.mp hc0
    have hlt : v / 8 < h.1 := Nat.le_of_ble_eq_true c2
    generalize he : rx_hg h (v / 8) = en at hf0
    obtain ⟨z, ci, nv, fv, uv⟩ := en
    dsimp only at hf0
    obtain ⟨hc1, hf1⟩ := rx_bifn hf0
    clear hf0
    obtain ⟨c3, c4⟩ := Bool.and_eq_true_iff.mp hc1
    rw [rx_beq c3] at he
    obtain ⟨ci', hm, hq⟩ := List.any_eq_true.mp c4
    have hq := rx_beq hq
    rw [← hq] at hm
    obtain ⟨rr, g1, g2⟩ := hcis _ hm
    match st, hf1 with
    | [], hf => cases hf
    | [_], hf => cases hf
    | i :: o :: st, hf2 =>
      simp only [o_ast, rx_f_eq] at hf2
      obtain ⟨hc2, hf3⟩ := rx_bifn hf2
      clear hf2
      obtain ⟨-, hi⟩ := Bool.and_eq_true_iff.mp hc2
      obtain ⟨ho, hlt2, a, n, fs, us, he2, hf4⟩ := rx_ar_some hf3
      clear hf3
      obtain ⟨hc3, hf⟩ := rx_bifn hf4
      clear hf4
      obtain ⟨i1, i2⟩ := Bool.and_eq_true_iff.mp hc3
      have i1 : i / 8 < n := Nat.le_of_ble_eq_true i1
      have i2 : n < 268435456 := Nat.le_of_ble_eq_true i2
      obtain ⟨hh, hf, e1, e2, e3, eg⟩ := rx_hs_some hf
      obtain ⟨m1, m2, kk⟩ := hk lv st hh r h' hf
      refine ⟨by omega, by omega, fun p l e R s m args below meth c hC hE n0 z0 hn0 hz0 hR1 hR2 hR3 hR4 H locs ls hW hF hL => ?_⟩
      have hat := rx_ar_at hW hlt2 he2
      obtain ⟨x1, x2⟩ := rx_in (x := rx_di i) (i := i / 8) (n := n) rfl i1 (by omega)
      rw [List.map_cons, List.map_cons, List.map_cons, rx_v_0 (rx_beq hi), rx_v_2 ho, rx_v_2 (rx_beq c1)]
      have hat1 := hW.2.1 _ hlt
      rw [he] at hat1
      obtain ⟨⟨r0, r1', r2'⟩, cellV, y1, y2, y3, -⟩ := hat1
      have hr0 : r0 = rr := Option.some.inj (r1'.symm.trans g1)
      subst hr0
      have hcls := (hE.1.1 ci r0 r1').2
      obtain ⟨kA, comp, k1, k2, k3, -⟩ := (rx_ty hE ht).2
      obtain ⟨kC, hkC, -⟩ := hcls.2
      have hts := hC.2.2.2.2.2.2.1
      obtain ⟨kcomp, hkcomp, -⟩ := Vm.findClass_spec k3
      have hass : s.vm.assignable cellV.cls comp = true := by
        rw [y2]
        rcases g2 with q | q
        · have hcomp : comp = (eD V).1 ci := by
            rw [q] at hcls
            exact Option.some.inj (k3.symm.trans hcls.1)
          rw [hcomp]
          exact va_assign hcls
        · have hca := hts _ q
          obtain ⟨cc1, cc2, w1, w2, w3⟩ := Cond.castable_spec hca
          have e1 := Option.some.inj (w1.symm.trans hcls.1)
          have e2 := Option.some.inj (w2.symm.trans k3)
          rw [← e1, ← e2]
          exact w3
      refine W.aast hC.1 hC.2.1 hat (fun q h => by cases h) (fun h => by cases h) k1 k2 rfl hkcomp ⟨fun q => x1 (Or.inl q), by rw [arrV_size]; exact Nat.not_le.mp fun q => x1 (Or.inr q)⟩ y1 (fun q h => by rw [y3] at h; cases h) (by rw [y2]; exact hkC) hass rfl rfl hdg fun H1 w1 w2 w3 => ?_
      have hkk := kk p l e R s m args below meth c hC hE n0 z0 (by omega) (by omega) hR1 hR2 hR3 hR4 H1 (locs ++ [⟨eb V + o / 8, (rx_di i).toNatClampNeg⟩]) ls ?_ (rx_F_set hF w2 w3 (by omega)) hL
      · rw [e1, e2] at hkk; exact hkk
      · refine rx_w_set hW hlt2 e1 e3 eg w2 w3 ?_
        show H1[_]? = _
        rw [w1, x2, rx_arrset (V := V) (c := v) (fun j => rfl) (rx_v_2 (rx_beq c1)).symm]
end RX17
end
section
section RX18
variable {V : rx_V} {M : rx_M} {d pc : Nat} {f t : rx_K}
-- ends
noncomputable def o_ret1 (chk : Nat → Bool) : rx_K := fun _ st h => match st with
  | [v] => bif chk v then some (v, h) else none
  | _ => none
noncomputable def o_ret0 : rx_K := fun _ st h => match st with
  | [] => some (7, h)
  | _ => none
theorem rx_r_v {c : Nat} (h : c % 8 ≠ 7) : rx_r V c = some (rx_v V c) := if_neg h
theorem rx_ret1 {chk : Nat → Bool} (row : ∀ (p : Program) (l : Launch) (e : Env) (R : Room) (s : State) (m : MethodId) (args : Array Value) (below : List Frame) (meth : Method) (c : Code) (H : Heap) (locs : List Loc) (ls : Array Slot) (cells slots : Nat) (Qc : Array Value → State → Outcome → State → Prop) (free : Addr → Prop), rx_Cx V M p s m args meth c → ∀ v : Nat, chk v = true → (∀ t : State, t.heap = H → Qc args s (.returned (some (rx_v V v))) t) → (∀ q ∈ locs, free q.base) → W p l e R s m args below meth c H locs cells slots (MQ below Qc args s cells slots free) (F0 m pc ls [rx_v V v])) (h7 : ∀ v : Nat, chk v = true → v % 8 ≠ 7) : rx_OK V M d pc (o_ret1 chk) := by
  intro lv st h r h' hf
  match st, hf with
  | [], hf => cases hf
  | _ :: _ :: _, hf => cases hf
  | [v], hf =>
  simp only [o_ret1] at hf
  obtain ⟨hc, hf⟩ := rx_bifn hf
  have e := Option.some.inj hf
  have e1 : v = r := congrArg Prod.fst e
  have e2 : h = h' := congrArg Prod.snd e
  subst e1; subst e2
  refine ⟨Nat.le_refl _, Nat.le_refl _, fun p l e R s m args below meth c hC hE n0 z0 hn hz hR1 hR2 hR3 hR4 H locs ls hW hF hL => ?_⟩
  exact row p l e R s m args below meth c H locs ls _ _ _ _ hC v hc (fun t ht => ⟨by rw [rx_r_v (h7 v hc)], by rw [ht]; exact hW, fun q hq => by rw [ht]; exact hF.1 q hq⟩) hF.2.1
theorem s_iret (hV : rx_Ok V) (hr : M.2.2.2.1 = some .int) (hdg : decode M.2.1 pc = .ok (.ireturn, 1)) : rx_OK V M d pc (o_ret1 rx_isI) :=
  rx_ret1 (fun p l e R s m args below meth c H locs ls cells slots Qc free hC v hv hq hf => by
    obtain ⟨-, x, ex⟩ := rx_isI_v hV hv
    rw [ex] at hq ⊢
    exact W.iret hC.1 hC.2.1 (hC.2.2.2.1.trans hr) (fun t ht _ => hq t ht) hf hdg hC.2.2.2.2.1) (fun v hv => (rx_isI_v hV hv).1)
theorem s_zret {ty : FieldType} {chk : Nat → Bool} (hchk : ∀ v, chk v = true → v % 8 = 0 ∧ narrow ty (.int (rx_di v)) = .int (rx_di v)) (hr : M.2.2.2.1 = some ty) (hdg : decode M.2.1 pc = .ok (.ireturn, 1)) : rx_OK V M d pc (o_ret1 chk) :=
  rx_ret1 (fun p l e R s m args below meth c H locs ls cells slots Qc free hC v hv hq hf => by
    obtain ⟨h0, hn⟩ := hchk v hv
    rw [rx_v_0 h0] at hq ⊢
    exact W.zret hC.1 hC.2.1 (hC.2.2.2.1.trans hr) hn (fun t ht _ => hq t ht) hf hdg hC.2.2.2.2.1) (fun v hv => by have := (hchk v hv).1; omega)
theorem rx_z_ok : ∀ v, rx_isZ v = true → v % 8 = 0 ∧ narrow .boolean (.int (rx_di v)) = .int (rx_di v) := by
  intro v hv
  rcases Bool.or_eq_true_iff.mp hv with q | q
  · rw [rx_beq q]; exact ⟨rfl, by decide +kernel⟩
  · rw [rx_beq q]; exact ⟨rfl, by decide +kernel⟩
def rx_isC (c : Nat) : Bool := Nat.beq (c % 8) 0 && decide (narrow .char (.int (rx_di c)) = .int (rx_di c))
theorem rx_c_ok : ∀ v, rx_isC v = true → v % 8 = 0 ∧ narrow .char (.int (rx_di v)) = .int (rx_di v) := by
  intro v hv
  obtain ⟨h1, h2⟩ := Bool.and_eq_true_iff.mp hv
  exact ⟨rx_beq h1, of_decide_eq_true h2⟩
def rx_isY (c : Nat) : Bool := Nat.beq (c % 8) 0 && decide (narrow .byte (.int (rx_di c)) = .int (rx_di c))
theorem rx_y_ok : ∀ v, rx_isY v = true → v % 8 = 0 ∧ narrow .byte (.int (rx_di v)) = .int (rx_di v) := by
  intro v hv
  obtain ⟨h1, h2⟩ := Bool.and_eq_true_iff.mp hv
  exact ⟨rx_beq h1, of_decide_eq_true h2⟩
theorem s_lret (hr : M.2.2.2.1 = some .long) (hdg : decode M.2.1 pc = .ok (.lreturn, 1)) : rx_OK V M d pc (o_ret1 rx_isL) :=
  rx_ret1 (fun p l e R s m args below meth c H locs ls cells slots Qc free hC v hv hq hf => by
    obtain ⟨-, ex⟩ := rx_isL_v (V := V) hv
    rw [ex] at hq ⊢
    exact W.lret hC.1 hC.2.1 (hC.2.2.2.1.trans hr) (fun t ht _ => hq t ht) hf hdg hC.2.2.2.2.1) (fun v hv => by have := rx_beq hv; omega)
theorem s_aret (hV : rx_Ok V) {rt : FieldType} (hr : M.2.2.2.1 = some rt) (hrt : (∃ n, rt = .object n) ∨ ∃ t, rt = .array t) (hdg : decode M.2.1 pc = .ok (.areturn, 1)) : rx_OK V M d pc (o_ret1 rx_isR) :=
  rx_ret1 (fun p l e R s m args below meth c H locs ls cells slots Qc free hC v hv hq hf => by
    obtain ⟨-, hx⟩ := rx_isR_v hV hv
    exact W.aret hC.1 hC.2.1 (hC.2.2.2.1.trans hr) hrt hx (fun t ht _ => hq t ht) hf hdg hC.2.2.2.2.1) (fun v hv => (rx_isR_v hV hv).1)
theorem s_vret (hr : M.2.2.2.1 = none) (hdg : decode M.2.1 pc = .ok (.return_, 1)) : rx_OK V M d pc o_ret0 := by
  intro lv st h r h' hf
  match st, hf with
  | _ :: _, hf => cases hf
  | [], hf =>
  have e := Option.some.inj hf
  have e1 : 7 = r := congrArg Prod.fst e
  have e2 : h = h' := congrArg Prod.snd e
  subst e1; subst e2
  refine ⟨Nat.le_refl _, Nat.le_refl _, fun p l e R s m args below meth c hC hE n0 z0 hn hz hR1 hR2 hR3 hR4 H locs ls hW hF hL => ?_⟩
  exact W.vret hC.1 hC.2.1 (hC.2.2.2.1.trans hr) (fun t ht _ => ⟨rfl, by rw [ht]; exact hW, fun q hq => by rw [ht]; exact hF.1 q hq⟩) hF.2.1 hdg hC.2.2.2.2.1
-- a method, by what it does to codes
def rx_Met (V : rx_V) (d : Nat) (y : MethodName) (M : rx_M) (f : List Nat → rx_H → Option (Nat × rx_H)) : Prop :=
  ∀ (As : List Nat) (h : rx_H) (r : Nat) (h' : rx_H), f As h = some (r, h') → h.1 ≤ h'.1 ∧ h.2.1 ≤ h'.2.1 ∧
    ∀ l : Launch, Met l y (.code y M.2.1 M.2.2.1 M.2.2.2.1 :: eW V) { frames := d, cells := h'.1 - h.1, slots := h'.2.1 - h.2.1, locals := 100 * d } (va_Pc (As.map (rx_v V)) (fun U => rx_w V h U.heap ∧ rx_En V U)) (rx_Q V r h') (h'.1 - h.1) (h'.2.1 - h.2.1) (fun q => eb V ≤ q)
def rx_fl (As : List Nat) : List Nat := As.flatMap fun c => bif Nat.beq (c % 8) 1 then [c, 7] else [c]
noncomputable def rx_pad (n : Nat) : List Nat := Nat.rec [] (fun _ ih => 7 :: ih) n
def rx_cs (As : List Nat) : Nat := (As.map rx_ct).sum
noncomputable def rx_ent (nL : Nat) (f : rx_K) : List Nat → rx_H → Option (Nat × rx_H) := fun As h => bif Nat.ble (rx_cs As) nL && Nat.beq (rx_fl As).length (rx_cs As) then f (rx_fl As ++ rx_pad (nL - rx_cs As)) [] h else none
theorem rx_cat_sum (hV : rx_Ok V) (As : List Nat) : ((As.map (rx_v V)).map fun v => v.category).sum = rx_cs As := by
  unfold rx_cs
  rw [List.map_map]
  congr 1
  apply List.map_congr_left
  intro c _
  exact rx_v_cat hV c
theorem rx_sl_len (vs : List Value) : (lg_sl vs).length = (vs.map fun v => v.category).sum := by
  induction vs with
  | nil => rfl
  | cons v vs ih =>
    rw [List.map_cons, List.sum_cons, ← ih]
    show ((if v.category = 2 then [Slot.val v, .second] else [.val v]) ++ lg_sl vs).length = _
    rw [List.length_append]
    rcases lv_cat v with h | h <;> simp [h]
theorem rx_fl_mem (hV : rx_Ok V) : ∀ (As : List Nat) (k i c : Nat), (rx_fl As)[i]? = some c → c % 8 ≠ 7 → (k + i, rx_v V c) ∈ lv_args k (As.map (rx_v V))
  | [], k, i, c, h, _ => by simp [rx_fl] at h
  | a :: As, k, i, c, h, h7 => by
    have hcat := rx_v_cat hV a
    have e : rx_fl (a :: As) = (bif Nat.beq (a % 8) 1 then [a, 7] else [a]) ++ rx_fl As := by simp [rx_fl]
    rw [e] at h
    show (k + i, rx_v V c) ∈ (k, rx_v V a) :: lv_args (if (rx_v V a).category = 2 then k + 2 else k + 1) (As.map (rx_v V))
    rw [hcat]
    unfold rx_ct
    cases hb : Nat.beq (a % 8) 1 with
    | true =>
      rw [hb] at h
      simp only [cond_true] at h ⊢
      match i, h with
      | 0, h => cases h; simp
      | 1, h => cases h; exact absurd rfl h7
      | i + 2, h =>
        refine List.mem_cons_of_mem _ ?_
        rw [show k + (i + 2) = k + 2 + i by omega]
        simp only [if_true]
        exact rx_fl_mem hV As (k + 2) i c h h7
    | false =>
      rw [hb] at h
      simp only [cond_false] at h ⊢
      match i, h with
      | 0, h => cases h; simp
      | i + 1, h =>
        refine List.mem_cons_of_mem _ ?_
        rw [if_neg (by decide), show k + (i + 1) = k + 1 + i by omega]
        exact rx_fl_mem hV As (k + 1) i c h h7
theorem rx_pad_7 : ∀ (n i c : Nat), (rx_pad n)[i]? = some c → c = 7
  | 0, i, c, h => by cases h
  | n + 1, 0, c, h => by cases h; rfl
  | n + 1, i + 1, c, h => rx_pad_7 n i c h
theorem rx_entry (hV : rx_Ok V) {y : MethodName} (hok : rx_OK V M d 0 f) (hpl : plainName y.cls = true) (hown : y.cls = M.1) (hini : M.2.2.2.2 = true → y.name = "<init>") : rx_Met V d y M (rx_ent M.2.2.1 f) := by
  intro As h r h' hf
  obtain ⟨hc, hf⟩ := rx_bifn hf
  obtain ⟨hc1, hc2⟩ := Bool.and_eq_true_iff.mp hc
  have hle : rx_cs As ≤ M.2.2.1 := Nat.le_of_ble_eq_true hc1
  obtain ⟨m1, m2, kk⟩ := hok _ _ h r h' hf
  refine ⟨m1, m2, fun l => ?_⟩
  refine Met.ofW (cc := M.2.1) (maxL := M.2.2.1) (ret := M.2.2.2.1) hpl rfl ?_
  intro p e s m args below meth c s₁ B hml hv
  obtain ⟨rfl, hW, hE⟩ := hv
  have hts := atoms_spec (ws := .code y M.2.1 M.2.2.1 M.2.2.2.1 :: eW V) B.pre
  have hown2 : s.vm.findClass M.1 = some m.cls := by rw [← hown]; exact findClass_of_methodNamed B.named
  have hC : rx_Cx V M p s m (As.map (rx_v V)).toArray meth c := ⟨B.exec, B.bytes, hml, B.returns, B.notSynchronized, hown2, fun w hw => hts w (List.mem_cons_of_mem _ hw), fun hi => (name_of_methodNamed B.named B.method).1.trans (hini hi)⟩
  rw [lg_entry_eq]
  have hlen : (lg_sl (As.map (rx_v V))).length = rx_cs As := (rx_sl_len _).trans (rx_cat_sum hV As)
  have hl := lv_entry (As.map (rx_v V)) (n := M.2.2.1) (by rw [hlen]; exact hle)
  generalize (lg_sl (As.map (rx_v V)) ++ List.replicate (M.2.2.1 - (lg_sl (As.map (rx_v V))).length) Slot.unset).toArray = ls at hl ⊢
  have hL : rx_L V ls M.2.2.1 (rx_fl As ++ rx_pad (M.2.2.1 - rx_cs As)) := by
    refine ⟨hl.1, hl.2.1, fun i c hi h7 => ?_⟩
    by_cases hlt : i < (rx_fl As).length
    · rw [List.getElem?_append_left hlt] at hi
      have := rx_fl_mem hV As 0 i c hi h7
      rw [Nat.zero_add] at this
      exact hl.2.2 _ this
    · rw [List.getElem?_append_right (by omega)] at hi
      have := rx_pad_7 _ _ _ hi
      subst this
      exact absurd rfl h7
  have hF : rx_F V s s.heap [] := ⟨fun q _ => rfl, fun l hl => absurd hl List.not_mem_nil, Nat.le_refl _⟩
  have := kk p l e (headSpec (.code y M.2.1 M.2.2.1 M.2.2.2.1 :: eW V) { frames := d, cells := h'.1 - h.1, slots := h'.2.1 - h.2.1, locals := 100 * d }).room s m _ below meth c hC hE h.1 h.2.1 (Nat.le_refl _) (Nat.le_refl _) (Nat.le_refl _) (Nat.le_refl _) (Nat.le_refl _) (Nat.le_refl _) s.heap [] ls hW hF hL
  rw [Nat.sub_self, Nat.sub_self] at this
  exact this
-- calls
noncomputable def rx_take {β : Type} (n : Nat) (st acc : List Nat) (k : List Nat → List Nat → Option β) : Option β :=
  Nat.rec (motive := fun _ => List Nat → List Nat → Option β) (fun st acc => k acc st) (fun _ ih st acc => match st with
    | v :: r => ih r (v :: acc)
    | [] => none) n st acc
theorem rx_take_some {β : Type} : ∀ (n : Nat) (st acc : List Nat) (k : List Nat → List Nat → Option β) (r : β), rx_take n st acc k = some r → ∃ As rest, st = As.reverse ++ rest ∧ As.length = n ∧ k (As ++ acc) rest = some r
  | 0, st, acc, k, r, h => ⟨[], st, rfl, rfl, h⟩
  | n + 1, [], acc, k, r, h => by cases h
  | n + 1, v :: st, acc, k, r, h => by
    obtain ⟨As, rest, h1, h2, h3⟩ := rx_take_some n st (v :: acc) k r h
    refine ⟨As ++ [v], rest, by rw [h1]; simp, by simp [h2], ?_⟩
    rw [List.append_assoc]; exact h3
noncomputable def rx_go (g : List Nat → rx_H → Option (Nat × rx_H)) (As rest lv : List Nat) (h : rx_H) (k : rx_K) : Option (Nat × rx_H) := bif Nat.ble (rx_cs rest) 8 then (match g As h with
  | some (r, h1) => rx_f r fun r => bif Nat.beq (r % 8) 7 then k lv rest h1 else k lv (r :: rest) h1
  | none => none) else none
theorem rx_go_some {g : List Nat → rx_H → Option (Nat × rx_H)} {As rest lv : List Nat} {h h' : rx_H} {k : rx_K} {r : Nat} (hf : rx_go g As rest lv h k = some (r, h')) : rx_cs rest ≤ 8 ∧ ∃ r1 h1, g As h = some (r1, h1) ∧ ∃ st', k lv st' h1 = some (r, h') ∧ st'.map (rx_v V) = (rx_r V r1).toList ++ rest.map (rx_v V) := by
  unfold rx_go at hf
  obtain ⟨hc, hf⟩ := rx_bifn hf
  refine ⟨Nat.le_of_ble_eq_true hc, ?_⟩
  cases hg : g As h with
  | none => rw [hg] at hf; cases hf
  | some q =>
    obtain ⟨r1, h1⟩ := q
    rw [hg] at hf
    simp only [rx_f_eq] at hf
    refine ⟨r1, h1, rfl, ?_⟩
    rcases rx_bif hf with ⟨h7, hf⟩ | ⟨h7, hf⟩
    · refine ⟨rest, hf, ?_⟩
      unfold rx_r
      rw [if_pos (rx_beq h7)]; rfl
    · refine ⟨r1 :: rest, hf, ?_⟩
      have : ¬ r1 % 8 = 7 := fun q => by rw [q] at h7; cases h7
      rw [rx_r_v this]; rfl
theorem rx_cont {p : Program} {l : Launch} {e : Env} {R : Room} {s : State} {m : MethodId} {args a : Array Value} {below : List Frame} {meth : Method} {c : Code} {H : Heap} {locs : List Loc} {cells slots mc ms : Nat} {Q : State → Prop} {ls : Array Slot} {rest st0 : List Value} {r : Nat} {h h1 : rx_H}
    (hrun : va_Run p l e R s m args below meth c H locs cells slots mc ms (F0 m pc ls st0) rest (rx_Q V r h1 a) (fun q => eb V ≤ q)) (hW : rx_w V h H) (hm : h.1 ≤ h1.1) (hF : rx_F V s H locs)
    (kk : ∀ (H1 : Heap) (locs1 : List Loc), rx_w V h1 H1 → rx_F V s H1 locs1 → W p l e R s m args below meth c H1 locs1 (cells + mc) (slots + ms) Q (F0 m (pc + 3) ls ((rx_r V r).toList ++ rest))) : W p l e R s m args below meth c H locs cells slots Q (F0 m pc ls st0) := by
  intro T hT X
  obtain ⟨v, st₀, t, T', L, h0, X', hL, e1, e2, ⟨hv, hw, hk⟩, st⟩ := hrun T hT X
  have ev : v = rx_r V r := Outcome.returned.inj hv
  have hw2 : rx_w V h1 T'.heap := by rw [e1]; exact hw
  obtain ⟨t2, a1, b1⟩ := kk T'.heap (locs ++ L) hw2 ⟨fun q hq => by rw [e1, hk q hq, h0]; exact hF.1 q hq, fun x hx => by
      rcases List.mem_append.mp hx with z | z
      · exact hF.2.1 x z
      · exact hL x z, by have := hF.2.2; have := hw2.1; have := hW.1; omega⟩ T' rfl X'
  rw [← ev] at a1
  exact ⟨t2, st t2 a1, b1⟩
theorem rx_good (hV : rx_Ok V) {y : MethodName} {cc : ByteArray} {nL : Nat} {ret : Option FieldType} (hc : Cond.code y cc nL ret ∈ eW V) : GoodIn (eW V) (.code y cc nL ret :: eW V) := by
  intro w hw
  rcases List.mem_cons.mp hw with rfl | hw
  · exact ⟨hc, hV.2.2.1 _ hc⟩
  · exact ⟨hw, hV.2.2.1 _ hw⟩
theorem rx_blind {h : rx_H} {As : List Nat} : FrameBlind (va_Pc (As.map (rx_v V)) (fun U => rx_w V h U.heap ∧ rx_En V U) ) ↔ FrameBlind (va_Pc (As.map (rx_v V)) (fun U => rx_w V h U.heap ∧ rx_En V U)) := Iff.rfl
theorem rx_fb (hV : rx_Ok V) {h : rx_H} {As : List Nat} : FrameBlind (va_Pc (As.map (rx_v V)) (fun U => rx_w V h U.heap ∧ rx_En V U)) := by
  intro a U g mk q
  obtain ⟨q1, q2, q3, q4, q5⟩ := q
  exact ⟨q1, q2, va_K.moved (u := U) (U := U.calling g mk a) (Vm.Alike.refl U.vm) q3, hV.2.2.2 U (U.calling g mk a) q4 (Vm.Alike.refl U.vm) q5 (fun _ _ => rfl), q5⟩
theorem rx_preS (hV : rx_Ok V) {s : State} {H : Heap} {locs : List Loc} {h : rx_H} (hE : rx_En V s) (hW : rx_w V h H) (hF : rx_F V s H locs) (As : List Nat) : ∀ U : State, U.heap = H → s.WarmedH U.vm → va_Pc (As.map (rx_v V)) (fun U => rx_w V h U.heap ∧ rx_En V U) (As.map (rx_v V)).toArray U := by
  intro U hU hWm
  refine ⟨rfl, by rw [hU]; exact hW, va_K.moved hWm.alike hE.1, hV.2.2.2 s U hE.2.1 hWm.alike hE.2.2 (fun q hq => by rw [hU]; exact hF.1 q hq), by rw [hU, hW.1]; omega⟩
-- what is said of a method that is called
def rx_Y (V : rx_V) (y : MethodName) (M : rx_M) (n : Nat) : Prop := Cond.code y M.2.1 M.2.2.1 M.2.2.2.1 ∈ eW V ∧ Cond.initialized y.cls ∈ eW V ∧ M.2.2.1 ≤ 80 ∧ (y.cls ≠ "java/lang/invoke/MethodHandle" ∧ y.cls ≠ "java/lang/invoke/VarHandle" ∧ (parseMethodDescriptor y.desc).map (fun d => d.parameters.length) = some n)
noncomputable def o_callS (n : Nat) (g : List Nat → rx_H → Option (Nat × rx_H)) (k : rx_K) : rx_K := fun lv st h => rx_take n st [] fun As rest => rx_go g As rest lv h k
theorem rx_fin {p : Program} {l : Launch} {e : Env} {R : Room} {s : State} {m : MethodId} {args a : Array Value} {below : List Frame} {meth : Method} {c : Code} {H : Heap} {locs : List Loc} {Q : State → Prop} {ls : Array Slot} {st0 rest : List Value} {lv st' : List Nat} {r1 n0 z0 : Nat} {h h1 : rx_H}
    (hrun : va_Run p l e R s m args below meth c H locs (h.1 - n0) (h.2.1 - z0) (h1.1 - h.1) (h1.2.1 - h.2.1) (F0 m pc ls st0) rest (rx_Q V r1 h1 a) (fun q => eb V ≤ q)) (hn : n0 ≤ h.1) (hz : z0 ≤ h.2.1) (i1 : h.1 ≤ h1.1) (i2 : h.2.1 ≤ h1.2.1) (hW : rx_w V h H) (hF : rx_F V s H locs) (hL : rx_L V ls M.2.2.1 lv) (hst : st'.map (rx_v V) = (rx_r V r1).toList ++ rest)
    (kk : ∀ (H1 : Heap) (locs1 : List Loc) (ls' : Array Slot), rx_w V h1 H1 → rx_F V s H1 locs1 → rx_L V ls' M.2.2.1 lv → W p l e R s m args below meth c H1 locs1 (h1.1 - n0) (h1.2.1 - z0) Q (F0 m (pc + 3) ls' (st'.map (rx_v V)))) : W p l e R s m args below meth c H locs (h.1 - n0) (h.2.1 - z0) Q (F0 m pc ls st0) := by
  refine rx_cont hrun hW i1 hF fun H1 locs1 hW1 hF1 => ?_
  have h2 := kk H1 locs1 ls hW1 hF1 hL
  rw [hst] at h2
  rw [show h.1 - n0 + (h1.1 - h.1) = h1.1 - n0 by omega, show h.2.1 - z0 + (h1.2.1 - h.2.1) = h1.2.1 - z0 by omega]
  exact h2
theorem s_callS (hV : rx_Ok V) {dy index n : Nat} {y : MethodName} {My : rx_M} {g : List Nat → rx_H → Option (Nat × rx_H)} (hg : rx_Met V dy y My g) (hd : dy + 1 ≤ d) (hy : rx_Y V y My n) (hst : Cond.static y ∈ eW V) (hln : Cond.methodLink M.1 index y ∈ eW V ∨ ∃ host, Cond.methodLinkNest M.1 index y host ∈ eW V) (hdg : decode M.2.1 pc = .ok (.invokestatic index, 3)) (hk : rx_OK V M d (pc + 3) f) : rx_OK V M d pc (o_callS n g f) := by
  refine rx_heap fun lv st h r h' hf => ?_
  obtain ⟨As, rest, hs, hl, hf⟩ := rx_take_some _ _ _ _ _ hf
  rw [List.append_nil] at hf
  obtain ⟨h8, r1, h1, hgf, st', hf, hst'⟩ := rx_go_some (V := V) hf
  obtain ⟨i1, i2, hMet⟩ := hg As h r1 h1 hgf
  refine ⟨pc + 3, f, lv, st', h1, hk, hf, i1, i2, fun p l e R s m args below meth c hC hE n0 z0 hn0 hz0 hR1 hR2 hR3 hR4 H locs ls Q hW hF hL kk => ?_⟩
  subst hs
  have hts := hC.2.2.2.2.2.2.1
  have hroom : ((rest.map (rx_v V)).map fun v => v.category).sum ≤ 8 := by rw [rx_cat_sum hV]; exact h8
  have hRr : dy + 1 ≤ R.frames ∧ 8 + (My.2.2.1 + 11) + 100 * dy ≤ R.locals := ⟨by omega, by have := hy.2.2.1; omega⟩
  rcases hln with hln | ⟨host, hln⟩
  · refine rx_fin (va_runS (As := As.map (rx_v V)) (rest := rest.map (rx_v V)) ⟨hC.1, hC.2.1, hC.2.2.1, hC.2.2.2.2.2.1, hts⟩ (hMet l) ⟨callB_of n hts (rx_good hV hy.1) rfl rfl rfl (hts _ hy.2.1) (hts _ hln) hy.2.2.2 hRr, hts _ hst⟩ ⟨rx_fb hV, rx_preS hV hE hW hF As⟩ rfl (by rw [List.length_map]; exact hl) hL.1 (by show List.map (rx_v V) (As.reverse ++ rest) = _; rw [List.map_append, List.map_reverse]) (lv_room hroom) hdg ⟨by omega, by omega⟩) hn0 hz0 i1 i2 hW hF hL hst' kk
  · refine rx_fin (va_runSN (As := As.map (rx_v V)) (rest := rest.map (rx_v V)) ⟨hC.1, hC.2.1, hC.2.2.1, hC.2.2.2.2.2.1, hts⟩ (hMet l) ⟨va_cnB n hts (rx_good hV hy.1) rfl rfl rfl (va_Nw.of rfl (hts _ hln)) (hts _ hy.2.1) hy.2.2.2 hRr, hts _ hst, trivial⟩ ⟨rx_fb hV, rx_preS hV hE hW hF As⟩ rfl (by rw [List.length_map]; exact hl) hL.1 (by show List.map (rx_v V) (As.reverse ++ rest) = _; rw [List.map_append, List.map_reverse]) (lv_room hroom) hdg ⟨by omega, by omega⟩) hn0 hz0 i1 i2 hW hF hL hst' kk
end RX18
end
section
section RX19
variable {V : rx_V} {M : rx_M} {d pc : Nat} {f t : rx_K}
-- calls with a receiver
noncomputable def o_callV (n ci : Nat) (g : List Nat → rx_H → Option (Nat × rx_H)) (k : rx_K) : rx_K := fun lv st h => rx_take n st [] fun As rest => match rest with
  | o :: rest => rx_ob h o ci fun _ => rx_go g (o :: As) rest lv h k
  | _ => none
noncomputable def o_callI (n : Nat) (g : List Nat → rx_H → Option (Nat × rx_H)) (k : rx_K) : rx_K := fun lv st h => rx_take n st [] fun As rest => match rest with
  | o :: rest => bif Nat.beq (o % 8) 2 then rx_go g (o :: As) rest lv h k else none
  | _ => none
theorem s_callV (hV : rx_Ok V) {dy index n ci N : Nat} {C : String} {T : u_T} {ty : Nat → FieldType} {y : MethodName} {My : rx_M} {g : List Nat → rx_H → Option (Nat × rx_H)} (hg : rx_Met V dy y My g) (hd : dy + 1 ≤ d) (hy : rx_Y V y My n) (hcl : rx_Cl V ci C T N ty) (hin : Cond.instanceMethod y ∈ eW V) (hse : Cond.selects C y y ∈ eW V) (hln : Cond.methodLink M.1 index y ∈ eW V ∨ ∃ host, Cond.methodLinkNest M.1 index y host ∈ eW V) (hdg : decode M.2.1 pc = .ok (.invokevirtual index, 3)) (hk : rx_OK V M d (pc + 3) f) : rx_OK V M d pc (o_callV n ci g f) := by
  refine rx_heap fun lv st h r h' hf => ?_
  obtain ⟨As, rest0, hs, hl, hf⟩ := rx_take_some _ _ _ _ _ hf
  rw [List.append_nil] at hf
  match rest0, hs, hf with
  | [], _, hf => cases hf
  | o :: rest, hs, hf =>
  obtain ⟨ho, hlt, on, fs, us, he, hf⟩ := rx_ob_some hf
  obtain ⟨h8, r1, h1, hgf, st', hf, hst'⟩ := rx_go_some (V := V) hf
  obtain ⟨i1, i2, hMet⟩ := hg (o :: As) h r1 h1 hgf
  refine ⟨pc + 3, f, lv, st', h1, hk, hf, i1, i2, fun p l e R s m args below meth c hC hE n0 z0 hn0 hz0 hR1 hR2 hR3 hR4 H locs ls Q hW hF hL kk => ?_⟩
  subst hs
  have hts := hC.2.2.2.2.2.2.1
  have hroom : ((rest.map (rx_v V)).map fun v => v.category).sum ≤ 8 := by rw [rx_cat_sum hV]; exact h8
  have hRr : dy + 1 ≤ R.frames ∧ 8 + (My.2.2.1 + 11) + 100 * dy ≤ R.locals := ⟨by omega, by have := hy.2.2.1; omega⟩
  have hpre := rx_preS hV hE hW hF (o :: As)
  rw [List.map_cons, rx_v_2 ho] at hpre
  have hMl := hMet l
  rw [List.map_cons, rx_v_2 ho] at hMl
  have hfb := rx_fb hV (h := h) (As := o :: As)
  rw [List.map_cons, rx_v_2 ho] at hfb
  obtain ⟨-, cell, q1, q2, q3, q4⟩ := rx_ob_at hW hcl hlt he
  obtain ⟨hS, hfc, kC, hkC, hkind⟩ := hE.1.1 ci _ hcl.1
  have hst : (As.reverse ++ o :: rest).map (rx_v V) = (As.map (rx_v V)).reverse ++ .ref (eb V + o / 8) :: rest.map (rx_v V) := by rw [List.map_append, List.map_reverse, List.map_cons, rx_v_2 ho]
  have hPV : PreV s H C (eb V + o / 8) (va_Pc (.ref (eb V + o / 8) :: As.map (rx_v V)) (fun U => rx_w V h U.heap ∧ rx_En V U)) (As.map (rx_v V)) := ⟨hfb, ⟨cell, q1, by rw [q3]; rfl, by rw [q2]; exact hfc⟩, hpre⟩
  rcases hln with hln | ⟨host, hln⟩
  · refine rx_fin (va_runV (As := As.map (rx_v V)) (rest := rest.map (rx_v V)) ⟨hC.1, hC.2.1, hC.2.2.1, hC.2.2.2.2.2.1, hts⟩ hMl ⟨callB_of n hts (rx_good hV hy.1) rfl rfl rfl (hts _ hy.2.1) (hts _ hln) hy.2.2.2 hRr, hts _ hin, hts _ hse⟩ hPV rfl (by rw [List.length_map]; exact hl) hL.1 hst (lv_room hroom) hdg ⟨by omega, by omega⟩) hn0 hz0 i1 i2 hW hF hL hst' kk
  · refine rx_fin (va_runVN (As := As.map (rx_v V)) (rest := rest.map (rx_v V)) ⟨hC.1, hC.2.1, hC.2.2.1, hC.2.2.2.2.2.1, hts⟩ hMl ⟨va_cnB n hts (rx_good hV hy.1) rfl rfl rfl (va_Nw.of rfl (hts _ hln)) (hts _ hy.2.1) hy.2.2.2 hRr, hts _ hin, hts _ hse⟩ hPV rfl (by rw [List.length_map]; exact hl) hL.1 hst (lv_room hroom) hdg ⟨by omega, by omega⟩) hn0 hz0 i1 i2 hW hF hL hst' kk
theorem s_callI (hV : rx_Ok V) {dy index n : Nat} {y : MethodName} {My : rx_M} {g : List Nat → rx_H → Option (Nat × rx_H)} (hg : rx_Met V dy y My g) (hd : dy + 1 ≤ d) (hy : rx_Y V y My n) (hret : My.2.2.2.1 = none) (hnm : y.name = "<init>") (hin : Cond.instanceMethod y ∈ eW V) (hln : Cond.methodLink M.1 index y ∈ eW V ∨ ∃ host, Cond.methodLinkNest M.1 index y host ∈ eW V) (hdg : decode M.2.1 pc = .ok (.invokespecial index, 3)) (hk : rx_OK V M d (pc + 3) f) : rx_OK V M d pc (o_callI n g f) := by
  refine rx_heap fun lv st h r h' hf => ?_
  obtain ⟨As, rest0, hs, hl, hf⟩ := rx_take_some _ _ _ _ _ hf
  rw [List.append_nil] at hf
  match rest0, hs, hf with
  | [], _, hf => cases hf
  | o :: rest, hs, hf =>
  obtain ⟨ho, hf⟩ := rx_bifn hf
  have ho := rx_beq ho
  obtain ⟨h8, r1, h1, hgf, st', hf, hst'⟩ := rx_go_some (V := V) hf
  obtain ⟨i1, i2, hMet⟩ := hg (o :: As) h r1 h1 hgf
  refine ⟨pc + 3, f, lv, st', h1, hk, hf, i1, i2, fun p l e R s m args below meth c hC hE n0 z0 hn0 hz0 hR1 hR2 hR3 hR4 H locs ls Q hW hF hL kk => ?_⟩
  subst hs
  have hts := hC.2.2.2.2.2.2.1
  have hroom : ((rest.map (rx_v V)).map fun v => v.category).sum ≤ 8 := by rw [rx_cat_sum hV]; exact h8
  have hRr : dy + 1 ≤ R.frames ∧ 8 + (My.2.2.1 + 11) + 100 * dy ≤ R.locals := ⟨by omega, by have := hy.2.2.1; omega⟩
  have hpre := rx_preS hV hE hW hF (o :: As)
  rw [List.map_cons, rx_v_2 ho] at hpre
  have hMl := hMet l
  rw [List.map_cons, rx_v_2 ho] at hMl
  rw [hret] at hMl
  have hfb := rx_fb hV (h := h) (As := o :: As)
  rw [List.map_cons, rx_v_2 ho] at hfb
  have hst : (As.reverse ++ o :: rest).map (rx_v V) = (As.map (rx_v V)).reverse ++ .ref (eb V + o / 8) :: rest.map (rx_v V) := by rw [List.map_append, List.map_reverse, List.map_cons, rx_v_2 ho]
  have hcd := hy.1
  rw [hret] at hcd
  rcases hln with hln | ⟨host, hln⟩
  · refine rx_fin (va_runI (As := As.map (rx_v V)) (rest := rest.map (rx_v V)) ⟨hC.1, hC.2.1, hC.2.2.1, hC.2.2.2.2.2.1, hts⟩ hMl ⟨callB_of n hts (rx_good hV hcd) rfl rfl rfl (hts _ hy.2.1) (hts _ hln) hy.2.2.2 hRr, hnm, hts _ hin⟩ ⟨hfb, hpre⟩ rfl (by rw [List.length_map]; exact hl) hL.1 hst (lv_room hroom) hdg ⟨by omega, by omega⟩) hn0 hz0 i1 i2 hW hF hL hst' kk
  · refine rx_fin (va_runIN (As := As.map (rx_v V)) (rest := rest.map (rx_v V)) ⟨hC.1, hC.2.1, hC.2.2.1, hC.2.2.2.2.2.1, hts⟩ hMl ⟨va_cnB n hts (rx_good hV hcd) rfl rfl rfl (va_Nw.of rfl (hts _ hln)) (hts _ hy.2.1) hy.2.2.2 hRr, hnm, hts _ hin⟩ ⟨hfb, hpre⟩ rfl (by rw [List.length_map]; exact hl) hL.1 hst (lv_room hroom) hdg ⟨by omega, by omega⟩) hn0 hz0 i1 i2 hW hF hL hst' kk
-- the constructor of Object
noncomputable def o_obj (k : rx_K) : rx_K := fun lv st h => match st with
  | o :: r => bif Nat.beq (o % 8) 2 && Nat.ble (rx_cs r) 8 then k lv r h else none
  | _ => none
theorem s_obj (hV : rx_Ok V) {index : Nat} (hd : 1 ≤ d) (hln : Cond.methodLink M.1 index Lib.objectInit ∈ eW V) (hin : Cond.instanceMethod Lib.objectInit ∈ eW V) (hc : Cond.code Lib.objectInit ⟨#[0xb1]⟩ 1 none ∈ eW V) (hdg : decode M.2.1 pc = .ok (.invokespecial index, 3)) (hk : rx_OK V M d (pc + 3) f) : rx_OK V M d pc (o_obj f) := by
  intro lv st h r h' hf
  match st, hf with
  | [], hf => cases hf
  | o :: st, hf =>
  simp only [o_obj] at hf
  obtain ⟨hb, hf⟩ := rx_bifn hf
  obtain ⟨ho, h8⟩ := Bool.and_eq_true_iff.mp hb
  have ho := rx_beq ho
  have h8 : rx_cs st ≤ 8 := Nat.le_of_ble_eq_true h8
  obtain ⟨m1, m2, kk⟩ := hk lv st h r h' hf
  refine ⟨m1, m2, fun p l e R s m args below meth c hC hE n0 z0 hn hz hR1 hR2 hR3 hR4 H locs ls hW hF hL => ?_⟩
  have hts := hC.2.2.2.2.2.2.1
  have hroom : ((st.map (rx_v V)).map fun v => v.category).sum ≤ 8 := by rw [rx_cat_sum hV]; exact h8
  rw [List.map_cons, rx_v_2 ho]
  exact W.objInit hC.1 hC.2.1 hC.2.2.2.2.2.1 (hts _ hln) (hts _ hin) (hts _ hc) rfl (hL.1.trans hC.2.2.1.symm) rfl hdg (by omega) (by show 2 * 0 + _ + 12 ≤ _; omega) (kk p l e R s m args below meth c hC hE n0 z0 hn hz hR1 hR2 hR3 hR4 H locs ls hW hF hL)
-- the switches
noncomputable def rx_nth {β : Type} (l : List β) (n : Nat) (dflt : β) : β := List.rec (motive := fun _ => Nat → β) (fun _ => dflt) (fun a _ ih n => Nat.rec (motive := fun _ => β) a (fun m _ => ih m) n) l n
theorem rx_nth_eq {β : Type} (l : List β) (n : Nat) (dflt : β) : rx_nth l n dflt = (l[n]?).getD dflt := by
  induction l generalizing n with
  | nil => rfl
  | cons a l ih =>
    cases n with
    | zero => rfl
    | succ n => exact ih n
end RX19
end
section
section RX20
variable {V : rx_V} {M : rx_M} {d pc : Nat} {f t : rx_K}
-- which step is taken may be seen from the codes
theorem rx_pt (h0 : ∀ (lv st : List Nat) (h : rx_H) (r : Nat × rx_H), f lv st h = some r → ∃ g, rx_OK V M d pc g ∧ g lv st h = some r) : rx_OK V M d pc f := by
  intro lv st h r h' hf
  obtain ⟨g, hg, e⟩ := h0 lv st h _ hf
  exact hg lv st h r h' e
noncomputable def o_none : rx_K := fun _ _ _ => none
theorem s_none : rx_OK V M d pc o_none := fun _ _ _ _ _ hf => by cases hf
noncomputable def o_alt (q : List Nat → rx_H → Bool) (f g : rx_K) : rx_K := fun lv st h => bif q st h then f lv st h else g lv st h
theorem s_alt {q : List Nat → rx_H → Bool} {g : rx_K} (hf : rx_OK V M d pc f) (hg : rx_OK V M d pc g) : rx_OK V M d pc (o_alt q f g) := by
  refine rx_pt fun lv st h r e => ?_
  rcases rx_bif e with ⟨-, e⟩ | ⟨-, e⟩
  · exact ⟨f, hf, e⟩
  · exact ⟨g, hg, e⟩
def rx_qL (st : List Nat) (_ : rx_H) : Bool := match st with
  | v :: _ => Nat.beq (v % 8) 1
  | _ => false
noncomputable def rx_kd (h : rx_H) (o : Nat) : Nat := bif Nat.beq (o % 8) 2 && Nat.blt (o / 8) h.1 then (match rx_hg h (o / 8) with
  | (z, _, _, _, _) => z) else 0
noncomputable def rx_q2 (t : Nat) (st : List Nat) (h : rx_H) : Bool := match st with
  | _ :: o :: _ => Nat.beq (rx_kd h o) (t + 1)
  | _ => false
noncomputable def rx_q3 (t : Nat) (st : List Nat) (h : rx_H) : Bool := match st with
  | _ :: _ :: o :: _ => Nat.beq (rx_kd h o) (t + 1)
  | _ => false
noncomputable def rx_q1 (st : List Nat) (_ : rx_H) : Bool := match st with
  | o :: _ => Nat.beq (o % 8) 4
  | _ => false
noncomputable def o_alens (ts : List Nat) (k : rx_K) : rx_K := fun lv st h => match st with
  | o :: _ => rx_f (rx_kd h o) fun z => bif ts.any (fun t => Nat.beq z (t + 1)) then o_alen (z - 1) k lv st h else none
  | _ => none
theorem s_alens {ts : List Nat} (hts : ∀ t ∈ ts, ∃ ty, (eT V)[t]? = some ty) (hdg : decode M.2.1 pc = .ok (.arraylength, 1)) (hk : rx_OK V M d (pc + 1) f) : rx_OK V M d pc (o_alens ts f) := by
  refine rx_pt fun lv st h r e => ?_
  match st, e with
  | [], e => cases e
  | o :: st, e =>
  simp only [o_alens, rx_f_eq] at e
  obtain ⟨hc, e⟩ := rx_bifn e
  obtain ⟨t, ht, hz⟩ := List.any_eq_true.mp hc
  rw [rx_beq hz] at e
  obtain ⟨ty, h1⟩ := hts t ht
  exact ⟨_, s_alen h1 hdg hk, e⟩
noncomputable def o_aalds (ts : List Nat) (k : rx_K) : rx_K := fun lv st h => match st with
  | _ :: o :: _ => rx_f (rx_kd h o) fun z => bif ts.any (fun t => Nat.beq z (t + 1)) then o_ald (z - 1) k lv st h else none
  | _ => none
theorem s_aalds {ts : List Nat} (hts : ∀ t ∈ ts, ∃ ty, (eT V)[t]? = some ty ∧ ty.isReference = true) (hdg : decode M.2.1 pc = .ok (.aaload, 1)) (hk : rx_OK V M d (pc + 1) f) : rx_OK V M d pc (o_aalds ts f) := by
  refine rx_pt fun lv st h r e => ?_
  match st, e with
  | [], e => cases e
  | [_], e => cases e
  | _ :: o :: st, e =>
  simp only [o_aalds, rx_f_eq] at e
  obtain ⟨hc, e⟩ := rx_bifn e
  obtain ⟨t, ht, hz⟩ := List.any_eq_true.mp hc
  rw [rx_beq hz] at e
  obtain ⟨ty, h1, h2⟩ := hts t ht
  exact ⟨_, s_aald h1 h2 hdg hk, e⟩
-- division
noncomputable def o_bin (g : Int32 → Int32 → Int32) (k : rx_K) : rx_K := fun lv st h => match st with
  | y :: x :: r => bif Nat.beq (y % 8) 0 && (Nat.beq (x % 8) 0 && !decide (rx_di y = 0)) then rx_f (rx_ei (g (rx_di x) (rx_di y))) fun v => k lv (v :: r) h else none
  | _ => none
noncomputable def o_bln (g : Int64 → Int64 → Int64) (k : rx_K) : rx_K := fun lv st h => match st with
  | y :: x :: r => bif Nat.beq (y % 8) 1 && (Nat.beq (x % 8) 1 && !decide (rx_dl y = 0)) then rx_f (rx_el (g (rx_dl x) (rx_dl y))) fun v => k lv (v :: r) h else none
  | _ => none
theorem rx_ne {P : Prop} [Decidable P] (h : (!decide P) = true) : ¬ P := by simpa using h
theorem s_idiv (hdg : decode M.2.1 pc = .ok (.idiv, 1)) (hk : rx_OK V M d (pc + 1) f) : rx_OK V M d pc (o_bin (fun x y => x / y) f) := by
  refine rx_pure fun lv st h r h' hf => ?_
  match st, hf with
  | [], hf => cases hf
  | [_], hf => cases hf
  | y :: x :: st, hf =>
  simp only [o_bin, rx_f_eq] at hf
  obtain ⟨hc, hf⟩ := rx_bifn hf
  obtain ⟨hy, hc⟩ := Bool.and_eq_true_iff.mp hc
  obtain ⟨hx, hne⟩ := Bool.and_eq_true_iff.mp hc
  refine ⟨pc + 1, f, lv, _, hk, hf, fun p l e R s m args below meth c hC hE H locs ls cells slots Q hW hF hL kk => ?_⟩
  have h2 := kk ls hL
  rw [List.map_cons, rx_v_ei] at h2
  rw [List.map_cons, List.map_cons, rx_v_0 (rx_beq hy), rx_v_0 (rx_beq hx)]
  exact lv_idiv hC.1 hC.2.1 hdg (rx_ne hne) h2
theorem s_irem (hdg : decode M.2.1 pc = .ok (.irem, 1)) (hk : rx_OK V M d (pc + 1) f) : rx_OK V M d pc (o_bin (fun x y => x - x / y * y) f) := by
  refine rx_pure fun lv st h r h' hf => ?_
  match st, hf with
  | [], hf => cases hf
  | [_], hf => cases hf
  | y :: x :: st, hf =>
  simp only [o_bin, rx_f_eq] at hf
  obtain ⟨hc, hf⟩ := rx_bifn hf
  obtain ⟨hy, hc⟩ := Bool.and_eq_true_iff.mp hc
  obtain ⟨hx, hne⟩ := Bool.and_eq_true_iff.mp hc
  refine ⟨pc + 1, f, lv, _, hk, hf, fun p l e R s m args below meth c hC hE H locs ls cells slots Q hW hF hL kk => ?_⟩
  have h2 := kk ls hL
  rw [List.map_cons, rx_v_ei] at h2
  rw [List.map_cons, List.map_cons, rx_v_0 (rx_beq hy), rx_v_0 (rx_beq hx)]
  exact lv_irem hC.1 hC.2.1 hdg (rx_ne hne) h2
theorem s_ldiv (hdg : decode M.2.1 pc = .ok (.ldiv, 1)) (hk : rx_OK V M d (pc + 1) f) : rx_OK V M d pc (o_bln (fun x y => x / y) f) := by
  refine rx_pure fun lv st h r h' hf => ?_
  match st, hf with
  | [], hf => cases hf
  | [_], hf => cases hf
  | y :: x :: st, hf =>
  simp only [o_bln, rx_f_eq] at hf
  obtain ⟨hc, hf⟩ := rx_bifn hf
  obtain ⟨hy, hc⟩ := Bool.and_eq_true_iff.mp hc
  obtain ⟨hx, hne⟩ := Bool.and_eq_true_iff.mp hc
  refine ⟨pc + 1, f, lv, _, hk, hf, fun p l e R s m args below meth c hC hE H locs ls cells slots Q hW hF hL kk => ?_⟩
  have h2 := kk ls hL
  rw [List.map_cons, rx_v_el] at h2
  rw [List.map_cons, List.map_cons, rx_v_1 (rx_beq hy), rx_v_1 (rx_beq hx)]
  exact lv_ldiv hC.1 hC.2.1 hdg (rx_ne hne) h2
theorem s_lrem (hdg : decode M.2.1 pc = .ok (.lrem, 1)) (hk : rx_OK V M d (pc + 1) f) : rx_OK V M d pc (o_bln (fun x y => x - x / y * y) f) := by
  refine rx_pure fun lv st h r h' hf => ?_
  match st, hf with
  | [], hf => cases hf
  | [_], hf => cases hf
  | y :: x :: st, hf =>
  simp only [o_bln, rx_f_eq] at hf
  obtain ⟨hc, hf⟩ := rx_bifn hf
  obtain ⟨hy, hc⟩ := Bool.and_eq_true_iff.mp hc
  obtain ⟨hx, hne⟩ := Bool.and_eq_true_iff.mp hc
  refine ⟨pc + 1, f, lv, _, hk, hf, fun p l e R s m args below meth c hC hE H locs ls cells slots Q hW hF hL kk => ?_⟩
  have h2 := kk ls hL
  rw [List.map_cons, rx_v_el] at h2
  rw [List.map_cons, List.map_cons, rx_v_1 (rx_beq hy), rx_v_1 (rx_beq hx)]
  exact lv_lrem hC.1 hC.2.1 hdg (rx_ne hne) h2
-- the switches
noncomputable def o_sw (lo : Nat) (ts : List Nat) (dt : Nat) (j : Nat → rx_K) : rx_K := fun lv st h => match st with
  | v :: r => bif Nat.beq (v % 8) 0 then rx_f (rx_nth ts ((v / 8 + (4294967296 - lo)) % 4294967296) dt) fun b => j b lv r h else none
  | _ => none
theorem rx_di_int (v : Nat) : (rx_di v).toInt = (v / 8 : Int).bmod 4294967296 := by
  unfold rx_di
  rw [Int32.toInt_ofNat']
  rfl
theorem s_sw {lo : Nat} {dt : Nat} {ts : List Nat} {j : Nat → rx_K} {dflt L Hh : Int} {offs : Array Int} {len : Nat} (hdg : decode M.2.1 pc = .ok (.tableswitch dflt L Hh offs, len)) (hlo : L.emod 4294967296 = (lo : Int)) (hL : L + ts.length = Hh + 1) (hrg : -2147483648 ≤ L ∧ Hh < 2147483648) (hd : (pc : Int) + dflt = (dt : Int)) (hts : (offs.toList.map fun o => (pc : Int) + o) = ts.map Int.ofNat) (hj : ∀ b ∈ dt :: ts, rx_OK V M d b (j b)) : rx_OK V M d pc (o_sw lo ts dt j) := by
  refine rx_pure fun lv st h r h' hf => ?_
  match st, hf with
  | [], hf => cases hf
  | v :: st, hf =>
  simp only [o_sw, rx_f_eq, rx_nth_eq] at hf
  obtain ⟨hc, hf⟩ := rx_bifn hf
  have hx := rx_di_int v
  have hlo2 : lo < 4294967296 := by have : 0 ≤ L % 4294967296 ∧ L % 4294967296 < 4294967296 := ⟨Int.emod_nonneg _ (by decide), Int.emod_lt_of_pos _ (by decide)⟩; have h9 : L % 4294967296 = (lo : Int) := hlo; omega
  have hlo3 : L % 4294967296 = (lo : Int) := hlo
  have hb1 : -2147483648 ≤ (rx_di v).toInt ∧ (rx_di v).toInt < 2147483648 := ⟨by have := Int32.le_toInt (rx_di v); omega, by have := Int32.toInt_lt (rx_di v); omega⟩
  have hmod : (rx_di v).toInt % 4294967296 = (v / 8 : Int) % 4294967296 := by rw [hx]; exact Int.bmod_emod
  generalize hi : (v / 8 + (4294967296 - lo)) % 4294967296 = i at hf
  rcases Nat.lt_or_ge i ts.length with q | q
  · have hxi : (rx_di v).toInt = L + i := by omega
    obtain ⟨b, hb⟩ : ∃ b, ts[i]? = some b := ⟨ts[i], List.getElem?_eq_getElem q⟩
    rw [hb] at hf
    have ho : ∃ off, offs[i]? = some off ∧ (pc : Int) + off = (b : Int) := by
      have h1 : (ts.map Int.ofNat)[i]? = some (b : Int) := by rw [List.getElem?_map, hb]; rfl
      rw [← hts, List.getElem?_map] at h1
      rw [← Array.getElem?_toList]
      cases ho : offs.toList[i]? with
      | none => rw [ho] at h1; cases h1
      | some off => rw [ho] at h1; exact ⟨off, rfl, Option.some.inj h1⟩
    obtain ⟨off, ho1, ho2⟩ := ho
    refine ⟨b, j b, lv, st, hj b (List.mem_cons_of_mem _ (List.mem_of_getElem? hb)), hf, fun p l e R s m args below meth c hC hE H locs ls cells slots Q hW hF hL kk => ?_⟩
    rw [List.map_cons, rx_v_0 (rx_beq hc)]
    exact lv_tableIn hC.1 hC.2.1 hdg (by omega) (by omega) (by rw [hxi, show (L + i - L).toNat = i by omega]; exact ho1) ho2 (kk ls hL)
  · rw [List.getElem?_eq_none (by omega)] at hf
    refine ⟨dt, j dt, lv, st, hj dt List.mem_cons_self, hf, fun p l e R s m args below meth c hC hE H locs ls cells slots Q hW hF hL kk => ?_⟩
    rw [List.map_cons, rx_v_0 (rx_beq hc)]
    exact lv_tableOut hC.1 hC.2.1 hdg (by omega) hd (kk ls hL)
end RX20
end
section
section RX21
variable {V : rx_V} {M : rx_M} {d pc : Nat} {f t : rx_K}
-- what lies outside and is never written
theorem rx_S {s : State} {H : Heap} {locs : List Loc} (hF : rx_F V s H locs) : va_S (fun q => eb V ≤ q) s.heap H locs := ⟨hF.2.2, fun q _ h => hF.1 q (Nat.not_le.mp h), hF.2.1⟩
theorem s_gets {c index : Nat} {C n ds ref : String} (hX : ∀ s, eX V s → va_Z C n ds (rx_v V c) (fun q => eb V ≤ q) s s.heap) (hs : ref = C ∨ Cond.sameField ref C n ds ∈ eW V) (hw : Cond.fieldLink M.1 index ref n ds ∈ eW V) (hdg : decode M.2.1 pc = .ok (.getstatic index, 3)) (hk : rx_OK V M d (pc + 3) f) : rx_OK V M d pc (o_const c f) := by
  refine rx_pure fun lv st h r h' hf => ⟨pc + 3, f, lv, _, hk, hf, fun p l e R s m args below meth c hC hE H locs ls cells slots Q hW hF hL kk => ?_⟩
  have hts := hC.2.2.2.2.2.2.1
  refine va_gets hC.1 hC.2.1 (hX s hE.2.1) (rx_S hF) hC.2.2.2.2.2.1 (hts _ hw) (fun x hx => ?_) hdg (kk ls hL)
  rcases hs with rfl | hs
  · exact hx
  · exact u_same (args := args) (hts _ hs) x hx
noncomputable def o_xv (k c : Nat) (g : rx_K) : rx_K := fun lv st h => match st with
  | o :: r => bif Nat.beq o (8 * k + 4) then g lv (c :: r) h else none
  | _ => none
theorem s_xgetf {k c index : Nat} {o n ds ref : String} (hX : ∀ s, eX V s → ∃ q, ex V k = .ref q ∧ va_OF o n ds (rx_v V c) q (fun q => eb V ≤ q) s s.heap) (hs : ref = o ∨ Cond.sameField ref o n ds ∈ eW V) (hw : Cond.fieldLink M.1 index ref n ds ∈ eW V) (hdg : decode M.2.1 pc = .ok (.getfield index, 3)) (hk : rx_OK V M d (pc + 3) f) : rx_OK V M d pc (o_xv k c f) := by
  refine rx_pure fun lv st h r h' hf => ?_
  match st, hf with
  | [], hf => cases hf
  | a :: st, hf =>
  simp only [o_xv] at hf
  obtain ⟨hc, hf⟩ := rx_bifn hf
  have hc := rx_beq hc
  refine ⟨pc + 3, f, lv, _, hk, hf, fun p l e R s m args below meth c hC hE H locs ls cells slots Q hW hF hL kk => ?_⟩
  have hts := hC.2.2.2.2.2.2.1
  obtain ⟨q, e1, e2⟩ := hX s hE.2.1
  rw [List.map_cons, rx_v_4 (by omega), show a / 8 = k by omega, e1]
  refine vk_getf hC.1 hC.2.1 e2 (rx_S hF) hC.2.2.2.2.2.1 (hts _ hw) (fun x hx => ?_) hdg (kk ls hL)
  rcases hs with rfl | hs
  · exact hx
  · exact u_same (args := args) (hts _ hs) x hx
theorem s_xalen {k n : Nat} {ty : FieldType} {g : Nat → Value} (hX : ∀ s, eX V s → ∃ q, ex V k = .ref q ∧ va_T ty q n g (fun q => eb V ≤ q) s s.heap) (hdg : decode M.2.1 pc = .ok (.arraylength, 1)) (hk : rx_OK V M d (pc + 1) f) : rx_OK V M d pc (o_xv k (8 * n) f) := by
  refine rx_pure fun lv st h r h' hf => ?_
  match st, hf with
  | [], hf => cases hf
  | a :: st, hf =>
  simp only [o_xv] at hf
  obtain ⟨hc, hf⟩ := rx_bifn hf
  have hc := rx_beq hc
  refine ⟨pc + 1, f, lv, _, hk, hf, fun p l e R s m args below meth c hC hE H locs ls cells slots Q hW hF hL kk => ?_⟩
  obtain ⟨q, e1, e2⟩ := hX s hE.2.1
  have h2 := kk ls hL
  rw [List.map_cons, rx_v_0 (by omega)] at h2
  rw [List.map_cons, rx_v_4 (by omega), show a / 8 = k by omega, e1]
  refine va_tlen hC.1 hC.2.1 e2 (rx_S hF) ?_ hdg h2
  unfold rx_di
  rw [show 8 * n / 8 = n by omega]
noncomputable def o_xald (k : Nat) (bs : List Nat) (g : rx_K) : rx_K := fun lv st h => match st with
  | i :: o :: r => bif Nat.beq o (8 * k + 4) && (Nat.beq (i % 8) 0 && Nat.blt (i / 8) bs.length) then rx_f (rx_nth bs (i / 8) 7) fun v => g lv (v :: r) h else none
  | _ => none
theorem s_xbald {k : Nat} {bs : List Nat} (hbs : bs.length < 2147483648) (hX : ∀ s, eX V s → ∃ q, ex V k = .ref q ∧ va_T .byte q bs.length (fun j => rx_v V (rx_nth bs j 7)) (fun q => eb V ≤ q) s s.heap) (hdg : decode M.2.1 pc = .ok (.baload, 1)) (hk : rx_OK V M d (pc + 1) f) : rx_OK V M d pc (o_xald k bs f) := by
  refine rx_pure fun lv st h r h' hf => ?_
  match st, hf with
  | [], hf => cases hf
  | [_], hf => cases hf
  | i :: a :: st, hf =>
  simp only [o_xald, rx_f_eq] at hf
  obtain ⟨hc, hf⟩ := rx_bifn hf
  obtain ⟨hc, hi⟩ := Bool.and_eq_true_iff.mp hc
  obtain ⟨hi, hlt⟩ := Bool.and_eq_true_iff.mp hi
  have hc := rx_beq hc
  have hlt : i / 8 < bs.length := Nat.le_of_ble_eq_true hlt
  refine ⟨pc + 1, f, lv, _, hk, hf, fun p l e R s m args below meth c hC hE H locs ls cells slots Q hW hF hL kk => ?_⟩
  obtain ⟨q, e1, e2⟩ := hX s hE.2.1
  obtain ⟨x1, x2⟩ := rx_in (x := rx_di i) (i := i / 8) (n := bs.length) rfl hlt hbs
  rw [List.map_cons, List.map_cons, rx_v_0 (rx_beq hi), rx_v_4 (by omega), show a / 8 = k by omega, e1]
  exact va_tb hC.1 hC.2.1 e2 (rx_S hF) x1 (by rw [x2]) hdg (kk ls hL)
-- constants that are strings
theorem s_ldcS {k index : Nat} {tx : String} (hX : ∀ s, eX V s → ∃ q, ex V k = .ref q ∧ vk_R M.1 index tx q s) (hdg : decode M.2.1 pc = .ok (.ldc index, 2)) (hk : rx_OK V M d (pc + 2) f) : rx_OK V M d pc (o_const (8 * k + 4) f) := by
  refine rx_pure fun lv st h r h' hf => ⟨pc + 2, f, lv, _, hk, hf, fun p l e R s m args below meth c hC hE H locs ls cells slots Q hW hF hL kk => ?_⟩
  obtain ⟨q, e1, e2⟩ := hX s hE.2.1
  have h2 := kk ls hL
  rw [List.map_cons, rx_v_4 (by omega), show (8 * k + 4) / 8 = k by omega, e1] at h2
  exact va_ldcS hC.1 hC.2.1 hC.2.2.2.2.2.1 e2 hdg h2
-- a call whose receiver lies outside
noncomputable def o_callX (n k : Nat) (g : List Nat → rx_H → Option (Nat × rx_H)) (kk : rx_K) : rx_K := fun lv st h => rx_take n st [] fun As rest => match rest with
  | o :: rest => bif Nat.beq o (8 * k + 4) then rx_go g (o :: As) rest lv h kk else none
  | _ => none
theorem s_callX (hV : rx_Ok V) {dy index n k : Nat} {C : String} {y : MethodName} {My : rx_M} {g : List Nat → rx_H → Option (Nat × rx_H)} (hg : rx_Met V dy y My g) (hd : dy + 1 ≤ d) (hy : rx_Y V y My n) (hX : ∀ s, eX V s → ∃ q, ex V k = .ref q ∧ va_O C q (fun q => eb V ≤ q) s s.heap) (hin : Cond.instanceMethod y ∈ eW V) (hse : Cond.selects C y y ∈ eW V) (hln : Cond.methodLink M.1 index y ∈ eW V) (hdg : decode M.2.1 pc = .ok (.invokevirtual index, 3)) (hk : rx_OK V M d (pc + 3) f) : rx_OK V M d pc (o_callX n k g f) := by
  refine rx_heap fun lv st h r h' hf => ?_
  obtain ⟨As, rest0, hs, hl, hf⟩ := rx_take_some _ _ _ _ _ hf
  rw [List.append_nil] at hf
  match rest0, hs, hf with
  | [], _, hf => cases hf
  | o :: rest, hs, hf =>
  obtain ⟨ho, hf⟩ := rx_bifn hf
  have ho := rx_beq ho
  obtain ⟨h8, r1, h1, hgf, st', hf, hst'⟩ := rx_go_some (V := V) hf
  obtain ⟨i1, i2, hMet⟩ := hg (o :: As) h r1 h1 hgf
  refine ⟨pc + 3, f, lv, st', h1, hk, hf, i1, i2, fun p l e R s m args below meth c hC hE n0 z0 hn0 hz0 hR1 hR2 hR3 hR4 H locs ls Q hW hF hL kk => ?_⟩
  subst hs
  have hts := hC.2.2.2.2.2.2.1
  have hroom : ((rest.map (rx_v V)).map fun v => v.category).sum ≤ 8 := by rw [rx_cat_sum hV]; exact h8
  have hRr : dy + 1 ≤ R.frames ∧ 8 + (My.2.2.1 + 11) + 100 * dy ≤ R.locals := ⟨by omega, by have := hy.2.2.1; omega⟩
  obtain ⟨q, e1, cell, q1, q2, q3, q4⟩ := hX s hE.2.1
  have e3 : rx_v V o = .ref q := by rw [rx_v_4 (by omega), show o / 8 = k by omega, e1]
  have hpre := rx_preS hV hE hW hF (o :: As)
  rw [List.map_cons, e3] at hpre
  have hMl := hMet l
  rw [List.map_cons, e3] at hMl
  have hfb := rx_fb hV (h := h) (As := o :: As)
  rw [List.map_cons, e3] at hfb
  have hst : (As.reverse ++ o :: rest).map (rx_v V) = (As.map (rx_v V)).reverse ++ .ref q :: rest.map (rx_v V) := by rw [List.map_append, List.map_reverse, List.map_cons, e3]
  have hPV : PreV s H C q (va_Pc (.ref q :: As.map (rx_v V)) (fun U => rx_w V h U.heap ∧ rx_En V U)) (As.map (rx_v V)) := ⟨hfb, ⟨cell, by rw [hF.1 q (Nat.not_le.mp q4)]; exact q1, q2, q3⟩, hpre⟩
  exact rx_fin (va_runV (As := As.map (rx_v V)) (rest := rest.map (rx_v V)) ⟨hC.1, hC.2.1, hC.2.2.1, hC.2.2.2.2.2.1, hts⟩ hMl ⟨callB_of n hts (rx_good hV hy.1) rfl rfl rfl (hts _ hy.2.1) (hts _ hln) hy.2.2.2 hRr, hts _ hin, hts _ hse⟩ hPV rfl (by rw [List.length_map]; exact hl) hL.1 hst (lv_room hroom) hdg ⟨by omega, by omega⟩) hn0 hz0 i1 i2 hW hF hL hst' kk
-- casts
noncomputable def o_cast (cis : List Nat) (k : rx_K) : rx_K := fun lv st h => match st with
  | v :: r => bif Nat.beq (v % 8) 3 then k lv (v :: r) h else bif Nat.beq (v % 8) 2 && Nat.blt (v / 8) h.1 then (match rx_hg h (v / 8) with
    | (z, c, _, _, _) => bif Nat.beq z 0 && cis.any (Nat.beq c) then k lv (v :: r) h else none) else none
  | _ => none
theorem s_cast {index : Nat} {nm : String} {cis : List Nat} (hcis : ∀ ci ∈ cis, ∃ r, (eC V)[ci]? = some r ∧ (r.1 = nm ∨ Cond.castable r.1 nm ∈ eW V)) (hw : Cond.classLink M.1 index nm ∈ eW V) (hdg : decode M.2.1 pc = .ok (.checkcast index, 3)) (hk : rx_OK V M d (pc + 3) f) : rx_OK V M d pc (o_cast cis f) := by
  refine rx_pure fun lv st h r h' hf => ?_
  match st, hf with
  | [], hf => cases hf
  | v :: st, hf =>
  simp only [o_cast] at hf
  rcases rx_bif hf with ⟨hc, hf⟩ | ⟨-, hf⟩
  · refine ⟨pc + 3, f, lv, _, hk, hf, fun p l e R s m args below meth c hC hE H locs ls cells slots Q hW hF hL kk => ?_⟩
    have h2 := kk ls hL
    rw [List.map_cons, rx_v_3 (rx_beq hc)] at h2 ⊢
    exact lv_castN hC.1 hC.2.1 hdg h2
  · obtain ⟨hc0, hf0⟩ := rx_bifn hf
    clear hf
    obtain ⟨c1, c2⟩ := Bool.and_eq_true_iff.mp hc0
    have hlt : v / 8 < h.1 := Nat.le_of_ble_eq_true c2
    generalize he : rx_hg h (v / 8) = en at hf0
    obtain ⟨z, ci, nv, fv, uv⟩ := en
    dsimp only at hf0
    obtain ⟨hc1, hf1⟩ := rx_bifn hf0
    obtain ⟨hz, hany⟩ := Bool.and_eq_true_iff.mp hc1
    obtain ⟨cj, hcj, hcb⟩ := List.any_eq_true.mp hany
    have hcc : ci = cj := rx_beq hcb
    subst hcc
    rw [rx_beq hz] at he
    obtain ⟨r0, hr0, hr1⟩ := hcis ci hcj
    refine ⟨pc + 3, f, lv, _, hk, hf1, fun p l e R s m args below meth c hC hE H locs ls cells slots Q hW hF hL kk => ?_⟩
    have hts := hC.2.2.2.2.2.2.1
    have h1 := hW.2.1 _ hlt
    rw [he] at h1
    obtain ⟨-, cell, q1, q2, q3, q4⟩ := h1
    obtain ⟨hS, hfc, kC, hkC, hkind⟩ := hE.1.1 ci _ hr0
    have h2 := kk ls hL
    rw [List.map_cons, rx_v_2 (rx_beq c1)] at h2 ⊢
    rcases hr1 with hr1 | hr1
    · rw [hr1] at hfc
      exact va_castS hC.1 hC.2.1 hC.2.2.2.2.2.1 (hts _ hw) ⟨hfc, kC, hkC, hkind⟩ ⟨cell, q1, by rw [q3]; rfl, by rw [q2]; exact hfc⟩ hdg h2
    · exact va_castY hC.1 hC.2.1 hC.2.2.2.2.2.1 (hts _ hw) (va_Nw.of rfl (hts _ hr1)) ⟨cell, q1, by rw [q3]; rfl, by rw [q2]; exact hfc⟩ hdg h2
end RX21
end
section
section RX22
variable {V : rx_V} {M : rx_M} {d pc : Nat} {f t : rx_K}
-- a run of an array is copied into another of its type
noncomputable def rx_cp {β : Type} (chk : Nat → Bool) (da : Nat) (ua : List (Nat × Nat)) (sp dp m : Nat) (us : List (Nat × Nat)) (k : List (Nat × Nat) → Option β) : Option β :=
  Nat.rec (motive := fun _ => List (Nat × Nat) → Option β) (fun us => k us) (fun m ih us => rx_f (rx_lk da ua (sp + m)) fun c => bif chk c then rx_f (dp + m) fun j => ih ((j, c) :: us) else none) m us
theorem rx_cp_some {β : Type} {chk : Nat → Bool} {da db sp dp : Nat} {ua : List (Nat × Nat)} {k : List (Nat × Nat) → Option β} {r : β} : ∀ (m : Nat) (us : List (Nat × Nat)), rx_cp chk da ua sp dp m us k = some r → (∀ i, i < m → chk (rx_lk da ua (sp + i)) = true) ∧ ∃ us', k us' = some r ∧ ∀ j, rx_lk db us' j = if dp ≤ j ∧ j < dp + m then rx_lk da ua (sp + (j - dp)) else rx_lk db us j
  | 0, us, h => ⟨fun i hi => absurd hi (Nat.not_lt_zero _), us, h, fun j => by rw [if_neg (by omega)]⟩
  | m + 1, us, h => by
    have h : (rx_f (rx_lk da ua (sp + m)) fun c => bif chk c then rx_f (dp + m) fun j => rx_cp chk da ua sp dp m ((j, c) :: us) k else none) = some r := h
    simp only [rx_f_eq] at h
    obtain ⟨hc, h⟩ := rx_bifn h
    obtain ⟨h1, us', h2, h3⟩ := rx_cp_some (db := db) m _ h
    refine ⟨fun i hi => ?_, us', h2, fun j => ?_⟩
    · rcases Nat.lt_or_ge i m with q | q
      · exact h1 i q
      · rw [show i = m by omega]; exact hc
    · rw [h3 j, rx_lk_cons]
      by_cases q : dp ≤ j ∧ j < dp + m
      · rw [if_pos q, if_pos ⟨q.1, by omega⟩]
      · rw [if_neg q]
        by_cases e : j = dp + m
        · rw [if_pos e, if_pos ⟨by omega, by omega⟩, show sp + (j - dp) = sp + m by omega]
        · rw [if_neg e, if_neg (by omega)]
noncomputable def o_copy (tt : Nat) (chk : Nat → Bool) (k : rx_K) : rx_K := fun lv st h => match st with
  | n :: dp :: b :: sp :: a :: r => bif Nat.beq (n % 8) 0 && (Nat.beq (dp % 8) 0 && (Nat.beq (sp % 8) 0 && Nat.ble (rx_cs r) 8)) then rx_ar h a tt fun na da ua => rx_ar h b tt fun nb db ub => bif Nat.ble (sp / 8 + n / 8) na && (Nat.ble (dp / 8 + n / 8) nb && (Nat.blt na 268435456 && Nat.blt nb 268435456)) then rx_cp chk da ua (sp / 8) (dp / 8) (n / 8) ub fun us => rx_hs h (b / 8) (tt + 1, nb, nb, [[db]], us) fun h' => k lv r h' else none else none
  | _ => none
theorem s_copy (hV : rx_Ok V) {tt index : Nat} {ty : FieldType} {chk : Nat → Bool} (hchk : rx_chk ty = chk) (hp : refKind ty = false) (hval : ∀ c, chk c = true → (∃ x, rx_v V c = .int x) ∨ ∃ x, rx_v V c = .long x) (ht : (eT V)[tt]? = some ty) (hd : 1 ≤ d) (hlink : Cond.methodLink M.1 index arraycopyName ∈ eW V) (hnat : Cond.native arraycopyName ∈ eW V) (hstat : Cond.static arraycopyName ∈ eW V) (hini : Cond.initialized "java/lang/System" ∈ eW V) (hdg : decode M.2.1 pc = .ok (.invokestatic index, 3)) (hk : rx_OK V M d (pc + 3) f) : rx_OK V M d pc (o_copy tt chk f) := by
  subst hchk
  refine rx_heap fun lv st h r h' hf => ?_
  match st, hf with
  | [], hf => cases hf
  | [_], hf => cases hf
  | [_, _], hf => cases hf
  | [_, _, _], hf => cases hf
  | [_, _, _, _], hf => cases hf
  | n :: dp :: b :: sp :: a :: st, hf =>
  simp only [o_copy] at hf
  obtain ⟨hc, hf⟩ := rx_bifn hf
  obtain ⟨hn, hc⟩ := Bool.and_eq_true_iff.mp hc
  obtain ⟨hdp, hc⟩ := Bool.and_eq_true_iff.mp hc
  obtain ⟨hsp, h8⟩ := Bool.and_eq_true_iff.mp hc
  have h8 : rx_cs st ≤ 8 := Nat.le_of_ble_eq_true h8
  obtain ⟨ha, hla, aa, na, fa, ua, hea, hf⟩ := rx_ar_some hf
  obtain ⟨hb, hlb, ab, nb, fb, ub, heb, hf⟩ := rx_ar_some hf
  obtain ⟨hc, hf⟩ := rx_bifn hf
  obtain ⟨c1, hc⟩ := Bool.and_eq_true_iff.mp hc
  obtain ⟨c2, hc⟩ := Bool.and_eq_true_iff.mp hc
  obtain ⟨c3, c4⟩ := Bool.and_eq_true_iff.mp hc
  have c1 : sp / 8 + n / 8 ≤ na := Nat.le_of_ble_eq_true c1
  have c2 : dp / 8 + n / 8 ≤ nb := Nat.le_of_ble_eq_true c2
  have c3 : na < 268435456 := Nat.le_of_ble_eq_true c3
  have c4 : nb < 268435456 := Nat.le_of_ble_eq_true c4
  obtain ⟨hall, us, hf, hus⟩ := rx_cp_some (db := rx_fg fb 0) _ _ hf
  obtain ⟨h1, hf, e1, e2, e3, eg⟩ := rx_hs_some hf
  refine ⟨pc + 3, f, lv, st, h1, hk, hf, by omega, by omega, fun p l e R s m args below meth c hC hE n0 z0 hn0 hz0 hR1 hR2 hR3 hR4 H locs ls Q hW hF hL kk => ?_⟩
  have hts := hC.2.2.2.2.2.2.1
  have hroom : ((st.map (rx_v V)).map fun v => v.category).sum ≤ 8 := by rw [rx_cat_sum hV]; exact h8
  have hata := rx_ar_at hW hla hea
  have hatb := rx_ar_at hW hlb heb
  have clamp : ∀ z, z / 8 < 268435456 → ¬ rx_di z < 0 ∧ (rx_di z).toNatClampNeg = z / 8 := fun z hz => ⟨nI_pos (n := z / 8) (by omega), nI_clamp (n := z / 8) (by omega)⟩
  obtain ⟨n1, n2⟩ := clamp n (by omega)
  obtain ⟨d1, d2⟩ := clamp dp (by omega)
  obtain ⟨s1, s2⟩ := clamp sp (by omega)
  have nn : ∀ z : Int32, ¬ z < 0 → z.toInt = (z.toNatClampNeg : Int) := by
    intro z hz
    have hz0 : (0 : Int) ≤ z.toInt := by
      have := Int32.not_lt.mp hz
      simpa using Int32.le_iff_toInt_le.mp this
    show z.toInt = ((z.toInt.toNat : Nat) : Int)
    omega
  rw [List.map_cons, List.map_cons, List.map_cons, List.map_cons, List.map_cons, rx_v_0 (rx_beq hn), rx_v_0 (rx_beq hdp), rx_v_0 (rx_beq hsp), rx_v_2 ha, rx_v_2 hb]
  intro T hT X
  obtain ⟨-, k0, hk0, cm0, hkk0⟩ := (rx_ty hE ht).1 na (fun j => rx_v V (rx_lk (rx_fg fa 0) ua j))
  obtain ⟨-, k1, hk1, cm1, hkk1⟩ := (rx_ty hE ht).1 nb (fun j => rx_v V (rx_lk (rx_fg fb 0) ub j))
  have hnw : nativeFrameWords "java/lang/System" "arraycopy" 5 + 11 ≤ 80 := by decide +kernel
  obtain ⟨vm', X', step⟩ := X.arraycopy hC.1 hC.2.2.2.2.2.1 (hts _ hlink) (hts _ hnat) (hts _ hstat) (hts _ hini) (src := eb V + a / 8) (dst := eb V + b / 8) (srcPos := rx_di sp) (destPos := rx_di dp) (n := rx_di n) (by rw [hT]; exact hata) (by rw [hT]; exact hatb)
    (fun _ h => by cases h) (fun _ h => by cases h) (fun h => by cases h) (fun h => by cases h) hk0 hk1 hkk0 hkk1 (by simp [hp]) s1 d1 n1
    (by rw [nn _ s1, nn _ n1, arrV_size, s2, n2]; omega)
    (by rw [nn _ d1, nn _ n1, arrV_size, d2, n2]; omega)
    (fun vm₁ _ i hi => by
      rw [n2] at hi
      have e : (arrV (eA V tt) na (fun j => rx_v V (rx_lk (rx_fg fa 0) ua j))).slots.getD ((rx_di sp).toNatClampNeg + i) .null = rx_v V (rx_lk (rx_fg fa 0) ua (sp / 8 + i)) := by
        rw [Array.getD_eq_getD_getElem?, arrV_read _ _ (by rw [s2]; omega), s2]
        rfl
      rw [e]
      refine ⟨(rx_chk_ok hV (hall i hi)).2, ?_⟩
      rcases hval _ (hall i hi) with ⟨x, q⟩ | ⟨x, q⟩ <;> rw [q] <;> exact trivial)
    (g := F0 m pc ls (.int (rx_di n) :: .int (rx_di dp) :: .ref (eb V + b / 8) :: .int (rx_di sp) :: .ref (eb V + a / 8) :: st.map (rx_v V))) rfl (hL.1.trans hC.2.2.1.symm) (rest := st.map (rx_v V)) rfl (by rw [hC.2.1]; exact hdg) (by omega) (by show 2 * 0 + _ + _ ≤ _; omega)
  have e4 : copied (arrV (eA V tt) na (fun j => rx_v V (rx_lk (rx_fg fa 0) ua j))) (arrV (eA V tt) nb (fun j => rx_v V (rx_lk (rx_fg fb 0) ub j))) (rx_di sp) (rx_di dp) (rx_di n) = arrV (eA V tt) nb (fun j => rx_v V (rx_lk (rx_fg [[rx_fg fb 0]] 0) us j)) := by
    refine (va_copied (fun z => z) (eA V tt) (eA V tt) _ _ (by rw [s2, n2]; exact c1)).trans (congrArg (arrV (eA V tt) nb) (funext fun j => ?_))
    show va_cpy _ _ _ _ _ j = rx_v V (rx_lk (rx_fg fb 0) us j)
    rw [hus j, s2, d2, n2]
    unfold va_cpy
    by_cases q : dp / 8 ≤ j ∧ j < dp / 8 + n / 8
    · rw [if_pos q, if_pos q]
    · rw [if_neg q, if_neg q]
  rw [e4] at X' step
  have hl : eb V + b / 8 < H.size := (Array.getElem?_eq_some_iff.mp hatb).1
  generalize hce : arrV (eA V tt) nb (fun j => rx_v V (rx_lk (rx_fg [[rx_fg fb 0]] 0) us j)) = ce at X' step
  have hheap : ((T.setVm vm').setCell (eb V + b / 8) ce).heap = H.setIfInBounds (eb V + b / 8) ce := by rw [← hT]; rfl
  have oq : ∀ q : Nat, q ≠ eb V + b / 8 → (H.setIfInBounds (eb V + b / 8) ce)[q]? = H[q]? := fun q hq => by simp [Array.getElem?_setIfInBounds, Ne.symm hq]
  have hzz : (H.setIfInBounds (eb V + b / 8) ce).size = H.size := by simp
  have hW1 : rx_w V h1 (H.setIfInBounds (eb V + b / 8) ce) := rx_w_set hW hlb e1 e3 eg hzz oq (by
    show (H.setIfInBounds (eb V + b / 8) ce)[eb V + b / 8]? = some (arrV (eA V tt) nb (fun j => rx_v V (rx_lk (rx_fg [[rx_fg fb 0]] 0) us j)))
    rw [hce]
    simp [Array.getElem?_setIfInBounds, hl])
  have kk2 := kk (H.setIfInBounds (eb V + b / 8) ce) (locs ++ ((arrV (eA V tt) na (fun j => rx_v V (rx_lk (rx_fg fa 0) ua j))).stretch (rx_di sp).toNatClampNeg (rx_di n).toNatClampNeg).zipIdx.map fun q => ⟨eb V + b / 8, (rx_di dp).toNatClampNeg + q.2⟩) ls hW1 ⟨fun q hq => (oq q (by omega)).trans (hF.1 q hq), fun x hx => by
      rcases List.mem_append.mp hx with z | z
      · exact hF.2.1 x z
      · obtain ⟨y, -, hy⟩ := List.mem_map.mp z
        rw [← hy]
        exact Nat.le_add_right _ _, by rw [hzz]; exact hF.2.2⟩ hL
  rw [e1, e2] at kk2
  obtain ⟨t2, a1, b1⟩ := kk2 _ hheap X'
  exact ⟨t2, step t2 a1, b1⟩
end RX22
end
section
section RX23
variable {V : rx_V} {M : rx_M} {d pc : Nat} {f t : rx_K}
-- an array of arrays is made
noncomputable def rx_mu {β : Type} (b m : Nat) (us : List (Nat × Nat)) (k : List (Nat × Nat) → Option β) : Option β :=
  Nat.rec (motive := fun _ => List (Nat × Nat) → Option β) (fun us => k us) (fun m ih us => rx_f (8 * (b + 1 + m) + 2) fun c => ih ((m, c) :: us)) m us
theorem rx_mu_some {β : Type} {b : Nat} {k : List (Nat × Nat) → Option β} {r : β} (dv : Nat) : ∀ (m : Nat) (us : List (Nat × Nat)), rx_mu b m us k = some r → ∃ us', k us' = some r ∧ ∀ j, rx_lk dv us' j = if j < m then 8 * (b + 1 + j) + 2 else rx_lk dv us j
  | 0, us, h => ⟨us, h, fun j => by rw [if_neg (Nat.not_lt_zero _)]⟩
  | m + 1, us, h => by
    have h : (rx_f (8 * (b + 1 + m) + 2) fun c => rx_mu b m ((m, c) :: us) k) = some r := h
    simp only [rx_f_eq] at h
    obtain ⟨us', h2, h3⟩ := rx_mu_some dv m _ h
    refine ⟨us', h2, fun j => ?_⟩
    rw [h3 j, rx_lk_cons]
    by_cases q : j < m
    · rw [if_pos q, if_pos (by omega)]
    · rw [if_neg q]
      by_cases e : j = m
      · rw [if_pos e, if_pos (by omega), e]
      · rw [if_neg e, if_neg (by omega)]
noncomputable def rx_mp {β : Type} (e : rx_E) (m : Nat) (h : rx_H) (k : rx_H → Option β) : Option β :=
  Nat.rec (motive := fun _ => rx_H → Option β) (fun h => k h) (fun _ ih h => rx_hp h e ih) m h
theorem rx_mp_some {β : Type} {e : rx_E} {k : rx_H → Option β} {r : β} : ∀ (m : Nat) (h : rx_H), rx_mp e m h k = some r → ∃ h', k h' = some r ∧ h'.1 = h.1 + m ∧ h'.2.1 = h.2.1 + m * e.2.2.1 ∧ h'.2.2.1 = h.2.2.1 ∧ ∀ j, rx_hg h' j = if h.1 ≤ j ∧ j < h.1 + m then e else rx_hg h j
  | 0, h, hf => ⟨h, hf, rfl, by omega, rfl, fun j => by rw [if_neg (by omega)]⟩
  | m + 1, h, hf => by
    have hf : rx_hp h e (fun h' => rx_mp e m h' k) = some r := hf
    obtain ⟨h1, hf, e1, e2, e3, eg⟩ := rx_hp_some hf
    obtain ⟨h', g0, g1, g2, g3, g4⟩ := rx_mp_some m h1 hf
    refine ⟨h', g0, by omega, by rw [g2, e2, Nat.succ_mul]; omega, g3.trans e3, fun j => ?_⟩
    rw [g4 j, eg j, e1]
    by_cases q : h.1 + 1 ≤ j ∧ j < h.1 + 1 + m
    · rw [if_pos q, if_pos ⟨by omega, by omega⟩]
    · rw [if_neg q]
      by_cases e : j = h.1
      · rw [if_pos e, if_pos ⟨by omega, by omega⟩]
      · rw [if_neg e, if_neg (by omega)]
noncomputable def o_mna (to ti dc : Nat) (k : rx_K) : rx_K := fun lv st h => match st with
  | b :: a :: r => bif Nat.beq (a % 8) 0 && (Nat.beq (b % 8) 0 && (Nat.blt (a / 8) 1000000 && Nat.blt (b / 8) 1000000)) then rx_f (a / 8) fun N => rx_f (b / 8) fun K => rx_f h.1 fun z => rx_mu z N [] fun us => rx_hp h (to + 1, N, N, [[3]], us) fun h1 => rx_mp (ti + 1, K, K, [[dc]], []) N h1 fun h2 => rx_f (8 * z + 2) fun v => k lv (v :: r) h2 else none
  | _ => none
theorem rx_outer (c : ClassId) (N b : Nat) : ∀ i : Nat, Jvm.Free.Multi.outerC c N b i = arrV c N (fun j => if j < i then .ref (b + 1 + j) else .null)
  | 0 => by
    have h := arrV_new c N .null
    refine h.trans (congrArg (arrV c N) (funext fun j => ?_))
    rw [if_neg (Nat.not_lt_zero j)]
  | i + 1 => by
    show (Jvm.Free.Multi.outerC c N b i).setSlot i (.ref (b + 1 + i)) = _
    rw [rx_outer c N b i, arrV_store]
    refine congrArg (arrV c N) (funext fun j => ?_)
    unfold updV
    by_cases h : j = i
    · subst h; simp
    · rw [if_neg h]
      show (if j < i then Value.ref (b + 1 + j) else Value.null) = _
      by_cases q : j < i
      · rw [if_pos q, if_pos (by omega)]
      · rw [if_neg q, if_neg (by omega)]
theorem s_mna {to ti dc index : Nat} {ty : FieldType} (hto : (eT V)[to]? = some (.array ty)) (hti : (eT V)[ti]? = some ty) (hr : ty.isReference = false) (hts0 : (FieldType.array ty).toString = "[" ++ ty.toString) (hd : rx_dfok ty = true) (hdc : rx_df ty = dc) (hcb : componentBytes ty ≤ 8) (hdf : fits ty (defaultValue ty) = true) (hdd : (defaultValue ty).isDefault = true) (hX : ∀ s, eX V s → ∀ args, (Cond.arrayOver (.array ty)).before args s = true) (hw1 : Cond.classLink M.1 index ("[" ++ (FieldType.array ty).toString) ∈ eW V) (hw2 : Cond.arrayClass ty ∈ eW V) (hdg : decode M.2.1 pc = .ok (.multianewarray index 2, 4)) (hk : rx_OK V M d (pc + 4) f) : rx_OK V M d pc (o_mna to ti dc f) := by
  refine rx_heap fun lv st h r h' hf => ?_
  match st, hf with
  | [], hf => cases hf
  | [_], hf => cases hf
  | b :: a :: st, hf =>
  simp only [o_mna, rx_f_eq] at hf
  obtain ⟨hc, hf⟩ := rx_bifn hf
  obtain ⟨ha, hc⟩ := Bool.and_eq_true_iff.mp hc
  obtain ⟨hb, hc⟩ := Bool.and_eq_true_iff.mp hc
  obtain ⟨hN, hK⟩ := Bool.and_eq_true_iff.mp hc
  have hN : a / 8 < 1000000 := Nat.le_of_ble_eq_true hN
  have hK : b / 8 < 1000000 := Nat.le_of_ble_eq_true hK
  obtain ⟨us, hf, hus⟩ := rx_mu_some 3 _ _ hf
  obtain ⟨h1, hf, e1, e2, e3, eg⟩ := rx_hp_some hf
  obtain ⟨h2, hf, g1, g2, g3, gg⟩ := rx_mp_some _ _ hf
  dsimp only at e2 g2
  refine ⟨pc + 4, f, lv, _, h2, hk, hf, by omega, by omega, fun p l e R s m args below meth c hC hE n0 z0 hn0 hz0 hR1 hR2 hR3 hR4 H locs ls Q hW hF hL kk => ?_⟩
  have hts := hC.2.2.2.2.2.2.1
  have clamp : ∀ z, z / 8 < 1000000 → ¬ rx_di z < 0 ∧ (rx_di z).toNatClampNeg = z / 8 := fun z hz => ⟨nI_pos (n := z / 8) (by omega), nI_clamp (n := z / 8) (by omega)⟩
  obtain ⟨a1, a2⟩ := clamp a hN
  obtain ⟨b1, b2⟩ := clamp b hK
  rw [List.map_cons, List.map_cons, rx_v_0 (rx_beq ha), rx_v_0 (rx_beq hb)]
  intro T hT X
  have hb8 : b / 8 * componentBytes ty ≤ b / 8 * 8 := Nat.mul_le_mul_left _ hcb
  obtain ⟨vm₁, cA, comp, -, fA, fC, hO, hI, X', step⟩ := X.multianewarray2F hC.1 hC.2.2.2.2.2.1 (hts _ hw1) (hX s hE.2.1 args) (hts _ hw2) (g := F0 m pc ls (.int (rx_di b) :: .int (rx_di a) :: st.map (rx_v V))) rfl (by rw [hC.2.1]; exact hdg) rfl a1 b1 (by rw [a2]; omega) (by rw [b2]; omega) (by rw [b2]; omega) hdf hdd (by rw [a2]; omega) (by rw [a2, b2]; omega)
  rw [a2, b2] at X' step
  have ecA : cA = eA V to := Option.some.inj (fA.symm.trans (rx_ty hE hto).2)
  have ecB : comp = eA V ti := rx_RAp hr (rx_ty hE hti).2 (by rw [← hts0]; exact fC)
  subst ecA
  subst ecB
  generalize hFF : Jvm.Free.Multi.fill (T.setVm vm₁) (eA V to) (eA V ti) (a / 8) (b / 8) (defaultValue ty) (a / 8) = FF at X' step
  have hTh : (T.setVm vm₁).heap = H := hT
  obtain ⟨f1, f2, -, -⟩ := Jvm.Free.Multi.fill_facts (T.setVm vm₁) (eA V to) (eA V ti) (a / 8) (b / 8) (defaultValue ty) (a / 8)
  rw [hFF, hTh] at f1 f2
  rw [rx_outer] at f2
  have hold : ∀ x : Nat, x < H.size → FF.heap[x]? = H[x]? := fun x hx => by
    have := Jvm.Free.Multi.fill_old (T.setVm vm₁) (eA V to) (eA V ti) (a / 8) (b / 8) (defaultValue ty) (a := x) (by rw [hTh]; exact hx) (a / 8)
    rw [hFF, hTh] at this
    exact this
  have hrow : ∀ j : Nat, j < a / 8 → FF.heap[H.size + 1 + j]? = some (arrV (eA V ti) (b / 8) (fun _ => defaultValue ty)) := fun j hj => by
    have := Jvm.Free.Multi.fill_inner (T.setVm vm₁) (eA V to) (eA V ti) (a / 8) (b / 8) (defaultValue ty) (a / 8) j hj
    rw [hFF, hTh] at this
    rw [this]
    exact congrArg some (arrV_new _ _ _)
  have hbH : eb V ≤ H.size := by rw [hW.1]; omega
  have hW2 : rx_w V h2 FF.heap := by
    refine ⟨by rw [f1, g1, e1, hW.1]; omega, fun i hi => ?_, by rw [g3, e3]; exact hW.2.2⟩
    rw [gg i]
    by_cases q : h1.1 ≤ i ∧ i < h1.1 + a / 8
    · rw [if_pos q]
      show FF.heap[eb V + i]? = some (arrV (eA V ti) (b / 8) (fun j => rx_v V dc))
      have h9 := hrow (i - h1.1) (by omega)
      rw [show H.size + 1 + (i - h1.1) = eb V + i by rw [hW.1]; omega] at h9
      rw [h9, ← hdc, rx_df_v hd]
    · rw [if_neg q, eg i]
      by_cases q2 : i = h.1
      · rw [if_pos q2, q2]
        show FF.heap[eb V + h.1]? = some (arrV (eA V to) (a / 8) (fun j => rx_v V (rx_lk 3 us j)))
        rw [← hW.1, f2]
        refine congrArg some (congrArg (arrV (eA V to) (a / 8)) (funext fun j => ?_))
        rw [hus j]
        by_cases q3 : j < a / 8
        · rw [if_pos q3, if_pos q3, rx_v_2 (by omega), hW.1]
          have e9 : eb V + h.1 + 1 + j = eb V + (8 * (h.1 + 1 + j) + 2) / 8 := by omega
          exact congrArg Value.ref e9
        · rw [if_neg q3, if_neg q3]; rfl
      · rw [if_neg q2]
        exact (hW.2.1 i (by omega)).kept (hold _ (by rw [hW.1]; omega))
  have kk2 := kk FF.heap locs ls hW2 ⟨fun q hq => (hold q (by omega)).trans (hF.1 q hq), hF.2.1, by rw [f1]; have := hF.2.2; omega⟩ hL
  rw [List.map_cons, rx_v_2 (by omega), show (8 * h.1 + 2) / 8 = h.1 by omega, ← hW.1, show h2.1 - n0 = h.1 - n0 + 1 + a / 8 by omega, show h2.2.1 - z0 = h.2.1 - z0 + a / 8 + a / 8 * (b / 8) by omega] at kk2
  obtain ⟨t2, w1, w2⟩ := kk2 FF rfl X'
  rw [← hT] at w1
  exact ⟨t2, step t2 w1, w2⟩
end RX23
end
section
section RX24
variable {V : rx_V} {M : rx_M} {d pc : Nat} {f t : rx_K}
-- the same steps once more, written so that the kernel is quick with them; each is the one that was proved
noncomputable def rx_un {β : Type} (st : List Nat) (k : Nat → List Nat → Option β) : Option β := List.rec (motive := fun _ => Option β) none (fun v r _ => k v r) st
noncomputable def rx_if {β : Type} (b : Bool) (x y : Option β) : Option β := Bool.rec (motive := fun _ => Option β) y x b
theorem rx_if_eq {β : Type} (b : Bool) (x y : Option β) : rx_if b x y = bif b then x else y := by cases b <;> rfl
theorem rx_if_and {β : Type} (a b : Bool) (x y : Option β) : rx_if a (rx_if b x y) y = bif a && b then x else y := by cases a <;> cases b <;> rfl
noncomputable def q_isI (c : Nat) : Bool := Bool.rec (motive := fun _ => Bool) (rx_isI c) true (Nat.beq (Nat.mod c 8) 0)
noncomputable def q_isR (c : Nat) : Bool := Bool.rec (motive := fun _ => Bool) (rx_isR c) true (Nat.beq (Nat.mod c 8) 2)
noncomputable def q_isL (c : Nat) : Bool := Nat.beq (Nat.mod c 8) 1
theorem e_isI : q_isI = rx_isI := by
  funext c
  unfold q_isI
  cases h : Nat.beq (Nat.mod c 8) 0 with
  | false => rfl
  | true => unfold rx_isI; rw [show Nat.beq (c % 8) 0 = true from h]; rfl
theorem e_isR : q_isR = rx_isR := by
  funext c
  unfold q_isR
  cases h : Nat.beq (Nat.mod c 8) 2 with
  | false => rfl
  | true => unfold rx_isR; rw [show Nat.beq (c % 8) 2 = true from h]; rfl
theorem e_isL : q_isL = rx_isL := rfl
noncomputable def q_ld (chk : Nat → Bool) (i : Nat) (k : rx_K) : rx_K := fun lv st h => rx_f (rx_get 7 lv i) fun c => rx_if (chk c) (k lv (c :: st) h) none
theorem e_ld (chk : Nat → Bool) (i : Nat) (k : rx_K) : q_ld chk i k = o_ld chk i k := by
  funext lv st h
  simp only [q_ld, o_ld, rx_if_eq]
noncomputable def q_st1 {β : Type} (lv : List Nat) (i v : Nat) (k : List Nat → Option β) : Option β :=
  rx_set lv i v fun l1 => Nat.rec (motive := fun _ => Option β) (k l1) (fun j _ => rx_if (Nat.beq (Nat.mod (rx_get 7 lv j) 8) 1) (rx_set l1 j 7 k) (k l1)) i
theorem e_st1 {β : Type} (lv : List Nat) (i v : Nat) (k : List Nat → Option β) : q_st1 lv i v k = rx_st1 lv i v k := by
  unfold q_st1 rx_st1
  congr 1
  funext l1
  cases i with
  | zero => rfl
  | succ j => exact rx_if_eq _ _ _
noncomputable def q_st (chk : Nat → Bool) (i : Nat) (k : rx_K) : rx_K := fun lv st h => rx_un st fun v r => rx_if (chk v) (q_st1 lv i v fun lv' => k lv' r h) none
theorem e_st (chk : Nat → Bool) (i : Nat) (k : rx_K) : q_st chk i k = o_st chk i k := by
  funext lv st h
  cases st with
  | nil => rfl
  | cons v r => exact (rx_if_eq _ _ _).trans (by simp only [e_st1, o_st])
-- numbers
theorem rx_di_nat (c : Nat) : (rx_di c).toBitVec.toNat = c / 8 % 4294967296 := by
  unfold rx_di
  simp
theorem rx_add_n {x y : Nat} {a b : Int32} (hx : x % 8 = 0) (hy : y % 8 = 0) (ha : a.toBitVec.toNat = x / 8 % 4294967296) (hb : b.toBitVec.toNat = y / 8 % 4294967296) : rx_ei (a + b) = Nat.mod (Nat.add x y) 34359738368 := by
  show 8 * (a + b).toBitVec.toNat = (x + y) % 34359738368
  rw [Int32.toBitVec_add, BitVec.toNat_add, ha, hb]
  omega
noncomputable def q_inc (i N : Nat) (k : rx_K) : rx_K := fun lv st h => rx_f (rx_get 7 lv i) fun c => rx_if (Nat.beq (Nat.mod c 8) 0) (rx_f (Nat.mod (Nat.add c N) 34359738368) fun v => q_st1 lv i v fun lv' => k lv' st h) none
theorem e_inc {i N : Nat} {n : Int} (hN : N = 8 * (Int32.ofInt n).toBitVec.toNat) (k : rx_K) : q_inc i N k = o_inc i n k := by
  funext lv st h
  simp only [q_inc, o_inc, rx_if_eq, e_st1, rx_f_eq]
  cases hc : Nat.beq (Nat.mod (rx_get 7 lv i) 8) 0 with
  | false => rfl
  | true =>
    rw [cond_true, cond_true]
    have h8 : rx_get 7 lv i % 8 = 0 := rx_beq hc
    have hlt : (Int32.ofInt n).toBitVec.toNat < 4294967296 := (Int32.ofInt n).toBitVec.isLt
    rw [rx_add_n h8 (by omega : N % 8 = 0) (rx_di_nat _) (by omega)]
noncomputable def q_bi (F : Nat → Nat → Nat) (k : rx_K) : rx_K := fun lv st h => rx_un st fun y r1 => rx_un r1 fun x r => rx_if (Nat.beq (Nat.mod y 8) 0) (rx_if (Nat.beq (Nat.mod x 8) 0) (rx_f (F x y) fun v => k lv (v :: r) h) none) none
theorem e_bi {F : Nat → Nat → Nat} {g : Int32 → Int32 → Int32} (hF : ∀ x y : Nat, x % 8 = 0 → y % 8 = 0 → F x y = rx_ei (g (rx_di x) (rx_di y))) (k : rx_K) : q_bi F k = o_bi g k := by
  funext lv st h
  match st with
  | [] => rfl
  | [_] => rfl
  | y :: x :: r =>
    show rx_if (Nat.beq (Nat.mod y 8) 0) (rx_if (Nat.beq (Nat.mod x 8) 0) _ none) none = _
    rw [rx_if_and]
    show (bif Nat.beq (y % 8) 0 && Nat.beq (x % 8) 0 then _ else none) = (bif Nat.beq (y % 8) 0 && Nat.beq (x % 8) 0 then _ else none)
    cases hc : Nat.beq (y % 8) 0 && Nat.beq (x % 8) 0 with
    | false => rfl
    | true =>
      obtain ⟨hy, hx⟩ := Bool.and_eq_true_iff.mp hc
      rw [cond_true, cond_true, hF x y (rx_beq hx) (rx_beq hy)]
noncomputable def q_Fadd (x y : Nat) : Nat := Nat.mod (Nat.add x y) 34359738368
noncomputable def q_Fsub (x y : Nat) : Nat := Nat.mod (Nat.add x (Nat.sub 34359738368 (Nat.mod y 34359738368))) 34359738368
noncomputable def q_Fmul (x y : Nat) : Nat := Nat.mod (Nat.mul x (Nat.div y 8)) 34359738368
theorem e_add (k : rx_K) : q_bi q_Fadd k = o_bi (fun x y => x + y) k := e_bi (fun x y hx hy => (rx_add_n hx hy (rx_di_nat _) (rx_di_nat _)).symm) k
theorem e_sub (k : rx_K) : q_bi q_Fsub k = o_bi (fun x y => x - y) k := e_bi (fun x y hx hy => by
  show (x + (34359738368 - y % 34359738368)) % 34359738368 = 8 * (rx_di x - rx_di y).toBitVec.toNat
  rw [Int32.toBitVec_sub, BitVec.toNat_sub, rx_di_nat, rx_di_nat]
  omega) k
theorem e_mul (k : rx_K) : q_bi q_Fmul k = o_bi (fun x y => x * y) k := e_bi (fun x y hx hy => by
  show (x * (y / 8)) % 34359738368 = 8 * (rx_di x * rx_di y).toBitVec.toNat
  rw [Int32.toBitVec_mul, BitVec.toNat_mul, rx_di_nat, rx_di_nat]
  have h1 : x = 8 * (x / 8) := by omega
  generalize x / 8 = a at h1 ⊢
  generalize y / 8 = b
  subst h1
  show 8 * a * b % 34359738368 = 8 * (a % 4294967296 * (b % 4294967296) % 4294967296)
  rw [← Nat.mul_mod, Nat.mul_assoc, show 34359738368 = 8 * 4294967296 from rfl, Nat.mul_mod_mul_left]) k
-- compares
noncomputable def q_cx (x y : Nat) : Bool := Nat.ble (Nat.succ (Nat.mod (Nat.add x 17179869184) 34359738368)) (Nat.mod (Nat.add y 17179869184) 34359738368)
theorem q_cx_ok {x y : Nat} (hx : x % 8 = 0) (hy : y % 8 = 0) : q_cx x y = decide (rx_di x < rx_di y) := by
  have h1 := rx_di_int x
  have h2 := rx_di_int y
  have key : (rx_di x < rx_di y) ↔ (x + 17179869184) % 34359738368 < (y + 17179869184) % 34359738368 := by
    rw [Int32.lt_iff_toInt_lt, h1, h2, Int.bmod_def, Int.bmod_def]
    have e1 : ((x / 8 : Nat) : Int) % (4294967296 : Nat) = ((x / 8 % 4294967296 : Nat) : Int) := by omega
    have e2 : ((y / 8 : Nat) : Int) % (4294967296 : Nat) = ((y / 8 % 4294967296 : Nat) : Int) := by omega
    have a1 : x / 8 % 4294967296 < 4294967296 := Nat.mod_lt _ (by decide)
    have a2 : y / 8 % 4294967296 < 4294967296 := Nat.mod_lt _ (by decide)
    have b1 : (x + 17179869184) % 34359738368 = 8 * ((x / 8 % 4294967296 + 2147483648) % 4294967296) := by omega
    have b2 : (y + 17179869184) % 34359738368 = 8 * ((y / 8 % 4294967296 + 2147483648) % 4294967296) := by omega
    rw [b1, b2]
    have c1 : ((x : Int) / 8) % 4294967296 = ((x / 8 % 4294967296 : Nat) : Int) := by omega
    have c2 : ((y : Int) / 8) % 4294967296 = ((y / 8 % 4294967296 : Nat) : Int) := by omega
    generalize x / 8 % 4294967296 = a at *
    generalize y / 8 % 4294967296 = b at *
    split <;> split <;> omega
  show Nat.ble ((x + 17179869184) % 34359738368 + 1) ((y + 17179869184) % 34359738368) = _
  rw [decide_eq_decide.mpr key]
  cases q : Nat.ble ((x + 17179869184) % 34359738368 + 1) ((y + 17179869184) % 34359738368) with
  | true => exact (decide_eq_true (Nat.le_of_ble_eq_true q)).symm
  | false => exact (decide_eq_false (fun z => by rw [Nat.ble_eq_true_of_le z] at q; cases q)).symm
theorem q_ce_ok {x y : Nat} (hx : x % 8 = 0) (hy : y % 8 = 0) : Nat.beq (Nat.mod x 34359738368) (Nat.mod y 34359738368) = decide (rx_di x = rx_di y) := by
  have key : (rx_di x = rx_di y) ↔ x % 34359738368 = y % 34359738368 := by
    rw [← Int32.toBitVec_inj, ← BitVec.toNat_inj, rx_di_nat, rx_di_nat]
    omega
  rw [decide_eq_decide.mpr key]
  show Nat.beq (x % 34359738368) (y % 34359738368) = _
  cases q : Nat.beq (x % 34359738368) (y % 34359738368) with
  | true => exact (decide_eq_true (rx_beq q)).symm
  | false => exact (decide_eq_false (fun z => by rw [z] at q; simp at q)).symm
noncomputable def q_two (F : Nat → Nat → Bool) (slow : rx_K) (t f : rx_K) : rx_K := fun lv st h => rx_un st fun y r1 => rx_un r1 fun x r => rx_if (Nat.beq (Nat.mod x 8) 0) (rx_if (Nat.beq (Nat.mod y 8) 0) (rx_if (F x y) (t lv r h) (f lv r h)) (slow lv st h)) (slow lv st h)
noncomputable def q_one (F : Nat → Nat → Bool) (slow : rx_K) (t f : rx_K) : rx_K := fun lv st h => rx_un st fun x r => rx_if (Nat.beq (Nat.mod x 8) 0) (rx_if (F x 0) (t lv r h) (f lv r h)) (slow lv st h)
theorem e_two {F : Nat → Nat → Bool} {q : rx_H → Nat → Nat → Option Bool} (hF : ∀ (h : rx_H) (x y : Nat), x % 8 = 0 → y % 8 = 0 → q h x y = some (F x y)) (t f : rx_K) : q_two F (o_c2 q t f) t f = o_c2 q t f := by
  funext lv st h
  match st with
  | [] => rfl
  | [_] => rfl
  | y :: x :: r =>
    show rx_if (Nat.beq (Nat.mod x 8) 0) (rx_if (Nat.beq (Nat.mod y 8) 0) (rx_if (F x y) (t lv r h) (f lv r h)) (o_c2 q t f lv (y :: x :: r) h)) (o_c2 q t f lv (y :: x :: r) h) = _
    cases hx : Nat.beq (Nat.mod x 8) 0 with
    | false => rfl
    | true =>
      cases hy : Nat.beq (Nat.mod y 8) 0 with
      | false => rfl
      | true =>
        show rx_if (F x y) (t lv r h) (f lv r h) = o_c2 q t f lv (y :: x :: r) h
        simp only [o_c2, hF h x y (rx_beq hx) (rx_beq hy)]
        exact rx_if_eq _ _ _
theorem e_one {F : Nat → Nat → Bool} {q : rx_H → Nat → Nat → Option Bool} (hF : ∀ (h : rx_H) (x y : Nat), x % 8 = 0 → y % 8 = 0 → q h x y = some (F x y)) (t f : rx_K) : q_one F (o_c1 q t f) t f = o_c1 q t f := by
  funext lv st h
  match st with
  | [] => rfl
  | x :: r =>
    show rx_if (Nat.beq (Nat.mod x 8) 0) (rx_if (F x 0) (t lv r h) (f lv r h)) (o_c1 q t f lv (x :: r) h) = _
    cases hx : Nat.beq (Nat.mod x 8) 0 with
    | false => rfl
    | true =>
      show rx_if (F x 0) (t lv r h) (f lv r h) = o_c1 q t f lv (x :: r) h
      simp only [o_c1, hF h x 0 (rx_beq hx) rfl]
      exact rx_if_eq _ _ _
noncomputable def q_Flt (x y : Nat) : Bool := q_cx x y
noncomputable def q_Fgt (x y : Nat) : Bool := q_cx y x
noncomputable def q_Feq (x y : Nat) : Bool := Nat.beq (Nat.mod x 34359738368) (Nat.mod y 34359738368)
theorem q_lt_ok (h : rx_H) (x y : Nat) (hx : x % 8 = 0) (hy : y % 8 = 0) : rx_lt h x y = some (q_Flt x y) := by
  unfold rx_lt q_Flt
  rw [q_cx_ok hx hy, hx, hy]; rfl
theorem q_gt_ok (h : rx_H) (x y : Nat) (hx : x % 8 = 0) (hy : y % 8 = 0) : rx_lt h y x = some (q_Fgt x y) := q_lt_ok h y x hy hx
theorem q_eq_ok (h : rx_H) (x y : Nat) (hx : x % 8 = 0) (hy : y % 8 = 0) : rx_eq h x y = some (q_Feq x y) := by
  unfold rx_eq q_Feq
  rw [q_ce_ok hx hy, hx, hy]; rfl
noncomputable def q_lt2 (t f : rx_K) : rx_K := q_two q_Flt (o_c2 rx_lt t f) t f
noncomputable def q_gt2 (t f : rx_K) : rx_K := q_two q_Fgt (o_c2 (fun h x y => rx_lt h y x) t f) t f
noncomputable def q_eq2 (t f : rx_K) : rx_K := q_two q_Feq (o_c2 rx_eq t f) t f
noncomputable def q_lt1 (t f : rx_K) : rx_K := q_one q_Flt (o_c1 rx_lt t f) t f
noncomputable def q_gt1 (t f : rx_K) : rx_K := q_one q_Fgt (o_c1 (fun h x y => rx_lt h y x) t f) t f
noncomputable def q_eq1 (t f : rx_K) : rx_K := q_one q_Feq (o_c1 rx_eq t f) t f
theorem e_lt2 (t f : rx_K) : q_lt2 t f = o_c2 rx_lt t f := e_two q_lt_ok t f
theorem e_gt2 (t f : rx_K) : q_gt2 t f = o_c2 (fun h x y => rx_lt h y x) t f := e_two q_gt_ok t f
theorem e_eq2 (t f : rx_K) : q_eq2 t f = o_c2 rx_eq t f := e_two q_eq_ok t f
theorem e_lt1 (t f : rx_K) : q_lt1 t f = o_c1 rx_lt t f := e_one q_lt_ok t f
theorem e_gt1 (t f : rx_K) : q_gt1 t f = o_c1 (fun h x y => rx_lt h y x) t f := e_one q_gt_ok t f
theorem e_eq1 (t f : rx_K) : q_eq1 t f = o_c1 rx_eq t f := e_one q_eq_ok t f
-- cells
noncomputable def q_en {β : Type} (e : rx_E) (k : Nat → Nat → Nat → List (List Nat) → List (Nat × Nat) → Option β) : Option β := Prod.rec (motive := fun _ => Option β) (fun z r => Prod.rec (motive := fun _ => Option β) (fun c r => Prod.rec (motive := fun _ => Option β) (fun n r => Prod.rec (motive := fun _ => Option β) (fun fs us => k z c n fs us) r) r) r) e
noncomputable def q_ob {β : Type} (h : rx_H) (o ci : Nat) (k : Nat → List (List Nat) → List (Nat × Nat) → Option β) : Option β := rx_if (Nat.beq (Nat.mod o 8) 2) (rx_if (Nat.ble (Nat.succ (Nat.div o 8)) h.1) (q_en (rx_hg h (Nat.div o 8)) fun z c n fs us => rx_if (Nat.beq z 0) (rx_if (Nat.beq c ci) (k n fs us) none) none) none) none
theorem e_ob {β : Type} (h : rx_H) (o ci : Nat) (k : List (List Nat) → Option β) : q_ob h o ci (fun _ fs _ => k fs) = rx_ob h o ci k := by
  unfold q_ob rx_ob
  rw [rx_if_and]
  show (bif Nat.beq (o % 8) 2 && Nat.blt (o / 8) h.1 then _ else none) = _
  congr 1
  show q_en (rx_hg h (o / 8)) _ = _
  generalize rx_hg h (o / 8) = e
  obtain ⟨z, c, n, fs, us⟩ := e
  exact rx_if_and _ _ _ _
noncomputable def q_getf (ci k0 : Nat) (k : rx_K) : rx_K := fun lv st h => rx_un st fun o r => q_ob h o ci fun _ fs _ => rx_f (rx_fg fs k0) fun v => k lv (v :: r) h
theorem e_getf (ci k0 : Nat) (k : rx_K) : q_getf ci k0 k = o_getf ci k0 k := by
  funext lv st h
  cases st with
  | nil => rfl
  | cons o r => exact e_ob h o ci _
noncomputable def q_putf (chk : Nat → Bool) (ci k0 : Nat) (k : rx_K) : rx_K := fun lv st h => rx_un st fun v r1 => rx_un r1 fun o r => rx_if (chk v) (q_ob h o ci fun n fs us => rx_fs fs k0 v fun fs' => rx_hs h (Nat.div o 8) (0, ci, n, fs', us) fun h' => k lv r h') none
theorem e_putf (chk : Nat → Bool) (ci k0 : Nat) (k : rx_K) : q_putf chk ci k0 k = o_putf chk ci k0 k := by
  funext lv st h
  match st with
  | [] => rfl
  | [_] => rfl
  | v :: o :: r =>
    show rx_if (chk v) _ none = (bif chk v then _ else none)
    rw [rx_if_eq]
    congr 1
    unfold q_ob rx_ob
    rw [rx_if_and]
    show (bif Nat.beq (o % 8) 2 && Nat.blt (o / 8) h.1 then _ else none) = _
    congr 1
    show q_en (rx_hg h (o / 8)) _ = _
    generalize rx_hg h (o / 8) = e
    obtain ⟨z, c, n, fs, us⟩ := e
    refine (rx_if_and _ _ _ _).trans ?_
    show (bif Nat.beq z 0 && Nat.beq c ci then _ else none) = (bif Nat.beq z 0 && Nat.beq c ci then _ else none)
    cases hc : Nat.beq z 0 && Nat.beq c ci with
    | false => rfl
    | true =>
      obtain ⟨h1, h2⟩ := Bool.and_eq_true_iff.mp hc
      rw [rx_beq h1, rx_beq h2]
      rfl
noncomputable def q_ar {β : Type} (h : rx_H) (o tt : Nat) (k : Nat → Nat → List (Nat × Nat) → Option β) : Option β := rx_if (Nat.beq (Nat.mod o 8) 2) (rx_if (Nat.ble (Nat.succ (Nat.div o 8)) h.1) (q_en (rx_hg h (Nat.div o 8)) fun z _ n fs us => rx_if (Nat.beq z (Nat.succ tt)) (k n (rx_fg fs 0) us) none) none) none
theorem e_ar {β : Type} (h : rx_H) (o tt : Nat) (k : Nat → Nat → List (Nat × Nat) → Option β) : q_ar h o tt k = rx_ar h o tt k := by
  unfold q_ar rx_ar
  rw [rx_if_and]
  show (bif Nat.beq (o % 8) 2 && Nat.blt (o / 8) h.1 then _ else none) = _
  congr 1
  show q_en (rx_hg h (o / 8)) _ = _
  generalize rx_hg h (o / 8) = e
  obtain ⟨z, c, n, fs, us⟩ := e
  exact rx_if_eq _ _ _
noncomputable def q_ald (tt : Nat) (k : rx_K) : rx_K := fun lv st h => rx_un st fun i r1 => rx_un r1 fun o r => rx_if (Nat.beq (Nat.mod i 8) 0) (q_ar h o tt fun n dv us => rx_if (Nat.ble (Nat.succ (Nat.div i 8)) n) (rx_if (Nat.ble (Nat.succ n) 268435456) (rx_f (rx_lk dv us (Nat.div i 8)) fun v => k lv (v :: r) h) none) none) none
theorem e_ald (tt : Nat) (k : rx_K) : q_ald tt k = o_ald tt k := by
  funext lv st h
  match st with
  | [] => rfl
  | [_] => rfl
  | i :: o :: r =>
    show rx_if (Nat.beq (i % 8) 0) _ none = (bif Nat.beq (i % 8) 0 then _ else none)
    rw [rx_if_eq, e_ar]
    congr 1
    show rx_ar h o tt _ = rx_ar h o tt _
    congr 1
    funext n dv us
    exact rx_if_and _ _ _ _
noncomputable def q_ast (tt : Nat) (g : Nat → Nat) (chk : Nat → Bool) (k : rx_K) : rx_K := fun lv st h => rx_un st fun v r1 => rx_un r1 fun i r2 => rx_un r2 fun o r => rx_if (chk v) (rx_if (Nat.beq (Nat.mod i 8) 0) (q_ar h o tt fun n dv us => rx_if (Nat.ble (Nat.succ (Nat.div i 8)) n) (rx_if (Nat.ble (Nat.succ n) 268435456) (rx_f (Nat.div i 8) fun j => rx_f (g v) fun v' => rx_hs h (Nat.div o 8) (Nat.succ tt, n, n, [[dv]], (j, v') :: us) fun h' => k lv r h') none) none) none) none
theorem e_ast (tt : Nat) (g : Nat → Nat) (chk : Nat → Bool) (k : rx_K) : q_ast tt g chk k = o_ast tt g chk k := by
  funext lv st h
  match st with
  | [] => rfl
  | [_] => rfl
  | [_, _] => rfl
  | v :: i :: o :: r =>
    refine (rx_if_and (chk v) (Nat.beq (i % 8) 0) _ none).trans ?_
    show (bif chk v && Nat.beq (i % 8) 0 then _ else none) = (bif chk v && Nat.beq (i % 8) 0 then _ else none)
    congr 1
    rw [e_ar]
    show rx_ar h o tt _ = rx_ar h o tt _
    congr 1
    funext n dv us
    exact rx_if_and _ _ _ _
noncomputable def q_new (ci n : Nat) (fs : List (List Nat)) (k : rx_K) : rx_K := fun lv st h => rx_hp h (0, ci, n, fs, []) fun h1 => rx_f (Nat.add (Nat.mul 8 h.1) 2) fun v => k lv (v :: st) h1
theorem e_new (ci n : Nat) (fs : List (List Nat)) (k : rx_K) : q_new ci n fs k = o_new ci n fs k := rfl
noncomputable def q_newa (tt dc : Nat) (k : rx_K) : rx_K := fun lv st h => rx_un st fun n r => rx_if (Nat.beq (Nat.mod n 8) 0) (rx_if (Nat.ble (Nat.succ (Nat.div n 8)) 1000000) (rx_f (Nat.div n 8) fun N => rx_hp h (Nat.succ tt, N, N, [[dc]], []) fun h1 => rx_f (Nat.add (Nat.mul 8 h.1) 2) fun v => k lv (v :: r) h1) none) none
theorem e_newa (tt dc : Nat) (k : rx_K) : q_newa tt dc k = o_newa tt dc k := by
  funext lv st h
  cases st with
  | nil => rfl
  | cons n r => exact rx_if_and _ _ _ _
noncomputable def q_obj (k : rx_K) : rx_K := fun lv st h => rx_un st fun o r => rx_if (Nat.beq (Nat.mod o 8) 2) (rx_if (Nat.ble (rx_cs r) 8) (k lv r h) none) none
theorem e_obj (k : rx_K) : q_obj k = o_obj k := by
  funext lv st h
  cases st with
  | nil => rfl
  | cons o r => exact rx_if_and _ _ _ _
noncomputable def q_dup (k : rx_K) : rx_K := fun lv st h => rx_un st fun v r => rx_if (Nat.beq (Nat.mod v 8) 1) (o_dup k lv st h) (k lv (v :: v :: r) h)
theorem e_dup (k : rx_K) : q_dup k = o_dup k := by
  funext lv st h
  cases st with
  | nil => rfl
  | cons v r =>
    show rx_if (Nat.beq (v % 8) 1) _ _ = _
    cases hc : Nat.beq (v % 8) 1 with
    | true => rfl
    | false =>
      show k lv (v :: v :: r) h = (bif Nat.beq (rx_ct v) 1 then _ else none)
      unfold rx_ct
      rw [hc]; rfl
-- loops: the blocks of a method, jumps back by fuel
noncomputable def rx_J (bs : (Nat → rx_K) → List rx_K) (n : Nat) : Nat → rx_K := Nat.rec (motive := fun _ => Nat → rx_K) (fun _ => o_none) (fun _ ih k => rx_nth (bs ih) k o_none) n
theorem rx_loop {hs : List Nat} {bs : (Nat → rx_K) → List rx_K} (hb : ∀ j : Nat → rx_K, (∀ k pc, hs[k]? = some pc → rx_OK V M d pc (j k)) → ∀ k pc, hs[k]? = some pc → rx_OK V M d pc (rx_nth (bs j) k o_none)) : ∀ n k pc, hs[k]? = some pc → rx_OK V M d pc (rx_J bs n k)
  | 0, _, _, _ => s_none
  | n + 1, k, pc, h => hb (rx_J bs n) (rx_loop hb n) k pc h
end RX24
end

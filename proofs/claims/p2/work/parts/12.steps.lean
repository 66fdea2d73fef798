-- what kind of value a code is
def rx_isI (c : Nat) : Bool := Nat.beq (c % 8) 0 || (Nat.beq (c % 8) 5 || (Nat.beq (c % 8) 4 && Nat.blt (c / 8) 5))
def rx_isR (c : Nat) : Bool := Nat.beq (c % 8) 2 || (Nat.beq (c % 8) 3 || (Nat.beq (c % 8) 4 && Nat.ble 5 (c / 8)))
def rx_isL (c : Nat) : Bool := Nat.beq (c % 8) 1
theorem rx_beq {a b : Nat} (h : Nat.beq a b = true) : a = b := Nat.eq_of_beq_eq_true h
theorem rx_isI_v {V : rx_V} (hV : rx_Ok V) {c : Nat} (h : rx_isI c = true) : c % 8 ≠ 7 ∧ ∃ x, rx_v V c = .int x := by
  unfold rx_isI at h
  rcases Bool.or_eq_true_iff.mp h with h | h
  · have e := rx_beq h
    exact ⟨by omega, _, rx_v_0 e⟩
  · rcases Bool.or_eq_true_iff.mp h with h | h
    · have e := rx_beq h
      exact ⟨by omega, _, rx_v_5 e⟩
    · obtain ⟨h1, h2⟩ := Bool.and_eq_true_iff.mp h
      have e := rx_beq h1
      obtain ⟨v, q⟩ := hV.1 (c / 8) (Nat.le_of_ble_eq_true h2)
      exact ⟨by omega, v, by rw [rx_v_4 e, q]⟩
theorem rx_isR_v {V : rx_V} (hV : rx_Ok V) {c : Nat} (h : rx_isR c = true) : c % 8 ≠ 7 ∧ (rx_v V c = .null ∨ ∃ a, rx_v V c = .ref a) := by
  unfold rx_isR at h
  rcases Bool.or_eq_true_iff.mp h with h | h
  · have e := rx_beq h
    exact ⟨by omega, Or.inr ⟨_, rx_v_2 e⟩⟩
  · rcases Bool.or_eq_true_iff.mp h with h | h
    · have e := rx_beq h
      exact ⟨by omega, Or.inl (rx_v_3 e)⟩
    · obtain ⟨h1, h2⟩ := Bool.and_eq_true_iff.mp h
      have e := rx_beq h1
      refine ⟨by omega, ?_⟩
      rw [rx_v_4 e]
      rcases hV.2.1 (c / 8) (Nat.le_of_ble_eq_true h2) with q | ⟨a, -, q⟩
      · exact Or.inl q
      · exact Or.inr ⟨a, q⟩
theorem rx_isL_v {V : rx_V} {c : Nat} (h : rx_isL c = true) : c % 8 = 1 ∧ rx_v V c = .long (rx_dl c) := ⟨rx_beq h, rx_v_1 (rx_beq h)⟩
theorem rx_bif {α : Type} {b : Bool} {x y : Option α} {r : α} (h : (bif b then x else y) = some r) : (b = true ∧ x = some r) ∨ (b = false ∧ y = some r) := by cases b <;> simp_all
theorem rx_bifn {α : Type} {b : Bool} {x : Option α} {r : α} (h : (bif b then x else none) = some r) : b = true ∧ x = some r := by cases b <;> simp_all
-- locals
noncomputable def o_ld (chk : Nat → Bool) (i : Nat) (k : rx_K) : rx_K := fun lv st h => rx_f (rx_get 7 lv i) fun c => bif chk c then k lv (c :: st) h else none
theorem rx_L_at {V : rx_V} {ls : Array Slot} {nL i : Nat} {lv : List Nat} (hL : rx_L V ls nL lv) (h7 : rx_get 7 lv i % 8 ≠ 7) : ls[i]? = some (.val (rx_v V (rx_get 7 lv i))) := by
  rw [rx_get_eq] at h7 ⊢
  cases e : lv[i]? with
  | none => exfalso; apply h7; simp [List.getD, e]
  | some c =>
    have e2 : lv.getD i 7 = c := by simp [List.getD, e]
    rw [e2] at h7 ⊢
    exact hL.2.2 i c e h7
noncomputable def rx_st1 {β : Type} (lv : List Nat) (i v : Nat) (k : List Nat → Option β) : Option β :=
  rx_set lv i v fun l1 => Nat.rec (motive := fun _ => Option β) (k l1) (fun j _ => bif rx_isL (rx_get 7 lv j) then rx_set l1 j 7 k else k l1) i
noncomputable def rx_st2 {β : Type} (lv : List Nat) (i v : Nat) (k : List Nat → Option β) : Option β :=
  rx_set lv (i + 1) 7 fun l0 => rx_st1 l0 i v k
def rx_as (V : rx_V) (lv : List Nat) : List (Nat × Value) := (List.range lv.length).filterMap fun i => if lv.getD i 7 % 8 = 7 then none else some (i, rx_v V (lv.getD i 7))
theorem rx_as_mem {V : rx_V} {lv : List Nat} {q : Nat × Value} : q ∈ rx_as V lv ↔ ∃ i c, lv[i]? = some c ∧ c % 8 ≠ 7 ∧ q = (i, rx_v V c) := by
  unfold rx_as
  rw [List.mem_filterMap]
  constructor
  · rintro ⟨i, hi, he⟩
    have hl := List.mem_range.mp hi
    have e1 : lv[i]? = some (lv.getD i 7) := by simp [List.getD, List.getElem?_eq_getElem hl]
    by_cases h7 : lv.getD i 7 % 8 = 7
    · rw [if_pos h7] at he; cases he
    · rw [if_neg h7] at he
      exact ⟨i, _, e1, h7, (Option.some.inj he).symm⟩
  · rintro ⟨i, c, e, h7, rfl⟩
    have hl : i < lv.length := (List.getElem?_eq_some_iff.mp e).1
    refine ⟨i, List.mem_range.mpr hl, ?_⟩
    have e2 : lv.getD i 7 = c := by simp [List.getD, e]
    rw [e2, if_neg h7]
theorem rx_L_has {V : rx_V} {ls : Array Slot} {nL : Nat} {lv : List Nat} (hL : rx_L V ls nL lv) : lv_has ls nL (rx_as V lv) := by
  refine ⟨hL.1, hL.2.1, fun q hq => ?_⟩
  obtain ⟨i, c, e, h7, rfl⟩ := rx_as_mem.mp hq
  exact hL.2.2 i c e h7
theorem rx_st1_some {β : Type} {lv : List Nat} {i v : Nat} {k : List Nat → Option β} {r : β} (h : rx_st1 lv i v k = some r) : ∃ lv', k lv' = some r ∧ ∀ (j c : Nat), lv'[j]? = some c → c % 8 ≠ 7 → (j = i ∧ c = v) ∨ (j ≠ i ∧ lv[j]? = some c ∧ ¬ (j + 1 = i ∧ c % 8 = 1)) := by
  obtain ⟨h1, h2⟩ := rx_set_some h
  have key : ∀ (j c : Nat), (lv.set i v)[j]? = some c → (j = i ∧ c = v) ∨ (j ≠ i ∧ lv[j]? = some c) := by
    intro j c hj
    by_cases e : j = i
    · subst e
      rw [List.getElem?_set_self h1] at hj
      exact Or.inl ⟨rfl, (Option.some.inj hj).symm⟩
    · rw [List.getElem?_set_ne (fun q => e q.symm)] at hj
      exact Or.inr ⟨e, hj⟩
  cases i with
  | zero =>
    refine ⟨_, h2, fun j c hj h7 => ?_⟩
    rcases key j c hj with q | ⟨q1, q2⟩
    · exact Or.inl q
    · exact Or.inr ⟨q1, q2, fun z => by omega⟩
  | succ i =>
    rcases rx_bif h2 with ⟨hb, h3⟩ | ⟨hb, h3⟩
    · obtain ⟨h4, h5⟩ := rx_set_some h3
      refine ⟨_, h5, fun j c hj h7 => ?_⟩
      by_cases e : j = i
      · subst e
        rw [List.getElem?_set_self h4] at hj
        have := Option.some.inj hj
        omega
      · rw [List.getElem?_set_ne (fun q => e q.symm)] at hj
        rcases key j c hj with q | ⟨q1, q2⟩
        · exact Or.inl q
        · exact Or.inr ⟨q1, q2, fun z => e (by omega)⟩
    · refine ⟨_, h3, fun j c hj h7 => ?_⟩
      rcases key j c hj with q | ⟨q1, q2⟩
      · exact Or.inl q
      · refine Or.inr ⟨q1, q2, fun z => ?_⟩
        obtain ⟨z1, z2⟩ := z
        have z3 : j = i := by omega
        subst z3
        rw [rx_get_eq] at hb
        have e2 : lv.getD j 7 = c := by simp [List.getD, q2]
        rw [e2] at hb
        unfold rx_isL at hb
        rw [z2] at hb
        cases hb
theorem rx_L_st1 {V : rx_V} (hV : rx_Ok V) {ls' : Array Slot} {nL i v : Nat} {lv lv' : List Nat} (hh : lv_has ls' nL ((i, rx_v V v) :: (rx_as V lv).filter (fun q => !(q.1 == i) && !(q.1 + 1 == i && q.2.category == 2)))) (hk : ∀ (j c : Nat), lv'[j]? = some c → c % 8 ≠ 7 → (j = i ∧ c = v) ∨ (j ≠ i ∧ lv[j]? = some c ∧ ¬ (j + 1 = i ∧ c % 8 = 1))) : rx_L V ls' nL lv' := by
  refine ⟨hh.1, hh.2.1, fun j c hj h7 => ?_⟩
  rcases hk j c hj h7 with ⟨rfl, rfl⟩ | ⟨h1, h2, h3⟩
  · exact hh.2.2 _ List.mem_cons_self
  · refine hh.2.2 (j, rx_v V c) (List.mem_cons_of_mem _ (List.mem_filter.mpr ⟨rx_as_mem.mpr ⟨j, c, h2, h7, rfl⟩, ?_⟩))
    have e1 : (j == i) = false := by simp [h1]
    rw [rx_v_cat hV]
    by_cases e2 : j + 1 = i
    · have e3 : c % 8 ≠ 1 := fun z => h3 ⟨e2, z⟩
      have e4 : Nat.beq (c % 8) 1 = false := by
        rw [Bool.eq_false_iff]; intro q; exact e3 (rx_beq q)
      simp [e1, rx_ct, e4]
    · simp [e1, e2]
theorem rx_st2_some {β : Type} {lv : List Nat} {i v : Nat} {k : List Nat → Option β} {r : β} (h : rx_st2 lv i v k = some r) : ∃ lv', k lv' = some r ∧ ∀ (j c : Nat), lv'[j]? = some c → c % 8 ≠ 7 → (j = i ∧ c = v) ∨ (j ≠ i ∧ j ≠ i + 1 ∧ lv[j]? = some c ∧ ¬ (j + 1 = i ∧ c % 8 = 1)) := by
  obtain ⟨h1, h2⟩ := rx_set_some h
  obtain ⟨lv', h3, h4⟩ := rx_st1_some h2
  refine ⟨lv', h3, fun j c hj h7 => ?_⟩
  rcases h4 j c hj h7 with q | ⟨q1, q2, q3⟩
  · exact Or.inl q
  · by_cases e : j = i + 1
    · subst e
      rw [List.getElem?_set_self h1] at q2
      have := Option.some.inj q2
      omega
    · rw [List.getElem?_set_ne (fun q => e q.symm)] at q2
      exact Or.inr ⟨q1, e, q2, q3⟩
theorem rx_L_st2 {V : rx_V} (hV : rx_Ok V) {ls' : Array Slot} {nL i v : Nat} {lv lv' : List Nat} (hh : lv_has ls' nL ((i, rx_v V v) :: (rx_as V lv).filter (fun q => !(q.1 == i) && (!(q.1 == i + 1) && !(q.1 + 1 == i && q.2.category == 2))))) (hk : ∀ (j c : Nat), lv'[j]? = some c → c % 8 ≠ 7 → (j = i ∧ c = v) ∨ (j ≠ i ∧ j ≠ i + 1 ∧ lv[j]? = some c ∧ ¬ (j + 1 = i ∧ c % 8 = 1))) : rx_L V ls' nL lv' := by
  refine ⟨hh.1, hh.2.1, fun j c hj h7 => ?_⟩
  rcases hk j c hj h7 with ⟨rfl, rfl⟩ | ⟨h1, h1', h2, h3⟩
  · exact hh.2.2 _ List.mem_cons_self
  · refine hh.2.2 (j, rx_v V c) (List.mem_cons_of_mem _ (List.mem_filter.mpr ⟨rx_as_mem.mpr ⟨j, c, h2, h7, rfl⟩, ?_⟩))
    have e1 : (j == i) = false := by simp [h1]
    have e1' : (j == i + 1) = false := by simp [h1']
    rw [rx_v_cat hV]
    by_cases e2 : j + 1 = i
    · have e3 : c % 8 ≠ 1 := fun z => h3 ⟨e2, z⟩
      have e4 : Nat.beq (c % 8) 1 = false := by
        rw [Bool.eq_false_iff]; intro q; exact e3 (rx_beq q)
      simp [e1, e1', rx_ct, e4]
    · simp [e1, e1', e2]

def zX (s : State) (U : State) : Prop := s.WarmedH U.vm ∧ ∀ q, q < s.heap.size → U.heap[q]? = s.heap[q]?
theorem zf_Z {C n d : String} {v : Value} {s U : State} (h : va_Z C n d v (fun q => s.heap.size ≤ q) s s.heap) (hX : zX s U) : va_Z C n d v (fun q => s.heap.size ≤ q) U U.heap := (h.moved hX.1.alike).kept (fun a ha _ => hX.2 a ha)
theorem zf_OF {o n d : String} {v : Value} {q : Nat} {s U : State} (h : va_OF o n d v q (fun q => s.heap.size ≤ q) s s.heap) (hX : zX s U) : va_OF o n d v q (fun q => s.heap.size ≤ q) U U.heap := (h.moved hX.1.alike).kept (fun a ha _ => hX.2 a ha)
theorem zf_O {E : String} {q : Nat} {s U : State} (h : va_O E q (fun q => s.heap.size ≤ q) s s.heap) (hX : zX s U) : va_O E q (fun q => s.heap.size ≤ q) U U.heap := (h.moved hX.1.alike).kept (fun a ha _ => hX.2 a ha)
theorem zf_T {ty : FieldType} {q n : Nat} {f : Nat → Value} {s U : State} (h : va_T ty q n f (fun q => s.heap.size ≤ q) s s.heap) (hX : zX s U) : va_T ty q n f (fun q => s.heap.size ≤ q) U U.heap := (h.moved hX.1.alike).kept (fun a ha _ => hX.2 a ha)
theorem zf_Tc {ty : FieldType} {q n : Nat} {f g : Nat → Value} {A : Nat → Prop} {U : State} {H : Heap} (h : va_T ty q n f A U H) (hfg : ∀ j, j < n → f j = g j) : va_T ty q n g A U H := by
  obtain ⟨cell, h1, h2, h3, h4, h5, h6, h7⟩ := h
  exact ⟨cell, h1, h2, h3, h4, h5, fun j hj => by rw [h6 j hj, hfg j hj], h7⟩
def zEv (xs : Nat → Int32) (L : Nat) (v5 : Value) (q6 t7 q8 t9 q10 t11 b : Nat) (k : Nat) : Value := if k < 5 then .int (if k + 1 < L then xs (k + 1) else 0) else [v5, .ref q6, .ref t7, .ref q8, .ref t9, .ref q10, .ref t11, .ref b].getD (k - 5) .null
theorem zkn {s : State} {args : Array Value} (hts : ∀ w ∈ lw_tbl, w.before args s = true) : ∀ (k : Nat) (q : vw_C), zC[k]? = some q → ∃ (cC : ClassId) (iS : Nat → Nat), u_Kn s q.1 q.2.1 q.2.2 cC iS
  | 0, q, h => by cases h; exact u_known (C := RX0) (T := TX0) (N := 17) (n := 17) hts zin0 (hts _ (zT2 (List.mem_of_getElem? (i := 2) rfl)))
  | 1, q, h => by cases h; exact u_known (C := RX1) (T := TX1) (N := 18) (n := 18) hts zin1 (hts _ (zT2 (List.mem_of_getElem? (i := 101) rfl)))
  | 2, q, h => by cases h; exact u_known (C := RX2) (T := TX2) (N := 10) (n := 10) hts zin2 (hts _ (zT5 (List.mem_of_getElem? (i := 52) rfl)))
  | 3, q, h => by cases h; exact u_known (C := RX3) (T := TX3) (N := 7) (n := 7) hts zin3 (hts _ (zT2 (List.mem_of_getElem? (i := 64) rfl)))
  | 4, q, h => by cases h; exact u_known (C := RX4) (T := TX4) (N := 4) (n := 4) hts zin4 (hts _ (zT1 (List.mem_of_getElem? (i := 221) rfl)))
  | 5, q, h => by cases h; exact u_known (C := RX5) (T := TX5) (N := 20) (n := 20) hts zin5 (hts _ (zT4 (List.mem_of_getElem? (i := 212) rfl)))
  | 6, q, h => by cases h; exact u_known (C := RX6) (T := TX6) (N := 20) (n := 20) hts zin6 (hts _ (zT5 (List.mem_of_getElem? (i := 92) rfl)))
  | 7, q, h => by cases h; exact u_known (C := RX7) (T := TX7) (N := 19) (n := 19) hts zin7 (hts _ (zT3 (List.mem_of_getElem? (i := 45) rfl)))
  | 8, q, h => by cases h; exact u_known (C := RX8) (T := TX8) (N := 12) (n := 12) hts zin8 (hts _ (zT1 (List.mem_of_getElem? (i := 40) rfl)))
  | 9, q, h => by cases h; exact u_known (C := RX9) (T := TX9) (N := 15) (n := 15) hts zin9 (hts _ (zT1 (List.mem_of_getElem? (i := 33) rfl)))
  | 10, q, h => by cases h; exact u_known (C := RX10) (T := TX10) (N := 21) (n := 21) hts zin10 (hts _ (zT2 (List.mem_of_getElem? (i := 107) rfl)))
  | 11, q, h => by cases h; exact u_known (C := RX11) (T := TX11) (N := 20) (n := 20) hts zin11 (hts _ (zT2 (List.mem_of_getElem? (i := 92) rfl)))
  | 12, q, h => by cases h; exact u_known (C := RX12) (T := TX12) (N := 21) (n := 21) hts zin12 (hts _ (zT1 (List.mem_of_getElem? (i := 23) rfl)))
  | 13, q, h => by cases h; exact u_known (C := RX13) (T := TX13) (N := 180) (n := 180) hts zin13 (hts _ (zT11 (List.mem_of_getElem? (i := 96) rfl)))
  | k + 14, q, h => by simp [zC] at h
theorem zka {s : State} {args : Array Value} (hts : ∀ w ∈ lw_tbl, w.before args s = true) : ∀ (t : Nat) (ty : FieldType), zT[t]? = some ty → ∃ cA : ClassId, ArrOfT s cA ty ∧ va_RA s cA ty
  | 0, ty, h => by
    cases h
    obtain ⟨c, k, comp, h1, h2, h3⟩ := Cond.arrayClass_spec (hts _ (zT1 (List.mem_of_getElem? (i := 115) rfl)))
    exact ⟨c, fun n z => ⟨fun k h => (by cases h), k, h2, comp, h3⟩, h1⟩
  | 1, ty, h => by
    cases h
    obtain ⟨c, k, comp, h1, h2, h3⟩ := Cond.arrayClass_spec (hts _ (zT1 (List.mem_of_getElem? (i := 116) rfl)))
    exact ⟨c, fun n z => ⟨fun k h => (by cases h), k, h2, comp, h3⟩, h1⟩
  | 2, ty, h => by
    cases h
    obtain ⟨c, k, comp, h1, h2, h3⟩ := Cond.arrayClass_spec (hts _ (zT1 (List.mem_of_getElem? (i := 114) rfl)))
    exact ⟨c, fun n z => ⟨fun k h => (by cases h), k, h2, comp, h3⟩, h1⟩
  | 3, ty, h => by
    cases h
    obtain ⟨c, k, comp, h1, h2, h3⟩ := Cond.arrayClass_spec (hts _ (zT18 (List.mem_of_getElem? (i := 169) rfl)))
    exact ⟨c, fun n z => ⟨fun k h => (by cases h), k, h2, comp, h3⟩, h1⟩
  | 4, ty, h => by
    cases h
    obtain ⟨comp, c, k, h1, h2, h3, h4, h5⟩ := Cond.arrayOver_spec (hts _ (zT2 (List.mem_of_getElem? (i := 98) rfl)))
    exact ⟨c, fun n z => ⟨fun k h => (by cases h), k, h3, comp, h4⟩, ⟨k, comp, h3, h4, h1, h5⟩⟩
  | 5, ty, h => by
    cases h
    obtain ⟨comp, c, k, h1, h2, h3, h4, h5⟩ := Cond.arrayOver_spec (hts _ (zT2 (List.mem_of_getElem? (i := 8) rfl)))
    exact ⟨c, fun n z => ⟨fun k h => (by cases h), k, h3, comp, h4⟩, ⟨k, comp, h3, h4, h1, h5⟩⟩
  | 6, ty, h => by
    cases h
    obtain ⟨comp, c, k, h1, h2, h3, h4, h5⟩ := Cond.arrayOver_spec (hts _ (zT1 (List.mem_of_getElem? (i := 31) rfl)))
    exact ⟨c, fun n z => ⟨fun k h => (by cases h), k, h3, comp, h4⟩, ⟨k, comp, h3, h4, h1, h5⟩⟩
  | 7, ty, h => by
    cases h
    obtain ⟨comp, c, k, h1, h2, h3, h4, h5⟩ := Cond.arrayOver_spec (hts _ (zT1 (List.mem_of_getElem? (i := 39) rfl)))
    exact ⟨c, fun n z => ⟨fun k h => (by cases h), k, h3, comp, h4⟩, ⟨k, comp, h3, h4, h1, h5⟩⟩
  | 8, ty, h => by
    cases h
    obtain ⟨comp, c, k, h1, h2, h3, h4, h5⟩ := arrayOverA_spec (hts _ (zT5 (List.mem_of_getElem? (i := 100) rfl)))
    exact ⟨c, fun n z => ⟨fun k h => (by cases h), k, h3, comp, h4⟩, h5⟩
  | t + 9, ty, h => by simp [zT] at h

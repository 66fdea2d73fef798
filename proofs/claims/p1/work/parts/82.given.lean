theorem zbe6 : ∀ j, j < 145 → rx_nth zbs7 j 7 % 8 = 0 ∧ rx_di (rx_nth zbs7 j 7) = zby6.getD j 0 := by decide +kernel
theorem zbe8 : ∀ j, j < 146 → rx_nth zbs9 j 7 % 8 = 0 ∧ rx_di (rx_nth zbs9 j 7) = zby8.getD j 0 := by decide +kernel
theorem zbe10 : ∀ j, j < 4 → rx_nth zbs11 j 7 % 8 = 0 ∧ rx_di (rx_nth zbs11 j 7) = zby10.getD j 0 := by decide +kernel
theorem zao {s U : State} {a a2 : Array Value} (hX : s.vm.Alike U.vm) (h : (Cond.arrayOver (.array .int)).before a s = true) : (Cond.arrayOver (.array .int)).before a2 U = true := by
  have h2 := Cond.arrayOver_setVmC (args := a) hX (.array .int)
  rw [h] at h2
  simp only [Cond.before, Cond.holds, Cond.value] at h2 ⊢
  exact h2
theorem zlt {s : State} {E : String} {q : Nat} {A : Nat → Prop} (h : va_O E q A s s.heap) : q < s.heap.size := by
  obtain ⟨cell, h1, -⟩ := h
  exact (Array.getElem?_eq_some_iff.mp h1).1
theorem zltT {s : State} {ty : FieldType} {q n : Nat} {f : Nat → Value} {A : Nat → Prop} (h : va_T ty q n f A s s.heap) : q < s.heap.size := by
  obtain ⟨cell, h1, -⟩ := h
  exact (Array.getElem?_eq_some_iff.mp h1).1
set_option maxHeartbeats 4000000 in
theorem z_given {s : State} {args : Array Value} (hts : ∀ w ∈ lw_tbl, w.before args s = true) (hn : narrow_1.before args s = true) :
    ∃ (v5 : Value) (q6 t7 q8 t9 q10 t11 : Nat) (D : va_G) (A : Nat → ClassId), ∀ (xs : Nat → Int32) (L b : Nat), b < s.heap.size → zO s.heap.size (zEv xs L v5 q6 t7 q8 t9 q10 t11 b) D A (zX s) ∧ rx_En (zV s.heap.size (zEv xs L v5 q6 t7 q8 t9 q10 t11 b) D A (zX s)) s := by
  have hA : ∀ a : Nat, a < s.heap.size → ¬ (fun q : Nat => s.heap.size ≤ q) a := fun a h => Nat.not_le.mpr h
  obtain ⟨q6, t7, e6, o6, c6, v6, b7⟩ := zstr6 (A := fun q => s.heap.size ≤ q) hn hA
  obtain ⟨q8, t9, e8, o8, c8, v8, b9⟩ := zstr8 (A := fun q => s.heap.size ≤ q) hn hA
  obtain ⟨q10, t11, e10, o10, c10, v10, b11⟩ := zstr10 (A := fun q => s.heap.size ≤ q) hn hA
  have hK := va_Zof (A := fun q => s.heap.size ≤ q) (hts _ (zT1 (List.mem_of_getElem? (i := 127) rfl))) (hts _ (zT1 (List.mem_of_getElem? (i := 4) rfl))) (zcs hn) hA
  obtain ⟨v5, hv5, hF⟩ : ∃ v5 : Value, (v5 = .null ∨ ∃ a : Nat, v5 = .ref a) ∧ va_Z "jdk/internal/util/Preconditions" "SIOOBE_FORMATTER" "Ljava/util/function/BiFunction;" v5 (fun q => s.heap.size ≤ q) s s.heap := by
    rcases va_Zqof (A := fun q => s.heap.size ≤ q) (hts _ (zT1 (List.mem_of_getElem? (i := 143) rfl))) (hts _ (zT1 (List.mem_of_getElem? (i := 6) rfl))) (zsf hn) hA with h | ⟨t, h⟩
    · exact ⟨_, Or.inl rfl, h⟩
    · exact ⟨_, Or.inr ⟨t, rfl⟩, h⟩
  have hc : ∀ k : Nat, ∃ ci : ClassId × (Nat → Nat), ∀ q, zC[k]? = some q → u_Kn s q.1 q.2.1 q.2.2 ci.1 ci.2 := fun k => by
    cases h : zC[k]? with
    | none => exact ⟨(0, fun _ => 0), fun q hq => by cases hq⟩
    | some q =>
      obtain ⟨c, i, hk⟩ := zkn hts k q h
      exact ⟨(c, i), fun q' hq => by cases hq; exact hk⟩
  have ha : ∀ t : Nat, ∃ cA : ClassId, ∀ ty, zT[t]? = some ty → ArrOfT s cA ty ∧ va_RA s cA ty := fun t => by
    cases h : zT[t]? with
    | none => exact ⟨0, fun q hq => by cases hq⟩
    | some ty =>
      obtain ⟨c, hk⟩ := zka hts t ty h
      exact ⟨c, fun q' hq => by cases hq; exact hk⟩
  obtain ⟨dc, hdc⟩ := Classical.axiomOfChoice hc
  obtain ⟨da, hda⟩ := Classical.axiomOfChoice ha
  have l6 := zlt o6
  have l8 := zlt o8
  have l10 := zlt o10
  have l7 := zltT b7
  have l9 := zltT b9
  have l11 := zltT b11
  refine ⟨v5, q6, t7, q8, t9, q10, t11, (fun k => (dc k).1, fun k => (dc k).2), da, fun xs L b hb => ⟨⟨⟨?_, ?_, ?_, ?_⟩, ?_⟩, ?_⟩⟩
  · exact fun k hk => ⟨_, if_pos hk⟩
  · intro k hk
    have hg : ∀ i : Nat, [v5, .ref q6, .ref t7, .ref q8, .ref t9, .ref q10, .ref t11, .ref b].getD i .null = .null ∨ ∃ a : Nat, (i = 0 ∨ a < s.heap.size) ∧ [v5, .ref q6, .ref t7, .ref q8, .ref t9, .ref q10, .ref t11, .ref b].getD i .null = .ref a := by
      intro i
      match i with
      | 0 =>
        rcases hv5 with e | ⟨a, e⟩
        · exact Or.inl e
        · exact Or.inr ⟨a, Or.inl rfl, e⟩
      | 1 => exact Or.inr ⟨q6, Or.inr l6, rfl⟩
      | 2 => exact Or.inr ⟨t7, Or.inr l7, rfl⟩
      | 3 => exact Or.inr ⟨q8, Or.inr l8, rfl⟩
      | 4 => exact Or.inr ⟨t9, Or.inr l9, rfl⟩
      | 5 => exact Or.inr ⟨q10, Or.inr l10, rfl⟩
      | 6 => exact Or.inr ⟨t11, Or.inr l11, rfl⟩
      | 7 => exact Or.inr ⟨b, Or.inr hb, rfl⟩
      | i + 8 => exact Or.inl rfl
    have e0 : ex (zV s.heap.size (zEv xs L v5 q6 t7 q8 t9 q10 t11 b) (fun k => (dc k).1, fun k => (dc k).2) da (zX s)) k = [v5, .ref q6, .ref t7, .ref q8, .ref t9, .ref q10, .ref t11, .ref b].getD (k - 5) .null := if_neg (by omega)
    rw [e0]
    rcases hg (k - 5) with h | ⟨a, h1, h2⟩
    · exact Or.inl h
    · exact Or.inr ⟨a, h1.elim (fun h => Or.inl (by omega)) Or.inr, h2⟩
  · exact fun w hw => good_of_word (List.mem_filter.mp hw).2
  · exact fun u U h hw _ hq => ⟨h.1.trans hw, fun q hqs => (hq q hqs).trans (h.2 q hqs)⟩
  · refine ⟨fun U hU => zf_Z hK hU, fun U hU => zf_Z hF hU, fun U hU args' => zao hU.1.alike (hts _ (zT5 (List.mem_of_getElem? (i := 100) rfl))), fun U hU => va_Nw.warmM hU.1 (va_Nw.of rfl (hts _ (zT1 (List.mem_of_getElem? (i := 41) rfl)))), fun U hU => va_Nw.warmM hU.1 (va_Nw.of rfl (hts _ (zT1 (List.mem_of_getElem? (i := 222) rfl)))), fun U hU => va_Nw.warmM hU.1 (va_Nw.of rfl (hts _ (zT2 (List.mem_of_getElem? (i := 3) rfl)))), fun U hU => va_Nw.warmM hU.1 (va_Nw.of rfl (hts _ (zT2 (List.mem_of_getElem? (i := 65) rfl)))), fun U hU => va_Nw.warmM hU.1 (va_Nw.of rfl (hts _ (zT2 (List.mem_of_getElem? (i := 108) rfl)))), fun U hU => va_Nw.warmM hU.1 (va_Nw.of rfl (hts _ (zT3 (List.mem_of_getElem? (i := 46) rfl)))), fun U hU => va_Nw.warmM hU.1 (va_Nw.of rfl (hts _ (zT5 (List.mem_of_getElem? (i := 53) rfl)))), fun U hU => va_Nw.warmM hU.1 (va_Nw.of rfl (hts _ (zT5 (List.mem_of_getElem? (i := 93) rfl)))), fun U hU args' => va_AO.use (va_AO.moved hU.1.alike (va_AO.of (hts _ (zT2 (List.mem_of_getElem? (i := 98) rfl))))), fun U hU args' => va_AO.use (va_AO.moved hU.1.alike (va_AO.of (hts _ (zT2 (List.mem_of_getElem? (i := 8) rfl))))), fun U hU args' => va_AO.use (va_AO.moved hU.1.alike (va_AO.of (hts _ (zT1 (List.mem_of_getElem? (i := 31) rfl))))), fun U hU args' => va_AO.use (va_AO.moved hU.1.alike (va_AO.of (hts _ (zT1 (List.mem_of_getElem? (i := 39) rfl))))), ?_⟩
    refine ⟨fun U hU => ⟨q6, rfl, vk_R.warm hU.1 (vk_R.of (hts _ (zT1 (List.mem_of_getElem? (i := 117) rfl))) e6)⟩, fun U hU => ⟨q6, rfl, zf_OF v6 hU⟩, fun U hU => ⟨q6, rfl, zf_OF c6 hU⟩, fun U hU => ⟨q6, rfl, zf_O o6 hU⟩, fun U hU => ⟨t7, rfl, zf_Tc (zf_T b7 hU) (fun j hj => ?_)⟩, ?_⟩
    · rw [rx_v_0 (zbe6 j hj).1, (zbe6 j hj).2]
    refine ⟨fun U hU => ⟨q8, rfl, vk_R.warm hU.1 (vk_R.of (hts _ (zT16 (List.mem_of_getElem? (i := 103) rfl))) e8)⟩, fun U hU => ⟨q8, rfl, zf_OF v8 hU⟩, fun U hU => ⟨q8, rfl, zf_OF c8 hU⟩, fun U hU => ⟨q8, rfl, zf_O o8 hU⟩, fun U hU => ⟨t9, rfl, zf_Tc (zf_T b9 hU) (fun j hj => ?_)⟩, ?_⟩
    · rw [rx_v_0 (zbe8 j hj).1, (zbe8 j hj).2]
    refine ⟨fun U hU => ⟨q10, rfl, vk_R.warm hU.1 (vk_R.of (hts _ (zT16 (List.mem_of_getElem? (i := 108) rfl))) e10)⟩, fun U hU => ⟨q10, rfl, zf_OF v10 hU⟩, fun U hU => ⟨q10, rfl, zf_OF c10 hU⟩, fun U hU => ⟨q10, rfl, zf_O o10 hU⟩, fun U hU => ⟨t11, rfl, zf_Tc (zf_T b11 hU) (fun j hj => ?_)⟩⟩
    rw [rx_v_0 (zbe10 j hj).1, (zbe10 j hj).2]
  · refine ⟨⟨fun k q hq => hdc k q hq, fun k q hq => ?_⟩, ⟨State.WarmedH.refl s, fun _ _ => rfl⟩, Nat.le_refl _⟩
    match k, hq with
    | 0, hq => cases hq; exact hda 0 _ rfl
    | 1, hq => cases hq; exact hda 1 _ rfl
    | 2, hq => cases hq; exact hda 2 _ rfl
    | 3, hq => cases hq; exact hda 3 _ rfl
    | 4, hq => cases hq; exact hda 4 _ rfl
    | 5, hq => cases hq; exact hda 5 _ rfl
    | 6, hq => cases hq; exact hda 6 _ rfl
    | 7, hq => cases hq; exact hda 7 _ rfl
    | 8, hq => cases hq; exact hda 8 _ rfl
    | k + 9, hq =>
      exfalso
      have h9 := (List.getElem?_eq_some_iff.mp hq).1
      simp [rx_tys, zV, zT, eT] at h9
      try omega

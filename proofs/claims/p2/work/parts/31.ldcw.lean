-- a string's constant by the wide instruction
theorem z_ldcw {p : Program} {l : Launch} {e : Env} {R : Room} {s : State} {m : MethodId} {args : Array Value} {below : List Frame} {meth : Method} {c : Code} {T : State} {locs : List Loc} {cells slots : Nat} (X : Stand p l e R s m args below meth c T locs cells slots) (hexec : p.tables.exec = Jvm.exec) {own text : String} {index : Nat} {a : Addr} (hown : s.vm.findClass own = some m.cls) (hconst : (Cond.stringRef own index text).before args s = true) (hev : (Term.string own index).eval args s none [] s = some (.ref a)) {g : JFrame} (hg : g.method = m) (hdg : decode c.code g.pc = .ok (.ldc_w index, 3)) :
    ∀ target, Steps p.tables e below (T.setTop { g with pc := g.pc + 3, stack := .ref a :: g.stack }) target → Steps p.tables e below (T.setTop g) target := by
  obtain ⟨k, cf, i, a', hk, hcf, hcp, -, hr, hev'⟩ := Cond.stringRef_spec hown hconst
  have ea : a = a' := by have := hev.symm.trans hev'; simpa using this
  subst ea
  obtain ⟨k', hk', he⟩ := X.warmed.alike.2.2 _ _ hk
  have hr' : k'.resolved[index]? = some (some (.string a)) := by
    rcases X.warmed.entry hk hk' index with q | ⟨q, -⟩
    · exact q ▸ hr
    · exact absurd (hr.symm.trans q) (by simp)
  intro target hrest
  subst hg
  jvm_step X.here [hexec, hdg, ldc_w.wp_string (e := e) (s := T) (f := g) X.here.top hk' (by rw [he]; exact hcf) hcp hr']
  exact hrest
section RX31
variable {V : rx_V} {M : rx_M} {d pc : Nat} {f t : rx_K}
theorem s_ldcwS {k index : Nat} {tx : String} (hX : ∀ s, eX V s → ∃ q, ex V k = .ref q ∧ vk_R M.1 index tx q s) (hdg : decode M.2.1 pc = .ok (.ldc_w index, 3)) (hk : rx_OK V M d (pc + 3) f) : rx_OK V M d pc (o_const (8 * k + 4) f) := by
  refine rx_pure fun lv st h r h' hf => ⟨pc + 3, f, lv, _, hk, hf, fun p l e R s m args below meth c hC hE H locs ls cells slots Q hW hF hL kk => ?_⟩
  obtain ⟨q, e1, e2⟩ := hX s hE.2.1
  have h2 := kk ls hL
  rw [List.map_cons, rx_v_4 (by omega), show (8 * k + 4) / 8 = k by omega, e1] at h2
  intro T hT X
  obtain ⟨t, a1, b1⟩ := h2 T hT X
  exact ⟨t, z_ldcw X hC.1 hC.2.2.2.2.2.1 (text := tx) (a := q) e2.1 e2.2 (g := F0 m pc ls (st.map (rx_v V))) rfl (by rw [hC.2.1]; exact hdg) t a1, b1⟩
end RX31

/-! THE CLAIM OUT OF ONE WALK OF THE LAW'S BODY. Your part is whole_start (and what it stands on); all else here is the same for every law, but numbers. -/
def lw_P (b : Addr) (xs : List Int32) (args : Array Value) (s : State) : Prop := args = #[.ref b] ∧ s.IntsAt b xs ∧ xs.length ≤ 3072 ∧ (Jvm.Cond.and given_1 narrow_1).before args s = true
def lw_Q (_ : Array Value) (s : State) (o : Outcome) (t : State) : Prop := o = .returned (some (.int 1)) ∧ Framed s o t [] 600000 7302250
def lw_Z (below : List Frame) (a : Array Value) (s : State) : State → Prop := fun t => ∃ o, t.status = .running ∧ Ended t below o ∧ lw_Q a s o t
/-- the law's own end, with 1 on the stack, nothing written that was there before, its room as the claim has it -/
theorem lw_ret {p : Program} {l : Launch} {e : Env} {s : State} {m : MethodId} {below : List Frame} {meth : Method} {c : Code} {b : Nat} (hx : p.tables.exec = Jvm.exec) (hb : c.code = code) (hr : meth.sig.returnType = ret) (hlocks : meth.locks = false) {pc : Nat} {H : Heap} {ls : Array Slot} (hdg : decode code pc = .ok (.ireturn, 1)) : W p l e room_1 s m #[Value.ref b] below meth c H [] 600000 7302250 (lw_Z below #[Value.ref b] s) (F0 m pc ls [.int 1]) := by
  intro T hT X
  obtain ⟨fs, hret, hrun, hended, hW, hframe⟩ := X.leave (v := some (.int 1)) (hlocks := hlocks) (fun h => by rw [hr] at h; cases h)
  have hmeth' : T.vm.method? m = some meth := X.method'
  refine ⟨T.setFrames fs, ?_, .returned (some (.int 1)), hrun, hended, rfl, ⟨_, rfl⟩, hW, hframe⟩
  jvm_step X.here [X.here.top, hx, hb, hdg, hmeth', hr, ret, narrow_b1]
  (try refine ⟨rfl, ?_⟩); (try refine ⟨rfl, ?_⟩)
  first | (intro acts; rw [hret _ acts rfl rfl rfl]) | rw [hret _ _ rfl rfl rfl]
  exact Steps.refl _
/-- what holds at the law's entry: the machine, the code, the tables' words (any of lw_tbl by 'hts w (by decide +kernel)'), the script of L ints xs at the cell b, what the Statement gives of the start (any of its parts by flat_of_before) -/
def lw_At (p : Program) (s : State) (m : MethodId) (meth : Method) (c : Code) (b L : Nat) (xs : Nat → Int32) : Prop :=
  p.tables.exec = Jvm.exec ∧ c.code = code ∧ meth.sig.returnType = ret ∧ c.maxLocals = 4 ∧ s.vm.findClass R_law = some m.cls ∧ (∀ w ∈ lw_tbl, w.before #[Value.ref b] s = true) ∧ va_X b L xs s s.heap ∧ b < s.heap.size ∧ meth.locks = false ∧ (Jvm.Cond.and given_1 narrow_1).before #[Value.ref b] s = true
theorem z_end {V : rx_V} {below : List Frame} {args : Array Value} {s t : State} {h' : rx_H} {mc ms : Nat} (h : MQ below (rx_Q V 8 h') args s mc ms (fun q => eb V ≤ q) t) (hb : eb V = s.heap.size) (hm : mc ≤ 600000) (hz : ms ≤ 7302250) : lw_Z below args s t := by
  obtain ⟨o, h1, h2, ⟨h3, -, -⟩, L, ⟨⟨v, hv⟩, hw, hs⟩, hL⟩ := h
  refine ⟨o, h1, h2, h3.trans rfl, ⟨v, hv⟩, hw, ?_⟩
  exact (State.sameButNew.drop_fresh (L := []) hs (fun x hx => by rw [← hb]; exact hL x hx)).mono hm hz
theorem z_script {s : State} {b L g : Nat} {ad : Nat → Nat} {v5 : Value} {xs : Nat → Int32} {D : va_G} {A : Nat → ClassId} (hX : va_X b L xs s s.heap) (hb : b < s.heap.size) (hL : L ≤ 3072) : zS s.heap.size (zEv v5 g b ad) D A (zX s) ((List.range L).map fun j => rx_ei (xs j)) := by
  have hlen : ((List.range L).map fun j => rx_ei (xs j)).length = L := by simp
  refine ⟨fun U hU => ⟨b, rfl, ?_⟩, by rw [hlen]; omega⟩
  obtain ⟨scr, h1, h2, h3, h4, h5⟩ := hX
  rw [hlen]
  refine zf_Tc (zf_T (f := fun j => .int (xs j)) ⟨scr, h1, h2, h3, by omega, ?_, h5, Nat.not_le.mpr hb⟩ hU) (fun j hj => ?_)
  · rw [h4]
  · rw [rx_nth_eq, List.getElem?_map, List.getElem?_range hj]
    exact (rx_v_ei _ _).symm
/-- what is left of the claim: a statement of plain Lean on vL -/
def zPlain : Prop := ∀ sc : List Nat, (∀ c ∈ sc, ∃ x : Int32, c = rx_ei x) → sc.length ≤ 3072 → ∃ h' : rx_H, vL sc [4004, 2, 128650, 7] [] (16217, 2233841, [], zE) = some (8, h') ∧ h'.1 ≤ 600000 ∧ h'.2.1 ≤ 7302250
set_option maxHeartbeats 4000000 in
theorem whole_start_open (hplain : zPlain) {p : Program} {e : Env} {s : State} {m : MethodId} {below : List Frame} {meth : Method} {c : Code} (l : Launch) {b L : Nat} {xs : Nat → Int32} (hL : L ≤ 3072) (C0 : lw_At p s m meth c b L xs) : W p l e room_1 s m #[Value.ref b] below meth c s.heap [] 0 0 (lw_Z below #[Value.ref b] s) (entryFrame m ([Value.ref b] : List Value).toArray 4) := by
  obtain ⟨hx, hb, hr, hml, hown, hts, hXs, hbl, hlocks, hgv⟩ := id C0
  have hn : narrow_1.before #[Value.ref b] s = true := za2 hgv
  obtain ⟨v5, g, ad, D, A, hall⟩ := z_given hts hn
  obtain ⟨hZ, hE⟩ := hall b hbl
  have hS := z_script (v5 := v5) (g := g) (ad := ad) (D := D) (A := A) hXs hbl hL
  obtain ⟨h', r1, r2, r3⟩ := hplain ((List.range L).map fun j => rx_ei (xs j)) (fun c hc => by
    obtain ⟨j, -, rfl⟩ := List.mem_map.mp hc
    exact ⟨_, rfl⟩) (by simp; exact hL)
  have hl := lv_entry ([.ref b]) (n := 4) (Nat.le_of_ble_eq_true rfl)
  rw [lg_entry_eq]
  generalize (lg_sl ([.ref b]) ++ List.replicate (4 - (lg_sl ([.ref b])).length) Slot.unset).toArray = ls at hl ⊢
  have hl : lv_has ls 4 [(0, .ref b)] := hl
  obtain ⟨-, -, kk⟩ := okL0 hZ hS [4004, 7, 7, 7] [] (0, 0, [], zt5) 8 h' (zrun0 r1)
  have hC : rx_Cx (zV s.heap.size (zEv v5 g b ad) D A (zX s)) mL_law p s m #[Value.ref b] meth c := ⟨hx, hb, hml, hr, hlocks, hown, fun w hw => hts w (List.mem_filter.mp hw).1, fun h => by cases h⟩
  have hW : rx_w (zV s.heap.size (zEv v5 g b ad) D A (zX s)) (0, 0, [], zt5) s.heap := ⟨rfl, fun i hi => absurd hi (Nat.not_lt_zero _), fun k lo hi h => by simp at h⟩
  have hF : rx_F (zV s.heap.size (zEv v5 g b ad) D A (zX s)) s s.heap [] := ⟨fun q _ => rfl, fun x hx => absurd hx List.not_mem_nil, Nat.le_refl _⟩
  have hLs : rx_L (zV s.heap.size (zEv v5 g b ad) D A (zX s)) ls 4 [4004, 7, 7, 7] := by
    refine ⟨hl.1, hl.2.1, fun i c hi h7 => ?_⟩
    match i, hi with
    | 0, hi =>
      cases hi
      have := hl.2.2 _ List.mem_cons_self
      rw [show rx_v (zV s.heap.size (zEv v5 g b ad) D A (zX s)) 4004 = .ref b from rfl]
      exact this
    | 1, hi => cases hi; exact absurd rfl h7
    | 2, hi => cases hi; exact absurd rfl h7
    | 3, hi => cases hi; exact absurd rfl h7
    | i + 4, hi => simp at hi
  have hk := kk p l e room_1 s m #[Value.ref b] below meth c hC hE 0 0 (Nat.le_refl _) (Nat.le_refl _) (Nat.le_of_ble_eq_true rfl) (Nat.le_of_ble_eq_true rfl) r2 r3 s.heap [] ls hW hF hLs
  intro T hT XT
  obtain ⟨t, a1, a2⟩ := hk T hT XT
  exact ⟨t, a1, z_end a2 rfl r2 r3⟩

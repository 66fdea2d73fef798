/-! THE CLAIM OUT OF ONE WALK OF THE LAW'S BODY. Your part is whole_start (and what it stands on); all else here is the same for every law, but numbers. -/
def lw_P (b : Addr) (xs : List Int32) (args : Array Value) (s : State) : Prop := args = #[.ref b] ∧ s.IntsAt b xs ∧ xs.length ≤ 6 ∧ (Jvm.Cond.and given_1 narrow_1).before args s = true
def lw_Q (_ : Array Value) (s : State) (o : Outcome) (t : State) : Prop := o = .returned (some (.int 1)) ∧ Framed s o t [] 600000 7302250
def lw_Z (below : List Frame) (a : Array Value) (s : State) : State → Prop := fun t => ∃ o, t.status = .running ∧ Ended t below o ∧ lw_Q a s o t
/-- the law's own end, with 1 on the stack, nothing written that was there before, its room as the claim has it -/
theorem lw_ret {p : Program} {l : Launch} {e : Env} {s : State} {m : MethodId} {below : List Frame} {meth : Method} {c : Code} {b : Nat} (hx : p.tables.exec = Jvm.exec) (hb : c.code = code) (hr : meth.sig.returnType = ret) (hlocks : meth.locks = false) {pc : Nat} {H : Heap} {ls : Array Slot} (hdg : decode code pc = .ok (.ireturn, 1)) : W p l e room_1 s m #[Value.ref b] below meth c H [] 600000 7302250 (lw_Z below #[Value.ref b] s) (F0 m pc ls [.int 1]) := by
  intro T hT X
  obtain ⟨fs, hret, hrun, hended, hW, hframe⟩ := X.leave (v := some (.int 1)) (hlocks := hlocks) (fun h => by rw [hr] at h; cases h)
  have hmeth' : T.vm.method? m = some meth := X.method'
  refine ⟨T.setFrames fs, ?_, .returned (some (.int 1)), hrun, hended, rfl, ⟨_, rfl⟩, hW, hframe⟩
  jvm_step X.here [X.here.top, hx, hb, hdg, hmeth', hr, ret, narrow_b1]
  (try refine ⟨rfl, ?_⟩); (try refine ⟨rfl, ?_⟩)
  first | (intro acts; rw [hret _ acts rfl rfl rfl]) | rw [hret _ _ rfl rfl rfl]
  exact Steps.refl _
/-- what holds at the law's entry: the machine, the code, the tables' words (any of lw_tbl by 'hts w (by decide +kernel)'), the script of L ints xs at the cell b, what the Statement gives of the start (any of its parts by flat_of_before) -/
def lw_At (p : Program) (s : State) (m : MethodId) (meth : Method) (c : Code) (b L : Nat) (xs : Nat → Int32) : Prop :=
  p.tables.exec = Jvm.exec ∧ c.code = code ∧ meth.sig.returnType = ret ∧ c.maxLocals = 4 ∧ s.vm.findClass R_law = some m.cls ∧ (∀ w ∈ lw_tbl, w.before #[Value.ref b] s = true) ∧ va_X b L xs s s.heap ∧ b < s.heap.size ∧ meth.locks = false ∧ (Jvm.Cond.and given_1 narrow_1).before #[Value.ref b] s = true
theorem z_end {V : rx_V} {below : List Frame} {args : Array Value} {s t : State} {h' : rx_H} {mc ms : Nat} (h : MQ below (rx_Q V 8 h') args s mc ms (fun q => eb V ≤ q) t) (hb : eb V = s.heap.size) (hm : mc ≤ 600000) (hz : ms ≤ 7302250) : lw_Z below args s t := by
  obtain ⟨o, h1, h2, ⟨h3, -, -⟩, L, ⟨⟨v, hv⟩, hw, hs⟩, hL⟩ := h
  refine ⟨o, h1, h2, h3.trans rfl, ⟨v, hv⟩, hw, ?_⟩
  exact (State.sameButNew.drop_fresh (L := []) hs (fun x hx => by rw [← hb]; exact hL x hx)).mono hm hz
theorem z_nth (iv : List (Int × Int)) : ∀ (k0 i : Nat) (lo hi : Int), iv[i]? = some (lo, hi) → rx_nth (zsc1 k0 iv) i 7 = if lo = hi then 8 * (lo % 4294967296).toNat else 8 * (k0 + i) + 4 := by
  induction iv with
  | nil => intro k0 i lo hi h; simp at h
  | cons a iv ih =>
    intro k0 i lo hi h
    obtain ⟨l, r⟩ := a
    cases i with
    | zero =>
      simp only [List.getElem?_cons_zero, Option.some.injEq, Prod.mk.injEq] at h
      obtain ⟨rfl, rfl⟩ := h
      rfl
    | succ i =>
      rw [List.getElem?_cons_succ] at h
      have h2 := ih (k0 + 1) i lo hi h
      show rx_nth (zsc1 (k0 + 1) iv) i 7 = _
      rw [h2, show k0 + 1 + i = k0 + (i + 1) by omega]
theorem z_con {V : rx_V} {x : Int32} {lo : Int} (h : x.toInt = lo) : rx_v V (8 * (lo % 4294967296).toNat) = .int x := by
  rw [rx_v_0 (by omega)]
  congr 1
  apply Int32.toInt_inj.mp
  rw [rx_di_int, show ((8 * (lo % 4294967296).toNat : Nat) : Int) / 8 = lo % 4294967296 by omega, h]
  have h1 := Int32.le_toInt x
  have h2 := Int32.toInt_lt x
  rw [h] at h1 h2
  rw [Int.bmod_def]
  split <;> omega
theorem z_63 (x : Int32) : x &&& 63 = rx_di (8 * (x.toBitVec.toNat % 64)) := by
  apply Int32.toBitVec_inj.mp
  apply BitVec.eq_of_toNat_eq
  rw [rx_di_nat]
  show (x.toBitVec &&& (63 : Int32).toBitVec).toNat = _
  rw [BitVec.toNat_and]
  show x.toBitVec.toNat &&& (2 ^ 6 - 1) = _
  rw [Nat.and_two_pow_sub_one_eq_mod]
  have := Nat.mod_lt x.toBitVec.toNat (show 0 < 64 by decide)
  omega
theorem z_script {s : State} {b L : Nat} {xs : Nat → Int32} {e : Nat → Value} {D : va_G} {A : Nat → ClassId} {sc : List Nat} {w : Nat} (hX : va_X b L xs s s.heap) (hb : b < s.heap.size) (hL : L ≤ 6) (he : e 12 = .ref b) (hsc : ∀ j, 1 ≤ j → j < L → .int (xs j) = rx_v (zV s.heap.size e D A (zX s)) (rx_nth sc j 7)) (hw : 1 ≤ L → xs 0 &&& 63 = rx_di (8 * w)) : zS s.heap.size e D A (zX s) sc w L := by
  refine ⟨fun j => .int (xs j), fun U hU => ⟨b, he, ?_⟩, by omega, hsc, fun h => ⟨xs 0, rfl, hw h⟩⟩
  obtain ⟨scr, h1, h2, h3, h4, h5⟩ := hX
  refine zf_T ⟨scr, h1, h2, h3, by omega, ?_, h5, Nat.not_le.mpr hb⟩ hU
  rw [h4]
set_option maxHeartbeats 4000000 in
theorem first_start {p : Program} {e : Env} {s : State} {m : MethodId} {below : List Frame} {meth : Method} {c : Code} (l : Launch) {b L : Nat} {xs : Nat → Int32} (hL : L ≤ 6) (C0 : lw_At p s m meth c b L xs) : W p l e room_1 s m #[Value.ref b] below meth c s.heap [] 0 0 (lw_Z below #[Value.ref b] s) (entryFrame m ([Value.ref b] : List Value).toArray 4) := by
  obtain ⟨hx, hb, hr, hml, hown, hts, hXs, hbl, hlocks, hgv⟩ := id C0
  have hn : narrow_1.before #[Value.ref b] s = true := za2 hgv
  obtain ⟨v5, q6, t7, q8, t9, q10, t11, D, A, hall⟩ := z_given hts hn
  obtain ⟨hZ, hE⟩ := hall xs L b hbl
  generalize hV : zEv xs L v5 q6 t7 q8 t9 q10 t11 b = ev at hZ hE
  have he12 : ev 12 = .ref b := by rw [← hV]; rfl
  have hek : ∀ k, k < 5 → ev k = .int (if k + 1 < L then xs (k + 1) else 0) := fun k hk => by rw [← hV]; exact if_pos hk
  have run : ∃ (iv : List (Int × Int)) (sc : List Nat) (w : Nat) (h' : rx_H), fL sc w L [100, 2, 128650, 7] [] (16217, 2233841, iv, zE) = some (8, h') ∧ h'.1 ≤ 600000 ∧ h'.2.1 ≤ 7302250 ∧ zS s.heap.size ev D A (zX s) sc w L ∧ ∀ (k : Nat) (lo hi : Int), iv[k]? = some (lo, hi) → k < 5 ∧ ∃ v, ev k = .int v ∧ lo ≤ v.toInt ∧ v.toInt ≤ hi := by
    have short : ∀ {k : Nat}, L = k → k < 6 → (∀ (sc : List Nat) (w : Nat), zq_ok (fL sc w k [100, 2, 128650, 7] [] (16217, 2233841, [], zE)) = true) → ∃ (iv : List (Int × Int)) (sc : List Nat) (w : Nat) (h' : rx_H), fL sc w L [100, 2, 128650, 7] [] (16217, 2233841, iv, zE) = some (8, h') ∧ h'.1 ≤ 600000 ∧ h'.2.1 ≤ 7302250 ∧ zS s.heap.size ev D A (zX s) sc w L ∧ ∀ (k : Nat) (lo hi : Int), iv[k]? = some (lo, hi) → k < 5 ∧ ∃ v, ev k = .int v ∧ lo ≤ v.toInt ∧ v.toInt ≤ hi := by
      intro k hk h6 hq
      subst hk
      obtain ⟨h', r1, r2, r3⟩ := zq_ok_ok (hq ((List.range 6).map fun j => rx_ei (xs j)) ((xs 0).toBitVec.toNat % 64))
      refine ⟨[], _, _, h', r1, r2, r3, z_script hXs hbl hL he12 (fun j h1 h2 => ?_) (fun _ => z_63 (xs 0)), fun k lo hi h => by simp at h⟩
      rw [rx_nth_eq, List.getElem?_map, List.getElem?_range (by omega)]
      exact (rx_v_ei _ _).symm
    rcases Nat.lt_or_ge L 6 with h6 | h6
    · rcases (show L = 0 ∨ L = 1 ∨ L = 2 ∨ L = 3 ∨ L = 4 ∨ L = 5 by omega) with h | h | h | h | h | h
      · exact short h (by decide) zsh0
      · exact short h (by decide) zsh1
      · exact short h (by decide) zsh2
      · exact short h (by decide) zsh3
      · exact short h (by decide) zsh4
      · exact short h (by decide) zsh5
    · have e6 : L = 6 := by omega
      subst e6
      have hw64 : (xs 0).toBitVec.toNat % 64 < 64 := Nat.mod_lt _ (by decide)
      refine zall _ hw64 _ (fun k => (xs (k + 1)).toInt) (fun k => ⟨Int32.le_toInt _, by have := Int32.toInt_lt (xs (k + 1)); omega⟩) fun iv hlf hbox => ?_
      obtain ⟨h', r1, r2, r3⟩ := zq_ok_ok hlf
      refine ⟨iv, zsc iv, _, h', r1, r2, r3, z_script hXs hbl (Nat.le_refl 6) he12 (fun j h1 h2 => ?_) (fun _ => z_63 (xs 0)), fun k lo hi hk => ?_⟩
      · obtain ⟨i, rfl⟩ : ∃ i, j = i + 1 := ⟨j - 1, by omega⟩
        have hi : i < iv.length := by rw [hbox.1]; omega
        obtain ⟨⟨lo, hi2⟩, hp⟩ : ∃ q, iv[i] = q := ⟨_, rfl⟩
        have hg : iv[i]? = some (lo, hi2) := by rw [List.getElem?_eq_getElem hi, hp]
        obtain ⟨k5, b1, b2⟩ := hbox.2 i lo hi2 hg
        have b3 : lo ≤ (xs (i + 1)).toInt := b1
        have b4 : (xs (i + 1)).toInt ≤ hi2 := b2
        show _ = rx_v _ (rx_nth (zsc1 0 iv) i 7)
        rw [z_nth iv 0 i lo hi2 hg]
        split
        · next q => exact (z_con (by omega)).symm
        · rw [rx_v_4 (by omega), show (8 * (0 + i) + 4) / 8 = i by omega]
          show _ = ev i
          rw [hek i k5, if_pos (by omega)]
      · obtain ⟨k5, b1, b2⟩ := hbox.2 k lo hi hk
        exact ⟨k5, xs (k + 1), by rw [hek k k5, if_pos (by omega)], b1, b2⟩
  obtain ⟨iv, sc, w, h', r1, r2, r3, hS, hiv⟩ := run
  have hl := lv_entry ([.ref b]) (n := 4) (Nat.le_of_ble_eq_true rfl)
  rw [lg_entry_eq]
  generalize (lg_sl ([.ref b]) ++ List.replicate (4 - (lg_sl ([.ref b])).length) Slot.unset).toArray = ls at hl ⊢
  have hl : lv_has ls 4 [(0, .ref b)] := hl
  obtain ⟨-, -, kk⟩ := okL0 hZ hS hiv [100, 7, 7, 7] [] (0, 0, [], zt5) 8 h' (zrun0 r1)
  have hC : rx_Cx (zV s.heap.size ev D A (zX s)) mL_law p s m #[Value.ref b] meth c := ⟨hx, hb, hml, hr, hlocks, hown, fun w hw => hts w (List.mem_filter.mp hw).1, fun h => by cases h⟩
  have hW : rx_w (zV s.heap.size ev D A (zX s)) (0, 0, [], zt5) s.heap := ⟨rfl, fun i hi => absurd hi (Nat.not_lt_zero _), fun k lo hi h => by simp at h⟩
  have hF : rx_F (zV s.heap.size ev D A (zX s)) s s.heap [] := ⟨fun q _ => rfl, fun x hx => absurd hx List.not_mem_nil, Nat.le_refl _⟩
  have hLs : rx_L (zV s.heap.size ev D A (zX s)) ls 4 [100, 7, 7, 7] := by
    refine ⟨hl.1, hl.2.1, fun i c hi h7 => ?_⟩
    match i, hi with
    | 0, hi =>
      cases hi
      have := hl.2.2 _ List.mem_cons_self
      rw [show rx_v (zV s.heap.size ev D A (zX s)) 100 = .ref b from he12]
      exact this
    | 1, hi => cases hi; exact absurd rfl h7
    | 2, hi => cases hi; exact absurd rfl h7
    | 3, hi => cases hi; exact absurd rfl h7
    | i + 4, hi => simp at hi
  have hk := kk p l e room_1 s m #[Value.ref b] below meth c hC hE 0 0 (Nat.le_refl _) (Nat.le_refl _) (Nat.le_of_ble_eq_true rfl) (Nat.le_of_ble_eq_true rfl) r2 r3 s.heap [] ls hW hF hLs
  intro T hT XT
  obtain ⟨t, a1, a2⟩ := hk T hT XT
  exact ⟨t, a1, z_end a2 rfl r2 r3⟩

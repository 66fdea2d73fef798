section RX21
variable {V : rx_V} {M : rx_M} {d pc : Nat} {f t : rx_K}
-- what lies outside and is never written
theorem rx_S {s : State} {H : Heap} {locs : List Loc} (hF : rx_F V s H locs) : va_S (fun q => eb V ≤ q) s.heap H locs := ⟨hF.2.2, fun q _ h => hF.1 q (Nat.not_le.mp h), hF.2.1⟩
theorem s_gets {c index : Nat} {C n ds ref : String} (hX : ∀ s, eX V s → va_Z C n ds (rx_v V c) (fun q => eb V ≤ q) s s.heap) (hs : ref = C ∨ Cond.sameField ref C n ds ∈ eW V) (hw : Cond.fieldLink M.1 index ref n ds ∈ eW V) (hdg : decode M.2.1 pc = .ok (.getstatic index, 3)) (hk : rx_OK V M d (pc + 3) f) : rx_OK V M d pc (o_const c f) := by
  refine rx_pure fun lv st h r h' hf => ⟨pc + 3, f, lv, _, hk, hf, fun p l e R s m args below meth c hC hE H locs ls cells slots Q hW hF hL kk => ?_⟩
  have hts := hC.2.2.2.2.2.2.1
  refine va_gets hC.1 hC.2.1 (hX s hE.2.1) (rx_S hF) hC.2.2.2.2.2.1 (hts _ hw) (fun x hx => ?_) hdg (kk ls hL)
  rcases hs with rfl | hs
  · exact hx
  · exact u_same (args := args) (hts _ hs) x hx
noncomputable def o_xv (k c : Nat) (g : rx_K) : rx_K := fun lv st h => match st with
  | o :: r => bif Nat.beq o (8 * k + 4) then g lv (c :: r) h else none
  | _ => none
theorem s_xgetf {k c index : Nat} {o n ds ref : String} (hX : ∀ s, eX V s → ∃ q, ex V k = .ref q ∧ va_OF o n ds (rx_v V c) q (fun q => eb V ≤ q) s s.heap) (hs : ref = o ∨ Cond.sameField ref o n ds ∈ eW V) (hw : Cond.fieldLink M.1 index ref n ds ∈ eW V) (hdg : decode M.2.1 pc = .ok (.getfield index, 3)) (hk : rx_OK V M d (pc + 3) f) : rx_OK V M d pc (o_xv k c f) := by
  refine rx_pure fun lv st h r h' hf => ?_
  match st, hf with
  | [], hf => cases hf
  | a :: st, hf =>
  simp only [o_xv] at hf
  obtain ⟨hc, hf⟩ := rx_bifn hf
  have hc := rx_beq hc
  refine ⟨pc + 3, f, lv, _, hk, hf, fun p l e R s m args below meth c hC hE H locs ls cells slots Q hW hF hL kk => ?_⟩
  have hts := hC.2.2.2.2.2.2.1
  obtain ⟨q, e1, e2⟩ := hX s hE.2.1
  rw [List.map_cons, rx_v_4 (by omega), show a / 8 = k by omega, e1]
  refine vk_getf hC.1 hC.2.1 e2 (rx_S hF) hC.2.2.2.2.2.1 (hts _ hw) (fun x hx => ?_) hdg (kk ls hL)
  rcases hs with rfl | hs
  · exact hx
  · exact u_same (args := args) (hts _ hs) x hx
theorem s_xalen {k n : Nat} {ty : FieldType} {g : Nat → Value} (hX : ∀ s, eX V s → ∃ q, ex V k = .ref q ∧ va_T ty q n g (fun q => eb V ≤ q) s s.heap) (hdg : decode M.2.1 pc = .ok (.arraylength, 1)) (hk : rx_OK V M d (pc + 1) f) : rx_OK V M d pc (o_xv k (8 * n) f) := by
  refine rx_pure fun lv st h r h' hf => ?_
  match st, hf with
  | [], hf => cases hf
  | a :: st, hf =>
  simp only [o_xv] at hf
  obtain ⟨hc, hf⟩ := rx_bifn hf
  have hc := rx_beq hc
  refine ⟨pc + 1, f, lv, _, hk, hf, fun p l e R s m args below meth c hC hE H locs ls cells slots Q hW hF hL kk => ?_⟩
  obtain ⟨q, e1, e2⟩ := hX s hE.2.1
  have h2 := kk ls hL
  rw [List.map_cons, rx_v_0 (by omega)] at h2
  rw [List.map_cons, rx_v_4 (by omega), show a / 8 = k by omega, e1]
  refine va_tlen hC.1 hC.2.1 e2 (rx_S hF) ?_ hdg h2
  unfold rx_di
  rw [show 8 * n / 8 = n by omega]
noncomputable def o_xald (k : Nat) (bs : List Nat) (g : rx_K) : rx_K := fun lv st h => match st with
  | i :: o :: r => bif Nat.beq o (8 * k + 4) && (Nat.beq (i % 8) 0 && Nat.blt (i / 8) bs.length) then rx_f (rx_nth bs (i / 8) 7) fun v => g lv (v :: r) h else none
  | _ => none
theorem s_xbald {k : Nat} {bs : List Nat} (hbs : bs.length < 2147483648) (hX : ∀ s, eX V s → ∃ q, ex V k = .ref q ∧ va_T .byte q bs.length (fun j => rx_v V (rx_nth bs j 7)) (fun q => eb V ≤ q) s s.heap) (hdg : decode M.2.1 pc = .ok (.baload, 1)) (hk : rx_OK V M d (pc + 1) f) : rx_OK V M d pc (o_xald k bs f) := by
  refine rx_pure fun lv st h r h' hf => ?_
  match st, hf with
  | [], hf => cases hf
  | [_], hf => cases hf
  | i :: a :: st, hf =>
  simp only [o_xald, rx_f_eq] at hf
  obtain ⟨hc, hf⟩ := rx_bifn hf
  obtain ⟨hc, hi⟩ := Bool.and_eq_true_iff.mp hc
  obtain ⟨hi, hlt⟩ := Bool.and_eq_true_iff.mp hi
  have hc := rx_beq hc
  have hlt : i / 8 < bs.length := Nat.le_of_ble_eq_true hlt
  refine ⟨pc + 1, f, lv, _, hk, hf, fun p l e R s m args below meth c hC hE H locs ls cells slots Q hW hF hL kk => ?_⟩
  obtain ⟨q, e1, e2⟩ := hX s hE.2.1
  obtain ⟨x1, x2⟩ := rx_in (x := rx_di i) (i := i / 8) (n := bs.length) rfl hlt hbs
  rw [List.map_cons, List.map_cons, rx_v_0 (rx_beq hi), rx_v_4 (by omega), show a / 8 = k by omega, e1]
  exact va_tb hC.1 hC.2.1 e2 (rx_S hF) x1 (by rw [x2]) hdg (kk ls hL)
-- constants that are strings
theorem s_ldcS {k index : Nat} {tx : String} (hX : ∀ s, eX V s → ∃ q, ex V k = .ref q ∧ vk_R M.1 index tx q s) (hdg : decode M.2.1 pc = .ok (.ldc index, 2)) (hk : rx_OK V M d (pc + 2) f) : rx_OK V M d pc (o_const (8 * k + 4) f) := by
  refine rx_pure fun lv st h r h' hf => ⟨pc + 2, f, lv, _, hk, hf, fun p l e R s m args below meth c hC hE H locs ls cells slots Q hW hF hL kk => ?_⟩
  obtain ⟨q, e1, e2⟩ := hX s hE.2.1
  have h2 := kk ls hL
  rw [List.map_cons, rx_v_4 (by omega), show (8 * k + 4) / 8 = k by omega, e1] at h2
  exact va_ldcS hC.1 hC.2.1 hC.2.2.2.2.2.1 e2 hdg h2
-- a call whose receiver lies outside
noncomputable def o_callX (n k : Nat) (g : List Nat → rx_H → Option (Nat × rx_H)) (kk : rx_K) : rx_K := fun lv st h => rx_take n st [] fun As rest => match rest with
  | o :: rest => bif Nat.beq o (8 * k + 4) then rx_go g (o :: As) rest lv h kk else none
  | _ => none
theorem s_callX (hV : rx_Ok V) {dy index n k : Nat} {C : String} {y : MethodName} {My : rx_M} {g : List Nat → rx_H → Option (Nat × rx_H)} (hg : rx_Met V dy y My g) (hd : dy + 1 ≤ d) (hy : rx_Y V y My n) (hX : ∀ s, eX V s → ∃ q, ex V k = .ref q ∧ va_O C q (fun q => eb V ≤ q) s s.heap) (hin : Cond.instanceMethod y ∈ eW V) (hse : Cond.selects C y y ∈ eW V) (hln : Cond.methodLink M.1 index y ∈ eW V) (hdg : decode M.2.1 pc = .ok (.invokevirtual index, 3)) (hk : rx_OK V M d (pc + 3) f) : rx_OK V M d pc (o_callX n k g f) := by
  refine rx_heap fun lv st h r h' hf => ?_
  obtain ⟨As, rest0, hs, hl, hf⟩ := rx_take_some _ _ _ _ _ hf
  rw [List.append_nil] at hf
  match rest0, hs, hf with
  | [], _, hf => cases hf
  | o :: rest, hs, hf =>
  obtain ⟨ho, hf⟩ := rx_bifn hf
  have ho := rx_beq ho
  obtain ⟨h8, r1, h1, hgf, st', hf, hst'⟩ := rx_go_some (V := V) hf
  obtain ⟨i1, i2, hMet⟩ := hg (o :: As) h r1 h1 hgf
  refine ⟨pc + 3, f, lv, st', h1, hk, hf, i1, i2, fun p l e R s m args below meth c hC hE n0 z0 hn0 hz0 hR1 hR2 hR3 hR4 H locs ls Q hW hF hL kk => ?_⟩
  subst hs
  have hts := hC.2.2.2.2.2.2.1
  have hroom : ((rest.map (rx_v V)).map fun v => v.category).sum ≤ 8 := by rw [rx_cat_sum hV]; exact h8
  have hRr : dy + 1 ≤ R.frames ∧ 8 + (My.2.2.1 + 11) + 40 * dy ≤ R.locals := ⟨by omega, by have := hy.2.2.1; omega⟩
  obtain ⟨q, e1, cell, q1, q2, q3, q4⟩ := hX s hE.2.1
  have e3 : rx_v V o = .ref q := by rw [rx_v_4 (by omega), show o / 8 = k by omega, e1]
  have hpre := rx_preS hV hE hW hF (o :: As)
  rw [List.map_cons, e3] at hpre
  have hMl := hMet l
  rw [List.map_cons, e3] at hMl
  have hfb := rx_fb hV (h := h) (As := o :: As)
  rw [List.map_cons, e3] at hfb
  have hst : (As.reverse ++ o :: rest).map (rx_v V) = (As.map (rx_v V)).reverse ++ .ref q :: rest.map (rx_v V) := by rw [List.map_append, List.map_reverse, List.map_cons, e3]
  have hPV : PreV s H C q (va_Pc (.ref q :: As.map (rx_v V)) (fun U => rx_w V h U.heap ∧ rx_En V U)) (As.map (rx_v V)) := ⟨hfb, ⟨cell, by rw [hF.1 q (Nat.not_le.mp q4)]; exact q1, q2, q3⟩, hpre⟩
  exact rx_fin (va_runV (As := As.map (rx_v V)) (rest := rest.map (rx_v V)) ⟨hC.1, hC.2.1, hC.2.2.1, hC.2.2.2.2.2.1, hts⟩ hMl ⟨callB_of n hts (rx_good hV hy.1) rfl rfl rfl (hts _ hy.2.1) (hts _ hln) hy.2.2.2 hRr, hts _ hin, hts _ hse⟩ hPV rfl (by rw [List.length_map]; exact hl) hL.1 hst (lv_room hroom) hdg ⟨by omega, by omega⟩) hn0 hz0 i1 i2 hW hF hL hst' kk
-- casts
noncomputable def o_cast (cis : List Nat) (k : rx_K) : rx_K := fun lv st h => match st with
  | v :: r => bif Nat.beq (v % 8) 3 then k lv (v :: r) h else bif Nat.beq (v % 8) 2 && Nat.blt (v / 8) h.1 then (match rx_hg h (v / 8) with
    | (z, c, _, _, _) => bif Nat.beq z 0 && cis.any (Nat.beq c) then k lv (v :: r) h else none) else none
  | _ => none
theorem s_cast {index : Nat} {nm : String} {cis : List Nat} (hcis : ∀ ci ∈ cis, ∃ r, (eC V)[ci]? = some r ∧ (r.1 = nm ∨ Cond.castable r.1 nm ∈ eW V)) (hw : Cond.classLink M.1 index nm ∈ eW V) (hdg : decode M.2.1 pc = .ok (.checkcast index, 3)) (hk : rx_OK V M d (pc + 3) f) : rx_OK V M d pc (o_cast cis f) := by
  refine rx_pure fun lv st h r h' hf => ?_
  match st, hf with
  | [], hf => cases hf
  | v :: st, hf =>
  simp only [o_cast] at hf
  rcases rx_bif hf with ⟨hc, hf⟩ | ⟨-, hf⟩
  · refine ⟨pc + 3, f, lv, _, hk, hf, fun p l e R s m args below meth c hC hE H locs ls cells slots Q hW hF hL kk => ?_⟩
    have h2 := kk ls hL
    rw [List.map_cons, rx_v_3 (rx_beq hc)] at h2 ⊢
    exact lv_castN hC.1 hC.2.1 hdg h2
  · obtain ⟨hc0, hf0⟩ := rx_bifn hf
    clear hf
    obtain ⟨c1, c2⟩ := Bool.and_eq_true_iff.mp hc0
    have hlt : v / 8 < h.1 := Nat.le_of_ble_eq_true c2
    generalize he : rx_hg h (v / 8) = en at hf0
    obtain ⟨z, ci, nv, fv, uv⟩ := en
    dsimp only at hf0
    obtain ⟨hc1, hf1⟩ := rx_bifn hf0
    obtain ⟨hz, hany⟩ := Bool.and_eq_true_iff.mp hc1
    obtain ⟨cj, hcj, hcb⟩ := List.any_eq_true.mp hany
    have hcc : ci = cj := rx_beq hcb
    subst hcc
    rw [rx_beq hz] at he
    obtain ⟨r0, hr0, hr1⟩ := hcis ci hcj
    refine ⟨pc + 3, f, lv, _, hk, hf1, fun p l e R s m args below meth c hC hE H locs ls cells slots Q hW hF hL kk => ?_⟩
    have hts := hC.2.2.2.2.2.2.1
    have h1 := hW.2.1 _ hlt
    rw [he] at h1
    obtain ⟨-, cell, q1, q2, q3, q4⟩ := h1
    obtain ⟨hS, hfc, kC, hkC, hkind⟩ := hE.1.1 ci _ hr0
    have h2 := kk ls hL
    rw [List.map_cons, rx_v_2 (rx_beq c1)] at h2 ⊢
    rcases hr1 with hr1 | hr1
    · rw [hr1] at hfc
      exact va_castS hC.1 hC.2.1 hC.2.2.2.2.2.1 (hts _ hw) ⟨hfc, kC, hkC, hkind⟩ ⟨cell, q1, by rw [q3]; rfl, by rw [q2]; exact hfc⟩ hdg h2
    · exact va_castY hC.1 hC.2.1 hC.2.2.2.2.2.1 (hts _ hw) (va_Nw.of rfl (hts _ hr1)) ⟨cell, q1, by rw [q3]; rfl, by rw [q2]; exact hfc⟩ hdg h2
end RX21

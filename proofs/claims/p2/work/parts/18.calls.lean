section RX18
variable {V : rx_V} {M : rx_M} {d pc : Nat} {f t : rx_K}
-- ends
noncomputable def o_ret1 (chk : Nat → Bool) : rx_K := fun _ st h => match st with
  | [v] => bif chk v then some (v, h) else none
  | _ => none
noncomputable def o_ret0 : rx_K := fun _ st h => match st with
  | [] => some (7, h)
  | _ => none
theorem rx_r_v {c : Nat} (h : c % 8 ≠ 7) : rx_r V c = some (rx_v V c) := if_neg h
theorem rx_ret1 {chk : Nat → Bool} (row : ∀ (p : Program) (l : Launch) (e : Env) (R : Room) (s : State) (m : MethodId) (args : Array Value) (below : List Frame) (meth : Method) (c : Code) (H : Heap) (locs : List Loc) (ls : Array Slot) (cells slots : Nat) (Qc : Array Value → State → Outcome → State → Prop) (free : Addr → Prop), rx_Cx V M p s m args meth c → ∀ v : Nat, chk v = true → (∀ t : State, t.heap = H → Qc args s (.returned (some (rx_v V v))) t) → (∀ q ∈ locs, free q.base) → W p l e R s m args below meth c H locs cells slots (MQ below Qc args s cells slots free) (F0 m pc ls [rx_v V v])) (h7 : ∀ v : Nat, chk v = true → v % 8 ≠ 7) : rx_OK V M d pc (o_ret1 chk) := by
  intro lv st h r h' hf
  match st, hf with
  | [], hf => cases hf
  | _ :: _ :: _, hf => cases hf
  | [v], hf =>
  simp only [o_ret1] at hf
  obtain ⟨hc, hf⟩ := rx_bifn hf
  have e := Option.some.inj hf
  have e1 : v = r := congrArg Prod.fst e
  have e2 : h = h' := congrArg Prod.snd e
  subst e1; subst e2
  refine ⟨Nat.le_refl _, Nat.le_refl _, fun p l e R s m args below meth c hC hE n0 z0 hn hz hR1 hR2 hR3 hR4 H locs ls hW hF hL => ?_⟩
  exact row p l e R s m args below meth c H locs ls _ _ _ _ hC v hc (fun t ht => ⟨by rw [rx_r_v (h7 v hc)], by rw [ht]; exact hW, fun q hq => by rw [ht]; exact hF.1 q hq⟩) hF.2.1
theorem s_iret (hV : rx_Ok V) (hr : M.2.2.2.1 = some .int) (hdg : decode M.2.1 pc = .ok (.ireturn, 1)) : rx_OK V M d pc (o_ret1 rx_isI) :=
  rx_ret1 (fun p l e R s m args below meth c H locs ls cells slots Qc free hC v hv hq hf => by
    obtain ⟨-, x, ex⟩ := rx_isI_v hV hv
    rw [ex] at hq ⊢
    exact W.iret hC.1 hC.2.1 (hC.2.2.2.1.trans hr) (fun t ht _ => hq t ht) hf hdg hC.2.2.2.2.1) (fun v hv => (rx_isI_v hV hv).1)
theorem s_zret {ty : FieldType} {chk : Nat → Bool} (hchk : ∀ v, chk v = true → v % 8 = 0 ∧ narrow ty (.int (rx_di v)) = .int (rx_di v)) (hr : M.2.2.2.1 = some ty) (hdg : decode M.2.1 pc = .ok (.ireturn, 1)) : rx_OK V M d pc (o_ret1 chk) :=
  rx_ret1 (fun p l e R s m args below meth c H locs ls cells slots Qc free hC v hv hq hf => by
    obtain ⟨h0, hn⟩ := hchk v hv
    rw [rx_v_0 h0] at hq ⊢
    exact W.zret hC.1 hC.2.1 (hC.2.2.2.1.trans hr) hn (fun t ht _ => hq t ht) hf hdg hC.2.2.2.2.1) (fun v hv => by have := (hchk v hv).1; omega)
theorem rx_z_ok : ∀ v, rx_isZ v = true → v % 8 = 0 ∧ narrow .boolean (.int (rx_di v)) = .int (rx_di v) := by
  intro v hv
  rcases Bool.or_eq_true_iff.mp hv with q | q
  · rw [rx_beq q]; exact ⟨rfl, by decide +kernel⟩
  · rw [rx_beq q]; exact ⟨rfl, by decide +kernel⟩
def rx_isC (c : Nat) : Bool := Nat.beq (c % 8) 0 && decide (narrow .char (.int (rx_di c)) = .int (rx_di c))
theorem rx_c_ok : ∀ v, rx_isC v = true → v % 8 = 0 ∧ narrow .char (.int (rx_di v)) = .int (rx_di v) := by
  intro v hv
  obtain ⟨h1, h2⟩ := Bool.and_eq_true_iff.mp hv
  exact ⟨rx_beq h1, of_decide_eq_true h2⟩
def rx_isY (c : Nat) : Bool := Nat.beq (c % 8) 0 && decide (narrow .byte (.int (rx_di c)) = .int (rx_di c))
theorem rx_y_ok : ∀ v, rx_isY v = true → v % 8 = 0 ∧ narrow .byte (.int (rx_di v)) = .int (rx_di v) := by
  intro v hv
  obtain ⟨h1, h2⟩ := Bool.and_eq_true_iff.mp hv
  exact ⟨rx_beq h1, of_decide_eq_true h2⟩
theorem s_lret (hr : M.2.2.2.1 = some .long) (hdg : decode M.2.1 pc = .ok (.lreturn, 1)) : rx_OK V M d pc (o_ret1 rx_isL) :=
  rx_ret1 (fun p l e R s m args below meth c H locs ls cells slots Qc free hC v hv hq hf => by
    obtain ⟨-, ex⟩ := rx_isL_v (V := V) hv
    rw [ex] at hq ⊢
    exact W.lret hC.1 hC.2.1 (hC.2.2.2.1.trans hr) (fun t ht _ => hq t ht) hf hdg hC.2.2.2.2.1) (fun v hv => by have := rx_beq hv; omega)
theorem s_aret (hV : rx_Ok V) {rt : FieldType} (hr : M.2.2.2.1 = some rt) (hrt : (∃ n, rt = .object n) ∨ ∃ t, rt = .array t) (hdg : decode M.2.1 pc = .ok (.areturn, 1)) : rx_OK V M d pc (o_ret1 rx_isR) :=
  rx_ret1 (fun p l e R s m args below meth c H locs ls cells slots Qc free hC v hv hq hf => by
    obtain ⟨-, hx⟩ := rx_isR_v hV hv
    exact W.aret hC.1 hC.2.1 (hC.2.2.2.1.trans hr) hrt hx (fun t ht _ => hq t ht) hf hdg hC.2.2.2.2.1) (fun v hv => (rx_isR_v hV hv).1)
theorem s_vret (hr : M.2.2.2.1 = none) (hdg : decode M.2.1 pc = .ok (.return_, 1)) : rx_OK V M d pc o_ret0 := by
  intro lv st h r h' hf
  match st, hf with
  | _ :: _, hf => cases hf
  | [], hf =>
  have e := Option.some.inj hf
  have e1 : 7 = r := congrArg Prod.fst e
  have e2 : h = h' := congrArg Prod.snd e
  subst e1; subst e2
  refine ⟨Nat.le_refl _, Nat.le_refl _, fun p l e R s m args below meth c hC hE n0 z0 hn hz hR1 hR2 hR3 hR4 H locs ls hW hF hL => ?_⟩
  exact W.vret hC.1 hC.2.1 (hC.2.2.2.1.trans hr) (fun t ht _ => ⟨rfl, by rw [ht]; exact hW, fun q hq => by rw [ht]; exact hF.1 q hq⟩) hF.2.1 hdg hC.2.2.2.2.1
-- a method, by what it does to codes
def rx_Met (V : rx_V) (d : Nat) (y : MethodName) (M : rx_M) (f : List Nat → rx_H → Option (Nat × rx_H)) : Prop :=
  ∀ (As : List Nat) (h : rx_H) (r : Nat) (h' : rx_H), f As h = some (r, h') → h.1 ≤ h'.1 ∧ h.2.1 ≤ h'.2.1 ∧
    ∀ l : Launch, Met l y (.code y M.2.1 M.2.2.1 M.2.2.2.1 :: eW V) { frames := d, cells := h'.1 - h.1, slots := h'.2.1 - h.2.1, locals := 40 * d } (va_Pc (As.map (rx_v V)) (fun U => rx_w V h U.heap ∧ rx_En V U)) (rx_Q V r h') (h'.1 - h.1) (h'.2.1 - h.2.1) (fun q => eb V ≤ q)
def rx_fl (As : List Nat) : List Nat := As.flatMap fun c => bif Nat.beq (c % 8) 1 then [c, 7] else [c]
noncomputable def rx_pad (n : Nat) : List Nat := Nat.rec [] (fun _ ih => 7 :: ih) n
def rx_cs (As : List Nat) : Nat := (As.map rx_ct).sum
noncomputable def rx_ent (nL : Nat) (f : rx_K) : List Nat → rx_H → Option (Nat × rx_H) := fun As h => bif Nat.ble (rx_cs As) nL && Nat.beq (rx_fl As).length (rx_cs As) then f (rx_fl As ++ rx_pad (nL - rx_cs As)) [] h else none
theorem rx_cat_sum (hV : rx_Ok V) (As : List Nat) : ((As.map (rx_v V)).map fun v => v.category).sum = rx_cs As := by
  unfold rx_cs
  rw [List.map_map]
  congr 1
  apply List.map_congr_left
  intro c _
  exact rx_v_cat hV c
theorem rx_sl_len (vs : List Value) : (lg_sl vs).length = (vs.map fun v => v.category).sum := by
  induction vs with
  | nil => rfl
  | cons v vs ih =>
    rw [List.map_cons, List.sum_cons, ← ih]
    show ((if v.category = 2 then [Slot.val v, .second] else [.val v]) ++ lg_sl vs).length = _
    rw [List.length_append]
    rcases lv_cat v with h | h <;> simp [h]
theorem rx_fl_mem (hV : rx_Ok V) : ∀ (As : List Nat) (k i c : Nat), (rx_fl As)[i]? = some c → c % 8 ≠ 7 → (k + i, rx_v V c) ∈ lv_args k (As.map (rx_v V))
  | [], k, i, c, h, _ => by simp [rx_fl] at h
  | a :: As, k, i, c, h, h7 => by
    have hcat := rx_v_cat hV a
    have e : rx_fl (a :: As) = (bif Nat.beq (a % 8) 1 then [a, 7] else [a]) ++ rx_fl As := by simp [rx_fl]
    rw [e] at h
    show (k + i, rx_v V c) ∈ (k, rx_v V a) :: lv_args (if (rx_v V a).category = 2 then k + 2 else k + 1) (As.map (rx_v V))
    rw [hcat]
    unfold rx_ct
    cases hb : Nat.beq (a % 8) 1 with
    | true =>
      rw [hb] at h
      simp only [cond_true] at h ⊢
      match i, h with
      | 0, h => cases h; simp
      | 1, h => cases h; exact absurd rfl h7
      | i + 2, h =>
        refine List.mem_cons_of_mem _ ?_
        rw [show k + (i + 2) = k + 2 + i by omega]
        simp only [if_true]
        exact rx_fl_mem hV As (k + 2) i c h h7
    | false =>
      rw [hb] at h
      simp only [cond_false] at h ⊢
      match i, h with
      | 0, h => cases h; simp
      | i + 1, h =>
        refine List.mem_cons_of_mem _ ?_
        rw [if_neg (by decide), show k + (i + 1) = k + 1 + i by omega]
        exact rx_fl_mem hV As (k + 1) i c h h7
theorem rx_pad_7 : ∀ (n i c : Nat), (rx_pad n)[i]? = some c → c = 7
  | 0, i, c, h => by cases h
  | n + 1, 0, c, h => by cases h; rfl
  | n + 1, i + 1, c, h => rx_pad_7 n i c h
theorem rx_entry (hV : rx_Ok V) {y : MethodName} (hok : rx_OK V M d 0 f) (hpl : plainName y.cls = true) (hown : y.cls = M.1) (hini : M.2.2.2.2 = true → y.name = "<init>") : rx_Met V d y M (rx_ent M.2.2.1 f) := by
  intro As h r h' hf
  obtain ⟨hc, hf⟩ := rx_bifn hf
  obtain ⟨hc1, hc2⟩ := Bool.and_eq_true_iff.mp hc
  have hle : rx_cs As ≤ M.2.2.1 := Nat.le_of_ble_eq_true hc1
  obtain ⟨m1, m2, kk⟩ := hok _ _ h r h' hf
  refine ⟨m1, m2, fun l => ?_⟩
  refine Met.ofW (cc := M.2.1) (maxL := M.2.2.1) (ret := M.2.2.2.1) hpl rfl ?_
  intro p e s m args below meth c s₁ B hml hv
  obtain ⟨rfl, hW, hE⟩ := hv
  have hts := atoms_spec (ws := .code y M.2.1 M.2.2.1 M.2.2.2.1 :: eW V) B.pre
  have hown2 : s.vm.findClass M.1 = some m.cls := by rw [← hown]; exact findClass_of_methodNamed B.named
  have hC : rx_Cx V M p s m (As.map (rx_v V)).toArray meth c := ⟨B.exec, B.bytes, hml, B.returns, B.notSynchronized, hown2, fun w hw => hts w (List.mem_cons_of_mem _ hw), fun hi => (name_of_methodNamed B.named B.method).1.trans (hini hi)⟩
  rw [lg_entry_eq]
  have hlen : (lg_sl (As.map (rx_v V))).length = rx_cs As := (rx_sl_len _).trans (rx_cat_sum hV As)
  have hl := lv_entry (As.map (rx_v V)) (n := M.2.2.1) (by rw [hlen]; exact hle)
  generalize (lg_sl (As.map (rx_v V)) ++ List.replicate (M.2.2.1 - (lg_sl (As.map (rx_v V))).length) Slot.unset).toArray = ls at hl ⊢
  have hL : rx_L V ls M.2.2.1 (rx_fl As ++ rx_pad (M.2.2.1 - rx_cs As)) := by
    refine ⟨hl.1, hl.2.1, fun i c hi h7 => ?_⟩
    by_cases hlt : i < (rx_fl As).length
    · rw [List.getElem?_append_left hlt] at hi
      have := rx_fl_mem hV As 0 i c hi h7
      rw [Nat.zero_add] at this
      exact hl.2.2 _ this
    · rw [List.getElem?_append_right (by omega)] at hi
      have := rx_pad_7 _ _ _ hi
      subst this
      exact absurd rfl h7
  have hF : rx_F V s s.heap [] := ⟨fun q _ => rfl, fun l hl => absurd hl List.not_mem_nil, Nat.le_refl _⟩
  have := kk p l e (headSpec (.code y M.2.1 M.2.2.1 M.2.2.2.1 :: eW V) { frames := d, cells := h'.1 - h.1, slots := h'.2.1 - h.2.1, locals := 40 * d }).room s m _ below meth c hC hE h.1 h.2.1 (Nat.le_refl _) (Nat.le_refl _) (Nat.le_refl _) (Nat.le_refl _) (Nat.le_refl _) (Nat.le_refl _) s.heap [] ls hW hF hL
  rw [Nat.sub_self, Nat.sub_self] at this
  exact this
-- calls
noncomputable def rx_take {β : Type} (n : Nat) (st acc : List Nat) (k : List Nat → List Nat → Option β) : Option β :=
  Nat.rec (motive := fun _ => List Nat → List Nat → Option β) (fun st acc => k acc st) (fun _ ih st acc => match st with
    | v :: r => ih r (v :: acc)
    | [] => none) n st acc
theorem rx_take_some {β : Type} : ∀ (n : Nat) (st acc : List Nat) (k : List Nat → List Nat → Option β) (r : β), rx_take n st acc k = some r → ∃ As rest, st = As.reverse ++ rest ∧ As.length = n ∧ k (As ++ acc) rest = some r
  | 0, st, acc, k, r, h => ⟨[], st, rfl, rfl, h⟩
  | n + 1, [], acc, k, r, h => by cases h
  | n + 1, v :: st, acc, k, r, h => by
    obtain ⟨As, rest, h1, h2, h3⟩ := rx_take_some n st (v :: acc) k r h
    refine ⟨As ++ [v], rest, by rw [h1]; simp, by simp [h2], ?_⟩
    rw [List.append_assoc]; exact h3
noncomputable def rx_go (g : List Nat → rx_H → Option (Nat × rx_H)) (As rest lv : List Nat) (h : rx_H) (k : rx_K) : Option (Nat × rx_H) := bif Nat.ble (rx_cs rest) 8 then (match g As h with
  | some (r, h1) => rx_f r fun r => bif Nat.beq (r % 8) 7 then k lv rest h1 else k lv (r :: rest) h1
  | none => none) else none
theorem rx_go_some {g : List Nat → rx_H → Option (Nat × rx_H)} {As rest lv : List Nat} {h h' : rx_H} {k : rx_K} {r : Nat} (hf : rx_go g As rest lv h k = some (r, h')) : rx_cs rest ≤ 8 ∧ ∃ r1 h1, g As h = some (r1, h1) ∧ ∃ st', k lv st' h1 = some (r, h') ∧ st'.map (rx_v V) = (rx_r V r1).toList ++ rest.map (rx_v V) := by
  unfold rx_go at hf
  obtain ⟨hc, hf⟩ := rx_bifn hf
  refine ⟨Nat.le_of_ble_eq_true hc, ?_⟩
  cases hg : g As h with
  | none => rw [hg] at hf; cases hf
  | some q =>
    obtain ⟨r1, h1⟩ := q
    rw [hg] at hf
    simp only [rx_f_eq] at hf
    refine ⟨r1, h1, rfl, ?_⟩
    rcases rx_bif hf with ⟨h7, hf⟩ | ⟨h7, hf⟩
    · refine ⟨rest, hf, ?_⟩
      unfold rx_r
      rw [if_pos (rx_beq h7)]; rfl
    · refine ⟨r1 :: rest, hf, ?_⟩
      have : ¬ r1 % 8 = 7 := fun q => by rw [q] at h7; cases h7
      rw [rx_r_v this]; rfl
theorem rx_cont {p : Program} {l : Launch} {e : Env} {R : Room} {s : State} {m : MethodId} {args a : Array Value} {below : List Frame} {meth : Method} {c : Code} {H : Heap} {locs : List Loc} {cells slots mc ms : Nat} {Q : State → Prop} {ls : Array Slot} {rest st0 : List Value} {r : Nat} {h h1 : rx_H}
    (hrun : va_Run p l e R s m args below meth c H locs cells slots mc ms (F0 m pc ls st0) rest (rx_Q V r h1 a) (fun q => eb V ≤ q)) (hW : rx_w V h H) (hm : h.1 ≤ h1.1) (hF : rx_F V s H locs)
    (kk : ∀ (H1 : Heap) (locs1 : List Loc), rx_w V h1 H1 → rx_F V s H1 locs1 → W p l e R s m args below meth c H1 locs1 (cells + mc) (slots + ms) Q (F0 m (pc + 3) ls ((rx_r V r).toList ++ rest))) : W p l e R s m args below meth c H locs cells slots Q (F0 m pc ls st0) := by
  intro T hT X
  obtain ⟨v, st₀, t, T', L, h0, X', hL, e1, e2, ⟨hv, hw, hk⟩, st⟩ := hrun T hT X
  have ev : v = rx_r V r := Outcome.returned.inj hv
  have hw2 : rx_w V h1 T'.heap := by rw [e1]; exact hw
  obtain ⟨t2, a1, b1⟩ := kk T'.heap (locs ++ L) hw2 ⟨fun q hq => by rw [e1, hk q hq, h0]; exact hF.1 q hq, fun x hx => by
      rcases List.mem_append.mp hx with z | z
      · exact hF.2.1 x z
      · exact hL x z, by have := hF.2.2; have := hw2.1; have := hW.1; omega⟩ T' rfl X'
  rw [← ev] at a1
  exact ⟨t2, st t2 a1, b1⟩
theorem rx_good (hV : rx_Ok V) {y : MethodName} {cc : ByteArray} {nL : Nat} {ret : Option FieldType} (hc : Cond.code y cc nL ret ∈ eW V) : GoodIn (eW V) (.code y cc nL ret :: eW V) := by
  intro w hw
  rcases List.mem_cons.mp hw with rfl | hw
  · exact ⟨hc, hV.2.2.1 _ hc⟩
  · exact ⟨hw, hV.2.2.1 _ hw⟩
theorem rx_blind {h : rx_H} {As : List Nat} : FrameBlind (va_Pc (As.map (rx_v V)) (fun U => rx_w V h U.heap ∧ rx_En V U) ) ↔ FrameBlind (va_Pc (As.map (rx_v V)) (fun U => rx_w V h U.heap ∧ rx_En V U)) := Iff.rfl
theorem rx_fb (hV : rx_Ok V) {h : rx_H} {As : List Nat} : FrameBlind (va_Pc (As.map (rx_v V)) (fun U => rx_w V h U.heap ∧ rx_En V U)) := by
  intro a U g mk q
  obtain ⟨q1, q2, q3, q4, q5⟩ := q
  exact ⟨q1, q2, va_K.moved (u := U) (U := U.calling g mk a) (Vm.Alike.refl U.vm) q3, hV.2.2.2 U (U.calling g mk a) q4 (State.WarmedH.refl U) q5 (fun _ _ => rfl), q5⟩
theorem rx_preS (hV : rx_Ok V) {s : State} {H : Heap} {locs : List Loc} {h : rx_H} (hE : rx_En V s) (hW : rx_w V h H) (hF : rx_F V s H locs) (As : List Nat) : ∀ U : State, U.heap = H → s.WarmedH U.vm → va_Pc (As.map (rx_v V)) (fun U => rx_w V h U.heap ∧ rx_En V U) (As.map (rx_v V)).toArray U := by
  intro U hU hWm
  refine ⟨rfl, by rw [hU]; exact hW, va_K.moved hWm.alike hE.1, hV.2.2.2 s U hE.2.1 hWm hE.2.2 (fun q hq => by rw [hU]; exact hF.1 q hq), by rw [hU, hW.1]; omega⟩
-- what is said of a method that is called
def rx_Y (V : rx_V) (y : MethodName) (M : rx_M) (n : Nat) : Prop := Cond.code y M.2.1 M.2.2.1 M.2.2.2.1 ∈ eW V ∧ Cond.initialized y.cls ∈ eW V ∧ M.2.2.1 ≤ 20 ∧ (y.cls ≠ "java/lang/invoke/MethodHandle" ∧ y.cls ≠ "java/lang/invoke/VarHandle" ∧ (parseMethodDescriptor y.desc).map (fun d => d.parameters.length) = some n)
noncomputable def o_callS (n : Nat) (g : List Nat → rx_H → Option (Nat × rx_H)) (k : rx_K) : rx_K := fun lv st h => rx_take n st [] fun As rest => rx_go g As rest lv h k
theorem rx_fin {p : Program} {l : Launch} {e : Env} {R : Room} {s : State} {m : MethodId} {args a : Array Value} {below : List Frame} {meth : Method} {c : Code} {H : Heap} {locs : List Loc} {Q : State → Prop} {ls : Array Slot} {st0 rest : List Value} {lv st' : List Nat} {r1 n0 z0 : Nat} {h h1 : rx_H}
    (hrun : va_Run p l e R s m args below meth c H locs (h.1 - n0) (h.2.1 - z0) (h1.1 - h.1) (h1.2.1 - h.2.1) (F0 m pc ls st0) rest (rx_Q V r1 h1 a) (fun q => eb V ≤ q)) (hn : n0 ≤ h.1) (hz : z0 ≤ h.2.1) (i1 : h.1 ≤ h1.1) (i2 : h.2.1 ≤ h1.2.1) (hW : rx_w V h H) (hF : rx_F V s H locs) (hL : rx_L V ls M.2.2.1 lv) (hst : st'.map (rx_v V) = (rx_r V r1).toList ++ rest)
    (kk : ∀ (H1 : Heap) (locs1 : List Loc) (ls' : Array Slot), rx_w V h1 H1 → rx_F V s H1 locs1 → rx_L V ls' M.2.2.1 lv → W p l e R s m args below meth c H1 locs1 (h1.1 - n0) (h1.2.1 - z0) Q (F0 m (pc + 3) ls' (st'.map (rx_v V)))) : W p l e R s m args below meth c H locs (h.1 - n0) (h.2.1 - z0) Q (F0 m pc ls st0) := by
  refine rx_cont hrun hW i1 hF fun H1 locs1 hW1 hF1 => ?_
  have h2 := kk H1 locs1 ls hW1 hF1 hL
  rw [hst] at h2
  rw [show h.1 - n0 + (h1.1 - h.1) = h1.1 - n0 by omega, show h.2.1 - z0 + (h1.2.1 - h.2.1) = h1.2.1 - z0 by omega]
  exact h2
theorem s_callS (hV : rx_Ok V) {dy index n : Nat} {y : MethodName} {My : rx_M} {g : List Nat → rx_H → Option (Nat × rx_H)} (hg : rx_Met V dy y My g) (hd : dy + 1 ≤ d) (hy : rx_Y V y My n) (hst : Cond.static y ∈ eW V) (hln : Cond.methodLink M.1 index y ∈ eW V ∨ ∃ host, ∀ s, eX V s → va_Nw (.methodLinkNest M.1 index y host) s) (hdg : decode M.2.1 pc = .ok (.invokestatic index, 3)) (hk : rx_OK V M d (pc + 3) f) : rx_OK V M d pc (o_callS n g f) := by
  refine rx_heap fun lv st h r h' hf => ?_
  obtain ⟨As, rest, hs, hl, hf⟩ := rx_take_some _ _ _ _ _ hf
  rw [List.append_nil] at hf
  obtain ⟨h8, r1, h1, hgf, st', hf, hst'⟩ := rx_go_some (V := V) hf
  obtain ⟨i1, i2, hMet⟩ := hg As h r1 h1 hgf
  refine ⟨pc + 3, f, lv, st', h1, hk, hf, i1, i2, fun p l e R s m args below meth c hC hE n0 z0 hn0 hz0 hR1 hR2 hR3 hR4 H locs ls Q hW hF hL kk => ?_⟩
  subst hs
  have hts := hC.2.2.2.2.2.2.1
  have hroom : ((rest.map (rx_v V)).map fun v => v.category).sum ≤ 8 := by rw [rx_cat_sum hV]; exact h8
  have hRr : dy + 1 ≤ R.frames ∧ 8 + (My.2.2.1 + 11) + 40 * dy ≤ R.locals := ⟨by omega, by have := hy.2.2.1; omega⟩
  rcases hln with hln | ⟨host, hln⟩
  · refine rx_fin (va_runS (As := As.map (rx_v V)) (rest := rest.map (rx_v V)) ⟨hC.1, hC.2.1, hC.2.2.1, hC.2.2.2.2.2.1, hts⟩ (hMet l) ⟨callB_of n hts (rx_good hV hy.1) rfl rfl rfl (hts _ hy.2.1) (hts _ hln) hy.2.2.2 hRr, hts _ hst⟩ ⟨rx_fb hV, rx_preS hV hE hW hF As⟩ rfl (by rw [List.length_map]; exact hl) hL.1 (by show List.map (rx_v V) (As.reverse ++ rest) = _; rw [List.map_append, List.map_reverse]) (lv_room hroom) hdg ⟨by omega, by omega⟩) hn0 hz0 i1 i2 hW hF hL hst' kk
  · refine rx_fin (va_runSN (As := As.map (rx_v V)) (rest := rest.map (rx_v V)) ⟨hC.1, hC.2.1, hC.2.2.1, hC.2.2.2.2.2.1, hts⟩ (hMet l) ⟨va_cnB n hts (rx_good hV hy.1) rfl rfl rfl (hln s hE.2.1) (hts _ hy.2.1) hy.2.2.2 hRr, hts _ hst, trivial⟩ ⟨rx_fb hV, rx_preS hV hE hW hF As⟩ rfl (by rw [List.length_map]; exact hl) hL.1 (by show List.map (rx_v V) (As.reverse ++ rest) = _; rw [List.map_append, List.map_reverse]) (lv_room hroom) hdg ⟨by omega, by omega⟩) hn0 hz0 i1 i2 hW hF hL hst' kk
end RX18

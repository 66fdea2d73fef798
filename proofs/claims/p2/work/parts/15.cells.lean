section RX15
variable {V : rx_V} {M : rx_M} {d pc : Nat} {f t : rx_K}
-- one step that may change the cells
theorem rx_heap (h0 : ∀ (lv st : List Nat) (h : rx_H) (r : Nat) (h' : rx_H), f lv st h = some (r, h') → ∃ (pc' : Nat) (g : rx_K) (lv' st' : List Nat) (h1 : rx_H), rx_OK V M d pc' g ∧ g lv' st' h1 = some (r, h') ∧ h.1 ≤ h1.1 ∧ h.2.1 ≤ h1.2.1 ∧
    ∀ (p : Program) (l : Launch) (e : Env) (R : Room) (s : State) (m : MethodId) (args : Array Value) (below : List Frame) (meth : Method) (c : Code), rx_Cx V M p s m args meth c → rx_En V s → ∀ (n0 z0 : Nat), n0 ≤ h.1 → z0 ≤ h.2.1 → d ≤ R.frames → 40 * d ≤ R.locals → h1.1 - n0 ≤ R.cells → h1.2.1 - z0 ≤ R.slots →
      ∀ (H : Heap) (locs : List Loc) (ls : Array Slot) (Q : State → Prop), rx_w V h H → rx_F V s H locs → rx_L V ls M.2.2.1 lv →
      (∀ (H1 : Heap) (locs1 : List Loc) (ls' : Array Slot), rx_w V h1 H1 → rx_F V s H1 locs1 → rx_L V ls' M.2.2.1 lv' → W p l e R s m args below meth c H1 locs1 (h1.1 - n0) (h1.2.1 - z0) Q (F0 m pc' ls' (st'.map (rx_v V)))) → W p l e R s m args below meth c H locs (h.1 - n0) (h.2.1 - z0) Q (F0 m pc ls (st.map (rx_v V)))) : rx_OK V M d pc f := by
  intro lv st h r h' hf
  obtain ⟨pc', g, lv', st', h1, hg, hgf, i1, i2, hw⟩ := h0 lv st h r h' hf
  obtain ⟨m1, m2, kk⟩ := hg lv' st' h1 r h' hgf
  refine ⟨Nat.le_trans i1 m1, Nat.le_trans i2 m2, fun p l e R s m args below meth c hC hE n0 z0 hn hz hR1 hR2 hR3 hR4 H locs ls hW hF hL => ?_⟩
  exact hw p l e R s m args below meth c hC hE n0 z0 hn hz hR1 hR2 (by omega) (by omega) H locs ls _ hW hF hL (fun H1 locs1 ls' hW' hF' hL' => kk p l e R s m args below meth c hC hE n0 z0 (by omega) (by omega) hR1 hR2 hR3 hR4 H1 locs1 ls' hW' hF' hL')
theorem rx_at.kept {i : Nat} {e : rx_E} {H H1 : Heap} (h : rx_at V i e H) (q : H1[eb V + i]? = H[eb V + i]?) : rx_at V i e H1 := by
  obtain ⟨k, a, n, fs, us⟩ := e
  cases k with
  | zero => exact ⟨h.1, h.2.kept q⟩
  | succ t =>
    show H1[eb V + i]? = _
    rw [q]
    exact h
theorem rx_w_set {h h' : rx_H} {H H1 : Heap} {i : Nat} {e : rx_E} (hW : rx_w V h H) (hi : i < h.1) (e1 : h'.1 = h.1) (e2 : h'.2.2.1 = h.2.2.1) (eg : ∀ j, rx_hg h' j = if j = i then e else rx_hg h j) (z : H1.size = H.size) (oq : ∀ q, q ≠ eb V + i → H1[q]? = H[q]?) (he : rx_at V i e H1) : rx_w V h' H1 := by
  refine ⟨by rw [z, e1]; exact hW.1, fun j hj => ?_, by rw [e2]; exact hW.2.2⟩
  rw [eg j]
  by_cases q : j = i
  · rw [if_pos q, q]; exact he
  · rw [if_neg q]
    exact (hW.2.1 j (by omega)).kept (oq _ (by omega))
theorem rx_w_push {h h' : rx_H} {H H1 : Heap} {e : rx_E} (hW : rx_w V h H) (e1 : h'.1 = h.1 + 1) (e2 : h'.2.2.1 = h.2.2.1) (eg : ∀ j, rx_hg h' j = if j = h.1 then e else rx_hg h j) (z : H1.size = H.size + 1) (oq : ∀ q, q < H.size → H1[q]? = H[q]?) (he : rx_at V h.1 e H1) : rx_w V h' H1 := by
  refine ⟨by rw [z, e1, hW.1]; omega, fun j hj => ?_, by rw [e2]; exact hW.2.2⟩
  rw [eg j]
  by_cases q : j = h.1
  · rw [if_pos q, q]; exact he
  · rw [if_neg q]
    exact (hW.2.1 j (by omega)).kept (oq _ (by rw [hW.1]; omega))
theorem rx_F_set {s : State} {H H1 : Heap} {locs : List Loc} {a k : Nat} (hF : rx_F V s H locs) (z : H1.size = H.size) (oq : ∀ q, q ≠ a → H1[q]? = H[q]?) (ha : eb V ≤ a) : rx_F V s H1 (locs ++ [⟨a, k⟩]) := by
  refine ⟨fun q hq => (oq q (by omega)).trans (hF.1 q hq), fun l hl => ?_, by rw [z]; exact hF.2.2⟩
  rcases List.mem_append.mp hl with h | h
  · exact hF.2.1 l h
  · rw [List.mem_singleton.mp h]; exact ha
theorem rx_F_push {s : State} {H H1 : Heap} {locs : List Loc} (hF : rx_F V s H locs) (z : H1.size = H.size + 1) (oq : ∀ q, q < H.size → H1[q]? = H[q]?) (hb : eb V ≤ H.size) : rx_F V s H1 locs :=
  ⟨fun q hq => (oq q (by omega)).trans (hF.1 q hq), hF.2.1, by rw [z]; have := hF.2.2; omega⟩
-- a class: its place, name, fields, their types
def rx_Cl (V : rx_V) (ci : Nat) (C : String) (T : u_T) (N : Nat) (ty : Nat → FieldType) : Prop := (eC V)[ci]? = some (C, T, N) ∧ (∀ w ∈ u_ws C T N, w ∈ eW V) ∧ (∀ k, k < N → parseFieldDescriptor (T k).2.2.1 = some (ty k)) ∧ (∀ a, a < N → ∀ b, b < N → a ≠ b → (T a).2.1 ≠ (T b).2.1)
-- what an entry of ours is
noncomputable def rx_ob {β : Type} (h : rx_H) (o ci : Nat) (k : List (List Nat) → Option β) : Option β := bif Nat.beq (o % 8) 2 && Nat.blt (o / 8) h.1 then (match rx_hg h (o / 8) with
  | (z, c, _, fs, _) => bif Nat.beq z 0 && Nat.beq c ci then k fs else none) else none
theorem rx_ob_some {β : Type} {h : rx_H} {o ci : Nat} {k : List (List Nat) → Option β} {r : β} (hf : rx_ob h o ci k = some r) : o % 8 = 2 ∧ o / 8 < h.1 ∧ ∃ n fs us, rx_hg h (o / 8) = (0, ci, n, fs, us) ∧ k fs = some r := by
  unfold rx_ob at hf
  obtain ⟨hc, hf⟩ := rx_bifn hf
  obtain ⟨h1, h2⟩ := Bool.and_eq_true_iff.mp hc
  refine ⟨rx_beq h1, Nat.le_of_ble_eq_true h2, ?_⟩
  generalize rx_hg h (o / 8) = e at hf
  obtain ⟨z, c, n, fs, us⟩ := e
  dsimp only at hf
  obtain ⟨hc, hf⟩ := rx_bifn hf
  obtain ⟨h3, h4⟩ := Bool.and_eq_true_iff.mp hc
  rw [rx_beq h3, rx_beq h4]
  exact ⟨n, fs, us, rfl, hf⟩
theorem rx_ob_at {h : rx_H} {H : Heap} {o ci n N : Nat} {fs : List (List Nat)} {us : List (Nat × Nat)} {C : String} {T : u_T} {ty : Nat → FieldType} (hW : rx_w V h H) (hcl : rx_Cl V ci C T N ty) (ho : o / 8 < h.1) (he : rx_hg h (o / 8) = (0, ci, n, fs, us)) : n = N ∧ t_OB (eb V + o / 8) ((eD V).1 ci) N ((eD V).2 ci) H (fun k => rx_v V (rx_fg fs k)) := by
  have h1 := hW.2.1 _ ho
  rw [he] at h1
  obtain ⟨⟨r, h2, h3⟩, h4⟩ := h1
  have h5 := Option.some.inj (h2.symm.trans hcl.1)
  rw [h5] at h3
  dsimp only at h3
  rw [← h3] at h4
  exact ⟨h3.symm, h4⟩
noncomputable def o_getf (ci k0 : Nat) (k : rx_K) : rx_K := fun lv st h => match st with
  | o :: r => rx_ob h o ci fun fs => rx_f (rx_fg fs k0) fun v => k lv (v :: r) h
  | _ => none
theorem rx_getfield {ci k0 index N : Nat} {C ref : String} {T : u_T} {ty : Nat → FieldType} (hcl : rx_Cl V ci C T N ty) (hk0 : k0 < N) (hsame : ∀ (args : Array Value) (s : State), (∀ w ∈ eW V, w.before args s = true) → ∀ x, s.fieldFound? (T k0).1 (T k0).2.1 (T k0).2.2.1 = some x → s.fieldFound? ref (T k0).2.1 (T k0).2.2.1 = some x) (hdg : decode M.2.1 pc = .ok (.getfield index, 3)) (hw : Cond.fieldLink M.1 index ref (T k0).2.1 (T k0).2.2.1 ∈ eW V) (hk : rx_OK V M d (pc + 3) f) : rx_OK V M d pc (o_getf ci k0 f) := by
  refine rx_pure fun lv st h r h' hf => ?_
  match st, hf with
  | [], hf => cases hf
  | o :: st, hf =>
  simp only [o_getf, rx_f_eq] at hf
  obtain ⟨ho, hlt, n, fs, us, he, hf⟩ := rx_ob_some hf
  refine ⟨pc + 3, f, lv, _, hk, hf, fun p l e R s m args below meth c hC hE H locs ls cells slots Q hW hF hL kk => ?_⟩
  obtain ⟨-, cell, q1, q2, q3, q4⟩ := rx_ob_at hW hcl hlt he
  obtain ⟨hS, hfc, kC, hkC, hkind⟩ := hE.1.1 ci _ hcl.1
  obtain ⟨cf, kf, fi, fd, hi, hsl⟩ := hS k0 hk0
  have hts := hC.2.2.2.2.2.2.1
  rw [List.map_cons, rx_v_2 ho]
  refine W.getf hC.1 hC.2.1 hC.2.2.2.2.2.1 (hts _ hw) (hsame args s hts _ hi) (u_facts hfc hkC (u_lays hts hcl.2.1 hk0) hi).1 q1 (by rw [q3]; exact fun h => by cases h) (v := rx_v V (rx_fg fs k0)) ?_ rfl rfl hdg (kk ls hL)
  rw [hsl]
  exact q4 k0 hk0
theorem s_getf {ci k0 index N : Nat} {C : String} {T : u_T} {ty : Nat → FieldType} (hcl : rx_Cl V ci C T N ty) (hk0 : k0 < N) (hdg : decode M.2.1 pc = .ok (.getfield index, 3)) (hw : Cond.fieldLink M.1 index (T k0).1 (T k0).2.1 (T k0).2.2.1 ∈ eW V) (hk : rx_OK V M d (pc + 3) f) : rx_OK V M d pc (o_getf ci k0 f) := rx_getfield hcl hk0 (fun _ _ _ _ h => h) hdg hw hk
theorem s_getfS {ci k0 index N : Nat} {C ref : String} {T : u_T} {ty : Nat → FieldType} (hcl : rx_Cl V ci C T N ty) (hk0 : k0 < N) (hs : Cond.sameField ref (T k0).1 (T k0).2.1 (T k0).2.2.1 ∈ eW V) (hdg : decode M.2.1 pc = .ok (.getfield index, 3)) (hw : Cond.fieldLink M.1 index ref (T k0).2.1 (T k0).2.2.1 ∈ eW V) (hk : rx_OK V M d (pc + 3) f) : rx_OK V M d pc (o_getf ci k0 f) := rx_getfield hcl hk0 (fun args s hts x h => u_same (args := args) (hts _ hs) x h) hdg hw hk
-- what may lie in a field of a type
def rx_chk (ty : FieldType) : Nat → Bool := match ty with
  | .int => rx_isI
  | .long => rx_isL
  | .boolean => fun c => Nat.beq c 0 || Nat.beq c 8
  | .object _ => rx_isR
  | .array _ => rx_isR
  | .byte => fun c => Nat.beq (c % 8) 0 && (decide (narrow .byte (.int (rx_di c)) = .int (rx_di c)) && fits .byte (.int (rx_di c)))
  | _ => fun _ => false
theorem rx_chk_ok (hV : rx_Ok V) {ty : FieldType} {c : Nat} (h : rx_chk ty c = true) : narrow ty (rx_v V c) = rx_v V c ∧ fits ty (rx_v V c) = true := by
  cases ty with
  | int => obtain ⟨-, x, e⟩ := rx_isI_v hV h; rw [e]; exact ⟨rfl, rfl⟩
  | long => obtain ⟨-, e⟩ := rx_isL_v (V := V) h; rw [e]; exact ⟨rfl, rfl⟩
  | boolean =>
    rcases Bool.or_eq_true_iff.mp h with h | h
    · rw [rx_beq h, rx_v_0 rfl]; exact ⟨by decide +kernel, by decide +kernel⟩
    · rw [rx_beq h, rx_v_0 rfl]; exact ⟨by decide +kernel, by decide +kernel⟩
  | object n => obtain ⟨-, e | ⟨a, e⟩⟩ := rx_isR_v hV h <;> rw [e] <;> exact ⟨rfl, rfl⟩
  | array n => obtain ⟨-, e | ⟨a, e⟩⟩ := rx_isR_v hV h <;> rw [e] <;> exact ⟨rfl, rfl⟩
  | byte =>
    obtain ⟨h1, h2⟩ := Bool.and_eq_true_iff.mp h
    obtain ⟨h2, h3⟩ := Bool.and_eq_true_iff.mp h2
    rw [rx_v_0 (rx_beq h1)]
    exact ⟨of_decide_eq_true h2, h3⟩
  | _ => cases h
noncomputable def o_putf (chk : Nat → Bool) (ci k0 : Nat) (k : rx_K) : rx_K := fun lv st h => match st with
  | v :: o :: r => bif chk v then rx_ob h o ci fun fs => rx_fs fs k0 v fun fs' => match rx_hg h (o / 8) with
    | (z, c, n, _, us) => rx_hs h (o / 8) (z, c, n, fs', us) fun h' => k lv r h'
    else none
  | _ => none
theorem rx_putfield (hV : rx_Ok V) {ci k0 index N : Nat} {C ref : String} {T : u_T} {ty : Nat → FieldType} (hcl : rx_Cl V ci C T N ty) (hk0 : k0 < N) (hsame : ∀ (args : Array Value) (s : State), (∀ w ∈ eW V, w.before args s = true) → ∀ x, s.fieldFound? (T k0).1 (T k0).2.1 (T k0).2.2.1 = some x → s.fieldFound? ref (T k0).2.1 (T k0).2.2.1 = some x) (hfin : (T k0).2.2.2 = false ∨ (M.2.2.2.2 = true ∧ (T k0).1 = M.1)) (hdg : decode M.2.1 pc = .ok (.putfield index, 3)) (hw : Cond.fieldLink M.1 index ref (T k0).2.1 (T k0).2.2.1 ∈ eW V) (hk : rx_OK V M d (pc + 3) f) : rx_OK V M d pc (o_putf (rx_chk (ty k0)) ci k0 f) := by
  refine rx_heap fun lv st h r h' hf => ?_
  match st, hf with
  | [], hf => cases hf
  | [_], hf => cases hf
  | v :: o :: st, hf =>
  simp only [o_putf] at hf
  obtain ⟨hv, hf⟩ := rx_bifn hf
  obtain ⟨ho, hlt, n, fs, us, he, hf⟩ := rx_ob_some hf
  obtain ⟨fs', hf, hfs⟩ := rx_fs_some hf
  rw [he] at hf
  obtain ⟨h1, hf, e1, e2, e3, eg⟩ := rx_hs_some hf
  obtain ⟨hn, hfit⟩ := rx_chk_ok hV hv
  refine ⟨pc + 3, f, lv, st, h1, hk, hf, by omega, by omega, fun p l e R s m args below meth c hC hE n0 z0 hn0 hz0 hR1 hR2 hR3 hR4 H locs ls Q hW hF hL kk => ?_⟩
  have hob := rx_ob_at hW hcl hlt he
  obtain ⟨hnN, cell, q1, q2, q3, q4⟩ := hob
  obtain ⟨hS, hfc, kC, hkC, hkind⟩ := hE.1.1 ci _ hcl.1
  obtain ⟨cf, kf, fi, fd, hi, hsl⟩ := hS k0 hk0
  have hts := hC.2.2.2.2.2.2.1
  have hap := va_apart (own := M.1) (tys := rx_tys V) hts hcl.2.1 ty hcl.2.2.1 hcl.2.2.2 hE.1 hcl.1
  have hlay := hts _ (hcl.2.1 _ (u_in_lay hk0))
  have hst := (u_facts hfc hkC (u_lays hts hcl.2.1 hk0) hi).1
  rw [List.map_cons, List.map_cons, rx_v_2 ho]
  have key : ∀ (H' : Heap), H'[eb V + o / 8]? = some (cell.setSlot fd.slot (rx_v V v)) → H'.size = H.size → (∀ q, q ≠ eb V + o / 8 → H'[q]? = H[q]?) → W p l e R s m args below meth c H' (locs ++ [⟨eb V + o / 8, fd.slot⟩]) (h.1 - n0) (h.2.1 - z0) Q (F0 m (pc + 3) ls (st.map (rx_v V))) := by
    intro H' x1 x2 x3
    have hkk := kk H' (locs ++ [⟨eb V + o / 8, fd.slot⟩]) ls ?_ (rx_F_set hF x2 x3 (by omega)) hL
    · rw [e1, e2] at hkk; exact hkk
    · refine rx_w_set hW hlt e1 e3 eg x2 x3 ⟨⟨_, hcl.1, hnN.symm⟩, ?_⟩
      rw [hsl] at x1
      rw [hnN]
      refine t_OB.to (V := updV (fun k => rx_v V (rx_fg fs k)) k0 (rx_v V v)) ⟨_, x1, q2, q3, t_set q4 hap hk0 (rx_v V v)⟩ (fun j _ => ?_)
      show updV _ _ _ _ = rx_v V (rx_fg fs' j)
      rw [hfs j]
      by_cases e : j = k0 <;> simp [updV, e]
  unfold u_lay at hlay
  rcases hfin with hfin | ⟨hini, hdecl⟩
  · rw [if_neg (by rw [hfin]; decide)] at hlay
    have h6 := u_store hfc hkC hkind hlay hi (hcl.2.2.1 k0 hk0) hn hfit
    exact W.putK hC.1 hC.2.1 (f := fd) ⟨hC.2.2.2.2.2.1, hts _ hw, ⟨_, _, _, hsame args s hts _ hi⟩, hst⟩ (by rw [q2]; exact h6) q1 q3 (by rw [hsl]; exact k2_hasslot (q4 k0 hk0)) rfl rfl hdg key
  · by_cases hff : (T k0).2.2.2 = true
    · rw [if_pos hff] at hlay
      have hcf : m.cls = cf := by
        obtain ⟨_, _, c', _, _, _, -, -, hf', -, -, -, hown2, -⟩ := Cond.laysFinal_spec hlay
        have e1 : c' = cf := by have := hi.symm.trans hf'; simp at this; exact this.1.symm
        rw [hdecl] at hown2
        rw [← e1]; exact Option.some.inj (hC.2.2.2.2.2.1.symm.trans hown2)
      have h6 := u_fits hfc hkC hkind (Or.inr hlay) hi (hcl.2.2.1 k0 hk0) hn hfit
      exact W.putFinK hC.1 hC.2.1 hC.2.2.2.2.2.1 (hts _ hw) (hsame args s hts _ hi) hst hcf (hC.2.2.2.2.2.2.2 hini) (by rw [q2]; exact h6) q1 q3 (by rw [hsl]; exact k2_hasslot (q4 k0 hk0)) rfl rfl hdg key
    · rw [if_neg hff] at hlay
      have h6 := u_store hfc hkC hkind hlay hi (hcl.2.2.1 k0 hk0) hn hfit
      exact W.putK hC.1 hC.2.1 (f := fd) ⟨hC.2.2.2.2.2.1, hts _ hw, ⟨_, _, _, hsame args s hts _ hi⟩, hst⟩ (by rw [q2]; exact h6) q1 q3 (by rw [hsl]; exact k2_hasslot (q4 k0 hk0)) rfl rfl hdg key
theorem s_putf (hV : rx_Ok V) {ci k0 index N : Nat} {C : String} {T : u_T} {ty : Nat → FieldType} (hcl : rx_Cl V ci C T N ty) (hk0 : k0 < N) (hfin : (T k0).2.2.2 = false ∨ (M.2.2.2.2 = true ∧ (T k0).1 = M.1)) (hdg : decode M.2.1 pc = .ok (.putfield index, 3)) (hw : Cond.fieldLink M.1 index (T k0).1 (T k0).2.1 (T k0).2.2.1 ∈ eW V) {chk : Nat → Bool} (hc : rx_chk (ty k0) = chk) (hk : rx_OK V M d (pc + 3) f) : rx_OK V M d pc (o_putf chk ci k0 f) := hc ▸ rx_putfield hV hcl hk0 (fun _ _ _ _ h => h) hfin hdg hw hk
theorem s_putfS (hV : rx_Ok V) {ci k0 index N : Nat} {C ref : String} {T : u_T} {ty : Nat → FieldType} (hcl : rx_Cl V ci C T N ty) (hk0 : k0 < N) (hs : Cond.sameField ref (T k0).1 (T k0).2.1 (T k0).2.2.1 ∈ eW V) (hfin : (T k0).2.2.2 = false ∨ (M.2.2.2.2 = true ∧ (T k0).1 = M.1)) (hdg : decode M.2.1 pc = .ok (.putfield index, 3)) (hw : Cond.fieldLink M.1 index ref (T k0).2.1 (T k0).2.2.1 ∈ eW V) {chk : Nat → Bool} (hc : rx_chk (ty k0) = chk) (hk : rx_OK V M d (pc + 3) f) : rx_OK V M d pc (o_putf chk ci k0 f) := hc ▸ rx_putfield hV hcl hk0 (fun args s hts x h => u_same (args := args) (hts _ hs) x h) hfin hdg hw hk
end RX15

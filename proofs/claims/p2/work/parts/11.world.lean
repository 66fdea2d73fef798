-- what lies around a run: where our cells begin, the values from outside, the classes and their places, the array classes, what else holds of a state, the tables
abbrev rx_V : Type := Nat × (Nat → Value) × va_G × List vw_C × (Nat → ClassId) × List FieldType × (State → Prop) × List Cond
abbrev eb (V : rx_V) : Nat := V.1
abbrev ex (V : rx_V) : Nat → Value := V.2.1
abbrev eD (V : rx_V) : va_G := V.2.2.1
abbrev eC (V : rx_V) : List vw_C := V.2.2.2.1
abbrev eA (V : rx_V) : Nat → ClassId := V.2.2.2.2.1
abbrev eT (V : rx_V) : List FieldType := V.2.2.2.2.2.1
abbrev eX (V : rx_V) : State → Prop := V.2.2.2.2.2.2.1
abbrev eW (V : rx_V) : List Cond := V.2.2.2.2.2.2.2
def rx_tys (V : rx_V) : List (ClassId × FieldType) := (List.range (eT V).length).map fun t => (eA V t, (eT V).getD t .int)
theorem rx_tys_at {V : rx_V} {t : Nat} {ty : FieldType} (h : (eT V)[t]? = some ty) : (rx_tys V)[t]? = some (eA V t, ty) := by
  have hl : t < (eT V).length := (List.getElem?_eq_some_iff.mp h).1
  simp [rx_tys, List.getElem?_map, List.getElem?_range hl, List.getD, h]
-- the values from outside: five whole numbers (the script's), then references or null, of cells that are not ours
def rx_Ok (V : rx_V) : Prop := (∀ k, k < 5 → ∃ v, ex V k = .int v) ∧ (∀ k, 5 ≤ k → ex V k = .null ∨ ∃ a, (k = 5 ∨ a < eb V) ∧ ex V k = .ref a) ∧
  (∀ w ∈ eW V, (w.onTables && w.keeps) = true ∨ ∃ ty, w = .arrayClass ty) ∧
  (∀ s U : State, eX V s → s.WarmedH U.vm → eb V ≤ s.heap.size → (∀ q, q < eb V → U.heap[q]? = s.heap[q]?) → eX V U)
def rx_En (V : rx_V) (s : State) : Prop := va_K (eD V) (eC V) (rx_tys V) s ∧ eX V s ∧ eb V ≤ s.heap.size
-- what comes of a whole number from outside by >>> of a constant (kind 0), then (byte) (1) or & 255 (2)
def rx_xi (v : Value) : Int32 := match v with
  | .int x => x
  | _ => 0
def rx_x (f : Nat → Value) (q : Nat) : Int32 :=
  let y := ((rx_xi (f (q % 5))).toUInt32 >>> ((nI (q / 5 % 32)).toUInt32 &&& Int32.toUInt32 31)).toInt32
  if q / 160 = 0 then y else if q / 160 = 1 then y.toInt8.toInt32 else y &&& 255
def rx_v (V : rx_V) (c : Nat) : Value := if c % 8 = 0 then .int (rx_di c) else if c % 8 = 1 then .long (rx_dl c) else if c % 8 = 2 then .ref (eb V + c / 8) else if c % 8 = 4 then ex V (c / 8) else if c % 8 = 5 then .int (rx_x (ex V) (c / 8)) else .null
theorem rx_v_ei (V : rx_V) (x : Int32) : rx_v V (rx_ei x) = .int x := by
  unfold rx_v rx_ei rx_di
  rw [if_pos (by omega), show 8 * x.toBitVec.toNat / 8 = x.toBitVec.toNat by omega]
  congr 1
  apply Int32.toBitVec_inj.mp
  simp
theorem rx_v_el (V : rx_V) (x : Int64) : rx_v V (rx_el x) = .long x := by
  unfold rx_v rx_el rx_dl
  rw [if_neg (by omega), if_pos (by omega), show (8 * x.toBitVec.toNat + 1) / 8 = x.toBitVec.toNat by omega]
  congr 1
  apply Int64.toBitVec_inj.mp
  simp
theorem rx_v_0 {V : rx_V} {c : Nat} (h : c % 8 = 0) : rx_v V c = .int (rx_di c) := if_pos h
theorem rx_v_1 {V : rx_V} {c : Nat} (h : c % 8 = 1) : rx_v V c = .long (rx_dl c) := by unfold rx_v; rw [if_neg (by omega), if_pos h]
theorem rx_v_2 {V : rx_V} {c : Nat} (h : c % 8 = 2) : rx_v V c = .ref (eb V + c / 8) := by unfold rx_v; rw [if_neg (by omega), if_neg (by omega), if_pos h]
theorem rx_v_3 {V : rx_V} {c : Nat} (h : c % 8 = 3) : rx_v V c = .null := by unfold rx_v; rw [if_neg (by omega), if_neg (by omega), if_neg (by omega), if_neg (by omega), if_neg (by omega)]
theorem rx_v_5 {V : rx_V} {c : Nat} (h : c % 8 = 5) : rx_v V c = .int (rx_x (ex V) (c / 8)) := by unfold rx_v; rw [if_neg (by omega), if_neg (by omega), if_neg (by omega), if_neg (by omega), if_pos h]
theorem rx_v_4 {V : rx_V} {c : Nat} (h : c % 8 = 4) : rx_v V c = ex V (c / 8) := by unfold rx_v; rw [if_neg (by omega), if_neg (by omega), if_neg (by omega), if_pos h]
def rx_ct (c : Nat) : Nat := bif Nat.beq (c % 8) 1 then 2 else 1
theorem rx_v_cat {V : rx_V} (hV : rx_Ok V) (c : Nat) : (rx_v V c).category = rx_ct c := by
  have hc : c % 8 = 0 ∨ c % 8 = 1 ∨ c % 8 = 2 ∨ c % 8 = 4 ∨ c % 8 = 5 ∨ (c % 8 = 3 ∨ c % 8 = 6 ∨ c % 8 = 7) := by omega
  unfold rx_ct
  rcases hc with h | h | h | h | h | h
  · rw [rx_v_0 h, h]; rfl
  · rw [rx_v_1 h, h]; rfl
  · rw [rx_v_2 h, h]; rfl
  · rw [rx_v_4 h, h]
    rcases Nat.lt_or_ge (c / 8) 5 with q | q
    · obtain ⟨v, e⟩ := hV.1 _ q; rw [e]; rfl
    · rcases hV.2.1 _ q with e | ⟨a, -, e⟩ <;> rw [e] <;> rfl
  · rw [rx_v_5 h, h]; rfl
  · have e : rx_v V c = .null := by unfold rx_v; rw [if_neg (by omega), if_neg (by omega), if_neg (by omega), if_neg (by omega), if_neg (by omega)]
    rw [e]
    rcases h with h | h | h <;> rw [h] <;> rfl
-- what a cell is
def rx_at (V : rx_V) (i : Nat) (e : rx_E) (H : Heap) : Prop := match e with
  | (0, ci, n, fs, _) => (∃ r, (eC V)[ci]? = some r ∧ r.2.2 = n) ∧ t_OB (eb V + i) ((eD V).1 ci) n ((eD V).2 ci) H (fun k => rx_v V (rx_fg fs k))
  | (t + 1, _, n, fs, us) => H[eb V + i]? = some (arrV (eA V t) n (fun j => rx_v V (rx_lk (rx_fg fs 0) us j)))
def rx_w (V : rx_V) (h : rx_H) (H : Heap) : Prop := H.size = eb V + h.1 ∧ (∀ i, i < h.1 → rx_at V i (rx_hg h i) H) ∧ ∀ (k : Nat) (lo hi : Int), h.2.2.1[k]? = some (lo, hi) → k < 5 ∧ ∃ v, ex V k = .int v ∧ lo ≤ v.toInt ∧ v.toInt ≤ hi
def rx_F (V : rx_V) (s : State) (H : Heap) (locs : List Loc) : Prop := (∀ q, q < eb V → H[q]? = s.heap[q]?) ∧ (∀ l ∈ locs, eb V ≤ l.base) ∧ s.heap.size ≤ H.size
def rx_L (V : rx_V) (ls : Array Slot) (nL : Nat) (lv : List Nat) : Prop := ls.size = nL ∧ lv_wf ls ∧ ∀ (i c : Nat), lv[i]? = some c → c % 8 ≠ 7 → ls[i]? = some (.val (rx_v V c))
-- a method: its class, code, locals, result, whether it is a constructor
abbrev rx_M : Type := String × ByteArray × Nat × Option FieldType × Bool
def rx_Cx (V : rx_V) (M : rx_M) (p : Program) (s : State) (m : MethodId) (args : Array Value) (meth : Method) (c : Code) : Prop :=
  p.tables.exec = Jvm.exec ∧ c.code = M.2.1 ∧ c.maxLocals = M.2.2.1 ∧ meth.sig.returnType = M.2.2.2.1 ∧ meth.locks = false ∧ s.vm.findClass M.1 = some m.cls ∧ (∀ w ∈ eW V, w.before args s = true) ∧ (M.2.2.2.2 = true → meth.name = "<init>")
def rx_r (V : rx_V) (c : Nat) : Option Value := if c % 8 = 7 then none else some (rx_v V c)
def rx_Q (V : rx_V) (r : Nat) (h : rx_H) : Array Value → State → Outcome → State → Prop := fun _ st oc t => oc = .returned (rx_r V r) ∧ rx_w V h t.heap ∧ ∀ q, q < eb V → t.heap[q]? = st.heap[q]?
def rx_OK (V : rx_V) (M : rx_M) (d pc : Nat) (f : rx_K) : Prop :=
  ∀ (lv st : List Nat) (h : rx_H) (r : Nat) (h' : rx_H), f lv st h = some (r, h') → h.1 ≤ h'.1 ∧ h.2.1 ≤ h'.2.1 ∧
    ∀ (p : Program) (l : Launch) (e : Env) (R : Room) (s : State) (m : MethodId) (args : Array Value) (below : List Frame) (meth : Method) (c : Code), rx_Cx V M p s m args meth c → rx_En V s →
      ∀ (n0 z0 : Nat), n0 ≤ h.1 → z0 ≤ h.2.1 → d ≤ R.frames → 40 * d ≤ R.locals → h'.1 - n0 ≤ R.cells → h'.2.1 - z0 ≤ R.slots →
        ∀ (H : Heap) (locs : List Loc) (ls : Array Slot), rx_w V h H → rx_F V s H locs → rx_L V ls M.2.2.1 lv →
          W p l e R s m args below meth c H locs (h.1 - n0) (h.2.1 - z0) (MQ below (rx_Q V r h') args s (h'.1 - n0) (h'.2.1 - z0) (fun q => eb V ≤ q)) (F0 m pc ls (st.map (rx_v V)))
-- one step that leaves the cells as they are
theorem rx_pure {V : rx_V} {M : rx_M} {d pc : Nat} {f : rx_K} (h0 : ∀ (lv st : List Nat) (h : rx_H) (r : Nat) (h' : rx_H), f lv st h = some (r, h') → ∃ (pc' : Nat) (g : rx_K) (lv' st' : List Nat), rx_OK V M d pc' g ∧ g lv' st' h = some (r, h') ∧
    ∀ (p : Program) (l : Launch) (e : Env) (R : Room) (s : State) (m : MethodId) (args : Array Value) (below : List Frame) (meth : Method) (c : Code), rx_Cx V M p s m args meth c → rx_En V s → ∀ (H : Heap) (locs : List Loc) (ls : Array Slot) (cells slots : Nat) (Q : State → Prop), rx_w V h H → rx_F V s H locs → rx_L V ls M.2.2.1 lv →
      (∀ ls' : Array Slot, rx_L V ls' M.2.2.1 lv' → W p l e R s m args below meth c H locs cells slots Q (F0 m pc' ls' (st'.map (rx_v V)))) → W p l e R s m args below meth c H locs cells slots Q (F0 m pc ls (st.map (rx_v V)))) : rx_OK V M d pc f := by
  intro lv st h r h' hf
  obtain ⟨pc', g, lv', st', hg, hgf, hw⟩ := h0 lv st h r h' hf
  obtain ⟨m1, m2, kk⟩ := hg lv' st' h r h' hgf
  refine ⟨m1, m2, fun p l e R s m args below meth c hC hE n0 z0 hn hz hR1 hR2 hR3 hR4 H locs ls hW hF hL => ?_⟩
  exact hw p l e R s m args below meth c hC hE H locs ls _ _ _ hW hF hL (fun ls' hL' => kk p l e R s m args below meth c hC hE n0 z0 hn hz hR1 hR2 hR3 hR4 H locs ls' hW hF hL')

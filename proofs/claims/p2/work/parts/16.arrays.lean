section RX16
variable {V : rx_V} {M : rx_M} {d pc : Nat} {f t : rx_K}
-- an object is made: its fields' first values are codes 0, 1 (a long), 3 (a reference)
def rx_df (ty : FieldType) : Nat := match ty with
  | .long => 1
  | .object _ => 3
  | .array _ => 3
  | _ => 0
def rx_dfok (ty : FieldType) : Bool := match ty with
  | .float => false
  | .double => false
  | _ => true
theorem rx_df_v {ty : FieldType} (h : rx_dfok ty = true) : rx_v V (rx_df ty) = defaultValue ty := by
  cases ty with
  | float => cases h
  | double => cases h
  | _ => rfl
noncomputable def o_new (ci n : Nat) (fs : List (List Nat)) (k : rx_K) : rx_K := fun lv st h => rx_hp h (0, ci, n, fs, []) fun h1 => rx_f (8 * h.1 + 2) fun v => k lv (v :: st) h1
theorem s_new {ci index N : Nat} {C : String} {T : u_T} {ty : Nat → FieldType} {fs : List (List Nat)} (hcl : rx_Cl V ci C T N ty) (hfs : ∀ k, k < N → rx_dfok (ty k) = true ∧ rx_fg fs k = rx_df (ty k)) (hdg : decode M.2.1 pc = .ok (.new index, 3)) (hw1 : Cond.classLink M.1 index C ∈ eW V) (hw2 : Cond.instantiable C N ∈ eW V) (hw3 : Cond.initialized C ∈ eW V) (hk : rx_OK V M d (pc + 3) f) : rx_OK V M d pc (o_new ci N fs f) := by
  refine rx_heap fun lv st h r h' hf => ?_
  simp only [o_new, rx_f_eq] at hf
  obtain ⟨h1, hf, e1, e2, e3, eg⟩ := rx_hp_some hf
  dsimp only at e2
  refine ⟨pc + 3, f, lv, _, h1, hk, hf, by omega, by omega, fun p l e R s m args below meth c hC hE n0 z0 hn0 hz0 hR1 hR2 hR3 hR4 H locs ls Q hW hF hL kk => ?_⟩
  have hts := hC.2.2.2.2.2.2.1
  have hKn := hE.1.1 ci _ hcl.1
  refine W.newcK hC.1 hC.2.1 hC.2.2.2.2.2.1 (hts _ hw1) (hts _ hw2) (hts _ hw3) rfl hdg (by omega) (by omega) hKn.2.1 rfl fun H1 kC hkC x1 z1 o1 => ?_
  have hb : eb V ≤ H.size := by rw [hW.1]; omega
  have hk2 := kk H1 locs ls (rx_w_push hW e1 e3 eg z1 o1 ⟨⟨_, hcl.1, rfl⟩, ?_⟩) (rx_F_push hF z1 o1 hb) hL
  · rw [List.map_cons, rx_v_2 (by omega), show (8 * h.1 + 2) / 8 = h.1 by omega, ← hW.1, e1, e2, show h.1 + 1 - n0 = h.1 - n0 + 1 by omega, show h.2.1 + N - z0 = h.2.1 - z0 + N by omega] at hk2
    exact hk2
  · have x2 : H1[eb V + h.1]? = some (blank ((eD V).1 ci) kC) := by rw [← hW.1]; exact x1
    exact (u_born ty hts hcl.2.1 hKn hkC x2 hcl.2.2.1).to (fun k hk => by rw [(hfs k hk).2]; exact (rx_df_v (hfs k hk).1).symm)
-- arrays
noncomputable def rx_ar {β : Type} (h : rx_H) (o tt : Nat) (k : Nat → Nat → List (Nat × Nat) → Option β) : Option β := bif Nat.beq (o % 8) 2 && Nat.blt (o / 8) h.1 then (match rx_hg h (o / 8) with
  | (z, _, n, fs, us) => bif Nat.beq z (tt + 1) then k n (rx_fg fs 0) us else none) else none
theorem rx_ar_some {β : Type} {h : rx_H} {o tt : Nat} {k : Nat → Nat → List (Nat × Nat) → Option β} {r : β} (hf : rx_ar h o tt k = some r) : o % 8 = 2 ∧ o / 8 < h.1 ∧ ∃ a n fs us, rx_hg h (o / 8) = (tt + 1, a, n, fs, us) ∧ k n (rx_fg fs 0) us = some r := by
  unfold rx_ar at hf
  obtain ⟨hc, hf⟩ := rx_bifn hf
  obtain ⟨h1, h2⟩ := Bool.and_eq_true_iff.mp hc
  refine ⟨rx_beq h1, Nat.le_of_ble_eq_true h2, ?_⟩
  generalize rx_hg h (o / 8) = e at hf
  obtain ⟨z, a, n, fs, us⟩ := e
  dsimp only at hf
  obtain ⟨hc, hf⟩ := rx_bifn hf
  rw [rx_beq hc]
  exact ⟨a, n, fs, us, rfl, hf⟩
theorem rx_ar_at {h : rx_H} {H : Heap} {o tt a n : Nat} {fs : List (List Nat)} {us : List (Nat × Nat)} (hW : rx_w V h H) (ho : o / 8 < h.1) (he : rx_hg h (o / 8) = (tt + 1, a, n, fs, us)) : H[eb V + o / 8]? = some (arrV (eA V tt) n (fun j => rx_v V (rx_lk (rx_fg fs 0) us j))) := by
  have h1 := hW.2.1 _ ho
  rw [he] at h1
  exact h1
theorem rx_ty {s : State} {tt : Nat} {ty : FieldType} (hE : rx_En V s) (ht : (eT V)[tt]? = some ty) : ArrOfT s (eA V tt) ty ∧ va_RA s (eA V tt) ty := hE.1.2 tt _ (rx_tys_at ht)
theorem rx_in {x : Int32} {i n : Nat} (hx : x = Int32.ofNat i) (hn : i < n) (h31 : n < 2147483648) : ¬ (x < 0 ∨ n ≤ x.toNatClampNeg) ∧ x.toNatClampNeg = i := by
  subst hx
  have e : (Int32.ofNat i).toNatClampNeg = i := nI_clamp (n := i) (by omega)
  have p : ¬ Int32.ofNat i < 0 := nI_pos (n := i) (by omega)
  rw [e]
  exact ⟨fun q => q.elim p (fun z => by omega), rfl⟩
noncomputable def o_alen (tt : Nat) (k : rx_K) : rx_K := fun lv st h => match st with
  | o :: r => rx_ar h o tt fun n _ _ => bif Nat.blt n 268435456 then rx_f (8 * n) fun v => k lv (v :: r) h else none
  | _ => none
theorem s_alen {tt : Nat} {ty : FieldType} (ht : (eT V)[tt]? = some ty) (hdg : decode M.2.1 pc = .ok (.arraylength, 1)) (hk : rx_OK V M d (pc + 1) f) : rx_OK V M d pc (o_alen tt f) := by
  refine rx_pure fun lv st h r h' hf => ?_
  match st, hf with
  | [], hf => cases hf
  | o :: st, hf =>
  simp only [o_alen, rx_f_eq] at hf
  obtain ⟨ho, hlt, a, n, fs, us, he, hf⟩ := rx_ar_some hf
  obtain ⟨hn, hf⟩ := rx_bifn hf
  refine ⟨pc + 1, f, lv, _, hk, hf, fun p l e R s m args below meth c hC hE H locs ls cells slots Q hW hF hL kk => ?_⟩
  have hat := rx_ar_at hW hlt he
  have h2 := kk ls hL
  rw [List.map_cons, rx_v_0 (by omega)] at h2
  rw [List.map_cons, rx_v_2 ho]
  refine W.alen hC.1 hC.2.1 hat ((rx_ty hE ht).1 n _) ?_ rfl rfl hdg h2
  rw [arrV_size]
  show Int32.ofNat n = rx_di (8 * n)
  unfold rx_di
  rw [show 8 * n / 8 = n by omega]
-- loads: i, l, b, z, a
noncomputable def o_ald (tt : Nat) (k : rx_K) : rx_K := fun lv st h => match st with
  | i :: o :: r => bif Nat.beq (i % 8) 0 then rx_ar h o tt fun n dv us => bif Nat.blt (i / 8) n && Nat.blt n 268435456 then rx_f (rx_lk dv us (i / 8)) fun v => k lv (v :: r) h else none else none
  | _ => none
theorem rx_ald {tt : Nat} (row : ∀ (p : Program) (l : Launch) (e : Env) (R : Room) (s : State) (m : MethodId) (args : Array Value) (below : List Frame) (meth : Method) (c : Code) (H : Heap) (locs : List Loc) (ls : Array Slot) (cells slots : Nat) (Q : State → Prop), rx_Cx V M p s m args meth c → rx_En V s → ∀ (a n : Nat) (g : Nat → Value) (j : Int32) (v : Value) (rest : List Value), H[a]? = some (arrV (eA V tt) n g) → ¬ (j < 0 ∨ (arrV (eA V tt) n g).slots.size ≤ j.toNatClampNeg) → (arrV (eA V tt) n g).slots[j.toNatClampNeg]? = some v → W p l e R s m args below meth c H locs cells slots Q (F0 m (pc + 1) ls (v :: rest)) → W p l e R s m args below meth c H locs cells slots Q (F0 m pc ls (.int j :: .ref a :: rest))) (hk : rx_OK V M d (pc + 1) f) : rx_OK V M d pc (o_ald tt f) := by
  refine rx_pure fun lv st h r h' hf => ?_
  match st, hf with
  | [], hf => cases hf
  | [_], hf => cases hf
  | i :: o :: st, hf =>
  simp only [o_ald, rx_f_eq] at hf
  obtain ⟨hi, hf⟩ := rx_bifn hf
  obtain ⟨ho, hlt, a, n, fs, us, he, hf⟩ := rx_ar_some hf
  obtain ⟨hc, hf⟩ := rx_bifn hf
  obtain ⟨h1, h2⟩ := Bool.and_eq_true_iff.mp hc
  have h1 : i / 8 < n := Nat.le_of_ble_eq_true h1
  have h2 : n < 268435456 := Nat.le_of_ble_eq_true h2
  refine ⟨pc + 1, f, lv, _, hk, hf, fun p l e R s m args below meth c hC hE H locs ls cells slots Q hW hF hL kk => ?_⟩
  have hat := rx_ar_at hW hlt he
  obtain ⟨x1, x2⟩ := rx_in (x := rx_di i) (i := i / 8) (n := n) rfl h1 (by omega)
  rw [List.map_cons, List.map_cons, rx_v_0 (rx_beq hi), rx_v_2 ho]
  refine row p l e R s m args below meth c H locs ls cells slots Q hC hE _ n _ _ (rx_v V (rx_lk (rx_fg fs 0) us (i / 8))) _ hat (by rw [arrV_size]; exact x1) ?_ (kk ls hL)
  rw [x2, arrV_read _ _ h1]
theorem s_iald {tt : Nat} (ht : (eT V)[tt]? = some .int) (hdg : decode M.2.1 pc = .ok (.iaload, 1)) (hk : rx_OK V M d (pc + 1) f) : rx_OK V M d pc (o_ald tt f) :=
  rx_ald (fun p l e R s m args below meth c H locs ls cells slots Q hC hE a n g j v rest h1 h2 h3 kk => W.iald hC.1 hC.2.1 h1 ((rx_ty hE ht).1 n g) (fun q => by cases q) h2 h3 rfl rfl hdg kk) hk
theorem s_lald {tt : Nat} (ht : (eT V)[tt]? = some .long) (hdg : decode M.2.1 pc = .ok (.laload, 1)) (hk : rx_OK V M d (pc + 1) f) : rx_OK V M d pc (o_ald tt f) :=
  rx_ald (fun p l e R s m args below meth c H locs ls cells slots Q hC hE a n g j v rest h1 h2 h3 kk => W.lald hC.1 hC.2.1 h1 ((rx_ty hE ht).1 n g) (fun q => by cases q) h2 h3 rfl rfl hdg kk) hk
theorem s_bald {tt : Nat} (ht : (eT V)[tt]? = some .byte) (hdg : decode M.2.1 pc = .ok (.baload, 1)) (hk : rx_OK V M d (pc + 1) f) : rx_OK V M d pc (o_ald tt f) :=
  rx_ald (fun p l e R s m args below meth c H locs ls cells slots Q hC hE a n g j v rest h1 h2 h3 kk => W.bald hC.1 hC.2.1 h1 ((rx_ty hE ht).1 n g) (fun q => by cases q) h2 h3 rfl rfl hdg kk) hk
theorem s_zald {tt : Nat} (ht : (eT V)[tt]? = some .boolean) (hdg : decode M.2.1 pc = .ok (.baload, 1)) (hk : rx_OK V M d (pc + 1) f) : rx_OK V M d pc (o_ald tt f) :=
  rx_ald (fun p l e R s m args below meth c H locs ls cells slots Q hC hE a n g j v rest h1 h2 h3 kk => W.zald hC.1 hC.2.1 h1 ((rx_ty hE ht).1 n g) (fun q => by cases q) h2 h3 rfl rfl hdg kk) hk
theorem s_aald {tt : Nat} {ty : FieldType} (ht : (eT V)[tt]? = some ty) (hr : ty.isReference = true) (hdg : decode M.2.1 pc = .ok (.aaload, 1)) (hk : rx_OK V M d (pc + 1) f) : rx_OK V M d pc (o_ald tt f) :=
  rx_ald (fun p l e R s m args below meth c H locs ls cells slots Q hC hE a n g j v rest h1 h2 h3 kk => W.aald hC.1 hC.2.1 h1 ((rx_ty hE ht).1 n g) hr (fun q => by cases q) h2 h3 rfl rfl hdg kk) hk
-- stores
noncomputable def o_ast (tt : Nat) (g : Nat → Nat) (chk : Nat → Bool) (k : rx_K) : rx_K := fun lv st h => match st with
  | v :: i :: o :: r => bif chk v && Nat.beq (i % 8) 0 then rx_ar h o tt fun n dv us => bif Nat.blt (i / 8) n && Nat.blt n 268435456 then rx_f (i / 8) fun j => rx_f (g v) fun v' => rx_hs h (o / 8) (tt + 1, n, n, [[dv]], (j, v') :: us) fun h' => k lv r h' else none else none
  | _ => none
theorem rx_arrset {cA : ClassId} {n i : Nat} {g : Nat → Value} {v : Value} {dv : Nat} {us : List (Nat × Nat)} {c : Nat} (hg : ∀ j, g j = rx_v V (rx_lk dv us j)) (hv : v = rx_v V c) : (arrV cA n g).setSlot i v = arrV cA n (fun j => rx_v V (rx_lk (rx_fg [[dv]] 0) ((i, c) :: us) j)) := by
  rw [arrV_store]
  congr 1
  funext j
  show updV g i v j = rx_v V (rx_lk dv ((i, c) :: us) j)
  rw [rx_lk_cons]
  by_cases e : j = i
  · simp [updV, e, hv]
  · simp [updV, e, hg j]
theorem rx_ast {tt : Nat} {g : Nat → Nat} {chk : Nat → Bool} (row : ∀ (p : Program) (l : Launch) (e : Env) (R : Room) (s : State) (m : MethodId) (args : Array Value) (below : List Frame) (meth : Method) (c : Code) (H : Heap) (locs : List Loc) (ls : Array Slot) (cells slots : Nat) (Q : State → Prop), rx_Cx V M p s m args meth c → rx_En V s → ∀ (h : rx_H) (a n : Nat) (z : Nat → Value) (j : Int32) (v : Nat) (rest : List Value), chk v = true → rx_w V h H → H[a]? = some (arrV (eA V tt) n z) → ¬ (j < 0 ∨ (arrV (eA V tt) n z).slots.size ≤ j.toNatClampNeg) → (∀ H' : Heap, H'[a]? = some ((arrV (eA V tt) n z).setSlot j.toNatClampNeg (rx_v V (g v))) → H'.size = H.size → (∀ q, q ≠ a → H'[q]? = H[q]?) → W p l e R s m args below meth c H' (locs ++ [⟨a, j.toNatClampNeg⟩]) cells slots Q (F0 m (pc + 1) ls rest)) → W p l e R s m args below meth c H locs cells slots Q (F0 m pc ls (rx_v V v :: .int j :: .ref a :: rest))) (hk : rx_OK V M d (pc + 1) f) : rx_OK V M d pc (o_ast tt g chk f) := by
  refine rx_heap fun lv st h r h' hf => ?_
  match st, hf with
  | [], hf => cases hf
  | [_], hf => cases hf
  | [_, _], hf => cases hf
  | v :: i :: o :: st, hf =>
  simp only [o_ast, rx_f_eq] at hf
  obtain ⟨hc, hf⟩ := rx_bifn hf
  obtain ⟨hv, hi⟩ := Bool.and_eq_true_iff.mp hc
  obtain ⟨ho, hlt, a, n, fs, us, he, hf⟩ := rx_ar_some hf
  obtain ⟨hc, hf⟩ := rx_bifn hf
  obtain ⟨h1, h2⟩ := Bool.and_eq_true_iff.mp hc
  have h1 : i / 8 < n := Nat.le_of_ble_eq_true h1
  have h2 : n < 268435456 := Nat.le_of_ble_eq_true h2
  obtain ⟨hh, hf, e1, e2, e3, eg⟩ := rx_hs_some hf
  refine ⟨pc + 1, f, lv, st, hh, hk, hf, by omega, by omega, fun p l e R s m args below meth c hC hE n0 z0 hn0 hz0 hR1 hR2 hR3 hR4 H locs ls Q hW hF hL kk => ?_⟩
  have hat := rx_ar_at hW hlt he
  obtain ⟨x1, x2⟩ := rx_in (x := rx_di i) (i := i / 8) (n := n) rfl h1 (by omega)
  rw [List.map_cons, List.map_cons, List.map_cons, rx_v_0 (rx_beq hi), rx_v_2 ho]
  refine row p l e R s m args below meth c H locs ls _ _ Q hC hE h _ n _ _ v _ hv hW hat (by rw [arrV_size]; exact x1) fun H' y1 y2 y3 => ?_
  have hkk := kk H' (locs ++ [⟨eb V + o / 8, (rx_di i).toNatClampNeg⟩]) ls ?_ (rx_F_set hF y2 y3 (by omega)) hL
  · rw [e1, e2] at hkk; exact hkk
  · refine rx_w_set hW hlt e1 e3 eg y2 y3 ?_
    show H'[_]? = _
    rw [y1, x2, rx_arrset (fun j => rfl) rfl]
theorem s_iast (hV : rx_Ok V) {tt : Nat} (ht : (eT V)[tt]? = some .int) (hdg : decode M.2.1 pc = .ok (.iastore, 1)) (hk : rx_OK V M d (pc + 1) f) : rx_OK V M d pc (o_ast tt (fun v => v) rx_isI f) :=
  rx_ast (fun p l e R s m args below meth c H locs ls cells slots Q hC hE h a n z j v rest hv hW h1 h2 kk => by
    obtain ⟨-, x, ex⟩ := rx_isI_v hV hv
    rw [ex] at kk ⊢
    exact W.iast hC.1 hC.2.1 h1 ((rx_ty hE ht).1 n z) (fun q => by cases q) h2 rfl rfl hdg kk) hk
theorem s_last {tt : Nat} (ht : (eT V)[tt]? = some .long) (hdg : decode M.2.1 pc = .ok (.lastore, 1)) (hk : rx_OK V M d (pc + 1) f) : rx_OK V M d pc (o_ast tt (fun v => v) rx_isL f) :=
  rx_ast (fun p l e R s m args below meth c H locs ls cells slots Q hC hE h a n z j v rest hv hW h1 h2 kk => by
    obtain ⟨-, ex⟩ := rx_isL_v (V := V) hv
    rw [ex] at kk ⊢
    exact W.last hC.1 hC.2.1 h1 ((rx_ty hE ht).1 n z) (fun q => by cases q) h2 rfl rfl hdg kk) hk
-- a byte: what is narrow already stays (also what comes from outside by (byte)); else it is narrowed
def rx_isB (c : Nat) : Bool := Nat.beq (c % 8) 0 || (Nat.beq (c % 8) 5 && Nat.beq (c / 8 / 160) 1)
def rx_nb (c : Nat) : Nat := bif Nat.beq (c % 8) 0 then rx_ei (rx_di c).toInt8.toInt32 else c
theorem s_bast {tt : Nat} (ht : (eT V)[tt]? = some .byte) (hdg : decode M.2.1 pc = .ok (.bastore, 1)) (hk : rx_OK V M d (pc + 1) f) : rx_OK V M d pc (o_ast tt rx_nb rx_isB f) :=
  rx_ast (fun p l e R s m args below meth c H locs ls cells slots Q hC hE h a n z j v rest hv hW h1 h2 kk => by
    rcases Bool.or_eq_true_iff.mp hv with q | q
    · have e0 := rx_beq q
      unfold rx_nb at kk
      rw [q, cond_true, rx_v_ei] at kk
      rw [rx_v_0 e0]
      exact W.bast hC.1 hC.2.1 h1 ((rx_ty hE ht).1 n z) (fun q => by cases q) h2 rfl rfl hdg kk
    · obtain ⟨q1, q2⟩ := Bool.and_eq_true_iff.mp q
      have e5 := rx_beq q1
      have e1 := rx_beq q2
      unfold rx_nb at kk
      have e0 : Nat.beq (v % 8) 0 = false := by rw [e5]; rfl
      rw [e0, cond_false, rx_v_5 e5] at kk
      rw [rx_v_5 e5]
      unfold rx_x at kk ⊢
      dsimp only at kk ⊢
      rw [if_neg (by omega), if_pos e1] at kk ⊢
      refine W.bast hC.1 hC.2.1 h1 ((rx_ty hE ht).1 n z) (fun q => by cases q) h2 rfl rfl hdg ?_
      rw [pk_nb]
      exact kk) hk
def rx_isZ (c : Nat) : Bool := Nat.beq c 0 || Nat.beq c 8
theorem s_zast {tt : Nat} (ht : (eT V)[tt]? = some .boolean) (hdg : decode M.2.1 pc = .ok (.bastore, 1)) (hk : rx_OK V M d (pc + 1) f) : rx_OK V M d pc (o_ast tt (fun v => v) rx_isZ f) :=
  rx_ast (fun p l e R s m args below meth c H locs ls cells slots Q hC hE h a n z j v rest hv hW h1 h2 kk => by
    rcases Bool.or_eq_true_iff.mp hv with q | q
    · rw [rx_beq q, rx_v_0 rfl] at kk ⊢
      exact W.zast hC.1 hC.2.1 h1 ((rx_ty hE ht).1 n z) (fun q => by cases q) h2 rfl rfl hdg kk
    · rw [rx_beq q, rx_v_0 rfl] at kk ⊢
      exact W.zast hC.1 hC.2.1 h1 ((rx_ty hE ht).1 n z) (fun q => by cases q) h2 rfl rfl hdg kk) hk
end RX16

section RX25
variable {V : rx_V} {M : rx_M} {d pc : Nat} {f t : rx_K}
theorem rx_by {g : rx_K} (h : f = g) (k : rx_OK V M d pc g) : rx_OK V M d pc f := h ▸ k
theorem e_ldI (i : Nat) (k : rx_K) : q_ld q_isI i k = o_ld rx_isI i k := (e_ld _ _ _).trans (by rw [e_isI])
theorem e_ldR (i : Nat) (k : rx_K) : q_ld q_isR i k = o_ld rx_isR i k := (e_ld _ _ _).trans (by rw [e_isR])
theorem e_stI (i : Nat) (k : rx_K) : q_st q_isI i k = o_st rx_isI i k := (e_st _ _ _).trans (by rw [e_isI])
theorem e_stR (i : Nat) (k : rx_K) : q_st q_isR i k = o_st rx_isR i k := (e_st _ _ _).trans (by rw [e_isR])
theorem e_astI (tt : Nat) (g : Nat → Nat) (k : rx_K) : q_ast tt g q_isI k = o_ast tt g rx_isI k := (e_ast _ _ _ _).trans (by rw [e_isI])
theorem c_int : rx_chk .int = q_isI := e_isI.symm
theorem c_long : rx_chk .long = q_isL := e_isL.symm
theorem c_obj {n : String} : rx_chk (.object n) = q_isR := e_isR.symm
theorem c_arr {t : FieldType} : rx_chk (.array t) = q_isR := e_isR.symm
theorem c_bool : rx_chk .boolean = rx_isZ := rfl
-- which of the values from outside stands uppermost, second, n-th
def zq0 (x : Nat) (st : List Nat) (_ : rx_H) : Bool := match st with
  | o :: _ => Nat.beq o (8 * x + 4)
  | _ => false
def zq1 (x : Nat) (st : List Nat) (_ : rx_H) : Bool := match st with
  | _ :: o :: _ => Nat.beq o (8 * x + 4)
  | _ => false
noncomputable def zqn (n x : Nat) (st : List Nat) (_ : rx_H) : Bool := Nat.beq (rx_get 7 st n) (8 * x + 4)
-- one of several ways, by its place
noncomputable def rx_pk (l : List (Nat × rx_K)) (p : Nat) : rx_K := List.rec (motive := fun _ => rx_K) o_none (fun q _ ih => Bool.rec (motive := fun _ => rx_K) ih q.2 (Nat.beq q.1 p)) l
theorem rx_pk_ok {l : List (Nat × rx_K)} (h : ∀ q ∈ l, rx_OK V M d q.1 q.2) (p : Nat) : rx_OK V M d p (rx_pk l p) := by
  induction l with
  | nil => exact s_none
  | cons q l ih =>
    show rx_OK V M d p (Bool.rec (motive := fun _ => rx_K) (rx_pk l p) q.2 (Nat.beq q.1 p))
    cases e : Nat.beq q.1 p with
    | false => exact ih (fun x hx => h x (List.mem_cons_of_mem _ hx))
    | true =>
      have := h q List.mem_cons_self
      rw [rx_beq e] at this
      exact this
-- a switch by a number from outside that no case has
noncomputable def o_swy (L Hh : Int) (f : rx_K) : rx_K := fun lv st h => match st with
  | v :: r => bif Nat.beq (v % 8) 4 then (match rx_b h v with
    | some (a, b) => bif decide (b < L) || decide (Hh < a) then f lv r h else none
    | none => none) else none
  | _ => none
theorem s_swy {dt : Nat} {dflt L Hh : Int} {offs : Array Int} {len : Nat} (hdg : decode M.2.1 pc = .ok (.tableswitch dflt L Hh offs, len)) (hd : (pc : Int) + dflt = (dt : Int)) (hj : rx_OK V M d dt f) : rx_OK V M d pc (o_swy L Hh f) := by
  refine rx_pure fun lv st h r h' hf => ?_
  match st, hf with
  | [], hf => cases hf
  | v :: st, hf =>
  simp only [o_swy] at hf
  obtain ⟨hc, hf⟩ := rx_bifn hf
  cases hb : rx_b h v with
  | none => rw [hb] at hf; cases hf
  | some ab =>
    obtain ⟨a, b⟩ := ab
    rw [hb] at hf
    dsimp only at hf
    obtain ⟨hq, hf⟩ := rx_bifn hf
    refine ⟨dt, f, lv, st, hj, hf, fun p l e R s m args below meth c hC hE H locs ls cells slots Q hW hF hL kk => ?_⟩
    obtain ⟨x, ex, h1, h2⟩ := rx_b_ok hW hb
    rw [List.map_cons, ex]
    refine lv_tableOut hC.1 hC.2.1 hdg ?_ hd (kk ls hL)
    rcases Bool.or_eq_true_iff.mp hq with q | q
    · have := of_decide_eq_true q; omega
    · have := of_decide_eq_true q; omega
def zqx (st : List Nat) (_ : rx_H) : Bool := match st with
  | v :: _ => Nat.beq (v % 8) 4
  | _ => false
noncomputable def o_swx (L Hh : Int) (lo : Nat) (ts : List Nat) (dt : Nat) (j : Nat → rx_K) : rx_K := o_alt zqx (o_swy L Hh (j dt)) (o_sw lo ts dt j)
theorem s_swx {lo : Nat} {dt : Nat} {ts : List Nat} {j : Nat → rx_K} {dflt L Hh : Int} {offs : Array Int} {len : Nat} (hdg : decode M.2.1 pc = .ok (.tableswitch dflt L Hh offs, len)) (hlo : L.emod 4294967296 = (lo : Int)) (hL : L + ts.length = Hh + 1) (hrg : -2147483648 ≤ L ∧ Hh < 2147483648) (hd : (pc : Int) + dflt = (dt : Int)) (hts : (offs.toList.map fun o => (pc : Int) + o) = ts.map Int.ofNat) (hj : ∀ b ∈ dt :: ts, rx_OK V M d b (j b)) : rx_OK V M d pc (o_swx L Hh lo ts dt j) :=
  s_alt (s_swy hdg hd (hj dt List.mem_cons_self)) (s_sw hdg hlo hL hrg hd hts hj)
-- the script: what stands in it from its second place on has codes, of its first the six lowest bits are known
noncomputable def o_xiald (k : Nat) (sc : List Nat) (L : Nat) (g : rx_K) : rx_K := fun lv st h => match st with
  | i :: o :: r => bif Nat.beq o (8 * k + 4) && (Nat.beq (i % 8) 0 && (Nat.ble 1 (i / 8) && Nat.blt (i / 8) L)) then rx_f (rx_nth sc (i / 8) 7) fun v => g lv (v :: r) h else none
  | _ => none
theorem s_xiald {k L : Nat} {sc : List Nat} {F : Nat → Value} (hX : (∀ s, eX V s → ∃ q, ex V k = .ref q ∧ va_T .int q L F (fun q => eb V ≤ q) s s.heap) ∧ L < 2147483648 ∧ ∀ j, 1 ≤ j → j < L → F j = rx_v V (rx_nth sc j 7)) (hdg : decode M.2.1 pc = .ok (.iaload, 1)) (hk : rx_OK V M d (pc + 1) f) : rx_OK V M d pc (o_xiald k sc L f) := by
  refine rx_pure fun lv st h r h' hf => ?_
  match st, hf with
  | [], hf => cases hf
  | [_], hf => cases hf
  | i :: a :: st, hf =>
  simp only [o_xiald, rx_f_eq] at hf
  obtain ⟨hc, hf⟩ := rx_bifn hf
  obtain ⟨hc, hi⟩ := Bool.and_eq_true_iff.mp hc
  obtain ⟨hi, hlt⟩ := Bool.and_eq_true_iff.mp hi
  obtain ⟨h1, hlt⟩ := Bool.and_eq_true_iff.mp hlt
  have hc := rx_beq hc
  have h1 : 1 ≤ i / 8 := Nat.le_of_ble_eq_true h1
  have hlt : i / 8 < L := Nat.le_of_ble_eq_true hlt
  refine ⟨pc + 1, f, lv, _, hk, hf, fun p l e R s m args below meth c hC hE H locs ls cells slots Q hW hF hL kk => ?_⟩
  obtain ⟨q, e1, e2⟩ := hX.1 s hE.2.1
  obtain ⟨x1, x2⟩ := rx_in (x := rx_di i) (i := i / 8) (n := L) rfl hlt hX.2.1
  rw [List.map_cons, List.map_cons, rx_v_0 (rx_beq hi), rx_v_4 (by omega), show a / 8 = k by omega, e1]
  exact va_ti hC.1 hC.2.1 e2 (rx_S hF) x1 (by rw [x2]; exact hX.2.2 _ h1 hlt) hdg (kk ls hL)
noncomputable def o_s63 (k w L : Nat) (g : rx_K) : rx_K := fun lv st h => match st with
  | i :: o :: r => bif Nat.beq o (8 * k + 4) && (Nat.beq i 0 && Nat.ble 1 L) then g lv (8 * w :: r) h else none
  | _ => none
theorem s_s63 {k w L : Nat} {F : Nat → Value} (hX : (∀ s, eX V s → ∃ q, ex V k = .ref q ∧ va_T .int q L F (fun q => eb V ≤ q) s s.heap) ∧ L < 2147483648 ∧ (1 ≤ L → ∃ x : Int32, F 0 = .int x ∧ x &&& 63 = rx_di (8 * w))) (hdg : decode M.2.1 pc = .ok (.iaload, 1)) (hdg2 : decode M.2.1 (pc + 1) = .ok (.bipush 63, 2)) (hdg3 : decode M.2.1 (pc + 1 + 2) = .ok (.iand, 1)) (hk : rx_OK V M d (pc + 1 + 2 + 1) f) : rx_OK V M d pc (o_s63 k w L f) := by
  refine rx_pure fun lv st h r h' hf => ?_
  match st, hf with
  | [], hf => cases hf
  | [_], hf => cases hf
  | i :: a :: st, hf =>
  simp only [o_s63] at hf
  obtain ⟨hc, hf⟩ := rx_bifn hf
  obtain ⟨hc, hi⟩ := Bool.and_eq_true_iff.mp hc
  obtain ⟨hi, hl⟩ := Bool.and_eq_true_iff.mp hi
  have hc := rx_beq hc
  have hi := rx_beq hi
  have hl : 1 ≤ L := Nat.le_of_ble_eq_true hl
  refine ⟨pc + 1 + 2 + 1, f, lv, _, hk, hf, fun p l e R s m args below meth c hC hE H locs ls cells slots Q hW hF hL kk => ?_⟩
  obtain ⟨q, e1, e2⟩ := hX.1 s hE.2.1
  obtain ⟨x, ex, hx⟩ := hX.2.2 hl
  subst hi
  have h2 := kk ls hL
  rw [List.map_cons, rx_v_0 (by omega), ← hx] at h2
  rw [List.map_cons, List.map_cons, rx_v_0 rfl, rx_v_4 (by omega), show a / 8 = k by omega, e1]
  obtain ⟨x1, x2⟩ := rx_in (x := rx_di 0) (i := 0) (n := L) rfl hl hX.2.1
  refine va_ti (v := .int x) hC.1 hC.2.1 e2 (rx_S hF) x1 (by rw [x2]; exact ex) hdg ?_
  refine lv_bipush (v := 63) hC.1 hC.2.1 hdg2 (by decide +kernel) ?_
  exact lv_iand hC.1 hC.2.1 hdg3 h2
end RX25

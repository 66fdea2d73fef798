section RX33
variable {V : rx_V} {M : rx_M} {d pc : Nat} {f t : rx_K}
theorem c1_int : rx_chk .int = rx_isI := rfl
theorem c1_long : rx_chk .long = rx_isL := rfl
theorem c1_obj {n : String} : rx_chk (.object n) = rx_isR := rfl
theorem c1_arr {t : FieldType} : rx_chk (.array t) = rx_isR := rfl
theorem c1_bool : rx_chk .boolean = rx_isZ := rfl
theorem z_chkZ8 {c : Nat} (h : rx_chk .boolean c = true) : c % 8 = 0 := by
  rcases Bool.or_eq_true_iff.mp h with h | h
  · rw [rx_beq h]
  · rw [rx_beq h]
theorem z_chkY8 {c : Nat} (h : rx_chk .byte c = true) : c % 8 = 0 := rx_beq (Bool.and_eq_true_iff.mp h).1
-- a row of whole numbers from outside
theorem s_xiw {k : Nat} {bs : List Nat} (hbs : bs.length < 2147483648) (hX : ∀ s, eX V s → ∃ q, ex V k = .ref q ∧ va_T .int q bs.length (fun j => rx_v V (rx_nth bs j 7)) (fun q => eb V ≤ q) s s.heap) (hdg : decode M.2.1 pc = .ok (.iaload, 1)) (hk : rx_OK V M d (pc + 1) f) : rx_OK V M d pc (o_xald k bs f) := by
  refine rx_pure fun lv st h r h' hf => ?_
  match st, hf with
  | [], hf => cases hf
  | [_], hf => cases hf
  | i :: a :: st, hf =>
  simp only [o_xald, rx_f_eq] at hf
  obtain ⟨hc, hf⟩ := rx_bifn hf
  obtain ⟨hc, hi⟩ := Bool.and_eq_true_iff.mp hc
  obtain ⟨hi, hlt⟩ := Bool.and_eq_true_iff.mp hi
  have hc := rx_beq hc
  have hlt : i / 8 < bs.length := Nat.le_of_ble_eq_true hlt
  refine ⟨pc + 1, f, lv, _, hk, hf, fun p l e R s m args below meth c hC hE H locs ls cells slots Q hW hF hL kk => ?_⟩
  obtain ⟨q, e1, e2⟩ := hX s hE.2.1
  obtain ⟨x1, x2⟩ := rx_in (x := rx_di i) (i := i / 8) (n := bs.length) rfl hlt hbs
  rw [List.map_cons, List.map_cons, rx_v_0 (rx_beq hi), rx_v_4 (by omega), show a / 8 = k by omega, e1]
  exact va_ti hC.1 hC.2.1 e2 (rx_S hF) x1 (by rw [x2]) hdg (kk ls hL)
-- a switch by keys
noncomputable def rx_lsw (ps : List (Int × Nat)) (dt : Nat) (x : Int) : Nat := List.rec (motive := fun _ => Nat) dt (fun q _ ih => if q.1 = x then q.2 else ih) ps
noncomputable def o_lsw (ps : List (Int × Nat)) (dt : Nat) (j : Nat → rx_K) : rx_K := fun lv st h => match st with
  | v :: r => bif Nat.beq (v % 8) 0 then j (rx_lsw ps dt (rx_di v).toInt) lv r h else none
  | _ => none
theorem rx_lsw_ok {pc dt : Nat} {dflt : Int} (hd : (pc : Int) + dflt = (dt : Int)) : ∀ (qs : List (Int × Int)) (ps : List (Int × Nat)) (x : Int), (qs.map fun q => (q.1, (pc : Int) + q.2)) = ps.map (fun q => (q.1, (q.2 : Int))) → (pc : Int) + Op.lookupswitch.offset qs dflt x = (rx_lsw ps dt x : Int)
  | [], [], x, _ => hd
  | [], _ :: _, x, h => by cases h
  | _ :: _, [], x, h => by cases h
  | (a, o) :: qs, (b, u) :: ps, x, h => by
    have h1 := (List.cons.inj h).1
    have h2 := (List.cons.inj h).2
    have ih := rx_lsw_ok hd qs ps x h2
    have e1 : a = b := (Prod.mk.inj h1).1
    have e2 : (pc : Int) + o = (u : Int) := (Prod.mk.inj h1).2
    subst e1
    show (pc : Int) + Op.lookupswitch.offset ((a, o) :: qs) dflt x = ((if a = x then u else rx_lsw ps dt x : Nat) : Int)
    rw [Op.lookupswitch.offset_cons]
    by_cases e : a = x
    · rw [if_pos e, if_pos e]; exact e2
    · rw [if_neg e, if_neg e]; exact ih
theorem s_lsw {dt len : Nat} {ps : List (Int × Nat)} {j : Nat → rx_K} {dflt : Int} {qs : Array (Int × Int)} (hdg : decode M.2.1 pc = .ok (.lookupswitch dflt qs, len)) (hd : (pc : Int) + dflt = (dt : Int)) (hts : (qs.toList.map fun q => (q.1, (pc : Int) + q.2)) = ps.map (fun q => (q.1, (q.2 : Int))) ∧ (qs.toList.zip (qs.toList.drop 1)).all (fun (a, next) => a.1 < next.1) = true) (hj : ∀ b, rx_OK V M d b (j b)) : rx_OK V M d pc (o_lsw ps dt j) := by
  refine rx_pure fun lv st h r h' hf => ?_
  match st, hf with
  | [], hf => cases hf
  | v :: st, hf =>
  simp only [o_lsw] at hf
  obtain ⟨hc, hf⟩ := rx_bifn hf
  refine ⟨_, _, lv, st, hj (rx_lsw ps dt (rx_di v).toInt), hf, fun p l e R s m args below meth c hC hE H locs ls cells slots Q hW hF hL kk => ?_⟩
  rw [List.map_cons, rx_v_0 (rx_beq hc)]
  exact lv_lookup hC.1 hC.2.1 hdg hts.2 rfl (rx_lsw_ok hd _ _ _ hts.1) (kk ls hL)
end RX33

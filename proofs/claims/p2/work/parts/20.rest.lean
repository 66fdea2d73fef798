section RX20
variable {V : rx_V} {M : rx_M} {d pc : Nat} {f t : rx_K}
-- which step is taken may be seen from the codes
theorem rx_pt (h0 : ∀ (lv st : List Nat) (h : rx_H) (r : Nat × rx_H), f lv st h = some r → ∃ g, rx_OK V M d pc g ∧ g lv st h = some r) : rx_OK V M d pc f := by
  intro lv st h r h' hf
  obtain ⟨g, hg, e⟩ := h0 lv st h _ hf
  exact hg lv st h r h' e
noncomputable def o_none : rx_K := fun _ _ _ => none
theorem s_none : rx_OK V M d pc o_none := fun _ _ _ _ _ hf => by cases hf
noncomputable def o_alt (q : List Nat → rx_H → Bool) (f g : rx_K) : rx_K := fun lv st h => bif q st h then f lv st h else g lv st h
theorem s_alt {q : List Nat → rx_H → Bool} {g : rx_K} (hf : rx_OK V M d pc f) (hg : rx_OK V M d pc g) : rx_OK V M d pc (o_alt q f g) := by
  refine rx_pt fun lv st h r e => ?_
  rcases rx_bif e with ⟨-, e⟩ | ⟨-, e⟩
  · exact ⟨f, hf, e⟩
  · exact ⟨g, hg, e⟩
def rx_qL (st : List Nat) (_ : rx_H) : Bool := match st with
  | v :: _ => Nat.beq (v % 8) 1
  | _ => false
noncomputable def rx_kd (h : rx_H) (o : Nat) : Nat := bif Nat.beq (o % 8) 2 && Nat.blt (o / 8) h.1 then (match rx_hg h (o / 8) with
  | (z, _, _, _, _) => z) else 0
noncomputable def rx_q2 (t : Nat) (st : List Nat) (h : rx_H) : Bool := match st with
  | _ :: o :: _ => Nat.beq (rx_kd h o) (t + 1)
  | _ => false
noncomputable def rx_q3 (t : Nat) (st : List Nat) (h : rx_H) : Bool := match st with
  | _ :: _ :: o :: _ => Nat.beq (rx_kd h o) (t + 1)
  | _ => false
noncomputable def rx_q1 (st : List Nat) (_ : rx_H) : Bool := match st with
  | o :: _ => Nat.beq (o % 8) 4
  | _ => false
noncomputable def o_alens (ts : List Nat) (k : rx_K) : rx_K := fun lv st h => match st with
  | o :: _ => rx_f (rx_kd h o) fun z => bif ts.any (fun t => Nat.beq z (t + 1)) then o_alen (z - 1) k lv st h else none
  | _ => none
theorem s_alens {ts : List Nat} (hts : ∀ t ∈ ts, ∃ ty, (eT V)[t]? = some ty) (hdg : decode M.2.1 pc = .ok (.arraylength, 1)) (hk : rx_OK V M d (pc + 1) f) : rx_OK V M d pc (o_alens ts f) := by
  refine rx_pt fun lv st h r e => ?_
  match st, e with
  | [], e => cases e
  | o :: st, e =>
  simp only [o_alens, rx_f_eq] at e
  obtain ⟨hc, e⟩ := rx_bifn e
  obtain ⟨t, ht, hz⟩ := List.any_eq_true.mp hc
  rw [rx_beq hz] at e
  obtain ⟨ty, h1⟩ := hts t ht
  exact ⟨_, s_alen h1 hdg hk, e⟩
noncomputable def o_aalds (ts : List Nat) (k : rx_K) : rx_K := fun lv st h => match st with
  | _ :: o :: _ => rx_f (rx_kd h o) fun z => bif ts.any (fun t => Nat.beq z (t + 1)) then o_ald (z - 1) k lv st h else none
  | _ => none
theorem s_aalds {ts : List Nat} (hts : ∀ t ∈ ts, ∃ ty, (eT V)[t]? = some ty ∧ ty.isReference = true) (hdg : decode M.2.1 pc = .ok (.aaload, 1)) (hk : rx_OK V M d (pc + 1) f) : rx_OK V M d pc (o_aalds ts f) := by
  refine rx_pt fun lv st h r e => ?_
  match st, e with
  | [], e => cases e
  | [_], e => cases e
  | _ :: o :: st, e =>
  simp only [o_aalds, rx_f_eq] at e
  obtain ⟨hc, e⟩ := rx_bifn e
  obtain ⟨t, ht, hz⟩ := List.any_eq_true.mp hc
  rw [rx_beq hz] at e
  obtain ⟨ty, h1, h2⟩ := hts t ht
  exact ⟨_, s_aald h1 h2 hdg hk, e⟩
-- division
noncomputable def o_bin (g : Int32 → Int32 → Int32) (k : rx_K) : rx_K := fun lv st h => match st with
  | y :: x :: r => bif Nat.beq (y % 8) 0 && (Nat.beq (x % 8) 0 && !decide (rx_di y = 0)) then rx_f (rx_ei (g (rx_di x) (rx_di y))) fun v => k lv (v :: r) h else none
  | _ => none
noncomputable def o_bln (g : Int64 → Int64 → Int64) (k : rx_K) : rx_K := fun lv st h => match st with
  | y :: x :: r => bif Nat.beq (y % 8) 1 && (Nat.beq (x % 8) 1 && !decide (rx_dl y = 0)) then rx_f (rx_el (g (rx_dl x) (rx_dl y))) fun v => k lv (v :: r) h else none
  | _ => none
theorem rx_ne {P : Prop} [Decidable P] (h : (!decide P) = true) : ¬ P := by simpa using h
theorem s_idiv (hdg : decode M.2.1 pc = .ok (.idiv, 1)) (hk : rx_OK V M d (pc + 1) f) : rx_OK V M d pc (o_bin (fun x y => x / y) f) := by
  refine rx_pure fun lv st h r h' hf => ?_
  match st, hf with
  | [], hf => cases hf
  | [_], hf => cases hf
  | y :: x :: st, hf =>
  simp only [o_bin, rx_f_eq] at hf
  obtain ⟨hc, hf⟩ := rx_bifn hf
  obtain ⟨hy, hc⟩ := Bool.and_eq_true_iff.mp hc
  obtain ⟨hx, hne⟩ := Bool.and_eq_true_iff.mp hc
  refine ⟨pc + 1, f, lv, _, hk, hf, fun p l e R s m args below meth c hC hE H locs ls cells slots Q hW hF hL kk => ?_⟩
  have h2 := kk ls hL
  rw [List.map_cons, rx_v_ei] at h2
  rw [List.map_cons, List.map_cons, rx_v_0 (rx_beq hy), rx_v_0 (rx_beq hx)]
  exact lv_idiv hC.1 hC.2.1 hdg (rx_ne hne) h2
theorem s_irem (hdg : decode M.2.1 pc = .ok (.irem, 1)) (hk : rx_OK V M d (pc + 1) f) : rx_OK V M d pc (o_bin (fun x y => x - x / y * y) f) := by
  refine rx_pure fun lv st h r h' hf => ?_
  match st, hf with
  | [], hf => cases hf
  | [_], hf => cases hf
  | y :: x :: st, hf =>
  simp only [o_bin, rx_f_eq] at hf
  obtain ⟨hc, hf⟩ := rx_bifn hf
  obtain ⟨hy, hc⟩ := Bool.and_eq_true_iff.mp hc
  obtain ⟨hx, hne⟩ := Bool.and_eq_true_iff.mp hc
  refine ⟨pc + 1, f, lv, _, hk, hf, fun p l e R s m args below meth c hC hE H locs ls cells slots Q hW hF hL kk => ?_⟩
  have h2 := kk ls hL
  rw [List.map_cons, rx_v_ei] at h2
  rw [List.map_cons, List.map_cons, rx_v_0 (rx_beq hy), rx_v_0 (rx_beq hx)]
  exact lv_irem hC.1 hC.2.1 hdg (rx_ne hne) h2
theorem s_ldiv (hdg : decode M.2.1 pc = .ok (.ldiv, 1)) (hk : rx_OK V M d (pc + 1) f) : rx_OK V M d pc (o_bln (fun x y => x / y) f) := by
  refine rx_pure fun lv st h r h' hf => ?_
  match st, hf with
  | [], hf => cases hf
  | [_], hf => cases hf
  | y :: x :: st, hf =>
  simp only [o_bln, rx_f_eq] at hf
  obtain ⟨hc, hf⟩ := rx_bifn hf
  obtain ⟨hy, hc⟩ := Bool.and_eq_true_iff.mp hc
  obtain ⟨hx, hne⟩ := Bool.and_eq_true_iff.mp hc
  refine ⟨pc + 1, f, lv, _, hk, hf, fun p l e R s m args below meth c hC hE H locs ls cells slots Q hW hF hL kk => ?_⟩
  have h2 := kk ls hL
  rw [List.map_cons, rx_v_el] at h2
  rw [List.map_cons, List.map_cons, rx_v_1 (rx_beq hy), rx_v_1 (rx_beq hx)]
  exact lv_ldiv hC.1 hC.2.1 hdg (rx_ne hne) h2
theorem s_lrem (hdg : decode M.2.1 pc = .ok (.lrem, 1)) (hk : rx_OK V M d (pc + 1) f) : rx_OK V M d pc (o_bln (fun x y => x - x / y * y) f) := by
  refine rx_pure fun lv st h r h' hf => ?_
  match st, hf with
  | [], hf => cases hf
  | [_], hf => cases hf
  | y :: x :: st, hf =>
  simp only [o_bln, rx_f_eq] at hf
  obtain ⟨hc, hf⟩ := rx_bifn hf
  obtain ⟨hy, hc⟩ := Bool.and_eq_true_iff.mp hc
  obtain ⟨hx, hne⟩ := Bool.and_eq_true_iff.mp hc
  refine ⟨pc + 1, f, lv, _, hk, hf, fun p l e R s m args below meth c hC hE H locs ls cells slots Q hW hF hL kk => ?_⟩
  have h2 := kk ls hL
  rw [List.map_cons, rx_v_el] at h2
  rw [List.map_cons, List.map_cons, rx_v_1 (rx_beq hy), rx_v_1 (rx_beq hx)]
  exact lv_lrem hC.1 hC.2.1 hdg (rx_ne hne) h2
-- the switches
noncomputable def o_sw (lo : Nat) (ts : List Nat) (dt : Nat) (j : Nat → rx_K) : rx_K := fun lv st h => match st with
  | v :: r => bif Nat.beq (v % 8) 0 then rx_f (rx_nth ts ((v / 8 + (4294967296 - lo)) % 4294967296) dt) fun b => j b lv r h else none
  | _ => none
theorem rx_di_int (v : Nat) : (rx_di v).toInt = (v / 8 : Int).bmod 4294967296 := by
  unfold rx_di
  rw [Int32.toInt_ofNat']
  rfl
theorem s_sw {lo : Nat} {dt : Nat} {ts : List Nat} {j : Nat → rx_K} {dflt L Hh : Int} {offs : Array Int} {len : Nat} (hdg : decode M.2.1 pc = .ok (.tableswitch dflt L Hh offs, len)) (hlo : L.emod 4294967296 = (lo : Int)) (hL : L + ts.length = Hh + 1) (hrg : -2147483648 ≤ L ∧ Hh < 2147483648) (hd : (pc : Int) + dflt = (dt : Int)) (hts : (offs.toList.map fun o => (pc : Int) + o) = ts.map Int.ofNat) (hj : ∀ b ∈ dt :: ts, rx_OK V M d b (j b)) : rx_OK V M d pc (o_sw lo ts dt j) := by
  refine rx_pure fun lv st h r h' hf => ?_
  match st, hf with
  | [], hf => cases hf
  | v :: st, hf =>
  simp only [o_sw, rx_f_eq, rx_nth_eq] at hf
  obtain ⟨hc, hf⟩ := rx_bifn hf
  have hx := rx_di_int v
  have hlo2 : lo < 4294967296 := by have : 0 ≤ L % 4294967296 ∧ L % 4294967296 < 4294967296 := ⟨Int.emod_nonneg _ (by decide), Int.emod_lt_of_pos _ (by decide)⟩; have h9 : L % 4294967296 = (lo : Int) := hlo; omega
  have hlo3 : L % 4294967296 = (lo : Int) := hlo
  have hb1 : -2147483648 ≤ (rx_di v).toInt ∧ (rx_di v).toInt < 2147483648 := ⟨by have := Int32.le_toInt (rx_di v); omega, by have := Int32.toInt_lt (rx_di v); omega⟩
  have hmod : (rx_di v).toInt % 4294967296 = (v / 8 : Int) % 4294967296 := by rw [hx]; exact Int.bmod_emod
  generalize hi : (v / 8 + (4294967296 - lo)) % 4294967296 = i at hf
  rcases Nat.lt_or_ge i ts.length with q | q
  · have hxi : (rx_di v).toInt = L + i := by omega
    obtain ⟨b, hb⟩ : ∃ b, ts[i]? = some b := ⟨ts[i], List.getElem?_eq_getElem q⟩
    rw [hb] at hf
    have ho : ∃ off, offs[i]? = some off ∧ (pc : Int) + off = (b : Int) := by
      have h1 : (ts.map Int.ofNat)[i]? = some (b : Int) := by rw [List.getElem?_map, hb]; rfl
      rw [← hts, List.getElem?_map] at h1
      rw [← Array.getElem?_toList]
      cases ho : offs.toList[i]? with
      | none => rw [ho] at h1; cases h1
      | some off => rw [ho] at h1; exact ⟨off, rfl, Option.some.inj h1⟩
    obtain ⟨off, ho1, ho2⟩ := ho
    refine ⟨b, j b, lv, st, hj b (List.mem_cons_of_mem _ (List.mem_of_getElem? hb)), hf, fun p l e R s m args below meth c hC hE H locs ls cells slots Q hW hF hL kk => ?_⟩
    rw [List.map_cons, rx_v_0 (rx_beq hc)]
    exact lv_tableIn hC.1 hC.2.1 hdg (by omega) (by omega) (by rw [hxi, show (L + i - L).toNat = i by omega]; exact ho1) ho2 (kk ls hL)
  · rw [List.getElem?_eq_none (by omega)] at hf
    refine ⟨dt, j dt, lv, st, hj dt List.mem_cons_self, hf, fun p l e R s m args below meth c hC hE H locs ls cells slots Q hW hF hL kk => ?_⟩
    rw [List.map_cons, rx_v_0 (rx_beq hc)]
    exact lv_tableOut hC.1 hC.2.1 hdg (by omega) hd (kk ls hL)
end RX20

section RX19
variable {V : rx_V} {M : rx_M} {d pc : Nat} {f t : rx_K}
-- calls with a receiver
noncomputable def o_callV (n ci : Nat) (g : List Nat → rx_H → Option (Nat × rx_H)) (k : rx_K) : rx_K := fun lv st h => rx_take n st [] fun As rest => match rest with
  | o :: rest => rx_ob h o ci fun _ => rx_go g (o :: As) rest lv h k
  | _ => none
noncomputable def o_callI (n : Nat) (g : List Nat → rx_H → Option (Nat × rx_H)) (k : rx_K) : rx_K := fun lv st h => rx_take n st [] fun As rest => match rest with
  | o :: rest => bif Nat.beq (o % 8) 2 then rx_go g (o :: As) rest lv h k else none
  | _ => none
theorem s_callV (hV : rx_Ok V) {dy index n ci N : Nat} {C : String} {T : u_T} {ty : Nat → FieldType} {y : MethodName} {My : rx_M} {g : List Nat → rx_H → Option (Nat × rx_H)} (hg : rx_Met V dy y My g) (hd : dy + 1 ≤ d) (hy : rx_Y V y My n) (hcl : rx_Cl V ci C T N ty) (hin : Cond.instanceMethod y ∈ eW V) (hse : Cond.selects C y y ∈ eW V) (hln : Cond.methodLink M.1 index y ∈ eW V ∨ ∃ host, ∀ s, eX V s → va_Nw (.methodLinkNest M.1 index y host) s) (hdg : decode M.2.1 pc = .ok (.invokevirtual index, 3)) (hk : rx_OK V M d (pc + 3) f) : rx_OK V M d pc (o_callV n ci g f) := by
  refine rx_heap fun lv st h r h' hf => ?_
  obtain ⟨As, rest0, hs, hl, hf⟩ := rx_take_some _ _ _ _ _ hf
  rw [List.append_nil] at hf
  match rest0, hs, hf with
  | [], _, hf => cases hf
  | o :: rest, hs, hf =>
  obtain ⟨ho, hlt, on, fs, us, he, hf⟩ := rx_ob_some hf
  obtain ⟨h8, r1, h1, hgf, st', hf, hst'⟩ := rx_go_some (V := V) hf
  obtain ⟨i1, i2, hMet⟩ := hg (o :: As) h r1 h1 hgf
  refine ⟨pc + 3, f, lv, st', h1, hk, hf, i1, i2, fun p l e R s m args below meth c hC hE n0 z0 hn0 hz0 hR1 hR2 hR3 hR4 H locs ls Q hW hF hL kk => ?_⟩
  subst hs
  have hts := hC.2.2.2.2.2.2.1
  have hroom : ((rest.map (rx_v V)).map fun v => v.category).sum ≤ 8 := by rw [rx_cat_sum hV]; exact h8
  have hRr : dy + 1 ≤ R.frames ∧ 8 + (My.2.2.1 + 11) + 40 * dy ≤ R.locals := ⟨by omega, by have := hy.2.2.1; omega⟩
  have hpre := rx_preS hV hE hW hF (o :: As)
  rw [List.map_cons, rx_v_2 ho] at hpre
  have hMl := hMet l
  rw [List.map_cons, rx_v_2 ho] at hMl
  have hfb := rx_fb hV (h := h) (As := o :: As)
  rw [List.map_cons, rx_v_2 ho] at hfb
  obtain ⟨-, cell, q1, q2, q3, q4⟩ := rx_ob_at hW hcl hlt he
  obtain ⟨hS, hfc, kC, hkC, hkind⟩ := hE.1.1 ci _ hcl.1
  have hst : (As.reverse ++ o :: rest).map (rx_v V) = (As.map (rx_v V)).reverse ++ .ref (eb V + o / 8) :: rest.map (rx_v V) := by rw [List.map_append, List.map_reverse, List.map_cons, rx_v_2 ho]
  have hPV : PreV s H C (eb V + o / 8) (va_Pc (.ref (eb V + o / 8) :: As.map (rx_v V)) (fun U => rx_w V h U.heap ∧ rx_En V U)) (As.map (rx_v V)) := ⟨hfb, ⟨cell, q1, by rw [q3]; rfl, by rw [q2]; exact hfc⟩, hpre⟩
  rcases hln with hln | ⟨host, hln⟩
  · refine rx_fin (va_runV (As := As.map (rx_v V)) (rest := rest.map (rx_v V)) ⟨hC.1, hC.2.1, hC.2.2.1, hC.2.2.2.2.2.1, hts⟩ hMl ⟨callB_of n hts (rx_good hV hy.1) rfl rfl rfl (hts _ hy.2.1) (hts _ hln) hy.2.2.2 hRr, hts _ hin, hts _ hse⟩ hPV rfl (by rw [List.length_map]; exact hl) hL.1 hst (lv_room hroom) hdg ⟨by omega, by omega⟩) hn0 hz0 i1 i2 hW hF hL hst' kk
  · refine rx_fin (va_runVN (As := As.map (rx_v V)) (rest := rest.map (rx_v V)) ⟨hC.1, hC.2.1, hC.2.2.1, hC.2.2.2.2.2.1, hts⟩ hMl ⟨va_cnB n hts (rx_good hV hy.1) rfl rfl rfl (hln s hE.2.1) (hts _ hy.2.1) hy.2.2.2 hRr, hts _ hin, hts _ hse⟩ hPV rfl (by rw [List.length_map]; exact hl) hL.1 hst (lv_room hroom) hdg ⟨by omega, by omega⟩) hn0 hz0 i1 i2 hW hF hL hst' kk
theorem s_callI (hV : rx_Ok V) {dy index n : Nat} {y : MethodName} {My : rx_M} {g : List Nat → rx_H → Option (Nat × rx_H)} (hg : rx_Met V dy y My g) (hd : dy + 1 ≤ d) (hy : rx_Y V y My n) (hret : My.2.2.2.1 = none) (hnm : y.name = "<init>") (hin : Cond.instanceMethod y ∈ eW V) (hln : Cond.methodLink M.1 index y ∈ eW V ∨ ∃ host, ∀ s, eX V s → va_Nw (.methodLinkNest M.1 index y host) s) (hdg : decode M.2.1 pc = .ok (.invokespecial index, 3)) (hk : rx_OK V M d (pc + 3) f) : rx_OK V M d pc (o_callI n g f) := by
  refine rx_heap fun lv st h r h' hf => ?_
  obtain ⟨As, rest0, hs, hl, hf⟩ := rx_take_some _ _ _ _ _ hf
  rw [List.append_nil] at hf
  match rest0, hs, hf with
  | [], _, hf => cases hf
  | o :: rest, hs, hf =>
  obtain ⟨ho, hf⟩ := rx_bifn hf
  have ho := rx_beq ho
  obtain ⟨h8, r1, h1, hgf, st', hf, hst'⟩ := rx_go_some (V := V) hf
  obtain ⟨i1, i2, hMet⟩ := hg (o :: As) h r1 h1 hgf
  refine ⟨pc + 3, f, lv, st', h1, hk, hf, i1, i2, fun p l e R s m args below meth c hC hE n0 z0 hn0 hz0 hR1 hR2 hR3 hR4 H locs ls Q hW hF hL kk => ?_⟩
  subst hs
  have hts := hC.2.2.2.2.2.2.1
  have hroom : ((rest.map (rx_v V)).map fun v => v.category).sum ≤ 8 := by rw [rx_cat_sum hV]; exact h8
  have hRr : dy + 1 ≤ R.frames ∧ 8 + (My.2.2.1 + 11) + 40 * dy ≤ R.locals := ⟨by omega, by have := hy.2.2.1; omega⟩
  have hpre := rx_preS hV hE hW hF (o :: As)
  rw [List.map_cons, rx_v_2 ho] at hpre
  have hMl := hMet l
  rw [List.map_cons, rx_v_2 ho] at hMl
  rw [hret] at hMl
  have hfb := rx_fb hV (h := h) (As := o :: As)
  rw [List.map_cons, rx_v_2 ho] at hfb
  have hst : (As.reverse ++ o :: rest).map (rx_v V) = (As.map (rx_v V)).reverse ++ .ref (eb V + o / 8) :: rest.map (rx_v V) := by rw [List.map_append, List.map_reverse, List.map_cons, rx_v_2 ho]
  have hcd := hy.1
  rw [hret] at hcd
  rcases hln with hln | ⟨host, hln⟩
  · refine rx_fin (va_runI (As := As.map (rx_v V)) (rest := rest.map (rx_v V)) ⟨hC.1, hC.2.1, hC.2.2.1, hC.2.2.2.2.2.1, hts⟩ hMl ⟨callB_of n hts (rx_good hV hcd) rfl rfl rfl (hts _ hy.2.1) (hts _ hln) hy.2.2.2 hRr, hnm, hts _ hin⟩ ⟨hfb, hpre⟩ rfl (by rw [List.length_map]; exact hl) hL.1 hst (lv_room hroom) hdg ⟨by omega, by omega⟩) hn0 hz0 i1 i2 hW hF hL hst' kk
  · refine rx_fin (va_runIN (As := As.map (rx_v V)) (rest := rest.map (rx_v V)) ⟨hC.1, hC.2.1, hC.2.2.1, hC.2.2.2.2.2.1, hts⟩ hMl ⟨va_cnB n hts (rx_good hV hcd) rfl rfl rfl (hln s hE.2.1) (hts _ hy.2.1) hy.2.2.2 hRr, hnm, hts _ hin⟩ ⟨hfb, hpre⟩ rfl (by rw [List.length_map]; exact hl) hL.1 hst (lv_room hroom) hdg ⟨by omega, by omega⟩) hn0 hz0 i1 i2 hW hF hL hst' kk
-- the constructor of Object
noncomputable def o_obj (k : rx_K) : rx_K := fun lv st h => match st with
  | o :: r => bif Nat.beq (o % 8) 2 && Nat.ble (rx_cs r) 8 then k lv r h else none
  | _ => none
theorem s_obj (hV : rx_Ok V) {index : Nat} (hd : 1 ≤ d) (hln : Cond.methodLink M.1 index Lib.objectInit ∈ eW V) (hin : Cond.instanceMethod Lib.objectInit ∈ eW V) (hc : Cond.code Lib.objectInit ⟨#[0xb1]⟩ 1 none ∈ eW V) (hdg : decode M.2.1 pc = .ok (.invokespecial index, 3)) (hk : rx_OK V M d (pc + 3) f) : rx_OK V M d pc (o_obj f) := by
  intro lv st h r h' hf
  match st, hf with
  | [], hf => cases hf
  | o :: st, hf =>
  simp only [o_obj] at hf
  obtain ⟨hb, hf⟩ := rx_bifn hf
  obtain ⟨ho, h8⟩ := Bool.and_eq_true_iff.mp hb
  have ho := rx_beq ho
  have h8 : rx_cs st ≤ 8 := Nat.le_of_ble_eq_true h8
  obtain ⟨m1, m2, kk⟩ := hk lv st h r h' hf
  refine ⟨m1, m2, fun p l e R s m args below meth c hC hE n0 z0 hn hz hR1 hR2 hR3 hR4 H locs ls hW hF hL => ?_⟩
  have hts := hC.2.2.2.2.2.2.1
  have hroom : ((st.map (rx_v V)).map fun v => v.category).sum ≤ 8 := by rw [rx_cat_sum hV]; exact h8
  rw [List.map_cons, rx_v_2 ho]
  exact W.objInit hC.1 hC.2.1 hC.2.2.2.2.2.1 (hts _ hln) (hts _ hin) (hts _ hc) rfl (hL.1.trans hC.2.2.1.symm) rfl hdg (by omega) (by show 2 * 0 + _ + 12 ≤ _; omega) (kk p l e R s m args below meth c hC hE n0 z0 hn hz hR1 hR2 hR3 hR4 H locs ls hW hF hL)
-- the switches
noncomputable def rx_nth {β : Type} (l : List β) (n : Nat) (dflt : β) : β := List.rec (motive := fun _ => Nat → β) (fun _ => dflt) (fun a _ ih n => Nat.rec (motive := fun _ => β) a (fun m _ => ih m) n) l n
theorem rx_nth_eq {β : Type} (l : List β) (n : Nat) (dflt : β) : rx_nth l n dflt = (l[n]?).getD dflt := by
  induction l generalizing n with
  | nil => rfl
  | cons a l ih =>
    cases n with
    | zero => rfl
    | succ n => exact ih n
end RX19

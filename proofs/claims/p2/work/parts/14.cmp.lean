section RX14
variable {V : rx_V} {M : rx_M} {d pc : Nat} {f t : rx_K}
noncomputable def o_dup (k : rx_K) : rx_K := fun lv st h => match st with
  | v :: r => bif Nat.beq (rx_ct v) 1 then k lv (v :: v :: r) h else none
  | _ => none
noncomputable def o_pop (k : rx_K) : rx_K := fun lv st h => match st with
  | v :: r => bif Nat.beq (rx_ct v) 1 then k lv r h else none
  | _ => none
noncomputable def o_pop2 (k : rx_K) : rx_K := fun lv st h => match st with
  | v :: r => bif Nat.beq (rx_ct v) 2 then k lv r h else none
  | _ => none
noncomputable def o_dupx1 (k : rx_K) : rx_K := fun lv st h => match st with
  | v :: u :: r => bif Nat.beq (rx_ct v) 1 && Nat.beq (rx_ct u) 1 then k lv (v :: u :: v :: r) h else none
  | _ => none
noncomputable def o_dupx2 (k : rx_K) : rx_K := fun lv st h => match st with
  | v :: u :: q :: r => bif Nat.beq (rx_ct v) 1 && (Nat.beq (rx_ct u) 1 && Nat.beq (rx_ct q) 1) then k lv (v :: u :: q :: v :: r) h else none
  | _ => none
noncomputable def o_dup2 (k : rx_K) : rx_K := fun lv st h => match st with
  | v :: u :: r => bif Nat.beq (rx_ct v) 1 && Nat.beq (rx_ct u) 1 then k lv (v :: u :: v :: u :: r) h else none
  | _ => none
noncomputable def o_dup2L (k : rx_K) : rx_K := fun lv st h => match st with
  | v :: r => bif Nat.beq (rx_ct v) 2 then k lv (v :: v :: r) h else none
  | _ => none
noncomputable def o_dup2x1L (k : rx_K) : rx_K := fun lv st h => match st with
  | v :: u :: r => bif Nat.beq (rx_ct v) 2 && Nat.beq (rx_ct u) 1 then k lv (v :: u :: v :: r) h else none
  | _ => none
noncomputable def o_dup2x2L (k : rx_K) : rx_K := fun lv st h => match st with
  | v :: u :: q :: r => bif Nat.beq (rx_ct v) 2 && (Nat.beq (rx_ct u) 1 && Nat.beq (rx_ct q) 1) then k lv (v :: u :: q :: v :: r) h else none
  | _ => none
theorem s_dup (hV : rx_Ok V) (hdg : decode M.2.1 pc = .ok (.dup, 1)) (hk : rx_OK V M d (pc + 1) f) : rx_OK V M d pc (o_dup f) := by
  refine rx_pure fun lv st h r h' hf => ?_
  match st, hf with
  | [], hf => cases hf
  | v :: st, hf =>
  simp only [o_dup] at hf
  obtain ⟨hc, hf⟩ := rx_bifn hf
  have e1 : (rx_v V v).category = 1 := (rx_v_cat hV v).trans (rx_beq hc)
  refine ⟨pc + 1, f, lv, _, hk, hf, fun p l e R s m args below meth c hC hE H locs ls cells slots Q hW hF hL kk => ?_⟩
  exact lv_dup hC.1 hC.2.1 hdg e1 (kk ls hL)
theorem s_pop (hV : rx_Ok V) (hdg : decode M.2.1 pc = .ok (.pop, 1)) (hk : rx_OK V M d (pc + 1) f) : rx_OK V M d pc (o_pop f) := by
  refine rx_pure fun lv st h r h' hf => ?_
  match st, hf with
  | [], hf => cases hf
  | v :: st, hf =>
  simp only [o_pop] at hf
  obtain ⟨hc, hf⟩ := rx_bifn hf
  have e1 : (rx_v V v).category = 1 := (rx_v_cat hV v).trans (rx_beq hc)
  refine ⟨pc + 1, f, lv, _, hk, hf, fun p l e R s m args below meth c hC hE H locs ls cells slots Q hW hF hL kk => ?_⟩
  exact lv_pop hC.1 hC.2.1 hdg e1 (kk ls hL)
theorem s_pop2L (hV : rx_Ok V) (hdg : decode M.2.1 pc = .ok (.pop2, 1)) (hk : rx_OK V M d (pc + 1) f) : rx_OK V M d pc (o_pop2 f) := by
  refine rx_pure fun lv st h r h' hf => ?_
  match st, hf with
  | [], hf => cases hf
  | v :: st, hf =>
  simp only [o_pop2] at hf
  obtain ⟨hc, hf⟩ := rx_bifn hf
  have e1 : (rx_v V v).category = 2 := (rx_v_cat hV v).trans (rx_beq hc)
  refine ⟨pc + 1, f, lv, _, hk, hf, fun p l e R s m args below meth c hC hE H locs ls cells slots Q hW hF hL kk => ?_⟩
  exact lv_pop2_2 hC.1 hC.2.1 hdg e1 (kk ls hL)
theorem s_dup2L (hV : rx_Ok V) (hdg : decode M.2.1 pc = .ok (.dup2, 1)) (hk : rx_OK V M d (pc + 1) f) : rx_OK V M d pc (o_dup2L f) := by
  refine rx_pure fun lv st h r h' hf => ?_
  match st, hf with
  | [], hf => cases hf
  | v :: st, hf =>
  simp only [o_dup2L] at hf
  obtain ⟨hc, hf⟩ := rx_bifn hf
  have e1 : (rx_v V v).category = 2 := (rx_v_cat hV v).trans (rx_beq hc)
  refine ⟨pc + 1, f, lv, _, hk, hf, fun p l e R s m args below meth c hC hE H locs ls cells slots Q hW hF hL kk => ?_⟩
  exact lv_dup2_2 hC.1 hC.2.1 hdg e1 (kk ls hL)
theorem s_dup_x1 (hV : rx_Ok V) (hdg : decode M.2.1 pc = .ok (.dup_x1, 1)) (hk : rx_OK V M d (pc + 1) f) : rx_OK V M d pc (o_dupx1 f) := by
  refine rx_pure fun lv st h r h' hf => ?_
  match st, hf with
  | [], hf => cases hf
  | [_], hf => cases hf
  | v :: u :: st, hf =>
  simp only [o_dupx1] at hf
  obtain ⟨hc, hf⟩ := rx_bifn hf
  obtain ⟨hc1, hc2⟩ := Bool.and_eq_true_iff.mp hc
  have e1 : (rx_v V v).category = 1 := (rx_v_cat hV v).trans (rx_beq hc1)
  have e2 : (rx_v V u).category = 1 := (rx_v_cat hV u).trans (rx_beq hc2)
  refine ⟨pc + 1, f, lv, _, hk, hf, fun p l e R s m args below meth c hC hE H locs ls cells slots Q hW hF hL kk => ?_⟩
  exact lv_dup_x1 hC.1 hC.2.1 hdg e1 e2 (kk ls hL)
theorem s_dup2 (hV : rx_Ok V) (hdg : decode M.2.1 pc = .ok (.dup2, 1)) (hk : rx_OK V M d (pc + 1) f) : rx_OK V M d pc (o_dup2 f) := by
  refine rx_pure fun lv st h r h' hf => ?_
  match st, hf with
  | [], hf => cases hf
  | [_], hf => cases hf
  | v :: u :: st, hf =>
  simp only [o_dup2] at hf
  obtain ⟨hc, hf⟩ := rx_bifn hf
  obtain ⟨hc1, hc2⟩ := Bool.and_eq_true_iff.mp hc
  have e1 : (rx_v V v).category = 1 := (rx_v_cat hV v).trans (rx_beq hc1)
  have e2 : (rx_v V u).category = 1 := (rx_v_cat hV u).trans (rx_beq hc2)
  refine ⟨pc + 1, f, lv, _, hk, hf, fun p l e R s m args below meth c hC hE H locs ls cells slots Q hW hF hL kk => ?_⟩
  exact lv_dup2_11 hC.1 hC.2.1 hdg e1 e2 (kk ls hL)
theorem s_dup2_x1L (hV : rx_Ok V) (hdg : decode M.2.1 pc = .ok (.dup2_x1, 1)) (hk : rx_OK V M d (pc + 1) f) : rx_OK V M d pc (o_dup2x1L f) := by
  refine rx_pure fun lv st h r h' hf => ?_
  match st, hf with
  | [], hf => cases hf
  | [_], hf => cases hf
  | v :: u :: st, hf =>
  simp only [o_dup2x1L] at hf
  obtain ⟨hc, hf⟩ := rx_bifn hf
  obtain ⟨hc1, hc2⟩ := Bool.and_eq_true_iff.mp hc
  have e1 : (rx_v V v).category = 2 := (rx_v_cat hV v).trans (rx_beq hc1)
  have e2 : (rx_v V u).category = 1 := (rx_v_cat hV u).trans (rx_beq hc2)
  refine ⟨pc + 1, f, lv, _, hk, hf, fun p l e R s m args below meth c hC hE H locs ls cells slots Q hW hF hL kk => ?_⟩
  exact lv_dup2_x1_2 hC.1 hC.2.1 hdg e1 e2 (kk ls hL)
theorem s_dup_x2 (hV : rx_Ok V) (hdg : decode M.2.1 pc = .ok (.dup_x2, 1)) (hk : rx_OK V M d (pc + 1) f) : rx_OK V M d pc (o_dupx2 f) := by
  refine rx_pure fun lv st h r h' hf => ?_
  match st, hf with
  | [], hf => cases hf
  | [_], hf => cases hf
  | [_, _], hf => cases hf
  | v :: u :: q :: st, hf =>
  simp only [o_dupx2] at hf
  obtain ⟨hc, hf⟩ := rx_bifn hf
  obtain ⟨hc1, hc2⟩ := Bool.and_eq_true_iff.mp hc
  obtain ⟨hc2, hc3⟩ := Bool.and_eq_true_iff.mp hc2
  have e1 : (rx_v V v).category = 1 := (rx_v_cat hV v).trans (rx_beq hc1)
  have e2 : (rx_v V u).category = 1 := (rx_v_cat hV u).trans (rx_beq hc2)
  have e3 : (rx_v V q).category = 1 := (rx_v_cat hV q).trans (rx_beq hc3)
  refine ⟨pc + 1, f, lv, _, hk, hf, fun p l e R s m args below meth c hC hE H locs ls cells slots Q hW hF hL kk => ?_⟩
  exact lv_dup_x2 hC.1 hC.2.1 hdg e1 e2 e3 (kk ls hL)
theorem s_dup2_x2L (hV : rx_Ok V) (hdg : decode M.2.1 pc = .ok (.dup2_x2, 1)) (hk : rx_OK V M d (pc + 1) f) : rx_OK V M d pc (o_dup2x2L f) := by
  refine rx_pure fun lv st h r h' hf => ?_
  match st, hf with
  | [], hf => cases hf
  | [_], hf => cases hf
  | [_, _], hf => cases hf
  | v :: u :: q :: st, hf =>
  simp only [o_dup2x2L] at hf
  obtain ⟨hc, hf⟩ := rx_bifn hf
  obtain ⟨hc1, hc2⟩ := Bool.and_eq_true_iff.mp hc
  obtain ⟨hc2, hc3⟩ := Bool.and_eq_true_iff.mp hc2
  have e1 : (rx_v V v).category = 2 := (rx_v_cat hV v).trans (rx_beq hc1)
  have e2 : (rx_v V u).category = 1 := (rx_v_cat hV u).trans (rx_beq hc2)
  have e3 : (rx_v V q).category = 1 := (rx_v_cat hV q).trans (rx_beq hc3)
  refine ⟨pc + 1, f, lv, _, hk, hf, fun p l e R s m args below meth c hC hE H locs ls cells slots Q hW hF hL kk => ?_⟩
  exact lv_dup2_x2_2 hC.1 hC.2.1 hdg e1 e2 e3 (kk ls hL)
noncomputable def rx_b (h : rx_H) (c : Nat) : Option (Int × Int) := bif Nat.beq (c % 8) 0 then some ((rx_di c).toInt, (rx_di c).toInt) else bif Nat.beq (c % 8) 4 then rx_get none (h.2.2.1.map some) (c / 8) else none
theorem rx_b_ok {V : rx_V} {h : rx_H} {H : Heap} (hW : rx_w V h H) {c : Nat} {lo hi : Int} (hb : rx_b h c = some (lo, hi)) : ∃ x : Int32, rx_v V c = .int x ∧ lo ≤ x.toInt ∧ x.toInt ≤ hi := by
  unfold rx_b at hb
  rcases rx_bif hb with ⟨h1, h2⟩ | ⟨-, h2⟩
  · have e := Option.some.inj h2
    have e1 := congrArg Prod.fst e
    have e2 := congrArg Prod.snd e
    dsimp only at e1 e2
    exact ⟨_, rx_v_0 (rx_beq h1), by omega, by omega⟩
  · obtain ⟨h3, h4⟩ := rx_bifn h2
    rw [rx_get_eq] at h4
    have h5 : h.2.2.1[c / 8]? = some (lo, hi) := by
      cases q : h.2.2.1[c / 8]? with
      | none => simp [List.getD, q] at h4
      | some z => simp [List.getD, q] at h4; rw [h4]
    obtain ⟨-, v, e, l1, l2⟩ := hW.2.2 _ _ _ h5
    exact ⟨v, by rw [rx_v_4 (rx_beq h3), e], l1, l2⟩
noncomputable def rx_lt (h : rx_H) (x y : Nat) : Option Bool := bif Nat.beq (x % 8) 0 && Nat.beq (y % 8) 0 then some (decide (rx_di x < rx_di y)) else
  match rx_b h x, rx_b h y with
  | some (a, b), some (u, v) => bif decide (b < u) then some true else bif decide (v ≤ a) then some false else none
  | _, _ => none
noncomputable def rx_eq (h : rx_H) (x y : Nat) : Option Bool := bif Nat.beq (x % 8) 0 && Nat.beq (y % 8) 0 then some (decide (rx_di x = rx_di y)) else
  match rx_b h x, rx_b h y with
  | some (a, b), some (u, v) => bif decide (b < u) || decide (v < a) then some false else bif decide (a = b) && (decide (u = v) && decide (a = u)) then some true else none
  | _, _ => none
theorem rx_lt_ok {V : rx_V} {h : rx_H} {H : Heap} (hW : rx_w V h H) {x y : Nat} {b : Bool} (hb : rx_lt h x y = some b) : ∃ X Y : Int32, rx_v V x = .int X ∧ rx_v V y = .int Y ∧ (b = true ↔ X < Y) := by
  unfold rx_lt at hb
  rcases rx_bif hb with ⟨h1, h2⟩ | ⟨-, h2⟩
  · obtain ⟨hx, hy⟩ := Bool.and_eq_true_iff.mp h1
    refine ⟨_, _, rx_v_0 (rx_beq hx), rx_v_0 (rx_beq hy), ?_⟩
    rw [← Option.some.inj h2]
    exact decide_eq_true_iff
  · cases q1 : rx_b h x with
    | none => rw [q1] at h2; cases h2
    | some z1 => cases q2 : rx_b h y with
      | none => rw [q1, q2] at h2; cases h2
      | some z2 =>
        rw [q1, q2] at h2
        obtain ⟨X, ex, l1, l2⟩ := rx_b_ok hW (lo := z1.1) (hi := z1.2) q1
        obtain ⟨Y, ey, l3, l4⟩ := rx_b_ok hW (lo := z2.1) (hi := z2.2) q2
        refine ⟨X, Y, ex, ey, ?_⟩
        rw [Int32.lt_iff_toInt_lt]
        rcases rx_bif h2 with ⟨g1, g2⟩ | ⟨g1, g2⟩
        · have := of_decide_eq_true g1
          have e := Option.some.inj g2
          subst e
          simp only [true_iff]
          omega
        · obtain ⟨g3, g4⟩ := rx_bifn g2
          have := of_decide_eq_true g3
          have e := Option.some.inj g4
          subst e
          simp only [Bool.false_eq_true, false_iff]
          omega
theorem rx_eq_ok {V : rx_V} {h : rx_H} {H : Heap} (hW : rx_w V h H) {x y : Nat} {b : Bool} (hb : rx_eq h x y = some b) : ∃ X Y : Int32, rx_v V x = .int X ∧ rx_v V y = .int Y ∧ (b = true ↔ X = Y) := by
  unfold rx_eq at hb
  rcases rx_bif hb with ⟨h1, h2⟩ | ⟨-, h2⟩
  · obtain ⟨hx, hy⟩ := Bool.and_eq_true_iff.mp h1
    refine ⟨_, _, rx_v_0 (rx_beq hx), rx_v_0 (rx_beq hy), ?_⟩
    rw [← Option.some.inj h2]
    exact decide_eq_true_iff
  · cases q1 : rx_b h x with
    | none => rw [q1] at h2; cases h2
    | some z1 => cases q2 : rx_b h y with
      | none => rw [q1, q2] at h2; cases h2
      | some z2 =>
        rw [q1, q2] at h2
        obtain ⟨X, ex, l1, l2⟩ := rx_b_ok hW (lo := z1.1) (hi := z1.2) q1
        obtain ⟨Y, ey, l3, l4⟩ := rx_b_ok hW (lo := z2.1) (hi := z2.2) q2
        refine ⟨X, Y, ex, ey, ?_⟩
        rw [← Int32.toInt_inj]
        rcases rx_bif h2 with ⟨g1, g2⟩ | ⟨g1, g2⟩
        · have e := Option.some.inj g2
          subst e
          simp only [Bool.false_eq_true, false_iff]
          rcases Bool.or_eq_true_iff.mp g1 with g | g
          · have := of_decide_eq_true g
            omega
          · have := of_decide_eq_true g
            omega
        · obtain ⟨g3, g4⟩ := rx_bifn g2
          have e := Option.some.inj g4
          subst e
          obtain ⟨a1, a2⟩ := Bool.and_eq_true_iff.mp g3
          obtain ⟨a2, a3⟩ := Bool.and_eq_true_iff.mp a2
          have b1 := of_decide_eq_true a1
          have b2 := of_decide_eq_true a2
          have b3 := of_decide_eq_true a3
          simp only [true_iff]
          omega
-- two ways: t is gone where q says true, f where it says false
noncomputable def o_c2 (q : rx_H → Nat → Nat → Option Bool) (t f : rx_K) : rx_K := fun lv st h => match st with
  | y :: x :: r => match q h x y with
    | some b => bif b then t lv r h else f lv r h
    | none => none
  | _ => none
noncomputable def o_c1 (q : rx_H → Nat → Nat → Option Bool) (t f : rx_K) : rx_K := fun lv st h => match st with
  | x :: r => match q h x 0 with
    | some b => bif b then t lv r h else f lv r h
    | none => none
  | _ => none
theorem s_icmp_lt {off : Int} {tgt : Nat} (hdg : decode M.2.1 pc = .ok (.if_icmp .lt off, 3)) (ht : (pc : Int) + off = (tgt : Int)) (h1 : rx_OK V M d tgt t) (h2 : rx_OK V M d (pc + 3) f) : rx_OK V M d pc (o_c2 (rx_lt) t f) := by
  refine rx_pure fun lv st h r h' hf => ?_
  match st, hf with
  | [], hf => cases hf
  | [_], hf => cases hf
  | y :: x :: st, hf =>
  simp only [o_c2] at hf
  cases q : rx_lt h x y with
  | none => simp only [q] at hf; cases hf
  | some b =>
  simp only [q] at hf
  cases b with
  | true =>
    refine ⟨tgt, t, lv, st, h1, hf, fun p l e R s m args below meth c hC hE H locs ls cells slots Q hW hF hL kk => ?_⟩
    obtain ⟨X, Y, ex, ey, hb⟩ := rx_lt_ok hW q
    have hxy := hb.mp rfl
    have h3 := kk ls hL
    rw [List.map_cons, List.map_cons, ex, ey]
    exact lv_icmp_lt hC.1 hC.2.1 hdg ht (fun _ => h3) (fun z => absurd z (by first | exact hxy | exact Int32.not_le.mpr hxy | exact Int32.not_lt.mpr hxy | exact fun q => hxy q | (rw [Int32.not_le]; exact hxy) | (rw [Int32.not_lt]; exact hxy) | (intro q; exact hxy q) | (intro q; exact q hxy) | (rw [Int32.not_lt] at hxy; intro q; exact q hxy) | (rw [Int32.not_le]; first | exact hxy | exact Int32.not_le.mp hxy)))
  | false =>
    refine ⟨pc + 3, f, lv, st, h2, hf, fun p l e R s m args below meth c hC hE H locs ls cells slots Q hW hF hL kk => ?_⟩
    obtain ⟨X, Y, ex, ey, hb⟩ := rx_lt_ok hW q
    have hxy := (fun z => absurd (hb.mpr z) (by decide) : ¬ _)
    have h3 := kk ls hL
    rw [List.map_cons, List.map_cons, ex, ey]
    exact lv_icmp_lt hC.1 hC.2.1 hdg ht (fun z => absurd z (by first | exact hxy | exact Int32.not_le.mpr hxy | exact Int32.not_lt.mpr hxy | exact fun q => hxy q | (rw [Int32.not_le]; exact hxy) | (rw [Int32.not_lt]; exact hxy) | (intro q; exact hxy q) | (intro q; exact q hxy) | (rw [Int32.not_lt] at hxy; intro q; exact q hxy) | (rw [Int32.not_le]; first | exact hxy | exact Int32.not_le.mp hxy))) (fun _ => h3)
theorem s_if_lt {off : Int} {tgt : Nat} (hdg : decode M.2.1 pc = .ok (.ifCond .lt off, 3)) (ht : (pc : Int) + off = (tgt : Int)) (h1 : rx_OK V M d tgt t) (h2 : rx_OK V M d (pc + 3) f) : rx_OK V M d pc (o_c1 (rx_lt) t f) := by
  refine rx_pure fun lv st h r h' hf => ?_
  match st, hf with
  | [], hf => cases hf
  | x :: st, hf =>
  simp only [o_c1] at hf
  cases q : rx_lt h x 0 with
  | none => simp only [q] at hf; cases hf
  | some b =>
  simp only [q] at hf
  cases b with
  | true =>
    refine ⟨tgt, t, lv, st, h1, hf, fun p l e R s m args below meth c hC hE H locs ls cells slots Q hW hF hL kk => ?_⟩
    obtain ⟨X, Y, ex, ey, hb⟩ := rx_lt_ok hW q
    have hxy := hb.mp rfl
    have h3 := kk ls hL
    rw [List.map_cons, ex]
    rw [rx_v_0 (V := V) (c := 0) rfl] at ey
    have e0 := Value.int.inj ey
    rw [show rx_di 0 = 0 from rfl] at e0
    subst e0
    exact lv_if_lt hC.1 hC.2.1 hdg ht (fun _ => h3) (fun z => absurd z (by first | exact hxy | exact Int32.not_le.mpr hxy | exact Int32.not_lt.mpr hxy | exact fun q => hxy q | (rw [Int32.not_le]; exact hxy) | (rw [Int32.not_lt]; exact hxy) | (intro q; exact hxy q) | (intro q; exact q hxy) | (rw [Int32.not_lt] at hxy; intro q; exact q hxy) | (rw [Int32.not_le]; first | exact hxy | exact Int32.not_le.mp hxy)))
  | false =>
    refine ⟨pc + 3, f, lv, st, h2, hf, fun p l e R s m args below meth c hC hE H locs ls cells slots Q hW hF hL kk => ?_⟩
    obtain ⟨X, Y, ex, ey, hb⟩ := rx_lt_ok hW q
    have hxy := (fun z => absurd (hb.mpr z) (by decide) : ¬ _)
    have h3 := kk ls hL
    rw [List.map_cons, ex]
    rw [rx_v_0 (V := V) (c := 0) rfl] at ey
    have e0 := Value.int.inj ey
    rw [show rx_di 0 = 0 from rfl] at e0
    subst e0
    exact lv_if_lt hC.1 hC.2.1 hdg ht (fun z => absurd z (by first | exact hxy | exact Int32.not_le.mpr hxy | exact Int32.not_lt.mpr hxy | exact fun q => hxy q | (rw [Int32.not_le]; exact hxy) | (rw [Int32.not_lt]; exact hxy) | (intro q; exact hxy q) | (intro q; exact q hxy) | (rw [Int32.not_lt] at hxy; intro q; exact q hxy) | (rw [Int32.not_le]; first | exact hxy | exact Int32.not_le.mp hxy))) (fun _ => h3)
theorem s_icmp_ge {off : Int} {tgt : Nat} (hdg : decode M.2.1 pc = .ok (.if_icmp .ge off, 3)) (ht : (pc : Int) + off = (tgt : Int)) (h1 : rx_OK V M d tgt t) (h2 : rx_OK V M d (pc + 3) f) : rx_OK V M d pc (o_c2 (rx_lt) f t) := by
  refine rx_pure fun lv st h r h' hf => ?_
  match st, hf with
  | [], hf => cases hf
  | [_], hf => cases hf
  | y :: x :: st, hf =>
  simp only [o_c2] at hf
  cases q : rx_lt h x y with
  | none => simp only [q] at hf; cases hf
  | some b =>
  simp only [q] at hf
  cases b with
  | true =>
    refine ⟨pc + 3, f, lv, st, h2, hf, fun p l e R s m args below meth c hC hE H locs ls cells slots Q hW hF hL kk => ?_⟩
    obtain ⟨X, Y, ex, ey, hb⟩ := rx_lt_ok hW q
    have hxy := hb.mp rfl
    have h3 := kk ls hL
    rw [List.map_cons, List.map_cons, ex, ey]
    exact lv_icmp_ge hC.1 hC.2.1 hdg ht (fun z => absurd z (by first | exact hxy | exact Int32.not_le.mpr hxy | exact Int32.not_lt.mpr hxy | exact fun q => hxy q | (rw [Int32.not_le]; exact hxy) | (rw [Int32.not_lt]; exact hxy) | (intro q; exact hxy q) | (intro q; exact q hxy) | (rw [Int32.not_lt] at hxy; intro q; exact q hxy) | (rw [Int32.not_le]; first | exact hxy | exact Int32.not_le.mp hxy))) (fun _ => h3)
  | false =>
    refine ⟨tgt, t, lv, st, h1, hf, fun p l e R s m args below meth c hC hE H locs ls cells slots Q hW hF hL kk => ?_⟩
    obtain ⟨X, Y, ex, ey, hb⟩ := rx_lt_ok hW q
    have hxy := (fun z => absurd (hb.mpr z) (by decide) : ¬ _)
    have h3 := kk ls hL
    rw [List.map_cons, List.map_cons, ex, ey]
    exact lv_icmp_ge hC.1 hC.2.1 hdg ht (fun _ => h3) (fun z => absurd z (by first | exact hxy | exact Int32.not_le.mpr hxy | exact Int32.not_lt.mpr hxy | exact fun q => hxy q | (rw [Int32.not_le]; exact hxy) | (rw [Int32.not_lt]; exact hxy) | (intro q; exact hxy q) | (intro q; exact q hxy) | (rw [Int32.not_lt] at hxy; intro q; exact q hxy) | (rw [Int32.not_le]; first | exact hxy | exact Int32.not_le.mp hxy)))
theorem s_if_ge {off : Int} {tgt : Nat} (hdg : decode M.2.1 pc = .ok (.ifCond .ge off, 3)) (ht : (pc : Int) + off = (tgt : Int)) (h1 : rx_OK V M d tgt t) (h2 : rx_OK V M d (pc + 3) f) : rx_OK V M d pc (o_c1 (rx_lt) f t) := by
  refine rx_pure fun lv st h r h' hf => ?_
  match st, hf with
  | [], hf => cases hf
  | x :: st, hf =>
  simp only [o_c1] at hf
  cases q : rx_lt h x 0 with
  | none => simp only [q] at hf; cases hf
  | some b =>
  simp only [q] at hf
  cases b with
  | true =>
    refine ⟨pc + 3, f, lv, st, h2, hf, fun p l e R s m args below meth c hC hE H locs ls cells slots Q hW hF hL kk => ?_⟩
    obtain ⟨X, Y, ex, ey, hb⟩ := rx_lt_ok hW q
    have hxy := hb.mp rfl
    have h3 := kk ls hL
    rw [List.map_cons, ex]
    rw [rx_v_0 (V := V) (c := 0) rfl] at ey
    have e0 := Value.int.inj ey
    rw [show rx_di 0 = 0 from rfl] at e0
    subst e0
    exact lv_if_ge hC.1 hC.2.1 hdg ht (fun z => absurd z (by first | exact hxy | exact Int32.not_le.mpr hxy | exact Int32.not_lt.mpr hxy | exact fun q => hxy q | (rw [Int32.not_le]; exact hxy) | (rw [Int32.not_lt]; exact hxy) | (intro q; exact hxy q) | (intro q; exact q hxy) | (rw [Int32.not_lt] at hxy; intro q; exact q hxy) | (rw [Int32.not_le]; first | exact hxy | exact Int32.not_le.mp hxy))) (fun _ => h3)
  | false =>
    refine ⟨tgt, t, lv, st, h1, hf, fun p l e R s m args below meth c hC hE H locs ls cells slots Q hW hF hL kk => ?_⟩
    obtain ⟨X, Y, ex, ey, hb⟩ := rx_lt_ok hW q
    have hxy := (fun z => absurd (hb.mpr z) (by decide) : ¬ _)
    have h3 := kk ls hL
    rw [List.map_cons, ex]
    rw [rx_v_0 (V := V) (c := 0) rfl] at ey
    have e0 := Value.int.inj ey
    rw [show rx_di 0 = 0 from rfl] at e0
    subst e0
    exact lv_if_ge hC.1 hC.2.1 hdg ht (fun _ => h3) (fun z => absurd z (by first | exact hxy | exact Int32.not_le.mpr hxy | exact Int32.not_lt.mpr hxy | exact fun q => hxy q | (rw [Int32.not_le]; exact hxy) | (rw [Int32.not_lt]; exact hxy) | (intro q; exact hxy q) | (intro q; exact q hxy) | (rw [Int32.not_lt] at hxy; intro q; exact q hxy) | (rw [Int32.not_le]; first | exact hxy | exact Int32.not_le.mp hxy)))
theorem s_icmp_gt {off : Int} {tgt : Nat} (hdg : decode M.2.1 pc = .ok (.if_icmp .gt off, 3)) (ht : (pc : Int) + off = (tgt : Int)) (h1 : rx_OK V M d tgt t) (h2 : rx_OK V M d (pc + 3) f) : rx_OK V M d pc (o_c2 (fun h x y => rx_lt h y x) t f) := by
  refine rx_pure fun lv st h r h' hf => ?_
  match st, hf with
  | [], hf => cases hf
  | [_], hf => cases hf
  | y :: x :: st, hf =>
  simp only [o_c2] at hf
  cases q : rx_lt h y x with
  | none => simp only [q] at hf; cases hf
  | some b =>
  simp only [q] at hf
  cases b with
  | true =>
    refine ⟨tgt, t, lv, st, h1, hf, fun p l e R s m args below meth c hC hE H locs ls cells slots Q hW hF hL kk => ?_⟩
    obtain ⟨X, Y, ex, ey, hb⟩ := rx_lt_ok hW q
    have hxy := hb.mp rfl
    have h3 := kk ls hL
    rw [List.map_cons, List.map_cons, ex, ey]
    exact lv_icmp_gt hC.1 hC.2.1 hdg ht (fun _ => h3) (fun z => absurd z (by first | exact hxy | exact Int32.not_le.mpr hxy | exact Int32.not_lt.mpr hxy | exact fun q => hxy q | (rw [Int32.not_le]; exact hxy) | (rw [Int32.not_lt]; exact hxy) | (intro q; exact hxy q) | (intro q; exact q hxy) | (rw [Int32.not_lt] at hxy; intro q; exact q hxy) | (rw [Int32.not_le]; first | exact hxy | exact Int32.not_le.mp hxy)))
  | false =>
    refine ⟨pc + 3, f, lv, st, h2, hf, fun p l e R s m args below meth c hC hE H locs ls cells slots Q hW hF hL kk => ?_⟩
    obtain ⟨X, Y, ex, ey, hb⟩ := rx_lt_ok hW q
    have hxy := (fun z => absurd (hb.mpr z) (by decide) : ¬ _)
    have h3 := kk ls hL
    rw [List.map_cons, List.map_cons, ex, ey]
    exact lv_icmp_gt hC.1 hC.2.1 hdg ht (fun z => absurd z (by first | exact hxy | exact Int32.not_le.mpr hxy | exact Int32.not_lt.mpr hxy | exact fun q => hxy q | (rw [Int32.not_le]; exact hxy) | (rw [Int32.not_lt]; exact hxy) | (intro q; exact hxy q) | (intro q; exact q hxy) | (rw [Int32.not_lt] at hxy; intro q; exact q hxy) | (rw [Int32.not_le]; first | exact hxy | exact Int32.not_le.mp hxy))) (fun _ => h3)
theorem s_if_gt {off : Int} {tgt : Nat} (hdg : decode M.2.1 pc = .ok (.ifCond .gt off, 3)) (ht : (pc : Int) + off = (tgt : Int)) (h1 : rx_OK V M d tgt t) (h2 : rx_OK V M d (pc + 3) f) : rx_OK V M d pc (o_c1 (fun h x y => rx_lt h y x) t f) := by
  refine rx_pure fun lv st h r h' hf => ?_
  match st, hf with
  | [], hf => cases hf
  | x :: st, hf =>
  simp only [o_c1] at hf
  cases q : rx_lt h 0 x with
  | none => simp only [q] at hf; cases hf
  | some b =>
  simp only [q] at hf
  cases b with
  | true =>
    refine ⟨tgt, t, lv, st, h1, hf, fun p l e R s m args below meth c hC hE H locs ls cells slots Q hW hF hL kk => ?_⟩
    obtain ⟨X, Y, ex, ey, hb⟩ := rx_lt_ok hW q
    have hxy := hb.mp rfl
    have h3 := kk ls hL
    rw [List.map_cons, ey]
    rw [rx_v_0 (V := V) (c := 0) rfl] at ex
    have e0 := Value.int.inj ex
    rw [show rx_di 0 = 0 from rfl] at e0
    subst e0
    exact lv_if_gt hC.1 hC.2.1 hdg ht (fun _ => h3) (fun z => absurd z (by first | exact hxy | exact Int32.not_le.mpr hxy | exact Int32.not_lt.mpr hxy | exact fun q => hxy q | (rw [Int32.not_le]; exact hxy) | (rw [Int32.not_lt]; exact hxy) | (intro q; exact hxy q) | (intro q; exact q hxy) | (rw [Int32.not_lt] at hxy; intro q; exact q hxy) | (rw [Int32.not_le]; first | exact hxy | exact Int32.not_le.mp hxy)))
  | false =>
    refine ⟨pc + 3, f, lv, st, h2, hf, fun p l e R s m args below meth c hC hE H locs ls cells slots Q hW hF hL kk => ?_⟩
    obtain ⟨X, Y, ex, ey, hb⟩ := rx_lt_ok hW q
    have hxy := (fun z => absurd (hb.mpr z) (by decide) : ¬ _)
    have h3 := kk ls hL
    rw [List.map_cons, ey]
    rw [rx_v_0 (V := V) (c := 0) rfl] at ex
    have e0 := Value.int.inj ex
    rw [show rx_di 0 = 0 from rfl] at e0
    subst e0
    exact lv_if_gt hC.1 hC.2.1 hdg ht (fun z => absurd z (by first | exact hxy | exact Int32.not_le.mpr hxy | exact Int32.not_lt.mpr hxy | exact fun q => hxy q | (rw [Int32.not_le]; exact hxy) | (rw [Int32.not_lt]; exact hxy) | (intro q; exact hxy q) | (intro q; exact q hxy) | (rw [Int32.not_lt] at hxy; intro q; exact q hxy) | (rw [Int32.not_le]; first | exact hxy | exact Int32.not_le.mp hxy))) (fun _ => h3)
theorem s_icmp_le {off : Int} {tgt : Nat} (hdg : decode M.2.1 pc = .ok (.if_icmp .le off, 3)) (ht : (pc : Int) + off = (tgt : Int)) (h1 : rx_OK V M d tgt t) (h2 : rx_OK V M d (pc + 3) f) : rx_OK V M d pc (o_c2 (fun h x y => rx_lt h y x) f t) := by
  refine rx_pure fun lv st h r h' hf => ?_
  match st, hf with
  | [], hf => cases hf
  | [_], hf => cases hf
  | y :: x :: st, hf =>
  simp only [o_c2] at hf
  cases q : rx_lt h y x with
  | none => simp only [q] at hf; cases hf
  | some b =>
  simp only [q] at hf
  cases b with
  | true =>
    refine ⟨pc + 3, f, lv, st, h2, hf, fun p l e R s m args below meth c hC hE H locs ls cells slots Q hW hF hL kk => ?_⟩
    obtain ⟨X, Y, ex, ey, hb⟩ := rx_lt_ok hW q
    have hxy := hb.mp rfl
    have h3 := kk ls hL
    rw [List.map_cons, List.map_cons, ex, ey]
    exact lv_icmp_le hC.1 hC.2.1 hdg ht (fun z => absurd z (by first | exact hxy | exact Int32.not_le.mpr hxy | exact Int32.not_lt.mpr hxy | exact fun q => hxy q | (rw [Int32.not_le]; exact hxy) | (rw [Int32.not_lt]; exact hxy) | (intro q; exact hxy q) | (intro q; exact q hxy) | (rw [Int32.not_lt] at hxy; intro q; exact q hxy) | (rw [Int32.not_le]; first | exact hxy | exact Int32.not_le.mp hxy))) (fun _ => h3)
  | false =>
    refine ⟨tgt, t, lv, st, h1, hf, fun p l e R s m args below meth c hC hE H locs ls cells slots Q hW hF hL kk => ?_⟩
    obtain ⟨X, Y, ex, ey, hb⟩ := rx_lt_ok hW q
    have hxy := (fun z => absurd (hb.mpr z) (by decide) : ¬ _)
    have h3 := kk ls hL
    rw [List.map_cons, List.map_cons, ex, ey]
    exact lv_icmp_le hC.1 hC.2.1 hdg ht (fun _ => h3) (fun z => absurd z (by first | exact hxy | exact Int32.not_le.mpr hxy | exact Int32.not_lt.mpr hxy | exact fun q => hxy q | (rw [Int32.not_le]; exact hxy) | (rw [Int32.not_lt]; exact hxy) | (intro q; exact hxy q) | (intro q; exact q hxy) | (rw [Int32.not_lt] at hxy; intro q; exact q hxy) | (rw [Int32.not_le]; first | exact hxy | exact Int32.not_le.mp hxy)))
theorem s_if_le {off : Int} {tgt : Nat} (hdg : decode M.2.1 pc = .ok (.ifCond .le off, 3)) (ht : (pc : Int) + off = (tgt : Int)) (h1 : rx_OK V M d tgt t) (h2 : rx_OK V M d (pc + 3) f) : rx_OK V M d pc (o_c1 (fun h x y => rx_lt h y x) f t) := by
  refine rx_pure fun lv st h r h' hf => ?_
  match st, hf with
  | [], hf => cases hf
  | x :: st, hf =>
  simp only [o_c1] at hf
  cases q : rx_lt h 0 x with
  | none => simp only [q] at hf; cases hf
  | some b =>
  simp only [q] at hf
  cases b with
  | true =>
    refine ⟨pc + 3, f, lv, st, h2, hf, fun p l e R s m args below meth c hC hE H locs ls cells slots Q hW hF hL kk => ?_⟩
    obtain ⟨X, Y, ex, ey, hb⟩ := rx_lt_ok hW q
    have hxy := hb.mp rfl
    have h3 := kk ls hL
    rw [List.map_cons, ey]
    rw [rx_v_0 (V := V) (c := 0) rfl] at ex
    have e0 := Value.int.inj ex
    rw [show rx_di 0 = 0 from rfl] at e0
    subst e0
    exact lv_if_le hC.1 hC.2.1 hdg ht (fun z => absurd z (by first | exact hxy | exact Int32.not_le.mpr hxy | exact Int32.not_lt.mpr hxy | exact fun q => hxy q | (rw [Int32.not_le]; exact hxy) | (rw [Int32.not_lt]; exact hxy) | (intro q; exact hxy q) | (intro q; exact q hxy) | (rw [Int32.not_lt] at hxy; intro q; exact q hxy) | (rw [Int32.not_le]; first | exact hxy | exact Int32.not_le.mp hxy))) (fun _ => h3)
  | false =>
    refine ⟨tgt, t, lv, st, h1, hf, fun p l e R s m args below meth c hC hE H locs ls cells slots Q hW hF hL kk => ?_⟩
    obtain ⟨X, Y, ex, ey, hb⟩ := rx_lt_ok hW q
    have hxy := (fun z => absurd (hb.mpr z) (by decide) : ¬ _)
    have h3 := kk ls hL
    rw [List.map_cons, ey]
    rw [rx_v_0 (V := V) (c := 0) rfl] at ex
    have e0 := Value.int.inj ex
    rw [show rx_di 0 = 0 from rfl] at e0
    subst e0
    exact lv_if_le hC.1 hC.2.1 hdg ht (fun _ => h3) (fun z => absurd z (by first | exact hxy | exact Int32.not_le.mpr hxy | exact Int32.not_lt.mpr hxy | exact fun q => hxy q | (rw [Int32.not_le]; exact hxy) | (rw [Int32.not_lt]; exact hxy) | (intro q; exact hxy q) | (intro q; exact q hxy) | (rw [Int32.not_lt] at hxy; intro q; exact q hxy) | (rw [Int32.not_le]; first | exact hxy | exact Int32.not_le.mp hxy)))
theorem s_icmp_eq {off : Int} {tgt : Nat} (hdg : decode M.2.1 pc = .ok (.if_icmp .eq off, 3)) (ht : (pc : Int) + off = (tgt : Int)) (h1 : rx_OK V M d tgt t) (h2 : rx_OK V M d (pc + 3) f) : rx_OK V M d pc (o_c2 (rx_eq) t f) := by
  refine rx_pure fun lv st h r h' hf => ?_
  match st, hf with
  | [], hf => cases hf
  | [_], hf => cases hf
  | y :: x :: st, hf =>
  simp only [o_c2] at hf
  cases q : rx_eq h x y with
  | none => simp only [q] at hf; cases hf
  | some b =>
  simp only [q] at hf
  cases b with
  | true =>
    refine ⟨tgt, t, lv, st, h1, hf, fun p l e R s m args below meth c hC hE H locs ls cells slots Q hW hF hL kk => ?_⟩
    obtain ⟨X, Y, ex, ey, hb⟩ := rx_eq_ok hW q
    have hxy := hb.mp rfl
    have h3 := kk ls hL
    rw [List.map_cons, List.map_cons, ex, ey]
    exact lv_icmp_eq hC.1 hC.2.1 hdg ht (fun _ => h3) (fun z => absurd z (by first | exact hxy | exact Int32.not_le.mpr hxy | exact Int32.not_lt.mpr hxy | exact fun q => hxy q | (rw [Int32.not_le]; exact hxy) | (rw [Int32.not_lt]; exact hxy) | (intro q; exact hxy q) | (intro q; exact q hxy) | (rw [Int32.not_lt] at hxy; intro q; exact q hxy) | (rw [Int32.not_le]; first | exact hxy | exact Int32.not_le.mp hxy)))
  | false =>
    refine ⟨pc + 3, f, lv, st, h2, hf, fun p l e R s m args below meth c hC hE H locs ls cells slots Q hW hF hL kk => ?_⟩
    obtain ⟨X, Y, ex, ey, hb⟩ := rx_eq_ok hW q
    have hxy := (fun z => absurd (hb.mpr z) (by decide) : ¬ _)
    have h3 := kk ls hL
    rw [List.map_cons, List.map_cons, ex, ey]
    exact lv_icmp_eq hC.1 hC.2.1 hdg ht (fun z => absurd z (by first | exact hxy | exact Int32.not_le.mpr hxy | exact Int32.not_lt.mpr hxy | exact fun q => hxy q | (rw [Int32.not_le]; exact hxy) | (rw [Int32.not_lt]; exact hxy) | (intro q; exact hxy q) | (intro q; exact q hxy) | (rw [Int32.not_lt] at hxy; intro q; exact q hxy) | (rw [Int32.not_le]; first | exact hxy | exact Int32.not_le.mp hxy))) (fun _ => h3)
theorem s_if_eq {off : Int} {tgt : Nat} (hdg : decode M.2.1 pc = .ok (.ifCond .eq off, 3)) (ht : (pc : Int) + off = (tgt : Int)) (h1 : rx_OK V M d tgt t) (h2 : rx_OK V M d (pc + 3) f) : rx_OK V M d pc (o_c1 (rx_eq) t f) := by
  refine rx_pure fun lv st h r h' hf => ?_
  match st, hf with
  | [], hf => cases hf
  | x :: st, hf =>
  simp only [o_c1] at hf
  cases q : rx_eq h x 0 with
  | none => simp only [q] at hf; cases hf
  | some b =>
  simp only [q] at hf
  cases b with
  | true =>
    refine ⟨tgt, t, lv, st, h1, hf, fun p l e R s m args below meth c hC hE H locs ls cells slots Q hW hF hL kk => ?_⟩
    obtain ⟨X, Y, ex, ey, hb⟩ := rx_eq_ok hW q
    have hxy := hb.mp rfl
    have h3 := kk ls hL
    rw [List.map_cons, ex]
    rw [rx_v_0 (V := V) (c := 0) rfl] at ey
    have e0 := Value.int.inj ey
    rw [show rx_di 0 = 0 from rfl] at e0
    subst e0
    exact lv_if_eq hC.1 hC.2.1 hdg ht (fun _ => h3) (fun z => absurd z (by first | exact hxy | exact Int32.not_le.mpr hxy | exact Int32.not_lt.mpr hxy | exact fun q => hxy q | (rw [Int32.not_le]; exact hxy) | (rw [Int32.not_lt]; exact hxy) | (intro q; exact hxy q) | (intro q; exact q hxy) | (rw [Int32.not_lt] at hxy; intro q; exact q hxy) | (rw [Int32.not_le]; first | exact hxy | exact Int32.not_le.mp hxy)))
  | false =>
    refine ⟨pc + 3, f, lv, st, h2, hf, fun p l e R s m args below meth c hC hE H locs ls cells slots Q hW hF hL kk => ?_⟩
    obtain ⟨X, Y, ex, ey, hb⟩ := rx_eq_ok hW q
    have hxy := (fun z => absurd (hb.mpr z) (by decide) : ¬ _)
    have h3 := kk ls hL
    rw [List.map_cons, ex]
    rw [rx_v_0 (V := V) (c := 0) rfl] at ey
    have e0 := Value.int.inj ey
    rw [show rx_di 0 = 0 from rfl] at e0
    subst e0
    exact lv_if_eq hC.1 hC.2.1 hdg ht (fun z => absurd z (by first | exact hxy | exact Int32.not_le.mpr hxy | exact Int32.not_lt.mpr hxy | exact fun q => hxy q | (rw [Int32.not_le]; exact hxy) | (rw [Int32.not_lt]; exact hxy) | (intro q; exact hxy q) | (intro q; exact q hxy) | (rw [Int32.not_lt] at hxy; intro q; exact q hxy) | (rw [Int32.not_le]; first | exact hxy | exact Int32.not_le.mp hxy))) (fun _ => h3)
theorem s_icmp_ne {off : Int} {tgt : Nat} (hdg : decode M.2.1 pc = .ok (.if_icmp .ne off, 3)) (ht : (pc : Int) + off = (tgt : Int)) (h1 : rx_OK V M d tgt t) (h2 : rx_OK V M d (pc + 3) f) : rx_OK V M d pc (o_c2 (rx_eq) f t) := by
  refine rx_pure fun lv st h r h' hf => ?_
  match st, hf with
  | [], hf => cases hf
  | [_], hf => cases hf
  | y :: x :: st, hf =>
  simp only [o_c2] at hf
  cases q : rx_eq h x y with
  | none => simp only [q] at hf; cases hf
  | some b =>
  simp only [q] at hf
  cases b with
  | true =>
    refine ⟨pc + 3, f, lv, st, h2, hf, fun p l e R s m args below meth c hC hE H locs ls cells slots Q hW hF hL kk => ?_⟩
    obtain ⟨X, Y, ex, ey, hb⟩ := rx_eq_ok hW q
    have hxy := hb.mp rfl
    have h3 := kk ls hL
    rw [List.map_cons, List.map_cons, ex, ey]
    exact lv_icmp_ne hC.1 hC.2.1 hdg ht (fun z => absurd z (by first | exact hxy | exact Int32.not_le.mpr hxy | exact Int32.not_lt.mpr hxy | exact fun q => hxy q | (rw [Int32.not_le]; exact hxy) | (rw [Int32.not_lt]; exact hxy) | (intro q; exact hxy q) | (intro q; exact q hxy) | (rw [Int32.not_lt] at hxy; intro q; exact q hxy) | (rw [Int32.not_le]; first | exact hxy | exact Int32.not_le.mp hxy))) (fun _ => h3)
  | false =>
    refine ⟨tgt, t, lv, st, h1, hf, fun p l e R s m args below meth c hC hE H locs ls cells slots Q hW hF hL kk => ?_⟩
    obtain ⟨X, Y, ex, ey, hb⟩ := rx_eq_ok hW q
    have hxy := (fun z => absurd (hb.mpr z) (by decide) : ¬ _)
    have h3 := kk ls hL
    rw [List.map_cons, List.map_cons, ex, ey]
    exact lv_icmp_ne hC.1 hC.2.1 hdg ht (fun _ => h3) (fun z => absurd z (by first | exact hxy | exact Int32.not_le.mpr hxy | exact Int32.not_lt.mpr hxy | exact fun q => hxy q | (rw [Int32.not_le]; exact hxy) | (rw [Int32.not_lt]; exact hxy) | (intro q; exact hxy q) | (intro q; exact q hxy) | (rw [Int32.not_lt] at hxy; intro q; exact q hxy) | (rw [Int32.not_le]; first | exact hxy | exact Int32.not_le.mp hxy)))
theorem s_if_ne {off : Int} {tgt : Nat} (hdg : decode M.2.1 pc = .ok (.ifCond .ne off, 3)) (ht : (pc : Int) + off = (tgt : Int)) (h1 : rx_OK V M d tgt t) (h2 : rx_OK V M d (pc + 3) f) : rx_OK V M d pc (o_c1 (rx_eq) f t) := by
  refine rx_pure fun lv st h r h' hf => ?_
  match st, hf with
  | [], hf => cases hf
  | x :: st, hf =>
  simp only [o_c1] at hf
  cases q : rx_eq h x 0 with
  | none => simp only [q] at hf; cases hf
  | some b =>
  simp only [q] at hf
  cases b with
  | true =>
    refine ⟨pc + 3, f, lv, st, h2, hf, fun p l e R s m args below meth c hC hE H locs ls cells slots Q hW hF hL kk => ?_⟩
    obtain ⟨X, Y, ex, ey, hb⟩ := rx_eq_ok hW q
    have hxy := hb.mp rfl
    have h3 := kk ls hL
    rw [List.map_cons, ex]
    rw [rx_v_0 (V := V) (c := 0) rfl] at ey
    have e0 := Value.int.inj ey
    rw [show rx_di 0 = 0 from rfl] at e0
    subst e0
    exact lv_if_ne hC.1 hC.2.1 hdg ht (fun z => absurd z (by first | exact hxy | exact Int32.not_le.mpr hxy | exact Int32.not_lt.mpr hxy | exact fun q => hxy q | (rw [Int32.not_le]; exact hxy) | (rw [Int32.not_lt]; exact hxy) | (intro q; exact hxy q) | (intro q; exact q hxy) | (rw [Int32.not_lt] at hxy; intro q; exact q hxy) | (rw [Int32.not_le]; first | exact hxy | exact Int32.not_le.mp hxy))) (fun _ => h3)
  | false =>
    refine ⟨tgt, t, lv, st, h1, hf, fun p l e R s m args below meth c hC hE H locs ls cells slots Q hW hF hL kk => ?_⟩
    obtain ⟨X, Y, ex, ey, hb⟩ := rx_eq_ok hW q
    have hxy := (fun z => absurd (hb.mpr z) (by decide) : ¬ _)
    have h3 := kk ls hL
    rw [List.map_cons, ex]
    rw [rx_v_0 (V := V) (c := 0) rfl] at ey
    have e0 := Value.int.inj ey
    rw [show rx_di 0 = 0 from rfl] at e0
    subst e0
    exact lv_if_ne hC.1 hC.2.1 hdg ht (fun _ => h3) (fun z => absurd z (by first | exact hxy | exact Int32.not_le.mpr hxy | exact Int32.not_lt.mpr hxy | exact fun q => hxy q | (rw [Int32.not_le]; exact hxy) | (rw [Int32.not_lt]; exact hxy) | (intro q; exact hxy q) | (intro q; exact q hxy) | (rw [Int32.not_lt] at hxy; intro q; exact q hxy) | (rw [Int32.not_le]; first | exact hxy | exact Int32.not_le.mp hxy)))
theorem s_goto {off : Int} {tgt : Nat} (hdg : decode M.2.1 pc = .ok (.goto off, 3)) (ht : (pc : Int) + off = (tgt : Int)) (hk : rx_OK V M d tgt f) : rx_OK V M d pc f := by
  refine rx_pure fun lv st h r h' hf => ?_
  exact ⟨tgt, f, lv, st, hk, hf, fun p l e R s m args below meth c hC hE H locs ls cells slots Q hW hF hL kk => lv_goto hC.1 hC.2.1 hdg ht (kk ls hL)⟩
end RX14

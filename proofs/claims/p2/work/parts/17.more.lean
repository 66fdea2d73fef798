section RX17
variable {V : rx_V} {M : rx_M} {d pc : Nat} {f t : rx_K}
-- arrays are made
noncomputable def o_newa (tt dc : Nat) (k : rx_K) : rx_K := fun lv st h => match st with
  | n :: r => bif Nat.beq (n % 8) 0 && Nat.blt (n / 8) 1000000 then rx_f (n / 8) fun N => rx_hp h (tt + 1, N, N, [[dc]], []) fun h1 => rx_f (8 * h.1 + 2) fun v => k lv (v :: r) h1 else none
  | _ => none
theorem rx_RAp {s : State} {cA cB : ClassId} {ty : FieldType} (hr : ty.isReference = false) (h : va_RA s cA ty) (h2 : s.vm.findClass ("[" ++ ty.toString) = some cB) : cB = cA := by
  cases ty <;> first | exact Option.some.inj (h2.symm.trans h) | cases hr
theorem rx_RAo {s : State} {cA cB : ClassId} {C : String} (h : va_RA s cA (.object C)) (h2 : s.vm.findClass ("[" ++ (FieldType.object C).toString) = some cB) : cB = cA := by
  obtain ⟨-, -, -, -, -, h3⟩ := h
  exact Option.some.inj (h2.symm.trans h3)
theorem s_newa {tt dc : Nat} {atype : ArrayType} {ty : FieldType} (hty : newarray.typeOf atype = ty) (ht : (eT V)[tt]? = some ty) (hr : ty.isReference = false) (hd : rx_dfok ty = true) (hdc : rx_df ty = dc) (hcb : componentBytes ty ≤ 8) (hw : Cond.arrayClass ty ∈ eW V) (hdg : decode M.2.1 pc = .ok (.newarray atype, 2)) (hk : rx_OK V M d (pc + 2) f) : rx_OK V M d pc (o_newa tt dc f) := by
  subst hty
  refine rx_heap fun lv st h r h' hf => ?_
  match st, hf with
  | [], hf => cases hf
  | n :: st, hf =>
  simp only [o_newa, rx_f_eq] at hf
  obtain ⟨hc, hf⟩ := rx_bifn hf
  obtain ⟨hn, hlt⟩ := Bool.and_eq_true_iff.mp hc
  have hlt : n / 8 < 1000000 := Nat.le_of_ble_eq_true hlt
  obtain ⟨h1, hf, e1, e2, e3, eg⟩ := rx_hp_some hf
  dsimp only at e2
  refine ⟨pc + 2, f, lv, _, h1, hk, hf, by omega, by omega, fun p l e R s m args below meth c hC hE n0 z0 hn0 hz0 hR1 hR2 hR3 hR4 H locs ls Q hW hF hL kk => ?_⟩
  have hts := hC.2.2.2.2.2.2.1
  obtain ⟨x1, x2⟩ := rx_in (x := rx_di n) (i := n / 8) (n := n / 8 + 1) rfl (by omega) (by omega)
  rw [List.map_cons, rx_v_0 (rx_beq hn)]
  have hb8 : n / 8 * componentBytes (newarray.typeOf atype) ≤ n / 8 * 8 := Nat.mul_le_mul_left _ hcb
  refine va_newaK hC.1 hC.2.1 (hts _ hw) rfl hdg rfl (fun q => x1 (Or.inl q)) x2 (by omega) (by omega) (by omega) rfl fun H1 cA g1 g2 g3 g4 g5 => ?_
  have hb : eb V ≤ H.size := by rw [hW.1]; omega
  have ecA : cA = eA V tt := rx_RAp hr (rx_ty hE ht).2 g5
  have hk2 := kk H1 locs ls (rx_w_push hW e1 e3 eg g2 g3 ?_) (rx_F_push hF g2 g3 hb) hL
  · rw [List.map_cons, rx_v_2 (by omega), show (8 * h.1 + 2) / 8 = h.1 by omega, ← hW.1, e1, e2, show h.1 + 1 - n0 = h.1 - n0 + 1 by omega, show h.2.1 + n / 8 - z0 = h.2.1 - z0 + n / 8 by omega] at hk2
    exact hk2
  · show H1[eb V + h.1]? = some (arrV (eA V tt) (n / 8) (fun j => rx_v V dc))
    rw [← hW.1, g1, ecA, ← hdc, rx_df_v hd]
theorem s_anewa {tt index : Nat} {C : String} (ht : (eT V)[tt]? = some (.object C)) (hw1 : Cond.classLink M.1 index C ∈ eW V) (hw2 : ∀ s, eX V s → ∀ args, (Cond.arrayOver (.object C)).before args s = true) (hdg : decode M.2.1 pc = .ok (.anewarray index, 3)) (hk : rx_OK V M d (pc + 3) f) : rx_OK V M d pc (o_newa tt 3 f) := by
  refine rx_heap fun lv st h r h' hf => ?_
  match st, hf with
  | [], hf => cases hf
  | n :: st, hf =>
  simp only [o_newa, rx_f_eq] at hf
  obtain ⟨hc, hf⟩ := rx_bifn hf
  obtain ⟨hn, hlt⟩ := Bool.and_eq_true_iff.mp hc
  have hlt : n / 8 < 1000000 := Nat.le_of_ble_eq_true hlt
  obtain ⟨h1, hf, e1, e2, e3, eg⟩ := rx_hp_some hf
  dsimp only at e2
  refine ⟨pc + 3, f, lv, _, h1, hk, hf, by omega, by omega, fun p l e R s m args below meth c hC hE n0 z0 hn0 hz0 hR1 hR2 hR3 hR4 H locs ls Q hW hF hL kk => ?_⟩
  have hts := hC.2.2.2.2.2.2.1
  obtain ⟨x1, x2⟩ := rx_in (x := rx_di n) (i := n / 8) (n := n / 8 + 1) rfl (by omega) (by omega)
  rw [List.map_cons, rx_v_0 (rx_beq hn)]
  refine W.anew hC.1 hC.2.1 hC.2.2.2.2.2.1 (hts _ hw1) (hw2 s hE.2.1 args) rfl hdg rfl (fun q => x1 (Or.inl q)) (by rw [x2]; omega) (by omega) (by rw [x2]; omega) fun cA kA comp f1 f2 f3 f4 => ?_
  rw [x2]
  generalize hH1 : H.push ({ cls := cA, slots := Array.replicate (n / 8) .null, vm := .none } : Cell) = H1
  have z1 : H1.size = H.size + 1 := by rw [← hH1, Array.size_push]
  have g1 : H1[H.size]? = some (arrV cA (n / 8) (fun _ => .null)) := by rw [← hH1, Array.getElem?_push_size, ← arrV_new]
  have o1 : ∀ q, q < H.size → H1[q]? = H[q]? := fun q hq => by rw [← hH1, Array.getElem?_push, if_neg (Nat.ne_of_lt hq)]
  have hb : eb V ≤ H.size := by rw [hW.1]; omega
  have ecA : cA = eA V tt := rx_RAo (rx_ty hE ht).2 f1
  have hk2 := kk H1 locs ls (rx_w_push hW e1 e3 eg z1 o1 ?_) (rx_F_push hF z1 o1 hb) hL
  · rw [List.map_cons, rx_v_2 (by omega), show (8 * h.1 + 2) / 8 = h.1 by omega, ← hW.1, e1, e2, show h.1 + 1 - n0 = h.1 - n0 + 1 by omega, show h.2.1 + n / 8 - z0 = h.2.1 - z0 + n / 8 by omega] at hk2
    exact hk2
  · show H1[eb V + h.1]? = some (arrV (eA V tt) (n / 8) (fun j => rx_v V 3))
    rw [← hW.1, g1, ecA]
    rfl
-- null and references compared
noncomputable def o_nul (t f : rx_K) : rx_K := fun lv st h => match st with
  | v :: r => bif Nat.beq (v % 8) 3 then t lv r h else bif Nat.beq (v % 8) 2 then f lv r h else none
  | _ => none
theorem s_ifnull {off : Int} {tgt : Nat} (hdg : decode M.2.1 pc = .ok (.ifnull off, 3)) (ht : (pc : Int) + off = (tgt : Int)) (h1 : rx_OK V M d tgt t) (h2 : rx_OK V M d (pc + 3) f) : rx_OK V M d pc (o_nul t f) := by
  refine rx_pure fun lv st h r h' hf => ?_
  match st, hf with
  | [], hf => cases hf
  | v :: st, hf =>
  simp only [o_nul] at hf
  rcases rx_bif hf with ⟨hc, hf⟩ | ⟨-, hf⟩
  · refine ⟨tgt, t, lv, st, h1, hf, fun p l e R s m args below meth c hC hE H locs ls cells slots Q hW hF hL kk => ?_⟩
    rw [List.map_cons, rx_v_3 (rx_beq hc)]
    exact lv_ifnullN hC.1 hC.2.1 hdg ht (kk ls hL)
  · obtain ⟨hc, hf⟩ := rx_bifn hf
    refine ⟨pc + 3, f, lv, st, h2, hf, fun p l e R s m args below meth c hC hE H locs ls cells slots Q hW hF hL kk => ?_⟩
    rw [List.map_cons, rx_v_2 (rx_beq hc)]
    exact lv_ifnull hC.1 hC.2.1 hdg (kk ls hL)
theorem s_ifnonnull {off : Int} {tgt : Nat} (hdg : decode M.2.1 pc = .ok (.ifnonnull off, 3)) (ht : (pc : Int) + off = (tgt : Int)) (h1 : rx_OK V M d tgt t) (h2 : rx_OK V M d (pc + 3) f) : rx_OK V M d pc (o_nul f t) := by
  refine rx_pure fun lv st h r h' hf => ?_
  match st, hf with
  | [], hf => cases hf
  | v :: st, hf =>
  simp only [o_nul] at hf
  rcases rx_bif hf with ⟨hc, hf⟩ | ⟨-, hf⟩
  · refine ⟨pc + 3, f, lv, st, h2, hf, fun p l e R s m args below meth c hC hE H locs ls cells slots Q hW hF hL kk => ?_⟩
    rw [List.map_cons, rx_v_3 (rx_beq hc)]
    exact lv_ifnonnullN hC.1 hC.2.1 hdg (kk ls hL)
  · obtain ⟨hc, hf⟩ := rx_bifn hf
    refine ⟨tgt, t, lv, st, h1, hf, fun p l e R s m args below meth c hC hE H locs ls cells slots Q hW hF hL kk => ?_⟩
    rw [List.map_cons, rx_v_2 (rx_beq hc)]
    exact lv_ifnonnull hC.1 hC.2.1 hdg ht (kk ls hL)
-- are two references one: some b where it is known (ours, null; ours are none from outside; one from outside is itself)
def rx_same (x y : Nat) : Option Bool := bif (Nat.beq (x % 8) 2 || Nat.beq (x % 8) 3) && (Nat.beq (y % 8) 2 || Nat.beq (y % 8) 3) then (bif Nat.beq (x % 8) 3 then some (Nat.beq (y % 8) 3) else bif Nat.beq (y % 8) 3 then some false else some (Nat.beq (x / 8) (y / 8))) else
  bif Nat.beq (x % 8) 4 && (Nat.ble 6 (x / 8) && Nat.beq y x) then some true else
  bif Nat.beq (x % 8) 4 && (Nat.ble 6 (x / 8) && Nat.beq (y % 8) 2) then some false else
  bif Nat.beq (y % 8) 4 && (Nat.ble 6 (y / 8) && Nat.beq (x % 8) 2) then some false else none
theorem rx_same_ok (hV : rx_Ok V) {x y : Nat} {b : Bool} (h : rx_same x y = some b) : ∃ X Y : Option Nat, rx_v V x = va_rf X ∧ rx_v V y = va_rf Y ∧ (b = true ↔ X = Y) := by
  have hx : ∀ z : Nat, z % 8 = 4 → 6 ≤ z / 8 → ∃ Z : Option Nat, rx_v V z = va_rf Z ∧ ∀ q, Z = some q → q < eb V := by
    intro z h1 h2
    rw [rx_v_4 h1]
    rcases hV.2.1 _ (Nat.le_trans (by decide) h2) with e | ⟨a, l, e⟩
    · exact ⟨none, e, fun q w => by cases w⟩
    · exact ⟨some a, e, fun q w => by cases w; exact l.elim (fun z => absurd z (by omega)) id⟩
  have n2 : ∀ z : Nat, z % 8 = 2 → rx_v V z = va_rf (some (eb V + z / 8)) := fun z h => rx_v_2 h
  have n3 : ∀ z : Nat, z % 8 = 3 → rx_v V z = va_rf none := fun z h => rx_v_3 h
  unfold rx_same at h
  rcases rx_bif h with ⟨hc, h⟩ | ⟨-, h⟩
  · obtain ⟨c1, c2⟩ := Bool.and_eq_true_iff.mp hc
    rcases rx_bif h with ⟨d1, h⟩ | ⟨d1, h⟩
    · have e := Option.some.inj h
      rcases Bool.or_eq_true_iff.mp c2 with q | q
      · refine ⟨none, _, n3 x (rx_beq d1), n2 y (rx_beq q), ?_⟩
        rw [← e, rx_beq q]; simp
      · refine ⟨none, none, n3 x (rx_beq d1), n3 y (rx_beq q), ?_⟩
        rw [← e, rx_beq q]; simp
    · have x2 : x % 8 = 2 := by
        rcases Bool.or_eq_true_iff.mp c1 with q | q
        · exact rx_beq q
        · rw [q] at d1; cases d1
      rcases rx_bif h with ⟨d2, h⟩ | ⟨d2, h⟩
      · refine ⟨_, none, n2 x x2, n3 y (rx_beq d2), ?_⟩
        rw [← Option.some.inj h]; simp
      · have y2 : y % 8 = 2 := by
          rcases Bool.or_eq_true_iff.mp c2 with q | q
          · exact rx_beq q
          · rw [q] at d2; cases d2
        refine ⟨_, _, n2 x x2, n2 y y2, ?_⟩
        rw [← Option.some.inj h]
        constructor
        · intro q; rw [rx_beq q]
        · intro q
          have := Option.some.inj q
          have e : x / 8 = y / 8 := by omega
          rw [e]; exact Nat.beq_refl _
  · rcases rx_bif h with ⟨hc, h9⟩ | ⟨-, h⟩
    · obtain ⟨c1, c2⟩ := Bool.and_eq_true_iff.mp hc
      obtain ⟨c2, c3⟩ := Bool.and_eq_true_iff.mp c2
      have e := rx_beq c3
      obtain ⟨Z, z1, -⟩ := hx x (rx_beq c1) (Nat.le_of_ble_eq_true c2)
      refine ⟨Z, Z, z1, by rw [e]; exact z1, ?_⟩
      rw [← Option.some.inj h9]; simp
    · rcases rx_bif h with ⟨hc, h⟩ | ⟨-, h⟩
      · obtain ⟨c1, c2⟩ := Bool.and_eq_true_iff.mp hc
        obtain ⟨c2, c3⟩ := Bool.and_eq_true_iff.mp c2
        obtain ⟨Z, z1, z2⟩ := hx x (rx_beq c1) (Nat.le_of_ble_eq_true c2)
        refine ⟨Z, _, z1, n2 y (rx_beq c3), ?_⟩
        rw [← Option.some.inj h]
        simp only [Bool.false_eq_true, false_iff]
        intro q
        have := z2 _ q
        omega
      · obtain ⟨hc, h⟩ := rx_bifn h
        obtain ⟨c1, c2⟩ := Bool.and_eq_true_iff.mp hc
        obtain ⟨c2, c3⟩ := Bool.and_eq_true_iff.mp c2
        obtain ⟨Z, z1, z2⟩ := hx y (rx_beq c1) (Nat.le_of_ble_eq_true c2)
        refine ⟨_, Z, n2 x (rx_beq c3), z1, ?_⟩
        rw [← Option.some.inj h]
        simp only [Bool.false_eq_true, false_iff]
        intro q
        have := z2 _ q.symm
        omega
noncomputable def o_acmp (t f : rx_K) : rx_K := fun lv st h => match st with
  | y :: x :: r => match rx_same x y with
    | some b => bif b then t lv r h else f lv r h
    | none => none
  | _ => none
theorem s_acmp_eq (hV : rx_Ok V) {off : Int} {tgt : Nat} (hdg : decode M.2.1 pc = .ok (.if_acmp .eq off, 3)) (ht : (pc : Int) + off = (tgt : Int)) (h1 : rx_OK V M d tgt t) (h2 : rx_OK V M d (pc + 3) f) : rx_OK V M d pc (o_acmp t f) := by
  refine rx_pure fun lv st h r h' hf => ?_
  match st, hf with
  | [], hf => cases hf
  | [_], hf => cases hf
  | y :: x :: st, hf =>
  simp only [o_acmp] at hf
  cases q : rx_same x y with
  | none => rw [q] at hf; cases hf
  | some b =>
  rw [q] at hf
  obtain ⟨X, Y, ex, ey, hb⟩ := rx_same_ok hV q
  cases b with
  | true =>
    refine ⟨tgt, t, lv, st, h1, hf, fun p l e R s m args below meth c hC hE H locs ls cells slots Q hW hF hL kk => ?_⟩
    rw [List.map_cons, List.map_cons, ex, ey]
    exact lv_acmp_eq hC.1 hC.2.1 hdg ht (fun _ => kk ls hL) (fun z => absurd (hb.mp rfl) z)
  | false =>
    refine ⟨pc + 3, f, lv, st, h2, hf, fun p l e R s m args below meth c hC hE H locs ls cells slots Q hW hF hL kk => ?_⟩
    rw [List.map_cons, List.map_cons, ex, ey]
    exact lv_acmp_eq hC.1 hC.2.1 hdg ht (fun z => absurd (hb.mpr z) (by decide)) (fun _ => kk ls hL)
theorem s_acmp_ne (hV : rx_Ok V) {off : Int} {tgt : Nat} (hdg : decode M.2.1 pc = .ok (.if_acmp .ne off, 3)) (ht : (pc : Int) + off = (tgt : Int)) (h1 : rx_OK V M d tgt t) (h2 : rx_OK V M d (pc + 3) f) : rx_OK V M d pc (o_acmp f t) := by
  refine rx_pure fun lv st h r h' hf => ?_
  match st, hf with
  | [], hf => cases hf
  | [_], hf => cases hf
  | y :: x :: st, hf =>
  simp only [o_acmp] at hf
  cases q : rx_same x y with
  | none => rw [q] at hf; cases hf
  | some b =>
  rw [q] at hf
  obtain ⟨X, Y, ex, ey, hb⟩ := rx_same_ok hV q
  cases b with
  | true =>
    refine ⟨pc + 3, f, lv, st, h2, hf, fun p l e R s m args below meth c hC hE H locs ls cells slots Q hW hF hL kk => ?_⟩
    rw [List.map_cons, List.map_cons, ex, ey]
    exact lv_acmp_ne hC.1 hC.2.1 hdg ht (fun z => absurd (hb.mp rfl) z) (fun _ => kk ls hL)
  | false =>
    refine ⟨tgt, t, lv, st, h1, hf, fun p l e R s m args below meth c hC hE H locs ls cells slots Q hW hF hL kk => ?_⟩
    rw [List.map_cons, List.map_cons, ex, ey]
    exact lv_acmp_ne hC.1 hC.2.1 hdg ht (fun _ => kk ls hL) (fun z => absurd (hb.mpr z) (by decide))
-- a reference is stored in an array
def rx_isN (c : Nat) : Bool := Nat.beq (c % 8) 3
noncomputable def o_aast (tt : Nat) (cis : List Nat) (k : rx_K) : rx_K := fun lv st h => match st with
  | v :: _ => bif rx_isN v then o_ast tt (fun v => v) rx_isN k lv st h else bif Nat.beq (v % 8) 2 && Nat.blt (v / 8) h.1 then (match rx_hg h (v / 8) with
    | (z, c, _, _, _) => bif Nat.beq z 0 && cis.any (Nat.beq c) then o_ast tt (fun v => v) (fun w => Nat.beq w v) k lv st h else none) else none
  | _ => none
theorem rx_aastN {tt : Nat} {C : String} (ht : (eT V)[tt]? = some (.object C)) (hdg : decode M.2.1 pc = .ok (.aastore, 1)) (hk : rx_OK V M d (pc + 1) f) : rx_OK V M d pc (o_ast tt (fun v => v) rx_isN f) :=
  rx_ast (fun p l e R s m args below meth c H locs ls cells slots Q hC hE h a n z j v rest hv hW h1 h2 kk => by
    rw [rx_v_3 (rx_beq hv)] at kk ⊢
    exact va_WaastN hC.1 hC.2.1 h1 ((rx_ty hE ht).1 n z) (fun q => by cases q) h2 rfl rfl hdg kk) hk
theorem s_aast {tt : Nat} {E : String} {cis : List Nat} (ht : (eT V)[tt]? = some (.object E)) (hcis : ∀ ci ∈ cis, ∃ r, (eC V)[ci]? = some r ∧ (r.1 = E ∨ Cond.castable r.1 E ∈ eW V)) (hdg : decode M.2.1 pc = .ok (.aastore, 1)) (hk : rx_OK V M d (pc + 1) f) : rx_OK V M d pc (o_aast tt cis f) := by
  intro lv st h r h' hf
  match st, hf with
  | [], hf => cases hf
  | v :: st, hf =>
  simp only [o_aast] at hf
  rcases rx_bif hf with ⟨-, hf⟩ | ⟨-, hf⟩
  · exact rx_aastN ht hdg hk lv (v :: st) h r h' hf
  · obtain ⟨hc0, hf0⟩ := rx_bifn hf
    clear hf
    obtain ⟨c1, c2⟩ := Bool.and_eq_true_iff.mp hc0
    have hlt : v / 8 < h.1 := Nat.le_of_ble_eq_true c2
    generalize he : rx_hg h (v / 8) = en at hf0
    obtain ⟨z, ci, nv, fv, uv⟩ := en
    dsimp only at hf0
    obtain ⟨hc1, hf1⟩ := rx_bifn hf0
    clear hf0
    obtain ⟨c3, c4⟩ := Bool.and_eq_true_iff.mp hc1
    rw [rx_beq c3] at he
    obtain ⟨ci', hm, hq⟩ := List.any_eq_true.mp c4
    have hq := rx_beq hq
    rw [← hq] at hm
    obtain ⟨rr, g1, g2⟩ := hcis _ hm
    match st, hf1 with
    | [], hf => cases hf
    | [_], hf => cases hf
    | i :: o :: st, hf2 =>
      simp only [o_ast, rx_f_eq] at hf2
      obtain ⟨hc2, hf3⟩ := rx_bifn hf2
      clear hf2
      obtain ⟨-, hi⟩ := Bool.and_eq_true_iff.mp hc2
      obtain ⟨ho, hlt2, a, n, fs, us, he2, hf4⟩ := rx_ar_some hf3
      clear hf3
      obtain ⟨hc3, hf⟩ := rx_bifn hf4
      clear hf4
      obtain ⟨i1, i2⟩ := Bool.and_eq_true_iff.mp hc3
      have i1 : i / 8 < n := Nat.le_of_ble_eq_true i1
      have i2 : n < 268435456 := Nat.le_of_ble_eq_true i2
      obtain ⟨hh, hf, e1, e2, e3, eg⟩ := rx_hs_some hf
      obtain ⟨m1, m2, kk⟩ := hk lv st hh r h' hf
      refine ⟨by omega, by omega, fun p l e R s m args below meth c hC hE n0 z0 hn0 hz0 hR1 hR2 hR3 hR4 H locs ls hW hF hL => ?_⟩
      have hat := rx_ar_at hW hlt2 he2
      obtain ⟨x1, x2⟩ := rx_in (x := rx_di i) (i := i / 8) (n := n) rfl i1 (by omega)
      rw [List.map_cons, List.map_cons, List.map_cons, rx_v_0 (rx_beq hi), rx_v_2 ho, rx_v_2 (rx_beq c1)]
      have hat1 := hW.2.1 _ hlt
      rw [he] at hat1
      obtain ⟨⟨r0, r1', r2'⟩, cellV, y1, y2, y3, -⟩ := hat1
      have hr0 : r0 = rr := Option.some.inj (r1'.symm.trans g1)
      subst hr0
      have hcls := (hE.1.1 ci r0 r1').2
      obtain ⟨kA, comp, k1, k2, k3, -⟩ := (rx_ty hE ht).2
      obtain ⟨kC, hkC, -⟩ := hcls.2
      have hts := hC.2.2.2.2.2.2.1
      obtain ⟨kcomp, hkcomp, -⟩ := Vm.findClass_spec k3
      have hass : s.vm.assignable cellV.cls comp = true := by
        rw [y2]
        rcases g2 with q | q
        · have hcomp : comp = (eD V).1 ci := by
            rw [q] at hcls
            exact Option.some.inj (k3.symm.trans hcls.1)
          rw [hcomp]
          exact va_assign hcls
        · have hca := hts _ q
          obtain ⟨cc1, cc2, w1, w2, w3⟩ := Cond.castable_spec hca
          have e1 := Option.some.inj (w1.symm.trans hcls.1)
          have e2 := Option.some.inj (w2.symm.trans k3)
          rw [← e1, ← e2]
          exact w3
      refine W.aast hC.1 hC.2.1 hat (fun q h => by cases h) (fun h => by cases h) k1 k2 rfl hkcomp ⟨fun q => x1 (Or.inl q), by rw [arrV_size]; exact Nat.not_le.mp fun q => x1 (Or.inr q)⟩ y1 (fun q h => by rw [y3] at h; cases h) (by rw [y2]; exact hkC) hass rfl rfl hdg fun H1 w1 w2 w3 => ?_
      have hkk := kk p l e R s m args below meth c hC hE n0 z0 (by omega) (by omega) hR1 hR2 hR3 hR4 H1 (locs ++ [⟨eb V + o / 8, (rx_di i).toNatClampNeg⟩]) ls ?_ (rx_F_set hF w2 w3 (by omega)) hL
      · rw [e1, e2] at hkk; exact hkk
      · refine rx_w_set hW hlt2 e1 e3 eg w2 w3 ?_
        show H1[_]? = _
        rw [w1, x2, rx_arrset (V := V) (c := v) (fun j => rfl) (rx_v_2 (rx_beq c1)).symm]
end RX17

section RX13
variable {V : rx_V} {M : rx_M} {d pc : Nat} {f t : rx_K}
theorem s_iload_n (hV : rx_Ok V) {k : Fin 4} {i : Nat} (hdg : decode M.2.1 pc = .ok (.iload_n k, 1)) (hi : (k : Nat) = i) (hk : rx_OK V M d (pc + 1) f) : rx_OK V M d pc (o_ld rx_isI i f) := by
  refine rx_pure fun lv st h r h' hf => ?_
  simp only [o_ld, rx_f_eq] at hf
  obtain ⟨hc, hf⟩ := rx_bifn hf
  obtain ⟨h7, x, ex⟩ := rx_isI_v hV hc
  refine ⟨pc + 1, f, lv, _, hk, hf, fun p l e R s m args below meth c hC hE H locs ls cells slots Q hW hF hL kk => ?_⟩
  have h2 := kk ls hL
  have h3 := rx_L_at hL h7
  rw [ex] at h3
  rw [List.map_cons, ex] at h2
  exact lv_iload_n hC.1 hC.2.1 hdg hi h3 h2
theorem s_iload (hV : rx_Ok V) {i : Nat} (hdg : decode M.2.1 pc = .ok (.iload i, 2)) (hk : rx_OK V M d (pc + 2) f) : rx_OK V M d pc (o_ld rx_isI i f) := by
  refine rx_pure fun lv st h r h' hf => ?_
  simp only [o_ld, rx_f_eq] at hf
  obtain ⟨hc, hf⟩ := rx_bifn hf
  obtain ⟨h7, x, ex⟩ := rx_isI_v hV hc
  refine ⟨pc + 2, f, lv, _, hk, hf, fun p l e R s m args below meth c hC hE H locs ls cells slots Q hW hF hL kk => ?_⟩
  have h2 := kk ls hL
  have h3 := rx_L_at hL h7
  rw [ex] at h3
  rw [List.map_cons, ex] at h2
  exact lv_iload hC.1 hC.2.1 hdg h3 h2
theorem s_aload_n (hV : rx_Ok V) {k : Fin 4} {i : Nat} (hdg : decode M.2.1 pc = .ok (.aload_n k, 1)) (hi : (k : Nat) = i) (hk : rx_OK V M d (pc + 1) f) : rx_OK V M d pc (o_ld rx_isR i f) := by
  refine rx_pure fun lv st h r h' hf => ?_
  simp only [o_ld, rx_f_eq] at hf
  obtain ⟨hc, hf⟩ := rx_bifn hf
  obtain ⟨h7, hx⟩ := rx_isR_v hV hc
  refine ⟨pc + 1, f, lv, _, hk, hf, fun p l e R s m args below meth c hC hE H locs ls cells slots Q hW hF hL kk => ?_⟩
  have h2 := kk ls hL
  have h3 := rx_L_at hL h7
  rw [List.map_cons] at h2
  rcases hx with ex | ⟨a, ex⟩
  · rw [ex] at h2 h3
    exact lv_aload_nN hC.1 hC.2.1 hdg hi h3 h2
  · rw [ex] at h2 h3
    exact lv_aload_n hC.1 hC.2.1 hdg hi h3 h2
theorem s_aload (hV : rx_Ok V) {i : Nat} (hdg : decode M.2.1 pc = .ok (.aload i, 2)) (hk : rx_OK V M d (pc + 2) f) : rx_OK V M d pc (o_ld rx_isR i f) := by
  refine rx_pure fun lv st h r h' hf => ?_
  simp only [o_ld, rx_f_eq] at hf
  obtain ⟨hc, hf⟩ := rx_bifn hf
  obtain ⟨h7, hx⟩ := rx_isR_v hV hc
  refine ⟨pc + 2, f, lv, _, hk, hf, fun p l e R s m args below meth c hC hE H locs ls cells slots Q hW hF hL kk => ?_⟩
  have h2 := kk ls hL
  have h3 := rx_L_at hL h7
  rw [List.map_cons] at h2
  rcases hx with ex | ⟨a, ex⟩
  · rw [ex] at h2 h3
    exact lv_aloadN hC.1 hC.2.1 hdg h3 h2
  · rw [ex] at h2 h3
    exact lv_aload hC.1 hC.2.1 hdg h3 h2
theorem s_lload_n (hV : rx_Ok V) {k : Fin 4} {i : Nat} (hdg : decode M.2.1 pc = .ok (.lload_n k, 1)) (hi : (k : Nat) = i) (hk : rx_OK V M d (pc + 1) f) : rx_OK V M d pc (o_ld rx_isL i f) := by
  refine rx_pure fun lv st h r h' hf => ?_
  simp only [o_ld, rx_f_eq] at hf
  obtain ⟨hc, hf⟩ := rx_bifn hf
  obtain ⟨h7, ex⟩ := rx_isL_v (V := V) hc
  refine ⟨pc + 1, f, lv, _, hk, hf, fun p l e R s m args below meth c hC hE H locs ls cells slots Q hW hF hL kk => ?_⟩
  have h2 := kk ls hL
  have h3 := rx_L_at (i := i) hL (by omega)
  rw [ex] at h3
  rw [List.map_cons, ex] at h2
  exact lv_lload_n hC.1 hC.2.1 hdg hi h3 h2
theorem s_lload (hV : rx_Ok V) {i : Nat} (hdg : decode M.2.1 pc = .ok (.lload i, 2)) (hk : rx_OK V M d (pc + 2) f) : rx_OK V M d pc (o_ld rx_isL i f) := by
  refine rx_pure fun lv st h r h' hf => ?_
  simp only [o_ld, rx_f_eq] at hf
  obtain ⟨hc, hf⟩ := rx_bifn hf
  obtain ⟨h7, ex⟩ := rx_isL_v (V := V) hc
  refine ⟨pc + 2, f, lv, _, hk, hf, fun p l e R s m args below meth c hC hE H locs ls cells slots Q hW hF hL kk => ?_⟩
  have h2 := kk ls hL
  have h3 := rx_L_at (i := i) hL (by omega)
  rw [ex] at h3
  rw [List.map_cons, ex] at h2
  exact lv_lload hC.1 hC.2.1 hdg h3 h2
noncomputable def o_st (chk : Nat → Bool) (i : Nat) (k : rx_K) : rx_K := fun lv st h => match st with
  | v :: r => bif chk v then rx_st1 lv i v fun lv' => k lv' r h else none
  | _ => none
noncomputable def o_stL (i : Nat) (k : rx_K) : rx_K := fun lv st h => match st with
  | v :: r => bif rx_isL v then rx_st2 lv i v fun lv' => k lv' r h else none
  | _ => none
theorem s_istore_n (hV : rx_Ok V) {k : Fin 4} {i : Nat} (hdg : decode M.2.1 pc = .ok (.istore_n k, 1)) (hi : (k : Nat) = i) (hn : i < M.2.2.1) (hk : rx_OK V M d (pc + 1) f) : rx_OK V M d pc (o_st rx_isI i f) := by
  refine rx_pure fun lv st h r h' hf => ?_
  match st, hf with
  | [], hf => cases hf
  | v :: st, hf =>
  simp only [o_st] at hf
  obtain ⟨hc, hf⟩ := rx_bifn hf
  obtain ⟨lv', hf, hlv⟩ := rx_st1_some hf
  refine ⟨pc + 1, f, lv', st, hk, hf, fun p l e R s m args below meth c hC hE H locs ls cells slots Q hW hF hL kk => ?_⟩
  rw [List.map_cons]
  obtain ⟨h7, x, ex⟩ := rx_isI_v hV hc
  rw [ex]
  refine lv_istore_n hC.1 hC.2.1 hdg hi (rx_L_has hL) hn rfl fun ls' hh => kk ls' (rx_L_st1 hV (v := v) ?_ hlv)
  rw [ex]
  exact hh
theorem s_istore (hV : rx_Ok V) {i : Nat} (hdg : decode M.2.1 pc = .ok (.istore i, 2)) (hn : i < M.2.2.1) (hk : rx_OK V M d (pc + 2) f) : rx_OK V M d pc (o_st rx_isI i f) := by
  refine rx_pure fun lv st h r h' hf => ?_
  match st, hf with
  | [], hf => cases hf
  | v :: st, hf =>
  simp only [o_st] at hf
  obtain ⟨hc, hf⟩ := rx_bifn hf
  obtain ⟨lv', hf, hlv⟩ := rx_st1_some hf
  refine ⟨pc + 2, f, lv', st, hk, hf, fun p l e R s m args below meth c hC hE H locs ls cells slots Q hW hF hL kk => ?_⟩
  rw [List.map_cons]
  obtain ⟨h7, x, ex⟩ := rx_isI_v hV hc
  rw [ex]
  refine lv_istore hC.1 hC.2.1 hdg (rx_L_has hL) hn rfl fun ls' hh => kk ls' (rx_L_st1 hV (v := v) ?_ hlv)
  rw [ex]
  exact hh
theorem s_astore_n (hV : rx_Ok V) {k : Fin 4} {i : Nat} (hdg : decode M.2.1 pc = .ok (.astore_n k, 1)) (hi : (k : Nat) = i) (hn : i < M.2.2.1) (hk : rx_OK V M d (pc + 1) f) : rx_OK V M d pc (o_st rx_isR i f) := by
  refine rx_pure fun lv st h r h' hf => ?_
  match st, hf with
  | [], hf => cases hf
  | v :: st, hf =>
  simp only [o_st] at hf
  obtain ⟨hc, hf⟩ := rx_bifn hf
  obtain ⟨lv', hf, hlv⟩ := rx_st1_some hf
  refine ⟨pc + 1, f, lv', st, hk, hf, fun p l e R s m args below meth c hC hE H locs ls cells slots Q hW hF hL kk => ?_⟩
  rw [List.map_cons]
  obtain ⟨h7, hx⟩ := rx_isR_v hV hc
  rcases hx with ex | ⟨a, ex⟩
  · rw [ex]
    refine lv_astore_nN hC.1 hC.2.1 hdg hi (rx_L_has hL) hn rfl fun ls' hh => kk ls' (rx_L_st1 hV (v := v) ?_ hlv)
    rw [ex]
    exact hh
  · rw [ex]
    refine lv_astore_n hC.1 hC.2.1 hdg hi (rx_L_has hL) hn rfl fun ls' hh => kk ls' (rx_L_st1 hV (v := v) ?_ hlv)
    rw [ex]
    exact hh
theorem s_astore (hV : rx_Ok V) {i : Nat} (hdg : decode M.2.1 pc = .ok (.astore i, 2)) (hn : i < M.2.2.1) (hk : rx_OK V M d (pc + 2) f) : rx_OK V M d pc (o_st rx_isR i f) := by
  refine rx_pure fun lv st h r h' hf => ?_
  match st, hf with
  | [], hf => cases hf
  | v :: st, hf =>
  simp only [o_st] at hf
  obtain ⟨hc, hf⟩ := rx_bifn hf
  obtain ⟨lv', hf, hlv⟩ := rx_st1_some hf
  refine ⟨pc + 2, f, lv', st, hk, hf, fun p l e R s m args below meth c hC hE H locs ls cells slots Q hW hF hL kk => ?_⟩
  rw [List.map_cons]
  obtain ⟨h7, hx⟩ := rx_isR_v hV hc
  rcases hx with ex | ⟨a, ex⟩
  · rw [ex]
    refine lv_astoreN hC.1 hC.2.1 hdg (rx_L_has hL) hn rfl fun ls' hh => kk ls' (rx_L_st1 hV (v := v) ?_ hlv)
    rw [ex]
    exact hh
  · rw [ex]
    refine lv_astore hC.1 hC.2.1 hdg (rx_L_has hL) hn rfl fun ls' hh => kk ls' (rx_L_st1 hV (v := v) ?_ hlv)
    rw [ex]
    exact hh
theorem s_lstore_n (hV : rx_Ok V) {k : Fin 4} {i : Nat} (hdg : decode M.2.1 pc = .ok (.lstore_n k, 1)) (hi : (k : Nat) = i) (hn : i + 1 < M.2.2.1) (hk : rx_OK V M d (pc + 1) f) : rx_OK V M d pc (o_stL i f) := by
  refine rx_pure fun lv st h r h' hf => ?_
  match st, hf with
  | [], hf => cases hf
  | v :: st, hf =>
  simp only [o_stL] at hf
  obtain ⟨hc, hf⟩ := rx_bifn hf
  obtain ⟨lv', hf, hlv⟩ := rx_st2_some hf
  obtain ⟨h7, ex⟩ := rx_isL_v (V := V) hc
  refine ⟨pc + 1, f, lv', st, hk, hf, fun p l e R s m args below meth c hC hE H locs ls cells slots Q hW hF hL kk => ?_⟩
  rw [List.map_cons, ex]
  refine lv_lstore_n hC.1 hC.2.1 hdg hi (rx_L_has hL) hn rfl fun ls' hh => kk ls' (rx_L_st2 hV (v := v) ?_ hlv)
  rw [ex]
  exact hh
theorem s_lstore (hV : rx_Ok V) {i : Nat} (hdg : decode M.2.1 pc = .ok (.lstore i, 2)) (hn : i + 1 < M.2.2.1) (hk : rx_OK V M d (pc + 2) f) : rx_OK V M d pc (o_stL i f) := by
  refine rx_pure fun lv st h r h' hf => ?_
  match st, hf with
  | [], hf => cases hf
  | v :: st, hf =>
  simp only [o_stL] at hf
  obtain ⟨hc, hf⟩ := rx_bifn hf
  obtain ⟨lv', hf, hlv⟩ := rx_st2_some hf
  obtain ⟨h7, ex⟩ := rx_isL_v (V := V) hc
  refine ⟨pc + 2, f, lv', st, hk, hf, fun p l e R s m args below meth c hC hE H locs ls cells slots Q hW hF hL kk => ?_⟩
  rw [List.map_cons, ex]
  refine lv_lstore hC.1 hC.2.1 hdg (rx_L_has hL) hn rfl fun ls' hh => kk ls' (rx_L_st2 hV (v := v) ?_ hlv)
  rw [ex]
  exact hh
noncomputable def o_inc (i : Nat) (n : Int) (k : rx_K) : rx_K := fun lv st h => rx_f (rx_get 7 lv i) fun c => bif Nat.beq (c % 8) 0 then rx_f (rx_ei (rx_di c + Int32.ofInt n)) fun v => rx_st1 lv i v fun lv' => k lv' st h else none
theorem s_iinc (hV : rx_Ok V) {i : Nat} {n : Int} (hdg : decode M.2.1 pc = .ok (.iinc i n, 3)) (hn : i < M.2.2.1) (hk : rx_OK V M d (pc + 3) f) : rx_OK V M d pc (o_inc i n f) := by
  refine rx_pure fun lv st h r h' hf => ?_
  simp only [o_inc, rx_f_eq] at hf
  obtain ⟨hc, hf⟩ := rx_bifn hf
  have h0 := rx_beq hc
  obtain ⟨lv', hf, hlv⟩ := rx_st1_some hf
  refine ⟨pc + 3, f, lv', st, hk, hf, fun p l e R s m args below meth c hC hE H locs ls cells slots Q hW hF hL kk => ?_⟩
  have ev := rx_v_0 (V := V) h0
  have hmem : (i, Value.int (rx_di (rx_get 7 lv i))) ∈ rx_as V lv := by
    rw [← ev]
    rw [rx_get_eq] at h0 ⊢
    cases q : lv[i]? with
    | none => rw [show lv.getD i 7 = 7 by simp [List.getD, q]] at h0; omega
    | some c0 =>
      have q2 : lv.getD i 7 = c0 := by simp [List.getD, q]
      rw [q2] at h0 ⊢
      exact rx_as_mem.mpr ⟨i, c0, q, by omega, rfl⟩
  obtain ⟨k0, hk0⟩ := List.mem_iff_getElem?.mp hmem
  refine lv_iinc hC.1 hC.2.1 hdg (rx_L_has hL) hk0 rfl hn rfl fun ls' hh => kk ls' (rx_L_st1 hV (v := rx_ei (rx_di (rx_get 7 lv i) + Int32.ofInt n)) ?_ hlv)
  rw [rx_v_ei]
  exact hh
noncomputable def o_const (c : Nat) (k : rx_K) : rx_K := fun lv st h => k lv (c :: st) h
theorem s_iconst {n : Int} {v : Nat} (hdg : decode M.2.1 pc = .ok (.iconst n, 1)) (hv : rx_ei (Int32.ofInt n) = v) (hk : rx_OK V M d (pc + 1) f) : rx_OK V M d pc (o_const v f) := by
  subst hv
  refine rx_pure fun lv st h r h' hf => ?_
  refine ⟨pc + 1, f, lv, _, hk, hf, fun p l e R s m args below meth c hC hE H locs ls cells slots Q hW hF hL kk => ?_⟩
  have h2 := kk ls hL
  rw [List.map_cons, rx_v_ei] at h2
  exact lv_iconst hC.1 hC.2.1 hdg rfl h2
theorem s_bipush {n : Int} {v : Nat} (hdg : decode M.2.1 pc = .ok (.bipush n, 2)) (hv : rx_ei (Int8.ofInt n).toInt32 = v) (hk : rx_OK V M d (pc + 2) f) : rx_OK V M d pc (o_const v f) := by
  subst hv
  refine rx_pure fun lv st h r h' hf => ?_
  refine ⟨pc + 2, f, lv, _, hk, hf, fun p l e R s m args below meth c hC hE H locs ls cells slots Q hW hF hL kk => ?_⟩
  have h2 := kk ls hL
  rw [List.map_cons, rx_v_ei] at h2
  exact lv_bipush hC.1 hC.2.1 hdg rfl h2
theorem s_sipush {n : Int} {v : Nat} (hdg : decode M.2.1 pc = .ok (.sipush n, 3)) (hv : rx_ei (Int16.ofInt n).toInt32 = v) (hk : rx_OK V M d (pc + 3) f) : rx_OK V M d pc (o_const v f) := by
  subst hv
  refine rx_pure fun lv st h r h' hf => ?_
  refine ⟨pc + 3, f, lv, _, hk, hf, fun p l e R s m args below meth c hC hE H locs ls cells slots Q hW hF hL kk => ?_⟩
  have h2 := kk ls hL
  rw [List.map_cons, rx_v_ei] at h2
  exact lv_sipush hC.1 hC.2.1 hdg rfl h2
theorem s_lconst {n : Fin 2} {v : Nat} (hdg : decode M.2.1 pc = .ok (.lconst n, 1)) (hv : rx_el (Int64.ofNat (n : Nat)) = v) (hk : rx_OK V M d (pc + 1) f) : rx_OK V M d pc (o_const v f) := by
  subst hv
  refine rx_pure fun lv st h r h' hf => ?_
  refine ⟨pc + 1, f, lv, _, hk, hf, fun p l e R s m args below meth c hC hE H locs ls cells slots Q hW hF hL kk => ?_⟩
  have h2 := kk ls hL
  rw [List.map_cons, rx_v_el] at h2
  exact lv_lconst hC.1 hC.2.1 hdg rfl h2
theorem s_null (hdg : decode M.2.1 pc = .ok (.aconst_null, 1)) (hk : rx_OK V M d (pc + 1) f) : rx_OK V M d pc (o_const 3 f) := by
  refine rx_pure fun lv st h r h' hf => ?_
  refine ⟨pc + 1, f, lv, _, hk, hf, fun p l e R s m args below meth c hC hE H locs ls cells slots Q hW hF hL kk => ?_⟩
  have h2 := kk ls hL
  rw [List.map_cons, rx_v_3 rfl] at h2
  exact lv_null hC.1 hC.2.1 hdg h2
theorem s_ldc {index v : Nat} {x : Int32} (hdg : decode M.2.1 pc = .ok (.ldc index, 2)) (hw : Cond.constant M.1 index x ∈ eW V) (hv : rx_ei x = v) (hk : rx_OK V M d (pc + 2) f) : rx_OK V M d pc (o_const v f) := by
  subst hv
  refine rx_pure fun lv st h r h' hf => ?_
  refine ⟨pc + 2, f, lv, _, hk, hf, fun p l e R s m args below meth c hC hE H locs ls cells slots Q hW hF hL kk => ?_⟩
  have h2 := kk ls hL
  rw [List.map_cons, rx_v_ei] at h2
  exact lv_ldc hC.1 hC.2.1 hC.2.2.2.2.2.1 (hC.2.2.2.2.2.2.1 _ hw) hdg h2
theorem s_ldcw {index v : Nat} {x : Int32} (hdg : decode M.2.1 pc = .ok (.ldc_w index, 3)) (hw : Cond.constant M.1 index x ∈ eW V) (hv : rx_ei x = v) (hk : rx_OK V M d (pc + 3) f) : rx_OK V M d pc (o_const v f) := by
  subst hv
  refine rx_pure fun lv st h r h' hf => ?_
  refine ⟨pc + 3, f, lv, _, hk, hf, fun p l e R s m args below meth c hC hE H locs ls cells slots Q hW hF hL kk => ?_⟩
  have h2 := kk ls hL
  rw [List.map_cons, rx_v_ei] at h2
  exact lv_ldcw hC.1 hC.2.1 hC.2.2.2.2.2.1 (hC.2.2.2.2.2.2.1 _ hw) hdg h2
theorem s_ldc2 {index v : Nat} {x : Int64} (hdg : decode M.2.1 pc = .ok (.ldc2_w index, 3)) (hw : Cond.constantLong M.1 index x ∈ eW V) (hv : rx_el x = v) (hk : rx_OK V M d (pc + 3) f) : rx_OK V M d pc (o_const v f) := by
  subst hv
  refine rx_pure fun lv st h r h' hf => ?_
  refine ⟨pc + 3, f, lv, _, hk, hf, fun p l e R s m args below meth c hC hE H locs ls cells slots Q hW hF hL kk => ?_⟩
  have h2 := kk ls hL
  rw [List.map_cons, rx_v_el] at h2
  exact lv_ldc2 hC.1 hC.2.1 hC.2.2.2.2.2.1 (hC.2.2.2.2.2.2.1 _ hw) hdg h2
noncomputable def o_bi (g : Int32 → Int32 → Int32) (k : rx_K) : rx_K := fun lv st h => match st with
  | y :: x :: r => bif Nat.beq (y % 8) 0 && Nat.beq (x % 8) 0 then rx_f (rx_ei (g (rx_di x) (rx_di y))) fun v => k lv (v :: r) h else none
  | _ => none
noncomputable def o_bl (g : Int64 → Int64 → Int64) (k : rx_K) : rx_K := fun lv st h => match st with
  | y :: x :: r => bif Nat.beq (y % 8) 1 && Nat.beq (x % 8) 1 then rx_f (rx_el (g (rx_dl x) (rx_dl y))) fun v => k lv (v :: r) h else none
  | _ => none
noncomputable def o_bs (g : Int64 → Int32 → Int64) (k : rx_K) : rx_K := fun lv st h => match st with
  | y :: x :: r => bif Nat.beq (y % 8) 0 && Nat.beq (x % 8) 1 then rx_f (rx_el (g (rx_dl x) (rx_di y))) fun v => k lv (v :: r) h else none
  | _ => none
noncomputable def o_bc (g : Int64 → Int64 → Int32) (k : rx_K) : rx_K := fun lv st h => match st with
  | y :: x :: r => bif Nat.beq (y % 8) 1 && Nat.beq (x % 8) 1 then rx_f (rx_ei (g (rx_dl x) (rx_dl y))) fun v => k lv (v :: r) h else none
  | _ => none
noncomputable def o_ui (g : Int32 → Int32) (k : rx_K) : rx_K := fun lv st h => match st with
  | x :: r => bif Nat.beq (x % 8) 0 then rx_f (rx_ei (g (rx_di x))) fun v => k lv (v :: r) h else none
  | _ => none
noncomputable def o_il (g : Int32 → Int64) (k : rx_K) : rx_K := fun lv st h => match st with
  | x :: r => bif Nat.beq (x % 8) 0 then rx_f (rx_el (g (rx_di x))) fun v => k lv (v :: r) h else none
  | _ => none
noncomputable def o_ul (g : Int64 → Int64) (k : rx_K) : rx_K := fun lv st h => match st with
  | x :: r => bif Nat.beq (x % 8) 1 then rx_f (rx_el (g (rx_dl x))) fun v => k lv (v :: r) h else none
  | _ => none
noncomputable def o_li (g : Int64 → Int32) (k : rx_K) : rx_K := fun lv st h => match st with
  | x :: r => bif Nat.beq (x % 8) 1 then rx_f (rx_ei (g (rx_dl x))) fun v => k lv (v :: r) h else none
  | _ => none
theorem s_iadd (hdg : decode M.2.1 pc = .ok (.iadd, 1)) (hk : rx_OK V M d (pc + 1) f) : rx_OK V M d pc (o_bi (fun x y => x + y) f) := by
  refine rx_pure fun lv st h r h' hf => ?_
  match st, hf with
  | [], hf => cases hf
  | [_], hf => cases hf
  | y :: x :: st, hf =>
  simp only [o_bi, rx_f_eq] at hf
  obtain ⟨hc, hf⟩ := rx_bifn hf
  obtain ⟨hy, hx⟩ := Bool.and_eq_true_iff.mp hc
  refine ⟨pc + 1, f, lv, _, hk, hf, fun p l e R s m args below meth c hC hE H locs ls cells slots Q hW hF hL kk => ?_⟩
  have h2 := kk ls hL
  rw [List.map_cons, rx_v_ei] at h2
  rw [List.map_cons, List.map_cons, rx_v_0 (rx_beq hy), rx_v_0 (rx_beq hx)]
  exact lv_iadd hC.1 hC.2.1 hdg h2
theorem s_isub (hdg : decode M.2.1 pc = .ok (.isub, 1)) (hk : rx_OK V M d (pc + 1) f) : rx_OK V M d pc (o_bi (fun x y => x - y) f) := by
  refine rx_pure fun lv st h r h' hf => ?_
  match st, hf with
  | [], hf => cases hf
  | [_], hf => cases hf
  | y :: x :: st, hf =>
  simp only [o_bi, rx_f_eq] at hf
  obtain ⟨hc, hf⟩ := rx_bifn hf
  obtain ⟨hy, hx⟩ := Bool.and_eq_true_iff.mp hc
  refine ⟨pc + 1, f, lv, _, hk, hf, fun p l e R s m args below meth c hC hE H locs ls cells slots Q hW hF hL kk => ?_⟩
  have h2 := kk ls hL
  rw [List.map_cons, rx_v_ei] at h2
  rw [List.map_cons, List.map_cons, rx_v_0 (rx_beq hy), rx_v_0 (rx_beq hx)]
  exact lv_isub hC.1 hC.2.1 hdg h2
theorem s_imul (hdg : decode M.2.1 pc = .ok (.imul, 1)) (hk : rx_OK V M d (pc + 1) f) : rx_OK V M d pc (o_bi (fun x y => x * y) f) := by
  refine rx_pure fun lv st h r h' hf => ?_
  match st, hf with
  | [], hf => cases hf
  | [_], hf => cases hf
  | y :: x :: st, hf =>
  simp only [o_bi, rx_f_eq] at hf
  obtain ⟨hc, hf⟩ := rx_bifn hf
  obtain ⟨hy, hx⟩ := Bool.and_eq_true_iff.mp hc
  refine ⟨pc + 1, f, lv, _, hk, hf, fun p l e R s m args below meth c hC hE H locs ls cells slots Q hW hF hL kk => ?_⟩
  have h2 := kk ls hL
  rw [List.map_cons, rx_v_ei] at h2
  rw [List.map_cons, List.map_cons, rx_v_0 (rx_beq hy), rx_v_0 (rx_beq hx)]
  exact lv_imul hC.1 hC.2.1 hdg h2
theorem s_iand (hdg : decode M.2.1 pc = .ok (.iand, 1)) (hk : rx_OK V M d (pc + 1) f) : rx_OK V M d pc (o_bi (fun x y => x &&& y) f) := by
  refine rx_pure fun lv st h r h' hf => ?_
  match st, hf with
  | [], hf => cases hf
  | [_], hf => cases hf
  | y :: x :: st, hf =>
  simp only [o_bi, rx_f_eq] at hf
  obtain ⟨hc, hf⟩ := rx_bifn hf
  obtain ⟨hy, hx⟩ := Bool.and_eq_true_iff.mp hc
  refine ⟨pc + 1, f, lv, _, hk, hf, fun p l e R s m args below meth c hC hE H locs ls cells slots Q hW hF hL kk => ?_⟩
  have h2 := kk ls hL
  rw [List.map_cons, rx_v_ei] at h2
  rw [List.map_cons, List.map_cons, rx_v_0 (rx_beq hy), rx_v_0 (rx_beq hx)]
  exact lv_iand hC.1 hC.2.1 hdg h2
theorem s_ior (hdg : decode M.2.1 pc = .ok (.ior, 1)) (hk : rx_OK V M d (pc + 1) f) : rx_OK V M d pc (o_bi (fun x y => x ||| y) f) := by
  refine rx_pure fun lv st h r h' hf => ?_
  match st, hf with
  | [], hf => cases hf
  | [_], hf => cases hf
  | y :: x :: st, hf =>
  simp only [o_bi, rx_f_eq] at hf
  obtain ⟨hc, hf⟩ := rx_bifn hf
  obtain ⟨hy, hx⟩ := Bool.and_eq_true_iff.mp hc
  refine ⟨pc + 1, f, lv, _, hk, hf, fun p l e R s m args below meth c hC hE H locs ls cells slots Q hW hF hL kk => ?_⟩
  have h2 := kk ls hL
  rw [List.map_cons, rx_v_ei] at h2
  rw [List.map_cons, List.map_cons, rx_v_0 (rx_beq hy), rx_v_0 (rx_beq hx)]
  exact lv_ior hC.1 hC.2.1 hdg h2
theorem s_ixor (hdg : decode M.2.1 pc = .ok (.ixor, 1)) (hk : rx_OK V M d (pc + 1) f) : rx_OK V M d pc (o_bi (fun x y => x ^^^ y) f) := by
  refine rx_pure fun lv st h r h' hf => ?_
  match st, hf with
  | [], hf => cases hf
  | [_], hf => cases hf
  | y :: x :: st, hf =>
  simp only [o_bi, rx_f_eq] at hf
  obtain ⟨hc, hf⟩ := rx_bifn hf
  obtain ⟨hy, hx⟩ := Bool.and_eq_true_iff.mp hc
  refine ⟨pc + 1, f, lv, _, hk, hf, fun p l e R s m args below meth c hC hE H locs ls cells slots Q hW hF hL kk => ?_⟩
  have h2 := kk ls hL
  rw [List.map_cons, rx_v_ei] at h2
  rw [List.map_cons, List.map_cons, rx_v_0 (rx_beq hy), rx_v_0 (rx_beq hx)]
  exact lv_ixor hC.1 hC.2.1 hdg h2
theorem s_ishl (hdg : decode M.2.1 pc = .ok (.ishl, 1)) (hk : rx_OK V M d (pc + 1) f) : rx_OK V M d pc (o_bi (fun x y => x <<< (y &&& 31)) f) := by
  refine rx_pure fun lv st h r h' hf => ?_
  match st, hf with
  | [], hf => cases hf
  | [_], hf => cases hf
  | y :: x :: st, hf =>
  simp only [o_bi, rx_f_eq] at hf
  obtain ⟨hc, hf⟩ := rx_bifn hf
  obtain ⟨hy, hx⟩ := Bool.and_eq_true_iff.mp hc
  refine ⟨pc + 1, f, lv, _, hk, hf, fun p l e R s m args below meth c hC hE H locs ls cells slots Q hW hF hL kk => ?_⟩
  have h2 := kk ls hL
  rw [List.map_cons, rx_v_ei] at h2
  rw [List.map_cons, List.map_cons, rx_v_0 (rx_beq hy), rx_v_0 (rx_beq hx)]
  exact lv_ishl hC.1 hC.2.1 hdg h2
theorem s_ishr (hdg : decode M.2.1 pc = .ok (.ishr, 1)) (hk : rx_OK V M d (pc + 1) f) : rx_OK V M d pc (o_bi (fun x y => x >>> (y &&& 31)) f) := by
  refine rx_pure fun lv st h r h' hf => ?_
  match st, hf with
  | [], hf => cases hf
  | [_], hf => cases hf
  | y :: x :: st, hf =>
  simp only [o_bi, rx_f_eq] at hf
  obtain ⟨hc, hf⟩ := rx_bifn hf
  obtain ⟨hy, hx⟩ := Bool.and_eq_true_iff.mp hc
  refine ⟨pc + 1, f, lv, _, hk, hf, fun p l e R s m args below meth c hC hE H locs ls cells slots Q hW hF hL kk => ?_⟩
  have h2 := kk ls hL
  rw [List.map_cons, rx_v_ei] at h2
  rw [List.map_cons, List.map_cons, rx_v_0 (rx_beq hy), rx_v_0 (rx_beq hx)]
  exact lv_ishr hC.1 hC.2.1 hdg h2
theorem s_iushr (hdg : decode M.2.1 pc = .ok (.iushr, 1)) (hk : rx_OK V M d (pc + 1) f) : rx_OK V M d pc (o_bi (fun x y => (x.toUInt32 >>> (y.toUInt32 &&& Int32.toUInt32 31)).toInt32) f) := by
  refine rx_pure fun lv st h r h' hf => ?_
  match st, hf with
  | [], hf => cases hf
  | [_], hf => cases hf
  | y :: x :: st, hf =>
  simp only [o_bi, rx_f_eq] at hf
  obtain ⟨hc, hf⟩ := rx_bifn hf
  obtain ⟨hy, hx⟩ := Bool.and_eq_true_iff.mp hc
  refine ⟨pc + 1, f, lv, _, hk, hf, fun p l e R s m args below meth c hC hE H locs ls cells slots Q hW hF hL kk => ?_⟩
  have h2 := kk ls hL
  rw [List.map_cons, rx_v_ei] at h2
  rw [List.map_cons, List.map_cons, rx_v_0 (rx_beq hy), rx_v_0 (rx_beq hx)]
  exact lv_iushr hC.1 hC.2.1 hdg rfl h2
theorem s_ladd (hdg : decode M.2.1 pc = .ok (.ladd, 1)) (hk : rx_OK V M d (pc + 1) f) : rx_OK V M d pc (o_bl (fun x y => x + y) f) := by
  refine rx_pure fun lv st h r h' hf => ?_
  match st, hf with
  | [], hf => cases hf
  | [_], hf => cases hf
  | y :: x :: st, hf =>
  simp only [o_bl, rx_f_eq] at hf
  obtain ⟨hc, hf⟩ := rx_bifn hf
  obtain ⟨hy, hx⟩ := Bool.and_eq_true_iff.mp hc
  refine ⟨pc + 1, f, lv, _, hk, hf, fun p l e R s m args below meth c hC hE H locs ls cells slots Q hW hF hL kk => ?_⟩
  have h2 := kk ls hL
  rw [List.map_cons, rx_v_el] at h2
  rw [List.map_cons, List.map_cons, rx_v_1 (rx_beq hy), rx_v_1 (rx_beq hx)]
  exact lv_ladd hC.1 hC.2.1 hdg h2
theorem s_lsub (hdg : decode M.2.1 pc = .ok (.lsub, 1)) (hk : rx_OK V M d (pc + 1) f) : rx_OK V M d pc (o_bl (fun x y => x - y) f) := by
  refine rx_pure fun lv st h r h' hf => ?_
  match st, hf with
  | [], hf => cases hf
  | [_], hf => cases hf
  | y :: x :: st, hf =>
  simp only [o_bl, rx_f_eq] at hf
  obtain ⟨hc, hf⟩ := rx_bifn hf
  obtain ⟨hy, hx⟩ := Bool.and_eq_true_iff.mp hc
  refine ⟨pc + 1, f, lv, _, hk, hf, fun p l e R s m args below meth c hC hE H locs ls cells slots Q hW hF hL kk => ?_⟩
  have h2 := kk ls hL
  rw [List.map_cons, rx_v_el] at h2
  rw [List.map_cons, List.map_cons, rx_v_1 (rx_beq hy), rx_v_1 (rx_beq hx)]
  exact lv_lsub hC.1 hC.2.1 hdg h2
theorem s_lmul (hdg : decode M.2.1 pc = .ok (.lmul, 1)) (hk : rx_OK V M d (pc + 1) f) : rx_OK V M d pc (o_bl (fun x y => x * y) f) := by
  refine rx_pure fun lv st h r h' hf => ?_
  match st, hf with
  | [], hf => cases hf
  | [_], hf => cases hf
  | y :: x :: st, hf =>
  simp only [o_bl, rx_f_eq] at hf
  obtain ⟨hc, hf⟩ := rx_bifn hf
  obtain ⟨hy, hx⟩ := Bool.and_eq_true_iff.mp hc
  refine ⟨pc + 1, f, lv, _, hk, hf, fun p l e R s m args below meth c hC hE H locs ls cells slots Q hW hF hL kk => ?_⟩
  have h2 := kk ls hL
  rw [List.map_cons, rx_v_el] at h2
  rw [List.map_cons, List.map_cons, rx_v_1 (rx_beq hy), rx_v_1 (rx_beq hx)]
  exact lv_lmul hC.1 hC.2.1 hdg h2
theorem s_land (hdg : decode M.2.1 pc = .ok (.land, 1)) (hk : rx_OK V M d (pc + 1) f) : rx_OK V M d pc (o_bl (fun x y => x &&& y) f) := by
  refine rx_pure fun lv st h r h' hf => ?_
  match st, hf with
  | [], hf => cases hf
  | [_], hf => cases hf
  | y :: x :: st, hf =>
  simp only [o_bl, rx_f_eq] at hf
  obtain ⟨hc, hf⟩ := rx_bifn hf
  obtain ⟨hy, hx⟩ := Bool.and_eq_true_iff.mp hc
  refine ⟨pc + 1, f, lv, _, hk, hf, fun p l e R s m args below meth c hC hE H locs ls cells slots Q hW hF hL kk => ?_⟩
  have h2 := kk ls hL
  rw [List.map_cons, rx_v_el] at h2
  rw [List.map_cons, List.map_cons, rx_v_1 (rx_beq hy), rx_v_1 (rx_beq hx)]
  exact lv_land hC.1 hC.2.1 hdg h2
theorem s_lor (hdg : decode M.2.1 pc = .ok (.lor, 1)) (hk : rx_OK V M d (pc + 1) f) : rx_OK V M d pc (o_bl (fun x y => x ||| y) f) := by
  refine rx_pure fun lv st h r h' hf => ?_
  match st, hf with
  | [], hf => cases hf
  | [_], hf => cases hf
  | y :: x :: st, hf =>
  simp only [o_bl, rx_f_eq] at hf
  obtain ⟨hc, hf⟩ := rx_bifn hf
  obtain ⟨hy, hx⟩ := Bool.and_eq_true_iff.mp hc
  refine ⟨pc + 1, f, lv, _, hk, hf, fun p l e R s m args below meth c hC hE H locs ls cells slots Q hW hF hL kk => ?_⟩
  have h2 := kk ls hL
  rw [List.map_cons, rx_v_el] at h2
  rw [List.map_cons, List.map_cons, rx_v_1 (rx_beq hy), rx_v_1 (rx_beq hx)]
  exact lv_lor hC.1 hC.2.1 hdg h2
theorem s_lxor (hdg : decode M.2.1 pc = .ok (.lxor, 1)) (hk : rx_OK V M d (pc + 1) f) : rx_OK V M d pc (o_bl (fun x y => x ^^^ y) f) := by
  refine rx_pure fun lv st h r h' hf => ?_
  match st, hf with
  | [], hf => cases hf
  | [_], hf => cases hf
  | y :: x :: st, hf =>
  simp only [o_bl, rx_f_eq] at hf
  obtain ⟨hc, hf⟩ := rx_bifn hf
  obtain ⟨hy, hx⟩ := Bool.and_eq_true_iff.mp hc
  refine ⟨pc + 1, f, lv, _, hk, hf, fun p l e R s m args below meth c hC hE H locs ls cells slots Q hW hF hL kk => ?_⟩
  have h2 := kk ls hL
  rw [List.map_cons, rx_v_el] at h2
  rw [List.map_cons, List.map_cons, rx_v_1 (rx_beq hy), rx_v_1 (rx_beq hx)]
  exact lv_lxor hC.1 hC.2.1 hdg h2
theorem s_lshl (hdg : decode M.2.1 pc = .ok (.lshl, 1)) (hk : rx_OK V M d (pc + 1) f) : rx_OK V M d pc (o_bs (fun x y => x <<< (y.toInt64 &&& 63)) f) := by
  refine rx_pure fun lv st h r h' hf => ?_
  match st, hf with
  | [], hf => cases hf
  | [_], hf => cases hf
  | y :: x :: st, hf =>
  simp only [o_bs, rx_f_eq] at hf
  obtain ⟨hc, hf⟩ := rx_bifn hf
  obtain ⟨hy, hx⟩ := Bool.and_eq_true_iff.mp hc
  refine ⟨pc + 1, f, lv, _, hk, hf, fun p l e R s m args below meth c hC hE H locs ls cells slots Q hW hF hL kk => ?_⟩
  have h2 := kk ls hL
  rw [List.map_cons, rx_v_el] at h2
  rw [List.map_cons, List.map_cons, rx_v_0 (rx_beq hy), rx_v_1 (rx_beq hx)]
  exact lv_lshl hC.1 hC.2.1 hdg rfl h2
theorem s_lshr (hdg : decode M.2.1 pc = .ok (.lshr, 1)) (hk : rx_OK V M d (pc + 1) f) : rx_OK V M d pc (o_bs (fun x y => x >>> (y.toInt64 &&& 63)) f) := by
  refine rx_pure fun lv st h r h' hf => ?_
  match st, hf with
  | [], hf => cases hf
  | [_], hf => cases hf
  | y :: x :: st, hf =>
  simp only [o_bs, rx_f_eq] at hf
  obtain ⟨hc, hf⟩ := rx_bifn hf
  obtain ⟨hy, hx⟩ := Bool.and_eq_true_iff.mp hc
  refine ⟨pc + 1, f, lv, _, hk, hf, fun p l e R s m args below meth c hC hE H locs ls cells slots Q hW hF hL kk => ?_⟩
  have h2 := kk ls hL
  rw [List.map_cons, rx_v_el] at h2
  rw [List.map_cons, List.map_cons, rx_v_0 (rx_beq hy), rx_v_1 (rx_beq hx)]
  exact lv_lshr hC.1 hC.2.1 hdg rfl h2
theorem s_lushr (hdg : decode M.2.1 pc = .ok (.lushr, 1)) (hk : rx_OK V M d (pc + 1) f) : rx_OK V M d pc (o_bs (fun x y => (x.toUInt64 >>> (y.toInt64.toUInt64 &&& Int64.toUInt64 63)).toInt64) f) := by
  refine rx_pure fun lv st h r h' hf => ?_
  match st, hf with
  | [], hf => cases hf
  | [_], hf => cases hf
  | y :: x :: st, hf =>
  simp only [o_bs, rx_f_eq] at hf
  obtain ⟨hc, hf⟩ := rx_bifn hf
  obtain ⟨hy, hx⟩ := Bool.and_eq_true_iff.mp hc
  refine ⟨pc + 1, f, lv, _, hk, hf, fun p l e R s m args below meth c hC hE H locs ls cells slots Q hW hF hL kk => ?_⟩
  have h2 := kk ls hL
  rw [List.map_cons, rx_v_el] at h2
  rw [List.map_cons, List.map_cons, rx_v_0 (rx_beq hy), rx_v_1 (rx_beq hx)]
  exact lv_lushr hC.1 hC.2.1 hdg rfl h2
theorem s_lcmp (hdg : decode M.2.1 pc = .ok (.lcmp, 1)) (hk : rx_OK V M d (pc + 1) f) : rx_OK V M d pc (o_bc (fun x y => lg_cmp x y) f) := by
  refine rx_pure fun lv st h r h' hf => ?_
  match st, hf with
  | [], hf => cases hf
  | [_], hf => cases hf
  | y :: x :: st, hf =>
  simp only [o_bc, rx_f_eq] at hf
  obtain ⟨hc, hf⟩ := rx_bifn hf
  obtain ⟨hy, hx⟩ := Bool.and_eq_true_iff.mp hc
  refine ⟨pc + 1, f, lv, _, hk, hf, fun p l e R s m args below meth c hC hE H locs ls cells slots Q hW hF hL kk => ?_⟩
  have h2 := kk ls hL
  rw [List.map_cons, rx_v_ei] at h2
  rw [List.map_cons, List.map_cons, rx_v_1 (rx_beq hy), rx_v_1 (rx_beq hx)]
  exact W.lcmp hC.1 hC.2.1 hdg h2
theorem s_ineg (hdg : decode M.2.1 pc = .ok (.ineg, 1)) (hk : rx_OK V M d (pc + 1) f) : rx_OK V M d pc (o_ui (fun x => -x) f) := by
  refine rx_pure fun lv st h r h' hf => ?_
  match st, hf with
  | [], hf => cases hf
  | x :: st, hf =>
  simp only [o_ui, rx_f_eq] at hf
  obtain ⟨hc, hf⟩ := rx_bifn hf
  refine ⟨pc + 1, f, lv, _, hk, hf, fun p l e R s m args below meth c hC hE H locs ls cells slots Q hW hF hL kk => ?_⟩
  have h2 := kk ls hL
  rw [List.map_cons, rx_v_ei] at h2
  rw [List.map_cons, rx_v_0 (rx_beq hc)]
  exact lv_ineg hC.1 hC.2.1 hdg h2
theorem s_i2b (hdg : decode M.2.1 pc = .ok (.i2b, 1)) (hk : rx_OK V M d (pc + 1) f) : rx_OK V M d pc (o_ui (fun x => x.toInt8.toInt32) f) := by
  refine rx_pure fun lv st h r h' hf => ?_
  match st, hf with
  | [], hf => cases hf
  | x :: st, hf =>
  simp only [o_ui, rx_f_eq] at hf
  obtain ⟨hc, hf⟩ := rx_bifn hf
  refine ⟨pc + 1, f, lv, _, hk, hf, fun p l e R s m args below meth c hC hE H locs ls cells slots Q hW hF hL kk => ?_⟩
  have h2 := kk ls hL
  rw [List.map_cons, rx_v_ei] at h2
  rw [List.map_cons, rx_v_0 (rx_beq hc)]
  exact lv_i2b hC.1 hC.2.1 hdg rfl h2
theorem s_i2c (hdg : decode M.2.1 pc = .ok (.i2c, 1)) (hk : rx_OK V M d (pc + 1) f) : rx_OK V M d pc (o_ui (fun x => (x.toUInt32 % 65536).toInt32) f) := by
  refine rx_pure fun lv st h r h' hf => ?_
  match st, hf with
  | [], hf => cases hf
  | x :: st, hf =>
  simp only [o_ui, rx_f_eq] at hf
  obtain ⟨hc, hf⟩ := rx_bifn hf
  refine ⟨pc + 1, f, lv, _, hk, hf, fun p l e R s m args below meth c hC hE H locs ls cells slots Q hW hF hL kk => ?_⟩
  have h2 := kk ls hL
  rw [List.map_cons, rx_v_ei] at h2
  rw [List.map_cons, rx_v_0 (rx_beq hc)]
  exact lv_i2c hC.1 hC.2.1 hdg rfl h2
theorem s_i2s (hdg : decode M.2.1 pc = .ok (.i2s, 1)) (hk : rx_OK V M d (pc + 1) f) : rx_OK V M d pc (o_ui (fun x => x.toInt16.toInt32) f) := by
  refine rx_pure fun lv st h r h' hf => ?_
  match st, hf with
  | [], hf => cases hf
  | x :: st, hf =>
  simp only [o_ui, rx_f_eq] at hf
  obtain ⟨hc, hf⟩ := rx_bifn hf
  refine ⟨pc + 1, f, lv, _, hk, hf, fun p l e R s m args below meth c hC hE H locs ls cells slots Q hW hF hL kk => ?_⟩
  have h2 := kk ls hL
  rw [List.map_cons, rx_v_ei] at h2
  rw [List.map_cons, rx_v_0 (rx_beq hc)]
  exact lv_i2s hC.1 hC.2.1 hdg rfl h2
theorem s_i2l (hdg : decode M.2.1 pc = .ok (.i2l, 1)) (hk : rx_OK V M d (pc + 1) f) : rx_OK V M d pc (o_il (fun x => x.toInt64) f) := by
  refine rx_pure fun lv st h r h' hf => ?_
  match st, hf with
  | [], hf => cases hf
  | x :: st, hf =>
  simp only [o_il, rx_f_eq] at hf
  obtain ⟨hc, hf⟩ := rx_bifn hf
  refine ⟨pc + 1, f, lv, _, hk, hf, fun p l e R s m args below meth c hC hE H locs ls cells slots Q hW hF hL kk => ?_⟩
  have h2 := kk ls hL
  rw [List.map_cons, rx_v_el] at h2
  rw [List.map_cons, rx_v_0 (rx_beq hc)]
  exact lv_i2l hC.1 hC.2.1 hdg rfl h2
theorem s_lneg (hdg : decode M.2.1 pc = .ok (.lneg, 1)) (hk : rx_OK V M d (pc + 1) f) : rx_OK V M d pc (o_ul (fun x => -x) f) := by
  refine rx_pure fun lv st h r h' hf => ?_
  match st, hf with
  | [], hf => cases hf
  | x :: st, hf =>
  simp only [o_ul, rx_f_eq] at hf
  obtain ⟨hc, hf⟩ := rx_bifn hf
  refine ⟨pc + 1, f, lv, _, hk, hf, fun p l e R s m args below meth c hC hE H locs ls cells slots Q hW hF hL kk => ?_⟩
  have h2 := kk ls hL
  rw [List.map_cons, rx_v_el] at h2
  rw [List.map_cons, rx_v_1 (rx_beq hc)]
  exact lv_lneg hC.1 hC.2.1 hdg h2
theorem s_l2i (hdg : decode M.2.1 pc = .ok (.l2i, 1)) (hk : rx_OK V M d (pc + 1) f) : rx_OK V M d pc (o_li (fun x => x.toInt32) f) := by
  refine rx_pure fun lv st h r h' hf => ?_
  match st, hf with
  | [], hf => cases hf
  | x :: st, hf =>
  simp only [o_li, rx_f_eq] at hf
  obtain ⟨hc, hf⟩ := rx_bifn hf
  refine ⟨pc + 1, f, lv, _, hk, hf, fun p l e R s m args below meth c hC hE H locs ls cells slots Q hW hF hL kk => ?_⟩
  have h2 := kk ls hL
  rw [List.map_cons, rx_v_ei] at h2
  rw [List.map_cons, rx_v_1 (rx_beq hc)]
  exact lv_l2i hC.1 hC.2.1 hdg rfl h2
-- >>> of a whole number from outside by a constant; then (byte), or & 255
noncomputable def o_iushrX (k : rx_K) : rx_K := fun lv st h => match st with
  | y :: x :: r => bif Nat.beq (x % 8) 4 && Nat.blt (x / 8) 5 then (bif Nat.beq (y % 8) 0 && Nat.blt (y / 8) 32 then rx_f (8 * (x / 8 + 5 * (y / 8)) + 5) fun v => k lv (v :: r) h else none) else o_bi (fun x y => (x.toUInt32 >>> (y.toUInt32 &&& Int32.toUInt32 31)).toInt32) k lv st h
  | _ => none
noncomputable def o_i2bX (k : rx_K) : rx_K := fun lv st h => match st with
  | x :: r => bif Nat.beq (x % 8) 5 && Nat.blt (x / 8) 160 then rx_f (x + 8 * 160) fun v => k lv (v :: r) h else o_ui (fun x => x.toInt8.toInt32) k lv st h
  | _ => none
noncomputable def o_iandX (k : rx_K) : rx_K := fun lv st h => match st with
  | y :: x :: r => bif Nat.beq y 2040 && (Nat.beq (x % 8) 5 && Nat.blt (x / 8) 160) then rx_f (x + 16 * 160) fun v => k lv (v :: r) h else o_bi (fun x y => x &&& y) k lv st h
  | _ => none
theorem s_iushrX (hV : rx_Ok V) (hdg : decode M.2.1 pc = .ok (.iushr, 1)) (hk : rx_OK V M d (pc + 1) f) : rx_OK V M d pc (o_iushrX f) := by
  refine rx_pure fun lv st h r h' hf => ?_
  match st, hf with
  | [], hf => cases hf
  | [_], hf => cases hf
  | y :: x :: st, hf =>
  simp only [o_iushrX, o_bi, rx_f_eq] at hf
  rcases rx_bif hf with ⟨hc, hf⟩ | ⟨-, hf⟩
  · obtain ⟨hx, hx5⟩ := Bool.and_eq_true_iff.mp hc
    obtain ⟨hd, hf⟩ := rx_bifn hf
    obtain ⟨hy, hy5⟩ := Bool.and_eq_true_iff.mp hd
    have h5 : x / 8 < 5 := Nat.le_of_ble_eq_true hx5
    have h32 : y / 8 < 32 := Nat.le_of_ble_eq_true hy5
    refine ⟨pc + 1, f, lv, _, hk, hf, fun p l e R s m args below meth c hC hE H locs ls cells slots Q hW hF hL kk => ?_⟩
    have h2 := kk ls hL
    obtain ⟨X, eX⟩ := hV.1 _ h5
    rw [List.map_cons, rx_v_5 (by omega), show (8 * (x / 8 + 5 * (y / 8)) + 5) / 8 = x / 8 + 5 * (y / 8) by omega] at h2
    have e1 : (x / 8 + 5 * (y / 8)) % 5 = x / 8 := by omega
    have e2 : (x / 8 + 5 * (y / 8)) / 5 % 32 = y / 8 := by omega
    have e3 : (x / 8 + 5 * (y / 8)) / 160 = 0 := by omega
    unfold rx_x at h2
    rw [e1, e2, if_pos e3, eX] at h2
    rw [List.map_cons, List.map_cons, rx_v_0 (rx_beq hy), rx_v_4 (rx_beq hx), eX]
    exact lv_iushr hC.1 hC.2.1 hdg rfl h2
  · obtain ⟨hc, hf⟩ := rx_bifn hf
    obtain ⟨hy, hx⟩ := Bool.and_eq_true_iff.mp hc
    refine ⟨pc + 1, f, lv, _, hk, hf, fun p l e R s m args below meth c hC hE H locs ls cells slots Q hW hF hL kk => ?_⟩
    have h2 := kk ls hL
    rw [List.map_cons, rx_v_ei] at h2
    rw [List.map_cons, List.map_cons, rx_v_0 (rx_beq hy), rx_v_0 (rx_beq hx)]
    exact lv_iushr hC.1 hC.2.1 hdg rfl h2
theorem s_i2bX (hdg : decode M.2.1 pc = .ok (.i2b, 1)) (hk : rx_OK V M d (pc + 1) f) : rx_OK V M d pc (o_i2bX f) := by
  refine rx_pure fun lv st h r h' hf => ?_
  match st, hf with
  | [], hf => cases hf
  | x :: st, hf =>
  simp only [o_i2bX, o_ui, rx_f_eq] at hf
  rcases rx_bif hf with ⟨hc, hf⟩ | ⟨-, hf⟩
  · obtain ⟨hx, hx5⟩ := Bool.and_eq_true_iff.mp hc
    have h5 : x / 8 < 160 := Nat.le_of_ble_eq_true hx5
    have e5 := rx_beq hx
    refine ⟨pc + 1, f, lv, _, hk, hf, fun p l e R s m args below meth c hC hE H locs ls cells slots Q hW hF hL kk => ?_⟩
    have h2 := kk ls hL
    rw [List.map_cons, rx_v_5 (by omega), show (x + 8 * 160) / 8 = x / 8 + 160 by omega] at h2
    unfold rx_x at h2
    rw [show (x / 8 + 160) % 5 = x / 8 % 5 by omega, show (x / 8 + 160) / 5 % 32 = x / 8 / 5 % 32 by omega, if_neg (by omega), if_pos (by omega)] at h2
    rw [List.map_cons, rx_v_5 e5]
    unfold rx_x
    rw [if_pos (by omega)]
    exact lv_i2b hC.1 hC.2.1 hdg rfl h2
  · obtain ⟨hc, hf⟩ := rx_bifn hf
    refine ⟨pc + 1, f, lv, _, hk, hf, fun p l e R s m args below meth c hC hE H locs ls cells slots Q hW hF hL kk => ?_⟩
    have h2 := kk ls hL
    rw [List.map_cons, rx_v_ei] at h2
    rw [List.map_cons, rx_v_0 (rx_beq hc)]
    exact lv_i2b hC.1 hC.2.1 hdg rfl h2
theorem s_iandX (hdg : decode M.2.1 pc = .ok (.iand, 1)) (hk : rx_OK V M d (pc + 1) f) : rx_OK V M d pc (o_iandX f) := by
  refine rx_pure fun lv st h r h' hf => ?_
  match st, hf with
  | [], hf => cases hf
  | [_], hf => cases hf
  | y :: x :: st, hf =>
  simp only [o_iandX, o_bi, rx_f_eq] at hf
  rcases rx_bif hf with ⟨hc, hf⟩ | ⟨-, hf⟩
  · obtain ⟨hy, hx⟩ := Bool.and_eq_true_iff.mp hc
    obtain ⟨hx, hx5⟩ := Bool.and_eq_true_iff.mp hx
    have h5 : x / 8 < 160 := Nat.le_of_ble_eq_true hx5
    have e5 := rx_beq hx
    have ey := rx_beq hy
    refine ⟨pc + 1, f, lv, _, hk, hf, fun p l e R s m args below meth c hC hE H locs ls cells slots Q hW hF hL kk => ?_⟩
    have h2 := kk ls hL
    rw [List.map_cons, rx_v_5 (by omega), show (x + 16 * 160) / 8 = x / 8 + 320 by omega] at h2
    unfold rx_x at h2
    rw [show (x / 8 + 320) % 5 = x / 8 % 5 by omega, show (x / 8 + 320) / 5 % 32 = x / 8 / 5 % 32 by omega, if_neg (by omega), if_neg (by omega)] at h2
    rw [List.map_cons, List.map_cons, ey, rx_v_5 e5, rx_v_0 (c := 2040) rfl]
    unfold rx_x
    rw [if_pos (by omega)]
    exact lv_iand hC.1 hC.2.1 hdg h2
  · obtain ⟨hc, hf⟩ := rx_bifn hf
    obtain ⟨hy, hx⟩ := Bool.and_eq_true_iff.mp hc
    refine ⟨pc + 1, f, lv, _, hk, hf, fun p l e R s m args below meth c hC hE H locs ls cells slots Q hW hF hL kk => ?_⟩
    have h2 := kk ls hL
    rw [List.map_cons, rx_v_ei] at h2
    rw [List.map_cons, List.map_cons, rx_v_0 (rx_beq hy), rx_v_0 (rx_beq hx)]
    exact lv_iand hC.1 hC.2.1 hdg h2
end RX13

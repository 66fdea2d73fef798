theorem dL_law_0 : decode cL_law 0 = .ok (.new 7, 3) := by decide +kernel
theorem dL_law_3 : decode cL_law 3 = .ok (.dup, 1) := by decide +kernel
theorem dL_law_4 : decode cL_law 4 = .ok (.invokespecial 9, 3) := by decide +kernel
theorem dL_law_7 : decode cL_law 7 = .ok (.astore_n 1, 1) := by decide +kernel
theorem dL_law_8 : decode cL_law 8 = .ok (.new 10, 3) := by decide +kernel
theorem dL_law_11 : decode cL_law 11 = .ok (.dup, 1) := by decide +kernel
theorem dL_law_12 : decode cL_law 12 = .ok (.invokespecial 12, 3) := by decide +kernel
theorem dL_law_15 : decode cL_law 15 = .ok (.astore_n 2, 1) := by decide +kernel
theorem zw434 {b : Nat} {e : Nat → Value} {D : va_G} {A : Nat → ClassId} {X : State → Prop} : Cond.classLink R_law 7 RX12 ∈ eW (zV b e D A X) := z_e (zT1 (List.mem_of_getElem? (i := 22) rfl)) rfl
theorem zw435 {b : Nat} {e : Nat → Value} {D : va_G} {A : Nat → ClassId} {X : State → Prop} : Cond.instantiable RX12 21 ∈ eW (zV b e D A X) := z_e (zT1 (List.mem_of_getElem? (i := 23) rfl)) rfl
theorem zw4104 {b : Nat} {e : Nat → Value} {D : va_G} {A : Nat → ClassId} {X : State → Prop} : Cond.classLink R_law 10 RX13 ∈ eW (zV b e D A X) := z_e (zT16 (List.mem_of_getElem? (i := 92) rfl)) rfl
theorem zw2908 {b : Nat} {e : Nat → Value} {D : va_G} {A : Nat → ClassId} {X : State → Prop} : Cond.instantiable RX13 180 ∈ eW (zV b e D A X) := z_e (zT11 (List.mem_of_getElem? (i := 96) rfl)) rfl
theorem zw437 {b : Nat} {e : Nat → Value} {D : va_G} {A : Nat → ClassId} {X : State → Prop} : Cond.instanceMethod yX12_init ∈ eW (zV b e D A X) := z_e (zT1 (List.mem_of_getElem? (i := 25) rfl)) rfl
theorem zw436 {b : Nat} {e : Nat → Value} {D : va_G} {A : Nat → ClassId} {X : State → Prop} : Cond.methodLink R_law 9 yX12_init ∈ eW (zV b e D A X) := z_e (zT1 (List.mem_of_getElem? (i := 24) rfl)) rfl
theorem zw4106 {b : Nat} {e : Nat → Value} {D : va_G} {A : Nat → ClassId} {X : State → Prop} : Cond.instanceMethod yX13_init ∈ eW (zV b e D A X) := z_e (zT16 (List.mem_of_getElem? (i := 94) rfl)) rfl
theorem zw4105 {b : Nat} {e : Nat → Value} {D : va_G} {A : Nat → ClassId} {X : State → Prop} : Cond.methodLink R_law 12 yX13_init ∈ eW (zV b e D A X) := z_e (zT16 (List.mem_of_getElem? (i := 93) rfl)) rfl
theorem rx_set_bind {α : Type} (l : List α) : ∀ {β : Type} (i : Nat) (x : α) (k : List α → Option β), rx_set l i x k = (rx_set l i x some).bind k := by
  induction l with
  | nil => intro β i x k; rfl
  | cons a t ih =>
    intro β i x k
    cases i with
    | zero => rfl
    | succ j =>
      show rx_set t j x (fun t' => k (a :: t')) = (rx_set t j x (fun t' => some (a :: t'))).bind k
      rw [ih j x (fun t' => k (a :: t')), ih j x (fun t' => some (a :: t')), Option.bind_assoc]
      rfl
theorem rx_s2_bind {β : Type} (l : List (List rx_E)) (i : Nat) (e : rx_E) (k : List (List rx_E) → Option β) : rx_s2 l i e k = (rx_s2 l i e some).bind k := by
  unfold rx_s2 rx_s1
  rw [rx_set_bind _ _ _ (fun x => rx_set l (Nat.div i 8) x k), rx_set_bind _ _ _ (fun x => rx_set l (Nat.div i 8) x some), Option.bind_assoc]
  congr 1
  funext x
  exact rx_set_bind _ _ _ _
theorem rx_s3_bind {β : Type} (l : List (List (List rx_E))) (i : Nat) (e : rx_E) (k : List (List (List rx_E)) → Option β) : rx_s3 l i e k = (rx_s3 l i e some).bind k := by
  unfold rx_s3
  rw [rx_s2_bind _ _ _ (fun x => rx_set l (Nat.div i 64) x k), rx_s2_bind _ _ _ (fun x => rx_set l (Nat.div i 64) x some), Option.bind_assoc]
  congr 1
  funext x
  exact rx_set_bind _ _ _ _
theorem rx_s4_bind {β : Type} (l : List (List (List (List rx_E)))) (i : Nat) (e : rx_E) (k : List (List (List (List rx_E))) → Option β) : rx_s4 l i e k = (rx_s4 l i e some).bind k := by
  unfold rx_s4
  rw [rx_s3_bind _ _ _ (fun x => rx_set l (Nat.div i 512) x k), rx_s3_bind _ _ _ (fun x => rx_set l (Nat.div i 512) x some), Option.bind_assoc]
  congr 1
  funext x
  exact rx_set_bind _ _ _ _
theorem rx_s5_bind {β : Type} (l : List (List (List (List (List rx_E))))) (i : Nat) (e : rx_E) (k : List (List (List (List (List rx_E)))) → Option β) : rx_s5 l i e k = (rx_s5 l i e some).bind k := by
  unfold rx_s5
  rw [rx_s4_bind _ _ _ (fun x => rx_set l (Nat.div i 4096) x k), rx_s4_bind _ _ _ (fun x => rx_set l (Nat.div i 4096) x some), Option.bind_assoc]
  congr 1
  funext x
  exact rx_set_bind _ _ _ _
theorem z_new {n z n' z' ci N : Nat} {iv : List (Int × Int)} {t t' : List (List (List (List (List rx_E))))} {fs : List (List Nat)} {lv st : List Nat} {k : rx_K} (ht : rx_s5 t n (0, ci, N, fs, []) some = some t') (hn : Nat.succ n = n') (hz : Nat.add z N = z') : q_new ci N fs k lv st (n, z, iv, t) = k lv ((8 * n + 2) :: st) (n', z', iv, t') := by
  unfold q_new rx_hp
  simp only [rx_f_eq]
  rw [rx_s5_bind, ht]
  subst hn
  subst hz
  rfl
theorem z_dup {v : Nat} {lv st : List Nat} {h : rx_H} {k : rx_K} (hv : v % 8 = 2) : q_dup k lv (v :: st) h = k lv (v :: v :: st) h := by
  show rx_if (Nat.beq (v % 8) 1) _ _ = _
  rw [hv]
  rfl
theorem z_callI {o r : Nat} {rest lv : List Nat} {h h1 : rx_H} {g : List Nat → rx_H → Option (Nat × rx_H)} {k : rx_K} (ho : o % 8 = 2) (hg : g [o] h = some (r, h1)) (hr : r % 8 = 7) (hc : Nat.ble (rx_cs rest) 8 = true) : o_callI 0 g k lv (o :: rest) h = k lv rest h1 := by
  show (bif Nat.beq (o % 8) 2 then rx_go g [o] rest lv h k else none) = _
  rw [ho]
  show rx_go g [o] rest lv h k = _
  unfold rx_go
  rw [hc, hg]
  simp only [rx_f_eq, hr]
  rfl
section ZLE
variable {b : Nat} {e : Nat → Value} {D : va_G} {A : Nat → ClassId} {X : State → Prop}
noncomputable def fL0 (sc : List Nat) : rx_K := q_new 12 21 zfs12 (q_dup (o_callI 0 fX12_g0 (q_st q_isR 1 (q_new 13 180 zfs13 (q_dup (o_callI 0 fX13_init (q_st q_isR 2 (vL sc))))))))
theorem okL0 {sc : List Nat} (hZ : zO b e D A X) (hS : zS b e D A X sc) : rx_OK (zV b e D A X) mL_law 1235 0 (fL0 sc) := by
  unfold fL0
  refine rx_by (e_new _ _ _ _) (s_new zcl12 zfk12 dL_law_0 zw434 zw435 zw413 ?_)
  refine rx_by (e_dup _) (s_dup hZ.1 dL_law_3 ?_)
  refine s_callI hZ.1 (met_X12_g0 hZ) (Nat.le_of_ble_eq_true rfl) zy_X12_init rfl rfl zw437 (Or.inl zw436) dL_law_4 ?_
  refine rx_by (e_stR _ _) (s_astore_n hZ.1 dL_law_7 rfl (Nat.le_of_ble_eq_true rfl) ?_)
  refine rx_by (e_new _ _ _ _) (s_new zcl13 zfk13 dL_law_8 zw4104 zw2908 zw431 ?_)
  refine rx_by (e_dup _) (s_dup hZ.1 dL_law_11 ?_)
  refine s_callI hZ.1 (met_X13_init hZ) (Nat.le_of_ble_eq_true rfl) zy_X13_init rfl rfl zw4106 (Or.inl zw4105) dL_law_12 ?_
  refine rx_by (e_stR _ _) (s_astore_n hZ.1 dL_law_15 rfl (Nat.le_of_ble_eq_true rfl) ?_)
  exact ok_vL hZ hS
end ZLE
noncomputable def zq_ot (t : List (List (List (List (List rx_E))))) (o : Option (List (List (List (List (List rx_E)))))) : Bool := match o with
  | some t' => zq_t t' t
  | none => false
theorem zq_ot_ok {t : List (List (List (List (List rx_E))))} {o : Option (List (List (List (List (List rx_E)))))} (h : zq_ot t o = true) : o = some t := by
  cases o with
  | none => cases h
  | some t' => rw [zq_t_ok _ _ h]
theorem zp1 : rx_s5 zt5 0 (0, 12, 21, zfs12, []) some = some zA := zq_ot_ok (by decide +kernel)
theorem zp2 : rx_s5 zB 16081 (0, 13, 180, zfs13, []) some = some zD := zq_ot_ok (by decide +kernel)
theorem zst1 (k : rx_K) (h : rx_H) : q_st q_isR 1 k [4004, 7, 7, 7] [2] h = k [4004, 2, 7, 7] [] h := rfl
theorem zst2 (k : rx_K) (h : rx_H) : q_st q_isR 2 k [4004, 2, 7, 7] [128650] h = k [4004, 2, 128650, 7] [] h := rfl
theorem zrun0 {sc : List Nat} {r : Nat × rx_H} (h : vL sc [4004, 2, 128650, 7] [] (16217, 2233841, [], zE) = some r) : fL0 sc [4004, 7, 7, 7] [] (0, 0, [], zt5) = some r := by
  unfold fL0
  rw [z_new zp1 rfl rfl, z_dup rfl, z_callI rfl zrunX rfl rfl, zst1, z_new zp2 rfl rfl, z_dup rfl, z_callI rfl zrunM rfl rfl, zst2]
  exact h

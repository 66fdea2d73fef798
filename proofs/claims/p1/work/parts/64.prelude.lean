noncomputable def zq_ot (t : List (List (List (List (List rx_E))))) (o : Option (List (List (List (List (List rx_E)))))) : Bool := match o with
  | some t' => zq_t t' t
  | none => false
theorem zq_ot_ok {t : List (List (List (List (List rx_E))))} {o : Option (List (List (List (List (List rx_E)))))} (h : zq_ot t o = true) : o = some t := by
  cases o with
  | none => cases h
  | some t' => rw [zq_t_ok _ _ h]
theorem zp1 : rx_s5 zt5 0 (0, 12, 21, zfs12, []) some = some zA := zq_ot_ok (by decide +kernel)
theorem zp2 : rx_s5 zB 16081 (0, 13, 180, zfs13, []) some = some zD := zq_ot_ok (by decide +kernel)
theorem zst1 (k : rx_K) (h : rx_H) : q_st q_isR 1 k [100, 7, 7, 7] [2] h = k [100, 2, 7, 7] [] h := rfl
theorem zst2 (k : rx_K) (h : rx_H) : q_st q_isR 2 k [100, 2, 7, 7] [128650] h = k [100, 2, 128650, 7] [] h := rfl
theorem zknow (iv : List (Int × Int)) (k : rx_K) (lv st : List Nat) (n z : Nat) (t : List (List (List (List (List rx_E))))) : o_know iv k lv st (n, z, [], t) = k lv st (n, z, iv, t) := rfl
theorem zrun0 {iv : List (Int × Int)} {sc : List Nat} {w L : Nat} {r : Nat × rx_H} (h : fL sc w L [100, 2, 128650, 7] [] (16217, 2233841, iv, zE) = some r) : fL0 iv sc w L [100, 7, 7, 7] [] (0, 0, [], zt5) = some r := by
  unfold fL0
  rw [z_new zp1 rfl rfl, z_dup rfl, z_callI rfl zrunX rfl rfl, zst1, z_new zp2 rfl rfl, z_dup rfl, z_callI rfl zrunM rfl rfl, zst2, zknow]
  exact h

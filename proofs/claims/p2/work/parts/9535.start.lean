section ST
theorem ckC_all (c : Nat) (hc : c < 16217) : ckC c = true := by
  have h : c / 1024 < 16 := by omega
  have h2 : 1024 * (c / 1024) ≤ c := by omega
  have h3 : c < 1024 * (c / 1024) + 2 ^ 10 := by omega
  rcases (show c / 1024 = 0 ∨ c / 1024 = 1 ∨ c / 1024 = 2 ∨ c / 1024 = 3 ∨ c / 1024 = 4 ∨ c / 1024 = 5 ∨ c / 1024 = 6 ∨ c / 1024 = 7 ∨ c / 1024 = 8 ∨ c / 1024 = 9 ∨ c / 1024 = 10 ∨ c / 1024 = 11 ∨ c / 1024 = 12 ∨ c / 1024 = 13 ∨ c / 1024 = 14 ∨ c / 1024 = 15 by omega) with e | e | e | e | e | e | e | e | e | e | e | e | e | e | e | e <;> rw [e] at h2 h3
  · exact allB_ok ckC_0 c h2 h3
  · exact allB_ok ckC_1 c h2 h3
  · exact allB_ok ckC_2 c h2 h3
  · exact allB_ok ckC_3 c h2 h3
  · exact allB_ok ckC_4 c h2 h3
  · exact allB_ok ckC_5 c h2 h3
  · exact allB_ok ckC_6 c h2 h3
  · exact allB_ok ckC_7 c h2 h3
  · exact allB_ok ckC_8 c h2 h3
  · exact allB_ok ckC_9 c h2 h3
  · exact allB_ok ckC_10 c h2 h3
  · exact allB_ok ckC_11 c h2 h3
  · exact allB_ok ckC_12 c h2 h3
  · exact allB_ok ckC_13 c h2 h3
  · exact allB_ok ckC_14 c h2 h3
  · exact allB_ok ckC_15 c h2 h3
noncomputable def zh0 : rx_H := (16217, 2233841, [], zE)
def dec (t v : Nat) : Int := if t = 1 then (rx_dl v).toInt else if t < 10 then (rx_di v).toInt else if v % 8 = 2 then (v / 8 : Nat) else -1
noncomputable def zG0 : gS := fun c j => if c < 0 ∨ j < 0 then 0 else dec (gty (k0 c.toNat) j.toNat) (hv zh0 c.toNat j.toNat)
theorem zG0_at (c j : Nat) : zG0 c j = dec (gty (k0 c) j) (hv zh0 c j) := by
  unfold zG0
  rw [if_neg (by omega), Int.toNat_natCast, Int.toNat_natCast]
theorem dec_enc {t v : Nat} (h : okv t v = true) : enc t (dec t v) = v := by
  unfold okv at h
  unfold enc dec
  by_cases t1 : t = 1
  · subst t1
    rw [if_pos rfl, if_pos rfl]
    have h' : (Nat.beq (v % 8) 1 && Nat.blt (v / 8) 18446744073709551616) = true := h
    obtain ⟨h1, h2⟩ := Bool.and_eq_true_iff.mp h'
    have e1 := rx_beq h1
    have e2 : v / 8 < 18446744073709551616 := Nat.le_of_ble_eq_true h2
    rw [← eL]
    unfold rx_el rx_dl
    show 8 * (BitVec.ofNat 64 (v / 8)).toNat + 1 = v
    rw [BitVec.toNat_ofNat]; omega
  · have b1 : Nat.beq t 1 = false := by rw [Bool.eq_false_iff]; exact fun q => t1 (rx_beq q)
    rw [b1, cond_false] at h
    rw [if_neg t1, if_neg t1]
    by_cases t10 : t < 4
    · rw [if_pos (by omega), if_pos (by omega)]
      rw [show Nat.blt t 4 = true from Nat.ble_eq_true_of_le t10, cond_true] at h
      obtain ⟨h1, h2⟩ := Bool.and_eq_true_iff.mp h
      have e1 := rx_beq h1
      have e2 : v / 8 < 4294967296 := by
        revert h2
        cases Nat.beq t 2 with
        | true => intro h2; have : v / 8 < 128 := Nat.le_of_ble_eq_true h2; omega
        | false =>
          cases Nat.beq t 3 with
          | true => intro h2; have : v / 8 < 2 := Nat.le_of_ble_eq_true h2; omega
          | false => intro h2; exact Nat.le_of_ble_eq_true h2
      rw [← eI]
      unfold rx_ei rx_di
      show 8 * (BitVec.ofNat 32 (v / 8)).toNat = v
      rw [BitVec.toNat_ofNat]; omega
    · rw [show Nat.blt t 4 = false by rw [Bool.eq_false_iff]; exact fun q => t10 (Nat.le_of_ble_eq_true q), cond_false] at h
      obtain ⟨h10, h⟩ := Bool.and_eq_true_iff.mp h
      have h10 := Nat.le_of_ble_eq_true h10
      rw [if_neg (by omega), if_neg (by omega)]
      by_cases v3 : v = 3
      · subst v3; rfl
      · rw [show Nat.beq v 3 = false by rw [Bool.eq_false_iff]; exact fun q => v3 (rx_beq q), cond_false] at h
        obtain ⟨h1, -⟩ := Bool.and_eq_true_iff.mp h
        have e1 := rx_beq h1
        rw [if_pos e1]
        unfold rf
        rw [if_neg (by omega), Int.toNat_natCast]; omega
theorem dec_ok {t v : Nat} (h : okv t v = true) : okG W0 t (dec t v) := by
  unfold okv at h
  unfold okG dec
  by_cases t1 : t = 1
  · subst t1
    rw [if_neg (by decide), if_pos rfl, if_pos rfl]
    exact in_xL _
  · have b1 : Nat.beq t 1 = false := by rw [Bool.eq_false_iff]; exact fun q => t1 (rx_beq q)
    rw [b1, cond_false] at h
    rw [if_neg t1, if_neg t1]
    by_cases t10 : t < 4
    · rw [if_pos (show t < 10 by omega)]
      rw [show Nat.blt t 4 = true from Nat.ble_eq_true_of_le t10, cond_true] at h
      obtain ⟨h1, h2⟩ := Bool.and_eq_true_iff.mp h
      by_cases t0 : t = 0
      · rw [if_pos t0]; exact in_x _
      · rw [if_neg t0]
        have dv : ∀ m, v / 8 < m → m ≤ 2147483648 → (rx_di v).toInt = (v / 8 : Nat) := fun m hm hm2 => by
          unfold rx_di
          exact Int32.toInt_ofNat_of_lt (by omega)
        by_cases t2 : t = 2
        · subst t2
          rw [if_pos rfl]
          have : v / 8 < 128 := Nat.le_of_ble_eq_true h2
          rw [dv 128 this (by omega)]; omega
        · rw [if_neg t2]
          rw [show Nat.beq t 2 = false by rw [Bool.eq_false_iff]; exact fun q => t2 (rx_beq q), cond_false] at h2
          by_cases t3 : t = 3
          · subst t3
            rw [if_pos rfl]
            have : v / 8 < 2 := Nat.le_of_ble_eq_true h2
            rw [dv 2 this (by omega)]; omega
          · rw [if_neg t3]
            omega
    · rw [show Nat.blt t 4 = false by rw [Bool.eq_false_iff]; exact fun q => t10 (Nat.le_of_ble_eq_true q), cond_false] at h
      obtain ⟨h10, h⟩ := Bool.and_eq_true_iff.mp h
      have h10 := Nat.le_of_ble_eq_true h10
      rw [if_neg (by omega), if_neg (by omega), if_neg (by omega), if_neg (show ¬ t < 10 by omega)]
      by_cases v3 : v = 3
      · subst v3
        rw [show (if 3 % 8 = 2 then ((3 / 8 : Nat) : Int) else -1) = -1 from rfl]
        split <;> exact Or.inl rfl
      · rw [show Nat.beq v 3 = false by rw [Bool.eq_false_iff]; exact fun q => v3 (rx_beq q), cond_false] at h
        obtain ⟨h1, h2⟩ := Bool.and_eq_true_iff.mp h
        obtain ⟨h2, h3⟩ := Bool.and_eq_true_iff.mp h2
        have h2 : v / 8 < 16217 := Nat.le_of_ble_eq_true h2
        rw [if_pos (rx_beq h1)]
        unfold okr at h3
        by_cases t30 : t < 30
        · rw [show Nat.blt t 30 = true from Nat.ble_eq_true_of_le t30, cond_true] at h3
          rw [if_pos t30]
          exact Or.inr ⟨by omega, by rw [Int.toNat_natCast]; exact h2, by rw [Int.toNat_natCast]; exact k3_ok h3⟩
        · rw [show Nat.blt t 30 = false by rw [Bool.eq_false_iff]; exact fun q => t30 (Nat.le_of_ble_eq_true q), cond_false] at h3
          rw [if_neg t30]
          obtain ⟨h4, h5⟩ := Bool.and_eq_true_iff.mp h3
          refine Or.inr ⟨((k0 (v / 8)).2.2 : Nat), by omega, by rw [Int.toNat_natCast]; exact h2, (k0 (v / 8)).2.2, rfl, ?_⟩
          rw [Int.toNat_natCast]
          show k0 (v / 8) = _
          have e4 := rx_beq h4
          have e5 := rx_beq h5
          generalize k0 (v / 8) = K at e4 e5
          obtain ⟨a, b, c⟩ := K
          dsimp only at e4 e5
          rw [e4, e5]
-- what the cells' run gives
theorem lk_ok {t d j : Nat} (h3 : okv (aT t) d = true) : ∀ {us : List (Nat × Nat)}, us.all (fun q => okv (aT t) q.2) = true → okv (aT t) (rx_lk d us j) = true
  | [], _ => h3
  | (x, y) :: us, h => by
    have h6 := List.all_eq_true.mp h
    rw [rx_lk_cons]
    split
    · exact h6 (x, y) List.mem_cons_self
    · exact lk_ok h3 (List.all_eq_true.mpr fun w hw => h6 w (List.mem_cons_of_mem _ hw))
theorem cell_ok (c : Nat) (hc : c < 16217) : WFc (k0 c) (rx_hg zh0 c) ∧ (∀ j, j < (k0 c).2.2 → okv (gty (k0 c) j) (hv zh0 c j) = true) ∧ (f0 c).length ≤ (k0 c).2.2 ∧ ∀ j, j < (k0 c).2.2 → finv c j (hv zh0 c j) = true := by
  have h := ckC_all c hc
  unfold ckC at h
  rw [show Nat.blt c 16217 = true from Nat.ble_eq_true_of_le hc, cond_true] at h
  have e1 : rx_hg zh0 c = rx_g5 zE c := rfl
  unfold hv WFc
  rw [e1]
  generalize rx_g5 zE c = e at h
  obtain ⟨z, a, n, fs, us⟩ := e
  cases z with
  | zero =>
    obtain ⟨h1, h⟩ := Bool.and_eq_true_iff.mp h
    obtain ⟨h2, h⟩ := Bool.and_eq_true_iff.mp h
    obtain ⟨h3, h⟩ := Bool.and_eq_true_iff.mp h
    have h1 := k3_ok h1
    rw [h1]
    have h4 : ∀ j, j < n → (okv (fT a j) (rx_fg fs j) = true ∧ finv c j (rx_fg fs j) = true) ∧ j / 16 < fs.length ∧ j % 16 < (rx_get [] fs (j / 16)).length := fun j hj => by
      have h5 := allN_ok h j hj
      obtain ⟨h6, h5⟩ := Bool.and_eq_true_iff.mp h5
      obtain ⟨h7, h5⟩ := Bool.and_eq_true_iff.mp h5
      obtain ⟨h8, h9⟩ := Bool.and_eq_true_iff.mp h5
      exact ⟨⟨h6, h7⟩, Nat.le_of_ble_eq_true h8, Nat.le_of_ble_eq_true h9⟩
    exact ⟨⟨rfl, fun k hk => (h4 k hk).2⟩, fun j hj => (h4 j hj).1.1, Nat.le_of_ble_eq_true h3, fun j hj => (h4 j hj).1.2⟩
  | succ t =>
    obtain ⟨h1, h⟩ := Bool.and_eq_true_iff.mp h
    obtain ⟨h2, h⟩ := Bool.and_eq_true_iff.mp h
    obtain ⟨h3, h⟩ := Bool.and_eq_true_iff.mp h
    obtain ⟨h4, h⟩ := Bool.and_eq_true_iff.mp h
    obtain ⟨h5, h⟩ := Bool.and_eq_true_iff.mp h
    have h1 := k3_ok h1
    rw [h1]
    refine ⟨⟨rfl, Nat.le_of_ble_eq_true h2⟩, fun j hj => ?_, Nat.le_of_ble_eq_true h5, fun j hj => ?_⟩
    · exact lk_ok h3 h4
    · show finv c j (rx_lk (rx_fg fs 0) us j) = true
      by_cases q : (f0 c).isEmpty = true
      · unfold finv
        rw [List.isEmpty_iff.mp q]; rfl
      · rw [Bool.not_eq_true] at q
        rw [q, cond_false] at h
        exact allN_ok h j hj
theorem start_EN : EN W0 (hv zh0) zG0 := fun c j hc hj => by
  rw [zG0_at]
  exact (dec_enc ((cell_ok c hc).2.1 j hj)).symm
theorem f0_end {c : Nat} (h : 16217 ≤ c) : f0 c = [] := by
  unfold f0
  rw [if_neg (by omega), if_neg (by omega)]
  have h5 : (c - 16081) / 32 = 4 ∧ 8 ≤ (c - 16081) % 32 ∨ 5 ≤ (c - 16081) / 32 := by omega
  rcases h5 with ⟨e, h6⟩ | h6
  · rw [e]
    obtain ⟨r, hr⟩ : ∃ r, (c - 16081) % 32 = r + 8 := ⟨(c - 16081) % 32 - 8, by omega⟩
    rw [hr]; rfl
  · obtain ⟨r, hr⟩ : ∃ r, (c - 16081) / 32 = r + 5 := ⟨(c - 16081) / 32 - 5, by omega⟩
    rw [hr]; rfl
theorem nth_len {l : List Nat} {j v : Nat} (h : rx_nth l j 0 = v + 1) : j < l.length := by
  rw [rx_nth_eq] at h
  refine Nat.lt_of_not_le fun q => ?_
  rw [List.getElem?_eq_none q] at h
  cases h
theorem start_TY : TY W0 zG0 := by
  refine ⟨fun c j hc hj => ?_, fun c j v h => ?_⟩
  · rw [zG0_at]
    exact dec_ok ((cell_ok c hc).2.1 j hj)
  · have h : zfin c j = some v := h
    unfold zfin at h
    split at h
    · cases h
    · next hn =>
      have hc0 : ((c.toNat : Nat) : Int) = c := Int.toNat_of_nonneg (by omega)
      have hj0 : ((j.toNat : Nat) : Int) = j := Int.toNat_of_nonneg (by omega)
      cases e : rx_nth (f0 c.toNat) j.toNat 0 with
      | zero => rw [e] at h; cases h
      | succ w =>
        rw [e] at h
        cases h
        have hl := nth_len e
        have hc : c.toNat < 16217 := Nat.lt_of_not_le fun q => by rw [f0_end q] at hl; cases hl
        obtain ⟨-, h2, h3, h4⟩ := cell_ok c.toNat hc
        have h5 := h4 j.toNat (by omega)
        have h6 := h2 j.toNat (by omega)
        unfold finv at h5
        rw [e] at h5
        have h7 : hv zh0 c.toNat j.toNat = 8 * w + 2 := rx_beq h5
        rw [← hc0, ← hj0, zG0_at, h7]
        rw [h7] at h6
        unfold okv at h6
        unfold dec
        by_cases t1 : gty (k0 c.toNat) j.toNat = 1
        · rw [t1] at h6
          have h8 : (Nat.beq ((8 * w + 2) % 8) 1 && Nat.blt ((8 * w + 2) / 8) 18446744073709551616) = true := h6
          have h9 := rx_beq (Bool.and_eq_true_iff.mp h8).1
          omega
        · rw [show Nat.beq (gty (k0 c.toNat) j.toNat) 1 = false by rw [Bool.eq_false_iff]; exact fun q => t1 (rx_beq q), cond_false] at h6
          by_cases t4 : gty (k0 c.toNat) j.toNat < 4
          · rw [show Nat.blt (gty (k0 c.toNat) j.toNat) 4 = true from Nat.ble_eq_true_of_le t4, cond_true] at h6
            have h9 := rx_beq (Bool.and_eq_true_iff.mp h6).1
            omega
          · rw [show Nat.blt (gty (k0 c.toNat) j.toNat) 4 = false by rw [Bool.eq_false_iff]; exact fun q => t4 (Nat.le_of_ble_eq_true q), cond_false] at h6
            have h9 := Nat.le_of_ble_eq_true (Bool.and_eq_true_iff.mp h6).1
            rw [if_neg t1, if_neg (by omega), if_pos (by omega)]
            omega
-- the shape of the tree
noncomputable def ck1 (l : List rx_E) : Bool := Nat.beq l.length 8
noncomputable def ck2 (l : List (List rx_E)) : Bool := Nat.beq l.length 8 && l.all ck1
noncomputable def ck3 (l : List (List (List rx_E))) : Bool := Nat.beq l.length 8 && l.all ck2
noncomputable def ck4 (l : List (List (List (List rx_E)))) : Bool := Nat.beq l.length 8 && l.all ck3
noncomputable def ck5 (l : List (List (List (List (List rx_E))))) : Bool := Nat.beq l.length 4 && l.all ck4
theorem ck5_zE : ck5 zE = true := by decide +kernel
theorem ck2_ok {l : List (List rx_E)} (h : ck2 l = true) : rf2 l := ⟨rx_beq (Bool.and_eq_true_iff.mp h).1, fun x hx => rx_beq (List.all_eq_true.mp (Bool.and_eq_true_iff.mp h).2 x hx)⟩
theorem ck3_ok {l : List (List (List rx_E))} (h : ck3 l = true) : rf3 l := ⟨rx_beq (Bool.and_eq_true_iff.mp h).1, fun x hx => ck2_ok (List.all_eq_true.mp (Bool.and_eq_true_iff.mp h).2 x hx)⟩
theorem ck4_ok {l : List (List (List (List rx_E)))} (h : ck4 l = true) : rf4 l := ⟨rx_beq (Bool.and_eq_true_iff.mp h).1, fun x hx => ck3_ok (List.all_eq_true.mp (Bool.and_eq_true_iff.mp h).2 x hx)⟩
theorem ck5_ok {l : List (List (List (List (List rx_E))))} (h : ck5 l = true) : rf5 4 l := ⟨rx_beq (Bool.and_eq_true_iff.mp h).1, fun x hx => ck4_ok (List.all_eq_true.mp (Bool.and_eq_true_iff.mp h).2 x hx)⟩
theorem start_WF : WF W0.1 zh0 := ⟨rfl, rfl, ck5_ok ck5_zE, Nat.le_of_ble_eq_true rfl, fun c hc => (cell_ok c hc).1⟩
end ST

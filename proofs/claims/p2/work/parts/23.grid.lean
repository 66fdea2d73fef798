section RX23
variable {V : rx_V} {M : rx_M} {d pc : Nat} {f t : rx_K}
-- an array of arrays is made
noncomputable def rx_mu {β : Type} (b m : Nat) (us : List (Nat × Nat)) (k : List (Nat × Nat) → Option β) : Option β :=
  Nat.rec (motive := fun _ => List (Nat × Nat) → Option β) (fun us => k us) (fun m ih us => rx_f (8 * (b + 1 + m) + 2) fun c => ih ((m, c) :: us)) m us
theorem rx_mu_some {β : Type} {b : Nat} {k : List (Nat × Nat) → Option β} {r : β} (dv : Nat) : ∀ (m : Nat) (us : List (Nat × Nat)), rx_mu b m us k = some r → ∃ us', k us' = some r ∧ ∀ j, rx_lk dv us' j = if j < m then 8 * (b + 1 + j) + 2 else rx_lk dv us j
  | 0, us, h => ⟨us, h, fun j => by rw [if_neg (Nat.not_lt_zero _)]⟩
  | m + 1, us, h => by
    have h : (rx_f (8 * (b + 1 + m) + 2) fun c => rx_mu b m ((m, c) :: us) k) = some r := h
    simp only [rx_f_eq] at h
    obtain ⟨us', h2, h3⟩ := rx_mu_some dv m _ h
    refine ⟨us', h2, fun j => ?_⟩
    rw [h3 j, rx_lk_cons]
    by_cases q : j < m
    · rw [if_pos q, if_pos (by omega)]
    · rw [if_neg q]
      by_cases e : j = m
      · rw [if_pos e, if_pos (by omega), e]
      · rw [if_neg e, if_neg (by omega)]
noncomputable def rx_mp {β : Type} (e : rx_E) (m : Nat) (h : rx_H) (k : rx_H → Option β) : Option β :=
  Nat.rec (motive := fun _ => rx_H → Option β) (fun h => k h) (fun _ ih h => rx_hp h e ih) m h
theorem rx_mp_some {β : Type} {e : rx_E} {k : rx_H → Option β} {r : β} : ∀ (m : Nat) (h : rx_H), rx_mp e m h k = some r → ∃ h', k h' = some r ∧ h'.1 = h.1 + m ∧ h'.2.1 = h.2.1 + m * e.2.2.1 ∧ h'.2.2.1 = h.2.2.1 ∧ ∀ j, rx_hg h' j = if h.1 ≤ j ∧ j < h.1 + m then e else rx_hg h j
  | 0, h, hf => ⟨h, hf, rfl, by omega, rfl, fun j => by rw [if_neg (by omega)]⟩
  | m + 1, h, hf => by
    have hf : rx_hp h e (fun h' => rx_mp e m h' k) = some r := hf
    obtain ⟨h1, hf, e1, e2, e3, eg⟩ := rx_hp_some hf
    obtain ⟨h', g0, g1, g2, g3, g4⟩ := rx_mp_some m h1 hf
    refine ⟨h', g0, by omega, by rw [g2, e2, Nat.succ_mul]; omega, g3.trans e3, fun j => ?_⟩
    rw [g4 j, eg j, e1]
    by_cases q : h.1 + 1 ≤ j ∧ j < h.1 + 1 + m
    · rw [if_pos q, if_pos ⟨by omega, by omega⟩]
    · rw [if_neg q]
      by_cases e : j = h.1
      · rw [if_pos e, if_pos ⟨by omega, by omega⟩]
      · rw [if_neg e, if_neg (by omega)]
noncomputable def o_mna (to ti dc : Nat) (k : rx_K) : rx_K := fun lv st h => match st with
  | b :: a :: r => bif Nat.beq (a % 8) 0 && (Nat.beq (b % 8) 0 && (Nat.blt (a / 8) 1000000 && Nat.blt (b / 8) 1000000)) then rx_f (a / 8) fun N => rx_f (b / 8) fun K => rx_f h.1 fun z => rx_mu z N [] fun us => rx_hp h (to + 1, N, N, [[3]], us) fun h1 => rx_mp (ti + 1, K, K, [[dc]], []) N h1 fun h2 => rx_f (8 * z + 2) fun v => k lv (v :: r) h2 else none
  | _ => none
theorem rx_outer (c : ClassId) (N b : Nat) : ∀ i : Nat, Jvm.Free.Multi.outerC c N b i = arrV c N (fun j => if j < i then .ref (b + 1 + j) else .null)
  | 0 => by
    have h := arrV_new c N .null
    refine h.trans (congrArg (arrV c N) (funext fun j => ?_))
    rw [if_neg (Nat.not_lt_zero j)]
  | i + 1 => by
    show (Jvm.Free.Multi.outerC c N b i).setSlot i (.ref (b + 1 + i)) = _
    rw [rx_outer c N b i, arrV_store]
    refine congrArg (arrV c N) (funext fun j => ?_)
    unfold updV
    by_cases h : j = i
    · subst h; simp
    · rw [if_neg h]
      show (if j < i then Value.ref (b + 1 + j) else Value.null) = _
      by_cases q : j < i
      · rw [if_pos q, if_pos (by omega)]
      · rw [if_neg q, if_neg (by omega)]
theorem s_mna {to ti dc index : Nat} {ty : FieldType} (hto : (eT V)[to]? = some (.array ty)) (hti : (eT V)[ti]? = some ty) (hr : ty.isReference = false) (hts0 : (FieldType.array ty).toString = "[" ++ ty.toString) (hd : rx_dfok ty = true) (hdc : rx_df ty = dc) (hcb : componentBytes ty ≤ 8) (hdf : fits ty (defaultValue ty) = true) (hdd : (defaultValue ty).isDefault = true) (hX : ∀ s, eX V s → ∀ args, (Cond.arrayOver (.array ty)).before args s = true) (hw1 : Cond.classLink M.1 index ("[" ++ (FieldType.array ty).toString) ∈ eW V) (hw2 : Cond.arrayClass ty ∈ eW V) (hdg : decode M.2.1 pc = .ok (.multianewarray index 2, 4)) (hk : rx_OK V M d (pc + 4) f) : rx_OK V M d pc (o_mna to ti dc f) := by
  refine rx_heap fun lv st h r h' hf => ?_
  match st, hf with
  | [], hf => cases hf
  | [_], hf => cases hf
  | b :: a :: st, hf =>
  simp only [o_mna, rx_f_eq] at hf
  obtain ⟨hc, hf⟩ := rx_bifn hf
  obtain ⟨ha, hc⟩ := Bool.and_eq_true_iff.mp hc
  obtain ⟨hb, hc⟩ := Bool.and_eq_true_iff.mp hc
  obtain ⟨hN, hK⟩ := Bool.and_eq_true_iff.mp hc
  have hN : a / 8 < 1000000 := Nat.le_of_ble_eq_true hN
  have hK : b / 8 < 1000000 := Nat.le_of_ble_eq_true hK
  obtain ⟨us, hf, hus⟩ := rx_mu_some 3 _ _ hf
  obtain ⟨h1, hf, e1, e2, e3, eg⟩ := rx_hp_some hf
  obtain ⟨h2, hf, g1, g2, g3, gg⟩ := rx_mp_some _ _ hf
  dsimp only at e2 g2
  refine ⟨pc + 4, f, lv, _, h2, hk, hf, by omega, by omega, fun p l e R s m args below meth c hC hE n0 z0 hn0 hz0 hR1 hR2 hR3 hR4 H locs ls Q hW hF hL kk => ?_⟩
  have hts := hC.2.2.2.2.2.2.1
  have clamp : ∀ z, z / 8 < 1000000 → ¬ rx_di z < 0 ∧ (rx_di z).toNatClampNeg = z / 8 := fun z hz => ⟨nI_pos (n := z / 8) (by omega), nI_clamp (n := z / 8) (by omega)⟩
  obtain ⟨a1, a2⟩ := clamp a hN
  obtain ⟨b1, b2⟩ := clamp b hK
  rw [List.map_cons, List.map_cons, rx_v_0 (rx_beq ha), rx_v_0 (rx_beq hb)]
  intro T hT X
  have hb8 : b / 8 * componentBytes ty ≤ b / 8 * 8 := Nat.mul_le_mul_left _ hcb
  obtain ⟨vm₁, cA, comp, -, fA, fC, hO, hI, X', step⟩ := X.multianewarray2F hC.1 hC.2.2.2.2.2.1 (hts _ hw1) (hX s hE.2.1 args) (hts _ hw2) (g := F0 m pc ls (.int (rx_di b) :: .int (rx_di a) :: st.map (rx_v V))) rfl (by rw [hC.2.1]; exact hdg) rfl a1 b1 (by rw [a2]; omega) (by rw [b2]; omega) (by rw [b2]; omega) hdf hdd (by rw [a2]; omega) (by rw [a2, b2]; omega)
  rw [a2, b2] at X' step
  have ecA : cA = eA V to := Option.some.inj (fA.symm.trans (rx_ty hE hto).2)
  have ecB : comp = eA V ti := rx_RAp hr (rx_ty hE hti).2 (by rw [← hts0]; exact fC)
  subst ecA
  subst ecB
  generalize hFF : Jvm.Free.Multi.fill (T.setVm vm₁) (eA V to) (eA V ti) (a / 8) (b / 8) (defaultValue ty) (a / 8) = FF at X' step
  have hTh : (T.setVm vm₁).heap = H := hT
  obtain ⟨f1, f2, -, -⟩ := Jvm.Free.Multi.fill_facts (T.setVm vm₁) (eA V to) (eA V ti) (a / 8) (b / 8) (defaultValue ty) (a / 8)
  rw [hFF, hTh] at f1 f2
  rw [rx_outer] at f2
  have hold : ∀ x : Nat, x < H.size → FF.heap[x]? = H[x]? := fun x hx => by
    have := Jvm.Free.Multi.fill_old (T.setVm vm₁) (eA V to) (eA V ti) (a / 8) (b / 8) (defaultValue ty) (a := x) (by rw [hTh]; exact hx) (a / 8)
    rw [hFF, hTh] at this
    exact this
  have hrow : ∀ j : Nat, j < a / 8 → FF.heap[H.size + 1 + j]? = some (arrV (eA V ti) (b / 8) (fun _ => defaultValue ty)) := fun j hj => by
    have := Jvm.Free.Multi.fill_inner (T.setVm vm₁) (eA V to) (eA V ti) (a / 8) (b / 8) (defaultValue ty) (a / 8) j hj
    rw [hFF, hTh] at this
    rw [this]
    exact congrArg some (arrV_new _ _ _)
  have hbH : eb V ≤ H.size := by rw [hW.1]; omega
  have hW2 : rx_w V h2 FF.heap := by
    refine ⟨by rw [f1, g1, e1, hW.1]; omega, fun i hi => ?_, by rw [g3, e3]; exact hW.2.2⟩
    rw [gg i]
    by_cases q : h1.1 ≤ i ∧ i < h1.1 + a / 8
    · rw [if_pos q]
      show FF.heap[eb V + i]? = some (arrV (eA V ti) (b / 8) (fun j => rx_v V dc))
      have h9 := hrow (i - h1.1) (by omega)
      rw [show H.size + 1 + (i - h1.1) = eb V + i by rw [hW.1]; omega] at h9
      rw [h9, ← hdc, rx_df_v hd]
    · rw [if_neg q, eg i]
      by_cases q2 : i = h.1
      · rw [if_pos q2, q2]
        show FF.heap[eb V + h.1]? = some (arrV (eA V to) (a / 8) (fun j => rx_v V (rx_lk 3 us j)))
        rw [← hW.1, f2]
        refine congrArg some (congrArg (arrV (eA V to) (a / 8)) (funext fun j => ?_))
        rw [hus j]
        by_cases q3 : j < a / 8
        · rw [if_pos q3, if_pos q3, rx_v_2 (by omega), hW.1]
          have e9 : eb V + h.1 + 1 + j = eb V + (8 * (h.1 + 1 + j) + 2) / 8 := by omega
          exact congrArg Value.ref e9
        · rw [if_neg q3, if_neg q3]; rfl
      · rw [if_neg q2]
        exact (hW.2.1 i (by omega)).kept (hold _ (by rw [hW.1]; omega))
  have kk2 := kk FF.heap locs ls hW2 ⟨fun q hq => (hold q (by omega)).trans (hF.1 q hq), hF.2.1, by rw [f1]; have := hF.2.2; omega⟩ hL
  rw [List.map_cons, rx_v_2 (by omega), show (8 * h.1 + 2) / 8 = h.1 by omega, ← hW.1, show h2.1 - n0 = h.1 - n0 + 1 + a / 8 by omega, show h2.2.1 - z0 = h.2.1 - z0 + a / 8 + a / 8 * (b / 8) by omega] at kk2
  obtain ⟨t2, w1, w2⟩ := kk2 FF rfl X'
  rw [← hT] at w1
  exact ⟨t2, step t2 w1, w2⟩
end RX23

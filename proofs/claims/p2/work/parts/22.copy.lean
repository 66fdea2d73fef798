section RX22
variable {V : rx_V} {M : rx_M} {d pc : Nat} {f t : rx_K}
-- a run of an array is copied into another of its type
noncomputable def rx_cp {β : Type} (chk : Nat → Bool) (da : Nat) (ua : List (Nat × Nat)) (sp dp m : Nat) (us : List (Nat × Nat)) (k : List (Nat × Nat) → Option β) : Option β :=
  Nat.rec (motive := fun _ => List (Nat × Nat) → Option β) (fun us => k us) (fun m ih us => rx_f (rx_lk da ua (sp + m)) fun c => bif chk c then rx_f (dp + m) fun j => ih ((j, c) :: us) else none) m us
theorem rx_cp_some {β : Type} {chk : Nat → Bool} {da db sp dp : Nat} {ua : List (Nat × Nat)} {k : List (Nat × Nat) → Option β} {r : β} : ∀ (m : Nat) (us : List (Nat × Nat)), rx_cp chk da ua sp dp m us k = some r → (∀ i, i < m → chk (rx_lk da ua (sp + i)) = true) ∧ ∃ us', k us' = some r ∧ ∀ j, rx_lk db us' j = if dp ≤ j ∧ j < dp + m then rx_lk da ua (sp + (j - dp)) else rx_lk db us j
  | 0, us, h => ⟨fun i hi => absurd hi (Nat.not_lt_zero _), us, h, fun j => by rw [if_neg (by omega)]⟩
  | m + 1, us, h => by
    have h : (rx_f (rx_lk da ua (sp + m)) fun c => bif chk c then rx_f (dp + m) fun j => rx_cp chk da ua sp dp m ((j, c) :: us) k else none) = some r := h
    simp only [rx_f_eq] at h
    obtain ⟨hc, h⟩ := rx_bifn h
    obtain ⟨h1, us', h2, h3⟩ := rx_cp_some (db := db) m _ h
    refine ⟨fun i hi => ?_, us', h2, fun j => ?_⟩
    · rcases Nat.lt_or_ge i m with q | q
      · exact h1 i q
      · rw [show i = m by omega]; exact hc
    · rw [h3 j, rx_lk_cons]
      by_cases q : dp ≤ j ∧ j < dp + m
      · rw [if_pos q, if_pos ⟨q.1, by omega⟩]
      · rw [if_neg q]
        by_cases e : j = dp + m
        · rw [if_pos e, if_pos ⟨by omega, by omega⟩, show sp + (j - dp) = sp + m by omega]
        · rw [if_neg e, if_neg (by omega)]
noncomputable def o_copy (tt : Nat) (chk : Nat → Bool) (k : rx_K) : rx_K := fun lv st h => match st with
  | n :: dp :: b :: sp :: a :: r => bif Nat.beq (n % 8) 0 && (Nat.beq (dp % 8) 0 && (Nat.beq (sp % 8) 0 && Nat.ble (rx_cs r) 8)) then rx_ar h a tt fun na da ua => rx_ar h b tt fun nb db ub => bif Nat.ble (sp / 8 + n / 8) na && (Nat.ble (dp / 8 + n / 8) nb && (Nat.blt na 268435456 && Nat.blt nb 268435456)) then rx_cp chk da ua (sp / 8) (dp / 8) (n / 8) ub fun us => rx_hs h (b / 8) (tt + 1, nb, nb, [[db]], us) fun h' => k lv r h' else none else none
  | _ => none
theorem s_copy (hV : rx_Ok V) {tt index : Nat} {ty : FieldType} {chk : Nat → Bool} (hchk : rx_chk ty = chk) (hp : refKind ty = false) (hval : ∀ c, chk c = true → (∃ x, rx_v V c = .int x) ∨ ∃ x, rx_v V c = .long x) (ht : (eT V)[tt]? = some ty) (hd : 1 ≤ d) (hlink : Cond.methodLink M.1 index arraycopyName ∈ eW V) (hnat : Cond.native arraycopyName ∈ eW V) (hstat : Cond.static arraycopyName ∈ eW V) (hini : Cond.initialized "java/lang/System" ∈ eW V) (hdg : decode M.2.1 pc = .ok (.invokestatic index, 3)) (hk : rx_OK V M d (pc + 3) f) : rx_OK V M d pc (o_copy tt chk f) := by
  subst hchk
  refine rx_heap fun lv st h r h' hf => ?_
  match st, hf with
  | [], hf => cases hf
  | [_], hf => cases hf
  | [_, _], hf => cases hf
  | [_, _, _], hf => cases hf
  | [_, _, _, _], hf => cases hf
  | n :: dp :: b :: sp :: a :: st, hf =>
  simp only [o_copy] at hf
  obtain ⟨hc, hf⟩ := rx_bifn hf
  obtain ⟨hn, hc⟩ := Bool.and_eq_true_iff.mp hc
  obtain ⟨hdp, hc⟩ := Bool.and_eq_true_iff.mp hc
  obtain ⟨hsp, h8⟩ := Bool.and_eq_true_iff.mp hc
  have h8 : rx_cs st ≤ 8 := Nat.le_of_ble_eq_true h8
  obtain ⟨ha, hla, aa, na, fa, ua, hea, hf⟩ := rx_ar_some hf
  obtain ⟨hb, hlb, ab, nb, fb, ub, heb, hf⟩ := rx_ar_some hf
  obtain ⟨hc, hf⟩ := rx_bifn hf
  obtain ⟨c1, hc⟩ := Bool.and_eq_true_iff.mp hc
  obtain ⟨c2, hc⟩ := Bool.and_eq_true_iff.mp hc
  obtain ⟨c3, c4⟩ := Bool.and_eq_true_iff.mp hc
  have c1 : sp / 8 + n / 8 ≤ na := Nat.le_of_ble_eq_true c1
  have c2 : dp / 8 + n / 8 ≤ nb := Nat.le_of_ble_eq_true c2
  have c3 : na < 268435456 := Nat.le_of_ble_eq_true c3
  have c4 : nb < 268435456 := Nat.le_of_ble_eq_true c4
  obtain ⟨hall, us, hf, hus⟩ := rx_cp_some (db := rx_fg fb 0) _ _ hf
  obtain ⟨h1, hf, e1, e2, e3, eg⟩ := rx_hs_some hf
  refine ⟨pc + 3, f, lv, st, h1, hk, hf, by omega, by omega, fun p l e R s m args below meth c hC hE n0 z0 hn0 hz0 hR1 hR2 hR3 hR4 H locs ls Q hW hF hL kk => ?_⟩
  have hts := hC.2.2.2.2.2.2.1
  have hroom : ((st.map (rx_v V)).map fun v => v.category).sum ≤ 8 := by rw [rx_cat_sum hV]; exact h8
  have hata := rx_ar_at hW hla hea
  have hatb := rx_ar_at hW hlb heb
  have clamp : ∀ z, z / 8 < 268435456 → ¬ rx_di z < 0 ∧ (rx_di z).toNatClampNeg = z / 8 := fun z hz => ⟨nI_pos (n := z / 8) (by omega), nI_clamp (n := z / 8) (by omega)⟩
  obtain ⟨n1, n2⟩ := clamp n (by omega)
  obtain ⟨d1, d2⟩ := clamp dp (by omega)
  obtain ⟨s1, s2⟩ := clamp sp (by omega)
  have nn : ∀ z : Int32, ¬ z < 0 → z.toInt = (z.toNatClampNeg : Int) := by
    intro z hz
    have hz0 : (0 : Int) ≤ z.toInt := by
      have := Int32.not_lt.mp hz
      simpa using Int32.le_iff_toInt_le.mp this
    show z.toInt = ((z.toInt.toNat : Nat) : Int)
    omega
  rw [List.map_cons, List.map_cons, List.map_cons, List.map_cons, List.map_cons, rx_v_0 (rx_beq hn), rx_v_0 (rx_beq hdp), rx_v_0 (rx_beq hsp), rx_v_2 ha, rx_v_2 hb]
  intro T hT X
  obtain ⟨-, k0, hk0, cm0, hkk0⟩ := (rx_ty hE ht).1 na (fun j => rx_v V (rx_lk (rx_fg fa 0) ua j))
  obtain ⟨-, k1, hk1, cm1, hkk1⟩ := (rx_ty hE ht).1 nb (fun j => rx_v V (rx_lk (rx_fg fb 0) ub j))
  have hnw : nativeFrameWords "java/lang/System" "arraycopy" 5 + 11 ≤ 32 := by decide +kernel
  obtain ⟨vm', X', step⟩ := X.arraycopy hC.1 hC.2.2.2.2.2.1 (hts _ hlink) (hts _ hnat) (hts _ hstat) (hts _ hini) (src := eb V + a / 8) (dst := eb V + b / 8) (srcPos := rx_di sp) (destPos := rx_di dp) (n := rx_di n) (by rw [hT]; exact hata) (by rw [hT]; exact hatb)
    (fun _ h => by cases h) (fun _ h => by cases h) (fun h => by cases h) (fun h => by cases h) hk0 hk1 hkk0 hkk1 (by simp [hp]) s1 d1 n1
    (by rw [nn _ s1, nn _ n1, arrV_size, s2, n2]; omega)
    (by rw [nn _ d1, nn _ n1, arrV_size, d2, n2]; omega)
    (fun vm₁ _ i hi => by
      rw [n2] at hi
      have e : (arrV (eA V tt) na (fun j => rx_v V (rx_lk (rx_fg fa 0) ua j))).slots.getD ((rx_di sp).toNatClampNeg + i) .null = rx_v V (rx_lk (rx_fg fa 0) ua (sp / 8 + i)) := by
        rw [Array.getD_eq_getD_getElem?, arrV_read _ _ (by rw [s2]; omega), s2]
        rfl
      rw [e]
      refine ⟨(rx_chk_ok hV (hall i hi)).2, ?_⟩
      rcases hval _ (hall i hi) with ⟨x, q⟩ | ⟨x, q⟩ <;> rw [q] <;> exact trivial)
    (g := F0 m pc ls (.int (rx_di n) :: .int (rx_di dp) :: .ref (eb V + b / 8) :: .int (rx_di sp) :: .ref (eb V + a / 8) :: st.map (rx_v V))) rfl (hL.1.trans hC.2.2.1.symm) (rest := st.map (rx_v V)) rfl (by rw [hC.2.1]; exact hdg) (by omega) (by show 2 * 0 + _ + _ ≤ _; omega)
  have e4 : copied (arrV (eA V tt) na (fun j => rx_v V (rx_lk (rx_fg fa 0) ua j))) (arrV (eA V tt) nb (fun j => rx_v V (rx_lk (rx_fg fb 0) ub j))) (rx_di sp) (rx_di dp) (rx_di n) = arrV (eA V tt) nb (fun j => rx_v V (rx_lk (rx_fg [[rx_fg fb 0]] 0) us j)) := by
    refine (va_copied (fun z => z) (eA V tt) (eA V tt) _ _ (by rw [s2, n2]; exact c1)).trans (congrArg (arrV (eA V tt) nb) (funext fun j => ?_))
    show va_cpy _ _ _ _ _ j = rx_v V (rx_lk (rx_fg fb 0) us j)
    rw [hus j, s2, d2, n2]
    unfold va_cpy
    by_cases q : dp / 8 ≤ j ∧ j < dp / 8 + n / 8
    · rw [if_pos q, if_pos q]
    · rw [if_neg q, if_neg q]
  rw [e4] at X' step
  have hl : eb V + b / 8 < H.size := (Array.getElem?_eq_some_iff.mp hatb).1
  generalize hce : arrV (eA V tt) nb (fun j => rx_v V (rx_lk (rx_fg [[rx_fg fb 0]] 0) us j)) = ce at X' step
  have hheap : ((T.setVm vm').setCell (eb V + b / 8) ce).heap = H.setIfInBounds (eb V + b / 8) ce := by rw [← hT]; rfl
  have oq : ∀ q : Nat, q ≠ eb V + b / 8 → (H.setIfInBounds (eb V + b / 8) ce)[q]? = H[q]? := fun q hq => by simp [Array.getElem?_setIfInBounds, Ne.symm hq]
  have hzz : (H.setIfInBounds (eb V + b / 8) ce).size = H.size := by simp
  have hW1 : rx_w V h1 (H.setIfInBounds (eb V + b / 8) ce) := rx_w_set hW hlb e1 e3 eg hzz oq (by
    show (H.setIfInBounds (eb V + b / 8) ce)[eb V + b / 8]? = some (arrV (eA V tt) nb (fun j => rx_v V (rx_lk (rx_fg [[rx_fg fb 0]] 0) us j)))
    rw [hce]
    simp [Array.getElem?_setIfInBounds, hl])
  have kk2 := kk (H.setIfInBounds (eb V + b / 8) ce) (locs ++ ((arrV (eA V tt) na (fun j => rx_v V (rx_lk (rx_fg fa 0) ua j))).stretch (rx_di sp).toNatClampNeg (rx_di n).toNatClampNeg).zipIdx.map fun q => ⟨eb V + b / 8, (rx_di dp).toNatClampNeg + q.2⟩) ls hW1 ⟨fun q hq => (oq q (by omega)).trans (hF.1 q hq), fun x hx => by
      rcases List.mem_append.mp hx with z | z
      · exact hF.2.1 x z
      · obtain ⟨y, -, hy⟩ := List.mem_map.mp z
        rw [← hy]
        exact Nat.le_add_right _ _, by rw [hzz]; exact hF.2.2⟩ hL
  rw [e1, e2] at kk2
  obtain ⟨t2, a1, b1⟩ := kk2 _ hheap X'
  exact ⟨t2, step t2 a1, b1⟩
end RX22

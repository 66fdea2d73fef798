section CP
theorem cp_in {chk : Nat → Bool} {da db sp dp : Nat} {ua : List (Nat × Nat)} : ∀ (m : Nat) (us : List (Nat × Nat)), (∀ i, i < m → chk (rx_lk da ua (sp + i)) = true) → ∃ us', (∀ {β : Type} (k : List (Nat × Nat) → Option β), rx_cp chk da ua sp dp m us k = k us') ∧ ∀ j, rx_lk db us' j = if dp ≤ j ∧ j < dp + m then rx_lk da ua (sp + (j - dp)) else rx_lk db us j
  | 0, us, _ => ⟨us, fun k => rfl, fun j => by rw [if_neg (by omega)]⟩
  | m + 1, us, h => by
    obtain ⟨us', h1, h2⟩ := cp_in (db := db) m ((dp + m, rx_lk da ua (sp + m)) :: us) (fun i hi => h i (by omega))
    refine ⟨us', fun k => ?_, fun j => ?_⟩
    · show (rx_f (rx_lk da ua (sp + m)) fun c => bif chk c then rx_f (dp + m) fun j => rx_cp chk da ua sp dp m ((j, c) :: us) k else none) = _
      rw [rx_f_eq, h m (by omega), cond_true, rx_f_eq]
      exact h1 k
    · rw [h2 j, rx_lk_cons]
      by_cases q : dp ≤ j ∧ j < dp + m
      · rw [if_pos q, if_pos ⟨q.1, by omega⟩]
      · rw [if_neg q]
        by_cases e : j = dp + m
        · rw [if_pos e, if_pos ⟨by omega, by omega⟩, show sp + (j - dp) = sp + m by omega]
        · rw [if_neg e, if_neg (by omega)]
def cpG (G : gS) (a sp b dp m : Int) : gS := fun c j => if c = b ∧ dp ≤ j ∧ j < dp + m then G a (sp + (j - dp)) else G c j
theorem cpG_ne {G : gS} {a sp b dp m c j : Int} (h : c ≠ b) : cpG G a sp b dp m c j = G c j := if_neg (fun q => h q.1)
theorem cpG_in {G : gS} {a sp b dp m j : Int} (h1 : dp ≤ j) (h2 : j < dp + m) : cpG G a sp b dp m b j = G a (sp + (j - dp)) := if_pos ⟨rfl, h1, h2⟩
theorem cpG_out {G : gS} {a sp b dp m j : Int} (h : j < dp ∨ dp + m ≤ j) : cpG G a sp b dp m b j = G b j := if_neg (fun q => by omega)
variable {S : hW} {k : rx_K} {lv st : List Nat} {G : gS} {Q : Nat → gS → Prop}
theorem g_copy {tt : Nat} {chk : Nat → Bool} {a b na nb sp dp m : Int} (hch : ∀ g, okG S (aT tt) g → chk (enc (aT tt) g) = true) (ha : isA S tt na a) (hb : isA S tt nb b) (h1 : 0 ≤ sp) (h2 : sp + m ≤ na) (h3 : 0 ≤ dp) (h4 : dp + m ≤ nb) (h5 : 0 ≤ m) (h8 : rx_cs st ≤ 8) (hn : ∀ i, S.2 b i = none) (hk : Tg S k lv st (cpG G a sp b dp m) Q) : Tg S (o_copy tt chk k) lv (cI m :: cI dp :: rf b :: cI sp :: rf a :: st) G Q := fun ht H he => by
  have hA := fun (i : Int) (q1 : 0 ≤ i) (q2 : i < na) => isA_at ha q1 q2 he
  have hB := fun (i : Int) (q1 : 0 ≤ i) (q2 : i < nb) => isA_at hb q1 q2 he
  have hT := fun (i : Int) (q1 : 0 ≤ i) (q2 : i < na) => isA_ty ha q1 q2 ht
  obtain ⟨a1, a2, ma, rfl, a3⟩ := ha
  obtain ⟨b1, b2, mb, rfl, b3⟩ := hb
  intro h hw hH
  obtain ⟨za, fa, ua, ea, la, ra⟩ := ar_in (kk := fun na da ua => rx_ar h (8 * b.toNat + 2) tt fun nb db ub => bif Nat.ble (cI sp / 8 + cI m / 8) na && (Nat.ble (cI dp / 8 + cI m / 8) nb && (Nat.blt na 268435456 && Nat.blt nb 268435456)) then rx_cp chk da ua (cI sp / 8) (cI dp / 8) (cI m / 8) ub fun us => rx_hs h ((8 * b.toNat + 2) / 8) (tt + 1, nb, nb, [[db]], us) fun h' => k lv st h' else none) hw a2 a3
  obtain ⟨zb, fb, ub, eb, lb, rb⟩ := ar_in (kk := fun nb db ub => bif Nat.ble (cI sp / 8 + cI m / 8) ma && (Nat.ble (cI dp / 8 + cI m / 8) nb && (Nat.blt ma 268435456 && Nat.blt nb 268435456)) then rx_cp chk (rx_fg fa 0) ua (cI sp / 8) (cI dp / 8) (cI m / 8) ub fun us => rx_hs h ((8 * b.toNat + 2) / 8) (tt + 1, nb, nb, [[db]], us) fun h' => k lv st h' else none) hw b2 b3
  have es : cI sp / 8 = sp.toNat := by unfold cI; omega
  have ed : cI dp / 8 = dp.toNat := by unfold cI; omega
  have em : cI m / 8 = m.toNat := by unfold cI; omega
  have e8 : (8 * b.toNat + 2) / 8 = b.toNat := by omega
  have hva : ∀ i : Nat, hv h a.toNat i = rx_lk (rx_fg fa 0) ua i := fun i => hv_ar ea i
  have hvb : ∀ i : Nat, hv h b.toNat i = rx_lk (rx_fg fb 0) ub i := fun i => hv_ar eb i
  obtain ⟨us', c1, c2⟩ := cp_in (chk := chk) (da := rx_fg fa 0) (db := rx_fg fb 0) (sp := sp.toNat) (dp := dp.toNat) (ua := ua) m.toNat ub (fun i hi => by
    rw [← hva, hH]
    have q := hA (sp + i) (by omega) (by omega)
    rw [show (sp + i).toNat = sp.toNat + i by omega] at q
    rw [q]
    exact hch _ (hT (sp + i) (by omega) (by omega)))
  obtain ⟨h', g1, g2, g3⟩ := WF_up (e := (tt + 1, mb, mb, [[rx_fg fb 0]], us')) hw b2 (by rw [b3]; exact ⟨rfl, lb⟩)
  have eb0 : ((b.toNat : Nat) : Int) = b := Int.toNat_of_nonneg b1
  have ea0 : ((a.toNat : Nat) : Int) = a := Int.toNat_of_nonneg a1
  have hEN : EN S (hv h') (cpG G a sp b dp m) := fun c j hc hj => by
    unfold cpG
    by_cases q : c = b.toNat
    · subst q
      have q3 := g3 b.toNat
      rw [if_pos rfl] at q3
      rw [hv_ar q3 j, show rx_fg [[rx_fg fb 0]] 0 = rx_fg fb 0 from rfl, c2 j, b3]
      have hj : j < mb := by rw [b3] at hj; exact hj
      by_cases q2 : dp.toNat ≤ j ∧ j < dp.toNat + m.toNat
      · rw [if_pos q2, if_pos ⟨by omega, by omega, by omega⟩, ← hva, hH]
        have q4 := hA (sp + (j - dp)) (by omega) (by omega)
        rw [show (sp + (j - dp)).toNat = sp.toNat + (j - dp.toNat) by omega] at q4
        exact q4
      · rw [if_neg q2, if_neg (fun z => q2 (by omega)), ← hvb, hH]
        have q4 := hB j (by omega) (by omega)
        rw [show (j : Int).toNat = j by omega] at q4
        rw [eb0]; exact q4
    · rw [if_neg (fun z => q (by omega))]
      have q3 := g3 c
      rw [if_neg q] at q3
      have q4 : hv h' c j = hv h c j := by unfold hv; rw [q3]
      rw [q4, hH]
      exact he c j hc hj
  have hTY : TY S (cpG G a sp b dp m) := ⟨fun c j hc hj => by
    unfold cpG
    split
    · next q =>
      have hcb : c = b.toNat := by omega
      rw [hcb, b3]
      have hj : j < mb := by rw [hcb, b3] at hj; exact hj
      exact hT _ (by omega) (by omega)
    · exact ht.1 c j hc hj, fun c j v hv' => by
    unfold cpG
    rw [if_neg (fun q => by rw [q.1, hn] at hv'; cases hv')]
    exact ht.2 c j v hv'⟩
  obtain ⟨r, h2, x1, x2, x3⟩ := hk hTY _ hEN h' g2 rfl
  refine ⟨r, h2, ?_, x2, x3⟩
  rw [rf_p a1, rf_p b1]
  show (bif Nat.beq (cI m % 8) 0 && (Nat.beq (cI dp % 8) 0 && (Nat.beq (cI sp % 8) 0 && Nat.ble (rx_cs st) 8)) then rx_ar h (8 * a.toNat + 2) tt _ else none) = _
  rw [cI_0, cI_0, cI_0, Nat.ble_eq_true_of_le h8, show (Nat.beq 0 0 && (Nat.beq 0 0 && (Nat.beq 0 0 && true))) = true from rfl, cond_true]
  refine Eq.trans ra ?_
  refine Eq.trans rb ?_
  rw [es, ed, em, e8, show Nat.ble (sp.toNat + m.toNat) ma = true from Nat.ble_eq_true_of_le (by omega), show Nat.ble (dp.toNat + m.toNat) mb = true from Nat.ble_eq_true_of_le (by omega), show Nat.blt ma 268435456 = true from Nat.ble_eq_true_of_le la, show Nat.blt mb 268435456 = true from Nat.ble_eq_true_of_le lb]
  show rx_cp chk (rx_fg fa 0) ua sp.toNat dp.toNat m.toNat ub _ = _
  rw [c1, g1]; exact x1
theorem chI {g : Int} (_ : okG S (aT 0) g) : rx_isI (enc (aT 0) g) = true := is_I g
theorem chL {g : Int} (_ : okG S (aT 1) g) : rx_isL (enc (aT 1) g) = true := is_L g
theorem chB0 : ∀ n : Nat, n < 256 → rx_chk .byte (cI ((n : Int) - 128)) = true := by decide +kernel
theorem chB {g : Int} (h : okG S (aT 2) g) : rx_chk .byte (enc (aT 2) g) = true := by
  have h : -128 ≤ g ∧ g < 128 := h
  have e := chB0 (g + 128).toNat (by omega)
  rw [show (((g + 128).toNat : Nat) : Int) - 128 = g by omega] at e
  exact e
theorem chZ {g : Int} (h : okG S (aT 3) g) : rx_chk .boolean (enc (aT 3) g) = true := by
  have h : 0 ≤ g ∧ g ≤ 1 := h
  rcases (show g = 0 ∨ g = 1 by omega) with e | e <;> subst e <;> rfl
theorem g_copyI {a b na nb sp dp m : Int} (ha : isA S 0 na a) (hb : isA S 0 nb b) (h1 : 0 ≤ sp) (h2 : sp + m ≤ na) (h3 : 0 ≤ dp) (h4 : dp + m ≤ nb) (h5 : 0 ≤ m) (h8 : rx_cs st ≤ 8) (hn : ∀ i, S.2 b i = none) (hk : Tg S k lv st (cpG G a sp b dp m) Q) : Tg S (o_copy 0 rx_isI k) lv (cI m :: cI dp :: rf b :: cI sp :: rf a :: st) G Q := g_copy (fun _ h => chI h) ha hb h1 h2 h3 h4 h5 h8 hn hk
theorem g_copyL {a b na nb sp dp m : Int} (ha : isA S 1 na a) (hb : isA S 1 nb b) (h1 : 0 ≤ sp) (h2 : sp + m ≤ na) (h3 : 0 ≤ dp) (h4 : dp + m ≤ nb) (h5 : 0 ≤ m) (h8 : rx_cs st ≤ 8) (hn : ∀ i, S.2 b i = none) (hk : Tg S k lv st (cpG G a sp b dp m) Q) : Tg S (o_copy 1 rx_isL k) lv (cI m :: cI dp :: rf b :: cI sp :: rf a :: st) G Q := g_copy (fun _ h => chL h) ha hb h1 h2 h3 h4 h5 h8 hn hk
theorem g_copyB {a b na nb sp dp m : Int} (ha : isA S 2 na a) (hb : isA S 2 nb b) (h1 : 0 ≤ sp) (h2 : sp + m ≤ na) (h3 : 0 ≤ dp) (h4 : dp + m ≤ nb) (h5 : 0 ≤ m) (h8 : rx_cs st ≤ 8) (hn : ∀ i, S.2 b i = none) (hk : Tg S k lv st (cpG G a sp b dp m) Q) : Tg S (o_copy 2 (rx_chk .byte) k) lv (cI m :: cI dp :: rf b :: cI sp :: rf a :: st) G Q := g_copy (fun _ h => chB h) ha hb h1 h2 h3 h4 h5 h8 hn hk
theorem g_copyZ {a b na nb sp dp m : Int} (ha : isA S 3 na a) (hb : isA S 3 nb b) (h1 : 0 ≤ sp) (h2 : sp + m ≤ na) (h3 : 0 ≤ dp) (h4 : dp + m ≤ nb) (h5 : 0 ≤ m) (h8 : rx_cs st ≤ 8) (hn : ∀ i, S.2 b i = none) (hk : Tg S k lv st (cpG G a sp b dp m) Q) : Tg S (o_copy 3 (rx_chk .boolean) k) lv (cI m :: cI dp :: rf b :: cI sp :: rf a :: st) G Q := g_copy (fun _ h => chZ h) ha hb h1 h2 h3 h4 h5 h8 hn hk
end CP

section LW
variable {S : hW} {k f t : rx_K} {lv st : List Nat} {G : gS} {Q : Nat → gS → Prop}
theorem g_xv {k c v : Nat} {g : rx_K} (hv : c = v) (hk : Tg S g lv (v :: st) G Q) : Tg S (o_xv k c g) lv ((8 * k + 4) :: st) G Q := fun ht H he => t_eq2 (g := g) (lv' := lv) (st' := v :: st) (fun h _ _ => by
  show (bif Nat.beq (8 * k + 4) (8 * k + 4) then g lv (c :: st) h else none) = _
  rw [show Nat.beq (8 * k + 4) (8 * k + 4) = true by simp, cond_true, hv]) (hk ht H he)
theorem g_xald {k : Nat} {bs : List Nat} {i x : Int} {g : rx_K} (h0 : 0 ≤ i) (h1 : i < bs.length) (h2 : i < 2147483648) (hx : rx_nth bs i.toNat 7 = cI x) (hk : Tg S g lv (cI x :: st) G Q) : Tg S (o_xald k bs g) lv (cI i :: (8 * k + 4) :: st) G Q := fun ht H he => t_eq2 (g := g) (lv' := lv) (st' := cI x :: st) (fun h _ _ => by
  show (bif Nat.beq (8 * k + 4) (8 * k + 4) && (Nat.beq (cI i % 8) 0 && Nat.blt (cI i / 8) bs.length) then rx_f (rx_nth bs (cI i / 8) 7) fun v => g lv (v :: st) h else none) = _
  have e : cI i / 8 = i.toNat := by unfold cI; omega
  rw [show Nat.beq (8 * k + 4) (8 * k + 4) = true by simp, cI_0, e, show Nat.blt i.toNat bs.length = true from Nat.ble_eq_true_of_le (by omega), show Nat.beq 0 0 = true from rfl, Bool.and_self, Bool.and_self, cond_true, rx_f_eq, hx]) (hk ht H he)
theorem g_sw0 {ts : List Nat} {dt : Nat} {j : Nat → rx_K} {x : Int} (h0 : 0 ≤ x) (h1 : x < 2147483648) (hk : Tg S (j (rx_nth ts x.toNat dt)) lv st G Q) : Tg S (o_sw 0 ts dt j) lv (cI x :: st) G Q := fun ht H he => t_eq2 (g := j (rx_nth ts x.toNat dt)) (lv' := lv) (st' := st) (fun h _ _ => by
  show (bif Nat.beq (cI x % 8) 0 then rx_f (rx_nth ts ((cI x / 8 + (4294967296 - 0)) % 4294967296) dt) fun b => j b lv st h else none) = _
  have e : (cI x / 8 + (4294967296 - 0)) % 4294967296 = x.toNat := by unfold cI; omega
  rw [cI_0, e, show Nat.beq 0 0 = true from rfl, cond_true, rx_f_eq]) (hk ht H he)
/-- one call on both: each comes to an end with a whole number -/
def pair (F1 F2 : List Nat → rx_H → Option (Nat × rx_H)) (As : List Nat) (G : gS) (R : Int → Int → gS → Prop) : Prop := Tn W0 F1 (rf 0 :: As) G fun r1 G1 => ∃ v1, r1 = cI v1 ∧ inI v1 ∧ Tn W0 F2 (rf 16081 :: As) G1 fun r2 G2 => ∃ v2, r2 = cI v2 ∧ inI v2 ∧ R v1 v2 G2
theorem oX : isO W0 12 0 := oC12
theorem oM : isO W0 13 16081 := oC13
theorem i63 (x : Int) : 0 ≤ iand x 63 ∧ iand x 63 < 64 := by
  have h : iand x 63 = (x % 64) := by
    unfold iand
    have e : Int32.ofInt x &&& Int32.ofInt 63 = Int32.ofInt (x % 64) := by
      apply Int32.toBitVec_inj.mp
      apply BitVec.eq_of_toNat_eq
      show (BitVec.ofInt 32 x &&& BitVec.ofInt 32 63).toNat = (BitVec.ofInt 32 (x % 64)).toNat
      rw [BitVec.toNat_and, BitVec.toNat_ofInt, BitVec.toNat_ofInt, BitVec.toNat_ofInt]
      show (x % 4294967296).toNat &&& (2 ^ 6 - 1) = _
      rw [Nat.and_two_pow_sub_one_eq_mod]
      show (x % 4294967296).toNat % 64 = (x % 64 % 4294967296).toNat
      omega
    rw [e, ti_I ⟨by omega, by omega⟩]
  rw [h]; omega
abbrev As0 (xs : Int → Int) (i : Int) : List Nat := []
abbrev As1 (xs : Int → Int) (i : Int) : List Nat := [cI (xs (i + 1))]
abbrev As2 (xs : Int → Int) (i : Int) : List Nat := [cI (xs (i + 1)), cI (xs (i + 2))]
abbrev As3 (xs : Int → Int) (i : Int) : List Nat := [cI (xs (i + 1)), cI (xs (i + 2)), cI (xs (i + 3))]
abbrev As4 (xs : Int → Int) (i : Int) : List Nat := [cI (xs (i + 1)), cI (xs (i + 2)), cI (xs (i + 3)), cI (xs (i + 4))]
abbrev As5 (xs : Int → Int) (i : Int) : List Nat := [cI (xs (i + 1)), cI (xs (i + 2)), cI (xs (i + 3)), cI (xs (i + 4)), cI (xs (i + 5))]
variable {sc : List Nat} {xs : Int → Int} {i : Int} {I : gS → Prop} {j : Nat → rx_K}
def call0 (I : gS → Prop) : Prop := ∀ (sc : List Nat) (xs : Int → Int), (∀ q : Int, 0 ≤ q → q < sc.length → rx_nth sc q.toNat 7 = cI (xs q) ∧ inI (xs q)) → ∀ i : Int, 0 ≤ i → i + 6 ≤ sc.length → ∀ G, I G → pair FX12_feed FX13_feed (As5 xs i) G (fun v1 v2 G2 => v1 = v2 ∧ I G2)
set_option maxRecDepth 20000 in
theorem law0 (hc : call0 I) (hx : ∀ q : Int, 0 ≤ q → q < sc.length → rx_nth sc q.toNat 7 = cI (xs q) ∧ inI (xs q)) (hl : sc.length ≤ 3072) (h0 : 0 ≤ i) (h6 : i + 6 ≤ sc.length) (hG : I G) (hn : ∀ G, I G → Tg W0 (j 0) [4004, rf 0, rf 16081, cI (i + 6)] [] G Q) : Tg W0 (vL_law_204 sc j) [4004, rf 0, rf 16081, cI i] [] G Q := by
  unfold vL_law_204
  refine g_ld rfl (is_R _) ?_
  refine g_ld (v := 4004) rfl rfl ?_
  refine g_ld rfl (is_I _) ?_
  refine g_const (v := cI 1) rfl ?_
  refine g_add ?_
  refine g_xald (k := 500) (x := xs (i + 1)) (by omega) (by omega) (by omega) (hx _ (by omega) (by omega)).1 ?_
  refine g_ld (v := 4004) rfl rfl ?_
  refine g_ld rfl (is_I _) ?_
  refine g_const (v := cI 2) rfl ?_
  refine g_add ?_
  refine g_xald (k := 500) (x := xs (i + 2)) (by omega) (by omega) (by omega) (hx _ (by omega) (by omega)).1 ?_
  refine g_ld (v := 4004) rfl rfl ?_
  refine g_ld rfl (is_I _) ?_
  refine g_const (v := cI 3) rfl ?_
  refine g_add ?_
  refine g_xald (k := 500) (x := xs (i + 3)) (by omega) (by omega) (by omega) (hx _ (by omega) (by omega)).1 ?_
  refine g_ld (v := 4004) rfl rfl ?_
  refine g_ld rfl (is_I _) ?_
  refine g_const (v := cI 4) rfl ?_
  refine g_add ?_
  refine g_xald (k := 500) (x := xs (i + 4)) (by omega) (by omega) (by omega) (hx _ (by omega) (by omega)).1 ?_
  refine g_ld (v := 4004) rfl rfl ?_
  refine g_ld rfl (is_I _) ?_
  refine g_const (v := cI 5) rfl ?_
  unfold vL_law_228
  refine g_add ?_
  refine g_xald (k := 500) (x := xs (i + 5)) (by omega) (by omega) (by omega) (hx _ (by omega) (by omega)).1 ?_
  refine g_callV (As := As5 xs i) oX (fun _ => rfl) ?_
  refine g_go1 (Nat.le_of_ble_eq_true rfl) (Tn_w (hc _ _ hx i h0 h6 G hG) fun r1 G1 ⟨v1, e1, i1, hr⟩ => ?_)
  subst e1
  refine ⟨n7_I _, ?_⟩
  refine g_ld rfl (is_R _) ?_
  refine g_ld (v := 4004) rfl rfl ?_
  refine g_ld rfl (is_I _) ?_
  refine g_const (v := cI 1) rfl ?_
  refine g_add ?_
  refine g_xald (k := 500) (x := xs (i + 1)) (by omega) (by omega) (by omega) (hx _ (by omega) (by omega)).1 ?_
  refine g_ld (v := 4004) rfl rfl ?_
  refine g_ld rfl (is_I _) ?_
  refine g_const (v := cI 2) rfl ?_
  refine g_add ?_
  refine g_xald (k := 500) (x := xs (i + 2)) (by omega) (by omega) (by omega) (hx _ (by omega) (by omega)).1 ?_
  refine g_ld (v := 4004) rfl rfl ?_
  refine g_ld rfl (is_I _) ?_
  refine g_const (v := cI 3) rfl ?_
  refine g_add ?_
  refine g_xald (k := 500) (x := xs (i + 3)) (by omega) (by omega) (by omega) (hx _ (by omega) (by omega)).1 ?_
  refine g_ld (v := 4004) rfl rfl ?_
  refine g_ld rfl (is_I _) ?_
  refine g_const (v := cI 4) rfl ?_
  refine g_add ?_
  refine g_xald (k := 500) (x := xs (i + 4)) (by omega) (by omega) (by omega) (hx _ (by omega) (by omega)).1 ?_
  unfold vL_law_254
  refine g_ld (v := 4004) rfl rfl ?_
  refine g_ld rfl (is_I _) ?_
  refine g_const (v := cI 5) rfl ?_
  refine g_add ?_
  refine g_xald (k := 500) (x := xs (i + 5)) (by omega) (by omega) (by omega) (hx _ (by omega) (by omega)).1 ?_
  refine g_callV (As := As5 xs i) oM (fun _ => rfl) ?_
  refine g_go1 (by rw [cs_c, ct_I]; exact Nat.le_of_ble_eq_true rfl) (Tn_w hr fun r2 G2 ⟨v2, e2, i2, hI⟩ => ?_)
  subst e2
  refine ⟨n7_I _, ?_⟩
  refine g_eq2 i1 i2 (fun hb => ?_) (fun hb => absurd hI.1 hb)
  have hI := hI.2
  unfold vL_law_1341
  refine g_inc (lv' := [4004, rf 0, rf 16081, cI (i + 6)]) rfl (Nat.le_of_ble_eq_true rfl) (Or.inr (n1_R _)) rfl ?_
  exact hn _ hI
def call1 (I : gS → Prop) : Prop := ∀ (sc : List Nat) (xs : Int → Int), (∀ q : Int, 0 ≤ q → q < sc.length → rx_nth sc q.toNat 7 = cI (xs q) ∧ inI (xs q)) → ∀ i : Int, 0 ≤ i → i + 6 ≤ sc.length → ∀ G, I G → pair FX12_cut FX13_cut (As1 xs i) G (fun _ _ G2 => I G2)
set_option maxRecDepth 20000 in
theorem law1 (hc : call1 I) (hx : ∀ q : Int, 0 ≤ q → q < sc.length → rx_nth sc q.toNat 7 = cI (xs q) ∧ inI (xs q)) (hl : sc.length ≤ 3072) (h0 : 0 ≤ i) (h6 : i + 6 ≤ sc.length) (hG : I G) (hn : ∀ G, I G → Tg W0 (j 0) [4004, rf 0, rf 16081, cI (i + 6)] [] G Q) : Tg W0 (vL_law_267 sc j) [4004, rf 0, rf 16081, cI i] [] G Q := by
  unfold vL_law_267
  refine g_ld rfl (is_R _) ?_
  refine g_ld (v := 4004) rfl rfl ?_
  refine g_ld rfl (is_I _) ?_
  refine g_const (v := cI 1) rfl ?_
  refine g_add ?_
  refine g_xald (k := 500) (x := xs (i + 1)) (by omega) (by omega) (by omega) (hx _ (by omega) (by omega)).1 ?_
  refine g_callV (As := As1 xs i) oX (fun _ => rfl) ?_
  refine g_go1 (Nat.le_of_ble_eq_true rfl) (Tn_w (hc _ _ hx i h0 h6 G hG) fun r1 G1 ⟨v1, e1, i1, hr⟩ => ?_)
  subst e1
  refine ⟨n7_I _, ?_⟩
  refine g_pop (ct_I _) ?_
  refine g_ld rfl (is_R _) ?_
  refine g_ld (v := 4004) rfl rfl ?_
  refine g_ld rfl (is_I _) ?_
  refine g_const (v := cI 1) rfl ?_
  refine g_add ?_
  refine g_xald (k := 500) (x := xs (i + 1)) (by omega) (by omega) (by omega) (hx _ (by omega) (by omega)).1 ?_
  refine g_callV (As := As1 xs i) oM (fun _ => rfl) ?_
  refine g_go1 (Nat.le_of_ble_eq_true rfl) (Tn_w hr fun r2 G2 ⟨v2, e2, i2, hI⟩ => ?_)
  subst e2
  refine ⟨n7_I _, ?_⟩
  refine g_pop (ct_I _) ?_
  unfold vL_law_1341
  refine g_inc (lv' := [4004, rf 0, rf 16081, cI (i + 6)]) rfl (Nat.le_of_ble_eq_true rfl) (Or.inr (n1_R _)) rfl ?_
  exact hn _ hI
def call2 (I : gS → Prop) : Prop := ∀ (sc : List Nat) (xs : Int → Int), (∀ q : Int, 0 ≤ q → q < sc.length → rx_nth sc q.toNat 7 = cI (xs q) ∧ inI (xs q)) → ∀ i : Int, 0 ≤ i → i + 6 ≤ sc.length → ∀ G, I G → pair FX12_splice FX13_splice (As3 xs i) G (fun _ _ G2 => I G2)
set_option maxRecDepth 20000 in
theorem law2 (hc : call2 I) (hx : ∀ q : Int, 0 ≤ q → q < sc.length → rx_nth sc q.toNat 7 = cI (xs q) ∧ inI (xs q)) (hl : sc.length ≤ 3072) (h0 : 0 ≤ i) (h6 : i + 6 ≤ sc.length) (hG : I G) (hn : ∀ G, I G → Tg W0 (j 0) [4004, rf 0, rf 16081, cI (i + 6)] [] G Q) : Tg W0 (vL_law_290 sc j) [4004, rf 0, rf 16081, cI i] [] G Q := by
  unfold vL_law_290
  refine g_ld rfl (is_R _) ?_
  refine g_ld (v := 4004) rfl rfl ?_
  refine g_ld rfl (is_I _) ?_
  refine g_const (v := cI 1) rfl ?_
  refine g_add ?_
  refine g_xald (k := 500) (x := xs (i + 1)) (by omega) (by omega) (by omega) (hx _ (by omega) (by omega)).1 ?_
  refine g_ld (v := 4004) rfl rfl ?_
  refine g_ld rfl (is_I _) ?_
  refine g_const (v := cI 2) rfl ?_
  refine g_add ?_
  refine g_xald (k := 500) (x := xs (i + 2)) (by omega) (by omega) (by omega) (hx _ (by omega) (by omega)).1 ?_
  refine g_ld (v := 4004) rfl rfl ?_
  refine g_ld rfl (is_I _) ?_
  refine g_const (v := cI 3) rfl ?_
  refine g_add ?_
  refine g_xald (k := 500) (x := xs (i + 3)) (by omega) (by omega) (by omega) (hx _ (by omega) (by omega)).1 ?_
  refine g_callV (As := As3 xs i) oX (fun _ => rfl) ?_
  refine g_go1 (Nat.le_of_ble_eq_true rfl) (Tn_w (hc _ _ hx i h0 h6 G hG) fun r1 G1 ⟨v1, e1, i1, hr⟩ => ?_)
  subst e1
  refine ⟨n7_I _, ?_⟩
  refine g_pop (ct_I _) ?_
  refine g_ld rfl (is_R _) ?_
  refine g_ld (v := 4004) rfl rfl ?_
  refine g_ld rfl (is_I _) ?_
  refine g_const (v := cI 1) rfl ?_
  refine g_add ?_
  refine g_xald (k := 500) (x := xs (i + 1)) (by omega) (by omega) (by omega) (hx _ (by omega) (by omega)).1 ?_
  unfold vL_law_316
  refine g_ld (v := 4004) rfl rfl ?_
  refine g_ld rfl (is_I _) ?_
  refine g_const (v := cI 2) rfl ?_
  refine g_add ?_
  refine g_xald (k := 500) (x := xs (i + 2)) (by omega) (by omega) (by omega) (hx _ (by omega) (by omega)).1 ?_
  refine g_ld (v := 4004) rfl rfl ?_
  refine g_ld rfl (is_I _) ?_
  refine g_const (v := cI 3) rfl ?_
  refine g_add ?_
  refine g_xald (k := 500) (x := xs (i + 3)) (by omega) (by omega) (by omega) (hx _ (by omega) (by omega)).1 ?_
  refine g_callV (As := As3 xs i) oM (fun _ => rfl) ?_
  refine g_go1 (Nat.le_of_ble_eq_true rfl) (Tn_w hr fun r2 G2 ⟨v2, e2, i2, hI⟩ => ?_)
  subst e2
  refine ⟨n7_I _, ?_⟩
  refine g_pop (ct_I _) ?_
  unfold vL_law_1341
  refine g_inc (lv' := [4004, rf 0, rf 16081, cI (i + 6)]) rfl (Nat.le_of_ble_eq_true rfl) (Or.inr (n1_R _)) rfl ?_
  exact hn _ hI
def call3 (I : gS → Prop) : Prop := ∀ (sc : List Nat) (xs : Int → Int), (∀ q : Int, 0 ≤ q → q < sc.length → rx_nth sc q.toNat 7 = cI (xs q) ∧ inI (xs q)) → ∀ i : Int, 0 ≤ i → i + 6 ≤ sc.length → ∀ G, I G → pair FX12_text FX13_text (As2 xs i) G (fun _ _ G2 => I G2)
set_option maxRecDepth 20000 in
theorem law3 (hc : call3 I) (hx : ∀ q : Int, 0 ≤ q → q < sc.length → rx_nth sc q.toNat 7 = cI (xs q) ∧ inI (xs q)) (hl : sc.length ≤ 3072) (h0 : 0 ≤ i) (h6 : i + 6 ≤ sc.length) (hG : I G) (hn : ∀ G, I G → Tg W0 (j 0) [4004, rf 0, rf 16081, cI (i + 6)] [] G Q) : Tg W0 (vL_law_333 sc j) [4004, rf 0, rf 16081, cI i] [] G Q := by
  unfold vL_law_333
  refine g_ld rfl (is_R _) ?_
  refine g_ld (v := 4004) rfl rfl ?_
  refine g_ld rfl (is_I _) ?_
  refine g_const (v := cI 1) rfl ?_
  refine g_add ?_
  refine g_xald (k := 500) (x := xs (i + 1)) (by omega) (by omega) (by omega) (hx _ (by omega) (by omega)).1 ?_
  refine g_ld (v := 4004) rfl rfl ?_
  refine g_ld rfl (is_I _) ?_
  refine g_const (v := cI 2) rfl ?_
  refine g_add ?_
  refine g_xald (k := 500) (x := xs (i + 2)) (by omega) (by omega) (by omega) (hx _ (by omega) (by omega)).1 ?_
  refine g_callV (As := As2 xs i) oX (fun _ => rfl) ?_
  refine g_go1 (Nat.le_of_ble_eq_true rfl) (Tn_w (hc _ _ hx i h0 h6 G hG) fun r1 G1 ⟨v1, e1, i1, hr⟩ => ?_)
  subst e1
  refine ⟨n7_I _, ?_⟩
  refine g_pop (ct_I _) ?_
  refine g_ld rfl (is_R _) ?_
  refine g_ld (v := 4004) rfl rfl ?_
  refine g_ld rfl (is_I _) ?_
  refine g_const (v := cI 1) rfl ?_
  refine g_add ?_
  refine g_xald (k := 500) (x := xs (i + 1)) (by omega) (by omega) (by omega) (hx _ (by omega) (by omega)).1 ?_
  refine g_ld (v := 4004) rfl rfl ?_
  refine g_ld rfl (is_I _) ?_
  refine g_const (v := cI 2) rfl ?_
  refine g_add ?_
  refine g_xald (k := 500) (x := xs (i + 2)) (by omega) (by omega) (by omega) (hx _ (by omega) (by omega)).1 ?_
  unfold vL_law_359
  refine g_callV (As := As2 xs i) oM (fun _ => rfl) ?_
  refine g_go1 (Nat.le_of_ble_eq_true rfl) (Tn_w hr fun r2 G2 ⟨v2, e2, i2, hI⟩ => ?_)
  subst e2
  refine ⟨n7_I _, ?_⟩
  refine g_pop (ct_I _) ?_
  unfold vL_law_1341
  refine g_inc (lv' := [4004, rf 0, rf 16081, cI (i + 6)]) rfl (Nat.le_of_ble_eq_true rfl) (Or.inr (n1_R _)) rfl ?_
  exact hn _ hI
def call4 (I : gS → Prop) : Prop := ∀ (sc : List Nat) (xs : Int → Int), (∀ q : Int, 0 ≤ q → q < sc.length → rx_nth sc q.toNat 7 = cI (xs q) ∧ inI (xs q)) → ∀ i : Int, 0 ≤ i → i + 6 ≤ sc.length → ∀ G, I G → pair FX12_size FX13_size (As0 xs i) G (fun _ _ G2 => I G2)
set_option maxRecDepth 20000 in
theorem law4 (hc : call4 I) (hx : ∀ q : Int, 0 ≤ q → q < sc.length → rx_nth sc q.toNat 7 = cI (xs q) ∧ inI (xs q)) (hl : sc.length ≤ 3072) (h0 : 0 ≤ i) (h6 : i + 6 ≤ sc.length) (hG : I G) (hn : ∀ G, I G → Tg W0 (j 0) [4004, rf 0, rf 16081, cI (i + 6)] [] G Q) : Tg W0 (vL_law_366 sc j) [4004, rf 0, rf 16081, cI i] [] G Q := by
  unfold vL_law_366
  refine g_ld rfl (is_R _) ?_
  refine g_callV (As := As0 xs i) oX (fun _ => rfl) ?_
  refine g_go1 (Nat.le_of_ble_eq_true rfl) (Tn_w (hc _ _ hx i h0 h6 G hG) fun r1 G1 ⟨v1, e1, i1, hr⟩ => ?_)
  subst e1
  refine ⟨n7_I _, ?_⟩
  refine g_pop (ct_I _) ?_
  refine g_ld rfl (is_R _) ?_
  refine g_callV (As := As0 xs i) oM (fun _ => rfl) ?_
  refine g_go1 (Nat.le_of_ble_eq_true rfl) (Tn_w hr fun r2 G2 ⟨v2, e2, i2, hI⟩ => ?_)
  subst e2
  refine ⟨n7_I _, ?_⟩
  refine g_pop (ct_I _) ?_
  unfold vL_law_1341
  refine g_inc (lv' := [4004, rf 0, rf 16081, cI (i + 6)]) rfl (Nat.le_of_ble_eq_true rfl) (Or.inr (n1_R _)) rfl ?_
  exact hn _ hI
def call5 (I : gS → Prop) : Prop := ∀ (sc : List Nat) (xs : Int → Int), (∀ q : Int, 0 ≤ q → q < sc.length → rx_nth sc q.toNat 7 = cI (xs q) ∧ inI (xs q)) → ∀ i : Int, 0 ≤ i → i + 6 ≤ sc.length → ∀ G, I G → pair FX12_octet FX13_octet (As1 xs i) G (fun _ _ G2 => I G2)
set_option maxRecDepth 20000 in
theorem law5 (hc : call5 I) (hx : ∀ q : Int, 0 ≤ q → q < sc.length → rx_nth sc q.toNat 7 = cI (xs q) ∧ inI (xs q)) (hl : sc.length ≤ 3072) (h0 : 0 ≤ i) (h6 : i + 6 ≤ sc.length) (hG : I G) (hn : ∀ G, I G → Tg W0 (j 0) [4004, rf 0, rf 16081, cI (i + 6)] [] G Q) : Tg W0 (vL_law_379 sc j) [4004, rf 0, rf 16081, cI i] [] G Q := by
  unfold vL_law_379
  refine g_ld rfl (is_R _) ?_
  refine g_ld (v := 4004) rfl rfl ?_
  refine g_ld rfl (is_I _) ?_
  refine g_const (v := cI 1) rfl ?_
  refine g_add ?_
  refine g_xald (k := 500) (x := xs (i + 1)) (by omega) (by omega) (by omega) (hx _ (by omega) (by omega)).1 ?_
  refine g_callV (As := As1 xs i) oX (fun _ => rfl) ?_
  refine g_go1 (Nat.le_of_ble_eq_true rfl) (Tn_w (hc _ _ hx i h0 h6 G hG) fun r1 G1 ⟨v1, e1, i1, hr⟩ => ?_)
  subst e1
  refine ⟨n7_I _, ?_⟩
  refine g_pop (ct_I _) ?_
  refine g_ld rfl (is_R _) ?_
  refine g_ld (v := 4004) rfl rfl ?_
  refine g_ld rfl (is_I _) ?_
  refine g_const (v := cI 1) rfl ?_
  refine g_add ?_
  refine g_xald (k := 500) (x := xs (i + 1)) (by omega) (by omega) (by omega) (hx _ (by omega) (by omega)).1 ?_
  refine g_callV (As := As1 xs i) oM (fun _ => rfl) ?_
  refine g_go1 (Nat.le_of_ble_eq_true rfl) (Tn_w hr fun r2 G2 ⟨v2, e2, i2, hI⟩ => ?_)
  subst e2
  refine ⟨n7_I _, ?_⟩
  refine g_pop (ct_I _) ?_
  unfold vL_law_1341
  refine g_inc (lv' := [4004, rf 0, rf 16081, cI (i + 6)]) rfl (Nat.le_of_ble_eq_true rfl) (Or.inr (n1_R _)) rfl ?_
  exact hn _ hI
def call6 (I : gS → Prop) : Prop := ∀ (sc : List Nat) (xs : Int → Int), (∀ q : Int, 0 ≤ q → q < sc.length → rx_nth sc q.toNat 7 = cI (xs q) ∧ inI (xs q)) → ∀ i : Int, 0 ≤ i → i + 6 ≤ sc.length → ∀ G, I G → pair FX12_make FX13_make (As1 xs i) G (fun _ _ G2 => I G2)
set_option maxRecDepth 20000 in
theorem law6 (hc : call6 I) (hx : ∀ q : Int, 0 ≤ q → q < sc.length → rx_nth sc q.toNat 7 = cI (xs q) ∧ inI (xs q)) (hl : sc.length ≤ 3072) (h0 : 0 ≤ i) (h6 : i + 6 ≤ sc.length) (hG : I G) (hn : ∀ G, I G → Tg W0 (j 0) [4004, rf 0, rf 16081, cI (i + 6)] [] G Q) : Tg W0 (vL_law_402 sc j) [4004, rf 0, rf 16081, cI i] [] G Q := by
  unfold vL_law_402
  refine g_ld rfl (is_R _) ?_
  refine g_ld (v := 4004) rfl rfl ?_
  refine g_ld rfl (is_I _) ?_
  refine g_const (v := cI 1) rfl ?_
  refine g_add ?_
  refine g_xald (k := 500) (x := xs (i + 1)) (by omega) (by omega) (by omega) (hx _ (by omega) (by omega)).1 ?_
  refine g_callV (As := As1 xs i) oX (fun _ => rfl) ?_
  refine g_go1 (Nat.le_of_ble_eq_true rfl) (Tn_w (hc _ _ hx i h0 h6 G hG) fun r1 G1 ⟨v1, e1, i1, hr⟩ => ?_)
  subst e1
  refine ⟨n7_I _, ?_⟩
  refine g_pop (ct_I _) ?_
  refine g_ld rfl (is_R _) ?_
  refine g_ld (v := 4004) rfl rfl ?_
  refine g_ld rfl (is_I _) ?_
  refine g_const (v := cI 1) rfl ?_
  refine g_add ?_
  refine g_xald (k := 500) (x := xs (i + 1)) (by omega) (by omega) (by omega) (hx _ (by omega) (by omega)).1 ?_
  refine g_callV (As := As1 xs i) oM (fun _ => rfl) ?_
  refine g_go1 (Nat.le_of_ble_eq_true rfl) (Tn_w hr fun r2 G2 ⟨v2, e2, i2, hI⟩ => ?_)
  subst e2
  refine ⟨n7_I _, ?_⟩
  refine g_pop (ct_I _) ?_
  unfold vL_law_1341
  refine g_inc (lv' := [4004, rf 0, rf 16081, cI (i + 6)]) rfl (Nat.le_of_ble_eq_true rfl) (Or.inr (n1_R _)) rfl ?_
  exact hn _ hI
def call7 (I : gS → Prop) : Prop := ∀ (sc : List Nat) (xs : Int → Int), (∀ q : Int, 0 ≤ q → q < sc.length → rx_nth sc q.toNat 7 = cI (xs q) ∧ inI (xs q)) → ∀ i : Int, 0 ≤ i → i + 6 ≤ sc.length → ∀ G, I G → pair FX12_place FX13_place (As0 xs i) G (fun _ _ G2 => I G2)
set_option maxRecDepth 20000 in
theorem law7 (hc : call7 I) (hx : ∀ q : Int, 0 ≤ q → q < sc.length → rx_nth sc q.toNat 7 = cI (xs q) ∧ inI (xs q)) (hl : sc.length ≤ 3072) (h0 : 0 ≤ i) (h6 : i + 6 ≤ sc.length) (hG : I G) (hn : ∀ G, I G → Tg W0 (j 0) [4004, rf 0, rf 16081, cI (i + 6)] [] G Q) : Tg W0 (vL_law_425 sc j) [4004, rf 0, rf 16081, cI i] [] G Q := by
  unfold vL_law_425
  refine g_ld rfl (is_R _) ?_
  refine g_callV (As := As0 xs i) oX (fun _ => rfl) ?_
  refine g_go1 (Nat.le_of_ble_eq_true rfl) (Tn_w (hc _ _ hx i h0 h6 G hG) fun r1 G1 ⟨v1, e1, i1, hr⟩ => ?_)
  subst e1
  refine ⟨n7_I _, ?_⟩
  refine g_pop (ct_I _) ?_
  refine g_ld rfl (is_R _) ?_
  refine g_callV (As := As0 xs i) oM (fun _ => rfl) ?_
  refine g_go1 (Nat.le_of_ble_eq_true rfl) (Tn_w hr fun r2 G2 ⟨v2, e2, i2, hI⟩ => ?_)
  subst e2
  refine ⟨n7_I _, ?_⟩
  refine g_pop (ct_I _) ?_
  unfold vL_law_1341
  refine g_inc (lv' := [4004, rf 0, rf 16081, cI (i + 6)]) rfl (Nat.le_of_ble_eq_true rfl) (Or.inr (n1_R _)) rfl ?_
  exact hn _ hI
def call8 (I : gS → Prop) : Prop := ∀ (sc : List Nat) (xs : Int → Int), (∀ q : Int, 0 ≤ q → q < sc.length → rx_nth sc q.toNat 7 = cI (xs q) ∧ inI (xs q)) → ∀ i : Int, 0 ≤ i → i + 6 ≤ sc.length → ∀ G, I G → pair FX12_builds FX13_builds (As1 xs i) G (fun _ _ G2 => I G2)
set_option maxRecDepth 20000 in
theorem law8 (hc : call8 I) (hx : ∀ q : Int, 0 ≤ q → q < sc.length → rx_nth sc q.toNat 7 = cI (xs q) ∧ inI (xs q)) (hl : sc.length ≤ 3072) (h0 : 0 ≤ i) (h6 : i + 6 ≤ sc.length) (hG : I G) (hn : ∀ G, I G → Tg W0 (j 0) [4004, rf 0, rf 16081, cI (i + 6)] [] G Q) : Tg W0 (vL_law_438 sc j) [4004, rf 0, rf 16081, cI i] [] G Q := by
  unfold vL_law_438
  refine g_ld rfl (is_R _) ?_
  refine g_ld (v := 4004) rfl rfl ?_
  refine g_ld rfl (is_I _) ?_
  refine g_const (v := cI 1) rfl ?_
  refine g_add ?_
  refine g_xald (k := 500) (x := xs (i + 1)) (by omega) (by omega) (by omega) (hx _ (by omega) (by omega)).1 ?_
  refine g_callV (As := As1 xs i) oX (fun _ => rfl) ?_
  refine g_go1 (Nat.le_of_ble_eq_true rfl) (Tn_w (hc _ _ hx i h0 h6 G hG) fun r1 G1 ⟨v1, e1, i1, hr⟩ => ?_)
  subst e1
  refine ⟨n7_I _, ?_⟩
  refine g_pop (ct_I _) ?_
  refine g_ld rfl (is_R _) ?_
  refine g_ld (v := 4004) rfl rfl ?_
  refine g_ld rfl (is_I _) ?_
  refine g_const (v := cI 1) rfl ?_
  refine g_add ?_
  refine g_xald (k := 500) (x := xs (i + 1)) (by omega) (by omega) (by omega) (hx _ (by omega) (by omega)).1 ?_
  refine g_callV (As := As1 xs i) oM (fun _ => rfl) ?_
  refine g_go1 (Nat.le_of_ble_eq_true rfl) (Tn_w hr fun r2 G2 ⟨v2, e2, i2, hI⟩ => ?_)
  subst e2
  refine ⟨n7_I _, ?_⟩
  refine g_pop (ct_I _) ?_
  unfold vL_law_1341
  refine g_inc (lv' := [4004, rf 0, rf 16081, cI (i + 6)]) rfl (Nat.le_of_ble_eq_true rfl) (Or.inr (n1_R _)) rfl ?_
  exact hn _ hI
def call9 (I : gS → Prop) : Prop := ∀ (sc : List Nat) (xs : Int → Int), (∀ q : Int, 0 ≤ q → q < sc.length → rx_nth sc q.toNat 7 = cI (xs q) ∧ inI (xs q)) → ∀ i : Int, 0 ≤ i → i + 6 ≤ sc.length → ∀ G, I G → pair FX12_pick FX13_pick (As2 xs i) G (fun _ _ G2 => I G2)
set_option maxRecDepth 20000 in
theorem law9 (hc : call9 I) (hx : ∀ q : Int, 0 ≤ q → q < sc.length → rx_nth sc q.toNat 7 = cI (xs q) ∧ inI (xs q)) (hl : sc.length ≤ 3072) (h0 : 0 ≤ i) (h6 : i + 6 ≤ sc.length) (hG : I G) (hn : ∀ G, I G → Tg W0 (j 0) [4004, rf 0, rf 16081, cI (i + 6)] [] G Q) : Tg W0 (vL_law_461 sc j) [4004, rf 0, rf 16081, cI i] [] G Q := by
  unfold vL_law_461
  refine g_ld rfl (is_R _) ?_
  refine g_ld (v := 4004) rfl rfl ?_
  refine g_ld rfl (is_I _) ?_
  refine g_const (v := cI 1) rfl ?_
  refine g_add ?_
  refine g_xald (k := 500) (x := xs (i + 1)) (by omega) (by omega) (by omega) (hx _ (by omega) (by omega)).1 ?_
  refine g_ld (v := 4004) rfl rfl ?_
  refine g_ld rfl (is_I _) ?_
  refine g_const (v := cI 2) rfl ?_
  refine g_add ?_
  refine g_xald (k := 500) (x := xs (i + 2)) (by omega) (by omega) (by omega) (hx _ (by omega) (by omega)).1 ?_
  refine g_callV (As := As2 xs i) oX (fun _ => rfl) ?_
  refine g_go1 (Nat.le_of_ble_eq_true rfl) (Tn_w (hc _ _ hx i h0 h6 G hG) fun r1 G1 ⟨v1, e1, i1, hr⟩ => ?_)
  subst e1
  refine ⟨n7_I _, ?_⟩
  refine g_pop (ct_I _) ?_
  refine g_ld rfl (is_R _) ?_
  refine g_ld (v := 4004) rfl rfl ?_
  refine g_ld rfl (is_I _) ?_
  refine g_const (v := cI 1) rfl ?_
  refine g_add ?_
  refine g_xald (k := 500) (x := xs (i + 1)) (by omega) (by omega) (by omega) (hx _ (by omega) (by omega)).1 ?_
  refine g_ld (v := 4004) rfl rfl ?_
  refine g_ld rfl (is_I _) ?_
  refine g_const (v := cI 2) rfl ?_
  refine g_add ?_
  refine g_xald (k := 500) (x := xs (i + 2)) (by omega) (by omega) (by omega) (hx _ (by omega) (by omega)).1 ?_
  unfold vL_law_487
  refine g_callV (As := As2 xs i) oM (fun _ => rfl) ?_
  refine g_go1 (Nat.le_of_ble_eq_true rfl) (Tn_w hr fun r2 G2 ⟨v2, e2, i2, hI⟩ => ?_)
  subst e2
  refine ⟨n7_I _, ?_⟩
  refine g_pop (ct_I _) ?_
  unfold vL_law_1341
  refine g_inc (lv' := [4004, rf 0, rf 16081, cI (i + 6)]) rfl (Nat.le_of_ble_eq_true rfl) (Or.inr (n1_R _)) rfl ?_
  exact hn _ hI
def call10 (I : gS → Prop) : Prop := ∀ (sc : List Nat) (xs : Int → Int), (∀ q : Int, 0 ≤ q → q < sc.length → rx_nth sc q.toNat 7 = cI (xs q) ∧ inI (xs q)) → ∀ i : Int, 0 ≤ i → i + 6 ≤ sc.length → ∀ G, I G → pair FX12_picked FX13_picked (As1 xs i) G (fun _ _ G2 => I G2)
set_option maxRecDepth 20000 in
theorem law10 (hc : call10 I) (hx : ∀ q : Int, 0 ≤ q → q < sc.length → rx_nth sc q.toNat 7 = cI (xs q) ∧ inI (xs q)) (hl : sc.length ≤ 3072) (h0 : 0 ≤ i) (h6 : i + 6 ≤ sc.length) (hG : I G) (hn : ∀ G, I G → Tg W0 (j 0) [4004, rf 0, rf 16081, cI (i + 6)] [] G Q) : Tg W0 (vL_law_494 sc j) [4004, rf 0, rf 16081, cI i] [] G Q := by
  unfold vL_law_494
  refine g_ld rfl (is_R _) ?_
  refine g_ld (v := 4004) rfl rfl ?_
  refine g_ld rfl (is_I _) ?_
  refine g_const (v := cI 1) rfl ?_
  refine g_add ?_
  refine g_xald (k := 500) (x := xs (i + 1)) (by omega) (by omega) (by omega) (hx _ (by omega) (by omega)).1 ?_
  refine g_callV (As := As1 xs i) oX (fun _ => rfl) ?_
  refine g_go1 (Nat.le_of_ble_eq_true rfl) (Tn_w (hc _ _ hx i h0 h6 G hG) fun r1 G1 ⟨v1, e1, i1, hr⟩ => ?_)
  subst e1
  refine ⟨n7_I _, ?_⟩
  refine g_pop (ct_I _) ?_
  refine g_ld rfl (is_R _) ?_
  refine g_ld (v := 4004) rfl rfl ?_
  refine g_ld rfl (is_I _) ?_
  refine g_const (v := cI 1) rfl ?_
  refine g_add ?_
  refine g_xald (k := 500) (x := xs (i + 1)) (by omega) (by omega) (by omega) (hx _ (by omega) (by omega)).1 ?_
  refine g_callV (As := As1 xs i) oM (fun _ => rfl) ?_
  refine g_go1 (Nat.le_of_ble_eq_true rfl) (Tn_w hr fun r2 G2 ⟨v2, e2, i2, hI⟩ => ?_)
  subst e2
  refine ⟨n7_I _, ?_⟩
  refine g_pop (ct_I _) ?_
  unfold vL_law_1341
  refine g_inc (lv' := [4004, rf 0, rf 16081, cI (i + 6)]) rfl (Nat.le_of_ble_eq_true rfl) (Or.inr (n1_R _)) rfl ?_
  exact hn _ hI
def call11 (I : gS → Prop) : Prop := ∀ (sc : List Nat) (xs : Int → Int), (∀ q : Int, 0 ≤ q → q < sc.length → rx_nth sc q.toNat 7 = cI (xs q) ∧ inI (xs q)) → ∀ i : Int, 0 ≤ i → i + 6 ≤ sc.length → ∀ G, I G → pair FX12_classes FX13_classes (As2 xs i) G (fun _ _ G2 => I G2)
set_option maxRecDepth 20000 in
theorem law11 (hc : call11 I) (hx : ∀ q : Int, 0 ≤ q → q < sc.length → rx_nth sc q.toNat 7 = cI (xs q) ∧ inI (xs q)) (hl : sc.length ≤ 3072) (h0 : 0 ≤ i) (h6 : i + 6 ≤ sc.length) (hG : I G) (hn : ∀ G, I G → Tg W0 (j 0) [4004, rf 0, rf 16081, cI (i + 6)] [] G Q) : Tg W0 (vL_law_517 sc j) [4004, rf 0, rf 16081, cI i] [] G Q := by
  unfold vL_law_517
  refine g_ld rfl (is_R _) ?_
  refine g_ld (v := 4004) rfl rfl ?_
  refine g_ld rfl (is_I _) ?_
  refine g_const (v := cI 1) rfl ?_
  refine g_add ?_
  refine g_xald (k := 500) (x := xs (i + 1)) (by omega) (by omega) (by omega) (hx _ (by omega) (by omega)).1 ?_
  refine g_ld (v := 4004) rfl rfl ?_
  refine g_ld rfl (is_I _) ?_
  refine g_const (v := cI 2) rfl ?_
  refine g_add ?_
  refine g_xald (k := 500) (x := xs (i + 2)) (by omega) (by omega) (by omega) (hx _ (by omega) (by omega)).1 ?_
  refine g_callV (As := As2 xs i) oX (fun _ => rfl) ?_
  refine g_go1 (Nat.le_of_ble_eq_true rfl) (Tn_w (hc _ _ hx i h0 h6 G hG) fun r1 G1 ⟨v1, e1, i1, hr⟩ => ?_)
  subst e1
  refine ⟨n7_I _, ?_⟩
  refine g_pop (ct_I _) ?_
  refine g_ld rfl (is_R _) ?_
  refine g_ld (v := 4004) rfl rfl ?_
  refine g_ld rfl (is_I _) ?_
  refine g_const (v := cI 1) rfl ?_
  refine g_add ?_
  refine g_xald (k := 500) (x := xs (i + 1)) (by omega) (by omega) (by omega) (hx _ (by omega) (by omega)).1 ?_
  refine g_ld (v := 4004) rfl rfl ?_
  refine g_ld rfl (is_I _) ?_
  refine g_const (v := cI 2) rfl ?_
  refine g_add ?_
  refine g_xald (k := 500) (x := xs (i + 2)) (by omega) (by omega) (by omega) (hx _ (by omega) (by omega)).1 ?_
  unfold vL_law_543
  refine g_callV (As := As2 xs i) oM (fun _ => rfl) ?_
  refine g_go1 (Nat.le_of_ble_eq_true rfl) (Tn_w hr fun r2 G2 ⟨v2, e2, i2, hI⟩ => ?_)
  subst e2
  refine ⟨n7_I _, ?_⟩
  refine g_pop (ct_I _) ?_
  unfold vL_law_1341
  refine g_inc (lv' := [4004, rf 0, rf 16081, cI (i + 6)]) rfl (Nat.le_of_ble_eq_true rfl) (Or.inr (n1_R _)) rfl ?_
  exact hn _ hI
def call12 (I : gS → Prop) : Prop := ∀ (sc : List Nat) (xs : Int → Int), (∀ q : Int, 0 ≤ q → q < sc.length → rx_nth sc q.toNat 7 = cI (xs q) ∧ inI (xs q)) → ∀ i : Int, 0 ≤ i → i + 6 ≤ sc.length → ∀ G, I G → pair FX12_members FX13_members (As3 xs i) G (fun _ _ G2 => I G2)
set_option maxRecDepth 20000 in
theorem law12 (hc : call12 I) (hx : ∀ q : Int, 0 ≤ q → q < sc.length → rx_nth sc q.toNat 7 = cI (xs q) ∧ inI (xs q)) (hl : sc.length ≤ 3072) (h0 : 0 ≤ i) (h6 : i + 6 ≤ sc.length) (hG : I G) (hn : ∀ G, I G → Tg W0 (j 0) [4004, rf 0, rf 16081, cI (i + 6)] [] G Q) : Tg W0 (vL_law_550 sc j) [4004, rf 0, rf 16081, cI i] [] G Q := by
  unfold vL_law_550
  refine g_ld rfl (is_R _) ?_
  refine g_ld (v := 4004) rfl rfl ?_
  refine g_ld rfl (is_I _) ?_
  refine g_const (v := cI 1) rfl ?_
  refine g_add ?_
  refine g_xald (k := 500) (x := xs (i + 1)) (by omega) (by omega) (by omega) (hx _ (by omega) (by omega)).1 ?_
  refine g_ld (v := 4004) rfl rfl ?_
  refine g_ld rfl (is_I _) ?_
  refine g_const (v := cI 2) rfl ?_
  refine g_add ?_
  refine g_xald (k := 500) (x := xs (i + 2)) (by omega) (by omega) (by omega) (hx _ (by omega) (by omega)).1 ?_
  refine g_ld (v := 4004) rfl rfl ?_
  refine g_ld rfl (is_I _) ?_
  refine g_const (v := cI 3) rfl ?_
  refine g_add ?_
  refine g_xald (k := 500) (x := xs (i + 3)) (by omega) (by omega) (by omega) (hx _ (by omega) (by omega)).1 ?_
  refine g_callV (As := As3 xs i) oX (fun _ => rfl) ?_
  refine g_go1 (Nat.le_of_ble_eq_true rfl) (Tn_w (hc _ _ hx i h0 h6 G hG) fun r1 G1 ⟨v1, e1, i1, hr⟩ => ?_)
  subst e1
  refine ⟨n7_I _, ?_⟩
  refine g_pop (ct_I _) ?_
  refine g_ld rfl (is_R _) ?_
  refine g_ld (v := 4004) rfl rfl ?_
  refine g_ld rfl (is_I _) ?_
  refine g_const (v := cI 1) rfl ?_
  refine g_add ?_
  refine g_xald (k := 500) (x := xs (i + 1)) (by omega) (by omega) (by omega) (hx _ (by omega) (by omega)).1 ?_
  unfold vL_law_576
  refine g_ld (v := 4004) rfl rfl ?_
  refine g_ld rfl (is_I _) ?_
  refine g_const (v := cI 2) rfl ?_
  refine g_add ?_
  refine g_xald (k := 500) (x := xs (i + 2)) (by omega) (by omega) (by omega) (hx _ (by omega) (by omega)).1 ?_
  refine g_ld (v := 4004) rfl rfl ?_
  refine g_ld rfl (is_I _) ?_
  refine g_const (v := cI 3) rfl ?_
  refine g_add ?_
  refine g_xald (k := 500) (x := xs (i + 3)) (by omega) (by omega) (by omega) (hx _ (by omega) (by omega)).1 ?_
  refine g_callV (As := As3 xs i) oM (fun _ => rfl) ?_
  refine g_go1 (Nat.le_of_ble_eq_true rfl) (Tn_w hr fun r2 G2 ⟨v2, e2, i2, hI⟩ => ?_)
  subst e2
  refine ⟨n7_I _, ?_⟩
  refine g_pop (ct_I _) ?_
  unfold vL_law_1341
  refine g_inc (lv' := [4004, rf 0, rf 16081, cI (i + 6)]) rfl (Nat.le_of_ble_eq_true rfl) (Or.inr (n1_R _)) rfl ?_
  exact hn _ hI
def call13 (I : gS → Prop) : Prop := ∀ (sc : List Nat) (xs : Int → Int), (∀ q : Int, 0 ≤ q → q < sc.length → rx_nth sc q.toNat 7 = cI (xs q) ∧ inI (xs q)) → ∀ i : Int, 0 ≤ i → i + 6 ≤ sc.length → ∀ G, I G → pair FX12_shape FX13_shape (As4 xs i) G (fun _ _ G2 => I G2)
set_option maxRecDepth 20000 in
theorem law13 (hc : call13 I) (hx : ∀ q : Int, 0 ≤ q → q < sc.length → rx_nth sc q.toNat 7 = cI (xs q) ∧ inI (xs q)) (hl : sc.length ≤ 3072) (h0 : 0 ≤ i) (h6 : i + 6 ≤ sc.length) (hG : I G) (hn : ∀ G, I G → Tg W0 (j 0) [4004, rf 0, rf 16081, cI (i + 6)] [] G Q) : Tg W0 (vL_law_593 sc j) [4004, rf 0, rf 16081, cI i] [] G Q := by
  unfold vL_law_593
  refine g_ld rfl (is_R _) ?_
  refine g_ld (v := 4004) rfl rfl ?_
  refine g_ld rfl (is_I _) ?_
  refine g_const (v := cI 1) rfl ?_
  refine g_add ?_
  refine g_xald (k := 500) (x := xs (i + 1)) (by omega) (by omega) (by omega) (hx _ (by omega) (by omega)).1 ?_
  refine g_ld (v := 4004) rfl rfl ?_
  refine g_ld rfl (is_I _) ?_
  refine g_const (v := cI 2) rfl ?_
  refine g_add ?_
  refine g_xald (k := 500) (x := xs (i + 2)) (by omega) (by omega) (by omega) (hx _ (by omega) (by omega)).1 ?_
  refine g_ld (v := 4004) rfl rfl ?_
  refine g_ld rfl (is_I _) ?_
  refine g_const (v := cI 3) rfl ?_
  refine g_add ?_
  refine g_xald (k := 500) (x := xs (i + 3)) (by omega) (by omega) (by omega) (hx _ (by omega) (by omega)).1 ?_
  refine g_ld (v := 4004) rfl rfl ?_
  refine g_ld rfl (is_I _) ?_
  refine g_const (v := cI 4) rfl ?_
  refine g_add ?_
  refine g_xald (k := 500) (x := xs (i + 4)) (by omega) (by omega) (by omega) (hx _ (by omega) (by omega)).1 ?_
  refine g_callV (As := As4 xs i) oX (fun _ => rfl) ?_
  refine g_go1 (Nat.le_of_ble_eq_true rfl) (Tn_w (hc _ _ hx i h0 h6 G hG) fun r1 G1 ⟨v1, e1, i1, hr⟩ => ?_)
  subst e1
  refine ⟨n7_I _, ?_⟩
  refine g_pop (ct_I _) ?_
  refine g_ld rfl (is_R _) ?_
  unfold vL_law_619
  refine g_ld (v := 4004) rfl rfl ?_
  refine g_ld rfl (is_I _) ?_
  refine g_const (v := cI 1) rfl ?_
  refine g_add ?_
  refine g_xald (k := 500) (x := xs (i + 1)) (by omega) (by omega) (by omega) (hx _ (by omega) (by omega)).1 ?_
  refine g_ld (v := 4004) rfl rfl ?_
  refine g_ld rfl (is_I _) ?_
  refine g_const (v := cI 2) rfl ?_
  refine g_add ?_
  refine g_xald (k := 500) (x := xs (i + 2)) (by omega) (by omega) (by omega) (hx _ (by omega) (by omega)).1 ?_
  refine g_ld (v := 4004) rfl rfl ?_
  refine g_ld rfl (is_I _) ?_
  refine g_const (v := cI 3) rfl ?_
  refine g_add ?_
  refine g_xald (k := 500) (x := xs (i + 3)) (by omega) (by omega) (by omega) (hx _ (by omega) (by omega)).1 ?_
  refine g_ld (v := 4004) rfl rfl ?_
  refine g_ld rfl (is_I _) ?_
  refine g_const (v := cI 4) rfl ?_
  refine g_add ?_
  refine g_xald (k := 500) (x := xs (i + 4)) (by omega) (by omega) (by omega) (hx _ (by omega) (by omega)).1 ?_
  refine g_callV (As := As4 xs i) oM (fun _ => rfl) ?_
  refine g_go1 (Nat.le_of_ble_eq_true rfl) (Tn_w hr fun r2 G2 ⟨v2, e2, i2, hI⟩ => ?_)
  subst e2
  refine ⟨n7_I _, ?_⟩
  refine g_pop (ct_I _) ?_
  unfold vL_law_1341
  refine g_inc (lv' := [4004, rf 0, rf 16081, cI (i + 6)]) rfl (Nat.le_of_ble_eq_true rfl) (Or.inr (n1_R _)) rfl ?_
  exact hn _ hI
def call14 (I : gS → Prop) : Prop := ∀ (sc : List Nat) (xs : Int → Int), (∀ q : Int, 0 ≤ q → q < sc.length → rx_nth sc q.toNat 7 = cI (xs q) ∧ inI (xs q)) → ∀ i : Int, 0 ≤ i → i + 6 ≤ sc.length → ∀ G, I G → pair FX12_uses FX13_uses (As2 xs i) G (fun _ _ G2 => I G2)
set_option maxRecDepth 20000 in
theorem law14 (hc : call14 I) (hx : ∀ q : Int, 0 ≤ q → q < sc.length → rx_nth sc q.toNat 7 = cI (xs q) ∧ inI (xs q)) (hl : sc.length ≤ 3072) (h0 : 0 ≤ i) (h6 : i + 6 ≤ sc.length) (hG : I G) (hn : ∀ G, I G → Tg W0 (j 0) [4004, rf 0, rf 16081, cI (i + 6)] [] G Q) : Tg W0 (vL_law_646 sc j) [4004, rf 0, rf 16081, cI i] [] G Q := by
  unfold vL_law_646
  refine g_ld rfl (is_R _) ?_
  refine g_ld (v := 4004) rfl rfl ?_
  refine g_ld rfl (is_I _) ?_
  refine g_const (v := cI 1) rfl ?_
  refine g_add ?_
  refine g_xald (k := 500) (x := xs (i + 1)) (by omega) (by omega) (by omega) (hx _ (by omega) (by omega)).1 ?_
  refine g_ld (v := 4004) rfl rfl ?_
  refine g_ld rfl (is_I _) ?_
  refine g_const (v := cI 2) rfl ?_
  refine g_add ?_
  refine g_xald (k := 500) (x := xs (i + 2)) (by omega) (by omega) (by omega) (hx _ (by omega) (by omega)).1 ?_
  refine g_callV (As := As2 xs i) oX (fun _ => rfl) ?_
  refine g_go1 (Nat.le_of_ble_eq_true rfl) (Tn_w (hc _ _ hx i h0 h6 G hG) fun r1 G1 ⟨v1, e1, i1, hr⟩ => ?_)
  subst e1
  refine ⟨n7_I _, ?_⟩
  refine g_pop (ct_I _) ?_
  refine g_ld rfl (is_R _) ?_
  refine g_ld (v := 4004) rfl rfl ?_
  refine g_ld rfl (is_I _) ?_
  refine g_const (v := cI 1) rfl ?_
  refine g_add ?_
  refine g_xald (k := 500) (x := xs (i + 1)) (by omega) (by omega) (by omega) (hx _ (by omega) (by omega)).1 ?_
  refine g_ld (v := 4004) rfl rfl ?_
  refine g_ld rfl (is_I _) ?_
  refine g_const (v := cI 2) rfl ?_
  refine g_add ?_
  refine g_xald (k := 500) (x := xs (i + 2)) (by omega) (by omega) (by omega) (hx _ (by omega) (by omega)).1 ?_
  unfold vL_law_672
  refine g_callV (As := As2 xs i) oM (fun _ => rfl) ?_
  refine g_go1 (Nat.le_of_ble_eq_true rfl) (Tn_w hr fun r2 G2 ⟨v2, e2, i2, hI⟩ => ?_)
  subst e2
  refine ⟨n7_I _, ?_⟩
  refine g_pop (ct_I _) ?_
  unfold vL_law_1341
  refine g_inc (lv' := [4004, rf 0, rf 16081, cI (i + 6)]) rfl (Nat.le_of_ble_eq_true rfl) (Or.inr (n1_R _)) rfl ?_
  exact hn _ hI
def call15 (I : gS → Prop) : Prop := ∀ (sc : List Nat) (xs : Int → Int), (∀ q : Int, 0 ≤ q → q < sc.length → rx_nth sc q.toNat 7 = cI (xs q) ∧ inI (xs q)) → ∀ i : Int, 0 ≤ i → i + 6 ≤ sc.length → ∀ G, I G → pair FX12_use FX13_use (As4 xs i) G (fun _ _ G2 => I G2)
set_option maxRecDepth 20000 in
theorem law15 (hc : call15 I) (hx : ∀ q : Int, 0 ≤ q → q < sc.length → rx_nth sc q.toNat 7 = cI (xs q) ∧ inI (xs q)) (hl : sc.length ≤ 3072) (h0 : 0 ≤ i) (h6 : i + 6 ≤ sc.length) (hG : I G) (hn : ∀ G, I G → Tg W0 (j 0) [4004, rf 0, rf 16081, cI (i + 6)] [] G Q) : Tg W0 (vL_law_679 sc j) [4004, rf 0, rf 16081, cI i] [] G Q := by
  unfold vL_law_679
  refine g_ld rfl (is_R _) ?_
  refine g_ld (v := 4004) rfl rfl ?_
  refine g_ld rfl (is_I _) ?_
  refine g_const (v := cI 1) rfl ?_
  refine g_add ?_
  refine g_xald (k := 500) (x := xs (i + 1)) (by omega) (by omega) (by omega) (hx _ (by omega) (by omega)).1 ?_
  refine g_ld (v := 4004) rfl rfl ?_
  refine g_ld rfl (is_I _) ?_
  refine g_const (v := cI 2) rfl ?_
  refine g_add ?_
  refine g_xald (k := 500) (x := xs (i + 2)) (by omega) (by omega) (by omega) (hx _ (by omega) (by omega)).1 ?_
  refine g_ld (v := 4004) rfl rfl ?_
  refine g_ld rfl (is_I _) ?_
  refine g_const (v := cI 3) rfl ?_
  refine g_add ?_
  refine g_xald (k := 500) (x := xs (i + 3)) (by omega) (by omega) (by omega) (hx _ (by omega) (by omega)).1 ?_
  refine g_ld (v := 4004) rfl rfl ?_
  refine g_ld rfl (is_I _) ?_
  refine g_const (v := cI 4) rfl ?_
  refine g_add ?_
  refine g_xald (k := 500) (x := xs (i + 4)) (by omega) (by omega) (by omega) (hx _ (by omega) (by omega)).1 ?_
  refine g_callV (As := As4 xs i) oX (fun _ => rfl) ?_
  refine g_go1 (Nat.le_of_ble_eq_true rfl) (Tn_w (hc _ _ hx i h0 h6 G hG) fun r1 G1 ⟨v1, e1, i1, hr⟩ => ?_)
  subst e1
  refine ⟨n7_I _, ?_⟩
  refine g_pop (ct_I _) ?_
  refine g_ld rfl (is_R _) ?_
  unfold vL_law_705
  refine g_ld (v := 4004) rfl rfl ?_
  refine g_ld rfl (is_I _) ?_
  refine g_const (v := cI 1) rfl ?_
  refine g_add ?_
  refine g_xald (k := 500) (x := xs (i + 1)) (by omega) (by omega) (by omega) (hx _ (by omega) (by omega)).1 ?_
  refine g_ld (v := 4004) rfl rfl ?_
  refine g_ld rfl (is_I _) ?_
  refine g_const (v := cI 2) rfl ?_
  refine g_add ?_
  refine g_xald (k := 500) (x := xs (i + 2)) (by omega) (by omega) (by omega) (hx _ (by omega) (by omega)).1 ?_
  refine g_ld (v := 4004) rfl rfl ?_
  refine g_ld rfl (is_I _) ?_
  refine g_const (v := cI 3) rfl ?_
  refine g_add ?_
  refine g_xald (k := 500) (x := xs (i + 3)) (by omega) (by omega) (by omega) (hx _ (by omega) (by omega)).1 ?_
  refine g_ld (v := 4004) rfl rfl ?_
  refine g_ld rfl (is_I _) ?_
  refine g_const (v := cI 4) rfl ?_
  refine g_add ?_
  refine g_xald (k := 500) (x := xs (i + 4)) (by omega) (by omega) (by omega) (hx _ (by omega) (by omega)).1 ?_
  refine g_callV (As := As4 xs i) oM (fun _ => rfl) ?_
  refine g_go1 (Nat.le_of_ble_eq_true rfl) (Tn_w hr fun r2 G2 ⟨v2, e2, i2, hI⟩ => ?_)
  subst e2
  refine ⟨n7_I _, ?_⟩
  refine g_pop (ct_I _) ?_
  unfold vL_law_1341
  refine g_inc (lv' := [4004, rf 0, rf 16081, cI (i + 6)]) rfl (Nat.le_of_ble_eq_true rfl) (Or.inr (n1_R _)) rfl ?_
  exact hn _ hI
def call16 (I : gS → Prop) : Prop := ∀ (sc : List Nat) (xs : Int → Int), (∀ q : Int, 0 ≤ q → q < sc.length → rx_nth sc q.toNat 7 = cI (xs q) ∧ inI (xs q)) → ∀ i : Int, 0 ≤ i → i + 6 ≤ sc.length → ∀ G, I G → pair FX12_tell FX13_tell (As3 xs i) G (fun _ _ G2 => I G2)
set_option maxRecDepth 20000 in
theorem law16 (hc : call16 I) (hx : ∀ q : Int, 0 ≤ q → q < sc.length → rx_nth sc q.toNat 7 = cI (xs q) ∧ inI (xs q)) (hl : sc.length ≤ 3072) (h0 : 0 ≤ i) (h6 : i + 6 ≤ sc.length) (hG : I G) (hn : ∀ G, I G → Tg W0 (j 0) [4004, rf 0, rf 16081, cI (i + 6)] [] G Q) : Tg W0 (vL_law_732 sc j) [4004, rf 0, rf 16081, cI i] [] G Q := by
  unfold vL_law_732
  refine g_ld rfl (is_R _) ?_
  refine g_ld (v := 4004) rfl rfl ?_
  refine g_ld rfl (is_I _) ?_
  refine g_const (v := cI 1) rfl ?_
  refine g_add ?_
  refine g_xald (k := 500) (x := xs (i + 1)) (by omega) (by omega) (by omega) (hx _ (by omega) (by omega)).1 ?_
  refine g_ld (v := 4004) rfl rfl ?_
  refine g_ld rfl (is_I _) ?_
  refine g_const (v := cI 2) rfl ?_
  refine g_add ?_
  refine g_xald (k := 500) (x := xs (i + 2)) (by omega) (by omega) (by omega) (hx _ (by omega) (by omega)).1 ?_
  refine g_ld (v := 4004) rfl rfl ?_
  refine g_ld rfl (is_I _) ?_
  refine g_const (v := cI 3) rfl ?_
  refine g_add ?_
  refine g_xald (k := 500) (x := xs (i + 3)) (by omega) (by omega) (by omega) (hx _ (by omega) (by omega)).1 ?_
  refine g_callV (As := As3 xs i) oX (fun _ => rfl) ?_
  refine g_go1 (Nat.le_of_ble_eq_true rfl) (Tn_w (hc _ _ hx i h0 h6 G hG) fun r1 G1 ⟨v1, e1, i1, hr⟩ => ?_)
  subst e1
  refine ⟨n7_I _, ?_⟩
  refine g_pop (ct_I _) ?_
  refine g_ld rfl (is_R _) ?_
  refine g_ld (v := 4004) rfl rfl ?_
  refine g_ld rfl (is_I _) ?_
  refine g_const (v := cI 1) rfl ?_
  refine g_add ?_
  refine g_xald (k := 500) (x := xs (i + 1)) (by omega) (by omega) (by omega) (hx _ (by omega) (by omega)).1 ?_
  unfold vL_law_758
  refine g_ld (v := 4004) rfl rfl ?_
  refine g_ld rfl (is_I _) ?_
  refine g_const (v := cI 2) rfl ?_
  refine g_add ?_
  refine g_xald (k := 500) (x := xs (i + 2)) (by omega) (by omega) (by omega) (hx _ (by omega) (by omega)).1 ?_
  refine g_ld (v := 4004) rfl rfl ?_
  refine g_ld rfl (is_I _) ?_
  refine g_const (v := cI 3) rfl ?_
  refine g_add ?_
  refine g_xald (k := 500) (x := xs (i + 3)) (by omega) (by omega) (by omega) (hx _ (by omega) (by omega)).1 ?_
  refine g_callV (As := As3 xs i) oM (fun _ => rfl) ?_
  refine g_go1 (Nat.le_of_ble_eq_true rfl) (Tn_w hr fun r2 G2 ⟨v2, e2, i2, hI⟩ => ?_)
  subst e2
  refine ⟨n7_I _, ?_⟩
  refine g_pop (ct_I _) ?_
  unfold vL_law_1341
  refine g_inc (lv' := [4004, rf 0, rf 16081, cI (i + 6)]) rfl (Nat.le_of_ble_eq_true rfl) (Or.inr (n1_R _)) rfl ?_
  exact hn _ hI
def call17 (I : gS → Prop) : Prop := ∀ (sc : List Nat) (xs : Int → Int), (∀ q : Int, 0 ≤ q → q < sc.length → rx_nth sc q.toNat 7 = cI (xs q) ∧ inI (xs q)) → ∀ i : Int, 0 ≤ i → i + 6 ≤ sc.length → ∀ G, I G → pair FX12_meet FX13_meet (As3 xs i) G (fun _ _ G2 => I G2)
set_option maxRecDepth 20000 in
theorem law17 (hc : call17 I) (hx : ∀ q : Int, 0 ≤ q → q < sc.length → rx_nth sc q.toNat 7 = cI (xs q) ∧ inI (xs q)) (hl : sc.length ≤ 3072) (h0 : 0 ≤ i) (h6 : i + 6 ≤ sc.length) (hG : I G) (hn : ∀ G, I G → Tg W0 (j 0) [4004, rf 0, rf 16081, cI (i + 6)] [] G Q) : Tg W0 (vL_law_775 sc j) [4004, rf 0, rf 16081, cI i] [] G Q := by
  unfold vL_law_775
  refine g_ld rfl (is_R _) ?_
  refine g_ld (v := 4004) rfl rfl ?_
  refine g_ld rfl (is_I _) ?_
  refine g_const (v := cI 1) rfl ?_
  refine g_add ?_
  refine g_xald (k := 500) (x := xs (i + 1)) (by omega) (by omega) (by omega) (hx _ (by omega) (by omega)).1 ?_
  refine g_ld (v := 4004) rfl rfl ?_
  refine g_ld rfl (is_I _) ?_
  refine g_const (v := cI 2) rfl ?_
  refine g_add ?_
  refine g_xald (k := 500) (x := xs (i + 2)) (by omega) (by omega) (by omega) (hx _ (by omega) (by omega)).1 ?_
  refine g_ld (v := 4004) rfl rfl ?_
  refine g_ld rfl (is_I _) ?_
  refine g_const (v := cI 3) rfl ?_
  refine g_add ?_
  refine g_xald (k := 500) (x := xs (i + 3)) (by omega) (by omega) (by omega) (hx _ (by omega) (by omega)).1 ?_
  refine g_callV (As := As3 xs i) oX (fun _ => rfl) ?_
  refine g_go1 (Nat.le_of_ble_eq_true rfl) (Tn_w (hc _ _ hx i h0 h6 G hG) fun r1 G1 ⟨v1, e1, i1, hr⟩ => ?_)
  subst e1
  refine ⟨n7_I _, ?_⟩
  refine g_pop (ct_I _) ?_
  refine g_ld rfl (is_R _) ?_
  refine g_ld (v := 4004) rfl rfl ?_
  refine g_ld rfl (is_I _) ?_
  refine g_const (v := cI 1) rfl ?_
  refine g_add ?_
  refine g_xald (k := 500) (x := xs (i + 1)) (by omega) (by omega) (by omega) (hx _ (by omega) (by omega)).1 ?_
  unfold vL_law_801
  refine g_ld (v := 4004) rfl rfl ?_
  refine g_ld rfl (is_I _) ?_
  refine g_const (v := cI 2) rfl ?_
  refine g_add ?_
  refine g_xald (k := 500) (x := xs (i + 2)) (by omega) (by omega) (by omega) (hx _ (by omega) (by omega)).1 ?_
  refine g_ld (v := 4004) rfl rfl ?_
  refine g_ld rfl (is_I _) ?_
  refine g_const (v := cI 3) rfl ?_
  refine g_add ?_
  refine g_xald (k := 500) (x := xs (i + 3)) (by omega) (by omega) (by omega) (hx _ (by omega) (by omega)).1 ?_
  refine g_callV (As := As3 xs i) oM (fun _ => rfl) ?_
  refine g_go1 (Nat.le_of_ble_eq_true rfl) (Tn_w hr fun r2 G2 ⟨v2, e2, i2, hI⟩ => ?_)
  subst e2
  refine ⟨n7_I _, ?_⟩
  refine g_pop (ct_I _) ?_
  unfold vL_law_1341
  refine g_inc (lv' := [4004, rf 0, rf 16081, cI (i + 6)]) rfl (Nat.le_of_ble_eq_true rfl) (Or.inr (n1_R _)) rfl ?_
  exact hn _ hI
def call18 (I : gS → Prop) : Prop := ∀ (sc : List Nat) (xs : Int → Int), (∀ q : Int, 0 ≤ q → q < sc.length → rx_nth sc q.toNat 7 = cI (xs q) ∧ inI (xs q)) → ∀ i : Int, 0 ≤ i → i + 6 ≤ sc.length → ∀ G, I G → pair FX12_met FX13_met (As0 xs i) G (fun _ _ G2 => I G2)
set_option maxRecDepth 20000 in
theorem law18 (hc : call18 I) (hx : ∀ q : Int, 0 ≤ q → q < sc.length → rx_nth sc q.toNat 7 = cI (xs q) ∧ inI (xs q)) (hl : sc.length ≤ 3072) (h0 : 0 ≤ i) (h6 : i + 6 ≤ sc.length) (hG : I G) (hn : ∀ G, I G → Tg W0 (j 0) [4004, rf 0, rf 16081, cI (i + 6)] [] G Q) : Tg W0 (vL_law_818 sc j) [4004, rf 0, rf 16081, cI i] [] G Q := by
  unfold vL_law_818
  refine g_ld rfl (is_R _) ?_
  refine g_callV (As := As0 xs i) oX (fun _ => rfl) ?_
  refine g_go1 (Nat.le_of_ble_eq_true rfl) (Tn_w (hc _ _ hx i h0 h6 G hG) fun r1 G1 ⟨v1, e1, i1, hr⟩ => ?_)
  subst e1
  refine ⟨n7_I _, ?_⟩
  refine g_pop (ct_I _) ?_
  refine g_ld rfl (is_R _) ?_
  refine g_callV (As := As0 xs i) oM (fun _ => rfl) ?_
  refine g_go1 (Nat.le_of_ble_eq_true rfl) (Tn_w hr fun r2 G2 ⟨v2, e2, i2, hI⟩ => ?_)
  subst e2
  refine ⟨n7_I _, ?_⟩
  refine g_pop (ct_I _) ?_
  unfold vL_law_1341
  refine g_inc (lv' := [4004, rf 0, rf 16081, cI (i + 6)]) rfl (Nat.le_of_ble_eq_true rfl) (Or.inr (n1_R _)) rfl ?_
  exact hn _ hI
def call19 (I : gS → Prop) : Prop := ∀ (sc : List Nat) (xs : Int → Int), (∀ q : Int, 0 ≤ q → q < sc.length → rx_nth sc q.toNat 7 = cI (xs q) ∧ inI (xs q)) → ∀ i : Int, 0 ≤ i → i + 6 ≤ sc.length → ∀ G, I G → pair FX12_looked FX13_looked (As1 xs i) G (fun _ _ G2 => I G2)
set_option maxRecDepth 20000 in
theorem law19 (hc : call19 I) (hx : ∀ q : Int, 0 ≤ q → q < sc.length → rx_nth sc q.toNat 7 = cI (xs q) ∧ inI (xs q)) (hl : sc.length ≤ 3072) (h0 : 0 ≤ i) (h6 : i + 6 ≤ sc.length) (hG : I G) (hn : ∀ G, I G → Tg W0 (j 0) [4004, rf 0, rf 16081, cI (i + 6)] [] G Q) : Tg W0 (vL_law_831 sc j) [4004, rf 0, rf 16081, cI i] [] G Q := by
  unfold vL_law_831
  refine g_ld rfl (is_R _) ?_
  refine g_ld (v := 4004) rfl rfl ?_
  refine g_ld rfl (is_I _) ?_
  refine g_const (v := cI 1) rfl ?_
  refine g_add ?_
  refine g_xald (k := 500) (x := xs (i + 1)) (by omega) (by omega) (by omega) (hx _ (by omega) (by omega)).1 ?_
  refine g_callV (As := As1 xs i) oX (fun _ => rfl) ?_
  refine g_go1 (Nat.le_of_ble_eq_true rfl) (Tn_w (hc _ _ hx i h0 h6 G hG) fun r1 G1 ⟨v1, e1, i1, hr⟩ => ?_)
  subst e1
  refine ⟨n7_I _, ?_⟩
  refine g_pop (ct_I _) ?_
  refine g_ld rfl (is_R _) ?_
  refine g_ld (v := 4004) rfl rfl ?_
  refine g_ld rfl (is_I _) ?_
  refine g_const (v := cI 1) rfl ?_
  refine g_add ?_
  refine g_xald (k := 500) (x := xs (i + 1)) (by omega) (by omega) (by omega) (hx _ (by omega) (by omega)).1 ?_
  refine g_callV (As := As1 xs i) oM (fun _ => rfl) ?_
  refine g_go1 (Nat.le_of_ble_eq_true rfl) (Tn_w hr fun r2 G2 ⟨v2, e2, i2, hI⟩ => ?_)
  subst e2
  refine ⟨n7_I _, ?_⟩
  refine g_pop (ct_I _) ?_
  unfold vL_law_1341
  refine g_inc (lv' := [4004, rf 0, rf 16081, cI (i + 6)]) rfl (Nat.le_of_ble_eq_true rfl) (Or.inr (n1_R _)) rfl ?_
  exact hn _ hI
def call20 (I : gS → Prop) : Prop := ∀ (sc : List Nat) (xs : Int → Int), (∀ q : Int, 0 ≤ q → q < sc.length → rx_nth sc q.toNat 7 = cI (xs q) ∧ inI (xs q)) → ∀ i : Int, 0 ≤ i → i + 6 ≤ sc.length → ∀ G, I G → pair FX12_broken FX13_broken (As0 xs i) G (fun _ _ G2 => I G2)
set_option maxRecDepth 20000 in
theorem law20 (hc : call20 I) (hx : ∀ q : Int, 0 ≤ q → q < sc.length → rx_nth sc q.toNat 7 = cI (xs q) ∧ inI (xs q)) (hl : sc.length ≤ 3072) (h0 : 0 ≤ i) (h6 : i + 6 ≤ sc.length) (hG : I G) (hn : ∀ G, I G → Tg W0 (j 0) [4004, rf 0, rf 16081, cI (i + 6)] [] G Q) : Tg W0 (vL_law_854 sc j) [4004, rf 0, rf 16081, cI i] [] G Q := by
  unfold vL_law_854
  refine g_ld rfl (is_R _) ?_
  refine g_callV (As := As0 xs i) oX (fun _ => rfl) ?_
  refine g_go1 (Nat.le_of_ble_eq_true rfl) (Tn_w (hc _ _ hx i h0 h6 G hG) fun r1 G1 ⟨v1, e1, i1, hr⟩ => ?_)
  subst e1
  refine ⟨n7_I _, ?_⟩
  refine g_pop (ct_I _) ?_
  refine g_ld rfl (is_R _) ?_
  refine g_callV (As := As0 xs i) oM (fun _ => rfl) ?_
  refine g_go1 (Nat.le_of_ble_eq_true rfl) (Tn_w hr fun r2 G2 ⟨v2, e2, i2, hI⟩ => ?_)
  subst e2
  refine ⟨n7_I _, ?_⟩
  refine g_pop (ct_I _) ?_
  unfold vL_law_1341
  refine g_inc (lv' := [4004, rf 0, rf 16081, cI (i + 6)]) rfl (Nat.le_of_ble_eq_true rfl) (Or.inr (n1_R _)) rfl ?_
  exact hn _ hI
def call21 (I : gS → Prop) : Prop := ∀ (sc : List Nat) (xs : Int → Int), (∀ q : Int, 0 ≤ q → q < sc.length → rx_nth sc q.toNat 7 = cI (xs q) ∧ inI (xs q)) → ∀ i : Int, 0 ≤ i → i + 6 ≤ sc.length → ∀ G, I G → pair FX12_brokenAt FX13_brokenAt (As2 xs i) G (fun _ _ G2 => I G2)
set_option maxRecDepth 20000 in
theorem law21 (hc : call21 I) (hx : ∀ q : Int, 0 ≤ q → q < sc.length → rx_nth sc q.toNat 7 = cI (xs q) ∧ inI (xs q)) (hl : sc.length ≤ 3072) (h0 : 0 ≤ i) (h6 : i + 6 ≤ sc.length) (hG : I G) (hn : ∀ G, I G → Tg W0 (j 0) [4004, rf 0, rf 16081, cI (i + 6)] [] G Q) : Tg W0 (vL_law_867 sc j) [4004, rf 0, rf 16081, cI i] [] G Q := by
  unfold vL_law_867
  refine g_ld rfl (is_R _) ?_
  refine g_ld (v := 4004) rfl rfl ?_
  refine g_ld rfl (is_I _) ?_
  refine g_const (v := cI 1) rfl ?_
  refine g_add ?_
  refine g_xald (k := 500) (x := xs (i + 1)) (by omega) (by omega) (by omega) (hx _ (by omega) (by omega)).1 ?_
  refine g_ld (v := 4004) rfl rfl ?_
  refine g_ld rfl (is_I _) ?_
  refine g_const (v := cI 2) rfl ?_
  refine g_add ?_
  refine g_xald (k := 500) (x := xs (i + 2)) (by omega) (by omega) (by omega) (hx _ (by omega) (by omega)).1 ?_
  refine g_callV (As := As2 xs i) oX (fun _ => rfl) ?_
  refine g_go1 (Nat.le_of_ble_eq_true rfl) (Tn_w (hc _ _ hx i h0 h6 G hG) fun r1 G1 ⟨v1, e1, i1, hr⟩ => ?_)
  subst e1
  refine ⟨n7_I _, ?_⟩
  refine g_pop (ct_I _) ?_
  refine g_ld rfl (is_R _) ?_
  refine g_ld (v := 4004) rfl rfl ?_
  refine g_ld rfl (is_I _) ?_
  refine g_const (v := cI 1) rfl ?_
  refine g_add ?_
  refine g_xald (k := 500) (x := xs (i + 1)) (by omega) (by omega) (by omega) (hx _ (by omega) (by omega)).1 ?_
  refine g_ld (v := 4004) rfl rfl ?_
  refine g_ld rfl (is_I _) ?_
  refine g_const (v := cI 2) rfl ?_
  refine g_add ?_
  refine g_xald (k := 500) (x := xs (i + 2)) (by omega) (by omega) (by omega) (hx _ (by omega) (by omega)).1 ?_
  unfold vL_law_893
  refine g_callV (As := As2 xs i) oM (fun _ => rfl) ?_
  refine g_go1 (Nat.le_of_ble_eq_true rfl) (Tn_w hr fun r2 G2 ⟨v2, e2, i2, hI⟩ => ?_)
  subst e2
  refine ⟨n7_I _, ?_⟩
  refine g_pop (ct_I _) ?_
  unfold vL_law_1341
  refine g_inc (lv' := [4004, rf 0, rf 16081, cI (i + 6)]) rfl (Nat.le_of_ble_eq_true rfl) (Or.inr (n1_R _)) rfl ?_
  exact hn _ hI
def call22 (I : gS → Prop) : Prop := ∀ (sc : List Nat) (xs : Int → Int), (∀ q : Int, 0 ≤ q → q < sc.length → rx_nth sc q.toNat 7 = cI (xs q) ∧ inI (xs q)) → ∀ i : Int, 0 ≤ i → i + 6 ≤ sc.length → ∀ G, I G → pair FX12_stale FX13_stale (As0 xs i) G (fun _ _ G2 => I G2)
set_option maxRecDepth 20000 in
theorem law22 (hc : call22 I) (hx : ∀ q : Int, 0 ≤ q → q < sc.length → rx_nth sc q.toNat 7 = cI (xs q) ∧ inI (xs q)) (hl : sc.length ≤ 3072) (h0 : 0 ≤ i) (h6 : i + 6 ≤ sc.length) (hG : I G) (hn : ∀ G, I G → Tg W0 (j 0) [4004, rf 0, rf 16081, cI (i + 6)] [] G Q) : Tg W0 (vL_law_900 sc j) [4004, rf 0, rf 16081, cI i] [] G Q := by
  unfold vL_law_900
  refine g_ld rfl (is_R _) ?_
  refine g_callV (As := As0 xs i) oX (fun _ => rfl) ?_
  refine g_go1 (Nat.le_of_ble_eq_true rfl) (Tn_w (hc _ _ hx i h0 h6 G hG) fun r1 G1 ⟨v1, e1, i1, hr⟩ => ?_)
  subst e1
  refine ⟨n7_I _, ?_⟩
  refine g_pop (ct_I _) ?_
  refine g_ld rfl (is_R _) ?_
  refine g_callV (As := As0 xs i) oM (fun _ => rfl) ?_
  refine g_go1 (Nat.le_of_ble_eq_true rfl) (Tn_w hr fun r2 G2 ⟨v2, e2, i2, hI⟩ => ?_)
  subst e2
  refine ⟨n7_I _, ?_⟩
  refine g_pop (ct_I _) ?_
  unfold vL_law_1341
  refine g_inc (lv' := [4004, rf 0, rf 16081, cI (i + 6)]) rfl (Nat.le_of_ble_eq_true rfl) (Or.inr (n1_R _)) rfl ?_
  exact hn _ hI
def call23 (I : gS → Prop) : Prop := ∀ (sc : List Nat) (xs : Int → Int), (∀ q : Int, 0 ≤ q → q < sc.length → rx_nth sc q.toNat 7 = cI (xs q) ∧ inI (xs q)) → ∀ i : Int, 0 ≤ i → i + 6 ≤ sc.length → ∀ G, I G → pair FX12_choose FX13_choose (As0 xs i) G (fun _ _ G2 => I G2)
set_option maxRecDepth 20000 in
theorem law23 (hc : call23 I) (hx : ∀ q : Int, 0 ≤ q → q < sc.length → rx_nth sc q.toNat 7 = cI (xs q) ∧ inI (xs q)) (hl : sc.length ≤ 3072) (h0 : 0 ≤ i) (h6 : i + 6 ≤ sc.length) (hG : I G) (hn : ∀ G, I G → Tg W0 (j 0) [4004, rf 0, rf 16081, cI (i + 6)] [] G Q) : Tg W0 (vL_law_913 sc j) [4004, rf 0, rf 16081, cI i] [] G Q := by
  unfold vL_law_913
  refine g_ld rfl (is_R _) ?_
  refine g_callV (As := As0 xs i) oX (fun _ => rfl) ?_
  refine g_go1 (Nat.le_of_ble_eq_true rfl) (Tn_w (hc _ _ hx i h0 h6 G hG) fun r1 G1 ⟨v1, e1, i1, hr⟩ => ?_)
  subst e1
  refine ⟨n7_I _, ?_⟩
  refine g_pop (ct_I _) ?_
  refine g_ld rfl (is_R _) ?_
  refine g_callV (As := As0 xs i) oM (fun _ => rfl) ?_
  refine g_go1 (Nat.le_of_ble_eq_true rfl) (Tn_w hr fun r2 G2 ⟨v2, e2, i2, hI⟩ => ?_)
  subst e2
  refine ⟨n7_I _, ?_⟩
  refine g_pop (ct_I _) ?_
  unfold vL_law_1341
  refine g_inc (lv' := [4004, rf 0, rf 16081, cI (i + 6)]) rfl (Nat.le_of_ble_eq_true rfl) (Or.inr (n1_R _)) rfl ?_
  exact hn _ hI
def call24 (I : gS → Prop) : Prop := ∀ (sc : List Nat) (xs : Int → Int), (∀ q : Int, 0 ≤ q → q < sc.length → rx_nth sc q.toNat 7 = cI (xs q) ∧ inI (xs q)) → ∀ i : Int, 0 ≤ i → i + 6 ≤ sc.length → ∀ G, I G → pair FX12_differ FX13_differ (As3 xs i) G (fun _ _ G2 => I G2)
set_option maxRecDepth 20000 in
theorem law24 (hc : call24 I) (hx : ∀ q : Int, 0 ≤ q → q < sc.length → rx_nth sc q.toNat 7 = cI (xs q) ∧ inI (xs q)) (hl : sc.length ≤ 3072) (h0 : 0 ≤ i) (h6 : i + 6 ≤ sc.length) (hG : I G) (hn : ∀ G, I G → Tg W0 (j 0) [4004, rf 0, rf 16081, cI (i + 6)] [] G Q) : Tg W0 (vL_law_926 sc j) [4004, rf 0, rf 16081, cI i] [] G Q := by
  unfold vL_law_926
  refine g_ld rfl (is_R _) ?_
  refine g_ld (v := 4004) rfl rfl ?_
  refine g_ld rfl (is_I _) ?_
  refine g_const (v := cI 1) rfl ?_
  refine g_add ?_
  refine g_xald (k := 500) (x := xs (i + 1)) (by omega) (by omega) (by omega) (hx _ (by omega) (by omega)).1 ?_
  refine g_ld (v := 4004) rfl rfl ?_
  refine g_ld rfl (is_I _) ?_
  refine g_const (v := cI 2) rfl ?_
  refine g_add ?_
  refine g_xald (k := 500) (x := xs (i + 2)) (by omega) (by omega) (by omega) (hx _ (by omega) (by omega)).1 ?_
  refine g_ld (v := 4004) rfl rfl ?_
  refine g_ld rfl (is_I _) ?_
  refine g_const (v := cI 3) rfl ?_
  refine g_add ?_
  refine g_xald (k := 500) (x := xs (i + 3)) (by omega) (by omega) (by omega) (hx _ (by omega) (by omega)).1 ?_
  refine g_callV (As := As3 xs i) oX (fun _ => rfl) ?_
  refine g_go1 (Nat.le_of_ble_eq_true rfl) (Tn_w (hc _ _ hx i h0 h6 G hG) fun r1 G1 ⟨v1, e1, i1, hr⟩ => ?_)
  subst e1
  refine ⟨n7_I _, ?_⟩
  refine g_pop (ct_I _) ?_
  refine g_ld rfl (is_R _) ?_
  refine g_ld (v := 4004) rfl rfl ?_
  refine g_ld rfl (is_I _) ?_
  refine g_const (v := cI 1) rfl ?_
  refine g_add ?_
  refine g_xald (k := 500) (x := xs (i + 1)) (by omega) (by omega) (by omega) (hx _ (by omega) (by omega)).1 ?_
  unfold vL_law_952
  refine g_ld (v := 4004) rfl rfl ?_
  refine g_ld rfl (is_I _) ?_
  refine g_const (v := cI 2) rfl ?_
  refine g_add ?_
  refine g_xald (k := 500) (x := xs (i + 2)) (by omega) (by omega) (by omega) (hx _ (by omega) (by omega)).1 ?_
  refine g_ld (v := 4004) rfl rfl ?_
  refine g_ld rfl (is_I _) ?_
  refine g_const (v := cI 3) rfl ?_
  refine g_add ?_
  refine g_xald (k := 500) (x := xs (i + 3)) (by omega) (by omega) (by omega) (hx _ (by omega) (by omega)).1 ?_
  refine g_callV (As := As3 xs i) oM (fun _ => rfl) ?_
  refine g_go1 (Nat.le_of_ble_eq_true rfl) (Tn_w hr fun r2 G2 ⟨v2, e2, i2, hI⟩ => ?_)
  subst e2
  refine ⟨n7_I _, ?_⟩
  refine g_pop (ct_I _) ?_
  unfold vL_law_1341
  refine g_inc (lv' := [4004, rf 0, rf 16081, cI (i + 6)]) rfl (Nat.le_of_ble_eq_true rfl) (Or.inr (n1_R _)) rfl ?_
  exact hn _ hI
def call25 (I : gS → Prop) : Prop := ∀ (sc : List Nat) (xs : Int → Int), (∀ q : Int, 0 ≤ q → q < sc.length → rx_nth sc q.toNat 7 = cI (xs q) ∧ inI (xs q)) → ∀ i : Int, 0 ≤ i → i + 6 ≤ sc.length → ∀ G, I G → pair FX12_change FX13_change (As2 xs i) G (fun _ _ G2 => I G2)
set_option maxRecDepth 20000 in
theorem law25 (hc : call25 I) (hx : ∀ q : Int, 0 ≤ q → q < sc.length → rx_nth sc q.toNat 7 = cI (xs q) ∧ inI (xs q)) (hl : sc.length ≤ 3072) (h0 : 0 ≤ i) (h6 : i + 6 ≤ sc.length) (hG : I G) (hn : ∀ G, I G → Tg W0 (j 0) [4004, rf 0, rf 16081, cI (i + 6)] [] G Q) : Tg W0 (vL_law_969 sc j) [4004, rf 0, rf 16081, cI i] [] G Q := by
  unfold vL_law_969
  refine g_ld rfl (is_R _) ?_
  refine g_ld (v := 4004) rfl rfl ?_
  refine g_ld rfl (is_I _) ?_
  refine g_const (v := cI 1) rfl ?_
  refine g_add ?_
  refine g_xald (k := 500) (x := xs (i + 1)) (by omega) (by omega) (by omega) (hx _ (by omega) (by omega)).1 ?_
  refine g_ld (v := 4004) rfl rfl ?_
  refine g_ld rfl (is_I _) ?_
  refine g_const (v := cI 2) rfl ?_
  refine g_add ?_
  refine g_xald (k := 500) (x := xs (i + 2)) (by omega) (by omega) (by omega) (hx _ (by omega) (by omega)).1 ?_
  refine g_callV (As := As2 xs i) oX (fun _ => rfl) ?_
  refine g_go1 (Nat.le_of_ble_eq_true rfl) (Tn_w (hc _ _ hx i h0 h6 G hG) fun r1 G1 ⟨v1, e1, i1, hr⟩ => ?_)
  subst e1
  refine ⟨n7_I _, ?_⟩
  refine g_pop (ct_I _) ?_
  refine g_ld rfl (is_R _) ?_
  refine g_ld (v := 4004) rfl rfl ?_
  refine g_ld rfl (is_I _) ?_
  refine g_const (v := cI 1) rfl ?_
  refine g_add ?_
  refine g_xald (k := 500) (x := xs (i + 1)) (by omega) (by omega) (by omega) (hx _ (by omega) (by omega)).1 ?_
  refine g_ld (v := 4004) rfl rfl ?_
  refine g_ld rfl (is_I _) ?_
  refine g_const (v := cI 2) rfl ?_
  refine g_add ?_
  refine g_xald (k := 500) (x := xs (i + 2)) (by omega) (by omega) (by omega) (hx _ (by omega) (by omega)).1 ?_
  unfold vL_law_995
  refine g_callV (As := As2 xs i) oM (fun _ => rfl) ?_
  refine g_go1 (Nat.le_of_ble_eq_true rfl) (Tn_w hr fun r2 G2 ⟨v2, e2, i2, hI⟩ => ?_)
  subst e2
  refine ⟨n7_I _, ?_⟩
  refine g_pop (ct_I _) ?_
  unfold vL_law_1341
  refine g_inc (lv' := [4004, rf 0, rf 16081, cI (i + 6)]) rfl (Nat.le_of_ble_eq_true rfl) (Or.inr (n1_R _)) rfl ?_
  exact hn _ hI
def call26 (I : gS → Prop) : Prop := ∀ (sc : List Nat) (xs : Int → Int), (∀ q : Int, 0 ≤ q → q < sc.length → rx_nth sc q.toNat 7 = cI (xs q) ∧ inI (xs q)) → ∀ i : Int, 0 ≤ i → i + 6 ≤ sc.length → ∀ G, I G → pair FX12_word FX13_word (As3 xs i) G (fun _ _ G2 => I G2)
set_option maxRecDepth 20000 in
theorem law26 (hc : call26 I) (hx : ∀ q : Int, 0 ≤ q → q < sc.length → rx_nth sc q.toNat 7 = cI (xs q) ∧ inI (xs q)) (hl : sc.length ≤ 3072) (h0 : 0 ≤ i) (h6 : i + 6 ≤ sc.length) (hG : I G) (hn : ∀ G, I G → Tg W0 (j 0) [4004, rf 0, rf 16081, cI (i + 6)] [] G Q) : Tg W0 (vL_law_1002 sc j) [4004, rf 0, rf 16081, cI i] [] G Q := by
  unfold vL_law_1002
  refine g_ld rfl (is_R _) ?_
  refine g_ld (v := 4004) rfl rfl ?_
  refine g_ld rfl (is_I _) ?_
  refine g_const (v := cI 1) rfl ?_
  refine g_add ?_
  refine g_xald (k := 500) (x := xs (i + 1)) (by omega) (by omega) (by omega) (hx _ (by omega) (by omega)).1 ?_
  refine g_ld (v := 4004) rfl rfl ?_
  refine g_ld rfl (is_I _) ?_
  refine g_const (v := cI 2) rfl ?_
  refine g_add ?_
  refine g_xald (k := 500) (x := xs (i + 2)) (by omega) (by omega) (by omega) (hx _ (by omega) (by omega)).1 ?_
  refine g_ld (v := 4004) rfl rfl ?_
  refine g_ld rfl (is_I _) ?_
  refine g_const (v := cI 3) rfl ?_
  refine g_add ?_
  refine g_xald (k := 500) (x := xs (i + 3)) (by omega) (by omega) (by omega) (hx _ (by omega) (by omega)).1 ?_
  refine g_callV (As := As3 xs i) oX (fun _ => rfl) ?_
  refine g_go1 (Nat.le_of_ble_eq_true rfl) (Tn_w (hc _ _ hx i h0 h6 G hG) fun r1 G1 ⟨v1, e1, i1, hr⟩ => ?_)
  subst e1
  refine ⟨n7_I _, ?_⟩
  refine g_pop (ct_I _) ?_
  refine g_ld rfl (is_R _) ?_
  refine g_ld (v := 4004) rfl rfl ?_
  refine g_ld rfl (is_I _) ?_
  refine g_const (v := cI 1) rfl ?_
  refine g_add ?_
  refine g_xald (k := 500) (x := xs (i + 1)) (by omega) (by omega) (by omega) (hx _ (by omega) (by omega)).1 ?_
  unfold vL_law_1028
  refine g_ld (v := 4004) rfl rfl ?_
  refine g_ld rfl (is_I _) ?_
  refine g_const (v := cI 2) rfl ?_
  refine g_add ?_
  refine g_xald (k := 500) (x := xs (i + 2)) (by omega) (by omega) (by omega) (hx _ (by omega) (by omega)).1 ?_
  refine g_ld (v := 4004) rfl rfl ?_
  refine g_ld rfl (is_I _) ?_
  refine g_const (v := cI 3) rfl ?_
  refine g_add ?_
  refine g_xald (k := 500) (x := xs (i + 3)) (by omega) (by omega) (by omega) (hx _ (by omega) (by omega)).1 ?_
  refine g_callV (As := As3 xs i) oM (fun _ => rfl) ?_
  refine g_go1 (Nat.le_of_ble_eq_true rfl) (Tn_w hr fun r2 G2 ⟨v2, e2, i2, hI⟩ => ?_)
  subst e2
  refine ⟨n7_I _, ?_⟩
  refine g_pop (ct_I _) ?_
  unfold vL_law_1341
  refine g_inc (lv' := [4004, rf 0, rf 16081, cI (i + 6)]) rfl (Nat.le_of_ble_eq_true rfl) (Or.inr (n1_R _)) rfl ?_
  exact hn _ hI
def call27 (I : gS → Prop) : Prop := ∀ (sc : List Nat) (xs : Int → Int), (∀ q : Int, 0 ≤ q → q < sc.length → rx_nth sc q.toNat 7 = cI (xs q) ∧ inI (xs q)) → ∀ i : Int, 0 ≤ i → i + 6 ≤ sc.length → ∀ G, I G → pair FX12_weave FX13_weave (As3 xs i) G (fun _ _ G2 => I G2)
set_option maxRecDepth 20000 in
theorem law27 (hc : call27 I) (hx : ∀ q : Int, 0 ≤ q → q < sc.length → rx_nth sc q.toNat 7 = cI (xs q) ∧ inI (xs q)) (hl : sc.length ≤ 3072) (h0 : 0 ≤ i) (h6 : i + 6 ≤ sc.length) (hG : I G) (hn : ∀ G, I G → Tg W0 (j 0) [4004, rf 0, rf 16081, cI (i + 6)] [] G Q) : Tg W0 (vL_law_1045 sc j) [4004, rf 0, rf 16081, cI i] [] G Q := by
  unfold vL_law_1045
  refine g_ld rfl (is_R _) ?_
  refine g_ld (v := 4004) rfl rfl ?_
  refine g_ld rfl (is_I _) ?_
  refine g_const (v := cI 1) rfl ?_
  refine g_add ?_
  refine g_xald (k := 500) (x := xs (i + 1)) (by omega) (by omega) (by omega) (hx _ (by omega) (by omega)).1 ?_
  refine g_ld (v := 4004) rfl rfl ?_
  refine g_ld rfl (is_I _) ?_
  refine g_const (v := cI 2) rfl ?_
  refine g_add ?_
  refine g_xald (k := 500) (x := xs (i + 2)) (by omega) (by omega) (by omega) (hx _ (by omega) (by omega)).1 ?_
  refine g_ld (v := 4004) rfl rfl ?_
  refine g_ld rfl (is_I _) ?_
  refine g_const (v := cI 3) rfl ?_
  refine g_add ?_
  refine g_xald (k := 500) (x := xs (i + 3)) (by omega) (by omega) (by omega) (hx _ (by omega) (by omega)).1 ?_
  refine g_callV (As := As3 xs i) oX (fun _ => rfl) ?_
  refine g_go1 (Nat.le_of_ble_eq_true rfl) (Tn_w (hc _ _ hx i h0 h6 G hG) fun r1 G1 ⟨v1, e1, i1, hr⟩ => ?_)
  subst e1
  refine ⟨n7_I _, ?_⟩
  refine g_pop (ct_I _) ?_
  refine g_ld rfl (is_R _) ?_
  refine g_ld (v := 4004) rfl rfl ?_
  refine g_ld rfl (is_I _) ?_
  refine g_const (v := cI 1) rfl ?_
  refine g_add ?_
  refine g_xald (k := 500) (x := xs (i + 1)) (by omega) (by omega) (by omega) (hx _ (by omega) (by omega)).1 ?_
  unfold vL_law_1071
  refine g_ld (v := 4004) rfl rfl ?_
  refine g_ld rfl (is_I _) ?_
  refine g_const (v := cI 2) rfl ?_
  refine g_add ?_
  refine g_xald (k := 500) (x := xs (i + 2)) (by omega) (by omega) (by omega) (hx _ (by omega) (by omega)).1 ?_
  refine g_ld (v := 4004) rfl rfl ?_
  refine g_ld rfl (is_I _) ?_
  refine g_const (v := cI 3) rfl ?_
  refine g_add ?_
  refine g_xald (k := 500) (x := xs (i + 3)) (by omega) (by omega) (by omega) (hx _ (by omega) (by omega)).1 ?_
  refine g_callV (As := As3 xs i) oM (fun _ => rfl) ?_
  refine g_go1 (Nat.le_of_ble_eq_true rfl) (Tn_w hr fun r2 G2 ⟨v2, e2, i2, hI⟩ => ?_)
  subst e2
  refine ⟨n7_I _, ?_⟩
  refine g_pop (ct_I _) ?_
  unfold vL_law_1341
  refine g_inc (lv' := [4004, rf 0, rf 16081, cI (i + 6)]) rfl (Nat.le_of_ble_eq_true rfl) (Or.inr (n1_R _)) rfl ?_
  exact hn _ hI
def call28 (I : gS → Prop) : Prop := ∀ (sc : List Nat) (xs : Int → Int), (∀ q : Int, 0 ≤ q → q < sc.length → rx_nth sc q.toNat 7 = cI (xs q) ∧ inI (xs q)) → ∀ i : Int, 0 ≤ i → i + 6 ≤ sc.length → ∀ G, I G → pair FX12_fresh FX13_fresh (As0 xs i) G (fun _ _ G2 => I G2)
set_option maxRecDepth 20000 in
theorem law28 (hc : call28 I) (hx : ∀ q : Int, 0 ≤ q → q < sc.length → rx_nth sc q.toNat 7 = cI (xs q) ∧ inI (xs q)) (hl : sc.length ≤ 3072) (h0 : 0 ≤ i) (h6 : i + 6 ≤ sc.length) (hG : I G) (hn : ∀ G, I G → Tg W0 (j 0) [4004, rf 0, rf 16081, cI (i + 6)] [] G Q) : Tg W0 (vL_law_1088 sc j) [4004, rf 0, rf 16081, cI i] [] G Q := by
  unfold vL_law_1088
  refine g_ld rfl (is_R _) ?_
  refine g_callV (As := As0 xs i) oX (fun _ => rfl) ?_
  refine g_go1 (Nat.le_of_ble_eq_true rfl) (Tn_w (hc _ _ hx i h0 h6 G hG) fun r1 G1 ⟨v1, e1, i1, hr⟩ => ?_)
  subst e1
  refine ⟨n7_I _, ?_⟩
  refine g_pop (ct_I _) ?_
  refine g_ld rfl (is_R _) ?_
  refine g_callV (As := As0 xs i) oM (fun _ => rfl) ?_
  refine g_go1 (Nat.le_of_ble_eq_true rfl) (Tn_w hr fun r2 G2 ⟨v2, e2, i2, hI⟩ => ?_)
  subst e2
  refine ⟨n7_I _, ?_⟩
  refine g_pop (ct_I _) ?_
  unfold vL_law_1341
  refine g_inc (lv' := [4004, rf 0, rf 16081, cI (i + 6)]) rfl (Nat.le_of_ble_eq_true rfl) (Or.inr (n1_R _)) rfl ?_
  exact hn _ hI
def call29 (I : gS → Prop) : Prop := ∀ (sc : List Nat) (xs : Int → Int), (∀ q : Int, 0 ≤ q → q < sc.length → rx_nth sc q.toNat 7 = cI (xs q) ∧ inI (xs q)) → ∀ i : Int, 0 ≤ i → i + 6 ≤ sc.length → ∀ G, I G → pair FX12_touch FX13_touch (As3 xs i) G (fun _ _ G2 => I G2)
set_option maxRecDepth 20000 in
theorem law29 (hc : call29 I) (hx : ∀ q : Int, 0 ≤ q → q < sc.length → rx_nth sc q.toNat 7 = cI (xs q) ∧ inI (xs q)) (hl : sc.length ≤ 3072) (h0 : 0 ≤ i) (h6 : i + 6 ≤ sc.length) (hG : I G) (hn : ∀ G, I G → Tg W0 (j 0) [4004, rf 0, rf 16081, cI (i + 6)] [] G Q) : Tg W0 (vL_law_1101 sc j) [4004, rf 0, rf 16081, cI i] [] G Q := by
  unfold vL_law_1101
  refine g_ld rfl (is_R _) ?_
  refine g_ld (v := 4004) rfl rfl ?_
  refine g_ld rfl (is_I _) ?_
  refine g_const (v := cI 1) rfl ?_
  refine g_add ?_
  refine g_xald (k := 500) (x := xs (i + 1)) (by omega) (by omega) (by omega) (hx _ (by omega) (by omega)).1 ?_
  refine g_ld (v := 4004) rfl rfl ?_
  refine g_ld rfl (is_I _) ?_
  refine g_const (v := cI 2) rfl ?_
  refine g_add ?_
  refine g_xald (k := 500) (x := xs (i + 2)) (by omega) (by omega) (by omega) (hx _ (by omega) (by omega)).1 ?_
  refine g_ld (v := 4004) rfl rfl ?_
  refine g_ld rfl (is_I _) ?_
  refine g_const (v := cI 3) rfl ?_
  refine g_add ?_
  refine g_xald (k := 500) (x := xs (i + 3)) (by omega) (by omega) (by omega) (hx _ (by omega) (by omega)).1 ?_
  refine g_callV (As := As3 xs i) oX (fun _ => rfl) ?_
  refine g_go1 (Nat.le_of_ble_eq_true rfl) (Tn_w (hc _ _ hx i h0 h6 G hG) fun r1 G1 ⟨v1, e1, i1, hr⟩ => ?_)
  subst e1
  refine ⟨n7_I _, ?_⟩
  refine g_pop (ct_I _) ?_
  refine g_ld rfl (is_R _) ?_
  refine g_ld (v := 4004) rfl rfl ?_
  refine g_ld rfl (is_I _) ?_
  refine g_const (v := cI 1) rfl ?_
  refine g_add ?_
  refine g_xald (k := 500) (x := xs (i + 1)) (by omega) (by omega) (by omega) (hx _ (by omega) (by omega)).1 ?_
  unfold vL_law_1127
  refine g_ld (v := 4004) rfl rfl ?_
  refine g_ld rfl (is_I _) ?_
  refine g_const (v := cI 2) rfl ?_
  refine g_add ?_
  refine g_xald (k := 500) (x := xs (i + 2)) (by omega) (by omega) (by omega) (hx _ (by omega) (by omega)).1 ?_
  refine g_ld (v := 4004) rfl rfl ?_
  refine g_ld rfl (is_I _) ?_
  refine g_const (v := cI 3) rfl ?_
  refine g_add ?_
  refine g_xald (k := 500) (x := xs (i + 3)) (by omega) (by omega) (by omega) (hx _ (by omega) (by omega)).1 ?_
  refine g_callV (As := As3 xs i) oM (fun _ => rfl) ?_
  refine g_go1 (Nat.le_of_ble_eq_true rfl) (Tn_w hr fun r2 G2 ⟨v2, e2, i2, hI⟩ => ?_)
  subst e2
  refine ⟨n7_I _, ?_⟩
  refine g_pop (ct_I _) ?_
  unfold vL_law_1341
  refine g_inc (lv' := [4004, rf 0, rf 16081, cI (i + 6)]) rfl (Nat.le_of_ble_eq_true rfl) (Or.inr (n1_R _)) rfl ?_
  exact hn _ hI
def call30 (I : gS → Prop) : Prop := ∀ (sc : List Nat) (xs : Int → Int), (∀ q : Int, 0 ≤ q → q < sc.length → rx_nth sc q.toNat 7 = cI (xs q) ∧ inI (xs q)) → ∀ i : Int, 0 ≤ i → i + 6 ≤ sc.length → ∀ G, I G → pair FX12_run FX13_run (As0 xs i) G (fun _ _ G2 => I G2)
set_option maxRecDepth 20000 in
theorem law30 (hc : call30 I) (hx : ∀ q : Int, 0 ≤ q → q < sc.length → rx_nth sc q.toNat 7 = cI (xs q) ∧ inI (xs q)) (hl : sc.length ≤ 3072) (h0 : 0 ≤ i) (h6 : i + 6 ≤ sc.length) (hG : I G) (hn : ∀ G, I G → Tg W0 (j 0) [4004, rf 0, rf 16081, cI (i + 6)] [] G Q) : Tg W0 (vL_law_1144 sc j) [4004, rf 0, rf 16081, cI i] [] G Q := by
  unfold vL_law_1144
  refine g_ld rfl (is_R _) ?_
  refine g_callV (As := As0 xs i) oX (fun _ => rfl) ?_
  refine g_go1 (Nat.le_of_ble_eq_true rfl) (Tn_w (hc _ _ hx i h0 h6 G hG) fun r1 G1 ⟨v1, e1, i1, hr⟩ => ?_)
  subst e1
  refine ⟨n7_I _, ?_⟩
  refine g_pop (ct_I _) ?_
  refine g_ld rfl (is_R _) ?_
  refine g_callV (As := As0 xs i) oM (fun _ => rfl) ?_
  refine g_go1 (Nat.le_of_ble_eq_true rfl) (Tn_w hr fun r2 G2 ⟨v2, e2, i2, hI⟩ => ?_)
  subst e2
  refine ⟨n7_I _, ?_⟩
  refine g_pop (ct_I _) ?_
  unfold vL_law_1341
  refine g_inc (lv' := [4004, rf 0, rf 16081, cI (i + 6)]) rfl (Nat.le_of_ble_eq_true rfl) (Or.inr (n1_R _)) rfl ?_
  exact hn _ hI
def call31 (I : gS → Prop) : Prop := ∀ (sc : List Nat) (xs : Int → Int), (∀ q : Int, 0 ≤ q → q < sc.length → rx_nth sc q.toNat 7 = cI (xs q) ∧ inI (xs q)) → ∀ i : Int, 0 ≤ i → i + 6 ≤ sc.length → ∀ G, I G → pair FX12_value FX13_value (As0 xs i) G (fun _ _ G2 => I G2)
set_option maxRecDepth 20000 in
theorem law31 (hc : call31 I) (hx : ∀ q : Int, 0 ≤ q → q < sc.length → rx_nth sc q.toNat 7 = cI (xs q) ∧ inI (xs q)) (hl : sc.length ≤ 3072) (h0 : 0 ≤ i) (h6 : i + 6 ≤ sc.length) (hG : I G) (hn : ∀ G, I G → Tg W0 (j 0) [4004, rf 0, rf 16081, cI (i + 6)] [] G Q) : Tg W0 (vL_law_1157 sc j) [4004, rf 0, rf 16081, cI i] [] G Q := by
  unfold vL_law_1157
  refine g_ld rfl (is_R _) ?_
  refine g_callV (As := As0 xs i) oX (fun _ => rfl) ?_
  refine g_go1 (Nat.le_of_ble_eq_true rfl) (Tn_w (hc _ _ hx i h0 h6 G hG) fun r1 G1 ⟨v1, e1, i1, hr⟩ => ?_)
  subst e1
  refine ⟨n7_I _, ?_⟩
  refine g_pop (ct_I _) ?_
  refine g_ld rfl (is_R _) ?_
  refine g_callV (As := As0 xs i) oM (fun _ => rfl) ?_
  refine g_go1 (Nat.le_of_ble_eq_true rfl) (Tn_w hr fun r2 G2 ⟨v2, e2, i2, hI⟩ => ?_)
  subst e2
  refine ⟨n7_I _, ?_⟩
  refine g_pop (ct_I _) ?_
  unfold vL_law_1341
  refine g_inc (lv' := [4004, rf 0, rf 16081, cI (i + 6)]) rfl (Nat.le_of_ble_eq_true rfl) (Or.inr (n1_R _)) rfl ?_
  exact hn _ hI
def call32 (I : gS → Prop) : Prop := ∀ (sc : List Nat) (xs : Int → Int), (∀ q : Int, 0 ≤ q → q < sc.length → rx_nth sc q.toNat 7 = cI (xs q) ∧ inI (xs q)) → ∀ i : Int, 0 ≤ i → i + 6 ≤ sc.length → ∀ G, I G → pair FX12_told FX13_told (As1 xs i) G (fun _ _ G2 => I G2)
set_option maxRecDepth 20000 in
theorem law32 (hc : call32 I) (hx : ∀ q : Int, 0 ≤ q → q < sc.length → rx_nth sc q.toNat 7 = cI (xs q) ∧ inI (xs q)) (hl : sc.length ≤ 3072) (h0 : 0 ≤ i) (h6 : i + 6 ≤ sc.length) (hG : I G) (hn : ∀ G, I G → Tg W0 (j 0) [4004, rf 0, rf 16081, cI (i + 6)] [] G Q) : Tg W0 (vL_law_1170 sc j) [4004, rf 0, rf 16081, cI i] [] G Q := by
  unfold vL_law_1170
  refine g_ld rfl (is_R _) ?_
  refine g_ld (v := 4004) rfl rfl ?_
  refine g_ld rfl (is_I _) ?_
  refine g_const (v := cI 1) rfl ?_
  refine g_add ?_
  refine g_xald (k := 500) (x := xs (i + 1)) (by omega) (by omega) (by omega) (hx _ (by omega) (by omega)).1 ?_
  refine g_callV (As := As1 xs i) oX (fun _ => rfl) ?_
  refine g_go1 (Nat.le_of_ble_eq_true rfl) (Tn_w (hc _ _ hx i h0 h6 G hG) fun r1 G1 ⟨v1, e1, i1, hr⟩ => ?_)
  subst e1
  refine ⟨n7_I _, ?_⟩
  refine g_pop (ct_I _) ?_
  refine g_ld rfl (is_R _) ?_
  refine g_ld (v := 4004) rfl rfl ?_
  refine g_ld rfl (is_I _) ?_
  refine g_const (v := cI 1) rfl ?_
  refine g_add ?_
  refine g_xald (k := 500) (x := xs (i + 1)) (by omega) (by omega) (by omega) (hx _ (by omega) (by omega)).1 ?_
  refine g_callV (As := As1 xs i) oM (fun _ => rfl) ?_
  refine g_go1 (Nat.le_of_ble_eq_true rfl) (Tn_w hr fun r2 G2 ⟨v2, e2, i2, hI⟩ => ?_)
  subst e2
  refine ⟨n7_I _, ?_⟩
  refine g_pop (ct_I _) ?_
  unfold vL_law_1341
  refine g_inc (lv' := [4004, rf 0, rf 16081, cI (i + 6)]) rfl (Nat.le_of_ble_eq_true rfl) (Or.inr (n1_R _)) rfl ?_
  exact hn _ hI
def call33 (I : gS → Prop) : Prop := ∀ (sc : List Nat) (xs : Int → Int), (∀ q : Int, 0 ≤ q → q < sc.length → rx_nth sc q.toNat 7 = cI (xs q) ∧ inI (xs q)) → ∀ i : Int, 0 ≤ i → i + 6 ≤ sc.length → ∀ G, I G → pair FX12_number FX13_number (As1 xs i) G (fun _ _ G2 => I G2)
set_option maxRecDepth 20000 in
theorem law33 (hc : call33 I) (hx : ∀ q : Int, 0 ≤ q → q < sc.length → rx_nth sc q.toNat 7 = cI (xs q) ∧ inI (xs q)) (hl : sc.length ≤ 3072) (h0 : 0 ≤ i) (h6 : i + 6 ≤ sc.length) (hG : I G) (hn : ∀ G, I G → Tg W0 (j 0) [4004, rf 0, rf 16081, cI (i + 6)] [] G Q) : Tg W0 (vL_law_1193 sc j) [4004, rf 0, rf 16081, cI i] [] G Q := by
  unfold vL_law_1193
  refine g_ld rfl (is_R _) ?_
  refine g_ld (v := 4004) rfl rfl ?_
  refine g_ld rfl (is_I _) ?_
  refine g_const (v := cI 1) rfl ?_
  refine g_add ?_
  refine g_xald (k := 500) (x := xs (i + 1)) (by omega) (by omega) (by omega) (hx _ (by omega) (by omega)).1 ?_
  refine g_callV (As := As1 xs i) oX (fun _ => rfl) ?_
  refine g_go1 (Nat.le_of_ble_eq_true rfl) (Tn_w (hc _ _ hx i h0 h6 G hG) fun r1 G1 ⟨v1, e1, i1, hr⟩ => ?_)
  subst e1
  refine ⟨n7_I _, ?_⟩
  refine g_pop (ct_I _) ?_
  refine g_ld rfl (is_R _) ?_
  refine g_ld (v := 4004) rfl rfl ?_
  refine g_ld rfl (is_I _) ?_
  refine g_const (v := cI 1) rfl ?_
  refine g_add ?_
  refine g_xald (k := 500) (x := xs (i + 1)) (by omega) (by omega) (by omega) (hx _ (by omega) (by omega)).1 ?_
  refine g_callV (As := As1 xs i) oM (fun _ => rfl) ?_
  refine g_go1 (Nat.le_of_ble_eq_true rfl) (Tn_w hr fun r2 G2 ⟨v2, e2, i2, hI⟩ => ?_)
  subst e2
  refine ⟨n7_I _, ?_⟩
  refine g_pop (ct_I _) ?_
  unfold vL_law_1341
  refine g_inc (lv' := [4004, rf 0, rf 16081, cI (i + 6)]) rfl (Nat.le_of_ble_eq_true rfl) (Or.inr (n1_R _)) rfl ?_
  exact hn _ hI
def call34 (I : gS → Prop) : Prop := ∀ (sc : List Nat) (xs : Int → Int), (∀ q : Int, 0 ≤ q → q < sc.length → rx_nth sc q.toNat 7 = cI (xs q) ∧ inI (xs q)) → ∀ i : Int, 0 ≤ i → i + 6 ≤ sc.length → ∀ G, I G → pair FX12_event FX13_event_ (As1 xs i) G (fun _ _ G2 => I G2)
set_option maxRecDepth 20000 in
theorem law34 (hc : call34 I) (hx : ∀ q : Int, 0 ≤ q → q < sc.length → rx_nth sc q.toNat 7 = cI (xs q) ∧ inI (xs q)) (hl : sc.length ≤ 3072) (h0 : 0 ≤ i) (h6 : i + 6 ≤ sc.length) (hG : I G) (hn : ∀ G, I G → Tg W0 (j 0) [4004, rf 0, rf 16081, cI (i + 6)] [] G Q) : Tg W0 (vL_law_1216 sc j) [4004, rf 0, rf 16081, cI i] [] G Q := by
  unfold vL_law_1216
  refine g_ld rfl (is_R _) ?_
  refine g_ld (v := 4004) rfl rfl ?_
  refine g_ld rfl (is_I _) ?_
  refine g_const (v := cI 1) rfl ?_
  refine g_add ?_
  refine g_xald (k := 500) (x := xs (i + 1)) (by omega) (by omega) (by omega) (hx _ (by omega) (by omega)).1 ?_
  refine g_callV (As := As1 xs i) oX (fun _ => rfl) ?_
  refine g_go1 (Nat.le_of_ble_eq_true rfl) (Tn_w (hc _ _ hx i h0 h6 G hG) fun r1 G1 ⟨v1, e1, i1, hr⟩ => ?_)
  subst e1
  refine ⟨n7_I _, ?_⟩
  refine g_pop (ct_I _) ?_
  refine g_ld rfl (is_R _) ?_
  refine g_ld (v := 4004) rfl rfl ?_
  refine g_ld rfl (is_I _) ?_
  refine g_const (v := cI 1) rfl ?_
  refine g_add ?_
  refine g_xald (k := 500) (x := xs (i + 1)) (by omega) (by omega) (by omega) (hx _ (by omega) (by omega)).1 ?_
  refine g_callV (As := As1 xs i) oM (fun _ => rfl) ?_
  refine g_go1 (Nat.le_of_ble_eq_true rfl) (Tn_w hr fun r2 G2 ⟨v2, e2, i2, hI⟩ => ?_)
  subst e2
  refine ⟨n7_I _, ?_⟩
  refine g_pop (ct_I _) ?_
  unfold vL_law_1341
  refine g_inc (lv' := [4004, rf 0, rf 16081, cI (i + 6)]) rfl (Nat.le_of_ble_eq_true rfl) (Or.inr (n1_R _)) rfl ?_
  exact hn _ hI
def call35 (I : gS → Prop) : Prop := ∀ (sc : List Nat) (xs : Int → Int), (∀ q : Int, 0 ≤ q → q < sc.length → rx_nth sc q.toNat 7 = cI (xs q) ∧ inI (xs q)) → ∀ i : Int, 0 ≤ i → i + 6 ≤ sc.length → ∀ G, I G → pair FX12_name FX13_name (As1 xs i) G (fun _ _ G2 => I G2)
set_option maxRecDepth 20000 in
theorem law35 (hc : call35 I) (hx : ∀ q : Int, 0 ≤ q → q < sc.length → rx_nth sc q.toNat 7 = cI (xs q) ∧ inI (xs q)) (hl : sc.length ≤ 3072) (h0 : 0 ≤ i) (h6 : i + 6 ≤ sc.length) (hG : I G) (hn : ∀ G, I G → Tg W0 (j 0) [4004, rf 0, rf 16081, cI (i + 6)] [] G Q) : Tg W0 (vL_law_1239 sc j) [4004, rf 0, rf 16081, cI i] [] G Q := by
  unfold vL_law_1239
  refine g_ld rfl (is_R _) ?_
  refine g_ld (v := 4004) rfl rfl ?_
  refine g_ld rfl (is_I _) ?_
  refine g_const (v := cI 1) rfl ?_
  refine g_add ?_
  refine g_xald (k := 500) (x := xs (i + 1)) (by omega) (by omega) (by omega) (hx _ (by omega) (by omega)).1 ?_
  refine g_callV (As := As1 xs i) oX (fun _ => rfl) ?_
  refine g_go1 (Nat.le_of_ble_eq_true rfl) (Tn_w (hc _ _ hx i h0 h6 G hG) fun r1 G1 ⟨v1, e1, i1, hr⟩ => ?_)
  subst e1
  refine ⟨n7_I _, ?_⟩
  refine g_pop (ct_I _) ?_
  refine g_ld rfl (is_R _) ?_
  refine g_ld (v := 4004) rfl rfl ?_
  refine g_ld rfl (is_I _) ?_
  refine g_const (v := cI 1) rfl ?_
  refine g_add ?_
  refine g_xald (k := 500) (x := xs (i + 1)) (by omega) (by omega) (by omega) (hx _ (by omega) (by omega)).1 ?_
  refine g_callV (As := As1 xs i) oM (fun _ => rfl) ?_
  refine g_go1 (Nat.le_of_ble_eq_true rfl) (Tn_w hr fun r2 G2 ⟨v2, e2, i2, hI⟩ => ?_)
  subst e2
  refine ⟨n7_I _, ?_⟩
  refine g_pop (ct_I _) ?_
  unfold vL_law_1341
  refine g_inc (lv' := [4004, rf 0, rf 16081, cI (i + 6)]) rfl (Nat.le_of_ble_eq_true rfl) (Or.inr (n1_R _)) rfl ?_
  exact hn _ hI
def call36 (I : gS → Prop) : Prop := ∀ (sc : List Nat) (xs : Int → Int), (∀ q : Int, 0 ≤ q → q < sc.length → rx_nth sc q.toNat 7 = cI (xs q) ∧ inI (xs q)) → ∀ i : Int, 0 ≤ i → i + 6 ≤ sc.length → ∀ G, I G → pair FX12_state FX13_state (As1 xs i) G (fun _ _ G2 => I G2)
set_option maxRecDepth 20000 in
theorem law36 (hc : call36 I) (hx : ∀ q : Int, 0 ≤ q → q < sc.length → rx_nth sc q.toNat 7 = cI (xs q) ∧ inI (xs q)) (hl : sc.length ≤ 3072) (h0 : 0 ≤ i) (h6 : i + 6 ≤ sc.length) (hG : I G) (hn : ∀ G, I G → Tg W0 (j 0) [4004, rf 0, rf 16081, cI (i + 6)] [] G Q) : Tg W0 (vL_law_1262 sc j) [4004, rf 0, rf 16081, cI i] [] G Q := by
  unfold vL_law_1262
  refine g_ld rfl (is_R _) ?_
  refine g_ld (v := 4004) rfl rfl ?_
  refine g_ld rfl (is_I _) ?_
  refine g_const (v := cI 1) rfl ?_
  refine g_add ?_
  refine g_xald (k := 500) (x := xs (i + 1)) (by omega) (by omega) (by omega) (hx _ (by omega) (by omega)).1 ?_
  refine g_callV (As := As1 xs i) oX (fun _ => rfl) ?_
  refine g_go1 (Nat.le_of_ble_eq_true rfl) (Tn_w (hc _ _ hx i h0 h6 G hG) fun r1 G1 ⟨v1, e1, i1, hr⟩ => ?_)
  subst e1
  refine ⟨n7_I _, ?_⟩
  refine g_pop (ct_I _) ?_
  refine g_ld rfl (is_R _) ?_
  refine g_ld (v := 4004) rfl rfl ?_
  refine g_ld rfl (is_I _) ?_
  refine g_const (v := cI 1) rfl ?_
  refine g_add ?_
  refine g_xald (k := 500) (x := xs (i + 1)) (by omega) (by omega) (by omega) (hx _ (by omega) (by omega)).1 ?_
  refine g_callV (As := As1 xs i) oM (fun _ => rfl) ?_
  refine g_go1 (Nat.le_of_ble_eq_true rfl) (Tn_w hr fun r2 G2 ⟨v2, e2, i2, hI⟩ => ?_)
  subst e2
  refine ⟨n7_I _, ?_⟩
  refine g_pop (ct_I _) ?_
  unfold vL_law_1341
  refine g_inc (lv' := [4004, rf 0, rf 16081, cI (i + 6)]) rfl (Nat.le_of_ble_eq_true rfl) (Or.inr (n1_R _)) rfl ?_
  exact hn _ hI
def call37 (I : gS → Prop) : Prop := ∀ (sc : List Nat) (xs : Int → Int), (∀ q : Int, 0 ≤ q → q < sc.length → rx_nth sc q.toNat 7 = cI (xs q) ∧ inI (xs q)) → ∀ i : Int, 0 ≤ i → i + 6 ≤ sc.length → ∀ G, I G → pair FX12_classOf FX13_classOf (As1 xs i) G (fun _ _ G2 => I G2)
set_option maxRecDepth 20000 in
theorem law37 (hc : call37 I) (hx : ∀ q : Int, 0 ≤ q → q < sc.length → rx_nth sc q.toNat 7 = cI (xs q) ∧ inI (xs q)) (hl : sc.length ≤ 3072) (h0 : 0 ≤ i) (h6 : i + 6 ≤ sc.length) (hG : I G) (hn : ∀ G, I G → Tg W0 (j 0) [4004, rf 0, rf 16081, cI (i + 6)] [] G Q) : Tg W0 (vL_law_1285 sc j) [4004, rf 0, rf 16081, cI i] [] G Q := by
  unfold vL_law_1285
  refine g_ld rfl (is_R _) ?_
  refine g_ld (v := 4004) rfl rfl ?_
  refine g_ld rfl (is_I _) ?_
  refine g_const (v := cI 1) rfl ?_
  refine g_add ?_
  refine g_xald (k := 500) (x := xs (i + 1)) (by omega) (by omega) (by omega) (hx _ (by omega) (by omega)).1 ?_
  refine g_callV (As := As1 xs i) oX (fun _ => rfl) ?_
  refine g_go1 (Nat.le_of_ble_eq_true rfl) (Tn_w (hc _ _ hx i h0 h6 G hG) fun r1 G1 ⟨v1, e1, i1, hr⟩ => ?_)
  subst e1
  refine ⟨n7_I _, ?_⟩
  refine g_pop (ct_I _) ?_
  refine g_ld rfl (is_R _) ?_
  refine g_ld (v := 4004) rfl rfl ?_
  refine g_ld rfl (is_I _) ?_
  refine g_const (v := cI 1) rfl ?_
  refine g_add ?_
  refine g_xald (k := 500) (x := xs (i + 1)) (by omega) (by omega) (by omega) (hx _ (by omega) (by omega)).1 ?_
  refine g_callV (As := As1 xs i) oM (fun _ => rfl) ?_
  refine g_go1 (Nat.le_of_ble_eq_true rfl) (Tn_w hr fun r2 G2 ⟨v2, e2, i2, hI⟩ => ?_)
  subst e2
  refine ⟨n7_I _, ?_⟩
  refine g_pop (ct_I _) ?_
  unfold vL_law_1341
  refine g_inc (lv' := [4004, rf 0, rf 16081, cI (i + 6)]) rfl (Nat.le_of_ble_eq_true rfl) (Or.inr (n1_R _)) rfl ?_
  exact hn _ hI
def call38 (I : gS → Prop) : Prop := ∀ (sc : List Nat) (xs : Int → Int), (∀ q : Int, 0 ≤ q → q < sc.length → rx_nth sc q.toNat 7 = cI (xs q) ∧ inI (xs q)) → ∀ i : Int, 0 ≤ i → i + 6 ≤ sc.length → ∀ G, I G → pair FX12_fieldOf FX13_fieldOf (As2 xs i) G (fun _ _ G2 => I G2)
set_option maxRecDepth 20000 in
theorem law38 (hc : call38 I) (hx : ∀ q : Int, 0 ≤ q → q < sc.length → rx_nth sc q.toNat 7 = cI (xs q) ∧ inI (xs q)) (hl : sc.length ≤ 3072) (h0 : 0 ≤ i) (h6 : i + 6 ≤ sc.length) (hG : I G) (hn : ∀ G, I G → Tg W0 (j 0) [4004, rf 0, rf 16081, cI (i + 6)] [] G Q) : Tg W0 (vL_law_1308 sc j) [4004, rf 0, rf 16081, cI i] [] G Q := by
  unfold vL_law_1308
  refine g_ld rfl (is_R _) ?_
  refine g_ld (v := 4004) rfl rfl ?_
  refine g_ld rfl (is_I _) ?_
  refine g_const (v := cI 1) rfl ?_
  refine g_add ?_
  refine g_xald (k := 500) (x := xs (i + 1)) (by omega) (by omega) (by omega) (hx _ (by omega) (by omega)).1 ?_
  refine g_ld (v := 4004) rfl rfl ?_
  refine g_ld rfl (is_I _) ?_
  refine g_const (v := cI 2) rfl ?_
  refine g_add ?_
  refine g_xald (k := 500) (x := xs (i + 2)) (by omega) (by omega) (by omega) (hx _ (by omega) (by omega)).1 ?_
  refine g_callV (As := As2 xs i) oX (fun _ => rfl) ?_
  refine g_go1 (Nat.le_of_ble_eq_true rfl) (Tn_w (hc _ _ hx i h0 h6 G hG) fun r1 G1 ⟨v1, e1, i1, hr⟩ => ?_)
  subst e1
  refine ⟨n7_I _, ?_⟩
  refine g_pop (ct_I _) ?_
  refine g_ld rfl (is_R _) ?_
  refine g_ld (v := 4004) rfl rfl ?_
  refine g_ld rfl (is_I _) ?_
  refine g_const (v := cI 1) rfl ?_
  refine g_add ?_
  refine g_xald (k := 500) (x := xs (i + 1)) (by omega) (by omega) (by omega) (hx _ (by omega) (by omega)).1 ?_
  refine g_ld (v := 4004) rfl rfl ?_
  refine g_ld rfl (is_I _) ?_
  refine g_const (v := cI 2) rfl ?_
  refine g_add ?_
  refine g_xald (k := 500) (x := xs (i + 2)) (by omega) (by omega) (by omega) (hx _ (by omega) (by omega)).1 ?_
  unfold vL_law_1334
  refine g_callV (As := As2 xs i) oM (fun _ => rfl) ?_
  refine g_go1 (Nat.le_of_ble_eq_true rfl) (Tn_w hr fun r2 G2 ⟨v2, e2, i2, hI⟩ => ?_)
  subst e2
  refine ⟨n7_I _, ?_⟩
  refine g_pop (ct_I _) ?_
  unfold vL_law_1341
  refine g_inc (lv' := [4004, rf 0, rf 16081, cI (i + 6)]) rfl (Nat.le_of_ble_eq_true rfl) (Or.inr (n1_R _)) rfl ?_
  exact hn _ hI
set_option maxRecDepth 20000 in
theorem law_sw (c0 : call0 I) (c1 : call1 I) (c2 : call2 I) (c3 : call3 I) (c4 : call4 I) (c5 : call5 I) (c6 : call6 I) (c7 : call7 I) (c8 : call8 I) (c9 : call9 I) (c10 : call10 I) (c11 : call11 I) (c12 : call12 I) (c13 : call13 I) (c14 : call14 I) (c15 : call15 I) (c16 : call16 I) (c17 : call17 I) (c18 : call18 I) (c19 : call19 I) (c20 : call20 I) (c21 : call21 I) (c22 : call22 I) (c23 : call23 I) (c24 : call24 I) (c25 : call25 I) (c26 : call26 I) (c27 : call27 I) (c28 : call28 I) (c29 : call29 I) (c30 : call30 I) (c31 : call31 I) (c32 : call32 I) (c33 : call33 I) (c34 : call34 I) (c35 : call35 I) (c36 : call36 I) (c37 : call37 I) (c38 : call38 I) (hx : ∀ q : Int, 0 ≤ q → q < sc.length → rx_nth sc q.toNat 7 = cI (xs q) ∧ inI (xs q)) (hl : sc.length ≤ 3072) (h0 : 0 ≤ i) (h6 : i + 6 ≤ sc.length) (hG : I G) (hn : ∀ G, I G → Tg W0 (j 0) [4004, rf 0, rf 16081, cI (i + 6)] [] G Q) : Tg W0 (vL_law_27 sc j) [4004, rf 0, rf 16081, cI i] [] G Q := by
  unfold vL_law_27
  refine g_ld (v := 4004) rfl rfl ?_
  refine g_ld rfl (is_I _) ?_
  refine g_xald (k := 500) (x := xs i) h0 (by omega) (by omega) (hx _ (by omega) (by omega)).1 ?_
  refine g_const (v := cI 63) rfl ?_
  refine g_iand fun _ => ?_
  have hw := i63 (xs i)
  refine g_sw0 hw.1 (by omega) ?_
  have hn64 : (iand (xs i) 63).toNat < 64 := by omega
  generalize (iand (xs i) 63).toNat = w at hn64
  by_cases h39 : w < 39
  · rcases (show w = 0 ∨ w = 1 ∨ w = 2 ∨ w = 3 ∨ w = 4 ∨ w = 5 ∨ w = 6 ∨ w = 7 ∨ w = 8 ∨ w = 9 ∨ w = 10 ∨ w = 11 ∨ w = 12 ∨ w = 13 ∨ w = 14 ∨ w = 15 ∨ w = 16 ∨ w = 17 ∨ w = 18 ∨ w = 19 ∨ w = 20 ∨ w = 21 ∨ w = 22 ∨ w = 23 ∨ w = 24 ∨ w = 25 ∨ w = 26 ∨ w = 27 ∨ w = 28 ∨ w = 29 ∨ w = 30 ∨ w = 31 ∨ w = 32 ∨ w = 33 ∨ w = 34 ∨ w = 35 ∨ w = 36 ∨ w = 37 ∨ w = 38 by omega) with e | e | e | e | e | e | e | e | e | e | e | e | e | e | e | e | e | e | e | e | e | e | e | e | e | e | e | e | e | e | e | e | e | e | e | e | e | e | e
    · subst e; exact law0 c0 hx hl h0 h6 hG hn
    · subst e; exact law1 c1 hx hl h0 h6 hG hn
    · subst e; exact law2 c2 hx hl h0 h6 hG hn
    · subst e; exact law3 c3 hx hl h0 h6 hG hn
    · subst e; exact law4 c4 hx hl h0 h6 hG hn
    · subst e; exact law5 c5 hx hl h0 h6 hG hn
    · subst e; exact law6 c6 hx hl h0 h6 hG hn
    · subst e; exact law7 c7 hx hl h0 h6 hG hn
    · subst e; exact law8 c8 hx hl h0 h6 hG hn
    · subst e; exact law9 c9 hx hl h0 h6 hG hn
    · subst e; exact law10 c10 hx hl h0 h6 hG hn
    · subst e; exact law11 c11 hx hl h0 h6 hG hn
    · subst e; exact law12 c12 hx hl h0 h6 hG hn
    · subst e; exact law13 c13 hx hl h0 h6 hG hn
    · subst e; exact law14 c14 hx hl h0 h6 hG hn
    · subst e; exact law15 c15 hx hl h0 h6 hG hn
    · subst e; exact law16 c16 hx hl h0 h6 hG hn
    · subst e; exact law17 c17 hx hl h0 h6 hG hn
    · subst e; exact law18 c18 hx hl h0 h6 hG hn
    · subst e; exact law19 c19 hx hl h0 h6 hG hn
    · subst e; exact law20 c20 hx hl h0 h6 hG hn
    · subst e; exact law21 c21 hx hl h0 h6 hG hn
    · subst e; exact law22 c22 hx hl h0 h6 hG hn
    · subst e; exact law23 c23 hx hl h0 h6 hG hn
    · subst e; exact law24 c24 hx hl h0 h6 hG hn
    · subst e; exact law25 c25 hx hl h0 h6 hG hn
    · subst e; exact law26 c26 hx hl h0 h6 hG hn
    · subst e; exact law27 c27 hx hl h0 h6 hG hn
    · subst e; exact law28 c28 hx hl h0 h6 hG hn
    · subst e; exact law29 c29 hx hl h0 h6 hG hn
    · subst e; exact law30 c30 hx hl h0 h6 hG hn
    · subst e; exact law31 c31 hx hl h0 h6 hG hn
    · subst e; exact law32 c32 hx hl h0 h6 hG hn
    · subst e; exact law33 c33 hx hl h0 h6 hG hn
    · subst e; exact law34 c34 hx hl h0 h6 hG hn
    · subst e; exact law35 c35 hx hl h0 h6 hG hn
    · subst e; exact law36 c36 hx hl h0 h6 hG hn
    · subst e; exact law37 c37 hx hl h0 h6 hG hn
    · subst e; exact law38 c38 hx hl h0 h6 hG hn
  · obtain ⟨m, rfl⟩ : ∃ m, w = m + 39 := ⟨w - 39, by omega⟩
    show Tg W0 (vL_law_1341 sc j) _ _ _ _
    unfold vL_law_1341
    refine g_inc (lv' := [4004, rf 0, rf 16081, cI (i + 6)]) rfl (Nat.le_of_ble_eq_true rfl) (Or.inr (n1_R _)) rfl ?_
    exact hn _ hG
set_option maxRecDepth 20000 in
theorem law_all (c0 : call0 I) (c1 : call1 I) (c2 : call2 I) (c3 : call3 I) (c4 : call4 I) (c5 : call5 I) (c6 : call6 I) (c7 : call7 I) (c8 : call8 I) (c9 : call9 I) (c10 : call10 I) (c11 : call11 I) (c12 : call12 I) (c13 : call13 I) (c14 : call14 I) (c15 : call15 I) (c16 : call16 I) (c17 : call17 I) (c18 : call18 I) (c19 : call19 I) (c20 : call20 I) (c21 : call21 I) (c22 : call22 I) (c23 : call23 I) (c24 : call24 I) (c25 : call25 I) (c26 : call26 I) (c27 : call27 I) (c28 : call28 I) (c29 : call29 I) (c30 : call30 I) (c31 : call31 I) (c32 : call32 I) (c33 : call33 I) (c34 : call34 I) (c35 : call35 I) (c36 : call36 I) (c37 : call37 I) (c38 : call38 I) (hx : ∀ q : Int, 0 ≤ q → q < sc.length → rx_nth sc q.toNat 7 = cI (xs q) ∧ inI (xs q)) (hl : sc.length ≤ 3072) (hG : I G) : Tg W0 (vL sc) [4004, rf 0, rf 16081, 7] [] G (fun r _ => r = 8) := by
  have hb : ∀ (j : Nat → rx_K) (h m : Nat) (lv : List Nat) (G' : gS), (h = 0 ∧ ∃ i : Int, 0 ≤ i ∧ i ≤ sc.length + 6 ∧ i + m = sc.length + 6 ∧ lv = [4004, rf 0, rf 16081, cI i] ∧ I G') → (∀ (h' m' : Nat) (lv' : List Nat) (G'' : gS), m' < m → (h' = 0 ∧ ∃ i : Int, 0 ≤ i ∧ i ≤ sc.length + 6 ∧ i + m' = sc.length + 6 ∧ lv' = [4004, rf 0, rf 16081, cI i] ∧ I G'') → Tg W0 (j h') lv' [] G'' (fun r _ => r = 8)) → Tg W0 (rx_nth (vhL_law sc j) h o_none) lv [] G' (fun r _ => r = 8) := by
    rintro j h m lv G' ⟨rfl, i, h0, h1, h2, rfl, hI⟩ hj
    show Tg W0 (vL_law_18 sc j) _ _ _ _
    unfold vL_law_18
    refine g_ld rfl (is_I _) ?_
    refine g_ld (v := 4004) rfl rfl ?_
    refine g_xv (k := 500) (v := cI sc.length) (by unfold cI; omega) ?_
    refine g_const (v := cI 6) rfl ?_
    refine g_sub ?_
    refine g_gt2 ⟨by omega, by omega⟩ ⟨by omega, by omega⟩ (fun hb => ?_) (fun hb => ?_)
    · unfold vL_law_1347
      refine g_const (v := cI 1) rfl ?_
      exact g_ret1 rfl rfl
    · refine law_sw c0 c1 c2 c3 c4 c5 c6 c7 c8 c9 c10 c11 c12 c13 c14 c15 c16 c17 c18 c19 c20 c21 c22 c23 c24 c25 c26 c27 c28 c29 c30 c31 c32 c33 c34 c35 c36 c37 c38 hx hl h0 (by omega) hI (fun G'' hI'' => ?_)
      exact hj 0 (m - 6) _ _ (by omega) ⟨rfl, i + 6, by omega, by omega, by omega, rfl, hI''⟩
  unfold vL vL_law_16
  refine g_const (v := cI 0) rfl ?_
  refine g_st (lv' := [4004, rf 0, rf 16081, cI 0]) (is_I _) (Nat.le_of_ble_eq_true rfl) (Or.inr (n1_R _)) rfl ?_
  exact hb _ 0 (sc.length + 6) _ _ ⟨rfl, 0, by omega, by omega, by omega, rfl, hG⟩ (fun h' m' lv' G'' hm hp => g_loop _ hb 4000000000 h' m' lv' G'' (by omega) hp)
/-- the plain statement out of one for each call -/
theorem plain_open (c0 : call0 I) (c1 : call1 I) (c2 : call2 I) (c3 : call3 I) (c4 : call4 I) (c5 : call5 I) (c6 : call6 I) (c7 : call7 I) (c8 : call8 I) (c9 : call9 I) (c10 : call10 I) (c11 : call11 I) (c12 : call12 I) (c13 : call13 I) (c14 : call14 I) (c15 : call15 I) (c16 : call16 I) (c17 : call17 I) (c18 : call18 I) (c19 : call19 I) (c20 : call20 I) (c21 : call21 I) (c22 : call22 I) (c23 : call23 I) (c24 : call24 I) (c25 : call25 I) (c26 : call26 I) (c27 : call27 I) (c28 : call28 I) (c29 : call29 I) (c30 : call30 I) (c31 : call31 I) (c32 : call32 I) (c33 : call33 I) (c34 : call34 I) (c35 : call35 I) (c36 : call36 I) (c37 : call37 I) (c38 : call38 I) (hs : I zG0) : zPlain := by
  intro sc hsc hl
  have hx : ∃ xs : Int → Int, ∀ q : Int, 0 ≤ q → q < sc.length → rx_nth sc q.toNat 7 = cI (xs q) ∧ inI (xs q) := by
    refine ⟨fun q => (rx_di (rx_nth sc q.toNat 7)).toInt, fun q h0 h1 => ?_⟩
    have hq : q.toNat < sc.length := by omega
    obtain ⟨x, hx⟩ := hsc sc[q.toNat] (List.getElem_mem hq)
    have e : rx_nth sc q.toNat 7 = rx_ei x := by
      rw [rx_nth_eq, List.getElem?_eq_getElem hq, hx]; rfl
    show rx_nth sc q.toNat 7 = cI (rx_di (rx_nth sc q.toNat 7)).toInt ∧ inI (rx_di (rx_nth sc q.toNat 7)).toInt
    rw [e, eI, di_I, of_I]
    exact ⟨rfl, in_x x⟩
  obtain ⟨xs, hx⟩ := hx
  obtain ⟨r, h', e1, e2, G', -, -, e3⟩ := law_all c0 c1 c2 c3 c4 c5 c6 c7 c8 c9 c10 c11 c12 c13 c14 c15 c16 c17 c18 c19 c20 c21 c22 c23 c24 c25 c26 c27 c28 c29 c30 c31 c32 c33 c34 c35 c36 c37 c38 hx hl hs start_TY _ start_EN zh0 start_WF rfl
  subst e3
  refine ⟨h', ?_, ?_, ?_⟩
  · exact e1
  · rw [e2.1]; exact Nat.le_of_ble_eq_true rfl
  · rw [e2.2.1]; exact Nat.le_of_ble_eq_true rfl
end LW

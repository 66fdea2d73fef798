section R3
-- strings by number: k stands for the code 16 k + 52
def sC (k : Int) : Nat := 16 * k.toNat + 52
theorem sC_4 (k : Int) : sC k % 8 = 4 := by unfold sC; omega
theorem is_S (k : Int) : rx_isR (sC k) = true := by
  unfold rx_isR
  rw [sC_4, show Nat.ble 5 (sC k / 8) = true from Nat.ble_eq_true_of_le (by unfold sC; omega)]; rfl
theorem n1_S (k : Int) : sC k % 8 ≠ 1 := by rw [sC_4]; decide
theorem n7_S (k : Int) : sC k % 8 ≠ 7 := by rw [sC_4]; decide
theorem ct_S (k : Int) : rx_ct (sC k) = 1 := by unfold rx_ct; rw [sC_4]; rfl
theorem flS {k : Int} {As Bs : List Nat} (hs : fl As Bs) : fl (sC k :: As) (sC k :: Bs) := flc (n1_S k) hs
def sTab : List (List Nat) := [[99, 108, 97, 115, 115, 32, 102, 97, 99, 101, 32, 97, 115, 32, 105, 115, 32, 105, 110, 32, 119, 105, 116, 104, 32, 111, 110, 108, 121, 32, 111, 112, 101, 110, 32, 107, 105, 110, 32, 111, 119, 110, 32, 102, 105, 110, 97, 108, 32, 98, 97, 114, 101, 32, 115, 116, 97, 116, 105, 99, 32, 115, 116, 97, 114, 116, 32, 118, 111, 105, 100, 32, 110, 101, 119, 32, 105, 110, 116, 32, 108, 101, 116, 32, 105, 102, 32, 101, 108, 115, 101, 32, 119, 104, 105, 108, 101, 32, 114, 101, 116, 117, 114, 110, 32, 116, 104, 114, 111, 119, 32, 116, 114, 121, 32, 99, 97, 116, 99, 104, 32, 111, 117, 116, 32, 110, 117, 108, 108, 32, 116, 104, 105, 115, 32, 115, 117, 112, 101, 114, 32, 97, 115, 107, 32], [111, 112, 101, 110, 32], [102, 105, 110, 97, 108, 32], [102, 97, 99, 101, 32], [32, 105, 115, 32], [32, 97, 115, 32], [32, 105, 110, 32], [32, 119, 105, 116, 104, 32], [32, 111, 110, 108, 121, 32], [99, 108, 97, 115, 115, 32], [98, 97, 114, 101, 32], [], [44], [98, 114, 105, 100, 103, 101, 32], [115, 116, 97, 116, 105, 99, 32], [110, 101, 119], [32], [61], [107, 105, 110, 32], [111, 119, 110, 32], [105, 110, 116], [118, 111, 105, 100], [40], [41], [46], [58], [62], [105, 110, 116], [118, 111, 105, 100], [32, 99, 108, 97, 115, 115, 32, 102, 97, 99, 101, 32, 105, 115, 32, 97, 115, 32, 105, 110, 32, 119, 105, 116, 104, 32, 111, 110, 108, 121, 32, 111, 112, 101, 110, 32, 107, 105, 110, 32, 111, 119, 110, 32, 102, 105, 110, 97, 108, 32, 98, 97, 114, 101, 32, 115, 116, 97, 116, 105, 99, 32, 115, 116, 97, 114, 116, 32, 118, 111, 105, 100, 32, 110, 101, 119, 32, 105, 110, 116, 32, 108, 101, 116, 32, 105, 102, 32, 101, 108, 115, 101, 32, 119, 104, 105, 108, 101, 32, 114, 101, 116, 117, 114, 110, 32, 116, 104, 114, 111, 119, 32, 116, 114, 121, 32, 99, 97, 116, 99, 104, 32, 111, 117, 116, 32, 110, 117, 108, 108, 32, 116, 104, 105, 115, 32, 115, 117, 112, 101, 114, 32, 97, 115, 107, 32], [111, 112, 101, 110], [102, 105, 110, 97, 108], [102, 97, 99, 101], [105, 115], [97, 115], [105, 110], [119, 105, 116, 104], [111, 110, 108, 121], [99, 108, 97, 115, 115], [98, 97, 114, 101], [107, 105, 110], [111, 119, 110], [115, 116, 97, 116, 105, 99], [110, 101, 119], [115, 116, 97, 114, 116], [110, 117, 108, 108], [116, 104, 105, 115], [115, 117, 112, 101, 114], [108, 101, 116], [105, 102], [119, 104, 105, 108, 101], [114, 101, 116, 117, 114, 110], [116, 104, 114, 111, 119], [116, 114, 121], [111, 117, 116], [101, 108, 115, 101], [99, 97, 116, 99, 104], [97, 115, 107], [99, 111, 100, 101], [44], [111, 112, 101, 110, 32], [102, 105, 110, 97, 108, 32, 99, 108, 97, 115, 115, 32], [32, 105, 115, 32], [32, 97, 115, 32], [32, 105, 110, 32], [32, 119, 105, 116, 104, 32], [32, 111, 110, 108, 121, 32], [98, 97, 114, 101, 32, 99, 108, 97, 115, 115, 32], [102, 97, 99, 101, 32], [99, 108, 97, 115, 115, 32], [], [98, 114, 105, 100, 103, 101, 32], [115, 116, 97, 116, 105, 99, 32], [102, 105, 110, 97, 108, 32], [98, 97, 114, 101, 32], [107, 105, 110, 32], [111, 119, 110, 32]]
noncomputable def sLen (k : Int) : Int := ((rx_nth sTab k.toNat []).length : Nat)
noncomputable def sChr (k i : Int) : Int := (rx_nth (rx_nth sTab k.toNat []) i.toNat 0 : Nat)
theorem inI_slen {k : Int} (h : 0 ≤ sLen k ∧ sLen k < 200) : inI (sLen k) := by unfold inI; omega
theorem inI_schr {k i : Int} (h : 0 ≤ sChr k i ∧ sChr k i < 128) : inI (sChr k i) := by unfold inI; omega
-- int arithmetic that wraps
def w32 (x : Int) : Int := (Int32.ofInt x).toInt
theorem in_w32 (x : Int) : inI (w32 x) := in_x _
theorem cI_w32 (x : Int) : cI (w32 x) = cI x := by unfold w32; rw [← eI, ei_I]
theorem w32_in {x : Int} (h : inI x) : w32 x = x := ti_I h
section
variable {S : hW} {k f t kk : rx_K} {lv st : List Nat} {G : gS} {Q : Nat → gS → Prop}
theorem g_addw {x y : Int} (hk : Tg S k lv (cI (w32 (x + y)) :: st) G Q) : Tg S (o_bi (fun x y => x + y) k) lv (cI y :: cI x :: st) G Q := g_add (by rw [← cI_w32]; exact hk)
theorem g_subw {x y : Int} (hk : Tg S k lv (cI (w32 (x - y)) :: st) G Q) : Tg S (o_bi (fun x y => x - y) k) lv (cI y :: cI x :: st) G Q := g_sub (by rw [← cI_w32]; exact hk)
theorem g_mulw {x y : Int} (hk : Tg S k lv (cI (w32 (x * y)) :: st) G Q) : Tg S (o_bi (fun x y => x * y) k) lv (cI y :: cI x :: st) G Q := g_mul (by rw [← cI_w32]; exact hk)
theorem mk_A {c : Nat} {g : Int} (q : g = -1 ∨ ∃ n, isA S c n g) : okG S (c + 30) g := by
  unfold okG
  rw [if_neg (by omega), if_neg (by omega), if_neg (by omega), if_neg (by omega), if_neg (by omega), Nat.add_sub_cancel]; exact q
theorem g_putA {ci k0 c : Nat} {o kz v : Int} (ho : isO S ci o) (hkz : (k0 : Int) = kz) (hk0 : k0 < nF ci) (hf : fT ci k0 = c + 30) (hv : v = -1 ∨ ∃ n, isA S c n v) (hn : S.2 o kz = none) (hk : Tg S k lv st (uG G o kz v) Q) : Tg S (o_putf rx_isR ci k0 k) lv (rf v :: rf o :: st) G Q := g_putf (is_R v) ho hkz hk0 (by rw [hf]; exact enc_R (by omega) v) (by rw [hf]; exact mk_A hv) hn hk
theorem g_pop2 {v : Int} (hk : Tg S k lv st G Q) : Tg S (o_pop2 k) lv (cL v :: st) G Q := fun ht H he => t_eq2 (g := k) (lv' := lv) (st' := st) (fun h _ _ => by
  show (bif Nat.beq (rx_ct (cL v)) 2 then k lv st h else none) = _
  rw [ct_L]; rfl) (hk ht H he)
theorem g_lsw {ps : List (Int × Nat)} {dt u : Nat} {j : Nat → rx_K} {x : Int} (hi : inI x) (hu : rx_lsw ps dt x = u) (hk : Tg S (j u) lv st G Q) : Tg S (o_lsw ps dt j) lv (cI x :: st) G Q := fun ht H he => t_eq2 (g := j u) (lv' := lv) (st' := st) (fun h _ _ => by
  show (bif Nat.beq (cI x % 8) 0 then j (rx_lsw ps dt (rx_di (cI x)).toInt) lv st h else none) = _
  rw [cI_0, di_I, ti_I hi, hu]; rfl) (hk ht H he)
theorem lsw_eq {a : Int} {n dt : Nat} {ps : List (Int × Nat)} {x : Int} (h : a = x) : rx_lsw ((a, n) :: ps) dt x = n := if_pos h
theorem lsw_ne {a : Int} {n dt u : Nat} {ps : List (Int × Nat)} {x : Int} (h : ¬ a = x) (hu : rx_lsw ps dt x = u) : rx_lsw ((a, n) :: ps) dt x = u := (if_neg h).trans hu
-- a chain of calls by which string it is
noncomputable def altL (n : Nat) (g : List Nat → rx_H → Option (Nat × rx_H)) (kk : rx_K) : List Nat → rx_K
  | [] => o_none
  | x :: l => o_alt (zqn n x) (o_callX n x g kk) (altL n g kk l)
theorem altL_at {n : Nat} {g : List Nat → rx_H → Option (Nat × rx_H)} {x : Nat} {h : rx_H} (e : rx_get 7 st n = 8 * x + 4) : ∀ l : List Nat, x ∈ l → altL n g kk l lv st h = o_callX n x g kk lv st h
  | [], m => by cases m
  | y :: l, m => by
    show (bif Nat.beq (rx_get 7 st n) (8 * y + 4) then o_callX n y g kk lv st h else altL n g kk l lv st h) = _
    by_cases q : y = x
    · subst q
      rw [e, show Nat.beq (8 * y + 4) (8 * y + 4) = true by simp]; rfl
    · have hb : Nat.beq (rx_get 7 st n) (8 * y + 4) = false := by
        rw [Bool.eq_false_iff]
        intro z
        have z := rx_beq z
        omega
      rw [hb, cond_false]
      exact altL_at e l (by rcases List.mem_cons.mp m with z | z; exact absurd z.symm q; exact z)
def zXS : List Nat := [6, 8, 10, 12, 14, 16, 18, 20, 22, 24, 26, 28, 30, 32, 34, 36, 38, 40, 42, 44, 46, 48, 50, 52, 54, 56, 58, 60, 62, 64, 66, 68, 70, 72, 74, 76, 78, 80, 82, 84, 86, 88, 90, 92, 94, 96, 98, 100, 102, 104, 106, 108, 110, 112, 114, 116, 118, 120, 122, 124, 126, 128, 130, 132, 134, 136, 138, 140, 142, 144, 146, 148, 150, 152, 154, 156, 158]
theorem zXS_in {k : Int} (h : 0 ≤ k ∧ k < 77) : 6 + 2 * k.toNat ∈ zXS := by
  have h2 : ∀ n : Nat, n < 77 → 6 + 2 * n ∈ zXS := by decide
  exact h2 _ (by omega)
def AllS (P : Nat → Nat → Prop) : List Nat → Nat → Prop
  | [], _ => True
  | a :: l, k => P k a ∧ AllS P l (k + 1)
theorem AllS_at {P : Nat → Nat → Prop} : ∀ (l : List Nat) (k i : Nat), AllS P l k → i < l.length → P (k + i) (rx_nth l i 0)
  | [], _, _, _, h => absurd h (by simp)
  | a :: l, k, 0, q, _ => q.1
  | a :: l, k, i + 1, q, h => by
    have := AllS_at l (k + 1) i q.2 (by simpa using h)
    rwa [show k + 1 + i = k + (i + 1) by omega] at this
def AllT (P : Nat → List Nat → Prop) : List (List Nat) → Nat → Prop
  | [], _ => True
  | a :: l, k => P k a ∧ AllT P l (k + 1)
theorem AllT_at {P : Nat → List Nat → Prop} : ∀ (l : List (List Nat)) (k i : Nat), AllT P l k → i < l.length → P (k + i) (rx_nth l i [])
  | [], _, _, _, h => absurd h (by simp)
  | a :: l, k, 0, q, _ => q.1
  | a :: l, k, i + 1, q, h => by
    have := AllT_at l (k + 1) i q.2 (by simpa using h)
    rwa [show k + 1 + i = k + (i + 1) by omega] at this

set_option maxRecDepth 1000000 in
theorem slen_tab (h : rx_H) : AllT (fun k l => FJ0_length_8abf5 [16 * k + 52] h = some (8 * l.length, h)) sTab 0 := ⟨rfl, rfl, rfl, rfl, rfl, rfl, rfl, rfl, rfl, rfl, rfl, rfl, rfl, rfl, rfl, rfl, rfl, rfl, rfl, rfl, rfl, rfl, rfl, rfl, rfl, rfl, rfl, rfl, rfl, rfl, rfl, rfl, rfl, rfl, rfl, rfl, rfl, rfl, rfl, rfl, rfl, rfl, rfl, rfl, rfl, rfl, rfl, rfl, rfl, rfl, rfl, rfl, rfl, rfl, rfl, rfl, rfl, rfl, rfl, rfl, rfl, rfl, rfl, rfl, rfl, rfl, rfl, rfl, rfl, rfl, rfl, rfl, rfl, rfl, rfl, rfl, rfl, trivial⟩
set_option maxRecDepth 1000000 in
theorem schr_tab (h : rx_H) : AllT (fun k l => AllS (fun i c => FJ0_charAt_5068e [16 * k + 52, 8 * i] h = some (8 * c, h)) l 0) sTab 0 := ⟨⟨rfl, rfl, rfl, rfl, rfl, rfl, rfl, rfl, rfl, rfl, rfl, rfl, rfl, rfl, rfl, rfl, rfl, rfl, rfl, rfl, rfl, rfl, rfl, rfl, rfl, rfl, rfl, rfl, rfl, rfl, rfl, rfl, rfl, rfl, rfl, rfl, rfl, rfl, rfl, rfl, rfl, rfl, rfl, rfl, rfl, rfl, rfl, rfl, rfl, rfl, rfl, rfl, rfl, rfl, rfl, rfl, rfl, rfl, rfl, rfl, rfl, rfl, rfl, rfl, rfl, rfl, rfl, rfl, rfl, rfl, rfl, rfl, rfl, rfl, rfl, rfl, rfl, rfl, rfl, rfl, rfl, rfl, rfl, rfl, rfl, rfl, rfl, rfl, rfl, rfl, rfl, rfl, rfl, rfl, rfl, rfl, rfl, rfl, rfl, rfl, rfl, rfl, rfl, rfl, rfl, rfl, rfl, rfl, rfl, rfl, rfl, rfl, rfl, rfl, rfl, rfl, rfl, rfl, rfl, rfl, rfl, rfl, rfl, rfl, rfl, rfl, rfl, rfl, rfl, rfl, rfl, rfl, rfl, rfl, rfl, rfl, rfl, rfl, rfl, rfl, rfl, rfl, rfl, rfl, rfl, trivial⟩, ⟨rfl, rfl, rfl, rfl, rfl, trivial⟩, ⟨rfl, rfl, rfl, rfl, rfl, rfl, trivial⟩, ⟨rfl, rfl, rfl, rfl, rfl, trivial⟩, ⟨rfl, rfl, rfl, rfl, trivial⟩, ⟨rfl, rfl, rfl, rfl, trivial⟩, ⟨rfl, rfl, rfl, rfl, trivial⟩, ⟨rfl, rfl, rfl, rfl, rfl, rfl, trivial⟩, ⟨rfl, rfl, rfl, rfl, rfl, rfl, trivial⟩, ⟨rfl, rfl, rfl, rfl, rfl, rfl, trivial⟩, ⟨rfl, rfl, rfl, rfl, rfl, trivial⟩, trivial, ⟨rfl, trivial⟩, ⟨rfl, rfl, rfl, rfl, rfl, rfl, rfl, trivial⟩, ⟨rfl, rfl, rfl, rfl, rfl, rfl, rfl, trivial⟩, ⟨rfl, rfl, rfl, trivial⟩, ⟨rfl, trivial⟩, ⟨rfl, trivial⟩, ⟨rfl, rfl, rfl, rfl, trivial⟩, ⟨rfl, rfl, rfl, rfl, trivial⟩, ⟨rfl, rfl, rfl, trivial⟩, ⟨rfl, rfl, rfl, rfl, trivial⟩, ⟨rfl, trivial⟩, ⟨rfl, trivial⟩, ⟨rfl, trivial⟩, ⟨rfl, trivial⟩, ⟨rfl, trivial⟩, ⟨rfl, rfl, rfl, trivial⟩, ⟨rfl, rfl, rfl, rfl, trivial⟩, ⟨rfl, rfl, rfl, rfl, rfl, rfl, rfl, rfl, rfl, rfl, rfl, rfl, rfl, rfl, rfl, rfl, rfl, rfl, rfl, rfl, rfl, rfl, rfl, rfl, rfl, rfl, rfl, rfl, rfl, rfl, rfl, rfl, rfl, rfl, rfl, rfl, rfl, rfl, rfl, rfl, rfl, rfl, rfl, rfl, rfl, rfl, rfl, rfl, rfl, rfl, rfl, rfl, rfl, rfl, rfl, rfl, rfl, rfl, rfl, rfl, rfl, rfl, rfl, rfl, rfl, rfl, rfl, rfl, rfl, rfl, rfl, rfl, rfl, rfl, rfl, rfl, rfl, rfl, rfl, rfl, rfl, rfl, rfl, rfl, rfl, rfl, rfl, rfl, rfl, rfl, rfl, rfl, rfl, rfl, rfl, rfl, rfl, rfl, rfl, rfl, rfl, rfl, rfl, rfl, rfl, rfl, rfl, rfl, rfl, rfl, rfl, rfl, rfl, rfl, rfl, rfl, rfl, rfl, rfl, rfl, rfl, rfl, rfl, rfl, rfl, rfl, rfl, rfl, rfl, rfl, rfl, rfl, rfl, rfl, rfl, rfl, rfl, rfl, rfl, rfl, rfl, rfl, rfl, rfl, rfl, rfl, trivial⟩, ⟨rfl, rfl, rfl, rfl, trivial⟩, ⟨rfl, rfl, rfl, rfl, rfl, trivial⟩, ⟨rfl, rfl, rfl, rfl, trivial⟩, ⟨rfl, rfl, trivial⟩, ⟨rfl, rfl, trivial⟩, ⟨rfl, rfl, trivial⟩, ⟨rfl, rfl, rfl, rfl, trivial⟩, ⟨rfl, rfl, rfl, rfl, trivial⟩, ⟨rfl, rfl, rfl, rfl, rfl, trivial⟩, ⟨rfl, rfl, rfl, rfl, trivial⟩, ⟨rfl, rfl, rfl, trivial⟩, ⟨rfl, rfl, rfl, trivial⟩, ⟨rfl, rfl, rfl, rfl, rfl, rfl, trivial⟩, ⟨rfl, rfl, rfl, trivial⟩, ⟨rfl, rfl, rfl, rfl, rfl, trivial⟩, ⟨rfl, rfl, rfl, rfl, trivial⟩, ⟨rfl, rfl, rfl, rfl, trivial⟩, ⟨rfl, rfl, rfl, rfl, rfl, trivial⟩, ⟨rfl, rfl, rfl, trivial⟩, ⟨rfl, rfl, trivial⟩, ⟨rfl, rfl, rfl, rfl, rfl, trivial⟩, ⟨rfl, rfl, rfl, rfl, rfl, rfl, trivial⟩, ⟨rfl, rfl, rfl, rfl, rfl, trivial⟩, ⟨rfl, rfl, rfl, trivial⟩, ⟨rfl, rfl, rfl, trivial⟩, ⟨rfl, rfl, rfl, rfl, trivial⟩, ⟨rfl, rfl, rfl, rfl, rfl, trivial⟩, ⟨rfl, rfl, rfl, trivial⟩, ⟨rfl, rfl, rfl, rfl, trivial⟩, ⟨rfl, trivial⟩, ⟨rfl, rfl, rfl, rfl, rfl, trivial⟩, ⟨rfl, rfl, rfl, rfl, rfl, rfl, rfl, rfl, rfl, rfl, rfl, rfl, trivial⟩, ⟨rfl, rfl, rfl, rfl, trivial⟩, ⟨rfl, rfl, rfl, rfl, trivial⟩, ⟨rfl, rfl, rfl, rfl, trivial⟩, ⟨rfl, rfl, rfl, rfl, rfl, rfl, trivial⟩, ⟨rfl, rfl, rfl, rfl, rfl, rfl, trivial⟩, ⟨rfl, rfl, rfl, rfl, rfl, rfl, rfl, rfl, rfl, rfl, rfl, trivial⟩, ⟨rfl, rfl, rfl, rfl, rfl, trivial⟩, ⟨rfl, rfl, rfl, rfl, rfl, rfl, trivial⟩, trivial, ⟨rfl, rfl, rfl, rfl, rfl, rfl, rfl, trivial⟩, ⟨rfl, rfl, rfl, rfl, rfl, rfl, rfl, trivial⟩, ⟨rfl, rfl, rfl, rfl, rfl, rfl, trivial⟩, ⟨rfl, rfl, rfl, rfl, rfl, trivial⟩, ⟨rfl, rfl, rfl, rfl, trivial⟩, ⟨rfl, rfl, rfl, rfl, trivial⟩, trivial⟩
theorem AllT_of {p : List Nat → Bool} : ∀ (l : List (List Nat)) (k : Nat), l.all p = true → AllT (fun _ x => p x = true) l k
  | [], _, _ => trivial
  | a :: l, k, h => by
    rw [List.all_cons, Bool.and_eq_true] at h
    exact ⟨h.1, AllT_of l (k + 1) h.2⟩
theorem sTab_ok : sTab.all (fun l => decide (l.length < 200) && l.all (fun c => decide (c < 128))) = true := by decide +kernel
theorem sTab_n : sTab.length = 77 := rfl
theorem sLen_b {k : Int} (h : 0 ≤ k ∧ k < 77) : 0 ≤ sLen k ∧ sLen k < 200 := by
  have := of_decide_eq_true (Bool.and_eq_true_iff.mp (AllT_at sTab 0 k.toNat (AllT_of sTab 0 sTab_ok) (by rw [sTab_n]; omega))).1
  unfold sLen
  omega
theorem sChr_b {k i : Int} (h : 0 ≤ k ∧ k < 77) (h0 : 0 ≤ i) (h1 : i < sLen k) : 0 ≤ sChr k i ∧ sChr k i < 128 := by
  have h2 := (Bool.and_eq_true_iff.mp (AllT_at sTab 0 k.toNat (AllT_of sTab 0 sTab_ok) (by rw [sTab_n]; omega))).2
  unfold sLen at h1
  unfold sChr
  have h4 : i.toNat < (rx_nth sTab k.toNat []).length := by omega
  have h3 := of_decide_eq_true (List.all_eq_true.mp h2 (rx_nth sTab k.toNat [])[i.toNat] (List.getElem_mem h4))
  rw [rx_nth_eq, List.getElem?_eq_getElem h4, Option.getD_some]
  omega
theorem g_slen {kk : rx_K} {k : Int} (h : 0 ≤ k ∧ k < 77) (h8 : rx_cs st ≤ 8) (hk : (0 ≤ sLen k ∧ sLen k < 200) → Tg S kk lv (cI (sLen k) :: st) G Q) : Tg S (altL 0 FJ0_length_8abf5 kk zXS) lv (sC k :: st) G Q := fun ht H he => t_eq2 (g := kk) (lv' := lv) (st' := cI (sLen k) :: st) (fun h' _ _ => by
  rw [altL_at (lv := lv) (st := sC k :: st) (n := 0) (g := FJ0_length_8abf5) (kk := kk) (h := h') (x := 6 + 2 * k.toNat) (show sC k = _ by unfold sC; omega) _ (zXS_in h)]
  have e : FJ0_length_8abf5 [sC k] h' = some (cI (sLen k), h') := by
    have := AllT_at sTab 0 k.toNat (slen_tab h') (by rw [sTab_n]; omega)
    rw [Nat.zero_add] at this
    unfold sC
    rw [this, cI_nat (sLen_b h).1 (by have := (sLen_b h).2; omega)]
    rfl
  show (bif Nat.beq (sC k) (8 * (6 + 2 * k.toNat) + 4) then rx_go FJ0_length_8abf5 [sC k] st lv h' kk else none) = _
  rw [show 8 * (6 + 2 * k.toNat) + 4 = sC k by unfold sC; omega, show Nat.beq (sC k) (sC k) = true by simp, cond_true]
  unfold rx_go
  rw [e, show Nat.ble (rx_cs st) 8 = true from Nat.ble_eq_true_of_le h8]
  show rx_f (cI (sLen k)) (fun r => bif Nat.beq (r % 8) 7 then kk lv st h' else kk lv (r :: st) h') = _
  rw [rx_f_eq, cI_0]; rfl) (hk (sLen_b h) ht H he)
theorem g_schr {kk : rx_K} {k i : Int} (h : 0 ≤ k ∧ k < 77) (h0 : 0 ≤ i) (h1 : i < sLen k) (h8 : rx_cs st ≤ 8) (hk : (0 ≤ sChr k i ∧ sChr k i < 128) → Tg S kk lv (cI (sChr k i) :: st) G Q) : Tg S (altL 1 FJ0_charAt_5068e kk zXS) lv (cI i :: sC k :: st) G Q := fun ht H he => t_eq2 (g := kk) (lv' := lv) (st' := cI (sChr k i) :: st) (fun h' _ _ => by
  rw [altL_at (lv := lv) (st := cI i :: sC k :: st) (n := 1) (g := FJ0_charAt_5068e) (kk := kk) (h := h') (x := 6 + 2 * k.toNat) (show sC k = _ by unfold sC; omega) _ (zXS_in h)]
  have e : FJ0_charAt_5068e [sC k, cI i] h' = some (cI (sChr k i), h') := by
    have h2 := AllT_at sTab 0 k.toNat (schr_tab h') (by rw [sTab_n]; omega)
    have h3 := AllS_at _ 0 i.toNat h2 (by unfold sLen at h1; omega)
    rw [Nat.zero_add, Nat.zero_add] at h3
    rw [cI_nat h0 (by have := (sLen_b h).2; omega), cI_nat (sChr_b h h0 h1).1 (by have := (sChr_b h h0 h1).2; omega)]
    unfold sC
    rw [h3]
    rfl
  show (bif Nat.beq (sC k) (8 * (6 + 2 * k.toNat) + 4) then rx_go FJ0_charAt_5068e [sC k, cI i] st lv h' kk else none) = _
  rw [show 8 * (6 + 2 * k.toNat) + 4 = sC k by unfold sC; omega, show Nat.beq (sC k) (sC k) = true by simp, cond_true]
  unfold rx_go
  rw [e, show Nat.ble (rx_cs st) 8 = true from Nat.ble_eq_true_of_le h8]
  show rx_f (cI (sChr k i)) (fun r => bif Nat.beq (r % 8) 7 then kk lv st h' else kk lv (r :: st) h') = _
  rw [rx_f_eq, cI_0]; rfl) (hk (sChr_b h h0 h1) ht H he)
end
def sNms : List Nat := [348255277860336320, 255873920, 6597120768, 100938048, 38080, 5312, 37760, 388317696, 255379008, 3422893248, 33890624, 0, 0, 156918378816, 1327166951616, 57687, 0, 0, 2921344, 4027264, 37780, 5829188, 0, 0, 0, 0, 0, 37780, 5829188, 348255277860336320, 3998030, 103080012, 1577157, 595, 83, 590, 6067464, 3990297, 53482707, 529541, 45646, 62926, 20736983619, 57687, 324015252, 3756812, 5276243, 324338002, 49492, 582, 388010757, 19416568974, 337716183, 83097, 62804, 1361093, 50675912, 5323, 848133, 0, 255873920, 10628829375552107712, 38080, 5312, 37760, 388317696, 255379008, 2328945950959416512, 100938048, 3422893248, 0, 156918378816, 1327166951616, 6597120768, 33890624, 2921344, 4027264]
noncomputable def sNm (k : Int) : Int := (Int64.ofNat (rx_nth sNms k.toNat 0)).toInt
set_option maxRecDepth 1000000 in
theorem snm_tab (h : rx_H) : AllS (fun k c => FX13_nameOf [16 * k + 52] h = some (8 * c + 1, h)) sNms 0 := ⟨rfl, rfl, rfl, rfl, rfl, rfl, rfl, rfl, rfl, rfl, rfl, rfl, rfl, rfl, rfl, rfl, rfl, rfl, rfl, rfl, rfl, rfl, rfl, rfl, rfl, rfl, rfl, rfl, rfl, rfl, rfl, rfl, rfl, rfl, rfl, rfl, rfl, rfl, rfl, rfl, rfl, rfl, rfl, rfl, rfl, rfl, rfl, rfl, rfl, rfl, rfl, rfl, rfl, rfl, rfl, rfl, rfl, rfl, rfl, rfl, rfl, rfl, rfl, rfl, rfl, rfl, rfl, rfl, rfl, rfl, rfl, rfl, rfl, rfl, rfl, rfl, rfl, trivial⟩
theorem sNms_n : sNms.length = 77 := rfl
theorem sNms_ok : sNms.all (fun c => decide (c < 18446744073709551616)) = true := by decide +kernel
abbrev PX13_nameOf (a0 : Int) (G : gS) (Q : Int → gS → Prop) : Prop := Q (sNm a0) G
theorem TX13_nameOf {a0 : Int} {G : gS} {Q : Int → gS → Prop} (ha0 : (0 ≤ a0 ∧ a0 < 77)) (h : PX13_nameOf a0 G Q) : Tn W0 FX13_nameOf [sC a0] G (fun r G => ∃ v, r = cL v ∧ inL v ∧ Q v G) := fun ht H he h' hw hh => by
  refine ⟨cL (sNm a0), h', ?_, hw, G, by rw [hh]; exact he, ht, sNm a0, rfl, in_xL _, h⟩
  have h2 := AllS_at sNms 0 a0.toNat (snm_tab h') (by rw [sNms_n]; omega)
  have h4 : a0.toNat < sNms.length := by rw [sNms_n]; omega
  have h3 : rx_nth sNms a0.toNat 0 < 18446744073709551616 := by
    rw [rx_nth_eq, List.getElem?_eq_getElem h4]
    exact of_decide_eq_true (List.all_eq_true.mp sNms_ok _ (List.getElem_mem h4))
  rw [Nat.zero_add] at h2
  unfold sC
  rw [h2]
  unfold sNm
  rw [← eL]
  unfold rx_el
  show some (8 * _ + 1, h') = some (8 * (BitVec.ofNat 64 _).toNat + 1, h')
  rw [BitVec.toNat_ofNat, Nat.mod_eq_of_lt h3]
-- GREAT
def sGrs : List Nat := [1, 2, 3, 5, 7, 9, 10, 13, 20, 21, 22, 23, 25, 30, 31, 32, 33, 35, 37, 41, 50, 51]
noncomputable def sGr (i : Int) : Int := (rx_nth sGrs i.toNat 0 : Nat)
theorem sGr_tab : AllS (fun i c => rx_nth zbsG i 7 = 8 * c ∧ c < 200) sGrs 0 := ⟨⟨rfl, by decide⟩, ⟨rfl, by decide⟩, ⟨rfl, by decide⟩, ⟨rfl, by decide⟩, ⟨rfl, by decide⟩, ⟨rfl, by decide⟩, ⟨rfl, by decide⟩, ⟨rfl, by decide⟩, ⟨rfl, by decide⟩, ⟨rfl, by decide⟩, ⟨rfl, by decide⟩, ⟨rfl, by decide⟩, ⟨rfl, by decide⟩, ⟨rfl, by decide⟩, ⟨rfl, by decide⟩, ⟨rfl, by decide⟩, ⟨rfl, by decide⟩, ⟨rfl, by decide⟩, ⟨rfl, by decide⟩, ⟨rfl, by decide⟩, ⟨rfl, by decide⟩, ⟨rfl, by decide⟩, trivial⟩
theorem sGr_b {i : Int} (h0 : 0 ≤ i) (h1 : i < 22) : inI (sGr i) ∧ rx_nth zbsG i.toNat 7 = cI (sGr i) := by
  have h2 := AllS_at sGrs 0 i.toNat sGr_tab (by show _ < 22; omega)
  rw [Nat.zero_add] at h2
  unfold sGr
  refine ⟨by unfold inI; omega, ?_⟩
  rw [h2.1]
  unfold cI
  omega
section
variable {S : hW} {k f t kk : rx_K} {lv st : List Nat} {G : gS} {Q : Nat → gS → Prop}
theorem g_xGl (hk : Tg S kk lv (cI 22 :: st) G Q) : Tg S (o_xv 400 176 kk) lv (3204 :: st) G Q := fun ht H he => t_eq2 (g := kk) (lv' := lv) (st' := cI 22 :: st) (fun h' _ _ => rfl) (hk ht H he)
theorem g_xGr {i : Int} (h0 : 0 ≤ i) (h1 : i < 22) (hk : inI (sGr i) → Tg S kk lv (cI (sGr i) :: st) G Q) : Tg S (o_xald 400 zbsG kk) lv (cI i :: 3204 :: st) G Q := g_xald (k := 400) (x := sGr i) h0 (by show i < 22; omega) (by omega) (sGr_b h0 h1).2 (hk (sGr_b h0 h1).1)
end
end R3

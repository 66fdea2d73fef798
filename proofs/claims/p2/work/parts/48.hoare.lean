section HO
-- FORWARD: from what a heap of codes holds, that a step comes to an end, and what it holds then
-- what is in place j of cell c; what sort of cell it is
noncomputable def hv (h : rx_H) (c j : Nat) : Nat := match rx_hg h c with
  | (0, _, _, fs, _) => rx_fg fs j
  | (_ + 1, _, _, fs, us) => rx_lk (rx_fg fs 0) us j
def up (H : Nat → Nat → Nat) (c j v : Nat) : Nat → Nat → Nat := fun c' j' => if c' = c ∧ j' = j then v else H c' j'
theorem up_at (H : Nat → Nat → Nat) (c j v : Nat) : up H c j v c j = v := if_pos ⟨rfl, rfl⟩
theorem up_ne {H : Nat → Nat → Nat} {c j v c' j' : Nat} (h : c' ≠ c ∨ j' ≠ j) : up H c j v c' j' = H c' j' := if_neg (fun q => h.elim (fun z => z q.1) (fun z => z q.2))
-- trees of full rows
def rf1 (l : List rx_E) : Prop := l.length = 8
def rf2 (l : List (List rx_E)) : Prop := l.length = 8 ∧ ∀ x ∈ l, rf1 x
def rf3 (l : List (List (List rx_E))) : Prop := l.length = 8 ∧ ∀ x ∈ l, rf2 x
def rf4 (l : List (List (List (List rx_E)))) : Prop := l.length = 8 ∧ ∀ x ∈ l, rf3 x
def rf5 (m : Nat) (l : List (List (List (List (List rx_E))))) : Prop := l.length = m ∧ ∀ x ∈ l, rf4 x
theorem rf_get {α : Type} {d : List α} {l : List (List α)} {i n : Nat} {P : List α → Prop} (hl : l.length = n) (h : ∀ x ∈ l, P x) (hi : i < n) : P (rx_get d l i) := by
  have hi' : i < l.length := by omega
  have e : l[i]? = some l[i] := List.getElem?_eq_getElem hi'
  rw [rx_getD_at e]
  exact h _ (List.mem_of_getElem? e)
theorem rf_set {α : Type} {l : List (List α)} {i n : Nat} {x : List α} {P : List α → Prop} (hl : l.length = n) (h : ∀ x ∈ l, P x) (hx : P x) : (l.set i x).length = n ∧ ∀ y ∈ l.set i x, P y := by
  refine ⟨by rw [List.length_set]; exact hl, fun y hy => ?_⟩
  rcases List.mem_or_eq_of_mem_set hy with q | q
  · exact h y q
  · rw [q]; exact hx
theorem fs1 {l : List rx_E} (h : rf1 l) {i : Nat} (hi : i < 8) (e : rx_E) : ∃ l', (∀ {β : Type} (k : List rx_E → Option β), rx_s1 l i e k = k l') ∧ rf1 l' := ⟨l.set i e, fun k => rx_set_in (by rw [h]; exact hi), by unfold rf1; rw [List.length_set]; exact h⟩
theorem fs2 {l : List (List rx_E)} (h : rf2 l) {i : Nat} (hi : i < 64) (e : rx_E) : ∃ l', (∀ {β : Type} (k : List (List rx_E) → Option β), rx_s2 l i e k = k l') ∧ rf2 l' := by
  have hd : i / 8 < 8 := by omega
  obtain ⟨x, h1, h2⟩ := fs1 (rf_get (d := []) h.1 h.2 hd) (i := i % 8) (by omega) e
  refine ⟨l.set (i / 8) x, fun k => ?_, rf_set h.1 h.2 h2⟩
  show rx_s1 (rx_get [] l (i / 8)) (i % 8) e (fun x => rx_set l (i / 8) x k) = _
  rw [h1, rx_set_in (by rw [h.1]; exact hd)]
theorem fs3 {l : List (List (List rx_E))} (h : rf3 l) {i : Nat} (hi : i < 512) (e : rx_E) : ∃ l', (∀ {β : Type} (k : List (List (List rx_E)) → Option β), rx_s3 l i e k = k l') ∧ rf3 l' := by
  have hd : i / 64 < 8 := by omega
  obtain ⟨x, h1, h2⟩ := fs2 (rf_get (d := []) h.1 h.2 hd) (i := i % 64) (by omega) e
  refine ⟨l.set (i / 64) x, fun k => ?_, rf_set h.1 h.2 h2⟩
  show rx_s2 (rx_get [] l (i / 64)) (i % 64) e (fun x => rx_set l (i / 64) x k) = _
  rw [h1, rx_set_in (by rw [h.1]; exact hd)]
theorem fs4 {l : List (List (List (List rx_E)))} (h : rf4 l) {i : Nat} (hi : i < 4096) (e : rx_E) : ∃ l', (∀ {β : Type} (k : List (List (List (List rx_E))) → Option β), rx_s4 l i e k = k l') ∧ rf4 l' := by
  have hd : i / 512 < 8 := by omega
  obtain ⟨x, h1, h2⟩ := fs3 (rf_get (d := []) h.1 h.2 hd) (i := i % 512) (by omega) e
  refine ⟨l.set (i / 512) x, fun k => ?_, rf_set h.1 h.2 h2⟩
  show rx_s3 (rx_get [] l (i / 512)) (i % 512) e (fun x => rx_set l (i / 512) x k) = _
  rw [h1, rx_set_in (by rw [h.1]; exact hd)]
theorem fs5 {m : Nat} {l : List (List (List (List (List rx_E))))} (h : rf5 m l) {i : Nat} (hi : i < 4096 * m) (e : rx_E) : ∃ l', (∀ {β : Type} (k : List (List (List (List (List rx_E)))) → Option β), rx_s5 l i e k = k l') ∧ rf5 m l' ∧ ∀ j, rx_g5 l' j = if j = i then e else rx_g5 l j := by
  have hd : i / 4096 < m := by omega
  obtain ⟨x, h1, h2⟩ := fs4 (rf_get (d := []) h.1 h.2 hd) (i := i % 4096) (by omega) e
  have key : ∀ {β : Type} (k : List (List (List (List (List rx_E)))) → Option β), rx_s5 l i e k = k (l.set (i / 4096) x) := by
    intro β k
    show rx_s4 (rx_get [] l (i / 4096)) (i % 4096) e (fun x => rx_set l (i / 4096) x k) = _
    rw [h1, rx_set_in (by rw [h.1]; exact hd)]
  refine ⟨l.set (i / 4096) x, key, rf_set h.1 h.2 h2, ?_⟩
  obtain ⟨l', e1, e2⟩ := rx_s5_some (key (fun t => some t))
  have e3 : l' = l.set (i / 4096) x := Option.some.inj e1
  rw [← e3]
  exact e2
-- fields
def ff (n : Nat) (fs : List (List Nat)) : Prop := ∀ k, k < n → k / 16 < fs.length ∧ k % 16 < (rx_get [] fs (k / 16)).length
theorem ff_set {n k v : Nat} {fs : List (List Nat)} (h : ff n fs) (hk : k < n) : ∃ fs', (∀ {β : Type} (kk : List (List Nat) → Option β), rx_fs fs k v kk = kk fs') ∧ ff n fs' ∧ ∀ j, rx_fg fs' j = if j = k then v else rx_fg fs j := by
  obtain ⟨h1, h2⟩ := h k hk
  have key : ∀ {β : Type} (kk : List (List Nat) → Option β), rx_fs fs k v kk = kk (fs.set (k / 16) ((rx_get [] fs (k / 16)).set (k % 16) v)) := by
    intro β kk
    show rx_set (rx_get [] fs (k / 16)) (k % 16) v (fun ch => rx_set fs (k / 16) ch kk) = _
    rw [rx_set_in h2, rx_set_in h1]
  refine ⟨_, key, fun j hj => ?_, ?_⟩
  · obtain ⟨a1, a2⟩ := h j hj
    refine ⟨by rw [List.length_set]; exact a1, ?_⟩
    rw [rx_get_eq, rx_getD_set _ _ _ _ _ h1]
    rw [rx_get_eq] at a2
    by_cases e : j / 16 = k / 16
    · rw [if_pos e, List.length_set, rx_get_eq, ← e]; exact a2
    · rw [if_neg e]; exact a2
  · obtain ⟨fs', e1, e2⟩ := rx_fs_some (key (fun t => some t))
    rw [← Option.some.inj e1]
    exact e2
-- a world: what sort each cell is (kind, class, how many places), rows of the tree, cells, slots
abbrev hS : Type := (Nat → Nat × Nat × Nat) × Nat × Nat × Nat
def WFc (K : Nat × Nat × Nat) (e : rx_E) : Prop := match e with
  | (0, a, n, fs, _) => K = (0, a, n) ∧ ff n fs
  | (t + 1, _, n, _, _) => K = (t + 1, 0, n) ∧ n < 268435456
def WF (S : hS) (h : rx_H) : Prop := h.1 = S.2.2.1 ∧ h.2.1 = S.2.2.2 ∧ rf5 S.2.1 h.2.2.2 ∧ S.2.2.1 ≤ 4096 * S.2.1 ∧ ∀ c, c < S.2.2.1 → WFc (S.1 c) (rx_hg h c)
-- what comes of a function on a heap
def Tk (S : hS) (f : rx_K) (lv st : List Nat) (H : Nat → Nat → Nat) (Q : Nat → (Nat → Nat → Nat) → Prop) : Prop := ∀ h, WF S h → hv h = H → ∃ r h', f lv st h = some (r, h') ∧ WF S h' ∧ Q r (hv h')
def Tm (S : hS) (F : List Nat → rx_H → Option (Nat × rx_H)) (As : List Nat) (H : Nat → Nat → Nat) (Q : Nat → (Nat → Nat → Nat) → Prop) : Prop := ∀ h, WF S h → hv h = H → ∃ r h', F As h = some (r, h') ∧ WF S h' ∧ Q r (hv h')
theorem Tk_w {S : hS} {f : rx_K} {lv st : List Nat} {H : Nat → Nat → Nat} {Q Q' : Nat → (Nat → Nat → Nat) → Prop} (h : Tk S f lv st H Q) (hq : ∀ r H', Q r H' → Q' r H') : Tk S f lv st H Q' := fun x hw he => by
  obtain ⟨r, h', a, b, c⟩ := h x hw he
  exact ⟨r, h', a, b, hq _ _ c⟩
theorem Tm_w {S : hS} {f : List Nat → rx_H → Option (Nat × rx_H)} {As : List Nat} {H : Nat → Nat → Nat} {Q Q' : Nat → (Nat → Nat → Nat) → Prop} (h : Tm S f As H Q) (hq : ∀ r H', Q r H' → Q' r H') : Tm S f As H Q' := fun x hw he => by
  obtain ⟨r, h', a, b, c⟩ := h x hw he
  exact ⟨r, h', a, b, hq _ _ c⟩
section
variable {S : hS} {k f : rx_K} {lv st : List Nat} {H : Nat → Nat → Nat} {Q : Nat → (Nat → Nat → Nat) → Prop}
theorem t_eq {g : rx_K} (e : ∀ h, f lv st h = g lv st h) (hk : Tk S g lv st H Q) : Tk S f lv st H Q := fun h hw he => by rw [e h]; exact hk h hw he
theorem t_eq2 {g : rx_K} {lv' st' : List Nat} (e : ∀ h, WF S h → hv h = H → f lv st h = g lv' st' h) (hk : Tk S g lv' st' H Q) : Tk S f lv st H Q := fun h hw he => by rw [e h hw he]; exact hk h hw he
theorem t_ld {chk : Nat → Bool} {i v : Nat} (hg : rx_get 7 lv i = v) (hc : chk v = true) (hk : Tk S k lv (v :: st) H Q) : Tk S (o_ld chk i k) lv st H Q := t_eq2 (fun h _ _ => by unfold o_ld; rw [rx_f_eq, hg, hc]; rfl) hk
theorem t_const {c : Nat} (hk : Tk S k lv (c :: st) H Q) : Tk S (o_const c k) lv st H Q := hk
theorem st1_in {β : Type} {i v : Nat} {kk : List Nat → Option β} (hi : i < lv.length) (h7 : i = 0 ∨ rx_get 7 lv (i - 1) % 8 ≠ 1) : rx_st1 lv i v kk = kk (lv.set i v) := by
  unfold rx_st1
  rw [rx_set_in hi]
  cases i with
  | zero => rfl
  | succ j =>
    have h8 : rx_isL (rx_get 7 lv j) = false := by
      rcases h7 with h7 | h7
      · cases h7
      · unfold rx_isL
        rw [Bool.eq_false_iff]
        exact fun q => h7 (rx_beq q)
    show (bif rx_isL (rx_get 7 lv j) then rx_set (lv.set (j + 1) v) j 7 kk else kk (lv.set (j + 1) v)) = _
    rw [h8]; rfl
theorem t_st {chk : Nat → Bool} {i v : Nat} (hc : chk v = true) (hi : i < lv.length) (h7 : i = 0 ∨ rx_get 7 lv (i - 1) % 8 ≠ 1) (hk : Tk S k (lv.set i v) st H Q) : Tk S (o_st chk i k) lv (v :: st) H Q := t_eq2 (fun h _ _ => by
  show (bif chk v then rx_st1 lv i v fun lv' => k lv' st h else none) = _
  rw [hc]; exact st1_in hi h7) hk
theorem t_inc {i : Nat} {n : Int} {c v : Nat} (hg : rx_get 7 lv i = c) (hc : c % 8 = 0) (hv' : rx_ei (rx_di c + Int32.ofInt n) = v) (hi : i < lv.length) (h7 : i = 0 ∨ rx_get 7 lv (i - 1) % 8 ≠ 1) (hk : Tk S k (lv.set i v) st H Q) : Tk S (o_inc i n k) lv st H Q := t_eq2 (fun h _ _ => by
  unfold o_inc
  rw [rx_f_eq, hg, show Nat.beq (c % 8) 0 = true by rw [hc]; rfl]
  rw [cond_true, rx_f_eq, hv']; exact st1_in hi h7) hk
theorem t_dup {v : Nat} (h1 : v % 8 ≠ 1) (hk : Tk S k lv (v :: v :: st) H Q) (hd : ∀ h, o_dup k lv (v :: st) h = k lv (v :: v :: st) h) : Tk S (o_dup k) lv (v :: st) H Q := t_eq2 (fun h _ _ => hd h) hk
theorem t_bi {g : Int32 → Int32 → Int32} {x y v : Nat} (hx : x % 8 = 0) (hy : y % 8 = 0) (hv' : rx_ei (g (rx_di x) (rx_di y)) = v) (hk : Tk S k lv (v :: st) H Q) : Tk S (o_bi g k) lv (y :: x :: st) H Q := t_eq2 (fun h _ _ => by
  show (bif Nat.beq (y % 8) 0 && Nat.beq (x % 8) 0 then rx_f (rx_ei (g (rx_di x) (rx_di y))) fun v => k lv (v :: st) h else none) = _
  rw [hx, hy, hv', show Nat.beq 0 0 = true from rfl, Bool.and_self, cond_true, rx_f_eq]) hk
theorem t_ui {g : Int32 → Int32} {x v : Nat} (hx : x % 8 = 0) (hv' : rx_ei (g (rx_di x)) = v) (hk : Tk S k lv (v :: st) H Q) : Tk S (o_ui g k) lv (x :: st) H Q := t_eq2 (fun h _ _ => by
  show (bif Nat.beq (x % 8) 0 then rx_f (rx_ei (g (rx_di x))) fun v => k lv (v :: st) h else none) = _
  rw [hx, hv', show Nat.beq 0 0 = true from rfl, cond_true, rx_f_eq]) hk
-- comparing whole numbers
theorem lt_int {h : rx_H} {x y : Nat} (hx : x % 8 = 0) (hy : y % 8 = 0) : rx_lt h x y = some (decide (rx_di x < rx_di y)) := by
  unfold rx_lt
  rw [hx, hy]; rfl
theorem t_c2lt {t : rx_K} {x y : Nat} (hx : x % 8 = 0) (hy : y % 8 = 0) (h1 : rx_di x < rx_di y → Tk S t lv st H Q) (h2 : ¬ rx_di x < rx_di y → Tk S f lv st H Q) : Tk S (o_c2 rx_lt t f) lv (y :: x :: st) H Q := by
  by_cases q : rx_di x < rx_di y
  · refine t_eq2 (fun h _ _ => ?_) (h1 q)
    show (match rx_lt h x y with | some b => bif b then t lv st h else f lv st h | none => none) = _
    rw [lt_int hx hy, decide_eq_true q]; rfl
  · refine t_eq2 (fun h _ _ => ?_) (h2 q)
    show (match rx_lt h x y with | some b => bif b then t lv st h else f lv st h | none => none) = _
    rw [lt_int hx hy, decide_eq_false q]; rfl
-- fields
theorem ob_in {h : rx_H} {β : Type} {c ci n : Nat} {kk : List (List Nat) → Option β} (hw : WF S h) (hc : c < S.2.2.1) (hK : S.1 c = (0, ci, n)) : ∃ fs us, rx_hg h c = (0, ci, n, fs, us) ∧ ff n fs ∧ rx_ob h (8 * c + 2) ci kk = kk fs := by
  have h1 := hw.2.2.2.2 c hc
  rw [hK] at h1
  have e8 : (8 * c + 2) / 8 = c := by omega
  have m8 : (8 * c + 2) % 8 = 2 := by omega
  generalize he : rx_hg h c = e at h1
  obtain ⟨z, a, n', fs, us⟩ := e
  cases z with
  | succ z => cases (show (0, ci, n) = (z + 1, 0, n') ∧ _ from h1).1
  | zero =>
    obtain ⟨h2, h3⟩ := (show (0, ci, n) = (0, a, n') ∧ ff n' fs from h1)
    cases h2
    refine ⟨fs, us, rfl, h3, ?_⟩
    unfold rx_ob
    rw [e8, m8, he]
    have hb : Nat.blt c h.1 = true := by rw [hw.1]; exact Nat.ble_eq_true_of_le hc
    rw [hb]
    show (bif Nat.beq 0 0 && Nat.beq ci ci then kk fs else none) = kk fs
    rw [show Nat.beq ci ci = true by simp]; rfl
theorem hv_ob {h : rx_H} {c ci n : Nat} {fs : List (List Nat)} {us : List (Nat × Nat)} (he : rx_hg h c = (0, ci, n, fs, us)) (j : Nat) : hv h c j = rx_fg fs j := by
  unfold hv; rw [he]
theorem hv_ar {h : rx_H} {c t a n : Nat} {fs : List (List Nat)} {us : List (Nat × Nat)} (he : rx_hg h c = (t + 1, a, n, fs, us)) (j : Nat) : hv h c j = rx_lk (rx_fg fs 0) us j := by
  unfold hv; rw [he]
theorem t_getf {c ci k0 n v : Nat} (hc : c < S.2.2.1) (hK : S.1 c = (0, ci, n)) (hv' : H c k0 = v) (hk : Tk S k lv (v :: st) H Q) : Tk S (o_getf ci k0 k) lv ((8 * c + 2) :: st) H Q := t_eq2 (fun h hw he => by
  obtain ⟨fs, us, e, -, e2⟩ := ob_in (kk := fun fs => rx_f (rx_fg fs k0) fun v => k lv (v :: st) h) hw hc hK
  refine Eq.trans e2 ?_
  rw [rx_f_eq, ← hv_ob e, he, hv']) hk
theorem WF_up {h : rx_H} {c : Nat} {e : rx_E} (hw : WF S h) (hc : c < S.2.2.1) (hK : WFc (S.1 c) e) : ∃ h', (∀ {β : Type} (kk : rx_H → Option β), rx_hs h c e kk = kk h') ∧ WF S h' ∧ ∀ j, rx_hg h' j = if j = c then e else rx_hg h j := by
  obtain ⟨n, z, iv, t⟩ := h
  obtain ⟨w1, w2, w3, w4, w5⟩ := hw
  obtain ⟨t', e1, e2, e3⟩ := fs5 w3 (i := c) (by omega) e
  refine ⟨(n, z, iv, t'), fun kk => e1 _, ⟨w1, w2, e2, w4, fun j hj => ?_⟩, e3⟩
  have e4 : rx_hg (n, z, iv, t') j = if j = c then e else rx_hg (n, z, iv, t) j := e3 j
  rw [e4]
  by_cases q : j = c
  · rw [if_pos q, q]; exact hK
  · rw [if_neg q]; exact w5 j hj
theorem t_putf {chk : Nat → Bool} {c ci k0 n v : Nat} (hch : chk v = true) (hc : c < S.2.2.1) (hK : S.1 c = (0, ci, n)) (hk0 : k0 < n) (hk : Tk S k lv st (up H c k0 v) Q) : Tk S (o_putf chk ci k0 k) lv (v :: (8 * c + 2) :: st) H Q := by
  intro h hw he
  obtain ⟨fs, us, e, h3, e2⟩ := ob_in (kk := fun fs => rx_fs fs k0 v fun fs' => match rx_hg h ((8 * c + 2) / 8) with
    | (z, c', n, _, us) => rx_hs h ((8 * c + 2) / 8) (z, c', n, fs', us) fun h' => k lv st h') hw hc hK
  have e8 : (8 * c + 2) / 8 = c := by omega
  obtain ⟨fs', f1, f2, f3⟩ := ff_set (v := v) h3 hk0
  obtain ⟨h', g1, g2, g3⟩ := WF_up (e := (0, ci, n, fs', us)) hw hc (by rw [hK]; exact ⟨rfl, f2⟩)
  have e4 : hv h' = up H c k0 v := by
    funext c' j'
    unfold up
    by_cases q : c' = c
    · have q3 := g3 c'
      rw [if_pos q] at q3
      rw [hv_ob q3, f3, ← he, q, hv_ob e]
      by_cases q2 : j' = k0
      · rw [if_pos q2, if_pos ⟨rfl, q2⟩]
      · rw [if_neg q2, if_neg (fun z => q2 z.2)]
    · rw [if_neg (fun z => q z.1), ← he]
      unfold hv
      rw [g3 c', if_neg q]
  obtain ⟨r, h2, a1, a2, a3⟩ := hk h' g2 e4
  refine ⟨r, h2, ?_, a2, a3⟩
  show (bif chk v then rx_ob h (8 * c + 2) ci _ else none) = _
  rw [hch]
  refine Eq.trans e2 ?_
  rw [f1, e8, e]
  show rx_hs h c (0, ci, n, fs', us) _ = _
  rw [g1]; exact a1
-- rows
theorem ar_in {h : rx_H} {β : Type} {c tt n : Nat} {kk : Nat → Nat → List (Nat × Nat) → Option β} (hw : WF S h) (hc : c < S.2.2.1) (hK : S.1 c = (tt + 1, 0, n)) : ∃ a fs us, rx_hg h c = (tt + 1, a, n, fs, us) ∧ n < 268435456 ∧ rx_ar h (8 * c + 2) tt kk = kk n (rx_fg fs 0) us := by
  have h1 := hw.2.2.2.2 c hc
  rw [hK] at h1
  have e8 : (8 * c + 2) / 8 = c := by omega
  have m8 : (8 * c + 2) % 8 = 2 := by omega
  generalize he : rx_hg h c = e at h1
  obtain ⟨z, a, n', fs, us⟩ := e
  cases z with
  | zero => cases (show (tt + 1, 0, n) = (0, a, n') ∧ _ from h1).1
  | succ z =>
    obtain ⟨h2, h3⟩ := (show (tt + 1, 0, n) = (z + 1, 0, n') ∧ n' < 268435456 from h1)
    cases h2
    refine ⟨a, fs, us, rfl, h3, ?_⟩
    unfold rx_ar
    rw [e8, m8, he]
    have hb : Nat.blt c h.1 = true := by rw [hw.1]; exact Nat.ble_eq_true_of_le hc
    rw [hb]
    show (bif Nat.beq (tt + 1) (tt + 1) then kk n (rx_fg fs 0) us else none) = _
    rw [show Nat.beq (tt + 1) (tt + 1) = true by simp]; rfl
theorem t_alen {c tt n : Nat} (hc : c < S.2.2.1) (hK : S.1 c = (tt + 1, 0, n)) (hk : Tk S k lv (8 * n :: st) H Q) : Tk S (o_alen tt k) lv ((8 * c + 2) :: st) H Q := t_eq2 (fun h hw he => by
  obtain ⟨a, fs, us, e, e1, e2⟩ := ar_in (kk := fun n _ _ => bif Nat.blt n 268435456 then rx_f (8 * n) fun v => k lv (v :: st) h else none) hw hc hK
  refine Eq.trans e2 ?_
  rw [show Nat.blt n 268435456 = true from Nat.ble_eq_true_of_le e1, cond_true, rx_f_eq]) hk
theorem t_ald {c tt n i v : Nat} (hc : c < S.2.2.1) (hK : S.1 c = (tt + 1, 0, n)) (hi : i < n) (hv' : H c i = v) (hk : Tk S k lv (v :: st) H Q) : Tk S (o_ald tt k) lv (8 * i :: (8 * c + 2) :: st) H Q := t_eq2 (fun h hw he => by
  obtain ⟨a, fs, us, e, e1, e2⟩ := ar_in (kk := fun n dv us => bif Nat.blt (8 * i / 8) n && Nat.blt n 268435456 then rx_f (rx_lk dv us (8 * i / 8)) fun v => k lv (v :: st) h else none) hw hc hK
  show (bif Nat.beq (8 * i % 8) 0 then rx_ar h (8 * c + 2) tt _ else none) = _
  rw [show 8 * i % 8 = 0 by omega]
  refine Eq.trans e2 ?_
  rw [show 8 * i / 8 = i by omega, show Nat.blt n 268435456 = true from Nat.ble_eq_true_of_le e1, show Nat.blt i n = true from Nat.ble_eq_true_of_le hi]
  rw [Bool.and_self, cond_true, rx_f_eq, ← hv_ar e, he, hv']) hk
theorem t_ast {g : Nat → Nat} {chk : Nat → Bool} {c tt n i v : Nat} (hch : chk v = true) (hc : c < S.2.2.1) (hK : S.1 c = (tt + 1, 0, n)) (hi : i < n) (hk : Tk S k lv st (up H c i (g v)) Q) : Tk S (o_ast tt g chk k) lv (v :: 8 * i :: (8 * c + 2) :: st) H Q := by
  intro h hw he
  obtain ⟨a, fs, us, e, e1, e2⟩ := ar_in (kk := fun n dv us => bif Nat.blt (8 * i / 8) n && Nat.blt n 268435456 then rx_f (8 * i / 8) fun j => rx_f (g v) fun v' => rx_hs h ((8 * c + 2) / 8) (tt + 1, n, n, [[dv]], (j, v') :: us) fun h' => k lv st h' else none) hw hc hK
  have e8 : (8 * c + 2) / 8 = c := by omega
  obtain ⟨h', g1, g2, g3⟩ := WF_up (e := (tt + 1, n, n, [[rx_fg fs 0]], (i, g v) :: us)) hw hc (by rw [hK]; exact ⟨rfl, e1⟩)
  have e4 : hv h' = up H c i (g v) := by
    funext c' j'
    unfold up
    by_cases q : c' = c
    · have q3 := g3 c'
      rw [if_pos q] at q3
      rw [hv_ar q3, ← he, q, hv_ar e, show rx_fg [[rx_fg fs 0]] 0 = rx_fg fs 0 from rfl, rx_lk_cons]
      by_cases q2 : j' = i
      · rw [if_pos q2, if_pos ⟨rfl, q2⟩]
      · rw [if_neg q2, if_neg (fun z => q2 z.2)]
    · rw [if_neg (fun z => q z.1), ← he]
      unfold hv
      rw [g3 c', if_neg q]
  obtain ⟨r, h2, a1, a2, a3⟩ := hk h' g2 e4
  refine ⟨r, h2, ?_, a2, a3⟩
  show (bif chk v && Nat.beq (8 * i % 8) 0 then rx_ar h (8 * c + 2) tt _ else none) = _
  rw [hch, show 8 * i % 8 = 0 by omega]
  refine Eq.trans e2 ?_
  rw [show 8 * i / 8 = i by omega, show Nat.blt n 268435456 = true from Nat.ble_eq_true_of_le e1, show Nat.blt i n = true from Nat.ble_eq_true_of_le hi, e8]
  show rx_f i (fun j => rx_f (g v) fun v' => rx_hs h c (tt + 1, n, n, [[rx_fg fs 0]], (j, v') :: us) fun h' => k lv st h') = _
  rw [rx_f_eq, rx_f_eq, g1]; exact a1
-- ends
theorem t_ret1 {chk : Nat → Bool} {v : Nat} (hc : chk v = true) (hq : Q v H) : Tk S (o_ret1 chk) lv [v] H Q := fun h hw he => ⟨v, h, by show (bif chk v then some (v, h) else none) = _; rw [hc]; rfl, hw, by rw [he]; exact hq⟩
theorem t_ret0 (hq : Q 7 H) : Tk S o_ret0 lv [] H Q := fun h hw he => ⟨7, h, rfl, hw, by rw [he]; exact hq⟩
-- calls
theorem t_go {g : List Nat → rx_H → Option (Nat × rx_H)} {As rest : List Nat} (h8 : rx_cs rest ≤ 8) (hm : Tm S g As H fun r H' => if r % 8 = 7 then Tk S k lv rest H' Q else Tk S k lv (r :: rest) H' Q) : Tk S (fun lv _ h => rx_go g As rest lv h k) lv st H Q := by
  intro h hw he
  obtain ⟨r, h', a1, a2, a3⟩ := hm h hw he
  by_cases q : r % 8 = 7
  · rw [if_pos q] at a3
    obtain ⟨r2, h2, b1, b2, b3⟩ := a3 h' a2 rfl
    refine ⟨r2, h2, ?_, b2, b3⟩
    show rx_go g As rest lv h k = _
    unfold rx_go
    rw [Nat.ble_eq_true_of_le h8, a1]
    show rx_f r (fun r => bif Nat.beq (r % 8) 7 then k lv rest h' else k lv (r :: rest) h') = _
    rw [rx_f_eq, q]; exact b1
  · rw [if_neg q] at a3
    obtain ⟨r2, h2, b1, b2, b3⟩ := a3 h' a2 rfl
    refine ⟨r2, h2, ?_, b2, b3⟩
    show rx_go g As rest lv h k = _
    unfold rx_go
    rw [Nat.ble_eq_true_of_le h8, a1]
    show rx_f r (fun r => bif Nat.beq (r % 8) 7 then k lv rest h' else k lv (r :: rest) h') = _
    rw [rx_f_eq, show Nat.beq (r % 8) 7 = false by rw [Bool.eq_false_iff]; exact fun z => q (rx_beq z)]; exact b1
theorem t_ent {nL : Nat} {As : List Nat} (h1 : rx_cs As ≤ nL) (h2 : (rx_fl As).length = rx_cs As) (hk : Tk S f (rx_fl As ++ rx_pad (nL - rx_cs As)) [] H Q) : Tm S (rx_ent nL f) As H Q := fun h hw he => by
  obtain ⟨r, h', a, b, c⟩ := hk h hw he
  refine ⟨r, h', ?_, b, c⟩
  unfold rx_ent
  rw [Nat.ble_eq_true_of_le h1, h2, show Nat.beq (rx_cs As) (rx_cs As) = true by simp]
  exact a
end
end HO

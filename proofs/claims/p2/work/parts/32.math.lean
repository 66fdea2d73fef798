section RX32
variable {V : rx_V} {M : rx_M} {d pc : Nat} {f t : rx_K}
-- Math.min and Math.max of whole numbers that are known
noncomputable def o_mm (g : Nat → Nat → Nat) (k : rx_K) : rx_K := fun lv st h => match st with
  | y :: x :: r => bif Nat.beq (y % 8) 0 && (Nat.beq (x % 8) 0 && Nat.ble (rx_cs r) 8) then rx_f (g x y) fun v => k lv (v :: r) h else none
  | _ => none
def z_min (x y : Nat) : Nat := if rx_di y < rx_di x then y else x
def z_max (x y : Nat) : Nat := if rx_di x < rx_di y then y else x
theorem rx_mm (hV : rx_Ok V) {g : Nat → Nat → Nat} (hk : rx_OK V M d (pc + 3) f) (row : ∀ (p : Program) (l : Launch) (e : Env) (R : Room) (s : State) (m : MethodId) (args : Array Value) (below : List Frame) (meth : Method) (c : Code) (H : Heap) (locs : List Loc) (ls : Array Slot) (cells slots : Nat) (Q : State → Prop) (rest : List Value) (x y : Nat), rx_Cx V M p s m args meth c → d ≤ R.frames → 40 * d ≤ R.locals → cells ≤ R.cells → slots ≤ R.slots → ls.size = M.2.2.1 → (rest.map fun v => v.category).sum ≤ 8 → x % 8 = 0 → y % 8 = 0 → W p l e R s m args below meth c H locs cells slots Q (F0 m (pc + 3) ls (rx_v V (g x y) :: rest)) → W p l e R s m args below meth c H locs cells slots Q (F0 m pc ls (rx_v V y :: rx_v V x :: rest))) : rx_OK V M d pc (o_mm g f) := by
  refine rx_heap fun lv st h r h' hf => ?_
  match st, hf with
  | [], hf => cases hf
  | [_], hf => cases hf
  | y :: x :: st, hf =>
  simp only [o_mm, rx_f_eq] at hf
  obtain ⟨hc, hf⟩ := rx_bifn hf
  obtain ⟨hy, hc⟩ := Bool.and_eq_true_iff.mp hc
  obtain ⟨hx, h8⟩ := Bool.and_eq_true_iff.mp hc
  have h8 : rx_cs st ≤ 8 := Nat.le_of_ble_eq_true h8
  refine ⟨pc + 3, f, lv, _, h, hk, hf, Nat.le_refl _, Nat.le_refl _, fun p l e R s m args below meth c hC hE n0 z0 hn0 hz0 hR1 hR2 hR3 hR4 H locs ls Q hW hF hL kk => ?_⟩
  exact row p l e R s m args below meth c H locs ls _ _ Q _ x y hC hR1 hR2 hR3 hR4 hL.1 (by rw [rx_cat_sum hV]; exact h8) (rx_beq hx) (rx_beq hy) (kk H locs ls hW hF hL)
theorem s_mmin (hV : rx_Ok V) {index : Nat} (hd : 1 ≤ d) (hl : Cond.methodLink M.1 index Lib.Math.min.name ∈ eW V) (hs : Cond.static Lib.Math.min.name ∈ eW V) (hi : Cond.initialized "java/lang/Math" ∈ eW V) (hc : Cond.code Lib.Math.min.name Lib.Math.min.code 2 (some .int) ∈ eW V) (hdg : decode M.2.1 pc = .ok (.invokestatic index, 3)) (hk : rx_OK V M d (pc + 3) f) : rx_OK V M d pc (o_mm z_min f) :=
  rx_mm hV hk fun p l e R s m args below meth c H locs ls cells slots Q rest x y hC r1 r2 r3 r4 r5 r6 hx hy kk => by
    have hts := hC.2.2.2.2.2.2.1
    rw [rx_v_0 hx, rx_v_0 hy]
    refine va_mmin hC.1 hC.2.1 (hC.2.2.1.trans r5.symm) hC.2.2.2.2.2.1 (hts _ hl) (hts _ hs) (hts _ hi) (hts _ hc) (by omega) (by omega) r3 r4 hdg ?_
    unfold z_min at kk
    split at kk
    · next q => rw [rx_v_0 hy] at kk; rw [if_pos q]; exact kk
    · next q => rw [rx_v_0 hx] at kk; rw [if_neg q]; exact kk
theorem s_mmax (hV : rx_Ok V) {index : Nat} (hd : 1 ≤ d) (hl : Cond.methodLink M.1 index Lib.Math.max.name ∈ eW V) (hs : Cond.static Lib.Math.max.name ∈ eW V) (hi : Cond.initialized "java/lang/Math" ∈ eW V) (hc : Cond.code Lib.Math.max.name Lib.Math.max.code 2 (some .int) ∈ eW V) (hdg : decode M.2.1 pc = .ok (.invokestatic index, 3)) (hk : rx_OK V M d (pc + 3) f) : rx_OK V M d pc (o_mm z_max f) :=
  rx_mm hV hk fun p l e R s m args below meth c H locs ls cells slots Q rest x y hC r1 r2 r3 r4 r5 r6 hx hy kk => by
    have hts := hC.2.2.2.2.2.2.1
    rw [rx_v_0 hx, rx_v_0 hy]
    refine va_mmax hC.1 hC.2.1 (hC.2.2.1.trans r5.symm) hC.2.2.2.2.2.1 (hts _ hl) (hts _ hs) (hts _ hi) (hts _ hc) (by omega) (by omega) r3 r4 hdg ?_
    unfold z_max at kk
    split at kk
    · next q => rw [rx_v_0 hy] at kk; rw [if_pos q]; exact kk
    · next q => rw [rx_v_0 hx] at kk; rw [if_neg q]; exact kk
end RX32

section ST
-- THE START: the heap behind both constructors keeps the shape, the types, and what never changes
noncomputable def okr (t : Nat) (K : Nat × Nat × Nat) : Bool := bif Nat.blt t 30 then k3 K (0, t - 10, nF (t - 10)) else Nat.beq K.1 (t - 30 + 1) && Nat.beq K.2.1 0
noncomputable def okv (t v : Nat) : Bool := bif Nat.beq t 1 then Nat.beq (v % 8) 1 && Nat.blt (v / 8) 18446744073709551616 else bif Nat.blt t 4 then Nat.beq (v % 8) 0 && (bif Nat.beq t 2 then Nat.blt (v / 8) 128 else bif Nat.beq t 3 then Nat.blt (v / 8) 2 else Nat.blt (v / 8) 4294967296) else Nat.ble 10 t && (bif Nat.beq v 3 then true else Nat.beq (v % 8) 2 && (Nat.blt (v / 8) 16217 && okr t (k0 (v / 8))))
noncomputable def finv (c j v : Nat) : Bool := match rx_nth (f0 c) j 0 with
  | 0 => true
  | w + 1 => Nat.beq v (8 * w + 2)
noncomputable def allN (f : Nat → Bool) (n : Nat) : Bool := Nat.rec (motive := fun _ => Bool) true (fun j ih => Bool.rec (motive := fun _ => Bool) false ih (f j)) n
theorem allN_ok {f : Nat → Bool} : ∀ {n : Nat}, allN f n = true → ∀ j, j < n → f j = true
  | 0, _, j, hj => absurd hj (Nat.not_lt_zero _)
  | n + 1, h, j, hj => by
    have h2 : Bool.rec (motive := fun _ => Bool) false (allN f n) (f n) = true := h
    cases e : f n with
    | false => rw [e] at h2; cases h2
    | true =>
      rw [e] at h2
      rcases Nat.lt_or_ge j n with q | q
      · exact allN_ok h2 j q
      · rw [show j = n by omega]; exact e
noncomputable def ckC (c : Nat) : Bool := bif Nat.blt c 16217 then (match rx_g5 zE c with
  | (0, a, n, fs, _) => k3 (k0 c) (0, a, n) && (Nat.beq n (nF a) && (Nat.ble (f0 c).length n && allN (fun j => okv (fT a j) (rx_fg fs j) && (finv c j (rx_fg fs j) && (Nat.blt (j / 16) fs.length && Nat.blt (j % 16) (rx_get [] fs (j / 16)).length))) n))
  | (t + 1, _, n, fs, us) => k3 (k0 c) (t + 1, 0, n) && (Nat.blt n 268435456 && (okv (aT t) (rx_fg fs 0) && (us.all (fun q => okv (aT t) q.2) && (Nat.ble (f0 c).length n && (bif (f0 c).isEmpty then true else allN (fun j => finv c j (rx_lk (rx_fg fs 0) us j)) n)))))) else true
theorem ckC_0 : allB ckC 10 0 = true := by decide +kernel
theorem ckC_1 : allB ckC 10 1024 = true := by decide +kernel
theorem ckC_2 : allB ckC 10 2048 = true := by decide +kernel
theorem ckC_3 : allB ckC 10 3072 = true := by decide +kernel
theorem ckC_4 : allB ckC 10 4096 = true := by decide +kernel
theorem ckC_5 : allB ckC 10 5120 = true := by decide +kernel
theorem ckC_6 : allB ckC 10 6144 = true := by decide +kernel
theorem ckC_7 : allB ckC 10 7168 = true := by decide +kernel
theorem ckC_8 : allB ckC 10 8192 = true := by decide +kernel
theorem ckC_9 : allB ckC 10 9216 = true := by decide +kernel
theorem ckC_10 : allB ckC 10 10240 = true := by decide +kernel
theorem ckC_11 : allB ckC 10 11264 = true := by decide +kernel
theorem ckC_12 : allB ckC 10 12288 = true := by decide +kernel
theorem ckC_13 : allB ckC 10 13312 = true := by decide +kernel
theorem ckC_14 : allB ckC 10 14336 = true := by decide +kernel
theorem ckC_15 : allB ckC 10 15360 = true := by decide +kernel
end ST

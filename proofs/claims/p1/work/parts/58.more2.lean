section RX25b
variable {V : rx_V} {M : rx_M} {d pc : Nat} {f t : rx_K}
-- what is known of the whole numbers from outside is looked at from here on
noncomputable def o_know (iv : List (Int × Int)) (k : rx_K) : rx_K := fun lv st h => k lv st (h.1, h.2.1, iv, h.2.2.2)
theorem s_know {iv : List (Int × Int)} (hiv : ∀ (k : Nat) (lo hi : Int), iv[k]? = some (lo, hi) → k < 5 ∧ ∃ v, ex V k = .int v ∧ lo ≤ v.toInt ∧ v.toInt ≤ hi) (hk : rx_OK V M d pc f) : rx_OK V M d pc (o_know iv f) := by
  intro lv st h r h' hf
  obtain ⟨m1, m2, kk⟩ := hk lv st (h.1, h.2.1, iv, h.2.2.2) r h' hf
  exact ⟨m1, m2, fun p l e R s m args below meth c hC hE n0 z0 hn hz hR1 hR2 hR3 hR4 H locs ls hW hF hL => kk p l e R s m args below meth c hC hE n0 z0 hn hz hR1 hR2 hR3 hR4 H locs ls ⟨hW.1, hW.2.1, hiv⟩ hF hL⟩
-- how a run goes, step by step, where the kernel isn't asked
theorem rx_set_bind {α : Type} (l : List α) : ∀ {β : Type} (i : Nat) (x : α) (k : List α → Option β), rx_set l i x k = (rx_set l i x some).bind k := by
  induction l with
  | nil => intro β i x k; rfl
  | cons a t ih =>
    intro β i x k
    cases i with
    | zero => rfl
    | succ j =>
      show rx_set t j x (fun t' => k (a :: t')) = (rx_set t j x (fun t' => some (a :: t'))).bind k
      rw [ih j x (fun t' => k (a :: t')), ih j x (fun t' => some (a :: t')), Option.bind_assoc]
      rfl
theorem rx_s2_bind {β : Type} (l : List (List rx_E)) (i : Nat) (e : rx_E) (k : List (List rx_E) → Option β) : rx_s2 l i e k = (rx_s2 l i e some).bind k := by
  unfold rx_s2 rx_s1
  rw [rx_set_bind _ _ _ (fun x => rx_set l (Nat.div i 8) x k), rx_set_bind _ _ _ (fun x => rx_set l (Nat.div i 8) x some), Option.bind_assoc]
  congr 1
  funext x
  exact rx_set_bind _ _ _ _
theorem rx_s3_bind {β : Type} (l : List (List (List rx_E))) (i : Nat) (e : rx_E) (k : List (List (List rx_E)) → Option β) : rx_s3 l i e k = (rx_s3 l i e some).bind k := by
  unfold rx_s3
  rw [rx_s2_bind _ _ _ (fun x => rx_set l (Nat.div i 64) x k), rx_s2_bind _ _ _ (fun x => rx_set l (Nat.div i 64) x some), Option.bind_assoc]
  congr 1
  funext x
  exact rx_set_bind _ _ _ _
theorem rx_s4_bind {β : Type} (l : List (List (List (List rx_E)))) (i : Nat) (e : rx_E) (k : List (List (List (List rx_E))) → Option β) : rx_s4 l i e k = (rx_s4 l i e some).bind k := by
  unfold rx_s4
  rw [rx_s3_bind _ _ _ (fun x => rx_set l (Nat.div i 512) x k), rx_s3_bind _ _ _ (fun x => rx_set l (Nat.div i 512) x some), Option.bind_assoc]
  congr 1
  funext x
  exact rx_set_bind _ _ _ _
theorem rx_s5_bind {β : Type} (l : List (List (List (List (List rx_E))))) (i : Nat) (e : rx_E) (k : List (List (List (List (List rx_E)))) → Option β) : rx_s5 l i e k = (rx_s5 l i e some).bind k := by
  unfold rx_s5
  rw [rx_s4_bind _ _ _ (fun x => rx_set l (Nat.div i 4096) x k), rx_s4_bind _ _ _ (fun x => rx_set l (Nat.div i 4096) x some), Option.bind_assoc]
  congr 1
  funext x
  exact rx_set_bind _ _ _ _
theorem z_new {n z n' z' ci N : Nat} {iv : List (Int × Int)} {t t' : List (List (List (List (List rx_E))))} {fs : List (List Nat)} {lv st : List Nat} {k : rx_K} (ht : rx_s5 t n (0, ci, N, fs, []) some = some t') (hn : Nat.succ n = n') (hz : Nat.add z N = z') : q_new ci N fs k lv st (n, z, iv, t) = k lv ((8 * n + 2) :: st) (n', z', iv, t') := by
  unfold q_new rx_hp
  simp only [rx_f_eq]
  rw [rx_s5_bind, ht]
  subst hn
  subst hz
  rfl
theorem z_dup {v : Nat} {lv st : List Nat} {h : rx_H} {k : rx_K} (hv : v % 8 = 2) : q_dup k lv (v :: st) h = k lv (v :: v :: st) h := by
  show rx_if (Nat.beq (v % 8) 1) _ _ = _
  rw [hv]
  rfl
theorem z_callI {o r : Nat} {rest lv : List Nat} {h h1 : rx_H} {g : List Nat → rx_H → Option (Nat × rx_H)} {k : rx_K} (ho : o % 8 = 2) (hg : g [o] h = some (r, h1)) (hr : r % 8 = 7) (hc : Nat.ble (rx_cs rest) 8 = true) : o_callI 0 g k lv (o :: rest) h = k lv rest h1 := by
  show (bif Nat.beq (o % 8) 2 then rx_go g [o] rest lv h k else none) = _
  rw [ho]
  show rx_go g [o] rest lv h k = _
  unfold rx_go
  rw [hc, hg]
  simp only [rx_f_eq, hr]
  rfl
end RX25b

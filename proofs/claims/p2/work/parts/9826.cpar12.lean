section CQ4
variable {tk cd : Int → Int} {c : Int}
theorem expr_0 {R : JT} {G : gS} {i a d : Int} {T : TT} {Q : Int → gS → Prop} (hd : d = 12) (hp : Pre G tk cd c i a d) (hQ : ∀ v G', PsE G G' c i a (pdeep tk a) T v → Q v G') : PX9_expr R d G Q := by
  obtain ⟨p1, p2, p3, p4, p5, p6, p7, p8, p9, p10, p11, p12⟩ := hp
  unfold PX9_expr PX9_expr_0
  refine sX9_now p1 p2 p4 (by omega) (fun _ => sX9_beginsE (a := a) rfl (fun hb => fun _ => ⟨fun u => absurd u (by decide), fun _ => ⟨fun u => by omega, fun _ => sX9_stop p2 p4 p3 (fun _ => hQ (-1) _ ⟨Pst_fl (FP_id _) (by decide) (by unfold pdeep; rw [hb]; rfl), fun _ => rfl, fun z => ?_⟩)⟩⟩) (fun hb => fun _ => ⟨fun _ => sX9_miss p1 p2 p3 p4 (by omega) (fun _ => hQ (-1) _ ⟨Pst_fl (FP_id _) (pmiss_ne (tk := tk) a) (by unfold pdeep; rw [hb]; rfl), fun _ => rfl, fun z => ?_⟩), fun u => absurd rfl u⟩))
  · unfold pdeep at z
    rw [hb] at z
    exact absurd z three_ne
  · unfold pdeep at z
    rw [hb] at z
    exact absurd z (pmiss_ne (tk := tk) a)
theorem LSp_P {uU : Int → RR} : LSp tk uU opP (pprodL tk uU) := fun f a => ⟨fun h => if_pos h, fun h => if_neg h⟩
theorem LSp_S {uU : Int → RR} : LSp tk (pprod tk uU) opS (psumL tk uU) := fun f a => ⟨fun h => if_pos h, fun h => if_neg h⟩
theorem punit_miss {eE cU : Int → RR} {a : Int} (h : bE tk a = false) : punit tk eE cU a = pmiss tk a := by
  have e : pfront tk eE cU a = pmiss tk a := by unfold pfront; rw [h]; rfl
  unfold punit
  rw [e]
  exact pb_n (pmiss_ne (tk := tk) a)
-- of one level: all of UNIT
theorem unit_level {T C : TT} {eE cU : Int → RR} {d : Int} {N : Nat} (hI : TI T) (hF : TF T) (hCI : TI C) (hCF : TF C) (hE : ∀ n, N ≤ n → SEx (Rq6 n) tk cd c T eE 3 [d] d) (hC : ∀ n, N ≤ n → SC (Rq6 n) tk cd c C cU d) : ∀ n, N + 5 ≤ n → SEx (Rq6 n) tk cd c (cUnit tk cd T C eE cU) (punit tk eE cU) 8 [d] d := by
  have hA : ∀ n, N + 1 ≤ n → SA (Rq6 n) tk cd c T eE d := fun n hn => by
    obtain ⟨m, rfl⟩ : ∃ m, n = m + 1 := ⟨n - 1, by omega⟩
    intro G i a k Q hp hk h5 hQ
    show PX9_args (Rq6 m) k d G Q
    exact args_ok (hE m (by omega)) hI hF hp hk h5 hQ
  have hS : ∀ n, N + 2 ≤ n → SS (Rq6 n) tk cd c T eE d := fun n hn => by
    obtain ⟨m, rfl⟩ : ∃ m, n = m + 1 := ⟨n - 1, by omega⟩
    intro G i a k Q hp hk h5 hQ
    show PX9_superCall (Rq6 m) k d G Q
    exact super_ok (hA m (by omega)) hp hk h5 hQ
  have hO : ∀ n, N + 3 ≤ n → SO (Rq6 n) tk cd c T eE d := fun n hn => by
    obtain ⟨m, rfl⟩ : ∃ m, n = m + 1 := ⟨n - 1, by omega⟩
    intro G i b k Q hp hk h5 hQ
    show PX9_ofClass (Rq6 m) k d G Q
    exact ofClass_ok (hA m (by omega)) (hS m (by omega)) hp hk h5 hQ
  have hR : ∀ n, N + 1 ≤ n → SR (Rq6 n) tk cd c T C eE cU d := fun n hn => by
    obtain ⟨m, rfl⟩ : ∃ m, n = m + 1 := ⟨n - 1, by omega⟩
    intro G i b k Q hp hk hQ
    show PX9_round (Rq6 m) k d G Q
    exact round_ok (hE m (by omega)) hI hF (hC m (by omega)) hCI hCF hp hk hQ
  have hB : ∀ n, N + 2 ≤ n → SB (Rq6 n) tk cd c T eE d := fun n hn => by
    obtain ⟨m, rfl⟩ : ∃ m, n = m + 1 := ⟨n - 1, by omega⟩
    intro G i a Q hp ht hQ
    show PX9_behindUnit (Rq6 m) d G Q
    exact behind_ok (hA m (by omega)) hp ht hQ
  have hFr : ∀ n, N + 4 ≤ n → SEx (Rq6 n) tk cd c (cFront tk cd T C eE) (pfront tk eE cU) 4 [d] d := fun n hn => by
    obtain ⟨m, rfl⟩ : ∃ m, n = m + 1 := ⟨n - 1, by omega⟩
    intro G i a Q hp hQ
    show PX9_front (Rq6 m) d G Q
    exact front_ok (hA m (by omega)) (hS m (by omega)) (hO m (by omega)) (hR m (by omega)) hp hQ
  intro n hn
  obtain ⟨m, rfl⟩ : ∃ m, n = m + 1 := ⟨n - 1, by omega⟩
  intro G i a Q hp hQ
  show PX9_unit (Rq6 m) d G Q
  exact unit_ok (hFr m (by omega)) (hB m (by omega)) hI hF hCI hCF hp hQ
-- E within one less
theorem expr_level {U : TT} {uU : Int → RR} {d : Int} {N : Nat} (hd : d < 12) (hUI : TI U) (hUF : TF3 U) (hUA : TA U) (hU : ∀ n, N ≤ n → SEx (Rq6 n) tk cd c U uU 8 [d + 1] (d + 1)) : ∀ n, N + 3 ≤ n → SEx (Rq6 n) tk cd c (cExpr tk U uU) (pexpr tk uU) 3 [d] d := by
  have hP : ∀ n, N + 1 ≤ n → SEx (Rq6 n) tk cd c (cProd tk U uU) (pprod tk uU) 2 [d + 1, 0] (d + 1) := fun n hn => by
    obtain ⟨m, rfl⟩ : ∃ m, n = m + 1 := ⟨n - 1, by omega⟩
    intro G i a Q hp hQ
    show PX9_chain (Rq6 m) (d + 1) 0 G Q
    exact chain_ok (L := pprodL tk uU) (isOp := opP) (Or.inl ⟨rfl, rfl, hU m (by omega)⟩) LSp_P hUI hUF hUA (fun k hk => by unfold opP at hk; omega) hp hQ
  have hS : ∀ n, N + 2 ≤ n → SEx (Rq6 n) tk cd c (cSum tk U uU) (psum tk uU) 2 [d + 1, 1] (d + 1) := fun n hn => by
    obtain ⟨m, rfl⟩ : ∃ m, n = m + 1 := ⟨n - 1, by omega⟩
    intro G i a Q hp hQ
    show PX9_chain (Rq6 m) (d + 1) 1 G Q
    exact chain_ok (L := psumL tk uU) (isOp := opS) (Or.inr ⟨rfl, rfl, hP m (by omega)⟩) LSp_S (cChain_I hUI) (cChain_F hUI hUF) (cChain_A hUA) (fun k hk => by unfold opS at hk; omega) hp hQ
  intro n hn
  obtain ⟨m, rfl⟩ : ∃ m, n = m + 1 := ⟨n - 1, by omega⟩
  intro G i a Q hp hQ
  show PX9_expr (Rq6 m) d G Q
  exact expr_ok hd (hS m (by omega)) hUI hUF hUA hp hQ
/-- the class's reader of E's, by how many S's and E's it stands within -/
theorem EU_ok : ∀ D : Nat, D ≤ 12 → ∀ d : Int, d = 12 - D → (∀ n, 1 + 8 * D ≤ n → SEx (Rq6 n) tk cd c (cE tk cd D) (pE tk D) 3 [d] d) ∧ (∀ n, 6 + 8 * D ≤ n → SEx (Rq6 n) tk cd c (cU tk cd D) (pU tk D) 8 [d] d)
  | 0, _, d, hd => by
    have hE : ∀ n, 1 ≤ n → SEx (Rq6 n) tk cd c (cE tk cd 0) (pE tk 0) 3 [d] d := fun n hn => by
      obtain ⟨m, rfl⟩ : ∃ m, n = m + 1 := ⟨n - 1, by omega⟩
      intro G i a Q hp hQ
      show PX9_expr (Rq6 m) d G Q
      exact expr_0 (by omega) hp hQ
    refine ⟨fun n hn => hE n (by omega), fun n hn => ?_⟩
    exact unit_level (N := 1) cNo_I cNo_F cNo_I cNo_F hE (fun n _ => ⟨Or.inr ⟨by omega, rfl⟩, fun a h => by unfold pdeep; rw [h]; rfl⟩) n (by omega)
  | D + 1, hD, d, hd => by
    obtain ⟨ihE, ihU⟩ := EU_ok D (by omega) (d + 1) (by omega)
    obtain ⟨⟨a1, a2⟩, a3, a4, a5⟩ := cEU_ok tk cd D
    obtain ⟨⟨b1, b2⟩, -, -, -⟩ := cEU_ok tk cd (D + 1)
    have hE : ∀ n, 1 + 8 * (D + 1) ≤ n → SEx (Rq6 n) tk cd c (cE tk cd (D + 1)) (pE tk (D + 1)) 3 [d] d := fun n hn => expr_level (N := 6 + 8 * D) (by omega) a3 a4 a5 ihU n (by omega)
    refine ⟨hE, fun n hn => ?_⟩
    refine unit_level (N := 1 + 8 * (D + 1)) b1 b2 a3 (TF3_F a4) hE (fun n hn => ⟨Or.inl ⟨by omega, ihU n (by omega)⟩, fun a h => ?_⟩) n (by omega)
    cases D with
    | zero => exact punit_miss h
    | succ D => exact punit_miss h
end CQ4

section RP4
variable {B G G' : gS} {s N d i i' a : Int} {tk cd : Int → Int} {q r : RR} {R : JT} {T C : TT} {eE cU : Int → RR}
theorem bE_t (a : Int) : bE tk a = true ↔ (tk a = 4 ∨ tk a = 3 ∨ tk a = 2 ∨ tk a = 36 ∨ tk a = 37 ∨ tk a = 38 ∨ tk a = 25 ∨ tk a = 140) := by
  unfold bE
  simp
theorem wo45 : wordOf 45 36 := wo 45 36 (by decide +kernel) (by decide +kernel)
theorem wo46 : wordOf 46 37 := wo 46 37 (by decide +kernel) (by decide +kernel)
theorem wo47 : wordOf 47 38 := wo 47 38 (by decide +kernel) (by decide +kernel)
theorem wo43 : wordOf 43 25 := wo 43 25 (by decide +kernel) (by decide +kernel)
theorem wo57 : wordOf 57 39 := wo 57 39 (by decide +kernel) (by decide +kernel)
theorem rBegE {Q : Int → gS → Prop} (hK : TKp B s N tk cd) (hT : TE B G s N) (h0 : 0 ≤ G 16081 22) (h1 : G 16081 22 < N) (hQ : ∀ v, (v = 1 ∧ bE tk (G 16081 22) = true) ∨ (v = 0 ∧ bE tk (G 16081 22) = false) → Q v G) : PX13_beginsE G Q := by
  have t := TR_k (hK.2.2.2.2.2.1 _ h0 h1)
  have y1 : bE tk (G 16081 22) = true → PX13_beginsE_85 G Q := fun z => by
    unfold PX13_beginsE_85 PX13_beginsE_90
    exact ⟨by omega, hQ 1 (Or.inl ⟨rfl, z⟩)⟩
  have be := bE_t (tk := tk) (G 16081 22)
  unfold PX13_beginsE PX13_beginsE_0
  refine fun _ => rKind hK hT h0 h1 (fun _ => fun _ => ⟨fun z => y1 (be.mpr (by omega)), fun n4 => fun _ => rKind hK hT h0 h1 (fun _ => fun _ => ⟨fun z => y1 (be.mpr (by omega)), fun n3 => fun _ => rKind hK hT h0 h1 (fun _ => fun _ => ⟨fun z => y1 (be.mpr (by omega)), fun n2 => ?_⟩)⟩)⟩)
  refine rSign (k := 140) hK hT h0 h1 (Or.inl ⟨by unfold sg; omega, rfl⟩) (fun v hv => fun _ => ⟨fun z140 => ?_, fun z => y1 (be.mpr (by omega))⟩)
  refine rWord hK hT h0 h1 wo45 (fun v hv => fun _ => ⟨fun z36 => ?_, fun z => y1 (be.mpr (by omega))⟩)
  refine rWord hK hT h0 h1 wo46 (fun v hv => fun _ => ⟨fun z37 => ?_, fun z => y1 (be.mpr (by omega))⟩)
  refine rWord hK hT h0 h1 wo47 (fun v hv => fun _ => ⟨fun z38 => ?_, fun z => y1 (be.mpr (by omega))⟩)
  refine rWord hK hT h0 h1 wo43 (fun v hv => fun _ => ⟨fun z25 => ?_, fun z => y1 (be.mpr (by omega))⟩)
  unfold PX13_beginsE_90
  refine ⟨by omega, hQ 0 (Or.inr ⟨rfl, ?_⟩)⟩
  rw [Bool.eq_false_iff]
  intro y
  have := be.mp y
  omega
theorem rBE {Q : Int → gS → Prop} (hK : TKp B s N tk cd) (h : RM B s N d G q i) (e : q.1 = 0) (h1 : bE tk q.2 = true → Q 1 G) (h0 : bE tk q.2 = false → Q 0 G) : PX13_beginsE G Q := by
  refine rBegE hK h.1 h.2.2.2.1 h.2.2.2.2.1 (fun v hv => ?_)
  rw [RM_p h e] at hv
  rcases hv with ⟨rfl, z⟩ | ⟨rfl, z⟩
  · exact h1 z
  · exact h0 z
def SRf (R : JT) (B : gS) (s N d : Int) (tk : Int → Int) (T C : TT) (eE cU : Int → RR) : Prop := ∀ (G : gS) (a i : Int) (Q : Int → gS → Prop), RM B s N d G (0, a) i → 0 ≤ i → i ≤ a + 2 → bE tk a = true → (∀ v G' i', RM B s N d G' (pfront tk eE cU a) i' → RFc s G G' (0, a) (pfront tk eE cU a) i i' (rFront B s tk T C eE i i' v a G' ∧ G' 16154 v = -2) → Q v G') → R 2 [] G Q
def SRo (R : JT) (B : gS) (s N d : Int) (tk : Int → Int) (T C : TT) (eE : Int → RR) : Prop := ∀ (G : gS) (a i : Int) (Q : Int → gS → Prop), RM B s N d G (0, a) i → 0 ≤ i → i ≤ a + 2 → tk a = 2 → (∀ v G' i', RM B s N d G' (pb (ptake a) (pclass tk eE)) i' → RFc s G G' (0, a) (pb (ptake a) (pclass tk eE)) i i' (rFront B s tk T C eE i i' v a G' ∧ G' 16154 v = -2) → Q v G') → R 4 [B 16091 (s * 702 + a)] G Q
def SRb (R : JT) (B : gS) (s N d : Int) (tk : Int → Int) (T C : TT) (eE cU : Int → RR) : Prop := ∀ (G : gS) (a i : Int) (Q : Int → gS → Prop), RM B s N d G (0, a) i → 0 ≤ i → i ≤ a + 2 → tk a = 140 → (∀ v G' i', RM B s N d G' (pb (ptake a) (pround tk eE cU)) i' → RFc s G G' (0, a) (pb (ptake a) (pround tk eE cU)) i i' (rFront B s tk T C eE i i' v a G' ∧ G' 16154 v = -2) → Q v G') → R 3 [B 16091 (s * 702 + a)] G Q
theorem XR_n {i1 lo c : Int} (f : FR (XR s i1) G G') (h : lo < i1) (hc : 16144 ≤ c) : G' c (s * 1700 + lo) = G c (s * 1700 + lo) := f _ _ (by unfold XR; omega)
theorem rleaf {G0 : gS} {Q : Int → gS → Prop} {v : Int} (hK : TKp B s N tk cd) (h : RM B s N d G (0, a) (i + 1)) (f0 : FR (XR s i) G0 G) (ht : tk a = 4 ∨ tk a = 36 ∨ tk a = 37) (hv : v = s * 1700 + i) (g45 : G 16145 v = plR B s a) (g54 : G 16154 v = -2) (h4 : tk a = 4 → G 16144 v = 0 ∧ G 16155 v = vlR B s a) (h36 : tk a = 36 → G 16144 v = 1) (h37 : tk a = 37 → G 16144 v = 2)
    (hQ : ∀ v G' i', RM B s N d G' (pfront tk eE cU a) i' → RFc s G0 G' (0, a) (pfront tk eE cU a) i i' (rFront B s tk T C eE i i' v a G' ∧ G' 16154 v = -2) → Q v G') : PX13_step G (fun _ G' => Q v G') := by
  have hb : bE tk a = true := (bE_t a).mpr (by omega)
  have spec : pfront tk eE cU a = ptake a := by
    unfold pfront
    rw [if_pos hb]
    by_cases e : (ptake a).1 = 0
    · rw [pb_0 e, if_pos ht]; exact Prod.ext e.symm rfl
    · rw [pb_n e]
  refine rStep hK h (fun _ => by show tk a ≠ 0 ∧ tk a ≠ 1; omega) (fun G2 hR f => hQ v G2 (i + 1) (by rw [spec]; exact hR) ?_)
  subst hv
  have tl := ptake_le (a := a)
  rw [spec]
  have w : ∀ c, 16144 ≤ c → G2 c (s * 1700 + i) = G c (s * 1700 + i) := fun c x => XR_n f (by omega) x
  refine ⟨by omega, FR_tr f0 (FR_XR (by omega) f), fun z => absurd rfl z, tl.1, ?_, fun e => ?_⟩
  · show i + 1 ≤ i + ((ptake a).2 - a) + 1
    omega
  · have e2 := tl.2.2 e
    show i + 1 ≤ i + ((ptake a).2 - a) ∧ a < (ptake a).2 ∧ rFront B s tk T C eE i (i + 1) (s * 1700 + i) a G2 ∧ _
    refine ⟨by omega, by omega, ⟨rfl, by omega, by rw [w _ (by omega)]; exact g45, fun z => by rw [w _ (by omega), w _ (by omega)]; exact h4 z, fun z => by rw [w _ (by omega)]; exact h36 z, fun z => by rw [w _ (by omega)]; exact h37 z, fun z => by omega, fun z => by omega, fun z => by omega, fun z => by omega, fun z => by omega⟩, by rw [w _ (by omega)]; exact g54⟩
end RP4

section CB3
variable {tk cd : Int → Int} {c b : Int} {G0 G : gS}
-- what reading a text into the b-th build changes
def xRead (b : Int) (c j : Int) : Prop := (c = 7 ∧ (j = 8 ∨ j = 9 ∨ j = 10 ∨ j = 12 ∨ j = 14)) ∨ (14 ≤ c ∧ c < 814) ∨ (985 + 888 * b ≤ c ∧ c < 985 + 888 * b + 888)
theorem xRead_T (hb : 0 ≤ b) : XT (xRead b) := ⟨fun c j h => by unfold xAt at h; unfold xRead; omega, by unfold xRead; omega, fun _ => by unfold xRead; omega, fun _ => by unfold xRead; omega⟩
theorem PT_fG {G : gS} {m x : Int} (h : PT G tk c) : PT (fG G m x) tk c := ⟨by rw [fG_j (by omega)]; exact h.1, h.2.1, h.2.2.1, fun a x y => by rw [fG_j (by omega)]; exact h.2.2.2.1 a x y, h.2.2.2.2⟩
theorem now_any {Q : Int → gS → Prop} (h : PT G tk c) (h0 : 0 ≤ G 7 8) (hQ : ∀ v, Q v G) : PX9_now G Q := by
  unfold PX9_now PX9_now_0 PX9_now_24
  rw [h.1]
  refine fun _ _ => ⟨fun q => hQ _, fun q => fun _ => ⟨h0, ?_, fun _ => hQ _⟩⟩
  have := h.2.2.1
  omega
theorem pmember_lt {j a : Int} (h : (pmember tk j a).1 = 0) : j < 20 := by
  unfold pmember at h
  split at h
  · split at h
    · assumption
    · exact absurd h (by show (3 : Int) ≠ 0; decide)
  · exact absurd h (pmiss_ne a)
def St0 (tk cd : Int → Int) (c b : Int) (G0 : gS) (k : Nat) (a i : Int) (G : gS) : Prop := HS (xRead b) G0 G tk cd c a ∧ G 7 11 = bd b ∧ G 7 14 = i ∧ 0 ≤ i ∧ i ≤ a ∧ G (bd b) 3 = k ∧ k ≤ 12 ∧ G (bd b) 5 = n0 tk k ∧ n0 tk k ≤ 20 * k ∧ AllC tk cd b k i G ∧ a = aCl tk k ∧ ∃ f : Nat, f + k = 702 ∧ ptext tk 12 = pclasses tk 12 f k a
def St1 (tk cd : Int → Int) (c b : Int) (G0 : gS) (k j : Nat) (a i : Int) (G : gS) : Prop := HS (xRead b) G0 G tk cd c a ∧ G 7 11 = bd b ∧ G 7 14 = i ∧ 0 ≤ i ∧ i ≤ a ∧ G (bd b) 3 = k + 1 ∧ k < 12 ∧ G (bd b) 5 = n0 tk k + j ∧ n0 tk k ≤ 20 * k ∧ j ≤ 20 ∧ AllC tk cd b k i G ∧ RwP tk cd (rw_ b k) (aCl tk k) G ∧ G (rw_ b k) 13 = j ∧ G (rw_ b k) 15 = cM tk (hIt tk k (aCl tk k)) j ∧ ItP tk cd b (rw_ b k) (n0 tk k) (hIt tk k (aCl tk k)) i j G ∧ a = aIt tk (hIt tk k (aCl tk k)) j ∧ (∃ f : Nat, f + j = 22 ∧ pitems tk 22 0 (hIt tk k (aCl tk k)) = pitems tk f j a ∧ nIt tk (hIt tk k (aCl tk k)) = nItL tk f j a + j) ∧ ∃ f2 : Nat, f2 + k = 701 ∧ ptext tk 12 = pb (pitems tk 22 0 (hIt tk k (aCl tk k))) (pclasses tk 12 f2 (k + 1))
def RBd (tk : Int → Int) (c b : Int) (G0 G : gS) : Prop := HB (xRead b) G0 G (ptext tk 12) ∧ PT G tk c
theorem St1_next {k j : Nat} {a a' i i' : Int} {G' : gS} (hb : 0 ≤ b ∧ b < 17) (h : St1 tk cd c b G0 k j a i G) (ht : tk a ≠ 225) (hj : j < 20) (hs : HS (xRead b) G0 G' tk cd c a') (hi : G' 7 14 = i') (hi1 : i ≤ i') (hi2 : i' ≤ a')
    (hf : ∀ c j', ¬ xMbr b k (n0 tk k + j) c j' → ¬ xBody (mb b (n0 tk k + j)) c j' → G' c j' = G c j') (hn : ∀ k j, 14 ≤ k → k < 14 + i → G' k j = G k j) (h5 : G' (bd b) 5 = n0 tk k + j + 1) (h13 : G' (rw_ b k) 13 = j + 1) (h3 : G' (rw_ b k + 3) j = mb b (n0 tk k + j)) (h3' : ∀ j' : Int, j' ≠ j → G' (rw_ b k + 3) j' = G (rw_ b k + 3) j')
    (h23 : tk a = 23 → G' (rw_ b k) 15 = cM tk (hIt tk k (aCl tk k)) j ∧ ∀ j' : Int, G' (rw_ b k + 4) j' = G (rw_ b k + 4) j') (h24 : tk a ≠ 23 → G' (rw_ b k) 15 = cM tk (hIt tk k (aCl tk k)) j + 1 ∧ G' (rw_ b k + 4) (cM tk (hIt tk k (aCl tk k)) j) = mb b (n0 tk k + j) ∧ ∀ j' : Int, j' ≠ cM tk (hIt tk k (aCl tk k)) j → G' (rw_ b k + 4) j' = G (rw_ b k + 4) j')
    (hM : MmP tk cd (mb b (n0 tk k + j)) a G') (hI : ItB tk cd (mb b (n0 tk k + j)) j a i' G') (hp : pitem tk j a = (0, a')) : St1 tk cd c b G0 k (j + 1) a' i' G' := by
  obtain ⟨s1, s2, s3, s4, s5, s6, s7, s8, s9, s10, s11, s12, s13, s14, s15, s16, ⟨f, s17, s18, s19⟩, s20⟩ := h
  unfold St1
  generalize hH : hIt tk k (aCl tk k) = h at *
  have z0 := n0_0 tk k
  have cb := cM_b tk h j
  have hnode : ∀ c j', ¬ (c = 7 ∧ (j' = 8 ∨ j' = 9 ∨ j' = 10 ∨ j' = 12 ∨ j' = 14)) → ¬ (14 ≤ c ∧ c < 814) → c ≠ mb b (n0 tk k + j) → c ≠ mb b (n0 tk k + j) + 1 → ¬ (c = bd b ∧ j' = 5) → ¬ (c = rw_ b k ∧ (j' = 13 ∨ j' = 15)) → c ≠ rw_ b k + 3 → c ≠ rw_ b k + 4 → G' c j' = G c j' := fun c j' x1 x2 x3 x4 x5 x6 x7 x8 => hf c j' (by unfold xMbr xTyp xMem xAt; omega) (by unfold xBody; omega)
  have hc : cM tk h (j + 1) = cM tk h j + (if tk a = 23 then 0 else 1) := by rw [s16]; rfl
  refine ⟨hs, ?_, hi, by omega, hi2, ?_, s7, by rw [h5]; omega, s9, by omega, AllC_F s11 hi1 (fun c j' x y => hnode c j' (by unfold rw_ at *; omega) (by unfold rw_ at *; omega) (by unfold rw_ mb at *; omega) (by unfold rw_ mb at *; omega) (by unfold rw_ bd at *; omega) (by unfold rw_ at *; omega) (by unfold rw_ at *; omega) (by unfold rw_ at *; omega)) (fun c j' x y => hnode c j' (by unfold mb at *; omega) (by unfold mb at *; omega) (by unfold mb at *; omega) (by unfold mb at *; omega) (by unfold mb bd at *; omega) (by unfold mb rw_ at *; omega) (by unfold mb rw_ at *; omega) (by unfold mb rw_ at *; omega)) hn, ?_, by rw [h13]; omega, ?_, fun j' x => ?_, ?_, ?_, ?_⟩
  · rw [hnode _ _ (by omega) (by omega) (by unfold mb; omega) (by unfold mb; omega) (by unfold bd; omega) (by unfold rw_; omega) (by unfold rw_; omega) (by unfold rw_; omega)]; exact s2
  · rw [hnode _ _ (by unfold bd; omega) (by unfold bd; omega) (by unfold bd mb; omega) (by unfold bd mb; omega) (by omega) (by unfold bd rw_; omega) (by unfold bd rw_; omega) (by unfold bd rw_; omega)]; exact s6
  · have w : ∀ c j', rw_ b k ≤ c → c ≤ rw_ b k + 2 → ¬ (c = rw_ b k ∧ (j' = 13 ∨ j' = 15)) → G' c j' = G c j' := fun c j' x y z => hnode c j' (by unfold rw_ at *; omega) (by unfold rw_ at *; omega) (by unfold rw_ mb at *; omega) (by unfold rw_ mb at *; omega) (by unfold rw_ bd at *; omega) z (by omega) (by omega)
    exact RwP_F s12 (fun j' x y => w _ _ (by omega) (by omega) (by omega)) (fun j' => w _ _ (by omega) (by omega) (by omega)) (fun j' => w _ _ (by omega) (by omega) (by omega))
  · rw [hc]
    by_cases z : tk a = 23
    · rw [if_pos z, (h23 z).1]; omega
    · rw [if_neg z, (h24 z).1]
  · by_cases y : j' < j
    · refine ItP_F s15 hi1 (fun j1 x1 x2 => h3' j1 (by omega)) (fun j1 x1 x2 => ?_) (fun c1 j1 x1 x2 => ?_) hn j' y
      · by_cases z : tk a = 23
        · exact (h23 z).2 j1
        · exact (h24 z).2.2 j1 (by omega)
      · exact hnode c1 j1 (by unfold mb at *; omega) (by unfold mb at *; omega) (by unfold mb at *; omega) (by unfold mb at *; omega) (by unfold mb bd at *; omega) (by unfold mb rw_ at *; omega) (by unfold mb rw_ at *; omega) (by unfold mb rw_ at *; omega)
    · have e : j' = j := by omega
      subst e
      rw [← s16]
      exact ⟨h3, hM, hI, fun z => (h24 z).2.1⟩
  · show a' = (pitem tk j (aIt tk h j)).2
    rw [← s16, hp]
  · obtain ⟨f', rfl⟩ : ∃ f', f = f' + 1 := ⟨f - 1, by omega⟩
    refine ⟨f', by omega, ?_, ?_⟩
    · rw [s18]
      show (if tk a = 225 then ptake a else pb (pitem tk j a) (pitems tk f' (j + 1))) = _
      rw [if_neg ht, pb_e hp]; rfl
    · rw [s19]
      show (if tk a = 225 then 0 else nItL tk f' (j + 1) (pitem tk j a).2 + 1) + j = _
      rw [if_neg ht, hp]
      show nItL tk f' ((j : Int) + 1) a' + 1 + j = nItL tk f' ((j : Int) + 1) a' + (j + 1)
      omega
  · exact s20
end CB3

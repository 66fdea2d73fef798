section CB1
variable {tk cd : Int → Int} {c a i m k : Int} {G : gS}
-- what a body changes
def xBody (m : Int) (c j : Int) : Prop := (c = 7 ∧ (j = 8 ∨ j = 9 ∨ j = 10 ∨ j = 14)) ∨ (14 ≤ c ∧ c < 814) ∨ (c = m ∧ (j = 6 ∨ j = 12 ∨ j = 13 ∨ j = 14))
theorem xBody_T (hm : 985 ≤ m) : XT (xBody m) := ⟨fun c j h => by unfold xAt at h; unfold xBody; omega, by unfold xBody; omega, fun _ => by unfold xBody; omega, fun _ => by unfold xBody; omega⟩
def eBody (tk : Int → Int) (k a : Int) : Int := if k = 223 then (pB tk 12 a).2 else (pE tk 12 a).2
def BdT (tk cd : Int → Int) (m k a i i' : Int) (G : gS) : Prop := G m 6 = b01 (k = 223) ∧ G m 12 = a ∧ G m 13 = eBody tk k a ∧ G (G m 14) 8 = -1 ∧ (k = 223 → cB tk cd 12 i i' (G m 14) a G) ∧ (k ≠ 223 → cE tk cd 12 i i' (G m 14) a G)
theorem Pre_m {j v : Int} (h : Pre G tk cd c i a 0) (hm : 985 ≤ m) : Pre (uG G m j v) tk cd c i a 0 := by
  obtain ⟨⟨p1, p2, p3, p4, p5⟩, q1, q2, q3, q4, q5, q6, q7, q8, q9, q10, q11⟩ := h
  exact ⟨⟨by rw [uG_c (by omega)]; exact p1, p2, p3, fun a x y => by rw [uG_c (by omega)]; exact p4 a x y, p5⟩, by rw [uG_c (by omega)]; exact q1, by rw [uG_c (by omega)]; exact q2, q3, q4, q5, by rw [uG_c (by omega)]; exact q6, q7, q8, q9, q10, fun a x y => by rw [uG_c (by omega)]; exact q11 a x y⟩
theorem FP_FR {X : Int → Int → Prop} {G1 : gS} (h : FP G G1) (h1 : ∀ c j, (c = 7 ∧ (j = 8 ∨ j = 9 ∨ j = 10 ∨ j = 14)) → X c j) (h2 : ∀ c j, 14 ≤ c → c < 814 → X c j) : FR X G G1 := fun c j x => h.1 c j (fun z => x (h1 c j z)) (fun z => x (h2 c j z.1 z.2))
theorem body_ok {Q : Int → gS → Prop} (hm : isO W0 7 m) (hm9 : 985 ≤ m) (hp : Pre G tk cd c i a 0) (hk : G 7 12 = k)
    (h1 : ∀ G' i', (pbody tk k a).1 = 0 → HS (xBody m) G G' tk cd c (pbody tk k a).2 → a < (pbody tk k a).2 → G' 7 14 = i' → i ≤ i' → i' ≤ i + ((pbody tk k a).2 - a) → (∀ k j, 14 ≤ k → k < 14 + i → G' k j = G k j) → BdT tk cd m k a i i' G' → Q 1 G')
    (h2 : ∀ G', HB (xBody m) G G' (pbody tk k a) → Q 0 G') : PX9_readBody m G Q := by
  have hX : XT (xBody m) := xBody_T hm9
  have x7 : ∀ c j, (c = 7 ∧ (j = 8 ∨ j = 9 ∨ j = 10 ∨ j = 14)) → xBody m c j := fun _ _ h => Or.inl h
  have xn : ∀ c j, 14 ≤ c → c < 814 → xBody m c j := fun _ _ y z => Or.inr (Or.inl ⟨y, z⟩)
  have xm : ∀ j, (j = 6 ∨ j = 12 ∨ j = 13 ∨ j = 14) → xBody m m j := fun _ h => Or.inr (Or.inr ⟨rfl, h⟩)
  have p2 := hp.2.1
  -- behind the body's E or BLOCK
  have fin : ∀ (T : TT) (r : RR) G8 v G', TI T → TF T → Pre G8 tk cd c i a 0 → FR (xBody m) G G8 → (∀ c j, c ≠ m → G8 c j = G c j) → G8 m 6 = b01 (k = 223) → G8 m 12 = a → (r.1 = 0 → eBody tk k a = r.2) → (k = 223 → pbody tk k a = r) → (k ≠ 223 → pbody tk k a = pb r (pneed tk 159)) → (∀ lo hi n a G, k = 223 → T lo hi n a G → cB tk cd 12 lo hi n a G) → (∀ lo hi n a G, k ≠ 223 → T lo hi n a G → cE tk cd 12 lo hi n a G) → PsE G8 G' c i a r T v → PX9_readBody_48 m m v G' Q := by
    intro T r G8 v G' hI hF hp8 f8 k8 v6 v12 he s1 s2 t1 t2 h
    obtain ⟨⟨hf, hn, h0⟩, hv, hv8⟩ := h
    have fG : FR (xBody m) G G' := FR_tr f8 (FP_FR hf x7 xn)
    have om : ∀ j, G' m j = G8 m j := fun j => hf.1 m j (by omega) (by omega)
    have end87 : ∀ G1, HB (xBody m) G G1 (pbody tk k a) → PX9_readBody_87 m G1 Q := fun G1 hb => by
      unfold PX9_readBody_87 PX9_readBody_88
      exact ⟨by omega, h2 G1 hb⟩
    unfold PX9_readBody_48
    by_cases e : r.1 = 0
    · obtain ⟨g9, g8, g1, g2, g3, g4, i', gi, l1, l2, hT⟩ := h0 e
      obtain ⟨x, ev, x1, x2⟩ := hI _ _ _ _ _ hT
      have hp8' := hp8
      obtain ⟨-, -, -, r4, r5, r6, r7, r8, r9, -, -, -⟩ := hp8
      refine ⟨hm, Or.inr (by rw [ev]; exact nd_isO (by omega) (by omega)), fun G20 e20 => ?_⟩
      rw [show G20 7 8 = r.2 by rw [e20, uG_c (by omega)]; exact g8]
      refine fun _ => ⟨hm, fun G23 e23 => ?_⟩
      have w : ∀ c' j', ¬ (c' = m ∧ (j' = 13 ∨ j' = 14)) → G23 c' j' = G' c' j' := fun c' j' q => by rw [e23, uG_ne (by omega), e20, uG_ne (by omega)]
      have m23 : HS (xBody m) G G23 tk cd c r.2 := by
        have f : FR (xBody m) G G23 := by rw [e23, e20]; exact FR_up (FR_up fG (xm 14 (by omega))) (xm 13 (by omega))
        have f' : FR (xBody m) G8 G23 := by rw [e23, e20]; exact FR_up (FR_up (FP_FR hf x7 xn) (xm 14 (by omega))) (xm 13 (by omega))
        exact ⟨⟨PT_FR hp8'.1 f' hX, by rw [w _ _ (by omega)]; exact g8, by rw [w _ _ (by omega)]; exact g9, by omega, g2, g3, CD_FR hp8'.2.2.2.2.2.2.2.2.2.2.2 f' hX⟩, f⟩
      have b6 : G23 m 6 = b01 (k = 223) := by rw [w _ _ (by omega), om]; exact v6
      have b12 : G23 m 12 = a := by rw [w _ _ (by omega), om]; exact v12
      have b13 : G23 m 13 = r.2 := by rw [e23, uG_at]
      have b14 : G23 m 14 = v := by rw [e23, uG_j (by decide), e20, uG_at]
      have bT : T i i' v a G23 := hF _ _ _ _ _ _ hT (fun k' j' y1 y2 _ => w _ _ (by omega))
      have bo : ∀ k' j, 14 ≤ k' → k' < 14 + i → G23 k' j = G k' j := fun k' j y1 y2 => by rw [w _ _ (by omega), g4 k' j y1 y2 (fun z => z), k8 _ _ (by omega)]
      have bi : G23 7 14 = i' := by rw [w _ _ (by omega)]; exact gi
      have bn : G23 v 8 = -1 := by rw [w _ _ (by omega)]; exact hv8 e
      rw [b6, m23.1.2.2.1]
      refine fun _ => ⟨fun _ => fun _ => ⟨fun z => ?_, fun z => ?_⟩, fun z => absurd rfl z⟩
      · have n : k ≠ 223 := fun q => by unfold b01 at z; rw [if_pos q] at z; omega
        have s := s2 n
        rw [pb_0 e] at s
        refine hNeed m23 hX (by decide) (fun y1 y2 y3 m28 => ?_) (fun n y1 y2 => ?_)
        · rw [y1] at s
          unfold PX9_readBody_83 PX9_readBody_88
          have wv : ∀ c' j', ¬ (c' = 7 ∧ j' = 8) → uG G23 7 8 (r.2 + 1) c' j' = G23 c' j' := fun c' j' q => uG_ne (by omega)
          refine ⟨by omega, h1 _ i' (by rw [s]) (by rw [s]; exact m28) (by rw [s]; show a < r.2 + 1; omega) (by rw [wv _ _ (by omega)]; exact bi) l1 (by rw [s]; show i' ≤ i + (r.2 + 1 - a); omega) (fun k' j y1 y2 => by rw [wv _ _ (by omega)]; exact bo k' j y1 y2) ⟨by rw [wv _ _ (by omega)]; exact b6, by rw [wv _ _ (by omega)]; exact b12, by rw [wv _ _ (by omega), he e]; exact b13, ?_, fun q => absurd q n, fun _ => ?_⟩⟩
          · rw [wv m 14 (by omega), b14, wv _ _ (by omega)]; exact bn
          · rw [wv m 14 (by omega), b14]
            exact t2 _ _ _ _ _ n (hF _ _ _ _ _ _ bT (fun k' j' y1 y2 _ => wv _ _ (by omega)))
        · exact end87 _ (HB_fl m23 hX y1 (s.trans y2))
      · have y : k = 223 := by
          by_cases q : k = 223
          · exact q
          · unfold b01 at z; rw [if_neg q] at z; exact absurd rfl z
        have s := s1 y
        unfold PX9_readBody_83 PX9_readBody_88
        refine ⟨by omega, h1 _ i' (by rw [s]; exact e) (by rw [s]; exact m23) (by rw [s]; exact g1) bi l1 (by rw [s]; exact l2) bo ⟨b6, b12, by rw [he e]; exact b13, by rw [b14]; exact bn, fun _ => by rw [b14]; exact t1 _ _ _ _ _ y bT, fun q => absurd y q⟩⟩
    · have ev := hv e
      obtain ⟨g9, g10⟩ := hn e
      have s : pbody tk k a = r := by
        by_cases q : k = 223
        · exact s1 q
        · rw [s2 q, pb_n e]
      refine ⟨hm, Or.inl ev, fun G20 e20 => fun _ => ⟨hm, fun G23 e23 => ?_⟩⟩
      have w9 : G23 7 9 = r.1 := by rw [e23, uG_c (by omega), e20, uG_c (by omega)]; exact g9
      have w10 : AT G23 r.2 := AT_c e23 (by omega) (AT_c e20 (by omega) g10)
      have f : FR (xBody m) G G23 := by rw [e23, e20]; exact FR_up (FR_up fG (xm 14 (by omega))) (xm 13 (by omega))
      exact fun _ => ⟨fun z => absurd (w9.symm.trans z) e, fun _ => end87 _ ⟨f, by rw [s]; exact w9, by rw [s]; exact w10, by rw [s]; exact e⟩⟩
  have start : ∀ s1, s1 = b01 (k = 223) → ∀ G3, G3 = uG G m 12 a → PX9_readBody_24 m m s1 G3 Q := by
    intro s1 hs1 G3 e3
    unfold PX9_readBody_24
    refine ⟨hm, by rw [hs1]; unfold b01; split <;> omega, fun G8 e8 => ?_⟩
    have hp8 : Pre G8 tk cd c i a 0 := by rw [e8, e3]; exact Pre_m (Pre_m hp hm9) hm9
    have f8 : FR (xBody m) G G8 := by rw [e8, e3]; exact FR_up (FR_up FR_id (xm 12 (by omega))) (xm 6 (by omega))
    have k8 : ∀ c j, c ≠ m → G8 c j = G c j := fun c j q => by rw [e8, uG_c q, e3, uG_c q]
    have v6 : G8 m 6 = b01 (k = 223) := by rw [e8, uG_at]; exact hs1
    have v12 : G8 m 12 = a := by rw [e8, uG_j (by decide), e3, uG_at]
    rw [v6]
    obtain ⟨-, b1, b2⟩ := cSB_ok tk cd 12
    obtain ⟨⟨e1, e2⟩, -⟩ := cEU_ok tk cd 12
    refine ⟨hm, fun _ => ⟨fun z => ?_, fun z => ?_⟩⟩
    · have n : k ≠ 223 := fun q => by unfold b01 at z; rw [if_pos q] at z; omega
      exact (EU_ok 12 (by omega) 0 (by omega)).1 200 (by omega) G8 i a _ hp8 (fun v G' h => fin (cE tk cd 12) (pE tk 12 a) G8 v G' e1 e2 hp8 f8 k8 v6 v12 (fun _ => if_neg n) (fun q => absurd q n) (fun _ => if_neg n) (fun _ _ _ _ _ q => absurd q n) (fun _ _ _ _ _ _ t => t) h)
    · have y : k = 223 := by
        by_cases q : k = 223
        · exact q
        · unfold b01 at z; rw [if_neg q] at z; exact absurd rfl z
      exact (SB_ok 12 (by omega) 0 (by omega)).1 200 (by omega) G8 i a _ hp8 (fun v G' h => fin (cB tk cd 12) (pB tk 12 a) G8 v G' b1 b2 hp8 f8 k8 v6 v12 (fun _ => if_pos y) (fun _ => if_pos y) (fun q => absurd y q) (fun _ _ _ _ _ _ t => t) (fun _ _ _ _ _ q => absurd y q) h)
  unfold PX9_readBody PX9_readBody_0
  rw [p2]
  refine fun _ => ⟨hm, fun G3 e3 => ?_⟩
  rw [show G3 7 12 = k by rw [e3, uG_c (by omega)]; exact hk]
  exact fun _ => ⟨fun z => start 1 (by unfold b01; rw [if_pos z]) G3 e3, fun z => start 0 (by unfold b01; rw [if_neg z]) G3 e3⟩
end CB1

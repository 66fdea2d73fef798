section RP13
def RFs (s : Int) (G G' : gS) (q r : RR) (i i' : Int) (P : Prop) : Prop := i ≤ i' ∧ FR (XR s i) G G' ∧ (q.1 ≠ 0 → i' = i) ∧ q.2 ≤ r.2 ∧ i' ≤ i + (r.2 - q.2) + 2 ∧ (r.1 = 0 → i' ≤ i + (r.2 - q.2) ∧ q.2 < r.2 ∧ P)
def SRs (R : JT) (B : gS) (s N d : Int) (idx : Nat) (T : TT) (eE : Int → RR) : Prop := ∀ (G : gS) (q : RR) (i : Int) (Q : Int → gS → Prop), RM B s N d G q i → 0 ≤ i → (q.1 = 0 → i ≤ q.2 + 2) → (∀ v G' i', RM B s N d G' (pb q eE) i' → RFs s G G' q (pb q eE) i i' (T i i' v q.2 G' ∧ G' 16154 v = -2) → Q v G') → R idx [] G Q
variable {B G G' : gS} {s N d i i' a : Int} {tk cd : Int → Int} {q r : RR} {R : JT} {T S Bk : TT} {eE sS bB : Int → RR}
theorem RFs_bad {P : Prop} (h : q.1 ≠ 0) : RFs s G G q q i i P := ⟨Int.le_refl _, FR_id, fun _ => rfl, Int.le_refl _, by omega, fun z => absurd z h⟩
def XK (s i n l c j : Int) : Prop := XR s i c j ∨ (c = 16151 ∧ j = n ∧ l = -2) ∨ (c = 16154 ∧ j = l ∧ 0 ≤ l)
theorem rblk_88 {J : JT} {Q : Int → gS → Prop} {l1 l2 l3 : Int} (hK : TKp B s N tk cd) (h : RM B s N d G q i) (hQ : ∀ G', RM B s N d G' (pb q (pneed tk 225)) i → FR (XR s i) G G' → Q l2 G') : PX13_block_88 R J l1 l2 l3 G Q := by
  unfold PX13_block_88
  exact rWantSign hK h (Or.inl ⟨by unfold sg; omega, rfl⟩) hQ
theorem rblk_loop (hK : TKp B s N tk cd) (hS : SRs R B s N d 2 S sS) (hI : RTI s S) (hT : RTF s S) : ∀ (f F : Nat) (G : gS) (a i l1 n kn l : Int) (Q : Int → gS → Prop), 700 - a < f → f + 2 ≤ F → RM B s N d G (0, a) i → 0 ≤ i → i ≤ a + 2 → n = s * 1700 + kn → 0 ≤ kn → kn < i → (l = -2 ∧ G 16151 n = -2 ∨ ∃ k, l = s * 1700 + k ∧ kn < k ∧ k < i ∧ G 16154 l = -2) →
    (∀ G' i', RM B s N d G' (pstmts tk sS f a) i' → i ≤ i' → FR (XK s i n l) G G' → a ≤ (pstmts tk sS f a).2 → i' ≤ i + ((pstmts tk sS f a).2 - a) + 2 → ((pstmts tk sS f a).1 = 0 → i' ≤ i + ((pstmts tk sS f a).2 - a) ∧ a < (pstmts tk sS f a).2 ∧ ∃ m, rStmtsL tk S sS f i i' m a G' ∧ (l = -2 → G' 16151 n = m) ∧ (l ≠ -2 → G' 16154 l = m)) → Q n G') → PX13_block_17 R (PX13_block_J R F) l1 n l G Q
  | 0, F, G, a, i, l1, n, kn, l, Q, hf, _, h, _, _, _, _, _, _, _ => by
    have h1 := h.2.2.1
    have h2 := hK.2.2.2.2.1
    exact absurd h1 (by show ¬ a < N; omega)
  | f + 1, F, G, a, i, l1, n, kn, l, Q, hf, hF, h, h0, hi, hn, hn0, hn1, hl, hQ => by
    obtain ⟨F', rfl⟩ : ∃ F', F = F' + 1 := ⟨F - 1, by omega⟩
    have hs0 := hK.1
    have hs1 := hK.2.1
    have hN : N ≤ 701 := hK.2.2.2.2.1
    have ha0 : 0 ≤ a := h.2.1
    have haN : a < N := h.2.2.1
    have spec : pstmts tk sS (f + 1) a = if tk a = 225 then ptake a else pb (sS a) (pstmts tk sS f) := rfl
    have sT : ∀ lo hi m b G, rStmtsL tk S sS (f + 1) lo hi m b G = ((tk b = 225 → m = -2 ∧ lo ≤ hi) ∧ (tk b ≠ 225 → ∃ x, x ≤ hi ∧ S lo x m b G ∧ rStmtsL tk S sS f x hi (G 16154 m) (sS b).2 G)) := fun _ _ _ _ _ => rfl
    generalize hr0 : pstmts tk sS (f + 1) a = r0 at *
    have fl : G 16081 20 = 0 := (RM_fl h).mpr rfl
    have nb : (0 : Int) ≤ n ∧ n < 30600 := by omega
    unfold PX13_block_17
    refine fun _ => ⟨fun _ => rSg (k := 225) hK h rfl (Or.inl ⟨by unfold sg; omega, rfl⟩) (fun z => fun _ => ⟨fun y => absurd y (by decide), fun _ => ?_⟩) (fun z => fun _ => ⟨fun _ => ?_, fun y => absurd rfl y⟩), fun y => absurd fl y⟩
    · -- the }
      change tk a = 225 at z
      rw [if_pos z] at spec
      refine rblk_88 hK h (fun G1 hR1 f1 => ?_)
      change RM B s N d G1 (pneed tk 225 a) i at hR1
      have pn : pneed tk 225 a = ptake a := if_pos z
      rw [pn, ← spec] at hR1
      have tl := ptake_le (a := a)
      rw [← spec] at tl
      refine hQ G1 i hR1 (Int.le_refl _) (FR_mono (fun _ _ u => Or.inl u) f1) tl.1 (by omega) (fun e => ⟨by have := tl.2.2 e; omega, by have := tl.2.2 e; omega, -2, ?_, fun u => ?_, fun u => ?_⟩)
      · rw [sT]; exact ⟨fun _ => ⟨rfl, Int.le_refl _⟩, fun u => absurd z u⟩
      · rw [f1 _ _ (by unfold XR; omega)]
        rcases hl with hl | ⟨k, k1, k2, k3, k4⟩
        · exact hl.2
        · omega
      · rcases hl with hl | ⟨k, k1, k2, k3, k4⟩
        · exact absurd hl.1 u
        · rw [f1 _ _ (by unfold XR; omega)]; exact k4
    · change tk a ≠ 225 at z
      rw [if_neg z] at spec
      refine hS G (0, a) i _ h h0 (fun _ => hi) (fun v G1 i1 hR hC => fun _ => ?_)
      obtain ⟨c1, c2, c3, c4, c5, c6⟩ := hC
      change RM B s N d G1 (sS a) i1 at hR
      change a ≤ (sS a).2 at c4
      change i1 ≤ i + ((sS a).2 - a) + 2 at c5
      change (sS a).1 = 0 → i1 ≤ i + ((sS a).2 - a) ∧ a < (sS a).2 ∧ S i i1 v a G1 ∧ G1 16154 v = -2 at c6
      -- behind the S, put where it belongs
      have rest : ∀ G2, RM B s N d G2 (sS a) i1 → FR (XK s i n l) G G2 → (∀ c j, ¬ (c = 16151 ∧ j = n) → ¬ (c = 16154 ∧ j = l) → G2 c j = G1 c j) → ((sS a).1 = 0 → (l = -2 → G2 16151 n = v) ∧ (l ≠ -2 → G2 16154 l = v)) → PX13_block_71 R (PX13_block_J R (F' + 1)) l1 n l v G2 Q := by
        intro G2 hR2 f2 k2 lv
        by_cases e : (sS a).1 = 0
        · obtain ⟨c7, c8, c9, c10⟩ := c6 e
          obtain ⟨kv, rfl, kv1, kv2⟩ := hI _ _ _ _ _ c9
          have hb2 : (sS a).2 < N := hR.2.2.1
          generalize hb : (sS a).2 = b at *
          have vne : s * 1700 + kv ≠ -2 := by omega
          have hln : l = -2 ∨ ∃ k, l = s * 1700 + k ∧ kn < k ∧ k < i := by
            rcases hl with hl | ⟨k, q1, q2, q3, q4⟩
            · exact Or.inl hl.1
            · exact Or.inr ⟨k, q1, q2, q3⟩
          have T2 : S i i1 (s * 1700 + kv) a G2 := hT _ _ _ _ _ _ c9 (fun c j y1 y2 y3 y4 y5 => k2 c j (by omega) (by rcases hln with u | ⟨k, u1, u2, u3⟩ <;> omega))
          have n2 : G2 16154 (s * 1700 + kv) = -2 := by rw [k2 _ _ (by omega) (by rcases hln with u | ⟨k, u1, u2, u3⟩ <;> omega)]; exact c10
          rw [pb_0 e, hb] at spec
          unfold PX13_block_71 PX13_block_84
          refine ⟨fun u => absurd u vne, fun _ => ?_⟩
          show PX13_block_17 R (PX13_block_J R F') l1 n (s * 1700 + kv) G2 Q
          refine rblk_loop hK hS hI hT f F' G2 b i1 l1 n kn (s * 1700 + kv) Q (by omega) (by omega) (RM_eq hR2 e hb) (by omega) (by omega) hn hn0 (by omega) (Or.inr ⟨kv, rfl, by omega, kv2, n2⟩) (fun G3 i3 hR3 d1 d2 d3 d4 d5 => ?_)
          rw [← spec] at hR3 d3 d4 d5
          have w3 : ∀ c j, 16144 ≤ c → c ≤ 16162 → s * 1700 ≤ j → j < s * 1700 + i1 → ¬ (c = 16154 ∧ j = s * 1700 + kv) → G3 c j = G2 c j := fun c j y1 y2 y3 y4 y5 => d2 c j (by unfold XK XR; omega)
          refine hQ G3 i3 hR3 (by omega) (fun c j x => ?_) (by omega) (by omega) (fun w => ?_)
          · rw [d2 c j (fun u => x ?_), f2 c j x]
            rcases u with u | u | u
            · exact Or.inl (XR_mono c1 u)
            · exact absurd u.2.2 vne
            · exact Or.inl (by unfold XR; omega)
          · obtain ⟨w1, w2, m, w4, w5, w6⟩ := d5 w
            have w7 := w6 vne
            refine ⟨by omega, by omega, s * 1700 + kv, ?_, fun u => ?_, fun u => ?_⟩
            · rw [sT]
              refine ⟨fun u => absurd u z, fun _ => ⟨i1, d1, hT _ _ _ _ _ _ T2 (fun c j y1 y2 y3 y4 y5 => w3 c j y1 (by omega) (by omega) y4 y5), ?_⟩⟩
              rw [w7, hb]; exact w4
            · rw [w3 _ _ (by omega) (by omega) (by omega) (by omega) (by omega)]; exact (lv e).1 u
            · rcases hln with u' | ⟨k, u1, u2, u3⟩
              · exact absurd u' u
              · rw [w3 _ _ (by omega) (by omega) (by omega) (by omega) (by omega)]; exact (lv e).2 u
        · rw [pb_n e] at spec
          have fl2 : G2 16081 20 ≠ 0 := fun y => e ((RM_fl hR2).mp y)
          have out : ∀ l', PX13_block_17 R (PX13_block_J R F') l1 n l' G2 Q := fun l' => by
            unfold PX13_block_17
            refine fun _ => ⟨fun y => absurd y fl2, fun _ => rblk_88 hK hR2 (fun G3 hR3 f3 => ?_)⟩
            rw [pb_n e, ← spec] at hR3
            exact hQ G3 i1 hR3 c1 (FR_tr f2 (FR_mono (fun _ _ u => Or.inl (XR_mono c1 u)) f3)) (by rw [spec]; exact c4) (by rw [spec]; exact c5) (fun w => absurd (by rw [← spec]; exact w) e)
          unfold PX13_block_71 PX13_block_84
          exact ⟨fun _ => out _, fun _ => out _⟩
      refine ⟨fun u => ⟨nb.1, nb.2, fun G2 e2 => ?_⟩, fun u => ⟨fun u2 => ?_, fun u2 => ?_⟩⟩
      · refine rest G2 (by rw [e2]; exact RM_put hR (by omega)) (by rw [e2]; exact FR_up (FR_mono (fun _ _ u => Or.inl u) c2) (Or.inr (Or.inl ⟨rfl, rfl, u⟩))) (fun c j y1 y2 => by rw [e2, uG_ne (by omega)]) (fun e => ⟨fun _ => by rw [e2, uG_at], fun y => absurd u y⟩)
      · refine rest G1 hR (FR_mono (fun _ _ u => Or.inl u) c2) (fun c j y1 y2 => rfl) (fun e => ?_)
        obtain ⟨kv, y, kv1, kv2⟩ := hI _ _ _ _ _ (c6 e).2.2.1
        omega
      · rcases hl with hl | ⟨k, k1, k2, k3, k4⟩
        · exact absurd hl.1 u
        · refine ⟨by omega, by omega, fun G2 e2 => rest G2 (by rw [e2]; exact RM_put hR (by omega)) (by rw [e2]; exact FR_up (FR_mono (fun _ _ u => Or.inl u) c2) (Or.inr (Or.inr ⟨rfl, rfl, by omega⟩))) (fun c j y1 y2 => by rw [e2, uG_ne (by omega)]) (fun e => ⟨fun y => absurd y u, fun _ => by rw [e2, uG_at]⟩)⟩
theorem rblock_ok {Q : Int → gS → Prop} (hK : TKp B s N tk cd) (hS : SRs R B s N d 2 S sS) (hI : RTI s S) (hT : RTF s S) (h : RM B s N d G (0, a) i) (h0 : 0 ≤ i) (hi : i ≤ a + 2) (h2 : tk a = 223) (hQ : ∀ v G' i', RM B s N d G' (pblock tk sS a) i' → RFs s G G' (0, a) (pblock tk sS a) i i' (rBlockT s tk S sS i i' v a G' ∧ G' 16145 v = plR B s a ∧ G' 16154 v = -2) → Q v G') : PX13_block R (B 16091 (s * 702 + a)) G Q := by
  refine ⟨4000000000, Nat.le_refl _, ?_⟩
  generalize hF : (4000000000 : Nat) = F
  have hs0 := hK.1
  have hs1 := hK.2.1
  have hN : N ≤ 701 := hK.2.2.2.2.1
  have ha0 : 0 ≤ a := h.2.1
  have haN : a < N := h.2.2.1
  have spec : pblock tk sS a = pb (ptake a) (pstmts tk sS 702) := if_pos h2
  have tl := ptake_le (a := a)
  have pn : pneed tk 223 a = ptake a := if_pos h2
  unfold PX13_block_0
  refine rNode hK h h0 (by omega) (fun G1 n1 hR1 f1 => fun _ => rWantSign (k := 223) hK hR1 (Or.inl ⟨by unfold sg; omega, rfl⟩) (fun G2 hR2 f2 => ?_))
  change RM B s N d G2 (pneed tk 223 a) (i + 1) at hR2
  rw [pn] at hR2
  obtain ⟨m0, m1, m2, m3, m4, m5, m6, m7, m8, m9, m10, m11, m12, m13⟩ := n1
  have v2 : ∀ c, 16144 ≤ c → G2 c (s * 1700 + i) = G1 c (s * 1700 + i) := fun c x => XR_n f2 (by omega) x
  have f02 : FR (XR s i) G G2 := FR_tr f1 (FR_XR (by omega) f2)
  by_cases e : (ptake a).1 = 0
  · have e1 := tl.2.2 e
    rw [pb_0 e, e1] at spec
    refine rblk_loop hK hS hI hT 702 F G2 (a + 1) (i + 1) _ (s * 1700 + i) i (-2) Q (by omega) (by omega) (RM_eq hR2 e e1) (by omega) (by omega) rfl h0 (by omega) (Or.inl ⟨rfl, by rw [v2 _ (by omega)]; exact m8⟩) (fun G3 i3 hR3 d1 d2 d3 d4 d5 => ?_)
    rw [← spec] at hR3 d3 d4 d5
    have v3 : ∀ c, 16144 ≤ c → c ≠ 16151 → G3 c (s * 1700 + i) = G1 c (s * 1700 + i) := fun c x y => by rw [d2 _ _ (by unfold XK XR; omega), v2 c x]
    refine hQ _ G3 i3 hR3 ⟨by omega, FR_tr f02 (fun c j x => d2 c j (fun u => x ?_)), fun y => absurd rfl y, by show a ≤ _; omega, by show i3 ≤ i + (_ - a) + 2; omega, fun w => ?_⟩
    · rcases u with u | u | u
      · exact XR_mono (by omega) u
      · unfold XR; omega
      · exact absurd u.2.2 (by decide)
    · obtain ⟨w1, w2, m, w3, w4, w5⟩ := d5 w
      refine ⟨by show i3 ≤ i + (_ - a); omega, by show a < _; omega, ⟨rfl, by omega, by rw [v3 _ (by omega) (by omega)]; exact m1, ?_⟩, by rw [v3 _ (by omega) (by omega)]; exact m2, by rw [v3 _ (by omega) (by omega)]; exact m11⟩
      rw [w4 rfl]; exact w3
  · rw [pb_n e] at spec
    have fl2 : G2 16081 20 ≠ 0 := fun y => e ((RM_fl hR2).mp y)
    unfold PX13_block_17
    refine fun _ => ⟨fun y => absurd y fl2, fun _ => rblk_88 hK hR2 (fun G3 hR3 f3 => ?_)⟩
    rw [pb_n e] at hR3
    exact hQ _ G3 (i + 1) (by rw [spec]; exact hR3) ⟨by omega, FR_tr f02 (FR_XR (by omega) f3), fun y => absurd rfl y, by rw [spec]; exact tl.1, by rw [spec]; show i + 1 ≤ i + ((ptake a).2 - a) + 2; omega, fun w => absurd (by rw [← spec]; exact w) e⟩
end RP13

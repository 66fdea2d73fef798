section LWC
variable {G : gS} {Q : Int → gS → Prop} {t : Int → Int} {n k : Int}
theorem sX9_isSign {c : Int} (hp : sg c → Q 1 G) (hn : ¬ sg c → Q 0 G) : PX9_isSign c G Q := by
  unfold PX9_isSign PX9_isSign_0 PX9_isSign_72 PX9_isSign_77
  unfold sg at hp hn
  have o1 : (0 : Int) ≤ 1 ∧ (1 : Int) ≤ 1 := by omega
  have o0 : (0 : Int) ≤ 0 ∧ (0 : Int) ≤ 1 := by omega
  exact ⟨fun q => ⟨o1, hp (by omega)⟩, fun q1 => ⟨fun q => ⟨o1, hp (by omega)⟩, fun q2 => ⟨fun q => ⟨o1, hp (by omega)⟩, fun q3 => ⟨fun q => ⟨o1, hp (by omega)⟩, fun q4 => ⟨fun q => ⟨o1, hp (by omega)⟩, fun q5 => ⟨fun q => ⟨o1, hp (by omega)⟩, fun q6 => ⟨fun q => ⟨o1, hp (by omega)⟩, fun q7 => ⟨fun q => ⟨o1, hp (by omega)⟩, fun q8 => ⟨fun q => ⟨o1, hp (by omega)⟩, fun q9 => ⟨fun q => ⟨o1, hp (by omega)⟩, fun q10 => ⟨fun q => ⟨o1, hp (by omega)⟩, fun q11 => ⟨fun q => ⟨o1, hp (by omega)⟩, fun q12 => ⟨o0, hn (by omega)⟩⟩⟩⟩⟩⟩⟩⟩⟩⟩⟩⟩⟩
def FS (G G' : gS) (k : Int) : Prop := ∀ c j, ¬ ((9 ≤ c ∧ c ≤ 12) ∧ j = k) → ¬ (c = 7 ∧ j = 5) → G' c j = G c j
-- what one scan gives: a token, or none
def Scd (G G' : gS) (t : Int → Int) (n k i r : Int) : Prop := ∃ a e, Sk t n i a ∧ a < n ∧ CTok t a e (G' 9 k) (G' 12 k) ∧ G' 10 k = a ∧ G' 11 k = e ∧ G' 7 5 = k + 1 ∧ FS G G' k ∧ e ≤ n ∧ a < e ∧ (G' 9 k = 1 → r = -2) ∧ (G' 9 k ≠ 1 → r = e)
theorem scan_end {J : JT} {i a e l4 : Int} {G' : gS} (hb : CB G n k t) (hf : FC G G' k) (k0 : 0 ≤ k) (k1 : k < 703) (hs : Sk t n i a) (ha : a < n) (hc : CTok t a e (G' 9 k) (G' 12 k)) (he : e ≤ n) (hae : a < e) (hQ : ∀ r G'', Scd G G'' t n k i r → Q r G'') : PX9_scan_195 J i a e l4 G' Q := by
  have c := FC_CB hf hb
  obtain ⟨c1, c2, c3, c4⟩ := c
  unfold PX9_scan_195 PX9_scan_246
  rw [c3]
  refine fun _ => ⟨k0, by omega, fun G1 e1 => ?_⟩
  have d1 : G1 7 5 = k := by rw [e1, uG_c (by decide)]; exact c3
  rw [d1]
  refine fun _ => ⟨k0, by omega, fun G2 e2 => ?_⟩
  have d2 : G2 7 5 = k := by rw [e2, uG_c (by decide)]; exact d1
  rw [d2]
  refine fun _ => ⟨by unfold inI; omega, fun G3 e3 => ?_⟩
  have d3 : G3 7 5 = k + 1 := by rw [e3, uG_at]
  rw [d3, show k + 1 - 1 = k by omega]
  have f9 : G3 9 k = G' 9 k := by rw [e3, e2, e1, uG_c (by decide), uG_c (by decide), uG_c (by decide)]
  have f12 : G3 12 k = G' 12 k := by rw [e3, e2, e1, uG_c (by decide), uG_c (by decide), uG_c (by decide)]
  have f10 : G3 10 k = a := by rw [e3, e2, e1, uG_c (by decide), uG_c (by decide), uG_at]
  have f11 : G3 11 k = e := by rw [e3, e2, uG_c (by decide), uG_at]
  have ff : FS G G3 k := fun c j x y => by
    rw [e3, e2, e1, uG_ne (by omega), uG_ne (by omega), uG_ne (by omega)]
    exact hf c j (by omega)
  refine fun _ => ⟨by omega, by omega, fun _ => ⟨fun z => hQ _ _ ⟨a, e, hs, ha, by rw [f9, f12]; exact hc, f10, f11, d3, ff, he, hae, fun _ => rfl, fun y => absurd z y⟩, fun z => hQ _ _ ⟨a, e, hs, ha, by rw [f9, f12]; exact hc, f10, f11, d3, ff, he, hae, fun y => absurd y z, fun _ => rfl⟩⟩⟩
theorem sX9_scan {i : Int} (hb : CB G n k t) (ht : Tx t n) (hw : WC G) (h0 : 0 ≤ i) (h1 : i ≤ n) (k0 : 0 ≤ k) (k1 : k < 703) (hN : Sk t n i n → Q (-2) G) (hQ : ∀ r G', Scd G G' t n k i r → Q r G') : PX9_scan i G Q := by
  have hn := ht.2.1
  have hb' := hb
  obtain ⟨b1, b2, b3, b4⟩ := hb
  refine ⟨4000000000, Nat.le_refl _, ?_⟩
  show PX9_scan_2 (PX9_scan_J 4000000000) i i G Q
  refine lpB (B := BX9_scan) (PJ := PX9_scan_J) (fun _ _ _ _ _ => rfl) (fun m h L G' => h = 0 ∧ G' = G ∧ ∃ l : Int, L = [i, l] ∧ i ≤ l ∧ l ≤ n ∧ (m : Int) = n - l ∧ ∀ j, i ≤ j → j < l → bl (t j)) ?_ 4000000000 (n - i).toNat 0 [i, i] G (by omega) ⟨rfl, rfl, i, rfl, by omega, h1, by omega, fun j _ _ => by omega⟩
  rintro J m h L G' ⟨rfl, e, l, rfl, i1, i2, i3, i4⟩ hj
  subst e
  show PX9_scan_2 J i l _ Q
  have hl := ht.2.2.2 l
  have hl1 := ht.2.2.2 (l + 1)
  have nxt : l < n → bl (t l) → PX9_scan_32 J i l G' Q := fun z y => by
    unfold PX9_scan_32
    refine ⟨by unfold inI; omega, hj (m - 1) 0 _ _ (by omega) ⟨rfl, rfl, l + 1, rfl, by omega, by omega, by omega, fun j a b => ?_⟩⟩
    rcases (show j < l ∨ j = l by omega) with w | w
    · exact i4 j a w
    · rw [w]; exact y
  have tok : (l < n → ¬ bl (t l)) → PX9_scan_38 J i l G' Q := fun y => by
    have hs : Sk t n i l := ⟨i1, i2, i4, y⟩
    unfold PX9_scan_38
    rw [b1, b2]
    refine fun _ => ⟨fun z => ⟨by unfold inI; omega, fun _ => ⟨4000, aC1, by omega, by omega, fun _ => ?_⟩⟩, fun z => hN ⟨by omega, by omega, fun j a b => i4 j a (by omega), fun x => by omega⟩⟩
    rw [b4 l (by omega) z]
    have sign : ¬ isSm t l → ¬ dg (t l) → PX9_scan_107 J i l (l + 1) (t l) G' Q := fun x1 x2 => by
      have put : ∀ (l3 l5 e kd : Int) (J : JT), CTok t l e kd (G' 12 k) → e ≤ n → l < e → PX9_scan_194 J i l e (t l) l5 9 k kd G' Q := fun l3 l5 e kd J a1 a2 a3 => by
        unfold PX9_scan_194
        refine ⟨704, aC9, k0, by omega, fun G1 e1 => ?_⟩
        subst e1
        exact scan_end hb' (FC_up (FC_id _ _) (by omega)) k0 k1 hs z (by rw [uG_at, uG_c (by decide)]; exact a1) a2 a3 hQ
      have ct : ∀ e kd, (t l = 61 ∧ t (l + 1) = 61 → e = l + 2 ∧ kd = 99) → (¬ (t l = 61 ∧ t (l + 1) = 61) → e = l + 1 ∧ (sg (t l) → kd = 100 + t l) ∧ (¬ sg (t l) → kd = 1)) → CTok t l e kd (G' 12 k) := fun e kd c1 c2 => ⟨fun w => absurd w.1 x1, fun w => absurd w x1, fun w => absurd w x2, fun _ _ => ⟨c1, c2⟩⟩
      have no : ¬ (t l = 61 ∧ t (l + 1) = 61) → PX9_scan_142 J i l (l + 1) (t l) 0 G' Q := fun w => by
        unfold PX9_scan_142 PX9_scan_158
        rw [b3]
        refine ⟨fun _ => ⟨by unfold inI; omega, fun _ => ⟨fun _ => sX9_isSign (fun g => fun _ => ⟨fun u => absurd u (by decide), fun _ => ⟨by unfold inI; omega, put (l + 1) 0 (l + 1) (100 + t l) J (ct _ _ (fun v => absurd v w) (fun _ => ⟨rfl, fun _ => rfl, fun v => absurd g v⟩)) (by omega) (by omega)⟩⟩) (fun g => fun _ => ⟨fun _ => put (l + 1) 0 (l + 1) 1 J (ct _ _ (fun v => absurd v w) (fun _ => ⟨rfl, fun v => absurd v g, fun _ => rfl⟩)) (by omega) (by omega), fun u => absurd rfl u⟩), fun u => absurd rfl u⟩⟩, fun u => absurd rfl u⟩
      unfold PX9_scan_107 PX9_scan_141
      rw [b1, b2]
      refine ⟨fun w => fun _ => ⟨by unfold inI; omega, fun v => fun _ => ⟨4000, aC1, by omega, by omega, fun _ => ?_⟩, fun v => no (fun u => ?_)⟩, fun w => no (fun u => w u.1)⟩
      · rw [b4 (l + 1) (by omega) v]
        refine ⟨fun u => ?_, fun u => no (fun u2 => u u2.2)⟩
        unfold PX9_scan_142 PX9_scan_158
        rw [b3]
        exact ⟨fun u2 => absurd u2 (by decide), fun _ => ⟨by unfold inI; omega, fun _ => ⟨fun u2 => absurd u2 (by decide), fun _ => put (l + 1) 1 (l + 2) 99 J (ct _ _ (fun _ => ⟨rfl, rfl⟩) (fun v2 => absurd ⟨w, u⟩ v2)) (by omega) (by omega)⟩⟩⟩
      · have := ht.2.2.1 (l + 1) (by omega)
        omega
    have rest : ¬ isSm t l → PX9_scan_84 J i l (l + 1) (t l) G' Q := fun x1 => by
      unfold PX9_scan_84
      refine ⟨fun w => sign x1 (by unfold dg; omega), fun w => ⟨fun v => sign x1 (by unfold dg; omega), fun v => ?_⟩⟩
      have hd : dg (t l) := by unfold dg; omega
      refine sX9_scanNumber hb' ht (by omega) z k0 (by omega) (fun e kd cd a1 a2 a3 a4 => fun _ => ?_)
      refine scan_end hb' (FC_up (FC_up (FC_id _ _) (by omega)) (by omega)) k0 k1 hs z ?_ a2 ?_ hQ
      · rw [uG_c (c' := 9) (by decide), uG_at, uG_at]
        exact ⟨fun u => absurd u.1 x1, fun u => absurd u x1, fun _ => ⟨a1, a3, a4⟩, fun _ u => absurd hd u⟩
      · rcases (show l < e ∨ l = e by have := a1.1; omega) with u | u
        · exact u
        · have := a1.2.2; rw [← u] at this; exact absurd hd this
    refine ⟨fun w => rest (by unfold isSm; omega), fun w => ⟨fun v => rest (by unfold isSm; omega), fun v => ?_⟩⟩
    have sm : isSm t l := by unfold isSm; omega
    exact sX9_scanName hb' ht hw (by omega) z k0 (by omega) sm (fun e G1 a1 a2 a3 a4 => fun _ => scan_end hb' a2 k0 k1 hs z a1 a3 a4 hQ)
  unfold PX9_scan_2
  rw [b1, b2]
  refine fun _ => ⟨fun z => fun _ => ⟨4000, aC1, by omega, by omega, fun _ => ?_⟩, fun z => tok (fun y => absurd y z)⟩
  rw [b4 l (by omega) z]
  exact ⟨fun y => nxt z (by unfold bl; omega), fun y => fun _ => ⟨4000, aC1, by omega, by omega, fun _ => ⟨fun w => nxt z (by unfold bl; omega), fun w => tok (fun _ => by unfold bl; omega)⟩⟩⟩
end LWC

section LY
-- the reference's text of slot s: n bytes t
def RB (G : gS) (s n : Int) (t : Int → Int) : Prop := G 16081 19 = s ∧ 0 ≤ s ∧ s < 16 ∧ G 16086 s = n ∧ ∀ i, 0 ≤ i → i < n → G 16085 (s * 4000 + i) = t i
variable {G : gS} {Q : Int → gS → Prop} {t : Int → Int} {s n : Int}
theorem sX13_byteAt {a : Int} (hb : RB G s n t) (ht : Tx t n) (h0 : 0 ≤ a) (hQ : Q (t a % 256) G) : PX13_byteAt a G Q := by
  obtain ⟨h1, h2, h3, h4, h5⟩ := hb
  obtain ⟨t1, t2, t3, t4⟩ := ht
  unfold PX13_byteAt PX13_byteAt_0 PX13_byteAt_36
  simp only [h1, h4]
  refine fun _ => ⟨h2, by omega, fun _ => ⟨fun c => fun _ => ⟨by omega, by omega, fun _ => fun _ => ?_⟩, fun c => ?_⟩⟩
  · rw [h5 a h0 c, iand255 (t4 a)]; exact hQ
  · rw [t3 a (by omega)] at hQ; exact hQ
theorem sX13_isSmall {c : Int} (hQ : Q (if 97 ≤ c ∧ c ≤ 122 then 1 else 0) G) : PX13_isSmall c G Q := by
  unfold PX13_isSmall PX13_isSmall_0 PX13_isSmall_16 PX13_isSmall_17
  refine ⟨fun a => ⟨by omega, ?_⟩, fun a => ⟨fun b => ⟨by omega, ?_⟩, fun b => ⟨by omega, ?_⟩⟩⟩
  · rwa [if_neg (by omega)] at hQ
  · rwa [if_neg (by omega)] at hQ
  · rwa [if_pos (by omega)] at hQ
theorem sX13_isGreat {c : Int} (hQ : Q (if 65 ≤ c ∧ c ≤ 90 then 1 else 0) G) : PX13_isGreat c G Q := by
  unfold PX13_isGreat PX13_isGreat_0 PX13_isGreat_16 PX13_isGreat_17
  refine ⟨fun a => ⟨by omega, ?_⟩, fun a => ⟨fun b => ⟨by omega, ?_⟩, fun b => ⟨by omega, ?_⟩⟩⟩
  · rwa [if_neg (by omega)] at hQ
  · rwa [if_neg (by omega)] at hQ
  · rwa [if_pos (by omega)] at hQ
theorem sX13_wordEnd {a : Int} (hb : RB G s n t) (ht : Tx t n) (h0 : 0 ≤ a) (h1 : a ≤ n) (hQ : ∀ e, We t a e → e ≤ n → Q e G) : PX13_wordEnd a G Q := by
  refine ⟨4000000000, Nat.le_refl _, ?_⟩
  have hn := ht.2.1
  refine lpB (B := BX13_wordEnd) (PJ := PX13_wordEnd_J) (fun _ _ _ _ _ => rfl) (fun m h L G' => h = 0 ∧ G' = G ∧ ∃ l : Int, L = [a, l] ∧ a ≤ l ∧ l ≤ n ∧ (m : Int) = n - l ∧ ∀ k, a ≤ k → k < l → sy (t k) ≠ 0) ?_ 4000000000 (n - a).toNat 0 [a, a] G (by omega) ⟨rfl, rfl, a, rfl, by omega, h1, by omega, fun k _ _ => by omega⟩
  rintro J m h L G' ⟨rfl, e, l, rfl, i1, i2, i3, i4⟩ hj
  subst e
  show PX13_wordEnd_2 J a l _ Q
  unfold PX13_wordEnd_2
  refine sX13_byteAt hb ht (by omega) ?_
  intro _
  refine sX13_sym (by omega) ?_
  intro _
  rw [sy_m (ht.2.2.2 l)]
  refine ⟨fun c => hQ l ⟨i1, i4, c⟩ i2, fun c => ⟨by unfold inI; omega, ?_⟩⟩
  have q : l < n := by
    rcases (show l < n ∨ l = n by omega) with q | q
    · exact q
    · rw [q, ht.2.2.1 n (by omega)] at c; exact absurd rfl c
  refine hj (m - 1) 0 _ _ (by omega) ⟨rfl, rfl, l + 1, rfl, by omega, by omega, by omega, fun k a b => ?_⟩
  rcases (show k < l ∨ k = l by omega) with q2 | q2
  · exact i4 k a q2
  · rw [q2]; exact c
end LY

section RP26
variable {B G G' : gS} {s N d i i' a m c j sc lo hi : Int} {tk cd : Int → Int} {q r : RR}
theorem r205_ok {Q : Int → gS → Prop} (hc : 0 ≤ c ∧ c < 216) (hm : 0 ≤ m ∧ m < 7344) (h : RM B s N d G q i) (hj : G 16115 c = j ∧ 0 ≤ j ∧ j ≤ 20) (hs : G 16101 c = sc) (h22 : q.1 = 0 → 0 ≤ G 16122 m ∧ G 16122 m ≤ 1) (hQ : ∀ G', RM B s N d G' q i → (q.1 = 0 → ∃ G1, EfR sc m G G1 ∧ G' = uG G1 16115 c (j + 1)) → (q.1 ≠ 0 → G' = G) → Q 0 G') : PX13_member_205 c m G Q := by
  unfold PX13_member_205 PX13_member_228
  refine fun _ => ⟨fun y => ?_, fun y => hQ G h (fun e => absurd ((RM_fl h).mpr e) y) (fun _ => rfl)⟩
  have e := (RM_fl h).mp y
  refine reff_ok hc hm hs (h22 e) (fun G1 e1 => ⟨hc.1, hc.2, fun _ => ⟨hc.1, hc.2, ?_, fun G2 e2 => ?_⟩⟩)
  · rw [e1.2.2.2.2 _ _ (by omega), hj.1]; unfold inI; omega
  · rw [e1.2.2.2.2 _ _ (by omega), hj.1] at e2
    refine hQ G2 ?_ (fun _ => ⟨G1, e1, e2⟩) (fun u => absurd e u)
    exact RM_fr h (fun x y u => by rw [e2, uG_ne (by omega), e1.2.2.2.2 _ _ (by omega)])
theorem rmember_ok {Q : Int → gS → Prop} (hK : TKp B s N tk cd) (hc : 0 ≤ c ∧ c < 216) (em : m = c * 34 + j) (h : RM B s N 0 G (0, a) i) (h0 : 0 ≤ i) (hi : i ≤ a + 2) (hj : G 16115 c = j ∧ 0 ≤ j ∧ j ≤ 20) (hs : G 16101 c = sc) (hQ : ∀ G' i', RM B s N 0 G' (pitem tk j a) i' → i ≤ i' → FR (XI s i c m) G G' → ((pitem tk j a).1 = 0 → i' ≤ i + ((pitem tk j a).2 - a) ∧ a < (pitem tk j a).2 ∧ G' 16115 c = j + 1 ∧ j < 20 ∧ RmP B s tk sc m j a i i' G') → Q 0 G') : PX13_member c G Q := by
  have hm : 0 ≤ m ∧ m < 7344 := by omega
  have xi : ∀ {G1 G2 : gS}, FR (XM s i m) G1 G2 → FR (XI s i c m) G1 G2 := fun f => FR_mono (fun _ _ u => Or.inl u) f
  unfold PX13_member PX13_member_0
  refine rbegM_ok hK h (fun hb => fun _ => ⟨fun u => absurd u (by decide), fun _ => ?_⟩) (fun hb => fun _ => ⟨fun _ => ?_, fun u => absurd rfl u⟩)
  · rw [hj.1]
    refine ⟨hc.1, hc.2, fun _ => ⟨fun y => ?_, fun y => ⟨hc.1, hc.2, fun _ => ⟨by unfold inI; omega, ?_⟩⟩⟩⟩
    · rw [RM_p h rfl]
      have pit : pitem tk j a = (3, a) := by
        unfold pitem pmember
        rw [if_pos hb, if_neg (by omega)]
        exact pb_n (by show (3 : Int) ≠ 0; decide)
      obtain ⟨r1, r2⟩ := RM_flt (m := 3) h (by decide)
      exact fun _ => rPlace hK h.1 h.2.1 h.2.2.1 (fun _ => rFault ((RM_fl h).mpr rfl) (hQ _ i (by rw [pit]; exact r1) (Int.le_refl _) (xi (XM_r (Int.le_refl _) r2)) (fun w => absurd (by rw [pit] at w; exact w) (by decide : (3 : Int) ≠ 0))))
    have hj20 : j < 20 := by omega
    rw [← em]
    refine rnew_ok hm (fun G1 n1 => ?_)
    obtain ⟨n19, n20, n22, n23, n24, n25, n27, n29, n34, n35, n38, n39, n40, n41, n42, nf⟩ := n1
    have fr1 : FR (XM s i m) G G1 := fun x y z => nf x y (fun u => z (Or.inr (Or.inl ⟨by omega, by omega, by omega, u.2.2.2⟩)))
    have h1 : RM B s N 0 G1 (0, a) i := RM_fr h (fun x y z => nf x y (by omega))
    have hb2 : a ≤ mB0 tk a := by
      unfold mB0 paccess
      split
      · exact (ptake_le).1
      · exact Int.le_refl _
    -- behind all but effects()
    have fin : ∀ G8 i8, RM B s N 0 G8 (pitem tk j a) i8 → i ≤ i8 → FR (XM s i m) G G8 → ((pitem tk j a).1 = 0 → i8 ≤ i + ((pitem tk j a).2 - a) ∧ a < (pitem tk j a).2 ∧ RmQ B s tk m a G8 ∧ RbR B s tk m (kMember tk a) (pmember tk j a).2 i i8 G8) → PX13_member_205 c m G8 Q := fun G8 i8 h8 c1 f8 c3 => by
      have g15 : G8 16115 c = j := by rw [f8 _ _ (by unfold XM XR; omega)]; exact hj.1
      refine r205_ok (sc := sc) hc hm h8 ⟨g15, hj.2⟩ ((f8 _ _ (by unfold XM XR; omega)).trans hs) (fun e => by rw [(c3 e).2.2.1.1.2.2.2.2.1]; exact b01_le _) (fun G9 h9 x1 x2 => hQ G9 i8 h9 c1 ?_ (fun e => ?_))
      · by_cases e : (pitem tk j a).1 = 0
        · obtain ⟨G2, y1, y2⟩ := x1 e
          rw [y2]
          refine FR_up (xi (FR_tr f8 (fun x y z => y1.2.2.2.2 x y (fun u => z (Or.inr (Or.inl ⟨by omega, by omega, by omega, u.2.2⟩)))))) (Or.inr ⟨rfl, rfl⟩)
        · rw [x2 e]; exact xi f8
      · obtain ⟨G2, y1, y2⟩ := x1 e
        obtain ⟨z1, z2, z3, z4⟩ := c3 e
        exact ⟨z1, z2, by rw [y2, uG_at], hj20, by rw [y2]; exact RmQ_P hK.1 h0 z3 z4 y1⟩
    -- behind what lets it
    have acc : ∀ t G2, RM B s N 0 G2 (paccess tk a) i → FR (XR s i) G1 G2 → t = mTold tk a → PX13_member_101 c m 16117 m t G2 Q := fun t G2 h2 f2 et => by
      unfold PX13_member_101
      refine ⟨7344, aC16117, hm.1, hm.2, fun G3 e3 => fun _ => ?_⟩
      have h3 : RM B s N 0 G3 (paccess tk a) i := by rw [e3]; exact RM_put2 h2 (by omega) (by omega)
      have f3 : FR (XM s i m) G G3 := by rw [e3]; exact XM_up (FR_tr fr1 (XM_r (Int.le_refl _) f2)) (by omega) (by omega)
      have v3 : ∀ x, 16116 ≤ x → x ≤ 16142 → x ≠ 16117 → G3 x m = G1 x m := fun x y1 y2 y3 => by rw [e3, uG_c y3, f2 x m (by unfold XR; omega)]
      have v17 : G3 16117 m = mTold tk a := by rw [e3, uG_at]; exact et
      -- a type's words
      have ty : tk a ≠ 23 → ((paccess tk a).1 = 0 → tk (mB0 tk a) ≠ 25) → PX13_member_200 c m G3 Q := fun h23 h25 => by
        unfold PX13_member_200
        obtain ⟨p1, p2⟩ := pitem_ty hb hj20 h23 h25
        by_cases e1 : (paccess tk a).1 = 0
        · rw [pb_0 e1] at p1
          have h3' : RM B s N 0 G3 (0, mB0 tk a) i := RM_eq h3 e1 rfl
          refine rfom_ok hK hm h3' h0 (by omega) (by rw [v3 _ (by omega) (by omega) (by omega)]; exact n29) (by rw [v3 _ (by omega) (by omega) (by omega)]; exact n34) (by rw [v3 _ (by omega) (by omega) (by omega)]; exact n35) (fun G4 i4 h4 c1 c2 c3 => fin G4 i4 (by rw [p1]; exact h4) c1 (FR_tr f3 c2) (fun w => ?_))
          have w' : (pdc tk (mB0 tk a)).1 = 0 := by rw [p1] at w; exact w
          obtain ⟨u1, u2, u3⟩ := c3 w'
          have p1' : (pitem tk j a).2 = (pdc tk (mB0 tk a)).2 := by rw [p1]; rfl
          rw [p2 w]
          refine ⟨by omega, by omega, RmQ_typed h23 (h25 e1) w' v17 (fun x y1 y2 y3 => v3 x (by omega) (by omega) (by omega)) ⟨n23, n24, n27, n38, n39, n40, n41, n42⟩ u3⟩
        · rw [pb_n e1] at p1
          exact rfom_bad hK hm h3 e1 (fun G4 h4 f4 => fin G4 i (by rw [p1]; exact h4) (Int.le_refl _) (FR_tr f3 f4) (fun w => absurd (by rw [← p1]; exact w) e1))
      by_cases e1 : (paccess tk a).1 = 0
      · have h3' : RM B s N 0 G3 (0, mB0 tk a) i := RM_eq h3 e1 rfl
        refine ⟨fun _ => ?_, fun u => absurd ((RM_fl h3).mpr e1) u⟩
        -- a BLOCK at q
        have body : ∀ q G7, RM B s N 0 G7 q i → FR (XM s i m) G G7 → pitem tk j a = pb q (pB tk 12) → (pmember tk j a).2 = q.2 → kMember tk a = 223 → a ≤ q.2 → (q.1 = 0 → a ≤ q.2 ∧ RmQ B s tk m a G7 ∧ G7 16134 m = -2) → PX13_member_192 c m G7 Q := fun q G7 h7 f7 x1 x2 x3 x40 x4 => by
          unfold PX13_member_192
          refine rbody_ok hK hm h7 h0 (fun e => by have := x4 e; omega) (fun G8 i8 h8 c1 c2 c3 c4 c5 c6 c7 => fin G8 i8 (by rw [x1]; exact h8) c1 (FR_tr f7 c2) (fun w => ?_))
          rw [x1] at w
          obtain ⟨y1, y2, y3, y4, y5⟩ := c7 w
          obtain ⟨z1, z2, z3⟩ := x4 (pb_z w).1
          rw [x1, x2, x3]
          refine ⟨by omega, by omega, RmQ_F z2 (fun x u1 u2 u3 => c6 x m u1 u2 (by omega)) (fun x y u1 u2 _ _ => c6 x y (by omega) (by omega) (by omega)), fun u => absurd u (by decide), fun _ => ⟨by rw [c6 _ _ (by omega) (by omega) (by omega)]; exact z3, y3, y4.trans (by rw [pb_0 (pb_z w).1]), y5⟩, fun u => absurd u (by decide)⟩
        have mid : ∀ kd, ((kd = 2 ∧ tk a ≠ 23 ∧ tk (mB0 tk a) = 25) ∨ (kd = 3 ∧ tk a = 23 ∧ mB0 tk a = a)) → PX13_member_158 c m 16116 m kd G3 Q := fun kd hk => by
          have ekd : kd = mKd tk a := by
            unfold mKd
            rcases hk with k | k
            · rw [if_neg k.2.1, if_pos k.2.2]; exact k.1
            · rw [if_pos k.2.1]; exact k.1
          unfold PX13_member_158
          refine ⟨7344, aC16116, hm.1, hm.2, fun G4 e4 => ?_⟩
          have h4 : RM B s N 0 G4 (0, mB0 tk a) i := by rw [e4]; exact RM_put2 h3' (by omega) (by omega)
          rw [RM_p h4 rfl]
          refine fun _ => rPlace hK h4.1 h4.2.1 h4.2.2.1 (fun _ => ⟨hm.1, hm.2, fun G5 e5 => ?_⟩)
          have h5 : RM B s N 0 G5 (0, mB0 tk a) i := by rw [e5]; exact RM_put2 h4 (by omega) (by omega)
          have n01 : tk (mB0 tk a) ≠ 0 ∧ tk (mB0 tk a) ≠ 1 := by
            rcases hk with k | k
            · omega
            · rw [k.2.2]; omega
          refine rStep hK h5 (fun _ => n01) (fun G6 h6 f6 => ⟨hm.1, hm.2, fun _ => ?_⟩)
          change RM B s N 0 G6 (ptake (mB0 tk a)) i at h6
          have w6 : ∀ x, 16116 ≤ x → x ≤ 16142 → x ≠ 16116 → x ≠ 16126 → G6 x m = G3 x m := fun x y1 y2 y3 y4 => by rw [f6 x m (by unfold XR; omega), e5, uG_c y4, e4, uG_c y3]
          have f5 : FR (XM s i m) G G6 := by
            refine FR_tr ?_ (XM_r (Int.le_refl _) f6)
            rw [e5, e4]; exact XM_up (XM_up f3 (by omega) (by omega)) (by omega) (by omega)
          have v16 : G6 16116 m = kd := by rw [f6 _ _ (by unfold XR; omega), e5, uG_c (by omega), e4, uG_at]
          have v26 : G6 16126 m = plR B s (mB0 tk a) := by rw [f6 _ _ (by unfold XR; omega), e5, uG_at]; rfl
          have tld := ptake_le (a := mB0 tk a)
          have k2 : ¬ mKd tk a < 2 := by omega
          have k1 : ¬ mKd tk a = 1 := by omega
          have k0 : ¬ (mKd tk a < 2 ∧ tk (tMember tk a) ≠ 24) := fun u => k2 u.1
          have t22 : ¬ tk (mB0 tk a) = 22 := by
            rcases hk with k | k
            · omega
            · rw [k.2.2]; omega
          have eC : mC0 tk a = mB0 tk a := by
            unfold mC0 popt
            rw [if_neg t22]
          have t20 : ¬ tk (mC0 tk a) = 20 ∧ ¬ tk (mC0 tk a) = 21 := by
            rw [eC]
            rcases hk with k | k
            · omega
            · rw [k.2.2]; omega
          have g6 : ∀ x, 16119 ≤ x → x ≤ 16142 → x ≠ 16126 → G6 x m = G1 x m := fun x y1 y2 y3 => by rw [w6 x (by omega) y2 (by omega) y3, v3 x (by omega) y2 (by omega)]
          have rq : ∀ G7, (∀ x, 16116 ≤ x → x ≤ 16142 → ¬ (16129 ≤ x ∧ x ≤ 16133) → G7 x m = G6 x m) → ParR B s tk m 0 (if mKd tk a = 2 then lPar tk (mB0 tk a + 1) else 0) (mB0 tk a + 2) G7 → (mKd tk a = 2 → 0 ≤ lPar tk (mB0 tk a + 1) ∧ lPar tk (mB0 tk a + 1) ≤ 4) → RmQ B s tk m a G7 ∧ G7 16134 m = -2 := fun G7 g7 y1 y2 => by
            have gg : ∀ x, 16119 ≤ x → x ≤ 16142 → x ≠ 16126 → ¬ (16129 ≤ x ∧ x ≤ 16133) → G7 x m = G1 x m := fun x u1 u2 u3 u4 => by rw [g7 x (by omega) u2 u4, g6 x u1 u2 u3]
            refine ⟨?_, by rw [gg _ (by omega) (by omega) (by omega) (by omega)]; exact n34⟩
            unfold RmQ
            rw [if_neg k2, if_neg k2, if_neg k1, if_neg k1, if_neg k0]
            refine ⟨⟨by rw [g7 _ (by omega) (by omega) (by omega), v16]; exact ekd, by rw [g7 _ (by omega) (by omega) (by omega), w6 _ (by omega) (by omega) (by omega) (by omega)]; exact v17, ?_, ?_, ?_, ?_, ?_⟩, ⟨?_, by rw [g7 _ (by omega) (by omega) (by omega)]; exact v26, ?_, fun u => absurd u k2⟩, ⟨y1, fun u => absurd u k1, y2⟩, ?_, ?_, ?_, ?_, ?_⟩
            · rw [gg _ (by omega) (by omega) (by omega) (by omega), n19]; unfold b01; rw [if_neg t22]
            · rw [gg _ (by omega) (by omega) (by omega) (by omega), n20]; unfold b01; rw [if_neg t20.1]
            · rw [gg _ (by omega) (by omega) (by omega) (by omega), n22]; unfold b01; rw [if_neg t20.2]
            · rw [gg _ (by omega) (by omega) (by omega) (by omega)]; exact n23
            · rw [gg _ (by omega) (by omega) (by omega) (by omega)]; exact n24
            · rw [gg _ (by omega) (by omega) (by omega) (by omega)]; exact n25
            · rw [gg _ (by omega) (by omega) (by omega) (by omega)]; exact n27
            · rw [gg _ (by omega) (by omega) (by omega) (by omega)]; exact n38
            · rw [gg _ (by omega) (by omega) (by omega) (by omega)]; exact n39
            · rw [gg _ (by omega) (by omega) (by omega) (by omega)]; exact n40
            · rw [gg _ (by omega) (by omega) (by omega) (by omega)]; exact n41
            · rw [gg _ (by omega) (by omega) (by omega) (by omega)]; exact n42
          have v29 : G6 16129 m = 0 := by rw [g6 _ (by omega) (by omega) (by omega)]; exact n29
          rw [v16]
          rcases hk with k | k
          · refine ⟨fun _ => ?_, fun u => absurd k.1 u⟩
            obtain ⟨p1, p2, p3⟩ := pitem_mk hb hj20 k.2.1 e1 k.2.2
            have hle : mB0 tk a ≤ (pb (ptake (mB0 tk a)) (pparams tk)).2 := Int.le_trans tld.1 (pb_le2 (fun b => pparams_le (tk := tk) b))
            refine rparams_ok hK hm h6 v29 (fun G7 h7 f7 hP => body _ G7 h7 (FR_tr f5 (XM_p (Int.le_refl _) f7)) p1 p2 p3 (by omega) (fun e => ⟨by omega, ?_⟩))
            obtain ⟨y1, y2⟩ := hP e
            obtain ⟨z1, z2⟩ := pb_z e
            have ed := tld.2.2 z1
            rw [ed] at y1 y2 z2
            refine rq G7 (fun x u1 u2 u3 => f7 x m (by unfold XP XR; omega)) ?_ (fun _ => lPar_5 z2)
            rw [if_pos (by omega), show mB0 tk a + 2 = mB0 tk a + 1 + 1 by omega]; exact y1
          · refine ⟨fun u => by omega, fun _ => ?_⟩
            obtain ⟨p1, p2, p3⟩ := pitem_st (tk := tk) hj20 k.2.1
            rw [← k.2.2] at p1
            have p2' : (pmember tk j a).2 = (ptake (mB0 tk a)).2 := by rw [p2, k.2.2]
            refine body _ G6 h6 f5 (by rw [← p1, k.2.2]) p2' p3 (by omega) (fun e => ⟨by omega, rq G6 (fun _ _ _ _ => rfl) ?_ (fun u => by omega)⟩)
            rw [if_neg (by omega)]
            exact ⟨by rw [v29]; omega, fun x x0 x1 => by omega⟩
        have go138 : tk (mB0 tk a) = 25 ∨ (tk a = 23 ∧ mB0 tk a = a) → PX13_member_138 c m G3 Q := fun hk => by
          unfold PX13_member_138
          refine rWd hK h3' rfl wo43 (fun z => fun _ => ⟨fun u => absurd u (by decide), fun _ => mid 2 (Or.inl ⟨rfl, ?_, z⟩)⟩) (fun z => fun _ => ⟨fun _ => mid 3 (Or.inr ⟨rfl, ?_⟩), fun u => absurd rfl u⟩)
          · intro u
            have eb : mB0 tk a = a := by unfold mB0 paccess; rw [if_neg (by omega)]
            change tk (mB0 tk a) = 25 at z
            rw [eb] at z; omega
          · rcases hk with k | k
            · exact absurd k z
            · exact k
        refine rWd hK h3' rfl wo43 (fun z25 => fun _ => ⟨fun u => absurd u (by decide), fun _ => go138 (Or.inl z25)⟩) (fun z25 => fun _ => ⟨fun _ => ⟨hm.1, hm.2, fun _ => ?_⟩, fun u => absurd rfl u⟩)
        change tk (mB0 tk a) ≠ 25 at z25
        rw [v17]
        refine ⟨fun u => ?_, fun u => ty (fun y => u ?_) (fun _ => z25)⟩
        · have eb : mB0 tk a = a := by
            unfold mB0 paccess
            rw [if_neg ?_]
            unfold mTold at u
            intro y
            split at u
            · omega
            · split at u
              · omega
              · split at u
                · omega
                · omega
          refine rWd hK h3' rfl wo44 (fun z23 => fun _ => ⟨fun u => absurd u (by decide), fun _ => go138 (Or.inr ⟨?_, eb⟩)⟩) (fun z23 => fun _ => ⟨fun _ => ty ?_ (fun _ => z25), fun u => absurd rfl u⟩)
          · change tk (mB0 tk a) = 23 at z23
            rw [eb] at z23; exact z23
          · change tk (mB0 tk a) ≠ 23 at z23
            rw [eb] at z23; exact z23
        · unfold mTold
          rw [if_neg (by omega), if_neg (by omega), if_neg (by omega)]
      · refine ⟨fun u => absurd ((RM_fl h3).mp u) e1, fun _ => ty (fun u => e1 ?_) (fun u => absurd u e1)⟩
        unfold paccess
        rw [if_neg (by omega)]
    -- open, kin, own
    have pt : (17 ≤ tk a ∧ tk a ≤ 19) → paccess tk a = ptake a := fun y => if_pos y
    refine rTakes hK h1 wo30 (fun _ z G2 h2 f2 => fun _ => ⟨fun u => absurd u (by decide), fun _ => ?_⟩) (fun z17 => fun _ => ⟨fun _ => ?_, fun u => absurd rfl u⟩)
    · change tk a = 17 at z
      exact acc 1 G2 (by rw [pt (by omega)]; exact h2) f2 (by unfold mTold; rw [if_pos z])
    refine rTakes hK h1 wo40 (fun _ z G2 h2 f2 => fun _ => ⟨fun u => absurd u (by decide), fun _ => ?_⟩) (fun z18 => fun _ => ⟨fun _ => ?_, fun u => absurd rfl u⟩)
    · change tk a = 18 at z
      exact acc 2 G2 (by rw [pt (by omega)]; exact h2) f2 (by unfold mTold; rw [if_neg (by omega), if_pos z])
    refine rTakes hK h1 wo41 (fun _ z G2 h2 f2 => fun _ => ⟨fun u => absurd u (by decide), fun _ => ?_⟩) (fun z19 => fun _ => ⟨fun _ => ?_, fun u => absurd rfl u⟩)
    · change tk a = 19 at z
      exact acc 3 G2 (by rw [pt (by omega)]; exact h2) f2 (by unfold mTold; rw [if_neg (by omega), if_neg (by omega), if_pos z])
    have z17 := z17 rfl
    have z18 := z18 rfl
    have z19 := z19 rfl
    change tk a ≠ 17 at z17
    change tk a ≠ 18 at z18
    change tk a ≠ 19 at z19
    exact acc 0 G1 (by unfold paccess; rw [if_neg (by omega)]; exact h1) FR_id (by unfold mTold; rw [if_neg z17, if_neg z18, if_neg z19])
  · have pit : pitem tk j a = pmiss tk a := by
      unfold pitem pmember
      rw [if_neg hb]
      exact pb_n (pmiss_ne _)
    refine rWrong hK h (fun G1 h1 f1 => hQ G1 i (by rw [pit]; exact h1) (Int.le_refl _) (xi (XM_r (Int.le_refl _) f1)) (fun w => absurd (by rw [pit] at w; exact w) (pmiss_ne _)))
end RP26

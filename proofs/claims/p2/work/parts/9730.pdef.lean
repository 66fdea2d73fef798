section DE
def PX0_ends_140 (R : Nat → List Int → gS → (Int → gS → Prop) → Prop) (J : Nat → List Int → gS → (Int → gS → Prop) → Prop) (l0 : Int) (s0 : Int) (G : gS) (Q : Int → gS → Prop) : Prop :=
  ((0 ≤ s0 ∧ s0 ≤ 1) ∧ Q (s0) G)
def PX0_ends_135 (R : Nat → List Int → gS → (Int → gS → Prop) → Prop) (J : Nat → List Int → gS → (Int → gS → Prop) → Prop) (l0 : Int) (G : gS) (Q : Int → gS → Prop) : Prop :=
  PX0_ends_140 R J l0 1 G Q
def PX0_ends_114 (R : Nat → List Int → gS → (Int → gS → Prop) → Prop) (J : Nat → List Int → gS → (Int → gS → Prop) → Prop) (l0 : Int) (s0 : Int) (G : gS) (Q : Int → gS → Prop) : Prop :=
  ((0 ≤ s0 ∧ s0 ≤ 1) ∧ Q (s0) G)
def PX0_ends_109 (R : Nat → List Int → gS → (Int → gS → Prop) → Prop) (J : Nat → List Int → gS → (Int → gS → Prop) → Prop) (l0 : Int) (G : gS) (Q : Int → gS → Prop) : Prop :=
  PX0_ends_114 R J l0 1 G Q
def PX0_ends_59 (R : Nat → List Int → gS → (Int → gS → Prop) → Prop) (J : Nat → List Int → gS → (Int → gS → Prop) → Prop) (l0 : Int) (l1 : Int) (G : gS) (Q : Int → gS → Prop) : Prop :=
  ((l1 < 0 → Q (1) G) ∧ (0 ≤ l1 → R 0 [l1] G (fun r30 G29 => (0 ≤ r30 ∧ r30 ≤ 1) → ((r30 = 0 → Q (0) G29) ∧ (¬ (r30 = 0) → (isO W0 8 (l1) ∧ ((G29 l1 8 = -1 ∨ isO W0 8 (G29 l1 8)) → J 0 [l0, G29 l1 8] G29 Q)))))))
def PX0_ends_0 (R : Nat → List Int → gS → (Int → gS → Prop) → Prop) (J : Nat → List Int → gS → (Int → gS → Prop) → Prop) (a0 : Int) (G : gS) (Q : Int → gS → Prop) : Prop :=
  ((a0 < 0 → Q (1) G) ∧ (0 ≤ a0 → (isO W0 8 (a0) ∧ (inI (G a0 0) → ((G a0 0 = 30 → ((G a0 5 = -1 ∨ isO W0 8 (G a0 5)) → PX0_ends_59 R J a0 (G a0 5) G Q)) ∧ (G a0 0 = 31 → Q (1) G) ∧ (G a0 0 = 32 → ((G a0 7 = -1 ∨ isO W0 8 (G a0 7)) → ((G a0 7 < 0 → PX0_ends_109 R J a0 G Q) ∧ (0 ≤ G a0 7 → ((G a0 6 = -1 ∨ isO W0 8 (G a0 6)) → R 0 [G a0 6] G (fun r10 G9 => (0 ≤ r10 ∧ r10 ≤ 1) → ((r10 = 0 → ((G9 a0 7 = -1 ∨ isO W0 8 (G9 a0 7)) → R 0 [G9 a0 7] G9 (fun r15 G14 => (0 ≤ r15 ∧ r15 ≤ 1) → ((r15 = 0 → PX0_ends_114 R J a0 0 G14 Q) ∧ (¬ (r15 = 0) → PX0_ends_109 R J a0 G14 Q))))) ∧ (¬ (r10 = 0) → PX0_ends_109 R J a0 G9 Q)))))))) ∧ (G a0 0 = 33 → Q (1) G) ∧ (G a0 0 = 34 → Q (0) G) ∧ (G a0 0 = 35 → Q (0) G) ∧ (G a0 0 = 36 → ((G a0 5 = -1 ∨ isO W0 8 (G a0 5)) → R 0 [G a0 5] G (fun r20 G19 => (0 ≤ r20 ∧ r20 ≤ 1) → ((r20 = 0 → ((G19 a0 6 = -1 ∨ isO W0 8 (G19 a0 6)) → R 0 [G19 a0 6] G19 (fun r25 G24 => (0 ≤ r25 ∧ r25 ≤ 1) → ((r25 = 0 → PX0_ends_140 R J a0 0 G24 Q) ∧ (¬ (r25 = 0) → PX0_ends_135 R J a0 G24 Q))))) ∧ (¬ (r20 = 0) → PX0_ends_135 R J a0 G19 Q))))) ∧ ((G a0 0 < 30 ∨ 37 ≤ G a0 0) → Q (1) G))))))
def PX0_ends_J (R : Nat → List Int → gS → (Int → gS → Prop) → Prop) : Nat → Nat → List Int → gS → (Int → gS → Prop) → Prop
  | 0, _, _, _, _ => False
  | f + 1, h, L, G, Q => match h, L with
    | 0, [l0, l1] => PX0_ends_59 R (PX0_ends_J R f) l0 l1 G Q
    | _, _ => False
def PX0_ends (R : Nat → List Int → gS → (Int → gS → Prop) → Prop) (a0 : Int) (G : gS) (Q : Int → gS → Prop) : Prop := ∃ f : Nat, f ≤ 4000000000 ∧ PX0_ends_0 R (PX0_ends_J R f) a0 G Q
def Rq0 : Nat → Nat → List Int → gS → (Int → gS → Prop) → Prop
  | 0, _, _, _, _ => False
  | n + 1, i, L, G, Q => match i, L with
    | 0, [a0] => PX0_ends (Rq0 n) a0 G Q
    | _, _ => False
def PX0_behind_217 (R : Nat → List Int → gS → (Int → gS → Prop) → Prop) (l1 : Int) (l2 : Int) (l3 : Int) (l5 : Int) (l6 : Int) (s0 : Int) (G : gS) (Q : Int → gS → Prop) : Prop :=
  ((0 ≤ s0 ∧ s0 ≤ 1) ∧ Q (s0) G)
def PX0_behind_216 (R : Nat → List Int → gS → (Int → gS → Prop) → Prop) (l1 : Int) (l2 : Int) (l3 : Int) (l5 : Int) (l6 : Int) (G : gS) (Q : Int → gS → Prop) : Prop :=
  PX0_behind_217 R l1 l2 l3 l5 l6 0 G Q
def PX0_behind_178 (R : Nat → List Int → gS → (Int → gS → Prop) → Prop) (l1 : Int) (l2 : Int) (l3 : Int) (l5 : Int) (l6 : Int) (s0 : Int) (G : gS) (Q : Int → gS → Prop) : Prop :=
  ((0 ≤ s0 ∧ s0 ≤ 1) ∧ Q (s0) G)
def PX0_behind_177 (R : Nat → List Int → gS → (Int → gS → Prop) → Prop) (l1 : Int) (l2 : Int) (l3 : Int) (l5 : Int) (l6 : Int) (G : gS) (Q : Int → gS → Prop) : Prop :=
  PX0_behind_178 R l1 l2 l3 l5 l6 0 G Q
def PX0_behind_163 (R : Nat → List Int → gS → (Int → gS → Prop) → Prop) (l1 : Int) (l2 : Int) (l3 : Int) (l5 : Int) (l6 : Int) (G : gS) (Q : Int → gS → Prop) : Prop :=
  PX0_statics l2 0 1 G (fun r67 G66 => (0 ≤ r67 ∧ r67 ≤ 1) → ((r67 = 0 → PX0_behind_177 R l1 l2 l3 l5 l6 G66 Q) ∧ (¬ (r67 = 0) → PX0_behind_178 R l1 l2 l3 l5 l6 1 G66 Q)))
def PX0_behind_86 (R : Nat → List Int → gS → (Int → gS → Prop) → Prop) (l1 : Int) (l2 : Int) (l3 : Int) (G : gS) (Q : Int → gS → Prop) : Prop :=
  (isO W0 8 (l1) ∧ (inI (G l1 1) → PX0_fail 13 (G l1 1) G (fun r64 G63 => (0 ≤ r64 ∧ r64 ≤ 1) → Q (r64) G63)))
def PX0_behind_48 (R : Nat → List Int → gS → (Int → gS → Prop) → Prop) (l1 : Int) (l2 : Int) (l3 : Int) (s0 : Int) (G : gS) (Q : Int → gS → Prop) : Prop :=
  ((0 ≤ s0 ∧ s0 ≤ 1) ∧ Q (s0) G)
def PX0_behind_47 (R : Nat → List Int → gS → (Int → gS → Prop) → Prop) (l1 : Int) (l2 : Int) (l3 : Int) (G : gS) (Q : Int → gS → Prop) : Prop :=
  PX0_behind_48 R l1 l2 l3 0 G Q
def PX0_behind_0 (R : Nat → List Int → gS → (Int → gS → Prop) → Prop) (a1 : Int) (a2 : Int) (a3 : Int) (G : gS) (Q : Int → gS → Prop) : Prop :=
  (isO W0 8 (a2) ∧ (inI (G a2 0) → ((G a2 0 = 16 → (∀ G4 : gS, G4 = uG G a2 9 (-1) → (inL (G4 a2 10) → (inI (G4 a2 2) → PX0_named (G4 a2 10) (G4 a2 2) G4 (fun r8 G7 => inI r8 → ((r8 < 0 → PX0_behind_47 R a1 a2 a3 G7 Q) ∧ (¬ (r8 < 0) → (isO W0 8 (a1) ∧ (inI (G7 a1 1) → PX0_isObject a3 (G7 a1 1) G7 (fun r14 G13 => (0 ≤ r14 ∧ r14 ≤ 1) → ((r14 = 0 → PX0_behind_47 R a1 a2 a3 G13 Q) ∧ (¬ (r14 = 0) → PX0_behind_48 R a1 a2 a3 1 G13 Q)))))))))))) ∧ (¬ (G a2 0 = 16) → ((G a2 5 = -1 ∨ isO W0 8 (G a2 5)) → R 4 [G a2 5] G (fun r19 G18 => (0 ≤ r19 ∧ r19 ≤ 1) → ((r19 = 0 → Q (0) G18) ∧ (¬ (r19 = 0) → ((a3 = -1 → PX0_behind_86 R a1 a2 a3 G18 Q) ∧ (¬ (a3 = -1) → ((a3 = -3 → PX0_behind_86 R a1 a2 a3 G18 Q) ∧ (¬ (a3 = -3) → ((a3 = -2 → PX0_behind_86 R a1 a2 a3 G18 Q) ∧ (¬ (a3 = -2) → ((G18 815 0 = -1 ∨ isO W0 11 (G18 815 0)) → (isO W0 11 (G18 815 0) ∧ PX11_find (G18 815 0) a3 G18 (fun r28 G27 => inI r28 → ((G27 815 2 = -1 ∨ isO W0 9 (G27 815 2)) → (isO W0 9 (G27 815 2) ∧ (inI (G27 a2 2) → ((0 : Int) ≤ G27 a2 2 ∧ ((G27 a2 2 : Int) < 704 ∧ (inL (G27 12 (G27 a2 2)) → (inI (G27 a2 0) → ((G27 a2 0 = 14 → ((r28 < 0 → (inI (G27 a2 2) → PX0_fail 11 (G27 a2 2) G27 (fun r41 G40 => (0 ≤ r41 ∧ r41 ≤ 1) → ((r41 = 0 → PX0_behind_177 R a1 a2 a3 r28 (G27 12 (G27 a2 2)) G40 Q) ∧ (¬ (r41 = 0) → PX0_behind_163 R a1 a2 a3 r28 (G27 12 (G27 a2 2)) G40 Q))))) ∧ (¬ (r28 < 0) → PX0_field a2 r28 (G27 12 (G27 a2 2)) G27 (fun r45 G44 => (0 ≤ r45 ∧ r45 ≤ 1) → ((r45 = 0 → PX0_behind_177 R a1 a2 a3 r28 (G27 12 (G27 a2 2)) G44 Q) ∧ (¬ (r45 = 0) → PX0_behind_163 R a1 a2 a3 r28 (G27 12 (G27 a2 2)) G44 Q)))))) ∧ (¬ (G27 a2 0 = 14) → ((G27 a2 5 = -1 ∨ isO W0 8 (G27 a2 5)) → PX0_meant r28 (G27 12 (G27 a2 2)) (G27 a2 5) 0 G27 (fun r50 G49 => PX0_calls a2 r28 r50 G49 (fun r53 G52 => (0 ≤ r53 ∧ r53 ≤ 1) → ((r53 = 0 → PX0_behind_216 R a1 a2 a3 r28 (G27 12 (G27 a2 2)) G52 Q) ∧ (¬ (r53 = 0) → PX0_statics a2 0 1 G52 (fun r57 G56 => (0 ≤ r57 ∧ r57 ≤ 1) → ((r57 = 0 → PX0_behind_216 R a1 a2 a3 r28 (G27 12 (G27 a2 2)) G56 Q) ∧ (¬ (r57 = 0) → PX0_behind_217 R a1 a2 a3 r28 (G27 12 (G27 a2 2)) 1 G56 Q))))))))))))))))))))))))))))))))))
abbrev PX0_behind (R : Nat → List Int → gS → (Int → gS → Prop) → Prop) (a1 : Int) (a2 : Int) (a3 : Int) (G : gS) (Q : Int → gS → Prop) : Prop := PX0_behind_0 R a1 a2 a3 G Q
def PX0_chain_71 (R : Nat → List Int → gS → (Int → gS → Prop) → Prop) (J : Nat → List Int → gS → (Int → gS → Prop) → Prop) (l1 : Int) (l2 : Int) (l3 : Int) (G : gS) (Q : Int → gS → Prop) : Prop :=
  PX0_wanted l3 (-1) G (fun r26 G25 => (0 ≤ r26 ∧ r26 ≤ 1) → ((r26 = 0 → Q (0) G25) ∧ (¬ (r26 = 0) → (isO W0 8 (l3) ∧ ((G25 l3 8 = -1 ∨ isO W0 8 (G25 l3 8)) → J 0 [l1, 0, G25 l3 8] G25 Q)))))
def PX0_chain_37 (R : Nat → List Int → gS → (Int → gS → Prop) → Prop) (J : Nat → List Int → gS → (Int → gS → Prop) → Prop) (l1 : Int) (l2 : Int) (l3 : Int) (G : gS) (Q : Int → gS → Prop) : Prop :=
  ((l3 < 0 → Q (1) G) ∧ (0 ≤ l3 → R 3 [l3] G (fun r15 G14 => (0 ≤ r15 ∧ r15 ≤ 1) → ((r15 = 0 → Q (0) G14) ∧ (¬ (r15 = 0) → ((l2 = 0 → PX0_chain_71 R J l1 l2 l3 G14 Q) ∧ (¬ (l2 = 0) → (isO W0 8 (l1) ∧ ((G14 l1 5 = -1 ∨ isO W0 8 (G14 l1 5)) → PX0_wanted (G14 l1 5) (-1) G14 (fun r22 G21 => (0 ≤ r22 ∧ r22 ≤ 1) → ((r22 = 0 → Q (0) G21) ∧ (¬ (r22 = 0) → PX0_chain_71 R J l1 l2 l3 G21 Q))))))))))))
def PX0_chain_25 (R : Nat → List Int → gS → (Int → gS → Prop) → Prop) (J : Nat → List Int → gS → (Int → gS → Prop) → Prop) (l1 : Int) (G : gS) (Q : Int → gS → Prop) : Prop :=
  Q (0) G
def PX0_chain_0 (R : Nat → List Int → gS → (Int → gS → Prop) → Prop) (J : Nat → List Int → gS → (Int → gS → Prop) → Prop) (a1 : Int) (G : gS) (Q : Int → gS → Prop) : Prop :=
  (isO W0 8 (a1) ∧ (∀ G2 : gS, G2 = uG G a1 9 (-1) → ((G2 a1 5 = -1 ∨ isO W0 8 (G2 a1 5)) → ((G2 a1 5 < 0 → PX0_chain_25 R J a1 G2 Q) ∧ (0 ≤ G2 a1 5 → ((G2 a1 5 = -1 ∨ isO W0 8 (G2 a1 5)) → R 3 [G2 a1 5] G2 (fun r7 G6 => (0 ≤ r7 ∧ r7 ≤ 1) → ((r7 = 0 → PX0_chain_25 R J a1 G6 Q) ∧ (¬ (r7 = 0) → ((G6 a1 5 = -1 ∨ isO W0 8 (G6 a1 5)) → (isO W0 8 (G6 a1 5) ∧ ((G6 (G6 a1 5) 8 = -1 ∨ isO W0 8 (G6 (G6 a1 5) 8)) → PX0_chain_37 R J a1 1 (G6 (G6 a1 5) 8) G6 Q))))))))))))
def PX0_chain_J (R : Nat → List Int → gS → (Int → gS → Prop) → Prop) : Nat → Nat → List Int → gS → (Int → gS → Prop) → Prop
  | 0, _, _, _, _ => False
  | f + 1, h, L, G, Q => match h, L with
    | 0, [l1, l2, l3] => PX0_chain_37 R (PX0_chain_J R f) l1 l2 l3 G Q
    | _, _ => False
def PX0_chain (R : Nat → List Int → gS → (Int → gS → Prop) → Prop) (a1 : Int) (G : gS) (Q : Int → gS → Prop) : Prop := ∃ f : Nat, f ≤ 4000000000 ∧ PX0_chain_0 R (PX0_chain_J R f) a1 G Q
def PX0_compare_193 (R : Nat → List Int → gS → (Int → gS → Prop) → Prop) (l1 : Int) (s0 : Int) (G : gS) (Q : Int → gS → Prop) : Prop :=
  ((0 ≤ s0 ∧ s0 ≤ 1) ∧ Q (s0) G)
def PX0_compare_188 (R : Nat → List Int → gS → (Int → gS → Prop) → Prop) (l1 : Int) (G : gS) (Q : Int → gS → Prop) : Prop :=
  PX0_compare_193 R l1 1 G Q
def PX0_compare_172 (R : Nat → List Int → gS → (Int → gS → Prop) → Prop) (l1 : Int) (G : gS) (Q : Int → gS → Prop) : Prop :=
  (isO W0 8 (l1) ∧ ((G l1 6 = -1 ∨ isO W0 8 (G l1 6)) → (isO W0 8 (G l1 6) ∧ (inI (G (G l1 6) 1) → PX0_fail 13 (G (G l1 6) 1) G (fun r53 G52 => (0 ≤ r53 ∧ r53 ≤ 1) → ((r53 = 0 → PX0_compare_193 R l1 0 G52 Q) ∧ (¬ (r53 = 0) → PX0_compare_188 R l1 G52 Q)))))))
def PX0_compare_169 (R : Nat → List Int → gS → (Int → gS → Prop) → Prop) (l1 : Int) (s0 : Int) (s1 : Int) (G : gS) (Q : Int → gS → Prop) : Prop :=
  ((s0 = s1 → PX0_compare_188 R l1 G Q) ∧ (¬ (s0 = s1) → PX0_compare_172 R l1 G Q))
def PX0_compare_150 (R : Nat → List Int → gS → (Int → gS → Prop) → Prop) (l1 : Int) (s0 : Int) (G : gS) (Q : Int → gS → Prop) : Prop :=
  (isO W0 8 (l1) ∧ ((G l1 5 = -1 ∨ isO W0 8 (G l1 5)) → (isO W0 8 (G l1 5) ∧ (inL (G (G l1 5) 9) → ((G (G l1 5) 9 = -1 → PX0_compare_169 R l1 s0 1 G Q) ∧ (¬ (G (G l1 5) 9 = -1) → PX0_compare_169 R l1 s0 0 G Q))))))
def PX0_compare_88 (R : Nat → List Int → gS → (Int → gS → Prop) → Prop) (l1 : Int) (s0 : Int) (G : gS) (Q : Int → gS → Prop) : Prop :=
  ((0 ≤ s0 ∧ s0 ≤ 1) ∧ Q (s0) G)
def PX0_compare_87 (R : Nat → List Int → gS → (Int → gS → Prop) → Prop) (l1 : Int) (G : gS) (Q : Int → gS → Prop) : Prop :=
  PX0_compare_88 R l1 0 G Q
def PX0_compare_43 (R : Nat → List Int → gS → (Int → gS → Prop) → Prop) (l1 : Int) (G : gS) (Q : Int → gS → Prop) : Prop :=
  Q (0) G
def PX0_compare_0 (R : Nat → List Int → gS → (Int → gS → Prop) → Prop) (a1 : Int) (G : gS) (Q : Int → gS → Prop) : Prop :=
  (isO W0 8 (a1) ∧ (∀ G2 : gS, G2 = uG G a1 9 (-1) → ((G2 a1 5 = -1 ∨ isO W0 8 (G2 a1 5)) → R 3 [G2 a1 5] G2 (fun r5 G4 => (0 ≤ r5 ∧ r5 ≤ 1) → ((r5 = 0 → PX0_compare_43 R a1 G4 Q) ∧ (¬ (r5 = 0) → ((G4 a1 6 = -1 ∨ isO W0 8 (G4 a1 6)) → R 3 [G4 a1 6] G4 (fun r10 G9 => (0 ≤ r10 ∧ r10 ≤ 1) → ((r10 = 0 → PX0_compare_43 R a1 G9 Q) ∧ (¬ (r10 = 0) → ((G9 a1 5 = -1 ∨ isO W0 8 (G9 a1 5)) → ((G9 a1 5 < 0 → PX0_compare_43 R a1 G9 Q) ∧ (0 ≤ G9 a1 5 → ((G9 a1 6 = -1 ∨ isO W0 8 (G9 a1 6)) → ((G9 a1 6 < 0 → PX0_compare_43 R a1 G9 Q) ∧ (0 ≤ G9 a1 6 → (inI (G9 a1 3) → ((G9 a1 3 = 160 → ((G9 a1 5 = -1 ∨ isO W0 8 (G9 a1 5)) → PX0_wanted (G9 a1 5) (-1) G9 (fun r21 G20 => (0 ≤ r21 ∧ r21 ≤ 1) → ((r21 = 0 → PX0_compare_87 R a1 G20 Q) ∧ (¬ (r21 = 0) → ((G20 a1 6 = -1 ∨ isO W0 8 (G20 a1 6)) → PX0_wanted (G20 a1 6) (-1) G20 (fun r26 G25 => (0 ≤ r26 ∧ r26 ≤ 1) → ((r26 = 0 → PX0_compare_87 R a1 G25 Q) ∧ (¬ (r26 = 0) → PX0_compare_88 R a1 1 G25 Q))))))))) ∧ (¬ (G9 a1 3 = 160) → ((G9 a1 5 = -1 ∨ isO W0 8 (G9 a1 5)) → (isO W0 8 (G9 a1 5) ∧ (inL (G9 (G9 a1 5) 9) → ((G9 (G9 a1 5) 9 = -3 → ((G9 a1 5 = -1 ∨ isO W0 8 (G9 a1 5)) → (isO W0 8 (G9 a1 5) ∧ (inI (G9 (G9 a1 5) 1) → PX0_fail 13 (G9 (G9 a1 5) 1) G9 (fun r37 G36 => (0 ≤ r37 ∧ r37 ≤ 1) → Q (r37) G36))))) ∧ (¬ (G9 (G9 a1 5) 9 = -3) → ((G9 a1 6 = -1 ∨ isO W0 8 (G9 a1 6)) → (isO W0 8 (G9 a1 6) ∧ (inL (G9 (G9 a1 6) 9) → ((G9 (G9 a1 6) 9 = -3 → PX0_compare_172 R a1 G9 Q) ∧ (¬ (G9 (G9 a1 6) 9 = -3) → ((G9 a1 6 = -1 ∨ isO W0 8 (G9 a1 6)) → (isO W0 8 (G9 a1 6) ∧ (inL (G9 (G9 a1 6) 9) → ((G9 (G9 a1 6) 9 = -1 → PX0_compare_150 R a1 1 G9 Q) ∧ (¬ (G9 (G9 a1 6) 9 = -1) → PX0_compare_150 R a1 0 G9 Q))))))))))))))))))))))))))))))))))
abbrev PX0_compare (R : Nat → List Int → gS → (Int → gS → Prop) → Prop) (a1 : Int) (G : gS) (Q : Int → gS → Prop) : Prop := PX0_compare_0 R a1 G Q
def PX0_expr_533 (R : Nat → List Int → gS → (Int → gS → Prop) → Prop) (l1 : Int) (l4 : Int) (s0 : Int) (s1 : Int) (G : gS) (Q : Int → gS → Prop) : Prop :=
  (isO W0 8 (s0) ∧ (∀ G193 : gS, G193 = uG G s0 9 (s1) → ((0 ≤ l4 ∧ l4 ≤ 1) ∧ Q (l4) G193)))
def PX0_expr_501 (R : Nat → List Int → gS → (Int → gS → Prop) → Prop) (l1 : Int) (s0 : Int) (G : gS) (Q : Int → gS → Prop) : Prop :=
  ((0 ≤ s0 ∧ s0 ≤ 1) ∧ Q (s0) G)
def PX0_expr_500 (R : Nat → List Int → gS → (Int → gS → Prop) → Prop) (l1 : Int) (G : gS) (Q : Int → gS → Prop) : Prop :=
  PX0_expr_501 R l1 0 G Q
def PX0_expr_421 (R : Nat → List Int → gS → (Int → gS → Prop) → Prop) (l1 : Int) (l3 : Int) (s0 : Int) (G : gS) (Q : Int → gS → Prop) : Prop :=
  ((0 ≤ s0 ∧ s0 ≤ 1) ∧ Q (s0) G)
def PX0_expr_420 (R : Nat → List Int → gS → (Int → gS → Prop) → Prop) (l1 : Int) (l3 : Int) (G : gS) (Q : Int → gS → Prop) : Prop :=
  PX0_expr_421 R l1 l3 0 G Q
def PX0_expr_338 (R : Nat → List Int → gS → (Int → gS → Prop) → Prop) (l1 : Int) (l2 : Int) (s0 : Int) (G : gS) (Q : Int → gS → Prop) : Prop :=
  ((0 ≤ s0 ∧ s0 ≤ 1) ∧ Q (s0) G)
def PX0_expr_337 (R : Nat → List Int → gS → (Int → gS → Prop) → Prop) (l1 : Int) (l2 : Int) (G : gS) (Q : Int → gS → Prop) : Prop :=
  PX0_expr_338 R l1 l2 0 G Q
def PX0_expr_276 (R : Nat → List Int → gS → (Int → gS → Prop) → Prop) (l1 : Int) (s0 : Int) (G : gS) (Q : Int → gS → Prop) : Prop :=
  ((0 ≤ s0 ∧ s0 ≤ 1) ∧ Q (s0) G)
def PX0_expr_275 (R : Nat → List Int → gS → (Int → gS → Prop) → Prop) (l1 : Int) (G : gS) (Q : Int → gS → Prop) : Prop :=
  PX0_expr_276 R l1 0 G Q
def PX0_expr_209 (R : Nat → List Int → gS → (Int → gS → Prop) → Prop) (l1 : Int) (s0 : Int) (G : gS) (Q : Int → gS → Prop) : Prop :=
  ((0 ≤ s0 ∧ s0 ≤ 1) ∧ Q (s0) G)
def PX0_expr_208 (R : Nat → List Int → gS → (Int → gS → Prop) → Prop) (l1 : Int) (G : gS) (Q : Int → gS → Prop) : Prop :=
  PX0_expr_209 R l1 0 G Q
def PX0_expr_204 (R : Nat → List Int → gS → (Int → gS → Prop) → Prop) (l1 : Int) (G : gS) (Q : Int → gS → Prop) : Prop :=
  PX0_expr_209 R l1 1 G Q
def PX0_expr_158 (R : Nat → List Int → gS → (Int → gS → Prop) → Prop) (l1 : Int) (s0 : Int) (G : gS) (Q : Int → gS → Prop) : Prop :=
  ((0 ≤ s0 ∧ s0 ≤ 1) ∧ Q (s0) G)
def PX0_expr_153 (R : Nat → List Int → gS → (Int → gS → Prop) → Prop) (l1 : Int) (G : gS) (Q : Int → gS → Prop) : Prop :=
  PX0_expr_158 R l1 1 G Q
def PX0_expr_16 (R : Nat → List Int → gS → (Int → gS → Prop) → Prop) (l1 : Int) (s0 : Int) (G : gS) (Q : Int → gS → Prop) : Prop :=
  ((0 ≤ s0 ∧ s0 ≤ 1) ∧ Q (s0) G)
def PX0_expr_0 (R : Nat → List Int → gS → (Int → gS → Prop) → Prop) (a1 : Int) (G : gS) (Q : Int → gS → Prop) : Prop :=
  ((a1 < 0 → (inI (G 815 3) → ((G 815 3 = 0 → PX0_expr_16 R a1 1 G Q) ∧ (¬ (G 815 3 = 0) → PX0_expr_16 R a1 0 G Q)))) ∧ (0 ≤ a1 → (isO W0 8 (a1) ∧ (inI (G a1 0) → ((G a1 0 = 1 → (∀ G7 : gS, G7 = uG G a1 9 (-1) → Q (1) G7)) ∧ (G a1 0 = 2 → (∀ G8 : gS, G8 = uG G a1 9 (-2) → Q (1) G8)) ∧ (G a1 0 = 3 → ((G 815 5 = -1 ∨ isO W0 10 (G 815 5)) → (isO W0 10 (G 815 5) ∧ (inL (G (G 815 5) 1) → (∀ G12 : gS, G12 = uG G a1 9 (G (G 815 5) 1) → ((0 ≤ G12 815 8 ∧ G12 815 8 ≤ 1) → ((G12 815 8 = 0 → PX0_expr_153 R a1 G12 Q) ∧ (¬ (G12 815 8 = 0) → (inI (G12 a1 1) → PX0_fail 14 (G12 a1 1) G12 (fun r17 G16 => (0 ≤ r17 ∧ r17 ≤ 1) → ((r17 = 0 → PX0_expr_158 R a1 0 G16 Q) ∧ (¬ (r17 = 0) → PX0_expr_153 R a1 G16 Q)))))))))))) ∧ (G a1 0 = 4 → PX0_isLocal a1 G (fun r21 G20 => (0 ≤ r21 ∧ r21 ≤ 1) → ((r21 = 0 → (inI (G20 815 6) → ((G20 815 2 = -1 ∨ isO W0 9 (G20 815 2)) → (isO W0 9 (G20 815 2) ∧ (inI (G20 a1 2) → ((0 : Int) ≤ G20 a1 2 ∧ ((G20 a1 2 : Int) < 704 ∧ (inL (G20 12 (G20 a1 2)) → PX0_field a1 (G20 815 6) (G20 12 (G20 a1 2)) G20 (fun r32 G31 => (0 ≤ r32 ∧ r32 ≤ 1) → ((r32 = 0 → PX0_expr_208 R a1 G31 Q) ∧ (¬ (r32 = 0) → ((0 ≤ G31 815 8 ∧ G31 815 8 ≤ 1) → PX0_statics a1 (G31 815 8) 0 G31 (fun r37 G36 => (0 ≤ r37 ∧ r37 ≤ 1) → ((r37 = 0 → PX0_expr_208 R a1 G36 Q) ∧ (¬ (r37 = 0) → PX0_expr_204 R a1 G36 Q))))))))))))))) ∧ (¬ (r21 = 0) → PX0_expr_204 R a1 G20 Q)))) ∧ (G a1 0 = 5 → ((G a1 5 = -1 ∨ isO W0 8 (G a1 5)) → R 4 [G a1 5] G (fun r42 G41 => (0 ≤ r42 ∧ r42 ≤ 1) → ((r42 = 0 → PX0_expr_275 R a1 G41 Q) ∧ (¬ (r42 = 0) → (inI (G41 815 6) → (inI (G41 815 6) → ((G41 815 2 = -1 ∨ isO W0 9 (G41 815 2)) → (isO W0 9 (G41 815 2) ∧ (inI (G41 a1 2) → ((0 : Int) ≤ G41 a1 2 ∧ ((G41 a1 2 : Int) < 704 ∧ (inL (G41 12 (G41 a1 2)) → ((G41 a1 5 = -1 ∨ isO W0 8 (G41 a1 5)) → PX0_meant (G41 815 6) (G41 12 (G41 a1 2)) (G41 a1 5) 0 G41 (fun r55 G54 => PX0_calls a1 (G41 815 6) r55 G54 (fun r58 G57 => (0 ≤ r58 ∧ r58 ≤ 1) → ((r58 = 0 → PX0_expr_275 R a1 G57 Q) ∧ (¬ (r58 = 0) → ((0 ≤ G57 815 8 ∧ G57 815 8 ≤ 1) → PX0_statics a1 (G57 815 8) 0 G57 (fun r63 G62 => (0 ≤ r63 ∧ r63 ≤ 1) → ((r63 = 0 → PX0_expr_275 R a1 G62 Q) ∧ (¬ (r63 = 0) → PX0_expr_276 R a1 1 G62 Q)))))))))))))))))))))) ∧ (G a1 0 = 6 → ((G 815 2 = -1 ∨ isO W0 9 (G 815 2)) → (isO W0 9 (G 815 2) ∧ (inI (G a1 1) → ((0 : Int) ≤ G a1 1 ∧ ((G a1 1 : Int) < 704 ∧ (inL (G 12 (G a1 1)) → (inI (G a1 1) → PX0_named (G 12 (G a1 1)) (G a1 1) G (fun r74 G73 => inI r74 → ((r74 < 0 → PX0_expr_337 R a1 r74 G73 Q) ∧ (¬ (r74 < 0) → ((G73 815 2 = -1 ∨ isO W0 9 (G73 815 2)) → (isO W0 9 (G73 815 2) ∧ (inI (G73 a1 2) → ((0 : Int) ≤ G73 a1 2 ∧ ((G73 a1 2 : Int) < 704 ∧ (inL (G73 12 (G73 a1 2)) → PX0_field a1 r74 (G73 12 (G73 a1 2)) G73 (fun r84 G83 => (0 ≤ r84 ∧ r84 ≤ 1) → ((r84 = 0 → PX0_expr_337 R a1 r74 G83 Q) ∧ (¬ (r84 = 0) → PX0_statics a1 1 0 G83 (fun r88 G87 => (0 ≤ r88 ∧ r88 ≤ 1) → ((r88 = 0 → PX0_expr_337 R a1 r74 G87 Q) ∧ (¬ (r88 = 0) → PX0_expr_338 R a1 r74 1 G87 Q))))))))))))))))))))))) ∧ (G a1 0 = 7 → ((G 815 2 = -1 ∨ isO W0 9 (G 815 2)) → (isO W0 9 (G 815 2) ∧ (inI (G a1 1) → ((0 : Int) ≤ G a1 1 ∧ ((G a1 1 : Int) < 704 ∧ (inL (G 12 (G a1 1)) → (inI (G a1 1) → PX0_named (G 12 (G a1 1)) (G a1 1) G (fun r99 G98 => inI r99 → ((r99 < 0 → PX0_expr_420 R a1 r99 G98 Q) ∧ (¬ (r99 < 0) → ((G98 a1 5 = -1 ∨ isO W0 8 (G98 a1 5)) → R 4 [G98 a1 5] G98 (fun r104 G103 => (0 ≤ r104 ∧ r104 ≤ 1) → ((r104 = 0 → PX0_expr_420 R a1 r99 G103 Q) ∧ (¬ (r104 = 0) → ((G103 815 2 = -1 ∨ isO W0 9 (G103 815 2)) → (isO W0 9 (G103 815 2) ∧ (inI (G103 a1 2) → ((0 : Int) ≤ G103 a1 2 ∧ ((G103 a1 2 : Int) < 704 ∧ (inL (G103 12 (G103 a1 2)) → ((G103 a1 5 = -1 ∨ isO W0 8 (G103 a1 5)) → PX0_meant r99 (G103 12 (G103 a1 2)) (G103 a1 5) 0 G103 (fun r115 G114 => PX0_calls a1 r99 r115 G114 (fun r118 G117 => (0 ≤ r118 ∧ r118 ≤ 1) → ((r118 = 0 → PX0_expr_420 R a1 r99 G117 Q) ∧ (¬ (r118 = 0) → PX0_statics a1 1 0 G117 (fun r122 G121 => (0 ≤ r122 ∧ r122 ≤ 1) → ((r122 = 0 → PX0_expr_420 R a1 r99 G121 Q) ∧ (¬ (r122 = 0) → PX0_expr_421 R a1 r99 1 G121 Q))))))))))))))))))))))))))))) ∧ (G a1 0 = 8 → R 6 [a1] G (fun r126 G125 => (0 ≤ r126 ∧ r126 ≤ 1) → Q (r126) G125)) ∧ (G a1 0 = 9 → R 6 [a1] G (fun r129 G128 => (0 ≤ r129 ∧ r129 ≤ 1) → Q (r129) G128)) ∧ (G a1 0 = 10 → R 5 [a1] G (fun r132 G131 => (0 ≤ r132 ∧ r132 ≤ 1) → Q (r132) G131)) ∧ (G a1 0 = 11 → (inL (G a1 10) → (∀ G135 : gS, G135 = uG G a1 9 (G a1 10) → (inL (G135 a1 10) → (inI (G135 a1 2) → PX0_named (G135 a1 10) (G135 a1 2) G135 (fun r139 G138 => inI r139 → ((r139 < 0 → PX0_expr_500 R a1 G138 Q) ∧ (¬ (r139 < 0) → ((G138 a1 5 = -1 ∨ isO W0 8 (G138 a1 5)) → R 3 [G138 a1 5] G138 (fun r144 G143 => (0 ≤ r144 ∧ r144 ≤ 1) → ((r144 = 0 → PX0_expr_500 R a1 G143 Q) ∧ (¬ (r144 = 0) → ((G143 a1 5 = -1 ∨ isO W0 8 (G143 a1 5)) → ((G143 a1 5 < 0 → PX0_expr_500 R a1 G143 Q) ∧ (0 ≤ G143 a1 5 → ((G143 a1 5 = -1 ∨ isO W0 8 (G143 a1 5)) → (isO W0 8 (G143 a1 5) ∧ (inL (G143 (G143 a1 5) 9) → ((G143 a1 5 = -1 ∨ isO W0 8 (G143 a1 5)) → (isO W0 8 (G143 a1 5) ∧ (inI (G143 (G143 a1 5) 1) → PX0_isObject (G143 (G143 a1 5) 9) (G143 (G143 a1 5) 1) G143 (fun r156 G155 => (0 ≤ r156 ∧ r156 ≤ 1) → ((r156 = 0 → PX0_expr_500 R a1 G155 Q) ∧ (¬ (r156 = 0) → PX0_expr_501 R a1 1 G155 Q)))))))))))))))))))))))) ∧ (G a1 0 = 12 → ((G a1 5 = -1 ∨ isO W0 8 (G a1 5)) → R 3 [G a1 5] G (fun r161 G160 => (0 ≤ r161 ∧ r161 ≤ 1) → ((G160 a1 5 = -1 ∨ isO W0 8 (G160 a1 5)) → ((G160 a1 5 < 0 → PX0_expr_533 R a1 r161 a1 (-4) G160 Q) ∧ (0 ≤ G160 a1 5 → ((G160 a1 5 = -1 ∨ isO W0 8 (G160 a1 5)) → (isO W0 8 (G160 a1 5) ∧ (inL (G160 (G160 a1 5) 9) → PX0_expr_533 R a1 r161 a1 (G160 (G160 a1 5) 9) G160 Q))))))))) ∧ (G a1 0 = 13 → R 7 [a1] G (fun r169 G168 => (0 ≤ r169 ∧ r169 ≤ 1) → Q (r169) G168)) ∧ (G a1 0 = 14 → R 2 [a1] G (fun r172 G171 => (0 ≤ r172 ∧ r172 ≤ 1) → Q (r172) G171)) ∧ (G a1 0 = 15 → R 2 [a1] G (fun r175 G174 => (0 ≤ r175 ∧ r175 ≤ 1) → Q (r175) G174)) ∧ (G a1 0 = 16 → R 2 [a1] G (fun r178 G177 => (0 ≤ r178 ∧ r178 ≤ 1) → Q (r178) G177)) ∧ (G a1 0 = 17 → R 1 [a1] G (fun r181 G180 => (0 ≤ r181 ∧ r181 ≤ 1) → Q (r181) G180)) ∧ ((G a1 0 < 1 ∨ 18 ≤ G a1 0) → R 2 [a1] G (fun r184 G183 => (0 ≤ r184 ∧ r184 ≤ 1) → Q (r184) G183)))))))
abbrev PX0_expr (R : Nat → List Int → gS → (Int → gS → Prop) → Prop) (a1 : Int) (G : gS) (Q : Int → gS → Prop) : Prop := PX0_expr_0 R a1 G Q
def PX0_exprs_2 (R : Nat → List Int → gS → (Int → gS → Prop) → Prop) (J : Nat → List Int → gS → (Int → gS → Prop) → Prop) (l1 : Int) (l2 : Int) (G : gS) (Q : Int → gS → Prop) : Prop :=
  ((l2 < 0 → Q (1) G) ∧ (0 ≤ l2 → R 3 [l2] G (fun r3 G2 => (0 ≤ r3 ∧ r3 ≤ 1) → ((r3 = 0 → Q (0) G2) ∧ (¬ (r3 = 0) → (isO W0 8 (l2) ∧ ((G2 l2 8 = -1 ∨ isO W0 8 (G2 l2 8)) → J 0 [l1, G2 l2 8] G2 Q)))))))
def PX0_exprs_0 (R : Nat → List Int → gS → (Int → gS → Prop) → Prop) (J : Nat → List Int → gS → (Int → gS → Prop) → Prop) (a1 : Int) (G : gS) (Q : Int → gS → Prop) : Prop :=
  PX0_exprs_2 R J a1 a1 G Q
def PX0_exprs_J (R : Nat → List Int → gS → (Int → gS → Prop) → Prop) : Nat → Nat → List Int → gS → (Int → gS → Prop) → Prop
  | 0, _, _, _, _ => False
  | f + 1, h, L, G, Q => match h, L with
    | 0, [l1, l2] => PX0_exprs_2 R (PX0_exprs_J R f) l1 l2 G Q
    | _, _ => False
def PX0_exprs (R : Nat → List Int → gS → (Int → gS → Prop) → Prop) (a1 : Int) (G : gS) (Q : Int → gS → Prop) : Prop := ∃ f : Nat, f ≤ 4000000000 ∧ PX0_exprs_0 R (PX0_exprs_J R f) a1 G Q
def PX0_made_108 (R : Nat → List Int → gS → (Int → gS → Prop) → Prop) (l1 : Int) (l2 : Int) (l3 : Int) (s0 : Int) (G : gS) (Q : Int → gS → Prop) : Prop :=
  ((0 ≤ s0 ∧ s0 ≤ 1) ∧ Q (s0) G)
def PX0_made_103 (R : Nat → List Int → gS → (Int → gS → Prop) → Prop) (l1 : Int) (l2 : Int) (l3 : Int) (G : gS) (Q : Int → gS → Prop) : Prop :=
  PX0_made_108 R l1 l2 l3 1 G Q
def PX0_made_80 (R : Nat → List Int → gS → (Int → gS → Prop) → Prop) (l1 : Int) (l2 : Int) (l3 : Int) (s0 : Int) (s1 : Int) (G : gS) (Q : Int → gS → Prop) : Prop :=
  (isO W0 8 (s0) ∧ ((s1 = -1 ∨ isO W0 7 (s1)) ∧ (∀ G31 : gS, G31 = uG G s0 11 (s1) → (isO W0 8 (l1) ∧ ((G31 l1 11 = -1 ∨ isO W0 7 (G31 l1 11)) → ((G31 l1 11 < 0 → (inI (G31 l1 2) → PX0_fail 18 (G31 l1 2) G31 (fun r37 G36 => (0 ≤ r37 ∧ r37 ≤ 1) → ((r37 = 0 → PX0_made_108 R l1 l2 l3 0 G36 Q) ∧ (¬ (r37 = 0) → PX0_made_103 R l1 l2 l3 G36 Q))))) ∧ (0 ≤ G31 l1 11 → PX0_made_103 R l1 l2 l3 G31 Q)))))))
def PX0_made_63 (R : Nat → List Int → gS → (Int → gS → Prop) → Prop) (l1 : Int) (l2 : Int) (l3 : Int) (s0 : Int) (G : gS) (Q : Int → gS → Prop) : Prop :=
  PX0_made_80 R l1 l2 l3 s0 (-1) G Q
def PX0_made_28 (R : Nat → List Int → gS → (Int → gS → Prop) → Prop) (l1 : Int) (l2 : Int) (G : gS) (Q : Int → gS → Prop) : Prop :=
  Q (0) G
def PX0_made_0 (R : Nat → List Int → gS → (Int → gS → Prop) → Prop) (a1 : Int) (G : gS) (Q : Int → gS → Prop) : Prop :=
  (isO W0 8 (a1) ∧ (inL (G a1 10) → (inI (G a1 2) → PX0_named (G a1 10) (G a1 2) G (fun r5 G4 => inI r5 → ((r5 < 0 → PX0_made_28 R a1 r5 G4 Q) ∧ (¬ (r5 < 0) → ((G4 a1 5 = -1 ∨ isO W0 8 (G4 a1 5)) → R 4 [G4 a1 5] G4 (fun r10 G9 => (0 ≤ r10 ∧ r10 ≤ 1) → ((r10 = 0 → PX0_made_28 R a1 r5 G9 Q) ∧ (¬ (r10 = 0) → (inL (G9 a1 10) → (∀ G14 : gS, G14 = uG G9 a1 9 (G9 a1 10) → ((G14 815 0 = -1 ∨ isO W0 11 (G14 815 0)) → (isO W0 11 (G14 815 0) ∧ ((0 : Int) ≤ r5 ∧ ((r5 : Int) < 64 ∧ (((G14 ((G14 815 0) + 1) r5 = -1 ∨ isO W0 10 (G14 ((G14 815 0) + 1) r5)) ∧ ∀ v, W0.2 ((G14 815 0) + 1) r5 = some v → G14 ((G14 815 0) + 1) r5 = v) → (isO W0 10 (G14 ((G14 815 0) + 1) r5) ∧ ((0 ≤ G14 (G14 ((G14 815 0) + 1) r5) 4 ∧ G14 (G14 ((G14 815 0) + 1) r5) 4 ≤ 1) → ((G14 (G14 ((G14 815 0) + 1) r5) 4 = 0 → ((0 ≤ G14 (G14 ((G14 815 0) + 1) r5) 6 ∧ G14 (G14 ((G14 815 0) + 1) r5) 6 ≤ 1) → ((G14 (G14 ((G14 815 0) + 1) r5) 6 = 0 → ((G14 a1 5 = -1 ∨ isO W0 8 (G14 a1 5)) → PX0_meant r5 (-4) (G14 a1 5) 1 G14 (fun r27 G26 => PX0_made_80 R a1 r5 (G14 ((G14 815 0) + 1) r5) a1 r27 G26 Q))) ∧ (¬ (G14 (G14 ((G14 815 0) + 1) r5) 6 = 0) → PX0_made_63 R a1 r5 (G14 ((G14 815 0) + 1) r5) a1 G14 Q)))) ∧ (¬ (G14 (G14 ((G14 815 0) + 1) r5) 4 = 0) → PX0_made_63 R a1 r5 (G14 ((G14 815 0) + 1) r5) a1 G14 Q)))))))))))))))))))))
abbrev PX0_made (R : Nat → List Int → gS → (Int → gS → Prop) → Prop) (a1 : Int) (G : gS) (Q : Int → gS → Prop) : Prop := PX0_made_0 R a1 G Q
def PX0_superCall_214 (R : Nat → List Int → gS → (Int → gS → Prop) → Prop) (l1 : Int) (l2 : Int) (l3 : Int) (l4 : Int) (l5 : Int) (s0 : Int) (s1 : Int) (s2 : Int) (G : gS) (Q : Int → gS → Prop) : Prop :=
  (isO W0 0 (s0) ∧ PX0_fail s1 s2 G (fun r84 G83 => (0 ≤ r84 ∧ r84 ≤ 1) → Q (r84) G83))
def PX0_superCall_176 (R : Nat → List Int → gS → (Int → gS → Prop) → Prop) (l1 : Int) (l2 : Int) (l3 : Int) (l4 : Int) (l5 : Int) (G : gS) (Q : Int → gS → Prop) : Prop :=
  (isO W0 8 (l1) ∧ (inI (G l1 2) → PX0_fail 12 (G l1 2) G (fun r80 G79 => (0 ≤ r80 ∧ r80 ≤ 1) → Q (r80) G79)))
def PX0_superCall_150 (R : Nat → List Int → gS → (Int → gS → Prop) → Prop) (l1 : Int) (l2 : Int) (l3 : Int) (l4 : Int) (s0 : Int) (G : gS) (Q : Int → gS → Prop) : Prop :=
  ((s0 < 0 → PX0_superCall_176 R l1 l2 l3 l4 s0 G Q) ∧ (0 ≤ s0 → (isO W0 7 (s0) ∧ ((0 ≤ G s0 4 ∧ G s0 4 ≤ 1) → ((G s0 4 = 0 → PX0_calls l1 l3 s0 G (fun r63 G62 => (0 ≤ r63 ∧ r63 ≤ 1) → ((r63 = 0 → PX0_superCall_176 R l1 l2 l3 l4 s0 G62 Q) ∧ (¬ (r63 = 0) → ((0 ≤ G62 815 8 ∧ G62 815 8 ≤ 1) → ((G62 815 8 = 0 → PX0_statics l1 0 1 G62 (fun r69 G68 => (0 ≤ r69 ∧ r69 ≤ 1) → Q (r69) G68)) ∧ (¬ (G62 815 8 = 0) → ((l2 = 0 → (isO W0 8 (l1) ∧ (inI (G62 l1 1) → PX0_superCall_214 R l1 l2 l3 l4 s0 815 14 (G62 l1 1) G62 Q))) ∧ (¬ (l2 = 0) → (isO W0 8 (l1) ∧ (inI (G62 l1 1) → (inI ((G62 l1 1) + 2) ∧ PX0_superCall_214 R l1 l2 l3 l4 s0 815 14 ((G62 l1 1) + 2) G62 Q)))))))))))) ∧ (¬ (G s0 4 = 0) → PX0_superCall_176 R l1 l2 l3 l4 s0 G Q))))))
def PX0_superCall_117 (R : Nat → List Int → gS → (Int → gS → Prop) → Prop) (l1 : Int) (l2 : Int) (l3 : Int) (s0 : Int) (G : gS) (Q : Int → gS → Prop) : Prop :=
  ((s0 = 0 → ((G 815 2 = -1 ∨ isO W0 9 (G 815 2)) → (isO W0 9 (G 815 2) ∧ (isO W0 8 (l1) ∧ (inI (G l1 2) → ((0 : Int) ≤ G l1 2 ∧ ((G l1 2 : Int) < 704 ∧ (inL (G 12 (G l1 2)) → ((G l1 5 = -1 ∨ isO W0 8 (G l1 5)) → PX0_meant l3 (G 12 (G l1 2)) (G l1 5) 0 G (fun r56 G55 => PX0_superCall_150 R l1 l2 l3 s0 r56 G55 Q)))))))))) ∧ (¬ (s0 = 0) → PX0_superCall_150 R l1 l2 l3 s0 (-1) G Q))
def PX0_superCall_73 (R : Nat → List Int → gS → (Int → gS → Prop) → Prop) (l1 : Int) (l2 : Int) (l3 : Int) (G : gS) (Q : Int → gS → Prop) : Prop :=
  Q (0) G
def PX0_superCall_54 (R : Nat → List Int → gS → (Int → gS → Prop) → Prop) (l1 : Int) (l2 : Int) (s0 : Int) (G : gS) (Q : Int → gS → Prop) : Prop :=
  (inI (G 815 3) → ((G 815 3 = 0 → (isO W0 8 (l1) ∧ ((G l1 5 = -1 ∨ isO W0 8 (G l1 5)) → R 4 [G l1 5] G (fun r27 G26 => (0 ≤ r27 ∧ r27 ≤ 1) → ((r27 = 0 → PX0_superCall_73 R l1 l2 s0 G26 Q) ∧ (¬ (r27 = 0) → ((l2 = 0 → ((G26 815 5 = -1 ∨ isO W0 10 (G26 815 5)) → (isO W0 10 (G26 815 5) ∧ ((0 ≤ G26 (G26 815 5) 4 ∧ G26 (G26 815 5) 4 ≤ 1) → PX0_superCall_117 R l1 l2 s0 (G26 (G26 815 5) 4) G26 Q)))) ∧ (¬ (l2 = 0) → ((G26 815 5 = -1 ∨ isO W0 10 (G26 815 5)) → ((G26 815 2 = -1 ∨ isO W0 9 (G26 815 2)) → (isO W0 9 (G26 815 2) ∧ (inI (G26 l1 1) → ((0 : Int) ≤ G26 l1 1 ∧ ((G26 l1 1 : Int) < 704 ∧ (inL (G26 12 (G26 l1 1)) → (isO W0 10 (G26 815 5) ∧ PX10_has (G26 815 5) 0 (G26 12 (G26 l1 1)) G26 (fun r43 G42 => (0 ≤ r43 ∧ r43 ≤ 1) → ((r43 = 0 → PX0_superCall_117 R l1 l2 s0 1 G42 Q) ∧ (¬ (r43 = 0) → PX0_superCall_117 R l1 l2 s0 0 G42 Q))))))))))))))))))) ∧ (¬ (G 815 3 = 0) → PX0_superCall_73 R l1 l2 s0 G Q)))
def PX0_superCall_14 (R : Nat → List Int → gS → (Int → gS → Prop) → Prop) (l1 : Int) (s0 : Int) (G : gS) (Q : Int → gS → Prop) : Prop :=
  ((s0 = 0 → ((G 815 0 = -1 ∨ isO W0 11 (G 815 0)) → (isO W0 11 (G 815 0) ∧ (inI (G 815 6) → ((0 : Int) ≤ G 815 6 ∧ ((G 815 6 : Int) < 64 ∧ (inI (G ((G 815 0) + 2) (G 815 6)) → PX0_superCall_54 R l1 s0 (G ((G 815 0) + 2) (G 815 6)) G Q))))))) ∧ (¬ (s0 = 0) → ((G 815 2 = -1 ∨ isO W0 9 (G 815 2)) → (isO W0 9 (G 815 2) ∧ (isO W0 8 (l1) ∧ (inI (G l1 1) → ((0 : Int) ≤ G l1 1 ∧ ((G l1 1 : Int) < 704 ∧ (inL (G 12 (G l1 1)) → (inI (G l1 1) → PX0_named (G 12 (G l1 1)) (G l1 1) G (fun r20 G19 => inI r20 → PX0_superCall_54 R l1 s0 r20 G19 Q)))))))))))
def PX0_superCall_0 (R : Nat → List Int → gS → (Int → gS → Prop) → Prop) (a1 : Int) (G : gS) (Q : Int → gS → Prop) : Prop :=
  (isO W0 8 (a1) ∧ (inI (G a1 0) → ((G a1 0 = 8 → PX0_superCall_14 R a1 1 G Q) ∧ (¬ (G a1 0 = 8) → PX0_superCall_14 R a1 0 G Q))))
abbrev PX0_superCall (R : Nat → List Int → gS → (Int → gS → Prop) → Prop) (a1 : Int) (G : gS) (Q : Int → gS → Prop) : Prop := PX0_superCall_0 R a1 G Q
def PX0_unit_40 (R : Nat → List Int → gS → (Int → gS → Prop) → Prop) (J : Nat → List Int → gS → (Int → gS → Prop) → Prop) (l1 : Int) (l2 : Int) (l4 : Int) (G : gS) (Q : Int → gS → Prop) : Prop :=
  ((l4 < 0 → (isO W0 8 (l1) ∧ (∀ G16 : gS, G16 = uG G l1 9 (l2) → Q (1) G16))) ∧ (0 ≤ l4 → R 0 [l1, l4, l2] G (fun r18 G17 => (0 ≤ r18 ∧ r18 ≤ 1) → ((r18 = 0 → Q (0) G17) ∧ (¬ (r18 = 0) → (isO W0 8 (l4) ∧ (inL (G17 l4 9) → ((G17 l4 8 = -1 ∨ isO W0 8 (G17 l4 8)) → J 0 [l1, G17 l4 9, G17 l4 8] G17 Q))))))))
def PX0_unit_33 (R : Nat → List Int → gS → (Int → gS → Prop) → Prop) (J : Nat → List Int → gS → (Int → gS → Prop) → Prop) (l1 : Int) (s0 : Int) (G : gS) (Q : Int → gS → Prop) : Prop :=
  (isO W0 8 (l1) ∧ ((G l1 6 = -1 ∨ isO W0 8 (G l1 6)) → PX0_unit_40 R J l1 s0 (G l1 6) G Q))
def PX0_unit_0 (R : Nat → List Int → gS → (Int → gS → Prop) → Prop) (J : Nat → List Int → gS → (Int → gS → Prop) → Prop) (a1 : Int) (G : gS) (Q : Int → gS → Prop) : Prop :=
  (isO W0 8 (a1) ∧ ((G a1 5 = -1 ∨ isO W0 8 (G a1 5)) → R 3 [G a1 5] G (fun r4 G3 => (0 ≤ r4 ∧ r4 ≤ 1) → ((r4 = 0 → Q (0) G3) ∧ (¬ (r4 = 0) → ((G3 a1 5 = -1 ∨ isO W0 8 (G3 a1 5)) → ((G3 a1 5 < 0 → PX0_unit_33 R J a1 (-4) G3 Q) ∧ (0 ≤ G3 a1 5 → ((G3 a1 5 = -1 ∨ isO W0 8 (G3 a1 5)) → (isO W0 8 (G3 a1 5) ∧ (inL (G3 (G3 a1 5) 9) → PX0_unit_33 R J a1 (G3 (G3 a1 5) 9) G3 Q)))))))))))
def PX0_unit_J (R : Nat → List Int → gS → (Int → gS → Prop) → Prop) : Nat → Nat → List Int → gS → (Int → gS → Prop) → Prop
  | 0, _, _, _, _ => False
  | f + 1, h, L, G, Q => match h, L with
    | 0, [l1, l2, l4] => PX0_unit_40 R (PX0_unit_J R f) l1 l2 l4 G Q
    | _, _ => False
def PX0_unit (R : Nat → List Int → gS → (Int → gS → Prop) → Prop) (a1 : Int) (G : gS) (Q : Int → gS → Prop) : Prop := ∃ f : Nat, f ≤ 4000000000 ∧ PX0_unit_0 R (PX0_unit_J R f) a1 G Q
def Rq1 : Nat → Nat → List Int → gS → (Int → gS → Prop) → Prop
  | 0, _, _, _, _ => False
  | n + 1, i, L, G, Q => match i, L with
    | 0, [a1, a2, a3] => PX0_behind (Rq1 n) a1 a2 a3 G Q
    | 1, [a1] => PX0_chain (Rq1 n) a1 G Q
    | 2, [a1] => PX0_compare (Rq1 n) a1 G Q
    | 3, [a1] => PX0_expr (Rq1 n) a1 G Q
    | 4, [a1] => PX0_exprs (Rq1 n) a1 G Q
    | 5, [a1] => PX0_made (Rq1 n) a1 G Q
    | 6, [a1] => PX0_superCall (Rq1 n) a1 G Q
    | 7, [a1] => PX0_unit (Rq1 n) a1 G Q
    | _, _ => False
def PX0_statement_432 (R : Nat → List Int → gS → (Int → gS → Prop) → Prop) (J : Nat → List Int → gS → (Int → gS → Prop) → Prop) (l1 : Int) (l2 : Int) (s0 : Int) (G : gS) (Q : Int → gS → Prop) : Prop :=
  ((0 ≤ s0 ∧ s0 ≤ 1) ∧ Q (s0) G)
def PX0_statement_431 (R : Nat → List Int → gS → (Int → gS → Prop) → Prop) (J : Nat → List Int → gS → (Int → gS → Prop) → Prop) (l1 : Int) (l2 : Int) (G : gS) (Q : Int → gS → Prop) : Prop :=
  PX0_statement_432 R J l1 l2 0 G Q
def PX0_statement_427 (R : Nat → List Int → gS → (Int → gS → Prop) → Prop) (J : Nat → List Int → gS → (Int → gS → Prop) → Prop) (l1 : Int) (l2 : Int) (G : gS) (Q : Int → gS → Prop) : Prop :=
  PX0_statement_432 R J l1 l2 1 G Q
def PX0_statement_392 (R : Nat → List Int → gS → (Int → gS → Prop) → Prop) (J : Nat → List Int → gS → (Int → gS → Prop) → Prop) (l1 : Int) (l2 : Int) (s0 : Int) (G : gS) (Q : Int → gS → Prop) : Prop :=
  ((0 ≤ s0 ∧ s0 ≤ 1) ∧ Q (s0) G)
def PX0_statement_391 (R : Nat → List Int → gS → (Int → gS → Prop) → Prop) (J : Nat → List Int → gS → (Int → gS → Prop) → Prop) (l1 : Int) (l2 : Int) (G : gS) (Q : Int → gS → Prop) : Prop :=
  PX0_statement_392 R J l1 l2 0 G Q
def PX0_statement_356 (R : Nat → List Int → gS → (Int → gS → Prop) → Prop) (J : Nat → List Int → gS → (Int → gS → Prop) → Prop) (l1 : Int) (l2 : Int) (s0 : Int) (G : gS) (Q : Int → gS → Prop) : Prop :=
  ((0 ≤ s0 ∧ s0 ≤ 1) ∧ Q (s0) G)
def PX0_statement_355 (R : Nat → List Int → gS → (Int → gS → Prop) → Prop) (J : Nat → List Int → gS → (Int → gS → Prop) → Prop) (l1 : Int) (l2 : Int) (G : gS) (Q : Int → gS → Prop) : Prop :=
  PX0_statement_356 R J l1 l2 0 G Q
def PX0_statement_331 (R : Nat → List Int → gS → (Int → gS → Prop) → Prop) (J : Nat → List Int → gS → (Int → gS → Prop) → Prop) (l1 : Int) (l2 : Int) (s0 : Int) (G : gS) (Q : Int → gS → Prop) : Prop :=
  ((0 ≤ s0 ∧ s0 ≤ 1) ∧ Q (s0) G)
def PX0_statement_330 (R : Nat → List Int → gS → (Int → gS → Prop) → Prop) (J : Nat → List Int → gS → (Int → gS → Prop) → Prop) (l1 : Int) (l2 : Int) (G : gS) (Q : Int → gS → Prop) : Prop :=
  PX0_statement_331 R J l1 l2 0 G Q
def PX0_statement_294 (R : Nat → List Int → gS → (Int → gS → Prop) → Prop) (J : Nat → List Int → gS → (Int → gS → Prop) → Prop) (l1 : Int) (l2 : Int) (s0 : Int) (G : gS) (Q : Int → gS → Prop) : Prop :=
  ((0 ≤ s0 ∧ s0 ≤ 1) ∧ Q (s0) G)
def PX0_statement_293 (R : Nat → List Int → gS → (Int → gS → Prop) → Prop) (J : Nat → List Int → gS → (Int → gS → Prop) → Prop) (l1 : Int) (l2 : Int) (G : gS) (Q : Int → gS → Prop) : Prop :=
  PX0_statement_294 R J l1 l2 0 G Q
def PX0_statement_263 (R : Nat → List Int → gS → (Int → gS → Prop) → Prop) (J : Nat → List Int → gS → (Int → gS → Prop) → Prop) (l1 : Int) (l2 : Int) (s0 : Int) (G : gS) (Q : Int → gS → Prop) : Prop :=
  ((0 ≤ s0 ∧ s0 ≤ 1) ∧ Q (s0) G)
def PX0_statement_262 (R : Nat → List Int → gS → (Int → gS → Prop) → Prop) (J : Nat → List Int → gS → (Int → gS → Prop) → Prop) (l1 : Int) (l2 : Int) (G : gS) (Q : Int → gS → Prop) : Prop :=
  PX0_statement_263 R J l1 l2 0 G Q
def PX0_statement_231 (R : Nat → List Int → gS → (Int → gS → Prop) → Prop) (J : Nat → List Int → gS → (Int → gS → Prop) → Prop) (l1 : Int) (l2 : Int) (s0 : Int) (G : gS) (Q : Int → gS → Prop) : Prop :=
  (∀ G149 : gS, G149 = uG G 815 11 (l2) → ((0 ≤ s0 ∧ s0 ≤ 1) ∧ Q (s0) G149))
def PX0_statement_226 (R : Nat → List Int → gS → (Int → gS → Prop) → Prop) (J : Nat → List Int → gS → (Int → gS → Prop) → Prop) (l1 : Int) (l2 : Int) (G : gS) (Q : Int → gS → Prop) : Prop :=
  PX0_statement_231 R J l1 l2 1 G Q
def PX0_statement_201 (R : Nat → List Int → gS → (Int → gS → Prop) → Prop) (J : Nat → List Int → gS → (Int → gS → Prop) → Prop) (l1 : Int) (l2 : Int) (G : gS) (Q : Int → gS → Prop) : Prop :=
  Q (0) G
def PX0_statement_164 (R : Nat → List Int → gS → (Int → gS → Prop) → Prop) (J : Nat → List Int → gS → (Int → gS → Prop) → Prop) (l1 : Int) (l2 : Int) (s0 : Int) (G : gS) (Q : Int → gS → Prop) : Prop :=
  ((0 ≤ s0 ∧ s0 ≤ 1) ∧ Q (s0) G)
def PX0_statement_163 (R : Nat → List Int → gS → (Int → gS → Prop) → Prop) (J : Nat → List Int → gS → (Int → gS → Prop) → Prop) (l1 : Int) (l2 : Int) (G : gS) (Q : Int → gS → Prop) : Prop :=
  PX0_statement_164 R J l1 l2 0 G Q
def PX0_statement_140 (R : Nat → List Int → gS → (Int → gS → Prop) → Prop) (J : Nat → List Int → gS → (Int → gS → Prop) → Prop) (l1 : Int) (l2 : Int) (G : gS) (Q : Int → gS → Prop) : Prop :=
  (isO W0 8 (l1) ∧ ((G l1 5 = -1 ∨ isO W0 8 (G l1 5)) → Rq1 200 3 [G l1 5] G (fun r142 G141 => (0 ≤ r142 ∧ r142 ≤ 1) → ((r142 = 0 → PX0_statement_163 R J l1 l2 G141 Q) ∧ (¬ (r142 = 0) → PX0_let l1 G141 (fun r146 G145 => (0 ≤ r146 ∧ r146 ≤ 1) → ((r146 = 0 → PX0_statement_163 R J l1 l2 G145 Q) ∧ (¬ (r146 = 0) → PX0_statement_164 R J l1 l2 1 G145 Q))))))))
def PX0_statement_111 (R : Nat → List Int → gS → (Int → gS → Prop) → Prop) (J : Nat → List Int → gS → (Int → gS → Prop) → Prop) (l1 : Int) (l2 : Int) (l3 : Int) (s0 : Int) (G : gS) (Q : Int → gS → Prop) : Prop :=
  ((0 ≤ s0 ∧ s0 ≤ 1) ∧ Q (s0) G)
def PX0_statement_94 (R : Nat → List Int → gS → (Int → gS → Prop) → Prop) (J : Nat → List Int → gS → (Int → gS → Prop) → Prop) (l1 : Int) (l2 : Int) (l3 : Int) (G : gS) (Q : Int → gS → Prop) : Prop :=
  (∀ G156 : gS, G156 = uG G 815 11 (l2) → (inI (G156 815 3) → ((G156 815 3 = 0 → PX0_statement_111 R J l1 l2 l3 1 G156 Q) ∧ (¬ (G156 815 3 = 0) → PX0_statement_111 R J l1 l2 l3 0 G156 Q))))
def PX0_statement_69 (R : Nat → List Int → gS → (Int → gS → Prop) → Prop) (J : Nat → List Int → gS → (Int → gS → Prop) → Prop) (l1 : Int) (l2 : Int) (l3 : Int) (G : gS) (Q : Int → gS → Prop) : Prop :=
  ((l3 < 0 → PX0_statement_94 R J l1 l2 l3 G Q) ∧ (0 ≤ l3 → (inI (G 815 3) → ((G 815 3 = 0 → R 0 [l3] G (fun r135 G134 => (0 ≤ r135 ∧ r135 ≤ 1) → (isO W0 8 (l3) ∧ ((G134 l3 8 = -1 ∨ isO W0 8 (G134 l3 8)) → J 0 [l1, l2, G134 l3 8] G134 Q)))) ∧ (¬ (G 815 3 = 0) → PX0_statement_94 R J l1 l2 l3 G Q)))))
def PX0_statement_0 (R : Nat → List Int → gS → (Int → gS → Prop) → Prop) (J : Nat → List Int → gS → (Int → gS → Prop) → Prop) (a1 : Int) (G : gS) (Q : Int → gS → Prop) : Prop :=
  (inI (G 815 11) → (isO W0 8 (a1) ∧ (inI (G a1 0) → ((G a1 0 = 30 → ((G a1 5 = -1 ∨ isO W0 8 (G a1 5)) → PX0_statement_69 R J a1 (G 815 11) (G a1 5) G Q)) ∧ (G a1 0 = 31 → (inL (G a1 9) → ((G a1 9 = -1 → PX0_statement_140 R J a1 (G 815 11) G Q) ∧ (¬ (G a1 9 = -1) → (inL (G a1 9) → (inI (G a1 1) → (inI ((G a1 1) + 1) ∧ PX0_named (G a1 9) ((G a1 1) + 1) G (fun r12 G11 => inI r12 → ((r12 < 0 → PX0_statement_163 R J a1 (G 815 11) G11 Q) ∧ (¬ (r12 < 0) → PX0_statement_140 R J a1 (G 815 11) G11 Q)))))))))) ∧ (G a1 0 = 32 → ((G a1 5 = -1 ∨ isO W0 8 (G a1 5)) → Rq1 200 3 [G a1 5] G (fun r17 G16 => (0 ≤ r17 ∧ r17 ≤ 1) → ((r17 = 0 → PX0_statement_201 R J a1 (G 815 11) G16 Q) ∧ (¬ (r17 = 0) → ((G16 a1 5 = -1 ∨ isO W0 8 (G16 a1 5)) → PX0_wanted (G16 a1 5) (-1) G16 (fun r22 G21 => (0 ≤ r22 ∧ r22 ≤ 1) → ((r22 = 0 → PX0_statement_201 R J a1 (G 815 11) G21 Q) ∧ (¬ (r22 = 0) → ((G21 a1 6 = -1 ∨ isO W0 8 (G21 a1 6)) → R 0 [G21 a1 6] G21 (fun r27 G26 => (0 ≤ r27 ∧ r27 ≤ 1) → ((r27 = 0 → PX0_statement_201 R J a1 (G 815 11) G26 Q) ∧ (¬ (r27 = 0) → (∀ G30 : gS, G30 = uG G26 815 11 (G 815 11) → ((G30 a1 7 = -1 ∨ isO W0 8 (G30 a1 7)) → ((G30 a1 7 < 0 → PX0_statement_226 R J a1 (G 815 11) G30 Q) ∧ (0 ≤ G30 a1 7 → ((G30 a1 7 = -1 ∨ isO W0 8 (G30 a1 7)) → R 0 [G30 a1 7] G30 (fun r35 G34 => (0 ≤ r35 ∧ r35 ≤ 1) → ((r35 = 0 → PX0_statement_231 R J a1 (G 815 11) 0 G34 Q) ∧ (¬ (r35 = 0) → PX0_statement_226 R J a1 (G 815 11) G34 Q))))))))))))))))))))) ∧ (G a1 0 = 33 → ((G a1 5 = -1 ∨ isO W0 8 (G a1 5)) → Rq1 200 3 [G a1 5] G (fun r40 G39 => (0 ≤ r40 ∧ r40 ≤ 1) → ((r40 = 0 → PX0_statement_201 R J a1 (G 815 11) G39 Q) ∧ (¬ (r40 = 0) → ((G39 a1 5 = -1 ∨ isO W0 8 (G39 a1 5)) → PX0_wanted (G39 a1 5) (-1) G39 (fun r45 G44 => (0 ≤ r45 ∧ r45 ≤ 1) → ((r45 = 0 → PX0_statement_201 R J a1 (G 815 11) G44 Q) ∧ (¬ (r45 = 0) → ((G44 a1 6 = -1 ∨ isO W0 8 (G44 a1 6)) → R 0 [G44 a1 6] G44 (fun r50 G49 => (0 ≤ r50 ∧ r50 ≤ 1) → ((r50 = 0 → PX0_statement_201 R J a1 (G 815 11) G49 Q) ∧ (¬ (r50 = 0) → (∀ G53 : gS, G53 = uG G49 815 11 (G 815 11) → ((G53 a1 7 = -1 ∨ isO W0 8 (G53 a1 7)) → ((G53 a1 7 < 0 → PX0_statement_226 R J a1 (G 815 11) G53 Q) ∧ (0 ≤ G53 a1 7 → ((G53 a1 7 = -1 ∨ isO W0 8 (G53 a1 7)) → R 0 [G53 a1 7] G53 (fun r58 G57 => (0 ≤ r58 ∧ r58 ≤ 1) → ((r58 = 0 → PX0_statement_231 R J a1 (G 815 11) 0 G57 Q) ∧ (¬ (r58 = 0) → PX0_statement_226 R J a1 (G 815 11) G57 Q))))))))))))))))))))) ∧ (G a1 0 = 34 → ((G a1 5 = -1 ∨ isO W0 8 (G a1 5)) → Rq1 200 3 [G a1 5] G (fun r63 G62 => (0 ≤ r63 ∧ r63 ≤ 1) → ((r63 = 0 → PX0_statement_262 R J a1 (G 815 11) G62 Q) ∧ (¬ (r63 = 0) → PX0_returned a1 G62 (fun r67 G66 => (0 ≤ r67 ∧ r67 ≤ 1) → ((r67 = 0 → PX0_statement_262 R J a1 (G 815 11) G66 Q) ∧ (¬ (r67 = 0) → PX0_statement_263 R J a1 (G 815 11) 1 G66 Q)))))))) ∧ (G a1 0 = 35 → ((G a1 5 = -1 ∨ isO W0 8 (G a1 5)) → Rq1 200 3 [G a1 5] G (fun r72 G71 => (0 ≤ r72 ∧ r72 ≤ 1) → ((r72 = 0 → PX0_statement_293 R J a1 (G 815 11) G71 Q) ∧ (¬ (r72 = 0) → ((G71 a1 5 = -1 ∨ isO W0 8 (G71 a1 5)) → PX0_wanted (G71 a1 5) (-3887679601769447424) G71 (fun r77 G76 => (0 ≤ r77 ∧ r77 ≤ 1) → ((r77 = 0 → PX0_statement_293 R J a1 (G 815 11) G76 Q) ∧ (¬ (r77 = 0) → PX0_statement_294 R J a1 (G 815 11) 1 G76 Q))))))))) ∧ (G a1 0 = 36 → R 1 [a1] G (fun r81 G80 => (0 ≤ r81 ∧ r81 ≤ 1) → Q (r81) G80)) ∧ (G a1 0 = 37 → ((G a1 5 = -1 ∨ isO W0 8 (G a1 5)) → Rq1 200 3 [G a1 5] G (fun r85 G84 => (0 ≤ r85 ∧ r85 ≤ 1) → ((r85 = 0 → PX0_statement_330 R J a1 (G 815 11) G84 Q) ∧ (¬ (r85 = 0) → ((G84 a1 5 = -1 ∨ isO W0 8 (G84 a1 5)) → PX0_wanted (G84 a1 5) (-1) G84 (fun r90 G89 => (0 ≤ r90 ∧ r90 ≤ 1) → ((r90 = 0 → PX0_statement_330 R J a1 (G 815 11) G89 Q) ∧ (¬ (r90 = 0) → PX0_statement_331 R J a1 (G 815 11) 1 G89 Q))))))))) ∧ (G a1 0 = 38 → ((G a1 5 = -1 ∨ isO W0 8 (G a1 5)) → Rq1 200 4 [G a1 5] G (fun r95 G94 => (0 ≤ r95 ∧ r95 ≤ 1) → ((r95 = 0 → PX0_statement_355 R J a1 (G 815 11) G94 Q) ∧ (¬ (r95 = 0) → PX0_superMaker a1 G94 (fun r99 G98 => (0 ≤ r99 ∧ r99 ≤ 1) → ((r99 = 0 → PX0_statement_355 R J a1 (G 815 11) G98 Q) ∧ (¬ (r99 = 0) → PX0_statement_356 R J a1 (G 815 11) 1 G98 Q)))))))) ∧ (G a1 0 = 39 → ((G a1 5 = -1 ∨ isO W0 8 (G a1 5)) → Rq1 200 3 [G a1 5] G (fun r104 G103 => (0 ≤ r104 ∧ r104 ≤ 1) → ((r104 = 0 → PX0_statement_391 R J a1 (G 815 11) G103 Q) ∧ (¬ (r104 = 0) → ((G103 a1 6 = -1 ∨ isO W0 8 (G103 a1 6)) → Rq1 200 3 [G103 a1 6] G103 (fun r109 G108 => (0 ≤ r109 ∧ r109 ≤ 1) → ((r109 = 0 → PX0_statement_391 R J a1 (G 815 11) G108 Q) ∧ (¬ (r109 = 0) → PX0_put a1 G108 (fun r113 G112 => (0 ≤ r113 ∧ r113 ≤ 1) → ((r113 = 0 → PX0_statement_391 R J a1 (G 815 11) G112 Q) ∧ (¬ (r113 = 0) → PX0_statement_392 R J a1 (G 815 11) 1 G112 Q)))))))))))) ∧ ((G a1 0 < 30 ∨ 40 ≤ G a1 0) → ((G a1 5 = -1 ∨ isO W0 8 (G a1 5)) → Rq1 200 3 [G a1 5] G (fun r118 G117 => (0 ≤ r118 ∧ r118 ≤ 1) → ((r118 = 0 → PX0_statement_431 R J a1 (G 815 11) G117 Q) ∧ (¬ (r118 = 0) → ((G117 a1 5 = -1 ∨ isO W0 8 (G117 a1 5)) → PX0_isCall (G117 a1 5) G117 (fun r123 G122 => (0 ≤ r123 ∧ r123 ≤ 1) → ((r123 = 0 → (inI (G122 a1 1) → PX0_fail 19 (G122 a1 1) G122 (fun r128 G127 => (0 ≤ r128 ∧ r128 ≤ 1) → ((r128 = 0 → PX0_statement_431 R J a1 (G 815 11) G127 Q) ∧ (¬ (r128 = 0) → PX0_statement_427 R J a1 (G 815 11) G127 Q))))) ∧ (¬ (r123 = 0) → PX0_statement_427 R J a1 (G 815 11) G122 Q)))))))))))))
def PX0_statement_J (R : Nat → List Int → gS → (Int → gS → Prop) → Prop) : Nat → Nat → List Int → gS → (Int → gS → Prop) → Prop
  | 0, _, _, _, _ => False
  | f + 1, h, L, G, Q => match h, L with
    | 0, [l1, l2, l3] => PX0_statement_69 R (PX0_statement_J R f) l1 l2 l3 G Q
    | _, _ => False
def PX0_statement (R : Nat → List Int → gS → (Int → gS → Prop) → Prop) (a1 : Int) (G : gS) (Q : Int → gS → Prop) : Prop := ∃ f : Nat, f ≤ 4000000000 ∧ PX0_statement_0 R (PX0_statement_J R f) a1 G Q
def PX0_tried_120 (R : Nat → List Int → gS → (Int → gS → Prop) → Prop) (l1 : Int) (l2 : Int) (l3 : Int) (s0 : Int) (G : gS) (Q : Int → gS → Prop) : Prop :=
  (∀ G45 : gS, G45 = uG G 815 11 (l3) → ((0 ≤ s0 ∧ s0 ≤ 1) ∧ Q (s0) G45))
def PX0_tried_119 (R : Nat → List Int → gS → (Int → gS → Prop) → Prop) (l1 : Int) (l2 : Int) (l3 : Int) (G : gS) (Q : Int → gS → Prop) : Prop :=
  PX0_tried_120 R l1 l2 l3 0 G Q
def PX0_tried_0 (R : Nat → List Int → gS → (Int → gS → Prop) → Prop) (a1 : Int) (G : gS) (Q : Int → gS → Prop) : Prop :=
  (isO W0 8 (a1) ∧ ((G a1 5 = -1 ∨ isO W0 8 (G a1 5)) → R 0 [G a1 5] G (fun r4 G3 => (0 ≤ r4 ∧ r4 ≤ 1) → ((r4 = 0 → Q (0) G3) ∧ (¬ (r4 = 0) → (inL (G3 a1 10) → (inI (G3 a1 2) → PX0_named (G3 a1 10) (G3 a1 2) G3 (fun r10 G9 => inI r10 → ((r10 < 0 → Q (0) G9) ∧ (¬ (r10 < 0) → ((G9 815 0 = -1 ∨ isO W0 11 (G9 815 0)) → (inL (G9 a1 10) → (isO W0 11 (G9 815 0) ∧ PX11_fits (G9 815 0) (G9 a1 10) (-3887679601769447424) G9 (fun r17 G16 => (0 ≤ r17 ∧ r17 ≤ 1) → ((r17 = 0 → (inI (G16 a1 2) → PX0_fail 13 (G16 a1 2) G16 (fun r22 G21 => (0 ≤ r22 ∧ r22 ≤ 1) → Q (r22) G21))) ∧ (¬ (r17 = 0) → (inI (G16 815 11) → (inL (G16 a1 10) → ((G16 815 2 = -1 ∨ isO W0 9 (G16 815 2)) → (isO W0 9 (G16 815 2) ∧ (inI (G16 a1 2) → ((0 : Int) ≤ (G16 a1 2) + 1 ∧ (((G16 a1 2) + 1 : Int) < 704 ∧ (inL (G16 12 ((G16 a1 2) + 1)) → (inI (G16 a1 2) → (inI ((G16 a1 2) + 1) ∧ PX0_local (G16 a1 10) (G16 12 ((G16 a1 2) + 1)) ((G16 a1 2) + 1) G16 (fun r35 G34 => inI r35 → (∀ G37 : gS, G37 = uG G34 a1 4 (r35) → (inI (G37 815 3) → ((G37 815 3 = 0 → ((G37 a1 6 = -1 ∨ isO W0 8 (G37 a1 6)) → R 0 [G37 a1 6] G37 (fun r42 G41 => (0 ≤ r42 ∧ r42 ≤ 1) → ((r42 = 0 → PX0_tried_119 R a1 r10 (G16 815 11) G41 Q) ∧ (¬ (r42 = 0) → PX0_tried_120 R a1 r10 (G16 815 11) 1 G41 Q))))) ∧ (¬ (G37 815 3 = 0) → PX0_tried_119 R a1 r10 (G16 815 11) G37 Q)))))))))))))))))))))))))))))))
abbrev PX0_tried (R : Nat → List Int → gS → (Int → gS → Prop) → Prop) (a1 : Int) (G : gS) (Q : Int → gS → Prop) : Prop := PX0_tried_0 R a1 G Q
def Rq2 : Nat → Nat → List Int → gS → (Int → gS → Prop) → Prop
  | 0, _, _, _, _ => False
  | n + 1, i, L, G, Q => match i, L with
    | 0, [a1] => PX0_statement (Rq2 n) a1 G Q
    | 1, [a1] => PX0_tried (Rq2 n) a1 G Q
    | _, _ => False
def PX0_body_278 (J : Nat → List Int → gS → (Int → gS → Prop) → Prop) (l1 : Int) (l2 : Int) (s0 : Int) (s1 : Int) (s2 : Int) (G : gS) (Q : Int → gS → Prop) : Prop :=
  (isO W0 7 (s0) ∧ (inI (s1 + s2) ∧ (∀ G97 : gS, G97 = uG G s0 18 (s1 + s2) → Q 0 G97)))
def PX0_body_261 (J : Nat → List Int → gS → (Int → gS → Prop) → Prop) (l1 : Int) (l2 : Int) (G : gS) (Q : Int → gS → Prop) : Prop :=
  (inI (G 815 12) → ((0 ≤ G 815 8 ∧ G 815 8 ≤ 1) → ((G 815 8 = 0 → PX0_body_278 J l1 l2 l1 (G 815 12) 1 G Q) ∧ (¬ (G 815 8 = 0) → PX0_body_278 J l1 l2 l1 (G 815 12) 0 G Q))))
def PX0_body_196 (J : Nat → List Int → gS → (Int → gS → Prop) → Prop) (l1 : Int) (l2 : Int) (G : gS) (Q : Int → gS → Prop) : Prop :=
  (inI (G 815 3) → ((G 815 3 = 0 → (isO W0 7 (l1) ∧ ((G l1 14 = -1 ∨ isO W0 8 (G l1 14)) → ((G l1 14 < 0 → PX0_body_261 J l1 l2 G Q) ∧ (0 ≤ G l1 14 → ((G l1 14 = -1 ∨ isO W0 8 (G l1 14)) → Rq2 200 0 [G l1 14] G (fun r76 G75 => (0 ≤ r76 ∧ r76 ≤ 1) → ((r76 = 0 → PX0_body_261 J l1 l2 G75 Q) ∧ (¬ (r76 = 0) → (inI (G75 l1 0) → ((G75 l1 0 = 1 → (inL (G75 l1 8) → ((G75 l1 8 = -3 → PX0_body_261 J l1 l2 G75 Q) ∧ (¬ (G75 l1 8 = -3) → ((G75 l1 14 = -1 ∨ isO W0 8 (G75 l1 14)) → Rq0 200 0 [G75 l1 14] G75 (fun r85 G84 => (0 ≤ r85 ∧ r85 ≤ 1) → ((r85 = 0 → PX0_body_261 J l1 l2 G84 Q) ∧ (¬ (r85 = 0) → (inI (G84 l1 11) → PX0_fail 17 (G84 l1 11) G84 (fun r90 G89 => (0 ≤ r90 ∧ r90 ≤ 1) → PX0_body_261 J l1 l2 G89 Q)))))))))) ∧ (¬ (G75 l1 0 = 1) → PX0_body_261 J l1 l2 G75 Q)))))))))))) ∧ (¬ (G 815 3 = 0) → PX0_body_261 J l1 l2 G Q)))
def PX0_body_128 (J : Nat → List Int → gS → (Int → gS → Prop) → Prop) (l1 : Int) (l2 : Int) (l3 : Int) (s0 : Int) (s1 : Int) (s2 : Int) (G : gS) (Q : Int → gS → Prop) : Prop :=
  (isO W0 0 (s0) ∧ PX0_local s1 s2 l3 G (fun r66 G65 => inI r66 → (inI (l2 + 1) ∧ J 0 [l1, l2 + 1] G65 Q)))
def PX0_body_80 (J : Nat → List Int → gS → (Int → gS → Prop) → Prop) (l1 : Int) (l2 : Int) (G : gS) (Q : Int → gS → Prop) : Prop :=
  (isO W0 7 (l1) ∧ (inI (G l1 9) → ((l2 < G l1 9 → (inI (G l1 11) → (inI (((G l1 11) + 3) + (3 * l2)) ∧ ((0 : Int) ≤ l2 ∧ ((l2 : Int) < 4 ∧ (inL (G (l1 + 1) l2) → ((((G l1 11) + 3) + (3 * l2) < 700 → ((G 815 2 = -1 ∨ isO W0 9 (G 815 2)) → (isO W0 9 (G 815 2) ∧ ((0 : Int) ≤ ((G l1 11) + 3) + (3 * l2) ∧ ((((G l1 11) + 3) + (3 * l2) : Int) < 704 ∧ (inL (G 12 (((G l1 11) + 3) + (3 * l2))) → PX0_body_128 J l1 l2 (((G l1 11) + 3) + (3 * l2)) 815 (G (l1 + 1) l2) (G 12 (((G l1 11) + 3) + (3 * l2))) G Q)))))) ∧ (¬ (((G l1 11) + 3) + (3 * l2) < 700) → PX0_body_128 J l1 l2 (((G l1 11) + 3) + (3 * l2)) 815 (G (l1 + 1) l2) (-4) G Q)))))))) ∧ (¬ (l2 < G l1 9) → (inI (G 815 3) → ((G 815 3 = 0 → (inI (G l1 0) → ((G l1 0 = 2 → PX0_superFirst l1 G (fun r47 G46 => (0 ≤ r47 ∧ r47 ≤ 1) → ((r47 = 0 → ((G46 815 0 = -1 ∨ isO W0 11 (G46 815 0)) → (isO W0 11 (G46 815 0) ∧ (inI (G46 815 6) → ((0 : Int) ≤ G46 815 6 ∧ ((G46 815 6 : Int) < 64 ∧ (inI (G46 ((G46 815 0) + 2) (G46 815 6)) → PX0_meant (G46 ((G46 815 0) + 2) (G46 815 6)) (-4) (-1) 1 G46 (fun r57 G56 => ((r57 < 0 → (inI (G56 l1 11) → PX0_fail 18 (G56 l1 11) G56 (fun r62 G61 => (0 ≤ r62 ∧ r62 ≤ 1) → PX0_body_196 J l1 l2 G61 Q))) ∧ (0 ≤ r57 → PX0_body_196 J l1 l2 G56 Q)))))))))) ∧ (¬ (r47 = 0) → PX0_body_196 J l1 l2 G46 Q)))) ∧ (¬ (G l1 0 = 2) → PX0_body_196 J l1 l2 G Q)))) ∧ (¬ (G 815 3 = 0) → PX0_body_196 J l1 l2 G Q)))))))
def PX0_body_77 (J : Nat → List Int → gS → (Int → gS → Prop) → Prop) (l1 : Int) (G : gS) (Q : Int → gS → Prop) : Prop :=
  Q 0 G
def PX0_body_26 (J : Nat → List Int → gS → (Int → gS → Prop) → Prop) (l1 : Int) (s0 : Int) (s1 : Int) (G : gS) (Q : Int → gS → Prop) : Prop :=
  (isO W0 0 (s0) ∧ ((0 ≤ s1 ∧ s1 ≤ 1) ∧ (∀ G10 : gS, G10 = uG G s0 8 (s1) → (∀ G11 : gS, G11 = uG G10 815 11 (0) → (∀ G12 : gS, G12 = uG G11 815 12 (0) → (isO W0 7 (l1) ∧ (inI (G12 l1 0) → ((G12 l1 0 = 0 → ((G12 l1 14 = -1 ∨ isO W0 8 (G12 l1 14)) → ((G12 l1 14 < 0 → PX0_body_77 J l1 G12 Q) ∧ (0 ≤ G12 l1 14 → ((G12 l1 14 = -1 ∨ isO W0 8 (G12 l1 14)) → Rq1 200 3 [G12 l1 14] G12 (fun r20 G19 => (0 ≤ r20 ∧ r20 ≤ 1) → ((r20 = 0 → PX0_body_77 J l1 G19 Q) ∧ (¬ (r20 = 0) → ((G19 l1 14 = -1 ∨ isO W0 8 (G19 l1 14)) → (inL (G19 l1 8) → PX0_wanted (G19 l1 14) (G19 l1 8) G19 (fun r26 G25 => (0 ≤ r26 ∧ r26 ≤ 1) → PX0_body_77 J l1 G25 Q))))))))))) ∧ (¬ (G12 l1 0 = 0) → PX0_body_80 J l1 0 G12 Q)))))))))
def PX0_body_21 (J : Nat → List Int → gS → (Int → gS → Prop) → Prop) (l1 : Int) (s0 : Int) (G : gS) (Q : Int → gS → Prop) : Prop :=
  PX0_body_26 J l1 s0 1 G Q
def PX0_body_0 (J : Nat → List Int → gS → (Int → gS → Prop) → Prop) (a1 : Int) (G : gS) (Q : Int → gS → Prop) : Prop :=
  ((a1 = -1 ∨ isO W0 7 (a1)) ∧ (∀ G2 : gS, G2 = uG G 815 7 (a1) → (isO W0 7 (a1) ∧ ((0 ≤ G2 a1 2 ∧ G2 a1 2 ≤ 1) → ((G2 a1 2 = 0 → (inI (G2 a1 0) → ((G2 a1 0 = 3 → PX0_body_21 J a1 815 G2 Q) ∧ (¬ (G2 a1 0 = 3) → PX0_body_26 J a1 815 0 G2 Q)))) ∧ (¬ (G2 a1 2 = 0) → PX0_body_21 J a1 815 G2 Q))))))
def PX0_body_J : Nat → Nat → List Int → gS → (Int → gS → Prop) → Prop
  | 0, _, _, _, _ => False
  | f + 1, h, L, G, Q => match h, L with
    | 0, [l1, l2] => PX0_body_80 (PX0_body_J f) l1 l2 G Q
    | _, _ => False
def PX0_body (a1 : Int) (G : gS) (Q : Int → gS → Prop) : Prop := ∃ f : Nat, f ≤ 4000000000 ∧ PX0_body_0 (PX0_body_J f) a1 G Q
def PX0_fold_193 (R : Nat → List Int → gS → (Int → gS → Prop) → Prop) (l1 : Int) (l2 : Int) (s0 : Int) (G : gS) (Q : Int → gS → Prop) : Prop :=
  ((0 ≤ s0 ∧ s0 ≤ 1) ∧ Q (s0) G)
def PX0_fold_192 (R : Nat → List Int → gS → (Int → gS → Prop) → Prop) (l1 : Int) (l2 : Int) (G : gS) (Q : Int → gS → Prop) : Prop :=
  PX0_fold_193 R l1 l2 0 G Q
def PX0_fold_0 (R : Nat → List Int → gS → (Int → gS → Prop) → Prop) (a1 : Int) (G : gS) (Q : Int → gS → Prop) : Prop :=
  ((a1 < 0 → Q (0) G) ∧ (0 ≤ a1 → (isO W0 8 (a1) ∧ (inI (G a1 0) → ((G a1 0 = 1 → (inL (G a1 10) → (inI (l2i (G a1 10)) → (∀ G7 : gS, G7 = uG G 815 16 (l2i (G a1 10)) → Q (1) G7)))) ∧ (G a1 0 = 2 → Q (0) G) ∧ (G a1 0 = 3 → Q (0) G) ∧ (G a1 0 = 4 → (inI (G 815 6) → (inL (G a1 10) → PX0_foldField (G 815 6) (G a1 10) G (fun r11 G10 => (0 ≤ r11 ∧ r11 ≤ 1) → Q (r11) G10)))) ∧ (G a1 0 = 5 → Q (0) G) ∧ (G a1 0 = 6 → ((G 815 0 = -1 ∨ isO W0 11 (G 815 0)) → ((G 815 2 = -1 ∨ isO W0 9 (G 815 2)) → (isO W0 9 (G 815 2) ∧ (inI (G a1 1) → ((0 : Int) ≤ G a1 1 ∧ ((G a1 1 : Int) < 704 ∧ (inL (G 12 (G a1 1)) → (isO W0 11 (G 815 0) ∧ PX11_find (G 815 0) (G 12 (G a1 1)) G (fun r22 G21 => inI r22 → ((r22 < 0 → PX0_fold_192 R a1 r22 G21 Q) ∧ (¬ (r22 < 0) → ((G21 815 0 = -1 ∨ isO W0 11 (G21 815 0)) → (inI (G21 815 6) → (isO W0 11 (G21 815 0) ∧ PX11_isLet (G21 815 0) r22 (G21 815 6) G21 (fun r29 G28 => (0 ≤ r29 ∧ r29 ≤ 1) → ((r29 = 0 → PX0_fold_192 R a1 r22 G28 Q) ∧ (¬ (r29 = 0) → ((G28 815 2 = -1 ∨ isO W0 9 (G28 815 2)) → (isO W0 9 (G28 815 2) ∧ (inI (G28 a1 2) → ((0 : Int) ≤ G28 a1 2 ∧ ((G28 a1 2 : Int) < 704 ∧ (inL (G28 12 (G28 a1 2)) → PX0_foldField r22 (G28 12 (G28 a1 2)) G28 (fun r39 G38 => (0 ≤ r39 ∧ r39 ≤ 1) → ((r39 = 0 → PX0_fold_192 R a1 r22 G38 Q) ∧ (¬ (r39 = 0) → PX0_fold_193 R a1 r22 1 G38 Q))))))))))))))))))))))))))) ∧ (G a1 0 = 7 → Q (0) G) ∧ (G a1 0 = 8 → Q (0) G) ∧ (G a1 0 = 9 → Q (0) G) ∧ (G a1 0 = 10 → Q (0) G) ∧ (G a1 0 = 11 → Q (0) G) ∧ (G a1 0 = 12 → ((G a1 5 = -1 ∨ isO W0 8 (G a1 5)) → R 0 [G a1 5] G (fun r44 G43 => (0 ≤ r44 ∧ r44 ≤ 1) → Q (r44) G43))) ∧ (G a1 0 = 13 → Q (0) G) ∧ (G a1 0 = 14 → Q (0) G) ∧ (G a1 0 = 15 → Q (0) G) ∧ (G a1 0 = 16 → Q (0) G) ∧ (G a1 0 = 17 → R 1 [a1] G (fun r47 G46 => (0 ≤ r47 ∧ r47 ≤ 1) → Q (r47) G46)) ∧ (G a1 0 = 18 → R 2 [a1] G (fun r50 G49 => (0 ≤ r50 ∧ r50 ≤ 1) → Q (r50) G49)) ∧ ((G a1 0 < 1 ∨ 19 ≤ G a1 0) → Q (0) G))))))
abbrev PX0_fold (R : Nat → List Int → gS → (Int → gS → Prop) → Prop) (a1 : Int) (G : gS) (Q : Int → gS → Prop) : Prop := PX0_fold_0 R a1 G Q
def PX0_foldChain_84 (R : Nat → List Int → gS → (Int → gS → Prop) → Prop) (J : Nat → List Int → gS → (Int → gS → Prop) → Prop) (l1 : Int) (l2 : Int) (l3 : Int) (s0 : Int) (G : gS) (Q : Int → gS → Prop) : Prop :=
  (isO W0 8 (l3) ∧ ((G l3 8 = -1 ∨ isO W0 8 (G l3 8)) → J 0 [l1, s0, G l3 8] G Q))
def PX0_foldChain_26 (R : Nat → List Int → gS → (Int → gS → Prop) → Prop) (J : Nat → List Int → gS → (Int → gS → Prop) → Prop) (l1 : Int) (l2 : Int) (l3 : Int) (G : gS) (Q : Int → gS → Prop) : Prop :=
  ((l3 < 0 → (∀ G12 : gS, G12 = uG G 815 16 (l2) → Q (1) G12)) ∧ (0 ≤ l3 → R 0 [l3] G (fun r14 G13 => (0 ≤ r14 ∧ r14 ≤ 1) → ((r14 = 0 → Q (0) G13) ∧ (¬ (r14 = 0) → (isO W0 8 (l3) ∧ (inI (G13 l3 3) → ((G13 l3 3 = 143 → (inI (G13 815 16) → PX0_foldChain_84 R J l1 l2 l3 (w32 (l2 + (G13 815 16))) G13 Q)) ∧ (¬ (G13 l3 3 = 143) → (inI (G13 l3 3) → ((G13 l3 3 = 145 → (inI (G13 815 16) → PX0_foldChain_84 R J l1 l2 l3 (w32 (l2 - (G13 815 16))) G13 Q)) ∧ (¬ (G13 l3 3 = 145) → (inI (G13 815 16) → PX0_foldChain_84 R J l1 l2 l3 (w32 (l2 * (G13 815 16))) G13 Q)))))))))))))
def PX0_foldChain_0 (R : Nat → List Int → gS → (Int → gS → Prop) → Prop) (J : Nat → List Int → gS → (Int → gS → Prop) → Prop) (a1 : Int) (G : gS) (Q : Int → gS → Prop) : Prop :=
  (isO W0 8 (a1) ∧ ((G a1 5 = -1 ∨ isO W0 8 (G a1 5)) → R 0 [G a1 5] G (fun r4 G3 => (0 ≤ r4 ∧ r4 ≤ 1) → ((r4 = 0 → Q (0) G3) ∧ (¬ (r4 = 0) → (inI (G3 815 16) → ((G3 a1 5 = -1 ∨ isO W0 8 (G3 a1 5)) → (isO W0 8 (G3 a1 5) ∧ ((G3 (G3 a1 5) 8 = -1 ∨ isO W0 8 (G3 (G3 a1 5) 8)) → PX0_foldChain_26 R J a1 (G3 815 16) (G3 (G3 a1 5) 8) G3 Q)))))))))
def PX0_foldChain_J (R : Nat → List Int → gS → (Int → gS → Prop) → Prop) : Nat → Nat → List Int → gS → (Int → gS → Prop) → Prop
  | 0, _, _, _, _ => False
  | f + 1, h, L, G, Q => match h, L with
    | 0, [l1, l2, l3] => PX0_foldChain_26 R (PX0_foldChain_J R f) l1 l2 l3 G Q
    | _, _ => False
def PX0_foldChain (R : Nat → List Int → gS → (Int → gS → Prop) → Prop) (a1 : Int) (G : gS) (Q : Int → gS → Prop) : Prop := ∃ f : Nat, f ≤ 4000000000 ∧ PX0_foldChain_0 R (PX0_foldChain_J R f) a1 G Q
def PX0_foldCompare_66 (R : Nat → List Int → gS → (Int → gS → Prop) → Prop) (l1 : Int) (l2 : Int) (s0 : Int) (s1 : Int) (G : gS) (Q : Int → gS → Prop) : Prop :=
  (isO W0 0 (s0) ∧ (∀ G20 : gS, G20 = uG G s0 16 (s1) → Q (1) G20))
def PX0_foldCompare_65 (R : Nat → List Int → gS → (Int → gS → Prop) → Prop) (l1 : Int) (l2 : Int) (s0 : Int) (G : gS) (Q : Int → gS → Prop) : Prop :=
  PX0_foldCompare_66 R l1 l2 s0 0 G Q
def PX0_foldCompare_61 (R : Nat → List Int → gS → (Int → gS → Prop) → Prop) (l1 : Int) (l2 : Int) (s0 : Int) (G : gS) (Q : Int → gS → Prop) : Prop :=
  PX0_foldCompare_66 R l1 l2 s0 1 G Q
def PX0_foldCompare_0 (R : Nat → List Int → gS → (Int → gS → Prop) → Prop) (a1 : Int) (G : gS) (Q : Int → gS → Prop) : Prop :=
  (isO W0 8 (a1) ∧ ((G a1 5 = -1 ∨ isO W0 8 (G a1 5)) → R 0 [G a1 5] G (fun r4 G3 => (0 ≤ r4 ∧ r4 ≤ 1) → ((r4 = 0 → Q (0) G3) ∧ (¬ (r4 = 0) → (inI (G3 815 16) → ((G3 a1 6 = -1 ∨ isO W0 8 (G3 a1 6)) → R 0 [G3 a1 6] G3 (fun r10 G9 => (0 ≤ r10 ∧ r10 ≤ 1) → ((r10 = 0 → Q (0) G9) ∧ (¬ (r10 = 0) → (inI (G9 a1 3) → ((G9 a1 3 = 160 → (inI (G9 815 16) → ((G3 815 16 < G9 815 16 → PX0_foldCompare_61 R a1 (G3 815 16) 815 G9 Q) ∧ (¬ (G3 815 16 < G9 815 16) → PX0_foldCompare_65 R a1 (G3 815 16) 815 G9 Q)))) ∧ (¬ (G9 a1 3 = 160) → (inI (G9 815 16) → ((G3 815 16 = G9 815 16 → PX0_foldCompare_61 R a1 (G3 815 16) 815 G9 Q) ∧ (¬ (G3 815 16 = G9 815 16) → PX0_foldCompare_65 R a1 (G3 815 16) 815 G9 Q))))))))))))))))
abbrev PX0_foldCompare (R : Nat → List Int → gS → (Int → gS → Prop) → Prop) (a1 : Int) (G : gS) (Q : Int → gS → Prop) : Prop := PX0_foldCompare_0 R a1 G Q
def Rq3 : Nat → Nat → List Int → gS → (Int → gS → Prop) → Prop
  | 0, _, _, _, _ => False
  | n + 1, i, L, G, Q => match i, L with
    | 0, [a1] => PX0_fold (Rq3 n) a1 G Q
    | 1, [a1] => PX0_foldChain (Rq3 n) a1 G Q
    | 2, [a1] => PX0_foldCompare (Rq3 n) a1 G Q
    | _, _ => False
def PX0_constants_86 (J : Nat → List Int → gS → (Int → gS → Prop) → Prop) (l1 : Int) (l2 : Int) (G : gS) (Q : Int → gS → Prop) : Prop :=
  (inI (l1 + 1) ∧ J 0 [l1 + 1] G Q)
def PX0_constants_2 (J : Nat → List Int → gS → (Int → gS → Prop) → Prop) (l1 : Int) (G : gS) (Q : Int → gS → Prop) : Prop :=
  ((G 815 5 = -1 ∨ isO W0 10 (G 815 5)) → (isO W0 10 (G 815 5) ∧ (inI (G (G 815 5) 15) → ((l1 < G (G 815 5) 15 → ((G 815 5 = -1 ∨ isO W0 10 (G 815 5)) → (isO W0 10 (G 815 5) ∧ ((0 : Int) ≤ l1 ∧ ((l1 : Int) < 33 ∧ (((G ((G 815 5) + 4) l1 = -1 ∨ isO W0 7 (G ((G 815 5) + 4) l1)) ∧ ∀ v, W0.2 ((G 815 5) + 4) l1 = some v → G ((G 815 5) + 4) l1 = v) → (isO W0 7 (G ((G 815 5) + 4) l1) ∧ (inI (G (G ((G 815 5) + 4) l1) 0) → ((G (G ((G 815 5) + 4) l1) 0 = 0 → ((0 ≤ G (G ((G 815 5) + 4) l1) 2 ∧ G (G ((G 815 5) + 4) l1) 2 ≤ 1) → ((G (G ((G 815 5) + 4) l1) 2 = 0 → PX0_constants_86 J l1 (G ((G 815 5) + 4) l1) G Q) ∧ (¬ (G (G ((G 815 5) + 4) l1) 2 = 0) → ((0 ≤ G (G ((G 815 5) + 4) l1) 3 ∧ G (G ((G 815 5) + 4) l1) 3 ≤ 1) → ((G (G ((G 815 5) + 4) l1) 3 = 0 → PX0_constants_86 J l1 (G ((G 815 5) + 4) l1) G Q) ∧ (¬ (G (G ((G 815 5) + 4) l1) 3 = 0) → (inL (G (G ((G 815 5) + 4) l1) 8) → ((G (G ((G 815 5) + 4) l1) 8 = -1 → ((G (G ((G 815 5) + 4) l1) 14 = -1 ∨ isO W0 8 (G (G ((G 815 5) + 4) l1) 14)) → ((G (G ((G 815 5) + 4) l1) 14 < 0 → PX0_constants_86 J l1 (G ((G 815 5) + 4) l1) G Q) ∧ (0 ≤ G (G ((G 815 5) + 4) l1) 14 → ((G (G ((G 815 5) + 4) l1) 14 = -1 ∨ isO W0 8 (G (G ((G 815 5) + 4) l1) 14)) → Rq3 200 0 [G (G ((G 815 5) + 4) l1) 14] G (fun r23 G22 => (0 ≤ r23 ∧ r23 ≤ 1) → ((r23 = 0 → PX0_constants_86 J l1 (G ((G 815 5) + 4) l1) G22 Q) ∧ (¬ (r23 = 0) → (∀ G26 : gS, G26 = uG G22 (G ((G 815 5) + 4) l1) 15 (1) → (inI (G26 815 16) → (∀ G28 : gS, G28 = uG G26 (G ((G 815 5) + 4) l1) 16 (G26 815 16) → PX0_constants_86 J l1 (G ((G 815 5) + 4) l1) G28 Q))))))))))) ∧ (¬ (G (G ((G 815 5) + 4) l1) 8 = -1) → PX0_constants_86 J l1 (G ((G 815 5) + 4) l1) G Q)))))))))) ∧ (¬ (G (G ((G 815 5) + 4) l1) 0 = 0) → PX0_constants_86 J l1 (G ((G 815 5) + 4) l1) G Q)))))))))) ∧ (¬ (l1 < G (G 815 5) 15) → Q 0 G)))))
def PX0_constants_0 (J : Nat → List Int → gS → (Int → gS → Prop) → Prop)  (G : gS) (Q : Int → gS → Prop) : Prop :=
  PX0_constants_2 J 0 G Q
def PX0_constants_J : Nat → Nat → List Int → gS → (Int → gS → Prop) → Prop
  | 0, _, _, _, _ => False
  | f + 1, h, L, G, Q => match h, L with
    | 0, [l1] => PX0_constants_2 (PX0_constants_J f) l1 G Q
    | _, _ => False
def PX0_constants  (G : gS) (Q : Int → gS → Prop) : Prop := ∃ f : Nat, f ≤ 4000000000 ∧ PX0_constants_0 (PX0_constants_J f)  G Q
def PX0_judge_286 (J : Nat → List Int → gS → (Int → gS → Prop) → Prop) (l1 : Int) (l2 : Int) (l3 : Int) (l4 : Int) (s0 : Int) (G : gS) (Q : Int → gS → Prop) : Prop :=
  ((0 ≤ s0 ∧ s0 ≤ 1) ∧ Q (s0) G)
def PX0_judge_274 (J : Nat → List Int → gS → (Int → gS → Prop) → Prop) (l1 : Int) (l2 : Int) (l3 : Int) (l4 : Int) (G : gS) (Q : Int → gS → Prop) : Prop :=
  (inI (G 815 3) → ((G 815 3 = 0 → PX0_judge_286 J l1 l2 l3 l4 1 G Q) ∧ (¬ (G 815 3 = 0) → PX0_judge_286 J l1 l2 l3 l4 0 G Q)))
def PX0_judge_268 (J : Nat → List Int → gS → (Int → gS → Prop) → Prop) (l1 : Int) (l2 : Int) (l3 : Int) (l4 : Int) (l5 : Int) (G : gS) (Q : Int → gS → Prop) : Prop :=
  (inI (l4 + 1) ∧ J 1 [l1, l2, l3, l4 + 1] G Q)
def PX0_judge_262 (J : Nat → List Int → gS → (Int → gS → Prop) → Prop) (l1 : Int) (l2 : Int) (l3 : Int) (l4 : Int) (l5 : Int) (l6 : Int) (G : gS) (Q : Int → gS → Prop) : Prop :=
  (inI (l5 + 1) ∧ J 3 [l1, l2, l3, l4, l5 + 1] G Q)
def PX0_judge_176 (J : Nat → List Int → gS → (Int → gS → Prop) → Prop) (l1 : Int) (l2 : Int) (l3 : Int) (l4 : Int) (l5 : Int) (G : gS) (Q : Int → gS → Prop) : Prop :=
  ((G 815 5 = -1 ∨ isO W0 10 (G 815 5)) → (isO W0 10 (G 815 5) ∧ (inI (G (G 815 5) 15) → ((l5 < G (G 815 5) 15 → (inI (G 815 3) → ((G 815 3 = 0 → ((G 815 5 = -1 ∨ isO W0 10 (G 815 5)) → (isO W0 10 (G 815 5) ∧ ((0 : Int) ≤ l5 ∧ ((l5 : Int) < 33 ∧ (((G ((G 815 5) + 4) l5 = -1 ∨ isO W0 7 (G ((G 815 5) + 4) l5)) ∧ ∀ v, W0.2 ((G 815 5) + 4) l5 = some v → G ((G 815 5) + 4) l5 = v) → (isO W0 7 (G ((G 815 5) + 4) l5) ∧ (inI (G (G ((G 815 5) + 4) l5) 0) → ((G (G ((G 815 5) + 4) l5) 0 = 2 → ((0 ≤ G (G ((G 815 5) + 4) l5) 6 ∧ G (G ((G 815 5) + 4) l5) 6 ≤ 1) → ((G (G ((G 815 5) + 4) l5) 6 = 0 → ((G 815 0 = -1 ∨ isO W0 11 (G 815 0)) → (isO W0 11 (G 815 0) ∧ (inI (G 815 6) → ((0 : Int) ≤ G 815 6 ∧ ((G 815 6 : Int) < 64 ∧ (inI (G ((G 815 0) + 2) (G 815 6)) → PX0_meant (G ((G 815 0) + 2) (G 815 6)) (-4) (-1) 1 G (fun r99 G98 => ((r99 < 0 → ((G98 815 5 = -1 ∨ isO W0 10 (G98 815 5)) → (isO W0 10 (G98 815 5) ∧ (inI (G98 (G98 815 5) 2) → PX0_fail 18 (G98 (G98 815 5) 2) G98 (fun r106 G105 => (0 ≤ r106 ∧ r106 ≤ 1) → PX0_judge_262 J l1 l2 l3 l4 l5 (G ((G 815 5) + 4) l5) G105 Q))))) ∧ (0 ≤ r99 → PX0_judge_262 J l1 l2 l3 l4 l5 (G ((G 815 5) + 4) l5) G98 Q)))))))))) ∧ (¬ (G (G ((G 815 5) + 4) l5) 6 = 0) → PX0_judge_262 J l1 l2 l3 l4 l5 (G ((G 815 5) + 4) l5) G Q)))) ∧ (¬ (G (G ((G 815 5) + 4) l5) 0 = 2) → PX0_judge_262 J l1 l2 l3 l4 l5 (G ((G 815 5) + 4) l5) G Q)))))))))) ∧ (¬ (G 815 3 = 0) → PX0_judge_268 J l1 l2 l3 l4 l5 G Q)))) ∧ (¬ (l5 < G (G 815 5) 15) → PX0_judge_268 J l1 l2 l3 l4 l5 G Q)))))
def PX0_judge_173 (J : Nat → List Int → gS → (Int → gS → Prop) → Prop) (l1 : Int) (l2 : Int) (l3 : Int) (l4 : Int) (l5 : Int) (G : gS) (Q : Int → gS → Prop) : Prop :=
  PX0_judge_176 J l1 l2 l3 l4 0 G Q
def PX0_judge_134 (J : Nat → List Int → gS → (Int → gS → Prop) → Prop) (l1 : Int) (l2 : Int) (l3 : Int) (l4 : Int) (l5 : Int) (G : gS) (Q : Int → gS → Prop) : Prop :=
  ((G 815 5 = -1 ∨ isO W0 10 (G 815 5)) → (isO W0 10 (G 815 5) ∧ (inI (G (G 815 5) 13) → ((l5 < G (G 815 5) 13 → (inI (G 815 3) → ((G 815 3 = 0 → ((G 815 5 = -1 ∨ isO W0 10 (G 815 5)) → (isO W0 10 (G 815 5) ∧ ((0 : Int) ≤ l5 ∧ ((l5 : Int) < 20 ∧ (((G ((G 815 5) + 3) l5 = -1 ∨ isO W0 7 (G ((G 815 5) + 3) l5)) ∧ ∀ v, W0.2 ((G 815 5) + 3) l5 = some v → G ((G 815 5) + 3) l5 = v) → PX0_body (G ((G 815 5) + 3) l5) G (fun _ G70 => (inI (l5 + 1) ∧ J 2 [l1, l2, l3, l4, l5 + 1] G70 Q)))))))) ∧ (¬ (G 815 3 = 0) → PX0_judge_173 J l1 l2 l3 l4 l5 G Q)))) ∧ (¬ (l5 < G (G 815 5) 13) → PX0_judge_173 J l1 l2 l3 l4 l5 G Q)))))
def PX0_judge_80 (J : Nat → List Int → gS → (Int → gS → Prop) → Prop) (l1 : Int) (l2 : Int) (l3 : Int) (l4 : Int) (G : gS) (Q : Int → gS → Prop) : Prop :=
  ((G 815 1 = -1 ∨ isO W0 1 (G 815 1)) → (isO W0 1 (G 815 1) ∧ (inI (G (G 815 1) 3) → ((l4 < G (G 815 1) 3 → (inI (G 815 3) → ((G 815 3 = 0 → ((G 815 1 = -1 ∨ isO W0 1 (G 815 1)) → (isO W0 1 (G 815 1) ∧ (((G (G 815 1) 2 = -1 ∨ ∃ n, isA W0 4 n (G (G 815 1) 2)) ∧ ∀ v, W0.2 (G 815 1) 2 = some v → G (G 815 1) 2 = v) → (∃ n43, isA W0 4 n43 (G (G 815 1) 2) ∧ ((0 : Int) ≤ l4 ∧ ((l4 : Int) < n43 ∧ (((G (G (G 815 1) 2) l4 = -1 ∨ isO W0 10 (G (G (G 815 1) 2) l4)) ∧ ∀ v, W0.2 (G (G 815 1) 2) l4 = some v → G (G (G 815 1) 2) l4 = v) → ((G (G (G 815 1) 2) l4 = -1 ∨ isO W0 10 (G (G (G 815 1) 2) l4)) ∧ (∀ G49 : gS, G49 = uG G 815 5 (G (G (G 815 1) 2) l4) → ((G49 815 0 = -1 ∨ isO W0 11 (G49 815 0)) → ((G49 815 5 = -1 ∨ isO W0 10 (G49 815 5)) → (isO W0 10 (G49 815 5) ∧ (inL (G49 (G49 815 5) 1) → (isO W0 11 (G49 815 0) ∧ PX11_find (G49 815 0) (G49 (G49 815 5) 1) G49 (fun r56 G55 => inI r56 → (∀ G58 : gS, G58 = uG G55 815 6 (r56) → PX0_judge_134 J l1 l2 l3 l4 0 G58 Q))))))))))))))))) ∧ (¬ (G 815 3 = 0) → PX0_judge_274 J l1 l2 l3 l4 G Q)))) ∧ (¬ (l4 < G (G 815 1) 3) → PX0_judge_274 J l1 l2 l3 l4 G Q)))))
def PX0_judge_23 (J : Nat → List Int → gS → (Int → gS → Prop) → Prop) (l1 : Int) (l2 : Int) (l3 : Int) (l4 : Int) (G : gS) (Q : Int → gS → Prop) : Prop :=
  ((G 815 1 = -1 ∨ isO W0 1 (G 815 1)) → (isO W0 1 (G 815 1) ∧ (inI (G (G 815 1) 3) → ((l4 < G (G 815 1) 3 → ((G 815 1 = -1 ∨ isO W0 1 (G 815 1)) → (isO W0 1 (G 815 1) ∧ (((G (G 815 1) 2 = -1 ∨ ∃ n, isA W0 4 n (G (G 815 1) 2)) ∧ ∀ v, W0.2 (G 815 1) 2 = some v → G (G 815 1) 2 = v) → (∃ n15, isA W0 4 n15 (G (G 815 1) 2) ∧ ((0 : Int) ≤ l4 ∧ ((l4 : Int) < n15 ∧ (((G (G (G 815 1) 2) l4 = -1 ∨ isO W0 10 (G (G (G 815 1) 2) l4)) ∧ ∀ v, W0.2 (G (G 815 1) 2) l4 = some v → G (G (G 815 1) 2) l4 = v) → ((G (G (G 815 1) 2) l4 = -1 ∨ isO W0 10 (G (G (G 815 1) 2) l4)) ∧ (∀ G21 : gS, G21 = uG G 815 5 (G (G (G 815 1) 2) l4) → ((G21 815 0 = -1 ∨ isO W0 11 (G21 815 0)) → ((G21 815 5 = -1 ∨ isO W0 10 (G21 815 5)) → (isO W0 10 (G21 815 5) ∧ (inL (G21 (G21 815 5) 1) → (isO W0 11 (G21 815 0) ∧ PX11_find (G21 815 0) (G21 (G21 815 5) 1) G21 (fun r28 G27 => inI r28 → (∀ G30 : gS, G30 = uG G27 815 6 (r28) → PX0_constants G30 (fun _ G31 => (inI (l4 + 1) ∧ J 0 [l1, l2, l3, l4 + 1] G31 Q))))))))))))))))))) ∧ (¬ (l4 < G (G 815 1) 3) → PX0_judge_80 J l1 l2 l3 0 G Q)))))
def PX0_judge_0 (J : Nat → List Int → gS → (Int → gS → Prop) → Prop) (a1 : Int) (a2 : Int) (a3 : Int) (G : gS) (Q : Int → gS → Prop) : Prop :=
  ((a1 = -1 ∨ isO W0 11 (a1)) ∧ (∀ G2 : gS, G2 = uG G 815 0 (a1) → ((a2 = -1 ∨ isO W0 1 (a2)) ∧ (∀ G4 : gS, G4 = uG G2 815 1 (a2) → ((a3 = -1 ∨ isO W0 9 (a3)) ∧ (∀ G6 : gS, G6 = uG G4 815 2 (a3) → (∀ G7 : gS, G7 = uG G6 815 3 (0) → PX0_judge_23 J a1 a2 a3 0 G7 Q)))))))
def PX0_judge_J : Nat → Nat → List Int → gS → (Int → gS → Prop) → Prop
  | 0, _, _, _, _ => False
  | f + 1, h, L, G, Q => match h, L with
    | 0, [l1, l2, l3, l4] => PX0_judge_23 (PX0_judge_J f) l1 l2 l3 l4 G Q
    | 1, [l1, l2, l3, l4] => PX0_judge_80 (PX0_judge_J f) l1 l2 l3 l4 G Q
    | 2, [l1, l2, l3, l4, l5] => PX0_judge_134 (PX0_judge_J f) l1 l2 l3 l4 l5 G Q
    | 3, [l1, l2, l3, l4, l5] => PX0_judge_176 (PX0_judge_J f) l1 l2 l3 l4 l5 G Q
    | _, _ => False
def PX0_judge (a1 : Int) (a2 : Int) (a3 : Int) (G : gS) (Q : Int → gS → Prop) : Prop := ∃ f : Nat, f ≤ 4000000000 ∧ PX0_judge_0 (PX0_judge_J f) a1 a2 a3 G Q
def PX3_args_47 (R : Nat → List Int → gS → (Int → gS → Prop) → Prop) (J : Nat → List Int → gS → (Int → gS → Prop) → Prop) (l1 : Int) (l2 : Int) (l3 : Int) (l4 : Int) (G : gS) (Q : Int → gS → Prop) : Prop :=
  (inI (l3 + 1) ∧ (isO W0 8 (l4) ∧ ((G l4 8 = -1 ∨ isO W0 8 (G l4 8)) → J 0 [l1, l2, l3 + 1, G l4 8] G Q)))
def PX3_args_5 (R : Nat → List Int → gS → (Int → gS → Prop) → Prop) (J : Nat → List Int → gS → (Int → gS → Prop) → Prop) (l1 : Int) (l2 : Int) (l3 : Int) (l4 : Int) (G : gS) (Q : Int → gS → Prop) : Prop :=
  ((l4 < 0 → Q 0 G) ∧ (0 ≤ l4 → R 3 [l4] G (fun _ G2 => ((l2 < 0 → PX3_args_47 R J l1 l2 l3 l4 G2 Q) ∧ (0 ≤ l2 → (isO W0 7 (l2) ∧ (inI (G2 l2 9) → ((l3 < G2 l2 9 → (isO W0 8 (l4) ∧ (inL (G2 l4 9) → ((0 : Int) ≤ l3 ∧ ((l3 : Int) < 4 ∧ (inL (G2 (l2 + 1) l3) → PX3_useOf 17 (G2 l4 9) (-1) (G2 (l2 + 1) l3) G2 (fun r14 G13 => inI r14 → PX3_args_47 R J l1 l2 l3 l4 G13 Q))))))) ∧ (¬ (l3 < G2 l2 9) → PX3_args_47 R J l1 l2 l3 l4 G2 Q)))))))))
def PX3_args_0 (R : Nat → List Int → gS → (Int → gS → Prop) → Prop) (J : Nat → List Int → gS → (Int → gS → Prop) → Prop) (a1 : Int) (a2 : Int) (G : gS) (Q : Int → gS → Prop) : Prop :=
  PX3_args_5 R J a1 a2 0 a1 G Q
def PX3_args_J (R : Nat → List Int → gS → (Int → gS → Prop) → Prop) : Nat → Nat → List Int → gS → (Int → gS → Prop) → Prop
  | 0, _, _, _, _ => False
  | f + 1, h, L, G, Q => match h, L with
    | 0, [l1, l2, l3, l4] => PX3_args_5 R (PX3_args_J R f) l1 l2 l3 l4 G Q
    | _, _ => False
def PX3_args (R : Nat → List Int → gS → (Int → gS → Prop) → Prop) (a1 : Int) (a2 : Int) (G : gS) (Q : Int → gS → Prop) : Prop := ∃ f : Nat, f ≤ 4000000000 ∧ PX3_args_0 R (PX3_args_J R f) a1 a2 G Q
def PX3_call_73 (R : Nat → List Int → gS → (Int → gS → Prop) → Prop) (l1 : Int) (l2 : Int) (s0 : Int) (G : gS) (Q : Int → gS → Prop) : Prop :=
  ((G 820 1 = -1 ∨ isO W0 1 (G 820 1)) → (isO W0 8 (l1) ∧ (inL (G l1 10) → PX3_useOf s0 (G l1 10) l2 (-4) G (fun r28 G27 => inI r28 → (isO W0 1 (G 820 1) ∧ PX1_emit (G 820 1) 34 r28 G27 (fun r32 G31 => inI r32 → Q 0 G31))))))
def PX3_call_27 (R : Nat → List Int → gS → (Int → gS → Prop) → Prop) (l1 : Int) (l2 : Int) (G : gS) (Q : Int → gS → Prop) : Prop :=
  (isO W0 8 (l1) ∧ ((G l1 5 = -1 ∨ isO W0 8 (G l1 5)) → R 0 [G l1 5, l2] G (fun _ G14 => (inI (G14 l1 0) → ((G14 l1 0 = 9 → PX3_call_73 R l1 l2 11 G14 Q) ∧ (¬ (G14 l1 0 = 9) → (inI (G14 l1 0) → ((G14 l1 0 = 8 → PX3_call_73 R l1 l2 12 G14 Q) ∧ (¬ (G14 l1 0 = 8) → (inL (G14 l1 10) → PX3_callSort (G14 l1 10) l2 G14 (fun r22 G21 => inI r22 → PX3_call_73 R l1 l2 r22 G21 Q)))))))))))
def PX3_call_0 (R : Nat → List Int → gS → (Int → gS → Prop) → Prop) (a1 : Int) (G : gS) (Q : Int → gS → Prop) : Prop :=
  (isO W0 8 (a1) ∧ ((G a1 11 = -1 ∨ isO W0 7 (G a1 11)) → ((G a1 11 < 0 → Q 0 G) ∧ (0 ≤ G a1 11 → (isO W0 7 (G a1 11) ∧ ((0 ≤ G (G a1 11) 2 ∧ G (G a1 11) 2 ≤ 1) → ((G (G a1 11) 2 = 0 → ((G 820 1 = -1 ∨ isO W0 1 (G 820 1)) → (isO W0 1 (G 820 1) ∧ PX1_emit (G 820 1) 3 0 G (fun r10 G9 => inI r10 → PX3_call_27 R a1 (G a1 11) G9 Q)))) ∧ (¬ (G (G a1 11) 2 = 0) → PX3_call_27 R a1 (G a1 11) G Q))))))))
abbrev PX3_call (R : Nat → List Int → gS → (Int → gS → Prop) → Prop) (a1 : Int) (G : gS) (Q : Int → gS → Prop) : Prop := PX3_call_0 R a1 G Q
def PX3_chain_72 (R : Nat → List Int → gS → (Int → gS → Prop) → Prop) (J : Nat → List Int → gS → (Int → gS → Prop) → Prop) (l1 : Int) (l2 : Int) (s0 : Int) (s1 : Int) (G : gS) (Q : Int → gS → Prop) : Prop :=
  (isO W0 1 (s0) ∧ PX1_emit s0 s1 0 G (fun r21 G20 => inI r21 → (isO W0 8 (l2) ∧ ((G20 l2 8 = -1 ∨ isO W0 8 (G20 l2 8)) → J 0 [l1, G20 l2 8] G20 Q))))
def PX3_chain_27 (R : Nat → List Int → gS → (Int → gS → Prop) → Prop) (J : Nat → List Int → gS → (Int → gS → Prop) → Prop) (l1 : Int) (l2 : Int) (G : gS) (Q : Int → gS → Prop) : Prop :=
  ((l2 < 0 → Q 0 G) ∧ (0 ≤ l2 → R 3 [l2] G (fun _ G11 => ((G11 820 1 = -1 ∨ isO W0 1 (G11 820 1)) → (isO W0 8 (l2) ∧ (inI (G11 l2 3) → ((G11 l2 3 = 143 → PX3_chain_72 R J l1 l2 (G11 820 1) 7 G11 Q) ∧ (¬ (G11 l2 3 = 143) → (inI (G11 l2 3) → ((G11 l2 3 = 145 → PX3_chain_72 R J l1 l2 (G11 820 1) 8 G11 Q) ∧ (¬ (G11 l2 3 = 145) → PX3_chain_72 R J l1 l2 (G11 820 1) 9 G11 Q)))))))))))
def PX3_chain_26 (R : Nat → List Int → gS → (Int → gS → Prop) → Prop) (J : Nat → List Int → gS → (Int → gS → Prop) → Prop) (l1 : Int) (s0 : Int) (G : gS) (Q : Int → gS → Prop) : Prop :=
  PX3_chain_27 R J l1 s0 G Q
def PX3_chain_0 (R : Nat → List Int → gS → (Int → gS → Prop) → Prop) (J : Nat → List Int → gS → (Int → gS → Prop) → Prop) (a1 : Int) (G : gS) (Q : Int → gS → Prop) : Prop :=
  (isO W0 8 (a1) ∧ ((G a1 5 = -1 ∨ isO W0 8 (G a1 5)) → R 3 [G a1 5] G (fun _ G3 => ((G3 a1 5 = -1 ∨ isO W0 8 (G3 a1 5)) → ((G3 a1 5 < 0 → PX3_chain_26 R J a1 (-1) G3 Q) ∧ (0 ≤ G3 a1 5 → ((G3 a1 5 = -1 ∨ isO W0 8 (G3 a1 5)) → (isO W0 8 (G3 a1 5) ∧ ((G3 (G3 a1 5) 8 = -1 ∨ isO W0 8 (G3 (G3 a1 5) 8)) → PX3_chain_26 R J a1 (G3 (G3 a1 5) 8) G3 Q)))))))))
def PX3_chain_J (R : Nat → List Int → gS → (Int → gS → Prop) → Prop) : Nat → Nat → List Int → gS → (Int → gS → Prop) → Prop
  | 0, _, _, _, _ => False
  | f + 1, h, L, G, Q => match h, L with
    | 0, [l1, l2] => PX3_chain_27 R (PX3_chain_J R f) l1 l2 G Q
    | _, _ => False
def PX3_chain (R : Nat → List Int → gS → (Int → gS → Prop) → Prop) (a1 : Int) (G : gS) (Q : Int → gS → Prop) : Prop := ∃ f : Nat, f ≤ 4000000000 ∧ PX3_chain_0 R (PX3_chain_J R f) a1 G Q
def PX3_expr_335 (R : Nat → List Int → gS → (Int → gS → Prop) → Prop) (l1 : Int) (G : gS) (Q : Int → gS → Prop) : Prop :=
  Q 0 G
def PX3_expr_322 (R : Nat → List Int → gS → (Int → gS → Prop) → Prop) (l1 : Int) (s0 : Int) (s1 : Int) (G : gS) (Q : Int → gS → Prop) : Prop :=
  (isO W0 1 (s0) ∧ PX1_emit s0 s1 0 G (fun r100 G99 => inI r100 → PX3_expr_335 R l1 G99 Q))
def PX3_expr_0 (R : Nat → List Int → gS → (Int → gS → Prop) → Prop) (a1 : Int) (G : gS) (Q : Int → gS → Prop) : Prop :=
  ((a1 < 0 → Q 0 G) ∧ (0 ≤ a1 → (isO W0 8 (a1) ∧ (inI (G a1 0) → ((G a1 0 = 1 → ((G 820 1 = -1 ∨ isO W0 1 (G 820 1)) → (inL (G a1 10) → (inI (l2i (G a1 10)) → (isO W0 1 (G 820 1) ∧ PX1_emit (G 820 1) 2 (l2i (G a1 10)) G (fun r10 G9 => inI r10 → PX3_expr_335 R a1 G9 Q)))))) ∧ (G a1 0 = 2 → ((G 820 1 = -1 ∨ isO W0 1 (G 820 1)) → (isO W0 1 (G 820 1) ∧ PX1_emit (G 820 1) 2 0 G (fun r15 G14 => inI r15 → PX3_expr_335 R a1 G14 Q)))) ∧ (G a1 0 = 3 → ((G 820 1 = -1 ∨ isO W0 1 (G 820 1)) → (isO W0 1 (G 820 1) ∧ PX1_emit (G 820 1) 3 0 G (fun r20 G19 => inI r20 → PX3_expr_335 R a1 G19 Q)))) ∧ (G a1 0 = 4 → PX3_got a1 G (fun _ G22 => PX3_expr_335 R a1 G22 Q)) ∧ (G a1 0 = 5 → R 1 [a1] G (fun _ G24 => PX3_expr_335 R a1 G24 Q)) ∧ (G a1 0 = 6 → PX3_got a1 G (fun _ G26 => PX3_expr_335 R a1 G26 Q)) ∧ (G a1 0 = 7 → R 1 [a1] G (fun _ G28 => PX3_expr_335 R a1 G28 Q)) ∧ (G a1 0 = 8 → R 1 [a1] G (fun _ G30 => PX3_expr_335 R a1 G30 Q)) ∧ (G a1 0 = 9 → R 1 [a1] G (fun _ G32 => PX3_expr_335 R a1 G32 Q)) ∧ (G a1 0 = 10 → ((G 820 1 = -1 ∨ isO W0 1 (G 820 1)) → (inL (G a1 10) → PX3_useOf 1 (G a1 10) (-1) (-4) G (fun r37 G36 => inI r37 → (isO W0 1 (G 820 1) ∧ PX1_emit (G 820 1) 35 r37 G36 (fun r41 G40 => inI r41 → ((G40 820 1 = -1 ∨ isO W0 1 (G40 820 1)) → (isO W0 1 (G40 820 1) ∧ PX1_emit (G40 820 1) 6 0 G40 (fun r46 G45 => inI r46 → ((G45 a1 5 = -1 ∨ isO W0 8 (G45 a1 5)) → ((G45 a1 11 = -1 ∨ isO W0 7 (G45 a1 11)) → R 0 [G45 a1 5, G45 a1 11] G45 (fun _ G50 => ((G50 820 1 = -1 ∨ isO W0 1 (G50 820 1)) → (inL (G50 a1 10) → ((G50 a1 11 = -1 ∨ isO W0 7 (G50 a1 11)) → PX3_useOf 2 (G50 a1 10) (G50 a1 11) (-4) G50 (fun r56 G55 => inI r56 → (isO W0 1 (G50 820 1) ∧ PX1_emit (G50 820 1) 36 r56 G55 (fun r60 G59 => inI r60 → PX3_expr_335 R a1 G59 Q)))))))))))))))))) ∧ (G a1 0 = 11 → ((G a1 5 = -1 ∨ isO W0 8 (G a1 5)) → R 3 [G a1 5] G (fun _ G63 => ((G63 820 1 = -1 ∨ isO W0 1 (G63 820 1)) → (inL (G63 a1 10) → PX3_useOf 13 (G63 a1 10) (-1) (-4) G63 (fun r68 G67 => inI r68 → (isO W0 1 (G63 820 1) ∧ PX1_emit (G63 820 1) 37 r68 G67 (fun r72 G71 => inI r72 → PX3_expr_335 R a1 G71 Q)))))))) ∧ (G a1 0 = 12 → ((G a1 5 = -1 ∨ isO W0 8 (G a1 5)) → R 3 [G a1 5] G (fun _ G75 => PX3_expr_335 R a1 G75 Q))) ∧ (G a1 0 = 13 → R 4 [a1, -1] G (fun _ G77 => PX3_expr_335 R a1 G77 Q)) ∧ (G a1 0 = 14 → R 1 [a1] G (fun _ G79 => PX3_expr_335 R a1 G79 Q)) ∧ (G a1 0 = 15 → R 1 [a1] G (fun _ G81 => PX3_expr_335 R a1 G81 Q)) ∧ (G a1 0 = 16 → R 1 [a1] G (fun _ G83 => PX3_expr_335 R a1 G83 Q)) ∧ (G a1 0 = 17 → R 2 [a1] G (fun _ G85 => PX3_expr_335 R a1 G85 Q)) ∧ (G a1 0 = 18 → ((G a1 5 = -1 ∨ isO W0 8 (G a1 5)) → R 3 [G a1 5] G (fun _ G88 => ((G88 a1 6 = -1 ∨ isO W0 8 (G88 a1 6)) → R 3 [G88 a1 6] G88 (fun _ G91 => ((G91 820 1 = -1 ∨ isO W0 1 (G91 820 1)) → (inI (G91 a1 3) → ((G91 a1 3 = 160 → PX3_expr_322 R a1 (G91 820 1) 10 G91 Q) ∧ (¬ (G91 a1 3 = 160) → PX3_expr_322 R a1 (G91 820 1) 11 G91 Q))))))))) ∧ ((G a1 0 < 1 ∨ 19 ≤ G a1 0) → R 1 [a1] G (fun _ G96 => PX3_expr_335 R a1 G96 Q)))))))
abbrev PX3_expr (R : Nat → List Int → gS → (Int → gS → Prop) → Prop) (a1 : Int) (G : gS) (Q : Int → gS → Prop) : Prop := PX3_expr_0 R a1 G Q
def PX3_unit_160 (R : Nat → List Int → gS → (Int → gS → Prop) → Prop) (J : Nat → List Int → gS → (Int → gS → Prop) → Prop) (l1 : Int) (l2 : Int) (l3 : Int) (G : gS) (Q : Int → gS → Prop) : Prop :=
  Q 0 G
def PX3_unit_152 (R : Nat → List Int → gS → (Int → gS → Prop) → Prop) (J : Nat → List Int → gS → (Int → gS → Prop) → Prop) (l1 : Int) (l2 : Int) (l3 : Int) (G : gS) (Q : Int → gS → Prop) : Prop :=
  (isO W0 8 (l3) ∧ ((G l3 8 = -1 ∨ isO W0 8 (G l3 8)) → J 0 [l1, l2, G l3 8] G Q))
def PX3_unit_13 (R : Nat → List Int → gS → (Int → gS → Prop) → Prop) (J : Nat → List Int → gS → (Int → gS → Prop) → Prop) (l1 : Int) (l2 : Int) (l3 : Int) (G : gS) (Q : Int → gS → Prop) : Prop :=
  ((l3 < 0 → PX3_unit_160 R J l1 l2 l3 G Q) ∧ (0 ≤ l3 → ((-1 : Int) ≤ l3 ∧ ((-1 : Int) ≤ l2 ∧ ((l3 = l2 → PX3_unit_160 R J l1 l2 l3 G Q) ∧ (¬ (l3 = l2) → (isO W0 8 (l3) ∧ (inI (G l3 0) → ((G l3 0 = 16 → ((G 820 1 = -1 ∨ isO W0 1 (G 820 1)) → (inL (G l3 10) → PX3_useOf 14 (G l3 10) (-1) (-4) G (fun r16 G15 => inI r16 → (isO W0 1 (G 820 1) ∧ PX1_emit (G 820 1) 38 r16 G15 (fun r20 G19 => inI r20 → PX3_unit_152 R J l1 l2 l3 G19 Q)))))) ∧ (¬ (G l3 0 = 16) → (inI (G l3 0) → ((G l3 0 = 14 → ((G 820 1 = -1 ∨ isO W0 1 (G 820 1)) → (inL (G l3 10) → ((G l3 11 = -1 ∨ isO W0 7 (G l3 11)) → PX3_useOf 3 (G l3 10) (G l3 11) (-4) G (fun r28 G27 => inI r28 → (isO W0 1 (G 820 1) ∧ PX1_emit (G 820 1) 30 r28 G27 (fun r32 G31 => inI r32 → PX3_unit_152 R J l1 l2 l3 G31 Q))))))) ∧ (¬ (G l3 0 = 14) → ((G l3 11 = -1 ∨ isO W0 7 (G l3 11)) → ((G l3 11 < 0 → PX3_unit_152 R J l1 l2 l3 G Q) ∧ (0 ≤ G l3 11 → ((G l3 5 = -1 ∨ isO W0 8 (G l3 5)) → ((G l3 11 = -1 ∨ isO W0 7 (G l3 11)) → R 0 [G l3 5, G l3 11] G (fun _ G38 => ((G38 820 1 = -1 ∨ isO W0 1 (G38 820 1)) → (inL (G38 l3 10) → ((G38 l3 11 = -1 ∨ isO W0 7 (G38 l3 11)) → PX3_callSort (G38 l3 10) (G38 l3 11) G38 (fun r44 G43 => inI r44 → (inL (G43 l3 10) → ((G43 l3 11 = -1 ∨ isO W0 7 (G43 l3 11)) → PX3_useOf r44 (G43 l3 10) (G43 l3 11) (-4) G43 (fun r49 G48 => inI r49 → (isO W0 1 (G38 820 1) ∧ PX1_emit (G38 820 1) 34 r49 G48 (fun r53 G52 => inI r53 → PX3_unit_152 R J l1 l2 l3 G52 Q))))))))))))))))))))))))))))
def PX3_unit_0 (R : Nat → List Int → gS → (Int → gS → Prop) → Prop) (J : Nat → List Int → gS → (Int → gS → Prop) → Prop) (a1 : Int) (a2 : Int) (G : gS) (Q : Int → gS → Prop) : Prop :=
  (isO W0 8 (a1) ∧ ((G a1 5 = -1 ∨ isO W0 8 (G a1 5)) → R 3 [G a1 5] G (fun _ G3 => ((G3 a1 6 = -1 ∨ isO W0 8 (G3 a1 6)) → PX3_unit_13 R J a1 a2 (G3 a1 6) G3 Q))))
def PX3_unit_J (R : Nat → List Int → gS → (Int → gS → Prop) → Prop) : Nat → Nat → List Int → gS → (Int → gS → Prop) → Prop
  | 0, _, _, _, _ => False
  | f + 1, h, L, G, Q => match h, L with
    | 0, [l1, l2, l3] => PX3_unit_13 R (PX3_unit_J R f) l1 l2 l3 G Q
    | _, _ => False
def PX3_unit (R : Nat → List Int → gS → (Int → gS → Prop) → Prop) (a1 : Int) (a2 : Int) (G : gS) (Q : Int → gS → Prop) : Prop := ∃ f : Nat, f ≤ 4000000000 ∧ PX3_unit_0 R (PX3_unit_J R f) a1 a2 G Q
def Rq4 : Nat → Nat → List Int → gS → (Int → gS → Prop) → Prop
  | 0, _, _, _, _ => False
  | n + 1, i, L, G, Q => match i, L with
    | 0, [a1, a2] => PX3_args (Rq4 n) a1 a2 G Q
    | 1, [a1] => PX3_call (Rq4 n) a1 G Q
    | 2, [a1] => PX3_chain (Rq4 n) a1 G Q
    | 3, [a1] => PX3_expr (Rq4 n) a1 G Q
    | 4, [a1, a2] => PX3_unit (Rq4 n) a1 a2 G Q
    | _, _ => False
def PX3_branch_63 (R : Nat → List Int → gS → (Int → gS → Prop) → Prop) (l1 : Int) (l2 : Int) (G : gS) (Q : Int → gS → Prop) : Prop :=
  ((G 820 1 = -1 ∨ isO W0 1 (G 820 1)) → (isO W0 1 (G 820 1) ∧ PX1_patch (G 820 1) l2 G (fun _ G29 => Q 0 G29)))
def PX3_branch_0 (R : Nat → List Int → gS → (Int → gS → Prop) → Prop) (a1 : Int) (G : gS) (Q : Int → gS → Prop) : Prop :=
  (isO W0 8 (a1) ∧ ((G a1 5 = -1 ∨ isO W0 8 (G a1 5)) → Rq4 200 3 [G a1 5] G (fun _ G3 => ((G3 820 1 = -1 ∨ isO W0 1 (G3 820 1)) → (isO W0 1 (G3 820 1) ∧ PX1_emit (G3 820 1) 13 0 G3 (fun r8 G7 => inI r8 → ((G7 a1 6 = -1 ∨ isO W0 8 (G7 a1 6)) → R 2 [G7 a1 6] G7 (fun _ G11 => ((G11 a1 7 = -1 ∨ isO W0 8 (G11 a1 7)) → ((G11 a1 7 < 0 → PX3_branch_63 R a1 r8 G11 Q) ∧ (0 ≤ G11 a1 7 → ((G11 820 1 = -1 ∨ isO W0 1 (G11 820 1)) → (isO W0 1 (G11 820 1) ∧ PX1_emit (G11 820 1) 12 0 G11 (fun r18 G17 => inI r18 → ((G17 820 1 = -1 ∨ isO W0 1 (G17 820 1)) → (isO W0 1 (G17 820 1) ∧ PX1_patch (G17 820 1) r8 G17 (fun _ G22 => ((G22 a1 7 = -1 ∨ isO W0 8 (G22 a1 7)) → R 2 [G22 a1 7] G22 (fun _ G25 => PX3_branch_63 R a1 r18 G25 Q)))))))))))))))))))
abbrev PX3_branch (R : Nat → List Int → gS → (Int → gS → Prop) → Prop) (a1 : Int) (G : gS) (Q : Int → gS → Prop) : Prop := PX3_branch_0 R a1 G Q
def PX3_loop_0 (R : Nat → List Int → gS → (Int → gS → Prop) → Prop) (a1 : Int) (G : gS) (Q : Int → gS → Prop) : Prop :=
  ((G 820 1 = -1 ∨ isO W0 1 (G 820 1)) → (isO W0 1 (G 820 1) ∧ (inI (G (G 820 1) 17) → ((G 820 1 = -1 ∨ isO W0 1 (G 820 1)) → (isO W0 1 (G 820 1) ∧ PX1_emit (G 820 1) 1 0 G (fun r7 G6 => inI r7 → (isO W0 8 (a1) ∧ ((G6 a1 5 = -1 ∨ isO W0 8 (G6 a1 5)) → Rq4 200 3 [G6 a1 5] G6 (fun _ G11 => ((G11 820 1 = -1 ∨ isO W0 1 (G11 820 1)) → (isO W0 1 (G11 820 1) ∧ PX1_emit (G11 820 1) 13 0 G11 (fun r16 G15 => inI r16 → ((G15 a1 6 = -1 ∨ isO W0 8 (G15 a1 6)) → R 2 [G15 a1 6] G15 (fun _ G19 => ((G19 820 1 = -1 ∨ isO W0 1 (G19 820 1)) → (isO W0 1 (G19 820 1) ∧ PX1_emit (G19 820 1) 12 (G (G 820 1) 17) G19 (fun r24 G23 => inI r24 → ((G23 820 1 = -1 ∨ isO W0 1 (G23 820 1)) → (isO W0 1 (G23 820 1) ∧ PX1_patch (G23 820 1) r16 G23 (fun _ G28 => Q 0 G28))))))))))))))))))))
abbrev PX3_loop (R : Nat → List Int → gS → (Int → gS → Prop) → Prop) (a1 : Int) (G : gS) (Q : Int → gS → Prop) : Prop := PX3_loop_0 R a1 G Q
def PX3_statement_426 (R : Nat → List Int → gS → (Int → gS → Prop) → Prop) (J : Nat → List Int → gS → (Int → gS → Prop) → Prop) (l1 : Int) (G : gS) (Q : Int → gS → Prop) : Prop :=
  Q 0 G
def PX3_statement_391 (R : Nat → List Int → gS → (Int → gS → Prop) → Prop) (J : Nat → List Int → gS → (Int → gS → Prop) → Prop) (l1 : Int) (l2 : Int) (l3 : Int) (G : gS) (Q : Int → gS → Prop) : Prop :=
  (isO W0 8 (l1) ∧ ((G l1 6 = -1 ∨ isO W0 8 (G l1 6)) → Rq4 200 3 [G l1 6] G (fun _ G137 => PX3_put l1 l2 G137 (fun _ G139 => PX3_statement_426 R J l1 G139 Q))))
def PX3_statement_378 (R : Nat → List Int → gS → (Int → gS → Prop) → Prop) (J : Nat → List Int → gS → (Int → gS → Prop) → Prop) (l1 : Int) (l2 : Int) (l3 : Int) (G : gS) (Q : Int → gS → Prop) : Prop :=
  ((l3 = 0 → PX3_statement_391 R J l1 l2 l3 G Q) ∧ (¬ (l3 = 0) → (isO W0 8 (l1) ∧ ((G l1 5 = -1 ∨ isO W0 8 (G l1 5)) → Rq4 200 4 [G l1 5, l2] G (fun _ G133 => PX3_statement_391 R J l1 l2 l3 G133 Q)))))
def PX3_statement_352 (R : Nat → List Int → gS → (Int → gS → Prop) → Prop) (J : Nat → List Int → gS → (Int → gS → Prop) → Prop) (l1 : Int) (l2 : Int) (s0 : Int) (G : gS) (Q : Int → gS → Prop) : Prop :=
  ((s0 = 0 → PX3_statement_378 R J l1 l2 s0 G Q) ∧ (¬ (s0 = 0) → (isO W0 8 (l1) ∧ ((G l1 5 = -1 ∨ isO W0 8 (G l1 5)) → ((-1 : Int) ≤ l2 ∧ ((-1 : Int) ≤ G l1 5 ∧ ((l2 = G l1 5 → ((G 820 1 = -1 ∨ isO W0 1 (G 820 1)) → (isO W0 1 (G 820 1) ∧ PX1_emit (G 820 1) 3 0 G (fun r124 G123 => inI r124 → PX3_statement_391 R J l1 l2 s0 G123 Q)))) ∧ (¬ (l2 = G l1 5) → PX3_statement_378 R J l1 l2 s0 G Q))))))))
def PX3_statement_351 (R : Nat → List Int → gS → (Int → gS → Prop) → Prop) (J : Nat → List Int → gS → (Int → gS → Prop) → Prop) (l1 : Int) (l2 : Int) (G : gS) (Q : Int → gS → Prop) : Prop :=
  PX3_statement_352 R J l1 l2 0 G Q
def PX3_statement_266 (R : Nat → List Int → gS → (Int → gS → Prop) → Prop) (J : Nat → List Int → gS → (Int → gS → Prop) → Prop) (l1 : Int) (s0 : Int) (s1 : Int) (s2 : Int) (G : gS) (Q : Int → gS → Prop) : Prop :=
  (isO W0 3 (s0) ∧ PX3_useOf s1 s2 (-1) (-3887679601769447424) G (fun r108 G107 => inI r108 → ((G107 820 1 = -1 ∨ isO W0 1 (G107 820 1)) → (isO W0 1 (G107 820 1) ∧ PX1_emit (G107 820 1) 15 0 G107 (fun r113 G112 => inI r113 → PX3_statement_426 R J l1 G112 Q)))))
def PX3_statement_227 (R : Nat → List Int → gS → (Int → gS → Prop) → Prop) (J : Nat → List Int → gS → (Int → gS → Prop) → Prop) (l1 : Int) (s0 : Int) (s1 : Int) (G : gS) (Q : Int → gS → Prop) : Prop :=
  (isO W0 1 (s0) ∧ PX1_emit s0 s1 0 G (fun r128 G127 => inI r128 → PX3_statement_426 R J l1 G127 Q))
def PX3_statement_209 (R : Nat → List Int → gS → (Int → gS → Prop) → Prop) (J : Nat → List Int → gS → (Int → gS → Prop) → Prop) (l1 : Int) (G : gS) (Q : Int → gS → Prop) : Prop :=
  ((G 820 1 = -1 ∨ isO W0 1 (G 820 1)) → (isO W0 8 (l1) ∧ ((G l1 5 = -1 ∨ isO W0 8 (G l1 5)) → ((G l1 5 < 0 → PX3_statement_227 R J l1 (G 820 1) 18 G Q) ∧ (0 ≤ G l1 5 → PX3_statement_227 R J l1 (G 820 1) 19 G Q)))))
def PX3_statement_131 (R : Nat → List Int → gS → (Int → gS → Prop) → Prop) (J : Nat → List Int → gS → (Int → gS → Prop) → Prop) (l1 : Int) (s0 : Int) (s1 : Int) (s2 : Int) (G : gS) (Q : Int → gS → Prop) : Prop :=
  (isO W0 8 (l1) ∧ (inL (G l1 9) → (isO W0 3 (s0) ∧ PX3_useOf s1 s2 (-1) (G l1 9) G (fun r94 G93 => inI r94 → ((G93 820 1 = -1 ∨ isO W0 1 (G93 820 1)) → (inI (G93 l1 4) → (isO W0 1 (G93 820 1) ∧ PX1_emit (G93 820 1) 4 (G93 l1 4) G93 (fun r100 G99 => inI r100 → PX3_statement_426 R J l1 G99 Q))))))))
def PX3_statement_19 (R : Nat → List Int → gS → (Int → gS → Prop) → Prop) (J : Nat → List Int → gS → (Int → gS → Prop) → Prop) (l1 : Int) (l2 : Int) (G : gS) (Q : Int → gS → Prop) : Prop :=
  ((l2 < 0 → Q 0 G) ∧ (0 ≤ l2 → R 2 [l2] G (fun _ G86 => (isO W0 8 (l2) ∧ ((G86 l2 8 = -1 ∨ isO W0 8 (G86 l2 8)) → J 0 [l1, G86 l2 8] G86 Q)))))
def PX3_statement_0 (R : Nat → List Int → gS → (Int → gS → Prop) → Prop) (J : Nat → List Int → gS → (Int → gS → Prop) → Prop) (a1 : Int) (G : gS) (Q : Int → gS → Prop) : Prop :=
  ((a1 < 0 → Q 0 G) ∧ (0 ≤ a1 → (isO W0 8 (a1) ∧ (inI (G a1 0) → ((G a1 0 = 30 → ((G a1 5 = -1 ∨ isO W0 8 (G a1 5)) → PX3_statement_19 R J a1 (G a1 5) G Q)) ∧ (¬ (G a1 0 = 30) → ((G 820 1 = -1 ∨ isO W0 1 (G 820 1)) → (isO W0 1 (G 820 1) ∧ PX1_emit (G 820 1) 1 0 G (fun r9 G8 => inI r9 → (inI (G8 a1 0) → ((G8 a1 0 = 31 → ((G8 a1 5 = -1 ∨ isO W0 8 (G8 a1 5)) → Rq4 200 3 [G8 a1 5] G8 (fun _ G14 => ((G14 a1 5 = -1 ∨ isO W0 8 (G14 a1 5)) → ((G14 a1 5 < 0 → PX3_statement_131 R J a1 820 17 (-4) G14 Q) ∧ (0 ≤ G14 a1 5 → ((G14 a1 5 = -1 ∨ isO W0 8 (G14 a1 5)) → (isO W0 8 (G14 a1 5) ∧ (inL (G14 (G14 a1 5) 9) → PX3_statement_131 R J a1 820 17 (G14 (G14 a1 5) 9) G14 Q))))))))) ∧ (G8 a1 0 = 32 → R 0 [a1] G8 (fun _ G21 => PX3_statement_426 R J a1 G21 Q)) ∧ (G8 a1 0 = 33 → R 1 [a1] G8 (fun _ G23 => PX3_statement_426 R J a1 G23 Q)) ∧ (G8 a1 0 = 34 → ((G8 a1 5 = -1 ∨ isO W0 8 (G8 a1 5)) → ((G8 a1 5 < 0 → PX3_statement_209 R J a1 G8 Q) ∧ (0 ≤ G8 a1 5 → ((G8 a1 5 = -1 ∨ isO W0 8 (G8 a1 5)) → Rq4 200 3 [G8 a1 5] G8 (fun _ G28 => ((G28 a1 5 = -1 ∨ isO W0 8 (G28 a1 5)) → (isO W0 8 (G28 a1 5) ∧ (inL (G28 (G28 a1 5) 9) → ((G28 820 4 = -1 ∨ isO W0 7 (G28 820 4)) → (isO W0 7 (G28 820 4) ∧ (inL (G28 (G28 820 4) 8) → PX3_useOf 17 (G28 (G28 a1 5) 9) (-1) (G28 (G28 820 4) 8) G28 (fun r37 G36 => inI r37 → PX3_statement_209 R J a1 G36 Q))))))))))))) ∧ (G8 a1 0 = 35 → ((G8 a1 5 = -1 ∨ isO W0 8 (G8 a1 5)) → Rq4 200 3 [G8 a1 5] G8 (fun _ G40 => ((G40 a1 5 = -1 ∨ isO W0 8 (G40 a1 5)) → ((G40 a1 5 < 0 → PX3_statement_266 R J a1 820 17 (-4) G40 Q) ∧ (0 ≤ G40 a1 5 → ((G40 a1 5 = -1 ∨ isO W0 8 (G40 a1 5)) → (isO W0 8 (G40 a1 5) ∧ (inL (G40 (G40 a1 5) 9) → PX3_statement_266 R J a1 820 17 (G40 (G40 a1 5) 9) G40 Q))))))))) ∧ (G8 a1 0 = 36 → R 3 [a1] G8 (fun _ G47 => PX3_statement_426 R J a1 G47 Q)) ∧ (G8 a1 0 = 37 → ((G8 a1 5 = -1 ∨ isO W0 8 (G8 a1 5)) → Rq4 200 3 [G8 a1 5] G8 (fun _ G50 => ((G50 820 1 = -1 ∨ isO W0 1 (G50 820 1)) → (isO W0 1 (G50 820 1) ∧ PX1_emit (G50 820 1) 14 0 G50 (fun r55 G54 => inI r55 → PX3_statement_426 R J a1 G54 Q)))))) ∧ (G8 a1 0 = 38 → ((G8 a1 5 = -1 ∨ isO W0 8 (G8 a1 5)) → Rq4 200 3 [G8 a1 5] G8 (fun _ G58 => ((G58 820 1 = -1 ∨ isO W0 1 (G58 820 1)) → (isO W0 1 (G58 820 1) ∧ PX1_emit (G58 820 1) 5 0 G58 (fun r63 G62 => inI r63 → PX3_statement_426 R J a1 G62 Q)))))) ∧ (G8 a1 0 = 39 → ((G8 a1 5 = -1 ∨ isO W0 8 (G8 a1 5)) → PX0_target (G8 a1 5) G8 (fun r67 G66 => ((r67 < 0 → PX3_statement_351 R J a1 r67 G66 Q) ∧ (0 ≤ r67 → (isO W0 8 (r67) ∧ ((G66 r67 11 = -1 ∨ isO W0 7 (G66 r67 11)) → ((G66 r67 11 < 0 → PX3_statement_351 R J a1 r67 G66 Q) ∧ (0 ≤ G66 r67 11 → ((G66 r67 11 = -1 ∨ isO W0 7 (G66 r67 11)) → (isO W0 7 (G66 r67 11) ∧ ((0 ≤ G66 (G66 r67 11) 2 ∧ G66 (G66 r67 11) 2 ≤ 1) → ((G66 (G66 r67 11) 2 = 0 → PX3_statement_352 R J a1 r67 1 G66 Q) ∧ (¬ (G66 (G66 r67 11) 2 = 0) → PX3_statement_351 R J a1 r67 G66 Q)))))))))))))) ∧ ((G8 a1 0 < 31 ∨ 40 ≤ G8 a1 0) → ((G8 a1 5 = -1 ∨ isO W0 8 (G8 a1 5)) → Rq4 200 3 [G8 a1 5] G8 (fun _ G78 => ((G78 820 1 = -1 ∨ isO W0 1 (G78 820 1)) → (isO W0 1 (G78 820 1) ∧ PX1_emit (G78 820 1) 5 0 G78 (fun r83 G82 => inI r83 → PX3_statement_426 R J a1 G82 Q)))))))))))))))))
def PX3_statement_J (R : Nat → List Int → gS → (Int → gS → Prop) → Prop) : Nat → Nat → List Int → gS → (Int → gS → Prop) → Prop
  | 0, _, _, _, _ => False
  | f + 1, h, L, G, Q => match h, L with
    | 0, [l1, l2] => PX3_statement_19 R (PX3_statement_J R f) l1 l2 G Q
    | _, _ => False
def PX3_statement (R : Nat → List Int → gS → (Int → gS → Prop) → Prop) (a1 : Int) (G : gS) (Q : Int → gS → Prop) : Prop := ∃ f : Nat, f ≤ 4000000000 ∧ PX3_statement_0 R (PX3_statement_J R f) a1 G Q
def PX3_tried_0 (R : Nat → List Int → gS → (Int → gS → Prop) → Prop) (a1 : Int) (G : gS) (Q : Int → gS → Prop) : Prop :=
  ((G 820 1 = -1 ∨ isO W0 1 (G 820 1)) → (isO W0 1 (G 820 1) ∧ PX1_emit (G 820 1) 16 0 G (fun r4 G3 => inI r4 → (isO W0 8 (a1) ∧ ((G3 a1 5 = -1 ∨ isO W0 8 (G3 a1 5)) → R 2 [G3 a1 5] G3 (fun _ G8 => ((G8 820 1 = -1 ∨ isO W0 1 (G8 820 1)) → (isO W0 1 (G8 820 1) ∧ PX1_emit (G8 820 1) 17 0 G8 (fun r13 G12 => inI r13 → ((G12 820 1 = -1 ∨ isO W0 1 (G12 820 1)) → (isO W0 1 (G12 820 1) ∧ PX1_emit (G12 820 1) 12 0 G12 (fun r18 G17 => inI r18 → ((G17 820 1 = -1 ∨ isO W0 1 (G17 820 1)) → (isO W0 1 (G17 820 1) ∧ PX1_patch (G17 820 1) r4 G17 (fun _ G22 => ((G22 820 1 = -1 ∨ isO W0 1 (G22 820 1)) → (inL (G22 a1 10) → PX3_useOf 15 (G22 a1 10) (-1) (-4) G22 (fun r27 G26 => inI r27 → (isO W0 1 (G22 820 1) ∧ PX1_emit (G22 820 1) 39 r27 G26 (fun r31 G30 => inI r31 → ((G30 820 1 = -1 ∨ isO W0 1 (G30 820 1)) → (inI (G30 a1 4) → (isO W0 1 (G30 820 1) ∧ PX1_emit (G30 820 1) 4 (G30 a1 4) G30 (fun r37 G36 => inI r37 → ((G36 a1 6 = -1 ∨ isO W0 8 (G36 a1 6)) → R 2 [G36 a1 6] G36 (fun _ G40 => ((G40 820 1 = -1 ∨ isO W0 1 (G40 820 1)) → (isO W0 1 (G40 820 1) ∧ PX1_patch (G40 820 1) r18 G40 (fun _ G44 => Q 0 G44)))))))))))))))))))))))))))))
abbrev PX3_tried (R : Nat → List Int → gS → (Int → gS → Prop) → Prop) (a1 : Int) (G : gS) (Q : Int → gS → Prop) : Prop := PX3_tried_0 R a1 G Q
def Rq5 : Nat → Nat → List Int → gS → (Int → gS → Prop) → Prop
  | 0, _, _, _, _ => False
  | n + 1, i, L, G, Q => match i, L with
    | 0, [a1] => PX3_branch (Rq5 n) a1 G Q
    | 1, [a1] => PX3_loop (Rq5 n) a1 G Q
    | 2, [a1] => PX3_statement (Rq5 n) a1 G Q
    | 3, [a1] => PX3_tried (Rq5 n) a1 G Q
    | _, _ => False
def PX3_body_94 (l1 : Int) (G : gS) (Q : Int → gS → Prop) : Prop :=
  Q 0 G
def PX3_body_0 (a1 : Int) (G : gS) (Q : Int → gS → Prop) : Prop :=
  (isO W0 7 (a1) ∧ (inI (G a1 0) → ((G a1 0 = 3 → PX3_openStart G (fun _ G4 => ((G4 820 2 = -1 ∨ isO W0 10 (G4 820 2)) → (isO W0 10 (G4 820 2) ∧ ((G4 (G4 820 2) 18 = -1 ∨ isO W0 7 (G4 (G4 820 2) 18)) → ((G4 820 2 = -1 ∨ isO W0 10 (G4 820 2)) → (isO W0 10 (G4 820 2) ∧ ((G4 (G4 820 2) 18 = -1 ∨ isO W0 7 (G4 (G4 820 2) 18)) → (isO W0 7 (G4 (G4 820 2) 18) ∧ (inI (G4 (G4 (G4 820 2) 18) 18) → (inI (G4 a1 18) → (isO W0 7 (G4 (G4 820 2) 18) ∧ (∀ G16 : gS, G16 = uG G4 (G4 (G4 820 2) 18) 18 ((if G4 (G4 (G4 820 2) 18) 18 < G4 a1 18 then G4 a1 18 else G4 (G4 (G4 820 2) 18) 18)) → ((G16 a1 14 = -1 ∨ isO W0 8 (G16 a1 14)) → Rq5 200 2 [G16 a1 14] G16 (fun _ G18 => ((G18 820 1 = -1 ∨ isO W0 1 (G18 820 1)) → (isO W0 1 (G18 820 1) ∧ PX1_emit (G18 820 1) 12 0 G18 (fun r23 G22 => inI r23 → (∀ G25 : gS, G25 = uG G22 820 5 (r23) → PX3_body_94 a1 G25 Q))))))))))))))))))) ∧ (¬ (G a1 0 = 3) → ((G 820 1 = -1 ∨ isO W0 1 (G 820 1)) → (isO W0 1 (G 820 1) ∧ (inI (G (G 820 1) 17) → (∀ G29 : gS, G29 = uG G a1 17 (G (G 820 1) 17) → ((G29 a1 14 = -1 ∨ isO W0 8 (G29 a1 14)) → Rq5 200 2 [G29 a1 14] G29 (fun _ G31 => ((G31 820 1 = -1 ∨ isO W0 1 (G31 820 1)) → (isO W0 1 (G31 820 1) ∧ PX1_emit (G31 820 1) 18 0 G31 (fun r36 G35 => inI r36 → PX3_body_94 a1 G35 Q)))))))))))))
abbrev PX3_body (a1 : Int) (G : gS) (Q : Int → gS → Prop) : Prop := PX3_body_0 a1 G Q
def PX3_field_184 (l1 : Int) (l2 : Int) (G : gS) (Q : Int → gS → Prop) : Prop :=
  Q 0 G
def PX3_field_138 (l1 : Int) (l2 : Int) (s0 : Int) (s1 : Int) (G : gS) (Q : Int → gS → Prop) : Prop :=
  (isO W0 7 (l1) ∧ (inI (G l1 17) → (isO W0 1 (s0) ∧ PX1_emit s0 s1 (G l1 17) G (fun r54 G53 => inI r54 → ((0 ≤ G53 l1 2 ∧ G53 l1 2 ≤ 1) → ((G53 l1 2 = 0 → ((G53 820 1 = -1 ∨ isO W0 1 (G53 820 1)) → (isO W0 1 (G53 820 1) ∧ PX1_emit (G53 820 1) 12 0 G53 (fun r61 G60 => inI r61 → (∀ G63 : gS, G63 = uG G60 820 6 (r61) → PX3_field_184 l1 l2 G63 Q))))) ∧ (¬ (G53 l1 2 = 0) → ((G53 820 1 = -1 ∨ isO W0 1 (G53 820 1)) → (isO W0 1 (G53 820 1) ∧ PX1_emit (G53 820 1) 12 0 G53 (fun r67 G66 => inI r67 → (∀ G69 : gS, G69 = uG G66 820 5 (r67) → PX3_field_184 l1 l2 G69 Q)))))))))))
def PX3_field_93 (l1 : Int) (l2 : Int) (G : gS) (Q : Int → gS → Prop) : Prop :=
  (isO W0 7 (l1) ∧ ((G l1 14 = -1 ∨ isO W0 8 (G l1 14)) → Rq4 200 3 [G l1 14] G (fun _ G38 => ((G38 l1 14 = -1 ∨ isO W0 8 (G38 l1 14)) → (isO W0 8 (G38 l1 14) ∧ (inL (G38 (G38 l1 14) 9) → (inL (G38 l1 8) → PX3_useOf 17 (G38 (G38 l1 14) 9) (-1) (G38 l1 8) G38 (fun r45 G44 => inI r45 → ((G44 820 1 = -1 ∨ isO W0 1 (G44 820 1)) → ((0 ≤ G44 l1 2 ∧ G44 l1 2 ≤ 1) → ((G44 l1 2 = 0 → PX3_field_138 l1 l2 (G44 820 1) 23 G44 Q) ∧ (¬ (G44 l1 2 = 0) → PX3_field_138 l1 l2 (G44 820 1) 24 G44 Q))))))))))))
def PX3_field_72 (l1 : Int) (l2 : Int) (G : gS) (Q : Int → gS → Prop) : Prop :=
  ((G 820 1 = -1 ∨ isO W0 1 (G 820 1)) → (inI (G 820 6) → (isO W0 1 (G 820 1) ∧ PX1_patch (G 820 1) (G 820 6) G (fun _ G29 => ((G29 820 1 = -1 ∨ isO W0 1 (G29 820 1)) → (isO W0 1 (G29 820 1) ∧ PX1_emit (G29 820 1) 3 0 G29 (fun r34 G33 => inI r34 → PX3_field_93 l1 l2 G33 Q)))))))
def PX3_field_0 (a1 : Int) (G : gS) (Q : Int → gS → Prop) : Prop :=
  (isO W0 7 (a1) ∧ ((G a1 14 = -1 ∨ isO W0 8 (G a1 14)) → ((G a1 14 < 0 → Q 0 G) ∧ (0 ≤ G a1 14 → ((G 820 1 = -1 ∨ isO W0 1 (G 820 1)) → (isO W0 1 (G 820 1) ∧ (inI (G (G 820 1) 17) → ((0 ≤ G a1 15 ∧ G a1 15 ≤ 1) → ((G a1 15 = 0 → ((0 ≤ G a1 2 ∧ G a1 2 ≤ 1) → ((G a1 2 = 0 → ((G 820 2 = -1 ∨ isO W0 10 (G 820 2)) → (isO W0 10 (G 820 2) ∧ (inI (G (G 820 2) 19) → ((G (G 820 2) 19 < 0 → ((G 820 2 = -1 ∨ isO W0 10 (G 820 2)) → (isO W0 10 (G 820 2) ∧ (∀ G17 : gS, G17 = uG G (G 820 2) 19 (G (G 820 1) 17) → PX3_field_72 a1 (G (G 820 1) 17) G17 Q)))) ∧ (¬ (G (G 820 2) 19 < 0) → PX3_field_72 a1 (G (G 820 1) 17) G Q)))))) ∧ (¬ (G a1 2 = 0) → PX3_openStart G (fun _ G18 => PX3_field_93 a1 (G (G 820 1) 17) G18 Q))))) ∧ (¬ (G a1 15 = 0) → ((G a1 14 = -1 ∨ isO W0 8 (G a1 14)) → Rq4 200 3 [G a1 14] G (fun _ G21 => ((G21 820 1 = -1 ∨ isO W0 1 (G21 820 1)) → (isO W0 1 (G21 820 1) ∧ (∀ G25 : gS, G25 = uG G21 (G21 820 1) 17 (G (G 820 1) 17) → Q 0 G25)))))))))))))))
abbrev PX3_field (a1 : Int) (G : gS) (Q : Int → gS → Prop) : Prop := PX3_field_0 a1 G Q
def PX3_maker_205 (J : Nat → List Int → gS → (Int → gS → Prop) → Prop) (l1 : Int) (l2 : Int) (l3 : Int) (G : gS) (Q : Int → gS → Prop) : Prop :=
  ((l3 < 0 → ((G 820 1 = -1 ∨ isO W0 1 (G 820 1)) → (isO W0 1 (G 820 1) ∧ PX1_emit (G 820 1) 18 0 G (fun r88 G87 => inI r88 → (isO W0 7 (l1) ∧ (inI (G87 l1 18) → (∀ G92 : gS, G92 = uG G87 l1 18 ((if G87 l1 18 < 1 then 1 else G87 l1 18)) → Q 0 G92))))))) ∧ (0 ≤ l3 → Rq5 200 2 [l3] G (fun _ G93 => (isO W0 8 (l3) ∧ ((G93 l3 8 = -1 ∨ isO W0 8 (G93 l3 8)) → J 0 [l1, l2, G93 l3 8] G93 Q)))))
def PX3_maker_192 (J : Nat → List Int → gS → (Int → gS → Prop) → Prop) (l1 : Int) (l2 : Int) (G : gS) (Q : Int → gS → Prop) : Prop :=
  ((G 820 1 = -1 ∨ isO W0 1 (G 820 1)) → (isO W0 1 (G 820 1) ∧ PX1_emit (G 820 1) 20 0 G (fun r82 G81 => inI r82 → PX3_maker_205 J l1 l2 l2 G81 Q)))
def PX3_maker_126 (J : Nat → List Int → gS → (Int → gS → Prop) → Prop) (l1 : Int) (l2 : Int) (G : gS) (Q : Int → gS → Prop) : Prop :=
  ((G 820 2 = -1 ∨ isO W0 10 (G 820 2)) → (isO W0 10 (G 820 2) ∧ (inL (G (G 820 2) 8) → ((G (G 820 2) 8 = -4031174665287237632 → PX3_maker_192 J l1 l2 G Q) ∧ (¬ (G (G 820 2) 8 = -4031174665287237632) → ((G 820 1 = -1 ∨ isO W0 1 (G 820 1)) → (isO W0 1 (G 820 1) ∧ PX1_emit (G 820 1) 3 0 G (fun r52 G51 => inI r52 → ((G51 820 1 = -1 ∨ isO W0 1 (G51 820 1)) → ((G51 820 2 = -1 ∨ isO W0 10 (G51 820 2)) → (isO W0 10 (G51 820 2) ∧ (inL (G51 (G51 820 2) 8) → ((G51 820 0 = -1 ∨ isO W0 11 (G51 820 0)) → (isO W0 11 (G51 820 0) ∧ (((G51 ((G51 820 0) + 15) 2 = -1 ∨ ∃ n, isA W0 4 n (G51 ((G51 820 0) + 15) 2)) ∧ ∀ v, W0.2 ((G51 820 0) + 15) 2 = some v → G51 ((G51 820 0) + 15) 2 = v) → (∃ n61, isA W0 4 n61 (G51 ((G51 820 0) + 15) 2) ∧ ((0 : Int) ≤ 0 ∧ ((0 : Int) < n61 ∧ (((G51 (G51 ((G51 820 0) + 15) 2) 0 = -1 ∨ isO W0 10 (G51 (G51 ((G51 820 0) + 15) 2) 0)) ∧ ∀ v, W0.2 (G51 ((G51 820 0) + 15) 2) 0 = some v → G51 (G51 ((G51 820 0) + 15) 2) 0 = v) → (isO W0 10 (G51 (G51 ((G51 820 0) + 15) 2) 0) ∧ ((0 : Int) ≤ 0 ∧ ((0 : Int) < 33 ∧ (((G51 ((G51 (G51 ((G51 820 0) + 15) 2) 0) + 4) 0 = -1 ∨ isO W0 7 (G51 ((G51 (G51 ((G51 820 0) + 15) 2) 0) + 4) 0)) ∧ ∀ v, W0.2 ((G51 (G51 ((G51 820 0) + 15) 2) 0) + 4) 0 = some v → G51 ((G51 (G51 ((G51 820 0) + 15) 2) 0) + 4) 0 = v) → PX3_useOf 2 (G51 (G51 820 2) 8) (G51 ((G51 (G51 ((G51 820 0) + 15) 2) 0) + 4) 0) (-4) G51 (fun r71 G70 => inI r71 → (isO W0 1 (G51 820 1) ∧ PX1_emit (G51 820 1) 36 r71 G70 (fun r75 G74 => inI r75 → PX3_maker_192 J l1 l2 G74 Q))))))))))))))))))))))))))
def PX3_maker_118 (J : Nat → List Int → gS → (Int → gS → Prop) → Prop) (l1 : Int) (l2 : Int) (G : gS) (Q : Int → gS → Prop) : Prop :=
  (isO W0 8 (l2) ∧ ((G l2 8 = -1 ∨ isO W0 8 (G l2 8)) → PX3_maker_192 J l1 (G l2 8) G Q))
def PX3_maker_29 (J : Nat → List Int → gS → (Int → gS → Prop) → Prop) (l1 : Int) (s0 : Int) (G : gS) (Q : Int → gS → Prop) : Prop :=
  ((s0 < 0 → PX3_maker_126 J l1 s0 G Q) ∧ (0 ≤ s0 → (isO W0 8 (s0) ∧ (inI (G s0 0) → ((G s0 0 = 38 → ((G 820 1 = -1 ∨ isO W0 1 (G 820 1)) → (isO W0 1 (G 820 1) ∧ PX1_emit (G 820 1) 1 0 G (fun r18 G17 => inI r18 → ((G17 820 2 = -1 ∨ isO W0 10 (G17 820 2)) → (isO W0 10 (G17 820 2) ∧ (inL (G17 (G17 820 2) 8) → ((G17 (G17 820 2) 8 = -4031174665287237632 → PX3_maker_118 J l1 s0 G17 Q) ∧ (¬ (G17 (G17 820 2) 8 = -4031174665287237632) → ((G17 820 1 = -1 ∨ isO W0 1 (G17 820 1)) → (isO W0 1 (G17 820 1) ∧ PX1_emit (G17 820 1) 3 0 G17 (fun r27 G26 => inI r27 → ((G26 s0 5 = -1 ∨ isO W0 8 (G26 s0 5)) → ((G26 s0 11 = -1 ∨ isO W0 7 (G26 s0 11)) → Rq4 200 0 [G26 s0 5, G26 s0 11] G26 (fun _ G31 => ((G31 820 1 = -1 ∨ isO W0 1 (G31 820 1)) → ((G31 820 2 = -1 ∨ isO W0 10 (G31 820 2)) → (isO W0 10 (G31 820 2) ∧ (inL (G31 (G31 820 2) 8) → ((G31 s0 11 = -1 ∨ isO W0 7 (G31 s0 11)) → PX3_useOf 2 (G31 (G31 820 2) 8) (G31 s0 11) (-4) G31 (fun r39 G38 => inI r39 → (isO W0 1 (G31 820 1) ∧ PX1_emit (G31 820 1) 36 r39 G38 (fun r43 G42 => inI r43 → PX3_maker_118 J l1 s0 G42 Q))))))))))))))))))))))) ∧ (¬ (G s0 0 = 38) → PX3_maker_126 J l1 s0 G Q))))))
def PX3_maker_0 (J : Nat → List Int → gS → (Int → gS → Prop) → Prop) (a1 : Int) (G : gS) (Q : Int → gS → Prop) : Prop :=
  ((G 820 1 = -1 ∨ isO W0 1 (G 820 1)) → (isO W0 1 (G 820 1) ∧ (inI (G (G 820 1) 17) → (isO W0 7 (a1) ∧ (∀ G5 : gS, G5 = uG G a1 17 (G (G 820 1) 17) → ((G5 a1 14 = -1 ∨ isO W0 8 (G5 a1 14)) → ((G5 a1 14 < 0 → PX3_maker_29 J a1 (-1) G5 Q) ∧ (0 ≤ G5 a1 14 → ((G5 a1 14 = -1 ∨ isO W0 8 (G5 a1 14)) → (isO W0 8 (G5 a1 14) ∧ ((G5 (G5 a1 14) 5 = -1 ∨ isO W0 8 (G5 (G5 a1 14) 5)) → PX3_maker_29 J a1 (G5 (G5 a1 14) 5) G5 Q)))))))))))
def PX3_maker_J : Nat → Nat → List Int → gS → (Int → gS → Prop) → Prop
  | 0, _, _, _, _ => False
  | f + 1, h, L, G, Q => match h, L with
    | 0, [l1, l2, l3] => PX3_maker_205 (PX3_maker_J f) l1 l2 l3 G Q
    | _, _ => False
def PX3_maker (a1 : Int) (G : gS) (Q : Int → gS → Prop) : Prop := ∃ f : Nat, f ≤ 4000000000 ∧ PX3_maker_0 (PX3_maker_J f) a1 G Q
def PX3_write_205 (J : Nat → List Int → gS → (Int → gS → Prop) → Prop) (l1 : Int) (l2 : Int) (l3 : Int) (l4 : Int) (l5 : Int) (G : gS) (Q : Int → gS → Prop) : Prop :=
  (inI (l4 + 1) ∧ J 2 [l1, l2, l3, l4 + 1] G Q)
def PX3_write_132 (J : Nat → List Int → gS → (Int → gS → Prop) → Prop) (l1 : Int) (l2 : Int) (l3 : Int) (l4 : Int) (G : gS) (Q : Int → gS → Prop) : Prop :=
  ((G 820 2 = -1 ∨ isO W0 10 (G 820 2)) → (isO W0 10 (G 820 2) ∧ (inI (G (G 820 2) 15) → ((l4 < G (G 820 2) 15 → ((G 820 2 = -1 ∨ isO W0 10 (G 820 2)) → (isO W0 10 (G 820 2) ∧ ((0 : Int) ≤ l4 ∧ ((l4 : Int) < 33 ∧ (((G ((G 820 2) + 4) l4 = -1 ∨ isO W0 7 (G ((G 820 2) + 4) l4)) ∧ ∀ v, W0.2 ((G 820 2) + 4) l4 = some v → G ((G 820 2) + 4) l4 = v) → (isO W0 7 (G ((G 820 2) + 4) l4) ∧ ((0 ≤ G (G ((G 820 2) + 4) l4) 5 ∧ G (G ((G 820 2) + 4) l4) 5 ≤ 1) → ((G (G ((G 820 2) + 4) l4) 5 = 0 → (inI (G (G ((G 820 2) + 4) l4) 0) → ((G (G ((G 820 2) + 4) l4) 0 = 2 → ((0 ≤ G (G ((G 820 2) + 4) l4) 6 ∧ G (G ((G 820 2) + 4) l4) 6 ≤ 1) → ((G (G ((G 820 2) + 4) l4) 6 = 0 → PX3_maker (G ((G 820 2) + 4) l4) G (fun _ G61 => PX3_write_205 J l1 l2 l3 l4 (G ((G 820 2) + 4) l4) G61 Q)) ∧ (¬ (G (G ((G 820 2) + 4) l4) 6 = 0) → PX3_write_205 J l1 l2 l3 l4 (G ((G 820 2) + 4) l4) G Q)))) ∧ (¬ (G (G ((G 820 2) + 4) l4) 0 = 2) → PX3_write_205 J l1 l2 l3 l4 (G ((G 820 2) + 4) l4) G Q)))) ∧ (¬ (G (G ((G 820 2) + 4) l4) 5 = 0) → ((G 820 2 = -1 ∨ isO W0 10 (G 820 2)) → (isO W0 10 (G 820 2) ∧ PX10_plain (G 820 2) (G ((G 820 2) + 4) l4) G (fun r66 G65 => PX3_bridge (G ((G 820 2) + 4) l4) r66 G65 (fun _ G68 => PX3_write_205 J l1 l2 l3 l4 (G ((G 820 2) + 4) l4) G68 Q)))))))))))))) ∧ (¬ (l4 < G (G 820 2) 15) → PX3_closeRow G (fun _ G70 => (inI (l3 + 1) ∧ J 0 [l1, l2, l3 + 1] G70 Q)))))))
def PX3_write_123 (J : Nat → List Int → gS → (Int → gS → Prop) → Prop) (l1 : Int) (l2 : Int) (l3 : Int) (l4 : Int) (l5 : Int) (G : gS) (Q : Int → gS → Prop) : Prop :=
  (inI (l4 + 1) ∧ J 1 [l1, l2, l3, l4 + 1] G Q)
def PX3_write_44 (J : Nat → List Int → gS → (Int → gS → Prop) → Prop) (l1 : Int) (l2 : Int) (l3 : Int) (l4 : Int) (G : gS) (Q : Int → gS → Prop) : Prop :=
  ((G 820 2 = -1 ∨ isO W0 10 (G 820 2)) → (isO W0 10 (G 820 2) ∧ (inI (G (G 820 2) 13) → ((l4 < G (G 820 2) 13 → ((G 820 2 = -1 ∨ isO W0 10 (G 820 2)) → (isO W0 10 (G 820 2) ∧ ((0 : Int) ≤ l4 ∧ ((l4 : Int) < 20 ∧ (((G ((G 820 2) + 3) l4 = -1 ∨ isO W0 7 (G ((G 820 2) + 3) l4)) ∧ ∀ v, W0.2 ((G 820 2) + 3) l4 = some v → G ((G 820 2) + 3) l4 = v) → ((G ((G 820 2) + 3) l4 = -1 ∨ isO W0 7 (G ((G 820 2) + 3) l4)) ∧ (∀ G30 : gS, G30 = uG G 820 4 (G ((G 820 2) + 3) l4) → (isO W0 7 (G ((G 820 2) + 3) l4) ∧ (inI (G30 (G ((G 820 2) + 3) l4) 0) → ((G30 (G ((G 820 2) + 3) l4) 0 = 0 → PX3_field (G ((G 820 2) + 3) l4) G30 (fun _ G34 => PX3_write_123 J l1 l2 l3 l4 (G ((G 820 2) + 3) l4) G34 Q)) ∧ (¬ (G30 (G ((G 820 2) + 3) l4) 0 = 0) → (inI (G30 (G ((G 820 2) + 3) l4) 0) → ((G30 (G ((G 820 2) + 3) l4) 0 = 2 → PX3_maker (G ((G 820 2) + 3) l4) G30 (fun _ G38 => PX3_write_123 J l1 l2 l3 l4 (G ((G 820 2) + 3) l4) G38 Q)) ∧ (¬ (G30 (G ((G 820 2) + 3) l4) 0 = 2) → ((0 ≤ G30 (G ((G 820 2) + 3) l4) 6 ∧ G30 (G ((G 820 2) + 3) l4) 6 ≤ 1) → ((G30 (G ((G 820 2) + 3) l4) 6 = 0 → PX3_write_123 J l1 l2 l3 l4 (G ((G 820 2) + 3) l4) G30 Q) ∧ (¬ (G30 (G ((G 820 2) + 3) l4) 6 = 0) → PX3_body (G ((G 820 2) + 3) l4) G30 (fun _ G42 => PX3_write_123 J l1 l2 l3 l4 (G ((G 820 2) + 3) l4) G42 Q))))))))))))))))))) ∧ (¬ (l4 < G (G 820 2) 13) → PX3_write_132 J l1 l2 l3 0 G Q)))))
def PX3_write_12 (J : Nat → List Int → gS → (Int → gS → Prop) → Prop) (l1 : Int) (l2 : Int) (l3 : Int) (G : gS) (Q : Int → gS → Prop) : Prop :=
  ((G 820 1 = -1 ∨ isO W0 1 (G 820 1)) → (isO W0 1 (G 820 1) ∧ (inI (G (G 820 1) 3) → ((l3 < G (G 820 1) 3 → (∀ G9 : gS, G9 = uG G 820 3 (l3) → ((G9 820 1 = -1 ∨ isO W0 1 (G9 820 1)) → (isO W0 1 (G9 820 1) ∧ (((G9 (G9 820 1) 2 = -1 ∨ ∃ n, isA W0 4 n (G9 (G9 820 1) 2)) ∧ ∀ v, W0.2 (G9 820 1) 2 = some v → G9 (G9 820 1) 2 = v) → (∃ n13, isA W0 4 n13 (G9 (G9 820 1) 2) ∧ ((0 : Int) ≤ l3 ∧ ((l3 : Int) < n13 ∧ (((G9 (G9 (G9 820 1) 2) l3 = -1 ∨ isO W0 10 (G9 (G9 (G9 820 1) 2) l3)) ∧ ∀ v, W0.2 (G9 (G9 820 1) 2) l3 = some v → G9 (G9 (G9 820 1) 2) l3 = v) → PX3_openRow (G9 (G9 (G9 820 1) 2) l3) G9 (fun _ G18 => PX3_write_44 J l1 l2 l3 0 G18 Q)))))))))) ∧ (¬ (l3 < G (G 820 1) 3) → Q 0 G)))))
def PX3_write_0 (J : Nat → List Int → gS → (Int → gS → Prop) → Prop) (a1 : Int) (a2 : Int) (G : gS) (Q : Int → gS → Prop) : Prop :=
  ((a1 = -1 ∨ isO W0 11 (a1)) ∧ (∀ G2 : gS, G2 = uG G 820 0 (a1) → ((a2 = -1 ∨ isO W0 1 (a2)) ∧ (∀ G4 : gS, G4 = uG G2 820 1 (a2) → PX3_write_12 J a1 a2 0 G4 Q))))
def PX3_write_J : Nat → Nat → List Int → gS → (Int → gS → Prop) → Prop
  | 0, _, _, _, _ => False
  | f + 1, h, L, G, Q => match h, L with
    | 0, [l1, l2, l3] => PX3_write_12 (PX3_write_J f) l1 l2 l3 G Q
    | 1, [l1, l2, l3, l4] => PX3_write_44 (PX3_write_J f) l1 l2 l3 l4 G Q
    | 2, [l1, l2, l3, l4] => PX3_write_132 (PX3_write_J f) l1 l2 l3 l4 G Q
    | _, _ => False
def PX3_write (a1 : Int) (a2 : Int) (G : gS) (Q : Int → gS → Prop) : Prop := ∃ f : Nat, f ≤ 4000000000 ∧ PX3_write_0 (PX3_write_J f) a1 a2 G Q
def PX5_undo_0 (J : Nat → List Int → gS → (Int → gS → Prop) → Prop) (o : Int) (l1 : Int) (G : gS) (Q : Int → gS → Prop) : Prop :=
  (isO W0 5 (o) ∧ (inI (G o 6) → ((l1 < G o 6 → (inI (G o 6) → (inI ((G o 6) - 1) ∧ (∀ G6 : gS, G6 = uG G o 6 ((G o 6) - 1) → (inI (G6 o 6) → ((0 : Int) ≤ G6 o 6 ∧ ((G6 o 6 : Int) < 64 ∧ (inI (G6 (o + 4) (G6 o 6)) → ((0 : Int) ≤ G6 (o + 4) (G6 o 6) ∧ ((G6 (o + 4) (G6 o 6) : Int) < 64 ∧ (∀ G13 : gS, G13 = uG G6 (o + 1) (G6 (o + 4) (G6 o 6)) (0) → J 0 [o, l1] G13 Q))))))))))) ∧ (¬ (l1 < G o 6) → (∀ G14 : gS, G14 = uG G o 4 (0) → Q 0 G14)))))
def PX5_undo_J : Nat → Nat → List Int → gS → (Int → gS → Prop) → Prop
  | 0, _, _, _, _ => False
  | f + 1, h, L, G, Q => match h, L with
    | 0, [o, l1] => PX5_undo_0 (PX5_undo_J f) o l1 G Q
    | _, _ => False
def PX5_undo (o : Int) (a1 : Int) (G : gS) (Q : Int → gS → Prop) : Prop := ∃ f : Nat, f ≤ 4000000000 ∧ PX5_undo_0 (PX5_undo_J f) o a1 G Q
def PX6_reckon_65w (l0 : Int) (l1 : Int) (l2 : Int) (s0 : Int) (G : gS) (Q : Int → gS → Prop) : Prop :=
  Q (s0) G
def PX6_reckon_54w (l0 : Int) (l1 : Int) (l2 : Int) (s0 : Int) (G : gS) (Q : Int → gS → Prop) : Prop :=
  Q (s0) G
def PX6_reckon_0w (a0 : Int) (a1 : Int) (a2 : Int) (G : gS) (Q : Int → gS → Prop) : Prop :=
  ((a0 = 7 → Q (w32 (a1 + a2)) G) ∧ (a0 = 8 → Q (w32 (a1 - a2)) G) ∧ (a0 = 9 → Q (w32 (a1 * a2)) G) ∧ (a0 = 10 → ((a1 < a2 → PX6_reckon_54w a0 a1 a2 1 G Q) ∧ (¬ (a1 < a2) → PX6_reckon_54w a0 a1 a2 0 G Q))) ∧ ((a0 < 7 ∨ 11 ≤ a0) → ((a1 = a2 → PX6_reckon_65w a0 a1 a2 1 G Q) ∧ (¬ (a1 = a2) → PX6_reckon_65w a0 a1 a2 0 G Q))))
abbrev PX6_reckonw (a0 : Int) (a1 : Int) (a2 : Int) (G : gS) (Q : Int → gS → Prop) : Prop := PX6_reckon_0w a0 a1 a2 G Q
def PX6_plainOne_151w (l1 : Int) (l2 : Int) (l3 : Int) (l5 : Int) (l6 : Int) (G : gS) (Q : Int → gS → Prop) : Prop :=
  Q (1) G
def PX6_plainOne_110w (l1 : Int) (l2 : Int) (l3 : Int) (l4 : Int) (s0 : Int) (s1 : Int) (G : gS) (Q : Int → gS → Prop) : Prop :=
  (isO W0 6 (s0) ∧ PX6_push s1 G (fun _ G58 => Q (1) G58))
def PX6_plainOne_109w (l1 : Int) (l2 : Int) (l3 : Int) (l4 : Int) (s0 : Int) (G : gS) (Q : Int → gS → Prop) : Prop :=
  PX6_plainOne_110w l1 l2 l3 l4 s0 0 G Q
def PX6_plainOne_0w (a1 : Int) (a2 : Int) (a3 : Int) (G : gS) (Q : Int → gS → Prop) : Prop :=
  ((a2 = 1 → (inI (G 938 14) → ((G 938 14 < 20000 → (inI (G 938 14) → (inI ((G 938 14) + 1) ∧ (∀ G6 : gS, G6 = uG G 938 14 ((G 938 14) + 1) → Q (1) G6)))) ∧ (¬ (G 938 14 < 20000) → PX6_fail 14 G (fun _ G7 => Q (0) G7))))) ∧ (a2 = 2 → PX6_push a3 G (fun _ G9 => Q (1) G9)) ∧ (a2 = 3 → (∃ n11, isA W0 0 n11 (a1) ∧ ((0 : Int) ≤ 2 ∧ ((2 : Int) < n11 ∧ (inI (G a1 2) → (inI ((G a1 2) + a3) ∧ (((G a1 2) + a3 < 0 → PX6_plainOne_109w a1 a2 a3 ((G a1 2) + a3) 938 G Q) ∧ (¬ ((G a1 2) + a3 < 0) → (inI (G 938 3) → (((G a1 2) + a3 < G 938 3 → ((0 : Int) ≤ (G a1 2) + a3 ∧ (((G a1 2) + a3 : Int) < 24000 ∧ (inI (G 952 ((G a1 2) + a3)) → PX6_plainOne_110w a1 a2 a3 ((G a1 2) + a3) 938 (G 952 ((G a1 2) + a3)) G Q)))) ∧ (¬ ((G a1 2) + a3 < G 938 3) → PX6_plainOne_109w a1 a2 a3 ((G a1 2) + a3) 938 G Q))))))))))) ∧ (a2 = 4 → PX6_pop G (fun r24 G23 => inI r24 → (∃ n26, isA W0 0 n26 (a1) ∧ ((0 : Int) ≤ 2 ∧ ((2 : Int) < n26 ∧ (inI (G23 a1 2) → (inI ((G23 a1 2) + a3) ∧ (((G23 a1 2) + a3 < 0 → PX6_plainOne_151w a1 a2 a3 r24 ((G23 a1 2) + a3) G23 Q) ∧ (¬ ((G23 a1 2) + a3 < 0) → (inI (G23 938 3) → (((G23 a1 2) + a3 < G23 938 3 → ((0 : Int) ≤ (G23 a1 2) + a3 ∧ (((G23 a1 2) + a3 : Int) < 24000 ∧ (∀ G37 : gS, G37 = uG G23 952 ((G23 a1 2) + a3) (r24) → PX6_plainOne_151w a1 a2 a3 r24 ((G23 a1 2) + a3) G37 Q)))) ∧ (¬ ((G23 a1 2) + a3 < G23 938 3) → PX6_plainOne_151w a1 a2 a3 r24 ((G23 a1 2) + a3) G23 Q)))))))))))) ∧ (a2 = 5 → PX6_pop G (fun r39 G38 => inI r39 → Q (1) G38)) ∧ (a2 = 6 → PX6_peek 0 G (fun r42 G41 => inI r42 → PX6_push r42 G41 (fun _ G44 => Q (1) G44))) ∧ ((a2 < 1 ∨ 7 ≤ a2) → PX6_pop G (fun r47 G46 => inI r47 → PX6_pop G46 (fun r50 G49 => inI r50 → PX6_reckonw a2 r50 r47 G49 (fun r53 G52 => inI r53 → PX6_push r53 G52 (fun _ G55 => Q (1) G55))))))
abbrev PX6_plainOnew (a1 : Int) (a2 : Int) (a3 : Int) (G : gS) (Q : Int → gS → Prop) : Prop := PX6_plainOne_0w a1 a2 a3 G Q
def PX6_turn_350w (l1 : Int) (l2 : Int) (l3 : Int) (l4 : Int) (l5 : Int) (l6 : Int) (l7 : Int) (G : gS) (Q : Int → gS → Prop) : Prop :=
  Q 0 G
def PX6_turn_338w (l1 : Int) (l2 : Int) (l3 : Int) (l4 : Int) (l5 : Int) (l6 : Int) (l7 : Int) (G : gS) (Q : Int → gS → Prop) : Prop :=
  ((l7 = 0 → PX6_turn_350w l1 l2 l3 l4 l5 l6 l7 G Q) ∧ (¬ (l7 = 0) → (∃ n65, isA W0 0 n65 (l1) ∧ ((0 : Int) ≤ 1 ∧ ((1 : Int) < n65 ∧ (inI (l4 + 2) ∧ (∀ G70 : gS, G70 = uG G l1 1 (l4 + 2) → PX6_turn_350w l1 l2 l3 l4 l5 l6 l7 G70 Q)))))))
def PX6_turn_309w (l1 : Int) (l2 : Int) (l3 : Int) (l4 : Int) (l5 : Int) (l6 : Int) (l7 : Int) (l8 : Int) (l9 : Int) (G : gS) (Q : Int → gS → Prop) : Prop :=
  (isO W0 1 (l3) ∧ (((G l3 10 = -1 ∨ ∃ n, isA W0 0 n (G l3 10)) ∧ ∀ v, W0.2 l3 10 = some v → G l3 10 = v) → ((G 938 0 = -1 ∨ isO W0 11 (G 938 0)) → (isO W0 11 (G 938 0) ∧ ((0 : Int) ≤ l2 ∧ ((l2 : Int) < 64 ∧ (((G ((G 938 0) + 1) l2 = -1 ∨ isO W0 10 (G ((G 938 0) + 1) l2)) ∧ ∀ v, W0.2 ((G 938 0) + 1) l2 = some v → G ((G 938 0) + 1) l2 = v) → (isO W0 10 (G ((G 938 0) + 1) l2) ∧ (inI (G (G ((G 938 0) + 1) l2) 16) → (∃ n120, isA W0 0 n120 (G l3 10) ∧ ((0 : Int) ≤ (G (G ((G 938 0) + 1) l2) 16) + l6 ∧ (((G (G ((G 938 0) + 1) l2) 16) + l6 : Int) < n120 ∧ (inI (G (G l3 10) ((G (G ((G 938 0) + 1) l2) 16) + l6)) → PX6_useOne l1 l5 (G (G l3 10) ((G (G ((G 938 0) + 1) l2) 16) + l6)) G (fun r126 G125 => (0 ≤ r126 ∧ r126 ≤ 1) → PX6_turn_338w l1 l2 l3 l4 l5 l6 r126 G125 Q))))))))))))))
def PX6_turn_270w (l1 : Int) (l2 : Int) (l3 : Int) (l4 : Int) (l5 : Int) (l6 : Int) (l7 : Int) (l8 : Int) (s0 : Int) (G : gS) (Q : Int → gS → Prop) : Prop :=
  ((l8 = 0 → (isO W0 5 (939) ∧ PX5_keep 939 l2 l6 G (fun _ G100 => ((s0 < 0 → PX6_turn_309w l1 l2 l3 l4 l5 l6 l7 l8 s0 G100 Q) ∧ (¬ (s0 < 0) → PX6_ready s0 G100 (fun r104 G103 => (0 ≤ r104 ∧ r104 ≤ 1) → ((r104 = 0 → Q 0 G103) ∧ (¬ (r104 = 0) → PX6_turn_309w l1 l2 l3 l4 l5 l6 l7 l8 s0 G103 Q)))))))) ∧ (¬ (l8 = 0) → PX6_fail l8 G (fun _ G107 => Q 0 G107)))
def PX6_turn_268w (l1 : Int) (l2 : Int) (l3 : Int) (l4 : Int) (l5 : Int) (l6 : Int) (l7 : Int) (l8 : Int) (G : gS) (Q : Int → gS → Prop) : Prop :=
  PX6_turn_270w l1 l2 l3 l4 l5 l6 l7 l8 (-2) G Q
def PX6_turn_258w (l1 : Int) (l2 : Int) (l3 : Int) (l4 : Int) (l5 : Int) (l6 : Int) (l7 : Int) (l8 : Int) (G : gS) (Q : Int → gS → Prop) : Prop :=
  (isO W0 5 (939) ∧ (inI (G 939 12) → PX6_turn_270w l1 l2 l3 l4 l5 l6 l7 l8 (G 939 12) G Q))
def PX6_turn_195w (l1 : Int) (l2 : Int) (l3 : Int) (l4 : Int) (l5 : Int) (l6 : Int) (l7 : Int) (s0 : Int) (G : gS) (Q : Int → gS → Prop) : Prop :=
  ((l5 = 35 → (isO W0 5 (939) ∧ (inI (G 939 14) → PX6_turn_270w l1 l2 l3 l4 l5 l6 l7 s0 (G 939 14) G Q))) ∧ (¬ (l5 = 35) → ((l5 = 32 → PX6_turn_258w l1 l2 l3 l4 l5 l6 l7 s0 G Q) ∧ (¬ (l5 = 32) → ((l5 = 33 → PX6_turn_258w l1 l2 l3 l4 l5 l6 l7 s0 G Q) ∧ (¬ (l5 = 33) → ((l5 = 34 → (isO W0 5 (939) ∧ ((G 939 11 = -1 ∨ isO W0 7 (G 939 11)) → ((G 939 11 < 0 → PX6_turn_268w l1 l2 l3 l4 l5 l6 l7 s0 G Q) ∧ (0 ≤ G 939 11 → (isO W0 5 (939) ∧ ((G 939 11 = -1 ∨ isO W0 7 (G 939 11)) → (isO W0 7 (G 939 11) ∧ ((0 ≤ G (G 939 11) 2 ∧ G (G 939 11) 2 ≤ 1) → ((G (G 939 11) 2 = 0 → PX6_turn_268w l1 l2 l3 l4 l5 l6 l7 s0 G Q) ∧ (¬ (G (G 939 11) 2 = 0) → PX6_turn_258w l1 l2 l3 l4 l5 l6 l7 s0 G Q))))))))))) ∧ (¬ (l5 = 34) → PX6_turn_268w l1 l2 l3 l4 l5 l6 l7 s0 G Q))))))))
def PX6_turn_168w (l1 : Int) (l2 : Int) (l3 : Int) (l4 : Int) (l5 : Int) (l6 : Int) (l7 : Int) (G : gS) (Q : Int → gS → Prop) : Prop :=
  (isO W0 5 (939) ∧ PX5_recalls 939 l2 l6 G (fun r77 G76 => (0 ≤ r77 ∧ r77 ≤ 1) → ((r77 = 0 → (isO W0 5 (939) ∧ PX5_ask 939 l2 l6 G76 (fun r82 G81 => inI r82 → PX6_turn_195w l1 l2 l3 l4 l5 l6 l7 r82 G81 Q))) ∧ (¬ (r77 = 0) → PX6_turn_195w l1 l2 l3 l4 l5 l6 l7 0 G76 Q))))
def PX6_turn_160w (l1 : Int) (l2 : Int) (l3 : Int) (l4 : Int) (l5 : Int) (l6 : Int) (l7 : Int) (G : gS) (Q : Int → gS → Prop) : Prop :=
  PX6_peek 0 G (fun r72 G71 => inI r72 → ((r72 = 0 → PX6_turn_338w l1 l2 l3 l4 l5 l6 l7 G71 Q) ∧ (¬ (r72 = 0) → PX6_turn_168w l1 l2 l3 l4 l5 l6 l7 G71 Q)))
def PX6_turn_74w (l1 : Int) (l2 : Int) (l3 : Int) (l4 : Int) (G : gS) (Q : Int → gS → Prop) : Prop :=
  PX6_fail 14 G (fun _ G62 => Q 0 G62)
def PX6_turn_35w (l1 : Int) (l2 : Int) (G : gS) (Q : Int → gS → Prop) : Prop :=
  Q 0 G
def PX6_turn_0w  (G : gS) (Q : Int → gS → Prop) : Prop :=
  (inI (G 938 5) → ((0 : Int) ≤ (G 938 5) - 1 ∧ (((G 938 5) - 1 : Int) < 25 ∧ (((G 953 ((G 938 5) - 1) = -1 ∨ ∃ n, isA W0 0 n (G 953 ((G 938 5) - 1))) ∧ ∀ v, W0.2 953 ((G 938 5) - 1) = some v → G 953 ((G 938 5) - 1) = v) → (∃ n5, isA W0 0 n5 (G 953 ((G 938 5) - 1)) ∧ ((0 : Int) ≤ 6 ∧ ((6 : Int) < n5 ∧ (inI (G (G 953 ((G 938 5) - 1)) 6) → ((G (G 953 ((G 938 5) - 1)) 6 < 0 → (∃ n11, isA W0 0 n11 (G 953 ((G 938 5) - 1)) ∧ ((0 : Int) ≤ 0 ∧ ((0 : Int) < n11 ∧ (inI (G (G 953 ((G 938 5) - 1)) 0) → ((G 938 0 = -1 ∨ isO W0 11 (G 938 0)) → (isO W0 11 (G 938 0) ∧ ((0 : Int) ≤ G (G 953 ((G 938 5) - 1)) 0 ∧ ((G (G 953 ((G 938 5) - 1)) 0 : Int) < 64 ∧ (((G ((G 938 0) + 1) (G (G 953 ((G 938 5) - 1)) 0) = -1 ∨ isO W0 10 (G ((G 938 0) + 1) (G (G 953 ((G 938 5) - 1)) 0))) ∧ ∀ v, W0.2 ((G 938 0) + 1) (G (G 953 ((G 938 5) - 1)) 0) = some v → G ((G 938 0) + 1) (G (G 953 ((G 938 5) - 1)) 0) = v) → (isO W0 10 (G ((G 938 0) + 1) (G (G 953 ((G 938 5) - 1)) 0)) ∧ ((G (G ((G 938 0) + 1) (G (G 953 ((G 938 5) - 1)) 0)) 0 = -1 ∨ isO W0 1 (G (G ((G 938 0) + 1) (G (G 953 ((G 938 5) - 1)) 0)) 0)) → (∃ n23, isA W0 0 n23 (G 953 ((G 938 5) - 1)) ∧ ((0 : Int) ≤ 1 ∧ ((1 : Int) < n23 ∧ (inI (G (G 953 ((G 938 5) - 1)) 1) → ((G (G 953 ((G 938 5) - 1)) 1 < 0 → PX6_turn_74w (G 953 ((G 938 5) - 1)) (G (G 953 ((G 938 5) - 1)) 0) (G (G ((G 938 0) + 1) (G (G 953 ((G 938 5) - 1)) 0)) 0) (G (G 953 ((G 938 5) - 1)) 1) G Q) ∧ (¬ (G (G 953 ((G 938 5) - 1)) 1 < 0) → (isO W0 1 (G (G ((G 938 0) + 1) (G (G 953 ((G 938 5) - 1)) 0)) 0) ∧ (inI (G (G (G ((G 938 0) + 1) (G (G 953 ((G 938 5) - 1)) 0)) 0) 17) → (inI ((G (G 953 ((G 938 5) - 1)) 1) + 1) ∧ (((G (G 953 ((G 938 5) - 1)) 1) + 1 < G (G (G ((G 938 0) + 1) (G (G 953 ((G 938 5) - 1)) 0)) 0) 17 → (((G (G (G ((G 938 0) + 1) (G (G 953 ((G 938 5) - 1)) 0)) 0) 16 = -1 ∨ ∃ n, isA W0 0 n (G (G (G ((G 938 0) + 1) (G (G 953 ((G 938 5) - 1)) 0)) 0) 16)) ∧ ∀ v, W0.2 (G (G ((G 938 0) + 1) (G (G 953 ((G 938 5) - 1)) 0)) 0) 16 = some v → G (G (G ((G 938 0) + 1) (G (G 953 ((G 938 5) - 1)) 0)) 0) 16 = v) → (∃ n34, isA W0 0 n34 (G (G (G ((G 938 0) + 1) (G (G 953 ((G 938 5) - 1)) 0)) 0) 16) ∧ ((0 : Int) ≤ G (G 953 ((G 938 5) - 1)) 1 ∧ ((G (G 953 ((G 938 5) - 1)) 1 : Int) < n34 ∧ (inI (G (G (G (G ((G 938 0) + 1) (G (G 953 ((G 938 5) - 1)) 0)) 0) 16) (G (G 953 ((G 938 5) - 1)) 1)) → (((G (G (G ((G 938 0) + 1) (G (G 953 ((G 938 5) - 1)) 0)) 0) 16 = -1 ∨ ∃ n, isA W0 0 n (G (G (G ((G 938 0) + 1) (G (G 953 ((G 938 5) - 1)) 0)) 0) 16)) ∧ ∀ v, W0.2 (G (G ((G 938 0) + 1) (G (G 953 ((G 938 5) - 1)) 0)) 0) 16 = some v → G (G (G ((G 938 0) + 1) (G (G 953 ((G 938 5) - 1)) 0)) 0) 16 = v) → (∃ n40, isA W0 0 n40 (G (G (G ((G 938 0) + 1) (G (G 953 ((G 938 5) - 1)) 0)) 0) 16) ∧ ((0 : Int) ≤ (G (G 953 ((G 938 5) - 1)) 1) + 1 ∧ (((G (G 953 ((G 938 5) - 1)) 1) + 1 : Int) < n40 ∧ (inI (G (G (G (G ((G 938 0) + 1) (G (G 953 ((G 938 5) - 1)) 0)) 0) 16) ((G (G 953 ((G 938 5) - 1)) 1) + 1)) → ((G (G (G (G ((G 938 0) + 1) (G (G 953 ((G 938 5) - 1)) 0)) 0) 16) (G (G 953 ((G 938 5) - 1)) 1) < 12 → PX6_plainOnew (G 953 ((G 938 5) - 1)) (G (G (G (G ((G 938 0) + 1) (G (G 953 ((G 938 5) - 1)) 0)) 0) 16) (G (G 953 ((G 938 5) - 1)) 1)) (G (G (G (G ((G 938 0) + 1) (G (G 953 ((G 938 5) - 1)) 0)) 0) 16) ((G (G 953 ((G 938 5) - 1)) 1) + 1)) G (fun r47 G46 => (0 ≤ r47 ∧ r47 ≤ 1) → PX6_turn_338w (G 953 ((G 938 5) - 1)) (G (G 953 ((G 938 5) - 1)) 0) (G (G ((G 938 0) + 1) (G (G 953 ((G 938 5) - 1)) 0)) 0) (G (G 953 ((G 938 5) - 1)) 1) (G (G (G (G ((G 938 0) + 1) (G (G 953 ((G 938 5) - 1)) 0)) 0) 16) (G (G 953 ((G 938 5) - 1)) 1)) (G (G (G (G ((G 938 0) + 1) (G (G 953 ((G 938 5) - 1)) 0)) 0) 16) ((G (G 953 ((G 938 5) - 1)) 1) + 1)) r47 G46 Q)) ∧ (¬ (G (G (G (G ((G 938 0) + 1) (G (G 953 ((G 938 5) - 1)) 0)) 0) 16) (G (G 953 ((G 938 5) - 1)) 1) < 12) → ((G (G (G (G ((G 938 0) + 1) (G (G 953 ((G 938 5) - 1)) 0)) 0) 16) (G (G 953 ((G 938 5) - 1)) 1) < 30 → PX6_goOne (G 953 ((G 938 5) - 1)) (G (G (G (G ((G 938 0) + 1) (G (G 953 ((G 938 5) - 1)) 0)) 0) 16) (G (G 953 ((G 938 5) - 1)) 1)) (G (G (G (G ((G 938 0) + 1) (G (G 953 ((G 938 5) - 1)) 0)) 0) 16) ((G (G 953 ((G 938 5) - 1)) 1) + 1)) G (fun r51 G50 => (0 ≤ r51 ∧ r51 ≤ 1) → PX6_turn_338w (G 953 ((G 938 5) - 1)) (G (G 953 ((G 938 5) - 1)) 0) (G (G ((G 938 0) + 1) (G (G 953 ((G 938 5) - 1)) 0)) 0) (G (G 953 ((G 938 5) - 1)) 1) (G (G (G (G ((G 938 0) + 1) (G (G 953 ((G 938 5) - 1)) 0)) 0) 16) (G (G 953 ((G 938 5) - 1)) 1)) (G (G (G (G ((G 938 0) + 1) (G (G 953 ((G 938 5) - 1)) 0)) 0) 16) ((G (G 953 ((G 938 5) - 1)) 1) + 1)) r51 G50 Q)) ∧ (¬ (G (G (G (G ((G 938 0) + 1) (G (G 953 ((G 938 5) - 1)) 0)) 0) 16) (G (G 953 ((G 938 5) - 1)) 1) < 30) → ((G (G (G (G ((G 938 0) + 1) (G (G 953 ((G 938 5) - 1)) 0)) 0) 16) (G (G 953 ((G 938 5) - 1)) 1) = 37 → PX6_turn_160w (G 953 ((G 938 5) - 1)) (G (G 953 ((G 938 5) - 1)) 0) (G (G ((G 938 0) + 1) (G (G 953 ((G 938 5) - 1)) 0)) 0) (G (G 953 ((G 938 5) - 1)) 1) (G (G (G (G ((G 938 0) + 1) (G (G 953 ((G 938 5) - 1)) 0)) 0) 16) (G (G 953 ((G 938 5) - 1)) 1)) (G (G (G (G ((G 938 0) + 1) (G (G 953 ((G 938 5) - 1)) 0)) 0) 16) ((G (G 953 ((G 938 5) - 1)) 1) + 1)) 1 G Q) ∧ (¬ (G (G (G (G ((G 938 0) + 1) (G (G 953 ((G 938 5) - 1)) 0)) 0) 16) (G (G 953 ((G 938 5) - 1)) 1) = 37) → ((G (G (G (G ((G 938 0) + 1) (G (G 953 ((G 938 5) - 1)) 0)) 0) 16) (G (G 953 ((G 938 5) - 1)) 1) = 38 → PX6_turn_160w (G 953 ((G 938 5) - 1)) (G (G 953 ((G 938 5) - 1)) 0) (G (G ((G 938 0) + 1) (G (G 953 ((G 938 5) - 1)) 0)) 0) (G (G 953 ((G 938 5) - 1)) 1) (G (G (G (G ((G 938 0) + 1) (G (G 953 ((G 938 5) - 1)) 0)) 0) 16) (G (G 953 ((G 938 5) - 1)) 1)) (G (G (G (G ((G 938 0) + 1) (G (G 953 ((G 938 5) - 1)) 0)) 0) 16) ((G (G 953 ((G 938 5) - 1)) 1) + 1)) 1 G Q) ∧ (¬ (G (G (G (G ((G 938 0) + 1) (G (G 953 ((G 938 5) - 1)) 0)) 0) 16) (G (G 953 ((G 938 5) - 1)) 1) = 38) → PX6_turn_168w (G 953 ((G 938 5) - 1)) (G (G 953 ((G 938 5) - 1)) 0) (G (G ((G 938 0) + 1) (G (G 953 ((G 938 5) - 1)) 0)) 0) (G (G 953 ((G 938 5) - 1)) 1) (G (G (G (G ((G 938 0) + 1) (G (G 953 ((G 938 5) - 1)) 0)) 0) 16) (G (G 953 ((G 938 5) - 1)) 1)) (G (G (G (G ((G 938 0) + 1) (G (G 953 ((G 938 5) - 1)) 0)) 0) 16) ((G (G 953 ((G 938 5) - 1)) 1) + 1)) 1 G Q))))))))))))))))))) ∧ (¬ ((G (G 953 ((G 938 5) - 1)) 1) + 1 < G (G (G ((G 938 0) + 1) (G (G 953 ((G 938 5) - 1)) 0)) 0) 17) → PX6_turn_74w (G 953 ((G 938 5) - 1)) (G (G 953 ((G 938 5) - 1)) 0) (G (G ((G 938 0) + 1) (G (G 953 ((G 938 5) - 1)) 0)) 0) (G (G 953 ((G 938 5) - 1)) 1) G Q))))))))))))))))))))))) ∧ (¬ (G (G 953 ((G 938 5) - 1)) 6 < 0) → PX6_nextStart (G 953 ((G 938 5) - 1)) G (fun r56 G55 => inI r56 → ((r56 < 0 → PX6_turn_35w (G 953 ((G 938 5) - 1)) r56 G55 Q) ∧ (¬ (r56 < 0) → PX6_ready r56 G55 (fun r60 G59 => (0 ≤ r60 ∧ r60 ≤ 1) → PX6_turn_35w (G 953 ((G 938 5) - 1)) r56 G59 Q))))))))))))))
abbrev PX6_turnw  (G : gS) (Q : Int → gS → Prop) : Prop := PX6_turn_0w  G Q
def PX9_args_120 (R : Nat → List Int → gS → (Int → gS → Prop) → Prop) (J : Nat → List Int → gS → (Int → gS → Prop) → Prop) (l1 : Int) (l2 : Int) (l3 : Int) (l4 : Int) (l5 : Int) (G : gS) (Q : Int → gS → Prop) : Prop :=
  PX9_need 141 G (fun r23 G22 => (0 ≤ r23 ∧ r23 ≤ 1) → Q (r23) G22)
def PX9_args_114 (R : Nat → List Int → gS → (Int → gS → Prop) → Prop) (J : Nat → List Int → gS → (Int → gS → Prop) → Prop) (l1 : Int) (l2 : Int) (l3 : Int) (l4 : Int) (l5 : Int) (l6 : Int) (G : gS) (Q : Int → gS → Prop) : Prop :=
  (inI (l5 + 1) ∧ J 0 [l1, l2, l3, l4, l5 + 1] G Q)
def PX9_args_100 (R : Nat → List Int → gS → (Int → gS → Prop) → Prop) (J : Nat → List Int → gS → (Int → gS → Prop) → Prop) (l1 : Int) (l2 : Int) (l3 : Int) (l4 : Int) (l5 : Int) (l6 : Int) (s0 : Int) (G : gS) (Q : Int → gS → Prop) : Prop :=
  ((s0 = 0 → PX9_args_114 R J l1 l2 s0 l4 l5 l6 G Q) ∧ (¬ (s0 = 0) → PX9_take G (fun r31 G30 => (0 ≤ r31 ∧ r31 ≤ 1) → ((r31 = 0 → Q (0) G30) ∧ (¬ (r31 = 0) → PX9_args_114 R J l1 l2 s0 l4 l5 l6 G30 Q)))))
def PX9_args_81 (R : Nat → List Int → gS → (Int → gS → Prop) → Prop) (J : Nat → List Int → gS → (Int → gS → Prop) → Prop) (l1 : Int) (l2 : Int) (l3 : Int) (l4 : Int) (l5 : Int) (l6 : Int) (G : gS) (Q : Int → gS → Prop) : Prop :=
  PX9_now G (fun r26 G25 => inI r26 → ((r26 = 144 → PX9_args_100 R J l1 l2 l3 l6 l5 l6 1 G25 Q) ∧ (¬ (r26 = 144) → PX9_args_100 R J l1 l2 l3 l6 l5 l6 0 G25 Q)))
def PX9_args_34 (R : Nat → List Int → gS → (Int → gS → Prop) → Prop) (J : Nat → List Int → gS → (Int → gS → Prop) → Prop) (l1 : Int) (l2 : Int) (l3 : Int) (l4 : Int) (l5 : Int) (G : gS) (Q : Int → gS → Prop) : Prop :=
  ((l5 < 700 → ((l3 = 0 → PX9_args_120 R J l1 l2 l3 l4 l5 G Q) ∧ (¬ (l3 = 0) → R 3 [l2] G (fun r12 G11 => ((r12 < 0 → Q (0) G11) ∧ (0 ≤ r12 → ((l4 < 0 → (isO W0 8 (l1) ∧ ((r12 = -1 ∨ isO W0 8 (r12)) ∧ (∀ G18 : gS, G18 = uG G11 l1 5 (r12) → PX9_args_81 R J l1 l2 l3 l4 l5 r12 G18 Q)))) ∧ (0 ≤ l4 → (isO W0 8 (l4) ∧ ((r12 = -1 ∨ isO W0 8 (r12)) ∧ (∀ G21 : gS, G21 = uG G11 l4 8 (r12) → PX9_args_81 R J l1 l2 l3 l4 l5 r12 G21 Q))))))))))) ∧ (¬ (l5 < 700) → PX9_args_120 R J l1 l2 l3 l4 l5 G Q))
def PX9_args_27 (R : Nat → List Int → gS → (Int → gS → Prop) → Prop) (J : Nat → List Int → gS → (Int → gS → Prop) → Prop) (l1 : Int) (l2 : Int) (s0 : Int) (G : gS) (Q : Int → gS → Prop) : Prop :=
  PX9_args_34 R J l1 l2 s0 (-1) 0 G Q
def PX9_args_0 (R : Nat → List Int → gS → (Int → gS → Prop) → Prop) (J : Nat → List Int → gS → (Int → gS → Prop) → Prop) (a1 : Int) (a2 : Int) (G : gS) (Q : Int → gS → Prop) : Prop :=
  PX9_need 140 G (fun r2 G1 => (0 ≤ r2 ∧ r2 ≤ 1) → ((r2 = 0 → Q (0) G1) ∧ (¬ (r2 = 0) → PX9_now G1 (fun r6 G5 => inI r6 → ((r6 = 141 → PX9_args_27 R J a1 a2 0 G5 Q) ∧ (¬ (r6 = 141) → PX9_args_27 R J a1 a2 1 G5 Q))))))
def PX9_args_J (R : Nat → List Int → gS → (Int → gS → Prop) → Prop) : Nat → Nat → List Int → gS → (Int → gS → Prop) → Prop
  | 0, _, _, _, _ => False
  | f + 1, h, L, G, Q => match h, L with
    | 0, [l1, l2, l3, l4, l5] => PX9_args_34 R (PX9_args_J R f) l1 l2 l3 l4 l5 G Q
    | _, _ => False
def PX9_args (R : Nat → List Int → gS → (Int → gS → Prop) → Prop) (a1 : Int) (a2 : Int) (G : gS) (Q : Int → gS → Prop) : Prop := ∃ f : Nat, f ≤ 4000000000 ∧ PX9_args_0 R (PX9_args_J R f) a1 a2 G Q
def PX9_behindUnit_110 (R : Nat → List Int → gS → (Int → gS → Prop) → Prop) (l1 : Int) (l2 : Int) (l3 : Int) (G : gS) (Q : Int → gS → Prop) : Prop :=
  Q (l3) G
def PX9_behindUnit_109 (R : Nat → List Int → gS → (Int → gS → Prop) → Prop) (l1 : Int) (l2 : Int) (l3 : Int) (s0 : Int) (G : gS) (Q : Int → gS → Prop) : Prop :=
  Q (s0) G
def PX9_behindUnit_67 (R : Nat → List Int → gS → (Int → gS → Prop) → Prop) (l1 : Int) (l2 : Int) (l3 : Int) (s0 : Int) (s1 : Int) (G : gS) (Q : Int → gS → Prop) : Prop :=
  (isO W0 9 (s0) ∧ PX9_need s1 G (fun r24 G23 => (0 ≤ r24 ∧ r24 ≤ 1) → ((r24 = 0 → Q (-1) G23) ∧ (¬ (r24 = 0) → ((l2 = 0 → PX9_now G23 (fun r29 G28 => inI r29 → ((r29 = 140 → (isO W0 8 (l3) ∧ (∀ G33 : gS, G33 = uG G28 l3 0 (15) → R 0 [l3, l1] G33 (fun r35 G34 => (0 ≤ r35 ∧ r35 ≤ 1) → ((r35 = 0 → PX9_behindUnit_109 R l1 l2 l3 (-1) G34 Q) ∧ (¬ (r35 = 0) → PX9_behindUnit_109 R l1 l2 l3 l3 G34 Q)))))) ∧ (¬ (r29 = 140) → PX9_behindUnit_110 R l1 l2 l3 G28 Q)))) ∧ (¬ (l2 = 0) → PX9_behindUnit_110 R l1 l2 l3 G23 Q))))))
def PX9_behindUnit_36 (R : Nat → List Int → gS → (Int → gS → Prop) → Prop) (l1 : Int) (l2 : Int) (s0 : Int) (s1 : Int) (G : gS) (Q : Int → gS → Prop) : Prop :=
  (inI (G 7 8) → (isO W0 9 (s0) ∧ PX9_node s1 (G 7 8) G (fun r13 G12 => (inI (G12 7 8) → ((0 : Int) ≤ G12 7 8 ∧ ((G12 7 8 : Int) < 704 ∧ (inL (G12 12 (G12 7 8)) → (isO W0 8 (r13) ∧ (∀ G20 : gS, G20 = uG G12 r13 10 (G12 12 (G12 7 8)) → ((l2 = 0 → PX9_behindUnit_67 R l1 l2 r13 7 3 G20 Q) ∧ (¬ (l2 = 0) → PX9_behindUnit_67 R l1 l2 r13 7 2 G20 Q)))))))))))
def PX9_behindUnit_14 (R : Nat → List Int → gS → (Int → gS → Prop) → Prop) (l1 : Int) (s0 : Int) (G : gS) (Q : Int → gS → Prop) : Prop :=
  PX9_take G (fun r6 G5 => (0 ≤ r6 ∧ r6 ≤ 1) → ((r6 = 0 → Q (-1) G5) ∧ (¬ (r6 = 0) → ((s0 = 0 → PX9_behindUnit_36 R l1 s0 7 14 G5 Q) ∧ (¬ (s0 = 0) → PX9_behindUnit_36 R l1 s0 7 16 G5 Q)))))
def PX9_behindUnit_0 (R : Nat → List Int → gS → (Int → gS → Prop) → Prop) (a1 : Int) (G : gS) (Q : Int → gS → Prop) : Prop :=
  PX9_now G (fun r2 G1 => inI r2 → ((r2 = 39 → PX9_behindUnit_14 R a1 1 G1 Q) ∧ (¬ (r2 = 39) → PX9_behindUnit_14 R a1 0 G1 Q)))
abbrev PX9_behindUnit (R : Nat → List Int → gS → (Int → gS → Prop) → Prop) (a1 : Int) (G : gS) (Q : Int → gS → Prop) : Prop := PX9_behindUnit_0 R a1 G Q
def PX9_chain_146 (R : Nat → List Int → gS → (Int → gS → Prop) → Prop) (J : Nat → List Int → gS → (Int → gS → Prop) → Prop) (l1 : Int) (l2 : Int) (l3 : Int) (l4 : Int) (l5 : Int) (s0 : Int) (G : gS) (Q : Int → gS → Prop) : Prop :=
  Q (s0) G
def PX9_chain_136 (R : Nat → List Int → gS → (Int → gS → Prop) → Prop) (J : Nat → List Int → gS → (Int → gS → Prop) → Prop) (l1 : Int) (l2 : Int) (l3 : Int) (l4 : Int) (l5 : Int) (G : gS) (Q : Int → gS → Prop) : Prop :=
  ((l3 < 0 → PX9_chain_146 R J l1 l2 l3 l4 l5 (-1) G Q) ∧ (0 ≤ l3 → PX9_chain_146 R J l1 l2 l3 l4 l5 l4 G Q))
def PX9_chain_121 (R : Nat → List Int → gS → (Int → gS → Prop) → Prop) (J : Nat → List Int → gS → (Int → gS → Prop) → Prop) (l1 : Int) (l2 : Int) (l3 : Int) (l4 : Int) (l5 : Int) (l6 : Int) (l7 : Int) (G : gS) (Q : Int → gS → Prop) : Prop :=
  (isO W0 8 (l3) ∧ ((l7 = -1 ∨ isO W0 8 (l7)) ∧ (∀ G47 : gS, G47 = uG G l3 8 (l7) → (inI (l5 + 1) ∧ J 0 [l1, l2, l7, l4, l5 + 1] G47 Q))))
def PX9_chain_107 (R : Nat → List Int → gS → (Int → gS → Prop) → Prop) (J : Nat → List Int → gS → (Int → gS → Prop) → Prop) (l1 : Int) (l2 : Int) (l3 : Int) (l4 : Int) (l5 : Int) (l6 : Int) (s0 : Int) (G : gS) (Q : Int → gS → Prop) : Prop :=
  ((s0 < 0 → PX9_chain_121 R J l1 l2 l3 l4 l5 l6 s0 G Q) ∧ (0 ≤ s0 → (isO W0 8 (s0) ∧ (∀ G44 : gS, G44 = uG G s0 3 (l6) → PX9_chain_121 R J l1 l2 l3 l4 l5 l6 s0 G44 Q))))
def PX9_chain_72 (R : Nat → List Int → gS → (Int → gS → Prop) → Prop) (J : Nat → List Int → gS → (Int → gS → Prop) → Prop) (l1 : Int) (l2 : Int) (l3 : Int) (l4 : Int) (l5 : Int) (G : gS) (Q : Int → gS → Prop) : Prop :=
  PX9_now G (fun r29 G28 => inI r29 → PX9_take G28 (fun r32 G31 => (0 ≤ r32 ∧ r32 ≤ 1) → ((r32 = 0 → PX9_chain_107 R J l1 l2 l3 l4 l5 r29 (-1) G31 Q) ∧ (¬ (r32 = 0) → ((l2 = 0 → R 8 [l1] G31 (fun r37 G36 => PX9_chain_107 R J l1 l2 l3 l4 l5 r29 r37 G36 Q)) ∧ (¬ (l2 = 0) → R 2 [l1, 0] G31 (fun r40 G39 => PX9_chain_107 R J l1 l2 l3 l4 l5 r29 r40 G39 Q)))))))
def PX9_chain_25 (R : Nat → List Int → gS → (Int → gS → Prop) → Prop) (J : Nat → List Int → gS → (Int → gS → Prop) → Prop) (l1 : Int) (l2 : Int) (l3 : Int) (l4 : Int) (l5 : Int) (G : gS) (Q : Int → gS → Prop) : Prop :=
  ((l5 < 700 → ((l3 < 0 → PX9_chain_136 R J l1 l2 l3 l4 l5 G Q) ∧ (0 ≤ l3 → PX9_now G (fun r11 G10 => inI r11 → PX9_isChained r11 l2 G10 (fun r14 G13 => (0 ≤ r14 ∧ r14 ≤ 1) → ((r14 = 0 → PX9_chain_136 R J l1 l2 l3 l4 l5 G13 Q) ∧ (¬ (r14 = 0) → ((-1 : Int) ≤ l4 ∧ ((-1 : Int) ≤ l3 ∧ ((l4 = l3 → (isO W0 8 (l3) ∧ (inI (G13 l3 1) → PX9_node 17 (G13 l3 1) G13 (fun r23 G22 => (isO W0 8 (r23) ∧ (∀ G26 : gS, G26 = uG G22 r23 5 (l3) → PX9_chain_72 R J l1 l2 l3 r23 l5 G26 Q)))))) ∧ (¬ (l4 = l3) → PX9_chain_72 R J l1 l2 l3 l4 l5 G13 Q))))))))))) ∧ (¬ (l5 < 700) → PX9_chain_136 R J l1 l2 l3 l4 l5 G Q))
def PX9_chain_18 (R : Nat → List Int → gS → (Int → gS → Prop) → Prop) (J : Nat → List Int → gS → (Int → gS → Prop) → Prop) (l1 : Int) (l2 : Int) (s0 : Int) (G : gS) (Q : Int → gS → Prop) : Prop :=
  PX9_chain_25 R J l1 l2 s0 s0 0 G Q
def PX9_chain_0 (R : Nat → List Int → gS → (Int → gS → Prop) → Prop) (J : Nat → List Int → gS → (Int → gS → Prop) → Prop) (a1 : Int) (a2 : Int) (G : gS) (Q : Int → gS → Prop) : Prop :=
  ((a2 = 0 → R 8 [a1] G (fun r3 G2 => PX9_chain_18 R J a1 a2 r3 G2 Q)) ∧ (¬ (a2 = 0) → R 2 [a1, 0] G (fun r6 G5 => PX9_chain_18 R J a1 a2 r6 G5 Q)))
def PX9_chain_J (R : Nat → List Int → gS → (Int → gS → Prop) → Prop) : Nat → Nat → List Int → gS → (Int → gS → Prop) → Prop
  | 0, _, _, _, _ => False
  | f + 1, h, L, G, Q => match h, L with
    | 0, [l1, l2, l3, l4, l5] => PX9_chain_25 R (PX9_chain_J R f) l1 l2 l3 l4 l5 G Q
    | _, _ => False
def PX9_chain (R : Nat → List Int → gS → (Int → gS → Prop) → Prop) (a1 : Int) (a2 : Int) (G : gS) (Q : Int → gS → Prop) : Prop := ∃ f : Nat, f ≤ 4000000000 ∧ PX9_chain_0 R (PX9_chain_J R f) a1 a2 G Q
def PX9_expr_124 (R : Nat → List Int → gS → (Int → gS → Prop) → Prop) (l1 : Int) (l2 : Int) (l3 : Int) (s0 : Int) (G : gS) (Q : Int → gS → Prop) : Prop :=
  Q (s0) G
def PX9_expr_109 (R : Nat → List Int → gS → (Int → gS → Prop) → Prop) (l1 : Int) (l2 : Int) (l3 : Int) (s0 : Int) (s1 : Int) (G : gS) (Q : Int → gS → Prop) : Prop :=
  (isO W0 8 (s0) ∧ ((s1 = -1 ∨ isO W0 8 (s1)) ∧ (∀ G49 : gS, G49 = uG G s0 6 (s1) → (isO W0 8 (l3) ∧ ((G49 l3 6 = -1 ∨ isO W0 8 (G49 l3 6)) → ((G49 l3 6 < 0 → PX9_expr_124 R l1 l2 l3 (-1) G49 Q) ∧ (0 ≤ G49 l3 6 → PX9_expr_124 R l1 l2 l3 l3 G49 Q)))))))
def PX9_expr_65 (R : Nat → List Int → gS → (Int → gS → Prop) → Prop) (l1 : Int) (l2 : Int) (G : gS) (Q : Int → gS → Prop) : Prop :=
  (isO W0 8 (l2) ∧ (inI (G l2 1) → PX9_node 18 (G l2 1) G (fun r31 G30 => PX9_now G30 (fun r34 G33 => inI r34 → (isO W0 8 (r31) ∧ (∀ G37 : gS, G37 = uG G33 r31 3 (r34) → (∀ G38 : gS, G38 = uG G37 r31 5 (l2) → PX9_take G38 (fun r40 G39 => (0 ≤ r40 ∧ r40 ≤ 1) → ((r40 = 0 → PX9_expr_109 R l1 l2 r31 r31 (-1) G39 Q) ∧ (¬ (r40 = 0) → (inI (l1 + 1) ∧ R 2 [l1 + 1, 1] G39 (fun r45 G44 => PX9_expr_109 R l1 l2 r31 r31 r45 G44 Q))))))))))))
def PX9_expr_63 (R : Nat → List Int → gS → (Int → gS → Prop) → Prop) (l1 : Int) (l2 : Int) (G : gS) (Q : Int → gS → Prop) : Prop :=
  Q (l2) G
def PX9_expr_0 (R : Nat → List Int → gS → (Int → gS → Prop) → Prop) (a1 : Int) (G : gS) (Q : Int → gS → Prop) : Prop :=
  PX9_now G (fun r2 G1 => inI r2 → PX9_beginsE r2 G1 (fun r5 G4 => (0 ≤ r5 ∧ r5 ≤ 1) → ((r5 = 0 → PX9_miss G4 (fun r9 G8 => (0 ≤ r9 ∧ r9 ≤ 1) → Q (-1) G8)) ∧ (¬ (r5 = 0) → ((a1 < 12 → (inI (a1 + 1) ∧ R 2 [a1 + 1, 1] G4 (fun r14 G13 => ((r14 < 0 → PX9_expr_63 R a1 r14 G13 Q) ∧ (0 ≤ r14 → PX9_now G13 (fun r18 G17 => inI r18 → ((r18 = 160 → PX9_expr_65 R a1 r14 G17 Q) ∧ (¬ (r18 = 160) → PX9_now G17 (fun r22 G21 => inI r22 → ((r22 = 99 → PX9_expr_65 R a1 r14 G21 Q) ∧ (¬ (r22 = 99) → PX9_expr_63 R a1 r14 G21 Q))))))))))) ∧ (¬ (a1 < 12) → PX9_stop 3 G4 (fun r26 G25 => (0 ≤ r26 ∧ r26 ≤ 1) → Q (-1) G25)))))))
abbrev PX9_expr (R : Nat → List Int → gS → (Int → gS → Prop) → Prop) (a1 : Int) (G : gS) (Q : Int → gS → Prop) : Prop := PX9_expr_0 R a1 G Q
def PX9_front_255 (R : Nat → List Int → gS → (Int → gS → Prop) → Prop) (l1 : Int) (l2 : Int) (l3 : Int) (s0 : Int) (G : gS) (Q : Int → gS → Prop) : Prop :=
  Q (s0) G
def PX9_front_254 (R : Nat → List Int → gS → (Int → gS → Prop) → Prop) (l1 : Int) (l2 : Int) (l3 : Int) (G : gS) (Q : Int → gS → Prop) : Prop :=
  PX9_front_255 R l1 l2 l3 (-1) G Q
def PX9_front_205 (R : Nat → List Int → gS → (Int → gS → Prop) → Prop) (l1 : Int) (l2 : Int) (l3 : Int) (s0 : Int) (G : gS) (Q : Int → gS → Prop) : Prop :=
  Q (s0) G
def PX9_front_177 (R : Nat → List Int → gS → (Int → gS → Prop) → Prop) (l1 : Int) (l2 : Int) (l3 : Int) (s0 : Int) (G : gS) (Q : Int → gS → Prop) : Prop :=
  Q (s0) G
def PX9_front_172 (R : Nat → List Int → gS → (Int → gS → Prop) → Prop) (l1 : Int) (l2 : Int) (l3 : Int) (G : gS) (Q : Int → gS → Prop) : Prop :=
  PX9_front_177 R l1 l2 l3 l3 G Q
def PX9_front_152 (R : Nat → List Int → gS → (Int → gS → Prop) → Prop) (l1 : Int) (l2 : Int) (l3 : Int) (s0 : Int) (s1 : Int) (G : gS) (Q : Int → gS → Prop) : Prop :=
  (isO W0 8 (s0) ∧ (∀ G60 : gS, G60 = uG G s0 0 (s1) → (isO W0 8 (l3) ∧ (inI (G60 l3 0) → ((G60 l3 0 = 4 → PX9_front_172 R l1 l2 l3 G60 Q) ∧ (¬ (G60 l3 0 = 4) → R 0 [l3, l1] G60 (fun r65 G64 => (0 ≤ r65 ∧ r65 ≤ 1) → ((r65 = 0 → PX9_front_177 R l1 l2 l3 (-1) G64 Q) ∧ (¬ (r65 = 0) → PX9_front_172 R l1 l2 l3 G64 Q)))))))))
def PX9_front_0 (R : Nat → List Int → gS → (Int → gS → Prop) → Prop) (a1 : Int) (G : gS) (Q : Int → gS → Prop) : Prop :=
  PX9_now G (fun r2 G1 => inI r2 → PX9_beginsE r2 G1 (fun r5 G4 => (0 ≤ r5 ∧ r5 ≤ 1) → ((r5 = 0 → PX9_miss G4 (fun r9 G8 => (0 ≤ r9 ∧ r9 ≤ 1) → Q (-1) G8)) ∧ (¬ (r5 = 0) → (inI (G4 7 8) → PX9_node 1 (G4 7 8) G4 (fun r13 G12 => (inI (G12 7 8) → ((0 : Int) ≤ G12 7 8 ∧ ((G12 7 8 : Int) < 704 ∧ (inL (G12 12 (G12 7 8)) → (isO W0 8 (r13) ∧ (∀ G20 : gS, G20 = uG G12 r13 10 (G12 12 (G12 7 8)) → PX9_take G20 (fun r22 G21 => (0 ≤ r22 ∧ r22 ≤ 1) → ((r22 = 0 → Q (-1) G21) ∧ (¬ (r22 = 0) → (((2 : Int) = r2 → R 5 [r13, a1] G21 (fun r27 G26 => Q (r27) G26)) ∧ ((3 : Int) = r2 → PX9_now G21 (fun r30 G29 => inI r30 → ((r30 = 140 → PX9_front_152 R a1 r2 r13 r13 5 G29 Q) ∧ (¬ (r30 = 140) → PX9_front_152 R a1 r2 r13 r13 4 G29 Q)))) ∧ ((4 : Int) = r2 → Q (r13) G21) ∧ ((25 : Int) = r2 → (∀ G33 : gS, G33 = uG G21 r13 0 (10) → (inI (G33 7 8) → (∀ G35 : gS, G35 = uG G33 r13 2 (G33 7 8) → (inI (G35 7 8) → ((0 : Int) ≤ G35 7 8 ∧ ((G35 7 8 : Int) < 704 ∧ (inL (G35 12 (G35 7 8)) → (∀ G40 : gS, G40 = uG G35 r13 10 (G35 12 (G35 7 8)) → PX9_need 2 G40 (fun r42 G41 => (0 ≤ r42 ∧ r42 ≤ 1) → ((r42 = 0 → PX9_front_254 R a1 r2 r13 G41 Q) ∧ (¬ (r42 = 0) → R 0 [r13, a1] G41 (fun r46 G45 => (0 ≤ r46 ∧ r46 ≤ 1) → ((r46 = 0 → PX9_front_254 R a1 r2 r13 G45 Q) ∧ (¬ (r46 = 0) → PX9_front_255 R a1 r2 r13 r13 G45 Q))))))))))))))) ∧ ((36 : Int) = r2 → (∀ G49 : gS, G49 = uG G21 r13 0 (2) → Q (r13) G49)) ∧ ((37 : Int) = r2 → (∀ G50 : gS, G50 = uG G21 r13 0 (3) → Q (r13) G50)) ∧ ((38 : Int) = r2 → (∀ G51 : gS, G51 = uG G21 r13 0 (9) → R 7 [r13, a1] G51 (fun r53 G52 => (0 ≤ r53 ∧ r53 ≤ 1) → ((r53 = 0 → PX9_front_205 R a1 r2 r13 (-1) G52 Q) ∧ (¬ (r53 = 0) → PX9_front_205 R a1 r2 r13 r13 G52 Q))))) ∧ ((¬ (2 : Int) = r2 ∧ ¬ (3 : Int) = r2 ∧ ¬ (4 : Int) = r2 ∧ ¬ (25 : Int) = r2 ∧ ¬ (36 : Int) = r2 ∧ ¬ (37 : Int) = r2 ∧ ¬ (38 : Int) = r2) → R 6 [r13, a1] G21 (fun r57 G56 => Q (r57) G56))))))))))))))))))
abbrev PX9_front (R : Nat → List Int → gS → (Int → gS → Prop) → Prop) (a1 : Int) (G : gS) (Q : Int → gS → Prop) : Prop := PX9_front_0 R a1 G Q
def PX9_ofClass_103 (R : Nat → List Int → gS → (Int → gS → Prop) → Prop) (l1 : Int) (l2 : Int) (s0 : Int) (G : gS) (Q : Int → gS → Prop) : Prop :=
  Q (s0) G
def PX9_ofClass_54 (R : Nat → List Int → gS → (Int → gS → Prop) → Prop) (l1 : Int) (l2 : Int) (s0 : Int) (G : gS) (Q : Int → gS → Prop) : Prop :=
  Q (s0) G
def PX9_ofClass_53 (R : Nat → List Int → gS → (Int → gS → Prop) → Prop) (l1 : Int) (l2 : Int) (G : gS) (Q : Int → gS → Prop) : Prop :=
  PX9_ofClass_54 R l1 l2 (-1) G Q
def PX9_ofClass_0 (R : Nat → List Int → gS → (Int → gS → Prop) → Prop) (a1 : Int) (a2 : Int) (G : gS) (Q : Int → gS → Prop) : Prop :=
  (isO W0 8 (a1) ∧ (∀ G2 : gS, G2 = uG G a1 0 (6) → PX9_need 146 G2 (fun r4 G3 => (0 ≤ r4 ∧ r4 ≤ 1) → ((r4 = 0 → Q (-1) G3) ∧ (¬ (r4 = 0) → PX9_now G3 (fun r8 G7 => inI r8 → ((r8 = 38 → (∀ G11 : gS, G11 = uG G7 a1 0 (8) → PX9_take G11 (fun r13 G12 => (0 ≤ r13 ∧ r13 ≤ 1) → ((r13 = 0 → PX9_ofClass_53 R a1 a2 G12 Q) ∧ (¬ (r13 = 0) → R 7 [a1, a2] G12 (fun r17 G16 => (0 ≤ r17 ∧ r17 ≤ 1) → ((r17 = 0 → PX9_ofClass_53 R a1 a2 G16 Q) ∧ (¬ (r17 = 0) → PX9_ofClass_54 R a1 a2 a1 G16 Q)))))))) ∧ (¬ (r8 = 38) → (inI (G7 7 8) → (∀ G21 : gS, G21 = uG G7 a1 2 (G7 7 8) → PX9_need 3 G21 (fun r23 G22 => (0 ≤ r23 ∧ r23 ≤ 1) → ((r23 = 0 → Q (-1) G22) ∧ (¬ (r23 = 0) → PX9_now G22 (fun r27 G26 => inI r27 → ((r27 = 140 → (∀ G30 : gS, G30 = uG G26 a1 0 (7) → R 0 [a1, a2] G30 (fun r32 G31 => (0 ≤ r32 ∧ r32 ≤ 1) → ((r32 = 0 → PX9_ofClass_103 R a1 a2 (-1) G31 Q) ∧ (¬ (r32 = 0) → PX9_ofClass_103 R a1 a2 a1 G31 Q))))) ∧ (¬ (r27 = 140) → Q (a1) G26))))))))))))))))
abbrev PX9_ofClass (R : Nat → List Int → gS → (Int → gS → Prop) → Prop) (a1 : Int) (a2 : Int) (G : gS) (Q : Int → gS → Prop) : Prop := PX9_ofClass_0 R a1 a2 G Q
def PX9_round_153 (R : Nat → List Int → gS → (Int → gS → Prop) → Prop) (l1 : Int) (l2 : Int) (s0 : Int) (G : gS) (Q : Int → gS → Prop) : Prop :=
  Q (s0) G
def PX9_round_152 (R : Nat → List Int → gS → (Int → gS → Prop) → Prop) (l1 : Int) (l2 : Int) (G : gS) (Q : Int → gS → Prop) : Prop :=
  PX9_round_153 R l1 l2 (-1) G Q
def PX9_round_116 (R : Nat → List Int → gS → (Int → gS → Prop) → Prop) (l1 : Int) (l2 : Int) (G : gS) (Q : Int → gS → Prop) : Prop :=
  (isO W0 8 (l1) ∧ (∀ G49 : gS, G49 = uG G l1 0 (12) → R 3 [l2] G49 (fun r51 G50 => ((r51 = -1 ∨ isO W0 8 (r51)) ∧ (∀ G54 : gS, G54 = uG G50 l1 5 (r51) → ((G54 l1 5 = -1 ∨ isO W0 8 (G54 l1 5)) → ((G54 l1 5 < 0 → PX9_round_152 R l1 l2 G54 Q) ∧ (0 ≤ G54 l1 5 → PX9_need 141 G54 (fun r58 G57 => (0 ≤ r58 ∧ r58 ≤ 1) → ((r58 = 0 → PX9_round_152 R l1 l2 G57 Q) ∧ (¬ (r58 = 0) → PX9_round_153 R l1 l2 l1 G57 Q)))))))))))
def PX9_round_115 (R : Nat → List Int → gS → (Int → gS → Prop) → Prop) (l1 : Int) (l2 : Int) (s0 : Int) (G : gS) (Q : Int → gS → Prop) : Prop :=
  Q (s0) G
def PX9_round_59 (R : Nat → List Int → gS → (Int → gS → Prop) → Prop) (l1 : Int) (l2 : Int) (G : gS) (Q : Int → gS → Prop) : Prop :=
  Q (-1) G
def PX9_round_0 (R : Nat → List Int → gS → (Int → gS → Prop) → Prop) (a1 : Int) (a2 : Int) (G : gS) (Q : Int → gS → Prop) : Prop :=
  PX9_now G (fun r2 G1 => inI r2 → ((r2 = 2 → PX9_behind G1 (fun r6 G5 => inI r6 → ((r6 = 141 → (isO W0 8 (a1) ∧ (∀ G10 : gS, G10 = uG G5 a1 0 (11) → (inI (G10 7 8) → (∀ G12 : gS, G12 = uG G10 a1 2 (G10 7 8) → (inI (G12 7 8) → ((0 : Int) ≤ G12 7 8 ∧ ((G12 7 8 : Int) < 704 ∧ (inL (G12 12 (G12 7 8)) → (∀ G17 : gS, G17 = uG G12 a1 10 (G12 12 (G12 7 8)) → PX9_take G17 (fun r19 G18 => (0 ≤ r19 ∧ r19 ≤ 1) → ((r19 = 0 → PX9_round_59 R a1 a2 G18 Q) ∧ (¬ (r19 = 0) → PX9_take G18 (fun r23 G22 => (0 ≤ r23 ∧ r23 ≤ 1) → ((r23 = 0 → PX9_round_59 R a1 a2 G22 Q) ∧ (¬ (r23 = 0) → PX9_now G22 (fun r27 G26 => inI r27 → PX9_beginsE r27 G26 (fun r30 G29 => (0 ≤ r30 ∧ r30 ≤ 1) → ((r30 = 0 → PX9_miss G29 (fun r34 G33 => (0 ≤ r34 ∧ r34 ≤ 1) → Q (-1) G33)) ∧ (¬ (r30 = 0) → ((a2 < 12 → (inI (a2 + 1) ∧ R 8 [a2 + 1] G29 (fun r39 G38 => ((r39 = -1 ∨ isO W0 8 (r39)) ∧ (∀ G42 : gS, G42 = uG G38 a1 5 (r39) → ((G42 a1 5 = -1 ∨ isO W0 8 (G42 a1 5)) → ((G42 a1 5 < 0 → PX9_round_115 R a1 a2 (-1) G42 Q) ∧ (0 ≤ G42 a1 5 → PX9_round_115 R a1 a2 a1 G42 Q)))))))) ∧ (¬ (a2 < 12) → PX9_stop 3 G29 (fun r46 G45 => (0 ≤ r46 ∧ r46 ≤ 1) → Q (-1) G45))))))))))))))))))))))) ∧ (¬ (r6 = 141) → PX9_round_116 R a1 a2 G5 Q)))) ∧ (¬ (r2 = 2) → PX9_round_116 R a1 a2 G1 Q)))
abbrev PX9_round (R : Nat → List Int → gS → (Int → gS → Prop) → Prop) (a1 : Int) (a2 : Int) (G : gS) (Q : Int → gS → Prop) : Prop := PX9_round_0 R a1 a2 G Q
def PX9_superCall_42 (R : Nat → List Int → gS → (Int → gS → Prop) → Prop) (l1 : Int) (l2 : Int) (s0 : Int) (G : gS) (Q : Int → gS → Prop) : Prop :=
  ((0 ≤ s0 ∧ s0 ≤ 1) ∧ Q (s0) G)
def PX9_superCall_41 (R : Nat → List Int → gS → (Int → gS → Prop) → Prop) (l1 : Int) (l2 : Int) (G : gS) (Q : Int → gS → Prop) : Prop :=
  PX9_superCall_42 R l1 l2 0 G Q
def PX9_superCall_0 (R : Nat → List Int → gS → (Int → gS → Prop) → Prop) (a1 : Int) (a2 : Int) (G : gS) (Q : Int → gS → Prop) : Prop :=
  PX9_need 146 G (fun r2 G1 => (0 ≤ r2 ∧ r2 ≤ 1) → ((r2 = 0 → Q (0) G1) ∧ (¬ (r2 = 0) → (inI (G1 7 8) → (isO W0 8 (a1) ∧ (∀ G7 : gS, G7 = uG G1 a1 2 (G1 7 8) → PX9_need 3 G7 (fun r9 G8 => (0 ≤ r9 ∧ r9 ≤ 1) → ((r9 = 0 → PX9_superCall_41 R a1 a2 G8 Q) ∧ (¬ (r9 = 0) → R 0 [a1, a2] G8 (fun r13 G12 => (0 ≤ r13 ∧ r13 ≤ 1) → ((r13 = 0 → PX9_superCall_41 R a1 a2 G12 Q) ∧ (¬ (r13 = 0) → PX9_superCall_42 R a1 a2 1 G12 Q))))))))))))
abbrev PX9_superCall (R : Nat → List Int → gS → (Int → gS → Prop) → Prop) (a1 : Int) (a2 : Int) (G : gS) (Q : Int → gS → Prop) : Prop := PX9_superCall_0 R a1 a2 G Q
def PX9_unit_125 (R : Nat → List Int → gS → (Int → gS → Prop) → Prop) (J : Nat → List Int → gS → (Int → gS → Prop) → Prop) (l1 : Int) (l2 : Int) (l3 : Int) (l4 : Int) (l5 : Int) (s0 : Int) (G : gS) (Q : Int → gS → Prop) : Prop :=
  Q (s0) G
def PX9_unit_113 (R : Nat → List Int → gS → (Int → gS → Prop) → Prop) (J : Nat → List Int → gS → (Int → gS → Prop) → Prop) (l1 : Int) (l2 : Int) (l3 : Int) (l4 : Int) (l5 : Int) (G : gS) (Q : Int → gS → Prop) : Prop :=
  (inI (G 7 9) → ((G 7 9 = 0 → PX9_unit_125 R J l1 l2 l3 l4 l5 l3 G Q) ∧ (¬ (G 7 9 = 0) → PX9_unit_125 R J l1 l2 l3 l4 l5 (-1) G Q)))
def PX9_unit_103 (R : Nat → List Int → gS → (Int → gS → Prop) → Prop) (J : Nat → List Int → gS → (Int → gS → Prop) → Prop) (l1 : Int) (l2 : Int) (l3 : Int) (l4 : Int) (l5 : Int) (l6 : Int) (G : gS) (Q : Int → gS → Prop) : Prop :=
  (inI (l5 + 1) ∧ J 0 [l1, l2, l3, l6, l5 + 1] G Q)
def PX9_unit_78 (R : Nat → List Int → gS → (Int → gS → Prop) → Prop) (J : Nat → List Int → gS → (Int → gS → Prop) → Prop) (l1 : Int) (l2 : Int) (l3 : Int) (l4 : Int) (l5 : Int) (l6 : Int) (s0 : Int) (s1 : Int) (s2 : Int) (G : gS) (Q : Int → gS → Prop) : Prop :=
  (isO W0 9 (s0) ∧ PX9_node s1 s2 G (fun r30 G29 => (isO W0 8 (r30) ∧ ((l2 = -1 ∨ isO W0 8 (l2)) ∧ (∀ G34 : gS, G34 = uG G29 r30 5 (l2) → ((l6 = -1 ∨ isO W0 8 (l6)) ∧ (∀ G36 : gS, G36 = uG G34 r30 6 (l6) → PX9_unit_103 R J l1 l2 r30 l4 l5 l6 G36 Q)))))))
def PX9_unit_48 (R : Nat → List Int → gS → (Int → gS → Prop) → Prop) (J : Nat → List Int → gS → (Int → gS → Prop) → Prop) (l1 : Int) (l2 : Int) (l3 : Int) (l4 : Int) (l5 : Int) (G : gS) (Q : Int → gS → Prop) : Prop :=
  R 1 [l1] G (fun r16 G15 => ((l4 < 0 → ((l2 < 0 → (inI (G15 7 8) → PX9_unit_78 R J l1 l2 l3 l4 l5 r16 7 13 (G15 7 8) G15 Q)) ∧ (0 ≤ l2 → (isO W0 8 (l2) ∧ (inI (G15 l2 1) → PX9_unit_78 R J l1 l2 l3 l4 l5 r16 7 13 (G15 l2 1) G15 Q))))) ∧ (0 ≤ l4 → (isO W0 8 (l4) ∧ ((r16 = -1 ∨ isO W0 8 (r16)) ∧ (∀ G25 : gS, G25 = uG G15 l4 8 (r16) → PX9_unit_103 R J l1 l2 l3 l4 l5 r16 G25 Q))))))
def PX9_unit_14 (R : Nat → List Int → gS → (Int → gS → Prop) → Prop) (J : Nat → List Int → gS → (Int → gS → Prop) → Prop) (l1 : Int) (l2 : Int) (l3 : Int) (l4 : Int) (l5 : Int) (G : gS) (Q : Int → gS → Prop) : Prop :=
  ((l5 < 700 → (inI (G 7 9) → ((G 7 9 = 0 → PX9_now G (fun r8 G7 => inI r8 → ((r8 = 146 → PX9_unit_48 R J l1 l2 l3 l4 l5 G7 Q) ∧ (¬ (r8 = 146) → PX9_now G7 (fun r12 G11 => inI r12 → ((r12 = 39 → PX9_unit_48 R J l1 l2 l3 l4 l5 G11 Q) ∧ (¬ (r12 = 39) → PX9_unit_113 R J l1 l2 l3 l4 l5 G11 Q))))))) ∧ (¬ (G 7 9 = 0) → PX9_unit_113 R J l1 l2 l3 l4 l5 G Q)))) ∧ (¬ (l5 < 700) → PX9_unit_113 R J l1 l2 l3 l4 l5 G Q))
def PX9_unit_0 (R : Nat → List Int → gS → (Int → gS → Prop) → Prop) (J : Nat → List Int → gS → (Int → gS → Prop) → Prop) (a1 : Int) (G : gS) (Q : Int → gS → Prop) : Prop :=
  R 4 [a1] G (fun r2 G1 => PX9_unit_14 R J a1 r2 r2 (-1) 0 G1 Q)
def PX9_unit_J (R : Nat → List Int → gS → (Int → gS → Prop) → Prop) : Nat → Nat → List Int → gS → (Int → gS → Prop) → Prop
  | 0, _, _, _, _ => False
  | f + 1, h, L, G, Q => match h, L with
    | 0, [l1, l2, l3, l4, l5] => PX9_unit_14 R (PX9_unit_J R f) l1 l2 l3 l4 l5 G Q
    | _, _ => False
def PX9_unit (R : Nat → List Int → gS → (Int → gS → Prop) → Prop) (a1 : Int) (G : gS) (Q : Int → gS → Prop) : Prop := ∃ f : Nat, f ≤ 4000000000 ∧ PX9_unit_0 R (PX9_unit_J R f) a1 G Q
def Rq6 : Nat → Nat → List Int → gS → (Int → gS → Prop) → Prop
  | 0, _, _, _, _ => False
  | n + 1, i, L, G, Q => match i, L with
    | 0, [a1, a2] => PX9_args (Rq6 n) a1 a2 G Q
    | 1, [a1] => PX9_behindUnit (Rq6 n) a1 G Q
    | 2, [a1, a2] => PX9_chain (Rq6 n) a1 a2 G Q
    | 3, [a1] => PX9_expr (Rq6 n) a1 G Q
    | 4, [a1] => PX9_front (Rq6 n) a1 G Q
    | 5, [a1, a2] => PX9_ofClass (Rq6 n) a1 a2 G Q
    | 6, [a1, a2] => PX9_round (Rq6 n) a1 a2 G Q
    | 7, [a1, a2] => PX9_superCall (Rq6 n) a1 a2 G Q
    | 8, [a1] => PX9_unit (Rq6 n) a1 G Q
    | _, _ => False
def PX9_simple_81 (l1 : Int) (l2 : Int) (s0 : Int) (G : gS) (Q : Int → gS → Prop) : Prop :=
  Q (s0) G
def PX9_simple_80 (l1 : Int) (l2 : Int) (G : gS) (Q : Int → gS → Prop) : Prop :=
  PX9_simple_81 l1 l2 (-1) G Q
def PX9_simple_59 (l1 : Int) (l2 : Int) (G : gS) (Q : Int → gS → Prop) : Prop :=
  (inI (G 7 9) → ((G 7 9 = 0 → PX9_need 159 G (fun r30 G29 => (0 ≤ r30 ∧ r30 ≤ 1) → ((r30 = 0 → PX9_simple_80 l1 l2 G29 Q) ∧ (¬ (r30 = 0) → PX9_simple_81 l1 l2 l2 G29 Q)))) ∧ (¬ (G 7 9 = 0) → PX9_simple_80 l1 l2 G Q)))
def PX9_simple_0 (a1 : Int) (G : gS) (Q : Int → gS → Prop) : Prop :=
  (inI (G 7 8) → PX9_node 40 (G 7 8) G (fun r3 G2 => Rq6 200 3 [a1] G2 (fun r6 G5 => (isO W0 8 (r3) ∧ ((r6 = -1 ∨ isO W0 8 (r6)) ∧ (∀ G10 : gS, G10 = uG G5 r3 5 (r6) → ((G10 r3 5 = -1 ∨ isO W0 8 (G10 r3 5)) → ((G10 r3 5 < 0 → PX9_simple_59 a1 r3 G10 Q) ∧ (0 ≤ G10 r3 5 → PX9_now G10 (fun r14 G13 => inI r14 → ((r14 = 161 → PX9_take G13 (fun r18 G17 => (0 ≤ r18 ∧ r18 ≤ 1) → ((r18 = 0 → PX9_simple_59 a1 r3 G17 Q) ∧ (¬ (r18 = 0) → (∀ G21 : gS, G21 = uG G17 r3 0 (39) → Rq6 200 3 [a1] G21 (fun r23 G22 => ((r23 = -1 ∨ isO W0 8 (r23)) ∧ (∀ G26 : gS, G26 = uG G22 r3 6 (r23) → PX9_simple_59 a1 r3 G26 Q)))))))) ∧ (¬ (r14 = 161) → PX9_simple_59 a1 r3 G13 Q))))))))))))
abbrev PX9_simple (a1 : Int) (G : gS) (Q : Int → gS → Prop) : Prop := PX9_simple_0 a1 G Q
def PX9_block_133 (R : Nat → List Int → gS → (Int → gS → Prop) → Prop) (J : Nat → List Int → gS → (Int → gS → Prop) → Prop) (l1 : Int) (l2 : Int) (l3 : Int) (l4 : Int) (s0 : Int) (G : gS) (Q : Int → gS → Prop) : Prop :=
  Q (s0) G
def PX9_block_132 (R : Nat → List Int → gS → (Int → gS → Prop) → Prop) (J : Nat → List Int → gS → (Int → gS → Prop) → Prop) (l1 : Int) (l2 : Int) (l3 : Int) (l4 : Int) (G : gS) (Q : Int → gS → Prop) : Prop :=
  PX9_block_133 R J l1 l2 l3 l4 (-1) G Q
def PX9_block_114 (R : Nat → List Int → gS → (Int → gS → Prop) → Prop) (J : Nat → List Int → gS → (Int → gS → Prop) → Prop) (l1 : Int) (l2 : Int) (l3 : Int) (l4 : Int) (G : gS) (Q : Int → gS → Prop) : Prop :=
  (inI (G 7 9) → ((G 7 9 = 0 → PX9_take G (fun r40 G39 => (0 ≤ r40 ∧ r40 ≤ 1) → ((r40 = 0 → PX9_block_132 R J l1 l2 l3 l4 G39 Q) ∧ (¬ (r40 = 0) → PX9_block_133 R J l1 l2 l3 l4 l2 G39 Q)))) ∧ (¬ (G 7 9 = 0) → PX9_block_132 R J l1 l2 l3 l4 G Q)))
def PX9_block_105 (R : Nat → List Int → gS → (Int → gS → Prop) → Prop) (J : Nat → List Int → gS → (Int → gS → Prop) → Prop) (l1 : Int) (l2 : Int) (l3 : Int) (l4 : Int) (l5 : Int) (G : gS) (Q : Int → gS → Prop) : Prop :=
  (inI (l4 + 1) ∧ J 0 [l1, l2, l5, l4 + 1] G Q)
def PX9_block_52 (R : Nat → List Int → gS → (Int → gS → Prop) → Prop) (J : Nat → List Int → gS → (Int → gS → Prop) → Prop) (l1 : Int) (l2 : Int) (l3 : Int) (l4 : Int) (G : gS) (Q : Int → gS → Prop) : Prop :=
  ((700 < l4 → PX9_block_114 R J l1 l2 l3 l4 G Q) ∧ (¬ (700 < l4) → (inI (G 7 9) → ((G 7 9 = 0 → PX9_now G (fun r23 G22 => inI r23 → ((r23 = 225 → PX9_block_114 R J l1 l2 l3 l4 G22 Q) ∧ (¬ (r23 = 225) → (inI (l1 + 1) ∧ R 1 [l1 + 1] G22 (fun r28 G27 => ((l3 < 0 → (isO W0 8 (l2) ∧ ((r28 = -1 ∨ isO W0 8 (r28)) ∧ (∀ G33 : gS, G33 = uG G27 l2 5 (r28) → PX9_block_105 R J l1 l2 l3 l4 r28 G33 Q)))) ∧ (0 ≤ l3 → (isO W0 8 (l3) ∧ ((r28 = -1 ∨ isO W0 8 (r28)) ∧ (∀ G36 : gS, G36 = uG G27 l3 8 (r28) → PX9_block_105 R J l1 l2 l3 l4 r28 G36 Q))))))))))) ∧ (¬ (G 7 9 = 0) → PX9_block_114 R J l1 l2 l3 l4 G Q)))))
def PX9_block_0 (R : Nat → List Int → gS → (Int → gS → Prop) → Prop) (J : Nat → List Int → gS → (Int → gS → Prop) → Prop) (a1 : Int) (G : gS) (Q : Int → gS → Prop) : Prop :=
  PX9_now G (fun r2 G1 => inI r2 → ((r2 = 223 → ((a1 < 12 → (inI (G1 7 8) → PX9_node 30 (G1 7 8) G1 (fun r8 G7 => PX9_take G7 (fun r11 G10 => (0 ≤ r11 ∧ r11 ≤ 1) → PX9_block_52 R J a1 r8 (-1) 0 G10 Q)))) ∧ (¬ (a1 < 12) → PX9_stop 3 G1 (fun r14 G13 => (0 ≤ r14 ∧ r14 ≤ 1) → Q (-1) G13)))) ∧ (¬ (r2 = 223) → PX9_miss G1 (fun r17 G16 => (0 ≤ r17 ∧ r17 ≤ 1) → Q (-1) G16))))
def PX9_block_J (R : Nat → List Int → gS → (Int → gS → Prop) → Prop) : Nat → Nat → List Int → gS → (Int → gS → Prop) → Prop
  | 0, _, _, _, _ => False
  | f + 1, h, L, G, Q => match h, L with
    | 0, [l1, l2, l3, l4] => PX9_block_52 R (PX9_block_J R f) l1 l2 l3 l4 G Q
    | _, _ => False
def PX9_block (R : Nat → List Int → gS → (Int → gS → Prop) → Prop) (a1 : Int) (G : gS) (Q : Int → gS → Prop) : Prop := ∃ f : Nat, f ≤ 4000000000 ∧ PX9_block_0 R (PX9_block_J R f) a1 G Q
def PX9_statement_161 (R : Nat → List Int → gS → (Int → gS → Prop) → Prop) (l1 : Int) (l2 : Int) (l3 : Int) (G : gS) (Q : Int → gS → Prop) : Prop :=
  ((l3 = 0 → (inI (l1 + 1) ∧ R 4 [l2, l1 + 1] G (fun r52 G51 => Q (r52) G51))) ∧ (¬ (l3 = 0) → (inI (l1 + 1) ∧ PX9_simple (l1 + 1) G (fun r56 G55 => Q (r56) G55))))
def PX9_statement_160 (R : Nat → List Int → gS → (Int → gS → Prop) → Prop) (l1 : Int) (l2 : Int) (l3 : Int) (l4 : Int) (s0 : Int) (G : gS) (Q : Int → gS → Prop) : Prop :=
  Q (s0) G
def PX9_statement_159 (R : Nat → List Int → gS → (Int → gS → Prop) → Prop) (l1 : Int) (l2 : Int) (l3 : Int) (l4 : Int) (G : gS) (Q : Int → gS → Prop) : Prop :=
  PX9_statement_160 R l1 l2 l3 l4 (-1) G Q
def PX9_statement_70 (R : Nat → List Int → gS → (Int → gS → Prop) → Prop) (l1 : Int) (l2 : Int) (l3 : Int) (G : gS) (Q : Int → gS → Prop) : Prop :=
  ((l1 < 12 → ((l2 = 223 → R 0 [l1] G (fun r22 G21 => Q (r22) G21)) ∧ (¬ (l2 = 223) → ((l2 = 38 → PX9_behind G (fun r26 G25 => inI r26 → ((r26 = 140 → (inI (G25 7 8) → PX9_node 38 (G25 7 8) G25 (fun r31 G30 => PX9_take G30 (fun r34 G33 => (0 ≤ r34 ∧ r34 ≤ 1) → ((r34 = 0 → PX9_statement_159 R l1 l2 l3 r31 G33 Q) ∧ (¬ (r34 = 0) → (inI (l1 + 1) ∧ Rq6 200 0 [r31, l1 + 1] G33 (fun r39 G38 => (0 ≤ r39 ∧ r39 ≤ 1) → ((r39 = 0 → PX9_statement_159 R l1 l2 l3 r31 G38 Q) ∧ (¬ (r39 = 0) → PX9_need 159 G38 (fun r43 G42 => (0 ≤ r43 ∧ r43 ≤ 1) → ((r43 = 0 → PX9_statement_159 R l1 l2 l3 r31 G42 Q) ∧ (¬ (r43 = 0) → PX9_statement_160 R l1 l2 l3 r31 r31 G42 Q))))))))))))) ∧ (¬ (r26 = 140) → PX9_statement_161 R l1 l2 l3 G25 Q)))) ∧ (¬ (l2 = 38) → PX9_statement_161 R l1 l2 l3 G Q))))) ∧ (¬ (l1 < 12) → PX9_stop 3 G (fun r47 G46 => (0 ≤ r47 ∧ r47 ≤ 1) → Q (-1) G46)))
def PX9_statement_0 (R : Nat → List Int → gS → (Int → gS → Prop) → Prop) (a1 : Int) (G : gS) (Q : Int → gS → Prop) : Prop :=
  PX9_now G (fun r2 G1 => inI r2 → PX9_beginsE r2 G1 (fun r5 G4 => (0 ≤ r5 ∧ r5 ≤ 1) → ((r5 = 0 → ((r2 = 223 → PX9_statement_70 R a1 r2 r5 G4 Q) ∧ (¬ (r2 = 223) → ((r2 = 27 → PX9_statement_70 R a1 r2 r5 G4 Q) ∧ (¬ (r2 = 27) → ((r2 = 28 → PX9_statement_70 R a1 r2 r5 G4 Q) ∧ (¬ (r2 = 28) → ((r2 = 30 → PX9_statement_70 R a1 r2 r5 G4 Q) ∧ (¬ (r2 = 30) → ((r2 = 31 → PX9_statement_70 R a1 r2 r5 G4 Q) ∧ (¬ (r2 = 31) → ((r2 = 32 → PX9_statement_70 R a1 r2 r5 G4 Q) ∧ (¬ (r2 = 32) → ((r2 = 33 → PX9_statement_70 R a1 r2 r5 G4 Q) ∧ (¬ (r2 = 33) → ((r2 = 35 → PX9_statement_70 R a1 r2 r5 G4 Q) ∧ (¬ (r2 = 35) → PX9_miss G4 (fun r17 G16 => (0 ≤ r17 ∧ r17 ≤ 1) → Q (-1) G16)))))))))))))))))) ∧ (¬ (r5 = 0) → PX9_statement_70 R a1 r2 r5 G4 Q))))
abbrev PX9_statement (R : Nat → List Int → gS → (Int → gS → Prop) → Prop) (a1 : Int) (G : gS) (Q : Int → gS → Prop) : Prop := PX9_statement_0 R a1 G Q
def PX9_tested_116 (R : Nat → List Int → gS → (Int → gS → Prop) → Prop) (l1 : Int) (l2 : Int) (l3 : Int) (s0 : Int) (G : gS) (Q : Int → gS → Prop) : Prop :=
  Q (s0) G
def PX9_tested_104 (R : Nat → List Int → gS → (Int → gS → Prop) → Prop) (l1 : Int) (l2 : Int) (l3 : Int) (G : gS) (Q : Int → gS → Prop) : Prop :=
  (inI (G 7 9) → ((G 7 9 = 0 → PX9_tested_116 R l1 l2 l3 l1 G Q) ∧ (¬ (G 7 9 = 0) → PX9_tested_116 R l1 l2 l3 (-1) G Q)))
def PX9_tested_55 (R : Nat → List Int → gS → (Int → gS → Prop) → Prop) (l1 : Int) (l2 : Int) (l3 : Int) (G : gS) (Q : Int → gS → Prop) : Prop :=
  Q (-1) G
def PX9_tested_14 (R : Nat → List Int → gS → (Int → gS → Prop) → Prop) (l1 : Int) (l2 : Int) (l3 : Int) (s0 : Int) (s1 : Int) (G : gS) (Q : Int → gS → Prop) : Prop :=
  (isO W0 8 (s0) ∧ (∀ G3 : gS, G3 = uG G s0 0 (s1) → PX9_need 140 G3 (fun r5 G4 => (0 ≤ r5 ∧ r5 ≤ 1) → ((r5 = 0 → Q (-1) G4) ∧ (¬ (r5 = 0) → Rq6 200 3 [l3] G4 (fun r9 G8 => (isO W0 8 (l1) ∧ ((r9 = -1 ∨ isO W0 8 (r9)) ∧ (∀ G13 : gS, G13 = uG G8 l1 5 (r9) → (inI (G13 7 9) → ((G13 7 9 = 0 → PX9_need 141 G13 (fun r17 G16 => (0 ≤ r17 ∧ r17 ≤ 1) → ((r17 = 0 → PX9_tested_55 R l1 l2 l3 G16 Q) ∧ (¬ (r17 = 0) → R 1 [l3] G16 (fun r21 G20 => ((r21 = -1 ∨ isO W0 8 (r21)) ∧ (∀ G24 : gS, G24 = uG G20 l1 6 (r21) → (inI (G24 7 9) → ((G24 7 9 = 0 → ((l2 = 28 → PX9_now G24 (fun r29 G28 => inI r29 → ((r29 = 29 → PX9_take G28 (fun r33 G32 => (0 ≤ r33 ∧ r33 ≤ 1) → ((r33 = 0 → PX9_tested_104 R l1 l2 l3 G32 Q) ∧ (¬ (r33 = 0) → R 1 [l3] G32 (fun r37 G36 => ((r37 = -1 ∨ isO W0 8 (r37)) ∧ (∀ G40 : gS, G40 = uG G36 l1 7 (r37) → PX9_tested_104 R l1 l2 l3 G40 Q))))))) ∧ (¬ (r29 = 29) → PX9_tested_104 R l1 l2 l3 G28 Q)))) ∧ (¬ (l2 = 28) → PX9_tested_104 R l1 l2 l3 G24 Q))) ∧ (¬ (G24 7 9 = 0) → PX9_tested_104 R l1 l2 l3 G24 Q)))))))))) ∧ (¬ (G13 7 9 = 0) → PX9_tested_55 R l1 l2 l3 G13 Q))))))))))))
def PX9_tested_0 (R : Nat → List Int → gS → (Int → gS → Prop) → Prop) (a1 : Int) (a2 : Int) (a3 : Int) (G : gS) (Q : Int → gS → Prop) : Prop :=
  ((a2 = 28 → PX9_tested_14 R a1 a2 a3 a1 32 G Q) ∧ (¬ (a2 = 28) → PX9_tested_14 R a1 a2 a3 a1 33 G Q))
abbrev PX9_tested (R : Nat → List Int → gS → (Int → gS → Prop) → Prop) (a1 : Int) (a2 : Int) (a3 : Int) (G : gS) (Q : Int → gS → Prop) : Prop := PX9_tested_0 R a1 a2 a3 G Q
def PX9_tried_113 (R : Nat → List Int → gS → (Int → gS → Prop) → Prop) (l1 : Int) (l2 : Int) (s0 : Int) (G : gS) (Q : Int → gS → Prop) : Prop :=
  Q (s0) G
def PX9_tried_90 (R : Nat → List Int → gS → (Int → gS → Prop) → Prop) (l1 : Int) (l2 : Int) (G : gS) (Q : Int → gS → Prop) : Prop :=
  Q (-1) G
def PX9_tried_41 (R : Nat → List Int → gS → (Int → gS → Prop) → Prop) (l1 : Int) (l2 : Int) (G : gS) (Q : Int → gS → Prop) : Prop :=
  Q (-1) G
def PX9_tried_0 (R : Nat → List Int → gS → (Int → gS → Prop) → Prop) (a1 : Int) (a2 : Int) (G : gS) (Q : Int → gS → Prop) : Prop :=
  (isO W0 8 (a1) ∧ (∀ G2 : gS, G2 = uG G a1 0 (36) → R 0 [a2] G2 (fun r4 G3 => ((r4 = -1 ∨ isO W0 8 (r4)) ∧ (∀ G7 : gS, G7 = uG G3 a1 5 (r4) → (inI (G7 7 9) → ((G7 7 9 = 0 → PX9_need 34 G7 (fun r11 G10 => (0 ≤ r11 ∧ r11 ≤ 1) → ((r11 = 0 → PX9_tried_41 R a1 a2 G10 Q) ∧ (¬ (r11 = 0) → PX9_need 140 G10 (fun r15 G14 => (0 ≤ r15 ∧ r15 ≤ 1) → ((r15 = 0 → PX9_tried_41 R a1 a2 G14 Q) ∧ (¬ (r15 = 0) → (inI (G14 7 8) → (∀ G19 : gS, G19 = uG G14 a1 2 (G14 7 8) → (inI (G19 7 8) → ((0 : Int) ≤ G19 7 8 ∧ ((G19 7 8 : Int) < 704 ∧ (inL (G19 12 (G19 7 8)) → (∀ G24 : gS, G24 = uG G19 a1 10 (G19 12 (G19 7 8)) → PX9_need 2 G24 (fun r26 G25 => (0 ≤ r26 ∧ r26 ≤ 1) → ((r26 = 0 → PX9_tried_90 R a1 a2 G25 Q) ∧ (¬ (r26 = 0) → PX9_need 3 G25 (fun r30 G29 => (0 ≤ r30 ∧ r30 ≤ 1) → ((r30 = 0 → PX9_tried_90 R a1 a2 G29 Q) ∧ (¬ (r30 = 0) → PX9_need 141 G29 (fun r34 G33 => (0 ≤ r34 ∧ r34 ≤ 1) → ((r34 = 0 → PX9_tried_90 R a1 a2 G33 Q) ∧ (¬ (r34 = 0) → R 0 [a2] G33 (fun r38 G37 => ((r38 = -1 ∨ isO W0 8 (r38)) ∧ (∀ G41 : gS, G41 = uG G37 a1 6 (r38) → (inI (G41 7 9) → ((G41 7 9 = 0 → PX9_tried_113 R a1 a2 a1 G41 Q) ∧ (¬ (G41 7 9 = 0) → PX9_tried_113 R a1 a2 (-1) G41 Q))))))))))))))))))))))))))))) ∧ (¬ (G7 7 9 = 0) → PX9_tried_41 R a1 a2 G7 Q))))))))
abbrev PX9_tried (R : Nat → List Int → gS → (Int → gS → Prop) → Prop) (a1 : Int) (a2 : Int) (G : gS) (Q : Int → gS → Prop) : Prop := PX9_tried_0 R a1 a2 G Q
def PX9_worded_218 (R : Nat → List Int → gS → (Int → gS → Prop) → Prop) (l1 : Int) (l2 : Int) (l3 : Int) (s0 : Int) (G : gS) (Q : Int → gS → Prop) : Prop :=
  Q (s0) G
def PX9_worded_217 (R : Nat → List Int → gS → (Int → gS → Prop) → Prop) (l1 : Int) (l2 : Int) (l3 : Int) (G : gS) (Q : Int → gS → Prop) : Prop :=
  PX9_worded_218 R l1 l2 l3 (-1) G Q
def PX9_worded_196 (R : Nat → List Int → gS → (Int → gS → Prop) → Prop) (l1 : Int) (l2 : Int) (l3 : Int) (G : gS) (Q : Int → gS → Prop) : Prop :=
  (inI (G 7 9) → ((G 7 9 = 0 → PX9_need 159 G (fun r68 G67 => (0 ≤ r68 ∧ r68 ≤ 1) → ((r68 = 0 → PX9_worded_217 R l1 l2 l3 G67 Q) ∧ (¬ (r68 = 0) → PX9_worded_218 R l1 l2 l3 l3 G67 Q)))) ∧ (¬ (G 7 9 = 0) → PX9_worded_217 R l1 l2 l3 G Q)))
def PX9_worded_187 (R : Nat → List Int → gS → (Int → gS → Prop) → Prop) (l1 : Int) (l2 : Int) (l3 : Int) (G : gS) (Q : Int → gS → Prop) : Prop :=
  Rq6 200 3 [l2] G (fun r72 G71 => (isO W0 8 (l3) ∧ ((r72 = -1 ∨ isO W0 8 (r72)) ∧ (∀ G76 : gS, G76 = uG G71 l3 5 (r72) → PX9_worded_196 R l1 l2 l3 G76 Q))))
def PX9_worded_171 (R : Nat → List Int → gS → (Int → gS → Prop) → Prop) (l1 : Int) (l2 : Int) (l3 : Int) (G : gS) (Q : Int → gS → Prop) : Prop :=
  ((l1 = 31 → PX9_now G (fun r62 G61 => inI r62 → ((r62 = 159 → PX9_worded_196 R l1 l2 l3 G61 Q) ∧ (¬ (r62 = 159) → PX9_worded_187 R l1 l2 l3 G61 Q)))) ∧ (¬ (l1 = 31) → PX9_worded_187 R l1 l2 l3 G Q))
def PX9_worded_144 (R : Nat → List Int → gS → (Int → gS → Prop) → Prop) (l1 : Int) (l2 : Int) (l3 : Int) (G : gS) (Q : Int → gS → Prop) : Prop :=
  ((l1 = 31 → (isO W0 8 (l3) ∧ (∀ G42 : gS, G42 = uG G l3 0 (34) → PX9_worded_171 R l1 l2 l3 G42 Q))) ∧ (¬ (l1 = 31) → ((l1 = 32 → (isO W0 8 (l3) ∧ (∀ G45 : gS, G45 = uG G l3 0 (35) → PX9_worded_171 R l1 l2 l3 G45 Q))) ∧ (¬ (l1 = 32) → PX9_worded_171 R l1 l2 l3 G Q))))
def PX9_worded_142 (R : Nat → List Int → gS → (Int → gS → Prop) → Prop) (l1 : Int) (l2 : Int) (l3 : Int) (G : gS) (Q : Int → gS → Prop) : Prop :=
  Q (-1) G
def PX9_worded_114 (R : Nat → List Int → gS → (Int → gS → Prop) → Prop) (l1 : Int) (l2 : Int) (l3 : Int) (s0 : Int) (s1 : Int) (G : gS) (Q : Int → gS → Prop) : Prop :=
  (isO W0 8 (s0) ∧ (∀ G47 : gS, G47 = uG G s0 9 (s1) → PX9_take G47 (fun r49 G48 => (0 ≤ r49 ∧ r49 ≤ 1) → ((r49 = 0 → PX9_worded_142 R l1 l2 l3 G48 Q) ∧ (¬ (r49 = 0) → PX9_need 3 G48 (fun r53 G52 => (0 ≤ r53 ∧ r53 ≤ 1) → ((r53 = 0 → PX9_worded_142 R l1 l2 l3 G52 Q) ∧ (¬ (r53 = 0) → PX9_need 161 G52 (fun r57 G56 => (0 ≤ r57 ∧ r57 ≤ 1) → ((r57 = 0 → PX9_worded_142 R l1 l2 l3 G56 Q) ∧ (¬ (r57 = 0) → PX9_worded_144 R l1 l2 l3 G56 Q)))))))))))
def PX9_worded_89 (R : Nat → List Int → gS → (Int → gS → Prop) → Prop) (l1 : Int) (l2 : Int) (l3 : Int) (G : gS) (Q : Int → gS → Prop) : Prop :=
  PX9_now G (fun r33 G32 => inI r33 → ((r33 = 26 → PX9_worded_114 R l1 l2 l3 l3 (-1) G32 Q) ∧ (¬ (r33 = 26) → (inI (G32 7 8) → ((0 : Int) ≤ G32 7 8 ∧ ((G32 7 8 : Int) < 704 ∧ (inL (G32 12 (G32 7 8)) → PX9_worded_114 R l1 l2 l3 l3 (G32 12 (G32 7 8)) G32 Q)))))))
def PX9_worded_32 (R : Nat → List Int → gS → (Int → gS → Prop) → Prop) (l1 : Int) (l2 : Int) (l3 : Int) (G : gS) (Q : Int → gS → Prop) : Prop :=
  R 2 [l3, l1, l2] G (fun r30 G29 => Q (r30) G29)
def PX9_worded_0 (R : Nat → List Int → gS → (Int → gS → Prop) → Prop) (a1 : Int) (a2 : Int) (G : gS) (Q : Int → gS → Prop) : Prop :=
  (inI (G 7 8) → PX9_node 37 (G 7 8) G (fun r3 G2 => PX9_take G2 (fun r6 G5 => (0 ≤ r6 ∧ r6 ≤ 1) → ((r6 = 0 → Q (-1) G5) ∧ (¬ (r6 = 0) → ((a1 = 28 → PX9_worded_32 R a1 a2 r3 G5 Q) ∧ (¬ (a1 = 28) → ((a1 = 30 → PX9_worded_32 R a1 a2 r3 G5 Q) ∧ (¬ (a1 = 30) → ((a1 = 33 → R 3 [r3, a2] G5 (fun r13 G12 => Q (r13) G12)) ∧ (¬ (a1 = 33) → ((a1 = 27 → (isO W0 8 (r3) ∧ (∀ G17 : gS, G17 = uG G5 r3 0 (31) → PX9_now G17 (fun r19 G18 => inI r19 → ((r19 = 26 → PX9_worded_89 R a1 a2 r3 G18 Q) ∧ (¬ (r19 = 26) → PX9_now G18 (fun r23 G22 => inI r23 → ((r23 = 2 → PX9_worded_89 R a1 a2 r3 G22 Q) ∧ (¬ (r23 = 2) → PX9_miss G22 (fun r27 G26 => (0 ≤ r27 ∧ r27 ≤ 1) → Q (-1) G26)))))))))) ∧ (¬ (a1 = 27) → PX9_worded_144 R a1 a2 r3 G5 Q)))))))))))))
abbrev PX9_worded (R : Nat → List Int → gS → (Int → gS → Prop) → Prop) (a1 : Int) (a2 : Int) (G : gS) (Q : Int → gS → Prop) : Prop := PX9_worded_0 R a1 a2 G Q
def Rq7 : Nat → Nat → List Int → gS → (Int → gS → Prop) → Prop
  | 0, _, _, _, _ => False
  | n + 1, i, L, G, Q => match i, L with
    | 0, [a1] => PX9_block (Rq7 n) a1 G Q
    | 1, [a1] => PX9_statement (Rq7 n) a1 G Q
    | 2, [a1, a2, a3] => PX9_tested (Rq7 n) a1 a2 a3 G Q
    | 3, [a1, a2] => PX9_tried (Rq7 n) a1 a2 G Q
    | 4, [a1, a2] => PX9_worded (Rq7 n) a1 a2 G Q
    | _, _ => False
def PX9_readBody_88 (l1 : Int) (s0 : Int) (G : gS) (Q : Int → gS → Prop) : Prop :=
  ((0 ≤ s0 ∧ s0 ≤ 1) ∧ Q (s0) G)
def PX9_readBody_87 (l1 : Int) (G : gS) (Q : Int → gS → Prop) : Prop :=
  PX9_readBody_88 l1 0 G Q
def PX9_readBody_83 (l1 : Int) (G : gS) (Q : Int → gS → Prop) : Prop :=
  PX9_readBody_88 l1 1 G Q
def PX9_readBody_48 (l1 : Int) (s0 : Int) (s1 : Int) (G : gS) (Q : Int → gS → Prop) : Prop :=
  (isO W0 7 (s0) ∧ ((s1 = -1 ∨ isO W0 8 (s1)) ∧ (∀ G20 : gS, G20 = uG G s0 14 (s1) → (inI (G20 7 8) → (isO W0 7 (l1) ∧ (∀ G23 : gS, G23 = uG G20 l1 13 (G20 7 8) → (inI (G23 7 9) → ((G23 7 9 = 0 → ((0 ≤ G23 l1 6 ∧ G23 l1 6 ≤ 1) → ((G23 l1 6 = 0 → PX9_need 159 G23 (fun r29 G28 => (0 ≤ r29 ∧ r29 ≤ 1) → ((r29 = 0 → PX9_readBody_87 l1 G28 Q) ∧ (¬ (r29 = 0) → PX9_readBody_83 l1 G28 Q)))) ∧ (¬ (G23 l1 6 = 0) → PX9_readBody_83 l1 G23 Q)))) ∧ (¬ (G23 7 9 = 0) → PX9_readBody_87 l1 G23 Q)))))))))
def PX9_readBody_24 (l1 : Int) (s0 : Int) (s1 : Int) (G : gS) (Q : Int → gS → Prop) : Prop :=
  (isO W0 7 (s0) ∧ ((0 ≤ s1 ∧ s1 ≤ 1) ∧ (∀ G8 : gS, G8 = uG G s0 6 (s1) → (isO W0 7 (l1) ∧ ((0 ≤ G8 l1 6 ∧ G8 l1 6 ≤ 1) → ((G8 l1 6 = 0 → Rq6 200 3 [0] G8 (fun r13 G12 => PX9_readBody_48 l1 l1 r13 G12 Q)) ∧ (¬ (G8 l1 6 = 0) → Rq7 200 0 [0] G8 (fun r16 G15 => PX9_readBody_48 l1 l1 r16 G15 Q))))))))
def PX9_readBody_0 (a1 : Int) (G : gS) (Q : Int → gS → Prop) : Prop :=
  (inI (G 7 8) → (isO W0 7 (a1) ∧ (∀ G3 : gS, G3 = uG G a1 12 (G 7 8) → (inI (G3 7 12) → ((G3 7 12 = 223 → PX9_readBody_24 a1 a1 1 G3 Q) ∧ (¬ (G3 7 12 = 223) → PX9_readBody_24 a1 a1 0 G3 Q))))))
abbrev PX9_readBody (a1 : Int) (G : gS) (Q : Int → gS → Prop) : Prop := PX9_readBody_0 a1 G Q
def PX9_read_182 (J : Nat → List Int → gS → (Int → gS → Prop) → Prop) (l1 : Int) (l2 : Int) (l3 : Int) (l4 : Int) (s0 : Int) (G : gS) (Q : Int → gS → Prop) : Prop :=
  ((0 ≤ s0 ∧ s0 ≤ 1) ∧ Q (s0) G)
def PX9_read_170 (J : Nat → List Int → gS → (Int → gS → Prop) → Prop) (l1 : Int) (l2 : Int) (l3 : Int) (l4 : Int) (G : gS) (Q : Int → gS → Prop) : Prop :=
  (inI (G 7 9) → ((G 7 9 = 0 → PX9_read_182 J l1 l2 l3 l4 1 G Q) ∧ (¬ (G 7 9 = 0) → PX9_read_182 J l1 l2 l3 l4 0 G Q)))
def PX9_read_164 (J : Nat → List Int → gS → (Int → gS → Prop) → Prop) (l1 : Int) (l2 : Int) (l3 : Int) (l4 : Int) (l5 : Int) (l6 : Int) (G : gS) (Q : Int → gS → Prop) : Prop :=
  (inI (l4 + 1) ∧ J 0 [l1, l2, l3, l4 + 1] G Q)
def PX9_read_149 (J : Nat → List Int → gS → (Int → gS → Prop) → Prop) (l1 : Int) (l2 : Int) (l3 : Int) (l4 : Int) (l5 : Int) (l6 : Int) (G : gS) (Q : Int → gS → Prop) : Prop :=
  (inI (G 7 9) → ((G 7 9 = 0 → PX9_need 225 G (fun r53 G52 => (0 ≤ r53 ∧ r53 ≤ 1) → PX9_read_164 J l1 l2 l3 l4 l5 l6 G52 Q)) ∧ (¬ (G 7 9 = 0) → PX9_read_164 J l1 l2 l3 l4 l5 l6 G Q)))
def PX9_read_143 (J : Nat → List Int → gS → (Int → gS → Prop) → Prop) (l1 : Int) (l2 : Int) (l3 : Int) (l4 : Int) (l5 : Int) (l6 : Int) (G : gS) (Q : Int → gS → Prop) : Prop :=
  (inI (l6 + 1) ∧ J 1 [l1, l2, l3, l4, l5, l6 + 1] G Q)
def PX9_read_67 (J : Nat → List Int → gS → (Int → gS → Prop) → Prop) (l1 : Int) (l2 : Int) (l3 : Int) (l4 : Int) (l5 : Int) (l6 : Int) (G : gS) (Q : Int → gS → Prop) : Prop :=
  ((l5 < 0 → PX9_read_149 J l1 l2 l3 l4 l5 l6 G Q) ∧ (0 ≤ l5 → ((20 < l6 → PX9_read_149 J l1 l2 l3 l4 l5 l6 G Q) ∧ (¬ (20 < l6) → PX9_now G (fun r27 G26 => inI r27 → ((r27 = 225 → PX9_read_149 J l1 l2 l3 l4 l5 l6 G26 Q) ∧ (¬ (r27 = 225) → (inI (G26 7 9) → ((G26 7 9 = 0 → PX9_readMember l5 G26 (fun r33 G32 => (0 ≤ r33 ∧ r33 ≤ 1) → (inI (G32 7 9) → ((G32 7 9 = 0 → (inI (G32 7 12) → ((G32 7 12 = 0 → PX9_read_143 J l1 l2 l3 l4 l5 l6 G32 Q) ∧ (¬ (G32 7 12 = 0) → (isO W0 10 (l5) ∧ (inI (G32 l5 13) → ((0 < G32 l5 13 → (inI (G32 l5 13) → ((0 : Int) ≤ (G32 l5 13) - 1 ∧ (((G32 l5 13) - 1 : Int) < 20 ∧ (((G32 (l5 + 3) ((G32 l5 13) - 1) = -1 ∨ isO W0 7 (G32 (l5 + 3) ((G32 l5 13) - 1))) ∧ ∀ v, W0.2 (l5 + 3) ((G32 l5 13) - 1) = some v → G32 (l5 + 3) ((G32 l5 13) - 1) = v) → PX9_readBody (G32 (l5 + 3) ((G32 l5 13) - 1)) G32 (fun r47 G46 => (0 ≤ r47 ∧ r47 ≤ 1) → PX9_read_143 J l1 l2 l3 l4 l5 l6 G46 Q)))))) ∧ (¬ (0 < G32 l5 13) → PX9_read_143 J l1 l2 l3 l4 l5 l6 G32 Q)))))))) ∧ (¬ (G32 7 9 = 0) → PX9_read_143 J l1 l2 l3 l4 l5 l6 G32 Q))))) ∧ (¬ (G26 7 9 = 0) → PX9_read_149 J l1 l2 l3 l4 l5 l6 G26 Q))))))))))
def PX9_read_36 (J : Nat → List Int → gS → (Int → gS → Prop) → Prop) (l1 : Int) (l2 : Int) (l3 : Int) (l4 : Int) (G : gS) (Q : Int → gS → Prop) : Prop :=
  ((700 < l4 → PX9_read_170 J l1 l2 l3 l4 G Q) ∧ (¬ (700 < l4) → (inI (G 7 9) → ((G 7 9 = 0 → PX9_now G (fun r16 G15 => inI r16 → ((r16 = 0 → PX9_read_170 J l1 l2 l3 l4 G15 Q) ∧ (¬ (r16 = 0) → PX9_readHead G15 (fun r20 G19 => PX9_read_67 J l1 l2 l3 l4 r20 0 G19 Q))))) ∧ (¬ (G 7 9 = 0) → PX9_read_170 J l1 l2 l3 l4 G Q)))))
def PX9_read_0 (J : Nat → List Int → gS → (Int → gS → Prop) → Prop) (a1 : Int) (a2 : Int) (a3 : Int) (G : gS) (Q : Int → gS → Prop) : Prop :=
  ((a1 = -1 ∨ isO W0 1 (a1)) ∧ (∀ G2 : gS, G2 = uG G 7 11 (a1) → ((G2 7 11 = -1 ∨ isO W0 1 (G2 7 11)) → (isO W0 1 (G2 7 11) ∧ PX1_clear (G2 7 11) G2 (fun _ G5 => (∀ G7 : gS, G7 = uG G5 7 9 (0) → (∀ G8 : gS, G8 = uG G7 7 10 (0) → (∀ G9 : gS, G9 = uG G8 7 14 (0) → PX9_scanAll a2 a3 G9 (fun _ G10 => PX9_read_36 J a1 a2 a3 0 G10 Q)))))))))
def PX9_read_J : Nat → Nat → List Int → gS → (Int → gS → Prop) → Prop
  | 0, _, _, _, _ => False
  | f + 1, h, L, G, Q => match h, L with
    | 0, [l1, l2, l3, l4] => PX9_read_36 (PX9_read_J f) l1 l2 l3 l4 G Q
    | 1, [l1, l2, l3, l4, l5, l6] => PX9_read_67 (PX9_read_J f) l1 l2 l3 l4 l5 l6 G Q
    | _, _ => False
def PX9_read (a1 : Int) (a2 : Int) (a3 : Int) (G : gS) (Q : Int → gS → Prop) : Prop := ∃ f : Nat, f ≤ 4000000000 ∧ PX9_read_0 (PX9_read_J f) a1 a2 a3 G Q
def PX9_isCall_100 (l1 : Int) (l2 : Int) (s0 : Int) (G : gS) (Q : Int → gS → Prop) : Prop :=
  ((0 ≤ s0 ∧ s0 ≤ 1) ∧ Q (s0) G)
def PX9_isCall_99 (l1 : Int) (l2 : Int) (G : gS) (Q : Int → gS → Prop) : Prop :=
  PX9_isCall_100 l1 l2 0 G Q
def PX9_isCall_0 (a1 : Int) (a2 : Int) (G : gS) (Q : Int → gS → Prop) : Prop :=
  PX9_scanAll a1 a2 G (fun _ G1 => (inI (G1 7 5) → ((G1 7 5 = 3 → ((0 : Int) ≤ 0 ∧ ((0 : Int) < 704 ∧ (inI (G1 9 0) → ((G1 9 0 = 2 → ((0 : Int) ≤ 1 ∧ ((1 : Int) < 704 ∧ (inI (G1 9 1) → ((G1 9 1 = 146 → ((0 : Int) ≤ 2 ∧ ((2 : Int) < 704 ∧ (inI (G1 9 2) → ((G1 9 2 = 3 → ((0 : Int) ≤ 0 ∧ ((0 : Int) < 704 ∧ (inI (G1 10 0) → ((G1 10 0 = 0 → ((0 : Int) ≤ 1 ∧ ((1 : Int) < 704 ∧ (inI (G1 10 1) → ((0 : Int) ≤ 0 ∧ ((0 : Int) < 704 ∧ (inI (G1 11 0) → ((G1 10 1 = G1 11 0 → ((0 : Int) ≤ 2 ∧ ((2 : Int) < 704 ∧ (inI (G1 10 2) → ((0 : Int) ≤ 1 ∧ ((1 : Int) < 704 ∧ (inI (G1 11 1) → ((G1 10 2 = G1 11 1 → ((0 : Int) ≤ 2 ∧ ((2 : Int) < 704 ∧ (inI (G1 11 2) → ((G1 11 2 = a2 → PX9_isCall_100 a1 a2 1 G1 Q) ∧ (¬ (G1 11 2 = a2) → PX9_isCall_99 a1 a2 G1 Q)))))) ∧ (¬ (G1 10 2 = G1 11 1) → PX9_isCall_99 a1 a2 G1 Q))))))))) ∧ (¬ (G1 10 1 = G1 11 0) → PX9_isCall_99 a1 a2 G1 Q))))))))) ∧ (¬ (G1 10 0 = 0) → PX9_isCall_99 a1 a2 G1 Q)))))) ∧ (¬ (G1 9 2 = 3) → PX9_isCall_99 a1 a2 G1 Q)))))) ∧ (¬ (G1 9 1 = 146) → PX9_isCall_99 a1 a2 G1 Q)))))) ∧ (¬ (G1 9 0 = 2) → PX9_isCall_99 a1 a2 G1 Q)))))) ∧ (¬ (G1 7 5 = 3) → PX9_isCall_99 a1 a2 G1 Q))))
abbrev PX9_isCall (a1 : Int) (a2 : Int) (G : gS) (Q : Int → gS → Prop) : Prop := PX9_isCall_0 a1 a2 G Q
def PX11_close_261 (J : Nat → List Int → gS → (Int → gS → Prop) → Prop) (o : Int) (l1 : Int) (l2 : Int) (l3 : Int) (l5 : Int) (l6 : Int) (G : gS) (Q : Int → gS → Prop) : Prop :=
  (inI (l2 + 1) ∧ J 3 [o, l1, l2 + 1] G Q)
def PX11_close_204 (J : Nat → List Int → gS → (Int → gS → Prop) → Prop) (o : Int) (l1 : Int) (l2 : Int) (l3 : Int) (l5 : Int) (l6 : Int) (G : gS) (Q : Int → gS → Prop) : Prop :=
  (isO W0 11 (o) ∧ (inI (G o 2) → ((l6 < G o 2 → ((l5 < 0 → PX11_close_261 J o l1 l2 l3 l5 l6 G Q) ∧ (¬ (l5 < 0) → (inL (lush l3 l5) → (inL (land (lush l3 l5) 1) → ((land (lush l3 l5) 1 = 0 → (inL (lshl 1 l5) → (inL (lor l3 (lshl 1 l5)) → ((0 : Int) ≤ l2 ∧ ((l2 : Int) < 64 ∧ (inI (G (o + 3) l2) → ((0 : Int) ≤ l2 ∧ ((l2 : Int) < 64 ∧ (inI ((G (o + 3) l2) + 1) ∧ (∀ G59 : gS, G59 = uG G (o + 3) l2 ((G (o + 3) l2) + 1) → ((0 : Int) ≤ l5 ∧ ((l5 : Int) < 64 ∧ (inI (G59 (o + 2) l5) → (inI (l6 + 1) ∧ J 4 [o, l1, l2, lor l3 (lshl 1 l5), G59 (o + 2) l5, l6 + 1] G59 Q)))))))))))))) ∧ (¬ (land (lush l3 l5) 1 = 0) → PX11_close_261 J o l1 l2 l3 l5 l6 G Q))))))) ∧ (¬ (l6 < G o 2) → PX11_close_261 J o l1 l2 l3 l5 l6 G Q))))
def PX11_close_176 (J : Nat → List Int → gS → (Int → gS → Prop) → Prop) (o : Int) (l1 : Int) (l2 : Int) (G : gS) (Q : Int → gS → Prop) : Prop :=
  (isO W0 11 (o) ∧ (inI (G o 2) → ((l2 < G o 2 → ((0 : Int) ≤ l2 ∧ ((l2 : Int) < 64 ∧ (∀ G33 : gS, G33 = uG G (o + 3) l2 (0) → ((0 : Int) ≤ l2 ∧ ((l2 : Int) < 64 ∧ (inI (G33 (o + 2) l2) → PX11_close_204 J o l1 l2 0 (G33 (o + 2) l2) 0 G33 Q))))))) ∧ (¬ (l2 < G o 2) → Q 0 G))))
def PX11_close_174 (J : Nat → List Int → gS → (Int → gS → Prop) → Prop) (o : Int) (l1 : Int) (l2 : Int) (G : gS) (Q : Int → gS → Prop) : Prop :=
  PX11_close_176 J o l1 0 G Q
def PX11_close_160 (J : Nat → List Int → gS → (Int → gS → Prop) → Prop) (o : Int) (l1 : Int) (l2 : Int) (l3 : Int) (l4 : Int) (l6 : Int) (s0 : Int) (s1 : Int) (G : gS) (Q : Int → gS → Prop) : Prop :=
  (inI (ior s0 s1) → (inI (l3 + 1) ∧ J 1 [o, ior s0 s1, l2, l3 + 1] G Q))
def PX11_close_134 (J : Nat → List Int → gS → (Int → gS → Prop) → Prop) (o : Int) (l1 : Int) (l2 : Int) (l3 : Int) (l4 : Int) (l6 : Int) (s0 : Int) (s1 : Int) (s2 : Int) (s3 : Int) (G : gS) (Q : Int → gS → Prop) : Prop :=
  (inL (lor s2 s3) → (∃ n92, isA W0 1 n92 (s0) ∧ ((0 : Int) ≤ s1 ∧ ((s1 : Int) < n92 ∧ (∀ G96 : gS, G96 = uG G s0 s1 (lor s2 s3) → (inI (l6 + 1) ∧ J 2 [o, l1, l2, l3, l4, l6 + 1] G96 Q))))))
def PX11_close_81 (J : Nat → List Int → gS → (Int → gS → Prop) → Prop) (o : Int) (l1 : Int) (l2 : Int) (l3 : Int) (l4 : Int) (l6 : Int) (G : gS) (Q : Int → gS → Prop) : Prop :=
  (inI ((l3 * 4) + 4) ∧ ((l6 < (l3 * 4) + 4 → (isO W0 11 (o) ∧ ((0 : Int) ≤ l3 ∧ ((l3 : Int) < 64 ∧ (inL (G (o + 8) l3) → ((0 : Int) ≤ l6 ∧ ((l6 : Int) < 256 ∧ (inI (G (o + 4) l6) → ((G (o + 4) l6 < 0 → PX11_close_134 J o l1 l2 l3 l4 l6 (o + 8) l3 (G (o + 8) l3) 0 G Q) ∧ (¬ (G (o + 4) l6 < 0) → ((0 : Int) ≤ l6 ∧ ((l6 : Int) < 256 ∧ (inI (G (o + 4) l6) → (inL (lshl 1 (G (o + 4) l6)) → ((0 : Int) ≤ l6 ∧ ((l6 : Int) < 256 ∧ (inI (G (o + 4) l6) → ((0 : Int) ≤ G (o + 4) l6 ∧ ((G (o + 4) l6 : Int) < 64 ∧ (inL (G (o + 8) (G (o + 4) l6)) → (inL (lor (lshl 1 (G (o + 4) l6)) (G (o + 8) (G (o + 4) l6))) → PX11_close_134 J o l1 l2 l3 l4 l6 (o + 8) l3 (G (o + 8) l3) (lor (lshl 1 (G (o + 4) l6)) (G (o + 8) (G (o + 4) l6))) G Q))))))))))))))))))))) ∧ (¬ (l6 < (l3 * 4) + 4) → (isO W0 11 (o) ∧ ((0 : Int) ≤ l3 ∧ ((l3 : Int) < 64 ∧ (inL (G (o + 8) l3) → ((G (o + 8) l3 = l4 → PX11_close_160 J o l1 l2 l3 l4 l6 l1 0 G Q) ∧ (¬ (G (o + 8) l3 = l4) → PX11_close_160 J o l1 l2 l3 l4 l6 l1 1 G Q)))))))))
def PX11_close_74 (J : Nat → List Int → gS → (Int → gS → Prop) → Prop) (o : Int) (l1 : Int) (l2 : Int) (l3 : Int) (l4 : Int) (s0 : Int) (s1 : Int) (s2 : Int) (s3 : Int) (G : gS) (Q : Int → gS → Prop) : Prop :=
  (inL (lor s2 s3) → (∃ n38, isA W0 1 n38 (s0) ∧ ((0 : Int) ≤ s1 ∧ ((s1 : Int) < n38 ∧ (∀ G42 : gS, G42 = uG G s0 s1 (lor s2 s3) → (inI (l3 * 4) ∧ PX11_close_81 J o l1 l2 l3 l4 (l3 * 4) G42 Q))))))
def PX11_close_18 (J : Nat → List Int → gS → (Int → gS → Prop) → Prop) (o : Int) (l1 : Int) (l2 : Int) (l3 : Int) (G : gS) (Q : Int → gS → Prop) : Prop :=
  (isO W0 11 (o) ∧ (inI (G o 2) → ((l3 < G o 2 → ((0 : Int) ≤ l3 ∧ ((l3 : Int) < 64 ∧ (inL (G (o + 8) l3) → ((0 : Int) ≤ l3 ∧ ((l3 : Int) < 64 ∧ (inL (G (o + 8) l3) → ((0 : Int) ≤ l3 ∧ ((l3 : Int) < 64 ∧ (inI (G (o + 2) l3) → ((G (o + 2) l3 < 0 → PX11_close_74 J o l1 l2 l3 (G (o + 8) l3) (o + 8) l3 (G (o + 8) l3) 0 G Q) ∧ (¬ (G (o + 2) l3 < 0) → ((0 : Int) ≤ l3 ∧ ((l3 : Int) < 64 ∧ (inI (G (o + 2) l3) → (inL (lshl 1 (G (o + 2) l3)) → ((0 : Int) ≤ l3 ∧ ((l3 : Int) < 64 ∧ (inI (G (o + 2) l3) → ((0 : Int) ≤ G (o + 2) l3 ∧ ((G (o + 2) l3 : Int) < 64 ∧ (inL (G (o + 8) (G (o + 2) l3)) → (inL (lor (lshl 1 (G (o + 2) l3)) (G (o + 8) (G (o + 2) l3))) → PX11_close_74 J o l1 l2 l3 (G (o + 8) l3) (o + 8) l3 (G (o + 8) l3) (lor (lshl 1 (G (o + 2) l3)) (G (o + 8) (G (o + 2) l3))) G Q))))))))))))))))))))))) ∧ (¬ (l3 < G o 2) → (inI (l2 + 1) ∧ J 0 [o, l1, l2 + 1] G Q)))))
def PX11_close_4 (J : Nat → List Int → gS → (Int → gS → Prop) → Prop) (o : Int) (l1 : Int) (l2 : Int) (G : gS) (Q : Int → gS → Prop) : Prop :=
  ((64 < l2 → PX11_close_174 J o l1 l2 G Q) ∧ (¬ (64 < l2) → ((l1 = 0 → PX11_close_174 J o l1 l2 G Q) ∧ (¬ (l1 = 0) → PX11_close_18 J o 0 l2 0 G Q))))
def PX11_close_0 (J : Nat → List Int → gS → (Int → gS → Prop) → Prop) (o : Int) (G : gS) (Q : Int → gS → Prop) : Prop :=
  PX11_close_4 J o 1 0 G Q
def PX11_close_J : Nat → Nat → List Int → gS → (Int → gS → Prop) → Prop
  | 0, _, _, _, _ => False
  | f + 1, h, L, G, Q => match h, L with
    | 0, [o, l1, l2] => PX11_close_4 (PX11_close_J f) o l1 l2 G Q
    | 1, [o, l1, l2, l3] => PX11_close_18 (PX11_close_J f) o l1 l2 l3 G Q
    | 2, [o, l1, l2, l3, l4, l6] => PX11_close_81 (PX11_close_J f) o l1 l2 l3 l4 l6 G Q
    | 3, [o, l1, l2] => PX11_close_176 (PX11_close_J f) o l1 l2 G Q
    | 4, [o, l1, l2, l3, l5, l6] => PX11_close_204 (PX11_close_J f) o l1 l2 l3 l5 l6 G Q
    | _, _ => False
def PX11_close (o : Int) (G : gS) (Q : Int → gS → Prop) : Prop := ∃ f : Nat, f ≤ 4000000000 ∧ PX11_close_0 (PX11_close_J f) o G Q
def PX11_settle_274 (J : Nat → List Int → gS → (Int → gS → Prop) → Prop) (o : Int) (l1 : Int) (l2 : Int) (l3 : Int) (l4 : Int) (s0 : Int) (s1 : Int) (s2 : Int) (G : gS) (Q : Int → gS → Prop) : Prop :=
  (∃ n127, isA W0 0 n127 (s0) ∧ ((0 : Int) ≤ s1 ∧ ((s1 : Int) < n127 ∧ (∀ G131 : gS, G131 = uG G s0 s1 (s2) → (inI (l4 + 1) ∧ J 1 [o, l1, l2, l3, l4 + 1] G131 Q)))))
def PX11_settle_229 (J : Nat → List Int → gS → (Int → gS → Prop) → Prop) (o : Int) (l1 : Int) (l2 : Int) (l3 : Int) (l4 : Int) (s0 : Int) (s1 : Int) (s2 : Int) (G : gS) (Q : Int → gS → Prop) : Prop :=
  (∃ n108, isA W0 0 n108 (s0) ∧ ((0 : Int) ≤ s1 ∧ ((s1 : Int) < n108 ∧ (∀ G112 : gS, G112 = uG G s0 s1 (s2) → (isO W0 11 (o) ∧ (isO W0 10 (l2) ∧ ((0 : Int) ≤ 0 ∧ ((0 : Int) < 3 ∧ (inI (G112 (l2 + 2) 0) → ((l4 < G112 (l2 + 2) 0 → ((0 : Int) ≤ (l1 * 4) + l4 ∧ (((l1 * 4) + l4 : Int) < 256 ∧ (inI (G112 (o + 4) ((l1 * 4) + l4)) → PX11_bars o l2 (G112 (o + 4) ((l1 * 4) + l4)) 0 G112 (fun r123 G122 => inI r123 → (inI (((l1 * 5) + 1) + l4) ∧ PX11_settle_274 J o l1 l2 l3 l4 (o + 5) (((l1 * 5) + 1) + l4) r123 G122 Q)))))) ∧ (¬ (l4 < G112 (l2 + 2) 0) → (inI (((l1 * 5) + 1) + l4) ∧ PX11_settle_274 J o l1 l2 l3 l4 (o + 5) (((l1 * 5) + 1) + l4) 0 G112 Q))))))))))))
def PX11_settle_186 (J : Nat → List Int → gS → (Int → gS → Prop) → Prop) (o : Int) (l1 : Int) (l2 : Int) (l3 : Int) (l4 : Int) (G : gS) (Q : Int → gS → Prop) : Prop :=
  ((l4 < 4 → (isO W0 11 (o) ∧ (isO W0 10 (l2) ∧ ((0 : Int) ≤ 0 ∧ ((0 : Int) < 3 ∧ (inI (G (l2 + 2) 0) → ((l4 < G (l2 + 2) 0 → PX10_listedAt l2 0 l4 G (fun r93 G92 => inL r93 → PX11_find o r93 G92 (fun r96 G95 => inI r96 → (inI ((l1 * 4) + l4) ∧ PX11_settle_229 J o l1 l2 l3 l4 (o + 4) ((l1 * 4) + l4) r96 G95 Q)))) ∧ (¬ (l4 < G (l2 + 2) 0) → (inI ((l1 * 4) + l4) ∧ PX11_settle_229 J o l1 l2 l3 l4 (o + 4) ((l1 * 4) + l4) (-2) G Q))))))))) ∧ (¬ (l4 < 4) → (isO W0 11 (o) ∧ ((0 : Int) ≤ l1 ∧ ((l1 : Int) < 64 ∧ (∀ G103 : gS, G103 = uG G (o + 8) l1 (0) → ((0 : Int) ≤ l1 ∧ ((l1 : Int) < 64 ∧ (∀ G106 : gS, G106 = uG G103 (o + 10) l1 (-2) → (inI (l1 + 1) ∧ J 0 [o, l1 + 1] G106 Q))))))))))
def PX11_settle_182 (J : Nat → List Int → gS → (Int → gS → Prop) → Prop) (o : Int) (l1 : Int) (l2 : Int) (l3 : Int) (s0 : Int) (s1 : Int) (s2 : Int) (G : gS) (Q : Int → gS → Prop) : Prop :=
  (∃ n80, isA W0 0 n80 (s0) ∧ ((0 : Int) ≤ s1 ∧ ((s1 : Int) < n80 ∧ (∀ G84 : gS, G84 = uG G s0 s1 (s2) → PX11_settle_186 J o l1 l2 l3 0 G84 Q))))
def PX11_settle_151 (J : Nat → List Int → gS → (Int → gS → Prop) → Prop) (o : Int) (l1 : Int) (l2 : Int) (l3 : Int) (s0 : Int) (s1 : Int) (s2 : Int) (G : gS) (Q : Int → gS → Prop) : Prop :=
  (∃ n63, isA W0 0 n63 (s0) ∧ ((0 : Int) ≤ s1 ∧ ((s1 : Int) < n63 ∧ (∀ G67 : gS, G67 = uG G s0 s1 (s2) → (isO W0 11 (o) ∧ (isO W0 10 (l2) ∧ ((0 ≤ G67 l2 4 ∧ G67 l2 4 ≤ 1) → ((G67 l2 4 = 0 → ((0 : Int) ≤ l1 ∧ ((l1 : Int) < 64 ∧ (inI (G67 (o + 2) l1) → PX11_bars o l2 (G67 (o + 2) l1) 1 G67 (fun r76 G75 => inI r76 → (inI (l1 * 5) ∧ PX11_settle_182 J o l1 l2 l3 (o + 5) (l1 * 5) r76 G75 Q)))))) ∧ (¬ (G67 l2 4 = 0) → (inI (l1 * 5) ∧ PX11_settle_182 J o l1 l2 l3 (o + 5) (l1 * 5) 0 G67 Q))))))))))
def PX11_settle_131 (J : Nat → List Int → gS → (Int → gS → Prop) → Prop) (o : Int) (l1 : Int) (l2 : Int) (s0 : Int) (G : gS) (Q : Int → gS → Prop) : Prop :=
  (isO W0 11 (o) ∧ ((s0 = 0 → PX11_settle_151 J o l1 l2 s0 (o + 7) l1 l1 G Q) ∧ (¬ (s0 = 0) → ((0 : Int) ≤ l1 ∧ ((l1 : Int) < 64 ∧ (inI (G (o + 6) l1) → PX11_settle_151 J o l1 l2 s0 (o + 7) l1 (G (o + 6) l1) G Q))))))
def PX11_settle_130 (J : Nat → List Int → gS → (Int → gS → Prop) → Prop) (o : Int) (l1 : Int) (l2 : Int) (G : gS) (Q : Int → gS → Prop) : Prop :=
  PX11_settle_131 J o l1 l2 0 G Q
def PX11_settle_76 (J : Nat → List Int → gS → (Int → gS → Prop) → Prop) (o : Int) (l1 : Int) (l2 : Int) (s0 : Int) (s1 : Int) (s2 : Int) (G : gS) (Q : Int → gS → Prop) : Prop :=
  (∃ n30, isA W0 0 n30 (s0) ∧ ((0 : Int) ≤ s1 ∧ ((s1 : Int) < n30 ∧ (∀ G34 : gS, G34 = uG G s0 s1 (s2) → (isO W0 11 (o) ∧ ((0 : Int) ≤ l1 ∧ ((l1 : Int) < 64 ∧ (inI (G34 (o + 6) l1) → ((G34 (o + 6) l1 < 0 → PX11_settle_130 J o l1 l2 G34 Q) ∧ (¬ (G34 (o + 6) l1 < 0) → (isO W0 10 (l2) ∧ (inL (G34 l2 9) → (inL (lush (G34 l2 9) 59) → (inL (G34 l2 1) → (inL (lush (G34 l2 1) 59) → ((lush (G34 l2 9) 59 = lush (G34 l2 1) 59 → ((0 : Int) ≤ l1 ∧ ((l1 : Int) < 64 ∧ (inI (G34 (o + 6) l1) → ((0 : Int) ≤ G34 (o + 6) l1 ∧ ((G34 (o + 6) l1 : Int) < 64 ∧ (((G34 (o + 1) (G34 (o + 6) l1) = -1 ∨ isO W0 10 (G34 (o + 1) (G34 (o + 6) l1))) ∧ ∀ v, W0.2 (o + 1) (G34 (o + 6) l1) = some v → G34 (o + 1) (G34 (o + 6) l1) = v) → (inL (G34 l2 1) → (isO W0 10 (G34 (o + 1) (G34 (o + 6) l1)) ∧ PX10_has (G34 (o + 1) (G34 (o + 6) l1)) 1 (G34 l2 1) G34 (fun r55 G54 => (0 ≤ r55 ∧ r55 ≤ 1) → ((r55 = 0 → PX11_settle_130 J o l1 l2 G54 Q) ∧ (¬ (r55 = 0) → PX11_settle_131 J o l1 l2 1 G54 Q)))))))))))) ∧ (¬ (lush (G34 l2 9) 59 = lush (G34 l2 1) 59) → PX11_settle_130 J o l1 l2 G34 Q)))))))))))))))))
def PX11_settle_46 (J : Nat → List Int → gS → (Int → gS → Prop) → Prop) (o : Int) (l1 : Int) (l2 : Int) (s0 : Int) (s1 : Int) (s2 : Int) (G : gS) (Q : Int → gS → Prop) : Prop :=
  (∃ n17, isA W0 0 n17 (s0) ∧ ((0 : Int) ≤ s1 ∧ ((s1 : Int) < n17 ∧ (∀ G21 : gS, G21 = uG G s0 s1 (s2) → (isO W0 11 (o) ∧ (isO W0 10 (l2) ∧ (inL (G21 l2 9) → ((G21 l2 9 = -4 → PX11_settle_76 J o l1 l2 (o + 6) l1 (-2) G21 Q) ∧ (¬ (G21 l2 9 = -4) → (inL (G21 l2 9) → PX11_find o (G21 l2 9) G21 (fun r28 G27 => inI r28 → PX11_settle_76 J o l1 l2 (o + 6) l1 r28 G27 Q)))))))))))
def PX11_settle_33 (J : Nat → List Int → gS → (Int → gS → Prop) → Prop) (o : Int) (l1 : Int) (l2 : Int) (s0 : Int) (s1 : Int) (G : gS) (Q : Int → gS → Prop) : Prop :=
  PX11_settle_46 J o l1 l2 s0 s1 (-2) G Q
def PX11_settle_2 (J : Nat → List Int → gS → (Int → gS → Prop) → Prop) (o : Int) (l1 : Int) (G : gS) (Q : Int → gS → Prop) : Prop :=
  (isO W0 11 (o) ∧ (inI (G o 2) → ((l1 < G o 2 → ((0 : Int) ≤ l1 ∧ ((l1 : Int) < 64 ∧ (((G (o + 1) l1 = -1 ∨ isO W0 10 (G (o + 1) l1)) ∧ ∀ v, W0.2 (o + 1) l1 = some v → G (o + 1) l1 = v) → ((l1 = 0 → PX11_settle_33 J o l1 (G (o + 1) l1) (o + 2) l1 G Q) ∧ (¬ (l1 = 0) → (isO W0 10 (G (o + 1) l1) ∧ ((0 ≤ G (G (o + 1) l1) 4 ∧ G (G (o + 1) l1) 4 ≤ 1) → ((G (G (o + 1) l1) 4 = 0 → (inL (G (G (o + 1) l1) 8) → PX11_find o (G (G (o + 1) l1) 8) G (fun r13 G12 => inI r13 → PX11_settle_46 J o l1 (G (o + 1) l1) (o + 2) l1 r13 G12 Q))) ∧ (¬ (G (G (o + 1) l1) 4 = 0) → PX11_settle_33 J o l1 (G (o + 1) l1) (o + 2) l1 G Q)))))))))) ∧ (¬ (l1 < G o 2) → PX11_close o G (fun _ G15 => Q 0 G15)))))
def PX11_settle_0 (J : Nat → List Int → gS → (Int → gS → Prop) → Prop) (o : Int) (G : gS) (Q : Int → gS → Prop) : Prop :=
  PX11_settle_2 J o 0 G Q
def PX11_settle_J : Nat → Nat → List Int → gS → (Int → gS → Prop) → Prop
  | 0, _, _, _, _ => False
  | f + 1, h, L, G, Q => match h, L with
    | 0, [o, l1] => PX11_settle_2 (PX11_settle_J f) o l1 G Q
    | 1, [o, l1, l2, l3, l4] => PX11_settle_186 (PX11_settle_J f) o l1 l2 l3 l4 G Q
    | _, _ => False
def PX11_settle (o : Int) (G : gS) (Q : Int → gS → Prop) : Prop := ∃ f : Nat, f ≤ 4000000000 ∧ PX11_settle_0 (PX11_settle_J f) o G Q
def PX12_gather_6 (J : Nat → List Int → gS → (Int → gS → Prop) → Prop) (l1 : Int) (l2 : Int) (l3 : Int) (G : gS) (Q : Int → gS → Prop) : Prop :=
  ((l3 < 5 → (∃ n5, isA W0 0 n5 (l2) ∧ ((0 : Int) ≤ l3 ∧ ((l3 : Int) < n5 ∧ (inI (G l2 l3) → PX12_buildOf l3 (G l2 l3) G (fun r11 G10 => (isO W0 11 (l1) ∧ PX11_enter l1 r11 G10 (fun _ G14 => (inI (l3 + 1) ∧ J 0 [l1, l2, l3 + 1] G14 Q))))))))) ∧ (¬ (l3 < 5) → (isO W0 11 (l1) ∧ PX11_settle l1 G (fun _ G18 => Q 0 G18))))
def PX12_gather_0 (J : Nat → List Int → gS → (Int → gS → Prop) → Prop) (a1 : Int) (a2 : Int) (G : gS) (Q : Int → gS → Prop) : Prop :=
  (isO W0 11 (a1) ∧ PX11_clear a1 G (fun _ G2 => PX12_gather_6 J a1 a2 0 G2 Q))
def PX12_gather_J : Nat → Nat → List Int → gS → (Int → gS → Prop) → Prop
  | 0, _, _, _, _ => False
  | f + 1, h, L, G, Q => match h, L with
    | 0, [l1, l2, l3] => PX12_gather_6 (PX12_gather_J f) l1 l2 l3 G Q
    | _, _ => False
def PX12_gather (a1 : Int) (a2 : Int) (G : gS) (Q : Int → gS → Prop) : Prop := ∃ f : Nat, f ≤ 4000000000 ∧ PX12_gather_0 (PX12_gather_J f) a1 a2 G Q
def PX12_make_121 (J : Nat → List Int → gS → (Int → gS → Prop) → Prop) (l1 : Int) (l2 : Int) (l3 : Int) (l4 : Int) (s0 : Int) (s1 : Int) (G : gS) (Q : Int → gS → Prop) : Prop :=
  (isO W0 11 (s0) ∧ PX11_enter s0 s1 G (fun _ G67 => (inI (l4 + 1) ∧ J 0 [l1, l2, l3, l4 + 1] G67 Q)))
def PX12_make_88 (J : Nat → List Int → gS → (Int → gS → Prop) → Prop) (l1 : Int) (l2 : Int) (l3 : Int) (l4 : Int) (G : gS) (Q : Int → gS → Prop) : Prop :=
  ((l4 < 5 → ((l4 = l1 → PX12_make_121 J l1 l2 l3 l4 864 (-1) G Q) ∧ (¬ (l4 = l1) → ((0 : Int) ≤ l4 ∧ ((l4 : Int) < 5 ∧ (inI (G 5 l4) → PX12_buildOf l4 (G 5 l4) G (fun r35 G34 => PX12_make_121 J l1 l2 l3 l4 864 r35 G34 Q))))))) ∧ (¬ (l4 < 5) → (isO W0 11 (864) ∧ PX11_settle 864 G (fun _ G38 => PX4_judge 864 l3 G38 (fun r41 G40 => (0 ≤ r41 ∧ r41 ≤ 1) → ((r41 = 0 → (inI (G40 814 2) → (inI (G40 814 3) → PX12_faulted (G40 814 2) (G40 814 3) G40 (fun r47 G46 => inI r47 → Q (r47) G46)))) ∧ (¬ (r41 = 0) → PX0_judge 864 l3 7 G40 (fun r50 G49 => (0 ≤ r50 ∧ r50 ≤ 1) → ((r50 = 0 → (inI (G49 815 3) → (inI (G49 815 4) → PX12_faulted (G49 815 3) (G49 815 4) G49 (fun r56 G55 => inI r56 → Q (r56) G55)))) ∧ (¬ (r50 = 0) → PX3_write 864 l3 G49 (fun _ G58 => PX9_keep G58 (fun _ G60 => (∀ G62 : gS, G62 = uG G60 0 12 (-2) → PX12_keep l3 l1 G62 (fun r64 G63 => inI r64 → Q (r64) G63))))))))))))))
def PX12_make_0 (J : Nat → List Int → gS → (Int → gS → Prop) → Prop) (a1 : Int) (G : gS) (Q : Int → gS → Prop) : Prop :=
  PX12_isLibrary a1 G (fun r2 G1 => (0 ≤ r2 ∧ r2 ≤ 1) → ((r2 = 0 → Q (-1) G1) ∧ (¬ (r2 = 0) → PX12_isFull a1 G1 (fun r6 G5 => (0 ≤ r6 ∧ r6 ≤ 1) → ((r6 = 0 → (inI (G5 0 1) → (∀ G10 : gS, G10 = uG G5 0 1 (0) → PX12_unused G10 (fun r12 G11 => PX9_read r12 1 (G5 0 1) G11 (fun r15 G14 => (0 ≤ r15 ∧ r15 ≤ 1) → ((r15 = 0 → (inI (G14 7 9) → (inI (G14 7 10) → PX12_faulted (G14 7 9) (G14 7 10) G14 (fun r21 G20 => inI r21 → Q (r21) G20)))) ∧ (¬ (r15 = 0) → (isO W0 11 (864) ∧ PX11_clear 864 G14 (fun _ G24 => (isO W0 11 (864) ∧ PX11_enter 864 r12 G24 (fun _ G27 => PX12_make_88 J a1 (G5 0 1) r12 0 G27 Q))))))))))) ∧ (¬ (r6 = 0) → Q (-3) G5))))))
def PX12_make_J : Nat → Nat → List Int → gS → (Int → gS → Prop) → Prop
  | 0, _, _, _, _ => False
  | f + 1, h, L, G, Q => match h, L with
    | 0, [l1, l2, l3, l4] => PX12_make_88 (PX12_make_J f) l1 l2 l3 l4 G Q
    | _, _ => False
def PX12_make (a1 : Int) (G : gS) (Q : Int → gS → Prop) : Prop := ∃ f : Nat, f ≤ 4000000000 ∧ PX12_make_0 (PX12_make_J f) a1 G Q
def PX12_renewWorld_0  (G : gS) (Q : Int → gS → Prop) : Prop :=
  PX12_gather 821 5 G (fun _ G1 => PX6_clear 821 G1 (fun _ G3 => (∀ G5 : gS, G5 = uG G3 0 18 (0) → Q 0 G5)))
abbrev PX12_renewWorld  (G : gS) (Q : Int → gS → Prop) : Prop := PX12_renewWorld_0  G Q
def PX12_pick_24 (l1 : Int) (l2 : Int) (G : gS) (Q : Int → gS → Prop) : Prop :=
  ((0 : Int) ≤ l1 ∧ ((l1 : Int) < 5 ∧ (inI (G 5 l1) → ((0 : Int) ≤ l1 ∧ ((l1 : Int) < 5 ∧ (∀ G15 : gS, G15 = uG G 5 l1 (l2) → PX12_renewWorld G15 (fun _ G16 => Q (G 5 l1) G16)))))))
def PX12_pick_22 (l1 : Int) (l2 : Int) (G : gS) (Q : Int → gS → Prop) : Prop :=
  Q (-1) G
def PX12_pick_0 (a1 : Int) (a2 : Int) (G : gS) (Q : Int → gS → Prop) : Prop :=
  PX12_isLibrary a1 G (fun r2 G1 => (0 ≤ r2 ∧ r2 ≤ 1) → ((r2 = 0 → PX12_pick_22 a1 a2 G1 Q) ∧ (¬ (r2 = 0) → ((a2 = -2 → PX12_pick_24 a1 a2 G1 Q) ∧ (¬ (a2 = -2) → PX12_buildOf a1 a2 G1 (fun r7 G6 => ((r7 < 0 → PX12_pick_22 a1 a2 G6 Q) ∧ (0 ≤ r7 → PX12_pick_24 a1 a2 G6 Q))))))))
abbrev PX12_pick (a1 : Int) (a2 : Int) (G : gS) (Q : Int → gS → Prop) : Prop := PX12_pick_0 a1 a2 G Q
def PX12_tellText_16 (J : Nat → List Int → gS → (Int → gS → Prop) → Prop) (l1 : Int) (l2 : Int) (s0 : Int) (s1 : Int) (G : gS) (Q : Int → gS → Prop) : Prop :=
  (isO W0 12 (s0) ∧ PX12_tellByte s1 G (fun _ G7 => (inI (l2 + 1) ∧ J 0 [l1, l2 + 1] G7 Q)))
def PX12_tellText_7 (J : Nat → List Int → gS → (Int → gS → Prop) → Prop) (l1 : Int) (l2 : Int) (s0 : Int) (s1 : Int) (G : gS) (Q : Int → gS → Prop) : Prop :=
  ((s0 < s1 → ((0 : Int) ≤ l2 ∧ (l2 < sLen l1 ∧ ((0 ≤ sChr l1 l2 ∧ sChr l1 l2 < 128) → PX12_tellText_16 J l1 l2 0 (sChr l1 l2) G Q)))) ∧ (¬ (s0 < s1) → Q 0 G))
def PX12_tellText_2 (J : Nat → List Int → gS → (Int → gS → Prop) → Prop) (l1 : Int) (l2 : Int) (G : gS) (Q : Int → gS → Prop) : Prop :=
  ((0 ≤ sLen l1 ∧ sLen l1 < 200) → PX12_tellText_7 J l1 l2 l2 (sLen l1) G Q)
def PX12_tellText_0 (J : Nat → List Int → gS → (Int → gS → Prop) → Prop) (a1 : Int) (G : gS) (Q : Int → gS → Prop) : Prop :=
  PX12_tellText_2 J a1 0 G Q
def PX12_tellText_J : Nat → Nat → List Int → gS → (Int → gS → Prop) → Prop
  | 0, _, _, _, _ => False
  | f + 1, h, L, G, Q => match h, L with
    | 0, [l1, l2] => PX12_tellText_2 (PX12_tellText_J f) l1 l2 G Q
    | _, _ => False
def PX12_tellText (a1 : Int) (G : gS) (Q : Int → gS → Prop) : Prop := ∃ f : Nat, f ≤ 4000000000 ∧ PX12_tellText_0 (PX12_tellText_J f) a1 G Q
def PX12_tellType_34 (l1 : Int) (s0 : Int) (s1 : Int) (G : gS) (Q : Int → gS → Prop) : Prop :=
  (isO W0 12 (s0) ∧ PX12_tellText s1 G (fun _ G20 => Q 0 G20))
def PX12_tellType_16 (l1 : Int) (G : gS) (Q : Int → gS → Prop) : Prop :=
  ((l1 = -1 → PX12_tellType_34 l1 0 20 G Q) ∧ (¬ (l1 = -1) → PX12_tellType_34 l1 0 21 G Q))
def PX12_tellType_0 (a1 : Int) (G : gS) (Q : Int → gS → Prop) : Prop :=
  ((a1 = -1 → PX12_tellType_16 a1 G Q) ∧ (¬ (a1 = -1) → ((a1 = -3 → PX12_tellType_16 a1 G Q) ∧ (¬ (a1 = -3) → (inL (lush a1 59) → (inI (l2i (lush a1 59)) → (inI (97 + (l2i (lush a1 59))) ∧ PX12_tellByte (97 + (l2i (lush a1 59))) G (fun _ G6 => PX12_tellByte 46 G6 (fun _ G8 => (inL (lush a1 54) → (inL (land (lush a1 54) 31) → (inI (l2i (land (lush a1 54) 31)) → (inI (65 + (l2i (land (lush a1 54) 31))) ∧ PX12_tellByte (65 + (l2i (land (lush a1 54) 31))) G8 (fun _ G14 => PX12_tellLetters a1 G14 (fun _ G16 => Q 0 G16)))))))))))))))
abbrev PX12_tellType (a1 : Int) (G : gS) (Q : Int → gS → Prop) : Prop := PX12_tellType_0 a1 G Q
def PX12_tellList_27 (J : Nat → List Int → gS → (Int → gS → Prop) → Prop) (l1 : Int) (l2 : Int) (l3 : Int) (l4 : Int) (s0 : Int) (s1 : Int) (G : gS) (Q : Int → gS → Prop) : Prop :=
  (isO W0 12 (s0) ∧ PX12_tellText s1 G (fun _ G8 => (isO W0 10 (l1) ∧ PX10_listedAt l1 l2 l4 G8 (fun r12 G11 => inL r12 → PX12_tellType r12 G11 (fun _ G14 => (inI (l4 + 1) ∧ J 0 [l1, l2, l3, l4 + 1] G14 Q))))))
def PX12_tellList_3 (J : Nat → List Int → gS → (Int → gS → Prop) → Prop) (l1 : Int) (l2 : Int) (l3 : Int) (l4 : Int) (G : gS) (Q : Int → gS → Prop) : Prop :=
  (isO W0 10 (l1) ∧ ((0 : Int) ≤ l2 ∧ ((l2 : Int) < 3 ∧ (inI (G (l1 + 2) l2) → ((l4 < G (l1 + 2) l2 → ((l4 = 0 → PX12_tellList_27 J l1 l2 l3 l4 0 l3 G Q) ∧ (¬ (l4 = 0) → PX12_tellList_27 J l1 l2 l3 l4 0 12 G Q))) ∧ (¬ (l4 < G (l1 + 2) l2) → Q 0 G))))))
def PX12_tellList_0 (J : Nat → List Int → gS → (Int → gS → Prop) → Prop) (a1 : Int) (a2 : Int) (a3 : Int) (G : gS) (Q : Int → gS → Prop) : Prop :=
  PX12_tellList_3 J a1 a2 a3 0 G Q
def PX12_tellList_J : Nat → Nat → List Int → gS → (Int → gS → Prop) → Prop
  | 0, _, _, _, _ => False
  | f + 1, h, L, G, Q => match h, L with
    | 0, [l1, l2, l3, l4] => PX12_tellList_3 (PX12_tellList_J f) l1 l2 l3 l4 G Q
    | _, _ => False
def PX12_tellList (a1 : Int) (a2 : Int) (a3 : Int) (G : gS) (Q : Int → gS → Prop) : Prop := ∃ f : Nat, f ≤ 4000000000 ∧ PX12_tellList_0 (PX12_tellList_J f) a1 a2 a3 G Q
def PX12_tellHead_137 (l1 : Int) (G : gS) (Q : Int → gS → Prop) : Prop :=
  PX12_tellList l1 1 7 G (fun _ G42 => PX12_tellList l1 2 8 G42 (fun _ G44 => Q 0 G44))
def PX12_tellHead_102 (l1 : Int) (G : gS) (Q : Int → gS → Prop) : Prop :=
  PX12_tellList l1 0 5 G (fun _ G32 => (isO W0 10 (l1) ∧ (inL (G32 l1 9) → ((G32 l1 9 = -4 → PX12_tellHead_137 l1 G32 Q) ∧ (¬ (G32 l1 9 = -4) → PX12_tellText 6 G32 (fun _ G37 => (inL (G37 l1 9) → PX12_tellType (G37 l1 9) G37 (fun _ G40 => PX12_tellHead_137 l1 G40 Q))))))))
def PX12_tellHead_69 (l1 : Int) (s0 : Int) (s1 : Int) (G : gS) (Q : Int → gS → Prop) : Prop :=
  (isO W0 12 (s0) ∧ PX12_tellText s1 G (fun _ G19 => (isO W0 10 (l1) ∧ (inL (G19 l1 1) → PX12_tellType (G19 l1 1) G19 (fun _ G23 => ((0 ≤ G23 l1 7 ∧ G23 l1 7 ≤ 1) → ((G23 l1 7 = 0 → PX12_tellHead_102 l1 G23 Q) ∧ (¬ (G23 l1 7 = 0) → PX12_tellText 4 G23 (fun _ G27 => (inL (G27 l1 8) → PX12_tellType (G27 l1 8) G27 (fun _ G30 => PX12_tellHead_102 l1 G30 Q)))))))))))
def PX12_tellHead_49 (l1 : Int) (s0 : Int) (s1 : Int) (G : gS) (Q : Int → gS → Prop) : Prop :=
  (isO W0 12 (s0) ∧ PX12_tellText s1 G (fun _ G13 => (isO W0 10 (l1) ∧ ((0 ≤ G13 l1 4 ∧ G13 l1 4 ≤ 1) → ((G13 l1 4 = 0 → PX12_tellHead_69 l1 0 9 G13 Q) ∧ (¬ (G13 l1 4 = 0) → PX12_tellHead_69 l1 0 3 G13 Q))))))
def PX12_tellHead_16 (l1 : Int) (s0 : Int) (s1 : Int) (G : gS) (Q : Int → gS → Prop) : Prop :=
  (isO W0 12 (s0) ∧ PX12_tellText s1 G (fun _ G5 => (isO W0 10 (l1) ∧ ((0 ≤ G5 l1 5 ∧ G5 l1 5 ≤ 1) → ((G5 l1 5 = 0 → ((0 ≤ G5 l1 6 ∧ G5 l1 6 ≤ 1) → ((G5 l1 6 = 0 → PX12_tellHead_49 l1 0 11 G5 Q) ∧ (¬ (G5 l1 6 = 0) → PX12_tellHead_49 l1 0 10 G5 Q)))) ∧ (¬ (G5 l1 5 = 0) → PX12_tellHead_49 l1 0 2 G5 Q))))))
def PX12_tellHead_0 (a1 : Int) (G : gS) (Q : Int → gS → Prop) : Prop :=
  (isO W0 10 (a1) ∧ ((0 ≤ G a1 3 ∧ G a1 3 ≤ 1) → ((G a1 3 = 0 → PX12_tellHead_16 a1 0 11 G Q) ∧ (¬ (G a1 3 = 0) → PX12_tellHead_16 a1 0 1 G Q))))
abbrev PX12_tellHead (a1 : Int) (G : gS) (Q : Int → gS → Prop) : Prop := PX12_tellHead_0 a1 G Q
def PX12_tellParams_31 (J : Nat → List Int → gS → (Int → gS → Prop) → Prop) (l1 : Int) (l2 : Int) (s0 : Int) (s1 : Int) (G : gS) (Q : Int → gS → Prop) : Prop :=
  (isO W0 12 (s0) ∧ PX12_tellText s1 G (fun _ G10 => (isO W0 7 (l1) ∧ ((0 : Int) ≤ l2 ∧ ((l2 : Int) < 4 ∧ (inL (G10 (l1 + 1) l2) → PX12_tellType (G10 (l1 + 1) l2) G10 (fun _ G16 => (inI (l2 + 1) ∧ J 0 [l1, l2 + 1] G16 Q))))))))
def PX12_tellParams_9 (J : Nat → List Int → gS → (Int → gS → Prop) → Prop) (l1 : Int) (l2 : Int) (G : gS) (Q : Int → gS → Prop) : Prop :=
  (isO W0 7 (l1) ∧ (inI (G l1 9) → ((l2 < G l1 9 → ((l2 = 0 → PX12_tellParams_31 J l1 l2 0 11 G Q) ∧ (¬ (l2 = 0) → PX12_tellParams_31 J l1 l2 0 12 G Q))) ∧ (¬ (l2 < G l1 9) → PX12_tellText 23 G (fun _ G7 => Q 0 G7)))))
def PX12_tellParams_0 (J : Nat → List Int → gS → (Int → gS → Prop) → Prop) (a1 : Int) (G : gS) (Q : Int → gS → Prop) : Prop :=
  PX12_tellText 22 G (fun _ G1 => PX12_tellParams_9 J a1 0 G1 Q)
def PX12_tellParams_J : Nat → Nat → List Int → gS → (Int → gS → Prop) → Prop
  | 0, _, _, _, _ => False
  | f + 1, h, L, G, Q => match h, L with
    | 0, [l1, l2] => PX12_tellParams_9 (PX12_tellParams_J f) l1 l2 G Q
    | _, _ => False
def PX12_tellParams (a1 : Int) (G : gS) (Q : Int → gS → Prop) : Prop := ∃ f : Nat, f ≤ 4000000000 ∧ PX12_tellParams_0 (PX12_tellParams_J f) a1 G Q
def PX12_tellMember_203 (l1 : Int) (G : gS) (Q : Int → gS → Prop) : Prop :=
  Q 0 G
def PX12_tellMember_117 (l1 : Int) (s0 : Int) (s1 : Int) (G : gS) (Q : Int → gS → Prop) : Prop :=
  (isO W0 12 (s0) ∧ PX12_tellText s1 G (fun _ G29 => (isO W0 7 (l1) ∧ (inI (G29 l1 0) → ((G29 l1 0 = 2 → PX12_tellText 15 G29 (fun _ G34 => PX12_tellParams l1 G34 (fun _ G36 => Q 0 G36))) ∧ (¬ (G29 l1 0 = 2) → (inL (G29 l1 8) → PX12_tellType (G29 l1 8) G29 (fun _ G39 => PX12_tellText 16 G39 (fun _ G41 => (inL (G41 l1 7) → PX12_tellName (G41 l1 7) G41 (fun _ G44 => (inI (G44 l1 0) → ((G44 l1 0 = 1 → PX12_tellParams l1 G44 (fun _ G48 => PX12_tellMember_203 l1 G48 Q)) ∧ (¬ (G44 l1 0 = 1) → ((0 ≤ G44 l1 15 ∧ G44 l1 15 ≤ 1) → ((G44 l1 15 = 0 → PX12_tellMember_203 l1 G44 Q) ∧ (¬ (G44 l1 15 = 0) → PX12_tellText 17 G44 (fun _ G52 => (inI (G52 l1 16) → PX12_tellNumber (G52 l1 16) G52 (fun _ G55 => PX12_tellMember_203 l1 G55 Q))))))))))))))))))))
def PX12_tellMember_84 (l1 : Int) (s0 : Int) (s1 : Int) (G : gS) (Q : Int → gS → Prop) : Prop :=
  (isO W0 12 (s0) ∧ PX12_tellText s1 G (fun _ G21 => (isO W0 7 (l1) ∧ ((0 ≤ G21 l1 3 ∧ G21 l1 3 ≤ 1) → ((G21 l1 3 = 0 → ((0 ≤ G21 l1 4 ∧ G21 l1 4 ≤ 1) → ((G21 l1 4 = 0 → PX12_tellMember_117 l1 0 11 G21 Q) ∧ (¬ (G21 l1 4 = 0) → PX12_tellMember_117 l1 0 10 G21 Q)))) ∧ (¬ (G21 l1 3 = 0) → PX12_tellMember_117 l1 0 2 G21 Q))))))
def PX12_tellMember_64 (l1 : Int) (s0 : Int) (s1 : Int) (G : gS) (Q : Int → gS → Prop) : Prop :=
  (isO W0 12 (s0) ∧ PX12_tellText s1 G (fun _ G15 => (isO W0 7 (l1) ∧ ((0 ≤ G15 l1 2 ∧ G15 l1 2 ≤ 1) → ((G15 l1 2 = 0 → PX12_tellMember_84 l1 0 11 G15 Q) ∧ (¬ (G15 l1 2 = 0) → PX12_tellMember_84 l1 0 14 G15 Q))))))
def PX12_tellMember_17 (l1 : Int) (s0 : Int) (s1 : Int) (G : gS) (Q : Int → gS → Prop) : Prop :=
  (isO W0 12 (s0) ∧ PX12_tellText s1 G (fun _ G5 => (isO W0 7 (l1) ∧ (inI (G5 l1 1) → ((G5 l1 1 = 3 → PX12_tellMember_64 l1 0 1 G5 Q) ∧ (¬ (G5 l1 1 = 3) → (inI (G5 l1 1) → ((G5 l1 1 = 2 → PX12_tellMember_64 l1 0 18 G5 Q) ∧ (¬ (G5 l1 1 = 2) → (inI (G5 l1 1) → ((G5 l1 1 = 0 → PX12_tellMember_64 l1 0 19 G5 Q) ∧ (¬ (G5 l1 1 = 0) → PX12_tellMember_64 l1 0 11 G5 Q))))))))))))
def PX12_tellMember_0 (a1 : Int) (G : gS) (Q : Int → gS → Prop) : Prop :=
  (isO W0 7 (a1) ∧ ((0 ≤ G a1 5 ∧ G a1 5 ≤ 1) → ((G a1 5 = 0 → PX12_tellMember_17 a1 0 11 G Q) ∧ (¬ (G a1 5 = 0) → PX12_tellMember_17 a1 0 13 G Q))))
abbrev PX12_tellMember (a1 : Int) (G : gS) (Q : Int → gS → Prop) : Prop := PX12_tellMember_0 a1 G Q
def PX12_shape_71 (l1 : Int) (l2 : Int) (l3 : Int) (l4 : Int) (l5 : Int) (G : gS) (Q : Int → gS → Prop) : Prop :=
  (inI (G 0 3) → Q (G 0 3) G)
def PX12_shape_38 (l1 : Int) (l2 : Int) (l3 : Int) (l4 : Int) (l5 : Int) (G : gS) (Q : Int → gS → Prop) : Prop :=
  (∀ G10 : gS, G10 = uG G 0 3 (0) → ((l4 = -2 → PX12_tellHead l5 G10 (fun _ G12 => PX12_shape_71 l1 l2 l3 l4 l5 G12 Q)) ∧ (¬ (l4 = -2) → (isO W0 10 (l5) ∧ ((0 : Int) ≤ l4 ∧ ((l4 : Int) < 33 ∧ (((G10 (l5 + 4) l4 = -1 ∨ isO W0 7 (G10 (l5 + 4) l4)) ∧ ∀ v, W0.2 (l5 + 4) l4 = some v → G10 (l5 + 4) l4 = v) → PX12_tellMember (G10 (l5 + 4) l4) G10 (fun _ G18 => PX12_shape_71 l1 l2 l3 l4 l5 G18 Q))))))))
def PX12_shape_36 (l1 : Int) (l2 : Int) (l3 : Int) (l4 : Int) (l5 : Int) (G : gS) (Q : Int → gS → Prop) : Prop :=
  Q (-1) G
def PX12_shape_0 (a1 : Int) (a2 : Int) (a3 : Int) (a4 : Int) (G : gS) (Q : Int → gS → Prop) : Prop :=
  PX12_rowOf a1 a2 a3 G (fun r2 G1 => ((r2 < 0 → PX12_shape_36 a1 a2 a3 a4 r2 G1 Q) ∧ (0 ≤ r2 → ((a4 = -2 → PX12_shape_38 a1 a2 a3 a4 r2 G1 Q) ∧ (¬ (a4 = -2) → ((a4 < 0 → PX12_shape_36 a1 a2 a3 a4 r2 G1 Q) ∧ (¬ (a4 < 0) → (isO W0 10 (r2) ∧ (inI (G1 r2 15) → ((a4 < G1 r2 15 → PX12_shape_38 a1 a2 a3 a4 r2 G1 Q) ∧ (¬ (a4 < G1 r2 15) → PX12_shape_36 a1 a2 a3 a4 r2 G1 Q)))))))))))
abbrev PX12_shape (a1 : Int) (a2 : Int) (a3 : Int) (a4 : Int) (G : gS) (Q : Int → gS → Prop) : Prop := PX12_shape_0 a1 a2 a3 a4 G Q
def PX12_tellUsed_64 (l1 : Int) (l3 : Int) (G : gS) (Q : Int → gS → Prop) : Prop :=
  (isO W0 7 (l3) ∧ (inL (G l3 8) → PX12_tellType (G l3 8) G (fun _ G23 => Q 0 G23)))
def PX12_tellUsed_0 (a1 : Int) (a3 : Int) (G : gS) (Q : Int → gS → Prop) : Prop :=
  PX12_tellType a1 G (fun _ G1 => PX12_tellText 24 G1 (fun _ G3 => (isO W0 7 (a3) ∧ (inI (G3 a3 0) → ((G3 a3 0 = 2 → PX12_tellText 15 G3 (fun _ G8 => PX12_tellParams a3 G8 (fun _ G10 => Q 0 G10))) ∧ (¬ (G3 a3 0 = 2) → (inL (G3 a3 7) → PX12_tellName (G3 a3 7) G3 (fun _ G13 => (inI (G13 a3 0) → ((G13 a3 0 = 1 → PX12_tellParams a3 G13 (fun _ G17 => PX12_tellUsed_64 a1 a3 G17 Q)) ∧ (¬ (G13 a3 0 = 1) → PX12_tellText 25 G13 (fun _ G19 => PX12_tellUsed_64 a1 a3 G19 Q))))))))))))
abbrev PX12_tellUsed (a1 : Int) (a3 : Int) (G : gS) (Q : Int → gS → Prop) : Prop := PX12_tellUsed_0 a1 a3 G Q
def PX12_tell_173 (l1 : Int) (l2 : Int) (l3 : Int) (l4 : Int) (l5 : Int) (l6 : Int) (G : gS) (Q : Int → gS → Prop) : Prop :=
  (inI (G 0 3) → Q (G 0 3) G)
def PX12_tell_116 (l1 : Int) (l2 : Int) (l3 : Int) (l4 : Int) (l5 : Int) (l6 : Int) (G : gS) (Q : Int → gS → Prop) : Prop :=
  ((l6 < 0 → (isO W0 1 (l4) ∧ (((G l4 12 = -1 ∨ ∃ n, isA W0 1 n (G l4 12)) ∧ ∀ v, W0.2 l4 12 = some v → G l4 12 = v) → (∃ n55, isA W0 1 n55 (G l4 12) ∧ ((0 : Int) ≤ l3 ∧ ((l3 : Int) < n55 ∧ (inL (G (G l4 12) l3) → PX12_tellType (G (G l4 12) l3) G (fun _ G60 => ((l5 = 17 → PX12_tellText 26 G60 (fun _ G63 => (((G63 l4 14 = -1 ∨ ∃ n, isA W0 1 n (G63 l4 14)) ∧ ∀ v, W0.2 l4 14 = some v → G63 l4 14 = v) → (∃ n66, isA W0 1 n66 (G63 l4 14) ∧ ((0 : Int) ≤ l3 ∧ ((l3 : Int) < n66 ∧ (inL (G63 (G63 l4 14) l3) → PX12_tellType (G63 (G63 l4 14) l3) G63 (fun _ G71 => PX12_tell_173 l1 l2 l3 l4 l5 l6 G71 Q)))))))) ∧ (¬ (l5 = 17) → PX12_tell_173 l1 l2 l3 l4 l5 l6 G60 Q)))))))))) ∧ (0 ≤ l6 → (isO W0 1 (l4) ∧ (((G l4 12 = -1 ∨ ∃ n, isA W0 1 n (G l4 12)) ∧ ∀ v, W0.2 l4 12 = some v → G l4 12 = v) → (∃ n75, isA W0 1 n75 (G l4 12) ∧ ((0 : Int) ≤ l3 ∧ ((l3 : Int) < n75 ∧ (inL (G (G l4 12) l3) → PX12_tellUsed (G (G l4 12) l3) l6 G (fun _ G80 => PX12_tell_173 l1 l2 l3 l4 l5 l6 G80 Q)))))))))
def PX12_tell_0 (a1 : Int) (a2 : Int) (a3 : Int) (G : gS) (Q : Int → gS → Prop) : Prop :=
  PX12_buildOf a1 a2 G (fun r2 G1 => PX12_hasUse r2 a3 G1 (fun r5 G4 => (0 ≤ r5 ∧ r5 ≤ 1) → ((r5 = 0 → Q (-1) G4) ∧ (¬ (r5 = 0) → (∀ G8 : gS, G8 = uG G4 0 3 (0) → (isO W0 1 (r2) ∧ (((G8 r2 10 = -1 ∨ ∃ n, isA W0 0 n (G8 r2 10)) ∧ ∀ v, W0.2 r2 10 = some v → G8 r2 10 = v) → (∃ n11, isA W0 0 n11 (G8 r2 10) ∧ ((0 : Int) ≤ a3 ∧ ((a3 : Int) < n11 ∧ (inI (G8 (G8 r2 10) a3) → (((G8 r2 13 = -1 ∨ ∃ n, isA W0 5 n (G8 r2 13)) ∧ ∀ v, W0.2 r2 13 = some v → G8 r2 13 = v) → (∃ n17, isA W0 5 n17 (G8 r2 13) ∧ ((0 : Int) ≤ a3 ∧ ((a3 : Int) < n17 ∧ (((G8 (G8 r2 13) a3 = -1 ∨ isO W0 7 (G8 (G8 r2 13) a3)) ∧ ∀ v, W0.2 (G8 r2 13) a3 = some v → G8 (G8 r2 13) a3 = v) → PX12_tellNumber (G8 (G8 r2 10) a3) G8 (fun _ G22 => PX12_tellText 16 G22 (fun _ G24 => ((G8 (G8 r2 10) a3 = 16 → ((G8 (G8 r2 13) a3 < 0 → PX12_tell_116 a1 a2 a3 r2 (G8 (G8 r2 10) a3) (G8 (G8 r2 13) a3) G24 Q) ∧ (0 ≤ G8 (G8 r2 13) a3 → (((G24 r2 12 = -1 ∨ ∃ n, isA W0 1 n (G24 r2 12)) ∧ ∀ v, W0.2 r2 12 = some v → G24 r2 12 = v) → (∃ n29, isA W0 1 n29 (G24 r2 12) ∧ ((0 : Int) ≤ a3 ∧ ((a3 : Int) < n29 ∧ (inL (G24 (G24 r2 12) a3) → PX12_tellType (G24 (G24 r2 12) a3) G24 (fun _ G34 => PX12_tellText 24 G34 (fun _ G36 => (isO W0 7 (G8 (G8 r2 13) a3) ∧ (inL (G36 (G8 (G8 r2 13) a3) 7) → PX12_tellName (G36 (G8 (G8 r2 13) a3) 7) G36 (fun _ G40 => PX12_tellText 17 G40 (fun _ G42 => (((G42 r2 14 = -1 ∨ ∃ n, isA W0 1 n (G42 r2 14)) ∧ ∀ v, W0.2 r2 14 = some v → G42 r2 14 = v) → (∃ n45, isA W0 1 n45 (G42 r2 14) ∧ ((0 : Int) ≤ a3 ∧ ((a3 : Int) < n45 ∧ (inL (G42 (G42 r2 14) a3) → PX12_tellNumber (G42 (G42 r2 14) a3) G42 (fun _ G50 => PX12_tell_173 a1 a2 a3 r2 (G8 (G8 r2 10) a3) (G8 (G8 r2 13) a3) G50 Q)))))))))))))))))))) ∧ (¬ (G8 (G8 r2 10) a3 = 16) → PX12_tell_116 a1 a2 a3 r2 (G8 (G8 r2 10) a3) (G8 (G8 r2 13) a3) G24 Q))))))))))))))))))))
abbrev PX12_tell (a1 : Int) (a2 : Int) (a3 : Int) (G : gS) (Q : Int → gS → Prop) : Prop := PX12_tell_0 a1 a2 a3 G Q
def PX12_met_33  (G : gS) (Q : Int → gS → Prop) : Prop :=
  (inI (G 0 3) → Q (G 0 3) G)
def PX12_met_0  (G : gS) (Q : Int → gS → Prop) : Prop :=
  (∀ G1 : gS, G1 = uG G 0 3 (0) → (isO W0 5 (907) ∧ ((G1 907 11 = -1 ∨ isO W0 7 (G1 907 11)) → ((G1 907 11 < 0 → PX12_met_33  G1 Q) ∧ (0 ≤ G1 907 11 → (isO W0 5 (907) ∧ (inL (G1 907 13) → (isO W0 5 (907) ∧ ((G1 907 11 = -1 ∨ isO W0 7 (G1 907 11)) → PX12_tellUsed (G1 907 13) (G1 907 11) G1 (fun _ G9 => PX12_met_33  G9 Q))))))))))
abbrev PX12_met  (G : gS) (Q : Int → gS → Prop) : Prop := PX12_met_0  G Q
def PX12_countBroken_217 (J : Nat → List Int → gS → (Int → gS → Prop) → Prop) (l1 : Int) (l2 : Int) (l3 : Int) (l4 : Int) (l5 : Int) (l6 : Int) (l7 : Int) (G : gS) (Q : Int → gS → Prop) : Prop :=
  (inI (l5 + 1) ∧ J 0 [l1, l2, l3, l4, l5 + 1] G Q)
def PX12_countBroken_211 (J : Nat → List Int → gS → (Int → gS → Prop) → Prop) (l1 : Int) (l2 : Int) (l3 : Int) (l4 : Int) (l5 : Int) (l6 : Int) (l7 : Int) (l8 : Int) (l9 : Int) (l10 : Int) (l11 : Int) (G : gS) (Q : Int → gS → Prop) : Prop :=
  (inI (l7 + 1) ∧ J 1 [l1, l2, l3, l4, l5, l6, l7 + 1] G Q)
def PX12_countBroken_205 (J : Nat → List Int → gS → (Int → gS → Prop) → Prop) (l1 : Int) (l2 : Int) (l3 : Int) (l4 : Int) (l5 : Int) (l6 : Int) (l7 : Int) (l8 : Int) (l9 : Int) (l10 : Int) (l11 : Int) (l12 : Int) (G : gS) (Q : Int → gS → Prop) : Prop :=
  (inI (l11 + 1) ∧ J 2 [l1, l2, l3, l4, l5, l6, l7, l8, l9, l10, l11 + 1] G Q)
def PX12_countBroken_163 (J : Nat → List Int → gS → (Int → gS → Prop) → Prop) (l1 : Int) (l2 : Int) (l3 : Int) (l4 : Int) (l5 : Int) (l6 : Int) (l7 : Int) (l8 : Int) (l9 : Int) (l10 : Int) (l11 : Int) (s0 : Int) (G : gS) (Q : Int → gS → Prop) : Prop :=
  (isO W0 5 (920) ∧ PX5_undo 920 l10 G (fun _ G63 => ((s0 = 0 → PX12_countBroken_205 J l1 l2 l3 l4 l5 l6 l7 l8 l9 l10 l11 s0 G63 Q) ∧ (¬ (s0 = 0) → (inI (l4 + 1) ∧ ((l3 = 0 → Q (l4 + 1) G63) ∧ (¬ (l3 = 0) → (isO W0 10 (l8) ∧ (inI (G63 l8 16) → (inI ((G63 l8 16) + l11) ∧ PX12_list l5 ((G63 l8 16) + l11) s0 G63 (fun _ G71 => PX12_countBroken_205 J l1 l2 l3 (l4 + 1) l5 l6 l7 l8 l9 l10 l11 s0 G71 Q)))))))))))
def PX12_countBroken_102 (J : Nat → List Int → gS → (Int → gS → Prop) → Prop) (l1 : Int) (l2 : Int) (l3 : Int) (l4 : Int) (l5 : Int) (l6 : Int) (l7 : Int) (l8 : Int) (l9 : Int) (l10 : Int) (l11 : Int) (G : gS) (Q : Int → gS → Prop) : Prop :=
  (isO W0 10 (l8) ∧ (inI (G l8 17) → ((l11 < G l8 17 → ((l9 < 0 → PX12_countBroken_211 J l1 l2 l3 l4 l5 l6 l7 l8 l9 l10 l11 G Q) ∧ (¬ (l9 < 0) → (isO W0 11 (l1) ∧ ((0 : Int) ≤ l9 ∧ ((l9 : Int) < 64 ∧ (((G (l1 + 1) l9 = -1 ∨ isO W0 10 (G (l1 + 1) l9)) ∧ ∀ v, W0.2 (l1 + 1) l9 = some v → G (l1 + 1) l9 = v) → ((-1 : Int) ≤ G (l1 + 1) l9 ∧ ((-1 : Int) ≤ l8 ∧ ((G (l1 + 1) l9 = l8 → (isO W0 1 (l6) ∧ (((G l6 10 = -1 ∨ ∃ n, isA W0 0 n (G l6 10)) ∧ ∀ v, W0.2 l6 10 = some v → G l6 10 = v) → (inI (G l8 16) → (∃ n51, isA W0 0 n51 (G l6 10) ∧ ((0 : Int) ≤ (G l8 16) + l11 ∧ (((G l8 16) + l11 : Int) < n51 ∧ (inI (G (G l6 10) ((G l8 16) + l11)) → ((G (G l6 10) ((G l8 16) + l11) = 16 → PX12_countBroken_163 J l1 l2 l3 l4 l5 l6 l7 l8 l9 l10 l11 0 G Q) ∧ (¬ (G (G l6 10) ((G l8 16) + l11) = 16) → (isO W0 5 (920) ∧ PX5_ask 920 l9 l11 G (fun r59 G58 => inI r59 → PX12_countBroken_163 J l1 l2 l3 l4 l5 l6 l7 l8 l9 l10 l11 r59 G58 Q)))))))))))) ∧ (¬ (G (l1 + 1) l9 = l8) → PX12_countBroken_211 J l1 l2 l3 l4 l5 l6 l7 l8 l9 l10 l11 G Q))))))))))) ∧ (¬ (l11 < G l8 17) → PX12_countBroken_211 J l1 l2 l3 l4 l5 l6 l7 l8 l9 l10 l11 G Q))))
def PX12_countBroken_86 (J : Nat → List Int → gS → (Int → gS → Prop) → Prop) (l1 : Int) (l2 : Int) (l3 : Int) (l4 : Int) (l5 : Int) (l6 : Int) (l7 : Int) (l8 : Int) (l9 : Int) (s0 : Int) (s1 : Int) (G : gS) (Q : Int → gS → Prop) : Prop :=
  (isO W0 5 (s0) ∧ PX5_load s0 s1 G (fun r33 G32 => inI r33 → (isO W0 5 (920) ∧ (inI (G32 920 6) → PX12_countBroken_102 J l1 l2 l3 l4 l5 l6 l7 l8 l9 (G32 920 6) 0 G32 Q))))
def PX12_countBroken_27 (J : Nat → List Int → gS → (Int → gS → Prop) → Prop) (l1 : Int) (l2 : Int) (l3 : Int) (l4 : Int) (l5 : Int) (l6 : Int) (l7 : Int) (G : gS) (Q : Int → gS → Prop) : Prop :=
  ((l6 < 0 → PX12_countBroken_217 J l1 l2 l3 l4 l5 l6 l7 G Q) ∧ (0 ≤ l6 → (isO W0 1 (l6) ∧ (inI (G l6 3) → ((l7 < G l6 3 → (((G l6 2 = -1 ∨ ∃ n, isA W0 4 n (G l6 2)) ∧ ∀ v, W0.2 l6 2 = some v → G l6 2 = v) → (∃ n15, isA W0 4 n15 (G l6 2) ∧ ((0 : Int) ≤ l7 ∧ ((l7 : Int) < n15 ∧ (((G (G l6 2) l7 = -1 ∨ isO W0 10 (G (G l6 2) l7)) ∧ ∀ v, W0.2 (G l6 2) l7 = some v → G (G l6 2) l7 = v) → (isO W0 10 (G (G l6 2) l7) ∧ (inL (G (G (G l6 2) l7) 1) → (isO W0 11 (l1) ∧ PX11_find l1 (G (G (G l6 2) l7) 1) G (fun r24 G23 => inI r24 → (isO W0 5 (920) ∧ PX5_clear 920 l1 G23 (fun _ G27 => ((r24 < 0 → PX12_countBroken_86 J l1 l2 l3 l4 l5 l6 l7 (G (G l6 2) l7) r24 920 0 G27 Q) ∧ (¬ (r24 < 0) → PX12_countBroken_86 J l1 l2 l3 l4 l5 l6 l7 (G (G l6 2) l7) r24 920 r24 G27 Q)))))))))))))) ∧ (¬ (l7 < G l6 3) → PX12_countBroken_217 J l1 l2 l3 l4 l5 l6 l7 G Q))))))
def PX12_countBroken_6 (J : Nat → List Int → gS → (Int → gS → Prop) → Prop) (l1 : Int) (l2 : Int) (l3 : Int) (l4 : Int) (l5 : Int) (G : gS) (Q : Int → gS → Prop) : Prop :=
  ((l5 < 5 → (∃ n2, isA W0 0 n2 (l2) ∧ ((0 : Int) ≤ l5 ∧ ((l5 : Int) < n2 ∧ (inI (G l2 l5) → PX12_buildOf l5 (G l2 l5) G (fun r8 G7 => PX12_countBroken_27 J l1 l2 l3 l4 l5 r8 0 G7 Q)))))) ∧ (¬ (l5 < 5) → Q (l4) G))
def PX12_countBroken_0 (J : Nat → List Int → gS → (Int → gS → Prop) → Prop) (a1 : Int) (a2 : Int) (a3 : Int) (G : gS) (Q : Int → gS → Prop) : Prop :=
  PX12_countBroken_6 J a1 a2 a3 0 0 G Q
def PX12_countBroken_J : Nat → Nat → List Int → gS → (Int → gS → Prop) → Prop
  | 0, _, _, _, _ => False
  | f + 1, h, L, G, Q => match h, L with
    | 0, [l1, l2, l3, l4, l5] => PX12_countBroken_6 (PX12_countBroken_J f) l1 l2 l3 l4 l5 G Q
    | 1, [l1, l2, l3, l4, l5, l6, l7] => PX12_countBroken_27 (PX12_countBroken_J f) l1 l2 l3 l4 l5 l6 l7 G Q
    | 2, [l1, l2, l3, l4, l5, l6, l7, l8, l9, l10, l11] => PX12_countBroken_102 (PX12_countBroken_J f) l1 l2 l3 l4 l5 l6 l7 l8 l9 l10 l11 G Q
    | _, _ => False
def PX12_countBroken (a1 : Int) (a2 : Int) (a3 : Int) (G : gS) (Q : Int → gS → Prop) : Prop := ∃ f : Nat, f ≤ 4000000000 ∧ PX12_countBroken_0 (PX12_countBroken_J f) a1 a2 a3 G Q
def PX12_broken_0  (G : gS) (Q : Int → gS → Prop) : Prop :=
  (∀ G1 : gS, G1 = uG G 0 18 (0) → PX12_countBroken 821 5 1 G1 (fun r3 G2 => inI r3 → Q (r3) G2))
abbrev PX12_broken  (G : gS) (Q : Int → gS → Prop) : Prop := PX12_broken_0  G Q
def PX12_choose_41 (J : Nat → List Int → gS → (Int → gS → Prop) → Prop) (l1 : Int) (l2 : Int) (G : gS) (Q : Int → gS → Prop) : Prop :=
  ((l1 < l2 → Q (-2) G) ∧ (¬ (l1 < l2) → PX12_gather 864 6 G (fun _ G14 => PX12_countBroken 864 6 0 G14 (fun r17 G16 => inI r17 → ((r17 = 0 → ((0 : Int) ≤ 0 ∧ ((0 + 5 : Int) ≤ 5 ∧ ((0 : Int) ≤ 0 ∧ ((0 + 5 : Int) ≤ 5 ∧ ((0 : Int) ≤ 5 ∧ (∀ G25 : gS, G25 = cpG G16 6 0 5 0 5 → PX12_renewWorld G25 (fun _ G26 => Q (l2) G26)))))))) ∧ (¬ (r17 = 0) → PX12_lowerTrial G16 (fun _ G28 => (inI (l2 + 1) ∧ J 1 [l1, l2 + 1] G28 Q))))))))
def PX12_choose_4 (J : Nat → List Int → gS → (Int → gS → Prop) → Prop) (l1 : Int) (l2 : Int) (G : gS) (Q : Int → gS → Prop) : Prop :=
  ((l2 < 5 → PX12_greatest l2 G (fun r3 G2 => inI r3 → ((0 : Int) ≤ l2 ∧ ((l2 : Int) < 5 ∧ (∀ G7 : gS, G7 = uG G2 6 l2 (r3) → ((0 : Int) ≤ l2 ∧ ((l2 : Int) < 5 ∧ (inI (G7 4 l2) → (inI (l1 * ((if G7 4 l2 < 1 then 1 else G7 4 l2))) ∧ (inI (l2 + 1) ∧ J 0 [l1 * ((if G7 4 l2 < 1 then 1 else G7 4 l2)), l2 + 1] G7 Q)))))))))) ∧ (¬ (l2 < 5) → PX12_choose_41 J l1 1 G Q))
def PX12_choose_0 (J : Nat → List Int → gS → (Int → gS → Prop) → Prop)  (G : gS) (Q : Int → gS → Prop) : Prop :=
  PX12_choose_4 J 1 0 G Q
def PX12_choose_J : Nat → Nat → List Int → gS → (Int → gS → Prop) → Prop
  | 0, _, _, _, _ => False
  | f + 1, h, L, G, Q => match h, L with
    | 0, [l1, l2] => PX12_choose_4 (PX12_choose_J f) l1 l2 G Q
    | 1, [l1, l2] => PX12_choose_41 (PX12_choose_J f) l1 l2 G Q
    | _, _ => False
def PX12_choose  (G : gS) (Q : Int → gS → Prop) : Prop := ∃ f : Nat, f ≤ 4000000000 ∧ PX12_choose_0 (PX12_choose_J f)  G Q
def PX12_weave_330 (J : Nat → List Int → gS → (Int → gS → Prop) → Prop) (l1 : Int) (l2 : Int) (l3 : Int) (l4 : Int) (l5 : Int) (l6 : Int) (l7 : Int) (l8 : Int) (l9 : Int) (s0 : Int) (G : gS) (Q : Int → gS → Prop) : Prop :=
  Q (s0) G
def PX12_weave_318 (J : Nat → List Int → gS → (Int → gS → Prop) → Prop) (l1 : Int) (l2 : Int) (l3 : Int) (l4 : Int) (l5 : Int) (l6 : Int) (l7 : Int) (l8 : Int) (l9 : Int) (G : gS) (Q : Int → gS → Prop) : Prop :=
  ((l7 = 0 → PX12_weave_330 J l1 l2 l3 l4 l5 l6 l7 l8 l9 (-2) G Q) ∧ (¬ (l7 = 0) → PX12_weave_330 J l1 l2 l3 l4 l5 l6 l7 l8 l9 (-3) G Q))
def PX12_weave_302 (J : Nat → List Int → gS → (Int → gS → Prop) → Prop) (l1 : Int) (l2 : Int) (l3 : Int) (l4 : Int) (l5 : Int) (l6 : Int) (l7 : Int) (l8 : Int) (l9 : Int) (l10 : Int) (l11 : Int) (l12 : Int) (G : gS) (Q : Int → gS → Prop) : Prop :=
  (inI (l9 + 1) ∧ J 0 [l1, l2, l3, l4, l5, l6, l7, l8, l9 + 1] G Q)
def PX12_weave_296 (J : Nat → List Int → gS → (Int → gS → Prop) → Prop) (l1 : Int) (l2 : Int) (l3 : Int) (l4 : Int) (l5 : Int) (l6 : Int) (l7 : Int) (l8 : Int) (l9 : Int) (l10 : Int) (l11 : Int) (l12 : Int) (l13 : Int) (l14 : Int) (G : gS) (Q : Int → gS → Prop) : Prop :=
  (inI (l12 + 1) ∧ J 1 [l1, l2, l3, l4, l5, l6, l7, l8, l9, l10, l11, l12 + 1] G Q)
def PX12_weave_265 (J : Nat → List Int → gS → (Int → gS → Prop) → Prop) (l1 : Int) (l2 : Int) (l3 : Int) (l4 : Int) (l5 : Int) (l6 : Int) (l7 : Int) (l8 : Int) (l9 : Int) (l10 : Int) (l11 : Int) (l12 : Int) (l13 : Int) (l14 : Int) (s0 : Int) (s1 : Int) (G : gS) (Q : Int → gS → Prop) : Prop :=
  (inI (ior s0 s1) → ((ior s0 s1 = 0 → (isO W0 7 (l13) ∧ (inL (G l13 8) → PX4_addBridge l6 l10 l14 (G l13 8) G (fun r150 G149 => PX3_addWoven r150 l14 G149 (fun _ G152 => PX12_weave_296 J l1 l2 l3 l4 l5 l6 l7 (ior s0 s1) l9 l10 l11 l12 l13 l14 G152 Q))))) ∧ (¬ (ior s0 s1 = 0) → PX12_weave_296 J l1 l2 l3 l4 l5 l6 l7 (ior s0 s1) l9 l10 l11 l12 l13 l14 G Q)))
def PX12_weave_238 (J : Nat → List Int → gS → (Int → gS → Prop) → Prop) (l1 : Int) (l2 : Int) (l3 : Int) (l4 : Int) (l5 : Int) (l6 : Int) (l7 : Int) (l8 : Int) (l9 : Int) (l10 : Int) (l11 : Int) (l12 : Int) (l13 : Int) (s0 : Int) (G : gS) (Q : Int → gS → Prop) : Prop :=
  ((s0 < 0 → PX12_weave_296 J l1 l2 l3 l4 l5 l6 l7 l8 l9 l10 l11 l12 l13 s0 G Q) ∧ (0 ≤ s0 → (inI (l7 + 1) ∧ (isO W0 10 (l10) ∧ PX10_bridges l10 G (fun r141 G140 => inI r141 → ((r141 < 12 → PX12_weave_265 J l1 l2 l3 l4 l5 l6 (l7 + 1) l8 l9 l10 l11 l12 l13 s0 l8 0 G140 Q) ∧ (¬ (r141 < 12) → PX12_weave_265 J l1 l2 l3 l4 l5 l6 (l7 + 1) l8 l9 l10 l11 l12 l13 s0 l8 1 G140 Q)))))))
def PX12_weave_237 (J : Nat → List Int → gS → (Int → gS → Prop) → Prop) (l1 : Int) (l2 : Int) (l3 : Int) (l4 : Int) (l5 : Int) (l6 : Int) (l7 : Int) (l8 : Int) (l9 : Int) (l10 : Int) (l11 : Int) (l12 : Int) (l13 : Int) (G : gS) (Q : Int → gS → Prop) : Prop :=
  PX12_weave_238 J l1 l2 l3 l4 l5 l6 l7 l8 l9 l10 l11 l12 l13 (-1) G Q
def PX12_weave_163 (J : Nat → List Int → gS → (Int → gS → Prop) → Prop) (l1 : Int) (l2 : Int) (l3 : Int) (l4 : Int) (l5 : Int) (l6 : Int) (l7 : Int) (l8 : Int) (l9 : Int) (l10 : Int) (l11 : Int) (l12 : Int) (G : gS) (Q : Int → gS → Prop) : Prop :=
  ((l11 < 0 → PX12_weave_302 J l1 l2 l3 l4 l5 l6 l7 l8 l9 l10 l11 l12 G Q) ∧ (0 ≤ l11 → (isO W0 10 (l11) ∧ ((0 ≤ G l11 4 ∧ G l11 4 ≤ 1) → (isO W0 10 (l10) ∧ ((0 ≤ G l10 4 ∧ G l10 4 ≤ 1) → ((G l11 4 = G l10 4 → (inI (G l11 15) → ((l12 < G l11 15 → ((0 : Int) ≤ l12 ∧ ((l12 : Int) < 33 ∧ (((G (l11 + 4) l12 = -1 ∨ isO W0 7 (G (l11 + 4) l12)) ∧ ∀ v, W0.2 (l11 + 4) l12 = some v → G (l11 + 4) l12 = v) → (isO W0 7 (G (l11 + 4) l12) ∧ (inI (G (G (l11 + 4) l12) 0) → ((G (G (l11 + 4) l12) 0 = 1 → ((0 ≤ G (G (l11 + 4) l12) 5 ∧ G (G (l11 + 4) l12) 5 ≤ 1) → ((G (G (l11 + 4) l12) 5 = 0 → (inI (G (G (l11 + 4) l12) 1) → ((G (G (l11 + 4) l12) 1 = 0 → PX12_weave_237 J l1 l2 l3 l4 l5 l6 l7 l8 l9 l10 l11 l12 (G (l11 + 4) l12) G Q) ∧ (¬ (G (G (l11 + 4) l12) 1 = 0) → PX12_healing l10 (G (l11 + 4) l12) G (fun r133 G132 => PX12_weave_238 J l1 l2 l3 l4 l5 l6 l7 l8 l9 l10 l11 l12 (G (l11 + 4) l12) r133 G132 Q))))) ∧ (¬ (G (G (l11 + 4) l12) 5 = 0) → PX12_weave_237 J l1 l2 l3 l4 l5 l6 l7 l8 l9 l10 l11 l12 (G (l11 + 4) l12) G Q)))) ∧ (¬ (G (G (l11 + 4) l12) 0 = 1) → PX12_weave_237 J l1 l2 l3 l4 l5 l6 l7 l8 l9 l10 l11 l12 (G (l11 + 4) l12) G Q)))))))) ∧ (¬ (l12 < G l11 15) → PX12_weave_302 J l1 l2 l3 l4 l5 l6 l7 l8 l9 l10 l11 l12 G Q)))) ∧ (¬ (G l11 4 = G l10 4) → PX12_weave_302 J l1 l2 l3 l4 l5 l6 l7 l8 l9 l10 l11 l12 G Q))))))))
def PX12_weave_115 (J : Nat → List Int → gS → (Int → gS → Prop) → Prop) (l1 : Int) (l2 : Int) (l3 : Int) (l4 : Int) (l5 : Int) (l6 : Int) (l7 : Int) (l8 : Int) (l9 : Int) (G : gS) (Q : Int → gS → Prop) : Prop :=
  (isO W0 1 (l5) ∧ (inI (G l5 3) → ((l9 < G l5 3 → PX3_copyRow l6 l5 l9 G (fun _ G48 => (isO W0 1 (l6) ∧ (((G48 l6 2 = -1 ∨ ∃ n, isA W0 4 n (G48 l6 2)) ∧ ∀ v, W0.2 l6 2 = some v → G48 l6 2 = v) → (∃ n52, isA W0 4 n52 (G48 l6 2) ∧ ((0 : Int) ≤ l9 ∧ ((l9 : Int) < n52 ∧ (((G48 (G48 l6 2) l9 = -1 ∨ isO W0 10 (G48 (G48 l6 2) l9)) ∧ ∀ v, W0.2 (G48 l6 2) l9 = some v → G48 (G48 l6 2) l9 = v) → (isO W0 10 (G48 (G48 l6 2) l9) ∧ (inL (G48 (G48 (G48 l6 2) l9) 1) → (isO W0 1 (l4) ∧ PX1_named l4 (G48 (G48 (G48 l6 2) l9) 1) G48 (fun r61 G60 => PX12_weave_163 J l1 l2 l3 l4 l5 l6 l7 l8 l9 (G48 (G48 l6 2) l9) r61 0 G60 Q)))))))))))) ∧ (¬ (l9 < G l5 3) → ((l7 = 0 → PX12_weave_318 J l1 l2 l3 l4 l5 l6 l7 l8 l9 G Q) ∧ (¬ (l7 = 0) → ((l8 = 0 → (((G l5 6 = -1 ∨ ∃ n, isA W0 2 n (G l5 6)) ∧ ∀ v, W0.2 l5 6 = some v → G l5 6 = v) → (isO W0 1 (l6) ∧ (((G l6 6 = -1 ∨ ∃ n, isA W0 2 n (G l6 6)) ∧ ∀ v, W0.2 l6 6 = some v → G l6 6 = v) → (inI (G l5 7) → (∃ n69, isA W0 2 n69 (G l5 6) ∧ (∃ n71, isA W0 2 n71 (G l6 6) ∧ ((0 : Int) ≤ 0 ∧ ((0 + (G l5 7) : Int) ≤ n69 ∧ ((0 : Int) ≤ 0 ∧ ((0 + (G l5 7) : Int) ≤ n71 ∧ ((0 : Int) ≤ G l5 7 ∧ (∀ G78 : gS, G78 = cpG G (G l5 6) 0 (G l6 6) 0 (G l5 7) → (inI (G78 l5 7) → (∀ G80 : gS, G80 = uG G78 l6 7 (G78 l5 7) → (((G80 l5 8 = -1 ∨ ∃ n, isA W0 0 n (G80 l5 8)) ∧ ∀ v, W0.2 l5 8 = some v → G80 l5 8 = v) → (((G80 l6 8 = -1 ∨ ∃ n, isA W0 0 n (G80 l6 8)) ∧ ∀ v, W0.2 l6 8 = some v → G80 l6 8 = v) → (((G80 l5 8 = -1 ∨ ∃ n, isA W0 0 n (G80 l5 8)) ∧ ∀ v, W0.2 l5 8 = some v → G80 l5 8 = v) → (∃ n84, isA W0 0 n84 (G80 l5 8) ∧ (∃ n86, isA W0 0 n86 (G80 l5 8) ∧ (∃ n88, isA W0 0 n88 (G80 l6 8) ∧ ((0 : Int) ≤ 0 ∧ ((0 + n84 : Int) ≤ n86 ∧ ((0 : Int) ≤ 0 ∧ ((0 + n84 : Int) ≤ n88 ∧ ((0 : Int) ≤ n84 ∧ (∀ G95 : gS, G95 = cpG G80 (G80 l5 8) 0 (G80 l6 8) 0 n84 → (((G95 l5 9 = -1 ∨ ∃ n, isA W0 0 n (G95 l5 9)) ∧ ∀ v, W0.2 l5 9 = some v → G95 l5 9 = v) → (((G95 l6 9 = -1 ∨ ∃ n, isA W0 0 n (G95 l6 9)) ∧ ∀ v, W0.2 l6 9 = some v → G95 l6 9 = v) → (((G95 l5 9 = -1 ∨ ∃ n, isA W0 0 n (G95 l5 9)) ∧ ∀ v, W0.2 l5 9 = some v → G95 l5 9 = v) → (∃ n99, isA W0 0 n99 (G95 l5 9) ∧ (∃ n101, isA W0 0 n101 (G95 l5 9) ∧ (∃ n103, isA W0 0 n103 (G95 l6 9) ∧ ((0 : Int) ≤ 0 ∧ ((0 + n99 : Int) ≤ n101 ∧ ((0 : Int) ≤ 0 ∧ ((0 + n99 : Int) ≤ n103 ∧ ((0 : Int) ≤ n99 ∧ (∀ G110 : gS, G110 = cpG G95 (G95 l5 9) 0 (G95 l6 9) 0 n99 → PX12_keep l6 l1 G110 (fun r112 G111 => inI r112 → Q (r112) G111)))))))))))))))))))))))))))))))))))))))) ∧ (¬ (l8 = 0) → PX12_weave_318 J l1 l2 l3 l4 l5 l6 l7 l8 l9 G Q))))))))
def PX12_weave_26 (J : Nat → List Int → gS → (Int → gS → Prop) → Prop) (l1 : Int) (l2 : Int) (l3 : Int) (l4 : Int) (l5 : Int) (G : gS) (Q : Int → gS → Prop) : Prop :=
  Q (-1) G
def PX12_weave_0 (J : Nat → List Int → gS → (Int → gS → Prop) → Prop) (a1 : Int) (a2 : Int) (a3 : Int) (G : gS) (Q : Int → gS → Prop) : Prop :=
  PX12_buildOf a1 a2 G (fun r2 G1 => PX12_buildOf a1 a3 G1 (fun r5 G4 => ((r2 < 0 → PX12_weave_26 J a1 a2 a3 r2 r5 G4 Q) ∧ (0 ≤ r2 → ((r5 < 0 → PX12_weave_26 J a1 a2 a3 r2 r5 G4 Q) ∧ (0 ≤ r5 → ((0 : Int) ≤ 0 ∧ ((0 + 5 : Int) ≤ 5 ∧ ((0 : Int) ≤ 0 ∧ ((0 + 5 : Int) ≤ 5 ∧ ((0 : Int) ≤ 5 ∧ (∀ G14 : gS, G14 = cpG G4 5 0 6 0 5 → ((0 : Int) ≤ a1 ∧ ((a1 : Int) < 5 ∧ (∀ G17 : gS, G17 = uG G14 6 a1 (a3) → PX12_gather 864 6 G17 (fun _ G18 => PX12_unused G18 (fun r21 G20 => (isO W0 1 (r21) ∧ PX1_clear r21 G20 (fun _ G24 => (isO W0 1 (r5) ∧ (((G24 r5 16 = -1 ∨ ∃ n, isA W0 0 n (G24 r5 16)) ∧ ∀ v, W0.2 r5 16 = some v → G24 r5 16 = v) → (((G24 r21 16 = -1 ∨ ∃ n, isA W0 0 n (G24 r21 16)) ∧ ∀ v, W0.2 r21 16 = some v → G24 r21 16 = v) → (inI (G24 r5 17) → (∃ n30, isA W0 0 n30 (G24 r5 16) ∧ (∃ n32, isA W0 0 n32 (G24 r21 16) ∧ ((0 : Int) ≤ 0 ∧ ((0 + (G24 r5 17) : Int) ≤ n30 ∧ ((0 : Int) ≤ 0 ∧ ((0 + (G24 r5 17) : Int) ≤ n32 ∧ ((0 : Int) ≤ G24 r5 17 ∧ (∀ G39 : gS, G39 = cpG G24 (G24 r5 16) 0 (G24 r21 16) 0 (G24 r5 17) → (inI (G39 r5 17) → (∀ G41 : gS, G41 = uG G39 r21 17 (G39 r5 17) → PX12_isFull a1 G41 (fun r43 G42 => (0 ≤ r43 ∧ r43 ≤ 1) → PX12_weave_115 J a1 a2 a3 r2 r5 r21 0 r43 0 G42 Q))))))))))))))))))))))))))))))))))
def PX12_weave_J : Nat → Nat → List Int → gS → (Int → gS → Prop) → Prop
  | 0, _, _, _, _ => False
  | f + 1, h, L, G, Q => match h, L with
    | 0, [l1, l2, l3, l4, l5, l6, l7, l8, l9] => PX12_weave_115 (PX12_weave_J f) l1 l2 l3 l4 l5 l6 l7 l8 l9 G Q
    | 1, [l1, l2, l3, l4, l5, l6, l7, l8, l9, l10, l11, l12] => PX12_weave_163 (PX12_weave_J f) l1 l2 l3 l4 l5 l6 l7 l8 l9 l10 l11 l12 G Q
    | _, _ => False
def PX12_weave (a1 : Int) (a2 : Int) (a3 : Int) (G : gS) (Q : Int → gS → Prop) : Prop := ∃ f : Nat, f ≤ 4000000000 ∧ PX12_weave_0 (PX12_weave_J f) a1 a2 a3 G Q
def PX12_run_217 (J : Nat → List Int → gS → (Int → gS → Prop) → Prop) (l1 : Int) (l2 : Int) (l3 : Int) (l4 : Int) (s0 : Int) (G : gS) (Q : Int → gS → Prop) : Prop :=
  Q (s0) G
def PX12_run_181 (J : Nat → List Int → gS → (Int → gS → Prop) → Prop) (l1 : Int) (l2 : Int) (l3 : Int) (l4 : Int) (G : gS) (Q : Int → gS → Prop) : Prop :=
  (inI (G 938 17) → ((G 938 17 = 0 → (inI (G 938 18) → ((G 938 18 = 0 → PX12_run_217 J l1 l2 l3 l4 1 G Q) ∧ (¬ (G 938 18 = 0) → PX12_run_217 J l1 l2 l3 l4 2 G Q)))) ∧ (¬ (G 938 17 = 0) → (inI (G 938 17) → (inI ((-10) - (G 938 17)) ∧ Q ((-10) - (G 938 17)) G)))))
def PX12_run_150 (J : Nat → List Int → gS → (Int → gS → Prop) → Prop) (l1 : Int) (l2 : Int) (l3 : Int) (l4 : Int) (G : gS) (Q : Int → gS → Prop) : Prop :=
  ((l4 < 100000000 → (inI (G 938 5) → ((0 < G 938 5 → PX6_turnw G (fun _ G41 => (inI (l4 + 1) ∧ J 1 [l1, l2, l3, l4 + 1] G41 Q))) ∧ (¬ (0 < G 938 5) → PX12_run_181 J l1 l2 l3 l4 G Q)))) ∧ (¬ (l4 < 100000000) → PX12_run_181 J l1 l2 l3 l4 G Q))
def PX12_run_147 (J : Nat → List Int → gS → (Int → gS → Prop) → Prop) (l1 : Int) (l2 : Int) (l3 : Int) (l4 : Int) (G : gS) (Q : Int → gS → Prop) : Prop :=
  PX12_run_150 J l1 l2 l3 0 G Q
def PX12_run_126 (J : Nat → List Int → gS → (Int → gS → Prop) → Prop) (l1 : Int) (l2 : Int) (l3 : Int) (l4 : Int) (G : gS) (Q : Int → gS → Prop) : Prop :=
  (inI (G 938 17) → ((G 938 17 = 0 → PX6_call l2 l3 0 1 G (fun _ G36 => PX12_run_147 J l1 l2 l3 l4 G36 Q)) ∧ (¬ (G 938 17 = 0) → PX12_run_147 J l1 l2 l3 l4 G Q)))
def PX12_run_95 (J : Nat → List Int → gS → (Int → gS → Prop) → Prop) (l1 : Int) (l2 : Int) (l3 : Int) (l4 : Int) (G : gS) (Q : Int → gS → Prop) : Prop :=
  ((l4 < 100000000 → (inI (G 938 5) → ((0 < G 938 5 → PX6_turnw G (fun _ G31 => (inI (l4 + 1) ∧ J 0 [l1, l2, l3, l4 + 1] G31 Q))) ∧ (¬ (0 < G 938 5) → PX12_run_126 J l1 l2 l3 l4 G Q)))) ∧ (¬ (l4 < 100000000) → PX12_run_126 J l1 l2 l3 l4 G Q))
def PX12_run_76 (J : Nat → List Int → gS → (Int → gS → Prop) → Prop) (l1 : Int) (l2 : Int) (s0 : Int) (G : gS) (Q : Int → gS → Prop) : Prop :=
  ((s0 < 0 → Q (-2) G) ∧ (0 ≤ s0 → PX6_open l2 G (fun _ G26 => PX12_run_95 J l1 l2 s0 0 G26 Q)))
def PX12_run_46 (J : Nat → List Int → gS → (Int → gS → Prop) → Prop) (l1 : Int) (s0 : Int) (G : gS) (Q : Int → gS → Prop) : Prop :=
  ((s0 < 0 → PX12_run_76 J l1 s0 (-1) G Q) ∧ (¬ (s0 < 0) → (isO W0 11 (821) ∧ ((0 : Int) ≤ s0 ∧ ((s0 : Int) < 64 ∧ (((G (821 + 1) s0 = -1 ∨ isO W0 10 (G (821 + 1) s0)) ∧ ∀ v, W0.2 (821 + 1) s0 = some v → G (821 + 1) s0 = v) → ((0 : Int) ≤ 2 ∧ ((2 : Int) < 704 ∧ (inL (G 12 2) → PX12_runnable (G (821 + 1) s0) (G 12 2) G (fun r23 G22 => PX12_run_76 J l1 s0 r23 G22 Q))))))))))
def PX12_run_0 (J : Nat → List Int → gS → (Int → gS → Prop) → Prop)  (G : gS) (Q : Int → gS → Prop) : Prop :=
  (inI (G 0 1) → PX9_isCall 1 (G 0 1) G (fun r3 G2 => (0 ≤ r3 ∧ r3 ≤ 1) → (∀ G5 : gS, G5 = uG G2 0 1 (0) → ((r3 = 0 → PX12_run_46 J r3 (-2) G5 Q) ∧ (¬ (r3 = 0) → ((0 : Int) ≤ 0 ∧ ((0 : Int) < 704 ∧ (inL (G5 12 0) → (isO W0 11 (821) ∧ PX11_find 821 (G5 12 0) G5 (fun r12 G11 => inI r12 → PX12_run_46 J r3 r12 G11 Q))))))))))
def PX12_run_J : Nat → Nat → List Int → gS → (Int → gS → Prop) → Prop
  | 0, _, _, _, _ => False
  | f + 1, h, L, G, Q => match h, L with
    | 0, [l1, l2, l3, l4] => PX12_run_95 (PX12_run_J f) l1 l2 l3 l4 G Q
    | 1, [l1, l2, l3, l4] => PX12_run_150 (PX12_run_J f) l1 l2 l3 l4 G Q
    | _, _ => False
def PX12_run  (G : gS) (Q : Int → gS → Prop) : Prop := ∃ f : Nat, f ≤ 4000000000 ∧ PX12_run_0 (PX12_run_J f)  G Q
def PX12_name_15 (l1 : Int) (G : gS) (Q : Int → gS → Prop) : Prop :=
  Q (-1) G
def PX12_name_0 (a1 : Int) (G : gS) (Q : Int → gS → Prop) : Prop :=
  ((a1 < 0 → PX12_name_15 a1 G Q) ∧ (¬ (a1 < 0) → (isO W0 11 (821) ∧ (inI (G 821 2) → ((a1 < G 821 2 → (∀ G5 : gS, G5 = uG G 0 3 (0) → (isO W0 11 (821) ∧ ((0 : Int) ≤ a1 ∧ ((a1 : Int) < 64 ∧ (((G5 (821 + 1) a1 = -1 ∨ isO W0 10 (G5 (821 + 1) a1)) ∧ ∀ v, W0.2 (821 + 1) a1 = some v → G5 (821 + 1) a1 = v) → (isO W0 10 (G5 (821 + 1) a1) ∧ (inL (G5 (G5 (821 + 1) a1) 1) → PX12_tellType (G5 (G5 (821 + 1) a1) 1) G5 (fun _ G12 => (inI (G12 0 3) → Q (G12 0 3) G12)))))))))) ∧ (¬ (a1 < G 821 2) → PX12_name_15 a1 G Q))))))
abbrev PX12_name (a1 : Int) (G : gS) (Q : Int → gS → Prop) : Prop := PX12_name_0 a1 G Q
def PX13_outWord_16 (J : Nat → List Int → gS → (Int → gS → Prop) → Prop) (l1 : Int) (l2 : Int) (s0 : Int) (s1 : Int) (G : gS) (Q : Int → gS → Prop) : Prop :=
  (isO W0 13 (s0) ∧ PX13_outByte s1 G (fun _ G7 => (inI (l2 + 1) ∧ J 0 [l1, l2 + 1] G7 Q)))
def PX13_outWord_7 (J : Nat → List Int → gS → (Int → gS → Prop) → Prop) (l1 : Int) (l2 : Int) (s0 : Int) (s1 : Int) (G : gS) (Q : Int → gS → Prop) : Prop :=
  ((s0 < s1 → ((0 : Int) ≤ l2 ∧ (l2 < sLen l1 ∧ ((0 ≤ sChr l1 l2 ∧ sChr l1 l2 < 128) → PX13_outWord_16 J l1 l2 16081 (sChr l1 l2) G Q)))) ∧ (¬ (s0 < s1) → Q 0 G))
def PX13_outWord_2 (J : Nat → List Int → gS → (Int → gS → Prop) → Prop) (l1 : Int) (l2 : Int) (G : gS) (Q : Int → gS → Prop) : Prop :=
  ((0 ≤ sLen l1 ∧ sLen l1 < 200) → PX13_outWord_7 J l1 l2 l2 (sLen l1) G Q)
def PX13_outWord_0 (J : Nat → List Int → gS → (Int → gS → Prop) → Prop) (a1 : Int) (G : gS) (Q : Int → gS → Prop) : Prop :=
  PX13_outWord_2 J a1 0 G Q
def PX13_outWord_J : Nat → Nat → List Int → gS → (Int → gS → Prop) → Prop
  | 0, _, _, _, _ => False
  | f + 1, h, L, G, Q => match h, L with
    | 0, [l1, l2] => PX13_outWord_2 (PX13_outWord_J f) l1 l2 G Q
    | _, _ => False
def PX13_outWord (a1 : Int) (G : gS) (Q : Int → gS → Prop) : Prop := ∃ f : Nat, f ≤ 4000000000 ∧ PX13_outWord_0 (PX13_outWord_J f) a1 G Q
def PX13_outType_37 (l1 : Int) (G : gS) (Q : Int → gS → Prop) : Prop :=
  Q 0 G
def PX13_outType_0 (a1 : Int) (G : gS) (Q : Int → gS → Prop) : Prop :=
  ((a1 = 2 → PX13_outWord 27 G (fun _ G2 => PX13_outType_37 a1 G2 Q)) ∧ (¬ (a1 = 2) → ((a1 = 1 → PX13_outWord 28 G (fun _ G5 => PX13_outType_37 a1 G5 Q)) ∧ (¬ (a1 = 1) → PX13_outName a1 G (fun _ G7 => PX13_outType_37 a1 G7 Q)))))
abbrev PX13_outType (a1 : Int) (G : gS) (Q : Int → gS → Prop) : Prop := PX13_outType_0 a1 G Q
def PX13_wordTable_65 (J : Nat → List Int → gS → (Int → gS → Prop) → Prop) (l1 : Int) (l3 : Int) (G : gS) (Q : Int → gS → Prop) : Prop :=
  (inI (l3 + 1) ∧ J 0 [l1, l3 + 1] G Q)
def PX13_wordTable_59 (J : Nat → List Int → gS → (Int → gS → Prop) → Prop) (l1 : Int) (l3 : Int) (s0 : Int) (s1 : Int) (G : gS) (Q : Int → gS → Prop) : Prop :=
  PX13_sym s1 G (fun r20 G19 => inI r20 → (inL (lor s0 r20) → PX13_wordTable_65 J (lor s0 r20) l3 G19 Q))
def PX13_wordTable_19 (J : Nat → List Int → gS → (Int → gS → Prop) → Prop) (l1 : Int) (l3 : Int) (s0 : Int) (G : gS) (Q : Int → gS → Prop) : Prop :=
  ((s0 = 32 → (inI (G 16081 18) → ((0 : Int) ≤ G 16081 18 ∧ ((G 16081 18 : Int) < 32 ∧ (∀ G10 : gS, G10 = uG G 16096 (G 16081 18) (l1) → (inI (G10 16081 18) → (inI ((G10 16081 18) + 1) ∧ (∀ G13 : gS, G13 = uG G10 16081 18 ((G10 16081 18) + 1) → PX13_wordTable_65 J 0 l3 G13 Q)))))))) ∧ (¬ (s0 = 32) → (inL (lshl l1 6) → ((0 : Int) ≤ l3 ∧ (l3 < sLen 29 ∧ ((0 ≤ sChr 29 l3 ∧ sChr 29 l3 < 128) → PX13_wordTable_59 J l1 l3 (lshl l1 6) (sChr 29 l3) G Q))))))
def PX13_wordTable_10 (J : Nat → List Int → gS → (Int → gS → Prop) → Prop) (l1 : Int) (l3 : Int) (s0 : Int) (s1 : Int) (G : gS) (Q : Int → gS → Prop) : Prop :=
  ((s0 < s1 → ((0 : Int) ≤ l3 ∧ (l3 < sLen 29 ∧ ((0 ≤ sChr 29 l3 ∧ sChr 29 l3 < 128) → PX13_wordTable_19 J l1 l3 (sChr 29 l3) G Q)))) ∧ (¬ (s0 < s1) → Q 0 G))
def PX13_wordTable_4 (J : Nat → List Int → gS → (Int → gS → Prop) → Prop) (l1 : Int) (l3 : Int) (G : gS) (Q : Int → gS → Prop) : Prop :=
  ((0 ≤ sLen 29 ∧ sLen 29 < 200) → PX13_wordTable_10 J l1 l3 l3 (sLen 29) G Q)
def PX13_wordTable_0 (J : Nat → List Int → gS → (Int → gS → Prop) → Prop)  (G : gS) (Q : Int → gS → Prop) : Prop :=
  PX13_wordTable_4 J 0 1 G Q
def PX13_wordTable_J : Nat → Nat → List Int → gS → (Int → gS → Prop) → Prop
  | 0, _, _, _, _ => False
  | f + 1, h, L, G, Q => match h, L with
    | 0, [l1, l3] => PX13_wordTable_4 (PX13_wordTable_J f) l1 l3 G Q
    | _, _ => False
def PX13_wordTable  (G : gS) (Q : Int → gS → Prop) : Prop := ∃ f : Nat, f ≤ 4000000000 ∧ PX13_wordTable_0 (PX13_wordTable_J f)  G Q
def PX13_isWordAt_33 (l1 : Int) (s0 : Int) (G : gS) (Q : Int → gS → Prop) : Prop :=
  ((0 ≤ s0 ∧ s0 ≤ 1) ∧ Q (s0) G)
def PX13_isWordAt_32 (l1 : Int) (G : gS) (Q : Int → gS → Prop) : Prop :=
  PX13_isWordAt_33 l1 0 G Q
def PX13_isWordAt_0 (a1 : Int) (G : gS) (Q : Int → gS → Prop) : Prop :=
  (inI (G 16081 22) → PX13_kindAt (G 16081 22) G (fun r3 G2 => inI r3 → ((r3 = 3 → (inI (G2 16081 22) → PX13_nameAt (G2 16081 22) G2 (fun r8 G7 => inL r8 → PX13_nameOf a1 G7 (fun r11 G10 => inL r11 → ((r8 = r11 → PX13_isWordAt_33 a1 1 G10 Q) ∧ (¬ (r8 = r11) → PX13_isWordAt_32 a1 G10 Q)))))) ∧ (¬ (r3 = 3) → PX13_isWordAt_32 a1 G2 Q))))
abbrev PX13_isWordAt (a1 : Int) (G : gS) (Q : Int → gS → Prop) : Prop := PX13_isWordAt_0 a1 G Q
def PX13_wantWord_33 (l1 : Int) (G : gS) (Q : Int → gS → Prop) : Prop :=
  Q 0 G
def PX13_wantWord_22 (l1 : Int) (G : gS) (Q : Int → gS → Prop) : Prop :=
  (inI (G 16081 20) → ((G 16081 20 = 0 → PX13_wrong G (fun _ G11 => PX13_wantWord_33 l1 G11 Q)) ∧ (¬ (G 16081 20 = 0) → PX13_wantWord_33 l1 G Q)))
def PX13_wantWord_0 (a1 : Int) (G : gS) (Q : Int → gS → Prop) : Prop :=
  (inI (G 16081 20) → ((G 16081 20 = 0 → PX13_isWordAt a1 G (fun r4 G3 => (0 ≤ r4 ∧ r4 ≤ 1) → ((r4 = 0 → PX13_wantWord_22 a1 G3 Q) ∧ (¬ (r4 = 0) → PX13_step G3 (fun _ G7 => PX13_wantWord_33 a1 G7 Q))))) ∧ (¬ (G 16081 20 = 0) → PX13_wantWord_22 a1 G Q)))
abbrev PX13_wantWord (a1 : Int) (G : gS) (Q : Int → gS → Prop) : Prop := PX13_wantWord_0 a1 G Q
def PX13_takesWord_29 (l1 : Int) (l2 : Int) (G : gS) (Q : Int → gS → Prop) : Prop :=
  ((0 ≤ l2 ∧ l2 ≤ 1) ∧ Q (l2) G)
def PX13_takesWord_20 (l1 : Int) (s0 : Int) (G : gS) (Q : Int → gS → Prop) : Prop :=
  ((s0 = 0 → PX13_takesWord_29 l1 s0 G Q) ∧ (¬ (s0 = 0) → PX13_step G (fun _ G8 => PX13_takesWord_29 l1 s0 G8 Q)))
def PX13_takesWord_19 (l1 : Int) (G : gS) (Q : Int → gS → Prop) : Prop :=
  PX13_takesWord_20 l1 0 G Q
def PX13_takesWord_0 (a1 : Int) (G : gS) (Q : Int → gS → Prop) : Prop :=
  (inI (G 16081 20) → ((G 16081 20 = 0 → PX13_isWordAt a1 G (fun r4 G3 => (0 ≤ r4 ∧ r4 ≤ 1) → ((r4 = 0 → PX13_takesWord_19 a1 G3 Q) ∧ (¬ (r4 = 0) → PX13_takesWord_20 a1 1 G3 Q)))) ∧ (¬ (G 16081 20 = 0) → PX13_takesWord_19 a1 G Q)))
abbrev PX13_takesWord (a1 : Int) (G : gS) (Q : Int → gS → Prop) : Prop := PX13_takesWord_0 a1 G Q
def PX13_beginsMember_112 (s0 : Int) (G : gS) (Q : Int → gS → Prop) : Prop :=
  ((0 ≤ s0 ∧ s0 ≤ 1) ∧ Q (s0) G)
def PX13_beginsMember_107  (G : gS) (Q : Int → gS → Prop) : Prop :=
  PX13_beginsMember_112 1 G Q
def PX13_beginsMember_0  (G : gS) (Q : Int → gS → Prop) : Prop :=
  (inI (G 16081 22) → PX13_kindAt (G 16081 22) G (fun r3 G2 => inI r3 → ((r3 = 1 → PX13_beginsMember_107  G2 Q) ∧ (¬ (r3 = 1) → PX13_isWordAt 30 G2 (fun r7 G6 => (0 ≤ r7 ∧ r7 ≤ 1) → ((r7 = 0 → PX13_isWordAt 40 G6 (fun r11 G10 => (0 ≤ r11 ∧ r11 ≤ 1) → ((r11 = 0 → PX13_isWordAt 41 G10 (fun r15 G14 => (0 ≤ r15 ∧ r15 ≤ 1) → ((r15 = 0 → PX13_isWordAt 42 G14 (fun r19 G18 => (0 ≤ r19 ∧ r19 ≤ 1) → ((r19 = 0 → PX13_isWordAt 31 G18 (fun r23 G22 => (0 ≤ r23 ∧ r23 ≤ 1) → ((r23 = 0 → PX13_isWordAt 39 G22 (fun r27 G26 => (0 ≤ r27 ∧ r27 ≤ 1) → ((r27 = 0 → PX13_isWordAt 27 G26 (fun r31 G30 => (0 ≤ r31 ∧ r31 ≤ 1) → ((r31 = 0 → PX13_isWordAt 28 G30 (fun r35 G34 => (0 ≤ r35 ∧ r35 ≤ 1) → ((r35 = 0 → PX13_isWordAt 43 G34 (fun r39 G38 => (0 ≤ r39 ∧ r39 ≤ 1) → ((r39 = 0 → PX13_isWordAt 44 G38 (fun r43 G42 => (0 ≤ r43 ∧ r43 ≤ 1) → ((r43 = 0 → PX13_beginsMember_112 0 G42 Q) ∧ (¬ (r43 = 0) → PX13_beginsMember_107  G42 Q)))) ∧ (¬ (r39 = 0) → PX13_beginsMember_107  G38 Q)))) ∧ (¬ (r35 = 0) → PX13_beginsMember_107  G34 Q)))) ∧ (¬ (r31 = 0) → PX13_beginsMember_107  G30 Q)))) ∧ (¬ (r27 = 0) → PX13_beginsMember_107  G26 Q)))) ∧ (¬ (r23 = 0) → PX13_beginsMember_107  G22 Q)))) ∧ (¬ (r19 = 0) → PX13_beginsMember_107  G18 Q)))) ∧ (¬ (r15 = 0) → PX13_beginsMember_107  G14 Q)))) ∧ (¬ (r11 = 0) → PX13_beginsMember_107  G10 Q)))) ∧ (¬ (r7 = 0) → PX13_beginsMember_107  G6 Q)))))))
abbrev PX13_beginsMember  (G : gS) (Q : Int → gS → Prop) : Prop := PX13_beginsMember_0  G Q
def PX13_beginsE_90 (s0 : Int) (G : gS) (Q : Int → gS → Prop) : Prop :=
  ((0 ≤ s0 ∧ s0 ≤ 1) ∧ Q (s0) G)
def PX13_beginsE_85  (G : gS) (Q : Int → gS → Prop) : Prop :=
  PX13_beginsE_90 1 G Q
def PX13_beginsE_0  (G : gS) (Q : Int → gS → Prop) : Prop :=
  (inI (G 16081 22) → PX13_kindAt (G 16081 22) G (fun r3 G2 => inI r3 → ((r3 = 4 → PX13_beginsE_85  G2 Q) ∧ (¬ (r3 = 4) → (inI (G2 16081 22) → PX13_kindAt (G2 16081 22) G2 (fun r8 G7 => inI r8 → ((r8 = 2 → PX13_beginsE_85  G7 Q) ∧ (¬ (r8 = 2) → (inI (G7 16081 22) → PX13_kindAt (G7 16081 22) G7 (fun r13 G12 => inI r13 → ((r13 = 1 → PX13_beginsE_85  G12 Q) ∧ (¬ (r13 = 1) → PX13_isSign 40 G12 (fun r17 G16 => (0 ≤ r17 ∧ r17 ≤ 1) → ((r17 = 0 → PX13_isWordAt 45 G16 (fun r21 G20 => (0 ≤ r21 ∧ r21 ≤ 1) → ((r21 = 0 → PX13_isWordAt 46 G20 (fun r25 G24 => (0 ≤ r25 ∧ r25 ≤ 1) → ((r25 = 0 → PX13_isWordAt 47 G24 (fun r29 G28 => (0 ≤ r29 ∧ r29 ≤ 1) → ((r29 = 0 → PX13_isWordAt 43 G28 (fun r33 G32 => (0 ≤ r33 ∧ r33 ≤ 1) → ((r33 = 0 → PX13_beginsE_90 0 G32 Q) ∧ (¬ (r33 = 0) → PX13_beginsE_85  G32 Q)))) ∧ (¬ (r29 = 0) → PX13_beginsE_85  G28 Q)))) ∧ (¬ (r25 = 0) → PX13_beginsE_85  G24 Q)))) ∧ (¬ (r21 = 0) → PX13_beginsE_85  G20 Q)))) ∧ (¬ (r17 = 0) → PX13_beginsE_85  G16 Q)))))))))))))))
abbrev PX13_beginsE  (G : gS) (Q : Int → gS → Prop) : Prop := PX13_beginsE_0  G Q
def PX13_beginsS_91 (s0 : Int) (G : gS) (Q : Int → gS → Prop) : Prop :=
  ((0 ≤ s0 ∧ s0 ≤ 1) ∧ Q (s0) G)
def PX13_beginsS_86  (G : gS) (Q : Int → gS → Prop) : Prop :=
  PX13_beginsS_91 1 G Q
def PX13_beginsS_0  (G : gS) (Q : Int → gS → Prop) : Prop :=
  PX13_beginsE G (fun r2 G1 => (0 ≤ r2 ∧ r2 ≤ 1) → ((r2 = 0 → PX13_isSign 123 G1 (fun r6 G5 => (0 ≤ r6 ∧ r6 ≤ 1) → ((r6 = 0 → PX13_isWordAt 48 G5 (fun r10 G9 => (0 ≤ r10 ∧ r10 ≤ 1) → ((r10 = 0 → PX13_isWordAt 49 G9 (fun r14 G13 => (0 ≤ r14 ∧ r14 ≤ 1) → ((r14 = 0 → PX13_isWordAt 50 G13 (fun r18 G17 => (0 ≤ r18 ∧ r18 ≤ 1) → ((r18 = 0 → PX13_isWordAt 51 G17 (fun r22 G21 => (0 ≤ r22 ∧ r22 ≤ 1) → ((r22 = 0 → PX13_isWordAt 52 G21 (fun r26 G25 => (0 ≤ r26 ∧ r26 ≤ 1) → ((r26 = 0 → PX13_isWordAt 53 G25 (fun r30 G29 => (0 ≤ r30 ∧ r30 ≤ 1) → ((r30 = 0 → PX13_isWordAt 54 G29 (fun r34 G33 => (0 ≤ r34 ∧ r34 ≤ 1) → ((r34 = 0 → PX13_beginsS_91 0 G33 Q) ∧ (¬ (r34 = 0) → PX13_beginsS_86  G33 Q)))) ∧ (¬ (r30 = 0) → PX13_beginsS_86  G29 Q)))) ∧ (¬ (r26 = 0) → PX13_beginsS_86  G25 Q)))) ∧ (¬ (r22 = 0) → PX13_beginsS_86  G21 Q)))) ∧ (¬ (r18 = 0) → PX13_beginsS_86  G17 Q)))) ∧ (¬ (r14 = 0) → PX13_beginsS_86  G13 Q)))) ∧ (¬ (r10 = 0) → PX13_beginsS_86  G9 Q)))) ∧ (¬ (r6 = 0) → PX13_beginsS_86  G5 Q)))) ∧ (¬ (r2 = 0) → PX13_beginsS_86  G1 Q)))
abbrev PX13_beginsS  (G : gS) (Q : Int → gS → Prop) : Prop := PX13_beginsS_0  G Q
def PX13_arguments_117 (R : Nat → List Int → gS → (Int → gS → Prop) → Prop) (J : Nat → List Int → gS → (Int → gS → Prop) → Prop) (l1 : Int) (l2 : Int) (l3 : Int) (l4 : Int) (G : gS) (Q : Int → gS → Prop) : Prop :=
  J 0 [l1, l2, l3] G Q
def PX13_arguments_108 (R : Nat → List Int → gS → (Int → gS → Prop) → Prop) (J : Nat → List Int → gS → (Int → gS → Prop) → Prop) (l1 : Int) (l2 : Int) (l3 : Int) (l4 : Int) (s0 : Int) (G : gS) (Q : Int → gS → Prop) : Prop :=
  ((s0 = 0 → PX13_arguments_117 R J l1 l2 s0 l4 G Q) ∧ (¬ (s0 = 0) → PX13_step G (fun _ G31 => PX13_arguments_117 R J l1 l2 s0 l4 G31 Q)))
def PX13_arguments_107 (R : Nat → List Int → gS → (Int → gS → Prop) → Prop) (J : Nat → List Int → gS → (Int → gS → Prop) → Prop) (l1 : Int) (l2 : Int) (l3 : Int) (l4 : Int) (G : gS) (Q : Int → gS → Prop) : Prop :=
  PX13_arguments_108 R J l1 l2 l3 l4 0 G Q
def PX13_arguments_84 (R : Nat → List Int → gS → (Int → gS → Prop) → Prop) (J : Nat → List Int → gS → (Int → gS → Prop) → Prop) (l1 : Int) (l2 : Int) (l3 : Int) (l4 : Int) (G : gS) (Q : Int → gS → Prop) : Prop :=
  (inI (G 16081 20) → ((G 16081 20 = 0 → PX13_isSign 44 G (fun r27 G26 => (0 ≤ r27 ∧ r27 ≤ 1) → ((r27 = 0 → PX13_arguments_107 R J l1 l4 l3 l4 G26 Q) ∧ (¬ (r27 = 0) → PX13_arguments_108 R J l1 l4 l3 l4 1 G26 Q)))) ∧ (¬ (G 16081 20 = 0) → PX13_arguments_107 R J l1 l4 l3 l4 G Q)))
def PX13_arguments_47 (R : Nat → List Int → gS → (Int → gS → Prop) → Prop) (J : Nat → List Int → gS → (Int → gS → Prop) → Prop) (l1 : Int) (l2 : Int) (l3 : Int) (G : gS) (Q : Int → gS → Prop) : Prop :=
  ((l3 = 0 → PX13_wantSign 41 G (fun _ G14 => Q (l1) G14)) ∧ (¬ (l3 = 0) → R 1 [] G (fun r17 G16 => inI r17 → ((l2 = -2 → PX13_arguments_84 R J r17 l2 l3 r17 G16 Q) ∧ (¬ (l2 = -2) → ((r17 = -2 → PX13_arguments_84 R J l1 l2 l3 r17 G16 Q) ∧ (¬ (r17 = -2) → ((0 : Int) ≤ l2 ∧ ((l2 : Int) < 30600 ∧ (∀ G23 : gS, G23 = uG G16 16154 l2 (r17) → PX13_arguments_84 R J l1 l2 l3 r17 G23 Q))))))))))
def PX13_arguments_46 (R : Nat → List Int → gS → (Int → gS → Prop) → Prop) (J : Nat → List Int → gS → (Int → gS → Prop) → Prop) (l1 : Int) (l2 : Int) (s0 : Int) (G : gS) (Q : Int → gS → Prop) : Prop :=
  PX13_arguments_47 R J l1 l2 s0 G Q
def PX13_arguments_31 (R : Nat → List Int → gS → (Int → gS → Prop) → Prop) (J : Nat → List Int → gS → (Int → gS → Prop) → Prop) (l1 : Int) (G : gS) (Q : Int → gS → Prop) : Prop :=
  (inI (G 16081 20) → ((G 16081 20 = 0 → PX13_arguments_46 R J l1 (-2) 1 G Q) ∧ (¬ (G 16081 20 = 0) → PX13_arguments_46 R J l1 (-2) 0 G Q)))
def PX13_arguments_0 (R : Nat → List Int → gS → (Int → gS → Prop) → Prop) (J : Nat → List Int → gS → (Int → gS → Prop) → Prop)  (G : gS) (Q : Int → gS → Prop) : Prop :=
  PX13_wantSign 40 G (fun _ G1 => (inI (G1 16081 20) → ((G1 16081 20 = 0 → PX13_isSign 41 G1 (fun r6 G5 => (0 ≤ r6 ∧ r6 ≤ 1) → ((r6 = 0 → PX13_arguments_31 R J (-2) G5 Q) ∧ (¬ (r6 = 0) → PX13_step G5 (fun _ G9 => Q (-2) G9))))) ∧ (¬ (G1 16081 20 = 0) → PX13_arguments_31 R J (-2) G1 Q))))
def PX13_arguments_J (R : Nat → List Int → gS → (Int → gS → Prop) → Prop) : Nat → Nat → List Int → gS → (Int → gS → Prop) → Prop
  | 0, _, _, _, _ => False
  | f + 1, h, L, G, Q => match h, L with
    | 0, [l1, l2, l3] => PX13_arguments_47 R (PX13_arguments_J R f) l1 l2 l3 G Q
    | _, _ => False
def PX13_arguments (R : Nat → List Int → gS → (Int → gS → Prop) → Prop)  (G : gS) (Q : Int → gS → Prop) : Prop := ∃ f : Nat, f ≤ 4000000000 ∧ PX13_arguments_0 R (PX13_arguments_J R f)  G Q
def PX13_expression_163 (R : Nat → List Int → gS → (Int → gS → Prop) → Prop) (l1 : Int) (s0 : Int) (G : gS) (Q : Int → gS → Prop) : Prop :=
  Q (s0) G
def PX13_expression_140 (R : Nat → List Int → gS → (Int → gS → Prop) → Prop) (l1 : Int) (G : gS) (Q : Int → gS → Prop) : Prop :=
  (inI (G 16081 89) → (inI ((G 16081 89) - 1) ∧ (∀ G35 : gS, G35 = uG G 16081 89 ((G 16081 89) - 1) → (inI (G35 16081 20) → ((G35 16081 20 = 0 → PX13_expression_163 R l1 l1 G35 Q) ∧ (¬ (G35 16081 20 = 0) → PX13_expression_163 R l1 (-2) G35 Q))))))
def PX13_expression_107 (R : Nat → List Int → gS → (Int → gS → Prop) → Prop) (l1 : Int) (s0 : Int) (s1 : Int) (G : gS) (Q : Int → gS → Prop) : Prop :=
  ((0 : Int) ≤ l1 ∧ ((l1 : Int) < 30600 ∧ (inI (G 16145 l1) → (isO W0 13 (s0) ∧ PX13_node s1 (G 16145 l1) G (fun r47 G46 => inI r47 → PX13_step G46 (fun _ G49 => ((0 : Int) ≤ r47 ∧ ((r47 : Int) < 30600 ∧ (∀ G53 : gS, G53 = uG G49 16151 r47 (l1) → R 6 [] G53 (fun r55 G54 => inI r55 → ((0 : Int) ≤ r47 ∧ ((r47 : Int) < 30600 ∧ (∀ G59 : gS, G59 = uG G54 16152 r47 (r55) → PX13_expression_140 R r47 G59 Q)))))))))))))
def PX13_expression_90 (R : Nat → List Int → gS → (Int → gS → Prop) → Prop) (l1 : Int) (G : gS) (Q : Int → gS → Prop) : Prop :=
  PX13_isSign 60 G (fun r39 G38 => (0 ≤ r39 ∧ r39 ≤ 1) → ((r39 = 0 → PX13_expression_107 R l1 16081 19 G38 Q) ∧ (¬ (r39 = 0) → PX13_expression_107 R l1 16081 18 G38 Q)))
def PX13_expression_0 (R : Nat → List Int → gS → (Int → gS → Prop) → Prop)  (G : gS) (Q : Int → gS → Prop) : Prop :=
  (inI (G 16081 20) → ((G 16081 20 = 0 → PX13_beginsE G (fun r4 G3 => (0 ≤ r4 ∧ r4 ≤ 1) → ((r4 = 0 → PX13_wrong G3 (fun _ G7 => Q (-2) G7)) ∧ (¬ (r4 = 0) → (inI (G3 16081 89) → ((G3 16081 89 = 12 → (inI (G3 16081 22) → PX13_placeAt (G3 16081 22) G3 (fun r13 G12 => inI r13 → PX13_fault 3 r13 G12 (fun _ G15 => Q (-2) G15)))) ∧ (¬ (G3 16081 89 = 12) → (inI (G3 16081 89) → (inI ((G3 16081 89) + 1) ∧ (∀ G19 : gS, G19 = uG G3 16081 89 ((G3 16081 89) + 1) → R 6 [] G19 (fun r21 G20 => inI r21 → (inI (G20 16081 20) → ((G20 16081 20 = 0 → PX13_isSign 60 G20 (fun r26 G25 => (0 ≤ r26 ∧ r26 ≤ 1) → ((r26 = 0 → PX13_isSign 256 G25 (fun r30 G29 => (0 ≤ r30 ∧ r30 ≤ 1) → ((r30 = 0 → PX13_expression_140 R r21 G29 Q) ∧ (¬ (r30 = 0) → PX13_expression_90 R r21 G29 Q)))) ∧ (¬ (r26 = 0) → PX13_expression_90 R r21 G25 Q)))) ∧ (¬ (G20 16081 20 = 0) → PX13_expression_140 R r21 G20 Q)))))))))))))) ∧ (¬ (G 16081 20 = 0) → Q (-2) G)))
abbrev PX13_expression (R : Nat → List Int → gS → (Int → gS → Prop) → Prop)  (G : gS) (Q : Int → gS → Prop) : Prop := PX13_expression_0 R  G Q
def PX13_first_355 (R : Nat → List Int → gS → (Int → gS → Prop) → Prop) (l1 : Int) (l2 : Int) (s0 : Int) (G : gS) (Q : Int → gS → Prop) : Prop :=
  Q (s0) G
def PX13_first_193 (R : Nat → List Int → gS → (Int → gS → Prop) → Prop) (l1 : Int) (l2 : Int) (l3 : Int) (l5 : Int) (l6 : Int) (s0 : Int) (s1 : Int) (s2 : Int) (G : gS) (Q : Int → gS → Prop) : Prop :=
  (∃ n133, isA W0 0 n133 (s0) ∧ ((0 : Int) ≤ s1 ∧ ((s1 : Int) < n133 ∧ (∀ G137 : gS, G137 = uG G s0 s1 (s2) → Q (l6) G137))))
def PX13_first_159 (R : Nat → List Int → gS → (Int → gS → Prop) → Prop) (l1 : Int) (l2 : Int) (l3 : Int) (l5 : Int) (s0 : Int) (s1 : Int) (G : gS) (Q : Int → gS → Prop) : Prop :=
  (isO W0 13 (s0) ∧ PX13_node s1 l1 G (fun r118 G117 => inI r118 → ((0 : Int) ≤ r118 ∧ ((r118 : Int) < 30600 ∧ (∀ G122 : gS, G122 = uG G117 16148 r118 (l3) → ((l5 = 0 → PX13_first_193 R l1 l2 l3 l5 r118 16152 r118 (-2) G122 Q) ∧ (¬ (l5 = 0) → R 0 [] G122 (fun r125 G124 => inI r125 → PX13_first_193 R l1 l2 l3 l5 r118 16152 r118 r125 G124 Q))))))))
def PX13_first_146 (R : Nat → List Int → gS → (Int → gS → Prop) → Prop) (l1 : Int) (l2 : Int) (l3 : Int) (s0 : Int) (G : gS) (Q : Int → gS → Prop) : Prop :=
  ((s0 = 0 → PX13_first_159 R l1 l2 l3 s0 16081 3 G Q) ∧ (¬ (s0 = 0) → PX13_first_159 R l1 l2 l3 s0 16081 4 G Q))
def PX13_first_145 (R : Nat → List Int → gS → (Int → gS → Prop) → Prop) (l1 : Int) (l2 : Int) (l3 : Int) (G : gS) (Q : Int → gS → Prop) : Prop :=
  PX13_first_146 R l1 l2 l3 0 G Q
def PX13_first_96 (R : Nat → List Int → gS → (Int → gS → Prop) → Prop) (l1 : Int) (l2 : Int) (s0 : Int) (s1 : Int) (G : gS) (Q : Int → gS → Prop) : Prop :=
  (isO W0 13 (s0) ∧ PX13_node s1 l1 G (fun r129 G128 => inI r129 → PX13_step G128 (fun _ G131 => Q (r129) G131)))
def PX13_first_80 (R : Nat → List Int → gS → (Int → gS → Prop) → Prop) (l1 : Int) (l2 : Int) (G : gS) (Q : Int → gS → Prop) : Prop :=
  PX13_isWordAt 45 G (fun r113 G112 => (0 ≤ r113 ∧ r113 ≤ 1) → ((r113 = 0 → PX13_first_96 R l1 l2 16081 2 G112 Q) ∧ (¬ (r113 = 0) → PX13_first_96 R l1 l2 16081 1 G112 Q)))
def PX13_first_0 (R : Nat → List Int → gS → (Int → gS → Prop) → Prop)  (G : gS) (Q : Int → gS → Prop) : Prop :=
  (inI (G 16081 22) → PX13_placeAt (G 16081 22) G (fun r3 G2 => inI r3 → (inI (G2 16081 22) → PX13_kindAt (G2 16081 22) G2 (fun r7 G6 => inI r7 → ((r7 = 4 → PX13_node 0 r3 G6 (fun r11 G10 => inI r11 → (inI (G10 16081 19) → (inI (G10 16081 22) → ((0 : Int) ≤ ((G10 16081 19) * 702) + (G10 16081 22) ∧ ((((G10 16081 19) * 702) + (G10 16081 22) : Int) < 12636 ∧ (inI (G10 16094 (((G10 16081 19) * 702) + (G10 16081 22))) → ((0 : Int) ≤ r11 ∧ ((r11 : Int) < 30600 ∧ (∀ G20 : gS, G20 = uG G10 16155 r11 (G10 16094 (((G10 16081 19) * 702) + (G10 16081 22))) → PX13_step G20 (fun _ G21 => Q (r11) G21))))))))))) ∧ (¬ (r7 = 4) → PX13_isWordAt 45 G6 (fun r24 G23 => (0 ≤ r24 ∧ r24 ≤ 1) → ((r24 = 0 → PX13_isWordAt 46 G23 (fun r28 G27 => (0 ≤ r28 ∧ r28 ≤ 1) → ((r28 = 0 → ((r7 = 2 → (inI (G27 16081 22) → PX13_nameAt (G27 16081 22) G27 (fun r34 G33 => inL r34 → PX13_step G33 (fun _ G36 => (inI (G36 16081 20) → ((G36 16081 20 = 0 → PX13_isSign 40 G36 (fun r41 G40 => (0 ≤ r41 ∧ r41 ≤ 1) → ((r41 = 0 → PX13_first_145 R r3 r7 r34 G40 Q) ∧ (¬ (r41 = 0) → PX13_first_146 R r3 r7 r34 1 G40 Q)))) ∧ (¬ (G36 16081 20 = 0) → PX13_first_145 R r3 r7 r34 G36 Q))))))) ∧ (¬ (r7 = 2) → ((r7 = 1 → R 4 [r3] G27 (fun r46 G45 => inI r46 → Q (r46) G45)) ∧ (¬ (r7 = 1) → PX13_takesWord 47 G27 (fun r49 G48 => (0 ≤ r49 ∧ r49 ≤ 1) → ((r49 = 0 → PX13_takesWord 43 G48 (fun r53 G52 => (0 ≤ r53 ∧ r53 ≤ 1) → ((r53 = 0 → (inI (G52 16081 20) → ((G52 16081 20 = 0 → R 3 [r3] G52 (fun r59 G58 => inI r59 → PX13_first_355 R r3 r7 r59 G58 Q)) ∧ (¬ (G52 16081 20 = 0) → PX13_first_355 R r3 r7 (-2) G52 Q)))) ∧ (¬ (r53 = 0) → PX13_node 9 r3 G52 (fun r62 G61 => inI r62 → PX13_want 1 0 G61 (fun r65 G64 => inI r65 → PX13_nameAt r65 G64 (fun r68 G67 => inL r68 → ((0 : Int) ≤ r62 ∧ ((r62 : Int) < 30600 ∧ (∀ G72 : gS, G72 = uG G67 16149 r62 (r68) → PX13_placeAt r65 G72 (fun r74 G73 => inI r74 → ((0 : Int) ≤ r62 ∧ ((r62 : Int) < 30600 ∧ (∀ G78 : gS, G78 = uG G73 16147 r62 (r74) → R 0 [] G78 (fun r80 G79 => inI r80 → ((0 : Int) ≤ r62 ∧ ((r62 : Int) < 30600 ∧ (∀ G84 : gS, G84 = uG G79 16152 r62 (r80) → Q (r62) G84)))))))))))))))))) ∧ (¬ (r49 = 0) → PX13_node 8 r3 G48 (fun r86 G85 => inI r86 → PX13_wantSign 46 G85 (fun _ G88 => PX13_want 2 0 G88 (fun r91 G90 => inI r91 → PX13_nameAt r91 G90 (fun r94 G93 => inL r94 → ((0 : Int) ≤ r86 ∧ ((r86 : Int) < 30600 ∧ (∀ G98 : gS, G98 = uG G93 16148 r86 (r94) → PX13_placeAt r91 G98 (fun r100 G99 => inI r100 → ((0 : Int) ≤ r86 ∧ ((r86 : Int) < 30600 ∧ (∀ G104 : gS, G104 = uG G99 16146 r86 (r100) → R 0 [] G104 (fun r106 G105 => inI r106 → ((0 : Int) ≤ r86 ∧ ((r86 : Int) < 30600 ∧ (∀ G110 : gS, G110 = uG G105 16152 r86 (r106) → Q (r86) G110))))))))))))))))))))))) ∧ (¬ (r28 = 0) → PX13_first_80 R r3 r7 G27 Q)))) ∧ (¬ (r24 = 0) → PX13_first_80 R r3 r7 G23 Q)))))))))
abbrev PX13_first (R : Nat → List Int → gS → (Int → gS → Prop) → Prop)  (G : gS) (Q : Int → gS → Prop) : Prop := PX13_first_0 R  G Q
def PX13_inBrackets_206 (R : Nat → List Int → gS → (Int → gS → Prop) → Prop) (l1 : Int) (l2 : Int) (l3 : Int) (s0 : Int) (s1 : Int) (s2 : Int) (G : gS) (Q : Int → gS → Prop) : Prop :=
  (∃ n83, isA W0 0 n83 (s0) ∧ ((0 : Int) ≤ s1 ∧ ((s1 : Int) < n83 ∧ (∀ G87 : gS, G87 = uG G s0 s1 (s2) → (inI (G87 16081 89) → (inI ((G87 16081 89) - 1) ∧ (∀ G90 : gS, G90 = uG G87 16081 89 ((G87 16081 89) - 1) → Q (l3) G90)))))))
def PX13_inBrackets_175 (R : Nat → List Int → gS → (Int → gS → Prop) → Prop) (l1 : Int) (l2 : Int) (l3 : Int) (G : gS) (Q : Int → gS → Prop) : Prop :=
  (inI (G 16081 89) → (inI ((G 16081 89) + 1) ∧ (∀ G67 : gS, G67 = uG G 16081 89 ((G 16081 89) + 1) → (inI (G67 16081 20) → ((G67 16081 20 = 0 → R 7 [] G67 (fun r71 G70 => inI r71 → PX13_inBrackets_206 R l1 l2 l3 16151 l3 r71 G70 Q)) ∧ (¬ (G67 16081 20 = 0) → PX13_inBrackets_206 R l1 l2 l3 16151 l3 (-2) G67 Q))))))
def PX13_inBrackets_146 (R : Nat → List Int → gS → (Int → gS → Prop) → Prop) (l1 : Int) (l2 : Int) (l3 : Int) (G : gS) (Q : Int → gS → Prop) : Prop :=
  (inI (G 16081 20) → ((G 16081 20 = 0 → (inI (G 16081 89) → ((G 16081 89 = 12 → (inI (G 16081 22) → PX13_placeAt (G 16081 22) G (fun r79 G78 => inI r79 → PX13_fault 3 r79 G78 (fun _ G81 => PX13_inBrackets_175 R l1 l2 l3 G81 Q)))) ∧ (¬ (G 16081 89 = 12) → PX13_inBrackets_175 R l1 l2 l3 G Q)))) ∧ (¬ (G 16081 20 = 0) → PX13_inBrackets_175 R l1 l2 l3 G Q)))
def PX13_inBrackets_70 (R : Nat → List Int → gS → (Int → gS → Prop) → Prop) (l1 : Int) (s0 : Int) (G : gS) (Q : Int → gS → Prop) : Prop :=
  PX13_wantSign 40 G (fun _ G22 => ((s0 = 0 → PX13_node 11 l1 G22 (fun r26 G25 => inI r26 → R 1 [] G25 (fun r29 G28 => inI r29 → ((0 : Int) ≤ r26 ∧ ((r26 : Int) < 30600 ∧ (∀ G33 : gS, G33 = uG G28 16151 r26 (r29) → PX13_wantSign 41 G33 (fun _ G34 => Q (r26) G34))))))) ∧ (¬ (s0 = 0) → PX13_node 10 l1 G22 (fun r37 G36 => inI r37 → (inI (G36 16081 22) → PX13_nameAt (G36 16081 22) G36 (fun r41 G40 => inL r41 → ((0 : Int) ≤ r37 ∧ ((r37 : Int) < 30600 ∧ (∀ G45 : gS, G45 = uG G40 16149 r37 (r41) → (inI (G45 16081 22) → PX13_placeAt (G45 16081 22) G45 (fun r48 G47 => inI r48 → ((0 : Int) ≤ r37 ∧ ((r37 : Int) < 30600 ∧ (∀ G52 : gS, G52 = uG G47 16147 r37 (r48) → PX13_step G52 (fun _ G53 => PX13_step G53 (fun _ G55 => (inI (G55 16081 20) → ((G55 16081 20 = 0 → PX13_beginsE G55 (fun r60 G59 => (0 ≤ r60 ∧ r60 ≤ 1) → ((r60 = 0 → PX13_wrong G59 (fun _ G63 => PX13_inBrackets_175 R l1 s0 r37 G63 Q)) ∧ (¬ (r60 = 0) → PX13_inBrackets_146 R l1 s0 r37 G59 Q)))) ∧ (¬ (G55 16081 20 = 0) → PX13_inBrackets_146 R l1 s0 r37 G55 Q)))))))))))))))))))
def PX13_inBrackets_69 (R : Nat → List Int → gS → (Int → gS → Prop) → Prop) (l1 : Int) (G : gS) (Q : Int → gS → Prop) : Prop :=
  PX13_inBrackets_70 R l1 0 G Q
def PX13_inBrackets_0 (R : Nat → List Int → gS → (Int → gS → Prop) → Prop) (a1 : Int) (G : gS) (Q : Int → gS → Prop) : Prop :=
  (inI (G 16081 22) → (inI ((G 16081 22) + 2) ∧ ((700 < (G 16081 22) + 2 → PX13_inBrackets_69 R a1 G Q) ∧ (¬ (700 < (G 16081 22) + 2) → (inI (G 16081 22) → (inI ((G 16081 22) + 1) ∧ PX13_kindAt ((G 16081 22) + 1) G (fun r7 G6 => inI r7 → ((r7 = 1 → (inI (G6 16081 22) → (inI ((G6 16081 22) + 2) ∧ PX13_kindAt ((G6 16081 22) + 2) G6 (fun r13 G12 => inI r13 → ((r13 = 5 → (inI (G12 16081 19) → (inI (G12 16081 22) → ((0 : Int) ≤ (((G12 16081 19) * 702) + (G12 16081 22)) + 2 ∧ (((((G12 16081 19) * 702) + (G12 16081 22)) + 2 : Int) < 12636 ∧ (inI (G12 16094 ((((G12 16081 19) * 702) + (G12 16081 22)) + 2)) → ((G12 16094 ((((G12 16081 19) * 702) + (G12 16081 22)) + 2) = 41 → PX13_inBrackets_70 R a1 1 G12 Q) ∧ (¬ (G12 16094 ((((G12 16081 19) * 702) + (G12 16081 22)) + 2) = 41) → PX13_inBrackets_69 R a1 G12 Q)))))))) ∧ (¬ (r13 = 5) → PX13_inBrackets_69 R a1 G12 Q)))))) ∧ (¬ (r7 = 1) → PX13_inBrackets_69 R a1 G6 Q)))))))))
abbrev PX13_inBrackets (R : Nat → List Int → gS → (Int → gS → Prop) → Prop) (a1 : Int) (G : gS) (Q : Int → gS → Prop) : Prop := PX13_inBrackets_0 R a1 G Q
def PX13_ofClass_237 (R : Nat → List Int → gS → (Int → gS → Prop) → Prop) (l1 : Int) (l2 : Int) (l4 : Int) (l5 : Int) (l6 : Int) (s0 : Int) (s1 : Int) (s2 : Int) (G : gS) (Q : Int → gS → Prop) : Prop :=
  (∃ n91, isA W0 0 n91 (s0) ∧ ((0 : Int) ≤ s1 ∧ ((s1 : Int) < n91 ∧ (∀ G95 : gS, G95 = uG G s0 s1 (s2) → Q (l6) G95))))
def PX13_ofClass_177 (R : Nat → List Int → gS → (Int → gS → Prop) → Prop) (l1 : Int) (l2 : Int) (l4 : Int) (l5 : Int) (s0 : Int) (s1 : Int) (G : gS) (Q : Int → gS → Prop) : Prop :=
  (isO W0 13 (s0) ∧ PX13_node s1 l1 G (fun r70 G69 => inI r70 → ((0 : Int) ≤ r70 ∧ ((r70 : Int) < 30600 ∧ (∀ G74 : gS, G74 = uG G69 16149 r70 (l2) → PX13_nameAt l4 G74 (fun r76 G75 => inL r76 → ((0 : Int) ≤ r70 ∧ ((r70 : Int) < 30600 ∧ (∀ G80 : gS, G80 = uG G75 16148 r70 (r76) → PX13_placeAt l4 G80 (fun r82 G81 => inI r82 → ((0 : Int) ≤ r70 ∧ ((r70 : Int) < 30600 ∧ (∀ G86 : gS, G86 = uG G81 16146 r70 (r82) → ((l5 = 0 → PX13_ofClass_237 R l1 l2 l4 l5 r70 16152 r70 (-2) G86 Q) ∧ (¬ (l5 = 0) → R 0 [] G86 (fun r89 G88 => inI r89 → PX13_ofClass_237 R l1 l2 l4 l5 r70 16152 r70 r89 G88 Q))))))))))))))))
def PX13_ofClass_163 (R : Nat → List Int → gS → (Int → gS → Prop) → Prop) (l1 : Int) (l2 : Int) (l4 : Int) (s0 : Int) (G : gS) (Q : Int → gS → Prop) : Prop :=
  ((s0 = 0 → PX13_ofClass_177 R l1 l2 l4 s0 16081 5 G Q) ∧ (¬ (s0 = 0) → PX13_ofClass_177 R l1 l2 l4 s0 16081 6 G Q))
def PX13_ofClass_162 (R : Nat → List Int → gS → (Int → gS → Prop) → Prop) (l1 : Int) (l2 : Int) (l4 : Int) (G : gS) (Q : Int → gS → Prop) : Prop :=
  PX13_ofClass_163 R l1 l2 l4 0 G Q
def PX13_ofClass_0 (R : Nat → List Int → gS → (Int → gS → Prop) → Prop) (a1 : Int) (G : gS) (Q : Int → gS → Prop) : Prop :=
  (inI (G 16081 22) → PX13_nameAt (G 16081 22) G (fun r3 G2 => inL r3 → PX13_step G2 (fun _ G5 => PX13_wantSign 46 G5 (fun _ G7 => PX13_takesWord 47 G7 (fun r10 G9 => (0 ≤ r10 ∧ r10 ≤ 1) → ((r10 = 0 → PX13_want 2 0 G9 (fun r14 G13 => inI r14 → (inI (G13 16081 20) → ((G13 16081 20 = 0 → PX13_isSign 40 G13 (fun r19 G18 => (0 ≤ r19 ∧ r19 ≤ 1) → ((r19 = 0 → PX13_ofClass_162 R a1 r3 r14 G18 Q) ∧ (¬ (r19 = 0) → PX13_ofClass_163 R a1 r3 r14 1 G18 Q)))) ∧ (¬ (G13 16081 20 = 0) → PX13_ofClass_162 R a1 r3 r14 G13 Q))))) ∧ (¬ (r10 = 0) → PX13_node 7 a1 G9 (fun r23 G22 => inI r23 → ((0 : Int) ≤ r23 ∧ ((r23 : Int) < 30600 ∧ (∀ G27 : gS, G27 = uG G22 16149 r23 (r3) → (inI (G27 16081 22) → (inI ((G27 16081 22) - 1) ∧ PX13_placeAt ((G27 16081 22) - 1) G27 (fun r31 G30 => inI r31 → ((0 : Int) ≤ r23 ∧ ((r23 : Int) < 30600 ∧ (∀ G35 : gS, G35 = uG G30 16146 r23 (r31) → (inI (G35 16081 22) → (inI ((G35 16081 22) - 1) ∧ PX13_placeAt ((G35 16081 22) - 1) G35 (fun r39 G38 => inI r39 → ((0 : Int) ≤ r23 ∧ ((r23 : Int) < 30600 ∧ (∀ G43 : gS, G43 = uG G38 16153 r23 (r39) → PX13_wantSign 46 G43 (fun _ G44 => PX13_want 2 0 G44 (fun r47 G46 => inI r47 → PX13_nameAt r47 G46 (fun r50 G49 => inL r50 → ((0 : Int) ≤ r23 ∧ ((r23 : Int) < 30600 ∧ (∀ G54 : gS, G54 = uG G49 16148 r23 (r50) → PX13_placeAt r47 G54 (fun r56 G55 => inI r56 → ((0 : Int) ≤ r23 ∧ ((r23 : Int) < 30600 ∧ (∀ G60 : gS, G60 = uG G55 16146 r23 (r56) → R 0 [] G60 (fun r62 G61 => inI r62 → ((0 : Int) ≤ r23 ∧ ((r23 : Int) < 30600 ∧ (∀ G66 : gS, G66 = uG G61 16152 r23 (r62) → Q (r23) G66)))))))))))))))))))))))))))))))))))))
abbrev PX13_ofClass (R : Nat → List Int → gS → (Int → gS → Prop) → Prop) (a1 : Int) (G : gS) (Q : Int → gS → Prop) : Prop := PX13_ofClass_0 R a1 G Q
def PX13_product_60 (R : Nat → List Int → gS → (Int → gS → Prop) → Prop) (J : Nat → List Int → gS → (Int → gS → Prop) → Prop) (l1 : Int) (G : gS) (Q : Int → gS → Prop) : Prop :=
  Q (l1) G
def PX13_product_5 (R : Nat → List Int → gS → (Int → gS → Prop) → Prop) (J : Nat → List Int → gS → (Int → gS → Prop) → Prop) (l1 : Int) (G : gS) (Q : Int → gS → Prop) : Prop :=
  (inI (G 16081 20) → ((G 16081 20 = 0 → PX13_isSign 42 G (fun r7 G6 => (0 ≤ r7 ∧ r7 ≤ 1) → ((r7 = 0 → PX13_product_60 R J l1 G6 Q) ∧ (¬ (r7 = 0) → ((0 : Int) ≤ l1 ∧ ((l1 : Int) < 30600 ∧ (inI (G6 16145 l1) → PX13_node 17 (G6 16145 l1) G6 (fun r14 G13 => inI r14 → PX13_step G13 (fun _ G16 => ((0 : Int) ≤ r14 ∧ ((r14 : Int) < 30600 ∧ (∀ G20 : gS, G20 = uG G16 16151 r14 (l1) → R 7 [] G20 (fun r22 G21 => inI r22 → ((0 : Int) ≤ r14 ∧ ((r14 : Int) < 30600 ∧ (∀ G26 : gS, G26 = uG G21 16152 r14 (r22) → J 0 [r14] G26 Q)))))))))))))))) ∧ (¬ (G 16081 20 = 0) → PX13_product_60 R J l1 G Q)))
def PX13_product_0 (R : Nat → List Int → gS → (Int → gS → Prop) → Prop) (J : Nat → List Int → gS → (Int → gS → Prop) → Prop)  (G : gS) (Q : Int → gS → Prop) : Prop :=
  R 7 [] G (fun r2 G1 => inI r2 → PX13_product_5 R J r2 G1 Q)
def PX13_product_J (R : Nat → List Int → gS → (Int → gS → Prop) → Prop) : Nat → Nat → List Int → gS → (Int → gS → Prop) → Prop
  | 0, _, _, _, _ => False
  | f + 1, h, L, G, Q => match h, L with
    | 0, [l1] => PX13_product_5 R (PX13_product_J R f) l1 G Q
    | _, _ => False
def PX13_product (R : Nat → List Int → gS → (Int → gS → Prop) → Prop)  (G : gS) (Q : Int → gS → Prop) : Prop := ∃ f : Nat, f ≤ 4000000000 ∧ PX13_product_0 R (PX13_product_J R f)  G Q
def PX13_sum_83 (R : Nat → List Int → gS → (Int → gS → Prop) → Prop) (J : Nat → List Int → gS → (Int → gS → Prop) → Prop) (l1 : Int) (G : gS) (Q : Int → gS → Prop) : Prop :=
  Q (l1) G
def PX13_sum_47 (R : Nat → List Int → gS → (Int → gS → Prop) → Prop) (J : Nat → List Int → gS → (Int → gS → Prop) → Prop) (l1 : Int) (s0 : Int) (s1 : Int) (G : gS) (Q : Int → gS → Prop) : Prop :=
  ((0 : Int) ≤ l1 ∧ ((l1 : Int) < 30600 ∧ (inI (G 16145 l1) → (isO W0 13 (s0) ∧ PX13_node s1 (G 16145 l1) G (fun r23 G22 => inI r23 → PX13_step G22 (fun _ G25 => ((0 : Int) ≤ r23 ∧ ((r23 : Int) < 30600 ∧ (∀ G29 : gS, G29 = uG G25 16151 r23 (l1) → R 5 [] G29 (fun r31 G30 => inI r31 → ((0 : Int) ≤ r23 ∧ ((r23 : Int) < 30600 ∧ (∀ G35 : gS, G35 = uG G30 16152 r23 (r31) → J 0 [r23] G35 Q)))))))))))))
def PX13_sum_30 (R : Nat → List Int → gS → (Int → gS → Prop) → Prop) (J : Nat → List Int → gS → (Int → gS → Prop) → Prop) (l1 : Int) (G : gS) (Q : Int → gS → Prop) : Prop :=
  PX13_isSign 43 G (fun r15 G14 => (0 ≤ r15 ∧ r15 ≤ 1) → ((r15 = 0 → PX13_sum_47 R J l1 16081 16 G14 Q) ∧ (¬ (r15 = 0) → PX13_sum_47 R J l1 16081 15 G14 Q)))
def PX13_sum_5 (R : Nat → List Int → gS → (Int → gS → Prop) → Prop) (J : Nat → List Int → gS → (Int → gS → Prop) → Prop) (l1 : Int) (G : gS) (Q : Int → gS → Prop) : Prop :=
  (inI (G 16081 20) → ((G 16081 20 = 0 → PX13_isSign 43 G (fun r7 G6 => (0 ≤ r7 ∧ r7 ≤ 1) → ((r7 = 0 → PX13_isSign 45 G6 (fun r11 G10 => (0 ≤ r11 ∧ r11 ≤ 1) → ((r11 = 0 → PX13_sum_83 R J l1 G10 Q) ∧ (¬ (r11 = 0) → PX13_sum_30 R J l1 G10 Q)))) ∧ (¬ (r7 = 0) → PX13_sum_30 R J l1 G6 Q)))) ∧ (¬ (G 16081 20 = 0) → PX13_sum_83 R J l1 G Q)))
def PX13_sum_0 (R : Nat → List Int → gS → (Int → gS → Prop) → Prop) (J : Nat → List Int → gS → (Int → gS → Prop) → Prop)  (G : gS) (Q : Int → gS → Prop) : Prop :=
  R 5 [] G (fun r2 G1 => inI r2 → PX13_sum_5 R J r2 G1 Q)
def PX13_sum_J (R : Nat → List Int → gS → (Int → gS → Prop) → Prop) : Nat → Nat → List Int → gS → (Int → gS → Prop) → Prop
  | 0, _, _, _, _ => False
  | f + 1, h, L, G, Q => match h, L with
    | 0, [l1] => PX13_sum_5 R (PX13_sum_J R f) l1 G Q
    | _, _ => False
def PX13_sum (R : Nat → List Int → gS → (Int → gS → Prop) → Prop)  (G : gS) (Q : Int → gS → Prop) : Prop := ∃ f : Nat, f ≤ 4000000000 ∧ PX13_sum_0 R (PX13_sum_J R f)  G Q
def PX13_unit_269 (R : Nat → List Int → gS → (Int → gS → Prop) → Prop) (J : Nat → List Int → gS → (Int → gS → Prop) → Prop) (l1 : Int) (l2 : Int) (s0 : Int) (G : gS) (Q : Int → gS → Prop) : Prop :=
  J 0 [l1, s0] G Q
def PX13_unit_268 (R : Nat → List Int → gS → (Int → gS → Prop) → Prop) (J : Nat → List Int → gS → (Int → gS → Prop) → Prop) (l1 : Int) (l2 : Int) (G : gS) (Q : Int → gS → Prop) : Prop :=
  PX13_unit_269 R J l1 l2 0 G Q
def PX13_unit_253 (R : Nat → List Int → gS → (Int → gS → Prop) → Prop) (J : Nat → List Int → gS → (Int → gS → Prop) → Prop) (l1 : Int) (l2 : Int) (G : gS) (Q : Int → gS → Prop) : Prop :=
  ((l2 = 0 → PX13_unit_268 R J l1 l2 G Q) ∧ (¬ (l2 = 0) → (inI (G 16081 20) → ((G 16081 20 = 0 → PX13_unit_269 R J l1 l2 1 G Q) ∧ (¬ (G 16081 20 = 0) → PX13_unit_268 R J l1 l2 G Q)))))
def PX13_unit_171 (R : Nat → List Int → gS → (Int → gS → Prop) → Prop) (J : Nat → List Int → gS → (Int → gS → Prop) → Prop) (l1 : Int) (l2 : Int) (l3 : Int) (l4 : Int) (l5 : Int) (s0 : Int) (s1 : Int) (s2 : Int) (G : gS) (Q : Int → gS → Prop) : Prop :=
  (∃ n92, isA W0 0 n92 (s0) ∧ ((0 : Int) ≤ s1 ∧ ((s1 : Int) < n92 ∧ (∀ G96 : gS, G96 = uG G s0 s1 (s2) → PX13_unit_253 R J l5 l2 G96 Q))))
def PX13_unit_108 (R : Nat → List Int → gS → (Int → gS → Prop) → Prop) (J : Nat → List Int → gS → (Int → gS → Prop) → Prop) (l1 : Int) (l2 : Int) (l3 : Int) (l4 : Int) (s0 : Int) (s1 : Int) (G : gS) (Q : Int → gS → Prop) : Prop :=
  ((0 : Int) ≤ l1 ∧ ((l1 : Int) < 30600 ∧ (inI (G 16145 l1) → (isO W0 13 (s0) ∧ PX13_node s1 (G 16145 l1) G (fun r71 G70 => inI r71 → PX13_nameAt l3 G70 (fun r74 G73 => inL r74 → ((0 : Int) ≤ r71 ∧ ((r71 : Int) < 30600 ∧ (∀ G78 : gS, G78 = uG G73 16148 r71 (r74) → PX13_placeAt l3 G78 (fun r80 G79 => inI r80 → ((0 : Int) ≤ r71 ∧ ((r71 : Int) < 30600 ∧ (∀ G84 : gS, G84 = uG G79 16146 r71 (r80) → ((0 : Int) ≤ r71 ∧ ((r71 : Int) < 30600 ∧ (∀ G87 : gS, G87 = uG G84 16151 r71 (l1) → ((l4 = 0 → PX13_unit_171 R J l1 l2 l3 l4 r71 16152 r71 (-2) G87 Q) ∧ (¬ (l4 = 0) → R 0 [] G87 (fun r90 G89 => inI r90 → PX13_unit_171 R J l1 l2 l3 l4 r71 16152 r71 r90 G89 Q)))))))))))))))))))
def PX13_unit_93 (R : Nat → List Int → gS → (Int → gS → Prop) → Prop) (J : Nat → List Int → gS → (Int → gS → Prop) → Prop) (l1 : Int) (l2 : Int) (l3 : Int) (s0 : Int) (G : gS) (Q : Int → gS → Prop) : Prop :=
  ((s0 = 0 → PX13_unit_108 R J l1 l2 l3 s0 16081 12 G Q) ∧ (¬ (s0 = 0) → PX13_unit_108 R J l1 l2 l3 s0 16081 13 G Q))
def PX13_unit_92 (R : Nat → List Int → gS → (Int → gS → Prop) → Prop) (J : Nat → List Int → gS → (Int → gS → Prop) → Prop) (l1 : Int) (l2 : Int) (l3 : Int) (G : gS) (Q : Int → gS → Prop) : Prop :=
  PX13_unit_93 R J l1 l2 l3 0 G Q
def PX13_unit_48 (R : Nat → List Int → gS → (Int → gS → Prop) → Prop) (J : Nat → List Int → gS → (Int → gS → Prop) → Prop) (l1 : Int) (l2 : Int) (G : gS) (Q : Int → gS → Prop) : Prop :=
  ((l2 = 0 → Q (l1) G) ∧ (¬ (l2 = 0) → PX13_isSign 46 G (fun r18 G17 => (0 ≤ r18 ∧ r18 ≤ 1) → ((r18 = 0 → PX13_isWordAt 57 G17 (fun r22 G21 => (0 ≤ r22 ∧ r22 ≤ 1) → ((r22 = 0 → PX13_unit_253 R J l1 0 G21 Q) ∧ (¬ (r22 = 0) → PX13_step G21 (fun _ G25 => PX13_want 1 0 G25 (fun r28 G27 => inI r28 → ((0 : Int) ≤ l1 ∧ ((l1 : Int) < 30600 ∧ (inI (G27 16145 l1) → PX13_node 14 (G27 16145 l1) G27 (fun r34 G33 => inI r34 → PX13_nameAt r28 G33 (fun r37 G36 => inL r37 → ((0 : Int) ≤ r34 ∧ ((r34 : Int) < 30600 ∧ (∀ G41 : gS, G41 = uG G36 16149 r34 (r37) → PX13_placeAt r28 G41 (fun r43 G42 => inI r43 → ((0 : Int) ≤ r34 ∧ ((r34 : Int) < 30600 ∧ (∀ G47 : gS, G47 = uG G42 16147 r34 (r43) → ((0 : Int) ≤ r34 ∧ ((r34 : Int) < 30600 ∧ (∀ G50 : gS, G50 = uG G47 16151 r34 (l1) → PX13_unit_253 R J r34 l2 G50 Q))))))))))))))))))))) ∧ (¬ (r18 = 0) → PX13_step G17 (fun _ G51 => PX13_want 2 0 G51 (fun r54 G53 => inI r54 → (inI (G53 16081 20) → ((G53 16081 20 = 0 → PX13_isSign 40 G53 (fun r59 G58 => (0 ≤ r59 ∧ r59 ≤ 1) → ((r59 = 0 → PX13_unit_92 R J l1 l2 r54 G58 Q) ∧ (¬ (r59 = 0) → PX13_unit_93 R J l1 l2 r54 1 G58 Q)))) ∧ (¬ (G53 16081 20 = 0) → PX13_unit_92 R J l1 l2 r54 G53 Q))))))))))
def PX13_unit_47 (R : Nat → List Int → gS → (Int → gS → Prop) → Prop) (J : Nat → List Int → gS → (Int → gS → Prop) → Prop) (l1 : Int) (s0 : Int) (G : gS) (Q : Int → gS → Prop) : Prop :=
  PX13_unit_48 R J l1 s0 G Q
def PX13_unit_34 (R : Nat → List Int → gS → (Int → gS → Prop) → Prop) (J : Nat → List Int → gS → (Int → gS → Prop) → Prop) (s0 : Int) (G : gS) (Q : Int → gS → Prop) : Prop :=
  (inI (G 16081 20) → ((G 16081 20 = 0 → PX13_unit_47 R J s0 1 G Q) ∧ (¬ (G 16081 20 = 0) → PX13_unit_47 R J s0 0 G Q)))
def PX13_unit_18 (R : Nat → List Int → gS → (Int → gS → Prop) → Prop) (J : Nat → List Int → gS → (Int → gS → Prop) → Prop)  (G : gS) (Q : Int → gS → Prop) : Prop :=
  (inI (G 16081 20) → ((G 16081 20 = 0 → R 2 [] G (fun r12 G11 => inI r12 → PX13_unit_34 R J r12 G11 Q)) ∧ (¬ (G 16081 20 = 0) → PX13_unit_34 R J (-2) G Q)))
def PX13_unit_0 (R : Nat → List Int → gS → (Int → gS → Prop) → Prop) (J : Nat → List Int → gS → (Int → gS → Prop) → Prop)  (G : gS) (Q : Int → gS → Prop) : Prop :=
  (inI (G 16081 20) → ((G 16081 20 = 0 → PX13_beginsE G (fun r4 G3 => (0 ≤ r4 ∧ r4 ≤ 1) → ((r4 = 0 → PX13_wrong G3 (fun _ G7 => PX13_unit_18 R J  G7 Q)) ∧ (¬ (r4 = 0) → PX13_unit_18 R J  G3 Q)))) ∧ (¬ (G 16081 20 = 0) → PX13_unit_18 R J  G Q)))
def PX13_unit_J (R : Nat → List Int → gS → (Int → gS → Prop) → Prop) : Nat → Nat → List Int → gS → (Int → gS → Prop) → Prop
  | 0, _, _, _, _ => False
  | f + 1, h, L, G, Q => match h, L with
    | 0, [l1, l2] => PX13_unit_48 R (PX13_unit_J R f) l1 l2 G Q
    | _, _ => False
def PX13_unit (R : Nat → List Int → gS → (Int → gS → Prop) → Prop)  (G : gS) (Q : Int → gS → Prop) : Prop := ∃ f : Nat, f ≤ 4000000000 ∧ PX13_unit_0 R (PX13_unit_J R f)  G Q
def Rq8 : Nat → Nat → List Int → gS → (Int → gS → Prop) → Prop
  | 0, _, _, _, _ => False
  | n + 1, i, L, G, Q => match i, L with
    | 0, [] => PX13_arguments (Rq8 n)  G Q
    | 1, [] => PX13_expression (Rq8 n)  G Q
    | 2, [] => PX13_first (Rq8 n)  G Q
    | 3, [a1] => PX13_inBrackets (Rq8 n) a1 G Q
    | 4, [a1] => PX13_ofClass (Rq8 n) a1 G Q
    | 5, [] => PX13_product (Rq8 n)  G Q
    | 6, [] => PX13_sum (Rq8 n)  G Q
    | 7, [] => PX13_unit (Rq8 n)  G Q
    | _, _ => False
def PX13_typeToken_38 (l1 : Int) (s0 : Int) (G : gS) (Q : Int → gS → Prop) : Prop :=
  Q (s0) G
def PX13_typeToken_0  (G : gS) (Q : Int → gS → Prop) : Prop :=
  PX13_takesWord 27 G (fun r2 G1 => (0 ≤ r2 ∧ r2 ≤ 1) → ((r2 = 0 → PX13_want 1 0 G1 (fun r6 G5 => inI r6 → (inI (G5 16081 20) → ((G5 16081 20 = 0 → PX13_nameAt r6 G5 (fun r11 G10 => inL r11 → PX13_typeToken_38 r6 r11 G10 Q)) ∧ (¬ (G5 16081 20 = 0) → PX13_typeToken_38 r6 2 G5 Q))))) ∧ (¬ (r2 = 0) → Q (2) G1)))
abbrev PX13_typeToken  (G : gS) (Q : Int → gS → Prop) : Prop := PX13_typeToken_0  G Q
def PX13_block_88 (R : Nat → List Int → gS → (Int → gS → Prop) → Prop) (J : Nat → List Int → gS → (Int → gS → Prop) → Prop) (l1 : Int) (l2 : Int) (l3 : Int) (G : gS) (Q : Int → gS → Prop) : Prop :=
  PX13_wantSign 125 G (fun _ G24 => Q (l2) G24)
def PX13_block_84 (R : Nat → List Int → gS → (Int → gS → Prop) → Prop) (J : Nat → List Int → gS → (Int → gS → Prop) → Prop) (l1 : Int) (l2 : Int) (l3 : Int) (l4 : Int) (s0 : Int) (G : gS) (Q : Int → gS → Prop) : Prop :=
  J 0 [l1, l2, s0] G Q
def PX13_block_71 (R : Nat → List Int → gS → (Int → gS → Prop) → Prop) (J : Nat → List Int → gS → (Int → gS → Prop) → Prop) (l1 : Int) (l2 : Int) (l3 : Int) (l4 : Int) (G : gS) (Q : Int → gS → Prop) : Prop :=
  ((l4 = -2 → PX13_block_84 R J l1 l2 l3 l4 l3 G Q) ∧ (¬ (l4 = -2) → PX13_block_84 R J l1 l2 l3 l4 l4 G Q))
def PX13_block_17 (R : Nat → List Int → gS → (Int → gS → Prop) → Prop) (J : Nat → List Int → gS → (Int → gS → Prop) → Prop) (l1 : Int) (l2 : Int) (l3 : Int) (G : gS) (Q : Int → gS → Prop) : Prop :=
  (inI (G 16081 20) → ((G 16081 20 = 0 → PX13_isSign 125 G (fun r9 G8 => (0 ≤ r9 ∧ r9 ≤ 1) → ((r9 = 0 → R 2 [] G8 (fun r13 G12 => inI r13 → ((l3 = -2 → ((0 : Int) ≤ l2 ∧ ((l2 : Int) < 30600 ∧ (∀ G18 : gS, G18 = uG G12 16151 l2 (r13) → PX13_block_71 R J l1 l2 l3 r13 G18 Q)))) ∧ (¬ (l3 = -2) → ((r13 = -2 → PX13_block_71 R J l1 l2 l3 r13 G12 Q) ∧ (¬ (r13 = -2) → ((0 : Int) ≤ l3 ∧ ((l3 : Int) < 30600 ∧ (∀ G22 : gS, G22 = uG G12 16154 l3 (r13) → PX13_block_71 R J l1 l2 l3 r13 G22 Q))))))))) ∧ (¬ (r9 = 0) → PX13_block_88 R J l1 l2 l3 G8 Q)))) ∧ (¬ (G 16081 20 = 0) → PX13_block_88 R J l1 l2 l3 G Q)))
def PX13_block_0 (R : Nat → List Int → gS → (Int → gS → Prop) → Prop) (J : Nat → List Int → gS → (Int → gS → Prop) → Prop) (a1 : Int) (G : gS) (Q : Int → gS → Prop) : Prop :=
  PX13_node 20 a1 G (fun r2 G1 => inI r2 → PX13_wantSign 123 G1 (fun _ G4 => PX13_block_17 R J a1 r2 (-2) G4 Q))
def PX13_block_J (R : Nat → List Int → gS → (Int → gS → Prop) → Prop) : Nat → Nat → List Int → gS → (Int → gS → Prop) → Prop
  | 0, _, _, _, _ => False
  | f + 1, h, L, G, Q => match h, L with
    | 0, [l1, l2, l3] => PX13_block_17 R (PX13_block_J R f) l1 l2 l3 G Q
    | _, _ => False
def PX13_block (R : Nat → List Int → gS → (Int → gS → Prop) → Prop) (a1 : Int) (G : gS) (Q : Int → gS → Prop) : Prop := ∃ f : Nat, f ≤ 4000000000 ∧ PX13_block_0 R (PX13_block_J R f) a1 G Q
def PX13_blockOnly_20 (R : Nat → List Int → gS → (Int → gS → Prop) → Prop)  (G : gS) (Q : Int → gS → Prop) : Prop :=
  R 2 [] G (fun r10 G9 => inI r10 → Q (r10) G9)
def PX13_blockOnly_0 (R : Nat → List Int → gS → (Int → gS → Prop) → Prop)  (G : gS) (Q : Int → gS → Prop) : Prop :=
  (inI (G 16081 20) → ((G 16081 20 = 0 → PX13_isSign 123 G (fun r4 G3 => (0 ≤ r4 ∧ r4 ≤ 1) → ((r4 = 0 → PX13_wrong G3 (fun _ G7 => PX13_blockOnly_20 R  G7 Q)) ∧ (¬ (r4 = 0) → PX13_blockOnly_20 R  G3 Q)))) ∧ (¬ (G 16081 20 = 0) → PX13_blockOnly_20 R  G Q)))
abbrev PX13_blockOnly (R : Nat → List Int → gS → (Int → gS → Prop) → Prop)  (G : gS) (Q : Int → gS → Prop) : Prop := PX13_blockOnly_0 R  G Q
def PX13_statement_0 (R : Nat → List Int → gS → (Int → gS → Prop) → Prop)  (G : gS) (Q : Int → gS → Prop) : Prop :=
  (inI (G 16081 20) → ((G 16081 20 = 0 → PX13_beginsS G (fun r4 G3 => (0 ≤ r4 ∧ r4 ≤ 1) → ((r4 = 0 → PX13_wrong G3 (fun _ G7 => Q (-2) G7)) ∧ (¬ (r4 = 0) → (inI (G3 16081 89) → ((G3 16081 89 = 12 → (inI (G3 16081 22) → PX13_placeAt (G3 16081 22) G3 (fun r13 G12 => inI r13 → PX13_fault 3 r13 G12 (fun _ G15 => Q (-2) G15)))) ∧ (¬ (G3 16081 89 = 12) → (inI (G3 16081 89) → (inI ((G3 16081 89) + 1) ∧ (∀ G19 : gS, G19 = uG G3 16081 89 ((G3 16081 89) + 1) → R 3 [] G19 (fun r21 G20 => inI r21 → (inI (G20 16081 89) → (inI ((G20 16081 89) - 1) ∧ (∀ G25 : gS, G25 = uG G20 16081 89 ((G20 16081 89) - 1) → Q (r21) G25)))))))))))))) ∧ (¬ (G 16081 20 = 0) → Q (-2) G)))
abbrev PX13_statement (R : Nat → List Int → gS → (Int → gS → Prop) → Prop)  (G : gS) (Q : Int → gS → Prop) : Prop := PX13_statement_0 R  G Q
def PX13_statementWithin_507 (R : Nat → List Int → gS → (Int → gS → Prop) → Prop) (l1 : Int) (l2 : Int) (G : gS) (Q : Int → gS → Prop) : Prop :=
  PX13_node 29 l1 G (fun r222 G221 => inI r222 → ((0 : Int) ≤ r222 ∧ ((r222 : Int) < 30600 ∧ (∀ G226 : gS, G226 = uG G221 16151 r222 (l2) → PX13_wantSign 59 G226 (fun _ G227 => Q (r222) G227)))))
def PX13_statementWithin_449 (R : Nat → List Int → gS → (Int → gS → Prop) → Prop) (l1 : Int) (G : gS) (Q : Int → gS → Prop) : Prop :=
  Rq8 200 1 [] G (fun r183 G182 => inI r183 → (inI (G182 16081 20) → ((G182 16081 20 = 0 → PX13_isSign 61 G182 (fun r188 G187 => (0 ≤ r188 ∧ r188 ≤ 1) → ((r188 = 0 → PX13_statementWithin_507 R l1 r183 G187 Q) ∧ (¬ (r188 = 0) → PX13_step G187 (fun _ G191 => PX13_node 30 l1 G191 (fun r194 G193 => inI r194 → ((0 : Int) ≤ r194 ∧ ((r194 : Int) < 30600 ∧ (∀ G198 : gS, G198 = uG G193 16151 r194 (r183) → Rq8 200 1 [] G198 (fun r200 G199 => inI r200 → ((0 : Int) ≤ r194 ∧ ((r194 : Int) < 30600 ∧ (∀ G204 : gS, G204 = uG G199 16152 r194 (r200) → PX13_wantSign 59 G204 (fun _ G205 => Q (r194) G205)))))))))))))) ∧ (¬ (G182 16081 20 = 0) → PX13_statementWithin_507 R l1 r183 G182 Q))))
def PX13_statementWithin_377 (R : Nat → List Int → gS → (Int → gS → Prop) → Prop) (l1 : Int) (G : gS) (Q : Int → gS → Prop) : Prop :=
  PX13_takesWord 53 G (fun r134 G133 => (0 ≤ r134 ∧ r134 ≤ 1) → ((r134 = 0 → (inI (G133 16081 20) → ((G133 16081 20 = 0 → PX13_isWordAt 47 G133 (fun r140 G139 => (0 ≤ r140 ∧ r140 ≤ 1) → ((r140 = 0 → PX13_statementWithin_449 R l1 G139 Q) ∧ (¬ (r140 = 0) → PX13_isSignNext 40 G139 (fun r144 G143 => (0 ≤ r144 ∧ r144 ≤ 1) → ((r144 = 0 → PX13_statementWithin_449 R l1 G143 Q) ∧ (¬ (r144 = 0) → PX13_node 28 l1 G143 (fun r148 G147 => inI r148 → PX13_step G147 (fun _ G150 => Rq8 200 0 [] G150 (fun r153 G152 => inI r153 → ((0 : Int) ≤ r148 ∧ ((r148 : Int) < 30600 ∧ (∀ G157 : gS, G157 = uG G152 16151 r148 (r153) → PX13_wantSign 59 G157 (fun _ G158 => Q (r148) G158)))))))))))))) ∧ (¬ (G133 16081 20 = 0) → PX13_statementWithin_449 R l1 G133 Q)))) ∧ (¬ (r134 = 0) → R 4 [l1] G133 (fun r161 G160 => inI r161 → Q (r161) G160))))
def PX13_statementWithin_350 (R : Nat → List Int → gS → (Int → gS → Prop) → Prop) (l1 : Int) (s0 : Int) (s1 : Int) (G : gS) (Q : Int → gS → Prop) : Prop :=
  (isO W0 13 (s0) ∧ PX13_node s1 l1 G (fun r209 G208 => inI r209 → PX13_step G208 (fun _ G211 => Rq8 200 1 [] G211 (fun r214 G213 => inI r214 → ((0 : Int) ≤ r209 ∧ ((r209 : Int) < 30600 ∧ (∀ G218 : gS, G218 = uG G213 16151 r209 (r214) → PX13_wantSign 59 G218 (fun _ G219 => Q (r209) G219))))))))
def PX13_statementWithin_332 (R : Nat → List Int → gS → (Int → gS → Prop) → Prop) (l1 : Int) (G : gS) (Q : Int → gS → Prop) : Prop :=
  PX13_isWordAt 52 G (fun r164 G163 => (0 ≤ r164 ∧ r164 ≤ 1) → ((r164 = 0 → PX13_statementWithin_350 R l1 16081 27 G163 Q) ∧ (¬ (r164 = 0) → PX13_statementWithin_350 R l1 16081 25 G163 Q)))
def PX13_statementWithin_296 (R : Nat → List Int → gS → (Int → gS → Prop) → Prop) (l1 : Int) (l2 : Int) (s0 : Int) (s1 : Int) (s2 : Int) (G : gS) (Q : Int → gS → Prop) : Prop :=
  (∃ n170, isA W0 0 n170 (s0) ∧ ((0 : Int) ≤ s1 ∧ ((s1 : Int) < n170 ∧ (∀ G174 : gS, G174 = uG G s0 s1 (s2) → PX13_wantSign 59 G174 (fun _ G175 => Q (l2) G175)))))
def PX13_statementWithin_292 (R : Nat → List Int → gS → (Int → gS → Prop) → Prop) (l1 : Int) (l2 : Int) (s0 : Int) (s1 : Int) (G : gS) (Q : Int → gS → Prop) : Prop :=
  Rq8 200 1 [] G (fun r168 G167 => inI r168 → PX13_statementWithin_296 R l1 l2 s0 s1 r168 G167 Q)
def PX13_statementWithin_193 (R : Nat → List Int → gS → (Int → gS → Prop) → Prop) (l1 : Int) (l2 : Int) (s0 : Int) (s1 : Int) (s2 : Int) (G : gS) (Q : Int → gS → Prop) : Prop :=
  (∃ n177, isA W0 0 n177 (s0) ∧ ((0 : Int) ≤ s1 ∧ ((s1 : Int) < n177 ∧ (∀ G181 : gS, G181 = uG G s0 s1 (s2) → Q (l2) G181))))
def PX13_statementWithin_0 (R : Nat → List Int → gS → (Int → gS → Prop) → Prop)  (G : gS) (Q : Int → gS → Prop) : Prop :=
  (inI (G 16081 22) → PX13_placeAt (G 16081 22) G (fun r3 G2 => inI r3 → PX13_isSign 123 G2 (fun r6 G5 => (0 ≤ r6 ∧ r6 ≤ 1) → ((r6 = 0 → PX13_takesWord 48 G5 (fun r10 G9 => (0 ≤ r10 ∧ r10 ≤ 1) → ((r10 = 0 → PX13_takesWord 49 G9 (fun r14 G13 => (0 ≤ r14 ∧ r14 ≤ 1) → ((r14 = 0 → PX13_takesWord 50 G13 (fun r18 G17 => (0 ≤ r18 ∧ r18 ≤ 1) → ((r18 = 0 → PX13_takesWord 51 G17 (fun r22 G21 => (0 ≤ r22 ∧ r22 ≤ 1) → ((r22 = 0 → (inI (G21 16081 20) → ((G21 16081 20 = 0 → PX13_isWordAt 52 G21 (fun r28 G27 => (0 ≤ r28 ∧ r28 ≤ 1) → ((r28 = 0 → PX13_isWordAt 54 G27 (fun r32 G31 => (0 ≤ r32 ∧ r32 ≤ 1) → ((r32 = 0 → PX13_statementWithin_377 R r3 G31 Q) ∧ (¬ (r32 = 0) → PX13_statementWithin_332 R r3 G31 Q)))) ∧ (¬ (r28 = 0) → PX13_statementWithin_332 R r3 G27 Q)))) ∧ (¬ (G21 16081 20 = 0) → PX13_statementWithin_377 R r3 G21 Q)))) ∧ (¬ (r22 = 0) → PX13_node 24 r3 G21 (fun r36 G35 => inI r36 → (inI (G35 16081 20) → ((G35 16081 20 = 0 → PX13_isSign 59 G35 (fun r41 G40 => (0 ≤ r41 ∧ r41 ≤ 1) → ((r41 = 0 → PX13_statementWithin_292 R r3 r36 16151 r36 G40 Q) ∧ (¬ (r41 = 0) → PX13_statementWithin_296 R r3 r36 16151 r36 (-2) G40 Q)))) ∧ (¬ (G35 16081 20 = 0) → PX13_statementWithin_292 R r3 r36 16151 r36 G35 Q)))))))) ∧ (¬ (r18 = 0) → PX13_node 23 r3 G17 (fun r45 G44 => inI r45 → PX13_wantSign 40 G44 (fun _ G47 => Rq8 200 1 [] G47 (fun r50 G49 => inI r50 → ((0 : Int) ≤ r45 ∧ ((r45 : Int) < 30600 ∧ (∀ G54 : gS, G54 = uG G49 16151 r45 (r50) → PX13_wantSign 41 G54 (fun _ G55 => R 2 [] G55 (fun r58 G57 => inI r58 → ((0 : Int) ≤ r45 ∧ ((r45 : Int) < 30600 ∧ (∀ G62 : gS, G62 = uG G57 16152 r45 (r58) → Q (r45) G62))))))))))))))) ∧ (¬ (r14 = 0) → PX13_node 22 r3 G13 (fun r64 G63 => inI r64 → PX13_wantSign 40 G63 (fun _ G66 => Rq8 200 1 [] G66 (fun r69 G68 => inI r69 → ((0 : Int) ≤ r64 ∧ ((r64 : Int) < 30600 ∧ (∀ G73 : gS, G73 = uG G68 16151 r64 (r69) → PX13_wantSign 41 G73 (fun _ G74 => R 2 [] G74 (fun r77 G76 => inI r77 → ((0 : Int) ≤ r64 ∧ ((r64 : Int) < 30600 ∧ (∀ G81 : gS, G81 = uG G76 16152 r64 (r77) → PX13_takesWord 55 G81 (fun r83 G82 => (0 ≤ r83 ∧ r83 ≤ 1) → ((r83 = 0 → PX13_statementWithin_193 R r3 r64 16153 r64 (-2) G82 Q) ∧ (¬ (r83 = 0) → R 2 [] G82 (fun r87 G86 => inI r87 → PX13_statementWithin_193 R r3 r64 16153 r64 r87 G86 Q))))))))))))))))))) ∧ (¬ (r10 = 0) → PX13_node 21 r3 G9 (fun r90 G89 => inI r90 → (inI (G89 16081 22) → PX13_placeAt (G89 16081 22) G89 (fun r94 G93 => inI r94 → ((0 : Int) ≤ r90 ∧ ((r90 : Int) < 30600 ∧ (∀ G98 : gS, G98 = uG G93 16147 r90 (r94) → PX13_typeToken G98 (fun r100 G99 => inL r100 → ((0 : Int) ≤ r90 ∧ ((r90 : Int) < 30600 ∧ (∀ G104 : gS, G104 = uG G99 16150 r90 (r100) → PX13_want 2 0 G104 (fun r106 G105 => inI r106 → PX13_nameAt r106 G105 (fun r109 G108 => inL r109 → ((0 : Int) ≤ r90 ∧ ((r90 : Int) < 30600 ∧ (∀ G113 : gS, G113 = uG G108 16148 r90 (r109) → PX13_placeAt r106 G113 (fun r115 G114 => inI r115 → ((0 : Int) ≤ r90 ∧ ((r90 : Int) < 30600 ∧ (∀ G119 : gS, G119 = uG G114 16146 r90 (r115) → PX13_wantSign 61 G119 (fun _ G120 => Rq8 200 1 [] G120 (fun r123 G122 => inI r123 → ((0 : Int) ≤ r90 ∧ ((r90 : Int) < 30600 ∧ (∀ G127 : gS, G127 = uG G122 16151 r90 (r123) → PX13_wantSign 59 G127 (fun _ G128 => Q (r90) G128))))))))))))))))))))))))))))) ∧ (¬ (r6 = 0) → R 0 [r3] G5 (fun r131 G130 => inI r131 → Q (r131) G130))))))
abbrev PX13_statementWithin (R : Nat → List Int → gS → (Int → gS → Prop) → Prop)  (G : gS) (Q : Int → gS → Prop) : Prop := PX13_statementWithin_0 R  G Q
def PX13_tryOf_0 (R : Nat → List Int → gS → (Int → gS → Prop) → Prop) (a1 : Int) (G : gS) (Q : Int → gS → Prop) : Prop :=
  PX13_node 26 a1 G (fun r2 G1 => inI r2 → R 1 [] G1 (fun r5 G4 => inI r5 → ((0 : Int) ≤ r2 ∧ ((r2 : Int) < 30600 ∧ (∀ G9 : gS, G9 = uG G4 16151 r2 (r5) → PX13_wantWord 56 G9 (fun _ G10 => PX13_wantSign 40 G10 (fun _ G12 => PX13_want 1 0 G12 (fun r15 G14 => inI r15 → PX13_nameAt r15 G14 (fun r18 G17 => inL r18 → ((0 : Int) ≤ r2 ∧ ((r2 : Int) < 30600 ∧ (∀ G22 : gS, G22 = uG G17 16149 r2 (r18) → PX13_placeAt r15 G22 (fun r24 G23 => inI r24 → ((0 : Int) ≤ r2 ∧ ((r2 : Int) < 30600 ∧ (∀ G28 : gS, G28 = uG G23 16147 r2 (r24) → PX13_want 2 0 G28 (fun r30 G29 => inI r30 → PX13_nameAt r30 G29 (fun r33 G32 => inL r33 → ((0 : Int) ≤ r2 ∧ ((r2 : Int) < 30600 ∧ (∀ G37 : gS, G37 = uG G32 16148 r2 (r33) → PX13_placeAt r30 G37 (fun r39 G38 => inI r39 → ((0 : Int) ≤ r2 ∧ ((r2 : Int) < 30600 ∧ (∀ G43 : gS, G43 = uG G38 16146 r2 (r39) → PX13_wantSign 41 G43 (fun _ G44 => R 1 [] G44 (fun r47 G46 => inI r47 → ((0 : Int) ≤ r2 ∧ ((r2 : Int) < 30600 ∧ (∀ G51 : gS, G51 = uG G46 16152 r2 (r47) → Q (r2) G51))))))))))))))))))))))))))))))
abbrev PX13_tryOf (R : Nat → List Int → gS → (Int → gS → Prop) → Prop) (a1 : Int) (G : gS) (Q : Int → gS → Prop) : Prop := PX13_tryOf_0 R a1 G Q
def Rq9 : Nat → Nat → List Int → gS → (Int → gS → Prop) → Prop
  | 0, _, _, _, _ => False
  | n + 1, i, L, G, Q => match i, L with
    | 0, [a1] => PX13_block (Rq9 n) a1 G Q
    | 1, [] => PX13_blockOnly (Rq9 n)  G Q
    | 2, [] => PX13_statement (Rq9 n)  G Q
    | 3, [] => PX13_statementWithin (Rq9 n)  G Q
    | 4, [a1] => PX13_tryOf (Rq9 n) a1 G Q
    | _, _ => False
def PX13_body_51 (l1 : Int) (s0 : Int) (s1 : Int) (s2 : Int) (G : gS) (Q : Int → gS → Prop) : Prop :=
  (∃ n18, isA W0 0 n18 (s0) ∧ ((0 : Int) ≤ s1 ∧ ((s1 : Int) < n18 ∧ (∀ G22 : gS, G22 = uG G s0 s1 (s2) → (inI (G22 16081 22) → ((0 : Int) ≤ l1 ∧ ((l1 : Int) < 7344 ∧ (∀ G26 : gS, G26 = uG G22 16137 l1 (G22 16081 22) → Q 0 G26))))))))
def PX13_body_30 (l1 : Int) (G : gS) (Q : Int → gS → Prop) : Prop :=
  (inI (G 16081 20) → ((G 16081 20 = 0 → Rq9 200 2 [] G (fun r16 G15 => inI r16 → PX13_body_51 l1 16135 l1 r16 G15 Q)) ∧ (¬ (G 16081 20 = 0) → PX13_body_51 l1 16135 l1 (-2) G Q)))
def PX13_body_0 (a1 : Int) (G : gS) (Q : Int → gS → Prop) : Prop :=
  (inI (G 16081 22) → ((0 : Int) ≤ a1 ∧ ((a1 : Int) < 7344 ∧ (∀ G4 : gS, G4 = uG G 16136 a1 (G 16081 22) → (inI (G4 16081 20) → ((G4 16081 20 = 0 → PX13_isSign 123 G4 (fun r8 G7 => (0 ≤ r8 ∧ r8 ≤ 1) → ((r8 = 0 → PX13_wrong G7 (fun _ G11 => PX13_body_30 a1 G11 Q)) ∧ (¬ (r8 = 0) → PX13_body_30 a1 G7 Q)))) ∧ (¬ (G4 16081 20 = 0) → PX13_body_30 a1 G4 Q)))))))
abbrev PX13_body (a1 : Int) (G : gS) (Q : Int → gS → Prop) : Prop := PX13_body_0 a1 G Q
def PX13_params_216 (J : Nat → List Int → gS → (Int → gS → Prop) → Prop) (l1 : Int) (l2 : Int) (l3 : Int) (l4 : Int) (l5 : Int) (G : gS) (Q : Int → gS → Prop) : Prop :=
  J 0 [l1, l2] G Q
def PX13_params_207 (J : Nat → List Int → gS → (Int → gS → Prop) → Prop) (l1 : Int) (l2 : Int) (l3 : Int) (l4 : Int) (l5 : Int) (s0 : Int) (G : gS) (Q : Int → gS → Prop) : Prop :=
  ((s0 = 0 → PX13_params_216 J l1 s0 l3 l4 l5 G Q) ∧ (¬ (s0 = 0) → PX13_step G (fun _ G82 => PX13_params_216 J l1 s0 l3 l4 l5 G82 Q)))
def PX13_params_206 (J : Nat → List Int → gS → (Int → gS → Prop) → Prop) (l1 : Int) (l2 : Int) (l3 : Int) (l4 : Int) (l5 : Int) (G : gS) (Q : Int → gS → Prop) : Prop :=
  PX13_params_207 J l1 l2 l3 l4 l5 0 G Q
def PX13_params_185 (J : Nat → List Int → gS → (Int → gS → Prop) → Prop) (l1 : Int) (l2 : Int) (l3 : Int) (l4 : Int) (l5 : Int) (s0 : Int) (s1 : Int) (s2 : Int) (G : gS) (Q : Int → gS → Prop) : Prop :=
  (∃ n70, isA W0 0 n70 (s0) ∧ ((0 : Int) ≤ s1 ∧ ((s1 : Int) < n70 ∧ (∀ G74 : gS, G74 = uG G s0 s1 (s2) → (inI (G74 16081 20) → ((G74 16081 20 = 0 → PX13_isSign 44 G74 (fun r78 G77 => (0 ≤ r78 ∧ r78 ≤ 1) → ((r78 = 0 → PX13_params_206 J l1 l2 l3 l4 l5 G77 Q) ∧ (¬ (r78 = 0) → PX13_params_207 J l1 l2 l3 l4 l5 1 G77 Q)))) ∧ (¬ (G74 16081 20 = 0) → PX13_params_206 J l1 l2 l3 l4 l5 G74 Q)))))))
def PX13_params_103 (J : Nat → List Int → gS → (Int → gS → Prop) → Prop) (l1 : Int) (l2 : Int) (l3 : Int) (s0 : Int) (s1 : Int) (G : gS) (Q : Int → gS → Prop) : Prop :=
  (inI (s0 + s1) ∧ (inI (G 16081 22) → PX13_placeAt (G 16081 22) G (fun r41 G40 => inI r41 → ((0 : Int) ≤ s0 + s1 ∧ ((s0 + s1 : Int) < 29376 ∧ (∀ G45 : gS, G45 = uG G40 16131 (s0 + s1) (r41) → PX13_typeToken G45 (fun r47 G46 => inL r47 → ((0 : Int) ≤ s0 + s1 ∧ ((s0 + s1 : Int) < 29376 ∧ (∀ G51 : gS, G51 = uG G46 16130 (s0 + s1) (r47) → PX13_want 2 0 G51 (fun r53 G52 => inI r53 → PX13_nameAt r53 G52 (fun r56 G55 => inL r56 → ((0 : Int) ≤ s0 + s1 ∧ ((s0 + s1 : Int) < 29376 ∧ (∀ G60 : gS, G60 = uG G55 16132 (s0 + s1) (r56) → PX13_placeAt r53 G60 (fun r62 G61 => inI r62 → ((0 : Int) ≤ s0 + s1 ∧ ((s0 + s1 : Int) < 29376 ∧ (∀ G66 : gS, G66 = uG G61 16133 (s0 + s1) (r62) → (inI (G66 16081 20) → ((G66 16081 20 = 0 → (inI (l3 + 1) ∧ PX13_params_185 J l1 l2 l3 (s0 + s1) r53 16129 l1 (l3 + 1) G66 Q)) ∧ (¬ (G66 16081 20 = 0) → PX13_params_185 J l1 l2 l3 (s0 + s1) r53 16129 l1 l3 G66 Q))))))))))))))))))))))
def PX13_params_90 (J : Nat → List Int → gS → (Int → gS → Prop) → Prop) (l1 : Int) (l2 : Int) (l3 : Int) (G : gS) (Q : Int → gS → Prop) : Prop :=
  ((l3 < 4 → (inI (4 * l1) ∧ PX13_params_103 J l1 l2 l3 (4 * l1) l3 G Q)) ∧ (¬ (l3 < 4) → (inI (4 * l1) ∧ PX13_params_103 J l1 l2 l3 (4 * l1) 3 G Q)))
def PX13_params_77 (J : Nat → List Int → gS → (Int → gS → Prop) → Prop) (l1 : Int) (l2 : Int) (l3 : Int) (G : gS) (Q : Int → gS → Prop) : Prop :=
  (inI (G 16081 22) → PX13_placeAt (G 16081 22) G (fun r31 G30 => inI r31 → PX13_fault 3 r31 G30 (fun _ G33 => PX13_params_90 J l1 l2 l3 G33 Q)))
def PX13_params_40 (J : Nat → List Int → gS → (Int → gS → Prop) → Prop) (l1 : Int) (l2 : Int) (G : gS) (Q : Int → gS → Prop) : Prop :=
  ((l2 = 0 → PX13_wantSign 41 G (fun _ G14 => Q 0 G14)) ∧ (¬ (l2 = 0) → ((0 : Int) ≤ l1 ∧ ((l1 : Int) < 7344 ∧ (inI (G 16129 l1) → ((G 16129 l1 = 4 → PX13_isWordAt 27 G (fun r21 G20 => (0 ≤ r21 ∧ r21 ≤ 1) → ((r21 = 0 → (inI (G20 16081 22) → PX13_kindAt (G20 16081 22) G20 (fun r26 G25 => inI r26 → ((r26 = 1 → PX13_params_77 J l1 l2 (G 16129 l1) G25 Q) ∧ (¬ (r26 = 1) → PX13_params_90 J l1 l2 (G 16129 l1) G25 Q))))) ∧ (¬ (r21 = 0) → PX13_params_77 J l1 l2 (G 16129 l1) G20 Q)))) ∧ (¬ (G 16129 l1 = 4) → PX13_params_90 J l1 l2 (G 16129 l1) G Q)))))))
def PX13_params_39 (J : Nat → List Int → gS → (Int → gS → Prop) → Prop) (l1 : Int) (s0 : Int) (G : gS) (Q : Int → gS → Prop) : Prop :=
  PX13_params_40 J l1 s0 G Q
def PX13_params_27 (J : Nat → List Int → gS → (Int → gS → Prop) → Prop) (l1 : Int) (G : gS) (Q : Int → gS → Prop) : Prop :=
  (inI (G 16081 20) → ((G 16081 20 = 0 → PX13_params_39 J l1 1 G Q) ∧ (¬ (G 16081 20 = 0) → PX13_params_39 J l1 0 G Q)))
def PX13_params_0 (J : Nat → List Int → gS → (Int → gS → Prop) → Prop) (a1 : Int) (G : gS) (Q : Int → gS → Prop) : Prop :=
  PX13_wantSign 40 G (fun _ G1 => (inI (G1 16081 20) → ((G1 16081 20 = 0 → PX13_isSign 41 G1 (fun r6 G5 => (0 ≤ r6 ∧ r6 ≤ 1) → ((r6 = 0 → PX13_params_27 J a1 G5 Q) ∧ (¬ (r6 = 0) → PX13_step G5 (fun _ G9 => Q 0 G9))))) ∧ (¬ (G1 16081 20 = 0) → PX13_params_27 J a1 G1 Q))))
def PX13_params_J : Nat → Nat → List Int → gS → (Int → gS → Prop) → Prop
  | 0, _, _, _, _ => False
  | f + 1, h, L, G, Q => match h, L with
    | 0, [l1, l2] => PX13_params_40 (PX13_params_J f) l1 l2 G Q
    | _, _ => False
def PX13_params (a1 : Int) (G : gS) (Q : Int → gS → Prop) : Prop := ∃ f : Nat, f ≤ 4000000000 ∧ PX13_params_0 (PX13_params_J f) a1 G Q
def PX13_fieldOrMethod_266 (l1 : Int) (l2 : Int) (l3 : Int) (G : gS) (Q : Int → gS → Prop) : Prop :=
  Q 0 G
def PX13_fieldOrMethod_260 (l1 : Int) (l2 : Int) (l3 : Int) (G : gS) (Q : Int → gS → Prop) : Prop :=
  PX13_wantSign 59 G (fun _ G109 => PX13_fieldOrMethod_266 l1 l2 l3 G109 Q)
def PX13_fieldOrMethod_203 (l1 : Int) (l2 : Int) (l3 : Int) (G : gS) (Q : Int → gS → Prop) : Prop :=
  ((0 : Int) ≤ l1 ∧ ((l1 : Int) < 7344 ∧ (∀ G73 : gS, G73 = uG G 16116 l1 (0) → (inI (G73 16081 20) → ((G73 16081 20 = 0 → PX13_isSign 61 G73 (fun r77 G76 => (0 ≤ r77 ∧ r77 ≤ 1) → ((r77 = 0 → PX13_fieldOrMethod_260 l1 l2 l3 G76 Q) ∧ (¬ (r77 = 0) → PX13_step G76 (fun _ G80 => (inI (G80 16081 22) → ((0 : Int) ≤ l1 ∧ ((l1 : Int) < 7344 ∧ (∀ G85 : gS, G85 = uG G80 16136 l1 (G80 16081 22) → Rq8 200 1 [] G85 (fun r87 G86 => inI r87 → ((0 : Int) ≤ l1 ∧ ((l1 : Int) < 7344 ∧ (∀ G91 : gS, G91 = uG G86 16134 l1 (r87) → (inI (G91 16081 22) → ((0 : Int) ≤ l1 ∧ ((l1 : Int) < 7344 ∧ (∀ G95 : gS, G95 = uG G91 16137 l1 (G91 16081 22) → PX13_fieldOrMethod_260 l1 l2 l3 G95 Q))))))))))))))))) ∧ (¬ (G73 16081 20 = 0) → PX13_fieldOrMethod_260 l1 l2 l3 G73 Q))))))
def PX13_fieldOrMethod_195 (l1 : Int) (l2 : Int) (l3 : Int) (G : gS) (Q : Int → gS → Prop) : Prop :=
  PX13_body l1 G (fun _ G111 => PX13_fieldOrMethod_266 l1 l2 l3 G111 Q)
def PX13_fieldOrMethod_160 (l1 : Int) (l2 : Int) (l3 : Int) (G : gS) (Q : Int → gS → Prop) : Prop :=
  ((0 : Int) ≤ l1 ∧ ((l1 : Int) < 7344 ∧ (∀ G98 : gS, G98 = uG G 16116 l1 (1) → PX13_params l1 G98 (fun _ G99 => (inI (G99 16081 20) → ((G99 16081 20 = 0 → PX13_isSign 59 G99 (fun r104 G103 => (0 ≤ r104 ∧ r104 ≤ 1) → ((r104 = 0 → PX13_fieldOrMethod_195 l1 l2 l3 G103 Q) ∧ (¬ (r104 = 0) → PX13_step G103 (fun _ G107 => PX13_fieldOrMethod_266 l1 l2 l3 G107 Q))))) ∧ (¬ (G99 16081 20 = 0) → PX13_fieldOrMethod_195 l1 l2 l3 G99 Q)))))))
def PX13_fieldOrMethod_111 (l1 : Int) (l2 : Int) (G : gS) (Q : Int → gS → Prop) : Prop :=
  PX13_want 2 0 G (fun r50 G49 => inI r50 → PX13_nameAt r50 G49 (fun r53 G52 => inL r53 → ((0 : Int) ≤ l1 ∧ ((l1 : Int) < 7344 ∧ (∀ G57 : gS, G57 = uG G52 16125 l1 (r53) → PX13_placeAt r50 G57 (fun r59 G58 => inI r59 → ((0 : Int) ≤ l1 ∧ ((l1 : Int) < 7344 ∧ (∀ G63 : gS, G63 = uG G58 16126 l1 (r59) → (inI (G63 16081 20) → ((G63 16081 20 = 0 → ((l2 = 0 → PX13_isSign 40 G63 (fun r68 G67 => (0 ≤ r68 ∧ r68 ≤ 1) → ((r68 = 0 → PX13_fieldOrMethod_203 l1 l2 r50 G67 Q) ∧ (¬ (r68 = 0) → PX13_fieldOrMethod_160 l1 l2 r50 G67 Q)))) ∧ (¬ (l2 = 0) → PX13_fieldOrMethod_160 l1 l2 r50 G63 Q))) ∧ (¬ (G63 16081 20 = 0) → PX13_fieldOrMethod_203 l1 l2 r50 G63 Q))))))))))))
def PX13_fieldOrMethod_75 (l1 : Int) (s0 : Int) (G : gS) (Q : Int → gS → Prop) : Prop :=
  (inI (G 16081 22) → PX13_placeAt (G 16081 22) G (fun r35 G34 => inI r35 → ((0 : Int) ≤ l1 ∧ ((l1 : Int) < 7344 ∧ (∀ G39 : gS, G39 = uG G34 16128 l1 (r35) → ((s0 = 0 → PX13_typeToken G39 (fun r42 G41 => inL r42 → ((0 : Int) ≤ l1 ∧ ((l1 : Int) < 7344 ∧ (∀ G46 : gS, G46 = uG G41 16127 l1 (r42) → PX13_fieldOrMethod_111 l1 s0 G46 Q))))) ∧ (¬ (s0 = 0) → PX13_step G39 (fun _ G47 => PX13_fieldOrMethod_111 l1 s0 G47 Q))))))))
def PX13_fieldOrMethod_74 (l1 : Int) (G : gS) (Q : Int → gS → Prop) : Prop :=
  PX13_fieldOrMethod_75 l1 0 G Q
def PX13_fieldOrMethod_53 (l1 : Int) (s0 : Int) (s1 : Int) (s2 : Int) (G : gS) (Q : Int → gS → Prop) : Prop :=
  (∃ n21, isA W0 3 n21 (s0) ∧ ((0 : Int) ≤ s1 ∧ ((s1 : Int) < n21 ∧ ((0 ≤ s2 ∧ s2 ≤ 1) ∧ (∀ G26 : gS, G26 = uG G s0 s1 (s2) → (inI (G26 16081 20) → ((G26 16081 20 = 0 → PX13_isWordAt 28 G26 (fun r30 G29 => (0 ≤ r30 ∧ r30 ≤ 1) → ((r30 = 0 → PX13_fieldOrMethod_74 l1 G29 Q) ∧ (¬ (r30 = 0) → PX13_fieldOrMethod_75 l1 1 G29 Q)))) ∧ (¬ (G26 16081 20 = 0) → PX13_fieldOrMethod_74 l1 G26 Q))))))))
def PX13_fieldOrMethod_52 (l1 : Int) (s0 : Int) (s1 : Int) (G : gS) (Q : Int → gS → Prop) : Prop :=
  PX13_fieldOrMethod_53 l1 s0 s1 0 G Q
def PX13_fieldOrMethod_0 (a1 : Int) (G : gS) (Q : Int → gS → Prop) : Prop :=
  PX13_takesWord 42 G (fun r2 G1 => (0 ≤ r2 ∧ r2 ≤ 1) → ((0 : Int) ≤ a1 ∧ ((a1 : Int) < 7344 ∧ (∀ G6 : gS, G6 = uG G1 16119 a1 (r2) → PX13_takesWord 31 G6 (fun r8 G7 => (0 ≤ r8 ∧ r8 ≤ 1) → ((0 : Int) ≤ a1 ∧ ((a1 : Int) < 7344 ∧ (∀ G12 : gS, G12 = uG G7 16120 a1 (r8) → ((0 : Int) ≤ a1 ∧ ((a1 : Int) < 7344 ∧ ((0 ≤ G12 16120 a1 ∧ G12 16120 a1 ≤ 1) → ((G12 16120 a1 = 0 → PX13_takesWord 39 G12 (fun r18 G17 => (0 ≤ r18 ∧ r18 ≤ 1) → ((r18 = 0 → PX13_fieldOrMethod_52 a1 16122 a1 G17 Q) ∧ (¬ (r18 = 0) → PX13_fieldOrMethod_53 a1 16122 a1 1 G17 Q)))) ∧ (¬ (G12 16120 a1 = 0) → PX13_fieldOrMethod_52 a1 16122 a1 G12 Q)))))))))))))
abbrev PX13_fieldOrMethod (a1 : Int) (G : gS) (Q : Int → gS → Prop) : Prop := PX13_fieldOrMethod_0 a1 G Q
def PX13_member_228 (l1 : Int) (l2 : Int) (G : gS) (Q : Int → gS → Prop) : Prop :=
  Q 0 G
def PX13_member_205 (l1 : Int) (l2 : Int) (G : gS) (Q : Int → gS → Prop) : Prop :=
  (inI (G 16081 20) → ((G 16081 20 = 0 → PX13_effects l1 l2 G (fun _ G62 => ((0 : Int) ≤ l1 ∧ ((l1 : Int) < 216 ∧ (inI (G62 16115 l1) → ((0 : Int) ≤ l1 ∧ ((l1 : Int) < 216 ∧ (inI ((G62 16115 l1) + 1) ∧ (∀ G70 : gS, G70 = uG G62 16115 l1 ((G62 16115 l1) + 1) → PX13_member_228 l1 l2 G70 Q))))))))) ∧ (¬ (G 16081 20 = 0) → PX13_member_228 l1 l2 G Q)))
def PX13_member_200 (l1 : Int) (l2 : Int) (G : gS) (Q : Int → gS → Prop) : Prop :=
  PX13_fieldOrMethod l2 G (fun _ G54 => PX13_member_205 l1 l2 G54 Q)
def PX13_member_192 (l1 : Int) (l2 : Int) (G : gS) (Q : Int → gS → Prop) : Prop :=
  PX13_body l2 G (fun _ G91 => PX13_member_205 l1 l2 G91 Q)
def PX13_member_158 (l1 : Int) (l2 : Int) (s0 : Int) (s1 : Int) (s2 : Int) (G : gS) (Q : Int → gS → Prop) : Prop :=
  (∃ n71, isA W0 0 n71 (s0) ∧ ((0 : Int) ≤ s1 ∧ ((s1 : Int) < n71 ∧ (∀ G75 : gS, G75 = uG G s0 s1 (s2) → (inI (G75 16081 22) → PX13_placeAt (G75 16081 22) G75 (fun r78 G77 => inI r78 → ((0 : Int) ≤ l2 ∧ ((l2 : Int) < 7344 ∧ (∀ G82 : gS, G82 = uG G77 16126 l2 (r78) → PX13_step G82 (fun _ G83 => ((0 : Int) ≤ l2 ∧ ((l2 : Int) < 7344 ∧ (inI (G83 16116 l2) → ((G83 16116 l2 = 2 → PX13_params l2 G83 (fun _ G89 => PX13_member_192 l1 l2 G89 Q)) ∧ (¬ (G83 16116 l2 = 2) → PX13_member_192 l1 l2 G83 Q)))))))))))))))
def PX13_member_138 (l1 : Int) (l2 : Int) (G : gS) (Q : Int → gS → Prop) : Prop :=
  PX13_isWordAt 43 G (fun r57 G56 => (0 ≤ r57 ∧ r57 ≤ 1) → ((r57 = 0 → PX13_member_158 l1 l2 16116 l2 3 G56 Q) ∧ (¬ (r57 = 0) → PX13_member_158 l1 l2 16116 l2 2 G56 Q)))
def PX13_member_101 (l1 : Int) (l2 : Int) (s0 : Int) (s1 : Int) (s2 : Int) (G : gS) (Q : Int → gS → Prop) : Prop :=
  (∃ n35, isA W0 0 n35 (s0) ∧ ((0 : Int) ≤ s1 ∧ ((s1 : Int) < n35 ∧ (∀ G39 : gS, G39 = uG G s0 s1 (s2) → (inI (G39 16081 20) → ((G39 16081 20 = 0 → PX13_isWordAt 43 G39 (fun r43 G42 => (0 ≤ r43 ∧ r43 ≤ 1) → ((r43 = 0 → ((0 : Int) ≤ l2 ∧ ((l2 : Int) < 7344 ∧ (inI (G42 16117 l2) → ((G42 16117 l2 = 0 → PX13_isWordAt 44 G42 (fun r51 G50 => (0 ≤ r51 ∧ r51 ≤ 1) → ((r51 = 0 → PX13_member_200 l1 l2 G50 Q) ∧ (¬ (r51 = 0) → PX13_member_138 l1 l2 G50 Q)))) ∧ (¬ (G42 16117 l2 = 0) → PX13_member_200 l1 l2 G42 Q)))))) ∧ (¬ (r43 = 0) → PX13_member_138 l1 l2 G42 Q)))) ∧ (¬ (G39 16081 20 = 0) → PX13_member_200 l1 l2 G39 Q)))))))
def PX13_member_0 (a1 : Int) (G : gS) (Q : Int → gS → Prop) : Prop :=
  PX13_beginsMember G (fun r2 G1 => (0 ≤ r2 ∧ r2 ≤ 1) → ((r2 = 0 → PX13_wrong G1 (fun _ G5 => Q 0 G5)) ∧ (¬ (r2 = 0) → ((0 : Int) ≤ a1 ∧ ((a1 : Int) < 216 ∧ (inI (G1 16115 a1) → ((G1 16115 a1 = 20 → (inI (G1 16081 22) → PX13_placeAt (G1 16081 22) G1 (fun r13 G12 => inI r13 → PX13_fault 3 r13 G12 (fun _ G15 => Q 0 G15)))) ∧ (¬ (G1 16115 a1 = 20) → ((0 : Int) ≤ a1 ∧ ((a1 : Int) < 216 ∧ (inI (G1 16115 a1) → (inI ((a1 * 34) + (G1 16115 a1)) ∧ PX13_newMember ((a1 * 34) + (G1 16115 a1)) G1 (fun _ G21 => PX13_takesWord 30 G21 (fun r24 G23 => (0 ≤ r24 ∧ r24 ≤ 1) → ((r24 = 0 → PX13_takesWord 40 G23 (fun r28 G27 => (0 ≤ r28 ∧ r28 ≤ 1) → ((r28 = 0 → PX13_takesWord 41 G27 (fun r32 G31 => (0 ≤ r32 ∧ r32 ≤ 1) → ((r32 = 0 → PX13_member_101 a1 ((a1 * 34) + (G1 16115 a1)) 16117 ((a1 * 34) + (G1 16115 a1)) 0 G31 Q) ∧ (¬ (r32 = 0) → PX13_member_101 a1 ((a1 * 34) + (G1 16115 a1)) 16117 ((a1 * 34) + (G1 16115 a1)) 3 G31 Q)))) ∧ (¬ (r28 = 0) → PX13_member_101 a1 ((a1 * 34) + (G1 16115 a1)) 16117 ((a1 * 34) + (G1 16115 a1)) 2 G27 Q)))) ∧ (¬ (r24 = 0) → PX13_member_101 a1 ((a1 * 34) + (G1 16115 a1)) 16117 ((a1 * 34) + (G1 16115 a1)) 1 G23 Q))))))))))))))))
abbrev PX13_member (a1 : Int) (G : gS) (Q : Int → gS → Prop) : Prop := PX13_member_0 a1 G Q
def PX13_klass_430 (J : Nat → List Int → gS → (Int → gS → Prop) → Prop) (l1 : Int) (l2 : Int) (l3 : Int) (l4 : Int) (G : gS) (Q : Int → gS → Prop) : Prop :=
  PX13_wantSign 125 G (fun _ G163 => Q 0 G163)
def PX13_klass_405 (J : Nat → List Int → gS → (Int → gS → Prop) → Prop) (l1 : Int) (l2 : Int) (l3 : Int) (l4 : Int) (G : gS) (Q : Int → gS → Prop) : Prop :=
  (inI (G 16081 20) → ((G 16081 20 = 0 → PX13_isSign 125 G (fun r158 G157 => (0 ≤ r158 ∧ r158 ≤ 1) → ((r158 = 0 → PX13_member l4 G157 (fun _ G161 => J 0 [l1, l2, l3, l4] G161 Q)) ∧ (¬ (r158 = 0) → PX13_klass_430 J l1 l2 l3 l4 G157 Q)))) ∧ (¬ (G 16081 20 = 0) → PX13_klass_430 J l1 l2 l3 l4 G Q)))
def PX13_klass_398 (J : Nat → List Int → gS → (Int → gS → Prop) → Prop) (l1 : Int) (l2 : Int) (l3 : Int) (l4 : Int) (s0 : Int) (s1 : Int) (s2 : Int) (G : gS) (Q : Int → gS → Prop) : Prop :=
  (∃ n148, isA W0 0 n148 (s0) ∧ ((0 : Int) ≤ s1 ∧ ((s1 : Int) < n148 ∧ (∀ G152 : gS, G152 = uG G s0 s1 (s2) → PX13_wantSign 123 G152 (fun _ G153 => PX13_klass_405 J l1 l2 l3 l4 G153 Q)))))
def PX13_klass_358 (J : Nat → List Int → gS → (Int → gS → Prop) → Prop) (l1 : Int) (l2 : Int) (l3 : Int) (l4 : Int) (s0 : Int) (s1 : Int) (s2 : Int) (G : gS) (Q : Int → gS → Prop) : Prop :=
  (∃ n135, isA W0 0 n135 (s0) ∧ ((0 : Int) ≤ s1 ∧ ((s1 : Int) < n135 ∧ (∀ G139 : gS, G139 = uG G s0 s1 (s2) → PX13_takesWord 37 G139 (fun r141 G140 => (0 ≤ r141 ∧ r141 ≤ 1) → ((r141 = 0 → PX13_klass_398 J l1 l2 l3 l4 16114 l4 0 G140 Q) ∧ (¬ (r141 = 0) → (inI (8 * l4) ∧ PX13_list 16112 16113 (8 * l4) 8 G140 (fun r146 G145 => inI r146 → PX13_klass_398 J l1 l2 l3 l4 16114 l4 r146 G145 Q)))))))))
def PX13_klass_319 (J : Nat → List Int → gS → (Int → gS → Prop) → Prop) (l1 : Int) (l2 : Int) (l3 : Int) (l4 : Int) (G : gS) (Q : Int → gS → Prop) : Prop :=
  PX13_takesWord 36 G (fun r128 G127 => (0 ≤ r128 ∧ r128 ≤ 1) → ((r128 = 0 → PX13_klass_358 J l1 l2 l3 l4 16111 l4 0 G127 Q) ∧ (¬ (r128 = 0) → (inI (8 * l4) ∧ PX13_list 16109 16110 (8 * l4) 8 G127 (fun r133 G132 => inI r133 → PX13_klass_358 J l1 l2 l3 l4 16111 l4 r133 G132 Q)))))
def PX13_klass_277 (J : Nat → List Int → gS → (Int → gS → Prop) → Prop) (l1 : Int) (l2 : Int) (l3 : Int) (l4 : Int) (s0 : Int) (s1 : Int) (s2 : Int) (G : gS) (Q : Int → gS → Prop) : Prop :=
  (∃ n103, isA W0 0 n103 (s0) ∧ ((0 : Int) ≤ s1 ∧ ((s1 : Int) < n103 ∧ (∀ G107 : gS, G107 = uG G s0 s1 (s2) → PX13_takesWord 35 G107 (fun r109 G108 => (0 ≤ r109 ∧ r109 ≤ 1) → ((r109 = 0 → PX13_klass_319 J l1 l2 l3 l4 G108 Q) ∧ (¬ (r109 = 0) → PX13_want 1 0 G108 (fun r113 G112 => inI r113 → PX13_nameAt r113 G112 (fun r116 G115 => inL r116 → ((0 : Int) ≤ l4 ∧ ((l4 : Int) < 216 ∧ (∀ G120 : gS, G120 = uG G115 16107 l4 (r116) → PX13_placeAt r113 G120 (fun r122 G121 => inI r122 → ((0 : Int) ≤ l4 ∧ ((l4 : Int) < 216 ∧ (∀ G126 : gS, G126 = uG G121 16108 l4 (r122) → PX13_klass_319 J l1 l2 r113 l4 G126 Q))))))))))))))))
def PX13_klass_240 (J : Nat → List Int → gS → (Int → gS → Prop) → Prop) (l1 : Int) (l2 : Int) (l3 : Int) (l4 : Int) (G : gS) (Q : Int → gS → Prop) : Prop :=
  PX13_takesWord 34 G (fun r96 G95 => (0 ≤ r96 ∧ r96 ≤ 1) → ((r96 = 0 → PX13_klass_277 J l1 l2 l3 l4 16106 l4 0 G95 Q) ∧ (¬ (r96 = 0) → (inI (4 * l4) ∧ PX13_list 16104 16105 (4 * l4) 4 G95 (fun r101 G100 => inI r101 → PX13_klass_277 J l1 l2 l3 l4 16106 l4 r101 G100 Q)))))
def PX13_klass_91 (J : Nat → List Int → gS → (Int → gS → Prop) → Prop) (l1 : Int) (l2 : Int) (s0 : Int) (s1 : Int) (s2 : Int) (G : gS) (Q : Int → gS → Prop) : Prop :=
  (isO W0 13 (s0) ∧ PX13_want s1 s2 G (fun r30 G29 => inI r30 → (inI (G29 16081 20) → ((G29 16081 20 = 0 → (inI (G29 16081 19) → (inI (G29 16081 19) → ((0 : Int) ≤ G29 16081 19 ∧ ((G29 16081 19 : Int) < 18 ∧ (inI (G29 16097 (G29 16081 19)) → (inI (((G29 16081 19) * 12) + (G29 16097 (G29 16081 19))) ∧ (inI (G29 16081 19) → ((0 : Int) ≤ G29 16081 19 ∧ ((G29 16081 19 : Int) < 18 ∧ (inI (G29 16097 (G29 16081 19)) → ((0 : Int) ≤ G29 16081 19 ∧ ((G29 16081 19 : Int) < 18 ∧ (inI ((G29 16097 (G29 16081 19)) + 1) ∧ (∀ G47 : gS, G47 = uG G29 16097 (G29 16081 19) ((G29 16097 (G29 16081 19)) + 1) → PX13_nameAt r30 G47 (fun r49 G48 => inL r49 → ((0 : Int) ≤ ((G29 16081 19) * 12) + (G29 16097 (G29 16081 19)) ∧ ((((G29 16081 19) * 12) + (G29 16097 (G29 16081 19)) : Int) < 216 ∧ (∀ G53 : gS, G53 = uG G48 16098 (((G29 16081 19) * 12) + (G29 16097 (G29 16081 19))) (r49) → PX13_placeAt r30 G53 (fun r55 G54 => inI r55 → ((0 : Int) ≤ ((G29 16081 19) * 12) + (G29 16097 (G29 16081 19)) ∧ ((((G29 16081 19) * 12) + (G29 16097 (G29 16081 19)) : Int) < 216 ∧ (∀ G59 : gS, G59 = uG G54 16099 (((G29 16081 19) * 12) + (G29 16097 (G29 16081 19))) (r55) → ((0 : Int) ≤ ((G29 16081 19) * 12) + (G29 16097 (G29 16081 19)) ∧ ((((G29 16081 19) * 12) + (G29 16097 (G29 16081 19)) : Int) < 216 ∧ ((0 ≤ l1 ∧ l1 ≤ 1) ∧ (∀ G63 : gS, G63 = uG G59 16100 (((G29 16081 19) * 12) + (G29 16097 (G29 16081 19))) (l1) → ((0 : Int) ≤ ((G29 16081 19) * 12) + (G29 16097 (G29 16081 19)) ∧ ((((G29 16081 19) * 12) + (G29 16097 (G29 16081 19)) : Int) < 216 ∧ (∀ G66 : gS, G66 = uG G63 16101 (((G29 16081 19) * 12) + (G29 16097 (G29 16081 19))) (l2) → ((0 : Int) ≤ ((G29 16081 19) * 12) + (G29 16097 (G29 16081 19)) ∧ ((((G29 16081 19) * 12) + (G29 16097 (G29 16081 19)) : Int) < 216 ∧ (∀ G69 : gS, G69 = uG G66 16102 (((G29 16081 19) * 12) + (G29 16097 (G29 16081 19))) (0) → ((0 : Int) ≤ ((G29 16081 19) * 12) + (G29 16097 (G29 16081 19)) ∧ ((((G29 16081 19) * 12) + (G29 16097 (G29 16081 19)) : Int) < 216 ∧ (∀ G72 : gS, G72 = uG G69 16107 (((G29 16081 19) * 12) + (G29 16097 (G29 16081 19))) (0) → ((0 : Int) ≤ ((G29 16081 19) * 12) + (G29 16097 (G29 16081 19)) ∧ ((((G29 16081 19) * 12) + (G29 16097 (G29 16081 19)) : Int) < 216 ∧ (∀ G75 : gS, G75 = uG G72 16115 (((G29 16081 19) * 12) + (G29 16097 (G29 16081 19))) (0) → PX13_takesWord 33 G75 (fun r77 G76 => (0 ≤ r77 ∧ r77 ≤ 1) → ((r77 = 0 → PX13_klass_240 J l1 l2 r30 (((G29 16081 19) * 12) + (G29 16097 (G29 16081 19))) G76 Q) ∧ (¬ (r77 = 0) → PX13_want 1 0 G76 (fun r81 G80 => inI r81 → PX13_nameAt r81 G80 (fun r84 G83 => inL r84 → ((0 : Int) ≤ ((G29 16081 19) * 12) + (G29 16097 (G29 16081 19)) ∧ ((((G29 16081 19) * 12) + (G29 16097 (G29 16081 19)) : Int) < 216 ∧ (∀ G88 : gS, G88 = uG G83 16102 (((G29 16081 19) * 12) + (G29 16097 (G29 16081 19))) (r84) → PX13_placeAt r81 G88 (fun r90 G89 => inI r90 → ((0 : Int) ≤ ((G29 16081 19) * 12) + (G29 16097 (G29 16081 19)) ∧ ((((G29 16081 19) * 12) + (G29 16097 (G29 16081 19)) : Int) < 216 ∧ (∀ G94 : gS, G94 = uG G89 16103 (((G29 16081 19) * 12) + (G29 16097 (G29 16081 19))) (r90) → PX13_klass_240 J l1 l2 r81 (((G29 16081 19) * 12) + (G29 16097 (G29 16081 19))) G94 Q))))))))))))))))))))))))))))))))))))))))))))))))))) ∧ (¬ (G29 16081 20 = 0) → Q 0 G29)))))
def PX13_klass_70 (J : Nat → List Int → gS → (Int → gS → Prop) → Prop) (l1 : Int) (l2 : Int) (G : gS) (Q : Int → gS → Prop) : Prop :=
  (inI (G 16081 19) → ((0 : Int) ≤ G 16081 19 ∧ ((G 16081 19 : Int) < 18 ∧ (inI (G 16097 (G 16081 19)) → ((G 16097 (G 16081 19) = 12 → PX13_klass_91 J l1 l2 16081 1 1 G Q) ∧ (¬ (G 16097 (G 16081 19) = 12) → PX13_klass_91 J l1 l2 16081 1 0 G Q))))))
def PX13_klass_64 (J : Nat → List Int → gS → (Int → gS → Prop) → Prop) (l1 : Int) (l2 : Int) (G : gS) (Q : Int → gS → Prop) : Prop :=
  PX13_wantWord 38 G (fun _ G21 => PX13_klass_70 J l1 l2 G21 Q)
def PX13_klass_34 (J : Nat → List Int → gS → (Int → gS → Prop) → Prop) (l1 : Int) (s0 : Int) (G : gS) (Q : Int → gS → Prop) : Prop :=
  (inI (G 16081 20) → ((G 16081 20 = 0 → ((s0 = 0 → PX13_isWordAt 32 G (fun r16 G15 => (0 ≤ r16 ∧ r16 ≤ 1) → ((r16 = 0 → PX13_klass_64 J l1 s0 G15 Q) ∧ (¬ (r16 = 0) → PX13_step G15 (fun _ G19 => PX13_klass_70 J l1 3 G19 Q))))) ∧ (¬ (s0 = 0) → PX13_klass_64 J l1 s0 G Q))) ∧ (¬ (G 16081 20 = 0) → PX13_klass_64 J l1 s0 G Q)))
def PX13_klass_0 (J : Nat → List Int → gS → (Int → gS → Prop) → Prop)  (G : gS) (Q : Int → gS → Prop) : Prop :=
  PX13_takesWord 30 G (fun r2 G1 => (0 ≤ r2 ∧ r2 ≤ 1) → PX13_takesWord 31 G1 (fun r5 G4 => (0 ≤ r5 ∧ r5 ≤ 1) → ((r5 = 0 → PX13_takesWord 39 G4 (fun r9 G8 => (0 ≤ r9 ∧ r9 ≤ 1) → ((r9 = 0 → PX13_klass_34 J r2 0 G8 Q) ∧ (¬ (r9 = 0) → PX13_klass_34 J r2 2 G8 Q)))) ∧ (¬ (r5 = 0) → PX13_klass_34 J r2 1 G4 Q))))
def PX13_klass_J : Nat → Nat → List Int → gS → (Int → gS → Prop) → Prop
  | 0, _, _, _, _ => False
  | f + 1, h, L, G, Q => match h, L with
    | 0, [l1, l2, l3, l4] => PX13_klass_405 (PX13_klass_J f) l1 l2 l3 l4 G Q
    | _, _ => False
def PX13_klass  (G : gS) (Q : Int → gS → Prop) : Prop := ∃ f : Nat, f ≤ 4000000000 ∧ PX13_klass_0 (PX13_klass_J f)  G Q
def PX13_parse_55 (J : Nat → List Int → gS → (Int → gS → Prop) → Prop)  (G : gS) (Q : Int → gS → Prop) : Prop :=
  Q 0 G
def PX13_parse_30 (J : Nat → List Int → gS → (Int → gS → Prop) → Prop)  (G : gS) (Q : Int → gS → Prop) : Prop :=
  (inI (G 16081 20) → ((G 16081 20 = 0 → (inI (G 16081 22) → PX13_kindAt (G 16081 22) G (fun r15 G14 => inI r15 → ((r15 = 0 → PX13_parse_55 J  G14 Q) ∧ (¬ (r15 = 0) → PX13_klass G14 (fun _ G18 => J 0 [] G18 Q)))))) ∧ (¬ (G 16081 20 = 0) → PX13_parse_55 J  G Q)))
def PX13_parse_0 (J : Nat → List Int → gS → (Int → gS → Prop) → Prop)  (G : gS) (Q : Int → gS → Prop) : Prop :=
  (∀ G1 : gS, G1 = uG G 16081 22 (0) → (∀ G2 : gS, G2 = uG G1 16081 89 (0) → (inI (G2 16081 19) → ((0 : Int) ≤ G2 16081 19 ∧ ((G2 16081 19 : Int) < 18 ∧ (∀ G6 : gS, G6 = uG G2 16097 (G2 16081 19) (0) → (inI (G6 16081 19) → ((0 : Int) ≤ G6 16081 19 ∧ ((G6 16081 19 : Int) < 18 ∧ (∀ G10 : gS, G10 = uG G6 16143 (G6 16081 19) (0) → PX13_parse_30 J  G10 Q))))))))))
def PX13_parse_J : Nat → Nat → List Int → gS → (Int → gS → Prop) → Prop
  | 0, _, _, _, _ => False
  | f + 1, h, L, G, Q => match h, L with
    | 0, [] => PX13_parse_30 (PX13_parse_J f)  G Q
    | _, _ => False
def PX13_parse  (G : gS) (Q : Int → gS → Prop) : Prop := ∃ f : Nat, f ≤ 4000000000 ∧ PX13_parse_0 (PX13_parse_J f)  G Q
def PX13_given_118 (J : Nat → List Int → gS → (Int → gS → Prop) → Prop) (l1 : Int) (l2 : Int) (G : gS) (Q : Int → gS → Prop) : Prop :=
  ((0 : Int) ≤ l2 ∧ ((l2 : Int) < 216 ∧ (inI (G 16115 l2) → (inI ((l2 * 34) + (G 16115 l2)) ∧ PX13_newMember ((l2 * 34) + (G 16115 l2)) G (fun _ G52 => ((0 : Int) ≤ (l2 * 34) + (G 16115 l2) ∧ (((l2 * 34) + (G 16115 l2) : Int) < 7344 ∧ (∀ G56 : gS, G56 = uG G52 16116 ((l2 * 34) + (G 16115 l2)) (2) → ((0 : Int) ≤ (l2 * 34) + (G 16115 l2) ∧ (((l2 * 34) + (G 16115 l2) : Int) < 7344 ∧ (∀ G59 : gS, G59 = uG G56 16118 ((l2 * 34) + (G 16115 l2)) (3) → ((0 : Int) ≤ l2 ∧ ((l2 : Int) < 216 ∧ (inI (G59 16115 l2) → ((0 : Int) ≤ l2 ∧ ((l2 : Int) < 216 ∧ (inI ((G59 16115 l2) + 1) ∧ (∀ G66 : gS, G66 = uG G59 16115 l2 ((G59 16115 l2) + 1) → (inI (l1 + 1) ∧ J 0 [l1 + 1] G66 Q)))))))))))))))))))
def PX13_given_39 (J : Nat → List Int → gS → (Int → gS → Prop) → Prop) (l1 : Int) (l2 : Int) (s0 : Int) (s1 : Int) (s2 : Int) (G : gS) (Q : Int → gS → Prop) : Prop :=
  (∃ n12, isA W0 1 n12 (s0) ∧ ((0 : Int) ≤ s1 ∧ ((s1 : Int) < n12 ∧ (∀ G16 : gS, G16 = uG G s0 s1 (s2) → ((0 : Int) ≤ l2 ∧ ((l2 : Int) < 216 ∧ (∀ G19 : gS, G19 = uG G16 16100 l2 (1) → ((0 : Int) ≤ l2 ∧ ((l2 : Int) < 216 ∧ (∀ G22 : gS, G22 = uG G19 16101 l2 (0) → ((0 : Int) ≤ l2 ∧ ((l2 : Int) < 216 ∧ (∀ G25 : gS, G25 = uG G22 16115 l2 (0) → ((l1 = 1 → (inI (l2 * 34) ∧ PX13_newMember (l2 * 34) G25 (fun _ G28 => ((0 : Int) ≤ l2 * 34 ∧ ((l2 * 34 : Int) < 7344 ∧ (∀ G32 : gS, G32 = uG G28 16116 (l2 * 34) (0) → ((0 : Int) ≤ l2 * 34 ∧ ((l2 * 34 : Int) < 7344 ∧ (∀ G35 : gS, G35 = uG G32 16118 (l2 * 34) (3) → PX13_nameOf 58 G35 (fun r37 G36 => inL r37 → ((0 : Int) ≤ l2 * 34 ∧ ((l2 * 34 : Int) < 7344 ∧ (∀ G41 : gS, G41 = uG G36 16125 (l2 * 34) (r37) → ((0 : Int) ≤ l2 * 34 ∧ ((l2 * 34 : Int) < 7344 ∧ (∀ G44 : gS, G44 = uG G41 16127 (l2 * 34) (2) → ((0 : Int) ≤ l2 ∧ ((l2 : Int) < 216 ∧ (∀ G47 : gS, G47 = uG G44 16115 l2 (1) → PX13_given_118 J l1 l2 G47 Q))))))))))))))))))) ∧ (¬ (l1 = 1) → PX13_given_118 J l1 l2 G25 Q)))))))))))))))
def PX13_given_10 (J : Nat → List Int → gS → (Int → gS → Prop) → Prop) (l1 : Int) (G : gS) (Q : Int → gS → Prop) : Prop :=
  ((l1 < 2 → (inI (204 + l1) ∧ ((l1 = 0 → PX13_given_39 J l1 (204 + l1) 16098 (204 + l1) 2305843009220621209 G Q) ∧ (¬ (l1 = 0) → PX13_given_39 J l1 (204 + l1) 16098 (204 + l1) 2305843009220653836 G Q)))) ∧ (¬ (l1 < 2) → PX13_newMember 7343 G (fun _ G7 => ((0 : Int) ≤ 7343 ∧ ((7343 : Int) < 7344 ∧ (∀ G11 : gS, G11 = uG G7 16116 7343 (1) → Q 0 G11))))))
def PX13_given_0 (J : Nat → List Int → gS → (Int → gS → Prop) → Prop)  (G : gS) (Q : Int → gS → Prop) : Prop :=
  ((0 : Int) ≤ 17 ∧ ((17 : Int) < 18 ∧ (∀ G3 : gS, G3 = uG G 16097 17 (2) → PX13_given_10 J 0 G3 Q)))
def PX13_given_J : Nat → Nat → List Int → gS → (Int → gS → Prop) → Prop
  | 0, _, _, _, _ => False
  | f + 1, h, L, G, Q => match h, L with
    | 0, [l1] => PX13_given_10 (PX13_given_J f) l1 G Q
    | _, _ => False
def PX13_given  (G : gS) (Q : Int → gS → Prop) : Prop := ∃ f : Nat, f ≤ 4000000000 ∧ PX13_given_0 (PX13_given_J f)  G Q
def PX13_load_77 (R : Nat → List Int → gS → (Int → gS → Prop) → Prop) (l1 : Int) (l2 : Int) (s0 : Int) (G : gS) (Q : Int → gS → Prop) : Prop :=
  Q (s0) G
def PX13_load_35 (R : Nat → List Int → gS → (Int → gS → Prop) → Prop) (l1 : Int) (l2 : Int) (l3 : Int) (s0 : Int) (s1 : Int) (s2 : Int) (G : gS) (Q : Int → gS → Prop) : Prop :=
  (isO W0 13 (s0) ∧ PX13_becomes s1 s2 l3 G (fun _ G21 => Q (l3) G21))
def PX13_load_0 (R : Nat → List Int → gS → (Int → gS → Prop) → Prop) (a1 : Int) (G : gS) (Q : Int → gS → Prop) : Prop :=
  PX13_stateOf a1 G (fun r2 G1 => inI r2 → ((r2 = 0 → PX13_becomes a1 8 0 G1 (fun _ G5 => R 1 [a1] G5 (fun r8 G7 => inI r8 → ((r8 = 0 → PX13_load_35 R a1 r2 r8 16081 a1 1 G7 Q) ∧ (¬ (r8 = 0) → PX13_load_35 R a1 r2 r8 16081 a1 5 G7 Q))))) ∧ (¬ (r2 = 0) → ((r2 = 8 → PX13_load_77 R a1 r2 10 G1 Q) ∧ (¬ (r2 = 8) → ((r2 = 5 → (inI (G1 16081 134) → ((0 : Int) ≤ a1 ∧ ((a1 : Int) < 216 ∧ (inI (G1 16189 a1) → ((0 : Int) ≤ (G1 16081 134) + (G1 16189 a1) ∧ (((G1 16081 134) + (G1 16189 a1) : Int) < 128 ∧ (inI (G1 16191 ((G1 16081 134) + (G1 16189 a1))) → PX13_load_77 R a1 r2 (G1 16191 ((G1 16081 134) + (G1 16189 a1))) G1 Q)))))))) ∧ (¬ (r2 = 5) → PX13_load_77 R a1 r2 0 G1 Q)))))))
abbrev PX13_load (R : Nat → List Int → gS → (Int → gS → Prop) → Prop) (a1 : Int) (G : gS) (Q : Int → gS → Prop) : Prop := PX13_load_0 R a1 G Q
def PX13_loadAbove_120 (R : Nat → List Int → gS → (Int → gS → Prop) → Prop) (J : Nat → List Int → gS → (Int → gS → Prop) → Prop) (l1 : Int) (l2 : Int) (l3 : Int) (s0 : Int) (G : gS) (Q : Int → gS → Prop) : Prop :=
  ((s0 = 0 → PX13_isFace l3 G (fun r45 G44 => (0 ≤ r45 ∧ r45 ≤ 1) → ((r45 = 0 → Q (3) G44) ∧ (¬ (r45 = 0) → PX13_isLet l3 l1 G44 (fun r49 G48 => (0 ≤ r49 ∧ r49 ≤ 1) → ((r49 = 0 → Q (2) G48) ∧ (¬ (r49 = 0) → PX13_letsBelow l3 l1 G48 (fun r53 G52 => (0 ≤ r53 ∧ r53 ≤ 1) → ((r53 = 0 → Q (3) G52) ∧ (¬ (r53 = 0) → (inI (l2 + 1) ∧ J 0 [l1, l2 + 1] G52 Q))))))))))) ∧ (¬ (s0 = 0) → Q (s0) G))
def PX13_loadAbove_80 (R : Nat → List Int → gS → (Int → gS → Prop) → Prop) (J : Nat → List Int → gS → (Int → gS → Prop) → Prop) (l1 : Int) (l2 : Int) (G : gS) (Q : Int → gS → Prop) : Prop :=
  ((0 : Int) ≤ l1 ∧ ((l1 : Int) < 216 ∧ (inI (G 16106 l1) → ((l2 < G 16106 l1 → ((0 : Int) ≤ (4 * l1) + l2 ∧ (((4 * l1) + l2 : Int) < 864 ∧ (inL (G 16104 ((4 * l1) + l2)) → PX13_find (G 16104 ((4 * l1) + l2)) G (fun r37 G36 => inI r37 → ((r37 = -2 → PX13_loadAbove_120 R J l1 l2 r37 1 G36 Q) ∧ (¬ (r37 = -2) → R 0 [r37] G36 (fun r41 G40 => inI r41 → PX13_loadAbove_120 R J l1 l2 r37 r41 G40 Q)))))))) ∧ (¬ (l2 < G 16106 l1) → Q (0) G)))))
def PX13_loadAbove_78 (R : Nat → List Int → gS → (Int → gS → Prop) → Prop) (J : Nat → List Int → gS → (Int → gS → Prop) → Prop) (l1 : Int) (G : gS) (Q : Int → gS → Prop) : Prop :=
  PX13_loadAbove_80 R J l1 0 G Q
def PX13_loadAbove_76 (R : Nat → List Int → gS → (Int → gS → Prop) → Prop) (J : Nat → List Int → gS → (Int → gS → Prop) → Prop) (l1 : Int) (l2 : Int) (l3 : Int) (G : gS) (Q : Int → gS → Prop) : Prop :=
  Q (3) G
def PX13_loadAbove_29 (R : Nat → List Int → gS → (Int → gS → Prop) → Prop) (J : Nat → List Int → gS → (Int → gS → Prop) → Prop) (l1 : Int) (l2 : Int) (s0 : Int) (G : gS) (Q : Int → gS → Prop) : Prop :=
  ((s0 = 0 → PX13_isFace l2 G (fun r14 G13 => (0 ≤ r14 ∧ r14 ≤ 1) → ((r14 = 0 → PX13_isLet l2 l1 G13 (fun r18 G17 => (0 ≤ r18 ∧ r18 ≤ 1) → ((r18 = 0 → Q (2) G17) ∧ (¬ (r18 = 0) → ((0 : Int) ≤ l2 ∧ ((l2 : Int) < 216 ∧ (inI (G17 16101 l2) → ((G17 16101 l2 = 1 → PX13_loadAbove_76 R J l1 l2 s0 G17 Q) ∧ (¬ (G17 16101 l2 = 1) → PX13_letsBelow l2 l1 G17 (fun r26 G25 => (0 ≤ r26 ∧ r26 ≤ 1) → ((r26 = 0 → PX13_loadAbove_76 R J l1 l2 s0 G25 Q) ∧ (¬ (r26 = 0) → PX13_loadAbove_78 R J l1 G25 Q)))))))))))) ∧ (¬ (r14 = 0) → Q (3) G13)))) ∧ (¬ (s0 = 0) → Q (s0) G))
def PX13_loadAbove_0 (R : Nat → List Int → gS → (Int → gS → Prop) → Prop) (J : Nat → List Int → gS → (Int → gS → Prop) → Prop) (a1 : Int) (G : gS) (Q : Int → gS → Prop) : Prop :=
  PX13_isFace a1 G (fun r2 G1 => (0 ≤ r2 ∧ r2 ≤ 1) → ((r2 = 0 → PX13_parent a1 G1 (fun r6 G5 => inI r6 → ((r6 = -2 → PX13_loadAbove_29 R J a1 r6 1 G5 Q) ∧ (¬ (r6 = -2) → R 0 [r6] G5 (fun r10 G9 => inI r10 → PX13_loadAbove_29 R J a1 r6 r10 G9 Q))))) ∧ (¬ (r2 = 0) → PX13_loadAbove_78 R J a1 G1 Q)))
def PX13_loadAbove_J (R : Nat → List Int → gS → (Int → gS → Prop) → Prop) : Nat → Nat → List Int → gS → (Int → gS → Prop) → Prop
  | 0, _, _, _, _ => False
  | f + 1, h, L, G, Q => match h, L with
    | 0, [l1, l2] => PX13_loadAbove_80 R (PX13_loadAbove_J R f) l1 l2 G Q
    | _, _ => False
def PX13_loadAbove (R : Nat → List Int → gS → (Int → gS → Prop) → Prop) (a1 : Int) (G : gS) (Q : Int → gS → Prop) : Prop := ∃ f : Nat, f ≤ 4000000000 ∧ PX13_loadAbove_0 R (PX13_loadAbove_J R f) a1 G Q
def Rq10 : Nat → Nat → List Int → gS → (Int → gS → Prop) → Prop
  | 0, _, _, _, _ => False
  | n + 1, i, L, G, Q => match i, L with
    | 0, [a1] => PX13_load (Rq10 n) a1 G Q
    | 1, [a1] => PX13_loadAbove (Rq10 n) a1 G Q
    | _, _ => False
def PX13_nest_90 (l1 : Int) (l2 : Int) (s0 : Int) (G : gS) (Q : Int → gS → Prop) : Prop :=
  Q (s0) G
def PX13_nest_89 (l1 : Int) (l2 : Int) (G : gS) (Q : Int → gS → Prop) : Prop :=
  PX13_nest_90 l1 l2 l1 G Q
def PX13_nest_50 (l1 : Int) (l2 : Int) (G : gS) (Q : Int → gS → Prop) : Prop :=
  PX13_onePackage l2 l1 G (fun r19 G18 => (0 ≤ r19 ∧ r19 ≤ 1) → ((r19 = 0 → PX13_nest_89 l1 l2 G18 Q) ∧ (¬ (r19 = 0) → ((0 : Int) ≤ l2 ∧ ((l2 : Int) < 216 ∧ (inI (G18 16111 l2) → ((0 : Int) ≤ l1 ∧ ((l1 : Int) < 216 ∧ (inL (G18 16098 l1) → (inI (8 * l2) ∧ PX13_stands 16109 (8 * l2) (G18 16111 l2) (G18 16098 l1) G18 (fun r30 G29 => (0 ≤ r30 ∧ r30 ≤ 1) → ((r30 = 0 → PX13_nest_89 l1 l2 G29 Q) ∧ (¬ (r30 = 0) → PX13_nest_90 l1 l2 l2 G29 Q)))))))))))))
def PX13_nest_48 (l1 : Int) (l2 : Int) (G : gS) (Q : Int → gS → Prop) : Prop :=
  Q (l1) G
def PX13_nest_26 (l1 : Int) (s0 : Int) (G : gS) (Q : Int → gS → Prop) : Prop :=
  ((s0 = -2 → PX13_nest_48 l1 s0 G Q) ∧ (¬ (s0 = -2) → ((0 ≤ G 16081 92 ∧ G 16081 92 ≤ 1) → ((G 16081 92 = 0 → PX13_nest_50 l1 s0 G Q) ∧ (¬ (G 16081 92 = 0) → Rq10 160 0 [s0] G (fun r15 G14 => inI r15 → ((r15 = 0 → PX13_nest_50 l1 s0 G14 Q) ∧ (¬ (r15 = 0) → PX13_nest_48 l1 s0 G14 Q))))))))
def PX13_nest_0 (a1 : Int) (G : gS) (Q : Int → gS → Prop) : Prop :=
  ((0 : Int) ≤ a1 ∧ ((a1 : Int) < 216 ∧ (inL (G 16107 a1) → ((G 16107 a1 = 0 → PX13_nest_26 a1 (-2) G Q) ∧ (¬ (G 16107 a1 = 0) → ((0 : Int) ≤ a1 ∧ ((a1 : Int) < 216 ∧ (inL (G 16107 a1) → PX13_find (G 16107 a1) G (fun r9 G8 => inI r9 → PX13_nest_26 a1 r9 G8 Q)))))))))
abbrev PX13_nest (a1 : Int) (G : gS) (Q : Int → gS → Prop) : Prop := PX13_nest_0 a1 G Q
def PX13_nestsAreOne_20 (l1 : Int) (l2 : Int) (l3 : Int) (s0 : Int) (G : gS) (Q : Int → gS → Prop) : Prop :=
  ((0 ≤ s0 ∧ s0 ≤ 1) ∧ Q (s0) G)
def PX13_nestsAreOne_0 (a1 : Int) (a2 : Int) (G : gS) (Q : Int → gS → Prop) : Prop :=
  PX13_nest a1 G (fun r2 G1 => inI r2 → PX13_nest a2 G1 (fun r5 G4 => inI r5 → ((r2 = r5 → PX13_nestsAreOne_20 a1 a2 r2 1 G4 Q) ∧ (¬ (r2 = r5) → PX13_nestsAreOne_20 a1 a2 r2 0 G4 Q))))
abbrev PX13_nestsAreOne (a1 : Int) (a2 : Int) (G : gS) (Q : Int → gS → Prop) : Prop := PX13_nestsAreOne_0 a1 a2 G Q
def PX13_isLetMember_134 (l1 : Int) (l2 : Int) (l3 : Int) (l4 : Int) (l5 : Int) (s0 : Int) (G : gS) (Q : Int → gS → Prop) : Prop :=
  ((0 ≤ s0 ∧ s0 ≤ 1) ∧ Q (s0) G)
def PX13_isLetMember_133 (l1 : Int) (l2 : Int) (l3 : Int) (l4 : Int) (l5 : Int) (G : gS) (Q : Int → gS → Prop) : Prop :=
  PX13_isLetMember_134 l1 l2 l3 l4 l5 0 G Q
def PX13_isLetMember_129 (l1 : Int) (l2 : Int) (l3 : Int) (l4 : Int) (l5 : Int) (G : gS) (Q : Int → gS → Prop) : Prop :=
  PX13_isLetMember_134 l1 l2 l3 l4 l5 1 G Q
def PX13_isLetMember_107 (l1 : Int) (l2 : Int) (l3 : Int) (l4 : Int) (l5 : Int) (s0 : Int) (G : gS) (Q : Int → gS → Prop) : Prop :=
  ((0 ≤ s0 ∧ s0 ≤ 1) ∧ Q (s0) G)
def PX13_isLetMember_106 (l1 : Int) (l2 : Int) (l3 : Int) (l4 : Int) (l5 : Int) (G : gS) (Q : Int → gS → Prop) : Prop :=
  PX13_isLetMember_107 l1 l2 l3 l4 l5 0 G Q
def PX13_isLetMember_102 (l1 : Int) (l2 : Int) (l3 : Int) (l4 : Int) (l5 : Int) (G : gS) (Q : Int → gS → Prop) : Prop :=
  PX13_isLetMember_107 l1 l2 l3 l4 l5 1 G Q
def PX13_isLetMember_79 (l1 : Int) (l2 : Int) (l3 : Int) (l4 : Int) (l5 : Int) (G : gS) (Q : Int → gS → Prop) : Prop :=
  ((l2 = l3 → PX13_isLetMember_102 l1 l2 l3 l4 l5 G Q) ∧ (¬ (l2 = l3) → PX13_isHeir l2 l3 G (fun r35 G34 => (0 ≤ r35 ∧ r35 ≤ 1) → ((r35 = 0 → PX13_isHeir l3 l2 G34 (fun r39 G38 => (0 ≤ r39 ∧ r39 ≤ 1) → ((r39 = 0 → PX13_isLetMember_106 l1 l2 l3 l4 l5 G38 Q) ∧ (¬ (r39 = 0) → PX13_isLetMember_102 l1 l2 l3 l4 l5 G38 Q)))) ∧ (¬ (r35 = 0) → PX13_isLetMember_102 l1 l2 l3 l4 l5 G34 Q)))))
def PX13_isLetMember_60 (l1 : Int) (l2 : Int) (l3 : Int) (l4 : Int) (l5 : Int) (G : gS) (Q : Int → gS → Prop) : Prop :=
  ((0 : Int) ≤ l1 ∧ ((l1 : Int) < 7344 ∧ (inI (G 16116 l1) → ((G 16116 l1 = 2 → PX13_isLetMember_79 l1 l2 l3 l4 l5 G Q) ∧ (¬ (G 16116 l1 = 2) → ((0 : Int) ≤ l1 ∧ ((l1 : Int) < 7344 ∧ ((0 ≤ G 16119 l1 ∧ G 16119 l1 ≤ 1) → ((G 16119 l1 = 0 → PX13_isLetMember_79 l1 l2 l3 l4 l5 G Q) ∧ (¬ (G 16119 l1 = 0) → PX13_isLetMember_102 l1 l2 l3 l4 l5 G Q))))))))))
def PX13_isLetMember_38 (l1 : Int) (l2 : Int) (l3 : Int) (l4 : Int) (l5 : Int) (G : gS) (Q : Int → gS → Prop) : Prop :=
  ((l5 = 2 → ((l3 = l4 → PX13_isLetMember_60 l1 l2 l3 l4 l5 G Q) ∧ (¬ (l3 = l4) → PX13_isHeir l3 l4 G (fun r16 G15 => (0 ≤ r16 ∧ r16 ≤ 1) → ((r16 = 0 → PX13_isLetMember_106 l1 l2 l3 l4 l5 G15 Q) ∧ (¬ (r16 = 0) → PX13_isLetMember_60 l1 l2 l3 l4 l5 G15 Q)))))) ∧ (¬ (l5 = 2) → ((l5 = 0 → ((l3 = l4 → PX13_isLetMember_129 l1 l2 l3 l4 l5 G Q) ∧ (¬ (l3 = l4) → PX13_nestsAreOne l3 l4 G (fun r22 G21 => (0 ≤ r22 ∧ r22 ≤ 1) → ((r22 = 0 → PX13_isLetMember_133 l1 l2 l3 l4 l5 G21 Q) ∧ (¬ (r22 = 0) → PX13_isLetMember_129 l1 l2 l3 l4 l5 G21 Q)))))) ∧ (¬ (l5 = 0) → PX13_isLetMember_133 l1 l2 l3 l4 l5 G Q))))
def PX13_isLetMember_36 (l1 : Int) (l2 : Int) (l3 : Int) (l4 : Int) (l5 : Int) (G : gS) (Q : Int → gS → Prop) : Prop :=
  Q (1) G
def PX13_isLetMember_0 (a1 : Int) (a2 : Int) (a3 : Int) (G : gS) (Q : Int → gS → Prop) : Prop :=
  PX13_classOfMember a1 G (fun r2 G1 => inI r2 → ((0 : Int) ≤ a1 ∧ ((a1 : Int) < 7344 ∧ (inI (G1 16118 a1) → ((G1 16118 a1 = 3 → PX13_isLetMember_36 a1 a2 a3 r2 (G1 16118 a1) G1 Q) ∧ (¬ (G1 16118 a1 = 3) → ((G1 16118 a1 = 0 → PX13_isLetMember_38 a1 a2 a3 r2 (G1 16118 a1) G1 Q) ∧ (¬ (G1 16118 a1 = 0) → PX13_onePackage a3 r2 G1 (fun r10 G9 => (0 ≤ r10 ∧ r10 ≤ 1) → ((r10 = 0 → PX13_isLetMember_38 a1 a2 a3 r2 (G1 16118 a1) G9 Q) ∧ (¬ (r10 = 0) → PX13_isLetMember_36 a1 a2 a3 r2 (G1 16118 a1) G9 Q)))))))))))
abbrev PX13_isLetMember (a1 : Int) (a2 : Int) (a3 : Int) (G : gS) (Q : Int → gS → Prop) : Prop := PX13_isLetMember_0 a1 a2 a3 G Q
def PX13_act_73w (l0 : Int) (l1 : Int) (l2 : Int) (s0 : Int) (G : gS) (Q : Int → gS → Prop) : Prop :=
  Q (s0) G
def PX13_act_0w (a0 : Int) (a1 : Int) (a2 : Int) (G : gS) (Q : Int → gS → Prop) : Prop :=
  ((a0 = 15 → PX13_act_73w a0 a1 a2 (w32 (a1 + a2)) G Q) ∧ (a0 = 16 → PX13_act_73w a0 a1 a2 (w32 (a1 - a2)) G Q) ∧ (a0 = 17 → PX13_act_73w a0 a1 a2 (w32 (a1 * a2)) G Q) ∧ (a0 = 18 → ((a1 < a2 → PX13_act_73w a0 a1 a2 1 G Q) ∧ (¬ (a1 < a2) → PX13_act_73w a0 a1 a2 0 G Q))) ∧ ((a0 < 15 ∨ 19 ≤ a0) → ((a1 = a2 → PX13_act_73w a0 a1 a2 1 G Q) ∧ (¬ (a1 = a2) → PX13_act_73w a0 a1 a2 0 G Q))))
abbrev PX13_actw (a0 : Int) (a1 : Int) (a2 : Int) (G : gS) (Q : Int → gS → Prop) : Prop := PX13_act_0w a0 a1 a2 G Q
def PX13_knownConstant_110 (l1 : Int) (l2 : Int) (l3 : Int) (l4 : Int) (s0 : Int) (G : gS) (Q : Int → gS → Prop) : Prop :=
  Q (s0) G
def PX13_knownConstant_107 (l1 : Int) (l2 : Int) (l3 : Int) (l4 : Int) (G : gS) (Q : Int → gS → Prop) : Prop :=
  PX13_knownConstant_110 l1 l2 l3 l4 (-9223372036854775808) G Q
def PX13_knownConstant_54 (l1 : Int) (l2 : Int) (l3 : Int) (G : gS) (Q : Int → gS → Prop) : Prop :=
  ((0 : Int) ≤ l1 ∧ ((l1 : Int) < 30600 ∧ (inL (G 16148 l1) → PX13_theField l3 (G 16148 l1) 0 G (fun r24 G23 => inI r24 → ((r24 = -2 → PX13_knownConstant_107 l1 l2 l3 r24 G23 Q) ∧ (¬ (r24 = -2) → ((0 : Int) ≤ r24 ∧ ((r24 : Int) < 7344 ∧ ((0 ≤ G23 16138 r24 ∧ G23 16138 r24 ≤ 1) → ((G23 16138 r24 = 0 → PX13_knownConstant_107 l1 l2 l3 r24 G23 Q) ∧ (¬ (G23 16138 r24 = 0) → PX13_isLetMember r24 l3 l2 G23 (fun r32 G31 => (0 ≤ r32 ∧ r32 ≤ 1) → ((r32 = 0 → PX13_knownConstant_107 l1 l2 l3 r24 G31 Q) ∧ (¬ (r32 = 0) → ((0 : Int) ≤ r24 ∧ ((r24 : Int) < 7344 ∧ (inI (G31 16139 r24) → PX13_knownConstant_110 l1 l2 l3 r24 (G31 16139 r24) G31 Q)))))))))))))))))
def PX13_knownConstant_50 (l1 : Int) (l2 : Int) (l3 : Int) (G : gS) (Q : Int → gS → Prop) : Prop :=
  Q (-9223372036854775808) G
def PX13_knownConstant_24 (l1 : Int) (l2 : Int) (s0 : Int) (G : gS) (Q : Int → gS → Prop) : Prop :=
  ((s0 = -2 → PX13_knownConstant_50 l1 l2 s0 G Q) ∧ (¬ (s0 = -2) → ((0 : Int) ≤ l1 ∧ ((l1 : Int) < 30600 ∧ (inI (G 16144 l1) → ((G 16144 l1 = 5 → PX13_isLet s0 l2 G (fun r17 G16 => (0 ≤ r17 ∧ r17 ≤ 1) → ((r17 = 0 → PX13_knownConstant_50 l1 l2 s0 G16 Q) ∧ (¬ (r17 = 0) → PX13_knownConstant_54 l1 l2 s0 G16 Q)))) ∧ (¬ (G 16144 l1 = 5) → PX13_knownConstant_54 l1 l2 s0 G Q)))))))
def PX13_knownConstant_0 (a1 : Int) (a2 : Int) (G : gS) (Q : Int → gS → Prop) : Prop :=
  ((0 : Int) ≤ a1 ∧ ((a1 : Int) < 30600 ∧ (inI (G 16144 a1) → ((G 16144 a1 = 3 → PX13_knownConstant_24 a1 a2 a2 G Q) ∧ (¬ (G 16144 a1 = 3) → ((0 : Int) ≤ a1 ∧ ((a1 : Int) < 30600 ∧ (inL (G 16149 a1) → PX13_find (G 16149 a1) G (fun r9 G8 => inI r9 → PX13_knownConstant_24 a1 a2 r9 G8 Q)))))))))
abbrev PX13_knownConstant (a1 : Int) (a2 : Int) (G : gS) (Q : Int → gS → Prop) : Prop := PX13_knownConstant_0 a1 a2 G Q
def PX13_folded_221 (R : Nat → List Int → gS → (Int → gS → Prop) → Prop) (J : Nat → List Int → gS → (Int → gS → Prop) → Prop) (l1 : Int) (l2 : Int) (l3 : Int) (l4 : Int) (l5 : Int) (l7 : Int) (s0 : Int) (G : gS) (Q : Int → gS → Prop) : Prop :=
  J 1 [l1, l2, l3, l4, s0] G Q
def PX13_folded_198 (R : Nat → List Int → gS → (Int → gS → Prop) → Prop) (J : Nat → List Int → gS → (Int → gS → Prop) → Prop) (l1 : Int) (l2 : Int) (l3 : Int) (l4 : Int) (l5 : Int) (l7 : Int) (G : gS) (Q : Int → gS → Prop) : Prop :=
  PX13_folded_221 R J l1 l2 l3 l4 l5 l7 (-9223372036854775808) G Q
def PX13_folded_124 (R : Nat → List Int → gS → (Int → gS → Prop) → Prop) (J : Nat → List Int → gS → (Int → gS → Prop) → Prop) (l1 : Int) (l2 : Int) (l3 : Int) (l4 : Int) (l5 : Int) (G : gS) (Q : Int → gS → Prop) : Prop :=
  (inI (G 16081 108) → ((l3 < G 16081 108 → (inI (G 16081 108) → (inI ((G 16081 108) - 1) ∧ (∀ G45 : gS, G45 = uG G 16081 108 ((G 16081 108) - 1) → (inI (G45 16081 108) → ((0 : Int) ≤ G45 16081 108 ∧ ((G45 16081 108 : Int) < 1704 ∧ (inI (G45 16173 (G45 16081 108)) → ((0 : Int) ≤ G45 16173 (G45 16081 108) ∧ ((G45 16173 (G45 16081 108) : Int) < 30600 ∧ (inI (G45 16144 (G45 16173 (G45 16081 108))) → PX13_isTwo (G45 16144 (G45 16173 (G45 16081 108))) G45 (fun r54 G53 => (0 ≤ r54 ∧ r54 ≤ 1) → ((r54 = 0 → J 1 [l1, l2, l3, G45 16173 (G45 16081 108), l5] G53 Q) ∧ (¬ (r54 = 0) → ((0 : Int) ≤ G45 16173 (G45 16081 108) ∧ ((G45 16173 (G45 16081 108) : Int) < 30600 ∧ (inI (G53 16152 (G45 16173 (G45 16081 108))) → R 0 [G53 16152 (G45 16173 (G45 16081 108)), l2] G53 (fun r61 G60 => inL r61 → ((l5 = -9223372036854775808 → PX13_folded_198 R J l1 l2 l3 (G45 16173 (G45 16081 108)) l5 r61 G60 Q) ∧ (¬ (l5 = -9223372036854775808) → ((r61 = -9223372036854775808 → PX13_folded_198 R J l1 l2 l3 (G45 16173 (G45 16081 108)) l5 r61 G60 Q) ∧ (¬ (r61 = -9223372036854775808) → ((0 : Int) ≤ G45 16173 (G45 16081 108) ∧ ((G45 16173 (G45 16081 108) : Int) < 30600 ∧ (inI (G60 16144 (G45 16173 (G45 16081 108))) → (inI (l2i l5) → (inI (l2i r61) → PX13_actw (G60 16144 (G45 16173 (G45 16081 108))) (l2i l5) (l2i r61) G60 (fun r71 G70 => inI r71 → PX13_folded_221 R J l1 l2 l3 (G45 16173 (G45 16081 108)) l5 r61 r71 G70 Q)))))))))))))))))))))))))))) ∧ (¬ (l3 < G 16081 108) → Q (l5) G)))
def PX13_folded_122 (R : Nat → List Int → gS → (Int → gS → Prop) → Prop) (J : Nat → List Int → gS → (Int → gS → Prop) → Prop) (l1 : Int) (l2 : Int) (l3 : Int) (l4 : Int) (s0 : Int) (G : gS) (Q : Int → gS → Prop) : Prop :=
  PX13_folded_124 R J l1 l2 l3 l4 s0 G Q
def PX13_folded_109 (R : Nat → List Int → gS → (Int → gS → Prop) → Prop) (J : Nat → List Int → gS → (Int → gS → Prop) → Prop) (l1 : Int) (l2 : Int) (l3 : Int) (l4 : Int) (G : gS) (Q : Int → gS → Prop) : Prop :=
  PX13_knownConstant l4 l2 G (fun r39 G38 => inL r39 → PX13_folded_122 R J l1 l2 l3 l4 r39 G38 Q)
def PX13_folded_33 (R : Nat → List Int → gS → (Int → gS → Prop) → Prop) (J : Nat → List Int → gS → (Int → gS → Prop) → Prop) (l1 : Int) (l2 : Int) (l3 : Int) (l4 : Int) (G : gS) (Q : Int → gS → Prop) : Prop :=
  (inI (G 16081 108) → ((0 : Int) ≤ G 16081 108 ∧ ((G 16081 108 : Int) < 1704 ∧ (∀ G31 : gS, G31 = uG G 16173 (G 16081 108) (l4) → (inI (G31 16081 108) → (inI ((G31 16081 108) + 1) ∧ (∀ G34 : gS, G34 = uG G31 16081 108 ((G31 16081 108) + 1) → ((0 : Int) ≤ l4 ∧ ((l4 : Int) < 30600 ∧ (inI (G34 16151 l4) → J 0 [l1, l2, l3, G34 16151 l4] G34 Q))))))))))
def PX13_folded_8 (R : Nat → List Int → gS → (Int → gS → Prop) → Prop) (J : Nat → List Int → gS → (Int → gS → Prop) → Prop) (l1 : Int) (l2 : Int) (l3 : Int) (l4 : Int) (G : gS) (Q : Int → gS → Prop) : Prop :=
  ((0 : Int) ≤ l4 ∧ ((l4 : Int) < 30600 ∧ (inI (G 16144 l4) → PX13_isTwo (G 16144 l4) G (fun r6 G5 => (0 ≤ r6 ∧ r6 ≤ 1) → ((r6 = 0 → ((0 : Int) ≤ l4 ∧ ((l4 : Int) < 30600 ∧ (inI (G5 16144 l4) → ((G5 16144 l4 = 11 → PX13_folded_33 R J l1 l2 l3 l4 G5 Q) ∧ (¬ (G5 16144 l4 = 11) → ((0 : Int) ≤ l4 ∧ ((l4 : Int) < 30600 ∧ (inI (G5 16144 l4) → ((G5 16144 l4 = 0 → ((0 : Int) ≤ l4 ∧ ((l4 : Int) < 30600 ∧ (inI (G5 16155 l4) → PX13_folded_122 R J l1 l2 l3 l4 (G5 16155 l4) G5 Q)))) ∧ (¬ (G5 16144 l4 = 0) → ((0 : Int) ≤ l4 ∧ ((l4 : Int) < 30600 ∧ (inI (G5 16144 l4) → ((G5 16144 l4 = 3 → PX13_folded_109 R J l1 l2 l3 l4 G5 Q) ∧ (¬ (G5 16144 l4 = 3) → ((0 : Int) ≤ l4 ∧ ((l4 : Int) < 30600 ∧ (inI (G5 16144 l4) → ((G5 16144 l4 = 5 → PX13_folded_109 R J l1 l2 l3 l4 G5 Q) ∧ (¬ (G5 16144 l4 = 5) → PX13_folded_122 R J l1 l2 l3 l4 (-9223372036854775808) G5 Q))))))))))))))))))))) ∧ (¬ (r6 = 0) → PX13_folded_33 R J l1 l2 l3 l4 G5 Q))))))
def PX13_folded_0 (R : Nat → List Int → gS → (Int → gS → Prop) → Prop) (J : Nat → List Int → gS → (Int → gS → Prop) → Prop) (a1 : Int) (a2 : Int) (G : gS) (Q : Int → gS → Prop) : Prop :=
  (inI (G 16081 108) → PX13_folded_8 R J a1 a2 (G 16081 108) a1 G Q)
def PX13_folded_J (R : Nat → List Int → gS → (Int → gS → Prop) → Prop) : Nat → Nat → List Int → gS → (Int → gS → Prop) → Prop
  | 0, _, _, _, _ => False
  | f + 1, h, L, G, Q => match h, L with
    | 0, [l1, l2, l3, l4] => PX13_folded_8 R (PX13_folded_J R f) l1 l2 l3 l4 G Q
    | 1, [l1, l2, l3, l4, l5] => PX13_folded_124 R (PX13_folded_J R f) l1 l2 l3 l4 l5 G Q
    | _, _ => False
def PX13_folded (R : Nat → List Int → gS → (Int → gS → Prop) → Prop) (a1 : Int) (a2 : Int) (G : gS) (Q : Int → gS → Prop) : Prop := ∃ f : Nat, f ≤ 4000000000 ∧ PX13_folded_0 R (PX13_folded_J R f) a1 a2 G Q
def Rq11 : Nat → Nat → List Int → gS → (Int → gS → Prop) → Prop
  | 0, _, _, _, _ => False
  | n + 1, i, L, G, Q => match i, L with
    | 0, [a1, a2] => PX13_folded (Rq11 n) a1 a2 G Q
    | _, _ => False
def PX13_constants_164 (J : Nat → List Int → gS → (Int → gS → Prop) → Prop) (l1 : Int) (l2 : Int) (l3 : Int) (l4 : Int) (G : gS) (Q : Int → gS → Prop) : Prop :=
  (inI (l3 + 1) ∧ J 1 [l1, l2, l3 + 1] G Q)
def PX13_constants_163 (J : Nat → List Int → gS → (Int → gS → Prop) → Prop) (l1 : Int) (l2 : Int) (l3 : Int) (l4 : Int) (l5 : Int) (s0 : Int) (s1 : Int) (s2 : Int) (G : gS) (Q : Int → gS → Prop) : Prop :=
  (∃ n51, isA W0 0 n51 (s0) ∧ ((0 : Int) ≤ s1 ∧ ((s1 : Int) < n51 ∧ (∀ G55 : gS, G55 = uG G s0 s1 (s2) → PX13_constants_164 J l1 l2 l3 l4 G55 Q))))
def PX13_constants_140 (J : Nat → List Int → gS → (Int → gS → Prop) → Prop) (l1 : Int) (l2 : Int) (l3 : Int) (l4 : Int) (l5 : Int) (s0 : Int) (s1 : Int) (s2 : Int) (G : gS) (Q : Int → gS → Prop) : Prop :=
  (∃ n43, isA W0 3 n43 (s0) ∧ ((0 : Int) ≤ s1 ∧ ((s1 : Int) < n43 ∧ ((0 ≤ s2 ∧ s2 ≤ 1) ∧ (∀ G48 : gS, G48 = uG G s0 s1 (s2) → ((l5 = -9223372036854775808 → PX13_constants_163 J l1 l2 l3 l4 l5 16139 l4 0 G48 Q) ∧ (¬ (l5 = -9223372036854775808) → (inI (l2i l5) → PX13_constants_163 J l1 l2 l3 l4 l5 16139 l4 (l2i l5) G48 Q))))))))
def PX13_constants_27 (J : Nat → List Int → gS → (Int → gS → Prop) → Prop) (l1 : Int) (l2 : Int) (l3 : Int) (G : gS) (Q : Int → gS → Prop) : Prop :=
  ((0 : Int) ≤ l2 ∧ ((l2 : Int) < 216 ∧ (inI (G 16115 l2) → ((l3 < G 16115 l2 → (inI ((l2 * 34) + l3) ∧ ((0 : Int) ≤ (l2 * 34) + l3 ∧ (((l2 * 34) + l3 : Int) < 7344 ∧ (inI (G 16116 ((l2 * 34) + l3)) → ((G 16116 ((l2 * 34) + l3) = 0 → ((0 : Int) ≤ (l2 * 34) + l3 ∧ (((l2 * 34) + l3 : Int) < 7344 ∧ ((0 ≤ G 16119 ((l2 * 34) + l3) ∧ G 16119 ((l2 * 34) + l3) ≤ 1) → ((G 16119 ((l2 * 34) + l3) = 0 → PX13_constants_164 J l1 l2 l3 ((l2 * 34) + l3) G Q) ∧ (¬ (G 16119 ((l2 * 34) + l3) = 0) → ((0 : Int) ≤ (l2 * 34) + l3 ∧ (((l2 * 34) + l3 : Int) < 7344 ∧ ((0 ≤ G 16120 ((l2 * 34) + l3) ∧ G 16120 ((l2 * 34) + l3) ≤ 1) → ((G 16120 ((l2 * 34) + l3) = 0 → PX13_constants_164 J l1 l2 l3 ((l2 * 34) + l3) G Q) ∧ (¬ (G 16120 ((l2 * 34) + l3) = 0) → ((0 : Int) ≤ (l2 * 34) + l3 ∧ (((l2 * 34) + l3 : Int) < 7344 ∧ (inL (G 16127 ((l2 * 34) + l3)) → ((G 16127 ((l2 * 34) + l3) = 2 → ((0 : Int) ≤ (l2 * 34) + l3 ∧ (((l2 * 34) + l3 : Int) < 7344 ∧ (inI (G 16134 ((l2 * 34) + l3)) → ((G 16134 ((l2 * 34) + l3) = -2 → PX13_constants_164 J l1 l2 l3 ((l2 * 34) + l3) G Q) ∧ (¬ (G 16134 ((l2 * 34) + l3) = -2) → (∀ G33 : gS, G33 = uG G 16081 108 (0) → ((0 : Int) ≤ (l2 * 34) + l3 ∧ (((l2 * 34) + l3 : Int) < 7344 ∧ (inI (G33 16134 ((l2 * 34) + l3)) → Rq11 200 0 [G33 16134 ((l2 * 34) + l3), l2] G33 (fun r38 G37 => inL r38 → ((r38 = -9223372036854775808 → PX13_constants_140 J l1 l2 l3 ((l2 * 34) + l3) r38 16138 ((l2 * 34) + l3) 0 G37 Q) ∧ (¬ (r38 = -9223372036854775808) → PX13_constants_140 J l1 l2 l3 ((l2 * 34) + l3) r38 16138 ((l2 * 34) + l3) 1 G37 Q))))))))))))) ∧ (¬ (G 16127 ((l2 * 34) + l3) = 2) → PX13_constants_164 J l1 l2 l3 ((l2 * 34) + l3) G Q)))))))))))))))) ∧ (¬ (G 16116 ((l2 * 34) + l3) = 0) → PX13_constants_164 J l1 l2 l3 ((l2 * 34) + l3) G Q))))))) ∧ (¬ (l3 < G 16115 l2) → (inI (l1 + 1) ∧ J 0 [l1 + 1] G Q))))))
def PX13_constants_2 (J : Nat → List Int → gS → (Int → gS → Prop) → Prop) (l1 : Int) (G : gS) (Q : Int → gS → Prop) : Prop :=
  (inI (G 16081 19) → ((0 : Int) ≤ G 16081 19 ∧ ((G 16081 19 : Int) < 18 ∧ (inI (G 16097 (G 16081 19)) → ((l1 < G 16097 (G 16081 19) → (inI (G 16081 19) → (inI (((G 16081 19) * 12) + l1) ∧ PX13_constants_27 J l1 (((G 16081 19) * 12) + l1) 0 G Q))) ∧ (¬ (l1 < G 16097 (G 16081 19)) → Q 0 G))))))
def PX13_constants_0 (J : Nat → List Int → gS → (Int → gS → Prop) → Prop)  (G : gS) (Q : Int → gS → Prop) : Prop :=
  PX13_constants_2 J 0 G Q
def PX13_constants_J : Nat → Nat → List Int → gS → (Int → gS → Prop) → Prop
  | 0, _, _, _, _ => False
  | f + 1, h, L, G, Q => match h, L with
    | 0, [l1] => PX13_constants_2 (PX13_constants_J f) l1 G Q
    | 1, [l1, l2, l3] => PX13_constants_27 (PX13_constants_J f) l1 l2 l3 G Q
    | _, _ => False
def PX13_constants  (G : gS) (Q : Int → gS → Prop) : Prop := ∃ f : Nat, f ≤ 4000000000 ∧ PX13_constants_0 (PX13_constants_J f)  G Q
def PX13_canEnd_159 (R : Nat → List Int → gS → (Int → gS → Prop) → Prop) (J : Nat → List Int → gS → (Int → gS → Prop) → Prop) (l1 : Int) (s0 : Int) (G : gS) (Q : Int → gS → Prop) : Prop :=
  ((0 ≤ s0 ∧ s0 ≤ 1) ∧ Q (s0) G)
def PX13_canEnd_154 (R : Nat → List Int → gS → (Int → gS → Prop) → Prop) (J : Nat → List Int → gS → (Int → gS → Prop) → Prop) (l1 : Int) (G : gS) (Q : Int → gS → Prop) : Prop :=
  PX13_canEnd_159 R J l1 1 G Q
def PX13_canEnd_127 (R : Nat → List Int → gS → (Int → gS → Prop) → Prop) (J : Nat → List Int → gS → (Int → gS → Prop) → Prop) (l1 : Int) (s0 : Int) (G : gS) (Q : Int → gS → Prop) : Prop :=
  ((0 ≤ s0 ∧ s0 ≤ 1) ∧ Q (s0) G)
def PX13_canEnd_122 (R : Nat → List Int → gS → (Int → gS → Prop) → Prop) (J : Nat → List Int → gS → (Int → gS → Prop) → Prop) (l1 : Int) (G : gS) (Q : Int → gS → Prop) : Prop :=
  PX13_canEnd_127 R J l1 1 G Q
def PX13_canEnd_57 (R : Nat → List Int → gS → (Int → gS → Prop) → Prop) (J : Nat → List Int → gS → (Int → gS → Prop) → Prop) (l1 : Int) (l2 : Int) (G : gS) (Q : Int → gS → Prop) : Prop :=
  ((l2 = -2 → Q (1) G) ∧ (¬ (l2 = -2) → R 0 [l2] G (fun r42 G41 => (0 ≤ r42 ∧ r42 ≤ 1) → ((r42 = 0 → Q (0) G41) ∧ (¬ (r42 = 0) → ((0 : Int) ≤ l2 ∧ ((l2 : Int) < 30600 ∧ (inI (G41 16154 l2) → J 0 [l1, G41 16154 l2] G41 Q))))))))
def PX13_canEnd_0 (R : Nat → List Int → gS → (Int → gS → Prop) → Prop) (J : Nat → List Int → gS → (Int → gS → Prop) → Prop) (a1 : Int) (G : gS) (Q : Int → gS → Prop) : Prop :=
  ((0 : Int) ≤ a1 ∧ ((a1 : Int) < 30600 ∧ (inI (G 16144 a1) → ((G 16144 a1 = 20 → ((0 : Int) ≤ a1 ∧ ((a1 : Int) < 30600 ∧ (inI (G 16151 a1) → PX13_canEnd_57 R J a1 (G 16151 a1) G Q)))) ∧ (G 16144 a1 = 21 → Q (1) G) ∧ (G 16144 a1 = 22 → ((0 : Int) ≤ a1 ∧ ((a1 : Int) < 30600 ∧ (inI (G 16153 a1) → ((G 16153 a1 = -2 → PX13_canEnd_122 R J a1 G Q) ∧ (¬ (G 16153 a1 = -2) → ((0 : Int) ≤ a1 ∧ ((a1 : Int) < 30600 ∧ (inI (G 16152 a1) → R 0 [G 16152 a1] G (fun r16 G15 => (0 ≤ r16 ∧ r16 ≤ 1) → ((r16 = 0 → ((0 : Int) ≤ a1 ∧ ((a1 : Int) < 30600 ∧ (inI (G15 16153 a1) → R 0 [G15 16153 a1] G15 (fun r23 G22 => (0 ≤ r23 ∧ r23 ≤ 1) → ((r23 = 0 → PX13_canEnd_127 R J a1 0 G22 Q) ∧ (¬ (r23 = 0) → PX13_canEnd_122 R J a1 G22 Q))))))) ∧ (¬ (r16 = 0) → PX13_canEnd_122 R J a1 G15 Q)))))))))))) ∧ (G 16144 a1 = 23 → Q (1) G) ∧ (G 16144 a1 = 24 → Q (0) G) ∧ (G 16144 a1 = 25 → Q (0) G) ∧ (G 16144 a1 = 26 → ((0 : Int) ≤ a1 ∧ ((a1 : Int) < 30600 ∧ (inI (G 16151 a1) → R 0 [G 16151 a1] G (fun r30 G29 => (0 ≤ r30 ∧ r30 ≤ 1) → ((r30 = 0 → ((0 : Int) ≤ a1 ∧ ((a1 : Int) < 30600 ∧ (inI (G29 16152 a1) → R 0 [G29 16152 a1] G29 (fun r37 G36 => (0 ≤ r37 ∧ r37 ≤ 1) → ((r37 = 0 → PX13_canEnd_159 R J a1 0 G36 Q) ∧ (¬ (r37 = 0) → PX13_canEnd_154 R J a1 G36 Q))))))) ∧ (¬ (r30 = 0) → PX13_canEnd_154 R J a1 G29 Q))))))) ∧ ((G 16144 a1 < 20 ∨ 27 ≤ G 16144 a1) → Q (1) G)))))
def PX13_canEnd_J (R : Nat → List Int → gS → (Int → gS → Prop) → Prop) : Nat → Nat → List Int → gS → (Int → gS → Prop) → Prop
  | 0, _, _, _, _ => False
  | f + 1, h, L, G, Q => match h, L with
    | 0, [l1, l2] => PX13_canEnd_57 R (PX13_canEnd_J R f) l1 l2 G Q
    | _, _ => False
def PX13_canEnd (R : Nat → List Int → gS → (Int → gS → Prop) → Prop) (a1 : Int) (G : gS) (Q : Int → gS → Prop) : Prop := ∃ f : Nat, f ≤ 4000000000 ∧ PX13_canEnd_0 R (PX13_canEnd_J R f) a1 G Q
def Rq12 : Nat → Nat → List Int → gS → (Int → gS → Prop) → Prop
  | 0, _, _, _, _ => False
  | n + 1, i, L, G, Q => match i, L with
    | 0, [a1] => PX13_canEnd (Rq12 n) a1 G Q
    | _, _ => False
def PX13_candidatesIn_201 (J : Nat → List Int → gS → (Int → gS → Prop) → Prop) (l1 : Int) (l2 : Int) (l3 : Int) (l5 : Int) (l6 : Int) (l7 : Int) (l8 : Int) (G : gS) (Q : Int → gS → Prop) : Prop :=
  (inI (l6 + 1) ∧ J 0 [l1, l2, l3, l5, l6 + 1] G Q)
def PX13_candidatesIn_167 (J : Nat → List Int → gS → (Int → gS → Prop) → Prop) (l1 : Int) (l2 : Int) (l3 : Int) (l5 : Int) (l6 : Int) (l7 : Int) (l8 : Int) (l9 : Int) (l10 : Int) (s0 : Int) (G : gS) (Q : Int → gS → Prop) : Prop :=
  (inI (l10 + 1) ∧ J 1 [l1, l2, l3, l5, l6, l7, l8, s0, l10 + 1] G Q)
def PX13_candidatesIn_162 (J : Nat → List Int → gS → (Int → gS → Prop) → Prop) (l1 : Int) (l2 : Int) (l3 : Int) (l5 : Int) (l6 : Int) (l7 : Int) (l8 : Int) (l9 : Int) (l10 : Int) (G : gS) (Q : Int → gS → Prop) : Prop :=
  PX13_candidatesIn_167 J l1 l2 l3 l5 l6 l7 l8 l9 l10 1 G Q
def PX13_candidatesIn_132 (J : Nat → List Int → gS → (Int → gS → Prop) → Prop) (l1 : Int) (l2 : Int) (l3 : Int) (l5 : Int) (l6 : Int) (l7 : Int) (l8 : Int) (l9 : Int) (l10 : Int) (G : gS) (Q : Int → gS → Prop) : Prop :=
  (inI (G 16081 116) → ((l10 < G 16081 116 → ((l9 = 0 → ((0 : Int) ≤ l10 ∧ ((l10 : Int) < 432 ∧ (inI (G 16176 l10) → PX13_sameParams (G 16176 l10) l7 G (fun r46 G45 => (0 ≤ r46 ∧ r46 ≤ 1) → ((r46 = 0 → PX13_candidatesIn_167 J l1 l2 l3 l5 l6 l7 l8 l9 l10 0 G45 Q) ∧ (¬ (r46 = 0) → PX13_candidatesIn_162 J l1 l2 l3 l5 l6 l7 l8 l9 l10 G45 Q))))))) ∧ (¬ (l9 = 0) → PX13_candidatesIn_162 J l1 l2 l3 l5 l6 l7 l8 l9 l10 G Q))) ∧ (¬ (l10 < G 16081 116) → ((l9 = 0 → (inI (G 16081 116) → ((0 : Int) ≤ G 16081 116 ∧ ((G 16081 116 : Int) < 432 ∧ (∀ G53 : gS, G53 = uG G 16176 (G 16081 116) (l7) → (inI (G53 16081 116) → (inI ((G53 16081 116) + 1) ∧ (∀ G56 : gS, G56 = uG G53 16081 116 ((G53 16081 116) + 1) → PX13_candidatesIn_201 J l1 l2 l3 l5 l6 l7 l8 G56 Q)))))))) ∧ (¬ (l9 = 0) → PX13_candidatesIn_201 J l1 l2 l3 l5 l6 l7 l8 G Q)))))
def PX13_candidatesIn_94 (J : Nat → List Int → gS → (Int → gS → Prop) → Prop) (l1 : Int) (l2 : Int) (l3 : Int) (l5 : Int) (l6 : Int) (l7 : Int) (s0 : Int) (G : gS) (Q : Int → gS → Prop) : Prop :=
  ((s0 = 0 → PX13_candidatesIn_201 J l1 l2 l3 l5 l6 l7 s0 G Q) ∧ (¬ (s0 = 0) → PX13_takesArgs l7 l5 G (fun r30 G29 => (0 ≤ r30 ∧ r30 ≤ 1) → ((r30 = 0 → PX13_candidatesIn_201 J l1 l2 l3 l5 l6 l7 s0 G29 Q) ∧ (¬ (r30 = 0) → (inI (G29 16081 109) → PX13_isLetMember l7 l2 (G29 16081 109) G29 (fun r35 G34 => (0 ≤ r35 ∧ r35 ≤ 1) → ((r35 = 0 → PX13_candidatesIn_201 J l1 l2 l3 l5 l6 l7 s0 G34 Q) ∧ (¬ (r35 = 0) → PX13_candidatesIn_132 J l1 l2 l3 l5 l6 l7 s0 0 0 G34 Q)))))))))
def PX13_candidatesIn_93 (J : Nat → List Int → gS → (Int → gS → Prop) → Prop) (l1 : Int) (l2 : Int) (l3 : Int) (l5 : Int) (l6 : Int) (l7 : Int) (G : gS) (Q : Int → gS → Prop) : Prop :=
  PX13_candidatesIn_94 J l1 l2 l3 l5 l6 l7 0 G Q
def PX13_candidatesIn_89 (J : Nat → List Int → gS → (Int → gS → Prop) → Prop) (l1 : Int) (l2 : Int) (l3 : Int) (l5 : Int) (l6 : Int) (l7 : Int) (G : gS) (Q : Int → gS → Prop) : Prop :=
  PX13_candidatesIn_94 J l1 l2 l3 l5 l6 l7 1 G Q
def PX13_candidatesIn_41 (J : Nat → List Int → gS → (Int → gS → Prop) → Prop) (l1 : Int) (l2 : Int) (l3 : Int) (l5 : Int) (l6 : Int) (l7 : Int) (s0 : Int) (s1 : Int) (G : gS) (Q : Int → gS → Prop) : Prop :=
  ((s0 = s1 → ((0 : Int) ≤ l7 ∧ ((l7 : Int) < 7344 ∧ (inL (G 16125 l7) → ((G 16125 l7 = l3 → ((0 : Int) ≤ l7 ∧ ((l7 : Int) < 7344 ∧ ((0 ≤ G 16123 l7 ∧ G 16123 l7 ≤ 1) → ((G 16123 l7 = 0 → ((0 : Int) ≤ l7 ∧ ((l7 : Int) < 7344 ∧ ((0 ≤ G 16119 l7 ∧ G 16119 l7 ≤ 1) → ((G 16119 l7 = 0 → PX13_candidatesIn_89 J l1 l2 l3 l5 l6 l7 G Q) ∧ (¬ (G 16119 l7 = 0) → PX13_isFace l1 G (fun r24 G23 => (0 ≤ r24 ∧ r24 ≤ 1) → ((r24 = 0 → PX13_candidatesIn_89 J l1 l2 l3 l5 l6 l7 G23 Q) ∧ (¬ (r24 = 0) → ((l1 = l2 → PX13_candidatesIn_89 J l1 l2 l3 l5 l6 l7 G23 Q) ∧ (¬ (l1 = l2) → PX13_candidatesIn_93 J l1 l2 l3 l5 l6 l7 G23 Q))))))))))) ∧ (¬ (G 16123 l7 = 0) → PX13_candidatesIn_93 J l1 l2 l3 l5 l6 l7 G Q)))))) ∧ (¬ (G 16125 l7 = l3) → PX13_candidatesIn_93 J l1 l2 l3 l5 l6 l7 G Q)))))) ∧ (¬ (s0 = s1) → PX13_candidatesIn_93 J l1 l2 l3 l5 l6 l7 G Q))
def PX13_candidatesIn_3 (J : Nat → List Int → gS → (Int → gS → Prop) → Prop) (l1 : Int) (l2 : Int) (l3 : Int) (l5 : Int) (l6 : Int) (G : gS) (Q : Int → gS → Prop) : Prop :=
  ((0 : Int) ≤ l1 ∧ ((l1 : Int) < 216 ∧ (inI (G 16115 l1) → ((l6 < G 16115 l1 → (inI ((l1 * 34) + l6) ∧ ((0 : Int) ≤ (l1 * 34) + l6 ∧ (((l1 * 34) + l6 : Int) < 7344 ∧ (inI (G 16116 ((l1 * 34) + l6)) → ((l3 = 0 → PX13_candidatesIn_41 J l1 l2 l3 l5 l6 ((l1 * 34) + l6) (G 16116 ((l1 * 34) + l6)) 2 G Q) ∧ (¬ (l3 = 0) → PX13_candidatesIn_41 J l1 l2 l3 l5 l6 ((l1 * 34) + l6) (G 16116 ((l1 * 34) + l6)) 1 G Q))))))) ∧ (¬ (l6 < G 16115 l1) → Q 0 G)))))
def PX13_candidatesIn_0 (J : Nat → List Int → gS → (Int → gS → Prop) → Prop) (a1 : Int) (a2 : Int) (a3 : Int) (a5 : Int) (G : gS) (Q : Int → gS → Prop) : Prop :=
  PX13_candidatesIn_3 J a1 a2 a3 a5 0 G Q
def PX13_candidatesIn_J : Nat → Nat → List Int → gS → (Int → gS → Prop) → Prop
  | 0, _, _, _, _ => False
  | f + 1, h, L, G, Q => match h, L with
    | 0, [l1, l2, l3, l5, l6] => PX13_candidatesIn_3 (PX13_candidatesIn_J f) l1 l2 l3 l5 l6 G Q
    | 1, [l1, l2, l3, l5, l6, l7, l8, l9, l10] => PX13_candidatesIn_132 (PX13_candidatesIn_J f) l1 l2 l3 l5 l6 l7 l8 l9 l10 G Q
    | _, _ => False
def PX13_candidatesIn (a1 : Int) (a2 : Int) (a3 : Int) (a5 : Int) (G : gS) (Q : Int → gS → Prop) : Prop := ∃ f : Nat, f ≤ 4000000000 ∧ PX13_candidatesIn_0 (PX13_candidatesIn_J f) a1 a2 a3 a5 G Q
def PX13_meant_61 (J : Nat → List Int → gS → (Int → gS → Prop) → Prop) (l1 : Int) (l2 : Int) (l4 : Int) (l5 : Int) (l6 : Int) (l7 : Int) (G : gS) (Q : Int → gS → Prop) : Prop :=
  ((l7 < l6 → ((0 : Int) ≤ l7 ∧ ((l7 : Int) < 216 ∧ (inI (G 16177 l7) → PX13_candidatesIn (G 16177 l7) l1 l2 l4 G (fun _ G19 => (inI (l7 + 1) ∧ J 1 [l1, l2, l4, l5, l6, l7 + 1] G19 Q)))))) ∧ (¬ (l7 < l6) → PX13_best G (fun r23 G22 => inI r23 → Q (r23) G22)))
def PX13_meant_19 (J : Nat → List Int → gS → (Int → gS → Prop) → Prop) (l1 : Int) (l2 : Int) (l4 : Int) (l5 : Int) (l6 : Int) (G : gS) (Q : Int → gS → Prop) : Prop :=
  ((l6 < l5 → ((0 : Int) ≤ l6 ∧ ((l6 : Int) < 216 ∧ (inI (G 16177 l6) → PX13_candidatesIn (G 16177 l6) l1 l2 l4 G (fun _ G9 => (inI (l6 + 1) ∧ J 0 [l1, l2, l4, l5, l6 + 1] G9 Q)))))) ∧ (¬ (l6 < l5) → PX13_allFaces l1 16177 G (fun r13 G12 => inI r13 → PX13_meant_61 J l1 l2 l4 l5 r13 0 G12 Q)))
def PX13_meant_0 (J : Nat → List Int → gS → (Int → gS → Prop) → Prop) (a1 : Int) (a2 : Int) (a4 : Int) (G : gS) (Q : Int → gS → Prop) : Prop :=
  (∀ G1 : gS, G1 = uG G 16081 116 (0) → PX13_parents a1 16177 G1 (fun r3 G2 => inI r3 → PX13_meant_19 J a1 a2 a4 r3 0 G2 Q))
def PX13_meant_J : Nat → Nat → List Int → gS → (Int → gS → Prop) → Prop
  | 0, _, _, _, _ => False
  | f + 1, h, L, G, Q => match h, L with
    | 0, [l1, l2, l4, l5, l6] => PX13_meant_19 (PX13_meant_J f) l1 l2 l4 l5 l6 G Q
    | 1, [l1, l2, l4, l5, l6, l7] => PX13_meant_61 (PX13_meant_J f) l1 l2 l4 l5 l6 l7 G Q
    | _, _ => False
def PX13_meant (a1 : Int) (a2 : Int) (a4 : Int) (G : gS) (Q : Int → gS → Prop) : Prop := ∃ f : Nat, f ≤ 4000000000 ∧ PX13_meant_0 (PX13_meant_J f) a1 a2 a4 G Q
def PX13_call_107 (l1 : Int) (l2 : Int) (l3 : Int) (l5 : Int) (l6 : Int) (G : gS) (Q : Int → gS → Prop) : Prop :=
  PX13_means l1 l6 l3 G (fun r32 G31 => inL r32 → Q (r32) G31)
def PX13_call_95 (l1 : Int) (l2 : Int) (l3 : Int) (l5 : Int) (l6 : Int) (G : gS) (Q : Int → gS → Prop) : Prop :=
  ((0 : Int) ≤ l1 ∧ ((l1 : Int) < 30600 ∧ (inI (G 16146 l1) → PX13_fault 14 (G 16146 l1) G (fun _ G37 => PX13_call_107 l1 l2 l3 l5 l6 G37 Q))))
def PX13_call_28 (l1 : Int) (l2 : Int) (l3 : Int) (l5 : Int) (s0 : Int) (G : gS) (Q : Int → gS → Prop) : Prop :=
  ((s0 = -2 → ((0 : Int) ≤ l1 ∧ ((l1 : Int) < 30600 ∧ (inI (G 16146 l1) → PX13_fault 12 (G 16146 l1) G (fun _ G15 => Q (2) G15))))) ∧ (¬ (s0 = -2) → ((0 : Int) ≤ l1 ∧ ((l1 : Int) < 30600 ∧ (inI (G 16144 l1) → ((G 16144 l1 = 4 → ((0 ≤ G 16081 111 ∧ G 16081 111 ≤ 1) → ((G 16081 111 = 0 → PX13_call_107 l1 l2 l3 l5 s0 G Q) ∧ (¬ (G 16081 111 = 0) → ((0 : Int) ≤ s0 ∧ ((s0 : Int) < 7344 ∧ ((0 ≤ G 16119 s0 ∧ G 16119 s0 ≤ 1) → ((G 16119 s0 = 0 → PX13_call_95 l1 l2 l3 l5 s0 G Q) ∧ (¬ (G 16119 s0 = 0) → PX13_call_107 l1 l2 l3 l5 s0 G Q))))))))) ∧ (¬ (G 16144 l1 = 4) → ((0 : Int) ≤ s0 ∧ ((s0 : Int) < 7344 ∧ ((0 ≤ G 16119 s0 ∧ G 16119 s0 ≤ 1) → ((G 16119 s0 = l5 → PX13_call_107 l1 l2 l3 l5 s0 G Q) ∧ (¬ (G 16119 s0 = l5) → PX13_call_95 l1 l2 l3 l5 s0 G Q))))))))))))
def PX13_call_0 (a1 : Int) (a2 : Int) (a3 : Int) (a5 : Int) (G : gS) (Q : Int → gS → Prop) : Prop :=
  ((a2 = -2 → PX13_call_28 a1 a2 a3 a5 (-2) G Q) ∧ (¬ (a2 = -2) → ((0 : Int) ≤ a1 ∧ ((a1 : Int) < 30600 ∧ (inL (G 16148 a1) → ((0 : Int) ≤ a1 ∧ ((a1 : Int) < 30600 ∧ (inI (G 16152 a1) → PX13_meant a2 (G 16148 a1) (G 16152 a1) G (fun r9 G8 => inI r9 → PX13_call_28 a1 a2 a3 a5 r9 G8 Q)))))))))
abbrev PX13_call (a1 : Int) (a2 : Int) (a3 : Int) (a5 : Int) (G : gS) (Q : Int → gS → Prop) : Prop := PX13_call_0 a1 a2 a3 a5 G Q
def PX13_field_165 (l1 : Int) (l2 : Int) (l3 : Int) (l5 : Int) (l6 : Int) (l7 : Int) (s0 : Int) (s1 : Int) (s2 : Int) (G : gS) (Q : Int → gS → Prop) : Prop :=
  (∃ n47, isA W0 0 n47 (s0) ∧ ((0 : Int) ≤ s1 ∧ ((s1 : Int) < n47 ∧ (∀ G51 : gS, G51 = uG G s0 s1 (s2) → ((0 : Int) ≤ l6 ∧ ((l6 : Int) < 7344 ∧ (inI (G51 16139 l6) → ((0 : Int) ≤ l1 ∧ ((l1 : Int) < 30600 ∧ (∀ G57 : gS, G57 = uG G51 16155 l1 (G51 16139 l6) → ((0 : Int) ≤ l1 ∧ ((l1 : Int) < 30600 ∧ (∀ G60 : gS, G60 = uG G57 16157 l1 (l3) → ((0 : Int) ≤ l6 ∧ ((l6 : Int) < 7344 ∧ (inL (G60 16127 l6) → ((0 : Int) ≤ l1 ∧ ((l1 : Int) < 30600 ∧ (∀ G66 : gS, G66 = uG G60 16158 l1 (G60 16127 l6) → ((0 : Int) ≤ l1 ∧ ((l1 : Int) < 30600 ∧ (∀ G69 : gS, G69 = uG G66 16153 l1 (l6) → ((0 : Int) ≤ l6 ∧ ((l6 : Int) < 7344 ∧ (inL (G69 16127 l6) → Q (G69 16127 l6) G69)))))))))))))))))))))))))
def PX13_field_128 (l1 : Int) (l2 : Int) (l3 : Int) (l5 : Int) (l6 : Int) (l7 : Int) (G : gS) (Q : Int → gS → Prop) : Prop :=
  ((0 : Int) ≤ l6 ∧ ((l6 : Int) < 7344 ∧ ((0 ≤ G 16138 l6 ∧ G 16138 l6 ≤ 1) → ((G 16138 l6 = 0 → ((0 : Int) ≤ l6 ∧ ((l6 : Int) < 7344 ∧ ((0 ≤ G 16119 l6 ∧ G 16119 l6 ≤ 1) → ((G 16119 l6 = 0 → PX13_field_165 l1 l2 l3 l5 l6 l7 16156 l1 (-12) G Q) ∧ (¬ (G 16119 l6 = 0) → PX13_field_165 l1 l2 l3 l5 l6 l7 16156 l1 (-11) G Q)))))) ∧ (¬ (G 16138 l6 = 0) → PX13_field_165 l1 l2 l3 l5 l6 l7 16156 l1 (-10) G Q)))))
def PX13_field_116 (l1 : Int) (l2 : Int) (l3 : Int) (l5 : Int) (l6 : Int) (l7 : Int) (G : gS) (Q : Int → gS → Prop) : Prop :=
  ((0 : Int) ≤ l1 ∧ ((l1 : Int) < 30600 ∧ (inI (G 16146 l1) → PX13_fault 14 (G 16146 l1) G (fun _ G45 => PX13_field_128 l1 l2 l3 l5 l6 l7 G45 Q))))
def PX13_field_77 (l1 : Int) (l2 : Int) (l3 : Int) (l5 : Int) (l6 : Int) (s0 : Int) (G : gS) (Q : Int → gS → Prop) : Prop :=
  ((s0 = 0 → ((0 : Int) ≤ l6 ∧ ((l6 : Int) < 7344 ∧ ((0 ≤ G 16119 l6 ∧ G 16119 l6 ≤ 1) → ((G 16119 l6 = l5 → PX13_field_128 l1 l2 l3 l5 l6 s0 G Q) ∧ (¬ (G 16119 l6 = l5) → PX13_field_116 l1 l2 l3 l5 l6 s0 G Q)))))) ∧ (¬ (s0 = 0) → ((0 ≤ G 16081 111 ∧ G 16081 111 ≤ 1) → ((G 16081 111 = 0 → PX13_field_128 l1 l2 l3 l5 l6 s0 G Q) ∧ (¬ (G 16081 111 = 0) → ((0 : Int) ≤ l6 ∧ ((l6 : Int) < 7344 ∧ ((0 ≤ G 16119 l6 ∧ G 16119 l6 ≤ 1) → ((G 16119 l6 = 0 → PX13_field_116 l1 l2 l3 l5 l6 s0 G Q) ∧ (¬ (G 16119 l6 = 0) → PX13_field_128 l1 l2 l3 l5 l6 s0 G Q))))))))))
def PX13_field_46 (l1 : Int) (l2 : Int) (l3 : Int) (l5 : Int) (l6 : Int) (G : gS) (Q : Int → gS → Prop) : Prop :=
  ((0 : Int) ≤ l1 ∧ ((l1 : Int) < 30600 ∧ (inI (G 16146 l1) → PX13_fault 11 (G 16146 l1) G (fun _ G21 => Q (2) G21))))
def PX13_field_23 (l1 : Int) (l2 : Int) (l3 : Int) (l5 : Int) (s0 : Int) (G : gS) (Q : Int → gS → Prop) : Prop :=
  ((s0 = -2 → PX13_field_46 l1 l2 l3 l5 s0 G Q) ∧ (¬ (s0 = -2) → (inI (G 16081 109) → PX13_isLetMember s0 l2 (G 16081 109) G (fun r11 G10 => (0 ≤ r11 ∧ r11 ≤ 1) → ((r11 = 0 → PX13_field_46 l1 l2 l3 l5 s0 G10 Q) ∧ (¬ (r11 = 0) → ((0 : Int) ≤ l1 ∧ ((l1 : Int) < 30600 ∧ (inI (G10 16144 l1) → ((G10 16144 l1 = 3 → PX13_field_77 l1 l2 l3 l5 s0 1 G10 Q) ∧ (¬ (G10 16144 l1 = 3) → PX13_field_77 l1 l2 l3 l5 s0 0 G10 Q)))))))))))
def PX13_field_0 (a1 : Int) (a2 : Int) (a3 : Int) (a5 : Int) (G : gS) (Q : Int → gS → Prop) : Prop :=
  ((a2 = -2 → PX13_field_23 a1 a2 a3 a5 (-2) G Q) ∧ (¬ (a2 = -2) → ((0 : Int) ≤ a1 ∧ ((a1 : Int) < 30600 ∧ (inL (G 16148 a1) → PX13_theField a2 (G 16148 a1) 0 G (fun r6 G5 => inI r6 → PX13_field_23 a1 a2 a3 a5 r6 G5 Q))))))
abbrev PX13_field (a1 : Int) (a2 : Int) (a3 : Int) (a5 : Int) (G : gS) (Q : Int → gS → Prop) : Prop := PX13_field_0 a1 a2 a3 a5 G Q
def PX13_meantMaker_0 (a1 : Int) (a2 : Int) (G : gS) (Q : Int → gS → Prop) : Prop :=
  (∀ G1 : gS, G1 = uG G 16081 116 (0) → PX13_candidatesIn a1 a1 0 a2 G1 (fun _ G2 => PX13_best G2 (fun r5 G4 => inI r5 → Q (r5) G4)))
abbrev PX13_meantMaker (a1 : Int) (a2 : Int) (G : gS) (Q : Int → gS → Prop) : Prop := PX13_meantMaker_0 a1 a2 G Q
def PX13_superCall_102 (l1 : Int) (l2 : Int) (l3 : Int) (l4 : Int) (G : gS) (Q : Int → gS → Prop) : Prop :=
  ((0 : Int) ≤ l2 ∧ ((l2 : Int) < 216 ∧ (inL (G 16098 l2) → PX13_means l1 l4 (G 16098 l2) G (fun r38 G37 => inL r38 → Q (r38) G37))))
def PX13_superCall_47 (l1 : Int) (l2 : Int) (l3 : Int) (l4 : Int) (G : gS) (Q : Int → gS → Prop) : Prop :=
  ((0 : Int) ≤ l1 ∧ ((l1 : Int) < 30600 ∧ (inI (G 16146 l1) → PX13_fault 12 (G 16146 l1) G (fun _ G32 => Q (2) G32))))
def PX13_superCall_28 (l1 : Int) (l2 : Int) (l3 : Int) (s0 : Int) (G : gS) (Q : Int → gS → Prop) : Prop :=
  ((s0 = -2 → PX13_superCall_47 l1 l2 l3 s0 G Q) ∧ (¬ (s0 = -2) → ((0 : Int) ≤ s0 ∧ ((s0 : Int) < 7344 ∧ ((0 ≤ G 16121 s0 ∧ G 16121 s0 ≤ 1) → ((G 16121 s0 = 0 → ((0 ≤ G 16081 111 ∧ G 16081 111 ≤ 1) → ((G 16081 111 = 0 → ((0 : Int) ≤ s0 ∧ ((s0 : Int) < 7344 ∧ ((0 ≤ G 16119 s0 ∧ G 16119 s0 ≤ 1) → ((G 16119 s0 = 0 → PX13_superCall_102 l1 l2 l3 s0 G Q) ∧ (¬ (G 16119 s0 = 0) → ((0 : Int) ≤ l1 ∧ ((l1 : Int) < 30600 ∧ (inI (G 16146 l1) → PX13_fault 14 (G 16146 l1) G (fun _ G25 => PX13_superCall_102 l1 l2 l3 s0 G25 Q)))))))))) ∧ (¬ (G 16081 111 = 0) → PX13_fault 14 l3 G (fun _ G27 => PX13_superCall_102 l1 l2 l3 s0 G27 Q))))) ∧ (¬ (G 16121 s0 = 0) → PX13_superCall_47 l1 l2 l3 s0 G Q)))))))
def PX13_superCall_0 (a1 : Int) (a2 : Int) (a3 : Int) (G : gS) (Q : Int → gS → Prop) : Prop :=
  ((a2 = -2 → PX13_superCall_28 a1 a2 a3 (-2) G Q) ∧ (¬ (a2 = -2) → ((0 : Int) ≤ a1 ∧ ((a1 : Int) < 30600 ∧ (inL (G 16148 a1) → ((0 : Int) ≤ a1 ∧ ((a1 : Int) < 30600 ∧ (inI (G 16152 a1) → PX13_meant a2 (G 16148 a1) (G 16152 a1) G (fun r9 G8 => inI r9 → PX13_superCall_28 a1 a2 a3 r9 G8 Q)))))))))
abbrev PX13_superCall (a1 : Int) (a2 : Int) (a3 : Int) (G : gS) (Q : Int → gS → Prop) : Prop := PX13_superCall_0 a1 a2 a3 G Q
def PX13_nameAlone_2 (J : Nat → List Int → gS → (Int → gS → Prop) → Prop) (l1 : Int) (l2 : Int) (G : gS) (Q : Int → gS → Prop) : Prop :=
  (inI (G 16081 114) → ((l2 < G 16081 114 → ((0 : Int) ≤ l2 ∧ ((l2 : Int) < 720 ∧ (inL (G 16174 l2) → ((0 : Int) ≤ l1 ∧ ((l1 : Int) < 30600 ∧ (inL (G 16148 l1) → ((G 16174 l2 = G 16148 l1 → ((0 : Int) ≤ l1 ∧ ((l1 : Int) < 30600 ∧ (∀ G12 : gS, G12 = uG G 16156 l1 (l2) → ((0 : Int) ≤ l2 ∧ ((l2 : Int) < 720 ∧ (inL (G12 16175 l2) → ((0 : Int) ≤ l1 ∧ ((l1 : Int) < 30600 ∧ (∀ G18 : gS, G18 = uG G12 16158 l1 (G12 16175 l2) → ((0 : Int) ≤ l2 ∧ ((l2 : Int) < 720 ∧ (inL (G18 16175 l2) → Q (G18 16175 l2) G18))))))))))))) ∧ (¬ (G 16174 l2 = G 16148 l1) → (inI (l2 + 1) ∧ J 0 [l1, l2 + 1] G Q)))))))))) ∧ (¬ (l2 < G 16081 114) → (inI (G 16081 109) → (inI (G 16081 109) → ((0 : Int) ≤ G 16081 109 ∧ ((G 16081 109 : Int) < 216 ∧ (inL (G 16098 (G 16081 109)) → PX13_field l1 (G 16081 109) (G 16098 (G 16081 109)) 0 G (fun r29 G28 => inL r29 → Q (r29) G28)))))))))
def PX13_nameAlone_0 (J : Nat → List Int → gS → (Int → gS → Prop) → Prop) (a1 : Int) (G : gS) (Q : Int → gS → Prop) : Prop :=
  PX13_nameAlone_2 J a1 0 G Q
def PX13_nameAlone_J : Nat → Nat → List Int → gS → (Int → gS → Prop) → Prop
  | 0, _, _, _, _ => False
  | f + 1, h, L, G, Q => match h, L with
    | 0, [l1, l2] => PX13_nameAlone_2 (PX13_nameAlone_J f) l1 l2 G Q
    | _, _ => False
def PX13_nameAlone (a1 : Int) (G : gS) (Q : Int → gS → Prop) : Prop := ∃ f : Nat, f ≤ 4000000000 ∧ PX13_nameAlone_0 (PX13_nameAlone_J f) a1 G Q
def PX13_dot_0 (a1 : Int) (a2 : Int) (a3 : Int) (G : gS) (Q : Int → gS → Prop) : Prop :=
  PX13_isC a3 G (fun r2 G1 => (0 ≤ r2 ∧ r2 ≤ 1) → ((r2 = 0 → ((0 : Int) ≤ a2 ∧ ((a2 : Int) < 30600 ∧ (inI (G1 16145 a2) → PX13_fault 13 (G1 16145 a2) G1 (fun _ G8 => Q (2) G8))))) ∧ (¬ (r2 = 0) → PX13_find a3 G1 (fun r11 G10 => inI r11 → PX13_field a1 r11 a3 0 G10 (fun r14 G13 => inL r14 → Q (r14) G13)))))
abbrev PX13_dot (a1 : Int) (a2 : Int) (a3 : Int) (G : gS) (Q : Int → gS → Prop) : Prop := PX13_dot_0 a1 a2 a3 G Q
def PX13_args_31 (R : Nat → List Int → gS → (Int → gS → Prop) → Prop) (J : Nat → List Int → gS → (Int → gS → Prop) → Prop) (l1 : Int) (l2 : Int) (G : gS) (Q : Int → gS → Prop) : Prop :=
  Q 0 G
def PX13_args_2 (R : Nat → List Int → gS → (Int → gS → Prop) → Prop) (J : Nat → List Int → gS → (Int → gS → Prop) → Prop) (l1 : Int) (l2 : Int) (G : gS) (Q : Int → gS → Prop) : Prop :=
  ((l2 = -2 → PX13_args_31 R J l1 l2 G Q) ∧ (¬ (l2 = -2) → (inI (G 16081 20) → ((G 16081 20 = 0 → R 1 [l2] G (fun r5 G4 => inL r5 → ((0 : Int) ≤ l2 ∧ ((l2 : Int) < 30600 ∧ (inI (G4 16154 l2) → J 0 [l1, G4 16154 l2] G4 Q))))) ∧ (¬ (G 16081 20 = 0) → PX13_args_31 R J l1 l2 G Q)))))
def PX13_args_0 (R : Nat → List Int → gS → (Int → gS → Prop) → Prop) (J : Nat → List Int → gS → (Int → gS → Prop) → Prop) (a1 : Int) (G : gS) (Q : Int → gS → Prop) : Prop :=
  PX13_args_2 R J a1 a1 G Q
def PX13_args_J (R : Nat → List Int → gS → (Int → gS → Prop) → Prop) : Nat → Nat → List Int → gS → (Int → gS → Prop) → Prop
  | 0, _, _, _, _ => False
  | f + 1, h, L, G, Q => match h, L with
    | 0, [l1, l2] => PX13_args_2 R (PX13_args_J R f) l1 l2 G Q
    | _, _ => False
def PX13_args (R : Nat → List Int → gS → (Int → gS → Prop) → Prop) (a1 : Int) (G : gS) (Q : Int → gS → Prop) : Prop := ∃ f : Nat, f ≤ 4000000000 ∧ PX13_args_0 R (PX13_args_J R f) a1 G Q
def PX13_judge_178 (R : Nat → List Int → gS → (Int → gS → Prop) → Prop) (J : Nat → List Int → gS → (Int → gS → Prop) → Prop) (l1 : Int) (l2 : Int) (l3 : Int) (l4 : Int) (s0 : Int) (s1 : Int) (s2 : Int) (G : gS) (Q : Int → gS → Prop) : Prop :=
  (∃ n65, isA W0 1 n65 (s0) ∧ ((0 : Int) ≤ s1 ∧ ((s1 : Int) < n65 ∧ (∀ G69 : gS, G69 = uG G s0 s1 (s2) → J 1 [l1, l2, l4] G69 Q))))
def PX13_judge_117 (R : Nat → List Int → gS → (Int → gS → Prop) → Prop) (J : Nat → List Int → gS → (Int → gS → Prop) → Prop) (l1 : Int) (l2 : Int) (l3 : Int) (G : gS) (Q : Int → gS → Prop) : Prop :=
  (inI (G 16081 108) → ((l2 < G 16081 108 → (inI (G 16081 108) → (inI ((G 16081 108) - 1) ∧ (∀ G49 : gS, G49 = uG G 16081 108 ((G 16081 108) - 1) → (inI (G49 16081 108) → ((0 : Int) ≤ G49 16081 108 ∧ ((G49 16081 108 : Int) < 1704 ∧ (inI (G49 16173 (G49 16081 108)) → (inI (G49 16081 20) → ((G49 16081 20 = 0 → ((0 : Int) ≤ l3 ∧ ((l3 : Int) < 30600 ∧ (inL (G49 16150 l3) → R 4 [G49 16173 (G49 16081 108), l3, G49 16150 l3] G49 (fun r60 G59 => inL r60 → PX13_judge_178 R J l1 l2 l3 (G49 16173 (G49 16081 108)) 16150 (G49 16173 (G49 16081 108)) r60 G59 Q))))) ∧ (¬ (G49 16081 20 = 0) → PX13_judge_178 R J l1 l2 l3 (G49 16173 (G49 16081 108)) 16150 (G49 16173 (G49 16081 108)) 2 G49 Q))))))))))) ∧ (¬ (l2 < G 16081 108) → ((0 : Int) ≤ l1 ∧ ((l1 : Int) < 30600 ∧ (inL (G 16150 l1) → Q (G 16150 l1) G))))))
def PX13_judge_116 (R : Nat → List Int → gS → (Int → gS → Prop) → Prop) (J : Nat → List Int → gS → (Int → gS → Prop) → Prop) (l1 : Int) (l2 : Int) (l3 : Int) (s0 : Int) (s1 : Int) (s2 : Int) (G : gS) (Q : Int → gS → Prop) : Prop :=
  (∃ n40, isA W0 1 n40 (s0) ∧ ((0 : Int) ≤ s1 ∧ ((s1 : Int) < n40 ∧ (∀ G44 : gS, G44 = uG G s0 s1 (s2) → PX13_judge_117 R J l1 l2 l3 G44 Q))))
def PX13_judge_63 (R : Nat → List Int → gS → (Int → gS → Prop) → Prop) (J : Nat → List Int → gS → (Int → gS → Prop) → Prop) (l1 : Int) (l2 : Int) (l3 : Int) (G : gS) (Q : Int → gS → Prop) : Prop :=
  (inI (G 16081 108) → ((0 : Int) ≤ G 16081 108 ∧ ((G 16081 108 : Int) < 1704 ∧ (∀ G33 : gS, G33 = uG G 16173 (G 16081 108) (l3) → (inI (G33 16081 108) → (inI ((G33 16081 108) + 1) ∧ (∀ G36 : gS, G36 = uG G33 16081 108 ((G33 16081 108) + 1) → ((0 : Int) ≤ l3 ∧ ((l3 : Int) < 30600 ∧ (inI (G36 16151 l3) → J 0 [l1, l2, G36 16151 l3] G36 Q))))))))))
def PX13_judge_7 (R : Nat → List Int → gS → (Int → gS → Prop) → Prop) (J : Nat → List Int → gS → (Int → gS → Prop) → Prop) (l1 : Int) (l2 : Int) (l3 : Int) (G : gS) (Q : Int → gS → Prop) : Prop :=
  ((0 : Int) ≤ l3 ∧ ((l3 : Int) < 30600 ∧ (inI (G 16144 l3) → PX13_isTwo (G 16144 l3) G (fun r6 G5 => (0 ≤ r6 ∧ r6 ≤ 1) → ((r6 = 0 → ((0 : Int) ≤ l3 ∧ ((l3 : Int) < 30600 ∧ (inI (G5 16144 l3) → ((G5 16144 l3 = 11 → PX13_judge_63 R J l1 l2 l3 G5 Q) ∧ (¬ (G5 16144 l3 = 11) → ((0 : Int) ≤ l3 ∧ ((l3 : Int) < 30600 ∧ (inI (G5 16144 l3) → ((G5 16144 l3 = 12 → PX13_judge_63 R J l1 l2 l3 G5 Q) ∧ (¬ (G5 16144 l3 = 12) → ((0 : Int) ≤ l3 ∧ ((l3 : Int) < 30600 ∧ (inI (G5 16144 l3) → ((G5 16144 l3 = 13 → PX13_judge_63 R J l1 l2 l3 G5 Q) ∧ (¬ (G5 16144 l3 = 13) → ((0 : Int) ≤ l3 ∧ ((l3 : Int) < 30600 ∧ (inI (G5 16144 l3) → ((G5 16144 l3 = 14 → PX13_judge_63 R J l1 l2 l3 G5 Q) ∧ (¬ (G5 16144 l3 = 14) → (inI (G5 16081 20) → ((G5 16081 20 = 0 → R 2 [l3] G5 (fun r28 G27 => inL r28 → PX13_judge_116 R J l1 l2 l3 16150 l3 r28 G27 Q)) ∧ (¬ (G5 16081 20 = 0) → PX13_judge_116 R J l1 l2 l3 16150 l3 2 G5 Q)))))))))))))))))))))))) ∧ (¬ (r6 = 0) → PX13_judge_63 R J l1 l2 l3 G5 Q))))))
def PX13_judge_0 (R : Nat → List Int → gS → (Int → gS → Prop) → Prop) (J : Nat → List Int → gS → (Int → gS → Prop) → Prop) (a1 : Int) (G : gS) (Q : Int → gS → Prop) : Prop :=
  (inI (G 16081 108) → PX13_judge_7 R J a1 (G 16081 108) a1 G Q)
def PX13_judge_J (R : Nat → List Int → gS → (Int → gS → Prop) → Prop) : Nat → Nat → List Int → gS → (Int → gS → Prop) → Prop
  | 0, _, _, _, _ => False
  | f + 1, h, L, G, Q => match h, L with
    | 0, [l1, l2, l3] => PX13_judge_7 R (PX13_judge_J R f) l1 l2 l3 G Q
    | 1, [l1, l2, l3] => PX13_judge_117 R (PX13_judge_J R f) l1 l2 l3 G Q
    | _, _ => False
def PX13_judge (R : Nat → List Int → gS → (Int → gS → Prop) → Prop) (a1 : Int) (G : gS) (Q : Int → gS → Prop) : Prop := ∃ f : Nat, f ≤ 4000000000 ∧ PX13_judge_0 R (PX13_judge_J R f) a1 G Q
def PX13_leaf_255 (R : Nat → List Int → gS → (Int → gS → Prop) → Prop) (l1 : Int) (s0 : Int) (G : gS) (Q : Int → gS → Prop) : Prop :=
  Q (s0) G
def PX13_leaf_189 (R : Nat → List Int → gS → (Int → gS → Prop) → Prop) (l1 : Int) (s0 : Int) (G : gS) (Q : Int → gS → Prop) : Prop :=
  Q (s0) G
def PX13_leaf_146 (R : Nat → List Int → gS → (Int → gS → Prop) → Prop) (l1 : Int) (s0 : Int) (G : gS) (Q : Int → gS → Prop) : Prop :=
  Q (s0) G
def PX13_leaf_75 (R : Nat → List Int → gS → (Int → gS → Prop) → Prop) (l1 : Int) (G : gS) (Q : Int → gS → Prop) : Prop :=
  (inI (G 16081 109) → ((0 : Int) ≤ G 16081 109 ∧ ((G 16081 109 : Int) < 216 ∧ (inL (G 16098 (G 16081 109)) → Q (G 16098 (G 16081 109)) G))))
def PX13_leaf_0 (R : Nat → List Int → gS → (Int → gS → Prop) → Prop) (a1 : Int) (G : gS) (Q : Int → gS → Prop) : Prop :=
  ((0 : Int) ≤ a1 ∧ ((a1 : Int) < 30600 ∧ (inI (G 16144 a1) → ((G 16144 a1 = 0 → Q (2) G) ∧ (G 16144 a1 = 1 → Q (3) G) ∧ (G 16144 a1 = 2 → ((0 ≤ G 16081 111 ∧ G 16081 111 ≤ 1) → ((G 16081 111 = 0 → PX13_leaf_75 R a1 G Q) ∧ (¬ (G 16081 111 = 0) → ((0 : Int) ≤ a1 ∧ ((a1 : Int) < 30600 ∧ (inI (G 16145 a1) → PX13_fault 14 (G 16145 a1) G (fun _ G10 => PX13_leaf_75 R a1 G10 Q)))))))) ∧ (G 16144 a1 = 3 → PX13_nameAlone a1 G (fun r13 G12 => inL r13 → Q (r13) G12)) ∧ (G 16144 a1 = 4 → ((0 : Int) ≤ a1 ∧ ((a1 : Int) < 30600 ∧ (inI (G 16152 a1) → R 0 [G 16152 a1] G (fun _ G18 => (inI (G18 16081 20) → ((G18 16081 20 = 0 → (inI (G18 16081 109) → (inI (G18 16081 109) → ((0 : Int) ≤ G18 16081 109 ∧ ((G18 16081 109 : Int) < 216 ∧ (inL (G18 16098 (G18 16081 109)) → PX13_call a1 (G18 16081 109) (G18 16098 (G18 16081 109)) 0 G18 (fun r28 G27 => inL r28 → PX13_leaf_189 R a1 r28 G27 Q))))))) ∧ (¬ (G18 16081 20 = 0) → PX13_leaf_189 R a1 2 G18 Q)))))))) ∧ (G 16144 a1 = 5 → ((0 : Int) ≤ a1 ∧ ((a1 : Int) < 30600 ∧ (inL (G 16149 a1) → ((0 : Int) ≤ a1 ∧ ((a1 : Int) < 30600 ∧ (inI (G 16147 a1) → (inI (G 16081 109) → PX13_type (G 16149 a1) (G 16147 a1) (G 16081 109) G (fun _ G37 => (inI (G37 16081 20) → ((G37 16081 20 = 0 → ((0 : Int) ≤ a1 ∧ ((a1 : Int) < 30600 ∧ (inL (G37 16149 a1) → PX13_find (G37 16149 a1) G37 (fun r45 G44 => inI r45 → ((0 : Int) ≤ a1 ∧ ((a1 : Int) < 30600 ∧ (inL (G44 16149 a1) → PX13_field a1 r45 (G44 16149 a1) 1 G44 (fun r51 G50 => inL r51 → PX13_leaf_146 R a1 r51 G50 Q))))))))) ∧ (¬ (G37 16081 20 = 0) → PX13_leaf_146 R a1 2 G37 Q)))))))))))) ∧ (G 16144 a1 = 6 → ((0 : Int) ≤ a1 ∧ ((a1 : Int) < 30600 ∧ (inL (G 16149 a1) → ((0 : Int) ≤ a1 ∧ ((a1 : Int) < 30600 ∧ (inI (G 16147 a1) → (inI (G 16081 109) → PX13_type (G 16149 a1) (G 16147 a1) (G 16081 109) G (fun _ G60 => ((0 : Int) ≤ a1 ∧ ((a1 : Int) < 30600 ∧ (inI (G60 16152 a1) → R 0 [G60 16152 a1] G60 (fun _ G65 => (inI (G65 16081 20) → ((G65 16081 20 = 0 → ((0 : Int) ≤ a1 ∧ ((a1 : Int) < 30600 ∧ (inL (G65 16149 a1) → PX13_find (G65 16149 a1) G65 (fun r73 G72 => inI r73 → ((0 : Int) ≤ a1 ∧ ((a1 : Int) < 30600 ∧ (inL (G72 16149 a1) → PX13_call a1 r73 (G72 16149 a1) 1 G72 (fun r79 G78 => inL r79 → PX13_leaf_255 R a1 r79 G78 Q))))))))) ∧ (¬ (G65 16081 20 = 0) → PX13_leaf_255 R a1 2 G65 Q)))))))))))))))) ∧ ((G 16144 a1 < 0 ∨ 7 ≤ G 16144 a1) → R 3 [a1] G (fun r82 G81 => inL r82 → Q (r82) G81))))))
abbrev PX13_leaf (R : Nat → List Int → gS → (Int → gS → Prop) → Prop) (a1 : Int) (G : gS) (Q : Int → gS → Prop) : Prop := PX13_leaf_0 R a1 G Q
def PX13_leafOfMore_359 (R : Nat → List Int → gS → (Int → gS → Prop) → Prop) (l1 : Int) (l2 : Int) (l3 : Int) (G : gS) (Q : Int → gS → Prop) : Prop :=
  ((0 : Int) ≤ l1 ∧ ((l1 : Int) < 30600 ∧ (inL (G 16149 l1) → Q (G 16149 l1) G)))
def PX13_leafOfMore_322 (R : Nat → List Int → gS → (Int → gS → Prop) → Prop) (l1 : Int) (l2 : Int) (s0 : Int) (G : gS) (Q : Int → gS → Prop) : Prop :=
  (∀ G125 : gS, G125 = uG G 16081 108 (l2) → (inI (G125 16081 20) → ((G125 16081 20 = 0 → PX13_isObject s0 G125 (fun r129 G128 => (0 ≤ r129 ∧ r129 ≤ 1) → ((r129 = 0 → ((0 : Int) ≤ l1 ∧ ((l1 : Int) < 30600 ∧ (inI (G128 16151 l1) → ((0 : Int) ≤ G128 16151 l1 ∧ ((G128 16151 l1 : Int) < 30600 ∧ (inI (G128 16145 (G128 16151 l1)) → PX13_fault 13 (G128 16145 (G128 16151 l1)) G128 (fun _ G138 => PX13_leafOfMore_359 R l1 l2 s0 G138 Q)))))))) ∧ (¬ (r129 = 0) → PX13_leafOfMore_359 R l1 l2 s0 G128 Q)))) ∧ (¬ (G125 16081 20 = 0) → PX13_leafOfMore_359 R l1 l2 s0 G125 Q))))
def PX13_leafOfMore_287 (R : Nat → List Int → gS → (Int → gS → Prop) → Prop) (l1 : Int) (G : gS) (Q : Int → gS → Prop) : Prop :=
  ((0 : Int) ≤ l1 ∧ ((l1 : Int) < 30600 ∧ (inL (G 16149 l1) → Q (G 16149 l1) G)))
def PX13_leafOfMore_259 (R : Nat → List Int → gS → (Int → gS → Prop) → Prop) (l1 : Int) (l2 : Int) (s0 : Int) (G : gS) (Q : Int → gS → Prop) : Prop :=
  ((s0 = -2 → ((0 : Int) ≤ l1 ∧ ((l1 : Int) < 30600 ∧ (inI (G 16147 l1) → PX13_fault 18 (G 16147 l1) G (fun _ G118 => PX13_leafOfMore_287 R l1 G118 Q))))) ∧ (¬ (s0 = -2) → PX13_keepParams l1 s0 G (fun _ G120 => PX13_leafOfMore_287 R l1 G120 Q)))
def PX13_leafOfMore_243 (R : Nat → List Int → gS → (Int → gS → Prop) → Prop) (l1 : Int) (l2 : Int) (G : gS) (Q : Int → gS → Prop) : Prop :=
  PX13_leafOfMore_259 R l1 l2 (-2) G Q
def PX13_leafOfMore_185 (R : Nat → List Int → gS → (Int → gS → Prop) → Prop) (l1 : Int) (l2 : Int) (l3 : Int) (s0 : Int) (G : gS) (Q : Int → gS → Prop) : Prop :=
  Q (s0) G
def PX13_leafOfMore_175 (R : Nat → List Int → gS → (Int → gS → Prop) → Prop) (l1 : Int) (l2 : Int) (l3 : Int) (s0 : Int) (s1 : Int) (s2 : Int) (G : gS) (Q : Int → gS → Prop) : Prop :=
  (isO W0 13 (s0) ∧ PX13_superCall s1 s2 l2 G (fun r112 G111 => inL r112 → PX13_leafOfMore_185 R l1 l2 l3 r112 G111 Q))
def PX13_leafOfMore_69 (R : Nat → List Int → gS → (Int → gS → Prop) → Prop) (l1 : Int) (s0 : Int) (G : gS) (Q : Int → gS → Prop) : Prop :=
  Q (s0) G
def PX13_leafOfMore_54 (R : Nat → List Int → gS → (Int → gS → Prop) → Prop) (l1 : Int) (s0 : Int) (s1 : Int) (s2 : Int) (G : gS) (Q : Int → gS → Prop) : Prop :=
  ((0 : Int) ≤ l1 ∧ ((l1 : Int) < 30600 ∧ (inI (G 16145 l1) → (isO W0 13 (s0) ∧ PX13_superCall s1 s2 (G 16145 l1) G (fun r108 G107 => inL r108 → PX13_leafOfMore_69 R l1 r108 G107 Q)))))
def PX13_leafOfMore_0 (R : Nat → List Int → gS → (Int → gS → Prop) → Prop) (a1 : Int) (G : gS) (Q : Int → gS → Prop) : Prop :=
  ((0 : Int) ≤ a1 ∧ ((a1 : Int) < 30600 ∧ (inI (G 16144 a1) → ((G 16144 a1 = 8 → ((0 : Int) ≤ a1 ∧ ((a1 : Int) < 30600 ∧ (inI (G 16152 a1) → R 0 [G 16152 a1] G (fun _ G8 => (inI (G8 16081 20) → ((G8 16081 20 = 0 → (inI (G8 16081 109) → PX13_isFace (G8 16081 109) G8 (fun r14 G13 => (0 ≤ r14 ∧ r14 ≤ 1) → ((r14 = 0 → (inI (G13 16081 109) → PX13_parent (G13 16081 109) G13 (fun r19 G18 => inI r19 → PX13_leafOfMore_54 R a1 16081 a1 r19 G18 Q))) ∧ (¬ (r14 = 0) → PX13_leafOfMore_54 R a1 16081 a1 (-2) G13 Q))))) ∧ (¬ (G8 16081 20 = 0) → PX13_leafOfMore_69 R a1 2 G8 Q)))))))) ∧ (¬ (G 16144 a1 = 8) → ((0 : Int) ≤ a1 ∧ ((a1 : Int) < 30600 ∧ (inL (G 16149 a1) → ((0 : Int) ≤ a1 ∧ ((a1 : Int) < 30600 ∧ (inI (G 16147 a1) → (inI (G 16081 109) → PX13_type (G 16149 a1) (G 16147 a1) (G 16081 109) G (fun _ G28 => ((0 : Int) ≤ a1 ∧ ((a1 : Int) < 30600 ∧ (inI (G28 16144 a1) → ((G28 16144 a1 = 7 → ((0 : Int) ≤ a1 ∧ ((a1 : Int) < 30600 ∧ (inI (G28 16153 a1) → ((0 : Int) ≤ a1 ∧ ((a1 : Int) < 30600 ∧ (inI (G28 16152 a1) → R 0 [G28 16152 a1] G28 (fun _ G40 => (inI (G40 16081 109) → (inI (G40 16081 109) → ((0 : Int) ≤ G40 16081 109 ∧ ((G40 16081 109 : Int) < 216 ∧ (inI (G40 16106 (G40 16081 109)) → ((0 : Int) ≤ a1 ∧ ((a1 : Int) < 30600 ∧ (inL (G40 16149 a1) → (inI (4 * (G40 16081 109)) ∧ PX13_stands 16104 (4 * (G40 16081 109)) (G40 16106 (G40 16081 109)) (G40 16149 a1) G40 (fun r52 G51 => (0 ≤ r52 ∧ r52 ≤ 1) → (inI (G51 16081 20) → ((G51 16081 20 = 0 → ((r52 = 0 → PX13_leafOfMore_175 R a1 (G28 16153 a1) r52 16081 a1 (-2) G51 Q) ∧ (¬ (r52 = 0) → ((0 : Int) ≤ a1 ∧ ((a1 : Int) < 30600 ∧ (inL (G51 16149 a1) → PX13_find (G51 16149 a1) G51 (fun r61 G60 => inI r61 → PX13_leafOfMore_175 R a1 (G28 16153 a1) r52 16081 a1 r61 G60 Q))))))) ∧ (¬ (G51 16081 20 = 0) → PX13_leafOfMore_185 R a1 (G28 16153 a1) r52 2 G51 Q))))))))))))))))))))) ∧ (¬ (G28 16144 a1 = 7) → ((0 : Int) ≤ a1 ∧ ((a1 : Int) < 30600 ∧ (inI (G28 16144 a1) → ((G28 16144 a1 = 9 → ((0 : Int) ≤ a1 ∧ ((a1 : Int) < 30600 ∧ (inI (G28 16152 a1) → R 0 [G28 16152 a1] G28 (fun _ G70 => (inI (G70 16081 20) → ((G70 16081 20 = 0 → ((0 : Int) ≤ a1 ∧ ((a1 : Int) < 30600 ∧ (inL (G70 16149 a1) → PX13_find (G70 16149 a1) G70 (fun r78 G77 => inI r78 → PX13_isFace r78 G77 (fun r81 G80 => (0 ≤ r81 ∧ r81 ≤ 1) → ((r81 = 0 → ((0 : Int) ≤ r78 ∧ ((r78 : Int) < 216 ∧ (inI (G80 16101 r78) → ((G80 16101 r78 = 2 → PX13_leafOfMore_243 R a1 r78 G80 Q) ∧ (¬ (G80 16101 r78 = 2) → ((0 : Int) ≤ a1 ∧ ((a1 : Int) < 30600 ∧ (inI (G80 16152 a1) → PX13_meantMaker r78 (G80 16152 a1) G80 (fun r92 G91 => inI r92 → PX13_leafOfMore_259 R a1 r78 r92 G91 Q)))))))))) ∧ (¬ (r81 = 0) → PX13_leafOfMore_243 R a1 r78 G80 Q)))))))) ∧ (¬ (G70 16081 20 = 0) → PX13_leafOfMore_287 R a1 G70 Q)))))))) ∧ (¬ (G28 16144 a1 = 9) → (inI (G28 16081 108) → (inI (G28 16081 20) → ((G28 16081 20 = 0 → ((0 : Int) ≤ a1 ∧ ((a1 : Int) < 30600 ∧ (inI (G28 16151 a1) → R 1 [G28 16151 a1] G28 (fun r101 G100 => inL r101 → PX13_leafOfMore_322 R a1 (G28 16081 108) r101 G100 Q))))) ∧ (¬ (G28 16081 20 = 0) → PX13_leafOfMore_322 R a1 (G28 16081 108) 2 G28 Q)))))))))))))))))))))))))))
abbrev PX13_leafOfMore (R : Nat → List Int → gS → (Int → gS → Prop) → Prop) (a1 : Int) (G : gS) (Q : Int → gS → Prop) : Prop := PX13_leafOfMore_0 R a1 G Q
def PX13_overLeft_154 (R : Nat → List Int → gS → (Int → gS → Prop) → Prop) (l1 : Int) (l2 : Int) (l3 : Int) (G : gS) (Q : Int → gS → Prop) : Prop :=
  Q (2) G
def PX13_overLeft_107 (R : Nat → List Int → gS → (Int → gS → Prop) → Prop) (l1 : Int) (l2 : Int) (l3 : Int) (s0 : Int) (G : gS) (Q : Int → gS → Prop) : Prop :=
  Q (s0) G
def PX13_overLeft_82 (R : Nat → List Int → gS → (Int → gS → Prop) → Prop) (l1 : Int) (l2 : Int) (l3 : Int) (G : gS) (Q : Int → gS → Prop) : Prop :=
  (inI (G 16081 20) → ((G 16081 20 = 0 → PX13_find l3 G (fun r50 G49 => inI r50 → PX13_call l1 r50 l3 0 G49 (fun r53 G52 => inL r53 → PX13_overLeft_107 R l1 l2 l3 r53 G52 Q))) ∧ (¬ (G 16081 20 = 0) → PX13_overLeft_107 R l1 l2 l3 2 G Q)))
def PX13_overLeft_0 (R : Nat → List Int → gS → (Int → gS → Prop) → Prop) (a1 : Int) (a2 : Int) (a3 : Int) (G : gS) (Q : Int → gS → Prop) : Prop :=
  ((0 : Int) ≤ a1 ∧ ((a1 : Int) < 30600 ∧ (inI (G 16144 a1) → ((G 16144 a1 = 11 → Q (a3) G) ∧ (G 16144 a1 = 12 → PX13_dot a1 a2 a3 G (fun r6 G5 => inL r6 → Q (r6) G5)) ∧ (G 16144 a1 = 13 → ((0 : Int) ≤ a1 ∧ ((a1 : Int) < 30600 ∧ (inI (G 16152 a1) → R 0 [G 16152 a1] G (fun _ G11 => (inI (G11 16081 20) → ((G11 16081 20 = 0 → PX13_isC a3 G11 (fun r16 G15 => (0 ≤ r16 ∧ r16 ≤ 1) → ((r16 = 0 → ((0 : Int) ≤ a2 ∧ ((a2 : Int) < 30600 ∧ (inI (G15 16145 a2) → PX13_fault 13 (G15 16145 a2) G15 (fun _ G22 => PX13_overLeft_82 R a1 a2 a3 G22 Q))))) ∧ (¬ (r16 = 0) → PX13_overLeft_82 R a1 a2 a3 G15 Q)))) ∧ (¬ (G11 16081 20 = 0) → PX13_overLeft_82 R a1 a2 a3 G11 Q)))))))) ∧ (G 16144 a1 = 14 → ((0 : Int) ≤ a1 ∧ ((a1 : Int) < 30600 ∧ (inL (G 16149 a1) → ((0 : Int) ≤ a1 ∧ ((a1 : Int) < 30600 ∧ (inI (G 16147 a1) → (inI (G 16081 109) → PX13_type (G 16149 a1) (G 16147 a1) (G 16081 109) G (fun _ G31 => (inI (G31 16081 20) → ((G31 16081 20 = 0 → PX13_isObject a3 G31 (fun r36 G35 => (0 ≤ r36 ∧ r36 ≤ 1) → ((r36 = 0 → ((0 : Int) ≤ a2 ∧ ((a2 : Int) < 30600 ∧ (inI (G35 16145 a2) → PX13_fault 13 (G35 16145 a2) G35 (fun _ G42 => PX13_overLeft_154 R a1 a2 a3 G42 Q))))) ∧ (¬ (r36 = 0) → PX13_overLeft_154 R a1 a2 a3 G35 Q)))) ∧ (¬ (G31 16081 20 = 0) → PX13_overLeft_154 R a1 a2 a3 G31 Q)))))))))))) ∧ ((G 16144 a1 < 11 ∨ 15 ≤ G 16144 a1) → R 5 [a1, a2, a3] G (fun r45 G44 => inL r45 → Q (r45) G44))))))
abbrev PX13_overLeft (R : Nat → List Int → gS → (Int → gS → Prop) → Prop) (a1 : Int) (a2 : Int) (a3 : Int) (G : gS) (Q : Int → gS → Prop) : Prop := PX13_overLeft_0 R a1 a2 a3 G Q
def PX13_two_157 (R : Nat → List Int → gS → (Int → gS → Prop) → Prop) (l1 : Int) (l2 : Int) (l3 : Int) (l5 : Int) (l6 : Int) (G : gS) (Q : Int → gS → Prop) : Prop :=
  Q (2) G
def PX13_two_144 (R : Nat → List Int → gS → (Int → gS → Prop) → Prop) (l1 : Int) (l2 : Int) (l3 : Int) (l5 : Int) (l6 : Int) (G : gS) (Q : Int → gS → Prop) : Prop :=
  ((0 : Int) ≤ l5 ∧ ((l5 : Int) < 30600 ∧ (inI (G 16145 l5) → PX13_fault 13 (G 16145 l5) G (fun _ G36 => PX13_two_157 R l1 l2 l3 l5 l6 G36 Q))))
def PX13_two_141 (R : Nat → List Int → gS → (Int → gS → Prop) → Prop) (l1 : Int) (l2 : Int) (l3 : Int) (l5 : Int) (l6 : Int) (s0 : Int) (s1 : Int) (G : gS) (Q : Int → gS → Prop) : Prop :=
  ((s0 = s1 → PX13_two_157 R l1 l2 l3 l5 l6 G Q) ∧ (¬ (s0 = s1) → PX13_two_144 R l1 l2 l3 l5 l6 G Q))
def PX13_two_127 (R : Nat → List Int → gS → (Int → gS → Prop) → Prop) (l1 : Int) (l2 : Int) (l3 : Int) (l5 : Int) (l6 : Int) (s0 : Int) (G : gS) (Q : Int → gS → Prop) : Prop :=
  ((l6 = 2 → PX13_two_141 R l1 l2 l3 l5 l6 s0 1 G Q) ∧ (¬ (l6 = 2) → PX13_two_141 R l1 l2 l3 l5 l6 s0 0 G Q))
def PX13_two_0 (R : Nat → List Int → gS → (Int → gS → Prop) → Prop) (a1 : Int) (a2 : Int) (a3 : Int) (G : gS) (Q : Int → gS → Prop) : Prop :=
  ((0 : Int) ≤ a1 ∧ ((a1 : Int) < 30600 ∧ (inI (G 16152 a1) → R 1 [G 16152 a1] G (fun r5 G4 => inL r5 → (inI (G4 16081 20) → ((G4 16081 20 = 0 → ((0 : Int) ≤ a1 ∧ ((a1 : Int) < 30600 ∧ (inI (G4 16144 a1) → ((G4 16144 a1 = 19 → ((a3 = 1 → ((0 : Int) ≤ a2 ∧ ((a2 : Int) < 30600 ∧ (inI (G4 16145 a2) → PX13_fault 13 (G4 16145 a2) G4 (fun _ G17 => PX13_two_157 R a1 a2 a3 (G 16152 a1) r5 G17 Q))))) ∧ (¬ (a3 = 1) → ((r5 = 1 → PX13_two_144 R a1 a2 a3 (G 16152 a1) r5 G4 Q) ∧ (¬ (r5 = 1) → ((a3 = 2 → PX13_two_127 R a1 a2 a3 (G 16152 a1) r5 1 G4 Q) ∧ (¬ (a3 = 2) → PX13_two_127 R a1 a2 a3 (G 16152 a1) r5 0 G4 Q))))))) ∧ (¬ (G4 16144 a1 = 19) → ((a3 = 2 → ((r5 = 2 → PX13_two_157 R a1 a2 a3 (G 16152 a1) r5 G4 Q) ∧ (¬ (r5 = 2) → ((0 : Int) ≤ G 16152 a1 ∧ ((G 16152 a1 : Int) < 30600 ∧ (inI (G4 16145 (G 16152 a1)) → PX13_fault 13 (G4 16145 (G 16152 a1)) G4 (fun _ G26 => PX13_two_157 R a1 a2 a3 (G 16152 a1) r5 G26 Q))))))) ∧ (¬ (a3 = 2) → ((0 : Int) ≤ a2 ∧ ((a2 : Int) < 30600 ∧ (inI (G4 16145 a2) → PX13_fault 13 (G4 16145 a2) G4 (fun _ G31 => PX13_two_157 R a1 a2 a3 (G 16152 a1) r5 G31 Q)))))))))))) ∧ (¬ (G4 16081 20 = 0) → Q (2) G4)))))))
abbrev PX13_two (R : Nat → List Int → gS → (Int → gS → Prop) → Prop) (a1 : Int) (a2 : Int) (a3 : Int) (G : gS) (Q : Int → gS → Prop) : Prop := PX13_two_0 R a1 a2 a3 G Q
def Rq13 : Nat → Nat → List Int → gS → (Int → gS → Prop) → Prop
  | 0, _, _, _, _ => False
  | n + 1, i, L, G, Q => match i, L with
    | 0, [a1] => PX13_args (Rq13 n) a1 G Q
    | 1, [a1] => PX13_judge (Rq13 n) a1 G Q
    | 2, [a1] => PX13_leaf (Rq13 n) a1 G Q
    | 3, [a1] => PX13_leafOfMore (Rq13 n) a1 G Q
    | 4, [a1, a2, a3] => PX13_overLeft (Rq13 n) a1 a2 a3 G Q
    | 5, [a1, a2, a3] => PX13_two (Rq13 n) a1 a2 a3 G Q
    | _, _ => False
def PX13_judgePut_192 (l1 : Int) (l2 : Int) (l3 : Int) (l5 : Int) (l7 : Int) (G : gS) (Q : Int → gS → Prop) : Prop :=
  ((0 : Int) ≤ l1 ∧ ((l1 : Int) < 30600 ∧ (inI (G 16152 l1) → PX13_wanted (G 16152 l1) l5 l3 G (fun _ G60 => Q 0 G60))))
def PX13_judgePut_175 (l1 : Int) (l2 : Int) (l3 : Int) (l5 : Int) (l7 : Int) (G : gS) (Q : Int → gS → Prop) : Prop :=
  ((l7 = 0 → ((0 : Int) ≤ l1 ∧ ((l1 : Int) < 30600 ∧ (inI (G 16145 l1) → PX13_fault 15 (G 16145 l1) G (fun _ G54 => PX13_judgePut_192 l1 l2 l3 l5 l7 G54 Q))))) ∧ (¬ (l7 = 0) → PX13_judgePut_192 l1 l2 l3 l5 l7 G Q))
def PX13_judgePut_173 (l1 : Int) (l2 : Int) (l3 : Int) (l5 : Int) (l7 : Int) (l8 : Int) (l9 : Int) (s0 : Int) (G : gS) (Q : Int → gS → Prop) : Prop :=
  PX13_judgePut_175 l1 l2 l3 l5 s0 G Q
def PX13_judgePut_168 (l1 : Int) (l2 : Int) (l3 : Int) (l5 : Int) (l7 : Int) (l8 : Int) (l9 : Int) (G : gS) (Q : Int → gS → Prop) : Prop :=
  PX13_judgePut_173 l1 l2 l3 l5 l7 l8 l9 1 G Q
def PX13_judgePut_151 (l1 : Int) (l2 : Int) (l3 : Int) (l5 : Int) (l7 : Int) (l8 : Int) (s0 : Int) (G : gS) (Q : Int → gS → Prop) : Prop :=
  ((0 : Int) ≤ l8 ∧ ((l8 : Int) < 7344 ∧ ((0 ≤ G 16120 l8 ∧ G 16120 l8 ≤ 1) → ((G 16120 l8 = 0 → PX13_judgePut_168 l1 l2 l3 l5 l7 l8 s0 G Q) ∧ (¬ (G 16120 l8 = 0) → ((s0 = 0 → PX13_judgePut_173 l1 l2 l3 l5 l7 l8 s0 0 G Q) ∧ (¬ (s0 = 0) → PX13_judgePut_168 l1 l2 l3 l5 l7 l8 s0 G Q)))))))
def PX13_judgePut_150 (l1 : Int) (l2 : Int) (l3 : Int) (l5 : Int) (l7 : Int) (l8 : Int) (G : gS) (Q : Int → gS → Prop) : Prop :=
  PX13_judgePut_151 l1 l2 l3 l5 l7 l8 0 G Q
def PX13_judgePut_143 (l1 : Int) (l2 : Int) (l3 : Int) (l5 : Int) (l7 : Int) (l8 : Int) (s0 : Int) (s1 : Int) (G : gS) (Q : Int → gS → Prop) : Prop :=
  ((s0 = s1 → PX13_judgePut_151 l1 l2 l3 l5 l7 l8 1 G Q) ∧ (¬ (s0 = s1) → PX13_judgePut_150 l1 l2 l3 l5 l7 l8 G Q))
def PX13_judgePut_82 (l1 : Int) (l2 : Int) (l3 : Int) (l5 : Int) (s0 : Int) (G : gS) (Q : Int → gS → Prop) : Prop :=
  ((s0 = 0 → PX13_judgePut_175 l1 l2 l3 l5 s0 G Q) ∧ (¬ (s0 = 0) → ((0 : Int) ≤ l2 ∧ ((l2 : Int) < 30600 ∧ (inI (G 16156 l2) → ((G 16156 l2 < 0 → ((0 : Int) ≤ l2 ∧ ((l2 : Int) < 30600 ∧ (inI (G 16153 l2) → PX13_classOfMember (G 16153 l2) G (fun r38 G37 => inI r38 → (inI (G37 16081 109) → ((r38 = G37 16081 109 → (inI (G37 16081 110) → ((0 : Int) ≤ G37 16081 110 ∧ ((G37 16081 110 : Int) < 7344 ∧ (inI (G37 16116 (G37 16081 110)) → ((0 : Int) ≤ G 16153 l2 ∧ ((G 16153 l2 : Int) < 7344 ∧ ((0 ≤ G37 16119 (G 16153 l2) ∧ G37 16119 (G 16153 l2) ≤ 1) → ((G37 16119 (G 16153 l2) = 0 → PX13_judgePut_143 l1 l2 l3 l5 s0 (G 16153 l2) (G37 16116 (G37 16081 110)) 2 G37 Q) ∧ (¬ (G37 16119 (G 16153 l2) = 0) → PX13_judgePut_143 l1 l2 l3 l5 s0 (G 16153 l2) (G37 16116 (G37 16081 110)) 3 G37 Q)))))))))) ∧ (¬ (r38 = G37 16081 109) → PX13_judgePut_150 l1 l2 l3 l5 s0 (G 16153 l2) G37 Q)))))))) ∧ (¬ (G 16156 l2 < 0) → PX13_judgePut_175 l1 l2 l3 l5 s0 G Q)))))))
def PX13_judgePut_77 (l1 : Int) (l2 : Int) (l3 : Int) (l5 : Int) (G : gS) (Q : Int → gS → Prop) : Prop :=
  PX13_judgePut_82 l1 l2 l3 l5 1 G Q
def PX13_judgePut_36 (l1 : Int) (l2 : Int) (l3 : Int) (s0 : Int) (G : gS) (Q : Int → gS → Prop) : Prop :=
  (inI (G 16081 20) → ((G 16081 20 = 0 → ((0 : Int) ≤ l2 ∧ ((l2 : Int) < 30600 ∧ (inI (G 16144 l2) → ((G 16144 l2 = 3 → PX13_judgePut_77 l1 l2 l3 s0 G Q) ∧ (¬ (G 16144 l2 = 3) → ((0 : Int) ≤ l2 ∧ ((l2 : Int) < 30600 ∧ (inI (G 16144 l2) → ((G 16144 l2 = 5 → PX13_judgePut_77 l1 l2 l3 s0 G Q) ∧ (¬ (G 16144 l2 = 5) → ((0 : Int) ≤ l2 ∧ ((l2 : Int) < 30600 ∧ (inI (G 16144 l2) → ((G 16144 l2 = 12 → PX13_judgePut_77 l1 l2 l3 s0 G Q) ∧ (¬ (G 16144 l2 = 12) → PX13_judgePut_82 l1 l2 l3 s0 0 G Q)))))))))))))))) ∧ (¬ (G 16081 20 = 0) → Q 0 G)))
def PX13_judgePut_0 (a1 : Int) (G : gS) (Q : Int → gS → Prop) : Prop :=
  ((0 : Int) ≤ a1 ∧ ((a1 : Int) < 30600 ∧ (inI (G 16151 a1) → Rq13 200 1 [G 16151 a1] G (fun r5 G4 => inL r5 → (inI (G4 16081 20) → ((G4 16081 20 = 0 → ((0 : Int) ≤ a1 ∧ ((a1 : Int) < 30600 ∧ (inI (G4 16152 a1) → Rq13 200 1 [G4 16152 a1] G4 (fun r13 G12 => inL r13 → PX13_judgePut_36 a1 (G 16151 a1) r5 r13 G12 Q))))) ∧ (¬ (G4 16081 20 = 0) → PX13_judgePut_36 a1 (G 16151 a1) r5 2 G4 Q)))))))
abbrev PX13_judgePut (a1 : Int) (G : gS) (Q : Int → gS → Prop) : Prop := PX13_judgePut_0 a1 G Q
def PX13_judgeReturn_142 (l1 : Int) (l2 : Int) (l4 : Int) (G : gS) (Q : Int → gS → Prop) : Prop :=
  Q 0 G
def PX13_judgeReturn_102 (l1 : Int) (l2 : Int) (l4 : Int) (G : gS) (Q : Int → gS → Prop) : Prop :=
  ((0 : Int) ≤ l1 ∧ ((l1 : Int) < 30600 ∧ (inI (G 16145 l1) → PX13_fault 17 (G 16145 l1) G (fun _ G35 => PX13_judgeReturn_142 l1 l2 l4 G35 Q))))
def PX13_judgeReturn_99 (l1 : Int) (l2 : Int) (l4 : Int) (s0 : Int) (s1 : Int) (G : gS) (Q : Int → gS → Prop) : Prop :=
  ((s0 = s1 → ((l4 = 0 → PX13_judgeReturn_142 l1 l2 l4 G Q) ∧ (¬ (l4 = 0) → ((0 : Int) ≤ l1 ∧ ((l1 : Int) < 30600 ∧ (inI (G 16151 l1) → (inI (G 16081 110) → ((0 : Int) ≤ G 16081 110 ∧ ((G 16081 110 : Int) < 7344 ∧ (inL (G 16127 (G 16081 110)) → PX13_wanted (G 16151 l1) l2 (G 16127 (G 16081 110)) G (fun _ G46 => PX13_judgeReturn_142 l1 l2 l4 G46 Q))))))))))) ∧ (¬ (s0 = s1) → PX13_judgeReturn_102 l1 l2 l4 G Q))
def PX13_judgeReturn_66 (l1 : Int) (l2 : Int) (s0 : Int) (G : gS) (Q : Int → gS → Prop) : Prop :=
  (inI (G 16081 110) → ((0 : Int) ≤ G 16081 110 ∧ ((G 16081 110 : Int) < 7344 ∧ (inI (G 16116 (G 16081 110)) → ((G 16116 (G 16081 110) = 3 → PX13_judgeReturn_102 l1 l2 s0 G Q) ∧ (¬ (G 16116 (G 16081 110) = 3) → ((0 : Int) ≤ l1 ∧ ((l1 : Int) < 30600 ∧ (inI (G 16151 l1) → ((G 16151 l1 = -2 → PX13_judgeReturn_99 l1 l2 s0 s0 0 G Q) ∧ (¬ (G 16151 l1 = -2) → PX13_judgeReturn_99 l1 l2 s0 s0 1 G Q)))))))))))
def PX13_judgeReturn_65 (l1 : Int) (l2 : Int) (G : gS) (Q : Int → gS → Prop) : Prop :=
  PX13_judgeReturn_66 l1 l2 0 G Q
def PX13_judgeReturn_25 (l1 : Int) (s0 : Int) (G : gS) (Q : Int → gS → Prop) : Prop :=
  (inI (G 16081 20) → ((G 16081 20 = 0 → (inI (G 16081 110) → ((0 : Int) ≤ G 16081 110 ∧ ((G 16081 110 : Int) < 7344 ∧ (inI (G 16116 (G 16081 110)) → ((G 16116 (G 16081 110) = 1 → (inI (G 16081 110) → ((0 : Int) ≤ G 16081 110 ∧ ((G 16081 110 : Int) < 7344 ∧ (inL (G 16127 (G 16081 110)) → ((G 16127 (G 16081 110) = 1 → PX13_judgeReturn_65 l1 s0 G Q) ∧ (¬ (G 16127 (G 16081 110) = 1) → PX13_judgeReturn_66 l1 s0 1 G Q))))))) ∧ (¬ (G 16116 (G 16081 110) = 1) → PX13_judgeReturn_65 l1 s0 G Q))))))) ∧ (¬ (G 16081 20 = 0) → Q 0 G)))
def PX13_judgeReturn_0 (a1 : Int) (G : gS) (Q : Int → gS → Prop) : Prop :=
  ((0 : Int) ≤ a1 ∧ ((a1 : Int) < 30600 ∧ (inI (G 16151 a1) → ((G 16151 a1 = -2 → PX13_judgeReturn_25 a1 1 G Q) ∧ (¬ (G 16151 a1 = -2) → ((0 : Int) ≤ a1 ∧ ((a1 : Int) < 30600 ∧ (inI (G 16151 a1) → Rq13 200 1 [G 16151 a1] G (fun r9 G8 => inL r9 → PX13_judgeReturn_25 a1 r9 G8 Q)))))))))
abbrev PX13_judgeReturn (a1 : Int) (G : gS) (Q : Int → gS → Prop) : Prop := PX13_judgeReturn_0 a1 G Q
def PX13_judgeOther_301 (l1 : Int) (G : gS) (Q : Int → gS → Prop) : Prop :=
  Q 0 G
def PX13_judgeOther_213 (l1 : Int) (l2 : Int) (l3 : Int) (G : gS) (Q : Int → gS → Prop) : Prop :=
  PX13_judgeOther_301 l1 G Q
def PX13_judgeOther_185 (l1 : Int) (l2 : Int) (s0 : Int) (G : gS) (Q : Int → gS → Prop) : Prop :=
  ((s0 = -2 → ((0 : Int) ≤ l1 ∧ ((l1 : Int) < 30600 ∧ (inI (G 16145 l1) → PX13_fault 18 (G 16145 l1) G (fun _ G93 => PX13_judgeOther_213 l1 l2 s0 G93 Q))))) ∧ (¬ (s0 = -2) → PX13_keepParams l1 s0 G (fun _ G95 => PX13_judgeOther_213 l1 l2 s0 G95 Q)))
def PX13_judgeOther_157 (l1 : Int) (s0 : Int) (G : gS) (Q : Int → gS → Prop) : Prop :=
  ((s0 = 0 → PX13_judgeOther_185 l1 s0 (-2) G Q) ∧ (¬ (s0 = 0) → (inI (G 16081 109) → PX13_parent (G 16081 109) G (fun r81 G80 => inI r81 → ((0 : Int) ≤ l1 ∧ ((l1 : Int) < 30600 ∧ (inI (G80 16151 l1) → PX13_meantMaker r81 (G80 16151 l1) G80 (fun r87 G86 => inI r87 → PX13_judgeOther_185 l1 s0 r87 G86 Q))))))))
def PX13_judgeOther_156 (l1 : Int) (G : gS) (Q : Int → gS → Prop) : Prop :=
  PX13_judgeOther_157 l1 0 G Q
def PX13_judgeOther_0 (a1 : Int) (G : gS) (Q : Int → gS → Prop) : Prop :=
  ((0 : Int) ≤ a1 ∧ ((a1 : Int) < 30600 ∧ (inI (G 16144 a1) → ((G 16144 a1 = 24 → PX13_judgeReturn a1 G (fun _ G5 => PX13_judgeOther_301 a1 G5 Q)) ∧ (G 16144 a1 = 25 → ((0 : Int) ≤ a1 ∧ ((a1 : Int) < 30600 ∧ (inI (G 16151 a1) → ((0 : Int) ≤ a1 ∧ ((a1 : Int) < 30600 ∧ (inI (G 16151 a1) → Rq13 200 1 [G 16151 a1] G (fun r14 G13 => inL r14 → PX13_wanted (G 16151 a1) r14 2305843009220653836 G13 (fun _ G16 => PX13_judgeOther_301 a1 G16 Q))))))))) ∧ (G 16144 a1 = 26 → PX13_judgePut a1 G (fun _ G18 => PX13_judgeOther_301 a1 G18 Q)) ∧ (G 16144 a1 = 27 → ((0 : Int) ≤ a1 ∧ ((a1 : Int) < 30600 ∧ (inI (G 16151 a1) → ((0 : Int) ≤ a1 ∧ ((a1 : Int) < 30600 ∧ (inI (G 16151 a1) → Rq13 200 1 [G 16151 a1] G (fun r27 G26 => inL r27 → PX13_wanted (G 16151 a1) r27 2 G26 (fun _ G29 => PX13_judgeOther_301 a1 G29 Q))))))))) ∧ (G 16144 a1 = 28 → ((0 : Int) ≤ a1 ∧ ((a1 : Int) < 30600 ∧ (inI (G 16151 a1) → Rq13 200 0 [G 16151 a1] G (fun _ G34 => (inI (G34 16081 20) → ((G34 16081 20 = 0 → (inI (G34 16081 110) → ((0 : Int) ≤ G34 16081 110 ∧ ((G34 16081 110 : Int) < 7344 ∧ (inI (G34 16116 (G34 16081 110)) → ((G34 16116 (G34 16081 110) = 2 → (inI (G34 16081 110) → ((0 : Int) ≤ G34 16081 110 ∧ ((G34 16081 110 : Int) < 7344 ∧ (inI (G34 16135 (G34 16081 110)) → ((0 : Int) ≤ G34 16135 (G34 16081 110) ∧ ((G34 16135 (G34 16081 110) : Int) < 30600 ∧ (inI (G34 16151 (G34 16135 (G34 16081 110))) → ((G34 16151 (G34 16135 (G34 16081 110)) = a1 → PX13_judgeOther_157 a1 1 G34 Q) ∧ (¬ (G34 16151 (G34 16135 (G34 16081 110)) = a1) → PX13_judgeOther_156 a1 G34 Q)))))))))) ∧ (¬ (G34 16116 (G34 16081 110) = 2) → PX13_judgeOther_156 a1 G34 Q))))))) ∧ (¬ (G34 16081 20 = 0) → PX13_judgeOther_301 a1 G34 Q)))))))) ∧ (G 16144 a1 = 29 → ((0 : Int) ≤ a1 ∧ ((a1 : Int) < 30600 ∧ (inI (G 16151 a1) → Rq13 200 1 [G 16151 a1] G (fun r55 G54 => inL r55 → ((0 : Int) ≤ a1 ∧ ((a1 : Int) < 30600 ∧ (inI (G54 16151 a1) → ((0 : Int) ≤ G54 16151 a1 ∧ ((G54 16151 a1 : Int) < 30600 ∧ (inI (G54 16144 (G54 16151 a1)) → (inI (G54 16081 20) → ((G54 16081 20 = 0 → ((G54 16144 (G54 16151 a1) = 4 → PX13_judgeOther_301 a1 G54 Q) ∧ (¬ (G54 16144 (G54 16151 a1) = 4) → ((G54 16144 (G54 16151 a1) = 6 → PX13_judgeOther_301 a1 G54 Q) ∧ (¬ (G54 16144 (G54 16151 a1) = 6) → ((G54 16144 (G54 16151 a1) = 7 → PX13_judgeOther_301 a1 G54 Q) ∧ (¬ (G54 16144 (G54 16151 a1) = 7) → ((G54 16144 (G54 16151 a1) = 8 → PX13_judgeOther_301 a1 G54 Q) ∧ (¬ (G54 16144 (G54 16151 a1) = 8) → ((G54 16144 (G54 16151 a1) = 9 → PX13_judgeOther_301 a1 G54 Q) ∧ (¬ (G54 16144 (G54 16151 a1) = 9) → ((G54 16144 (G54 16151 a1) = 13 → PX13_judgeOther_301 a1 G54 Q) ∧ (¬ (G54 16144 (G54 16151 a1) = 13) → ((0 : Int) ≤ a1 ∧ ((a1 : Int) < 30600 ∧ (inI (G54 16145 a1) → PX13_fault 19 (G54 16145 a1) G54 (fun _ G74 => PX13_judgeOther_301 a1 G74 Q))))))))))))))))) ∧ (¬ (G54 16081 20 = 0) → PX13_judgeOther_301 a1 G54 Q)))))))))))))) ∧ ((G 16144 a1 < 24 ∨ 30 ≤ G 16144 a1) → PX13_judgePut a1 G (fun _ G76 => PX13_judgeOther_301 a1 G76 Q))))))
abbrev PX13_judgeOther (a1 : Int) (G : gS) (Q : Int → gS → Prop) : Prop := PX13_judgeOther_0 a1 G Q
def PX13_judgeS_378 (R : Nat → List Int → gS → (Int → gS → Prop) → Prop) (J : Nat → List Int → gS → (Int → gS → Prop) → Prop) (l1 : Int) (l2 : Int) (G : gS) (Q : Int → gS → Prop) : Prop :=
  Q 0 G
def PX13_judgeS_323 (R : Nat → List Int → gS → (Int → gS → Prop) → Prop) (J : Nat → List Int → gS → (Int → gS → Prop) → Prop) (l1 : Int) (l2 : Int) (G : gS) (Q : Int → gS → Prop) : Prop :=
  (inI (G 16081 114) → ((0 : Int) ≤ l1 ∧ ((l1 : Int) < 30600 ∧ (∀ G150 : gS, G150 = uG G 16156 l1 (G 16081 114) → ((0 : Int) ≤ l1 ∧ ((l1 : Int) < 30600 ∧ (inL (G150 16148 l1) → ((0 : Int) ≤ l1 ∧ ((l1 : Int) < 30600 ∧ (inL (G150 16149 l1) → ((0 : Int) ≤ l1 ∧ ((l1 : Int) < 30600 ∧ (inI (G150 16146 l1) → PX13_local (G150 16148 l1) (G150 16149 l1) (G150 16146 l1) G150 (fun _ G160 => ((0 : Int) ≤ l1 ∧ ((l1 : Int) < 30600 ∧ (inI (G160 16152 l1) → R 0 [G160 16152 l1] G160 (fun _ G165 => (∀ G167 : gS, G167 = uG G165 16081 114 (l2) → PX13_judgeS_378 R J l1 l2 G167 Q)))))))))))))))))))
def PX13_judgeS_156 (R : Nat → List Int → gS → (Int → gS → Prop) → Prop) (J : Nat → List Int → gS → (Int → gS → Prop) → Prop) (l1 : Int) (l2 : Int) (G : gS) (Q : Int → gS → Prop) : Prop :=
  (inI (G 16081 114) → ((0 : Int) ≤ l1 ∧ ((l1 : Int) < 30600 ∧ (∀ G135 : gS, G135 = uG G 16156 l1 (G 16081 114) → ((0 : Int) ≤ l1 ∧ ((l1 : Int) < 30600 ∧ (inL (G135 16148 l1) → ((0 : Int) ≤ l1 ∧ ((l1 : Int) < 30600 ∧ (inL (G135 16150 l1) → ((0 : Int) ≤ l1 ∧ ((l1 : Int) < 30600 ∧ (inI (G135 16146 l1) → PX13_local (G135 16148 l1) (G135 16150 l1) (G135 16146 l1) G135 (fun _ G145 => PX13_judgeS_378 R J l1 l2 G145 Q))))))))))))))
def PX13_judgeS_95 (R : Nat → List Int → gS → (Int → gS → Prop) → Prop) (J : Nat → List Int → gS → (Int → gS → Prop) → Prop) (l1 : Int) (l2 : Int) (l3 : Int) (G : gS) (Q : Int → gS → Prop) : Prop :=
  (∀ G168 : gS, G168 = uG G 16081 114 (l2) → PX13_judgeS_378 R J l1 l2 G168 Q)
def PX13_judgeS_67 (R : Nat → List Int → gS → (Int → gS → Prop) → Prop) (J : Nat → List Int → gS → (Int → gS → Prop) → Prop) (l1 : Int) (l2 : Int) (l3 : Int) (G : gS) (Q : Int → gS → Prop) : Prop :=
  ((l3 = -2 → PX13_judgeS_95 R J l1 l2 l3 G Q) ∧ (¬ (l3 = -2) → (inI (G 16081 20) → ((G 16081 20 = 0 → R 0 [l3] G (fun _ G127 => ((0 : Int) ≤ l3 ∧ ((l3 : Int) < 30600 ∧ (inI (G127 16154 l3) → J 0 [l1, l2, G127 16154 l3] G127 Q))))) ∧ (¬ (G 16081 20 = 0) → PX13_judgeS_95 R J l1 l2 l3 G Q)))))
def PX13_judgeS_0 (R : Nat → List Int → gS → (Int → gS → Prop) → Prop) (J : Nat → List Int → gS → (Int → gS → Prop) → Prop) (a1 : Int) (G : gS) (Q : Int → gS → Prop) : Prop :=
  (inI (G 16081 20) → ((G 16081 20 = 0 → (inI (G 16081 114) → ((0 : Int) ≤ a1 ∧ ((a1 : Int) < 30600 ∧ (inI (G 16144 a1) → ((G 16144 a1 = 20 → ((0 : Int) ≤ a1 ∧ ((a1 : Int) < 30600 ∧ (inI (G 16151 a1) → PX13_judgeS_67 R J a1 (G 16081 114) (G 16151 a1) G Q)))) ∧ (G 16144 a1 = 21 → ((0 : Int) ≤ a1 ∧ ((a1 : Int) < 30600 ∧ (inL (G 16150 a1) → ((0 : Int) ≤ a1 ∧ ((a1 : Int) < 30600 ∧ (inI (G 16147 a1) → (inI (G 16081 109) → PX13_type (G 16150 a1) (G 16147 a1) (G 16081 109) G (fun _ G18 => (inI (G18 16081 20) → ((G18 16081 20 = 0 → ((0 : Int) ≤ a1 ∧ ((a1 : Int) < 30600 ∧ (inI (G18 16151 a1) → ((0 : Int) ≤ a1 ∧ ((a1 : Int) < 30600 ∧ (inI (G18 16151 a1) → Rq13 200 1 [G18 16151 a1] G18 (fun r29 G28 => inL r29 → ((0 : Int) ≤ a1 ∧ ((a1 : Int) < 30600 ∧ (inL (G28 16150 a1) → PX13_wanted (G18 16151 a1) r29 (G28 16150 a1) G28 (fun _ G34 => PX13_judgeS_156 R J a1 (G 16081 114) G34 Q)))))))))))) ∧ (¬ (G18 16081 20 = 0) → PX13_judgeS_156 R J a1 (G 16081 114) G18 Q)))))))))))) ∧ (G 16144 a1 = 22 → ((0 : Int) ≤ a1 ∧ ((a1 : Int) < 30600 ∧ (inI (G 16151 a1) → ((0 : Int) ≤ a1 ∧ ((a1 : Int) < 30600 ∧ (inI (G 16151 a1) → Rq13 200 1 [G 16151 a1] G (fun r43 G42 => inL r43 → PX13_wanted (G 16151 a1) r43 2 G42 (fun _ G45 => ((0 : Int) ≤ a1 ∧ ((a1 : Int) < 30600 ∧ (inI (G45 16152 a1) → R 0 [G45 16152 a1] G45 (fun _ G50 => (∀ G52 : gS, G52 = uG G50 16081 114 (G 16081 114) → ((0 : Int) ≤ a1 ∧ ((a1 : Int) < 30600 ∧ (inI (G52 16153 a1) → ((G52 16153 a1 = -2 → PX13_judgeS_378 R J a1 (G 16081 114) G52 Q) ∧ (¬ (G52 16153 a1 = -2) → ((0 : Int) ≤ a1 ∧ ((a1 : Int) < 30600 ∧ (inI (G52 16153 a1) → R 0 [G52 16153 a1] G52 (fun _ G60 => (∀ G62 : gS, G62 = uG G60 16081 114 (G 16081 114) → PX13_judgeS_378 R J a1 (G 16081 114) G62 Q)))))))))))))))))))))))) ∧ (G 16144 a1 = 23 → ((0 : Int) ≤ a1 ∧ ((a1 : Int) < 30600 ∧ (inI (G 16151 a1) → ((0 : Int) ≤ a1 ∧ ((a1 : Int) < 30600 ∧ (inI (G 16151 a1) → Rq13 200 1 [G 16151 a1] G (fun r70 G69 => inL r70 → PX13_wanted (G 16151 a1) r70 2 G69 (fun _ G72 => ((0 : Int) ≤ a1 ∧ ((a1 : Int) < 30600 ∧ (inI (G72 16152 a1) → R 0 [G72 16152 a1] G72 (fun _ G77 => (∀ G79 : gS, G79 = uG G77 16081 114 (G 16081 114) → ((0 : Int) ≤ a1 ∧ ((a1 : Int) < 30600 ∧ (inI (G79 16153 a1) → ((G79 16153 a1 = -2 → PX13_judgeS_378 R J a1 (G 16081 114) G79 Q) ∧ (¬ (G79 16153 a1 = -2) → ((0 : Int) ≤ a1 ∧ ((a1 : Int) < 30600 ∧ (inI (G79 16153 a1) → R 0 [G79 16153 a1] G79 (fun _ G87 => (∀ G89 : gS, G89 = uG G87 16081 114 (G 16081 114) → PX13_judgeS_378 R J a1 (G 16081 114) G89 Q)))))))))))))))))))))))) ∧ (G 16144 a1 = 24 → PX13_judgeOther a1 G (fun _ G90 => PX13_judgeS_378 R J a1 (G 16081 114) G90 Q)) ∧ (G 16144 a1 = 25 → PX13_judgeOther a1 G (fun _ G92 => PX13_judgeS_378 R J a1 (G 16081 114) G92 Q)) ∧ (G 16144 a1 = 26 → ((0 : Int) ≤ a1 ∧ ((a1 : Int) < 30600 ∧ (inI (G 16151 a1) → R 0 [G 16151 a1] G (fun _ G97 => ((0 : Int) ≤ a1 ∧ ((a1 : Int) < 30600 ∧ (inL (G97 16149 a1) → ((0 : Int) ≤ a1 ∧ ((a1 : Int) < 30600 ∧ (inI (G97 16147 a1) → (inI (G97 16081 109) → PX13_type (G97 16149 a1) (G97 16147 a1) (G97 16081 109) G97 (fun _ G106 => (inI (G106 16081 20) → ((G106 16081 20 = 0 → ((0 : Int) ≤ a1 ∧ ((a1 : Int) < 30600 ∧ (inL (G106 16149 a1) → PX13_fits (G106 16149 a1) 2305843009220653836 G106 (fun r114 G113 => (0 ≤ r114 ∧ r114 ≤ 1) → ((r114 = 0 → ((0 : Int) ≤ a1 ∧ ((a1 : Int) < 30600 ∧ (inI (G113 16147 a1) → PX13_fault 13 (G113 16147 a1) G113 (fun _ G120 => PX13_judgeS_323 R J a1 (G 16081 114) G120 Q))))) ∧ (¬ (r114 = 0) → PX13_judgeS_323 R J a1 (G 16081 114) G113 Q))))))) ∧ (¬ (G106 16081 20 = 0) → PX13_judgeS_323 R J a1 (G 16081 114) G106 Q)))))))))))))))) ∧ ((G 16144 a1 < 20 ∨ 27 ≤ G 16144 a1) → PX13_judgeOther a1 G (fun _ G122 => PX13_judgeS_378 R J a1 (G 16081 114) G122 Q)))))))) ∧ (¬ (G 16081 20 = 0) → Q 0 G)))
def PX13_judgeS_J (R : Nat → List Int → gS → (Int → gS → Prop) → Prop) : Nat → Nat → List Int → gS → (Int → gS → Prop) → Prop
  | 0, _, _, _, _ => False
  | f + 1, h, L, G, Q => match h, L with
    | 0, [l1, l2, l3] => PX13_judgeS_67 R (PX13_judgeS_J R f) l1 l2 l3 G Q
    | _, _ => False
def PX13_judgeS (R : Nat → List Int → gS → (Int → gS → Prop) → Prop) (a1 : Int) (G : gS) (Q : Int → gS → Prop) : Prop := ∃ f : Nat, f ≤ 4000000000 ∧ PX13_judgeS_0 R (PX13_judgeS_J R f) a1 G Q
def Rq14 : Nat → Nat → List Int → gS → (Int → gS → Prop) → Prop
  | 0, _, _, _, _ => False
  | n + 1, i, L, G, Q => match i, L with
    | 0, [a1] => PX13_judgeS (Rq14 n) a1 G Q
    | _, _ => False
def PX13_bodyOf_278 (J : Nat → List Int → gS → (Int → gS → Prop) → Prop) (l1 : Int) (l2 : Int) (l3 : Int) (G : gS) (Q : Int → gS → Prop) : Prop :=
  Q 0 G
def PX13_bodyOf_214 (J : Nat → List Int → gS → (Int → gS → Prop) → Prop) (l1 : Int) (l2 : Int) (l3 : Int) (G : gS) (Q : Int → gS → Prop) : Prop :=
  (inI (G 16081 20) → ((G 16081 20 = 0 → ((0 : Int) ≤ l2 ∧ ((l2 : Int) < 7344 ∧ (inI (G 16116 l2) → ((G 16116 l2 = 1 → ((0 : Int) ≤ l2 ∧ ((l2 : Int) < 7344 ∧ (inI (G 16135 l2) → ((G 16135 l2 = -2 → PX13_bodyOf_278 J l1 l2 l3 G Q) ∧ (¬ (G 16135 l2 = -2) → ((0 : Int) ≤ l2 ∧ ((l2 : Int) < 7344 ∧ (inL (G 16127 l2) → ((G 16127 l2 = 1 → PX13_bodyOf_278 J l1 l2 l3 G Q) ∧ (¬ (G 16127 l2 = 1) → ((0 : Int) ≤ l2 ∧ ((l2 : Int) < 7344 ∧ (inI (G 16135 l2) → Rq12 200 0 [G 16135 l2] G (fun r101 G100 => (0 ≤ r101 ∧ r101 ≤ 1) → ((r101 = 0 → PX13_bodyOf_278 J l1 l2 l3 G100 Q) ∧ (¬ (r101 = 0) → ((0 : Int) ≤ l2 ∧ ((l2 : Int) < 7344 ∧ (inI (G100 16126 l2) → PX13_fault 17 (G100 16126 l2) G100 (fun _ G107 => PX13_bodyOf_278 J l1 l2 l3 G107 Q))))))))))))))))))))) ∧ (¬ (G 16116 l2 = 1) → PX13_bodyOf_278 J l1 l2 l3 G Q)))))) ∧ (¬ (G 16081 20 = 0) → PX13_bodyOf_278 J l1 l2 l3 G Q)))
def PX13_bodyOf_193 (J : Nat → List Int → gS → (Int → gS → Prop) → Prop) (l1 : Int) (l2 : Int) (l3 : Int) (G : gS) (Q : Int → gS → Prop) : Prop :=
  ((0 : Int) ≤ l2 ∧ ((l2 : Int) < 7344 ∧ (inI (G 16135 l2) → ((G 16135 l2 = -2 → PX13_bodyOf_214 J l1 l2 l3 G Q) ∧ (¬ (G 16135 l2 = -2) → ((0 : Int) ≤ l2 ∧ ((l2 : Int) < 7344 ∧ (inI (G 16135 l2) → Rq14 200 0 [G 16135 l2] G (fun _ G81 => PX13_bodyOf_214 J l1 l2 l3 G81 Q)))))))))
def PX13_bodyOf_97 (J : Nat → List Int → gS → (Int → gS → Prop) → Prop) (l1 : Int) (l2 : Int) (l3 : Int) (G : gS) (Q : Int → gS → Prop) : Prop :=
  ((0 : Int) ≤ l2 ∧ ((l2 : Int) < 7344 ∧ (inI (G 16129 l2) → ((l3 < G 16129 l2 → ((0 : Int) ≤ (4 * l2) + l3 ∧ (((4 * l2) + l3 : Int) < 29376 ∧ (inL (G 16132 ((4 * l2) + l3)) → ((0 : Int) ≤ (4 * l2) + l3 ∧ (((4 * l2) + l3 : Int) < 29376 ∧ (inL (G 16130 ((4 * l2) + l3)) → ((0 : Int) ≤ (4 * l2) + l3 ∧ (((4 * l2) + l3 : Int) < 29376 ∧ (inI (G 16133 ((4 * l2) + l3)) → PX13_local (G 16132 ((4 * l2) + l3)) (G 16130 ((4 * l2) + l3)) (G 16133 ((4 * l2) + l3)) G (fun _ G51 => (inI (l3 + 1) ∧ J 0 [l1, l2, l3 + 1] G51 Q)))))))))))) ∧ (¬ (l3 < G 16129 l2) → ((0 : Int) ≤ l2 ∧ ((l2 : Int) < 7344 ∧ (inI (G 16116 l2) → ((G 16116 l2 = 2 → PX13_beginsBySuper l2 G (fun r59 G58 => (0 ≤ r59 ∧ r59 ≤ 1) → ((r59 = 0 → PX13_parent l1 G58 (fun r63 G62 => inI r63 → PX13_meantMaker r63 (-2) G62 (fun r66 G65 => inI r66 → ((r66 = -2 → ((0 : Int) ≤ l2 ∧ ((l2 : Int) < 7344 ∧ (inI (G65 16126 l2) → PX13_fault 18 (G65 16126 l2) G65 (fun _ G72 => PX13_bodyOf_193 J l1 l2 l3 G72 Q))))) ∧ (¬ (r66 = -2) → PX13_bodyOf_193 J l1 l2 l3 G65 Q))))) ∧ (¬ (r59 = 0) → PX13_bodyOf_193 J l1 l2 l3 G58 Q)))) ∧ (¬ (G 16116 l2 = 2) → PX13_bodyOf_193 J l1 l2 l3 G Q))))))))))
def PX13_bodyOf_94 (J : Nat → List Int → gS → (Int → gS → Prop) → Prop) (l1 : Int) (l2 : Int) (G : gS) (Q : Int → gS → Prop) : Prop :=
  Q 0 G
def PX13_bodyOf_35 (J : Nat → List Int → gS → (Int → gS → Prop) → Prop) (l1 : Int) (l2 : Int) (s0 : Int) (s1 : Int) (G : gS) (Q : Int → gS → Prop) : Prop :=
  (isO W0 13 (s0) ∧ ((0 ≤ s1 ∧ s1 ≤ 1) ∧ (∀ G13 : gS, G13 = uG G s0 111 (s1) → (∀ G14 : gS, G14 = uG G13 16081 114 (0) → (∀ G15 : gS, G15 = uG G14 16081 108 (0) → ((0 : Int) ≤ l2 ∧ ((l2 : Int) < 7344 ∧ (inI (G15 16116 l2) → ((G15 16116 l2 = 0 → ((0 : Int) ≤ l2 ∧ ((l2 : Int) < 7344 ∧ (inI (G15 16134 l2) → ((G15 16134 l2 = -2 → PX13_bodyOf_94 J l1 l2 G15 Q) ∧ (¬ (G15 16134 l2 = -2) → ((0 : Int) ≤ l2 ∧ ((l2 : Int) < 7344 ∧ (inI (G15 16134 l2) → ((0 : Int) ≤ l2 ∧ ((l2 : Int) < 7344 ∧ (inI (G15 16134 l2) → Rq13 200 1 [G15 16134 l2] G15 (fun r31 G30 => inL r31 → ((0 : Int) ≤ l2 ∧ ((l2 : Int) < 7344 ∧ (inL (G30 16127 l2) → PX13_wanted (G15 16134 l2) r31 (G30 16127 l2) G30 (fun _ G36 => PX13_bodyOf_94 J l1 l2 G36 Q))))))))))))))))) ∧ (¬ (G15 16116 l2 = 0) → PX13_bodyOf_97 J l1 l2 0 G15 Q))))))))))
def PX13_bodyOf_30 (J : Nat → List Int → gS → (Int → gS → Prop) → Prop) (l1 : Int) (l2 : Int) (s0 : Int) (G : gS) (Q : Int → gS → Prop) : Prop :=
  PX13_bodyOf_35 J l1 l2 s0 1 G Q
def PX13_bodyOf_0 (J : Nat → List Int → gS → (Int → gS → Prop) → Prop) (a1 : Int) (a2 : Int) (G : gS) (Q : Int → gS → Prop) : Prop :=
  (∀ G1 : gS, G1 = uG G 16081 109 (a1) → (∀ G2 : gS, G2 = uG G1 16081 110 (a2) → ((0 : Int) ≤ a2 ∧ ((a2 : Int) < 7344 ∧ ((0 ≤ G2 16119 a2 ∧ G2 16119 a2 ≤ 1) → ((G2 16119 a2 = 0 → ((0 : Int) ≤ a2 ∧ ((a2 : Int) < 7344 ∧ (inI (G2 16116 a2) → ((G2 16116 a2 = 3 → PX13_bodyOf_30 J a1 a2 16081 G2 Q) ∧ (¬ (G2 16116 a2 = 3) → PX13_bodyOf_35 J a1 a2 16081 0 G2 Q)))))) ∧ (¬ (G2 16119 a2 = 0) → PX13_bodyOf_30 J a1 a2 16081 G2 Q)))))))
def PX13_bodyOf_J : Nat → Nat → List Int → gS → (Int → gS → Prop) → Prop
  | 0, _, _, _, _ => False
  | f + 1, h, L, G, Q => match h, L with
    | 0, [l1, l2, l3] => PX13_bodyOf_97 (PX13_bodyOf_J f) l1 l2 l3 G Q
    | _, _ => False
def PX13_bodyOf (a1 : Int) (a2 : Int) (G : gS) (Q : Int → gS → Prop) : Prop := ∃ f : Nat, f ≤ 4000000000 ∧ PX13_bodyOf_0 (PX13_bodyOf_J f) a1 a2 G Q
def PX13_bodies_88 (J : Nat → List Int → gS → (Int → gS → Prop) → Prop) (l1 : Int) (G : gS) (Q : Int → gS → Prop) : Prop :=
  Q 0 G
def PX13_bodies_82 (J : Nat → List Int → gS → (Int → gS → Prop) → Prop) (l1 : Int) (l2 : Int) (l3 : Int) (G : gS) (Q : Int → gS → Prop) : Prop :=
  (inI (l1 + 1) ∧ J 0 [l1 + 1] G Q)
def PX13_bodies_76 (J : Nat → List Int → gS → (Int → gS → Prop) → Prop) (l1 : Int) (l2 : Int) (l3 : Int) (G : gS) (Q : Int → gS → Prop) : Prop :=
  (inI (l3 + 1) ∧ J 1 [l1, l2, l3 + 1] G Q)
def PX13_bodies_34 (J : Nat → List Int → gS → (Int → gS → Prop) → Prop) (l1 : Int) (l2 : Int) (l3 : Int) (G : gS) (Q : Int → gS → Prop) : Prop :=
  ((0 : Int) ≤ l2 ∧ ((l2 : Int) < 216 ∧ (inI (G 16115 l2) → ((l3 < G 16115 l2 → (inI (G 16081 20) → ((G 16081 20 = 0 → ((0 : Int) ≤ (l2 * 34) + l3 ∧ (((l2 * 34) + l3 : Int) < 7344 ∧ ((0 ≤ G 16123 ((l2 * 34) + l3) ∧ G 16123 ((l2 * 34) + l3) ≤ 1) → ((G 16123 ((l2 * 34) + l3) = 0 → (inI ((l2 * 34) + l3) ∧ PX13_bodyOf l2 ((l2 * 34) + l3) G (fun _ G21 => PX13_bodies_76 J l1 l2 l3 G21 Q))) ∧ (¬ (G 16123 ((l2 * 34) + l3) = 0) → PX13_bodies_76 J l1 l2 l3 G Q)))))) ∧ (¬ (G 16081 20 = 0) → PX13_bodies_82 J l1 l2 l3 G Q)))) ∧ (¬ (l3 < G 16115 l2) → PX13_bodies_82 J l1 l2 l3 G Q)))))
def PX13_bodies_2 (J : Nat → List Int → gS → (Int → gS → Prop) → Prop) (l1 : Int) (G : gS) (Q : Int → gS → Prop) : Prop :=
  (inI (G 16081 19) → ((0 : Int) ≤ G 16081 19 ∧ ((G 16081 19 : Int) < 18 ∧ (inI (G 16097 (G 16081 19)) → ((l1 < G 16097 (G 16081 19) → (inI (G 16081 20) → ((G 16081 20 = 0 → (inI (G 16081 19) → (inI (((G 16081 19) * 12) + l1) ∧ PX13_bodies_34 J l1 (((G 16081 19) * 12) + l1) 0 G Q))) ∧ (¬ (G 16081 20 = 0) → PX13_bodies_88 J l1 G Q)))) ∧ (¬ (l1 < G 16097 (G 16081 19)) → PX13_bodies_88 J l1 G Q))))))
def PX13_bodies_0 (J : Nat → List Int → gS → (Int → gS → Prop) → Prop)  (G : gS) (Q : Int → gS → Prop) : Prop :=
  PX13_bodies_2 J 0 G Q
def PX13_bodies_J : Nat → Nat → List Int → gS → (Int → gS → Prop) → Prop
  | 0, _, _, _, _ => False
  | f + 1, h, L, G, Q => match h, L with
    | 0, [l1] => PX13_bodies_2 (PX13_bodies_J f) l1 G Q
    | 1, [l1, l2, l3] => PX13_bodies_34 (PX13_bodies_J f) l1 l2 l3 G Q
    | _, _ => False
def PX13_bodies  (G : gS) (Q : Int → gS → Prop) : Prop := ∃ f : Nat, f ≤ 4000000000 ∧ PX13_bodies_0 (PX13_bodies_J f)  G Q
def PX13_copies_86 (R : Nat → List Int → gS → (Int → gS → Prop) → Prop) (J : Nat → List Int → gS → (Int → gS → Prop) → Prop) (l1 : Int) (l2 : Int) (l3 : Int) (G : gS) (Q : Int → gS → Prop) : Prop :=
  (inI (G 16081 108) → ((l2 < G 16081 108 → (inI (G 16081 108) → (inI ((G 16081 108) - 1) ∧ (∀ G38 : gS, G38 = uG G 16081 108 ((G 16081 108) - 1) → (inI (G38 16081 108) → ((0 : Int) ≤ G38 16081 108 ∧ ((G38 16081 108 : Int) < 1704 ∧ (inI (G38 16173 (G38 16081 108)) → ((0 : Int) ≤ G38 16173 (G38 16081 108) ∧ ((G38 16173 (G38 16081 108) : Int) < 30600 ∧ (inI (G38 16144 (G38 16173 (G38 16081 108))) → PX13_isTwo (G38 16144 (G38 16173 (G38 16081 108))) G38 (fun r47 G46 => (0 ≤ r47 ∧ r47 ≤ 1) → ((r47 = 0 → J 1 [l1, l2, G38 16173 (G38 16081 108)] G46 Q) ∧ (¬ (r47 = 0) → ((0 : Int) ≤ G38 16173 (G38 16081 108) ∧ ((G38 16173 (G38 16081 108) : Int) < 30600 ∧ (inI (G46 16152 (G38 16173 (G38 16081 108))) → R 0 [G46 16152 (G38 16173 (G38 16081 108))] G46 (fun _ G53 => J 1 [l1, l2, G38 16173 (G38 16081 108)] G53 Q)))))))))))))))))) ∧ (¬ (l2 < G 16081 108) → Q 0 G)))
def PX13_copies_80 (R : Nat → List Int → gS → (Int → gS → Prop) → Prop) (J : Nat → List Int → gS → (Int → gS → Prop) → Prop) (l1 : Int) (l2 : Int) (l3 : Int) (G : gS) (Q : Int → gS → Prop) : Prop :=
  PX13_copyOf l3 G (fun r32 G31 => inI r32 → PX13_copies_86 R J l1 l2 l3 G31 Q)
def PX13_copies_30 (R : Nat → List Int → gS → (Int → gS → Prop) → Prop) (J : Nat → List Int → gS → (Int → gS → Prop) → Prop) (l1 : Int) (l2 : Int) (l3 : Int) (G : gS) (Q : Int → gS → Prop) : Prop :=
  (inI (G 16081 108) → ((0 : Int) ≤ G 16081 108 ∧ ((G 16081 108 : Int) < 1704 ∧ (∀ G24 : gS, G24 = uG G 16173 (G 16081 108) (l3) → (inI (G24 16081 108) → (inI ((G24 16081 108) + 1) ∧ (∀ G27 : gS, G27 = uG G24 16081 108 ((G24 16081 108) + 1) → ((0 : Int) ≤ l3 ∧ ((l3 : Int) < 30600 ∧ (inI (G27 16151 l3) → J 0 [l1, l2, G27 16151 l3] G27 Q))))))))))
def PX13_copies_7 (R : Nat → List Int → gS → (Int → gS → Prop) → Prop) (J : Nat → List Int → gS → (Int → gS → Prop) → Prop) (l1 : Int) (l2 : Int) (l3 : Int) (G : gS) (Q : Int → gS → Prop) : Prop :=
  ((0 : Int) ≤ l3 ∧ ((l3 : Int) < 30600 ∧ (inI (G 16144 l3) → PX13_isTwo (G 16144 l3) G (fun r6 G5 => (0 ≤ r6 ∧ r6 ≤ 1) → ((r6 = 0 → ((0 : Int) ≤ l3 ∧ ((l3 : Int) < 30600 ∧ (inI (G5 16144 l3) → ((G5 16144 l3 = 11 → PX13_copies_30 R J l1 l2 l3 G5 Q) ∧ (¬ (G5 16144 l3 = 11) → ((0 : Int) ≤ l3 ∧ ((l3 : Int) < 30600 ∧ (inI (G5 16144 l3) → ((G5 16144 l3 = 3 → PX13_copies_80 R J l1 l2 l3 G5 Q) ∧ (¬ (G5 16144 l3 = 3) → ((0 : Int) ≤ l3 ∧ ((l3 : Int) < 30600 ∧ (inI (G5 16144 l3) → ((G5 16144 l3 = 5 → PX13_copies_80 R J l1 l2 l3 G5 Q) ∧ (¬ (G5 16144 l3 = 5) → PX13_copies_86 R J l1 l2 l3 G5 Q)))))))))))))))) ∧ (¬ (r6 = 0) → PX13_copies_30 R J l1 l2 l3 G5 Q))))))
def PX13_copies_0 (R : Nat → List Int → gS → (Int → gS → Prop) → Prop) (J : Nat → List Int → gS → (Int → gS → Prop) → Prop) (a1 : Int) (G : gS) (Q : Int → gS → Prop) : Prop :=
  (inI (G 16081 108) → PX13_copies_7 R J a1 (G 16081 108) a1 G Q)
def PX13_copies_J (R : Nat → List Int → gS → (Int → gS → Prop) → Prop) : Nat → Nat → List Int → gS → (Int → gS → Prop) → Prop
  | 0, _, _, _, _ => False
  | f + 1, h, L, G, Q => match h, L with
    | 0, [l1, l2, l3] => PX13_copies_7 R (PX13_copies_J R f) l1 l2 l3 G Q
    | 1, [l1, l2, l3] => PX13_copies_86 R (PX13_copies_J R f) l1 l2 l3 G Q
    | _, _ => False
def PX13_copies (R : Nat → List Int → gS → (Int → gS → Prop) → Prop) (a1 : Int) (G : gS) (Q : Int → gS → Prop) : Prop := ∃ f : Nat, f ≤ 4000000000 ∧ PX13_copies_0 R (PX13_copies_J R f) a1 G Q
def Rq15 : Nat → Nat → List Int → gS → (Int → gS → Prop) → Prop
  | 0, _, _, _, _ => False
  | n + 1, i, L, G, Q => match i, L with
    | 0, [a1] => PX13_copies (Rq15 n) a1 G Q
    | _, _ => False
def PX13_usesArgs_5 (R : Nat → List Int → gS → (Int → gS → Prop) → Prop) (J : Nat → List Int → gS → (Int → gS → Prop) → Prop) (l1 : Int) (l2 : Int) (l3 : Int) (l4 : Int) (G : gS) (Q : Int → gS → Prop) : Prop :=
  ((l4 = -2 → Q 0 G) ∧ (¬ (l4 = -2) → R 1 [l4] G (fun _ G2 => ((0 : Int) ≤ (4 * l2) + l3 ∧ (((4 * l2) + l3 : Int) < 122400 ∧ (inL (G2 16160 ((4 * l2) + l3)) → PX13_fit l4 (G2 16160 ((4 * l2) + l3)) G2 (fun _ G7 => (inI (l3 + 1) ∧ ((0 : Int) ≤ l4 ∧ ((l4 : Int) < 30600 ∧ (inI (G7 16154 l4) → J 0 [l1, l2, l3 + 1, G7 16154 l4] G7 Q)))))))))))
def PX13_usesArgs_0 (R : Nat → List Int → gS → (Int → gS → Prop) → Prop) (J : Nat → List Int → gS → (Int → gS → Prop) → Prop) (a1 : Int) (a2 : Int) (G : gS) (Q : Int → gS → Prop) : Prop :=
  PX13_usesArgs_5 R J a1 a2 0 a1 G Q
def PX13_usesArgs_J (R : Nat → List Int → gS → (Int → gS → Prop) → Prop) : Nat → Nat → List Int → gS → (Int → gS → Prop) → Prop
  | 0, _, _, _, _ => False
  | f + 1, h, L, G, Q => match h, L with
    | 0, [l1, l2, l3, l4] => PX13_usesArgs_5 R (PX13_usesArgs_J R f) l1 l2 l3 l4 G Q
    | _, _ => False
def PX13_usesArgs (R : Nat → List Int → gS → (Int → gS → Prop) → Prop) (a1 : Int) (a2 : Int) (G : gS) (Q : Int → gS → Prop) : Prop := ∃ f : Nat, f ≤ 4000000000 ∧ PX13_usesArgs_0 R (PX13_usesArgs_J R f) a1 a2 G Q
def PX13_usesE_98 (R : Nat → List Int → gS → (Int → gS → Prop) → Prop) (J : Nat → List Int → gS → (Int → gS → Prop) → Prop) (l1 : Int) (l2 : Int) (l3 : Int) (G : gS) (Q : Int → gS → Prop) : Prop :=
  (inI (G 16081 108) → ((l2 < G 16081 108 → (inI (G 16081 108) → (inI ((G 16081 108) - 1) ∧ (∀ G41 : gS, G41 = uG G 16081 108 ((G 16081 108) - 1) → (inI (G41 16081 108) → ((0 : Int) ≤ G41 16081 108 ∧ ((G41 16081 108 : Int) < 1704 ∧ (inI (G41 16173 (G41 16081 108)) → ((0 : Int) ≤ G41 16173 (G41 16081 108) ∧ ((G41 16173 (G41 16081 108) : Int) < 30600 ∧ (inI (G41 16144 (G41 16173 (G41 16081 108))) → PX13_isTwo (G41 16144 (G41 16173 (G41 16081 108))) G41 (fun r50 G49 => (0 ≤ r50 ∧ r50 ≤ 1) → ((r50 = 0 → ((0 : Int) ≤ G41 16173 (G41 16081 108) ∧ ((G41 16173 (G41 16081 108) : Int) < 30600 ∧ (inI (G49 16144 (G41 16173 (G41 16081 108))) → ((G49 16144 (G41 16173 (G41 16081 108)) = 12 → PX13_fieldUse (G41 16173 (G41 16081 108)) 3 G49 (fun r58 G57 => inI r58 → ((0 : Int) ≤ G41 16173 (G41 16081 108) ∧ ((G41 16173 (G41 16081 108) : Int) < 30600 ∧ (∀ G62 : gS, G62 = uG G57 16161 (G41 16173 (G41 16081 108)) (r58) → J 1 [l1, l2, G41 16173 (G41 16081 108)] G62 Q))))) ∧ (¬ (G49 16144 (G41 16173 (G41 16081 108)) = 12) → ((0 : Int) ≤ G41 16173 (G41 16081 108) ∧ ((G41 16173 (G41 16081 108) : Int) < 30600 ∧ (inI (G49 16144 (G41 16173 (G41 16081 108))) → ((G49 16144 (G41 16173 (G41 16081 108)) = 13 → ((0 : Int) ≤ G41 16173 (G41 16081 108) ∧ ((G41 16173 (G41 16081 108) : Int) < 30600 ∧ (inI (G49 16152 (G41 16173 (G41 16081 108))) → R 0 [G49 16152 (G41 16173 (G41 16081 108)), G41 16173 (G41 16081 108)] G49 (fun _ G70 => PX13_callUse (G41 16173 (G41 16081 108)) G70 (fun r73 G72 => inI r73 → ((0 : Int) ≤ G41 16173 (G41 16081 108) ∧ ((G41 16173 (G41 16081 108) : Int) < 30600 ∧ (∀ G77 : gS, G77 = uG G72 16161 (G41 16173 (G41 16081 108)) (r73) → J 1 [l1, l2, G41 16173 (G41 16081 108)] G77 Q))))))))) ∧ (¬ (G49 16144 (G41 16173 (G41 16081 108)) = 13) → ((0 : Int) ≤ G41 16173 (G41 16081 108) ∧ ((G41 16173 (G41 16081 108) : Int) < 30600 ∧ (inI (G49 16144 (G41 16173 (G41 16081 108))) → ((G49 16144 (G41 16173 (G41 16081 108)) = 14 → ((0 : Int) ≤ G41 16173 (G41 16081 108) ∧ ((G41 16173 (G41 16081 108) : Int) < 30600 ∧ (inL (G49 16149 (G41 16173 (G41 16081 108))) → PX13_useFor 14 (G49 16149 (G41 16173 (G41 16081 108))) 0 0 G49 (fun r86 G85 => inI r86 → ((0 : Int) ≤ G41 16173 (G41 16081 108) ∧ ((G41 16173 (G41 16081 108) : Int) < 30600 ∧ (∀ G90 : gS, G90 = uG G85 16161 (G41 16173 (G41 16081 108)) (r86) → J 1 [l1, l2, G41 16173 (G41 16081 108)] G90 Q)))))))) ∧ (¬ (G49 16144 (G41 16173 (G41 16081 108)) = 14) → J 1 [l1, l2, G41 16173 (G41 16081 108)] G49 Q)))))))))))))))) ∧ (¬ (r50 = 0) → ((0 : Int) ≤ G41 16173 (G41 16081 108) ∧ ((G41 16173 (G41 16081 108) : Int) < 30600 ∧ (inI (G49 16152 (G41 16173 (G41 16081 108))) → R 1 [G49 16152 (G41 16173 (G41 16081 108))] G49 (fun _ G94 => J 1 [l1, l2, G41 16173 (G41 16081 108)] G94 Q)))))))))))))))))) ∧ (¬ (l2 < G 16081 108) → Q 0 G)))
def PX13_usesE_63 (R : Nat → List Int → gS → (Int → gS → Prop) → Prop) (J : Nat → List Int → gS → (Int → gS → Prop) → Prop) (l1 : Int) (l2 : Int) (l3 : Int) (G : gS) (Q : Int → gS → Prop) : Prop :=
  (inI (G 16081 108) → ((0 : Int) ≤ G 16081 108 ∧ ((G 16081 108 : Int) < 1704 ∧ (∀ G30 : gS, G30 = uG G 16173 (G 16081 108) (l3) → (inI (G30 16081 108) → (inI ((G30 16081 108) + 1) ∧ (∀ G33 : gS, G33 = uG G30 16081 108 ((G30 16081 108) + 1) → ((0 : Int) ≤ l3 ∧ ((l3 : Int) < 30600 ∧ (inI (G33 16151 l3) → J 0 [l1, l2, G33 16151 l3] G33 Q))))))))))
end DE

section SP
-- THE PICTURE, 1: which tokens make an E, an S. tk: the kinds of tokens as the class has them. A result: the FAULT (0: none), and where it ends, or the token at fault
abbrev RR : Type := Int × Int
def ptake (a : Int) : RR := if 700 ≤ a then (3, a) else (0, a + 1)
def pb (r : RR) (f : Int → RR) : RR := if r.1 = 0 then f r.2 else r
variable (tk : Int → Int)
def pmiss (a : Int) : RR := (if tk a = 1 then 1 else 2, a)
def pneed (w a : Int) : RR := if tk a = w then ptake a else pmiss tk a
def bE (a : Int) : Bool := tk a == 4 || (tk a == 3 || (tk a == 2 || (tk a == 36 || (tk a == 37 || (tk a == 38 || (tk a == 25 || tk a == 140))))))
def bS (a : Int) : Bool := bE tk a || (tk a == 223 || (tk a == 27 || (tk a == 28 || (tk a == 30 || (tk a == 31 || (tk a == 32 || (tk a == 33 || tk a == 35)))))))
-- ARGS behind their (, from the first E on
def pargsL (eE : Int → RR) : Nat → Int → RR
  | 0, a => (9, a)
  | f + 1, a => pb (eE a) fun b => if tk b = 144 then pb (ptake b) (pargsL eE f) else pneed tk 141 b
def pargs (eE : Int → RR) (a : Int) : RR := pb (pneed tk 140 a) fun b => if tk b = 141 then ptake b else pargsL tk eE 702 b
-- . NAME ( ARGS ) behind super
def psuper (eE : Int → RR) (a : Int) : RR := pb (pneed tk 146 a) fun b => pb (pneed tk 3 b) (pargs tk eE)
def pround (eE cU : Int → RR) (a : Int) : RR := if tk a = 2 ∧ tk (a + 1) = 141 then pb (ptake a) fun b => pb (ptake b) cU else pb (eE a) (pneed tk 141)
def pclass (eE : Int → RR) (a : Int) : RR := pb (pneed tk 146 a) fun b => if tk b = 38 then pb (ptake b) (psuper tk eE) else pb (pneed tk 3 b) fun c => if tk c = 140 then pargs tk eE c else (0, c)
def pfront (eE cU : Int → RR) (a : Int) : RR := if bE tk a then pb (ptake a) fun b =>
    if tk a = 4 ∨ tk a = 36 ∨ tk a = 37 then (0, b)
    else if tk a = 3 then (if tk b = 140 then pargs tk eE b else (0, b))
    else if tk a = 2 then pclass tk eE b
    else if tk a = 38 then psuper tk eE b
    else if tk a = 25 then pb (pneed tk 2 b) (pargs tk eE)
    else pround tk eE cU b
  else pmiss tk a
-- what stands behind it: . NAME, . NAME ( ARGS ), ask C
def ptail (eE : Int → RR) : Nat → Int → RR
  | 0, a => (9, a)
  | f + 1, a => if tk a = 146 then pb (ptake a) fun b => pb (pneed tk 3 b) fun c => if tk c = 140 then pb (pargs tk eE c) (ptail eE f) else ptail eE f c
    else if tk a = 39 then pb (ptake a) fun b => pb (pneed tk 2 b) (ptail eE f) else (0, a)
def punit (eE cU : Int → RR) (a : Int) : RR := pb (pfront tk eE cU a) (ptail tk eE 702)
def pprodL (uU : Int → RR) : Nat → Int → RR
  | 0, a => (9, a)
  | f + 1, a => if tk a = 142 then pb (ptake a) fun b => pb (uU b) (pprodL uU f) else (0, a)
def pprod (uU : Int → RR) (a : Int) : RR := pb (uU a) (pprodL tk uU 702)
def psumL (uU : Int → RR) : Nat → Int → RR
  | 0, a => (9, a)
  | f + 1, a => if tk a = 143 ∨ tk a = 145 then pb (ptake a) fun b => pb (pprod tk uU b) (psumL uU f) else (0, a)
def psum (uU : Int → RR) (a : Int) : RR := pb (pprod tk uU a) (psumL tk uU 702)
def pexpr (uU : Int → RR) (a : Int) : RR := if bE tk a then pb (psum tk uU a) fun b => if tk b = 160 ∨ tk b = 99 then pb (ptake b) (psum tk uU) else (0, b) else pmiss tk a
def pdeep (a : Int) : RR := if bE tk a then (3, a) else pmiss tk a
-- E and UNIT within 12 - D others
def pEU : Nat → (Int → RR) × (Int → RR)
  | 0 => (pdeep tk, punit tk (pdeep tk) (pdeep tk))
  | D + 1 => (pexpr tk (pEU D).2, punit tk (pexpr tk (pEU D).2) (pEU D).2)
def pE (D : Nat) (a : Int) : RR := (pEU tk D).1 a
def pU (D : Nat) (a : Int) : RR := (pEU tk D).2 a
theorem pE_0 (a : Int) : pE tk 0 a = pdeep tk a := rfl
theorem pE_s (D : Nat) (a : Int) : pE tk (D + 1) a = pexpr tk (pU tk D) a := rfl
theorem pU_0 (a : Int) : pU tk 0 a = punit tk (pE tk 0) (pdeep tk) a := rfl
theorem pU_s (D : Nat) (a : Int) : pU tk (D + 1) a = punit tk (pE tk (D + 1)) (pU tk D) a := rfl
-- S and BLOCK
def pstmts (sS : Int → RR) : Nat → Int → RR
  | 0, a => (9, a)
  | f + 1, a => if tk a = 225 then ptake a else pb (sS a) (pstmts sS f)
def pblock (sS : Int → RR) (a : Int) : RR := if tk a = 223 then pb (ptake a) (pstmts tk sS 702) else pmiss tk a
def ptype (a : Int) : RR := if tk a = 26 ∨ tk a = 2 then ptake a else pmiss tk a
def pworded (eE sS bB : Int → RR) (w a : Int) : RR :=
  if w = 28 ∨ w = 30 then pb (pneed tk 140 a) fun b => pb (eE b) fun c => pb (pneed tk 141 c) fun d => pb (sS d) fun e => if w = 28 ∧ tk e = 29 then pb (ptake e) sS else (0, e)
  else if w = 33 then pb (bB a) fun b => pb (pneed tk 34 b) fun c => pb (pneed tk 140 c) fun d => pb (pneed tk 2 d) fun e => pb (pneed tk 3 e) fun g => pb (pneed tk 141 g) bB
  else if w = 27 then pb (ptype tk a) fun b => pb (pneed tk 3 b) fun c => pb (pneed tk 161 c) fun d => pb (eE d) (pneed tk 159)
  else if w = 31 ∧ tk a = 159 then ptake a
  else pb (eE a) (pneed tk 159)
def pstat (eE sS bB bN : Int → RR) (a : Int) : RR := if bS tk a then
    if tk a = 223 then bN a
    else if tk a = 38 ∧ tk (a + 1) = 140 then pb (ptake a) fun b => pb (pargs tk eE b) (pneed tk 159)
    else if bE tk a then pb (eE a) fun b => if tk b = 161 then pb (ptake b) fun c => pb (eE c) (pneed tk 159) else pneed tk 159 b
    else pb (ptake a) (pworded tk eE sS bB (tk a))
  else pmiss tk a
def pSB : Nat → (Int → RR) × (Int → RR)
  | 0 => (fun a => if bS tk a then (3, a) else pmiss tk a, fun a => if tk a = 223 then (3, a) else pmiss tk a)
  | D + 1 => (pstat tk (pE tk D) (pSB D).1 (pSB D).2 (pblock tk (pSB D).1), pblock tk (pSB D).1)
def pS (D : Nat) (a : Int) : RR := (pSB tk D).1 a
def pB (D : Nat) (a : Int) : RR := (pSB tk D).2 a
theorem pS_s (D : Nat) (a : Int) : pS tk (D + 1) a = pstat tk (pE tk D) (pS tk D) (pB tk D) (pB tk (D + 1)) a := rfl
theorem pB_s (D : Nat) (a : Int) : pB tk (D + 1) a = pblock tk (pS tk D) a := rfl
end SP

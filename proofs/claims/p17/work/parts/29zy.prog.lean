/-! texts as a small machine reads them, and programs: what they are (moved here from 80, 90, 92, 9b, 9c) -/
def iv (M : Mem) (c i : Nat) : Int32 := match mSlot M c i with
  | some (.int x) => x
  | _ => 0
/-- place, open, codes, waiting; the codes; what waits -/
abbrev PS : Type := (Int × Int × Nat × Nat) × (Nat → Int) × (Nat → Int)
def pUp (f : Nat → Int) (i : Nat) (v : Int) : Nat → Int := fun k => if k = i then v else f k
def pAdv (r : PS) : PS := ((r.1.1 + 1, r.1.2), r.2)
def pEm (r : PS) (v : Int) : PS := ((r.1.1, r.1.2.1, r.1.2.2.1 + 1, r.1.2.2.2), pUp r.2.1 r.1.2.2.1 v, r.2.2)
def pPush (r : PS) (w : Int) : PS := ((r.1.1, r.1.2.1, r.1.2.2.1, r.1.2.2.2 + 1), r.2.1, pUp r.2.2 r.1.2.2.2 w)
def pPop (r : PS) : PS := ((r.1.1, r.1.2.1, r.1.2.2.1, r.1.2.2.2 - 1), r.2)
def pOpn (r : PS) (k : Int) : PS := ((r.1.1, r.1.2.1 + k, r.1.2.2), r.2)
/-- a jump that waits lands here -/
def pLand (r : PS) (op : Int) : PS := (r.1, pUp r.2.1 ((r.2.2 (r.1.2.2.2 - 1)) - op * 1048576).toNat (op * 1048576 + (r.1.2.2.1 : Int)), r.2.2)
def pTop (r : PS) : Int := if r.1.2.2.2 = 0 then -1 else r.2.2 (r.1.2.2.2 - 1) / 1048576
/-- an open [ waits from the base on -/
def pHas (r : PS) (b : Nat) : Nat → Bool
  | 0 => false
  | k + 1 => pHas r b k || (decide (b ≤ k) && decide (r.2.2 k / 1048576 = 14))
def cSum (c : Int) : Int := if c = 43 then 2 else if c = 45 then 3 else if c = 42 then 4 else if c = 47 then 5 else if c = 37 then 6 else -1
def cFact (c : Int) : Int := if c = 110 then 0 else if c = 102 then 1 else if c = 99 then 2 else if c = 117 then 3 else if c = 118 then 4 else if c = 112 then 5 else if c = 103 then 6 else if c = 120 then 7 else if c = 107 then 8 else if c = 119 then 9 else if c = 105 then 10 else if c = 113 then 11 else if c = 104 then 12 else if c = 116 then 13 else -1
def cDig (c : Int) : Bool := decide (48 ≤ c) && decide (c ≤ 57)
/-- digits from a place on, five at most: their number; what they say -/
def dgN (t : Int → Int) (p : Int) : Nat → Nat
  | 0 => 0
  | k + 1 => if cDig (t p) = true then dgN t (p + 1) k + 1 else 0
def dgV (t : Int → Int) (p : Int) : Nat → Int
  | 0 => 0
  | k + 1 => dgV t p k * 10 + (t (p + k) - 48)
/-- what it is at: 0 a factor, 1 behind one, 2 a piece, 3 behind one, 4 behind its !s, 7 done, 8 a fault; the base of the sum; what the sum is for: 0 a span, 1 the left side, 7 8 9 the right side -/
abbrev CF : Type := Nat × Nat × Int × PS
def cBad (k : Int) (r : PS) : CF := (8, 0, -1000 * k - r.1.1, r)
def sF (t : Int → Int) (b : Nat) (h : Int) (r : PS) : CF :=
  if t r.1.1 = 91 then (if r.1.2.1 = 6 then cBad 5 r else (0, b, h, pAdv (pOpn (pPush r 14680064) 1)))
  else if cDig (t r.1.1) = true then (if cDig (t (r.1.1 + 5)) = true ∧ dgN t r.1.1 5 = 5 then cBad 2 ((r.1.1 + 5, r.1.2), r.2) else (1, b, h, pEm ((r.1.1 + dgN t r.1.1 5, r.1.2), r.2) (dgV t r.1.1 (dgN t r.1.1 5))))
  else if cFact (t r.1.1) = -1 then cBad 1 r else (1, b, h, pAdv (pEm r (1048576 + cFact (t r.1.1))))
def sA (t : Int → Int) (b : Nat) (h : Int) (r : PS) : CF :=
  if 4 ≤ pTop r ∧ pTop r ≤ 6 then (1, b, h, pPop (pEm r (pTop r * 1048576)))
  else if (pTop r = 2 ∨ pTop r = 3) ∧ cSum (t r.1.1) < 4 then (1, b, h, pPop (pEm r (pTop r * 1048576)))
  else if cSum (t r.1.1) ≠ -1 then (0, b, h, pAdv (pPush r (cSum (t r.1.1) * 1048576)))
  else if t r.1.1 = 93 ∧ pHas r b r.1.2.2.2 = true then (1, b, h, pAdv (pOpn (pPop r) (-1)))
  else if pHas r b r.1.2.2.2 = true then cBad 1 r
  else if h = 0 then (7, b, h, r)
  else if h = 1 then (if t r.1.1 = 60 then (0, r.1.2.2.2, 7, pAdv r) else if t r.1.1 = 62 then (0, r.1.2.2.2, 8, pAdv r) else if t r.1.1 = 61 then (0, r.1.2.2.2, 9, pAdv r) else cBad 1 r)
  else (3, 0, 0, pEm r (h * 1048576))
def sP (t : Int → Int) (r : PS) : CF :=
  if t r.1.1 = 33 then (if r.1.2.1 = 6 then cBad 5 r else (2, 0, 0, pAdv (pOpn (pPush r 10485760) 1)))
  else if t r.1.1 = 40 then (if r.1.2.1 = 6 then cBad 5 r else (2, 0, 0, pAdv (pOpn (pPush r 13631488) 1)))
  else (0, r.1.2.2.2, 1, r)
def sE (r : PS) : CF := if pTop r = 10 then (3, 0, 0, pOpn (pPop (pEm r 10485760)) (-1)) else (4, 0, 0, r)
def sQ (t : Int → Int) (r : PS) : CF :=
  if pTop r = 11 then (4, 0, 0, pPop (pLand r 11))
  else if pTop r = 12 ∧ t r.1.1 ≠ 38 then (4, 0, 0, pPop (pLand r 12))
  else if t r.1.1 = 41 then (if r.1.2.2.2 = 1 then (7, 0, 0, pAdv (pOpn (pPop r) (-1))) else (3, 0, 0, pAdv (pOpn (pPop r) (-1))))
  else if t r.1.1 = 38 then (2, 0, 0, pAdv (pEm (pPush r (11534336 + (r.1.2.2.1 : Int))) 11534336))
  else if t r.1.1 = 124 then (2, 0, 0, pAdv (pEm (pPush r (12582912 + (r.1.2.2.1 : Int))) 12582912))
  else cBad 1 r
def sm (t : Int → Int) (c : CF) : CF := match c.1 with
  | 0 => sF t c.2.1 c.2.2.1 c.2.2.2
  | 1 => sA t c.2.1 c.2.2.1 c.2.2.2
  | 2 => sP t c.2.2.2
  | 3 => sE c.2.2.2
  | 4 => sQ t c.2.2.2
  | _ => c
def smN (t : Int → Int) : Nat → CF → CF
  | 0, c => c
  | k + 1, c => smN t k (sm t c)
def Rch (t : Int → Int) (c c' : CF) : Prop := ∃ k, smN t k c = c'
def clF (a : Int) : Int := if a = 0 then 13 else if a = 1 then 5 else if a = 2 then 2 else if a = 3 then 20 else if a = 4 then 21 else if a = 5 then 15 else if a = 6 then 6 else if a = 7 then 23 else if a = 8 then 10 else if a = 9 then 22 else if a = 10 then 8 else if a = 11 then 16 else if a = 12 then 7 else 19
/-- the sign of a code: digits, letters, + - * / % < > = ! & | -/
def sgC (op : Int) : Int := if op = 0 then 48 else if op = 1 then 97 else if op = 2 then 43 else if op = 3 then 45 else if op = 4 then 42 else if op = 5 then 47 else if op = 6 then 37 else if op = 7 then 60 else if op = 8 then 62 else if op = 9 then 61 else if op = 10 then 33 else if op = 11 then 38 else 124
/-- a code as the class writes it; its places lie sh behind the reference's -/
def encC (sh v : Int) : Int := sgC (v / 1048576) * 1048576 + (if v / 1048576 = 1 then clF (v % 1048576) else if v / 1048576 = 11 ∨ v / 1048576 = 12 then (if v % 1048576 = 0 then 0 else v % 1048576 + sh) else v % 1048576)
/-- the machine begins anew: nothing waits, nothing is open -/
def pZ (r : PS) : PS := ((r.1.1, 0, r.1.2.2.1, 0), r.2)
/-- what a clause's text is, as the machine reads it: its half, its end, its fault -/
def ClQ (t : Int → Int) (P Q : PS) : Prop := (t P.1.1 = 121 ∧ ∃ R, Rch t (0, 0, 0, pAdv P) (7, 0, 0, R) ∧ Q = pZ R) ∨ ((t P.1.1 = 98 ∨ t P.1.1 = 115) ∧ Q = pAdv P)
def ClE (t : Int → Int) (Q P' : PS) : Prop := t Q.1.1 = 40 ∧ ∃ R, Rch t (2, 0, 0, Q) (7, 0, 0, R) ∧ P' = pZ R
/-- k clauses are read, and the ; behind them: the next one begins at P -/
def RdS (t : Int → Int) (f g : Nat → Int) : Nat → PS → Prop
  | 0, P => P = ((0, 0, 0, 0), f, g)
  | k + 1, P => ∃ P0 Q P1, RdS t f g k P0 ∧ k < 12 ∧ ClQ t P0 Q ∧ ClE t Q P1 ∧ t P1.1.1 = 59 ∧ P = pAdv P1

/-! how a law's text is read, as a small machine with a stack of its own; class and reference are held against it -/
/-- place, open, codes, waiting; the codes; what waits -/
abbrev PS : Type := (Int × Int × Nat × Nat) × (Nat → Int) × (Nat → Int)
def pUp (f : Nat → Int) (i : Nat) (v : Int) : Nat → Int := fun k => if k = i then v else f k
def pAdv (r : PS) : PS := ((r.1.1 + 1, r.1.2), r.2)
def pEm (r : PS) (v : Int) : PS := ((r.1.1, r.1.2.1, r.1.2.2.1 + 1, r.1.2.2.2), pUp r.2.1 r.1.2.2.1 v, r.2.2)
def pPush (r : PS) (w : Int) : PS := ((r.1.1, r.1.2.1, r.1.2.2.1, r.1.2.2.2 + 1), r.2.1, pUp r.2.2 r.1.2.2.2 w)
def pPop (r : PS) : PS := ((r.1.1, r.1.2.1, r.1.2.2.1, r.1.2.2.2 - 1), r.2)
def pOpn (r : PS) (k : Int) : PS := ((r.1.1, r.1.2.1 + k, r.1.2.2), r.2)
/-- a jump that waits lands here -/
def pLand (r : PS) (op : Int) : PS := (r.1, pUp r.2.1 ((r.2.2 (r.1.2.2.2 - 1)) - op * 1048576).toNat (op * 1048576 + (r.1.2.2.1 : Int)), r.2.2)
def pTop (r : PS) : Int := if r.1.2.2.2 = 0 then -1 else r.2.2 (r.1.2.2.2 - 1) / 1048576
/-- an open [ waits from the base on -/
def pHas (r : PS) (b : Nat) : Nat → Bool
  | 0 => false
  | k + 1 => pHas r b k || (decide (b ≤ k) && decide (r.2.2 k / 1048576 = 14))
def cSum (c : Int) : Int := if c = 43 then 2 else if c = 45 then 3 else if c = 42 then 4 else if c = 47 then 5 else if c = 37 then 6 else -1
def cFact (c : Int) : Int := if c = 110 then 0 else if c = 102 then 1 else if c = 99 then 2 else if c = 117 then 3 else if c = 118 then 4 else if c = 112 then 5 else if c = 103 then 6 else if c = 120 then 7 else if c = 107 then 8 else if c = 119 then 9 else if c = 105 then 10 else if c = 113 then 11 else if c = 104 then 12 else if c = 116 then 13 else -1
def cDig (c : Int) : Bool := decide (48 ≤ c) && decide (c ≤ 57)
/-- digits from a place on, five at most: their number; what they say -/
def dgN (t : Int → Int) (p : Int) : Nat → Nat
  | 0 => 0
  | k + 1 => if cDig (t p) = true then dgN t (p + 1) k + 1 else 0
def dgV (t : Int → Int) (p : Int) : Nat → Int
  | 0 => 0
  | k + 1 => dgV t p k * 10 + (t (p + k) - 48)
/-- what it is at: 0 a factor, 1 behind one, 2 a piece, 3 behind one, 4 behind its !s, 7 done, 8 a fault; the base of the sum; what the sum is for: 0 a span, 1 the left side, 7 8 9 the right side -/
abbrev CF : Type := Nat × Nat × Int × PS
def cBad (k : Int) (r : PS) : CF := (8, 0, -1000 * k - r.1.1, r)
def sF (t : Int → Int) (b : Nat) (h : Int) (r : PS) : CF :=
  if t r.1.1 = 91 then (if r.1.2.1 = 6 then cBad 5 r else (0, b, h, pAdv (pOpn (pPush r 14680064) 1)))
  else if cDig (t r.1.1) = true then (if cDig (t (r.1.1 + 5)) = true ∧ dgN t r.1.1 5 = 5 then cBad 2 ((r.1.1 + 5, r.1.2), r.2) else (1, b, h, pEm ((r.1.1 + dgN t r.1.1 5, r.1.2), r.2) (dgV t r.1.1 (dgN t r.1.1 5))))
  else if cFact (t r.1.1) = -1 then cBad 1 r else (1, b, h, pAdv (pEm r (1048576 + cFact (t r.1.1))))
def sA (t : Int → Int) (b : Nat) (h : Int) (r : PS) : CF :=
  if 4 ≤ pTop r ∧ pTop r ≤ 6 then (1, b, h, pPop (pEm r (pTop r * 1048576)))
  else if (pTop r = 2 ∨ pTop r = 3) ∧ cSum (t r.1.1) < 4 then (1, b, h, pPop (pEm r (pTop r * 1048576)))
  else if cSum (t r.1.1) ≠ -1 then (0, b, h, pAdv (pPush r (cSum (t r.1.1) * 1048576)))
  else if t r.1.1 = 93 ∧ pHas r b r.1.2.2.2 = true then (1, b, h, pAdv (pOpn (pPop r) (-1)))
  else if pHas r b r.1.2.2.2 = true then cBad 1 r
  else if h = 0 then (7, b, h, r)
  else if h = 1 then (if t r.1.1 = 60 then (0, r.1.2.2.2, 7, pAdv r) else if t r.1.1 = 62 then (0, r.1.2.2.2, 8, pAdv r) else if t r.1.1 = 61 then (0, r.1.2.2.2, 9, pAdv r) else cBad 1 r)
  else (3, 0, 0, pEm r (h * 1048576))
def sP (t : Int → Int) (r : PS) : CF :=
  if t r.1.1 = 33 then (if r.1.2.1 = 6 then cBad 5 r else (2, 0, 0, pAdv (pOpn (pPush r 10485760) 1)))
  else if t r.1.1 = 40 then (if r.1.2.1 = 6 then cBad 5 r else (2, 0, 0, pAdv (pOpn (pPush r 13631488) 1)))
  else (0, r.1.2.2.2, 1, r)
def sE (r : PS) : CF := if pTop r = 10 then (3, 0, 0, pOpn (pPop (pEm r 10485760)) (-1)) else (4, 0, 0, r)
def sQ (t : Int → Int) (r : PS) : CF :=
  if pTop r = 11 then (4, 0, 0, pPop (pLand r 11))
  else if pTop r = 12 ∧ t r.1.1 ≠ 38 then (4, 0, 0, pPop (pLand r 12))
  else if t r.1.1 = 41 then (if r.1.2.2.2 = 1 then (7, 0, 0, pAdv (pOpn (pPop r) (-1))) else (3, 0, 0, pAdv (pOpn (pPop r) (-1))))
  else if t r.1.1 = 38 then (2, 0, 0, pAdv (pEm (pPush r (11534336 + (r.1.2.2.1 : Int))) 11534336))
  else if t r.1.1 = 124 then (2, 0, 0, pAdv (pEm (pPush r (12582912 + (r.1.2.2.1 : Int))) 12582912))
  else cBad 1 r
def sm (t : Int → Int) (c : CF) : CF := match c.1 with
  | 0 => sF t c.2.1 c.2.2.1 c.2.2.2
  | 1 => sA t c.2.1 c.2.2.1 c.2.2.2
  | 2 => sP t c.2.2.2
  | 3 => sE c.2.2.2
  | 4 => sQ t c.2.2.2
  | _ => c
def smN (t : Int → Int) : Nat → CF → CF
  | 0, c => c
  | k + 1, c => smN t k (sm t c)
def Rch (t : Int → Int) (c c' : CF) : Prop := ∃ k, smN t k c = c'
section
variable {t : Int → Int} {c c' c'' : CF}
theorem Rch.rf : Rch t c c := ⟨0, rfl⟩
theorem smN_add : ∀ (j k : Nat) (c : CF), smN t (j + k) c = smN t k (smN t j c)
  | 0, k, c => by rw [Nat.zero_add]; rfl
  | j + 1, k, c => by
    rw [show j + 1 + k = (j + k) + 1 by omega]
    exact smN_add j k (sm t c)
theorem Rch.tr (h1 : Rch t c c') (h2 : Rch t c' c'') : Rch t c c'' := by
  obtain ⟨j, h1⟩ := h1
  obtain ⟨k, h2⟩ := h2
  exact ⟨j + k, by rw [smN_add, h1, h2]⟩
theorem Rch.go (h : sm t c = c') (k : Rch t c' c'') : Rch t c c'' := Rch.tr ⟨1, h⟩ k
theorem smN_end : ∀ (k : Nat) {c : CF}, 7 ≤ c.1 → smN t k c = c
  | 0, _, _ => rfl
  | k + 1, c, h => by
    obtain ⟨m, q⟩ := c
    have h : 7 ≤ m := h
    obtain ⟨n, rfl⟩ : ∃ n, m = n + 5 := ⟨m - 5, by omega⟩
    exact smN_end k h
/-- an end is one alone -/
theorem Rch.one (h1 : Rch t c c') (h2 : Rch t c c'') (e1 : 7 ≤ c'.1) (e2 : 7 ≤ c''.1) : c' = c'' := by
  obtain ⟨j, h1⟩ := h1
  obtain ⟨k, h2⟩ := h2
  have a : smN t (j + k) c = c' := by rw [smN_add, h1]; exact smN_end k e1
  have b : smN t (k + j) c = c'' := by rw [smN_add, h2]; exact smN_end j e2
  rw [Nat.add_comm] at a
  exact a.symm.trans b
end

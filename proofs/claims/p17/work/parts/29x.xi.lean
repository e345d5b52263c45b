/-! what holds of the protected slots and the ghosts -/
def tPro0 (g i : Nat) : Bool := (Nat.beq g 181 && (Nat.beq i 49 || Nat.beq i 30 || Nat.beq i 31 || Nat.beq i 32)) || Nat.beq g 217 || Nat.beq g 201 || Nat.beq g 202 || (Nat.ble 203 g && Nat.ble g 215)
/-- the newly protected cells -/
def tPro9 (g i : Nat) : Bool := Nat.beq g 10 || Nat.beq g 53 || Nat.beq g 8 || Nat.beq g 51 || (Nat.ble 185 g && Nat.ble g 194) || (Nat.ble 227 g && Nat.ble g 235) || Nat.beq g 241 || Nat.beq g 4 || Nat.beq g 182 || Nat.beq g 180 || Nat.beq g 222 || (Nat.beq g 2 && Nat.beq i 12) || (Nat.beq g 181 && Nat.beq i 68)
def tProP (g i : Nat) : Bool := ((Nat.beq g 152 || Nat.beq g 158 || Nat.beq g 164) && (Nat.beq i 5 || Nat.beq i 1)) || (Nat.ble 153 g && Nat.ble g 156) || (Nat.ble 159 g && Nat.ble g 162) || (Nat.ble 165 g && Nat.ble g 168)
def tPro10 (g i : Nat) : Bool := tProP g i || Nat.beq g 5 || Nat.beq g 6 || Nat.beq g 183 || Nat.beq g 184 || Nat.beq g 129 || Nat.beq g 99 || Nat.beq g 142 || Nat.beq g 128 || Nat.beq g 202 || (Nat.beq g 139 || Nat.beq g 140 || Nat.beq g 141 || Nat.beq g 143 || Nat.beq g 223 || Nat.beq g 224 || Nat.beq g 225 || Nat.beq g 226) || (Nat.beq g 181 && Nat.beq i 59) || ((Nat.ble 94 g && Nat.ble g 98) || (Nat.ble 111 g && Nat.ble g 115) || (Nat.ble 195 g && Nat.ble g 199) || (Nat.ble 236 g && Nat.ble g 240) || ((Nat.beq g 93 || Nat.beq g 110) && (Nat.beq i 3 || Nat.beq i 6)) || Nat.beq g 100) || (((Nat.beq g 7 || Nat.beq g 50) && Nat.beq i 2) || Nat.beq g 9 || Nat.beq g 52)
def tPro (g i : Nat) : Bool := tPro10 g i || (tPro9 g i || tPro0 g i)
def aSlK (c i : Nat) : Nat := bif Nat.ble 64 (tTag (tGrp c)) then 0 else i
def mSlot (M : Mem) (c i : Nat) : Option Value := match M[c]? with
  | some q => q.2[i]?
  | none => none
abbrev Gh : Type := Nat → Nat → Int32
abbrev Vw : Type := Nat → Nat → Option Value
/-- the protected slots alone -/
def xv (M : Mem) : Vw := fun c i => bif tPro0 (tGrp c) (aSlK c i) then mSlot M c i else none
def xI (V : Vw) (c i : Nat) : Int := match V c i with
  | some (.int x) => x.toInt
  | _ => 0
def xU : Int := 1048576
/-- buyers: a bit that is not set -/
def xNb (i g : Int32) : Prop := 0 ≤ i.toInt ∧ i.toInt ≤ 7 ∧ 0 ≤ g.toInt ∧ g.toInt ≤ 255 ∧ (g >>> (i &&& 31)) &&& 1 = 0
def x2 (γ : Gh) : Prop := xNb (γ 1002 0) (γ 1002 1) ∧ xNb (γ 1002 2) (γ 1002 3)
/-- wells: how many are not done -/
def xCnt (f : Nat → Int) : Nat → Int
  | 0 => 0
  | n + 1 => xCnt f n + (if f n = 0 then 1 else 0)
def xWl (V : Vw) (k : Int32) : Prop := 0 ≤ k.toInt → k.toInt < 20 ∧ xI V 201 k.toInt.toNat = 0
def x3 (γ : Gh) (V : Vw) : Prop := (γ 1003 0).toInt = xCnt (xI V 201) 20 ∧ xWl V (γ 1003 1) ∧ xWl V (γ 1003 2)
/-- the order: its places hold different deeds, but for a hole -/
def xEnd (n h : Int) : Int := if h = -1 then n else n + 1
def xPl (V : Vw) (n h : Int) (p v : Int32) : Prop := 0 ≤ p.toInt → h = -1 ∧ p.toInt < n ∧ xI V 217 p.toInt.toNat = v.toInt
def x4 (γ : Gh) (V : Vw) : Prop := (-1 ≤ (γ 1004 0).toInt ∧ (γ 1004 0).toInt ≤ xI V 181 49 ∧ (0 ≤ (γ 1004 0).toInt → xI V 181 49 ≤ 39)) ∧
  (∀ i j : Nat, i < j → (j : Int) < xEnd (xI V 181 49) (γ 1004 0).toInt → (i : Int) ≠ (γ 1004 0).toInt → (j : Int) ≠ (γ 1004 0).toInt → xI V 217 i ≠ xI V 217 j) ∧
  (∀ i : Nat, (i : Int) < xEnd (xI V 181 49) (γ 1004 0).toInt → (i : Int) ≠ (γ 1004 0).toInt → xI V 217 i < (γ 1004 1).toInt) ∧
  xPl V (xI V 181 49) (γ 1004 0).toInt (γ 1004 2) (γ 1004 3) ∧ xPl V (xI V 181 49) (γ 1004 0).toInt (γ 1004 4) (γ 1004 5)
/-- the tape: what was read -/
def x7 (γ : Gh) (V : Vw) : Prop := 0 ≤ (γ 1007 0).toInt → (γ 1007 0).toInt < 200 ∧ ∃ x : Int32, V 202 (γ 1007 0).toInt.toNat = some (.int x) ∧ x &&& 255 = γ 1007 1
/-- programs: how high the stack stands -/
def xEff (c : Int) : Int := if c / xU ≤ 1 then 1 else if c / xU = 10 then 0 else -1
def xHg (f : Nat → Int) (a : Nat) : Nat → Int
  | 0 => 0
  | n + 1 => xHg f a n + xEff (f (a + n))
/-- the code at k of the program from a to e (jumps count from b) can be run; an open jump is in p -/
def xOk (f : Nat → Int) (b a e k : Nat) (p : Int → Nat → Prop) : Prop := 0 ≤ f k ∧ (f k / xU = 0 ∨ (f k / xU = 1 ∧ f k % xU ≤ 13) ∨ (2 ≤ f k / xU ∧ f k / xU ≤ 9 ∧ 2 ≤ xHg f a (k - a)) ∨ (f k / xU = 10 ∧ 1 ≤ xHg f a (k - a)) ∨
  (11 ≤ f k / xU ∧ f k / xU ≤ 12 ∧ 1 ≤ xHg f a (k - a) ∧ (((k : Int) < b + f k % xU ∧ (b : Int) + f k % xU ≤ e ∧ xHg f a (b + (f k % xU).toNat - a) = xHg f a (k - a)) ∨ p (f k / xU) k)))
def xPr (f : Nat → Int) (b a e : Nat) : Prop := a ≤ e ∧ ∀ k, a ≤ k → k < e → xOk f b a e k (fun _ _ => False)
def xVp (V : Vw) (a e : Nat) : Prop := e ≤ 180 * (a / 180) + 180 ∧ e ≤ 540 ∧ xPr (xI V 209) (180 * (a / 180)) a e
def xCl (V : Vw) (q : Nat) : Prop := xVp V (xI V 213 q).toNat (xI V 214 q).toNat ∧ (xI V 211 q = 121 → xVp V (xI V 212 q).toNat (xI V 213 q).toNat)
/-- a clause's pieces lie among its own law's codes -/
def xIn (V : Vw) (i q : Nat) : Prop := (xI V 213 q).toNat / 180 = i ∧ (xI V 211 q = 121 → (xI V 212 q).toNat / 180 = i)
/-- the laws that are kept -/
def x5 (γ : Gh) (V : Vw) : Prop := (γ 1005 3).toInt = 12 * (γ 1005 4).toInt ∧ (0 ≤ (γ 1005 0).toInt ∧ 0 ≤ (γ 1005 1).toInt ∧ xVp V (γ 1005 0).toInt.toNat (γ 1005 1).toInt.toNat) ∧
  (0 ≤ (γ 1005 2).toInt → (γ 1005 2).toInt ≤ 35 ∧ xCl V (γ 1005 2).toInt.toNat ∧ ((γ 1005 5).toInt = 121 → xI V 211 (γ 1005 2).toInt.toNat = 121)) ∧
  (∀ i j : Nat, i < 3 → (j : Int) < xI V 210 i → xCl V (12 * i + j) ∧ xIn V i (12 * i + j))
/-- a run of a program -/
def x6 (γ : Gh) (V : Vw) : Prop := (γ 1006 8).toInt = 180 * ((γ 1005 0).toInt / 180) ∧ ((γ 1005 0).toInt ≤ (γ 1006 0).toInt ∧ (γ 1006 0).toInt ≤ (γ 1005 1).toInt ∧ (γ 1006 1).toInt = xHg (xI V 209) (γ 1005 0).toInt.toNat ((γ 1006 0).toInt.toNat - (γ 1005 0).toInt.toNat)) ∧
  ((γ 1006 2).toInt = -1 ∨ ((γ 1006 0).toInt < (γ 1005 1).toInt ∧ xI V 209 (γ 1006 0).toInt.toNat / xU = (γ 1006 2).toInt)) ∧
  ((γ 1006 5).toInt = -1 ∨ (0 ≤ (γ 1006 4).toInt ∧ (γ 1006 0).toInt ≤ (γ 1006 8).toInt + (γ 1006 4).toInt ∧ (γ 1006 8).toInt + (γ 1006 4).toInt ≤ (γ 1005 1).toInt ∧ xHg (xI V 209) (γ 1005 0).toInt.toNat (((γ 1006 8).toInt + (γ 1006 4).toInt).toNat - (γ 1005 0).toInt.toNat) = (γ 1006 5).toInt)) ∧
  ((γ 1006 6).toInt = -1 ∨ (0 ≤ (γ 1006 6).toInt ∧ (γ 1006 6).toInt < 180 ∧ xI V 215 (γ 1006 6).toInt.toNat = (γ 1006 7).toInt))
/-- how many of the first n are such -/
def xCw (p : Int → Bool) (f : Nat → Int) : Nat → Int
  | 0 => 0
  | n + 1 => xCw p f n + (bif p (f n / xU) then 1 else 0)
def xAr (t : Int) : Bool := decide (2 ≤ t ∧ t ≤ 6)
def xSm (t : Int) : Bool := decide (t = 14)
def xNt (t : Int) : Bool := decide (t = 10)
/-- the parser's stack and what it has written since the piece began -/
def xA (γ : Gh) (f wa : Nat → Int) (w m p sg : Nat) : Prop := (0 ≤ (γ 1001 5).toInt ∧ p ≤ w ∧ 0 ≤ (γ 1001 10).toInt ∧ sg ≤ m) ∧
  ((∀ k, k < w → 0 ≤ wa k) ∧ (∀ k, k < p → 10 ≤ wa k / xU ∧ wa k / xU ≤ 13) ∧ (∀ k, p ≤ k → k < w → (2 ≤ wa k / xU ∧ wa k / xU ≤ 6) ∨ wa k / xU = 14) ∧ (0 < p → wa 0 / xU = 13)) ∧
  ((γ 1001 3).toInt = (if w = 0 then -1 else wa (w - 1) / xU) ∧ (γ 1001 1).toInt = xCw xAr wa w ∧ (γ 1001 2).toInt = xCw xSm wa w ∧ (γ 1001 0).toInt = m + xCw xAr wa w + xCw xNt wa w ∧ (γ 1001 4).toInt = xHg f sg (m - sg) - xCw xAr wa w) ∧
  (∀ k, sg ≤ k → k < m → xOk f 0 sg m k (fun o k => ∃ j, j < p ∧ wa j = o * xU + (k : Int))) ∧
  (∀ j, j < p → 11 ≤ wa j / xU → wa j / xU ≤ 12 → ∃ a : Nat, wa j = wa j / xU * xU + (a : Int) ∧ sg ≤ a ∧ a < m ∧ f a / xU = wa j / xU ∧ xHg f sg (a - sg) = 1)
def xSc (V : Vw) (lim j : Nat) : Prop := (xI V 208 j).toNat ≤ lim ∧ xPr (xI V 203) 0 (xI V 207 j).toNat (xI V 208 j).toNat ∧ (xI V 205 j = 121 → xPr (xI V 203) 0 (xI V 206 j).toNat (xI V 207 j).toNat)
def xp (γ : Gh) (V : Vw) : Prop := ((γ 1001 6).toInt = 1 → xA γ (xI V 203) (xI V 204) (xI V 181 31).toNat (xI V 181 30).toNat (γ 1001 5).toInt.toNat (γ 1001 10).toInt.toNat) ∧
  (∀ j : Nat, (j : Int) < xI V 181 32 → xSc V (if (γ 1001 6).toInt = 1 then (γ 1001 10).toInt.toNat else (xI V 181 30).toNat) j) ∧
  (0 ≤ (γ 1001 7).toInt → (γ 1001 6).toInt = 1 ∧ xI V 205 (xI V 181 32).toNat = (γ 1001 7).toInt ∧ xI V 206 (xI V 181 32).toNat = (γ 1001 10).toInt) ∧
  ((γ 1001 8).toInt = 1 → xI V 207 (xI V 181 32).toNat = xI V 181 30 ∧ (xI V 205 (xI V 181 32).toNat = 121 → xPr (xI V 203) 0 (xI V 206 (xI V 181 32).toNat).toNat (xI V 181 30).toNat)) ∧
  ((γ 1001 9).toInt = 1 → (γ 1001 6).toInt = 1 ∧ xI V 207 (xI V 181 32).toNat = (γ 1001 10).toInt ∧ (xI V 205 (xI V 181 32).toNat = 121 → xPr (xI V 203) 0 (xI V 206 (xI V 181 32).toNat).toNat (γ 1001 10).toInt.toNat))
def tXJ (γ : Gh) (V : Vw) : Prop := x2 γ ∧ x3 γ V ∧ x4 γ V ∧ x5 γ V ∧ x6 γ V ∧ x7 γ V ∧ xp γ V
def tXI (γ : Gh) (M : Mem) : Prop := tXJ γ (xv M)
theorem xv_set {M : Mem} {a t : Nat} {fs fs' : List Value} (hm : M[a]? = some (t, fs)) (hp : ∀ i, fs'[i]? = fs[i]? ∨ tPro (tGrp a) (bif Nat.ble 64 (tTag (tGrp a)) then 0 else i) = false) : xv (M.set a (t, fs')) = xv M := by
  funext c i
  unfold xv
  cases hq : tPro0 (tGrp c) (aSlK c i) with
  | false => rfl
  | true =>
    dsimp only [cond_true]
    unfold mSlot
    obtain ⟨hl, _⟩ := List.getElem?_eq_some_iff.mp hm
    rw [List.getElem?_set]
    by_cases e : a = c
    · subst e
      rw [if_pos rfl, if_pos hl, hm]
      dsimp only
      rcases hp i with h | h
      · exact h
      · unfold aSlK at hq
        rw [(Bool.or_eq_false_iff.mp (Bool.or_eq_false_iff.mp (show (tPro10 _ _ || (tPro9 _ _ || tPro0 _ _)) = false from h)).2).2] at hq
        cases hq
    · rw [if_neg e]
theorem tXI_set {γ : Gh} {M : Mem} {a t : Nat} {fs fs' : List Value} (h : tXI γ M) (_ : 2 ≤ a) (_ : a < tEnd) (hm : M[a]? = some (t, fs)) (_ : fs'.length = fs.length) (hp : ∀ i, fs'[i]? = fs[i]? ∨ tPro (tGrp a) (bif Nat.ble 64 (tTag (tGrp a)) then 0 else i) = false) : tXI γ (M.set a (t, fs')) := by
  unfold tXI
  rw [xv_set hm hp]
  exact h

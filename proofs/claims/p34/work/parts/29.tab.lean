/-! the tables of the memory after the constructors (made by mkab.py) -/
def tEnd : Nat := 242
def tGrp (c : Nat) : Nat := c
def tTag (_ : Nat) : Nat := 0
def tSiz (_ : Nat) : Nat := 0
def tSin (_ : Nat) : Bool := true
def tTyA (_ : Nat) : Nat × Int × Int × List Nat := (0, 0, 0, [])
def tTyF (_ _ : Nat) : Nat × Int × Int × List Nat := (0, 0, 0, [])
def tTy (g i : Nat) : Nat × Int × Int × List Nat := bif Nat.ble 64 (tTag g) then tTyA g else tTyF g i
def tPro (_ _ : Nat) : Bool := false
def tXI (_ : Mem) : Prop := True
theorem tSin_ok : ∀ a b, a < tEnd → b < tEnd → 2 ≤ a → 2 ≤ b → tSin (tGrp a) = true → tGrp a = tGrp b → a = b := fun _ _ _ _ _ _ _ h => h
theorem tXI_set {M : Mem} {a t : Nat} {fs fs' : List Value} (h : tXI M) (_ : 2 ≤ a) (_ : a < tEnd) (_ : M[a]? = some (t, fs)) (_ : fs'.length = fs.length) (_ : ∀ i, fs'[i]? = fs[i]? ∨ tPro (tGrp a) (bif Nat.ble 64 (tTag (tGrp a)) then 0 else i) = false) : tXI (M.set a (t, fs')) := h

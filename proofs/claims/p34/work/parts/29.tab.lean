/-! the tables of the memory after the constructors (made by mkab.py) -/
def tEnd : Nat := 242
def tGrp (c : Nat) : Nat := c
def tTag (_ : Nat) : Nat := 0
def tSiz (_ : Nat) : Nat := 0
def tSin (_ : Nat) : Bool := true
def tTy (_ _ : Nat) : Nat × Int × Int × List Nat := (0, 0, 0, [])
def tPro (_ _ : Nat) : Bool := false
def tXI (_ : Mem) : Prop := True

/-! what holds of the protected slots and the ghosts -/
def tPro (g i : Nat) : Bool := (Nat.beq g 181 && (Nat.beq i 49 || Nat.beq i 30 || Nat.beq i 31 || Nat.beq i 32)) || Nat.beq g 217 || Nat.beq g 201 || Nat.beq g 202 || (Nat.ble 203 g && Nat.ble g 215)
def tXI (_ : Nat → Nat → Int32) (_ : Mem) : Prop := True
theorem tXI_set {γ : Nat → Nat → Int32} {M : Mem} {a t : Nat} {fs fs' : List Value} (h : tXI γ M) (_ : 2 ≤ a) (_ : a < tEnd) (_ : M[a]? = some (t, fs)) (_ : fs'.length = fs.length) (_ : ∀ i, fs'[i]? = fs[i]? ∨ tPro (tGrp a) (bif Nat.ble 64 (tTag (tGrp a)) then 0 else i) = false) : tXI γ (M.set a (t, fs')) := h

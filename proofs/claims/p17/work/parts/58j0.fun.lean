/-! sets as numbers: bits (by hand) -/
def tb (x : Nat) (i : Nat) : Bool := Nat.testBit x i
set_option maxRecDepth 100000 in
theorem tb_or : ∀ x, x < 256 → ∀ i, i < 8 → (x ||| 1 <<< i) < 256 ∧ ∀ j, j < 8 → tb (x ||| 1 <<< i) j = (tb x j || decide (j = i)) := by decide +kernel
set_option maxRecDepth 100000 in
theorem bo_n : ∀ x, x < 256 → ∀ k, k < 8 → Int32.ofNat x ||| ((1 : Int32) <<< (Int32.ofNat k &&& 31)) = Int32.ofNat (x ||| 1 <<< k) := by decide +kernel
theorem i32_of {x : Int32} (h : 0 ≤ x.toInt) : x = Int32.ofNat x.toInt.toNat := i32_nat h
theorem bo_i {x k : Int32} (h0 : 0 ≤ x.toInt) (h1 : x.toInt < 256) (k0 : 0 ≤ k.toInt) (k1 : k.toInt < 8) : 0 ≤ (x ||| ((1 : Int32) <<< (k &&& 31))).toInt ∧ (x ||| ((1 : Int32) <<< (k &&& 31))).toInt < 256 ∧ ∀ j, j < 8 → tb (x ||| ((1 : Int32) <<< (k &&& 31))).toInt.toNat j = (tb x.toInt.toNat j || decide (j = k.toInt.toNat)) := by
  have e := bo_n x.toInt.toNat (by omega) k.toInt.toNat (by omega)
  rw [← i32_of h0, ← i32_of k0] at e
  obtain ⟨q1, q2⟩ := tb_or x.toInt.toNat (by omega) k.toInt.toNat (by omega)
  have e2 : (x ||| ((1 : Int32) <<< (k &&& 31))).toInt = ((x.toInt.toNat ||| 1 <<< k.toInt.toNat : Nat) : Int) := by
    rw [e]
    exact Int32.toInt_ofNat_of_lt (by omega)
  rw [e2]
  refine ⟨by omega, by omega, fun j hj => ?_⟩
  rw [Int.toNat_natCast]
  exact q2 j hj
theorem row_g : ∀ i, i < 8 → 2 ≤ 143 + i ∧ 143 + i < tEnd ∧ tGrp (143 + i) = 143 := by decide
/-! the market: what it is told keeps the rest -/
theorem qM_np {c i : Nat} (h : qM c i) : tPro0 (tGrp c) (aSlK c i) = false ∧ tPro9 (tGrp c) (aSlK c i) = false ∧ (∀ j, qP c j = false) ∧ (2 ≤ c ∧ c < tEnd) ∧ (c ≠ 8 ∧ c ≠ 129 ∧ c ≠ 99 ∧ c ≠ 142 ∧ c ≠ 51 ∧ c ≠ 5 ∧ c ≠ 6 ∧ c ≠ 183 ∧ c ≠ 184 ∧ c ≠ 128 ∧ c ≠ 202) := by
  have q : (c = 139 ∨ c = 140 ∨ c = 141 ∨ c = 143 ∨ c = 144 ∨ c = 145 ∨ c = 146 ∨ c = 147 ∨ c = 148 ∨ c = 149 ∨ c = 150 ∨ c = 223 ∨ c = 224 ∨ c = 225 ∨ c = 226) ∨ (c = 181 ∧ i = 59) := by
    unfold qM at h
    omega
  rcases q with q | ⟨rfl, rfl⟩
  · rcases q with rfl | rfl | rfl | rfl | rfl | rfl | rfl | rfl | rfl | rfl | rfl | rfl | rfl | rfl | rfl <;> exact ⟨rfl, rfl, fun _ => rfl, by decide, by decide⟩
  · exact ⟨rfl, rfl, fun _ => rfl, by decide, by decide⟩

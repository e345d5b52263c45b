/-! bounds of what the machine reckons -/
theorem i32_rng (x : Int32) : -2147483648 ≤ x.toInt ∧ x.toInt ≤ 2147483647 := by
  have h1 := Int32.toInt_lt x
  have h2 := Int32.le_toInt x
  omega
theorem i32_bm {z : Int} (h1 : -2147483648 ≤ z) (h2 : z ≤ 2147483647) : Int.bmod z (2 ^ 32) = z := Int.bmod_eq_of_le_mul_two (by omega) (by omega)
theorem i32_ofInt {z : Int} (h1 : -2147483648 ≤ z) (h2 : z ≤ 2147483647) : (Int32.ofInt z).toInt = z := Int32.toInt_ofInt_of_le (by omega) (by omega)
theorem i32_add {x y : Int32} (h1 : -2147483648 ≤ x.toInt + y.toInt) (h2 : x.toInt + y.toInt ≤ 2147483647) : (x + y).toInt = x.toInt + y.toInt := by rw [Int32.toInt_add, i32_bm h1 h2]
theorem i32_sub {x y : Int32} (h1 : -2147483648 ≤ x.toInt - y.toInt) (h2 : x.toInt - y.toInt ≤ 2147483647) : (x - y).toInt = x.toInt - y.toInt := by rw [Int32.toInt_sub, i32_bm h1 h2]
theorem i32_mul {x y : Int32} (h1 : -2147483648 ≤ x.toInt * y.toInt) (h2 : x.toInt * y.toInt ≤ 2147483647) : (x * y).toInt = x.toInt * y.toInt := by rw [Int32.toInt_mul, i32_bm h1 h2]
theorem i32_neg {x : Int32} (h : -2147483648 < x.toInt) : (-x).toInt = -x.toInt := by
  have := i32_rng x
  rw [Int32.toInt_neg, i32_bm (by omega) (by omega)]
theorem bv_nn {x : Int32} (h : 0 ≤ x.toInt) : x.toInt = (x.toBitVec.toNat : Int) ∧ x.toBitVec.toNat < 2147483648 := by
  have e : x.toInt = x.toBitVec.toInt := rfl
  have c := BitVec.toInt_eq_toNat_cond x.toBitVec
  rw [e] at h ⊢
  have l := x.toBitVec.isLt
  split at c <;> omega
theorem bv_back {x : Int32} (h : x.toBitVec.toNat < 2147483648) : x.toInt = (x.toBitVec.toNat : Int) := by
  have e : x.toInt = x.toBitVec.toInt := rfl
  have c := BitVec.toInt_eq_toNat_cond x.toBitVec
  rw [e]
  split at c <;> omega
theorem i32_and_l {x y : Int32} (h : 0 ≤ x.toInt) : 0 ≤ (x &&& y).toInt ∧ (x &&& y).toInt ≤ x.toInt := by
  obtain ⟨h1, h2⟩ := bv_nn h
  have e : (x &&& y).toBitVec.toNat = x.toBitVec.toNat &&& y.toBitVec.toNat := BitVec.toNat_and ..
  have l : x.toBitVec.toNat &&& y.toBitVec.toNat ≤ x.toBitVec.toNat := Nat.and_le_left
  have b := bv_back (x := x &&& y) (by omega)
  omega
theorem i32_and_r {x y : Int32} (h : 0 ≤ y.toInt) : 0 ≤ (x &&& y).toInt ∧ (x &&& y).toInt ≤ y.toInt := by
  obtain ⟨h1, h2⟩ := bv_nn h
  have e : (x &&& y).toBitVec.toNat = x.toBitVec.toNat &&& y.toBitVec.toNat := BitVec.toNat_and ..
  have l : x.toBitVec.toNat &&& y.toBitVec.toNat ≤ y.toBitVec.toNat := Nat.and_le_right
  have b := bv_back (x := x &&& y) (by omega)
  omega
theorem i32_or {x y : Int32} {k : Nat} (hk : k ≤ 31) (hx : 0 ≤ x.toInt) (hy : 0 ≤ y.toInt) (h1 : x.toInt < 2 ^ k) (h2 : y.toInt < 2 ^ k) : 0 ≤ (x ||| y).toInt ∧ (x ||| y).toInt < 2 ^ k := by
  obtain ⟨a1, a2⟩ := bv_nn hx
  obtain ⟨b1, b2⟩ := bv_nn hy
  have e : (x ||| y).toBitVec.toNat = x.toBitVec.toNat ||| y.toBitVec.toNat := BitVec.toNat_or ..
  have p : ((2 ^ k : Nat) : Int) = 2 ^ k := by exact Int.natCast_pow 2 k
  have l : x.toBitVec.toNat ||| y.toBitVec.toNat < 2 ^ k := Nat.or_lt_two_pow (by omega) (by omega)
  have q : 2 ^ k ≤ 2 ^ 31 := Nat.pow_le_pow_right (by omega) hk
  have b := bv_back (x := x ||| y) (by omega)
  omega
theorem i32_xor {x y : Int32} {k : Nat} (hk : k ≤ 31) (hx : 0 ≤ x.toInt) (hy : 0 ≤ y.toInt) (h1 : x.toInt < 2 ^ k) (h2 : y.toInt < 2 ^ k) : 0 ≤ (x ^^^ y).toInt ∧ (x ^^^ y).toInt < 2 ^ k := by
  obtain ⟨a1, a2⟩ := bv_nn hx
  obtain ⟨b1, b2⟩ := bv_nn hy
  have e : (x ^^^ y).toBitVec.toNat = x.toBitVec.toNat ^^^ y.toBitVec.toNat := BitVec.toNat_xor ..
  have p : ((2 ^ k : Nat) : Int) = 2 ^ k := by exact Int.natCast_pow 2 k
  have l : x.toBitVec.toNat ^^^ y.toBitVec.toNat < 2 ^ k := Nat.xor_lt_two_pow (by omega) (by omega)
  have q : 2 ^ k ≤ 2 ^ 31 := Nat.pow_le_pow_right (by omega) hk
  have b := bv_back (x := x ^^^ y) (by omega)
  omega
theorem i32_shr {x y : Int32} : (x >>> y).toInt = x.toInt / 2 ^ (y.toBitVec.smod 32).toNat := by
  have e : (x >>> y).toInt = (x.toBitVec.sshiftRight (y.toBitVec.smod 32).toNat).toInt := rfl
  rw [e, BitVec.toInt_sshiftRight, Int.shiftRight_eq_div_pow]
  rfl
theorem i32_shr_nn {x y : Int32} (h : 0 ≤ x.toInt) : 0 ≤ (x >>> y).toInt ∧ (x >>> y).toInt ≤ x.toInt := by
  rw [i32_shr]
  have p : (0 : Int) < 2 ^ (y.toBitVec.smod 32).toNat := Int.pow_pos (by omega)
  exact ⟨Int.ediv_nonneg h (by omega), Int.ediv_le_self _ h⟩
theorem i32_shk : ∀ k, k < 32 → ((Int32.ofNat k &&& 31).toBitVec.smod 32).toNat = k := by decide
theorem i32_shr_k {x y : Int32} {k : Nat} (hk : k < 32) (hy : y.toInt = (k : Int)) : (x >>> (y &&& 31)).toInt = x.toInt / 2 ^ k := by
  have e : y = Int32.ofNat k := by
    apply Int32.toInt_inj.mp
    rw [hy, Int32.toInt_ofNat_of_lt (by omega)]
  rw [i32_shr, e, i32_shk k hk]
theorem i32_ushr {x : Int32} {y : UInt32} (h : 0 ≤ x.toInt) : 0 ≤ (x.toUInt32 >>> y).toInt32.toInt ∧ (x.toUInt32 >>> y).toInt32.toInt ≤ x.toInt := by
  obtain ⟨h1, h2⟩ := bv_nn h
  have e : (x.toUInt32 >>> y).toInt32.toBitVec.toNat = (x.toUInt32 >>> y).toNat := rfl
  have f : (x.toUInt32 >>> y).toNat = x.toUInt32.toNat >>> (y.toNat % 32) := UInt32.toNat_shiftRight ..
  have g : x.toUInt32.toNat = x.toBitVec.toNat := rfl
  have l : x.toUInt32.toNat >>> (y.toNat % 32) ≤ x.toUInt32.toNat := Nat.shiftRight_le ..
  have b := bv_back (x := (x.toUInt32 >>> y).toInt32) (by omega)
  omega
theorem i32_div {x y : Int32} (hx : 0 ≤ x.toInt) (hy : 1 ≤ y.toInt) : (x / y).toInt = x.toInt / y.toInt := by
  have := i32_rng x
  have h1 : x.toInt.tdiv y.toInt = x.toInt / y.toInt := Int.tdiv_eq_ediv_of_nonneg hx
  have h2 : 0 ≤ x.toInt / y.toInt := Int.ediv_nonneg hx (by omega)
  have h3 : x.toInt / y.toInt ≤ x.toInt := Int.ediv_le_self _ hx
  rw [Int32.toInt_div, h1, i32_bm (by omega) (by omega)]
theorem i32_div_s {x y : Int32} (hy : 1 ≤ y.toInt) : (x / y).toInt = x.toInt.tdiv y.toInt ∧ (x.toInt.tdiv y.toInt).natAbs ≤ x.toInt.natAbs := by
  have hr := i32_rng x
  have h1 : (x.toInt.tdiv y.toInt).natAbs ≤ x.toInt.natAbs := by rw [Int.natAbs_tdiv]; exact Nat.div_le_self ..
  have h3 : x.toInt.tdiv y.toInt ≤ 2147483647 := by
    cases Int.lt_or_le x.toInt 0 with
    | inl h => 
      have e : x.toInt.tdiv y.toInt = -((-x.toInt).tdiv y.toInt) := by rw [Int.neg_tdiv, Int.neg_neg]
      have := Int.tdiv_nonneg (a := -x.toInt) (b := y.toInt) (by omega) (by omega)
      omega
    | inr h => omega
  exact ⟨by rw [Int32.toInt_div, i32_bm (by omega) h3], h1⟩
theorem i32_rem {x y : Int32} (hy : 1 ≤ y.toInt) : (x - x / y * y).toInt = x.toInt.tmod y.toInt := by
  have hr := i32_rng x
  have hs := i32_rng y
  obtain ⟨h1, h2⟩ := i32_div_s (x := x) hy
  have e : x.toInt.tdiv y.toInt * y.toInt = x.toInt - x.toInt.tmod y.toInt := by
    have := Int.tmod_add_mul_tdiv x.toInt y.toInt
    rw [Int.mul_comm]; omega
  have a := Int.tmod_lt_of_pos x.toInt (b := y.toInt) (by omega)
  have l : (x.toInt.tmod y.toInt).natAbs ≤ x.toInt.natAbs := by rw [Int.natAbs_tmod]; exact Nat.mod_le ..
  have sg : (0 ≤ x.toInt → 0 ≤ x.toInt.tmod y.toInt) := fun h => Int.tmod_nonneg _ h
  have sn : (x.toInt ≤ 0 → x.toInt.tmod y.toInt ≤ 0) := fun h => by
    have e : x.toInt.tmod y.toInt = -((-x.toInt).tmod y.toInt) := by rw [Int.neg_tmod, Int.neg_neg]
    have := Int.tmod_nonneg (a := -x.toInt) y.toInt (by omega)
    omega
  have m : (x / y * y).toInt = x.toInt - x.toInt.tmod y.toInt := by
    rw [Int32.toInt_mul, h1, e]
    exact i32_bm (by omega) (by omega)
  rw [Int32.toInt_sub, m]
  rw [i32_bm (by omega) (by omega)]
  omega
theorem i32_rem_nn {x y : Int32} (hx : 0 ≤ x.toInt) (hy : 1 ≤ y.toInt) : 0 ≤ (x - x / y * y).toInt ∧ (x - x / y * y).toInt ≤ x.toInt ∧ (x - x / y * y).toInt ≤ y.toInt - 1 := by
  rw [i32_rem hy]
  have a := Int.tmod_lt_of_pos x.toInt (b := y.toInt) (by omega)
  have b := Int.tmod_nonneg y.toInt hx
  have l : (x.toInt.tmod y.toInt).natAbs ≤ x.toInt.natAbs := by rw [Int.natAbs_tmod]; exact Nat.mod_le ..
  omega
theorem i32_rem_s {x y : Int32} (hy : 1 ≤ y.toInt) : -(y.toInt - 1) ≤ (x - x / y * y).toInt ∧ (x - x / y * y).toInt ≤ y.toInt - 1 := by
  rw [i32_rem hy]
  have a := Int.tmod_lt_of_pos x.toInt (b := y.toInt) (by omega)
  have l : (x.toInt.tmod y.toInt).natAbs < y.toInt.natAbs := by rw [Int.natAbs_tmod]; exact Nat.mod_lt _ (by omega)
  omega
theorem i32_b {x : Int32} : -128 ≤ (x.toInt8.toInt32).toInt ∧ (x.toInt8.toInt32).toInt ≤ 127 := by
  rw [Int8.toInt_toInt32, Int32.toInt_toInt8]
  have a := Int.le_bmod (x := x.toInt) (m := 2 ^ 8) (by omega)
  have b := Int.bmod_lt (x := x.toInt) (m := 2 ^ 8) (by omega)
  omega
theorem i32_b_in {x : Int32} (h1 : -128 ≤ x.toInt) (h2 : x.toInt ≤ 127) : (x.toInt8.toInt32).toInt = x.toInt := by
  rw [Int8.toInt_toInt32, Int32.toInt_toInt8]
  exact Int.bmod_eq_of_le_mul_two (by omega) (by omega)
theorem i32_c {x : Int32} : 0 ≤ ((x.toUInt32 % 65536).toInt32).toInt ∧ ((x.toUInt32 % 65536).toInt32).toInt ≤ 65535 := by
  have e : ((x.toUInt32 % 65536).toInt32).toBitVec.toNat = x.toBitVec.toNat % 65536 := rfl
  have b := bv_back (x := (x.toUInt32 % 65536).toInt32) (by omega)
  omega
theorem i32_c_in {x : Int32} (h1 : 0 ≤ x.toInt) (h2 : x.toInt ≤ 65535) : ((x.toUInt32 % 65536).toInt32).toInt = x.toInt := by
  obtain ⟨a1, a2⟩ := bv_nn h1
  have e : ((x.toUInt32 % 65536).toInt32).toBitVec.toNat = x.toBitVec.toNat % 65536 := rfl
  have b := bv_back (x := (x.toUInt32 % 65536).toInt32) (by omega)
  omega

/-! bits of longs (by hand) -/
def tbL (x : Int64) (d : Nat) : Bool := Nat.testBit (un x) d
theorem un_or (a b : Int64) : un (a ||| b) = un a ||| un b := BitVec.toNat_or a.toBitVec b.toBitVec
theorem un_xor (a b : Int64) : un (a ^^^ b) = un a ^^^ un b := BitVec.toNat_xor a.toBitVec b.toBitVec
theorem un_bit1f : ∀ k, k < 64 → un (bit1 (Int32.ofNat k)) = 2 ^ k := by decide +kernel
theorem un_bit1 {x : Int32} {k : Nat} (h : x.toInt = (k : Int)) (hk : k < 64) : un (bit1 x) = 2 ^ k := by
  have e := un_bit1f k hk
  rw [show k = x.toInt.toNat by omega, i32_natR (by omega)] at e
  rw [e]
  congr 1
  omega
theorem and_pow {a d : Nat} : (a &&& 2 ^ d = 0) ↔ Nat.testBit a d = false := by
  constructor
  · intro h
    have e := Nat.testBit_and a (2 ^ d) d
    rw [h, Nat.testBit_two_pow_self, Bool.and_true, Nat.zero_testBit] at e
    exact e.symm
  · intro h
    apply Nat.eq_of_testBit_eq
    intro i
    rw [Nat.testBit_and, Nat.zero_testBit]
    by_cases c : d = i
    · rw [← c, h, Bool.false_and]
    · rw [Nat.testBit_two_pow_of_ne c, Bool.and_false]
theorem tb_land {x : Int64} {y : Int32} {d : Nat} (h : y.toInt = (d : Int)) (hd : d < 64) : ((lg_cmp (x &&& bit1 y) 0).toInt = 0) ↔ tbL x d = false := by
  have e : ((lg_cmp (x &&& bit1 y) 0).toInt = 0) ↔ lg_cmp (x &&& bit1 y) 0 = 0 := ⟨fun q => Int32.toInt_inj.mp (q.trans rfl), fun q => by rw [q]; rfl⟩
  rw [e, lg_zero, un_and, un_bit1 h hd]
  exact and_pow
theorem tb_lor {x : Int64} {y : Int32} {d k : Nat} (h : y.toInt = (d : Int)) (hd : d < 64) : tbL (x ||| bit1 y) k = (tbL x k || decide (d = k)) := by
  unfold tbL
  rw [un_or, un_bit1 h hd, Nat.testBit_or, Nat.testBit_two_pow]
theorem tb_0 {k : Nat} : tbL 0 k = false := by
  unfold tbL
  exact Nat.zero_testBit k
theorem un_m1 : un (-1) = 2 ^ 64 - 1 := by decide
theorem tb_off {x : Int64} {y : Int32} {d k : Nat} (h : y.toInt = (d : Int)) (hd : d < 64) (hk : k < 64) : tbL (x &&& (bit1 y ^^^ (-1))) k = (tbL x k && !decide (d = k)) := by
  unfold tbL
  rw [un_and, un_xor, un_bit1 h hd, un_m1, Nat.testBit_and, Nat.testBit_xor, Nat.testBit_two_pow, Nat.testBit_two_pow_sub_one, decide_eq_true hk, Bool.xor_true]
/-- the bit at a place, by shifting -/
theorem tb_shr {x : Int64} {y : Int32} {d : Nat} (h : y.toInt = (d : Int)) (hd : d < 64) : ((lg_cmp (ushl x y &&& 1) 0).toInt = 0) ↔ tbL x d = false := by
  have e : ((lg_cmp (ushl x y &&& 1) 0).toInt = 0) ↔ lg_cmp (ushl x y &&& 1) 0 = 0 := ⟨fun q => Int32.toInt_inj.mp (q.trans rfl), fun q => by rw [q]; rfl⟩
  have u : un (ushl x y &&& 1) = un x / 2 ^ y.toInt.toNat % 2 := un_bit (by omega) (by omega)
  rw [e, lg_zero, u, show y.toInt.toNat = d by omega]
  unfold tbL
  rw [Nat.testBit_eq_decide_div_mod_eq]
  constructor
  · intro q
    rw [q]
    rfl
  · intro q
    have := of_decide_eq_false q
    omega
theorem tb_fold {x y : Int64} (h : ∀ k, k < 64 → tbL x k = tbL y k) : x = y := by
  apply Int64.toBitVec_inj.mp
  apply BitVec.eq_of_toNat_eq
  apply Nat.eq_of_testBit_eq
  intro i
  by_cases c : i < 64
  · exact h i c
  · rw [Nat.testBit_lt_two_pow (Nat.lt_of_lt_of_le x.toBitVec.isLt (Nat.pow_le_pow_right (by decide) (by omega))), Nat.testBit_lt_two_pow (Nat.lt_of_lt_of_le y.toBitVec.isLt (Nat.pow_le_pow_right (by decide) (by omega)))]

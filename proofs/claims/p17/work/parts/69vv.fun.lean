/-! bytes: what class and reference write of a word -/
theorem tb_int (x : Int32) : x.toInt = (x.toBitVec.toNat : Int) ∨ x.toInt = (x.toBitVec.toNat : Int) - 4294967296 := by
  have h : x.toInt = x.toBitVec.toInt := rfl
  rw [h, BitVec.toInt_eq_toNat_cond]
  split
  · exact Or.inl rfl
  · exact Or.inr rfl
theorem and_255 (x : Int32) : (x &&& (255 : Int32)).toInt = x.toInt % 256 := by
  have e : (x &&& (255 : Int32)).toBitVec.toNat = x.toBitVec.toNat &&& 255 := BitVec.toNat_and ..
  have q : x.toBitVec.toNat &&& 255 = x.toBitVec.toNat % 256 := Nat.and_two_pow_sub_one_eq_mod x.toBitVec.toNat 8
  have b := bv_back (x := x &&& (255 : Int32)) (by omega)
  have t := tb_int x
  omega
theorem i2b_256 (x : Int32) : x.toInt8.toInt32.toInt % 256 = x.toInt % 256 := by
  rw [Int8.toInt_toInt32, Int32.toInt_toInt8]
  show (Int.bmod x.toInt 256) % 256 = _
  unfold Int.bmod
  dsimp only
  split <;> omega
theorem i2b_rg (x : Int32) : -128 ≤ x.toInt8.toInt32.toInt ∧ x.toInt8.toInt32.toInt ≤ 127 := by
  rw [Int8.toInt_toInt32, Int32.toInt_toInt8]
  show -128 ≤ Int.bmod x.toInt 256 ∧ Int.bmod x.toInt 256 ≤ 127
  unfold Int.bmod
  dsimp only
  split <;> omega
/-- the shifts of the class's loop, of the reference's -/
def shq : Nat → Int32
  | 0 => 24
  | q + 1 => shq q + Int32.ofInt (-8)
def rsq : Nat → Int32
  | 0 => 3
  | q + 1 => rsq q + Int32.ofInt (-1)
def cby (w : Int32) (q : Nat) : Int32 := ushr w (shq q) &&& 255
def rby (w : Int32) (q : Nat) : Int32 := ((w >>> (((8 : Int32) * rsq q) &&& 31)).toInt8.toInt32).toInt8.toInt32
theorem ushr_n {w : Int32} {k : Nat} {s : Int32} (h : (ushr w s).toBitVec.toNat = w.toBitVec.toNat >>> k) : (ushr w s).toBitVec.toNat = w.toBitVec.toNat / 2 ^ k := by rw [h, Nat.shiftRight_eq_div_pow]
theorem shr_n {w s : Int32} {k : Nat} (h : (s.toBitVec.smod 32).toNat = k) : (w >>> s).toInt = w.toInt / 2 ^ k := by rw [i32_shr, h]
theorem by_eq (w : Int32) (q : Nat) (hq : q < 4) : cby w q = rby w q &&& 255 := by
  have n9 : w.toBitVec.toNat < 4294967296 := w.toBitVec.isLt
  have t := tb_int w
  apply Int32.toInt_inj.mp
  unfold cby rby
  rw [and_255, and_255, i2b_256, i2b_256]
  have e : q = 0 ∨ q = 1 ∨ q = 2 ∨ q = 3 := by omega
  rcases e with rfl | rfl | rfl | rfl
  · have a : (ushr w (shq 0)).toBitVec.toNat = w.toBitVec.toNat / 2 ^ 24 := ushr_n rfl
    have b : (w >>> (((8 : Int32) * rsq 0) &&& 31)).toInt = w.toInt / 2 ^ 24 := shr_n rfl
    have a : (ushr w (shq 0)).toBitVec.toNat = w.toBitVec.toNat / 16777216 := a
    have b : (w >>> (((8 : Int32) * rsq 0) &&& 31)).toInt = w.toInt / 16777216 := b
    have c := bv_back (x := ushr w (shq 0)) (by omega)
    omega
  · have a : (ushr w (shq 1)).toBitVec.toNat = w.toBitVec.toNat / 2 ^ 16 := ushr_n rfl
    have b : (w >>> (((8 : Int32) * rsq 1) &&& 31)).toInt = w.toInt / 2 ^ 16 := shr_n rfl
    have a : (ushr w (shq 1)).toBitVec.toNat = w.toBitVec.toNat / 65536 := a
    have b : (w >>> (((8 : Int32) * rsq 1) &&& 31)).toInt = w.toInt / 65536 := b
    have c := bv_back (x := ushr w (shq 1)) (by omega)
    omega
  · have a : (ushr w (shq 2)).toBitVec.toNat = w.toBitVec.toNat / 2 ^ 8 := ushr_n rfl
    have b : (w >>> (((8 : Int32) * rsq 2) &&& 31)).toInt = w.toInt / 2 ^ 8 := shr_n rfl
    have a : (ushr w (shq 2)).toBitVec.toNat = w.toBitVec.toNat / 256 := a
    have b : (w >>> (((8 : Int32) * rsq 2) &&& 31)).toInt = w.toInt / 256 := b
    have c := bv_back (x := ushr w (shq 2)) (by omega)
    omega
  · have a : (ushr w (shq 3)).toBitVec.toNat = w.toBitVec.toNat / 2 ^ 0 := ushr_n rfl
    have b : (w >>> (((8 : Int32) * rsq 3) &&& 31)).toInt = w.toInt / 2 ^ 0 := shr_n rfl
    have a : (ushr w (shq 3)).toBitVec.toNat = w.toBitVec.toNat / 1 := a
    have b : (w >>> (((8 : Int32) * rsq 3) &&& 31)).toInt = w.toInt / 1 := b
    have d := and_255 (ushr w (shq 3))
    have f := tb_int (ushr w (shq 3))
    omega

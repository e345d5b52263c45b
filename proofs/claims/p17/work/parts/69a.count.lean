/-! how many bits: the machine's own way of counting them -/
def un (v : Int64) : Nat := v.toBitVec.toNat
theorem un_lt (v : Int64) : un v < 18446744073709551616 := v.toBitVec.isLt
theorem un_and (a b : Int64) : un (a &&& b) = un a &&& un b := BitVec.toNat_and a.toBitVec b.toBitVec
theorem un_add {a b : Int64} (h : un a + un b < 18446744073709551616) : un (a + b) = un a + un b := by
  show (a.toBitVec + b.toBitVec).toNat = _
  rw [BitVec.toNat_add]
  exact Nat.mod_eq_of_lt h
theorem un_sub {a b : Int64} (h : un b ≤ un a) : un (a - b) = un a - un b := BitVec.toNat_sub_of_le (x := a.toBitVec) (y := b.toBitVec) h
theorem sh_fin : ∀ k, k < 64 → ((((Int32.ofNat k).toInt64.toUInt64 &&& Int64.toUInt64 63).toBitVec % 64).toNat) = k := by decide +kernel
def shr (a : Int64) (y : Int32) : Int64 := (a.toUInt64 >>> (y.toInt64.toUInt64 &&& Int64.toUInt64 63)).toInt64
theorem un_shr {a : Int64} {y : Int32} (h0 : 0 ≤ y.toInt) (h1 : y.toInt < 64) : un (shr a y) = un a / 2 ^ y.toInt.toNat := by
  have k := sh_fin y.toInt.toNat (by omega)
  rw [← i32_nat h0] at k
  show (a.toBitVec >>> ((y.toInt64.toUInt64 &&& Int64.toUInt64 63).toBitVec % 64)).toNat = _
  rw [BitVec.ushiftRight_eq', BitVec.toNat_ushiftRight, Nat.shiftRight_eq_div_pow, k]
  rfl
theorem and_split {lo hi ml mh : Nat} (h : lo < 256) (h2 : ml < 256) : (lo + 256 * hi) &&& (ml + 256 * mh) = (lo &&& ml) + 256 * (hi &&& mh) := by
  have a := Nat.and_div_two_pow (a := lo + 256 * hi) (b := ml + 256 * mh) (n := 8)
  have b := Nat.and_mod_two_pow (a := lo + 256 * hi) (b := ml + 256 * mh) (n := 8)
  rw [show (2 : Nat) ^ 8 = 256 from rfl, show (lo + 256 * hi) / 256 = hi by omega, show (ml + 256 * mh) / 256 = mh by omega] at a
  rw [show (2 : Nat) ^ 8 = 256 from rfl, show (lo + 256 * hi) % 256 = lo by omega, show (ml + 256 * mh) % 256 = ml by omega] at b
  rw [← a, ← b]
  generalize (lo + 256 * hi) &&& (ml + 256 * mh) = X
  omega
theorem s1_fin : ∀ r, r < 2 → ∀ l, l < 256 → (l / 2 + 128 * r) &&& 85 = l / 2 &&& 85 := by decide +kernel
theorem s2_fin : ∀ r, r < 4 → ∀ l, l < 256 → (l / 4 + 64 * r) &&& 51 = l / 4 &&& 51 := by decide +kernel
def bv : List Nat → Nat
  | [] => 0
  | b :: r => b + 256 * bv r
def bm (c : Nat) : List Nat → Nat
  | [] => 0
  | _ :: r => c + 256 * bm c r
def t1 (b : Nat) : Nat := b - (b / 2 &&& 85)
def t2 (b : Nat) : Nat := (b &&& 51) + (b / 4 &&& 51)
def t3 (b : Nat) : Nat := (b + b / 16) &&& 15
theorem bm_map {c : Nat} {f : Nat → Nat} : ∀ l, bm c (l.map f) = bm c l
  | [] => rfl
  | b :: r => by
    show c + 256 * bm c (r.map f) = c + 256 * bm c r
    rw [bm_map r]
theorem S1 : ∀ l : List Nat, (∀ b, b ∈ l → b < 256) → bv l - (bv l / 2 &&& bm 85 l) = bv (l.map t1)
  | [], _ => rfl
  | b :: r, h => by
    have i := S1 r (fun b hb => h b (List.mem_cons_of_mem _ hb))
    have hb := h b List.mem_cons_self
    show (b + 256 * bv r) - ((b + 256 * bv r) / 2 &&& (85 + 256 * bm 85 r)) = t1 b + 256 * bv (r.map t1)
    rw [← i, show (b + 256 * bv r) / 2 = (b / 2 + 128 * (bv r % 2)) + 256 * (bv r / 2) by omega, and_split (by omega) (by decide), s1_fin _ (by omega) _ hb]
    have a1 : (b / 2 &&& 85) ≤ b / 2 := Nat.and_le_left
    have a2 : (bv r / 2 &&& bm 85 r) ≤ bv r / 2 := Nat.and_le_left
    unfold t1
    generalize (b / 2 &&& 85) = X at a1 ⊢
    generalize (bv r / 2 &&& bm 85 r) = Y at a2 ⊢
    omega
theorem S2 : ∀ l : List Nat, (∀ b, b ∈ l → b < 256) → (bv l &&& bm 51 l) + (bv l / 4 &&& bm 51 l) = bv (l.map t2)
  | [], _ => rfl
  | b :: r, h => by
    have i := S2 r (fun b hb => h b (List.mem_cons_of_mem _ hb))
    have hb := h b List.mem_cons_self
    show ((b + 256 * bv r) &&& (51 + 256 * bm 51 r)) + ((b + 256 * bv r) / 4 &&& (51 + 256 * bm 51 r)) = t2 b + 256 * bv (r.map t2)
    rw [← i, show (b + 256 * bv r) / 4 = (b / 4 + 64 * (bv r % 4)) + 256 * (bv r / 4) by omega, and_split hb (by decide), and_split (by omega) (by decide), s2_fin _ (by omega) _ hb]
    unfold t2
    generalize (b &&& 51) = X
    generalize (b / 4 &&& 51) = X2
    generalize (bv r / 4 &&& bm 51 r) = Y
    generalize (bv r &&& bm 51 r) = Z
    omega
theorem S3 : ∀ l : List Nat, (∀ b, b ∈ l → b ≤ 68 ∧ b % 16 ≤ 4) → (bv l + bv l / 16) &&& bm 15 l = bv (l.map t3) ∧ bv l % 16 ≤ 4
  | [], _ => ⟨rfl, by decide⟩
  | b :: r, h => by
    have i := S3 r (fun b hb => h b (List.mem_cons_of_mem _ hb))
    have hb := h b List.mem_cons_self
    refine ⟨?_, by show (b + 256 * bv r) % 16 ≤ 4; omega⟩
    show ((b + 256 * bv r) + (b + 256 * bv r) / 16) &&& (15 + 256 * bm 15 r) = t3 b + 256 * bv (r.map t3)
    have i2 := i.2
    rw [← i.1, show (b + 256 * bv r) + (b + 256 * bv r) / 16 = (b + b / 16 + 16 * (bv r % 16)) + 256 * (bv r + bv r / 16) by omega, and_split (by omega) (by decide)]
    have e : ∀ x : Nat, x &&& 15 = x % 16 := fun x => Nat.and_two_pow_sub_one_eq_mod x 4
    unfold t3
    rw [e, e]
    generalize ((bv r + bv r / 16) &&& bm 15 r) = Y
    omega
theorem t1_fin : ∀ b, b < 256 → t1 b < 256 := by decide +kernel
theorem t2_fin : ∀ b, b < 256 → t2 (t1 b) ≤ 68 ∧ t2 (t1 b) % 16 ≤ 4 := by decide +kernel
/-- how many of the lowest n bits are set -/
def cb (x : Nat) : Nat → Nat
  | 0 => 0
  | n + 1 => cb x n + x / 2 ^ n % 2
theorem t3_fin : ∀ b, b < 256 → t3 (t2 (t1 b)) = cb b 8 := by decide +kernel
theorem cb_le {x : Nat} : ∀ n, cb x n ≤ n
  | 0 => Nat.le_refl 0
  | n + 1 => by
    have := cb_le (x := x) n
    unfold cb
    omega
theorem cb_mono {x n : Nat} : ∀ k, cb x n ≤ cb x (n + k)
  | 0 => Nat.le_refl _
  | k + 1 => by
    have := cb_mono (x := x) (n := n) k
    show _ ≤ cb x (n + k) + _
    omega
theorem cb_8 (x : Nat) : cb x 8 = cb (x % 256) 8 := by
  show ((((((((0 + x / 1 % 2) + x / 2 % 2) + x / 4 % 2) + x / 8 % 2) + x / 16 % 2) + x / 32 % 2) + x / 64 % 2) + x / 128 % 2) = ((((((((0 + (x % 256) / 1 % 2) + (x % 256) / 2 % 2) + (x % 256) / 4 % 2) + (x % 256) / 8 % 2) + (x % 256) / 16 % 2) + (x % 256) / 32 % 2) + (x % 256) / 64 % 2) + (x % 256) / 128 % 2)
  omega
theorem cb_split (x : Nat) : ∀ n, cb x (8 + n) = cb (x % 256) 8 + cb (x / 256) n
  | 0 => cb_8 x
  | n + 1 => by
    have i := cb_split x n
    show cb x (8 + n) + x / 2 ^ (8 + n) % 2 = cb (x % 256) 8 + (cb (x / 256) n + x / 256 / 2 ^ n % 2)
    rw [i, Nat.pow_add, ← Nat.div_div_eq_div_mul]
    show _ + x / 256 / 2 ^ n % 2 = _
    omega
def bys (x : Nat) : List Nat := [x % 256, x / 256 % 256, x / 65536 % 256, x / 16777216 % 256, x / 4294967296 % 256, x / 1099511627776 % 256, x / 281474976710656 % 256, x / 72057594037927936 % 256]
theorem bys_bv {x : Nat} (h : x < 18446744073709551616) : bv (bys x) = x := by
  show x % 256 + 256 * (x / 256 % 256 + 256 * (x / 65536 % 256 + 256 * (x / 16777216 % 256 + 256 * (x / 4294967296 % 256 + 256 * (x / 1099511627776 % 256 + 256 * (x / 281474976710656 % 256 + 256 * (x / 72057594037927936 % 256 + 256 * 0))))))) = x
  omega
theorem bys_lt {x : Nat} : ∀ b, b ∈ bys x → b < 256 := by
  intro b hb
  unfold bys at hb
  simp only [List.mem_cons, List.not_mem_nil, or_false] at hb
  omega
theorem cb_bys (x : Nat) : cb x 64 = cb (x % 256) 8 + (cb (x / 256 % 256) 8 + (cb (x / 65536 % 256) 8 + (cb (x / 16777216 % 256) 8 + (cb (x / 4294967296 % 256) 8 + (cb (x / 1099511627776 % 256) 8 + (cb (x / 281474976710656 % 256) 8 + cb (x / 72057594037927936 % 256) 8)))))) := by
  have e1 := cb_split x 56
  have e2 := cb_split (x / 256) 48
  have e3 := cb_split (x / 256 / 256) 40
  have e4 := cb_split (x / 256 / 256 / 256) 32
  have e5 := cb_split (x / 256 / 256 / 256 / 256) 24
  have e6 := cb_split (x / 256 / 256 / 256 / 256 / 256) 16
  have e7 := cb_split (x / 256 / 256 / 256 / 256 / 256 / 256) 8
  have e8 := cb_8 (x / 256 / 256 / 256 / 256 / 256 / 256 / 256)
  rw [e8] at e7
  rw [e7] at e6
  rw [e6] at e5
  rw [e5] at e4
  rw [e4] at e3
  rw [e3] at e2
  rw [e2] at e1
  rw [e1]
  simp only [Nat.div_div_eq_div_mul]
theorem bv8 {f : Nat → Nat} {a0 a1 a2 a3 a4 a5 a6 a7 : Nat} : bv [f a0, f a1, f a2, f a3, f a4, f a5, f a6, f a7] = f a0 + 256 * (f a1 + 256 * (f a2 + 256 * (f a3 + 256 * (f a4 + 256 * (f a5 + 256 * (f a6 + 256 * (f a7 + 256 * (0)))))))) := rfl
theorem bm8 {c a0 a1 a2 a3 a4 a5 a6 a7 : Nat} : bm c [a0, a1, a2, a3, a4, a5, a6, a7] = c + 256 * (c + 256 * (c + 256 * (c + 256 * (c + 256 * (c + 256 * (c + 256 * (c + 256 * (0)))))))) := rfl
/-- the six steps -/
theorem swar {x a b c d e f : Nat} (h : x < 18446744073709551616) (ha : a = x - (x / 2 &&& 6148914691236517205)) (hb : b = (a &&& 3689348814741910323) + (a / 4 &&& 3689348814741910323)) (hc : c = (b + b / 16) &&& 1085102592571150095) (hd : d = c + c / 256) (he : e = d + d / 65536) (hf : f = e + e / 4294967296) : f % 128 = cb x 64 := by
  have hl := bys_lt (x := x)
  have m1 : bm 85 (bys x) = 6148914691236517205 := bm8.trans (by decide)
  have m2 : bm 51 ((bys x).map t1) = 3689348814741910323 := (bm_map _).trans (bm8.trans (by decide))
  have m3 : bm 15 (((bys x).map t1).map t2) = 1085102592571150095 := (bm_map _).trans ((bm_map _).trans (bm8.trans (by decide)))
  have e1 := S1 (bys x) hl
  rw [bys_bv h, m1, ← ha] at e1
  have e2 := S2 ((bys x).map t1) (fun b hb => by
    obtain ⟨y, y1, rfl⟩ := List.mem_map.mp hb
    exact t1_fin y (hl y y1))
  rw [← e1, m2, ← hb] at e2
  have e3 := (S3 (((bys x).map t1).map t2) (fun b hb => by
    obtain ⟨z, z1, rfl⟩ := List.mem_map.mp hb
    obtain ⟨y, y1, rfl⟩ := List.mem_map.mp z1
    exact t2_fin y (hl y y1))).1
  rw [← e2, m3, ← hc] at e3
  have f0 := t3_fin (x % 256) (by omega)
  have f1 := t3_fin (x / 256 % 256) (by omega)
  have f2 := t3_fin (x / 65536 % 256) (by omega)
  have f3 := t3_fin (x / 16777216 % 256) (by omega)
  have f4 := t3_fin (x / 4294967296 % 256) (by omega)
  have f5 := t3_fin (x / 1099511627776 % 256) (by omega)
  have f6 := t3_fin (x / 281474976710656 % 256) (by omega)
  have f7 := t3_fin (x / 72057594037927936 % 256) (by omega)
  rw [List.map_map, List.map_map] at e3
  have e3 := e3.trans (bv8 (f := t3 ∘ t2 ∘ t1))
  simp only [Function.comp_apply] at e3
  rw [f0, f1, f2, f3, f4, f5, f6, f7] at e3
  rw [cb_bys]
  have g0 := cb_le (x := x % 256) 8
  have g1 := cb_le (x := x / 256 % 256) 8
  have g2 := cb_le (x := x / 65536 % 256) 8
  have g3 := cb_le (x := x / 16777216 % 256) 8
  have g4 := cb_le (x := x / 4294967296 % 256) 8
  have g5 := cb_le (x := x / 1099511627776 % 256) 8
  have g6 := cb_le (x := x / 281474976710656 % 256) 8
  have g7 := cb_le (x := x / 72057594037927936 % 256) 8
  clear f0 f1 f2 f3 f4 f5 f6 f7 e1 e2 hl m1 m2 m3 ha hb hc
  generalize cb (x % 256) 8 = p0 at *
  generalize cb (x / 256 % 256) 8 = p1 at *
  generalize cb (x / 65536 % 256) 8 = p2 at *
  generalize cb (x / 16777216 % 256) 8 = p3 at *
  generalize cb (x / 4294967296 % 256) 8 = p4 at *
  generalize cb (x / 1099511627776 % 256) 8 = p5 at *
  generalize cb (x / 281474976710656 % 256) 8 = p6 at *
  generalize cb (x / 72057594037927936 % 256) 8 = p7 at *
  have c1 : c / 256 = p1 + 256 * (p2 + 256 * (p3 + 256 * (p4 + 256 * (p5 + 256 * (p6 + 256 * (p7 + 256 * (0))))))) := by omega
  have d0 : d = (p0 + p1) + 256 * ((p1 + p2) + 256 * ((p2 + p3) + 256 * ((p3 + p4) + 256 * ((p4 + p5) + 256 * ((p5 + p6) + 256 * ((p6 + p7) + 256 * ((p7) + 256 * (0)))))))) := by omega
  have d1 : d / 65536 = (p2 + p3) + 256 * ((p3 + p4) + 256 * ((p4 + p5) + 256 * ((p5 + p6) + 256 * ((p6 + p7) + 256 * ((p7) + 256 * (0)))))) := by omega
  have e0 : e = (p0 + p1 + p2 + p3) + 256 * ((p1 + p2 + p3 + p4) + 256 * ((p2 + p3 + p4 + p5) + 256 * ((p3 + p4 + p5 + p6) + 256 * ((p4 + p5 + p6 + p7) + 256 * ((p5 + p6 + p7) + 256 * ((p6 + p7) + 256 * ((p7) + 256 * (0)))))))) := by omega
  have e1 : e / 4294967296 = (p4 + p5 + p6 + p7) + 256 * ((p5 + p6 + p7) + 256 * ((p6 + p7) + 256 * ((p7) + 256 * (0)))) := by omega
  clear hd he e3 c1 d0 d1
  omega
theorem and127 {v : Int64} : (v.toInt32 &&& 127).toInt = ((un v % 128 : Nat) : Int) := by
  have e : (v.toInt32 &&& 127).toBitVec.toNat = un v % 128 := by
    show (v.toBitVec.signExtend 32 &&& (127 : BitVec 32)).toNat = _
    rw [BitVec.signExtend_eq_setWidth_of_le _ (by decide), BitVec.toNat_and, BitVec.toNat_setWidth]
    show (un v % 4294967296) &&& 127 = _
    rw [show (127 : Nat) = 2 ^ 7 - 1 from rfl, Nat.and_two_pow_sub_one_eq_mod]
    omega
  show (v.toInt32 &&& 127).toBitVec.toInt = _
  rw [BitVec.toInt_eq_toNat_of_lt (by rw [e]; omega), e]

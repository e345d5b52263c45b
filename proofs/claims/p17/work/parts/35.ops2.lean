/-! the rest of the reckoning -/
section
variable {scr : SG} {σ : Nat → Int} {K : AK} {M : Mem} {a b : Nat} {p q : Int} {x y : Int32}
def aShr (K : AK) (a : Nat) (p : Int) (b : Nat) (q : Int) : AO :=
  bif ile 0 (aLo K a p) then (bif Nat.beq b 0 && ile 0 q && ile q 31 then aFi K (aLo K a p / 2 ^ q.toNat) (aHi K a p / 2 ^ q.toNat) else aFi K 0 (aHi K a p)) else aAny K
theorem aShr_ok (h : aK scr σ K M) (ha : a < K.1.length) (hx : x.toInt = σ a + p) (hy : y.toInt = σ b + q) : aRes scr σ K M (aShr K a p b q) (x >>> (y &&& 31)).toInt := by
  have bx := aLoHi h ha hx
  have h0 := h.2.1.1
  unfold aShr
  cases h1 : ile 0 (aLo K a p) with
  | false => exact aAny_ok h _
  | true =>
    have e1 := ile_iff.mp h1
    cases h2 : (Nat.beq b 0 && ile 0 q && ile q 31) with
    | true =>
      rw [Bool.and_eq_true, Bool.and_eq_true, ile_iff, ile_iff] at h2
      obtain ⟨⟨e2, e3⟩, e4⟩ := h2
      have e2 := Nat.eq_of_beq_eq_true e2
      subst e2
      rw [i32_shr_k (k := q.toNat) (by omega) (by omega)]
      have pp : (0 : Int) < 2 ^ q.toNat := Int.pow_pos (by omega)
      exact aFi_ok h (Int.ediv_le_ediv pp bx.1) (Int.ediv_le_ediv pp bx.2)
    | false =>
      have f := i32_shr_nn (x := x) (y := y &&& 31) (by omega)
      exact aFi_ok h f.1 (by omega)
def aUsh (K : AK) (a : Nat) (p : Int) : AO := bif ile 0 (aLo K a p) then aFi K 0 (aHi K a p) else aAny K
theorem aUsh_ok (h : aK scr σ K M) (ha : a < K.1.length) (hx : x.toInt = σ a + p) {z : UInt32} : aRes scr σ K M (aUsh K a p) ((x.toUInt32 >>> z).toInt32).toInt := by
  have bx := aLoHi h ha hx
  unfold aUsh
  cases h1 : ile 0 (aLo K a p) with
  | false => exact aAny_ok h _
  | true =>
    have e1 := ile_iff.mp h1
    have f := i32_ushr (x := x) (y := z) (by omega)
    exact aFi_ok h f.1 (by omega)
/-- the divisor isn't 0 -/
def aNz (K : AK) (b : Nat) (q : Int) : Bool := ile 1 (aLo K b q) || ile (aHi K b q) (-1) || memN b 0 (-q) K.2.2.1
theorem aNz_ok (h : aK scr σ K M) (hb : b < K.1.length) (hy : y.toInt = σ b + q) (hn : aNz K b q = true) : ¬ y = 0 := by
  have bY := aLoHi h hb hy
  have h0 := h.2.1.1
  intro e
  have e0 : y.toInt = 0 := by rw [e]; rfl
  unfold aNz at hn
  rw [Bool.or_eq_true, Bool.or_eq_true, ile_iff, ile_iff] at hn
  rcases hn with (h1 | h1) | h1
  · omega
  · omega
  · have := (h.2.2.1 _ _ _ (memN_ok h1)).2.2
    omega
def aDiv (K : AK) (a : Nat) (p : Int) (b : Nat) (q : Int) : AO :=
  bif ile 1 (aLo K b q) && ile 0 (aLo K a p) then
    (bif ieq (aLo K b q) (aHi K b q) then
      let o := aFi K (aLo K a p / aLo K b q) (aHi K a p / aLo K b q)
      (bif ile 2 (aLo K b q) && ile 1 (aLo K a p) then aAddZ o (o.2.1, a, p - 1 - o.2.2) else o)
    else aFi K 0 (aHi K a p))
  else aAny K
theorem aDiv_ok (h : aK scr σ K M) (ha : a < K.1.length) (hb : b < K.1.length) (hx : x.toInt = σ a + p) (hy : y.toInt = σ b + q) : aRes scr σ K M (aDiv K a p b q) (x / y).toInt := by
  have bx := aLoHi h ha hx
  have bY := aLoHi h hb hy
  unfold aDiv
  cases hi : (ile 1 (aLo K b q) && ile 0 (aLo K a p)) with
  | false => exact aAny_ok h _
  | true =>
    rw [Bool.and_eq_true, ile_iff, ile_iff] at hi
    rw [i32_div (by omega) (by omega)]
    have g0 : 0 ≤ x.toInt / y.toInt := Int.ediv_nonneg (by omega) (by omega)
    have g1 : x.toInt / y.toInt ≤ x.toInt := Int.ediv_le_self _ (by omega)
    cases h2 : ieq (aLo K b q) (aHi K b q) with
    | false => exact aFi_ok h g0 (by omega)
    | true =>
      have e2 := ieq_iff.mp h2
      have e3 : y.toInt = aLo K b q := by omega
      have f := aFi_ok h (x := x.toInt / y.toInt) (lo := aLo K a p / aLo K b q) (hi := aHi K a p / aLo K b q) (by rw [e3]; exact Int.ediv_le_ediv (by omega) bx.1) (by rw [e3]; exact Int.ediv_le_ediv (by omega) bx.2)
      dsimp only [cond_true]
      cases h3 : (ile 2 (aLo K b q) && ile 1 (aLo K a p)) with
      | false => exact f
      | true =>
        rw [Bool.and_eq_true, ile_iff, ile_iff] at h3
        refine aRes_Z f ?_
        intro σ' e1 e2 e4 e5
        have ea := e1 a ha
        refine ⟨e4, Nat.lt_of_lt_of_le ha e5, ?_⟩
        show σ' (aFi K _ _).2.1 - σ' a ≤ p - 1 - (aFi K _ _).2.2
        have l : x.toInt / y.toInt < x.toInt := Int.ediv_lt_of_lt_mul (by omega) (by
          have : x.toInt * 2 ≤ x.toInt * y.toInt := Int.mul_le_mul_of_nonneg_left (by omega) (by omega)
          omega)
        omega
def aRem (K : AK) (a : Nat) (p : Int) (b : Nat) (q : Int) : AO :=
  bif ile 1 (aLo K b q) then
    (bif ile 0 (aLo K a p) then
      let o := aFi K 0 (imin (aHi K a p) (aHi K b q - 1))
      aAddZ o (o.2.1, b, q - 1 - o.2.2)
    else aFi K (-(aHi K b q - 1)) (aHi K b q - 1))
  else aAny K
theorem aRem_ok (h : aK scr σ K M) (ha : a < K.1.length) (hb : b < K.1.length) (hx : x.toInt = σ a + p) (hy : y.toInt = σ b + q) : aRes scr σ K M (aRem K a p b q) (x - x / y * y).toInt := by
  have bx := aLoHi h ha hx
  have bY := aLoHi h hb hy
  unfold aRem
  cases h1 : ile 1 (aLo K b q) with
  | false => exact aAny_ok h _
  | true =>
    have e1 := ile_iff.mp h1
    cases h2 : ile 0 (aLo K a p) with
    | false =>
      have f := i32_rem_s (x := x) (y := y) (by omega)
      exact aFi_ok h (by omega) (by omega)
    | true =>
      have e2 := ile_iff.mp h2
      have g := i32_rem_nn (x := x) (y := y) (by omega) (by omega)
      have f := aFi_ok h (x := (x - x / y * y).toInt) (lo := 0) (hi := imin (aHi K a p) (aHi K b q - 1)) g.1 (imin_le (by omega) (by omega))
      refine aRes_Z f ?_
      intro σ' e1 e2 e4 e5
      have eb := e1 b hb
      refine ⟨e4, Nat.lt_of_lt_of_le hb e5, ?_⟩
      show σ' (aFi K _ _).2.1 - σ' b ≤ q - 1 - (aFi K _ _).2.2
      omega
def aNegI (K : AK) (a : Nat) (p : Int) : AO := bif ile (iMin + 1) (aLo K a p) then aFi K (-(aHi K a p)) (-(aLo K a p)) else aAny K
theorem aNegI_ok (h : aK scr σ K M) (ha : a < K.1.length) (hx : x.toInt = σ a + p) : aRes scr σ K M (aNegI K a p) (-x).toInt := by
  have bx := aLoHi h ha hx
  unfold aNegI
  cases h1 : ile (iMin + 1) (aLo K a p) with
  | false => exact aAny_ok h _
  | true =>
    have e1 := ile_iff.mp h1
    unfold iMin at e1
    rw [i32_neg (by omega)]
    exact aFi_ok h (by omega) (by omega)
def aI2b (K : AK) (a : Nat) (p : Int) : AO := bif ile (-128) (aLo K a p) && ile (aHi K a p) 127 then (K, a, p) else aFi K (-128) 127
theorem aI2b_ok (h : aK scr σ K M) (ha : a < K.1.length) (hx : x.toInt = σ a + p) : aRes scr σ K M (aI2b K a p) (x.toInt8.toInt32).toInt := by
  have bx := aLoHi h ha hx
  unfold aI2b
  cases h1 : (ile (-128) (aLo K a p) && ile (aHi K a p) 127) with
  | false => exact aFi_ok h i32_b.1 i32_b.2
  | true =>
    rw [Bool.and_eq_true, ile_iff, ile_iff] at h1
    rw [i32_b_in (by omega) (by omega)]
    exact aRes_same h ha hx
def aI2c (K : AK) (a : Nat) (p : Int) : AO := bif ile 0 (aLo K a p) && ile (aHi K a p) 65535 then (K, a, p) else aFi K 0 65535
theorem aI2c_ok (h : aK scr σ K M) (ha : a < K.1.length) (hx : x.toInt = σ a + p) : aRes scr σ K M (aI2c K a p) ((x.toUInt32 % 65536).toInt32).toInt := by
  have bx := aLoHi h ha hx
  unfold aI2c
  cases h1 : (ile 0 (aLo K a p) && ile (aHi K a p) 65535) with
  | false => exact aFi_ok h i32_c.1 i32_c.2
  | true =>
    rw [Bool.and_eq_true, ile_iff, ile_iff] at h1
    rw [i32_c_in (by omega) (by omega)]
    exact aRes_same h ha hx
end

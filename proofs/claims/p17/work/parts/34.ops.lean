/-! what is known of an answer of the machine's reckoning -/
def aLo (K : AK) (a : Nat) (p : Int) : Int := alb K.1 a K.2.1 + p
def aHi (K : AK) (a : Nat) (p : Int) : Int := aub K.1 a K.2.1 + p
theorem aLoHi {scr : SG} {σ : Nat → Int} {K : AK} {M : Mem} (h : aK scr σ K M) {a : Nat} (ha : a < K.1.length) {p x : Int} (hx : x = σ a + p) : aLo K a p ≤ x ∧ x ≤ aHi K a p := by
  have h1 := aub_ok h.2.1.2.1 ha K.2.1 h.2.1.2.2
  have h2 := alb_ok h.2.1.2.1 ha K.2.1 h.2.1.2.2
  unfold aLo aHi
  omega
abbrev AO : Type := AK × Nat × Int
def aFi (K : AK) (lo hi : Int) : AO := bif ieq lo hi then (K, 0, lo) else (aNew K lo hi, K.1.length, 0)
def aRes (scr : SG) (σ : Nat → Int) (K : AK) (M : Mem) (o : AO) (x : Int) : Prop := ∃ σ', aExt K.1.length σ σ' ∧ K.1.length ≤ o.1.1.length ∧ aK scr σ' o.1 M ∧ o.2.1 < o.1.1.length ∧ x = σ' o.2.1 + o.2.2
theorem aFi_ok {scr : SG} {σ : Nat → Int} {K : AK} {M : Mem} (h : aK scr σ K M) {lo hi x : Int} (h1 : lo ≤ x) (h2 : x ≤ hi) : aRes scr σ K M (aFi K lo hi) x := by
  unfold aFi
  cases he : ieq lo hi with
  | true =>
    have e := ieq_iff.mp he
    have z := h.2.1.1
    exact ⟨σ, aExt.rf, Nat.le_refl _, h, h.1, by show x = σ 0 + lo; omega⟩
  | false =>
    have hl : (aNew K lo hi).1.length = K.1.length + 1 := by
      show (K.1 ++ [(lo, hi)]).length = _
      rw [List.length_append]; rfl
    refine ⟨aUp σ K.1.length x, aUp_ext, ?_, aNew_ok h h1 h2, ?_, ?_⟩
    · show K.1.length ≤ (aNew K lo hi).1.length; omega
    · show K.1.length < (aNew K lo hi).1.length; omega
    · show x = aUp σ K.1.length x K.1.length + 0
      have : aUp σ K.1.length x K.1.length = x := if_pos rfl
      omega
theorem aRes_same {scr : SG} {σ : Nat → Int} {K : AK} {M : Mem} (h : aK scr σ K M) {a : Nat} (ha : a < K.1.length) {p x : Int} (hx : x = σ a + p) : aRes scr σ K M (K, a, p) x := ⟨σ, aExt.rf, Nat.le_refl _, h, ha, hx⟩
def aAddZ (o : AO) (z : Nat × Nat × Int) : AO := ((o.1.1, z :: o.1.2.1, o.1.2.2), o.2)
def iMin : Int := -2147483648
def iMax : Int := 2147483647
def aIn (lo hi : Int) : Bool := ile iMin lo && ile hi iMax
theorem aIn_ok {lo hi x : Int} (h : aIn lo hi = true) (h1 : lo ≤ x) (h2 : x ≤ hi) : -2147483648 ≤ x ∧ x ≤ 2147483647 := by
  unfold aIn at h
  rw [Bool.and_eq_true, ile_iff, ile_iff] at h
  unfold iMin iMax at h
  omega
def aAny (K : AK) : AO := aFi K iMin iMax
theorem aAny_ok {scr : SG} {σ : Nat → Int} {K : AK} {M : Mem} (h : aK scr σ K M) (x : Int32) : aRes scr σ K M (aAny K) x.toInt := aFi_ok h (i32_rng x).1 (i32_rng x).2
/-- one more difference that holds -/
theorem aRes_Z {scr : SG} {σ : Nat → Int} {K : AK} {M : Mem} {o : AO} {x : Int} (h : aRes scr σ K M o x) {z : Nat × Nat × Int} (hz : ∀ σ', aExt K.1.length σ σ' → x = σ' o.2.1 + o.2.2 → o.2.1 < o.1.1.length → K.1.length ≤ o.1.1.length → z.1 < o.1.1.length ∧ z.2.1 < o.1.1.length ∧ σ' z.1 - σ' z.2.1 ≤ z.2.2) : aRes scr σ K M (aAddZ o z) x := by
  obtain ⟨σ', h1, h2, h3, h4, h5⟩ := h
  refine ⟨σ', h1, h2, ⟨h3.1, ⟨h3.2.1.1, h3.2.1.2.1, ?_⟩, h3.2.2⟩, h4, h5⟩
  intro a b c hm
  have hm : (a, b, c) ∈ z :: o.1.2.1 := hm
  cases List.mem_cons.mp hm with
  | inl e => have := hz σ' h1 h5 h4 h2; rw [← e] at this; exact this
  | inr e => exact h3.2.1.2.2 a b c e
def aAdd (K : AK) (a : Nat) (p : Int) (b : Nat) (q : Int) : AO :=
  let l1 := aLo K a p
  let h1 := aHi K a p
  let l2 := aLo K b q
  let h2 := aHi K b q
  bif aIn (l1 + l2) (h1 + h2) then
    (bif Nat.beq b 0 then (K, a, p + q) else bif Nat.beq a 0 then (K, b, p + q) else
      let o := aFi K (l1 + l2) (h1 + h2)
      aAddZ (aAddZ (aAddZ (aAddZ o (o.2.1, a, p + h2 - o.2.2)) (a, o.2.1, o.2.2 - p - l2)) (o.2.1, b, q + h1 - o.2.2)) (b, o.2.1, o.2.2 - q - l1))
  else aAny K
section
variable {scr : SG} {σ : Nat → Int} {K : AK} {M : Mem} {a b : Nat} {p q : Int} {x y : Int32}
theorem aAdd_ok (h : aK scr σ K M) (ha : a < K.1.length) (hb : b < K.1.length) (hx : x.toInt = σ a + p) (hy : y.toInt = σ b + q) : aRes scr σ K M (aAdd K a p b q) (x + y).toInt := by
  have bx := aLoHi h ha hx
  have bY := aLoHi h hb hy
  have h0 := h.2.1.1
  unfold aAdd
  dsimp only
  cases hi : aIn (aLo K a p + aLo K b q) (aHi K a p + aHi K b q) with
  | false => exact aAny_ok h _
  | true =>
    have r := aIn_ok hi (x := x.toInt + y.toInt) (by omega) (by omega)
    rw [i32_add r.1 r.2]
    cases h1 : Nat.beq b 0 with
    | true =>
      have e := Nat.eq_of_beq_eq_true h1
      subst e
      exact aRes_same h ha (by omega)
    | false =>
      cases h2 : Nat.beq a 0 with
      | true =>
        have e := Nat.eq_of_beq_eq_true h2
        subst e
        exact aRes_same h hb (by omega)
      | false =>
        have f := aFi_ok h (x := x.toInt + y.toInt) (lo := aLo K a p + aLo K b q) (hi := aHi K a p + aHi K b q) (by omega) (by omega)
        refine aRes_Z (aRes_Z (aRes_Z (aRes_Z f ?_) ?_) ?_) ?_
        · intro σ' e1 e2 e3 e4
          have ea := e1 a ha
          exact ⟨e3, Nat.lt_of_lt_of_le ha e4, by show σ' (aFi K _ _).2.1 - σ' a ≤ p + aHi K b q - (aFi K _ _).2.2; omega⟩
        · intro σ' e1 e2 e3 e4
          have ea := e1 a ha
          exact ⟨Nat.lt_of_lt_of_le ha e4, e3, by show σ' a - σ' (aFi K _ _).2.1 ≤ (aFi K _ _).2.2 - p - aLo K b q; have e2 : _ = σ' (aFi K _ _).2.1 + (aFi K _ _).2.2 := e2; omega⟩
        · intro σ' e1 e2 e3 e4
          have eb := e1 b hb
          exact ⟨e3, Nat.lt_of_lt_of_le hb e4, by show σ' (aFi K _ _).2.1 - σ' b ≤ q + aHi K a p - (aFi K _ _).2.2; have e2 : _ = σ' (aFi K _ _).2.1 + (aFi K _ _).2.2 := e2; omega⟩
        · intro σ' e1 e2 e3 e4
          have eb := e1 b hb
          exact ⟨Nat.lt_of_lt_of_le hb e4, e3, by show σ' b - σ' (aFi K _ _).2.1 ≤ (aFi K _ _).2.2 - q - aLo K a p; have e2 : _ = σ' (aFi K _ _).2.1 + (aFi K _ _).2.2 := e2; omega⟩
def aSub (K : AK) (a : Nat) (p : Int) (b : Nat) (q : Int) : AO :=
  bif Nat.beq a b then (bif aIn (p - q) (p - q) then (K, 0, p - q) else aAny K)
  else bif aIn (aLo K a p - aHi K b q) (aHi K a p - aLo K b q) then (bif Nat.beq b 0 then (K, a, p - q) else aFi K (aLo K a p - aHi K b q) (aHi K a p - aLo K b q)) else aAny K
theorem aSub_ok (h : aK scr σ K M) (ha : a < K.1.length) (hb : b < K.1.length) (hx : x.toInt = σ a + p) (hy : y.toInt = σ b + q) : aRes scr σ K M (aSub K a p b q) (x - y).toInt := by
  have bx := aLoHi h ha hx
  have bY := aLoHi h hb hy
  have h0 := h.2.1.1
  unfold aSub
  cases he : Nat.beq a b with
  | true =>
    have e := Nat.eq_of_beq_eq_true he
    subst e
    cases hi : aIn (p - q) (p - q) with
    | false => exact aAny_ok h _
    | true =>
      have r := aIn_ok hi (x := x.toInt - y.toInt) (by omega) (by omega)
      rw [i32_sub r.1 r.2]
      exact aRes_same h h.1 (by omega)
  | false =>
    cases hi : aIn (aLo K a p - aHi K b q) (aHi K a p - aLo K b q) with
    | false => exact aAny_ok h _
    | true =>
      have r := aIn_ok hi (x := x.toInt - y.toInt) (by omega) (by omega)
      rw [i32_sub r.1 r.2]
      cases h1 : Nat.beq b 0 with
      | true =>
        have e := Nat.eq_of_beq_eq_true h1
        subst e
        exact aRes_same h ha (by omega)
      | false => exact aFi_ok h (by omega) (by omega)
def aMul (K : AK) (a : Nat) (p : Int) (b : Nat) (q : Int) : AO :=
  bif ile 0 (aLo K a p) && ile 0 (aLo K b q) && ile (aHi K a p * aHi K b q) iMax then aFi K (aLo K a p * aLo K b q) (aHi K a p * aHi K b q) else aAny K
theorem aMul_ok (h : aK scr σ K M) (ha : a < K.1.length) (hb : b < K.1.length) (hx : x.toInt = σ a + p) (hy : y.toInt = σ b + q) : aRes scr σ K M (aMul K a p b q) (x * y).toInt := by
  have bx := aLoHi h ha hx
  have bY := aLoHi h hb hy
  unfold aMul
  cases hi : (ile 0 (aLo K a p) && ile 0 (aLo K b q) && ile (aHi K a p * aHi K b q) iMax) with
  | false => exact aAny_ok h _
  | true =>
    rw [Bool.and_eq_true, Bool.and_eq_true, ile_iff, ile_iff, ile_iff] at hi
    obtain ⟨⟨e1, e2⟩, e3⟩ := hi
    unfold iMax at e3
    have l1 : aLo K a p * aLo K b q ≤ x.toInt * y.toInt := Int.mul_le_mul bx.1 bY.1 e2 (by omega)
    have l2 : x.toInt * y.toInt ≤ aHi K a p * aHi K b q := Int.mul_le_mul bx.2 bY.2 (by omega) (by omega)
    have l3 : 0 ≤ x.toInt * y.toInt := Int.mul_nonneg (by omega) (by omega)
    rw [i32_mul (by omega) (by omega)]
    exact aFi_ok h l1 l2
def aAnd (K : AK) (a : Nat) (p : Int) (b : Nat) (q : Int) : AO :=
  bif ile 0 (aLo K a p) then (bif ile 0 (aLo K b q) then aFi K 0 (imin (aHi K a p) (aHi K b q)) else aFi K 0 (aHi K a p)) else bif ile 0 (aLo K b q) then aFi K 0 (aHi K b q) else aAny K
theorem aAnd_ok (h : aK scr σ K M) (ha : a < K.1.length) (hb : b < K.1.length) (hx : x.toInt = σ a + p) (hy : y.toInt = σ b + q) : aRes scr σ K M (aAnd K a p b q) (x &&& y).toInt := by
  have bx := aLoHi h ha hx
  have bY := aLoHi h hb hy
  unfold aAnd
  cases h1 : ile 0 (aLo K a p) with
  | true =>
    have e1 := ile_iff.mp h1
    have f1 := i32_and_l (x := x) (y := y) (by omega)
    cases h2 : ile 0 (aLo K b q) with
    | true =>
      have e2 := ile_iff.mp h2
      have f2 := i32_and_r (x := x) (y := y) (by omega)
      exact aFi_ok h (by omega) (imin_le (by omega) (by omega))
    | false => exact aFi_ok h (by omega) (by omega)
  | false =>
    cases h2 : ile 0 (aLo K b q) with
    | true =>
      have e2 := ile_iff.mp h2
      have f2 := i32_and_r (x := x) (y := y) (by omega)
      exact aFi_ok h (by omega) (by omega)
    | false => exact aAny_ok h _
def aPw (h : Int) : Nat := Nat.log2 h.toNat + 1
theorem aPw_ok {h x : Int} (h1 : x ≤ h) (h0 : 0 ≤ x) : x < 2 ^ aPw h := by
  have a : h.toNat < 2 ^ (Nat.log2 h.toNat + 1) := Nat.lt_log2_self
  have p : ((2 ^ aPw h : Nat) : Int) = 2 ^ aPw h := by exact Int.natCast_pow 2 _
  unfold aPw at p ⊢
  omega
def aOr (K : AK) (a : Nat) (p : Int) (b : Nat) (q : Int) : AO :=
  bif ile 0 (aLo K a p) && ile 0 (aLo K b q) && Nat.ble (aPw (imax (aHi K a p) (aHi K b q))) 31 then aFi K 0 (2 ^ aPw (imax (aHi K a p) (aHi K b q)) - 1) else aAny K
theorem imax_l {a b : Int} : a ≤ imax a b := by
  unfold imax
  cases h : ile a b with
  | true => exact ile_iff.mp h
  | false => exact Int.le_refl _
theorem imax_r {a b : Int} : b ≤ imax a b := by
  unfold imax
  cases h : ile a b with
  | true => exact Int.le_refl _
  | false =>
    have : ¬ a ≤ b := fun e => by rw [ile_iff.mpr e] at h; cases h
    show b ≤ a
    omega
theorem aOr_ok (h : aK scr σ K M) (ha : a < K.1.length) (hb : b < K.1.length) (hx : x.toInt = σ a + p) (hy : y.toInt = σ b + q) : aRes scr σ K M (aOr K a p b q) (x ||| y).toInt ∧ aRes scr σ K M (aOr K a p b q) (x ^^^ y).toInt := by
  have bx := aLoHi h ha hx
  have bY := aLoHi h hb hy
  unfold aOr
  cases hi : (ile 0 (aLo K a p) && ile 0 (aLo K b q) && Nat.ble (aPw (imax (aHi K a p) (aHi K b q))) 31) with
  | false => exact ⟨aAny_ok h _, aAny_ok h _⟩
  | true =>
    rw [Bool.and_eq_true, Bool.and_eq_true, ile_iff, ile_iff] at hi
    obtain ⟨⟨e1, e2⟩, e3⟩ := hi
    have e3 := Nat.le_of_ble_eq_true e3
    have m1 := imax_l (a := aHi K a p) (b := aHi K b q)
    have m2 := imax_r (a := aHi K a p) (b := aHi K b q)
    have p1 := aPw_ok (h := imax (aHi K a p) (aHi K b q)) (x := x.toInt) (by omega) (by omega)
    have p2 := aPw_ok (h := imax (aHi K a p) (aHi K b q)) (x := y.toInt) (by omega) (by omega)
    have r1 := i32_or e3 (by omega) (by omega) p1 p2
    have r2 := i32_xor e3 (by omega) (by omega) p1 p2
    exact ⟨aFi_ok h r1.1 (by omega), aFi_ok h r2.1 (by omega)⟩
end

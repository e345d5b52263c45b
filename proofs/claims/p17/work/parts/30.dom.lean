/-! what is known of values and memory at a place: ints as a symbol and a constant, symbols with bounds and differences -/
def ile (a b : Int) : Bool := match b - a with
  | .ofNat _ => true
  | .negSucc _ => false
theorem ile_iff {a b : Int} : ile a b = true ↔ a ≤ b := by
  unfold ile
  cases h : b - a with
  | ofNat n => exact ⟨fun _ => by have : (0 : Int) ≤ b - a := by rw [h]; exact Int.natCast_nonneg n
                                  omega, fun _ => rfl⟩
  | negSucc n => exact ⟨(fun h => nomatch h), fun h' => by have : b - a < 0 := by rw [h]; exact Int.negSucc_lt_zero n
                                                           omega⟩
/-- a value: 0 anything, 1 an int (symbol, constant), 2 a reference into a group, 3 a long, 4 the String, 5 the script (its length's symbol) -/
abbrev AV : Type := Nat × Nat × Int
/-- a slot's type: 0 anything, 1 an int of these bounds, 2 a reference into one of these groups, 3 a long -/
abbrev AT : Type := Nat × Int × Int × List Nat
abbrev AB : Type := List (Int × Int)
abbrev AZ : Type := List (Nat × Nat × Int)
abbrev AF : Type := List (Nat × Nat × AV)
def aGk (scr : SG) (σ : Nat → Int) (n : Nat) (k s : Nat) (c : Int) (w : Value) : Prop := match k with
  | 0 => True
  | 1 => s < n ∧ ∃ x : Int32, w = .int x ∧ x.toInt = σ s + c
  | 2 => ∃ a, w = .ref a ∧ 2 ≤ a ∧ a < tEnd ∧ tGrp a = s ∧ (0 < c → c.toNat < n ∧ (a : Int) = s + σ c.toNat)
  | 3 => ∃ x, w = .long x
  | 4 => w = .ref 1
  | _ => s < n ∧ w = .ref 0 ∧ σ s = (scr.1.length : Int)
def aG (scr : SG) (σ : Nat → Int) (n : Nat) (v : AV) (w : Value) : Prop := aGk scr σ n v.1 v.2.1 v.2.2 w
def aTyk (k : Nat) (lo hi : Int) (gs : List Nat) (w : Value) : Prop := match k with
  | 0 => True
  | 1 => ∃ x : Int32, w = .int x ∧ lo ≤ x.toInt ∧ x.toInt ≤ hi
  | 2 => ∃ a, w = .ref a ∧ 2 ≤ a ∧ a < tEnd ∧ tGrp a ∈ gs
  | _ => ∃ x, w = .long x
def aTy (t : AT) (w : Value) : Prop := aTyk t.1 t.2.1 t.2.2.1 t.2.2.2 w
/-- the machine's own way of counting an int's bits -/
def ushr (x y : Int32) : Int32 := (x.toUInt32 >>> (y.toUInt32 &&& Int32.toUInt32 31)).toInt32
def i1 (x : Int32) : Int32 := x - (ushr x 1 &&& 1431655765)
def i2 (v : Int32) : Int32 := (v &&& 858993459) + (ushr v 2 &&& 858993459)
def i3 (v : Int32) : Int32 := (v + ushr v 4) &&& 252645135
def i4 (v : Int32) : Int32 := v + ushr v 8
def i5 (v : Int32) : Int32 := v + ushr v 16
def bcI (x : Int32) : Int32 := i5 (i4 (i3 (i2 (i1 x)))) &&& 63
/-- what was read of the script, from the place of the call on; a quarter of the tape; how many bits -/
def x8 (scr : SG) : Prop := (0 ≤ (scr.2 1010 0).toInt → ∀ c, 1 ≤ c → c ≤ 8 → scr.1[(scr.2 1010 0).toInt.toNat + c]? = some (scr.2 1011 c)) ∧ (scr.2 1012 1).toInt = (scr.2 1012 0).toInt / 4 ∧ scr.2 1013 1 = bcI (scr.2 1013 0)
/-- the memory is as the tables say -/
def aMem (scr : SG) (M : Mem) : Prop := (M[0]? = some (64, scr.1.map .int) ∧ x8 scr ∧ xx scr.2 M) ∧ M[1]? = some (63, []) ∧ (∀ c, 2 ≤ c → c < tEnd → ∃ fs, M[c]? = some (tTag (tGrp c), fs) ∧ fs.length = tSiz (tGrp c) ∧ ∀ i w, fs[i]? = some w → aTy (tTy (tGrp c) i) w) ∧ tXI scr.2 M
def aFs (scr : SG) (σ : Nat → Int) (n : Nat) (F : AF) (M : Mem) : Prop := ∀ g i v, (g, i, v) ∈ F → (∀ a, 2 ≤ a → a < tEnd → tGrp a = g → ∃ w, mSlot M a i = some w ∧ aG scr σ n v w) ∧ (1000 ≤ g → aG scr σ n v (.int (scr.2 g i)))
def aLs (scr : SG) (σ : Nat → Int) (n : Nat) (A : List AV) (L : MLoc) : Prop := ∀ i v, A[i]? = some v → v.1 = 0 ∨ ∃ w, mLd L i = some w ∧ aG scr σ n v w
def aSs (scr : SG) (σ : Nat → Int) (n : Nat) : List AV → List Value → Prop
  | [], [] => True
  | v :: A, w :: st => aG scr σ n v w ∧ aSs scr σ n A st
  | _, _ => False
def aNs (σ : Nat → Int) (n : Nat) (N : AZ) : Prop := ∀ a b c, (a, b, c) ∈ N → a < n ∧ b < n ∧ σ a - σ b ≠ c
def ub0 (B : List (Int × Int)) (s : Nat) : Int := (B.getD s (0, 0)).2
def lb0 (B : List (Int × Int)) (s : Nat) : Int := (B.getD s (0, 0)).1
def imin (a b : Int) : Int := bif ile a b then a else b
def imax (a b : Int) : Int := bif ile a b then b else a
theorem imin_le {x a b : Int} (h1 : x ≤ a) (h2 : x ≤ b) : x ≤ imin a b := by
  unfold imin; cases ile a b <;> assumption
theorem imax_le {x a b : Int} (h1 : a ≤ x) (h2 : b ≤ x) : imax a b ≤ x := by
  unfold imax; cases ile a b <;> assumption
def aub (B : List (Int × Int)) (s : Nat) : List (Nat × Nat × Int) → Int
  | [] => ub0 B s
  | (a, b, c) :: r => bif Nat.beq a s then imin (aub B s r) (ub0 B b + c) else aub B s r
def alb (B : List (Int × Int)) (s : Nat) : List (Nat × Nat × Int) → Int
  | [] => lb0 B s
  | (a, b, c) :: r => bif Nat.beq b s then imax (alb B s r) (lb0 B a - c) else alb B s r
/-- what the numbers alone say -/
def aNum (σ : Nat → Int) (B : AB) (Z : AZ) : Prop := σ 0 = 0 ∧ (∀ i lo hi, B[i]? = some (lo, hi) → lo ≤ σ i ∧ σ i ≤ hi) ∧ (∀ a b c, (a, b, c) ∈ Z → a < B.length ∧ b < B.length ∧ σ a - σ b ≤ c)
theorem ub0_ok {σ : Nat → Int} {B : List (Int × Int)} (hb : ∀ i lo hi, B[i]? = some (lo, hi) → lo ≤ σ i ∧ σ i ≤ hi) {s : Nat} (hs : s < B.length) : lb0 B s ≤ σ s ∧ σ s ≤ ub0 B s := by
  unfold lb0 ub0
  rw [List.getD_eq_getElem?_getD, List.getElem?_eq_getElem hs]
  exact hb s _ _ (List.getElem?_eq_getElem hs)
theorem aub_ok {σ : Nat → Int} {B : List (Int × Int)} (hb : ∀ i lo hi, B[i]? = some (lo, hi) → lo ≤ σ i ∧ σ i ≤ hi) {s : Nat} (hs : s < B.length) : ∀ (Z : List (Nat × Nat × Int)), (∀ a b c, (a, b, c) ∈ Z → a < B.length ∧ b < B.length ∧ σ a - σ b ≤ c) → σ s ≤ aub B s Z
  | [], _ => (ub0_ok hb hs).2
  | (a, b, c) :: r, h => by
    have ih := aub_ok hb hs r (fun a b c hm => h a b c (List.mem_cons_of_mem _ hm))
    have h1 := h a b c List.mem_cons_self
    unfold aub
    cases hq : Nat.beq a s with
    | true =>
      have e := Nat.eq_of_beq_eq_true hq
      subst e
      have := (ub0_ok hb h1.2.1).2
      exact imin_le ih (by omega)
    | false => exact ih
theorem alb_ok {σ : Nat → Int} {B : List (Int × Int)} (hb : ∀ i lo hi, B[i]? = some (lo, hi) → lo ≤ σ i ∧ σ i ≤ hi) {s : Nat} (hs : s < B.length) : ∀ (Z : List (Nat × Nat × Int)), (∀ a b c, (a, b, c) ∈ Z → a < B.length ∧ b < B.length ∧ σ a - σ b ≤ c) → alb B s Z ≤ σ s
  | [], _ => (ub0_ok hb hs).1
  | (a, b, c) :: r, h => by
    have ih := alb_ok hb hs r (fun a b c hm => h a b c (List.mem_cons_of_mem _ hm))
    have h1 := h a b c List.mem_cons_self
    unfold alb
    cases hq : Nat.beq b s with
    | true =>
      have e := Nat.eq_of_beq_eq_true hq
      subst e
      have := (ub0_ok hb h1.1).1
      exact imax_le ih (by omega)
    | false => exact ih
/-- sigma a - sigma b is at most c -/
def entZ1 (a b : Nat) (c : Int) : List (Nat × Nat × Int) → Bool
  | [] => false
  | (x, y, d) :: r => bif Nat.beq x a && Nat.beq y b && ile d c then true else entZ1 a b c r
def entZ2 (Z : List (Nat × Nat × Int)) (a b : Nat) (c : Int) : List (Nat × Nat × Int) → Bool
  | [] => false
  | (x, y, d) :: r => bif Nat.beq x a && entZ1 y b (c - d) Z then true else entZ2 Z a b c r
def ent (B : List (Int × Int)) (Z : List (Nat × Nat × Int)) (a b : Nat) (c : Int) : Bool :=
  bif Nat.beq a b then ile 0 c else bif entZ1 a b c Z then true else bif ile (aub B a Z - alb B b Z) c then true else entZ2 Z a b c Z
theorem entZ1_ok {σ : Nat → Int} {a b : Nat} {c : Int} : ∀ (Z : List (Nat × Nat × Int)), (∀ a b c, (a, b, c) ∈ Z → σ a - σ b ≤ c) → entZ1 a b c Z = true → σ a - σ b ≤ c
  | [], _, h => nomatch h
  | (x, y, d) :: r, hz, h => by
    unfold entZ1 at h
    cases hq : (Nat.beq x a && Nat.beq y b && ile d c) with
    | true =>
      rw [Bool.and_eq_true, Bool.and_eq_true] at hq
      have e1 := Nat.eq_of_beq_eq_true hq.1.1
      have e2 := Nat.eq_of_beq_eq_true hq.1.2
      have e3 := ile_iff.mp hq.2
      subst e1; subst e2
      have := hz x y d List.mem_cons_self
      omega
    | false =>
      rw [hq] at h
      exact entZ1_ok r (fun a b c hm => hz a b c (List.mem_cons_of_mem _ hm)) h
theorem entZ2_ok {σ : Nat → Int} {a b : Nat} {c : Int} {Z : List (Nat × Nat × Int)} (h0 : ∀ a b c, (a, b, c) ∈ Z → σ a - σ b ≤ c) : ∀ (Y : List (Nat × Nat × Int)), (∀ a b c, (a, b, c) ∈ Y → σ a - σ b ≤ c) → entZ2 Z a b c Y = true → σ a - σ b ≤ c
  | [], _, h => nomatch h
  | (x, y, d) :: r, hz, h => by
    unfold entZ2 at h
    cases hq : (Nat.beq x a && entZ1 y b (c - d) Z) with
    | true =>
      rw [Bool.and_eq_true] at hq
      have e1 := Nat.eq_of_beq_eq_true hq.1
      have e2 := entZ1_ok Z h0 hq.2
      subst e1
      have := hz x y d List.mem_cons_self
      omega
    | false =>
      rw [hq] at h
      exact entZ2_ok h0 r (fun a b c hm => hz a b c (List.mem_cons_of_mem _ hm)) h
theorem ent_ok {σ : Nat → Int} {B : List (Int × Int)} {Z : List (Nat × Nat × Int)} (h : aNum σ B Z) {a b : Nat} (ha : a < B.length) (hb : b < B.length) {c : Int} (he : ent B Z a b c = true) : σ a - σ b ≤ c := by
  unfold ent at he
  cases h1 : Nat.beq a b with
  | true =>
    rw [h1] at he
    have e := Nat.eq_of_beq_eq_true h1
    have := ile_iff.mp he
    subst e
    omega
  | false =>
    rw [h1] at he
    have hz : ∀ a b c, (a, b, c) ∈ Z → σ a - σ b ≤ c := fun a b c hm => (h.2.2 a b c hm).2.2
    cases h3 : entZ1 a b c Z with
    | true => exact entZ1_ok Z hz h3
    | false =>
      rw [h3] at he
      cases h2 : ile (aub B a Z - alb B b Z) c with
      | true =>
        have := ile_iff.mp h2
        have := aub_ok h.2.1 ha Z h.2.2
        have := alb_ok h.2.1 hb Z h.2.2
        omega
      | false =>
        rw [h2] at he
        exact entZ2_ok hz Z hz he

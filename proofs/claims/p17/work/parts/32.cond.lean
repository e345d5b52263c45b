/-! what a comparison tells -/
def ieq (a b : Int) : Bool := ile a b && ile b a
theorem ieq_iff {a b : Int} : ieq a b = true ↔ a = b := by
  unfold ieq
  rw [Bool.and_eq_true, ile_iff, ile_iff]
  omega
theorem ieq_false {a b : Int} (h : ieq a b = false) : a ≠ b := fun e => by
  rw [ieq_iff.mpr e] at h; cases h
/-- suppose sigma s isn't k -/
def aNe1 (K : AK) (s : Nat) (k : Int) : Option AK :=
  bif ieq (lb0 K.1 s) k then (bif ieq (ub0 K.1 s) k then none else some (K.1.set s (k + 1, ub0 K.1 s), K.2)) else (bif ieq (ub0 K.1 s) k then some (K.1.set s (lb0 K.1 s, k - 1), K.2) else some K)
theorem aK_set {scr : SG} {σ : Nat → Int} {K : AK} {M : Mem} (h : aK scr σ K M) {s : Nat} {lo hi : Int} (h1 : lo ≤ σ s) (h2 : σ s ≤ hi) : aK scr σ (K.1.set s (lo, hi), K.2) M := by
  obtain ⟨hp, hn, hs, hf⟩ := h
  have hl : (K.1.set s (lo, hi)).length = K.1.length := List.length_set
  refine ⟨by show 0 < (K.1.set s (lo, hi)).length; omega, ⟨hn.1, set_bnd hn.2.1 h1 h2, ?_⟩, ?_, ?_⟩
  · show ∀ a b c, (a, b, c) ∈ K.2.1 → a < (K.1.set s (lo, hi)).length ∧ b < (K.1.set s (lo, hi)).length ∧ _
    rw [hl]; exact hn.2.2
  · show aNs σ (K.1.set s (lo, hi)).length K.2.2.1
    rw [hl]; exact hs
  · show aFs scr σ (K.1.set s (lo, hi)).length K.2.2.2 M
    rw [hl]; exact hf
theorem aNe1_ok {scr : SG} {σ : Nat → Int} {K : AK} {M : Mem} (h : aK scr σ K M) {s : Nat} (hs : s < K.1.length) {k : Int} (hk : σ s ≠ k) : ∃ K', aNe1 K s k = some K' ∧ aK scr σ K' M ∧ K'.1.length = K.1.length := by
  have hb := ub0_ok h.2.1.2.1 hs
  unfold aNe1
  cases h1 : ieq (lb0 K.1 s) k with
  | true =>
    have e1 := ieq_iff.mp h1
    cases h2 : ieq (ub0 K.1 s) k with
    | true => have e2 := ieq_iff.mp h2; omega
    | false => exact ⟨_, rfl, aK_set h (by omega) hb.2, List.length_set⟩
  | false =>
    cases h2 : ieq (ub0 K.1 s) k with
    | true => have e2 := ieq_iff.mp h2; exact ⟨_, rfl, aK_set h hb.1 (by omega), List.length_set⟩
    | false => exact ⟨K, rfl, h, rfl⟩
def aNe0 (K : AK) (a b : Nat) (d : Int) : Option AK :=
  bif Nat.beq a b then (bif ieq d 0 then none else some K)
  else match (bif Nat.beq b 0 then aNe1 K a d else bif Nat.beq a 0 then aNe1 K b (-d) else some K) with
    | none => none
    | some K' => some (K'.1, K'.2.1, (a, b, d) :: K'.2.2.1, K'.2.2.2)
theorem aNe0_ok {scr : SG} {σ : Nat → Int} {K : AK} {M : Mem} (h : aK scr σ K M) {a b : Nat} (ha : a < K.1.length) (hb : b < K.1.length) {d : Int} (hd : σ a - σ b ≠ d) : ∃ K', aNe0 K a b d = some K' ∧ aK scr σ K' M ∧ K'.1.length = K.1.length := by
  unfold aNe0
  cases h1 : Nat.beq a b with
  | true =>
    have e := Nat.eq_of_beq_eq_true h1
    subst e
    cases h2 : ieq d 0 with
    | true => have := ieq_iff.mp h2; omega
    | false => exact ⟨K, rfl, h, rfl⟩
  | false =>
    have fin : ∀ K', aK scr σ K' M → K'.1.length = K.1.length → aK scr σ (K'.1, K'.2.1, (a, b, d) :: K'.2.2.1, K'.2.2.2) M := by
      intro K' hK hl
      refine ⟨hK.1, hK.2.1, ?_, hK.2.2.2⟩
      intro x y c hm
      show x < K'.1.length ∧ y < K'.1.length ∧ _
      have hm : (x, y, c) ∈ (a, b, d) :: K'.2.2.1 := hm
      cases List.mem_cons.mp hm with
      | inl e => cases e; rw [hl]; exact ⟨ha, hb, hd⟩
      | inr e => exact hK.2.2.1 x y c e
    have h0 := h.2.1.1
    cases h2 : Nat.beq b 0 with
    | true =>
      have e := Nat.eq_of_beq_eq_true h2
      subst e
      obtain ⟨K', e1, e2, e3⟩ := aNe1_ok h ha (k := d) (by omega)
      dsimp only [cond_true, cond_false]
      rw [e1]
      exact ⟨_, rfl, fin K' e2 e3, e3⟩
    | false =>
      cases h3 : Nat.beq a 0 with
      | true =>
        have e := Nat.eq_of_beq_eq_true h3
        subst e
        obtain ⟨K', e1, e2, e3⟩ := aNe1_ok h hb (k := -d) (by omega)
        dsimp only [cond_true, cond_false]
        rw [e1]
        exact ⟨_, rfl, fin K' e2 e3, e3⟩
      | false => exact ⟨_, rfl, fin K h rfl, rfl⟩
/-- two symbols that are known to lie so far apart can't lie otherwise -/
def aNe (K : AK) (a b : Nat) (d : Int) : Option AK := bif ent K.1 K.2.1 a b d && ent K.1 K.2.1 b a (-d) then none else aNe0 K a b d
theorem aNe_ok {scr : SG} {σ : Nat → Int} {K : AK} {M : Mem} (h : aK scr σ K M) {a b : Nat} (ha : a < K.1.length) (hb : b < K.1.length) {d : Int} (hd : σ a - σ b ≠ d) : ∃ K', aNe K a b d = some K' ∧ aK scr σ K' M ∧ K'.1.length = K.1.length := by
  unfold aNe
  cases hq : (ent K.1 K.2.1 a b d && ent K.1 K.2.1 b a (-d)) with
  | true =>
    rw [Bool.and_eq_true] at hq
    have e1 := ent_ok h.2.1 ha hb hq.1
    have e2 := ent_ok h.2.1 hb ha hq.2
    omega
  | false => exact aNe0_ok h ha hb hd
def memN (a b : Nat) (d : Int) : AZ → Bool
  | [] => false
  | (x, y, c) :: r => bif Nat.beq x a && Nat.beq y b && ieq c d then true else memN a b d r
theorem memN_ok {a b : Nat} {d : Int} : ∀ {N : AZ}, memN a b d N = true → (a, b, d) ∈ N
  | [], h => nomatch h
  | (x, y, c) :: r, h => by
    unfold memN at h
    cases hq : (Nat.beq x a && Nat.beq y b && ieq c d) with
    | true =>
      rw [Bool.and_eq_true, Bool.and_eq_true] at hq
      rw [Nat.eq_of_beq_eq_true hq.1.1, Nat.eq_of_beq_eq_true hq.1.2, ieq_iff.mp hq.2]
      exact List.mem_cons_self
    | false => rw [hq] at h; exact List.mem_cons_of_mem _ (memN_ok h)
def aEq (K : AK) (a b : Nat) (d : Int) : Option AK :=
  bif memN a b d K.2.2.1 || memN b a (-d) K.2.2.1 then none
  else match aSup K a b d with
    | none => none
    | some K' => aSup K' b a (-d)
theorem aEq_ok {scr : SG} {σ : Nat → Int} {K : AK} {M : Mem} (h : aK scr σ K M) {a b : Nat} (ha : a < K.1.length) (hb : b < K.1.length) {d : Int} (hd : σ a - σ b = d) : ∃ K', aEq K a b d = some K' ∧ aK scr σ K' M ∧ K'.1.length = K.1.length := by
  unfold aEq
  cases h1 : (memN a b d K.2.2.1 || memN b a (-d) K.2.2.1) with
  | true =>
    rw [Bool.or_eq_true] at h1
    rcases h1 with h1 | h1
    · exact absurd hd (h.2.2.1 _ _ _ (memN_ok h1)).2.2
    · have := (h.2.2.1 _ _ _ (memN_ok h1)).2.2; omega
  | false =>
    obtain ⟨K1, e1, e2, e3⟩ := aSup_ok h ha hb (c := d) (by omega)
    obtain ⟨K2, f1, f2, f3⟩ := aSup_ok e2 (a := b) (b := a) (by omega) (by omega) (c := -d) (by omega)
    dsimp only [cond_true, cond_false]
    rw [e1]
    exact ⟨K2, f1, f2, by omega⟩
/-- suppose the comparison of sigma a + p with sigma b + q -/
def aCond (c : Jvm.ClassFile.Cond) (K : AK) (a : Nat) (p : Int) (b : Nat) (q : Int) : Option AK := match c with
  | .eq => aEq K a b (q - p)
  | .ne => aNe K a b (q - p)
  | .lt => aSup K a b (q - p - 1)
  | .ge => aSup K b a (p - q)
  | .gt => aSup K b a (p - q - 1)
  | .le => aSup K a b (q - p)
def aNeg (c : Jvm.ClassFile.Cond) : Jvm.ClassFile.Cond := match c with
  | .eq => .ne
  | .ne => .eq
  | .lt => .ge
  | .ge => .lt
  | .gt => .le
  | .le => .gt
theorem i32_le {x y : Int32} : x ≤ y ↔ x.toInt ≤ y.toInt := Int32.le_iff_toInt_le
theorem i32_lt {x y : Int32} : x < y ↔ x.toInt < y.toInt := Int32.lt_iff_toInt_lt
theorem i32_eq {x y : Int32} : x = y ↔ x.toInt = y.toInt := ⟨fun h => by rw [h], fun h => Int32.toInt_inj.mp h⟩
theorem mCond_neg {c : Jvm.ClassFile.Cond} {x y : Int32} : mCond c x y = false → mCond (aNeg c) x y = true := by
  cases c <;> (unfold mCond aNeg; dsimp only; intro h; have h := of_decide_eq_false h; apply decide_eq_true; simp only [i32_le, i32_lt, i32_eq] at h ⊢; omega)
theorem aCond_ok {scr : SG} {σ : Nat → Int} {K : AK} {M : Mem} (h : aK scr σ K M) {a b : Nat} (ha : a < K.1.length) (hb : b < K.1.length) {p q : Int} {x y : Int32} (hx : x.toInt = σ a + p) (hy : y.toInt = σ b + q) {c : Jvm.ClassFile.Cond} (hc : mCond c x y = true) : ∃ K', aCond c K a p b q = some K' ∧ aK scr σ K' M ∧ K'.1.length = K.1.length := by
  cases c <;> (unfold mCond at hc; dsimp only at hc; have hc := of_decide_eq_true hc; simp only [i32_le, i32_lt, i32_eq] at hc; unfold aCond; dsimp only)
  · exact aEq_ok h ha hb (by omega)
  · exact aNe_ok h ha hb (by omega)
  · exact aSup_ok h ha hb (by omega)
  · exact aSup_ok h hb ha (by omega)
  · exact aSup_ok h hb ha (by omega)
  · exact aSup_ok h ha hb (by omega)

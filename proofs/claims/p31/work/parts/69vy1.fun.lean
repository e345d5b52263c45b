/-! the market: who buys when a set of strips is shown, as whole numbers (by hand) -/
section
variable (dy pr en : Nat → Int) (he : Nat → Nat → Int)
/-- j is before i -/
def wAh (j i : Nat) : Bool := decide (dy j < dy i) || (decide (dy j = dy i) && decide (j < i))
/-- what j bought is known to i by then -/
def wWr (i j : Nat) : Bool := (decide (he i j < 100) && decide (dy j + he i j ≤ dy i)) || decide (dy j + en j ≤ dy i)
def wWd (i j : Nat) : Bool := wAh dy j i && wWr dy en he i j
def wGain (A : Nat → Bool) : Nat → Int
  | 0 => 0
  | k + 1 => wGain A k + (if A k = true then pr k else 0)
def wAll (A : Nat → Bool) : Prop := ∀ i, i < 8 → A i = true → pr i ≠ 0 ∧ ∀ j, j < 8 → A j = true → wWd dy en he i j = false
def wIns (A : Nat → Bool) (i : Nat) : Nat → Bool := fun k => A k || decide (k = i)
/-- of the set S those of G have been asked, those of T have bought -/
def wRun (S G T : Nat → Bool) : Prop := (∀ i, i < 8 → G i = true → S i = true) ∧ (∀ i, i < 8 → T i = true → G i = true) ∧ (∀ i j, i < 8 → j < 8 → G i = true → S j = true → G j = false → wAh dy i j = true) ∧ (∀ i j, i < 8 → j < 8 → T i = true → T j = true → wWd dy en he i j = false) ∧ (wAll dy pr en he S → ∀ i, i < 8 → T i = G i)
end
section
variable {dy pr en : Nat → Int} {he : Nat → Nat → Int}
theorem wAh_irr {i : Nat} : wAh dy i i = false := by
  unfold wAh
  rw [decide_eq_false (by omega), decide_eq_false (show ¬ i < i by omega)]
  simp
theorem wAh_iff {i j : Nat} : wAh dy j i = true ↔ dy j < dy i ∨ (dy j = dy i ∧ j < i) := by
  unfold wAh
  rw [Bool.or_eq_true, Bool.and_eq_true, decide_eq_true_iff, decide_eq_true_iff, decide_eq_true_iff]
theorem wAh_asym {i j : Nat} (h : wAh dy j i = true) : wAh dy i j = false := by
  cases hq : wAh dy i j with
  | false => rfl
  | true =>
    rw [wAh_iff] at h hq
    omega
theorem wAh_tot {i j : Nat} (h : i ≠ j) (hn : wAh dy j i = false) : wAh dy i j = true := by
  rw [wAh_iff]
  have hn : ¬ (dy j < dy i ∨ (dy j = dy i ∧ j < i)) := fun q => by
    rw [wAh_iff.mpr q] at hn
    cases hn
  omega
theorem wRun_0 {S : Nat → Bool} : wRun dy pr en he S (fun _ => false) (fun _ => false) :=
  ⟨fun _ _ h => (by cases h), fun _ _ h => (by cases h), fun _ _ _ _ h => (by cases h), fun _ _ _ _ h => (by cases h), fun _ _ _ => rfl⟩
/-- the next is asked -/
theorem wRun_step {S G T : Nat → Bool} {i : Nat} (h : wRun dy pr en he S G T) (hi : i < 8) (hS : S i = true) (hG : G i = false) (hl : ∀ j, j < 8 → S j = true → G j = false → j ≠ i → wAh dy i j = true) :
    ((∀ j, j < 8 → T j = true → wWr dy en he i j = false) → wRun dy pr en he S (wIns G i) (wIns T i)) ∧ ((∃ j, j < 8 ∧ T j = true ∧ wWr dy en he i j = true) → wRun dy pr en he S (wIns G i) T) := by
  obtain ⟨h1, h2, h3, h4, h5⟩ := h
  have insT : ∀ {A : Nat → Bool} {k : Nat}, wIns A i k = true → A k = true ∨ k = i := fun {A k} q => by
    unfold wIns at q
    rw [Bool.or_eq_true, decide_eq_true_iff] at q
    exact q
  have insF : ∀ {A : Nat → Bool} {k : Nat}, wIns A i k = false → A k = false ∧ k ≠ i := fun {A k} q => by
    unfold wIns at q
    rw [Bool.or_eq_false_iff, decide_eq_false_iff_not] at q
    exact q
  have a1 : ∀ k, k < 8 → wIns G i k = true → S k = true := fun k hk q => by
    rcases insT q with q | q
    · exact h1 k hk q
    · rw [q]; exact hS
  have a3 : ∀ a b, a < 8 → b < 8 → wIns G i a = true → S b = true → wIns G i b = false → wAh dy a b = true := fun a b ha hb q1 q2 q3 => by
    obtain ⟨q3, q4⟩ := insF q3
    rcases insT q1 with q | q
    · exact h3 a b ha hb q q2 q3
    · rw [q]; exact hl b hb q2 q3 q4
  have bef : ∀ j, j < 8 → T j = true → wAh dy j i = true := fun j hj q => h3 j i hj hi (h2 j hj q) hS hG
  constructor
  · intro hw
    refine ⟨a1, fun k hk q => ?_, a3, fun a b ha hb q1 q2 => ?_, fun hA k hk => ?_⟩
    · unfold wIns
      rw [Bool.or_eq_true, decide_eq_true_iff]
      rcases insT q with q | q
      · exact Or.inl (h2 k hk q)
      · exact Or.inr q
    · rcases insT q1 with p1 | p1
      · rcases insT q2 with p2 | p2
        · exact h4 a b ha hb p1 p2
        · rw [p2]
          unfold wWd
          rw [wAh_asym (bef a ha p1)]
          rfl
      · rw [p1]
        rcases insT q2 with p2 | p2
        · unfold wWd
          rw [hw b hb p2, Bool.and_false]
        · rw [p2]
          unfold wWd
          rw [wAh_irr]
          rfl
    · unfold wIns
      rw [h5 hA k hk]
  · intro ⟨j, hj, hT, hw⟩
    refine ⟨a1, fun k hk q => ?_, a3, h4, fun hA => ?_⟩
    · unfold wIns
      rw [Bool.or_eq_true]
      exact Or.inl (h2 k hk q)
    · exfalso
      have q := (hA i hi hS).2 j hj (h1 j hj (h2 j hj hT))
      unfold wWd at q
      rw [bef j hj hT, hw] at q
      cases q
/-- when all have been asked: those that bought would all buy if they alone were asked -/
theorem wRun_end {S G T : Nat → Bool} (h : wRun dy pr en he S G T) (hG : ∀ i, i < 8 → S i = true → G i = true) (hp : ∀ i, i < 8 → S i = true → pr i ≠ 0) : wAll dy pr en he T ∧ (∀ i, i < 8 → T i = true → S i = true) ∧ (wAll dy pr en he S → ∀ i, i < 8 → T i = S i) := by
  obtain ⟨h1, h2, _, h4, h5⟩ := h
  refine ⟨fun i hi q => ⟨hp i hi (h1 i hi (h2 i hi q)), fun j hj q2 => h4 i j hi hj q q2⟩, fun i hi q => h1 i hi (h2 i hi q), fun hA i hi => ?_⟩
  rw [h5 hA i hi]
  cases hq : S i with
  | true => exact hG i hi hq
  | false =>
    cases hg : G i with
    | false => rfl
    | true => rw [h1 i hi hg] at hq; cases hq
theorem wGain_congr {A B : Nat → Bool} : ∀ {n : Nat}, n ≤ 8 → (∀ i, i < 8 → A i = B i) → wGain pr A n = wGain pr B n
  | 0, _, _ => rfl
  | n + 1, hn, h => by
    unfold wGain
    rw [wGain_congr (by omega) h, h n (by omega)]
end
/-! sets as numbers -/
def pc8 (x : Nat) : Nat := x % 2 + x / 2 % 2 + x / 4 % 2 + x / 8 % 2 + x / 16 % 2 + x / 32 % 2 + x / 64 % 2 + x / 128 % 2
set_option maxRecDepth 100000 in
theorem tb_sub : ∀ x, x < 256 → ∀ y, y < 256 → x &&& y = x → x ≠ y → x < y ∧ pc8 x < pc8 y := by decide +kernel
set_option maxRecDepth 100000 in
theorem tb_bits : ∀ x, x < 256 → x = (if tb x 0 then 1 else 0) + (if tb x 1 then 2 else 0) + (if tb x 2 then 4 else 0) + (if tb x 3 then 8 else 0) + (if tb x 4 then 16 else 0) + (if tb x 5 then 32 else 0) + (if tb x 6 then 64 else 0) + (if tb x 7 then 128 else 0) := by decide +kernel
theorem tb_ext {x y : Nat} (hx : x < 256) (hy : y < 256) (h : ∀ i, i < 8 → tb x i = tb y i) : x = y := by
  rw [tb_bits x hx, tb_bits y hy, h 0 (by decide), h 1 (by decide), h 2 (by decide), h 3 (by decide), h 4 (by decide), h 5 (by decide), h 6 (by decide), h 7 (by decide)]
theorem tb_and {x y : Nat} (hx : x < 256) (hy : y < 256) (h : ∀ i, i < 8 → tb x i = true → tb y i = true) : x &&& y = x := by
  have hl : x &&& y < 256 := Nat.lt_of_le_of_lt Nat.and_le_left hx
  refine tb_ext hl hx (fun i hi => ?_)
  unfold tb
  rw [Nat.testBit_and]
  cases hq : Nat.testBit x i with
  | false => rfl
  | true =>
    rw [show Nat.testBit y i = true from h i hi hq]
    rfl
/-- the best set: the class looks at those that all buy, the reference at what any set comes to -/
theorem arg_step {al : Nat → Prop} {gn : Nat → Int} {b s T : Nat} (hopt : ∀ s', s' < s → al s' → gn s' < gn b ∨ (gn s' = gn b ∧ pc8 b ≤ pc8 s')) (hs : s < 256) (hT : T < 256) (hTa : al T) (hTs : ∀ i, i < 8 → tb T i = true → tb s i = true) (hal : ¬ al s) : gn T < gn b ∨ (gn T = gn b ∧ pc8 b ≤ pc8 s) := by
  have ne : T ≠ s := fun e => hal (e ▸ hTa)
  obtain ⟨q1, q2⟩ := tb_sub T hT s hs (tb_and hT hs hTs) ne
  rcases hopt T q1 hTa with q | ⟨q, q3⟩
  · exact Or.inl q
  · exact Or.inr ⟨q, by omega⟩
/-- the class's step keeps the best the best -/
theorem arg_keep {al : Nat → Prop} {gn : Nat → Int} {b s b' : Nat} (hopt : ∀ s', s' < s → al s' → gn s' < gn b ∨ (gn s' = gn b ∧ pc8 b ≤ pc8 s')) (hb : (al s ∧ (gn b < gn s ∨ (gn s = gn b ∧ pc8 s < pc8 b)) ∧ b' = s) ∨ (¬ (al s ∧ (gn b < gn s ∨ (gn s = gn b ∧ pc8 s < pc8 b))) ∧ b' = b)) : ∀ s', s' < s + 1 → al s' → gn s' < gn b' ∨ (gn s' = gn b' ∧ pc8 b' ≤ pc8 s') := by
  intro s' h1 h2
  rcases hb with ⟨_, q, e⟩ | ⟨q, e⟩
  · rw [e]
    by_cases w : s' = s
    · rw [w]
      exact Or.inr ⟨rfl, Nat.le_refl _⟩
    · rcases hopt s' (by omega) h2 with q1 | ⟨q1, q2⟩
      · rcases q with q | ⟨q, _⟩
        · exact Or.inl (by omega)
        · exact Or.inl (by omega)
      · rcases q with q | ⟨q, q3⟩
        · exact Or.inl (by omega)
        · exact Or.inr ⟨by omega, by omega⟩
  · rw [e]
    by_cases w : s' = s
    · subst w
      have q4 : ¬ (gn b < gn s' ∨ (gn s' = gn b ∧ pc8 s' < pc8 b)) := fun q5 => q ⟨h2, q5⟩
      omega
    · exact hopt s' (by omega) h2

/-! who knows of a deed since when, as whole numbers (by hand) -/
/-- giver and taker since its day, nobody else -/
def knI (g t day : Int) (p : Nat) : Int := if (p : Int) = g ∨ (p : Int) = t then day else 1000000
def knU (f : Nat → Int) (p : Nat) (v : Int) (q : Nat) : Int := if q = p then (if v < f p then v else f p) else f q
/-- the first n hearings -/
def knH (who whi whn : Nat → Int) (d : Int) (f : Nat → Int) : Nat → Nat → Int
  | 0 => f
  | n + 1 => if whi n = d then knU (knH who whi whn d f n) (who n).toNat (whn n) else knH who whi whn d f n
/-- one of the first n people who sit there knows by then -/
def knTb (f : Nat → Int) (s : Nat) (v : Int) : Nat → Bool
  | 0 => false
  | n + 1 => knTb f s v n || (Nat.testBit s n && decide (f n ≤ v))
def knL (f : Nat → Int) (s : Nat) (v : Int) (n : Nat) (p : Nat) : Int := if p < n ∧ Nat.testBit s p = true then (if v < f p then v else f p) else f p
/-- the first n wells -/
def knW (wd : Nat → Int) (ws : Nat → Nat) (f : Nat → Int) : Nat → Nat → Int
  | 0 => f
  | n + 1 => bif knTb (knW wd ws f n) (ws n) (wd n) 10 then knL (knW wd ws f n) (ws n) (wd n) 10 else knW wd ws f n
theorem knTb_congr {f g : Nat → Int} {s : Nat} {v : Int} : ∀ {n : Nat}, (∀ p, p < n → f p = g p) → knTb f s v n = knTb g s v n
  | 0, _ => rfl
  | n + 1, h => by
    unfold knTb
    rw [knTb_congr (fun p hp => h p (by omega)), h n (by omega)]
theorem knTb_up {f : Nat → Int} {s : Nat} {v : Int} {m : Nat} (h : knTb f s v m = true) : ∀ {n : Nat}, m ≤ n → knTb f s v n = true
  | 0, hn => by
    have e : m = 0 := by omega
    subst e
    cases h
  | n + 1, hn => by
    by_cases c : m = n + 1
    · rw [← c]
      exact h
    · unfold knTb
      rw [knTb_up h (show m ≤ n by omega)]
      rfl
theorem knL_0 {f : Nat → Int} {s : Nat} {v : Int} : knL f s v 0 = f := by
  funext p
  unfold knL
  exact if_neg (fun q => Nat.not_lt_zero p q.1)
theorem knL_y {f : Nat → Int} {s : Nat} {v : Int} {n : Nat} (h : Nat.testBit s n = true) : knL f s v (n + 1) = knU (knL f s v n) n v := by
  funext p
  have en : knL f s v n n = f n := if_neg (fun q => Nat.lt_irrefl n q.1)
  unfold knU
  by_cases c : p = n
  · rw [if_pos c, en, c]
    exact if_pos ⟨by omega, h⟩
  · rw [if_neg c]
    unfold knL
    by_cases q : p < n ∧ Nat.testBit s p = true
    · rw [if_pos q, if_pos ⟨by omega, q.2⟩]
    · rw [if_neg q, if_neg (fun w => q ⟨by omega, w.2⟩)]
theorem knL_n {f : Nat → Int} {s : Nat} {v : Int} {n : Nat} (h : Nat.testBit s n = false) : knL f s v (n + 1) = knL f s v n := by
  funext p
  unfold knL
  by_cases q : p < n ∧ Nat.testBit s p = true
  · rw [if_pos q, if_pos ⟨by omega, q.2⟩]
  · rw [if_neg q, if_neg (fun w => q ⟨by
      have := w.1
      by_cases c : p = n
      · rw [c, h] at w
        cases w.2
      · omega, w.2⟩)]
theorem knH_congr {who whi whn who' whi' whn' : Nat → Int} {d : Int} {f f' : Nat → Int} {P : Nat} (hf : ∀ p, p < P → f p = f' p) : ∀ {n : Nat}, (∀ k, k < n → who k = who' k ∧ whi k = whi' k ∧ whn k = whn' k) → ∀ p, p < P → knH who whi whn d f n p = knH who' whi' whn' d f' n p
  | 0, _, p, hp => hf p hp
  | n + 1, h, p, hp => by
    obtain ⟨e1, e2, e3⟩ := h n (by omega)
    have ih := fun q hq => knH_congr (d := d) hf (n := n) (fun k hk => h k (by omega)) q hq
    unfold knH
    rw [e1, e2, e3]
    by_cases c : whi' n = d
    · rw [if_pos c, if_pos c]
      unfold knU
      by_cases c2 : p = (who' n).toNat
      · rw [if_pos c2, if_pos c2, ih _ (by omega)]
      · rw [if_neg c2, if_neg c2]
        exact ih p hp
    · rw [if_neg c, if_neg c]
      exact ih p hp
theorem knW_congr {wd wd' : Nat → Int} {ws ws' : Nat → Nat} {f f' : Nat → Int} (hf : ∀ p, p < 10 → f p = f' p) : ∀ {n : Nat}, (∀ k, k < n → wd k = wd' k ∧ ws k = ws' k) → ∀ p, p < 10 → knW wd ws f n p = knW wd' ws' f' n p
  | 0, _, p, hp => hf p hp
  | n + 1, h, p, hp => by
    obtain ⟨e1, e2⟩ := h n (by omega)
    have ih := fun q hq => knW_congr hf (n := n) (fun k hk => h k (by omega)) q hq
    unfold knW
    rw [e1, e2, knTb_congr ih]
    cases knTb (knW wd' ws' f' n) (ws' n) (wd' n) 10 with
    | true =>
      show knL _ _ _ 10 p = knL _ _ _ 10 p
      unfold knL
      rw [ih p hp]
    | false => exact ih p hp
/-! wells in the order of their days -/
def knLx (dy : Nat → Int) (i j : Nat) : Prop := dy i < dy j ∨ (dy i = dy j ∧ i < j)
def knP (dy : Nat → Int) (W : Nat) (π : Nat → Nat) : Prop := (∀ k, k < W → π k < W) ∧ (∀ i, i < W → ∃ k, k < W ∧ π k = i) ∧ ∀ k k', k < k' → k' < W → knLx dy (π k) (π k')
theorem knP_0 {dy : Nat → Int} {π : Nat → Nat} : knP dy 0 π := ⟨fun k h => absurd h (Nat.not_lt_zero k), fun k h => absurd h (Nat.not_lt_zero k), fun k k' _ h => absurd h (Nat.not_lt_zero k')⟩
theorem knP_inj {dy : Nat → Int} {W : Nat} {π : Nat → Nat} (h : knP dy W π) {a b : Nat} (ha : a < W) (hb : b < W) (e : π a = π b) : a = b := by
  by_cases c : a < b
  · have q := h.2.2 a b c hb
    unfold knLx at q
    rw [e] at q
    omega
  · by_cases c2 : b < a
    · have q := h.2.2 b a c2 ha
      unfold knLx at q
      rw [e] at q
      omega
    · omega
/-- a new one is put in behind those that aren't later -/
def knN (π : Nat → Nat) (pl W : Nat) (k : Nat) : Nat := if k < pl then π k else if k = pl then W else π (k - 1)
theorem knP_new {dy : Nat → Int} {W pl : Nat} {π : Nat → Nat} (h : knP dy W π) (hp : pl ≤ W) (h1 : ∀ k, k < pl → dy (π k) ≤ dy W) (h2 : ∀ k, pl ≤ k → k < W → dy W < dy (π k)) : knP dy (W + 1) (knN π pl W) := by
  obtain ⟨a, b, c⟩ := h
  refine ⟨fun k hk => ?_, fun i hi => ?_, fun k k' hkk hk => ?_⟩
  · unfold knN
    by_cases q : k < pl
    · rw [if_pos q]
      have := a k (by omega)
      omega
    · rw [if_neg q]
      by_cases q2 : k = pl
      · rw [if_pos q2]
        omega
      · rw [if_neg q2]
        have := a (k - 1) (by omega)
        omega
  · by_cases q : i = W
    · refine ⟨pl, by omega, ?_⟩
      unfold knN
      rw [if_neg (Nat.lt_irrefl pl), if_pos rfl, q]
    · obtain ⟨k, k1, k2⟩ := b i (by omega)
      by_cases q2 : k < pl
      · refine ⟨k, by omega, ?_⟩
        unfold knN
        rw [if_pos q2]
        exact k2
      · refine ⟨k + 1, by omega, ?_⟩
        unfold knN
        rw [if_neg (by omega), if_neg (by omega), show k + 1 - 1 = k by omega]
        exact k2
  · unfold knN
    by_cases q : k' < pl
    · rw [if_pos q, if_pos (show k < pl by omega)]
      exact c k k' hkk (by omega)
    · rw [if_neg q]
      by_cases q2 : k' = pl
      · rw [if_pos q2, if_pos (show k < pl by omega)]
        have e1 := h1 k (by omega)
        have e2 := a k (by omega)
        unfold knLx
        omega
      · rw [if_neg q2]
        by_cases q3 : k < pl
        · rw [if_pos q3]
          exact c k (k' - 1) (by omega) (by omega)
        · rw [if_neg q3]
          by_cases q4 : k = pl
          · rw [if_pos q4]
            have e1 := h2 (k' - 1) (by omega) (by omega)
            unfold knLx
            exact Or.inl e1
          · rw [if_neg q4]
            exact c (k - 1) (k' - 1) (by omega) (by omega)
/-- of those not among the first m, the one that comes first is the next -/
theorem knP_next {dy : Nat → Int} {W m b : Nat} {π : Nat → Nat} (h : knP dy W π) (hb : b < W) (hn : ∀ k, k < m → π k ≠ b) (hm : ∀ i, i < W → (∀ k, k < m → π k ≠ i) → i ≠ b → knLx dy b i) : m < W ∧ π m = b := by
  obtain ⟨k, k1, k2⟩ := h.2.1 b hb
  have km : m ≤ k := by
    by_cases c : k < m
    · exact absurd k2 (hn k c)
    · omega
  refine ⟨by omega, ?_⟩
  by_cases c : m = k
  · rw [c]
    exact k2
  · have q := h.2.2 m k (by omega) k1
    have q2 := hm (π m) (h.1 m (by omega)) (fun j hj e => by have := knP_inj h (a := j) (b := m) (by omega) (by omega) e; omega) (fun e => by have := knP_inj h (a := m) (b := k) (by omega) k1 (e.trans k2.symm); omega)
    rw [k2] at q
    unfold knLx at q q2
    omega
theorem knLx_trans {dy : Nat → Int} {a b c : Nat} (h1 : knLx dy a b) (h2 : knLx dy b c) : knLx dy a c := by
  unfold knLx at *
  omega
theorem knP_congr {dy dy' : Nat → Int} {W : Nat} {π : Nat → Nat} (e : ∀ k, k < W → dy k = dy' k) (h : knP dy W π) : knP dy' W π := by
  refine ⟨h.1, h.2.1, fun k k' q1 q2 => ?_⟩
  have q := h.2.2 k k' q1 q2
  unfold knLx at *
  rw [← e _ (h.1 k (by omega)), ← e _ (h.1 k' q2)]
  exact q

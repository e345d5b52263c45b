/-! what holds of the machine's states (printed by fn16.py) -/
def WS (r : PS) : Prop := (∀ k, k < r.1.2.2.2 → 0 ≤ r.2.2 k ∧ r.2.2 k < 16777216) ∧ (∀ k, k < r.1.2.2.1 → 0 ≤ r.2.1 k ∧ r.2.1 k < 16777216) ∧ ∀ k, k < r.1.2.2.2 → (r.2.2 k / 1048576 = 11 ∨ r.2.2 k / 1048576 = 12) → (r.2.2 k % 1048576).toNat < r.1.2.2.1 ∧ r.2.1 (r.2.2 k % 1048576).toNat / 1048576 = r.2.2 k / 1048576
theorem pUp_at {f : Nat → Int} {i : Nat} {v : Int} : pUp f i v i = v := by unfold pUp; rw [if_pos rfl]
theorem pUp_ne {f : Nat → Int} {i k : Nat} {v : Int} (h : k ≠ i) : pUp f i v k = f k := by unfold pUp; rw [if_neg h]
section
variable {r : PS}
theorem WS.em {v : Int} (h : WS r) (h0 : 0 ≤ v) (h1 : v < 16777216) : WS (pEm r v) := by
  obtain ⟨a, b, c⟩ := h
  refine ⟨a, fun k hk => ?_, fun k hk hj => ?_⟩
  · have hk : k < r.1.2.2.1 + 1 := hk
    show 0 ≤ pUp r.2.1 r.1.2.2.1 v k ∧ pUp r.2.1 r.1.2.2.1 v k < 16777216
    by_cases e : k = r.1.2.2.1
    · subst e
      rw [pUp_at]
      exact ⟨h0, h1⟩
    · rw [pUp_ne e]
      exact b k (by omega)
  · have hk : k < r.1.2.2.2 := hk
    have hj : r.2.2 k / 1048576 = 11 ∨ r.2.2 k / 1048576 = 12 := hj
    obtain ⟨c1, c2⟩ := c k hk hj
    show (r.2.2 k % 1048576).toNat < r.1.2.2.1 + 1 ∧ pUp r.2.1 r.1.2.2.1 v (r.2.2 k % 1048576).toNat / 1048576 = r.2.2 k / 1048576
    rw [pUp_ne (Nat.ne_of_lt c1)]
    exact ⟨by omega, c2⟩
theorem WS.push {w : Int} (h : WS r) (h0 : 0 ≤ w) (h1 : w < 16777216) (hj : ¬ w / 1048576 = 11 ∧ ¬ w / 1048576 = 12) : WS (pPush r w) := by
  obtain ⟨a, b, c⟩ := h
  refine ⟨fun k hk => ?_, b, fun k hk hq => ?_⟩
  · have hk : k < r.1.2.2.2 + 1 := hk
    show 0 ≤ pUp r.2.2 r.1.2.2.2 w k ∧ pUp r.2.2 r.1.2.2.2 w k < 16777216
    by_cases e : k = r.1.2.2.2
    · subst e
      rw [pUp_at]
      exact ⟨h0, h1⟩
    · rw [pUp_ne e]
      exact a k (by omega)
  · have hk : k < r.1.2.2.2 + 1 := hk
    have hq : pUp r.2.2 r.1.2.2.2 w k / 1048576 = 11 ∨ pUp r.2.2 r.1.2.2.2 w k / 1048576 = 12 := hq
    show (pUp r.2.2 r.1.2.2.2 w k % 1048576).toNat < r.1.2.2.1 ∧ r.2.1 (pUp r.2.2 r.1.2.2.2 w k % 1048576).toNat / 1048576 = pUp r.2.2 r.1.2.2.2 w k / 1048576
    have e : k ≠ r.1.2.2.2 := by
      intro e
      subst e
      rw [pUp_at] at hq
      omega
    rw [pUp_ne e] at hq ⊢
    exact c k (by omega) hq
theorem WS.pop (h : WS r) : WS (pPop r) := by
  obtain ⟨a, b, c⟩ := h
  exact ⟨fun k hk => a k (by have hk : k < r.1.2.2.2 - 1 := hk; omega), b, fun k hk => c k (by have hk : k < r.1.2.2.2 - 1 := hk; omega)⟩
theorem WS.jmp {w : Int} (h : WS r) (ho : w = 11534336 ∨ w = 12582912) (hc : r.1.2.2.1 < 1048576) : WS (pEm (pPush r (w + (r.1.2.2.1 : Int))) w) := by
  obtain ⟨a, b, c⟩ := h
  refine ⟨fun k hk => ?_, fun k hk => ?_, fun k hk hq => ?_⟩
  · have hk : k < r.1.2.2.2 + 1 := hk
    show 0 ≤ pUp r.2.2 r.1.2.2.2 (w + (r.1.2.2.1 : Int)) k ∧ pUp r.2.2 r.1.2.2.2 (w + (r.1.2.2.1 : Int)) k < 16777216
    by_cases e : k = r.1.2.2.2
    · subst e
      rw [pUp_at]
      omega
    · rw [pUp_ne e]
      exact a k (by omega)
  · have hk : k < r.1.2.2.1 + 1 := hk
    show 0 ≤ pUp r.2.1 r.1.2.2.1 w k ∧ pUp r.2.1 r.1.2.2.1 w k < 16777216
    by_cases e : k = r.1.2.2.1
    · subst e
      rw [pUp_at]
      omega
    · rw [pUp_ne e]
      exact b k (by omega)
  · have hk : k < r.1.2.2.2 + 1 := hk
    have hq : pUp r.2.2 r.1.2.2.2 (w + (r.1.2.2.1 : Int)) k / 1048576 = 11 ∨ pUp r.2.2 r.1.2.2.2 (w + (r.1.2.2.1 : Int)) k / 1048576 = 12 := hq
    show (pUp r.2.2 r.1.2.2.2 (w + (r.1.2.2.1 : Int)) k % 1048576).toNat < r.1.2.2.1 + 1 ∧ pUp r.2.1 r.1.2.2.1 w (pUp r.2.2 r.1.2.2.2 (w + (r.1.2.2.1 : Int)) k % 1048576).toNat / 1048576 = pUp r.2.2 r.1.2.2.2 (w + (r.1.2.2.1 : Int)) k / 1048576
    by_cases e : k = r.1.2.2.2
    · subst e
      rw [pUp_at]
      have e3 : ((w + (r.1.2.2.1 : Int)) % 1048576).toNat = r.1.2.2.1 := by omega
      rw [e3, pUp_at]
      omega
    · rw [pUp_ne e] at hq ⊢
      obtain ⟨c1, c2⟩ := c k (by omega) hq
      rw [pUp_ne (Nat.ne_of_lt c1)]
      exact ⟨by omega, c2⟩
theorem pTop_w {op : Int} (hp : pTop r = op) (ho : 0 ≤ op) : 1 ≤ r.1.2.2.2 ∧ r.2.2 (r.1.2.2.2 - 1) / 1048576 = op := by
  unfold pTop at hp
  by_cases z : r.1.2.2.2 = 0
  · rw [if_pos z] at hp
    omega
  · rw [if_neg z] at hp
    exact ⟨by omega, hp⟩
theorem WS.land {op : Int} (h : WS r) (ho : op = 11 ∨ op = 12) (hp : pTop r = op) (hc : r.1.2.2.1 < 1048576) : WS (pPop (pLand r op)) := by
  obtain ⟨w1, hw⟩ := pTop_w hp (by omega)
  obtain ⟨a, b, c⟩ := h
  have aw := a (r.1.2.2.2 - 1) (by omega)
  obtain ⟨d1, d2⟩ := c (r.1.2.2.2 - 1) (by omega) (by omega)
  have ej : (r.2.2 (r.1.2.2.2 - 1) - op * 1048576).toNat = (r.2.2 (r.1.2.2.2 - 1) % 1048576).toNat := by omega
  obtain ⟨j, hj⟩ : ∃ j, j = (r.2.2 (r.1.2.2.2 - 1) % 1048576).toNat := ⟨_, rfl⟩
  rw [← hj] at ej d1 d2
  have es : ∀ k, (pPop (pLand r op)).2.1 k = pUp r.2.1 j (op * 1048576 + (r.1.2.2.1 : Int)) k := fun k => by
    show pUp r.2.1 (r.2.2 (r.1.2.2.2 - 1) - op * 1048576).toNat (op * 1048576 + (r.1.2.2.1 : Int)) k = _
    rw [ej]
  refine ⟨fun k hk => a k (by have hk : k < r.1.2.2.2 - 1 := hk; omega), fun k hk => ?_, fun k hk hq => ?_⟩
  · have hk : k < r.1.2.2.1 := hk
    rw [es]
    by_cases e : k = j
    · subst e
      rw [pUp_at]
      omega
    · rw [pUp_ne e]
      exact b k hk
  · have hk : k < r.1.2.2.2 - 1 := hk
    have hq : r.2.2 k / 1048576 = 11 ∨ r.2.2 k / 1048576 = 12 := hq
    obtain ⟨c1, c2⟩ := c k (by omega) hq
    rw [es]
    show (r.2.2 k % 1048576).toNat < r.1.2.2.1 ∧ pUp r.2.1 j (op * 1048576 + (r.1.2.2.1 : Int)) (r.2.2 k % 1048576).toNat / 1048576 = r.2.2 k / 1048576
    by_cases e : (r.2.2 k % 1048576).toNat = j
    · rw [e] at c1 c2 ⊢
      rw [pUp_at]
      omega
    · rw [pUp_ne e]
      exact ⟨c1, c2⟩
end
theorem pHas_ex {r : PS} {b : Nat} : ∀ n, pHas r b n = true → ∃ k, b ≤ k ∧ k < n ∧ r.2.2 k / 1048576 = 14
  | 0, h => by cases h
  | n + 1, h => by
    have h : (pHas r b n || (decide (b ≤ n) && decide (r.2.2 n / 1048576 = 14))) = true := h
    rw [Bool.or_eq_true, Bool.and_eq_true] at h
    rcases h with h | ⟨h1, h2⟩
    · obtain ⟨k, k1, k2, k3⟩ := pHas_ex n h
      exact ⟨k, k1, by omega, k3⟩
    · exact ⟨n, of_decide_eq_true h1, by omega, of_decide_eq_true h2⟩
theorem dgN_all {t : Int → Int} : ∀ (m : Nat) (p : Int) (i : Nat), i < dgN t p m → cDig (t (p + i)) = true
  | 0, _, i, h => absurd h (Nat.not_lt_zero i)
  | m + 1, p, i, h => by
    have h : i < (if cDig (t p) = true then dgN t (p + 1) m + 1 else 0) := h
    by_cases c : cDig (t p) = true
    · rw [if_pos c] at h
      cases i with
      | zero => rwa [show p + ((0 : Nat) : Int) = p by omega]
      | succ i =>
        rw [show p + ((i + 1 : Nat) : Int) = p + 1 + i by omega]
        exact dgN_all m (p + 1) i (by omega)
    · rw [if_neg c] at h
      exact absurd h (Nat.not_lt_zero i)
theorem dgN_le {t : Int → Int} : ∀ (m : Nat) (p : Int), dgN t p m ≤ m
  | 0, _ => Nat.le_refl 0
  | m + 1, p => by
    show (if cDig (t p) = true then dgN t (p + 1) m + 1 else 0) ≤ m + 1
    have := dgN_le (t := t) m (p + 1)
    split <;> omega
theorem dgN_1 {t : Int → Int} {p : Int} {m : Nat} (h : cDig (t p) = true) : 1 ≤ dgN t p (m + 1) := by
  show 1 ≤ (if cDig (t p) = true then dgN t (p + 1) m + 1 else 0)
  rw [if_pos h]
  omega
/-- behind the text there is nothing -/
def TL (t : Int → Int) (n : Int) : Prop := ∀ p, ¬ t p = -1 → p < n
theorem TL.dg {t : Int → Int} {n p : Int} (h : TL t n) {m : Nat} (hp : p ≤ n) : p + dgN t p m ≤ n := by
  cases e : dgN t p m with
  | zero => omega
  | succ k =>
    have q := dgN_all (t := t) m p k (by omega)
    have q := cDig_t q
    have := h (p + k) (by omega)
    omega
/-- what holds of the machine's states -/
def MI (n : Int) (c : CF) : Prop := (0 ≤ c.2.2.2.1.1 ∧ c.2.2.2.1.1 ≤ n) ∧ (c.2.2.2.1.2.1 ≤ 6 ∧ (c.2.2.2.1.2.2.2 : Int) ≤ c.2.2.2.1.2.1 + c.2.2.2.1.1) ∧ ((c.2.2.2.1.2.2.1 : Int) + (c.2.2.2.1.2.2.2 : Int) ≤ 2 * c.2.2.2.1.1 ∧ (c.1 ≤ 1 ∧ 7 ≤ c.2.2.1 → (c.2.2.2.1.2.2.1 : Int) + (c.2.2.2.1.2.2.2 : Int) + 1 ≤ 2 * c.2.2.2.1.1)) ∧ WS c.2.2.2 ∧ (c.1 ≤ 1 → c.2.2.1 = 0 ∨ c.2.2.1 = 1 ∨ c.2.2.1 = 7 ∨ c.2.2.1 = 8 ∨ c.2.2.1 = 9) ∧ (((2 ≤ c.1 ∧ c.1 ≤ 4) ∨ (c.1 ≤ 1 ∧ 1 ≤ c.2.2.1)) → 1 ≤ c.2.2.2.1.2.2.2 ∧ c.2.2.2.2.2 0 / 1048576 = 13 ∧ (c.1 ≤ 1 → 1 ≤ c.2.1))
theorem cFact_rg {c : Int} (h : ¬ cFact c = -1) : 0 ≤ cFact c ∧ cFact c ≤ 13 := by
  unfold cFact at h ⊢
  by_cases c110 : c = 110
  · rw [if_pos c110]
    decide
  rw [if_neg c110] at h ⊢
  by_cases c102 : c = 102
  · rw [if_pos c102]
    decide
  rw [if_neg c102] at h ⊢
  by_cases c99 : c = 99
  · rw [if_pos c99]
    decide
  rw [if_neg c99] at h ⊢
  by_cases c117 : c = 117
  · rw [if_pos c117]
    decide
  rw [if_neg c117] at h ⊢
  by_cases c118 : c = 118
  · rw [if_pos c118]
    decide
  rw [if_neg c118] at h ⊢
  by_cases c112 : c = 112
  · rw [if_pos c112]
    decide
  rw [if_neg c112] at h ⊢
  by_cases c103 : c = 103
  · rw [if_pos c103]
    decide
  rw [if_neg c103] at h ⊢
  by_cases c120 : c = 120
  · rw [if_pos c120]
    decide
  rw [if_neg c120] at h ⊢
  by_cases c107 : c = 107
  · rw [if_pos c107]
    decide
  rw [if_neg c107] at h ⊢
  by_cases c119 : c = 119
  · rw [if_pos c119]
    decide
  rw [if_neg c119] at h ⊢
  by_cases c105 : c = 105
  · rw [if_pos c105]
    decide
  rw [if_neg c105] at h ⊢
  by_cases c113 : c = 113
  · rw [if_pos c113]
    decide
  rw [if_neg c113] at h ⊢
  by_cases c104 : c = 104
  · rw [if_pos c104]
    decide
  rw [if_neg c104] at h ⊢
  by_cases c116 : c = 116
  · rw [if_pos c116]
    decide
  rw [if_neg c116] at h ⊢
  exact absurd rfl h
theorem sF_mi {t : Int → Int} {n h : Int} {b : Nat} {r : PS} (hM : MI n (0, b, h, r)) (hL : TL t n) : MI n (sF t b h r) := by
  obtain ⟨⟨m1, m2⟩, ⟨m3, m4⟩, ⟨m5, m6⟩, m7, m8, m9⟩ := hM
  have m1 : 0 ≤ r.1.1 := m1
  have m2 : r.1.1 ≤ n := m2
  have m3 : r.1.2.1 ≤ 6 := m3
  have m4 : (r.1.2.2.2 : Int) ≤ r.1.2.1 + r.1.1 := m4
  have m5 : (r.1.2.2.1 : Int) + (r.1.2.2.2 : Int) ≤ 2 * r.1.1 := m5
  have m7 : WS r := m7
  unfold sF
  by_cases a1 : t r.1.1 = 91
  · have lt := hL r.1.1 (by omega)
    rw [if_pos a1]
    by_cases a2 : r.1.2.1 = 6
    · rw [if_pos a2]
      refine ⟨⟨?_, ?_⟩, ⟨?_, ?_⟩, ⟨?_, ?_⟩, m7, ?_, ?_⟩
      · show 0 ≤ r.1.1
        omega
      · show r.1.1 ≤ n
        omega
      · show r.1.2.1 ≤ 6
        omega
      · show ((r.1.2.2.2 : Nat) : Int) ≤ r.1.2.1 + r.1.1
        omega
      · show ((r.1.2.2.1 : Nat) : Int) + ((r.1.2.2.2 : Nat) : Int) ≤ 2 * r.1.1
        omega
      · exact fun q => absurd (show 8 ≤ 1 from q.1) (by decide)
      · exact fun q => absurd (show 8 ≤ 1 from q) (by decide)
      · intro q
        exfalso
        rcases q with q | q
        · exact absurd (show 8 ≤ 4 from q.2) (by decide)
        · exact absurd (show 8 ≤ 1 from q.1) (by decide)
    · rw [if_neg a2]
      refine ⟨⟨?_, ?_⟩, ⟨?_, ?_⟩, ⟨?_, ?_⟩, m7.push (by decide) (by decide) (by decide), ?_, ?_⟩
      · show 0 ≤ (r.1.1 + 1)
        omega
      · show (r.1.1 + 1) ≤ n
        omega
      · show (r.1.2.1 + 1) ≤ 6
        omega
      · show (((r.1.2.2.2 + 1) : Nat) : Int) ≤ (r.1.2.1 + 1) + (r.1.1 + 1)
        omega
      · show ((r.1.2.2.1 : Nat) : Int) + (((r.1.2.2.2 + 1) : Nat) : Int) ≤ 2 * (r.1.1 + 1)
        omega
      · intro q
        have q : 7 ≤ h := q.2
        show ((r.1.2.2.1 : Nat) : Int) + (((r.1.2.2.2 + 1) : Nat) : Int) + 1 ≤ 2 * (r.1.1 + 1)
        have m6 : (r.1.2.2.1 : Int) + (r.1.2.2.2 : Int) + 1 ≤ 2 * r.1.1 := m6 ⟨(by decide : 0 ≤ 1), q⟩
        omega
      · exact fun _ => m8 (by decide : 0 ≤ 1)
      · intro q
        have q : 1 ≤ h := by rcases q with q | q; exact absurd (show 2 ≤ 0 from q.1) (by decide); exact q.2
        show 1 ≤ (r.1.2.2.2 + 1) ∧ (pUp r.2.2 r.1.2.2.2 (14680064)) 0 / 1048576 = 13 ∧ (0 ≤ 1 → 1 ≤ b)
        obtain ⟨j1, j2, j3⟩ := m9 (Or.inr ⟨(by decide : 0 ≤ 1), q⟩)
        have j1 : 1 ≤ r.1.2.2.2 := j1
        have j2 : r.2.2 0 / 1048576 = 13 := j2
        have j3 : 1 ≤ b := j3 (by decide : 0 ≤ 1)
        refine ⟨by omega, ?_, fun _ => j3⟩
        rw [pUp_ne (by omega)]
        exact j2
  · rw [if_neg a1]
    by_cases a2 : cDig (t r.1.1) = true
    · rw [if_pos a2]
      have g1 := dgN_1 (m := 4) a2
      have g2 : r.1.1 + ((dgN t r.1.1 5 : Nat) : Int) ≤ n := hL.dg m2
      have g5 := dgN_le (t := t) 5 r.1.1
      by_cases a3 : cDig (t (r.1.1 + 5)) = true ∧ dgN t r.1.1 5 = 5
      · rw [if_pos a3]
        have g3 := hL (r.1.1 + 5) (by have := cDig_t a3.1; omega)
        refine ⟨⟨?_, ?_⟩, ⟨?_, ?_⟩, ⟨?_, ?_⟩, m7, ?_, ?_⟩
        · show 0 ≤ (r.1.1 + 5)
          omega
        · show (r.1.1 + 5) ≤ n
          omega
        · show r.1.2.1 ≤ 6
          omega
        · show ((r.1.2.2.2 : Nat) : Int) ≤ r.1.2.1 + (r.1.1 + 5)
          omega
        · show ((r.1.2.2.1 : Nat) : Int) + ((r.1.2.2.2 : Nat) : Int) ≤ 2 * (r.1.1 + 5)
          omega
        · exact fun q => absurd (show 8 ≤ 1 from q.1) (by decide)
        · exact fun q => absurd (show 8 ≤ 1 from q) (by decide)
        · intro q
          exfalso
          rcases q with q | q
          · exact absurd (show 8 ≤ 4 from q.2) (by decide)
          · exact absurd (show 8 ≤ 1 from q.1) (by decide)
      · rw [if_neg a3]
        have g4 := dgV_5 (t := t) (p := r.1.1) (k := dgN t r.1.1 5) (fun i hi => dgN_all 5 r.1.1 i hi) g5
        obtain ⟨k5, hk5⟩ : ∃ k, k = dgN t r.1.1 5 := ⟨_, rfl⟩
        rw [← hk5] at g1 g2 g4 g5 ⊢
        have m7 : WS ((r.1.1 + (k5 : Int), r.1.2), r.2) := m7
        refine ⟨⟨?_, ?_⟩, ⟨?_, ?_⟩, ⟨?_, ?_⟩, m7.em g4.1 (by omega), ?_, ?_⟩
        · show 0 ≤ (r.1.1 + ((k5 : Nat) : Int))
          omega
        · show (r.1.1 + ((k5 : Nat) : Int)) ≤ n
          omega
        · show r.1.2.1 ≤ 6
          omega
        · show ((r.1.2.2.2 : Nat) : Int) ≤ r.1.2.1 + (r.1.1 + ((k5 : Nat) : Int))
          omega
        · show (((r.1.2.2.1 + 1) : Nat) : Int) + ((r.1.2.2.2 : Nat) : Int) ≤ 2 * (r.1.1 + ((k5 : Nat) : Int))
          omega
        · intro q
          have q : 7 ≤ h := q.2
          show (((r.1.2.2.1 + 1) : Nat) : Int) + ((r.1.2.2.2 : Nat) : Int) + 1 ≤ 2 * (r.1.1 + ((k5 : Nat) : Int))
          have m6 : (r.1.2.2.1 : Int) + (r.1.2.2.2 : Int) + 1 ≤ 2 * r.1.1 := m6 ⟨(by decide : 0 ≤ 1), q⟩
          omega
        · exact fun _ => m8 (by decide : 0 ≤ 1)
        · intro q
          have q : 1 ≤ h := by rcases q with q | q; exact absurd (show 2 ≤ 1 from q.1) (by decide); exact q.2
          show 1 ≤ r.1.2.2.2 ∧ r.2.2 0 / 1048576 = 13 ∧ (1 ≤ 1 → 1 ≤ b)
          obtain ⟨j1, j2, j3⟩ := m9 (Or.inr ⟨(by decide : 0 ≤ 1), q⟩)
          have j1 : 1 ≤ r.1.2.2.2 := j1
          have j2 : r.2.2 0 / 1048576 = 13 := j2
          have j3 : 1 ≤ b := j3 (by decide : 0 ≤ 1)
          exact ⟨j1, j2, fun _ => j3⟩
    · rw [if_neg a2]
      by_cases a3 : cFact (t r.1.1) = -1
      · rw [if_pos a3]
        refine ⟨⟨?_, ?_⟩, ⟨?_, ?_⟩, ⟨?_, ?_⟩, m7, ?_, ?_⟩
        · show 0 ≤ r.1.1
          omega
        · show r.1.1 ≤ n
          omega
        · show r.1.2.1 ≤ 6
          omega
        · show ((r.1.2.2.2 : Nat) : Int) ≤ r.1.2.1 + r.1.1
          omega
        · show ((r.1.2.2.1 : Nat) : Int) + ((r.1.2.2.2 : Nat) : Int) ≤ 2 * r.1.1
          omega
        · exact fun q => absurd (show 8 ≤ 1 from q.1) (by decide)
        · exact fun q => absurd (show 8 ≤ 1 from q) (by decide)
        · intro q
          exfalso
          rcases q with q | q
          · exact absurd (show 8 ≤ 4 from q.2) (by decide)
          · exact absurd (show 8 ≤ 1 from q.1) (by decide)
      · rw [if_neg a3]
        have lt := hL r.1.1 (by intro q; rw [q] at a3; exact a3 rfl)
        have rg := cFact_rg a3
        refine ⟨⟨?_, ?_⟩, ⟨?_, ?_⟩, ⟨?_, ?_⟩, m7.em (by omega) (by omega), ?_, ?_⟩
        · show 0 ≤ (r.1.1 + 1)
          omega
        · show (r.1.1 + 1) ≤ n
          omega
        · show r.1.2.1 ≤ 6
          omega
        · show ((r.1.2.2.2 : Nat) : Int) ≤ r.1.2.1 + (r.1.1 + 1)
          omega
        · show (((r.1.2.2.1 + 1) : Nat) : Int) + ((r.1.2.2.2 : Nat) : Int) ≤ 2 * (r.1.1 + 1)
          omega
        · intro q
          have q : 7 ≤ h := q.2
          show (((r.1.2.2.1 + 1) : Nat) : Int) + ((r.1.2.2.2 : Nat) : Int) + 1 ≤ 2 * (r.1.1 + 1)
          have m6 : (r.1.2.2.1 : Int) + (r.1.2.2.2 : Int) + 1 ≤ 2 * r.1.1 := m6 ⟨(by decide : 0 ≤ 1), q⟩
          omega
        · exact fun _ => m8 (by decide : 0 ≤ 1)
        · intro q
          have q : 1 ≤ h := by rcases q with q | q; exact absurd (show 2 ≤ 1 from q.1) (by decide); exact q.2
          show 1 ≤ r.1.2.2.2 ∧ r.2.2 0 / 1048576 = 13 ∧ (1 ≤ 1 → 1 ≤ b)
          obtain ⟨j1, j2, j3⟩ := m9 (Or.inr ⟨(by decide : 0 ≤ 1), q⟩)
          have j1 : 1 ≤ r.1.2.2.2 := j1
          have j2 : r.2.2 0 / 1048576 = 13 := j2
          have j3 : 1 ≤ b := j3 (by decide : 0 ≤ 1)
          exact ⟨j1, j2, fun _ => j3⟩
theorem cSum_rg {c : Int} : cSum c = -1 ∨ (2 ≤ cSum c ∧ cSum c ≤ 6 ∧ ¬ c = -1) := by
  unfold cSum
  by_cases c43 : c = 43
  · rw [if_pos c43]
    exact Or.inr ⟨by decide, by decide, by omega⟩
  rw [if_neg c43]
  by_cases c45 : c = 45
  · rw [if_pos c45]
    exact Or.inr ⟨by decide, by decide, by omega⟩
  rw [if_neg c45]
  by_cases c42 : c = 42
  · rw [if_pos c42]
    exact Or.inr ⟨by decide, by decide, by omega⟩
  rw [if_neg c42]
  by_cases c47 : c = 47
  · rw [if_pos c47]
    exact Or.inr ⟨by decide, by decide, by omega⟩
  rw [if_neg c47]
  by_cases c37 : c = 37
  · rw [if_pos c37]
    exact Or.inr ⟨by decide, by decide, by omega⟩
  rw [if_neg c37]
  exact Or.inl rfl
theorem sA_mi {t : Int → Int} {n h : Int} {b : Nat} {r : PS} (hM : MI n (1, b, h, r)) (hL : TL t n) : MI n (sA t b h r) := by
  obtain ⟨⟨m1, m2⟩, ⟨m3, m4⟩, ⟨m5, m6⟩, m7, m8, m9⟩ := hM
  have m1 : 0 ≤ r.1.1 := m1
  have m2 : r.1.1 ≤ n := m2
  have m3 : r.1.2.1 ≤ 6 := m3
  have m4 : (r.1.2.2.2 : Int) ≤ r.1.2.1 + r.1.1 := m4
  have m5 : (r.1.2.2.1 : Int) + (r.1.2.2.2 : Int) ≤ 2 * r.1.1 := m5
  have m7 : WS r := m7
  have m8 : h = 0 ∨ h = 1 ∨ h = 7 ∨ h = 8 ∨ h = 9 := m8 (by decide : 1 ≤ 1)
  unfold sA
  by_cases a1 : 4 ≤ pTop r ∧ pTop r ≤ 6
  · rw [if_pos a1]
    obtain ⟨w1, hw⟩ := pTop_w (r := r) rfl (by omega)
    refine ⟨⟨?_, ?_⟩, ⟨?_, ?_⟩, ⟨?_, ?_⟩, (m7.em (by omega) (by omega)).pop, ?_, ?_⟩
    · show 0 ≤ r.1.1
      omega
    · show r.1.1 ≤ n
      omega
    · show r.1.2.1 ≤ 6
      omega
    · show (((r.1.2.2.2 - 1) : Nat) : Int) ≤ r.1.2.1 + r.1.1
      omega
    · show (((r.1.2.2.1 + 1) : Nat) : Int) + (((r.1.2.2.2 - 1) : Nat) : Int) ≤ 2 * r.1.1
      omega
    · intro q
      have q : 7 ≤ h := q.2
      show (((r.1.2.2.1 + 1) : Nat) : Int) + (((r.1.2.2.2 - 1) : Nat) : Int) + 1 ≤ 2 * r.1.1
      have m6 : (r.1.2.2.1 : Int) + (r.1.2.2.2 : Int) + 1 ≤ 2 * r.1.1 := m6 ⟨(by decide : 1 ≤ 1), q⟩
      omega
    · exact fun _ => m8
    · intro q
      have q : 1 ≤ h := by rcases q with q | q; exact absurd (show 2 ≤ 1 from q.1) (by decide); exact q.2
      show 1 ≤ (r.1.2.2.2 - 1) ∧ r.2.2 0 / 1048576 = 13 ∧ (1 ≤ 1 → 1 ≤ b)
      obtain ⟨j1, j2, j3⟩ := m9 (Or.inr ⟨(by decide : 1 ≤ 1), q⟩)
      have j1 : 1 ≤ r.1.2.2.2 := j1
      have j2 : r.2.2 0 / 1048576 = 13 := j2
      have j3 : 1 ≤ b := j3 (by decide : 1 ≤ 1)
      have : ¬ r.1.2.2.2 = 1 := fun e => by rw [e] at hw; have hw : r.2.2 0 / 1048576 = pTop r := hw; omega
      exact ⟨by omega, j2, fun _ => j3⟩
  rw [if_neg a1]
  by_cases a2 : (pTop r = 2 ∨ pTop r = 3) ∧ cSum (t r.1.1) < 4
  · rw [if_pos a2]
    obtain ⟨w1, hw⟩ := pTop_w (r := r) rfl (by omega)
    refine ⟨⟨?_, ?_⟩, ⟨?_, ?_⟩, ⟨?_, ?_⟩, (m7.em (by omega) (by omega)).pop, ?_, ?_⟩
    · show 0 ≤ r.1.1
      omega
    · show r.1.1 ≤ n
      omega
    · show r.1.2.1 ≤ 6
      omega
    · show (((r.1.2.2.2 - 1) : Nat) : Int) ≤ r.1.2.1 + r.1.1
      omega
    · show (((r.1.2.2.1 + 1) : Nat) : Int) + (((r.1.2.2.2 - 1) : Nat) : Int) ≤ 2 * r.1.1
      omega
    · intro q
      have q : 7 ≤ h := q.2
      show (((r.1.2.2.1 + 1) : Nat) : Int) + (((r.1.2.2.2 - 1) : Nat) : Int) + 1 ≤ 2 * r.1.1
      have m6 : (r.1.2.2.1 : Int) + (r.1.2.2.2 : Int) + 1 ≤ 2 * r.1.1 := m6 ⟨(by decide : 1 ≤ 1), q⟩
      omega
    · exact fun _ => m8
    · intro q
      have q : 1 ≤ h := by rcases q with q | q; exact absurd (show 2 ≤ 1 from q.1) (by decide); exact q.2
      show 1 ≤ (r.1.2.2.2 - 1) ∧ r.2.2 0 / 1048576 = 13 ∧ (1 ≤ 1 → 1 ≤ b)
      obtain ⟨j1, j2, j3⟩ := m9 (Or.inr ⟨(by decide : 1 ≤ 1), q⟩)
      have j1 : 1 ≤ r.1.2.2.2 := j1
      have j2 : r.2.2 0 / 1048576 = 13 := j2
      have j3 : 1 ≤ b := j3 (by decide : 1 ≤ 1)
      have : ¬ r.1.2.2.2 = 1 := fun e => by rw [e] at hw; have hw : r.2.2 0 / 1048576 = pTop r := hw; omega
      exact ⟨by omega, j2, fun _ => j3⟩
  rw [if_neg a2]
  by_cases a3 : cSum (t r.1.1) ≠ -1
  · rw [if_pos a3]
    have c9 : 2 ≤ cSum (t r.1.1) ∧ cSum (t r.1.1) ≤ 6 ∧ ¬ t r.1.1 = -1 := by rcases cSum_rg (c := t r.1.1) with q | q; exact absurd q a3; exact q
    have lt := hL r.1.1 c9.2.2
    refine ⟨⟨?_, ?_⟩, ⟨?_, ?_⟩, ⟨?_, ?_⟩, m7.push (by omega) (by omega) (by omega), ?_, ?_⟩
    · show 0 ≤ (r.1.1 + 1)
      omega
    · show (r.1.1 + 1) ≤ n
      omega
    · show r.1.2.1 ≤ 6
      omega
    · show (((r.1.2.2.2 + 1) : Nat) : Int) ≤ r.1.2.1 + (r.1.1 + 1)
      omega
    · show ((r.1.2.2.1 : Nat) : Int) + (((r.1.2.2.2 + 1) : Nat) : Int) ≤ 2 * (r.1.1 + 1)
      omega
    · intro q
      have q : 7 ≤ h := q.2
      show ((r.1.2.2.1 : Nat) : Int) + (((r.1.2.2.2 + 1) : Nat) : Int) + 1 ≤ 2 * (r.1.1 + 1)
      have m6 : (r.1.2.2.1 : Int) + (r.1.2.2.2 : Int) + 1 ≤ 2 * r.1.1 := m6 ⟨(by decide : 1 ≤ 1), q⟩
      omega
    · exact fun _ => m8
    · intro q
      have q : 1 ≤ h := by rcases q with q | q; exact absurd (show 2 ≤ 0 from q.1) (by decide); exact q.2
      show 1 ≤ (r.1.2.2.2 + 1) ∧ (pUp r.2.2 r.1.2.2.2 (cSum (t r.1.1) * 1048576)) 0 / 1048576 = 13 ∧ (0 ≤ 1 → 1 ≤ b)
      obtain ⟨j1, j2, j3⟩ := m9 (Or.inr ⟨(by decide : 1 ≤ 1), q⟩)
      have j1 : 1 ≤ r.1.2.2.2 := j1
      have j2 : r.2.2 0 / 1048576 = 13 := j2
      have j3 : 1 ≤ b := j3 (by decide : 1 ≤ 1)
      refine ⟨by omega, ?_, fun _ => j3⟩
      rw [pUp_ne (by omega)]
      exact j2
  rw [if_neg a3]
  by_cases a4 : t r.1.1 = 93 ∧ pHas r b r.1.2.2.2 = true
  · rw [if_pos a4]
    have lt := hL r.1.1 (by omega)
    obtain ⟨k, k1, k2, k3⟩ := pHas_ex _ a4.2
    refine ⟨⟨?_, ?_⟩, ⟨?_, ?_⟩, ⟨?_, ?_⟩, m7.pop, ?_, ?_⟩
    · show 0 ≤ (r.1.1 + 1)
      omega
    · show (r.1.1 + 1) ≤ n
      omega
    · show (r.1.2.1 + -1) ≤ 6
      omega
    · show (((r.1.2.2.2 - 1) : Nat) : Int) ≤ (r.1.2.1 + -1) + (r.1.1 + 1)
      omega
    · show ((r.1.2.2.1 : Nat) : Int) + (((r.1.2.2.2 - 1) : Nat) : Int) ≤ 2 * (r.1.1 + 1)
      omega
    · intro q
      have q : 7 ≤ h := q.2
      show ((r.1.2.2.1 : Nat) : Int) + (((r.1.2.2.2 - 1) : Nat) : Int) + 1 ≤ 2 * (r.1.1 + 1)
      have m6 : (r.1.2.2.1 : Int) + (r.1.2.2.2 : Int) + 1 ≤ 2 * r.1.1 := m6 ⟨(by decide : 1 ≤ 1), q⟩
      omega
    · exact fun _ => m8
    · intro q
      have q : 1 ≤ h := by rcases q with q | q; exact absurd (show 2 ≤ 1 from q.1) (by decide); exact q.2
      show 1 ≤ (r.1.2.2.2 - 1) ∧ r.2.2 0 / 1048576 = 13 ∧ (1 ≤ 1 → 1 ≤ b)
      obtain ⟨j1, j2, j3⟩ := m9 (Or.inr ⟨(by decide : 1 ≤ 1), q⟩)
      have j1 : 1 ≤ r.1.2.2.2 := j1
      have j2 : r.2.2 0 / 1048576 = 13 := j2
      have j3 : 1 ≤ b := j3 (by decide : 1 ≤ 1)
      exact ⟨by omega, j2, fun _ => j3⟩
  rw [if_neg a4]
  by_cases a5 : pHas r b r.1.2.2.2 = true
  · rw [if_pos a5]
    refine ⟨⟨?_, ?_⟩, ⟨?_, ?_⟩, ⟨?_, ?_⟩, m7, ?_, ?_⟩
    · show 0 ≤ r.1.1
      omega
    · show r.1.1 ≤ n
      omega
    · show r.1.2.1 ≤ 6
      omega
    · show ((r.1.2.2.2 : Nat) : Int) ≤ r.1.2.1 + r.1.1
      omega
    · show ((r.1.2.2.1 : Nat) : Int) + ((r.1.2.2.2 : Nat) : Int) ≤ 2 * r.1.1
      omega
    · exact fun q => absurd (show 8 ≤ 1 from q.1) (by decide)
    · exact fun q => absurd (show 8 ≤ 1 from q) (by decide)
    · intro q
      exfalso
      rcases q with q | q
      · exact absurd (show 8 ≤ 4 from q.2) (by decide)
      · exact absurd (show 8 ≤ 1 from q.1) (by decide)
  rw [if_neg a5]
  by_cases a6 : h = 0
  · rw [if_pos a6]
    refine ⟨⟨?_, ?_⟩, ⟨?_, ?_⟩, ⟨?_, ?_⟩, m7, ?_, ?_⟩
    · show 0 ≤ r.1.1
      omega
    · show r.1.1 ≤ n
      omega
    · show r.1.2.1 ≤ 6
      omega
    · show ((r.1.2.2.2 : Nat) : Int) ≤ r.1.2.1 + r.1.1
      omega
    · show ((r.1.2.2.1 : Nat) : Int) + ((r.1.2.2.2 : Nat) : Int) ≤ 2 * r.1.1
      omega
    · exact fun q => absurd (show 7 ≤ 1 from q.1) (by decide)
    · exact fun q => absurd (show 7 ≤ 1 from q) (by decide)
    · intro q
      exfalso
      rcases q with q | q
      · exact absurd (show 7 ≤ 4 from q.2) (by decide)
      · exact absurd (show 7 ≤ 1 from q.1) (by decide)
  rw [if_neg a6]
  by_cases a7 : h = 1
  · rw [if_pos a7]
    obtain ⟨j1, j2, j3⟩ := m9 (Or.inr ⟨(by decide : 1 ≤ 1), by show 1 ≤ h; omega⟩)
    have j1 : 1 ≤ r.1.2.2.2 := j1
    have j2 : r.2.2 0 / 1048576 = 13 := j2
    by_cases d60 : t r.1.1 = 60
    · rw [if_pos d60]
      have lt := hL r.1.1 (by omega)
      refine ⟨⟨?_, ?_⟩, ⟨?_, ?_⟩, ⟨?_, ?_⟩, m7, ?_, ?_⟩
      · show 0 ≤ (r.1.1 + 1)
        omega
      · show (r.1.1 + 1) ≤ n
        omega
      · show r.1.2.1 ≤ 6
        omega
      · show ((r.1.2.2.2 : Nat) : Int) ≤ r.1.2.1 + (r.1.1 + 1)
        omega
      · show ((r.1.2.2.1 : Nat) : Int) + ((r.1.2.2.2 : Nat) : Int) ≤ 2 * (r.1.1 + 1)
        omega
      · intro q
        have q : (7 : Int) ≤ 7 := q.2
        show ((r.1.2.2.1 : Nat) : Int) + ((r.1.2.2.2 : Nat) : Int) + 1 ≤ 2 * (r.1.1 + 1)
        omega
      · exact fun _ => by show (7 : Int) = 0 ∨ (7 : Int) = 1 ∨ (7 : Int) = 7 ∨ (7 : Int) = 8 ∨ (7 : Int) = 9; decide
      · intro q
        have q : (1 : Int) ≤ 7 := by rcases q with q | q; exact absurd (show 2 ≤ 0 from q.1) (by decide); exact q.2
        show 1 ≤ r.1.2.2.2 ∧ r.2.2 0 / 1048576 = 13 ∧ (0 ≤ 1 → 1 ≤ r.1.2.2.2)
        exact ⟨j1, j2, fun _ => j1⟩
    rw [if_neg d60]
    by_cases d62 : t r.1.1 = 62
    · rw [if_pos d62]
      have lt := hL r.1.1 (by omega)
      refine ⟨⟨?_, ?_⟩, ⟨?_, ?_⟩, ⟨?_, ?_⟩, m7, ?_, ?_⟩
      · show 0 ≤ (r.1.1 + 1)
        omega
      · show (r.1.1 + 1) ≤ n
        omega
      · show r.1.2.1 ≤ 6
        omega
      · show ((r.1.2.2.2 : Nat) : Int) ≤ r.1.2.1 + (r.1.1 + 1)
        omega
      · show ((r.1.2.2.1 : Nat) : Int) + ((r.1.2.2.2 : Nat) : Int) ≤ 2 * (r.1.1 + 1)
        omega
      · intro q
        have q : (7 : Int) ≤ 8 := q.2
        show ((r.1.2.2.1 : Nat) : Int) + ((r.1.2.2.2 : Nat) : Int) + 1 ≤ 2 * (r.1.1 + 1)
        omega
      · exact fun _ => by show (8 : Int) = 0 ∨ (8 : Int) = 1 ∨ (8 : Int) = 7 ∨ (8 : Int) = 8 ∨ (8 : Int) = 9; decide
      · intro q
        have q : (1 : Int) ≤ 8 := by rcases q with q | q; exact absurd (show 2 ≤ 0 from q.1) (by decide); exact q.2
        show 1 ≤ r.1.2.2.2 ∧ r.2.2 0 / 1048576 = 13 ∧ (0 ≤ 1 → 1 ≤ r.1.2.2.2)
        exact ⟨j1, j2, fun _ => j1⟩
    rw [if_neg d62]
    by_cases d61 : t r.1.1 = 61
    · rw [if_pos d61]
      have lt := hL r.1.1 (by omega)
      refine ⟨⟨?_, ?_⟩, ⟨?_, ?_⟩, ⟨?_, ?_⟩, m7, ?_, ?_⟩
      · show 0 ≤ (r.1.1 + 1)
        omega
      · show (r.1.1 + 1) ≤ n
        omega
      · show r.1.2.1 ≤ 6
        omega
      · show ((r.1.2.2.2 : Nat) : Int) ≤ r.1.2.1 + (r.1.1 + 1)
        omega
      · show ((r.1.2.2.1 : Nat) : Int) + ((r.1.2.2.2 : Nat) : Int) ≤ 2 * (r.1.1 + 1)
        omega
      · intro q
        have q : (7 : Int) ≤ 9 := q.2
        show ((r.1.2.2.1 : Nat) : Int) + ((r.1.2.2.2 : Nat) : Int) + 1 ≤ 2 * (r.1.1 + 1)
        omega
      · exact fun _ => by show (9 : Int) = 0 ∨ (9 : Int) = 1 ∨ (9 : Int) = 7 ∨ (9 : Int) = 8 ∨ (9 : Int) = 9; decide
      · intro q
        have q : (1 : Int) ≤ 9 := by rcases q with q | q; exact absurd (show 2 ≤ 0 from q.1) (by decide); exact q.2
        show 1 ≤ r.1.2.2.2 ∧ r.2.2 0 / 1048576 = 13 ∧ (0 ≤ 1 → 1 ≤ r.1.2.2.2)
        exact ⟨j1, j2, fun _ => j1⟩
    rw [if_neg d61]
    refine ⟨⟨?_, ?_⟩, ⟨?_, ?_⟩, ⟨?_, ?_⟩, m7, ?_, ?_⟩
    · show 0 ≤ r.1.1
      omega
    · show r.1.1 ≤ n
      omega
    · show r.1.2.1 ≤ 6
      omega
    · show ((r.1.2.2.2 : Nat) : Int) ≤ r.1.2.1 + r.1.1
      omega
    · show ((r.1.2.2.1 : Nat) : Int) + ((r.1.2.2.2 : Nat) : Int) ≤ 2 * r.1.1
      omega
    · exact fun q => absurd (show 8 ≤ 1 from q.1) (by decide)
    · exact fun q => absurd (show 8 ≤ 1 from q) (by decide)
    · intro q
      exfalso
      rcases q with q | q
      · exact absurd (show 8 ≤ 4 from q.2) (by decide)
      · exact absurd (show 8 ≤ 1 from q.1) (by decide)
  rw [if_neg a7]
  obtain ⟨j1, j2, j3⟩ := m9 (Or.inr ⟨(by decide : 1 ≤ 1), by show 1 ≤ h; omega⟩)
  have j1 : 1 ≤ r.1.2.2.2 := j1
  have j2 : r.2.2 0 / 1048576 = 13 := j2
  have m6 : (r.1.2.2.1 : Int) + (r.1.2.2.2 : Int) + 1 ≤ 2 * r.1.1 := m6 ⟨(by decide : 1 ≤ 1), by show 7 ≤ h; omega⟩
  refine ⟨⟨?_, ?_⟩, ⟨?_, ?_⟩, ⟨?_, ?_⟩, m7.em (by omega) (by omega), ?_, ?_⟩
  · show 0 ≤ r.1.1
    omega
  · show r.1.1 ≤ n
    omega
  · show r.1.2.1 ≤ 6
    omega
  · show ((r.1.2.2.2 : Nat) : Int) ≤ r.1.2.1 + r.1.1
    omega
  · show (((r.1.2.2.1 + 1) : Nat) : Int) + ((r.1.2.2.2 : Nat) : Int) ≤ 2 * r.1.1
    omega
  · exact fun q => absurd (show 3 ≤ 1 from q.1) (by decide)
  · exact fun q => absurd (show 3 ≤ 1 from q) (by decide)
  · intro q
    show 1 ≤ r.1.2.2.2 ∧ r.2.2 0 / 1048576 = 13 ∧ (3 ≤ 1 → 1 ≤ 0)
    exact ⟨j1, j2, fun q => absurd q (by decide)⟩
theorem sP_mi {t : Int → Int} {n h : Int} {b : Nat} {r : PS} (hM : MI n (2, b, h, r)) (hL : TL t n) : MI n (sP t r) := by
  obtain ⟨⟨m1, m2⟩, ⟨m3, m4⟩, ⟨m5, m6⟩, m7, m8, m9⟩ := hM
  have m1 : 0 ≤ r.1.1 := m1
  have m2 : r.1.1 ≤ n := m2
  have m3 : r.1.2.1 ≤ 6 := m3
  have m4 : (r.1.2.2.2 : Int) ≤ r.1.2.1 + r.1.1 := m4
  have m5 : (r.1.2.2.1 : Int) + (r.1.2.2.2 : Int) ≤ 2 * r.1.1 := m5
  have m7 : WS r := m7
  obtain ⟨j1, j2, _⟩ := m9 (Or.inl ⟨(by decide : 2 ≤ 2), (by decide : 2 ≤ 4)⟩)
  have j1 : 1 ≤ r.1.2.2.2 := j1
  have j2 : r.2.2 0 / 1048576 = 13 := j2
  unfold sP
  by_cases d33 : t r.1.1 = 33
  · rw [if_pos d33]
    have lt := hL r.1.1 (by omega)
    by_cases a2 : r.1.2.1 = 6
    · rw [if_pos a2]
      refine ⟨⟨?_, ?_⟩, ⟨?_, ?_⟩, ⟨?_, ?_⟩, m7, ?_, ?_⟩
      · show 0 ≤ r.1.1
        omega
      · show r.1.1 ≤ n
        omega
      · show r.1.2.1 ≤ 6
        omega
      · show ((r.1.2.2.2 : Nat) : Int) ≤ r.1.2.1 + r.1.1
        omega
      · show ((r.1.2.2.1 : Nat) : Int) + ((r.1.2.2.2 : Nat) : Int) ≤ 2 * r.1.1
        omega
      · exact fun q => absurd (show 8 ≤ 1 from q.1) (by decide)
      · exact fun q => absurd (show 8 ≤ 1 from q) (by decide)
      · intro q
        exfalso
        rcases q with q | q
        · exact absurd (show 8 ≤ 4 from q.2) (by decide)
        · exact absurd (show 8 ≤ 1 from q.1) (by decide)
    · rw [if_neg a2]
      refine ⟨⟨?_, ?_⟩, ⟨?_, ?_⟩, ⟨?_, ?_⟩, m7.push (by decide) (by decide) (by decide), ?_, ?_⟩
      · show 0 ≤ (r.1.1 + 1)
        omega
      · show (r.1.1 + 1) ≤ n
        omega
      · show (r.1.2.1 + 1) ≤ 6
        omega
      · show (((r.1.2.2.2 + 1) : Nat) : Int) ≤ (r.1.2.1 + 1) + (r.1.1 + 1)
        omega
      · show ((r.1.2.2.1 : Nat) : Int) + (((r.1.2.2.2 + 1) : Nat) : Int) ≤ 2 * (r.1.1 + 1)
        omega
      · exact fun q => absurd (show 2 ≤ 1 from q.1) (by decide)
      · exact fun q => absurd (show 2 ≤ 1 from q) (by decide)
      · intro q
        show 1 ≤ (r.1.2.2.2 + 1) ∧ (pUp r.2.2 r.1.2.2.2 (10485760)) 0 / 1048576 = 13 ∧ (2 ≤ 1 → 1 ≤ 0)
        refine ⟨by omega, ?_, fun q => absurd q (by decide)⟩
        rw [pUp_ne (by omega)]
        exact j2
  rw [if_neg d33]
  by_cases d40 : t r.1.1 = 40
  · rw [if_pos d40]
    have lt := hL r.1.1 (by omega)
    by_cases a2 : r.1.2.1 = 6
    · rw [if_pos a2]
      refine ⟨⟨?_, ?_⟩, ⟨?_, ?_⟩, ⟨?_, ?_⟩, m7, ?_, ?_⟩
      · show 0 ≤ r.1.1
        omega
      · show r.1.1 ≤ n
        omega
      · show r.1.2.1 ≤ 6
        omega
      · show ((r.1.2.2.2 : Nat) : Int) ≤ r.1.2.1 + r.1.1
        omega
      · show ((r.1.2.2.1 : Nat) : Int) + ((r.1.2.2.2 : Nat) : Int) ≤ 2 * r.1.1
        omega
      · exact fun q => absurd (show 8 ≤ 1 from q.1) (by decide)
      · exact fun q => absurd (show 8 ≤ 1 from q) (by decide)
      · intro q
        exfalso
        rcases q with q | q
        · exact absurd (show 8 ≤ 4 from q.2) (by decide)
        · exact absurd (show 8 ≤ 1 from q.1) (by decide)
    · rw [if_neg a2]
      refine ⟨⟨?_, ?_⟩, ⟨?_, ?_⟩, ⟨?_, ?_⟩, m7.push (by decide) (by decide) (by decide), ?_, ?_⟩
      · show 0 ≤ (r.1.1 + 1)
        omega
      · show (r.1.1 + 1) ≤ n
        omega
      · show (r.1.2.1 + 1) ≤ 6
        omega
      · show (((r.1.2.2.2 + 1) : Nat) : Int) ≤ (r.1.2.1 + 1) + (r.1.1 + 1)
        omega
      · show ((r.1.2.2.1 : Nat) : Int) + (((r.1.2.2.2 + 1) : Nat) : Int) ≤ 2 * (r.1.1 + 1)
        omega
      · exact fun q => absurd (show 2 ≤ 1 from q.1) (by decide)
      · exact fun q => absurd (show 2 ≤ 1 from q) (by decide)
      · intro q
        show 1 ≤ (r.1.2.2.2 + 1) ∧ (pUp r.2.2 r.1.2.2.2 (13631488)) 0 / 1048576 = 13 ∧ (2 ≤ 1 → 1 ≤ 0)
        refine ⟨by omega, ?_, fun q => absurd q (by decide)⟩
        rw [pUp_ne (by omega)]
        exact j2
  rw [if_neg d40]
  refine ⟨⟨?_, ?_⟩, ⟨?_, ?_⟩, ⟨?_, ?_⟩, m7, ?_, ?_⟩
  · show 0 ≤ r.1.1
    omega
  · show r.1.1 ≤ n
    omega
  · show r.1.2.1 ≤ 6
    omega
  · show ((r.1.2.2.2 : Nat) : Int) ≤ r.1.2.1 + r.1.1
    omega
  · show ((r.1.2.2.1 : Nat) : Int) + ((r.1.2.2.2 : Nat) : Int) ≤ 2 * r.1.1
    omega
  · intro q
    have q : (7 : Int) ≤ 1 := q.2
    show ((r.1.2.2.1 : Nat) : Int) + ((r.1.2.2.2 : Nat) : Int) + 1 ≤ 2 * r.1.1
    exact absurd q (by decide)
  · exact fun _ => by show (1 : Int) = 0 ∨ (1 : Int) = 1 ∨ (1 : Int) = 7 ∨ (1 : Int) = 8 ∨ (1 : Int) = 9; decide
  · intro q
    have q : (1 : Int) ≤ 1 := by rcases q with q | q; exact absurd (show 2 ≤ 0 from q.1) (by decide); exact q.2
    show 1 ≤ r.1.2.2.2 ∧ r.2.2 0 / 1048576 = 13 ∧ (0 ≤ 1 → 1 ≤ r.1.2.2.2)
    exact ⟨j1, j2, fun _ => j1⟩
theorem sE_mi {n h : Int} {b : Nat} {r : PS} (hM : MI n (3, b, h, r)) : MI n (sE r) := by
  obtain ⟨⟨m1, m2⟩, ⟨m3, m4⟩, ⟨m5, m6⟩, m7, m8, m9⟩ := hM
  have m1 : 0 ≤ r.1.1 := m1
  have m2 : r.1.1 ≤ n := m2
  have m3 : r.1.2.1 ≤ 6 := m3
  have m4 : (r.1.2.2.2 : Int) ≤ r.1.2.1 + r.1.1 := m4
  have m5 : (r.1.2.2.1 : Int) + (r.1.2.2.2 : Int) ≤ 2 * r.1.1 := m5
  have m7 : WS r := m7
  obtain ⟨j1, j2, _⟩ := m9 (Or.inl ⟨(by decide : 2 ≤ 3), (by decide : 3 ≤ 4)⟩)
  have j1 : 1 ≤ r.1.2.2.2 := j1
  have j2 : r.2.2 0 / 1048576 = 13 := j2
  unfold sE
  by_cases a1 : pTop r = 10
  · rw [if_pos a1]
    obtain ⟨w1, hw⟩ := pTop_w a1 (by decide)
    have : ¬ r.1.2.2.2 = 1 := fun e => by rw [e] at hw; have hw : r.2.2 0 / 1048576 = 10 := hw; omega
    refine ⟨⟨?_, ?_⟩, ⟨?_, ?_⟩, ⟨?_, ?_⟩, (m7.em (by decide) (by decide)).pop, ?_, ?_⟩
    · show 0 ≤ r.1.1
      omega
    · show r.1.1 ≤ n
      omega
    · show (r.1.2.1 + -1) ≤ 6
      omega
    · show (((r.1.2.2.2 - 1) : Nat) : Int) ≤ (r.1.2.1 + -1) + r.1.1
      omega
    · show (((r.1.2.2.1 + 1) : Nat) : Int) + (((r.1.2.2.2 - 1) : Nat) : Int) ≤ 2 * r.1.1
      omega
    · exact fun q => absurd (show 3 ≤ 1 from q.1) (by decide)
    · exact fun q => absurd (show 3 ≤ 1 from q) (by decide)
    · intro q
      show 1 ≤ (r.1.2.2.2 - 1) ∧ r.2.2 0 / 1048576 = 13 ∧ (3 ≤ 1 → 1 ≤ 0)
      exact ⟨by omega, j2, fun q => absurd q (by decide)⟩
  rw [if_neg a1]
  refine ⟨⟨?_, ?_⟩, ⟨?_, ?_⟩, ⟨?_, ?_⟩, m7, ?_, ?_⟩
  · show 0 ≤ r.1.1
    omega
  · show r.1.1 ≤ n
    omega
  · show r.1.2.1 ≤ 6
    omega
  · show ((r.1.2.2.2 : Nat) : Int) ≤ r.1.2.1 + r.1.1
    omega
  · show ((r.1.2.2.1 : Nat) : Int) + ((r.1.2.2.2 : Nat) : Int) ≤ 2 * r.1.1
    omega
  · exact fun q => absurd (show 4 ≤ 1 from q.1) (by decide)
  · exact fun q => absurd (show 4 ≤ 1 from q) (by decide)
  · intro q
    show 1 ≤ r.1.2.2.2 ∧ r.2.2 0 / 1048576 = 13 ∧ (4 ≤ 1 → 1 ≤ 0)
    exact ⟨j1, j2, fun q => absurd q (by decide)⟩
theorem sQ_mi {t : Int → Int} {n h : Int} {b : Nat} {r : PS} (hn : n ≤ 160) (hM : MI n (4, b, h, r)) (hL : TL t n) : MI n (sQ t r) := by
  obtain ⟨⟨m1, m2⟩, ⟨m3, m4⟩, ⟨m5, m6⟩, m7, m8, m9⟩ := hM
  have m1 : 0 ≤ r.1.1 := m1
  have m2 : r.1.1 ≤ n := m2
  have m3 : r.1.2.1 ≤ 6 := m3
  have m4 : (r.1.2.2.2 : Int) ≤ r.1.2.1 + r.1.1 := m4
  have m5 : (r.1.2.2.1 : Int) + (r.1.2.2.2 : Int) ≤ 2 * r.1.1 := m5
  have m7 : WS r := m7
  obtain ⟨j1, j2, _⟩ := m9 (Or.inl ⟨(by decide : 2 ≤ 4), (by decide : 4 ≤ 4)⟩)
  have j1 : 1 ≤ r.1.2.2.2 := j1
  have j2 : r.2.2 0 / 1048576 = 13 := j2
  unfold sQ
  by_cases a11 : pTop r = 11
  · rw [if_pos a11]
    obtain ⟨w1, hw⟩ := pTop_w a11 (by decide)
    have : ¬ r.1.2.2.2 = 1 := fun e => by rw [e] at hw; have hw : r.2.2 0 / 1048576 = 11 := hw; omega
    refine ⟨⟨?_, ?_⟩, ⟨?_, ?_⟩, ⟨?_, ?_⟩, m7.land (by decide) a11 (by omega), ?_, ?_⟩
    · show 0 ≤ r.1.1
      omega
    · show r.1.1 ≤ n
      omega
    · show r.1.2.1 ≤ 6
      omega
    · show (((r.1.2.2.2 - 1) : Nat) : Int) ≤ r.1.2.1 + r.1.1
      omega
    · show ((r.1.2.2.1 : Nat) : Int) + (((r.1.2.2.2 - 1) : Nat) : Int) ≤ 2 * r.1.1
      omega
    · exact fun q => absurd (show 4 ≤ 1 from q.1) (by decide)
    · exact fun q => absurd (show 4 ≤ 1 from q) (by decide)
    · intro q
      show 1 ≤ (r.1.2.2.2 - 1) ∧ r.2.2 0 / 1048576 = 13 ∧ (4 ≤ 1 → 1 ≤ 0)
      exact ⟨by omega, j2, fun q => absurd q (by decide)⟩
  rw [if_neg a11]
  by_cases a12 : pTop r = 12 ∧ t r.1.1 ≠ 38
  · rw [if_pos a12]
    obtain ⟨w1, hw⟩ := pTop_w a12.1 (by decide)
    have : ¬ r.1.2.2.2 = 1 := fun e => by rw [e] at hw; have hw : r.2.2 0 / 1048576 = 12 := hw; omega
    refine ⟨⟨?_, ?_⟩, ⟨?_, ?_⟩, ⟨?_, ?_⟩, m7.land (by decide) a12.1 (by omega), ?_, ?_⟩
    · show 0 ≤ r.1.1
      omega
    · show r.1.1 ≤ n
      omega
    · show r.1.2.1 ≤ 6
      omega
    · show (((r.1.2.2.2 - 1) : Nat) : Int) ≤ r.1.2.1 + r.1.1
      omega
    · show ((r.1.2.2.1 : Nat) : Int) + (((r.1.2.2.2 - 1) : Nat) : Int) ≤ 2 * r.1.1
      omega
    · exact fun q => absurd (show 4 ≤ 1 from q.1) (by decide)
    · exact fun q => absurd (show 4 ≤ 1 from q) (by decide)
    · intro q
      show 1 ≤ (r.1.2.2.2 - 1) ∧ r.2.2 0 / 1048576 = 13 ∧ (4 ≤ 1 → 1 ≤ 0)
      exact ⟨by omega, j2, fun q => absurd q (by decide)⟩
  rw [if_neg a12]
  by_cases d41 : t r.1.1 = 41
  · rw [if_pos d41]
    have lt := hL r.1.1 (by omega)
    by_cases a2 : r.1.2.2.2 = 1
    · rw [if_pos a2]
      refine ⟨⟨?_, ?_⟩, ⟨?_, ?_⟩, ⟨?_, ?_⟩, m7.pop, ?_, ?_⟩
      · show 0 ≤ (r.1.1 + 1)
        omega
      · show (r.1.1 + 1) ≤ n
        omega
      · show (r.1.2.1 + -1) ≤ 6
        omega
      · show (((r.1.2.2.2 - 1) : Nat) : Int) ≤ (r.1.2.1 + -1) + (r.1.1 + 1)
        omega
      · show ((r.1.2.2.1 : Nat) : Int) + (((r.1.2.2.2 - 1) : Nat) : Int) ≤ 2 * (r.1.1 + 1)
        omega
      · exact fun q => absurd (show 7 ≤ 1 from q.1) (by decide)
      · exact fun q => absurd (show 7 ≤ 1 from q) (by decide)
      · intro q
        exfalso
        rcases q with q | q
        · exact absurd (show 7 ≤ 4 from q.2) (by decide)
        · exact absurd (show 7 ≤ 1 from q.1) (by decide)
    · rw [if_neg a2]
      refine ⟨⟨?_, ?_⟩, ⟨?_, ?_⟩, ⟨?_, ?_⟩, m7.pop, ?_, ?_⟩
      · show 0 ≤ (r.1.1 + 1)
        omega
      · show (r.1.1 + 1) ≤ n
        omega
      · show (r.1.2.1 + -1) ≤ 6
        omega
      · show (((r.1.2.2.2 - 1) : Nat) : Int) ≤ (r.1.2.1 + -1) + (r.1.1 + 1)
        omega
      · show ((r.1.2.2.1 : Nat) : Int) + (((r.1.2.2.2 - 1) : Nat) : Int) ≤ 2 * (r.1.1 + 1)
        omega
      · exact fun q => absurd (show 3 ≤ 1 from q.1) (by decide)
      · exact fun q => absurd (show 3 ≤ 1 from q) (by decide)
      · intro q
        show 1 ≤ (r.1.2.2.2 - 1) ∧ r.2.2 0 / 1048576 = 13 ∧ (3 ≤ 1 → 1 ≤ 0)
        exact ⟨by omega, j2, fun q => absurd q (by decide)⟩
  rw [if_neg d41]
  by_cases d38 : t r.1.1 = 38
  · rw [if_pos d38]
    have lt := hL r.1.1 (by omega)
    refine ⟨⟨?_, ?_⟩, ⟨?_, ?_⟩, ⟨?_, ?_⟩, m7.jmp (by decide) (by omega), ?_, ?_⟩
    · show 0 ≤ (r.1.1 + 1)
      omega
    · show (r.1.1 + 1) ≤ n
      omega
    · show r.1.2.1 ≤ 6
      omega
    · show (((r.1.2.2.2 + 1) : Nat) : Int) ≤ r.1.2.1 + (r.1.1 + 1)
      omega
    · show (((r.1.2.2.1 + 1) : Nat) : Int) + (((r.1.2.2.2 + 1) : Nat) : Int) ≤ 2 * (r.1.1 + 1)
      omega
    · exact fun q => absurd (show 2 ≤ 1 from q.1) (by decide)
    · exact fun q => absurd (show 2 ≤ 1 from q) (by decide)
    · intro q
      show 1 ≤ (r.1.2.2.2 + 1) ∧ (pUp r.2.2 r.1.2.2.2 (11534336 + (r.1.2.2.1 : Int))) 0 / 1048576 = 13 ∧ (2 ≤ 1 → 1 ≤ 0)
      refine ⟨by omega, ?_, fun q => absurd q (by decide)⟩
      rw [pUp_ne (by omega)]
      exact j2
  rw [if_neg d38]
  by_cases d124 : t r.1.1 = 124
  · rw [if_pos d124]
    have lt := hL r.1.1 (by omega)
    refine ⟨⟨?_, ?_⟩, ⟨?_, ?_⟩, ⟨?_, ?_⟩, m7.jmp (by decide) (by omega), ?_, ?_⟩
    · show 0 ≤ (r.1.1 + 1)
      omega
    · show (r.1.1 + 1) ≤ n
      omega
    · show r.1.2.1 ≤ 6
      omega
    · show (((r.1.2.2.2 + 1) : Nat) : Int) ≤ r.1.2.1 + (r.1.1 + 1)
      omega
    · show (((r.1.2.2.1 + 1) : Nat) : Int) + (((r.1.2.2.2 + 1) : Nat) : Int) ≤ 2 * (r.1.1 + 1)
      omega
    · exact fun q => absurd (show 2 ≤ 1 from q.1) (by decide)
    · exact fun q => absurd (show 2 ≤ 1 from q) (by decide)
    · intro q
      show 1 ≤ (r.1.2.2.2 + 1) ∧ (pUp r.2.2 r.1.2.2.2 (12582912 + (r.1.2.2.1 : Int))) 0 / 1048576 = 13 ∧ (2 ≤ 1 → 1 ≤ 0)
      refine ⟨by omega, ?_, fun q => absurd q (by decide)⟩
      rw [pUp_ne (by omega)]
      exact j2
  rw [if_neg d124]
  refine ⟨⟨?_, ?_⟩, ⟨?_, ?_⟩, ⟨?_, ?_⟩, m7, ?_, ?_⟩
  · show 0 ≤ r.1.1
    omega
  · show r.1.1 ≤ n
    omega
  · show r.1.2.1 ≤ 6
    omega
  · show ((r.1.2.2.2 : Nat) : Int) ≤ r.1.2.1 + r.1.1
    omega
  · show ((r.1.2.2.1 : Nat) : Int) + ((r.1.2.2.2 : Nat) : Int) ≤ 2 * r.1.1
    omega
  · exact fun q => absurd (show 8 ≤ 1 from q.1) (by decide)
  · exact fun q => absurd (show 8 ≤ 1 from q) (by decide)
  · intro q
    exfalso
    rcases q with q | q
    · exact absurd (show 8 ≤ 4 from q.2) (by decide)
    · exact absurd (show 8 ≤ 1 from q.1) (by decide)
theorem sm_mi {t : Int → Int} {n : Int} {c : CF} (hn : n ≤ 160) (hL : TL t n) (h : MI n c) : MI n (sm t c) := by
  obtain ⟨m, b, h0, r⟩ := c
  match m, h with
  | 0, h => exact sF_mi h hL
  | 1, h => exact sA_mi h hL
  | 2, h => exact sP_mi h hL
  | 3, h => exact sE_mi h
  | 4, h => exact sQ_mi hn h hL
  | m + 5, h => exact h
theorem Rch.mi {t : Int → Int} {n : Int} {c c' : CF} (hn : n ≤ 160) (hL : TL t n) (h : MI n c) (hr : Rch t c c') : MI n c' := by
  obtain ⟨k, hk⟩ := hr
  rw [← hk]
  clear hk
  induction k generalizing c with
  | zero => exact h
  | succ k ih => exact ih (sm_mi hn hL h)
/-- a fault is below 0 -/
theorem sm_neg {t : Int → Int} {n : Int} {c : CF} (hn : n ≤ 160) (hL : TL t n) (h : MI n c) (hb : c.1 ≠ 8) (h8 : (sm t c).1 = 8) : (sm t c).2.2.1 ≤ -1000 := by
  obtain ⟨m, b, h0, r⟩ := c
  have m1 : 0 ≤ r.1.1 := h.1.1
  have bd : ∀ k : Int, 1 ≤ k → ∀ q : PS, 0 ≤ q.1.1 → (cBad k q).2.2.1 ≤ -1000 := fun k hk q hq => by
    show -1000 * k - q.1.1 ≤ -1000
    omega
  match m, hb, h8 with
  | 0, _, h8 =>
    have h8 : (sF t b h0 r).1 = 8 := h8
    show (sF t b h0 r).2.2.1 ≤ -1000
    unfold sF at h8 ⊢
    by_cases a1 : t r.1.1 = 91
    · rw [if_pos a1] at h8 ⊢
      by_cases a2 : r.1.2.1 = 6
      · rw [if_pos a2]
        exact bd 5 (by decide) r m1
      · rw [if_neg a2] at h8
        cases h8
    · rw [if_neg a1] at h8 ⊢
      by_cases a2 : cDig (t r.1.1) = true
      · rw [if_pos a2] at h8 ⊢
        by_cases a3 : cDig (t (r.1.1 + 5)) = true ∧ dgN t r.1.1 5 = 5
        · rw [if_pos a3]
          exact bd 2 (by decide) _ (by show 0 ≤ r.1.1 + 5; omega)
        · rw [if_neg a3] at h8
          cases h8
      · rw [if_neg a2] at h8 ⊢
        by_cases a3 : cFact (t r.1.1) = -1
        · rw [if_pos a3]
          exact bd 1 (by decide) r m1
        · rw [if_neg a3] at h8
          cases h8
  | 1, _, h8 =>
    have h8 : (sA t b h0 r).1 = 8 := h8
    show (sA t b h0 r).2.2.1 ≤ -1000
    unfold sA at h8 ⊢
    by_cases a1 : 4 ≤ pTop r ∧ pTop r ≤ 6
    · rw [if_pos a1] at h8
      cases h8
    rw [if_neg a1] at h8 ⊢
    by_cases a2 : (pTop r = 2 ∨ pTop r = 3) ∧ cSum (t r.1.1) < 4
    · rw [if_pos a2] at h8
      cases h8
    rw [if_neg a2] at h8 ⊢
    by_cases a3 : cSum (t r.1.1) ≠ -1
    · rw [if_pos a3] at h8
      cases h8
    rw [if_neg a3] at h8 ⊢
    by_cases a4 : t r.1.1 = 93 ∧ pHas r b r.1.2.2.2 = true
    · rw [if_pos a4] at h8
      cases h8
    rw [if_neg a4] at h8 ⊢
    by_cases a5 : pHas r b r.1.2.2.2 = true
    · rw [if_pos a5]
      exact bd 1 (by decide) r m1
    rw [if_neg a5] at h8 ⊢
    by_cases a6 : h0 = 0
    · rw [if_pos a6] at h8
      cases h8
    rw [if_neg a6] at h8 ⊢
    by_cases a7 : h0 = 1
    · rw [if_pos a7] at h8 ⊢
      by_cases d60 : t r.1.1 = 60
      · rw [if_pos d60] at h8
        cases h8
      rw [if_neg d60] at h8 ⊢
      by_cases d62 : t r.1.1 = 62
      · rw [if_pos d62] at h8
        cases h8
      rw [if_neg d62] at h8 ⊢
      by_cases d61 : t r.1.1 = 61
      · rw [if_pos d61] at h8
        cases h8
      rw [if_neg d61]
      exact bd 1 (by decide) r m1
    rw [if_neg a7] at h8
    cases h8
  | 2, _, h8 =>
    have h8 : (sP t r).1 = 8 := h8
    show (sP t r).2.2.1 ≤ -1000
    unfold sP at h8 ⊢
    by_cases d33 : t r.1.1 = 33
    · rw [if_pos d33] at h8 ⊢
      by_cases a2 : r.1.2.1 = 6
      · rw [if_pos a2]
        exact bd 5 (by decide) r m1
      · rw [if_neg a2] at h8
        cases h8
    rw [if_neg d33] at h8 ⊢
    by_cases d40 : t r.1.1 = 40
    · rw [if_pos d40] at h8 ⊢
      by_cases a2 : r.1.2.1 = 6
      · rw [if_pos a2]
        exact bd 5 (by decide) r m1
      · rw [if_neg a2] at h8
        cases h8
    rw [if_neg d40] at h8
    cases h8
  | 3, _, h8 =>
    have h8 : (sE r).1 = 8 := h8
    exfalso
    unfold sE at h8
    by_cases a1 : pTop r = 10
    · rw [if_pos a1] at h8
      cases h8
    · rw [if_neg a1] at h8
      cases h8
  | 4, _, h8 =>
    have h8 : (sQ t r).1 = 8 := h8
    show (sQ t r).2.2.1 ≤ -1000
    unfold sQ at h8 ⊢
    by_cases a11 : pTop r = 11
    · rw [if_pos a11] at h8
      cases h8
    rw [if_neg a11] at h8 ⊢
    by_cases a12 : pTop r = 12 ∧ t r.1.1 ≠ 38
    · rw [if_pos a12] at h8
      cases h8
    rw [if_neg a12] at h8 ⊢
    by_cases d41 : t r.1.1 = 41
    · rw [if_pos d41] at h8
      by_cases a2 : r.1.2.2.2 = 1
      · rw [if_pos a2] at h8
        cases h8
      · rw [if_neg a2] at h8
        cases h8
    rw [if_neg d41] at h8 ⊢
    by_cases d38 : t r.1.1 = 38
    · rw [if_pos d38] at h8
      cases h8
    rw [if_neg d38] at h8 ⊢
    by_cases d124 : t r.1.1 = 124
    · rw [if_pos d124] at h8
      cases h8
    rw [if_neg d124]
    exact bd 1 (by decide) r m1
  | m + 5, hb, h8 => exact absurd h8 hb
theorem Rch.neg {t : Int → Int} {n : Int} {c c' : CF} (hn : n ≤ 160) (hL : TL t n) (h : MI n c) (hb : c.1 ≠ 8) (hr : Rch t c c') (h8 : c'.1 = 8) : c'.2.2.1 ≤ -1000 := by
  obtain ⟨k, hk⟩ := hr
  induction k generalizing c with
  | zero =>
    have hk : c = c' := hk
    rw [hk] at hb
    exact absurd h8 hb
  | succ k ih =>
    have hk : smN t k (sm t c) = c' := hk
    by_cases q : (sm t c).1 = 8
    · have e := smN_end (t := t) k (c := sm t c) (by omega)
      rw [← hk, e]
      exact sm_neg hn hL h hb q
    · exact ih (sm_mi hn hL h) q hk

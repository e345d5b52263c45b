/-! a method's bytes, gone through once: every place of its table is what the bytes say -/
def mWalk (own : Nat) (ini : Bool) (at0 : Nat → Option (Nat × Instr)) (cc : ByteArray) : List Instr → List UInt8 → Nat → Bool
  | [], l, _ => l.isEmpty
  | i :: rs, l, pc => match (match mSame i l with
      | some n => some n
      | none => (match decode cc pc with
        | .ok (j, n) => if j = i then some n else none
        | _ => none)) with
    | none => false
    | some n => (match at0 pc with
      | some (len, ins) => decide (len = n ∧ mNrm own ini n i = some ins)
      | none => false) && ((List.range n).all (fun k => Nat.beq k 0 || (at0 (pc + k)).isNone) && (decide (1 ≤ n) && mWalk own ini at0 cc rs (l.drop n) (pc + n)))
theorem mWalk_ok {own : Nat} {ini : Bool} {at0 : Nat → Option (Nat × Instr)} {cc : ByteArray} {L : List UInt8} (hcc : cc = ⟨⟨L⟩⟩) :
    ∀ (rs : List Instr) (pc : Nat), mWalk own ini at0 cc rs (L.drop pc) pc = true → ∀ p, pc ≤ p → p < L.length → ∀ len ins, at0 p = some (len, ins) → ∃ i0, decode ⟨⟨L⟩⟩ p = .ok (i0, len) ∧ mNrm own ini len i0 = some ins := by
  intro rs
  induction rs with
  | nil =>
    intro pc h p h1 h2
    unfold mWalk at h
    have h3 : L.drop pc = [] := List.isEmpty_iff.mp h
    have h4 := List.drop_eq_nil_iff.mp h3
    omega
  | cons i rs ih =>
    intro pc h p h1 h2 len ins ha
    unfold mWalk at h
    split at h
    · cases h
    rename_i n hn
    have hd : decode ⟨⟨L⟩⟩ pc = .ok (i, n) := by
      split at hn
      · rename_i n' hs
        cases hn
        exact mSame_ok hs
      · split at hn
        · rename_i j n' hd
          split at hn
          · rename_i hj
            cases hn
            subst hj
            rw [← hcc]
            exact hd
          · cases hn
        · cases hn
    simp only [Bool.and_eq_true, decide_eq_true_eq] at h
    obtain ⟨g1, g2, g3, g4⟩ := h
    rcases Nat.lt_or_ge p (pc + n) with hp | hp
    · rcases Nat.eq_or_lt_of_le h1 with rfl | hlt
      · rw [ha] at g1
        dsimp only at g1
        have g1 := of_decide_eq_true g1
        obtain ⟨rfl, g1⟩ := g1
        exact ⟨i, hd, g1⟩
      · have := List.all_eq_true.mp g2 (p - pc) (List.mem_range.mpr (by omega))
        rw [show pc + (p - pc) = p by omega, ha] at this
        simp at this
        omega
    · rw [List.drop_drop] at g4
      exact ih (pc + n) g4 p hp h2 len ins ha

/-! the laws as either side keeps them: one table each (by hand) -/
/-- codes, how many clauses, their letters; where spans and conditions begin and end; how far the class's places lie behind -/
abbrev WL : Type := (Nat → Int) × Nat × (Nat → Int) × (Nat → Nat) × (Nat → Nat) × (Nat → Nat) × (Nat → Int) × (Nat → Int)
def wF (W : WL) : Nat → Int := W.1
def wN (W : WL) : Nat := W.2.1
def wT (W : WL) : Nat → Int := W.2.2.1
def wA (W : WL) : Nat → Nat := W.2.2.2.1
def wB (W : WL) : Nat → Nat := W.2.2.2.2.1
def wE (W : WL) : Nat → Nat := W.2.2.2.2.2.1
def wH (W : WL) : Nat → Int := W.2.2.2.2.2.2.1
def wK (W : WL) : Nat → Int := W.2.2.2.2.2.2.2
/-- a piece of program in the class's steps -/
def WSt (R : Nat → Nat → Int) (k : Nat) (F : Nat → Int) (b e : Nat) (sh : Int) : Prop := (∀ i, b ≤ i → i < e → R (152 + 6 * k + 1) ((i : Int) + sh).toNat = encC sh (F i)) ∧ R (152 + 6 * k + 1) ((e : Int) + sh).toNat = 61865984 ∧ (e : Int) + sh < R (152 + 6 * k) 1 ∧ 0 ≤ sh
def WCl (R : Nat → Nat → Int) (k : Nat) (W : WL) (j : Nat) : Prop :=
  (R (152 + 6 * k + 2) j = wT W j ∧ R (152 + 6 * k + 3) j = (wB W j : Int) + wK W j ∧ R (152 + 6 * k + 4) j = (wA W j : Int) + wH W j) ∧
  WSt R k (wF W) (wB W j) (wE W j) (wK W j) ∧
  (R 211 (12 * k + j) = wT W j ∧ R 212 (12 * k + j) = 180 * (k : Int) + wA W j ∧ R 213 (12 * k + j) = 180 * (k : Int) + wB W j ∧ R 214 (12 * k + j) = 180 * (k : Int) + wE W j) ∧
  (wA W j ≤ wB W j ∧ wB W j < wE W j ∧ wE W j ≤ 180) ∧ (∀ i, i < wE W j → R 209 (180 * k + i) = wF W i) ∧
  (∃ ty, PT (wF W) ty (wB W j) (wE W j) (-1)) ∧
  (wT W j = 121 → WSt R k (wF W) (wA W j) (wB W j) (wH W j) ∧ wA W j < wB W j ∧ ∃ ty, PT (wF W) ty (wA W j) (wB W j) 1)
def WOk (R : Nat → Nat → Int) (k : Nat) (W : WL) : Prop := wN W ≤ 12 ∧ R (152 + 6 * k) 5 = (wN W : Int) ∧ R 210 k = (wN W : Int) ∧ ∀ j, j < wN W → WCl R k W j
theorem PT.lt {F ty : Nat → Int} {b C : Nat} {v : Int} (h : PT F ty b C v) (hv : v ≠ 0) : b < C := by
  obtain ⟨_, h1, h2, h3⟩ := h
  rcases Nat.lt_or_ge b C with q | q
  · exact q
  · have e : b = C := by omega
    rw [e, h3] at h2
    exact absurd h2 hv
theorem WOk_of {R : Nat → Nat → Int} {k : Nat} (h : xPk R k) : ∃ W, WOk R k W := by
  obtain ⟨t, f, g, F, n, n1, a1, a2, a3, a4⟩ := h
  have key : ∀ j, ∃ z : PS × PS × PS × Int × Int, j < n → RdS t f g j z.1 ∧ ClQ t z.1 z.2.1 ∧ ClE t z.2.1 z.2.2.1 ∧ XC R (152 + 6 * k) F j (t z.1.1.1) z.1.1.2.2.1 z.2.1.1.2.2.1 z.2.2.1.1.2.2.1 z.2.2.2.1 z.2.2.2.2 ∧ XR R k F j (t z.1.1.1) z.1.1.2.2.1 z.2.1.1.2.2.1 z.2.2.1.1.2.2.1 := fun j => by
    by_cases q : j < n
    · obtain ⟨P, Q, P1, sh, sk, r⟩ := a4 j q
      exact ⟨(P, Q, P1, sh, sk), fun _ => r⟩
    · exact ⟨(((0, 0, 0, 0), f, g), ((0, 0, 0, 0), f, g), ((0, 0, 0, 0), f, g), 0, 0), fun c => absurd c q⟩
  obtain ⟨Z, hZ⟩ := Classical.axiomOfChoice key
  refine ⟨(F, n, fun j => t (Z j).1.1.1, fun j => (Z j).1.1.2.2.1, fun j => (Z j).2.1.1.2.2.1, fun j => (Z j).2.2.1.1.2.2.1, fun j => (Z j).2.2.2.1, fun j => (Z j).2.2.2.2), n1, a1, a2, fun j hj => ?_⟩
  have hj : j < n := hj
  obtain ⟨r1, r2, r3, ⟨c1, c2, c3, ⟨d1, d2, d3, d4⟩, c5, c6, c7, c8, c9⟩, ⟨e1, e2, e3, e4, e5, e6⟩⟩ := hZ j hj
  obtain ⟨P0, Q0, L0, s1, s2, s3, s4⟩ := a3 (by omega)
  have last : L0.1.2.2.1 ≤ 180 := by
    obtain ⟨t1, t2, t3, _, ⟨_, _, _, _, t5, _⟩⟩ := hZ (n - 1) (by omega)
    have x1 := RdS.one t1 s1
    rw [x1] at t2
    have x2 := ClQ.one t2 s2
    rw [x2] at t3
    have x3 := ClE.one t3 s3
    rw [x3] at t5
    exact t5
  obtain ⟨⟨ty, p1⟩, p2, p3⟩ := cl_ty r1 r2 r3 s1 s2 s3 (show j ≤ n - 1 by omega) (by omega)
  rw [← s4] at p1 p2
  have l1 := p1.lt (by decide)
  refine ⟨⟨c1, c2, c3⟩, ⟨c7, c8, c9, ?_⟩, ⟨e1, e2, e3, e4⟩, ⟨d1, l1, e5⟩, e6, ⟨ty, p1⟩, fun y => ?_⟩
  · show 0 ≤ (Z j).2.2.2.2
    rw [d4]
    split <;> omega
  · have y : t (Z j).1.1.1 = 121 := y
    obtain ⟨ty2, p4⟩ := p2 y
    rw [if_pos y] at d4
    refine ⟨⟨c5, c6 y, ?_, d3⟩, p4.lt (by decide), ty2, p4⟩
    show (((Z j).2.1.1.2.2.1 : Nat) : Int) + (Z j).2.2.2.1 < R (152 + 6 * k) 1
    omega
/-- whether some clause of a letter holds -/
noncomputable def grF (W : WL) (lt : Int) (fc : Nat → Int32) : Bool := @decide (GRl (wT W) lt (EVc (wF W) fc (wB W) (wE W)) (wN W) 0 true) (Classical.propDecidable _)
theorem grF_of {W : WL} {lt : Int} {fc : Nat → Int32} {b : Bool} (h : GRl (wT W) lt (EVc (wF W) fc (wB W) (wE W)) (wN W) 0 b) : b = grF W lt fc := by
  cases b with
  | true => exact (@decide_eq_true _ (Classical.propDecidable _) h).symm
  | false => exact (@decide_eq_false _ (Classical.propDecidable _) (fun q => by have := GRl.one (E := EVc (wF W) fc (wB W) (wE W)) (fun j v v' => EVc.one) h q; cases this)).symm
theorem pR_sm {M : Mem} {k : Nat} (hk : k < 3) : (∀ i, pR M (152 + 6 * k + 1) i = (iv M (152 + 6 * k + 1) i).toInt) ∧ (∀ i, pR M (152 + 6 * k + 2) i = (iv M (152 + 6 * k + 2) i).toInt) ∧ (∀ i, pR M (152 + 6 * k + 3) i = (iv M (152 + 6 * k + 3) i).toInt) ∧ (∀ i, pR M (152 + 6 * k + 4) i = (iv M (152 + 6 * k + 4) i).toInt) ∧ pR M (152 + 6 * k) 5 = (iv M (152 + 6 * k) 5).toInt ∧ pR M (152 + 6 * k) 1 = (iv M (152 + 6 * k) 1).toInt := by
  obtain ⟨q0, q1, q2, q3, q4, q5⟩ := qPk k hk
  exact ⟨fun i => pR_at (q1 i), fun i => pR_at (q2 i), fun i => pR_at (q3 i), fun i => pR_at (q4 i), pR_at q0, pR_at q5⟩
/-- what a law's cells are read of -/
def qLw (c i : Nat) : Prop := (152 ≤ c ∧ c ≤ 168 ∧ c ≠ 157 ∧ c ≠ 163) ∧ ((c = 152 ∨ c = 158 ∨ c = 164) → i ≠ 7)
theorem CLG_of {M N : Mem} {k : Nat} {W : WL} {fc : Nat → Int32} (hk : k < 3) (h : WOk (pR M) k W) (hl : (iv M (152 + 6 * k) 1).toInt ≤ 160) (e : ∀ c i, qLw c i → iv N c i = iv M c i) (hf : ∀ v : Nat, v < 14 → iv N 172 (clF (v : Int)).toNat = fc v) : CLG (152 + 6 * k) (152 + 6 * k + 1) (wF W) fc (wN W) (wT W) (wB W) (wE W) (wK W) N := by
  obtain ⟨s1, s2, s3, s4, s5, s6⟩ := pR_sm (M := M) hk
  obtain ⟨h1, h2, h3, h4⟩ := h
  refine ⟨?_, h1, fun j hj => ?_⟩
  · rw [e _ _ (by unfold qLw; omega), ← s5]
    exact h2
  · obtain ⟨⟨c1, c2, c3⟩, ⟨d1, d2, d3, d4⟩, _, _, _, c8, _⟩ := h4 j hj
    refine ⟨?_, ?_, ⟨⟨fun i a b => ?_, ?_, ?_, d4, ?_⟩, hf⟩, c8⟩
    · rw [e _ _ (by unfold qLw; omega), ← s2]
      exact c1
    · rw [e _ _ (by unfold qLw; omega), ← s3]
      exact c2
    · rw [e _ _ (by unfold qLw; omega), ← s1]
      exact d1 i a b
    · rw [e _ _ (by unfold qLw; omega), ← s1]
      exact d2
    · rw [e _ _ (by unfold qLw; omega), ← s6]
      exact d3
    · rw [s6] at d3
      omega
theorem RG2_of {M N : Mem} {k : Nat} {W : WL} {fc : Nat → Int32} (hk : k < 3) (h : WOk (pR M) k W) (e : ∀ c i, 209 ≤ c → c ≤ 214 → iv N c i = iv M c i) (hf : ∀ v : Nat, v < 14 → iv N 216 v = fc v) : RG2 k (wF W) fc (wN W) (wT W) (wB W) (wE W) N := by
  obtain ⟨h1, h2, h3, h4⟩ := h
  refine ⟨?_, h1, hk, fun j hj => ?_⟩
  · rw [e _ _ (by decide) (by decide), ← pR_at (M := M) (c := 210) (i := k) rfl]
    exact h3
  · obtain ⟨_, _, ⟨c1, c2, c3, c4⟩, ⟨d1, d2, d3⟩, c7, c8, _⟩ := h4 j hj
    refine ⟨?_, ?_, ?_, by omega, ⟨fun i a b => ?_, hf, hk, d3⟩, c8⟩
    · rw [e _ _ (by decide) (by decide), ← pR_at (M := M) (c := 211) rfl]
      exact c1
    · rw [e _ _ (by decide) (by decide), ← pR_at (M := M) (c := 213) rfl]
      exact c3
    · rw [e _ _ (by decide) (by decide), ← pR_at (M := M) (c := 214) rfl]
      exact c4
    · rw [e _ _ (by decide) (by decide), ← pR_at (M := M) (c := 209) rfl]
      exact c7 i b

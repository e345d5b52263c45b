/-! the class's reader against the machine: what is held while it reads -/
/-- the text: n bytes of the tape -/
def CT0 (M : Mem) (t : Int → Int) (n : Int) : Prop := mSlot M 130 1 = some (.ref 128) ∧ (iv M 130 2).toInt = n ∧ n ≤ 160 ∧ (∀ k : Nat, (k : Int) < n → t k = (iv M 128 k).toInt) ∧ (∀ k : Int, n ≤ k → t k = -1) ∧ ∀ k : Int, -1 ≤ t k ∧ t k ≤ 255
/-- the reader stands where the machine does; it has z bytes more than codes -/
def CR (M : Mem) (r : PS) (sh n z : Int) : Prop := (iv M 130 3).toInt = r.1.1 ∧ (iv M 130 4).toInt = r.1.2.1 ∧ (iv M 131 1).toInt = r.1.2.2.1 + sh ∧ (0 ≤ sh ∧ 0 ≤ r.1.2.1 ∧ r.1.2.1 ≤ 6 ∧ 0 ≤ z) ∧ r.1.2.2.1 + sh + z ≤ r.1.1 ∧ r.1.1 ≤ n
/-- what has been read since: what waited waits still, the codes stand, the new ones are written -/
def FR (M : Mem) (P : PS) (M' : Mem) (P' : PS) (sh : Int) : Prop := P.1.2.2.2 ≤ P'.1.2.2.2 ∧ (∀ k, k < P.1.2.2.2 → P'.2.2 k = P.2.2 k) ∧ P.1.2.2.1 ≤ P'.1.2.2.1 ∧ (∀ k, k < P.1.2.2.1 → P'.2.1 k = P.2.1 k) ∧ (∀ i : Nat, (i : Int) < P.1.2.2.1 + sh → iv M' 132 i = iv M 132 i) ∧ (∀ k, P.1.2.2.1 ≤ k → k < P'.1.2.2.1 → (iv M' 132 ((k : Int) + sh).toNat).toInt = encC sh (P'.2.1 k)) ∧ iv M' 130 5 = iv M 130 5
/-- neither a step nor the fault is changed -/
def SM (B C : Mem) : Prop := iv C 130 5 = iv B 130 5 ∧ ∀ i, iv C 132 i = iv B 132 i
theorem SM.rf {B : Mem} : SM B B := ⟨rfl, fun _ => rfl⟩
theorem SM.tr {A B C : Mem} (h1 : SM A B) (h2 : SM B C) : SM A C := ⟨h2.1.trans h1.1, fun i => (h2.2 i).trans (h1.2 i)⟩
/-- what stays as it is: the clauses -/
def CQ (M M' : Mem) : Prop := Sh M' ∧ Fx 130 132 M M' ∧ iv M' 131 5 = iv M 131 5
/-- a fault, as the class tells it -/
def CB (t : Int → Int) (c : CF) (M' : Mem) : Prop := ∃ c', Rch t c c' ∧ c'.1 = 8 ∧ c'.2.2.1 = (iv M' 130 5).toInt
theorem CT0.fx {M M' : Mem} {t : Int → Int} {n : Int} (h : CT0 M t n) (h1 : mSlot M' 130 1 = mSlot M 130 1) (h2 : iv M' 130 2 = iv M 130 2) (f : Fx 130 132 M M') : CT0 M' t n :=
  ⟨h1.trans h.1, by rw [h2]; exact h.2.1, h.2.2.1, fun k hk => by rw [f.si (c := 128) (by decide)]; exact h.2.2.2.1 k hk, h.2.2.2.2⟩
theorem FR.rf {M : Mem} {P : PS} {sh : Int} : FR M P M P sh := ⟨Nat.le_refl _, fun _ _ => rfl, Nat.le_refl _, fun _ _ => rfl, fun _ _ => rfl, fun k h1 h2 => by omega, rfl⟩
theorem FR.tr {A B C : Mem} {P Q R : PS} {sh : Int} (h0 : 0 ≤ sh) (h1 : FR A P B Q sh) (h2 : FR B Q C R sh) : FR A P C R sh := by
  obtain ⟨a2, a3, a4, a5, a6, a7, a8⟩ := h1
  obtain ⟨b2, b3, b4, b5, b6, b7, b8⟩ := h2
  refine ⟨Nat.le_trans a2 b2, fun k hk => (b3 k (by omega)).trans (a3 k hk), Nat.le_trans a4 b4, fun k hk => (b5 k (by omega)).trans (a5 k hk), fun i hi => (b6 i (by omega)).trans (a6 i hi), fun k k1 k2 => ?_, b8.trans a8⟩
  by_cases q : k < Q.1.2.2.1
  · rw [b6 _ (by omega), b5 k q]
    exact a7 k k1 q
  · exact b7 k (by omega) k2
/-- the memory changes, but no step; the machine changes, but no code -/
theorem FR.st {A B C : Mem} {P Q R : PS} {sh : Int} (h : FR A P B Q sh) (h1 : SM B C) (e1 : R.1.2.2.1 = Q.1.2.2.1) (e2 : R.2.1 = Q.2.1) (e3 : P.1.2.2.2 ≤ R.1.2.2.2) (e4 : ∀ k, k < P.1.2.2.2 → R.2.2 k = Q.2.2 k) : FR A P C R sh := by
  obtain ⟨a2, a3, a4, a5, a6, a7, a8⟩ := h
  refine ⟨e3, fun k hk => (e4 k hk).trans (a3 k hk), by rw [e1]; exact a4, fun k hk => by rw [e2]; exact a5 k hk, fun i hi => (h1.2 i).trans (a6 i hi), fun k k1 k2 => ?_, h1.1.trans a8⟩
  rw [h1.2, e2]
  rw [e1] at k2
  exact a7 k k1 k2
theorem CQ.rf {M : Mem} (hS : Sh M) : CQ M M := ⟨hS, Fx.rf, rfl⟩
theorem CQ.tr {A B C : Mem} (h1 : CQ A B) (h2 : CQ B C) : CQ A C := ⟨h2.1, h1.2.1.tr h2.2.1, h2.2.2.trans h1.2.2⟩
theorem CQ.put {M : Mem} (hS : Sh M) {a i : Nat} {v : Int32} (h : (a = 130 ∧ (i = 3 ∨ i = 4 ∨ i = 5)) ∨ (a = 131 ∧ i = 1) ∨ a = 132) : CQ M (mPut M a i (.int v)) := by
  rcases h with ⟨rfl, h⟩ | ⟨rfl, rfl⟩ | rfl
  · refine ⟨?_, Fx.put (by decide) (by decide), iv_put_ne (Or.inl (by decide))⟩
    rcases h with rfl | rfl | rfl <;> exact hS.put (by decide) (by decide) rfl
  · exact ⟨hS.put (by decide) (by decide) rfl, Fx.put (by decide) (by decide), iv_put_ne (Or.inr (by decide))⟩
  · exact ⟨hS.put (by decide) (by decide) rfl, Fx.put (by decide) (by decide), iv_put_ne (Or.inl (by decide))⟩
theorem CT0.put {M : Mem} {t : Int → Int} {n : Int} (hS : Sh M) (h : CT0 M t n) {a i : Nat} {v : Int32} (q : (a = 130 ∧ (i = 3 ∨ i = 4 ∨ i = 5)) ∨ (a = 131 ∧ i = 1) ∨ a = 132) : CT0 (mPut M a i (.int v)) t n :=
  h.fx (mSlot_put_ne (by omega)) (iv_put_ne (by omega)) (CQ.put hS q).2.1
theorem sgn_t {M : Mem} {t : Int → Int} {n sh z : Int} {P : PS} (h : CT0 M t n) (c : CR M P sh n z) : (sgn M).toInt = t P.1.1 := by
  have hc := c.2.2.2.2
  have h0 : 0 ≤ P.1.1 := by have := c.2.2.2.1; omega
  unfold sgn
  rw [c.1, h.2.1]
  by_cases q : P.1.1 < n
  · rw [decide_eq_true q, cond_true, ← h.2.2.2.1 _ (by omega)]
    congr 1
    omega
  · rw [decide_eq_false q, cond_false, h.2.2.2.2.1 _ (by omega)]
    rfl
theorem t_lt {M : Mem} {t : Int → Int} {n : Int} (h : CT0 M t n) {p : Int} (hp : t p ≠ -1) : p < n := by
  apply Classical.byContradiction
  intro q
  exact hp (h.2.2.2.2.1 p (by omega))
/-- a fault is told -/
theorem fail_ok {M : Mem} {t : Int → Int} {n sh z : Int} {P : PS} {k : Int32} {c : CF} (hS : Sh M) (h : CT0 M t n) (hc : CR M P sh n z) (k0 : 0 ≤ k.toInt) (k1 : k.toInt ≤ 5) (hr : Rch t c (cBad k.toInt P)) : CQ M (mPut M 130 5 (.int (failV M k))) ∧ CT0 (mPut M 130 5 (.int (failV M k))) t n ∧ CB t c (mPut M 130 5 (.int (failV M k))) := by
  refine ⟨CQ.put hS (by omega), h.put hS (by omega), _, hr, rfl, ?_⟩
  rw [iv_put_eq hS (by decide) (by decide) (by decide)]
  show -1000 * k.toInt - P.1.1 = (failV M k).toInt
  have hn := h.2.2.1
  have h4 := hc.2.2.2.1
  have h5 := hc.2.2.2.2
  have e1 : ((-1000 : Int32) * k).toInt = -1000 * k.toInt := i32_mul (x := -1000) (by show -2147483648 ≤ -1000 * k.toInt; omega) (by show -1000 * k.toInt ≤ 2147483647; omega)
  unfold failV
  rw [i32_sub (by rw [e1, hc.1]; omega) (by rw [e1, hc.1]; omega), e1, hc.1]
theorem pos_put {x : Int32} {v : Int} (h : x.toInt = v) (h0 : 0 ≤ v) (h1 : v ≤ 1000) : (x + 1).toInt = v + 1 := by rw [i32_inc (by omega) (by omega), h]
/-- a bracket or a ! is opened -/
theorem open_ok {M : Mem} {t : Int → Int} {n sh z w : Int} {P : PS} (hS : Sh M) (h : CT0 M t n) (hc : CR M P sh n z) (hp : t P.1.1 ≠ -1) (h6 : ¬ (iv M 130 4).toInt = 6) : CQ M (mPut (mPut M 130 3 (.int (iv M 130 3 + 1))) 130 4 (.int (iv (mPut M 130 3 (.int (iv M 130 3 + 1))) 130 4 + 1))) ∧ CT0 (mPut (mPut M 130 3 (.int (iv M 130 3 + 1))) 130 4 (.int (iv (mPut M 130 3 (.int (iv M 130 3 + 1))) 130 4 + 1))) t n ∧ CR (mPut (mPut M 130 3 (.int (iv M 130 3 + 1))) 130 4 (.int (iv (mPut M 130 3 (.int (iv M 130 3 + 1))) 130 4 + 1))) (pAdv (pOpn (pPush P w) 1)) sh n (z + 1) ∧ SM M ((mPut (mPut M 130 3 (.int (iv M 130 3 + 1))) 130 4 (.int (iv (mPut M 130 3 (.int (iv M 130 3 + 1))) 130 4 + 1)))) := by
  have q1 := CQ.put (i := 3) (a := 130) (v := iv M 130 3 + 1) hS (by omega)
  have q2 := CQ.put (i := 4) (a := 130) (v := iv (mPut M 130 3 (.int (iv M 130 3 + 1))) 130 4 + 1) q1.1 (by omega)
  have lt := t_lt h hp
  have hn := h.2.2.1
  obtain ⟨c1, c2, c3, c4, c5, c6⟩ := hc
  refine ⟨q1.tr q2, (h.put hS (by omega)).put q1.1 (by omega), ⟨?_, ?_, ?_, ?_, ?_, ?_⟩, ?_, fun i => ?_⟩
  · rw [iv_put_ne (Or.inr (by decide)), iv_put_eq hS (by decide) (by decide) (by decide)]
    exact pos_put (v := P.1.1) c1 (by omega) (by omega)
  · rw [iv_put_eq q1.1 (by decide) (by decide) (by decide), iv_put_ne (Or.inr (by decide))]
    exact pos_put (v := P.1.2.1) c2 (by omega) (by omega)
  · rw [iv_put_ne (Or.inl (by decide)), iv_put_ne (Or.inl (by decide))]
    exact c3
  · show 0 ≤ sh ∧ 0 ≤ P.1.2.1 + 1 ∧ P.1.2.1 + 1 ≤ 6 ∧ 0 ≤ z + 1
    rw [c2] at h6
    omega
  · show (P.1.2.2.1 : Int) + sh + (z + 1) ≤ P.1.1 + 1
    omega
  · show P.1.1 + 1 ≤ n
    omega
  · rw [iv_put_ne (Or.inr (by decide)), iv_put_ne (Or.inr (by decide))]
  · rw [iv_put_ne (Or.inl (by decide)), iv_put_ne (Or.inl (by decide))]
/-- a bracket is shut -/
theorem close_ok {M : Mem} {t : Int → Int} {n sh z : Int} {P : PS} (hS : Sh M) (h : CT0 M t n) (hc : CR M P sh n z) (hp : t P.1.1 ≠ -1) (h1 : 1 ≤ P.1.2.1) : CQ M (mPut (mPut M 130 3 (.int (iv M 130 3 + 1))) 130 4 (.int (iv (mPut M 130 3 (.int (iv M 130 3 + 1))) 130 4 - 1))) ∧ CT0 (mPut (mPut M 130 3 (.int (iv M 130 3 + 1))) 130 4 (.int (iv (mPut M 130 3 (.int (iv M 130 3 + 1))) 130 4 - 1))) t n ∧ CR (mPut (mPut M 130 3 (.int (iv M 130 3 + 1))) 130 4 (.int (iv (mPut M 130 3 (.int (iv M 130 3 + 1))) 130 4 - 1))) (pAdv (pOpn (pPop P) (-1))) sh n (z + 1) ∧ SM M ((mPut (mPut M 130 3 (.int (iv M 130 3 + 1))) 130 4 (.int (iv (mPut M 130 3 (.int (iv M 130 3 + 1))) 130 4 - 1)))) := by
  have q1 := CQ.put (i := 3) (a := 130) (v := iv M 130 3 + 1) hS (by omega)
  have q2 := CQ.put (i := 4) (a := 130) (v := iv (mPut M 130 3 (.int (iv M 130 3 + 1))) 130 4 - 1) q1.1 (by omega)
  have lt := t_lt h hp
  have hn := h.2.2.1
  obtain ⟨c1, c2, c3, c4, c5, c6⟩ := hc
  refine ⟨q1.tr q2, (h.put hS (by omega)).put q1.1 (by omega), ⟨?_, ?_, ?_, ?_, ?_, ?_⟩, ?_, fun i => ?_⟩
  · rw [iv_put_ne (Or.inr (by decide)), iv_put_eq hS (by decide) (by decide) (by decide)]
    exact pos_put (v := P.1.1) c1 (by omega) (by omega)
  · rw [iv_put_eq q1.1 (by decide) (by decide) (by decide), iv_put_ne (Or.inr (by decide)), i32_sub (by rw [c2]; show -2147483648 ≤ P.1.2.1 - 1; omega) (by rw [c2]; show P.1.2.1 - 1 ≤ 2147483647; omega), c2]
    rfl
  · rw [iv_put_ne (Or.inl (by decide)), iv_put_ne (Or.inl (by decide))]
    exact c3
  · show 0 ≤ sh ∧ 0 ≤ P.1.2.1 + -1 ∧ P.1.2.1 + -1 ≤ 6 ∧ 0 ≤ z + 1
    omega
  · show (P.1.2.2.1 : Int) + sh + (z + 1) ≤ P.1.1 + 1
    omega
  · show P.1.1 + 1 ≤ n
    omega
  · rw [iv_put_ne (Or.inr (by decide)), iv_put_ne (Or.inr (by decide))]
  · rw [iv_put_ne (Or.inl (by decide)), iv_put_ne (Or.inl (by decide))]
/-- one byte on -/
theorem adv_ok {M : Mem} {t : Int → Int} {n sh z : Int} {P : PS} (hS : Sh M) (h : CT0 M t n) (hc : CR M P sh n z) (hp : t P.1.1 ≠ -1) : CQ M (mPut M 130 3 (.int (iv M 130 3 + 1))) ∧ CT0 (mPut M 130 3 (.int (iv M 130 3 + 1))) t n ∧ CR (mPut M 130 3 (.int (iv M 130 3 + 1))) (pAdv P) sh n (z + 1) ∧ SM M ((mPut M 130 3 (.int (iv M 130 3 + 1)))) := by
  have q1 := CQ.put (i := 3) (a := 130) (v := iv M 130 3 + 1) hS (by omega)
  have lt := t_lt h hp
  have hn := h.2.2.1
  obtain ⟨c1, c2, c3, c4, c5, c6⟩ := hc
  refine ⟨q1, h.put hS (by omega), ⟨?_, ?_, ?_, ?_, ?_, ?_⟩, ?_, fun i => ?_⟩
  · rw [iv_put_eq hS (by decide) (by decide) (by decide)]
    exact pos_put (v := P.1.1) c1 (by omega) (by omega)
  · rw [iv_put_ne (Or.inr (by decide))]
    exact c2
  · rw [iv_put_ne (Or.inl (by decide))]
    exact c3
  · show 0 ≤ sh ∧ 0 ≤ P.1.2.1 ∧ P.1.2.1 ≤ 6 ∧ 0 ≤ z + 1
    omega
  · show (P.1.2.2.1 : Int) + sh + (z + 1) ≤ P.1.1 + 1
    omega
  · show P.1.1 + 1 ≤ n
    omega
  · rw [iv_put_ne (Or.inr (by decide))]
  · rw [iv_put_ne (Or.inl (by decide))]
/-- a code is written -/
theorem emit_ok {M : Mem} {t : Int → Int} {n sh z val : Int} {P : PS} {c v : Int32} (hS : Sh M) (h : CT0 M t n) (hc : CR M P sh n (z + 1)) (hz : 0 ≤ z) (he : (stepV c v).toInt = encC sh val) : (iv M 131 1).toInt < 160 ∧ CQ M (stepM M c v) ∧ CT0 (stepM M c v) t n ∧ CR (stepM M c v) (pEm P val) sh n z ∧ FR M P (stepM M c v) (pEm P val) sh ∧ (iv (stepM M c v) 131 1 - 1).toInt = (P.1.2.2.1 : Int) + sh := by
  have hn := h.2.2.1
  obtain ⟨c1, c2, c3, c4, c5, c6⟩ := hc
  have l0 : (iv M 131 1).toInt < 160 := by omega
  have ei : (iv M 131 1).toInt.toNat = ((P.1.2.2.1 : Int) + sh).toNat := by rw [c3]
  have q1 := CQ.put (a := 132) (i := (iv M 131 1).toInt.toNat) (v := stepV c v) hS (by omega)
  have q2 := CQ.put (a := 131) (i := 1) (v := iv (mPut M 132 (iv M 131 1).toInt.toNat (.int (stepV c v))) 131 1 + 1) q1.1 (by omega)
  have s1 : ∀ i, iv (stepM M c v) 132 i = iv (mPut M 132 (iv M 131 1).toInt.toNat (.int (stepV c v))) 132 i := fun i => iv_put_ne (Or.inl (by decide))
  have s2 : (iv (stepM M c v) 131 1).toInt = (P.1.2.2.1 : Int) + sh + 1 := by
    unfold stepM
    rw [iv_put_eq q1.1 (by decide) (by decide) (by decide), iv_put_ne (Or.inl (by decide))]
    exact pos_put c3 (by omega) (by omega)
  refine ⟨l0, q1.tr q2, (h.put hS (by omega)).put q1.1 (by omega), ⟨?_, ?_, ?_, ?_, ?_, ?_⟩, ⟨Nat.le_refl _, fun _ _ => rfl, Nat.le_succ _, fun k hk => ?_, fun i hi => ?_, fun k k1 k2 => ?_, ?_⟩, ?_⟩
  · unfold stepM
    rw [iv_put_ne (Or.inl (by decide)), iv_put_ne (Or.inl (by decide))]
    exact c1
  · unfold stepM
    rw [iv_put_ne (Or.inl (by decide)), iv_put_ne (Or.inl (by decide))]
    exact c2
  · rw [s2]
    show _ = ((P.1.2.2.1 + 1 : Nat) : Int) + sh
    omega
  · show 0 ≤ sh ∧ 0 ≤ P.1.2.1 ∧ P.1.2.1 ≤ 6 ∧ 0 ≤ z
    omega
  · show ((P.1.2.2.1 + 1 : Nat) : Int) + sh + z ≤ P.1.1
    omega
  · exact c6
  · show pUp P.2.1 P.1.2.2.1 val k = P.2.1 k
    unfold pUp
    rw [if_neg (by omega)]
  · rw [s1]
    exact iv_put_ne (Or.inr (by omega))
  · have k2 : k < P.1.2.2.1 + 1 := k2
    have ek : k = P.1.2.2.1 := by omega
    subst ek
    rw [s1, ← ei, iv_put_eq hS (by decide) (by decide) (by show _ < 160; omega), he]
    show encC sh val = encC sh (pUp P.2.1 P.1.2.2.1 val P.1.2.2.1)
    unfold pUp
    rw [if_pos rfl]
  · unfold stepM
    rw [iv_put_ne (Or.inl (by decide)), iv_put_ne (Or.inl (by decide))]
  · rw [i32_sub (by rw [s2]; show -2147483648 ≤ (P.1.2.2.1 : Int) + sh + 1 - 1; omega) (by rw [s2]; show (P.1.2.2.1 : Int) + sh + 1 - 1 ≤ 2147483647; omega), s2]
    show (P.1.2.2.1 : Int) + sh + 1 - 1 = _
    omega
theorem or_add {k l : Int32} {a : Nat} (hk : k.toInt = (a : Int) * 1048576) (ha : a < 128) (l0 : 0 ≤ l.toInt) (l1 : l.toInt < 1048576) : (k ||| l).toInt = k.toInt + l.toInt := by
  obtain ⟨a1, a2⟩ := bv_nn (x := k) (by omega)
  obtain ⟨b1, b2⟩ := bv_nn l0
  have e : (k ||| l).toBitVec.toNat = k.toBitVec.toNat ||| l.toBitVec.toNat := BitVec.toNat_or ..
  have kn : k.toBitVec.toNat = a <<< 20 := by
    rw [Nat.shiftLeft_eq]
    omega
  have q := Nat.shiftLeft_add_eq_or_of_lt (b := l.toBitVec.toNat) (i := 20) (by omega) a
  rw [kn, ← q, Nat.shiftLeft_eq] at e
  have b := bv_back (x := k ||| l) (by omega)
  omega
theorem and_low {v : Int32} (v0 : 0 ≤ v.toInt) (v1 : v.toInt < 1048576) : v &&& (1048575 : Int32) = v := by
  obtain ⟨b1, b2⟩ := bv_nn v0
  apply Int32.toBitVec_inj.mp
  apply BitVec.eq_of_toNat_eq
  have e : (v &&& (1048575 : Int32)).toBitVec.toNat = v.toBitVec.toNat &&& 1048575 := BitVec.toNat_and ..
  rw [e]
  have q := Nat.and_two_pow_sub_one_eq_mod v.toBitVec.toNat 20
  have q : v.toBitVec.toNat &&& 1048575 = v.toBitVec.toNat % 1048576 := q
  rw [q, Nat.mod_eq_of_lt (by omega)]
/-- a step's number, out of its sign and what it says -/
theorem stepV_t {c v : Int32} {a : Nat} (hc : (c <<< ((20 : Int32) &&& 31)).toInt = (a : Int) * 1048576) (ha : a < 128) (v0 : 0 ≤ v.toInt) (v1 : v.toInt < 1048576) : (stepV c v).toInt = (a : Int) * 1048576 + v.toInt := by
  unfold stepV
  rw [and_low v0 v1, or_add hc ha v0 v1, hc]

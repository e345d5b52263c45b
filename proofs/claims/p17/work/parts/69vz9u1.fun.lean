/-! programs: the machine's steps keep what stands on the stack (by hand) -/
theorem pTs {p o : Int} {C k : Nat} {F w : Nat → Int} : pTop ((p, o, C, k + 1), F, w) = cOp (w k) := if_neg (Nat.succ_ne_zero k)
theorem pTz {p o : Int} {C : Nat} {F w : Nat → Int} : pTop ((p, o, C, 0), F, w) = -1 := if_pos rfl
theorem pHx {r : PS} {b : Nat} : ∀ {n : Nat}, pHas r b n = true → ∃ k, b ≤ k ∧ k < n ∧ cOp (r.2.2 k) = 14
  | 0, h => nomatch h
  | n + 1, h => by
    unfold pHas at h
    rw [Bool.or_eq_true, Bool.and_eq_true, decide_eq_true_iff, decide_eq_true_iff] at h
    rcases h with h | ⟨h1, h2⟩
    · obtain ⟨k, k1, k2, k3⟩ := pHx h
      exact ⟨k, k1, by omega, k3⟩
    · exact ⟨n, h1, by omega, h2⟩
theorem pHn {r : PS} {b : Nat} : ∀ {n : Nat}, ¬ pHas r b n = true → ∀ k, b ≤ k → k < n → cOp (r.2.2 k) ≠ 14
  | 0, _, k, _, h => absurd h (by omega)
  | n + 1, h, k, hb, hk => by
    intro e
    apply h
    unfold pHas
    rw [Bool.or_eq_true, Bool.and_eq_true, decide_eq_true_iff, decide_eq_true_iff]
    by_cases c : k = n
    · rw [c] at hb e
      exact Or.inr ⟨hb, e⟩
    · by_cases q : pHas r b n = true
      · exact Or.inl q
      · exact absurd e (pHn q k hb (by omega))
theorem cSrg {x : Int} (h : cSum x ≠ -1) : 2 ≤ cSum x ∧ cSum x ≤ 6 := by
  unfold cSum at h ⊢
  by_cases c1 : x = 43
  · rw [if_pos c1]
    omega
  · by_cases c2 : x = 45
    · rw [if_neg c1, if_pos c2]
      omega
    · by_cases c3 : x = 42
      · rw [if_neg c1, if_neg c2, if_pos c3]
        omega
      · by_cases c4 : x = 47
        · rw [if_neg c1, if_neg c2, if_neg c3, if_pos c4]
          omega
        · by_cases c5 : x = 37
          · rw [if_neg c1, if_neg c2, if_neg c3, if_neg c4, if_pos c5]
            omega
          · rw [if_neg c1, if_neg c2, if_neg c3, if_neg c4, if_neg c5] at h
            exact absurd rfl h
theorem cFrg {x : Int} (h : ¬ cFact x = -1) : 0 ≤ cFact x ∧ cFact x < 14 := by
  unfold cFact at h ⊢
  by_cases d0 : x = 110
  · rw [if_pos d0]
    omega
  by_cases d1 : x = 102
  · rw [if_neg d0, if_pos d1]
    omega
  by_cases d2 : x = 99
  · rw [if_neg d0, if_neg d1, if_pos d2]
    omega
  by_cases d3 : x = 117
  · rw [if_neg d0, if_neg d1, if_neg d2, if_pos d3]
    omega
  by_cases d4 : x = 118
  · rw [if_neg d0, if_neg d1, if_neg d2, if_neg d3, if_pos d4]
    omega
  by_cases d5 : x = 112
  · rw [if_neg d0, if_neg d1, if_neg d2, if_neg d3, if_neg d4, if_pos d5]
    omega
  by_cases d6 : x = 103
  · rw [if_neg d0, if_neg d1, if_neg d2, if_neg d3, if_neg d4, if_neg d5, if_pos d6]
    omega
  by_cases d7 : x = 120
  · rw [if_neg d0, if_neg d1, if_neg d2, if_neg d3, if_neg d4, if_neg d5, if_neg d6, if_pos d7]
    omega
  by_cases d8 : x = 107
  · rw [if_neg d0, if_neg d1, if_neg d2, if_neg d3, if_neg d4, if_neg d5, if_neg d6, if_neg d7, if_pos d8]
    omega
  by_cases d9 : x = 119
  · rw [if_neg d0, if_neg d1, if_neg d2, if_neg d3, if_neg d4, if_neg d5, if_neg d6, if_neg d7, if_neg d8, if_pos d9]
    omega
  by_cases d10 : x = 105
  · rw [if_neg d0, if_neg d1, if_neg d2, if_neg d3, if_neg d4, if_neg d5, if_neg d6, if_neg d7, if_neg d8, if_neg d9, if_pos d10]
    omega
  by_cases d11 : x = 113
  · rw [if_neg d0, if_neg d1, if_neg d2, if_neg d3, if_neg d4, if_neg d5, if_neg d6, if_neg d7, if_neg d8, if_neg d9, if_neg d10, if_pos d11]
    omega
  by_cases d12 : x = 104
  · rw [if_neg d0, if_neg d1, if_neg d2, if_neg d3, if_neg d4, if_neg d5, if_neg d6, if_neg d7, if_neg d8, if_neg d9, if_neg d10, if_neg d11, if_pos d12]
    omega
  by_cases d13 : x = 116
  · rw [if_neg d0, if_neg d1, if_neg d2, if_neg d3, if_neg d4, if_neg d5, if_neg d6, if_neg d7, if_neg d8, if_neg d9, if_neg d10, if_neg d11, if_neg d12, if_pos d13]
    omega
  rw [if_neg d0, if_neg d1, if_neg d2, if_neg d3, if_neg d4, if_neg d5, if_neg d6, if_neg d7, if_neg d8, if_neg d9, if_neg d10, if_neg d11, if_neg d12, if_neg d13] at h
  exact absurd rfl h
theorem cOp_mul {x : Int} : cOp (x * 1048576) = x := by unfold cOp; omega
/-- where it lands: behind the first code -/
theorem ic_lge {b0 W : Nat} {w F ty : Nat → Int} {C : Nat} {op : Int} (h : IC b0 (W + 1) (W + 1) w F ty C) (ho : op = 11 ∨ op = 12) (hw : cOp (w W) = op) : b0 ≤ (w W - op * 1048576).toNat := by
  obtain ⟨q, p, p1, p2, _⟩ := ((h.2.2.2.1.2 W (by omega)).1 (by omega)).resolve_left (by omega)
  rw [hw] at p1
  omega
theorem sF_eq {t : Int → Int} {b : Nat} {h0 p o : Int} {C W : Nat} {F w : Nat → Int} : sF t b h0 ((p, o, C, W), F, w) = (if t p = 91 then (if o = 6 then cBad 5 ((p, o, C, W), F, w) else (0, b, h0, (p + 1, o + 1, C, W + 1), F, pUp w W 14680064)) else if cDig (t p) = true then (if cDig (t (p + 5)) = true ∧ dgN t p 5 = 5 then cBad 2 ((p + 5, o, C, W), F, w) else (1, b, h0, (p + dgN t p 5, o, C + 1, W), pUp F C (dgV t p (dgN t p 5)), w)) else if cFact (t p) = -1 then cBad 1 ((p, o, C, W), F, w) else (1, b, h0, (p + 1, o, C + 1, W), pUp F C (1048576 + cFact (t p)), w)) := rfl
theorem sA_eq {t : Int → Int} {b : Nat} {h0 p o : Int} {C W : Nat} {F w : Nat → Int} : sA t b h0 ((p, o, C, W), F, w) = (if 4 ≤ pTop ((p, o, C, W), F, w) ∧ pTop ((p, o, C, W), F, w) ≤ 6 then (1, b, h0, (p, o, C + 1, W - 1), pUp F C (pTop ((p, o, C, W), F, w) * 1048576), w) else if (pTop ((p, o, C, W), F, w) = 2 ∨ pTop ((p, o, C, W), F, w) = 3) ∧ cSum (t p) < 4 then (1, b, h0, (p, o, C + 1, W - 1), pUp F C (pTop ((p, o, C, W), F, w) * 1048576), w) else if cSum (t p) ≠ -1 then (0, b, h0, (p + 1, o, C, W + 1), F, pUp w W (cSum (t p) * 1048576)) else if t p = 93 ∧ pHas ((p, o, C, W), F, w) b W = true then (1, b, h0, (p + 1, o + -1, C, W - 1), F, w) else if pHas ((p, o, C, W), F, w) b W = true then cBad 1 ((p, o, C, W), F, w) else if h0 = 0 then (7, b, h0, (p, o, C, W), F, w) else if h0 = 1 then (if t p = 60 then (0, W, 7, (p + 1, o, C, W), F, w) else if t p = 62 then (0, W, 8, (p + 1, o, C, W), F, w) else if t p = 61 then (0, W, 9, (p + 1, o, C, W), F, w) else cBad 1 ((p, o, C, W), F, w)) else (3, 0, 0, (p, o, C + 1, W), pUp F C (h0 * 1048576), w)) := rfl
theorem sP_eq {t : Int → Int} {p o : Int} {C W : Nat} {F w : Nat → Int} : sP t ((p, o, C, W), F, w) = (if t p = 33 then (if o = 6 then cBad 5 ((p, o, C, W), F, w) else (2, 0, 0, (p + 1, o + 1, C, W + 1), F, pUp w W 10485760)) else if t p = 40 then (if o = 6 then cBad 5 ((p, o, C, W), F, w) else (2, 0, 0, (p + 1, o + 1, C, W + 1), F, pUp w W 13631488)) else (0, W, 1, (p, o, C, W), F, w)) := rfl
theorem sE_eq {p o : Int} {C W : Nat} {F w : Nat → Int} : sE ((p, o, C, W), F, w) = (if pTop ((p, o, C, W), F, w) = 10 then (3, 0, 0, (p, o + -1, C + 1, W - 1), pUp F C 10485760, w) else (4, 0, 0, (p, o, C, W), F, w)) := rfl
theorem sQ_eq {t : Int → Int} {p o : Int} {C W : Nat} {F w : Nat → Int} : sQ t ((p, o, C, W), F, w) = (if pTop ((p, o, C, W), F, w) = 11 then (4, 0, 0, (p, o, C, W - 1), pUp F (w (W - 1) - 11 * 1048576).toNat (11 * 1048576 + (C : Int)), w) else if pTop ((p, o, C, W), F, w) = 12 ∧ t p ≠ 38 then (4, 0, 0, (p, o, C, W - 1), pUp F (w (W - 1) - 12 * 1048576).toNat (12 * 1048576 + (C : Int)), w) else if t p = 41 then (if W = 1 then (7, 0, 0, (p + 1, o + -1, C, W - 1), F, w) else (3, 0, 0, (p + 1, o + -1, C, W - 1), F, w)) else if t p = 38 then (2, 0, 0, (p + 1, o, C + 1, W + 1), pUp F C 11534336, pUp w W (11534336 + (C : Int))) else if t p = 124 then (2, 0, 0, (p + 1, o, C + 1, W + 1), pUp F C 12582912, pUp w W (12582912 + (C : Int))) else cBad 1 ((p, o, C, W), F, w)) := rfl
def ITs (sp : Bool) (b : Nat) (h0 : Int) (w : Nat → Int) : Prop := (sp = true ∧ b = 0 ∧ h0 = 0) ∨ (sp = false ∧ (0 < b ∧ cOp (w 0) = 13) ∧ (h0 = 1 ∨ h0 = 7 ∨ h0 = 8 ∨ h0 = 9))
theorem ITs_same {sp : Bool} {b : Nat} {h0 : Int} {w w' : Nat → Int} (h : ITs sp b h0 w) (e : 0 < b → w' 0 = w 0) : ITs sp b h0 w' := by
  rcases h with h | ⟨h1, ⟨h2, h3⟩, h4⟩
  · exact Or.inl h
  · exact Or.inr ⟨h1, ⟨h2, by rw [e h2]; exact h3⟩, h4⟩
section
variable {t : Int → Int} {sp : Bool} {b0 b : Nat} {ty : Nat → Int} {h0 p o : Int} {C W : Nat} {F w : Nat → Int}
theorem it_mk0 (h1 : IC b0 b W w F ty C) (h2 : ty C = (arN w b W : Int) + (if 7 ≤ h0 then 1 else 0)) (h3 : o = (opN w W : Int)) (h4 : o ≤ 6) (h5 : ITs sp b h0 w) : ITc sp b0 ty (0, b, h0, (p, o, C, W), F, w) :=
  ⟨h1, h2, ⟨h3, h4⟩, by
    rcases h5 with ⟨q1, q2, q3⟩ | ⟨q1, q2, q3⟩
    · exact Or.inl ⟨q1, Or.inl rfl, q2, q3⟩
    · exact Or.inr ⟨q1, q2, fun _ => q3⟩⟩
theorem it_mk1 (h1 : IC b0 b W w F ty C) (h2 : ty C = (arN w b W : Int) + (if 7 ≤ h0 then 1 else 0) + 1) (h3 : o = (opN w W : Int)) (h4 : o ≤ 6) (h5 : ITs sp b h0 w) : ITc sp b0 ty (1, b, h0, (p, o, C, W), F, w) :=
  ⟨h1, h2, ⟨h3, h4⟩, by
    rcases h5 with ⟨q1, q2, q3⟩ | ⟨q1, q2, q3⟩
    · exact Or.inl ⟨q1, Or.inr rfl, q2, q3⟩
    · exact Or.inr ⟨q1, q2, fun _ => q3⟩⟩
theorem it_mk2 (h1 : IC b0 W W w F ty C) (h2 : ty C = 0) (h3 : o = (opN w W : Int)) (h4 : o ≤ 6) (h5 : sp = false) (h6 : 0 < W) (h7 : cOp (w 0) = 13) : ITc sp b0 ty (2, b, h0, (p, o, C, W), F, w) := ⟨h1, h2, ⟨h3, h4⟩, Or.inr ⟨h5, ⟨h6, h7⟩, fun q => absurd q (show ¬ (2 : Nat) ≤ 1 by decide)⟩⟩
theorem it_mk3 (h1 : IC b0 W W w F ty C) (h2 : ty C = -1) (h3 : o = (opN w W : Int)) (h4 : o ≤ 6) (h5 : sp = false) (h6 : 0 < W) (h7 : cOp (w 0) = 13) : ITc sp b0 ty (3, b, h0, (p, o, C, W), F, w) := ⟨h1, h2, ⟨h3, h4⟩, Or.inr ⟨h5, ⟨h6, h7⟩, fun q => absurd q (show ¬ (3 : Nat) ≤ 1 by decide)⟩⟩
theorem it_mk4 (h1 : IC b0 W W w F ty C) (h2 : ty C = -1) (h3 : o = (opN w W : Int)) (h4 : o ≤ 6) (h5 : sp = false) (h6 : 0 < W) (h7 : cOp (w 0) = 13) : ITc sp b0 ty (4, b, h0, (p, o, C, W), F, w) := ⟨h1, h2, ⟨h3, h4⟩, Or.inr ⟨h5, ⟨h6, h7⟩, fun q => absurd q (show ¬ (4 : Nat) ≤ 1 by decide)⟩⟩
theorem it_of0 (h : ITc sp b0 ty (0, b, h0, (p, o, C, W), F, w)) : IC b0 b W w F ty C ∧ ty C = (arN w b W : Int) + (if 7 ≤ h0 then 1 else 0) ∧ o = (opN w W : Int) ∧ o ≤ 6 ∧ ITs sp b h0 w := by
  obtain ⟨h1, h2, ⟨h3, h4⟩, h5⟩ := h
  refine ⟨h1, h2, h3, h4, ?_⟩
  rcases h5 with ⟨q1, _, q2, q3⟩ | ⟨q1, q2, q3⟩
  · exact Or.inl ⟨q1, q2, q3⟩
  · exact Or.inr ⟨q1, q2, q3 (Nat.zero_le _)⟩
theorem it_of1 (h : ITc sp b0 ty (1, b, h0, (p, o, C, W), F, w)) : IC b0 b W w F ty C ∧ ty C = (arN w b W : Int) + (if 7 ≤ h0 then 1 else 0) + 1 ∧ o = (opN w W : Int) ∧ o ≤ 6 ∧ ITs sp b h0 w := by
  obtain ⟨h1, h2, ⟨h3, h4⟩, h5⟩ := h
  refine ⟨h1, h2, h3, h4, ?_⟩
  rcases h5 with ⟨q1, _, q2, q3⟩ | ⟨q1, q2, q3⟩
  · exact Or.inl ⟨q1, q2, q3⟩
  · exact Or.inr ⟨q1, q2, q3 (Nat.le_refl _)⟩
theorem it_of2 (h : ITc sp b0 ty (2, b, h0, (p, o, C, W), F, w)) : IC b0 W W w F ty C ∧ ty C = 0 ∧ o = (opN w W : Int) ∧ o ≤ 6 ∧ sp = false ∧ 0 < W ∧ cOp (w 0) = 13 := by
  obtain ⟨h1, h2, ⟨h3, h4⟩, h5⟩ := h
  refine ⟨h1, h2, h3, h4, ?_⟩
  rcases h5 with ⟨_, q, _⟩ | ⟨q1, ⟨q2, q3⟩, _⟩
  · exact absurd q (show ¬ ((2 : Nat) = 0 ∨ (2 : Nat) = 1) by decide)
  · exact ⟨q1, q2, q3⟩
theorem it_of3 (h : ITc sp b0 ty (3, b, h0, (p, o, C, W), F, w)) : IC b0 W W w F ty C ∧ ty C = -1 ∧ o = (opN w W : Int) ∧ o ≤ 6 ∧ sp = false ∧ 0 < W ∧ cOp (w 0) = 13 := by
  obtain ⟨h1, h2, ⟨h3, h4⟩, h5⟩ := h
  refine ⟨h1, h2, h3, h4, ?_⟩
  rcases h5 with ⟨_, q, _⟩ | ⟨q1, ⟨q2, q3⟩, _⟩
  · exact absurd q (show ¬ ((3 : Nat) = 0 ∨ (3 : Nat) = 1) by decide)
  · exact ⟨q1, q2, q3⟩
theorem it_of4 (h : ITc sp b0 ty (4, b, h0, (p, o, C, W), F, w)) : IC b0 W W w F ty C ∧ ty C = -1 ∧ o = (opN w W : Int) ∧ o ≤ 6 ∧ sp = false ∧ 0 < W ∧ cOp (w 0) = 13 := by
  obtain ⟨h1, h2, ⟨h3, h4⟩, h5⟩ := h
  refine ⟨h1, h2, h3, h4, ?_⟩
  rcases h5 with ⟨_, q, _⟩ | ⟨q1, ⟨q2, q3⟩, _⟩
  · exact absurd q (show ¬ ((4 : Nat) = 0 ∨ (4 : Nat) = 1) by decide)
  · exact ⟨q1, q2, q3⟩
/-- what a step leads to -/
def Nx (sp : Bool) (b0 : Nat) (ty F : Nat → Int) (C : Nat) (c : CF) : Prop :=
  ∃ ty' : Nat → Int, ((∀ i, i ≤ C → ty' i = ty i) ∧ ∀ i, i < b0 → c.2.2.2.2.1 i = F i) ∧ ((c.1 ≤ 4 ∧ ITc sp b0 ty' c) ∨ (c.1 = 7 ∧ IC b0 0 0 c.2.2.2.2.2 c.2.2.2.2.1 ty' c.2.2.2.1.2.2.1 ∧ ty' c.2.2.2.1.2.2.1 = (if sp = true then 1 else -1)))
theorem it_0 (h : ITc sp b0 ty (0, b, h0, (p, o, C, W), F, w)) (h8 : (sF t b h0 ((p, o, C, W), F, w)).1 ≠ 8) : Nx sp b0 ty F C (sF t b h0 ((p, o, C, W), F, w)) := by
  have h16 : ty C ≤ 16 := Int.le_trans (Int.le_of_eq h.2.1) (tyC_le h)
  obtain ⟨h1, h2, h3, h4, h5⟩ := it_of0 h
  have hB : b ≤ W := h1.2.2.2.1.1
  have t0 : 0 ≤ ty C := by
    rw [h2]
    split <;> omega
  rw [sF_eq] at h8 ⊢
  by_cases c1 : t p = 91
  · rw [if_pos c1] at h8 ⊢
    by_cases c2 : o = 6
    · rw [if_pos c2] at h8
      exact absurd rfl h8
    · rw [if_neg c2]
      have a14 : cOp 14680064 = 14 := by unfold cOp; omega
      have a15 : ¬ isAr 14680064 = true := by rw [isAr_iff, a14]; omega
      have e1 : arN (pUp w W 14680064) b (W + 1) = arN w b W + 0 := by rw [arN_push, if_neg (fun q => a15 q.2)]
      have e2 : opN (pUp w W 14680064) (W + 1) = opN w W + 1 := by rw [opN_push, if_pos (Or.inr (Or.inr a14))]
      exact ⟨ty, ⟨fun _ _ => rfl, fun _ _ => rfl⟩, Or.inl ⟨(show (0 : Nat) ≤ 4 by decide), it_mk0 (ic_push h1 (Or.inr a14) (fun _ _ q => absurd q a15)) (by omega) (by omega) (by omega) (ITs_same h5 (fun q => pUp_ne (by omega)))⟩⟩
  · rw [if_neg c1] at h8 ⊢
    by_cases c2 : cDig (t p) = true
    · rw [if_pos c2] at h8 ⊢
      by_cases c3 : cDig (t (p + 5)) = true ∧ dgN t p 5 = 5
      · rw [if_pos c3] at h8
        exact absurd rfl h8
      · rw [if_neg c3]
        have d5 := dgV_5 (t := t) (p := p) (k := dgN t p 5) (fun i hi => dgN_all 5 p i hi) (dgN_le 5 p)
        exact ⟨pUp ty (C + 1) (ty C + 1), ⟨fun i hi => pUp_ne (by omega), fun i hi => pUp_ne (by have := h1.2.1; omega)⟩, Or.inl ⟨(show (1 : Nat) ≤ 4 by decide), it_mk1 (ic_emit h1 (Or.inl ⟨Or.inl (by unfold cOp; omega), t0, rfl⟩) h16) (by rw [pUp_eq, h2]) h3 h4 h5⟩⟩
    · rw [if_neg c2] at h8 ⊢
      by_cases c3 : cFact (t p) = -1
      · rw [if_pos c3] at h8
        exact absurd rfl h8
      · rw [if_neg c3]
        have d5 := cFrg c3
        exact ⟨pUp ty (C + 1) (ty C + 1), ⟨fun i hi => pUp_ne (by omega), fun i hi => pUp_ne (by have := h1.2.1; omega)⟩, Or.inl ⟨(show (1 : Nat) ≤ 4 by decide), it_mk1 (ic_emit h1 (Or.inl ⟨Or.inr ⟨by unfold cOp; omega, by unfold cAr; omega⟩, t0, rfl⟩) h16) (by rw [pUp_eq, h2]) h3 h4 h5⟩⟩
/-- a sign that waits is written -/
theorem it_emit1 (h : ITc sp b0 ty (1, b, h0, (p, o, C, W), F, w)) (ht : 2 ≤ pTop ((p, o, C, W), F, w) ∧ pTop ((p, o, C, W), F, w) ≤ 6) : Nx sp b0 ty F C (1, b, h0, (p, o, C + 1, W - 1), pUp F C (pTop ((p, o, C, W), F, w) * 1048576), w) := by
  have h16 : ty C ≤ 16 := Int.le_trans (Int.le_of_eq h.2.1) (tyC_le h)
  obtain ⟨h1, h2, h3, h4, h5⟩ := it_of1 h
  have h6 := h1.2.2.2.1
  cases W with
  | zero =>
    rw [pTz] at ht
    omega
  | succ k =>
    rw [pTs] at ht ⊢
    have hb : b ≤ k := by
      by_cases c : b ≤ k
      · exact c
      · have z := (h6.2 k (by omega)).1 (by omega)
        unfold wtC at z
        omega
    have e1 : arN w b (k + 1) = arN w b k + 1 := by
      show arN w b k + _ = _
      rw [if_pos ⟨hb, isAr_iff.2 ht⟩]
    have e2 : opN w (k + 1) = opN w k + 0 := by
      show opN w k + _ = _
      rw [if_neg (by omega)]
    have t2 : 2 ≤ ty C := by
      rw [h2, e1]
      split <;> omega
    exact ⟨pUp ty (C + 1) (ty C - 1), ⟨fun i hi => pUp_ne (by omega), fun i hi => pUp_ne (by have := h1.2.1; omega)⟩, Or.inl ⟨(show (1 : Nat) ≤ 4 by decide), it_mk1 (ic_emit (ic_pop h1 hb) (Or.inr (Or.inl ⟨by rw [cOp_mul]; exact ht, t2, rfl⟩)) h16) (by rw [pUp_eq, h2, e1]; show _ = ((arN w b k : Nat) : Int) + _ + 1; omega) (by rw [h3, e2]; rfl) h4 h5⟩⟩
theorem it_1 (h : ITc sp b0 ty (1, b, h0, (p, o, C, W), F, w)) (h8 : (sA t b h0 ((p, o, C, W), F, w)).1 ≠ 8) : Nx sp b0 ty F C (sA t b h0 ((p, o, C, W), F, w)) := by
  have h16 : ty C ≤ 16 := Int.le_trans (Int.le_of_eq h.2.1) (tyC_le h)
  obtain ⟨h1, h2, h3, h4, h5⟩ := it_of1 h
  have h6 := h1.2.2.2.1
  have hB : b ≤ W := h6.1
  rw [sA_eq] at h8 ⊢
  by_cases c1 : 4 ≤ pTop ((p, o, C, W), F, w) ∧ pTop ((p, o, C, W), F, w) ≤ 6
  · rw [if_pos c1]
    exact it_emit1 h (by omega)
  rw [if_neg c1] at h8 ⊢
  by_cases c2 : (pTop ((p, o, C, W), F, w) = 2 ∨ pTop ((p, o, C, W), F, w) = 3) ∧ cSum (t p) < 4
  · rw [if_pos c2]
    exact it_emit1 h (by omega)
  rw [if_neg c2] at h8 ⊢
  by_cases c3 : cSum (t p) ≠ -1
  · rw [if_pos c3]
    have r := cSrg c3
    have q : isAr (cSum (t p) * 1048576) = true := by
      rw [isAr_iff, cOp_mul]
      exact r
    have e1 : arN (pUp w W (cSum (t p) * 1048576)) b (W + 1) = arN w b W + 1 := by rw [arN_push, if_pos ⟨hB, q⟩]
    have e2 : opN (pUp w W (cSum (t p) * 1048576)) (W + 1) = opN w W + 0 := by rw [opN_push, if_neg (by rw [cOp_mul]; omega)]
    refine ⟨ty, ⟨fun _ _ => rfl, fun _ _ => rfl⟩, Or.inl ⟨(show (0 : Nat) ≤ 4 by decide), it_mk0 (ic_push h1 (Or.inl q) (fun hBW hp _ => ?_)) (by omega) (by omega) h4 (ITs_same h5 (fun q => pUp_ne (by omega)))⟩⟩
    cases W with
    | zero => exact absurd hBW (by omega)
    | succ k =>
      rw [pTs] at c1 c2
      rw [Nat.add_sub_cancel] at hp ⊢
      have hp := isAr_iff.1 hp
      rw [cOp_mul]
      omega
  rw [if_neg c3] at h8 ⊢
  have c3 : cSum (t p) = -1 := by omega
  have top : ∀ k, W = k + 1 → b ≤ k → cOp (w k) = 14 := fun k ek hk => by
    subst ek
    rw [pTs] at c1 c2
    rcases (h6.2 k (by omega)).2 hk with z | z
    · have z := isAr_iff.1 z
      omega
    · exact z
  by_cases c4 : t p = 93 ∧ pHas ((p, o, C, W), F, w) b W = true
  · rw [if_pos c4]
    obtain ⟨k, k1, k2, _⟩ := pHx c4.2
    cases W with
    | zero => exact absurd k2 (by omega)
    | succ m =>
      have z := top m rfl (by omega)
      have e1 : arN w b (m + 1) = arN w b m + 0 := by
        show arN w b m + _ = _
        rw [if_neg (fun q => by
          have q := isAr_iff.1 q.2
          omega)]
      have e2 : opN w (m + 1) = opN w m + 1 := by
        show opN w m + _ = _
        rw [if_pos (Or.inr (Or.inr z))]
      exact ⟨ty, ⟨fun _ _ => rfl, fun _ _ => rfl⟩, Or.inl ⟨(show (1 : Nat) ≤ 4 by decide), it_mk1 (ic_pop h1 (by omega)) (by rw [h2, e1]; rfl) (by show o + -1 = ((opN w m : Nat) : Int); omega) (by omega) h5⟩⟩
  rw [if_neg c4] at h8 ⊢
  by_cases c5 : pHas ((p, o, C, W), F, w) b W = true
  · rw [if_pos c5] at h8
    exact absurd rfl h8
  rw [if_neg c5] at h8 ⊢
  have eW : W = b := by
    cases W with
    | zero => omega
    | succ m =>
      by_cases c : b ≤ m
      · exact absurd (top m rfl c) (pHn c5 m c (by omega))
      · omega
  subst eW
  have a0 : arN w W W = 0 := arN_0 (Nat.le_refl _)
  by_cases c6 : h0 = 0
  · rw [if_pos c6]
    rcases h5 with ⟨q1, q2, q3⟩ | ⟨_, _, q⟩
    · subst q2
      rw [c6, a0, if_neg (by omega)] at h2
      exact ⟨ty, ⟨fun _ _ => rfl, fun _ _ => rfl⟩, Or.inr ⟨rfl, h1, by rw [if_pos q1]; exact h2⟩⟩
    · omega
  rw [if_neg c6] at h8 ⊢
  by_cases c7 : h0 = 1
  · rw [if_pos c7] at h8 ⊢
    rcases h5 with ⟨_, _, q⟩ | ⟨q1, q2, _⟩
    · exact absurd q c6
    · rw [c7, a0, if_neg (by omega)] at h2
      have fin : ∀ x : Int, x = 7 ∨ x = 8 ∨ x = 9 → ITc sp b0 ty (0, W, x, (p + 1, o, C, W), F, w) := fun x hx => it_mk0 h1 (by rw [a0, if_pos (by omega), h2]; rfl) h3 h4 (Or.inr ⟨q1, q2, Or.inr hx⟩)
      by_cases d1 : t p = 60
      · rw [if_pos d1]
        exact ⟨ty, ⟨fun _ _ => rfl, fun _ _ => rfl⟩, Or.inl ⟨(show (0 : Nat) ≤ 4 by decide), fin 7 (by omega)⟩⟩
      · rw [if_neg d1] at h8 ⊢
        by_cases d2 : t p = 62
        · rw [if_pos d2]
          exact ⟨ty, ⟨fun _ _ => rfl, fun _ _ => rfl⟩, Or.inl ⟨(show (0 : Nat) ≤ 4 by decide), fin 8 (by omega)⟩⟩
        · rw [if_neg d2] at h8 ⊢
          by_cases d3 : t p = 61
          · rw [if_pos d3]
            exact ⟨ty, ⟨fun _ _ => rfl, fun _ _ => rfl⟩, Or.inl ⟨(show (0 : Nat) ≤ 4 by decide), fin 9 (by omega)⟩⟩
          · rw [if_neg d3] at h8
            exact absurd rfl h8
  · rw [if_neg c7]
    rcases h5 with ⟨_, _, q⟩ | ⟨q1, q2, q3⟩
    · exact absurd q c6
    · rw [a0, if_pos (by omega)] at h2
      exact ⟨pUp ty (C + 1) (-1), ⟨fun i hi => pUp_ne (by omega), fun i hi => pUp_ne (by have := h1.2.1; omega)⟩, Or.inl ⟨(show (3 : Nat) ≤ 4 by decide), it_mk3 (ic_emit h1 (Or.inr (Or.inr (Or.inl ⟨by rw [cOp_mul]; omega, by rw [h2]; rfl, rfl⟩))) h16) pUp_eq h3 h4 q1 q2.1 q2.2⟩⟩
theorem it_2 (h : ITc sp b0 ty (2, b, h0, (p, o, C, W), F, w)) (h8 : (sP t ((p, o, C, W), F, w)).1 ≠ 8) : Nx sp b0 ty F C (sP t ((p, o, C, W), F, w)) := by
  obtain ⟨h1, h2, h3, h4, h5, h6, h7⟩ := it_of2 h
  rw [sP_eq] at h8 ⊢
  have push : ∀ v : Int, (cOp v = 10 ∨ cOp v = 13) → o ≠ 6 → Nx sp b0 ty F C (2, 0, 0, (p + 1, o + 1, C, W + 1), F, pUp w W v) := fun v hv ho => by
    have e2 : opN (pUp w W v) (W + 1) = opN w W + 1 := by rw [opN_push, if_pos (by omega)]
    exact ⟨ty, ⟨fun _ _ => rfl, fun _ _ => rfl⟩, Or.inl ⟨(show (2 : Nat) ≤ 4 by decide), it_mk2 (ic_open h1 hv) h2 (by omega) (by omega) h5 (by omega) (by rw [pUp_ne (by omega)]; exact h7)⟩⟩
  by_cases c1 : t p = 33
  · rw [if_pos c1] at h8 ⊢
    by_cases c2 : o = 6
    · rw [if_pos c2] at h8
      exact absurd rfl h8
    · rw [if_neg c2]
      exact push _ (Or.inl (by unfold cOp; omega)) c2
  · rw [if_neg c1] at h8 ⊢
    by_cases c3 : t p = 40
    · rw [if_pos c3] at h8 ⊢
      by_cases c2 : o = 6
      · rw [if_pos c2] at h8
        exact absurd rfl h8
      · rw [if_neg c2]
        exact push _ (Or.inr (by unfold cOp; omega)) c2
    · rw [if_neg c3]
      exact ⟨ty, ⟨fun _ _ => rfl, fun _ _ => rfl⟩, Or.inl ⟨(show (0 : Nat) ≤ 4 by decide), it_mk0 h1 (by rw [arN_0 (Nat.le_refl _), if_neg (by omega), h2]; rfl) h3 h4 (Or.inr ⟨h5, ⟨h6, h7⟩, Or.inl rfl⟩)⟩⟩
theorem it_3 (h : ITc sp b0 ty (3, b, h0, (p, o, C, W), F, w)) : Nx sp b0 ty F C (sE ((p, o, C, W), F, w)) := by
  obtain ⟨h1, h2, h3, h4, h5, h6, h7⟩ := it_of3 h
  rw [sE_eq]
  by_cases c1 : pTop ((p, o, C, W), F, w) = 10
  · rw [if_pos c1]
    cases W with
    | zero => exact absurd h6 (by omega)
    | succ k =>
      rw [pTs] at c1
      have k0 : 0 < k := by
        by_cases c : k = 0
        · rw [c] at c1
          omega
        · omega
      have e2 : opN w (k + 1) = opN w k + 1 := by
        show opN w k + _ = _
        rw [if_pos (Or.inl c1)]
      exact ⟨pUp ty (C + 1) (-1), ⟨fun i hi => pUp_ne (by omega), fun i hi => pUp_ne (by have := h1.2.1; omega)⟩, Or.inl ⟨(show (3 : Nat) ≤ 4 by decide), it_mk3 (ic_emit (ic_close (W := k) h1 (by omega)) (Or.inr (Or.inr (Or.inr ⟨by unfold cOp; omega, h2, rfl⟩))) (by omega)) pUp_eq (by show o + -1 = ((opN w k : Nat) : Int); omega) (by omega) h5 k0 h7⟩⟩
  · rw [if_neg c1]
    exact ⟨ty, ⟨fun _ _ => rfl, fun _ _ => rfl⟩, Or.inl ⟨(show (4 : Nat) ≤ 4 by decide), it_mk4 h1 h2 h3 h4 h5 h6 h7⟩⟩
theorem it_4 (h : ITc sp b0 ty (4, b, h0, (p, o, C, W), F, w)) (hC : C < 1048576) (h8 : (sQ t ((p, o, C, W), F, w)).1 ≠ 8) : Nx sp b0 ty F C (sQ t ((p, o, C, W), F, w)) := by
  obtain ⟨h1, h2, h3, h4, h5, h6, h7⟩ := it_of4 h
  rw [sQ_eq] at h8 ⊢
  cases W with
  | zero => exact absurd h6 (by omega)
  | succ k =>
    rw [pTs] at h8 ⊢
    have land : ∀ op : Int, (op = 11 ∨ op = 12) → cOp (w k) = op → Nx sp b0 ty F C (4, 0, 0, (p, o, C, k + 1 - 1), pUp F (w (k + 1 - 1) - op * 1048576).toNat (op * 1048576 + (C : Int)), w) := fun op ho hw => by
      have k0 : 0 < k := by
        by_cases c : k = 0
        · rw [c] at hw
          omega
        · omega
      have e2 : opN w (k + 1) = opN w k + 0 := by
        show opN w k + _ = _
        rw [if_neg (by omega)]
      exact ⟨ty, ⟨fun _ _ => rfl, fun i hi => pUp_ne (by have := ic_lge h1 ho hw; show i ≠ (w k - op * 1048576).toNat; omega)⟩, Or.inl ⟨(show (4 : Nat) ≤ 4 by decide), it_mk4 (ic_land h1 ho hw hC h2) h2 (by rw [h3, e2]; rfl) h4 h5 k0 h7⟩⟩
    by_cases c1 : cOp (w k) = 11
    · rw [if_pos c1]
      exact land 11 (Or.inl rfl) c1
    rw [if_neg c1] at h8 ⊢
    by_cases c2 : cOp (w k) = 12 ∧ t p ≠ 38
    · rw [if_pos c2]
      exact land 12 (Or.inr rfl) c2.1
    rw [if_neg c2] at h8 ⊢
    by_cases c3 : t p = 41
    · rw [if_pos c3]
      have n12 : ¬ (cOp (w k) = 11 ∨ cOp (w k) = 12) := by omega
      have top : cOp (w k) = 10 ∨ cOp (w k) = 13 := by
        rcases (h1.2.2.2.1.2 k (by omega)).1 (by omega) with z | z
        · exact z
        · exact absurd z.1 n12
      have e2 : opN w (k + 1) = opN w k + 1 := by
        show opN w k + _ = _
        rw [if_pos (by omega)]
      by_cases c4 : k + 1 = 1
      · rw [if_pos c4]
        have k0 : k = 0 := by omega
        subst k0
        exact ⟨ty, ⟨fun _ _ => rfl, fun _ _ => rfl⟩, Or.inr ⟨rfl, ic_close h1 n12, by rw [if_neg (by rw [h5]; decide)]; exact h2⟩⟩
      · rw [if_neg c4]
        exact ⟨ty, ⟨fun _ _ => rfl, fun _ _ => rfl⟩, Or.inl ⟨(show (3 : Nat) ≤ 4 by decide), it_mk3 (ic_close h1 n12) h2 (by show o + -1 = ((opN w k : Nat) : Int); omega) (by omega) h5 (show 0 < k by omega) h7⟩⟩
    rw [if_neg c3] at h8 ⊢
    have jump : ∀ op : Int, (op = 11 ∨ op = 12) → Nx sp b0 ty F C (2, 0, 0, (p + 1, o, C + 1, k + 1 + 1), pUp F C (op * 1048576), pUp w (k + 1) (op * 1048576 + (C : Int))) := fun op ho => by
      have e1 : cOp (op * 1048576 + (C : Int)) = op := by unfold cOp; omega
      have e2 : opN (pUp w (k + 1) (op * 1048576 + (C : Int))) (k + 1 + 1) = opN w (k + 1) + 0 := by rw [opN_push, if_neg (by omega)]
      exact ⟨pUp ty (C + 1) 0, ⟨fun i hi => pUp_ne (by omega), fun i hi => pUp_ne (by have := h1.2.1; omega)⟩, Or.inl ⟨(show (2 : Nat) ≤ 4 by decide), it_mk2 (ic_jump h1 ho hC h2) pUp_eq (by omega) h4 h5 (by omega) (by rw [pUp_ne (by omega)]; exact h7)⟩⟩
    by_cases c5 : t p = 38
    · rw [if_pos c5]
      exact jump 11 (Or.inl rfl)
    rw [if_neg c5] at h8 ⊢
    by_cases c6 : t p = 124
    · rw [if_pos c6]
      exact jump 12 (Or.inr rfl)
    · rw [if_neg c6] at h8
      exact absurd rfl h8
theorem it_step {c : CF} (h : ITc sp b0 ty c) (h4 : c.1 ≤ 4) (hC : c.2.2.2.1.2.2.1 < 1048576) (h8 : (sm t c).1 ≠ 8) : Nx sp b0 ty c.2.2.2.2.1 c.2.2.2.1.2.2.1 (sm t c) := by
  obtain ⟨m, b, h0, ⟨p, o, C, W⟩, F, w⟩ := c
  have h4 : m ≤ 4 := h4
  rcases (show m = 0 ∨ m = 1 ∨ m = 2 ∨ m = 3 ∨ m = 4 by omega) with e | e | e | e | e
  · subst e
    exact it_0 h h8
  · subst e
    exact it_1 h h8
  · subst e
    exact it_2 h h8
  · subst e
    exact it_3 h
  · subst e
    exact it_4 h hC h8
/-- codes only grow in number -/
theorem sm_C {c : CF} : c.2.2.2.1.2.2.1 ≤ (sm t c).2.2.2.1.2.2.1 := by
  obtain ⟨m, b, h0, ⟨p, o, C, W⟩, F, w⟩ := c
  by_cases h4 : m ≤ 4
  · rcases (show m = 0 ∨ m = 1 ∨ m = 2 ∨ m = 3 ∨ m = 4 by omega) with e | e | e | e | e
    · subst e
      show C ≤ (sF t b h0 ((p, o, C, W), F, w)).2.2.2.1.2.2.1
      rw [sF_eq]
      repeat' split
      all_goals first | exact Nat.le_refl _ | exact Nat.le_succ _
    · subst e
      show C ≤ (sA t b h0 ((p, o, C, W), F, w)).2.2.2.1.2.2.1
      rw [sA_eq]
      repeat' split
      all_goals first | exact Nat.le_refl _ | exact Nat.le_succ _
    · subst e
      show C ≤ (sP t ((p, o, C, W), F, w)).2.2.2.1.2.2.1
      rw [sP_eq]
      repeat' split
      all_goals first | exact Nat.le_refl _ | exact Nat.le_succ _
    · subst e
      show C ≤ (sE ((p, o, C, W), F, w)).2.2.2.1.2.2.1
      rw [sE_eq]
      repeat' split
      all_goals first | exact Nat.le_refl _ | exact Nat.le_succ _
    · subst e
      show C ≤ (sQ t ((p, o, C, W), F, w)).2.2.2.1.2.2.1
      rw [sQ_eq]
      repeat' split
      all_goals first | exact Nat.le_refl _ | exact Nat.le_succ _
  · have e : sm t (m, b, h0, (p, o, C, W), F, w) = (m, b, h0, (p, o, C, W), F, w) := by
      rcases m with _ | _ | _ | _ | _ | m
      · exact absurd (by omega) h4
      · exact absurd (by omega) h4
      · exact absurd (by omega) h4
      · exact absurd (by omega) h4
      · exact absurd (by omega) h4
      · rfl
    rw [e]
    exact Nat.le_refl _
theorem smN_C : ∀ {k : Nat} {c : CF}, c.2.2.2.1.2.2.1 ≤ (smN t k c).2.2.2.1.2.2.1
  | 0, _ => Nat.le_refl _
  | k + 1, c => Nat.le_trans sm_C (smN_C (k := k) (c := sm t c))
theorem smN_stop {c : CF} (h : 5 ≤ c.1) : ∀ {k : Nat}, smN t k c = c
  | 0 => rfl
  | k + 1 => by
    have e : sm t c = c := by
      obtain ⟨m, q⟩ := c
      have h : 5 ≤ m := h
      rcases m with _ | _ | _ | _ | _ | m
      · exact absurd h (by omega)
      · exact absurd h (by omega)
      · exact absurd h (by omega)
      · exact absurd h (by omega)
      · exact absurd h (by omega)
      · rfl
    show smN t k (sm t c) = c
    rw [e]
    exact smN_stop h
/-- a whole run -/
theorem it_run : ∀ (k : Nat) (ty : Nat → Int) (c : CF), ITc sp b0 ty c → c.1 ≤ 4 → (smN t k c).1 = 7 → (smN t k c).2.2.2.1.2.2.1 < 1048576 → ∃ ty' : Nat → Int, ((∀ i, i ≤ c.2.2.2.1.2.2.1 → ty' i = ty i) ∧ ∀ i, i < b0 → (smN t k c).2.2.2.2.1 i = c.2.2.2.2.1 i) ∧ IC b0 0 0 (smN t k c).2.2.2.2.2 (smN t k c).2.2.2.2.1 ty' (smN t k c).2.2.2.1.2.2.1 ∧ ty' (smN t k c).2.2.2.1.2.2.1 = (if sp = true then 1 else -1)
  | 0, ty, c, _, h4, h7, _ => absurd h7 (by show ¬ c.1 = 7; omega)
  | k + 1, ty, c, h, h4, h7, hC => by
    have h7 : (smN t k (sm t c)).1 = 7 := h7
    have hC : (smN t k (sm t c)).2.2.2.1.2.2.1 < 1048576 := hC
    have l1 : c.2.2.2.1.2.2.1 ≤ (sm t c).2.2.2.1.2.2.1 := sm_C
    have l2 : (sm t c).2.2.2.1.2.2.1 ≤ (smN t k (sm t c)).2.2.2.1.2.2.1 := smN_C
    have h8 : (sm t c).1 ≠ 8 := fun q => by
      rw [smN_stop (by omega)] at h7
      omega
    obtain ⟨ty', ⟨e', f'⟩, n⟩ := it_step h h4 (by omega) h8
    rcases n with ⟨n4, n⟩ | ⟨n7, n⟩
    · obtain ⟨ty2, ⟨e2, f2⟩, z⟩ := it_run k ty' (sm t c) n n4 h7 hC
      exact ⟨ty2, ⟨fun i hi => by rw [e2 i (by omega), e' i hi], fun i hi => (f2 i hi).trans (f' i hi)⟩, z⟩
    · have es : smN t k (sm t c) = sm t c := smN_stop (by omega)
      show ∃ ty' : Nat → Int, (_ ∧ ∀ i, i < b0 → (smN t k (sm t c)).2.2.2.2.1 i = _) ∧ IC b0 0 0 (smN t k (sm t c)).2.2.2.2.2 (smN t k (sm t c)).2.2.2.2.1 ty' (smN t k (sm t c)).2.2.2.1.2.2.1 ∧ ty' (smN t k (sm t c)).2.2.2.1.2.2.1 = _
      rw [es]
      exact ⟨ty', ⟨e', f'⟩, n⟩
end

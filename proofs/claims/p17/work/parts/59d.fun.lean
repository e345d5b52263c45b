/-! what the reference lays anew of what is known (printed by fnk3.py) -/
/-- what is known of the first D deeds is f -/
def rfS (M : Mem) (D : Nat) (f : Nat → Nat → Int) (N : Mem) : Prop := Sh N ∧ (∀ c i, c ≠ 200 → c ≠ 201 → mSlot N c i = mSlot M c i) ∧ ∀ d, d < D → ∀ p, p < 10 → (iv N 200 (40 * p + d)).toInt = f d p
theorem rfS_iv {M N : Mem} {D : Nat} {f : Nat → Nat → Int} (h : rfS M D f N) {c i : Nat} (h0 : c ≠ 200) (h1 : c ≠ 201) : iv N c i = iv M c i := by
  unfold iv
  rw [h.2.1 c i h0 h1]
theorem rfS_eq {M N : Mem} {D : Nat} {f g : Nat → Nat → Int} (h : rfS M D f N) (e : ∀ d, d < D → ∀ p, p < 10 → f d p = g d p) : rfS M D g N := ⟨h.1, h.2.1, fun d hd p hp => (h.2.2 d hd p hp).trans (e d hd p hp)⟩
def rfU (f : Nat → Nat → Int) (x p : Nat) (v : Int) (d : Nat) : Nat → Int := if d = x then knU (f d) p v else f d
theorem rfS_put {M N N' : Mem} {D x p : Nat} {f : Nat → Nat → Int} {v : Int32} (h : rfS M D f N) (hD : D ≤ 40) (hx : x < 40) (hp : p < 10) (hv : v.toInt < (iv N 200 (40 * p + x)).toInt) (e : N' = mPut N 200 (40 * p + x) (.int v)) : rfS M D (rfU f x p v.toInt) N' := by
  subst e
  refine ⟨h.1.put (by decide) (by decide) rfl, fun c i a b => by rw [mSlot_put_ne (Or.inl a)]; exact h.2.1 c i a b, fun d hd q hq => ?_⟩
  unfold rfU
  by_cases c : d = x
  · rw [if_pos c]
    subst c
    unfold knU
    by_cases c2 : q = p
    · subst c2
      rw [if_pos rfl, ← h.2.2 d hd q hq, if_pos hv, iv_put_eq h.1 (by decide) (by decide) (by show 40 * q + d < 400; omega)]
    · rw [if_neg c2, iv_put_ne (Or.inr (by omega))]
      exact h.2.2 d hd q hq
  · rw [if_neg c, iv_put_ne (Or.inr (by omega))]
    exact h.2.2 d hd q hq
theorem rfS_no {M N : Mem} {D x p : Nat} {f : Nat → Nat → Int} {v : Int32} (h : rfS M D f N) (hv : ¬ v.toInt < (iv N 200 (40 * p + x)).toInt) : rfS M D (rfU f x p v.toInt) N := by
  refine rfS_eq h (fun d hd q hq => ?_)
  unfold rfU
  by_cases c : d = x
  · rw [if_pos c]
    subst c
    unfold knU
    by_cases c2 : q = p
    · subst c2
      rw [if_pos rfl, ← h.2.2 d hd q hq, if_neg hv]
    · rw [if_neg c2]
  · rw [if_neg c]
theorem knows_en {M N : Mem} {D : Nat} {f : Nat → Nat → Int} {p x v : Int32} (h0 : rfS M D f N) (hD : D ≤ 40) (p0 : 0 ≤ p.toInt) (p9 : p.toInt < 10) (x0 : 0 ≤ x.toInt) (x9 : x.toInt < 40) {n d : Nat} {r : Option Value} {M1 : Mem} (h : En n d 185 0 (lv_args 0 [.ref 181, .int p, .int x, .int v]) [] N r M1) : r = none ∧ rfS M D (rfU f x.toInt.toNat p.toInt.toNat v.toInt) M1 := by
  have hS := h0.1
  have e8 : ((40 : Int32) * p).toInt = 40 * p.toInt := i32_mul (x := 40) (by show -2147483648 ≤ 40 * p.toInt; omega) (by show 40 * p.toInt ≤ _; omega)
  have e9 : (((40 : Int32) * p) + x).toInt = 40 * p.toInt + x.toInt := by rw [i32_add (by omega) (by omega), e8]
  have en : (((40 : Int32) * p) + x).toInt.toNat = 40 * p.toInt.toNat + x.toInt.toNat := by omega
  replace h := eIload (mi := 185) (pc := 0) (len := 1) (i := 3) rfl rfl h
  replace h := eAload (mi := 185) (pc := 1) (len := 1) (i := 0) rfl rfl h
  replace h := eGetR (a := 181) (j := 1122) (g := 200) hS (by decide) (by decide) rfl rfl rfl (mi := 185) (pc := 2) (len := 3) rfl h
  replace h := eConst (mi := 185) (pc := 5) (len := 2) (v := 40) rfl h
  replace h := eIload (mi := 185) (pc := 7) (len := 1) (i := 1) rfl rfl h
  replace h := eMul (mi := 185) (pc := 8) (len := 1) rfl h
  replace h := eIload (mi := 185) (pc := 9) (len := 1) (i := 2) rfl rfl h
  replace h := eAdd (mi := 185) (pc := 10) (len := 1) rfl h
  obtain ⟨b1, h⟩ := eIald (x := (((40 : Int32) * p) + x)) hS (a := 200) (by decide) (by decide) rfl (mi := 185) (pc := 11) (len := 1) rfl h
  rcases eIc (mi := 185) (pc := 12) (len := 3) (t := 27) rfl rfl h with ⟨c2, h⟩ | ⟨c2, h⟩
  · replace c2 : ¬ v.toInt < (iv N 200 (((40 : Int32) * p) + x).toInt.toNat).toInt := mC_ge.1 c2
    obtain ⟨e1, e2⟩ := eRetV (mi := 185) (pc := 27) (len := 1) rfl h
    rw [e2]
    rw [en] at c2
    exact ⟨e1, rfS_no h0 c2⟩
  · replace c2 : v.toInt < (iv N 200 (((40 : Int32) * p) + x).toInt.toNat).toInt := mC_ge.2 c2
    replace h := eAload (mi := 185) (pc := 15) (len := 1) (i := 0) rfl rfl h
    replace h := eGetR (a := 181) (j := 1122) (g := 200) hS (by decide) (by decide) rfl rfl rfl (mi := 185) (pc := 16) (len := 3) rfl h
    replace h := eConst (mi := 185) (pc := 19) (len := 2) (v := 40) rfl h
    replace h := eIload (mi := 185) (pc := 21) (len := 1) (i := 1) rfl rfl h
    replace h := eMul (mi := 185) (pc := 22) (len := 1) rfl h
    replace h := eIload (mi := 185) (pc := 23) (len := 1) (i := 2) rfl rfl h
    replace h := eAdd (mi := 185) (pc := 24) (len := 1) rfl h
    replace h := eIload (mi := 185) (pc := 25) (len := 1) (i := 3) rfl rfl h
    obtain ⟨N4, eN4⟩ : ∃ X_, X_ = mPut N 200 (((40 : Int32) * p) + x).toInt.toNat (.int v) := ⟨_, rfl⟩
    obtain ⟨b3, h⟩ := eIast (x := (((40 : Int32) * p) + x)) (N := N4) hS (a := 200) (by decide) (by decide) eN4 (mi := 185) (pc := 26) (len := 1) rfl h
    have hS5 : Sh N4 := by rw [eN4]; exact hS.put (by decide) (by decide) rfl
    obtain ⟨e1, e2⟩ := eRetV (mi := 185) (pc := 27) (len := 1) rfl h
    rw [e2]
    rw [en] at c2
    rw [en] at eN4
    exact ⟨e1, rfS_put h0 hD (by omega) (by omega) c2 eN4⟩
theorem nxw_lp {N : Mem} (hS : Sh N) (w0 : 0 ≤ (iv N 181 16).toInt) (w9 : (iv N 181 16).toInt ≤ 20) : ∀ (n : Nat) {d : Nat} {L : MLoc} {r : Option Value} {M1 : Mem} {bb i : Int32}, mLd L 0 = some (.ref 181) → mLd L 1 = some (.int bb) → mLd L 2 = some (.int i) → 0 ≤ i.toInt → i.toInt ≤ (iv N 181 16).toInt → ((bb.toInt = -1 ∧ ∀ k, k < i.toInt.toNat → ¬ (iv N 201 k).toInt = 0) ∨ ((0 ≤ bb.toInt ∧ bb.toInt.toNat < i.toInt.toNat) ∧ (iv N 201 bb.toInt.toNat).toInt = 0 ∧ ∀ k, k < i.toInt.toNat → (iv N 201 k).toInt = 0 → k ≠ bb.toInt.toNat → knLx (fun k => (iv N 198 k).toInt) bb.toInt.toNat k)) → En n d 186 4 L [] N r M1 → M1 = N ∧ ∃ z : Int32, r = some (.int z) ∧ ((z.toInt = -1 ∧ ∀ k, k < (iv N 181 16).toInt.toNat → ¬ (iv N 201 k).toInt = 0) ∨ ((0 ≤ z.toInt ∧ z.toInt.toNat < (iv N 181 16).toInt.toNat) ∧ (iv N 201 z.toInt.toNat).toInt = 0 ∧ ∀ k, k < (iv N 181 16).toInt.toNat → (iv N 201 k).toInt = 0 → k ≠ z.toInt.toNat → knLx (fun k => (iv N 198 k).toInt) z.toInt.toNat k)) := by
  intro n
  induction n with
  | zero => intro d L r M1 bb i _ _ _ _ _ _ h; exact (En.zero (mi := 186) (pc := 4) (len := 1) rfl h).elim
  | succ n ih =>
    intro d L r M1 bb i l0 l1 l2 i0 i8 hI h
    have ei : i.toInt < 20 → (i + 1).toInt = i.toInt + 1 := fun _ => i32_inc i0 (by omega)
    have en : i.toInt < 20 → (i + 1).toInt.toNat = i.toInt.toNat + 1 := fun q => by rw [ei q]; omega
    replace h := eIloadS (mi := 186) (pc := 4) (len := 1) (i := 2) rfl l2 h
    replace h := eAload (mi := 186) (pc := 5) (len := 1) (i := 0) rfl l0 h
    replace h := eGetI (a := 181) (j := 1116) hS (by decide) (by decide) rfl (mi := 186) (pc := 6) (len := 3) rfl h
    rcases eIc (mi := 186) (pc := 9) (len := 3) (t := 49) rfl rfl h with ⟨c1, h⟩ | ⟨c1, h⟩
    · replace c1 : ¬ i.toInt < (iv N 181 16).toInt := mC_ge.1 c1
      replace h := eIload (mi := 186) (pc := 49) (len := 1) (i := 1) rfl l1 h
      obtain ⟨e1, e2⟩ := eRetI (mi := 186) (pc := 50) (len := 1) rfl h
      refine ⟨e2, bb, e1, ?_⟩
      rw [← show i.toInt.toNat = (iv N 181 16).toInt.toNat by omega]
      exact hI
    · replace c1 : i.toInt < (iv N 181 16).toInt := mC_ge.2 c1
      replace h := eAload (mi := 186) (pc := 12) (len := 1) (i := 0) rfl l0 h
      replace h := eGetR (a := 181) (j := 1123) (g := 201) hS (by decide) (by decide) rfl rfl rfl (mi := 186) (pc := 13) (len := 3) rfl h
      replace h := eIload (mi := 186) (pc := 16) (len := 1) (i := 2) rfl l2 h
      obtain ⟨b2, h⟩ := eBald (x := i) hS (a := 201) (by decide) (by decide) rfl (mi := 186) (pc := 17) (len := 1) rfl h
      rcases eIf (mi := 186) (pc := 18) (len := 3) (t := 43) rfl rfl h with ⟨c3, h⟩ | ⟨c3, h⟩
      · replace c3 : ¬ (iv N 201 i.toInt.toNat).toInt = 0 := mC_ne.1 c3
        replace h := eIinc (mi := 186) (pc := 43) (len := 3) (i := 2) (k := 1) rfl l2 (by decide) h
        replace h := eGoto (mi := 186) (pc := 46) (len := 3) (t := 4) rfl rfl h
        have hi : i.toInt < 20 := by omega
        refine ih (i := i + 1) (bb := bb) (mLd_st1_ref (by decide) l0) (mLd_st1_int (by decide) l1) mLd_st1_i (by omega) (by omega) ?_ h
        rw [en hi]
        rcases hI with ⟨a, b⟩ | ⟨a, b, d⟩
        · refine Or.inl ⟨a, fun k hk => ?_⟩
          by_cases ck : k = i.toInt.toNat
          · rw [ck]; exact c3
          · exact b k (by omega)
        · refine Or.inr ⟨⟨a.1, by omega⟩, b, fun k hk h1 h2 => ?_⟩
          by_cases ck : k = i.toInt.toNat
          · rw [ck] at h1; exact absurd h1 c3
          · exact d k (by omega) h1 h2
      · replace c3 : (iv N 201 i.toInt.toNat).toInt = 0 := mC_ne.2 c3
        replace h := eIload (mi := 186) (pc := 21) (len := 1) (i := 1) rfl l1 h
        replace h := eConst (mi := 186) (pc := 22) (len := 1) (v := (-1)) rfl h
        rcases eIc (mi := 186) (pc := 23) (len := 3) (t := 41) rfl rfl h with ⟨c4, h⟩ | ⟨c4, h⟩
        · replace c4 : bb.toInt = (-1) := mC_eq.1 c4
          replace h := eIload (mi := 186) (pc := 41) (len := 1) (i := 2) rfl l2 h
          replace h := eIstore (mi := 186) (pc := 42) (len := 1) (i := 1) rfl (by decide) h
          replace h := eIinc (mi := 186) (pc := 43) (len := 3) (i := 2) (k := 1) rfl (mLd_st1_int (by decide) l2) (by decide) h
          replace h := eGoto (mi := 186) (pc := 46) (len := 3) (t := 4) rfl rfl h
          have hi : i.toInt < 20 := by omega
          refine ih (i := i + 1) (bb := i) (mLd_st1_ref (by decide) (mLd_st1_ref (by decide) l0)) (mLd_st1_int (by decide) mLd_st1_i) mLd_st1_i (by omega) (by omega) ?_ h
          rw [en hi]
          try rw [show (-1 : Int32).toInt = -1 from rfl] at c4
          refine Or.inr ⟨⟨i0, by omega⟩, c3, fun k hk h1 h2 => ?_⟩
          rcases hI with ⟨a, b⟩ | ⟨a, b, d⟩
          · exact absurd h1 (b k (by omega))
          · omega
        · replace c4 : ¬ bb.toInt = (-1) := mC_eq.2 c4
          replace h := eAload (mi := 186) (pc := 26) (len := 1) (i := 0) rfl l0 h
          replace h := eGetR (a := 181) (j := 1120) (g := 198) hS (by decide) (by decide) rfl rfl rfl (mi := 186) (pc := 27) (len := 3) rfl h
          replace h := eIload (mi := 186) (pc := 30) (len := 1) (i := 2) rfl l2 h
          obtain ⟨b5, h⟩ := eIald (x := i) hS (a := 198) (by decide) (by decide) rfl (mi := 186) (pc := 31) (len := 1) rfl h
          replace h := eAload (mi := 186) (pc := 32) (len := 1) (i := 0) rfl l0 h
          replace h := eGetR (a := 181) (j := 1120) (g := 198) hS (by decide) (by decide) rfl rfl rfl (mi := 186) (pc := 33) (len := 3) rfl h
          replace h := eIload (mi := 186) (pc := 36) (len := 1) (i := 1) rfl l1 h
          obtain ⟨b6, h⟩ := eIald (x := bb) hS (a := 198) (by decide) (by decide) rfl (mi := 186) (pc := 37) (len := 1) rfl h
          rcases eIc (mi := 186) (pc := 38) (len := 3) (t := 43) rfl rfl h with ⟨c7, h⟩ | ⟨c7, h⟩
          · replace c7 : ¬ (iv N 198 i.toInt.toNat).toInt < (iv N 198 bb.toInt.toNat).toInt := mC_ge.1 c7
            replace h := eIinc (mi := 186) (pc := 43) (len := 3) (i := 2) (k := 1) rfl l2 (by decide) h
            replace h := eGoto (mi := 186) (pc := 46) (len := 3) (t := 4) rfl rfl h
            have hi : i.toInt < 20 := by omega
            refine ih (i := i + 1) (bb := bb) (mLd_st1_ref (by decide) l0) (mLd_st1_int (by decide) l1) mLd_st1_i (by omega) (by omega) ?_ h
            rw [en hi]
            try rw [show (-1 : Int32).toInt = -1 from rfl] at c4
            rcases hI with ⟨a, b⟩ | ⟨a, b, d⟩
            · exact absurd a c4
            · refine Or.inr ⟨⟨a.1, by omega⟩, b, fun k hk h1 h2 => ?_⟩
              by_cases ck : k = i.toInt.toNat
              · rw [ck]
                have c3 : ¬ (iv N 198 i.toInt.toNat).toInt < (iv N 198 bb.toInt.toNat).toInt := c7
                show (iv N 198 bb.toInt.toNat).toInt < (iv N 198 i.toInt.toNat).toInt ∨ ((iv N 198 bb.toInt.toNat).toInt = (iv N 198 i.toInt.toNat).toInt ∧ bb.toInt.toNat < i.toInt.toNat)
                omega
              · exact d k (by omega) h1 h2
          · replace c7 : (iv N 198 i.toInt.toNat).toInt < (iv N 198 bb.toInt.toNat).toInt := mC_ge.2 c7
            replace h := eIload (mi := 186) (pc := 41) (len := 1) (i := 2) rfl l2 h
            replace h := eIstore (mi := 186) (pc := 42) (len := 1) (i := 1) rfl (by decide) h
            replace h := eIinc (mi := 186) (pc := 43) (len := 3) (i := 2) (k := 1) rfl (mLd_st1_int (by decide) l2) (by decide) h
            replace h := eGoto (mi := 186) (pc := 46) (len := 3) (t := 4) rfl rfl h
            have hi : i.toInt < 20 := by omega
            refine ih (i := i + 1) (bb := i) (mLd_st1_ref (by decide) (mLd_st1_ref (by decide) l0)) (mLd_st1_int (by decide) mLd_st1_i) mLd_st1_i (by omega) (by omega) ?_ h
            rw [en hi]
            try rw [show (-1 : Int32).toInt = -1 from rfl] at c4
            refine Or.inr ⟨⟨i0, by omega⟩, c3, fun k hk h1 h2 => ?_⟩
            rcases hI with ⟨a, b⟩ | ⟨a, b, d⟩
            · exact absurd h1 (b k (by omega))
            · by_cases ck : k = bb.toInt.toNat
              · rw [ck]; exact Or.inl c7
              · exact knLx_trans (Or.inl c7) (d k (by omega) h1 ck)
theorem nxw_en {N : Mem} (hS : Sh N) (w0 : 0 ≤ (iv N 181 16).toInt) (w9 : (iv N 181 16).toInt ≤ 20) {n d : Nat} {r : Option Value} {M1 : Mem} (h : En n d 186 0 (lv_args 0 [.ref 181]) [] N r M1) : M1 = N ∧ ∃ z : Int32, r = some (.int z) ∧ ((z.toInt = -1 ∧ ∀ k, k < (iv N 181 16).toInt.toNat → ¬ (iv N 201 k).toInt = 0) ∨ ((0 ≤ z.toInt ∧ z.toInt.toNat < (iv N 181 16).toInt.toNat) ∧ (iv N 201 z.toInt.toNat).toInt = 0 ∧ ∀ k, k < (iv N 181 16).toInt.toNat → (iv N 201 k).toInt = 0 → k ≠ z.toInt.toNat → knLx (fun k => (iv N 198 k).toInt) z.toInt.toNat k)) := by
  replace h := eConst (mi := 186) (pc := 0) (len := 1) (v := (-1)) rfl h
  replace h := eIstore (mi := 186) (pc := 1) (len := 1) (i := 1) rfl (by decide) h
  replace h := eConst (mi := 186) (pc := 2) (len := 1) (v := 0) rfl h
  replace h := eIstore (mi := 186) (pc := 3) (len := 1) (i := 2) rfl (by decide) h
  exact nxw_lp hS w0 w9 n (bb := -1) (i := 0) rfl rfl rfl (Int.le_refl 0) w0 (Or.inl ⟨rfl, fun k hk => absurd hk (Nat.not_lt_zero k)⟩) h
theorem knows_201 {N : Mem} {p x v : Int32} (hS : Sh N) {n d : Nat} {r : Option Value} {M1 : Mem} (h : En n d 185 0 (lv_args 0 [.ref 181, .int p, .int x, .int v]) [] N r M1) (i : Nat) : iv M1 201 i = iv N 201 i := by
  replace h := eIload (mi := 185) (pc := 0) (len := 1) (i := 3) rfl rfl h
  replace h := eAload (mi := 185) (pc := 1) (len := 1) (i := 0) rfl rfl h
  replace h := eGetR (a := 181) (j := 1122) (g := 200) hS (by decide) (by decide) rfl rfl rfl (mi := 185) (pc := 2) (len := 3) rfl h
  replace h := eConst (mi := 185) (pc := 5) (len := 2) (v := 40) rfl h
  replace h := eIload (mi := 185) (pc := 7) (len := 1) (i := 1) rfl rfl h
  replace h := eMul (mi := 185) (pc := 8) (len := 1) rfl h
  replace h := eIload (mi := 185) (pc := 9) (len := 1) (i := 2) rfl rfl h
  replace h := eAdd (mi := 185) (pc := 10) (len := 1) rfl h
  obtain ⟨b1, h⟩ := eIald (x := (((40 : Int32) * p) + x)) hS (a := 200) (by decide) (by decide) rfl (mi := 185) (pc := 11) (len := 1) rfl h
  rcases eIc (mi := 185) (pc := 12) (len := 3) (t := 27) rfl rfl h with ⟨c2, h⟩ | ⟨c2, h⟩
  · replace c2 : ¬ v.toInt < (iv N 200 (((40 : Int32) * p) + x).toInt.toNat).toInt := mC_ge.1 c2
    obtain ⟨_, e2⟩ := eRetV (mi := 185) (pc := 27) (len := 1) rfl h
    rw [e2]
  · replace c2 : v.toInt < (iv N 200 (((40 : Int32) * p) + x).toInt.toNat).toInt := mC_ge.2 c2
    replace h := eAload (mi := 185) (pc := 15) (len := 1) (i := 0) rfl rfl h
    replace h := eGetR (a := 181) (j := 1122) (g := 200) hS (by decide) (by decide) rfl rfl rfl (mi := 185) (pc := 16) (len := 3) rfl h
    replace h := eConst (mi := 185) (pc := 19) (len := 2) (v := 40) rfl h
    replace h := eIload (mi := 185) (pc := 21) (len := 1) (i := 1) rfl rfl h
    replace h := eMul (mi := 185) (pc := 22) (len := 1) rfl h
    replace h := eIload (mi := 185) (pc := 23) (len := 1) (i := 2) rfl rfl h
    replace h := eAdd (mi := 185) (pc := 24) (len := 1) rfl h
    replace h := eIload (mi := 185) (pc := 25) (len := 1) (i := 3) rfl rfl h
    obtain ⟨N4, eN4⟩ : ∃ X_, X_ = mPut N 200 (((40 : Int32) * p) + x).toInt.toNat (.int v) := ⟨_, rfl⟩
    obtain ⟨b3, h⟩ := eIast (x := (((40 : Int32) * p) + x)) (N := N4) hS (a := 200) (by decide) (by decide) eN4 (mi := 185) (pc := 26) (len := 1) rfl h
    have hS5 : Sh N4 := by rw [eN4]; exact hS.put (by decide) (by decide) rfl
    obtain ⟨_, e2⟩ := eRetV (mi := 185) (pc := 27) (len := 1) rfl h
    rw [e2]
    rw [eN4]
    exact iv_put_ne (Or.inl (by decide))
/-- what is asked of the types when knowledge is laid -/
def lB (M : Mem) : Prop := Sh M ∧ (0 ≤ (iv M 181 0).toInt ∧ (iv M 181 0).toInt ≤ 40) ∧ (0 ≤ (iv M 181 15).toInt ∧ (iv M 181 15).toInt ≤ 60) ∧ (0 ≤ (iv M 181 16).toInt ∧ (iv M 181 16).toInt ≤ 20) ∧ ∀ i, (i < 40 → (0 ≤ (iv M 185 i).toInt ∧ (iv M 185 i).toInt ≤ 9) ∧ (0 ≤ (iv M 186 i).toInt ∧ (iv M 186 i).toInt ≤ 9) ∧ (0 ≤ (iv M 188 i).toInt ∧ (iv M 188 i).toInt ≤ 999)) ∧ (i < 60 → (0 ≤ (iv M 195 i).toInt ∧ (iv M 195 i).toInt ≤ 9) ∧ (0 ≤ (iv M 196 i).toInt ∧ (iv M 196 i).toInt ≤ 39) ∧ (0 ≤ (iv M 197 i).toInt ∧ (iv M 197 i).toInt ≤ 999)) ∧ (i < 20 → (0 ≤ (iv M 198 i).toInt ∧ (iv M 198 i).toInt ≤ 999) ∧ (0 ≤ (iv M 199 i).toInt ∧ (iv M 199 i).toInt ≤ 1023))
theorem lB_of {s : List Int32} {M : Mem} (hT : aTp s M) : lB M :=
  ⟨Sh.of hT, iv_ty hT (c := 181) (i := 0) (by decide) (by decide) (by decide) (lo := 0) (hi' := 40) (gs := []) rfl, iv_ty hT (c := 181) (i := 15) (by decide) (by decide) (by decide) (lo := 0) (hi' := 60) (gs := []) rfl, iv_ty hT (c := 181) (i := 16) (by decide) (by decide) (by decide) (lo := 0) (hi' := 20) (gs := []) rfl, fun i => ⟨fun h => ⟨iv_ty hT (c := 185) (i := i) (by decide) (by decide) h (lo := 0) (hi' := 9) (gs := []) rfl, iv_ty hT (c := 186) (i := i) (by decide) (by decide) h (lo := 0) (hi' := 9) (gs := []) rfl, iv_ty hT (c := 188) (i := i) (by decide) (by decide) h (lo := 0) (hi' := 999) (gs := []) rfl⟩, fun h => ⟨iv_ty hT (c := 195) (i := i) (by decide) (by decide) h (lo := 0) (hi' := 9) (gs := []) rfl, iv_ty hT (c := 196) (i := i) (by decide) (by decide) h (lo := 0) (hi' := 39) (gs := []) rfl, iv_ty hT (c := 197) (i := i) (by decide) (by decide) h (lo := 0) (hi' := 999) (gs := []) rfl⟩, fun h => ⟨iv_ty hT (c := 198) (i := i) (by decide) (by decide) h (lo := 0) (hi' := 999) (gs := []) rfl, iv_ty hT (c := 199) (i := i) (by decide) (by decide) h (lo := 0) (hi' := 1023) (gs := []) rfl⟩⟩⟩
theorem lB_same {M N : Mem} (h : lB M) (hS : Sh N) (e : ∀ c i, (c = 181 ∧ (i = 0 ∨ i = 15 ∨ i = 16)) ∨ (185 ≤ c ∧ c ≤ 199) → iv N c i = iv M c i) : lB N := by
  refine ⟨hS, ?_, ?_, ?_, fun i => ⟨fun q => ?_, fun q => ?_, fun q => ?_⟩⟩
  · rw [e 181 0 (by omega)]; exact h.2.1
  · rw [e 181 15 (by omega)]; exact h.2.2.1
  · rw [e 181 16 (by omega)]; exact h.2.2.2.1
  · rw [e 185 i (by omega), e 186 i (by omega), e 188 i (by omega)]; exact (h.2.2.2.2 i).1 q
  · rw [e 195 i (by omega), e 196 i (by omega), e 197 i (by omega)]; exact (h.2.2.2.2 i).2.1 q
  · rw [e 198 i (by omega), e 199 i (by omega)]; exact (h.2.2.2.2 i).2.2 q
theorem bs_1 {x k : Int32} (h0 : 0 ≤ x.toInt) (h1 : x.toInt < 1024) (k0 : 0 ≤ k.toInt) (k1 : k.toInt < 10) (h : ((x >>> (k &&& 31)) &&& (1 : Int32)).toInt = 1) : Nat.testBit x.toInt.toNat k.toInt.toNat = true := by
  refine bs_t h0 h1 k0 k1 (fun q => ?_)
  rw [q] at h
  exact absurd h (by decide)
theorem bs_0 {x k : Int32} (h0 : 0 ≤ x.toInt) (h1 : x.toInt < 1024) (k0 : 0 ≤ k.toInt) (k1 : k.toInt < 10) (h : ¬ ((x >>> (k &&& 31)) &&& (1 : Int32)).toInt = 1) : Nat.testBit x.toInt.toNat k.toInt.toNat = false := by
  rw [bs_i h0 h1 k0 k1] at h
  cases hq : Nat.testBit x.toInt.toNat k.toInt.toNat with
  | false => rfl
  | true =>
    rw [hq] at h
    exact absurd (show ((if true = true then (1 : Int32) else 0)).toInt = 1 by decide) h
theorem sits_lp {M N0 : Mem} {w : Int32} {f : Nat → Nat → Int} (hT : lB M) (w0 : 0 ≤ w.toInt) (w9 : w.toInt < 20) : ∀ (n : Nat), (∀ {d : Nat} {L : MLoc} {N : Mem} {r : Option Value} {M1 : Mem} {k : Int32}, mLd L 0 = some (.ref 181) → mLd L 1 = some (.int w) → mLd L 2 = some (.int k) → 0 ≤ k.toInt → k.toInt ≤ (iv M 181 0).toInt → (rfS M (iv M 181 0).toInt.toNat (fun d => if d < k.toInt.toNat then (bif knTb (f d) (iv M 199 w.toInt.toNat).toInt.toNat (iv M 198 w.toInt.toNat).toInt 10 then knL (f d) (iv M 199 w.toInt.toNat).toInt.toNat (iv M 198 w.toInt.toNat).toInt 10 else (f d)) else f d)) N → (∀ i, iv N 201 i = iv N0 201 i) → En n d 187 2 L [] N r M1 → r = none ∧ (rfS M (iv M 181 0).toInt.toNat (fun d => if d < (iv M 181 0).toInt.toNat then (bif knTb (f d) (iv M 199 w.toInt.toNat).toInt.toNat (iv M 198 w.toInt.toNat).toInt 10 then knL (f d) (iv M 199 w.toInt.toNat).toInt.toNat (iv M 198 w.toInt.toNat).toInt 10 else (f d)) else f d)) M1 ∧ ∀ i, iv M1 201 i = iv N0 201 i) ∧ (∀ {d : Nat} {L : MLoc} {N : Mem} {r : Option Value} {M1 : Mem} {k j : Int32} {b : Bool}, mLd L 0 = some (.ref 181) → mLd L 1 = some (.int w) → mLd L 2 = some (.int k) → mLd L 3 = some (.int (b2 b)) → mLd L 4 = some (.int j) → 0 ≤ k.toInt → k.toInt < (iv M 181 0).toInt → 0 ≤ j.toInt → j.toInt ≤ 10 → b = knTb (f k.toInt.toNat) (iv M 199 w.toInt.toNat).toInt.toNat (iv M 198 w.toInt.toNat).toInt j.toInt.toNat → (rfS M (iv M 181 0).toInt.toNat (fun d => if d < k.toInt.toNat then (bif knTb (f d) (iv M 199 w.toInt.toNat).toInt.toNat (iv M 198 w.toInt.toNat).toInt 10 then knL (f d) (iv M 199 w.toInt.toNat).toInt.toNat (iv M 198 w.toInt.toNat).toInt 10 else (f d)) else f d)) N → (∀ i, iv N 201 i = iv N0 201 i) → En n d 187 15 L [] N r M1 → r = none ∧ (rfS M (iv M 181 0).toInt.toNat (fun d => if d < (iv M 181 0).toInt.toNat then (bif knTb (f d) (iv M 199 w.toInt.toNat).toInt.toNat (iv M 198 w.toInt.toNat).toInt 10 then knL (f d) (iv M 199 w.toInt.toNat).toInt.toNat (iv M 198 w.toInt.toNat).toInt 10 else (f d)) else f d)) M1 ∧ ∀ i, iv M1 201 i = iv N0 201 i) ∧ (∀ {d : Nat} {L : MLoc} {N : Mem} {r : Option Value} {M1 : Mem} {k j : Int32} {b : Bool}, mLd L 0 = some (.ref 181) → mLd L 1 = some (.int w) → mLd L 2 = some (.int k) → mLd L 3 = some (.int (b2 b)) → mLd L 4 = some (.int j) → 0 ≤ k.toInt → k.toInt < (iv M 181 0).toInt → 0 ≤ j.toInt → j.toInt ≤ 10 → b = knTb (f k.toInt.toNat) (iv M 199 w.toInt.toNat).toInt.toNat (iv M 198 w.toInt.toNat).toInt 10 → (b = false → j.toInt = 0) → (rfS M (iv M 181 0).toInt.toNat (fun d => if d < k.toInt.toNat then (bif knTb (f d) (iv M 199 w.toInt.toNat).toInt.toNat (iv M 198 w.toInt.toNat).toInt 10 then knL (f d) (iv M 199 w.toInt.toNat).toInt.toNat (iv M 198 w.toInt.toNat).toInt 10 else (f d)) else if d = k.toInt.toNat then knL (f d) (iv M 199 w.toInt.toNat).toInt.toNat (iv M 198 w.toInt.toNat).toInt j.toInt.toNat else f d)) N → (∀ i, iv N 201 i = iv N0 201 i) → En n d 187 77 L [] N r M1 → r = none ∧ (rfS M (iv M 181 0).toInt.toNat (fun d => if d < (iv M 181 0).toInt.toNat then (bif knTb (f d) (iv M 199 w.toInt.toNat).toInt.toNat (iv M 198 w.toInt.toNat).toInt 10 then knL (f d) (iv M 199 w.toInt.toNat).toInt.toNat (iv M 198 w.toInt.toNat).toInt 10 else (f d)) else f d)) M1 ∧ ∀ i, iv M1 201 i = iv N0 201 i) := by
  have rD := hT.2.1
  have r198 := ((hT.2.2.2.2 w.toInt.toNat).2.2 (by show _ < 20; omega)).1
  have r199 := ((hT.2.2.2.2 w.toInt.toNat).2.2 (by show _ < 20; omega)).2
  intro n
  induction n with
  | zero =>
    refine ⟨?_, ?_, ?_⟩
    · intro d L N r M1 k _ _ _ _ _ _ _ h; exact (En.zero (mi := 187) (pc := 2) (len := 1) rfl h).elim
    · intro d L N r M1 k j b _ _ _ _ _ _ _ _ _ _ _ _ h; exact (En.zero (mi := 187) (pc := 15) (len := 2) rfl h).elim
    · intro d L N r M1 k j b _ _ _ _ _ _ _ _ _ _ _ _ _ h; exact (En.zero (mi := 187) (pc := 77) (len := 2) rfl h).elim
  | succ n ih =>
    obtain ⟨ihA, ihB, ihC⟩ := ih
    refine ⟨?_, ?_, ?_⟩
    · intro d L N r M1 k l0 l1 l2 k0 k8 hF hO h
      have hS := hF.1
      have eD : iv N 181 0 = iv M 181 0 := rfS_iv hF (by decide) (by decide)
      replace h := eIloadS (mi := 187) (pc := 2) (len := 1) (i := 2) rfl l2 h
      replace h := eAload (mi := 187) (pc := 3) (len := 1) (i := 0) rfl l0 h
      replace h := eGetI (a := 181) (j := 1100) hS (by decide) (by decide) rfl (mi := 187) (pc := 4) (len := 3) rfl h
      rcases eIc (mi := 187) (pc := 7) (len := 3) (t := 128) rfl rfl h with ⟨c1, h⟩ | ⟨c1, h⟩
      · replace c1 : ¬ k.toInt < (iv N 181 0).toInt := mC_ge.1 c1; rw [eD] at c1
        obtain ⟨e1, e2⟩ := eRetV (mi := 187) (pc := 128) (len := 1) rfl h
        have eK : k.toInt.toNat = (iv M 181 0).toInt.toNat := by omega
        rw [eK] at hF
        rw [e2]
        exact ⟨e1, hF, hO⟩
      · replace c1 : k.toInt < (iv N 181 0).toInt := mC_ge.2 c1; rw [eD] at c1
        replace h := eConst (mi := 187) (pc := 10) (len := 1) (v := 0) rfl h
        replace h := eIstore (mi := 187) (pc := 11) (len := 1) (i := 3) rfl (by decide) h
        replace h := eConst (mi := 187) (pc := 12) (len := 1) (v := 0) rfl h
        replace h := eIstore (mi := 187) (pc := 13) (len := 2) (i := 4) rfl (by decide) h
        exact ihB (b := false) (j := 0) (mLd_st1_ref (by decide) (mLd_st1_ref (by decide) l0)) (mLd_st1_int (by decide) (mLd_st1_int (by decide) l1)) (mLd_st1_int (by decide) (mLd_st1_int (by decide) l2)) (mLd_st1_int (by decide) mLd_st1_i) mLd_st1_i k0 (by omega) (Int.le_refl 0) (by decide) rfl hF hO h
    · intro d L N r M1 k j b l0 l1 l2 l3 l4 k0 k8 j0 j8 hb hF hO h
      have hS := hF.1
      have ej : j.toInt < 10 → (j + 1).toInt = j.toInt + 1 := fun _ => i32_inc j0 (by omega)
      have en : j.toInt < 10 → (j + 1).toInt.toNat = j.toInt.toNat + 1 := fun q => by rw [ej q]; omega
      have e198 : iv N 198 w.toInt.toNat = iv M 198 w.toInt.toNat := rfS_iv hF (by decide) (by decide)
      have e199 : iv N 199 w.toInt.toNat = iv M 199 w.toInt.toNat := rfS_iv hF (by decide) (by decide)
      have ix : j.toInt < 10 → (((40 : Int32) * j) + k).toInt.toNat = 40 * j.toInt.toNat + k.toInt.toNat := fun q => by
        have e8 : ((40 : Int32) * j).toInt = 40 * j.toInt := i32_mul (x := 40) (by show -2147483648 ≤ 40 * j.toInt; omega) (by show 40 * j.toInt ≤ _; omega)
        have e9 : (((40 : Int32) * j) + k).toInt = 40 * j.toInt + k.toInt := by rw [i32_add (by omega) (by omega), e8]
        omega
      have vf : j.toInt < 10 → (iv N 200 (40 * j.toInt.toNat + k.toInt.toNat)).toInt = f k.toInt.toNat j.toInt.toNat := fun q => by
        rw [hF.2.2 k.toInt.toNat (by omega) j.toInt.toNat (by omega)]
        show (if k.toInt.toNat < k.toInt.toNat then _ else f k.toInt.toNat) j.toInt.toNat = _
        rw [if_neg (Nat.lt_irrefl _)]
      replace h := eIloadS (mi := 187) (pc := 15) (len := 2) (i := 4) rfl l4 h
      replace h := eConst (mi := 187) (pc := 17) (len := 2) (v := 10) rfl h
      rcases eIc (mi := 187) (pc := 19) (len := 3) (t := 74) rfl rfl h with ⟨c1, h⟩ | ⟨c1, h⟩
      · replace c1 : ¬ j.toInt < 10 := mC_ge.1 c1
        replace h := eConst (mi := 187) (pc := 74) (len := 1) (v := 0) rfl h
        replace h := eIstore (mi := 187) (pc := 75) (len := 2) (i := 4) rfl (by decide) h
        have hb2 : b = knTb (f k.toInt.toNat) (iv M 199 w.toInt.toNat).toInt.toNat (iv M 198 w.toInt.toNat).toInt 10 := by rw [hb, show j.toInt.toNat = 10 by omega]
        refine ihC (k := k) (j := 0) (b := b) (mLd_st1_ref (by decide) l0) (mLd_st1_int (by decide) l1) (mLd_st1_int (by decide) l2) (mLd_st1_int (by decide) l3) mLd_st1_i k0 k8 (Int.le_refl 0) (by decide) hb2 (fun _ => rfl) (rfS_eq hF (fun d hd p hp => ?_)) hO h
        show (if d < k.toInt.toNat then _ else f d) p = (if d < k.toInt.toNat then _ else if d = k.toInt.toNat then knL (f d) _ _ 0 else f d) p
        by_cases c : d < k.toInt.toNat
        · rw [if_pos c, if_pos c]
        · rw [if_neg c, if_neg c, knL_0]
          split <;> rfl
      · replace c1 : j.toInt < 10 := mC_ge.2 c1
        replace h := eIload (mi := 187) (pc := 22) (len := 1) (i := 3) rfl l3 h
        rcases eIf (mi := 187) (pc := 23) (len := 3) (t := 62) rfl rfl h with ⟨c2, h⟩ | ⟨c2, h⟩
        · replace c2 : b = true := mB_ne.1 c2
          replace h := eConst (mi := 187) (pc := 62) (len := 1) (v := 1) rfl h
          replace h := eGoto (mi := 187) (pc := 63) (len := 3) (t := 67) rfl rfl h
          replace h := eIstore (mi := 187) (pc := 67) (len := 1) (i := 3) rfl (by decide) h
          replace h := eIinc (mi := 187) (pc := 68) (len := 3) (i := 4) (k := 1) rfl (mLd_st1_int (by decide) l4) (by decide) h
          replace h := eGoto (mi := 187) (pc := 71) (len := 3) (t := 15) rfl rfl h
          refine ihB (k := k) (j := j + 1) (b := true) (mLd_st1_ref (by decide) (mLd_st1_ref (by decide) l0)) (mLd_st1_int (by decide) (mLd_st1_int (by decide) l1)) (mLd_st1_int (by decide) (mLd_st1_int (by decide) l2)) (mLd_st1_int (by decide) mLd_st1_i) mLd_st1_i k0 k8 (by omega) (by omega) ?_ hF hO h
          rw [en (by omega)]
          unfold knTb
          rw [← hb]
          rw [c2]
          rfl
        · replace c2 : b = false := mB_ne.2 c2
          replace h := eAload (mi := 187) (pc := 26) (len := 1) (i := 0) rfl l0 h
          replace h := eGetR (a := 181) (j := 1121) (g := 199) hS (by decide) (by decide) rfl rfl rfl (mi := 187) (pc := 27) (len := 3) rfl h
          replace h := eIload (mi := 187) (pc := 30) (len := 1) (i := 1) rfl l1 h
          obtain ⟨b3, h⟩ := eIald (x := w) hS (a := 199) (by decide) (by decide) rfl (mi := 187) (pc := 31) (len := 1) rfl h
          replace h := eIload (mi := 187) (pc := 32) (len := 2) (i := 4) rfl l4 h
          replace h := eShr (mi := 187) (pc := 34) (len := 1) rfl h
          replace h := eConst (mi := 187) (pc := 35) (len := 1) (v := 1) rfl h
          replace h := eAnd (mi := 187) (pc := 36) (len := 1) rfl h
          replace h := eConst (mi := 187) (pc := 37) (len := 1) (v := 1) rfl h
          rcases eIc (mi := 187) (pc := 38) (len := 3) (t := 66) rfl rfl h with ⟨c4, h⟩ | ⟨c4, h⟩
          · replace c4 : ¬ (((iv N 199 w.toInt.toNat) >>> (j &&& 31)) &&& (1 : Int32)).toInt = 1 := mC_ne.1 c4
            replace h := eConst (mi := 187) (pc := 66) (len := 1) (v := 0) rfl h
            replace h := eIstore (mi := 187) (pc := 67) (len := 1) (i := 3) rfl (by decide) h
            replace h := eIinc (mi := 187) (pc := 68) (len := 3) (i := 4) (k := 1) rfl (mLd_st1_int (by decide) l4) (by decide) h
            replace h := eGoto (mi := 187) (pc := 71) (len := 3) (t := 15) rfl rfl h
            refine ihB (k := k) (j := j + 1) (b := false) (mLd_st1_ref (by decide) (mLd_st1_ref (by decide) l0)) (mLd_st1_int (by decide) (mLd_st1_int (by decide) l1)) (mLd_st1_int (by decide) (mLd_st1_int (by decide) l2)) (mLd_st1_int (by decide) mLd_st1_i) mLd_st1_i k0 k8 (by omega) (by omega) ?_ hF hO h
            rw [en (by omega)]
            unfold knTb
            rw [← hb]
            rw [e199] at c4
            rw [c2]
            rw [bs_0 r199.1 (by omega) j0 (by omega) c4]
            rfl
          · replace c4 : (((iv N 199 w.toInt.toNat) >>> (j &&& 31)) &&& (1 : Int32)).toInt = 1 := mC_ne.2 c4
            replace h := eAload (mi := 187) (pc := 41) (len := 1) (i := 0) rfl l0 h
            replace h := eGetR (a := 181) (j := 1122) (g := 200) hS (by decide) (by decide) rfl rfl rfl (mi := 187) (pc := 42) (len := 3) rfl h
            replace h := eConst (mi := 187) (pc := 45) (len := 2) (v := 40) rfl h
            replace h := eIload (mi := 187) (pc := 47) (len := 2) (i := 4) rfl l4 h
            replace h := eMul (mi := 187) (pc := 49) (len := 1) rfl h
            replace h := eIload (mi := 187) (pc := 50) (len := 1) (i := 2) rfl l2 h
            replace h := eAdd (mi := 187) (pc := 51) (len := 1) rfl h
            obtain ⟨b5, h⟩ := eIald (x := (((40 : Int32) * j) + k)) hS (a := 200) (by decide) (by decide) rfl (mi := 187) (pc := 52) (len := 1) rfl h
            replace h := eAload (mi := 187) (pc := 53) (len := 1) (i := 0) rfl l0 h
            replace h := eGetR (a := 181) (j := 1120) (g := 198) hS (by decide) (by decide) rfl rfl rfl (mi := 187) (pc := 54) (len := 3) rfl h
            replace h := eIload (mi := 187) (pc := 57) (len := 1) (i := 1) rfl l1 h
            obtain ⟨b6, h⟩ := eIald (x := w) hS (a := 198) (by decide) (by decide) rfl (mi := 187) (pc := 58) (len := 1) rfl h
            rcases eIc (mi := 187) (pc := 59) (len := 3) (t := 66) rfl rfl h with ⟨c7, h⟩ | ⟨c7, h⟩
            · replace c7 : (iv N 198 w.toInt.toNat).toInt < (iv N 200 (((40 : Int32) * j) + k).toInt.toNat).toInt := mC_gt.1 c7
              replace h := eConst (mi := 187) (pc := 66) (len := 1) (v := 0) rfl h
              replace h := eIstore (mi := 187) (pc := 67) (len := 1) (i := 3) rfl (by decide) h
              replace h := eIinc (mi := 187) (pc := 68) (len := 3) (i := 4) (k := 1) rfl (mLd_st1_int (by decide) l4) (by decide) h
              replace h := eGoto (mi := 187) (pc := 71) (len := 3) (t := 15) rfl rfl h
              refine ihB (k := k) (j := j + 1) (b := false) (mLd_st1_ref (by decide) (mLd_st1_ref (by decide) l0)) (mLd_st1_int (by decide) (mLd_st1_int (by decide) l1)) (mLd_st1_int (by decide) (mLd_st1_int (by decide) l2)) (mLd_st1_int (by decide) mLd_st1_i) mLd_st1_i k0 k8 (by omega) (by omega) ?_ hF hO h
              rw [en (by omega)]
              unfold knTb
              rw [← hb]
              rw [e199] at c4
              rw [c2]
              rw [ix (by omega), vf (by omega), e198] at c7
              rw [bs_1 r199.1 (by omega) j0 (by omega) c4]
              rw [decide_eq_false (show ¬ f k.toInt.toNat j.toInt.toNat ≤ (iv M 198 w.toInt.toNat).toInt by omega)]
              rfl
            · replace c7 : ¬ (iv N 198 w.toInt.toNat).toInt < (iv N 200 (((40 : Int32) * j) + k).toInt.toNat).toInt := mC_gt.2 c7
              replace h := eConst (mi := 187) (pc := 62) (len := 1) (v := 1) rfl h
              replace h := eGoto (mi := 187) (pc := 63) (len := 3) (t := 67) rfl rfl h
              replace h := eIstore (mi := 187) (pc := 67) (len := 1) (i := 3) rfl (by decide) h
              replace h := eIinc (mi := 187) (pc := 68) (len := 3) (i := 4) (k := 1) rfl (mLd_st1_int (by decide) l4) (by decide) h
              replace h := eGoto (mi := 187) (pc := 71) (len := 3) (t := 15) rfl rfl h
              refine ihB (k := k) (j := j + 1) (b := true) (mLd_st1_ref (by decide) (mLd_st1_ref (by decide) l0)) (mLd_st1_int (by decide) (mLd_st1_int (by decide) l1)) (mLd_st1_int (by decide) (mLd_st1_int (by decide) l2)) (mLd_st1_int (by decide) mLd_st1_i) mLd_st1_i k0 k8 (by omega) (by omega) ?_ hF hO h
              rw [en (by omega)]
              unfold knTb
              rw [← hb]
              rw [e199] at c4
              rw [c2]
              rw [ix (by omega), vf (by omega), e198] at c7
              rw [bs_1 r199.1 (by omega) j0 (by omega) c4]
              rw [decide_eq_true (show f k.toInt.toNat j.toInt.toNat ≤ (iv M 198 w.toInt.toNat).toInt by omega)]
              rfl
    · intro d L N r M1 k j b l0 l1 l2 l3 l4 k0 k8 j0 j8 hb hj hF hO h
      have hS := hF.1
      have ek : (k + 1).toInt = k.toInt + 1 := i32_inc k0 (by omega)
      have ej : j.toInt < 10 → (j + 1).toInt = j.toInt + 1 := fun _ => i32_inc j0 (by omega)
      have en : j.toInt < 10 → (j + 1).toInt.toNat = j.toInt.toNat + 1 := fun q => by rw [ej q]; omega
      have e198 : iv N 198 w.toInt.toNat = iv M 198 w.toInt.toNat := rfS_iv hF (by decide) (by decide)
      have e199 : iv N 199 w.toInt.toNat = iv M 199 w.toInt.toNat := rfS_iv hF (by decide) (by decide)
      replace h := eIloadS (mi := 187) (pc := 77) (len := 2) (i := 4) rfl l4 h
      replace h := eConst (mi := 187) (pc := 79) (len := 2) (v := 10) rfl h
      rcases eIc (mi := 187) (pc := 81) (len := 3) (t := 122) rfl rfl h with ⟨c1, h⟩ | ⟨c1, h⟩
      · replace c1 : ¬ j.toInt < 10 := mC_ge.1 c1
        replace h := eIinc (mi := 187) (pc := 122) (len := 3) (i := 2) (k := 1) rfl l2 (by decide) h
        replace h := eGoto (mi := 187) (pc := 125) (len := 3) (t := 2) rfl rfl h
        refine ihA (k := k + 1) (mLd_st1_ref (by decide) l0) (mLd_st1_int (by decide) l1) mLd_st1_i (by omega) (by omega) (rfS_eq hF (fun d hd p hp => ?_)) hO h
        show (if d < k.toInt.toNat then (bif knTb (f d) (iv M 199 w.toInt.toNat).toInt.toNat (iv M 198 w.toInt.toNat).toInt 10 then knL (f d) (iv M 199 w.toInt.toNat).toInt.toNat (iv M 198 w.toInt.toNat).toInt 10 else (f d)) else if d = k.toInt.toNat then knL (f d) _ _ j.toInt.toNat else f d) p = (if d < (k + 1).toInt.toNat then (bif knTb (f d) (iv M 199 w.toInt.toNat).toInt.toNat (iv M 198 w.toInt.toNat).toInt 10 then knL (f d) (iv M 199 w.toInt.toNat).toInt.toNat (iv M 198 w.toInt.toNat).toInt 10 else (f d)) else f d) p
        by_cases c : d < k.toInt.toNat
        · rw [if_pos c, if_pos (by omega)]
        · rw [if_neg c]
          by_cases cd2 : d = k.toInt.toNat
          · rw [if_pos cd2, if_pos (by omega), cd2, ← hb]
            rw [show j.toInt.toNat = 10 by omega]
            cases hbb : b with
            | true => rfl
            | false =>
              have := hj hbb
              omega
          · rw [if_neg cd2, if_neg (by omega)]
      · replace c1 : j.toInt < 10 := mC_ge.2 c1
        replace h := eIload (mi := 187) (pc := 84) (len := 1) (i := 3) rfl l3 h
        rcases eIf (mi := 187) (pc := 85) (len := 3) (t := 122) rfl rfl h with ⟨c2, h⟩ | ⟨c2, h⟩
        · replace c2 : b = false := mB_eq.1 c2
          replace h := eIinc (mi := 187) (pc := 122) (len := 3) (i := 2) (k := 1) rfl l2 (by decide) h
          replace h := eGoto (mi := 187) (pc := 125) (len := 3) (t := 2) rfl rfl h
          refine ihA (k := k + 1) (mLd_st1_ref (by decide) l0) (mLd_st1_int (by decide) l1) mLd_st1_i (by omega) (by omega) (rfS_eq hF (fun d hd p hp => ?_)) hO h
          show (if d < k.toInt.toNat then (bif knTb (f d) (iv M 199 w.toInt.toNat).toInt.toNat (iv M 198 w.toInt.toNat).toInt 10 then knL (f d) (iv M 199 w.toInt.toNat).toInt.toNat (iv M 198 w.toInt.toNat).toInt 10 else (f d)) else if d = k.toInt.toNat then knL (f d) _ _ j.toInt.toNat else f d) p = (if d < (k + 1).toInt.toNat then (bif knTb (f d) (iv M 199 w.toInt.toNat).toInt.toNat (iv M 198 w.toInt.toNat).toInt 10 then knL (f d) (iv M 199 w.toInt.toNat).toInt.toNat (iv M 198 w.toInt.toNat).toInt 10 else (f d)) else f d) p
          by_cases c : d < k.toInt.toNat
          · rw [if_pos c, if_pos (by omega)]
          · rw [if_neg c]
            by_cases cd2 : d = k.toInt.toNat
            · rw [if_pos cd2, if_pos (by omega), cd2, ← hb]
              rw [c2, hj c2]
              show knL _ _ _ 0 p = _
              rw [knL_0]
              rfl
            · rw [if_neg cd2, if_neg (by omega)]
        · replace c2 : b = true := mB_eq.2 c2
          replace h := eAload (mi := 187) (pc := 88) (len := 1) (i := 0) rfl l0 h
          replace h := eGetR (a := 181) (j := 1121) (g := 199) hS (by decide) (by decide) rfl rfl rfl (mi := 187) (pc := 89) (len := 3) rfl h
          replace h := eIload (mi := 187) (pc := 92) (len := 1) (i := 1) rfl l1 h
          obtain ⟨b3, h⟩ := eIald (x := w) hS (a := 199) (by decide) (by decide) rfl (mi := 187) (pc := 93) (len := 1) rfl h
          replace h := eIload (mi := 187) (pc := 94) (len := 2) (i := 4) rfl l4 h
          replace h := eShr (mi := 187) (pc := 96) (len := 1) rfl h
          replace h := eConst (mi := 187) (pc := 97) (len := 1) (v := 1) rfl h
          replace h := eAnd (mi := 187) (pc := 98) (len := 1) rfl h
          replace h := eConst (mi := 187) (pc := 99) (len := 1) (v := 1) rfl h
          rcases eIc (mi := 187) (pc := 100) (len := 3) (t := 116) rfl rfl h with ⟨c4, h⟩ | ⟨c4, h⟩
          · replace c4 : ¬ (((iv N 199 w.toInt.toNat) >>> (j &&& 31)) &&& (1 : Int32)).toInt = 1 := mC_ne.1 c4
            replace h := eIinc (mi := 187) (pc := 116) (len := 3) (i := 4) (k := 1) rfl l4 (by decide) h
            replace h := eGoto (mi := 187) (pc := 119) (len := 3) (t := 77) rfl rfl h
            rw [e199] at c4
            refine ihC (k := k) (j := j + 1) (b := b) (mLd_st1_ref (by decide) l0) (mLd_st1_int (by decide) l1) (mLd_st1_int (by decide) l2) (mLd_st1_int (by decide) l3) mLd_st1_i k0 k8 (by omega) (by omega) hb (fun q => by rw [c2] at q; cases q) (rfS_eq hF (fun d hd p hp => ?_)) hO h
            rw [en (by omega)]
            have tb0 := bs_0 r199.1 (by omega) j0 (by omega) c4
            show (if d < k.toInt.toNat then (bif knTb (f d) (iv M 199 w.toInt.toNat).toInt.toNat (iv M 198 w.toInt.toNat).toInt 10 then knL (f d) (iv M 199 w.toInt.toNat).toInt.toNat (iv M 198 w.toInt.toNat).toInt 10 else (f d)) else if d = k.toInt.toNat then knL (f d) (iv M 199 w.toInt.toNat).toInt.toNat (iv M 198 w.toInt.toNat).toInt j.toInt.toNat else f d) p = (if d < k.toInt.toNat then (bif knTb (f d) (iv M 199 w.toInt.toNat).toInt.toNat (iv M 198 w.toInt.toNat).toInt 10 then knL (f d) (iv M 199 w.toInt.toNat).toInt.toNat (iv M 198 w.toInt.toNat).toInt 10 else (f d)) else if d = k.toInt.toNat then knL (f d) (iv M 199 w.toInt.toNat).toInt.toNat (iv M 198 w.toInt.toNat).toInt (j.toInt.toNat + 1) else f d) p
            rw [knL_n tb0]
          · replace c4 : (((iv N 199 w.toInt.toNat) >>> (j &&& 31)) &&& (1 : Int32)).toInt = 1 := mC_ne.2 c4
            replace h := eAload (mi := 187) (pc := 103) (len := 1) (i := 0) rfl l0 h
            replace h := eIload (mi := 187) (pc := 104) (len := 2) (i := 4) rfl l4 h
            replace h := eIload (mi := 187) (pc := 106) (len := 1) (i := 2) rfl l2 h
            replace h := eAload (mi := 187) (pc := 107) (len := 1) (i := 0) rfl l0 h
            replace h := eGetR (a := 181) (j := 1120) (g := 198) hS (by decide) (by decide) rfl rfl rfl (mi := 187) (pc := 108) (len := 3) rfl h
            replace h := eIload (mi := 187) (pc := 111) (len := 1) (i := 1) rfl l1 h
            obtain ⟨b5, h⟩ := eIald (x := w) hS (a := 198) (by decide) (by decide) rfl (mi := 187) (pc := 112) (len := 1) rfl h
            obtain ⟨r6, N7, g8, h⟩ := eCall (mi := 187) (pc := 113) (len := 3) (j := 185) (as := [.ref 181, .int j, .int k, .int (iv N 198 w.toInt.toNat)]) (rest := []) rfl (Or.inr (Or.inl rfl)) (by decide) rfl rfl h
            obtain ⟨qr6, fr6⟩ := knows_en (p := j) (x := k) (v := (iv N 198 w.toInt.toNat)) hF (by omega) j0 (by omega) k0 (by omega) g8
            rw [qr6] at h
            skip
            replace h := eIinc (mi := 187) (pc := 116) (len := 3) (i := 4) (k := 1) rfl l4 (by decide) h
            replace h := eGoto (mi := 187) (pc := 119) (len := 3) (t := 77) rfl rfl h
            rw [e199] at c4
            have hO2 : ∀ i, iv N7 201 i = iv N0 201 i := fun i => (knows_201 hS g8 i).trans (hO i)
            rw [e198] at fr6
            refine ihC (k := k) (j := j + 1) (b := b) (mLd_st1_ref (by decide) l0) (mLd_st1_int (by decide) l1) (mLd_st1_int (by decide) l2) (mLd_st1_int (by decide) l3) mLd_st1_i k0 k8 (by omega) (by omega) hb (fun q => by rw [c2] at q; cases q) (rfS_eq fr6 (fun d hd p hp => ?_)) hO2 h
            rw [en (by omega)]
            have tb1 := bs_1 r199.1 (by omega) j0 (by omega) c4
            show (if d = k.toInt.toNat then knU (if d < k.toInt.toNat then (bif knTb (f d) (iv M 199 w.toInt.toNat).toInt.toNat (iv M 198 w.toInt.toNat).toInt 10 then knL (f d) (iv M 199 w.toInt.toNat).toInt.toNat (iv M 198 w.toInt.toNat).toInt 10 else (f d)) else if d = k.toInt.toNat then knL (f d) (iv M 199 w.toInt.toNat).toInt.toNat (iv M 198 w.toInt.toNat).toInt j.toInt.toNat else f d) j.toInt.toNat (iv M 198 w.toInt.toNat).toInt else (if d < k.toInt.toNat then (bif knTb (f d) (iv M 199 w.toInt.toNat).toInt.toNat (iv M 198 w.toInt.toNat).toInt 10 then knL (f d) (iv M 199 w.toInt.toNat).toInt.toNat (iv M 198 w.toInt.toNat).toInt 10 else (f d)) else if d = k.toInt.toNat then knL (f d) (iv M 199 w.toInt.toNat).toInt.toNat (iv M 198 w.toInt.toNat).toInt j.toInt.toNat else f d)) p = (if d < k.toInt.toNat then (bif knTb (f d) (iv M 199 w.toInt.toNat).toInt.toNat (iv M 198 w.toInt.toNat).toInt 10 then knL (f d) (iv M 199 w.toInt.toNat).toInt.toNat (iv M 198 w.toInt.toNat).toInt 10 else (f d)) else if d = k.toInt.toNat then knL (f d) (iv M 199 w.toInt.toNat).toInt.toNat (iv M 198 w.toInt.toNat).toInt (j.toInt.toNat + 1) else f d) p
            by_cases c2 : d = k.toInt.toNat
            · rw [if_pos c2, if_neg (show ¬ d < k.toInt.toNat by omega), if_pos c2, if_neg (show ¬ d < k.toInt.toNat by omega), if_pos c2, knL_y tb1]
            · rw [if_neg c2, if_neg c2, if_neg c2]
theorem sits_en {M N0 : Mem} {w : Int32} {f : Nat → Nat → Int} (hT : lB M) (w0 : 0 ≤ w.toInt) (w9 : w.toInt < 20) (hF : rfS M (iv M 181 0).toInt.toNat f N0) {n d : Nat} {r : Option Value} {M1 : Mem} (h : En n d 187 0 (lv_args 0 [.ref 181, .int w]) [] N0 r M1) : r = none ∧ (rfS M (iv M 181 0).toInt.toNat (fun d => if d < (iv M 181 0).toInt.toNat then (bif knTb (f d) (iv M 199 w.toInt.toNat).toInt.toNat (iv M 198 w.toInt.toNat).toInt 10 then knL (f d) (iv M 199 w.toInt.toNat).toInt.toNat (iv M 198 w.toInt.toNat).toInt 10 else (f d)) else f d)) M1 ∧ ∀ i, iv M1 201 i = iv N0 201 i := by
  have hS := hF.1
  have rD := hT.2.1
  replace h := eConst (mi := 187) (pc := 0) (len := 1) (v := 0) rfl h
  replace h := eIstore (mi := 187) (pc := 1) (len := 1) (i := 2) rfl (by decide) h
  exact (sits_lp hT w0 w9 n).1 (k := 0) rfl rfl rfl (Int.le_refl 0) rD.1 (rfS_eq hF (fun d hd p hp => by show f d p = (if d < 0 then _ else f d) p; rw [if_neg (Nat.not_lt_zero d)])) (fun _ => rfl) h
theorem eBst {n d mi pc len : Nat} {L : MLoc} {st : List Value} {M : Mem} {r : Option Value} {M1 : Mem} {a : Nat} {x v : Int32} {N : Mem} (hS : Sh M) (h2 : 2 ≤ a) (h3 : a < tEnd) (hv : v = 0 ∨ v = 1) (hN : N = mPut M a x.toInt.toNat (.int v)) (hat : mAt mi pc = some (len, .bastore)) (h : En n d mi pc L (.int v :: .int x :: .ref a :: st) M r M1) : (0 ≤ x.toInt ∧ x.toInt.toNat < tSiz (tGrp a)) ∧ En n d mi (pc + len) L st N r M1 := by
  rw [hN]
  obtain ⟨t, w, h0, ⟨u, hu⟩, hf, h⟩ := eAstv (ins := .bastore) (f := fun t v => match v with | .int x => if t = 66 then some (.int (vp_nar .byte x)) else if t = 67 then some (.int (vp_nar .boolean x)) else none | _ => none) rfl rfl hat h
  have e : w = .int v := by
    have hf : (if t = 66 then some (Value.int (vp_nar .byte v)) else if t = 67 then some (.int (vp_nar .boolean v)) else none) = some w := hf
    by_cases c : t = 66
    · rw [if_pos c] at hf
      rcases hv with e | e <;> subst e <;> cases hf <;> rfl
    · rw [if_neg c] at hf
      by_cases c2 : t = 67
      · rw [if_pos c2] at hf
        rcases hv with e | e <;> subst e <;> cases hf <;> rfl
      · rw [if_neg c2] at hf
        cases hf
  subst e
  exact ⟨⟨h0, (hS.slA h2 h3 hu).1⟩, h⟩
theorem lays5 {M : Mem} {π : Nat → Nat} (hT : lB M) (hπ : knP (fun k => (iv M 198 k).toInt) (iv M 181 16).toInt.toNat π) : ∀ (n : Nat) {d : Nat} {L : MLoc} {N : Mem} {r : Option Value} {M1 : Mem} {z : Int32} {m : Nat}, mLd L 0 = some (.ref 181) → mLd L 1 = some (.int z) → m ≤ (iv M 181 16).toInt.toNat → rfS M (iv M 181 0).toInt.toNat (fun d => (knW (fun k => (iv M 198 (π k)).toInt) (fun k => (iv M 199 (π k)).toInt.toNat) (knH (fun k => (iv M 195 k).toInt) (fun k => (iv M 196 k).toInt) (fun k => (iv M 197 k).toInt) (d : Int) (knI (iv M 185 d).toInt (iv M 186 d).toInt (iv M 188 d).toInt) (iv M 181 15).toInt.toNat) m)) N → (∀ i, i < (iv M 181 16).toInt.toNat → ((iv N 201 i).toInt = 0 ↔ ∀ k, k < m → π k ≠ i)) → ((z.toInt = -1 ∧ ∀ k, k < (iv N 181 16).toInt.toNat → ¬ (iv N 201 k).toInt = 0) ∨ ((0 ≤ z.toInt ∧ z.toInt.toNat < (iv N 181 16).toInt.toNat) ∧ (iv N 201 z.toInt.toNat).toInt = 0 ∧ ∀ k, k < (iv N 181 16).toInt.toNat → (iv N 201 k).toInt = 0 → k ≠ z.toInt.toNat → knLx (fun k => (iv N 198 k).toInt) z.toInt.toNat k)) → En n d 188 139 L [] N r M1 → r = none ∧ rfS M (iv M 181 0).toInt.toNat (fun d => (knW (fun k => (iv M 198 (π k)).toInt) (fun k => (iv M 199 (π k)).toInt.toNat) (knH (fun k => (iv M 195 k).toInt) (fun k => (iv M 196 k).toInt) (fun k => (iv M 197 k).toInt) (d : Int) (knI (iv M 185 d).toInt (iv M 186 d).toInt (iv M 188 d).toInt) (iv M 181 15).toInt.toNat) (iv M 181 16).toInt.toNat)) M1 := by
  have rD := hT.2.1
  have rW := hT.2.2.2.1
  intro n
  induction n with
  | zero => intro d L N r M1 z m _ _ _ _ _ _ h; exact (En.zero (mi := 188) (pc := 139) (len := 1) rfl h).elim
  | succ n ih =>
    intro d L N r M1 z m l0 l1 mW hF hO hZ h
    have hS := hF.1
    have eW : iv N 181 16 = iv M 181 16 := rfS_iv hF (by decide) (by decide)
    rw [eW] at hZ
    have e198 : ∀ k, iv N 198 k = iv M 198 k := fun k => rfS_iv hF (by decide) (by decide)
    replace h := eIloadS (mi := 188) (pc := 139) (len := 1) (i := 1) rfl l1 h
    replace h := eConst (mi := 188) (pc := 140) (len := 1) (v := (-1)) rfl h
    rcases eIc (mi := 188) (pc := 141) (len := 3) (t := 164) rfl rfl h with ⟨c1, h⟩ | ⟨c1, h⟩
    · replace c1 : z.toInt = (-1) := mC_eq.1 c1
      obtain ⟨e1, e2⟩ := eRetV (mi := 188) (pc := 164) (len := 1) rfl h
      have mm : m = (iv M 181 16).toInt.toNat := by
        rcases hZ with ⟨_, a⟩ | ⟨a, _⟩
        · by_cases c : m < (iv M 181 16).toInt.toNat
          · exact absurd ((hO _ (hπ.1 m c)).mpr (fun k hk q => by have := knP_inj hπ (a := k) (b := m) (by omega) c q; omega)) (a _ (hπ.1 m c))
          · omega
        · have : (-1 : Int32).toInt = -1 := rfl
          omega
      rw [mm] at hF
      rw [e2]
      exact ⟨e1, hF⟩
    · replace c1 : ¬ z.toInt = (-1) := mC_eq.2 c1
      replace h := eAload (mi := 188) (pc := 144) (len := 1) (i := 0) rfl l0 h
      replace h := eGetR (a := 181) (j := 1123) (g := 201) hS (by decide) (by decide) rfl rfl rfl (mi := 188) (pc := 145) (len := 3) rfl h
      replace h := eIload (mi := 188) (pc := 148) (len := 1) (i := 1) rfl l1 h
      replace h := eConst (mi := 188) (pc := 149) (len := 1) (v := 1) rfl h
      obtain ⟨N3, eN3⟩ : ∃ X_, X_ = mPut N 201 z.toInt.toNat (.int (1 : Int32)) := ⟨_, rfl⟩
      obtain ⟨b2, h⟩ := eBst (x := z) (N := N3) hS (a := 201) (by decide) (by decide) (Or.inr rfl) eN3 (mi := 188) (pc := 150) (len := 1) rfl h
      have hS4 : Sh N3 := by rw [eN3]; exact hS.put (by decide) (by decide) rfl
      replace h := eAload (mi := 188) (pc := 151) (len := 1) (i := 0) rfl l0 h
      replace h := eIload (mi := 188) (pc := 152) (len := 1) (i := 1) rfl l1 h
      obtain ⟨r5, N6, g7, h⟩ := eCall (mi := 188) (pc := 153) (len := 3) (j := 187) (as := [.ref 181, .int z]) (rest := []) rfl (Or.inr (Or.inl rfl)) (by decide) rfl rfl h
      have zz : (0 ≤ z.toInt ∧ z.toInt.toNat < (iv M 181 16).toInt.toNat) ∧ (iv N 201 z.toInt.toNat).toInt = 0 ∧ ∀ k, k < (iv M 181 16).toInt.toNat → (iv N 201 k).toInt = 0 → k ≠ z.toInt.toNat → knLx (fun k => (iv N 198 k).toInt) z.toInt.toNat k := by
        rcases hZ with ⟨a, _⟩ | q
        · exact absurd a (by have : (-1 : Int32).toInt = -1 := rfl; have := c1; omega)
        · exact q
      obtain ⟨⟨z0, z8⟩, zo, zl⟩ := zz
      obtain ⟨mw, em⟩ := knP_next (m := m) (b := z.toInt.toNat) hπ z8 ((hO _ z8).mp zo) (fun i hi h1 h2 => by
        have q := zl i hi ((hO i hi).mpr h1) h2
        have q : (iv N 198 z.toInt.toNat).toInt < (iv N 198 i).toInt ∨ (iv N 198 z.toInt.toNat).toInt = (iv N 198 i).toInt ∧ z.toInt.toNat < i := q
        rw [e198, e198] at q
        exact q)
      have hF2 : rfS M (iv M 181 0).toInt.toNat (fun d => (knW (fun k => (iv M 198 (π k)).toInt) (fun k => (iv M 199 (π k)).toInt.toNat) (knH (fun k => (iv M 195 k).toInt) (fun k => (iv M 196 k).toInt) (fun k => (iv M 197 k).toInt) (d : Int) (knI (iv M 185 d).toInt (iv M 186 d).toInt (iv M 188 d).toInt) (iv M 181 15).toInt.toNat) m)) N3 := ⟨hS4, fun c i a b => by rw [eN3, mSlot_put_ne (Or.inl b)]; exact hF.2.1 c i a b, fun d hd p hp => by rw [eN3, iv_put_ne (Or.inl (by decide))]; exact hF.2.2 d hd p hp⟩
      obtain ⟨qr5, fr5, or5⟩ := sits_en (w := z) hT z0 (by omega) hF2 g7
      rw [qr5] at h
      replace h := eAload (mi := 188) (pc := 156) (len := 1) (i := 0) rfl l0 h
      obtain ⟨r8, N9, g10, h⟩ := eCall (mi := 188) (pc := 157) (len := 3) (j := 186) (as := [.ref 181]) (rest := []) rfl (Or.inr (Or.inl rfl)) (by decide) rfl rfl h
      have eW2 : iv N6 181 16 = iv M 181 16 := rfS_iv fr5 (by decide) (by decide)
      obtain ⟨mr8, z2, qr8, ir8⟩ := nxw_en fr5.1 (by rw [eW2]; exact rW.1) (by rw [eW2]; exact rW.2) g10
      rw [qr8, mr8] at h
      replace h := eIstore (mi := 188) (pc := 160) (len := 1) (i := 1) rfl (by decide) h
      replace h := eGoto (mi := 188) (pc := 161) (len := 3) (t := 139) rfl rfl h
      refine ih (z := z2) (m := m + 1) (mLd_st1_ref (by decide) l0) mLd_st1_i mw (rfS_eq fr5 (fun d hd p hp => ?_)) (fun i hi => ?_) ir8 h
      · show (if d < (iv M 181 0).toInt.toNat then (bif knTb (knW (fun k => (iv M 198 (π k)).toInt) (fun k => (iv M 199 (π k)).toInt.toNat) (knH (fun k => (iv M 195 k).toInt) (fun k => (iv M 196 k).toInt) (fun k => (iv M 197 k).toInt) (d : Int) (knI (iv M 185 d).toInt (iv M 186 d).toInt (iv M 188 d).toInt) (iv M 181 15).toInt.toNat) m) (iv M 199 z.toInt.toNat).toInt.toNat (iv M 198 z.toInt.toNat).toInt 10 then knL (knW (fun k => (iv M 198 (π k)).toInt) (fun k => (iv M 199 (π k)).toInt.toNat) (knH (fun k => (iv M 195 k).toInt) (fun k => (iv M 196 k).toInt) (fun k => (iv M 197 k).toInt) (d : Int) (knI (iv M 185 d).toInt (iv M 186 d).toInt (iv M 188 d).toInt) (iv M 181 15).toInt.toNat) m) (iv M 199 z.toInt.toNat).toInt.toNat (iv M 198 z.toInt.toNat).toInt 10 else (knW (fun k => (iv M 198 (π k)).toInt) (fun k => (iv M 199 (π k)).toInt.toNat) (knH (fun k => (iv M 195 k).toInt) (fun k => (iv M 196 k).toInt) (fun k => (iv M 197 k).toInt) (d : Int) (knI (iv M 185 d).toInt (iv M 186 d).toInt (iv M 188 d).toInt) (iv M 181 15).toInt.toNat) m)) else (knW (fun k => (iv M 198 (π k)).toInt) (fun k => (iv M 199 (π k)).toInt.toNat) (knH (fun k => (iv M 195 k).toInt) (fun k => (iv M 196 k).toInt) (fun k => (iv M 197 k).toInt) (d : Int) (knI (iv M 185 d).toInt (iv M 186 d).toInt (iv M 188 d).toInt) (iv M 181 15).toInt.toNat) m)) p = (bif knTb (knW (fun k => (iv M 198 (π k)).toInt) (fun k => (iv M 199 (π k)).toInt.toNat) (knH (fun k => (iv M 195 k).toInt) (fun k => (iv M 196 k).toInt) (fun k => (iv M 197 k).toInt) (d : Int) (knI (iv M 185 d).toInt (iv M 186 d).toInt (iv M 188 d).toInt) (iv M 181 15).toInt.toNat) m) (iv M 199 (π m)).toInt.toNat (iv M 198 (π m)).toInt 10 then knL (knW (fun k => (iv M 198 (π k)).toInt) (fun k => (iv M 199 (π k)).toInt.toNat) (knH (fun k => (iv M 195 k).toInt) (fun k => (iv M 196 k).toInt) (fun k => (iv M 197 k).toInt) (d : Int) (knI (iv M 185 d).toInt (iv M 186 d).toInt (iv M 188 d).toInt) (iv M 181 15).toInt.toNat) m) (iv M 199 (π m)).toInt.toNat (iv M 198 (π m)).toInt 10 else (knW (fun k => (iv M 198 (π k)).toInt) (fun k => (iv M 199 (π k)).toInt.toNat) (knH (fun k => (iv M 195 k).toInt) (fun k => (iv M 196 k).toInt) (fun k => (iv M 197 k).toInt) (d : Int) (knI (iv M 185 d).toInt (iv M 186 d).toInt (iv M 188 d).toInt) (iv M 181 15).toInt.toNat) m)) p
        rw [if_pos hd, em]
      · rw [or5 i, eN3]
        by_cases ci : i = z.toInt.toNat
        · rw [ci, iv_put_eq hS (by decide) (by decide) (by show z.toInt.toNat < 20; omega)]
          exact ⟨fun q => absurd q (by decide), fun q => absurd em (q m (by omega))⟩
        · rw [iv_put_ne (Or.inr ci), hO i hi]
          exact ⟨fun q k hk => by
            by_cases ck : k = m
            · rw [ck, em]; exact fun w => ci w.symm
            · exact q k (by omega), fun q k hk => q k (by omega)⟩
theorem lays4 {M : Mem} {π : Nat → Nat} (hT : lB M) (hπ : knP (fun k => (iv M 198 k).toInt) (iv M 181 16).toInt.toNat π) : ∀ (n : Nat) {d : Nat} {L : MLoc} {N : Mem} {r : Option Value} {M1 : Mem} {k : Int32}, mLd L 0 = some (.ref 181) → mLd L 1 = some (.int k) → 0 ≤ k.toInt → k.toInt ≤ (iv M 181 16).toInt → rfS M (iv M 181 0).toInt.toNat (fun d => (knH (fun k => (iv M 195 k).toInt) (fun k => (iv M 196 k).toInt) (fun k => (iv M 197 k).toInt) (d : Int) (knI (iv M 185 d).toInt (iv M 186 d).toInt (iv M 188 d).toInt) (iv M 181 15).toInt.toNat)) N → (∀ i, i < k.toInt.toNat → (iv N 201 i).toInt = 0) → En n d 188 113 L [] N r M1 → r = none ∧ rfS M (iv M 181 0).toInt.toNat (fun d => (knW (fun k => (iv M 198 (π k)).toInt) (fun k => (iv M 199 (π k)).toInt.toNat) (knH (fun k => (iv M 195 k).toInt) (fun k => (iv M 196 k).toInt) (fun k => (iv M 197 k).toInt) (d : Int) (knI (iv M 185 d).toInt (iv M 186 d).toInt (iv M 188 d).toInt) (iv M 181 15).toInt.toNat) (iv M 181 16).toInt.toNat)) M1 := by
  have rD := hT.2.1
  have rW := hT.2.2.2.1
  have rH := hT.2.2.1
  intro n
  induction n with
  | zero => intro d L N r M1 k _ _ _ _ _ _ h; exact (En.zero (mi := 188) (pc := 113) (len := 1) rfl h).elim
  | succ n ih =>
    intro d L N r M1 k l0 l1 k0 k8 hF hO h
    have hS := hF.1
    have ek : k.toInt < 400 → (k + 1).toInt = k.toInt + 1 := fun _ => i32_inc k0 (by omega)
    have en : k.toInt < 400 → (k + 1).toInt.toNat = k.toInt.toNat + 1 := fun q => by rw [ek q]; omega
    have eD : iv N 181 0 = iv M 181 0 := rfS_iv hF (by decide) (by decide)
    have eW : iv N 181 16 = iv M 181 16 := rfS_iv hF (by decide) (by decide)
    have eH : iv N 181 15 = iv M 181 15 := rfS_iv hF (by decide) (by decide)
    replace h := eIloadS (mi := 188) (pc := 113) (len := 1) (i := 1) rfl l1 h
    replace h := eAload (mi := 188) (pc := 114) (len := 1) (i := 0) rfl l0 h
    replace h := eGetI (a := 181) (j := 1116) hS (by decide) (by decide) rfl (mi := 188) (pc := 115) (len := 3) rfl h
    rcases eIc (mi := 188) (pc := 118) (len := 3) (t := 134) rfl rfl h with ⟨c1, h⟩ | ⟨c1, h⟩
    · replace c1 : ¬ k.toInt < (iv N 181 16).toInt := mC_ge.1 c1; rw [eW] at c1
      replace h := eAload (mi := 188) (pc := 134) (len := 1) (i := 0) rfl l0 h
      obtain ⟨r2, N3, g4, h⟩ := eCall (mi := 188) (pc := 135) (len := 3) (j := 186) (as := [.ref 181]) (rest := []) rfl (Or.inr (Or.inl rfl)) (by decide) rfl rfl h
      obtain ⟨mr2, z2, qr2, ir2⟩ := nxw_en hS (by rw [eW]; exact rW.1) (by rw [eW]; exact rW.2) g4
      rw [qr2, mr2] at h
      replace h := eIstore (mi := 188) (pc := 138) (len := 1) (i := 1) rfl (by decide) h
      refine lays5 hT hπ n (z := z2) (m := 0) (mLd_st1_ref (by decide) l0) mLd_st1_i (Nat.zero_le _) hF (fun i hi => ⟨fun _ k hk => absurd hk (Nat.not_lt_zero k), fun _ => hO i (by omega)⟩) ir2 h
    · replace c1 : k.toInt < (iv N 181 16).toInt := mC_ge.2 c1; rw [eW] at c1
      replace h := eAload (mi := 188) (pc := 121) (len := 1) (i := 0) rfl l0 h
      replace h := eGetR (a := 181) (j := 1123) (g := 201) hS (by decide) (by decide) rfl rfl rfl (mi := 188) (pc := 122) (len := 3) rfl h
      replace h := eIload (mi := 188) (pc := 125) (len := 1) (i := 1) rfl l1 h
      replace h := eConst (mi := 188) (pc := 126) (len := 1) (v := 0) rfl h
      obtain ⟨N6, eN6⟩ : ∃ X_, X_ = mPut N 201 k.toInt.toNat (.int (0 : Int32)) := ⟨_, rfl⟩
      obtain ⟨b5, h⟩ := eBst (x := k) (N := N6) hS (a := 201) (by decide) (by decide) (Or.inl rfl) eN6 (mi := 188) (pc := 127) (len := 1) rfl h
      have hS7 : Sh N6 := by rw [eN6]; exact hS.put (by decide) (by decide) rfl
      replace h := eIinc (mi := 188) (pc := 128) (len := 3) (i := 1) (k := 1) rfl l1 (by decide) h
      replace h := eGoto (mi := 188) (pc := 131) (len := 3) (t := 113) rfl rfl h
      refine ih (k := k + 1) (mLd_st1_ref (by decide) l0) mLd_st1_i (by omega) (by omega) ⟨hS7, fun c i a b => by rw [eN6, mSlot_put_ne (Or.inl b)]; exact hF.2.1 c i a b, fun d hd p hp => by rw [eN6, iv_put_ne (Or.inl (by decide))]; exact hF.2.2 d hd p hp⟩ (fun i hi => ?_) h
      rw [en (by omega)] at hi
      rw [eN6]
      by_cases ci : i = k.toInt.toNat
      · rw [ci, iv_put_eq hS (by decide) (by decide) (by show k.toInt.toNat < 20; omega)]
        rfl
      · rw [iv_put_ne (Or.inr ci)]; exact hO i (by omega)
theorem lays3 {M : Mem} {π : Nat → Nat} (hT : lB M) (hπ : knP (fun k => (iv M 198 k).toInt) (iv M 181 16).toInt.toNat π) : ∀ (n : Nat) {d : Nat} {L : MLoc} {N : Mem} {r : Option Value} {M1 : Mem} {k : Int32}, mLd L 0 = some (.ref 181) → mLd L 1 = some (.int k) → 0 ≤ k.toInt → k.toInt ≤ (iv M 181 15).toInt → rfS M (iv M 181 0).toInt.toNat (fun d => (knH (fun k => (iv M 195 k).toInt) (fun k => (iv M 196 k).toInt) (fun k => (iv M 197 k).toInt) (d : Int) (knI (iv M 185 d).toInt (iv M 186 d).toInt (iv M 188 d).toInt) k.toInt.toNat)) N → En n d 188 75 L [] N r M1 → r = none ∧ rfS M (iv M 181 0).toInt.toNat (fun d => (knW (fun k => (iv M 198 (π k)).toInt) (fun k => (iv M 199 (π k)).toInt.toNat) (knH (fun k => (iv M 195 k).toInt) (fun k => (iv M 196 k).toInt) (fun k => (iv M 197 k).toInt) (d : Int) (knI (iv M 185 d).toInt (iv M 186 d).toInt (iv M 188 d).toInt) (iv M 181 15).toInt.toNat) (iv M 181 16).toInt.toNat)) M1 := by
  have rD := hT.2.1
  have rW := hT.2.2.2.1
  have rH := hT.2.2.1
  intro n
  induction n with
  | zero => intro d L N r M1 k _ _ _ _ _ h; exact (En.zero (mi := 188) (pc := 75) (len := 1) rfl h).elim
  | succ n ih =>
    intro d L N r M1 k l0 l1 k0 k8 hF h
    have hS := hF.1
    have ek : k.toInt < 400 → (k + 1).toInt = k.toInt + 1 := fun _ => i32_inc k0 (by omega)
    have en : k.toInt < 400 → (k + 1).toInt.toNat = k.toInt.toNat + 1 := fun q => by rw [ek q]; omega
    have eD : iv N 181 0 = iv M 181 0 := rfS_iv hF (by decide) (by decide)
    have eW : iv N 181 16 = iv M 181 16 := rfS_iv hF (by decide) (by decide)
    have eH : iv N 181 15 = iv M 181 15 := rfS_iv hF (by decide) (by decide)
    replace h := eIloadS (mi := 188) (pc := 75) (len := 1) (i := 1) rfl l1 h
    replace h := eAload (mi := 188) (pc := 76) (len := 1) (i := 0) rfl l0 h
    replace h := eGetI (a := 181) (j := 1115) hS (by decide) (by decide) rfl (mi := 188) (pc := 77) (len := 3) rfl h
    rcases eIc (mi := 188) (pc := 80) (len := 3) (t := 111) rfl rfl h with ⟨c1, h⟩ | ⟨c1, h⟩
    · replace c1 : ¬ k.toInt < (iv N 181 15).toInt := mC_ge.1 c1; rw [eH] at c1
      replace h := eConst (mi := 188) (pc := 111) (len := 1) (v := 0) rfl h
      replace h := eIstore (mi := 188) (pc := 112) (len := 1) (i := 1) rfl (by decide) h
      rw [show k.toInt.toNat = (iv M 181 15).toInt.toNat by omega] at hF
      exact lays4 hT hπ n (k := 0) (mLd_st1_ref (by decide) l0) mLd_st1_i (Int.le_refl 0) rW.1 hF (fun i hi => absurd hi (Nat.not_lt_zero i)) h
    · replace c1 : k.toInt < (iv N 181 15).toInt := mC_ge.2 c1; rw [eH] at c1
      replace h := eAload (mi := 188) (pc := 83) (len := 1) (i := 0) rfl l0 h
      replace h := eAload (mi := 188) (pc := 84) (len := 1) (i := 0) rfl l0 h
      replace h := eGetR (a := 181) (j := 1117) (g := 195) hS (by decide) (by decide) rfl rfl rfl (mi := 188) (pc := 85) (len := 3) rfl h
      replace h := eIload (mi := 188) (pc := 88) (len := 1) (i := 1) rfl l1 h
      obtain ⟨b2, h⟩ := eIald (x := k) hS (a := 195) (by decide) (by decide) rfl (mi := 188) (pc := 89) (len := 1) rfl h
      replace h := eAload (mi := 188) (pc := 90) (len := 1) (i := 0) rfl l0 h
      replace h := eGetR (a := 181) (j := 1118) (g := 196) hS (by decide) (by decide) rfl rfl rfl (mi := 188) (pc := 91) (len := 3) rfl h
      replace h := eIload (mi := 188) (pc := 94) (len := 1) (i := 1) rfl l1 h
      obtain ⟨b3, h⟩ := eIald (x := k) hS (a := 196) (by decide) (by decide) rfl (mi := 188) (pc := 95) (len := 1) rfl h
      replace h := eAload (mi := 188) (pc := 96) (len := 1) (i := 0) rfl l0 h
      replace h := eGetR (a := 181) (j := 1119) (g := 197) hS (by decide) (by decide) rfl rfl rfl (mi := 188) (pc := 97) (len := 3) rfl h
      replace h := eIload (mi := 188) (pc := 100) (len := 1) (i := 1) rfl l1 h
      obtain ⟨b4, h⟩ := eIald (x := k) hS (a := 197) (by decide) (by decide) rfl (mi := 188) (pc := 101) (len := 1) rfl h
      obtain ⟨r5, N6, g7, h⟩ := eCall (mi := 188) (pc := 102) (len := 3) (j := 185) (as := [.ref 181, .int (iv N 195 k.toInt.toNat), .int (iv N 196 k.toInt.toNat), .int (iv N 197 k.toInt.toNat)]) (rest := []) rfl (Or.inr (Or.inl rfl)) (by decide) rfl rfl h
      have r195 := ((hT.2.2.2.2 k.toInt.toNat).2.1 (by show _ < 60; omega)).1
      have e195 : iv N 195 k.toInt.toNat = iv M 195 k.toInt.toNat := rfS_iv hF (by decide) (by decide)
      have r196 := ((hT.2.2.2.2 k.toInt.toNat).2.1 (by show _ < 60; omega)).2.1
      have e196 : iv N 196 k.toInt.toNat = iv M 196 k.toInt.toNat := rfS_iv hF (by decide) (by decide)
      have r197 := ((hT.2.2.2.2 k.toInt.toNat).2.1 (by show _ < 60; omega)).2.2
      have e197 : iv N 197 k.toInt.toNat = iv M 197 k.toInt.toNat := rfS_iv hF (by decide) (by decide)
      rw [e195, e196, e197] at g7
      obtain ⟨qr5, fr5⟩ := knows_en hF (by omega) r195.1 (by omega) r196.1 (by omega) g7
      rw [qr5] at h
      replace h := eIinc (mi := 188) (pc := 105) (len := 3) (i := 1) (k := 1) rfl l1 (by decide) h
      replace h := eGoto (mi := 188) (pc := 108) (len := 3) (t := 75) rfl rfl h
      refine ih (k := k + 1) (mLd_st1_ref (by decide) l0) mLd_st1_i (by omega) (by omega) (rfS_eq fr5 (fun d hd p hp => ?_)) h
      rw [en (by omega)]
      show (if d = (iv M 196 k.toInt.toNat).toInt.toNat then knU (knH (fun k => (iv M 195 k).toInt) (fun k => (iv M 196 k).toInt) (fun k => (iv M 197 k).toInt) (d : Int) (knI (iv M 185 d).toInt (iv M 186 d).toInt (iv M 188 d).toInt) k.toInt.toNat) (iv M 195 k.toInt.toNat).toInt.toNat (iv M 197 k.toInt.toNat).toInt else (knH (fun k => (iv M 195 k).toInt) (fun k => (iv M 196 k).toInt) (fun k => (iv M 197 k).toInt) (d : Int) (knI (iv M 185 d).toInt (iv M 186 d).toInt (iv M 188 d).toInt) k.toInt.toNat)) p = (if (iv M 196 k.toInt.toNat).toInt = (d : Int) then knU (knH (fun k => (iv M 195 k).toInt) (fun k => (iv M 196 k).toInt) (fun k => (iv M 197 k).toInt) (d : Int) (knI (iv M 185 d).toInt (iv M 186 d).toInt (iv M 188 d).toInt) k.toInt.toNat) (iv M 195 k.toInt.toNat).toInt.toNat (iv M 197 k.toInt.toNat).toInt else (knH (fun k => (iv M 195 k).toInt) (fun k => (iv M 196 k).toInt) (fun k => (iv M 197 k).toInt) (d : Int) (knI (iv M 185 d).toInt (iv M 186 d).toInt (iv M 188 d).toInt) k.toInt.toNat)) p
      by_cases cd : d = (iv M 196 k.toInt.toNat).toInt.toNat
      · rw [if_pos cd, if_pos (show (iv M 196 k.toInt.toNat).toInt = (d : Int) by omega)]
      · rw [if_neg cd, if_neg (show ¬ (iv M 196 k.toInt.toNat).toInt = (d : Int) by omega)]
theorem knI_2 {g t v : Int} (g0 : 0 ≤ g) (t0 : 0 ≤ t) (v0 : 0 ≤ v) (v9 : v ≤ 999) {p : Nat} : knU (knU (fun _ => 1000000) g.toNat v) t.toNat v p = knI g t v p := by
  unfold knU knI
  dsimp only
  by_cases a : p = t.toNat
  · rw [if_pos a, if_pos (show (p : Int) = g ∨ (p : Int) = t by omega)]
    split <;> split <;> omega
  · rw [if_neg a]
    by_cases b : p = g.toNat
    · rw [if_pos b, if_pos (show (p : Int) = g ∨ (p : Int) = t by omega), if_pos (by omega)]
    · rw [if_neg b, if_neg (show ¬ ((p : Int) = g ∨ (p : Int) = t) by omega)]
theorem lays2 {M : Mem} {π : Nat → Nat} (hT : lB M) (hπ : knP (fun k => (iv M 198 k).toInt) (iv M 181 16).toInt.toNat π) : ∀ (n : Nat) {d : Nat} {L : MLoc} {N : Mem} {r : Option Value} {M1 : Mem} {k : Int32}, mLd L 0 = some (.ref 181) → mLd L 1 = some (.int k) → 0 ≤ k.toInt → k.toInt ≤ (iv M 181 0).toInt → rfS M (iv M 181 0).toInt.toNat (fun d => (if d < k.toInt.toNat then (knI (iv M 185 d).toInt (iv M 186 d).toInt (iv M 188 d).toInt) else fun _ => 1000000)) N → En n d 188 25 L [] N r M1 → r = none ∧ rfS M (iv M 181 0).toInt.toNat (fun d => (knW (fun k => (iv M 198 (π k)).toInt) (fun k => (iv M 199 (π k)).toInt.toNat) (knH (fun k => (iv M 195 k).toInt) (fun k => (iv M 196 k).toInt) (fun k => (iv M 197 k).toInt) (d : Int) (knI (iv M 185 d).toInt (iv M 186 d).toInt (iv M 188 d).toInt) (iv M 181 15).toInt.toNat) (iv M 181 16).toInt.toNat)) M1 := by
  have rD := hT.2.1
  have rW := hT.2.2.2.1
  have rH := hT.2.2.1
  intro n
  induction n with
  | zero => intro d L N r M1 k _ _ _ _ _ h; exact (En.zero (mi := 188) (pc := 25) (len := 1) rfl h).elim
  | succ n ih =>
    intro d L N r M1 k l0 l1 k0 k8 hF h
    have hS := hF.1
    have ek : k.toInt < 400 → (k + 1).toInt = k.toInt + 1 := fun _ => i32_inc k0 (by omega)
    have en : k.toInt < 400 → (k + 1).toInt.toNat = k.toInt.toNat + 1 := fun q => by rw [ek q]; omega
    have eD : iv N 181 0 = iv M 181 0 := rfS_iv hF (by decide) (by decide)
    have eW : iv N 181 16 = iv M 181 16 := rfS_iv hF (by decide) (by decide)
    have eH : iv N 181 15 = iv M 181 15 := rfS_iv hF (by decide) (by decide)
    replace h := eIloadS (mi := 188) (pc := 25) (len := 1) (i := 1) rfl l1 h
    replace h := eAload (mi := 188) (pc := 26) (len := 1) (i := 0) rfl l0 h
    replace h := eGetI (a := 181) (j := 1100) hS (by decide) (by decide) rfl (mi := 188) (pc := 27) (len := 3) rfl h
    rcases eIc (mi := 188) (pc := 30) (len := 3) (t := 73) rfl rfl h with ⟨c1, h⟩ | ⟨c1, h⟩
    · replace c1 : ¬ k.toInt < (iv N 181 0).toInt := mC_ge.1 c1; rw [eD] at c1
      replace h := eConst (mi := 188) (pc := 73) (len := 1) (v := 0) rfl h
      replace h := eIstore (mi := 188) (pc := 74) (len := 1) (i := 1) rfl (by decide) h
      have hF2 : rfS M (iv M 181 0).toInt.toNat (fun d => (knH (fun k => (iv M 195 k).toInt) (fun k => (iv M 196 k).toInt) (fun k => (iv M 197 k).toInt) (d : Int) (knI (iv M 185 d).toInt (iv M 186 d).toInt (iv M 188 d).toInt) 0)) N := rfS_eq hF (fun d hd p hp => by rw [if_pos (show d < k.toInt.toNat by omega)]; rfl)
      exact lays3 hT hπ n (k := 0) (mLd_st1_ref (by decide) l0) mLd_st1_i (Int.le_refl 0) rH.1 hF2 h
    · replace c1 : k.toInt < (iv N 181 0).toInt := mC_ge.2 c1; rw [eD] at c1
      replace h := eAload (mi := 188) (pc := 33) (len := 1) (i := 0) rfl l0 h
      replace h := eAload (mi := 188) (pc := 34) (len := 1) (i := 0) rfl l0 h
      replace h := eGetR (a := 181) (j := 1105) (g := 185) hS (by decide) (by decide) rfl rfl rfl (mi := 188) (pc := 35) (len := 3) rfl h
      replace h := eIload (mi := 188) (pc := 38) (len := 1) (i := 1) rfl l1 h
      obtain ⟨b2, h⟩ := eIald (x := k) hS (a := 185) (by decide) (by decide) rfl (mi := 188) (pc := 39) (len := 1) rfl h
      replace h := eIload (mi := 188) (pc := 40) (len := 1) (i := 1) rfl l1 h
      replace h := eAload (mi := 188) (pc := 41) (len := 1) (i := 0) rfl l0 h
      replace h := eGetR (a := 181) (j := 1108) (g := 188) hS (by decide) (by decide) rfl rfl rfl (mi := 188) (pc := 42) (len := 3) rfl h
      replace h := eIload (mi := 188) (pc := 45) (len := 1) (i := 1) rfl l1 h
      obtain ⟨b3, h⟩ := eIald (x := k) hS (a := 188) (by decide) (by decide) rfl (mi := 188) (pc := 46) (len := 1) rfl h
      obtain ⟨r4, N5, g6, h⟩ := eCall (mi := 188) (pc := 47) (len := 3) (j := 185) (as := [.ref 181, .int (iv N 185 k.toInt.toNat), .int k, .int (iv N 188 k.toInt.toNat)]) (rest := []) rfl (Or.inr (Or.inl rfl)) (by decide) rfl rfl h
      have r185 := ((hT.2.2.2.2 k.toInt.toNat).1 (by show _ < 40; omega)).1
      have r186 := ((hT.2.2.2.2 k.toInt.toNat).1 (by show _ < 40; omega)).2.1
      have r188 := ((hT.2.2.2.2 k.toInt.toNat).1 (by show _ < 40; omega)).2.2
      have e185 : iv N 185 k.toInt.toNat = iv M 185 k.toInt.toNat := rfS_iv hF (by decide) (by decide)
      have e188 : iv N 188 k.toInt.toNat = iv M 188 k.toInt.toNat := rfS_iv hF (by decide) (by decide)
      rw [e185, e188] at g6
      obtain ⟨qr4, fr4⟩ := knows_en hF (by omega) r185.1 (by omega) k0 (by omega) g6
      rw [qr4] at h
      replace h := eAload (mi := 188) (pc := 50) (len := 1) (i := 0) rfl l0 h
      replace h := eAload (mi := 188) (pc := 51) (len := 1) (i := 0) rfl l0 h
      replace h := eGetR (a := 181) (j := 1106) (g := 186) fr4.1 (by decide) (by decide) rfl rfl rfl (mi := 188) (pc := 52) (len := 3) rfl h
      replace h := eIload (mi := 188) (pc := 55) (len := 1) (i := 1) rfl l1 h
      obtain ⟨b7, h⟩ := eIald (x := k) fr4.1 (a := 186) (by decide) (by decide) rfl (mi := 188) (pc := 56) (len := 1) rfl h
      replace h := eIload (mi := 188) (pc := 57) (len := 1) (i := 1) rfl l1 h
      replace h := eAload (mi := 188) (pc := 58) (len := 1) (i := 0) rfl l0 h
      replace h := eGetR (a := 181) (j := 1108) (g := 188) fr4.1 (by decide) (by decide) rfl rfl rfl (mi := 188) (pc := 59) (len := 3) rfl h
      replace h := eIload (mi := 188) (pc := 62) (len := 1) (i := 1) rfl l1 h
      obtain ⟨b8, h⟩ := eIald (x := k) fr4.1 (a := 188) (by decide) (by decide) rfl (mi := 188) (pc := 63) (len := 1) rfl h
      obtain ⟨r9, N10, g11, h⟩ := eCall (mi := 188) (pc := 64) (len := 3) (j := 185) (as := [.ref 181, .int (iv N5 186 k.toInt.toNat), .int k, .int (iv N5 188 k.toInt.toNat)]) (rest := []) rfl (Or.inr (Or.inl rfl)) (by decide) rfl rfl h
      have e186b : iv N5 186 k.toInt.toNat = iv M 186 k.toInt.toNat := rfS_iv fr4 (by decide) (by decide)
      have e188b : iv N5 188 k.toInt.toNat = iv M 188 k.toInt.toNat := rfS_iv fr4 (by decide) (by decide)
      rw [e186b, e188b] at g11
      obtain ⟨qr9, fr9⟩ := knows_en fr4 (by omega) r186.1 (by omega) k0 (by omega) g11
      rw [qr9] at h
      replace h := eIinc (mi := 188) (pc := 67) (len := 3) (i := 1) (k := 1) rfl l1 (by decide) h
      replace h := eGoto (mi := 188) (pc := 70) (len := 3) (t := 25) rfl rfl h
      refine ih (k := k + 1) (mLd_st1_ref (by decide) l0) mLd_st1_i (by omega) (by omega) (rfS_eq fr9 (fun d hd p hp => ?_)) h
      rw [en (by omega)]
      show (if d = k.toInt.toNat then knU (if d = k.toInt.toNat then knU (if d < k.toInt.toNat then (knI (iv M 185 d).toInt (iv M 186 d).toInt (iv M 188 d).toInt) else fun _ => 1000000) (iv M 185 k.toInt.toNat).toInt.toNat (iv M 188 k.toInt.toNat).toInt else (if d < k.toInt.toNat then (knI (iv M 185 d).toInt (iv M 186 d).toInt (iv M 188 d).toInt) else fun _ => 1000000)) (iv M 186 k.toInt.toNat).toInt.toNat (iv M 188 k.toInt.toNat).toInt else (if d = k.toInt.toNat then knU (if d < k.toInt.toNat then (knI (iv M 185 d).toInt (iv M 186 d).toInt (iv M 188 d).toInt) else fun _ => 1000000) (iv M 185 k.toInt.toNat).toInt.toNat (iv M 188 k.toInt.toNat).toInt else (if d < k.toInt.toNat then (knI (iv M 185 d).toInt (iv M 186 d).toInt (iv M 188 d).toInt) else fun _ => 1000000))) p = (if d < (k.toInt.toNat + 1) then (knI (iv M 185 d).toInt (iv M 186 d).toInt (iv M 188 d).toInt) else fun _ => 1000000) p
      by_cases cd : d = k.toInt.toNat
      · rw [if_pos cd, if_pos cd, if_neg (show ¬ d < k.toInt.toNat by omega), if_pos (show d < k.toInt.toNat + 1 by omega)]
        rw [cd]
        exact knI_2 (by omega) (by omega) (by omega) (by omega)
      · rw [if_neg cd, if_neg cd]
        by_cases c2 : d < k.toInt.toNat
        · rw [if_pos c2, if_pos (show d < k.toInt.toNat + 1 by omega)]
        · rw [if_neg c2, if_neg (show ¬ d < k.toInt.toNat + 1 by omega)]
theorem lays1 {M : Mem} {π : Nat → Nat} (hT : lB M) (hπ : knP (fun k => (iv M 198 k).toInt) (iv M 181 16).toInt.toNat π) : ∀ (n : Nat) {d : Nat} {L : MLoc} {N : Mem} {r : Option Value} {M1 : Mem} {k : Int32}, mLd L 0 = some (.ref 181) → mLd L 1 = some (.int k) → 0 ≤ k.toInt → k.toInt ≤ 400 → rfS M 0 (fun _ _ => 0) N → (∀ i, i < k.toInt.toNat → (iv N 200 i).toInt = 1000000) → En n d 188 2 L [] N r M1 → r = none ∧ rfS M (iv M 181 0).toInt.toNat (fun d => (knW (fun k => (iv M 198 (π k)).toInt) (fun k => (iv M 199 (π k)).toInt.toNat) (knH (fun k => (iv M 195 k).toInt) (fun k => (iv M 196 k).toInt) (fun k => (iv M 197 k).toInt) (d : Int) (knI (iv M 185 d).toInt (iv M 186 d).toInt (iv M 188 d).toInt) (iv M 181 15).toInt.toNat) (iv M 181 16).toInt.toNat)) M1 := by
  have rD := hT.2.1
  have rW := hT.2.2.2.1
  have rH := hT.2.2.1
  intro n
  induction n with
  | zero => intro d L N r M1 k _ _ _ _ _ _ h; exact (En.zero (mi := 188) (pc := 2) (len := 1) rfl h).elim
  | succ n ih =>
    intro d L N r M1 k l0 l1 k0 k8 hF hO h
    have hS := hF.1
    have ek : k.toInt < 400 → (k + 1).toInt = k.toInt + 1 := fun _ => i32_inc k0 (by omega)
    have en : k.toInt < 400 → (k + 1).toInt.toNat = k.toInt.toNat + 1 := fun q => by rw [ek q]; omega
    have eD : iv N 181 0 = iv M 181 0 := rfS_iv hF (by decide) (by decide)
    have eW : iv N 181 16 = iv M 181 16 := rfS_iv hF (by decide) (by decide)
    have eH : iv N 181 15 = iv M 181 15 := rfS_iv hF (by decide) (by decide)
    replace h := eIloadS (mi := 188) (pc := 2) (len := 1) (i := 1) rfl l1 h
    replace h := eConst (mi := 188) (pc := 3) (len := 3) (v := 400) rfl h
    rcases eIc (mi := 188) (pc := 6) (len := 3) (t := 23) rfl rfl h with ⟨c1, h⟩ | ⟨c1, h⟩
    · replace c1 : ¬ k.toInt < 400 := mC_ge.1 c1
      replace h := eConst (mi := 188) (pc := 23) (len := 1) (v := 0) rfl h
      replace h := eIstore (mi := 188) (pc := 24) (len := 1) (i := 1) rfl (by decide) h
      have hF2 : rfS M (iv M 181 0).toInt.toNat (fun d => (if d < (0 : Int32).toInt.toNat then (knI (iv M 185 d).toInt (iv M 186 d).toInt (iv M 188 d).toInt) else fun _ => 1000000)) N := ⟨hF.1, hF.2.1, fun d hd p hp => by rw [hO _ (by omega)]; show _ = (if d < 0 then _ else fun _ => 1000000) p; rw [if_neg (Nat.not_lt_zero d)]⟩
      exact lays2 hT hπ n (k := 0) (mLd_st1_ref (by decide) l0) mLd_st1_i (Int.le_refl 0) rD.1 hF2 h
    · replace c1 : k.toInt < 400 := mC_ge.2 c1
      replace h := eAload (mi := 188) (pc := 9) (len := 1) (i := 0) rfl l0 h
      replace h := eGetR (a := 181) (j := 1122) (g := 200) hS (by decide) (by decide) rfl rfl rfl (mi := 188) (pc := 10) (len := 3) rfl h
      replace h := eIload (mi := 188) (pc := 13) (len := 1) (i := 1) rfl l1 h
      replace h := eConst (mi := 188) (pc := 14) (len := 2) (v := 1000000) rfl h
      obtain ⟨N3, eN3⟩ : ∃ X_, X_ = mPut N 200 k.toInt.toNat (.int (1000000 : Int32)) := ⟨_, rfl⟩
      obtain ⟨b2, h⟩ := eIast (x := k) (N := N3) hS (a := 200) (by decide) (by decide) eN3 (mi := 188) (pc := 16) (len := 1) rfl h
      have hS4 : Sh N3 := by rw [eN3]; exact hS.put (by decide) (by decide) rfl
      replace h := eIinc (mi := 188) (pc := 17) (len := 3) (i := 1) (k := 1) rfl l1 (by decide) h
      replace h := eGoto (mi := 188) (pc := 20) (len := 3) (t := 2) rfl rfl h
      refine ih (k := k + 1) (mLd_st1_ref (by decide) l0) mLd_st1_i (by omega) (by omega) ⟨hS4, fun c i a b => by rw [eN3, mSlot_put_ne (Or.inl a)]; exact hF.2.1 c i a b, fun d hd => absurd hd (Nat.not_lt_zero d)⟩ (fun i hi => ?_) h
      rw [en (by omega)] at hi
      rw [eN3]
      by_cases ci : i = k.toInt.toNat
      · rw [ci, iv_put_eq hS (by decide) (by decide) (by show k.toInt.toNat < 400; omega)]
        rfl
      · rw [iv_put_ne (Or.inr ci)]; exact hO i (by omega)
theorem lays_en {M : Mem} {π : Nat → Nat} (hT : lB M) (hπ : knP (fun k => (iv M 198 k).toInt) (iv M 181 16).toInt.toNat π) {n d : Nat} {r : Option Value} {M1 : Mem} (h : En n d 188 0 (lv_args 0 [.ref 181]) [] M r M1) : r = none ∧ rfS M (iv M 181 0).toInt.toNat (fun d => (knW (fun k => (iv M 198 (π k)).toInt) (fun k => (iv M 199 (π k)).toInt.toNat) (knH (fun k => (iv M 195 k).toInt) (fun k => (iv M 196 k).toInt) (fun k => (iv M 197 k).toInt) (d : Int) (knI (iv M 185 d).toInt (iv M 186 d).toInt (iv M 188 d).toInt) (iv M 181 15).toInt.toNat) (iv M 181 16).toInt.toNat)) M1 := by
  have hS := hT.1
  replace h := eConst (mi := 188) (pc := 0) (len := 1) (v := 0) rfl h
  replace h := eIstore (mi := 188) (pc := 1) (len := 1) (i := 1) rfl (by decide) h
  exact lays1 hT hπ n (k := 0) rfl rfl (Int.le_refl 0) (by decide) ⟨hS, fun _ _ _ _ => rfl, fun d hd => absurd hd (Nat.not_lt_zero d)⟩ (fun i hi => absurd hi (Nat.not_lt_zero i)) h
/-- what known answers -/
def knA (g : Bool) (k v : Int) : Prop := (g = false ∧ v = -1) ∨ (g = true ∧ k = 1000000 ∧ v = -2) ∨ (g = true ∧ k ≠ 1000000 ∧ v = k)
theorem knownR_en {s : List Int32} {M : Mem} {π : Nat → Nat} {p x : Int32} (hT : aTp s M) (hπ : knP (fun k => (iv M 198 k).toInt) (iv M 181 16).toInt.toNat π) {n d : Nat} {r : Option Value} {M1 : Mem} (h : En n d 189 0 (lv_args 0 [.ref 181, .int p, .int x]) [] M r M1) : ∃ v : Int32, r = some (.int v) ∧ knA (rPer p && rDeed M x) (knW (fun k => (iv M 198 (π k)).toInt) (fun k => (iv M 199 (π k)).toInt.toNat) (knH (fun k => (iv M 195 k).toInt) (fun k => (iv M 196 k).toInt) (fun k => (iv M 197 k).toInt) (x.toInt.toNat : Int) (knI (iv M 185 x.toInt.toNat).toInt (iv M 186 x.toInt.toNat).toInt (iv M 188 x.toInt.toNat).toInt) (iv M 181 15).toInt.toNat) (iv M 181 16).toInt.toNat p.toInt.toNat) v.toInt := by
  have hS := Sh.of hT
  replace h := eIload (mi := 189) (pc := 0) (len := 1) (i := 1) rfl rfl h
  replace h := eCallP (mi := 189) (pc := 1) (len := 3) (j := 162) (as := [.int p]) (rest := []) rfl (Or.inl rfl) (by decide) rfl rfl (fun _ _ _ _ g => rPer_en hS g) h
  rcases eIf (mi := 189) (pc := 4) (len := 3) (t := 15) rfl rfl h with ⟨c1, h⟩ | ⟨c1, h⟩
  · replace c1 : rPer p = false := mB_eq.1 c1
    replace h := eConst (mi := 189) (pc := 15) (len := 1) (v := (-1)) rfl h
    obtain ⟨e1, e2⟩ := eRetI (mi := 189) (pc := 16) (len := 1) rfl h
    refine ⟨_, e1, Or.inl ⟨?_, rfl⟩⟩
    simp only [c1, Bool.true_and, Bool.false_and, Bool.and_true, Bool.and_false]
  · replace c1 : rPer p = true := mB_eq.2 c1
    replace h := eAload (mi := 189) (pc := 7) (len := 1) (i := 0) rfl rfl h
    replace h := eIload (mi := 189) (pc := 8) (len := 1) (i := 2) rfl rfl h
    replace h := eCallP (mi := 189) (pc := 9) (len := 3) (j := 164) (as := [.ref 181, .int x]) (rest := []) rfl (Or.inr (Or.inl rfl)) (by decide) rfl rfl (fun _ _ _ _ g => rDeed_en hS g) h
    rcases eIf (mi := 189) (pc := 12) (len := 3) (t := 17) rfl rfl h with ⟨c2, h⟩ | ⟨c2, h⟩
    · replace c2 : rDeed M x = true := mB_ne.1 c2
      replace h := eAload (mi := 189) (pc := 17) (len := 1) (i := 0) rfl rfl h
      obtain ⟨r3, N4, g5, h⟩ := eCall (mi := 189) (pc := 18) (len := 3) (j := 188) (as := [.ref 181]) (rest := []) rfl (Or.inr (Or.inl rfl)) (by decide) rfl rfl h
      obtain ⟨qr3, fr3⟩ := lays_en (lB_of hT) hπ g5
      rw [qr3] at h
      have gp := rPer_rng c1
      have gx := rDeed_rng hT c2
      have e8 : ((40 : Int32) * p).toInt = 40 * p.toInt := i32_mul (x := 40) (by show -2147483648 ≤ 40 * p.toInt; omega) (by show 40 * p.toInt ≤ _; omega)
      have e9 : (((40 : Int32) * p) + x).toInt = 40 * p.toInt + x.toInt := by rw [i32_add (by omega) (by omega), e8]
      have en : (((40 : Int32) * p) + x).toInt.toNat = 40 * p.toInt.toNat + x.toInt.toNat := by omega
      have vv := fr3.2.2 x.toInt.toNat (by omega) p.toInt.toNat (by omega)
      replace h := eAload (mi := 189) (pc := 21) (len := 1) (i := 0) rfl rfl h
      replace h := eGetR (a := 181) (j := 1122) (g := 200) fr3.1 (by decide) (by decide) rfl rfl rfl (mi := 189) (pc := 22) (len := 3) rfl h
      replace h := eConst (mi := 189) (pc := 25) (len := 2) (v := 40) rfl h
      replace h := eIload (mi := 189) (pc := 27) (len := 1) (i := 1) rfl rfl h
      replace h := eMul (mi := 189) (pc := 28) (len := 1) rfl h
      replace h := eIload (mi := 189) (pc := 29) (len := 1) (i := 2) rfl rfl h
      replace h := eAdd (mi := 189) (pc := 30) (len := 1) rfl h
      obtain ⟨b6, h⟩ := eIald (x := (((40 : Int32) * p) + x)) fr3.1 (a := 200) (by decide) (by decide) rfl (mi := 189) (pc := 31) (len := 1) rfl h
      replace h := eConst (mi := 189) (pc := 32) (len := 2) (v := 1000000) rfl h
      rcases eIc (mi := 189) (pc := 34) (len := 3) (t := 42) rfl rfl h with ⟨c7, h⟩ | ⟨c7, h⟩
      · replace c7 : ¬ (iv N4 200 (((40 : Int32) * p) + x).toInt.toNat).toInt = 1000000 := mC_ne.1 c7
        replace h := eAload (mi := 189) (pc := 42) (len := 1) (i := 0) rfl rfl h
        replace h := eGetR (a := 181) (j := 1122) (g := 200) fr3.1 (by decide) (by decide) rfl rfl rfl (mi := 189) (pc := 43) (len := 3) rfl h
        replace h := eConst (mi := 189) (pc := 46) (len := 2) (v := 40) rfl h
        replace h := eIload (mi := 189) (pc := 48) (len := 1) (i := 1) rfl rfl h
        replace h := eMul (mi := 189) (pc := 49) (len := 1) rfl h
        replace h := eIload (mi := 189) (pc := 50) (len := 1) (i := 2) rfl rfl h
        replace h := eAdd (mi := 189) (pc := 51) (len := 1) rfl h
        obtain ⟨b8, h⟩ := eIald (x := (((40 : Int32) * p) + x)) fr3.1 (a := 200) (by decide) (by decide) rfl (mi := 189) (pc := 52) (len := 1) rfl h
        obtain ⟨e1, e2⟩ := eRetI (mi := 189) (pc := 53) (len := 1) rfl h
        rw [en] at c7
        rw [vv] at c7
        exact ⟨_, e1, Or.inr (Or.inr ⟨by rw [c1, c2]; rfl, c7, by rw [en]; exact vv⟩)⟩
      · replace c7 : (iv N4 200 (((40 : Int32) * p) + x).toInt.toNat).toInt = 1000000 := mC_ne.2 c7
        replace h := eConst (mi := 189) (pc := 37) (len := 2) (v := (-2)) rfl h
        replace h := eGoto (mi := 189) (pc := 39) (len := 3) (t := 53) rfl rfl h
        obtain ⟨e1, e2⟩ := eRetI (mi := 189) (pc := 53) (len := 1) rfl h
        rw [en] at c7
        rw [vv] at c7
        exact ⟨_, e1, Or.inr (Or.inl ⟨by rw [c1, c2]; rfl, c7, rfl⟩)⟩
    · replace c2 : rDeed M x = false := mB_ne.2 c2
      replace h := eConst (mi := 189) (pc := 15) (len := 1) (v := (-1)) rfl h
      obtain ⟨e1, e2⟩ := eRetI (mi := 189) (pc := 16) (len := 1) rfl h
      refine ⟨_, e1, Or.inl ⟨?_, rfl⟩⟩
      simp only [c1, c2, Bool.true_and, Bool.false_and, Bool.and_true, Bool.and_false]
theorem eRow9 {n d mi pc len : Nat} {L : MLoc} {st : List Value} {M : Mem} {r : Option Value} {M1 : Mem} {x : Int32} (hS : Sh M) (hR : ∀ p, p < 10 → mSlot M 99 p = some (.ref (100 + p))) (hat : mAt mi pc = some (len, .aaload)) (h : En n d mi pc L (.int x :: .ref 99 :: st) M r M1) : (0 ≤ x.toInt ∧ x.toInt.toNat < 10) ∧ En n d mi (pc + len) L (.ref (100 + x.toInt.toNat) :: st) M r M1 := by
  obtain ⟨⟨h0, h1⟩, b, hb, _, h⟩ := eAald hS (by decide) (by decide) rfl hat h
  have h1 : x.toInt.toNat < 10 := h1
  rw [hR _ h1] at hb
  cases hb
  exact ⟨⟨h0, h1⟩, h⟩
theorem knownC_en {s : List Int32} {M : Mem} {p x : Int32} (hT : aTp s M) (hR9 : ∀ p, p < 10 → mSlot M 99 p = some (.ref (100 + p))) {n d : Nat} {r : Option Value} {M1 : Mem} (h : En n d 121 0 (lv_args 0 [.ref 2, .int p, .int x]) [] M r M1) : (∃ v : Int32, r = some (.int v) ∧ knA (bPer p && bDeed M x) (iv M (100 + p.toInt.toNat) x.toInt.toNat).toInt v.toInt) ∧ M1 = M := by
  have hS := Sh.of hT
  replace h := eIload (mi := 121) (pc := 0) (len := 1) (i := 1) rfl rfl h
  replace h := eCallP (mi := 121) (pc := 1) (len := 3) (j := 149) (as := [.int p]) (rest := []) rfl (Or.inl rfl) (by decide) rfl rfl (fun _ _ _ _ g => bPer_en hS g) h
  rcases eIf (mi := 121) (pc := 4) (len := 3) (t := 15) rfl rfl h with ⟨c1, h⟩ | ⟨c1, h⟩
  · replace c1 : bPer p = false := mB_eq.1 c1
    replace h := eConst (mi := 121) (pc := 15) (len := 1) (v := (-1)) rfl h
    obtain ⟨e1, e2⟩ := eRetI (mi := 121) (pc := 16) (len := 1) rfl h
    refine ⟨⟨_, e1, Or.inl ⟨?_, rfl⟩⟩, e2⟩
    simp only [c1, Bool.true_and, Bool.false_and, Bool.and_true, Bool.and_false]
  · replace c1 : bPer p = true := mB_eq.2 c1
    replace h := eAload (mi := 121) (pc := 7) (len := 1) (i := 0) rfl rfl h
    replace h := eIload (mi := 121) (pc := 8) (len := 1) (i := 2) rfl rfl h
    replace h := eCallP (mi := 121) (pc := 9) (len := 3) (j := 154) (as := [.ref 2, .int x]) (rest := []) rfl (Or.inr (Or.inl rfl)) (by decide) rfl rfl (fun _ _ _ _ g => bDeed_en hS g) h
    rcases eIf (mi := 121) (pc := 12) (len := 3) (t := 17) rfl rfl h with ⟨c2, h⟩ | ⟨c2, h⟩
    · replace c2 : bDeed M x = true := mB_ne.1 c2
      replace h := eAload (mi := 121) (pc := 17) (len := 1) (i := 0) rfl rfl h
      replace h := eGetR (a := 2) (j := 1003) (g := 93) hS (by decide) (by decide) rfl rfl rfl (mi := 121) (pc := 18) (len := 3) rfl h
      replace h := eGetR (a := 93) (j := 307) (g := 99) hS (by decide) (by decide) rfl rfl rfl (mi := 121) (pc := 21) (len := 3) rfl h
      replace h := eIload (mi := 121) (pc := 24) (len := 1) (i := 1) rfl rfl h
      obtain ⟨b3, h⟩ := eRow9 (x := p) hS hR9 (mi := 121) (pc := 25) (len := 1) rfl h
      replace h := eIload (mi := 121) (pc := 26) (len := 1) (i := 2) rfl rfl h
      obtain ⟨b4, h⟩ := eIald (x := x) hS (a := (100 + p.toInt.toNat)) (row_p9 b3.2).1 (row_p9 b3.2).2.1 (by rw [(row_p9 b3.2).2.2]; rfl) (mi := 121) (pc := 27) (len := 1) rfl h
      replace h := eIstore (mi := 121) (pc := 28) (len := 1) (i := 3) rfl (by decide) h
      replace h := eIload (mi := 121) (pc := 29) (len := 1) (i := 3) rfl rfl h
      replace h := eConst (mi := 121) (pc := 30) (len := 2) (v := 1000000) rfl h
      rcases eIc (mi := 121) (pc := 32) (len := 3) (t := 40) rfl rfl h with ⟨c5, h⟩ | ⟨c5, h⟩
      · replace c5 : ¬ (iv M (100 + p.toInt.toNat) x.toInt.toNat).toInt = 1000000 := mC_ne.1 c5
        replace h := eIload (mi := 121) (pc := 40) (len := 1) (i := 3) rfl rfl h
        obtain ⟨e1, e2⟩ := eRetI (mi := 121) (pc := 41) (len := 1) rfl h
        exact ⟨⟨_, e1, Or.inr (Or.inr ⟨by rw [c1, c2]; rfl, c5, rfl⟩)⟩, e2⟩
      · replace c5 : (iv M (100 + p.toInt.toNat) x.toInt.toNat).toInt = 1000000 := mC_ne.2 c5
        replace h := eConst (mi := 121) (pc := 35) (len := 2) (v := (-2)) rfl h
        replace h := eGoto (mi := 121) (pc := 37) (len := 3) (t := 41) rfl rfl h
        obtain ⟨e1, e2⟩ := eRetI (mi := 121) (pc := 41) (len := 1) rfl h
        exact ⟨⟨_, e1, Or.inr (Or.inl ⟨by rw [c1, c2]; rfl, c5, rfl⟩)⟩, e2⟩
    · replace c2 : bDeed M x = false := mB_ne.2 c2
      replace h := eConst (mi := 121) (pc := 15) (len := 1) (v := (-1)) rfl h
      obtain ⟨e1, e2⟩ := eRetI (mi := 121) (pc := 16) (len := 1) rfl h
      refine ⟨⟨_, e1, Or.inl ⟨?_, rfl⟩⟩, e2⟩
      simp only [c1, c2, Bool.true_and, Bool.false_and, Bool.and_true, Bool.and_false]

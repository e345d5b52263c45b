/-! the class: a strip is faced (printed by fn2.py) -/
theorem i32_natR {x : Int32} (h : 0 ≤ x.toInt) : Int32.ofNat x.toInt.toNat = x := (i32_nat h).symm
theorem fill_lp {a sz : Nat} {v : Int32} (h2 : 2 ≤ a) (h3 : a < tEnd) (ht : ∀ i, (tTy (tGrp a) i).1 = 1) (hz : tSiz (tGrp a) = sz) (hz2 : sz ≤ 1000) : ∀ (n : Nat) {d : Nat} {L : MLoc} {M : Mem} {r : Option Value} {M1 : Mem} {k : Int32}, Sh M → mLd L 0 = some (.ref a) → mLd L 1 = some (.int v) → mLd L 2 = some (.int k) → mLd L 3 = some (.int (Int32.ofNat sz)) → 0 ≤ k.toInt → (∀ i : Nat, (i : Int) < k.toInt → i < sz → iv M a i = v) → En n d 281 5 L [] M r M1 → r = none ∧ Sh M1 ∧ (∀ i, i < sz → iv M1 a i = v) ∧ Fx a a M M1 := by
  intro n
  induction n with
  | zero => intro d L M r M1 k _ _ _ _ _ _ _ h; exact (En.zero (mi := 281) (pc := 5) (len := 1) rfl h).elim
  | succ n ih =>
    intro d L M r M1 k hS l0 l1 l2 l3 k0 hf h
    have hsz : (Int32.ofNat sz).toInt = (sz : Int) := Int32.toInt_ofNat_of_lt (by omega)
    replace h := eIloadS (mi := 281) (pc := 5) (len := 1) (i := 2) rfl l2 h
    replace h := eIload (mi := 281) (pc := 6) (len := 1) (i := 3) rfl l3 h
    rcases eIc (mi := 281) (pc := 7) (len := 3) (t := 20) rfl rfl h with ⟨c1, h⟩ | ⟨c1, h⟩
    · replace c1 : ¬ k.toInt < (Int32.ofNat sz).toInt := mC_ge.1 c1
      obtain ⟨e1, e2⟩ := eRetV (mi := 281) (pc := 20) (len := 1) rfl h
      subst e2
      exact ⟨e1, hS, fun i hi => hf i (by omega) hi, Fx.rf⟩
    · replace c1 : k.toInt < (Int32.ofNat sz).toInt := mC_ge.2 c1
      replace h := eAload (mi := 281) (pc := 10) (len := 1) (i := 0) rfl l0 h
      replace h := eIload (mi := 281) (pc := 11) (len := 1) (i := 2) rfl l2 h
      replace h := eIload (mi := 281) (pc := 12) (len := 1) (i := 1) rfl l1 h
      obtain ⟨N3, eN3⟩ : ∃ X_, X_ = mPut M a k.toInt.toNat (.int v) := ⟨_, rfl⟩
      obtain ⟨b2, h⟩ := eIast (x := k) (N := N3) hS (a := a) h2 h3 eN3 (mi := 281) (pc := 13) (len := 1) rfl h
      have hS4 : Sh N3 := by rw [eN3]; exact hS.put h2 h3 (ht _)
      replace h := eIinc (mi := 281) (pc := 14) (len := 3) (i := 2) (k := 1) rfl l2 (by decide) h
      replace h := eGoto (mi := 281) (pc := 17) (len := 3) (t := 5) rfl rfl h
      have ek : (k + 1).toInt = k.toInt + 1 := i32_inc k0 (by omega)
      have hb : k.toInt.toNat < sz := by rw [← hz]; exact b2.2
      have q := ih (k := k + 1) hS4 (mLd_st1_ref (by decide) l0) (mLd_st1_int (by decide) l1) mLd_st1_i (mLd_st1_int (by decide) l3) (by omega) ?_ h
      · refine ⟨q.1, q.2.1, q.2.2.1, Fx.tr ?_ q.2.2.2⟩
        rw [eN3]; exact Fx.put (Nat.le_refl _) (Nat.le_refl _)
      · intro i h1 h2'
        rw [eN3]
        by_cases ei : i = k.toInt.toNat
        · rw [ei]; exact iv_put_eq hS h2 h3 (by rw [hz]; exact hb)
        · rw [iv_put_ne (Or.inr ei)]; exact hf i (by omega) h2'
theorem fill_en {a sz : Nat} {v : Int32} (h2 : 2 ≤ a) (h3 : a < tEnd) (ht : ∀ i, (tTy (tGrp a) i).1 = 1) (hz : tSiz (tGrp a) = sz) (hz2 : sz ≤ 1000) {n d : Nat} {M : Mem} {r : Option Value} {M1 : Mem} (hS : Sh M) (h : En n d 281 0 (lv_args 0 [.ref a, .int v]) [] M r M1) : r = none ∧ Sh M1 ∧ (∀ i, i < sz → iv M1 a i = v) ∧ Fx a a M M1 := by
  replace h := eConst (mi := 281) (pc := 0) (len := 1) (v := 0) rfl h
  replace h := eIstore (mi := 281) (pc := 1) (len := 1) (i := 2) rfl (by decide) h
  replace h := eAload (mi := 281) (pc := 2) (len := 1) (i := 0) rfl rfl h
  replace h := eAlen (a := a) hS h2 h3 (mi := 281) (pc := 3) (len := 1) rfl h
  rw [hz] at h
  replace h := eIstore (mi := 281) (pc := 4) (len := 1) (i := 3) rfl (by decide) h
  exact fill_lp h2 h3 ht hz hz2 n (k := 0) hS rfl rfl rfl rfl (Int.le_refl 0) (fun i h1 _ => absurd h1 (by show ¬ (i : Int) < 0; omega)) h
/-- a deed of all of the strip -/
def bKs (M : Mem) (e : Nat) (s : Int32) : Bool := decide ((iv M (10 + e) 4).toInt = 0) && bOf M e s
/-- a deed that stands by a day -/
def bGd (M : Mem) (e : Nat) (s t : Int32) : Bool := bOf M e s && (!decide (t.toInt < (iv M (10 + e) 3).toInt) && !bVoid M e)
def minI (x y : Int32) : Int32 := if y < x then y else x
def bit1 (x : Int32) : Int64 := 1 <<< (x.toInt64 &&& 63)
def tFold (M : Mem) (s : Int32) : Nat → Nat → Int32
  | 0, _ => 1000000
  | k + 1, p => bif bKs M k s && decide ((iv M (10 + k) 1).toInt.toNat = p) then minI (tFold M s k p) (iv M (10 + k) 7) else tFold M s k p
def sFold (M : Mem) (s t : Int32) : Nat → Int64
  | 0 => 0
  | k + 1 => bif bKs M k s then (bif bGd M k s t then sFold M s t k ||| bit1 (Int32.ofNat k) else sFold M s t k &&& (bit1 (Int32.ofNat k) ^^^ -1)) else sFold M s t k
/-- a strip is faced: what the chain's cells hold then, out of the first n deeds -/
def faced (M : Mem) (s t : Int32) (n : Nat) (N : Mem) : Prop := Sh N ∧ Fx 170 174 M N ∧ (0 ≤ s.toInt ∧ s.toInt.toNat < 8) ∧ iv N 170 4 = s ∧ iv N 170 5 = t ∧ iv N 170 6 = iv M 5 s.toInt.toNat ∧ mSlot N 170 7 = some (.ref (152 + 6 * (iv M 6 s.toInt.toNat).toInt.toNat)) ∧ (0 ≤ (iv M 6 s.toInt.toNat).toInt ∧ (iv M 6 s.toInt.toNat).toInt.toNat < 3) ∧ lv N 170 8 = sFold M s t n ∧ (∀ p, p < 10 → iv N 171 p = tFold M s n p) ∧ ∀ e, e < n → lv N 173 e = 0 ∧ lv N 174 e = 0
theorem bOf_fx {M N : Mem} (f : Fx 170 174 M N) {e : Nat} (he : e < 40) (s : Int32) : bOf N e s = bOf M e s := by
  unfold bOf
  rw [f.si (c := 10 + e) (by omega)]
theorem bVoid_fx {M N : Mem} (f : Fx 170 174 M N) {e : Nat} (he : e < 40) : bVoid N e = bVoid M e := by
  unfold bVoid bDead
  rw [f.si (c := 10 + e) (i := 6) (by omega), f.si (c := 10 + e) (i := 0) (by omega), f.si (c := 10 + e) (i := 3) (by omega), f.si (c := 4) (by omega)]
theorem bGood_fx {M N : Mem} (f : Fx 170 174 M N) {e : Nat} (he : e < 40) {s t : Int32} (h4 : iv N 170 4 = s) (h5 : iv N 170 5 = t) : bGood N e = bGd M e s t := by
  unfold bGood bGd
  rw [h4, h5, bOf_fx f he, bVoid_fx f he, f.si (c := 10 + e) (i := 3) (by omega)]
  cases bOf M e s <;> cases decide (t.toInt < (iv M (10 + e) 3).toInt) <;> cases bVoid M e <;> rfl
theorem law_grp {k : Nat} (h : k < 3) : 2 ≤ 152 + 6 * k ∧ 152 + 6 * k < tEnd ∧ tGrp (152 + 6 * k) ∈ (tTy (tGrp 170) 7).2.2.2 := by
  have : k = 0 ∨ k = 1 ∨ k = 2 := by omega
  rcases this with rfl | rfl | rfl <;> decide
theorem az_step {N N3 N6 : Mem} {k : Int32} (hS : Sh N) (hS3 : Sh N3) (e3 : N3 = mPut N 173 k.toInt.toNat (.long 0)) (e6 : N6 = mPut N3 174 k.toInt.toNat (.long 0)) (hk : k.toInt.toNat < 40) (hA : ∀ e, e < k.toInt.toNat → lv N 173 e = 0 ∧ lv N 174 e = 0) : ∀ e, e < k.toInt.toNat + 1 → lv N6 173 e = 0 ∧ lv N6 174 e = 0 := by
  intro e he
  by_cases q : e = k.toInt.toNat
  · rw [q]
    refine ⟨?_, ?_⟩
    · rw [e6, lv_put_ne (Or.inl (by decide)), e3]
      exact lv_put_eq hS (by decide) (by decide) hk
    · rw [e6]
      exact lv_put_eq hS3 (by decide) (by decide) hk
  · have a := hA e (by omega)
    rw [e6, lv_put_ne (Or.inl (by decide)), lv_put_ne (Or.inr q), e3, lv_put_ne (Or.inr q), lv_put_ne (Or.inl (by decide))]
    exact a
theorem face_lp {M : Mem} {s t : Int32} (hR : Rf M) : ∀ (n : Nat) {d : Nat} {L : MLoc} {N : Mem} {r : Option Value} {M1 : Mem} {k : Int32}, mLd L 0 = some (.ref 170) → mLd L 3 = some (.int k) → 0 ≤ k.toInt → (k.toInt ≤ (iv M 7 2).toInt ∨ k.toInt = 0) → faced M s t k.toInt.toNat N → En n d 1 63 L [] N r M1 → r = none ∧ faced M s t (iv M 7 2).toInt.toNat M1 := by
  intro n
  induction n with
  | zero => intro d L N r M1 k _ _ _ _ _ h; exact (En.zero (mi := 1) (pc := 63) (len := 1) rfl h).elim
  | succ n ih =>
    intro d L N r M1 k l0 l3 k0 kc hF h
    obtain ⟨hS, f, s8, h4, h5, h6, h7, la, h8, hT, hA⟩ := hF
    have hY : yT8 N := (hR.fx f (by decide)).1
    have e72 : iv N 7 2 = iv M 7 2 := f.si (by decide)
    replace h := eIloadS (mi := 1) (pc := 63) (len := 1) (i := 3) rfl l3 h
    replace h := eAload (mi := 1) (pc := 64) (len := 1) (i := 0) rfl l0 h
    replace h := eGetR (a := 170) (j := 1) (g := 7) hS (by decide) (by decide) rfl rfl rfl (mi := 1) (pc := 65) (len := 3) rfl h
    replace h := eGetI (a := 7) (j := 602) hS (by decide) (by decide) rfl (mi := 1) (pc := 68) (len := 3) rfl h
    rcases eIc (mi := 1) (pc := 71) (len := 3) (t := 162) rfl rfl h with ⟨c1, h⟩ | ⟨c1, h⟩
    · replace c1 : ¬ k.toInt < (iv N 7 2).toInt := mC_ge.1 c1
      obtain ⟨e1, e2⟩ := eRetV (mi := 1) (pc := 162) (len := 1) rfl h
      rw [e72] at c1
      have en : (iv M 7 2).toInt.toNat = k.toInt.toNat := by omega
      rw [en, e2]
      exact ⟨e1, hS, f, s8, h4, h5, h6, h7, la, h8, hT, hA⟩
    · replace c1 : k.toInt < (iv N 7 2).toInt := mC_ge.2 c1
      replace h := eAload (mi := 1) (pc := 74) (len := 1) (i := 0) rfl l0 h
      replace h := eGetR (a := 170) (j := 11) (g := 173) hS (by decide) (by decide) rfl rfl rfl (mi := 1) (pc := 75) (len := 3) rfl h
      replace h := eIload (mi := 1) (pc := 78) (len := 1) (i := 3) rfl l3 h
      replace h := eLdc (mi := 1) (pc := 79) (len := 1) (j := 0) rfl h
      obtain ⟨N3, eN3⟩ : ∃ X_, X_ = mPut N 173 k.toInt.toNat (.long (0 : Int64)) := ⟨_, rfl⟩
      obtain ⟨b2, h⟩ := eLast (x := k) (N := N3) hS (a := 173) (by decide) (by decide) eN3 (mi := 1) (pc := 80) (len := 1) rfl h
      have hS4 : Sh N3 := by rw [eN3]; exact hS.putl (by decide) (by decide) rfl
      have fx5 : Fx 170 174 M N3 := f.tr (by rw [eN3]; exact Fx.put (by decide) (by decide))
      replace h := eAload (mi := 1) (pc := 81) (len := 1) (i := 0) rfl l0 h
      replace h := eGetR (a := 170) (j := 12) (g := 174) hS4 (by decide) (by decide) rfl rfl rfl (mi := 1) (pc := 82) (len := 3) rfl h
      replace h := eIload (mi := 1) (pc := 85) (len := 1) (i := 3) rfl l3 h
      replace h := eLdc (mi := 1) (pc := 86) (len := 1) (j := 0) rfl h
      obtain ⟨N7, eN7⟩ : ∃ X_, X_ = mPut N3 174 k.toInt.toNat (.long (0 : Int64)) := ⟨_, rfl⟩
      obtain ⟨b6, h⟩ := eLast (x := k) (N := N7) hS4 (a := 174) (by decide) (by decide) eN7 (mi := 1) (pc := 87) (len := 1) rfl h
      have hS8 : Sh N7 := by rw [eN7]; exact hS4.putl (by decide) (by decide) rfl
      have fx9 : Fx 170 174 M N7 := fx5.tr (by rw [eN7]; exact Fx.put (by decide) (by decide))
      replace h := eAload (mi := 1) (pc := 88) (len := 1) (i := 0) rfl l0 h
      replace h := eGetR (a := 170) (j := 1) (g := 7) hS8 (by decide) (by decide) rfl rfl rfl (mi := 1) (pc := 89) (len := 3) rfl h
      replace h := eGetR (a := 7) (j := 600) (g := 8) hS8 (by decide) (by decide) rfl rfl rfl (mi := 1) (pc := 92) (len := 3) rfl h
      replace h := eIload (mi := 1) (pc := 95) (len := 1) (i := 3) rfl l3 h
      obtain ⟨b10, h⟩ := eDeed (x := k) hS8 (hR.fx fx9 (by decide)).1 (mi := 1) (pc := 96) (len := 1) rfl h
      replace h := eAstore (mi := 1) (pc := 97) (len := 2) (i := 4) rfl (by decide) h
      replace h := eAload (mi := 1) (pc := 99) (len := 2) (i := 4) rfl mLd_st1_i h
      replace h := eGetD (e := k.toInt.toNat) (f := 4) hS8 b10.2 rfl rfl  (j := 104) (mi := 1) (pc := 101) (len := 3) rfl h
      rcases eIf (mi := 1) (pc := 104) (len := 3) (t := 156) rfl rfl h with ⟨c11, h⟩ | ⟨c11, h⟩
      · replace c11 : ¬ (iv N7 (10 + k.toInt.toNat) 4).toInt = 0 := mC_ne.1 c11
        replace h := eIinc (mi := 1) (pc := 156) (len := 3) (i := 3) (k := 1) rfl (mLd_st1_int (by decide) l3) (by decide) h
        replace h := eGoto (mi := 1) (pc := 159) (len := 3) (t := 63) rfl rfl h
        have kb : k.toInt.toNat < 40 := b10.2
        have ek : (k + 1).toInt = k.toInt + 1 := i32_inc k0 (by omega)
        have en : (k + 1).toInt.toNat = k.toInt.toNat + 1 := by omega
        refine ih (k := k + 1) (mLd_st1_ref (by decide) (mLd_st1_ref (by decide) l0)) mLd_st1_i (by omega) (Or.inl (by rw [e72] at c1; omega)) ?_ h
        rw [en]
        have g6 : ∀ c i, c ≠ 173 → c ≠ 174 → mSlot N7 c i = mSlot N c i := fun c i n1 n2 => by rw [eN7, mSlot_put_ne (Or.inl n2), eN3, mSlot_put_ne (Or.inl n1)]
        have i6 : ∀ c i, c ≠ 173 → c ≠ 174 → iv N7 c i = iv N c i := fun c i n1 n2 => by unfold iv; rw [g6 c i n1 n2]
        have v6 : ∀ c i, c ≠ 173 → c ≠ 174 → lv N7 c i = lv N c i := fun c i n1 n2 => by unfold lv; rw [g6 c i n1 n2]
        have a6 := az_step hS hS4 eN3 eN7 kb hA
        have m4 : iv N7 (10 + k.toInt.toNat) 4 = iv M (10 + k.toInt.toNat) 4 := fx9.si (by omega)
        have hk : bKs M k.toInt.toNat s = false := by unfold bKs; rw [← m4, decide_eq_false c11, Bool.false_and]
        refine ⟨hS8, fx9, s8, (i6 170 4 (by decide) (by decide)).trans h4, (i6 170 5 (by decide) (by decide)).trans h5, (i6 170 6 (by decide) (by decide)).trans h6, (g6 170 7 (by decide) (by decide)).trans h7, la, ?_, ?_, a6⟩
        · rw [v6 170 8 (by decide) (by decide), h8]
          show _ = (bif bKs M k.toInt.toNat s then _ else _)
          rw [hk]
          rfl
        · intro p hp
          rw [i6 171 p (by decide) (by decide), hT p hp]
          show _ = (bif bKs M k.toInt.toNat s && _ then _ else _)
          rw [hk]
          rfl
      · replace c11 : (iv N7 (10 + k.toInt.toNat) 4).toInt = 0 := mC_ne.2 c11
        replace h := eAload (mi := 1) (pc := 107) (len := 2) (i := 4) rfl mLd_st1_i h
        replace h := eAload (mi := 1) (pc := 109) (len := 1) (i := 0) rfl (mLd_st1_ref (by decide) l0) h
        replace h := eGetI (a := 170) (j := 4) hS8 (by decide) (by decide) rfl (mi := 1) (pc := 110) (len := 3) rfl h
        replace h := eCallP (mi := 1) (pc := 113) (len := 3) (j := 26) (as := [.ref (10 + k.toInt.toNat), .int (iv N7 170 4)]) (rest := []) rfl (Or.inr (Or.inl rfl)) (by decide) rfl rfl (fun _ _ _ _ g => bOf_en hS8 b10.2 g) h
        rcases eIf (mi := 1) (pc := 116) (len := 3) (t := 156) rfl rfl h with ⟨c12, h⟩ | ⟨c12, h⟩
        · replace c12 : bOf N7 (k.toInt.toNat) (iv N7 170 4) = false := mB_eq.1 c12
          replace h := eIinc (mi := 1) (pc := 156) (len := 3) (i := 3) (k := 1) rfl (mLd_st1_int (by decide) l3) (by decide) h
          replace h := eGoto (mi := 1) (pc := 159) (len := 3) (t := 63) rfl rfl h
          have kb : k.toInt.toNat < 40 := b10.2
          have ek : (k + 1).toInt = k.toInt + 1 := i32_inc k0 (by omega)
          have en : (k + 1).toInt.toNat = k.toInt.toNat + 1 := by omega
          refine ih (k := k + 1) (mLd_st1_ref (by decide) (mLd_st1_ref (by decide) l0)) mLd_st1_i (by omega) (Or.inl (by rw [e72] at c1; omega)) ?_ h
          rw [en]
          have g6 : ∀ c i, c ≠ 173 → c ≠ 174 → mSlot N7 c i = mSlot N c i := fun c i n1 n2 => by rw [eN7, mSlot_put_ne (Or.inl n2), eN3, mSlot_put_ne (Or.inl n1)]
          have i6 : ∀ c i, c ≠ 173 → c ≠ 174 → iv N7 c i = iv N c i := fun c i n1 n2 => by unfold iv; rw [g6 c i n1 n2]
          have v6 : ∀ c i, c ≠ 173 → c ≠ 174 → lv N7 c i = lv N c i := fun c i n1 n2 => by unfold lv; rw [g6 c i n1 n2]
          have a6 := az_step hS hS4 eN3 eN7 kb hA
          have m4 : iv N7 (10 + k.toInt.toNat) 4 = iv M (10 + k.toInt.toNat) 4 := fx9.si (by omega)
          have hk : bKs M k.toInt.toNat s = false := by unfold bKs; rw [← bOf_fx fx9 kb, ← h4, ← i6 170 4 (by decide) (by decide), c12, Bool.and_false]
          refine ⟨hS8, fx9, s8, (i6 170 4 (by decide) (by decide)).trans h4, (i6 170 5 (by decide) (by decide)).trans h5, (i6 170 6 (by decide) (by decide)).trans h6, (g6 170 7 (by decide) (by decide)).trans h7, la, ?_, ?_, a6⟩
          · rw [v6 170 8 (by decide) (by decide), h8]
            show _ = (bif bKs M k.toInt.toNat s then _ else _)
            rw [hk]
            rfl
          · intro p hp
            rw [i6 171 p (by decide) (by decide), hT p hp]
            show _ = (bif bKs M k.toInt.toNat s && _ then _ else _)
            rw [hk]
            rfl
        · replace c12 : bOf N7 (k.toInt.toNat) (iv N7 170 4) = true := mB_eq.2 c12
          replace h := eAload (mi := 1) (pc := 119) (len := 1) (i := 0) rfl (mLd_st1_ref (by decide) l0) h
          replace h := eGetR (a := 170) (j := 9) (g := 171) hS8 (by decide) (by decide) rfl rfl rfl (mi := 1) (pc := 120) (len := 3) rfl h
          replace h := eAload (mi := 1) (pc := 123) (len := 2) (i := 4) rfl mLd_st1_i h
          replace h := eGetD (e := k.toInt.toNat) (f := 1) hS8 b10.2 rfl rfl  (j := 101) (mi := 1) (pc := 125) (len := 3) rfl h
          replace h := eAload (mi := 1) (pc := 128) (len := 1) (i := 0) rfl (mLd_st1_ref (by decide) l0) h
          replace h := eGetR (a := 170) (j := 9) (g := 171) hS8 (by decide) (by decide) rfl rfl rfl (mi := 1) (pc := 129) (len := 3) rfl h
          replace h := eAload (mi := 1) (pc := 132) (len := 2) (i := 4) rfl mLd_st1_i h
          replace h := eGetD (e := k.toInt.toNat) (f := 1) hS8 b10.2 rfl rfl  (j := 101) (mi := 1) (pc := 134) (len := 3) rfl h
          obtain ⟨b13, h⟩ := eIald (x := (iv N7 (10 + k.toInt.toNat) 1)) hS8 (a := 171) (by decide) (by decide) rfl (mi := 1) (pc := 137) (len := 1) rfl h
          replace h := eAload (mi := 1) (pc := 138) (len := 2) (i := 4) rfl mLd_st1_i h
          replace h := eGetD (e := k.toInt.toNat) (f := 7) hS8 b10.2 rfl rfl  (j := 107) (mi := 1) (pc := 140) (len := 3) rfl h
          replace h := eMin (mi := 1) (pc := 143) (len := 3) rfl h
          obtain ⟨N15, eN15⟩ : ∃ X_, X_ = mPut N7 171 (iv N7 (10 + k.toInt.toNat) 1).toInt.toNat (.int (if (iv N7 (10 + k.toInt.toNat) 7) < (iv N7 171 (iv N7 (10 + k.toInt.toNat) 1).toInt.toNat) then (iv N7 (10 + k.toInt.toNat) 7) else (iv N7 171 (iv N7 (10 + k.toInt.toNat) 1).toInt.toNat))) := ⟨_, rfl⟩
          obtain ⟨b14, h⟩ := eIast (x := (iv N7 (10 + k.toInt.toNat) 1)) (N := N15) hS8 (a := 171) (by decide) (by decide) eN15 (mi := 1) (pc := 146) (len := 1) rfl h
          have hS16 : Sh N15 := by rw [eN15]; exact hS8.put (by decide) (by decide) rfl
          have fx17 : Fx 170 174 M N15 := fx9.tr (by rw [eN15]; exact Fx.put (by decide) (by decide))
          replace h := eAload (mi := 1) (pc := 147) (len := 1) (i := 0) rfl (mLd_st1_ref (by decide) l0) h
          replace h := eAload (mi := 1) (pc := 148) (len := 1) (i := 0) rfl (mLd_st1_ref (by decide) l0) h
          replace h := eIload (mi := 1) (pc := 149) (len := 1) (i := 3) rfl (mLd_st1_int (by decide) l3) h
          replace h := eCallP (mi := 1) (pc := 150) (len := 3) (j := 3) (as := [.ref 170, .int k]) (rest := [.ref 170]) rfl (Or.inr (Or.inl rfl)) (by decide) rfl rfl (fun _ _ _ _ g => fStand_en hS16 (hR.fx fx17 (by decide)).1 g) h
          obtain ⟨N18, eN18⟩ : ∃ X_, X_ = mPut N15 170 8 (.long (fStand N15 k)) := ⟨_, rfl⟩
          replace h := ePutE (a := 170) (f := 8) (N := N18) rfl eN18 (mi := 1) (pc := 153) (len := 3) (j := 8) rfl h
          have hS19 : Sh N18 := by rw [eN18]; exact hS16.putl (by decide) (by decide) rfl
          have fx20 : Fx 170 174 M N18 := fx17.tr (by rw [eN18]; exact Fx.put (by decide) (by decide))
          replace h := eIinc (mi := 1) (pc := 156) (len := 3) (i := 3) (k := 1) rfl (mLd_st1_int (by decide) l3) (by decide) h
          replace h := eGoto (mi := 1) (pc := 159) (len := 3) (t := 63) rfl rfl h
          have kb : k.toInt.toNat < 40 := b10.2
          have ek : (k + 1).toInt = k.toInt + 1 := i32_inc k0 (by omega)
          have en : (k + 1).toInt.toNat = k.toInt.toNat + 1 := by omega
          refine ih (k := k + 1) (mLd_st1_ref (by decide) (mLd_st1_ref (by decide) l0)) mLd_st1_i (by omega) (Or.inl (by rw [e72] at c1; omega)) ?_ h
          rw [en]
          have g6 : ∀ c i, c ≠ 173 → c ≠ 174 → mSlot N7 c i = mSlot N c i := fun c i n1 n2 => by rw [eN7, mSlot_put_ne (Or.inl n2), eN3, mSlot_put_ne (Or.inl n1)]
          have i6 : ∀ c i, c ≠ 173 → c ≠ 174 → iv N7 c i = iv N c i := fun c i n1 n2 => by unfold iv; rw [g6 c i n1 n2]
          have v6 : ∀ c i, c ≠ 173 → c ≠ 174 → lv N7 c i = lv N c i := fun c i n1 n2 => by unfold lv; rw [g6 c i n1 n2]
          have a6 := az_step hS hS4 eN3 eN7 kb hA
          have m4 : iv N7 (10 + k.toInt.toNat) 4 = iv M (10 + k.toInt.toNat) 4 := fx9.si (by omega)
          have hk : bKs M k.toInt.toNat s = true := by unfold bKs; rw [← m4, decide_eq_true c11, Bool.true_and, ← bOf_fx fx9 kb, ← h4, ← i6 170 4 (by decide) (by decide)]; exact c12
          have m1 : (iv N7 (10 + k.toInt.toNat) 1) = iv M (10 + k.toInt.toNat) 1 := fx9.si (by omega)
          have m7 : iv N7 (10 + k.toInt.toNat) 7 = iv M (10 + k.toInt.toNat) 7 := fx9.si (by omega)
          have g15 : ∀ c i, c ≠ 171 → (c ≠ 170 ∨ i ≠ 8) → mSlot N18 c i = mSlot N7 c i := fun c i n1 n2 => by rw [eN18, mSlot_put_ne n2, eN15, mSlot_put_ne (Or.inl n1)]
          have i15 : ∀ c i, c ≠ 171 → (c ≠ 170 ∨ i ≠ 8) → iv N18 c i = iv N7 c i := fun c i n1 n2 => by unfold iv; rw [g15 c i n1 n2]
          have c4 : iv N15 170 4 = s := by rw [eN15, iv_put_ne (Or.inl (by decide)), i6 170 4 (by decide) (by decide)]; exact h4
          have c5 : iv N15 170 5 = t := by rw [eN15, iv_put_ne (Or.inl (by decide)), i6 170 5 (by decide) (by decide)]; exact h5
          refine ⟨hS19, fx20, s8, (i15 170 4 (by decide) (Or.inr (by decide))).trans ((i6 170 4 (by decide) (by decide)).trans h4), (i15 170 5 (by decide) (Or.inr (by decide))).trans ((i6 170 5 (by decide) (by decide)).trans h5), (i15 170 6 (by decide) (Or.inr (by decide))).trans ((i6 170 6 (by decide) (by decide)).trans h6), (g15 170 7 (by decide) (Or.inr (by decide))).trans ((g6 170 7 (by decide) (by decide)).trans h7), la, ?_, ?_, ?_⟩
          · rw [eN18, lv_put_eq hS16 (by decide) (by decide) (by decide)]
            show _ = (bif bKs M k.toInt.toNat s then _ else _)
            rw [hk]
            unfold fStand
            rw [bGood_fx fx17 kb c4 c5, i32_natR k0, eN15, lv_put_ne (Or.inl (by decide)), v6 170 8 (by decide) (by decide), h8]
            rfl
          · intro p hp
            have e171 : iv N18 171 p = iv N15 171 p := by rw [eN18]; exact iv_put_ne (Or.inl (by decide))
            show _ = (bif bKs M k.toInt.toNat s && decide ((iv M (10 + k.toInt.toNat) 1).toInt.toNat = p) then _ else _)
            rw [e171, hk, Bool.true_and, ← m1]
            by_cases ep : (iv N7 (10 + k.toInt.toNat) 1).toInt.toNat = p
            · rw [decide_eq_true ep, ← ep, eN15, iv_put_eq hS8 (by decide) (by decide) b14.2, m7, i6 171 _ (by decide) (by decide), hT _ b14.2]
              rfl
            · rw [decide_eq_false ep, eN15, iv_put_ne (Or.inr (fun q => ep q.symm)), i6 171 p (by decide) (by decide), hT p hp]
              rfl
          · intro e he
            have a := a6 e he
            rw [eN18, lv_put_ne (Or.inl (by decide)), lv_put_ne (Or.inl (by decide)), eN15, lv_put_ne (Or.inl (by decide)), lv_put_ne (Or.inl (by decide))]
            exact a
theorem face_en {s t : Int32} {n d : Nat} {M : Mem} {r : Option Value} {M1 : Mem} (hS : Sh M) (hR : Rf M) (h : En n d 1 0 (lv_args 0 [.ref 170, .int s, .int t]) [] M r M1) : r = none ∧ faced M s t (iv M 7 2).toInt.toNat M1 := by
  replace h := eAload (mi := 1) (pc := 0) (len := 1) (i := 0) rfl rfl h
  replace h := eIload (mi := 1) (pc := 1) (len := 1) (i := 1) rfl rfl h
  obtain ⟨N1, eN1⟩ : ∃ X_, X_ = mPut M 170 4 (.int s) := ⟨_, rfl⟩
  replace h := ePutE (a := 170) (f := 4) (N := N1) rfl eN1 (mi := 1) (pc := 2) (len := 3) (j := 4) rfl h
  have hS2 : Sh N1 := by rw [eN1]; exact hS.put (by decide) (by decide) rfl
  have fx3 : Fx 170 174 M N1 := Fx.rf.tr (by rw [eN1]; exact Fx.put (by decide) (by decide))
  replace h := eAload (mi := 1) (pc := 5) (len := 1) (i := 0) rfl rfl h
  replace h := eIload (mi := 1) (pc := 6) (len := 1) (i := 2) rfl rfl h
  obtain ⟨N4, eN4⟩ : ∃ X_, X_ = mPut N1 170 5 (.int t) := ⟨_, rfl⟩
  replace h := ePutE (a := 170) (f := 5) (N := N4) rfl eN4 (mi := 1) (pc := 7) (len := 3) (j := 5) rfl h
  have hS5 : Sh N4 := by rw [eN4]; exact hS2.put (by decide) (by decide) rfl
  have fx6 : Fx 170 174 M N4 := fx3.tr (by rw [eN4]; exact Fx.put (by decide) (by decide))
  replace h := eAload (mi := 1) (pc := 10) (len := 1) (i := 0) rfl rfl h
  replace h := eAload (mi := 1) (pc := 11) (len := 1) (i := 0) rfl rfl h
  replace h := eGetR (a := 170) (j := 0) (g := 3) hS5 (by decide) (by decide) rfl rfl rfl (mi := 1) (pc := 12) (len := 3) rfl h
  replace h := eGetR (a := 3) (j := 901) (g := 5) hS5 (by decide) (by decide) rfl rfl rfl (mi := 1) (pc := 15) (len := 3) rfl h
  replace h := eAload (mi := 1) (pc := 18) (len := 1) (i := 0) rfl rfl h
  replace h := eGetI (a := 170) (j := 4) hS5 (by decide) (by decide) rfl (mi := 1) (pc := 19) (len := 3) rfl h
  obtain ⟨b7, h⟩ := eIald (x := (iv N4 170 4)) hS5 (a := 5) (by decide) (by decide) rfl (mi := 1) (pc := 22) (len := 1) rfl h
  obtain ⟨N8, eN8⟩ : ∃ X_, X_ = mPut N4 170 6 (.int (iv N4 5 (iv N4 170 4).toInt.toNat)) := ⟨_, rfl⟩
  replace h := ePutE (a := 170) (f := 6) (N := N8) rfl eN8 (mi := 1) (pc := 23) (len := 3) (j := 6) rfl h
  have hS9 : Sh N8 := by rw [eN8]; exact hS5.put (by decide) (by decide) rfl
  have fx10 : Fx 170 174 M N8 := fx6.tr (by rw [eN8]; exact Fx.put (by decide) (by decide))
  replace h := eAload (mi := 1) (pc := 26) (len := 1) (i := 0) rfl rfl h
  replace h := eAload (mi := 1) (pc := 27) (len := 1) (i := 0) rfl rfl h
  replace h := eGetR (a := 170) (j := 3) (g := 129) hS9 (by decide) (by decide) rfl rfl rfl (mi := 1) (pc := 28) (len := 3) rfl h
  replace h := eAload (mi := 1) (pc := 31) (len := 1) (i := 0) rfl rfl h
  replace h := eGetR (a := 170) (j := 0) (g := 3) hS9 (by decide) (by decide) rfl rfl rfl (mi := 1) (pc := 32) (len := 3) rfl h
  replace h := eGetR (a := 3) (j := 902) (g := 6) hS9 (by decide) (by decide) rfl rfl rfl (mi := 1) (pc := 35) (len := 3) rfl h
  replace h := eAload (mi := 1) (pc := 38) (len := 1) (i := 0) rfl rfl h
  replace h := eGetI (a := 170) (j := 4) hS9 (by decide) (by decide) rfl (mi := 1) (pc := 39) (len := 3) rfl h
  obtain ⟨b11, h⟩ := eIald (x := (iv N8 170 4)) hS9 (a := 6) (by decide) (by decide) rfl (mi := 1) (pc := 42) (len := 1) rfl h
  obtain ⟨b12, h⟩ := eLaw (x := (iv N8 6 (iv N8 170 4).toInt.toNat)) hS9 (hR.fx fx10 (by decide)) (mi := 1) (pc := 43) (len := 1) rfl h
  obtain ⟨N13, eN13⟩ : ∃ X_, X_ = mPut N8 170 7 (.ref (152 + 6 * (iv N8 6 (iv N8 170 4).toInt.toNat).toInt.toNat)) := ⟨_, rfl⟩
  replace h := ePutE (a := 170) (f := 7) (N := N13) rfl eN13 (mi := 1) (pc := 44) (len := 3) (j := 7) rfl h
  have hS14 : Sh N13 := by rw [eN13]; exact hS9.putr (by decide) (by decide) rfl (law_grp b12.2).1 (law_grp b12.2).2.1 (law_grp b12.2).2.2
  have fx15 : Fx 170 174 M N13 := fx10.tr (by rw [eN13]; exact Fx.put (by decide) (by decide))
  replace h := eAload (mi := 1) (pc := 47) (len := 1) (i := 0) rfl rfl h
  replace h := eLdc (mi := 1) (pc := 48) (len := 1) (j := 0) rfl h
  obtain ⟨N16, eN16⟩ : ∃ X_, X_ = mPut N13 170 8 (.long (0 : Int64)) := ⟨_, rfl⟩
  replace h := ePutE (a := 170) (f := 8) (N := N16) rfl eN16 (mi := 1) (pc := 49) (len := 3) (j := 8) rfl h
  have hS17 : Sh N16 := by rw [eN16]; exact hS14.putl (by decide) (by decide) rfl
  have fx18 : Fx 170 174 M N16 := fx15.tr (by rw [eN16]; exact Fx.put (by decide) (by decide))
  replace h := eAload (mi := 1) (pc := 52) (len := 1) (i := 0) rfl rfl h
  replace h := eGetR (a := 170) (j := 9) (g := 171) hS17 (by decide) (by decide) rfl rfl rfl (mi := 1) (pc := 53) (len := 3) rfl h
  replace h := eConst (mi := 1) (pc := 56) (len := 2) (v := 1000000) rfl h
  obtain ⟨r19, N20, g21, h⟩ := eCall (mi := 1) (pc := 58) (len := 3) (j := 281) (as := [.ref 171, .int (1000000 : Int32)]) (rest := []) rfl (Or.inl rfl) (by decide) rfl rfl h
  obtain ⟨q1, hSf, qf, qx⟩ := fill_en (a := 171) (sz := 10) (by decide) (by decide) (fun _ => rfl) rfl (by decide) hS17 g21
  rw [q1] at h
  have fxf : Fx 170 174 M N20 := fx18.tr (qx.up (by decide) (by decide))
  replace h := eConst (mi := 1) (pc := 61) (len := 1) (v := 0) rfl h
  replace h := eIstore (mi := 1) (pc := 62) (len := 1) (i := 3) rfl (by decide) h
  have j4 : iv N1 170 4 = s := by rw [eN1]; exact iv_put_eq hS (by decide) (by decide) (by decide)
  have z4 : iv N4 170 4 = s := by rw [eN4, iv_put_ne (Or.inr (by decide))]; exact j4
  have z5 : iv N4 170 5 = t := by rw [eN4]; exact iv_put_eq hS2 (by decide) (by decide) (by decide)
  have y4 : iv N8 170 4 = s := by rw [eN8, iv_put_ne (Or.inr (by decide))]; exact z4
  have y5 : iv N8 170 5 = t := by rw [eN8, iv_put_ne (Or.inr (by decide))]; exact z5
  have y6 : iv N8 170 6 = iv M 5 s.toInt.toNat := by rw [eN8, iv_put_eq hS5 (by decide) (by decide) (by decide), z4, fx6.si (by decide)]
  have x7 : mSlot N13 170 7 = some (.ref (152 + 6 * (iv M 6 s.toInt.toNat).toInt.toNat)) := by rw [eN13, mSlot_put_eq (hS9.hd (by decide) (by decide)) (by decide), y4, fx10.si (c := 6) (by decide)]
  have bl := b12
  rw [y4, fx10.si (c := 6) (by decide)] at bl
  have bs := b7
  rw [z4] at bs
  have g7 : ∀ c i, c ≠ 171 → mSlot N20 c i = mSlot N16 c i := fun c i n1 => qx c i (by omega)
  have g8 : ∀ i, i ≠ 8 → mSlot N20 170 i = mSlot N13 170 i := fun i n1 => by rw [g7 170 i (by decide), eN16, mSlot_put_ne (Or.inr n1)]
  have g9 : ∀ i, i ≠ 8 → i ≠ 7 → iv N20 170 i = iv N8 170 i := fun i n1 n2 => by unfold iv; rw [g8 i n1, eN13, mSlot_put_ne (Or.inr n2)]
  have hF : faced M s t 0 N20 := by
    refine ⟨hSf, fxf, bs, (g9 4 (by decide) (by decide)).trans y4, (g9 5 (by decide) (by decide)).trans y5, (g9 6 (by decide) (by decide)).trans y6, (g8 7 (by decide)).trans x7, bl, ?_, fun p hp => qf p hp, fun e he => absurd he (Nat.not_lt_zero e)⟩
    have w : lv N20 170 8 = lv N16 170 8 := by unfold lv; rw [g7 170 8 (by decide)]
    rw [w, eN16, lv_put_eq hS14 (by decide) (by decide) (by decide)]
    rfl
  exact face_lp hR n (k := 0) rfl rfl (Int.le_refl 0) (Or.inr rfl) hF h

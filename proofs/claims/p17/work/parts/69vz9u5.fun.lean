/-! programs: the reference runs them (printed by fn29.py) -/
def HR (M : Mem) (m : Nat) (s : Nat → Int32) : Prop := ∀ k, k < m → iv M 215 k = s k
def FrR (M N : Mem) : Prop := ∀ c i, c ≠ 215 → mSlot N c i = mSlot M c i
theorem FrR.rf {M : Mem} : FrR M M := fun _ _ _ => rfl
theorem FrR.tr {M N O : Mem} (h : FrR M N) (h' : FrR N O) : FrR M O := fun c i a => (h' c i a).trans (h c i a)
theorem FrR.si {c i : Nat} {M N : Mem} (h : FrR M N) (a : c ≠ 215) : iv N c i = iv M c i := by unfold iv; rw [h c i a]
/-- a program as the reference keeps it, and the facts -/
def RP (q : Nat) (F : Nat → Int) (fc : Nat → Int32) (b0 C : Nat) (M : Mem) : Prop := (∀ i, b0 ≤ i → i < C → (iv M 209 (180 * q + i)).toInt = F i) ∧ (∀ v : Nat, v < 14 → iv M 216 v = fc v) ∧ q < 3 ∧ C ≤ 180
theorem RP.fr {q : Nat} {F : Nat → Int} {fc : Nat → Int32} {b0 C : Nat} {M N : Mem} (h : RP q F fc b0 C M) (f : FrR M N) : RP q F fc b0 C N :=
  ⟨fun i a b => by rw [f.si (by decide)]; exact h.1 i a b, fun v hv => by rw [f.si (by decide)]; exact h.2.1 v hv, h.2.2⟩
theorem c_of {x : Int32} {v : Int} (c : Int32) (h : x.toInt = v) (hc : c.toInt = v) : x = c := Int32.toInt_inj.mp (h.trans hc.symm)
/-- back at the loop's head -/
def RKn (n d : Nat) (x2 x4 : Int32) (M : Mem) (r : Option Value) (M1 : Mem) (y : Int) (m : Nat) (s : Nat → Int32) : Prop := ∃ (L' : MLoc) (N' : Mem) (x a : Int32), (mLd L' 0 = some (.ref 181) ∧ mLd L' 2 = some (.int x2) ∧ mLd L' 3 = some (.int a) ∧ mLd L' 4 = some (.int x4) ∧ mLd L' 5 = some (.int x) ∧ a.toInt = (m : Int) ∧ x.toInt = y) ∧ Sh N' ∧ HR N' m s ∧ FrR M N' ∧ En n d 214 16 L' [] N' r M1
theorem rkR_en {c x y : Int32} {op : Int} {n d : Nat} {M : Mem} {r : Option Value} {M1 : Mem} (ho : 2 ≤ op ∧ op ≤ 9) (hc : c.toInt = op) (hy : op = 5 ∨ op = 6 → ¬ y = 0) (h : En n d 213 0 (lv_args 0 [.int c, .int x, .int y]) [] M r M1) : r = some (.int (rkO op x y)) ∧ M1 = M := by
  replace h := eIload (mi := 213) (pc := 0) (len := 1) (i := 0) rfl rfl h
  rcases (show op = 2 ∨ op = 3 ∨ op = 4 ∨ op = 5 ∨ op = 6 ∨ op = 7 ∨ op = 8 ∨ op = 9 by omega) with q | q | q | q | q | q | q | q
  · subst q
    replace h := eTsw (o := 43) (t := 44) (mi := 213) (pc := 1) (len := 43) rfl (by rw [hc]; rfl) rfl h
    replace h := eIload (mi := 213) (pc := 44) (len := 1) (i := 1) rfl rfl h
    replace h := eIload (mi := 213) (pc := 45) (len := 1) (i := 2) rfl rfl h
    replace h := eAdd (mi := 213) (pc := 46) (len := 1) rfl h
    obtain ⟨e1, e2⟩ := eRetI (mi := 213) (pc := 47) (len := 1) rfl h
    have e3 : rkO 2 x y = (x + y) := by unfold rkO; rw [if_pos rfl]
    rw [e3]
    exact ⟨e1, e2⟩
  · subst q
    replace h := eTsw (o := 47) (t := 48) (mi := 213) (pc := 1) (len := 43) rfl (by rw [hc]; rfl) rfl h
    replace h := eIload (mi := 213) (pc := 48) (len := 1) (i := 1) rfl rfl h
    replace h := eIload (mi := 213) (pc := 49) (len := 1) (i := 2) rfl rfl h
    replace h := eSub (mi := 213) (pc := 50) (len := 1) rfl h
    obtain ⟨e1, e2⟩ := eRetI (mi := 213) (pc := 51) (len := 1) rfl h
    have e3 : rkO 3 x y = (x - y) := by unfold rkO; rw [if_neg (by decide), if_pos rfl]
    rw [e3]
    exact ⟨e1, e2⟩
  · subst q
    replace h := eTsw (o := 51) (t := 52) (mi := 213) (pc := 1) (len := 43) rfl (by rw [hc]; rfl) rfl h
    replace h := eIload (mi := 213) (pc := 52) (len := 1) (i := 1) rfl rfl h
    replace h := eIload (mi := 213) (pc := 53) (len := 1) (i := 2) rfl rfl h
    replace h := eMul (mi := 213) (pc := 54) (len := 1) rfl h
    obtain ⟨e1, e2⟩ := eRetI (mi := 213) (pc := 55) (len := 1) rfl h
    have e3 : rkO 4 x y = (x * y) := by unfold rkO; rw [if_neg (by decide), if_neg (by decide), if_pos rfl]
    rw [e3]
    exact ⟨e1, e2⟩
  · subst q
    replace h := eTsw (o := 55) (t := 56) (mi := 213) (pc := 1) (len := 43) rfl (by rw [hc]; rfl) rfl h
    replace h := eIload (mi := 213) (pc := 56) (len := 1) (i := 1) rfl rfl h
    replace h := eIload (mi := 213) (pc := 57) (len := 1) (i := 2) rfl rfl h
    replace h := eDiv (mi := 213) (pc := 58) (len := 1) rfl (hy (Or.inl rfl)) h
    obtain ⟨e1, e2⟩ := eRetI (mi := 213) (pc := 59) (len := 1) rfl h
    have e3 : rkO 5 x y = (x / y) := by unfold rkO; rw [if_neg (by decide), if_neg (by decide), if_neg (by decide), if_pos rfl]
    rw [e3]
    exact ⟨e1, e2⟩
  · subst q
    replace h := eTsw (o := 59) (t := 60) (mi := 213) (pc := 1) (len := 43) rfl (by rw [hc]; rfl) rfl h
    replace h := eIload (mi := 213) (pc := 60) (len := 1) (i := 1) rfl rfl h
    replace h := eIload (mi := 213) (pc := 61) (len := 1) (i := 2) rfl rfl h
    replace h := eRem (mi := 213) (pc := 62) (len := 1) rfl (hy (Or.inr rfl)) h
    obtain ⟨e1, e2⟩ := eRetI (mi := 213) (pc := 63) (len := 1) rfl h
    have e3 : rkO 6 x y = (x - x / y * y) := by unfold rkO; rw [if_neg (by decide), if_neg (by decide), if_neg (by decide), if_neg (by decide), if_pos rfl]
    rw [e3]
    exact ⟨e1, e2⟩
  · subst q
    replace h := eTsw (o := 63) (t := 64) (mi := 213) (pc := 1) (len := 43) rfl (by rw [hc]; rfl) rfl h
    replace h := eIload (mi := 213) (pc := 64) (len := 1) (i := 1) rfl rfl h
    replace h := eIload (mi := 213) (pc := 65) (len := 1) (i := 2) rfl rfl h
    rcases eIc (mi := 213) (pc := 66) (len := 3) (t := 73) rfl rfl h with ⟨c1, h⟩ | ⟨c1, h⟩
    · replace c1 : ¬ x.toInt < y.toInt := mC_ge.1 c1
      replace h := eConst (mi := 213) (pc := 73) (len := 1) (v := 0) rfl h
      obtain ⟨e1, e2⟩ := eRetI (mi := 213) (pc := 74) (len := 1) rfl h
      have e3 : rkO 7 x y = (0 : Int32) := by unfold rkO; rw [if_neg (by decide), if_neg (by decide), if_neg (by decide), if_neg (by decide), if_neg (by decide), if_pos rfl, if_neg c1]
      rw [e3]
      exact ⟨e1, e2⟩
    · replace c1 : x.toInt < y.toInt := mC_ge.2 c1
      replace h := eConst (mi := 213) (pc := 69) (len := 1) (v := 1) rfl h
      replace h := eGoto (mi := 213) (pc := 70) (len := 3) (t := 74) rfl rfl h
      obtain ⟨e1, e2⟩ := eRetI (mi := 213) (pc := 74) (len := 1) rfl h
      have e3 : rkO 7 x y = (1 : Int32) := by unfold rkO; rw [if_neg (by decide), if_neg (by decide), if_neg (by decide), if_neg (by decide), if_neg (by decide), if_pos rfl, if_pos c1]
      rw [e3]
      exact ⟨e1, e2⟩
  · subst q
    replace h := eTsw (o := 74) (t := 75) (mi := 213) (pc := 1) (len := 43) rfl (by rw [hc]; rfl) rfl h
    replace h := eIload (mi := 213) (pc := 75) (len := 1) (i := 1) rfl rfl h
    replace h := eIload (mi := 213) (pc := 76) (len := 1) (i := 2) rfl rfl h
    rcases eIc (mi := 213) (pc := 77) (len := 3) (t := 84) rfl rfl h with ⟨c1, h⟩ | ⟨c1, h⟩
    · replace c1 : ¬ y.toInt < x.toInt := mC_le.1 c1
      replace h := eConst (mi := 213) (pc := 84) (len := 1) (v := 0) rfl h
      obtain ⟨e1, e2⟩ := eRetI (mi := 213) (pc := 85) (len := 1) rfl h
      have e3 : rkO 8 x y = (0 : Int32) := by unfold rkO; rw [if_neg (by decide), if_neg (by decide), if_neg (by decide), if_neg (by decide), if_neg (by decide), if_neg (by decide), if_pos rfl, if_neg c1]
      rw [e3]
      exact ⟨e1, e2⟩
    · replace c1 : y.toInt < x.toInt := mC_le.2 c1
      replace h := eConst (mi := 213) (pc := 80) (len := 1) (v := 1) rfl h
      replace h := eGoto (mi := 213) (pc := 81) (len := 3) (t := 85) rfl rfl h
      obtain ⟨e1, e2⟩ := eRetI (mi := 213) (pc := 85) (len := 1) rfl h
      have e3 : rkO 8 x y = (1 : Int32) := by unfold rkO; rw [if_neg (by decide), if_neg (by decide), if_neg (by decide), if_neg (by decide), if_neg (by decide), if_neg (by decide), if_pos rfl, if_pos c1]
      rw [e3]
      exact ⟨e1, e2⟩
  · subst q
    replace h := eTsw (o := 85) (t := 86) (mi := 213) (pc := 1) (len := 43) rfl (by rw [hc]; rfl) rfl h
    replace h := eIload (mi := 213) (pc := 86) (len := 1) (i := 1) rfl rfl h
    replace h := eIload (mi := 213) (pc := 87) (len := 1) (i := 2) rfl rfl h
    rcases eIc (mi := 213) (pc := 88) (len := 3) (t := 95) rfl rfl h with ⟨c1, h⟩ | ⟨c1, h⟩
    · replace c1 : ¬ x.toInt = y.toInt := mC_ne.1 c1
      replace h := eConst (mi := 213) (pc := 95) (len := 1) (v := 0) rfl h
      obtain ⟨e1, e2⟩ := eRetI (mi := 213) (pc := 96) (len := 1) rfl h
      have e3 : rkO 9 x y = (0 : Int32) := by unfold rkO; rw [if_neg (by decide), if_neg (by decide), if_neg (by decide), if_neg (by decide), if_neg (by decide), if_neg (by decide), if_neg (by decide), if_neg c1]
      rw [e3]
      exact ⟨e1, e2⟩
    · replace c1 : x.toInt = y.toInt := mC_ne.2 c1
      replace h := eConst (mi := 213) (pc := 91) (len := 1) (v := 1) rfl h
      replace h := eGoto (mi := 213) (pc := 92) (len := 3) (t := 96) rfl rfl h
      obtain ⟨e1, e2⟩ := eRetI (mi := 213) (pc := 96) (len := 1) rfl h
      have e3 : rkO 9 x y = (1 : Int32) := by unfold rkO; rw [if_neg (by decide), if_neg (by decide), if_neg (by decide), if_neg (by decide), if_neg (by decide), if_neg (by decide), if_neg (by decide), if_pos c1]
      rw [e3]
      exact ⟨e1, e2⟩
theorem ce_0 {n d : Nat} {L : MLoc} {M : Mem} {r : Option Value} {M1 : Mem} {x2 x3 x4 x5 x7 : Int32} {y : Int} {m : Nat} {s : Nat → Int32} (l0 : mLd L 0 = some (.ref 181)) (l2 : mLd L 2 = some (.int x2)) (l3 : mLd L 3 = some (.int x3)) (l4 : mLd L 4 = some (.int x4)) (l5 : mLd L 5 = some (.int x5)) (l6 : mLd L 6 = some (.int (0 : Int32))) (l7 : mLd L 7 = some (.int x7)) (h5 : x5.toInt = y) (hS : Sh M) (hT : HR M m s) (h3 : x3.toInt = (m : Int)) (hm : m < 180) (h : En n d 214 54 L [] M r M1) : RKn n d x2 x4 M r M1 y (m + 1) (sUp s m x7) := by
  replace h := eIload (mi := 214) (pc := 54) (len := 2) (i := 6) rfl l6 h
  rcases eIf (mi := 214) (pc := 56) (len := 3) (t := 65) rfl rfl h with ⟨c1, h⟩ | ⟨c1, h⟩
  · skip
    replace h := eAload (mi := 214) (pc := 65) (len := 1) (i := 0) rfl l0 h
    replace h := eGetR (a := 181) (j := 1146) (g := 215) hS (by decide) (by decide) rfl rfl rfl (mi := 214) (pc := 66) (len := 3) rfl h
    replace h := eIload (mi := 214) (pc := 69) (len := 1) (i := 3) rfl l3 h
    replace h := eIload (mi := 214) (pc := 70) (len := 2) (i := 6) rfl l6 h
    rcases eIf (mi := 214) (pc := 72) (len := 3) (t := 80) rfl rfl h with ⟨c2, h⟩ | ⟨c2, h⟩
    · exact absurd c2 (by decide)
    · skip
      replace h := eIload (mi := 214) (pc := 75) (len := 2) (i := 7) rfl l7 h
      replace h := eGoto (mi := 214) (pc := 77) (len := 3) (t := 87) rfl rfl h
      obtain ⟨N4, eN4⟩ : ∃ X_, X_ = mPut M 215 x3.toInt.toNat (.int x7) := ⟨_, rfl⟩
      obtain ⟨b3, h⟩ := eIast (x := x3) (N := N4) hS (a := 215) (by decide) (by decide) eN4 (mi := 214) (pc := 87) (len := 1) rfl h
      have hS5 : Sh N4 := by rw [eN4]; exact hS.put (by decide) (by decide) rfl
      replace h := eIload (mi := 214) (pc := 88) (len := 1) (i := 3) rfl l3 h
      replace h := eConst (mi := 214) (pc := 89) (len := 1) (v := 1) rfl h
      replace h := eAdd (mi := 214) (pc := 90) (len := 1) rfl h
      replace h := eIstore (mi := 214) (pc := 91) (len := 1) (i := 3) rfl (by decide) h
      replace h := eGoto (mi := 214) (pc := 92) (len := 3) (t := 232) rfl rfl h
      replace h := eGoto (mi := 214) (pc := 232) (len := 3) (t := 16) rfl rfl h
      have ix : x3.toInt.toNat = m := by omega
      rw [ix] at eN4
      have fr : FrR M N4 := fun c i h1 => by rw [eN4, mSlot_put_ne (Or.inl h1)]
      have ht : HR N4 (m + 1) (sUp s m x7) := fun k hk => by
        rw [eN4]
        by_cases c : k = m
        · rw [c, iv_put_eq hS (by decide) (by decide) (show m < tSiz (tGrp 215) from hm), sUp_eq]
        · rw [iv_put_ne (Or.inr c), sUp_ne c]
          exact hT k (by omega)
      exact ⟨_, N4, _, _, ⟨(mLd_st1_ref (by decide) l0), (mLd_st1_int (by decide) l2), mLd_st1_i, (mLd_st1_int (by decide) l4), (mLd_st1_int (by decide) l5), (ic1 h3 (by omega) (by omega)).trans (by omega), h5⟩, hS5, ht, fr, h⟩
  · exact absurd c1 (by decide)
theorem ce_1 {n d : Nat} {L : MLoc} {M : Mem} {r : Option Value} {M1 : Mem} {x2 x3 x4 x5 x7 : Int32} {y : Int} {m : Nat} {s : Nat → Int32} (l0 : mLd L 0 = some (.ref 181)) (l2 : mLd L 2 = some (.int x2)) (l3 : mLd L 3 = some (.int x3)) (l4 : mLd L 4 = some (.int x4)) (l5 : mLd L 5 = some (.int x5)) (l6 : mLd L 6 = some (.int (1 : Int32))) (l7 : mLd L 7 = some (.int x7)) (h5 : x5.toInt = y) (hS : Sh M) (hT : HR M m s) (h3 : x3.toInt = (m : Int)) (hm : m < 180) (h : En n d 214 54 L [] M r M1) : RKn n d x2 x4 M r M1 y (m + 1) (sUp s m (iv M 216 x7.toInt.toNat)) := by
  replace h := eIload (mi := 214) (pc := 54) (len := 2) (i := 6) rfl l6 h
  rcases eIf (mi := 214) (pc := 56) (len := 3) (t := 65) rfl rfl h with ⟨c1, h⟩ | ⟨c1, h⟩
  · exact absurd c1 (by decide)
  · skip
    replace h := eIload (mi := 214) (pc := 59) (len := 2) (i := 6) rfl l6 h
    replace h := eConst (mi := 214) (pc := 61) (len := 1) (v := 1) rfl h
    rcases eIc (mi := 214) (pc := 62) (len := 3) (t := 95) rfl rfl h with ⟨c2, h⟩ | ⟨c2, h⟩
    · exact absurd c2 (by decide)
    · skip
      replace h := eAload (mi := 214) (pc := 65) (len := 1) (i := 0) rfl l0 h
      replace h := eGetR (a := 181) (j := 1146) (g := 215) hS (by decide) (by decide) rfl rfl rfl (mi := 214) (pc := 66) (len := 3) rfl h
      replace h := eIload (mi := 214) (pc := 69) (len := 1) (i := 3) rfl l3 h
      replace h := eIload (mi := 214) (pc := 70) (len := 2) (i := 6) rfl l6 h
      rcases eIf (mi := 214) (pc := 72) (len := 3) (t := 80) rfl rfl h with ⟨c3, h⟩ | ⟨c3, h⟩
      · skip
        replace h := eAload (mi := 214) (pc := 80) (len := 1) (i := 0) rfl l0 h
        replace h := eGetR (a := 181) (j := 1147) (g := 216) hS (by decide) (by decide) rfl rfl rfl (mi := 214) (pc := 81) (len := 3) rfl h
        replace h := eIload (mi := 214) (pc := 84) (len := 2) (i := 7) rfl l7 h
        obtain ⟨b4, h⟩ := eIald (x := x7) hS (a := 216) (by decide) (by decide) rfl (mi := 214) (pc := 86) (len := 1) rfl h
        obtain ⟨N6, eN6⟩ : ∃ X_, X_ = mPut M 215 x3.toInt.toNat (.int (iv M 216 x7.toInt.toNat)) := ⟨_, rfl⟩
        obtain ⟨b5, h⟩ := eIast (x := x3) (N := N6) hS (a := 215) (by decide) (by decide) eN6 (mi := 214) (pc := 87) (len := 1) rfl h
        have hS7 : Sh N6 := by rw [eN6]; exact hS.put (by decide) (by decide) rfl
        replace h := eIload (mi := 214) (pc := 88) (len := 1) (i := 3) rfl l3 h
        replace h := eConst (mi := 214) (pc := 89) (len := 1) (v := 1) rfl h
        replace h := eAdd (mi := 214) (pc := 90) (len := 1) rfl h
        replace h := eIstore (mi := 214) (pc := 91) (len := 1) (i := 3) rfl (by decide) h
        replace h := eGoto (mi := 214) (pc := 92) (len := 3) (t := 232) rfl rfl h
        replace h := eGoto (mi := 214) (pc := 232) (len := 3) (t := 16) rfl rfl h
        have ix : x3.toInt.toNat = m := by omega
        rw [ix] at eN6
        have fr : FrR M N6 := fun c i h1 => by rw [eN6, mSlot_put_ne (Or.inl h1)]
        have ht : HR N6 (m + 1) (sUp s m (iv M 216 x7.toInt.toNat)) := fun k hk => by
          rw [eN6]
          by_cases c : k = m
          · rw [c, iv_put_eq hS (by decide) (by decide) (show m < tSiz (tGrp 215) from hm), sUp_eq]
          · rw [iv_put_ne (Or.inr c), sUp_ne c]
            exact hT k (by omega)
        exact ⟨_, N6, _, _, ⟨(mLd_st1_ref (by decide) l0), (mLd_st1_int (by decide) l2), mLd_st1_i, (mLd_st1_int (by decide) l4), (mLd_st1_int (by decide) l5), (ic1 h3 (by omega) (by omega)).trans (by omega), h5⟩, hS7, ht, fr, h⟩
      · exact absurd c3 (by decide)
theorem ce_10 {n d : Nat} {L : MLoc} {M : Mem} {r : Option Value} {M1 : Mem} {x2 x3 x4 x5 x7 : Int32} {y : Int} {m : Nat} {s : Nat → Int32} (l0 : mLd L 0 = some (.ref 181)) (l2 : mLd L 2 = some (.int x2)) (l3 : mLd L 3 = some (.int x3)) (l4 : mLd L 4 = some (.int x4)) (l5 : mLd L 5 = some (.int x5)) (l6 : mLd L 6 = some (.int (10 : Int32))) (l7 : mLd L 7 = some (.int x7)) (h5 : x5.toInt = y) (hS : Sh M) (hT : HR M 1 s) (h3 : x3.toInt = 1) (h : En n d 214 54 L [] M r M1) : RKn n d x2 x4 M r M1 y 1 (sUp s 0 (1 - s 0)) := by
  have ix : (x3 - (1 : Int32)).toInt.toNat = 0 := by have := dc1 h3 (by omega) (by omega); omega
  have s0 : iv M 215 0 = s 0 := hT 0 (by omega)
  have hm : 0 < 180 := by decide
  replace h := eIload (mi := 214) (pc := 54) (len := 2) (i := 6) rfl l6 h
  rcases eIf (mi := 214) (pc := 56) (len := 3) (t := 65) rfl rfl h with ⟨c1, h⟩ | ⟨c1, h⟩
  · exact absurd c1 (by decide)
  · skip
    replace h := eIload (mi := 214) (pc := 59) (len := 2) (i := 6) rfl l6 h
    replace h := eConst (mi := 214) (pc := 61) (len := 1) (v := 1) rfl h
    rcases eIc (mi := 214) (pc := 62) (len := 3) (t := 95) rfl rfl h with ⟨c2, h⟩ | ⟨c2, h⟩
    · skip
      replace h := eIload (mi := 214) (pc := 95) (len := 2) (i := 6) rfl l6 h
      replace h := eConst (mi := 214) (pc := 97) (len := 2) (v := 10) rfl h
      rcases eIc (mi := 214) (pc := 99) (len := 3) (t := 123) rfl rfl h with ⟨c3, h⟩ | ⟨c3, h⟩
      · exact absurd c3 (by decide)
      · skip
        replace h := eAload (mi := 214) (pc := 102) (len := 1) (i := 0) rfl l0 h
        replace h := eGetR (a := 181) (j := 1146) (g := 215) hS (by decide) (by decide) rfl rfl rfl (mi := 214) (pc := 103) (len := 3) rfl h
        replace h := eIload (mi := 214) (pc := 106) (len := 1) (i := 3) rfl l3 h
        replace h := eConst (mi := 214) (pc := 107) (len := 1) (v := 1) rfl h
        replace h := eSub (mi := 214) (pc := 108) (len := 1) rfl h
        replace h := eConst (mi := 214) (pc := 109) (len := 1) (v := 1) rfl h
        replace h := eAload (mi := 214) (pc := 110) (len := 1) (i := 0) rfl l0 h
        replace h := eGetR (a := 181) (j := 1146) (g := 215) hS (by decide) (by decide) rfl rfl rfl (mi := 214) (pc := 111) (len := 3) rfl h
        replace h := eIload (mi := 214) (pc := 114) (len := 1) (i := 3) rfl l3 h
        replace h := eConst (mi := 214) (pc := 115) (len := 1) (v := 1) rfl h
        replace h := eSub (mi := 214) (pc := 116) (len := 1) rfl h
        obtain ⟨b4, h⟩ := eIald (x := (x3 - (1 : Int32))) hS (a := 215) (by decide) (by decide) rfl (mi := 214) (pc := 117) (len := 1) rfl h
        replace h := eSub (mi := 214) (pc := 118) (len := 1) rfl h
        obtain ⟨N6, eN6⟩ : ∃ X_, X_ = mPut M 215 (x3 - (1 : Int32)).toInt.toNat (.int ((1 : Int32) - (iv M 215 (x3 - (1 : Int32)).toInt.toNat))) := ⟨_, rfl⟩
        obtain ⟨b5, h⟩ := eIast (x := (x3 - (1 : Int32))) (N := N6) hS (a := 215) (by decide) (by decide) eN6 (mi := 214) (pc := 119) (len := 1) rfl h
        have hS7 : Sh N6 := by rw [eN6]; exact hS.put (by decide) (by decide) rfl
        replace h := eGoto (mi := 214) (pc := 120) (len := 3) (t := 232) rfl rfl h
        replace h := eGoto (mi := 214) (pc := 232) (len := 3) (t := 16) rfl rfl h
        rw [ix, s0] at eN6
        have fr : FrR M N6 := fun c i h1 => by rw [eN6, mSlot_put_ne (Or.inl h1)]
        have ht : HR N6 1 (sUp s 0 (1 - s 0)) := fun k hk => by
          rw [eN6]
          by_cases c : k = 0
          · rw [c, iv_put_eq hS (by decide) (by decide) (show 0 < tSiz (tGrp 215) from hm), sUp_eq]
          · rw [iv_put_ne (Or.inr c), sUp_ne c]
            exact hT k (by omega)
        exact ⟨_, N6, _, _, ⟨l0, l2, l3, l4, l5, h3, h5⟩, hS7, ht, fr, h⟩
    · exact absurd c2 (by decide)
theorem ce_11 {n d : Nat} {L : MLoc} {M : Mem} {r : Option Value} {M1 : Mem} {x2 x3 x4 x5 x7 : Int32} {y : Int} {m : Nat} {s : Nat → Int32} {a4 a7 : Int} (l0 : mLd L 0 = some (.ref 181)) (l2 : mLd L 2 = some (.int x2)) (l3 : mLd L 3 = some (.int x3)) (l4 : mLd L 4 = some (.int x4)) (l5 : mLd L 5 = some (.int x5)) (l6 : mLd L 6 = some (.int (11 : Int32))) (l7 : mLd L 7 = some (.int x7)) (h5 : x5.toInt = y) (hS : Sh M) (hT : HR M 1 s) (h3 : x3.toInt = 1) (h4 : x4.toInt = a4) (h7 : x7.toInt = a7) (hb : 0 ≤ a4 ∧ a4 ≤ 1000 ∧ 0 ≤ a7 ∧ a7 ≤ 1000) (h : En n d 214 54 L [] M r M1) : if (s 0).toInt = 0 then RKn n d x2 x4 M r M1 (a4 + a7) 1 s else RKn n d x2 x4 M r M1 y 0 s := by
  have ix : (x3 - (1 : Int32)).toInt.toNat = 0 := by have := dc1 h3 (by omega) (by omega); omega
  have s0 : iv M 215 0 = s 0 := hT 0 (by omega)
  replace h := eIload (mi := 214) (pc := 54) (len := 2) (i := 6) rfl l6 h
  rcases eIf (mi := 214) (pc := 56) (len := 3) (t := 65) rfl rfl h with ⟨c1, h⟩ | ⟨c1, h⟩
  · exact absurd c1 (by decide)
  · skip
    replace h := eIload (mi := 214) (pc := 59) (len := 2) (i := 6) rfl l6 h
    replace h := eConst (mi := 214) (pc := 61) (len := 1) (v := 1) rfl h
    rcases eIc (mi := 214) (pc := 62) (len := 3) (t := 95) rfl rfl h with ⟨c2, h⟩ | ⟨c2, h⟩
    · skip
      replace h := eIload (mi := 214) (pc := 95) (len := 2) (i := 6) rfl l6 h
      replace h := eConst (mi := 214) (pc := 97) (len := 2) (v := 10) rfl h
      rcases eIc (mi := 214) (pc := 99) (len := 3) (t := 123) rfl rfl h with ⟨c3, h⟩ | ⟨c3, h⟩
      · skip
        replace h := eIload (mi := 214) (pc := 123) (len := 2) (i := 6) rfl l6 h
        replace h := eConst (mi := 214) (pc := 125) (len := 2) (v := 11) rfl h
        rcases eIc (mi := 214) (pc := 127) (len := 3) (t := 137) rfl rfl h with ⟨c4, h⟩ | ⟨c4, h⟩
        · skip
          replace h := eAload (mi := 214) (pc := 137) (len := 1) (i := 0) rfl l0 h
          replace h := eGetR (a := 181) (j := 1146) (g := 215) hS (by decide) (by decide) rfl rfl rfl (mi := 214) (pc := 138) (len := 3) rfl h
          replace h := eIload (mi := 214) (pc := 141) (len := 1) (i := 3) rfl l3 h
          replace h := eConst (mi := 214) (pc := 142) (len := 1) (v := 1) rfl h
          replace h := eSub (mi := 214) (pc := 143) (len := 1) rfl h
          obtain ⟨b5, h⟩ := eIald (x := (x3 - (1 : Int32))) hS (a := 215) (by decide) (by decide) rfl (mi := 214) (pc := 144) (len := 1) rfl h
          replace h := eIload (mi := 214) (pc := 145) (len := 2) (i := 6) rfl l6 h
          replace h := eConst (mi := 214) (pc := 147) (len := 2) (v := 12) rfl h
          rcases eIc (mi := 214) (pc := 149) (len := 3) (t := 156) rfl rfl h with ⟨c6, h⟩ | ⟨c6, h⟩
          · skip
            replace h := eConst (mi := 214) (pc := 156) (len := 1) (v := 0) rfl h
            rcases eIc (mi := 214) (pc := 157) (len := 3) (t := 170) rfl rfl h with ⟨c7, h⟩ | ⟨c7, h⟩
            · replace c7 : ¬ (iv M 215 (x3 - (1 : Int32)).toInt.toNat).toInt = 0 := mC_ne.1 c7
              replace h := eIload (mi := 214) (pc := 170) (len := 1) (i := 3) rfl l3 h
              replace h := eConst (mi := 214) (pc := 171) (len := 1) (v := 1) rfl h
              replace h := eSub (mi := 214) (pc := 172) (len := 1) rfl h
              replace h := eIstore (mi := 214) (pc := 173) (len := 1) (i := 3) rfl (by decide) h
              replace h := eGoto (mi := 214) (pc := 174) (len := 3) (t := 232) rfl rfl h
              replace h := eGoto (mi := 214) (pc := 232) (len := 3) (t := 16) rfl rfl h
              rw [ix, s0] at c7
              rw [if_neg c7]
              exact ⟨_, M, _, _, ⟨(mLd_st1_ref (by decide) l0), (mLd_st1_int (by decide) l2), mLd_st1_i, (mLd_st1_int (by decide) l4), (mLd_st1_int (by decide) l5), (dc1 h3 (by omega) (by omega)).trans (by omega), h5⟩, hS, (fun k hk => absurd hk (by omega)), FrR.rf, h⟩
            · replace c7 : (iv M 215 (x3 - (1 : Int32)).toInt.toNat).toInt = 0 := mC_ne.2 c7
              replace h := eIload (mi := 214) (pc := 160) (len := 2) (i := 4) rfl l4 h
              replace h := eIload (mi := 214) (pc := 162) (len := 2) (i := 7) rfl l7 h
              replace h := eAdd (mi := 214) (pc := 164) (len := 1) rfl h
              replace h := eIstore (mi := 214) (pc := 165) (len := 2) (i := 5) rfl (by decide) h
              replace h := eGoto (mi := 214) (pc := 167) (len := 3) (t := 232) rfl rfl h
              replace h := eGoto (mi := 214) (pc := 232) (len := 3) (t := 16) rfl rfl h
              rw [ix, s0] at c7
              rw [if_pos c7]
              exact ⟨_, M, _, _, ⟨(mLd_st1_ref (by decide) l0), (mLd_st1_int (by decide) l2), (mLd_st1_int (by decide) l3), (mLd_st1_int (by decide) l4), mLd_st1_i, h3, (i32_add (by omega) (by omega)).trans (by omega)⟩, hS, hT, FrR.rf, h⟩
          · exact absurd c6 (by decide)
        · exact absurd c4 (by decide)
      · exact absurd c3 (by decide)
    · exact absurd c2 (by decide)
theorem ce_12 {n d : Nat} {L : MLoc} {M : Mem} {r : Option Value} {M1 : Mem} {x2 x3 x4 x5 x7 : Int32} {y : Int} {m : Nat} {s : Nat → Int32} {a4 a7 : Int} (l0 : mLd L 0 = some (.ref 181)) (l2 : mLd L 2 = some (.int x2)) (l3 : mLd L 3 = some (.int x3)) (l4 : mLd L 4 = some (.int x4)) (l5 : mLd L 5 = some (.int x5)) (l6 : mLd L 6 = some (.int (12 : Int32))) (l7 : mLd L 7 = some (.int x7)) (h5 : x5.toInt = y) (hS : Sh M) (hT : HR M 1 s) (h3 : x3.toInt = 1) (h4 : x4.toInt = a4) (h7 : x7.toInt = a7) (hb : 0 ≤ a4 ∧ a4 ≤ 1000 ∧ 0 ≤ a7 ∧ a7 ≤ 1000) (h : En n d 214 54 L [] M r M1) : if (s 0).toInt = 1 then RKn n d x2 x4 M r M1 (a4 + a7) 1 s else RKn n d x2 x4 M r M1 y 0 s := by
  have ix : (x3 - (1 : Int32)).toInt.toNat = 0 := by have := dc1 h3 (by omega) (by omega); omega
  have s0 : iv M 215 0 = s 0 := hT 0 (by omega)
  replace h := eIload (mi := 214) (pc := 54) (len := 2) (i := 6) rfl l6 h
  rcases eIf (mi := 214) (pc := 56) (len := 3) (t := 65) rfl rfl h with ⟨c1, h⟩ | ⟨c1, h⟩
  · exact absurd c1 (by decide)
  · skip
    replace h := eIload (mi := 214) (pc := 59) (len := 2) (i := 6) rfl l6 h
    replace h := eConst (mi := 214) (pc := 61) (len := 1) (v := 1) rfl h
    rcases eIc (mi := 214) (pc := 62) (len := 3) (t := 95) rfl rfl h with ⟨c2, h⟩ | ⟨c2, h⟩
    · skip
      replace h := eIload (mi := 214) (pc := 95) (len := 2) (i := 6) rfl l6 h
      replace h := eConst (mi := 214) (pc := 97) (len := 2) (v := 10) rfl h
      rcases eIc (mi := 214) (pc := 99) (len := 3) (t := 123) rfl rfl h with ⟨c3, h⟩ | ⟨c3, h⟩
      · skip
        replace h := eIload (mi := 214) (pc := 123) (len := 2) (i := 6) rfl l6 h
        replace h := eConst (mi := 214) (pc := 125) (len := 2) (v := 11) rfl h
        rcases eIc (mi := 214) (pc := 127) (len := 3) (t := 137) rfl rfl h with ⟨c4, h⟩ | ⟨c4, h⟩
        · exact absurd c4 (by decide)
        · skip
          replace h := eIload (mi := 214) (pc := 130) (len := 2) (i := 6) rfl l6 h
          replace h := eConst (mi := 214) (pc := 132) (len := 2) (v := 12) rfl h
          rcases eIc (mi := 214) (pc := 134) (len := 3) (t := 177) rfl rfl h with ⟨c5, h⟩ | ⟨c5, h⟩
          · exact absurd c5 (by decide)
          · skip
            replace h := eAload (mi := 214) (pc := 137) (len := 1) (i := 0) rfl l0 h
            replace h := eGetR (a := 181) (j := 1146) (g := 215) hS (by decide) (by decide) rfl rfl rfl (mi := 214) (pc := 138) (len := 3) rfl h
            replace h := eIload (mi := 214) (pc := 141) (len := 1) (i := 3) rfl l3 h
            replace h := eConst (mi := 214) (pc := 142) (len := 1) (v := 1) rfl h
            replace h := eSub (mi := 214) (pc := 143) (len := 1) rfl h
            obtain ⟨b6, h⟩ := eIald (x := (x3 - (1 : Int32))) hS (a := 215) (by decide) (by decide) rfl (mi := 214) (pc := 144) (len := 1) rfl h
            replace h := eIload (mi := 214) (pc := 145) (len := 2) (i := 6) rfl l6 h
            replace h := eConst (mi := 214) (pc := 147) (len := 2) (v := 12) rfl h
            rcases eIc (mi := 214) (pc := 149) (len := 3) (t := 156) rfl rfl h with ⟨c7, h⟩ | ⟨c7, h⟩
            · exact absurd c7 (by decide)
            · skip
              replace h := eConst (mi := 214) (pc := 152) (len := 1) (v := 1) rfl h
              replace h := eGoto (mi := 214) (pc := 153) (len := 3) (t := 157) rfl rfl h
              rcases eIc (mi := 214) (pc := 157) (len := 3) (t := 170) rfl rfl h with ⟨c8, h⟩ | ⟨c8, h⟩
              · replace c8 : ¬ (iv M 215 (x3 - (1 : Int32)).toInt.toNat).toInt = 1 := mC_ne.1 c8
                replace h := eIload (mi := 214) (pc := 170) (len := 1) (i := 3) rfl l3 h
                replace h := eConst (mi := 214) (pc := 171) (len := 1) (v := 1) rfl h
                replace h := eSub (mi := 214) (pc := 172) (len := 1) rfl h
                replace h := eIstore (mi := 214) (pc := 173) (len := 1) (i := 3) rfl (by decide) h
                replace h := eGoto (mi := 214) (pc := 174) (len := 3) (t := 232) rfl rfl h
                replace h := eGoto (mi := 214) (pc := 232) (len := 3) (t := 16) rfl rfl h
                rw [ix, s0] at c8
                rw [if_neg c8]
                exact ⟨_, M, _, _, ⟨(mLd_st1_ref (by decide) l0), (mLd_st1_int (by decide) l2), mLd_st1_i, (mLd_st1_int (by decide) l4), (mLd_st1_int (by decide) l5), (dc1 h3 (by omega) (by omega)).trans (by omega), h5⟩, hS, (fun k hk => absurd hk (by omega)), FrR.rf, h⟩
              · replace c8 : (iv M 215 (x3 - (1 : Int32)).toInt.toNat).toInt = 1 := mC_ne.2 c8
                replace h := eIload (mi := 214) (pc := 160) (len := 2) (i := 4) rfl l4 h
                replace h := eIload (mi := 214) (pc := 162) (len := 2) (i := 7) rfl l7 h
                replace h := eAdd (mi := 214) (pc := 164) (len := 1) rfl h
                replace h := eIstore (mi := 214) (pc := 165) (len := 2) (i := 5) rfl (by decide) h
                replace h := eGoto (mi := 214) (pc := 167) (len := 3) (t := 232) rfl rfl h
                replace h := eGoto (mi := 214) (pc := 232) (len := 3) (t := 16) rfl rfl h
                rw [ix, s0] at c8
                rw [if_pos c8]
                exact ⟨_, M, _, _, ⟨(mLd_st1_ref (by decide) l0), (mLd_st1_int (by decide) l2), (mLd_st1_int (by decide) l3), (mLd_st1_int (by decide) l4), mLd_st1_i, h3, (i32_add (by omega) (by omega)).trans (by omega)⟩, hS, hT, FrR.rf, h⟩
      · exact absurd c3 (by decide)
    · exact absurd c2 (by decide)
theorem ce_2 {n d : Nat} {L : MLoc} {M : Mem} {r : Option Value} {M1 : Mem} {x2 x3 x4 x5 x7 : Int32} {y : Int} {m : Nat} {s : Nat → Int32} (l0 : mLd L 0 = some (.ref 181)) (l2 : mLd L 2 = some (.int x2)) (l3 : mLd L 3 = some (.int x3)) (l4 : mLd L 4 = some (.int x4)) (l5 : mLd L 5 = some (.int x5)) (l6 : mLd L 6 = some (.int (2 : Int32))) (l7 : mLd L 7 = some (.int x7)) (h5 : x5.toInt = y) (hS : Sh M) (hT : HR M (m + 2) s) (h3 : x3.toInt = ((m : Int) + 2)) (hm : m < 180) (h : En n d 214 54 L [] M r M1) : RKn n d x2 x4 M r M1 y (m + 1) (sUp s m (rkO 2 (s m) (s (m + 1)))) := by
  have j1 : (x3 - (1 : Int32)).toInt = (m : Int) + 1 := (dc1 h3 (by omega) (by omega)).trans (by omega)
  have iy : (x3 - (1 : Int32)).toInt.toNat = m + 1 := by omega
  have ix : (x3 - (1 : Int32) - (1 : Int32)).toInt.toNat = m := by have := dc1 j1 (by omega) (by omega); omega
  have s0 : iv M 215 m = s m := hT m (by omega)
  have s1 : iv M 215 (m + 1) = s (m + 1) := hT (m + 1) (by omega)
  replace h := eIload (mi := 214) (pc := 54) (len := 2) (i := 6) rfl l6 h
  rcases eIf (mi := 214) (pc := 56) (len := 3) (t := 65) rfl rfl h with ⟨c1, h⟩ | ⟨c1, h⟩
  · exact absurd c1 (by decide)
  · skip
    replace h := eIload (mi := 214) (pc := 59) (len := 2) (i := 6) rfl l6 h
    replace h := eConst (mi := 214) (pc := 61) (len := 1) (v := 1) rfl h
    rcases eIc (mi := 214) (pc := 62) (len := 3) (t := 95) rfl rfl h with ⟨c2, h⟩ | ⟨c2, h⟩
    · skip
      replace h := eIload (mi := 214) (pc := 95) (len := 2) (i := 6) rfl l6 h
      replace h := eConst (mi := 214) (pc := 97) (len := 2) (v := 10) rfl h
      rcases eIc (mi := 214) (pc := 99) (len := 3) (t := 123) rfl rfl h with ⟨c3, h⟩ | ⟨c3, h⟩
      · skip
        replace h := eIload (mi := 214) (pc := 123) (len := 2) (i := 6) rfl l6 h
        replace h := eConst (mi := 214) (pc := 125) (len := 2) (v := 11) rfl h
        rcases eIc (mi := 214) (pc := 127) (len := 3) (t := 137) rfl rfl h with ⟨c4, h⟩ | ⟨c4, h⟩
        · exact absurd c4 (by decide)
        · skip
          replace h := eIload (mi := 214) (pc := 130) (len := 2) (i := 6) rfl l6 h
          replace h := eConst (mi := 214) (pc := 132) (len := 2) (v := 12) rfl h
          rcases eIc (mi := 214) (pc := 134) (len := 3) (t := 177) rfl rfl h with ⟨c5, h⟩ | ⟨c5, h⟩
          · skip
            replace h := eIload (mi := 214) (pc := 177) (len := 1) (i := 3) rfl l3 h
            replace h := eConst (mi := 214) (pc := 178) (len := 1) (v := 1) rfl h
            replace h := eSub (mi := 214) (pc := 179) (len := 1) rfl h
            replace h := eIstore (mi := 214) (pc := 180) (len := 1) (i := 3) rfl (by decide) h
            replace h := eIload (mi := 214) (pc := 181) (len := 2) (i := 6) rfl (mLd_st1_int (by decide) l6) h
            replace h := eConst (mi := 214) (pc := 183) (len := 1) (v := 5) rfl h
            rcases eIc (mi := 214) (pc := 184) (len := 3) (t := 194) rfl rfl h with ⟨c6, h⟩ | ⟨c6, h⟩
            · exact absurd c6 (by decide)
            · skip
              replace h := eIload (mi := 214) (pc := 187) (len := 2) (i := 6) rfl (mLd_st1_int (by decide) l6) h
              replace h := eConst (mi := 214) (pc := 189) (len := 2) (v := 6) rfl h
              rcases eIc (mi := 214) (pc := 191) (len := 3) (t := 205) rfl rfl h with ⟨c7, h⟩ | ⟨c7, h⟩
              · skip
                replace h := eAload (mi := 214) (pc := 205) (len := 1) (i := 0) rfl (mLd_st1_ref (by decide) l0) h
                replace h := eGetR (a := 181) (j := 1146) (g := 215) hS (by decide) (by decide) rfl rfl rfl (mi := 214) (pc := 206) (len := 3) rfl h
                replace h := eIload (mi := 214) (pc := 209) (len := 1) (i := 3) rfl mLd_st1_i h
                replace h := eConst (mi := 214) (pc := 210) (len := 1) (v := 1) rfl h
                replace h := eSub (mi := 214) (pc := 211) (len := 1) rfl h
                replace h := eIload (mi := 214) (pc := 212) (len := 2) (i := 6) rfl (mLd_st1_int (by decide) l6) h
                replace h := eAload (mi := 214) (pc := 214) (len := 1) (i := 0) rfl (mLd_st1_ref (by decide) l0) h
                replace h := eGetR (a := 181) (j := 1146) (g := 215) hS (by decide) (by decide) rfl rfl rfl (mi := 214) (pc := 215) (len := 3) rfl h
                replace h := eIload (mi := 214) (pc := 218) (len := 1) (i := 3) rfl mLd_st1_i h
                replace h := eConst (mi := 214) (pc := 219) (len := 1) (v := 1) rfl h
                replace h := eSub (mi := 214) (pc := 220) (len := 1) rfl h
                obtain ⟨b8, h⟩ := eIald (x := ((x3 - (1 : Int32)) - (1 : Int32))) hS (a := 215) (by decide) (by decide) rfl (mi := 214) (pc := 221) (len := 1) rfl h
                replace h := eAload (mi := 214) (pc := 222) (len := 1) (i := 0) rfl (mLd_st1_ref (by decide) l0) h
                replace h := eGetR (a := 181) (j := 1146) (g := 215) hS (by decide) (by decide) rfl rfl rfl (mi := 214) (pc := 223) (len := 3) rfl h
                replace h := eIload (mi := 214) (pc := 226) (len := 1) (i := 3) rfl mLd_st1_i h
                obtain ⟨b9, h⟩ := eIald (x := (x3 - (1 : Int32))) hS (a := 215) (by decide) (by decide) rfl (mi := 214) (pc := 227) (len := 1) rfl h
                obtain ⟨r10, N11, g12, h⟩ := eCall (mi := 214) (pc := 228) (len := 3) (j := 213) (as := [.int (2 : Int32), .int (iv M 215 ((x3 - (1 : Int32)) - (1 : Int32)).toInt.toNat), .int (iv M 215 (x3 - (1 : Int32)).toInt.toNat)]) (rest := [.int ((x3 - (1 : Int32)) - (1 : Int32)), .ref 215]) rfl (Or.inl rfl) (by decide) rfl rfl h
                rw [ix, iy, s0, s1] at g12
                obtain ⟨qN11, wN11⟩ := rkR_en (op := 2) (by decide) rfl (fun q => by omega) g12
                rw [qN11, wN11] at h
                obtain ⟨N14, eN14⟩ : ∃ X_, X_ = mPut M 215 ((x3 - (1 : Int32)) - (1 : Int32)).toInt.toNat (.int (rkO 2 (s m) (s (m + 1)))) := ⟨_, rfl⟩
                obtain ⟨b13, h⟩ := eIast (x := ((x3 - (1 : Int32)) - (1 : Int32))) (N := N14) hS (a := 215) (by decide) (by decide) eN14 (mi := 214) (pc := 231) (len := 1) rfl h
                have hS15 : Sh N14 := by rw [eN14]; exact hS.put (by decide) (by decide) rfl
                replace h := eGoto (mi := 214) (pc := 232) (len := 3) (t := 16) rfl rfl h
                rw [ix] at eN14
                have fr : FrR M N14 := fun c i h1 => by rw [eN14, mSlot_put_ne (Or.inl h1)]
                have ht : HR N14 (m + 1) (sUp s m (rkO 2 (s m) (s (m + 1)))) := fun k hk => by
                  rw [eN14]
                  by_cases c : k = m
                  · rw [c, iv_put_eq hS (by decide) (by decide) (show m < tSiz (tGrp 215) from hm), sUp_eq]
                  · rw [iv_put_ne (Or.inr c), sUp_ne c]
                    exact hT k (by omega)
                exact ⟨_, N14, _, _, ⟨(mLd_st1_ref (by decide) l0), (mLd_st1_int (by decide) l2), mLd_st1_i, (mLd_st1_int (by decide) l4), (mLd_st1_int (by decide) l5), (dc1 h3 (by omega) (by omega)).trans (by omega), h5⟩, hS15, ht, fr, h⟩
              · exact absurd c7 (by decide)
          · exact absurd c5 (by decide)
      · exact absurd c3 (by decide)
    · exact absurd c2 (by decide)
theorem ce_3 {n d : Nat} {L : MLoc} {M : Mem} {r : Option Value} {M1 : Mem} {x2 x3 x4 x5 x7 : Int32} {y : Int} {m : Nat} {s : Nat → Int32} (l0 : mLd L 0 = some (.ref 181)) (l2 : mLd L 2 = some (.int x2)) (l3 : mLd L 3 = some (.int x3)) (l4 : mLd L 4 = some (.int x4)) (l5 : mLd L 5 = some (.int x5)) (l6 : mLd L 6 = some (.int (3 : Int32))) (l7 : mLd L 7 = some (.int x7)) (h5 : x5.toInt = y) (hS : Sh M) (hT : HR M (m + 2) s) (h3 : x3.toInt = ((m : Int) + 2)) (hm : m < 180) (h : En n d 214 54 L [] M r M1) : RKn n d x2 x4 M r M1 y (m + 1) (sUp s m (rkO 3 (s m) (s (m + 1)))) := by
  have j1 : (x3 - (1 : Int32)).toInt = (m : Int) + 1 := (dc1 h3 (by omega) (by omega)).trans (by omega)
  have iy : (x3 - (1 : Int32)).toInt.toNat = m + 1 := by omega
  have ix : (x3 - (1 : Int32) - (1 : Int32)).toInt.toNat = m := by have := dc1 j1 (by omega) (by omega); omega
  have s0 : iv M 215 m = s m := hT m (by omega)
  have s1 : iv M 215 (m + 1) = s (m + 1) := hT (m + 1) (by omega)
  replace h := eIload (mi := 214) (pc := 54) (len := 2) (i := 6) rfl l6 h
  rcases eIf (mi := 214) (pc := 56) (len := 3) (t := 65) rfl rfl h with ⟨c1, h⟩ | ⟨c1, h⟩
  · exact absurd c1 (by decide)
  · skip
    replace h := eIload (mi := 214) (pc := 59) (len := 2) (i := 6) rfl l6 h
    replace h := eConst (mi := 214) (pc := 61) (len := 1) (v := 1) rfl h
    rcases eIc (mi := 214) (pc := 62) (len := 3) (t := 95) rfl rfl h with ⟨c2, h⟩ | ⟨c2, h⟩
    · skip
      replace h := eIload (mi := 214) (pc := 95) (len := 2) (i := 6) rfl l6 h
      replace h := eConst (mi := 214) (pc := 97) (len := 2) (v := 10) rfl h
      rcases eIc (mi := 214) (pc := 99) (len := 3) (t := 123) rfl rfl h with ⟨c3, h⟩ | ⟨c3, h⟩
      · skip
        replace h := eIload (mi := 214) (pc := 123) (len := 2) (i := 6) rfl l6 h
        replace h := eConst (mi := 214) (pc := 125) (len := 2) (v := 11) rfl h
        rcases eIc (mi := 214) (pc := 127) (len := 3) (t := 137) rfl rfl h with ⟨c4, h⟩ | ⟨c4, h⟩
        · exact absurd c4 (by decide)
        · skip
          replace h := eIload (mi := 214) (pc := 130) (len := 2) (i := 6) rfl l6 h
          replace h := eConst (mi := 214) (pc := 132) (len := 2) (v := 12) rfl h
          rcases eIc (mi := 214) (pc := 134) (len := 3) (t := 177) rfl rfl h with ⟨c5, h⟩ | ⟨c5, h⟩
          · skip
            replace h := eIload (mi := 214) (pc := 177) (len := 1) (i := 3) rfl l3 h
            replace h := eConst (mi := 214) (pc := 178) (len := 1) (v := 1) rfl h
            replace h := eSub (mi := 214) (pc := 179) (len := 1) rfl h
            replace h := eIstore (mi := 214) (pc := 180) (len := 1) (i := 3) rfl (by decide) h
            replace h := eIload (mi := 214) (pc := 181) (len := 2) (i := 6) rfl (mLd_st1_int (by decide) l6) h
            replace h := eConst (mi := 214) (pc := 183) (len := 1) (v := 5) rfl h
            rcases eIc (mi := 214) (pc := 184) (len := 3) (t := 194) rfl rfl h with ⟨c6, h⟩ | ⟨c6, h⟩
            · exact absurd c6 (by decide)
            · skip
              replace h := eIload (mi := 214) (pc := 187) (len := 2) (i := 6) rfl (mLd_st1_int (by decide) l6) h
              replace h := eConst (mi := 214) (pc := 189) (len := 2) (v := 6) rfl h
              rcases eIc (mi := 214) (pc := 191) (len := 3) (t := 205) rfl rfl h with ⟨c7, h⟩ | ⟨c7, h⟩
              · skip
                replace h := eAload (mi := 214) (pc := 205) (len := 1) (i := 0) rfl (mLd_st1_ref (by decide) l0) h
                replace h := eGetR (a := 181) (j := 1146) (g := 215) hS (by decide) (by decide) rfl rfl rfl (mi := 214) (pc := 206) (len := 3) rfl h
                replace h := eIload (mi := 214) (pc := 209) (len := 1) (i := 3) rfl mLd_st1_i h
                replace h := eConst (mi := 214) (pc := 210) (len := 1) (v := 1) rfl h
                replace h := eSub (mi := 214) (pc := 211) (len := 1) rfl h
                replace h := eIload (mi := 214) (pc := 212) (len := 2) (i := 6) rfl (mLd_st1_int (by decide) l6) h
                replace h := eAload (mi := 214) (pc := 214) (len := 1) (i := 0) rfl (mLd_st1_ref (by decide) l0) h
                replace h := eGetR (a := 181) (j := 1146) (g := 215) hS (by decide) (by decide) rfl rfl rfl (mi := 214) (pc := 215) (len := 3) rfl h
                replace h := eIload (mi := 214) (pc := 218) (len := 1) (i := 3) rfl mLd_st1_i h
                replace h := eConst (mi := 214) (pc := 219) (len := 1) (v := 1) rfl h
                replace h := eSub (mi := 214) (pc := 220) (len := 1) rfl h
                obtain ⟨b8, h⟩ := eIald (x := ((x3 - (1 : Int32)) - (1 : Int32))) hS (a := 215) (by decide) (by decide) rfl (mi := 214) (pc := 221) (len := 1) rfl h
                replace h := eAload (mi := 214) (pc := 222) (len := 1) (i := 0) rfl (mLd_st1_ref (by decide) l0) h
                replace h := eGetR (a := 181) (j := 1146) (g := 215) hS (by decide) (by decide) rfl rfl rfl (mi := 214) (pc := 223) (len := 3) rfl h
                replace h := eIload (mi := 214) (pc := 226) (len := 1) (i := 3) rfl mLd_st1_i h
                obtain ⟨b9, h⟩ := eIald (x := (x3 - (1 : Int32))) hS (a := 215) (by decide) (by decide) rfl (mi := 214) (pc := 227) (len := 1) rfl h
                obtain ⟨r10, N11, g12, h⟩ := eCall (mi := 214) (pc := 228) (len := 3) (j := 213) (as := [.int (3 : Int32), .int (iv M 215 ((x3 - (1 : Int32)) - (1 : Int32)).toInt.toNat), .int (iv M 215 (x3 - (1 : Int32)).toInt.toNat)]) (rest := [.int ((x3 - (1 : Int32)) - (1 : Int32)), .ref 215]) rfl (Or.inl rfl) (by decide) rfl rfl h
                rw [ix, iy, s0, s1] at g12
                obtain ⟨qN11, wN11⟩ := rkR_en (op := 3) (by decide) rfl (fun q => by omega) g12
                rw [qN11, wN11] at h
                obtain ⟨N14, eN14⟩ : ∃ X_, X_ = mPut M 215 ((x3 - (1 : Int32)) - (1 : Int32)).toInt.toNat (.int (rkO 3 (s m) (s (m + 1)))) := ⟨_, rfl⟩
                obtain ⟨b13, h⟩ := eIast (x := ((x3 - (1 : Int32)) - (1 : Int32))) (N := N14) hS (a := 215) (by decide) (by decide) eN14 (mi := 214) (pc := 231) (len := 1) rfl h
                have hS15 : Sh N14 := by rw [eN14]; exact hS.put (by decide) (by decide) rfl
                replace h := eGoto (mi := 214) (pc := 232) (len := 3) (t := 16) rfl rfl h
                rw [ix] at eN14
                have fr : FrR M N14 := fun c i h1 => by rw [eN14, mSlot_put_ne (Or.inl h1)]
                have ht : HR N14 (m + 1) (sUp s m (rkO 3 (s m) (s (m + 1)))) := fun k hk => by
                  rw [eN14]
                  by_cases c : k = m
                  · rw [c, iv_put_eq hS (by decide) (by decide) (show m < tSiz (tGrp 215) from hm), sUp_eq]
                  · rw [iv_put_ne (Or.inr c), sUp_ne c]
                    exact hT k (by omega)
                exact ⟨_, N14, _, _, ⟨(mLd_st1_ref (by decide) l0), (mLd_st1_int (by decide) l2), mLd_st1_i, (mLd_st1_int (by decide) l4), (mLd_st1_int (by decide) l5), (dc1 h3 (by omega) (by omega)).trans (by omega), h5⟩, hS15, ht, fr, h⟩
              · exact absurd c7 (by decide)
          · exact absurd c5 (by decide)
      · exact absurd c3 (by decide)
    · exact absurd c2 (by decide)
theorem ce_4 {n d : Nat} {L : MLoc} {M : Mem} {r : Option Value} {M1 : Mem} {x2 x3 x4 x5 x7 : Int32} {y : Int} {m : Nat} {s : Nat → Int32} (l0 : mLd L 0 = some (.ref 181)) (l2 : mLd L 2 = some (.int x2)) (l3 : mLd L 3 = some (.int x3)) (l4 : mLd L 4 = some (.int x4)) (l5 : mLd L 5 = some (.int x5)) (l6 : mLd L 6 = some (.int (4 : Int32))) (l7 : mLd L 7 = some (.int x7)) (h5 : x5.toInt = y) (hS : Sh M) (hT : HR M (m + 2) s) (h3 : x3.toInt = ((m : Int) + 2)) (hm : m < 180) (h : En n d 214 54 L [] M r M1) : RKn n d x2 x4 M r M1 y (m + 1) (sUp s m (rkO 4 (s m) (s (m + 1)))) := by
  have j1 : (x3 - (1 : Int32)).toInt = (m : Int) + 1 := (dc1 h3 (by omega) (by omega)).trans (by omega)
  have iy : (x3 - (1 : Int32)).toInt.toNat = m + 1 := by omega
  have ix : (x3 - (1 : Int32) - (1 : Int32)).toInt.toNat = m := by have := dc1 j1 (by omega) (by omega); omega
  have s0 : iv M 215 m = s m := hT m (by omega)
  have s1 : iv M 215 (m + 1) = s (m + 1) := hT (m + 1) (by omega)
  replace h := eIload (mi := 214) (pc := 54) (len := 2) (i := 6) rfl l6 h
  rcases eIf (mi := 214) (pc := 56) (len := 3) (t := 65) rfl rfl h with ⟨c1, h⟩ | ⟨c1, h⟩
  · exact absurd c1 (by decide)
  · skip
    replace h := eIload (mi := 214) (pc := 59) (len := 2) (i := 6) rfl l6 h
    replace h := eConst (mi := 214) (pc := 61) (len := 1) (v := 1) rfl h
    rcases eIc (mi := 214) (pc := 62) (len := 3) (t := 95) rfl rfl h with ⟨c2, h⟩ | ⟨c2, h⟩
    · skip
      replace h := eIload (mi := 214) (pc := 95) (len := 2) (i := 6) rfl l6 h
      replace h := eConst (mi := 214) (pc := 97) (len := 2) (v := 10) rfl h
      rcases eIc (mi := 214) (pc := 99) (len := 3) (t := 123) rfl rfl h with ⟨c3, h⟩ | ⟨c3, h⟩
      · skip
        replace h := eIload (mi := 214) (pc := 123) (len := 2) (i := 6) rfl l6 h
        replace h := eConst (mi := 214) (pc := 125) (len := 2) (v := 11) rfl h
        rcases eIc (mi := 214) (pc := 127) (len := 3) (t := 137) rfl rfl h with ⟨c4, h⟩ | ⟨c4, h⟩
        · exact absurd c4 (by decide)
        · skip
          replace h := eIload (mi := 214) (pc := 130) (len := 2) (i := 6) rfl l6 h
          replace h := eConst (mi := 214) (pc := 132) (len := 2) (v := 12) rfl h
          rcases eIc (mi := 214) (pc := 134) (len := 3) (t := 177) rfl rfl h with ⟨c5, h⟩ | ⟨c5, h⟩
          · skip
            replace h := eIload (mi := 214) (pc := 177) (len := 1) (i := 3) rfl l3 h
            replace h := eConst (mi := 214) (pc := 178) (len := 1) (v := 1) rfl h
            replace h := eSub (mi := 214) (pc := 179) (len := 1) rfl h
            replace h := eIstore (mi := 214) (pc := 180) (len := 1) (i := 3) rfl (by decide) h
            replace h := eIload (mi := 214) (pc := 181) (len := 2) (i := 6) rfl (mLd_st1_int (by decide) l6) h
            replace h := eConst (mi := 214) (pc := 183) (len := 1) (v := 5) rfl h
            rcases eIc (mi := 214) (pc := 184) (len := 3) (t := 194) rfl rfl h with ⟨c6, h⟩ | ⟨c6, h⟩
            · exact absurd c6 (by decide)
            · skip
              replace h := eIload (mi := 214) (pc := 187) (len := 2) (i := 6) rfl (mLd_st1_int (by decide) l6) h
              replace h := eConst (mi := 214) (pc := 189) (len := 2) (v := 6) rfl h
              rcases eIc (mi := 214) (pc := 191) (len := 3) (t := 205) rfl rfl h with ⟨c7, h⟩ | ⟨c7, h⟩
              · skip
                replace h := eAload (mi := 214) (pc := 205) (len := 1) (i := 0) rfl (mLd_st1_ref (by decide) l0) h
                replace h := eGetR (a := 181) (j := 1146) (g := 215) hS (by decide) (by decide) rfl rfl rfl (mi := 214) (pc := 206) (len := 3) rfl h
                replace h := eIload (mi := 214) (pc := 209) (len := 1) (i := 3) rfl mLd_st1_i h
                replace h := eConst (mi := 214) (pc := 210) (len := 1) (v := 1) rfl h
                replace h := eSub (mi := 214) (pc := 211) (len := 1) rfl h
                replace h := eIload (mi := 214) (pc := 212) (len := 2) (i := 6) rfl (mLd_st1_int (by decide) l6) h
                replace h := eAload (mi := 214) (pc := 214) (len := 1) (i := 0) rfl (mLd_st1_ref (by decide) l0) h
                replace h := eGetR (a := 181) (j := 1146) (g := 215) hS (by decide) (by decide) rfl rfl rfl (mi := 214) (pc := 215) (len := 3) rfl h
                replace h := eIload (mi := 214) (pc := 218) (len := 1) (i := 3) rfl mLd_st1_i h
                replace h := eConst (mi := 214) (pc := 219) (len := 1) (v := 1) rfl h
                replace h := eSub (mi := 214) (pc := 220) (len := 1) rfl h
                obtain ⟨b8, h⟩ := eIald (x := ((x3 - (1 : Int32)) - (1 : Int32))) hS (a := 215) (by decide) (by decide) rfl (mi := 214) (pc := 221) (len := 1) rfl h
                replace h := eAload (mi := 214) (pc := 222) (len := 1) (i := 0) rfl (mLd_st1_ref (by decide) l0) h
                replace h := eGetR (a := 181) (j := 1146) (g := 215) hS (by decide) (by decide) rfl rfl rfl (mi := 214) (pc := 223) (len := 3) rfl h
                replace h := eIload (mi := 214) (pc := 226) (len := 1) (i := 3) rfl mLd_st1_i h
                obtain ⟨b9, h⟩ := eIald (x := (x3 - (1 : Int32))) hS (a := 215) (by decide) (by decide) rfl (mi := 214) (pc := 227) (len := 1) rfl h
                obtain ⟨r10, N11, g12, h⟩ := eCall (mi := 214) (pc := 228) (len := 3) (j := 213) (as := [.int (4 : Int32), .int (iv M 215 ((x3 - (1 : Int32)) - (1 : Int32)).toInt.toNat), .int (iv M 215 (x3 - (1 : Int32)).toInt.toNat)]) (rest := [.int ((x3 - (1 : Int32)) - (1 : Int32)), .ref 215]) rfl (Or.inl rfl) (by decide) rfl rfl h
                rw [ix, iy, s0, s1] at g12
                obtain ⟨qN11, wN11⟩ := rkR_en (op := 4) (by decide) rfl (fun q => by omega) g12
                rw [qN11, wN11] at h
                obtain ⟨N14, eN14⟩ : ∃ X_, X_ = mPut M 215 ((x3 - (1 : Int32)) - (1 : Int32)).toInt.toNat (.int (rkO 4 (s m) (s (m + 1)))) := ⟨_, rfl⟩
                obtain ⟨b13, h⟩ := eIast (x := ((x3 - (1 : Int32)) - (1 : Int32))) (N := N14) hS (a := 215) (by decide) (by decide) eN14 (mi := 214) (pc := 231) (len := 1) rfl h
                have hS15 : Sh N14 := by rw [eN14]; exact hS.put (by decide) (by decide) rfl
                replace h := eGoto (mi := 214) (pc := 232) (len := 3) (t := 16) rfl rfl h
                rw [ix] at eN14
                have fr : FrR M N14 := fun c i h1 => by rw [eN14, mSlot_put_ne (Or.inl h1)]
                have ht : HR N14 (m + 1) (sUp s m (rkO 4 (s m) (s (m + 1)))) := fun k hk => by
                  rw [eN14]
                  by_cases c : k = m
                  · rw [c, iv_put_eq hS (by decide) (by decide) (show m < tSiz (tGrp 215) from hm), sUp_eq]
                  · rw [iv_put_ne (Or.inr c), sUp_ne c]
                    exact hT k (by omega)
                exact ⟨_, N14, _, _, ⟨(mLd_st1_ref (by decide) l0), (mLd_st1_int (by decide) l2), mLd_st1_i, (mLd_st1_int (by decide) l4), (mLd_st1_int (by decide) l5), (dc1 h3 (by omega) (by omega)).trans (by omega), h5⟩, hS15, ht, fr, h⟩
              · exact absurd c7 (by decide)
          · exact absurd c5 (by decide)
      · exact absurd c3 (by decide)
    · exact absurd c2 (by decide)
theorem ce_5 {n d : Nat} {L : MLoc} {M : Mem} {r : Option Value} {M1 : Mem} {x2 x3 x4 x5 x7 : Int32} {y : Int} {m : Nat} {s : Nat → Int32} (l0 : mLd L 0 = some (.ref 181)) (l2 : mLd L 2 = some (.int x2)) (l3 : mLd L 3 = some (.int x3)) (l4 : mLd L 4 = some (.int x4)) (l5 : mLd L 5 = some (.int x5)) (l6 : mLd L 6 = some (.int (5 : Int32))) (l7 : mLd L 7 = some (.int x7)) (h5 : x5.toInt = y) (hS : Sh M) (hT : HR M (m + 2) s) (h3 : x3.toInt = ((m : Int) + 2)) (hm : m < 180) (h : En n d 214 54 L [] M r M1) : if s (m + 1) = 0 then (r = some (.int 0) ∧ Sh M1 ∧ FrR M M1) else RKn n d x2 x4 M r M1 y (m + 1) (sUp s m (rkO 5 (s m) (s (m + 1)))) := by
  have j1 : (x3 - (1 : Int32)).toInt = (m : Int) + 1 := (dc1 h3 (by omega) (by omega)).trans (by omega)
  have iy : (x3 - (1 : Int32)).toInt.toNat = m + 1 := by omega
  have ix : (x3 - (1 : Int32) - (1 : Int32)).toInt.toNat = m := by have := dc1 j1 (by omega) (by omega); omega
  have s0 : iv M 215 m = s m := hT m (by omega)
  have s1 : iv M 215 (m + 1) = s (m + 1) := hT (m + 1) (by omega)
  replace h := eIload (mi := 214) (pc := 54) (len := 2) (i := 6) rfl l6 h
  rcases eIf (mi := 214) (pc := 56) (len := 3) (t := 65) rfl rfl h with ⟨c1, h⟩ | ⟨c1, h⟩
  · exact absurd c1 (by decide)
  · skip
    replace h := eIload (mi := 214) (pc := 59) (len := 2) (i := 6) rfl l6 h
    replace h := eConst (mi := 214) (pc := 61) (len := 1) (v := 1) rfl h
    rcases eIc (mi := 214) (pc := 62) (len := 3) (t := 95) rfl rfl h with ⟨c2, h⟩ | ⟨c2, h⟩
    · skip
      replace h := eIload (mi := 214) (pc := 95) (len := 2) (i := 6) rfl l6 h
      replace h := eConst (mi := 214) (pc := 97) (len := 2) (v := 10) rfl h
      rcases eIc (mi := 214) (pc := 99) (len := 3) (t := 123) rfl rfl h with ⟨c3, h⟩ | ⟨c3, h⟩
      · skip
        replace h := eIload (mi := 214) (pc := 123) (len := 2) (i := 6) rfl l6 h
        replace h := eConst (mi := 214) (pc := 125) (len := 2) (v := 11) rfl h
        rcases eIc (mi := 214) (pc := 127) (len := 3) (t := 137) rfl rfl h with ⟨c4, h⟩ | ⟨c4, h⟩
        · exact absurd c4 (by decide)
        · skip
          replace h := eIload (mi := 214) (pc := 130) (len := 2) (i := 6) rfl l6 h
          replace h := eConst (mi := 214) (pc := 132) (len := 2) (v := 12) rfl h
          rcases eIc (mi := 214) (pc := 134) (len := 3) (t := 177) rfl rfl h with ⟨c5, h⟩ | ⟨c5, h⟩
          · skip
            replace h := eIload (mi := 214) (pc := 177) (len := 1) (i := 3) rfl l3 h
            replace h := eConst (mi := 214) (pc := 178) (len := 1) (v := 1) rfl h
            replace h := eSub (mi := 214) (pc := 179) (len := 1) rfl h
            replace h := eIstore (mi := 214) (pc := 180) (len := 1) (i := 3) rfl (by decide) h
            replace h := eIload (mi := 214) (pc := 181) (len := 2) (i := 6) rfl (mLd_st1_int (by decide) l6) h
            replace h := eConst (mi := 214) (pc := 183) (len := 1) (v := 5) rfl h
            rcases eIc (mi := 214) (pc := 184) (len := 3) (t := 194) rfl rfl h with ⟨c6, h⟩ | ⟨c6, h⟩
            · skip
              replace h := eAload (mi := 214) (pc := 194) (len := 1) (i := 0) rfl (mLd_st1_ref (by decide) l0) h
              replace h := eGetR (a := 181) (j := 1146) (g := 215) hS (by decide) (by decide) rfl rfl rfl (mi := 214) (pc := 195) (len := 3) rfl h
              replace h := eIload (mi := 214) (pc := 198) (len := 1) (i := 3) rfl mLd_st1_i h
              obtain ⟨b7, h⟩ := eIald (x := (x3 - (1 : Int32))) hS (a := 215) (by decide) (by decide) rfl (mi := 214) (pc := 199) (len := 1) rfl h
              rcases eIf (mi := 214) (pc := 200) (len := 3) (t := 205) rfl rfl h with ⟨c8, h⟩ | ⟨c8, h⟩
              · replace c8 : ¬ (iv M 215 (x3 - (1 : Int32)).toInt.toNat).toInt = 0 := mC_ne.1 c8
                rw [iy, s1] at c8
                have hyz : ¬ s (m + 1) = 0 := fun q => c8 (by rw [q]; rfl)
                replace h := eAload (mi := 214) (pc := 205) (len := 1) (i := 0) rfl (mLd_st1_ref (by decide) l0) h
                replace h := eGetR (a := 181) (j := 1146) (g := 215) hS (by decide) (by decide) rfl rfl rfl (mi := 214) (pc := 206) (len := 3) rfl h
                replace h := eIload (mi := 214) (pc := 209) (len := 1) (i := 3) rfl mLd_st1_i h
                replace h := eConst (mi := 214) (pc := 210) (len := 1) (v := 1) rfl h
                replace h := eSub (mi := 214) (pc := 211) (len := 1) rfl h
                replace h := eIload (mi := 214) (pc := 212) (len := 2) (i := 6) rfl (mLd_st1_int (by decide) l6) h
                replace h := eAload (mi := 214) (pc := 214) (len := 1) (i := 0) rfl (mLd_st1_ref (by decide) l0) h
                replace h := eGetR (a := 181) (j := 1146) (g := 215) hS (by decide) (by decide) rfl rfl rfl (mi := 214) (pc := 215) (len := 3) rfl h
                replace h := eIload (mi := 214) (pc := 218) (len := 1) (i := 3) rfl mLd_st1_i h
                replace h := eConst (mi := 214) (pc := 219) (len := 1) (v := 1) rfl h
                replace h := eSub (mi := 214) (pc := 220) (len := 1) rfl h
                obtain ⟨b9, h⟩ := eIald (x := ((x3 - (1 : Int32)) - (1 : Int32))) hS (a := 215) (by decide) (by decide) rfl (mi := 214) (pc := 221) (len := 1) rfl h
                replace h := eAload (mi := 214) (pc := 222) (len := 1) (i := 0) rfl (mLd_st1_ref (by decide) l0) h
                replace h := eGetR (a := 181) (j := 1146) (g := 215) hS (by decide) (by decide) rfl rfl rfl (mi := 214) (pc := 223) (len := 3) rfl h
                replace h := eIload (mi := 214) (pc := 226) (len := 1) (i := 3) rfl mLd_st1_i h
                obtain ⟨b10, h⟩ := eIald (x := (x3 - (1 : Int32))) hS (a := 215) (by decide) (by decide) rfl (mi := 214) (pc := 227) (len := 1) rfl h
                obtain ⟨r11, N12, g13, h⟩ := eCall (mi := 214) (pc := 228) (len := 3) (j := 213) (as := [.int (5 : Int32), .int (iv M 215 ((x3 - (1 : Int32)) - (1 : Int32)).toInt.toNat), .int (iv M 215 (x3 - (1 : Int32)).toInt.toNat)]) (rest := [.int ((x3 - (1 : Int32)) - (1 : Int32)), .ref 215]) rfl (Or.inl rfl) (by decide) rfl rfl h
                rw [ix, iy, s0, s1] at g13
                obtain ⟨qN12, wN12⟩ := rkR_en (op := 5) (by decide) rfl (fun _ => hyz) g13
                rw [qN12, wN12] at h
                obtain ⟨N15, eN15⟩ : ∃ X_, X_ = mPut M 215 ((x3 - (1 : Int32)) - (1 : Int32)).toInt.toNat (.int (rkO 5 (s m) (s (m + 1)))) := ⟨_, rfl⟩
                obtain ⟨b14, h⟩ := eIast (x := ((x3 - (1 : Int32)) - (1 : Int32))) (N := N15) hS (a := 215) (by decide) (by decide) eN15 (mi := 214) (pc := 231) (len := 1) rfl h
                have hS16 : Sh N15 := by rw [eN15]; exact hS.put (by decide) (by decide) rfl
                replace h := eGoto (mi := 214) (pc := 232) (len := 3) (t := 16) rfl rfl h
                rw [if_neg hyz]
                rw [ix] at eN15
                have fr : FrR M N15 := fun c i h1 => by rw [eN15, mSlot_put_ne (Or.inl h1)]
                have ht : HR N15 (m + 1) (sUp s m (rkO 5 (s m) (s (m + 1)))) := fun k hk => by
                  rw [eN15]
                  by_cases c : k = m
                  · rw [c, iv_put_eq hS (by decide) (by decide) (show m < tSiz (tGrp 215) from hm), sUp_eq]
                  · rw [iv_put_ne (Or.inr c), sUp_ne c]
                    exact hT k (by omega)
                exact ⟨_, N15, _, _, ⟨(mLd_st1_ref (by decide) l0), (mLd_st1_int (by decide) l2), mLd_st1_i, (mLd_st1_int (by decide) l4), (mLd_st1_int (by decide) l5), (dc1 h3 (by omega) (by omega)).trans (by omega), h5⟩, hS16, ht, fr, h⟩
              · replace c8 : (iv M 215 (x3 - (1 : Int32)).toInt.toNat).toInt = 0 := mC_ne.2 c8
                replace h := eConst (mi := 214) (pc := 203) (len := 1) (v := 0) rfl h
                obtain ⟨e1, e2⟩ := eRetI (mi := 214) (pc := 204) (len := 1) rfl h
                rw [iy, s1] at c8
                rw [if_pos (i0_of c8), e2]
                exact ⟨e1, hS, FrR.rf⟩
            · exact absurd c6 (by decide)
          · exact absurd c5 (by decide)
      · exact absurd c3 (by decide)
    · exact absurd c2 (by decide)
theorem ce_6 {n d : Nat} {L : MLoc} {M : Mem} {r : Option Value} {M1 : Mem} {x2 x3 x4 x5 x7 : Int32} {y : Int} {m : Nat} {s : Nat → Int32} (l0 : mLd L 0 = some (.ref 181)) (l2 : mLd L 2 = some (.int x2)) (l3 : mLd L 3 = some (.int x3)) (l4 : mLd L 4 = some (.int x4)) (l5 : mLd L 5 = some (.int x5)) (l6 : mLd L 6 = some (.int (6 : Int32))) (l7 : mLd L 7 = some (.int x7)) (h5 : x5.toInt = y) (hS : Sh M) (hT : HR M (m + 2) s) (h3 : x3.toInt = ((m : Int) + 2)) (hm : m < 180) (h : En n d 214 54 L [] M r M1) : if s (m + 1) = 0 then (r = some (.int 0) ∧ Sh M1 ∧ FrR M M1) else RKn n d x2 x4 M r M1 y (m + 1) (sUp s m (rkO 6 (s m) (s (m + 1)))) := by
  have j1 : (x3 - (1 : Int32)).toInt = (m : Int) + 1 := (dc1 h3 (by omega) (by omega)).trans (by omega)
  have iy : (x3 - (1 : Int32)).toInt.toNat = m + 1 := by omega
  have ix : (x3 - (1 : Int32) - (1 : Int32)).toInt.toNat = m := by have := dc1 j1 (by omega) (by omega); omega
  have s0 : iv M 215 m = s m := hT m (by omega)
  have s1 : iv M 215 (m + 1) = s (m + 1) := hT (m + 1) (by omega)
  replace h := eIload (mi := 214) (pc := 54) (len := 2) (i := 6) rfl l6 h
  rcases eIf (mi := 214) (pc := 56) (len := 3) (t := 65) rfl rfl h with ⟨c1, h⟩ | ⟨c1, h⟩
  · exact absurd c1 (by decide)
  · skip
    replace h := eIload (mi := 214) (pc := 59) (len := 2) (i := 6) rfl l6 h
    replace h := eConst (mi := 214) (pc := 61) (len := 1) (v := 1) rfl h
    rcases eIc (mi := 214) (pc := 62) (len := 3) (t := 95) rfl rfl h with ⟨c2, h⟩ | ⟨c2, h⟩
    · skip
      replace h := eIload (mi := 214) (pc := 95) (len := 2) (i := 6) rfl l6 h
      replace h := eConst (mi := 214) (pc := 97) (len := 2) (v := 10) rfl h
      rcases eIc (mi := 214) (pc := 99) (len := 3) (t := 123) rfl rfl h with ⟨c3, h⟩ | ⟨c3, h⟩
      · skip
        replace h := eIload (mi := 214) (pc := 123) (len := 2) (i := 6) rfl l6 h
        replace h := eConst (mi := 214) (pc := 125) (len := 2) (v := 11) rfl h
        rcases eIc (mi := 214) (pc := 127) (len := 3) (t := 137) rfl rfl h with ⟨c4, h⟩ | ⟨c4, h⟩
        · exact absurd c4 (by decide)
        · skip
          replace h := eIload (mi := 214) (pc := 130) (len := 2) (i := 6) rfl l6 h
          replace h := eConst (mi := 214) (pc := 132) (len := 2) (v := 12) rfl h
          rcases eIc (mi := 214) (pc := 134) (len := 3) (t := 177) rfl rfl h with ⟨c5, h⟩ | ⟨c5, h⟩
          · skip
            replace h := eIload (mi := 214) (pc := 177) (len := 1) (i := 3) rfl l3 h
            replace h := eConst (mi := 214) (pc := 178) (len := 1) (v := 1) rfl h
            replace h := eSub (mi := 214) (pc := 179) (len := 1) rfl h
            replace h := eIstore (mi := 214) (pc := 180) (len := 1) (i := 3) rfl (by decide) h
            replace h := eIload (mi := 214) (pc := 181) (len := 2) (i := 6) rfl (mLd_st1_int (by decide) l6) h
            replace h := eConst (mi := 214) (pc := 183) (len := 1) (v := 5) rfl h
            rcases eIc (mi := 214) (pc := 184) (len := 3) (t := 194) rfl rfl h with ⟨c6, h⟩ | ⟨c6, h⟩
            · exact absurd c6 (by decide)
            · skip
              replace h := eIload (mi := 214) (pc := 187) (len := 2) (i := 6) rfl (mLd_st1_int (by decide) l6) h
              replace h := eConst (mi := 214) (pc := 189) (len := 2) (v := 6) rfl h
              rcases eIc (mi := 214) (pc := 191) (len := 3) (t := 205) rfl rfl h with ⟨c7, h⟩ | ⟨c7, h⟩
              · exact absurd c7 (by decide)
              · skip
                replace h := eAload (mi := 214) (pc := 194) (len := 1) (i := 0) rfl (mLd_st1_ref (by decide) l0) h
                replace h := eGetR (a := 181) (j := 1146) (g := 215) hS (by decide) (by decide) rfl rfl rfl (mi := 214) (pc := 195) (len := 3) rfl h
                replace h := eIload (mi := 214) (pc := 198) (len := 1) (i := 3) rfl mLd_st1_i h
                obtain ⟨b8, h⟩ := eIald (x := (x3 - (1 : Int32))) hS (a := 215) (by decide) (by decide) rfl (mi := 214) (pc := 199) (len := 1) rfl h
                rcases eIf (mi := 214) (pc := 200) (len := 3) (t := 205) rfl rfl h with ⟨c9, h⟩ | ⟨c9, h⟩
                · replace c9 : ¬ (iv M 215 (x3 - (1 : Int32)).toInt.toNat).toInt = 0 := mC_ne.1 c9
                  rw [iy, s1] at c9
                  have hyz : ¬ s (m + 1) = 0 := fun q => c9 (by rw [q]; rfl)
                  replace h := eAload (mi := 214) (pc := 205) (len := 1) (i := 0) rfl (mLd_st1_ref (by decide) l0) h
                  replace h := eGetR (a := 181) (j := 1146) (g := 215) hS (by decide) (by decide) rfl rfl rfl (mi := 214) (pc := 206) (len := 3) rfl h
                  replace h := eIload (mi := 214) (pc := 209) (len := 1) (i := 3) rfl mLd_st1_i h
                  replace h := eConst (mi := 214) (pc := 210) (len := 1) (v := 1) rfl h
                  replace h := eSub (mi := 214) (pc := 211) (len := 1) rfl h
                  replace h := eIload (mi := 214) (pc := 212) (len := 2) (i := 6) rfl (mLd_st1_int (by decide) l6) h
                  replace h := eAload (mi := 214) (pc := 214) (len := 1) (i := 0) rfl (mLd_st1_ref (by decide) l0) h
                  replace h := eGetR (a := 181) (j := 1146) (g := 215) hS (by decide) (by decide) rfl rfl rfl (mi := 214) (pc := 215) (len := 3) rfl h
                  replace h := eIload (mi := 214) (pc := 218) (len := 1) (i := 3) rfl mLd_st1_i h
                  replace h := eConst (mi := 214) (pc := 219) (len := 1) (v := 1) rfl h
                  replace h := eSub (mi := 214) (pc := 220) (len := 1) rfl h
                  obtain ⟨b10, h⟩ := eIald (x := ((x3 - (1 : Int32)) - (1 : Int32))) hS (a := 215) (by decide) (by decide) rfl (mi := 214) (pc := 221) (len := 1) rfl h
                  replace h := eAload (mi := 214) (pc := 222) (len := 1) (i := 0) rfl (mLd_st1_ref (by decide) l0) h
                  replace h := eGetR (a := 181) (j := 1146) (g := 215) hS (by decide) (by decide) rfl rfl rfl (mi := 214) (pc := 223) (len := 3) rfl h
                  replace h := eIload (mi := 214) (pc := 226) (len := 1) (i := 3) rfl mLd_st1_i h
                  obtain ⟨b11, h⟩ := eIald (x := (x3 - (1 : Int32))) hS (a := 215) (by decide) (by decide) rfl (mi := 214) (pc := 227) (len := 1) rfl h
                  obtain ⟨r12, N13, g14, h⟩ := eCall (mi := 214) (pc := 228) (len := 3) (j := 213) (as := [.int (6 : Int32), .int (iv M 215 ((x3 - (1 : Int32)) - (1 : Int32)).toInt.toNat), .int (iv M 215 (x3 - (1 : Int32)).toInt.toNat)]) (rest := [.int ((x3 - (1 : Int32)) - (1 : Int32)), .ref 215]) rfl (Or.inl rfl) (by decide) rfl rfl h
                  rw [ix, iy, s0, s1] at g14
                  obtain ⟨qN13, wN13⟩ := rkR_en (op := 6) (by decide) rfl (fun _ => hyz) g14
                  rw [qN13, wN13] at h
                  obtain ⟨N16, eN16⟩ : ∃ X_, X_ = mPut M 215 ((x3 - (1 : Int32)) - (1 : Int32)).toInt.toNat (.int (rkO 6 (s m) (s (m + 1)))) := ⟨_, rfl⟩
                  obtain ⟨b15, h⟩ := eIast (x := ((x3 - (1 : Int32)) - (1 : Int32))) (N := N16) hS (a := 215) (by decide) (by decide) eN16 (mi := 214) (pc := 231) (len := 1) rfl h
                  have hS17 : Sh N16 := by rw [eN16]; exact hS.put (by decide) (by decide) rfl
                  replace h := eGoto (mi := 214) (pc := 232) (len := 3) (t := 16) rfl rfl h
                  rw [if_neg hyz]
                  rw [ix] at eN16
                  have fr : FrR M N16 := fun c i h1 => by rw [eN16, mSlot_put_ne (Or.inl h1)]
                  have ht : HR N16 (m + 1) (sUp s m (rkO 6 (s m) (s (m + 1)))) := fun k hk => by
                    rw [eN16]
                    by_cases c : k = m
                    · rw [c, iv_put_eq hS (by decide) (by decide) (show m < tSiz (tGrp 215) from hm), sUp_eq]
                    · rw [iv_put_ne (Or.inr c), sUp_ne c]
                      exact hT k (by omega)
                  exact ⟨_, N16, _, _, ⟨(mLd_st1_ref (by decide) l0), (mLd_st1_int (by decide) l2), mLd_st1_i, (mLd_st1_int (by decide) l4), (mLd_st1_int (by decide) l5), (dc1 h3 (by omega) (by omega)).trans (by omega), h5⟩, hS17, ht, fr, h⟩
                · replace c9 : (iv M 215 (x3 - (1 : Int32)).toInt.toNat).toInt = 0 := mC_ne.2 c9
                  replace h := eConst (mi := 214) (pc := 203) (len := 1) (v := 0) rfl h
                  obtain ⟨e1, e2⟩ := eRetI (mi := 214) (pc := 204) (len := 1) rfl h
                  rw [iy, s1] at c9
                  rw [if_pos (i0_of c9), e2]
                  exact ⟨e1, hS, FrR.rf⟩
          · exact absurd c5 (by decide)
      · exact absurd c3 (by decide)
    · exact absurd c2 (by decide)
theorem ce_7 {n d : Nat} {L : MLoc} {M : Mem} {r : Option Value} {M1 : Mem} {x2 x3 x4 x5 x7 : Int32} {y : Int} {m : Nat} {s : Nat → Int32} (l0 : mLd L 0 = some (.ref 181)) (l2 : mLd L 2 = some (.int x2)) (l3 : mLd L 3 = some (.int x3)) (l4 : mLd L 4 = some (.int x4)) (l5 : mLd L 5 = some (.int x5)) (l6 : mLd L 6 = some (.int (7 : Int32))) (l7 : mLd L 7 = some (.int x7)) (h5 : x5.toInt = y) (hS : Sh M) (hT : HR M (m + 2) s) (h3 : x3.toInt = ((m : Int) + 2)) (hm : m < 180) (h : En n d 214 54 L [] M r M1) : RKn n d x2 x4 M r M1 y (m + 1) (sUp s m (rkO 7 (s m) (s (m + 1)))) := by
  have j1 : (x3 - (1 : Int32)).toInt = (m : Int) + 1 := (dc1 h3 (by omega) (by omega)).trans (by omega)
  have iy : (x3 - (1 : Int32)).toInt.toNat = m + 1 := by omega
  have ix : (x3 - (1 : Int32) - (1 : Int32)).toInt.toNat = m := by have := dc1 j1 (by omega) (by omega); omega
  have s0 : iv M 215 m = s m := hT m (by omega)
  have s1 : iv M 215 (m + 1) = s (m + 1) := hT (m + 1) (by omega)
  replace h := eIload (mi := 214) (pc := 54) (len := 2) (i := 6) rfl l6 h
  rcases eIf (mi := 214) (pc := 56) (len := 3) (t := 65) rfl rfl h with ⟨c1, h⟩ | ⟨c1, h⟩
  · exact absurd c1 (by decide)
  · skip
    replace h := eIload (mi := 214) (pc := 59) (len := 2) (i := 6) rfl l6 h
    replace h := eConst (mi := 214) (pc := 61) (len := 1) (v := 1) rfl h
    rcases eIc (mi := 214) (pc := 62) (len := 3) (t := 95) rfl rfl h with ⟨c2, h⟩ | ⟨c2, h⟩
    · skip
      replace h := eIload (mi := 214) (pc := 95) (len := 2) (i := 6) rfl l6 h
      replace h := eConst (mi := 214) (pc := 97) (len := 2) (v := 10) rfl h
      rcases eIc (mi := 214) (pc := 99) (len := 3) (t := 123) rfl rfl h with ⟨c3, h⟩ | ⟨c3, h⟩
      · skip
        replace h := eIload (mi := 214) (pc := 123) (len := 2) (i := 6) rfl l6 h
        replace h := eConst (mi := 214) (pc := 125) (len := 2) (v := 11) rfl h
        rcases eIc (mi := 214) (pc := 127) (len := 3) (t := 137) rfl rfl h with ⟨c4, h⟩ | ⟨c4, h⟩
        · exact absurd c4 (by decide)
        · skip
          replace h := eIload (mi := 214) (pc := 130) (len := 2) (i := 6) rfl l6 h
          replace h := eConst (mi := 214) (pc := 132) (len := 2) (v := 12) rfl h
          rcases eIc (mi := 214) (pc := 134) (len := 3) (t := 177) rfl rfl h with ⟨c5, h⟩ | ⟨c5, h⟩
          · skip
            replace h := eIload (mi := 214) (pc := 177) (len := 1) (i := 3) rfl l3 h
            replace h := eConst (mi := 214) (pc := 178) (len := 1) (v := 1) rfl h
            replace h := eSub (mi := 214) (pc := 179) (len := 1) rfl h
            replace h := eIstore (mi := 214) (pc := 180) (len := 1) (i := 3) rfl (by decide) h
            replace h := eIload (mi := 214) (pc := 181) (len := 2) (i := 6) rfl (mLd_st1_int (by decide) l6) h
            replace h := eConst (mi := 214) (pc := 183) (len := 1) (v := 5) rfl h
            rcases eIc (mi := 214) (pc := 184) (len := 3) (t := 194) rfl rfl h with ⟨c6, h⟩ | ⟨c6, h⟩
            · exact absurd c6 (by decide)
            · skip
              replace h := eIload (mi := 214) (pc := 187) (len := 2) (i := 6) rfl (mLd_st1_int (by decide) l6) h
              replace h := eConst (mi := 214) (pc := 189) (len := 2) (v := 6) rfl h
              rcases eIc (mi := 214) (pc := 191) (len := 3) (t := 205) rfl rfl h with ⟨c7, h⟩ | ⟨c7, h⟩
              · skip
                replace h := eAload (mi := 214) (pc := 205) (len := 1) (i := 0) rfl (mLd_st1_ref (by decide) l0) h
                replace h := eGetR (a := 181) (j := 1146) (g := 215) hS (by decide) (by decide) rfl rfl rfl (mi := 214) (pc := 206) (len := 3) rfl h
                replace h := eIload (mi := 214) (pc := 209) (len := 1) (i := 3) rfl mLd_st1_i h
                replace h := eConst (mi := 214) (pc := 210) (len := 1) (v := 1) rfl h
                replace h := eSub (mi := 214) (pc := 211) (len := 1) rfl h
                replace h := eIload (mi := 214) (pc := 212) (len := 2) (i := 6) rfl (mLd_st1_int (by decide) l6) h
                replace h := eAload (mi := 214) (pc := 214) (len := 1) (i := 0) rfl (mLd_st1_ref (by decide) l0) h
                replace h := eGetR (a := 181) (j := 1146) (g := 215) hS (by decide) (by decide) rfl rfl rfl (mi := 214) (pc := 215) (len := 3) rfl h
                replace h := eIload (mi := 214) (pc := 218) (len := 1) (i := 3) rfl mLd_st1_i h
                replace h := eConst (mi := 214) (pc := 219) (len := 1) (v := 1) rfl h
                replace h := eSub (mi := 214) (pc := 220) (len := 1) rfl h
                obtain ⟨b8, h⟩ := eIald (x := ((x3 - (1 : Int32)) - (1 : Int32))) hS (a := 215) (by decide) (by decide) rfl (mi := 214) (pc := 221) (len := 1) rfl h
                replace h := eAload (mi := 214) (pc := 222) (len := 1) (i := 0) rfl (mLd_st1_ref (by decide) l0) h
                replace h := eGetR (a := 181) (j := 1146) (g := 215) hS (by decide) (by decide) rfl rfl rfl (mi := 214) (pc := 223) (len := 3) rfl h
                replace h := eIload (mi := 214) (pc := 226) (len := 1) (i := 3) rfl mLd_st1_i h
                obtain ⟨b9, h⟩ := eIald (x := (x3 - (1 : Int32))) hS (a := 215) (by decide) (by decide) rfl (mi := 214) (pc := 227) (len := 1) rfl h
                obtain ⟨r10, N11, g12, h⟩ := eCall (mi := 214) (pc := 228) (len := 3) (j := 213) (as := [.int (7 : Int32), .int (iv M 215 ((x3 - (1 : Int32)) - (1 : Int32)).toInt.toNat), .int (iv M 215 (x3 - (1 : Int32)).toInt.toNat)]) (rest := [.int ((x3 - (1 : Int32)) - (1 : Int32)), .ref 215]) rfl (Or.inl rfl) (by decide) rfl rfl h
                rw [ix, iy, s0, s1] at g12
                obtain ⟨qN11, wN11⟩ := rkR_en (op := 7) (by decide) rfl (fun q => by omega) g12
                rw [qN11, wN11] at h
                obtain ⟨N14, eN14⟩ : ∃ X_, X_ = mPut M 215 ((x3 - (1 : Int32)) - (1 : Int32)).toInt.toNat (.int (rkO 7 (s m) (s (m + 1)))) := ⟨_, rfl⟩
                obtain ⟨b13, h⟩ := eIast (x := ((x3 - (1 : Int32)) - (1 : Int32))) (N := N14) hS (a := 215) (by decide) (by decide) eN14 (mi := 214) (pc := 231) (len := 1) rfl h
                have hS15 : Sh N14 := by rw [eN14]; exact hS.put (by decide) (by decide) rfl
                replace h := eGoto (mi := 214) (pc := 232) (len := 3) (t := 16) rfl rfl h
                rw [ix] at eN14
                have fr : FrR M N14 := fun c i h1 => by rw [eN14, mSlot_put_ne (Or.inl h1)]
                have ht : HR N14 (m + 1) (sUp s m (rkO 7 (s m) (s (m + 1)))) := fun k hk => by
                  rw [eN14]
                  by_cases c : k = m
                  · rw [c, iv_put_eq hS (by decide) (by decide) (show m < tSiz (tGrp 215) from hm), sUp_eq]
                  · rw [iv_put_ne (Or.inr c), sUp_ne c]
                    exact hT k (by omega)
                exact ⟨_, N14, _, _, ⟨(mLd_st1_ref (by decide) l0), (mLd_st1_int (by decide) l2), mLd_st1_i, (mLd_st1_int (by decide) l4), (mLd_st1_int (by decide) l5), (dc1 h3 (by omega) (by omega)).trans (by omega), h5⟩, hS15, ht, fr, h⟩
              · exact absurd c7 (by decide)
          · exact absurd c5 (by decide)
      · exact absurd c3 (by decide)
    · exact absurd c2 (by decide)
theorem ce_8 {n d : Nat} {L : MLoc} {M : Mem} {r : Option Value} {M1 : Mem} {x2 x3 x4 x5 x7 : Int32} {y : Int} {m : Nat} {s : Nat → Int32} (l0 : mLd L 0 = some (.ref 181)) (l2 : mLd L 2 = some (.int x2)) (l3 : mLd L 3 = some (.int x3)) (l4 : mLd L 4 = some (.int x4)) (l5 : mLd L 5 = some (.int x5)) (l6 : mLd L 6 = some (.int (8 : Int32))) (l7 : mLd L 7 = some (.int x7)) (h5 : x5.toInt = y) (hS : Sh M) (hT : HR M (m + 2) s) (h3 : x3.toInt = ((m : Int) + 2)) (hm : m < 180) (h : En n d 214 54 L [] M r M1) : RKn n d x2 x4 M r M1 y (m + 1) (sUp s m (rkO 8 (s m) (s (m + 1)))) := by
  have j1 : (x3 - (1 : Int32)).toInt = (m : Int) + 1 := (dc1 h3 (by omega) (by omega)).trans (by omega)
  have iy : (x3 - (1 : Int32)).toInt.toNat = m + 1 := by omega
  have ix : (x3 - (1 : Int32) - (1 : Int32)).toInt.toNat = m := by have := dc1 j1 (by omega) (by omega); omega
  have s0 : iv M 215 m = s m := hT m (by omega)
  have s1 : iv M 215 (m + 1) = s (m + 1) := hT (m + 1) (by omega)
  replace h := eIload (mi := 214) (pc := 54) (len := 2) (i := 6) rfl l6 h
  rcases eIf (mi := 214) (pc := 56) (len := 3) (t := 65) rfl rfl h with ⟨c1, h⟩ | ⟨c1, h⟩
  · exact absurd c1 (by decide)
  · skip
    replace h := eIload (mi := 214) (pc := 59) (len := 2) (i := 6) rfl l6 h
    replace h := eConst (mi := 214) (pc := 61) (len := 1) (v := 1) rfl h
    rcases eIc (mi := 214) (pc := 62) (len := 3) (t := 95) rfl rfl h with ⟨c2, h⟩ | ⟨c2, h⟩
    · skip
      replace h := eIload (mi := 214) (pc := 95) (len := 2) (i := 6) rfl l6 h
      replace h := eConst (mi := 214) (pc := 97) (len := 2) (v := 10) rfl h
      rcases eIc (mi := 214) (pc := 99) (len := 3) (t := 123) rfl rfl h with ⟨c3, h⟩ | ⟨c3, h⟩
      · skip
        replace h := eIload (mi := 214) (pc := 123) (len := 2) (i := 6) rfl l6 h
        replace h := eConst (mi := 214) (pc := 125) (len := 2) (v := 11) rfl h
        rcases eIc (mi := 214) (pc := 127) (len := 3) (t := 137) rfl rfl h with ⟨c4, h⟩ | ⟨c4, h⟩
        · exact absurd c4 (by decide)
        · skip
          replace h := eIload (mi := 214) (pc := 130) (len := 2) (i := 6) rfl l6 h
          replace h := eConst (mi := 214) (pc := 132) (len := 2) (v := 12) rfl h
          rcases eIc (mi := 214) (pc := 134) (len := 3) (t := 177) rfl rfl h with ⟨c5, h⟩ | ⟨c5, h⟩
          · skip
            replace h := eIload (mi := 214) (pc := 177) (len := 1) (i := 3) rfl l3 h
            replace h := eConst (mi := 214) (pc := 178) (len := 1) (v := 1) rfl h
            replace h := eSub (mi := 214) (pc := 179) (len := 1) rfl h
            replace h := eIstore (mi := 214) (pc := 180) (len := 1) (i := 3) rfl (by decide) h
            replace h := eIload (mi := 214) (pc := 181) (len := 2) (i := 6) rfl (mLd_st1_int (by decide) l6) h
            replace h := eConst (mi := 214) (pc := 183) (len := 1) (v := 5) rfl h
            rcases eIc (mi := 214) (pc := 184) (len := 3) (t := 194) rfl rfl h with ⟨c6, h⟩ | ⟨c6, h⟩
            · exact absurd c6 (by decide)
            · skip
              replace h := eIload (mi := 214) (pc := 187) (len := 2) (i := 6) rfl (mLd_st1_int (by decide) l6) h
              replace h := eConst (mi := 214) (pc := 189) (len := 2) (v := 6) rfl h
              rcases eIc (mi := 214) (pc := 191) (len := 3) (t := 205) rfl rfl h with ⟨c7, h⟩ | ⟨c7, h⟩
              · skip
                replace h := eAload (mi := 214) (pc := 205) (len := 1) (i := 0) rfl (mLd_st1_ref (by decide) l0) h
                replace h := eGetR (a := 181) (j := 1146) (g := 215) hS (by decide) (by decide) rfl rfl rfl (mi := 214) (pc := 206) (len := 3) rfl h
                replace h := eIload (mi := 214) (pc := 209) (len := 1) (i := 3) rfl mLd_st1_i h
                replace h := eConst (mi := 214) (pc := 210) (len := 1) (v := 1) rfl h
                replace h := eSub (mi := 214) (pc := 211) (len := 1) rfl h
                replace h := eIload (mi := 214) (pc := 212) (len := 2) (i := 6) rfl (mLd_st1_int (by decide) l6) h
                replace h := eAload (mi := 214) (pc := 214) (len := 1) (i := 0) rfl (mLd_st1_ref (by decide) l0) h
                replace h := eGetR (a := 181) (j := 1146) (g := 215) hS (by decide) (by decide) rfl rfl rfl (mi := 214) (pc := 215) (len := 3) rfl h
                replace h := eIload (mi := 214) (pc := 218) (len := 1) (i := 3) rfl mLd_st1_i h
                replace h := eConst (mi := 214) (pc := 219) (len := 1) (v := 1) rfl h
                replace h := eSub (mi := 214) (pc := 220) (len := 1) rfl h
                obtain ⟨b8, h⟩ := eIald (x := ((x3 - (1 : Int32)) - (1 : Int32))) hS (a := 215) (by decide) (by decide) rfl (mi := 214) (pc := 221) (len := 1) rfl h
                replace h := eAload (mi := 214) (pc := 222) (len := 1) (i := 0) rfl (mLd_st1_ref (by decide) l0) h
                replace h := eGetR (a := 181) (j := 1146) (g := 215) hS (by decide) (by decide) rfl rfl rfl (mi := 214) (pc := 223) (len := 3) rfl h
                replace h := eIload (mi := 214) (pc := 226) (len := 1) (i := 3) rfl mLd_st1_i h
                obtain ⟨b9, h⟩ := eIald (x := (x3 - (1 : Int32))) hS (a := 215) (by decide) (by decide) rfl (mi := 214) (pc := 227) (len := 1) rfl h
                obtain ⟨r10, N11, g12, h⟩ := eCall (mi := 214) (pc := 228) (len := 3) (j := 213) (as := [.int (8 : Int32), .int (iv M 215 ((x3 - (1 : Int32)) - (1 : Int32)).toInt.toNat), .int (iv M 215 (x3 - (1 : Int32)).toInt.toNat)]) (rest := [.int ((x3 - (1 : Int32)) - (1 : Int32)), .ref 215]) rfl (Or.inl rfl) (by decide) rfl rfl h
                rw [ix, iy, s0, s1] at g12
                obtain ⟨qN11, wN11⟩ := rkR_en (op := 8) (by decide) rfl (fun q => by omega) g12
                rw [qN11, wN11] at h
                obtain ⟨N14, eN14⟩ : ∃ X_, X_ = mPut M 215 ((x3 - (1 : Int32)) - (1 : Int32)).toInt.toNat (.int (rkO 8 (s m) (s (m + 1)))) := ⟨_, rfl⟩
                obtain ⟨b13, h⟩ := eIast (x := ((x3 - (1 : Int32)) - (1 : Int32))) (N := N14) hS (a := 215) (by decide) (by decide) eN14 (mi := 214) (pc := 231) (len := 1) rfl h
                have hS15 : Sh N14 := by rw [eN14]; exact hS.put (by decide) (by decide) rfl
                replace h := eGoto (mi := 214) (pc := 232) (len := 3) (t := 16) rfl rfl h
                rw [ix] at eN14
                have fr : FrR M N14 := fun c i h1 => by rw [eN14, mSlot_put_ne (Or.inl h1)]
                have ht : HR N14 (m + 1) (sUp s m (rkO 8 (s m) (s (m + 1)))) := fun k hk => by
                  rw [eN14]
                  by_cases c : k = m
                  · rw [c, iv_put_eq hS (by decide) (by decide) (show m < tSiz (tGrp 215) from hm), sUp_eq]
                  · rw [iv_put_ne (Or.inr c), sUp_ne c]
                    exact hT k (by omega)
                exact ⟨_, N14, _, _, ⟨(mLd_st1_ref (by decide) l0), (mLd_st1_int (by decide) l2), mLd_st1_i, (mLd_st1_int (by decide) l4), (mLd_st1_int (by decide) l5), (dc1 h3 (by omega) (by omega)).trans (by omega), h5⟩, hS15, ht, fr, h⟩
              · exact absurd c7 (by decide)
          · exact absurd c5 (by decide)
      · exact absurd c3 (by decide)
    · exact absurd c2 (by decide)
theorem ce_9 {n d : Nat} {L : MLoc} {M : Mem} {r : Option Value} {M1 : Mem} {x2 x3 x4 x5 x7 : Int32} {y : Int} {m : Nat} {s : Nat → Int32} (l0 : mLd L 0 = some (.ref 181)) (l2 : mLd L 2 = some (.int x2)) (l3 : mLd L 3 = some (.int x3)) (l4 : mLd L 4 = some (.int x4)) (l5 : mLd L 5 = some (.int x5)) (l6 : mLd L 6 = some (.int (9 : Int32))) (l7 : mLd L 7 = some (.int x7)) (h5 : x5.toInt = y) (hS : Sh M) (hT : HR M (m + 2) s) (h3 : x3.toInt = ((m : Int) + 2)) (hm : m < 180) (h : En n d 214 54 L [] M r M1) : RKn n d x2 x4 M r M1 y (m + 1) (sUp s m (rkO 9 (s m) (s (m + 1)))) := by
  have j1 : (x3 - (1 : Int32)).toInt = (m : Int) + 1 := (dc1 h3 (by omega) (by omega)).trans (by omega)
  have iy : (x3 - (1 : Int32)).toInt.toNat = m + 1 := by omega
  have ix : (x3 - (1 : Int32) - (1 : Int32)).toInt.toNat = m := by have := dc1 j1 (by omega) (by omega); omega
  have s0 : iv M 215 m = s m := hT m (by omega)
  have s1 : iv M 215 (m + 1) = s (m + 1) := hT (m + 1) (by omega)
  replace h := eIload (mi := 214) (pc := 54) (len := 2) (i := 6) rfl l6 h
  rcases eIf (mi := 214) (pc := 56) (len := 3) (t := 65) rfl rfl h with ⟨c1, h⟩ | ⟨c1, h⟩
  · exact absurd c1 (by decide)
  · skip
    replace h := eIload (mi := 214) (pc := 59) (len := 2) (i := 6) rfl l6 h
    replace h := eConst (mi := 214) (pc := 61) (len := 1) (v := 1) rfl h
    rcases eIc (mi := 214) (pc := 62) (len := 3) (t := 95) rfl rfl h with ⟨c2, h⟩ | ⟨c2, h⟩
    · skip
      replace h := eIload (mi := 214) (pc := 95) (len := 2) (i := 6) rfl l6 h
      replace h := eConst (mi := 214) (pc := 97) (len := 2) (v := 10) rfl h
      rcases eIc (mi := 214) (pc := 99) (len := 3) (t := 123) rfl rfl h with ⟨c3, h⟩ | ⟨c3, h⟩
      · skip
        replace h := eIload (mi := 214) (pc := 123) (len := 2) (i := 6) rfl l6 h
        replace h := eConst (mi := 214) (pc := 125) (len := 2) (v := 11) rfl h
        rcases eIc (mi := 214) (pc := 127) (len := 3) (t := 137) rfl rfl h with ⟨c4, h⟩ | ⟨c4, h⟩
        · exact absurd c4 (by decide)
        · skip
          replace h := eIload (mi := 214) (pc := 130) (len := 2) (i := 6) rfl l6 h
          replace h := eConst (mi := 214) (pc := 132) (len := 2) (v := 12) rfl h
          rcases eIc (mi := 214) (pc := 134) (len := 3) (t := 177) rfl rfl h with ⟨c5, h⟩ | ⟨c5, h⟩
          · skip
            replace h := eIload (mi := 214) (pc := 177) (len := 1) (i := 3) rfl l3 h
            replace h := eConst (mi := 214) (pc := 178) (len := 1) (v := 1) rfl h
            replace h := eSub (mi := 214) (pc := 179) (len := 1) rfl h
            replace h := eIstore (mi := 214) (pc := 180) (len := 1) (i := 3) rfl (by decide) h
            replace h := eIload (mi := 214) (pc := 181) (len := 2) (i := 6) rfl (mLd_st1_int (by decide) l6) h
            replace h := eConst (mi := 214) (pc := 183) (len := 1) (v := 5) rfl h
            rcases eIc (mi := 214) (pc := 184) (len := 3) (t := 194) rfl rfl h with ⟨c6, h⟩ | ⟨c6, h⟩
            · exact absurd c6 (by decide)
            · skip
              replace h := eIload (mi := 214) (pc := 187) (len := 2) (i := 6) rfl (mLd_st1_int (by decide) l6) h
              replace h := eConst (mi := 214) (pc := 189) (len := 2) (v := 6) rfl h
              rcases eIc (mi := 214) (pc := 191) (len := 3) (t := 205) rfl rfl h with ⟨c7, h⟩ | ⟨c7, h⟩
              · skip
                replace h := eAload (mi := 214) (pc := 205) (len := 1) (i := 0) rfl (mLd_st1_ref (by decide) l0) h
                replace h := eGetR (a := 181) (j := 1146) (g := 215) hS (by decide) (by decide) rfl rfl rfl (mi := 214) (pc := 206) (len := 3) rfl h
                replace h := eIload (mi := 214) (pc := 209) (len := 1) (i := 3) rfl mLd_st1_i h
                replace h := eConst (mi := 214) (pc := 210) (len := 1) (v := 1) rfl h
                replace h := eSub (mi := 214) (pc := 211) (len := 1) rfl h
                replace h := eIload (mi := 214) (pc := 212) (len := 2) (i := 6) rfl (mLd_st1_int (by decide) l6) h
                replace h := eAload (mi := 214) (pc := 214) (len := 1) (i := 0) rfl (mLd_st1_ref (by decide) l0) h
                replace h := eGetR (a := 181) (j := 1146) (g := 215) hS (by decide) (by decide) rfl rfl rfl (mi := 214) (pc := 215) (len := 3) rfl h
                replace h := eIload (mi := 214) (pc := 218) (len := 1) (i := 3) rfl mLd_st1_i h
                replace h := eConst (mi := 214) (pc := 219) (len := 1) (v := 1) rfl h
                replace h := eSub (mi := 214) (pc := 220) (len := 1) rfl h
                obtain ⟨b8, h⟩ := eIald (x := ((x3 - (1 : Int32)) - (1 : Int32))) hS (a := 215) (by decide) (by decide) rfl (mi := 214) (pc := 221) (len := 1) rfl h
                replace h := eAload (mi := 214) (pc := 222) (len := 1) (i := 0) rfl (mLd_st1_ref (by decide) l0) h
                replace h := eGetR (a := 181) (j := 1146) (g := 215) hS (by decide) (by decide) rfl rfl rfl (mi := 214) (pc := 223) (len := 3) rfl h
                replace h := eIload (mi := 214) (pc := 226) (len := 1) (i := 3) rfl mLd_st1_i h
                obtain ⟨b9, h⟩ := eIald (x := (x3 - (1 : Int32))) hS (a := 215) (by decide) (by decide) rfl (mi := 214) (pc := 227) (len := 1) rfl h
                obtain ⟨r10, N11, g12, h⟩ := eCall (mi := 214) (pc := 228) (len := 3) (j := 213) (as := [.int (9 : Int32), .int (iv M 215 ((x3 - (1 : Int32)) - (1 : Int32)).toInt.toNat), .int (iv M 215 (x3 - (1 : Int32)).toInt.toNat)]) (rest := [.int ((x3 - (1 : Int32)) - (1 : Int32)), .ref 215]) rfl (Or.inl rfl) (by decide) rfl rfl h
                rw [ix, iy, s0, s1] at g12
                obtain ⟨qN11, wN11⟩ := rkR_en (op := 9) (by decide) rfl (fun q => by omega) g12
                rw [qN11, wN11] at h
                obtain ⟨N14, eN14⟩ : ∃ X_, X_ = mPut M 215 ((x3 - (1 : Int32)) - (1 : Int32)).toInt.toNat (.int (rkO 9 (s m) (s (m + 1)))) := ⟨_, rfl⟩
                obtain ⟨b13, h⟩ := eIast (x := ((x3 - (1 : Int32)) - (1 : Int32))) (N := N14) hS (a := 215) (by decide) (by decide) eN14 (mi := 214) (pc := 231) (len := 1) rfl h
                have hS15 : Sh N14 := by rw [eN14]; exact hS.put (by decide) (by decide) rfl
                replace h := eGoto (mi := 214) (pc := 232) (len := 3) (t := 16) rfl rfl h
                rw [ix] at eN14
                have fr : FrR M N14 := fun c i h1 => by rw [eN14, mSlot_put_ne (Or.inl h1)]
                have ht : HR N14 (m + 1) (sUp s m (rkO 9 (s m) (s (m + 1)))) := fun k hk => by
                  rw [eN14]
                  by_cases c : k = m
                  · rw [c, iv_put_eq hS (by decide) (by decide) (show m < tSiz (tGrp 215) from hm), sUp_eq]
                  · rw [iv_put_ne (Or.inr c), sUp_ne c]
                    exact hT k (by omega)
                exact ⟨_, N14, _, _, ⟨(mLd_st1_ref (by decide) l0), (mLd_st1_int (by decide) l2), mLd_st1_i, (mLd_st1_int (by decide) l4), (mLd_st1_int (by decide) l5), (dc1 h3 (by omega) (by omega)).trans (by omega), h5⟩, hS15, ht, fr, h⟩
              · exact absurd c7 (by decide)
          · exact absurd c5 (by decide)
      · exact absurd c3 (by decide)
    · exact absurd c2 (by decide)
theorem cmt_lp {F ty : Nat → Int} {fc : Nat → Int32} {b0 C q : Nat} (hty : ∀ i, b0 ≤ i → i < C → tyOk F ty (fun _ => False) C i ∧ ty i ≤ 16) (hC : ty C = 1 ∨ ty C = -1) : ∀ (n d : Nat) (L : MLoc) (M : Mem) (r : Option Value) (M1 : Mem) (x2 x3 x4 x5 : Int32) (i m : Nat) (s : Nat → Int32), mLd L 0 = some (.ref 181) → mLd L 2 = some (.int x2) → mLd L 3 = some (.int x3) → mLd L 4 = some (.int x4) → mLd L 5 = some (.int x5) → x2.toInt = 180 * (q : Int) + (C : Int) → x4.toInt = 180 * (q : Int) → x5.toInt = 180 * (q : Int) + (i : Int) → x3.toInt = (m : Int) → Sh M → RP q F fc b0 C M → HR M m s → b0 ≤ i → i ≤ C → TI ty i m s → En n d 214 16 L [] M r M1 → ∃ k v, ev F fc C k (i, m, s) = some v ∧ r = some (.int v) ∧ Sh M1 ∧ FrR M M1 := by
  intro n
  induction n with
  | zero => intro d L M r M1 x2 x3 x4 x5 i m s _ _ _ _ _ _ _ _ _ _ _ _ _ _ _ h; exact (En.zero (mi := 214) (pc := 16) (len := 2) rfl h).elim
  | succ n ih =>
    intro d L M r M1 x2 x3 x4 x5 i m s l0 l2 l3 l4 l5 h2 h4 h5 h3 hS hR hT hi hiC hI h
    obtain ⟨_, _, q3, C180⟩ := id hR
    replace h := eIloadS (mi := 214) (pc := 16) (len := 2) (i := 5) rfl l5 h
    replace h := eIload (mi := 214) (pc := 18) (len := 1) (i := 2) rfl l2 h
    rcases eIc (mi := 214) (pc := 19) (len := 3) (t := 235) rfl rfl h with ⟨c1, h⟩ | ⟨c1, h⟩
    · replace c1 : ¬ x5.toInt < x2.toInt := mC_ge.1 c1
      replace h := eAload (mi := 214) (pc := 235) (len := 1) (i := 0) rfl l0 h
      replace h := eGetR (a := 181) (j := 1146) (g := 215) hS (by decide) (by decide) rfl rfl rfl (mi := 214) (pc := 236) (len := 3) rfl h
      replace h := eConst (mi := 214) (pc := 239) (len := 1) (v := 0) rfl h
      obtain ⟨b2, h⟩ := eIald (x := (0 : Int32)) hS (a := 215) (by decide) (by decide) rfl (mi := 214) (pc := 240) (len := 1) rfl h
      obtain ⟨e1, e2⟩ := eRetI (mi := 214) (pc := 241) (len := 1) rfl h
      have eC : i = C := by omega
      subst eC
      have m1 : m = 1 := by
        rcases hC with q | q
        · have := hI.pos (by omega)
          omega
        · exact (hI.one q).1
      subst m1
      have s0 : iv M 215 ((0 : Int32)).toInt.toNat = s 0 := hT 0 (by omega)
      rw [s0] at e1
      rw [e2]
      exact ⟨1, _, ev_end (Nat.le_refl _), e1, hS, FrR.rf⟩
    · replace c1 : x5.toInt < x2.toInt := mC_ge.2 c1
      replace h := eAload (mi := 214) (pc := 22) (len := 1) (i := 0) rfl l0 h
      replace h := eGetR (a := 181) (j := 1140) (g := 209) hS (by decide) (by decide) rfl rfl rfl (mi := 214) (pc := 23) (len := 3) rfl h
      replace h := eIload (mi := 214) (pc := 26) (len := 2) (i := 5) rfl l5 h
      obtain ⟨b3, h⟩ := eIald (x := x5) hS (a := 209) (by decide) (by decide) rfl (mi := 214) (pc := 28) (len := 1) rfl h
      replace h := eConst (mi := 214) (pc := 29) (len := 3) (v := 1048576) rfl h
      replace h := eDiv (mi := 214) (pc := 32) (len := 1) rfl (by decide) h
      replace h := eIstore (mi := 214) (pc := 33) (len := 2) (i := 6) rfl (by decide) h
      replace h := eAload (mi := 214) (pc := 35) (len := 1) (i := 0) rfl (mLd_st1_ref (by decide) l0) h
      replace h := eGetR (a := 181) (j := 1140) (g := 209) hS (by decide) (by decide) rfl rfl rfl (mi := 214) (pc := 36) (len := 3) rfl h
      replace h := eIload (mi := 214) (pc := 39) (len := 2) (i := 5) rfl (mLd_st1_int (by decide) l5) h
      obtain ⟨b4, h⟩ := eIald (x := x5) hS (a := 209) (by decide) (by decide) rfl (mi := 214) (pc := 41) (len := 1) rfl h
      replace h := eConst (mi := 214) (pc := 42) (len := 3) (v := 1048576) rfl h
      replace h := eRem (mi := 214) (pc := 45) (len := 1) rfl (by decide) h
      replace h := eIstore (mi := 214) (pc := 46) (len := 2) (i := 7) rfl (by decide) h
      replace h := eIload (mi := 214) (pc := 48) (len := 2) (i := 5) rfl (mLd_st1_int (by decide) (mLd_st1_int (by decide) l5)) h
      replace h := eConst (mi := 214) (pc := 50) (len := 1) (v := 1) rfl h
      replace h := eAdd (mi := 214) (pc := 51) (len := 1) rfl h
      replace h := eIstore (mi := 214) (pc := 52) (len := 2) (i := 5) rfl (by decide) h
      have ii : i < C := by omega
      have ew := hR.1 i hi ii
      rw [show 180 * q + i = x5.toInt.toNat by omega] at ew
      obtain ⟨hok, h16⟩ := hty i hi ii
      have cb : 0 ≤ cOp (F i) ∧ cOp (F i) ≤ 12 := by unfold tyOk at hok; omega
      have fb : 0 ≤ F i ∧ F i < 16777216 := by unfold cOp at cb; omega
      have g6 : (iv M 209 x5.toInt.toNat / (1048576 : Int32)).toInt = cOp (F i) := by
        rw [i32_div (by omega) (by decide), ew]
        rfl
      have g7 : (iv M 209 x5.toInt.toNat - iv M 209 x5.toInt.toNat / (1048576 : Int32) * (1048576 : Int32)).toInt = cAr (F i) := by
        rw [rem_20 (by omega) (by omega), ew]
        rfl
      have h5n : (x5 + 1).toInt = 180 * (q : Int) + ((i + 1 : Nat) : Int) := (ic1 h5 (by omega) (by omega)).trans (by omega)
      have fin : ∀ {i2 m2 : Nat} {s2 : Nat → Int32}, RKn n d x2 x4 M r M1 (180 * (q : Int) + (i2 : Int)) m2 s2 → b0 ≤ i2 → i2 ≤ C → TI ty i2 m2 s2 → ∃ k v, ev F fc C k (i2, m2, s2) = some v ∧ r = some (.int v) ∧ Sh M1 ∧ FrR M M1 := fun z a1 a2 a3 => by
        obtain ⟨L2, N2, x, a, ⟨z0, z2, z3, z4, z5, z6, z7⟩, zS, zT, zF, zh⟩ := z
        obtain ⟨k, v, w1, w2, w3, w4⟩ := ih _ _ _ _ _ _ _ _ _ _ _ _ z0 z2 z3 z4 z5 h2 h4 z7 z6 zS (hR.fr zF) zT a1 a2 a3 zh
        exact ⟨k, v, w1, w2, w3, zF.tr w4⟩
      rcases hok with ⟨a, b, c⟩ | ⟨a, b, c⟩ | ⟨a, b, c⟩ | ⟨a, b, c⟩ | ⟨a, b, c, qq⟩
      · have hm := hI.pos b
        rcases a with oo | ⟨oo, a2⟩
        · have q0 := True.intro
          have e6 : (iv M 209 x5.toInt.toNat / (1048576 : Int32)) = (0 : Int32) := c_of _ g6 (by rw [oo]; rfl)
          have z := ce_0 (mLd_st1_ref (by decide) (mLd_st1_ref (by decide) (mLd_st1_ref (by decide) l0))) (mLd_st1_int (by decide) (mLd_st1_int (by decide) (mLd_st1_int (by decide) l2))) (mLd_st1_int (by decide) (mLd_st1_int (by decide) (mLd_st1_int (by decide) l3))) (mLd_st1_int (by decide) (mLd_st1_int (by decide) (mLd_st1_int (by decide) l4))) mLd_st1_i (by rw [← e6]; exact (mLd_st1_int (by decide) (mLd_st1_int (by decide) mLd_st1_i))) (mLd_st1_int (by decide) mLd_st1_i) h5n hS hT h3 (by omega) h
          have ev5 : (iv M 209 x5.toInt.toNat - iv M 209 x5.toInt.toNat / (1048576 : Int32) * (1048576 : Int32)) = Int32.ofInt (cAr (F i)) := by rw [← g7, Int32.ofInt_toInt]
          have z : RKn n d x2 x4 M r M1 (180 * (q : Int) + ((i + 1 : Nat) : Int)) (m + 1) (sUp s m (iv M 209 x5.toInt.toNat - iv M 209 x5.toInt.toNat / (1048576 : Int32) * (1048576 : Int32))) := z
          rw [ev5] at z
          obtain ⟨k, v, w1, w2⟩ := fin z (by omega) (by omega) (TI.mk (by omega) (by omega))
          exact ⟨k + 1, v, by rw [ev_num ii oo]; exact w1, w2⟩
        · have q0 := True.intro
          have e6 : (iv M 209 x5.toInt.toNat / (1048576 : Int32)) = (1 : Int32) := c_of _ g6 (by rw [oo]; rfl)
          have z := ce_1 (mLd_st1_ref (by decide) (mLd_st1_ref (by decide) (mLd_st1_ref (by decide) l0))) (mLd_st1_int (by decide) (mLd_st1_int (by decide) (mLd_st1_int (by decide) l2))) (mLd_st1_int (by decide) (mLd_st1_int (by decide) (mLd_st1_int (by decide) l3))) (mLd_st1_int (by decide) (mLd_st1_int (by decide) (mLd_st1_int (by decide) l4))) mLd_st1_i (by rw [← e6]; exact (mLd_st1_int (by decide) (mLd_st1_int (by decide) mLd_st1_i))) (mLd_st1_int (by decide) mLd_st1_i) h5n hS hT h3 (by omega) h
          have ev5 : iv M 216 (iv M 209 x5.toInt.toNat - iv M 209 x5.toInt.toNat / (1048576 : Int32) * (1048576 : Int32)).toInt.toNat = fc (cAr (F i)).toNat := by
            rw [g7]
            exact hR.2.1 _ (by omega)
          have z : RKn n d x2 x4 M r M1 (180 * (q : Int) + ((i + 1 : Nat) : Int)) (m + 1) (sUp s m (iv M 216 (iv M 209 x5.toInt.toNat - iv M 209 x5.toInt.toNat / (1048576 : Int32) * (1048576 : Int32)).toInt.toNat)) := z
          rw [ev5] at z
          obtain ⟨k, v, w1, w2⟩ := fin z (by omega) (by omega) (TI.mk (by omega) (by omega))
          exact ⟨k + 1, v, by rw [ev_let ii oo]; exact w1, w2⟩
      · have hm := hI.pos (by omega)
        obtain ⟨m, rfl⟩ : ∃ m2, m = m2 + 2 := ⟨m - 2, by omega⟩
        rcases (show cOp (F i) = 2 ∨ cOp (F i) = 3 ∨ cOp (F i) = 4 ∨ cOp (F i) = 5 ∨ cOp (F i) = 6 by omega) with oo | oo | oo | oo | oo
        · have q0 := True.intro
          have e6 : (iv M 209 x5.toInt.toNat / (1048576 : Int32)) = (2 : Int32) := c_of _ g6 (by rw [oo]; rfl)
          have z := ce_2 (mLd_st1_ref (by decide) (mLd_st1_ref (by decide) (mLd_st1_ref (by decide) l0))) (mLd_st1_int (by decide) (mLd_st1_int (by decide) (mLd_st1_int (by decide) l2))) (mLd_st1_int (by decide) (mLd_st1_int (by decide) (mLd_st1_int (by decide) l3))) (mLd_st1_int (by decide) (mLd_st1_int (by decide) (mLd_st1_int (by decide) l4))) mLd_st1_i (by rw [← e6]; exact (mLd_st1_int (by decide) (mLd_st1_int (by decide) mLd_st1_i))) (mLd_st1_int (by decide) mLd_st1_i) h5n hS hT (h3.trans (by omega)) (by omega) h
          obtain ⟨k, v, w1, w2⟩ := fin z (by omega) (by omega) (TI.mk (by omega) (by omega))
          exact ⟨k + 1, v, by rw [ev_rk ii (by omega), oo]; exact (if_neg (by omega)).trans w1, w2⟩
        · have q0 := True.intro
          have e6 : (iv M 209 x5.toInt.toNat / (1048576 : Int32)) = (3 : Int32) := c_of _ g6 (by rw [oo]; rfl)
          have z := ce_3 (mLd_st1_ref (by decide) (mLd_st1_ref (by decide) (mLd_st1_ref (by decide) l0))) (mLd_st1_int (by decide) (mLd_st1_int (by decide) (mLd_st1_int (by decide) l2))) (mLd_st1_int (by decide) (mLd_st1_int (by decide) (mLd_st1_int (by decide) l3))) (mLd_st1_int (by decide) (mLd_st1_int (by decide) (mLd_st1_int (by decide) l4))) mLd_st1_i (by rw [← e6]; exact (mLd_st1_int (by decide) (mLd_st1_int (by decide) mLd_st1_i))) (mLd_st1_int (by decide) mLd_st1_i) h5n hS hT (h3.trans (by omega)) (by omega) h
          obtain ⟨k, v, w1, w2⟩ := fin z (by omega) (by omega) (TI.mk (by omega) (by omega))
          exact ⟨k + 1, v, by rw [ev_rk ii (by omega), oo]; exact (if_neg (by omega)).trans w1, w2⟩
        · have q0 := True.intro
          have e6 : (iv M 209 x5.toInt.toNat / (1048576 : Int32)) = (4 : Int32) := c_of _ g6 (by rw [oo]; rfl)
          have z := ce_4 (mLd_st1_ref (by decide) (mLd_st1_ref (by decide) (mLd_st1_ref (by decide) l0))) (mLd_st1_int (by decide) (mLd_st1_int (by decide) (mLd_st1_int (by decide) l2))) (mLd_st1_int (by decide) (mLd_st1_int (by decide) (mLd_st1_int (by decide) l3))) (mLd_st1_int (by decide) (mLd_st1_int (by decide) (mLd_st1_int (by decide) l4))) mLd_st1_i (by rw [← e6]; exact (mLd_st1_int (by decide) (mLd_st1_int (by decide) mLd_st1_i))) (mLd_st1_int (by decide) mLd_st1_i) h5n hS hT (h3.trans (by omega)) (by omega) h
          obtain ⟨k, v, w1, w2⟩ := fin z (by omega) (by omega) (TI.mk (by omega) (by omega))
          exact ⟨k + 1, v, by rw [ev_rk ii (by omega), oo]; exact (if_neg (by omega)).trans w1, w2⟩
        · have q0 := True.intro
          have e6 : (iv M 209 x5.toInt.toNat / (1048576 : Int32)) = (5 : Int32) := c_of _ g6 (by rw [oo]; rfl)
          have z := ce_5 (mLd_st1_ref (by decide) (mLd_st1_ref (by decide) (mLd_st1_ref (by decide) l0))) (mLd_st1_int (by decide) (mLd_st1_int (by decide) (mLd_st1_int (by decide) l2))) (mLd_st1_int (by decide) (mLd_st1_int (by decide) (mLd_st1_int (by decide) l3))) (mLd_st1_int (by decide) (mLd_st1_int (by decide) (mLd_st1_int (by decide) l4))) mLd_st1_i (by rw [← e6]; exact (mLd_st1_int (by decide) (mLd_st1_int (by decide) mLd_st1_i))) (mLd_st1_int (by decide) mLd_st1_i) h5n hS hT (h3.trans (by omega)) (by omega) h
          by_cases dz : s (m + 1) = 0
          · rw [if_pos dz] at z
            exact ⟨1, 0, by rw [ev_rk ii (by omega)]; exact if_pos ⟨by omega, dz⟩, z⟩
          · rw [if_neg dz] at z
            obtain ⟨k, v, w1, w2⟩ := fin z (by omega) (by omega) (TI.mk (by omega) (by omega))
            exact ⟨k + 1, v, by rw [ev_rk ii (by omega), oo]; exact (if_neg (fun q => dz q.2)).trans w1, w2⟩
        · have q0 := True.intro
          have e6 : (iv M 209 x5.toInt.toNat / (1048576 : Int32)) = (6 : Int32) := c_of _ g6 (by rw [oo]; rfl)
          have z := ce_6 (mLd_st1_ref (by decide) (mLd_st1_ref (by decide) (mLd_st1_ref (by decide) l0))) (mLd_st1_int (by decide) (mLd_st1_int (by decide) (mLd_st1_int (by decide) l2))) (mLd_st1_int (by decide) (mLd_st1_int (by decide) (mLd_st1_int (by decide) l3))) (mLd_st1_int (by decide) (mLd_st1_int (by decide) (mLd_st1_int (by decide) l4))) mLd_st1_i (by rw [← e6]; exact (mLd_st1_int (by decide) (mLd_st1_int (by decide) mLd_st1_i))) (mLd_st1_int (by decide) mLd_st1_i) h5n hS hT (h3.trans (by omega)) (by omega) h
          by_cases dz : s (m + 1) = 0
          · rw [if_pos dz] at z
            exact ⟨1, 0, by rw [ev_rk ii (by omega)]; exact if_pos ⟨by omega, dz⟩, z⟩
          · rw [if_neg dz] at z
            obtain ⟨k, v, w1, w2⟩ := fin z (by omega) (by omega) (TI.mk (by omega) (by omega))
            exact ⟨k + 1, v, by rw [ev_rk ii (by omega), oo]; exact (if_neg (fun q => dz q.2)).trans w1, w2⟩
      · have hm := hI.pos (by omega)
        obtain ⟨m, rfl⟩ : ∃ m2, m = m2 + 2 := ⟨m - 2, by omega⟩
        have m0 : m = 0 := by omega
        subst m0
        rcases (show cOp (F i) = 7 ∨ cOp (F i) = 8 ∨ cOp (F i) = 9 by omega) with oo | oo | oo
        · have q0 := True.intro
          have e6 : (iv M 209 x5.toInt.toNat / (1048576 : Int32)) = (7 : Int32) := c_of _ g6 (by rw [oo]; rfl)
          have z := ce_7 (mLd_st1_ref (by decide) (mLd_st1_ref (by decide) (mLd_st1_ref (by decide) l0))) (mLd_st1_int (by decide) (mLd_st1_int (by decide) (mLd_st1_int (by decide) l2))) (mLd_st1_int (by decide) (mLd_st1_int (by decide) (mLd_st1_int (by decide) l3))) (mLd_st1_int (by decide) (mLd_st1_int (by decide) (mLd_st1_int (by decide) l4))) mLd_st1_i (by rw [← e6]; exact (mLd_st1_int (by decide) (mLd_st1_int (by decide) mLd_st1_i))) (mLd_st1_int (by decide) mLd_st1_i) h5n hS hT (h3.trans (by omega)) (by omega) h
          obtain ⟨k, v, w1, w2⟩ := fin z (by omega) (by omega) (TI.mk1 c (by rw [sUp_eq]; exact rkO_01 (by decide)))
          exact ⟨k + 1, v, by rw [ev_rk ii (by omega), oo]; exact (if_neg (by omega)).trans w1, w2⟩
        · have q0 := True.intro
          have e6 : (iv M 209 x5.toInt.toNat / (1048576 : Int32)) = (8 : Int32) := c_of _ g6 (by rw [oo]; rfl)
          have z := ce_8 (mLd_st1_ref (by decide) (mLd_st1_ref (by decide) (mLd_st1_ref (by decide) l0))) (mLd_st1_int (by decide) (mLd_st1_int (by decide) (mLd_st1_int (by decide) l2))) (mLd_st1_int (by decide) (mLd_st1_int (by decide) (mLd_st1_int (by decide) l3))) (mLd_st1_int (by decide) (mLd_st1_int (by decide) (mLd_st1_int (by decide) l4))) mLd_st1_i (by rw [← e6]; exact (mLd_st1_int (by decide) (mLd_st1_int (by decide) mLd_st1_i))) (mLd_st1_int (by decide) mLd_st1_i) h5n hS hT (h3.trans (by omega)) (by omega) h
          obtain ⟨k, v, w1, w2⟩ := fin z (by omega) (by omega) (TI.mk1 c (by rw [sUp_eq]; exact rkO_01 (by decide)))
          exact ⟨k + 1, v, by rw [ev_rk ii (by omega), oo]; exact (if_neg (by omega)).trans w1, w2⟩
        · have q0 := True.intro
          have e6 : (iv M 209 x5.toInt.toNat / (1048576 : Int32)) = (9 : Int32) := c_of _ g6 (by rw [oo]; rfl)
          have z := ce_9 (mLd_st1_ref (by decide) (mLd_st1_ref (by decide) (mLd_st1_ref (by decide) l0))) (mLd_st1_int (by decide) (mLd_st1_int (by decide) (mLd_st1_int (by decide) l2))) (mLd_st1_int (by decide) (mLd_st1_int (by decide) (mLd_st1_int (by decide) l3))) (mLd_st1_int (by decide) (mLd_st1_int (by decide) (mLd_st1_int (by decide) l4))) mLd_st1_i (by rw [← e6]; exact (mLd_st1_int (by decide) (mLd_st1_int (by decide) mLd_st1_i))) (mLd_st1_int (by decide) mLd_st1_i) h5n hS hT (h3.trans (by omega)) (by omega) h
          obtain ⟨k, v, w1, w2⟩ := fin z (by omega) (by omega) (TI.mk1 c (by rw [sUp_eq]; exact rkO_01 (by decide)))
          exact ⟨k + 1, v, by rw [ev_rk ii (by omega), oo]; exact (if_neg (by omega)).trans w1, w2⟩
      · obtain ⟨m1, h01⟩ := hI.one b
        subst m1
        have oo := a
        have e6 : (iv M 209 x5.toInt.toNat / (1048576 : Int32)) = (10 : Int32) := c_of _ g6 (by rw [oo]; rfl)
        have z := ce_10 (m := 0) (mLd_st1_ref (by decide) (mLd_st1_ref (by decide) (mLd_st1_ref (by decide) l0))) (mLd_st1_int (by decide) (mLd_st1_int (by decide) (mLd_st1_int (by decide) l2))) (mLd_st1_int (by decide) (mLd_st1_int (by decide) (mLd_st1_int (by decide) l3))) (mLd_st1_int (by decide) (mLd_st1_int (by decide) (mLd_st1_int (by decide) l4))) mLd_st1_i (by rw [← e6]; exact (mLd_st1_int (by decide) (mLd_st1_int (by decide) mLd_st1_i))) (mLd_st1_int (by decide) mLd_st1_i) h5n hS hT h3 h
        obtain ⟨k, v, w1, w2⟩ := fin z (by omega) (by omega) (TI.mk1 c (by rw [sUp_eq]; exact not_01 h01))
        exact ⟨k + 1, v, by rw [ev_not ii a]; exact w1, w2⟩
      · obtain ⟨m1, h01⟩ := hI.one b
        subst m1
        obtain ⟨v0, v1, v2, v3, v4⟩ := qq.resolve_left id
        have t0 : (cAr (F i)).toNat = v0 := by omega
        rcases a with oo | oo
        · have q0 := True.intro
          have e6 : (iv M 209 x5.toInt.toNat / (1048576 : Int32)) = (11 : Int32) := c_of _ g6 (by rw [oo]; rfl)
          have z := ce_11 (m := 0) (mLd_st1_ref (by decide) (mLd_st1_ref (by decide) (mLd_st1_ref (by decide) l0))) (mLd_st1_int (by decide) (mLd_st1_int (by decide) (mLd_st1_int (by decide) l2))) (mLd_st1_int (by decide) (mLd_st1_int (by decide) (mLd_st1_int (by decide) l3))) (mLd_st1_int (by decide) (mLd_st1_int (by decide) (mLd_st1_int (by decide) l4))) mLd_st1_i (by rw [← e6]; exact (mLd_st1_int (by decide) (mLd_st1_int (by decide) mLd_st1_i))) (mLd_st1_int (by decide) mLd_st1_i) h5n hS hT h3 h4 (g7.trans v1) (by omega) h
          by_cases dz : (s 0).toInt = 0
          · rw [if_pos dz] at z
            obtain ⟨k, v, w1, w2⟩ := fin z (by omega) v3 (TI.mk1 v4 h01)
            exact ⟨k + 1, v, by rw [ev_jmp ii (by omega), t0, oo]; exact (if_pos dz).trans w1, w2⟩
          · rw [if_neg dz] at z
            obtain ⟨k, v, w1, w2⟩ := fin z (by omega) (by omega) (TI.mk (by omega) (by omega))
            exact ⟨k + 1, v, by rw [ev_jmp ii (by omega), oo]; exact (if_neg dz).trans w1, w2⟩
        · have q0 := True.intro
          have e6 : (iv M 209 x5.toInt.toNat / (1048576 : Int32)) = (12 : Int32) := c_of _ g6 (by rw [oo]; rfl)
          have z := ce_12 (m := 0) (mLd_st1_ref (by decide) (mLd_st1_ref (by decide) (mLd_st1_ref (by decide) l0))) (mLd_st1_int (by decide) (mLd_st1_int (by decide) (mLd_st1_int (by decide) l2))) (mLd_st1_int (by decide) (mLd_st1_int (by decide) (mLd_st1_int (by decide) l3))) (mLd_st1_int (by decide) (mLd_st1_int (by decide) (mLd_st1_int (by decide) l4))) mLd_st1_i (by rw [← e6]; exact (mLd_st1_int (by decide) (mLd_st1_int (by decide) mLd_st1_i))) (mLd_st1_int (by decide) mLd_st1_i) h5n hS hT h3 h4 (g7.trans v1) (by omega) h
          by_cases dz : (s 0).toInt = 1
          · rw [if_pos dz] at z
            obtain ⟨k, v, w1, w2⟩ := fin z (by omega) v3 (TI.mk1 v4 h01)
            exact ⟨k + 1, v, by rw [ev_jmp ii (by omega), t0, oo]; exact (if_pos dz).trans w1, w2⟩
          · rw [if_neg dz] at z
            obtain ⟨k, v, w1, w2⟩ := fin z (by omega) (by omega) (TI.mk (by omega) (by omega))
            exact ⟨k + 1, v, by rw [ev_jmp ii (by omega), oo]; exact (if_neg dz).trans w1, w2⟩
theorem cmt_en {F ty : Nat → Int} {fc : Nat → Int32} {b0 C q : Nat} (hty : ∀ i, b0 ≤ i → i < C → tyOk F ty (fun _ => False) C i ∧ ty i ≤ 16) (hC : ty C = 1 ∨ ty C = -1) (h0 : ty b0 = 0) (hbC : b0 ≤ C) (hb : b0 < 180) {n d : Nat} {M : Mem} {r : Option Value} {M1 : Mem} {x1 x2 : Int32} (h1 : x1.toInt = 180 * (q : Int) + (b0 : Int)) (h2 : x2.toInt = 180 * (q : Int) + (C : Int)) (hS : Sh M) (hR : RP q F fc b0 C M) (h : En n d 214 0 (lv_args 0 [.ref 181, .int x1, .int x2]) [] M r M1) : ∃ k v, ev F fc C k (b0, 0, fun _ => 0) = some v ∧ r = some (.int v) ∧ Sh M1 ∧ FrR M M1 := by
  obtain ⟨_, _, q3, C180⟩ := id hR
  replace h := eConst (mi := 214) (pc := 0) (len := 1) (v := 0) rfl h
  replace h := eIstore (mi := 214) (pc := 1) (len := 1) (i := 3) rfl (by decide) h
  replace h := eConst (mi := 214) (pc := 2) (len := 3) (v := 180) rfl h
  replace h := eIload (mi := 214) (pc := 5) (len := 1) (i := 1) rfl rfl h
  replace h := eConst (mi := 214) (pc := 6) (len := 3) (v := 180) rfl h
  replace h := eDiv (mi := 214) (pc := 9) (len := 1) rfl (by decide) h
  replace h := eMul (mi := 214) (pc := 10) (len := 1) rfl h
  replace h := eIstore (mi := 214) (pc := 11) (len := 2) (i := 4) rfl (by decide) h
  replace h := eIload (mi := 214) (pc := 13) (len := 1) (i := 1) rfl rfl h
  replace h := eIstore (mi := 214) (pc := 14) (len := 2) (i := 5) rfl (by decide) h
  have hdv : (x1 / (180 : Int32)).toInt = (q : Int) := by
    rw [i32_div (by omega) (by decide), h1]
    show (180 * (q : Int) + (b0 : Int)) / 180 = (q : Int)
    omega
  have hmu : ((180 : Int32) * (x1 / (180 : Int32))).toInt = 180 * (q : Int) := by
    have e1 : (180 : Int32).toInt = 180 := rfl
    rw [i32_mul (by rw [hdv, e1]; omega) (by rw [hdv, e1]; omega), hdv, e1]
  exact cmt_lp hty hC _ _ _ _ _ _ _ _ _ _ b0 0 (fun _ => 0) rfl rfl rfl rfl rfl h2 hmu h1 rfl hS hR (fun k hk => absurd hk (by omega)) (Nat.le_refl _) hbC (TI.mk (by omega) (by omega)) h

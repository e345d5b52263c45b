/-! the class's reader: its small methods (printed by fn5.py) -/
theorem mSlot_of {M N : Mem} {a i b j : Nat} {v : Value} (e : N = mPut M a i v) (h : b ≠ a ∨ j ≠ i) : mSlot N b j = mSlot M b j := by rw [e]; exact mSlot_put_ne h
theorem eGetX {n d mi pc len : Nat} {L : MLoc} {st : List Value} {M : Mem} {r : Option Value} {M1 : Mem} {a j b i : Nat} (hX : mSlot M a i = some (.ref b)) (hj : j % 100 = i) (hat : mAt mi pc = some (len, .getfield j)) (h : En n d mi pc L (.ref a :: st) M r M1) : En n d mi (pc + len) L (.ref b :: st) M r M1 := by
  obtain ⟨w, hw, h⟩ := eGetv hat h
  rw [hj, hX] at hw
  cases hw
  exact h
theorem i32c {x : Int32} {k : Int} (h : x.toInt = k) (f : Int → Prop) (hf : f k) : f x.toInt := by rw [h]; exact hf
def sgn (M : Mem) : Int32 := bif decide ((iv M 130 3).toInt < (iv M 130 2).toInt) then iv M 128 (iv M 130 3).toInt.toNat else -1
def failV (M : Mem) (k : Int32) : Int32 := (-1000) * k - iv M 130 3
theorem sgn_en {n d : Nat} {M : Mem} {r : Option Value} {M1 : Mem} (hS : Sh M) (hX : mSlot M 130 1 = some (.ref 128)) (h : En n d 73 0 (lv_args 0 [.ref 130]) [] M r M1) : r = some (.int (sgn M)) ∧ M1 = M := by
  replace h := eAload (mi := 73) (pc := 0) (len := 1) (i := 0) rfl rfl h
  replace h := eGetI (a := 130) (j := 503) hS (by decide) (by decide) rfl (mi := 73) (pc := 1) (len := 3) rfl h
  replace h := eAload (mi := 73) (pc := 4) (len := 1) (i := 0) rfl rfl h
  replace h := eGetI (a := 130) (j := 502) hS (by decide) (by decide) rfl (mi := 73) (pc := 5) (len := 3) rfl h
  rcases eIc (mi := 73) (pc := 8) (len := 3) (t := 23) rfl rfl h with ⟨c1, h⟩ | ⟨c1, h⟩
  · replace c1 : ¬ (iv M 130 3).toInt < (iv M 130 2).toInt := mC_ge.1 c1
    replace h := eConst (mi := 73) (pc := 23) (len := 1) (v := (-1)) rfl h
    obtain ⟨e1, e2⟩ := eRetI (mi := 73) (pc := 24) (len := 1) rfl h
    have e3 : sgn M = ((-1) : Int32) := by
      unfold sgn
      simp only [decide_eq_false c1, cond_true, cond_false]
    rw [e3]
    exact ⟨e1, e2⟩
  · replace c1 : (iv M 130 3).toInt < (iv M 130 2).toInt := mC_ge.2 c1
    replace h := eAload (mi := 73) (pc := 11) (len := 1) (i := 0) rfl rfl h
    replace h := eGetX (a := 130) (j := 501) (b := 128) (i := 1) hX rfl (mi := 73) (pc := 12) (len := 3) rfl h
    replace h := eAload (mi := 73) (pc := 15) (len := 1) (i := 0) rfl rfl h
    replace h := eGetI (a := 130) (j := 503) hS (by decide) (by decide) rfl (mi := 73) (pc := 16) (len := 3) rfl h
    obtain ⟨b2, h⟩ := eIald (x := (iv M 130 3)) hS (a := 128) (by decide) (by decide) rfl (mi := 73) (pc := 19) (len := 1) rfl h
    replace h := eGoto (mi := 73) (pc := 20) (len := 3) (t := 24) rfl rfl h
    obtain ⟨e1, e2⟩ := eRetI (mi := 73) (pc := 24) (len := 1) rfl h
    have e3 : sgn M = (iv M 128 (iv M 130 3).toInt.toNat) := by
      unfold sgn
      simp only [decide_eq_true c1, cond_true, cond_false]
    rw [e3]
    exact ⟨e1, e2⟩
theorem fail_en {n d : Nat} {M : Mem} {k : Int32} {r : Option Value} {M1 : Mem} (hS : Sh M) (h : En n d 72 0 (lv_args 0 [.ref 130, .int k]) [] M r M1) : r = some (.int 0) ∧ M1 = mPut M 130 5 (.int (failV M k)) := by
  replace h := eAload (mi := 72) (pc := 0) (len := 1) (i := 0) rfl rfl h
  replace h := eConst (mi := 72) (pc := 1) (len := 3) (v := (-1000)) rfl h
  replace h := eIload (mi := 72) (pc := 4) (len := 1) (i := 1) rfl rfl h
  replace h := eMul (mi := 72) (pc := 5) (len := 1) rfl h
  replace h := eAload (mi := 72) (pc := 6) (len := 1) (i := 0) rfl rfl h
  replace h := eGetI (a := 130) (j := 503) hS (by decide) (by decide) rfl (mi := 72) (pc := 7) (len := 3) rfl h
  replace h := eSub (mi := 72) (pc := 10) (len := 1) rfl h
  obtain ⟨N1, eN1⟩ : ∃ X_, X_ = mPut M 130 5 (.int ((((-1000) : Int32) * k) - (iv M 130 3))) := ⟨_, rfl⟩
  replace h := ePutE (a := 130) (f := 5) (N := N1) rfl eN1 (mi := 72) (pc := 11) (len := 3) (j := 505) rfl h
  have hS2 : Sh N1 := by rw [eN1]; exact hS.put (by decide) (by decide) rfl
  replace h := eConst (mi := 72) (pc := 14) (len := 1) (v := 0) rfl h
  obtain ⟨e1, e2⟩ := eRetI (mi := 72) (pc := 15) (len := 1) rfl h
  rw [e1, e2, eN1]
  exact ⟨rfl, rfl⟩
theorem open_en {c : Int32} {n d : Nat} {M : Mem} {r : Option Value} {M1 : Mem} (hS : Sh M) (hX : mSlot M 130 1 = some (.ref 128)) (h : En n d 74 0 (lv_args 0 [.ref 130, .int c]) [] M r M1) : (¬ (sgn M).toInt = c.toInt ∧ r = some (.int 0) ∧ M1 = mPut M 130 5 (.int (failV M 1))) ∨ ((sgn M).toInt = c.toInt ∧ (iv M 130 4).toInt = 6 ∧ r = some (.int 0) ∧ M1 = mPut M 130 5 (.int (failV M 5))) ∨ ((sgn M).toInt = c.toInt ∧ ¬ (iv M 130 4).toInt = 6 ∧ r = some (.int 1) ∧ M1 = mPut (mPut M 130 3 (.int (iv M 130 3 + 1))) 130 4 (.int (iv (mPut M 130 3 (.int (iv M 130 3 + 1))) 130 4 + 1))) := by
  replace h := eAload (mi := 74) (pc := 0) (len := 1) (i := 0) rfl rfl h
  replace h := eCallP (mi := 74) (pc := 1) (len := 3) (j := 73) (as := [.ref 130]) (rest := []) rfl (Or.inr (Or.inl rfl)) (by decide) rfl rfl (fun _ _ _ _ g => sgn_en hS hX g) h
  replace h := eIload (mi := 74) (pc := 4) (len := 1) (i := 1) rfl rfl h
  rcases eIc (mi := 74) (pc := 5) (len := 3) (t := 14) rfl rfl h with ⟨c1, h⟩ | ⟨c1, h⟩
  · replace c1 : (sgn M).toInt = c.toInt := mC_eq.1 c1
    replace h := eAload (mi := 74) (pc := 14) (len := 1) (i := 0) rfl rfl h
    replace h := eGetI (a := 130) (j := 504) hS (by decide) (by decide) rfl (mi := 74) (pc := 15) (len := 3) rfl h
    replace h := eConst (mi := 74) (pc := 18) (len := 2) (v := 6) rfl h
    rcases eIc (mi := 74) (pc := 20) (len := 3) (t := 29) rfl rfl h with ⟨c2, h⟩ | ⟨c2, h⟩
    · replace c2 : ¬ (iv M 130 4).toInt = 6 := mC_ne.1 c2
      replace h := eAload (mi := 74) (pc := 29) (len := 1) (i := 0) rfl rfl h
      replace h := eDupR (mi := 74) (pc := 30) (len := 1) rfl h
      replace h := eGetI (a := 130) (j := 503) hS (by decide) (by decide) rfl (mi := 74) (pc := 31) (len := 3) rfl h
      replace h := eConst (mi := 74) (pc := 34) (len := 1) (v := 1) rfl h
      replace h := eAdd (mi := 74) (pc := 35) (len := 1) rfl h
      obtain ⟨N3, eN3⟩ : ∃ X_, X_ = mPut M 130 3 (.int ((iv M 130 3) + (1 : Int32))) := ⟨_, rfl⟩
      replace h := ePutE (a := 130) (f := 3) (N := N3) rfl eN3 (mi := 74) (pc := 36) (len := 3) (j := 503) rfl h
      have hS4 : Sh N3 := by rw [eN3]; exact hS.put (by decide) (by decide) rfl
      replace h := eAload (mi := 74) (pc := 39) (len := 1) (i := 0) rfl rfl h
      replace h := eDupR (mi := 74) (pc := 40) (len := 1) rfl h
      replace h := eGetI (a := 130) (j := 504) hS4 (by decide) (by decide) rfl (mi := 74) (pc := 41) (len := 3) rfl h
      replace h := eConst (mi := 74) (pc := 44) (len := 1) (v := 1) rfl h
      replace h := eAdd (mi := 74) (pc := 45) (len := 1) rfl h
      obtain ⟨N5, eN5⟩ : ∃ X_, X_ = mPut N3 130 4 (.int ((iv N3 130 4) + (1 : Int32))) := ⟨_, rfl⟩
      replace h := ePutE (a := 130) (f := 4) (N := N5) rfl eN5 (mi := 74) (pc := 46) (len := 3) (j := 504) rfl h
      have hS6 : Sh N5 := by rw [eN5]; exact hS4.put (by decide) (by decide) rfl
      replace h := eConst (mi := 74) (pc := 49) (len := 1) (v := 1) rfl h
      obtain ⟨e1, e2⟩ := eRetI (mi := 74) (pc := 50) (len := 1) rfl h
      rw [e1, e2, eN5, eN3]
      exact Or.inr (Or.inr ⟨c1, c2, rfl, rfl⟩)
    · replace c2 : (iv M 130 4).toInt = 6 := mC_ne.2 c2
      replace h := eAload (mi := 74) (pc := 23) (len := 1) (i := 0) rfl rfl h
      replace h := eConst (mi := 74) (pc := 24) (len := 1) (v := 5) rfl h
      obtain ⟨r7, N8, g9, h⟩ := eCall (mi := 74) (pc := 25) (len := 3) (j := 72) (as := [.ref 130, .int (5 : Int32)]) (rest := []) rfl (Or.inr (Or.inl rfl)) (by decide) rfl rfl h
      obtain ⟨q10, q11⟩ := fail_en hS g9
      rw [q10] at h
      have eN8 := q11
      have hS12 : Sh N8 := by rw [eN8]; exact hS.put (by decide) (by decide) rfl
      obtain ⟨e1, e2⟩ := eRetI (mi := 74) (pc := 28) (len := 1) rfl h
      rw [e1, e2, eN8]
      exact Or.inr (Or.inl ⟨c1, c2, rfl, rfl⟩)
  · replace c1 : ¬ (sgn M).toInt = c.toInt := mC_eq.2 c1
    replace h := eAload (mi := 74) (pc := 8) (len := 1) (i := 0) rfl rfl h
    replace h := eConst (mi := 74) (pc := 9) (len := 1) (v := 1) rfl h
    obtain ⟨r13, N14, g15, h⟩ := eCall (mi := 74) (pc := 10) (len := 3) (j := 72) (as := [.ref 130, .int (1 : Int32)]) (rest := []) rfl (Or.inr (Or.inl rfl)) (by decide) rfl rfl h
    obtain ⟨q16, q17⟩ := fail_en hS g15
    rw [q16] at h
    have eN14 := q17
    have hS18 : Sh N14 := by rw [eN14]; exact hS.put (by decide) (by decide) rfl
    obtain ⟨e1, e2⟩ := eRetI (mi := 74) (pc := 13) (len := 1) rfl h
    rw [e1, e2, eN14]
    exact Or.inl ⟨c1, rfl, rfl⟩
theorem close_en {c : Int32} {n d : Nat} {M : Mem} {r : Option Value} {M1 : Mem} (hS : Sh M) (hX : mSlot M 130 1 = some (.ref 128)) (h : En n d 75 0 (lv_args 0 [.ref 130, .int c]) [] M r M1) : (¬ (sgn M).toInt = c.toInt ∧ r = some (.int 0) ∧ M1 = mPut M 130 5 (.int (failV M 1))) ∨ ((sgn M).toInt = c.toInt ∧ r = some (.int 1) ∧ M1 = mPut (mPut M 130 3 (.int (iv M 130 3 + 1))) 130 4 (.int (iv (mPut M 130 3 (.int (iv M 130 3 + 1))) 130 4 - 1))) := by
  replace h := eAload (mi := 75) (pc := 0) (len := 1) (i := 0) rfl rfl h
  replace h := eCallP (mi := 75) (pc := 1) (len := 3) (j := 73) (as := [.ref 130]) (rest := []) rfl (Or.inr (Or.inl rfl)) (by decide) rfl rfl (fun _ _ _ _ g => sgn_en hS hX g) h
  replace h := eIload (mi := 75) (pc := 4) (len := 1) (i := 1) rfl rfl h
  rcases eIc (mi := 75) (pc := 5) (len := 3) (t := 14) rfl rfl h with ⟨c1, h⟩ | ⟨c1, h⟩
  · replace c1 : (sgn M).toInt = c.toInt := mC_eq.1 c1
    replace h := eAload (mi := 75) (pc := 14) (len := 1) (i := 0) rfl rfl h
    replace h := eDupR (mi := 75) (pc := 15) (len := 1) rfl h
    replace h := eGetI (a := 130) (j := 503) hS (by decide) (by decide) rfl (mi := 75) (pc := 16) (len := 3) rfl h
    replace h := eConst (mi := 75) (pc := 19) (len := 1) (v := 1) rfl h
    replace h := eAdd (mi := 75) (pc := 20) (len := 1) rfl h
    obtain ⟨N2, eN2⟩ : ∃ X_, X_ = mPut M 130 3 (.int ((iv M 130 3) + (1 : Int32))) := ⟨_, rfl⟩
    replace h := ePutE (a := 130) (f := 3) (N := N2) rfl eN2 (mi := 75) (pc := 21) (len := 3) (j := 503) rfl h
    have hS3 : Sh N2 := by rw [eN2]; exact hS.put (by decide) (by decide) rfl
    replace h := eAload (mi := 75) (pc := 24) (len := 1) (i := 0) rfl rfl h
    replace h := eDupR (mi := 75) (pc := 25) (len := 1) rfl h
    replace h := eGetI (a := 130) (j := 504) hS3 (by decide) (by decide) rfl (mi := 75) (pc := 26) (len := 3) rfl h
    replace h := eConst (mi := 75) (pc := 29) (len := 1) (v := 1) rfl h
    replace h := eSub (mi := 75) (pc := 30) (len := 1) rfl h
    obtain ⟨N4, eN4⟩ : ∃ X_, X_ = mPut N2 130 4 (.int ((iv N2 130 4) - (1 : Int32))) := ⟨_, rfl⟩
    replace h := ePutE (a := 130) (f := 4) (N := N4) rfl eN4 (mi := 75) (pc := 31) (len := 3) (j := 504) rfl h
    have hS5 : Sh N4 := by rw [eN4]; exact hS3.put (by decide) (by decide) rfl
    replace h := eConst (mi := 75) (pc := 34) (len := 1) (v := 1) rfl h
    obtain ⟨e1, e2⟩ := eRetI (mi := 75) (pc := 35) (len := 1) rfl h
    rw [e1, e2, eN4, eN2]
    exact Or.inr ⟨c1, rfl, rfl⟩
  · replace c1 : ¬ (sgn M).toInt = c.toInt := mC_eq.2 c1
    replace h := eAload (mi := 75) (pc := 8) (len := 1) (i := 0) rfl rfl h
    replace h := eConst (mi := 75) (pc := 9) (len := 1) (v := 1) rfl h
    obtain ⟨r6, N7, g8, h⟩ := eCall (mi := 75) (pc := 10) (len := 3) (j := 72) (as := [.ref 130, .int (1 : Int32)]) (rest := []) rfl (Or.inr (Or.inl rfl)) (by decide) rfl rfl h
    obtain ⟨q9, q10⟩ := fail_en hS g8
    rw [q9] at h
    have eN7 := q10
    have hS11 : Sh N7 := by rw [eN7]; exact hS.put (by decide) (by decide) rfl
    obtain ⟨e1, e2⟩ := eRetI (mi := 75) (pc := 13) (len := 1) rfl h
    rw [e1, e2, eN7]
    exact Or.inl ⟨c1, rfl, rfl⟩
def stepV (c v : Int32) : Int32 := (c <<< ((20 : Int32) &&& 31)) ||| (v &&& (1048575 : Int32))
def stepM (M : Mem) (c v : Int32) : Mem := mPut (mPut M 132 (iv M 131 1).toInt.toNat (.int (stepV c v))) 131 1 (.int (iv (mPut M 132 (iv M 131 1).toInt.toNat (.int (stepV c v))) 131 1 + 1))
theorem step_en {c v : Int32} {n d : Nat} {M : Mem} {r : Option Value} {M1 : Mem} (hS : Sh M) (hl : (iv M 131 1).toInt < 160) (h : En n d 60 0 (lv_args 0 [.ref 131, .int c, .int v]) [] M r M1) : r = some (.int (iv (stepM M c v) 131 1 - 1)) ∧ M1 = stepM M c v := by
  replace h := eAload (mi := 60) (pc := 0) (len := 1) (i := 0) rfl rfl h
  replace h := eGetI (a := 131) (j := 401) hS (by decide) (by decide) rfl (mi := 60) (pc := 1) (len := 3) rfl h
  replace h := eConst (mi := 60) (pc := 4) (len := 3) (v := 160) rfl h
  rcases eIc (mi := 60) (pc := 7) (len := 3) (t := 38) rfl rfl h with ⟨c1, h⟩ | ⟨c1, h⟩
  · replace c1 : ¬ (iv M 131 1).toInt < 160 := mC_ge.1 c1
    replace h := eAload (mi := 60) (pc := 38) (len := 1) (i := 0) rfl rfl h
    replace h := eGetI (a := 131) (j := 401) hS (by decide) (by decide) rfl (mi := 60) (pc := 39) (len := 3) rfl h
    replace h := eConst (mi := 60) (pc := 42) (len := 1) (v := 1) rfl h
    replace h := eSub (mi := 60) (pc := 43) (len := 1) rfl h
    obtain ⟨e1, e2⟩ := eRetI (mi := 60) (pc := 44) (len := 1) rfl h
    exact absurd hl c1
  · replace c1 : (iv M 131 1).toInt < 160 := mC_ge.2 c1
    replace h := eAload (mi := 60) (pc := 10) (len := 1) (i := 0) rfl rfl h
    replace h := eGetR (a := 131) (j := 400) (g := 132) hS (by decide) (by decide) rfl rfl rfl (mi := 60) (pc := 11) (len := 3) rfl h
    replace h := eAload (mi := 60) (pc := 14) (len := 1) (i := 0) rfl rfl h
    replace h := eGetI (a := 131) (j := 401) hS (by decide) (by decide) rfl (mi := 60) (pc := 15) (len := 3) rfl h
    replace h := eIload (mi := 60) (pc := 18) (len := 1) (i := 1) rfl rfl h
    replace h := eConst (mi := 60) (pc := 19) (len := 2) (v := 20) rfl h
    replace h := eShl (mi := 60) (pc := 21) (len := 1) rfl h
    replace h := eIload (mi := 60) (pc := 22) (len := 1) (i := 2) rfl rfl h
    replace h := eConst (mi := 60) (pc := 23) (len := 2) (v := 1048575) rfl h
    replace h := eAnd (mi := 60) (pc := 25) (len := 1) rfl h
    replace h := eOr (mi := 60) (pc := 26) (len := 1) rfl h
    obtain ⟨N3, eN3⟩ : ∃ X_, X_ = mPut M 132 (iv M 131 1).toInt.toNat (.int ((c <<< ((20 : Int32) &&& 31)) ||| (v &&& (1048575 : Int32)))) := ⟨_, rfl⟩
    obtain ⟨b2, h⟩ := eIast (x := (iv M 131 1)) (N := N3) hS (a := 132) (by decide) (by decide) eN3 (mi := 60) (pc := 27) (len := 1) rfl h
    have hS4 : Sh N3 := by rw [eN3]; exact hS.put (by decide) (by decide) rfl
    replace h := eAload (mi := 60) (pc := 28) (len := 1) (i := 0) rfl rfl h
    replace h := eDupR (mi := 60) (pc := 29) (len := 1) rfl h
    replace h := eGetI (a := 131) (j := 401) hS4 (by decide) (by decide) rfl (mi := 60) (pc := 30) (len := 3) rfl h
    replace h := eConst (mi := 60) (pc := 33) (len := 1) (v := 1) rfl h
    replace h := eAdd (mi := 60) (pc := 34) (len := 1) rfl h
    obtain ⟨N5, eN5⟩ : ∃ X_, X_ = mPut N3 131 1 (.int ((iv N3 131 1) + (1 : Int32))) := ⟨_, rfl⟩
    replace h := ePutE (a := 131) (f := 1) (N := N5) rfl eN5 (mi := 60) (pc := 35) (len := 3) (j := 401) rfl h
    have hS6 : Sh N5 := by rw [eN5]; exact hS4.put (by decide) (by decide) rfl
    replace h := eAload (mi := 60) (pc := 38) (len := 1) (i := 0) rfl rfl h
    replace h := eGetI (a := 131) (j := 401) hS6 (by decide) (by decide) rfl (mi := 60) (pc := 39) (len := 3) rfl h
    replace h := eConst (mi := 60) (pc := 42) (len := 1) (v := 1) rfl h
    replace h := eSub (mi := 60) (pc := 43) (len := 1) rfl h
    obtain ⟨e1, e2⟩ := eRetI (mi := 60) (pc := 44) (len := 1) rfl h
    rw [e1, e2, eN5, eN3]
    exact ⟨rfl, rfl⟩
theorem aim_en {v : Int32} {n d : Nat} {M : Mem} {r : Option Value} {M1 : Mem} (hS : Sh M) (h0 : 0 ≤ v.toInt) (hl : v.toInt < (iv M 131 1).toInt) (h : En n d 61 0 (lv_args 0 [.ref 131, .int v]) [] M r M1) : r = none ∧ M1 = mPut M 132 v.toInt.toNat (.int (((iv M 132 v.toInt.toNat) &&& ((-1048576) : Int32)) ||| (iv M 131 1))) := by
  replace h := eIload (mi := 61) (pc := 0) (len := 1) (i := 1) rfl rfl h
  rcases eIf (mi := 61) (pc := 1) (len := 3) (t := 32) rfl rfl h with ⟨c1, h⟩ | ⟨c1, h⟩
  · replace c1 : v.toInt < 0 := mC_lt.1 c1
    obtain ⟨e1, e2⟩ := eRetV (mi := 61) (pc := 32) (len := 1) rfl h
    exact absurd c1 (by omega)
  · replace c1 : ¬ v.toInt < 0 := mC_lt.2 c1
    replace h := eIload (mi := 61) (pc := 4) (len := 1) (i := 1) rfl rfl h
    replace h := eAload (mi := 61) (pc := 5) (len := 1) (i := 0) rfl rfl h
    replace h := eGetI (a := 131) (j := 401) hS (by decide) (by decide) rfl (mi := 61) (pc := 6) (len := 3) rfl h
    rcases eIc (mi := 61) (pc := 9) (len := 3) (t := 32) rfl rfl h with ⟨c2, h⟩ | ⟨c2, h⟩
    · replace c2 : ¬ v.toInt < (iv M 131 1).toInt := mC_ge.1 c2
      obtain ⟨e1, e2⟩ := eRetV (mi := 61) (pc := 32) (len := 1) rfl h
      exact absurd c2 (by omega)
    · replace c2 : v.toInt < (iv M 131 1).toInt := mC_ge.2 c2
      replace h := eAload (mi := 61) (pc := 12) (len := 1) (i := 0) rfl rfl h
      replace h := eGetR (a := 131) (j := 400) (g := 132) hS (by decide) (by decide) rfl rfl rfl (mi := 61) (pc := 13) (len := 3) rfl h
      replace h := eIload (mi := 61) (pc := 16) (len := 1) (i := 1) rfl rfl h
      replace h := eAload (mi := 61) (pc := 17) (len := 1) (i := 0) rfl rfl h
      replace h := eGetR (a := 131) (j := 400) (g := 132) hS (by decide) (by decide) rfl rfl rfl (mi := 61) (pc := 18) (len := 3) rfl h
      replace h := eIload (mi := 61) (pc := 21) (len := 1) (i := 1) rfl rfl h
      obtain ⟨b3, h⟩ := eIald (x := v) hS (a := 132) (by decide) (by decide) rfl (mi := 61) (pc := 22) (len := 1) rfl h
      replace h := eConst (mi := 61) (pc := 23) (len := 2) (v := (-1048576)) rfl h
      replace h := eAnd (mi := 61) (pc := 25) (len := 1) rfl h
      replace h := eAload (mi := 61) (pc := 26) (len := 1) (i := 0) rfl rfl h
      replace h := eGetI (a := 131) (j := 401) hS (by decide) (by decide) rfl (mi := 61) (pc := 27) (len := 3) rfl h
      replace h := eOr (mi := 61) (pc := 30) (len := 1) rfl h
      obtain ⟨N5, eN5⟩ : ∃ X_, X_ = mPut M 132 v.toInt.toNat (.int (((iv M 132 v.toInt.toNat) &&& ((-1048576) : Int32)) ||| (iv M 131 1))) := ⟨_, rfl⟩
      obtain ⟨b4, h⟩ := eIast (x := v) (N := N5) hS (a := 132) (by decide) (by decide) eN5 (mi := 61) (pc := 31) (len := 1) rfl h
      have hS6 : Sh N5 := by rw [eN5]; exact hS.put (by decide) (by decide) rfl
      obtain ⟨e1, e2⟩ := eRetV (mi := 61) (pc := 32) (len := 1) rfl h
      rw [e1, e2, eN5]
      exact ⟨rfl, rfl⟩
/-- WidowDeeds$LawReader.isDigit -/
def bDig (x : Int32) : Bool := (bif decide (x.toInt < 48) then false else (bif decide (57 < x.toInt) then false else true))
theorem bDig_en {x : Int32} {n d : Nat} {M : Mem} {r : Option Value} {M1 : Mem} (hS : Sh M) (h : En n d 87 0 (lv_args 0 [.int x]) [] M r M1) : r = some (.int (b2 (bDig x))) ∧ M1 = M := by
  replace h := eIload (mi := 87) (pc := 0) (len := 1) (i := 0) rfl rfl h
  replace h := eConst (mi := 87) (pc := 1) (len := 2) (v := 48) rfl h
  rcases eIc (mi := 87) (pc := 3) (len := 3) (t := 16) rfl rfl h with ⟨c1, h⟩ | ⟨c1, h⟩
  · replace c1 : x.toInt < 48 := mC_lt.1 c1
    replace h := eConst (mi := 87) (pc := 16) (len := 1) (v := 0) rfl h
    obtain ⟨e1, e2⟩ := eRetI (mi := 87) (pc := 17) (len := 1) rfl h
    have e3 : bDig x = false := by
      unfold bDig
      simp only [decide_eq_true c1, cond_true, cond_false]
    rw [e3]
    exact ⟨e1, e2⟩
  · replace c1 : ¬ x.toInt < 48 := mC_lt.2 c1
    replace h := eIload (mi := 87) (pc := 6) (len := 1) (i := 0) rfl rfl h
    replace h := eConst (mi := 87) (pc := 7) (len := 2) (v := 57) rfl h
    rcases eIc (mi := 87) (pc := 9) (len := 3) (t := 16) rfl rfl h with ⟨c2, h⟩ | ⟨c2, h⟩
    · replace c2 : 57 < x.toInt := mC_gt.1 c2
      replace h := eConst (mi := 87) (pc := 16) (len := 1) (v := 0) rfl h
      obtain ⟨e1, e2⟩ := eRetI (mi := 87) (pc := 17) (len := 1) rfl h
      have e3 : bDig x = false := by
        unfold bDig
        simp only [decide_eq_false c1, decide_eq_true c2, cond_true, cond_false]
      rw [e3]
      exact ⟨e1, e2⟩
    · replace c2 : ¬ 57 < x.toInt := mC_gt.2 c2
      replace h := eConst (mi := 87) (pc := 12) (len := 1) (v := 1) rfl h
      replace h := eGoto (mi := 87) (pc := 13) (len := 3) (t := 17) rfl rfl h
      obtain ⟨e1, e2⟩ := eRetI (mi := 87) (pc := 17) (len := 1) rfl h
      have e3 : bDig x = true := by
        unfold bDig
        simp only [decide_eq_false c1, decide_eq_false c2, cond_true, cond_false]
      rw [e3]
      exact ⟨e1, e2⟩

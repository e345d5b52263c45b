/-! holder, why: either side (printed by fn38.py) -/
theorem i32_ofN {x : Int32} {m : Nat} (h : x.toInt = (m : Int)) : x = Int32.ofNat m := by
  rw [show m = x.toInt.toNat by omega, i32_natR (by omega)]
theorem i32_subK {x y : Int32} (h0 : 0 ≤ y.toInt) (h : y.toInt ≤ x.toInt) : (x - y).toInt = x.toInt - y.toInt := i32_sub (by omega) (by have := (i32_rng x).2; omega)
/-- what is told of a chain -/
def holdA (R : FL) (w : Int32) : Int32 := if w.toInt = 0 then R.1 else if w.toInt = 1 then (if R.2.1.length = 0 then -1 else Int32.ofNat (nthL R.2.1 (R.2.1.length - 1))) else if w.toInt = 2 then Int32.ofNat R.2.1.length else if 10 ≤ w.toInt ∧ w.toInt < 10 + (R.2.1.length : Int) then Int32.ofNat (nthL R.2.1 (w.toInt - 10).toNat) else -2
theorem holdA_0 {R : FL} {w : Int32} (h : w.toInt = 0) : holdA R w = R.1 := if_pos h
theorem holdA_10 {R : FL} {w : Int32} (h : w.toInt = 1) (l : R.2.1.length = 0) : holdA R w = -1 := by unfold holdA; rw [if_neg (by omega), if_pos h, if_pos l]
theorem holdA_11 {R : FL} {w : Int32} (h : w.toInt = 1) (l : R.2.1.length ≠ 0) : holdA R w = Int32.ofNat (nthL R.2.1 (R.2.1.length - 1)) := by unfold holdA; rw [if_neg (by omega), if_pos h, if_neg l]
theorem holdA_2 {R : FL} {w : Int32} (h : w.toInt = 2) : holdA R w = Int32.ofNat R.2.1.length := by unfold holdA; rw [if_neg (by omega), if_neg (by omega), if_pos h]
theorem holdA_l {R : FL} {w : Int32} (h : 10 ≤ w.toInt ∧ w.toInt < 10 + (R.2.1.length : Int)) : holdA R w = Int32.ofNat (nthL R.2.1 (w.toInt - 10).toNat) := by unfold holdA; rw [if_neg (by omega), if_neg (by omega), if_neg (by omega), if_pos h]
theorem holdA_n {R : FL} {w : Int32} (h0 : w.toInt ≠ 0) (h1 : w.toInt ≠ 1) (h2 : w.toInt ≠ 2) (h : ¬ (10 ≤ w.toInt ∧ w.toInt < 10 + (R.2.1.length : Int))) : holdA R w = -2 := by unfold holdA; rw [if_neg h0, if_neg h1, if_neg h2, if_neg h]
def holderC (M : Mem) (W : Nat → WL) (s t w : Int32) (b : Int32) : Prop := b = (bif bStr s && bDay t then holdA (holdF M W s t) w else -1)
theorem rIn_t {w x y : Int32} (h : rIn w x y = true) : x.toInt ≤ w.toInt ∧ w.toInt ≤ y.toInt := by
  unfold rIn at h
  by_cases a : w.toInt < x.toInt
  · rw [decide_eq_true a] at h
    cases h
  · rw [decide_eq_false a] at h
    by_cases b : y.toInt < w.toInt
    · rw [decide_eq_true b] at h
      cases h
    · omega
theorem rIn_f {w x y : Int32} (h : rIn w x y = false) : ¬ (x.toInt ≤ w.toInt ∧ w.toInt ≤ y.toInt) := by
  unfold rIn at h
  intro q
  rw [decide_eq_false (show ¬ w.toInt < x.toInt by omega), decide_eq_false (show ¬ y.toInt < w.toInt by omega)] at h
  cases h
theorem day_lt {t : Int32} (h : bDay t = true) : t.toInt < 1000 := by
  have := bIn_true (show bIn t 1000 = true from h)
  have e : (1000 : Int32).toInt = 1000 := rfl
  omega
theorem str_lt {s : Int32} (h : bStr s = true) : 0 ≤ s.toInt ∧ s.toInt.toNat < 8 := by
  have := bIn_true (show bIn s 8 = true from h)
  have e : (8 : Int32).toInt = 8 := rfl
  omega
theorem holderC_en {M : Mem} {W : Nat → WL} {s t w : Int32} (hS : Sh M) (hR : Rf M) (hg : gvC M) (hW : lwOk M W) (hO : ordC M) {n d : Nat} {r : Option Value} {M1 : Mem} (h : En n d 124 0 (lv_args 0 [.ref 2, .int s, .int t, .int w]) [] M r M1) : ∃ b, r = some (.int b) ∧ holderC M W s t w b ∧ FzC M M1 := by
  replace h := eIload (mi := 124) (pc := 0) (len := 1) (i := 1) rfl rfl h
  replace h := eCallP (mi := 124) (pc := 1) (len := 3) (j := 150) (as := [.int s]) (rest := []) rfl (Or.inl rfl) (by decide) rfl rfl (fun _ _ _ _ g => bStr_en hS g) h
  rcases eIf (mi := 124) (pc := 4) (len := 3) (t := 14) rfl rfl h with ⟨c1, h⟩ | ⟨c1, h⟩
  · replace c1 : bStr s = false := mB_eq.1 c1
    replace h := eConst (mi := 124) (pc := 14) (len := 1) (v := (-1)) rfl h
    obtain ⟨e1, e2⟩ := eRetI (mi := 124) (pc := 15) (len := 1) rfl h
    refine ⟨_, e1, ?_, by rw [e2]; exact FzC.rf⟩
    unfold holderC
    simp only [c1, Bool.true_and, Bool.false_and, Bool.and_true, Bool.and_false, cond_true, cond_false] <;> rfl
  · replace c1 : bStr s = true := mB_eq.2 c1
    replace h := eIload (mi := 124) (pc := 7) (len := 1) (i := 2) rfl rfl h
    replace h := eCallP (mi := 124) (pc := 8) (len := 3) (j := 151) (as := [.int t]) (rest := []) rfl (Or.inl rfl) (by decide) rfl rfl (fun _ _ _ _ g => bDay_en hS g) h
    rcases eIf (mi := 124) (pc := 11) (len := 3) (t := 16) rfl rfl h with ⟨c2, h⟩ | ⟨c2, h⟩
    · replace c2 : bDay t = true := mB_ne.1 c2
      replace h := eAload (mi := 124) (pc := 16) (len := 1) (i := 0) rfl rfl h
      replace h := eGetR (a := 2) (j := 1008) (g := 170) hS (by decide) (by decide) rfl rfl rfl (mi := 124) (pc := 17) (len := 3) rfl h
      replace h := eIload (mi := 124) (pc := 20) (len := 1) (i := 1) rfl rfl h
      replace h := eIload (mi := 124) (pc := 21) (len := 1) (i := 2) rfl rfl h
      obtain ⟨r3, N4, g5, h⟩ := eCall (mi := 124) (pc := 22) (len := 3) (j := 2) (as := [.ref 170, .int s, .int t]) (rest := []) rfl (Or.inr (Or.inl rfl)) (by decide) rfl rfl h
      obtain ⟨erN4, hZN4, hMN4, hcN4⟩ := hldBy_en hS FzC.rf hR hg hW hO g5
      rw [erN4] at h
      replace h := eIstore (mi := 124) (pc := 25) (len := 2) (i := 4) rfl (by decide) h
      replace h := eIload (mi := 124) (pc := 27) (len := 1) (i := 3) rfl rfl h
      by_cases w0 : w.toInt = 0
      · replace h := eTsw (mi := 124) (pc := 28) (len := 28) (o := 28) (t := 56) rfl (by rw [w0]; decide) rfl h
        replace h := eIload (mi := 124) (pc := 56) (len := 2) (i := 4) rfl rfl h
        obtain ⟨e1, e2⟩ := eRetI (mi := 124) (pc := 58) (len := 1) rfl h
        refine ⟨_, e1, ?_, by rw [e2]; exact hZN4.2.1⟩
        unfold holderC
        have hv : (holdF M W s t).1 = holdA (holdF M W s t) w := by
          exact (holdA_0 w0).symm
        rw [c1, c2]
        exact hv
      by_cases w1 : w.toInt = 1
      · replace h := eTsw (mi := 124) (pc := 28) (len := 28) (o := 31) (t := 59) rfl (by rw [w1]; decide) rfl h
        replace h := eAload (mi := 124) (pc := 59) (len := 1) (i := 0) rfl rfl h
        replace h := eGetR (a := 2) (j := 1008) (g := 170) hZN4.1 (by decide) (by decide) rfl rfl rfl (mi := 124) (pc := 60) (len := 3) rfl h
        replace h := eGetI (a := 170) (j := 14) hZN4.1 (by decide) (by decide) rfl (mi := 124) (pc := 63) (len := 3) rfl h
        rcases eIf (mi := 124) (pc := 66) (len := 3) (t := 73) rfl rfl h with ⟨c6, h⟩ | ⟨c6, h⟩
        · replace c6 : ¬ (iv N4 170 14).toInt = 0 := mC_ne.1 c6
          replace h := eAload (mi := 124) (pc := 73) (len := 1) (i := 0) rfl rfl h
          replace h := eGetR (a := 2) (j := 1008) (g := 170) hZN4.1 (by decide) (by decide) rfl rfl rfl (mi := 124) (pc := 74) (len := 3) rfl h
          replace h := eGetR (a := 170) (j := 13) (g := 175) hZN4.1 (by decide) (by decide) rfl rfl rfl (mi := 124) (pc := 77) (len := 3) rfl h
          replace h := eAload (mi := 124) (pc := 80) (len := 1) (i := 0) rfl rfl h
          replace h := eGetR (a := 2) (j := 1008) (g := 170) hZN4.1 (by decide) (by decide) rfl rfl rfl (mi := 124) (pc := 81) (len := 3) rfl h
          replace h := eGetI (a := 170) (j := 14) hZN4.1 (by decide) (by decide) rfl (mi := 124) (pc := 84) (len := 3) rfl h
          replace h := eConst (mi := 124) (pc := 87) (len := 1) (v := 1) rfl h
          replace h := eSub (mi := 124) (pc := 88) (len := 1) rfl h
          obtain ⟨bd7, h⟩ := eIald (x := ((iv N4 170 14) - (1 : Int32))) hZN4.1 (a := 175) (by decide) (by decide) rfl (mi := 124) (pc := 89) (len := 1) rfl h
          obtain ⟨e1, e2⟩ := eRetI (mi := 124) (pc := 90) (len := 1) rfl h
          refine ⟨_, e1, ?_, by rw [e2]; exact hZN4.2.1⟩
          unfold holderC
          have hv : (iv N4 175 ((iv N4 170 14) - (1 : Int32)).toInt.toNat) = holdA (holdF M W s t) w := by
            have q1 := hcN4.1
            have q2 : ((iv N4 170 14) - (1 : Int32)).toInt = (iv N4 170 14).toInt - 1 := i32_subK (by decide) (by show (1 : Int) ≤ _; omega)
            rw [holdA_11 w1 (by omega)]
            refine i32_ofN ?_
            rw [show ((iv N4 170 14) - (1 : Int32)).toInt.toNat = (holdF M W s t).2.1.length - 1 by omega]
            exact hcN4.2.1 _ (by omega)
          rw [c1, c2]
          exact hv
        · replace c6 : (iv N4 170 14).toInt = 0 := mC_ne.2 c6
          replace h := eConst (mi := 124) (pc := 69) (len := 1) (v := (-1)) rfl h
          replace h := eGoto (mi := 124) (pc := 70) (len := 3) (t := 90) rfl rfl h
          obtain ⟨e1, e2⟩ := eRetI (mi := 124) (pc := 90) (len := 1) rfl h
          refine ⟨_, e1, ?_, by rw [e2]; exact hZN4.2.1⟩
          unfold holderC
          have hv : ((-1) : Int32) = holdA (holdF M W s t) w := by
            exact (holdA_10 w1 (by have q1 := hcN4.1; omega)).symm
          rw [c1, c2]
          exact hv
      by_cases w2 : w.toInt = 2
      · replace h := eTsw (mi := 124) (pc := 28) (len := 28) (o := 63) (t := 91) rfl (by rw [w2]; decide) rfl h
        replace h := eAload (mi := 124) (pc := 91) (len := 1) (i := 0) rfl rfl h
        replace h := eGetR (a := 2) (j := 1008) (g := 170) hZN4.1 (by decide) (by decide) rfl rfl rfl (mi := 124) (pc := 92) (len := 3) rfl h
        replace h := eGetI (a := 170) (j := 14) hZN4.1 (by decide) (by decide) rfl (mi := 124) (pc := 95) (len := 3) rfl h
        obtain ⟨e1, e2⟩ := eRetI (mi := 124) (pc := 98) (len := 1) rfl h
        refine ⟨_, e1, ?_, by rw [e2]; exact hZN4.2.1⟩
        unfold holderC
        have hv : (iv N4 170 14) = holdA (holdF M W s t) w := by
          exact (i32_ofN hcN4.1).trans (holdA_2 w2).symm
        rw [c1, c2]
        exact hv
      replace h := eTsw (mi := 124) (pc := 28) (len := 28) (o := 71) (t := 99) rfl (if_pos (by omega)) rfl h
      replace h := eIload (mi := 124) (pc := 99) (len := 1) (i := 3) rfl rfl h
      replace h := eConst (mi := 124) (pc := 100) (len := 2) (v := 10) rfl h
      rcases eIc (mi := 124) (pc := 102) (len := 3) (t := 119) rfl rfl h with ⟨c8, h⟩ | ⟨c8, h⟩
      · replace c8 : w.toInt < 10 := mC_lt.1 c8
        replace h := eConst (mi := 124) (pc := 119) (len := 2) (v := (-2)) rfl h
        replace h := eGoto (mi := 124) (pc := 121) (len := 3) (t := 136) rfl rfl h
        obtain ⟨e1, e2⟩ := eRetI (mi := 124) (pc := 136) (len := 1) rfl h
        refine ⟨_, e1, ?_, by rw [e2]; exact hZN4.2.1⟩
        unfold holderC
        have hv : ((-2) : Int32) = holdA (holdF M W s t) w := by
          exact (holdA_n w0 w1 w2 (by have q1 := hcN4.1; omega)).symm
        rw [c1, c2]
        exact hv
      · replace c8 : ¬ w.toInt < 10 := mC_lt.2 c8
        replace h := eIload (mi := 124) (pc := 105) (len := 1) (i := 3) rfl rfl h
        replace h := eConst (mi := 124) (pc := 106) (len := 2) (v := 10) rfl h
        replace h := eSub (mi := 124) (pc := 108) (len := 1) rfl h
        replace h := eAload (mi := 124) (pc := 109) (len := 1) (i := 0) rfl rfl h
        replace h := eGetR (a := 2) (j := 1008) (g := 170) hZN4.1 (by decide) (by decide) rfl rfl rfl (mi := 124) (pc := 110) (len := 3) rfl h
        replace h := eGetI (a := 170) (j := 14) hZN4.1 (by decide) (by decide) rfl (mi := 124) (pc := 113) (len := 3) rfl h
        rcases eIc (mi := 124) (pc := 116) (len := 3) (t := 124) rfl rfl h with ⟨c9, h⟩ | ⟨c9, h⟩
        · replace c9 : (w - (10 : Int32)).toInt < (iv N4 170 14).toInt := mC_lt.1 c9
          replace h := eAload (mi := 124) (pc := 124) (len := 1) (i := 0) rfl rfl h
          replace h := eGetR (a := 2) (j := 1008) (g := 170) hZN4.1 (by decide) (by decide) rfl rfl rfl (mi := 124) (pc := 125) (len := 3) rfl h
          replace h := eGetR (a := 170) (j := 13) (g := 175) hZN4.1 (by decide) (by decide) rfl rfl rfl (mi := 124) (pc := 128) (len := 3) rfl h
          replace h := eIload (mi := 124) (pc := 131) (len := 1) (i := 3) rfl rfl h
          replace h := eConst (mi := 124) (pc := 132) (len := 2) (v := 10) rfl h
          replace h := eSub (mi := 124) (pc := 134) (len := 1) rfl h
          obtain ⟨bd10, h⟩ := eIald (x := (w - (10 : Int32))) hZN4.1 (a := 175) (by decide) (by decide) rfl (mi := 124) (pc := 135) (len := 1) rfl h
          obtain ⟨e1, e2⟩ := eRetI (mi := 124) (pc := 136) (len := 1) rfl h
          refine ⟨_, e1, ?_, by rw [e2]; exact hZN4.2.1⟩
          unfold holderC
          have q0 : (w - (10 : Int32)).toInt = w.toInt - 10 := i32_subK (by decide) (by show (10 : Int) ≤ _; omega)
          have hv : (iv N4 175 (w - (10 : Int32)).toInt.toNat) = holdA (holdF M W s t) w := by
            have q1 := hcN4.1
            have q2 : (w - (10 : Int32)).toInt = w.toInt - 10 := i32_subK (by decide) (by show (10 : Int) ≤ _; omega)
            rw [holdA_l (by omega)]
            refine i32_ofN ?_
            rw [show (w - (10 : Int32)).toInt.toNat = (w.toInt - 10).toNat by omega]
            exact hcN4.2.1 _ (by omega)
          rw [c1, c2]
          exact hv
        · replace c9 : ¬ (w - (10 : Int32)).toInt < (iv N4 170 14).toInt := mC_lt.2 c9
          replace h := eConst (mi := 124) (pc := 119) (len := 2) (v := (-2)) rfl h
          replace h := eGoto (mi := 124) (pc := 121) (len := 3) (t := 136) rfl rfl h
          obtain ⟨e1, e2⟩ := eRetI (mi := 124) (pc := 136) (len := 1) rfl h
          refine ⟨_, e1, ?_, by rw [e2]; exact hZN4.2.1⟩
          unfold holderC
          have q0 : (w - (10 : Int32)).toInt = w.toInt - 10 := i32_subK (by decide) (by show (10 : Int) ≤ _; omega)
          have hv : ((-2) : Int32) = holdA (holdF M W s t) w := by
            exact (holdA_n w0 w1 w2 (by have q1 := hcN4.1; omega)).symm
          rw [c1, c2]
          exact hv
    · replace c2 : bDay t = false := mB_ne.2 c2
      replace h := eConst (mi := 124) (pc := 14) (len := 1) (v := (-1)) rfl h
      obtain ⟨e1, e2⟩ := eRetI (mi := 124) (pc := 15) (len := 1) rfl h
      refine ⟨_, e1, ?_, by rw [e2]; exact FzC.rf⟩
      unfold holderC
      simp only [c1, c2, Bool.true_and, Bool.false_and, Bool.and_true, Bool.and_false, cond_true, cond_false] <;> rfl
theorem holderR_en {M N : Mem} {W : Nat → WL} {n0 : Nat} {s t w : Int32} (hB : RSw M N) (hL : lysA M n0) (hn : n0 = nC M) (hO : ordC M) (hW : lwOk M W) (hL6 : ∀ s, s < 8 → 0 ≤ (iv M 6 s).toInt ∧ (iv M 6 s).toInt ≤ 2) (hd9 : ∀ e, e < n0 → (iv M (10 + e) 3).toInt ≤ 999) {n d : Nat} {r : Option Value} {M1 : Mem} (h : En n d 230 0 (lv_args 0 [.ref 181, .int s, .int t, .int w]) [] N r M1) : ∃ b, r = some (.int b) ∧ holderC M W s t w b := by
  replace h := eIload (mi := 230) (pc := 0) (len := 1) (i := 1) rfl rfl h
  replace h := eCallP (mi := 230) (pc := 1) (len := 3) (j := 163) (as := [.int s]) (rest := []) rfl (Or.inl rfl) (by decide) rfl rfl (fun _ _ _ _ g => rStr_en hB.1 g) h
  rcases eIf (mi := 230) (pc := 4) (len := 3) (t := 14) rfl rfl h with ⟨c1, h⟩ | ⟨c1, h⟩
  · replace c1 : rStr s = false := mB_eq.1 c1
    replace h := eConst (mi := 230) (pc := 14) (len := 1) (v := (-1)) rfl h
    obtain ⟨e1, e2⟩ := eRetI (mi := 230) (pc := 15) (len := 1) rfl h
    refine ⟨_, e1, ?_⟩
    unfold holderC
    rw [← rStr_eq, ← rDay_eq]
    simp only [c1, Bool.true_and, Bool.false_and, Bool.and_true, Bool.and_false, cond_true, cond_false] <;> rfl
  · replace c1 : rStr s = true := mB_eq.2 c1
    replace h := eIload (mi := 230) (pc := 7) (len := 1) (i := 2) rfl rfl h
    replace h := eCallP (mi := 230) (pc := 8) (len := 3) (j := 161) (as := [.int t]) (rest := []) rfl (Or.inl rfl) (by decide) rfl rfl (fun _ _ _ _ g => rDay_en hB.1 g) h
    rcases eIf (mi := 230) (pc := 11) (len := 3) (t := 16) rfl rfl h with ⟨c2, h⟩ | ⟨c2, h⟩
    · replace c2 : rDay t = true := mB_ne.1 c2
      replace h := eAload (mi := 230) (pc := 16) (len := 1) (i := 0) rfl rfl h
      replace h := eIload (mi := 230) (pc := 17) (len := 1) (i := 1) rfl rfl h
      replace h := eIload (mi := 230) (pc := 18) (len := 1) (i := 2) rfl rfl h
      obtain ⟨r3, N4, g5, h⟩ := eCall (mi := 230) (pc := 19) (len := 3) (j := 229) (as := [.ref 181, .int s, .int t]) (rest := []) rfl (Or.inr (Or.inl rfl)) (by decide) rfl rfl h
      have gs := str_lt (s := s) ((rStr_eq s).symm.trans c1)
      have gd := day_lt (t := t) ((rDay_eq t).symm.trans c2)
      obtain ⟨erN4, hBN4, hCN4, hcN4, _⟩ := hldOf_en (W := W) hB hL hn hO hW gs.2 (hL6 _ gs.2) hd9 gd g5
      rw [erN4] at h
      replace h := eIstore (mi := 230) (pc := 22) (len := 2) (i := 4) rfl (by decide) h
      replace h := eIload (mi := 230) (pc := 24) (len := 1) (i := 3) rfl rfl h
      rcases eIf (mi := 230) (pc := 25) (len := 3) (t := 31) rfl rfl h with ⟨c6, h⟩ | ⟨c6, h⟩
      · replace c6 : ¬ w.toInt = 0 := mC_ne.1 c6
        replace h := eIload (mi := 230) (pc := 31) (len := 1) (i := 3) rfl rfl h
        replace h := eConst (mi := 230) (pc := 32) (len := 1) (v := 1) rfl h
        rcases eIc (mi := 230) (pc := 33) (len := 3) (t := 59) rfl rfl h with ⟨c7, h⟩ | ⟨c7, h⟩
        · replace c7 : ¬ w.toInt = 1 := mC_ne.1 c7
          replace h := eIload (mi := 230) (pc := 59) (len := 1) (i := 3) rfl rfl h
          replace h := eConst (mi := 230) (pc := 60) (len := 1) (v := 2) rfl h
          rcases eIc (mi := 230) (pc := 61) (len := 3) (t := 69) rfl rfl h with ⟨c8, h⟩ | ⟨c8, h⟩
          · replace c8 : ¬ w.toInt = 2 := mC_ne.1 c8
            replace h := eIload (mi := 230) (pc := 69) (len := 1) (i := 3) rfl rfl h
            replace h := eConst (mi := 230) (pc := 70) (len := 2) (v := 10) rfl h
            replace h := eConst (mi := 230) (pc := 72) (len := 2) (v := 9) rfl h
            replace h := eAload (mi := 230) (pc := 74) (len := 1) (i := 0) rfl rfl h
            replace h := eGetI (a := 181) (j := 1148) hBN4.1 (by decide) (by decide) rfl (mi := 230) (pc := 75) (len := 3) rfl h
            replace h := eAdd (mi := 230) (pc := 78) (len := 1) rfl h
            replace h := eCallP (mi := 230) (pc := 79) (len := 3) (j := 160) (as := [.int w, .int (10 : Int32), .int ((9 : Int32) + (iv N4 181 48))]) (rest := []) rfl (Or.inl rfl) (by decide) rfl rfl (fun _ _ _ _ g => rIn_en hBN4.1 g) h
            rcases eIf (mi := 230) (pc := 82) (len := 3) (t := 97) rfl rfl h with ⟨c9, h⟩ | ⟨c9, h⟩
            · replace c9 : rIn w (10 : Int32) ((9 : Int32) + (iv N4 181 48)) = false := mB_eq.1 c9
              replace h := eConst (mi := 230) (pc := 97) (len := 2) (v := (-2)) rfl h
              obtain ⟨e1, e2⟩ := eRetI (mi := 230) (pc := 99) (len := 1) rfl h
              refine ⟨_, e1, ?_⟩
              unfold holderC
              rw [← rStr_eq, ← rDay_eq]
              have i9 : ((9 : Int32) + (iv N4 181 48)).toInt = 9 + (iv N4 181 48).toInt := i32_add (by show -2147483648 ≤ (9 : Int) + _; have := hcN4.1; omega) (by show (9 : Int) + _ ≤ 2147483647; have a := hcN4.1; have b := holdF_len (M := M) (W := W) (s := s) (t := t); have c := ordC_n hO; omega)
              have ri := rIn_f c9
              rw [i9] at ri
              have ri : ¬ ((10 : Int) ≤ w.toInt ∧ w.toInt ≤ 9 + (iv N4 181 48).toInt) := ri
              have hv : ((-2) : Int32) = holdA (holdF M W s t) w := by
                exact (holdA_n c6 c7 c8 (by have q1 := hcN4.1; omega)).symm
              rw [c1, c2]
              exact hv
            · replace c9 : rIn w (10 : Int32) ((9 : Int32) + (iv N4 181 48)) = true := mB_eq.2 c9
              replace h := eAload (mi := 230) (pc := 85) (len := 1) (i := 0) rfl rfl h
              replace h := eGetR (a := 181) (j := 1151) (g := 218) hBN4.1 (by decide) (by decide) rfl rfl rfl (mi := 230) (pc := 86) (len := 3) rfl h
              replace h := eIload (mi := 230) (pc := 89) (len := 1) (i := 3) rfl rfl h
              replace h := eConst (mi := 230) (pc := 90) (len := 2) (v := 10) rfl h
              replace h := eSub (mi := 230) (pc := 92) (len := 1) rfl h
              obtain ⟨bd10, h⟩ := eIald (x := (w - (10 : Int32))) hBN4.1 (a := 218) (by decide) (by decide) rfl (mi := 230) (pc := 93) (len := 1) rfl h
              replace h := eGoto (mi := 230) (pc := 94) (len := 3) (t := 99) rfl rfl h
              obtain ⟨e1, e2⟩ := eRetI (mi := 230) (pc := 99) (len := 1) rfl h
              refine ⟨_, e1, ?_⟩
              unfold holderC
              rw [← rStr_eq, ← rDay_eq]
              have i9 : ((9 : Int32) + (iv N4 181 48)).toInt = 9 + (iv N4 181 48).toInt := i32_add (by show -2147483648 ≤ (9 : Int) + _; have := hcN4.1; omega) (by show (9 : Int) + _ ≤ 2147483647; have a := hcN4.1; have b := holdF_len (M := M) (W := W) (s := s) (t := t); have c := ordC_n hO; omega)
              have ri := rIn_t c9
              rw [i9] at ri
              have ri1 : (10 : Int) ≤ w.toInt := ri.1
              have hv : (iv N4 218 (w - (10 : Int32)).toInt.toNat) = holdA (holdF M W s t) w := by
                have q1 := hcN4.1
                have q2 : (w - (10 : Int32)).toInt = w.toInt - 10 := i32_subK (by decide) (by show (10 : Int) ≤ _; omega)
                rw [holdA_l (by omega)]
                refine i32_ofN ?_
                rw [show (w - (10 : Int32)).toInt.toNat = (w.toInt - 10).toNat by omega]
                exact hcN4.2.1 _ (by omega)
              rw [c1, c2]
              exact hv
          · replace c8 : w.toInt = 2 := mC_ne.2 c8
            replace h := eAload (mi := 230) (pc := 64) (len := 1) (i := 0) rfl rfl h
            replace h := eGetI (a := 181) (j := 1148) hBN4.1 (by decide) (by decide) rfl (mi := 230) (pc := 65) (len := 3) rfl h
            obtain ⟨e1, e2⟩ := eRetI (mi := 230) (pc := 68) (len := 1) rfl h
            refine ⟨_, e1, ?_⟩
            unfold holderC
            rw [← rStr_eq, ← rDay_eq]
            have hv : (iv N4 181 48) = holdA (holdF M W s t) w := by
              exact (i32_ofN hcN4.1).trans (holdA_2 c8).symm
            rw [c1, c2]
            exact hv
        · replace c7 : w.toInt = 1 := mC_ne.2 c7
          replace h := eAload (mi := 230) (pc := 36) (len := 1) (i := 0) rfl rfl h
          replace h := eGetI (a := 181) (j := 1148) hBN4.1 (by decide) (by decide) rfl (mi := 230) (pc := 37) (len := 3) rfl h
          rcases eIf (mi := 230) (pc := 40) (len := 3) (t := 47) rfl rfl h with ⟨c11, h⟩ | ⟨c11, h⟩
          · replace c11 : ¬ (iv N4 181 48).toInt = 0 := mC_ne.1 c11
            replace h := eAload (mi := 230) (pc := 47) (len := 1) (i := 0) rfl rfl h
            replace h := eGetR (a := 181) (j := 1151) (g := 218) hBN4.1 (by decide) (by decide) rfl rfl rfl (mi := 230) (pc := 48) (len := 3) rfl h
            replace h := eAload (mi := 230) (pc := 51) (len := 1) (i := 0) rfl rfl h
            replace h := eGetI (a := 181) (j := 1148) hBN4.1 (by decide) (by decide) rfl (mi := 230) (pc := 52) (len := 3) rfl h
            replace h := eConst (mi := 230) (pc := 55) (len := 1) (v := 1) rfl h
            replace h := eSub (mi := 230) (pc := 56) (len := 1) rfl h
            obtain ⟨bd12, h⟩ := eIald (x := ((iv N4 181 48) - (1 : Int32))) hBN4.1 (a := 218) (by decide) (by decide) rfl (mi := 230) (pc := 57) (len := 1) rfl h
            obtain ⟨e1, e2⟩ := eRetI (mi := 230) (pc := 58) (len := 1) rfl h
            refine ⟨_, e1, ?_⟩
            unfold holderC
            rw [← rStr_eq, ← rDay_eq]
            have hv : (iv N4 218 ((iv N4 181 48) - (1 : Int32)).toInt.toNat) = holdA (holdF M W s t) w := by
              have q1 := hcN4.1
              have q2 : ((iv N4 181 48) - (1 : Int32)).toInt = (iv N4 181 48).toInt - 1 := i32_subK (by decide) (by show (1 : Int) ≤ _; omega)
              rw [holdA_11 c7 (by omega)]
              refine i32_ofN ?_
              rw [show ((iv N4 181 48) - (1 : Int32)).toInt.toNat = (holdF M W s t).2.1.length - 1 by omega]
              exact hcN4.2.1 _ (by omega)
            rw [c1, c2]
            exact hv
          · replace c11 : (iv N4 181 48).toInt = 0 := mC_ne.2 c11
            replace h := eConst (mi := 230) (pc := 43) (len := 1) (v := (-1)) rfl h
            replace h := eGoto (mi := 230) (pc := 44) (len := 3) (t := 58) rfl rfl h
            obtain ⟨e1, e2⟩ := eRetI (mi := 230) (pc := 58) (len := 1) rfl h
            refine ⟨_, e1, ?_⟩
            unfold holderC
            rw [← rStr_eq, ← rDay_eq]
            have hv : ((-1) : Int32) = holdA (holdF M W s t) w := by
              exact (holdA_10 c7 (by have q1 := hcN4.1; omega)).symm
            rw [c1, c2]
            exact hv
      · replace c6 : w.toInt = 0 := mC_ne.2 c6
        replace h := eIload (mi := 230) (pc := 28) (len := 2) (i := 4) rfl rfl h
        obtain ⟨e1, e2⟩ := eRetI (mi := 230) (pc := 30) (len := 1) rfl h
        refine ⟨_, e1, ?_⟩
        unfold holderC
        rw [← rStr_eq, ← rDay_eq]
        have hv : (holdF M W s t).1 = holdA (holdF M W s t) w := by
          exact (holdA_0 c6).symm
        rw [c1, c2]
        exact hv
    · replace c2 : rDay t = false := mB_ne.2 c2
      replace h := eConst (mi := 230) (pc := 14) (len := 1) (v := (-1)) rfl h
      obtain ⟨e1, e2⟩ := eRetI (mi := 230) (pc := 15) (len := 1) rfl h
      refine ⟨_, e1, ?_⟩
      unfold holderC
      rw [← rStr_eq, ← rDay_eq]
      simp only [c1, c2, Bool.true_and, Bool.false_and, Bool.and_true, Bool.and_false, cond_true, cond_false] <;> rfl
/-- is a deed in the chain -/
def inCh (R : FL) (d : Nat) : Prop := ∃ i, i < R.2.1.length ∧ nthL R.2.1 i = d
def whyN (M : Mem) (R : FL) (t : Int32) (d : Nat) : Int32 := bif decide (t.toInt < (iv M (10 + d) 3).toInt) then 1 else (bif decide ((iv M (10 + d) 6).toInt = 0) then (bif bVoid M d then 3 else (bif R.2.2 d then 4 else 5)) else 2)
/-- why a deed is not in the chain, or that it is -/
def whyA (M : Mem) (R : FL) (t : Int32) (d : Nat) (b : Int32) : Prop := (inCh R d → b = 0) ∧ (¬ inCh R d → b = whyN M R t d)
theorem whyA_eq {M : Mem} {R : FL} {t : Int32} {d : Nat} {b c : Int32} (h : whyA M R t d b) (h' : whyA M R t d c) : b = c := by
  by_cases q : inCh R d
  · exact (h.1 q).trans (h'.1 q).symm
  · exact (h.2 q).trans (h'.2 q).symm
theorem rsn_lp {M N : Mem} {W : Nat → WL} {s t x : Int32} {R : FL} (hR : Rf M) (hO : ordC M) (x0 : 0 ≤ x.toInt) (xn : x.toInt.toNat < nC M) (hZ : fcd M s t (nC M) N) (hc : chn N R) : ∀ (n : Nat) {d : Nat} {L : MLoc} {r : Option Value} {M1 : Mem} {k : Int32}, mLd L 0 = some (.ref 170) → mLd L 1 = some (.int x) → mLd L 2 = some (.ref (10 + x.toInt.toNat)) → mLd L 3 = some (.int k) → 0 ≤ k.toInt → (∀ i, i < k.toInt.toNat → nthL R.2.1 i ≠ x.toInt.toNat) → En n d 14 12 L [] N r M1 → ∃ b, r = some (.int b) ∧ whyA M R t x.toInt.toNat b ∧ M1 = N := by
  intro n
  induction n with
  | zero => intro d L r M1 k _ _ _ _ _ _ h; exact (En.zero (mi := 14) (pc := 12) (len := 1) rfl h).elim
  | succ n ih =>
    intro d L r M1 k l0 l1 l2 l3 k0 hk h
    have hS := hZ.1
    have n40 := ordC_n hO
    have x40 : x.toInt.toNat < 40 := by omega
    have q14 := hc.1
    replace h := eIloadS (mi := 14) (pc := 12) (len := 1) (i := 3) rfl l3 h
    replace h := eAload (mi := 14) (pc := 13) (len := 1) (i := 0) rfl l0 h
    replace h := eGetI (a := 170) (j := 14) hS (by decide) (by decide) rfl (mi := 14) (pc := 14) (len := 3) rfl h
    rcases eIc (mi := 14) (pc := 17) (len := 3) (t := 38) rfl rfl h with ⟨c1, h⟩ | ⟨c1, h⟩
    · replace c1 : ¬ k.toInt < (iv N 170 14).toInt := mC_ge.1 c1
      replace h := eAload (mi := 14) (pc := 38) (len := 1) (i := 2) rfl l2 h
      replace h := eGetD (e := x.toInt.toNat) (f := 3) hS x40 rfl rfl  (j := 103) (mi := 14) (pc := 39) (len := 3) rfl h
      replace h := eAload (mi := 14) (pc := 42) (len := 1) (i := 0) rfl l0 h
      replace h := eGetI (a := 170) (j := 5) hS (by decide) (by decide) rfl (mi := 14) (pc := 43) (len := 3) rfl h
      rcases eIc (mi := 14) (pc := 46) (len := 3) (t := 51) rfl rfl h with ⟨c2, h⟩ | ⟨c2, h⟩
      · replace c2 : ¬ (iv N 170 5).toInt < (iv N (10 + x.toInt.toNat) 3).toInt := mC_le.1 c2
        replace h := eAload (mi := 14) (pc := 51) (len := 1) (i := 2) rfl l2 h
        replace h := eGetD (e := x.toInt.toNat) (f := 6) hS x40 rfl rfl  (j := 106) (mi := 14) (pc := 52) (len := 3) rfl h
        rcases eIf (mi := 14) (pc := 55) (len := 3) (t := 60) rfl rfl h with ⟨c3, h⟩ | ⟨c3, h⟩
        · replace c3 : (iv N (10 + x.toInt.toNat) 6).toInt = 0 := mC_eq.1 c3
          replace h := eAload (mi := 14) (pc := 60) (len := 1) (i := 0) rfl l0 h
          replace h := eGetR (a := 170) (j := 0) (g := 3) hS (by decide) (by decide) rfl rfl rfl (mi := 14) (pc := 61) (len := 3) rfl h
          replace h := eAload (mi := 14) (pc := 64) (len := 1) (i := 2) rfl l2 h
          replace h := eCallP (mi := 14) (pc := 65) (len := 3) (j := 107) (as := [.ref 3, .ref (10 + x.toInt.toNat)]) (rest := []) rfl (Or.inr (Or.inl rfl)) (by decide) rfl rfl (fun _ _ _ _ g => bVoid_en hS x40 g) h
          rcases eIf (mi := 14) (pc := 68) (len := 3) (t := 73) rfl rfl h with ⟨c4, h⟩ | ⟨c4, h⟩
          · replace c4 : bVoid N (x.toInt.toNat) = false := mB_eq.1 c4
            replace h := eAload (mi := 14) (pc := 73) (len := 1) (i := 0) rfl l0 h
            replace h := eGetL (a := 170) (j := 15) hS (by decide) (by decide) rfl (mi := 14) (pc := 74) (len := 3) rfl h
            replace h := eIload (mi := 14) (pc := 77) (len := 1) (i := 1) rfl l1 h
            replace h := eLushr (mi := 14) (pc := 78) (len := 1) rfl h
            replace h := eLdc (mi := 14) (pc := 79) (len := 1) (j := 1) rfl h
            replace h := eLand (mi := 14) (pc := 80) (len := 1) rfl h
            replace h := eLdc (mi := 14) (pc := 81) (len := 1) (j := 0) rfl h
            replace h := eLcmp (mi := 14) (pc := 82) (len := 1) rfl h
            rcases eIf (mi := 14) (pc := 83) (len := 3) (t := 90) rfl rfl h with ⟨c5, h⟩ | ⟨c5, h⟩
            · replace c5 : (lg_cmp ((ushl (lv N 170 15) x) &&& (1 : Int64)) (0 : Int64)).toInt = 0 := mC_eq.1 c5
              replace h := eConst (mi := 14) (pc := 90) (len := 1) (v := 5) rfl h
              obtain ⟨e1, e2⟩ := eRetI (mi := 14) (pc := 91) (len := 1) rfl h
              refine ⟨_, e1, ?_, e2⟩
              have hn : ¬ inCh R x.toInt.toNat := fun ⟨i, i1, i2⟩ => hk i (by omega) i2
              refine ⟨fun q => absurd q hn, fun _ => ?_⟩
              have f3 : iv N (10 + x.toInt.toNat) 3 = iv M (10 + x.toInt.toNat) 3 := hZ.2.1.lo (Or.inl (by omega))
              have f6 : iv N (10 + x.toInt.toNat) 6 = iv M (10 + x.toInt.toNat) 6 := hZ.2.1.lo (Or.inl (by omega))
              have fv : bVoid N x.toInt.toNat = bVoid M x.toInt.toNat := bVoid_fz hZ.2.1 x40
              have ft : iv N 170 5 = t := hZ.2.2.2.2.1
              rw [f3, ft] at c2
              rw [f6] at c3
              rw [fv] at c4
              have hl := hc.2.2 x.toInt.toNat x40
              have xx : x.toInt = (x.toInt.toNat : Int) := by omega
              have hq : R.2.2 x.toInt.toNat = false := by rw [← hl]; exact (tb_shr xx (by omega)).mp c5
              unfold whyN
              simp only [decide_eq_false c2, decide_eq_true c3, c4, hq, cond_true, cond_false] <;> rfl
            · replace c5 : ¬ (lg_cmp ((ushl (lv N 170 15) x) &&& (1 : Int64)) (0 : Int64)).toInt = 0 := mC_eq.2 c5
              replace h := eConst (mi := 14) (pc := 86) (len := 1) (v := 4) rfl h
              replace h := eGoto (mi := 14) (pc := 87) (len := 3) (t := 91) rfl rfl h
              obtain ⟨e1, e2⟩ := eRetI (mi := 14) (pc := 91) (len := 1) rfl h
              refine ⟨_, e1, ?_, e2⟩
              have hn : ¬ inCh R x.toInt.toNat := fun ⟨i, i1, i2⟩ => hk i (by omega) i2
              refine ⟨fun q => absurd q hn, fun _ => ?_⟩
              have f3 : iv N (10 + x.toInt.toNat) 3 = iv M (10 + x.toInt.toNat) 3 := hZ.2.1.lo (Or.inl (by omega))
              have f6 : iv N (10 + x.toInt.toNat) 6 = iv M (10 + x.toInt.toNat) 6 := hZ.2.1.lo (Or.inl (by omega))
              have fv : bVoid N x.toInt.toNat = bVoid M x.toInt.toNat := bVoid_fz hZ.2.1 x40
              have ft : iv N 170 5 = t := hZ.2.2.2.2.1
              rw [f3, ft] at c2
              rw [f6] at c3
              rw [fv] at c4
              have hl := hc.2.2 x.toInt.toNat x40
              have xx : x.toInt = (x.toInt.toNat : Int) := by omega
              have hq : R.2.2 x.toInt.toNat = true := by
                cases z : R.2.2 x.toInt.toNat with
                | true => rfl
                | false => exact absurd ((tb_shr xx (by omega)).mpr (hl.trans z)) c5
              unfold whyN
              simp only [decide_eq_false c2, decide_eq_true c3, c4, hq, cond_true, cond_false] <;> rfl
          · replace c4 : bVoid N (x.toInt.toNat) = true := mB_eq.2 c4
            replace h := eConst (mi := 14) (pc := 71) (len := 1) (v := 3) rfl h
            obtain ⟨e1, e2⟩ := eRetI (mi := 14) (pc := 72) (len := 1) rfl h
            refine ⟨_, e1, ?_, e2⟩
            have hn : ¬ inCh R x.toInt.toNat := fun ⟨i, i1, i2⟩ => hk i (by omega) i2
            refine ⟨fun q => absurd q hn, fun _ => ?_⟩
            have f3 : iv N (10 + x.toInt.toNat) 3 = iv M (10 + x.toInt.toNat) 3 := hZ.2.1.lo (Or.inl (by omega))
            have f6 : iv N (10 + x.toInt.toNat) 6 = iv M (10 + x.toInt.toNat) 6 := hZ.2.1.lo (Or.inl (by omega))
            have fv : bVoid N x.toInt.toNat = bVoid M x.toInt.toNat := bVoid_fz hZ.2.1 x40
            have ft : iv N 170 5 = t := hZ.2.2.2.2.1
            rw [f3, ft] at c2
            rw [f6] at c3
            rw [fv] at c4
            unfold whyN
            simp only [decide_eq_false c2, decide_eq_true c3, c4, cond_true, cond_false] <;> rfl
        · replace c3 : ¬ (iv N (10 + x.toInt.toNat) 6).toInt = 0 := mC_eq.2 c3
          replace h := eConst (mi := 14) (pc := 58) (len := 1) (v := 2) rfl h
          obtain ⟨e1, e2⟩ := eRetI (mi := 14) (pc := 59) (len := 1) rfl h
          refine ⟨_, e1, ?_, e2⟩
          have hn : ¬ inCh R x.toInt.toNat := fun ⟨i, i1, i2⟩ => hk i (by omega) i2
          refine ⟨fun q => absurd q hn, fun _ => ?_⟩
          have f3 : iv N (10 + x.toInt.toNat) 3 = iv M (10 + x.toInt.toNat) 3 := hZ.2.1.lo (Or.inl (by omega))
          have f6 : iv N (10 + x.toInt.toNat) 6 = iv M (10 + x.toInt.toNat) 6 := hZ.2.1.lo (Or.inl (by omega))
          have fv : bVoid N x.toInt.toNat = bVoid M x.toInt.toNat := bVoid_fz hZ.2.1 x40
          have ft : iv N 170 5 = t := hZ.2.2.2.2.1
          rw [f3, ft] at c2
          rw [f6] at c3
          unfold whyN
          simp only [decide_eq_false c2, decide_eq_false c3, cond_true, cond_false] <;> rfl
      · replace c2 : (iv N 170 5).toInt < (iv N (10 + x.toInt.toNat) 3).toInt := mC_le.2 c2
        replace h := eConst (mi := 14) (pc := 49) (len := 1) (v := 1) rfl h
        obtain ⟨e1, e2⟩ := eRetI (mi := 14) (pc := 50) (len := 1) rfl h
        refine ⟨_, e1, ?_, e2⟩
        have hn : ¬ inCh R x.toInt.toNat := fun ⟨i, i1, i2⟩ => hk i (by omega) i2
        refine ⟨fun q => absurd q hn, fun _ => ?_⟩
        have f3 : iv N (10 + x.toInt.toNat) 3 = iv M (10 + x.toInt.toNat) 3 := hZ.2.1.lo (Or.inl (by omega))
        have f6 : iv N (10 + x.toInt.toNat) 6 = iv M (10 + x.toInt.toNat) 6 := hZ.2.1.lo (Or.inl (by omega))
        have fv : bVoid N x.toInt.toNat = bVoid M x.toInt.toNat := bVoid_fz hZ.2.1 x40
        have ft : iv N 170 5 = t := hZ.2.2.2.2.1
        rw [f3, ft] at c2
        unfold whyN
        simp only [decide_eq_true c2, cond_true, cond_false] <;> rfl
    · replace c1 : k.toInt < (iv N 170 14).toInt := mC_ge.2 c1
      replace h := eAload (mi := 14) (pc := 20) (len := 1) (i := 0) rfl l0 h
      replace h := eGetR (a := 170) (j := 13) (g := 175) hS (by decide) (by decide) rfl rfl rfl (mi := 14) (pc := 21) (len := 3) rfl h
      replace h := eIload (mi := 14) (pc := 24) (len := 1) (i := 3) rfl l3 h
      obtain ⟨bd6, h⟩ := eIald (x := k) hS (a := 175) (by decide) (by decide) rfl (mi := 14) (pc := 25) (len := 1) rfl h
      replace h := eIload (mi := 14) (pc := 26) (len := 1) (i := 1) rfl l1 h
      rcases eIc (mi := 14) (pc := 27) (len := 3) (t := 32) rfl rfl h with ⟨c7, h⟩ | ⟨c7, h⟩
      · replace c7 : ¬ (iv N 175 k.toInt.toNat).toInt = x.toInt := mC_ne.1 c7
        replace h := eIinc (mi := 14) (pc := 32) (len := 3) (i := 3) (k := 1) rfl l3 (by decide) h
        replace h := eGoto (mi := 14) (pc := 35) (len := 3) (t := 12) rfl rfl h
        have kl : k.toInt.toNat < R.2.1.length := by omega
        have lk := hc.2.1 _ kl
        have kk : k.toInt < 2147483647 := by have := (i32_rng (iv N 170 14)).2; omega
        have ek : (k + 1).toInt = k.toInt + 1 := i32_incU kk
        refine ih (k := k + 1) (mLd_st1_ref (by decide) l0) (mLd_st1_int (by decide) l1) (mLd_st1_ref (by decide) l2) mLd_st1_i (by omega) (fun i hi => ?_) h
        by_cases c : i = k.toInt.toNat
        · rw [c]
          intro q
          exact c7 (by omega)
        · exact hk i (by omega)
      · replace c7 : (iv N 175 k.toInt.toNat).toInt = x.toInt := mC_ne.2 c7
        replace h := eConst (mi := 14) (pc := 30) (len := 1) (v := 0) rfl h
        obtain ⟨e1, e2⟩ := eRetI (mi := 14) (pc := 31) (len := 1) rfl h
        refine ⟨_, e1, ?_, e2⟩
        have kl : k.toInt.toNat < R.2.1.length := by omega
        have lk := hc.2.1 _ kl
        exact ⟨fun _ => rfl, fun q => absurd ⟨k.toInt.toNat, kl, by omega⟩ q⟩
theorem rsn_en {M N : Mem} {W : Nat → WL} {s t x : Int32} {R : FL} (hR : Rf M) (hO : ordC M) (x0 : 0 ≤ x.toInt) (xn : x.toInt.toNat < nC M) (hZ : fcd M s t (nC M) N) (hc : chn N R) {n d : Nat} {r : Option Value} {M1 : Mem} (h : En n d 14 0 (lv_args 0 [.ref 170, .int x]) [] N r M1) : ∃ b, r = some (.int b) ∧ whyA M R t x.toInt.toNat b ∧ M1 = N := by
  have hY : yT8 N := fun e he => (hZ.2.1 8 e (by unfold qCh; omega)).trans (hR.1 e he)
  replace h := eAload (mi := 14) (pc := 0) (len := 1) (i := 0) rfl rfl h
  replace h := eGetR (a := 170) (j := 1) (g := 7) hZ.1 (by decide) (by decide) rfl rfl rfl (mi := 14) (pc := 1) (len := 3) rfl h
  replace h := eGetR (a := 7) (j := 600) (g := 8) hZ.1 (by decide) (by decide) rfl rfl rfl (mi := 14) (pc := 4) (len := 3) rfl h
  replace h := eIload (mi := 14) (pc := 7) (len := 1) (i := 1) rfl rfl h
  obtain ⟨bd1, h⟩ := eDeed (x := x) hZ.1 hY (mi := 14) (pc := 8) (len := 1) rfl h
  replace h := eAstore (mi := 14) (pc := 9) (len := 1) (i := 2) rfl (by decide) h
  replace h := eConst (mi := 14) (pc := 10) (len := 1) (v := 0) rfl h
  replace h := eIstore (mi := 14) (pc := 11) (len := 1) (i := 3) rfl (by decide) h
  exact rsn_lp (W := W) hR hO x0 xn hZ hc _ (k := 0) rfl rfl rfl rfl (Int.le_refl 0) (fun i hi => absurd hi (Nat.not_lt_zero i)) h
/-- the answer of why -/
def whyG (M : Mem) (s x t : Int32) : Bool := bDOf M x s && (bDay t && decide ((iv M (10 + x.toInt.toNat) 4).toInt = 0))
def whyC (M : Mem) (W : Nat → WL) (s x t : Int32) (b : Int32) : Prop := (whyG M s x t = true → whyA M (holdF M W s t) t x.toInt.toNat b) ∧ (whyG M s x t = false → b = -1)
theorem whyC_eq {M : Mem} {W : Nat → WL} {s x t b c : Int32} (h : whyC M W s x t b) (h' : whyC M W s x t c) : b = c := by
  cases q : whyG M s x t with
  | true => exact whyA_eq (h.1 q) (h'.1 q)
  | false => exact (h.2 q).trans (h'.2 q).symm
theorem whyC_en {M : Mem} {W : Nat → WL} {s t x : Int32} (hS : Sh M) (hR : Rf M) (hg : gvC M) (hW : lwOk M W) (hO : ordC M) {n d : Nat} {r : Option Value} {M1 : Mem} (h : En n d 125 0 (lv_args 0 [.ref 2, .int s, .int x, .int t]) [] M r M1) : ∃ b, r = some (.int b) ∧ whyC M W s x t b ∧ FzC M M1 := by
  have hY := hR.1
  replace h := eAload (mi := 125) (pc := 0) (len := 1) (i := 0) rfl rfl h
  replace h := eIload (mi := 125) (pc := 1) (len := 1) (i := 2) rfl rfl h
  replace h := eIload (mi := 125) (pc := 2) (len := 1) (i := 1) rfl rfl h
  replace h := eCallP (mi := 125) (pc := 3) (len := 3) (j := 155) (as := [.ref 2, .int x, .int s]) (rest := []) rfl (Or.inr (Or.inl rfl)) (by decide) rfl rfl (fun _ _ _ _ g => bDOf_en hS hY g) h
  rcases eIf (mi := 125) (pc := 6) (len := 3) (t := 31) rfl rfl h with ⟨c1, h⟩ | ⟨c1, h⟩
  · replace c1 : bDOf M x s = false := mB_eq.1 c1
    replace h := eConst (mi := 125) (pc := 31) (len := 1) (v := (-1)) rfl h
    obtain ⟨e1, e2⟩ := eRetI (mi := 125) (pc := 32) (len := 1) rfl h
    refine ⟨_, e1, ?_, by rw [e2]; exact FzC.rf⟩
    have hg : (bDOf M x s && (bDay t && decide ((iv M (10 + x.toInt.toNat) 4).toInt = 0))) = false := by
      simp only [c1, Bool.true_and, Bool.false_and, Bool.and_true, Bool.and_false, cond_true, cond_false]
    exact ⟨fun q => absurd (hg.symm.trans q) (by decide), fun _ => rfl⟩
  · replace c1 : bDOf M x s = true := mB_eq.2 c1
    replace h := eIload (mi := 125) (pc := 9) (len := 1) (i := 3) rfl rfl h
    replace h := eCallP (mi := 125) (pc := 10) (len := 3) (j := 151) (as := [.int t]) (rest := []) rfl (Or.inl rfl) (by decide) rfl rfl (fun _ _ _ _ g => bDay_en hS g) h
    rcases eIf (mi := 125) (pc := 13) (len := 3) (t := 31) rfl rfl h with ⟨c2, h⟩ | ⟨c2, h⟩
    · replace c2 : bDay t = false := mB_eq.1 c2
      replace h := eConst (mi := 125) (pc := 31) (len := 1) (v := (-1)) rfl h
      obtain ⟨e1, e2⟩ := eRetI (mi := 125) (pc := 32) (len := 1) rfl h
      refine ⟨_, e1, ?_, by rw [e2]; exact FzC.rf⟩
      have hg : (bDOf M x s && (bDay t && decide ((iv M (10 + x.toInt.toNat) 4).toInt = 0))) = false := by
        simp only [c1, c2, Bool.true_and, Bool.false_and, Bool.and_true, Bool.and_false, cond_true, cond_false]
      exact ⟨fun q => absurd (hg.symm.trans q) (by decide), fun _ => rfl⟩
    · replace c2 : bDay t = true := mB_eq.2 c2
      replace h := eAload (mi := 125) (pc := 16) (len := 1) (i := 0) rfl rfl h
      replace h := eGetR (a := 2) (j := 1001) (g := 7) hS (by decide) (by decide) rfl rfl rfl (mi := 125) (pc := 17) (len := 3) rfl h
      replace h := eGetR (a := 7) (j := 600) (g := 8) hS (by decide) (by decide) rfl rfl rfl (mi := 125) (pc := 20) (len := 3) rfl h
      replace h := eIload (mi := 125) (pc := 23) (len := 1) (i := 2) rfl rfl h
      obtain ⟨bd3, h⟩ := eDeed (x := x) hS hY (mi := 125) (pc := 24) (len := 1) rfl h
      replace h := eGetD (e := x.toInt.toNat) (f := 4) hS bd3.2 rfl rfl  (j := 104) (mi := 125) (pc := 25) (len := 3) rfl h
      rcases eIf (mi := 125) (pc := 28) (len := 3) (t := 33) rfl rfl h with ⟨c4, h⟩ | ⟨c4, h⟩
      · replace c4 : (iv M (10 + x.toInt.toNat) 4).toInt = 0 := mC_eq.1 c4
        replace h := eAload (mi := 125) (pc := 33) (len := 1) (i := 0) rfl rfl h
        replace h := eGetR (a := 2) (j := 1008) (g := 170) hS (by decide) (by decide) rfl rfl rfl (mi := 125) (pc := 34) (len := 3) rfl h
        replace h := eIload (mi := 125) (pc := 37) (len := 1) (i := 1) rfl rfl h
        replace h := eIload (mi := 125) (pc := 38) (len := 1) (i := 3) rfl rfl h
        obtain ⟨r5, N6, g7, h⟩ := eCall (mi := 125) (pc := 39) (len := 3) (j := 2) (as := [.ref 170, .int s, .int t]) (rest := []) rfl (Or.inr (Or.inl rfl)) (by decide) rfl rfl h
        obtain ⟨erN6, hZN6, hMN6, hcN6⟩ := hldBy_en hS FzC.rf hR hg hW hO g7
        rw [erN6] at h
        replace h := ePopI (mi := 125) (pc := 42) (len := 1) rfl h
        replace h := eAload (mi := 125) (pc := 43) (len := 1) (i := 0) rfl rfl h
        replace h := eGetR (a := 2) (j := 1008) (g := 170) hZN6.1 (by decide) (by decide) rfl rfl rfl (mi := 125) (pc := 44) (len := 3) rfl h
        replace h := eIload (mi := 125) (pc := 47) (len := 1) (i := 2) rfl rfl h
        obtain ⟨r8, N9, g10, h⟩ := eCall (mi := 125) (pc := 48) (len := 3) (j := 14) (as := [.ref 170, .int x]) (rest := []) rfl (Or.inr (Or.inl rfl)) (by decide) rfl rfl h
        have gx := bDOf_deed c1
        obtain ⟨bN9, erN9, hbN9, eMN9⟩ := rsn_en (W := W) hR hO gx.1 gx.2 hZN6 hcN6 g10
        rw [erN9, eMN9] at h
        obtain ⟨e1, e2⟩ := eRetI (mi := 125) (pc := 51) (len := 1) rfl h
        refine ⟨_, e1, ?_, by rw [e2]; exact hZN6.2.1⟩
        have hg : (bDOf M x s && (bDay t && decide ((iv M (10 + x.toInt.toNat) 4).toInt = 0))) = true := by
          simp only [c1, c2, decide_eq_true c4, Bool.true_and, Bool.false_and, Bool.and_true, Bool.and_false, cond_true, cond_false]
        exact ⟨fun _ => hbN9, fun q => absurd (hg.symm.trans q) (by decide)⟩
      · replace c4 : ¬ (iv M (10 + x.toInt.toNat) 4).toInt = 0 := mC_eq.2 c4
        replace h := eConst (mi := 125) (pc := 31) (len := 1) (v := (-1)) rfl h
        obtain ⟨e1, e2⟩ := eRetI (mi := 125) (pc := 32) (len := 1) rfl h
        refine ⟨_, e1, ?_, by rw [e2]; exact FzC.rf⟩
        have hg : (bDOf M x s && (bDay t && decide ((iv M (10 + x.toInt.toNat) 4).toInt = 0))) = false := by
          simp only [c1, c2, decide_eq_false c4, Bool.true_and, Bool.false_and, Bool.and_true, Bool.and_false, cond_true, cond_false]
        exact ⟨fun q => absurd (hg.symm.trans q) (by decide), fun _ => rfl⟩
theorem inC_lp {N : Mem} {x : Int32} {R : FL} (hS : Sh N) (x0 : 0 ≤ x.toInt) (hc : chnR N R) : ∀ (n : Nat) {d : Nat} {L : MLoc} {r : Option Value} {M1 : Mem} {k : Int32}, mLd L 0 = some (.ref 181) → mLd L 1 = some (.int x) → mLd L 2 = some (.int k) → 0 ≤ k.toInt → (∀ i, i < k.toInt.toNat → nthL R.2.1 i ≠ x.toInt.toNat) → En n d 231 2 L [] N r M1 → ∃ b : Bool, r = some (.int (b2 b)) ∧ (b = true ↔ inCh R x.toInt.toNat) ∧ M1 = N := by
  intro n
  induction n with
  | zero => intro d L r M1 k _ _ _ _ _ h; exact (En.zero (mi := 231) (pc := 2) (len := 1) rfl h).elim
  | succ n ih =>
    intro d L r M1 k l0 l1 l2 k0 hk h
    have q14 := hc.1
    replace h := eIloadS (mi := 231) (pc := 2) (len := 1) (i := 2) rfl l2 h
    replace h := eAload (mi := 231) (pc := 3) (len := 1) (i := 0) rfl l0 h
    replace h := eGetI (a := 181) (j := 1148) hS (by decide) (by decide) rfl (mi := 231) (pc := 4) (len := 3) rfl h
    rcases eIc (mi := 231) (pc := 7) (len := 3) (t := 28) rfl rfl h with ⟨c1, h⟩ | ⟨c1, h⟩
    · replace c1 : ¬ k.toInt < (iv N 181 48).toInt := mC_ge.1 c1
      replace h := eConst (mi := 231) (pc := 28) (len := 1) (v := 0) rfl h
      obtain ⟨e1, e2⟩ := eRetI (mi := 231) (pc := 29) (len := 1) rfl h
      exact ⟨false, e1, ⟨fun q => (by cases q), fun ⟨i, i1, i2⟩ => absurd i2 (hk i (by omega))⟩, e2⟩
    · replace c1 : k.toInt < (iv N 181 48).toInt := mC_ge.2 c1
      replace h := eAload (mi := 231) (pc := 10) (len := 1) (i := 0) rfl l0 h
      replace h := eGetR (a := 181) (j := 1151) (g := 218) hS (by decide) (by decide) rfl rfl rfl (mi := 231) (pc := 11) (len := 3) rfl h
      replace h := eIload (mi := 231) (pc := 14) (len := 1) (i := 2) rfl l2 h
      obtain ⟨bd2, h⟩ := eIald (x := k) hS (a := 218) (by decide) (by decide) rfl (mi := 231) (pc := 15) (len := 1) rfl h
      replace h := eIload (mi := 231) (pc := 16) (len := 1) (i := 1) rfl l1 h
      rcases eIc (mi := 231) (pc := 17) (len := 3) (t := 22) rfl rfl h with ⟨c3, h⟩ | ⟨c3, h⟩
      · replace c3 : ¬ (iv N 218 k.toInt.toNat).toInt = x.toInt := mC_ne.1 c3
        replace h := eIinc (mi := 231) (pc := 22) (len := 3) (i := 2) (k := 1) rfl l2 (by decide) h
        replace h := eGoto (mi := 231) (pc := 25) (len := 3) (t := 2) rfl rfl h
        have kl : k.toInt.toNat < R.2.1.length := by omega
        have lk := hc.2.1 _ kl
        have kk : k.toInt < 2147483647 := by have := (i32_rng (iv N 181 48)).2; omega
        have ek : (k + 1).toInt = k.toInt + 1 := i32_incU kk
        refine ih (k := k + 1) (mLd_st1_ref (by decide) l0) (mLd_st1_int (by decide) l1) mLd_st1_i (by omega) (fun i hi => ?_) h
        by_cases c : i = k.toInt.toNat
        · rw [c]
          intro q
          exact c3 (by omega)
        · exact hk i (by omega)
      · replace c3 : (iv N 218 k.toInt.toNat).toInt = x.toInt := mC_ne.2 c3
        replace h := eConst (mi := 231) (pc := 20) (len := 1) (v := 1) rfl h
        obtain ⟨e1, e2⟩ := eRetI (mi := 231) (pc := 21) (len := 1) rfl h
        have kl : k.toInt.toNat < R.2.1.length := by omega
        have lk := hc.2.1 _ kl
        exact ⟨true, e1, ⟨fun _ => ⟨k.toInt.toNat, kl, by omega⟩, fun _ => rfl⟩, e2⟩
theorem inC_en {N : Mem} {x : Int32} {R : FL} (hS : Sh N) (x0 : 0 ≤ x.toInt) (hc : chnR N R) {n d : Nat} {r : Option Value} {M1 : Mem} (h : En n d 231 0 (lv_args 0 [.ref 181, .int x]) [] N r M1) : ∃ b : Bool, r = some (.int (b2 b)) ∧ (b = true ↔ inCh R x.toInt.toNat) ∧ M1 = N := by
  replace h := eConst (mi := 231) (pc := 0) (len := 1) (v := 0) rfl h
  replace h := eIstore (mi := 231) (pc := 1) (len := 1) (i := 2) rfl (by decide) h
  exact inC_lp hS x0 hc _ (k := 0) rfl rfl rfl (Int.le_refl 0) (fun i hi => absurd hi (Nat.not_lt_zero i)) h
theorem whyOf_en {M N : Mem} {n0 : Nat} {x t : Int32} {R : FL} (hC : RCw M N n0) (x0 : 0 ≤ x.toInt) (xn : x.toInt.toNat < n0) (hc : chnR N R) {n d : Nat} {r : Option Value} {M1 : Mem} (h : En n d 233 0 (lv_args 0 [.ref 181, .int x, .int t]) [] N r M1) : ∃ b, r = some (.int b) ∧ whyA M R t x.toInt.toNat b := by
  have hS := hC.1
  have n40 : n0 ≤ 40 := hC.2.1.1.1
  replace h := eAload (mi := 233) (pc := 0) (len := 1) (i := 0) rfl rfl h
  replace h := eIload (mi := 233) (pc := 1) (len := 1) (i := 1) rfl rfl h
  obtain ⟨r1, N2, g3, h⟩ := eCall (mi := 233) (pc := 2) (len := 3) (j := 231) (as := [.ref 181, .int x]) (rest := []) rfl (Or.inr (Or.inl rfl)) (by decide) rfl rfl h
  obtain ⟨bN2, erN2, hbN2, eMN2⟩ := inC_en hS x0 hc g3
  rw [erN2, eMN2] at h
  rcases eIf (mi := 233) (pc := 5) (len := 3) (t := 10) rfl rfl h with ⟨c4, h⟩ | ⟨c4, h⟩
  · replace c4 : bN2 = false := mB_eq.1 c4
    replace h := eAload (mi := 233) (pc := 10) (len := 1) (i := 0) rfl rfl h
    replace h := eGetR (a := 181) (j := 1108) (g := 188) hS (by decide) (by decide) rfl rfl rfl (mi := 233) (pc := 11) (len := 3) rfl h
    replace h := eIload (mi := 233) (pc := 14) (len := 1) (i := 1) rfl rfl h
    obtain ⟨bd5, h⟩ := eIald (x := x) hS (a := 188) (by decide) (by decide) rfl (mi := 233) (pc := 15) (len := 1) rfl h
    replace h := eIload (mi := 233) (pc := 16) (len := 1) (i := 2) rfl rfl h
    rcases eIc (mi := 233) (pc := 17) (len := 3) (t := 22) rfl rfl h with ⟨c6, h⟩ | ⟨c6, h⟩
    · replace c6 : ¬ t.toInt < (iv N 188 x.toInt.toNat).toInt := mC_le.1 c6
      replace h := eAload (mi := 233) (pc := 22) (len := 1) (i := 0) rfl rfl h
      replace h := eGetR (a := 181) (j := 1114) (g := 194) hS (by decide) (by decide) rfl rfl rfl (mi := 233) (pc := 23) (len := 3) rfl h
      replace h := eIload (mi := 233) (pc := 26) (len := 1) (i := 1) rfl rfl h
      obtain ⟨bd7, h⟩ := eBald (x := x) hS (a := 194) (by decide) (by decide) rfl (mi := 233) (pc := 27) (len := 1) rfl h
      rcases eIf (mi := 233) (pc := 28) (len := 3) (t := 33) rfl rfl h with ⟨c8, h⟩ | ⟨c8, h⟩
      · replace c8 : (iv N 194 x.toInt.toNat).toInt = 0 := mC_eq.1 c8
        replace h := eAload (mi := 233) (pc := 33) (len := 1) (i := 0) rfl rfl h
        replace h := eIload (mi := 233) (pc := 34) (len := 1) (i := 1) rfl rfl h
        replace h := eCallP (mi := 233) (pc := 35) (len := 3) (j := 177) (as := [.ref 181, .int x]) (rest := []) rfl (Or.inr (Or.inl rfl)) (by decide) rfl rfl (fun _ _ _ _ g => rVoi_en hS g) h
        rcases eIf (mi := 233) (pc := 38) (len := 3) (t := 43) rfl rfl h with ⟨c9, h⟩ | ⟨c9, h⟩
        · replace c9 : rVoi N x = false := mB_eq.1 c9
          replace h := eAload (mi := 233) (pc := 43) (len := 1) (i := 0) rfl rfl h
          replace h := eGetR (a := 181) (j := 1152) (g := 219) hS (by decide) (by decide) rfl rfl rfl (mi := 233) (pc := 44) (len := 3) rfl h
          replace h := eIload (mi := 233) (pc := 47) (len := 1) (i := 1) rfl rfl h
          obtain ⟨bd10, h⟩ := eBald (x := x) hS (a := 219) (by decide) (by decide) rfl (mi := 233) (pc := 48) (len := 1) rfl h
          rcases eIf (mi := 233) (pc := 49) (len := 3) (t := 56) rfl rfl h with ⟨c11, h⟩ | ⟨c11, h⟩
          · replace c11 : (iv N 219 x.toInt.toNat).toInt = 0 := mC_eq.1 c11
            replace h := eConst (mi := 233) (pc := 56) (len := 1) (v := 5) rfl h
            obtain ⟨e1, e2⟩ := eRetI (mi := 233) (pc := 57) (len := 1) rfl h
            refine ⟨_, e1, ?_⟩
            have hn : ¬ inCh R x.toInt.toNat := fun q => by have := hbN2.mpr q; rw [c4] at this; cases this
            refine ⟨fun q => absurd q hn, fun _ => ?_⟩
            rw [AL_3 hC.2.1.1 xn] at c6
            rw [AL_6 hC.2.1.1 xn] at c8
            rw [rVoi_eq hC.2.1 xn] at c9
            have hl := hc.2.2 x.toInt.toNat (by omega)
            rw [hl] at c11
            have hq : R.2.2 x.toInt.toNat = false := by
              cases z : R.2.2 x.toInt.toNat with
              | false => rfl
              | true => rw [z] at c11; exact absurd c11 (by decide)
            unfold whyN
            simp only [decide_eq_false c6, decide_eq_true c8, c9, hq, cond_true, cond_false] <;> rfl
          · replace c11 : ¬ (iv N 219 x.toInt.toNat).toInt = 0 := mC_eq.2 c11
            replace h := eConst (mi := 233) (pc := 52) (len := 1) (v := 4) rfl h
            replace h := eGoto (mi := 233) (pc := 53) (len := 3) (t := 57) rfl rfl h
            obtain ⟨e1, e2⟩ := eRetI (mi := 233) (pc := 57) (len := 1) rfl h
            refine ⟨_, e1, ?_⟩
            have hn : ¬ inCh R x.toInt.toNat := fun q => by have := hbN2.mpr q; rw [c4] at this; cases this
            refine ⟨fun q => absurd q hn, fun _ => ?_⟩
            rw [AL_3 hC.2.1.1 xn] at c6
            rw [AL_6 hC.2.1.1 xn] at c8
            rw [rVoi_eq hC.2.1 xn] at c9
            have hl := hc.2.2 x.toInt.toNat (by omega)
            rw [hl] at c11
            have hq : R.2.2 x.toInt.toNat = true := by
              cases z : R.2.2 x.toInt.toNat with
              | true => rfl
              | false => rw [z] at c11; exact absurd rfl c11
            unfold whyN
            simp only [decide_eq_false c6, decide_eq_true c8, c9, hq, cond_true, cond_false] <;> rfl
        · replace c9 : rVoi N x = true := mB_eq.2 c9
          replace h := eConst (mi := 233) (pc := 41) (len := 1) (v := 3) rfl h
          obtain ⟨e1, e2⟩ := eRetI (mi := 233) (pc := 42) (len := 1) rfl h
          refine ⟨_, e1, ?_⟩
          have hn : ¬ inCh R x.toInt.toNat := fun q => by have := hbN2.mpr q; rw [c4] at this; cases this
          refine ⟨fun q => absurd q hn, fun _ => ?_⟩
          rw [AL_3 hC.2.1.1 xn] at c6
          rw [AL_6 hC.2.1.1 xn] at c8
          rw [rVoi_eq hC.2.1 xn] at c9
          unfold whyN
          simp only [decide_eq_false c6, decide_eq_true c8, c9, cond_true, cond_false] <;> rfl
      · replace c8 : ¬ (iv N 194 x.toInt.toNat).toInt = 0 := mC_eq.2 c8
        replace h := eConst (mi := 233) (pc := 31) (len := 1) (v := 2) rfl h
        obtain ⟨e1, e2⟩ := eRetI (mi := 233) (pc := 32) (len := 1) rfl h
        refine ⟨_, e1, ?_⟩
        have hn : ¬ inCh R x.toInt.toNat := fun q => by have := hbN2.mpr q; rw [c4] at this; cases this
        refine ⟨fun q => absurd q hn, fun _ => ?_⟩
        rw [AL_3 hC.2.1.1 xn] at c6
        rw [AL_6 hC.2.1.1 xn] at c8
        unfold whyN
        simp only [decide_eq_false c6, decide_eq_false c8, cond_true, cond_false] <;> rfl
    · replace c6 : t.toInt < (iv N 188 x.toInt.toNat).toInt := mC_le.2 c6
      replace h := eConst (mi := 233) (pc := 20) (len := 1) (v := 1) rfl h
      obtain ⟨e1, e2⟩ := eRetI (mi := 233) (pc := 21) (len := 1) rfl h
      refine ⟨_, e1, ?_⟩
      have hn : ¬ inCh R x.toInt.toNat := fun q => by have := hbN2.mpr q; rw [c4] at this; cases this
      refine ⟨fun q => absurd q hn, fun _ => ?_⟩
      rw [AL_3 hC.2.1.1 xn] at c6
      unfold whyN
      simp only [decide_eq_true c6, cond_true, cond_false] <;> rfl
  · replace c4 : bN2 = true := mB_eq.2 c4
    replace h := eConst (mi := 233) (pc := 8) (len := 1) (v := 0) rfl h
    obtain ⟨e1, e2⟩ := eRetI (mi := 233) (pc := 9) (len := 1) rfl h
    refine ⟨_, e1, ?_⟩
    exact ⟨fun _ => rfl, fun q => absurd (hbN2.mp c4) q⟩
theorem rDeed_x {M N : Mem} {n0 : Nat} (hA : AR M N n0) {x : Int32} (h : rDeed N x = true) : 0 ≤ x.toInt ∧ x.toInt.toNat < n0 := by
  rw [rDeed_eq hA.1] at h
  exact ⟨(bIn_true (show bIn x (iv M 7 2) = true from h)).1, (bDeed_true hA.1 h).2⟩
theorem whyR_en {M N : Mem} {W : Nat → WL} {n0 : Nat} {s t x : Int32} (hB : RSw M N) (hL : lysA M n0) (hn : n0 = nC M) (hO : ordC M) (hW : lwOk M W) (hL6 : ∀ s, s < 8 → 0 ≤ (iv M 6 s).toInt ∧ (iv M 6 s).toInt ≤ 2) (hd9 : ∀ e, e < n0 → (iv M (10 + e) 3).toInt ≤ 999) {n d : Nat} {r : Option Value} {M1 : Mem} (h : En n d 232 0 (lv_args 0 [.ref 181, .int s, .int x, .int t]) [] N r M1) : ∃ b, r = some (.int b) ∧ whyC M W s x t b := by
  have hA : AR M N n0 := AR_r hL.1 (fun c i q => hB.2 c i (Or.inl (by unfold qLk; omega)))
  replace h := eIload (mi := 232) (pc := 0) (len := 1) (i := 1) rfl rfl h
  replace h := eCallP (mi := 232) (pc := 1) (len := 3) (j := 163) (as := [.int s]) (rest := []) rfl (Or.inl rfl) (by decide) rfl rfl (fun _ _ _ _ g => rStr_en hB.1 g) h
  rcases eIf (mi := 232) (pc := 4) (len := 3) (t := 40) rfl rfl h with ⟨c1, h⟩ | ⟨c1, h⟩
  · replace c1 : rStr s = false := mB_eq.1 c1
    replace h := eConst (mi := 232) (pc := 40) (len := 1) (v := (-1)) rfl h
    obtain ⟨e1, e2⟩ := eRetI (mi := 232) (pc := 41) (len := 1) rfl h
    refine ⟨_, e1, ?_⟩
    have hg : (bDOf M x s && (bDay t && decide ((iv M (10 + x.toInt.toNat) 4).toInt = 0))) = false := by
      unfold bDOf
      rw [rStr_eq] at c1
      simp only [c1, Bool.true_and, Bool.false_and, Bool.and_true, Bool.and_false, cond_true, cond_false]
      <;> (first | rfl | (cases bDeed M x <;> cases bStr s <;> cases bOf M x.toInt.toNat s <;> cases bDay t <;> rfl))
    exact ⟨fun q => absurd (hg.symm.trans q) (by decide), fun _ => rfl⟩
  · replace c1 : rStr s = true := mB_eq.2 c1
    replace h := eAload (mi := 232) (pc := 7) (len := 1) (i := 0) rfl rfl h
    replace h := eIload (mi := 232) (pc := 8) (len := 1) (i := 2) rfl rfl h
    replace h := eCallP (mi := 232) (pc := 9) (len := 3) (j := 164) (as := [.ref 181, .int x]) (rest := []) rfl (Or.inr (Or.inl rfl)) (by decide) rfl rfl (fun _ _ _ _ g => rDeed_en hB.1 g) h
    rcases eIf (mi := 232) (pc := 12) (len := 3) (t := 40) rfl rfl h with ⟨c2, h⟩ | ⟨c2, h⟩
    · replace c2 : rDeed N x = false := mB_eq.1 c2
      replace h := eConst (mi := 232) (pc := 40) (len := 1) (v := (-1)) rfl h
      obtain ⟨e1, e2⟩ := eRetI (mi := 232) (pc := 41) (len := 1) rfl h
      refine ⟨_, e1, ?_⟩
      have hg : (bDOf M x s && (bDay t && decide ((iv M (10 + x.toInt.toNat) 4).toInt = 0))) = false := by
        unfold bDOf
        rw [rStr_eq] at c1
        skip
        rw [rDeed_eq hA.1] at c2
        simp only [c1, c2, Bool.true_and, Bool.false_and, Bool.and_true, Bool.and_false, cond_true, cond_false]
        <;> (first | rfl | (cases bDeed M x <;> cases bStr s <;> cases bOf M x.toInt.toNat s <;> cases bDay t <;> rfl))
      exact ⟨fun q => absurd (hg.symm.trans q) (by decide), fun _ => rfl⟩
    · replace c2 : rDeed N x = true := mB_eq.2 c2
      replace h := eAload (mi := 232) (pc := 15) (len := 1) (i := 0) rfl rfl h
      replace h := eIload (mi := 232) (pc := 16) (len := 1) (i := 2) rfl rfl h
      replace h := eIload (mi := 232) (pc := 17) (len := 1) (i := 1) rfl rfl h
      replace h := eCallP (mi := 232) (pc := 18) (len := 3) (j := 178) (as := [.ref 181, .int x, .int s]) (rest := []) rfl (Or.inr (Or.inl rfl)) (by decide) rfl rfl (fun _ _ _ _ g => rOf_en hB.1 g) h
      rcases eIf (mi := 232) (pc := 21) (len := 3) (t := 40) rfl rfl h with ⟨c3, h⟩ | ⟨c3, h⟩
      · replace c3 : rOf N x s = false := mB_eq.1 c3
        replace h := eConst (mi := 232) (pc := 40) (len := 1) (v := (-1)) rfl h
        obtain ⟨e1, e2⟩ := eRetI (mi := 232) (pc := 41) (len := 1) rfl h
        refine ⟨_, e1, ?_⟩
        have hg : (bDOf M x s && (bDay t && decide ((iv M (10 + x.toInt.toNat) 4).toInt = 0))) = false := by
          unfold bDOf
          rw [rStr_eq] at c1
          have gx := rDeed_x hA c2
          rw [rDeed_eq hA.1] at c2
          rw [rOf_eq hA.1 gx.2] at c3
          simp only [c1, c2, c3, Bool.true_and, Bool.false_and, Bool.and_true, Bool.and_false, cond_true, cond_false]
          <;> (first | rfl | (cases bDeed M x <;> cases bStr s <;> cases bOf M x.toInt.toNat s <;> cases bDay t <;> rfl))
        exact ⟨fun q => absurd (hg.symm.trans q) (by decide), fun _ => rfl⟩
      · replace c3 : rOf N x s = true := mB_eq.2 c3
        replace h := eAload (mi := 232) (pc := 24) (len := 1) (i := 0) rfl rfl h
        replace h := eGetR (a := 181) (j := 1109) (g := 189) hB.1 (by decide) (by decide) rfl rfl rfl (mi := 232) (pc := 25) (len := 3) rfl h
        replace h := eIload (mi := 232) (pc := 28) (len := 1) (i := 2) rfl rfl h
        obtain ⟨bd4, h⟩ := eIald (x := x) hB.1 (a := 189) (by decide) (by decide) rfl (mi := 232) (pc := 29) (len := 1) rfl h
        rcases eIf (mi := 232) (pc := 30) (len := 3) (t := 40) rfl rfl h with ⟨c5, h⟩ | ⟨c5, h⟩
        · replace c5 : ¬ (iv N 189 x.toInt.toNat).toInt = 0 := mC_ne.1 c5
          replace h := eConst (mi := 232) (pc := 40) (len := 1) (v := (-1)) rfl h
          obtain ⟨e1, e2⟩ := eRetI (mi := 232) (pc := 41) (len := 1) rfl h
          refine ⟨_, e1, ?_⟩
          have hg : (bDOf M x s && (bDay t && decide ((iv M (10 + x.toInt.toNat) 4).toInt = 0))) = false := by
            unfold bDOf
            rw [rStr_eq] at c1
            have gx := rDeed_x hA c2
            rw [rDeed_eq hA.1] at c2
            rw [rOf_eq hA.1 gx.2] at c3
            rw [AL_4 hA.1 gx.2] at c5
            simp only [c1, c2, c3, decide_eq_false c5, Bool.true_and, Bool.false_and, Bool.and_true, Bool.and_false, cond_true, cond_false]
            <;> (first | rfl | (cases bDeed M x <;> cases bStr s <;> cases bOf M x.toInt.toNat s <;> cases bDay t <;> rfl))
          exact ⟨fun q => absurd (hg.symm.trans q) (by decide), fun _ => rfl⟩
        · replace c5 : (iv N 189 x.toInt.toNat).toInt = 0 := mC_ne.2 c5
          replace h := eIload (mi := 232) (pc := 33) (len := 1) (i := 3) rfl rfl h
          replace h := eCallP (mi := 232) (pc := 34) (len := 3) (j := 161) (as := [.int t]) (rest := []) rfl (Or.inl rfl) (by decide) rfl rfl (fun _ _ _ _ g => rDay_en hB.1 g) h
          rcases eIf (mi := 232) (pc := 37) (len := 3) (t := 42) rfl rfl h with ⟨c6, h⟩ | ⟨c6, h⟩
          · replace c6 : rDay t = true := mB_ne.1 c6
            replace h := eAload (mi := 232) (pc := 42) (len := 1) (i := 0) rfl rfl h
            replace h := eIload (mi := 232) (pc := 43) (len := 1) (i := 1) rfl rfl h
            replace h := eIload (mi := 232) (pc := 44) (len := 1) (i := 3) rfl rfl h
            obtain ⟨r7, N8, g9, h⟩ := eCall (mi := 232) (pc := 45) (len := 3) (j := 229) (as := [.ref 181, .int s, .int t]) (rest := []) rfl (Or.inr (Or.inl rfl)) (by decide) rfl rfl h
            have gs := str_lt (s := s) ((rStr_eq s).symm.trans c1)
            have gd := day_lt (t := t) ((rDay_eq t).symm.trans c6)
            obtain ⟨erN8, hBN8, hCN8, hcN8, _⟩ := hldOf_en (W := W) hB hL hn hO hW gs.2 (hL6 _ gs.2) hd9 gd g9
            rw [erN8] at h
            replace h := ePopI (mi := 232) (pc := 48) (len := 1) rfl h
            replace h := eAload (mi := 232) (pc := 49) (len := 1) (i := 0) rfl rfl h
            replace h := eIload (mi := 232) (pc := 50) (len := 1) (i := 2) rfl rfl h
            replace h := eIload (mi := 232) (pc := 51) (len := 1) (i := 3) rfl rfl h
            obtain ⟨r10, N11, g12, h⟩ := eCall (mi := 232) (pc := 52) (len := 3) (j := 233) (as := [.ref 181, .int x, .int t]) (rest := []) rfl (Or.inr (Or.inl rfl)) (by decide) rfl rfl h
            have gx := rDeed_x hA c2
            obtain ⟨bN11, erN11, hbN11⟩ := whyOf_en hCN8 gx.1 gx.2 hcN8 g12
            rw [erN11] at h
            obtain ⟨e1, e2⟩ := eRetI (mi := 232) (pc := 55) (len := 1) rfl h
            refine ⟨_, e1, ?_⟩
            have hg : (bDOf M x s && (bDay t && decide ((iv M (10 + x.toInt.toNat) 4).toInt = 0))) = true := by
              unfold bDOf
              rw [rStr_eq] at c1
              have gx := rDeed_x hA c2
              rw [rDeed_eq hA.1] at c2
              rw [rOf_eq hA.1 gx.2] at c3
              rw [AL_4 hA.1 gx.2] at c5
              rw [rDay_eq] at c6
              simp only [c1, c2, c3, decide_eq_true c5, c6, Bool.true_and, Bool.false_and, Bool.and_true, Bool.and_false, cond_true, cond_false]
            exact ⟨fun _ => hbN11, fun q => absurd (hg.symm.trans q) (by decide)⟩
          · replace c6 : rDay t = false := mB_ne.2 c6
            replace h := eConst (mi := 232) (pc := 40) (len := 1) (v := (-1)) rfl h
            obtain ⟨e1, e2⟩ := eRetI (mi := 232) (pc := 41) (len := 1) rfl h
            refine ⟨_, e1, ?_⟩
            have hg : (bDOf M x s && (bDay t && decide ((iv M (10 + x.toInt.toNat) 4).toInt = 0))) = false := by
              unfold bDOf
              rw [rStr_eq] at c1
              have gx := rDeed_x hA c2
              rw [rDeed_eq hA.1] at c2
              rw [rOf_eq hA.1 gx.2] at c3
              rw [AL_4 hA.1 gx.2] at c5
              rw [rDay_eq] at c6
              simp only [c1, c2, c3, decide_eq_true c5, c6, Bool.true_and, Bool.false_and, Bool.and_true, Bool.and_false, cond_true, cond_false]
              <;> (first | rfl | (cases bDeed M x <;> cases bStr s <;> cases bOf M x.toInt.toNat s <;> cases bDay t <;> rfl))
            exact ⟨fun q => absurd (hg.symm.trans q) (by decide), fun _ => rfl⟩

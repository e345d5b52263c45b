/-! count, either side (printed by fn25.py) -/
/-- one of a law's clauses, a death, a strip's law; nothing -/
def cnO (cl dd lw : Nat → Int32) (w : Int32) : Int32 := if 10 ≤ w.toInt ∧ w.toInt < 13 then cl (w.toInt - 10).toNat else if 20 ≤ w.toInt ∧ w.toInt < 30 then dd (w.toInt - 20).toNat else if 30 ≤ w.toInt ∧ w.toInt < 38 then lw (w.toInt - 30).toNat else -1
def cnF (v0 v1 v2 v3 v4 : Int32) (cl dd lw : Nat → Int32) (w : Int32) : Int32 := if w.toInt = 0 then v0 else if w.toInt = 1 then v1 else if w.toInt = 2 then v2 else if w.toInt = 3 then v3 else if w.toInt = 4 then v4 else cnO cl dd lw w
theorem cnO_same {cl dd lw cl' dd' lw' : Nat → Int32} {w : Int32} (h1 : ∀ k, k < 3 → cl k = cl' k) (h2 : ∀ k, k < 10 → dd k = dd' k) (h3 : ∀ k, k < 8 → lw k = lw' k) : cnO cl dd lw w = cnO cl' dd' lw' w := by
  unfold cnO
  by_cases a : 10 ≤ w.toInt ∧ w.toInt < 13
  · rw [if_pos a, if_pos a, h1 _ (by omega)]
  rw [if_neg a, if_neg a]
  by_cases b : 20 ≤ w.toInt ∧ w.toInt < 30
  · rw [if_pos b, if_pos b, h2 _ (by omega)]
  rw [if_neg b, if_neg b]
  by_cases c : 30 ≤ w.toInt ∧ w.toInt < 38
  · rw [if_pos c, if_pos c, h3 _ (by omega)]
  rw [if_neg c, if_neg c]
theorem cnF_same {v0 v1 v2 v3 v4 u0 u1 u2 u3 u4 : Int32} {cl dd lw cl' dd' lw' : Nat → Int32} {w : Int32} (e0 : v0 = u0) (e1 : v1 = u1) (e2 : v2 = u2) (e3 : v3 = u3) (e4 : v4 = u4) (h1 : ∀ k, k < 3 → cl k = cl' k) (h2 : ∀ k, k < 10 → dd k = dd' k) (h3 : ∀ k, k < 8 → lw k = lw' k) : cnF v0 v1 v2 v3 v4 cl dd lw w = cnF u0 u1 u2 u3 u4 cl' dd' lw' w := by
  unfold cnF
  rw [e0, e1, e2, e3, e4, cnO_same h1 h2 h3]
theorem sub_n {w : Int32} {c : Int32} {k : Int} (hc : c.toInt = k) (h0 : k ≤ w.toInt) (h1 : 0 ≤ k) : (w - c).toInt = w.toInt - k := by
  have b := i32_rng w
  rw [i32_sub (by rw [hc]; omega) (by rw [hc]; omega), hc]
theorem rIn_t {w x y : Int32} (h : rIn w x y = true) : x.toInt ≤ w.toInt ∧ w.toInt ≤ y.toInt := by
  unfold rIn at h
  by_cases a : w.toInt < x.toInt
  · rw [decide_eq_true a] at h
    cases h
  · rw [decide_eq_false a] at h
    by_cases b : y.toInt < w.toInt
    · rw [decide_eq_true b] at h
      cases h
    · omega
theorem rIn_f {w x y : Int32} (h : rIn w x y = false) : ¬ (x.toInt ≤ w.toInt ∧ w.toInt ≤ y.toInt) := by
  unfold rIn at h
  intro q
  rw [decide_eq_false (show ¬ w.toInt < x.toInt by omega), decide_eq_false (show ¬ y.toInt < w.toInt by omega)] at h
  cases h
theorem cntO_en {w : Int32} {n d : Nat} {M : Mem} {r : Option Value} {M1 : Mem} (hS : Sh M) (hR : ∀ k, k < 3 → mSlot M 129 k = some (.ref (152 + 6 * k))) (h : En n d 147 0 (lv_args 0 [.ref 2, .int w]) [] M r M1) : r = some (.int (cnO (fun k => iv M (152 + 6 * k) 5) (fun k => iv M 4 k) (fun k => iv M 6 k) w)) ∧ M1 = M := by
  replace h := eIload (mi := 147) (pc := 0) (len := 1) (i := 1) rfl rfl h
  replace h := eConst (mi := 147) (pc := 1) (len := 2) (v := 10) rfl h
  rcases eIc (mi := 147) (pc := 3) (len := 3) (t := 25) rfl rfl h with ⟨c1, h⟩ | ⟨c1, h⟩
  · replace c1 : w.toInt < 10 := mC_lt.1 c1
    replace h := eIload (mi := 147) (pc := 25) (len := 1) (i := 1) rfl rfl h
    replace h := eConst (mi := 147) (pc := 26) (len := 2) (v := 20) rfl h
    rcases eIc (mi := 147) (pc := 28) (len := 3) (t := 50) rfl rfl h with ⟨c2, h⟩ | ⟨c2, h⟩
    · replace c2 : w.toInt < 20 := mC_lt.1 c2
      replace h := eIload (mi := 147) (pc := 50) (len := 1) (i := 1) rfl rfl h
      replace h := eConst (mi := 147) (pc := 51) (len := 2) (v := 30) rfl h
      rcases eIc (mi := 147) (pc := 53) (len := 3) (t := 75) rfl rfl h with ⟨c3, h⟩ | ⟨c3, h⟩
      · replace c3 : w.toInt < 30 := mC_lt.1 c3
        replace h := eConst (mi := 147) (pc := 75) (len := 1) (v := (-1)) rfl h
        obtain ⟨e1, e2⟩ := eRetI (mi := 147) (pc := 76) (len := 1) rfl h
        rw [e1]
        refine ⟨?_, e2⟩
        unfold cnO
        rw [if_neg (by omega), if_neg (by omega), if_neg (by omega)]
        rfl
      · replace c3 : ¬ w.toInt < 30 := mC_lt.2 c3
        replace h := eIload (mi := 147) (pc := 56) (len := 1) (i := 1) rfl rfl h
        replace h := eConst (mi := 147) (pc := 57) (len := 2) (v := 38) rfl h
        rcases eIc (mi := 147) (pc := 59) (len := 3) (t := 75) rfl rfl h with ⟨c4, h⟩ | ⟨c4, h⟩
        · replace c4 : ¬ w.toInt < 38 := mC_ge.1 c4
          replace h := eConst (mi := 147) (pc := 75) (len := 1) (v := (-1)) rfl h
          obtain ⟨e1, e2⟩ := eRetI (mi := 147) (pc := 76) (len := 1) rfl h
          rw [e1]
          refine ⟨?_, e2⟩
          unfold cnO
          rw [if_neg (by omega), if_neg (by omega), if_neg (by omega)]
          rfl
        · replace c4 : w.toInt < 38 := mC_ge.2 c4
          replace h := eAload (mi := 147) (pc := 62) (len := 1) (i := 0) rfl rfl h
          replace h := eGetR (a := 2) (j := 1000) (g := 3) hS (by decide) (by decide) rfl rfl rfl (mi := 147) (pc := 63) (len := 3) rfl h
          replace h := eGetR (a := 3) (j := 902) (g := 6) hS (by decide) (by decide) rfl rfl rfl (mi := 147) (pc := 66) (len := 3) rfl h
          replace h := eIload (mi := 147) (pc := 69) (len := 1) (i := 1) rfl rfl h
          replace h := eConst (mi := 147) (pc := 70) (len := 2) (v := 30) rfl h
          replace h := eSub (mi := 147) (pc := 72) (len := 1) rfl h
          obtain ⟨b5, h⟩ := eIald (x := (w - (30 : Int32))) hS (a := 6) (by decide) (by decide) rfl (mi := 147) (pc := 73) (len := 1) rfl h
          obtain ⟨e1, e2⟩ := eRetI (mi := 147) (pc := 74) (len := 1) rfl h
          rw [e1]
          refine ⟨?_, e2⟩
          rw [sub_n (w := w) (c := 30) (k := 30) (by decide) (by omega) (by omega)]
          unfold cnO
          rw [if_neg (by omega), if_neg (by omega), if_pos (by omega)]
    · replace c2 : ¬ w.toInt < 20 := mC_lt.2 c2
      replace h := eIload (mi := 147) (pc := 31) (len := 1) (i := 1) rfl rfl h
      replace h := eConst (mi := 147) (pc := 32) (len := 2) (v := 30) rfl h
      rcases eIc (mi := 147) (pc := 34) (len := 3) (t := 50) rfl rfl h with ⟨c6, h⟩ | ⟨c6, h⟩
      · replace c6 : ¬ w.toInt < 30 := mC_ge.1 c6
        replace h := eIload (mi := 147) (pc := 50) (len := 1) (i := 1) rfl rfl h
        replace h := eConst (mi := 147) (pc := 51) (len := 2) (v := 30) rfl h
        rcases eIc (mi := 147) (pc := 53) (len := 3) (t := 75) rfl rfl h with ⟨c7, h⟩ | ⟨c7, h⟩
        · replace c7 : w.toInt < 30 := mC_lt.1 c7
          replace h := eConst (mi := 147) (pc := 75) (len := 1) (v := (-1)) rfl h
          obtain ⟨e1, e2⟩ := eRetI (mi := 147) (pc := 76) (len := 1) rfl h
          rw [e1]
          refine ⟨?_, e2⟩
          unfold cnO
          rw [if_neg (by omega), if_neg (by omega), if_neg (by omega)]
          rfl
        · replace c7 : ¬ w.toInt < 30 := mC_lt.2 c7
          replace h := eIload (mi := 147) (pc := 56) (len := 1) (i := 1) rfl rfl h
          replace h := eConst (mi := 147) (pc := 57) (len := 2) (v := 38) rfl h
          rcases eIc (mi := 147) (pc := 59) (len := 3) (t := 75) rfl rfl h with ⟨c8, h⟩ | ⟨c8, h⟩
          · replace c8 : ¬ w.toInt < 38 := mC_ge.1 c8
            replace h := eConst (mi := 147) (pc := 75) (len := 1) (v := (-1)) rfl h
            obtain ⟨e1, e2⟩ := eRetI (mi := 147) (pc := 76) (len := 1) rfl h
            rw [e1]
            refine ⟨?_, e2⟩
            unfold cnO
            rw [if_neg (by omega), if_neg (by omega), if_neg (by omega)]
            rfl
          · replace c8 : w.toInt < 38 := mC_ge.2 c8
            replace h := eAload (mi := 147) (pc := 62) (len := 1) (i := 0) rfl rfl h
            replace h := eGetR (a := 2) (j := 1000) (g := 3) hS (by decide) (by decide) rfl rfl rfl (mi := 147) (pc := 63) (len := 3) rfl h
            replace h := eGetR (a := 3) (j := 902) (g := 6) hS (by decide) (by decide) rfl rfl rfl (mi := 147) (pc := 66) (len := 3) rfl h
            replace h := eIload (mi := 147) (pc := 69) (len := 1) (i := 1) rfl rfl h
            replace h := eConst (mi := 147) (pc := 70) (len := 2) (v := 30) rfl h
            replace h := eSub (mi := 147) (pc := 72) (len := 1) rfl h
            obtain ⟨b9, h⟩ := eIald (x := (w - (30 : Int32))) hS (a := 6) (by decide) (by decide) rfl (mi := 147) (pc := 73) (len := 1) rfl h
            obtain ⟨e1, e2⟩ := eRetI (mi := 147) (pc := 74) (len := 1) rfl h
            rw [e1]
            refine ⟨?_, e2⟩
            rw [sub_n (w := w) (c := 30) (k := 30) (by decide) (by omega) (by omega)]
            unfold cnO
            rw [if_neg (by omega), if_neg (by omega), if_pos (by omega)]
      · replace c6 : w.toInt < 30 := mC_ge.2 c6
        replace h := eAload (mi := 147) (pc := 37) (len := 1) (i := 0) rfl rfl h
        replace h := eGetR (a := 2) (j := 1000) (g := 3) hS (by decide) (by decide) rfl rfl rfl (mi := 147) (pc := 38) (len := 3) rfl h
        replace h := eGetR (a := 3) (j := 900) (g := 4) hS (by decide) (by decide) rfl rfl rfl (mi := 147) (pc := 41) (len := 3) rfl h
        replace h := eIload (mi := 147) (pc := 44) (len := 1) (i := 1) rfl rfl h
        replace h := eConst (mi := 147) (pc := 45) (len := 2) (v := 20) rfl h
        replace h := eSub (mi := 147) (pc := 47) (len := 1) rfl h
        obtain ⟨b10, h⟩ := eIald (x := (w - (20 : Int32))) hS (a := 4) (by decide) (by decide) rfl (mi := 147) (pc := 48) (len := 1) rfl h
        obtain ⟨e1, e2⟩ := eRetI (mi := 147) (pc := 49) (len := 1) rfl h
        rw [e1]
        refine ⟨?_, e2⟩
        rw [sub_n (w := w) (c := 20) (k := 20) (by decide) (by omega) (by omega)]
        unfold cnO
        rw [if_neg (by omega), if_pos (by omega)]
  · replace c1 : ¬ w.toInt < 10 := mC_lt.2 c1
    replace h := eIload (mi := 147) (pc := 6) (len := 1) (i := 1) rfl rfl h
    replace h := eConst (mi := 147) (pc := 7) (len := 2) (v := 13) rfl h
    rcases eIc (mi := 147) (pc := 9) (len := 3) (t := 25) rfl rfl h with ⟨c11, h⟩ | ⟨c11, h⟩
    · replace c11 : ¬ w.toInt < 13 := mC_ge.1 c11
      replace h := eIload (mi := 147) (pc := 25) (len := 1) (i := 1) rfl rfl h
      replace h := eConst (mi := 147) (pc := 26) (len := 2) (v := 20) rfl h
      rcases eIc (mi := 147) (pc := 28) (len := 3) (t := 50) rfl rfl h with ⟨c12, h⟩ | ⟨c12, h⟩
      · replace c12 : w.toInt < 20 := mC_lt.1 c12
        replace h := eIload (mi := 147) (pc := 50) (len := 1) (i := 1) rfl rfl h
        replace h := eConst (mi := 147) (pc := 51) (len := 2) (v := 30) rfl h
        rcases eIc (mi := 147) (pc := 53) (len := 3) (t := 75) rfl rfl h with ⟨c13, h⟩ | ⟨c13, h⟩
        · replace c13 : w.toInt < 30 := mC_lt.1 c13
          replace h := eConst (mi := 147) (pc := 75) (len := 1) (v := (-1)) rfl h
          obtain ⟨e1, e2⟩ := eRetI (mi := 147) (pc := 76) (len := 1) rfl h
          rw [e1]
          refine ⟨?_, e2⟩
          unfold cnO
          rw [if_neg (by omega), if_neg (by omega), if_neg (by omega)]
          rfl
        · replace c13 : ¬ w.toInt < 30 := mC_lt.2 c13
          replace h := eIload (mi := 147) (pc := 56) (len := 1) (i := 1) rfl rfl h
          replace h := eConst (mi := 147) (pc := 57) (len := 2) (v := 38) rfl h
          rcases eIc (mi := 147) (pc := 59) (len := 3) (t := 75) rfl rfl h with ⟨c14, h⟩ | ⟨c14, h⟩
          · replace c14 : ¬ w.toInt < 38 := mC_ge.1 c14
            replace h := eConst (mi := 147) (pc := 75) (len := 1) (v := (-1)) rfl h
            obtain ⟨e1, e2⟩ := eRetI (mi := 147) (pc := 76) (len := 1) rfl h
            rw [e1]
            refine ⟨?_, e2⟩
            unfold cnO
            rw [if_neg (by omega), if_neg (by omega), if_neg (by omega)]
            rfl
          · replace c14 : w.toInt < 38 := mC_ge.2 c14
            replace h := eAload (mi := 147) (pc := 62) (len := 1) (i := 0) rfl rfl h
            replace h := eGetR (a := 2) (j := 1000) (g := 3) hS (by decide) (by decide) rfl rfl rfl (mi := 147) (pc := 63) (len := 3) rfl h
            replace h := eGetR (a := 3) (j := 902) (g := 6) hS (by decide) (by decide) rfl rfl rfl (mi := 147) (pc := 66) (len := 3) rfl h
            replace h := eIload (mi := 147) (pc := 69) (len := 1) (i := 1) rfl rfl h
            replace h := eConst (mi := 147) (pc := 70) (len := 2) (v := 30) rfl h
            replace h := eSub (mi := 147) (pc := 72) (len := 1) rfl h
            obtain ⟨b15, h⟩ := eIald (x := (w - (30 : Int32))) hS (a := 6) (by decide) (by decide) rfl (mi := 147) (pc := 73) (len := 1) rfl h
            obtain ⟨e1, e2⟩ := eRetI (mi := 147) (pc := 74) (len := 1) rfl h
            rw [e1]
            refine ⟨?_, e2⟩
            rw [sub_n (w := w) (c := 30) (k := 30) (by decide) (by omega) (by omega)]
            unfold cnO
            rw [if_neg (by omega), if_neg (by omega), if_pos (by omega)]
      · replace c12 : ¬ w.toInt < 20 := mC_lt.2 c12
        replace h := eIload (mi := 147) (pc := 31) (len := 1) (i := 1) rfl rfl h
        replace h := eConst (mi := 147) (pc := 32) (len := 2) (v := 30) rfl h
        rcases eIc (mi := 147) (pc := 34) (len := 3) (t := 50) rfl rfl h with ⟨c16, h⟩ | ⟨c16, h⟩
        · replace c16 : ¬ w.toInt < 30 := mC_ge.1 c16
          replace h := eIload (mi := 147) (pc := 50) (len := 1) (i := 1) rfl rfl h
          replace h := eConst (mi := 147) (pc := 51) (len := 2) (v := 30) rfl h
          rcases eIc (mi := 147) (pc := 53) (len := 3) (t := 75) rfl rfl h with ⟨c17, h⟩ | ⟨c17, h⟩
          · replace c17 : w.toInt < 30 := mC_lt.1 c17
            replace h := eConst (mi := 147) (pc := 75) (len := 1) (v := (-1)) rfl h
            obtain ⟨e1, e2⟩ := eRetI (mi := 147) (pc := 76) (len := 1) rfl h
            rw [e1]
            refine ⟨?_, e2⟩
            unfold cnO
            rw [if_neg (by omega), if_neg (by omega), if_neg (by omega)]
            rfl
          · replace c17 : ¬ w.toInt < 30 := mC_lt.2 c17
            replace h := eIload (mi := 147) (pc := 56) (len := 1) (i := 1) rfl rfl h
            replace h := eConst (mi := 147) (pc := 57) (len := 2) (v := 38) rfl h
            rcases eIc (mi := 147) (pc := 59) (len := 3) (t := 75) rfl rfl h with ⟨c18, h⟩ | ⟨c18, h⟩
            · replace c18 : ¬ w.toInt < 38 := mC_ge.1 c18
              replace h := eConst (mi := 147) (pc := 75) (len := 1) (v := (-1)) rfl h
              obtain ⟨e1, e2⟩ := eRetI (mi := 147) (pc := 76) (len := 1) rfl h
              rw [e1]
              refine ⟨?_, e2⟩
              unfold cnO
              rw [if_neg (by omega), if_neg (by omega), if_neg (by omega)]
              rfl
            · replace c18 : w.toInt < 38 := mC_ge.2 c18
              replace h := eAload (mi := 147) (pc := 62) (len := 1) (i := 0) rfl rfl h
              replace h := eGetR (a := 2) (j := 1000) (g := 3) hS (by decide) (by decide) rfl rfl rfl (mi := 147) (pc := 63) (len := 3) rfl h
              replace h := eGetR (a := 3) (j := 902) (g := 6) hS (by decide) (by decide) rfl rfl rfl (mi := 147) (pc := 66) (len := 3) rfl h
              replace h := eIload (mi := 147) (pc := 69) (len := 1) (i := 1) rfl rfl h
              replace h := eConst (mi := 147) (pc := 70) (len := 2) (v := 30) rfl h
              replace h := eSub (mi := 147) (pc := 72) (len := 1) rfl h
              obtain ⟨b19, h⟩ := eIald (x := (w - (30 : Int32))) hS (a := 6) (by decide) (by decide) rfl (mi := 147) (pc := 73) (len := 1) rfl h
              obtain ⟨e1, e2⟩ := eRetI (mi := 147) (pc := 74) (len := 1) rfl h
              rw [e1]
              refine ⟨?_, e2⟩
              rw [sub_n (w := w) (c := 30) (k := 30) (by decide) (by omega) (by omega)]
              unfold cnO
              rw [if_neg (by omega), if_neg (by omega), if_pos (by omega)]
        · replace c16 : w.toInt < 30 := mC_ge.2 c16
          replace h := eAload (mi := 147) (pc := 37) (len := 1) (i := 0) rfl rfl h
          replace h := eGetR (a := 2) (j := 1000) (g := 3) hS (by decide) (by decide) rfl rfl rfl (mi := 147) (pc := 38) (len := 3) rfl h
          replace h := eGetR (a := 3) (j := 900) (g := 4) hS (by decide) (by decide) rfl rfl rfl (mi := 147) (pc := 41) (len := 3) rfl h
          replace h := eIload (mi := 147) (pc := 44) (len := 1) (i := 1) rfl rfl h
          replace h := eConst (mi := 147) (pc := 45) (len := 2) (v := 20) rfl h
          replace h := eSub (mi := 147) (pc := 47) (len := 1) rfl h
          obtain ⟨b20, h⟩ := eIald (x := (w - (20 : Int32))) hS (a := 4) (by decide) (by decide) rfl (mi := 147) (pc := 48) (len := 1) rfl h
          obtain ⟨e1, e2⟩ := eRetI (mi := 147) (pc := 49) (len := 1) rfl h
          rw [e1]
          refine ⟨?_, e2⟩
          rw [sub_n (w := w) (c := 20) (k := 20) (by decide) (by omega) (by omega)]
          unfold cnO
          rw [if_neg (by omega), if_pos (by omega)]
    · replace c11 : w.toInt < 13 := mC_ge.2 c11
      replace h := eAload (mi := 147) (pc := 12) (len := 1) (i := 0) rfl rfl h
      replace h := eGetR (a := 2) (j := 1006) (g := 129) hS (by decide) (by decide) rfl rfl rfl (mi := 147) (pc := 13) (len := 3) rfl h
      replace h := eIload (mi := 147) (pc := 16) (len := 1) (i := 1) rfl rfl h
      replace h := eConst (mi := 147) (pc := 17) (len := 2) (v := 10) rfl h
      replace h := eSub (mi := 147) (pc := 19) (len := 1) rfl h
      obtain ⟨⟨b0, b1⟩, h⟩ := eLwr (x := (w - (10 : Int32))) hS hR (mi := 147) (pc := 20) (len := 1) rfl h
      have es := sub_n (w := w) (c := 10) (k := 10) (by decide) (by omega) (by omega)
      have hv : (w.toInt - 10).toNat < 3 := by omega
      have ev : ∀ k, k < 3 → (w.toInt - 10).toNat = k → r = some (.int (iv M (152 + 6 * k) 5)) → M1 = M → r = some (.int (cnO (fun k => iv M (152 + 6 * k) 5) (fun k => iv M 4 k) (fun k => iv M 6 k) w)) ∧ M1 = M := fun k hk ek h1 h2 => by
        refine ⟨?_, h2⟩
        rw [h1]
        unfold cnO
        rw [if_pos (by omega), ek]
      have e3 : (w.toInt - 10).toNat = 0 ∨ (w.toInt - 10).toNat = 1 ∨ (w.toInt - 10).toNat = 2 := by omega
      rw [es] at h
      rcases e3 with ek | ek | ek
      · rw [ek] at h
        replace h := eGetI (a := 152) (j := 405) hS (by decide) (by decide) rfl (mi := 147) (pc := 21) (len := 3) rfl h
        obtain ⟨e1, e2⟩ := eRetI (mi := 147) (pc := 24) (len := 1) rfl h
        exact ev 0 (by decide) ek e1 e2
      · rw [ek] at h
        replace h := eGetI (a := 158) (j := 405) hS (by decide) (by decide) rfl (mi := 147) (pc := 21) (len := 3) rfl h
        obtain ⟨e1, e2⟩ := eRetI (mi := 147) (pc := 24) (len := 1) rfl h
        exact ev 1 (by decide) ek e1 e2
      · rw [ek] at h
        replace h := eGetI (a := 164) (j := 405) hS (by decide) (by decide) rfl (mi := 147) (pc := 21) (len := 3) rfl h
        obtain ⟨e1, e2⟩ := eRetI (mi := 147) (pc := 24) (len := 1) rfl h
        exact ev 2 (by decide) ek e1 e2
theorem cntC_en {w : Int32} {n d : Nat} {M : Mem} {r : Option Value} {M1 : Mem} (hS : Sh M) (hR : ∀ k, k < 3 → mSlot M 129 k = some (.ref (152 + 6 * k))) (h : En n d 146 0 (lv_args 0 [.ref 2, .int w]) [] M r M1) : r = some (.int (cnF (iv M 7 2) (iv M 93 3) (iv M 93 6) (iv M 127 1) (iv M 2 11) (fun k => iv M (152 + 6 * k) 5) (fun k => iv M 4 k) (fun k => iv M 6 k) w)) ∧ M1 = M := by
  replace h := eIload (mi := 146) (pc := 0) (len := 1) (i := 1) rfl rfl h
  by_cases c0 : w.toInt = 0
  · replace h := eTsw (mi := 146) (pc := 1) (len := 35) (o := 35) (t := 36) rfl (by rw [c0]; decide) rfl h
    replace h := eAload (mi := 146) (pc := 36) (len := 1) (i := 0) rfl rfl h
    replace h := eGetR (a := 2) (j := 1001) (g := 7) hS (by decide) (by decide) rfl rfl rfl (mi := 146) (pc := 37) (len := 3) rfl h
    replace h := eGetI (a := 7) (j := 602) hS (by decide) (by decide) rfl (mi := 146) (pc := 40) (len := 3) rfl h
    obtain ⟨e1, e2⟩ := eRetI (mi := 146) (pc := 43) (len := 1) rfl h
    refine ⟨?_, e2⟩
    rw [e1]
    unfold cnF
    rw [if_pos (by omega)]
  by_cases c1 : w.toInt = 1
  · replace h := eTsw (mi := 146) (pc := 1) (len := 35) (o := 43) (t := 44) rfl (by rw [c1]; decide) rfl h
    replace h := eAload (mi := 146) (pc := 44) (len := 1) (i := 0) rfl rfl h
    replace h := eGetR (a := 2) (j := 1003) (g := 93) hS (by decide) (by decide) rfl rfl rfl (mi := 146) (pc := 45) (len := 3) rfl h
    replace h := eGetI (a := 93) (j := 303) hS (by decide) (by decide) rfl (mi := 146) (pc := 48) (len := 3) rfl h
    obtain ⟨e1, e2⟩ := eRetI (mi := 146) (pc := 51) (len := 1) rfl h
    refine ⟨?_, e2⟩
    rw [e1]
    unfold cnF
    rw [if_neg (by omega), if_pos (by omega)]
  by_cases c2 : w.toInt = 2
  · replace h := eTsw (mi := 146) (pc := 1) (len := 35) (o := 51) (t := 52) rfl (by rw [c2]; decide) rfl h
    replace h := eAload (mi := 146) (pc := 52) (len := 1) (i := 0) rfl rfl h
    replace h := eGetR (a := 2) (j := 1003) (g := 93) hS (by decide) (by decide) rfl rfl rfl (mi := 146) (pc := 53) (len := 3) rfl h
    replace h := eGetI (a := 93) (j := 306) hS (by decide) (by decide) rfl (mi := 146) (pc := 56) (len := 3) rfl h
    obtain ⟨e1, e2⟩ := eRetI (mi := 146) (pc := 59) (len := 1) rfl h
    refine ⟨?_, e2⟩
    rw [e1]
    unfold cnF
    rw [if_neg (by omega), if_neg (by omega), if_pos (by omega)]
  by_cases c3 : w.toInt = 3
  · replace h := eTsw (mi := 146) (pc := 1) (len := 35) (o := 59) (t := 60) rfl (by rw [c3]; decide) rfl h
    replace h := eAload (mi := 146) (pc := 60) (len := 1) (i := 0) rfl rfl h
    replace h := eGetR (a := 2) (j := 1005) (g := 127) hS (by decide) (by decide) rfl rfl rfl (mi := 146) (pc := 61) (len := 3) rfl h
    replace h := eGetI (a := 127) (j := 801) hS (by decide) (by decide) rfl (mi := 146) (pc := 64) (len := 3) rfl h
    obtain ⟨e1, e2⟩ := eRetI (mi := 146) (pc := 67) (len := 1) rfl h
    refine ⟨?_, e2⟩
    rw [e1]
    unfold cnF
    rw [if_neg (by omega), if_neg (by omega), if_neg (by omega), if_pos (by omega)]
  by_cases c4 : w.toInt = 4
  · replace h := eTsw (mi := 146) (pc := 1) (len := 35) (o := 67) (t := 68) rfl (by rw [c4]; decide) rfl h
    replace h := eAload (mi := 146) (pc := 68) (len := 1) (i := 0) rfl rfl h
    replace h := eGetI (a := 2) (j := 1011) hS (by decide) (by decide) rfl (mi := 146) (pc := 69) (len := 3) rfl h
    obtain ⟨e1, e2⟩ := eRetI (mi := 146) (pc := 72) (len := 1) rfl h
    refine ⟨?_, e2⟩
    rw [e1]
    unfold cnF
    rw [if_neg (by omega), if_neg (by omega), if_neg (by omega), if_neg (by omega), if_pos (by omega)]
  replace h := eTsw (mi := 146) (pc := 1) (len := 35) (o := 72) (t := 73) rfl (if_pos (by omega)) rfl h
  have eF : cnF (iv M 7 2) (iv M 93 3) (iv M 93 6) (iv M 127 1) (iv M 2 11) (fun k => iv M (152 + 6 * k) 5) (fun k => iv M 4 k) (fun k => iv M 6 k) w = cnO (fun k => iv M (152 + 6 * k) 5) (fun k => iv M 4 k) (fun k => iv M 6 k) w := by unfold cnF; rw [if_neg c0, if_neg c1, if_neg c2, if_neg c3, if_neg c4]
  rw [eF]
  replace h := eAload (mi := 146) (pc := 73) (len := 1) (i := 0) rfl rfl h
  replace h := eIload (mi := 146) (pc := 74) (len := 1) (i := 1) rfl rfl h
  obtain ⟨r5, N6, g7, h⟩ := eCall (mi := 146) (pc := 75) (len := 3) (j := 147) (as := [.ref 2, .int w]) (rest := []) rfl (Or.inr (Or.inl rfl)) (by decide) rfl rfl h
  obtain ⟨e3, e4⟩ := cntO_en hS hR g7
  rw [e3, e4] at h
  exact eRetI (mi := 146) (pc := 78) (len := 1) rfl h
theorem cntR_en {w : Int32} {n d : Nat} {M : Mem} {r : Option Value} {M1 : Mem} (hS : Sh M) (h : En n d 277 0 (lv_args 0 [.ref 181, .int w]) [] M r M1) : r = some (.int (cnF (iv M 181 0) (iv M 181 15) (iv M 181 16) (iv M 181 25) (iv M 181 1) (fun k => iv M 210 k) (fun k => iv M 182 k) (fun k => iv M 184 k) w)) ∧ M1 = M := by
  replace h := eIload (mi := 277) (pc := 0) (len := 1) (i := 1) rfl rfl h
  by_cases c0 : w.toInt = 0
  · replace h := eTsw (mi := 277) (pc := 1) (len := 35) (o := 35) (t := 36) rfl (by rw [c0]; decide) rfl h
    replace h := eAload (mi := 277) (pc := 36) (len := 1) (i := 0) rfl rfl h
    replace h := eGetI (a := 181) (j := 1100) hS (by decide) (by decide) rfl (mi := 277) (pc := 37) (len := 3) rfl h
    obtain ⟨e1, e2⟩ := eRetI (mi := 277) (pc := 40) (len := 1) rfl h
    refine ⟨?_, e2⟩
    rw [e1]
    unfold cnF
    rw [if_pos (by omega)]
  by_cases c1 : w.toInt = 1
  · replace h := eTsw (mi := 277) (pc := 1) (len := 35) (o := 40) (t := 41) rfl (by rw [c1]; decide) rfl h
    replace h := eAload (mi := 277) (pc := 41) (len := 1) (i := 0) rfl rfl h
    replace h := eGetI (a := 181) (j := 1115) hS (by decide) (by decide) rfl (mi := 277) (pc := 42) (len := 3) rfl h
    obtain ⟨e1, e2⟩ := eRetI (mi := 277) (pc := 45) (len := 1) rfl h
    refine ⟨?_, e2⟩
    rw [e1]
    unfold cnF
    rw [if_neg (by omega), if_pos (by omega)]
  by_cases c2 : w.toInt = 2
  · replace h := eTsw (mi := 277) (pc := 1) (len := 35) (o := 45) (t := 46) rfl (by rw [c2]; decide) rfl h
    replace h := eAload (mi := 277) (pc := 46) (len := 1) (i := 0) rfl rfl h
    replace h := eGetI (a := 181) (j := 1116) hS (by decide) (by decide) rfl (mi := 277) (pc := 47) (len := 3) rfl h
    obtain ⟨e1, e2⟩ := eRetI (mi := 277) (pc := 50) (len := 1) rfl h
    refine ⟨?_, e2⟩
    rw [e1]
    unfold cnF
    rw [if_neg (by omega), if_neg (by omega), if_pos (by omega)]
  by_cases c3 : w.toInt = 3
  · replace h := eTsw (mi := 277) (pc := 1) (len := 35) (o := 50) (t := 51) rfl (by rw [c3]; decide) rfl h
    replace h := eAload (mi := 277) (pc := 51) (len := 1) (i := 0) rfl rfl h
    replace h := eGetI (a := 181) (j := 1125) hS (by decide) (by decide) rfl (mi := 277) (pc := 52) (len := 3) rfl h
    obtain ⟨e1, e2⟩ := eRetI (mi := 277) (pc := 55) (len := 1) rfl h
    refine ⟨?_, e2⟩
    rw [e1]
    unfold cnF
    rw [if_neg (by omega), if_neg (by omega), if_neg (by omega), if_pos (by omega)]
  by_cases c4 : w.toInt = 4
  · replace h := eTsw (mi := 277) (pc := 1) (len := 35) (o := 55) (t := 56) rfl (by rw [c4]; decide) rfl h
    replace h := eAload (mi := 277) (pc := 56) (len := 1) (i := 0) rfl rfl h
    replace h := eGetI (a := 181) (j := 1101) hS (by decide) (by decide) rfl (mi := 277) (pc := 57) (len := 3) rfl h
    obtain ⟨e1, e2⟩ := eRetI (mi := 277) (pc := 60) (len := 1) rfl h
    refine ⟨?_, e2⟩
    rw [e1]
    unfold cnF
    rw [if_neg (by omega), if_neg (by omega), if_neg (by omega), if_neg (by omega), if_pos (by omega)]
  replace h := eTsw (mi := 277) (pc := 1) (len := 35) (o := 60) (t := 61) rfl (if_pos (by omega)) rfl h
  have eF : cnF (iv M 181 0) (iv M 181 15) (iv M 181 16) (iv M 181 25) (iv M 181 1) (fun k => iv M 210 k) (fun k => iv M 182 k) (fun k => iv M 184 k) w = cnO (fun k => iv M 210 k) (fun k => iv M 182 k) (fun k => iv M 184 k) w := by unfold cnF; rw [if_neg c0, if_neg c1, if_neg c2, if_neg c3, if_neg c4]
  rw [eF]
  replace h := eIload (mi := 277) (pc := 61) (len := 1) (i := 1) rfl rfl h
  replace h := eConst (mi := 277) (pc := 62) (len := 2) (v := 10) rfl h
  replace h := eConst (mi := 277) (pc := 64) (len := 2) (v := 12) rfl h
  replace h := eCallP (mi := 277) (pc := 66) (len := 3) (j := 160) (as := [.int w, .int (10 : Int32), .int (12 : Int32)]) (rest := []) rfl (Or.inl rfl) (by decide) rfl rfl (fun _ _ _ _ g => rIn_en hS g) h
  rcases eIf (mi := 277) (pc := 69) (len := 3) (t := 82) rfl rfl h with ⟨c1, h⟩ | ⟨c1, h⟩
  · replace c1 : rIn w (10 : Int32) (12 : Int32) = false := mB_eq.1 c1; replace c1 : ¬ (10 ≤ w.toInt ∧ w.toInt ≤ 12) := rIn_f c1
    replace h := eIload (mi := 277) (pc := 82) (len := 1) (i := 1) rfl rfl h
    replace h := eConst (mi := 277) (pc := 83) (len := 2) (v := 20) rfl h
    replace h := eConst (mi := 277) (pc := 85) (len := 2) (v := 29) rfl h
    replace h := eCallP (mi := 277) (pc := 87) (len := 3) (j := 160) (as := [.int w, .int (20 : Int32), .int (29 : Int32)]) (rest := []) rfl (Or.inl rfl) (by decide) rfl rfl (fun _ _ _ _ g => rIn_en hS g) h
    rcases eIf (mi := 277) (pc := 90) (len := 3) (t := 103) rfl rfl h with ⟨c2, h⟩ | ⟨c2, h⟩
    · replace c2 : rIn w (20 : Int32) (29 : Int32) = false := mB_eq.1 c2; replace c2 : ¬ (20 ≤ w.toInt ∧ w.toInt ≤ 29) := rIn_f c2
      replace h := eIload (mi := 277) (pc := 103) (len := 1) (i := 1) rfl rfl h
      replace h := eConst (mi := 277) (pc := 104) (len := 2) (v := 30) rfl h
      replace h := eConst (mi := 277) (pc := 106) (len := 2) (v := 37) rfl h
      replace h := eCallP (mi := 277) (pc := 108) (len := 3) (j := 160) (as := [.int w, .int (30 : Int32), .int (37 : Int32)]) (rest := []) rfl (Or.inl rfl) (by decide) rfl rfl (fun _ _ _ _ g => rIn_en hS g) h
      rcases eIf (mi := 277) (pc := 111) (len := 3) (t := 126) rfl rfl h with ⟨c3, h⟩ | ⟨c3, h⟩
      · replace c3 : rIn w (30 : Int32) (37 : Int32) = false := mB_eq.1 c3; replace c3 : ¬ (30 ≤ w.toInt ∧ w.toInt ≤ 37) := rIn_f c3
        replace h := eConst (mi := 277) (pc := 126) (len := 1) (v := (-1)) rfl h
        obtain ⟨e1, e2⟩ := eRetI (mi := 277) (pc := 127) (len := 1) rfl h
        rw [e1]
        refine ⟨?_, e2⟩
        unfold cnO
        rw [if_neg (by omega), if_neg (by omega), if_neg (by omega)]
        rfl
      · replace c3 : rIn w (30 : Int32) (37 : Int32) = true := mB_eq.2 c3; replace c3 : 30 ≤ w.toInt ∧ w.toInt ≤ 37 := rIn_t c3
        replace h := eAload (mi := 277) (pc := 114) (len := 1) (i := 0) rfl rfl h
        replace h := eGetR (a := 181) (j := 1104) (g := 184) hS (by decide) (by decide) rfl rfl rfl (mi := 277) (pc := 115) (len := 3) rfl h
        replace h := eIload (mi := 277) (pc := 118) (len := 1) (i := 1) rfl rfl h
        replace h := eConst (mi := 277) (pc := 119) (len := 2) (v := 30) rfl h
        replace h := eSub (mi := 277) (pc := 121) (len := 1) rfl h
        obtain ⟨b4, h⟩ := eIald (x := (w - (30 : Int32))) hS (a := 184) (by decide) (by decide) rfl (mi := 277) (pc := 122) (len := 1) rfl h
        replace h := eGoto (mi := 277) (pc := 123) (len := 3) (t := 127) rfl rfl h
        obtain ⟨e1, e2⟩ := eRetI (mi := 277) (pc := 127) (len := 1) rfl h
        rw [e1]
        refine ⟨?_, e2⟩
        rw [sub_n (w := w) (c := 30) (k := 30) (by decide) (by omega) (by omega)]
        unfold cnO
        rw [if_neg (by omega), if_neg (by omega), if_pos (by omega)]
    · replace c2 : rIn w (20 : Int32) (29 : Int32) = true := mB_eq.2 c2; replace c2 : 20 ≤ w.toInt ∧ w.toInt ≤ 29 := rIn_t c2
      replace h := eAload (mi := 277) (pc := 93) (len := 1) (i := 0) rfl rfl h
      replace h := eGetR (a := 181) (j := 1102) (g := 182) hS (by decide) (by decide) rfl rfl rfl (mi := 277) (pc := 94) (len := 3) rfl h
      replace h := eIload (mi := 277) (pc := 97) (len := 1) (i := 1) rfl rfl h
      replace h := eConst (mi := 277) (pc := 98) (len := 2) (v := 20) rfl h
      replace h := eSub (mi := 277) (pc := 100) (len := 1) rfl h
      obtain ⟨b5, h⟩ := eIald (x := (w - (20 : Int32))) hS (a := 182) (by decide) (by decide) rfl (mi := 277) (pc := 101) (len := 1) rfl h
      obtain ⟨e1, e2⟩ := eRetI (mi := 277) (pc := 102) (len := 1) rfl h
      rw [e1]
      refine ⟨?_, e2⟩
      rw [sub_n (w := w) (c := 20) (k := 20) (by decide) (by omega) (by omega)]
      unfold cnO
      rw [if_neg (by omega), if_pos (by omega)]
  · replace c1 : rIn w (10 : Int32) (12 : Int32) = true := mB_eq.2 c1; replace c1 : 10 ≤ w.toInt ∧ w.toInt ≤ 12 := rIn_t c1
    replace h := eAload (mi := 277) (pc := 72) (len := 1) (i := 0) rfl rfl h
    replace h := eGetR (a := 181) (j := 1141) (g := 210) hS (by decide) (by decide) rfl rfl rfl (mi := 277) (pc := 73) (len := 3) rfl h
    replace h := eIload (mi := 277) (pc := 76) (len := 1) (i := 1) rfl rfl h
    replace h := eConst (mi := 277) (pc := 77) (len := 2) (v := 10) rfl h
    replace h := eSub (mi := 277) (pc := 79) (len := 1) rfl h
    obtain ⟨b6, h⟩ := eIald (x := (w - (10 : Int32))) hS (a := 210) (by decide) (by decide) rfl (mi := 277) (pc := 80) (len := 1) rfl h
    obtain ⟨e1, e2⟩ := eRetI (mi := 277) (pc := 81) (len := 1) rfl h
    rw [e1]
    refine ⟨?_, e2⟩
    rw [sub_n (w := w) (c := 10) (k := 10) (by decide) (by omega) (by omega)]
    unfold cnO
    rw [if_pos (by omega)]

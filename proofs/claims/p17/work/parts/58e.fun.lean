/-! the reference: what is asked of deeds (printed by fn.py) -/
/-- WidowDeedsModel.in -/
def rIn (v : Int32) (x : Int32) (y : Int32) : Bool := (bif decide (v.toInt < x.toInt) then false else (bif decide (y.toInt < v.toInt) then false else true))
theorem rIn_en {v : Int32} {x : Int32} {y : Int32} {n d : Nat} {M : Mem} {r : Option Value} {M1 : Mem} (hS : Sh M) (h : En n d 160 0 (lv_args 0 [.int v, .int x, .int y]) [] M r M1) : r = some (.int (b2 (rIn v x y))) ∧ M1 = M := by
  replace h := eIload (mi := 160) (pc := 0) (len := 1) (i := 0) rfl rfl h
  replace h := eIload (mi := 160) (pc := 1) (len := 1) (i := 1) rfl rfl h
  rcases eIc (mi := 160) (pc := 2) (len := 3) (t := 14) rfl rfl h with ⟨c1, h⟩ | ⟨c1, h⟩
  · replace c1 : v.toInt < x.toInt := mC_lt.1 c1
    replace h := eConst (mi := 160) (pc := 14) (len := 1) (v := 0) rfl h
    obtain ⟨e1, e2⟩ := eRetI (mi := 160) (pc := 15) (len := 1) rfl h
    have e3 : rIn v x y = false := by
      unfold rIn
      simp only [decide_eq_true c1, cond_true, cond_false]
    rw [e3]
    exact ⟨e1, e2⟩
  · replace c1 : ¬ v.toInt < x.toInt := mC_lt.2 c1
    replace h := eIload (mi := 160) (pc := 5) (len := 1) (i := 0) rfl rfl h
    replace h := eIload (mi := 160) (pc := 6) (len := 1) (i := 2) rfl rfl h
    rcases eIc (mi := 160) (pc := 7) (len := 3) (t := 14) rfl rfl h with ⟨c2, h⟩ | ⟨c2, h⟩
    · replace c2 : y.toInt < v.toInt := mC_gt.1 c2
      replace h := eConst (mi := 160) (pc := 14) (len := 1) (v := 0) rfl h
      obtain ⟨e1, e2⟩ := eRetI (mi := 160) (pc := 15) (len := 1) rfl h
      have e3 : rIn v x y = false := by
        unfold rIn
        simp only [decide_eq_false c1, decide_eq_true c2, cond_true, cond_false]
      rw [e3]
      exact ⟨e1, e2⟩
    · replace c2 : ¬ y.toInt < v.toInt := mC_gt.2 c2
      replace h := eConst (mi := 160) (pc := 10) (len := 1) (v := 1) rfl h
      replace h := eGoto (mi := 160) (pc := 11) (len := 3) (t := 15) rfl rfl h
      obtain ⟨e1, e2⟩ := eRetI (mi := 160) (pc := 15) (len := 1) rfl h
      have e3 : rIn v x y = true := by
        unfold rIn
        simp only [decide_eq_false c1, decide_eq_false c2, cond_true, cond_false]
      rw [e3]
      exact ⟨e1, e2⟩
/-- WidowDeedsModel.isDay -/
def rDay (x : Int32) : Bool := (bif decide (x.toInt < 0) then false else (bif decide (999 < x.toInt) then false else true))
theorem rDay_en {x : Int32} {n d : Nat} {M : Mem} {r : Option Value} {M1 : Mem} (hS : Sh M) (h : En n d 161 0 (lv_args 0 [.int x]) [] M r M1) : r = some (.int (b2 (rDay x))) ∧ M1 = M := by
  replace h := eIload (mi := 161) (pc := 0) (len := 1) (i := 0) rfl rfl h
  rcases eIf (mi := 161) (pc := 1) (len := 3) (t := 15) rfl rfl h with ⟨c1, h⟩ | ⟨c1, h⟩
  · replace c1 : x.toInt < 0 := mC_lt.1 c1
    replace h := eConst (mi := 161) (pc := 15) (len := 1) (v := 0) rfl h
    obtain ⟨e1, e2⟩ := eRetI (mi := 161) (pc := 16) (len := 1) rfl h
    have e3 : rDay x = false := by
      unfold rDay
      simp only [decide_eq_true c1, cond_true, cond_false]
    rw [e3]
    exact ⟨e1, e2⟩
  · replace c1 : ¬ x.toInt < 0 := mC_lt.2 c1
    replace h := eIload (mi := 161) (pc := 4) (len := 1) (i := 0) rfl rfl h
    replace h := eConst (mi := 161) (pc := 5) (len := 3) (v := 999) rfl h
    rcases eIc (mi := 161) (pc := 8) (len := 3) (t := 15) rfl rfl h with ⟨c2, h⟩ | ⟨c2, h⟩
    · replace c2 : 999 < x.toInt := mC_gt.1 c2
      replace h := eConst (mi := 161) (pc := 15) (len := 1) (v := 0) rfl h
      obtain ⟨e1, e2⟩ := eRetI (mi := 161) (pc := 16) (len := 1) rfl h
      have e3 : rDay x = false := by
        unfold rDay
        simp only [decide_eq_false c1, decide_eq_true c2, cond_true, cond_false]
      rw [e3]
      exact ⟨e1, e2⟩
    · replace c2 : ¬ 999 < x.toInt := mC_gt.2 c2
      replace h := eConst (mi := 161) (pc := 11) (len := 1) (v := 1) rfl h
      replace h := eGoto (mi := 161) (pc := 12) (len := 3) (t := 16) rfl rfl h
      obtain ⟨e1, e2⟩ := eRetI (mi := 161) (pc := 16) (len := 1) rfl h
      have e3 : rDay x = true := by
        unfold rDay
        simp only [decide_eq_false c1, decide_eq_false c2, cond_true, cond_false]
      rw [e3]
      exact ⟨e1, e2⟩
/-- WidowDeedsModel.isPerson -/
def rPer (x : Int32) : Bool := (bif decide (x.toInt < 0) then false else (bif decide (x.toInt < 10) then true else false))
theorem rPer_en {x : Int32} {n d : Nat} {M : Mem} {r : Option Value} {M1 : Mem} (hS : Sh M) (h : En n d 162 0 (lv_args 0 [.int x]) [] M r M1) : r = some (.int (b2 (rPer x))) ∧ M1 = M := by
  replace h := eIload (mi := 162) (pc := 0) (len := 1) (i := 0) rfl rfl h
  rcases eIf (mi := 162) (pc := 1) (len := 3) (t := 14) rfl rfl h with ⟨c1, h⟩ | ⟨c1, h⟩
  · replace c1 : x.toInt < 0 := mC_lt.1 c1
    replace h := eConst (mi := 162) (pc := 14) (len := 1) (v := 0) rfl h
    obtain ⟨e1, e2⟩ := eRetI (mi := 162) (pc := 15) (len := 1) rfl h
    have e3 : rPer x = false := by
      unfold rPer
      simp only [decide_eq_true c1, cond_true, cond_false]
    rw [e3]
    exact ⟨e1, e2⟩
  · replace c1 : ¬ x.toInt < 0 := mC_lt.2 c1
    replace h := eIload (mi := 162) (pc := 4) (len := 1) (i := 0) rfl rfl h
    replace h := eConst (mi := 162) (pc := 5) (len := 2) (v := 10) rfl h
    rcases eIc (mi := 162) (pc := 7) (len := 3) (t := 14) rfl rfl h with ⟨c2, h⟩ | ⟨c2, h⟩
    · replace c2 : ¬ x.toInt < 10 := mC_ge.1 c2
      replace h := eConst (mi := 162) (pc := 14) (len := 1) (v := 0) rfl h
      obtain ⟨e1, e2⟩ := eRetI (mi := 162) (pc := 15) (len := 1) rfl h
      have e3 : rPer x = false := by
        unfold rPer
        simp only [decide_eq_false c1, decide_eq_false c2, cond_true, cond_false]
      rw [e3]
      exact ⟨e1, e2⟩
    · replace c2 : x.toInt < 10 := mC_ge.2 c2
      replace h := eConst (mi := 162) (pc := 10) (len := 1) (v := 1) rfl h
      replace h := eGoto (mi := 162) (pc := 11) (len := 3) (t := 15) rfl rfl h
      obtain ⟨e1, e2⟩ := eRetI (mi := 162) (pc := 15) (len := 1) rfl h
      have e3 : rPer x = true := by
        unfold rPer
        simp only [decide_eq_false c1, decide_eq_true c2, cond_true, cond_false]
      rw [e3]
      exact ⟨e1, e2⟩
/-- WidowDeedsModel.isStrip -/
def rStr (x : Int32) : Bool := (bif decide (x.toInt < 0) then false else (bif decide (x.toInt < 8) then true else false))
theorem rStr_en {x : Int32} {n d : Nat} {M : Mem} {r : Option Value} {M1 : Mem} (hS : Sh M) (h : En n d 163 0 (lv_args 0 [.int x]) [] M r M1) : r = some (.int (b2 (rStr x))) ∧ M1 = M := by
  replace h := eIload (mi := 163) (pc := 0) (len := 1) (i := 0) rfl rfl h
  rcases eIf (mi := 163) (pc := 1) (len := 3) (t := 14) rfl rfl h with ⟨c1, h⟩ | ⟨c1, h⟩
  · replace c1 : x.toInt < 0 := mC_lt.1 c1
    replace h := eConst (mi := 163) (pc := 14) (len := 1) (v := 0) rfl h
    obtain ⟨e1, e2⟩ := eRetI (mi := 163) (pc := 15) (len := 1) rfl h
    have e3 : rStr x = false := by
      unfold rStr
      simp only [decide_eq_true c1, cond_true, cond_false]
    rw [e3]
    exact ⟨e1, e2⟩
  · replace c1 : ¬ x.toInt < 0 := mC_lt.2 c1
    replace h := eIload (mi := 163) (pc := 4) (len := 1) (i := 0) rfl rfl h
    replace h := eConst (mi := 163) (pc := 5) (len := 2) (v := 8) rfl h
    rcases eIc (mi := 163) (pc := 7) (len := 3) (t := 14) rfl rfl h with ⟨c2, h⟩ | ⟨c2, h⟩
    · replace c2 : ¬ x.toInt < 8 := mC_ge.1 c2
      replace h := eConst (mi := 163) (pc := 14) (len := 1) (v := 0) rfl h
      obtain ⟨e1, e2⟩ := eRetI (mi := 163) (pc := 15) (len := 1) rfl h
      have e3 : rStr x = false := by
        unfold rStr
        simp only [decide_eq_false c1, decide_eq_false c2, cond_true, cond_false]
      rw [e3]
      exact ⟨e1, e2⟩
    · replace c2 : x.toInt < 8 := mC_ge.2 c2
      replace h := eConst (mi := 163) (pc := 10) (len := 1) (v := 1) rfl h
      replace h := eGoto (mi := 163) (pc := 11) (len := 3) (t := 15) rfl rfl h
      obtain ⟨e1, e2⟩ := eRetI (mi := 163) (pc := 15) (len := 1) rfl h
      have e3 : rStr x = true := by
        unfold rStr
        simp only [decide_eq_false c1, decide_eq_true c2, cond_true, cond_false]
      rw [e3]
      exact ⟨e1, e2⟩
/-- WidowDeedsModel.isDeed -/
def rDeed (M : Mem) (x : Int32) : Bool := (bif decide (x.toInt < 0) then false else (bif decide (x.toInt < (iv M 181 0).toInt) then true else false))
theorem rDeed_en {x : Int32} {n d : Nat} {M : Mem} {r : Option Value} {M1 : Mem} (hS : Sh M) (h : En n d 164 0 (lv_args 0 [.ref 181, .int x]) [] M r M1) : r = some (.int (b2 (rDeed M x))) ∧ M1 = M := by
  replace h := eIload (mi := 164) (pc := 0) (len := 1) (i := 1) rfl rfl h
  rcases eIf (mi := 164) (pc := 1) (len := 3) (t := 16) rfl rfl h with ⟨c1, h⟩ | ⟨c1, h⟩
  · replace c1 : x.toInt < 0 := mC_lt.1 c1
    replace h := eConst (mi := 164) (pc := 16) (len := 1) (v := 0) rfl h
    obtain ⟨e1, e2⟩ := eRetI (mi := 164) (pc := 17) (len := 1) rfl h
    have e3 : rDeed M x = false := by
      unfold rDeed
      simp only [decide_eq_true c1, cond_true, cond_false]
    rw [e3]
    exact ⟨e1, e2⟩
  · replace c1 : ¬ x.toInt < 0 := mC_lt.2 c1
    replace h := eIload (mi := 164) (pc := 4) (len := 1) (i := 1) rfl rfl h
    replace h := eAload (mi := 164) (pc := 5) (len := 1) (i := 0) rfl rfl h
    replace h := eGetI (a := 181) (j := 1100) hS (by decide) (by decide) rfl (mi := 164) (pc := 6) (len := 3) rfl h
    rcases eIc (mi := 164) (pc := 9) (len := 3) (t := 16) rfl rfl h with ⟨c2, h⟩ | ⟨c2, h⟩
    · replace c2 : ¬ x.toInt < (iv M 181 0).toInt := mC_ge.1 c2
      replace h := eConst (mi := 164) (pc := 16) (len := 1) (v := 0) rfl h
      obtain ⟨e1, e2⟩ := eRetI (mi := 164) (pc := 17) (len := 1) rfl h
      have e3 : rDeed M x = false := by
        unfold rDeed
        simp only [decide_eq_false c1, decide_eq_false c2, cond_true, cond_false]
      rw [e3]
      exact ⟨e1, e2⟩
    · replace c2 : x.toInt < (iv M 181 0).toInt := mC_ge.2 c2
      replace h := eConst (mi := 164) (pc := 12) (len := 1) (v := 1) rfl h
      replace h := eGoto (mi := 164) (pc := 13) (len := 3) (t := 17) rfl rfl h
      obtain ⟨e1, e2⟩ := eRetI (mi := 164) (pc := 17) (len := 1) rfl h
      have e3 : rDeed M x = true := by
        unfold rDeed
        simp only [decide_eq_false c1, decide_eq_true c2, cond_true, cond_false]
      rw [e3]
      exact ⟨e1, e2⟩
/-- WidowDeedsModel.isOf -/
def rOf (M : Mem) (x : Int32) (s : Int32) : Bool := (bif decide ((((iv M 187 x.toInt.toNat) >>> (s &&& 31)) &&& (1 : Int32)).toInt = 1) then true else false)
theorem rOf_en {x : Int32} {s : Int32} {n d : Nat} {M : Mem} {r : Option Value} {M1 : Mem} (hS : Sh M) (h : En n d 178 0 (lv_args 0 [.ref 181, .int x, .int s]) [] M r M1) : r = some (.int (b2 (rOf M x s))) ∧ M1 = M := by
  replace h := eAload (mi := 178) (pc := 0) (len := 1) (i := 0) rfl rfl h
  replace h := eGetR (a := 181) (j := 1107) (g := 187) hS (by decide) (by decide) rfl rfl rfl (mi := 178) (pc := 1) (len := 3) rfl h
  replace h := eIload (mi := 178) (pc := 4) (len := 1) (i := 1) rfl rfl h
  obtain ⟨b1, h⟩ := eIald (x := x) hS (a := 187) (by decide) (by decide) rfl (mi := 178) (pc := 5) (len := 1) rfl h
  replace h := eIload (mi := 178) (pc := 6) (len := 1) (i := 2) rfl rfl h
  replace h := eShr (mi := 178) (pc := 7) (len := 1) rfl h
  replace h := eConst (mi := 178) (pc := 8) (len := 1) (v := 1) rfl h
  replace h := eAnd (mi := 178) (pc := 9) (len := 1) rfl h
  replace h := eConst (mi := 178) (pc := 10) (len := 1) (v := 1) rfl h
  rcases eIc (mi := 178) (pc := 11) (len := 3) (t := 18) rfl rfl h with ⟨c2, h⟩ | ⟨c2, h⟩
  · replace c2 : ¬ (((iv M 187 x.toInt.toNat) >>> (s &&& 31)) &&& (1 : Int32)).toInt = 1 := mC_ne.1 c2
    replace h := eConst (mi := 178) (pc := 18) (len := 1) (v := 0) rfl h
    obtain ⟨e1, e2⟩ := eRetI (mi := 178) (pc := 19) (len := 1) rfl h
    have e3 : rOf M x s = false := by
      unfold rOf
      simp only [decide_eq_false c2, cond_true, cond_false]
    rw [e3]
    exact ⟨e1, e2⟩
  · replace c2 : (((iv M 187 x.toInt.toNat) >>> (s &&& 31)) &&& (1 : Int32)).toInt = 1 := mC_ne.2 c2
    replace h := eConst (mi := 178) (pc := 14) (len := 1) (v := 1) rfl h
    replace h := eGoto (mi := 178) (pc := 15) (len := 3) (t := 19) rfl rfl h
    obtain ⟨e1, e2⟩ := eRetI (mi := 178) (pc := 19) (len := 1) rfl h
    have e3 : rOf M x s = true := by
      unfold rOf
      simp only [decide_eq_true c2, cond_true, cond_false]
    rw [e3]
    exact ⟨e1, e2⟩
/-- WidowDeedsModel.isEntered -/
def rEnt (M : Mem) (x : Int32) (t : Int32) : Bool := (bif decide ((iv M 191 x.toInt.toNat).toInt = (-1)) then false else (bif decide (t.toInt < (iv M 191 x.toInt.toNat).toInt) then false else true))
theorem rEnt_en {x : Int32} {t : Int32} {n d : Nat} {M : Mem} {r : Option Value} {M1 : Mem} (hS : Sh M) (h : En n d 180 0 (lv_args 0 [.ref 181, .int x, .int t]) [] M r M1) : r = some (.int (b2 (rEnt M x t))) ∧ M1 = M := by
  replace h := eAload (mi := 180) (pc := 0) (len := 1) (i := 0) rfl rfl h
  replace h := eGetR (a := 181) (j := 1111) (g := 191) hS (by decide) (by decide) rfl rfl rfl (mi := 180) (pc := 1) (len := 3) rfl h
  replace h := eIload (mi := 180) (pc := 4) (len := 1) (i := 1) rfl rfl h
  obtain ⟨b1, h⟩ := eIald (x := x) hS (a := 191) (by decide) (by decide) rfl (mi := 180) (pc := 5) (len := 1) rfl h
  replace h := eConst (mi := 180) (pc := 6) (len := 1) (v := (-1)) rfl h
  rcases eIc (mi := 180) (pc := 7) (len := 3) (t := 24) rfl rfl h with ⟨c2, h⟩ | ⟨c2, h⟩
  · replace c2 : (iv M 191 x.toInt.toNat).toInt = (-1) := mC_eq.1 c2
    replace h := eConst (mi := 180) (pc := 24) (len := 1) (v := 0) rfl h
    obtain ⟨e1, e2⟩ := eRetI (mi := 180) (pc := 25) (len := 1) rfl h
    have e3 : rEnt M x t = false := by
      unfold rEnt
      simp only [decide_eq_true c2, cond_true, cond_false]
    rw [e3]
    exact ⟨e1, e2⟩
  · replace c2 : ¬ (iv M 191 x.toInt.toNat).toInt = (-1) := mC_eq.2 c2
    replace h := eAload (mi := 180) (pc := 10) (len := 1) (i := 0) rfl rfl h
    replace h := eGetR (a := 181) (j := 1111) (g := 191) hS (by decide) (by decide) rfl rfl rfl (mi := 180) (pc := 11) (len := 3) rfl h
    replace h := eIload (mi := 180) (pc := 14) (len := 1) (i := 1) rfl rfl h
    obtain ⟨b3, h⟩ := eIald (x := x) hS (a := 191) (by decide) (by decide) rfl (mi := 180) (pc := 15) (len := 1) rfl h
    replace h := eIload (mi := 180) (pc := 16) (len := 1) (i := 2) rfl rfl h
    rcases eIc (mi := 180) (pc := 17) (len := 3) (t := 24) rfl rfl h with ⟨c4, h⟩ | ⟨c4, h⟩
    · replace c4 : t.toInt < (iv M 191 x.toInt.toNat).toInt := mC_gt.1 c4
      replace h := eConst (mi := 180) (pc := 24) (len := 1) (v := 0) rfl h
      obtain ⟨e1, e2⟩ := eRetI (mi := 180) (pc := 25) (len := 1) rfl h
      have e3 : rEnt M x t = false := by
        unfold rEnt
        simp only [decide_eq_false c2, decide_eq_true c4, cond_true, cond_false]
      rw [e3]
      exact ⟨e1, e2⟩
    · replace c4 : ¬ t.toInt < (iv M 191 x.toInt.toNat).toInt := mC_gt.2 c4
      replace h := eConst (mi := 180) (pc := 20) (len := 1) (v := 1) rfl h
      replace h := eGoto (mi := 180) (pc := 21) (len := 3) (t := 25) rfl rfl h
      obtain ⟨e1, e2⟩ := eRetI (mi := 180) (pc := 25) (len := 1) rfl h
      have e3 : rEnt M x t = true := by
        unfold rEnt
        simp only [decide_eq_false c2, decide_eq_false c4, cond_true, cond_false]
      rw [e3]
      exact ⟨e1, e2⟩
/-- WidowDeedsModel.isMisnamed -/
def rMis (M : Mem) (x : Int32) : Bool := (bif decide ((iv M 191 x.toInt.toNat).toInt = (-1)) then false else (bif decide ((iv M 192 x.toInt.toNat).toInt = (iv M 185 x.toInt.toNat).toInt) then false else true))
theorem rMis_en {x : Int32} {n d : Nat} {M : Mem} {r : Option Value} {M1 : Mem} (hS : Sh M) (h : En n d 181 0 (lv_args 0 [.ref 181, .int x]) [] M r M1) : r = some (.int (b2 (rMis M x))) ∧ M1 = M := by
  replace h := eAload (mi := 181) (pc := 0) (len := 1) (i := 0) rfl rfl h
  replace h := eGetR (a := 181) (j := 1111) (g := 191) hS (by decide) (by decide) rfl rfl rfl (mi := 181) (pc := 1) (len := 3) rfl h
  replace h := eIload (mi := 181) (pc := 4) (len := 1) (i := 1) rfl rfl h
  obtain ⟨b1, h⟩ := eIald (x := x) hS (a := 191) (by decide) (by decide) rfl (mi := 181) (pc := 5) (len := 1) rfl h
  replace h := eConst (mi := 181) (pc := 6) (len := 1) (v := (-1)) rfl h
  rcases eIc (mi := 181) (pc := 7) (len := 3) (t := 29) rfl rfl h with ⟨c2, h⟩ | ⟨c2, h⟩
  · replace c2 : (iv M 191 x.toInt.toNat).toInt = (-1) := mC_eq.1 c2
    replace h := eConst (mi := 181) (pc := 29) (len := 1) (v := 0) rfl h
    obtain ⟨e1, e2⟩ := eRetI (mi := 181) (pc := 30) (len := 1) rfl h
    have e3 : rMis M x = false := by
      unfold rMis
      simp only [decide_eq_true c2, cond_true, cond_false]
    rw [e3]
    exact ⟨e1, e2⟩
  · replace c2 : ¬ (iv M 191 x.toInt.toNat).toInt = (-1) := mC_eq.2 c2
    replace h := eAload (mi := 181) (pc := 10) (len := 1) (i := 0) rfl rfl h
    replace h := eGetR (a := 181) (j := 1112) (g := 192) hS (by decide) (by decide) rfl rfl rfl (mi := 181) (pc := 11) (len := 3) rfl h
    replace h := eIload (mi := 181) (pc := 14) (len := 1) (i := 1) rfl rfl h
    obtain ⟨b3, h⟩ := eIald (x := x) hS (a := 192) (by decide) (by decide) rfl (mi := 181) (pc := 15) (len := 1) rfl h
    replace h := eAload (mi := 181) (pc := 16) (len := 1) (i := 0) rfl rfl h
    replace h := eGetR (a := 181) (j := 1105) (g := 185) hS (by decide) (by decide) rfl rfl rfl (mi := 181) (pc := 17) (len := 3) rfl h
    replace h := eIload (mi := 181) (pc := 20) (len := 1) (i := 1) rfl rfl h
    obtain ⟨b4, h⟩ := eIald (x := x) hS (a := 185) (by decide) (by decide) rfl (mi := 181) (pc := 21) (len := 1) rfl h
    rcases eIc (mi := 181) (pc := 22) (len := 3) (t := 29) rfl rfl h with ⟨c5, h⟩ | ⟨c5, h⟩
    · replace c5 : (iv M 192 x.toInt.toNat).toInt = (iv M 185 x.toInt.toNat).toInt := mC_eq.1 c5
      replace h := eConst (mi := 181) (pc := 29) (len := 1) (v := 0) rfl h
      obtain ⟨e1, e2⟩ := eRetI (mi := 181) (pc := 30) (len := 1) rfl h
      have e3 : rMis M x = false := by
        unfold rMis
        simp only [decide_eq_false c2, decide_eq_true c5, cond_true, cond_false]
      rw [e3]
      exact ⟨e1, e2⟩
    · replace c5 : ¬ (iv M 192 x.toInt.toNat).toInt = (iv M 185 x.toInt.toNat).toInt := mC_eq.2 c5
      replace h := eConst (mi := 181) (pc := 25) (len := 1) (v := 1) rfl h
      replace h := eGoto (mi := 181) (pc := 26) (len := 3) (t := 30) rfl rfl h
      obtain ⟨e1, e2⟩ := eRetI (mi := 181) (pc := 30) (len := 1) rfl h
      have e3 : rMis M x = true := by
        unfold rMis
        simp only [decide_eq_false c2, decide_eq_false c5, cond_true, cond_false]
      rw [e3]
      exact ⟨e1, e2⟩

/-! the class: what is asked of deeds (printed by fn.py) -/
/-- WidowDeeds$Deed.isOf -/
def bOf (M : Mem) (e : Nat) (s : Int32) : Bool := (bif decide ((((iv M (10 + e) 2) >>> (s &&& 31)) &&& (1 : Int32)).toInt = 0) then false else true)
theorem bOf_en {e : Nat} {s : Int32} {n d : Nat} {M : Mem} {r : Option Value} {M1 : Mem} (hS : Sh M) (hd_e : e < 40) (h : En n d 26 0 (lv_args 0 [.ref (10 + e), .int s]) [] M r M1) : r = some (.int (b2 (bOf M e s))) ∧ M1 = M := by
  replace h := eAload (mi := 26) (pc := 0) (len := 1) (i := 0) rfl rfl h
  replace h := eGetD (e := e) (f := 2) hS hd_e rfl rfl  (j := 102) (mi := 26) (pc := 1) (len := 3) rfl h
  replace h := eIload (mi := 26) (pc := 4) (len := 1) (i := 1) rfl rfl h
  replace h := eShr (mi := 26) (pc := 5) (len := 1) rfl h
  replace h := eConst (mi := 26) (pc := 6) (len := 1) (v := 1) rfl h
  replace h := eAnd (mi := 26) (pc := 7) (len := 1) rfl h
  rcases eIf (mi := 26) (pc := 8) (len := 3) (t := 15) rfl rfl h with ⟨c1, h⟩ | ⟨c1, h⟩
  · replace c1 : (((iv M (10 + e) 2) >>> (s &&& 31)) &&& (1 : Int32)).toInt = 0 := mC_eq.1 c1
    replace h := eConst (mi := 26) (pc := 15) (len := 1) (v := 0) rfl h
    obtain ⟨e1, e2⟩ := eRetI (mi := 26) (pc := 16) (len := 1) rfl h
    have e3 : bOf M e s = false := by
      unfold bOf
      simp only [decide_eq_true c1, cond_true, cond_false]
    rw [e3]
    exact ⟨e1, e2⟩
  · replace c1 : ¬ (((iv M (10 + e) 2) >>> (s &&& 31)) &&& (1 : Int32)).toInt = 0 := mC_eq.2 c1
    replace h := eConst (mi := 26) (pc := 11) (len := 1) (v := 1) rfl h
    replace h := eGoto (mi := 26) (pc := 12) (len := 3) (t := 16) rfl rfl h
    obtain ⟨e1, e2⟩ := eRetI (mi := 26) (pc := 16) (len := 1) rfl h
    have e3 : bOf M e s = true := by
      unfold bOf
      simp only [decide_eq_false c1, cond_true, cond_false]
    rw [e3]
    exact ⟨e1, e2⟩
/-- WidowDeeds$Deed.isMisnamed -/
def bMis (M : Mem) (e : Nat) : Bool := (bif decide ((iv M (10 + e) 8).toInt = (-1)) then false else (bif decide ((iv M (10 + e) 8).toInt = (iv M (10 + e) 0).toInt) then false else true))
theorem bMis_en {e : Nat} {n d : Nat} {M : Mem} {r : Option Value} {M1 : Mem} (hS : Sh M) (hd_e : e < 40) (h : En n d 28 0 (lv_args 0 [.ref (10 + e)]) [] M r M1) : r = some (.int (b2 (bMis M e))) ∧ M1 = M := by
  replace h := eAload (mi := 28) (pc := 0) (len := 1) (i := 0) rfl rfl h
  replace h := eGetD (e := e) (f := 8) hS hd_e rfl rfl  (j := 108) (mi := 28) (pc := 1) (len := 3) rfl h
  replace h := eConst (mi := 28) (pc := 4) (len := 1) (v := (-1)) rfl h
  rcases eIc (mi := 28) (pc := 5) (len := 3) (t := 23) rfl rfl h with ⟨c1, h⟩ | ⟨c1, h⟩
  · replace c1 : (iv M (10 + e) 8).toInt = (-1) := mC_eq.1 c1
    replace h := eConst (mi := 28) (pc := 23) (len := 1) (v := 0) rfl h
    obtain ⟨e1, e2⟩ := eRetI (mi := 28) (pc := 24) (len := 1) rfl h
    have e3 : bMis M e = false := by
      unfold bMis
      simp only [decide_eq_true c1, cond_true, cond_false]
    rw [e3]
    exact ⟨e1, e2⟩
  · replace c1 : ¬ (iv M (10 + e) 8).toInt = (-1) := mC_eq.2 c1
    replace h := eAload (mi := 28) (pc := 8) (len := 1) (i := 0) rfl rfl h
    replace h := eGetD (e := e) (f := 8) hS hd_e rfl rfl  (j := 108) (mi := 28) (pc := 9) (len := 3) rfl h
    replace h := eAload (mi := 28) (pc := 12) (len := 1) (i := 0) rfl rfl h
    replace h := eGetD (e := e) (f := 0) hS hd_e rfl rfl  (j := 100) (mi := 28) (pc := 13) (len := 3) rfl h
    rcases eIc (mi := 28) (pc := 16) (len := 3) (t := 23) rfl rfl h with ⟨c2, h⟩ | ⟨c2, h⟩
    · replace c2 : (iv M (10 + e) 8).toInt = (iv M (10 + e) 0).toInt := mC_eq.1 c2
      replace h := eConst (mi := 28) (pc := 23) (len := 1) (v := 0) rfl h
      obtain ⟨e1, e2⟩ := eRetI (mi := 28) (pc := 24) (len := 1) rfl h
      have e3 : bMis M e = false := by
        unfold bMis
        simp only [decide_eq_false c1, decide_eq_true c2, cond_true, cond_false]
      rw [e3]
      exact ⟨e1, e2⟩
    · replace c2 : ¬ (iv M (10 + e) 8).toInt = (iv M (10 + e) 0).toInt := mC_eq.2 c2
      replace h := eConst (mi := 28) (pc := 19) (len := 1) (v := 1) rfl h
      replace h := eGoto (mi := 28) (pc := 20) (len := 3) (t := 24) rfl rfl h
      obtain ⟨e1, e2⟩ := eRetI (mi := 28) (pc := 24) (len := 1) rfl h
      have e3 : bMis M e = true := by
        unfold bMis
        simp only [decide_eq_false c1, decide_eq_false c2, cond_true, cond_false]
      rw [e3]
      exact ⟨e1, e2⟩
/-- WidowDeeds$Town.isDead -/
def bDead (M : Mem) (p : Int32) (t : Int32) : Bool := (bif decide ((iv M 4 p.toInt.toNat).toInt = (-1)) then false else (bif decide (t.toInt < (iv M 4 p.toInt.toNat).toInt) then false else true))
theorem bDead_en {p : Int32} {t : Int32} {n d : Nat} {M : Mem} {r : Option Value} {M1 : Mem} (hS : Sh M) (h : En n d 106 0 (lv_args 0 [.ref 3, .int p, .int t]) [] M r M1) : r = some (.int (b2 (bDead M p t))) ∧ M1 = M := by
  replace h := eAload (mi := 106) (pc := 0) (len := 1) (i := 0) rfl rfl h
  replace h := eGetR (a := 3) (j := 900) (g := 4) hS (by decide) (by decide) rfl rfl rfl (mi := 106) (pc := 1) (len := 3) rfl h
  replace h := eIload (mi := 106) (pc := 4) (len := 1) (i := 1) rfl rfl h
  obtain ⟨b1, h⟩ := eIald (x := p) hS (a := 4) (by decide) (by decide) rfl (mi := 106) (pc := 5) (len := 1) rfl h
  replace h := eConst (mi := 106) (pc := 6) (len := 1) (v := (-1)) rfl h
  rcases eIc (mi := 106) (pc := 7) (len := 3) (t := 24) rfl rfl h with ⟨c2, h⟩ | ⟨c2, h⟩
  · replace c2 : (iv M 4 p.toInt.toNat).toInt = (-1) := mC_eq.1 c2
    replace h := eConst (mi := 106) (pc := 24) (len := 1) (v := 0) rfl h
    obtain ⟨e1, e2⟩ := eRetI (mi := 106) (pc := 25) (len := 1) rfl h
    have e3 : bDead M p t = false := by
      unfold bDead
      simp only [decide_eq_true c2, cond_true, cond_false]
    rw [e3]
    exact ⟨e1, e2⟩
  · replace c2 : ¬ (iv M 4 p.toInt.toNat).toInt = (-1) := mC_eq.2 c2
    replace h := eAload (mi := 106) (pc := 10) (len := 1) (i := 0) rfl rfl h
    replace h := eGetR (a := 3) (j := 900) (g := 4) hS (by decide) (by decide) rfl rfl rfl (mi := 106) (pc := 11) (len := 3) rfl h
    replace h := eIload (mi := 106) (pc := 14) (len := 1) (i := 1) rfl rfl h
    obtain ⟨b3, h⟩ := eIald (x := p) hS (a := 4) (by decide) (by decide) rfl (mi := 106) (pc := 15) (len := 1) rfl h
    replace h := eIload (mi := 106) (pc := 16) (len := 1) (i := 2) rfl rfl h
    rcases eIc (mi := 106) (pc := 17) (len := 3) (t := 24) rfl rfl h with ⟨c4, h⟩ | ⟨c4, h⟩
    · replace c4 : t.toInt < (iv M 4 p.toInt.toNat).toInt := mC_gt.1 c4
      replace h := eConst (mi := 106) (pc := 24) (len := 1) (v := 0) rfl h
      obtain ⟨e1, e2⟩ := eRetI (mi := 106) (pc := 25) (len := 1) rfl h
      have e3 : bDead M p t = false := by
        unfold bDead
        simp only [decide_eq_false c2, decide_eq_true c4, cond_true, cond_false]
      rw [e3]
      exact ⟨e1, e2⟩
    · replace c4 : ¬ t.toInt < (iv M 4 p.toInt.toNat).toInt := mC_gt.2 c4
      replace h := eConst (mi := 106) (pc := 20) (len := 1) (v := 1) rfl h
      replace h := eGoto (mi := 106) (pc := 21) (len := 3) (t := 25) rfl rfl h
      obtain ⟨e1, e2⟩ := eRetI (mi := 106) (pc := 25) (len := 1) rfl h
      have e3 : bDead M p t = true := by
        unfold bDead
        simp only [decide_eq_false c2, decide_eq_false c4, cond_true, cond_false]
      rw [e3]
      exact ⟨e1, e2⟩
/-- WidowDeeds$Town.isVoid -/
def bVoid (M : Mem) (e : Nat) : Bool := (bif decide ((iv M (10 + e) 6).toInt = 0) then (bif bDead M (iv M (10 + e) 0) (iv M (10 + e) 3) then true else false) else true)
theorem bVoid_en {e : Nat} {n d : Nat} {M : Mem} {r : Option Value} {M1 : Mem} (hS : Sh M) (hd_e : e < 40) (h : En n d 107 0 (lv_args 0 [.ref 3, .ref (10 + e)]) [] M r M1) : r = some (.int (b2 (bVoid M e))) ∧ M1 = M := by
  replace h := eAload (mi := 107) (pc := 0) (len := 1) (i := 1) rfl rfl h
  replace h := eGetD (e := e) (f := 6) hS hd_e rfl rfl  (j := 106) (mi := 107) (pc := 1) (len := 3) rfl h
  rcases eIf (mi := 107) (pc := 4) (len := 3) (t := 22) rfl rfl h with ⟨c1, h⟩ | ⟨c1, h⟩
  · replace c1 : ¬ (iv M (10 + e) 6).toInt = 0 := mC_ne.1 c1
    replace h := eConst (mi := 107) (pc := 22) (len := 1) (v := 1) rfl h
    replace h := eGoto (mi := 107) (pc := 23) (len := 3) (t := 27) rfl rfl h
    obtain ⟨e1, e2⟩ := eRetI (mi := 107) (pc := 27) (len := 1) rfl h
    have e3 : bVoid M e = true := by
      unfold bVoid
      simp only [decide_eq_false c1, cond_true, cond_false]
    rw [e3]
    exact ⟨e1, e2⟩
  · replace c1 : (iv M (10 + e) 6).toInt = 0 := mC_ne.2 c1
    replace h := eAload (mi := 107) (pc := 7) (len := 1) (i := 0) rfl rfl h
    replace h := eAload (mi := 107) (pc := 8) (len := 1) (i := 1) rfl rfl h
    replace h := eGetD (e := e) (f := 0) hS hd_e rfl rfl  (j := 100) (mi := 107) (pc := 9) (len := 3) rfl h
    replace h := eAload (mi := 107) (pc := 12) (len := 1) (i := 1) rfl rfl h
    replace h := eGetD (e := e) (f := 3) hS hd_e rfl rfl  (j := 103) (mi := 107) (pc := 13) (len := 3) rfl h
    replace h := eCallP (mi := 107) (pc := 16) (len := 3) (j := 106) (as := [.ref 3, .int (iv M (10 + e) 0), .int (iv M (10 + e) 3)]) (rest := []) rfl (Or.inr (Or.inl rfl)) (by decide) rfl rfl (fun _ _ _ _ g => bDead_en hS g) h
    rcases eIf (mi := 107) (pc := 19) (len := 3) (t := 26) rfl rfl h with ⟨c2, h⟩ | ⟨c2, h⟩
    · replace c2 : bDead M (iv M (10 + e) 0) (iv M (10 + e) 3) = false := mB_eq.1 c2
      replace h := eConst (mi := 107) (pc := 26) (len := 1) (v := 0) rfl h
      obtain ⟨e1, e2⟩ := eRetI (mi := 107) (pc := 27) (len := 1) rfl h
      have e3 : bVoid M e = false := by
        unfold bVoid
        simp only [decide_eq_true c1, c2, cond_true, cond_false]
      rw [e3]
      exact ⟨e1, e2⟩
    · replace c2 : bDead M (iv M (10 + e) 0) (iv M (10 + e) 3) = true := mB_eq.2 c2
      replace h := eConst (mi := 107) (pc := 22) (len := 1) (v := 1) rfl h
      replace h := eGoto (mi := 107) (pc := 23) (len := 3) (t := 27) rfl rfl h
      obtain ⟨e1, e2⟩ := eRetI (mi := 107) (pc := 27) (len := 1) rfl h
      have e3 : bVoid M e = true := by
        unfold bVoid
        simp only [decide_eq_true c1, c2, cond_true, cond_false]
      rw [e3]
      exact ⟨e1, e2⟩
/-- WidowDeeds$Chain.isGood -/
def bGood (M : Mem) (e : Nat) : Bool := (bif bOf M (e) (iv M 170 4) then (bif decide ((iv M 170 5).toInt < (iv M (10 + e) 3).toInt) then false else (bif bVoid M (e) then false else true)) else false)
theorem bGood_en {e : Nat} {n d : Nat} {M : Mem} {r : Option Value} {M1 : Mem} (hS : Sh M) (hd_e : e < 40) (h : En n d 4 0 (lv_args 0 [.ref 170, .ref (10 + e)]) [] M r M1) : r = some (.int (b2 (bGood M e))) ∧ M1 = M := by
  replace h := eAload (mi := 4) (pc := 0) (len := 1) (i := 1) rfl rfl h
  replace h := eAload (mi := 4) (pc := 1) (len := 1) (i := 0) rfl rfl h
  replace h := eGetI (a := 170) (j := 4) hS (by decide) (by decide) rfl (mi := 4) (pc := 2) (len := 3) rfl h
  replace h := eCallP (mi := 4) (pc := 5) (len := 3) (j := 26) (as := [.ref (10 + e), .int (iv M 170 4)]) (rest := []) rfl (Or.inr (Or.inl rfl)) (by decide) rfl rfl (fun _ _ _ _ g => bOf_en hS hd_e g) h
  rcases eIf (mi := 4) (pc := 8) (len := 3) (t := 37) rfl rfl h with ⟨c1, h⟩ | ⟨c1, h⟩
  · replace c1 : bOf M (e) (iv M 170 4) = false := mB_eq.1 c1
    replace h := eConst (mi := 4) (pc := 37) (len := 1) (v := 0) rfl h
    obtain ⟨e1, e2⟩ := eRetI (mi := 4) (pc := 38) (len := 1) rfl h
    have e3 : bGood M e = false := by
      unfold bGood
      simp only [c1, cond_true, cond_false]
    rw [e3]
    exact ⟨e1, e2⟩
  · replace c1 : bOf M (e) (iv M 170 4) = true := mB_eq.2 c1
    replace h := eAload (mi := 4) (pc := 11) (len := 1) (i := 1) rfl rfl h
    replace h := eGetD (e := e) (f := 3) hS hd_e rfl rfl  (j := 103) (mi := 4) (pc := 12) (len := 3) rfl h
    replace h := eAload (mi := 4) (pc := 15) (len := 1) (i := 0) rfl rfl h
    replace h := eGetI (a := 170) (j := 5) hS (by decide) (by decide) rfl (mi := 4) (pc := 16) (len := 3) rfl h
    rcases eIc (mi := 4) (pc := 19) (len := 3) (t := 37) rfl rfl h with ⟨c2, h⟩ | ⟨c2, h⟩
    · replace c2 : (iv M 170 5).toInt < (iv M (10 + e) 3).toInt := mC_gt.1 c2
      replace h := eConst (mi := 4) (pc := 37) (len := 1) (v := 0) rfl h
      obtain ⟨e1, e2⟩ := eRetI (mi := 4) (pc := 38) (len := 1) rfl h
      have e3 : bGood M e = false := by
        unfold bGood
        simp only [c1, decide_eq_true c2, cond_true, cond_false]
      rw [e3]
      exact ⟨e1, e2⟩
    · replace c2 : ¬ (iv M 170 5).toInt < (iv M (10 + e) 3).toInt := mC_gt.2 c2
      replace h := eAload (mi := 4) (pc := 22) (len := 1) (i := 0) rfl rfl h
      replace h := eGetR (a := 170) (j := 0) (g := 3) hS (by decide) (by decide) rfl rfl rfl (mi := 4) (pc := 23) (len := 3) rfl h
      replace h := eAload (mi := 4) (pc := 26) (len := 1) (i := 1) rfl rfl h
      replace h := eCallP (mi := 4) (pc := 27) (len := 3) (j := 107) (as := [.ref 3, .ref (10 + e)]) (rest := []) rfl (Or.inr (Or.inl rfl)) (by decide) rfl rfl (fun _ _ _ _ g => bVoid_en hS hd_e g) h
      rcases eIf (mi := 4) (pc := 30) (len := 3) (t := 37) rfl rfl h with ⟨c3, h⟩ | ⟨c3, h⟩
      · replace c3 : bVoid M (e) = true := mB_ne.1 c3
        replace h := eConst (mi := 4) (pc := 37) (len := 1) (v := 0) rfl h
        obtain ⟨e1, e2⟩ := eRetI (mi := 4) (pc := 38) (len := 1) rfl h
        have e3 : bGood M e = false := by
          unfold bGood
          simp only [c1, decide_eq_false c2, c3, cond_true, cond_false]
        rw [e3]
        exact ⟨e1, e2⟩
      · replace c3 : bVoid M (e) = false := mB_ne.2 c3
        replace h := eConst (mi := 4) (pc := 33) (len := 1) (v := 1) rfl h
        replace h := eGoto (mi := 4) (pc := 34) (len := 3) (t := 38) rfl rfl h
        obtain ⟨e1, e2⟩ := eRetI (mi := 4) (pc := 38) (len := 1) rfl h
        have e3 : bGood M e = true := by
          unfold bGood
          simp only [c1, decide_eq_false c2, c3, cond_true, cond_false]
        rw [e3]
        exact ⟨e1, e2⟩
/-- WidowDeeds$Chain.standingWith -/
def fStand (M : Mem) (x : Int32) : Int64 := (bif bGood M (x.toInt.toNat) then ((lv M 170 8) ||| ((1 : Int64) <<< (Int32.toInt64 x &&& 63))) else ((lv M 170 8) &&& (((1 : Int64) <<< (Int32.toInt64 x &&& 63)) ^^^ ((-1) : Int64))))
theorem fStand_en {x : Int32} {n d : Nat} {M : Mem} {r : Option Value} {M1 : Mem} (hS : Sh M) (hY : yT8 M) (h : En n d 3 0 (lv_args 0 [.ref 170, .int x]) [] M r M1) : r = some (.long (fStand M x)) ∧ M1 = M := by
  replace h := eLdc (mi := 3) (pc := 0) (len := 1) (j := 1) rfl h
  replace h := eIload (mi := 3) (pc := 1) (len := 1) (i := 1) rfl rfl h
  replace h := eLshl (mi := 3) (pc := 2) (len := 1) rfl h
  replace h := eLstore (mi := 3) (pc := 3) (len := 1) (i := 2) rfl (by decide) h
  replace h := eAload (mi := 3) (pc := 4) (len := 1) (i := 0) rfl rfl h
  replace h := eAload (mi := 3) (pc := 5) (len := 1) (i := 0) rfl rfl h
  replace h := eGetR (a := 170) (j := 1) (g := 7) hS (by decide) (by decide) rfl rfl rfl (mi := 3) (pc := 6) (len := 3) rfl h
  replace h := eGetR (a := 7) (j := 600) (g := 8) hS (by decide) (by decide) rfl rfl rfl (mi := 3) (pc := 9) (len := 3) rfl h
  replace h := eIload (mi := 3) (pc := 12) (len := 1) (i := 1) rfl rfl h
  obtain ⟨b1, h⟩ := eDeed (x := x) hS hY (mi := 3) (pc := 13) (len := 1) rfl h
  replace h := eCallP (mi := 3) (pc := 14) (len := 3) (j := 4) (as := [.ref 170, .ref (10 + x.toInt.toNat)]) (rest := []) rfl (Or.inr (Or.inl rfl)) (by decide) rfl rfl (fun _ _ _ _ g => bGood_en hS b1.2 g) h
  rcases eIf (mi := 3) (pc := 17) (len := 3) (t := 29) rfl rfl h with ⟨c2, h⟩ | ⟨c2, h⟩
  · replace c2 : bGood M (x.toInt.toNat) = false := mB_eq.1 c2
    replace h := eAload (mi := 3) (pc := 29) (len := 1) (i := 0) rfl rfl h
    replace h := eGetL (a := 170) (j := 8) hS (by decide) (by decide) rfl (mi := 3) (pc := 30) (len := 3) rfl h
    replace h := eLload (mi := 3) (pc := 33) (len := 1) (i := 2) rfl rfl h
    replace h := eLdc (mi := 3) (pc := 34) (len := 3) (j := 2) rfl h
    replace h := eLxor (mi := 3) (pc := 37) (len := 1) rfl h
    replace h := eLand (mi := 3) (pc := 38) (len := 1) rfl h
    obtain ⟨e1, e2⟩ := eRetL (mi := 3) (pc := 39) (len := 1) rfl h
    have e3 : fStand M x = ((lv M 170 8) &&& (((1 : Int64) <<< (Int32.toInt64 x &&& 63)) ^^^ ((-1) : Int64))) := by
      unfold fStand
      simp only [c2, cond_true, cond_false]
    rw [e3]
    exact ⟨e1, e2⟩
  · replace c2 : bGood M (x.toInt.toNat) = true := mB_eq.2 c2
    replace h := eAload (mi := 3) (pc := 20) (len := 1) (i := 0) rfl rfl h
    replace h := eGetL (a := 170) (j := 8) hS (by decide) (by decide) rfl (mi := 3) (pc := 21) (len := 3) rfl h
    replace h := eLload (mi := 3) (pc := 24) (len := 1) (i := 2) rfl rfl h
    replace h := eLor (mi := 3) (pc := 25) (len := 1) rfl h
    replace h := eGoto (mi := 3) (pc := 26) (len := 3) (t := 39) rfl rfl h
    obtain ⟨e1, e2⟩ := eRetL (mi := 3) (pc := 39) (len := 1) rfl h
    have e3 : fStand M x = ((lv M 170 8) ||| ((1 : Int64) <<< (Int32.toInt64 x &&& 63))) := by
      unfold fStand
      simp only [c2, cond_true, cond_false]
    rw [e3]
    exact ⟨e1, e2⟩
/-- WidowDeeds$Chain.isWild -/
def bWild (M : Mem) (e : Nat) (t : Int32) : Bool := (bif decide ((iv M (10 + e) 0).toInt = (iv M 170 6).toInt) then false else (bif decide (t.toInt < (iv M 171 (iv M (10 + e) 0).toInt.toNat).toInt) then true else false))
theorem bWild_en {e : Nat} {t : Int32} {n d : Nat} {M : Mem} {r : Option Value} {M1 : Mem} (hS : Sh M) (hd_e : e < 40) (h : En n d 12 0 (lv_args 0 [.ref 170, .ref (10 + e), .int t]) [] M r M1) : r = some (.int (b2 (bWild M e t))) ∧ M1 = M := by
  replace h := eAload (mi := 12) (pc := 0) (len := 1) (i := 1) rfl rfl h
  replace h := eGetD (e := e) (f := 0) hS hd_e rfl rfl  (j := 100) (mi := 12) (pc := 1) (len := 3) rfl h
  replace h := eAload (mi := 12) (pc := 4) (len := 1) (i := 0) rfl rfl h
  replace h := eGetI (a := 170) (j := 6) hS (by decide) (by decide) rfl (mi := 12) (pc := 5) (len := 3) rfl h
  rcases eIc (mi := 12) (pc := 8) (len := 3) (t := 28) rfl rfl h with ⟨c1, h⟩ | ⟨c1, h⟩
  · replace c1 : (iv M (10 + e) 0).toInt = (iv M 170 6).toInt := mC_eq.1 c1
    replace h := eConst (mi := 12) (pc := 28) (len := 1) (v := 0) rfl h
    obtain ⟨e1, e2⟩ := eRetI (mi := 12) (pc := 29) (len := 1) rfl h
    have e3 : bWild M e t = false := by
      unfold bWild
      simp only [decide_eq_true c1, cond_true, cond_false]
    rw [e3]
    exact ⟨e1, e2⟩
  · replace c1 : ¬ (iv M (10 + e) 0).toInt = (iv M 170 6).toInt := mC_eq.2 c1
    replace h := eAload (mi := 12) (pc := 11) (len := 1) (i := 0) rfl rfl h
    replace h := eGetR (a := 170) (j := 9) (g := 171) hS (by decide) (by decide) rfl rfl rfl (mi := 12) (pc := 12) (len := 3) rfl h
    replace h := eAload (mi := 12) (pc := 15) (len := 1) (i := 1) rfl rfl h
    replace h := eGetD (e := e) (f := 0) hS hd_e rfl rfl  (j := 100) (mi := 12) (pc := 16) (len := 3) rfl h
    obtain ⟨b2, h⟩ := eIald (x := (iv M (10 + e) 0)) hS (a := 171) (by decide) (by decide) rfl (mi := 12) (pc := 19) (len := 1) rfl h
    replace h := eIload (mi := 12) (pc := 20) (len := 1) (i := 2) rfl rfl h
    rcases eIc (mi := 12) (pc := 21) (len := 3) (t := 28) rfl rfl h with ⟨c3, h⟩ | ⟨c3, h⟩
    · replace c3 : ¬ t.toInt < (iv M 171 (iv M (10 + e) 0).toInt.toNat).toInt := mC_le.1 c3
      replace h := eConst (mi := 12) (pc := 28) (len := 1) (v := 0) rfl h
      obtain ⟨e1, e2⟩ := eRetI (mi := 12) (pc := 29) (len := 1) rfl h
      have e3 : bWild M e t = false := by
        unfold bWild
        simp only [decide_eq_false c1, decide_eq_false c3, cond_true, cond_false]
      rw [e3]
      exact ⟨e1, e2⟩
    · replace c3 : t.toInt < (iv M 171 (iv M (10 + e) 0).toInt.toNat).toInt := mC_le.2 c3
      replace h := eConst (mi := 12) (pc := 24) (len := 1) (v := 1) rfl h
      replace h := eGoto (mi := 12) (pc := 25) (len := 3) (t := 29) rfl rfl h
      obtain ⟨e1, e2⟩ := eRetI (mi := 12) (pc := 29) (len := 1) rfl h
      have e3 : bWild M e t = true := by
        unfold bWild
        simp only [decide_eq_false c1, decide_eq_true c3, cond_true, cond_false]
      rw [e3]
      exact ⟨e1, e2⟩
/-- WidowDeeds$Chain.isFindable -/
def bFind (M : Mem) (e : Nat) (t : Int32) : Bool := (bif decide (t.toInt < (iv M (10 + e) 7).toInt) then false else (bif bMis M (e) then false else (bif bWild M (e) t then false else true)))
theorem bFind_en {e : Nat} {t : Int32} {n d : Nat} {M : Mem} {r : Option Value} {M1 : Mem} (hS : Sh M) (hd_e : e < 40) (h : En n d 13 0 (lv_args 0 [.ref 170, .ref (10 + e), .int t]) [] M r M1) : r = some (.int (b2 (bFind M e t))) ∧ M1 = M := by
  replace h := eAload (mi := 13) (pc := 0) (len := 1) (i := 1) rfl rfl h
  replace h := eGetD (e := e) (f := 7) hS hd_e rfl rfl  (j := 107) (mi := 13) (pc := 1) (len := 3) rfl h
  replace h := eIload (mi := 13) (pc := 4) (len := 1) (i := 2) rfl rfl h
  rcases eIc (mi := 13) (pc := 5) (len := 3) (t := 28) rfl rfl h with ⟨c1, h⟩ | ⟨c1, h⟩
  · replace c1 : t.toInt < (iv M (10 + e) 7).toInt := mC_gt.1 c1
    replace h := eConst (mi := 13) (pc := 28) (len := 1) (v := 0) rfl h
    obtain ⟨e1, e2⟩ := eRetI (mi := 13) (pc := 29) (len := 1) rfl h
    have e3 : bFind M e t = false := by
      unfold bFind
      simp only [decide_eq_true c1, cond_true, cond_false]
    rw [e3]
    exact ⟨e1, e2⟩
  · replace c1 : ¬ t.toInt < (iv M (10 + e) 7).toInt := mC_gt.2 c1
    replace h := eAload (mi := 13) (pc := 8) (len := 1) (i := 1) rfl rfl h
    replace h := eCallP (mi := 13) (pc := 9) (len := 3) (j := 28) (as := [.ref (10 + e)]) (rest := []) rfl (Or.inr (Or.inl rfl)) (by decide) rfl rfl (fun _ _ _ _ g => bMis_en hS hd_e g) h
    rcases eIf (mi := 13) (pc := 12) (len := 3) (t := 28) rfl rfl h with ⟨c2, h⟩ | ⟨c2, h⟩
    · replace c2 : bMis M (e) = true := mB_ne.1 c2
      replace h := eConst (mi := 13) (pc := 28) (len := 1) (v := 0) rfl h
      obtain ⟨e1, e2⟩ := eRetI (mi := 13) (pc := 29) (len := 1) rfl h
      have e3 : bFind M e t = false := by
        unfold bFind
        simp only [decide_eq_false c1, c2, cond_true, cond_false]
      rw [e3]
      exact ⟨e1, e2⟩
    · replace c2 : bMis M (e) = false := mB_ne.2 c2
      replace h := eAload (mi := 13) (pc := 15) (len := 1) (i := 0) rfl rfl h
      replace h := eAload (mi := 13) (pc := 16) (len := 1) (i := 1) rfl rfl h
      replace h := eIload (mi := 13) (pc := 17) (len := 1) (i := 2) rfl rfl h
      replace h := eCallP (mi := 13) (pc := 18) (len := 3) (j := 12) (as := [.ref 170, .ref (10 + e), .int t]) (rest := []) rfl (Or.inr (Or.inl rfl)) (by decide) rfl rfl (fun _ _ _ _ g => bWild_en hS hd_e g) h
      rcases eIf (mi := 13) (pc := 21) (len := 3) (t := 28) rfl rfl h with ⟨c3, h⟩ | ⟨c3, h⟩
      · replace c3 : bWild M (e) t = true := mB_ne.1 c3
        replace h := eConst (mi := 13) (pc := 28) (len := 1) (v := 0) rfl h
        obtain ⟨e1, e2⟩ := eRetI (mi := 13) (pc := 29) (len := 1) rfl h
        have e3 : bFind M e t = false := by
          unfold bFind
          simp only [decide_eq_false c1, c2, c3, cond_true, cond_false]
        rw [e3]
        exact ⟨e1, e2⟩
      · replace c3 : bWild M (e) t = false := mB_ne.2 c3
        replace h := eConst (mi := 13) (pc := 24) (len := 1) (v := 1) rfl h
        replace h := eGoto (mi := 13) (pc := 25) (len := 3) (t := 29) rfl rfl h
        obtain ⟨e1, e2⟩ := eRetI (mi := 13) (pc := 29) (len := 1) rfl h
        have e3 : bFind M e t = true := by
          unfold bFind
          simp only [decide_eq_false c1, c2, c3, cond_true, cond_false]
        rw [e3]
        exact ⟨e1, e2⟩
/-- WidowDeeds$Chain.whyHidden -/
def fHid (M : Mem) (e : Nat) : Int32 := (bif decide ((iv M 170 5).toInt < (iv M (10 + e) 7).toInt) then (0 : Int32) else (bif bMis M (e) then (1 : Int32) else (bif bWild M (e) (iv M 170 5) then (2 : Int32) else ((-1) : Int32))))
theorem fHid_en {e : Nat} {n d : Nat} {M : Mem} {r : Option Value} {M1 : Mem} (hS : Sh M) (hd_e : e < 40) (h : En n d 18 0 (lv_args 0 [.ref 170, .ref (10 + e)]) [] M r M1) : r = some (.int (fHid M e)) ∧ M1 = M := by
  replace h := eAload (mi := 18) (pc := 0) (len := 1) (i := 1) rfl rfl h
  replace h := eGetD (e := e) (f := 7) hS hd_e rfl rfl  (j := 107) (mi := 18) (pc := 1) (len := 3) rfl h
  replace h := eAload (mi := 18) (pc := 4) (len := 1) (i := 0) rfl rfl h
  replace h := eGetI (a := 170) (j := 5) hS (by decide) (by decide) rfl (mi := 18) (pc := 5) (len := 3) rfl h
  rcases eIc (mi := 18) (pc := 8) (len := 3) (t := 13) rfl rfl h with ⟨c1, h⟩ | ⟨c1, h⟩
  · replace c1 : ¬ (iv M 170 5).toInt < (iv M (10 + e) 7).toInt := mC_le.1 c1
    replace h := eAload (mi := 18) (pc := 13) (len := 1) (i := 1) rfl rfl h
    replace h := eCallP (mi := 18) (pc := 14) (len := 3) (j := 28) (as := [.ref (10 + e)]) (rest := []) rfl (Or.inr (Or.inl rfl)) (by decide) rfl rfl (fun _ _ _ _ g => bMis_en hS hd_e g) h
    rcases eIf (mi := 18) (pc := 17) (len := 3) (t := 22) rfl rfl h with ⟨c2, h⟩ | ⟨c2, h⟩
    · replace c2 : bMis M (e) = false := mB_eq.1 c2
      replace h := eAload (mi := 18) (pc := 22) (len := 1) (i := 0) rfl rfl h
      replace h := eAload (mi := 18) (pc := 23) (len := 1) (i := 1) rfl rfl h
      replace h := eAload (mi := 18) (pc := 24) (len := 1) (i := 0) rfl rfl h
      replace h := eGetI (a := 170) (j := 5) hS (by decide) (by decide) rfl (mi := 18) (pc := 25) (len := 3) rfl h
      replace h := eCallP (mi := 18) (pc := 28) (len := 3) (j := 12) (as := [.ref 170, .ref (10 + e), .int (iv M 170 5)]) (rest := []) rfl (Or.inr (Or.inl rfl)) (by decide) rfl rfl (fun _ _ _ _ g => bWild_en hS hd_e g) h
      rcases eIf (mi := 18) (pc := 31) (len := 3) (t := 38) rfl rfl h with ⟨c3, h⟩ | ⟨c3, h⟩
      · replace c3 : bWild M (e) (iv M 170 5) = false := mB_eq.1 c3
        replace h := eConst (mi := 18) (pc := 38) (len := 1) (v := (-1)) rfl h
        obtain ⟨e1, e2⟩ := eRetI (mi := 18) (pc := 39) (len := 1) rfl h
        have e3 : fHid M e = ((-1) : Int32) := by
          unfold fHid
          simp only [decide_eq_false c1, c2, c3, cond_true, cond_false]
        rw [e3]
        exact ⟨e1, e2⟩
      · replace c3 : bWild M (e) (iv M 170 5) = true := mB_eq.2 c3
        replace h := eConst (mi := 18) (pc := 34) (len := 1) (v := 2) rfl h
        replace h := eGoto (mi := 18) (pc := 35) (len := 3) (t := 39) rfl rfl h
        obtain ⟨e1, e2⟩ := eRetI (mi := 18) (pc := 39) (len := 1) rfl h
        have e3 : fHid M e = (2 : Int32) := by
          unfold fHid
          simp only [decide_eq_false c1, c2, c3, cond_true, cond_false]
        rw [e3]
        exact ⟨e1, e2⟩
    · replace c2 : bMis M (e) = true := mB_eq.2 c2
      replace h := eConst (mi := 18) (pc := 20) (len := 1) (v := 1) rfl h
      obtain ⟨e1, e2⟩ := eRetI (mi := 18) (pc := 21) (len := 1) rfl h
      have e3 : fHid M e = (1 : Int32) := by
        unfold fHid
        simp only [decide_eq_false c1, c2, cond_true, cond_false]
      rw [e3]
      exact ⟨e1, e2⟩
  · replace c1 : (iv M 170 5).toInt < (iv M (10 + e) 7).toInt := mC_le.2 c1
    replace h := eConst (mi := 18) (pc := 11) (len := 1) (v := 0) rfl h
    obtain ⟨e1, e2⟩ := eRetI (mi := 18) (pc := 12) (len := 1) rfl h
    have e3 : fHid M e = (0 : Int32) := by
      unfold fHid
      simp only [decide_eq_true c1, cond_true, cond_false]
    rw [e3]
    exact ⟨e1, e2⟩
/-- WidowDeeds.within -/
def bIn (x : Int32) (y : Int32) : Bool := (bif decide (x.toInt < 0) then false else (bif decide (x.toInt < y.toInt) then true else false))
theorem bIn_en {x : Int32} {y : Int32} {n d : Nat} {M : Mem} {r : Option Value} {M1 : Mem} (hS : Sh M) (h : En n d 148 0 (lv_args 0 [.int x, .int y]) [] M r M1) : r = some (.int (b2 (bIn x y))) ∧ M1 = M := by
  replace h := eIload (mi := 148) (pc := 0) (len := 1) (i := 0) rfl rfl h
  rcases eIf (mi := 148) (pc := 1) (len := 3) (t := 13) rfl rfl h with ⟨c1, h⟩ | ⟨c1, h⟩
  · replace c1 : x.toInt < 0 := mC_lt.1 c1
    replace h := eConst (mi := 148) (pc := 13) (len := 1) (v := 0) rfl h
    obtain ⟨e1, e2⟩ := eRetI (mi := 148) (pc := 14) (len := 1) rfl h
    have e3 : bIn x y = false := by
      unfold bIn
      simp only [decide_eq_true c1, cond_true, cond_false]
    rw [e3]
    exact ⟨e1, e2⟩
  · replace c1 : ¬ x.toInt < 0 := mC_lt.2 c1
    replace h := eIload (mi := 148) (pc := 4) (len := 1) (i := 0) rfl rfl h
    replace h := eIload (mi := 148) (pc := 5) (len := 1) (i := 1) rfl rfl h
    rcases eIc (mi := 148) (pc := 6) (len := 3) (t := 13) rfl rfl h with ⟨c2, h⟩ | ⟨c2, h⟩
    · replace c2 : ¬ x.toInt < y.toInt := mC_ge.1 c2
      replace h := eConst (mi := 148) (pc := 13) (len := 1) (v := 0) rfl h
      obtain ⟨e1, e2⟩ := eRetI (mi := 148) (pc := 14) (len := 1) rfl h
      have e3 : bIn x y = false := by
        unfold bIn
        simp only [decide_eq_false c1, decide_eq_false c2, cond_true, cond_false]
      rw [e3]
      exact ⟨e1, e2⟩
    · replace c2 : x.toInt < y.toInt := mC_ge.2 c2
      replace h := eConst (mi := 148) (pc := 9) (len := 1) (v := 1) rfl h
      replace h := eGoto (mi := 148) (pc := 10) (len := 3) (t := 14) rfl rfl h
      obtain ⟨e1, e2⟩ := eRetI (mi := 148) (pc := 14) (len := 1) rfl h
      have e3 : bIn x y = true := by
        unfold bIn
        simp only [decide_eq_false c1, decide_eq_true c2, cond_true, cond_false]
      rw [e3]
      exact ⟨e1, e2⟩
/-- WidowDeeds.isPerson -/
def bPer (x : Int32) : Bool := bIn x (10 : Int32)
theorem bPer_en {x : Int32} {n d : Nat} {M : Mem} {r : Option Value} {M1 : Mem} (hS : Sh M) (h : En n d 149 0 (lv_args 0 [.int x]) [] M r M1) : r = some (.int (b2 (bPer x))) ∧ M1 = M := by
  replace h := eIload (mi := 149) (pc := 0) (len := 1) (i := 0) rfl rfl h
  replace h := eConst (mi := 149) (pc := 1) (len := 2) (v := 10) rfl h
  replace h := eCallP (mi := 149) (pc := 3) (len := 3) (j := 148) (as := [.int x, .int (10 : Int32)]) (rest := []) rfl (Or.inl rfl) (by decide) rfl rfl (fun _ _ _ _ g => bIn_en hS g) h
  obtain ⟨e1, e2⟩ := eRetI (mi := 149) (pc := 6) (len := 1) rfl h
  have e3 : bPer x = bIn x (10 : Int32) := by
    unfold bPer
    rfl
  rw [e3]
  exact ⟨e1, e2⟩
/-- WidowDeeds.isStrip -/
def bStr (x : Int32) : Bool := bIn x (8 : Int32)
theorem bStr_en {x : Int32} {n d : Nat} {M : Mem} {r : Option Value} {M1 : Mem} (hS : Sh M) (h : En n d 150 0 (lv_args 0 [.int x]) [] M r M1) : r = some (.int (b2 (bStr x))) ∧ M1 = M := by
  replace h := eIload (mi := 150) (pc := 0) (len := 1) (i := 0) rfl rfl h
  replace h := eConst (mi := 150) (pc := 1) (len := 2) (v := 8) rfl h
  replace h := eCallP (mi := 150) (pc := 3) (len := 3) (j := 148) (as := [.int x, .int (8 : Int32)]) (rest := []) rfl (Or.inl rfl) (by decide) rfl rfl (fun _ _ _ _ g => bIn_en hS g) h
  obtain ⟨e1, e2⟩ := eRetI (mi := 150) (pc := 6) (len := 1) rfl h
  have e3 : bStr x = bIn x (8 : Int32) := by
    unfold bStr
    rfl
  rw [e3]
  exact ⟨e1, e2⟩
/-- WidowDeeds.isDay -/
def bDay (x : Int32) : Bool := bIn x (1000 : Int32)
theorem bDay_en {x : Int32} {n d : Nat} {M : Mem} {r : Option Value} {M1 : Mem} (hS : Sh M) (h : En n d 151 0 (lv_args 0 [.int x]) [] M r M1) : r = some (.int (b2 (bDay x))) ∧ M1 = M := by
  replace h := eIload (mi := 151) (pc := 0) (len := 1) (i := 0) rfl rfl h
  replace h := eConst (mi := 151) (pc := 1) (len := 3) (v := 1000) rfl h
  replace h := eCallP (mi := 151) (pc := 4) (len := 3) (j := 148) (as := [.int x, .int (1000 : Int32)]) (rest := []) rfl (Or.inl rfl) (by decide) rfl rfl (fun _ _ _ _ g => bIn_en hS g) h
  obtain ⟨e1, e2⟩ := eRetI (mi := 151) (pc := 7) (len := 1) rfl h
  have e3 : bDay x = bIn x (1000 : Int32) := by
    unfold bDay
    rfl
  rw [e3]
  exact ⟨e1, e2⟩
/-- WidowDeeds.isDeed -/
def bDeed (M : Mem) (x : Int32) : Bool := bIn x (iv M 7 2)
theorem bDeed_en {x : Int32} {n d : Nat} {M : Mem} {r : Option Value} {M1 : Mem} (hS : Sh M) (h : En n d 154 0 (lv_args 0 [.ref 2, .int x]) [] M r M1) : r = some (.int (b2 (bDeed M x))) ∧ M1 = M := by
  replace h := eIload (mi := 154) (pc := 0) (len := 1) (i := 1) rfl rfl h
  replace h := eAload (mi := 154) (pc := 1) (len := 1) (i := 0) rfl rfl h
  replace h := eGetR (a := 2) (j := 1001) (g := 7) hS (by decide) (by decide) rfl rfl rfl (mi := 154) (pc := 2) (len := 3) rfl h
  replace h := eGetI (a := 7) (j := 602) hS (by decide) (by decide) rfl (mi := 154) (pc := 5) (len := 3) rfl h
  replace h := eCallP (mi := 154) (pc := 8) (len := 3) (j := 148) (as := [.int x, .int (iv M 7 2)]) (rest := []) rfl (Or.inl rfl) (by decide) rfl rfl (fun _ _ _ _ g => bIn_en hS g) h
  obtain ⟨e1, e2⟩ := eRetI (mi := 154) (pc := 11) (len := 1) rfl h
  have e3 : bDeed M x = bIn x (iv M 7 2) := by
    unfold bDeed
    rfl
  rw [e3]
  exact ⟨e1, e2⟩
/-- WidowDeeds.isDeedOf -/
def bDOf (M : Mem) (x : Int32) (s : Int32) : Bool := (bif bDeed M x then (bif bStr s then (bif bOf M (x.toInt.toNat) s then true else false) else false) else false)
theorem bDOf_en {x : Int32} {s : Int32} {n d : Nat} {M : Mem} {r : Option Value} {M1 : Mem} (hS : Sh M) (hY : yT8 M) (h : En n d 155 0 (lv_args 0 [.ref 2, .int x, .int s]) [] M r M1) : r = some (.int (b2 (bDOf M x s))) ∧ M1 = M := by
  replace h := eAload (mi := 155) (pc := 0) (len := 1) (i := 0) rfl rfl h
  replace h := eIload (mi := 155) (pc := 1) (len := 1) (i := 1) rfl rfl h
  replace h := eCallP (mi := 155) (pc := 2) (len := 3) (j := 154) (as := [.ref 2, .int x]) (rest := []) rfl (Or.inr (Or.inl rfl)) (by decide) rfl rfl (fun _ _ _ _ g => bDeed_en hS g) h
  rcases eIf (mi := 155) (pc := 5) (len := 3) (t := 35) rfl rfl h with ⟨c1, h⟩ | ⟨c1, h⟩
  · replace c1 : bDeed M x = false := mB_eq.1 c1
    replace h := eConst (mi := 155) (pc := 35) (len := 1) (v := 0) rfl h
    obtain ⟨e1, e2⟩ := eRetI (mi := 155) (pc := 36) (len := 1) rfl h
    have e3 : bDOf M x s = false := by
      unfold bDOf
      simp only [c1, cond_true, cond_false]
    rw [e3]
    exact ⟨e1, e2⟩
  · replace c1 : bDeed M x = true := mB_eq.2 c1
    replace h := eIload (mi := 155) (pc := 8) (len := 1) (i := 2) rfl rfl h
    replace h := eCallP (mi := 155) (pc := 9) (len := 3) (j := 150) (as := [.int s]) (rest := []) rfl (Or.inl rfl) (by decide) rfl rfl (fun _ _ _ _ g => bStr_en hS g) h
    rcases eIf (mi := 155) (pc := 12) (len := 3) (t := 35) rfl rfl h with ⟨c2, h⟩ | ⟨c2, h⟩
    · replace c2 : bStr s = false := mB_eq.1 c2
      replace h := eConst (mi := 155) (pc := 35) (len := 1) (v := 0) rfl h
      obtain ⟨e1, e2⟩ := eRetI (mi := 155) (pc := 36) (len := 1) rfl h
      have e3 : bDOf M x s = false := by
        unfold bDOf
        simp only [c1, c2, cond_true, cond_false]
      rw [e3]
      exact ⟨e1, e2⟩
    · replace c2 : bStr s = true := mB_eq.2 c2
      replace h := eAload (mi := 155) (pc := 15) (len := 1) (i := 0) rfl rfl h
      replace h := eGetR (a := 2) (j := 1001) (g := 7) hS (by decide) (by decide) rfl rfl rfl (mi := 155) (pc := 16) (len := 3) rfl h
      replace h := eGetR (a := 7) (j := 600) (g := 8) hS (by decide) (by decide) rfl rfl rfl (mi := 155) (pc := 19) (len := 3) rfl h
      replace h := eIload (mi := 155) (pc := 22) (len := 1) (i := 1) rfl rfl h
      obtain ⟨b3, h⟩ := eDeed (x := x) hS hY (mi := 155) (pc := 23) (len := 1) rfl h
      replace h := eIload (mi := 155) (pc := 24) (len := 1) (i := 2) rfl rfl h
      replace h := eCallP (mi := 155) (pc := 25) (len := 3) (j := 26) (as := [.ref (10 + x.toInt.toNat), .int s]) (rest := []) rfl (Or.inr (Or.inl rfl)) (by decide) rfl rfl (fun _ _ _ _ g => bOf_en hS b3.2 g) h
      rcases eIf (mi := 155) (pc := 28) (len := 3) (t := 35) rfl rfl h with ⟨c4, h⟩ | ⟨c4, h⟩
      · replace c4 : bOf M (x.toInt.toNat) s = false := mB_eq.1 c4
        replace h := eConst (mi := 155) (pc := 35) (len := 1) (v := 0) rfl h
        obtain ⟨e1, e2⟩ := eRetI (mi := 155) (pc := 36) (len := 1) rfl h
        have e3 : bDOf M x s = false := by
          unfold bDOf
          simp only [c1, c2, c4, cond_true, cond_false]
        rw [e3]
        exact ⟨e1, e2⟩
      · replace c4 : bOf M (x.toInt.toNat) s = true := mB_eq.2 c4
        replace h := eConst (mi := 155) (pc := 31) (len := 1) (v := 1) rfl h
        replace h := eGoto (mi := 155) (pc := 32) (len := 3) (t := 36) rfl rfl h
        obtain ⟨e1, e2⟩ := eRetI (mi := 155) (pc := 36) (len := 1) rfl h
        have e3 : bDOf M x s = true := by
          unfold bDOf
          simp only [c1, c2, c4, cond_true, cond_false]
        rw [e3]
        exact ⟨e1, e2⟩

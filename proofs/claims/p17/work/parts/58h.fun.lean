/-! the reference: what is seen (printed by fn3.py) -/
def nR (M : Mem) : Nat := (iv M 181 0).toInt.toNat
def rHit (M : Mem) (x s u : Int32) (k : Nat) : Bool := decide ((iv M 189 k).toInt = 0) && (rOf M (Int32.ofNat k) s && (decide ((iv M 186 k).toInt = (iv M 185 x.toInt.toNat).toInt) && rEnt M (Int32.ofNat k) u))
def rAny (M : Mem) (x s u : Int32) : Nat → Bool
  | 0 => false
  | k + 1 => rAny M x s u k || rHit M x s u k
theorem rAny_le {M : Mem} {x s u : Int32} {k m : Nat} (h : rAny M x s u k = true) (hm : k ≤ m) : rAny M x s u m = true := by
  induction m with
  | zero => rw [show k = 0 by omega] at h; exact h
  | succ m ih =>
    by_cases q : k = m + 1
    · rw [q] at h; exact h
    · show (rAny M x s u m || _) = true
      rw [ih (by omega), Bool.true_or]
def rWild (M : Mem) (x s u : Int32) : Bool := bif decide ((iv M 185 x.toInt.toNat).toInt = (iv M 183 s.toInt.toNat).toInt) then false else !rAny M x s u (nR M)
theorem rWild_lp {M : Mem} {x s u : Int32} (hS : Sh M) (hw : ¬ (iv M 185 x.toInt.toNat).toInt = (iv M 183 s.toInt.toNat).toInt) : ∀ (n : Nat) {d : Nat} {L : MLoc} {r : Option Value} {M1 : Mem} {k : Int32}, mLd L 0 = some (.ref 181) → mLd L 1 = some (.int x) → mLd L 2 = some (.int s) → mLd L 3 = some (.int u) → mLd L 4 = some (.int k) → 0 ≤ k.toInt → (k.toInt ≤ (iv M 181 0).toInt ∨ k.toInt = 0) → rAny M x s u k.toInt.toNat = false → En n d 216 20 L [] M r M1 → r = some (.int (b2 (rWild M x s u))) ∧ M1 = M := by
  intro n
  induction n with
  | zero => intro d L r M1 k _ _ _ _ _ _ _ _ h; exact (En.zero (mi := 216) (pc := 20) (len := 2) rfl h).elim
  | succ n ih =>
    intro d L r M1 k l0 l1 l2 l3 l4 k0 kc hz h
    replace h := eIloadS (mi := 216) (pc := 20) (len := 2) (i := 4) rfl l4 h
    replace h := eAload (mi := 216) (pc := 22) (len := 1) (i := 0) rfl l0 h
    replace h := eGetI (a := 181) (j := 1100) hS (by decide) (by decide) rfl (mi := 216) (pc := 23) (len := 3) rfl h
    rcases eIc (mi := 216) (pc := 26) (len := 3) (t := 83) rfl rfl h with ⟨c1, h⟩ | ⟨c1, h⟩
    · replace c1 : ¬ k.toInt < (iv M 181 0).toInt := mC_ge.1 c1
      replace h := eConst (mi := 216) (pc := 83) (len := 1) (v := 1) rfl h
      obtain ⟨e1, e2⟩ := eRetI (mi := 216) (pc := 84) (len := 1) rfl h
      have en : nR M = k.toInt.toNat := by unfold nR; omega
      have ha : rAny M x s u (nR M) = false := by rw [en]; exact hz
      have e3 : rWild M x s u = true := by unfold rWild; rw [decide_eq_false hw, ha]; rfl
      rw [e3]
      exact ⟨e1, e2⟩
    · replace c1 : k.toInt < (iv M 181 0).toInt := mC_ge.2 c1
      replace h := eAload (mi := 216) (pc := 29) (len := 1) (i := 0) rfl l0 h
      replace h := eGetR (a := 181) (j := 1109) (g := 189) hS (by decide) (by decide) rfl rfl rfl (mi := 216) (pc := 30) (len := 3) rfl h
      replace h := eIload (mi := 216) (pc := 33) (len := 2) (i := 4) rfl l4 h
      obtain ⟨b2, h⟩ := eIald (x := k) hS (a := 189) (by decide) (by decide) rfl (mi := 216) (pc := 35) (len := 1) rfl h
      rcases eIf (mi := 216) (pc := 36) (len := 3) (t := 77) rfl rfl h with ⟨c3, h⟩ | ⟨c3, h⟩
      · replace c3 : ¬ (iv M 189 k.toInt.toNat).toInt = 0 := mC_ne.1 c3
        replace h := eIinc (mi := 216) (pc := 77) (len := 3) (i := 4) (k := 1) rfl l4 (by decide) h
        replace h := eGoto (mi := 216) (pc := 80) (len := 3) (t := 20) rfl rfl h
        have kb : k.toInt.toNat < 40 := b2.2
        have ek : (k + 1).toInt = k.toInt + 1 := i32_inc k0 (by omega)
        have en : (k + 1).toInt.toNat = k.toInt.toNat + 1 := by omega
        have hb : rHit M x s u k.toInt.toNat = false := by
          unfold rHit
          rw [i32_natR k0]
          simp only [decide_eq_false c3, Bool.true_and, Bool.false_and, Bool.and_true, Bool.and_false]
        refine ih (k := k + 1) (mLd_st1_ref (by decide) l0) (mLd_st1_int (by decide) l1) (mLd_st1_int (by decide) l2) (mLd_st1_int (by decide) l3) mLd_st1_i (by omega) (Or.inl (by omega)) ?_ h
        rw [en]
        show (rAny M x s u k.toInt.toNat || rHit M x s u k.toInt.toNat) = false
        rw [hz, hb]
        rfl
      · replace c3 : (iv M 189 k.toInt.toNat).toInt = 0 := mC_ne.2 c3
        replace h := eAload (mi := 216) (pc := 39) (len := 1) (i := 0) rfl l0 h
        replace h := eIload (mi := 216) (pc := 40) (len := 2) (i := 4) rfl l4 h
        replace h := eIload (mi := 216) (pc := 42) (len := 1) (i := 2) rfl l2 h
        replace h := eCallP (mi := 216) (pc := 43) (len := 3) (j := 178) (as := [.ref 181, .int k, .int s]) (rest := []) rfl (Or.inr (Or.inl rfl)) (by decide) rfl rfl (fun _ _ _ _ g => rOf_en hS g) h
        rcases eIf (mi := 216) (pc := 46) (len := 3) (t := 77) rfl rfl h with ⟨c4, h⟩ | ⟨c4, h⟩
        · replace c4 : rOf M k s = false := mB_eq.1 c4
          replace h := eIinc (mi := 216) (pc := 77) (len := 3) (i := 4) (k := 1) rfl l4 (by decide) h
          replace h := eGoto (mi := 216) (pc := 80) (len := 3) (t := 20) rfl rfl h
          have kb : k.toInt.toNat < 40 := b2.2
          have ek : (k + 1).toInt = k.toInt + 1 := i32_inc k0 (by omega)
          have en : (k + 1).toInt.toNat = k.toInt.toNat + 1 := by omega
          have hb : rHit M x s u k.toInt.toNat = false := by
            unfold rHit
            rw [i32_natR k0]
            simp only [decide_eq_true c3, c4, Bool.true_and, Bool.false_and, Bool.and_true, Bool.and_false]
          refine ih (k := k + 1) (mLd_st1_ref (by decide) l0) (mLd_st1_int (by decide) l1) (mLd_st1_int (by decide) l2) (mLd_st1_int (by decide) l3) mLd_st1_i (by omega) (Or.inl (by omega)) ?_ h
          rw [en]
          show (rAny M x s u k.toInt.toNat || rHit M x s u k.toInt.toNat) = false
          rw [hz, hb]
          rfl
        · replace c4 : rOf M k s = true := mB_eq.2 c4
          replace h := eAload (mi := 216) (pc := 49) (len := 1) (i := 0) rfl l0 h
          replace h := eGetR (a := 181) (j := 1106) (g := 186) hS (by decide) (by decide) rfl rfl rfl (mi := 216) (pc := 50) (len := 3) rfl h
          replace h := eIload (mi := 216) (pc := 53) (len := 2) (i := 4) rfl l4 h
          obtain ⟨b5, h⟩ := eIald (x := k) hS (a := 186) (by decide) (by decide) rfl (mi := 216) (pc := 55) (len := 1) rfl h
          replace h := eAload (mi := 216) (pc := 56) (len := 1) (i := 0) rfl l0 h
          replace h := eGetR (a := 181) (j := 1105) (g := 185) hS (by decide) (by decide) rfl rfl rfl (mi := 216) (pc := 57) (len := 3) rfl h
          replace h := eIload (mi := 216) (pc := 60) (len := 1) (i := 1) rfl l1 h
          obtain ⟨b6, h⟩ := eIald (x := x) hS (a := 185) (by decide) (by decide) rfl (mi := 216) (pc := 61) (len := 1) rfl h
          rcases eIc (mi := 216) (pc := 62) (len := 3) (t := 77) rfl rfl h with ⟨c7, h⟩ | ⟨c7, h⟩
          · replace c7 : ¬ (iv M 186 k.toInt.toNat).toInt = (iv M 185 x.toInt.toNat).toInt := mC_ne.1 c7
            replace h := eIinc (mi := 216) (pc := 77) (len := 3) (i := 4) (k := 1) rfl l4 (by decide) h
            replace h := eGoto (mi := 216) (pc := 80) (len := 3) (t := 20) rfl rfl h
            have kb : k.toInt.toNat < 40 := b2.2
            have ek : (k + 1).toInt = k.toInt + 1 := i32_inc k0 (by omega)
            have en : (k + 1).toInt.toNat = k.toInt.toNat + 1 := by omega
            have hb : rHit M x s u k.toInt.toNat = false := by
              unfold rHit
              rw [i32_natR k0]
              simp only [decide_eq_true c3, c4, decide_eq_false c7, Bool.true_and, Bool.false_and, Bool.and_true, Bool.and_false]
            refine ih (k := k + 1) (mLd_st1_ref (by decide) l0) (mLd_st1_int (by decide) l1) (mLd_st1_int (by decide) l2) (mLd_st1_int (by decide) l3) mLd_st1_i (by omega) (Or.inl (by omega)) ?_ h
            rw [en]
            show (rAny M x s u k.toInt.toNat || rHit M x s u k.toInt.toNat) = false
            rw [hz, hb]
            rfl
          · replace c7 : (iv M 186 k.toInt.toNat).toInt = (iv M 185 x.toInt.toNat).toInt := mC_ne.2 c7
            replace h := eAload (mi := 216) (pc := 65) (len := 1) (i := 0) rfl l0 h
            replace h := eIload (mi := 216) (pc := 66) (len := 2) (i := 4) rfl l4 h
            replace h := eIload (mi := 216) (pc := 68) (len := 1) (i := 3) rfl l3 h
            replace h := eCallP (mi := 216) (pc := 69) (len := 3) (j := 180) (as := [.ref 181, .int k, .int u]) (rest := []) rfl (Or.inr (Or.inl rfl)) (by decide) rfl rfl (fun _ _ _ _ g => rEnt_en hS g) h
            rcases eIf (mi := 216) (pc := 72) (len := 3) (t := 77) rfl rfl h with ⟨c8, h⟩ | ⟨c8, h⟩
            · replace c8 : rEnt M k u = false := mB_eq.1 c8
              replace h := eIinc (mi := 216) (pc := 77) (len := 3) (i := 4) (k := 1) rfl l4 (by decide) h
              replace h := eGoto (mi := 216) (pc := 80) (len := 3) (t := 20) rfl rfl h
              have kb : k.toInt.toNat < 40 := b2.2
              have ek : (k + 1).toInt = k.toInt + 1 := i32_inc k0 (by omega)
              have en : (k + 1).toInt.toNat = k.toInt.toNat + 1 := by omega
              have hb : rHit M x s u k.toInt.toNat = false := by
                unfold rHit
                rw [i32_natR k0]
                simp only [decide_eq_true c3, c4, decide_eq_true c7, c8, Bool.true_and, Bool.false_and, Bool.and_true, Bool.and_false]
              refine ih (k := k + 1) (mLd_st1_ref (by decide) l0) (mLd_st1_int (by decide) l1) (mLd_st1_int (by decide) l2) (mLd_st1_int (by decide) l3) mLd_st1_i (by omega) (Or.inl (by omega)) ?_ h
              rw [en]
              show (rAny M x s u k.toInt.toNat || rHit M x s u k.toInt.toNat) = false
              rw [hz, hb]
              rfl
            · replace c8 : rEnt M k u = true := mB_eq.2 c8
              replace h := eConst (mi := 216) (pc := 75) (len := 1) (v := 0) rfl h
              obtain ⟨e1, e2⟩ := eRetI (mi := 216) (pc := 76) (len := 1) rfl h
              have hb : rHit M x s u k.toInt.toNat = true := by
                unfold rHit
                rw [i32_natR k0]
                simp only [decide_eq_true c3, c4, decide_eq_true c7, c8, Bool.true_and, Bool.false_and, Bool.and_true, Bool.and_false]
              have ha : rAny M x s u (nR M) = true := by
                refine rAny_le (k := k.toInt.toNat + 1) ?_ (by unfold nR; omega)
                show (rAny M x s u k.toInt.toNat || rHit M x s u k.toInt.toNat) = true
                rw [hb, Bool.or_true]
              have e3 : rWild M x s u = false := by unfold rWild; rw [decide_eq_false hw, ha]; rfl
              rw [e3]
              exact ⟨e1, e2⟩
theorem rWild_en {x s u : Int32} {n d : Nat} {M : Mem} {r : Option Value} {M1 : Mem} (hS : Sh M) (h : En n d 216 0 (lv_args 0 [.ref 181, .int x, .int s, .int u]) [] M r M1) : r = some (.int (b2 (rWild M x s u))) ∧ M1 = M := by
  replace h := eAload (mi := 216) (pc := 0) (len := 1) (i := 0) rfl rfl h
  replace h := eGetR (a := 181) (j := 1105) (g := 185) hS (by decide) (by decide) rfl rfl rfl (mi := 216) (pc := 1) (len := 3) rfl h
  replace h := eIload (mi := 216) (pc := 4) (len := 1) (i := 1) rfl rfl h
  obtain ⟨b1, h⟩ := eIald (x := x) hS (a := 185) (by decide) (by decide) rfl (mi := 216) (pc := 5) (len := 1) rfl h
  replace h := eAload (mi := 216) (pc := 6) (len := 1) (i := 0) rfl rfl h
  replace h := eGetR (a := 181) (j := 1103) (g := 183) hS (by decide) (by decide) rfl rfl rfl (mi := 216) (pc := 7) (len := 3) rfl h
  replace h := eIload (mi := 216) (pc := 10) (len := 1) (i := 2) rfl rfl h
  obtain ⟨b2, h⟩ := eIald (x := s) hS (a := 183) (by decide) (by decide) rfl (mi := 216) (pc := 11) (len := 1) rfl h
  rcases eIc (mi := 216) (pc := 12) (len := 3) (t := 17) rfl rfl h with ⟨c3, h⟩ | ⟨c3, h⟩
  · replace c3 : ¬ (iv M 185 x.toInt.toNat).toInt = (iv M 183 s.toInt.toNat).toInt := mC_ne.1 c3
    replace h := eConst (mi := 216) (pc := 17) (len := 1) (v := 0) rfl h
    replace h := eIstore (mi := 216) (pc := 18) (len := 2) (i := 4) rfl (by decide) h
    exact rWild_lp hS c3 n (k := 0) rfl rfl rfl rfl rfl (Int.le_refl 0) (Or.inr rfl) rfl h
  · replace c3 : (iv M 185 x.toInt.toNat).toInt = (iv M 183 s.toInt.toNat).toInt := mC_ne.2 c3
    replace h := eConst (mi := 216) (pc := 15) (len := 1) (v := 0) rfl h
    obtain ⟨e1, e2⟩ := eRetI (mi := 216) (pc := 16) (len := 1) rfl h
    have e3 : rWild M x s u = false := by unfold rWild; rw [decide_eq_true c3]; rfl
    rw [e3]
    exact ⟨e1, e2⟩
/-- WidowDeedsModel.isFound -/
def rFind (M : Mem) (x : Int32) (s : Int32) (u : Int32) : Bool := (bif rEnt M x u then (bif rMis M x then false else (bif rWild M x s u then false else true)) else false)
theorem rFind_en {x : Int32} {s : Int32} {u : Int32} {n d : Nat} {M : Mem} {r : Option Value} {M1 : Mem} (hS : Sh M) (h : En n d 217 0 (lv_args 0 [.ref 181, .int x, .int s, .int u]) [] M r M1) : r = some (.int (b2 (rFind M x s u))) ∧ M1 = M := by
  replace h := eAload (mi := 217) (pc := 0) (len := 1) (i := 0) rfl rfl h
  replace h := eIload (mi := 217) (pc := 1) (len := 1) (i := 1) rfl rfl h
  replace h := eIload (mi := 217) (pc := 2) (len := 1) (i := 3) rfl rfl h
  replace h := eCallP (mi := 217) (pc := 3) (len := 3) (j := 180) (as := [.ref 181, .int x, .int u]) (rest := []) rfl (Or.inr (Or.inl rfl)) (by decide) rfl rfl (fun _ _ _ _ g => rEnt_en hS g) h
  rcases eIf (mi := 217) (pc := 6) (len := 3) (t := 31) rfl rfl h with ⟨c1, h⟩ | ⟨c1, h⟩
  · replace c1 : rEnt M x u = false := mB_eq.1 c1
    replace h := eConst (mi := 217) (pc := 31) (len := 1) (v := 0) rfl h
    obtain ⟨e1, e2⟩ := eRetI (mi := 217) (pc := 32) (len := 1) rfl h
    have e3 : rFind M x s u = false := by
      unfold rFind
      simp only [c1, cond_true, cond_false]
    rw [e3]
    exact ⟨e1, e2⟩
  · replace c1 : rEnt M x u = true := mB_eq.2 c1
    replace h := eAload (mi := 217) (pc := 9) (len := 1) (i := 0) rfl rfl h
    replace h := eIload (mi := 217) (pc := 10) (len := 1) (i := 1) rfl rfl h
    replace h := eCallP (mi := 217) (pc := 11) (len := 3) (j := 181) (as := [.ref 181, .int x]) (rest := []) rfl (Or.inr (Or.inl rfl)) (by decide) rfl rfl (fun _ _ _ _ g => rMis_en hS g) h
    rcases eIf (mi := 217) (pc := 14) (len := 3) (t := 31) rfl rfl h with ⟨c2, h⟩ | ⟨c2, h⟩
    · replace c2 : rMis M x = true := mB_ne.1 c2
      replace h := eConst (mi := 217) (pc := 31) (len := 1) (v := 0) rfl h
      obtain ⟨e1, e2⟩ := eRetI (mi := 217) (pc := 32) (len := 1) rfl h
      have e3 : rFind M x s u = false := by
        unfold rFind
        simp only [c1, c2, cond_true, cond_false]
      rw [e3]
      exact ⟨e1, e2⟩
    · replace c2 : rMis M x = false := mB_ne.2 c2
      replace h := eAload (mi := 217) (pc := 17) (len := 1) (i := 0) rfl rfl h
      replace h := eIload (mi := 217) (pc := 18) (len := 1) (i := 1) rfl rfl h
      replace h := eIload (mi := 217) (pc := 19) (len := 1) (i := 2) rfl rfl h
      replace h := eIload (mi := 217) (pc := 20) (len := 1) (i := 3) rfl rfl h
      replace h := eCallP (mi := 217) (pc := 21) (len := 3) (j := 216) (as := [.ref 181, .int x, .int s, .int u]) (rest := []) rfl (Or.inr (Or.inl rfl)) (by decide) rfl rfl (fun _ _ _ _ g => rWild_en hS g) h
      rcases eIf (mi := 217) (pc := 24) (len := 3) (t := 31) rfl rfl h with ⟨c3, h⟩ | ⟨c3, h⟩
      · replace c3 : rWild M x s u = true := mB_ne.1 c3
        replace h := eConst (mi := 217) (pc := 31) (len := 1) (v := 0) rfl h
        obtain ⟨e1, e2⟩ := eRetI (mi := 217) (pc := 32) (len := 1) rfl h
        have e3 : rFind M x s u = false := by
          unfold rFind
          simp only [c1, c2, c3, cond_true, cond_false]
        rw [e3]
        exact ⟨e1, e2⟩
      · replace c3 : rWild M x s u = false := mB_ne.2 c3
        replace h := eConst (mi := 217) (pc := 27) (len := 1) (v := 1) rfl h
        replace h := eGoto (mi := 217) (pc := 28) (len := 3) (t := 32) rfl rfl h
        obtain ⟨e1, e2⟩ := eRetI (mi := 217) (pc := 32) (len := 1) rfl h
        have e3 : rFind M x s u = true := by
          unfold rFind
          simp only [c1, c2, c3, cond_true, cond_false]
        rw [e3]
        exact ⟨e1, e2⟩
/-- WidowDeedsModel.seen -/
def seenR (M : Mem) (x : Int32) (s : Int32) (t : Int32) (w : Int32) : Int32 := (bif rDeed M x then (bif rStr s then (bif rOf M x s then (bif rDay t then (bif rIn w (0 : Int32) (1 : Int32) then (bif decide (w.toInt = 0) then (bif rWild M x s t then (1 : Int32) else (0 : Int32)) else (bif rFind M x s t then (1 : Int32) else (0 : Int32))) else ((-1) : Int32)) else ((-1) : Int32)) else ((-1) : Int32)) else ((-1) : Int32)) else ((-1) : Int32))
theorem seenR_en {x : Int32} {s : Int32} {t : Int32} {w : Int32} {n d : Nat} {M : Mem} {r : Option Value} {M1 : Mem} (hS : Sh M) (h : En n d 218 0 (lv_args 0 [.ref 181, .int x, .int s, .int t, .int w]) [] M r M1) : r = some (.int (seenR M x s t w)) ∧ M1 = M := by
  replace h := eAload (mi := 218) (pc := 0) (len := 1) (i := 0) rfl rfl h
  replace h := eIload (mi := 218) (pc := 1) (len := 1) (i := 1) rfl rfl h
  replace h := eCallP (mi := 218) (pc := 2) (len := 3) (j := 164) (as := [.ref 181, .int x]) (rest := []) rfl (Or.inr (Or.inl rfl)) (by decide) rfl rfl (fun _ _ _ _ g => rDeed_en hS g) h
  rcases eIf (mi := 218) (pc := 5) (len := 3) (t := 41) rfl rfl h with ⟨c1, h⟩ | ⟨c1, h⟩
  · replace c1 : rDeed M x = false := mB_eq.1 c1
    replace h := eConst (mi := 218) (pc := 41) (len := 1) (v := (-1)) rfl h
    obtain ⟨e1, e2⟩ := eRetI (mi := 218) (pc := 42) (len := 1) rfl h
    have e3 : seenR M x s t w = ((-1) : Int32) := by
      unfold seenR
      simp only [c1, cond_true, cond_false]
    rw [e3]
    exact ⟨e1, e2⟩
  · replace c1 : rDeed M x = true := mB_eq.2 c1
    replace h := eIload (mi := 218) (pc := 8) (len := 1) (i := 2) rfl rfl h
    replace h := eCallP (mi := 218) (pc := 9) (len := 3) (j := 163) (as := [.int s]) (rest := []) rfl (Or.inl rfl) (by decide) rfl rfl (fun _ _ _ _ g => rStr_en hS g) h
    rcases eIf (mi := 218) (pc := 12) (len := 3) (t := 41) rfl rfl h with ⟨c2, h⟩ | ⟨c2, h⟩
    · replace c2 : rStr s = false := mB_eq.1 c2
      replace h := eConst (mi := 218) (pc := 41) (len := 1) (v := (-1)) rfl h
      obtain ⟨e1, e2⟩ := eRetI (mi := 218) (pc := 42) (len := 1) rfl h
      have e3 : seenR M x s t w = ((-1) : Int32) := by
        unfold seenR
        simp only [c1, c2, cond_true, cond_false]
      rw [e3]
      exact ⟨e1, e2⟩
    · replace c2 : rStr s = true := mB_eq.2 c2
      replace h := eAload (mi := 218) (pc := 15) (len := 1) (i := 0) rfl rfl h
      replace h := eIload (mi := 218) (pc := 16) (len := 1) (i := 1) rfl rfl h
      replace h := eIload (mi := 218) (pc := 17) (len := 1) (i := 2) rfl rfl h
      replace h := eCallP (mi := 218) (pc := 18) (len := 3) (j := 178) (as := [.ref 181, .int x, .int s]) (rest := []) rfl (Or.inr (Or.inl rfl)) (by decide) rfl rfl (fun _ _ _ _ g => rOf_en hS g) h
      rcases eIf (mi := 218) (pc := 21) (len := 3) (t := 41) rfl rfl h with ⟨c3, h⟩ | ⟨c3, h⟩
      · replace c3 : rOf M x s = false := mB_eq.1 c3
        replace h := eConst (mi := 218) (pc := 41) (len := 1) (v := (-1)) rfl h
        obtain ⟨e1, e2⟩ := eRetI (mi := 218) (pc := 42) (len := 1) rfl h
        have e3 : seenR M x s t w = ((-1) : Int32) := by
          unfold seenR
          simp only [c1, c2, c3, cond_true, cond_false]
        rw [e3]
        exact ⟨e1, e2⟩
      · replace c3 : rOf M x s = true := mB_eq.2 c3
        replace h := eIload (mi := 218) (pc := 24) (len := 1) (i := 3) rfl rfl h
        replace h := eCallP (mi := 218) (pc := 25) (len := 3) (j := 161) (as := [.int t]) (rest := []) rfl (Or.inl rfl) (by decide) rfl rfl (fun _ _ _ _ g => rDay_en hS g) h
        rcases eIf (mi := 218) (pc := 28) (len := 3) (t := 41) rfl rfl h with ⟨c4, h⟩ | ⟨c4, h⟩
        · replace c4 : rDay t = false := mB_eq.1 c4
          replace h := eConst (mi := 218) (pc := 41) (len := 1) (v := (-1)) rfl h
          obtain ⟨e1, e2⟩ := eRetI (mi := 218) (pc := 42) (len := 1) rfl h
          have e3 : seenR M x s t w = ((-1) : Int32) := by
            unfold seenR
            simp only [c1, c2, c3, c4, cond_true, cond_false]
          rw [e3]
          exact ⟨e1, e2⟩
        · replace c4 : rDay t = true := mB_eq.2 c4
          replace h := eIload (mi := 218) (pc := 31) (len := 2) (i := 4) rfl rfl h
          replace h := eConst (mi := 218) (pc := 33) (len := 1) (v := 0) rfl h
          replace h := eConst (mi := 218) (pc := 34) (len := 1) (v := 1) rfl h
          replace h := eCallP (mi := 218) (pc := 35) (len := 3) (j := 160) (as := [.int w, .int (0 : Int32), .int (1 : Int32)]) (rest := []) rfl (Or.inl rfl) (by decide) rfl rfl (fun _ _ _ _ g => rIn_en hS g) h
          rcases eIf (mi := 218) (pc := 38) (len := 3) (t := 43) rfl rfl h with ⟨c5, h⟩ | ⟨c5, h⟩
          · replace c5 : rIn w (0 : Int32) (1 : Int32) = true := mB_ne.1 c5
            replace h := eIload (mi := 218) (pc := 43) (len := 2) (i := 4) rfl rfl h
            rcases eIf (mi := 218) (pc := 45) (len := 3) (t := 61) rfl rfl h with ⟨c6, h⟩ | ⟨c6, h⟩
            · replace c6 : ¬ w.toInt = 0 := mC_ne.1 c6
              replace h := eAload (mi := 218) (pc := 61) (len := 1) (i := 0) rfl rfl h
              replace h := eIload (mi := 218) (pc := 62) (len := 1) (i := 1) rfl rfl h
              replace h := eIload (mi := 218) (pc := 63) (len := 1) (i := 2) rfl rfl h
              replace h := eIload (mi := 218) (pc := 64) (len := 1) (i := 3) rfl rfl h
              replace h := eCallP (mi := 218) (pc := 65) (len := 3) (j := 217) (as := [.ref 181, .int x, .int s, .int t]) (rest := []) rfl (Or.inr (Or.inl rfl)) (by decide) rfl rfl (fun _ _ _ _ g => rFind_en hS g) h
              rcases eIf (mi := 218) (pc := 68) (len := 3) (t := 75) rfl rfl h with ⟨c7, h⟩ | ⟨c7, h⟩
              · replace c7 : rFind M x s t = false := mB_eq.1 c7
                replace h := eConst (mi := 218) (pc := 75) (len := 1) (v := 0) rfl h
                obtain ⟨e1, e2⟩ := eRetI (mi := 218) (pc := 76) (len := 1) rfl h
                have e3 : seenR M x s t w = (0 : Int32) := by
                  unfold seenR
                  simp only [c1, c2, c3, c4, c5, decide_eq_false c6, c7, cond_true, cond_false]
                rw [e3]
                exact ⟨e1, e2⟩
              · replace c7 : rFind M x s t = true := mB_eq.2 c7
                replace h := eConst (mi := 218) (pc := 71) (len := 1) (v := 1) rfl h
                replace h := eGoto (mi := 218) (pc := 72) (len := 3) (t := 76) rfl rfl h
                obtain ⟨e1, e2⟩ := eRetI (mi := 218) (pc := 76) (len := 1) rfl h
                have e3 : seenR M x s t w = (1 : Int32) := by
                  unfold seenR
                  simp only [c1, c2, c3, c4, c5, decide_eq_false c6, c7, cond_true, cond_false]
                rw [e3]
                exact ⟨e1, e2⟩
            · replace c6 : w.toInt = 0 := mC_ne.2 c6
              replace h := eAload (mi := 218) (pc := 48) (len := 1) (i := 0) rfl rfl h
              replace h := eIload (mi := 218) (pc := 49) (len := 1) (i := 1) rfl rfl h
              replace h := eIload (mi := 218) (pc := 50) (len := 1) (i := 2) rfl rfl h
              replace h := eIload (mi := 218) (pc := 51) (len := 1) (i := 3) rfl rfl h
              replace h := eCallP (mi := 218) (pc := 52) (len := 3) (j := 216) (as := [.ref 181, .int x, .int s, .int t]) (rest := []) rfl (Or.inr (Or.inl rfl)) (by decide) rfl rfl (fun _ _ _ _ g => rWild_en hS g) h
              rcases eIf (mi := 218) (pc := 55) (len := 3) (t := 75) rfl rfl h with ⟨c8, h⟩ | ⟨c8, h⟩
              · replace c8 : rWild M x s t = false := mB_eq.1 c8
                replace h := eConst (mi := 218) (pc := 75) (len := 1) (v := 0) rfl h
                obtain ⟨e1, e2⟩ := eRetI (mi := 218) (pc := 76) (len := 1) rfl h
                have e3 : seenR M x s t w = (0 : Int32) := by
                  unfold seenR
                  simp only [c1, c2, c3, c4, c5, decide_eq_true c6, c8, cond_true, cond_false]
                rw [e3]
                exact ⟨e1, e2⟩
              · replace c8 : rWild M x s t = true := mB_eq.2 c8
                replace h := eGoto (mi := 218) (pc := 58) (len := 3) (t := 71) rfl rfl h
                replace h := eConst (mi := 218) (pc := 71) (len := 1) (v := 1) rfl h
                replace h := eGoto (mi := 218) (pc := 72) (len := 3) (t := 76) rfl rfl h
                obtain ⟨e1, e2⟩ := eRetI (mi := 218) (pc := 76) (len := 1) rfl h
                have e3 : seenR M x s t w = (1 : Int32) := by
                  unfold seenR
                  simp only [c1, c2, c3, c4, c5, decide_eq_true c6, c8, cond_true, cond_false]
                rw [e3]
                exact ⟨e1, e2⟩
          · replace c5 : rIn w (0 : Int32) (1 : Int32) = false := mB_ne.2 c5
            replace h := eConst (mi := 218) (pc := 41) (len := 1) (v := (-1)) rfl h
            obtain ⟨e1, e2⟩ := eRetI (mi := 218) (pc := 42) (len := 1) rfl h
            have e3 : seenR M x s t w = ((-1) : Int32) := by
              unfold seenR
              simp only [c1, c2, c3, c4, c5, cond_true, cond_false]
            rw [e3]
            exact ⟨e1, e2⟩
/-- WidowDeedsModel.sight -/
def rSig (M : Mem) (x : Int32) (s : Int32) (t : Int32) : Int32 := (bif rEnt M x t then (bif rMis M x then (1 : Int32) else (bif rWild M x s t then (2 : Int32) else (3 : Int32))) else (0 : Int32))
theorem rSig_en {x : Int32} {s : Int32} {t : Int32} {n d : Nat} {M : Mem} {r : Option Value} {M1 : Mem} (hS : Sh M) (h : En n d 240 0 (lv_args 0 [.ref 181, .int x, .int s, .int t]) [] M r M1) : r = some (.int (rSig M x s t)) ∧ M1 = M := by
  replace h := eAload (mi := 240) (pc := 0) (len := 1) (i := 0) rfl rfl h
  replace h := eIload (mi := 240) (pc := 1) (len := 1) (i := 1) rfl rfl h
  replace h := eIload (mi := 240) (pc := 2) (len := 1) (i := 3) rfl rfl h
  replace h := eCallP (mi := 240) (pc := 3) (len := 3) (j := 180) (as := [.ref 181, .int x, .int t]) (rest := []) rfl (Or.inr (Or.inl rfl)) (by decide) rfl rfl (fun _ _ _ _ g => rEnt_en hS g) h
  rcases eIf (mi := 240) (pc := 6) (len := 3) (t := 13) rfl rfl h with ⟨c1, h⟩ | ⟨c1, h⟩
  · replace c1 : rEnt M x t = true := mB_ne.1 c1
    replace h := eAload (mi := 240) (pc := 13) (len := 1) (i := 0) rfl rfl h
    replace h := eIload (mi := 240) (pc := 14) (len := 1) (i := 1) rfl rfl h
    replace h := eCallP (mi := 240) (pc := 15) (len := 3) (j := 181) (as := [.ref 181, .int x]) (rest := []) rfl (Or.inr (Or.inl rfl)) (by decide) rfl rfl (fun _ _ _ _ g => rMis_en hS g) h
    rcases eIf (mi := 240) (pc := 18) (len := 3) (t := 25) rfl rfl h with ⟨c2, h⟩ | ⟨c2, h⟩
    · replace c2 : rMis M x = false := mB_eq.1 c2
      replace h := eAload (mi := 240) (pc := 25) (len := 1) (i := 0) rfl rfl h
      replace h := eIload (mi := 240) (pc := 26) (len := 1) (i := 1) rfl rfl h
      replace h := eIload (mi := 240) (pc := 27) (len := 1) (i := 2) rfl rfl h
      replace h := eIload (mi := 240) (pc := 28) (len := 1) (i := 3) rfl rfl h
      replace h := eCallP (mi := 240) (pc := 29) (len := 3) (j := 216) (as := [.ref 181, .int x, .int s, .int t]) (rest := []) rfl (Or.inr (Or.inl rfl)) (by decide) rfl rfl (fun _ _ _ _ g => rWild_en hS g) h
      rcases eIf (mi := 240) (pc := 32) (len := 3) (t := 39) rfl rfl h with ⟨c3, h⟩ | ⟨c3, h⟩
      · replace c3 : rWild M x s t = false := mB_eq.1 c3
        replace h := eConst (mi := 240) (pc := 39) (len := 1) (v := 3) rfl h
        obtain ⟨e1, e2⟩ := eRetI (mi := 240) (pc := 40) (len := 1) rfl h
        have e3 : rSig M x s t = (3 : Int32) := by
          unfold rSig
          simp only [c1, c2, c3, cond_true, cond_false]
        rw [e3]
        exact ⟨e1, e2⟩
      · replace c3 : rWild M x s t = true := mB_eq.2 c3
        replace h := eConst (mi := 240) (pc := 35) (len := 1) (v := 2) rfl h
        replace h := eGoto (mi := 240) (pc := 36) (len := 3) (t := 40) rfl rfl h
        obtain ⟨e1, e2⟩ := eRetI (mi := 240) (pc := 40) (len := 1) rfl h
        have e3 : rSig M x s t = (2 : Int32) := by
          unfold rSig
          simp only [c1, c2, c3, cond_true, cond_false]
        rw [e3]
        exact ⟨e1, e2⟩
    · replace c2 : rMis M x = true := mB_eq.2 c2
      replace h := eConst (mi := 240) (pc := 21) (len := 1) (v := 1) rfl h
      replace h := eGoto (mi := 240) (pc := 22) (len := 3) (t := 40) rfl rfl h
      obtain ⟨e1, e2⟩ := eRetI (mi := 240) (pc := 40) (len := 1) rfl h
      have e3 : rSig M x s t = (1 : Int32) := by
        unfold rSig
        simp only [c1, c2, cond_true, cond_false]
      rw [e3]
      exact ⟨e1, e2⟩
  · replace c1 : rEnt M x t = false := mB_ne.2 c1
    replace h := eConst (mi := 240) (pc := 9) (len := 1) (v := 0) rfl h
    replace h := eGoto (mi := 240) (pc := 10) (len := 3) (t := 40) rfl rfl h
    obtain ⟨e1, e2⟩ := eRetI (mi := 240) (pc := 40) (len := 1) rfl h
    have e3 : rSig M x s t = (0 : Int32) := by
      unfold rSig
      simp only [c1, cond_true, cond_false]
    rw [e3]
    exact ⟨e1, e2⟩
def unsB (M : Mem) (s t w : Int32) (k : Nat) : Bool := rOf M (Int32.ofNat k) s && (!decide (t.toInt < (iv M 188 k).toInt) && decide ((rSig M (Int32.ofNat k) s t).toInt = w.toInt))
def unsF (M : Mem) (s t w : Int32) : Nat → Int64
  | 0 => 0
  | k + 1 => bif unsB M s t w k then unsF M s t w k ||| bit1 (Int32.ofNat k) else unsF M s t w k
def unsR (M : Mem) (s t w : Int32) : Int64 := bif rStr s && (rDay t && rIn w 0 2) then unsF M s t w (nR M) else -1
theorem uns_lp {M : Mem} {s t w : Int32} (hS : Sh M) (hn : (iv M 181 0).toInt ≤ 40) : ∀ (n : Nat) {d : Nat} {L : MLoc} {r : Option Value} {M1 : Mem} {k : Int32} {z : Int64}, mLd L 0 = some (.ref 181) → mLd L 1 = some (.int s) → mLd L 2 = some (.int t) → mLd L 3 = some (.int w) → mLd L 4 = some (.long z) → mLd L 6 = some (.int k) → 0 ≤ k.toInt → (k.toInt ≤ (iv M 181 0).toInt ∨ k.toInt = 0) → z = unsF M s t w k.toInt.toNat → En n d 241 33 L [] M r M1 → r = some (.long (unsF M s t w (nR M))) ∧ M1 = M := by
  intro n
  induction n with
  | zero => intro d L r M1 k z _ _ _ _ _ _ _ _ _ h; exact (En.zero (mi := 241) (pc := 33) (len := 2) rfl h).elim
  | succ n ih =>
    intro d L r M1 k z l0 l1 l2 l3 l4 l6 k0 kc hz h
    replace h := eIloadS (mi := 241) (pc := 33) (len := 2) (i := 6) rfl l6 h
    replace h := eAload (mi := 241) (pc := 35) (len := 1) (i := 0) rfl l0 h
    replace h := eGetI (a := 181) (j := 1100) hS (by decide) (by decide) rfl (mi := 241) (pc := 36) (len := 3) rfl h
    rcases eIc (mi := 241) (pc := 39) (len := 3) (t := 90) rfl rfl h with ⟨c1, h⟩ | ⟨c1, h⟩
    · replace c1 : ¬ k.toInt < (iv M 181 0).toInt := mC_ge.1 c1
      replace h := eLload (mi := 241) (pc := 90) (len := 2) (i := 4) rfl l4 h
      obtain ⟨e1, e2⟩ := eRetL (mi := 241) (pc := 92) (len := 1) rfl h
      have en : nR M = k.toInt.toNat := by unfold nR; omega
      rw [en, ← hz]
      exact ⟨e1, e2⟩
    · replace c1 : k.toInt < (iv M 181 0).toInt := mC_ge.2 c1
      replace h := eAload (mi := 241) (pc := 42) (len := 1) (i := 0) rfl l0 h
      replace h := eIload (mi := 241) (pc := 43) (len := 2) (i := 6) rfl l6 h
      replace h := eIload (mi := 241) (pc := 45) (len := 1) (i := 1) rfl l1 h
      replace h := eCallP (mi := 241) (pc := 46) (len := 3) (j := 178) (as := [.ref 181, .int k, .int s]) (rest := []) rfl (Or.inr (Or.inl rfl)) (by decide) rfl rfl (fun _ _ _ _ g => rOf_en hS g) h
      rcases eIf (mi := 241) (pc := 49) (len := 3) (t := 84) rfl rfl h with ⟨c2, h⟩ | ⟨c2, h⟩
      · replace c2 : rOf M k s = false := mB_eq.1 c2
        replace h := eIinc (mi := 241) (pc := 84) (len := 3) (i := 6) (k := 1) rfl l6 (by decide) h
        replace h := eGoto (mi := 241) (pc := 87) (len := 3) (t := 33) rfl rfl h
        have kb : k.toInt.toNat < 40 := by omega
        have ek : (k + 1).toInt = k.toInt + 1 := i32_inc k0 (by omega)
        have en : (k + 1).toInt.toNat = k.toInt.toNat + 1 := by omega
        have hb : unsB M s t w k.toInt.toNat = false := by
          unfold unsB
          rw [i32_natR k0]
          simp only [c2, Bool.true_and, Bool.false_and, Bool.and_true, Bool.and_false, Bool.not_true, Bool.not_false]
        refine ih (k := k + 1) (z := z) (mLd_st1_ref (by decide) l0) (mLd_st1_int (by decide) l1) (mLd_st1_int (by decide) l2) (mLd_st1_int (by decide) l3) (mLd_st1 (by decide) l4 (fun hc => absurd hc (by decide))) mLd_st1_i (by omega) (Or.inl (by omega)) ?_ h
        rw [en]
        show _ = (bif unsB M s t w k.toInt.toNat then unsF M s t w k.toInt.toNat ||| bit1 (Int32.ofNat k.toInt.toNat) else unsF M s t w k.toInt.toNat)
        rw [hb, hz]
        rfl
      · replace c2 : rOf M k s = true := mB_eq.2 c2
        replace h := eAload (mi := 241) (pc := 52) (len := 1) (i := 0) rfl l0 h
        replace h := eGetR (a := 181) (j := 1108) (g := 188) hS (by decide) (by decide) rfl rfl rfl (mi := 241) (pc := 53) (len := 3) rfl h
        replace h := eIload (mi := 241) (pc := 56) (len := 2) (i := 6) rfl l6 h
        obtain ⟨b3, h⟩ := eIald (x := k) hS (a := 188) (by decide) (by decide) rfl (mi := 241) (pc := 58) (len := 1) rfl h
        replace h := eIload (mi := 241) (pc := 59) (len := 1) (i := 2) rfl l2 h
        rcases eIc (mi := 241) (pc := 60) (len := 3) (t := 84) rfl rfl h with ⟨c4, h⟩ | ⟨c4, h⟩
        · replace c4 : t.toInt < (iv M 188 k.toInt.toNat).toInt := mC_gt.1 c4
          replace h := eIinc (mi := 241) (pc := 84) (len := 3) (i := 6) (k := 1) rfl l6 (by decide) h
          replace h := eGoto (mi := 241) (pc := 87) (len := 3) (t := 33) rfl rfl h
          have kb : k.toInt.toNat < 40 := by omega
          have ek : (k + 1).toInt = k.toInt + 1 := i32_inc k0 (by omega)
          have en : (k + 1).toInt.toNat = k.toInt.toNat + 1 := by omega
          have hb : unsB M s t w k.toInt.toNat = false := by
            unfold unsB
            rw [i32_natR k0]
            simp only [c2, decide_eq_true c4, Bool.true_and, Bool.false_and, Bool.and_true, Bool.and_false, Bool.not_true, Bool.not_false]
          refine ih (k := k + 1) (z := z) (mLd_st1_ref (by decide) l0) (mLd_st1_int (by decide) l1) (mLd_st1_int (by decide) l2) (mLd_st1_int (by decide) l3) (mLd_st1 (by decide) l4 (fun hc => absurd hc (by decide))) mLd_st1_i (by omega) (Or.inl (by omega)) ?_ h
          rw [en]
          show _ = (bif unsB M s t w k.toInt.toNat then unsF M s t w k.toInt.toNat ||| bit1 (Int32.ofNat k.toInt.toNat) else unsF M s t w k.toInt.toNat)
          rw [hb, hz]
          rfl
        · replace c4 : ¬ t.toInt < (iv M 188 k.toInt.toNat).toInt := mC_gt.2 c4
          replace h := eAload (mi := 241) (pc := 63) (len := 1) (i := 0) rfl l0 h
          replace h := eIload (mi := 241) (pc := 64) (len := 2) (i := 6) rfl l6 h
          replace h := eIload (mi := 241) (pc := 66) (len := 1) (i := 1) rfl l1 h
          replace h := eIload (mi := 241) (pc := 67) (len := 1) (i := 2) rfl l2 h
          replace h := eCallP (mi := 241) (pc := 68) (len := 3) (j := 240) (as := [.ref 181, .int k, .int s, .int t]) (rest := []) rfl (Or.inr (Or.inl rfl)) (by decide) rfl rfl (fun _ _ _ _ g => rSig_en hS g) h
          replace h := eIload (mi := 241) (pc := 71) (len := 1) (i := 3) rfl l3 h
          rcases eIc (mi := 241) (pc := 72) (len := 3) (t := 84) rfl rfl h with ⟨c5, h⟩ | ⟨c5, h⟩
          · replace c5 : ¬ (rSig M k s t).toInt = w.toInt := mC_ne.1 c5
            replace h := eIinc (mi := 241) (pc := 84) (len := 3) (i := 6) (k := 1) rfl l6 (by decide) h
            replace h := eGoto (mi := 241) (pc := 87) (len := 3) (t := 33) rfl rfl h
            have kb : k.toInt.toNat < 40 := by omega
            have ek : (k + 1).toInt = k.toInt + 1 := i32_inc k0 (by omega)
            have en : (k + 1).toInt.toNat = k.toInt.toNat + 1 := by omega
            have hb : unsB M s t w k.toInt.toNat = false := by
              unfold unsB
              rw [i32_natR k0]
              simp only [c2, decide_eq_false c4, decide_eq_false c5, Bool.true_and, Bool.false_and, Bool.and_true, Bool.and_false, Bool.not_true, Bool.not_false]
            refine ih (k := k + 1) (z := z) (mLd_st1_ref (by decide) l0) (mLd_st1_int (by decide) l1) (mLd_st1_int (by decide) l2) (mLd_st1_int (by decide) l3) (mLd_st1 (by decide) l4 (fun hc => absurd hc (by decide))) mLd_st1_i (by omega) (Or.inl (by omega)) ?_ h
            rw [en]
            show _ = (bif unsB M s t w k.toInt.toNat then unsF M s t w k.toInt.toNat ||| bit1 (Int32.ofNat k.toInt.toNat) else unsF M s t w k.toInt.toNat)
            rw [hb, hz]
            rfl
          · replace c5 : (rSig M k s t).toInt = w.toInt := mC_ne.2 c5
            replace h := eLload (mi := 241) (pc := 75) (len := 2) (i := 4) rfl l4 h
            replace h := eLdc (mi := 241) (pc := 77) (len := 1) (j := 1) rfl h
            replace h := eIload (mi := 241) (pc := 78) (len := 2) (i := 6) rfl l6 h
            replace h := eLshl (mi := 241) (pc := 80) (len := 1) rfl h
            replace h := eLor (mi := 241) (pc := 81) (len := 1) rfl h
            replace h := eLstore (mi := 241) (pc := 82) (len := 2) (i := 4) rfl (by decide) h
            replace h := eIinc (mi := 241) (pc := 84) (len := 3) (i := 6) (k := 1) rfl (mLd_st2 (by decide) (by decide) l6 (fun _ => rfl)) (by decide) h
            replace h := eGoto (mi := 241) (pc := 87) (len := 3) (t := 33) rfl rfl h
            have kb : k.toInt.toNat < 40 := by omega
            have ek : (k + 1).toInt = k.toInt + 1 := i32_inc k0 (by omega)
            have en : (k + 1).toInt.toNat = k.toInt.toNat + 1 := by omega
            have hb : unsB M s t w k.toInt.toNat = true := by
              unfold unsB
              rw [i32_natR k0]
              simp only [c2, decide_eq_false c4, decide_eq_true c5, Bool.true_and, Bool.false_and, Bool.and_true, Bool.and_false, Bool.not_true, Bool.not_false]
            refine ih (k := k + 1) (z := (z ||| ((1 : Int64) <<< (Int32.toInt64 k &&& 63)))) (mLd_st1_ref (by decide) (mLd_st2 (by decide) (by decide) l0 (fun _ => rfl))) (mLd_st1_int (by decide) (mLd_st2 (by decide) (by decide) l1 (fun _ => rfl))) (mLd_st1_int (by decide) (mLd_st2 (by decide) (by decide) l2 (fun _ => rfl))) (mLd_st1_int (by decide) (mLd_st2 (by decide) (by decide) l3 (fun _ => rfl))) (mLd_st1 (by decide) mLd_st2_i (fun hc => absurd hc (by decide))) mLd_st1_i (by omega) (Or.inl (by omega)) ?_ h
            rw [en]
            show _ = (bif unsB M s t w k.toInt.toNat then unsF M s t w k.toInt.toNat ||| bit1 (Int32.ofNat k.toInt.toNat) else unsF M s t w k.toInt.toNat)
            rw [hb, hz, i32_natR k0]
            rfl
theorem unsR_en {s t w : Int32} {n d : Nat} {M : Mem} {r : Option Value} {M1 : Mem} (hS : Sh M) (hn : (iv M 181 0).toInt ≤ 40) (h : En n d 241 0 (lv_args 0 [.ref 181, .int s, .int t, .int w]) [] M r M1) : r = some (.long (unsR M s t w)) ∧ M1 = M := by
  replace h := eIload (mi := 241) (pc := 0) (len := 1) (i := 1) rfl rfl h
  replace h := eCallP (mi := 241) (pc := 1) (len := 3) (j := 163) (as := [.int s]) (rest := []) rfl (Or.inl rfl) (by decide) rfl rfl (fun _ _ _ _ g => rStr_en hS g) h
  rcases eIf (mi := 241) (pc := 4) (len := 3) (t := 23) rfl rfl h with ⟨c1, h⟩ | ⟨c1, h⟩
  · replace c1 : rStr s = false := mB_eq.1 c1
    replace h := eLdc (mi := 241) (pc := 23) (len := 3) (j := 2) rfl h
    obtain ⟨e1, e2⟩ := eRetL (mi := 241) (pc := 26) (len := 1) rfl h
    have e3 : unsR M s t w = ((-1) : Int64) := by
      unfold unsR
      simp only [c1, Bool.true_and, Bool.false_and, Bool.and_true, Bool.and_false, cond_true, cond_false]
    rw [e3]
    exact ⟨e1, e2⟩
  · replace c1 : rStr s = true := mB_eq.2 c1
    replace h := eIload (mi := 241) (pc := 7) (len := 1) (i := 2) rfl rfl h
    replace h := eCallP (mi := 241) (pc := 8) (len := 3) (j := 161) (as := [.int t]) (rest := []) rfl (Or.inl rfl) (by decide) rfl rfl (fun _ _ _ _ g => rDay_en hS g) h
    rcases eIf (mi := 241) (pc := 11) (len := 3) (t := 23) rfl rfl h with ⟨c2, h⟩ | ⟨c2, h⟩
    · replace c2 : rDay t = false := mB_eq.1 c2
      replace h := eLdc (mi := 241) (pc := 23) (len := 3) (j := 2) rfl h
      obtain ⟨e1, e2⟩ := eRetL (mi := 241) (pc := 26) (len := 1) rfl h
      have e3 : unsR M s t w = ((-1) : Int64) := by
        unfold unsR
        simp only [c1, c2, Bool.true_and, Bool.false_and, Bool.and_true, Bool.and_false, cond_true, cond_false]
      rw [e3]
      exact ⟨e1, e2⟩
    · replace c2 : rDay t = true := mB_eq.2 c2
      replace h := eIload (mi := 241) (pc := 14) (len := 1) (i := 3) rfl rfl h
      replace h := eConst (mi := 241) (pc := 15) (len := 1) (v := 0) rfl h
      replace h := eConst (mi := 241) (pc := 16) (len := 1) (v := 2) rfl h
      replace h := eCallP (mi := 241) (pc := 17) (len := 3) (j := 160) (as := [.int w, .int (0 : Int32), .int (2 : Int32)]) (rest := []) rfl (Or.inl rfl) (by decide) rfl rfl (fun _ _ _ _ g => rIn_en hS g) h
      rcases eIf (mi := 241) (pc := 20) (len := 3) (t := 27) rfl rfl h with ⟨c3, h⟩ | ⟨c3, h⟩
      · replace c3 : rIn w (0 : Int32) (2 : Int32) = true := mB_ne.1 c3
        replace h := eLdc (mi := 241) (pc := 27) (len := 1) (j := 0) rfl h
        replace h := eLstore (mi := 241) (pc := 28) (len := 2) (i := 4) rfl (by decide) h
        replace h := eConst (mi := 241) (pc := 30) (len := 1) (v := 0) rfl h
        replace h := eIstore (mi := 241) (pc := 31) (len := 2) (i := 6) rfl (by decide) h
        have q := uns_lp hS hn n (k := 0) (z := 0) rfl rfl rfl rfl rfl rfl (Int.le_refl 0) (Or.inr rfl) rfl h
        have e3 : unsR M s t w = unsF M s t w (nR M) := by
          unfold unsR
          simp only [c1, c2, c3, Bool.true_and, Bool.false_and, Bool.and_true, Bool.and_false, cond_true, cond_false]
        rw [e3]
        exact q
      · replace c3 : rIn w (0 : Int32) (2 : Int32) = false := mB_ne.2 c3
        replace h := eLdc (mi := 241) (pc := 23) (len := 3) (j := 2) rfl h
        obtain ⟨e1, e2⟩ := eRetL (mi := 241) (pc := 26) (len := 1) rfl h
        have e3 : unsR M s t w = ((-1) : Int64) := by
          unfold unsR
          simp only [c1, c2, c3, Bool.true_and, Bool.false_and, Bool.and_true, Bool.and_false, cond_true, cond_false]
        rw [e3]
        exact ⟨e1, e2⟩

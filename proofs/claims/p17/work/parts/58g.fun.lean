/-! the class: what is seen (printed by fn3.py) -/
def nC (M : Mem) : Nat := (iv M 7 2).toInt.toNat
def wildC (M : Mem) (e : Nat) (s u : Int32) : Bool := bif decide ((iv M (10 + e) 0).toInt = (iv M 5 s.toInt.toNat).toInt) then false else decide (u.toInt < (tFold M s (nC M) (iv M (10 + e) 0).toInt.toNat).toInt)
def findC (M : Mem) (e : Nat) (s u : Int32) : Bool := bif decide (u.toInt < (iv M (10 + e) 7).toInt) then false else (bif bMis M e then false else !wildC M e s u)
theorem bMis_fx {M N : Mem} (f : Fx 170 174 M N) {e : Nat} (he : e < 40) : bMis N e = bMis M e := by
  unfold bMis
  rw [f.si (c := 10 + e) (i := 8) (by omega), f.si (c := 10 + e) (i := 0) (by omega)]
theorem bWild_f {M N : Mem} {s t : Int32} (hF : faced M s t (nC M) N) {e : Nat} (he : e < 40) (hg : (iv M (10 + e) 0).toInt.toNat < 10) (u : Int32) : bWild N e u = wildC M e s u := by
  unfold bWild wildC
  rw [hF.2.1.si (c := 10 + e) (i := 0) (by omega), hF.2.2.2.2.2.1, hF.2.2.2.2.2.2.2.2.2.1 _ hg]
  cases decide ((iv M (10 + e) 0).toInt = (iv M 5 s.toInt.toNat).toInt) <;> cases decide (u.toInt < (tFold M s (nC M) (iv M (10 + e) 0).toInt.toNat).toInt) <;> rfl
theorem bFind_f {M N : Mem} {s t : Int32} (hF : faced M s t (nC M) N) {e : Nat} (he : e < 40) (hg : (iv M (10 + e) 0).toInt.toNat < 10) (u : Int32) : bFind N e u = findC M e s u := by
  unfold bFind findC
  rw [hF.2.1.si (c := 10 + e) (i := 7) (by omega), bMis_fx hF.2.1 he, bWild_f hF he hg]
  cases wildC M e s u <;> rfl
def hidV (M : Mem) (e : Nat) (s t : Int32) : Int32 := bif decide (t.toInt < (iv M (10 + e) 7).toInt) then 0 else (bif bMis M e then 1 else (bif wildC M e s t then 2 else -1))
theorem fHid_f {M N : Mem} {s t : Int32} (hF : faced M s t (nC M) N) {e : Nat} (he : e < 40) (hg : (iv M (10 + e) 0).toInt.toNat < 10) : fHid N e = hidV M e s t := by
  unfold fHid hidV
  rw [hF.2.2.2.2.1, hF.2.1.si (c := 10 + e) (i := 7) (by omega), bMis_fx hF.2.1 he, bWild_f hF he hg]
def hidB (M : Mem) (s t w : Int32) (k : Nat) : Bool := bOf M k s && (!decide (t.toInt < (iv M (10 + k) 3).toInt) && decide ((hidV M k s t).toInt = w.toInt))
def hidF (M : Mem) (s t w : Int32) : Nat → Int64
  | 0 => 0
  | k + 1 => bif hidB M s t w k then hidF M s t w k ||| bit1 (Int32.ofNat k) else hidF M s t w k
/-- givers are people -/
def gvC (M : Mem) : Prop := ∀ e, e < 40 → (iv M (10 + e) 0).toInt.toNat < 10
theorem hid_lp {M N : Mem} {s t w : Int32} (hR : Rf M) (hg : gvC M) (hF : faced M s t (nC M) N) : ∀ (n : Nat) {d : Nat} {L : MLoc} {r : Option Value} {M1 : Mem} {k : Int32} {z : Int64}, mLd L 0 = some (.ref 170) → mLd L 1 = some (.int w) → mLd L 2 = some (.long z) → mLd L 4 = some (.int k) → 0 ≤ k.toInt → (k.toInt ≤ (iv M 7 2).toInt ∨ k.toInt = 0) → z = hidF M s t w k.toInt.toNat → En n d 17 5 L [] N r M1 → r = some (.long (hidF M s t w (nC M))) ∧ M1 = N := by
  intro n
  induction n with
  | zero => intro d L r M1 k z _ _ _ _ _ _ _ h; exact (En.zero (mi := 17) (pc := 5) (len := 2) rfl h).elim
  | succ n ih =>
    intro d L r M1 k z l0 l1 l2 l4 k0 kc hz h
    have hS := hF.1
    have f := hF.2.1
    have e72 : iv N 7 2 = iv M 7 2 := f.si (by decide)
    replace h := eIloadS (mi := 17) (pc := 5) (len := 2) (i := 4) rfl l4 h
    replace h := eAload (mi := 17) (pc := 7) (len := 1) (i := 0) rfl l0 h
    replace h := eGetR (a := 170) (j := 1) (g := 7) hS (by decide) (by decide) rfl rfl rfl (mi := 17) (pc := 8) (len := 3) rfl h
    replace h := eGetI (a := 7) (j := 602) hS (by decide) (by decide) rfl (mi := 17) (pc := 11) (len := 3) rfl h
    rcases eIc (mi := 17) (pc := 14) (len := 3) (t := 76) rfl rfl h with ⟨c1, h⟩ | ⟨c1, h⟩
    · replace c1 : ¬ k.toInt < (iv N 7 2).toInt := mC_ge.1 c1
      replace h := eLload (mi := 17) (pc := 76) (len := 1) (i := 2) rfl l2 h
      obtain ⟨e1, e2⟩ := eRetL (mi := 17) (pc := 77) (len := 1) rfl h
      rw [e72] at c1
      have en : nC M = k.toInt.toNat := by unfold nC; omega
      rw [en, ← hz]
      exact ⟨e1, e2⟩
    · replace c1 : k.toInt < (iv N 7 2).toInt := mC_ge.2 c1
      replace h := eAload (mi := 17) (pc := 17) (len := 1) (i := 0) rfl l0 h
      replace h := eGetR (a := 170) (j := 1) (g := 7) hS (by decide) (by decide) rfl rfl rfl (mi := 17) (pc := 18) (len := 3) rfl h
      replace h := eGetR (a := 7) (j := 600) (g := 8) hS (by decide) (by decide) rfl rfl rfl (mi := 17) (pc := 21) (len := 3) rfl h
      replace h := eIload (mi := 17) (pc := 24) (len := 2) (i := 4) rfl l4 h
      obtain ⟨b2, h⟩ := eDeed (x := k) hS (hR.fx f (by decide)).1 (mi := 17) (pc := 26) (len := 1) rfl h
      replace h := eAstore (mi := 17) (pc := 27) (len := 2) (i := 5) rfl (by decide) h
      replace h := eAload (mi := 17) (pc := 29) (len := 2) (i := 5) rfl mLd_st1_i h
      replace h := eAload (mi := 17) (pc := 31) (len := 1) (i := 0) rfl (mLd_st1_ref (by decide) l0) h
      replace h := eGetI (a := 170) (j := 4) hS (by decide) (by decide) rfl (mi := 17) (pc := 32) (len := 3) rfl h
      replace h := eCallP (mi := 17) (pc := 35) (len := 3) (j := 26) (as := [.ref (10 + k.toInt.toNat), .int (iv N 170 4)]) (rest := []) rfl (Or.inr (Or.inl rfl)) (by decide) rfl rfl (fun _ _ _ _ g => bOf_en hS b2.2 g) h
      rcases eIf (mi := 17) (pc := 38) (len := 3) (t := 70) rfl rfl h with ⟨c3, h⟩ | ⟨c3, h⟩
      · replace c3 : bOf N (k.toInt.toNat) (iv N 170 4) = false := mB_eq.1 c3
        replace h := eIinc (mi := 17) (pc := 70) (len := 3) (i := 4) (k := 1) rfl (mLd_st1_int (by decide) l4) (by decide) h
        replace h := eGoto (mi := 17) (pc := 73) (len := 3) (t := 5) rfl rfl h
        have kb : k.toInt.toNat < 40 := b2.2
        have ek : (k + 1).toInt = k.toInt + 1 := i32_inc k0 (by omega)
        have en : (k + 1).toInt.toNat = k.toInt.toNat + 1 := by omega
        have o1 : bOf N k.toInt.toNat (iv N 170 4) = bOf M k.toInt.toNat s := by rw [hF.2.2.2.1]; exact bOf_fx f kb s
        rw [o1] at c3
        have hb : hidB M s t w k.toInt.toNat = false := by
          unfold hidB
          simp only [c3, Bool.true_and, Bool.false_and, Bool.and_true, Bool.and_false, Bool.not_true, Bool.not_false]
        refine ih (k := k + 1) (z := z) (mLd_st1_ref (by decide) (mLd_st1_ref (by decide) l0)) (mLd_st1_int (by decide) (mLd_st1_int (by decide) l1)) (mLd_st1 (by decide) (mLd_st1 (by decide) l2 (fun hc => absurd hc (by decide))) (fun hc => absurd hc (by decide))) mLd_st1_i (by omega) (Or.inl (by rw [e72] at c1; omega)) ?_ h
        rw [en]
        show _ = (bif hidB M s t w k.toInt.toNat then hidF M s t w k.toInt.toNat ||| bit1 (Int32.ofNat k.toInt.toNat) else hidF M s t w k.toInt.toNat)
        rw [hb, hz]
        rfl
      · replace c3 : bOf N (k.toInt.toNat) (iv N 170 4) = true := mB_eq.2 c3
        replace h := eAload (mi := 17) (pc := 41) (len := 2) (i := 5) rfl mLd_st1_i h
        replace h := eGetD (e := k.toInt.toNat) (f := 3) hS b2.2 rfl rfl  (j := 103) (mi := 17) (pc := 43) (len := 3) rfl h
        replace h := eAload (mi := 17) (pc := 46) (len := 1) (i := 0) rfl (mLd_st1_ref (by decide) l0) h
        replace h := eGetI (a := 170) (j := 5) hS (by decide) (by decide) rfl (mi := 17) (pc := 47) (len := 3) rfl h
        rcases eIc (mi := 17) (pc := 50) (len := 3) (t := 70) rfl rfl h with ⟨c4, h⟩ | ⟨c4, h⟩
        · replace c4 : (iv N 170 5).toInt < (iv N (10 + k.toInt.toNat) 3).toInt := mC_gt.1 c4
          replace h := eIinc (mi := 17) (pc := 70) (len := 3) (i := 4) (k := 1) rfl (mLd_st1_int (by decide) l4) (by decide) h
          replace h := eGoto (mi := 17) (pc := 73) (len := 3) (t := 5) rfl rfl h
          have kb : k.toInt.toNat < 40 := b2.2
          have ek : (k + 1).toInt = k.toInt + 1 := i32_inc k0 (by omega)
          have en : (k + 1).toInt.toNat = k.toInt.toNat + 1 := by omega
          have o1 : bOf N k.toInt.toNat (iv N 170 4) = bOf M k.toInt.toNat s := by rw [hF.2.2.2.1]; exact bOf_fx f kb s
          have o2 : (iv N (10 + k.toInt.toNat) 3) = iv M (10 + k.toInt.toNat) 3 := f.si (by omega)
          rw [o1] at c3
          rw [o2, hF.2.2.2.2.1] at c4
          have hb : hidB M s t w k.toInt.toNat = false := by
            unfold hidB
            simp only [c3, decide_eq_true c4, Bool.true_and, Bool.false_and, Bool.and_true, Bool.and_false, Bool.not_true, Bool.not_false]
          refine ih (k := k + 1) (z := z) (mLd_st1_ref (by decide) (mLd_st1_ref (by decide) l0)) (mLd_st1_int (by decide) (mLd_st1_int (by decide) l1)) (mLd_st1 (by decide) (mLd_st1 (by decide) l2 (fun hc => absurd hc (by decide))) (fun hc => absurd hc (by decide))) mLd_st1_i (by omega) (Or.inl (by rw [e72] at c1; omega)) ?_ h
          rw [en]
          show _ = (bif hidB M s t w k.toInt.toNat then hidF M s t w k.toInt.toNat ||| bit1 (Int32.ofNat k.toInt.toNat) else hidF M s t w k.toInt.toNat)
          rw [hb, hz]
          rfl
        · replace c4 : ¬ (iv N 170 5).toInt < (iv N (10 + k.toInt.toNat) 3).toInt := mC_gt.2 c4
          replace h := eAload (mi := 17) (pc := 53) (len := 1) (i := 0) rfl (mLd_st1_ref (by decide) l0) h
          replace h := eAload (mi := 17) (pc := 54) (len := 2) (i := 5) rfl mLd_st1_i h
          replace h := eCallP (mi := 17) (pc := 56) (len := 3) (j := 18) (as := [.ref 170, .ref (10 + k.toInt.toNat)]) (rest := []) rfl (Or.inr (Or.inl rfl)) (by decide) rfl rfl (fun _ _ _ _ g => fHid_en hS b2.2 g) h
          replace h := eIload (mi := 17) (pc := 59) (len := 1) (i := 1) rfl (mLd_st1_int (by decide) l1) h
          rcases eIc (mi := 17) (pc := 60) (len := 3) (t := 70) rfl rfl h with ⟨c5, h⟩ | ⟨c5, h⟩
          · replace c5 : ¬ (fHid N (k.toInt.toNat)).toInt = w.toInt := mC_ne.1 c5
            replace h := eIinc (mi := 17) (pc := 70) (len := 3) (i := 4) (k := 1) rfl (mLd_st1_int (by decide) l4) (by decide) h
            replace h := eGoto (mi := 17) (pc := 73) (len := 3) (t := 5) rfl rfl h
            have kb : k.toInt.toNat < 40 := b2.2
            have ek : (k + 1).toInt = k.toInt + 1 := i32_inc k0 (by omega)
            have en : (k + 1).toInt.toNat = k.toInt.toNat + 1 := by omega
            have o1 : bOf N k.toInt.toNat (iv N 170 4) = bOf M k.toInt.toNat s := by rw [hF.2.2.2.1]; exact bOf_fx f kb s
            have o2 : (iv N (10 + k.toInt.toNat) 3) = iv M (10 + k.toInt.toNat) 3 := f.si (by omega)
            have o3 := fHid_f hF kb (hg _ kb)
            rw [o1] at c3
            rw [o2, hF.2.2.2.2.1] at c4
            rw [o3] at c5
            have hb : hidB M s t w k.toInt.toNat = false := by
              unfold hidB
              simp only [c3, decide_eq_false c4, decide_eq_false c5, Bool.true_and, Bool.false_and, Bool.and_true, Bool.and_false, Bool.not_true, Bool.not_false]
            refine ih (k := k + 1) (z := z) (mLd_st1_ref (by decide) (mLd_st1_ref (by decide) l0)) (mLd_st1_int (by decide) (mLd_st1_int (by decide) l1)) (mLd_st1 (by decide) (mLd_st1 (by decide) l2 (fun hc => absurd hc (by decide))) (fun hc => absurd hc (by decide))) mLd_st1_i (by omega) (Or.inl (by rw [e72] at c1; omega)) ?_ h
            rw [en]
            show _ = (bif hidB M s t w k.toInt.toNat then hidF M s t w k.toInt.toNat ||| bit1 (Int32.ofNat k.toInt.toNat) else hidF M s t w k.toInt.toNat)
            rw [hb, hz]
            rfl
          · replace c5 : (fHid N (k.toInt.toNat)).toInt = w.toInt := mC_ne.2 c5
            replace h := eLload (mi := 17) (pc := 63) (len := 1) (i := 2) rfl (mLd_st1 (by decide) l2 (fun hc => absurd hc (by decide))) h
            replace h := eLdc (mi := 17) (pc := 64) (len := 1) (j := 1) rfl h
            replace h := eIload (mi := 17) (pc := 65) (len := 2) (i := 4) rfl (mLd_st1_int (by decide) l4) h
            replace h := eLshl (mi := 17) (pc := 67) (len := 1) rfl h
            replace h := eLor (mi := 17) (pc := 68) (len := 1) rfl h
            replace h := eLstore (mi := 17) (pc := 69) (len := 1) (i := 2) rfl (by decide) h
            replace h := eIinc (mi := 17) (pc := 70) (len := 3) (i := 4) (k := 1) rfl (mLd_st2 (by decide) (by decide) (mLd_st1_int (by decide) l4) (fun _ => rfl)) (by decide) h
            replace h := eGoto (mi := 17) (pc := 73) (len := 3) (t := 5) rfl rfl h
            have kb : k.toInt.toNat < 40 := b2.2
            have ek : (k + 1).toInt = k.toInt + 1 := i32_inc k0 (by omega)
            have en : (k + 1).toInt.toNat = k.toInt.toNat + 1 := by omega
            have o1 : bOf N k.toInt.toNat (iv N 170 4) = bOf M k.toInt.toNat s := by rw [hF.2.2.2.1]; exact bOf_fx f kb s
            have o2 : (iv N (10 + k.toInt.toNat) 3) = iv M (10 + k.toInt.toNat) 3 := f.si (by omega)
            have o3 := fHid_f hF kb (hg _ kb)
            rw [o1] at c3
            rw [o2, hF.2.2.2.2.1] at c4
            rw [o3] at c5
            have hb : hidB M s t w k.toInt.toNat = true := by
              unfold hidB
              simp only [c3, decide_eq_false c4, decide_eq_true c5, Bool.true_and, Bool.false_and, Bool.and_true, Bool.and_false, Bool.not_true, Bool.not_false]
            refine ih (k := k + 1) (z := (z ||| ((1 : Int64) <<< (Int32.toInt64 k &&& 63)))) (mLd_st1_ref (by decide) (mLd_st2 (by decide) (by decide) (mLd_st1_ref (by decide) l0) (fun _ => rfl))) (mLd_st1_int (by decide) (mLd_st2 (by decide) (by decide) (mLd_st1_int (by decide) l1) (fun _ => rfl))) (mLd_st1 (by decide) mLd_st2_i (fun hc => absurd hc (by decide))) mLd_st1_i (by omega) (Or.inl (by rw [e72] at c1; omega)) ?_ h
            rw [en]
            show _ = (bif hidB M s t w k.toInt.toNat then hidF M s t w k.toInt.toNat ||| bit1 (Int32.ofNat k.toInt.toNat) else hidF M s t w k.toInt.toNat)
            rw [hb, hz, i32_natR k0]
            rfl
theorem hid_en {M N : Mem} {s t w : Int32} (hR : Rf M) (hg : gvC M) (hF : faced M s t (nC M) N) {n d : Nat} {r : Option Value} {M1 : Mem} (h : En n d 17 0 (lv_args 0 [.ref 170, .int w]) [] N r M1) : r = some (.long (hidF M s t w (nC M))) ∧ M1 = N := by
  replace h := eLdc (mi := 17) (pc := 0) (len := 1) (j := 0) rfl h
  replace h := eLstore (mi := 17) (pc := 1) (len := 1) (i := 2) rfl (by decide) h
  replace h := eConst (mi := 17) (pc := 2) (len := 1) (v := 0) rfl h
  replace h := eIstore (mi := 17) (pc := 3) (len := 2) (i := 4) rfl (by decide) h
  exact hid_lp hR hg hF n (k := 0) (z := 0) rfl rfl rfl rfl (Int.le_refl 0) (Or.inr rfl) rfl h
def seenC (M : Mem) (x s t w : Int32) : Int32 := bif bDOf M x s && (bDay t && bIn w 2) then (bif decide (w.toInt = 0) then b2 (wildC M x.toInt.toNat s t) else b2 (findC M x.toInt.toNat s t)) else -1
def unsC (M : Mem) (s t w : Int32) : Int64 := bif bStr s && (bDay t && bIn w 3) then hidF M s t w (nC M) else -1
theorem seenC_en {x s t w : Int32} {n d : Nat} {M : Mem} {r : Option Value} {M1 : Mem} (hS : Sh M) (hR : Rf M) (hg : gvC M) (h : En n d 122 0 (lv_args 0 [.ref 2, .int x, .int s, .int t, .int w]) [] M r M1) : r = some (.int (seenC M x s t w)) ∧ Fx 170 174 M M1 := by
  have hY := hR.1
  replace h := eAload (mi := 122) (pc := 0) (len := 1) (i := 0) rfl rfl h
  replace h := eIload (mi := 122) (pc := 1) (len := 1) (i := 1) rfl rfl h
  replace h := eIload (mi := 122) (pc := 2) (len := 1) (i := 2) rfl rfl h
  replace h := eCallP (mi := 122) (pc := 3) (len := 3) (j := 155) (as := [.ref 2, .int x, .int s]) (rest := []) rfl (Or.inr (Or.inl rfl)) (by decide) rfl rfl (fun _ _ _ _ g => bDOf_en hS hY g) h
  rcases eIf (mi := 122) (pc := 6) (len := 3) (t := 25) rfl rfl h with ⟨c1, h⟩ | ⟨c1, h⟩
  · replace c1 : bDOf M x s = false := mB_eq.1 c1
    replace h := eConst (mi := 122) (pc := 25) (len := 1) (v := (-1)) rfl h
    obtain ⟨e1, e2⟩ := eRetI (mi := 122) (pc := 26) (len := 1) rfl h
    have e3 : seenC M x s t w = ((-1) : Int32) := by
      unfold seenC
      simp only [c1, Bool.true_and, Bool.false_and, Bool.and_true, Bool.and_false, cond_true, cond_false] <;> rfl
    rw [e1, e2, e3]
    exact ⟨rfl, Fx.rf⟩
  · replace c1 : bDOf M x s = true := mB_eq.2 c1
    replace h := eIload (mi := 122) (pc := 9) (len := 1) (i := 3) rfl rfl h
    replace h := eCallP (mi := 122) (pc := 10) (len := 3) (j := 151) (as := [.int t]) (rest := []) rfl (Or.inl rfl) (by decide) rfl rfl (fun _ _ _ _ g => bDay_en hS g) h
    rcases eIf (mi := 122) (pc := 13) (len := 3) (t := 25) rfl rfl h with ⟨c2, h⟩ | ⟨c2, h⟩
    · replace c2 : bDay t = false := mB_eq.1 c2
      replace h := eConst (mi := 122) (pc := 25) (len := 1) (v := (-1)) rfl h
      obtain ⟨e1, e2⟩ := eRetI (mi := 122) (pc := 26) (len := 1) rfl h
      have e3 : seenC M x s t w = ((-1) : Int32) := by
        unfold seenC
        simp only [c1, c2, Bool.true_and, Bool.false_and, Bool.and_true, Bool.and_false, cond_true, cond_false] <;> rfl
      rw [e1, e2, e3]
      exact ⟨rfl, Fx.rf⟩
    · replace c2 : bDay t = true := mB_eq.2 c2
      replace h := eIload (mi := 122) (pc := 16) (len := 2) (i := 4) rfl rfl h
      replace h := eConst (mi := 122) (pc := 18) (len := 1) (v := 2) rfl h
      replace h := eCallP (mi := 122) (pc := 19) (len := 3) (j := 148) (as := [.int w, .int (2 : Int32)]) (rest := []) rfl (Or.inl rfl) (by decide) rfl rfl (fun _ _ _ _ g => bIn_en hS g) h
      rcases eIf (mi := 122) (pc := 22) (len := 3) (t := 27) rfl rfl h with ⟨c3, h⟩ | ⟨c3, h⟩
      · replace c3 : bIn w (2 : Int32) = true := mB_ne.1 c3
        replace h := eAload (mi := 122) (pc := 27) (len := 1) (i := 0) rfl rfl h
        replace h := eGetR (a := 2) (j := 1008) (g := 170) hS (by decide) (by decide) rfl rfl rfl (mi := 122) (pc := 28) (len := 3) rfl h
        replace h := eIload (mi := 122) (pc := 31) (len := 1) (i := 2) rfl rfl h
        replace h := eIload (mi := 122) (pc := 32) (len := 1) (i := 3) rfl rfl h
        obtain ⟨r4, N5, g6, h⟩ := eCall (mi := 122) (pc := 33) (len := 3) (j := 1) (as := [.ref 170, .int s, .int t]) (rest := []) rfl (Or.inr (Or.inl rfl)) (by decide) rfl rfl h
        obtain ⟨q1, hF⟩ := face_en hS hR g6
        rw [q1] at h
        replace h := eIload (mi := 122) (pc := 36) (len := 2) (i := 4) rfl rfl h
        rcases eIf (mi := 122) (pc := 38) (len := 3) (t := 61) rfl rfl h with ⟨c7, h⟩ | ⟨c7, h⟩
        · replace c7 : ¬ w.toInt = 0 := mC_ne.1 c7
          replace h := eAload (mi := 122) (pc := 61) (len := 1) (i := 0) rfl rfl h
          replace h := eGetR (a := 2) (j := 1008) (g := 170) hF.1 (by decide) (by decide) rfl rfl rfl (mi := 122) (pc := 62) (len := 3) rfl h
          replace h := eAload (mi := 122) (pc := 65) (len := 1) (i := 0) rfl rfl h
          replace h := eGetR (a := 2) (j := 1001) (g := 7) hF.1 (by decide) (by decide) rfl rfl rfl (mi := 122) (pc := 66) (len := 3) rfl h
          replace h := eGetR (a := 7) (j := 600) (g := 8) hF.1 (by decide) (by decide) rfl rfl rfl (mi := 122) (pc := 69) (len := 3) rfl h
          replace h := eIload (mi := 122) (pc := 72) (len := 1) (i := 1) rfl rfl h
          obtain ⟨b8, h⟩ := eDeed (x := x) hF.1 (hR.fx hF.2.1 (by decide)).1 (mi := 122) (pc := 73) (len := 1) rfl h
          replace h := eIload (mi := 122) (pc := 74) (len := 1) (i := 3) rfl rfl h
          replace h := eCallP (mi := 122) (pc := 75) (len := 3) (j := 13) (as := [.ref 170, .ref (10 + x.toInt.toNat), .int t]) (rest := []) rfl (Or.inr (Or.inl rfl)) (by decide) rfl rfl (fun _ _ _ _ g => bFind_en hF.1 b8.2 g) h
          replace h := eIstore (mi := 122) (pc := 78) (len := 2) (i := 5) rfl (by decide) h
          replace h := eIload (mi := 122) (pc := 80) (len := 2) (i := 5) rfl rfl h
          rcases eIf (mi := 122) (pc := 82) (len := 3) (t := 89) rfl rfl h with ⟨c9, h⟩ | ⟨c9, h⟩
          · replace c9 : bFind N5 (x.toInt.toNat) t = false := mB_eq.1 c9
            replace h := eConst (mi := 122) (pc := 89) (len := 1) (v := 0) rfl h
            obtain ⟨e1, e2⟩ := eRetI (mi := 122) (pc := 90) (len := 1) rfl h
            rw [bFind_f hF b8.2 (hg _ b8.2)] at c9
            have e3 : seenC M x s t w = (0 : Int32) := by
              unfold seenC
              simp only [c1, c2, c3, decide_eq_false c7, c9, Bool.true_and, Bool.false_and, Bool.and_true, Bool.and_false, cond_true, cond_false] <;> rfl
            rw [e1, e2, e3]
            exact ⟨rfl, hF.2.1⟩
          · replace c9 : bFind N5 (x.toInt.toNat) t = true := mB_eq.2 c9
            replace h := eConst (mi := 122) (pc := 85) (len := 1) (v := 1) rfl h
            replace h := eGoto (mi := 122) (pc := 86) (len := 3) (t := 90) rfl rfl h
            obtain ⟨e1, e2⟩ := eRetI (mi := 122) (pc := 90) (len := 1) rfl h
            rw [bFind_f hF b8.2 (hg _ b8.2)] at c9
            have e3 : seenC M x s t w = (1 : Int32) := by
              unfold seenC
              simp only [c1, c2, c3, decide_eq_false c7, c9, Bool.true_and, Bool.false_and, Bool.and_true, Bool.and_false, cond_true, cond_false] <;> rfl
            rw [e1, e2, e3]
            exact ⟨rfl, hF.2.1⟩
        · replace c7 : w.toInt = 0 := mC_ne.2 c7
          replace h := eAload (mi := 122) (pc := 41) (len := 1) (i := 0) rfl rfl h
          replace h := eGetR (a := 2) (j := 1008) (g := 170) hF.1 (by decide) (by decide) rfl rfl rfl (mi := 122) (pc := 42) (len := 3) rfl h
          replace h := eAload (mi := 122) (pc := 45) (len := 1) (i := 0) rfl rfl h
          replace h := eGetR (a := 2) (j := 1001) (g := 7) hF.1 (by decide) (by decide) rfl rfl rfl (mi := 122) (pc := 46) (len := 3) rfl h
          replace h := eGetR (a := 7) (j := 600) (g := 8) hF.1 (by decide) (by decide) rfl rfl rfl (mi := 122) (pc := 49) (len := 3) rfl h
          replace h := eIload (mi := 122) (pc := 52) (len := 1) (i := 1) rfl rfl h
          obtain ⟨b10, h⟩ := eDeed (x := x) hF.1 (hR.fx hF.2.1 (by decide)).1 (mi := 122) (pc := 53) (len := 1) rfl h
          replace h := eIload (mi := 122) (pc := 54) (len := 1) (i := 3) rfl rfl h
          replace h := eCallP (mi := 122) (pc := 55) (len := 3) (j := 12) (as := [.ref 170, .ref (10 + x.toInt.toNat), .int t]) (rest := []) rfl (Or.inr (Or.inl rfl)) (by decide) rfl rfl (fun _ _ _ _ g => bWild_en hF.1 b10.2 g) h
          replace h := eGoto (mi := 122) (pc := 58) (len := 3) (t := 78) rfl rfl h
          replace h := eIstore (mi := 122) (pc := 78) (len := 2) (i := 5) rfl (by decide) h
          replace h := eIload (mi := 122) (pc := 80) (len := 2) (i := 5) rfl rfl h
          rcases eIf (mi := 122) (pc := 82) (len := 3) (t := 89) rfl rfl h with ⟨c11, h⟩ | ⟨c11, h⟩
          · replace c11 : bWild N5 (x.toInt.toNat) t = false := mB_eq.1 c11
            replace h := eConst (mi := 122) (pc := 89) (len := 1) (v := 0) rfl h
            obtain ⟨e1, e2⟩ := eRetI (mi := 122) (pc := 90) (len := 1) rfl h
            rw [bWild_f hF b10.2 (hg _ b10.2)] at c11
            have e3 : seenC M x s t w = (0 : Int32) := by
              unfold seenC
              simp only [c1, c2, c3, decide_eq_true c7, c11, Bool.true_and, Bool.false_and, Bool.and_true, Bool.and_false, cond_true, cond_false] <;> rfl
            rw [e1, e2, e3]
            exact ⟨rfl, hF.2.1⟩
          · replace c11 : bWild N5 (x.toInt.toNat) t = true := mB_eq.2 c11
            replace h := eConst (mi := 122) (pc := 85) (len := 1) (v := 1) rfl h
            replace h := eGoto (mi := 122) (pc := 86) (len := 3) (t := 90) rfl rfl h
            obtain ⟨e1, e2⟩ := eRetI (mi := 122) (pc := 90) (len := 1) rfl h
            rw [bWild_f hF b10.2 (hg _ b10.2)] at c11
            have e3 : seenC M x s t w = (1 : Int32) := by
              unfold seenC
              simp only [c1, c2, c3, decide_eq_true c7, c11, Bool.true_and, Bool.false_and, Bool.and_true, Bool.and_false, cond_true, cond_false] <;> rfl
            rw [e1, e2, e3]
            exact ⟨rfl, hF.2.1⟩
      · replace c3 : bIn w (2 : Int32) = false := mB_ne.2 c3
        replace h := eConst (mi := 122) (pc := 25) (len := 1) (v := (-1)) rfl h
        obtain ⟨e1, e2⟩ := eRetI (mi := 122) (pc := 26) (len := 1) rfl h
        have e3 : seenC M x s t w = ((-1) : Int32) := by
          unfold seenC
          simp only [c1, c2, c3, Bool.true_and, Bool.false_and, Bool.and_true, Bool.and_false, cond_true, cond_false] <;> rfl
        rw [e1, e2, e3]
        exact ⟨rfl, Fx.rf⟩
theorem unsC_en {s t w : Int32} {n d : Nat} {M : Mem} {r : Option Value} {M1 : Mem} (hS : Sh M) (hR : Rf M) (hg : gvC M) (h : En n d 128 0 (lv_args 0 [.ref 2, .int s, .int t, .int w]) [] M r M1) : r = some (.long (unsC M s t w)) ∧ Fx 170 174 M M1 := by
  replace h := eIload (mi := 128) (pc := 0) (len := 1) (i := 1) rfl rfl h
  replace h := eCallP (mi := 128) (pc := 1) (len := 3) (j := 150) (as := [.int s]) (rest := []) rfl (Or.inl rfl) (by decide) rfl rfl (fun _ _ _ _ g => bStr_en hS g) h
  rcases eIf (mi := 128) (pc := 4) (len := 3) (t := 22) rfl rfl h with ⟨c1, h⟩ | ⟨c1, h⟩
  · replace c1 : bStr s = false := mB_eq.1 c1
    replace h := eLdc (mi := 128) (pc := 22) (len := 3) (j := 2) rfl h
    obtain ⟨e1, e2⟩ := eRetL (mi := 128) (pc := 25) (len := 1) rfl h
    have e3 : unsC M s t w = ((-1) : Int64) := by
      unfold unsC
      simp only [c1, Bool.true_and, Bool.false_and, Bool.and_true, Bool.and_false, cond_true, cond_false] <;> rfl
    rw [e1, e2, e3]
    exact ⟨rfl, Fx.rf⟩
  · replace c1 : bStr s = true := mB_eq.2 c1
    replace h := eIload (mi := 128) (pc := 7) (len := 1) (i := 2) rfl rfl h
    replace h := eCallP (mi := 128) (pc := 8) (len := 3) (j := 151) (as := [.int t]) (rest := []) rfl (Or.inl rfl) (by decide) rfl rfl (fun _ _ _ _ g => bDay_en hS g) h
    rcases eIf (mi := 128) (pc := 11) (len := 3) (t := 22) rfl rfl h with ⟨c2, h⟩ | ⟨c2, h⟩
    · replace c2 : bDay t = false := mB_eq.1 c2
      replace h := eLdc (mi := 128) (pc := 22) (len := 3) (j := 2) rfl h
      obtain ⟨e1, e2⟩ := eRetL (mi := 128) (pc := 25) (len := 1) rfl h
      have e3 : unsC M s t w = ((-1) : Int64) := by
        unfold unsC
        simp only [c1, c2, Bool.true_and, Bool.false_and, Bool.and_true, Bool.and_false, cond_true, cond_false] <;> rfl
      rw [e1, e2, e3]
      exact ⟨rfl, Fx.rf⟩
    · replace c2 : bDay t = true := mB_eq.2 c2
      replace h := eIload (mi := 128) (pc := 14) (len := 1) (i := 3) rfl rfl h
      replace h := eConst (mi := 128) (pc := 15) (len := 1) (v := 3) rfl h
      replace h := eCallP (mi := 128) (pc := 16) (len := 3) (j := 148) (as := [.int w, .int (3 : Int32)]) (rest := []) rfl (Or.inl rfl) (by decide) rfl rfl (fun _ _ _ _ g => bIn_en hS g) h
      rcases eIf (mi := 128) (pc := 19) (len := 3) (t := 26) rfl rfl h with ⟨c3, h⟩ | ⟨c3, h⟩
      · replace c3 : bIn w (3 : Int32) = true := mB_ne.1 c3
        replace h := eAload (mi := 128) (pc := 26) (len := 1) (i := 0) rfl rfl h
        replace h := eGetR (a := 2) (j := 1008) (g := 170) hS (by decide) (by decide) rfl rfl rfl (mi := 128) (pc := 27) (len := 3) rfl h
        replace h := eIload (mi := 128) (pc := 30) (len := 1) (i := 1) rfl rfl h
        replace h := eIload (mi := 128) (pc := 31) (len := 1) (i := 2) rfl rfl h
        obtain ⟨r4, N5, g6, h⟩ := eCall (mi := 128) (pc := 32) (len := 3) (j := 1) (as := [.ref 170, .int s, .int t]) (rest := []) rfl (Or.inr (Or.inl rfl)) (by decide) rfl rfl h
        obtain ⟨q1, hF⟩ := face_en hS hR g6
        rw [q1] at h
        replace h := eAload (mi := 128) (pc := 35) (len := 1) (i := 0) rfl rfl h
        replace h := eGetR (a := 2) (j := 1008) (g := 170) hF.1 (by decide) (by decide) rfl rfl rfl (mi := 128) (pc := 36) (len := 3) rfl h
        replace h := eIload (mi := 128) (pc := 39) (len := 1) (i := 3) rfl rfl h
        replace h := eCallP (mi := 128) (pc := 40) (len := 3) (j := 17) (as := [.ref 170, .int w]) (rest := []) rfl (Or.inr (Or.inl rfl)) (by decide) rfl rfl (fun _ _ _ _ g => hid_en hR hg hF  g) h
        obtain ⟨e1, e2⟩ := eRetL (mi := 128) (pc := 43) (len := 1) rfl h
        have e3 : unsC M s t w = (hidF M s t w (nC M)) := by
          unfold unsC
          simp only [c1, c2, c3, Bool.true_and, Bool.false_and, Bool.and_true, Bool.and_false, cond_true, cond_false] <;> rfl
        rw [e1, e2, e3]
        exact ⟨rfl, hF.2.1⟩
      · replace c3 : bIn w (3 : Int32) = false := mB_ne.2 c3
        replace h := eLdc (mi := 128) (pc := 22) (len := 3) (j := 2) rfl h
        obtain ⟨e1, e2⟩ := eRetL (mi := 128) (pc := 25) (len := 1) rfl h
        have e3 : unsC M s t w = ((-1) : Int64) := by
          unfold unsC
          simp only [c1, c2, c3, Bool.true_and, Bool.false_and, Bool.and_true, Bool.and_false, cond_true, cond_false] <;> rfl
        rw [e1, e2, e3]
        exact ⟨rfl, Fx.rf⟩

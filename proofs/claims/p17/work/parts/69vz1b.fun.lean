/-! deeds are put in, dropped, copied: their order (printed by fno.py) -/
theorem eRetA {n d mi pc len : Nat} {L : MLoc} {st : List Value} {M : Mem} {r : Option Value} {M1 : Mem} {a : Nat} (hat : mAt mi pc = some (len, .areturn)) (h : En n d mi pc L (.ref a :: st) M r M1) : r = some (.ref a) ∧ M1 = M := by
  obtain ⟨k, hk, h⟩ := h
  cases k with
  | zero => cases h
  | succ k =>
    obtain ⟨len', ins', hat', hret | ⟨j, hi, hg⟩ | ⟨pc', L', st', M', h1, h2⟩⟩ := mRun_cases h
    · rw [hat] at hat'
      cases hat'
      rcases mRet_ok hret with ⟨y, e, _⟩ | ⟨y, e, _⟩ | ⟨y, e, e2, _, e3⟩ | ⟨e, _⟩
      · cases e
      · cases e
      · cases e2; cases e3; exact ⟨rfl, rfl⟩
      · cases e
    · rw [hat] at hat'
      cases hat'
      rcases hi with hi | hi | hi <;> cases hi
    · rw [hat] at hat'
      cases hat'
      cases h1
theorem tko_en {e : Nat} (hd_e : e < 40) {n d : Nat} {M : Mem} {r : Option Value} {M1 : Mem} (hS : Sh M) (h : En n d 30 0 (lv_args 0 [.ref (10 + e)]) [] M r M1) : r = none ∧ Sh M1 ∧ ∀ c i, c ≠ 10 + e ∨ (i ≠ 7 ∧ i ≠ 8 ∧ i ≠ 9) → mSlot M1 c i = mSlot M c i := by
  replace h := eAload (mi := 30) (pc := 0) (len := 1) (i := 0) rfl rfl h
  replace h := eConst (mi := 30) (pc := 1) (len := 2) (v := 1000000) rfl h
  obtain ⟨N1, eN1⟩ : ∃ X_, X_ = mPut M (10 + e) 7 (.int (1000000 : Int32)) := ⟨_, rfl⟩
  replace h := ePutE (a := (10 + e)) (f := 7) (N := N1) rfl eN1 (mi := 30) (pc := 3) (len := 3) (j := 107) rfl h
  have hS2 : Sh N1 := by rw [eN1]; exact hS.put (show 2 ≤ 10 + e by omega) (show 10 + e < 242 by omega) (by rw [grp10 e hd_e]; rfl)
  replace h := eAload (mi := 30) (pc := 6) (len := 1) (i := 0) rfl rfl h
  replace h := eConst (mi := 30) (pc := 7) (len := 1) (v := (-1)) rfl h
  obtain ⟨N3, eN3⟩ : ∃ X_, X_ = mPut N1 (10 + e) 8 (.int ((-1) : Int32)) := ⟨_, rfl⟩
  replace h := ePutE (a := (10 + e)) (f := 8) (N := N3) rfl eN3 (mi := 30) (pc := 8) (len := 3) (j := 108) rfl h
  have hS4 : Sh N3 := by rw [eN3]; exact hS2.put (show 2 ≤ 10 + e by omega) (show 10 + e < 242 by omega) (by rw [grp10 e hd_e]; rfl)
  replace h := eAload (mi := 30) (pc := 11) (len := 1) (i := 0) rfl rfl h
  replace h := eConst (mi := 30) (pc := 12) (len := 1) (v := 0) rfl h
  obtain ⟨N5, eN5⟩ : ∃ X_, X_ = mPut N3 (10 + e) 9 (.int (0 : Int32)) := ⟨_, rfl⟩
  replace h := ePutE (a := (10 + e)) (f := 9) (N := N5) rfl eN5 (mi := 30) (pc := 13) (len := 3) (j := 109) rfl h
  have hS6 : Sh N5 := by rw [eN5]; exact hS4.put (show 2 ≤ 10 + e by omega) (show 10 + e < 242 by omega) (by rw [grp10 e hd_e]; rfl)
  obtain ⟨e1, e2⟩ := eRetV (mi := 30) (pc := 16) (len := 1) rfl h
  refine ⟨e1, by rw [e2]; exact hS6, fun c i q => ?_⟩
  rw [e2, eN5, mSlot_put_ne (by omega), eN3, mSlot_put_ne (by omega), eN1, mSlot_put_ne (by omega)]
/-- where a new deed is put in, by now -/
def ABI (M N : Mem) (W p : Nat) (x : Int32) : Prop := Sh N ∧ (∀ k, k < 40 → mSlot N 8 k = some (.ref (10 + k))) ∧ p ≤ W ∧ (iv N 7 2).toInt = (W : Int) ∧ (∀ d, d < W → iv N (10 + d) 3 = iv M (10 + d) 3) ∧ iv N (10 + W) 3 = x ∧ (∀ k, k < p → iv N 9 k = iv M 9 k) ∧ (∀ k, p < k → k ≤ W → iv N 9 k = iv M 9 (k - 1)) ∧ (∀ k, p ≤ k → k < W → x.toInt < (iv M (10 + (iv M 9 k).toInt.toNat) 3).toInt) ∧ ∀ c i, 50 ≤ c → mSlot N c i = mSlot M c i
theorem ab_fin {M N A B : Mem} {W : Nat} {x p : Int32} (h : okLs M) (hW : (iv M 7 2).toInt = (W : Int)) (w40 : W < 40) (hI : ABI M N W p.toInt.toNat x) (p0 : 0 ≤ p.toInt) (h1 : p.toInt = 0 ∨ ¬ x.toInt < (iv M (10 + (iv M 9 (p.toInt.toNat - 1)).toInt.toNat) 3).toInt) (eA : A = mPut N 9 p.toInt.toNat (.int (iv N 7 2))) (eB : B = mPut A 7 2 (.int (iv A 7 2 + 1))) : okLs B := by
  obtain ⟨hS, _, pW, n7, hd, hx, o1, o3, h2, hk⟩ := hI
  have hA : Sh A := by rw [eA]; exact hS.put (by decide) (by decide) rfl
  have a7 : (iv A 7 2).toInt = (W : Int) := by rw [eA, iv_put_ne (Or.inl (by decide))]; exact n7
  have nB : ∀ c i, c ≠ 9 → (c ≠ 7 ∨ i ≠ 2) → iv B c i = iv N c i := fun c i q1 q2 => by rw [eB, iv_put_ne q2, eA, iv_put_ne (Or.inl q1)]
  have b9 : ∀ k, iv B 9 k = iv A 9 k := fun k => by rw [eB]; exact iv_put_ne (Or.inl (by decide))
  have a9 : ∀ k, k ≠ p.toInt.toNat → iv A 9 k = iv N 9 k := fun k q => by rw [eA]; exact iv_put_ne (Or.inr q)
  have p40 : p.toInt.toNat < 40 := by omega
  have a9p : iv A 9 p.toInt.toNat = iv N 7 2 := by rw [eA]; exact iv_put_eq hS (by decide) (by decide) p40
  have b7 : (iv B 7 2).toInt = (W : Int) + 1 := by
    rw [eB, iv_put_eq hA (by decide) (by decide) (by decide), i32_add (by rw [a7]; show -2147483648 ≤ (W : Int) + 1; omega) (by rw [a7]; show (W : Int) + 1 ≤ 2147483647; omega), a7]
    rfl
  refine ⟨okL_new (pl := p.toInt.toNat) h.1 hW w40 b7 pW (fun d q => ?_) ?_ (fun k q => ?_) ?_ (fun k q1 q2 => ?_) ?_ h2, okL_same ?_ (fun k => ?_) (fun d q => ?_) h.2⟩
  · rw [nB _ _ (by omega) (by omega)]
    exact hd d q
  · rw [nB _ _ (by omega) (by omega)]
    exact hx
  · rw [b9, a9 k (by omega)]
    exact o1 k q
  · rw [b9, a9p]
    exact n7
  · rw [b9, a9 k (by omega)]
    exact o3 k q1 q2
  · rcases h1 with q | q
    · exact Or.inl (by omega)
    · exact Or.inr (by omega)
  · rw [nB _ _ (by decide) (Or.inl (by decide))]
    exact iv_sl (hk 50 2 (by decide))
  · rw [nB _ _ (by decide) (Or.inl (by decide))]
    exact iv_sl (hk 52 k (by decide))
  · rw [nB _ _ (by omega) (by omega)]
    exact iv_sl (hk _ _ (by omega))
theorem ab_lp {M : Mem} {W : Nat} {x : Int32} (hO : okLs M) (hW : (iv M 7 2).toInt = (W : Int)) (w40 : W < 40) : ∀ (n : Nat) {d : Nat} {L : MLoc} {N : Mem} {r : Option Value} {M1 : Mem} {p : Int32}, ABI M N W p.toInt.toNat x → mLd L 0 = some (.ref 7) → mLd L 1 = some (.int x) → mLd L 2 = some (.ref (10 + W)) → mLd L 3 = some (.int p) → 0 ≤ p.toInt → En n d 91 29 L [] N r M1 → okLs M1 := by
  intro n
  induction n with
  | zero => intro d L N r M1 p _ _ _ _ _ _ h; exact (En.zero (mi := 91) (pc := 29) (len := 1) rfl h).elim
  | succ n ih =>
    intro d L N r M1 p hI l0 l1 l2 l3 p0 h
    replace h := eIloadS (mi := 91) (pc := 29) (len := 1) (i := 3) rfl l3 h
    rcases eIf (mi := 91) (pc := 30) (len := 3) (t := 73) rfl rfl h with ⟨c1, h⟩ | ⟨c1, h⟩
    · replace c1 : ¬ 0 < p.toInt := mC_le.1 c1
      replace h := eAload (mi := 91) (pc := 73) (len := 1) (i := 0) rfl l0 h
      replace h := eGetR (a := 7) (j := 601) (g := 9) hI.1 (by decide) (by decide) rfl rfl rfl (mi := 91) (pc := 74) (len := 3) rfl h
      replace h := eIload (mi := 91) (pc := 77) (len := 1) (i := 3) rfl l3 h
      replace h := eAload (mi := 91) (pc := 78) (len := 1) (i := 0) rfl l0 h
      replace h := eGetI (a := 7) (j := 602) hI.1 (by decide) (by decide) rfl (mi := 91) (pc := 79) (len := 3) rfl h
      obtain ⟨N3, eN3⟩ : ∃ X_, X_ = mPut N 9 p.toInt.toNat (.int (iv N 7 2)) := ⟨_, rfl⟩
      obtain ⟨bd2, h⟩ := eIast (x := p) (N := N3) hI.1 (a := 9) (by decide) (by decide) eN3 (mi := 91) (pc := 82) (len := 1) rfl h
      have hS4 : Sh N3 := by rw [eN3]; exact hI.1.put (by decide) (by decide) rfl
      replace h := eAload (mi := 91) (pc := 83) (len := 1) (i := 0) rfl l0 h
      replace h := eDupR (mi := 91) (pc := 84) (len := 1) rfl h
      replace h := eGetI (a := 7) (j := 602) hS4 (by decide) (by decide) rfl (mi := 91) (pc := 85) (len := 3) rfl h
      replace h := eConst (mi := 91) (pc := 88) (len := 1) (v := 1) rfl h
      replace h := eAdd (mi := 91) (pc := 89) (len := 1) rfl h
      obtain ⟨N5, eN5⟩ : ∃ X_, X_ = mPut N3 7 2 (.int ((iv N3 7 2) + (1 : Int32))) := ⟨_, rfl⟩
      replace h := ePutE (a := 7) (f := 2) (N := N5) rfl eN5 (mi := 91) (pc := 90) (len := 3) (j := 602) rfl h
      have hS6 : Sh N5 := by rw [eN5]; exact hS4.put (by decide) (by decide) rfl
      replace h := eAload (mi := 91) (pc := 93) (len := 1) (i := 2) rfl l2 h
      obtain ⟨e1, e2⟩ := eRetA (mi := 91) (pc := 94) (len := 1) rfl h
      rw [e2]
      exact ab_fin hO hW w40 hI p0 (Or.inl (by have := c1; omega)) eN3 eN5
    · replace c1 : 0 < p.toInt := mC_le.2 c1
      replace h := eAload (mi := 91) (pc := 33) (len := 1) (i := 0) rfl l0 h
      replace h := eGetR (a := 7) (j := 600) (g := 8) hI.1 (by decide) (by decide) rfl rfl rfl (mi := 91) (pc := 34) (len := 3) rfl h
      replace h := eAload (mi := 91) (pc := 37) (len := 1) (i := 0) rfl l0 h
      replace h := eGetR (a := 7) (j := 601) (g := 9) hI.1 (by decide) (by decide) rfl rfl rfl (mi := 91) (pc := 38) (len := 3) rfl h
      replace h := eIload (mi := 91) (pc := 41) (len := 1) (i := 3) rfl l3 h
      replace h := eConst (mi := 91) (pc := 42) (len := 1) (v := 1) rfl h
      replace h := eSub (mi := 91) (pc := 43) (len := 1) rfl h
      obtain ⟨bd7, h⟩ := eIald (x := (p - (1 : Int32))) hI.1 (a := 9) (by decide) (by decide) rfl (mi := 91) (pc := 44) (len := 1) rfl h
      have pW : p.toInt.toNat ≤ W := hI.2.2.1
      have p1 : 0 < p.toInt := by have := c1; omega
      have ep : (p - (1 : Int32)).toInt = p.toInt - 1 := by rw [i32_sub (by show -2147483648 ≤ p.toInt - 1; omega) (by show p.toInt - 1 ≤ 2147483647; have := (i32_rng p).2; omega)]; rfl
      have ei : (p - (1 : Int32)).toInt.toNat = p.toInt.toNat - 1 := by omega
      have eo : iv N 9 (p - (1 : Int32)).toInt.toNat = iv M 9 (p.toInt.toNat - 1) := by rw [ei]; exact hI.2.2.2.2.2.2.1 _ (by omega)
      have lt : (iv M 9 (p.toInt.toNat - 1)).toInt.toNat < W := by
        have q := hO.1.2.1 (p.toInt.toNat - 1) (by rw [hW]; omega)
        have q : (iv M 9 (p.toInt.toNat - 1)).toInt.toNat < (iv M 7 2).toInt.toNat := q
        omega
      have ed : iv N (10 + (iv N 9 (p - (1 : Int32)).toInt.toNat).toInt.toNat) 3 = iv M (10 + (iv M 9 (p.toInt.toNat - 1)).toInt.toNat) 3 := by rw [eo]; exact hI.2.2.2.2.1 _ lt
      obtain ⟨bd8, h⟩ := eDeed (x := (iv N 9 (p - (1 : Int32)).toInt.toNat)) hI.1 (fun k hk => hI.2.1 k hk) (mi := 91) (pc := 45) (len := 1) rfl h
      replace h := eGetD (e := (iv N 9 (p - (1 : Int32)).toInt.toNat).toInt.toNat) (f := 3) hI.1 bd8.2 rfl rfl  (j := 103) (mi := 91) (pc := 46) (len := 3) rfl h
      replace h := eIload (mi := 91) (pc := 49) (len := 1) (i := 1) rfl l1 h
      rcases eIc (mi := 91) (pc := 50) (len := 3) (t := 73) rfl rfl h with ⟨c9, h⟩ | ⟨c9, h⟩
      · replace c9 : ¬ x.toInt < (iv N (10 + (iv N 9 (p - (1 : Int32)).toInt.toNat).toInt.toNat) 3).toInt := mC_le.1 c9
        replace h := eAload (mi := 91) (pc := 73) (len := 1) (i := 0) rfl l0 h
        replace h := eGetR (a := 7) (j := 601) (g := 9) hI.1 (by decide) (by decide) rfl rfl rfl (mi := 91) (pc := 74) (len := 3) rfl h
        replace h := eIload (mi := 91) (pc := 77) (len := 1) (i := 3) rfl l3 h
        replace h := eAload (mi := 91) (pc := 78) (len := 1) (i := 0) rfl l0 h
        replace h := eGetI (a := 7) (j := 602) hI.1 (by decide) (by decide) rfl (mi := 91) (pc := 79) (len := 3) rfl h
        obtain ⟨N11, eN11⟩ : ∃ X_, X_ = mPut N 9 p.toInt.toNat (.int (iv N 7 2)) := ⟨_, rfl⟩
        obtain ⟨bd10, h⟩ := eIast (x := p) (N := N11) hI.1 (a := 9) (by decide) (by decide) eN11 (mi := 91) (pc := 82) (len := 1) rfl h
        have hS12 : Sh N11 := by rw [eN11]; exact hI.1.put (by decide) (by decide) rfl
        replace h := eAload (mi := 91) (pc := 83) (len := 1) (i := 0) rfl l0 h
        replace h := eDupR (mi := 91) (pc := 84) (len := 1) rfl h
        replace h := eGetI (a := 7) (j := 602) hS12 (by decide) (by decide) rfl (mi := 91) (pc := 85) (len := 3) rfl h
        replace h := eConst (mi := 91) (pc := 88) (len := 1) (v := 1) rfl h
        replace h := eAdd (mi := 91) (pc := 89) (len := 1) rfl h
        obtain ⟨N13, eN13⟩ : ∃ X_, X_ = mPut N11 7 2 (.int ((iv N11 7 2) + (1 : Int32))) := ⟨_, rfl⟩
        replace h := ePutE (a := 7) (f := 2) (N := N13) rfl eN13 (mi := 91) (pc := 90) (len := 3) (j := 602) rfl h
        have hS14 : Sh N13 := by rw [eN13]; exact hS12.put (by decide) (by decide) rfl
        replace h := eAload (mi := 91) (pc := 93) (len := 1) (i := 2) rfl l2 h
        obtain ⟨e1, e2⟩ := eRetA (mi := 91) (pc := 94) (len := 1) rfl h
        rw [e2]
        exact ab_fin hO hW w40 hI p0 (Or.inr (by have q := c9; rw [ed] at q; exact q)) eN11 eN13
      · replace c9 : x.toInt < (iv N (10 + (iv N 9 (p - (1 : Int32)).toInt.toNat).toInt.toNat) 3).toInt := mC_le.2 c9
        replace h := eAload (mi := 91) (pc := 53) (len := 1) (i := 0) rfl l0 h
        replace h := eGetR (a := 7) (j := 601) (g := 9) hI.1 (by decide) (by decide) rfl rfl rfl (mi := 91) (pc := 54) (len := 3) rfl h
        replace h := eIload (mi := 91) (pc := 57) (len := 1) (i := 3) rfl l3 h
        replace h := eAload (mi := 91) (pc := 58) (len := 1) (i := 0) rfl l0 h
        replace h := eGetR (a := 7) (j := 601) (g := 9) hI.1 (by decide) (by decide) rfl rfl rfl (mi := 91) (pc := 59) (len := 3) rfl h
        replace h := eIload (mi := 91) (pc := 62) (len := 1) (i := 3) rfl l3 h
        replace h := eConst (mi := 91) (pc := 63) (len := 1) (v := 1) rfl h
        replace h := eSub (mi := 91) (pc := 64) (len := 1) rfl h
        obtain ⟨bd15, h⟩ := eIald (x := (p - (1 : Int32))) hI.1 (a := 9) (by decide) (by decide) rfl (mi := 91) (pc := 65) (len := 1) rfl h
        obtain ⟨N17, eN17⟩ : ∃ X_, X_ = mPut N 9 p.toInt.toNat (.int (iv N 9 (p - (1 : Int32)).toInt.toNat)) := ⟨_, rfl⟩
        obtain ⟨bd16, h⟩ := eIast (x := p) (N := N17) hI.1 (a := 9) (by decide) (by decide) eN17 (mi := 91) (pc := 66) (len := 1) rfl h
        have hS18 : Sh N17 := by rw [eN17]; exact hI.1.put (by decide) (by decide) rfl
        replace h := eIinc (mi := 91) (pc := 67) (len := 3) (i := 3) (k := (-1)) rfl l3 (by decide) h
        replace h := eGoto (mi := 91) (pc := 70) (len := 3) (t := 29) rfl rfl h
        have cx : x.toInt < (iv M (10 + (iv M 9 (p.toInt.toNat - 1)).toInt.toNat) 3).toInt := by have q := c9; rw [ed] at q; omega
        have e1m : (Int32.ofInt (-1)).toInt = -1 := by decide
        have en : (p + Int32.ofInt (-1)).toInt = p.toInt - 1 := by rw [i32_add (by rw [e1m]; omega) (by rw [e1m]; have := (i32_rng p).2; omega), e1m]; omega
        have en2 : (p + Int32.ofInt (-1)).toInt.toNat = p.toInt.toNat - 1 := by omega
        obtain ⟨hS, g8, pW, n7, hd, hx, o1, o3, h2, hk⟩ := hI
        have nb : ∀ c i, c ≠ 9 → mSlot N17 c i = mSlot N c i := fun c i q => by rw [eN17]; exact mSlot_put_ne (Or.inl q)
        have ni : ∀ c i, c ≠ 9 → iv N17 c i = iv N c i := fun c i q => by unfold iv; rw [nb c i q]
        have n9 : ∀ k, k ≠ p.toInt.toNat → iv N17 9 k = iv N 9 k := fun k q => by rw [eN17]; exact iv_put_ne (Or.inr q)
        have n9p : iv N17 9 p.toInt.toNat = iv M 9 (p.toInt.toNat - 1) := by rw [eN17, iv_put_eq hS (by decide) (by decide) (by show p.toInt.toNat < 40; omega)]; exact eo
        refine ih (p := p + Int32.ofInt (-1)) ⟨hS18, fun k q => by rw [nb 8 k (by decide)]; exact g8 k q, by omega, by rw [ni 7 2 (by decide)]; exact n7, fun d q => by rw [ni _ _ (by omega)]; exact hd d q, by rw [ni _ _ (by omega)]; exact hx, fun k q => ?_, fun k q1 q2 => ?_, fun k q1 q2 => ?_, fun c i q => by rw [nb c i (by omega)]; exact hk c i q⟩ (mLd_st1_ref (by decide) l0) (mLd_st1_int (by decide) l1) (mLd_st1_ref (by decide) l2) mLd_st1_i (by omega) h
        · rw [n9 k (by omega)]
          exact o1 k (by omega)
        · by_cases c : k = p.toInt.toNat
          · rw [c, n9p]
          · rw [n9 k c]
            exact o3 k (by omega) q2
        · by_cases c : k = p.toInt.toNat - 1
          · rw [c]
            exact cx
          · exact h2 k (by omega) q2
theorem ab_en {M : Mem} {W : Nat} {x : Int32} (hS : Sh M) (hR : yT8 M) (hO : okLs M) (hW : (iv M 7 2).toInt = (W : Int)) (w40 : W < 40) {n d : Nat} {L : MLoc} {r : Option Value} {M1 : Mem} (l0 : mLd L 0 = some (.ref 7)) (l1 : mLd L 1 = some (.int x)) (h : En n d 91 0 L [] M r M1) : okLs M1 := by
  replace h := eAload (mi := 91) (pc := 0) (len := 1) (i := 0) rfl l0 h
  replace h := eGetR (a := 7) (j := 600) (g := 8) hS (by decide) (by decide) rfl rfl rfl (mi := 91) (pc := 1) (len := 3) rfl h
  replace h := eAload (mi := 91) (pc := 4) (len := 1) (i := 0) rfl l0 h
  replace h := eGetI (a := 7) (j := 602) hS (by decide) (by decide) rfl (mi := 91) (pc := 5) (len := 3) rfl h
  obtain ⟨bd1, h⟩ := eDeed (x := (iv M 7 2)) hS hR (mi := 91) (pc := 8) (len := 1) rfl h
  have eW : (iv M 7 2).toInt.toNat = W := by rw [hW]; omega
  rw [eW] at h
  replace h := eAstore (mi := 91) (pc := 9) (len := 1) (i := 2) rfl (by decide) h
  replace h := eAload (mi := 91) (pc := 10) (len := 1) (i := 2) rfl mLd_st1_i h
  replace h := eIload (mi := 91) (pc := 11) (len := 1) (i := 1) rfl (mLd_st1_int (by decide) l1) h
  obtain ⟨N2, eN2⟩ : ∃ X_, X_ = mPut M (10 + W) 3 (.int x) := ⟨_, rfl⟩
  replace h := ePutE (a := (10 + W)) (f := 3) (N := N2) rfl eN2 (mi := 91) (pc := 12) (len := 3) (j := 103) rfl h
  have hS3 : Sh N2 := by rw [eN2]; exact hS.put (show 2 ≤ 10 + W by omega) (show 10 + W < 242 by omega) (by rw [grp10 W w40]; rfl)
  replace h := eAload (mi := 91) (pc := 15) (len := 1) (i := 2) rfl mLd_st1_i h
  replace h := eConst (mi := 91) (pc := 16) (len := 1) (v := 0) rfl h
  obtain ⟨N4, eN4⟩ : ∃ X_, X_ = mPut N2 (10 + W) 6 (.int (0 : Int32)) := ⟨_, rfl⟩
  replace h := ePutE (a := (10 + W)) (f := 6) (N := N4) rfl eN4 (mi := 91) (pc := 17) (len := 3) (j := 106) rfl h
  have hS5 : Sh N4 := by rw [eN4]; exact hS3.put (show 2 ≤ 10 + W by omega) (show 10 + W < 242 by omega) (by rw [grp10 W w40]; rfl)
  replace h := eAload (mi := 91) (pc := 20) (len := 1) (i := 2) rfl mLd_st1_i h
  obtain ⟨r6, N7, g8, h⟩ := eCall (mi := 91) (pc := 21) (len := 3) (j := 30) (as := [.ref (10 + W)]) (rest := []) rfl (Or.inr (Or.inl rfl)) (by decide) rfl rfl h
  obtain ⟨erN7, hSN7, frN7⟩ := tko_en w40 hS5 g8
  rw [erN7] at h
  replace h := eAload (mi := 91) (pc := 24) (len := 1) (i := 0) rfl (mLd_st1_ref (by decide) l0) h
  replace h := eGetI (a := 7) (j := 602) hSN7 (by decide) (by decide) rfl (mi := 91) (pc := 25) (len := 3) rfl h
  replace h := eIstore (mi := 91) (pc := 28) (len := 1) (i := 3) rfl (by decide) h
  have f : ∀ c i, c ≠ 10 + W ∨ (i ≠ 3 ∧ i ≠ 6 ∧ i ≠ 7 ∧ i ≠ 8 ∧ i ≠ 9) → mSlot N7 c i = mSlot M c i := fun c i q => by rw [frN7 c i (by omega), eN4, mSlot_put_ne (by omega), eN2, mSlot_put_ne (by omega)]
  have fi : ∀ c i, c ≠ 10 + W ∨ (i ≠ 3 ∧ i ≠ 6 ∧ i ≠ 7 ∧ i ≠ 8 ∧ i ≠ 9) → iv N7 c i = iv M c i := fun c i q => by unfold iv; rw [f c i q]
  have e72 : iv N7 7 2 = iv M 7 2 := fi 7 2 (by omega)
  have ex : iv N7 (10 + W) 3 = x := by
    rw [iv_sl (frN7 (10 + W) 3 (by omega)), eN4, iv_put_ne (by omega), eN2]
    exact iv_put_eq hS (by omega) (show 10 + W < 242 by omega) (by rw [grp10 W w40]; decide)
  refine ab_lp hO hW w40 _ (p := iv N7 7 2) ⟨hSN7, fun k q => ?_, ?_, ?_, fun d q => fi _ _ (by omega), ex, fun k q => fi 9 k (by omega), fun k q1 q2 => ?_, fun k q1 q2 => ?_, fun c i q => f c i (by omega)⟩ (mLd_st1_ref (by decide) (mLd_st1_ref (by decide) l0)) (mLd_st1_int (by decide) (mLd_st1_int (by decide) l1)) (mLd_st1_ref (by decide) mLd_st1_i) mLd_st1_i (by rw [e72, hW]; omega) h
  · rw [f 8 k (by omega)]
    exact hR k q
  · rw [e72, hW]; omega
  · rw [e72]; exact hW
  · rw [e72, hW] at q1; omega
  · rw [e72, hW] at q1; omega
/-- the last deed is dropped, by now -/
def DLI (M N : Mem) (W q p i : Nat) : Prop := Sh N ∧ (iv N 7 2).toInt = (W : Int) ∧ (i ≤ W + 1 ∧ q < W + 1 ∧ p = (if i ≤ q then i else i - 1)) ∧ (∀ k, k < p → iv N 9 k = (if k < q then iv M 9 k else iv M 9 (k + 1))) ∧ (∀ k, i ≤ k → k ≤ W → iv N 9 k = iv M 9 k) ∧ ∀ c j, c ≠ 9 → (c ≠ 7 ∨ j ≠ 2) → mSlot N c j = mSlot M c j
theorem dl_fin {M N : Mem} {W q p i : Nat} (h : okLs M) (hW : (iv M 7 2).toInt = (W : Int) + 1) (w40 : W < 40) (eq : (iv M 9 q).toInt.toNat = W) (hI : DLI M N W q p i) (hi : i = W + 1) : okLs N := by
  obtain ⟨hS, n7, ⟨i1, q1, pe⟩, o, _, hk⟩ := hI
  rw [if_neg (by omega)] at pe
  have ni : ∀ c j, c ≠ 9 → (c ≠ 7 ∨ j ≠ 2) → iv N c j = iv M c j := fun c j a b => by unfold iv; rw [hk c j a b]
  exact ⟨okL_del (q := q) h.1 hW n7 (fun d hd => ni _ _ (by omega) (by omega)) q1 eq (fun k hk2 => o k (by omega)), okL_same (ni _ _ (by decide) (Or.inl (by decide))) (fun k => ni _ _ (by decide) (Or.inl (by decide))) (fun d hd => ni _ _ (by omega) (by omega)) h.2⟩
theorem dl_lp {M : Mem} {W q : Nat} (hO : okLs M) (hP : knP (fun d => (iv M (10 + d) 3).toInt) (W + 1) (fun k => (iv M 9 k).toInt.toNat)) (h9 : ∀ k, k < 40 → 0 ≤ (iv M 9 k).toInt) (hW : (iv M 7 2).toInt = (W : Int) + 1) (w40 : W < 40) (eq : (iv M 9 q).toInt.toNat = W) : ∀ (n : Nat) {d : Nat} {L : MLoc} {N : Mem} {r : Option Value} {M1 : Mem} {p i : Int32}, DLI M N W q p.toInt.toNat i.toInt.toNat → mLd L 0 = some (.ref 7) → mLd L 1 = some (.int p) → mLd L 2 = some (.int i) → 0 ≤ p.toInt → 0 ≤ i.toInt → En n d 92 22 L [] N r M1 → okLs M1 := by
  intro n
  induction n with
  | zero => intro d L N r M1 p i _ _ _ _ _ _ h; exact (En.zero (mi := 92) (pc := 22) (len := 1) rfl h).elim
  | succ n ih =>
    intro d L N r M1 p i hI l0 l1 l2 p0 i0 h
    replace h := eIloadS (mi := 92) (pc := 22) (len := 1) (i := 2) rfl l2 h
    replace h := eAload (mi := 92) (pc := 23) (len := 1) (i := 0) rfl l0 h
    replace h := eGetI (a := 7) (j := 602) hI.1 (by decide) (by decide) rfl (mi := 92) (pc := 24) (len := 3) rfl h
    rcases eIc (mi := 92) (pc := 27) (len := 3) (t := 64) rfl rfl h with ⟨c1, h⟩ | ⟨c1, h⟩
    · replace c1 : (iv N 7 2).toInt < i.toInt := mC_gt.1 c1
      obtain ⟨e1, e2⟩ := eRetV (mi := 92) (pc := 64) (len := 1) rfl h
      rw [e2]
      exact dl_fin hO hW w40 eq hI (by have q1 := c1; rw [hI.2.1] at q1; have q2 := hI.2.2.1.1; omega)
    · replace c1 : ¬ (iv N 7 2).toInt < i.toInt := mC_gt.2 c1
      replace h := eAload (mi := 92) (pc := 30) (len := 1) (i := 0) rfl l0 h
      replace h := eGetR (a := 7) (j := 601) (g := 9) hI.1 (by decide) (by decide) rfl rfl rfl (mi := 92) (pc := 31) (len := 3) rfl h
      replace h := eIload (mi := 92) (pc := 34) (len := 1) (i := 2) rfl l2 h
      obtain ⟨bd2, h⟩ := eIald (x := i) hI.1 (a := 9) (by decide) (by decide) rfl (mi := 92) (pc := 35) (len := 1) rfl h
      replace h := eAload (mi := 92) (pc := 36) (len := 1) (i := 0) rfl l0 h
      replace h := eGetI (a := 7) (j := 602) hI.1 (by decide) (by decide) rfl (mi := 92) (pc := 37) (len := 3) rfl h
      rcases eIc (mi := 92) (pc := 40) (len := 3) (t := 58) rfl rfl h with ⟨c3, h⟩ | ⟨c3, h⟩
      · replace c3 : (iv N 9 i.toInt.toNat).toInt = (iv N 7 2).toInt := mC_eq.1 c3
        replace h := eIinc (mi := 92) (pc := 58) (len := 3) (i := 2) (k := 1) rfl l2 (by decide) h
        replace h := eGoto (mi := 92) (pc := 61) (len := 3) (t := 22) rfl rfl h
        have iW : i.toInt.toNat ≤ W := by have q1 := c1; rw [hI.2.1] at q1; omega
        have eo : iv N 9 i.toInt.toNat = iv M 9 i.toInt.toNat := hI.2.2.2.2.1 _ (Nat.le_refl _) iW
        have en : (i + 1).toInt = i.toInt + 1 := i32_inc i0 (by omega)
        have en2 : (i + 1).toInt.toNat = i.toInt.toNat + 1 := by omega
        obtain ⟨hS, n7, ⟨i1, q1, pe⟩, o, o2, hk⟩ := hI
        have iq : i.toInt.toNat = q := by
          have z := c3
          rw [eo, n7] at z
          exact knP_inj hP (a := i.toInt.toNat) (b := q) (by omega) q1 (by show (iv M 9 i.toInt.toNat).toInt.toNat = (iv M 9 q).toInt.toNat; omega)
        rw [if_pos (by omega)] at pe
        refine ih (p := p) (i := i + 1) ⟨hS, n7, ⟨by omega, q1, by rw [en2, if_neg (by omega)]; omega⟩, o, fun k a b => o2 k (by omega) b, hk⟩ (mLd_st1_ref (by decide) l0) (mLd_st1_int (by decide) l1) mLd_st1_i p0 (by omega) h
      · replace c3 : ¬ (iv N 9 i.toInt.toNat).toInt = (iv N 7 2).toInt := mC_eq.2 c3
        replace h := eAload (mi := 92) (pc := 43) (len := 1) (i := 0) rfl l0 h
        replace h := eGetR (a := 7) (j := 601) (g := 9) hI.1 (by decide) (by decide) rfl rfl rfl (mi := 92) (pc := 44) (len := 3) rfl h
        replace h := eIload (mi := 92) (pc := 47) (len := 1) (i := 1) rfl l1 h
        replace h := eAload (mi := 92) (pc := 48) (len := 1) (i := 0) rfl l0 h
        replace h := eGetR (a := 7) (j := 601) (g := 9) hI.1 (by decide) (by decide) rfl rfl rfl (mi := 92) (pc := 49) (len := 3) rfl h
        replace h := eIload (mi := 92) (pc := 52) (len := 1) (i := 2) rfl l2 h
        obtain ⟨bd4, h⟩ := eIald (x := i) hI.1 (a := 9) (by decide) (by decide) rfl (mi := 92) (pc := 53) (len := 1) rfl h
        obtain ⟨N6, eN6⟩ : ∃ X_, X_ = mPut N 9 p.toInt.toNat (.int (iv N 9 i.toInt.toNat)) := ⟨_, rfl⟩
        obtain ⟨bd5, h⟩ := eIast (x := p) (N := N6) hI.1 (a := 9) (by decide) (by decide) eN6 (mi := 92) (pc := 54) (len := 1) rfl h
        have hS7 : Sh N6 := by rw [eN6]; exact hI.1.put (by decide) (by decide) rfl
        replace h := eIinc (mi := 92) (pc := 55) (len := 3) (i := 1) (k := 1) rfl l1 (by decide) h
        replace h := eIinc (mi := 92) (pc := 58) (len := 3) (i := 2) (k := 1) rfl (mLd_st1_int (by decide) l2) (by decide) h
        replace h := eGoto (mi := 92) (pc := 61) (len := 3) (t := 22) rfl rfl h
        have iW : i.toInt.toNat ≤ W := by have q1 := c1; rw [hI.2.1] at q1; omega
        have eo : iv N 9 i.toInt.toNat = iv M 9 i.toInt.toNat := hI.2.2.2.2.1 _ (Nat.le_refl _) iW
        have en : (i + 1).toInt = i.toInt + 1 := i32_inc i0 (by omega)
        have en2 : (i + 1).toInt.toNat = i.toInt.toNat + 1 := by omega
        obtain ⟨hS, n7, ⟨i1, q1, pe⟩, o, o2, hk⟩ := hI
        have iq : i.toInt.toNat ≠ q := fun c => by
          have z := c3
          rw [eo, n7, c] at z
          have := h9 q (by omega)
          omega
        have pi : p.toInt.toNat ≤ i.toInt.toNat := by
          by_cases c : i.toInt.toNat ≤ q
          · rw [if_pos c] at pe; omega
          · rw [if_neg c] at pe; omega
        have ep : (p + 1).toInt = p.toInt + 1 := i32_inc p0 (by omega)
        have ep2 : (p + 1).toInt.toNat = p.toInt.toNat + 1 := by omega
        have m9 : ∀ k, k ≠ p.toInt.toNat → iv N6 9 k = iv N 9 k := fun k c => by rw [eN6]; exact iv_put_ne (Or.inr c)
        have m9p : iv N6 9 p.toInt.toNat = iv M 9 i.toInt.toNat := by rw [eN6, iv_put_eq hS (by decide) (by decide) (by show p.toInt.toNat < 40; omega)]; exact eo
        have mk : ∀ c j, c ≠ 9 → mSlot N6 c j = mSlot N c j := fun c j a => by rw [eN6]; exact mSlot_put_ne (Or.inl a)
        refine ih (p := p + 1) (i := i + 1) ⟨hS7, by rw [show iv N6 7 2 = iv N 7 2 from iv_sl (mk 7 2 (by decide))]; exact n7, ⟨by omega, q1, ?_⟩, fun k a => ?_, fun k a b => by rw [m9 k (by omega)]; exact o2 k (by omega) b, fun c j a b => by rw [mk c j a]; exact hk c j a b⟩ (mLd_st1_ref (by decide) (mLd_st1_ref (by decide) l0)) (mLd_st1_int (by decide) mLd_st1_i) mLd_st1_i (by omega) (by omega) h
        · rw [ep2, en2]
          by_cases c : i.toInt.toNat ≤ q
          · rw [if_pos c] at pe; rw [if_pos (by omega)]; omega
          · rw [if_neg c] at pe; rw [if_neg (by omega)]; omega
        · rw [ep2] at a
          by_cases c : k = p.toInt.toNat
          · rw [c, m9p]
            by_cases c2 : i.toInt.toNat ≤ q
            · rw [if_pos c2] at pe; rw [if_pos (by omega), pe]
            · rw [if_neg c2] at pe; rw [if_neg (by omega), show p.toInt.toNat + 1 = i.toInt.toNat by omega]
          · rw [m9 k c]
            exact o k (by omega)
theorem dl_en {M : Mem} {W : Nat} (hS : Sh M) (h9 : ∀ k, k < 40 → 0 ≤ (iv M 9 k).toInt) (hO : okLs M) (hW : (iv M 7 2).toInt = (W : Int) + 1) (w40 : W < 40) {n d : Nat} {L : MLoc} {r : Option Value} {M1 : Mem} (l0 : mLd L 0 = some (.ref 7)) (h : En n d 92 0 L [] M r M1) : okLs M1 := by
  replace h := eAload (mi := 92) (pc := 0) (len := 1) (i := 0) rfl l0 h
  replace h := eGetI (a := 7) (j := 602) hS (by decide) (by decide) rfl (mi := 92) (pc := 1) (len := 3) rfl h
  rcases eIf (mi := 92) (pc := 4) (len := 3) (t := 8) rfl rfl h with ⟨c1, h⟩ | ⟨c1, h⟩
  · replace c1 : ¬ (iv M 7 2).toInt = 0 := mC_ne.1 c1
    replace h := eAload (mi := 92) (pc := 8) (len := 1) (i := 0) rfl l0 h
    replace h := eDupR (mi := 92) (pc := 9) (len := 1) rfl h
    replace h := eGetI (a := 7) (j := 602) hS (by decide) (by decide) rfl (mi := 92) (pc := 10) (len := 3) rfl h
    replace h := eConst (mi := 92) (pc := 13) (len := 1) (v := 1) rfl h
    replace h := eSub (mi := 92) (pc := 14) (len := 1) rfl h
    obtain ⟨N2, eN2⟩ : ∃ X_, X_ = mPut M 7 2 (.int ((iv M 7 2) - (1 : Int32))) := ⟨_, rfl⟩
    replace h := ePutE (a := 7) (f := 2) (N := N2) rfl eN2 (mi := 92) (pc := 15) (len := 3) (j := 602) rfl h
    have hS3 : Sh N2 := by rw [eN2]; exact hS.put (by decide) (by decide) rfl
    replace h := eConst (mi := 92) (pc := 18) (len := 1) (v := 0) rfl h
    replace h := eIstore (mi := 92) (pc := 19) (len := 1) (i := 1) rfl (by decide) h
    replace h := eConst (mi := 92) (pc := 20) (len := 1) (v := 0) rfl h
    replace h := eIstore (mi := 92) (pc := 21) (len := 1) (i := 2) rfl (by decide) h
    have hP : knP (fun d => (iv M (10 + d) 3).toInt) (W + 1) (fun k => (iv M 9 k).toInt.toNat) := by
      have z := hO.1.2
      rw [hW, show ((W : Int) + 1).toNat = W + 1 by omega] at z
      exact z
    obtain ⟨q, q1, q2⟩ := hP.2.1 W (by omega)
    have e7 : (iv N2 7 2).toInt = (W : Int) := by
      rw [eN2, iv_put_eq hS (by decide) (by decide) (by decide), i32_sub (by rw [hW]; show -2147483648 ≤ (W : Int) + 1 - 1; omega) (by rw [hW]; show (W : Int) + 1 - 1 ≤ 2147483647; omega), hW]
      show (W : Int) + 1 - 1 = _
      omega
    have mk : ∀ c j, (c ≠ 7 ∨ j ≠ 2) → mSlot N2 c j = mSlot M c j := fun c j a => by rw [eN2]; exact mSlot_put_ne a
    exact dl_lp hO hP h9 hW w40 q2 _ (p := 0) (i := 0) ⟨hS3, e7, ⟨Nat.zero_le _, q1, by show (0 : Nat) = if 0 ≤ q then 0 else 0 - 1; rw [if_pos (Nat.zero_le q)]⟩, fun k a => absurd a (Nat.not_lt_zero k), fun k _ _ => iv_sl (mk 9 k (by decide)), fun c j _ b => mk c j b⟩ (mLd_st1_ref (by decide) (mLd_st1_ref (by decide) l0)) (mLd_st1_int (by decide) mLd_st1_i) mLd_st1_i (by decide) (by decide) h
  · replace c1 : (iv M 7 2).toInt = 0 := mC_ne.2 c1
    exfalso
    have z := c1
    rw [hW] at z
    omega
theorem dcp53_en {e : Nat} (he : e < 40) {n d : Nat} {M : Mem} {r : Option Value} {M1 : Mem} (hS : Sh M) (h : En n d 31 0 (lv_args 0 [.ref (53 + e), .ref (10 + e)]) [] M r M1) : r = none ∧ Sh M1 ∧ (∀ c i, c ≠ 53 + e → mSlot M1 c i = mSlot M c i) ∧ iv M1 (53 + e) 3 = iv M (10 + e) 3 := by
  replace h := eAload (mi := 31) (pc := 0) (len := 1) (i := 0) rfl rfl h
  replace h := eAload (mi := 31) (pc := 1) (len := 1) (i := 1) rfl rfl h
  replace h := eGetI (a := 10 + e) (j := 100) hS (show 2 ≤ 10 + e by omega) (show 10 + e < 242 by omega) (by rw [grp10 e he]; rfl) (mi := 31) (pc := 2) (len := 3) rfl h
  obtain ⟨N1, eN1⟩ : ∃ X_, X_ = mPut M (53 + e) 0 (.int (iv M (10 + e) 0)) := ⟨_, rfl⟩
  replace h := ePutE (a := (53 + e)) (f := 0) (N := N1) rfl eN1 (mi := 31) (pc := 5) (len := 3) (j := 100) rfl h
  have hS2 : Sh N1 := by rw [eN1]; exact hS.put (show 2 ≤ 53 + e by omega) (show 53 + e < 242 by omega) (by rw [grp53 e he]; rfl)
  replace h := eAload (mi := 31) (pc := 8) (len := 1) (i := 0) rfl rfl h
  replace h := eAload (mi := 31) (pc := 9) (len := 1) (i := 1) rfl rfl h
  replace h := eGetI (a := 10 + e) (j := 101) hS2 (show 2 ≤ 10 + e by omega) (show 10 + e < 242 by omega) (by rw [grp10 e he]; rfl) (mi := 31) (pc := 10) (len := 3) rfl h
  obtain ⟨N3, eN3⟩ : ∃ X_, X_ = mPut N1 (53 + e) 1 (.int (iv N1 (10 + e) 1)) := ⟨_, rfl⟩
  replace h := ePutE (a := (53 + e)) (f := 1) (N := N3) rfl eN3 (mi := 31) (pc := 13) (len := 3) (j := 101) rfl h
  have hS4 : Sh N3 := by rw [eN3]; exact hS2.put (show 2 ≤ 53 + e by omega) (show 53 + e < 242 by omega) (by rw [grp53 e he]; rfl)
  replace h := eAload (mi := 31) (pc := 16) (len := 1) (i := 0) rfl rfl h
  replace h := eAload (mi := 31) (pc := 17) (len := 1) (i := 1) rfl rfl h
  replace h := eGetI (a := 10 + e) (j := 102) hS4 (show 2 ≤ 10 + e by omega) (show 10 + e < 242 by omega) (by rw [grp10 e he]; rfl) (mi := 31) (pc := 18) (len := 3) rfl h
  obtain ⟨N5, eN5⟩ : ∃ X_, X_ = mPut N3 (53 + e) 2 (.int (iv N3 (10 + e) 2)) := ⟨_, rfl⟩
  replace h := ePutE (a := (53 + e)) (f := 2) (N := N5) rfl eN5 (mi := 31) (pc := 21) (len := 3) (j := 102) rfl h
  have hS6 : Sh N5 := by rw [eN5]; exact hS4.put (show 2 ≤ 53 + e by omega) (show 53 + e < 242 by omega) (by rw [grp53 e he]; rfl)
  replace h := eAload (mi := 31) (pc := 24) (len := 1) (i := 0) rfl rfl h
  replace h := eAload (mi := 31) (pc := 25) (len := 1) (i := 1) rfl rfl h
  replace h := eGetI (a := 10 + e) (j := 103) hS6 (show 2 ≤ 10 + e by omega) (show 10 + e < 242 by omega) (by rw [grp10 e he]; rfl) (mi := 31) (pc := 26) (len := 3) rfl h
  obtain ⟨N7, eN7⟩ : ∃ X_, X_ = mPut N5 (53 + e) 3 (.int (iv N5 (10 + e) 3)) := ⟨_, rfl⟩
  replace h := ePutE (a := (53 + e)) (f := 3) (N := N7) rfl eN7 (mi := 31) (pc := 29) (len := 3) (j := 103) rfl h
  have hS8 : Sh N7 := by rw [eN7]; exact hS6.put (show 2 ≤ 53 + e by omega) (show 53 + e < 242 by omega) (by rw [grp53 e he]; rfl)
  replace h := eAload (mi := 31) (pc := 32) (len := 1) (i := 0) rfl rfl h
  replace h := eAload (mi := 31) (pc := 33) (len := 1) (i := 1) rfl rfl h
  replace h := eGetI (a := 10 + e) (j := 104) hS8 (show 2 ≤ 10 + e by omega) (show 10 + e < 242 by omega) (by rw [grp10 e he]; rfl) (mi := 31) (pc := 34) (len := 3) rfl h
  obtain ⟨N9, eN9⟩ : ∃ X_, X_ = mPut N7 (53 + e) 4 (.int (iv N7 (10 + e) 4)) := ⟨_, rfl⟩
  replace h := ePutE (a := (53 + e)) (f := 4) (N := N9) rfl eN9 (mi := 31) (pc := 37) (len := 3) (j := 104) rfl h
  have hS10 : Sh N9 := by rw [eN9]; exact hS8.put (show 2 ≤ 53 + e by omega) (show 53 + e < 242 by omega) (by rw [grp53 e he]; rfl)
  replace h := eAload (mi := 31) (pc := 40) (len := 1) (i := 0) rfl rfl h
  replace h := eAload (mi := 31) (pc := 41) (len := 1) (i := 1) rfl rfl h
  replace h := eGetI (a := 10 + e) (j := 105) hS10 (show 2 ≤ 10 + e by omega) (show 10 + e < 242 by omega) (by rw [grp10 e he]; rfl) (mi := 31) (pc := 42) (len := 3) rfl h
  obtain ⟨N11, eN11⟩ : ∃ X_, X_ = mPut N9 (53 + e) 5 (.int (iv N9 (10 + e) 5)) := ⟨_, rfl⟩
  replace h := ePutE (a := (53 + e)) (f := 5) (N := N11) rfl eN11 (mi := 31) (pc := 45) (len := 3) (j := 105) rfl h
  have hS12 : Sh N11 := by rw [eN11]; exact hS10.put (show 2 ≤ 53 + e by omega) (show 53 + e < 242 by omega) (by rw [grp53 e he]; rfl)
  replace h := eAload (mi := 31) (pc := 48) (len := 1) (i := 0) rfl rfl h
  replace h := eAload (mi := 31) (pc := 49) (len := 1) (i := 1) rfl rfl h
  replace h := eGetI (a := 10 + e) (j := 106) hS12 (show 2 ≤ 10 + e by omega) (show 10 + e < 242 by omega) (by rw [grp10 e he]; rfl) (mi := 31) (pc := 50) (len := 3) rfl h
  obtain ⟨N13, eN13⟩ : ∃ X_, X_ = mPut N11 (53 + e) 6 (.int (iv N11 (10 + e) 6)) := ⟨_, rfl⟩
  replace h := ePutE (a := (53 + e)) (f := 6) (N := N13) rfl eN13 (mi := 31) (pc := 53) (len := 3) (j := 106) rfl h
  have hS14 : Sh N13 := by rw [eN13]; exact hS12.put (show 2 ≤ 53 + e by omega) (show 53 + e < 242 by omega) (by rw [grp53 e he]; rfl)
  replace h := eAload (mi := 31) (pc := 56) (len := 1) (i := 0) rfl rfl h
  replace h := eAload (mi := 31) (pc := 57) (len := 1) (i := 1) rfl rfl h
  replace h := eGetI (a := 10 + e) (j := 107) hS14 (show 2 ≤ 10 + e by omega) (show 10 + e < 242 by omega) (by rw [grp10 e he]; rfl) (mi := 31) (pc := 58) (len := 3) rfl h
  obtain ⟨N15, eN15⟩ : ∃ X_, X_ = mPut N13 (53 + e) 7 (.int (iv N13 (10 + e) 7)) := ⟨_, rfl⟩
  replace h := ePutE (a := (53 + e)) (f := 7) (N := N15) rfl eN15 (mi := 31) (pc := 61) (len := 3) (j := 107) rfl h
  have hS16 : Sh N15 := by rw [eN15]; exact hS14.put (show 2 ≤ 53 + e by omega) (show 53 + e < 242 by omega) (by rw [grp53 e he]; rfl)
  replace h := eAload (mi := 31) (pc := 64) (len := 1) (i := 0) rfl rfl h
  replace h := eAload (mi := 31) (pc := 65) (len := 1) (i := 1) rfl rfl h
  replace h := eGetI (a := 10 + e) (j := 108) hS16 (show 2 ≤ 10 + e by omega) (show 10 + e < 242 by omega) (by rw [grp10 e he]; rfl) (mi := 31) (pc := 66) (len := 3) rfl h
  obtain ⟨N17, eN17⟩ : ∃ X_, X_ = mPut N15 (53 + e) 8 (.int (iv N15 (10 + e) 8)) := ⟨_, rfl⟩
  replace h := ePutE (a := (53 + e)) (f := 8) (N := N17) rfl eN17 (mi := 31) (pc := 69) (len := 3) (j := 108) rfl h
  have hS18 : Sh N17 := by rw [eN17]; exact hS16.put (show 2 ≤ 53 + e by omega) (show 53 + e < 242 by omega) (by rw [grp53 e he]; rfl)
  replace h := eAload (mi := 31) (pc := 72) (len := 1) (i := 0) rfl rfl h
  replace h := eAload (mi := 31) (pc := 73) (len := 1) (i := 1) rfl rfl h
  replace h := eGetI (a := 10 + e) (j := 109) hS18 (show 2 ≤ 10 + e by omega) (show 10 + e < 242 by omega) (by rw [grp10 e he]; rfl) (mi := 31) (pc := 74) (len := 3) rfl h
  obtain ⟨N19, eN19⟩ : ∃ X_, X_ = mPut N17 (53 + e) 9 (.int (iv N17 (10 + e) 9)) := ⟨_, rfl⟩
  replace h := ePutE (a := (53 + e)) (f := 9) (N := N19) rfl eN19 (mi := 31) (pc := 77) (len := 3) (j := 109) rfl h
  have hS20 : Sh N19 := by rw [eN19]; exact hS18.put (show 2 ≤ 53 + e by omega) (show 53 + e < 242 by omega) (by rw [grp53 e he]; rfl)
  obtain ⟨e1, e2⟩ := eRetV (mi := 31) (pc := 80) (len := 1) rfl h
  refine ⟨e1, by rw [e2]; exact hS20, fun c i q => ?_, ?_⟩
  · rw [e2, eN19, mSlot_put_ne (Or.inl q), eN17, mSlot_put_ne (Or.inl q), eN15, mSlot_put_ne (Or.inl q), eN13, mSlot_put_ne (Or.inl q), eN11, mSlot_put_ne (Or.inl q), eN9, mSlot_put_ne (Or.inl q), eN7, mSlot_put_ne (Or.inl q), eN5, mSlot_put_ne (Or.inl q), eN3, mSlot_put_ne (Or.inl q), eN1, mSlot_put_ne (Or.inl q)]
  · rw [e2, eN19, iv_put_ne (Or.inr (by decide)), eN17, iv_put_ne (Or.inr (by decide)), eN15, iv_put_ne (Or.inr (by decide)), eN13, iv_put_ne (Or.inr (by decide)), eN11, iv_put_ne (Or.inr (by decide)), eN9, iv_put_ne (Or.inr (by decide)), eN7, iv_put_eq hS6 (show 2 ≤ 53 + e by omega) (show 53 + e < 242 by omega) (by rw [grp53 e he]; decide), eN5, iv_put_ne (Or.inl (by omega)), eN3, iv_put_ne (Or.inl (by omega)), eN1, iv_put_ne (Or.inl (by omega))]
theorem dcp10_en {e : Nat} (he : e < 40) {n d : Nat} {M : Mem} {r : Option Value} {M1 : Mem} (hS : Sh M) (h : En n d 31 0 (lv_args 0 [.ref (10 + e), .ref (53 + e)]) [] M r M1) : r = none ∧ Sh M1 ∧ (∀ c i, c ≠ 10 + e → mSlot M1 c i = mSlot M c i) ∧ iv M1 (10 + e) 3 = iv M (53 + e) 3 := by
  replace h := eAload (mi := 31) (pc := 0) (len := 1) (i := 0) rfl rfl h
  replace h := eAload (mi := 31) (pc := 1) (len := 1) (i := 1) rfl rfl h
  replace h := eGetI (a := 53 + e) (j := 100) hS (show 2 ≤ 53 + e by omega) (show 53 + e < 242 by omega) (by rw [grp53 e he]; rfl) (mi := 31) (pc := 2) (len := 3) rfl h
  obtain ⟨N1, eN1⟩ : ∃ X_, X_ = mPut M (10 + e) 0 (.int (iv M (53 + e) 0)) := ⟨_, rfl⟩
  replace h := ePutE (a := (10 + e)) (f := 0) (N := N1) rfl eN1 (mi := 31) (pc := 5) (len := 3) (j := 100) rfl h
  have hS2 : Sh N1 := by rw [eN1]; exact hS.put (show 2 ≤ 10 + e by omega) (show 10 + e < 242 by omega) (by rw [grp10 e he]; rfl)
  replace h := eAload (mi := 31) (pc := 8) (len := 1) (i := 0) rfl rfl h
  replace h := eAload (mi := 31) (pc := 9) (len := 1) (i := 1) rfl rfl h
  replace h := eGetI (a := 53 + e) (j := 101) hS2 (show 2 ≤ 53 + e by omega) (show 53 + e < 242 by omega) (by rw [grp53 e he]; rfl) (mi := 31) (pc := 10) (len := 3) rfl h
  obtain ⟨N3, eN3⟩ : ∃ X_, X_ = mPut N1 (10 + e) 1 (.int (iv N1 (53 + e) 1)) := ⟨_, rfl⟩
  replace h := ePutE (a := (10 + e)) (f := 1) (N := N3) rfl eN3 (mi := 31) (pc := 13) (len := 3) (j := 101) rfl h
  have hS4 : Sh N3 := by rw [eN3]; exact hS2.put (show 2 ≤ 10 + e by omega) (show 10 + e < 242 by omega) (by rw [grp10 e he]; rfl)
  replace h := eAload (mi := 31) (pc := 16) (len := 1) (i := 0) rfl rfl h
  replace h := eAload (mi := 31) (pc := 17) (len := 1) (i := 1) rfl rfl h
  replace h := eGetI (a := 53 + e) (j := 102) hS4 (show 2 ≤ 53 + e by omega) (show 53 + e < 242 by omega) (by rw [grp53 e he]; rfl) (mi := 31) (pc := 18) (len := 3) rfl h
  obtain ⟨N5, eN5⟩ : ∃ X_, X_ = mPut N3 (10 + e) 2 (.int (iv N3 (53 + e) 2)) := ⟨_, rfl⟩
  replace h := ePutE (a := (10 + e)) (f := 2) (N := N5) rfl eN5 (mi := 31) (pc := 21) (len := 3) (j := 102) rfl h
  have hS6 : Sh N5 := by rw [eN5]; exact hS4.put (show 2 ≤ 10 + e by omega) (show 10 + e < 242 by omega) (by rw [grp10 e he]; rfl)
  replace h := eAload (mi := 31) (pc := 24) (len := 1) (i := 0) rfl rfl h
  replace h := eAload (mi := 31) (pc := 25) (len := 1) (i := 1) rfl rfl h
  replace h := eGetI (a := 53 + e) (j := 103) hS6 (show 2 ≤ 53 + e by omega) (show 53 + e < 242 by omega) (by rw [grp53 e he]; rfl) (mi := 31) (pc := 26) (len := 3) rfl h
  obtain ⟨N7, eN7⟩ : ∃ X_, X_ = mPut N5 (10 + e) 3 (.int (iv N5 (53 + e) 3)) := ⟨_, rfl⟩
  replace h := ePutE (a := (10 + e)) (f := 3) (N := N7) rfl eN7 (mi := 31) (pc := 29) (len := 3) (j := 103) rfl h
  have hS8 : Sh N7 := by rw [eN7]; exact hS6.put (show 2 ≤ 10 + e by omega) (show 10 + e < 242 by omega) (by rw [grp10 e he]; rfl)
  replace h := eAload (mi := 31) (pc := 32) (len := 1) (i := 0) rfl rfl h
  replace h := eAload (mi := 31) (pc := 33) (len := 1) (i := 1) rfl rfl h
  replace h := eGetI (a := 53 + e) (j := 104) hS8 (show 2 ≤ 53 + e by omega) (show 53 + e < 242 by omega) (by rw [grp53 e he]; rfl) (mi := 31) (pc := 34) (len := 3) rfl h
  obtain ⟨N9, eN9⟩ : ∃ X_, X_ = mPut N7 (10 + e) 4 (.int (iv N7 (53 + e) 4)) := ⟨_, rfl⟩
  replace h := ePutE (a := (10 + e)) (f := 4) (N := N9) rfl eN9 (mi := 31) (pc := 37) (len := 3) (j := 104) rfl h
  have hS10 : Sh N9 := by rw [eN9]; exact hS8.put (show 2 ≤ 10 + e by omega) (show 10 + e < 242 by omega) (by rw [grp10 e he]; rfl)
  replace h := eAload (mi := 31) (pc := 40) (len := 1) (i := 0) rfl rfl h
  replace h := eAload (mi := 31) (pc := 41) (len := 1) (i := 1) rfl rfl h
  replace h := eGetI (a := 53 + e) (j := 105) hS10 (show 2 ≤ 53 + e by omega) (show 53 + e < 242 by omega) (by rw [grp53 e he]; rfl) (mi := 31) (pc := 42) (len := 3) rfl h
  obtain ⟨N11, eN11⟩ : ∃ X_, X_ = mPut N9 (10 + e) 5 (.int (iv N9 (53 + e) 5)) := ⟨_, rfl⟩
  replace h := ePutE (a := (10 + e)) (f := 5) (N := N11) rfl eN11 (mi := 31) (pc := 45) (len := 3) (j := 105) rfl h
  have hS12 : Sh N11 := by rw [eN11]; exact hS10.put (show 2 ≤ 10 + e by omega) (show 10 + e < 242 by omega) (by rw [grp10 e he]; rfl)
  replace h := eAload (mi := 31) (pc := 48) (len := 1) (i := 0) rfl rfl h
  replace h := eAload (mi := 31) (pc := 49) (len := 1) (i := 1) rfl rfl h
  replace h := eGetI (a := 53 + e) (j := 106) hS12 (show 2 ≤ 53 + e by omega) (show 53 + e < 242 by omega) (by rw [grp53 e he]; rfl) (mi := 31) (pc := 50) (len := 3) rfl h
  obtain ⟨N13, eN13⟩ : ∃ X_, X_ = mPut N11 (10 + e) 6 (.int (iv N11 (53 + e) 6)) := ⟨_, rfl⟩
  replace h := ePutE (a := (10 + e)) (f := 6) (N := N13) rfl eN13 (mi := 31) (pc := 53) (len := 3) (j := 106) rfl h
  have hS14 : Sh N13 := by rw [eN13]; exact hS12.put (show 2 ≤ 10 + e by omega) (show 10 + e < 242 by omega) (by rw [grp10 e he]; rfl)
  replace h := eAload (mi := 31) (pc := 56) (len := 1) (i := 0) rfl rfl h
  replace h := eAload (mi := 31) (pc := 57) (len := 1) (i := 1) rfl rfl h
  replace h := eGetI (a := 53 + e) (j := 107) hS14 (show 2 ≤ 53 + e by omega) (show 53 + e < 242 by omega) (by rw [grp53 e he]; rfl) (mi := 31) (pc := 58) (len := 3) rfl h
  obtain ⟨N15, eN15⟩ : ∃ X_, X_ = mPut N13 (10 + e) 7 (.int (iv N13 (53 + e) 7)) := ⟨_, rfl⟩
  replace h := ePutE (a := (10 + e)) (f := 7) (N := N15) rfl eN15 (mi := 31) (pc := 61) (len := 3) (j := 107) rfl h
  have hS16 : Sh N15 := by rw [eN15]; exact hS14.put (show 2 ≤ 10 + e by omega) (show 10 + e < 242 by omega) (by rw [grp10 e he]; rfl)
  replace h := eAload (mi := 31) (pc := 64) (len := 1) (i := 0) rfl rfl h
  replace h := eAload (mi := 31) (pc := 65) (len := 1) (i := 1) rfl rfl h
  replace h := eGetI (a := 53 + e) (j := 108) hS16 (show 2 ≤ 53 + e by omega) (show 53 + e < 242 by omega) (by rw [grp53 e he]; rfl) (mi := 31) (pc := 66) (len := 3) rfl h
  obtain ⟨N17, eN17⟩ : ∃ X_, X_ = mPut N15 (10 + e) 8 (.int (iv N15 (53 + e) 8)) := ⟨_, rfl⟩
  replace h := ePutE (a := (10 + e)) (f := 8) (N := N17) rfl eN17 (mi := 31) (pc := 69) (len := 3) (j := 108) rfl h
  have hS18 : Sh N17 := by rw [eN17]; exact hS16.put (show 2 ≤ 10 + e by omega) (show 10 + e < 242 by omega) (by rw [grp10 e he]; rfl)
  replace h := eAload (mi := 31) (pc := 72) (len := 1) (i := 0) rfl rfl h
  replace h := eAload (mi := 31) (pc := 73) (len := 1) (i := 1) rfl rfl h
  replace h := eGetI (a := 53 + e) (j := 109) hS18 (show 2 ≤ 53 + e by omega) (show 53 + e < 242 by omega) (by rw [grp53 e he]; rfl) (mi := 31) (pc := 74) (len := 3) rfl h
  obtain ⟨N19, eN19⟩ : ∃ X_, X_ = mPut N17 (10 + e) 9 (.int (iv N17 (53 + e) 9)) := ⟨_, rfl⟩
  replace h := ePutE (a := (10 + e)) (f := 9) (N := N19) rfl eN19 (mi := 31) (pc := 77) (len := 3) (j := 109) rfl h
  have hS20 : Sh N19 := by rw [eN19]; exact hS18.put (show 2 ≤ 10 + e by omega) (show 10 + e < 242 by omega) (by rw [grp10 e he]; rfl)
  obtain ⟨e1, e2⟩ := eRetV (mi := 31) (pc := 80) (len := 1) rfl h
  refine ⟨e1, by rw [e2]; exact hS20, fun c i q => ?_, ?_⟩
  · rw [e2, eN19, mSlot_put_ne (Or.inl q), eN17, mSlot_put_ne (Or.inl q), eN15, mSlot_put_ne (Or.inl q), eN13, mSlot_put_ne (Or.inl q), eN11, mSlot_put_ne (Or.inl q), eN9, mSlot_put_ne (Or.inl q), eN7, mSlot_put_ne (Or.inl q), eN5, mSlot_put_ne (Or.inl q), eN3, mSlot_put_ne (Or.inl q), eN1, mSlot_put_ne (Or.inl q)]
  · rw [e2, eN19, iv_put_ne (Or.inr (by decide)), eN17, iv_put_ne (Or.inr (by decide)), eN15, iv_put_ne (Or.inr (by decide)), eN13, iv_put_ne (Or.inr (by decide)), eN11, iv_put_ne (Or.inr (by decide)), eN9, iv_put_ne (Or.inr (by decide)), eN7, iv_put_eq hS6 (show 2 ≤ 10 + e by omega) (show 10 + e < 242 by omega) (by rw [grp10 e he]; decide), eN5, iv_put_ne (Or.inl (by omega)), eN3, iv_put_ne (Or.inl (by omega)), eN1, iv_put_ne (Or.inl (by omega))]
theorem eDeedK {n d mi pc len : Nat} {L : MLoc} {st : List Value} {M : Mem} {r : Option Value} {M1 : Mem} {x : Int32} (hS : Sh M) (hY : ∀ k, k < 40 → mSlot M 51 k = some (.ref (53 + k))) (hat : mAt mi pc = some (len, .aaload)) (h : En n d mi pc L (.int x :: .ref 51 :: st) M r M1) : (0 ≤ x.toInt ∧ x.toInt.toNat < 40) ∧ En n d mi (pc + len) L (.ref (53 + x.toInt.toNat) :: st) M r M1 := by
  obtain ⟨⟨h0, h1⟩, b, hb, _, h⟩ := eAald hS (by decide) (by decide) rfl hat h
  have h1 : x.toInt.toNat < 40 := h1
  rw [hY _ h1] at hb
  cases hb
  exact ⟨⟨h0, h1⟩, h⟩
theorem iv_sl2 {A B C : Mem} {c i : Nat} (h : iv A c i = iv B c i) (h2 : mSlot B c i = mSlot C c i) : iv A c i = iv C c i := h.trans (iv_sl h2)
theorem cf50_lp {M : Mem} (hY : yT M) (hO : okLs M) : ∀ (n : Nat) {d : Nat} {L : MLoc} {N : Mem} {r : Option Value} {M1 : Mem} {i : Int32}, Sh N → (∀ k, k < i.toInt.toNat → iv N 52 k = iv M 9 k) → (∀ k, k < i.toInt.toNat → iv N (53 + k) 3 = iv M (10 + k) 3) → (∀ c j, (c < 53 ∨ 53 + 39 < c) → c ≠ 52 → mSlot N c j = mSlot M c j) → mLd L 0 = some (.ref 50) → mLd L 1 = some (.ref 7) → mLd L 2 = some (.int i) → 0 ≤ i.toInt → i.toInt.toNat ≤ 40 → En n d 94 2 L [] N r M1 → okLs M1 := by
  intro n
  induction n with
  | zero => intro d L N r M1 i _ _ _ _ _ _ _ _ _ h; exact (En.zero (mi := 94) (pc := 2) (len := 1) rfl h).elim
  | succ n ih =>
    intro d L N r M1 i hS ho hd hf l0 l1 l2 i0 i41 h
    replace h := eIloadS (mi := 94) (pc := 2) (len := 1) (i := 2) rfl l2 h
    replace h := eAload (mi := 94) (pc := 3) (len := 1) (i := 1) rfl l1 h
    replace h := eGetI (a := 7) (j := 602) hS (by decide) (by decide) rfl (mi := 94) (pc := 4) (len := 3) rfl h
    rcases eIc (mi := 94) (pc := 7) (len := 3) (t := 43) rfl rfl h with ⟨c1, h⟩ | ⟨c1, h⟩
    · replace c1 : ¬ i.toInt < (iv N 7 2).toInt := mC_ge.1 c1
      replace h := eAload (mi := 94) (pc := 43) (len := 1) (i := 0) rfl l0 h
      replace h := eAload (mi := 94) (pc := 44) (len := 1) (i := 1) rfl l1 h
      replace h := eGetI (a := 7) (j := 602) hS (by decide) (by decide) rfl (mi := 94) (pc := 45) (len := 3) rfl h
      obtain ⟨N2, eN2⟩ : ∃ X_, X_ = mPut N 50 2 (.int (iv N 7 2)) := ⟨_, rfl⟩
      replace h := ePutE (a := 50) (f := 2) (N := N2) rfl eN2 (mi := 94) (pc := 48) (len := 3) (j := 602) rfl h
      have hS3 : Sh N2 := by rw [eN2]; exact hS.put (by decide) (by decide) rfl
      obtain ⟨e1, e2⟩ := eRetV (mi := 94) (pc := 51) (len := 1) rfl h
      rw [e2]
      have ec : iv N 7 2 = iv M 7 2 := iv_sl (hf 7 2 (by decide) (by decide))
      have ge : ¬ i.toInt < (iv M 7 2).toInt := by have q := c1; rw [ec] at q; exact q
      have nk : ∀ c j, c ≠ 50 → iv N2 c j = iv N c j := fun c j q => by rw [eN2]; exact iv_put_ne (Or.inl q)
      have n2 : iv N2 50 2 = iv M 7 2 := by rw [eN2, iv_put_eq hS (by decide) (by decide) (by decide)]; exact ec
      exact ⟨okL_same (iv_sl2 (nk 7 2 (by decide)) (hf 7 2 (by decide) (by decide))) (fun k => iv_sl2 (nk 9 k (by decide)) (hf 9 k (by decide) (by decide))) (fun k hk => iv_sl2 (nk (10 + k) 3 (by omega)) (hf (10 + k) 3 (by omega) (by omega))) (hO.1), okL_cpy (c := 7) (b := 10) (o := 9) (hO.1) n2 (fun k hk => by rw [nk _ _ (by decide)]; exact ho k (by omega)) (fun k hk => by rw [nk _ _ (by omega)]; exact hd k (by omega))⟩
    · replace c1 : i.toInt < (iv N 7 2).toInt := mC_ge.2 c1
      replace h := eAload (mi := 94) (pc := 10) (len := 1) (i := 0) rfl l0 h
      replace h := eGetR (a := 50) (j := 600) (g := 51) hS (by decide) (by decide) rfl rfl rfl (mi := 94) (pc := 11) (len := 3) rfl h
      replace h := eIload (mi := 94) (pc := 14) (len := 1) (i := 2) rfl l2 h
      obtain ⟨bd4, h⟩ := eDeedK (x := i) hS (fun k hk => (hf 51 k (by omega) (by decide)).trans (hY k hk).2) (mi := 94) (pc := 15) (len := 1) rfl h
      replace h := eAload (mi := 94) (pc := 16) (len := 1) (i := 1) rfl l1 h
      replace h := eGetR (a := 7) (j := 600) (g := 8) hS (by decide) (by decide) rfl rfl rfl (mi := 94) (pc := 17) (len := 3) rfl h
      replace h := eIload (mi := 94) (pc := 20) (len := 1) (i := 2) rfl l2 h
      obtain ⟨bd5, h⟩ := eDeed (x := i) hS (fun k hk => (hf 8 k (by omega) (by decide)).trans (hY k hk).1) (mi := 94) (pc := 21) (len := 1) rfl h
      obtain ⟨r6, N7, g8, h⟩ := eCall (mi := 94) (pc := 22) (len := 3) (j := 31) (as := [.ref (53 + i.toInt.toNat), .ref (10 + i.toInt.toNat)]) (rest := []) rfl (Or.inr (Or.inl rfl)) (by decide) rfl rfl h
      have i40 : i.toInt.toNat < 40 := bd4.2
      obtain ⟨erN7, hSN7, frN7, vN7⟩ := dcp53_en i40 hS g8
      rw [erN7] at h
      replace h := eAload (mi := 94) (pc := 25) (len := 1) (i := 0) rfl l0 h
      replace h := eGetR (a := 50) (j := 601) (g := 52) hSN7 (by decide) (by decide) rfl rfl rfl (mi := 94) (pc := 26) (len := 3) rfl h
      replace h := eIload (mi := 94) (pc := 29) (len := 1) (i := 2) rfl l2 h
      replace h := eAload (mi := 94) (pc := 30) (len := 1) (i := 1) rfl l1 h
      replace h := eGetR (a := 7) (j := 601) (g := 9) hSN7 (by decide) (by decide) rfl rfl rfl (mi := 94) (pc := 31) (len := 3) rfl h
      replace h := eIload (mi := 94) (pc := 34) (len := 1) (i := 2) rfl l2 h
      obtain ⟨bd9, h⟩ := eIald (x := i) hSN7 (a := 9) (by decide) (by decide) rfl (mi := 94) (pc := 35) (len := 1) rfl h
      obtain ⟨N11, eN11⟩ : ∃ X_, X_ = mPut N7 52 i.toInt.toNat (.int (iv N7 9 i.toInt.toNat)) := ⟨_, rfl⟩
      obtain ⟨bd10, h⟩ := eIast (x := i) (N := N11) hSN7 (a := 52) (by decide) (by decide) eN11 (mi := 94) (pc := 36) (len := 1) rfl h
      have hS12 : Sh N11 := by rw [eN11]; exact hSN7.put (by decide) (by decide) rfl
      replace h := eIinc (mi := 94) (pc := 37) (len := 3) (i := 2) (k := 1) rfl l2 (by decide) h
      replace h := eGoto (mi := 94) (pc := 40) (len := 3) (t := 2) rfl rfl h
      have lt : i.toInt < (iv M 7 2).toInt := by have q := c1; rw [show iv N 7 2 = iv M 7 2 from iv_sl (hf 7 2 (by decide) (by decide))] at q; exact q
      have en : (i + 1).toInt = i.toInt + 1 := i32_inc i0 (by omega)
      have en2 : (i + 1).toInt.toNat = i.toInt.toNat + 1 := by omega
      have f2 : ∀ c j, c ≠ 52 → c ≠ 53 + i.toInt.toNat → mSlot N11 c j = mSlot N c j := fun c j q1 q2 => by rw [eN11, mSlot_put_ne (Or.inl q1)]; exact frN7 c j q2
      refine ih (i := i + 1) hS12 (fun k hk => ?_) (fun k hk => ?_) (fun c j q1 q2 => by rw [f2 c j q2 (by omega)]; exact hf c j q1 q2) (mLd_st1_ref (by decide) l0) (mLd_st1_ref (by decide) l1) mLd_st1_i (by omega) (by omega) h
      · by_cases c : k = i.toInt.toNat
        · rw [c, eN11, iv_put_eq hSN7 (by decide) (by decide) (by show i.toInt.toNat < 40; omega)]
          rw [show iv N7 9 i.toInt.toNat = iv N 9 i.toInt.toNat from iv_sl (frN7 9 _ (by omega))]
          exact iv_sl (hf 9 _ (by decide) (by decide))
        · rw [eN11, iv_put_ne (Or.inr c), show iv N7 52 k = iv N 52 k from iv_sl (frN7 52 _ (by omega))]
          exact ho k (by omega)
      · rw [eN11, iv_put_ne (Or.inl (by omega))]
        by_cases c : k = i.toInt.toNat
        · rw [c, vN7]
          exact iv_sl (hf _ _ (by omega) (by omega))
        · rw [show iv N7 (53 + k) 3 = iv N (53 + k) 3 from iv_sl (frN7 _ _ (by omega))]
          exact hd k (by omega)
theorem cf50_en {M : Mem} (hS : Sh M) (hY : yT M) (hO : okLs M) {n d : Nat} {L : MLoc} {r : Option Value} {M1 : Mem} (l0 : mLd L 0 = some (.ref 50)) (l1 : mLd L 1 = some (.ref 7)) (h : En n d 94 0 L [] M r M1) : okLs M1 := by
  replace h := eConst (mi := 94) (pc := 0) (len := 1) (v := 0) rfl h
  replace h := eIstore (mi := 94) (pc := 1) (len := 1) (i := 2) rfl (by decide) h
  exact cf50_lp hY hO _ (i := 0) hS (fun k hk => absurd hk (Nat.not_lt_zero k)) (fun k hk => absurd hk (Nat.not_lt_zero k)) (fun _ _ _ _ => rfl) (mLd_st1_ref (by decide) l0) (mLd_st1_ref (by decide) l1) mLd_st1_i (by decide) (by decide) h
theorem cf7_lp {M : Mem} (hY : yT M) (hO : okLs M) : ∀ (n : Nat) {d : Nat} {L : MLoc} {N : Mem} {r : Option Value} {M1 : Mem} {i : Int32}, Sh N → (∀ k, k < i.toInt.toNat → iv N 9 k = iv M 52 k) → (∀ k, k < i.toInt.toNat → iv N (10 + k) 3 = iv M (53 + k) 3) → (∀ c j, (c < 10 ∨ 10 + 39 < c) → c ≠ 9 → mSlot N c j = mSlot M c j) → mLd L 0 = some (.ref 7) → mLd L 1 = some (.ref 50) → mLd L 2 = some (.int i) → 0 ≤ i.toInt → i.toInt.toNat ≤ 40 → En n d 94 2 L [] N r M1 → okLs M1 := by
  intro n
  induction n with
  | zero => intro d L N r M1 i _ _ _ _ _ _ _ _ _ h; exact (En.zero (mi := 94) (pc := 2) (len := 1) rfl h).elim
  | succ n ih =>
    intro d L N r M1 i hS ho hd hf l0 l1 l2 i0 i41 h
    replace h := eIloadS (mi := 94) (pc := 2) (len := 1) (i := 2) rfl l2 h
    replace h := eAload (mi := 94) (pc := 3) (len := 1) (i := 1) rfl l1 h
    replace h := eGetI (a := 50) (j := 602) hS (by decide) (by decide) rfl (mi := 94) (pc := 4) (len := 3) rfl h
    rcases eIc (mi := 94) (pc := 7) (len := 3) (t := 43) rfl rfl h with ⟨c1, h⟩ | ⟨c1, h⟩
    · replace c1 : ¬ i.toInt < (iv N 50 2).toInt := mC_ge.1 c1
      replace h := eAload (mi := 94) (pc := 43) (len := 1) (i := 0) rfl l0 h
      replace h := eAload (mi := 94) (pc := 44) (len := 1) (i := 1) rfl l1 h
      replace h := eGetI (a := 50) (j := 602) hS (by decide) (by decide) rfl (mi := 94) (pc := 45) (len := 3) rfl h
      obtain ⟨N2, eN2⟩ : ∃ X_, X_ = mPut N 7 2 (.int (iv N 50 2)) := ⟨_, rfl⟩
      replace h := ePutE (a := 7) (f := 2) (N := N2) rfl eN2 (mi := 94) (pc := 48) (len := 3) (j := 602) rfl h
      have hS3 : Sh N2 := by rw [eN2]; exact hS.put (by decide) (by decide) rfl
      obtain ⟨e1, e2⟩ := eRetV (mi := 94) (pc := 51) (len := 1) rfl h
      rw [e2]
      have ec : iv N 50 2 = iv M 50 2 := iv_sl (hf 50 2 (by decide) (by decide))
      have ge : ¬ i.toInt < (iv M 50 2).toInt := by have q := c1; rw [ec] at q; exact q
      have nk : ∀ c j, c ≠ 7 → iv N2 c j = iv N c j := fun c j q => by rw [eN2]; exact iv_put_ne (Or.inl q)
      have n2 : iv N2 7 2 = iv M 50 2 := by rw [eN2, iv_put_eq hS (by decide) (by decide) (by decide)]; exact ec
      exact ⟨okL_cpy (c := 50) (b := 53) (o := 52) (hO.2) n2 (fun k hk => by rw [nk _ _ (by decide)]; exact ho k (by omega)) (fun k hk => by rw [nk _ _ (by omega)]; exact hd k (by omega)), okL_same (iv_sl2 (nk 50 2 (by decide)) (hf 50 2 (by decide) (by decide))) (fun k => iv_sl2 (nk 52 k (by decide)) (hf 52 k (by decide) (by decide))) (fun k hk => iv_sl2 (nk (53 + k) 3 (by omega)) (hf (53 + k) 3 (by omega) (by omega))) (hO.2)⟩
    · replace c1 : i.toInt < (iv N 50 2).toInt := mC_ge.2 c1
      replace h := eAload (mi := 94) (pc := 10) (len := 1) (i := 0) rfl l0 h
      replace h := eGetR (a := 7) (j := 600) (g := 8) hS (by decide) (by decide) rfl rfl rfl (mi := 94) (pc := 11) (len := 3) rfl h
      replace h := eIload (mi := 94) (pc := 14) (len := 1) (i := 2) rfl l2 h
      obtain ⟨bd4, h⟩ := eDeed (x := i) hS (fun k hk => (hf 8 k (by omega) (by decide)).trans (hY k hk).1) (mi := 94) (pc := 15) (len := 1) rfl h
      replace h := eAload (mi := 94) (pc := 16) (len := 1) (i := 1) rfl l1 h
      replace h := eGetR (a := 50) (j := 600) (g := 51) hS (by decide) (by decide) rfl rfl rfl (mi := 94) (pc := 17) (len := 3) rfl h
      replace h := eIload (mi := 94) (pc := 20) (len := 1) (i := 2) rfl l2 h
      obtain ⟨bd5, h⟩ := eDeedK (x := i) hS (fun k hk => (hf 51 k (by omega) (by decide)).trans (hY k hk).2) (mi := 94) (pc := 21) (len := 1) rfl h
      obtain ⟨r6, N7, g8, h⟩ := eCall (mi := 94) (pc := 22) (len := 3) (j := 31) (as := [.ref (10 + i.toInt.toNat), .ref (53 + i.toInt.toNat)]) (rest := []) rfl (Or.inr (Or.inl rfl)) (by decide) rfl rfl h
      have i40 : i.toInt.toNat < 40 := bd4.2
      obtain ⟨erN7, hSN7, frN7, vN7⟩ := dcp10_en i40 hS g8
      rw [erN7] at h
      replace h := eAload (mi := 94) (pc := 25) (len := 1) (i := 0) rfl l0 h
      replace h := eGetR (a := 7) (j := 601) (g := 9) hSN7 (by decide) (by decide) rfl rfl rfl (mi := 94) (pc := 26) (len := 3) rfl h
      replace h := eIload (mi := 94) (pc := 29) (len := 1) (i := 2) rfl l2 h
      replace h := eAload (mi := 94) (pc := 30) (len := 1) (i := 1) rfl l1 h
      replace h := eGetR (a := 50) (j := 601) (g := 52) hSN7 (by decide) (by decide) rfl rfl rfl (mi := 94) (pc := 31) (len := 3) rfl h
      replace h := eIload (mi := 94) (pc := 34) (len := 1) (i := 2) rfl l2 h
      obtain ⟨bd9, h⟩ := eIald (x := i) hSN7 (a := 52) (by decide) (by decide) rfl (mi := 94) (pc := 35) (len := 1) rfl h
      obtain ⟨N11, eN11⟩ : ∃ X_, X_ = mPut N7 9 i.toInt.toNat (.int (iv N7 52 i.toInt.toNat)) := ⟨_, rfl⟩
      obtain ⟨bd10, h⟩ := eIast (x := i) (N := N11) hSN7 (a := 9) (by decide) (by decide) eN11 (mi := 94) (pc := 36) (len := 1) rfl h
      have hS12 : Sh N11 := by rw [eN11]; exact hSN7.put (by decide) (by decide) rfl
      replace h := eIinc (mi := 94) (pc := 37) (len := 3) (i := 2) (k := 1) rfl l2 (by decide) h
      replace h := eGoto (mi := 94) (pc := 40) (len := 3) (t := 2) rfl rfl h
      have lt : i.toInt < (iv M 50 2).toInt := by have q := c1; rw [show iv N 50 2 = iv M 50 2 from iv_sl (hf 50 2 (by decide) (by decide))] at q; exact q
      have en : (i + 1).toInt = i.toInt + 1 := i32_inc i0 (by omega)
      have en2 : (i + 1).toInt.toNat = i.toInt.toNat + 1 := by omega
      have f2 : ∀ c j, c ≠ 9 → c ≠ 10 + i.toInt.toNat → mSlot N11 c j = mSlot N c j := fun c j q1 q2 => by rw [eN11, mSlot_put_ne (Or.inl q1)]; exact frN7 c j q2
      refine ih (i := i + 1) hS12 (fun k hk => ?_) (fun k hk => ?_) (fun c j q1 q2 => by rw [f2 c j q2 (by omega)]; exact hf c j q1 q2) (mLd_st1_ref (by decide) l0) (mLd_st1_ref (by decide) l1) mLd_st1_i (by omega) (by omega) h
      · by_cases c : k = i.toInt.toNat
        · rw [c, eN11, iv_put_eq hSN7 (by decide) (by decide) (by show i.toInt.toNat < 40; omega)]
          rw [show iv N7 52 i.toInt.toNat = iv N 52 i.toInt.toNat from iv_sl (frN7 52 _ (by omega))]
          exact iv_sl (hf 52 _ (by decide) (by decide))
        · rw [eN11, iv_put_ne (Or.inr c), show iv N7 9 k = iv N 9 k from iv_sl (frN7 9 _ (by omega))]
          exact ho k (by omega)
      · rw [eN11, iv_put_ne (Or.inl (by omega))]
        by_cases c : k = i.toInt.toNat
        · rw [c, vN7]
          exact iv_sl (hf _ _ (by omega) (by omega))
        · rw [show iv N7 (10 + k) 3 = iv N (10 + k) 3 from iv_sl (frN7 _ _ (by omega))]
          exact hd k (by omega)
theorem cf7_en {M : Mem} (hS : Sh M) (hY : yT M) (hO : okLs M) {n d : Nat} {L : MLoc} {r : Option Value} {M1 : Mem} (l0 : mLd L 0 = some (.ref 7)) (l1 : mLd L 1 = some (.ref 50)) (h : En n d 94 0 L [] M r M1) : okLs M1 := by
  replace h := eConst (mi := 94) (pc := 0) (len := 1) (v := 0) rfl h
  replace h := eIstore (mi := 94) (pc := 1) (len := 1) (i := 2) rfl (by decide) h
  exact cf7_lp hY hO _ (i := 0) hS (fun k hk => absurd hk (Nat.not_lt_zero k)) (fun k hk => absurd hk (Nat.not_lt_zero k)) (fun _ _ _ _ => rfl) (mLd_st1_ref (by decide) l0) (mLd_st1_ref (by decide) l1) mLd_st1_i (by decide) (by decide) h

/-! gossip: all deeds; what is heard, who sits at a well (printed by fnk2.py) -/
theorem km_of {x k : Int32} {m : Nat} (e : x.toInt = k.toInt - 1) (h : k.toInt.toNat = m + 1) : x.toInt.toNat = m := by
  rw [e]
  omega
theorem iv_put_if {M : Mem} (hS : Sh M) {a k x : Nat} {v : Int32} (h2 : 2 ≤ a) (h3 : a < tEnd) (hx : x < tSiz (tGrp a)) : iv (mPut M a x (.int v)) a k = if k = x then v else iv M a k := by
  by_cases c : k = x
  · rw [if_pos c, c]
    exact iv_put_eq hS h2 h3 hx
  · rw [if_neg c]
    exact iv_put_ne (Or.inr c)
/-- what a column is made of is the same -/
theorem knO_lt {M N : Mem} (h : ∀ c i, c < 100 → iv N c i = iv M c i) (e d p : Nat) (he : e < 40) : knO N e d p = knO M e d p := by
  unfold knO
  rw [h 93 3 (by decide), h 93 6 (by decide), h (10 + e) 0 (by omega), h (10 + e) 1 (by omega), h (10 + e) 3 (by omega)]
  have a : ∀ c, c < 100 → (fun k => (iv N c k).toInt) = fun k => (iv M c k).toInt := fun c hc => funext fun k => by rw [h c k hc]
  have b : (fun k => (iv N 98 k).toInt.toNat) = fun k => (iv M 98 k).toInt.toNat := funext fun k => by rw [h 98 k (by decide)]
  rw [a 97 (by decide), a 94 (by decide), a 95 (by decide), a 96 (by decide), b]
/-- the columns of the first n deeds are right -/
def allS (s : List Int32) (M : Mem) (n : Nat) (N : Mem) : Prop := aTp s N ∧ (∀ c i, c < 100 ∨ 109 < c → mSlot N c i = mSlot M c i) ∧ (∀ e, e < n → ∀ p, p < 10 → (iv N (100 + p) e).toInt = knO M e e p) ∧ aFr [(100, 0)] M N
theorem spa_lp {s : List Int32} {M : Mem} {d : Nat} (hd : 5 ≤ d) (hR8 : ∀ e, e < 40 → mSlot M 8 e = some (.ref (10 + e))) (hR9 : ∀ p, p < 10 → mSlot M 99 p = some (.ref (100 + p))) : ∀ (m : Nat) {N : Mem} {L : MLoc} {k : Int32}, allS s M k.toInt.toNat N → mLd L 0 = some (.ref 93) → mLd L 1 = some (.ref 7) → mLd L 2 = some (.int k) → 0 ≤ k.toInt → k.toInt.toNat + m = (iv M 7 2).toInt.toNat → Ok d 51 2 L [] N (fun r N' => r = none ∧ allS s M (iv M 7 2).toInt.toNat N') := by
  intro m
  induction m with
  | zero =>
    intro N L k hA l0 l1 l2 k0 km
    have hT := hA.1
    have hSh := Sh.of hT
    have hR8N : ∀ e, e < 40 → mSlot N 8 e = some (.ref (10 + e)) := fun e he => (hA.2.1 8 e (by omega)).trans (hR8 e he)
    have hR9N : ∀ p, p < 10 → mSlot N 99 p = some (.ref (100 + p)) := fun p hp => (hA.2.1 99 p (by omega)).trans (hR9 p hp)
    have eC : iv N 7 2 = iv M 7 2 := by unfold iv; rw [hA.2.1 7 2 (by omega)]
    have rC := iv_ty hT (c := 7) (i := 2) (by decide) (by decide) (by decide) (lo := 0) (hi' := 40) (gs := []) rfl
    rw [eC] at rC
    refine kIload (mi := 51) (pc := 2) (len := 1) (i := 2) rfl l2 ?_
    refine kAload (mi := 51) (pc := 3) (len := 1) (i := 1) rfl l1 ?_
    refine kGetf (mi := 51) (pc := 4) (len := 3) (j := 602) rfl (hT.hd (c := 7) (by decide) (by decide)) (by decide) ((Sh.of hT).slI (c := 7) (i := 2) (by decide) (by decide) (by decide) rfl) ?_
    rcases Bool.eq_false_or_eq_true (mCond .ge k (iv N 7 2)) with hc1 | hc1
    · have c1 := hc1
      replace c1 : ¬ k.toInt < (iv N 7 2).toInt := mC_ge.1 c1; rw [eC] at c1
      refine kIcT (mi := 51) (pc := 7) (len := 3) (t := 27) rfl rfl hc1 ?_
      refine kRetV (mi := 51) (pc := 27) (len := 1) rfl rfl ?_
      rw [← show k.toInt.toNat = (iv M 7 2).toInt.toNat by omega]
      exact ⟨rfl, hA⟩
    · have c1 := hc1
      replace c1 : k.toInt < (iv N 7 2).toInt := mC_ge.2 c1; rw [eC] at c1
      refine kIcF (mi := 51) (pc := 7) (len := 3) (t := 27) rfl rfl hc1 ?_
      exfalso
      omega
  | succ m ih =>
    intro N L k hA l0 l1 l2 k0 km
    have hT := hA.1
    have hSh := Sh.of hT
    have hR8N : ∀ e, e < 40 → mSlot N 8 e = some (.ref (10 + e)) := fun e he => (hA.2.1 8 e (by omega)).trans (hR8 e he)
    have hR9N : ∀ p, p < 10 → mSlot N 99 p = some (.ref (100 + p)) := fun p hp => (hA.2.1 99 p (by omega)).trans (hR9 p hp)
    have eC : iv N 7 2 = iv M 7 2 := by unfold iv; rw [hA.2.1 7 2 (by omega)]
    have rC := iv_ty hT (c := 7) (i := 2) (by decide) (by decide) (by decide) (lo := 0) (hi' := 40) (gs := []) rfl
    rw [eC] at rC
    have ek : k.toInt < 40 → (k + 1).toInt = k.toInt + 1 := fun _ => i32_inc k0 (by omega)
    have en : k.toInt < 40 → (k + 1).toInt.toNat = k.toInt.toNat + 1 := fun q => by rw [ek q]; omega
    refine kIload (mi := 51) (pc := 2) (len := 1) (i := 2) rfl l2 ?_
    refine kAload (mi := 51) (pc := 3) (len := 1) (i := 1) rfl l1 ?_
    refine kGetf (mi := 51) (pc := 4) (len := 3) (j := 602) rfl (hT.hd (c := 7) (by decide) (by decide)) (by decide) ((Sh.of hT).slI (c := 7) (i := 2) (by decide) (by decide) (by decide) rfl) ?_
    rcases Bool.eq_false_or_eq_true (mCond .ge k (iv N 7 2)) with hc201 | hc201
    · have c201 := hc201
      replace c201 : ¬ k.toInt < (iv N 7 2).toInt := mC_ge.1 c201; rw [eC] at c201
      refine kIcT (mi := 51) (pc := 7) (len := 3) (t := 27) rfl rfl hc201 ?_
      refine kRetV (mi := 51) (pc := 27) (len := 1) rfl rfl ?_
      exfalso
      omega
    · have c201 := hc201
      replace c201 : k.toInt < (iv N 7 2).toInt := mC_ge.2 c201; rw [eC] at c201
      refine kIcF (mi := 51) (pc := 7) (len := 3) (t := 27) rfl rfl hc201 ?_
      refine kAload (mi := 51) (pc := 10) (len := 1) (i := 0) rfl l0 ?_
      refine kIload (mi := 51) (pc := 11) (len := 1) (i := 2) rfl l2 ?_
      refine kAload (mi := 51) (pc := 12) (len := 1) (i := 1) rfl l1 ?_
      refine kGetf (mi := 51) (pc := 13) (len := 3) (j := 600) rfl (hT.hd (c := 7) (by decide) (by decide)) (by decide) (hT.ref (c := 7) (i := 0) (g := 8) (by decide) (by decide) (by decide) (lo := 0) (hi' := 0) rfl rfl) ?_
      refine kIload (mi := 51) (pc := 16) (len := 1) (i := 2) rfl l2 ?_
      have b202 : k.toInt.toNat < 40 := by omega
      refine kAaldT (mi := 51) (pc := 17) (len := 1) (n := 40) (b := 10 + k.toInt.toNat) rfl (hT.hd (c := 8) (by decide) (by decide)) rfl (by omega) (by show k.toInt < 40; omega) (hR8N _ b202) ?_
      refine Ok.call (mi := 51) (pc := 18) (len := 3) (j := 52) rfl (Or.inr (Or.inl rfl)) (by decide) (mCall_ok (n := 3) (l := 4) (rk := 0) (own := 3) (kd := 1) (as := [.ref 93, .int k, .ref (10 + k.toInt.toNat)]) (rest := []) (by omega) (by decide) rfl rfl rfl rfl rfl rfl (Or.inr (Or.inl ⟨rfl, (tag_of hT (a := 93) (by decide) (by decide)).trans rfl⟩))) ?_
      refine (spread_ok (x := k) (by omega) hT hR9N (show k.toInt.toNat < 40 by omega) k0 (by omega) rfl).mono ?_
      intro r203 K204 hr203
      obtain ⟨er203, hCK204⟩ := hr203
      subst er203
      refine kIinc (mi := 51) (pc := 21) (len := 3) (i := 2) (n := 1) rfl l2 (by decide) ?_
      refine kGoto (mi := 51) (pc := 24) (len := 3) (t := 2) rfl rfl ?_
      refine ih (k := k + 1) ?_ (mLd_st1_ref (by decide) l0) (mLd_st1_ref (by decide) l1) mLd_st1_i (by omega) (by omega)
      rw [en (by omega)]
      refine ⟨hCK204.1, fun c i hc => (hCK204.2.1 c i (by omega)).trans (hA.2.1 c i hc), fun e he p hp => ?_, hA.2.2.2.tr hCK204.2.2.2⟩
      by_cases ce : e = k.toInt.toNat
      · subst ce
        rw [hCK204.2.2.1 p hp]
        exact knO_lt (fun c i hc => by unfold iv; rw [hA.2.1 c i (by omega)]) _ _ p (by omega)
      · rw [show iv K204 (100 + p) e = iv N (100 + p) e by unfold iv; rw [hCK204.2.1 _ _ (Or.inr (Or.inr ce))]]
        exact hA.2.2.1 e (by omega) p hp
theorem spa_okL {s : List Int32} {M : Mem} {d : Nat} {L : MLoc} (hd : 5 ≤ d) (hT : aTp s M) (hR8 : ∀ e, e < 40 → mSlot M 8 e = some (.ref (10 + e))) (hR9 : ∀ p, p < 10 → mSlot M 99 p = some (.ref (100 + p))) (l0 : mLd L 0 = some (.ref 93)) (l1 : mLd L 1 = some (.ref 7)) : Ok d 51 0 L [] M (fun r N' => r = none ∧ allS s M (iv M 7 2).toInt.toNat N') := by
  refine kIconst (mi := 51) (pc := 0) (len := 1) (v := 0) rfl ?_
  refine kIstore (mi := 51) (pc := 1) (len := 1) (i := 2) rfl (by decide) ?_
  exact spa_lp hd hR8 hR9 (iv M 7 2).toInt.toNat (k := 0) ⟨hT, fun _ _ _ => rfl, fun e he => absurd he (Nat.not_lt_zero e), aFr.rf⟩ (mLd_st1_ref (by decide) l0) (mLd_st1_ref (by decide) l1) mLd_st1_i (Int.le_refl 0) (by show 0 + _ = _; omega)
theorem spa_ok {s : List Int32} {M : Mem} {d : Nat} (hd : 5 ≤ d) (hT : aTp s M) (hR8 : ∀ e, e < 40 → mSlot M 8 e = some (.ref (10 + e))) (hR9 : ∀ p, p < 10 → mSlot M 99 p = some (.ref (100 + p))) : Ok d 51 0 (lv_args 0 [.ref 93, .ref 7]) [] M (fun r N' => r = none ∧ allS s M (iv M 7 2).toInt.toNat N') := spa_okL hd hT hR8 hR9 rfl rfl
def bHah (M : Mem) : Bool := !decide ((iv M 93 3).toInt < 60)
def bHaw (M : Mem) : Bool := !decide ((iv M 93 6).toInt < 20)
theorem bHah_ok  {d : Nat} {s : List Int32} {M : Mem} (hd : 0 ≤ d) (hT : aTp s M) : Ok d 47 0 (lv_args 0 [.ref 93]) [] M (fun r M' => r = some (.int (b2 (bHah M))) ∧ M' = M) := by
  have hSh := Sh.of hT
  refine kAload (mi := 47) (pc := 0) (len := 1) (i := 0) rfl rfl ?_
  refine kGetf (mi := 47) (pc := 1) (len := 3) (j := 303) rfl (hT.hd (c := 93) (by decide) (by decide)) (by decide) ((Sh.of hT).slI (c := 93) (i := 3) (by decide) (by decide) (by decide) rfl) ?_
  refine kIconst (mi := 47) (pc := 4) (len := 2) (v := 60) rfl ?_
  rcases Bool.eq_false_or_eq_true (mCond .lt (iv M 93 3) (60 : Int32)) with hc1 | hc1
  · have c1 := hc1
    replace c1 : (iv M 93 3).toInt < 60 := mC_lt.1 c1
    refine kIcT (mi := 47) (pc := 6) (len := 3) (t := 13) rfl rfl hc1 ?_
    refine kIconst (mi := 47) (pc := 13) (len := 1) (v := 0) rfl ?_
    refine kRetI (mi := 47) (pc := 14) (len := 1) rfl (Or.inr ⟨rfl, Or.inl rfl⟩) ?_
    have e3 : bHah M = false := by
      unfold bHah
      simp only [decide_eq_true c1, cond_true, cond_false, Bool.not_true, Bool.not_false]
    rw [e3]
    exact ⟨rfl, rfl⟩
  · have c1 := hc1
    replace c1 : ¬ (iv M 93 3).toInt < 60 := mC_lt.2 c1
    refine kIcF (mi := 47) (pc := 6) (len := 3) (t := 13) rfl rfl hc1 ?_
    refine kIconst (mi := 47) (pc := 9) (len := 1) (v := 1) rfl ?_
    refine kGoto (mi := 47) (pc := 10) (len := 3) (t := 14) rfl rfl ?_
    refine kRetI (mi := 47) (pc := 14) (len := 1) rfl (Or.inr ⟨rfl, Or.inr rfl⟩) ?_
    have e3 : bHah M = true := by
      unfold bHah
      simp only [decide_eq_false c1, cond_true, cond_false, Bool.not_true, Bool.not_false]
    rw [e3]
    exact ⟨rfl, rfl⟩
theorem bHaw_ok  {d : Nat} {s : List Int32} {M : Mem} (hd : 0 ≤ d) (hT : aTp s M) : Ok d 48 0 (lv_args 0 [.ref 93]) [] M (fun r M' => r = some (.int (b2 (bHaw M))) ∧ M' = M) := by
  have hSh := Sh.of hT
  refine kAload (mi := 48) (pc := 0) (len := 1) (i := 0) rfl rfl ?_
  refine kGetf (mi := 48) (pc := 1) (len := 3) (j := 306) rfl (hT.hd (c := 93) (by decide) (by decide)) (by decide) ((Sh.of hT).slI (c := 93) (i := 6) (by decide) (by decide) (by decide) rfl) ?_
  refine kIconst (mi := 48) (pc := 4) (len := 2) (v := 20) rfl ?_
  rcases Bool.eq_false_or_eq_true (mCond .lt (iv M 93 6) (20 : Int32)) with hc1 | hc1
  · have c1 := hc1
    replace c1 : (iv M 93 6).toInt < 20 := mC_lt.1 c1
    refine kIcT (mi := 48) (pc := 6) (len := 3) (t := 13) rfl rfl hc1 ?_
    refine kIconst (mi := 48) (pc := 13) (len := 1) (v := 0) rfl ?_
    refine kRetI (mi := 48) (pc := 14) (len := 1) rfl (Or.inr ⟨rfl, Or.inl rfl⟩) ?_
    have e3 : bHaw M = false := by
      unfold bHaw
      simp only [decide_eq_true c1, cond_true, cond_false, Bool.not_true, Bool.not_false]
    rw [e3]
    exact ⟨rfl, rfl⟩
  · have c1 := hc1
    replace c1 : ¬ (iv M 93 6).toInt < 20 := mC_lt.2 c1
    refine kIcF (mi := 48) (pc := 6) (len := 3) (t := 13) rfl rfl hc1 ?_
    refine kIconst (mi := 48) (pc := 9) (len := 1) (v := 1) rfl ?_
    refine kGoto (mi := 48) (pc := 10) (len := 3) (t := 14) rfl rfl ?_
    refine kRetI (mi := 48) (pc := 14) (len := 1) rfl (Or.inr ⟨rfl, Or.inr rfl⟩) ?_
    have e3 : bHaw M = true := by
      unfold bHaw
      simp only [decide_eq_false c1, cond_true, cond_false, Bool.not_true, Bool.not_false]
    rw [e3]
    exact ⟨rfl, rfl⟩
/-- one hearing more -/
def hPutC (M : Mem) (p x v : Int32) : Mem := mPut (mPut (mPut (mPut M 94 (iv M 93 3).toInt.toNat (.int p)) 95 (iv M 93 3).toInt.toNat (.int x)) 96 (iv M 93 3).toInt.toNat (.int v)) 93 3 (.int (iv M 93 3 + 1))
theorem addH_ok {s : List Int32} {M : Mem} {p x v : Int32} {d : Nat} (hd : 1 ≤ d) (hT : aTp s M) (hh : bHah M = false) (p0 : 0 ≤ p.toInt) (p9 : p.toInt < 10) (x0 : 0 ≤ x.toInt) (x9 : x.toInt < 40) (v0 : 0 ≤ v.toInt) (v9 : v.toInt < 1000) : Ok d 49 0 (lv_args 0 [.ref 93, .int p, .int x, .int v]) [] M (fun r N => r = none ∧ aTp s N ∧ N = hPutC M p x v ∧ aFr [(94, 0), (95, 0), (96, 0), (93, 3)] M N) := by
  have hSh := Sh.of hT
  have rH := iv_ty hT (c := 93) (i := 3) (by decide) (by decide) (by decide) (lo := 0) (hi' := 60) (gs := []) rfl
  have h60 : (iv M 93 3).toInt < 60 := by
    by_cases c : (iv M 93 3).toInt < 60
    · exact c
    · unfold bHah at hh
      rw [decide_eq_false c] at hh
      cases hh
  have e1 : (iv M 93 3 + 1).toInt = (iv M 93 3).toInt + 1 := i32_inc rH.1 (by omega)
  refine kAload (mi := 49) (pc := 0) (len := 1) (i := 0) rfl rfl ?_
  refine kCallP (mi := 49) (pc := 1) (len := 3) (j := 47) rfl (Or.inr (Or.inl rfl)) (by decide) (mCall_ok (n := 1) (l := 1) (rk := 2) (own := 3) (kd := 1) (as := [.ref 93]) (rest := []) (by omega) (by decide) rfl rfl rfl rfl rfl rfl (Or.inr (Or.inl ⟨rfl, (tag_of hT (a := 93) (by decide) (by decide)).trans rfl⟩))) (bHah_ok (by omega) hT) ?_
  rcases Bool.eq_false_or_eq_true (mCond .eq (b2 (bHah M)) 0) with hc1 | hc1
  · have c1 := hc1
    replace c1 : bHah M = false := mB_eq.1 c1
    refine kIfT (mi := 49) (pc := 4) (len := 3) (t := 8) rfl rfl hc1 ?_
    refine kAload (mi := 49) (pc := 8) (len := 1) (i := 0) rfl rfl ?_
    refine kGetf (mi := 49) (pc := 9) (len := 3) (j := 300) rfl (hT.hd (c := 93) (by decide) (by decide)) (by decide) (hT.ref (c := 93) (i := 0) (g := 94) (by decide) (by decide) (by decide) (lo := 0) (hi' := 0) rfl rfl) ?_
    refine kAload (mi := 49) (pc := 12) (len := 1) (i := 0) rfl rfl ?_
    refine kGetf (mi := 49) (pc := 13) (len := 3) (j := 303) rfl (hT.hd (c := 93) (by decide) (by decide)) (by decide) ((Sh.of hT).slI (c := 93) (i := 3) (by decide) (by decide) (by decide) rfl) ?_
    refine kIload (mi := 49) (pc := 16) (len := 1) (i := 1) rfl rfl ?_
    obtain ⟨N2, eN2⟩ : ∃ X_, X_ = mPut M 94 (iv M 93 3).toInt.toNat (.int p) := ⟨_, rfl⟩
    have hT3 : aTp s N2 := by rw [eN2]; exact hT.put (a := 94) (i := (iv M 93 3).toInt.toNat) (v := .int p) (by decide) (by decide) (show aTy (tTy (tGrp 94) _) _ from ⟨p, rfl, by show (0 : Int) ≤ _; omega, by show _ ≤ (9 : Int); omega⟩)
    refine kIast (mi := 49) (pc := 17) (len := 1) (n := 60) rfl (hT.hd (c := 94) (by decide) (by decide)) (by decide) (by show (0 : Int) ≤ (iv M 93 3).toInt; omega) (by show (iv M 93 3).toInt < 60; omega) ?_
    refine Ok_meq eN2 ?_
    have hSh_N2 := Sh.of hT3
    have gN2 : iv N2 93 3 = iv M 93 3 := by rw [eN2, iv_put_ne (Or.inl (by decide))]
    refine kAload (mi := 49) (pc := 18) (len := 1) (i := 0) rfl rfl ?_
    refine kGetf (mi := 49) (pc := 19) (len := 3) (j := 301) rfl (hT3.hd (c := 93) (by decide) (by decide)) (by decide) (hT3.ref (c := 93) (i := 1) (g := 95) (by decide) (by decide) (by decide) (lo := 0) (hi' := 0) rfl rfl) ?_
    refine kAload (mi := 49) (pc := 22) (len := 1) (i := 0) rfl rfl ?_
    refine kGetf (mi := 49) (pc := 23) (len := 3) (j := 303) rfl (hT3.hd (c := 93) (by decide) (by decide)) (by decide) ((Sh.of hT3).slI (c := 93) (i := 3) (by decide) (by decide) (by decide) rfl) ?_
    refine kIload (mi := 49) (pc := 26) (len := 1) (i := 2) rfl rfl ?_
    have kN2 := gN2
    have rN2 : 0 ≤ (iv N2 93 3).toInt ∧ (iv N2 93 3).toInt < 60 := by rw [gN2]; omega
    obtain ⟨N4, eN4⟩ : ∃ X_, X_ = mPut N2 95 (iv N2 93 3).toInt.toNat (.int x) := ⟨_, rfl⟩
    have hT5 : aTp s N4 := by rw [eN4]; exact hT3.put (a := 95) (i := (iv N2 93 3).toInt.toNat) (v := .int x) (by decide) (by decide) (show aTy (tTy (tGrp 95) _) _ from ⟨x, rfl, by show (0 : Int) ≤ _; omega, by show _ ≤ (39 : Int); omega⟩)
    refine kIast (mi := 49) (pc := 27) (len := 1) (n := 60) rfl (hT3.hd (c := 95) (by decide) (by decide)) (by decide) (by show (0 : Int) ≤ (iv N2 93 3).toInt; omega) (by show (iv N2 93 3).toInt < 60; omega) ?_
    refine Ok_meq eN4 ?_
    have hSh_N4 := Sh.of hT5
    have gN4 : iv N4 93 3 = iv M 93 3 := by rw [eN4, iv_put_ne (Or.inl (by decide))]; exact gN2
    refine kAload (mi := 49) (pc := 28) (len := 1) (i := 0) rfl rfl ?_
    refine kGetf (mi := 49) (pc := 29) (len := 3) (j := 302) rfl (hT5.hd (c := 93) (by decide) (by decide)) (by decide) (hT5.ref (c := 93) (i := 2) (g := 96) (by decide) (by decide) (by decide) (lo := 0) (hi' := 0) rfl rfl) ?_
    refine kAload (mi := 49) (pc := 32) (len := 1) (i := 0) rfl rfl ?_
    refine kGetf (mi := 49) (pc := 33) (len := 3) (j := 303) rfl (hT5.hd (c := 93) (by decide) (by decide)) (by decide) ((Sh.of hT5).slI (c := 93) (i := 3) (by decide) (by decide) (by decide) rfl) ?_
    refine kIload (mi := 49) (pc := 36) (len := 1) (i := 3) rfl rfl ?_
    have kN4 := gN4
    have rN4 : 0 ≤ (iv N4 93 3).toInt ∧ (iv N4 93 3).toInt < 60 := by rw [gN4]; omega
    obtain ⟨N6, eN6⟩ : ∃ X_, X_ = mPut N4 96 (iv N4 93 3).toInt.toNat (.int v) := ⟨_, rfl⟩
    have hT7 : aTp s N6 := by rw [eN6]; exact hT5.put (a := 96) (i := (iv N4 93 3).toInt.toNat) (v := .int v) (by decide) (by decide) (show aTy (tTy (tGrp 96) _) _ from ⟨v, rfl, by show (0 : Int) ≤ _; omega, by show _ ≤ (999 : Int); omega⟩)
    refine kIast (mi := 49) (pc := 37) (len := 1) (n := 60) rfl (hT5.hd (c := 96) (by decide) (by decide)) (by decide) (by show (0 : Int) ≤ (iv N4 93 3).toInt; omega) (by show (iv N4 93 3).toInt < 60; omega) ?_
    refine Ok_meq eN6 ?_
    have hSh_N6 := Sh.of hT7
    have gN6 : iv N6 93 3 = iv M 93 3 := by rw [eN6, iv_put_ne (Or.inl (by decide))]; exact gN4
    refine kAload (mi := 49) (pc := 38) (len := 1) (i := 0) rfl rfl ?_
    refine kDupRk (mi := 49) (pc := 39) (len := 1) rfl ?_
    refine kGetf (mi := 49) (pc := 40) (len := 3) (j := 303) rfl (hT7.hd (c := 93) (by decide) (by decide)) (by decide) ((Sh.of hT7).slI (c := 93) (i := 3) (by decide) (by decide) (by decide) rfl) ?_
    refine kIconst (mi := 49) (pc := 43) (len := 1) (v := 1) rfl ?_
    refine kAdd (mi := 49) (pc := 44) (len := 1) rfl ?_
    have kN6 := gN6
    have rN6 : 0 ≤ (iv N6 93 3).toInt ∧ (iv N6 93 3).toInt < 60 := by rw [gN6]; omega
    have qN6 : (iv N6 93 3 + 1).toInt = (iv M 93 3).toInt + 1 := by rw [gN6]; exact e1
    obtain ⟨N8, eN8⟩ : ∃ X_, X_ = mPut N6 93 3 (.int ((iv N6 93 3) + (1 : Int32))) := ⟨_, rfl⟩
    have hT9 : aTp s N8 := by rw [eN8]; exact hT7.put (a := 93) (i := 3) (v := .int ((iv N6 93 3) + (1 : Int32))) (by decide) (by decide) (show aTy (tTy (tGrp 93) _) _ from ⟨((iv N6 93 3) + (1 : Int32)), rfl, by show (0 : Int) ≤ _; omega, by show _ ≤ (60 : Int); omega⟩)
    refine kPutf (mi := 49) (pc := 45) (len := 3) (j := 303) (v := .int ((iv N6 93 3) + (1 : Int32))) rfl (hT7.hd (c := 93) (by decide) (by decide)) (by decide) (by decide) rfl ?_
    show Ok d 49 48 _ _ (mPut N6 93 3 (.int ((iv N6 93 3) + (1 : Int32)))) _
    refine Ok_meq eN8 ?_
    have hSh_N8 := Sh.of hT9
    refine kRetV (mi := 49) (pc := 48) (len := 1) rfl rfl ?_
    refine ⟨rfl, hT9, ?_, by rw [eN8, eN6, eN4, eN2]; exact (((aFr_put rfl).tr (aFr_put rfl)).tr (aFr_put rfl)).tr (aFr_put rfl)⟩
    unfold hPutC
    rw [eN8, gN6, eN6, gN4, eN4, gN2, eN2]
  · have c1 := hc1
    replace c1 : bHah M = true := mB_eq.2 c1
    refine kIfF (mi := 49) (pc := 4) (len := 3) (t := 8) rfl rfl hc1 ?_
    refine kRetV (mi := 49) (pc := 7) (len := 1) rfl rfl ?_
    exfalso
    cases (hh.symm.trans c1)
/-- the wells above k have been moved up by one -/
def awS (s : List Int32) (M : Mem) (W k : Nat) (N : Mem) : Prop := aTp s N ∧ (∀ c i, c ≠ 97 → c ≠ 98 → mSlot N c i = mSlot M c i) ∧ (∀ i, i < 20 → iv N 97 i = (if k < i ∧ i ≤ W then iv M 97 (i - 1) else iv M 97 i) ∧ iv N 98 i = (if k < i ∧ i ≤ W then iv M 98 (i - 1) else iv M 98 i)) ∧ aFr [(97, 0), (98, 0), (93, 6)] M N
/-- the new well stands at place pl -/
def awF (M : Mem) (W pl : Nat) (t q : Int32) (N : Mem) : Prop := (∀ c i, c ≠ 97 → c ≠ 98 → ¬ (c = 93 ∧ i = 6) → mSlot N c i = mSlot M c i) ∧ (iv N 93 6).toInt = (W : Int) + 1 ∧ ∀ i, i < 20 → iv N 97 i = (if i < pl then iv M 97 i else if i = pl then t else if i ≤ W then iv M 97 (i - 1) else iv M 97 i) ∧ iv N 98 i = (if i < pl then iv M 98 i else if i = pl then q else if i ≤ W then iv M 98 (i - 1) else iv M 98 i)
theorem awS_s {s : List Int32} {M N N' : Mem} {W k : Nat} (h : awS s M W (k + 1) N) (hk : k < W) (hW : W < 20) (hT : aTp s N') (f : ∀ c i, c ≠ 97 → c ≠ 98 → mSlot N' c i = mSlot N c i) (e7 : ∀ i, iv N' 97 i = if i = k + 1 then iv N 97 k else iv N 97 i) (e8 : ∀ i, iv N' 98 i = if i = k + 1 then iv N 98 k else iv N 98 i) (fr : aFr [(97, 0), (98, 0), (93, 6)] N N') : awS s M W k N' := by
  obtain ⟨_, h1, h2, hf⟩ := h
  refine ⟨hT, fun c i a b => (f c i a b).trans (h1 c i a b), fun i hi => ?_, hf.tr fr⟩
  obtain ⟨a1, a2⟩ := h2 k (by omega)
  obtain ⟨b1, b2⟩ := h2 i hi
  rw [e7, e8, a1, a2, b1, b2, if_neg (show ¬ (k + 1 < k ∧ k ≤ W) by omega), if_neg (show ¬ (k + 1 < k ∧ k ≤ W) by omega)]
  by_cases c : i = k + 1
  · subst c
    rw [if_pos rfl, if_pos rfl, if_pos (show k < k + 1 ∧ k + 1 ≤ W by omega), if_pos (show k < k + 1 ∧ k + 1 ≤ W by omega), show k + 1 - 1 = k by omega]
    exact ⟨rfl, rfl⟩
  · rw [if_neg c, if_neg c]
    by_cases c2 : k < i ∧ i ≤ W
    · rw [if_pos c2, if_pos c2, if_pos (show k + 1 < i ∧ i ≤ W by omega), if_pos (show k + 1 < i ∧ i ≤ W by omega)]
      exact ⟨rfl, rfl⟩
    · rw [if_neg c2, if_neg c2, if_neg (show ¬ (k + 1 < i ∧ i ≤ W) by omega), if_neg (show ¬ (k + 1 < i ∧ i ≤ W) by omega)]
      exact ⟨rfl, rfl⟩
theorem awF_s {s : List Int32} {M N N' : Mem} {W k : Nat} {t q : Int32} (h : awS s M W k N) (f : ∀ c i, c ≠ 97 → c ≠ 98 → ¬ (c = 93 ∧ i = 6) → mSlot N' c i = mSlot N c i) (e6 : (iv N' 93 6).toInt = (W : Int) + 1) (e7 : ∀ i, iv N' 97 i = if i = k then t else iv N 97 i) (e8 : ∀ i, iv N' 98 i = if i = k then q else iv N 98 i) : awF M W k t q N' := by
  obtain ⟨_, h1, h2, _⟩ := h
  refine ⟨fun c i a b e => (f c i a b e).trans (h1 c i a b), e6, fun i hi => ?_⟩
  obtain ⟨b1, b2⟩ := h2 i hi
  rw [e7, e8, b1, b2]
  by_cases c : i < k
  · rw [if_pos c, if_pos c, if_neg (show ¬ i = k by omega), if_neg (show ¬ i = k by omega), if_neg (show ¬ (k < i ∧ i ≤ W) by omega), if_neg (show ¬ (k < i ∧ i ≤ W) by omega)]
    exact ⟨rfl, rfl⟩
  · rw [if_neg c, if_neg c]
    by_cases c2 : i = k
    · rw [if_pos c2, if_pos c2, if_pos c2, if_pos c2]
      exact ⟨rfl, rfl⟩
    · rw [if_neg c2, if_neg c2, if_neg c2, if_neg c2]
      by_cases c3 : i ≤ W
      · rw [if_pos c3, if_pos c3, if_pos (show k < i ∧ i ≤ W by omega), if_pos (show k < i ∧ i ≤ W by omega)]
        exact ⟨rfl, rfl⟩
      · rw [if_neg c3, if_neg c3, if_neg (show ¬ (k < i ∧ i ≤ W) by omega), if_neg (show ¬ (k < i ∧ i ≤ W) by omega)]
        exact ⟨rfl, rfl⟩
theorem aw_lp {s : List Int32} {M : Mem} {t q : Int32} {W : Nat} {d : Nat} (hW : W < 20) (eW : (iv M 93 6).toInt = (W : Int)) (t0 : 0 ≤ t.toInt) (t9 : t.toInt < 1000) (q0 : 0 ≤ q.toInt) (q9 : q.toInt < 1024) : ∀ (m : Nat) {N : Mem} {L : MLoc} {k : Int32}, awS s M W m N → mLd L 0 = some (.ref 93) → mLd L 1 = some (.int t) → mLd L 2 = some (.int q) → mLd L 3 = some (.int k) → 0 ≤ k.toInt → k.toInt.toNat = m → m ≤ W → (∀ i, m ≤ i → i < W → t.toInt < (iv M 97 i).toInt) → Ok d 50 13 L [] N (fun r N' => r = none ∧ aTp s N' ∧ ∃ pl, pl ≤ W ∧ (pl = 0 ∨ (iv M 97 (pl - 1)).toInt ≤ t.toInt) ∧ (∀ i, pl ≤ i → i < W → t.toInt < (iv M 97 i).toInt) ∧ awF M W pl t q N' ∧ aFr [(97, 0), (98, 0), (93, 6)] M N') := by
  intro m
  induction m with
  | zero =>
    intro N L k hA l0 l1 l2 l3 k0 km mW hg
    have hT := hA.1
    have hSh := Sh.of hT
    have e93 : iv N 93 6 = iv M 93 6 := by unfold iv; rw [hA.2.1 93 6 (by decide) (by decide)]
    have r93 : 0 ≤ (iv N 93 6).toInt ∧ (iv N 93 6).toInt < 20 := by rw [e93, eW]; omega
    have ekm : 0 < k.toInt → (k - (1 : Int32)).toInt = k.toInt - 1 := fun c => i32_dec k0 (by omega)
    have ekn : 0 < k.toInt → (k + (-1)).toInt = k.toInt - 1 := fun c => i32_add (x := k) (y := -1) (by show -2147483648 ≤ k.toInt + -1; omega) (by show k.toInt + -1 ≤ _; omega)
    refine kIload (mi := 50) (pc := 13) (len := 1) (i := 3) rfl l3 ?_
    rcases Bool.eq_false_or_eq_true (mCond .le k 0) with hc1 | hc1
    · have c1 := hc1
      replace c1 : ¬ 0 < k.toInt := mC_le.1 c1
      refine kIfT (mi := 50) (pc := 14) (len := 3) (t := 63) rfl rfl hc1 ?_
      refine kAload (mi := 50) (pc := 63) (len := 1) (i := 0) rfl l0 ?_
      refine kGetf (mi := 50) (pc := 64) (len := 3) (j := 304) rfl (hT.hd (c := 93) (by decide) (by decide)) (by decide) (hT.ref (c := 93) (i := 4) (g := 97) (by decide) (by decide) (by decide) (lo := 0) (hi' := 0) rfl rfl) ?_
      refine kIload (mi := 50) (pc := 67) (len := 1) (i := 3) rfl l3 ?_
      refine kIload (mi := 50) (pc := 68) (len := 1) (i := 1) rfl l1 ?_
      obtain ⟨N2, eN2⟩ : ∃ X_, X_ = mPut N 97 k.toInt.toNat (.int t) := ⟨_, rfl⟩
      have hT3 : aTp s N2 := by rw [eN2]; exact hT.put (a := 97) (i := k.toInt.toNat) (v := .int t) (by decide) (by decide) (show aTy (tTy (tGrp 97) _) _ from ⟨t, rfl, by show (0 : Int) ≤ _; omega, by show _ ≤ (999 : Int); omega⟩)
      refine kIast (mi := 50) (pc := 69) (len := 1) (n := 20) rfl (hT.hd (c := 97) (by decide) (by decide)) (by decide) (by show (0 : Int) ≤ k.toInt; omega) (by show k.toInt < 20; omega) ?_
      refine Ok_meq eN2 ?_
      have hSh_N2 := Sh.of hT3
      refine kAload (mi := 50) (pc := 70) (len := 1) (i := 0) rfl l0 ?_
      refine kGetf (mi := 50) (pc := 71) (len := 3) (j := 305) rfl (hT3.hd (c := 93) (by decide) (by decide)) (by decide) (hT3.ref (c := 93) (i := 5) (g := 98) (by decide) (by decide) (by decide) (lo := 0) (hi' := 0) rfl rfl) ?_
      refine kIload (mi := 50) (pc := 74) (len := 1) (i := 3) rfl l3 ?_
      refine kIload (mi := 50) (pc := 75) (len := 1) (i := 2) rfl l2 ?_
      obtain ⟨N4, eN4⟩ : ∃ X_, X_ = mPut N2 98 k.toInt.toNat (.int q) := ⟨_, rfl⟩
      have hT5 : aTp s N4 := by rw [eN4]; exact hT3.put (a := 98) (i := k.toInt.toNat) (v := .int q) (by decide) (by decide) (show aTy (tTy (tGrp 98) _) _ from ⟨q, rfl, by show (0 : Int) ≤ _; omega, by show _ ≤ (1023 : Int); omega⟩)
      refine kIast (mi := 50) (pc := 76) (len := 1) (n := 20) rfl (hT3.hd (c := 98) (by decide) (by decide)) (by decide) (by show (0 : Int) ≤ k.toInt; omega) (by show k.toInt < 20; omega) ?_
      refine Ok_meq eN4 ?_
      have hSh_N4 := Sh.of hT5
      refine kAload (mi := 50) (pc := 77) (len := 1) (i := 0) rfl l0 ?_
      refine kDupRk (mi := 50) (pc := 78) (len := 1) rfl ?_
      refine kGetf (mi := 50) (pc := 79) (len := 3) (j := 306) rfl (hT5.hd (c := 93) (by decide) (by decide)) (by decide) ((Sh.of hT5).slI (c := 93) (i := 6) (by decide) (by decide) (by decide) rfl) ?_
      refine kIconst (mi := 50) (pc := 82) (len := 1) (v := 1) rfl ?_
      refine kAdd (mi := 50) (pc := 83) (len := 1) rfl ?_
      have p93 : iv N4 93 6 = iv N 93 6 := by rw [eN4, iv_put_ne (Or.inl (by decide)), eN2, iv_put_ne (Or.inl (by decide))]
      have p93b : (iv N4 93 6 + 1).toInt = (W : Int) + 1 := by rw [p93, i32_inc r93.1 (by omega), e93, eW]
      rw [← p93] at r93
      obtain ⟨N6, eN6⟩ : ∃ X_, X_ = mPut N4 93 6 (.int ((iv N4 93 6) + (1 : Int32))) := ⟨_, rfl⟩
      have hT7 : aTp s N6 := by rw [eN6]; exact hT5.put (a := 93) (i := 6) (v := .int ((iv N4 93 6) + (1 : Int32))) (by decide) (by decide) (show aTy (tTy (tGrp 93) _) _ from ⟨((iv N4 93 6) + (1 : Int32)), rfl, by show (0 : Int) ≤ _; omega, by show _ ≤ (20 : Int); omega⟩)
      refine kPutf (mi := 50) (pc := 84) (len := 3) (j := 306) (v := .int ((iv N4 93 6) + (1 : Int32))) rfl (hT5.hd (c := 93) (by decide) (by decide)) (by decide) (by decide) rfl ?_
      show Ok d 50 87 _ _ (mPut N4 93 6 (.int ((iv N4 93 6) + (1 : Int32)))) _
      refine Ok_meq eN6 ?_
      have hSh_N6 := Sh.of hT7
      refine kRetV (mi := 50) (pc := 87) (len := 1) rfl rfl ?_
      rw [km] at eN2 eN4
      refine ⟨rfl, hT7, 0, mW, Or.inl rfl, hg, awF_s hA (fun c i a b w => by rw [eN6, mSlot_put_ne (by omega), eN4, mSlot_put_ne (Or.inl b), eN2, mSlot_put_ne (Or.inl a)]) ?_ (fun i => ?_) (fun i => ?_), hA.2.2.2.tr (by rw [eN6, eN4, eN2]; exact ((aFr_put rfl).tr (aFr_put rfl)).tr (aFr_put rfl))⟩
      · rw [eN6, iv_put_eq (Sh.of hT5) (by decide) (by decide) (by decide)]
        exact p93b
      · rw [eN6, iv_put_ne (Or.inl (by decide)), eN4, iv_put_ne (Or.inl (by decide)), eN2]
        exact iv_put_if (Sh.of hT) (by decide) (by decide) (by show 0 < 20; omega)
      · rw [eN6, iv_put_ne (Or.inl (by decide)), eN4, iv_put_if (Sh.of hT3) (by decide) (by decide) (by show 0 < 20; omega), eN2, iv_put_ne (Or.inl (by decide))]
    · have c1 := hc1
      replace c1 : 0 < k.toInt := mC_le.2 c1
      refine kIfF (mi := 50) (pc := 14) (len := 3) (t := 63) rfl rfl hc1 ?_
      exfalso
      omega
  | succ m ih =>
    intro N L k hA l0 l1 l2 l3 k0 km mW hg
    have hT := hA.1
    have hSh := Sh.of hT
    have e93 : iv N 93 6 = iv M 93 6 := by unfold iv; rw [hA.2.1 93 6 (by decide) (by decide)]
    have r93 : 0 ≤ (iv N 93 6).toInt ∧ (iv N 93 6).toInt < 20 := by rw [e93, eW]; omega
    have ekm : 0 < k.toInt → (k - (1 : Int32)).toInt = k.toInt - 1 := fun c => i32_dec k0 (by omega)
    have ekn : 0 < k.toInt → (k + (-1)).toInt = k.toInt - 1 := fun c => i32_add (x := k) (y := -1) (by show -2147483648 ≤ k.toInt + -1; omega) (by show k.toInt + -1 ≤ _; omega)
    refine kIload (mi := 50) (pc := 13) (len := 1) (i := 3) rfl l3 ?_
    rcases Bool.eq_false_or_eq_true (mCond .le k 0) with hc201 | hc201
    · have c201 := hc201
      replace c201 : ¬ 0 < k.toInt := mC_le.1 c201
      refine kIfT (mi := 50) (pc := 14) (len := 3) (t := 63) rfl rfl hc201 ?_
      exfalso
      omega
    · have c201 := hc201
      replace c201 : 0 < k.toInt := mC_le.2 c201
      refine kIfF (mi := 50) (pc := 14) (len := 3) (t := 63) rfl rfl hc201 ?_
      have ek := ekm (by omega)
      have ek2 := ekn (by omega)
      refine kAload (mi := 50) (pc := 17) (len := 1) (i := 0) rfl l0 ?_
      refine kGetf (mi := 50) (pc := 18) (len := 3) (j := 304) rfl (hT.hd (c := 93) (by decide) (by decide)) (by decide) (hT.ref (c := 93) (i := 4) (g := 97) (by decide) (by decide) (by decide) (lo := 0) (hi' := 0) rfl rfl) ?_
      refine kIload (mi := 50) (pc := 21) (len := 1) (i := 3) rfl l3 ?_
      refine kIconst (mi := 50) (pc := 22) (len := 1) (v := 1) rfl ?_
      refine kSub (mi := 50) (pc := 23) (len := 1) rfl ?_
      refine kIald (mi := 50) (pc := 24) (len := 1) (n := 20) rfl (hT.hd (c := 97) (by decide) (by decide)) (by show (0 : Int) ≤ (k - (1 : Int32)).toInt; omega) (by show (k - (1 : Int32)).toInt < 20; omega) ((Sh.of hT).slI (c := 97) (i := (k - (1 : Int32)).toInt.toNat) (by decide) (by decide) (by show _ < 20; omega) rfl) ?_
      refine kIload (mi := 50) (pc := 25) (len := 1) (i := 1) rfl l1 ?_
      rcases Bool.eq_false_or_eq_true (mCond .le (iv N 97 (k - (1 : Int32)).toInt.toNat) t) with hc202 | hc202
      · have c202 := hc202
        replace c202 : ¬ t.toInt < (iv N 97 (k - (1 : Int32)).toInt.toNat).toInt := mC_le.1 c202
        refine kIcT (mi := 50) (pc := 26) (len := 3) (t := 63) rfl rfl hc202 ?_
        refine kAload (mi := 50) (pc := 63) (len := 1) (i := 0) rfl l0 ?_
        refine kGetf (mi := 50) (pc := 64) (len := 3) (j := 304) rfl (hT.hd (c := 93) (by decide) (by decide)) (by decide) (hT.ref (c := 93) (i := 4) (g := 97) (by decide) (by decide) (by decide) (lo := 0) (hi' := 0) rfl rfl) ?_
        refine kIload (mi := 50) (pc := 67) (len := 1) (i := 3) rfl l3 ?_
        refine kIload (mi := 50) (pc := 68) (len := 1) (i := 1) rfl l1 ?_
        obtain ⟨N203, eN203⟩ : ∃ X_, X_ = mPut N 97 k.toInt.toNat (.int t) := ⟨_, rfl⟩
        have hT204 : aTp s N203 := by rw [eN203]; exact hT.put (a := 97) (i := k.toInt.toNat) (v := .int t) (by decide) (by decide) (show aTy (tTy (tGrp 97) _) _ from ⟨t, rfl, by show (0 : Int) ≤ _; omega, by show _ ≤ (999 : Int); omega⟩)
        refine kIast (mi := 50) (pc := 69) (len := 1) (n := 20) rfl (hT.hd (c := 97) (by decide) (by decide)) (by decide) (by show (0 : Int) ≤ k.toInt; omega) (by show k.toInt < 20; omega) ?_
        refine Ok_meq eN203 ?_
        have hSh_N203 := Sh.of hT204
        refine kAload (mi := 50) (pc := 70) (len := 1) (i := 0) rfl l0 ?_
        refine kGetf (mi := 50) (pc := 71) (len := 3) (j := 305) rfl (hT204.hd (c := 93) (by decide) (by decide)) (by decide) (hT204.ref (c := 93) (i := 5) (g := 98) (by decide) (by decide) (by decide) (lo := 0) (hi' := 0) rfl rfl) ?_
        refine kIload (mi := 50) (pc := 74) (len := 1) (i := 3) rfl l3 ?_
        refine kIload (mi := 50) (pc := 75) (len := 1) (i := 2) rfl l2 ?_
        obtain ⟨N205, eN205⟩ : ∃ X_, X_ = mPut N203 98 k.toInt.toNat (.int q) := ⟨_, rfl⟩
        have hT206 : aTp s N205 := by rw [eN205]; exact hT204.put (a := 98) (i := k.toInt.toNat) (v := .int q) (by decide) (by decide) (show aTy (tTy (tGrp 98) _) _ from ⟨q, rfl, by show (0 : Int) ≤ _; omega, by show _ ≤ (1023 : Int); omega⟩)
        refine kIast (mi := 50) (pc := 76) (len := 1) (n := 20) rfl (hT204.hd (c := 98) (by decide) (by decide)) (by decide) (by show (0 : Int) ≤ k.toInt; omega) (by show k.toInt < 20; omega) ?_
        refine Ok_meq eN205 ?_
        have hSh_N205 := Sh.of hT206
        refine kAload (mi := 50) (pc := 77) (len := 1) (i := 0) rfl l0 ?_
        refine kDupRk (mi := 50) (pc := 78) (len := 1) rfl ?_
        refine kGetf (mi := 50) (pc := 79) (len := 3) (j := 306) rfl (hT206.hd (c := 93) (by decide) (by decide)) (by decide) ((Sh.of hT206).slI (c := 93) (i := 6) (by decide) (by decide) (by decide) rfl) ?_
        refine kIconst (mi := 50) (pc := 82) (len := 1) (v := 1) rfl ?_
        refine kAdd (mi := 50) (pc := 83) (len := 1) rfl ?_
        have p93 : iv N205 93 6 = iv N 93 6 := by rw [eN205, iv_put_ne (Or.inl (by decide)), eN203, iv_put_ne (Or.inl (by decide))]
        have p93b : (iv N205 93 6 + 1).toInt = (W : Int) + 1 := by rw [p93, i32_inc r93.1 (by omega), e93, eW]
        rw [← p93] at r93
        obtain ⟨N207, eN207⟩ : ∃ X_, X_ = mPut N205 93 6 (.int ((iv N205 93 6) + (1 : Int32))) := ⟨_, rfl⟩
        have hT208 : aTp s N207 := by rw [eN207]; exact hT206.put (a := 93) (i := 6) (v := .int ((iv N205 93 6) + (1 : Int32))) (by decide) (by decide) (show aTy (tTy (tGrp 93) _) _ from ⟨((iv N205 93 6) + (1 : Int32)), rfl, by show (0 : Int) ≤ _; omega, by show _ ≤ (20 : Int); omega⟩)
        refine kPutf (mi := 50) (pc := 84) (len := 3) (j := 306) (v := .int ((iv N205 93 6) + (1 : Int32))) rfl (hT206.hd (c := 93) (by decide) (by decide)) (by decide) (by decide) rfl ?_
        show Ok d 50 87 _ _ (mPut N205 93 6 (.int ((iv N205 93 6) + (1 : Int32)))) _
        refine Ok_meq eN207 ?_
        have hSh_N207 := Sh.of hT208
        refine kRetV (mi := 50) (pc := 87) (len := 1) rfl rfl ?_
        rw [km] at eN203 eN205
        refine ⟨rfl, hT208, (m + 1), mW, Or.inr ?_, hg, awF_s hA (fun c i a b w => by rw [eN207, mSlot_put_ne (by omega), eN205, mSlot_put_ne (Or.inl b), eN203, mSlot_put_ne (Or.inl a)]) ?_ (fun i => ?_) (fun i => ?_), hA.2.2.2.tr (by rw [eN207, eN205, eN203]; exact ((aFr_put rfl).tr (aFr_put rfl)).tr (aFr_put rfl))⟩
        · rw [show (k - (1 : Int32)).toInt.toNat = m by omega] at c202
          rw [show m + 1 - 1 = m by omega, ← show iv N 97 m = iv M 97 m by rw [(hA.2.2.1 m (by omega)).1, if_neg (show ¬ (m + 1 < m ∧ m ≤ W) by omega)]]
          omega
        · rw [eN207, iv_put_eq (Sh.of hT206) (by decide) (by decide) (by decide)]
          exact p93b
        · rw [eN207, iv_put_ne (Or.inl (by decide)), eN205, iv_put_ne (Or.inl (by decide)), eN203]
          exact iv_put_if (Sh.of hT) (by decide) (by decide) (by show (m + 1) < 20; omega)
        · rw [eN207, iv_put_ne (Or.inl (by decide)), eN205, iv_put_if (Sh.of hT204) (by decide) (by decide) (by show (m + 1) < 20; omega), eN203, iv_put_ne (Or.inl (by decide))]
      · have c202 := hc202
        replace c202 : t.toInt < (iv N 97 (k - (1 : Int32)).toInt.toNat).toInt := mC_le.2 c202
        refine kIcF (mi := 50) (pc := 26) (len := 3) (t := 63) rfl rfl hc202 ?_
        refine kAload (mi := 50) (pc := 29) (len := 1) (i := 0) rfl l0 ?_
        refine kGetf (mi := 50) (pc := 30) (len := 3) (j := 304) rfl (hT.hd (c := 93) (by decide) (by decide)) (by decide) (hT.ref (c := 93) (i := 4) (g := 97) (by decide) (by decide) (by decide) (lo := 0) (hi' := 0) rfl rfl) ?_
        refine kIload (mi := 50) (pc := 33) (len := 1) (i := 3) rfl l3 ?_
        refine kAload (mi := 50) (pc := 34) (len := 1) (i := 0) rfl l0 ?_
        refine kGetf (mi := 50) (pc := 35) (len := 3) (j := 304) rfl (hT.hd (c := 93) (by decide) (by decide)) (by decide) (hT.ref (c := 93) (i := 4) (g := 97) (by decide) (by decide) (by decide) (lo := 0) (hi' := 0) rfl rfl) ?_
        refine kIload (mi := 50) (pc := 38) (len := 1) (i := 3) rfl l3 ?_
        refine kIconst (mi := 50) (pc := 39) (len := 1) (v := 1) rfl ?_
        refine kSub (mi := 50) (pc := 40) (len := 1) rfl ?_
        refine kIald (mi := 50) (pc := 41) (len := 1) (n := 20) rfl (hT.hd (c := 97) (by decide) (by decide)) (by show (0 : Int) ≤ (k - (1 : Int32)).toInt; omega) (by show (k - (1 : Int32)).toInt < 20; omega) ((Sh.of hT).slI (c := 97) (i := (k - (1 : Int32)).toInt.toNat) (by decide) (by decide) (by show _ < 20; omega) rfl) ?_
        have rv97 := iv_ty hT (c := 97) (i := (k - (1 : Int32)).toInt.toNat) (by decide) (by decide) (by show _ < 20; omega) (lo := 0) (hi' := 999) (gs := []) rfl
        obtain ⟨N209, eN209⟩ : ∃ X_, X_ = mPut N 97 k.toInt.toNat (.int (iv N 97 (k - (1 : Int32)).toInt.toNat)) := ⟨_, rfl⟩
        have hT210 : aTp s N209 := by rw [eN209]; exact hT.put (a := 97) (i := k.toInt.toNat) (v := .int (iv N 97 (k - (1 : Int32)).toInt.toNat)) (by decide) (by decide) (show aTy (tTy (tGrp 97) _) _ from ⟨(iv N 97 (k - (1 : Int32)).toInt.toNat), rfl, by show (0 : Int) ≤ _; omega, by show _ ≤ (999 : Int); omega⟩)
        refine kIast (mi := 50) (pc := 42) (len := 1) (n := 20) rfl (hT.hd (c := 97) (by decide) (by decide)) (by decide) (by show (0 : Int) ≤ k.toInt; omega) (by show k.toInt < 20; omega) ?_
        refine Ok_meq eN209 ?_
        have hSh_N209 := Sh.of hT210
        refine kAload (mi := 50) (pc := 43) (len := 1) (i := 0) rfl l0 ?_
        refine kGetf (mi := 50) (pc := 44) (len := 3) (j := 305) rfl (hT210.hd (c := 93) (by decide) (by decide)) (by decide) (hT210.ref (c := 93) (i := 5) (g := 98) (by decide) (by decide) (by decide) (lo := 0) (hi' := 0) rfl rfl) ?_
        refine kIload (mi := 50) (pc := 47) (len := 1) (i := 3) rfl l3 ?_
        refine kAload (mi := 50) (pc := 48) (len := 1) (i := 0) rfl l0 ?_
        refine kGetf (mi := 50) (pc := 49) (len := 3) (j := 305) rfl (hT210.hd (c := 93) (by decide) (by decide)) (by decide) (hT210.ref (c := 93) (i := 5) (g := 98) (by decide) (by decide) (by decide) (lo := 0) (hi' := 0) rfl rfl) ?_
        refine kIload (mi := 50) (pc := 52) (len := 1) (i := 3) rfl l3 ?_
        refine kIconst (mi := 50) (pc := 53) (len := 1) (v := 1) rfl ?_
        refine kSub (mi := 50) (pc := 54) (len := 1) rfl ?_
        refine kIald (mi := 50) (pc := 55) (len := 1) (n := 20) rfl (hT210.hd (c := 98) (by decide) (by decide)) (by show (0 : Int) ≤ (k - (1 : Int32)).toInt; omega) (by show (k - (1 : Int32)).toInt < 20; omega) ((Sh.of hT210).slI (c := 98) (i := (k - (1 : Int32)).toInt.toNat) (by decide) (by decide) (by show _ < 20; omega) rfl) ?_
        have rv98 := iv_ty hT210 (c := 98) (i := (k - (1 : Int32)).toInt.toNat) (by decide) (by decide) (by show _ < 20; omega) (lo := 0) (hi' := 1023) (gs := []) rfl
        obtain ⟨N211, eN211⟩ : ∃ X_, X_ = mPut N209 98 k.toInt.toNat (.int (iv N209 98 (k - (1 : Int32)).toInt.toNat)) := ⟨_, rfl⟩
        have hT212 : aTp s N211 := by rw [eN211]; exact hT210.put (a := 98) (i := k.toInt.toNat) (v := .int (iv N209 98 (k - (1 : Int32)).toInt.toNat)) (by decide) (by decide) (show aTy (tTy (tGrp 98) _) _ from ⟨(iv N209 98 (k - (1 : Int32)).toInt.toNat), rfl, by show (0 : Int) ≤ _; omega, by show _ ≤ (1023 : Int); omega⟩)
        refine kIast (mi := 50) (pc := 56) (len := 1) (n := 20) rfl (hT210.hd (c := 98) (by decide) (by decide)) (by decide) (by show (0 : Int) ≤ k.toInt; omega) (by show k.toInt < 20; omega) ?_
        refine Ok_meq eN211 ?_
        have hSh_N211 := Sh.of hT212
        refine kIinc (mi := 50) (pc := 57) (len := 3) (i := 3) (n := (-1)) rfl l3 (by decide) ?_
        refine kGoto (mi := 50) (pc := 60) (len := 3) (t := 13) rfl rfl ?_
        have kk : (k - (1 : Int32)).toInt.toNat = m := by omega
        rw [kk, km] at eN209
        rw [kk, km] at eN211
        rw [kk] at c202
        have i98 : iv N209 98 m = iv N 98 m := by rw [eN209, iv_put_ne (Or.inl (by decide))]
        rw [i98] at eN211
        have e97 : iv N 97 m = iv M 97 m := by rw [(hA.2.2.1 m (by omega)).1, if_neg (show ¬ (m + 1 < m ∧ m ≤ W) by omega)]
        rw [e97] at c202
        refine ih (k := k + (-1)) (awS_s hA (by omega) hW hT212 (fun c i a b => by rw [eN211, mSlot_put_ne (Or.inl b), eN209, mSlot_put_ne (Or.inl a)]) (fun i => ?_) (fun i => ?_) ?_) (mLd_st1_ref (by decide) l0) (mLd_st1_int (by decide) l1) (mLd_st1_int (by decide) l2) mLd_st1_i (by omega) (km_of ek2 km) (by omega) (fun i h1 h2 => ?_)
        · rw [eN211, iv_put_ne (Or.inl (by decide)), eN209]
          exact iv_put_if (Sh.of hT) (by decide) (by decide) (by show m + 1 < 20; omega)
        · rw [eN211, iv_put_if (Sh.of hT210) (by decide) (by decide) (by show m + 1 < 20; omega), eN209, iv_put_ne (Or.inl (by decide))]
        · rw [eN211, eN209]; exact (aFr_put rfl).tr (aFr_put rfl)
        · by_cases ce : i = m
          · rw [ce]; omega
          · exact hg i (by omega) h2
theorem addW_ok {s : List Int32} {M : Mem} {t q : Int32} {d : Nat} (hd : 1 ≤ d) (hT : aTp s M) (hh : bHaw M = false) (t0 : 0 ≤ t.toInt) (t9 : t.toInt < 1000) (q0 : 0 ≤ q.toInt) (q9 : q.toInt < 1024) : Ok d 50 0 (lv_args 0 [.ref 93, .int t, .int q]) [] M (fun r N' => r = none ∧ aTp s N' ∧ ∃ pl, pl ≤ (iv M 93 6).toInt.toNat ∧ (pl = 0 ∨ (iv M 97 (pl - 1)).toInt ≤ t.toInt) ∧ (∀ i, pl ≤ i → i < (iv M 93 6).toInt.toNat → t.toInt < (iv M 97 i).toInt) ∧ awF M (iv M 93 6).toInt.toNat pl t q N' ∧ aFr [(97, 0), (98, 0), (93, 6)] M N') := by
  have hSh := Sh.of hT
  have rH := iv_ty hT (c := 93) (i := 6) (by decide) (by decide) (by decide) (lo := 0) (hi' := 20) (gs := []) rfl
  have h60 : (iv M 93 6).toInt < 20 := by
    by_cases c : (iv M 93 6).toInt < 20
    · exact c
    · unfold bHaw at hh
      rw [decide_eq_false c] at hh
      cases hh
  refine kAload (mi := 50) (pc := 0) (len := 1) (i := 0) rfl rfl ?_
  refine kCallP (mi := 50) (pc := 1) (len := 3) (j := 48) rfl (Or.inr (Or.inl rfl)) (by decide) (mCall_ok (n := 1) (l := 1) (rk := 2) (own := 3) (kd := 1) (as := [.ref 93]) (rest := []) (by omega) (by decide) rfl rfl rfl rfl rfl rfl (Or.inr (Or.inl ⟨rfl, (tag_of hT (a := 93) (by decide) (by decide)).trans rfl⟩))) (bHaw_ok (by omega) hT) ?_
  rcases Bool.eq_false_or_eq_true (mCond .eq (b2 (bHaw M)) 0) with hc1 | hc1
  · have c1 := hc1
    replace c1 : bHaw M = false := mB_eq.1 c1
    refine kIfT (mi := 50) (pc := 4) (len := 3) (t := 8) rfl rfl hc1 ?_
    refine kAload (mi := 50) (pc := 8) (len := 1) (i := 0) rfl rfl ?_
    refine kGetf (mi := 50) (pc := 9) (len := 3) (j := 306) rfl (hT.hd (c := 93) (by decide) (by decide)) (by decide) ((Sh.of hT).slI (c := 93) (i := 6) (by decide) (by decide) (by decide) rfl) ?_
    refine kIstore (mi := 50) (pc := 12) (len := 1) (i := 3) rfl (by decide) ?_
    exact aw_lp (W := (iv M 93 6).toInt.toNat) (by omega) (by omega) t0 t9 q0 q9 (iv M 93 6).toInt.toNat (k := iv M 93 6) ⟨hT, fun _ _ _ _ => rfl, fun i _ => by rw [if_neg (show ¬ ((iv M 93 6).toInt.toNat < i ∧ i ≤ (iv M 93 6).toInt.toNat) by omega), if_neg (show ¬ ((iv M 93 6).toInt.toNat < i ∧ i ≤ (iv M 93 6).toInt.toNat) by omega)]; exact ⟨rfl, rfl⟩, aFr.rf⟩ rfl rfl rfl rfl rH.1 rfl (Nat.le_refl _) (fun i h1 h2 => absurd h1 (by omega))
  · have c1 := hc1
    replace c1 : bHaw M = true := mB_eq.2 c1
    refine kIfF (mi := 50) (pc := 4) (len := 3) (t := 8) rfl rfl hc1 ?_
    refine kRetV (mi := 50) (pc := 7) (len := 1) rfl rfl ?_
    exfalso
    cases (hh.symm.trans c1)
theorem bDeed_ok {x : Int32} {d : Nat} {s : List Int32} {M : Mem} (hd : 1 ≤ d) (hT : aTp s M) : Ok d 154 0 (lv_args 0 [.ref 2, .int x]) [] M (fun r M' => r = some (.int (b2 (bDeed M x))) ∧ M' = M) := by
  have hSh := Sh.of hT
  refine kIload (mi := 154) (pc := 0) (len := 1) (i := 1) rfl rfl ?_
  refine kAload (mi := 154) (pc := 1) (len := 1) (i := 0) rfl rfl ?_
  refine kGetf (mi := 154) (pc := 2) (len := 3) (j := 1001) rfl (hT.hd (c := 2) (by decide) (by decide)) (by decide) (hT.ref (c := 2) (i := 1) (g := 7) (by decide) (by decide) (by decide) (lo := 0) (hi' := 0) rfl rfl) ?_
  refine kGetf (mi := 154) (pc := 5) (len := 3) (j := 602) rfl (hT.hd (c := 7) (by decide) (by decide)) (by decide) ((Sh.of hT).slI (c := 7) (i := 2) (by decide) (by decide) (by decide) rfl) ?_
  refine kCallP (mi := 154) (pc := 8) (len := 3) (j := 148) rfl (Or.inl rfl) (by decide) (mCall_ok (n := 2) (l := 2) (rk := 2) (own := 10) (kd := 0) (as := [.int x, .int (iv M 7 2)]) (rest := []) (by omega) (by decide) rfl rfl rfl rfl rfl rfl (Or.inl rfl)) (bIn_ok (by omega)) ?_
  refine kRetI (mi := 154) (pc := 11) (len := 1) rfl (Or.inr ⟨rfl, b2_01 _⟩) ?_
  have e3 : bDeed M x = bIn x (iv M 7 2) := by
    unfold bDeed
    rfl
  rw [e3]
  exact ⟨rfl, rfl⟩
theorem rDeed_ok {x : Int32} {d : Nat} {s : List Int32} {M : Mem} (hd : 0 ≤ d) (hT : aTp s M) : Ok d 164 0 (lv_args 0 [.ref 181, .int x]) [] M (fun r M' => r = some (.int (b2 (rDeed M x))) ∧ M' = M) := by
  have hSh := Sh.of hT
  refine kIload (mi := 164) (pc := 0) (len := 1) (i := 1) rfl rfl ?_
  rcases Bool.eq_false_or_eq_true (mCond .lt x 0) with hc1 | hc1
  · have c1 := hc1
    replace c1 : x.toInt < 0 := mC_lt.1 c1
    refine kIfT (mi := 164) (pc := 1) (len := 3) (t := 16) rfl rfl hc1 ?_
    refine kIconst (mi := 164) (pc := 16) (len := 1) (v := 0) rfl ?_
    refine kRetI (mi := 164) (pc := 17) (len := 1) rfl (Or.inr ⟨rfl, Or.inl rfl⟩) ?_
    have e3 : rDeed M x = false := by
      unfold rDeed
      simp only [decide_eq_true c1, cond_true, cond_false, Bool.not_true, Bool.not_false]
    rw [e3]
    exact ⟨rfl, rfl⟩
  · have c1 := hc1
    replace c1 : ¬ x.toInt < 0 := mC_lt.2 c1
    refine kIfF (mi := 164) (pc := 1) (len := 3) (t := 16) rfl rfl hc1 ?_
    refine kIload (mi := 164) (pc := 4) (len := 1) (i := 1) rfl rfl ?_
    refine kAload (mi := 164) (pc := 5) (len := 1) (i := 0) rfl rfl ?_
    refine kGetf (mi := 164) (pc := 6) (len := 3) (j := 1100) rfl (hT.hd (c := 181) (by decide) (by decide)) (by decide) ((Sh.of hT).slI (c := 181) (i := 0) (by decide) (by decide) (by decide) rfl) ?_
    rcases Bool.eq_false_or_eq_true (mCond .ge x (iv M 181 0)) with hc2 | hc2
    · have c2 := hc2
      replace c2 : ¬ x.toInt < (iv M 181 0).toInt := mC_ge.1 c2
      refine kIcT (mi := 164) (pc := 9) (len := 3) (t := 16) rfl rfl hc2 ?_
      refine kIconst (mi := 164) (pc := 16) (len := 1) (v := 0) rfl ?_
      refine kRetI (mi := 164) (pc := 17) (len := 1) rfl (Or.inr ⟨rfl, Or.inl rfl⟩) ?_
      have e3 : rDeed M x = false := by
        unfold rDeed
        simp only [decide_eq_false c1, decide_eq_false c2, cond_true, cond_false, Bool.not_true, Bool.not_false]
      rw [e3]
      exact ⟨rfl, rfl⟩
    · have c2 := hc2
      replace c2 : x.toInt < (iv M 181 0).toInt := mC_ge.2 c2
      refine kIcF (mi := 164) (pc := 9) (len := 3) (t := 16) rfl rfl hc2 ?_
      refine kIconst (mi := 164) (pc := 12) (len := 1) (v := 1) rfl ?_
      refine kGoto (mi := 164) (pc := 13) (len := 3) (t := 17) rfl rfl ?_
      refine kRetI (mi := 164) (pc := 17) (len := 1) rfl (Or.inr ⟨rfl, Or.inr rfl⟩) ?_
      have e3 : rDeed M x = true := by
        unfold rDeed
        simp only [decide_eq_false c1, decide_eq_true c2, cond_true, cond_false, Bool.not_true, Bool.not_false]
      rw [e3]
      exact ⟨rfl, rfl⟩
theorem bDeed_rng {s : List Int32} {M : Mem} {x : Int32} (hT : aTp s M) (h : bDeed M x = true) : 0 ≤ x.toInt ∧ x.toInt < 40 ∧ x.toInt < (iv M 7 2).toInt := by
  have q := bIn_true (show bIn x (iv M 7 2) = true from h)
  have r := iv_ty hT (c := 7) (i := 2) (by decide) (by decide) (by decide) (lo := 0) (hi' := 40) (gs := []) rfl
  omega
def hGd (M : Mem) (p x v : Int32) : Bool := bPer p && (bDeed M x && (bDay v && (!decide (v.toInt < (iv M (10 + x.toInt.toNat) 3).toInt) && !bHah M)))
theorem heardC_ok {s : List Int32} {M : Mem} {p x v : Int32} {d : Nat} (hd : 7 ≤ d) (hT : aTp s M) (hR8 : ∀ e, e < 40 → mSlot M 8 e = some (.ref (10 + e))) (hR9 : ∀ p, p < 10 → mSlot M 99 p = some (.ref (100 + p))) : Ok d 117 0 (lv_args 0 [.ref 2, .int p, .int x, .int v]) [] M (fun r N => ∃ y : Int32, r = some (.int y) ∧ ((hGd M p x v = true ∧ aTp s (hPutC M p x v) ∧ aFr [(94, 0), (95, 0), (96, 0), (93, 3)] M (hPutC M p x v) ∧ colS s (hPutC M p x v) x.toInt.toNat (knO (hPutC M p x v) x.toInt.toNat x.toInt.toNat) N) ∨ (hGd M p x v = false ∧ N = M))) := by
  have hSh := Sh.of hT
  refine kIload (mi := 117) (pc := 0) (len := 1) (i := 1) rfl rfl ?_
  refine kCallP (mi := 117) (pc := 1) (len := 3) (j := 149) rfl (Or.inl rfl) (by decide) (mCall_ok (n := 1) (l := 1) (rk := 2) (own := 10) (kd := 0) (as := [.int p]) (rest := []) (by omega) (by decide) rfl rfl rfl rfl rfl rfl (Or.inl rfl)) (bPer_ok (by omega)) ?_
  rcases Bool.eq_false_or_eq_true (mCond .eq (b2 (bPer p)) 0) with hc1 | hc1
  · have c1 := hc1
    replace c1 : bPer p = false := mB_eq.1 c1
    refine kIfT (mi := 117) (pc := 4) (len := 3) (t := 48) rfl rfl hc1 ?_
    refine kIconst (mi := 117) (pc := 48) (len := 1) (v := (-1)) rfl ?_
    refine kRetI (mi := 117) (pc := 49) (len := 1) rfl (Or.inl rfl) ?_
    refine ⟨_, rfl, Or.inr ⟨?_, rfl⟩⟩
    unfold hGd
    simp only [c1, Bool.true_and, Bool.false_and, Bool.and_true, Bool.and_false, Bool.not_true, Bool.not_false]
  · have c1 := hc1
    replace c1 : bPer p = true := mB_eq.2 c1
    refine kIfF (mi := 117) (pc := 4) (len := 3) (t := 48) rfl rfl hc1 ?_
    refine kAload (mi := 117) (pc := 7) (len := 1) (i := 0) rfl rfl ?_
    refine kIload (mi := 117) (pc := 8) (len := 1) (i := 2) rfl rfl ?_
    refine kCallP (mi := 117) (pc := 9) (len := 3) (j := 154) rfl (Or.inr (Or.inl rfl)) (by decide) (mCall_ok (n := 2) (l := 2) (rk := 2) (own := 10) (kd := 1) (as := [.ref 2, .int x]) (rest := []) (by omega) (by decide) rfl rfl rfl rfl rfl rfl (Or.inr (Or.inl ⟨rfl, (tag_of hT (a := 2) (by decide) (by decide)).trans rfl⟩))) (bDeed_ok (by omega) hT) ?_
    rcases Bool.eq_false_or_eq_true (mCond .eq (b2 (bDeed M x)) 0) with hc2 | hc2
    · have c2 := hc2
      replace c2 : bDeed M x = false := mB_eq.1 c2
      refine kIfT (mi := 117) (pc := 12) (len := 3) (t := 48) rfl rfl hc2 ?_
      refine kIconst (mi := 117) (pc := 48) (len := 1) (v := (-1)) rfl ?_
      refine kRetI (mi := 117) (pc := 49) (len := 1) rfl (Or.inl rfl) ?_
      refine ⟨_, rfl, Or.inr ⟨?_, rfl⟩⟩
      unfold hGd
      simp only [c1, c2, Bool.true_and, Bool.false_and, Bool.and_true, Bool.and_false, Bool.not_true, Bool.not_false]
    · have c2 := hc2
      replace c2 : bDeed M x = true := mB_eq.2 c2
      refine kIfF (mi := 117) (pc := 12) (len := 3) (t := 48) rfl rfl hc2 ?_
      have gx := bDeed_rng hT c2
      refine kIload (mi := 117) (pc := 15) (len := 1) (i := 3) rfl rfl ?_
      refine kCallP (mi := 117) (pc := 16) (len := 3) (j := 151) rfl (Or.inl rfl) (by decide) (mCall_ok (n := 1) (l := 1) (rk := 2) (own := 10) (kd := 0) (as := [.int v]) (rest := []) (by omega) (by decide) rfl rfl rfl rfl rfl rfl (Or.inl rfl)) (bDay_ok (by omega)) ?_
      rcases Bool.eq_false_or_eq_true (mCond .eq (b2 (bDay v)) 0) with hc3 | hc3
      · have c3 := hc3
        replace c3 : bDay v = false := mB_eq.1 c3
        refine kIfT (mi := 117) (pc := 19) (len := 3) (t := 48) rfl rfl hc3 ?_
        refine kIconst (mi := 117) (pc := 48) (len := 1) (v := (-1)) rfl ?_
        refine kRetI (mi := 117) (pc := 49) (len := 1) rfl (Or.inl rfl) ?_
        refine ⟨_, rfl, Or.inr ⟨?_, rfl⟩⟩
        unfold hGd
        simp only [c1, c2, c3, Bool.true_and, Bool.false_and, Bool.and_true, Bool.and_false, Bool.not_true, Bool.not_false]
      · have c3 := hc3
        replace c3 : bDay v = true := mB_eq.2 c3
        refine kIfF (mi := 117) (pc := 19) (len := 3) (t := 48) rfl rfl hc3 ?_
        refine kIload (mi := 117) (pc := 22) (len := 1) (i := 3) rfl rfl ?_
        refine kAload (mi := 117) (pc := 23) (len := 1) (i := 0) rfl rfl ?_
        refine kGetf (mi := 117) (pc := 24) (len := 3) (j := 1001) rfl (hT.hd (c := 2) (by decide) (by decide)) (by decide) (hT.ref (c := 2) (i := 1) (g := 7) (by decide) (by decide) (by decide) (lo := 0) (hi' := 0) rfl rfl) ?_
        refine kGetf (mi := 117) (pc := 27) (len := 3) (j := 600) rfl (hT.hd (c := 7) (by decide) (by decide)) (by decide) (hT.ref (c := 7) (i := 0) (g := 8) (by decide) (by decide) (by decide) (lo := 0) (hi' := 0) rfl rfl) ?_
        refine kIload (mi := 117) (pc := 30) (len := 1) (i := 2) rfl rfl ?_
        have b4 : x.toInt.toNat < 40 := by omega
        refine kAaldT (mi := 117) (pc := 31) (len := 1) (n := 40) (b := 10 + x.toInt.toNat) rfl (hT.hd (c := 8) (by decide) (by decide)) rfl (by omega) (by show x.toInt < 40; omega) (hR8 _ b4) ?_
        refine kGetf (mi := 117) (pc := 32) (len := 3) (j := 103) rfl (deed_hd hT b4) (by decide) (deed_sl hT b4 (f := 3) (by decide) rfl) ?_
        rcases Bool.eq_false_or_eq_true (mCond .lt v (iv M (10 + x.toInt.toNat) 3)) with hc5 | hc5
        · have c5 := hc5
          replace c5 : v.toInt < (iv M (10 + x.toInt.toNat) 3).toInt := mC_lt.1 c5
          refine kIcT (mi := 117) (pc := 35) (len := 3) (t := 48) rfl rfl hc5 ?_
          refine kIconst (mi := 117) (pc := 48) (len := 1) (v := (-1)) rfl ?_
          refine kRetI (mi := 117) (pc := 49) (len := 1) rfl (Or.inl rfl) ?_
          refine ⟨_, rfl, Or.inr ⟨?_, rfl⟩⟩
          unfold hGd
          simp only [c1, c2, c3, decide_eq_true c5, Bool.true_and, Bool.false_and, Bool.and_true, Bool.and_false, Bool.not_true, Bool.not_false]
        · have c5 := hc5
          replace c5 : ¬ v.toInt < (iv M (10 + x.toInt.toNat) 3).toInt := mC_lt.2 c5
          refine kIcF (mi := 117) (pc := 35) (len := 3) (t := 48) rfl rfl hc5 ?_
          refine kAload (mi := 117) (pc := 38) (len := 1) (i := 0) rfl rfl ?_
          refine kGetf (mi := 117) (pc := 39) (len := 3) (j := 1003) rfl (hT.hd (c := 2) (by decide) (by decide)) (by decide) (hT.ref (c := 2) (i := 3) (g := 93) (by decide) (by decide) (by decide) (lo := 0) (hi' := 0) rfl rfl) ?_
          refine kCallP (mi := 117) (pc := 42) (len := 3) (j := 47) rfl (Or.inr (Or.inl rfl)) (by decide) (mCall_ok (n := 1) (l := 1) (rk := 2) (own := 3) (kd := 1) (as := [.ref 93]) (rest := []) (by omega) (by decide) rfl rfl rfl rfl rfl rfl (Or.inr (Or.inl ⟨rfl, (tag_of hT (a := 93) (by decide) (by decide)).trans rfl⟩))) (bHah_ok (by omega) hT) ?_
          rcases Bool.eq_false_or_eq_true (mCond .eq (b2 (bHah M)) 0) with hc6 | hc6
          · have c6 := hc6
            replace c6 : bHah M = false := mB_eq.1 c6
            refine kIfT (mi := 117) (pc := 45) (len := 3) (t := 50) rfl rfl hc6 ?_
            refine kAload (mi := 117) (pc := 50) (len := 1) (i := 0) rfl rfl ?_
            refine kGetf (mi := 117) (pc := 51) (len := 3) (j := 1003) rfl (hT.hd (c := 2) (by decide) (by decide)) (by decide) (hT.ref (c := 2) (i := 3) (g := 93) (by decide) (by decide) (by decide) (lo := 0) (hi' := 0) rfl rfl) ?_
            refine kIload (mi := 117) (pc := 54) (len := 1) (i := 1) rfl rfl ?_
            refine kIload (mi := 117) (pc := 55) (len := 1) (i := 2) rfl rfl ?_
            refine kIload (mi := 117) (pc := 56) (len := 1) (i := 3) rfl rfl ?_
            have gp := bPer_true c1
            have gv := bDay_true c3
            refine Ok.call (mi := 117) (pc := 57) (len := 3) (j := 49) rfl (Or.inr (Or.inl rfl)) (by decide) (mCall_ok (n := 4) (l := 4) (rk := 0) (own := 3) (kd := 1) (as := [.ref 93, .int p, .int x, .int v]) (rest := []) (by omega) (by decide) rfl rfl rfl rfl rfl rfl (Or.inr (Or.inl ⟨rfl, (tag_of hT (a := 93) (by decide) (by decide)).trans rfl⟩))) ?_
            refine (addH_ok (p := p) (x := x) (v := v) (by omega) hT c6 gp.1 gp.2 gx.1 gx.2.1 gv.1 gv.2).mono ?_
            intro r7 K8 hr7
            obtain ⟨er7, hTK8, fr7, frr7⟩ := hr7
            subst er7
            subst fr7
            have hR8H : ∀ e, e < 40 → mSlot (hPutC M p x v) 8 e = some (.ref (10 + e)) := fun e he => by unfold hPutC; rw [mSlot_put_ne (Or.inl (by decide)), mSlot_put_ne (Or.inl (by decide)), mSlot_put_ne (Or.inl (by decide)), mSlot_put_ne (Or.inl (by decide))]; exact hR8 e he
            have hR9H : ∀ p_, p_ < 10 → mSlot (hPutC M p x v) 99 p_ = some (.ref (100 + p_)) := fun e he => by unfold hPutC; rw [mSlot_put_ne (Or.inl (by decide)), mSlot_put_ne (Or.inl (by decide)), mSlot_put_ne (Or.inl (by decide)), mSlot_put_ne (Or.inl (by decide))]; exact hR9 e he
            refine kAload (mi := 117) (pc := 60) (len := 1) (i := 0) rfl rfl ?_
            refine kGetf (mi := 117) (pc := 61) (len := 3) (j := 1003) rfl (hTK8.hd (c := 2) (by decide) (by decide)) (by decide) (hTK8.ref (c := 2) (i := 3) (g := 93) (by decide) (by decide) (by decide) (lo := 0) (hi' := 0) rfl rfl) ?_
            refine kIload (mi := 117) (pc := 64) (len := 1) (i := 2) rfl rfl ?_
            refine kAload (mi := 117) (pc := 65) (len := 1) (i := 0) rfl rfl ?_
            refine kGetf (mi := 117) (pc := 66) (len := 3) (j := 1001) rfl (hTK8.hd (c := 2) (by decide) (by decide)) (by decide) (hTK8.ref (c := 2) (i := 1) (g := 7) (by decide) (by decide) (by decide) (lo := 0) (hi' := 0) rfl rfl) ?_
            refine kGetf (mi := 117) (pc := 69) (len := 3) (j := 600) rfl (hTK8.hd (c := 7) (by decide) (by decide)) (by decide) (hTK8.ref (c := 7) (i := 0) (g := 8) (by decide) (by decide) (by decide) (lo := 0) (hi' := 0) rfl rfl) ?_
            refine kIload (mi := 117) (pc := 72) (len := 1) (i := 2) rfl rfl ?_
            have b9 : x.toInt.toNat < 40 := by omega
            refine kAaldT (mi := 117) (pc := 73) (len := 1) (n := 40) (b := 10 + x.toInt.toNat) rfl (hTK8.hd (c := 8) (by decide) (by decide)) rfl (by omega) (by show x.toInt < 40; omega) (hR8H _ b9) ?_
            refine Ok.call (mi := 117) (pc := 74) (len := 3) (j := 52) rfl (Or.inr (Or.inl rfl)) (by decide) (mCall_ok (n := 3) (l := 4) (rk := 0) (own := 3) (kd := 1) (as := [.ref 93, .int x, .ref (10 + x.toInt.toNat)]) (rest := []) (by omega) (by decide) rfl rfl rfl rfl rfl rfl (Or.inr (Or.inl ⟨rfl, (tag_of hTK8 (a := 93) (by decide) (by decide)).trans rfl⟩))) ?_
            refine (spread_ok (x := x) (by omega) hTK8 hR9H (show x.toInt.toNat < 40 by omega) gx.1 gx.2.1 rfl).mono ?_
            intro r10 K11 hr10
            obtain ⟨er10, hCK11⟩ := hr10
            subst er10
            refine kAload (mi := 117) (pc := 77) (len := 1) (i := 0) rfl rfl ?_
            refine kGetf (mi := 117) (pc := 78) (len := 3) (j := 1003) rfl (hCK11.1.hd (c := 2) (by decide) (by decide)) (by decide) (hCK11.1.ref (c := 2) (i := 3) (g := 93) (by decide) (by decide) (by decide) (lo := 0) (hi' := 0) rfl rfl) ?_
            refine kGetf (mi := 117) (pc := 81) (len := 3) (j := 303) rfl (hCK11.1.hd (c := 93) (by decide) (by decide)) (by decide) ((Sh.of hCK11.1).slI (c := 93) (i := 3) (by decide) (by decide) (by decide) rfl) ?_
            refine kRetI (mi := 117) (pc := 84) (len := 1) rfl (Or.inl rfl) ?_
            refine ⟨_, rfl, Or.inl ⟨?_, hTK8, frr7, ?_⟩⟩
            · unfold hGd
              simp only [c1, c2, c3, decide_eq_false c5, c6, Bool.true_and, Bool.false_and, Bool.and_true, Bool.and_false, Bool.not_true, Bool.not_false]
            · exact hCK11
          · have c6 := hc6
            replace c6 : bHah M = true := mB_eq.2 c6
            refine kIfF (mi := 117) (pc := 45) (len := 3) (t := 50) rfl rfl hc6 ?_
            refine kIconst (mi := 117) (pc := 48) (len := 1) (v := (-1)) rfl ?_
            refine kRetI (mi := 117) (pc := 49) (len := 1) rfl (Or.inl rfl) ?_
            refine ⟨_, rfl, Or.inr ⟨?_, rfl⟩⟩
            unfold hGd
            simp only [c1, c2, c3, decide_eq_false c5, c6, Bool.true_and, Bool.false_and, Bool.and_true, Bool.and_false, Bool.not_true, Bool.not_false]
def hGr (M : Mem) (p x v : Int32) : Bool := rPer p && (rDeed M x && (rDay v && (!decide (v.toInt < (iv M 188 x.toInt.toNat).toInt) && !decide ((iv M 181 15).toInt = 60))))
def hPutR (M : Mem) (p x v : Int32) : Mem := mPut (mPut (mPut (mPut M 195 (iv M 181 15).toInt.toNat (.int p)) 196 (iv M 181 15).toInt.toNat (.int x)) 197 (iv M 181 15).toInt.toNat (.int v)) 181 15 (.int (iv M 181 15 + 1))
theorem rDeed_rng {s : List Int32} {M : Mem} {x : Int32} (hT : aTp s M) (h : rDeed M x = true) : 0 ≤ x.toInt ∧ x.toInt < 40 ∧ x.toInt < (iv M 181 0).toInt := by
  have q := bIn_true (show bIn x (iv M 181 0) = true from h)
  have r := iv_ty hT (c := 181) (i := 0) (by decide) (by decide) (by decide) (lo := 0) (hi' := 40) (gs := []) rfl
  omega
theorem rPer_rng {x : Int32} (h : rPer x = true) : 0 ≤ x.toInt ∧ x.toInt < 10 := bPer_true h
theorem rDay_rng {x : Int32} (h : rDay x = true) : 0 ≤ x.toInt ∧ x.toInt < 1000 := bDay_true ((rDay_eq x).symm.trans h)
theorem heardR_ok {s : List Int32} {M : Mem} {p x v : Int32} {d : Nat} (hd : 3 ≤ d) (hT : aTp s M) : Ok d 182 0 (lv_args 0 [.ref 181, .int p, .int x, .int v]) [] M (fun r N => ∃ y : Int32, r = some (.int y) ∧ aTp s N ∧ ((hGr M p x v = true ∧ N = hPutR M p x v) ∨ (hGr M p x v = false ∧ N = M))) := by
  have hSh := Sh.of hT
  have rH := iv_ty hT (c := 181) (i := 15) (by decide) (by decide) (by decide) (lo := 0) (hi' := 60) (gs := []) rfl
  refine kIload (mi := 182) (pc := 0) (len := 1) (i := 1) rfl rfl ?_
  refine kCallP (mi := 182) (pc := 1) (len := 3) (j := 162) rfl (Or.inl rfl) (by decide) (mCall_ok (n := 1) (l := 1) (rk := 2) (own := 11) (kd := 0) (as := [.int p]) (rest := []) (by omega) (by decide) rfl rfl rfl rfl rfl rfl (Or.inl rfl)) (rPer_ok (by omega)) ?_
  rcases Bool.eq_false_or_eq_true (mCond .eq (b2 (rPer p)) 0) with hc1 | hc1
  · have c1 := hc1
    replace c1 : rPer p = false := mB_eq.1 c1
    refine kIfT (mi := 182) (pc := 4) (len := 3) (t := 41) rfl rfl hc1 ?_
    refine kIconst (mi := 182) (pc := 41) (len := 1) (v := (-1)) rfl ?_
    refine kRetI (mi := 182) (pc := 42) (len := 1) rfl (Or.inl rfl) ?_
    refine ⟨_, rfl, hT, Or.inr ⟨?_, rfl⟩⟩
    unfold hGr
    simp only [c1, Bool.true_and, Bool.false_and, Bool.and_true, Bool.and_false, Bool.not_true, Bool.not_false]
  · have c1 := hc1
    replace c1 : rPer p = true := mB_eq.2 c1
    refine kIfF (mi := 182) (pc := 4) (len := 3) (t := 41) rfl rfl hc1 ?_
    refine kAload (mi := 182) (pc := 7) (len := 1) (i := 0) rfl rfl ?_
    refine kIload (mi := 182) (pc := 8) (len := 1) (i := 2) rfl rfl ?_
    refine kCallP (mi := 182) (pc := 9) (len := 3) (j := 164) rfl (Or.inr (Or.inl rfl)) (by decide) (mCall_ok (n := 2) (l := 2) (rk := 2) (own := 11) (kd := 1) (as := [.ref 181, .int x]) (rest := []) (by omega) (by decide) rfl rfl rfl rfl rfl rfl (Or.inr (Or.inl ⟨rfl, (tag_of hT (a := 181) (by decide) (by decide)).trans rfl⟩))) (rDeed_ok (by omega) hT) ?_
    rcases Bool.eq_false_or_eq_true (mCond .eq (b2 (rDeed M x)) 0) with hc2 | hc2
    · have c2 := hc2
      replace c2 : rDeed M x = false := mB_eq.1 c2
      refine kIfT (mi := 182) (pc := 12) (len := 3) (t := 41) rfl rfl hc2 ?_
      refine kIconst (mi := 182) (pc := 41) (len := 1) (v := (-1)) rfl ?_
      refine kRetI (mi := 182) (pc := 42) (len := 1) rfl (Or.inl rfl) ?_
      refine ⟨_, rfl, hT, Or.inr ⟨?_, rfl⟩⟩
      unfold hGr
      simp only [c1, c2, Bool.true_and, Bool.false_and, Bool.and_true, Bool.and_false, Bool.not_true, Bool.not_false]
    · have c2 := hc2
      replace c2 : rDeed M x = true := mB_eq.2 c2
      refine kIfF (mi := 182) (pc := 12) (len := 3) (t := 41) rfl rfl hc2 ?_
      have gx := rDeed_rng hT c2
      refine kIload (mi := 182) (pc := 15) (len := 1) (i := 3) rfl rfl ?_
      refine kCallP (mi := 182) (pc := 16) (len := 3) (j := 161) rfl (Or.inl rfl) (by decide) (mCall_ok (n := 1) (l := 1) (rk := 2) (own := 11) (kd := 0) (as := [.int v]) (rest := []) (by omega) (by decide) rfl rfl rfl rfl rfl rfl (Or.inl rfl)) (rDay_ok (by omega)) ?_
      rcases Bool.eq_false_or_eq_true (mCond .eq (b2 (rDay v)) 0) with hc3 | hc3
      · have c3 := hc3
        replace c3 : rDay v = false := mB_eq.1 c3
        refine kIfT (mi := 182) (pc := 19) (len := 3) (t := 41) rfl rfl hc3 ?_
        refine kIconst (mi := 182) (pc := 41) (len := 1) (v := (-1)) rfl ?_
        refine kRetI (mi := 182) (pc := 42) (len := 1) rfl (Or.inl rfl) ?_
        refine ⟨_, rfl, hT, Or.inr ⟨?_, rfl⟩⟩
        unfold hGr
        simp only [c1, c2, c3, Bool.true_and, Bool.false_and, Bool.and_true, Bool.and_false, Bool.not_true, Bool.not_false]
      · have c3 := hc3
        replace c3 : rDay v = true := mB_eq.2 c3
        refine kIfF (mi := 182) (pc := 19) (len := 3) (t := 41) rfl rfl hc3 ?_
        refine kIload (mi := 182) (pc := 22) (len := 1) (i := 3) rfl rfl ?_
        refine kAload (mi := 182) (pc := 23) (len := 1) (i := 0) rfl rfl ?_
        refine kGetf (mi := 182) (pc := 24) (len := 3) (j := 1108) rfl (hT.hd (c := 181) (by decide) (by decide)) (by decide) (hT.ref (c := 181) (i := 8) (g := 188) (by decide) (by decide) (by decide) (lo := 0) (hi' := 0) rfl rfl) ?_
        refine kIload (mi := 182) (pc := 27) (len := 1) (i := 2) rfl rfl ?_
        refine kIald (mi := 182) (pc := 28) (len := 1) (n := 40) rfl (hT.hd (c := 188) (by decide) (by decide)) (by show (0 : Int) ≤ x.toInt; omega) (by show x.toInt < 40; omega) ((Sh.of hT).slI (c := 188) (i := x.toInt.toNat) (by decide) (by decide) (by show _ < 40; omega) rfl) ?_
        rcases Bool.eq_false_or_eq_true (mCond .lt v (iv M 188 x.toInt.toNat)) with hc4 | hc4
        · have c4 := hc4
          replace c4 : v.toInt < (iv M 188 x.toInt.toNat).toInt := mC_lt.1 c4
          refine kIcT (mi := 182) (pc := 29) (len := 3) (t := 41) rfl rfl hc4 ?_
          refine kIconst (mi := 182) (pc := 41) (len := 1) (v := (-1)) rfl ?_
          refine kRetI (mi := 182) (pc := 42) (len := 1) rfl (Or.inl rfl) ?_
          refine ⟨_, rfl, hT, Or.inr ⟨?_, rfl⟩⟩
          unfold hGr
          simp only [c1, c2, c3, decide_eq_true c4, Bool.true_and, Bool.false_and, Bool.and_true, Bool.and_false, Bool.not_true, Bool.not_false]
        · have c4 := hc4
          replace c4 : ¬ v.toInt < (iv M 188 x.toInt.toNat).toInt := mC_lt.2 c4
          refine kIcF (mi := 182) (pc := 29) (len := 3) (t := 41) rfl rfl hc4 ?_
          refine kAload (mi := 182) (pc := 32) (len := 1) (i := 0) rfl rfl ?_
          refine kGetf (mi := 182) (pc := 33) (len := 3) (j := 1115) rfl (hT.hd (c := 181) (by decide) (by decide)) (by decide) ((Sh.of hT).slI (c := 181) (i := 15) (by decide) (by decide) (by decide) rfl) ?_
          refine kIconst (mi := 182) (pc := 36) (len := 2) (v := 60) rfl ?_
          rcases Bool.eq_false_or_eq_true (mCond .ne (iv M 181 15) (60 : Int32)) with hc5 | hc5
          · have c5 := hc5
            replace c5 : ¬ (iv M 181 15).toInt = 60 := mC_ne.1 c5
            refine kIcT (mi := 182) (pc := 38) (len := 3) (t := 43) rfl rfl hc5 ?_
            refine kAload (mi := 182) (pc := 43) (len := 1) (i := 0) rfl rfl ?_
            refine kGetf (mi := 182) (pc := 44) (len := 3) (j := 1117) rfl (hT.hd (c := 181) (by decide) (by decide)) (by decide) (hT.ref (c := 181) (i := 17) (g := 195) (by decide) (by decide) (by decide) (lo := 0) (hi' := 0) rfl rfl) ?_
            refine kAload (mi := 182) (pc := 47) (len := 1) (i := 0) rfl rfl ?_
            refine kGetf (mi := 182) (pc := 48) (len := 3) (j := 1115) rfl (hT.hd (c := 181) (by decide) (by decide)) (by decide) ((Sh.of hT).slI (c := 181) (i := 15) (by decide) (by decide) (by decide) rfl) ?_
            refine kIload (mi := 182) (pc := 51) (len := 1) (i := 1) rfl rfl ?_
            have gp := rPer_rng c1
            have gv := rDay_rng c3
            have h60 : (iv M 181 15).toInt < 60 := by have := c5; omega
            have e1 : (iv M 181 15 + 1).toInt = (iv M 181 15).toInt + 1 := i32_inc rH.1 (by omega)
            obtain ⟨N6, eN6⟩ : ∃ X_, X_ = mPut M 195 (iv M 181 15).toInt.toNat (.int p) := ⟨_, rfl⟩
            have hT7 : aTp s N6 := by rw [eN6]; exact hT.put (a := 195) (i := (iv M 181 15).toInt.toNat) (v := .int p) (by decide) (by decide) (show aTy (tTy (tGrp 195) _) _ from ⟨p, rfl, by show (0 : Int) ≤ _; omega, by show _ ≤ (9 : Int); omega⟩)
            refine kIast (mi := 182) (pc := 52) (len := 1) (n := 60) rfl (hT.hd (c := 195) (by decide) (by decide)) (by decide) (by show (0 : Int) ≤ (iv M 181 15).toInt; omega) (by show (iv M 181 15).toInt < 60; omega) ?_
            refine Ok_meq eN6 ?_
            have hSh_N6 := Sh.of hT7
            have gN6 : iv N6 181 15 = iv M 181 15 := by rw [eN6, iv_put_ne (Or.inl (by decide))]
            refine kAload (mi := 182) (pc := 53) (len := 1) (i := 0) rfl rfl ?_
            refine kGetf (mi := 182) (pc := 54) (len := 3) (j := 1118) rfl (hT7.hd (c := 181) (by decide) (by decide)) (by decide) (hT7.ref (c := 181) (i := 18) (g := 196) (by decide) (by decide) (by decide) (lo := 0) (hi' := 0) rfl rfl) ?_
            refine kAload (mi := 182) (pc := 57) (len := 1) (i := 0) rfl rfl ?_
            refine kGetf (mi := 182) (pc := 58) (len := 3) (j := 1115) rfl (hT7.hd (c := 181) (by decide) (by decide)) (by decide) ((Sh.of hT7).slI (c := 181) (i := 15) (by decide) (by decide) (by decide) rfl) ?_
            refine kIload (mi := 182) (pc := 61) (len := 1) (i := 2) rfl rfl ?_
            have rN6 : 0 ≤ (iv N6 181 15).toInt ∧ (iv N6 181 15).toInt < 60 := by rw [gN6]; omega
            obtain ⟨N8, eN8⟩ : ∃ X_, X_ = mPut N6 196 (iv N6 181 15).toInt.toNat (.int x) := ⟨_, rfl⟩
            have hT9 : aTp s N8 := by rw [eN8]; exact hT7.put (a := 196) (i := (iv N6 181 15).toInt.toNat) (v := .int x) (by decide) (by decide) (show aTy (tTy (tGrp 196) _) _ from ⟨x, rfl, by show (0 : Int) ≤ _; omega, by show _ ≤ (39 : Int); omega⟩)
            refine kIast (mi := 182) (pc := 62) (len := 1) (n := 60) rfl (hT7.hd (c := 196) (by decide) (by decide)) (by decide) (by show (0 : Int) ≤ (iv N6 181 15).toInt; omega) (by show (iv N6 181 15).toInt < 60; omega) ?_
            refine Ok_meq eN8 ?_
            have hSh_N8 := Sh.of hT9
            have gN8 : iv N8 181 15 = iv M 181 15 := by rw [eN8, iv_put_ne (Or.inl (by decide))]; exact gN6
            refine kAload (mi := 182) (pc := 63) (len := 1) (i := 0) rfl rfl ?_
            refine kGetf (mi := 182) (pc := 64) (len := 3) (j := 1119) rfl (hT9.hd (c := 181) (by decide) (by decide)) (by decide) (hT9.ref (c := 181) (i := 19) (g := 197) (by decide) (by decide) (by decide) (lo := 0) (hi' := 0) rfl rfl) ?_
            refine kAload (mi := 182) (pc := 67) (len := 1) (i := 0) rfl rfl ?_
            refine kGetf (mi := 182) (pc := 68) (len := 3) (j := 1115) rfl (hT9.hd (c := 181) (by decide) (by decide)) (by decide) ((Sh.of hT9).slI (c := 181) (i := 15) (by decide) (by decide) (by decide) rfl) ?_
            refine kIload (mi := 182) (pc := 71) (len := 1) (i := 3) rfl rfl ?_
            have rN8 : 0 ≤ (iv N8 181 15).toInt ∧ (iv N8 181 15).toInt < 60 := by rw [gN8]; omega
            obtain ⟨N10, eN10⟩ : ∃ X_, X_ = mPut N8 197 (iv N8 181 15).toInt.toNat (.int v) := ⟨_, rfl⟩
            have hT11 : aTp s N10 := by rw [eN10]; exact hT9.put (a := 197) (i := (iv N8 181 15).toInt.toNat) (v := .int v) (by decide) (by decide) (show aTy (tTy (tGrp 197) _) _ from ⟨v, rfl, by show (0 : Int) ≤ _; omega, by show _ ≤ (999 : Int); omega⟩)
            refine kIast (mi := 182) (pc := 72) (len := 1) (n := 60) rfl (hT9.hd (c := 197) (by decide) (by decide)) (by decide) (by show (0 : Int) ≤ (iv N8 181 15).toInt; omega) (by show (iv N8 181 15).toInt < 60; omega) ?_
            refine Ok_meq eN10 ?_
            have hSh_N10 := Sh.of hT11
            have gN10 : iv N10 181 15 = iv M 181 15 := by rw [eN10, iv_put_ne (Or.inl (by decide))]; exact gN8
            refine kAload (mi := 182) (pc := 73) (len := 1) (i := 0) rfl rfl ?_
            refine kAload (mi := 182) (pc := 74) (len := 1) (i := 0) rfl rfl ?_
            refine kGetf (mi := 182) (pc := 75) (len := 3) (j := 1115) rfl (hT11.hd (c := 181) (by decide) (by decide)) (by decide) ((Sh.of hT11).slI (c := 181) (i := 15) (by decide) (by decide) (by decide) rfl) ?_
            refine kIconst (mi := 182) (pc := 78) (len := 1) (v := 1) rfl ?_
            refine kAdd (mi := 182) (pc := 79) (len := 1) rfl ?_
            have rN10 : 0 ≤ (iv N10 181 15).toInt ∧ (iv N10 181 15).toInt < 60 := by rw [gN10]; omega
            have qN10 : (iv N10 181 15 + 1).toInt = (iv M 181 15).toInt + 1 := by rw [gN10]; exact e1
            obtain ⟨N12, eN12⟩ : ∃ X_, X_ = mPut N10 181 15 (.int ((iv N10 181 15) + (1 : Int32))) := ⟨_, rfl⟩
            have hT13 : aTp s N12 := by rw [eN12]; exact hT11.put (a := 181) (i := 15) (v := .int ((iv N10 181 15) + (1 : Int32))) (by decide) (by decide) (show aTy (tTy (tGrp 181) _) _ from ⟨((iv N10 181 15) + (1 : Int32)), rfl, by show (0 : Int) ≤ _; omega, by show _ ≤ (60 : Int); omega⟩)
            refine kPutf (mi := 182) (pc := 80) (len := 3) (j := 1115) (v := .int ((iv N10 181 15) + (1 : Int32))) rfl (hT11.hd (c := 181) (by decide) (by decide)) (by decide) (by decide) rfl ?_
            show Ok d 182 83 _ _ (mPut N10 181 15 (.int ((iv N10 181 15) + (1 : Int32)))) _
            refine Ok_meq eN12 ?_
            have hSh_N12 := Sh.of hT13
            refine kAload (mi := 182) (pc := 83) (len := 1) (i := 0) rfl rfl ?_
            refine kGetf (mi := 182) (pc := 84) (len := 3) (j := 1115) rfl (hT13.hd (c := 181) (by decide) (by decide)) (by decide) ((Sh.of hT13).slI (c := 181) (i := 15) (by decide) (by decide) (by decide) rfl) ?_
            refine kRetI (mi := 182) (pc := 87) (len := 1) rfl (Or.inl rfl) ?_
            refine ⟨_, rfl, hT13, Or.inl ⟨?_, ?_⟩⟩
            · unfold hGr
              simp only [c1, c2, c3, decide_eq_false c4, decide_eq_false c5, Bool.true_and, Bool.false_and, Bool.and_true, Bool.and_false, Bool.not_true, Bool.not_false]
            · unfold hPutR
              rw [eN12, gN10, eN10, gN8, eN8, gN6, eN6]
          · have c5 := hc5
            replace c5 : (iv M 181 15).toInt = 60 := mC_ne.2 c5
            refine kIcF (mi := 182) (pc := 38) (len := 3) (t := 43) rfl rfl hc5 ?_
            refine kIconst (mi := 182) (pc := 41) (len := 1) (v := (-1)) rfl ?_
            refine kRetI (mi := 182) (pc := 42) (len := 1) rfl (Or.inl rfl) ?_
            refine ⟨_, rfl, hT, Or.inr ⟨?_, rfl⟩⟩
            unfold hGr
            simp only [c1, c2, c3, decide_eq_false c4, decide_eq_true c5, Bool.true_and, Bool.false_and, Bool.and_true, Bool.and_false, Bool.not_true, Bool.not_false]
def bcW (x : Int32) : Int32 := ((((((((x - ((ushr x (1 : Int32)) &&& (1431655765 : Int32))) &&& (858993459 : Int32)) + ((ushr (x - ((ushr x (1 : Int32)) &&& (1431655765 : Int32))) (2 : Int32)) &&& (858993459 : Int32))) + (ushr (((x - ((ushr x (1 : Int32)) &&& (1431655765 : Int32))) &&& (858993459 : Int32)) + ((ushr (x - ((ushr x (1 : Int32)) &&& (1431655765 : Int32))) (2 : Int32)) &&& (858993459 : Int32))) (4 : Int32))) &&& (252645135 : Int32)) + (ushr (((((x - ((ushr x (1 : Int32)) &&& (1431655765 : Int32))) &&& (858993459 : Int32)) + ((ushr (x - ((ushr x (1 : Int32)) &&& (1431655765 : Int32))) (2 : Int32)) &&& (858993459 : Int32))) + (ushr (((x - ((ushr x (1 : Int32)) &&& (1431655765 : Int32))) &&& (858993459 : Int32)) + ((ushr (x - ((ushr x (1 : Int32)) &&& (1431655765 : Int32))) (2 : Int32)) &&& (858993459 : Int32))) (4 : Int32))) &&& (252645135 : Int32)) (8 : Int32))) + (ushr ((((((x - ((ushr x (1 : Int32)) &&& (1431655765 : Int32))) &&& (858993459 : Int32)) + ((ushr (x - ((ushr x (1 : Int32)) &&& (1431655765 : Int32))) (2 : Int32)) &&& (858993459 : Int32))) + (ushr (((x - ((ushr x (1 : Int32)) &&& (1431655765 : Int32))) &&& (858993459 : Int32)) + ((ushr (x - ((ushr x (1 : Int32)) &&& (1431655765 : Int32))) (2 : Int32)) &&& (858993459 : Int32))) (4 : Int32))) &&& (252645135 : Int32)) + (ushr (((((x - ((ushr x (1 : Int32)) &&& (1431655765 : Int32))) &&& (858993459 : Int32)) + ((ushr (x - ((ushr x (1 : Int32)) &&& (1431655765 : Int32))) (2 : Int32)) &&& (858993459 : Int32))) + (ushr (((x - ((ushr x (1 : Int32)) &&& (1431655765 : Int32))) &&& (858993459 : Int32)) + ((ushr (x - ((ushr x (1 : Int32)) &&& (1431655765 : Int32))) (2 : Int32)) &&& (858993459 : Int32))) (4 : Int32))) &&& (252645135 : Int32)) (8 : Int32))) (16 : Int32))) &&& (63 : Int32))
theorem bcw_ok {x : Int32} {d : Nat} {s : List Int32} {M : Mem} (hT : aTp s M) : Ok d 279 0 (lv_args 0 [.int x]) [] M (fun r M' => r = some (.int (bcW x)) ∧ M' = M) := by
  refine kIload (mi := 279) (pc := 0) (len := 1) (i := 0) rfl rfl ?_
  refine kIload (mi := 279) (pc := 1) (len := 1) (i := 0) rfl rfl ?_
  refine kIconst (mi := 279) (pc := 2) (len := 1) (v := 1) rfl ?_
  refine kUshrK (mi := 279) (pc := 3) (len := 1) rfl ?_
  refine kIconst (mi := 279) (pc := 4) (len := 3) (v := 1431655765) rfl ?_
  refine kAnd (mi := 279) (pc := 7) (len := 1) rfl ?_
  refine kSub (mi := 279) (pc := 8) (len := 1) rfl ?_
  refine kIstore (mi := 279) (pc := 9) (len := 1) (i := 0) rfl (by decide) ?_
  refine kIload (mi := 279) (pc := 10) (len := 1) (i := 0) rfl rfl ?_
  refine kIconst (mi := 279) (pc := 11) (len := 3) (v := 858993459) rfl ?_
  refine kAnd (mi := 279) (pc := 14) (len := 1) rfl ?_
  refine kIload (mi := 279) (pc := 15) (len := 1) (i := 0) rfl rfl ?_
  refine kIconst (mi := 279) (pc := 16) (len := 1) (v := 2) rfl ?_
  refine kUshrK (mi := 279) (pc := 17) (len := 1) rfl ?_
  refine kIconst (mi := 279) (pc := 18) (len := 3) (v := 858993459) rfl ?_
  refine kAnd (mi := 279) (pc := 21) (len := 1) rfl ?_
  refine kAdd (mi := 279) (pc := 22) (len := 1) rfl ?_
  refine kIstore (mi := 279) (pc := 23) (len := 1) (i := 0) rfl (by decide) ?_
  refine kIload (mi := 279) (pc := 24) (len := 1) (i := 0) rfl rfl ?_
  refine kIload (mi := 279) (pc := 25) (len := 1) (i := 0) rfl rfl ?_
  refine kIconst (mi := 279) (pc := 26) (len := 1) (v := 4) rfl ?_
  refine kUshrK (mi := 279) (pc := 27) (len := 1) rfl ?_
  refine kAdd (mi := 279) (pc := 28) (len := 1) rfl ?_
  refine kIconst (mi := 279) (pc := 29) (len := 3) (v := 252645135) rfl ?_
  refine kAnd (mi := 279) (pc := 32) (len := 1) rfl ?_
  refine kIstore (mi := 279) (pc := 33) (len := 1) (i := 0) rfl (by decide) ?_
  refine kIload (mi := 279) (pc := 34) (len := 1) (i := 0) rfl rfl ?_
  refine kIload (mi := 279) (pc := 35) (len := 1) (i := 0) rfl rfl ?_
  refine kIconst (mi := 279) (pc := 36) (len := 2) (v := 8) rfl ?_
  refine kUshrK (mi := 279) (pc := 38) (len := 1) rfl ?_
  refine kAdd (mi := 279) (pc := 39) (len := 1) rfl ?_
  refine kIstore (mi := 279) (pc := 40) (len := 1) (i := 0) rfl (by decide) ?_
  refine kIload (mi := 279) (pc := 41) (len := 1) (i := 0) rfl rfl ?_
  refine kIload (mi := 279) (pc := 42) (len := 1) (i := 0) rfl rfl ?_
  refine kIconst (mi := 279) (pc := 43) (len := 2) (v := 16) rfl ?_
  refine kUshrK (mi := 279) (pc := 45) (len := 1) rfl ?_
  refine kAdd (mi := 279) (pc := 46) (len := 1) rfl ?_
  refine kIstore (mi := 279) (pc := 47) (len := 1) (i := 0) rfl (by decide) ?_
  refine kIload (mi := 279) (pc := 48) (len := 1) (i := 0) rfl rfl ?_
  refine kIconst (mi := 279) (pc := 49) (len := 2) (v := 63) rfl ?_
  refine kAnd (mi := 279) (pc := 51) (len := 1) rfl ?_
  refine kRetI (mi := 279) (pc := 52) (len := 1) rfl (Or.inl rfl) ?_
  exact ⟨rfl, rfl⟩
def wGd (M : Mem) (t q : Int32) : Bool := bDay t && (bIn q 1024 && (!decide ((bcW q).toInt < 2) && !bHaw M))
theorem bIn1024_rng {x : Int32} (h : bIn x 1024 = true) : 0 ≤ x.toInt ∧ x.toInt < 1024 := bIn_true h
theorem wellC_ok {s : List Int32} {M : Mem} {t q : Int32} {d : Nat} (hd : 7 ≤ d) (hT : aTp s M) (hR8 : ∀ e, e < 40 → mSlot M 8 e = some (.ref (10 + e))) (hR9 : ∀ p, p < 10 → mSlot M 99 p = some (.ref (100 + p))) : Ok d 118 0 (lv_args 0 [.ref 2, .int t, .int q]) [] M (fun r N => ∃ y : Int32, r = some (.int y) ∧ ((wGd M t q = true ∧ ∃ N1, aTp s N1 ∧ (∃ pl, pl ≤ (iv M 93 6).toInt.toNat ∧ (pl = 0 ∨ (iv M 97 (pl - 1)).toInt ≤ t.toInt) ∧ (∀ i, pl ≤ i → i < (iv M 93 6).toInt.toNat → t.toInt < (iv M 97 i).toInt) ∧ awF M (iv M 93 6).toInt.toNat pl t q N1 ∧ aFr [(97, 0), (98, 0), (93, 6)] M N1) ∧ allS s N1 (iv N1 7 2).toInt.toNat N) ∨ (wGd M t q = false ∧ N = M))) := by
  have hSh := Sh.of hT
  refine kIload (mi := 118) (pc := 0) (len := 1) (i := 1) rfl rfl ?_
  refine kCallP (mi := 118) (pc := 1) (len := 3) (j := 151) rfl (Or.inl rfl) (by decide) (mCall_ok (n := 1) (l := 1) (rk := 2) (own := 10) (kd := 0) (as := [.int t]) (rest := []) (by omega) (by decide) rfl rfl rfl rfl rfl rfl (Or.inl rfl)) (bDay_ok (by omega)) ?_
  rcases Bool.eq_false_or_eq_true (mCond .eq (b2 (bDay t)) 0) with hc1 | hc1
  · have c1 := hc1
    replace c1 : bDay t = false := mB_eq.1 c1
    refine kIfT (mi := 118) (pc := 4) (len := 3) (t := 35) rfl rfl hc1 ?_
    refine kIconst (mi := 118) (pc := 35) (len := 1) (v := (-1)) rfl ?_
    refine kRetI (mi := 118) (pc := 36) (len := 1) rfl (Or.inl rfl) ?_
    refine ⟨_, rfl, Or.inr ⟨?_, rfl⟩⟩
    unfold wGd
    simp only [c1, Bool.true_and, Bool.false_and, Bool.and_true, Bool.and_false, Bool.not_true, Bool.not_false]
  · have c1 := hc1
    replace c1 : bDay t = true := mB_eq.2 c1
    refine kIfF (mi := 118) (pc := 4) (len := 3) (t := 35) rfl rfl hc1 ?_
    refine kIload (mi := 118) (pc := 7) (len := 1) (i := 2) rfl rfl ?_
    refine kIconst (mi := 118) (pc := 8) (len := 3) (v := 1024) rfl ?_
    refine kCallP (mi := 118) (pc := 11) (len := 3) (j := 148) rfl (Or.inl rfl) (by decide) (mCall_ok (n := 2) (l := 2) (rk := 2) (own := 10) (kd := 0) (as := [.int q, .int (1024 : Int32)]) (rest := []) (by omega) (by decide) rfl rfl rfl rfl rfl rfl (Or.inl rfl)) (bIn_ok (by omega)) ?_
    rcases Bool.eq_false_or_eq_true (mCond .eq (b2 (bIn q (1024 : Int32))) 0) with hc2 | hc2
    · have c2 := hc2
      replace c2 : bIn q (1024 : Int32) = false := mB_eq.1 c2
      refine kIfT (mi := 118) (pc := 14) (len := 3) (t := 35) rfl rfl hc2 ?_
      refine kIconst (mi := 118) (pc := 35) (len := 1) (v := (-1)) rfl ?_
      refine kRetI (mi := 118) (pc := 36) (len := 1) rfl (Or.inl rfl) ?_
      refine ⟨_, rfl, Or.inr ⟨?_, rfl⟩⟩
      unfold wGd
      simp only [c1, c2, Bool.true_and, Bool.false_and, Bool.and_true, Bool.and_false, Bool.not_true, Bool.not_false]
    · have c2 := hc2
      replace c2 : bIn q (1024 : Int32) = true := mB_eq.2 c2
      refine kIfF (mi := 118) (pc := 14) (len := 3) (t := 35) rfl rfl hc2 ?_
      refine kIload (mi := 118) (pc := 17) (len := 1) (i := 2) rfl rfl ?_
      refine Ok.call (mi := 118) (pc := 18) (len := 3) (j := 279) rfl (Or.inl rfl) (by decide) (mCall_ok (n := 1) (l := 1) (rk := 1) (own := 13) (kd := 0) (as := [.int q]) (rest := []) (by omega) (by decide) rfl rfl rfl rfl rfl rfl (Or.inl rfl)) ?_
      refine (bcw_ok (x := q) hT).mono ?_
      intro r3 K4 hr3
      obtain ⟨er3, fr3⟩ := hr3
      subst er3
      rw [fr3]
      refine kIconst (mi := 118) (pc := 21) (len := 1) (v := 2) rfl ?_
      rcases Bool.eq_false_or_eq_true (mCond .lt (bcW q) (2 : Int32)) with hc5 | hc5
      · have c5 := hc5
        replace c5 : (bcW q).toInt < 2 := mC_lt.1 c5
        refine kIcT (mi := 118) (pc := 22) (len := 3) (t := 35) rfl rfl hc5 ?_
        refine kIconst (mi := 118) (pc := 35) (len := 1) (v := (-1)) rfl ?_
        refine kRetI (mi := 118) (pc := 36) (len := 1) rfl (Or.inl rfl) ?_
        refine ⟨_, rfl, Or.inr ⟨?_, rfl⟩⟩
        unfold wGd
        simp only [c1, c2, decide_eq_true c5, Bool.true_and, Bool.false_and, Bool.and_true, Bool.and_false, Bool.not_true, Bool.not_false]
      · have c5 := hc5
        replace c5 : ¬ (bcW q).toInt < 2 := mC_lt.2 c5
        refine kIcF (mi := 118) (pc := 22) (len := 3) (t := 35) rfl rfl hc5 ?_
        refine kAload (mi := 118) (pc := 25) (len := 1) (i := 0) rfl rfl ?_
        refine kGetf (mi := 118) (pc := 26) (len := 3) (j := 1003) rfl (hT.hd (c := 2) (by decide) (by decide)) (by decide) (hT.ref (c := 2) (i := 3) (g := 93) (by decide) (by decide) (by decide) (lo := 0) (hi' := 0) rfl rfl) ?_
        refine kCallP (mi := 118) (pc := 29) (len := 3) (j := 48) rfl (Or.inr (Or.inl rfl)) (by decide) (mCall_ok (n := 1) (l := 1) (rk := 2) (own := 3) (kd := 1) (as := [.ref 93]) (rest := []) (by omega) (by decide) rfl rfl rfl rfl rfl rfl (Or.inr (Or.inl ⟨rfl, (tag_of hT (a := 93) (by decide) (by decide)).trans rfl⟩))) (bHaw_ok (by omega) hT) ?_
        rcases Bool.eq_false_or_eq_true (mCond .eq (b2 (bHaw M)) 0) with hc6 | hc6
        · have c6 := hc6
          replace c6 : bHaw M = false := mB_eq.1 c6
          refine kIfT (mi := 118) (pc := 32) (len := 3) (t := 37) rfl rfl hc6 ?_
          refine kAload (mi := 118) (pc := 37) (len := 1) (i := 0) rfl rfl ?_
          refine kGetf (mi := 118) (pc := 38) (len := 3) (j := 1003) rfl (hT.hd (c := 2) (by decide) (by decide)) (by decide) (hT.ref (c := 2) (i := 3) (g := 93) (by decide) (by decide) (by decide) (lo := 0) (hi' := 0) rfl rfl) ?_
          refine kIload (mi := 118) (pc := 41) (len := 1) (i := 1) rfl rfl ?_
          refine kIload (mi := 118) (pc := 42) (len := 1) (i := 2) rfl rfl ?_
          have gt := bDay_true c1
          have gq := bIn1024_rng c2
          refine Ok.call (mi := 118) (pc := 43) (len := 3) (j := 50) rfl (Or.inr (Or.inl rfl)) (by decide) (mCall_ok (n := 3) (l := 4) (rk := 0) (own := 3) (kd := 1) (as := [.ref 93, .int t, .int q]) (rest := []) (by omega) (by decide) rfl rfl rfl rfl rfl rfl (Or.inr (Or.inl ⟨rfl, (tag_of hT (a := 93) (by decide) (by decide)).trans rfl⟩))) ?_
          refine (addW_ok (t := t) (q := q) (by omega) hT c6 gt.1 gt.2 gq.1 gq.2).mono ?_
          intro r7 K8 hr7
          obtain ⟨er7, hTK8, wK8⟩ := hr7
          subst er7
          have fK8 : ∀ c i, c ≠ 97 → c ≠ 98 → c ≠ 93 → mSlot K8 c i = mSlot M c i := by
            obtain ⟨_, _, _, _, ⟨w, _⟩, _⟩ := wK8
            exact fun c i a b e => w c i a b (fun z => e z.1)
          have hR8H : ∀ e, e < 40 → mSlot K8 8 e = some (.ref (10 + e)) := fun e he => (fK8 8 e (by decide) (by decide) (by decide)).trans (hR8 e he)
          have hR9H : ∀ e, e < 10 → mSlot K8 99 e = some (.ref (100 + e)) := fun e he => (fK8 99 e (by decide) (by decide) (by decide)).trans (hR9 e he)
          refine kAload (mi := 118) (pc := 46) (len := 1) (i := 0) rfl rfl ?_
          refine kGetf (mi := 118) (pc := 47) (len := 3) (j := 1003) rfl (hTK8.hd (c := 2) (by decide) (by decide)) (by decide) (hTK8.ref (c := 2) (i := 3) (g := 93) (by decide) (by decide) (by decide) (lo := 0) (hi' := 0) rfl rfl) ?_
          refine kAload (mi := 118) (pc := 50) (len := 1) (i := 0) rfl rfl ?_
          refine kGetf (mi := 118) (pc := 51) (len := 3) (j := 1001) rfl (hTK8.hd (c := 2) (by decide) (by decide)) (by decide) (hTK8.ref (c := 2) (i := 1) (g := 7) (by decide) (by decide) (by decide) (lo := 0) (hi' := 0) rfl rfl) ?_
          refine Ok.call (mi := 118) (pc := 54) (len := 3) (j := 51) rfl (Or.inr (Or.inl rfl)) (by decide) (mCall_ok (n := 2) (l := 3) (rk := 0) (own := 3) (kd := 1) (as := [.ref 93, .ref 7]) (rest := []) (by omega) (by decide) rfl rfl rfl rfl rfl rfl (Or.inr (Or.inl ⟨rfl, (tag_of hTK8 (a := 93) (by decide) (by decide)).trans rfl⟩))) ?_
          refine (spa_ok (by omega) hTK8 hR8H hR9H).mono ?_
          intro r9 K10 hr9
          obtain ⟨er9, hAK10⟩ := hr9
          subst er9
          refine kAload (mi := 118) (pc := 57) (len := 1) (i := 0) rfl rfl ?_
          refine kGetf (mi := 118) (pc := 58) (len := 3) (j := 1003) rfl (hAK10.1.hd (c := 2) (by decide) (by decide)) (by decide) (hAK10.1.ref (c := 2) (i := 3) (g := 93) (by decide) (by decide) (by decide) (lo := 0) (hi' := 0) rfl rfl) ?_
          refine kGetf (mi := 118) (pc := 61) (len := 3) (j := 306) rfl (hAK10.1.hd (c := 93) (by decide) (by decide)) (by decide) ((Sh.of hAK10.1).slI (c := 93) (i := 6) (by decide) (by decide) (by decide) rfl) ?_
          refine kRetI (mi := 118) (pc := 64) (len := 1) rfl (Or.inl rfl) ?_
          refine ⟨_, rfl, Or.inl ⟨?_, K8, hTK8, wK8, hAK10⟩⟩
          unfold wGd
          simp only [c1, c2, decide_eq_false c5, c6, Bool.true_and, Bool.false_and, Bool.and_true, Bool.and_false, Bool.not_true, Bool.not_false]
        · have c6 := hc6
          replace c6 : bHaw M = true := mB_eq.2 c6
          refine kIfF (mi := 118) (pc := 32) (len := 3) (t := 37) rfl rfl hc6 ?_
          refine kIconst (mi := 118) (pc := 35) (len := 1) (v := (-1)) rfl ?_
          refine kRetI (mi := 118) (pc := 36) (len := 1) rfl (Or.inl rfl) ?_
          refine ⟨_, rfl, Or.inr ⟨?_, rfl⟩⟩
          unfold wGd
          simp only [c1, c2, decide_eq_false c5, c6, Bool.true_and, Bool.false_and, Bool.and_true, Bool.and_false, Bool.not_true, Bool.not_false]
def rBw (x : Int32) : Nat → Int32
  | 0 => 0
  | k + 1 => rBw x k + ((x >>> (Int32.ofNat k &&& 31)) &&& (1 : Int32))
set_option maxRecDepth 1000000 in
theorem bcW_n : ∀ x, x < 1024 → (rBw (Int32.ofNat x) 14).toInt = (bcW (Int32.ofNat x)).toInt := by decide +kernel
theorem bcW_i {x : Int32} (h0 : 0 ≤ x.toInt) (h1 : x.toInt < 1024) : (rBw x 14).toInt = (bcW x).toInt := by
  have e := bcW_n x.toInt.toNat (by omega)
  rw [← i32_of h0] at e
  exact e
theorem rbw_lp {M : Mem} {x : Int32} {d : Nat} : ∀ (m : Nat) {L : MLoc} {y k : Int32}, mLd L 0 = some (.int x) → mLd L 1 = some (.int y) → mLd L 2 = some (.int k) → 0 ≤ k.toInt → k.toInt.toNat + m = 14 → y = rBw x k.toInt.toNat → Ok d 183 4 L [] M (fun r N => r = some (.int (rBw x 14)) ∧ N = M) := by
  intro m
  induction m with
  | zero =>
    intro L y k l0 l1 l2 k0 km hy
    refine kIload (mi := 183) (pc := 4) (len := 1) (i := 2) rfl l2 ?_
    refine kIconst (mi := 183) (pc := 5) (len := 2) (v := 14) rfl ?_
    rcases Bool.eq_false_or_eq_true (mCond .ge k (14 : Int32)) with hc1 | hc1
    · have c1 := hc1
      replace c1 : ¬ k.toInt < 14 := mC_ge.1 c1
      refine kIcT (mi := 183) (pc := 7) (len := 3) (t := 24) rfl rfl hc1 ?_
      refine kIload (mi := 183) (pc := 24) (len := 1) (i := 1) rfl l1 ?_
      refine kRetI (mi := 183) (pc := 25) (len := 1) rfl (Or.inl rfl) ?_
      rw [hy, show k.toInt.toNat = 14 by omega]
      exact ⟨rfl, rfl⟩
    · have c1 := hc1
      replace c1 : k.toInt < 14 := mC_ge.2 c1
      refine kIcF (mi := 183) (pc := 7) (len := 3) (t := 24) rfl rfl hc1 ?_
      exfalso
      omega
  | succ m ih =>
    intro L y k l0 l1 l2 k0 km hy
    have ek : k.toInt < 14 → (k + 1).toInt = k.toInt + 1 := fun _ => i32_inc k0 (by omega)
    have en : k.toInt < 14 → (k + 1).toInt.toNat = k.toInt.toNat + 1 := fun q => by rw [ek q]; omega
    refine kIload (mi := 183) (pc := 4) (len := 1) (i := 2) rfl l2 ?_
    refine kIconst (mi := 183) (pc := 5) (len := 2) (v := 14) rfl ?_
    rcases Bool.eq_false_or_eq_true (mCond .ge k (14 : Int32)) with hc201 | hc201
    · have c201 := hc201
      replace c201 : ¬ k.toInt < 14 := mC_ge.1 c201
      refine kIcT (mi := 183) (pc := 7) (len := 3) (t := 24) rfl rfl hc201 ?_
      refine kIload (mi := 183) (pc := 24) (len := 1) (i := 1) rfl l1 ?_
      refine kRetI (mi := 183) (pc := 25) (len := 1) rfl (Or.inl rfl) ?_
      exfalso
      omega
    · have c201 := hc201
      replace c201 : k.toInt < 14 := mC_ge.2 c201
      refine kIcF (mi := 183) (pc := 7) (len := 3) (t := 24) rfl rfl hc201 ?_
      refine kIload (mi := 183) (pc := 10) (len := 1) (i := 1) rfl l1 ?_
      refine kIload (mi := 183) (pc := 11) (len := 1) (i := 0) rfl l0 ?_
      refine kIload (mi := 183) (pc := 12) (len := 1) (i := 2) rfl l2 ?_
      refine kShr (mi := 183) (pc := 13) (len := 1) rfl ?_
      refine kIconst (mi := 183) (pc := 14) (len := 1) (v := 1) rfl ?_
      refine kAnd (mi := 183) (pc := 15) (len := 1) rfl ?_
      refine kAdd (mi := 183) (pc := 16) (len := 1) rfl ?_
      refine kIstore (mi := 183) (pc := 17) (len := 1) (i := 1) rfl (by decide) ?_
      refine kIinc (mi := 183) (pc := 18) (len := 3) (i := 2) (n := 1) rfl (mLd_st1_int (by decide) l2) (by decide) ?_
      refine kGoto (mi := 183) (pc := 21) (len := 3) (t := 4) rfl rfl ?_
      refine ih (k := k + 1) (mLd_st1_int (by decide) (mLd_st1_int (by decide) l0)) (mLd_st1_int (by decide) mLd_st1_i) mLd_st1_i (by omega) (by omega) ?_
      rw [en (by omega)]
      show _ = rBw x k.toInt.toNat + ((x >>> (Int32.ofNat k.toInt.toNat &&& 31)) &&& (1 : Int32))
      rw [← i32_of k0, hy]
      rfl
theorem rbw_ok {M : Mem} {x : Int32} {d : Nat} : Ok d 183 0 (lv_args 0 [.int x]) [] M (fun r N => r = some (.int (rBw x 14)) ∧ N = M) := by
  refine kIconst (mi := 183) (pc := 0) (len := 1) (v := 0) rfl ?_
  refine kIstore (mi := 183) (pc := 1) (len := 1) (i := 1) rfl (by decide) ?_
  refine kIconst (mi := 183) (pc := 2) (len := 1) (v := 0) rfl ?_
  refine kIstore (mi := 183) (pc := 3) (len := 1) (i := 2) rfl (by decide) ?_
  exact rbw_lp 14 (k := 0) rfl rfl rfl (Int.le_refl 0) rfl rfl
def wGr (M : Mem) (t q : Int32) : Bool := rDay t && (rIn q 1 1023 && (!decide ((rBw q 14).toInt < 2) && !decide ((iv M 181 16).toInt = 20)))
def wPutR (M : Mem) (t q : Int32) : Mem := mPut (mPut (mPut M 198 (iv M 181 16).toInt.toNat (.int t)) 199 (iv M 181 16).toInt.toNat (.int q)) 181 16 (.int (iv M 181 16 + 1))
theorem rInQ_rng {x : Int32} (h : rIn x 1 1023 = true) : 1 ≤ x.toInt ∧ x.toInt ≤ 1023 := by
  unfold rIn at h
  by_cases a : x.toInt < (1 : Int32).toInt
  · rw [decide_eq_true a] at h
    cases h
  · rw [decide_eq_false a] at h
    by_cases b : (1023 : Int32).toInt < x.toInt
    · rw [decide_eq_true b] at h
      cases h
    · exact ⟨by have : (1 : Int32).toInt = 1 := rfl; omega, by have : (1023 : Int32).toInt = 1023 := rfl; omega⟩
theorem wellR_ok {s : List Int32} {M : Mem} {t q : Int32} {d : Nat} (hd : 3 ≤ d) (hT : aTp s M) : Ok d 184 0 (lv_args 0 [.ref 181, .int t, .int q]) [] M (fun r N => ∃ y : Int32, r = some (.int y) ∧ aTp s N ∧ ((wGr M t q = true ∧ N = wPutR M t q) ∨ (wGr M t q = false ∧ N = M))) := by
  have hSh := Sh.of hT
  have rH := iv_ty hT (c := 181) (i := 16) (by decide) (by decide) (by decide) (lo := 0) (hi' := 20) (gs := []) rfl
  refine kIload (mi := 184) (pc := 0) (len := 1) (i := 1) rfl rfl ?_
  refine kCallP (mi := 184) (pc := 1) (len := 3) (j := 161) rfl (Or.inl rfl) (by decide) (mCall_ok (n := 1) (l := 1) (rk := 2) (own := 11) (kd := 0) (as := [.int t]) (rest := []) (by omega) (by decide) rfl rfl rfl rfl rfl rfl (Or.inl rfl)) (rDay_ok (by omega)) ?_
  rcases Bool.eq_false_or_eq_true (mCond .eq (b2 (rDay t)) 0) with hc1 | hc1
  · have c1 := hc1
    replace c1 : rDay t = false := mB_eq.1 c1
    refine kIfT (mi := 184) (pc := 4) (len := 3) (t := 35) rfl rfl hc1 ?_
    refine kIconst (mi := 184) (pc := 35) (len := 1) (v := (-1)) rfl ?_
    refine kRetI (mi := 184) (pc := 36) (len := 1) rfl (Or.inl rfl) ?_
    refine ⟨_, rfl, hT, Or.inr ⟨?_, rfl⟩⟩
    unfold wGr
    simp only [c1, Bool.true_and, Bool.false_and, Bool.and_true, Bool.and_false, Bool.not_true, Bool.not_false]
  · have c1 := hc1
    replace c1 : rDay t = true := mB_eq.2 c1
    refine kIfF (mi := 184) (pc := 4) (len := 3) (t := 35) rfl rfl hc1 ?_
    refine kIload (mi := 184) (pc := 7) (len := 1) (i := 2) rfl rfl ?_
    refine kIconst (mi := 184) (pc := 8) (len := 1) (v := 1) rfl ?_
    refine kIconst (mi := 184) (pc := 9) (len := 3) (v := 1023) rfl ?_
    refine kCallP (mi := 184) (pc := 12) (len := 3) (j := 160) rfl (Or.inl rfl) (by decide) (mCall_ok (n := 3) (l := 3) (rk := 2) (own := 11) (kd := 0) (as := [.int q, .int (1 : Int32), .int (1023 : Int32)]) (rest := []) (by omega) (by decide) rfl rfl rfl rfl rfl rfl (Or.inl rfl)) (rIn_ok (by omega)) ?_
    rcases Bool.eq_false_or_eq_true (mCond .eq (b2 (rIn q (1 : Int32) (1023 : Int32))) 0) with hc2 | hc2
    · have c2 := hc2
      replace c2 : rIn q (1 : Int32) (1023 : Int32) = false := mB_eq.1 c2
      refine kIfT (mi := 184) (pc := 15) (len := 3) (t := 35) rfl rfl hc2 ?_
      refine kIconst (mi := 184) (pc := 35) (len := 1) (v := (-1)) rfl ?_
      refine kRetI (mi := 184) (pc := 36) (len := 1) rfl (Or.inl rfl) ?_
      refine ⟨_, rfl, hT, Or.inr ⟨?_, rfl⟩⟩
      unfold wGr
      simp only [c1, c2, Bool.true_and, Bool.false_and, Bool.and_true, Bool.and_false, Bool.not_true, Bool.not_false]
    · have c2 := hc2
      replace c2 : rIn q (1 : Int32) (1023 : Int32) = true := mB_eq.2 c2
      refine kIfF (mi := 184) (pc := 15) (len := 3) (t := 35) rfl rfl hc2 ?_
      refine kIload (mi := 184) (pc := 18) (len := 1) (i := 2) rfl rfl ?_
      refine Ok.call (mi := 184) (pc := 19) (len := 3) (j := 183) rfl (Or.inl rfl) (by decide) (mCall_ok (n := 1) (l := 3) (rk := 1) (own := 11) (kd := 0) (as := [.int q]) (rest := []) (by omega) (by decide) rfl rfl rfl rfl rfl rfl (Or.inl rfl)) ?_
      refine (rbw_ok (x := q)).mono ?_
      intro r3 K4 hr3
      obtain ⟨er3, fr3⟩ := hr3
      subst er3
      rw [fr3]
      refine kIconst (mi := 184) (pc := 22) (len := 1) (v := 2) rfl ?_
      rcases Bool.eq_false_or_eq_true (mCond .lt (rBw q 14) (2 : Int32)) with hc5 | hc5
      · have c5 := hc5
        replace c5 : (rBw q 14).toInt < 2 := mC_lt.1 c5
        refine kIcT (mi := 184) (pc := 23) (len := 3) (t := 35) rfl rfl hc5 ?_
        refine kIconst (mi := 184) (pc := 35) (len := 1) (v := (-1)) rfl ?_
        refine kRetI (mi := 184) (pc := 36) (len := 1) rfl (Or.inl rfl) ?_
        refine ⟨_, rfl, hT, Or.inr ⟨?_, rfl⟩⟩
        unfold wGr
        simp only [c1, c2, decide_eq_true c5, Bool.true_and, Bool.false_and, Bool.and_true, Bool.and_false, Bool.not_true, Bool.not_false]
      · have c5 := hc5
        replace c5 : ¬ (rBw q 14).toInt < 2 := mC_lt.2 c5
        refine kIcF (mi := 184) (pc := 23) (len := 3) (t := 35) rfl rfl hc5 ?_
        refine kAload (mi := 184) (pc := 26) (len := 1) (i := 0) rfl rfl ?_
        refine kGetf (mi := 184) (pc := 27) (len := 3) (j := 1116) rfl (hT.hd (c := 181) (by decide) (by decide)) (by decide) ((Sh.of hT).slI (c := 181) (i := 16) (by decide) (by decide) (by decide) rfl) ?_
        refine kIconst (mi := 184) (pc := 30) (len := 2) (v := 20) rfl ?_
        rcases Bool.eq_false_or_eq_true (mCond .ne (iv M 181 16) (20 : Int32)) with hc6 | hc6
        · have c6 := hc6
          replace c6 : ¬ (iv M 181 16).toInt = 20 := mC_ne.1 c6
          refine kIcT (mi := 184) (pc := 32) (len := 3) (t := 37) rfl rfl hc6 ?_
          refine kAload (mi := 184) (pc := 37) (len := 1) (i := 0) rfl rfl ?_
          refine kGetf (mi := 184) (pc := 38) (len := 3) (j := 1120) rfl (hT.hd (c := 181) (by decide) (by decide)) (by decide) (hT.ref (c := 181) (i := 20) (g := 198) (by decide) (by decide) (by decide) (lo := 0) (hi' := 0) rfl rfl) ?_
          refine kAload (mi := 184) (pc := 41) (len := 1) (i := 0) rfl rfl ?_
          refine kGetf (mi := 184) (pc := 42) (len := 3) (j := 1116) rfl (hT.hd (c := 181) (by decide) (by decide)) (by decide) ((Sh.of hT).slI (c := 181) (i := 16) (by decide) (by decide) (by decide) rfl) ?_
          refine kIload (mi := 184) (pc := 45) (len := 1) (i := 1) rfl rfl ?_
          have gt := rDay_rng c1
          have gq := rInQ_rng c2
          have h60 : (iv M 181 16).toInt < 20 := by have := c6; omega
          have e1 : (iv M 181 16 + 1).toInt = (iv M 181 16).toInt + 1 := i32_inc rH.1 (by omega)
          obtain ⟨N7, eN7⟩ : ∃ X_, X_ = mPut M 198 (iv M 181 16).toInt.toNat (.int t) := ⟨_, rfl⟩
          have hT8 : aTp s N7 := by rw [eN7]; exact hT.put (a := 198) (i := (iv M 181 16).toInt.toNat) (v := .int t) (by decide) (by decide) (show aTy (tTy (tGrp 198) _) _ from ⟨t, rfl, by show (0 : Int) ≤ _; omega, by show _ ≤ (999 : Int); omega⟩)
          refine kIast (mi := 184) (pc := 46) (len := 1) (n := 20) rfl (hT.hd (c := 198) (by decide) (by decide)) (by decide) (by show (0 : Int) ≤ (iv M 181 16).toInt; omega) (by show (iv M 181 16).toInt < 20; omega) ?_
          refine Ok_meq eN7 ?_
          have hSh_N7 := Sh.of hT8
          have gN7 : iv N7 181 16 = iv M 181 16 := by rw [eN7, iv_put_ne (Or.inl (by decide))]
          refine kAload (mi := 184) (pc := 47) (len := 1) (i := 0) rfl rfl ?_
          refine kGetf (mi := 184) (pc := 48) (len := 3) (j := 1121) rfl (hT8.hd (c := 181) (by decide) (by decide)) (by decide) (hT8.ref (c := 181) (i := 21) (g := 199) (by decide) (by decide) (by decide) (lo := 0) (hi' := 0) rfl rfl) ?_
          refine kAload (mi := 184) (pc := 51) (len := 1) (i := 0) rfl rfl ?_
          refine kGetf (mi := 184) (pc := 52) (len := 3) (j := 1116) rfl (hT8.hd (c := 181) (by decide) (by decide)) (by decide) ((Sh.of hT8).slI (c := 181) (i := 16) (by decide) (by decide) (by decide) rfl) ?_
          refine kIload (mi := 184) (pc := 55) (len := 1) (i := 2) rfl rfl ?_
          have rN7 : 0 ≤ (iv N7 181 16).toInt ∧ (iv N7 181 16).toInt < 20 := by rw [gN7]; omega
          obtain ⟨N9, eN9⟩ : ∃ X_, X_ = mPut N7 199 (iv N7 181 16).toInt.toNat (.int q) := ⟨_, rfl⟩
          have hT10 : aTp s N9 := by rw [eN9]; exact hT8.put (a := 199) (i := (iv N7 181 16).toInt.toNat) (v := .int q) (by decide) (by decide) (show aTy (tTy (tGrp 199) _) _ from ⟨q, rfl, by show (0 : Int) ≤ _; omega, by show _ ≤ (1023 : Int); omega⟩)
          refine kIast (mi := 184) (pc := 56) (len := 1) (n := 20) rfl (hT8.hd (c := 199) (by decide) (by decide)) (by decide) (by show (0 : Int) ≤ (iv N7 181 16).toInt; omega) (by show (iv N7 181 16).toInt < 20; omega) ?_
          refine Ok_meq eN9 ?_
          have hSh_N9 := Sh.of hT10
          have gN9 : iv N9 181 16 = iv M 181 16 := by rw [eN9, iv_put_ne (Or.inl (by decide))]; exact gN7
          refine kAload (mi := 184) (pc := 57) (len := 1) (i := 0) rfl rfl ?_
          refine kAload (mi := 184) (pc := 58) (len := 1) (i := 0) rfl rfl ?_
          refine kGetf (mi := 184) (pc := 59) (len := 3) (j := 1116) rfl (hT10.hd (c := 181) (by decide) (by decide)) (by decide) ((Sh.of hT10).slI (c := 181) (i := 16) (by decide) (by decide) (by decide) rfl) ?_
          refine kIconst (mi := 184) (pc := 62) (len := 1) (v := 1) rfl ?_
          refine kAdd (mi := 184) (pc := 63) (len := 1) rfl ?_
          have rN9 : 0 ≤ (iv N9 181 16).toInt ∧ (iv N9 181 16).toInt < 20 := by rw [gN9]; omega
          have qN9 : (iv N9 181 16 + 1).toInt = (iv M 181 16).toInt + 1 := by rw [gN9]; exact e1
          obtain ⟨N11, eN11⟩ : ∃ X_, X_ = mPut N9 181 16 (.int ((iv N9 181 16) + (1 : Int32))) := ⟨_, rfl⟩
          have hT12 : aTp s N11 := by rw [eN11]; exact hT10.put (a := 181) (i := 16) (v := .int ((iv N9 181 16) + (1 : Int32))) (by decide) (by decide) (show aTy (tTy (tGrp 181) _) _ from ⟨((iv N9 181 16) + (1 : Int32)), rfl, by show (0 : Int) ≤ _; omega, by show _ ≤ (20 : Int); omega⟩)
          refine kPutf (mi := 184) (pc := 64) (len := 3) (j := 1116) (v := .int ((iv N9 181 16) + (1 : Int32))) rfl (hT10.hd (c := 181) (by decide) (by decide)) (by decide) (by decide) rfl ?_
          show Ok d 184 67 _ _ (mPut N9 181 16 (.int ((iv N9 181 16) + (1 : Int32)))) _
          refine Ok_meq eN11 ?_
          have hSh_N11 := Sh.of hT12
          refine kAload (mi := 184) (pc := 67) (len := 1) (i := 0) rfl rfl ?_
          refine kGetf (mi := 184) (pc := 68) (len := 3) (j := 1116) rfl (hT12.hd (c := 181) (by decide) (by decide)) (by decide) ((Sh.of hT12).slI (c := 181) (i := 16) (by decide) (by decide) (by decide) rfl) ?_
          refine kRetI (mi := 184) (pc := 71) (len := 1) rfl (Or.inl rfl) ?_
          refine ⟨_, rfl, hT12, Or.inl ⟨?_, ?_⟩⟩
          · unfold wGr
            simp only [c1, c2, decide_eq_false c5, decide_eq_false c6, Bool.true_and, Bool.false_and, Bool.and_true, Bool.and_false, Bool.not_true, Bool.not_false]
          · unfold wPutR
            rw [eN11, gN9, eN9, gN7, eN7]
        · have c6 := hc6
          replace c6 : (iv M 181 16).toInt = 20 := mC_ne.2 c6
          refine kIcF (mi := 184) (pc := 32) (len := 3) (t := 37) rfl rfl hc6 ?_
          refine kIconst (mi := 184) (pc := 35) (len := 1) (v := (-1)) rfl ?_
          refine kRetI (mi := 184) (pc := 36) (len := 1) rfl (Or.inl rfl) ?_
          refine ⟨_, rfl, hT, Or.inr ⟨?_, rfl⟩⟩
          unfold wGr
          simp only [c1, c2, decide_eq_false c5, decide_eq_true c6, Bool.true_and, Bool.false_and, Bool.and_true, Bool.and_false, Bool.not_true, Bool.not_false]

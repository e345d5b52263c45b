/-! gossip: what the class writes of a deed (printed by fnk1.py) -/
theorem min_i {x y : Int32} : (if y < x then y else x).toInt = (if y.toInt < x.toInt then y.toInt else x.toInt) := by
  by_cases c : y < x
  · rw [if_pos c, if_pos (Int32.lt_iff_toInt_lt.mp c)]
  · rw [if_neg c, if_neg (fun q => c (Int32.lt_iff_toInt_lt.mpr q))]
theorem learn_ok {s : List Int32} {M N : Mem} {e : Nat} {f : Nat → Int} {p x v : Int32} {d : Nat} (hd : 2 ≤ d) (hR9 : ∀ p, p < 10 → mSlot M 99 p = some (.ref (100 + p))) (hC : colS s M e f N) (p0 : 0 ≤ p.toInt) (p9 : p.toInt < 10) (x0 : 0 ≤ x.toInt) (x9 : x.toInt < 40) (xe : x.toInt.toNat = e) (v0 : 0 ≤ v.toInt) (v9 : v.toInt ≤ 1000000) : Ok d 53 0 (lv_args 0 [.ref 93, .int p, .int x, .int v]) [] N (fun r N' => r = none ∧ colS s M e (knU f p.toInt.toNat v.toInt) N') := by
  have hT := hC.1
  have hSh := Sh.of hT
  have hR9 : ∀ p, p < 10 → mSlot N 99 p = some (.ref (100 + p)) := fun p hp => (hC.2.1 99 p (by omega)).trans (hR9 p hp)
  have hp : p.toInt.toNat < 10 := by omega
  have rg := row_ty hT hp (i := x.toInt.toNat) (by omega)
  have mi := min_i (x := iv N (100 + p.toInt.toNat) x.toInt.toNat) (y := v)
  have mr : 0 ≤ (if v < iv N (100 + p.toInt.toNat) x.toInt.toNat then v else iv N (100 + p.toInt.toNat) x.toInt.toNat).toInt ∧ (if v < iv N (100 + p.toInt.toNat) x.toInt.toNat then v else iv N (100 + p.toInt.toNat) x.toInt.toNat).toInt ≤ 1000000 := by
    rw [mi]
    split <;> omega
  refine kAload (mi := 53) (pc := 0) (len := 1) (i := 0) rfl rfl ?_
  refine kGetf (mi := 53) (pc := 1) (len := 3) (j := 307) rfl (hT.hd (c := 93) (by decide) (by decide)) (by decide) (hT.ref (c := 93) (i := 7) (g := 99) (by decide) (by decide) (by decide) (lo := 0) (hi' := 0) rfl rfl) ?_
  refine kIload (mi := 53) (pc := 4) (len := 1) (i := 1) rfl rfl ?_
  have b1 : p.toInt.toNat < 10 := by omega
  refine kAaldT (mi := 53) (pc := 5) (len := 1) (n := 10) (b := 100 + p.toInt.toNat) rfl (hT.hd (c := 99) (by decide) (by decide)) rfl (by omega) (by show p.toInt < 10; omega) (hR9 _ b1) ?_
  refine kIload (mi := 53) (pc := 6) (len := 1) (i := 2) rfl rfl ?_
  refine kAload (mi := 53) (pc := 7) (len := 1) (i := 0) rfl rfl ?_
  refine kGetf (mi := 53) (pc := 8) (len := 3) (j := 307) rfl (hT.hd (c := 93) (by decide) (by decide)) (by decide) (hT.ref (c := 93) (i := 7) (g := 99) (by decide) (by decide) (by decide) (lo := 0) (hi' := 0) rfl rfl) ?_
  refine kIload (mi := 53) (pc := 11) (len := 1) (i := 1) rfl rfl ?_
  have b2 : p.toInt.toNat < 10 := by omega
  refine kAaldT (mi := 53) (pc := 12) (len := 1) (n := 10) (b := 100 + p.toInt.toNat) rfl (hT.hd (c := 99) (by decide) (by decide)) rfl (by omega) (by show p.toInt < 10; omega) (hR9 _ b2) ?_
  refine kIload (mi := 53) (pc := 13) (len := 1) (i := 2) rfl rfl ?_
  refine kIald (mi := 53) (pc := 14) (len := 1) (n := 40) rfl (row_hd hT b2) (by show (0 : Int) ≤ x.toInt; omega) (by show x.toInt < 40; omega) (row_sl hT b2 (by omega)) ?_
  refine kIload (mi := 53) (pc := 15) (len := 1) (i := 3) rfl rfl ?_
  refine kMin (d := d) (mi := 53) (pc := 16) (len := 3) rfl (by omega) rfl ?_
  obtain ⟨N3, eN3⟩ : ∃ X_, X_ = mPut N (100 + p.toInt.toNat) x.toInt.toNat (.int (if v < (iv N (100 + p.toInt.toNat) x.toInt.toNat) then v else (iv N (100 + p.toInt.toNat) x.toInt.toNat))) := ⟨_, rfl⟩
  have hT4 : aTp s N3 := by rw [eN3]; exact hT.put (a := (100 + p.toInt.toNat)) (i := x.toInt.toNat) (v := .int (if v < (iv N (100 + p.toInt.toNat) x.toInt.toNat) then v else (iv N (100 + p.toInt.toNat) x.toInt.toNat))) (row_p9 b1).1 (row_p9 b1).2.1 (by rw [(row_p9 b1).2.2]; exact ⟨(if v < (iv N (100 + p.toInt.toNat) x.toInt.toNat) then v else (iv N (100 + p.toInt.toNat) x.toInt.toNat)), rfl, by show (0 : Int) ≤ _; omega, by show _ ≤ (1000000 : Int); omega⟩)
  refine kIast (mi := 53) (pc := 19) (len := 1) (n := 40) rfl (row_hd hT b1) (by omega) (by show (0 : Int) ≤ x.toInt; omega) (by show x.toInt < 40; omega) ?_
  refine Ok_meq eN3 ?_
  have hSh_N3 := Sh.of hT4
  refine kRetV (mi := 53) (pc := 20) (len := 1) rfl rfl ?_
  rw [xe] at eN3
  refine ⟨rfl, colS_eq (colS_put hC hp (by omega) hT4 eN3) (fun q hq => ?_)⟩
  show (if q = p.toInt.toNat then _ else f q) = (if q = p.toInt.toNat then (if v.toInt < f p.toInt.toNat then v.toInt else f p.toInt.toNat) else f q)
  by_cases c : q = p.toInt.toNat
  · rw [if_pos c, if_pos c, ← hC.2.2.1 _ hp, ← xe]
    exact mi
  · rw [if_neg c, if_neg c]
theorem talk_lp {s : List Int32} {M N : Mem} {e : Nat} {f : Nat → Int} {w x : Int32} {d : Nat} (hR9 : ∀ p, p < 10 → mSlot M 99 p = some (.ref (100 + p))) (hC : colS s M e f N) (w0 : 0 ≤ w.toInt) (w9 : w.toInt < 20) (x0 : 0 ≤ x.toInt) (x9 : x.toInt < 40) (xe : x.toInt.toNat = e) : ∀ (m : Nat) {L : MLoc} {k : Int32}, mLd L 0 = some (.ref 93) → mLd L 1 = some (.int w) → mLd L 2 = some (.int x) → mLd L 3 = some (.int k) → 0 ≤ k.toInt → k.toInt.toNat + m = 10 → knTb f (iv M 98 w.toInt.toNat).toInt.toNat (iv M 97 w.toInt.toNat).toInt k.toInt.toNat = false → Ok d 54 2 L [] N (fun r N' => r = some (.int (b2 (knTb f (iv M 98 w.toInt.toNat).toInt.toNat (iv M 97 w.toInt.toNat).toInt 10))) ∧ N' = N) := by
  have hT := hC.1
  have hSh := Sh.of hT
  have hR9N : ∀ p, p < 10 → mSlot N 99 p = some (.ref (100 + p)) := fun p hp => (hC.2.1 99 p (by omega)).trans (hR9 p hp)
  have e97 : ∀ k, iv N 97 k = iv M 97 k := fun k => colS_iv hC (by omega)
  have e98 : ∀ k, iv N 98 k = iv M 98 k := fun k => colS_iv hC (by omega)
  have r97 := iv_ty hT (c := 97) (i := w.toInt.toNat) (by decide) (by decide) (by show _ < 20; omega) (lo := 0) (hi' := 999) (gs := []) rfl
  have r98 := iv_ty hT (c := 98) (i := w.toInt.toNat) (by decide) (by decide) (by show _ < 20; omega) (lo := 0) (hi' := 1023) (gs := []) rfl
  rw [e97] at r97
  rw [e98] at r98
  intro m
  induction m with
  | zero =>
    intro L k l0 l1 l2 l3 k0 km hk
    refine kIload (mi := 54) (pc := 2) (len := 1) (i := 3) rfl l3 ?_
    refine kIconst (mi := 54) (pc := 3) (len := 2) (v := 10) rfl ?_
    rcases Bool.eq_false_or_eq_true (mCond .ge k (10 : Int32)) with hc1 | hc1
    · have c1 := hc1
      replace c1 : ¬ k.toInt < 10 := mC_ge.1 c1
      refine kIcT (mi := 54) (pc := 5) (len := 3) (t := 46) rfl rfl hc1 ?_
      refine kIconst (mi := 54) (pc := 46) (len := 1) (v := 0) rfl ?_
      refine kRetI (mi := 54) (pc := 47) (len := 1) rfl (Or.inr ⟨rfl, Or.inl rfl⟩) ?_
      rw [← show k.toInt.toNat = 10 by omega, hk]
      exact ⟨rfl, rfl⟩
    · have c1 := hc1
      replace c1 : k.toInt < 10 := mC_ge.2 c1
      refine kIcF (mi := 54) (pc := 5) (len := 3) (t := 46) rfl rfl hc1 ?_
      exfalso
      omega
  | succ m ih =>
    intro L k l0 l1 l2 l3 k0 km hk
    have ek : k.toInt < 10 → (k + 1).toInt = k.toInt + 1 := fun _ => i32_inc k0 (by omega)
    have en : k.toInt < 10 → (k + 1).toInt.toNat = k.toInt.toNat + 1 := fun q => by rw [ek q]; omega
    refine kIload (mi := 54) (pc := 2) (len := 1) (i := 3) rfl l3 ?_
    refine kIconst (mi := 54) (pc := 3) (len := 2) (v := 10) rfl ?_
    rcases Bool.eq_false_or_eq_true (mCond .ge k (10 : Int32)) with hc201 | hc201
    · have c201 := hc201
      replace c201 : ¬ k.toInt < 10 := mC_ge.1 c201
      refine kIcT (mi := 54) (pc := 5) (len := 3) (t := 46) rfl rfl hc201 ?_
      refine kIconst (mi := 54) (pc := 46) (len := 1) (v := 0) rfl ?_
      refine kRetI (mi := 54) (pc := 47) (len := 1) rfl (Or.inr ⟨rfl, Or.inl rfl⟩) ?_
      rw [← show k.toInt.toNat = 10 by omega, hk]
      exact ⟨rfl, rfl⟩
    · have c201 := hc201
      replace c201 : k.toInt < 10 := mC_ge.2 c201
      refine kIcF (mi := 54) (pc := 5) (len := 3) (t := 46) rfl rfl hc201 ?_
      refine kAload (mi := 54) (pc := 8) (len := 1) (i := 0) rfl l0 ?_
      refine kGetf (mi := 54) (pc := 9) (len := 3) (j := 305) rfl (hT.hd (c := 93) (by decide) (by decide)) (by decide) (hT.ref (c := 93) (i := 5) (g := 98) (by decide) (by decide) (by decide) (lo := 0) (hi' := 0) rfl rfl) ?_
      refine kIload (mi := 54) (pc := 12) (len := 1) (i := 1) rfl l1 ?_
      refine kIald (mi := 54) (pc := 13) (len := 1) (n := 20) rfl (hT.hd (c := 98) (by decide) (by decide)) (by show (0 : Int) ≤ w.toInt; omega) (by show w.toInt < 20; omega) ((Sh.of hT).slI (c := 98) (i := w.toInt.toNat) (by decide) (by decide) (by show _ < 20; omega) rfl) ?_
      refine kIload (mi := 54) (pc := 14) (len := 1) (i := 3) rfl l3 ?_
      refine kShr (mi := 54) (pc := 15) (len := 1) rfl ?_
      refine kIconst (mi := 54) (pc := 16) (len := 1) (v := 1) rfl ?_
      refine kAnd (mi := 54) (pc := 17) (len := 1) rfl ?_
      rcases Bool.eq_false_or_eq_true (mCond .eq (((iv N 98 w.toInt.toNat) >>> (k &&& 31)) &&& (1 : Int32)) 0) with hc202 | hc202
      · have c202 := hc202
        replace c202 : (((iv N 98 w.toInt.toNat) >>> (k &&& 31)) &&& (1 : Int32)).toInt = 0 := mC_eq.1 c202
        refine kIfT (mi := 54) (pc := 18) (len := 3) (t := 40) rfl rfl hc202 ?_
        refine kIinc (mi := 54) (pc := 40) (len := 3) (i := 3) (n := 1) rfl l3 (by decide) ?_
        refine kGoto (mi := 54) (pc := 43) (len := 3) (t := 2) rfl rfl ?_
        refine ih (k := k + 1) (mLd_st1_ref (by decide) l0) (mLd_st1_int (by decide) l1) (mLd_st1_int (by decide) l2) mLd_st1_i (by omega) (by omega) ?_
        rw [en (by omega)]
        unfold knTb
        rw [hk]
        rw [e98] at c202
        rw [bs_f r98.1 (by omega) k0 (by omega) c202]
        rfl
      · have c202 := hc202
        replace c202 : ¬ (((iv N 98 w.toInt.toNat) >>> (k &&& 31)) &&& (1 : Int32)).toInt = 0 := mC_eq.2 c202
        refine kIfF (mi := 54) (pc := 18) (len := 3) (t := 40) rfl rfl hc202 ?_
        refine kAload (mi := 54) (pc := 21) (len := 1) (i := 0) rfl l0 ?_
        refine kGetf (mi := 54) (pc := 22) (len := 3) (j := 307) rfl (hT.hd (c := 93) (by decide) (by decide)) (by decide) (hT.ref (c := 93) (i := 7) (g := 99) (by decide) (by decide) (by decide) (lo := 0) (hi' := 0) rfl rfl) ?_
        refine kIload (mi := 54) (pc := 25) (len := 1) (i := 3) rfl l3 ?_
        have b203 : k.toInt.toNat < 10 := by omega
        refine kAaldT (mi := 54) (pc := 26) (len := 1) (n := 10) (b := 100 + k.toInt.toNat) rfl (hT.hd (c := 99) (by decide) (by decide)) rfl (by omega) (by show k.toInt < 10; omega) (hR9N _ b203) ?_
        refine kIload (mi := 54) (pc := 27) (len := 1) (i := 2) rfl l2 ?_
        refine kIald (mi := 54) (pc := 28) (len := 1) (n := 40) rfl (row_hd hT b203) (by show (0 : Int) ≤ x.toInt; omega) (by show x.toInt < 40; omega) (row_sl hT b203 (by omega)) ?_
        refine kAload (mi := 54) (pc := 29) (len := 1) (i := 0) rfl l0 ?_
        refine kGetf (mi := 54) (pc := 30) (len := 3) (j := 304) rfl (hT.hd (c := 93) (by decide) (by decide)) (by decide) (hT.ref (c := 93) (i := 4) (g := 97) (by decide) (by decide) (by decide) (lo := 0) (hi' := 0) rfl rfl) ?_
        refine kIload (mi := 54) (pc := 33) (len := 1) (i := 1) rfl l1 ?_
        refine kIald (mi := 54) (pc := 34) (len := 1) (n := 20) rfl (hT.hd (c := 97) (by decide) (by decide)) (by show (0 : Int) ≤ w.toInt; omega) (by show w.toInt < 20; omega) ((Sh.of hT).slI (c := 97) (i := w.toInt.toNat) (by decide) (by decide) (by show _ < 20; omega) rfl) ?_
        rcases Bool.eq_false_or_eq_true (mCond .gt (iv N (100 + k.toInt.toNat) x.toInt.toNat) (iv N 97 w.toInt.toNat)) with hc204 | hc204
        · have c204 := hc204
          replace c204 : (iv N 97 w.toInt.toNat).toInt < (iv N (100 + k.toInt.toNat) x.toInt.toNat).toInt := mC_gt.1 c204
          refine kIcT (mi := 54) (pc := 35) (len := 3) (t := 40) rfl rfl hc204 ?_
          refine kIinc (mi := 54) (pc := 40) (len := 3) (i := 3) (n := 1) rfl l3 (by decide) ?_
          refine kGoto (mi := 54) (pc := 43) (len := 3) (t := 2) rfl rfl ?_
          refine ih (k := k + 1) (mLd_st1_ref (by decide) l0) (mLd_st1_int (by decide) l1) (mLd_st1_int (by decide) l2) mLd_st1_i (by omega) (by omega) ?_
          rw [en (by omega)]
          unfold knTb
          rw [hk]
          rw [e98] at c202
          rw [e97] at c204
          rw [decide_eq_false (show ¬ f k.toInt.toNat ≤ (iv M 97 w.toInt.toNat).toInt by rw [← hC.2.2.1 _ (show k.toInt.toNat < 10 by omega), ← xe]; omega), Bool.and_false]
          rfl
        · have c204 := hc204
          replace c204 : ¬ (iv N 97 w.toInt.toNat).toInt < (iv N (100 + k.toInt.toNat) x.toInt.toNat).toInt := mC_gt.2 c204
          refine kIcF (mi := 54) (pc := 35) (len := 3) (t := 40) rfl rfl hc204 ?_
          refine kIconst (mi := 54) (pc := 38) (len := 1) (v := 1) rfl ?_
          refine kRetI (mi := 54) (pc := 39) (len := 1) rfl (Or.inr ⟨rfl, Or.inr rfl⟩) ?_
          rw [e98] at c202
          have hb := bs_t r98.1 (by omega) k0 (by omega) c202
          rw [e97] at c204
          have hy : knTb f (iv M 98 w.toInt.toNat).toInt.toNat (iv M 97 w.toInt.toNat).toInt (k.toInt.toNat + 1) = true := by
            unfold knTb
            rw [hk, hb, decide_eq_true (show f k.toInt.toNat ≤ (iv M 97 w.toInt.toNat).toInt by rw [← hC.2.2.1 _ (show k.toInt.toNat < 10 by omega), ← xe]; omega)]
            rfl
          rw [knTb_up hy (show k.toInt.toNat + 1 ≤ 10 by omega)]
          exact ⟨rfl, rfl⟩
theorem talk_ok {s : List Int32} {M N : Mem} {e : Nat} {f : Nat → Int} {w x : Int32} {d : Nat} (hR9 : ∀ p, p < 10 → mSlot M 99 p = some (.ref (100 + p))) (hC : colS s M e f N) (w0 : 0 ≤ w.toInt) (w9 : w.toInt < 20) (x0 : 0 ≤ x.toInt) (x9 : x.toInt < 40) (xe : x.toInt.toNat = e) : Ok d 54 0 (lv_args 0 [.ref 93, .int w, .int x]) [] N (fun r N' => r = some (.int (b2 (knTb f (iv M 98 w.toInt.toNat).toInt.toNat (iv M 97 w.toInt.toNat).toInt 10))) ∧ N' = N) := by
  refine kIconst (mi := 54) (pc := 0) (len := 1) (v := 0) rfl ?_
  refine kIstore (mi := 54) (pc := 1) (len := 1) (i := 3) rfl (by decide) ?_
  exact talk_lp hR9 hC w0 w9 x0 x9 xe 10 (k := 0) rfl rfl rfl rfl (Int.le_refl 0) rfl rfl
theorem tell_lp {s : List Int32} {M : Mem} {e : Nat} {f : Nat → Int} {w x : Int32} {d : Nat} (hd : 3 ≤ d) (hR9 : ∀ p, p < 10 → mSlot M 99 p = some (.ref (100 + p))) (w0 : 0 ≤ w.toInt) (w9 : w.toInt < 20) (x0 : 0 ≤ x.toInt) (x9 : x.toInt < 40) (xe : x.toInt.toNat = e) : ∀ (m : Nat) {N : Mem} {L : MLoc} {k : Int32}, colS s M e (knL f (iv M 98 w.toInt.toNat).toInt.toNat (iv M 97 w.toInt.toNat).toInt k.toInt.toNat) N → mLd L 0 = some (.ref 93) → mLd L 1 = some (.int w) → mLd L 2 = some (.int x) → mLd L 3 = some (.int k) → 0 ≤ k.toInt → k.toInt.toNat + m = 10 → Ok d 55 2 L [] N (fun r N' => r = none ∧ colS s M e (knL f (iv M 98 w.toInt.toNat).toInt.toNat (iv M 97 w.toInt.toNat).toInt 10) N') := by
  intro m
  induction m with
  | zero =>
    intro N L k hC l0 l1 l2 l3 k0 km
    have hT := hC.1
    have hSh := Sh.of hT
    have hR9N : ∀ p, p < 10 → mSlot N 99 p = some (.ref (100 + p)) := fun p hp => (hC.2.1 99 p (by omega)).trans (hR9 p hp)
    have e97 : ∀ k, iv N 97 k = iv M 97 k := fun k => colS_iv hC (by omega)
    have e98 : ∀ k, iv N 98 k = iv M 98 k := fun k => colS_iv hC (by omega)
    have r97 := iv_ty hT (c := 97) (i := w.toInt.toNat) (by decide) (by decide) (by show _ < 20; omega) (lo := 0) (hi' := 999) (gs := []) rfl
    have r98 := iv_ty hT (c := 98) (i := w.toInt.toNat) (by decide) (by decide) (by show _ < 20; omega) (lo := 0) (hi' := 1023) (gs := []) rfl
    rw [e97] at r97
    rw [e98] at r98
    refine kIload (mi := 55) (pc := 2) (len := 1) (i := 3) rfl l3 ?_
    refine kIconst (mi := 55) (pc := 3) (len := 2) (v := 10) rfl ?_
    rcases Bool.eq_false_or_eq_true (mCond .ge k (10 : Int32)) with hc1 | hc1
    · have c1 := hc1
      replace c1 : ¬ k.toInt < 10 := mC_ge.1 c1
      refine kIcT (mi := 55) (pc := 5) (len := 3) (t := 39) rfl rfl hc1 ?_
      refine kRetV (mi := 55) (pc := 39) (len := 1) rfl rfl ?_
      rw [← show k.toInt.toNat = 10 by omega]
      exact ⟨rfl, hC⟩
    · have c1 := hc1
      replace c1 : k.toInt < 10 := mC_ge.2 c1
      refine kIcF (mi := 55) (pc := 5) (len := 3) (t := 39) rfl rfl hc1 ?_
      exfalso
      omega
  | succ m ih =>
    intro N L k hC l0 l1 l2 l3 k0 km
    have hT := hC.1
    have hSh := Sh.of hT
    have hR9N : ∀ p, p < 10 → mSlot N 99 p = some (.ref (100 + p)) := fun p hp => (hC.2.1 99 p (by omega)).trans (hR9 p hp)
    have e97 : ∀ k, iv N 97 k = iv M 97 k := fun k => colS_iv hC (by omega)
    have e98 : ∀ k, iv N 98 k = iv M 98 k := fun k => colS_iv hC (by omega)
    have r97 := iv_ty hT (c := 97) (i := w.toInt.toNat) (by decide) (by decide) (by show _ < 20; omega) (lo := 0) (hi' := 999) (gs := []) rfl
    have r98 := iv_ty hT (c := 98) (i := w.toInt.toNat) (by decide) (by decide) (by show _ < 20; omega) (lo := 0) (hi' := 1023) (gs := []) rfl
    rw [e97] at r97
    rw [e98] at r98
    have ek : k.toInt < 10 → (k + 1).toInt = k.toInt + 1 := fun _ => i32_inc k0 (by omega)
    have en : k.toInt < 10 → (k + 1).toInt.toNat = k.toInt.toNat + 1 := fun q => by rw [ek q]; omega
    refine kIload (mi := 55) (pc := 2) (len := 1) (i := 3) rfl l3 ?_
    refine kIconst (mi := 55) (pc := 3) (len := 2) (v := 10) rfl ?_
    rcases Bool.eq_false_or_eq_true (mCond .ge k (10 : Int32)) with hc201 | hc201
    · have c201 := hc201
      replace c201 : ¬ k.toInt < 10 := mC_ge.1 c201
      refine kIcT (mi := 55) (pc := 5) (len := 3) (t := 39) rfl rfl hc201 ?_
      refine kRetV (mi := 55) (pc := 39) (len := 1) rfl rfl ?_
      rw [← show k.toInt.toNat = 10 by omega]
      exact ⟨rfl, hC⟩
    · have c201 := hc201
      replace c201 : k.toInt < 10 := mC_ge.2 c201
      refine kIcF (mi := 55) (pc := 5) (len := 3) (t := 39) rfl rfl hc201 ?_
      refine kAload (mi := 55) (pc := 8) (len := 1) (i := 0) rfl l0 ?_
      refine kGetf (mi := 55) (pc := 9) (len := 3) (j := 305) rfl (hT.hd (c := 93) (by decide) (by decide)) (by decide) (hT.ref (c := 93) (i := 5) (g := 98) (by decide) (by decide) (by decide) (lo := 0) (hi' := 0) rfl rfl) ?_
      refine kIload (mi := 55) (pc := 12) (len := 1) (i := 1) rfl l1 ?_
      refine kIald (mi := 55) (pc := 13) (len := 1) (n := 20) rfl (hT.hd (c := 98) (by decide) (by decide)) (by show (0 : Int) ≤ w.toInt; omega) (by show w.toInt < 20; omega) ((Sh.of hT).slI (c := 98) (i := w.toInt.toNat) (by decide) (by decide) (by show _ < 20; omega) rfl) ?_
      refine kIload (mi := 55) (pc := 14) (len := 1) (i := 3) rfl l3 ?_
      refine kShr (mi := 55) (pc := 15) (len := 1) rfl ?_
      refine kIconst (mi := 55) (pc := 16) (len := 1) (v := 1) rfl ?_
      refine kAnd (mi := 55) (pc := 17) (len := 1) rfl ?_
      rcases Bool.eq_false_or_eq_true (mCond .eq (((iv N 98 w.toInt.toNat) >>> (k &&& 31)) &&& (1 : Int32)) 0) with hc202 | hc202
      · have c202 := hc202
        replace c202 : (((iv N 98 w.toInt.toNat) >>> (k &&& 31)) &&& (1 : Int32)).toInt = 0 := mC_eq.1 c202
        refine kIfT (mi := 55) (pc := 18) (len := 3) (t := 33) rfl rfl hc202 ?_
        refine kIinc (mi := 55) (pc := 33) (len := 3) (i := 3) (n := 1) rfl l3 (by decide) ?_
        refine kGoto (mi := 55) (pc := 36) (len := 3) (t := 2) rfl rfl ?_
        rw [e98] at c202
        have hb := bs_f r98.1 (by omega) k0 (by omega) c202
        refine ih (k := k + 1) ?_ (mLd_st1_ref (by decide) l0) (mLd_st1_int (by decide) l1) (mLd_st1_int (by decide) l2) mLd_st1_i (by omega) (by omega)
        rw [en (by omega), knL_n hb]
        exact hC
      · have c202 := hc202
        replace c202 : ¬ (((iv N 98 w.toInt.toNat) >>> (k &&& 31)) &&& (1 : Int32)).toInt = 0 := mC_eq.2 c202
        refine kIfF (mi := 55) (pc := 18) (len := 3) (t := 33) rfl rfl hc202 ?_
        refine kAload (mi := 55) (pc := 21) (len := 1) (i := 0) rfl l0 ?_
        refine kIload (mi := 55) (pc := 22) (len := 1) (i := 3) rfl l3 ?_
        refine kIload (mi := 55) (pc := 23) (len := 1) (i := 2) rfl l2 ?_
        refine kAload (mi := 55) (pc := 24) (len := 1) (i := 0) rfl l0 ?_
        refine kGetf (mi := 55) (pc := 25) (len := 3) (j := 304) rfl (hT.hd (c := 93) (by decide) (by decide)) (by decide) (hT.ref (c := 93) (i := 4) (g := 97) (by decide) (by decide) (by decide) (lo := 0) (hi' := 0) rfl rfl) ?_
        refine kIload (mi := 55) (pc := 28) (len := 1) (i := 1) rfl l1 ?_
        refine kIald (mi := 55) (pc := 29) (len := 1) (n := 20) rfl (hT.hd (c := 97) (by decide) (by decide)) (by show (0 : Int) ≤ w.toInt; omega) (by show w.toInt < 20; omega) ((Sh.of hT).slI (c := 97) (i := w.toInt.toNat) (by decide) (by decide) (by show _ < 20; omega) rfl) ?_
        refine Ok.call (mi := 55) (pc := 30) (len := 3) (j := 53) rfl (Or.inr (Or.inl rfl)) (by decide) (mCall_ok (n := 4) (l := 4) (rk := 0) (own := 3) (kd := 1) (as := [.ref 93, .int k, .int x, .int (iv N 97 w.toInt.toNat)]) (rest := []) (by omega) (by decide) rfl rfl rfl rfl rfl rfl (Or.inr (Or.inl ⟨rfl, (tag_of hT (a := 93) (by decide) (by decide)).trans rfl⟩))) ?_
        have q97 := r97
        rw [← e97] at q97
        refine (learn_ok (p := k) (x := x) (v := (iv N 97 w.toInt.toNat)) (by omega) hR9 hC (by omega) (by omega) x0 x9 xe (by omega) (by omega)).mono ?_
        intro r203 K204 hr203
        obtain ⟨er203, hCK204⟩ := hr203
        subst er203
        refine kIinc (mi := 55) (pc := 33) (len := 3) (i := 3) (n := 1) rfl l3 (by decide) ?_
        refine kGoto (mi := 55) (pc := 36) (len := 3) (t := 2) rfl rfl ?_
        rw [e98] at c202
        have hb := bs_t r98.1 (by omega) k0 (by omega) c202
        refine ih (k := k + 1) ?_ (mLd_st1_ref (by decide) l0) (mLd_st1_int (by decide) l1) (mLd_st1_int (by decide) l2) mLd_st1_i (by omega) (by omega)
        rw [en (by omega), knL_y hb]
        have q2 := hCK204
        rw [e97] at q2
        exact q2
theorem tell_ok {s : List Int32} {M N : Mem} {e : Nat} {f : Nat → Int} {w x : Int32} {d : Nat} (hd : 3 ≤ d) (hR9 : ∀ p, p < 10 → mSlot M 99 p = some (.ref (100 + p))) (hC : colS s M e f N) (w0 : 0 ≤ w.toInt) (w9 : w.toInt < 20) (x0 : 0 ≤ x.toInt) (x9 : x.toInt < 40) (xe : x.toInt.toNat = e) : Ok d 55 0 (lv_args 0 [.ref 93, .int w, .int x]) [] N (fun r N' => r = none ∧ colS s M e (knL f (iv M 98 w.toInt.toNat).toInt.toNat (iv M 97 w.toInt.toNat).toInt 10) N') := by
  refine kIconst (mi := 55) (pc := 0) (len := 1) (v := 0) rfl ?_
  refine kIstore (mi := 55) (pc := 1) (len := 1) (i := 3) rfl (by decide) ?_
  exact tell_lp hd hR9 w0 w9 x0 x9 xe 10 (k := 0) (by rw [show (0 : Int32).toInt.toNat = 0 from rfl, knL_0]; exact hC) rfl rfl rfl rfl (Int.le_refl 0) rfl
theorem spr3 {s : List Int32} {M : Mem} {e : Nat} {x : Int32} {d : Nat} (hd : 4 ≤ d) (hR9 : ∀ p, p < 10 → mSlot M 99 p = some (.ref (100 + p))) (he : e < 40) (x0 : 0 ≤ x.toInt) (x9 : x.toInt < 40) (xe : x.toInt.toNat = e) : ∀ (m : Nat) {N : Mem} {L : MLoc} {k : Int32}, colS s M e (knW (fun k => (iv M 97 k).toInt) (fun k => (iv M 98 k).toInt.toNat) (knH (fun k => (iv M 94 k).toInt) (fun k => (iv M 95 k).toInt) (fun k => (iv M 96 k).toInt) (x.toInt.toNat : Int) (knI (iv M (10 + e) 0).toInt (iv M (10 + e) 1).toInt (iv M (10 + e) 3).toInt) (iv M 93 3).toInt.toNat) k.toInt.toNat) N → mLd L 0 = some (.ref 93) → mLd L 1 = some (.int x) → mLd L 2 = some (.ref (10 + e)) → mLd L 3 = some (.int k) → 0 ≤ k.toInt → k.toInt.toNat + m = (iv M 93 6).toInt.toNat → Ok d 52 92 L [] N (fun r N' => r = none ∧ colS s M e (knW (fun k => (iv M 97 k).toInt) (fun k => (iv M 98 k).toInt.toNat) (knH (fun k => (iv M 94 k).toInt) (fun k => (iv M 95 k).toInt) (fun k => (iv M 96 k).toInt) (x.toInt.toNat : Int) (knI (iv M (10 + e) 0).toInt (iv M (10 + e) 1).toInt (iv M (10 + e) 3).toInt) (iv M 93 3).toInt.toNat) (iv M 93 6).toInt.toNat) N') := by
  intro m
  induction m with
  | zero =>
    intro N L k hC l0 l1 l2 l3 k0 km
    have hT := hC.1
    have hSh := Sh.of hT
    have hR9N : ∀ p, p < 10 → mSlot N 99 p = some (.ref (100 + p)) := fun p hp => (hC.2.1 99 p (by omega)).trans (hR9 p hp)
    have e93 : ∀ k, iv N 93 k = iv M 93 k := fun k => colS_iv hC (by omega)
    have rH := iv_ty hT (c := 93) (i := 3) (by decide) (by decide) (by decide) (lo := 0) (hi' := 60) (gs := []) rfl
    have rW := iv_ty hT (c := 93) (i := 6) (by decide) (by decide) (by decide) (lo := 0) (hi' := 20) (gs := []) rfl
    rw [e93] at rH rW
    refine kIload (mi := 52) (pc := 92) (len := 1) (i := 3) rfl l3 ?_
    refine kAload (mi := 52) (pc := 93) (len := 1) (i := 0) rfl l0 ?_
    refine kGetf (mi := 52) (pc := 94) (len := 3) (j := 306) rfl (hT.hd (c := 93) (by decide) (by decide)) (by decide) ((Sh.of hT).slI (c := 93) (i := 6) (by decide) (by decide) (by decide) rfl) ?_
    rcases Bool.eq_false_or_eq_true (mCond .ge k (iv N 93 6)) with hc1 | hc1
    · have c1 := hc1
      replace c1 : ¬ k.toInt < (iv N 93 6).toInt := mC_ge.1 c1; rw [e93] at c1
      refine kIcT (mi := 52) (pc := 97) (len := 3) (t := 121) rfl rfl hc1 ?_
      refine kRetV (mi := 52) (pc := 121) (len := 1) rfl rfl ?_
      rw [← show k.toInt.toNat = (iv M 93 6).toInt.toNat by omega]
      exact ⟨rfl, hC⟩
    · have c1 := hc1
      replace c1 : k.toInt < (iv N 93 6).toInt := mC_ge.2 c1; rw [e93] at c1
      refine kIcF (mi := 52) (pc := 97) (len := 3) (t := 121) rfl rfl hc1 ?_
      exfalso
      omega
  | succ m ih =>
    intro N L k hC l0 l1 l2 l3 k0 km
    have hT := hC.1
    have hSh := Sh.of hT
    have hR9N : ∀ p, p < 10 → mSlot N 99 p = some (.ref (100 + p)) := fun p hp => (hC.2.1 99 p (by omega)).trans (hR9 p hp)
    have e93 : ∀ k, iv N 93 k = iv M 93 k := fun k => colS_iv hC (by omega)
    have rH := iv_ty hT (c := 93) (i := 3) (by decide) (by decide) (by decide) (lo := 0) (hi' := 60) (gs := []) rfl
    have rW := iv_ty hT (c := 93) (i := 6) (by decide) (by decide) (by decide) (lo := 0) (hi' := 20) (gs := []) rfl
    rw [e93] at rH rW
    have ek : k.toInt < 20 → (k + 1).toInt = k.toInt + 1 := fun _ => i32_inc k0 (by omega)
    have en : k.toInt < 20 → (k + 1).toInt.toNat = k.toInt.toNat + 1 := fun q => by rw [ek q]; omega
    refine kIload (mi := 52) (pc := 92) (len := 1) (i := 3) rfl l3 ?_
    refine kAload (mi := 52) (pc := 93) (len := 1) (i := 0) rfl l0 ?_
    refine kGetf (mi := 52) (pc := 94) (len := 3) (j := 306) rfl (hT.hd (c := 93) (by decide) (by decide)) (by decide) ((Sh.of hT).slI (c := 93) (i := 6) (by decide) (by decide) (by decide) rfl) ?_
    rcases Bool.eq_false_or_eq_true (mCond .ge k (iv N 93 6)) with hc201 | hc201
    · have c201 := hc201
      replace c201 : ¬ k.toInt < (iv N 93 6).toInt := mC_ge.1 c201; rw [e93] at c201
      refine kIcT (mi := 52) (pc := 97) (len := 3) (t := 121) rfl rfl hc201 ?_
      refine kRetV (mi := 52) (pc := 121) (len := 1) rfl rfl ?_
      exfalso
      omega
    · have c201 := hc201
      replace c201 : k.toInt < (iv N 93 6).toInt := mC_ge.2 c201; rw [e93] at c201
      refine kIcF (mi := 52) (pc := 97) (len := 3) (t := 121) rfl rfl hc201 ?_
      refine kAload (mi := 52) (pc := 100) (len := 1) (i := 0) rfl l0 ?_
      refine kIload (mi := 52) (pc := 101) (len := 1) (i := 3) rfl l3 ?_
      refine kIload (mi := 52) (pc := 102) (len := 1) (i := 1) rfl l1 ?_
      refine Ok.call (mi := 52) (pc := 103) (len := 3) (j := 54) rfl (Or.inr (Or.inl rfl)) (by decide) (mCall_ok (n := 3) (l := 4) (rk := 2) (own := 3) (kd := 1) (as := [.ref 93, .int k, .int x]) (rest := []) (by omega) (by decide) rfl rfl rfl rfl rfl rfl (Or.inr (Or.inl ⟨rfl, (tag_of hT (a := 93) (by decide) (by decide)).trans rfl⟩))) ?_
      refine (talk_ok (w := k) (x := x) hR9 hC (by omega) (by omega) x0 x9 xe).mono ?_
      intro r202 K203 hr202
      obtain ⟨er202, fr202⟩ := hr202
      subst er202
      rw [fr202]
      rcases Bool.eq_false_or_eq_true (mCond .eq (b2 (knTb (knW (fun k => (iv M 97 k).toInt) (fun k => (iv M 98 k).toInt.toNat) (knH (fun k => (iv M 94 k).toInt) (fun k => (iv M 95 k).toInt) (fun k => (iv M 96 k).toInt) (x.toInt.toNat : Int) (knI (iv M (10 + e) 0).toInt (iv M (10 + e) 1).toInt (iv M (10 + e) 3).toInt) (iv M 93 3).toInt.toNat) k.toInt.toNat) ((fun k => (iv M 98 k).toInt.toNat) k.toInt.toNat) ((fun k => (iv M 97 k).toInt) k.toInt.toNat) 10)) 0) with hc204 | hc204
      · have c204 := hc204
        replace c204 : knTb (knW (fun k => (iv M 97 k).toInt) (fun k => (iv M 98 k).toInt.toNat) (knH (fun k => (iv M 94 k).toInt) (fun k => (iv M 95 k).toInt) (fun k => (iv M 96 k).toInt) (x.toInt.toNat : Int) (knI (iv M (10 + e) 0).toInt (iv M (10 + e) 1).toInt (iv M (10 + e) 3).toInt) (iv M 93 3).toInt.toNat) k.toInt.toNat) ((fun k => (iv M 98 k).toInt.toNat) k.toInt.toNat) ((fun k => (iv M 97 k).toInt) k.toInt.toNat) 10 = false := mB_eq.1 c204
        refine kIfT (mi := 52) (pc := 106) (len := 3) (t := 115) rfl rfl hc204 ?_
        refine kIinc (mi := 52) (pc := 115) (len := 3) (i := 3) (n := 1) rfl l3 (by decide) ?_
        refine kGoto (mi := 52) (pc := 118) (len := 3) (t := 92) rfl rfl ?_
        refine ih (k := k + 1) ?_ (mLd_st1_ref (by decide) l0) (mLd_st1_int (by decide) l1) (mLd_st1_ref (by decide) l2) mLd_st1_i (by omega) (by omega)
        rw [en (by omega)]
        have hb : (knW (fun k => (iv M 97 k).toInt) (fun k => (iv M 98 k).toInt.toNat) (knH (fun k => (iv M 94 k).toInt) (fun k => (iv M 95 k).toInt) (fun k => (iv M 96 k).toInt) (x.toInt.toNat : Int) (knI (iv M (10 + e) 0).toInt (iv M (10 + e) 1).toInt (iv M (10 + e) 3).toInt) (iv M 93 3).toInt.toNat) (k.toInt.toNat + 1)) = (bif knTb (knW (fun k => (iv M 97 k).toInt) (fun k => (iv M 98 k).toInt.toNat) (knH (fun k => (iv M 94 k).toInt) (fun k => (iv M 95 k).toInt) (fun k => (iv M 96 k).toInt) (x.toInt.toNat : Int) (knI (iv M (10 + e) 0).toInt (iv M (10 + e) 1).toInt (iv M (10 + e) 3).toInt) (iv M 93 3).toInt.toNat) k.toInt.toNat) ((fun k => (iv M 98 k).toInt.toNat) k.toInt.toNat) ((fun k => (iv M 97 k).toInt) k.toInt.toNat) 10 then knL (knW (fun k => (iv M 97 k).toInt) (fun k => (iv M 98 k).toInt.toNat) (knH (fun k => (iv M 94 k).toInt) (fun k => (iv M 95 k).toInt) (fun k => (iv M 96 k).toInt) (x.toInt.toNat : Int) (knI (iv M (10 + e) 0).toInt (iv M (10 + e) 1).toInt (iv M (10 + e) 3).toInt) (iv M 93 3).toInt.toNat) k.toInt.toNat) ((fun k => (iv M 98 k).toInt.toNat) k.toInt.toNat) ((fun k => (iv M 97 k).toInt) k.toInt.toNat) 10 else (knW (fun k => (iv M 97 k).toInt) (fun k => (iv M 98 k).toInt.toNat) (knH (fun k => (iv M 94 k).toInt) (fun k => (iv M 95 k).toInt) (fun k => (iv M 96 k).toInt) (x.toInt.toNat : Int) (knI (iv M (10 + e) 0).toInt (iv M (10 + e) 1).toInt (iv M (10 + e) 3).toInt) (iv M 93 3).toInt.toNat) k.toInt.toNat)) := rfl
        rw [hb, c204]
        exact hC
      · have c204 := hc204
        replace c204 : knTb (knW (fun k => (iv M 97 k).toInt) (fun k => (iv M 98 k).toInt.toNat) (knH (fun k => (iv M 94 k).toInt) (fun k => (iv M 95 k).toInt) (fun k => (iv M 96 k).toInt) (x.toInt.toNat : Int) (knI (iv M (10 + e) 0).toInt (iv M (10 + e) 1).toInt (iv M (10 + e) 3).toInt) (iv M 93 3).toInt.toNat) k.toInt.toNat) ((fun k => (iv M 98 k).toInt.toNat) k.toInt.toNat) ((fun k => (iv M 97 k).toInt) k.toInt.toNat) 10 = true := mB_eq.2 c204
        refine kIfF (mi := 52) (pc := 106) (len := 3) (t := 115) rfl rfl hc204 ?_
        refine kAload (mi := 52) (pc := 109) (len := 1) (i := 0) rfl l0 ?_
        refine kIload (mi := 52) (pc := 110) (len := 1) (i := 3) rfl l3 ?_
        refine kIload (mi := 52) (pc := 111) (len := 1) (i := 1) rfl l1 ?_
        refine Ok.call (mi := 52) (pc := 112) (len := 3) (j := 55) rfl (Or.inr (Or.inl rfl)) (by decide) (mCall_ok (n := 3) (l := 4) (rk := 0) (own := 3) (kd := 1) (as := [.ref 93, .int k, .int x]) (rest := []) (by omega) (by decide) rfl rfl rfl rfl rfl rfl (Or.inr (Or.inl ⟨rfl, (tag_of hT (a := 93) (by decide) (by decide)).trans rfl⟩))) ?_
        refine (tell_ok (w := k) (x := x) (by omega) hR9 hC (by omega) (by omega) x0 x9 xe).mono ?_
        intro r205 K206 hr205
        obtain ⟨er205, hCK206⟩ := hr205
        subst er205
        refine kIinc (mi := 52) (pc := 115) (len := 3) (i := 3) (n := 1) rfl l3 (by decide) ?_
        refine kGoto (mi := 52) (pc := 118) (len := 3) (t := 92) rfl rfl ?_
        refine ih (k := k + 1) ?_ (mLd_st1_ref (by decide) l0) (mLd_st1_int (by decide) l1) (mLd_st1_ref (by decide) l2) mLd_st1_i (by omega) (by omega)
        rw [en (by omega)]
        have hb : (knW (fun k => (iv M 97 k).toInt) (fun k => (iv M 98 k).toInt.toNat) (knH (fun k => (iv M 94 k).toInt) (fun k => (iv M 95 k).toInt) (fun k => (iv M 96 k).toInt) (x.toInt.toNat : Int) (knI (iv M (10 + e) 0).toInt (iv M (10 + e) 1).toInt (iv M (10 + e) 3).toInt) (iv M 93 3).toInt.toNat) (k.toInt.toNat + 1)) = (bif knTb (knW (fun k => (iv M 97 k).toInt) (fun k => (iv M 98 k).toInt.toNat) (knH (fun k => (iv M 94 k).toInt) (fun k => (iv M 95 k).toInt) (fun k => (iv M 96 k).toInt) (x.toInt.toNat : Int) (knI (iv M (10 + e) 0).toInt (iv M (10 + e) 1).toInt (iv M (10 + e) 3).toInt) (iv M 93 3).toInt.toNat) k.toInt.toNat) ((fun k => (iv M 98 k).toInt.toNat) k.toInt.toNat) ((fun k => (iv M 97 k).toInt) k.toInt.toNat) 10 then knL (knW (fun k => (iv M 97 k).toInt) (fun k => (iv M 98 k).toInt.toNat) (knH (fun k => (iv M 94 k).toInt) (fun k => (iv M 95 k).toInt) (fun k => (iv M 96 k).toInt) (x.toInt.toNat : Int) (knI (iv M (10 + e) 0).toInt (iv M (10 + e) 1).toInt (iv M (10 + e) 3).toInt) (iv M 93 3).toInt.toNat) k.toInt.toNat) ((fun k => (iv M 98 k).toInt.toNat) k.toInt.toNat) ((fun k => (iv M 97 k).toInt) k.toInt.toNat) 10 else (knW (fun k => (iv M 97 k).toInt) (fun k => (iv M 98 k).toInt.toNat) (knH (fun k => (iv M 94 k).toInt) (fun k => (iv M 95 k).toInt) (fun k => (iv M 96 k).toInt) (x.toInt.toNat : Int) (knI (iv M (10 + e) 0).toInt (iv M (10 + e) 1).toInt (iv M (10 + e) 3).toInt) (iv M 93 3).toInt.toNat) k.toInt.toNat)) := rfl
        rw [hb, c204]
        exact hCK206
theorem spr2 {s : List Int32} {M : Mem} {e : Nat} {x : Int32} {d : Nat} (hd : 4 ≤ d) (hR9 : ∀ p, p < 10 → mSlot M 99 p = some (.ref (100 + p))) (he : e < 40) (x0 : 0 ≤ x.toInt) (x9 : x.toInt < 40) (xe : x.toInt.toNat = e) : ∀ (m : Nat) {N : Mem} {L : MLoc} {k : Int32}, colS s M e (knH (fun k => (iv M 94 k).toInt) (fun k => (iv M 95 k).toInt) (fun k => (iv M 96 k).toInt) (x.toInt.toNat : Int) (knI (iv M (10 + e) 0).toInt (iv M (10 + e) 1).toInt (iv M (10 + e) 3).toInt) k.toInt.toNat) N → mLd L 0 = some (.ref 93) → mLd L 1 = some (.int x) → mLd L 2 = some (.ref (10 + e)) → mLd L 3 = some (.int k) → 0 ≤ k.toInt → k.toInt.toNat + m = (iv M 93 3).toInt.toNat → Ok d 52 49 L [] N (fun r N' => r = none ∧ colS s M e (knW (fun k => (iv M 97 k).toInt) (fun k => (iv M 98 k).toInt.toNat) (knH (fun k => (iv M 94 k).toInt) (fun k => (iv M 95 k).toInt) (fun k => (iv M 96 k).toInt) (x.toInt.toNat : Int) (knI (iv M (10 + e) 0).toInt (iv M (10 + e) 1).toInt (iv M (10 + e) 3).toInt) (iv M 93 3).toInt.toNat) (iv M 93 6).toInt.toNat) N') := by
  intro m
  induction m with
  | zero =>
    intro N L k hC l0 l1 l2 l3 k0 km
    have hT := hC.1
    have hSh := Sh.of hT
    have hR9N : ∀ p, p < 10 → mSlot N 99 p = some (.ref (100 + p)) := fun p hp => (hC.2.1 99 p (by omega)).trans (hR9 p hp)
    have e93 : ∀ k, iv N 93 k = iv M 93 k := fun k => colS_iv hC (by omega)
    have rH := iv_ty hT (c := 93) (i := 3) (by decide) (by decide) (by decide) (lo := 0) (hi' := 60) (gs := []) rfl
    have rW := iv_ty hT (c := 93) (i := 6) (by decide) (by decide) (by decide) (lo := 0) (hi' := 20) (gs := []) rfl
    rw [e93] at rH rW
    refine kIload (mi := 52) (pc := 49) (len := 1) (i := 3) rfl l3 ?_
    refine kAload (mi := 52) (pc := 50) (len := 1) (i := 0) rfl l0 ?_
    refine kGetf (mi := 52) (pc := 51) (len := 3) (j := 303) rfl (hT.hd (c := 93) (by decide) (by decide)) (by decide) ((Sh.of hT).slI (c := 93) (i := 3) (by decide) (by decide) (by decide) rfl) ?_
    rcases Bool.eq_false_or_eq_true (mCond .ge k (iv N 93 3)) with hc1 | hc1
    · have c1 := hc1
      replace c1 : ¬ k.toInt < (iv N 93 3).toInt := mC_ge.1 c1; rw [e93] at c1
      refine kIcT (mi := 52) (pc := 54) (len := 3) (t := 90) rfl rfl hc1 ?_
      refine kIconst (mi := 52) (pc := 90) (len := 1) (v := 0) rfl ?_
      refine kIstore (mi := 52) (pc := 91) (len := 1) (i := 3) rfl (by decide) ?_
      rw [show k.toInt.toNat = (iv M 93 3).toInt.toNat by omega] at hC
      exact spr3 hd hR9 he x0 x9 xe (iv M 93 6).toInt.toNat (k := 0) hC (mLd_st1_ref (by decide) l0) (mLd_st1_int (by decide) l1) (mLd_st1_ref (by decide) l2) mLd_st1_i (Int.le_refl 0) (by show 0 + _ = _; omega)
    · have c1 := hc1
      replace c1 : k.toInt < (iv N 93 3).toInt := mC_ge.2 c1; rw [e93] at c1
      refine kIcF (mi := 52) (pc := 54) (len := 3) (t := 90) rfl rfl hc1 ?_
      exfalso
      omega
  | succ m ih =>
    intro N L k hC l0 l1 l2 l3 k0 km
    have hT := hC.1
    have hSh := Sh.of hT
    have hR9N : ∀ p, p < 10 → mSlot N 99 p = some (.ref (100 + p)) := fun p hp => (hC.2.1 99 p (by omega)).trans (hR9 p hp)
    have e93 : ∀ k, iv N 93 k = iv M 93 k := fun k => colS_iv hC (by omega)
    have rH := iv_ty hT (c := 93) (i := 3) (by decide) (by decide) (by decide) (lo := 0) (hi' := 60) (gs := []) rfl
    have rW := iv_ty hT (c := 93) (i := 6) (by decide) (by decide) (by decide) (lo := 0) (hi' := 20) (gs := []) rfl
    rw [e93] at rH rW
    have ek : k.toInt < 60 → (k + 1).toInt = k.toInt + 1 := fun _ => i32_inc k0 (by omega)
    have en : k.toInt < 60 → (k + 1).toInt.toNat = k.toInt.toNat + 1 := fun q => by rw [ek q]; omega
    refine kIload (mi := 52) (pc := 49) (len := 1) (i := 3) rfl l3 ?_
    refine kAload (mi := 52) (pc := 50) (len := 1) (i := 0) rfl l0 ?_
    refine kGetf (mi := 52) (pc := 51) (len := 3) (j := 303) rfl (hT.hd (c := 93) (by decide) (by decide)) (by decide) ((Sh.of hT).slI (c := 93) (i := 3) (by decide) (by decide) (by decide) rfl) ?_
    rcases Bool.eq_false_or_eq_true (mCond .ge k (iv N 93 3)) with hc201 | hc201
    · have c201 := hc201
      replace c201 : ¬ k.toInt < (iv N 93 3).toInt := mC_ge.1 c201; rw [e93] at c201
      refine kIcT (mi := 52) (pc := 54) (len := 3) (t := 90) rfl rfl hc201 ?_
      refine kIconst (mi := 52) (pc := 90) (len := 1) (v := 0) rfl ?_
      refine kIstore (mi := 52) (pc := 91) (len := 1) (i := 3) rfl (by decide) ?_
      exfalso
      omega
    · have c201 := hc201
      replace c201 : k.toInt < (iv N 93 3).toInt := mC_ge.2 c201; rw [e93] at c201
      refine kIcF (mi := 52) (pc := 54) (len := 3) (t := 90) rfl rfl hc201 ?_
      refine kAload (mi := 52) (pc := 57) (len := 1) (i := 0) rfl l0 ?_
      refine kGetf (mi := 52) (pc := 58) (len := 3) (j := 301) rfl (hT.hd (c := 93) (by decide) (by decide)) (by decide) (hT.ref (c := 93) (i := 1) (g := 95) (by decide) (by decide) (by decide) (lo := 0) (hi' := 0) rfl rfl) ?_
      refine kIload (mi := 52) (pc := 61) (len := 1) (i := 3) rfl l3 ?_
      refine kIald (mi := 52) (pc := 62) (len := 1) (n := 60) rfl (hT.hd (c := 95) (by decide) (by decide)) (by show (0 : Int) ≤ k.toInt; omega) (by show k.toInt < 60; omega) ((Sh.of hT).slI (c := 95) (i := k.toInt.toNat) (by decide) (by decide) (by show _ < 60; omega) rfl) ?_
      refine kIload (mi := 52) (pc := 63) (len := 1) (i := 1) rfl l1 ?_
      rcases Bool.eq_false_or_eq_true (mCond .ne (iv N 95 k.toInt.toNat) x) with hc202 | hc202
      · have c202 := hc202
        replace c202 : ¬ (iv N 95 k.toInt.toNat).toInt = x.toInt := mC_ne.1 c202
        refine kIcT (mi := 52) (pc := 64) (len := 3) (t := 84) rfl rfl hc202 ?_
        refine kIinc (mi := 52) (pc := 84) (len := 3) (i := 3) (n := 1) rfl l3 (by decide) ?_
        refine kGoto (mi := 52) (pc := 87) (len := 3) (t := 49) rfl rfl ?_
        refine ih (k := k + 1) ?_ (mLd_st1_ref (by decide) l0) (mLd_st1_int (by decide) l1) (mLd_st1_ref (by decide) l2) mLd_st1_i (by omega) (by omega)
        rw [en (by omega)]
        unfold knH
        have e95 : iv N 95 k.toInt.toNat = iv M 95 k.toInt.toNat := colS_iv hC (by omega)
        rw [e95] at c202
        rw [if_neg (show ¬ (iv M 95 k.toInt.toNat).toInt = (x.toInt.toNat : Int) by omega)]
        exact hC
      · have c202 := hc202
        replace c202 : (iv N 95 k.toInt.toNat).toInt = x.toInt := mC_ne.2 c202
        refine kIcF (mi := 52) (pc := 64) (len := 3) (t := 84) rfl rfl hc202 ?_
        refine kAload (mi := 52) (pc := 67) (len := 1) (i := 0) rfl l0 ?_
        refine kAload (mi := 52) (pc := 68) (len := 1) (i := 0) rfl l0 ?_
        refine kGetf (mi := 52) (pc := 69) (len := 3) (j := 300) rfl (hT.hd (c := 93) (by decide) (by decide)) (by decide) (hT.ref (c := 93) (i := 0) (g := 94) (by decide) (by decide) (by decide) (lo := 0) (hi' := 0) rfl rfl) ?_
        refine kIload (mi := 52) (pc := 72) (len := 1) (i := 3) rfl l3 ?_
        refine kIald (mi := 52) (pc := 73) (len := 1) (n := 60) rfl (hT.hd (c := 94) (by decide) (by decide)) (by show (0 : Int) ≤ k.toInt; omega) (by show k.toInt < 60; omega) ((Sh.of hT).slI (c := 94) (i := k.toInt.toNat) (by decide) (by decide) (by show _ < 60; omega) rfl) ?_
        refine kIload (mi := 52) (pc := 74) (len := 1) (i := 1) rfl l1 ?_
        refine kAload (mi := 52) (pc := 75) (len := 1) (i := 0) rfl l0 ?_
        refine kGetf (mi := 52) (pc := 76) (len := 3) (j := 302) rfl (hT.hd (c := 93) (by decide) (by decide)) (by decide) (hT.ref (c := 93) (i := 2) (g := 96) (by decide) (by decide) (by decide) (lo := 0) (hi' := 0) rfl rfl) ?_
        refine kIload (mi := 52) (pc := 79) (len := 1) (i := 3) rfl l3 ?_
        refine kIald (mi := 52) (pc := 80) (len := 1) (n := 60) rfl (hT.hd (c := 96) (by decide) (by decide)) (by show (0 : Int) ≤ k.toInt; omega) (by show k.toInt < 60; omega) ((Sh.of hT).slI (c := 96) (i := k.toInt.toNat) (by decide) (by decide) (by show _ < 60; omega) rfl) ?_
        refine Ok.call (mi := 52) (pc := 81) (len := 3) (j := 53) rfl (Or.inr (Or.inl rfl)) (by decide) (mCall_ok (n := 4) (l := 4) (rk := 0) (own := 3) (kd := 1) (as := [.ref 93, .int (iv N 94 k.toInt.toNat), .int x, .int (iv N 96 k.toInt.toNat)]) (rest := []) (by omega) (by decide) rfl rfl rfl rfl rfl rfl (Or.inr (Or.inl ⟨rfl, (tag_of hT (a := 93) (by decide) (by decide)).trans rfl⟩))) ?_
        have r94 := iv_ty hT (c := 94) (i := k.toInt.toNat) (by decide) (by decide) (by show _ < 60; omega) (lo := 0) (hi' := 9) (gs := []) rfl
        have r96 := iv_ty hT (c := 96) (i := k.toInt.toNat) (by decide) (by decide) (by show _ < 60; omega) (lo := 0) (hi' := 999) (gs := []) rfl
        refine (learn_ok (p := (iv N 94 k.toInt.toNat)) (x := x) (v := (iv N 96 k.toInt.toNat)) (by omega) hR9 hC (by omega) (by omega) x0 x9 xe (by omega) (by omega)).mono ?_
        intro r203 K204 hr203
        obtain ⟨er203, hCK204⟩ := hr203
        subst er203
        refine kIinc (mi := 52) (pc := 84) (len := 3) (i := 3) (n := 1) rfl l3 (by decide) ?_
        refine kGoto (mi := 52) (pc := 87) (len := 3) (t := 49) rfl rfl ?_
        refine ih (k := k + 1) ?_ (mLd_st1_ref (by decide) l0) (mLd_st1_int (by decide) l1) (mLd_st1_ref (by decide) l2) mLd_st1_i (by omega) (by omega)
        rw [en (by omega)]
        unfold knH
        have e95 : iv N 95 k.toInt.toNat = iv M 95 k.toInt.toNat := colS_iv hC (by omega)
        rw [e95] at c202
        rw [if_pos (show (iv M 95 k.toInt.toNat).toInt = (x.toInt.toNat : Int) by omega)]
        have q2 := hCK204
        rw [show iv N 94 k.toInt.toNat = iv M 94 k.toInt.toNat from colS_iv hC (by omega), show iv N 96 k.toInt.toNat = iv M 96 k.toInt.toNat from colS_iv hC (by omega)] at q2
        exact q2
theorem deed_day {s : List Int32} {M : Mem} (hT : aTp s M) {e : Nat} (he : e < 40) : 0 ≤ (iv M (10 + e) 3).toInt ∧ (iv M (10 + e) 3).toInt ≤ 999 := by
  obtain ⟨a, b⟩ := deed_b e he
  exact iv_ty hT (c := 10 + e) (i := 3) a b (by rw [deed_g e he]; decide) (lo := 0) (hi' := 999) (gs := []) (by rw [deed_g e he]; rfl)
theorem spr1 {s : List Int32} {M : Mem} {e : Nat} {x : Int32} {d : Nat} (hd : 4 ≤ d) (hR9 : ∀ p, p < 10 → mSlot M 99 p = some (.ref (100 + p))) (he : e < 40) (x0 : 0 ≤ x.toInt) (x9 : x.toInt < 40) (xe : x.toInt.toNat = e) : ∀ (m : Nat) {N : Mem} {L : MLoc} {k : Int32}, colS s M e (fun p => if p < k.toInt.toNat then (knI (iv M (10 + e) 0).toInt (iv M (10 + e) 1).toInt (iv M (10 + e) 3).toInt) p else (iv M (100 + p) e).toInt) N → mLd L 0 = some (.ref 93) → mLd L 1 = some (.int x) → mLd L 2 = some (.ref (10 + e)) → mLd L 3 = some (.int k) → 0 ≤ k.toInt → k.toInt.toNat + m = 10 → Ok d 52 2 L [] N (fun r N' => r = none ∧ colS s M e (knW (fun k => (iv M 97 k).toInt) (fun k => (iv M 98 k).toInt.toNat) (knH (fun k => (iv M 94 k).toInt) (fun k => (iv M 95 k).toInt) (fun k => (iv M 96 k).toInt) (x.toInt.toNat : Int) (knI (iv M (10 + e) 0).toInt (iv M (10 + e) 1).toInt (iv M (10 + e) 3).toInt) (iv M 93 3).toInt.toNat) (iv M 93 6).toInt.toNat) N') := by
  intro m
  induction m with
  | zero =>
    intro N L k hC l0 l1 l2 l3 k0 km
    have hT := hC.1
    have hSh := Sh.of hT
    have hR9N : ∀ p, p < 10 → mSlot N 99 p = some (.ref (100 + p)) := fun p hp => (hC.2.1 99 p (by omega)).trans (hR9 p hp)
    have e93 : ∀ k, iv N 93 k = iv M 93 k := fun k => colS_iv hC (by omega)
    have rH := iv_ty hT (c := 93) (i := 3) (by decide) (by decide) (by decide) (lo := 0) (hi' := 60) (gs := []) rfl
    have rW := iv_ty hT (c := 93) (i := 6) (by decide) (by decide) (by decide) (lo := 0) (hi' := 20) (gs := []) rfl
    rw [e93] at rH rW
    refine kIload (mi := 52) (pc := 2) (len := 1) (i := 3) rfl l3 ?_
    refine kIconst (mi := 52) (pc := 3) (len := 2) (v := 10) rfl ?_
    rcases Bool.eq_false_or_eq_true (mCond .ge k (10 : Int32)) with hc1 | hc1
    · have c1 := hc1
      replace c1 : ¬ k.toInt < 10 := mC_ge.1 c1
      refine kIcT (mi := 52) (pc := 5) (len := 3) (t := 47) rfl rfl hc1 ?_
      refine kIconst (mi := 52) (pc := 47) (len := 1) (v := 0) rfl ?_
      refine kIstore (mi := 52) (pc := 48) (len := 1) (i := 3) rfl (by decide) ?_
      have hC2 : colS s M e (knH (fun k => (iv M 94 k).toInt) (fun k => (iv M 95 k).toInt) (fun k => (iv M 96 k).toInt) (x.toInt.toNat : Int) (knI (iv M (10 + e) 0).toInt (iv M (10 + e) 1).toInt (iv M (10 + e) 3).toInt) 0) N := colS_eq hC (fun p hp => by rw [if_pos (show p < k.toInt.toNat by omega)]; rfl)
      exact spr2 hd hR9 he x0 x9 xe (iv M 93 3).toInt.toNat (k := 0) hC2 (mLd_st1_ref (by decide) l0) (mLd_st1_int (by decide) l1) (mLd_st1_ref (by decide) l2) mLd_st1_i (Int.le_refl 0) (by show 0 + _ = _; omega)
    · have c1 := hc1
      replace c1 : k.toInt < 10 := mC_ge.2 c1
      refine kIcF (mi := 52) (pc := 5) (len := 3) (t := 47) rfl rfl hc1 ?_
      exfalso
      omega
  | succ m ih =>
    intro N L k hC l0 l1 l2 l3 k0 km
    have hT := hC.1
    have hSh := Sh.of hT
    have hR9N : ∀ p, p < 10 → mSlot N 99 p = some (.ref (100 + p)) := fun p hp => (hC.2.1 99 p (by omega)).trans (hR9 p hp)
    have e93 : ∀ k, iv N 93 k = iv M 93 k := fun k => colS_iv hC (by omega)
    have rH := iv_ty hT (c := 93) (i := 3) (by decide) (by decide) (by decide) (lo := 0) (hi' := 60) (gs := []) rfl
    have rW := iv_ty hT (c := 93) (i := 6) (by decide) (by decide) (by decide) (lo := 0) (hi' := 20) (gs := []) rfl
    rw [e93] at rH rW
    have ek : k.toInt < 10 → (k + 1).toInt = k.toInt + 1 := fun _ => i32_inc k0 (by omega)
    have en : k.toInt < 10 → (k + 1).toInt.toNat = k.toInt.toNat + 1 := fun q => by rw [ek q]; omega
    refine kIload (mi := 52) (pc := 2) (len := 1) (i := 3) rfl l3 ?_
    refine kIconst (mi := 52) (pc := 3) (len := 2) (v := 10) rfl ?_
    rcases Bool.eq_false_or_eq_true (mCond .ge k (10 : Int32)) with hc201 | hc201
    · have c201 := hc201
      replace c201 : ¬ k.toInt < 10 := mC_ge.1 c201
      refine kIcT (mi := 52) (pc := 5) (len := 3) (t := 47) rfl rfl hc201 ?_
      refine kIconst (mi := 52) (pc := 47) (len := 1) (v := 0) rfl ?_
      refine kIstore (mi := 52) (pc := 48) (len := 1) (i := 3) rfl (by decide) ?_
      exfalso
      omega
    · have c201 := hc201
      replace c201 : k.toInt < 10 := mC_ge.2 c201
      refine kIcF (mi := 52) (pc := 5) (len := 3) (t := 47) rfl rfl hc201 ?_
      refine kAload (mi := 52) (pc := 8) (len := 1) (i := 0) rfl l0 ?_
      refine kGetf (mi := 52) (pc := 9) (len := 3) (j := 307) rfl (hT.hd (c := 93) (by decide) (by decide)) (by decide) (hT.ref (c := 93) (i := 7) (g := 99) (by decide) (by decide) (by decide) (lo := 0) (hi' := 0) rfl rfl) ?_
      refine kIload (mi := 52) (pc := 12) (len := 1) (i := 3) rfl l3 ?_
      have b202 : k.toInt.toNat < 10 := by omega
      refine kAaldT (mi := 52) (pc := 13) (len := 1) (n := 10) (b := 100 + k.toInt.toNat) rfl (hT.hd (c := 99) (by decide) (by decide)) rfl (by omega) (by show k.toInt < 10; omega) (hR9N _ b202) ?_
      refine kIload (mi := 52) (pc := 14) (len := 1) (i := 1) rfl l1 ?_
      refine kIload (mi := 52) (pc := 15) (len := 1) (i := 3) rfl l3 ?_
      refine kAload (mi := 52) (pc := 16) (len := 1) (i := 2) rfl l2 ?_
      refine kGetf (mi := 52) (pc := 17) (len := 3) (j := 100) rfl (deed_hd hT he) (by decide) (deed_sl hT he (f := 0) (by decide) rfl) ?_
      rcases Bool.eq_false_or_eq_true (mCond .eq k (iv N (10 + e) 0)) with hc203 | hc203
      · have c203 := hc203
        replace c203 : k.toInt = (iv N (10 + e) 0).toInt := mC_eq.1 c203
        refine kIcT (mi := 52) (pc := 20) (len := 3) (t := 31) rfl rfl hc203 ?_
        refine kAload (mi := 52) (pc := 31) (len := 1) (i := 2) rfl l2 ?_
        refine kGetf (mi := 52) (pc := 32) (len := 3) (j := 103) rfl (deed_hd hT he) (by decide) (deed_sl hT he (f := 3) (by decide) rfl) ?_
        refine kGoto (mi := 52) (pc := 35) (len := 3) (t := 40) rfl rfl ?_
        have rD := deed_day hT he
        obtain ⟨N204, eN204⟩ : ∃ X_, X_ = mPut N (100 + k.toInt.toNat) x.toInt.toNat (.int (iv N (10 + e) 3)) := ⟨_, rfl⟩
        have hT205 : aTp s N204 := by rw [eN204]; exact hT.put (a := (100 + k.toInt.toNat)) (i := x.toInt.toNat) (v := .int (iv N (10 + e) 3)) (row_p9 b202).1 (row_p9 b202).2.1 (by rw [(row_p9 b202).2.2]; exact ⟨(iv N (10 + e) 3), rfl, by show (0 : Int) ≤ _; omega, by show _ ≤ (1000000 : Int); omega⟩)
        refine kIast (mi := 52) (pc := 40) (len := 1) (n := 40) rfl (row_hd hT b202) (by omega) (by show (0 : Int) ≤ x.toInt; omega) (by show x.toInt < 40; omega) ?_
        refine Ok_meq eN204 ?_
        have hSh_N204 := Sh.of hT205
        refine kIinc (mi := 52) (pc := 41) (len := 3) (i := 3) (n := 1) rfl l3 (by decide) ?_
        refine kGoto (mi := 52) (pc := 44) (len := 3) (t := 2) rfl rfl ?_
        rw [xe] at eN204
        have kb : k.toInt.toNat < 10 := by omega
        refine ih (k := k + 1) ?_ (mLd_st1_ref (by decide) l0) (mLd_st1_int (by decide) l1) (mLd_st1_ref (by decide) l2) mLd_st1_i (by omega) (by omega)
        rw [en (by omega)]
        refine colS_eq (colS_put hC kb he hT205 eN204) (fun p hp => ?_)
        have d0 : iv N (10 + e) 0 = iv M (10 + e) 0 := colS_iv hC (by omega)
        have d1 : iv N (10 + e) 1 = iv M (10 + e) 1 := colS_iv hC (by omega)
        have d3 : iv N (10 + e) 3 = iv M (10 + e) 3 := colS_iv hC (by omega)
        try rw [d0] at c203
        try rw [d1] at c203
        show (if p = k.toInt.toNat then _ else (if p < k.toInt.toNat then _ else _)) = (if p < k.toInt.toNat + 1 then _ else _)
        by_cases cp : p = k.toInt.toNat
        · rw [if_pos cp, if_pos (show p < k.toInt.toNat + 1 by omega)]
          unfold knI
          rw [if_pos (show (p : Int) = (iv M (10 + e) 0).toInt ∨ (p : Int) = (iv M (10 + e) 1).toInt by omega), d3]
        · rw [if_neg cp]
          by_cases c2 : p < k.toInt.toNat
          · rw [if_pos c2, if_pos (show p < k.toInt.toNat + 1 by omega)]
          · rw [if_neg c2, if_neg (show ¬ p < k.toInt.toNat + 1 by omega)]
      · have c203 := hc203
        replace c203 : ¬ k.toInt = (iv N (10 + e) 0).toInt := mC_eq.2 c203
        refine kIcF (mi := 52) (pc := 20) (len := 3) (t := 31) rfl rfl hc203 ?_
        refine kIload (mi := 52) (pc := 23) (len := 1) (i := 3) rfl l3 ?_
        refine kAload (mi := 52) (pc := 24) (len := 1) (i := 2) rfl l2 ?_
        refine kGetf (mi := 52) (pc := 25) (len := 3) (j := 101) rfl (deed_hd hT he) (by decide) (deed_sl hT he (f := 1) (by decide) rfl) ?_
        rcases Bool.eq_false_or_eq_true (mCond .ne k (iv N (10 + e) 1)) with hc206 | hc206
        · have c206 := hc206
          replace c206 : ¬ k.toInt = (iv N (10 + e) 1).toInt := mC_ne.1 c206
          refine kIcT (mi := 52) (pc := 28) (len := 3) (t := 38) rfl rfl hc206 ?_
          refine kIconst (mi := 52) (pc := 38) (len := 2) (v := 1000000) rfl ?_
          obtain ⟨N207, eN207⟩ : ∃ X_, X_ = mPut N (100 + k.toInt.toNat) x.toInt.toNat (.int (1000000 : Int32)) := ⟨_, rfl⟩
          have hT208 : aTp s N207 := by rw [eN207]; exact hT.put (a := (100 + k.toInt.toNat)) (i := x.toInt.toNat) (v := .int (1000000 : Int32)) (row_p9 b202).1 (row_p9 b202).2.1 (by rw [(row_p9 b202).2.2]; exact ⟨(1000000 : Int32), rfl, by show (0 : Int) ≤ ((1000000 : Int32)).toInt; decide, by show ((1000000 : Int32)).toInt ≤ (1000000 : Int); decide⟩)
          refine kIast (mi := 52) (pc := 40) (len := 1) (n := 40) rfl (row_hd hT b202) (by omega) (by show (0 : Int) ≤ x.toInt; omega) (by show x.toInt < 40; omega) ?_
          refine Ok_meq eN207 ?_
          have hSh_N207 := Sh.of hT208
          refine kIinc (mi := 52) (pc := 41) (len := 3) (i := 3) (n := 1) rfl l3 (by decide) ?_
          refine kGoto (mi := 52) (pc := 44) (len := 3) (t := 2) rfl rfl ?_
          rw [xe] at eN207
          have kb : k.toInt.toNat < 10 := by omega
          refine ih (k := k + 1) ?_ (mLd_st1_ref (by decide) l0) (mLd_st1_int (by decide) l1) (mLd_st1_ref (by decide) l2) mLd_st1_i (by omega) (by omega)
          rw [en (by omega)]
          refine colS_eq (colS_put hC kb he hT208 eN207) (fun p hp => ?_)
          have d0 : iv N (10 + e) 0 = iv M (10 + e) 0 := colS_iv hC (by omega)
          have d1 : iv N (10 + e) 1 = iv M (10 + e) 1 := colS_iv hC (by omega)
          have d3 : iv N (10 + e) 3 = iv M (10 + e) 3 := colS_iv hC (by omega)
          try rw [d0] at c203
          try rw [d1] at c203
          try rw [d0] at c206
          try rw [d1] at c206
          show (if p = k.toInt.toNat then _ else (if p < k.toInt.toNat then _ else _)) = (if p < k.toInt.toNat + 1 then _ else _)
          by_cases cp : p = k.toInt.toNat
          · rw [if_pos cp, if_pos (show p < k.toInt.toNat + 1 by omega)]
            unfold knI
            rw [if_neg (show ¬ ((p : Int) = (iv M (10 + e) 0).toInt ∨ (p : Int) = (iv M (10 + e) 1).toInt) by omega)]
            rfl
          · rw [if_neg cp]
            by_cases c2 : p < k.toInt.toNat
            · rw [if_pos c2, if_pos (show p < k.toInt.toNat + 1 by omega)]
            · rw [if_neg c2, if_neg (show ¬ p < k.toInt.toNat + 1 by omega)]
        · have c206 := hc206
          replace c206 : k.toInt = (iv N (10 + e) 1).toInt := mC_ne.2 c206
          refine kIcF (mi := 52) (pc := 28) (len := 3) (t := 38) rfl rfl hc206 ?_
          refine kAload (mi := 52) (pc := 31) (len := 1) (i := 2) rfl l2 ?_
          refine kGetf (mi := 52) (pc := 32) (len := 3) (j := 103) rfl (deed_hd hT he) (by decide) (deed_sl hT he (f := 3) (by decide) rfl) ?_
          refine kGoto (mi := 52) (pc := 35) (len := 3) (t := 40) rfl rfl ?_
          have rD := deed_day hT he
          obtain ⟨N209, eN209⟩ : ∃ X_, X_ = mPut N (100 + k.toInt.toNat) x.toInt.toNat (.int (iv N (10 + e) 3)) := ⟨_, rfl⟩
          have hT210 : aTp s N209 := by rw [eN209]; exact hT.put (a := (100 + k.toInt.toNat)) (i := x.toInt.toNat) (v := .int (iv N (10 + e) 3)) (row_p9 b202).1 (row_p9 b202).2.1 (by rw [(row_p9 b202).2.2]; exact ⟨(iv N (10 + e) 3), rfl, by show (0 : Int) ≤ _; omega, by show _ ≤ (1000000 : Int); omega⟩)
          refine kIast (mi := 52) (pc := 40) (len := 1) (n := 40) rfl (row_hd hT b202) (by omega) (by show (0 : Int) ≤ x.toInt; omega) (by show x.toInt < 40; omega) ?_
          refine Ok_meq eN209 ?_
          have hSh_N209 := Sh.of hT210
          refine kIinc (mi := 52) (pc := 41) (len := 3) (i := 3) (n := 1) rfl l3 (by decide) ?_
          refine kGoto (mi := 52) (pc := 44) (len := 3) (t := 2) rfl rfl ?_
          rw [xe] at eN209
          have kb : k.toInt.toNat < 10 := by omega
          refine ih (k := k + 1) ?_ (mLd_st1_ref (by decide) l0) (mLd_st1_int (by decide) l1) (mLd_st1_ref (by decide) l2) mLd_st1_i (by omega) (by omega)
          rw [en (by omega)]
          refine colS_eq (colS_put hC kb he hT210 eN209) (fun p hp => ?_)
          have d0 : iv N (10 + e) 0 = iv M (10 + e) 0 := colS_iv hC (by omega)
          have d1 : iv N (10 + e) 1 = iv M (10 + e) 1 := colS_iv hC (by omega)
          have d3 : iv N (10 + e) 3 = iv M (10 + e) 3 := colS_iv hC (by omega)
          try rw [d0] at c203
          try rw [d1] at c203
          try rw [d0] at c206
          try rw [d1] at c206
          show (if p = k.toInt.toNat then _ else (if p < k.toInt.toNat then _ else _)) = (if p < k.toInt.toNat + 1 then _ else _)
          by_cases cp : p = k.toInt.toNat
          · rw [if_pos cp, if_pos (show p < k.toInt.toNat + 1 by omega)]
            unfold knI
            rw [if_pos (show (p : Int) = (iv M (10 + e) 0).toInt ∨ (p : Int) = (iv M (10 + e) 1).toInt by omega), d3]
          · rw [if_neg cp]
            by_cases c2 : p < k.toInt.toNat
            · rw [if_pos c2, if_pos (show p < k.toInt.toNat + 1 by omega)]
            · rw [if_neg c2, if_neg (show ¬ p < k.toInt.toNat + 1 by omega)]
theorem spread_okL {s : List Int32} {M : Mem} {e : Nat} {x : Int32} {d : Nat} {L : MLoc} (hd : 4 ≤ d) (hT : aTp s M) (hR9 : ∀ p, p < 10 → mSlot M 99 p = some (.ref (100 + p))) (he : e < 40) (x0 : 0 ≤ x.toInt) (x9 : x.toInt < 40) (xe : x.toInt.toNat = e) (l0 : mLd L 0 = some (.ref 93)) (l1 : mLd L 1 = some (.int x)) (l2 : mLd L 2 = some (.ref (10 + e))) : Ok d 52 0 L [] M (fun r N' => r = none ∧ colS s M e (knO M e e) N') := by
  have hC : colS s M e (fun p => if p < (0 : Int32).toInt.toNat then (knI (iv M (10 + e) 0).toInt (iv M (10 + e) 1).toInt (iv M (10 + e) 3).toInt) p else (iv M (100 + p) e).toInt) M := ⟨hT, fun _ _ _ => rfl, fun p _ => (if_neg (show ¬ p < (0 : Int32).toInt.toNat from Nat.not_lt_zero p)).symm, aFr.rf⟩
  refine kIconst (mi := 52) (pc := 0) (len := 1) (v := 0) rfl ?_
  refine kIstore (mi := 52) (pc := 1) (len := 1) (i := 3) rfl (by decide) ?_
  have q := spr1 hd hR9 he x0 x9 xe 10 (k := 0) hC (mLd_st1_ref (by decide) l0) (mLd_st1_int (by decide) l1) (mLd_st1_ref (by decide) l2) mLd_st1_i (Int.le_refl 0) rfl
  rw [xe] at q
  exact q
theorem spread_ok {s : List Int32} {M : Mem} {e : Nat} {x : Int32} {d : Nat} (hd : 4 ≤ d) (hT : aTp s M) (hR9 : ∀ p, p < 10 → mSlot M 99 p = some (.ref (100 + p))) (he : e < 40) (x0 : 0 ≤ x.toInt) (x9 : x.toInt < 40) (xe : x.toInt.toNat = e) : Ok d 52 0 (lv_args 0 [.ref 93, .int x, .ref (10 + e)]) [] M (fun r N' => r = none ∧ colS s M e (knO M e e) N') := spread_okL hd hT hR9 he x0 x9 xe rfl rfl rfl

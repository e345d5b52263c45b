/-! whole cases of the law, walked by hand -/
theorem aHoldX_0 {scr : SG} {σ : Nat → Int} {S : AS} {L : MLoc} {st : List Value} {M : Mem} (h : aHold scr σ S L st M) : aHold0 scr σ S L st M := ⟨h.1, h.2.1, h.2.2.1, aMem_0 (aMem_to9 h.2.2.2)⟩
theorem mkHoldX {scr : SG} {σ : Nat → Int} {B : AB} {Z : AZ} {F : AF} {T : List AV} {st : List Value} {M : Mem} (h0 : 0 < B.length) (s0 : σ 0 = 0) (b : hB σ 0 B) (z : hZ σ B.length Z) (f : hF scr σ B.length M F) (ss : aSs scr σ B.length T st) (m : aMem scr M) : aHold scr σ ((B, Z, [], F), [], T) [] st M :=
  have q := mkHold h0 s0 b z f ss (aMem_0 (aMem_to9 m))
  ⟨q.1, q.2.1, q.2.2.1, m⟩
theorem aHoldK_0 {scr : SG} {σ : Nat → Int} {S : AS} {L : MLoc} {st : List Value} {M : Mem} (h : aHoldK scr σ S L st M) : aHold0 scr σ S L st M := ⟨h.1, h.2.1, h.2.2.1, aMem_0 (aMemK_to9 h.2.2.2)⟩
theorem mkHoldK {scr : SG} {σ : Nat → Int} {B : AB} {Z : AZ} {F : AF} {T : List AV} {st : List Value} {M : Mem} (h0 : 0 < B.length) (s0 : σ 0 = 0) (b : hB σ 0 B) (z : hZ σ B.length Z) (f : hF scr σ B.length M F) (ss : aSs scr σ B.length T st) (m : aMemK scr M) : aHoldK scr σ ((B, Z, [], F), [], T) [] st M :=
  have q := mkHold h0 s0 b z f ss (aMem_0 (aMemK_to9 m))
  ⟨q.1, q.2.1, q.2.2.1, m⟩
theorem tag_of {s : List Int32} {M : Mem} (hT : aTp s M) {a : Nat} (h2 : 2 ≤ a) (h3 : a < tEnd) : mTagOf M (.ref a) = tTag (tGrp a) := by
  obtain ⟨fs, m1, _, _⟩ := hT.2.2 a h2 h3
  unfold mTagOf
  dsimp only
  rw [m1]
theorem mCall_ok {d j n l rk own kd : Nat} {st as rest : List Value} {M : Mem} (hd : 1 ≤ d) (hj : j < 282) (hi : mIT j = (n, l, rk, own, kd)) (h1 : Nat.ble n st.length = true) (h2 : Nat.ble ((st.drop n).map fun v => v.category).sum 8 = true) (h3 : Nat.ble (lg_sl (st.take n).reverse).length l = true) (ha : (st.take n).reverse = as) (hr : st.drop n = rest) (hk : kd = 0 ∨ (kd = 1 ∧ mTagOf M (as.headD .null) = own) ∨ (kd = 2 ∧ mIsR (as.headD .null) = true)) : mCall d j st M = some (as, rest) := by
  unfold mCall
  rw [hi]
  subst ha
  subst hr
  dsimp only
  exact if_pos ⟨⟨hd, hj, Nat.le_of_ble_eq_true h1, Nat.le_of_ble_eq_true h2, Nat.le_of_ble_eq_true h3⟩, hk⟩
section
variable {d mi pc len : Nat} {L : MLoc} {st : List Value} {M : Mem} {Q : Option Value → Mem → Prop}
theorem kCallP {ins : Instr} {j : Nat} {as rest : List Value} {v : Value} (hat : mAt mi pc = some (len, ins)) (hi : ins = .invokestatic j ∨ ins = .invokevirtual j ∨ ins = .invokespecial j) (h9 : ¬ 900 ≤ j) (hc : mCall d j st M = some (as, rest)) (f : Ok (d - 1) j 0 (lv_args 0 as) [] M (fun r' M' => r' = some v ∧ M' = M)) (k : Ok d mi (pc + len) L (v :: rest) M Q) : Ok d mi pc L st M Q := by
  refine Ok.call hat hi h9 hc (f.mono ?_)
  intro r' M' hr
  obtain ⟨e1, e2⟩ := hr
  subst e1
  rw [e2]
  exact k
theorem kPopI {x : Int32} (hat : mAt mi pc = some (len, .pop)) (k : Ok d mi (pc + len) L st M Q) : Ok d mi pc L (.int x :: st) M Q := Ok.pl hat rfl k
theorem b2_01 (b : Bool) : b2 b = 0 ∨ b2 b = 1 := by cases b <;> first | exact Or.inl rfl | exact Or.inr rfl
end
theorem bIn_ok {x : Int32} {y : Int32} {d : Nat} {M : Mem} (hd : 0 ≤ d) : Ok d 148 0 (lv_args 0 [.int x, .int y]) [] M (fun r M' => r = some (.int (b2 (bIn x y))) ∧ M' = M) := by
  refine kIload (mi := 148) (pc := 0) (len := 1) (i := 0) rfl rfl ?_
  rcases Bool.eq_false_or_eq_true (mCond .lt x 0) with hc1 | hc1
  · have c1 := hc1
    replace c1 : x.toInt < 0 := mC_lt.1 c1
    refine kIfT (mi := 148) (pc := 1) (len := 3) (t := 13) rfl rfl hc1 ?_
    refine kIconst (mi := 148) (pc := 13) (len := 1) (v := 0) rfl ?_
    refine kRetI (mi := 148) (pc := 14) (len := 1) rfl (Or.inr ⟨rfl, Or.inl rfl⟩) ?_
    have e3 : bIn x y = false := by
      unfold bIn
      simp only [decide_eq_true c1, cond_true, cond_false]
    rw [e3]
    exact ⟨rfl, rfl⟩
  · have c1 := hc1
    replace c1 : ¬ x.toInt < 0 := mC_lt.2 c1
    refine kIfF (mi := 148) (pc := 1) (len := 3) (t := 13) rfl rfl hc1 ?_
    refine kIload (mi := 148) (pc := 4) (len := 1) (i := 0) rfl rfl ?_
    refine kIload (mi := 148) (pc := 5) (len := 1) (i := 1) rfl rfl ?_
    rcases Bool.eq_false_or_eq_true (mCond .ge x y) with hc2 | hc2
    · have c2 := hc2
      replace c2 : ¬ x.toInt < y.toInt := mC_ge.1 c2
      refine kIcT (mi := 148) (pc := 6) (len := 3) (t := 13) rfl rfl hc2 ?_
      refine kIconst (mi := 148) (pc := 13) (len := 1) (v := 0) rfl ?_
      refine kRetI (mi := 148) (pc := 14) (len := 1) rfl (Or.inr ⟨rfl, Or.inl rfl⟩) ?_
      have e3 : bIn x y = false := by
        unfold bIn
        simp only [decide_eq_false c1, decide_eq_false c2, cond_true, cond_false]
      rw [e3]
      exact ⟨rfl, rfl⟩
    · have c2 := hc2
      replace c2 : x.toInt < y.toInt := mC_ge.2 c2
      refine kIcF (mi := 148) (pc := 6) (len := 3) (t := 13) rfl rfl hc2 ?_
      refine kIconst (mi := 148) (pc := 9) (len := 1) (v := 1) rfl ?_
      refine kGoto (mi := 148) (pc := 10) (len := 3) (t := 14) rfl rfl ?_
      refine kRetI (mi := 148) (pc := 14) (len := 1) rfl (Or.inr ⟨rfl, Or.inr rfl⟩) ?_
      have e3 : bIn x y = true := by
        unfold bIn
        simp only [decide_eq_false c1, decide_eq_true c2, cond_true, cond_false]
      rw [e3]
      exact ⟨rfl, rfl⟩
theorem bPer_ok {x : Int32} {d : Nat} {M : Mem} (hd : 1 ≤ d) : Ok d 149 0 (lv_args 0 [.int x]) [] M (fun r M' => r = some (.int (b2 (bPer x))) ∧ M' = M) := by
  refine kIload (mi := 149) (pc := 0) (len := 1) (i := 0) rfl rfl ?_
  refine kIconst (mi := 149) (pc := 1) (len := 2) (v := 10) rfl ?_
  refine kCallP (mi := 149) (pc := 3) (len := 3) (j := 148) rfl (Or.inl rfl) (by decide) (mCall_ok (n := 2) (l := 2) (rk := 2) (own := 10) (kd := 0) (as := [.int x, .int (10 : Int32)]) (rest := []) (by omega) (by decide) rfl rfl rfl rfl rfl rfl (Or.inl rfl)) (bIn_ok (by omega)) ?_
  refine kRetI (mi := 149) (pc := 6) (len := 1) rfl (Or.inr ⟨rfl, b2_01 _⟩) ?_
  have e3 : bPer x = bIn x (10 : Int32) := by
    unfold bPer
    rfl
  rw [e3]
  exact ⟨rfl, rfl⟩
theorem bStr_ok {x : Int32} {d : Nat} {M : Mem} (hd : 1 ≤ d) : Ok d 150 0 (lv_args 0 [.int x]) [] M (fun r M' => r = some (.int (b2 (bStr x))) ∧ M' = M) := by
  refine kIload (mi := 150) (pc := 0) (len := 1) (i := 0) rfl rfl ?_
  refine kIconst (mi := 150) (pc := 1) (len := 2) (v := 8) rfl ?_
  refine kCallP (mi := 150) (pc := 3) (len := 3) (j := 148) rfl (Or.inl rfl) (by decide) (mCall_ok (n := 2) (l := 2) (rk := 2) (own := 10) (kd := 0) (as := [.int x, .int (8 : Int32)]) (rest := []) (by omega) (by decide) rfl rfl rfl rfl rfl rfl (Or.inl rfl)) (bIn_ok (by omega)) ?_
  refine kRetI (mi := 150) (pc := 6) (len := 1) rfl (Or.inr ⟨rfl, b2_01 _⟩) ?_
  have e3 : bStr x = bIn x (8 : Int32) := by
    unfold bStr
    rfl
  rw [e3]
  exact ⟨rfl, rfl⟩
theorem rIn_ok {v : Int32} {x : Int32} {y : Int32} {d : Nat} {M : Mem} (hd : 0 ≤ d) : Ok d 160 0 (lv_args 0 [.int v, .int x, .int y]) [] M (fun r M' => r = some (.int (b2 (rIn v x y))) ∧ M' = M) := by
  refine kIload (mi := 160) (pc := 0) (len := 1) (i := 0) rfl rfl ?_
  refine kIload (mi := 160) (pc := 1) (len := 1) (i := 1) rfl rfl ?_
  rcases Bool.eq_false_or_eq_true (mCond .lt v x) with hc1 | hc1
  · have c1 := hc1
    replace c1 : v.toInt < x.toInt := mC_lt.1 c1
    refine kIcT (mi := 160) (pc := 2) (len := 3) (t := 14) rfl rfl hc1 ?_
    refine kIconst (mi := 160) (pc := 14) (len := 1) (v := 0) rfl ?_
    refine kRetI (mi := 160) (pc := 15) (len := 1) rfl (Or.inr ⟨rfl, Or.inl rfl⟩) ?_
    have e3 : rIn v x y = false := by
      unfold rIn
      simp only [decide_eq_true c1, cond_true, cond_false]
    rw [e3]
    exact ⟨rfl, rfl⟩
  · have c1 := hc1
    replace c1 : ¬ v.toInt < x.toInt := mC_lt.2 c1
    refine kIcF (mi := 160) (pc := 2) (len := 3) (t := 14) rfl rfl hc1 ?_
    refine kIload (mi := 160) (pc := 5) (len := 1) (i := 0) rfl rfl ?_
    refine kIload (mi := 160) (pc := 6) (len := 1) (i := 2) rfl rfl ?_
    rcases Bool.eq_false_or_eq_true (mCond .gt v y) with hc2 | hc2
    · have c2 := hc2
      replace c2 : y.toInt < v.toInt := mC_gt.1 c2
      refine kIcT (mi := 160) (pc := 7) (len := 3) (t := 14) rfl rfl hc2 ?_
      refine kIconst (mi := 160) (pc := 14) (len := 1) (v := 0) rfl ?_
      refine kRetI (mi := 160) (pc := 15) (len := 1) rfl (Or.inr ⟨rfl, Or.inl rfl⟩) ?_
      have e3 : rIn v x y = false := by
        unfold rIn
        simp only [decide_eq_false c1, decide_eq_true c2, cond_true, cond_false]
      rw [e3]
      exact ⟨rfl, rfl⟩
    · have c2 := hc2
      replace c2 : ¬ y.toInt < v.toInt := mC_gt.2 c2
      refine kIcF (mi := 160) (pc := 7) (len := 3) (t := 14) rfl rfl hc2 ?_
      refine kIconst (mi := 160) (pc := 10) (len := 1) (v := 1) rfl ?_
      refine kGoto (mi := 160) (pc := 11) (len := 3) (t := 15) rfl rfl ?_
      refine kRetI (mi := 160) (pc := 15) (len := 1) rfl (Or.inr ⟨rfl, Or.inr rfl⟩) ?_
      have e3 : rIn v x y = true := by
        unfold rIn
        simp only [decide_eq_false c1, decide_eq_false c2, cond_true, cond_false]
      rw [e3]
      exact ⟨rfl, rfl⟩
theorem rPer_ok {x : Int32} {d : Nat} {M : Mem} (hd : 0 ≤ d) : Ok d 162 0 (lv_args 0 [.int x]) [] M (fun r M' => r = some (.int (b2 (rPer x))) ∧ M' = M) := by
  refine kIload (mi := 162) (pc := 0) (len := 1) (i := 0) rfl rfl ?_
  rcases Bool.eq_false_or_eq_true (mCond .lt x 0) with hc1 | hc1
  · have c1 := hc1
    replace c1 : x.toInt < 0 := mC_lt.1 c1
    refine kIfT (mi := 162) (pc := 1) (len := 3) (t := 14) rfl rfl hc1 ?_
    refine kIconst (mi := 162) (pc := 14) (len := 1) (v := 0) rfl ?_
    refine kRetI (mi := 162) (pc := 15) (len := 1) rfl (Or.inr ⟨rfl, Or.inl rfl⟩) ?_
    have e3 : rPer x = false := by
      unfold rPer
      simp only [decide_eq_true c1, cond_true, cond_false]
    rw [e3]
    exact ⟨rfl, rfl⟩
  · have c1 := hc1
    replace c1 : ¬ x.toInt < 0 := mC_lt.2 c1
    refine kIfF (mi := 162) (pc := 1) (len := 3) (t := 14) rfl rfl hc1 ?_
    refine kIload (mi := 162) (pc := 4) (len := 1) (i := 0) rfl rfl ?_
    refine kIconst (mi := 162) (pc := 5) (len := 2) (v := 10) rfl ?_
    rcases Bool.eq_false_or_eq_true (mCond .ge x (10 : Int32)) with hc2 | hc2
    · have c2 := hc2
      replace c2 : ¬ x.toInt < 10 := mC_ge.1 c2
      refine kIcT (mi := 162) (pc := 7) (len := 3) (t := 14) rfl rfl hc2 ?_
      refine kIconst (mi := 162) (pc := 14) (len := 1) (v := 0) rfl ?_
      refine kRetI (mi := 162) (pc := 15) (len := 1) rfl (Or.inr ⟨rfl, Or.inl rfl⟩) ?_
      have e3 : rPer x = false := by
        unfold rPer
        simp only [decide_eq_false c1, decide_eq_false c2, cond_true, cond_false]
      rw [e3]
      exact ⟨rfl, rfl⟩
    · have c2 := hc2
      replace c2 : x.toInt < 10 := mC_ge.2 c2
      refine kIcF (mi := 162) (pc := 7) (len := 3) (t := 14) rfl rfl hc2 ?_
      refine kIconst (mi := 162) (pc := 10) (len := 1) (v := 1) rfl ?_
      refine kGoto (mi := 162) (pc := 11) (len := 3) (t := 15) rfl rfl ?_
      refine kRetI (mi := 162) (pc := 15) (len := 1) rfl (Or.inr ⟨rfl, Or.inr rfl⟩) ?_
      have e3 : rPer x = true := by
        unfold rPer
        simp only [decide_eq_false c1, decide_eq_true c2, cond_true, cond_false]
      rw [e3]
      exact ⟨rfl, rfl⟩
theorem rStr_ok {x : Int32} {d : Nat} {M : Mem} (hd : 0 ≤ d) : Ok d 163 0 (lv_args 0 [.int x]) [] M (fun r M' => r = some (.int (b2 (rStr x))) ∧ M' = M) := by
  refine kIload (mi := 163) (pc := 0) (len := 1) (i := 0) rfl rfl ?_
  rcases Bool.eq_false_or_eq_true (mCond .lt x 0) with hc1 | hc1
  · have c1 := hc1
    replace c1 : x.toInt < 0 := mC_lt.1 c1
    refine kIfT (mi := 163) (pc := 1) (len := 3) (t := 14) rfl rfl hc1 ?_
    refine kIconst (mi := 163) (pc := 14) (len := 1) (v := 0) rfl ?_
    refine kRetI (mi := 163) (pc := 15) (len := 1) rfl (Or.inr ⟨rfl, Or.inl rfl⟩) ?_
    have e3 : rStr x = false := by
      unfold rStr
      simp only [decide_eq_true c1, cond_true, cond_false]
    rw [e3]
    exact ⟨rfl, rfl⟩
  · have c1 := hc1
    replace c1 : ¬ x.toInt < 0 := mC_lt.2 c1
    refine kIfF (mi := 163) (pc := 1) (len := 3) (t := 14) rfl rfl hc1 ?_
    refine kIload (mi := 163) (pc := 4) (len := 1) (i := 0) rfl rfl ?_
    refine kIconst (mi := 163) (pc := 5) (len := 2) (v := 8) rfl ?_
    rcases Bool.eq_false_or_eq_true (mCond .ge x (8 : Int32)) with hc2 | hc2
    · have c2 := hc2
      replace c2 : ¬ x.toInt < 8 := mC_ge.1 c2
      refine kIcT (mi := 163) (pc := 7) (len := 3) (t := 14) rfl rfl hc2 ?_
      refine kIconst (mi := 163) (pc := 14) (len := 1) (v := 0) rfl ?_
      refine kRetI (mi := 163) (pc := 15) (len := 1) rfl (Or.inr ⟨rfl, Or.inl rfl⟩) ?_
      have e3 : rStr x = false := by
        unfold rStr
        simp only [decide_eq_false c1, decide_eq_false c2, cond_true, cond_false]
      rw [e3]
      exact ⟨rfl, rfl⟩
    · have c2 := hc2
      replace c2 : x.toInt < 8 := mC_ge.2 c2
      refine kIcF (mi := 163) (pc := 7) (len := 3) (t := 14) rfl rfl hc2 ?_
      refine kIconst (mi := 163) (pc := 10) (len := 1) (v := 1) rfl ?_
      refine kGoto (mi := 163) (pc := 11) (len := 3) (t := 15) rfl rfl ?_
      refine kRetI (mi := 163) (pc := 15) (len := 1) rfl (Or.inr ⟨rfl, Or.inr rfl⟩) ?_
      have e3 : rStr x = true := by
        unfold rStr
        simp only [decide_eq_false c1, decide_eq_true c2, cond_true, cond_false]
      rw [e3]
      exact ⟨rfl, rfl⟩
theorem bDay_ok {x : Int32} {d : Nat} {M : Mem} (hd : 1 ≤ d) : Ok d 151 0 (lv_args 0 [.int x]) [] M (fun r M' => r = some (.int (b2 (bDay x))) ∧ M' = M) := by
  refine kIload (mi := 151) (pc := 0) (len := 1) (i := 0) rfl rfl ?_
  refine kIconst (mi := 151) (pc := 1) (len := 3) (v := 1000) rfl ?_
  refine kCallP (mi := 151) (pc := 4) (len := 3) (j := 148) rfl (Or.inl rfl) (by decide) (mCall_ok (n := 2) (l := 2) (rk := 2) (own := 10) (kd := 0) (as := [.int x, .int (1000 : Int32)]) (rest := []) (by omega) (by decide) rfl rfl rfl rfl rfl rfl (Or.inl rfl)) (bIn_ok (by omega)) ?_
  refine kRetI (mi := 151) (pc := 7) (len := 1) rfl (Or.inr ⟨rfl, b2_01 _⟩) ?_
  have e3 : bDay x = bIn x (1000 : Int32) := by
    unfold bDay
    rfl
  rw [e3]
  exact ⟨rfl, rfl⟩
theorem rDay_ok {x : Int32} {d : Nat} {M : Mem} (hd : 1 ≤ d) : Ok d 161 0 (lv_args 0 [.int x]) [] M (fun r M' => r = some (.int (b2 (rDay x))) ∧ M' = M) := by
  refine kIload (mi := 161) (pc := 0) (len := 1) (i := 0) rfl rfl ?_
  rcases Bool.eq_false_or_eq_true (mCond .lt x 0) with hc1 | hc1
  · have c1 := hc1
    replace c1 : x.toInt < 0 := mC_lt.1 c1
    refine kIfT (mi := 161) (pc := 1) (len := 3) (t := 15) rfl rfl hc1 ?_
    refine kIconst (mi := 161) (pc := 15) (len := 1) (v := 0) rfl ?_
    refine kRetI (mi := 161) (pc := 16) (len := 1) rfl (Or.inr ⟨rfl, Or.inl rfl⟩) ?_
    have e3 : rDay x = false := by
      unfold rDay
      simp only [decide_eq_true c1, cond_true, cond_false]
    rw [e3]
    exact ⟨rfl, rfl⟩
  · have c1 := hc1
    replace c1 : ¬ x.toInt < 0 := mC_lt.2 c1
    refine kIfF (mi := 161) (pc := 1) (len := 3) (t := 15) rfl rfl hc1 ?_
    refine kIload (mi := 161) (pc := 4) (len := 1) (i := 0) rfl rfl ?_
    refine kIconst (mi := 161) (pc := 5) (len := 3) (v := 999) rfl ?_
    rcases Bool.eq_false_or_eq_true (mCond .gt x (999 : Int32)) with hc2 | hc2
    · have c2 := hc2
      replace c2 : 999 < x.toInt := mC_gt.1 c2
      refine kIcT (mi := 161) (pc := 8) (len := 3) (t := 15) rfl rfl hc2 ?_
      refine kIconst (mi := 161) (pc := 15) (len := 1) (v := 0) rfl ?_
      refine kRetI (mi := 161) (pc := 16) (len := 1) rfl (Or.inr ⟨rfl, Or.inl rfl⟩) ?_
      have e3 : rDay x = false := by
        unfold rDay
        simp only [decide_eq_false c1, decide_eq_true c2, cond_true, cond_false]
      rw [e3]
      exact ⟨rfl, rfl⟩
    · have c2 := hc2
      replace c2 : ¬ 999 < x.toInt := mC_gt.2 c2
      refine kIcF (mi := 161) (pc := 8) (len := 3) (t := 15) rfl rfl hc2 ?_
      refine kIconst (mi := 161) (pc := 11) (len := 1) (v := 1) rfl ?_
      refine kGoto (mi := 161) (pc := 12) (len := 3) (t := 16) rfl rfl ?_
      refine kRetI (mi := 161) (pc := 16) (len := 1) rfl (Or.inr ⟨rfl, Or.inr rfl⟩) ?_
      have e3 : rDay x = true := by
        unfold rDay
        simp only [decide_eq_false c1, decide_eq_false c2, cond_true, cond_false]
      rw [e3]
      exact ⟨rfl, rfl⟩

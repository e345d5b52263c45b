/-! whole cases of the law, walked by hand -/
theorem aHoldX_0 {scr : SG} {σ : Nat → Int} {S : AS} {L : MLoc} {st : List Value} {M : Mem} (h : aHold scr σ S L st M) : aHold0 scr σ S L st M := ⟨h.1, h.2.1, h.2.2.1, aMem_0 (aMem_to9 h.2.2.2)⟩
theorem mkHoldX {scr : SG} {σ : Nat → Int} {B : AB} {Z : AZ} {F : AF} {T : List AV} {st : List Value} {M : Mem} (h0 : 0 < B.length) (s0 : σ 0 = 0) (b : hB σ 0 B) (z : hZ σ B.length Z) (f : hF scr σ B.length M F) (ss : aSs scr σ B.length T st) (m : aMem scr M) : aHold scr σ ((B, Z, [], F), [], T) [] st M :=
  have q := mkHold h0 s0 b z f ss (aMem_0 (aMem_to9 m))
  ⟨q.1, q.2.1, q.2.2.1, m⟩
theorem tag_of {s : List Int32} {M : Mem} (hT : aTp s M) {a : Nat} (h2 : 2 ≤ a) (h3 : a < tEnd) : mTagOf M (.ref a) = tTag (tGrp a) := by
  obtain ⟨fs, m1, _, _⟩ := hT.2.2 a h2 h3
  unfold mTagOf
  dsimp only
  rw [m1]
theorem mCall_ok {d j n l rk own kd : Nat} {st as rest : List Value} {M : Mem} (hd : 1 ≤ d) (hj : j < 282) (hi : mIT j = (n, l, rk, own, kd)) (h1 : Nat.ble n st.length = true) (h2 : Nat.ble ((st.drop n).map fun v => v.category).sum 8 = true) (h3 : Nat.ble (lg_sl (st.take n).reverse).length l = true) (ha : (st.take n).reverse = as) (hr : st.drop n = rest) (hk : kd = 0 ∨ (kd = 1 ∧ mTagOf M (as.headD .null) = own) ∨ (kd = 2 ∧ mIsR (as.headD .null) = true)) : mCall d j st M = some (as, rest) := by
  unfold mCall
  rw [hi]
  subst ha
  subst hr
  dsimp only
  exact if_pos ⟨⟨hd, hj, Nat.le_of_ble_eq_true h1, Nat.le_of_ble_eq_true h2, Nat.le_of_ble_eq_true h3⟩, hk⟩
section
variable {d mi pc len : Nat} {L : MLoc} {st : List Value} {M : Mem} {Q : Option Value → Mem → Prop}
theorem kCallP {ins : Instr} {j : Nat} {as rest : List Value} {v : Value} (hat : mAt mi pc = some (len, ins)) (hi : ins = .invokestatic j ∨ ins = .invokevirtual j ∨ ins = .invokespecial j) (h9 : ¬ 900 ≤ j) (hc : mCall d j st M = some (as, rest)) (f : Ok (d - 1) j 0 (lv_args 0 as) [] M (fun r' M' => r' = some v ∧ M' = M)) (k : Ok d mi (pc + len) L (v :: rest) M Q) : Ok d mi pc L st M Q := by
  refine Ok.call hat hi h9 hc (f.mono ?_)
  intro r' M' hr
  obtain ⟨e1, e2⟩ := hr
  subst e1
  rw [e2]
  exact k
theorem kPopI {x : Int32} (hat : mAt mi pc = some (len, .pop)) (k : Ok d mi (pc + len) L st M Q) : Ok d mi pc L (.int x :: st) M Q := Ok.pl hat rfl k
theorem b2_01 (b : Bool) : b2 b = 0 ∨ b2 b = 1 := by cases b <;> first | exact Or.inl rfl | exact Or.inr rfl
/-- an int of the script, as it was read -/
theorem kArg {s : List Int32} {γ : Gh} {c ln : Nat} {ci : Int} {l3 : Int32} (h1 : mAt 282 pc = some (1, .aload 0)) (h2 : mAt 282 (pc + 1) = some (1, .iload 3)) (h3 : mAt 282 (pc + 1 + 1) = some (ln, .iconst ci)) (h4 : mAt 282 (pc + 1 + 1 + ln) = some (1, .iadd)) (h5 : mAt 282 (pc + 1 + 1 + ln + 1) = some (1, .iaload)) (hc : (Int32.ofInt ci).toInt = (c : Int)) (hc1 : 1 ≤ c) (hc8 : c ≤ 8) (l0 : mLd L 0 = some (.ref 0)) (hl3 : mLd L 3 = some (.int l3)) (hT : aTp s M) (h8 : x8 (s, γ)) (q0 : (γ 1010 0).toInt = l3.toInt) (b0 : 0 ≤ l3.toInt) (b9 : l3.toInt + 9 ≤ (s.length : Int)) (b5 : s.length ≤ 576) (k : Ok d 282 (pc + 1 + 1 + ln + 1 + 1) L (.int (γ 1011 c) :: st) M Q) : Ok d 282 pc L st M Q := by
  have e8 := h8.1 (by show 0 ≤ (γ 1010 0).toInt; omega) c hc1 hc8
  have e8 : s[(γ 1010 0).toInt.toNat + c]? = some (γ 1011 c) := e8
  have ea : (l3 + Int32.ofInt ci).toInt = l3.toInt + c := by
    rw [i32_add (by omega) (by omega), hc]
  have hk : (l3 + Int32.ofInt ci).toInt.toNat < s.length := by omega
  have sl := scr_slot hT hk
  rw [List.getElem?_eq_getElem (by omega)] at e8
  have e9 : s[(l3 + Int32.ofInt ci).toInt.toNat] = γ 1011 c := by
    rw [← Option.some.inj e8]
    congr 1
    omega
  rw [e9] at sl
  refine kAload (len := 1) (i := 0) h1 l0 ?_
  refine kIload (len := 1) (i := 3) h2 hl3 ?_
  refine kIconst h3 ?_
  refine kAdd h4 ?_
  refine kIald (n := s.length) h5 (scr_hd hT) (by omega) (by omega) sl ?_
  exact k
/-- a call of a public method: its contract, and what its run shows backwards -/
theorem kCallC {s : List Int32} {γ : Gh} {σ : Nat → Int} {ins : Instr} {j : Nat} {as rest : List Value} {c : CT} {R : Option Value → Mem → Prop} (hs : cSound s c) (cj : c.1 = j) (c0 : c.2.1 = 0) (hat : mAt mi pc = some (len, ins)) (hi : ins = .invokestatic j ∨ ins = .invokevirtual j ∨ ins = .invokespecial j) (h9 : ¬ 900 ≤ j) (hc : mCall d j st M = some (as, rest)) (hd : c.2.2.1 ≤ d - 1) (hH : aHold (s, γ) σ c.2.2.2.1 (lv_args 0 as) [] M) (f : ∀ n d' r' M', En n d' j 0 (lv_args 0 as) [] M r' M' → R r' M') (k : ∀ r' M' γ', R r' M' → aFr c.2.2.2.2.2 M M' → gFr c.2.2.2.2.2 γ γ' → aMem (s, γ') M' → Ok d mi (pc + len) L (r'.toList ++ rest) M' Q) : Ok d mi pc L st M Q := by
  subst cj
  refine Ok.call hat hi h9 hc ?_
  have h := hs γ (d - 1) σ (lv_args 0 as) M hd hH
  rw [c0] at h
  refine Ok.en h ?_
  intro n r' M' hE hq
  obtain ⟨hf, γ', hg, o, _, σ', _, hO⟩ := hq
  exact k r' M' γ' (f _ _ _ _ hE) hf hg hO.2.2.2
end
theorem bIn_ok {x : Int32} {y : Int32} {d : Nat} {M : Mem} (hd : 0 ≤ d) : Ok d 148 0 (lv_args 0 [.int x, .int y]) [] M (fun r M' => r = some (.int (b2 (bIn x y))) ∧ M' = M) := by
  refine kIload (mi := 148) (pc := 0) (len := 1) (i := 0) rfl rfl ?_
  rcases Bool.eq_false_or_eq_true (mCond .lt x 0) with hc1 | hc1
  · have c1 := hc1
    replace c1 : x.toInt < 0 := mC_lt.1 c1
    refine kIfT (mi := 148) (pc := 1) (len := 3) (t := 13) rfl rfl hc1 ?_
    refine kIconst (mi := 148) (pc := 13) (len := 1) (v := 0) rfl ?_
    refine kRetI (mi := 148) (pc := 14) (len := 1) rfl (Or.inr ⟨rfl, Or.inl rfl⟩) ?_
    have e3 : bIn x y = false := by
      unfold bIn
      simp only [decide_eq_true c1, cond_true, cond_false]
    rw [e3]
    exact ⟨rfl, rfl⟩
  · have c1 := hc1
    replace c1 : ¬ x.toInt < 0 := mC_lt.2 c1
    refine kIfF (mi := 148) (pc := 1) (len := 3) (t := 13) rfl rfl hc1 ?_
    refine kIload (mi := 148) (pc := 4) (len := 1) (i := 0) rfl rfl ?_
    refine kIload (mi := 148) (pc := 5) (len := 1) (i := 1) rfl rfl ?_
    rcases Bool.eq_false_or_eq_true (mCond .ge x y) with hc2 | hc2
    · have c2 := hc2
      replace c2 : ¬ x.toInt < y.toInt := mC_ge.1 c2
      refine kIcT (mi := 148) (pc := 6) (len := 3) (t := 13) rfl rfl hc2 ?_
      refine kIconst (mi := 148) (pc := 13) (len := 1) (v := 0) rfl ?_
      refine kRetI (mi := 148) (pc := 14) (len := 1) rfl (Or.inr ⟨rfl, Or.inl rfl⟩) ?_
      have e3 : bIn x y = false := by
        unfold bIn
        simp only [decide_eq_false c1, decide_eq_false c2, cond_true, cond_false]
      rw [e3]
      exact ⟨rfl, rfl⟩
    · have c2 := hc2
      replace c2 : x.toInt < y.toInt := mC_ge.2 c2
      refine kIcF (mi := 148) (pc := 6) (len := 3) (t := 13) rfl rfl hc2 ?_
      refine kIconst (mi := 148) (pc := 9) (len := 1) (v := 1) rfl ?_
      refine kGoto (mi := 148) (pc := 10) (len := 3) (t := 14) rfl rfl ?_
      refine kRetI (mi := 148) (pc := 14) (len := 1) rfl (Or.inr ⟨rfl, Or.inr rfl⟩) ?_
      have e3 : bIn x y = true := by
        unfold bIn
        simp only [decide_eq_false c1, decide_eq_true c2, cond_true, cond_false]
      rw [e3]
      exact ⟨rfl, rfl⟩
theorem bPer_ok {x : Int32} {d : Nat} {M : Mem} (hd : 1 ≤ d) : Ok d 149 0 (lv_args 0 [.int x]) [] M (fun r M' => r = some (.int (b2 (bPer x))) ∧ M' = M) := by
  refine kIload (mi := 149) (pc := 0) (len := 1) (i := 0) rfl rfl ?_
  refine kIconst (mi := 149) (pc := 1) (len := 2) (v := 10) rfl ?_
  refine kCallP (mi := 149) (pc := 3) (len := 3) (j := 148) rfl (Or.inl rfl) (by decide) (mCall_ok (n := 2) (l := 2) (rk := 2) (own := 10) (kd := 0) (as := [.int x, .int (10 : Int32)]) (rest := []) (by omega) (by decide) rfl rfl rfl rfl rfl rfl (Or.inl rfl)) (bIn_ok (by omega)) ?_
  refine kRetI (mi := 149) (pc := 6) (len := 1) rfl (Or.inr ⟨rfl, b2_01 _⟩) ?_
  have e3 : bPer x = bIn x (10 : Int32) := by
    unfold bPer
    rfl
  rw [e3]
  exact ⟨rfl, rfl⟩
theorem bStr_ok {x : Int32} {d : Nat} {M : Mem} (hd : 1 ≤ d) : Ok d 150 0 (lv_args 0 [.int x]) [] M (fun r M' => r = some (.int (b2 (bStr x))) ∧ M' = M) := by
  refine kIload (mi := 150) (pc := 0) (len := 1) (i := 0) rfl rfl ?_
  refine kIconst (mi := 150) (pc := 1) (len := 2) (v := 8) rfl ?_
  refine kCallP (mi := 150) (pc := 3) (len := 3) (j := 148) rfl (Or.inl rfl) (by decide) (mCall_ok (n := 2) (l := 2) (rk := 2) (own := 10) (kd := 0) (as := [.int x, .int (8 : Int32)]) (rest := []) (by omega) (by decide) rfl rfl rfl rfl rfl rfl (Or.inl rfl)) (bIn_ok (by omega)) ?_
  refine kRetI (mi := 150) (pc := 6) (len := 1) rfl (Or.inr ⟨rfl, b2_01 _⟩) ?_
  have e3 : bStr x = bIn x (8 : Int32) := by
    unfold bStr
    rfl
  rw [e3]
  exact ⟨rfl, rfl⟩
theorem rIn_ok {v : Int32} {x : Int32} {y : Int32} {d : Nat} {M : Mem} (hd : 0 ≤ d) : Ok d 160 0 (lv_args 0 [.int v, .int x, .int y]) [] M (fun r M' => r = some (.int (b2 (rIn v x y))) ∧ M' = M) := by
  refine kIload (mi := 160) (pc := 0) (len := 1) (i := 0) rfl rfl ?_
  refine kIload (mi := 160) (pc := 1) (len := 1) (i := 1) rfl rfl ?_
  rcases Bool.eq_false_or_eq_true (mCond .lt v x) with hc1 | hc1
  · have c1 := hc1
    replace c1 : v.toInt < x.toInt := mC_lt.1 c1
    refine kIcT (mi := 160) (pc := 2) (len := 3) (t := 14) rfl rfl hc1 ?_
    refine kIconst (mi := 160) (pc := 14) (len := 1) (v := 0) rfl ?_
    refine kRetI (mi := 160) (pc := 15) (len := 1) rfl (Or.inr ⟨rfl, Or.inl rfl⟩) ?_
    have e3 : rIn v x y = false := by
      unfold rIn
      simp only [decide_eq_true c1, cond_true, cond_false]
    rw [e3]
    exact ⟨rfl, rfl⟩
  · have c1 := hc1
    replace c1 : ¬ v.toInt < x.toInt := mC_lt.2 c1
    refine kIcF (mi := 160) (pc := 2) (len := 3) (t := 14) rfl rfl hc1 ?_
    refine kIload (mi := 160) (pc := 5) (len := 1) (i := 0) rfl rfl ?_
    refine kIload (mi := 160) (pc := 6) (len := 1) (i := 2) rfl rfl ?_
    rcases Bool.eq_false_or_eq_true (mCond .gt v y) with hc2 | hc2
    · have c2 := hc2
      replace c2 : y.toInt < v.toInt := mC_gt.1 c2
      refine kIcT (mi := 160) (pc := 7) (len := 3) (t := 14) rfl rfl hc2 ?_
      refine kIconst (mi := 160) (pc := 14) (len := 1) (v := 0) rfl ?_
      refine kRetI (mi := 160) (pc := 15) (len := 1) rfl (Or.inr ⟨rfl, Or.inl rfl⟩) ?_
      have e3 : rIn v x y = false := by
        unfold rIn
        simp only [decide_eq_false c1, decide_eq_true c2, cond_true, cond_false]
      rw [e3]
      exact ⟨rfl, rfl⟩
    · have c2 := hc2
      replace c2 : ¬ y.toInt < v.toInt := mC_gt.2 c2
      refine kIcF (mi := 160) (pc := 7) (len := 3) (t := 14) rfl rfl hc2 ?_
      refine kIconst (mi := 160) (pc := 10) (len := 1) (v := 1) rfl ?_
      refine kGoto (mi := 160) (pc := 11) (len := 3) (t := 15) rfl rfl ?_
      refine kRetI (mi := 160) (pc := 15) (len := 1) rfl (Or.inr ⟨rfl, Or.inr rfl⟩) ?_
      have e3 : rIn v x y = true := by
        unfold rIn
        simp only [decide_eq_false c1, decide_eq_false c2, cond_true, cond_false]
      rw [e3]
      exact ⟨rfl, rfl⟩
theorem rPer_ok {x : Int32} {d : Nat} {M : Mem} (hd : 0 ≤ d) : Ok d 162 0 (lv_args 0 [.int x]) [] M (fun r M' => r = some (.int (b2 (rPer x))) ∧ M' = M) := by
  refine kIload (mi := 162) (pc := 0) (len := 1) (i := 0) rfl rfl ?_
  rcases Bool.eq_false_or_eq_true (mCond .lt x 0) with hc1 | hc1
  · have c1 := hc1
    replace c1 : x.toInt < 0 := mC_lt.1 c1
    refine kIfT (mi := 162) (pc := 1) (len := 3) (t := 14) rfl rfl hc1 ?_
    refine kIconst (mi := 162) (pc := 14) (len := 1) (v := 0) rfl ?_
    refine kRetI (mi := 162) (pc := 15) (len := 1) rfl (Or.inr ⟨rfl, Or.inl rfl⟩) ?_
    have e3 : rPer x = false := by
      unfold rPer
      simp only [decide_eq_true c1, cond_true, cond_false]
    rw [e3]
    exact ⟨rfl, rfl⟩
  · have c1 := hc1
    replace c1 : ¬ x.toInt < 0 := mC_lt.2 c1
    refine kIfF (mi := 162) (pc := 1) (len := 3) (t := 14) rfl rfl hc1 ?_
    refine kIload (mi := 162) (pc := 4) (len := 1) (i := 0) rfl rfl ?_
    refine kIconst (mi := 162) (pc := 5) (len := 2) (v := 10) rfl ?_
    rcases Bool.eq_false_or_eq_true (mCond .ge x (10 : Int32)) with hc2 | hc2
    · have c2 := hc2
      replace c2 : ¬ x.toInt < 10 := mC_ge.1 c2
      refine kIcT (mi := 162) (pc := 7) (len := 3) (t := 14) rfl rfl hc2 ?_
      refine kIconst (mi := 162) (pc := 14) (len := 1) (v := 0) rfl ?_
      refine kRetI (mi := 162) (pc := 15) (len := 1) rfl (Or.inr ⟨rfl, Or.inl rfl⟩) ?_
      have e3 : rPer x = false := by
        unfold rPer
        simp only [decide_eq_false c1, decide_eq_false c2, cond_true, cond_false]
      rw [e3]
      exact ⟨rfl, rfl⟩
    · have c2 := hc2
      replace c2 : x.toInt < 10 := mC_ge.2 c2
      refine kIcF (mi := 162) (pc := 7) (len := 3) (t := 14) rfl rfl hc2 ?_
      refine kIconst (mi := 162) (pc := 10) (len := 1) (v := 1) rfl ?_
      refine kGoto (mi := 162) (pc := 11) (len := 3) (t := 15) rfl rfl ?_
      refine kRetI (mi := 162) (pc := 15) (len := 1) rfl (Or.inr ⟨rfl, Or.inr rfl⟩) ?_
      have e3 : rPer x = true := by
        unfold rPer
        simp only [decide_eq_false c1, decide_eq_true c2, cond_true, cond_false]
      rw [e3]
      exact ⟨rfl, rfl⟩
theorem rStr_ok {x : Int32} {d : Nat} {M : Mem} (hd : 0 ≤ d) : Ok d 163 0 (lv_args 0 [.int x]) [] M (fun r M' => r = some (.int (b2 (rStr x))) ∧ M' = M) := by
  refine kIload (mi := 163) (pc := 0) (len := 1) (i := 0) rfl rfl ?_
  rcases Bool.eq_false_or_eq_true (mCond .lt x 0) with hc1 | hc1
  · have c1 := hc1
    replace c1 : x.toInt < 0 := mC_lt.1 c1
    refine kIfT (mi := 163) (pc := 1) (len := 3) (t := 14) rfl rfl hc1 ?_
    refine kIconst (mi := 163) (pc := 14) (len := 1) (v := 0) rfl ?_
    refine kRetI (mi := 163) (pc := 15) (len := 1) rfl (Or.inr ⟨rfl, Or.inl rfl⟩) ?_
    have e3 : rStr x = false := by
      unfold rStr
      simp only [decide_eq_true c1, cond_true, cond_false]
    rw [e3]
    exact ⟨rfl, rfl⟩
  · have c1 := hc1
    replace c1 : ¬ x.toInt < 0 := mC_lt.2 c1
    refine kIfF (mi := 163) (pc := 1) (len := 3) (t := 14) rfl rfl hc1 ?_
    refine kIload (mi := 163) (pc := 4) (len := 1) (i := 0) rfl rfl ?_
    refine kIconst (mi := 163) (pc := 5) (len := 2) (v := 8) rfl ?_
    rcases Bool.eq_false_or_eq_true (mCond .ge x (8 : Int32)) with hc2 | hc2
    · have c2 := hc2
      replace c2 : ¬ x.toInt < 8 := mC_ge.1 c2
      refine kIcT (mi := 163) (pc := 7) (len := 3) (t := 14) rfl rfl hc2 ?_
      refine kIconst (mi := 163) (pc := 14) (len := 1) (v := 0) rfl ?_
      refine kRetI (mi := 163) (pc := 15) (len := 1) rfl (Or.inr ⟨rfl, Or.inl rfl⟩) ?_
      have e3 : rStr x = false := by
        unfold rStr
        simp only [decide_eq_false c1, decide_eq_false c2, cond_true, cond_false]
      rw [e3]
      exact ⟨rfl, rfl⟩
    · have c2 := hc2
      replace c2 : x.toInt < 8 := mC_ge.2 c2
      refine kIcF (mi := 163) (pc := 7) (len := 3) (t := 14) rfl rfl hc2 ?_
      refine kIconst (mi := 163) (pc := 10) (len := 1) (v := 1) rfl ?_
      refine kGoto (mi := 163) (pc := 11) (len := 3) (t := 15) rfl rfl ?_
      refine kRetI (mi := 163) (pc := 15) (len := 1) rfl (Or.inr ⟨rfl, Or.inr rfl⟩) ?_
      have e3 : rStr x = true := by
        unfold rStr
        simp only [decide_eq_false c1, decide_eq_true c2, cond_true, cond_false]
      rw [e3]
      exact ⟨rfl, rfl⟩
theorem bIn3_true {x : Int32} (h : bIn x 3 = true) : 0 ≤ x.toInt ∧ x.toInt < 3 := bIn_true h
theorem rIn2_true {x : Int32} (h : rIn x 0 2 = true) : 0 ≤ x.toInt ∧ x.toInt < 3 := bIn_true ((rIn_eq2 x).symm.trans h)
theorem rStr_true {x : Int32} (h : rStr x = true) : 0 ≤ x.toInt ∧ x.toInt < 8 := bStr_true h
theorem rPer_true {x : Int32} (h : rPer x = true) : 0 ≤ x.toInt ∧ x.toInt < 10 := bPer_true h
theorem stripC_ok {x o l : Int32} {d : Nat} {s : List Int32} {M : Mem} (hd : 3 ≤ d) (hT : aTp s M) : Ok d 110 0 (lv_args 0 [.ref 2, .int x, .int o, .int l]) [] M (fun r M' => r = some (.int (b2 (bStr x && (bPer o && bIn l 3)))) ∧ M' = (bif bStr x && (bPer o && bIn l 3) then mPut (mPut M 5 x.toInt.toNat (.int o)) 6 x.toInt.toNat (.int l) else M)) := by
  refine kIload (mi := 110) (pc := 0) (len := 1) (i := 1) rfl rfl ?_
  refine kCallP (mi := 110) (pc := 1) (len := 3) (j := 150) rfl (Or.inl rfl) (by decide) (mCall_ok (n := 1) (l := 1) (rk := 2) (own := 10) (kd := 0) (as := [.int x]) (rest := []) (by omega) (by decide) rfl rfl rfl rfl rfl rfl (Or.inl rfl)) (bStr_ok (by omega)) ?_
  rcases Bool.eq_false_or_eq_true (mCond .eq (b2 (bStr x)) 0) with hc1 | hc1
  · have c1 := hc1
    replace c1 : bStr x = false := mB_eq.1 c1
    refine kIfT (mi := 110) (pc := 4) (len := 3) (t := 22) rfl rfl hc1 ?_
    refine kIconst (mi := 110) (pc := 22) (len := 1) (v := 0) rfl ?_
    refine kRetI (mi := 110) (pc := 23) (len := 1) rfl (Or.inr ⟨rfl, Or.inl rfl⟩) ?_
    have e3 : (bStr x && (bPer o && bIn l 3)) = false := by simp only [c1, Bool.true_and, Bool.false_and, Bool.and_true, Bool.and_false]
    rw [e3]
    exact ⟨rfl, rfl⟩
  · have c1 := hc1
    replace c1 : bStr x = true := mB_eq.2 c1

    refine kIfF (mi := 110) (pc := 4) (len := 3) (t := 22) rfl rfl hc1 ?_
    refine kIload (mi := 110) (pc := 7) (len := 1) (i := 2) rfl rfl ?_
    refine kCallP (mi := 110) (pc := 8) (len := 3) (j := 149) rfl (Or.inl rfl) (by decide) (mCall_ok (n := 1) (l := 1) (rk := 2) (own := 10) (kd := 0) (as := [.int o]) (rest := []) (by omega) (by decide) rfl rfl rfl rfl rfl rfl (Or.inl rfl)) (bPer_ok (by omega)) ?_
    rcases Bool.eq_false_or_eq_true (mCond .eq (b2 (bPer o)) 0) with hc2 | hc2
    · have c2 := hc2
      replace c2 : bPer o = false := mB_eq.1 c2
      refine kIfT (mi := 110) (pc := 11) (len := 3) (t := 22) rfl rfl hc2 ?_
      refine kIconst (mi := 110) (pc := 22) (len := 1) (v := 0) rfl ?_
      refine kRetI (mi := 110) (pc := 23) (len := 1) rfl (Or.inr ⟨rfl, Or.inl rfl⟩) ?_
      have e3 : (bStr x && (bPer o && bIn l 3)) = false := by simp only [c1, c2, Bool.true_and, Bool.false_and, Bool.and_true, Bool.and_false]
      rw [e3]
      exact ⟨rfl, rfl⟩
    · have c2 := hc2
      replace c2 : bPer o = true := mB_eq.2 c2

      refine kIfF (mi := 110) (pc := 11) (len := 3) (t := 22) rfl rfl hc2 ?_
      refine kIload (mi := 110) (pc := 14) (len := 1) (i := 3) rfl rfl ?_
      refine kIconst (mi := 110) (pc := 15) (len := 1) (v := 3) rfl ?_
      refine kCallP (mi := 110) (pc := 16) (len := 3) (j := 148) rfl (Or.inl rfl) (by decide) (mCall_ok (n := 2) (l := 2) (rk := 2) (own := 10) (kd := 0) (as := [.int l, .int (3 : Int32)]) (rest := []) (by omega) (by decide) rfl rfl rfl rfl rfl rfl (Or.inl rfl)) (bIn_ok (by omega)) ?_
      rcases Bool.eq_false_or_eq_true (mCond .ne (b2 (bIn l (3 : Int32))) 0) with hc3 | hc3
      · have c3 := hc3
        replace c3 : bIn l (3 : Int32) = true := mB_ne.1 c3

        refine kIfT (mi := 110) (pc := 19) (len := 3) (t := 24) rfl rfl hc3 ?_
        have gc1 := bStr_true c1
        have gc2 := bPer_true c2
        have gc3 := bIn3_true c3
        refine kAload (mi := 110) (pc := 24) (len := 1) (i := 0) rfl rfl ?_
        refine kGetf (mi := 110) (pc := 25) (len := 3) (j := 1000) rfl (hT.hd (c := 2) (by decide) (by decide)) (by decide) (hT.ref (c := 2) (i := 0) (g := 3) (by decide) (by decide) (by decide) (lo := 0) (hi' := 0) rfl rfl) ?_
        refine kGetf (mi := 110) (pc := 28) (len := 3) (j := 901) rfl (hT.hd (c := 3) (by decide) (by decide)) (by decide) (hT.ref (c := 3) (i := 1) (g := 5) (by decide) (by decide) (by decide) (lo := 0) (hi' := 0) rfl rfl) ?_
        refine kIload (mi := 110) (pc := 31) (len := 1) (i := 1) rfl rfl ?_
        refine kIload (mi := 110) (pc := 32) (len := 1) (i := 2) rfl rfl ?_
        refine kIast (mi := 110) (pc := 33) (len := 1) (n := 8) rfl (hT.hd (c := 5) (by decide) (by decide)) (by decide) (by omega) (by show x.toInt < 8; omega) ?_
        have hT4 := hT.put (a := 5) (i := x.toInt.toNat) (v := .int o) (by decide) (by decide) (show aTy (tTy (tGrp 5) _) _ from ⟨o, rfl, by show (0 : Int) ≤ _; omega, by show _ ≤ (9 : Int); omega⟩)
        refine kAload (mi := 110) (pc := 34) (len := 1) (i := 0) rfl rfl ?_
        refine kGetf (mi := 110) (pc := 35) (len := 3) (j := 1000) rfl (hT4.hd (c := 2) (by decide) (by decide)) (by decide) (hT4.ref (c := 2) (i := 0) (g := 3) (by decide) (by decide) (by decide) (lo := 0) (hi' := 0) rfl rfl) ?_
        refine kGetf (mi := 110) (pc := 38) (len := 3) (j := 902) rfl (hT4.hd (c := 3) (by decide) (by decide)) (by decide) (hT4.ref (c := 3) (i := 2) (g := 6) (by decide) (by decide) (by decide) (lo := 0) (hi' := 0) rfl rfl) ?_
        refine kIload (mi := 110) (pc := 41) (len := 1) (i := 1) rfl rfl ?_
        refine kIload (mi := 110) (pc := 42) (len := 1) (i := 3) rfl rfl ?_
        refine kIast (mi := 110) (pc := 43) (len := 1) (n := 8) rfl (hT4.hd (c := 6) (by decide) (by decide)) (by decide) (by omega) (by show x.toInt < 8; omega) ?_
        have hT5 := hT4.put (a := 6) (i := x.toInt.toNat) (v := .int l) (by decide) (by decide) (show aTy (tTy (tGrp 6) _) _ from ⟨l, rfl, by show (0 : Int) ≤ _; omega, by show _ ≤ (2 : Int); omega⟩)
        refine kIconst (mi := 110) (pc := 44) (len := 1) (v := 1) rfl ?_
        refine kRetI (mi := 110) (pc := 45) (len := 1) rfl (Or.inr ⟨rfl, Or.inr rfl⟩) ?_
        have e3 : (bStr x && (bPer o && bIn l 3)) = true := by simp only [c1, c2, c3, Bool.true_and, Bool.false_and, Bool.and_true, Bool.and_false]
        rw [e3]
        exact ⟨rfl, rfl⟩
      · have c3 := hc3
        replace c3 : bIn l (3 : Int32) = false := mB_ne.2 c3
        refine kIfF (mi := 110) (pc := 19) (len := 3) (t := 24) rfl rfl hc3 ?_
        refine kIconst (mi := 110) (pc := 22) (len := 1) (v := 0) rfl ?_
        refine kRetI (mi := 110) (pc := 23) (len := 1) rfl (Or.inr ⟨rfl, Or.inl rfl⟩) ?_
        have e3 : (bStr x && (bPer o && bIn l 3)) = false := by simp only [c1, c2, c3, Bool.true_and, Bool.false_and, Bool.and_true, Bool.and_false]
        rw [e3]
        exact ⟨rfl, rfl⟩
theorem stripR_ok {x o l : Int32} {d : Nat} {s : List Int32} {M : Mem} (hd : 3 ≤ d) (hT : aTp s M) : Ok d 166 0 (lv_args 0 [.ref 181, .int x, .int o, .int l]) [] M (fun r M' => r = some (.int (b2 (rStr x && (rPer o && rIn l 0 2)))) ∧ M' = (bif rStr x && (rPer o && rIn l 0 2) then mPut (mPut M 183 x.toInt.toNat (.int o)) 184 x.toInt.toNat (.int l) else M)) := by
  refine kIload (mi := 166) (pc := 0) (len := 1) (i := 1) rfl rfl ?_
  refine kCallP (mi := 166) (pc := 1) (len := 3) (j := 163) rfl (Or.inl rfl) (by decide) (mCall_ok (n := 1) (l := 1) (rk := 2) (own := 11) (kd := 0) (as := [.int x]) (rest := []) (by omega) (by decide) rfl rfl rfl rfl rfl rfl (Or.inl rfl)) (rStr_ok (by omega)) ?_
  rcases Bool.eq_false_or_eq_true (mCond .eq (b2 (rStr x)) 0) with hc1 | hc1
  · have c1 := hc1
    replace c1 : rStr x = false := mB_eq.1 c1
    refine kIfT (mi := 166) (pc := 4) (len := 3) (t := 23) rfl rfl hc1 ?_
    refine kIconst (mi := 166) (pc := 23) (len := 1) (v := 0) rfl ?_
    refine kRetI (mi := 166) (pc := 24) (len := 1) rfl (Or.inr ⟨rfl, Or.inl rfl⟩) ?_
    have e3 : (rStr x && (rPer o && rIn l 0 2)) = false := by simp only [c1, Bool.true_and, Bool.false_and, Bool.and_true, Bool.and_false]
    rw [e3]
    exact ⟨rfl, rfl⟩
  · have c1 := hc1
    replace c1 : rStr x = true := mB_eq.2 c1

    refine kIfF (mi := 166) (pc := 4) (len := 3) (t := 23) rfl rfl hc1 ?_
    refine kIload (mi := 166) (pc := 7) (len := 1) (i := 2) rfl rfl ?_
    refine kCallP (mi := 166) (pc := 8) (len := 3) (j := 162) rfl (Or.inl rfl) (by decide) (mCall_ok (n := 1) (l := 1) (rk := 2) (own := 11) (kd := 0) (as := [.int o]) (rest := []) (by omega) (by decide) rfl rfl rfl rfl rfl rfl (Or.inl rfl)) (rPer_ok (by omega)) ?_
    rcases Bool.eq_false_or_eq_true (mCond .eq (b2 (rPer o)) 0) with hc2 | hc2
    · have c2 := hc2
      replace c2 : rPer o = false := mB_eq.1 c2
      refine kIfT (mi := 166) (pc := 11) (len := 3) (t := 23) rfl rfl hc2 ?_
      refine kIconst (mi := 166) (pc := 23) (len := 1) (v := 0) rfl ?_
      refine kRetI (mi := 166) (pc := 24) (len := 1) rfl (Or.inr ⟨rfl, Or.inl rfl⟩) ?_
      have e3 : (rStr x && (rPer o && rIn l 0 2)) = false := by simp only [c1, c2, Bool.true_and, Bool.false_and, Bool.and_true, Bool.and_false]
      rw [e3]
      exact ⟨rfl, rfl⟩
    · have c2 := hc2
      replace c2 : rPer o = true := mB_eq.2 c2

      refine kIfF (mi := 166) (pc := 11) (len := 3) (t := 23) rfl rfl hc2 ?_
      refine kIload (mi := 166) (pc := 14) (len := 1) (i := 3) rfl rfl ?_
      refine kIconst (mi := 166) (pc := 15) (len := 1) (v := 0) rfl ?_
      refine kIconst (mi := 166) (pc := 16) (len := 1) (v := 2) rfl ?_
      refine kCallP (mi := 166) (pc := 17) (len := 3) (j := 160) rfl (Or.inl rfl) (by decide) (mCall_ok (n := 3) (l := 3) (rk := 2) (own := 11) (kd := 0) (as := [.int l, .int (0 : Int32), .int (2 : Int32)]) (rest := []) (by omega) (by decide) rfl rfl rfl rfl rfl rfl (Or.inl rfl)) (rIn_ok (by omega)) ?_
      rcases Bool.eq_false_or_eq_true (mCond .ne (b2 (rIn l (0 : Int32) (2 : Int32))) 0) with hc3 | hc3
      · have c3 := hc3
        replace c3 : rIn l (0 : Int32) (2 : Int32) = true := mB_ne.1 c3

        refine kIfT (mi := 166) (pc := 20) (len := 3) (t := 25) rfl rfl hc3 ?_
        have gc1 := rStr_true c1
        have gc2 := rPer_true c2
        have gc3 := rIn2_true c3
        refine kAload (mi := 166) (pc := 25) (len := 1) (i := 0) rfl rfl ?_
        refine kGetf (mi := 166) (pc := 26) (len := 3) (j := 1103) rfl (hT.hd (c := 181) (by decide) (by decide)) (by decide) (hT.ref (c := 181) (i := 3) (g := 183) (by decide) (by decide) (by decide) (lo := 0) (hi' := 0) rfl rfl) ?_
        refine kIload (mi := 166) (pc := 29) (len := 1) (i := 1) rfl rfl ?_
        refine kIload (mi := 166) (pc := 30) (len := 1) (i := 2) rfl rfl ?_
        refine kIast (mi := 166) (pc := 31) (len := 1) (n := 8) rfl (hT.hd (c := 183) (by decide) (by decide)) (by decide) (by omega) (by show x.toInt < 8; omega) ?_
        have hT4 := hT.put (a := 183) (i := x.toInt.toNat) (v := .int o) (by decide) (by decide) (show aTy (tTy (tGrp 183) _) _ from ⟨o, rfl, by show (0 : Int) ≤ _; omega, by show _ ≤ (9 : Int); omega⟩)
        refine kAload (mi := 166) (pc := 32) (len := 1) (i := 0) rfl rfl ?_
        refine kGetf (mi := 166) (pc := 33) (len := 3) (j := 1104) rfl (hT4.hd (c := 181) (by decide) (by decide)) (by decide) (hT4.ref (c := 181) (i := 4) (g := 184) (by decide) (by decide) (by decide) (lo := 0) (hi' := 0) rfl rfl) ?_
        refine kIload (mi := 166) (pc := 36) (len := 1) (i := 1) rfl rfl ?_
        refine kIload (mi := 166) (pc := 37) (len := 1) (i := 3) rfl rfl ?_
        refine kIast (mi := 166) (pc := 38) (len := 1) (n := 8) rfl (hT4.hd (c := 184) (by decide) (by decide)) (by decide) (by omega) (by show x.toInt < 8; omega) ?_
        have hT5 := hT4.put (a := 184) (i := x.toInt.toNat) (v := .int l) (by decide) (by decide) (show aTy (tTy (tGrp 184) _) _ from ⟨l, rfl, by show (0 : Int) ≤ _; omega, by show _ ≤ (2 : Int); omega⟩)
        refine kIconst (mi := 166) (pc := 39) (len := 1) (v := 1) rfl ?_
        refine kRetI (mi := 166) (pc := 40) (len := 1) rfl (Or.inr ⟨rfl, Or.inr rfl⟩) ?_
        have e3 : (rStr x && (rPer o && rIn l 0 2)) = true := by simp only [c1, c2, c3, Bool.true_and, Bool.false_and, Bool.and_true, Bool.and_false]
        rw [e3]
        exact ⟨rfl, rfl⟩
      · have c3 := hc3
        replace c3 : rIn l (0 : Int32) (2 : Int32) = false := mB_ne.2 c3
        refine kIfF (mi := 166) (pc := 20) (len := 3) (t := 25) rfl rfl hc3 ?_
        refine kIconst (mi := 166) (pc := 23) (len := 1) (v := 0) rfl ?_
        refine kRetI (mi := 166) (pc := 24) (len := 1) rfl (Or.inr ⟨rfl, Or.inl rfl⟩) ?_
        have e3 : (rStr x && (rPer o && rIn l 0 2)) = false := by simp only [c1, c2, c3, Bool.true_and, Bool.false_and, Bool.and_true, Bool.and_false]
        rw [e3]
        exact ⟨rfl, rfl⟩
theorem yV_np9 {M : Mem} {a i : Nat} {v : Value} (h : tPro9 (tGrp a) (aSlK a i) = false) : yV (mPut M a i v) = yV M := by
  refine yV_same (fun t f d hq => mSlot_put_ne ?_)
  by_cases e : yC t f d = a
  · refine Or.inr (fun e2 => ?_)
    have q := (yPro9 hq).1
    rw [e, e2, h] at q
    cases q
  · exact Or.inl e
theorem Rf_put {M : Mem} {a i : Nat} {v : Value} (h : a ≠ 8 ∧ a ≠ 129 ∧ a ≠ 99 ∧ a ≠ 142) (hR : Rf M) : Rf (mPut M a i v) :=
  ⟨fun e he => (mSlot_put_ne (Or.inl (Ne.symm h.1))).trans (hR.1 e he), fun k hk => (mSlot_put_ne (Or.inl (Ne.symm h.2.1))).trans (hR.2.1 k hk), fun p hp => (mSlot_put_ne (Or.inl (Ne.symm h.2.2.1))).trans (hR.2.2.1 p hp), fun i hi => (mSlot_put_ne (Or.inl (Ne.symm h.2.2.2))).trans (hR.2.2.2 i hi)⟩
/-- a strip is told to both -/
theorem strip_mem {s : List Int32} {γ : Gh} {M : Mem} {x : Nat} {o l : Int32} (h : aMem (s, γ) M) (hx : x < 8) (ho : 0 ≤ o.toInt ∧ o.toInt < 10) (hl : 0 ≤ l.toInt ∧ l.toInt < 3) : aMem (s, γ) (mPut (mPut (mPut (mPut M 5 x (.int o)) 6 x (.int l)) 183 x (.int o)) 184 x (.int l)) := by
  have h9 := aMem_to9 h
  have hT := aTp_of (aMem_0 h9)
  have t5 := hT.put (a := 5) (i := x) (v := .int o) (by decide) (by decide) (show aTy (tTy (tGrp 5) _) _ from ⟨o, rfl, by show (0 : Int) ≤ _; omega, by show _ ≤ (9 : Int); omega⟩)
  have t6 := t5.put (a := 6) (i := x) (v := .int l) (by decide) (by decide) (show aTy (tTy (tGrp 6) _) _ from ⟨l, rfl, by show (0 : Int) ≤ _; omega, by show _ ≤ (2 : Int); omega⟩)
  have t7 := t6.put (a := 183) (i := x) (v := .int o) (by decide) (by decide) (show aTy (tTy (tGrp 183) _) _ from ⟨o, rfl, by show (0 : Int) ≤ _; omega, by show _ ≤ (9 : Int); omega⟩)
  have t8 := t7.put (a := 184) (i := x) (v := .int l) (by decide) (by decide) (show aTy (tTy (tGrp 184) _) _ from ⟨l, rfl, by show (0 : Int) ≤ _; omega, by show _ ≤ (2 : Int); omega⟩)
  have hx9 : x9 γ M := h9.1.2.2
  refine aMem_of9 (fin9 h9 t8 (fun _ _ _ => rfl) ?_ ⟨?_, ?_⟩) ⟨?_, ?_⟩
  · rw [xv_put0 rfl, xv_put0 rfl, xv_put0 rfl, xv_put0 rfl]
  · exact yT_put (by decide) (by decide) (yT_put (by decide) (by decide) (yT_put (by decide) (by decide) (yT_put (by decide) (by decide) hx9.1)))
  · rw [yV_np9 rfl, yV_np9 rfl, yV_np9 rfl, yV_np9 rfl]
    exact hx9.2
  · have ok : ∀ a : Nat, a = 5 ∨ a = 6 ∨ a = 183 ∨ a = 184 → a ≠ 8 ∧ a ≠ 129 ∧ a ≠ 99 ∧ a ≠ 142 := by omega
    exact Rf_put (ok 184 (by decide)) (Rf_put (ok 183 (by decide)) (Rf_put (ok 6 (by decide)) (Rf_put (ok 5 (by decide)) (aMem_x10 h).1)))
  · intro q hq
    have e := (aMem_x10 h).2 q hq
    by_cases w : q = x
    · subst w
      constructor
      · rw [mSlot_put_ne (Or.inl (by decide)), mSlot_put_ne (Or.inl (by decide)), mSlot_put_ne (Or.inl (by decide)), mSlot_put_eq (hT.hd (by decide) (by decide)) hx, mSlot_put_ne (Or.inl (by decide)), mSlot_put_eq (t6.hd (by decide) (by decide)) hx]
      · rw [mSlot_put_ne (Or.inl (by decide)), mSlot_put_ne (Or.inl (by decide)), mSlot_put_eq (t5.hd (by decide) (by decide)) hx, mSlot_put_eq (t7.hd (by decide) (by decide)) hx]
    · constructor
      · rw [mSlot_put_ne (Or.inl (by decide)), mSlot_put_ne (Or.inl (by decide)), mSlot_put_ne (Or.inl (by decide)), mSlot_put_ne (Or.inr w), mSlot_put_ne (Or.inl (by decide)), mSlot_put_ne (Or.inr w), mSlot_put_ne (Or.inl (by decide)), mSlot_put_ne (Or.inl (by decide))]
        exact e.1
      · rw [mSlot_put_ne (Or.inl (by decide)), mSlot_put_ne (Or.inl (by decide)), mSlot_put_ne (Or.inr w), mSlot_put_ne (Or.inl (by decide)), mSlot_put_ne (Or.inr w), mSlot_put_ne (Or.inl (by decide)), mSlot_put_ne (Or.inl (by decide)), mSlot_put_ne (Or.inl (by decide))]
        exact e.2
theorem gs_c1 {s : List Int32} : gSound s sg_c1 := by
  intro γ d σ L st0 st M Q hd hA k
  have hst := hd.2 (by show 1 ≤ 5; decide)
  have hd := hd.1
  have hd : 5 ≤ d := hd
  have h := aHoldX_0 hA
  have e0 := eNil h
  subst e0
  subst hst
  obtain ⟨l0, el⟩ := eS h rfl
  have el : σ 1 = (s.length : Int) := el
  have l1 := eR h (i := 1) (g := 2) (c := 0) rfl rfl
  have l2 := eR h (i := 2) (g := 181) (c := 0) rfl rfl
  obtain ⟨l3, hl3, el3⟩ := eI h (i := 3) (sy := 2) (c := 0) rfl
  have b1 := eB h (i := 1) (lo := 0) (hi := 576) rfl
  have b2 := eB h (i := 2) (lo := 0) (hi := 576) rfl
  have b3 := eB h (i := 3) (lo := (-2147483648)) (hi := 2147483647) rfl
  have b4 := eB h (i := 4) (lo := (-2147483648)) (hi := 2147483647) rfl
  have b5 := eB h (i := 5) (lo := (-2147483648)) (hi := 2147483647) rfl
  have z0 := (h.1.2.1.2.2 2 1 (-9) (List.Mem.head _)).2.2
  have s0 := h.1.2.1.1
  have hM := hA.2.2.2
  have h8 : x8 (s, γ) := hM.1.2.1
  have hT := aTp_of (aMem_0 (aMem_to9 hM))
  have q10_0 : (γ 1010 0).toInt = σ 2 + 0 := eG h (g := 1010) (i := 0) (sy := 2) (c := 0) (by decide) (List.Mem.head _)
  have q11_1 : (γ 1011 1).toInt = σ 3 + 0 := eG h (g := 1011) (i := 1) (sy := 3) (c := 0) (by decide) (List.Mem.tail _ (List.Mem.head _))
  have q11_2 : (γ 1011 2).toInt = σ 4 + 0 := eG h (g := 1011) (i := 2) (sy := 4) (c := 0) (by decide) (List.Mem.tail _ (List.Mem.tail _ (List.Mem.head _)))
  have q11_3 : (γ 1011 3).toInt = σ 5 + 0 := eG h (g := 1011) (i := 3) (sy := 5) (c := 0) (by decide) (List.Mem.tail _ (List.Mem.tail _ (List.Mem.tail _ (List.Mem.head _))))
  refine kAload (mi := 282) (pc := 233) (len := 1) (i := 1) rfl l1 ?_
  refine kArg (pc := 234) (c := 1) (ln := 1) (ci := 1) (γ := γ) rfl rfl rfl rfl rfl rfl (by decide) (by decide) l0 hl3 hT h8 (by omega) (by omega) (by omega) (by omega) ?_
  refine kArg (pc := 239) (c := 2) (ln := 1) (ci := 2) (γ := γ) rfl rfl rfl rfl rfl rfl (by decide) (by decide) l0 hl3 hT h8 (by omega) (by omega) (by omega) (by omega) ?_
  refine kArg (pc := 244) (c := 3) (ln := 1) (ci := 3) (γ := γ) rfl rfl rfl rfl rfl rfl (by decide) (by decide) l0 hl3 hT h8 (by omega) (by omega) (by omega) (by omega) ?_
  refine Ok.call (mi := 282) (pc := 249) (j := 110) (len := 3) rfl (Or.inr (Or.inl rfl)) (by decide) (mCall_ok (n := 4) (l := 4) (rk := 2) (own := 10) (kd := 1) (as := [.ref 2, .int (γ 1011 1), .int (γ 1011 2), .int (γ 1011 3)]) (rest := []) (by omega) (by decide) rfl rfl rfl rfl rfl rfl (Or.inr (Or.inl ⟨rfl, (tag_of hT (a := 2) (by decide) (by decide)).trans rfl⟩))) ?_
  refine (stripC_ok (by omega) hT).mono ?_
  intro r1 M1 hr1
  obtain ⟨er1, eM1⟩ := hr1
  subst er1
  refine kPopI (mi := 282) (pc := 252) (len := 1) rfl ?_
  refine kAload (mi := 282) (len := 1) (i := 2) rfl l2 ?_
  have hT1 : aTp s M1 := by
    rw [eM1]
    cases hb : (bStr (γ 1011 1) && (bPer (γ 1011 2) && bIn (γ 1011 3) 3)) with
    | false => exact hT
    | true =>
      rw [Bool.and_eq_true, Bool.and_eq_true] at hb
      have g1 := bStr_true hb.1
      have g2 := bPer_true hb.2.1
      have g3 := bIn3_true hb.2.2
      exact (hT.put (a := 5) (i := (γ 1011 1).toInt.toNat) (v := .int (γ 1011 2)) (by decide) (by decide) (show aTy (tTy (tGrp 5) _) _ from ⟨γ 1011 2, rfl, by show (0 : Int) ≤ _; omega, by show _ ≤ (9 : Int); omega⟩)).put (a := 6) (i := (γ 1011 1).toInt.toNat) (v := .int (γ 1011 3)) (by decide) (by decide) (show aTy (tTy (tGrp 6) _) _ from ⟨γ 1011 3, rfl, by show (0 : Int) ≤ _; omega, by show _ ≤ (2 : Int); omega⟩)
  refine kArg (pc := 254) (c := 1) (ln := 1) (ci := 1) (γ := γ) rfl rfl rfl rfl rfl rfl (by decide) (by decide) l0 hl3 hT1 h8 (by omega) (by omega) (by omega) (by omega) ?_
  refine kArg (pc := 259) (c := 2) (ln := 1) (ci := 2) (γ := γ) rfl rfl rfl rfl rfl rfl (by decide) (by decide) l0 hl3 hT1 h8 (by omega) (by omega) (by omega) (by omega) ?_
  refine kArg (pc := 264) (c := 3) (ln := 1) (ci := 3) (γ := γ) rfl rfl rfl rfl rfl rfl (by decide) (by decide) l0 hl3 hT1 h8 (by omega) (by omega) (by omega) (by omega) ?_
  refine Ok.call (mi := 282) (pc := 269) (j := 166) (len := 3) rfl (Or.inr (Or.inl rfl)) (by decide) (mCall_ok (n := 4) (l := 4) (rk := 2) (own := 11) (kd := 1) (as := [.ref 181, .int (γ 1011 1), .int (γ 1011 2), .int (γ 1011 3)]) (rest := []) (by omega) (by decide) rfl rfl rfl rfl rfl rfl (Or.inr (Or.inl ⟨rfl, (tag_of hT1 (a := 181) (by decide) (by decide)).trans rfl⟩))) ?_
  refine (stripR_ok (by omega) hT1).mono ?_
  intro r2 M2 hr2
  obtain ⟨er2, eM2⟩ := hr2
  subst er2
  refine kPopI (mi := 282) (pc := 272) (len := 1) rfl ?_
  rw [rStr_eq, rPer_eq, rIn_eq2] at eM2
  cases hb : (bStr (γ 1011 1) && (bPer (γ 1011 2) && bIn (γ 1011 3) 3)) with
  | false =>
    rw [hb] at eM1 eM2
    have e : M2 = M := eM2.trans eM1
    subst e
    exact k γ σ _ L [] _ (List.Mem.head _) (fun _ _ => rfl) aFr.rf gFr.rf aExt.rf (mkHoldX (by decide) s0 ⟨b00 s0, b1, b2, b3, b4, b5, True.intro⟩ True.intro True.intro True.intro hM)
  | true =>
    rw [hb] at eM1 eM2
    rw [Bool.and_eq_true, Bool.and_eq_true] at hb
    have g1 := bStr_true hb.1
    have g2 := bPer_true hb.2.1
    have g3 := bIn3_true hb.2.2
    have e : M2 = mPut (mPut (mPut (mPut M 5 (γ 1011 1).toInt.toNat (.int (γ 1011 2))) 6 (γ 1011 1).toInt.toNat (.int (γ 1011 3))) 183 (γ 1011 1).toInt.toNat (.int (γ 1011 2))) 184 (γ 1011 1).toInt.toNat (.int (γ 1011 3)) := by
      rw [eM2, eM1]
      rfl
    have hM2 := strip_mem (x := (γ 1011 1).toInt.toNat) (o := γ 1011 2) (l := γ 1011 3) hM (by omega) g2 g3
    rw [← e] at hM2
    have fr : aFr [(5, 0), (6, 0), (183, 0), (184, 0)] M M2 := by
      rw [e]
      exact (((aFr_put rfl).tr (aFr_put rfl)).tr (aFr_put rfl)).tr (aFr_put rfl)
    exact k γ σ _ L [] _ (List.Mem.head _) (fun _ _ => rfl) fr gFr.rf aExt.rf (mkHoldX (by decide) s0 ⟨b00 s0, b1, b2, b3, b4, b5, True.intro⟩ True.intro True.intro True.intro hM2)
theorem memP_up {m m' : List (Nat × Nat)} (h : m.all (fun q => memP q.1 q.2 m') = true) {g i : Nat} (hn : memP g i m' = false) : memP g i m = false := by
  cases hq : memP g i m with
  | false => rfl
  | true =>
    exfalso
    have : ∀ l : List (Nat × Nat), l.all (fun q => memP q.1 q.2 m') = true → memP g i l = true → False := by
      intro l
      induction l with
      | nil => intro _ h; cases h
      | cons q l ih =>
        intro ha hb
        rw [List.all_cons, Bool.and_eq_true] at ha
        have hb : (bif (Nat.beq q.1 g && Nat.beq q.2 i) then true else memP g i l) = true := hb
        cases hx : (Nat.beq q.1 g && Nat.beq q.2 i) with
        | true =>
          rw [Bool.and_eq_true] at hx
          have e1 := Nat.eq_of_beq_eq_true hx.1
          have e2 := Nat.eq_of_beq_eq_true hx.2
          have := ha.1
          rw [e1, e2, hn] at this
          cases this
        | false =>
          rw [hx] at hb
          exact ih ha.2 hb
    exact this m h hq
theorem aFr.up {m m' : List (Nat × Nat)} (h : m.all (fun q => memP q.1 q.2 m') = true) {M M' : Mem} (f : aFr m M M') : aFr m' M M' :=
  ⟨f.1, f.2.1, fun c j c1 c2 c3 c4 c5 => f.2.2.1 c j c1 c2 c3 c4 (memP_up h c5), fun c j c1 c2 c3 c4 => f.2.2.2 c j c1 c2 c3 (memP_up h c4)⟩
theorem gFr.up {m m' : List (Nat × Nat)} (h : m.all (fun q => memP q.1 q.2 m') = true) {γ γ' : Gh} (f : gFr m γ γ') : gFr m' γ γ' := fun g i hg hn => f g i hg (memP_up h hn)
theorem lcmp_same (x : Int64) : lg_cmp x x = 0 := by
  have h : ¬ x > x := fun h => by
    have := Int64.lt_iff_toInt_lt.mp h
    omega
  unfold lg_cmp
  rw [if_neg h, if_pos rfl]
theorem seenC_lo {M : Mem} {x s t w : Int32} : -2000 ≤ (seenC M x s t w).toInt := by
  unfold seenC
  cases (bDOf M x s && (bDay t && bIn w 2)) with
  | false => exact (by decide : (-2000 : Int) ≤ ((-1) : Int32).toInt)
  | true =>
    cases decide (w.toInt = 0) with
    | true => rcases b2_01 (wildC M x.toInt.toNat s t) with h | h <;> (show -2000 ≤ (b2 _).toInt; rw [h]; decide)
    | false => rcases b2_01 (findC M x.toInt.toNat s t) with h | h <;> (show -2000 ≤ (b2 _).toInt; rw [h]; decide)
theorem seenR_cl {M N : Mem} {n : Nat} {x s t w : Int32} (hS : Sh N) (hA : AL M N n) (hp : pvC M) {n' d : Nat} {r : Option Value} {M1 : Mem} (h : En n' d 218 0 (lv_args 0 [.ref 181, .int x, .int s, .int t, .int w]) [] N r M1) : r = some (.int (seenC M x s t w)) ∧ M1 = N := by
  have q := seenR_en hS h
  rw [seen_eq hA hp] at q
  exact q
theorem unsR_cl {M N : Mem} {n : Nat} {s t w : Int32} (hS : Sh N) (hA : AL M N n) (hp : pvC M) {n' d : Nat} {r : Option Value} {M1 : Mem} (h : En n' d 241 0 (lv_args 0 [.ref 181, .int s, .int t, .int w]) [] N r M1) : r = some (.long (unsC M s t w)) ∧ M1 = N := by
  have q := unsR_en hS (by have := hA.2.2.1; have := hA.1; omega) h
  rw [uns_eq hA hp] at q
  exact q
theorem gs_c19 {s : List Int32} : gSound s sg_c19 := by
  intro γ d σ L st0 st M Q hd hA k
  have hst := hd.2 (by show 1 ≤ 40; decide)
  have hd := hd.1
  have hd : 40 ≤ d := hd
  have h := aHoldX_0 hA
  have e0 := eNil h
  subst e0
  subst hst
  obtain ⟨l0, el⟩ := eS h rfl
  have el : σ 1 = (s.length : Int) := el
  have l1 := eR h (i := 1) (g := 2) (c := 0) rfl rfl
  have l2 := eR h (i := 2) (g := 181) (c := 0) rfl rfl
  obtain ⟨l3, hl3, el3⟩ := eI h (i := 3) (sy := 2) (c := 0) rfl
  have b1 := eB h (i := 1) (lo := 0) (hi := 576) rfl
  have b2 := eB h (i := 2) (lo := 0) (hi := 576) rfl
  have b3 := eB h (i := 3) (lo := (-2147483648)) (hi := 2147483647) rfl
  have b4 := eB h (i := 4) (lo := (-2147483648)) (hi := 2147483647) rfl
  have b5 := eB h (i := 5) (lo := (-2147483648)) (hi := 2147483647) rfl
  have b6 := eB h (i := 6) (lo := 0) (hi := 40) rfl
  have z0 := (h.1.2.1.2.2 2 1 (-9) (List.Mem.head _)).2.2
  have s0 := h.1.2.1.1
  have hM := hA.2.2.2
  have h8 : x8 (s, γ) := hM.1.2.1
  have hT := aTp_of (aMem_0 (aMem_to9 hM))
  have q10_0 : (γ 1010 0).toInt = σ 2 + 0 := eG h (g := 1010) (i := 0) (sy := 2) (c := 0) (by decide) (List.Mem.head _)
  have q11_1 : (γ 1011 1).toInt = σ 3 + 0 := eG h (g := 1011) (i := 1) (sy := 3) (c := 0) (by decide) (List.Mem.tail _ (List.Mem.head _))
  have q11_2 : (γ 1011 2).toInt = σ 4 + 0 := eG h (g := 1011) (i := 2) (sy := 4) (c := 0) (by decide) (List.Mem.tail _ (List.Mem.tail _ (List.Mem.head _)))
  have q11_3 : (γ 1011 3).toInt = σ 5 + 0 := eG h (g := 1011) (i := 3) (sy := 5) (c := 0) (by decide) (List.Mem.tail _ (List.Mem.tail _ (List.Mem.tail _ (List.Mem.head _))))
  have q30_0 : (γ 1030 0).toInt = σ 6 + 0 := eG h (g := 1030) (i := 0) (sy := 6) (c := 0) (by decide) (List.Mem.tail _ (List.Mem.tail _ (List.Mem.tail _ (List.Mem.tail _ (List.Mem.head _)))))
  have q30_2 : (γ 1030 2).toInt = σ 0 + 0 := eG h (g := 1030) (i := 2) (sy := 0) (c := 0) (by decide) (List.Mem.tail _ (List.Mem.tail _ (List.Mem.tail _ (List.Mem.tail _ (List.Mem.tail _ (List.Mem.head _))))))
  obtain ⟨f7_2, hf7_2, ef7_2⟩ := eF h (g := 7) (i := 2) (sy := 6) (c := 0) (by decide) (by decide) rfl (List.Mem.tail _ (List.Mem.tail _ (List.Mem.tail _ (List.Mem.tail _ (List.Mem.tail _ (List.Mem.tail _ (List.Mem.head _)))))))
  obtain ⟨f181_0, hf181_0, ef181_0⟩ := eF h (g := 181) (i := 0) (sy := 6) (c := 0) (by decide) (by decide) rfl (List.Mem.tail _ (List.Mem.tail _ (List.Mem.tail _ (List.Mem.tail _ (List.Mem.tail _ (List.Mem.tail _ (List.Mem.tail _ (List.Mem.head _))))))))
  have hS := Sh.of hT
  have hR := (aMem_x10 hM).1
  obtain ⟨n, hn⟩ : ∃ n : Nat, σ 6 = n := ⟨(σ 6).toNat, by omega⟩
  have c72 : (iv M 7 2).toInt = n := by rw [iv_of hf7_2]; omega
  have c181 : (iv M 181 0).toInt = n := by rw [iv_of hf181_0]; omega
  have hAL := AL_of hM (n := n) (by omega) (show (γ 1030 2).toInt = 0 by omega) (show (γ 1030 0).toInt = n by omega) c72 c181
  have hP : pvC M := by
    intro e he
    obtain ⟨x, x1, x2, x3⟩ := hT.int (c := 10 + e) (i := 0) (lo := 0) (hi' := 9) (gs := []) (by omega) (by show 10 + e < 242; omega) (by rw [grp10 e he]; decide) (by rw [grp10 e he]; rfl)
    obtain ⟨y, y1, y2, y3⟩ := hT.int (c := 10 + e) (i := 1) (lo := 0) (hi' := 9) (gs := []) (by omega) (by show 10 + e < 242; omega) (by rw [grp10 e he]; decide) (by rw [grp10 e he]; rfl)
    rw [iv_of x1, iv_of y1]
    exact ⟨⟨x2, x3⟩, y2⟩
  have hG : gvC M := fun e he => by have := (hP e he).1; omega
  refine kAload (mi := 282) (pc := 1055) (len := 1) (i := 1) rfl l1 ?_
  refine kArg (pc := 1056) (c := 1) (ln := 1) (ci := 1) (γ := γ) rfl rfl rfl rfl rfl rfl (by decide) (by decide) l0 hl3 hT h8 (by omega) (by omega) (by omega) (by omega) ?_
  refine kArg (pc := 1061) (c := 2) (ln := 1) (ci := 2) (γ := γ) rfl rfl rfl rfl rfl rfl (by decide) (by decide) l0 hl3 hT h8 (by omega) (by omega) (by omega) (by omega) ?_
  refine kArg (pc := 1066) (c := 3) (ln := 1) (ci := 3) (γ := γ) rfl rfl rfl rfl rfl rfl (by decide) (by decide) l0 hl3 hT h8 (by omega) (by omega) (by omega) (by omega) ?_
  have hold2 : aHold (s, γ) (fun i => if i = 1 then (γ 1011 1).toInt else if i = 2 then (γ 1011 2).toInt else if i = 3 then (γ 1011 3).toInt else 0) ct_94.2.2.2.1 (lv_args 0 [.ref 2, .int (γ 1011 1), .int (γ 1011 2), .int (γ 1011 3)]) [] M := by
    have q := mkHoldX (scr := (s, γ)) (σ := (fun i => if i = 1 then (γ 1011 1).toInt else if i = 2 then (γ 1011 2).toInt else if i = 3 then (γ 1011 3).toInt else 0)) (B := ct_94.2.2.2.1.1.1) (Z := []) (F := []) (T := []) (st := []) (M := M) (by decide) rfl ⟨b00 rfl, ⟨(i32_rng (γ 1011 1)).1, (i32_rng (γ 1011 1)).2⟩, ⟨(i32_rng (γ 1011 2)).1, (i32_rng (γ 1011 2)).2⟩, ⟨(i32_rng (γ 1011 3)).1, (i32_rng (γ 1011 3)).2⟩, True.intro⟩ True.intro True.intro True.intro hM
    refine ⟨q.1, ?_, True.intro, hM⟩
    intro i v e
    match i, e with
    | 0, e => cases e; exact Or.inr ⟨.ref 2, rfl, 2, rfl, by decide, by decide, rfl, fun hc => absurd hc (by decide)⟩
    | 1, e => cases e; exact Or.inr ⟨.int (γ 1011 1), rfl, by decide, γ 1011 1, rfl, (Int.add_zero _).symm⟩
    | 2, e => cases e; exact Or.inr ⟨.int (γ 1011 2), rfl, by decide, γ 1011 2, rfl, (Int.add_zero _).symm⟩
    | 3, e => cases e; exact Or.inr ⟨.int (γ 1011 3), rfl, by decide, γ 1011 3, rfl, (Int.add_zero _).symm⟩
    | i + 4, e => cases e
  refine kCallC (c := ct_94) (R := fun r' M' => r' = some (.long (unsC M (γ 1011 1) (γ 1011 2) (γ 1011 3))) ∧ Fx 170 174 M M') (cs_94) rfl rfl (mi := 282) (pc := 1071) (len := 3) (j := 128) rfl (Or.inr (Or.inl rfl)) (by decide) (mCall_ok (n := 4) (l := 4) (rk := 3) (own := 10) (kd := 1) (as := [.ref 2, .int (γ 1011 1), .int (γ 1011 2), .int (γ 1011 3)]) (rest := []) (by omega) (by decide) rfl rfl rfl rfl rfl rfl (Or.inr (Or.inl ⟨rfl, (tag_of hT (a := 2) (by decide) (by decide)).trans rfl⟩))) (by show 5 ≤ d - 1; omega) hold2 (fun _ _ _ _ g => unsC_en hS hR hG g) ?_
  intro r1 M1 γ1 hr1 fr1 gf1 hM1
  obtain ⟨er1, fx1⟩ := hr1
  subst er1
  have hT1 : aTp s M1 := aTp_of (aMem_0 (aMem_to9 hM1))
  have hS1 := Sh.of hT1
  have hA1 := AL_fx hAL fx1
  refine kAload (mi := 282) (pc := 1074) (len := 1) (i := 2) rfl l2 ?_
  refine kArg (pc := 1075) (c := 1) (ln := 1) (ci := 1) (γ := γ) rfl rfl rfl rfl rfl rfl (by decide) (by decide) l0 hl3 hT1 h8 (by omega) (by omega) (by omega) (by omega) ?_
  refine kArg (pc := 1080) (c := 2) (ln := 1) (ci := 2) (γ := γ) rfl rfl rfl rfl rfl rfl (by decide) (by decide) l0 hl3 hT1 h8 (by omega) (by omega) (by omega) (by omega) ?_
  refine kArg (pc := 1085) (c := 3) (ln := 1) (ci := 3) (γ := γ) rfl rfl rfl rfl rfl rfl (by decide) (by decide) l0 hl3 hT1 h8 (by omega) (by omega) (by omega) (by omega) ?_
  have hold181 : aHold (s, γ1) (fun i => if i = 1 then (γ 1011 1).toInt else if i = 2 then (γ 1011 2).toInt else if i = 3 then (γ 1011 3).toInt else 0) ct_180.2.2.2.1 (lv_args 0 [.ref 181, .int (γ 1011 1), .int (γ 1011 2), .int (γ 1011 3)]) [] M1 := by
    have q := mkHoldX (scr := (s, γ1)) (σ := (fun i => if i = 1 then (γ 1011 1).toInt else if i = 2 then (γ 1011 2).toInt else if i = 3 then (γ 1011 3).toInt else 0)) (B := ct_180.2.2.2.1.1.1) (Z := []) (F := []) (T := []) (st := []) (M := M1) (by decide) rfl ⟨b00 rfl, ⟨(i32_rng (γ 1011 1)).1, (i32_rng (γ 1011 1)).2⟩, ⟨(i32_rng (γ 1011 2)).1, (i32_rng (γ 1011 2)).2⟩, ⟨(i32_rng (γ 1011 3)).1, (i32_rng (γ 1011 3)).2⟩, True.intro⟩ True.intro True.intro True.intro hM1
    refine ⟨q.1, ?_, True.intro, hM1⟩
    intro i v e
    match i, e with
    | 0, e => cases e; exact Or.inr ⟨.ref 181, rfl, 181, rfl, by decide, by decide, rfl, fun hc => absurd hc (by decide)⟩
    | 1, e => cases e; exact Or.inr ⟨.int (γ 1011 1), rfl, by decide, γ 1011 1, rfl, (Int.add_zero _).symm⟩
    | 2, e => cases e; exact Or.inr ⟨.int (γ 1011 2), rfl, by decide, γ 1011 2, rfl, (Int.add_zero _).symm⟩
    | 3, e => cases e; exact Or.inr ⟨.int (γ 1011 3), rfl, by decide, γ 1011 3, rfl, (Int.add_zero _).symm⟩
    | 4, e => cases e; exact Or.inl rfl
    | 5, e => cases e; exact Or.inl rfl
    | 6, e => cases e; exact Or.inl rfl
    | i + 7, e => cases e
  refine kCallC (c := ct_180) (R := fun r' M' => r' = some (.long (unsC M (γ 1011 1) (γ 1011 2) (γ 1011 3))) ∧ M' = M1) (cs_180) rfl rfl (mi := 282) (pc := 1090) (len := 3) (j := 241) rfl (Or.inr (Or.inl rfl)) (by decide) (mCall_ok (n := 4) (l := 7) (rk := 3) (own := 11) (kd := 1) (as := [.ref 181, .int (γ 1011 1), .int (γ 1011 2), .int (γ 1011 3)]) (rest := [.long (unsC M (γ 1011 1) (γ 1011 2) (γ 1011 3))]) (by omega) (by decide) rfl rfl rfl rfl rfl rfl (Or.inr (Or.inl ⟨rfl, (tag_of hT1 (a := 181) (by decide) (by decide)).trans rfl⟩))) (by show 3 ≤ d - 1; omega) hold181 (fun _ _ _ _ g => unsR_cl hS1 hA1 hP g) ?_
  intro r2 M2 γ2 hr2 fr2 gf2 hM2
  obtain ⟨er2, _⟩ := hr2
  subst er2
  refine kLcmp (mi := 282) (pc := 1093) (len := 1) rfl ?_
  have e0 : lg_cmp (unsC M (γ 1011 1) (γ 1011 2) (γ 1011 3)) (unsC M (γ 1011 1) (γ 1011 2) (γ 1011 3)) = 0 := lcmp_same _
  rw [e0]
  refine k γ2 σ _ L [.int 0] M2 (List.Mem.head _) (fun _ _ => rfl) ((aFr.up (m := ct_94.2.2.2.2.2) (by decide) fr1).tr (aFr.up (m := ct_180.2.2.2.2.2) (by decide) fr2)) ((gFr.up (m := ct_94.2.2.2.2.2) (by decide) gf1).tr (gFr.up (m := ct_180.2.2.2.2.2) (by decide) gf2)) aExt.rf ?_
  exact mkHoldX (by decide) s0 ⟨b00 s0, b1, b2, b3, b4, b5, b6, True.intro⟩ True.intro True.intro ⟨⟨by decide, _, rfl, by show (0 : Int) = σ 0 + 0; omega⟩, True.intro⟩ hM2
